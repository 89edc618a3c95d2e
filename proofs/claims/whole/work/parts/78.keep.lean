def R_law : String := "HostPackerLaw"
def lw_P (b : Addr) (xs : List Int32) (args : Array Value) (s : State) : Prop := args = #[.ref b] ∧ s.IntsAt b xs ∧ xs.length ≤ 4608 ∧ (Jvm.Cond.and given_1 narrow_1).before args s = true
def lw_Q (_ : Array Value) (s : State) (o : Outcome) (t : State) : Prop := o = .returned (some (.int 1)) ∧ Framed s o t [] 600000 7302250
def lw_Z (below : List Frame) (a : Array Value) (s : State) : State → Prop := fun t => ∃ o, t.status = .running ∧ Ended t below o ∧ lw_Q a s o t
/-- the law's own end, with 1 on the stack, nothing written that was there before, its room as the claim has it -/
theorem lw_ret {p : Program} {l : Launch} {e : Env} {s : State} {m : MethodId} {below : List Frame} {meth : Method} {c : Code} {b : Nat} (hx : p.tables.exec = Jvm.exec) (hb : c.code = code) (hr : meth.sig.returnType = ret) (hlocks : meth.locks = false) {pc : Nat} {H : Heap} {ls : Array Slot} (hdg : decode code pc = .ok (.ireturn, 1)) : W p l e room_1 s m #[Value.ref b] below meth c H [] 600000 7302250 (lw_Z below #[Value.ref b] s) (F0 m pc ls [.int 1]) := by
  intro T hT X
  obtain ⟨fs, hret, hrun, hended, hW, hframe⟩ := X.leave (v := some (.int 1)) (hlocks := hlocks) (fun h => by rw [hr] at h; cases h)
  have hmeth' : T.vm.method? m = some meth := X.method'
  refine ⟨T.setFrames fs, ?_, .returned (some (.int 1)), hrun, hended, rfl, ⟨_, rfl⟩, hW, hframe⟩
  jvm_step X.here [X.here.top, hx, hb, hdg, hmeth', hr, ret, narrow_b1]
  (try refine ⟨rfl, ?_⟩); (try refine ⟨rfl, ?_⟩)
  first | (intro acts; rw [hret _ acts rfl rfl rfl]) | rw [hret _ _ rfl rfl rfl]
  exact Steps.refl _
/-- what holds at the law's entry: the machine, the code, the tables' words (any of lw_tbl by 'hts w (by decide +kernel)'), the script of L ints xs at the cell b, what the Statement gives of the start (any of its parts by flat_of_before) -/
def lw_At (p : Program) (s : State) (m : MethodId) (meth : Method) (c : Code) (b L : Nat) (xs : Nat → Int32) : Prop :=
  p.tables.exec = Jvm.exec ∧ c.code = code ∧ meth.sig.returnType = ret ∧ c.maxLocals = 4 ∧ s.vm.findClass R_law = some m.cls ∧ (∀ w ∈ lw_tbl, w.before #[Value.ref b] s = true) ∧ va_X b L xs s s.heap ∧ b < s.heap.size ∧ meth.locks = false ∧ (Jvm.Cond.and given_1 narrow_1).before #[Value.ref b] s = true
/-! ===== BETWEEN THE LAW'S CALLS: both sides ===== -/
def INV (σ τ : St) (nh nj : Nat) (stk : List (Nat → Int32)) (T : Nat) : Prop := CL σ (τ 1) nh nj stk T ∧ KR (τ 2) stk ∧ τ 0 0 = nI stk.length ∧ STP (σ 0 9) (σ 27) (σ 28) (τ 0 6) (τ 10) (τ 11) ∧ σ 0 16 = τ 0 3
def INVx (σ τ : St) (T : Nat) : Prop := ∃ nh nj stk, INV σ τ nh nj stk T
section INVS
variable {σ τ σ' τ' : St} {nh nj nh' nj' T T' : Nat} {stk stk' : List (Nat → Int32)} {v' : Nat → Int32}
theorem INV.mono (h : INV σ τ nh nj stk T) : INVx σ τ (T + 24) := ⟨nh, nj, stk, h.1.mono (by omega), h.2⟩
theorem INV.mf (h : INV σ τ nh nj stk T) : mF (τ 1) nh nj := h.1.2.1.1
theorem INV.zr (h : INV σ τ nh nj stk T) : Zr (τ 1) := h.1.2.1.2.1
theorem INV.zs (h : INV σ τ nh nj stk T) : ∀ w ∈ stk, Zr w := fun w hw => (h.1.2.2.2.2.1 w hw).1.2.1
theorem INV.U (h : INV σ τ nh nj stk T) : ∀ x, x < nh → eM (τ 1) 4 x = 0 ∨ eM (τ 1) 4 x = 1 := fun x hx => (h.1.2.1.2.2.1.2.2.1 x hx).2.1
theorem INV.kp (h : INV σ τ nh nj stk T) (hx : CL σ' v' nh' nj' stk' T') (kx : keepX σ σ') (h1 : τ' 1 = v') (h2 : KR (τ' 2) stk') (h3 : τ' 0 0 = nI stk'.length) (km : keepM τ τ') : INVx σ' τ' T' := by
  obtain ⟨k1, k2, k3, k4⟩ := kx
  obtain ⟨m1, m2, m3, m4⟩ := km
  exact ⟨nh', nj', stk', by rw [h1]; exact hx, h2, h3, by rw [k1, k2, k3, m2, m3, m4]; exact h.2.2.2.1, by rw [k4, m1]; exact h.2.2.2.2⟩
theorem INV.up {o : Option (Nat → Int32)} (h : INV σ τ nh nj stk T) (hx : CL σ' (o.getD (τ 1)) nh' nj' (nxS stk (τ 1) o) T') (kx : keepX σ σ') (hm : MP τ τ' stk o) : INVx σ' τ' T' := h.kp hx kx hm.1 hm.2.1 hm.2.2.1 hm.2.2.2
end INVS
theorem iV_5 {k : Nat} (hk : 5 ≤ k) : iV k = 0 := by
  unfold iV
  rw [upn (by omega), upn (by omega), upn (by omega)]
theorem INV_0 : INVx iX iM 0 := by
  have nz : ∀ {x : Nat} {P : Prop}, x < 0 → P := fun h => absurd h (Nat.not_lt_zero _)
  refine ⟨0, 0, [], ⟨⟨⟨rfl, rfl⟩, rfl, ⟨fun x hx => nz hx, fun x hx => nz hx⟩, fun x hx => nz hx, fun x hx => nz hx, ?_⟩, ⟨⟨by omega, by omega, rfl, rfl, fun x hx => nz hx⟩, fun k hk => iV_5 (by omega), ⟨by omega, by omega, fun x hx => nz hx, fun x hx => nz hx⟩, ⟨fun x hx => nz hx, fun x hx => nz hx⟩, fun x hx => nz hx, fun x hx => nz hx, fun x hx => nz hx, fun x hx => nz hx, 0, rfl, Nat.le_refl _, fun x hx => nz hx⟩, ⟨fun x hx => nz hx, fun x hx g hg => ⟨rfl, rfl, rfl⟩⟩, ⟨0, by omega, rfl, rfl, Nat.zero_le _, fun i w h => by simp at h⟩, ⟨fun w h => by simp at h, List.Pairwise.nil⟩⟩, ⟨by simp, fun i w h => by simp at h⟩, rfl, ⟨0, by omega, rfl, rfl, fun x hx => nz hx⟩, rfl⟩
  intro i hi
  rcases (show i = 0 ∨ i = 1 ∨ i = 2 by omega) with rfl | rfl | rfl <;> rfl
