section MULTI2
variable {p : Program} {l : Launch} {e : Env} {R : Room} {s : State} {m : MethodId} {args : Array Value} {below : List Frame} {meth : Method} {c0 : Code} {H H0 : Heap} {locs : List Loc} {cells slots : Nat} {Q : State → Prop} {cc : ByteArray} {pc : Nat} {ls : Array Slot} {rest : List Value} {D : va_G} {cl : List vw_C} {ws : va_W} {A : Nat → Prop}
/-- the outer array at q, its rows behind it -/
def mrW (cO cI : ClassId) (N M q : Nat) : va_W := (q, .inl (cO, N, .inr (.inr (.inr (.inr (fun j => if j < N then some (q + 1 + j) else none)))))) :: (List.range N).map (fun j => (q + 1 + j, .inl (cI, M, .inl (fun _ => 0))))
theorem mrW_at {cO cI : ClassId} {N M q k : Nat} {x : Nat × va_E} (h : (mrW cO cI N M q)[k]? = some x) : x.1 = q + k ∧ ((k = 0 ∧ x = (q, .inl (cO, N, .inr (.inr (.inr (.inr (fun j => if j < N then some (q + 1 + j) else none))))))) ∨ ∃ j, k = j + 1 ∧ j < N ∧ x = (q + 1 + j, .inl (cI, M, .inl (fun _ => 0)))) := by
  cases k with
  | zero => cases h; exact ⟨rfl, Or.inl ⟨rfl, rfl⟩⟩
  | succ j =>
    have h : ((List.range N).map (fun j => ((q + 1 + j, .inl (cI, M, .inl (fun _ => 0))) : Nat × va_E)))[j]? = some x := h
    rw [List.getElem?_map] at h
    have hj : j < N := by
      rcases Nat.lt_or_ge j N with z | z
      · exact z
      · rw [List.getElem?_eq_none (by rw [List.length_range]; exact z)] at h; cases h
    rw [List.getElem?_range hj] at h
    cases h
    exact ⟨by show q + 1 + j = q + (j + 1); omega, Or.inr ⟨j, rfl, hj, rfl⟩⟩
theorem va_newm (hexec : p.tables.exec = Jvm.exec) (hb : c0.code = cc) {own : String} {index : Nat} (hown : s.vm.findClass own = some m.cls) (hclink : (Cond.classLink own index "[[I").before args s = true) (hover : (Cond.arrayOver (.array .int)).before args s = true) (harr : (Cond.arrayClass .int).before args s = true)
    (hP : va_P D cl ws H) (hD : va_D A ws) (hS : va_S A H0 H locs) (hA : ∀ q, H0.size ≤ q → A q) {n k : Int32} {N M : Nat} (hn : ¬ n < 0) (hk : ¬ k < 0) (hN : n.toNatClampNeg = N) (hM : k.toNatClampNeg = M) (hl1 : N * 4 ≤ 536870912) (hl2 : M * 4 ≤ 536870912) (hcells : cells + (1 + N) ≤ R.cells) (hslots : slots + (N + N * M) ≤ R.slots) (hdg : decode cc pc = .ok (.multianewarray index 2, 4))
    (kk : ∀ (q : Nat) (cO cI : ClassId) (H1 : Heap) (locs1 : List Loc), s.vm.findClass "[[I" = some cO → s.vm.findClass "[I" = some cI → va_P D cl (ws ++ mrW cO cI N M q) H1 → va_D A (ws ++ mrW cO cI N M q) → va_S A H0 H1 locs1 →
      W p l e R s m args below meth c0 H1 locs1 (cells + (1 + N)) (slots + (N + N * M)) Q (F0 m (pc + 4) ls (.ref q :: rest))) : W p l e R s m args below meth c0 H locs cells slots Q (F0 m pc ls (.int k :: .int n :: rest)) := by
  intro T hT X
  subst hT; subst hb; subst hN; subst hM
  have hpl : e.platform.magicAccessors = ({} : Platform).magicAccessors := by rw [X.admits.platform]
  obtain ⟨comp, cO, kO, hcomp, -, hkO, hkindO, hnameO⟩ := arrayOverA_spec hover
  obtain ⟨comp', kI, ci, hcomp', hkI, hkindI⟩ := Cond.arrayClass_spec harr
  cases Option.some.inj (hcomp'.symm.trans hcomp)
  obtain ⟨c1, hfc1, hcl⟩ := Cond.classLink_spec hown hclink e.platform hpl
  cases Option.some.inj (hnameO.symm.trans hfc1)
  obtain ⟨hg1, hwarm1, hready1⟩ := State.classEntry (e := e) X.warmed hcl
  have hg1 : (Jvm.resolveClass (F0 m pc ls (.int k :: .int n :: rest)).method.cls index).Gives e.toSetting T.vm (.ok cO) (T.vm.noted m.cls index (.cls cO)) := hg1
  generalize T.vm.noted m.cls index (.cls cO) = vm1 at hg1 hwarm1 hready1
  obtain ⟨kO1, hkO1, heO⟩ := hwarm1.alike.2.2 _ _ hkO
  obtain ⟨kI1, hkI1, heI⟩ := hwarm1.alike.2.2 _ _ hkI
  have hkindO1 : kO1.kind = .array comp (.array .int) := by rw [heO]; exact hkindO
  have hkindI1 : kI1.kind = .array ci .int := by rw [heI]; exact hkindI
  have X1 := X.noted hwarm1
  obtain ⟨hr1, hr2⟩ := X.roomAbove hcells hslots
  have hJ := mrJ_all (cO := cO) (cI := comp) (M := k.toNatClampNeg) X1 n.toNatClampNeg (Nat.le_refl _)
  generalize hu : mrU (T.setVm vm1) cO comp n.toNatClampNeg k.toNatClampNeg n.toNatClampNeg = u at hJ
  obtain ⟨⟨L, hL, XL⟩, a1, a2, a3, a4, a5, a6⟩ := hJ
  have a1 : u.heap.size = T.heap.size + 1 + n.toNatClampNeg := a1
  have hold : ∀ q : Nat, q < T.heap.size → u.heap[q]? = T.heap[q]? := a4
  have hPn : va_P D cl (ws ++ mrW cO comp n.toNatClampNeg k.toNatClampNeg T.heap.size) u.heap := by
    refine (hP.kept (fun i x hx => hold x.1 (hP i x hx).lt)).app (fun i x hx => ?_)
    obtain ⟨-, ⟨-, rfl⟩ | ⟨j, -, hj, rfl⟩⟩ := mrW_at hx
    · show u.heap[T.heap.size]? = some (vp_cell _ _)
      rw [vp_cell_q]
      refine (show u.heap[T.heap.size]? = _ from a2).trans ?_
      congr 2
      funext j
      show (if j < n.toNatClampNeg then Value.ref (T.heap.size + 1 + j) else .null) = va_rf (if j < n.toNatClampNeg then some (T.heap.size + 1 + j) else none)
      split <;> rfl
    · show u.heap[T.heap.size + 1 + j]? = some (vp_cell _ _)
      rw [vp_cell_i]
      exact a3 j hj
  have hDn : va_D A (ws ++ mrW cO comp n.toNatClampNeg k.toNatClampNeg T.heap.size) := by
    have key : ∀ (i : Nat) (x : Nat × va_E), (ws ++ mrW cO comp n.toNatClampNeg k.toNatClampNeg T.heap.size)[i]? = some x → (ws[i]? = some x ∧ i < ws.length ∧ x.1 < T.heap.size) ∨ (ws.length ≤ i ∧ x.1 = T.heap.size + (i - ws.length)) := by
      intro i x hx
      by_cases hlw : i < ws.length
      · rw [List.getElem?_append_left hlw] at hx
        exact Or.inl ⟨hx, hlw, (hP i x hx).lt⟩
      · rw [List.getElem?_append_right (by omega)] at hx
        exact Or.inr ⟨by omega, (mrW_at hx).1⟩
    refine ⟨fun i j x y hx hy hxy => ?_, fun i x hx => ?_⟩
    · rcases key i x hx with ⟨x1, x2, x3⟩ | ⟨x1, x2⟩ <;> rcases key j y hy with ⟨y1, y2, y3⟩ | ⟨y1, y2⟩
      · exact hD.1 i j x y x1 y1 hxy
      · omega
      · omega
      · omega
    · rcases key i x hx with ⟨x1, x2, x3⟩ | ⟨x1, x2⟩
      · exact hD.2 i x x1
      · exact hA _ (by have := hS.1; omega)
  have hSn : va_S A H0 u.heap L := ⟨by have := hS.1; omega, fun q h1 h2 => (hold q (Nat.lt_of_lt_of_le h1 hS.1)).trans (hS.2.1 q h1 h2), fun q hq => by
    rcases hL q hq with h | h
    · exact hS.2.2 q h
    · rw [h]; exact hA _ hS.1⟩
  obtain ⟨t, b1, b2⟩ := kk T.heap.size cO comp u.heap L hnameO hcomp hPn hDn hSn u rfl (by rw [← Nat.add_assoc, ← Nat.add_assoc]; exact XL)
  refine ⟨t, ?_, b2⟩
  jvm_step X.here [hexec, hdg]
  simp only [multianewarray.sem, wp_bind', W.resolveClassAt_links (State.method?_setTop (F0 m pc ls (.int k :: .int n :: rest)) X.here.top) hg1]
  rw [W.popN, if_neg (by decide)]
  refine ⟨F0 m pc ls (.int k :: .int n :: rest), State.topJava?_setTop' (s := T.setVm vm1) (F0 m pc ls (.int k :: .int n :: rest)) X.here.top, [.int n, .int k], rest, rfl, rfl, ?_⟩
  simp only [List.mapM_cons, List.mapM_nil, wp_bind', wp_pure']
  have eS : ((T.setTop (F0 m pc ls (.int k :: .int n :: rest))).setVm vm1).setTop (F0 m pc ls rest) = (T.setVm vm1).setTop (F0 m pc ls rest) := by
    show ((T.setVm vm1).setTop (F0 m pc ls (.int k :: .int n :: rest))).setTop _ = _
    rw [State.setTop_setTop]
  show wp _ _ _ _ _ _ (((T.setTop (F0 m pc ls (.int k :: .int n :: rest))).setVm vm1).setTop (F0 m pc ls rest))
  rw [eS]
  refine mr_wp X1 hkO1 hkindO1 hkI1 hkindI1 hn hk hl1 hl2 (by show T.heap.size + 1 + _ ≤ _; omega) (by show T.slotsUsed + _ + _ ≤ _; omega) (fun d' acts' => ?_)
  rw [hu]
  simp only [wp_bind', W.mark, W.pushRef, State.topJava?_setTop' _ XL.here.top, Option.some.injEq, exists_eq_left', State.setTop_setTop]
  intro acts
  simp [jvm, XL.here.top]
  exact b1
end MULTI2
