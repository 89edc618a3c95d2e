/-! ===== CONSTRUCTORS: from cells to cells ===== -/
def ev_n4 : Cond := .methodLinkNest RX10 9 yX5_init RX10
def ev_n5 : Cond := .methodLinkNest RX10 18 yX6_init RX10
def ev_C (E : EV) (U : State) : Prop := ev_K E U ∧ va_Nw ev_n4 U ∧ va_Nw ev_n5 U ∧ va_AOA .int U
theorem ev_C.warm {E : EV} {s U : State} (hW : s.WarmedH U.vm) (h : ev_C E s) : ev_C E U :=
  ⟨h.1.warm hW, va_Nw.warmM hW h.2.1, va_Nw.warmM hW h.2.2.1, over_moved hW.alike h.2.2.2⟩
theorem ev_C.same {E : EV} {u U : State} (hv : u.vm = U.vm) (h : ev_C E u) : ev_C E U :=
  ⟨h.1.same hv, va_Nw.same rfl hv h.2.1, va_Nw.same rfl hv h.2.2.1, over_moved (by rw [hv]; exact Vm.Alike.refl _) h.2.2.2⟩
def PreK (E : EV) (av : List Value) (ws : va_W) (sz : Nat) : Array Value → State → Prop := va_Pc av (fun U => U.heap.size = sz ∧ va_P E.1 vwCl ws U.heap ∧ ev_C E U ∧ va_D (fun _ => True) ws)
/-- a constructor's contract: from the cells ws to the cells out q (q: the addresses) -/
def MK (l : Launch) (E : EV) (y : MethodName) (w0 : Cond) (rm : Room) (av : List Value) (ws : va_W) (po : (Nat → Nat) → Prop) (out : (Nat → Nat) → va_W) (mc ms : Nat) : Prop :=
  ∀ sz : Nat, Met l y (w0 :: tw) rm (PreK E av ws sz) (va_Qv po (fun (q : Nat → Nat) t => va_P E.1 vwCl (out q) t.heap ∧ va_D (va_A ws sz) (out q)) (va_A ws sz)) mc ms (va_A ws sz)
def Ctk (E : EV) (p : Program) (s : State) (m : MethodId) (args : Array Value) (meth : Method) (c : Code) (cc : ByteArray) (nL : Nat) (own : String) (A : Nat → Prop) : Prop :=
  p.tables.exec = Jvm.exec ∧ c.code = cc ∧ c.maxLocals = nL ∧ s.vm.findClass own = some m.cls ∧ (∀ w ∈ tw, w.before args s = true) ∧ ev_C E s ∧ (∀ q, s.heap.size ≤ q → A q) ∧ (own ≠ "HostPackerLaw" → meth.name = "<init>")
def Wk (E : EV) (ws : va_W) (A : Nat → Prop) (H0 H : Heap) (locs : List Loc) : Prop := va_P E.1 vwCl ws H ∧ va_D A ws ∧ va_S A H0 H locs
theorem MK.mk {l : Launch} {E : EV} {y : MethodName} {cc : ByteArray} {nL : Nat} {rm : Room} {av : List Value} {ws : va_W} {po : (Nat → Nat) → Prop} {out : (Nat → Nat) → va_W} {mc ms : Nat} (hy : plainName y.cls = true) (hn : (lg_sl av).length ≤ nL) (hname : y.name = "<init>")
    (h : ∀ (p : Program) (e : Env) (s : State) (m : MethodId) (args : Array Value) (below : List Frame) (meth : Method) (c : Code) (ls : Array Slot) (A : Nat → Prop) (Q : State → Prop), (∀ (q : Nat → Nat) (H : Heap) (locs : List Loc) (ls : Array Slot) (pc cells slots : Nat), Wk E (out q) A s.heap H locs → po q → cells ≤ mc → slots ≤ ms → decode cc pc = .ok (.return_, 1) → W p l e rm s m args below meth c H locs cells slots Q (F0 m pc ls [])) →
      Ctk E p s m args meth c cc nL y.cls A → Wk E ws A s.heap s.heap [] → lv_has ls nL (lv_args 0 av) → W p l e rm s m args below meth c s.heap [] 0 0 Q (F0 m 0 ls [])) : MK l E y (Cond.code y cc nL none) rm av ws po out mc ms := by
  intro sz
  refine Met.ofW (cc := cc) (maxL := nL) (ret := none) hy rfl ?_
  intro p e s m args below meth c s₁ B hml hv
  obtain ⟨rfl, hsz, hP, hK, hD0⟩ := hv
  have hts := atoms_spec (ws := Cond.code y cc nL none :: tw) B.pre
  have hown : s.vm.findClass y.cls = some m.cls := findClass_of_methodNamed B.named
  have hin : meth.name = "<init>" := (name_of_methodNamed B.named B.method).1.trans hname
  subst hsz
  have hl := lv_entry av (n := nL) hn
  rw [lg_entry_eq]
  have hr := B.returns
  have hlk := B.notSynchronized
  have hx := B.exec
  have hb := B.bytes
  refine h p e s m _ below meth c _ (va_A ws s.heap.size) _ (fun q H locs ls pc cells slots hw hp h1 h2 hdg => ?_) ⟨hx, hb, hml, hown, fun w hw => hts w (List.mem_cons_of_mem _ hw), hK, fun q h => Or.inr h, fun _ => hin⟩ ⟨hP, hD0.self, va_S.rf⟩ hl
  refine W.widen h1 h2 ?_
  exact W.vret hx hb hr (fun t ht hW => ⟨⟨q, rfl, hp, by rw [ht]; exact hw.1, hw.2.1⟩, hw.2.2.F ht⟩) hw.2.2.2.2 hdg hlk
theorem fm_of_map {α β : Type} {f : α → Option β} : ∀ {is : List α} {w : List β}, is.map f = w.map some → is.filterMap f = w
  | [], [], _ => rfl
  | [], _ :: _, h => by cases h
  | _ :: _, [], h => by cases h
  | i :: is, x :: w, h => by
    rw [List.map_cons, List.map_cons] at h
    obtain ⟨h1, h2⟩ := List.cons.inj h
    rw [List.filterMap_cons, h1, fm_of_map h2]
section KC
variable {p : Program} {l : Launch} {e : Env} {R : Room} {s : State} {m : MethodId} {args : Array Value} {below : List Frame} {meth : Method} {c : Code} {H : Heap} {locs : List Loc} {cells slots : Nat} {Q : State → Prop} {E : EV} {A : Nat → Prop} {cc : ByteArray} {nL pc : Nat} {own : String} {ls : Array Slot} {rest : List Value} {ws : va_W}
theorem k_obj {idx a : Nat} (hC : Ctk E p s m args meth c cc nL own A) (hl : ls.size = nL) (w1 : Cond.methodLink own idx Lib.objectInit ∈ tw) (w2 : Cond.instanceMethod Lib.objectInit ∈ tw) (w3 : Cond.code Lib.objectInit ⟨#[0xb1]⟩ 1 none ∈ tw) (hf : 1 ≤ R.frames) (hlo : 2 * 0 + 0 + 12 ≤ R.locals) (hdg : decode cc pc = .ok (.invokespecial idx, 3))
    (kk : W p l e R s m args below meth c H locs cells slots Q (F0 m (pc + 3) ls [])) : W p l e R s m args below meth c H locs cells slots Q (F0 m pc ls [.ref a]) :=
  W.objInit hC.1 hC.2.1 hC.2.2.2.1 (hC.2.2.2.2.1 _ w1) (hC.2.2.2.2.1 _ w2) (hC.2.2.2.2.1 _ w3) rfl (by rw [hC.2.2.1]; exact hl) rfl hdg hf hlo kk
theorem k_ra {tys : List (ClassId × FieldType)} {D : va_G} {cl : List vw_C} {cA : ClassId} {ty : FieldType} (h : va_K D cl (tys ++ [(cA, ty)]) s) : va_RA s cA ty := (h.2 tys.length (cA, ty) (by rw [List.getElem?_append_right (Nat.le_refl _), Nat.sub_self]; rfl)).2
theorem k_newi {n : Nat} (hC : Ctk E p s m args meth c cc nL own A) (hw : Wk E ws A s.heap H locs) (w1 : Cond.arrayClass .int ∈ tw) (hn : n < 2 ^ 31) (hb : n * 4 ≤ 536870912) (hcells : cells + 1 ≤ R.cells) (hslots : slots + n ≤ R.slots) (hdg : decode cc pc = .ok (.newarray .int, 2))
    (kk : ∀ (q : Nat) (H : Heap), Wk E (ws ++ [(q, .inl (E.2.1.1, n, .inl (fun _ => 0)))]) A s.heap H locs → W p l e R s m args below meth c H locs (cells + 1) (slots + n) Q (F0 m (pc + 2) ls (.ref q :: rest))) : W p l e R s m args below meth c H locs cells slots Q (F0 m pc ls (.int (nI n) :: rest)) := by
  have hK := hC.2.2.2.2.2.1.1.1
  refine va_newa (atype := .int) (ty := .int) (N' := n) (a0 := (n, .inl (fun _ => 0))) (tys := ev_t E) hC.1 hC.2.1 (hC.2.2.2.2.1 _ w1) rfl hK hw.1 hw.2.1 hw.2.2 hC.2.2.2.2.2.2.1 (fun cA => rfl) (nI_pos hn) (nI_clamp hn) hb hcells hslots hdg (fun q cA H1 hK1 hP hD hS => ?_)
  have e1 : s.vm.findClass _ = some cA := k_ra hK1
  have e2 : s.vm.findClass _ = some E.2.1.1 := (hK.2 0 _ rfl).2
  obtain rfl : cA = E.2.1.1 := Option.some.inj (e1.symm.trans e2)
  exact kk q H1 ⟨hP, hD, hS⟩
theorem k_newz {n : Nat} (hC : Ctk E p s m args meth c cc nL own A) (hw : Wk E ws A s.heap H locs) (w1 : Cond.arrayClass .boolean ∈ tw) (hn : n < 2 ^ 31) (hb : n * 1 ≤ 536870912) (hcells : cells + 1 ≤ R.cells) (hslots : slots + n ≤ R.slots) (hdg : decode cc pc = .ok (.newarray .boolean, 2))
    (kk : ∀ (q : Nat) (H : Heap), Wk E (ws ++ [(q, .inl (E.2.1.2.1, n, .inl (fun _ => 0)))]) A s.heap H locs → W p l e R s m args below meth c H locs (cells + 1) (slots + n) Q (F0 m (pc + 2) ls (.ref q :: rest))) : W p l e R s m args below meth c H locs cells slots Q (F0 m pc ls (.int (nI n) :: rest)) := by
  have hK := hC.2.2.2.2.2.1.1.1
  refine va_newa (atype := .boolean) (ty := .boolean) (N' := n) (a0 := (n, .inl (fun _ => 0))) (tys := ev_t E) hC.1 hC.2.1 (hC.2.2.2.2.1 _ w1) rfl hK hw.1 hw.2.1 hw.2.2 hC.2.2.2.2.2.2.1 (fun cA => rfl) (nI_pos hn) (nI_clamp hn) hb hcells hslots hdg (fun q cA H1 hK1 hP hD hS => ?_)
  have e1 : s.vm.findClass _ = some cA := k_ra hK1
  have e2 : s.vm.findClass _ = some E.2.1.2.1 := (hK.2 1 _ rfl).2
  obtain rfl : cA = E.2.1.2.1 := Option.some.inj (e1.symm.trans e2)
  exact kk q H1 ⟨hP, hD, hS⟩
theorem k_newm {n k index : Nat} (hC : Ctk E p s m args meth c cc nL own A) (hw : Wk E ws A s.heap H locs) (w1 : Cond.arrayClass .int ∈ tw) (w2 : Cond.classLink own index "[[I" ∈ tw) (hn : n < 2 ^ 31) (hk : k < 2 ^ 31) (hb1 : n * 4 ≤ 536870912) (hb2 : k * 4 ≤ 536870912) (hcells : cells + (1 + n) ≤ R.cells) (hslots : slots + (n + n * k) ≤ R.slots) (hdg : decode cc pc = .ok (.multianewarray index 2, 4))
    (kk : ∀ (q : Nat) (H : Heap) (locs : List Loc), Wk E (ws ++ mrW E.2.1.2.2 E.2.1.1 n k q) A s.heap H locs → W p l e R s m args below meth c H locs (cells + (1 + n)) (slots + (n + n * k)) Q (F0 m (pc + 4) ls (.ref q :: rest))) : W p l e R s m args below meth c H locs cells slots Q (F0 m pc ls (.int (nI k) :: .int (nI n) :: rest)) := by
  have hK := hC.2.2.2.2.2.1.1.1
  refine va_newm (N := n) (M := k) hC.1 hC.2.1 hC.2.2.2.1 (hC.2.2.2.2.1 _ w2) (va_AOA.use hC.2.2.2.2.2.1.2.2.2) (hC.2.2.2.2.1 _ w1) hw.1 hw.2.1 hw.2.2 hC.2.2.2.2.2.2.1 (nI_pos hn) (nI_pos hk) (nI_clamp hn) (nI_clamp hk) hb1 hb2 hcells hslots hdg (fun q cO cI H1 locs1 e1 e2 hP hD hS => ?_)
  have f1 : s.vm.findClass "[I" = some E.2.1.1 := (hK.2 0 _ rfl).2
  have f2 : s.vm.findClass "[[I" = some E.2.1.2.2 := (hK.2 2 _ rfl).2
  obtain rfl : cI = E.2.1.1 := Option.some.inj (e2.symm.trans f1)
  obtain rfl : cO = E.2.1.2.2 := Option.some.inj (e1.symm.trans f2)
  exact kk q H1 locs1 ⟨hP, hD, hS⟩
theorem k_new {C : String} {T : u_T} {N ci index : Nat} {fs : List Value} (ty : Nat → FieldType) (hty : ∀ k, k < N → parseFieldDescriptor (T k).2.2.1 = some (ty k)) (hin : ∀ w ∈ u_ws C T N, w ∈ tw) (hc : vwCl[ci]? = some (C, T, N)) (w1 : Cond.classLink own index C ∈ tw) (w2 : Cond.instantiable C N ∈ tw) (w3 : Cond.initialized C ∈ tw) (hfs : ∀ j, j < N → defaultValue (ty j) = vp_V fs j)
    (hC : Ctk E p s m args meth c cc nL own A) (hw : Wk E ws A s.heap H locs) (hcells : cells + 1 ≤ R.cells) (hslots : slots + N ≤ R.slots) (hdg : decode cc pc = .ok (.new index, 3))
    (kk : ∀ (q : Nat) (H : Heap), Wk E (ws ++ [(q, .inr (ci, fs))]) A s.heap H locs → W p l e R s m args below meth c H locs (cells + 1) (slots + N) Q (F0 m (pc + 3) ls (.ref q :: rest))) : W p l e R s m args below meth c H locs cells slots Q (F0 m pc ls rest) :=
  va_new (ci := ci) (fs := fs) (tys := ev_t E) hC.1 hC.2.1 hC.2.2.2.2.1 hin ty hty hC.2.2.2.1 (hC.2.2.2.2.1 _ w1) (hC.2.2.2.2.1 _ w2) (hC.2.2.2.2.1 _ w3) hC.2.2.2.2.2.1.1.1 hw.1 hw.2.1 hw.2.2 hC.2.2.2.2.2.2.1 hc hfs hcells hslots hdg (fun q H1 h1 h2 h3 => kk q H1 ⟨h1, h2, h3⟩)
theorem k_put {C : String} {T : u_T} {N ci index a x : Nat} (q0 : Nat) {fs : List Value} (k : Nat) (ty0 : Nat → FieldType) {ty : FieldType} (he : ws[q0]? = some (a, .inr (ci, fs))) (hc : vwCl[ci]? = some (C, T, N)) (hk : k < N) (hlink : Cond.fieldLink own index (T k).1 (T k).2.1 (T k).2.2.1 ∈ tw) (hin : ∀ w ∈ u_ws C T N, w ∈ tw)
    (hty : ∀ k, k < N → parseFieldDescriptor (T k).2.2.1 = some (ty0 k)) (hnm : ∀ a, a < N → ∀ b, b < N → a ≠ b → (T a).2.1 ≠ (T b).2.1) (hfin : (T k).2.2.2 = true) (hdecl : (T k).1 = own) (hd : parseFieldDescriptor (T k).2.2.1 = some ty) (hn : narrow ty (.ref x) = .ref x) (hfit : fits ty (.ref x) = true) (hl : k < fs.length) (hnl : own ≠ "HostPackerLaw")
    (hC : Ctk E p s m args meth c cc nL own A) (hw : Wk E ws A s.heap H locs) (hdg : decode cc pc = .ok (.putfield index, 3))
    (kk : ∀ (H1 : Heap) (locs1 : List Loc), Wk E (ws.set q0 (a, .inr (ci, fs.set k (.ref x)))) A s.heap H1 locs1 → W p l e R s m args below meth c H1 locs1 cells slots Q (F0 m (pc + 3) ls rest)) : W p l e R s m args below meth c H locs cells slots Q (F0 m pc ls (.ref x :: .ref a :: rest)) :=
  va_putF (tys := ev_t E) hC.1 hC.2.1 hC.2.2.2.2.1 hin ty0 hty hnm hC.2.2.2.1 hC.2.2.2.2.2.1.1.1 hw.1 hw.2.1 hw.2.2 q0 he hc k hk (hC.2.2.2.2.1 _ hlink) (fun _ h => h) hfin (hC.2.2.2.2.2.2.2 hnl) hdecl hd hn hfit hl hdg (fun H1 locs1 h1 h2 h3 => kk H1 locs1 ⟨h1, h2, h3⟩)
theorem k_get {C : String} {T : u_T} {N ci index a : Nat} (q0 : Nat) {fs : List Value} (k : Nat) {v : Value} (he : ws[q0]? = some (a, .inr (ci, fs))) (hc : vwCl[ci]? = some (C, T, N)) (hk : k < N) (hlink : Cond.fieldLink own index (T k).1 (T k).2.1 (T k).2.2.1 ∈ tw) (hin : ∀ w ∈ u_ws C T N, w ∈ tw) (hv : fs[k]? = some v)
    (hC : Ctk E p s m args meth c cc nL own A) (hw : Wk E ws A s.heap H locs) (hdg : decode cc pc = .ok (.getfield index, 3))
    (kk : W p l e R s m args below meth c H locs cells slots Q (F0 m (pc + 3) ls (v :: rest))) : W p l e R s m args below meth c H locs cells slots Q (F0 m pc ls (.ref a :: rest)) :=
  va_get (tys := ev_t E) hC.1 hC.2.1 hC.2.2.2.2.1 hin hC.2.2.2.1 hC.2.2.2.2.2.1.1.1 hw.1 q0 he hc k hk (hC.2.2.2.2.1 _ hlink) (fun _ h => h) hv hdg kk
theorem k_iast {n a i : Nat} {x : Int32} {f : Nat → Int32} (q0 : Nat) (ha : ws[q0]? = some (a, .inl (E.2.1.1, n, .inl f))) (hn : n < 2 ^ 31)
    (hC : Ctk E p s m args meth c cc nL own A) (hw : Wk E ws A s.heap H locs) (hi : i < n) (hdg : decode cc pc = .ok (.iastore, 1))
    (kk : ∀ (H1 : Heap) (locs1 : List Loc), Wk E (ws.set q0 (a, .inl (E.2.1.1, n, .inl (upd f i x)))) A s.heap H1 locs1 → W p l e R s m args below meth c H1 locs1 cells slots Q (F0 m (pc + 1) ls rest)) : W p l e R s m args below meth c H locs cells slots Q (F0 m pc ls (.int x :: .int (nI i) :: .ref a :: rest)) :=
  va_iast hC.1 hC.2.1 hC.2.2.2.2.2.1.1.1 hw.1 hw.2.1 hw.2.2 q0 0 ha rfl (vp_in_nI hi hn) hdg (fun H1 locs1 h1 h2 h3 => by
    rw [nI_clamp (Nat.lt_trans hi hn)] at h1 h2
    exact kk H1 locs1 ⟨h1, h2, h3⟩)
theorem pre_blindK {E : EV} {av : List Value} {ws : va_W} {sz : Nat} : FrameBlind (PreK E av ws sz) := by
  intro a U g mk h
  obtain ⟨h0, h1, h2, h3, h4⟩ := h
  exact ⟨h0, h1, h2, h3.same rfl, h4⟩
theorem k_pre {wc : va_W} {av : List Value} (hC : Ctk E p s m args meth c cc nL own A) (hP : va_P E.1 vwCl wc H) (hD : va_D A wc) {U : State} (hU : U.heap = H) (hW : s.WarmedH U.vm) : PreK E av wc H.size av.toArray U :=
  ⟨rfl, by rw [hU], by rw [hU]; exact hP, hC.2.2.2.2.2.1.warm hW, hD.weaken (fun _ _ _ _ => trivial)⟩
theorem k_call {index maxL n mc ms b : Nat} {y : MethodName} {bytes : ByteArray} {rm : Room} {As st0 : List Value} {lv : List (Nat × Value)} {wc wr : va_W} {po : (Nat → Nat) → Prop} {out : (Nat → Nat) → va_W} (isC isR : List Nat)
    (hC : Ctk E p s m args meth c cc nL own A) (hw : Wk E ws A s.heap H locs) (hl : lv_has ls nL lv) (hM : MK l E y (Cond.code y bytes maxL none) rm (.ref b :: As) wc po out mc ms)
    (cC : isC.map (fun i => ws[i]?) = wc.map some) (cR : isR.map (fun i => ws[i]?) = wr.map some) (n1 : va_nd isC = true) (n2 : va_nd isR = true) (hdis : ∀ i ∈ isR, i ∉ isC) (hrm : rm.cells = mc ∧ rm.slots = ms)
    (w1 : Cond.methodLink own index y ∈ tw) (w2 : Cond.instanceMethod y ∈ tw) (w4 : Cond.initialized y.cls ∈ tw) (w5 : Cond.code y bytes maxL none ∈ tw) (hy : y.name = "<init>")
    (hd : (y.cls ≠ "java/lang/invoke/MethodHandle" ∧ y.cls ≠ "java/lang/invoke/VarHandle") ∧ (parseMethodDescriptor y.desc).map (fun d => d.parameters.length) = some n) (hR : rm.frames + 1 ≤ R.frames ∧ 8 + (maxL + 11) + rm.locals ≤ R.locals) (hn : As.length = n)
    (hst : st0 = As.reverse ++ .ref b :: rest) (hcat : (rest.map fun v => v.category).sum ≤ 8) (hf : cells + mc ≤ R.cells ∧ slots + ms ≤ R.slots) (hdg : decode cc pc = .ok (.invokespecial index, 3))
    (kk : ∀ (q : Nat → Nat) (H : Heap) (locs : List Loc), po q → Wk E (wr ++ out q) A s.heap H locs → W p l e R s m args below meth c H locs (cells + mc) (slots + ms) Q (F0 m (pc + 3) ls rest)) : W p l e R s m args below meth c H locs cells slots Q (F0 m pc ls st0) := by
  have hP := hw.1.sub isC (fm_of_map cC)
  have hD := hw.2.1.sub isC n1 cC
  have hF := va_free (wc := wc) hw.2.1 hw.2.2 hC.2.2.2.2.2.2.1 isC cC
  have hts := hC.2.2.2.2.1
  have ht : ∀ w ∈ (Cond.code y bytes maxL none :: tw), w.before args s = true := fun w h => by
    rcases List.mem_cons.mp h with rfl | h
    · exact hts _ w5
    · exact hts _ h
  refine va_callv (va_runI (As := As) (rest := rest) ⟨hC.1, hC.2.1, hC.2.2.1, hC.2.2.2.1, hts⟩ (hM H.size) ⟨callB_of n ht (tw_in w5) rfl hrm.1 hrm.2 (hts _ w4) (hts _ w1) ⟨hd.1.1, hd.1.2, hd.2⟩ hR, hy, hts _ w2⟩ ⟨pre_blindK, fun U hU hW => k_pre hC hP hD hU hW⟩ rfl hn hl.1 hst (lv_room hcat) hdg hf) hw.2.2 (fun q _ h => hF q h) hF (fun u t H1 locs1 ht hvm hp hB hz1 hk1 hS => ?_)
  obtain ⟨hP1, hD1⟩ := hB
  rw [ht] at hP1
  obtain ⟨a1, a2⟩ := va_join (wr := wr) hw.1 hw.2.1 isC isR cC cR n2 hdis hk1 hF hP1 hD1
  exact kk u H1 locs1 hp ⟨a1, a2, hS⟩
theorem k_callN {index maxL n mc ms b : Nat} {y : MethodName} {host : String} {bytes : ByteArray} {rm : Room} {As st0 : List Value} {lv : List (Nat × Value)} {wc wr : va_W} {po : (Nat → Nat) → Prop} {out : (Nat → Nat) → va_W} (isC isR : List Nat)
    (hC : Ctk E p s m args meth c cc nL own A) (hw : Wk E ws A s.heap H locs) (hl : lv_has ls nL lv) (hM : MK l E y (Cond.code y bytes maxL none) rm (.ref b :: As) wc po out mc ms)
    (cC : isC.map (fun i => ws[i]?) = wc.map some) (cR : isR.map (fun i => ws[i]?) = wr.map some) (n1 : va_nd isC = true) (n2 : va_nd isR = true) (hdis : ∀ i ∈ isR, i ∉ isC) (hrm : rm.cells = mc ∧ rm.slots = ms)
    (w1 : va_Nw (.methodLinkNest own index y host) s) (w2 : Cond.instanceMethod y ∈ tw) (w4 : Cond.initialized y.cls ∈ tw) (w5 : Cond.code y bytes maxL none ∈ tw) (hy : y.name = "<init>")
    (hd : (y.cls ≠ "java/lang/invoke/MethodHandle" ∧ y.cls ≠ "java/lang/invoke/VarHandle") ∧ (parseMethodDescriptor y.desc).map (fun d => d.parameters.length) = some n) (hR : rm.frames + 1 ≤ R.frames ∧ 8 + (maxL + 11) + rm.locals ≤ R.locals) (hn : As.length = n)
    (hst : st0 = As.reverse ++ .ref b :: rest) (hcat : (rest.map fun v => v.category).sum ≤ 8) (hf : cells + mc ≤ R.cells ∧ slots + ms ≤ R.slots) (hdg : decode cc pc = .ok (.invokespecial index, 3))
    (kk : ∀ (q : Nat → Nat) (H : Heap) (locs : List Loc), po q → Wk E (wr ++ out q) A s.heap H locs → W p l e R s m args below meth c H locs (cells + mc) (slots + ms) Q (F0 m (pc + 3) ls rest)) : W p l e R s m args below meth c H locs cells slots Q (F0 m pc ls st0) := by
  have hP := hw.1.sub isC (fm_of_map cC)
  have hD := hw.2.1.sub isC n1 cC
  have hF := va_free (wc := wc) hw.2.1 hw.2.2 hC.2.2.2.2.2.2.1 isC cC
  have hts := hC.2.2.2.2.1
  have ht : ∀ w ∈ (Cond.code y bytes maxL none :: tw), w.before args s = true := fun w h => by
    rcases List.mem_cons.mp h with rfl | h
    · exact hts _ w5
    · exact hts _ h
  refine va_callv (va_runIN (As := As) (rest := rest) (host := host) ⟨hC.1, hC.2.1, hC.2.2.1, hC.2.2.2.1, hts⟩ (hM H.size) ⟨va_cnB n ht (tw_in w5) rfl hrm.1 hrm.2 w1 (hts _ w4) ⟨hd.1.1, hd.1.2, hd.2⟩ hR, hy, hts _ w2⟩ ⟨pre_blindK, fun U hU hW => k_pre hC hP hD hU hW⟩ rfl hn hl.1 hst (lv_room hcat) hdg hf) hw.2.2 (fun q _ h => hF q h) hF (fun u t H1 locs1 ht hvm hp hB hz1 hk1 hS => ?_)
  obtain ⟨hP1, hD1⟩ := hB
  rw [ht] at hP1
  obtain ⟨a1, a2⟩ := va_join (wr := wr) hw.1 hw.2.1 isC isR cC cR n2 hdis hk1 hF hP1 hD1
  exact kk u H1 locs1 hp ⟨a1, a2, hS⟩
theorem Wk.sub {ws' : va_W} (hw : Wk E ws A s.heap H locs) (is : List Nat) (n1 : va_nd is = true) (h : is.map (fun i => ws[i]?) = ws'.map some) : Wk E ws' A s.heap H locs := ⟨hw.1.sub is (fm_of_map h), hw.2.1.sub is n1 h, hw.2.2⟩
end KC
