/-! ===== CORE: a state is a table of rows of ints; a world is its cells; a contract goes from a state to a state ===== -/
abbrev St : Type := Nat → Nat → Int32
def sr (σ : St) (k : Nat) (f : Nat → Int32) : St := fun j => if j = k then f else σ j
theorem sr_s {σ : St} {k : Nat} {f : Nat → Int32} : sr σ k f k = f := if_pos rfl
theorem sr_n {σ : St} {k j : Nat} {f : Nat → Int32} (h : j ≠ k) : sr σ k f j = σ j := if_neg h
/-- the tables' choices: classes and slots; the classes of int[], boolean[], int[][]; the cell of the constant POWERS -/
abbrev EV : Type := va_G × (ClassId × ClassId × ClassId) × Nat
abbrev ev_t (E : EV) : List (ClassId × FieldType) := [(E.2.1.1, .int), (E.2.1.2.1, .boolean), (E.2.1.2.2, .array .int)]
def ev_n1 : Cond := .methodLinkNest RX2 35 yX10_isBelow RX10
def ev_n2 : Cond := .methodLinkNest RX8 78 yX10_isBelow RX10
def ev_n3 : Cond := .fieldLinkNest RX8 65 RX2 "POWERS" "[I" RX10
def ev_K (E : EV) (U : State) : Prop := va_K E.1 vwCl (ev_t E) U ∧ va_Nw ev_n1 U ∧ va_Nw ev_n2 U ∧ va_Nw ev_n3 U
def pwv (j : Nat) : Int32 := nI (10 ^ j)
def ev_S (E : EV) (A : Nat → Prop) (U : State) (H : Heap) : Prop := va_Z RX2 "POWERS" "[I" (.ref E.2.2) A U H ∧ va_T .int E.2.2 5 (fun j => .int (pwv j)) A U H
theorem ev_K.warm {E : EV} {s U : State} (hW : s.WarmedH U.vm) (h : ev_K E s) : ev_K E U :=
  ⟨va_K.moved hW.alike h.1, va_Nw.warmM hW h.2.1, va_Nw.warmM hW h.2.2.1, va_Nw.warmF hW h.2.2.2⟩
theorem ev_K.same {E : EV} {u U : State} (hv : u.vm = U.vm) (h : ev_K E u) : ev_K E U :=
  ⟨va_K.moved (by rw [hv]; exact Vm.Alike.refl _) h.1, va_Nw.same rfl hv h.2.1, va_Nw.same rfl hv h.2.2.1, va_Nw.same rfl hv h.2.2.2⟩
/-- what a method's walk stands on, once for all its rows -/
def Cxt (E : EV) (p : Program) (s : State) (m : MethodId) (args : Array Value) (meth : Method) (c : Code) (cc : ByteArray) (nL : Nat) (ret : Option FieldType) (own : String) (A : Nat → Prop) : Prop :=
  p.tables.exec = Jvm.exec ∧ c.code = cc ∧ c.maxLocals = nL ∧ s.vm.findClass own = some m.cls ∧ (∀ w ∈ tw, w.before args s = true) ∧ ev_K E s ∧ ev_S E A s s.heap ∧ (∀ q, s.heap.size ≤ q → A q) ∧ meth.sig.returnType = ret ∧ meth.locks = false
/-- the world at a heap -/
def Wst (E : EV) (Wf : St → va_W) (σ : St) (A : Nat → Prop) (H0 H : Heap) (locs : List Loc) : Prop := va_P E.1 vwCl (Wf σ) H ∧ va_D A (Wf σ) ∧ va_S A H0 H locs
/-- a contract's start, its end -/
def PreW (E : EV) (Wf : St → va_W) (av : List Value) (σ : St) (sz : Nat) : Array Value → State → Prop :=
  va_Pc av (fun U => U.heap.size = sz ∧ va_P E.1 vwCl (Wf σ) U.heap ∧ ev_K E U ∧ va_D (fun _ => True) (Wf σ) ∧ ev_S E (va_A (Wf σ) sz) U U.heap)
def PostW (E : EV) (Wf : St → va_W) (A : Nat → Prop) (u : St) (t : State) : Prop := va_P E.1 vwCl (Wf u) t.heap ∧ va_D A (Wf u)
/-- the contract of a method that answers an int (a boolean) -/
def MI (l : Launch) (E : EV) (Wf : St → va_W) (y : MethodName) (w0 : Cond) (rm : Room) (av : List Value) (σ : St) (post : Int32 → St → Prop) : Prop :=
  ∀ sz : Nat, Met l y (w0 :: tw) rm (PreW E Wf av σ sz) (va_Qi post (PostW E Wf (va_A (Wf σ) sz)) (va_A (Wf σ) sz)) 0 0 (va_A (Wf σ) sz)
/-- .. of a void one -/
def MV (l : Launch) (E : EV) (Wf : St → va_W) (y : MethodName) (w0 : Cond) (rm : Room) (av : List Value) (σ : St) (post : St → Prop) : Prop :=
  ∀ sz : Nat, Met l y (w0 :: tw) rm (PreW E Wf av σ sz) (va_Qv post (PostW E Wf (va_A (Wf σ) sz)) (va_A (Wf σ) sz)) 0 0 (va_A (Wf σ) sz)
theorem tw_good {w : Cond} (h : w ∈ tw) : goodWord w = true := (List.mem_filter.mp h).2
theorem tw_in {w0 : Cond} {bytes : ByteArray} {y : MethodName} {maxL : Nat} {ret : Option FieldType} (h : Cond.code y bytes maxL ret ∈ tw) : GoodIn (w0 :: tw) (Cond.code y bytes maxL ret :: tw) := by
  intro w hw
  rcases List.mem_cons.mp hw with rfl | hw
  · exact ⟨List.mem_cons_of_mem _ h, Or.inl rfl⟩
  · exact ⟨List.mem_cons_of_mem _ hw, good_of_word (tw_good hw)⟩
section QC
variable {p : Program} {l : Launch} {e : Env} {R : Room} {s : State} {m : MethodId} {args : Array Value} {below : List Frame} {meth : Method} {c : Code} {H : Heap} {locs : List Loc} {Q : State → Prop} {E : EV} {A : Nat → Prop} {cc : ByteArray} {nL pc : Nat} {ret : Option FieldType} {own : String} {ls : Array Slot} {rest : List Value} {Wf : St → va_W} {σ : St}
theorem ev_S.at (hC : Cxt E p s m args meth c cc nL ret own A) (hw : Wst E Wf σ A s.heap H locs) (hA : ∀ q, va_A (Wf σ) H.size q → A q) {U : State} (hU : U.heap = H) (hW : s.WarmedH U.vm) : ev_S E (va_A (Wf σ) H.size) U U.heap := by
  obtain ⟨-, -, -, -, -, -, ⟨hz, ht⟩, -, -⟩ := hC
  rw [hU]
  exact ⟨((hz.kept hw.2.2.2.1).moved hW.alike).narrow hA, ((ht.kept hw.2.2.2.1).moved hW.alike).narrow hA⟩
theorem Wst.free (hC : Cxt E p s m args meth c cc nL ret own A) (hw : Wst E Wf σ A s.heap H locs) : ∀ q, va_A (Wf σ) H.size q → A q := by
  intro q h
  rcases h with ⟨k, e, h⟩ | h
  · exact hw.2.1.2 k (q, e) h
  · exact hC.2.2.2.2.2.2.2.1 q (Nat.le_trans hw.2.2.1 h)
theorem Wst.self (hw : Wst E Wf σ A s.heap H locs) {sz : Nat} : va_D (va_A (Wf σ) sz) (Wf σ) := hw.2.1.self
theorem pre_blind {E : EV} {av : List Value} {sz : Nat} : FrameBlind (PreW E Wf av σ sz) := by
  intro a U g mk h
  obtain ⟨h0, h1, h2, h3, h4, h5, h6⟩ := h
  exact ⟨h0, h1, h2, h3.same rfl, h4, h5.moved (Vm.Alike.refl _), h6.moved (Vm.Alike.refl _)⟩
theorem pre_at (hC : Cxt E p s m args meth c cc nL ret own A) (hw : Wst E Wf σ A s.heap H locs) {av : List Value} {U : State} (hU : U.heap = H) (hW : s.WarmedH U.vm) : PreW E Wf av σ H.size av.toArray U :=
  ⟨rfl, by rw [hU], by rw [hU]; exact hw.1, hC.2.2.2.2.2.1.warm hW, hw.2.1.weaken (fun _ _ _ _ => trivial), ev_S.at hC hw (Wst.free hC hw) hU hW⟩
theorem Wst.after (hC : Cxt E p s m args meth c cc nL ret own A) (hw : Wst E Wf σ A s.heap H locs) {σ' : St} {t : State} {H1 : Heap} {locs1 : List Loc} (ht : t.heap = H1) (hB : PostW E Wf (va_A (Wf σ) H.size) σ' t) (hS : va_S A s.heap H1 locs1) : Wst E Wf σ' A s.heap H1 locs1 :=
  ⟨by rw [← ht]; exact hB.1, hB.2.weaken (fun k q _ h => Wst.free hC hw q.1 h), hS⟩
/-- words for a call by the receiver's class -/
theorem q_cwV {C : String} {index maxL n : Nat} {y : MethodName} {bytes : ByteArray} {r : Option FieldType} {rm : Room} (hts : ∀ w ∈ tw, w.before args s = true) (hrm : rm.cells = 0 ∧ rm.slots = 0)
    (w1 : Cond.methodLink own index y ∈ tw) (w2 : Cond.instanceMethod y ∈ tw) (w3 : Cond.selects C y y ∈ tw) (w4 : Cond.initialized C ∈ tw) (w5 : Cond.code y bytes maxL r ∈ tw)
    (hd : y.cls = C ∧ (y.cls ≠ "java/lang/invoke/MethodHandle" ∧ y.cls ≠ "java/lang/invoke/VarHandle") ∧ (parseMethodDescriptor y.desc).map (fun d => d.parameters.length) = some n) (hR : rm.frames + 1 ≤ R.frames ∧ 8 + (maxL + 11) + rm.locals ≤ R.locals) :
    CallW R s args own C index y bytes maxL r (Cond.code y bytes maxL r :: tw) rm 0 0 n := by
  obtain ⟨hC, hd1, hd2⟩ := hd
  have ht : ∀ w ∈ (Cond.code y bytes maxL r :: tw), w.before args s = true := fun w h => by
    rcases List.mem_cons.mp h with rfl | h
    · exact hts _ w5
    · exact hts _ h
  exact ⟨callB_of n ht (tw_in w5) rfl hrm.1 hrm.2 (by rw [hC]; exact hts _ w4) (hts _ w1) ⟨hd1.1, hd1.2, hd2⟩ hR, hts _ w2, hts _ w3⟩
theorem q_cwS {index maxL n : Nat} {y : MethodName} {bytes : ByteArray} {r : Option FieldType} {rm : Room} (hts : ∀ w ∈ tw, w.before args s = true) (hrm : rm.cells = 0 ∧ rm.slots = 0)
    (w1 : Cond.methodLink own index y ∈ tw) (w2 : Cond.static y ∈ tw) (w4 : Cond.initialized y.cls ∈ tw) (w5 : Cond.code y bytes maxL r ∈ tw)
    (hd : (y.cls ≠ "java/lang/invoke/MethodHandle" ∧ y.cls ≠ "java/lang/invoke/VarHandle") ∧ (parseMethodDescriptor y.desc).map (fun d => d.parameters.length) = some n) (hR : rm.frames + 1 ≤ R.frames ∧ 8 + (maxL + 11) + rm.locals ≤ R.locals) :
    CallB R s args own index y bytes maxL r (Cond.code y bytes maxL r :: tw) rm 0 0 n ∧ (Cond.static y).before args s = true := by
  obtain ⟨hd1, hd2⟩ := hd
  have ht : ∀ w ∈ (Cond.code y bytes maxL r :: tw), w.before args s = true := fun w h => by
    rcases List.mem_cons.mp h with rfl | h
    · exact hts _ w5
    · exact hts _ h
  exact ⟨callB_of n ht (tw_in w5) rfl hrm.1 hrm.2 (hts _ w4) (hts _ w1) ⟨hd1.1, hd1.2, hd2⟩ hR, hts _ w2⟩
theorem q_callV {C : String} {index maxL n : Nat} {y : MethodName} {bytes : ByteArray} {r : Option FieldType} {rm : Room} {As st0 : List Value} {lv : List (Nat × Value)} {b q0 ci : Nat} {fs : List Value} {q : vw_C} {post : Int32 → St → Prop}
    (hC : Cxt E p s m args meth c cc nL ret own A) (hw : Wst E Wf σ A s.heap H locs) (hl : lv_has ls nL lv) (hM : MI l E Wf y (Cond.code y bytes maxL r) rm (.ref b :: As) σ post)
    (cw : CallW R s args own C index y bytes maxL r (Cond.code y bytes maxL r :: tw) rm 0 0 n) (hq : (Wf σ)[q0]? = some (b, .inr (ci, fs))) (hc : vwCl[ci]? = some q) (hqC : q.1 = C) (hn : As.length = n)
    (hst : st0 = As.reverse ++ .ref b :: rest) (hcat : (rest.map fun v => v.category).sum ≤ 8) (hdg : decode cc pc = .ok (.invokevirtual index, 3))
    (kk : ∀ (x : Int32) (σ' : St) (H1 : Heap) (locs1 : List Loc), post x σ' → Wst E Wf σ' A s.heap H1 locs1 → W p l e R s m args below meth c H1 locs1 0 0 Q (F0 m (pc + 3) ls (.int x :: rest))) : W p l e R s m args below meth c H locs 0 0 Q (F0 m pc ls st0) := by
  obtain ⟨hx, hb, hml, hown, hts, hK, -, -, -⟩ := id hC
  subst hqC
  refine va_calli (va_runV (As := As) (rest := rest) (C := q.1) ⟨hx, hb, hml, hown, hts⟩ (hM H.size) cw ⟨pre_blind, va_recv hK.1 hw.1 hc hq, fun U hU hW => pre_at hC hw hU hW⟩ rfl hn hl.1 hst (lv_room hcat) hdg ⟨Nat.zero_le _, Nat.zero_le _⟩) hw.2.2 (fun q _ h => Wst.free hC hw q h) (Wst.free hC hw) (fun x u t H1 locs1 ht hvm hp hB hz1 hk1 hS => ?_)
  exact kk x u H1 locs1 hp (Wst.after hC hw ht hB hS)
theorem q_callVv {C : String} {index maxL n : Nat} {y : MethodName} {bytes : ByteArray} {r : Option FieldType} {rm : Room} {As st0 : List Value} {lv : List (Nat × Value)} {b q0 ci : Nat} {fs : List Value} {q : vw_C} {post : St → Prop}
    (hC : Cxt E p s m args meth c cc nL ret own A) (hw : Wst E Wf σ A s.heap H locs) (hl : lv_has ls nL lv) (hM : MV l E Wf y (Cond.code y bytes maxL r) rm (.ref b :: As) σ post)
    (cw : CallW R s args own C index y bytes maxL r (Cond.code y bytes maxL r :: tw) rm 0 0 n) (hq : (Wf σ)[q0]? = some (b, .inr (ci, fs))) (hc : vwCl[ci]? = some q) (hqC : q.1 = C) (hn : As.length = n)
    (hst : st0 = As.reverse ++ .ref b :: rest) (hcat : (rest.map fun v => v.category).sum ≤ 8) (hdg : decode cc pc = .ok (.invokevirtual index, 3))
    (kk : ∀ (σ' : St) (H1 : Heap) (locs1 : List Loc), post σ' → Wst E Wf σ' A s.heap H1 locs1 → W p l e R s m args below meth c H1 locs1 0 0 Q (F0 m (pc + 3) ls rest)) : W p l e R s m args below meth c H locs 0 0 Q (F0 m pc ls st0) := by
  obtain ⟨hx, hb, hml, hown, hts, hK, -, -, -⟩ := id hC
  subst hqC
  refine va_callv (va_runV (As := As) (rest := rest) (C := q.1) ⟨hx, hb, hml, hown, hts⟩ (hM H.size) cw ⟨pre_blind, va_recv hK.1 hw.1 hc hq, fun U hU hW => pre_at hC hw hU hW⟩ rfl hn hl.1 hst (lv_room hcat) hdg ⟨Nat.zero_le _, Nat.zero_le _⟩) hw.2.2 (fun q _ h => Wst.free hC hw q h) (Wst.free hC hw) (fun u t H1 locs1 ht hvm hp hB hz1 hk1 hS => ?_)
  exact kk u H1 locs1 hp (Wst.after hC hw ht hB hS)
theorem q_callS {index maxL n : Nat} {y : MethodName} {bytes : ByteArray} {r : Option FieldType} {rm : Room} {As st0 : List Value} {lv : List (Nat × Value)} {post : Int32 → St → Prop}
    (hC : Cxt E p s m args meth c cc nL ret own A) (hw : Wst E Wf σ A s.heap H locs) (hl : lv_has ls nL lv) (hM : MI l E Wf y (Cond.code y bytes maxL r) rm As σ post)
    (cw : CallB R s args own index y bytes maxL r (Cond.code y bytes maxL r :: tw) rm 0 0 n ∧ (Cond.static y).before args s = true) (hn : As.length = n)
    (hst : st0 = As.reverse ++ rest) (hcat : (rest.map fun v => v.category).sum ≤ 8) (hdg : decode cc pc = .ok (.invokestatic index, 3))
    (kk : ∀ (x : Int32) (σ' : St) (H1 : Heap) (locs1 : List Loc), post x σ' → Wst E Wf σ' A s.heap H1 locs1 → W p l e R s m args below meth c H1 locs1 0 0 Q (F0 m (pc + 3) ls (.int x :: rest))) : W p l e R s m args below meth c H locs 0 0 Q (F0 m pc ls st0) := by
  obtain ⟨hx, hb, hml, hown, hts, hK, -, -, -⟩ := id hC
  refine va_calli (va_runS (As := As) (rest := rest) ⟨hx, hb, hml, hown, hts⟩ (hM H.size) cw ⟨pre_blind, fun U hU hW => pre_at hC hw hU hW⟩ rfl hn hl.1 hst (lv_room hcat) hdg ⟨Nat.zero_le _, Nat.zero_le _⟩) hw.2.2 (fun q _ h => Wst.free hC hw q h) (Wst.free hC hw) (fun x u t H1 locs1 ht hvm hp hB hz1 hk1 hS => ?_)
  exact kk x u H1 locs1 hp (Wst.after hC hw ht hB hS)
theorem q_callSv {index maxL n : Nat} {y : MethodName} {bytes : ByteArray} {r : Option FieldType} {rm : Room} {As st0 : List Value} {lv : List (Nat × Value)} {post : St → Prop}
    (hC : Cxt E p s m args meth c cc nL ret own A) (hw : Wst E Wf σ A s.heap H locs) (hl : lv_has ls nL lv) (hM : MV l E Wf y (Cond.code y bytes maxL r) rm As σ post)
    (cw : CallB R s args own index y bytes maxL r (Cond.code y bytes maxL r :: tw) rm 0 0 n ∧ (Cond.static y).before args s = true) (hn : As.length = n)
    (hst : st0 = As.reverse ++ rest) (hcat : (rest.map fun v => v.category).sum ≤ 8) (hdg : decode cc pc = .ok (.invokestatic index, 3))
    (kk : ∀ (σ' : St) (H1 : Heap) (locs1 : List Loc), post σ' → Wst E Wf σ' A s.heap H1 locs1 → W p l e R s m args below meth c H1 locs1 0 0 Q (F0 m (pc + 3) ls rest)) : W p l e R s m args below meth c H locs 0 0 Q (F0 m pc ls st0) := by
  obtain ⟨hx, hb, hml, hown, hts, hK, -, -, -⟩ := id hC
  refine va_callv (va_runS (As := As) (rest := rest) ⟨hx, hb, hml, hown, hts⟩ (hM H.size) cw ⟨pre_blind, fun U hU hW => pre_at hC hw hU hW⟩ rfl hn hl.1 hst (lv_room hcat) hdg ⟨Nat.zero_le _, Nat.zero_le _⟩) hw.2.2 (fun q _ h => Wst.free hC hw q h) (Wst.free hC hw) (fun u t H1 locs1 ht hvm hp hB hz1 hk1 hS => ?_)
  exact kk u H1 locs1 hp (Wst.after hC hw ht hB hS)
/-- a static call of a nest mate's private method -/
theorem q_callSN {index maxL n : Nat} {y : MethodName} {host : String} {bytes : ByteArray} {r : Option FieldType} {rm : Room} {As st0 : List Value} {lv : List (Nat × Value)} {post : Int32 → St → Prop}
    (hC : Cxt E p s m args meth c cc nL ret own A) (hw : Wst E Wf σ A s.heap H locs) (hl : lv_has ls nL lv) (hM : MI l E Wf y (Cond.code y bytes maxL r) rm As σ post) (hrm : rm.cells = 0 ∧ rm.slots = 0)
    (w1 : va_Nw (.methodLinkNest own index y host) s) (w2 : Cond.static y ∈ tw) (w4 : Cond.initialized y.cls ∈ tw) (w5 : Cond.code y bytes maxL r ∈ tw)
    (hd : (y.cls ≠ "java/lang/invoke/MethodHandle" ∧ y.cls ≠ "java/lang/invoke/VarHandle") ∧ (parseMethodDescriptor y.desc).map (fun d => d.parameters.length) = some n) (hR : rm.frames + 1 ≤ R.frames ∧ 8 + (maxL + 11) + rm.locals ≤ R.locals) (hn : As.length = n)
    (hst : st0 = As.reverse ++ rest) (hcat : (rest.map fun v => v.category).sum ≤ 8) (hdg : decode cc pc = .ok (.invokestatic index, 3))
    (kk : ∀ (x : Int32) (σ' : St) (H1 : Heap) (locs1 : List Loc), post x σ' → Wst E Wf σ' A s.heap H1 locs1 → W p l e R s m args below meth c H1 locs1 0 0 Q (F0 m (pc + 3) ls (.int x :: rest))) : W p l e R s m args below meth c H locs 0 0 Q (F0 m pc ls st0) := by
  obtain ⟨hx, hb, hml, hown, hts, hK, -, -, -⟩ := id hC
  have ht : ∀ w ∈ (Cond.code y bytes maxL r :: tw), w.before args s = true := fun w h => by
    rcases List.mem_cons.mp h with rfl | h
    · exact hts _ w5
    · exact hts _ h
  refine va_calli (va_runSN (As := As) (rest := rest) (host := host) ⟨hx, hb, hml, hown, hts⟩ (hM H.size) ⟨va_cnB n ht (tw_in w5) rfl hrm.1 hrm.2 w1 (hts _ w4) ⟨hd.1.1, hd.1.2, hd.2⟩ hR, hts _ w2, trivial⟩ ⟨pre_blind, fun U hU hW => pre_at hC hw hU hW⟩ rfl hn hl.1 hst (lv_room hcat) hdg ⟨Nat.zero_le _, Nat.zero_le _⟩) hw.2.2 (fun q _ h => Wst.free hC hw q h) (Wst.free hC hw) (fun x u t H1 locs1 ht hvm hp hB hz1 hk1 hS => ?_)
  exact kk x u H1 locs1 hp (Wst.after hC hw ht hB hS)
theorem q_callVp {C : String} {index maxL n : Nat} {y : MethodName} {bytes : ByteArray} {r : Option FieldType} {rm : Room} {As st0 : List Value} {lv : List (Nat × Value)} {b q0 ci : Nat} {fs : List Value} {q : vw_C} {x : Int32} {σ' : St}
    (hC : Cxt E p s m args meth c cc nL ret own A) (hw : Wst E Wf σ A s.heap H locs) (hl : lv_has ls nL lv) (hM : MI l E Wf y (Cond.code y bytes maxL r) rm (.ref b :: As) σ (fun r_ u_ => r_ = x ∧ u_ = σ'))
    (cw : CallW R s args own C index y bytes maxL r (Cond.code y bytes maxL r :: tw) rm 0 0 n) (hq : (Wf σ)[q0]? = some (b, .inr (ci, fs))) (hc : vwCl[ci]? = some q) (hqC : q.1 = C) (hn : As.length = n)
    (hst : st0 = As.reverse ++ .ref b :: rest) (hcat : (rest.map fun v => v.category).sum ≤ 8) (hdg : decode cc pc = .ok (.invokevirtual index, 3))
    (kk : ∀ (H1 : Heap) (locs1 : List Loc), Wst E Wf σ' A s.heap H1 locs1 → W p l e R s m args below meth c H1 locs1 0 0 Q (F0 m (pc + 3) ls (.int x :: rest))) : W p l e R s m args below meth c H locs 0 0 Q (F0 m pc ls st0) :=
  q_callV hC hw hl hM cw hq hc hqC hn hst hcat hdg (fun x1 u1 H1 locs1 hp hw1 => by rw [hp.1]; exact kk H1 locs1 (hp.2 ▸ hw1))
theorem q_callSp {index maxL n : Nat} {y : MethodName} {bytes : ByteArray} {r : Option FieldType} {rm : Room} {As st0 : List Value} {lv : List (Nat × Value)} {x : Int32} {σ' : St}
    (hC : Cxt E p s m args meth c cc nL ret own A) (hw : Wst E Wf σ A s.heap H locs) (hl : lv_has ls nL lv) (hM : MI l E Wf y (Cond.code y bytes maxL r) rm As σ (fun r_ u_ => r_ = x ∧ u_ = σ'))
    (cw : CallB R s args own index y bytes maxL r (Cond.code y bytes maxL r :: tw) rm 0 0 n ∧ (Cond.static y).before args s = true) (hn : As.length = n)
    (hst : st0 = As.reverse ++ rest) (hcat : (rest.map fun v => v.category).sum ≤ 8) (hdg : decode cc pc = .ok (.invokestatic index, 3))
    (kk : ∀ (H1 : Heap) (locs1 : List Loc), Wst E Wf σ' A s.heap H1 locs1 → W p l e R s m args below meth c H1 locs1 0 0 Q (F0 m (pc + 3) ls (.int x :: rest))) : W p l e R s m args below meth c H locs 0 0 Q (F0 m pc ls st0) :=
  q_callS hC hw hl hM cw hn hst hcat hdg (fun x1 u1 H1 locs1 hp hw1 => by rw [hp.1]; exact kk H1 locs1 (hp.2 ▸ hw1))
theorem q_callSNp {index maxL n : Nat} {y : MethodName} {host : String} {bytes : ByteArray} {r : Option FieldType} {rm : Room} {As st0 : List Value} {lv : List (Nat × Value)} {x : Int32} {σ' : St}
    (hC : Cxt E p s m args meth c cc nL ret own A) (hw : Wst E Wf σ A s.heap H locs) (hl : lv_has ls nL lv) (hM : MI l E Wf y (Cond.code y bytes maxL r) rm As σ (fun r_ u_ => r_ = x ∧ u_ = σ')) (hrm : rm.cells = 0 ∧ rm.slots = 0)
    (w1 : va_Nw (.methodLinkNest own index y host) s) (w2 : Cond.static y ∈ tw) (w4 : Cond.initialized y.cls ∈ tw) (w5 : Cond.code y bytes maxL r ∈ tw)
    (hd : (y.cls ≠ "java/lang/invoke/MethodHandle" ∧ y.cls ≠ "java/lang/invoke/VarHandle") ∧ (parseMethodDescriptor y.desc).map (fun d => d.parameters.length) = some n) (hR : rm.frames + 1 ≤ R.frames ∧ 8 + (maxL + 11) + rm.locals ≤ R.locals) (hn : As.length = n)
    (hst : st0 = As.reverse ++ rest) (hcat : (rest.map fun v => v.category).sum ≤ 8) (hdg : decode cc pc = .ok (.invokestatic index, 3))
    (kk : ∀ (H1 : Heap) (locs1 : List Loc), Wst E Wf σ' A s.heap H1 locs1 → W p l e R s m args below meth c H1 locs1 0 0 Q (F0 m (pc + 3) ls (.int x :: rest))) : W p l e R s m args below meth c H locs 0 0 Q (F0 m pc ls st0) :=
  q_callSN hC hw hl hM hrm w1 w2 w4 w5 hd hR hn hst hcat hdg (fun x1 u1 H1 locs1 hp hw1 => by rw [hp.1]; exact kk H1 locs1 (hp.2 ▸ hw1))
theorem q_callVvp {C : String} {index maxL n : Nat} {y : MethodName} {bytes : ByteArray} {r : Option FieldType} {rm : Room} {As st0 : List Value} {lv : List (Nat × Value)} {b q0 ci : Nat} {fs : List Value} {q : vw_C} {σ' : St}
    (hC : Cxt E p s m args meth c cc nL ret own A) (hw : Wst E Wf σ A s.heap H locs) (hl : lv_has ls nL lv) (hM : MV l E Wf y (Cond.code y bytes maxL r) rm (.ref b :: As) σ (fun u_ => u_ = σ'))
    (cw : CallW R s args own C index y bytes maxL r (Cond.code y bytes maxL r :: tw) rm 0 0 n) (hq : (Wf σ)[q0]? = some (b, .inr (ci, fs))) (hc : vwCl[ci]? = some q) (hqC : q.1 = C) (hn : As.length = n)
    (hst : st0 = As.reverse ++ .ref b :: rest) (hcat : (rest.map fun v => v.category).sum ≤ 8) (hdg : decode cc pc = .ok (.invokevirtual index, 3))
    (kk : ∀ (H1 : Heap) (locs1 : List Loc), Wst E Wf σ' A s.heap H1 locs1 → W p l e R s m args below meth c H1 locs1 0 0 Q (F0 m (pc + 3) ls rest)) : W p l e R s m args below meth c H locs 0 0 Q (F0 m pc ls st0) :=
  q_callVv hC hw hl hM cw hq hc hqC hn hst hcat hdg (fun u1 H1 locs1 hp hw1 => kk H1 locs1 (hp ▸ hw1))
theorem q_callSvp {index maxL n : Nat} {y : MethodName} {bytes : ByteArray} {r : Option FieldType} {rm : Room} {As st0 : List Value} {lv : List (Nat × Value)} {σ' : St}
    (hC : Cxt E p s m args meth c cc nL ret own A) (hw : Wst E Wf σ A s.heap H locs) (hl : lv_has ls nL lv) (hM : MV l E Wf y (Cond.code y bytes maxL r) rm As σ (fun u_ => u_ = σ'))
    (cw : CallB R s args own index y bytes maxL r (Cond.code y bytes maxL r :: tw) rm 0 0 n ∧ (Cond.static y).before args s = true) (hn : As.length = n)
    (hst : st0 = As.reverse ++ rest) (hcat : (rest.map fun v => v.category).sum ≤ 8) (hdg : decode cc pc = .ok (.invokestatic index, 3))
    (kk : ∀ (H1 : Heap) (locs1 : List Loc), Wst E Wf σ' A s.heap H1 locs1 → W p l e R s m args below meth c H1 locs1 0 0 Q (F0 m (pc + 3) ls rest)) : W p l e R s m args below meth c H locs 0 0 Q (F0 m pc ls st0) :=
  q_callSv hC hw hl hM cw hn hst hcat hdg (fun u1 H1 locs1 hp hw1 => kk H1 locs1 (hp ▸ hw1))
/-- fields -/
theorem q_get {C : String} {T : u_T} {N ci index a : Nat} (q0 : Nat) {fs : List Value} (k : Nat) {v : Value} (he : (Wf σ)[q0]? = some (a, .inr (ci, fs))) (hc : vwCl[ci]? = some (C, T, N)) (hk : k < N) (hlink : Cond.fieldLink own index (T k).1 (T k).2.1 (T k).2.2.1 ∈ tw) (hin : ∀ w ∈ u_ws C T N, w ∈ tw) (hv : fs[k]? = some v)
    (hC : Cxt E p s m args meth c cc nL ret own A) (hw : Wst E Wf σ A s.heap H locs) (hdg : decode cc pc = .ok (.getfield index, 3))
    (kk : W p l e R s m args below meth c H locs 0 0 Q (F0 m (pc + 3) ls (v :: rest))) : W p l e R s m args below meth c H locs 0 0 Q (F0 m pc ls (.ref a :: rest)) :=
  va_get hC.1 hC.2.1 hC.2.2.2.2.1 hin hC.2.2.2.1 hC.2.2.2.2.2.1.1 hw.1 q0 he hc k hk (hC.2.2.2.2.1 _ hlink) (fun _ h => h) hv hdg kk
theorem q_put {C : String} {T : u_T} {N ci index a : Nat} (q0 : Nat) {fs : List Value} (k : Nat) {x : Int32} {σ' : St} (ty0 : Nat → FieldType) (he : (Wf σ)[q0]? = some (a, .inr (ci, fs))) (hc : vwCl[ci]? = some (C, T, N)) (hk : k < N) (hlink : Cond.fieldLink own index (T k).1 (T k).2.1 (T k).2.2.1 ∈ tw) (hin : ∀ w ∈ u_ws C T N, w ∈ tw)
    (hty : ∀ k, k < N → parseFieldDescriptor (T k).2.2.1 = some (ty0 k)) (hnm : ∀ a, a < N → ∀ b, b < N → a ≠ b → (T a).2.1 ≠ (T b).2.1) (hfin : (T k).2.2.2 = false) (hd : parseFieldDescriptor (T k).2.2.1 = some .int) (hl : k < fs.length) (hset : (Wf σ).set q0 (a, .inr (ci, fs.set k (.int x))) = Wf σ')
    (hC : Cxt E p s m args meth c cc nL ret own A) (hw : Wst E Wf σ A s.heap H locs) (hdg : decode cc pc = .ok (.putfield index, 3))
    (kk : ∀ (H1 : Heap) (locs1 : List Loc), Wst E Wf σ' A s.heap H1 locs1 → W p l e R s m args below meth c H1 locs1 0 0 Q (F0 m (pc + 3) ls rest)) : W p l e R s m args below meth c H locs 0 0 Q (F0 m pc ls (.int x :: .ref a :: rest)) :=
  va_put hC.1 hC.2.1 hC.2.2.2.2.1 hin ty0 hty hnm hC.2.2.2.1 hC.2.2.2.2.2.1.1 hw.1 hw.2.1 hw.2.2 q0 he hc k hk (hC.2.2.2.2.1 _ hlink) (fun _ h => h) hfin hd rfl rfl hl hdg (fun H1 locs1 h1 h2 h3 => kk H1 locs1 ⟨hset ▸ h1, hset ▸ h2, h3⟩)
/-- arrays of ints, of booleans -/
theorem q_ald {n a i : Nat} {v : Int32} {f : Nat → Int32} (q0 : Nat) (ha : (Wf σ)[q0]? = some (a, .inl (E.2.1.1, n, .inl f))) (hn : n < 2 ^ 31)
    (hC : Cxt E p s m args meth c cc nL ret own A) (hw : Wst E Wf σ A s.heap H locs) (hi : i < n) (hv : f i = v) (hdg : decode cc pc = .ok (.iaload, 1))
    (kk : W p l e R s m args below meth c H locs 0 0 Q (F0 m (pc + 1) ls (.int v :: rest))) : W p l e R s m args below meth c H locs 0 0 Q (F0 m pc ls (.int (nI i) :: .ref a :: rest)) :=
  va_iald hC.1 hC.2.1 hC.2.2.2.2.2.1.1 hw.1 q0 0 ha rfl (vp_in_nI hi hn) hdg (by rw [nI_clamp (Nat.lt_trans hi hn), hv]; exact kk)
theorem q_zld {n a i : Nat} {v : Int32} {f : Nat → Int32} (q0 : Nat) (ha : (Wf σ)[q0]? = some (a, .inl (E.2.1.2.1, n, .inl f))) (hn : n < 2 ^ 31)
    (hC : Cxt E p s m args meth c cc nL ret own A) (hw : Wst E Wf σ A s.heap H locs) (hi : i < n) (hv : f i = v) (hdg : decode cc pc = .ok (.baload, 1))
    (kk : W p l e R s m args below meth c H locs 0 0 Q (F0 m (pc + 1) ls (.int v :: rest))) : W p l e R s m args below meth c H locs 0 0 Q (F0 m pc ls (.int (nI i) :: .ref a :: rest)) :=
  va_zald hC.1 hC.2.1 hC.2.2.2.2.2.1.1 hw.1 q0 1 ha rfl (vp_in_nI hi hn) hdg (by rw [nI_clamp (Nat.lt_trans hi hn), hv]; exact kk)
theorem q_ast {n a i : Nat} {x : Int32} {f : Nat → Int32} {σ' : St} (q0 : Nat) (ha : (Wf σ)[q0]? = some (a, .inl (E.2.1.1, n, .inl f))) (hn : n < 2 ^ 31) (hset : (Wf σ).set q0 (a, .inl (E.2.1.1, n, .inl (upd f i x))) = Wf σ')
    (hC : Cxt E p s m args meth c cc nL ret own A) (hw : Wst E Wf σ A s.heap H locs) (hi : i < n) (hdg : decode cc pc = .ok (.iastore, 1))
    (kk : ∀ (H1 : Heap) (locs1 : List Loc), Wst E Wf σ' A s.heap H1 locs1 → W p l e R s m args below meth c H1 locs1 0 0 Q (F0 m (pc + 1) ls rest)) : W p l e R s m args below meth c H locs 0 0 Q (F0 m pc ls (.int x :: .int (nI i) :: .ref a :: rest)) :=
  va_iast hC.1 hC.2.1 hC.2.2.2.2.2.1.1 hw.1 hw.2.1 hw.2.2 q0 0 ha rfl (vp_in_nI hi hn) hdg (fun H1 locs1 h1 h2 h3 => by
    rw [nI_clamp (Nat.lt_trans hi hn), hset] at h1 h2
    exact kk H1 locs1 ⟨h1, h2, h3⟩)
theorem q_zst {n a i : Nat} {x : Int32} {f : Nat → Int32} {σ' : St} (q0 : Nat) (ha : (Wf σ)[q0]? = some (a, .inl (E.2.1.2.1, n, .inl f))) (hn : n < 2 ^ 31) (hset : (Wf σ).set q0 (a, .inl (E.2.1.2.1, n, .inl (upd f i x))) = Wf σ')
    (hC : Cxt E p s m args meth c cc nL ret own A) (hw : Wst E Wf σ A s.heap H locs) (hi : i < n) (hx01 : vp_nar .boolean x = x) (hdg : decode cc pc = .ok (.bastore, 1))
    (kk : ∀ (H1 : Heap) (locs1 : List Loc), Wst E Wf σ' A s.heap H1 locs1 → W p l e R s m args below meth c H1 locs1 0 0 Q (F0 m (pc + 1) ls rest)) : W p l e R s m args below meth c H locs 0 0 Q (F0 m pc ls (.int x :: .int (nI i) :: .ref a :: rest)) :=
  va_zast hC.1 hC.2.1 hC.2.2.2.2.2.1.1 hw.1 hw.2.1 hw.2.2 q0 1 ha rfl (vp_in_nI hi hn) hdg (fun H1 locs1 h1 h2 h3 => by
    rw [nI_clamp (Nat.lt_trans hi hn), hx01, hset] at h1 h2
    exact kk H1 locs1 ⟨h1, h2, h3⟩)
theorem q_alen {n a : Nat} {f : Nat → Int32} (q0 : Nat) (ha : (Wf σ)[q0]? = some (a, .inl (E.2.1.1, n, .inl f)))
    (hC : Cxt E p s m args meth c cc nL ret own A) (hw : Wst E Wf σ A s.heap H locs) (hdg : decode cc pc = .ok (.arraylength, 1))
    (kk : W p l e R s m args below meth c H locs 0 0 Q (F0 m (pc + 1) ls (.int (nI n) :: rest))) : W p l e R s m args below meth c H locs 0 0 Q (F0 m pc ls (.ref a :: rest)) :=
  va_alen hC.1 hC.2.1 hC.2.2.2.2.2.1.1 hw.1 q0 0 ha rfl rfl hdg kk
/-- the constant POWERS -/
theorem q_pow {index : Nat} (hlink : Cond.fieldLink own index RX2 "POWERS" "[I" ∈ tw) (hC : Cxt E p s m args meth c cc nL ret own A) (hw : Wst E Wf σ A s.heap H locs) (hdg : decode cc pc = .ok (.getstatic index, 3))
    (kk : W p l e R s m args below meth c H locs 0 0 Q (F0 m (pc + 3) ls (.ref E.2.2 :: rest))) : W p l e R s m args below meth c H locs 0 0 Q (F0 m pc ls rest) :=
  va_gets hC.1 hC.2.1 hC.2.2.2.2.2.2.1.1 hw.2.2 hC.2.2.2.1 (hC.2.2.2.2.1 _ hlink) (fun _ h => h) hdg kk
theorem q_powN {index : Nat} {host : String} (hlink : va_Nw (.fieldLinkNest own index RX2 "POWERS" "[I" host) s) (hC : Cxt E p s m args meth c cc nL ret own A) (hw : Wst E Wf σ A s.heap H locs) (hdg : decode cc pc = .ok (.getstatic index, 3))
    (kk : W p l e R s m args below meth c H locs 0 0 Q (F0 m (pc + 3) ls (.ref E.2.2 :: rest))) : W p l e R s m args below meth c H locs 0 0 Q (F0 m pc ls rest) :=
  va_getsN hC.1 hC.2.1 hC.2.2.2.2.2.2.1.1 hw.2.2 hC.2.2.2.1 (va_Nw.use rfl hlink) (fun _ h => h) hdg kk
theorem q_powld {i : Nat} {v : Int32} (hC : Cxt E p s m args meth c cc nL ret own A) (hw : Wst E Wf σ A s.heap H locs) (hi : i < 5) (hv : pwv i = v) (hdg : decode cc pc = .ok (.iaload, 1))
    (kk : W p l e R s m args below meth c H locs 0 0 Q (F0 m (pc + 1) ls (.int v :: rest))) : W p l e R s m args below meth c H locs 0 0 Q (F0 m pc ls (.int (nI i) :: .ref E.2.2 :: rest)) :=
  va_ti hC.1 hC.2.1 hC.2.2.2.2.2.2.1.2 hw.2.2 (vp_in_nI hi (by decide)) (v := .int v) (by rw [nI_clamp (by omega), hv]) hdg kk
/-- arithmetic over counts -/
theorem q_addN (hC : Cxt E p s m args meth c cc nL ret own A) {a b : Nat} (hdg : decode cc pc = .ok (.iadd, 1)) (k : W p l e R s m args below meth c H locs 0 0 Q (F0 m (pc + 1) ls (.int (nI (a + b)) :: rest))) : W p l e R s m args below meth c H locs 0 0 Q (F0 m pc ls (.int (nI b) :: .int (nI a) :: rest)) :=
  lv_iadd hC.1 hC.2.1 hdg (by rw [nI_add]; exact k)
theorem q_subN (hC : Cxt E p s m args meth c cc nL ret own A) {a b : Nat} (h : b ≤ a) (hdg : decode cc pc = .ok (.isub, 1)) (k : W p l e R s m args below meth c H locs 0 0 Q (F0 m (pc + 1) ls (.int (nI (a - b)) :: rest))) : W p l e R s m args below meth c H locs 0 0 Q (F0 m pc ls (.int (nI b) :: .int (nI a) :: rest)) :=
  lv_isub hC.1 hC.2.1 hdg (by rw [pk_sub h]; exact k)
theorem q_mulN (hC : Cxt E p s m args meth c cc nL ret own A) {a b : Nat} (hdg : decode cc pc = .ok (.imul, 1)) (k : W p l e R s m args below meth c H locs 0 0 Q (F0 m (pc + 1) ls (.int (nI (a * b)) :: rest))) : W p l e R s m args below meth c H locs 0 0 Q (F0 m pc ls (.int (nI b) :: .int (nI a) :: rest)) :=
  lv_imul hC.1 hC.2.1 hdg (by rw [pk_mul]; exact k)
theorem q_divN (hC : Cxt E p s m args meth c cc nL ret own A) {a b : Nat} (ha : a < 2 ^ 31) (h0 : 0 < b) (hb : b < 2 ^ 31) (hdg : decode cc pc = .ok (.idiv, 1)) (k : W p l e R s m args below meth c H locs 0 0 Q (F0 m (pc + 1) ls (.int (nI (a / b)) :: rest))) : W p l e R s m args below meth c H locs 0 0 Q (F0 m pc ls (.int (nI b) :: .int (nI a) :: rest)) :=
  lv_idiv hC.1 hC.2.1 hdg (nI_ne0 h0 hb) (by rw [pk_div ha h0 hb]; exact k)
theorem q_remN (hC : Cxt E p s m args meth c cc nL ret own A) {a b : Nat} (ha : a < 2 ^ 31) (h0 : 0 < b) (hb : b < 2 ^ 31) (hdg : decode cc pc = .ok (.irem, 1)) (k : W p l e R s m args below meth c H locs 0 0 Q (F0 m (pc + 1) ls (.int (nI (a % b)) :: rest))) : W p l e R s m args below meth c H locs 0 0 Q (F0 m pc ls (.int (nI b) :: .int (nI a) :: rest)) :=
  lv_irem hC.1 hC.2.1 hdg (nI_ne0 h0 hb) (by rw [pk_rem ha h0 hb]; exact k)
/-- another name for the number on the stack -/
theorem q_top {x y : Int32} (h : x = y) (k : W p l e R s m args below meth c H locs 0 0 Q (F0 m pc ls (.int y :: rest))) : W p l e R s m args below meth c H locs 0 0 Q (F0 m pc ls (.int x :: rest)) := h ▸ k
/-- branches: the condition in the walk's own words -/
theorem q_ifeq (hC : Cxt E p s m args meth c cc nL ret own A) {x : Int32} {P P' : Prop} {off : Int} (tgt : Nat) (hP : (x = 0 ↔ P) ∧ (¬ x = 0 ↔ P')) (hdg : decode cc pc = .ok (.ifCond .eq off, 3)) (ht : (pc : Int) + off = (tgt : Int)) (kt : P → W p l e R s m args below meth c H locs 0 0 Q (F0 m tgt ls rest)) (kf : P' → W p l e R s m args below meth c H locs 0 0 Q (F0 m (pc + 3) ls rest)) : W p l e R s m args below meth c H locs 0 0 Q (F0 m pc ls (.int x :: rest)) :=
  lv_if_eq hC.1 hC.2.1 hdg ht (fun h => kt (hP.1.mp h)) (fun h => kf (hP.2.mp h))
theorem q_ifne (hC : Cxt E p s m args meth c cc nL ret own A) {x : Int32} {P P' : Prop} {off : Int} (tgt : Nat) (hP : (x = 0 ↔ P') ∧ (¬ x = 0 ↔ P)) (hdg : decode cc pc = .ok (.ifCond .ne off, 3)) (ht : (pc : Int) + off = (tgt : Int)) (kt : P → W p l e R s m args below meth c H locs 0 0 Q (F0 m tgt ls rest)) (kf : P' → W p l e R s m args below meth c H locs 0 0 Q (F0 m (pc + 3) ls rest)) : W p l e R s m args below meth c H locs 0 0 Q (F0 m pc ls (.int x :: rest)) :=
  lv_if_ne hC.1 hC.2.1 hdg ht (fun h => kt (hP.2.mp h)) (fun h => kf (hP.1.mp h))
theorem q_iflt (hC : Cxt E p s m args meth c cc nL ret own A) {x : Int32} {P P' : Prop} {off : Int} (tgt : Nat) (hP : (x < 0 ↔ P) ∧ (¬ x < 0 ↔ P')) (hdg : decode cc pc = .ok (.ifCond .lt off, 3)) (ht : (pc : Int) + off = (tgt : Int)) (kt : P → W p l e R s m args below meth c H locs 0 0 Q (F0 m tgt ls rest)) (kf : P' → W p l e R s m args below meth c H locs 0 0 Q (F0 m (pc + 3) ls rest)) : W p l e R s m args below meth c H locs 0 0 Q (F0 m pc ls (.int x :: rest)) :=
  lv_if_lt hC.1 hC.2.1 hdg ht (fun h => kt (hP.1.mp h)) (fun h => kf (hP.2.mp h))
theorem q_ifge (hC : Cxt E p s m args meth c cc nL ret own A) {x : Int32} {P P' : Prop} {off : Int} (tgt : Nat) (hP : (0 ≤ x ↔ P) ∧ (¬ 0 ≤ x ↔ P')) (hdg : decode cc pc = .ok (.ifCond .ge off, 3)) (ht : (pc : Int) + off = (tgt : Int)) (kt : P → W p l e R s m args below meth c H locs 0 0 Q (F0 m tgt ls rest)) (kf : P' → W p l e R s m args below meth c H locs 0 0 Q (F0 m (pc + 3) ls rest)) : W p l e R s m args below meth c H locs 0 0 Q (F0 m pc ls (.int x :: rest)) :=
  lv_if_ge hC.1 hC.2.1 hdg ht (fun h => kt (hP.1.mp h)) (fun h => kf (hP.2.mp h))
theorem q_ifgt (hC : Cxt E p s m args meth c cc nL ret own A) {x : Int32} {P P' : Prop} {off : Int} (tgt : Nat) (hP : (0 < x ↔ P) ∧ (¬ 0 < x ↔ P')) (hdg : decode cc pc = .ok (.ifCond .gt off, 3)) (ht : (pc : Int) + off = (tgt : Int)) (kt : P → W p l e R s m args below meth c H locs 0 0 Q (F0 m tgt ls rest)) (kf : P' → W p l e R s m args below meth c H locs 0 0 Q (F0 m (pc + 3) ls rest)) : W p l e R s m args below meth c H locs 0 0 Q (F0 m pc ls (.int x :: rest)) :=
  lv_if_gt hC.1 hC.2.1 hdg ht (fun h => kt (hP.1.mp h)) (fun h => kf (hP.2.mp h))
theorem q_ifle (hC : Cxt E p s m args meth c cc nL ret own A) {x : Int32} {P P' : Prop} {off : Int} (tgt : Nat) (hP : (x ≤ 0 ↔ P) ∧ (¬ x ≤ 0 ↔ P')) (hdg : decode cc pc = .ok (.ifCond .le off, 3)) (ht : (pc : Int) + off = (tgt : Int)) (kt : P → W p l e R s m args below meth c H locs 0 0 Q (F0 m tgt ls rest)) (kf : P' → W p l e R s m args below meth c H locs 0 0 Q (F0 m (pc + 3) ls rest)) : W p l e R s m args below meth c H locs 0 0 Q (F0 m pc ls (.int x :: rest)) :=
  lv_if_le hC.1 hC.2.1 hdg ht (fun h => kt (hP.1.mp h)) (fun h => kf (hP.2.mp h))
theorem q_cmpeq (hC : Cxt E p s m args meth c cc nL ret own A) {x y : Int32} {P P' : Prop} {off : Int} (tgt : Nat) (hP : (x = y ↔ P) ∧ (¬ x = y ↔ P')) (hdg : decode cc pc = .ok (.if_icmp .eq off, 3)) (ht : (pc : Int) + off = (tgt : Int)) (kt : P → W p l e R s m args below meth c H locs 0 0 Q (F0 m tgt ls rest)) (kf : P' → W p l e R s m args below meth c H locs 0 0 Q (F0 m (pc + 3) ls rest)) : W p l e R s m args below meth c H locs 0 0 Q (F0 m pc ls (.int y :: .int x :: rest)) :=
  lv_icmp_eq hC.1 hC.2.1 hdg ht (fun h => kt (hP.1.mp h)) (fun h => kf (hP.2.mp h))
theorem q_cmpne (hC : Cxt E p s m args meth c cc nL ret own A) {x y : Int32} {P P' : Prop} {off : Int} (tgt : Nat) (hP : (x = y ↔ P') ∧ (¬ x = y ↔ P)) (hdg : decode cc pc = .ok (.if_icmp .ne off, 3)) (ht : (pc : Int) + off = (tgt : Int)) (kt : P → W p l e R s m args below meth c H locs 0 0 Q (F0 m tgt ls rest)) (kf : P' → W p l e R s m args below meth c H locs 0 0 Q (F0 m (pc + 3) ls rest)) : W p l e R s m args below meth c H locs 0 0 Q (F0 m pc ls (.int y :: .int x :: rest)) :=
  lv_icmp_ne hC.1 hC.2.1 hdg ht (fun h => kt (hP.2.mp h)) (fun h => kf (hP.1.mp h))
theorem q_cmplt (hC : Cxt E p s m args meth c cc nL ret own A) {x y : Int32} {P P' : Prop} {off : Int} (tgt : Nat) (hP : (x < y ↔ P) ∧ (¬ x < y ↔ P')) (hdg : decode cc pc = .ok (.if_icmp .lt off, 3)) (ht : (pc : Int) + off = (tgt : Int)) (kt : P → W p l e R s m args below meth c H locs 0 0 Q (F0 m tgt ls rest)) (kf : P' → W p l e R s m args below meth c H locs 0 0 Q (F0 m (pc + 3) ls rest)) : W p l e R s m args below meth c H locs 0 0 Q (F0 m pc ls (.int y :: .int x :: rest)) :=
  lv_icmp_lt hC.1 hC.2.1 hdg ht (fun h => kt (hP.1.mp h)) (fun h => kf (hP.2.mp h))
theorem q_cmpge (hC : Cxt E p s m args meth c cc nL ret own A) {x y : Int32} {P P' : Prop} {off : Int} (tgt : Nat) (hP : (y ≤ x ↔ P) ∧ (¬ y ≤ x ↔ P')) (hdg : decode cc pc = .ok (.if_icmp .ge off, 3)) (ht : (pc : Int) + off = (tgt : Int)) (kt : P → W p l e R s m args below meth c H locs 0 0 Q (F0 m tgt ls rest)) (kf : P' → W p l e R s m args below meth c H locs 0 0 Q (F0 m (pc + 3) ls rest)) : W p l e R s m args below meth c H locs 0 0 Q (F0 m pc ls (.int y :: .int x :: rest)) :=
  lv_icmp_ge hC.1 hC.2.1 hdg ht (fun h => kt (hP.1.mp h)) (fun h => kf (hP.2.mp h))
theorem q_cmpgt (hC : Cxt E p s m args meth c cc nL ret own A) {x y : Int32} {P P' : Prop} {off : Int} (tgt : Nat) (hP : (y < x ↔ P) ∧ (¬ y < x ↔ P')) (hdg : decode cc pc = .ok (.if_icmp .gt off, 3)) (ht : (pc : Int) + off = (tgt : Int)) (kt : P → W p l e R s m args below meth c H locs 0 0 Q (F0 m tgt ls rest)) (kf : P' → W p l e R s m args below meth c H locs 0 0 Q (F0 m (pc + 3) ls rest)) : W p l e R s m args below meth c H locs 0 0 Q (F0 m pc ls (.int y :: .int x :: rest)) :=
  lv_icmp_gt hC.1 hC.2.1 hdg ht (fun h => kt (hP.1.mp h)) (fun h => kf (hP.2.mp h))
theorem q_cmple (hC : Cxt E p s m args meth c cc nL ret own A) {x y : Int32} {P P' : Prop} {off : Int} (tgt : Nat) (hP : (x ≤ y ↔ P) ∧ (¬ x ≤ y ↔ P')) (hdg : decode cc pc = .ok (.if_icmp .le off, 3)) (ht : (pc : Int) + off = (tgt : Int)) (kt : P → W p l e R s m args below meth c H locs 0 0 Q (F0 m tgt ls rest)) (kf : P' → W p l e R s m args below meth c H locs 0 0 Q (F0 m (pc + 3) ls rest)) : W p l e R s m args below meth c H locs 0 0 Q (F0 m pc ls (.int y :: .int x :: rest)) :=
  lv_icmp_le hC.1 hC.2.1 hdg ht (fun h => kt (hP.1.mp h)) (fun h => kf (hP.2.mp h))
end QC
/-- a contract out of a walk: to any Q that the method's return leads to -/
theorem MI.mk {l : Launch} {E : EV} {Wf : St → va_W} {y : MethodName} {cc : ByteArray} {nL : Nat} {ty : FieldType} {rm : Room} {av : List Value} {σ : St} {post : Int32 → St → Prop} (hy : plainName y.cls = true) (hn : (lg_sl av).length ≤ nL)
    (h : ∀ (p : Program) (e : Env) (s : State) (m : MethodId) (args : Array Value) (below : List Frame) (meth : Method) (c : Code) (ls : Array Slot) (A : Nat → Prop) (Q : State → Prop), (∀ (x : Int32) (u : St) (H : Heap) (locs : List Loc) (ls : Array Slot) (pc : Nat), Wst E Wf u A s.heap H locs → post x u → narrow ty (.int x) = .int x → decode cc pc = .ok (.ireturn, 1) → W p l e rm s m args below meth c H locs 0 0 Q (F0 m pc ls [.int x])) →
      Cxt E p s m args meth c cc nL (some ty) y.cls A → Wst E Wf σ A s.heap s.heap [] → lv_has ls nL (lv_args 0 av) → W p l e rm s m args below meth c s.heap [] 0 0 Q (F0 m 0 ls [])) : MI l E Wf y (Cond.code y cc nL (some ty)) rm av σ post := by
  intro sz
  refine Met.ofW (cc := cc) (maxL := nL) (ret := some ty) hy rfl ?_
  intro p e s m args below meth c s₁ B hml hv
  obtain ⟨rfl, hsz, hP, hK, hD0, hS0⟩ := hv
  have hts := atoms_spec (ws := Cond.code y cc nL (some ty) :: tw) B.pre
  have hown : s.vm.findClass y.cls = some m.cls := findClass_of_methodNamed B.named
  subst hsz
  have hl := lv_entry av (n := nL) hn
  rw [lg_entry_eq]
  have hC : Cxt E p s m av.toArray meth c cc nL (some ty) y.cls (va_A (Wf σ) s.heap.size) := ⟨B.exec, B.bytes, hml, hown, fun w hw => hts w (List.mem_cons_of_mem _ hw), hK, hS0, fun q h => Or.inr h, B.returns, B.notSynchronized⟩
  exact h p e s m _ below meth c _ _ _ (fun x u H locs ls pc hw hp hnr hdg => W.zret hC.1 hC.2.1 hC.2.2.2.2.2.2.2.2.1 hnr (fun t ht hW => ⟨⟨x, u, rfl, hp, by rw [PostW, ht]; exact ⟨hw.1, hw.2.1⟩⟩, hw.2.2.F ht⟩) hw.2.2.2.2 hdg hC.2.2.2.2.2.2.2.2.2) hC ⟨hP, hD0.self, va_S.rf⟩ hl
theorem MV.mk {l : Launch} {E : EV} {Wf : St → va_W} {y : MethodName} {cc : ByteArray} {nL : Nat} {rm : Room} {av : List Value} {σ : St} {post : St → Prop} (hy : plainName y.cls = true) (hn : (lg_sl av).length ≤ nL)
    (h : ∀ (p : Program) (e : Env) (s : State) (m : MethodId) (args : Array Value) (below : List Frame) (meth : Method) (c : Code) (ls : Array Slot) (A : Nat → Prop) (Q : State → Prop), (∀ (u : St) (H : Heap) (locs : List Loc) (ls : Array Slot) (pc : Nat), Wst E Wf u A s.heap H locs → post u → decode cc pc = .ok (.return_, 1) → W p l e rm s m args below meth c H locs 0 0 Q (F0 m pc ls [])) →
      Cxt E p s m args meth c cc nL none y.cls A → Wst E Wf σ A s.heap s.heap [] → lv_has ls nL (lv_args 0 av) → W p l e rm s m args below meth c s.heap [] 0 0 Q (F0 m 0 ls [])) : MV l E Wf y (Cond.code y cc nL none) rm av σ post := by
  intro sz
  refine Met.ofW (cc := cc) (maxL := nL) (ret := none) hy rfl ?_
  intro p e s m args below meth c s₁ B hml hv
  obtain ⟨rfl, hsz, hP, hK, hD0, hS0⟩ := hv
  have hts := atoms_spec (ws := Cond.code y cc nL none :: tw) B.pre
  have hown : s.vm.findClass y.cls = some m.cls := findClass_of_methodNamed B.named
  subst hsz
  have hl := lv_entry av (n := nL) hn
  rw [lg_entry_eq]
  have hC : Cxt E p s m av.toArray meth c cc nL none y.cls (va_A (Wf σ) s.heap.size) := ⟨B.exec, B.bytes, hml, hown, fun w hw => hts w (List.mem_cons_of_mem _ hw), hK, hS0, fun q h => Or.inr h, B.returns, B.notSynchronized⟩
  exact h p e s m _ below meth c _ _ _ (fun u H locs ls pc hw hp hdg => W.vret hC.1 hC.2.1 hC.2.2.2.2.2.2.2.2.1 (fun t ht hW => ⟨⟨u, rfl, hp, by rw [PostW, ht]; exact ⟨hw.1, hw.2.1⟩⟩, hw.2.2.F ht⟩) hw.2.2.2.2 hdg hC.2.2.2.2.2.2.2.2.2) hC ⟨hP, hD0.self, va_S.rf⟩ hl
/-- conditions in other words -/
theorem cI {a : Prop} : (a ↔ a) ∧ (¬ a ↔ ¬ a) := ⟨Iff.rfl, Iff.rfl⟩
theorem cNle {a b : Nat} (ha : a < 2 ^ 31) (hb : b < 2 ^ 31) : (nI a ≤ nI b ↔ a ≤ b) ∧ (¬ nI a ≤ nI b ↔ b < a) := ⟨nI_leI ha hb, by rw [nI_leI ha hb]; omega⟩
theorem cNlt {a b : Nat} (ha : a < 2 ^ 31) (hb : b < 2 ^ 31) : (nI a < nI b ↔ a < b) ∧ (¬ nI a < nI b ↔ b ≤ a) := ⟨nI_ltI ha hb, by rw [nI_ltI ha hb]; omega⟩
theorem cNeq {a b : Nat} (ha : a < 2 ^ 31) (hb : b < 2 ^ 31) : (nI a = nI b ↔ a = b) ∧ (¬ nI a = nI b ↔ a ≠ b) := ⟨nI_eq ha hb, by rw [nI_eq ha hb]⟩
theorem cN0 {a : Nat} (ha : a < 2 ^ 31) : (nI a = 0 ↔ a = 0) ∧ (¬ nI a = 0 ↔ a ≠ 0) := cNeq ha (by decide)
theorem cB {q : Prop} [Decidable q] : ((if q then (1 : Int32) else 0) = 0 ↔ ¬ q) ∧ (¬ (if q then (1 : Int32) else 0) = 0 ↔ q) := by
  by_cases h : q <;> simp [h]
theorem nz_B {q : Prop} [Decidable q] : narrow .boolean (.int (if q then (1 : Int32) else 0)) = .int (if q then (1 : Int32) else 0) := by
  by_cases h : q <;> simp [h] <;> rfl
theorem vz_B {q : Prop} [Decidable q] : vp_nar .boolean (if q then (1 : Int32) else 0) = (if q then (1 : Int32) else 0) := by
  by_cases h : q <;> simp [h] <;> rfl
