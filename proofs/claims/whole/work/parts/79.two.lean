/-! ===== CALLS IN A WORLD OF TWO ===== -/
section TWO
variable {D : va_G} {cl : List vw_C} {w1 w2 : va_W} {H : Heap} {A : Nat → Prop}
theorem va_P.lf (h : va_P D cl (w1 ++ w2) H) : va_P D cl w1 H := fun k q hk => h k q (by rw [List.getElem?_append_left (List.getElem?_eq_some_iff.mp hk).1]; exact hk)
theorem va_P.rt (h : va_P D cl (w1 ++ w2) H) : va_P D cl w2 H := fun k q hk => h (w1.length + k) q (by rw [List.getElem?_append_right (Nat.le_add_right _ _), Nat.add_sub_cancel_left]; exact hk)
theorem va_D.lf (h : va_D A (w1 ++ w2)) : va_D A w1 :=
  ⟨fun i j p q hi hj e => h.1 i j p q (by rw [List.getElem?_append_left (List.getElem?_eq_some_iff.mp hi).1]; exact hi) (by rw [List.getElem?_append_left (List.getElem?_eq_some_iff.mp hj).1]; exact hj) e,
   fun k q hk => h.2 k q (by rw [List.getElem?_append_left (List.getElem?_eq_some_iff.mp hk).1]; exact hk)⟩
theorem va_D.rt (h : va_D A (w1 ++ w2)) : va_D A w2 :=
  ⟨fun i j p q hi hj e => Nat.add_left_cancel (h.1 (w1.length + i) (w1.length + j) p q (by rw [List.getElem?_append_right (Nat.le_add_right _ _), Nat.add_sub_cancel_left]; exact hi) (by rw [List.getElem?_append_right (Nat.le_add_right _ _), Nat.add_sub_cancel_left]; exact hj) e),
   fun k q hk => h.2 (w1.length + k) q (by rw [List.getElem?_append_right (Nat.le_add_right _ _), Nat.add_sub_cancel_left]; exact hk)⟩
theorem va_D.ap (h : va_D A (w1 ++ w2)) (i j : Nat) (p q : Nat × va_E) (hi : w1[i]? = some p) (hj : w2[j]? = some q) : p.1 ≠ q.1 := fun e => by
  have hl := (List.getElem?_eq_some_iff.mp hi).1
  have := h.1 i (w1.length + j) p q (by rw [List.getElem?_append_left hl]; exact hi) (by rw [List.getElem?_append_right (Nat.le_add_right _ _), Nat.add_sub_cancel_left]; exact hj) e
  omega
end TWO
section LC
variable {p : Program} {l : Launch} {e : Env} {R : Room} {s : State} {m : MethodId} {args : Array Value} {below : List Frame} {meth : Method} {c : Code} {H : Heap} {locs : List Loc} {cells slots : Nat} {Q : State → Prop} {E : EV} {A : Nat → Prop} {cc : ByteArray} {nL pc : Nat} {ret : Option FieldType} {own : String} {ls : Array Slot} {rest : List Value} {Wf : St → va_W} {σ : St} {w2 : va_W}
theorem Wk.swap {w1 : va_W} (h : Wk E (w1 ++ w2) A s.heap H locs) : Wk E (w2 ++ w1) A s.heap H locs :=
  ⟨h.1.rt.app h.1.lf, h.2.1.rt.app h.2.1.lf (fun i j p q hi hj e => h.2.1.ap j i q p hj hi e.symm), h.2.2⟩
theorem l_call {C : String} {index maxL n : Nat} {y : MethodName} {bytes : ByteArray} {r : Option FieldType} {rm : Room} {As st0 : List Value} {lv : List (Nat × Value)} {b q0 ci : Nat} {fs : List Value} {q : vw_C} {post : Int32 → St → Prop}
    (hC : Cxt E p s m args meth c cc nL ret own A) (hw : Wk E (Wf σ ++ w2) A s.heap H locs) (hl : lv_has ls nL lv) (hM : MI l E Wf y (Cond.code y bytes maxL r) rm (.ref b :: As) σ post)
    (cw : CallW R s args own C index y bytes maxL r (Cond.code y bytes maxL r :: tw) rm 0 0 n) (hq : (Wf σ)[q0]? = some (b, .inr (ci, fs))) (hc : vwCl[ci]? = some q) (hqC : q.1 = C) (hn : As.length = n)
    (hst : st0 = As.reverse ++ .ref b :: rest) (hcat : (rest.map fun v => v.category).sum ≤ 8) (hdg : decode cc pc = .ok (.invokevirtual index, 3)) (hf : cells ≤ R.cells ∧ slots ≤ R.slots)
    (kk : ∀ (x : Int32) (σ' : St) (H1 : Heap) (locs1 : List Loc), post x σ' → Wk E (Wf σ' ++ w2) A s.heap H1 locs1 → W p l e R s m args below meth c H1 locs1 cells slots Q (F0 m (pc + 3) ls (.int x :: rest))) : W p l e R s m args below meth c H locs cells slots Q (F0 m pc ls st0) := by
  have hw1 : Wst E Wf σ A s.heap H locs := ⟨hw.1.lf, hw.2.1.lf, hw.2.2⟩
  obtain ⟨hx, hb, hml, hown, hts, hK, -, -, -⟩ := id hC
  subst hqC
  refine va_calli (va_runV (As := As) (rest := rest) (C := q.1) ⟨hx, hb, hml, hown, hts⟩ (hM H.size) cw ⟨pre_blind, va_recv hK.1 hw1.1 hc hq, fun U hU hW => pre_at hC hw1 hU hW⟩ rfl hn hl.1 hst (lv_room hcat) hdg hf) hw.2.2 (fun q _ h => Wst.free hC hw1 q h) (Wst.free hC hw1) (fun x u t H1 locs1 ht hvm hp hB hz1 hk1 hS => ?_)
  have hw3 := Wst.after hC hw1 ht hB hS
  refine kk x u H1 locs1 hp ⟨hw3.1.app (hw.1.rt.kept (fun k q hk => ?_)), hw3.2.1.app hw.2.1.rt (fun i j a b hi hj e => ?_), hS⟩
  · refine hk1 q.1 (hw.1.rt k q hk).lt ?_
    rintro (⟨i, e', hi⟩ | h)
    · exact hw.2.1.ap i k (q.1, e') q hi hk rfl
    · exact absurd (hw.1.rt k q hk).lt (Nat.not_lt.mpr h)
  · have hm := hB.2.2 i a hi
    rcases hm with ⟨i', e', hi'⟩ | h
    · exact hw.2.1.ap i' j (a.1, e') b hi' hj e
    · exact absurd (hw.1.rt j b hj).lt (Nat.not_lt.mpr (e ▸ h))
theorem l_addN {a b : Nat} (hC : Cxt E p s m args meth c cc nL ret own A) (hdg : decode cc pc = .ok (.iadd, 1)) (k : W p l e R s m args below meth c H locs cells slots Q (F0 m (pc + 1) ls (.int (nI (a + b)) :: rest))) : W p l e R s m args below meth c H locs cells slots Q (F0 m pc ls (.int (nI b) :: .int (nI a) :: rest)) :=
  lv_iadd hC.1 hC.2.1 hdg (by rw [nI_add]; exact k)
theorem l_sld {b L i : Nat} {xs : Nat → Int32} (hC : Cxt E p s m args meth c cc nL ret own A) (hX : va_X b L xs s s.heap) (hbl : b < s.heap.size) (hbA : ¬ A b) (hS : va_S A s.heap H locs) (hi : i < L) (hL : L < 2 ^ 31) (hdg : decode cc pc = .ok (.iaload, 1))
    (k : W p l e R s m args below meth c H locs cells slots Q (F0 m (pc + 1) ls (.int (xs i) :: rest))) : W p l e R s m args below meth c H locs cells slots Q (F0 m pc ls (.int (nI i) :: .ref b :: rest)) :=
  va_sld hC.1 hC.2.1 hX hbl hbA hS (vp_in_nI hi hL) hdg (by rw [nI_clamp (Nat.lt_trans hi hL)]; exact k)
end LC
