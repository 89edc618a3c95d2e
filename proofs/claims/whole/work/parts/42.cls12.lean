theorem fal_eq {v : Nat → Int32} {nh nj h j : Nat} (hW : mF v nh nj) (hh : h < nh) (hj : j < nj) : eM (f_fal v h j) 11 j = eM v 11 j ∧ eM (f_fal v h j) 12 j = eM v 12 j ∧ eM (f_fal v h j) 5 j = eM v 5 j := by
  have h1 := hW.1; have h2 := hW.2.1
  exact ⟨f_fal_at (Nat.le_refl _) (by omega), f_fal_o (k := 282 + j) (by omega) (by omega) (by omega), f_fal_o (k := 66 + j) (by omega) (by omega) (by omega)⟩
theorem fal_st {v : Nat → Int32} {nh nj h j : Nat} (hW : mF v nh nj) (hh : h < nh) (hj : j < nj) (hs : eM v 11 j = 1 ∧ eM v 12 j = nI h) : f_fal v h (j + 1) = upd (f_fal v h j) (258 + j) (if eM v 5 j = 3 then 2 else 0) := by
  obtain ⟨e1, e2, e3⟩ := fal_eq hW hh hj
  have := f_fal_s hW hh hj
  rw [e1, e2, e3, if_pos hs] at this
  exact this.symm
theorem fal_no {v : Nat → Int32} {nh nj h j : Nat} (hW : mF v nh nj) (hh : h < nh) (hj : j < nj) (hs : ¬ (eM v 11 j = 1 ∧ eM v 12 j = nI h)) : f_fal v h (j + 1) = f_fal v h j := by
  obtain ⟨e1, e2, e3⟩ := fal_eq hW hh hj
  have := f_fal_s hW hh hj
  rw [e1, e2, if_neg hs] at this
  exact this.symm
theorem fal_TL {v : Nat → Int32} {nh nj h j : Nat} (hW : mF v nh nj) (hh : h < nh) (hj : j < nj) (hs : eM v 11 j = 1 ∧ eM v 12 j = nI h) : TL (pB (eM (f_fal v h j)) (-1)) (pB (eM (f_fal v h (j + 1))) (-1)) j h (-1) := by
  have h2 := hW.2.1
  obtain ⟨e1, e2, e3⟩ := fal_eq hW hh hj
  refine Or.inr ⟨rfl, ?_, ?_⟩
  · unfold pB
    rw [if_neg (fun q => nI_nm1 (by omega) q.symm), if_pos (e1.trans hs.1), e2]; exact hs.2
  · rw [fal_st hW hh hj hs]
    exact pB_out (by omega) (by split <;> decide)
theorem fal_0P {v : Nat → Int32} {h : Nat} (hh : h < 10) (k : Nat) : pB (eM v) (-1) k = pB (eM (f_fal v h 0)) (-1) k := by
  unfold pB
  rw [show eM (f_fal v h 0) 11 k = eM v 11 k from f_fal_at (Nat.zero_le _) hh, show eM (f_fal v h 0) 12 k = eM v 12 k from f_fal_o (k := 282 + k) (by omega) (by omega) hh]
theorem fwL_mono {v : Nat → Int32} {h j : Nat} : ∀ {n : Nat}, j ≤ n → (fwL v h j).length ≤ (fwL v h n).length
  | 0, hn => by rw [show j = 0 by omega]; exact Nat.le_refl _
  | n + 1, hn => by
    by_cases e : j = n + 1
    · rw [e]; exact Nat.le_refl _
    · have := fwL_mono (v := v) (h := h) (j := j) (n := n) (by omega)
      rw [fwL]; split
      · rw [List.length_append]; omega
      · exact this
/-- rows of E0, host h down -/
def dn (E0 : St) (h : Nat) : St := sr E0 4 (upd (E0 4) h 0)
theorem cS.dn {E0 : St} {nh nj h : Nat} (hS : cS E0 nh nj) : cS (dn E0 h) nh nj := by
  refine ⟨hS.1, hS.2.1, fun x hx => ⟨(hS.2.2.1 x hx).1, ?_, (hS.2.2.1 x hx).2.2⟩, hS.2.2.2⟩
  show upd (E0 4) h 0 x = 0 ∨ upd (E0 4) h 0 x = 1
  by_cases e : x = h
  · subst e; rw [ups]; exact Or.inl rfl
  · rw [upn e]; exact (hS.2.2.1 x hx).2.1
theorem dn_ag {E0 : St} {v : Nat → Int32} {nh nj h : Nat} (hA : agE E0 (eM v) nh nj) (hn : nh ≤ 10) (hj : nj ≤ 24) (hh : h < nh) : agE (dn E0 h) (eM (f_fal v h nj)) nh nj := by
  have o : ∀ i, (i < 56 ∨ 66 ≤ i) → i < 258 → f_fal v h nj i = v i := fun i h1 h2 => f_fal_o h1 (Or.inl h2) (by omega)
  refine ⟨fun x hx => ⟨fun i hi => ((hA.1 x hx).1 i hi).trans (o (6 + (3 * x + i)) (by omega) (by omega)).symm, (hA.1 x hx).2.1.trans (o (36 + x) (by omega) (by omega)).symm, (hA.1 x hx).2.2.1.trans (o (46 + x) (by omega) (by omega)).symm, ?_⟩,
    fun x hx => ⟨fun i hi => ((hA.2 x hx).1 i hi).trans (o (90 + (3 * x + i)) (by omega) (by omega)).symm, (hA.2 x hx).2.1.trans (o (66 + x) (by omega) (by omega)).symm, (hA.2 x hx).2.2.1.trans (o (186 + x) (by omega) (by omega)).symm, (hA.2 x hx).2.2.2.1.trans (o (210 + x) (by omega) (by omega)).symm, (hA.2 x hx).2.2.2.2.trans (o (234 + x) (by omega) (by omega)).symm⟩⟩
  show upd (E0 4) h 0 x = f_fal v h nj (56 + x)
  unfold f_fal
  by_cases e : x = h
  · subst e; rw [ups, if_pos rfl]
  · rw [upn e, if_neg (by omega), if_neg (by omega)]; exact (hA.1 x hx).2.2.2
theorem fitC_ag {E0 E1 : St} {F : Nat → Nat} {fm nh nj k h : Nat} {P0 : Nat → Int32} {p : Nat → Nat} (hE : agE E0 E1 nh nj) (hn : nh ≤ 10) (h0 : okP P0 nh nj) (hF : Fok F fm nj) (hp : okC nh fm p) (hk : k < fm) (hh : h < nh) : fitC E0 F fm P0 nh nj p k h ↔ fitC E1 F fm P0 nh nj p k h := by
  unfold fitC
  rw [m_why_congr hE (fun _ _ => rfl) (fun j hj => ?_) hn (hF.1 k hk) hh]
  by_cases e : j = F k
  · rw [e, ups]; exact Or.inl rfl
  · rw [upn e]; exact okP_pP h0 hF hp j hj
theorem Rch.ag {E0 E1 : St} {F : Nat → Nat} {fm nh nj : Nat} {P0 : Nat → Int32} {p : Nat → Nat} (hE : agE E0 E1 nh nj) (hn : nh ≤ 10) (h0 : okP P0 nh nj) (hF : Fok F fm nj) (h : Rch E0 F fm P0 nh nj p) : Rch E1 F fm P0 nh nj p :=
  (h (fun q => okC nh fm q ∧ Rch E1 F fm P0 nh nj q) ⟨fun _ _ => Or.inl rfl, Rch.z⟩ (fun q k x hq hk hx hqk hf => ⟨pu_ok hq.1 hx, hq.2.n hk hx hqk ((fitC_ag hE hn h0 hF hq.1 hk hx).mp hf)⟩)).2
theorem agE.sy {E0 E1 : St} {nh nj : Nat} (h : agE E0 E1 nh nj) : agE E1 E0 nh nj :=
  ⟨fun x hx => ⟨fun i hi => ((h.1 x hx).1 i hi).symm, (h.1 x hx).2.1.symm, (h.1 x hx).2.2.1.symm, (h.1 x hx).2.2.2.symm⟩, fun x hx => ⟨fun i hi => ((h.2 x hx).1 i hi).symm, (h.2 x hx).2.1.symm, (h.2 x hx).2.2.1.symm, (h.2 x hx).2.2.2.1.symm, (h.2 x hx).2.2.2.2.symm⟩⟩
theorem Saf.ag {E0 E1 : St} {F : Nat → Nat} {fm nh nj : Nat} {P0 : Nat → Int32} (hE : agE E0 E1 nh nj) (hn : nh ≤ 10) (h0 : okP P0 nh nj) (hF : Fok F fm nj) : Saf E0 F fm P0 nh nj ↔ Saf E1 F fm P0 nh nj :=
  ⟨fun ⟨p, h1, h2⟩ => ⟨p, h1.ag hE hn h0 hF, h2⟩, fun ⟨p, h1, h2⟩ => ⟨p, h1.ag hE.sy hn h0 hF, h2⟩⟩
/-- how many would wait if h fell, as the class counts -/
def c_mny (σ : St) (h : Nat) (n : Nat) : Int32 := sm (fun j => if (σ 11 j = 1 ∧ σ 12 j = nI h) ∧ (σ 11 j = 1 ∧ ¬ σ 5 j = 3) then 1 else 0) n
theorem JX.PL {σ : St} {v : Nat → Int32} {nh nj : Nat} (hX : JX σ v nj) (hW : mF v nh nj) : PL σ (pB (eM v) (-1)) nh nj := fun j hj => by
  have h2 := hW.2.1
  have hn : ¬ nI j = -1 := fun q => nI_nm1 (show j < 2 ^ 31 by omega) q.symm
  obtain ⟨a, b, c, d⟩ := hX j hj
  rw [c]
  refine ⟨fun q => ?_, fun q => ?_⟩
  · obtain ⟨x, x1, x2⟩ := hW.2.2.2.2 j hj q
    have x2 : eM v 12 j = nI x := x2
    refine ⟨x, x1, by rw [(d q).1, x2], ?_⟩
    unfold pB; rw [if_neg hn, if_pos q, x2]
  · unfold pB; rw [if_neg hn, if_neg q]
theorem mem_app {l : List Nat} {j h : Nat} {d23 d24 : Nat → Int32} (hm : ∀ i, i < l.length → d23 i = nI (gd l i) ∧ d24 i = nI h) : ∀ i, i < (l ++ [j]).length → upd d23 l.length (nI j) i = nI (gd (l ++ [j]) i) ∧ upd d24 l.length (nI h) i = nI h := fun i hi => by
  rw [List.length_append] at hi
  simp only [List.length_singleton] at hi
  by_cases e : i = l.length
  · rw [gd_r e, e, ups, ups]; exact ⟨rfl, rfl⟩
  · rw [gd_l (by omega), upn e, upn e]; exact hm i (by omega)
theorem aE.dn {σ E0 : St} {h : Nat} (hE : aE σ E0) : aE (dn σ h) (dn E0 h) := by
  obtain ⟨h1, h2, h3, h4, h5⟩ := hE
  exact ⟨h1, h2, h3, by show upd (σ 4) h 0 = upd (E0 4) h 0; rw [h4], h5⟩
set_option maxHeartbeats 4000000 in
set_option maxRecDepth 100000 in
theorem tX3_isTooMuch (l : Launch) (E : EV) (a : Nat → Nat) (σ : St) (nh : Nat) (nj : Nat) (hN : cN2 σ nh nj) (h10 : nh ≤ 10) (h24 : nj ≤ 24) : MI l E (XW E a) yX3_isTooMuch (Cond.code yX3_isTooMuch cX3_isTooMuch 4 (some .boolean)) ({ frames := 1, cells := 0, slots := 0, locals := 22 }) [.ref (a 64)] σ (fun r_ u_ => r_ = (if ¬ ∀ h, h < nh → c_mny σ h nj ≤ 4 then (1 : Int32) else 0) ∧ u_ = σ) := by
  refine MI.mk (by decide +kernel) (Nat.le_of_ble_eq_true rfl) ?_
  intro p e s m args below meth c ls A Q hret hC hw hl
  have hC : Cxt E p s m args meth c cX3_isTooMuch 4 (some .boolean) RX3 A := hC
  have hl : lv_has ls 4 [(0, .ref (a 64))] := hl
  refine lv_iconst (v := nI 0) hC.1 hC.2.1 dX3_isTooMuch_0 (by decide) ?_
  refine lv_istore_n (lv' := [(1, .int (nI 0)), (0, .ref (a 64))]) hC.1 hC.2.1 dX3_isTooMuch_1 rfl hl (by decide) rfl (fun ls hl => ?_)
  have L2_0 : ∀ (n : Nat), ∀ (h : Nat), (h ≤ nh) → (∀ x, x < h → c_mny σ x nj ≤ 4) → (nh - h) < n → ∀ (H : Heap) (locs : List Loc) (ls : Array Slot), Wst E (XW E a) (σ) A s.heap H locs → lv_has ls 4 [(0, .ref (a 64)), (1, .int (nI h))] → W p l e ({ frames := 1, cells := 0, slots := 0, locals := 22 }) s m args below meth c H locs 0 0 Q (F0 m 2 ls []) := by
    intro n
    induction n with
    | zero => intro h hh hno hn; exact absurd hn (Nat.not_lt_zero _)
    | succ n ih2 =>
      intro h hh hno hn2 H locs ls hw hl
      refine lv_iload_n hC.1 hC.2.1 dX3_isTooMuch_2 rfl (lv_at hl 1 rfl) ?_
      refine lv_aload_n hC.1 hC.2.1 dX3_isTooMuch_3 rfl (lv_at hl 0 rfl) ?_
      refine gf_X3_21 hC hw dX3_isTooMuch_4 ?_
      refine gf_X3_31 (v := nI nh) hC hw hN.1 dX3_isTooMuch_7 ?_
      refine q_cmpge hC 78 (cNle (by omega) (by omega)) dX3_isTooMuch_10 (by decide) (fun (c2 : nh ≤ h) => ?_) (fun (c2 : h < nh) => ?_)
      · refine lv_iconst (v := nI 0) hC.1 hC.2.1 dX3_isTooMuch_78 (by decide) ?_
        refine hret _ _ _ _ _ _ hw ?_ (by decide) dX3_isTooMuch_79
        exact ⟨(if_neg (fun q => q (fun x hx => hno x (by omega)))).symm, rfl⟩
      · refine lv_iconst (v := nI 0) hC.1 hC.2.1 dX3_isTooMuch_13 (by decide) ?_
        refine lv_istore_n (lv' := [(2, .int (nI 0)), (0, .ref (a 64)), (1, .int (nI h))]) hC.1 hC.2.1 dX3_isTooMuch_14 rfl hl (by decide) rfl (fun ls hl => ?_)
        refine lv_iconst (v := nI 0) hC.1 hC.2.1 dX3_isTooMuch_15 (by decide) ?_
        refine lv_istore_n (lv' := [(3, .int (nI 0)), (2, .int (nI 0)), (0, .ref (a 64)), (1, .int (nI h))]) hC.1 hC.2.1 dX3_isTooMuch_16 rfl hl (by decide) rfl (fun ls hl => ?_)
        have L17_2 : ∀ (n : Nat), ∀ (k : Nat), ∀ (mn : Int32), (mn = (c_mny σ h k)) → (k ≤ nj) → (nj - k) < n → ∀ (H : Heap) (locs : List Loc) (ls : Array Slot), Wst E (XW E a) (σ) A s.heap H locs → lv_has ls 4 [(0, .ref (a 64)), (1, .int (nI h)), (2, .int (mn)), (3, .int (nI k))] → W p l e ({ frames := 1, cells := 0, slots := 0, locals := 22 }) s m args below meth c H locs 0 0 Q (F0 m 17 ls []) := by
          intro n
          induction n with
          | zero => intro k mn q_mn hk hn; exact absurd hn (Nat.not_lt_zero _)
          | succ n ih17 =>
            intro k mn q_mn hk hn17 H locs ls hw hl
            subst q_mn
            refine lv_iload_n hC.1 hC.2.1 dX3_isTooMuch_17 rfl (lv_at hl 3 rfl) ?_
            refine lv_aload_n hC.1 hC.2.1 dX3_isTooMuch_18 rfl (lv_at hl 0 rfl) ?_
            refine gf_X3_26 hC hw dX3_isTooMuch_19 ?_
            refine gf_X3_37 (v := nI nj) hC hw hN.2 dX3_isTooMuch_22 ?_
            refine q_cmpge hC 65 (cNle (by omega) (by omega)) dX3_isTooMuch_25 (by decide) (fun (c4 : nj ≤ k) => ?_) (fun (c4 : k < nj) => ?_)
            · refine lv_iload_n hC.1 hC.2.1 dX3_isTooMuch_65 rfl (lv_at hl 2 rfl) ?_
              refine lv_iconst (v := nI 4) hC.1 hC.2.1 dX3_isTooMuch_66 (by decide) ?_
              refine q_cmple hC 72 cI dX3_isTooMuch_67 (by decide) (fun (c5 : c_mny σ h k ≤ 4) => ?_) (fun (c5 : ¬ (c_mny σ h k ≤ 4)) => ?_)
              · refine lv_iinc (v := nI (h + 1)) (lv' := [(1, .int (nI (h + 1))), (0, .ref (a 64)), (2, .int (c_mny σ h k)), (3, .int (nI k))]) hC.1 hC.2.1 dX3_isTooMuch_72 hl (k := 1) rfl (nI_add _ _) (by decide) rfl (fun ls hl => ?_)
                refine lv_goto (tgt := 2) hC.1 hC.2.1 dX3_isTooMuch_75 (by decide) ?_
                have hk9 : k = nj := by omega
                exact ih2 (h + 1) (by omega) (ball_s.mpr ⟨hno, by rw [← hk9]; exact c5⟩) (by omega) _ _ _ hw (lv_sub hl [1, 0] rfl)
              · refine lv_iconst (v := nI 1) hC.1 hC.2.1 dX3_isTooMuch_70 (by decide) ?_
                refine hret _ _ _ _ _ _ hw ?_ (by decide) dX3_isTooMuch_71
                have hk9 : k = nj := by omega
                rw [hk9] at c5
                exact ⟨(if_pos (fun q => c5 (q h (by omega)))).symm, rfl⟩
            · refine lv_iload_n hC.1 hC.2.1 dX3_isTooMuch_28 rfl (lv_at hl 2 rfl) ?_
              refine lv_aload_n hC.1 hC.2.1 dX3_isTooMuch_29 rfl (lv_at hl 0 rfl) ?_
              refine gf_X3_26 hC hw dX3_isTooMuch_30 ?_
              refine lv_iload_n hC.1 hC.2.1 dX3_isTooMuch_33 rfl (lv_at hl 3 rfl) ?_
              refine lv_iload_n hC.1 hC.2.1 dX3_isTooMuch_34 rfl (lv_at hl 1 rfl) ?_
              refine q_callVp (As := [.int (nI k), .int (nI h)]) (rest := [.int (c_mny σ h k)]) (q0 := 7) hC hw hl (tX6_standsOn l E a σ k (nI h) (by first | assumption | omega)) (q_cwV hC.2.2.2.2.1 ⟨rfl, rfl⟩ wk3_141 wk3_56 wk3_57 wk1_3 wk3_58 hd_X6_standsOn ⟨Nat.le_of_ble_eq_true rfl, Nat.le_of_ble_eq_true rfl⟩) rfl rfl rfl rfl rfl (Nat.le_of_ble_eq_true rfl) dX3_isTooMuch_35 (fun H locs hw => ?_)
              have J57_10 : ∀ (w9 : Int32), w9 = (if ((σ 11) k = 1 ∧ (σ 12) k = (nI h)) ∧ ((σ 11) k = 1 ∧ ¬ (σ 5) k = 3) then (1 : Int32) else 0) → ∀ (H : Heap) (locs : List Loc) (ls : Array Slot), Wst E (XW E a) (σ) A s.heap H locs → lv_has ls 4 [(0, .ref (a 64)), (1, .int (nI h)), (2, .int (c_mny σ h k)), (3, .int (nI k))] → W p l e ({ frames := 1, cells := 0, slots := 0, locals := 22 }) s m args below meth c H locs 0 0 Q (F0 m 57 ls [.int (w9), .int (c_mny σ h k)]) := by
                intro w9 e10 H locs ls hw hl
                subst e10
                refine lv_iadd hC.1 hC.2.1 dX3_isTooMuch_57 ?_
                refine lv_istore_n (lv' := [(2, .int ((c_mny σ h k) + (if ((σ 11) k = 1 ∧ (σ 12) k = (nI h)) ∧ ((σ 11) k = 1 ∧ ¬ (σ 5) k = 3) then (1 : Int32) else 0))), (0, .ref (a 64)), (1, .int (nI h)), (3, .int (nI k))]) hC.1 hC.2.1 dX3_isTooMuch_58 rfl hl (by decide) rfl (fun ls hl => ?_)
                refine lv_iinc (v := nI (k + 1)) (lv' := [(3, .int (nI (k + 1))), (2, .int ((c_mny σ h k) + (if ((σ 11) k = 1 ∧ (σ 12) k = (nI h)) ∧ ((σ 11) k = 1 ∧ ¬ (σ 5) k = 3) then (1 : Int32) else 0))), (0, .ref (a 64)), (1, .int (nI h))]) hC.1 hC.2.1 dX3_isTooMuch_59 hl (k := 3) rfl (nI_add _ _) (by decide) rfl (fun ls hl => ?_)
                refine lv_goto (tgt := 17) hC.1 hC.2.1 dX3_isTooMuch_62 (by decide) ?_
                exact ih17 (k + 1) ((c_mny σ h k) + (if ((σ 11) k = 1 ∧ (σ 12) k = (nI h)) ∧ ((σ 11) k = 1 ∧ ¬ (σ 5) k = 3) then (1 : Int32) else 0)) rfl (by omega) (by omega) _ _ _ hw (lv_sub hl [2, 3, 1, 0] rfl)
              refine q_ifeq hC 56 cB dX3_isTooMuch_38 (by decide) (fun (c11 : ¬ ((σ 11) k = 1 ∧ (σ 12) k = (nI h))) => ?_) (fun (c11 : (σ 11) k = 1 ∧ (σ 12) k = (nI h)) => ?_)
              · refine lv_iconst (v := nI 0) hC.1 hC.2.1 dX3_isTooMuch_56 (by decide) ?_
                exact J57_10 _ (if_neg (fun q => c11 q.1)).symm _ _ _ hw (lv_sub hl [0, 1, 2, 3] rfl)
              · refine lv_aload_n hC.1 hC.2.1 dX3_isTooMuch_41 rfl (lv_at hl 0 rfl) ?_
                refine gf_X3_26 hC hw dX3_isTooMuch_42 ?_
                refine lv_iload_n hC.1 hC.2.1 dX3_isTooMuch_45 rfl (lv_at hl 3 rfl) ?_
                refine q_callVp (As := [.int (nI k)]) (rest := [.int (c_mny σ h k)]) (q0 := 7) hC hw hl (tX6_canLeave l E a σ k (by first | assumption | omega)) (q_cwV hC.2.2.2.2.1 ⟨rfl, rfl⟩ wk3_142 wk3_60 wk3_61 wk1_3 wk3_62 hd_X6_canLeave ⟨Nat.le_of_ble_eq_true rfl, Nat.le_of_ble_eq_true rfl⟩) rfl rfl rfl rfl rfl (Nat.le_of_ble_eq_true rfl) dX3_isTooMuch_46 (fun H locs hw => ?_)
                refine q_ifeq hC 56 cB dX3_isTooMuch_49 (by decide) (fun (c15 : ¬ ((σ 11) k = 1 ∧ ¬ (σ 5) k = 3)) => ?_) (fun (c15 : (σ 11) k = 1 ∧ ¬ (σ 5) k = 3) => ?_)
                · refine lv_iconst (v := nI 0) hC.1 hC.2.1 dX3_isTooMuch_56 (by decide) ?_
                  exact J57_10 _ (if_neg (fun q => c15 q.2)).symm _ _ _ hw (lv_sub hl [0, 1, 2, 3] rfl)
                · refine lv_iconst (v := nI 1) hC.1 hC.2.1 dX3_isTooMuch_52 (by decide) ?_
                  refine lv_goto (tgt := 57) hC.1 hC.2.1 dX3_isTooMuch_53 (by decide) ?_
                  exact J57_10 _ (if_pos ⟨c11, c15⟩).symm _ _ _ hw (lv_sub hl [0, 1, 2, 3] rfl)
        exact L17_2 _ 0 (nI 0) rfl (Nat.zero_le _) (Nat.lt_succ_self _) _ _ _ hw (lv_sub hl [2, 3, 1, 0] rfl)
  exact L2_0 _ 0 (Nat.zero_le _) (fun x q => absurd q (Nat.not_lt_zero _)) (Nat.lt_succ_self _) _ _ _ hw (lv_sub hl [1, 0] rfl)
set_option maxHeartbeats 4000000 in
set_option maxRecDepth 100000 in
theorem tX3_letFall (l : Launch) (E : EV) (a : Nat → Nat) (σ : St) (nh : Nat) (nj : Nat) (E0 : St) (v : Nat → Int32) (h : Nat) (hN : cN2 σ nh nj) (hE : aE σ E0) (hS : cS E0 nh nj) (hFS : FSr E0 (pB (eM v) (-1)) nh nj (σ 16) (σ 17) (σ 18) (σ 19) (σ 20) (σ 21)) (hX : JX σ v nj) (hW : mF v nh nj) (hh : h < nh) (hle : (fwL v h nj).length ≤ 4) : MV l E (XW E a) yX3_letFall (Cond.code yX3_letFall cX3_letFall 3 none) ({ frames := 2, cells := 0, slots := 0, locals := 46 }) [.ref (a 64), .int (nI h)] σ (fun u_ => ∃ (b16 b17 b18 b19 b20 b21 b23 b24 : Nat → Int32), FSr (dn E0 h) (pB (eM (f_fal v h nj)) (-1)) nh nj b16 b17 b18 b19 b20 b21 ∧ (∀ i, i < (fwL v h nj).length → b23 i = nI (gd (fwL v h nj) i) ∧ b24 i = nI h) ∧ u_ = sr (sr (sr (sr (sr (sr (sr (sr (sr (sr σ 4 (upd (σ 4) h 0)) 16 b16) 17 b17) 18 b18) 19 b19) 20 b20) 21 b21) 23 b23) 24 b24) 0 (upd (upd (σ 0) 6 (nI (fwL v h nj).length)) 8 (nI h))) := by
  refine MV.mk (by decide +kernel) (Nat.le_of_ble_eq_true rfl) ?_
  intro p e s m args below meth c ls A Q hret hC hw hl
  have hC : Cxt E p s m args meth c cX3_letFall 3 none RX3 A := hC
  have hl : lv_has ls 3 [(0, .ref (a 64)), (1, .int (nI h))] := hl
  have hnh := hS.1
  have hnj := hS.2.1
  refine lv_aload_n hC.1 hC.2.1 dX3_letFall_0 rfl (lv_at hl 0 rfl) ?_
  refine gf_X3_21 hC hw dX3_letFall_1 ?_
  refine gf_X3_48 hC hw dX3_letFall_4 ?_
  refine lv_iload_n hC.1 hC.2.1 dX3_letFall_7 rfl (lv_at hl 1 rfl) ?_
  refine lv_iconst (v := nI 0) hC.1 hC.2.1 dX3_letFall_8 (by decide) ?_
  refine as_X4 hC hw (by omega) (by decide) dX3_letFall_9 (fun H locs hw => ?_)
  have hw : Wst E (XW E a) (sr σ 4 (upd (σ 4) h (0))) A s.heap H locs := hw
  refine lv_aload_n hC.1 hC.2.1 dX3_letFall_10 rfl (lv_at hl 0 rfl) ?_
  refine gf_X3_27 hC hw dX3_letFall_11 ?_
  refine lv_iload_n hC.1 hC.2.1 dX3_letFall_14 rfl (lv_at hl 1 rfl) ?_
  refine q_callVvp (As := [.int (nI h)]) (rest := []) (q0 := 3) hC hw hl (tX2_begin l E a (sr σ 4 (upd (σ 4) h (0))) (nI h)) (q_cwV hC.2.2.2.2.1 ⟨rfl, rfl⟩ wk3_151 wk3_152 wk3_153 wk1_7 wk3_154 hd_X2_begin ⟨Nat.le_of_ble_eq_true rfl, Nat.le_of_ble_eq_true rfl⟩) rfl rfl rfl rfl rfl (Nat.le_of_ble_eq_true rfl) dX3_letFall_15 (fun H locs hw => ?_)
  have hw : Wst E (XW E a) (sr (sr σ 4 (upd (σ 4) h (0))) 0 (upd (upd (σ 0) 6 (nI 0)) 8 ((nI h)))) A s.heap H locs := hw
  refine lv_iconst (v := nI 0) hC.1 hC.2.1 dX3_letFall_18 (by decide) ?_
  refine lv_istore_n (lv' := [(2, .int (nI 0)), (0, .ref (a 64)), (1, .int (nI h))]) hC.1 hC.2.1 dX3_letFall_19 rfl hl (by decide) rfl (fun ls hl => ?_)
  have L20_3 : ∀ (n : Nat), ∀ (j : Nat), ∀ (d16 : Nat → Int32), ∀ (d17 : Nat → Int32), ∀ (d18 : Nat → Int32), ∀ (d19 : Nat → Int32), ∀ (d20 : Nat → Int32), ∀ (d21 : Nat → Int32), ∀ (d23 : Nat → Int32), ∀ (d24 : Nat → Int32), (j ≤ nj) → (FSr (dn E0 h) (pB (eM (f_fal v h j)) (-1)) nh nj d16 d17 d18 d19 d20 d21) → (∀ i, i < (fwL v h j).length → d23 i = nI (gd (fwL v h j) i) ∧ d24 i = nI h) → (nj - j) < n → ∀ (H : Heap) (locs : List Loc) (ls : Array Slot), Wst E (XW E a) (sr (sr (sr (sr (sr (sr (sr (sr (sr (sr σ 4 (upd (σ 4) h 0)) 16 (d16)) 17 (d17)) 18 (d18)) 19 (d19)) 20 (d20)) 21 (d21)) 23 (d23)) 24 (d24)) 0 (upd (upd (σ 0) 6 (nI (fwL v h j).length)) 8 (nI h))) A s.heap H locs → lv_has ls 3 [(0, .ref (a 64)), (1, .int (nI h)), (2, .int (nI j))] → W p l e ({ frames := 2, cells := 0, slots := 0, locals := 46 }) s m args below meth c H locs 0 0 Q (F0 m 20 ls []) := by
    intro n
    induction n with
    | zero => intro j d16 d17 d18 d19 d20 d21 d23 d24 hj hF0 hmem hn; exact absurd hn (Nat.not_lt_zero _)
    | succ n ih20 =>
      intro j d16 d17 d18 d19 d20 d21 d23 d24 hj hF0 hmem hn20 H locs ls hw hl
      refine lv_iload_n hC.1 hC.2.1 dX3_letFall_20 rfl (lv_at hl 2 rfl) ?_
      refine lv_aload_n hC.1 hC.2.1 dX3_letFall_21 rfl (lv_at hl 0 rfl) ?_
      refine gf_X3_26 hC hw dX3_letFall_22 ?_
      refine gf_X3_37 (v := nI nj) hC hw hN.2 dX3_letFall_25 ?_
      refine q_cmpge hC 79 (cNle (by omega) (by omega)) dX3_letFall_28 (by decide) (fun (c5 : nj ≤ j) => ?_) (fun (c5 : j < nj) => ?_)
      · refine hret _ _ _ _ _ hw ?_ dX3_letFall_79
        have hj9 : j = nj := by omega
        rw [hj9] at hF0 hmem ⊢
        exact ⟨d16, d17, d18, d19, d20, d21, d23, d24, hF0, hmem, rfl⟩
      · refine lv_aload_n hC.1 hC.2.1 dX3_letFall_31 rfl (lv_at hl 0 rfl) ?_
        refine gf_X3_26 hC hw dX3_letFall_32 ?_
        refine lv_iload_n hC.1 hC.2.1 dX3_letFall_35 rfl (lv_at hl 2 rfl) ?_
        refine lv_iload_n hC.1 hC.2.1 dX3_letFall_36 rfl (lv_at hl 1 rfl) ?_
        refine q_callVp (As := [.int (nI j), .int (nI h)]) (rest := []) (q0 := 7) hC hw hl (tX6_standsOn l E a (sr (sr (sr (sr (sr (sr (sr (sr (sr (sr σ 4 (upd (σ 4) h 0)) 16 (d16)) 17 (d17)) 18 (d18)) 19 (d19)) 20 (d20)) 21 (d21)) 23 (d23)) 24 (d24)) 0 (upd (upd (σ 0) 6 (nI (fwL v h j).length)) 8 (nI h))) j (nI h) (by first | assumption | omega)) (q_cwV hC.2.2.2.2.1 ⟨rfl, rfl⟩ wk3_141 wk3_56 wk3_57 wk1_3 wk3_58 hd_X6_standsOn ⟨Nat.le_of_ble_eq_true rfl, Nat.le_of_ble_eq_true rfl⟩) rfl rfl rfl rfl rfl (Nat.le_of_ble_eq_true rfl) dX3_letFall_37 (fun H locs hw => ?_)
        refine q_ifeq hC 73 cB dX3_letFall_40 (by decide) (fun (c9 : ¬ ((σ 11) j = 1 ∧ (σ 12) j = (nI h))) => ?_) (fun (c9 : (σ 11) j = 1 ∧ (σ 12) j = (nI h)) => ?_)
        · refine lv_iinc (v := nI (j + 1)) (lv' := [(2, .int (nI (j + 1))), (0, .ref (a 64)), (1, .int (nI h))]) hC.1 hC.2.1 dX3_letFall_73 hl (k := 2) rfl (nI_add _ _) (by decide) rfl (fun ls hl => ?_)
          refine lv_goto (tgt := 20) hC.1 hC.2.1 dX3_letFall_76 (by decide) ?_
          have hns : ¬ (eM v 11 j = 1 ∧ eM v 12 j = nI h) := fun q => c9 ⟨(hX j (show j < nj by omega)).2.2.1.trans q.1, ((hX j (show j < nj by omega)).2.2.2 q.1).1.trans q.2⟩
          have hf9 := fal_no hW hh (show j < nj by omega) hns
          have hl9 : fwL v h (j + 1) = fwL v h j := by rw [fwL, if_neg (fun q => hns q.1)]
          rw [← hl9] at hw
          exact ih20 (j + 1) d16 d17 d18 d19 d20 d21 d23 d24 (by omega) (by rw [hf9]; exact hF0) (by rw [hl9]; exact hmem) (by omega) _ _ _ hw (lv_sub hl [1, 2, 0] rfl)
        · have hsv : eM v 11 j = 1 ∧ eM v 12 j = nI h := by have h1 := (hX j (show j < nj by omega)).2.2.1.symm.trans c9.1; exact ⟨h1, ((hX j (show j < nj by omega)).2.2.2 h1).1.symm.trans c9.2⟩
          refine lv_aload_n hC.1 hC.2.1 dX3_letFall_43 rfl (lv_at hl 0 rfl) ?_
          refine gf_X3_9 hC hw dX3_letFall_44 ?_
          refine lv_iload_n hC.1 hC.2.1 dX3_letFall_47 rfl (lv_at hl 2 rfl) ?_
          refine lv_iload_n hC.1 hC.2.1 dX3_letFall_48 rfl (lv_at hl 1 rfl) ?_
          refine lv_iconst (v := (-1)) hC.1 hC.2.1 dX3_letFall_49 (by decide) ?_
          refine q_callVv (As := [.int (nI j), .int (nI h), .int ((-1))]) (rest := []) (q0 := 5) hC hw hl (tX4_tally l E a (sr (sr (sr (sr (sr (sr (sr (sr (sr (sr σ 4 (upd (σ 4) h 0)) 16 (d16)) 17 (d17)) 18 (d18)) 19 (d19)) 20 (d20)) 21 (d21)) 23 (d23)) 24 (d24)) 0 (upd (upd (σ 0) 6 (nI (fwL v h j).length)) 8 (nI h))) nh nj (dn E0 h) (pB (eM (f_fal v h j)) (-1)) (pB (eM (f_fal v h (j + 1))) (-1)) j h (-1) hN (hE.dn) hS.dn hF0 (fal_TL hW hh (show j < nj by omega) hsv) (show j < nj by omega) hh) (q_cwV hC.2.2.2.2.1 ⟨rfl, rfl⟩ wk3_155 wk2_201 wk2_202 wk1_4 wk2_203 hd_X4_tally ⟨Nat.le_of_ble_eq_true rfl, Nat.le_of_ble_eq_true rfl⟩) rfl rfl rfl rfl rfl (Nat.le_of_ble_eq_true rfl) dX3_letFall_50 (fun u12 H locs p10 hw => ?_)
          obtain ⟨b16_13, b17_14, b18_15, b19_16, b20_17, b21_18, hFu12, huu12⟩ := p10
          subst huu12
          have hst_ : sr (sr (sr (sr (sr (sr (sr (sr (sr (sr (sr (sr (sr (sr (sr (sr σ 4 (upd (σ 4) h 0)) 16 (d16)) 17 (d17)) 18 (d18)) 19 (d19)) 20 (d20)) 21 (d21)) 23 (d23)) 24 (d24)) 0 (upd (upd (σ 0) 6 (nI (fwL v h j).length)) 8 (nI h))) 16 b16_13) 17 b17_14) 18 b18_15) 19 b19_16) 20 b20_17) 21 b21_18 = sr (sr (sr (sr (sr (sr (sr (sr (sr (sr σ 4 (upd (σ 4) h 0)) 16 (b16_13)) 17 (b17_14)) 18 (b18_15)) 19 (b19_16)) 20 (b20_17)) 21 (b21_18)) 23 (d23)) 24 (d24)) 0 (upd (upd (σ 0) 6 (nI (fwL v h j).length)) 8 (nI h)) := by
            funext j_ x_
            by_cases e0 : j_ = 0
            · subst e0
              by_cases y6 : x_ = 6
              · subst y6; rfl
              · by_cases y8 : x_ = 8
                · subst y8; rfl
                · simp [sr, upd, y6, y8]
            · by_cases e4 : j_ = 4
              · subst e4; rfl
              · by_cases e16 : j_ = 16
                · subst e16; rfl
                · by_cases e17 : j_ = 17
                  · subst e17; rfl
                  · by_cases e18 : j_ = 18
                    · subst e18; rfl
                    · by_cases e19 : j_ = 19
                      · subst e19; rfl
                      · by_cases e20 : j_ = 20
                        · subst e20; rfl
                        · by_cases e21 : j_ = 21
                          · subst e21; rfl
                          · by_cases e23 : j_ = 23
                            · subst e23; rfl
                            · by_cases e24 : j_ = 24
                              · subst e24; rfl
                              · simp only [sr, e0, e4, e16, e17, e18, e19, e20, e21, e23, e24, if_false]
          rw [hst_] at hw
          refine lv_aload_n hC.1 hC.2.1 dX3_letFall_53 rfl (lv_at hl 0 rfl) ?_
          refine gf_X3_26 hC hw dX3_letFall_54 ?_
          refine lv_iload_n hC.1 hC.2.1 dX3_letFall_57 rfl (lv_at hl 2 rfl) ?_
          refine q_callVp (As := [.int (nI j)]) (rest := []) (q0 := 7) hC hw hl (tX6_canLeave l E a (sr (sr (sr (sr (sr (sr (sr (sr (sr (sr σ 4 (upd (σ 4) h 0)) 16 (b16_13)) 17 (b17_14)) 18 (b18_15)) 19 (b19_16)) 20 (b20_17)) 21 (b21_18)) 23 (d23)) 24 (d24)) 0 (upd (upd (σ 0) 6 (nI (fwL v h j).length)) 8 (nI h))) j (by first | assumption | omega)) (q_cwV hC.2.2.2.2.1 ⟨rfl, rfl⟩ wk3_142 wk3_60 wk3_61 wk1_3 wk3_62 hd_X6_canLeave ⟨Nat.le_of_ble_eq_true rfl, Nat.le_of_ble_eq_true rfl⟩) rfl rfl rfl rfl rfl (Nat.le_of_ble_eq_true rfl) dX3_letFall_58 (fun H locs hw => ?_)
          refine q_ifeq hC 73 cB dX3_letFall_61 (by decide) (fun (c22 : ¬ ((σ 11) j = 1 ∧ ¬ (σ 5) j = 3)) => ?_) (fun (c22 : (σ 11) j = 1 ∧ ¬ (σ 5) j = 3) => ?_)
          · refine lv_iinc (v := nI (j + 1)) (lv' := [(2, .int (nI (j + 1))), (0, .ref (a 64)), (1, .int (nI h))]) hC.1 hC.2.1 dX3_letFall_73 hl (k := 2) rfl (nI_add _ _) (by decide) rfl (fun ls hl => ?_)
            refine lv_goto (tgt := 20) hC.1 hC.2.1 dX3_letFall_76 (by decide) ?_
            have hl9 : fwL v h (j + 1) = fwL v h j := by rw [fwL, if_neg (fun q => c22 ⟨c9.1, fun z => q.2 ((hX j (show j < nj by omega)).1.symm.trans z)⟩)]
            rw [← hl9] at hw
            exact ih20 (j + 1) b16_13 b17_14 b18_15 b19_16 b20_17 b21_18 d23 d24 (by omega) hFu12 (by rw [hl9]; exact hmem) (by omega) _ _ _ hw (lv_sub hl [1, 2, 0] rfl)
          · have hln : (fwL v h j).length < 4 := by
              have e : fwL v h (j + 1) = fwL v h j ++ [j] := by rw [fwL, if_pos ⟨hsv, fun z => c22.2 ((hX j (show j < nj by omega)).1.trans z)⟩]
              have e2 := fwL_mono (v := v) (h := h) (show j + 1 ≤ nj by omega)
              rw [e, List.length_append] at e2
              simp only [List.length_singleton] at e2
              omega
            refine lv_aload_n hC.1 hC.2.1 dX3_letFall_64 rfl (lv_at hl 0 rfl) ?_
            refine gf_X3_27 hC hw dX3_letFall_65 ?_
            refine lv_iload_n hC.1 hC.2.1 dX3_letFall_68 rfl (lv_at hl 2 rfl) ?_
            refine lv_iload_n hC.1 hC.2.1 dX3_letFall_69 rfl (lv_at hl 1 rfl) ?_
            refine q_callVvp (As := [.int (nI j), .int (nI h)]) (rest := []) (q0 := 3) hC hw hl (tX2_join l E a (sr (sr (sr (sr (sr (sr (sr (sr (sr (sr σ 4 (upd (σ 4) h 0)) 16 (b16_13)) 17 (b17_14)) 18 (b18_15)) 19 (b19_16)) 20 (b20_17)) 21 (b21_18)) 23 (d23)) 24 (d24)) 0 (upd (upd (σ 0) 6 (nI (fwL v h j).length)) 8 (nI h))) ((fwL v h j).length) j h rfl hln (by omega)) (q_cwV hC.2.2.2.2.1 ⟨rfl, rfl⟩ wk3_156 wk3_157 wk3_158 wk1_7 wk3_159 hd_X2_join ⟨Nat.le_of_ble_eq_true rfl, Nat.le_of_ble_eq_true rfl⟩) rfl rfl rfl rfl rfl (Nat.le_of_ble_eq_true rfl) dX3_letFall_70 (fun H locs hw => ?_)
            have hw : Wst E (XW E a) (sr (sr (sr (sr (sr (sr (sr (sr (sr (sr σ 4 (upd (σ 4) h 0)) 16 (b16_13)) 17 (b17_14)) 18 (b18_15)) 19 (b19_16)) 20 (b20_17)) 21 (b21_18)) 23 (upd d23 ((fwL v h j).length) (nI j))) 24 (upd d24 ((fwL v h j).length) (nI h))) 0 (upd (upd (σ 0) 6 (nI (((fwL v h j).length) + 1))) 8 (nI h))) A s.heap H locs := hw
            refine lv_iinc (v := nI (j + 1)) (lv' := [(2, .int (nI (j + 1))), (0, .ref (a 64)), (1, .int (nI h))]) hC.1 hC.2.1 dX3_letFall_73 hl (k := 2) rfl (nI_add _ _) (by decide) rfl (fun ls hl => ?_)
            refine lv_goto (tgt := 20) hC.1 hC.2.1 dX3_letFall_76 (by decide) ?_
            have hl9 : fwL v h (j + 1) = fwL v h j ++ [j] := by rw [fwL, if_pos ⟨hsv, fun z => c22.2 ((hX j (show j < nj by omega)).1.trans z)⟩]
            rw [show nI ((fwL v h j).length + 1) = nI (fwL v h (j + 1)).length by rw [hl9, List.length_append]; rfl] at hw
            exact ih20 (j + 1) b16_13 b17_14 b18_15 b19_16 b20_17 b21_18 (upd d23 ((fwL v h j).length) (nI j)) (upd d24 ((fwL v h j).length) (nI h)) (by omega) hFu12 (by rw [hl9]; exact mem_app hmem) (by omega) _ _ _ hw (lv_sub hl [1, 2, 0] rfl)
  have hst_ : sr (sr σ 4 (upd (σ 4) h (0))) 0 (upd (upd (σ 0) 6 (nI 0)) 8 ((nI h))) = sr (sr (sr (sr (sr (sr (sr (sr (sr (sr σ 4 (upd (σ 4) h (0))) 16 (σ 16)) 17 (σ 17)) 18 (σ 18)) 19 (σ 19)) 20 (σ 20)) 21 (σ 21)) 23 (σ 23)) 24 (σ 24)) 0 (upd (upd (σ 0) 6 (nI 0)) 8 ((nI h))) := by
    funext j_ x_
    by_cases e0 : j_ = 0
    · subst e0
      by_cases y6 : x_ = 6
      · subst y6; rfl
      · by_cases y8 : x_ = 8
        · subst y8; rfl
        · simp [sr, upd, y6, y8]
    · by_cases e4 : j_ = 4
      · subst e4; rfl
      · by_cases e16 : j_ = 16
        · subst e16; rfl
        · by_cases e17 : j_ = 17
          · subst e17; rfl
          · by_cases e18 : j_ = 18
            · subst e18; rfl
            · by_cases e19 : j_ = 19
              · subst e19; rfl
              · by_cases e20 : j_ = 20
                · subst e20; rfl
                · by_cases e21 : j_ = 21
                  · subst e21; rfl
                  · by_cases e23 : j_ = 23
                    · subst e23; rfl
                    · by_cases e24 : j_ = 24
                      · subst e24; rfl
                      · simp only [sr, e0, e4, e16, e17, e18, e19, e20, e21, e23, e24, if_false]
  rw [hst_] at hw
  exact L20_3 _ 0 (σ 16) (σ 17) (σ 18) (σ 19) (σ 20) (σ 21) (σ 23) (σ 24) (Nat.zero_le _) (FSr.cg (fun k _ => fal_0P (by omega) k) hFS) (fun i q => absurd q (Nat.not_lt_zero _)) (Nat.lt_succ_self _) _ _ _ hw (lv_sub hl [1, 2, 0] rfl)
