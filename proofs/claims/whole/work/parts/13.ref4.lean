theorem sw_in {x : Int32} {n : Nat} (hn : n < 2 ^ 30) (h1 : ¬ x.toInt < 0) (h2 : ¬ (n : Int) < x.toInt) : ∃ k, k ≤ n ∧ x = nI k := by
  obtain ⟨j, hj, rfl⟩ := nI_of (x := x) (by rw [Int32.lt_iff_toInt_lt, Int32.toInt_zero]; exact h1)
  rw [nI_toInt hj] at h2
  exact ⟨j, by omega, rfl⟩
theorem sw_out_0_4 {x : Int32} (h0 : ¬ x = 0) (h1 : ¬ x = 1) (h2 : ¬ x = 2) (h3 : ¬ x = 3) (h4 : ¬ x = 4) : x.toInt < 0 ∨ 4 < x.toInt := by
  rcases Classical.em (x.toInt < 0) with q | q
  · exact Or.inl q
  · refine Or.inr (Classical.byContradiction fun z => ?_)
    obtain ⟨k, hk, rfl⟩ := sw_in (n := 4) (by decide) q z
    rcases (show k = 0 ∨ k = 1 ∨ k = 2 ∨ k = 3 ∨ k = 4 by omega) with rfl | rfl | rfl | rfl | rfl
    · exact h0 rfl
    · exact h1 rfl
    · exact h2 rfl
    · exact h3 rfl
    · exact h4 rfl
theorem sw_out_0_7 {x : Int32} (h0 : ¬ x = 0) (h1 : ¬ x = 1) (h2 : ¬ x = 2) (h3 : ¬ x = 3) (h4 : ¬ x = 4) (h5 : ¬ x = 5) (h6 : ¬ x = 6) (h7 : ¬ x = 7) : x.toInt < 0 ∨ 7 < x.toInt := by
  rcases Classical.em (x.toInt < 0) with q | q
  · exact Or.inl q
  · refine Or.inr (Classical.byContradiction fun z => ?_)
    obtain ⟨k, hk, rfl⟩ := sw_in (n := 7) (by decide) q z
    rcases (show k = 0 ∨ k = 1 ∨ k = 2 ∨ k = 3 ∨ k = 4 ∨ k = 5 ∨ k = 6 ∨ k = 7 by omega) with rfl | rfl | rfl | rfl | rfl | rfl | rfl | rfl
    · exact h0 rfl
    · exact h1 rfl
    · exact h2 rfl
    · exact h3 rfl
    · exact h4 rfl
    · exact h5 rfl
    · exact h6 rfl
    · exact h7 rfl
theorem six_5 {x : Int32} (h : ¬ x < 0 ∧ ¬ 5 < x) (h0 : ¬ x = 0) (h1 : ¬ x = 1) (h2 : ¬ x = 2) (h3 : ¬ x = 3) (h4 : ¬ x = 4) : x = 5 := by
  obtain ⟨k, hk, rfl⟩ := in_nat (n := 6) (by decide) ((le_iff (n := 5) (by decide)).mp h)
  rcases (show k = 0 ∨ k = 1 ∨ k = 2 ∨ k = 3 ∨ k = 4 ∨ k = 5 by omega) with rfl | rfl | rfl | rfl | rfl | rfl
  · exact absurd rfl h0
  · exact absurd rfl h1
  · exact absurd rfl h2
  · exact absurd rfl h3
  · exact absurd rfl h4
  · rfl
theorem told_out {v : Nat → Int32} {nj : Nat} {job what : Int32} (h : okB job nj) (hw : ¬ okB what 6) : o_told v nj job what = -1 := by
  have key : ∀ k : Nat, k < 6 → ¬ what = nI k := fun k hk q => hw (by rw [q]; exact ⟨nI_pos (by omega), (nI_ltI (by omega) (by omega)).mpr hk⟩)
  rw [o_told, if_pos h, if_neg (show ¬ what = 0 from key 0 (by omega)), if_neg (show ¬ what = 1 from key 1 (by omega)), if_neg (show ¬ what = 2 from key 2 (by omega)), if_neg (show ¬ what = 3 from key 3 (by omega)), if_neg (show ¬ what = 4 from key 4 (by omega)), if_neg (show ¬ what = 5 from key 5 (by omega))]
theorem f_fal_0 {v : Nat → Int32} {h : Nat} : upd v (56 + h) 0 = f_fal v h 0 := funext fun k => by
  unfold upd f_fal
  by_cases h1 : k = 56 + h
  · rw [if_pos h1, if_pos h1]
  · rw [if_neg h1, if_neg h1, if_neg (by omega)]
theorem f_fal_at {v : Nat → Int32} {h n j : Nat} (hj : n ≤ j) (hh : h < 10) : f_fal v h n (258 + j) = v (258 + j) := by
  unfold f_fal; rw [if_neg (by omega), if_neg (by omega)]
theorem f_fal_o {v : Nat → Int32} {h n k : Nat} (hk : k < 56 ∨ 66 ≤ k) (hk2 : k < 258 ∨ 258 + n ≤ k) (hh : h < 10) : f_fal v h n k = v k := by
  unfold f_fal; rw [if_neg (by omega), if_neg (by omega)]
theorem f_fal_mF {v : Nat → Int32} {nh nj h n : Nat} (hW : mF v nh nj) (hh : h < nh) (hn : n ≤ nj := by omega) : mF (f_fal v h n) nh nj := by
  obtain ⟨h1, h2, h3, h4, h5⟩ := hW
  refine ⟨h1, h2, ?_, ?_, fun j hj hs => ?_⟩
  · rw [f_fal_o (by omega) (by omega) (by omega)]; exact h3
  · rw [f_fal_o (by omega) (by omega) (by omega)]; exact h4
  · rw [f_fal_o (k := 282 + j) (by omega) (by omega) (by omega)]
    refine h5 j hj ?_
    unfold f_fal at hs
    rw [if_neg (by omega)] at hs
    split at hs
    · split at hs
      · exact absurd hs (by decide)
      · exact absurd hs (by decide)
    · exact hs
theorem f_fal_s {v : Nat → Int32} {nh nj h j : Nat} (hW : mF v nh nj) (hh : h < nh) (hj : j < nj) : (if eM (f_fal v h j) 11 j = 1 ∧ eM (f_fal v h j) 12 j = nI h then upd (f_fal v h j) (258 + j) (if eM (f_fal v h j) 5 j = 3 then 2 else 0) else f_fal v h j) = f_fal v h (j + 1) := by
  have h10 := hW.1; have h24 := hW.2.1
  have e1 : eM (f_fal v h j) 11 j = v (258 + j) := f_fal_at (Nat.le_refl _) (by omega)
  have e2 : eM (f_fal v h j) 12 j = v (282 + j) := f_fal_o (by omega) (by omega) (by omega)
  have e3 : eM (f_fal v h j) 5 j = v (66 + j) := f_fal_o (by omega) (by omega) (by omega)
  rw [e1, e2, e3]
  funext k
  by_cases hk : k = 258 + j
  · subst hk
    have e4 : f_fal v h (j + 1) (258 + j) = if v (258 + j) = 1 ∧ v (282 + j) = nI h then (if v (66 + j) = 3 then 2 else 0) else v (258 + j) := by
      unfold f_fal
      rw [if_neg (by omega), show 258 + j + 24 = 282 + j by omega, show 258 + j - 192 = 66 + j by omega]
      by_cases q : v (258 + j) = 1 ∧ v (282 + j) = nI h
      · rw [if_pos ⟨by omega, q⟩, if_pos q]
      · rw [if_neg (fun z => q z.2), if_neg q]
    rw [e4]
    by_cases q : v (258 + j) = 1 ∧ v (282 + j) = nI h
    · rw [if_pos q, if_pos q, ups]
    · rw [if_neg q, if_neg q]; exact f_fal_at (Nat.le_refl _) (by omega)
  · have e4 : f_fal v h (j + 1) k = f_fal v h j k := by
      unfold f_fal
      by_cases h1 : k = 56 + h
      · rw [if_pos h1, if_pos h1]
      · rw [if_neg h1, if_neg h1]
        by_cases h2 : (258 ≤ k ∧ k < 258 + j) ∧ v k = 1 ∧ v (k + 24) = nI h
        · rw [if_pos h2, if_pos ⟨by omega, h2.2⟩]
        · rw [if_neg h2, if_neg (fun q => h2 ⟨by omega, q.2⟩)]
    rw [e4]
    split
    · rw [upn hk]
    · rfl
theorem f_fal_n {v : Nat → Int32} {nh nj h j : Nat} (hW : mF v nh nj) (hh : h < nh) (hj : j < nj) : (if eM (f_fal v h j) 11 j = 1 ∧ eM (f_fal v h j) 12 j = nI h then m_fal v h j + (if ¬ eM (f_fal v h j) 5 j = 3 then 1 else 0) else m_fal v h j) = m_fal v h (j + 1) := by
  have h10 := hW.1; have h24 := hW.2.1
  have e1 : eM (f_fal v h j) 11 j = eM v 11 j := f_fal_at (Nat.le_refl _) (by omega)
  have e2 : eM (f_fal v h j) 12 j = eM v 12 j := f_fal_o (by omega) (by omega) (by omega)
  have e3 : eM (f_fal v h j) 5 j = eM v 5 j := f_fal_o (by omega) (by omega) (by omega)
  rw [e1, e2, e3]
  rw [show m_fal v h (j + 1) = m_fal v h j + (if (eM v 11 j = 1 ∧ eM v 12 j = nI h) ∧ ¬ eM v 5 j = 3 then 1 else 0) from rfl]
  by_cases q : eM v 11 j = 1 ∧ eM v 12 j = nI h
  · rw [if_pos q]
    by_cases q2 : eM v 5 j = 3
    · rw [if_neg (fun z => z q2), if_neg (fun z => z.2 q2)]
    · rw [if_pos q2, if_pos ⟨q, q2⟩]
  · rw [if_neg q, if_neg (fun z => q z.1), Int32.add_zero]
theorem KR.dropLast {K : Nat → Int32} {stk : List (Nat → Int32)} (h : KR K stk) : KR K stk.dropLast := by
  refine ⟨by rw [List.length_dropLast]; have := h.1; omega, fun i w hi k hk => h.2 i w ?_ k hk⟩
  have hl := (List.getElem?_eq_some_iff.mp hi).1
  rw [List.length_dropLast] at hl
  rw [List.dropLast_eq_take, List.getElem?_take_of_lt (by omega)] at hi
  exact hi
theorem undo_eq {K v : Nat → Int32} {stk : List (Nat → Int32)} (h : KR K stk) (h0 : ¬ stk.length = 0) (hZ : Zr v) (hZs : ∀ w ∈ stk, Zr w) : cpy 354 (fun i => K (354 * (stk.length - 1) + i)) v = stk.getLastD v := by
  obtain ⟨w, hw⟩ : ∃ w, stk[stk.length - 1]? = some w := ⟨_, List.getElem?_eq_getElem (by omega)⟩
  have e : stk.getLastD v = w := by
    rw [List.getLastD_eq_getLast?, List.getLast?_eq_getElem?, hw]; rfl
  rw [e]
  funext k
  unfold cpy
  by_cases hk : k < 354
  · rw [if_pos hk]; exact h.2 _ w hw k hk
  · rw [if_neg hk, hZ k (by omega), hZs w (List.mem_of_getElem? hw) k (by omega)]
set_option maxHeartbeats 4000000 in
set_option maxRecDepth 100000 in
theorem tX11_told (l : Launch) (E : EV) (a : Nat → Nat) (τ : St) (nh : Nat) (nj : Nat) (job : Int32) (what : Int32) (hW : mF (τ 1) nh nj) : MI l E (MW E a) yX11_told (Cond.code yX11_told cX11_told 4 (some .int)) ({ frames := 2, cells := 0, slots := 0, locals := 43 }) [.ref (a 70), .int (job), .int (what)] τ (fun r_ u_ => r_ = (o_told (τ 1) nj job what) ∧ u_ = τ) := by
  refine MI.mk (by decide +kernel) (Nat.le_of_ble_eq_true rfl) ?_
  intro p e s m args below meth c ls A Q hret hC hw hl
  have hC : Cxt E p s m args meth c cX11_told 4 (some .int) RX11 A := hC
  have hl : lv_has ls 4 [(0, .ref (a 70)), (1, .int (job)), (2, .int (what))] := hl
  have ⟨hnh, hnj, hW0, hW1, hWh⟩ := id hW
  refine lv_aload_n hC.1 hC.2.1 dX11_told_0 rfl (lv_at hl 0 rfl) ?_
  refine lv_iload_n hC.1 hC.2.1 dX11_told_1 rfl (lv_at hl 1 rfl) ?_
  refine q_callVp (As := [.int (job)]) (rest := []) (q0 := 0) hC hw hl (tX11_isJob l E a τ nh nj job (by first | assumption | omega)) (q_cwV hC.2.2.2.2.1 ⟨rfl, rfl⟩ wk4_194 wk4_196 wks_2_7 wk1_12 wk4_197 hd_X11_isJob ⟨Nat.le_of_ble_eq_true rfl, Nat.le_of_ble_eq_true rfl⟩) rfl rfl rfl rfl rfl (Nat.le_of_ble_eq_true rfl) dX11_told_2 (fun H locs hw => ?_)
  refine q_ifeq hC 17 cB dX11_told_5 (by decide) (fun (c4 : ¬ (¬ job < 0 ∧ job < nI nj)) => ?_) (fun (c4 : ¬ job < 0 ∧ job < nI nj) => ?_)
  · refine lv_iconst (v := (-1)) hC.1 hC.2.1 dX11_told_17 (by decide) ?_
    refine hret _ _ _ _ _ _ hw ?_ rfl dX11_told_18
    exact ⟨by rw [o_told, if_neg c4], rfl⟩
  · refine lv_iload_n hC.1 hC.2.1 dX11_told_8 rfl (lv_at hl 2 rfl) ?_
    refine lv_iconst (v := nI 0) hC.1 hC.2.1 dX11_told_9 (by decide) ?_
    refine lv_iconst (v := nI 5) hC.1 hC.2.1 dX11_told_10 (by decide) ?_
    refine q_callSp (As := [.int (what), .int (nI 0), .int (nI 5)]) (rest := []) hC hw hl (tX11_in l E a τ what 0 5) (q_cwS hC.2.2.2.2.1 ⟨rfl, rfl⟩ wk4_175 wk4_176 wk1_12 wk4_177 hd_X11_in.2 ⟨Nat.le_of_ble_eq_true rfl, Nat.le_of_ble_eq_true rfl⟩) rfl rfl (Nat.le_of_ble_eq_true rfl) dX11_told_11 (fun H locs hw => ?_)
    refine q_ifne hC 19 cB dX11_told_14 (by decide) (fun (c8 : ¬ what < 0 ∧ ¬ 5 < what) => ?_) (fun (c8 : ¬ (¬ what < 0 ∧ ¬ 5 < what)) => ?_)
    · obtain ⟨j, h_j, rfl⟩ := in_nat (by omega) c4
      have z_j := nI_clamp (show j < 2 ^ 31 by omega)
      have y_j : cN (nI j) = j := z_j
      refine lv_aload_n hC.1 hC.2.1 dX11_told_19 rfl (lv_at hl 0 rfl) ?_
      refine gf_X11_7 hC hw dX11_told_20 ?_
      refine lv_sipush (v := nI 258) hC.1 hC.2.1 dX11_told_23 (by decide) ?_
      refine lv_iload_n hC.1 hC.2.1 dX11_told_26 rfl (lv_at hl 1 rfl) ?_
      refine q_addN hC dX11_told_27 ?_
      refine al_M1 (v := eM (τ 1) 11 j) hC hw (by omega) (show _ = eM (τ 1) 11 j from congrArg (τ 1) (by omega)) dX11_told_28 ?_
      refine lv_iconst (v := nI 1) hC.1 hC.2.1 dX11_told_29 (by decide) ?_
      have J38_10 : ∀ (w9 : Int32), w9 = (if (eM (τ 1) 11 j) = 1 then (1 : Int32) else 0) → ∀ (H : Heap) (locs : List Loc) (ls : Array Slot), Wst E (MW E a) (τ) A s.heap H locs → lv_has ls 4 [(0, .ref (a 70)), (1, .int (nI j)), (2, .int (what))] → W p l e ({ frames := 2, cells := 0, slots := 0, locals := 43 }) s m args below meth c H locs 0 0 Q (F0 m 38 ls [.int (w9)]) := by
        intro w9 e10 H locs ls hw hl
        subst e10
        refine lv_istore_n (lv' := [(3, .int (if (eM (τ 1) 11 j) = 1 then (1 : Int32) else 0)), (0, .ref (a 70)), (1, .int (nI j)), (2, .int (what))]) hC.1 hC.2.1 dX11_told_38 rfl hl (by decide) rfl (fun ls hl => ?_)
        refine lv_iload_n hC.1 hC.2.1 dX11_told_39 rfl (lv_at hl 3 rfl) ?_
        rcases Classical.em (what = 0) with k11 | k11
        · subst k11
          refine lv_tableIn (tgt := 76) hC.1 hC.2.1 dX11_told_40 (by decide) (by decide) (by rfl) (by decide) ?_
          refine lv_aload_n hC.1 hC.2.1 dX11_told_76 rfl (lv_at hl 1 rfl) ?_
          refine gf_X11_7 hC hw dX11_told_77 ?_
          refine lv_sipush (v := nI 258) hC.1 hC.2.1 dX11_told_80 (by decide) ?_
          refine lv_iload_n hC.1 hC.2.1 dX11_told_83 rfl (lv_at hl 2 rfl) ?_
          refine q_addN hC dX11_told_84 ?_
          refine al_M1 (v := eM (τ 1) 11 j) hC hw (by omega) (show _ = eM (τ 1) 11 j from congrArg (τ 1) (by omega)) dX11_told_85 ?_
          refine hret _ _ _ _ _ _ hw ?_ rfl dX11_told_86
          exact ⟨by rw [o_told, if_pos c4, y_j]; simp, rfl⟩
        rcases Classical.em (what = 1) with k12 | k12
        · subst k12
          refine lv_tableIn (tgt := 87) hC.1 hC.2.1 dX11_told_40 (by decide) (by decide) (by rfl) (by decide) ?_
          refine lv_iload_n hC.1 hC.2.1 dX11_told_87 rfl (lv_at hl 0 rfl) ?_
          refine q_ifeq hC 104 cB dX11_told_88 (by decide) (fun (c13 : ¬ ((eM (τ 1) 11 j) = 1)) => ?_) (fun (c13 : (eM (τ 1) 11 j) = 1) => ?_)
          · refine lv_bipush (v := (-3)) hC.1 hC.2.1 dX11_told_104 (by decide) ?_
            refine hret _ _ _ _ _ _ hw ?_ rfl dX11_told_106
            exact ⟨by rw [o_told, if_pos c4, y_j]; simp [c13], rfl⟩
          · refine lv_aload_n hC.1 hC.2.1 dX11_told_91 rfl (lv_at hl 1 rfl) ?_
            refine gf_X11_7 hC hw dX11_told_92 ?_
            refine lv_sipush (v := nI 282) hC.1 hC.2.1 dX11_told_95 (by decide) ?_
            refine lv_iload_n hC.1 hC.2.1 dX11_told_98 rfl (lv_at hl 2 rfl) ?_
            refine q_addN hC dX11_told_99 ?_
            refine al_M1 (v := eM (τ 1) 12 j) hC hw (by omega) (show _ = eM (τ 1) 12 j from congrArg (τ 1) (by omega)) dX11_told_100 ?_
            refine lv_goto (tgt := 106) hC.1 hC.2.1 dX11_told_101 (by decide) ?_
            refine hret _ _ _ _ _ _ hw ?_ rfl dX11_told_106
            exact ⟨by rw [o_told, if_pos c4, y_j]; simp [c13], rfl⟩
        rcases Classical.em (what = 2) with k14 | k14
        · subst k14
          refine lv_tableIn (tgt := 107) hC.1 hC.2.1 dX11_told_40 (by decide) (by decide) (by rfl) (by decide) ?_
          refine lv_iload_n hC.1 hC.2.1 dX11_told_107 rfl (lv_at hl 0 rfl) ?_
          refine q_ifeq hC 124 cB dX11_told_108 (by decide) (fun (c15 : ¬ ((eM (τ 1) 11 j) = 1)) => ?_) (fun (c15 : (eM (τ 1) 11 j) = 1) => ?_)
          · refine lv_bipush (v := (-3)) hC.1 hC.2.1 dX11_told_124 (by decide) ?_
            refine hret _ _ _ _ _ _ hw ?_ rfl dX11_told_126
            exact ⟨by rw [o_told, if_pos c4, y_j]; simp [c15], rfl⟩
          · refine lv_aload_n hC.1 hC.2.1 dX11_told_111 rfl (lv_at hl 1 rfl) ?_
            refine gf_X11_7 hC hw dX11_told_112 ?_
            refine lv_sipush (v := nI 306) hC.1 hC.2.1 dX11_told_115 (by decide) ?_
            refine lv_iload_n hC.1 hC.2.1 dX11_told_118 rfl (lv_at hl 2 rfl) ?_
            refine q_addN hC dX11_told_119 ?_
            refine al_M1 (v := eM (τ 1) 13 j) hC hw (by omega) (show _ = eM (τ 1) 13 j from congrArg (τ 1) (by omega)) dX11_told_120 ?_
            refine lv_goto (tgt := 126) hC.1 hC.2.1 dX11_told_121 (by decide) ?_
            refine hret _ _ _ _ _ _ hw ?_ rfl dX11_told_126
            exact ⟨by rw [o_told, if_pos c4, y_j]; simp [c15], rfl⟩
        rcases Classical.em (what = 3) with k16 | k16
        · subst k16
          refine lv_tableIn (tgt := 127) hC.1 hC.2.1 dX11_told_40 (by decide) (by decide) (by rfl) (by decide) ?_
          refine lv_aload_n hC.1 hC.2.1 dX11_told_127 rfl (lv_at hl 1 rfl) ?_
          refine gf_X11_7 hC hw dX11_told_128 ?_
          refine lv_bipush (v := nI 66) hC.1 hC.2.1 dX11_told_131 (by decide) ?_
          refine lv_iload_n hC.1 hC.2.1 dX11_told_133 rfl (lv_at hl 2 rfl) ?_
          refine q_addN hC dX11_told_134 ?_
          refine al_M1 (v := eM (τ 1) 5 j) hC hw (by omega) (show _ = eM (τ 1) 5 j from congrArg (τ 1) (by omega)) dX11_told_135 ?_
          refine hret _ _ _ _ _ _ hw ?_ rfl dX11_told_136
          exact ⟨by rw [o_told, if_pos c4, y_j]; simp, rfl⟩
        rcases Classical.em (what = 4) with k17 | k17
        · subst k17
          refine lv_tableIn (tgt := 137) hC.1 hC.2.1 dX11_told_40 (by decide) (by decide) (by rfl) (by decide) ?_
          refine lv_aload_n hC.1 hC.2.1 dX11_told_137 rfl (lv_at hl 1 rfl) ?_
          refine gf_X11_7 hC hw dX11_told_138 ?_
          refine lv_sipush (v := nI 162) hC.1 hC.2.1 dX11_told_141 (by decide) ?_
          refine lv_iload_n hC.1 hC.2.1 dX11_told_144 rfl (lv_at hl 2 rfl) ?_
          refine q_addN hC dX11_told_145 ?_
          refine al_M1 (v := eM (τ 1) 7 j) hC hw (by omega) (show _ = eM (τ 1) 7 j from congrArg (τ 1) (by omega)) dX11_told_146 ?_
          refine hret _ _ _ _ _ _ hw ?_ rfl dX11_told_147
          exact ⟨by rw [o_told, if_pos c4, y_j]; simp, rfl⟩
        refine lv_tableOut (tgt := 148) hC.1 hC.2.1 dX11_told_40 (sw_out_0_4 k11 k12 k14 k16 k17) (by decide) ?_
        refine lv_aload_n hC.1 hC.2.1 dX11_told_148 rfl (lv_at hl 1 rfl) ?_
        refine gf_X11_7 hC hw dX11_told_149 ?_
        refine lv_sipush (v := nI 186) hC.1 hC.2.1 dX11_told_152 (by decide) ?_
        refine lv_iload_n hC.1 hC.2.1 dX11_told_155 rfl (lv_at hl 2 rfl) ?_
        refine q_addN hC dX11_told_156 ?_
        refine al_M1 (v := eM (τ 1) 8 j) hC hw (by omega) (show _ = eM (τ 1) 8 j from congrArg (τ 1) (by omega)) dX11_told_157 ?_
        refine hret _ _ _ _ _ _ hw ?_ rfl dX11_told_158
        exact ⟨by rw [o_told, if_pos c4, y_j, if_neg k11, if_neg k12, if_neg k14, if_neg k16, if_neg k17, if_pos (six_5 c8 k11 k12 k14 k16 k17)], rfl⟩
      refine q_cmpne hC 37 cI dX11_told_30 (by decide) (fun (c18 : ¬ ((eM (τ 1) 11 j) = 1)) => ?_) (fun (c18 : (eM (τ 1) 11 j) = 1) => ?_)
      · refine lv_iconst (v := nI 0) hC.1 hC.2.1 dX11_told_37 (by decide) ?_
        exact J38_10 _ (if_neg c18).symm _ _ _ hw (lv_sub hl [0, 1, 2] rfl)
      · refine lv_iconst (v := nI 1) hC.1 hC.2.1 dX11_told_33 (by decide) ?_
        refine lv_goto (tgt := 38) hC.1 hC.2.1 dX11_told_34 (by decide) ?_
        exact J38_10 _ (if_pos c18).symm _ _ _ hw (lv_sub hl [0, 1, 2] rfl)
    · refine lv_iconst (v := (-1)) hC.1 hC.2.1 dX11_told_17 (by decide) ?_
      refine hret _ _ _ _ _ _ hw ?_ rfl dX11_told_18
      exact ⟨(told_out c4 (fun q => c8 ((le_iff (n := 5) (by decide)).mpr q))).symm, rfl⟩
set_option maxHeartbeats 4000000 in
set_option maxRecDepth 100000 in
theorem tX11_count (l : Launch) (E : EV) (a : Nat → Nat) (τ : St) (nh : Nat) (nj : Nat) (olds : Nat) (what : Int32) (hW : mF (τ 1) nh nj) (hO : τ 0 0 = nI olds) : MI l E (MW E a) yX11_count (Cond.code yX11_count cX11_count 4 (some .int)) ({ frames := 1, cells := 0, slots := 0, locals := 22 }) [.ref (a 70), .int (what)] τ (fun r_ u_ => r_ = (o_count (τ 1) nh nj olds what) ∧ u_ = τ) := by
  refine MI.mk (by decide +kernel) (Nat.le_of_ble_eq_true rfl) ?_
  intro p e s m args below meth c ls A Q hret hC hw hl
  have hC : Cxt E p s m args meth c cX11_count 4 (some .int) RX11 A := hC
  have hl : lv_has ls 4 [(0, .ref (a 70)), (1, .int (what))] := hl
  have ⟨hnh, hnj, hW0, hW1, hWh⟩ := id hW
  refine lv_iconst (v := nI 0) hC.1 hC.2.1 dX11_count_0 (by decide) ?_
  refine lv_istore_n (lv' := [(2, .int (nI 0)), (0, .ref (a 70)), (1, .int (what))]) hC.1 hC.2.1 dX11_count_1 rfl hl (by decide) rfl (fun ls hl => ?_)
  refine lv_iload_n hC.1 hC.2.1 dX11_count_2 rfl (lv_at hl 2 rfl) ?_
  rcases Classical.em (what = 0) with k1 | k1
  · subst k1
    refine lv_tableIn (tgt := 48) hC.1 hC.2.1 dX11_count_3 (by decide) (by decide) (by rfl) (by decide) ?_
    refine lv_aload_n hC.1 hC.2.1 dX11_count_48 rfl (lv_at hl 1 rfl) ?_
    refine gf_X11_7 hC hw dX11_count_49 ?_
    refine lv_iconst (v := nI 0) hC.1 hC.2.1 dX11_count_52 (by decide) ?_
    refine al_M1 (v := nI nh) hC hw (by omega) hW.2.2.1 dX11_count_53 ?_
    refine hret _ _ _ _ _ _ hw ?_ rfl dX11_count_54
    exact ⟨by simp [o_count], rfl⟩
  rcases Classical.em (what = 1) with k2 | k2
  · subst k2
    refine lv_tableIn (tgt := 55) hC.1 hC.2.1 dX11_count_3 (by decide) (by decide) (by rfl) (by decide) ?_
    refine lv_aload_n hC.1 hC.2.1 dX11_count_55 rfl (lv_at hl 1 rfl) ?_
    refine gf_X11_7 hC hw dX11_count_56 ?_
    refine lv_iconst (v := nI 1) hC.1 hC.2.1 dX11_count_59 (by decide) ?_
    refine al_M1 (v := nI nj) hC hw (by omega) hW.2.2.2.1 dX11_count_60 ?_
    refine hret _ _ _ _ _ _ hw ?_ rfl dX11_count_61
    exact ⟨by simp [o_count], rfl⟩
  rcases Classical.em (what = 2) with k3 | k3
  · subst k3
    refine lv_tableIn (tgt := 62) hC.1 hC.2.1 dX11_count_3 (by decide) (by decide) (by rfl) (by decide) ?_
    refine lv_iconst (v := nI 0) hC.1 hC.2.1 dX11_count_62 (by decide) ?_
    refine lv_istore_n (lv' := [(3, .int (nI 0)), (2, .int (nI 0)), (0, .ref (a 70)), (1, .int (2))]) hC.1 hC.2.1 dX11_count_63 rfl hl (by decide) rfl (fun ls hl => ?_)
    have L64_3 : ∀ (n : Nat), ∀ (k : Nat), ∀ (v : Int32), (v = (m_sts (τ 1) (2 - 2) k)) → (k ≤ nj) → (nj - k) < n → ∀ (H : Heap) (locs : List Loc) (ls : Array Slot), Wst E (MW E a) (τ) A s.heap H locs → lv_has ls 4 [(0, .ref (a 70)), (1, .int (2)), (2, .int (v)), (3, .int (nI k))] → W p l e ({ frames := 1, cells := 0, slots := 0, locals := 22 }) s m args below meth c H locs 0 0 Q (F0 m 64 ls []) := by
      intro n
      induction n with
      | zero => intro k v q_v hk hn; exact absurd hn (Nat.not_lt_zero _)
      | succ n ih64 =>
        intro k v q_v hk hn64 H locs ls hw hl
        subst q_v
        refine lv_iload_n hC.1 hC.2.1 dX11_count_64 rfl (lv_at hl 3 rfl) ?_
        refine lv_aload_n hC.1 hC.2.1 dX11_count_65 rfl (lv_at hl 0 rfl) ?_
        refine gf_X11_7 hC hw dX11_count_66 ?_
        refine lv_iconst (v := nI 1) hC.1 hC.2.1 dX11_count_69 (by decide) ?_
        refine al_M1 (v := nI nj) hC hw (by omega) hW.2.2.2.1 dX11_count_70 ?_
        refine q_cmpge hC 104 (cNle (by omega) (by omega)) dX11_count_71 (by decide) (fun (c5 : nj ≤ k) => ?_) (fun (c5 : k < nj) => ?_)
        · refine lv_iload_n hC.1 hC.2.1 dX11_count_104 rfl (lv_at hl 2 rfl) ?_
          refine hret _ _ _ _ _ _ hw ?_ rfl dX11_count_105
          have hk9 : k = nj := by omega
          subst hk9
          exact ⟨by simp [o_count], rfl⟩
        · refine lv_iload_n hC.1 hC.2.1 dX11_count_74 rfl (lv_at hl 2 rfl) ?_
          refine lv_aload_n hC.1 hC.2.1 dX11_count_75 rfl (lv_at hl 0 rfl) ?_
          refine gf_X11_7 hC hw dX11_count_76 ?_
          refine lv_sipush (v := nI 258) hC.1 hC.2.1 dX11_count_79 (by decide) ?_
          refine lv_iload_n hC.1 hC.2.1 dX11_count_82 rfl (lv_at hl 3 rfl) ?_
          refine q_addN hC dX11_count_83 ?_
          refine al_M1 (v := eM (τ 1) 11 k) hC hw (by omega) (show _ = eM (τ 1) 11 k from congrArg (τ 1) (by omega)) dX11_count_84 ?_
          refine lv_iload_n hC.1 hC.2.1 dX11_count_85 rfl (lv_at hl 1 rfl) ?_
          refine lv_iconst (v := nI 2) hC.1 hC.2.1 dX11_count_86 (by decide) ?_
          refine lv_isub hC.1 hC.2.1 dX11_count_87 ?_
          have J96_7 : ∀ (w6 : Int32), w6 = (if (eM (τ 1) 11 k) = (2 - 2) then (1 : Int32) else 0) → ∀ (H : Heap) (locs : List Loc) (ls : Array Slot), Wst E (MW E a) (τ) A s.heap H locs → lv_has ls 4 [(0, .ref (a 70)), (1, .int (2)), (2, .int (m_sts (τ 1) (2 - 2) k)), (3, .int (nI k))] → W p l e ({ frames := 1, cells := 0, slots := 0, locals := 22 }) s m args below meth c H locs 0 0 Q (F0 m 96 ls [.int (w6), .int (m_sts (τ 1) (2 - 2) k)]) := by
            intro w6 e7 H locs ls hw hl
            subst e7
            refine lv_iadd hC.1 hC.2.1 dX11_count_96 ?_
            refine lv_istore_n (lv' := [(2, .int ((m_sts (τ 1) (2 - 2) k) + (if (eM (τ 1) 11 k) = (2 - 2) then (1 : Int32) else 0))), (0, .ref (a 70)), (1, .int (2)), (3, .int (nI k))]) hC.1 hC.2.1 dX11_count_97 rfl hl (by decide) rfl (fun ls hl => ?_)
            refine lv_iinc (v := nI (k + 1)) (lv' := [(3, .int (nI (k + 1))), (2, .int ((m_sts (τ 1) (2 - 2) k) + (if (eM (τ 1) 11 k) = (2 - 2) then (1 : Int32) else 0))), (0, .ref (a 70)), (1, .int (2))]) hC.1 hC.2.1 dX11_count_98 hl (k := 3) rfl (nI_add _ _) (by decide) rfl (fun ls hl => ?_)
            refine lv_goto (tgt := 64) hC.1 hC.2.1 dX11_count_101 (by decide) ?_
            exact ih64 (k + 1) ((m_sts (τ 1) (2 - 2) k) + (if (eM (τ 1) 11 k) = (2 - 2) then (1 : Int32) else 0)) (by simp only [m_sts, sm]) (by omega) (by omega) _ _ _ hw (lv_sub hl [2, 3, 1, 0] rfl)
          refine q_cmpne hC 95 cI dX11_count_88 (by decide) (fun (c8 : ¬ ((eM (τ 1) 11 k) = (2 - 2))) => ?_) (fun (c8 : (eM (τ 1) 11 k) = (2 - 2)) => ?_)
          · refine lv_iconst (v := nI 0) hC.1 hC.2.1 dX11_count_95 (by decide) ?_
            exact J96_7 _ (if_neg c8).symm _ _ _ hw (lv_sub hl [0, 1, 2, 3] rfl)
          · refine lv_iconst (v := nI 1) hC.1 hC.2.1 dX11_count_91 (by decide) ?_
            refine lv_goto (tgt := 96) hC.1 hC.2.1 dX11_count_92 (by decide) ?_
            exact J96_7 _ (if_pos c8).symm _ _ _ hw (lv_sub hl [0, 1, 2, 3] rfl)
    exact L64_3 _ 0 (nI 0) rfl (Nat.zero_le _) (Nat.lt_succ_self _) _ _ _ hw (lv_sub hl [2, 3, 1, 0] rfl)
  rcases Classical.em (what = 3) with k9 | k9
  · subst k9
    refine lv_tableIn (tgt := 62) hC.1 hC.2.1 dX11_count_3 (by decide) (by decide) (by rfl) (by decide) ?_
    refine lv_iconst (v := nI 0) hC.1 hC.2.1 dX11_count_62 (by decide) ?_
    refine lv_istore_n (lv' := [(3, .int (nI 0)), (2, .int (nI 0)), (0, .ref (a 70)), (1, .int (3))]) hC.1 hC.2.1 dX11_count_63 rfl hl (by decide) rfl (fun ls hl => ?_)
    have L64_9 : ∀ (n : Nat), ∀ (k : Nat), ∀ (v : Int32), (v = (m_sts (τ 1) (3 - 2) k)) → (k ≤ nj) → (nj - k) < n → ∀ (H : Heap) (locs : List Loc) (ls : Array Slot), Wst E (MW E a) (τ) A s.heap H locs → lv_has ls 4 [(0, .ref (a 70)), (1, .int (3)), (2, .int (v)), (3, .int (nI k))] → W p l e ({ frames := 1, cells := 0, slots := 0, locals := 22 }) s m args below meth c H locs 0 0 Q (F0 m 64 ls []) := by
      intro n
      induction n with
      | zero => intro k v q_v hk hn; exact absurd hn (Nat.not_lt_zero _)
      | succ n ih64 =>
        intro k v q_v hk hn64 H locs ls hw hl
        subst q_v
        refine lv_iload_n hC.1 hC.2.1 dX11_count_64 rfl (lv_at hl 3 rfl) ?_
        refine lv_aload_n hC.1 hC.2.1 dX11_count_65 rfl (lv_at hl 0 rfl) ?_
        refine gf_X11_7 hC hw dX11_count_66 ?_
        refine lv_iconst (v := nI 1) hC.1 hC.2.1 dX11_count_69 (by decide) ?_
        refine al_M1 (v := nI nj) hC hw (by omega) hW.2.2.2.1 dX11_count_70 ?_
        refine q_cmpge hC 104 (cNle (by omega) (by omega)) dX11_count_71 (by decide) (fun (c11 : nj ≤ k) => ?_) (fun (c11 : k < nj) => ?_)
        · refine lv_iload_n hC.1 hC.2.1 dX11_count_104 rfl (lv_at hl 2 rfl) ?_
          refine hret _ _ _ _ _ _ hw ?_ rfl dX11_count_105
          have hk9 : k = nj := by omega
          subst hk9
          exact ⟨by simp [o_count], rfl⟩
        · refine lv_iload_n hC.1 hC.2.1 dX11_count_74 rfl (lv_at hl 2 rfl) ?_
          refine lv_aload_n hC.1 hC.2.1 dX11_count_75 rfl (lv_at hl 0 rfl) ?_
          refine gf_X11_7 hC hw dX11_count_76 ?_
          refine lv_sipush (v := nI 258) hC.1 hC.2.1 dX11_count_79 (by decide) ?_
          refine lv_iload_n hC.1 hC.2.1 dX11_count_82 rfl (lv_at hl 3 rfl) ?_
          refine q_addN hC dX11_count_83 ?_
          refine al_M1 (v := eM (τ 1) 11 k) hC hw (by omega) (show _ = eM (τ 1) 11 k from congrArg (τ 1) (by omega)) dX11_count_84 ?_
          refine lv_iload_n hC.1 hC.2.1 dX11_count_85 rfl (lv_at hl 1 rfl) ?_
          refine lv_iconst (v := nI 2) hC.1 hC.2.1 dX11_count_86 (by decide) ?_
          refine lv_isub hC.1 hC.2.1 dX11_count_87 ?_
          have J96_13 : ∀ (w12 : Int32), w12 = (if (eM (τ 1) 11 k) = (3 - 2) then (1 : Int32) else 0) → ∀ (H : Heap) (locs : List Loc) (ls : Array Slot), Wst E (MW E a) (τ) A s.heap H locs → lv_has ls 4 [(0, .ref (a 70)), (1, .int (3)), (2, .int (m_sts (τ 1) (3 - 2) k)), (3, .int (nI k))] → W p l e ({ frames := 1, cells := 0, slots := 0, locals := 22 }) s m args below meth c H locs 0 0 Q (F0 m 96 ls [.int (w12), .int (m_sts (τ 1) (3 - 2) k)]) := by
            intro w12 e13 H locs ls hw hl
            subst e13
            refine lv_iadd hC.1 hC.2.1 dX11_count_96 ?_
            refine lv_istore_n (lv' := [(2, .int ((m_sts (τ 1) (3 - 2) k) + (if (eM (τ 1) 11 k) = (3 - 2) then (1 : Int32) else 0))), (0, .ref (a 70)), (1, .int (3)), (3, .int (nI k))]) hC.1 hC.2.1 dX11_count_97 rfl hl (by decide) rfl (fun ls hl => ?_)
            refine lv_iinc (v := nI (k + 1)) (lv' := [(3, .int (nI (k + 1))), (2, .int ((m_sts (τ 1) (3 - 2) k) + (if (eM (τ 1) 11 k) = (3 - 2) then (1 : Int32) else 0))), (0, .ref (a 70)), (1, .int (3))]) hC.1 hC.2.1 dX11_count_98 hl (k := 3) rfl (nI_add _ _) (by decide) rfl (fun ls hl => ?_)
            refine lv_goto (tgt := 64) hC.1 hC.2.1 dX11_count_101 (by decide) ?_
            exact ih64 (k + 1) ((m_sts (τ 1) (3 - 2) k) + (if (eM (τ 1) 11 k) = (3 - 2) then (1 : Int32) else 0)) (by simp only [m_sts, sm]) (by omega) (by omega) _ _ _ hw (lv_sub hl [2, 3, 1, 0] rfl)
          refine q_cmpne hC 95 cI dX11_count_88 (by decide) (fun (c14 : ¬ ((eM (τ 1) 11 k) = (3 - 2))) => ?_) (fun (c14 : (eM (τ 1) 11 k) = (3 - 2)) => ?_)
          · refine lv_iconst (v := nI 0) hC.1 hC.2.1 dX11_count_95 (by decide) ?_
            exact J96_13 _ (if_neg c14).symm _ _ _ hw (lv_sub hl [0, 1, 2, 3] rfl)
          · refine lv_iconst (v := nI 1) hC.1 hC.2.1 dX11_count_91 (by decide) ?_
            refine lv_goto (tgt := 96) hC.1 hC.2.1 dX11_count_92 (by decide) ?_
            exact J96_13 _ (if_pos c14).symm _ _ _ hw (lv_sub hl [0, 1, 2, 3] rfl)
    exact L64_9 _ 0 (nI 0) rfl (Nat.zero_le _) (Nat.lt_succ_self _) _ _ _ hw (lv_sub hl [2, 3, 1, 0] rfl)
  rcases Classical.em (what = 4) with k15 | k15
  · subst k15
    refine lv_tableIn (tgt := 62) hC.1 hC.2.1 dX11_count_3 (by decide) (by decide) (by rfl) (by decide) ?_
    refine lv_iconst (v := nI 0) hC.1 hC.2.1 dX11_count_62 (by decide) ?_
    refine lv_istore_n (lv' := [(3, .int (nI 0)), (2, .int (nI 0)), (0, .ref (a 70)), (1, .int (4))]) hC.1 hC.2.1 dX11_count_63 rfl hl (by decide) rfl (fun ls hl => ?_)
    have L64_15 : ∀ (n : Nat), ∀ (k : Nat), ∀ (v : Int32), (v = (m_sts (τ 1) (4 - 2) k)) → (k ≤ nj) → (nj - k) < n → ∀ (H : Heap) (locs : List Loc) (ls : Array Slot), Wst E (MW E a) (τ) A s.heap H locs → lv_has ls 4 [(0, .ref (a 70)), (1, .int (4)), (2, .int (v)), (3, .int (nI k))] → W p l e ({ frames := 1, cells := 0, slots := 0, locals := 22 }) s m args below meth c H locs 0 0 Q (F0 m 64 ls []) := by
      intro n
      induction n with
      | zero => intro k v q_v hk hn; exact absurd hn (Nat.not_lt_zero _)
      | succ n ih64 =>
        intro k v q_v hk hn64 H locs ls hw hl
        subst q_v
        refine lv_iload_n hC.1 hC.2.1 dX11_count_64 rfl (lv_at hl 3 rfl) ?_
        refine lv_aload_n hC.1 hC.2.1 dX11_count_65 rfl (lv_at hl 0 rfl) ?_
        refine gf_X11_7 hC hw dX11_count_66 ?_
        refine lv_iconst (v := nI 1) hC.1 hC.2.1 dX11_count_69 (by decide) ?_
        refine al_M1 (v := nI nj) hC hw (by omega) hW.2.2.2.1 dX11_count_70 ?_
        refine q_cmpge hC 104 (cNle (by omega) (by omega)) dX11_count_71 (by decide) (fun (c17 : nj ≤ k) => ?_) (fun (c17 : k < nj) => ?_)
        · refine lv_iload_n hC.1 hC.2.1 dX11_count_104 rfl (lv_at hl 2 rfl) ?_
          refine hret _ _ _ _ _ _ hw ?_ rfl dX11_count_105
          have hk9 : k = nj := by omega
          subst hk9
          exact ⟨by simp [o_count], rfl⟩
        · refine lv_iload_n hC.1 hC.2.1 dX11_count_74 rfl (lv_at hl 2 rfl) ?_
          refine lv_aload_n hC.1 hC.2.1 dX11_count_75 rfl (lv_at hl 0 rfl) ?_
          refine gf_X11_7 hC hw dX11_count_76 ?_
          refine lv_sipush (v := nI 258) hC.1 hC.2.1 dX11_count_79 (by decide) ?_
          refine lv_iload_n hC.1 hC.2.1 dX11_count_82 rfl (lv_at hl 3 rfl) ?_
          refine q_addN hC dX11_count_83 ?_
          refine al_M1 (v := eM (τ 1) 11 k) hC hw (by omega) (show _ = eM (τ 1) 11 k from congrArg (τ 1) (by omega)) dX11_count_84 ?_
          refine lv_iload_n hC.1 hC.2.1 dX11_count_85 rfl (lv_at hl 1 rfl) ?_
          refine lv_iconst (v := nI 2) hC.1 hC.2.1 dX11_count_86 (by decide) ?_
          refine lv_isub hC.1 hC.2.1 dX11_count_87 ?_
          have J96_19 : ∀ (w18 : Int32), w18 = (if (eM (τ 1) 11 k) = (4 - 2) then (1 : Int32) else 0) → ∀ (H : Heap) (locs : List Loc) (ls : Array Slot), Wst E (MW E a) (τ) A s.heap H locs → lv_has ls 4 [(0, .ref (a 70)), (1, .int (4)), (2, .int (m_sts (τ 1) (4 - 2) k)), (3, .int (nI k))] → W p l e ({ frames := 1, cells := 0, slots := 0, locals := 22 }) s m args below meth c H locs 0 0 Q (F0 m 96 ls [.int (w18), .int (m_sts (τ 1) (4 - 2) k)]) := by
            intro w18 e19 H locs ls hw hl
            subst e19
            refine lv_iadd hC.1 hC.2.1 dX11_count_96 ?_
            refine lv_istore_n (lv' := [(2, .int ((m_sts (τ 1) (4 - 2) k) + (if (eM (τ 1) 11 k) = (4 - 2) then (1 : Int32) else 0))), (0, .ref (a 70)), (1, .int (4)), (3, .int (nI k))]) hC.1 hC.2.1 dX11_count_97 rfl hl (by decide) rfl (fun ls hl => ?_)
            refine lv_iinc (v := nI (k + 1)) (lv' := [(3, .int (nI (k + 1))), (2, .int ((m_sts (τ 1) (4 - 2) k) + (if (eM (τ 1) 11 k) = (4 - 2) then (1 : Int32) else 0))), (0, .ref (a 70)), (1, .int (4))]) hC.1 hC.2.1 dX11_count_98 hl (k := 3) rfl (nI_add _ _) (by decide) rfl (fun ls hl => ?_)
            refine lv_goto (tgt := 64) hC.1 hC.2.1 dX11_count_101 (by decide) ?_
            exact ih64 (k + 1) ((m_sts (τ 1) (4 - 2) k) + (if (eM (τ 1) 11 k) = (4 - 2) then (1 : Int32) else 0)) (by simp only [m_sts, sm]) (by omega) (by omega) _ _ _ hw (lv_sub hl [2, 3, 1, 0] rfl)
          refine q_cmpne hC 95 cI dX11_count_88 (by decide) (fun (c20 : ¬ ((eM (τ 1) 11 k) = (4 - 2))) => ?_) (fun (c20 : (eM (τ 1) 11 k) = (4 - 2)) => ?_)
          · refine lv_iconst (v := nI 0) hC.1 hC.2.1 dX11_count_95 (by decide) ?_
            exact J96_19 _ (if_neg c20).symm _ _ _ hw (lv_sub hl [0, 1, 2, 3] rfl)
          · refine lv_iconst (v := nI 1) hC.1 hC.2.1 dX11_count_91 (by decide) ?_
            refine lv_goto (tgt := 96) hC.1 hC.2.1 dX11_count_92 (by decide) ?_
            exact J96_19 _ (if_pos c20).symm _ _ _ hw (lv_sub hl [0, 1, 2, 3] rfl)
    exact L64_15 _ 0 (nI 0) rfl (Nat.zero_le _) (Nat.lt_succ_self _) _ _ _ hw (lv_sub hl [2, 3, 1, 0] rfl)
  rcases Classical.em (what = 5) with k21 | k21
  · subst k21
    refine lv_tableIn (tgt := 106) hC.1 hC.2.1 dX11_count_3 (by decide) (by decide) (by rfl) (by decide) ?_
    refine lv_iconst (v := nI 0) hC.1 hC.2.1 dX11_count_106 (by decide) ?_
    refine lv_istore_n (lv' := [(3, .int (nI 0)), (2, .int (nI 0)), (0, .ref (a 70)), (1, .int (5))]) hC.1 hC.2.1 dX11_count_107 rfl hl (by decide) rfl (fun ls hl => ?_)
    have L108_21 : ∀ (n : Nat), ∀ (x : Nat), ∀ (v : Int32), (v = (m_ups (τ 1) x)) → (x ≤ nh) → (nh - x) < n → ∀ (H : Heap) (locs : List Loc) (ls : Array Slot), Wst E (MW E a) (τ) A s.heap H locs → lv_has ls 4 [(0, .ref (a 70)), (1, .int (5)), (2, .int (v)), (3, .int (nI x))] → W p l e ({ frames := 1, cells := 0, slots := 0, locals := 22 }) s m args below meth c H locs 0 0 Q (F0 m 108 ls []) := by
      intro n
      induction n with
      | zero => intro x v q_v hx hn; exact absurd hn (Nat.not_lt_zero _)
      | succ n ih108 =>
        intro x v q_v hx hn108 H locs ls hw hl
        subst q_v
        refine lv_iload_n hC.1 hC.2.1 dX11_count_108 rfl (lv_at hl 3 rfl) ?_
        refine lv_aload_n hC.1 hC.2.1 dX11_count_109 rfl (lv_at hl 0 rfl) ?_
        refine gf_X11_7 hC hw dX11_count_110 ?_
        refine lv_iconst (v := nI 0) hC.1 hC.2.1 dX11_count_113 (by decide) ?_
        refine al_M1 (v := nI nh) hC hw (by omega) hW.2.2.1 dX11_count_114 ?_
        refine q_cmpge hC 136 (cNle (by omega) (by omega)) dX11_count_115 (by decide) (fun (c23 : nh ≤ x) => ?_) (fun (c23 : x < nh) => ?_)
        · refine lv_iload_n hC.1 hC.2.1 dX11_count_136 rfl (lv_at hl 2 rfl) ?_
          refine hret _ _ _ _ _ _ hw ?_ rfl dX11_count_137
          have hk9 : x = nh := by omega
          subst hk9
          exact ⟨by simp [o_count], rfl⟩
        · refine lv_iload_n hC.1 hC.2.1 dX11_count_118 rfl (lv_at hl 2 rfl) ?_
          refine lv_aload_n hC.1 hC.2.1 dX11_count_119 rfl (lv_at hl 0 rfl) ?_
          refine gf_X11_7 hC hw dX11_count_120 ?_
          refine lv_bipush (v := nI 56) hC.1 hC.2.1 dX11_count_123 (by decide) ?_
          refine lv_iload_n hC.1 hC.2.1 dX11_count_125 rfl (lv_at hl 3 rfl) ?_
          refine q_addN hC dX11_count_126 ?_
          refine al_M1 (v := eM (τ 1) 4 x) hC hw (by omega) (show _ = eM (τ 1) 4 x from congrArg (τ 1) (by omega)) dX11_count_127 ?_
          refine lv_iadd hC.1 hC.2.1 dX11_count_128 ?_
          refine lv_istore_n (lv' := [(2, .int ((m_ups (τ 1) x) + (eM (τ 1) 4 x))), (0, .ref (a 70)), (1, .int (5)), (3, .int (nI x))]) hC.1 hC.2.1 dX11_count_129 rfl hl (by decide) rfl (fun ls hl => ?_)
          refine lv_iinc (v := nI (x + 1)) (lv' := [(3, .int (nI (x + 1))), (2, .int ((m_ups (τ 1) x) + (eM (τ 1) 4 x))), (0, .ref (a 70)), (1, .int (5))]) hC.1 hC.2.1 dX11_count_130 hl (k := 3) rfl (nI_add _ _) (by decide) rfl (fun ls hl => ?_)
          refine lv_goto (tgt := 108) hC.1 hC.2.1 dX11_count_133 (by decide) ?_
          exact ih108 (x + 1) ((m_ups (τ 1) x) + (eM (τ 1) 4 x)) rfl (by omega) (by omega) _ _ _ hw (lv_sub hl [2, 3, 1, 0] rfl)
    exact L108_21 _ 0 (nI 0) rfl (Nat.zero_le _) (Nat.lt_succ_self _) _ _ _ hw (lv_sub hl [2, 3, 1, 0] rfl)
  rcases Classical.em (what = 6) with k24 | k24
  · subst k24
    refine lv_tableIn (tgt := 138) hC.1 hC.2.1 dX11_count_3 (by decide) (by decide) (by rfl) (by decide) ?_
    refine lv_aload_n hC.1 hC.2.1 dX11_count_138 rfl (lv_at hl 1 rfl) ?_
    refine q_callVp (As := []) (rest := []) (q0 := 0) hC hw hl (tX11_targets l E a τ nh nj (by first | assumption | omega)) (q_cwV hC.2.2.2.2.1 ⟨rfl, rfl⟩ wk5_108 wk5_110 wks_4_0 wk1_12 wk5_111 hd_X11_targets ⟨Nat.le_of_ble_eq_true rfl, Nat.le_of_ble_eq_true rfl⟩) rfl rfl rfl rfl rfl (Nat.le_of_ble_eq_true rfl) dX11_count_139 (fun H locs hw => ?_)
    refine hret _ _ _ _ _ _ hw ?_ rfl dX11_count_142
    exact ⟨by simp [o_count], rfl⟩
  rcases Classical.em (what = 7) with k28 | k28
  · subst k28
    refine lv_tableIn (tgt := 143) hC.1 hC.2.1 dX11_count_3 (by decide) (by decide) (by rfl) (by decide) ?_
    refine lv_aload_n hC.1 hC.2.1 dX11_count_143 rfl (lv_at hl 1 rfl) ?_
    refine gf_X11_54 (v := nI olds) hC hw hO dX11_count_144 ?_
    refine hret _ _ _ _ _ _ hw ?_ rfl dX11_count_147
    exact ⟨by simp [o_count], rfl⟩
  refine lv_tableOut (tgt := 148) hC.1 hC.2.1 dX11_count_3 (sw_out_0_7 k1 k2 k3 k9 k15 k21 k24 k28) (by decide) ?_
  refine lv_iconst (v := (-1)) hC.1 hC.2.1 dX11_count_148 (by decide) ?_
  refine hret _ _ _ _ _ _ hw ?_ rfl dX11_count_149
  exact ⟨by rw [o_count, if_neg k1, if_neg k2, if_neg k3, if_neg k9, if_neg k15, if_neg k21, if_neg k24, if_neg k28], rfl⟩
set_option maxHeartbeats 4000000 in
set_option maxRecDepth 100000 in
theorem tX11_letFall (l : Launch) (E : EV) (a : Nat → Nat) (τ : St) (nh : Nat) (nj : Nat) (h : Nat) (hW : mF (τ 1) nh nj) (hh : h < nh) : MI l E (MW E a) yX11_letFall (Cond.code yX11_letFall cX11_letFall 5 (some .int)) ({ frames := 1, cells := 0, slots := 0, locals := 22 }) [.ref (a 70), .int (nI h)] τ (fun r_ u_ => r_ = (m_fal (τ 1) h nj) ∧ u_ = sr τ 1 (f_fal (τ 1) h nj)) := by
  refine MI.mk (by decide +kernel) (Nat.le_of_ble_eq_true rfl) ?_
  intro p e s m args below meth c ls A Q hret hC hw hl
  have hC : Cxt E p s m args meth c cX11_letFall 5 (some .int) RX11 A := hC
  have hl : lv_has ls 5 [(0, .ref (a 70)), (1, .int (nI h))] := hl
  have ⟨hnh, hnj, hW0, hW1, hWh⟩ := id hW
  refine lv_iconst (v := nI 0) hC.1 hC.2.1 dX11_letFall_0 (by decide) ?_
  refine lv_istore_n (lv' := [(2, .int (nI 0)), (0, .ref (a 70)), (1, .int (nI h))]) hC.1 hC.2.1 dX11_letFall_1 rfl hl (by decide) rfl (fun ls hl => ?_)
  refine lv_aload_n hC.1 hC.2.1 dX11_letFall_2 rfl (lv_at hl 1 rfl) ?_
  refine gf_X11_7 hC hw dX11_letFall_3 ?_
  refine lv_bipush (v := nI 56) hC.1 hC.2.1 dX11_letFall_6 (by decide) ?_
  refine lv_iload_n hC.1 hC.2.1 dX11_letFall_8 rfl (lv_at hl 2 rfl) ?_
  refine q_addN hC dX11_letFall_9 ?_
  refine lv_iconst (v := nI 0) hC.1 hC.2.1 dX11_letFall_10 (by decide) ?_
  refine as_M1 hC hw (by omega) dX11_letFall_11 (fun H locs hw => ?_)
  have hw : Wst E (MW E a) (sr τ 1 (upd (τ 1) (56 + h) (0))) A s.heap H locs := hw
  refine lv_iconst (v := nI 0) hC.1 hC.2.1 dX11_letFall_12 (by decide) ?_
  refine lv_istore_n (lv' := [(3, .int (nI 0)), (2, .int (nI 0)), (0, .ref (a 70)), (1, .int (nI h))]) hC.1 hC.2.1 dX11_letFall_13 rfl hl (by decide) rfl (fun ls hl => ?_)
  have L14_0 : ∀ (n : Nat), ∀ (j : Nat), ∀ (n2 : Int32), (n2 = (m_fal (τ 1) h j)) → (j ≤ nj) → (nj - j) < n → ∀ (H : Heap) (locs : List Loc) (ls : Array Slot), Wst E (MW E a) (sr τ 1 (f_fal (τ 1) h j)) A s.heap H locs → lv_has ls 5 [(0, .ref (a 70)), (1, .int (nI h)), (2, .int (n2)), (3, .int (nI j))] → W p l e ({ frames := 1, cells := 0, slots := 0, locals := 22 }) s m args below meth c H locs 0 0 Q (F0 m 14 ls []) := by
    intro n
    induction n with
    | zero => intro j n2 q_n2 hj hn; exact absurd hn (Nat.not_lt_zero _)
    | succ n ih14 =>
      intro j n2 q_n2 hj hn14 H locs ls hw hl
      subst q_n2
      have hWf := f_fal_mF (n := j) hW hh
      refine lv_iload_n hC.1 hC.2.1 dX11_letFall_14 rfl (lv_at hl 3 rfl) ?_
      refine lv_aload_n hC.1 hC.2.1 dX11_letFall_15 rfl (lv_at hl 0 rfl) ?_
      refine gf_X11_7 hC hw dX11_letFall_16 ?_
      refine lv_iconst (v := nI 1) hC.1 hC.2.1 dX11_letFall_19 (by decide) ?_
      refine al_M1 (v := nI nj) hC hw (by omega) hWf.2.2.2.1 dX11_letFall_20 ?_
      refine q_cmpge hC 92 (cNle (by omega) (by omega)) dX11_letFall_21 (by decide) (fun (c2 : nj ≤ j) => ?_) (fun (c2 : j < nj) => ?_)
      · refine lv_iload_n hC.1 hC.2.1 dX11_letFall_92 rfl (lv_at hl 2 rfl) ?_
        refine hret _ _ _ _ _ _ hw ?_ rfl dX11_letFall_93
        have hj9 : j = nj := by omega
        subst hj9
        exact ⟨rfl, rfl⟩
      · refine lv_aload_n hC.1 hC.2.1 dX11_letFall_24 rfl (lv_at hl 0 rfl) ?_
        refine lv_iload_n hC.1 hC.2.1 dX11_letFall_25 rfl (lv_at hl 3 rfl) ?_
        refine lv_iload_n hC.1 hC.2.1 dX11_letFall_26 rfl (lv_at hl 1 rfl) ?_
        refine q_callVp (As := [.int (nI j), .int (nI h)]) (rest := []) (q0 := 0) hC hw hl (tX11_standsOn l E a (sr τ 1 (f_fal (τ 1) h j)) nh nj j h hWf (by first | assumption | omega) (by first | assumption | omega)) (q_cwV hC.2.2.2.2.1 ⟨rfl, rfl⟩ wk4_210 wk4_212 wks_2_11 wk1_12 wk4_213 hd_X11_standsOn ⟨Nat.le_of_ble_eq_true rfl, Nat.le_of_ble_eq_true rfl⟩) rfl rfl rfl rfl rfl (Nat.le_of_ble_eq_true rfl) dX11_letFall_27 (fun H locs hw => ?_)
        have J86_9 : ∀ (w6 : Int32), w6 = (if eM (f_fal (τ 1) h j) 11 j = 1 ∧ eM (f_fal (τ 1) h j) 12 j = nI h then ((m_fal (τ 1) h j) + (if ¬ ((eM (f_fal (τ 1) h j) 5 j) = 3) then (1 : Int32) else 0)) else (m_fal (τ 1) h j)) → ∀ (w8 : Nat → Int32), w8 = (if eM (f_fal (τ 1) h j) 11 j = 1 ∧ eM (f_fal (τ 1) h j) 12 j = nI h then (upd (f_fal (τ 1) h j) (258 + j) ((if (eM (f_fal (τ 1) h j) 5 j) = 3 then 2 else 0))) else (f_fal (τ 1) h j)) → ∀ (H : Heap) (locs : List Loc) (ls : Array Slot), Wst E (MW E a) (sr τ 1 (w8)) A s.heap H locs → lv_has ls 5 [(0, .ref (a 70)), (1, .int (nI h)), (2, .int (w6)), (3, .int (nI j))] → W p l e ({ frames := 1, cells := 0, slots := 0, locals := 22 }) s m args below meth c H locs 0 0 Q (F0 m 86 ls []) := by
          intro w6 e7 w8 e9 H locs ls hw hl
          subst e7
          subst e9
          refine lv_iinc (v := nI (j + 1)) (lv' := [(3, .int (nI (j + 1))), (0, .ref (a 70)), (1, .int (nI h)), (2, .int ((if eM (f_fal (τ 1) h j) 11 j = 1 ∧ eM (f_fal (τ 1) h j) 12 j = nI h then ((m_fal (τ 1) h j) + (if ¬ ((eM (f_fal (τ 1) h j) 5 j) = 3) then (1 : Int32) else 0)) else (m_fal (τ 1) h j))))]) hC.1 hC.2.1 dX11_letFall_86 hl (k := 3) rfl (nI_add _ _) (by decide) rfl (fun ls hl => ?_)
          refine lv_goto (tgt := 14) hC.1 hC.2.1 dX11_letFall_89 (by decide) ?_
          rw [f_fal_s hW hh (show j < nj by omega)] at hw
          exact ih14 (j + 1) (if eM (f_fal (τ 1) h j) 11 j = 1 ∧ eM (f_fal (τ 1) h j) 12 j = nI h then ((m_fal (τ 1) h j) + (if ¬ ((eM (f_fal (τ 1) h j) 5 j) = 3) then (1 : Int32) else 0)) else (m_fal (τ 1) h j)) (by rw [f_fal_n hW hh (show j < nj by omega)]) (by omega) (by omega) _ _ _ hw (lv_sub hl [1, 2, 3, 0] rfl)
        refine q_ifeq hC 86 cB dX11_letFall_30 (by decide) (fun (c10 : ¬ (eM (f_fal (τ 1) h j) 11 j = 1 ∧ eM (f_fal (τ 1) h j) 12 j = nI h)) => ?_) (fun (c10 : eM (f_fal (τ 1) h j) 11 j = 1 ∧ eM (f_fal (τ 1) h j) 12 j = nI h) => ?_)
        · exact J86_9 _ (by (rw [if_neg c10]) <;> rfl) _ (by (rw [if_neg c10]) <;> rfl) _ _ _ hw (lv_sub hl [0, 1, 2, 3] rfl)
        · refine lv_aload_n hC.1 hC.2.1 dX11_letFall_33 rfl (lv_at hl 0 rfl) ?_
          refine gf_X11_7 hC hw dX11_letFall_34 ?_
          refine lv_bipush (v := nI 66) hC.1 hC.2.1 dX11_letFall_37 (by decide) ?_
          refine lv_iload_n hC.1 hC.2.1 dX11_letFall_39 rfl (lv_at hl 3 rfl) ?_
          refine q_addN hC dX11_letFall_40 ?_
          refine al_M1 (v := eM (f_fal (τ 1) h j) 5 j) hC hw (by omega) (show _ = eM (f_fal (τ 1) h j) 5 j from congrArg (f_fal (τ 1) h j) (by omega)) dX11_letFall_41 ?_
          refine lv_iconst (v := nI 3) hC.1 hC.2.1 dX11_letFall_42 (by decide) ?_
          have J51_12 : ∀ (w11 : Int32), w11 = (if (eM (f_fal (τ 1) h j) 5 j) = 3 then (1 : Int32) else 0) → ∀ (H : Heap) (locs : List Loc) (ls : Array Slot), Wst E (MW E a) (sr τ 1 (f_fal (τ 1) h j)) A s.heap H locs → lv_has ls 5 [(0, .ref (a 70)), (1, .int (nI h)), (2, .int (m_fal (τ 1) h j)), (3, .int (nI j))] → W p l e ({ frames := 1, cells := 0, slots := 0, locals := 22 }) s m args below meth c H locs 0 0 Q (F0 m 51 ls [.int (w11)]) := by
            intro w11 e12 H locs ls hw hl
            subst e12
            refine lv_istore (lv' := [(4, .int (if (eM (f_fal (τ 1) h j) 5 j) = 3 then (1 : Int32) else 0)), (0, .ref (a 70)), (1, .int (nI h)), (2, .int (m_fal (τ 1) h j)), (3, .int (nI j))]) hC.1 hC.2.1 dX11_letFall_51 hl (by decide) rfl (fun ls hl => ?_)
            refine lv_aload_n hC.1 hC.2.1 dX11_letFall_53 rfl (lv_at hl 1 rfl) ?_
            refine gf_X11_7 hC hw dX11_letFall_54 ?_
            refine lv_sipush (v := nI 258) hC.1 hC.2.1 dX11_letFall_57 (by decide) ?_
            refine lv_iload_n hC.1 hC.2.1 dX11_letFall_60 rfl (lv_at hl 4 rfl) ?_
            refine q_addN hC dX11_letFall_61 ?_
            refine lv_iload hC.1 hC.2.1 dX11_letFall_62 (lv_at hl 0 rfl) ?_
            have J72_14 : ∀ (w13 : Int32), w13 = (if (eM (f_fal (τ 1) h j) 5 j) = 3 then 2 else 0) → ∀ (H : Heap) (locs : List Loc) (ls : Array Slot), Wst E (MW E a) (sr τ 1 (f_fal (τ 1) h j)) A s.heap H locs → lv_has ls 5 [(0, .ref (a 70)), (1, .int (nI h)), (2, .int (m_fal (τ 1) h j)), (3, .int (nI j)), (4, .int (if (eM (f_fal (τ 1) h j) 5 j) = 3 then (1 : Int32) else 0))] → W p l e ({ frames := 1, cells := 0, slots := 0, locals := 22 }) s m args below meth c H locs 0 0 Q (F0 m 72 ls [.int (w13), .int (nI (258 + j)), .ref (a 1)]) := by
              intro w13 e14 H locs ls hw hl
              subst e14
              refine as_M1 hC hw (by omega) dX11_letFall_72 (fun H locs hw => ?_)
              have hw : Wst E (MW E a) (sr τ 1 (upd (f_fal (τ 1) h j) (258 + j) ((if (eM (f_fal (τ 1) h j) 5 j) = 3 then 2 else 0)))) A s.heap H locs := hw
              refine lv_iload_n hC.1 hC.2.1 dX11_letFall_73 rfl (lv_at hl 2 rfl) ?_
              refine lv_iload hC.1 hC.2.1 dX11_letFall_74 (lv_at hl 4 rfl) ?_
              have J84_16 : ∀ (w15 : Int32), w15 = (if ¬ ((eM (f_fal (τ 1) h j) 5 j) = 3) then (1 : Int32) else 0) → ∀ (H : Heap) (locs : List Loc) (ls : Array Slot), Wst E (MW E a) (sr τ 1 (upd (f_fal (τ 1) h j) (258 + j) ((if (eM (f_fal (τ 1) h j) 5 j) = 3 then 2 else 0)))) A s.heap H locs → lv_has ls 5 [(0, .ref (a 70)), (1, .int (nI h)), (2, .int (m_fal (τ 1) h j)), (3, .int (nI j)), (4, .int (if (eM (f_fal (τ 1) h j) 5 j) = 3 then (1 : Int32) else 0))] → W p l e ({ frames := 1, cells := 0, slots := 0, locals := 22 }) s m args below meth c H locs 0 0 Q (F0 m 84 ls [.int (w15), .int (m_fal (τ 1) h j)]) := by
                intro w15 e16 H locs ls hw hl
                subst e16
                refine lv_iadd hC.1 hC.2.1 dX11_letFall_84 ?_
                refine lv_istore_n (lv' := [(2, .int ((m_fal (τ 1) h j) + (if ¬ ((eM (f_fal (τ 1) h j) 5 j) = 3) then (1 : Int32) else 0))), (0, .ref (a 70)), (1, .int (nI h)), (3, .int (nI j)), (4, .int (if (eM (f_fal (τ 1) h j) 5 j) = 3 then (1 : Int32) else 0))]) hC.1 hC.2.1 dX11_letFall_85 rfl hl (by decide) rfl (fun ls hl => ?_)
                exact J86_9 _ (by (rw [if_pos c10]) <;> rfl) _ (by (rw [if_pos c10]) <;> rfl) _ _ _ hw (lv_sub hl [1, 2, 0, 3] rfl)
              refine q_ifeq hC 83 cB dX11_letFall_76 (by decide) (fun (c17 : ¬ ((eM (f_fal (τ 1) h j) 5 j) = 3)) => ?_) (fun (c17 : (eM (f_fal (τ 1) h j) 5 j) = 3) => ?_)
              · refine lv_iconst (v := nI 1) hC.1 hC.2.1 dX11_letFall_83 (by decide) ?_
                exact J84_16 _ (if_pos c17).symm _ _ _ hw (lv_sub hl [0, 1, 2, 3, 4] rfl)
              · refine lv_iconst (v := nI 0) hC.1 hC.2.1 dX11_letFall_79 (by decide) ?_
                refine lv_goto (tgt := 84) hC.1 hC.2.1 dX11_letFall_80 (by decide) ?_
                exact J84_16 _ (if_neg (fun q => q c17)).symm _ _ _ hw (lv_sub hl [0, 1, 2, 3, 4] rfl)
            refine q_ifeq hC 71 cB dX11_letFall_64 (by decide) (fun (c18 : ¬ ((eM (f_fal (τ 1) h j) 5 j) = 3)) => ?_) (fun (c18 : (eM (f_fal (τ 1) h j) 5 j) = 3) => ?_)
            · refine lv_iconst (v := nI 0) hC.1 hC.2.1 dX11_letFall_71 (by decide) ?_
              exact J72_14 _ (by (rw [if_neg c18]) <;> rfl) _ _ _ hw (lv_sub hl [1, 2, 3, 4, 0] rfl)
            · refine lv_iconst (v := nI 2) hC.1 hC.2.1 dX11_letFall_67 (by decide) ?_
              refine lv_goto (tgt := 72) hC.1 hC.2.1 dX11_letFall_68 (by decide) ?_
              exact J72_14 _ (by (rw [if_pos c18]) <;> rfl) _ _ _ hw (lv_sub hl [1, 2, 3, 4, 0] rfl)
          refine q_cmpne hC 50 cI dX11_letFall_43 (by decide) (fun (c19 : ¬ ((eM (f_fal (τ 1) h j) 5 j) = 3)) => ?_) (fun (c19 : (eM (f_fal (τ 1) h j) 5 j) = 3) => ?_)
          · refine lv_iconst (v := nI 0) hC.1 hC.2.1 dX11_letFall_50 (by decide) ?_
            exact J51_12 _ (if_neg c19).symm _ _ _ hw (lv_sub hl [0, 1, 2, 3] rfl)
          · refine lv_iconst (v := nI 1) hC.1 hC.2.1 dX11_letFall_46 (by decide) ?_
            refine lv_goto (tgt := 51) hC.1 hC.2.1 dX11_letFall_47 (by decide) ?_
            exact J51_12 _ (if_pos c19).symm _ _ _ hw (lv_sub hl [0, 1, 2, 3] rfl)
  rw [f_fal_0] at hw
  exact L14_0 _ 0 (nI 0) rfl (Nat.zero_le _) (Nat.lt_succ_self _) _ _ _ hw (lv_sub hl [2, 3, 1, 0] rfl)
set_option maxHeartbeats 4000000 in
set_option maxRecDepth 100000 in
theorem tX11_fall (l : Launch) (E : EV) (a : Nat → Nat) (τ : St) (nh : Nat) (nj : Nat) (stk : List (Nat → Int32)) (host : Int32) (hW : mF (τ 1) nh nj) (hO : τ 0 0 = nI stk.length) (hKR : KR (τ 2) stk) : MI l E (MW E a) yX11_fall (Cond.code yX11_fall cX11_fall 2 (some .int)) ({ frames := 2, cells := 0, slots := 0, locals := 46 }) [.ref (a 70), .int (host)] τ (fun r_ u_ => r_ = (o_fall (τ 1) nh nj host).1 ∧ MP τ u_ stk (o_fall (τ 1) nh nj host).2) := by
  refine MI.mk (by decide +kernel) (Nat.le_of_ble_eq_true rfl) ?_
  intro p e s m args below meth c ls A Q hret hC hw hl
  have hC : Cxt E p s m args meth c cX11_fall 2 (some .int) RX11 A := hC
  have hl : lv_has ls 2 [(0, .ref (a 70)), (1, .int (host))] := hl
  have ⟨hnh, hnj, hW0, hW1, hWh⟩ := id hW
  refine lv_aload_n hC.1 hC.2.1 dX11_fall_0 rfl (lv_at hl 0 rfl) ?_
  refine lv_iload_n hC.1 hC.2.1 dX11_fall_1 rfl (lv_at hl 1 rfl) ?_
  refine q_callVp (As := [.int (host)]) (rest := []) (q0 := 0) hC hw hl (tX11_isHost l E a τ nh nj host (by first | assumption | omega)) (q_cwV hC.2.2.2.2.1 ⟨rfl, rfl⟩ wk4_198 wk4_200 wks_2_8 wk1_12 wk4_201 hd_X11_isHost ⟨Nat.le_of_ble_eq_true rfl, Nat.le_of_ble_eq_true rfl⟩) rfl rfl rfl rfl rfl (Nat.le_of_ble_eq_true rfl) dX11_fall_2 (fun H locs hw => ?_)
  refine q_ifne hC 10 cB dX11_fall_5 (by decide) (fun (c4 : ¬ host < 0 ∧ host < nI nh) => ?_) (fun (c4 : ¬ (¬ host < 0 ∧ host < nI nh)) => ?_)
  · obtain ⟨h, h_h, rfl⟩ := in_nat (by omega) c4
    have z_h := nI_clamp (show h < 2 ^ 31 by omega)
    have y_h : cN (nI h) = h := z_h
    refine lv_aload_n hC.1 hC.2.1 dX11_fall_10 rfl (lv_at hl 0 rfl) ?_
    refine gf_X11_7 hC hw dX11_fall_11 ?_
    refine lv_bipush (v := nI 56) hC.1 hC.2.1 dX11_fall_14 (by decide) ?_
    refine lv_iload_n hC.1 hC.2.1 dX11_fall_16 rfl (lv_at hl 1 rfl) ?_
    refine q_addN hC dX11_fall_17 ?_
    refine al_M1 (v := eM (τ 1) 4 h) hC hw (by omega) (show _ = eM (τ 1) 4 h from congrArg (τ 1) (by omega)) dX11_fall_18 ?_
    refine q_ifne hC 25 cI dX11_fall_19 (by decide) (fun (c5 : ¬ ((eM (τ 1) 4 h) = 0)) => ?_) (fun (c5 : (eM (τ 1) 4 h) = 0) => ?_)
    · refine lv_aload_n hC.1 hC.2.1 dX11_fall_25 rfl (lv_at hl 0 rfl) ?_
      refine q_callVv (As := []) (rest := []) (q0 := 0) hC hw hl (tX11_keep l E a τ stk (by first | assumption | omega) (by first | assumption | omega)) (q_cwV hC.2.2.2.2.1 ⟨rfl, rfl⟩ wk4_178 wk4_180 wks_2_6 wk1_12 wk4_181 hd_X11_keep ⟨Nat.le_of_ble_eq_true rfl, Nat.le_of_ble_eq_true rfl⟩) rfl rfl rfl rfl rfl (Nat.le_of_ble_eq_true rfl) dX11_fall_26 (fun u8 H locs p6 hw => ?_)
      obtain ⟨K9, hRK9, huK9⟩ := p6
      have hw : Wst E (MW E a) (sr (sr τ 2 (K9)) 0 (upd (τ 0) 0 (nI (push30 stk (τ 1)).length))) A s.heap H locs := by rw [huK9] at hw; exact hw
      refine lv_aload_n hC.1 hC.2.1 dX11_fall_29 rfl (lv_at hl 0 rfl) ?_
      refine lv_iload_n hC.1 hC.2.1 dX11_fall_30 rfl (lv_at hl 1 rfl) ?_
      refine q_callVp (As := [.int (nI h)]) (rest := []) (q0 := 0) hC hw hl (tX11_letFall l E a (sr (sr τ 2 (K9)) 0 (upd (τ 0) 0 (nI (push30 stk (τ 1)).length))) nh nj h hW (by first | assumption | omega)) (q_cwV hC.2.2.2.2.1 ⟨rfl, rfl⟩ wk5_60 wk5_62 wks_3_9 wk1_12 wk5_63 hd_X11_letFall ⟨Nat.le_of_ble_eq_true rfl, Nat.le_of_ble_eq_true rfl⟩) rfl rfl rfl rfl rfl (Nat.le_of_ble_eq_true rfl) dX11_fall_31 (fun H locs hw => ?_)
      have hw : Wst E (MW E a) (sr (sr (sr τ 1 (f_fal (τ 1) h nj)) 2 (K9)) 0 (upd (τ 0) 0 (nI (push30 stk (τ 1)).length))) A s.heap H locs := hw
      refine hret _ _ _ _ _ _ hw ?_ rfl dX11_fall_34
      have ho : o_fall (τ 1) nh nj (nI h) = (m_fal (τ 1) h nj, some (f_fal (τ 1) h nj)) := by rw [o_fall, if_pos c4, y_h, if_neg c5]
      rw [ho]
      exact ⟨rfl, MPs hRK9⟩
    · refine lv_bipush (v := (-2)) hC.1 hC.2.1 dX11_fall_22 (by decide) ?_
      refine hret _ _ _ _ _ _ hw ?_ rfl dX11_fall_24
      have ho : o_fall (τ 1) nh nj (nI h) = ((-2), none) := by rw [o_fall, if_pos c4, y_h, if_pos c5]
      rw [ho]
      exact ⟨rfl, MP0 hKR hO⟩
  · refine lv_iconst (v := (-1)) hC.1 hC.2.1 dX11_fall_8 (by decide) ?_
    refine hret _ _ _ _ _ _ hw ?_ rfl dX11_fall_9
    have ho : o_fall (τ 1) nh nj host = ((-1), none) := by rw [o_fall, if_neg c4]
    rw [ho]
    exact ⟨rfl, MP0 hKR hO⟩
set_option maxHeartbeats 4000000 in
set_option maxRecDepth 100000 in
theorem tX11_move (l : Launch) (E : EV) (a : Nat → Nat) (τ : St) (nh : Nat) (nj : Nat) (stk : List (Nat → Int32)) (job : Int32) (host : Int32) (hW : mF (τ 1) nh nj) (hO : τ 0 0 = nI stk.length) (hKR : KR (τ 2) stk) : MI l E (MW E a) yX11_move (Cond.code yX11_move cX11_move 4 (some .int)) ({ frames := 4, cells := 0, slots := 0, locals := 94 }) [.ref (a 70), .int (job), .int (host)] τ (fun r_ u_ => r_ = (o_move (τ 1) nh nj job host).1 ∧ MP τ u_ stk (o_move (τ 1) nh nj job host).2) := by
  refine MI.mk (by decide +kernel) (Nat.le_of_ble_eq_true rfl) ?_
  intro p e s m args below meth c ls A Q hret hC hw hl
  have hC : Cxt E p s m args meth c cX11_move 4 (some .int) RX11 A := hC
  have hl : lv_has ls 4 [(0, .ref (a 70)), (1, .int (job)), (2, .int (host))] := hl
  have ⟨hnh, hnj, hW0, hW1, hWh⟩ := id hW
  refine lv_aload_n hC.1 hC.2.1 dX11_move_0 rfl (lv_at hl 0 rfl) ?_
  refine lv_iload_n hC.1 hC.2.1 dX11_move_1 rfl (lv_at hl 1 rfl) ?_
  refine q_callVp (As := [.int (job)]) (rest := []) (q0 := 0) hC hw hl (tX11_isJob l E a τ nh nj job (by first | assumption | omega)) (q_cwV hC.2.2.2.2.1 ⟨rfl, rfl⟩ wk4_194 wk4_196 wks_2_7 wk1_12 wk4_197 hd_X11_isJob ⟨Nat.le_of_ble_eq_true rfl, Nat.le_of_ble_eq_true rfl⟩) rfl rfl rfl rfl rfl (Nat.le_of_ble_eq_true rfl) dX11_move_2 (fun H locs hw => ?_)
  refine q_ifeq hC 16 cB dX11_move_5 (by decide) (fun (c4 : ¬ (¬ job < 0 ∧ job < nI nj)) => ?_) (fun (c4 : ¬ job < 0 ∧ job < nI nj) => ?_)
  · refine lv_iconst (v := (-1)) hC.1 hC.2.1 dX11_move_16 (by decide) ?_
    refine hret _ _ _ _ _ _ hw ?_ rfl dX11_move_17
    have ho : o_move (τ 1) nh nj job host = ((-1), none) := by rw [o_move, if_neg (fun q => c4 q.1)]
    rw [ho]
    exact ⟨rfl, MP0 hKR hO⟩
  · refine lv_aload_n hC.1 hC.2.1 dX11_move_8 rfl (lv_at hl 0 rfl) ?_
    refine lv_iload_n hC.1 hC.2.1 dX11_move_9 rfl (lv_at hl 2 rfl) ?_
    refine q_callVp (As := [.int (host)]) (rest := []) (q0 := 0) hC hw hl (tX11_isHost l E a τ nh nj host (by first | assumption | omega)) (q_cwV hC.2.2.2.2.1 ⟨rfl, rfl⟩ wk4_198 wk4_200 wks_2_8 wk1_12 wk4_201 hd_X11_isHost ⟨Nat.le_of_ble_eq_true rfl, Nat.le_of_ble_eq_true rfl⟩) rfl rfl rfl rfl rfl (Nat.le_of_ble_eq_true rfl) dX11_move_10 (fun H locs hw => ?_)
    refine q_ifne hC 18 cB dX11_move_13 (by decide) (fun (c8 : ¬ host < 0 ∧ host < nI nh) => ?_) (fun (c8 : ¬ (¬ host < 0 ∧ host < nI nh)) => ?_)
    · obtain ⟨j, h_j, rfl⟩ := in_nat (by omega) c4
      have z_j := nI_clamp (show j < 2 ^ 31 by omega)
      have y_j : cN (nI j) = j := z_j
      obtain ⟨h, h_h, rfl⟩ := in_nat (by omega) c8
      have z_h := nI_clamp (show h < 2 ^ 31 by omega)
      have y_h : cN (nI h) = h := z_h
      refine lv_aload_n hC.1 hC.2.1 dX11_move_18 rfl (lv_at hl 0 rfl) ?_
      refine gf_X11_7 hC hw dX11_move_19 ?_
      refine lv_sipush (v := nI 258) hC.1 hC.2.1 dX11_move_22 (by decide) ?_
      refine lv_iload_n hC.1 hC.2.1 dX11_move_25 rfl (lv_at hl 1 rfl) ?_
      refine q_addN hC dX11_move_26 ?_
      refine al_M1 (v := eM (τ 1) 11 j) hC hw (by omega) (show _ = eM (τ 1) 11 j from congrArg (τ 1) (by omega)) dX11_move_27 ?_
      refine lv_iconst (v := nI 1) hC.1 hC.2.1 dX11_move_28 (by decide) ?_
      refine q_cmpne hC 59 cI dX11_move_29 (by decide) (fun (c9 : ¬ ((eM (τ 1) 11 j) = 1)) => ?_) (fun (c9 : (eM (τ 1) 11 j) = 1) => ?_)
      · refine lv_bipush (v := (-2)) hC.1 hC.2.1 dX11_move_59 (by decide) ?_
        refine hret _ _ _ _ _ _ hw ?_ rfl dX11_move_61
        have ho : o_move (τ 1) nh nj (nI j) (nI h) = ((-2), none) := by rw [o_move, if_pos ⟨c4, c8⟩, y_j, y_h, if_neg (fun q => c9 q.1)]
        rw [ho]
        exact ⟨rfl, MP0 hKR hO⟩
      · refine lv_aload_n hC.1 hC.2.1 dX11_move_32 rfl (lv_at hl 0 rfl) ?_
        refine gf_X11_7 hC hw dX11_move_33 ?_
        refine lv_bipush (v := nI 66) hC.1 hC.2.1 dX11_move_36 (by decide) ?_
        refine lv_iload_n hC.1 hC.2.1 dX11_move_38 rfl (lv_at hl 1 rfl) ?_
        refine q_addN hC dX11_move_39 ?_
        refine al_M1 (v := eM (τ 1) 5 j) hC hw (by omega) (show _ = eM (τ 1) 5 j from congrArg (τ 1) (by omega)) dX11_move_40 ?_
        refine lv_iconst (v := nI 3) hC.1 hC.2.1 dX11_move_41 (by decide) ?_
        refine q_cmpeq hC 59 cI dX11_move_42 (by decide) (fun (c10 : (eM (τ 1) 5 j) = 3) => ?_) (fun (c10 : ¬ ((eM (τ 1) 5 j) = 3)) => ?_)
        · refine lv_bipush (v := (-2)) hC.1 hC.2.1 dX11_move_59 (by decide) ?_
          refine hret _ _ _ _ _ _ hw ?_ rfl dX11_move_61
          have ho : o_move (τ 1) nh nj (nI j) (nI h) = ((-2), none) := by rw [o_move, if_pos ⟨c4, c8⟩, y_j, y_h, if_neg (fun q => q.2.1 c10)]
          rw [ho]
          exact ⟨rfl, MP0 hKR hO⟩
        · refine lv_aload_n hC.1 hC.2.1 dX11_move_45 rfl (lv_at hl 0 rfl) ?_
          refine gf_X11_7 hC hw dX11_move_46 ?_
          refine lv_sipush (v := nI 282) hC.1 hC.2.1 dX11_move_49 (by decide) ?_
          refine lv_iload_n hC.1 hC.2.1 dX11_move_52 rfl (lv_at hl 1 rfl) ?_
          refine q_addN hC dX11_move_53 ?_
          refine al_M1 (v := eM (τ 1) 12 j) hC hw (by omega) (show _ = eM (τ 1) 12 j from congrArg (τ 1) (by omega)) dX11_move_54 ?_
          refine lv_iload_n hC.1 hC.2.1 dX11_move_55 rfl (lv_at hl 2 rfl) ?_
          refine q_cmpne hC 62 cI dX11_move_56 (by decide) (fun (c11 : ¬ ((eM (τ 1) 12 j) = nI h)) => ?_) (fun (c11 : (eM (τ 1) 12 j) = nI h) => ?_)
          · refine lv_aload_n hC.1 hC.2.1 dX11_move_62 rfl (lv_at hl 0 rfl) ?_
            refine lv_iload_n hC.1 hC.2.1 dX11_move_63 rfl (lv_at hl 1 rfl) ?_
            refine lv_iload_n hC.1 hC.2.1 dX11_move_64 rfl (lv_at hl 2 rfl) ?_
            refine q_callVp (As := [.int (nI j), .int (nI h)]) (rest := []) (q0 := 0) hC hw hl (tX11_whyNot l E a τ nh nj j h (by first | assumption | omega) (by first | assumption | omega) (by first | assumption | omega)) (q_cwV hC.2.2.2.2.1 ⟨rfl, rfl⟩ wk4_202 wk4_204 wks_2_9 wk1_12 wk4_205 hd_X11_whyNot ⟨Nat.le_of_ble_eq_true rfl, Nat.le_of_ble_eq_true rfl⟩) rfl rfl rfl rfl rfl (Nat.le_of_ble_eq_true rfl) dX11_move_65 (fun H locs hw => ?_)
            refine q_ifeq hC 74 cI dX11_move_68 (by decide) (fun (c15 : (m_why (eM (τ 1)) (pB (eM (τ 1)) (nI j)) nh nj j h) = 0) => ?_) (fun (c15 : ¬ ((m_why (eM (τ 1)) (pB (eM (τ 1)) (nI j)) nh nj j h) = 0)) => ?_)
            · refine lv_aload_n hC.1 hC.2.1 dX11_move_74 rfl (lv_at hl 0 rfl) ?_
              refine q_callVv (As := []) (rest := []) (q0 := 0) hC hw hl (tX11_keep l E a τ stk (by first | assumption | omega) (by first | assumption | omega)) (q_cwV hC.2.2.2.2.1 ⟨rfl, rfl⟩ wk4_178 wk4_180 wks_2_6 wk1_12 wk4_181 hd_X11_keep ⟨Nat.le_of_ble_eq_true rfl, Nat.le_of_ble_eq_true rfl⟩) rfl rfl rfl rfl rfl (Nat.le_of_ble_eq_true rfl) dX11_move_75 (fun u18 H locs p16 hw => ?_)
              obtain ⟨K19, hRK19, huK19⟩ := p16
              have hw : Wst E (MW E a) (sr (sr τ 2 (K19)) 0 (upd (τ 0) 0 (nI (push30 stk (τ 1)).length))) A s.heap H locs := by rw [huK19] at hw; exact hw
              refine lv_aload_n hC.1 hC.2.1 dX11_move_78 rfl (lv_at hl 0 rfl) ?_
              refine gf_X11_7 hC hw dX11_move_79 ?_
              refine lv_sipush (v := nI 282) hC.1 hC.2.1 dX11_move_82 (by decide) ?_
              refine lv_iload_n hC.1 hC.2.1 dX11_move_85 rfl (lv_at hl 1 rfl) ?_
              refine q_addN hC dX11_move_86 ?_
              refine al_M1 (v := eM (τ 1) 12 j) hC hw (by omega) (show _ = eM (τ 1) 12 j from congrArg (τ 1) (by omega)) dX11_move_87 ?_
              refine lv_istore_n (lv' := [(3, .int (eM (τ 1) 12 j)), (0, .ref (a 70)), (1, .int (nI j)), (2, .int (nI h))]) hC.1 hC.2.1 dX11_move_88 rfl hl (by decide) rfl (fun ls hl => ?_)
              refine lv_aload_n hC.1 hC.2.1 dX11_move_89 rfl (lv_at hl 1 rfl) ?_
              refine lv_iload_n hC.1 hC.2.1 dX11_move_90 rfl (lv_at hl 2 rfl) ?_
              refine lv_iload_n hC.1 hC.2.1 dX11_move_91 rfl (lv_at hl 3 rfl) ?_
              refine q_callVvp (As := [.int (nI j), .int (nI h)]) (rest := []) (q0 := 0) hC hw hl (tX11_stand l E a (sr (sr τ 2 (K19)) 0 (upd (τ 0) 0 (nI (push30 stk (τ 1)).length))) j h (by first | assumption | omega)) (q_cwV hC.2.2.2.2.1 ⟨rfl, rfl⟩ wk5_24 wk5_26 wks_3_4 wk1_12 wk5_27 hd_X11_stand ⟨Nat.le_of_ble_eq_true rfl, Nat.le_of_ble_eq_true rfl⟩) rfl rfl rfl rfl rfl (Nat.le_of_ble_eq_true rfl) dX11_move_92 (fun H locs hw => ?_)
              have hw : Wst E (MW E a) (sr (sr (sr τ 1 (f_std (τ 1) j h)) 2 (K19)) 0 (upd (τ 0) 0 (nI (push30 stk (τ 1)).length))) A s.heap H locs := hw
              refine lv_iload_n hC.1 hC.2.1 dX11_move_95 rfl (lv_at hl 0 rfl) ?_
              refine hret _ _ _ _ _ _ hw ?_ rfl dX11_move_96
              have ho : o_move (τ 1) nh nj (nI j) (nI h) = (eM (τ 1) 12 j, some (f_std (τ 1) j h)) := by rw [o_move, if_pos ⟨c4, c8⟩, y_j, y_h, if_pos ⟨c9, c10, c11⟩, if_pos c15]
              rw [ho]
              exact ⟨rfl, MPs hRK19⟩
            · refine lv_bipush (v := (-3)) hC.1 hC.2.1 dX11_move_71 (by decide) ?_
              refine hret _ _ _ _ _ _ hw ?_ rfl dX11_move_73
              have ho : o_move (τ 1) nh nj (nI j) (nI h) = ((-3), none) := by rw [o_move, if_pos ⟨c4, c8⟩, y_j, y_h, if_pos ⟨c9, c10, c11⟩, if_neg c15]
              rw [ho]
              exact ⟨rfl, MP0 hKR hO⟩
          · refine lv_bipush (v := (-2)) hC.1 hC.2.1 dX11_move_59 (by decide) ?_
            refine hret _ _ _ _ _ _ hw ?_ rfl dX11_move_61
            have ho : o_move (τ 1) nh nj (nI j) (nI h) = ((-2), none) := by rw [o_move, if_pos ⟨c4, c8⟩, y_j, y_h, if_neg (fun q => q.2.2 c11)]
            rw [ho]
            exact ⟨rfl, MP0 hKR hO⟩
    · refine lv_iconst (v := (-1)) hC.1 hC.2.1 dX11_move_16 (by decide) ?_
      refine hret _ _ _ _ _ _ hw ?_ rfl dX11_move_17
      have ho : o_move (τ 1) nh nj job host = ((-1), none) := by rw [o_move, if_neg (fun q => c8 q.2)]
      rw [ho]
      exact ⟨rfl, MP0 hKR hO⟩
set_option maxHeartbeats 4000000 in
set_option maxRecDepth 100000 in
theorem tX11_undo (l : Launch) (E : EV) (a : Nat → Nat) (τ : St) (stk : List (Nat → Int32)) (hO : τ 0 0 = nI stk.length) (hKR : KR (τ 2) stk) (hZ : Zr (τ 1)) (hZs : ∀ w ∈ stk, Zr w) : MI l E (MW E a) yX11_undo (Cond.code yX11_undo cX11_undo 2 (some .int)) ({ frames := 0, cells := 0, slots := 0, locals := 0 }) [.ref (a 70)] τ (fun r_ u_ => (if stk.length = 0 then r_ = -2 ∧ u_ = τ else r_ = nI (stk.length - 1) ∧ u_ 1 = stk.getLastD (τ 1) ∧ KR (u_ 2) stk.dropLast ∧ u_ 0 0 = nI stk.dropLast.length ∧ keepM τ u_)) := by
  refine MI.mk (by decide +kernel) (Nat.le_of_ble_eq_true rfl) ?_
  intro p e s m args below meth c ls A Q hret hC hw hl
  have hC : Cxt E p s m args meth c cX11_undo 2 (some .int) RX11 A := hC
  have hl : lv_has ls 2 [(0, .ref (a 70))] := hl
  have hk30 := hKR.1
  refine lv_aload_n hC.1 hC.2.1 dX11_undo_0 rfl (lv_at hl 0 rfl) ?_
  refine gf_X11_54 (v := nI stk.length) hC hw hO dX11_undo_1 ?_
  refine q_ifne hC 10 (cN0 (by omega)) dX11_undo_4 (by decide) (fun (c1 : stk.length ≠ 0) => ?_) (fun (c1 : stk.length = 0) => ?_)
  · refine lv_aload_n hC.1 hC.2.1 dX11_undo_10 rfl (lv_at hl 0 rfl) ?_
    refine lv_dup hC.1 hC.2.1 dX11_undo_11 rfl ?_
    refine gf_X11_54 (v := nI stk.length) hC hw hO dX11_undo_12 ?_
    refine lv_iconst (v := nI 1) hC.1 hC.2.1 dX11_undo_15 (by decide) ?_
    refine q_subN hC (by omega) dX11_undo_16 ?_
    refine pf_X11_54 hC hw dX11_undo_17 (fun H locs hw => ?_)
    have hw : Wst E (MW E a) (sr τ 0 (upd (τ 0) 0 (nI (stk.length - 1)))) A s.heap H locs := hw
    refine lv_iconst (v := nI 0) hC.1 hC.2.1 dX11_undo_20 (by decide) ?_
    refine lv_istore_n (lv' := [(1, .int (nI 0)), (0, .ref (a 70))]) hC.1 hC.2.1 dX11_undo_21 rfl hl (by decide) rfl (fun ls hl => ?_)
    have L22_1 : ∀ (n : Nat), ∀ (k : Nat), (k ≤ 354) → (354 - k) < n → ∀ (H : Heap) (locs : List Loc) (ls : Array Slot), Wst E (MW E a) (sr (sr τ 1 (cpy k (fun i => τ 2 (354 * (stk.length - 1) + i)) (τ 1))) 0 (upd (τ 0) 0 (nI (stk.length - 1)))) A s.heap H locs → lv_has ls 2 [(0, .ref (a 70)), (1, .int (nI k))] → W p l e ({ frames := 0, cells := 0, slots := 0, locals := 0 }) s m args below meth c H locs 0 0 Q (F0 m 22 ls []) := by
      intro n
      induction n with
      | zero => intro k hk hn; exact absurd hn (Nat.not_lt_zero _)
      | succ n ih22 =>
        intro k hk hn22 H locs ls hw hl
        refine lv_iload_n hC.1 hC.2.1 dX11_undo_22 rfl (lv_at hl 1 rfl) ?_
        refine lv_sipush (v := nI 354) hC.1 hC.2.1 dX11_undo_23 (by decide) ?_
        refine q_cmpge hC 56 (cNle (by omega) (by omega)) dX11_undo_26 (by decide) (fun (c3 : 354 ≤ k) => ?_) (fun (c3 : k < 354) => ?_)
        · refine lv_aload_n hC.1 hC.2.1 dX11_undo_56 rfl (lv_at hl 0 rfl) ?_
          refine gf_X11_54 (v := nI (stk.length - 1)) hC hw rfl dX11_undo_57 ?_
          refine hret _ _ _ _ _ _ hw ?_ rfl dX11_undo_60
          have hk9 : k = 354 := by omega
          subst hk9
          rw [if_neg c1]
          exact ⟨rfl, undo_eq hKR c1 hZ hZs, KR.dropLast hKR, by rw [List.length_dropLast]; rfl, rfl, rfl, rfl, rfl⟩
        · refine lv_aload_n hC.1 hC.2.1 dX11_undo_29 rfl (lv_at hl 0 rfl) ?_
          refine gf_X11_7 hC hw dX11_undo_30 ?_
          refine lv_iload_n hC.1 hC.2.1 dX11_undo_33 rfl (lv_at hl 1 rfl) ?_
          refine lv_aload_n hC.1 hC.2.1 dX11_undo_34 rfl (lv_at hl 0 rfl) ?_
          refine gf_X11_13 hC hw dX11_undo_35 ?_
          refine lv_sipush (v := nI 354) hC.1 hC.2.1 dX11_undo_38 (by decide) ?_
          refine lv_aload_n hC.1 hC.2.1 dX11_undo_41 rfl (lv_at hl 0 rfl) ?_
          refine gf_X11_54 (v := nI (stk.length - 1)) hC hw rfl dX11_undo_42 ?_
          refine q_mulN hC dX11_undo_45 ?_
          refine lv_iload_n hC.1 hC.2.1 dX11_undo_46 rfl (lv_at hl 1 rfl) ?_
          refine q_addN hC dX11_undo_47 ?_
          refine al_M2 (v := τ 2 ((354 * (stk.length - 1)) + k)) hC hw (by omega) rfl dX11_undo_48 ?_
          refine as_M1 hC hw (by omega) dX11_undo_49 (fun H locs hw => ?_)
          have hw : Wst E (MW E a) (sr (sr τ 1 (upd (cpy k (fun i => τ 2 (354 * (stk.length - 1) + i)) (τ 1)) k (τ 2 ((354 * (stk.length - 1)) + k)))) 0 (upd (τ 0) 0 (nI (stk.length - 1)))) A s.heap H locs := hw
          refine lv_iinc (v := nI (k + 1)) (lv' := [(1, .int (nI (k + 1))), (0, .ref (a 70))]) hC.1 hC.2.1 dX11_undo_50 hl (k := 1) rfl (nI_add _ _) (by decide) rfl (fun ls hl => ?_)
          refine lv_goto (tgt := 22) hC.1 hC.2.1 dX11_undo_53 (by decide) ?_
          rw [cpy_s] at hw
          exact ih22 (k + 1) (by omega) (by omega) _ _ _ hw (lv_sub hl [1, 0] rfl)
    have hw : Wst E (MW E a) (sr (sr τ 1 (cpy 0 (fun i => τ 2 (354 * (stk.length - 1) + i)) (τ 1))) 0 (upd (τ 0) 0 (nI (stk.length - 1)))) A s.heap H locs := by rw [cpy_0]; exact hw
    exact L22_1 _ 0 (by omega) (Nat.lt_succ_self _) _ _ _ hw (lv_sub hl [1, 0] rfl)
  · refine lv_bipush (v := (-2)) hC.1 hC.2.1 dX11_undo_7 (by decide) ?_
    refine hret _ _ _ _ _ _ hw ?_ rfl dX11_undo_9
    rw [if_pos c1]
    exact ⟨rfl, rfl⟩
