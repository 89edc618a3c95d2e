theorem ifn_min {x b : Nat} (hb : b < 2 ^ 31) (hx : x ≤ 10) : (if (nI x) < (nI b) then (nI x) else (nI b)) = nI (if x < b then x else b) := by
  by_cases z : x < b
  · rw [if_pos z, if_pos ((nI_ltI (by omega) hb).mpr z)]
  · rw [if_neg z, if_neg (fun q => z ((nI_ltI (by omega) hb).mp q))]
theorem pu_lt {p : Nat → Nat} {k h : Nat} (hp : ∀ i, i < k → p i < 10) (hh : h < 10) : ∀ i, i < k + 1 → pu p k h i < 10 := fun i hi => by
  unfold pu; split
  · exact hh
  · exact hp i (by omega)
theorem bitsC_s {p : Nat → Nat} {k h : Nat} : bitsC p k ||| (1 <<< (nI h &&& 31)) = bitsC (pu p k h) (k + 1) := by
  rw [bitsC, show pu p k h k = h from if_pos rfl, bitsC_congr (p := pu p k h) (q := p) (fun i hi => if_neg (by omega))]
set_option maxHeartbeats 4000000 in
set_option maxRecDepth 100000 in
theorem tJ6_bitCount_0f7a4 (l : Launch) (E : EV) (a : Nat → Nat) (σ : St) (x : Int32) : MI l E (XW E a) yJ6_bitCount_0f7a4 (Cond.code yJ6_bitCount_0f7a4 cJ6_bitCount_0f7a4 1 (some .int)) ({ frames := 0, cells := 0, slots := 0, locals := 0 }) [.int (x)] σ (fun r_ u_ => r_ = (bcx x) ∧ u_ = σ) := by
  refine MI.mk (by decide +kernel) (Nat.le_of_ble_eq_true rfl) ?_
  intro p e s m args below meth c ls A Q hret hC hw hl
  have hC : Cxt E p s m args meth c cJ6_bitCount_0f7a4 1 (some .int) RJ6 A := hC
  have hl : lv_has ls 1 [(0, .int (x))] := hl
  refine lv_iload_n hC.1 hC.2.1 dJ6_bitCount_0f7a4_0 rfl (lv_at hl 0 rfl) ?_
  refine lv_iload_n hC.1 hC.2.1 dJ6_bitCount_0f7a4_1 rfl (lv_at hl 0 rfl) ?_
  refine lv_iconst (v := nI 1) hC.1 hC.2.1 dJ6_bitCount_0f7a4_2 (by decide) ?_
  refine lv_iushr hC.1 hC.2.1 dJ6_bitCount_0f7a4_3 rfl ?_
  refine lv_ldcw (v := 1431655765) hC.1 hC.2.1 hC.2.2.2.1 (hC.2.2.2.2.1 _ wk4_36) dJ6_bitCount_0f7a4_4 ?_
  refine lv_iand hC.1 hC.2.1 dJ6_bitCount_0f7a4_7 ?_
  refine lv_isub hC.1 hC.2.1 dJ6_bitCount_0f7a4_8 ?_
  refine q_top (y := bc1 x) rfl ?_
  refine lv_istore_n (lv' := [(0, .int (bc1 x))]) hC.1 hC.2.1 dJ6_bitCount_0f7a4_9 rfl hl (by decide) rfl (fun ls hl => ?_)
  refine lv_iload_n hC.1 hC.2.1 dJ6_bitCount_0f7a4_10 rfl (lv_at hl 0 rfl) ?_
  refine lv_ldcw (v := 858993459) hC.1 hC.2.1 hC.2.2.2.1 (hC.2.2.2.2.1 _ wk4_37) dJ6_bitCount_0f7a4_11 ?_
  refine lv_iand hC.1 hC.2.1 dJ6_bitCount_0f7a4_14 ?_
  refine lv_iload_n hC.1 hC.2.1 dJ6_bitCount_0f7a4_15 rfl (lv_at hl 0 rfl) ?_
  refine lv_iconst (v := nI 2) hC.1 hC.2.1 dJ6_bitCount_0f7a4_16 (by decide) ?_
  refine lv_iushr hC.1 hC.2.1 dJ6_bitCount_0f7a4_17 rfl ?_
  refine lv_ldcw (v := 858993459) hC.1 hC.2.1 hC.2.2.2.1 (hC.2.2.2.2.1 _ wk4_37) dJ6_bitCount_0f7a4_18 ?_
  refine lv_iand hC.1 hC.2.1 dJ6_bitCount_0f7a4_21 ?_
  refine lv_iadd hC.1 hC.2.1 dJ6_bitCount_0f7a4_22 ?_
  refine q_top (y := bc2' x) rfl ?_
  refine lv_istore_n (lv' := [(0, .int (bc2' x))]) hC.1 hC.2.1 dJ6_bitCount_0f7a4_23 rfl hl (by decide) rfl (fun ls hl => ?_)
  refine lv_iload_n hC.1 hC.2.1 dJ6_bitCount_0f7a4_24 rfl (lv_at hl 0 rfl) ?_
  refine lv_iload_n hC.1 hC.2.1 dJ6_bitCount_0f7a4_25 rfl (lv_at hl 0 rfl) ?_
  refine lv_iconst (v := nI 4) hC.1 hC.2.1 dJ6_bitCount_0f7a4_26 (by decide) ?_
  refine lv_iushr hC.1 hC.2.1 dJ6_bitCount_0f7a4_27 rfl ?_
  refine lv_iadd hC.1 hC.2.1 dJ6_bitCount_0f7a4_28 ?_
  refine lv_ldcw (v := 252645135) hC.1 hC.2.1 hC.2.2.2.1 (hC.2.2.2.2.1 _ wk4_38) dJ6_bitCount_0f7a4_29 ?_
  refine lv_iand hC.1 hC.2.1 dJ6_bitCount_0f7a4_32 ?_
  refine q_top (y := bc3 x) rfl ?_
  refine lv_istore_n (lv' := [(0, .int (bc3 x))]) hC.1 hC.2.1 dJ6_bitCount_0f7a4_33 rfl hl (by decide) rfl (fun ls hl => ?_)
  refine lv_iload_n hC.1 hC.2.1 dJ6_bitCount_0f7a4_34 rfl (lv_at hl 0 rfl) ?_
  refine lv_iload_n hC.1 hC.2.1 dJ6_bitCount_0f7a4_35 rfl (lv_at hl 0 rfl) ?_
  refine lv_bipush (v := nI 8) hC.1 hC.2.1 dJ6_bitCount_0f7a4_36 (by decide) ?_
  refine lv_iushr hC.1 hC.2.1 dJ6_bitCount_0f7a4_38 rfl ?_
  refine lv_iadd hC.1 hC.2.1 dJ6_bitCount_0f7a4_39 ?_
  refine q_top (y := bc4 x) rfl ?_
  refine lv_istore_n (lv' := [(0, .int (bc4 x))]) hC.1 hC.2.1 dJ6_bitCount_0f7a4_40 rfl hl (by decide) rfl (fun ls hl => ?_)
  refine lv_iload_n hC.1 hC.2.1 dJ6_bitCount_0f7a4_41 rfl (lv_at hl 0 rfl) ?_
  refine lv_iload_n hC.1 hC.2.1 dJ6_bitCount_0f7a4_42 rfl (lv_at hl 0 rfl) ?_
  refine lv_bipush (v := nI 16) hC.1 hC.2.1 dJ6_bitCount_0f7a4_43 (by decide) ?_
  refine lv_iushr hC.1 hC.2.1 dJ6_bitCount_0f7a4_45 rfl ?_
  refine lv_iadd hC.1 hC.2.1 dJ6_bitCount_0f7a4_46 ?_
  refine q_top (y := bc5 x) rfl ?_
  refine lv_istore_n (lv' := [(0, .int (bc5 x))]) hC.1 hC.2.1 dJ6_bitCount_0f7a4_47 rfl hl (by decide) rfl (fun ls hl => ?_)
  refine lv_iload_n hC.1 hC.2.1 dJ6_bitCount_0f7a4_48 rfl (lv_at hl 0 rfl) ?_
  refine lv_bipush (v := nI 63) hC.1 hC.2.1 dJ6_bitCount_0f7a4_49 (by decide) ?_
  refine lv_iand hC.1 hC.2.1 dJ6_bitCount_0f7a4_51 ?_
  refine hret _ _ _ _ _ _ hw ?_ rfl dJ6_bitCount_0f7a4_52
  exact ⟨rfl, rfl⟩
set_option maxHeartbeats 4000000 in
set_option maxRecDepth 100000 in
theorem tX9_placeFrom_k5 (l : Launch) (E : EV) (a : Nat → Nat) (σ : St) (nh : Nat) (nj : Nat) (E0 : St) (fm : Nat) (F : Nat → Nat) (P0 : Nat → Int32) (pp : Nat → Nat) (b : Nat) (us : Int32) (hN : cN2 σ nh nj) (hE : aE σ E0) (hS : cS E0 nh nj) (hFS : FSr E0 (pP F P0 (cut pp 5) fm) nh nj (σ 16) (σ 17) (σ 18) (σ 19) (σ 20) (σ 21)) (hm : σ 0 10 = nI fm) (hm5 : fm ≤ 5) (hkm : 5 ≤ fm) (hF : ∀ i, i < fm → σ 29 i = nI (F i) ∧ F i < nj) (hFk : Fok F fm nj) (hfea : Fea E0 F fm P0 nh nj pp 5) (hb : σ 0 11 = nI b) (hb11 : b ≤ 11) (hus : us = bitsC pp 5) : MV l E (XW E a) yX9_placeFrom (Cond.code yX9_placeFrom cX9_placeFrom 6 none) ({ frames := 3, cells := 0, slots := 0, locals := 73 }) [.ref (a 70), .int (nI 5), .int (us)] σ (fun u_ => ∃ (b16 b17 b18 b19 b20 b21 : Nat → Int32) (b9 : Nat), FSr E0 (pP F P0 (cut pp 5) fm) nh nj b16 b17 b18 b19 b20 b21 ∧ LB E0 F fm P0 nh nj b b9 ∧ NB E0 F fm P0 nh nj pp 5 b9 ∧ u_ = sr (sr (sr (sr (sr (sr (sr σ 16 b16) 17 b17) 18 b18) 19 b19) 20 b20) 21 b21) 0 (upd (σ 0) 11 (nI b9))) := by
  refine MV.mk (by decide +kernel) (Nat.le_of_ble_eq_true rfl) ?_
  intro p e s m args below meth c ls A Q hret hC hw hl
  have hC : Cxt E p s m args meth c cX9_placeFrom 6 none RX9 A := hC
  have hl : lv_has ls 6 [(0, .ref (a 70)), (1, .int (nI 5)), (2, .int (us))] := hl
  have hnh := hS.1
  have hnj := hS.2.1
  refine lv_iload_n hC.1 hC.2.1 dX9_placeFrom_0 rfl (lv_at hl 1 rfl) ?_
  refine lv_iconst (v := nI 5) hC.1 hC.2.1 dX9_placeFrom_1 (by decide) ?_
  refine q_cmpge hC 13 (cNle (by omega) (by omega)) dX9_placeFrom_2 (by decide) (fun (c1 : 5 ≤ 5) => ?_) (fun (c1 : 5 < 5) => ?_)
  · refine lv_aload_n hC.1 hC.2.1 dX9_placeFrom_13 rfl (lv_at hl 0 rfl) ?_
    refine lv_aload_n hC.1 hC.2.1 dX9_placeFrom_14 rfl (lv_at hl 0 rfl) ?_
    refine gf_X9_52 (v := nI b) hC hw hb dX9_placeFrom_15 ?_
    refine lv_iload_n hC.1 hC.2.1 dX9_placeFrom_18 rfl (lv_at hl 2 rfl) ?_
    refine q_callSp (As := [.int (us)]) (rest := [.int (nI b), .ref (a 70)]) hC hw hl (tJ6_bitCount_0f7a4 l E a σ us) (q_cwS hC.2.2.2.2.1 ⟨rfl, rfl⟩ wk4_33 wk4_34 wk1_16 wk4_35 hd_J6_bitCount_0f7a4.2 ⟨Nat.le_of_ble_eq_true rfl, Nat.le_of_ble_eq_true rfl⟩) rfl rfl (Nat.le_of_ble_eq_true rfl) dX9_placeFrom_19 (fun H locs hw => ?_)
    refine q_min (x := nI b) (y := bcx us) hC hl ⟨Nat.le_of_ble_eq_true rfl, Nat.le_of_ble_eq_true rfl⟩ wk4_22 dX9_placeFrom_22 ?_
    refine pf_X9_52 hC hw dX9_placeFrom_25 (fun H locs hw => ?_)
    have hw : Wst E (XW E a) (sr σ 0 (upd (σ 0) 11 ((if (bcx us) < (nI b) then (bcx us) else (nI b))))) A s.heap H locs := hw
    refine hret _ _ _ _ _ hw ?_ dX9_placeFrom_28
    have hkf : 5 = fm := by omega
    have hq9 : (if (bcx us) < (nI b) then (bcx us) else (nI b)) = nI (if pcq pp 5 < b then pcq pp 5 else b) := by rw [hus, pcq_bc (hfea.lt hnh)]; exact ifn_min (by omega) (pcn_le 10)
    rw [hq9]
    have hfea9 : Fea E0 F fm P0 nh nj pp fm := by have h9 := hfea; rw [hkf] at h9; exact h9
    refine ⟨σ 16, σ 17, σ 18, σ 19, σ 20, σ 21, if pcq pp 5 < b then pcq pp 5 else b, hFS, ⟨by split <;> omega, ?_⟩, fun q hq hp => ?_, ?_⟩
    · by_cases z : pcq pp 5 < b
      · rw [if_pos z]; exact Or.inr ⟨pp, hfea9, by rw [← hkf]⟩
      · rw [if_neg z]; exact Or.inl rfl
    · rw [pcq_congr (p := q) (q := pp) (fun i hi => hp i (by omega)), ← hkf]; split <;> omega
    · show sr σ 0 (upd (σ 0) 11 (nI (if pcq pp 5 < b then pcq pp 5 else b))) = sr (sr (sr (sr (sr (sr (sr σ 16 (σ 16)) 17 (σ 17)) 18 (σ 18)) 19 (σ 19)) 20 (σ 20)) 21 (σ 21)) 0 (upd (σ 0) 11 (nI (if pcq pp 5 < b then pcq pp 5 else b)))
      funext j_ x_
      by_cases e0 : j_ = 0
      · subst e0
        by_cases y11 : x_ = 11
        · subst y11; rfl
        · simp [sr, upd, y11]
      · by_cases e16 : j_ = 16
        · subst e16; rfl
        · by_cases e17 : j_ = 17
          · subst e17; rfl
          · by_cases e18 : j_ = 18
            · subst e18; rfl
            · by_cases e19 : j_ = 19
              · subst e19; rfl
              · by_cases e20 : j_ = 20
                · subst e20; rfl
                · by_cases e21 : j_ = 21
                  · subst e21; rfl
                  · simp only [sr, e0, e16, e17, e18, e19, e20, e21, if_false]
  · refine lv_iload_n hC.1 hC.2.1 dX9_placeFrom_5 rfl (lv_at hl 1 rfl) ?_
    refine lv_aload_n hC.1 hC.2.1 dX9_placeFrom_6 rfl (lv_at hl 0 rfl) ?_
    refine gf_X9_42 (v := nI fm) hC hw hm dX9_placeFrom_7 ?_
    refine q_cmplt hC 29 (cNlt (by omega) (by omega)) dX9_placeFrom_10 (by decide) (fun (c5 : 5 < fm) => ?_) (fun (c5 : fm ≤ 5) => ?_)
    · omega
    · refine lv_aload_n hC.1 hC.2.1 dX9_placeFrom_13 rfl (lv_at hl 0 rfl) ?_
      refine lv_aload_n hC.1 hC.2.1 dX9_placeFrom_14 rfl (lv_at hl 0 rfl) ?_
      refine gf_X9_52 (v := nI b) hC hw hb dX9_placeFrom_15 ?_
      refine lv_iload_n hC.1 hC.2.1 dX9_placeFrom_18 rfl (lv_at hl 2 rfl) ?_
      refine q_callSp (As := [.int (us)]) (rest := [.int (nI b), .ref (a 70)]) hC hw hl (tJ6_bitCount_0f7a4 l E a σ us) (q_cwS hC.2.2.2.2.1 ⟨rfl, rfl⟩ wk4_33 wk4_34 wk1_16 wk4_35 hd_J6_bitCount_0f7a4.2 ⟨Nat.le_of_ble_eq_true rfl, Nat.le_of_ble_eq_true rfl⟩) rfl rfl (Nat.le_of_ble_eq_true rfl) dX9_placeFrom_19 (fun H locs hw => ?_)
      refine q_min (x := nI b) (y := bcx us) hC hl ⟨Nat.le_of_ble_eq_true rfl, Nat.le_of_ble_eq_true rfl⟩ wk4_22 dX9_placeFrom_22 ?_
      refine pf_X9_52 hC hw dX9_placeFrom_25 (fun H locs hw => ?_)
      have hw : Wst E (XW E a) (sr σ 0 (upd (σ 0) 11 ((if (bcx us) < (nI b) then (bcx us) else (nI b))))) A s.heap H locs := hw
      refine hret _ _ _ _ _ hw ?_ dX9_placeFrom_28
      have hkf : 5 = fm := by omega
      have hq9 : (if (bcx us) < (nI b) then (bcx us) else (nI b)) = nI (if pcq pp 5 < b then pcq pp 5 else b) := by rw [hus, pcq_bc (hfea.lt hnh)]; exact ifn_min (by omega) (pcn_le 10)
      rw [hq9]
      have hfea9 : Fea E0 F fm P0 nh nj pp fm := by have h9 := hfea; rw [hkf] at h9; exact h9
      refine ⟨σ 16, σ 17, σ 18, σ 19, σ 20, σ 21, if pcq pp 5 < b then pcq pp 5 else b, hFS, ⟨by split <;> omega, ?_⟩, fun q hq hp => ?_, ?_⟩
      · by_cases z : pcq pp 5 < b
        · rw [if_pos z]; exact Or.inr ⟨pp, hfea9, by rw [← hkf]⟩
        · rw [if_neg z]; exact Or.inl rfl
      · rw [pcq_congr (p := q) (q := pp) (fun i hi => hp i (by omega)), ← hkf]; split <;> omega
      · show sr σ 0 (upd (σ 0) 11 (nI (if pcq pp 5 < b then pcq pp 5 else b))) = sr (sr (sr (sr (sr (sr (sr σ 16 (σ 16)) 17 (σ 17)) 18 (σ 18)) 19 (σ 19)) 20 (σ 20)) 21 (σ 21)) 0 (upd (σ 0) 11 (nI (if pcq pp 5 < b then pcq pp 5 else b)))
        funext j_ x_
        by_cases e0 : j_ = 0
        · subst e0
          by_cases y11 : x_ = 11
          · subst y11; rfl
          · simp [sr, upd, y11]
        · by_cases e16 : j_ = 16
          · subst e16; rfl
          · by_cases e17 : j_ = 17
            · subst e17; rfl
            · by_cases e18 : j_ = 18
              · subst e18; rfl
              · by_cases e19 : j_ = 19
                · subst e19; rfl
                · by_cases e20 : j_ = 20
                  · subst e20; rfl
                  · by_cases e21 : j_ = 21
                    · subst e21; rfl
                    · simp only [sr, e0, e16, e17, e18, e19, e20, e21, if_false]
set_option maxHeartbeats 4000000 in
set_option maxRecDepth 100000 in
theorem tX9_placeFrom_k4 (l : Launch) (E : EV) (a : Nat → Nat) (σ : St) (nh : Nat) (nj : Nat) (E0 : St) (fm : Nat) (F : Nat → Nat) (P0 : Nat → Int32) (pp : Nat → Nat) (b : Nat) (us : Int32) (hN : cN2 σ nh nj) (hE : aE σ E0) (hS : cS E0 nh nj) (hFS : FSr E0 (pP F P0 (cut pp 4) fm) nh nj (σ 16) (σ 17) (σ 18) (σ 19) (σ 20) (σ 21)) (hm : σ 0 10 = nI fm) (hm5 : fm ≤ 5) (hkm : 4 ≤ fm) (hF : ∀ i, i < fm → σ 29 i = nI (F i) ∧ F i < nj) (hFk : Fok F fm nj) (hfea : Fea E0 F fm P0 nh nj pp 4) (hb : σ 0 11 = nI b) (hb11 : b ≤ 11) (hus : us = bitsC pp 4) : MV l E (XW E a) yX9_placeFrom (Cond.code yX9_placeFrom cX9_placeFrom 6 none) ({ frames := 4, cells := 0, slots := 0, locals := 98 }) [.ref (a 70), .int (nI 4), .int (us)] σ (fun u_ => ∃ (b16 b17 b18 b19 b20 b21 : Nat → Int32) (b9 : Nat), FSr E0 (pP F P0 (cut pp 4) fm) nh nj b16 b17 b18 b19 b20 b21 ∧ LB E0 F fm P0 nh nj b b9 ∧ NB E0 F fm P0 nh nj pp 4 b9 ∧ u_ = sr (sr (sr (sr (sr (sr (sr σ 16 b16) 17 b17) 18 b18) 19 b19) 20 b20) 21 b21) 0 (upd (σ 0) 11 (nI b9))) := by
  refine MV.mk (by decide +kernel) (Nat.le_of_ble_eq_true rfl) ?_
  intro p e s m args below meth c ls A Q hret hC hw hl
  have hC : Cxt E p s m args meth c cX9_placeFrom 6 none RX9 A := hC
  have hl : lv_has ls 6 [(0, .ref (a 70)), (1, .int (nI 4)), (2, .int (us))] := hl
  have hnh := hS.1
  have hnj := hS.2.1
  refine lv_iload_n hC.1 hC.2.1 dX9_placeFrom_0 rfl (lv_at hl 1 rfl) ?_
  refine lv_iconst (v := nI 5) hC.1 hC.2.1 dX9_placeFrom_1 (by decide) ?_
  refine q_cmpge hC 13 (cNle (by omega) (by omega)) dX9_placeFrom_2 (by decide) (fun (c1 : 5 ≤ 4) => ?_) (fun (c1 : 4 < 5) => ?_)
  · refine lv_aload_n hC.1 hC.2.1 dX9_placeFrom_13 rfl (lv_at hl 0 rfl) ?_
    refine lv_aload_n hC.1 hC.2.1 dX9_placeFrom_14 rfl (lv_at hl 0 rfl) ?_
    refine gf_X9_52 (v := nI b) hC hw hb dX9_placeFrom_15 ?_
    refine lv_iload_n hC.1 hC.2.1 dX9_placeFrom_18 rfl (lv_at hl 2 rfl) ?_
    refine q_callSp (As := [.int (us)]) (rest := [.int (nI b), .ref (a 70)]) hC hw hl (tJ6_bitCount_0f7a4 l E a σ us) (q_cwS hC.2.2.2.2.1 ⟨rfl, rfl⟩ wk4_33 wk4_34 wk1_16 wk4_35 hd_J6_bitCount_0f7a4.2 ⟨Nat.le_of_ble_eq_true rfl, Nat.le_of_ble_eq_true rfl⟩) rfl rfl (Nat.le_of_ble_eq_true rfl) dX9_placeFrom_19 (fun H locs hw => ?_)
    refine q_min (x := nI b) (y := bcx us) hC hl ⟨Nat.le_of_ble_eq_true rfl, Nat.le_of_ble_eq_true rfl⟩ wk4_22 dX9_placeFrom_22 ?_
    refine pf_X9_52 hC hw dX9_placeFrom_25 (fun H locs hw => ?_)
    have hw : Wst E (XW E a) (sr σ 0 (upd (σ 0) 11 ((if (bcx us) < (nI b) then (bcx us) else (nI b))))) A s.heap H locs := hw
    refine hret _ _ _ _ _ hw ?_ dX9_placeFrom_28
    have hkf : 4 = fm := by omega
    have hq9 : (if (bcx us) < (nI b) then (bcx us) else (nI b)) = nI (if pcq pp 4 < b then pcq pp 4 else b) := by rw [hus, pcq_bc (hfea.lt hnh)]; exact ifn_min (by omega) (pcn_le 10)
    rw [hq9]
    have hfea9 : Fea E0 F fm P0 nh nj pp fm := by have h9 := hfea; rw [hkf] at h9; exact h9
    refine ⟨σ 16, σ 17, σ 18, σ 19, σ 20, σ 21, if pcq pp 4 < b then pcq pp 4 else b, hFS, ⟨by split <;> omega, ?_⟩, fun q hq hp => ?_, ?_⟩
    · by_cases z : pcq pp 4 < b
      · rw [if_pos z]; exact Or.inr ⟨pp, hfea9, by rw [← hkf]⟩
      · rw [if_neg z]; exact Or.inl rfl
    · rw [pcq_congr (p := q) (q := pp) (fun i hi => hp i (by omega)), ← hkf]; split <;> omega
    · show sr σ 0 (upd (σ 0) 11 (nI (if pcq pp 4 < b then pcq pp 4 else b))) = sr (sr (sr (sr (sr (sr (sr σ 16 (σ 16)) 17 (σ 17)) 18 (σ 18)) 19 (σ 19)) 20 (σ 20)) 21 (σ 21)) 0 (upd (σ 0) 11 (nI (if pcq pp 4 < b then pcq pp 4 else b)))
      funext j_ x_
      by_cases e0 : j_ = 0
      · subst e0
        by_cases y11 : x_ = 11
        · subst y11; rfl
        · simp [sr, upd, y11]
      · by_cases e16 : j_ = 16
        · subst e16; rfl
        · by_cases e17 : j_ = 17
          · subst e17; rfl
          · by_cases e18 : j_ = 18
            · subst e18; rfl
            · by_cases e19 : j_ = 19
              · subst e19; rfl
              · by_cases e20 : j_ = 20
                · subst e20; rfl
                · by_cases e21 : j_ = 21
                  · subst e21; rfl
                  · simp only [sr, e0, e16, e17, e18, e19, e20, e21, if_false]
  · refine lv_iload_n hC.1 hC.2.1 dX9_placeFrom_5 rfl (lv_at hl 1 rfl) ?_
    refine lv_aload_n hC.1 hC.2.1 dX9_placeFrom_6 rfl (lv_at hl 0 rfl) ?_
    refine gf_X9_42 (v := nI fm) hC hw hm dX9_placeFrom_7 ?_
    refine q_cmplt hC 29 (cNlt (by omega) (by omega)) dX9_placeFrom_10 (by decide) (fun (c5 : 4 < fm) => ?_) (fun (c5 : fm ≤ 4) => ?_)
    · refine lv_aload_n hC.1 hC.2.1 dX9_placeFrom_29 rfl (lv_at hl 0 rfl) ?_
      refine gf_X9_9 hC hw dX9_placeFrom_30 ?_
      refine lv_iload_n hC.1 hC.2.1 dX9_placeFrom_33 rfl (lv_at hl 1 rfl) ?_
      have hFx := (hF 4 (by omega)).2
      refine al_X29 (v := nI (F 4)) hC hw (by omega) (hF 4 (by omega)).1 dX9_placeFrom_34 ?_
      refine lv_istore_n (lv' := [(3, .int (nI (F 4))), (0, .ref (a 70)), (1, .int (nI 4)), (2, .int (us))]) hC.1 hC.2.1 dX9_placeFrom_35 rfl hl (by decide) rfl (fun ls hl => ?_)
      refine lv_iconst (v := nI 0) hC.1 hC.2.1 dX9_placeFrom_36 (by decide) ?_
      refine lv_istore (lv' := [(4, .int (nI 0)), (3, .int (nI (F 4))), (0, .ref (a 70)), (1, .int (nI 4)), (2, .int (us))]) hC.1 hC.2.1 dX9_placeFrom_37 hl (by decide) rfl (fun ls hl => ?_)
      have L39_5 : ∀ (n : Nat), ∀ (h : Nat), ∀ (d16 : Nat → Int32), ∀ (d17 : Nat → Int32), ∀ (d18 : Nat → Int32), ∀ (d19 : Nat → Int32), ∀ (d20 : Nat → Int32), ∀ (d21 : Nat → Int32), ∀ (bb : Nat), (h ≤ nh) → (FSr E0 (pP F P0 (cut pp 4) fm) nh nj d16 d17 d18 d19 d20 d21) → (LB E0 F fm P0 nh nj b bb) → (NH E0 F fm P0 nh nj pp 4 h bb) → (nh - h) < n → ∀ (H : Heap) (locs : List Loc) (ls : Array Slot), Wst E (XW E a) (sr (sr (sr (sr (sr (sr (sr σ 16 (d16)) 17 (d17)) 18 (d18)) 19 (d19)) 20 (d20)) 21 (d21)) 0 (upd (σ 0) 11 (nI bb))) A s.heap H locs → lv_has ls 6 [(0, .ref (a 70)), (1, .int (nI 4)), (2, .int (us)), (3, .int (nI (F 4))), (4, .int (nI h))] → W p l e ({ frames := 4, cells := 0, slots := 0, locals := 98 }) s m args below meth c H locs 0 0 Q (F0 m 39 ls []) := by
        intro n
        induction n with
        | zero => intro h d16 d17 d18 d19 d20 d21 bb hh hF0 hLB hNH hn; exact absurd hn (Nat.not_lt_zero _)
        | succ n ih39 =>
          intro h d16 d17 d18 d19 d20 d21 bb hh hF0 hLB hNH hn39 H locs ls hw hl
          have hbb9 := hLB.1
          refine lv_iload hC.1 hC.2.1 dX9_placeFrom_39 (lv_at hl 4 rfl) ?_
          refine lv_aload_n hC.1 hC.2.1 dX9_placeFrom_41 rfl (lv_at hl 0 rfl) ?_
          refine gf_X9_15 hC hw dX9_placeFrom_42 ?_
          refine gf_X9_68 hC hw dX9_placeFrom_45 ?_
          refine gf_X9_72 (v := nI nh) hC hw hN.1 dX9_placeFrom_48 ?_
          refine q_cmpge hC 124 (cNle (by omega) (by omega)) dX9_placeFrom_51 (by decide) (fun (c7 : nh ≤ h) => ?_) (fun (c7 : h < nh) => ?_)
          · refine hret _ _ _ _ _ hw ?_ dX9_placeFrom_124
            have hh9 : h = nh := by omega
            rw [hh9] at hNH
            exact ⟨d16, d17, d18, d19, d20, d21, bb, hF0, hLB, NB.of hNH (by omega), rfl⟩
          · refine lv_iload_n hC.1 hC.2.1 dX9_placeFrom_54 rfl (lv_at hl 2 rfl) ?_
            refine lv_iconst (v := nI 1) hC.1 hC.2.1 dX9_placeFrom_55 (by decide) ?_
            refine lv_iload hC.1 hC.2.1 dX9_placeFrom_56 (lv_at hl 4 rfl) ?_
            refine lv_ishl hC.1 hC.2.1 dX9_placeFrom_58 ?_
            refine lv_ior hC.1 hC.2.1 dX9_placeFrom_59 ?_
            refine q_top (y := bitsC (pu pp 4 h) (4 + 1)) (by rw [hus]; exact bitsC_s) ?_
            refine lv_istore (lv' := [(5, .int (bitsC (pu pp 4 h) (4 + 1))), (0, .ref (a 70)), (1, .int (nI 4)), (2, .int (us)), (3, .int (nI (F 4))), (4, .int (nI h))]) hC.1 hC.2.1 dX9_placeFrom_60 hl (by decide) rfl (fun ls hl => ?_)
            refine lv_iload hC.1 hC.2.1 dX9_placeFrom_62 (lv_at hl 0 rfl) ?_
            refine q_callSp (As := [.int (bitsC (pu pp 4 h) (4 + 1))]) (rest := []) hC hw hl (tJ6_bitCount_0f7a4 l E a (sr (sr (sr (sr (sr (sr (sr σ 16 (d16)) 17 (d17)) 18 (d18)) 19 (d19)) 20 (d20)) 21 (d21)) 0 (upd (σ 0) 11 (nI bb))) (bitsC (pu pp 4 h) (4 + 1))) (q_cwS hC.2.2.2.2.1 ⟨rfl, rfl⟩ wk4_33 wk4_34 wk1_16 wk4_35 hd_J6_bitCount_0f7a4.2 ⟨Nat.le_of_ble_eq_true rfl, Nat.le_of_ble_eq_true rfl⟩) rfl rfl (Nat.le_of_ble_eq_true rfl) dX9_placeFrom_64 (fun H locs hw => ?_)
            refine q_top (y := nI (pcq (pu pp 4 h) (4 + 1))) (pcq_bc (pu_lt (hfea.lt hnh) (show h < 10 by omega))) ?_
            have hpq : pcq (pu pp 4 h) (4 + 1) ≤ 10 := pcn_le 10
            refine lv_aload_n hC.1 hC.2.1 dX9_placeFrom_67 rfl (lv_at hl 1 rfl) ?_
            refine gf_X9_52 (v := nI bb) hC hw rfl dX9_placeFrom_68 ?_
            refine q_cmpge hC 118 (cNle (by omega) (by omega)) dX9_placeFrom_71 (by decide) (fun (c11 : bb ≤ (pcq (pu pp 4 h) (4 + 1))) => ?_) (fun (c11 : (pcq (pu pp 4 h) (4 + 1)) < bb) => ?_)
            · refine lv_iinc (v := nI (h + 1)) (lv' := [(4, .int (nI (h + 1))), (5, .int (bitsC (pu pp 4 h) (4 + 1))), (0, .ref (a 70)), (1, .int (nI 4)), (2, .int (us)), (3, .int (nI (F 4)))]) hC.1 hC.2.1 dX9_placeFrom_118 hl (k := 5) rfl (nI_add _ _) (by decide) rfl (fun ls hl => ?_)
              refine lv_goto (tgt := 39) hC.1 hC.2.1 dX9_placeFrom_121 (by decide) ?_
              have hNH2 : NH E0 F fm P0 nh nj pp 4 (h + 1) bb := hNH.next (nb_prune (by omega) c11)
              have hLB2 := hLB
              have hF2 := hF0
              exact ih39 (h + 1) d16 d17 d18 d19 d20 d21 bb (by omega) hF2 hLB2 hNH2 (by omega) _ _ _ hw (lv_sub hl [2, 3, 4, 5, 0] rfl)
            · refine lv_aload_n hC.1 hC.2.1 dX9_placeFrom_74 rfl (lv_at hl 1 rfl) ?_
              refine gf_X9_15 hC hw dX9_placeFrom_75 ?_
              refine lv_iload_n hC.1 hC.2.1 dX9_placeFrom_78 rfl (lv_at hl 4 rfl) ?_
              refine lv_iload hC.1 hC.2.1 dX9_placeFrom_79 (lv_at hl 5 rfl) ?_
              refine q_callVp (As := [.int (nI (F 4)), .int (nI h)]) (rest := []) (q0 := 5) hC hw hl (tX4_fits l E a (sr (sr (sr (sr (sr (sr (sr σ 16 (d16)) 17 (d17)) 18 (d18)) 19 (d19)) 20 (d20)) 21 (d21)) 0 (upd (σ 0) 11 (nI bb))) nh nj E0 (pP F P0 (cut pp 4) fm) (F 4) h hN hE hS hF0 hFx (show h < nh by omega)) (q_cwV hC.2.2.2.2.1 ⟨rfl, rfl⟩ wk4_39 wk3_37 wk3_38 wk1_4 wk3_39 hd_X4_fits ⟨Nat.le_of_ble_eq_true rfl, Nat.le_of_ble_eq_true rfl⟩) rfl rfl rfl rfl rfl (Nat.le_of_ble_eq_true rfl) dX9_placeFrom_81 (fun H locs hw => ?_)
              refine q_ifeq hC 118 cB dX9_placeFrom_84 (by decide) (fun (c15 : ¬ (m_why E0 (pP F P0 (cut pp 4) fm) nh nj (F 4) h = 0)) => ?_) (fun (c15 : m_why E0 (pP F P0 (cut pp 4) fm) nh nj (F 4) h = 0) => ?_)
              · refine lv_iinc (v := nI (h + 1)) (lv' := [(4, .int (nI (h + 1))), (5, .int (bitsC (pu pp 4 h) (4 + 1))), (0, .ref (a 70)), (1, .int (nI 4)), (2, .int (us)), (3, .int (nI (F 4)))]) hC.1 hC.2.1 dX9_placeFrom_118 hl (k := 5) rfl (nI_add _ _) (by decide) rfl (fun ls hl => ?_)
                refine lv_goto (tgt := 39) hC.1 hC.2.1 dX9_placeFrom_121 (by decide) ?_
                have hNH2 : NH E0 F fm P0 nh nj pp 4 (h + 1) bb := hNH.next (nb_nofit (by omega) (fun q => c15 ((fit_cut hFk (by omega)).mpr q)))
                have hLB2 := hLB
                have hF2 := hF0
                exact ih39 (h + 1) d16 d17 d18 d19 d20 d21 bb (by omega) hF2 hLB2 hNH2 (by omega) _ _ _ hw (lv_sub hl [2, 3, 4, 5, 0] rfl)
              · refine lv_aload_n hC.1 hC.2.1 dX9_placeFrom_87 rfl (lv_at hl 1 rfl) ?_
                refine gf_X9_15 hC hw dX9_placeFrom_88 ?_
                refine lv_iload_n hC.1 hC.2.1 dX9_placeFrom_91 rfl (lv_at hl 4 rfl) ?_
                refine lv_iload hC.1 hC.2.1 dX9_placeFrom_92 (lv_at hl 5 rfl) ?_
                refine lv_iconst (v := nI 1) hC.1 hC.2.1 dX9_placeFrom_94 (by decide) ?_
                refine q_callVv (As := [.int (nI (F 4)), .int (nI h), .int (nI 1)]) (rest := []) (q0 := 5) hC hw hl (tX4_tally l E a (sr (sr (sr (sr (sr (sr (sr σ 16 (d16)) 17 (d17)) 18 (d18)) 19 (d19)) 20 (d20)) 21 (d21)) 0 (upd (σ 0) 11 (nI bb))) nh nj E0 (pP F P0 (cut pp 4) fm) (pP F P0 (cut (pu pp 4 h) (4 + 1)) fm) (F 4) h 1 hN hE hS hF0 (cut_TL hFk (show 4 < fm by omega) (show h < 10 by omega)) hFx (show h < nh by omega)) (q_cwV hC.2.2.2.2.1 ⟨rfl, rfl⟩ wk4_29 wk2_201 wk2_202 wk1_4 wk2_203 hd_X4_tally ⟨Nat.le_of_ble_eq_true rfl, Nat.le_of_ble_eq_true rfl⟩) rfl rfl rfl rfl rfl (Nat.le_of_ble_eq_true rfl) dX9_placeFrom_95 (fun u18 H locs p16 hw => ?_)
                obtain ⟨b16_19, b17_20, b18_21, b19_22, b20_23, b21_24, hFu18, huu18⟩ := p16
                subst huu18
                have hst_ : sr (sr (sr (sr (sr (sr (sr (sr (sr (sr (sr (sr (sr σ 16 (d16)) 17 (d17)) 18 (d18)) 19 (d19)) 20 (d20)) 21 (d21)) 0 (upd (σ 0) 11 (nI bb))) 16 b16_19) 17 b17_20) 18 b18_21) 19 b19_22) 20 b20_23) 21 b21_24 = sr (sr (sr (sr (sr (sr (sr σ 16 (b16_19)) 17 (b17_20)) 18 (b18_21)) 19 (b19_22)) 20 (b20_23)) 21 (b21_24)) 0 (upd (σ 0) 11 (nI bb)) := by
                  funext j_ x_
                  by_cases e0 : j_ = 0
                  · subst e0
                    by_cases y11 : x_ = 11
                    · subst y11; rfl
                    · simp [sr, upd, y11]
                  · by_cases e16 : j_ = 16
                    · subst e16; rfl
                    · by_cases e17 : j_ = 17
                      · subst e17; rfl
                      · by_cases e18 : j_ = 18
                        · subst e18; rfl
                        · by_cases e19 : j_ = 19
                          · subst e19; rfl
                          · by_cases e20 : j_ = 20
                            · subst e20; rfl
                            · by_cases e21 : j_ = 21
                              · subst e21; rfl
                              · simp only [sr, e0, e16, e17, e18, e19, e20, e21, if_false]
                rw [hst_] at hw
                refine lv_aload_n hC.1 hC.2.1 dX9_placeFrom_98 rfl (lv_at hl 1 rfl) ?_
                refine lv_iload_n hC.1 hC.2.1 dX9_placeFrom_99 rfl (lv_at hl 2 rfl) ?_
                refine lv_iconst (v := nI 1) hC.1 hC.2.1 dX9_placeFrom_100 (by decide) ?_
                refine q_addN hC dX9_placeFrom_101 ?_
                refine lv_iload hC.1 hC.2.1 dX9_placeFrom_102 (lv_at hl 0 rfl) ?_
                refine q_callSv (As := [.ref (a 70), .int (nI (4 + 1)), .int (bitsC (pu pp 4 h) (4 + 1))]) (rest := []) hC hw hl (tX9_placeFrom_k5 l E a (sr (sr (sr (sr (sr (sr (sr σ 16 (b16_19)) 17 (b17_20)) 18 (b18_21)) 19 (b19_22)) 20 (b20_23)) 21 (b21_24)) 0 (upd (σ 0) 11 (nI bb))) nh nj E0 fm F P0 (pu pp 4 h) bb (bitsC (pu pp 4 h) (4 + 1)) hN hE hS hFu18 hm hm5 (by omega) hF hFk (hfea.s (show h < nh by omega) ((fit_cut hFk (by omega)).mp c15)) rfl (by omega) rfl) (q_cwS hC.2.2.2.2.1 ⟨rfl, rfl⟩ wk4_30 wk4_31 wk1_10 wk4_32 hd_X9_placeFrom.2 ⟨Nat.le_of_ble_eq_true rfl, Nat.le_of_ble_eq_true rfl⟩) rfl rfl (Nat.le_of_ble_eq_true rfl) dX9_placeFrom_104 (fun u27 H locs p25 hw => ?_)
                obtain ⟨b16_28, b17_29, b18_30, b19_31, b20_32, b21_33, bq34, hFu27, hLu27, hBu27, huu27⟩ := p25
                subst huu27
                have hst_ : sr (sr (sr (sr (sr (sr (sr (sr (sr (sr (sr (sr (sr (sr σ 16 (b16_19)) 17 (b17_20)) 18 (b18_21)) 19 (b19_22)) 20 (b20_23)) 21 (b21_24)) 0 (upd (σ 0) 11 (nI bb))) 16 b16_28) 17 b17_29) 18 b18_30) 19 b19_31) 20 b20_32) 21 b21_33) 0 (upd ((sr (sr (sr (sr (sr (sr (sr σ 16 (b16_19)) 17 (b17_20)) 18 (b18_21)) 19 (b19_22)) 20 (b20_23)) 21 (b21_24)) 0 (upd (σ 0) 11 (nI bb))) 0) 11 (nI bq34)) = sr (sr (sr (sr (sr (sr (sr σ 16 (b16_28)) 17 (b17_29)) 18 (b18_30)) 19 (b19_31)) 20 (b20_32)) 21 (b21_33)) 0 (upd (σ 0) 11 (nI bq34)) := by
                  funext j_ x_
                  by_cases e0 : j_ = 0
                  · subst e0
                    by_cases y11 : x_ = 11
                    · subst y11; rfl
                    · simp [sr, upd, y11]
                  · by_cases e16 : j_ = 16
                    · subst e16; rfl
                    · by_cases e17 : j_ = 17
                      · subst e17; rfl
                      · by_cases e18 : j_ = 18
                        · subst e18; rfl
                        · by_cases e19 : j_ = 19
                          · subst e19; rfl
                          · by_cases e20 : j_ = 20
                            · subst e20; rfl
                            · by_cases e21 : j_ = 21
                              · subst e21; rfl
                              · simp only [sr, e0, e16, e17, e18, e19, e20, e21, if_false]
                rw [hst_] at hw
                refine lv_aload_n hC.1 hC.2.1 dX9_placeFrom_107 rfl (lv_at hl 1 rfl) ?_
                refine gf_X9_15 hC hw dX9_placeFrom_108 ?_
                refine lv_iload_n hC.1 hC.2.1 dX9_placeFrom_111 rfl (lv_at hl 4 rfl) ?_
                refine lv_iload hC.1 hC.2.1 dX9_placeFrom_112 (lv_at hl 5 rfl) ?_
                refine lv_iconst (v := (-1)) hC.1 hC.2.1 dX9_placeFrom_114 (by decide) ?_
                have hL9 := hLu27
                have hB9 := hBu27
                refine q_callVv (As := [.int (nI (F 4)), .int (nI h), .int ((-1))]) (rest := []) (q0 := 5) hC hw hl (tX4_tally l E a (sr (sr (sr (sr (sr (sr (sr σ 16 (b16_28)) 17 (b17_29)) 18 (b18_30)) 19 (b19_31)) 20 (b20_32)) 21 (b21_33)) 0 (upd (σ 0) 11 (nI bq34))) nh nj E0 (pP F P0 (cut (pu pp 4 h) (4 + 1)) fm) (pP F P0 (cut pp 4) fm) (F 4) h (-1) hN hE hS hFu27 (cut_TL2 hFk (show 4 < fm by omega) (show h < 10 by omega)) hFx (show h < nh by omega)) (q_cwV hC.2.2.2.2.1 ⟨rfl, rfl⟩ wk4_29 wk2_201 wk2_202 wk1_4 wk2_203 hd_X4_tally ⟨Nat.le_of_ble_eq_true rfl, Nat.le_of_ble_eq_true rfl⟩) rfl rfl rfl rfl rfl (Nat.le_of_ble_eq_true rfl) dX9_placeFrom_115 (fun u37 H locs p35 hw => ?_)
                obtain ⟨b16_38, b17_39, b18_40, b19_41, b20_42, b21_43, hFu37, huu37⟩ := p35
                subst huu37
                have hst_ : sr (sr (sr (sr (sr (sr (sr (sr (sr (sr (sr (sr (sr σ 16 (b16_28)) 17 (b17_29)) 18 (b18_30)) 19 (b19_31)) 20 (b20_32)) 21 (b21_33)) 0 (upd (σ 0) 11 (nI bq34))) 16 b16_38) 17 b17_39) 18 b18_40) 19 b19_41) 20 b20_42) 21 b21_43 = sr (sr (sr (sr (sr (sr (sr σ 16 (b16_38)) 17 (b17_39)) 18 (b18_40)) 19 (b19_41)) 20 (b20_42)) 21 (b21_43)) 0 (upd (σ 0) 11 (nI bq34)) := by
                  funext j_ x_
                  by_cases e0 : j_ = 0
                  · subst e0
                    by_cases y11 : x_ = 11
                    · subst y11; rfl
                    · simp [sr, upd, y11]
                  · by_cases e16 : j_ = 16
                    · subst e16; rfl
                    · by_cases e17 : j_ = 17
                      · subst e17; rfl
                      · by_cases e18 : j_ = 18
                        · subst e18; rfl
                        · by_cases e19 : j_ = 19
                          · subst e19; rfl
                          · by_cases e20 : j_ = 20
                            · subst e20; rfl
                            · by_cases e21 : j_ = 21
                              · subst e21; rfl
                              · simp only [sr, e0, e16, e17, e18, e19, e20, e21, if_false]
                rw [hst_] at hw
                refine lv_iinc (v := nI (h + 1)) (lv' := [(4, .int (nI (h + 1))), (5, .int (bitsC (pu pp 4 h) (4 + 1))), (0, .ref (a 70)), (1, .int (nI 4)), (2, .int (us)), (3, .int (nI (F 4)))]) hC.1 hC.2.1 dX9_placeFrom_118 hl (k := 5) rfl (nI_add _ _) (by decide) rfl (fun ls hl => ?_)
                refine lv_goto (tgt := 39) hC.1 hC.2.1 dX9_placeFrom_121 (by decide) ?_
                have hLB2 := hLB.tr hL9
                have hNH2 : NH E0 F fm P0 nh nj pp 4 (h + 1) bq34 := (hNH.le hL9.1).next (fun q hq hp he => hB9 q hq (pre_pu hp he))
                have hF2 := hFu37
                exact ih39 (h + 1) b16_38 b17_39 b18_40 b19_41 b20_42 b21_43 bq34 (by omega) hF2 hLB2 hNH2 (by omega) _ _ _ hw (lv_sub hl [2, 3, 4, 5, 0] rfl)
      have hst_ : σ = sr (sr (sr (sr (sr (sr (sr σ 16 (σ 16)) 17 (σ 17)) 18 (σ 18)) 19 (σ 19)) 20 (σ 20)) 21 (σ 21)) 0 (upd (σ 0) 11 (σ 0 11)) := by
        funext j_ x_
        by_cases e0 : j_ = 0
        · subst e0
          by_cases y11 : x_ = 11
          · subst y11; rfl
          · simp [sr, upd, y11]
        · by_cases e16 : j_ = 16
          · subst e16; rfl
          · by_cases e17 : j_ = 17
            · subst e17; rfl
            · by_cases e18 : j_ = 18
              · subst e18; rfl
              · by_cases e19 : j_ = 19
                · subst e19; rfl
                · by_cases e20 : j_ = 20
                  · subst e20; rfl
                  · by_cases e21 : j_ = 21
                    · subst e21; rfl
                    · simp only [sr, e0, e16, e17, e18, e19, e20, e21, if_false]
      rw [hst_] at hw
      rw [hb] at hw
      exact L39_5 _ 0 (σ 16) (σ 17) (σ 18) (σ 19) (σ 20) (σ 21) b (Nat.zero_le _) hFS ⟨Nat.le_refl _, Or.inl rfl⟩ (fun q _ _ hk => absurd hk (Nat.not_lt_zero _)) (Nat.lt_succ_self _) _ _ _ hw (lv_sub hl [2, 3, 4, 1, 0] rfl)
    · refine lv_aload_n hC.1 hC.2.1 dX9_placeFrom_13 rfl (lv_at hl 0 rfl) ?_
      refine lv_aload_n hC.1 hC.2.1 dX9_placeFrom_14 rfl (lv_at hl 0 rfl) ?_
      refine gf_X9_52 (v := nI b) hC hw hb dX9_placeFrom_15 ?_
      refine lv_iload_n hC.1 hC.2.1 dX9_placeFrom_18 rfl (lv_at hl 2 rfl) ?_
      refine q_callSp (As := [.int (us)]) (rest := [.int (nI b), .ref (a 70)]) hC hw hl (tJ6_bitCount_0f7a4 l E a σ us) (q_cwS hC.2.2.2.2.1 ⟨rfl, rfl⟩ wk4_33 wk4_34 wk1_16 wk4_35 hd_J6_bitCount_0f7a4.2 ⟨Nat.le_of_ble_eq_true rfl, Nat.le_of_ble_eq_true rfl⟩) rfl rfl (Nat.le_of_ble_eq_true rfl) dX9_placeFrom_19 (fun H locs hw => ?_)
      refine q_min (x := nI b) (y := bcx us) hC hl ⟨Nat.le_of_ble_eq_true rfl, Nat.le_of_ble_eq_true rfl⟩ wk4_22 dX9_placeFrom_22 ?_
      refine pf_X9_52 hC hw dX9_placeFrom_25 (fun H locs hw => ?_)
      have hw : Wst E (XW E a) (sr σ 0 (upd (σ 0) 11 ((if (bcx us) < (nI b) then (bcx us) else (nI b))))) A s.heap H locs := hw
      refine hret _ _ _ _ _ hw ?_ dX9_placeFrom_28
      have hkf : 4 = fm := by omega
      have hq9 : (if (bcx us) < (nI b) then (bcx us) else (nI b)) = nI (if pcq pp 4 < b then pcq pp 4 else b) := by rw [hus, pcq_bc (hfea.lt hnh)]; exact ifn_min (by omega) (pcn_le 10)
      rw [hq9]
      have hfea9 : Fea E0 F fm P0 nh nj pp fm := by have h9 := hfea; rw [hkf] at h9; exact h9
      refine ⟨σ 16, σ 17, σ 18, σ 19, σ 20, σ 21, if pcq pp 4 < b then pcq pp 4 else b, hFS, ⟨by split <;> omega, ?_⟩, fun q hq hp => ?_, ?_⟩
      · by_cases z : pcq pp 4 < b
        · rw [if_pos z]; exact Or.inr ⟨pp, hfea9, by rw [← hkf]⟩
        · rw [if_neg z]; exact Or.inl rfl
      · rw [pcq_congr (p := q) (q := pp) (fun i hi => hp i (by omega)), ← hkf]; split <;> omega
      · show sr σ 0 (upd (σ 0) 11 (nI (if pcq pp 4 < b then pcq pp 4 else b))) = sr (sr (sr (sr (sr (sr (sr σ 16 (σ 16)) 17 (σ 17)) 18 (σ 18)) 19 (σ 19)) 20 (σ 20)) 21 (σ 21)) 0 (upd (σ 0) 11 (nI (if pcq pp 4 < b then pcq pp 4 else b)))
        funext j_ x_
        by_cases e0 : j_ = 0
        · subst e0
          by_cases y11 : x_ = 11
          · subst y11; rfl
          · simp [sr, upd, y11]
        · by_cases e16 : j_ = 16
          · subst e16; rfl
          · by_cases e17 : j_ = 17
            · subst e17; rfl
            · by_cases e18 : j_ = 18
              · subst e18; rfl
              · by_cases e19 : j_ = 19
                · subst e19; rfl
                · by_cases e20 : j_ = 20
                  · subst e20; rfl
                  · by_cases e21 : j_ = 21
                    · subst e21; rfl
                    · simp only [sr, e0, e16, e17, e18, e19, e20, e21, if_false]
set_option maxHeartbeats 4000000 in
set_option maxRecDepth 100000 in
theorem tX9_placeFrom_k3 (l : Launch) (E : EV) (a : Nat → Nat) (σ : St) (nh : Nat) (nj : Nat) (E0 : St) (fm : Nat) (F : Nat → Nat) (P0 : Nat → Int32) (pp : Nat → Nat) (b : Nat) (us : Int32) (hN : cN2 σ nh nj) (hE : aE σ E0) (hS : cS E0 nh nj) (hFS : FSr E0 (pP F P0 (cut pp 3) fm) nh nj (σ 16) (σ 17) (σ 18) (σ 19) (σ 20) (σ 21)) (hm : σ 0 10 = nI fm) (hm5 : fm ≤ 5) (hkm : 3 ≤ fm) (hF : ∀ i, i < fm → σ 29 i = nI (F i) ∧ F i < nj) (hFk : Fok F fm nj) (hfea : Fea E0 F fm P0 nh nj pp 3) (hb : σ 0 11 = nI b) (hb11 : b ≤ 11) (hus : us = bitsC pp 3) : MV l E (XW E a) yX9_placeFrom (Cond.code yX9_placeFrom cX9_placeFrom 6 none) ({ frames := 5, cells := 0, slots := 0, locals := 123 }) [.ref (a 70), .int (nI 3), .int (us)] σ (fun u_ => ∃ (b16 b17 b18 b19 b20 b21 : Nat → Int32) (b9 : Nat), FSr E0 (pP F P0 (cut pp 3) fm) nh nj b16 b17 b18 b19 b20 b21 ∧ LB E0 F fm P0 nh nj b b9 ∧ NB E0 F fm P0 nh nj pp 3 b9 ∧ u_ = sr (sr (sr (sr (sr (sr (sr σ 16 b16) 17 b17) 18 b18) 19 b19) 20 b20) 21 b21) 0 (upd (σ 0) 11 (nI b9))) := by
  refine MV.mk (by decide +kernel) (Nat.le_of_ble_eq_true rfl) ?_
  intro p e s m args below meth c ls A Q hret hC hw hl
  have hC : Cxt E p s m args meth c cX9_placeFrom 6 none RX9 A := hC
  have hl : lv_has ls 6 [(0, .ref (a 70)), (1, .int (nI 3)), (2, .int (us))] := hl
  have hnh := hS.1
  have hnj := hS.2.1
  refine lv_iload_n hC.1 hC.2.1 dX9_placeFrom_0 rfl (lv_at hl 1 rfl) ?_
  refine lv_iconst (v := nI 5) hC.1 hC.2.1 dX9_placeFrom_1 (by decide) ?_
  refine q_cmpge hC 13 (cNle (by omega) (by omega)) dX9_placeFrom_2 (by decide) (fun (c1 : 5 ≤ 3) => ?_) (fun (c1 : 3 < 5) => ?_)
  · refine lv_aload_n hC.1 hC.2.1 dX9_placeFrom_13 rfl (lv_at hl 0 rfl) ?_
    refine lv_aload_n hC.1 hC.2.1 dX9_placeFrom_14 rfl (lv_at hl 0 rfl) ?_
    refine gf_X9_52 (v := nI b) hC hw hb dX9_placeFrom_15 ?_
    refine lv_iload_n hC.1 hC.2.1 dX9_placeFrom_18 rfl (lv_at hl 2 rfl) ?_
    refine q_callSp (As := [.int (us)]) (rest := [.int (nI b), .ref (a 70)]) hC hw hl (tJ6_bitCount_0f7a4 l E a σ us) (q_cwS hC.2.2.2.2.1 ⟨rfl, rfl⟩ wk4_33 wk4_34 wk1_16 wk4_35 hd_J6_bitCount_0f7a4.2 ⟨Nat.le_of_ble_eq_true rfl, Nat.le_of_ble_eq_true rfl⟩) rfl rfl (Nat.le_of_ble_eq_true rfl) dX9_placeFrom_19 (fun H locs hw => ?_)
    refine q_min (x := nI b) (y := bcx us) hC hl ⟨Nat.le_of_ble_eq_true rfl, Nat.le_of_ble_eq_true rfl⟩ wk4_22 dX9_placeFrom_22 ?_
    refine pf_X9_52 hC hw dX9_placeFrom_25 (fun H locs hw => ?_)
    have hw : Wst E (XW E a) (sr σ 0 (upd (σ 0) 11 ((if (bcx us) < (nI b) then (bcx us) else (nI b))))) A s.heap H locs := hw
    refine hret _ _ _ _ _ hw ?_ dX9_placeFrom_28
    have hkf : 3 = fm := by omega
    have hq9 : (if (bcx us) < (nI b) then (bcx us) else (nI b)) = nI (if pcq pp 3 < b then pcq pp 3 else b) := by rw [hus, pcq_bc (hfea.lt hnh)]; exact ifn_min (by omega) (pcn_le 10)
    rw [hq9]
    have hfea9 : Fea E0 F fm P0 nh nj pp fm := by have h9 := hfea; rw [hkf] at h9; exact h9
    refine ⟨σ 16, σ 17, σ 18, σ 19, σ 20, σ 21, if pcq pp 3 < b then pcq pp 3 else b, hFS, ⟨by split <;> omega, ?_⟩, fun q hq hp => ?_, ?_⟩
    · by_cases z : pcq pp 3 < b
      · rw [if_pos z]; exact Or.inr ⟨pp, hfea9, by rw [← hkf]⟩
      · rw [if_neg z]; exact Or.inl rfl
    · rw [pcq_congr (p := q) (q := pp) (fun i hi => hp i (by omega)), ← hkf]; split <;> omega
    · show sr σ 0 (upd (σ 0) 11 (nI (if pcq pp 3 < b then pcq pp 3 else b))) = sr (sr (sr (sr (sr (sr (sr σ 16 (σ 16)) 17 (σ 17)) 18 (σ 18)) 19 (σ 19)) 20 (σ 20)) 21 (σ 21)) 0 (upd (σ 0) 11 (nI (if pcq pp 3 < b then pcq pp 3 else b)))
      funext j_ x_
      by_cases e0 : j_ = 0
      · subst e0
        by_cases y11 : x_ = 11
        · subst y11; rfl
        · simp [sr, upd, y11]
      · by_cases e16 : j_ = 16
        · subst e16; rfl
        · by_cases e17 : j_ = 17
          · subst e17; rfl
          · by_cases e18 : j_ = 18
            · subst e18; rfl
            · by_cases e19 : j_ = 19
              · subst e19; rfl
              · by_cases e20 : j_ = 20
                · subst e20; rfl
                · by_cases e21 : j_ = 21
                  · subst e21; rfl
                  · simp only [sr, e0, e16, e17, e18, e19, e20, e21, if_false]
  · refine lv_iload_n hC.1 hC.2.1 dX9_placeFrom_5 rfl (lv_at hl 1 rfl) ?_
    refine lv_aload_n hC.1 hC.2.1 dX9_placeFrom_6 rfl (lv_at hl 0 rfl) ?_
    refine gf_X9_42 (v := nI fm) hC hw hm dX9_placeFrom_7 ?_
    refine q_cmplt hC 29 (cNlt (by omega) (by omega)) dX9_placeFrom_10 (by decide) (fun (c5 : 3 < fm) => ?_) (fun (c5 : fm ≤ 3) => ?_)
    · refine lv_aload_n hC.1 hC.2.1 dX9_placeFrom_29 rfl (lv_at hl 0 rfl) ?_
      refine gf_X9_9 hC hw dX9_placeFrom_30 ?_
      refine lv_iload_n hC.1 hC.2.1 dX9_placeFrom_33 rfl (lv_at hl 1 rfl) ?_
      have hFx := (hF 3 (by omega)).2
      refine al_X29 (v := nI (F 3)) hC hw (by omega) (hF 3 (by omega)).1 dX9_placeFrom_34 ?_
      refine lv_istore_n (lv' := [(3, .int (nI (F 3))), (0, .ref (a 70)), (1, .int (nI 3)), (2, .int (us))]) hC.1 hC.2.1 dX9_placeFrom_35 rfl hl (by decide) rfl (fun ls hl => ?_)
      refine lv_iconst (v := nI 0) hC.1 hC.2.1 dX9_placeFrom_36 (by decide) ?_
      refine lv_istore (lv' := [(4, .int (nI 0)), (3, .int (nI (F 3))), (0, .ref (a 70)), (1, .int (nI 3)), (2, .int (us))]) hC.1 hC.2.1 dX9_placeFrom_37 hl (by decide) rfl (fun ls hl => ?_)
      have L39_5 : ∀ (n : Nat), ∀ (h : Nat), ∀ (d16 : Nat → Int32), ∀ (d17 : Nat → Int32), ∀ (d18 : Nat → Int32), ∀ (d19 : Nat → Int32), ∀ (d20 : Nat → Int32), ∀ (d21 : Nat → Int32), ∀ (bb : Nat), (h ≤ nh) → (FSr E0 (pP F P0 (cut pp 3) fm) nh nj d16 d17 d18 d19 d20 d21) → (LB E0 F fm P0 nh nj b bb) → (NH E0 F fm P0 nh nj pp 3 h bb) → (nh - h) < n → ∀ (H : Heap) (locs : List Loc) (ls : Array Slot), Wst E (XW E a) (sr (sr (sr (sr (sr (sr (sr σ 16 (d16)) 17 (d17)) 18 (d18)) 19 (d19)) 20 (d20)) 21 (d21)) 0 (upd (σ 0) 11 (nI bb))) A s.heap H locs → lv_has ls 6 [(0, .ref (a 70)), (1, .int (nI 3)), (2, .int (us)), (3, .int (nI (F 3))), (4, .int (nI h))] → W p l e ({ frames := 5, cells := 0, slots := 0, locals := 123 }) s m args below meth c H locs 0 0 Q (F0 m 39 ls []) := by
        intro n
        induction n with
        | zero => intro h d16 d17 d18 d19 d20 d21 bb hh hF0 hLB hNH hn; exact absurd hn (Nat.not_lt_zero _)
        | succ n ih39 =>
          intro h d16 d17 d18 d19 d20 d21 bb hh hF0 hLB hNH hn39 H locs ls hw hl
          have hbb9 := hLB.1
          refine lv_iload hC.1 hC.2.1 dX9_placeFrom_39 (lv_at hl 4 rfl) ?_
          refine lv_aload_n hC.1 hC.2.1 dX9_placeFrom_41 rfl (lv_at hl 0 rfl) ?_
          refine gf_X9_15 hC hw dX9_placeFrom_42 ?_
          refine gf_X9_68 hC hw dX9_placeFrom_45 ?_
          refine gf_X9_72 (v := nI nh) hC hw hN.1 dX9_placeFrom_48 ?_
          refine q_cmpge hC 124 (cNle (by omega) (by omega)) dX9_placeFrom_51 (by decide) (fun (c7 : nh ≤ h) => ?_) (fun (c7 : h < nh) => ?_)
          · refine hret _ _ _ _ _ hw ?_ dX9_placeFrom_124
            have hh9 : h = nh := by omega
            rw [hh9] at hNH
            exact ⟨d16, d17, d18, d19, d20, d21, bb, hF0, hLB, NB.of hNH (by omega), rfl⟩
          · refine lv_iload_n hC.1 hC.2.1 dX9_placeFrom_54 rfl (lv_at hl 2 rfl) ?_
            refine lv_iconst (v := nI 1) hC.1 hC.2.1 dX9_placeFrom_55 (by decide) ?_
            refine lv_iload hC.1 hC.2.1 dX9_placeFrom_56 (lv_at hl 4 rfl) ?_
            refine lv_ishl hC.1 hC.2.1 dX9_placeFrom_58 ?_
            refine lv_ior hC.1 hC.2.1 dX9_placeFrom_59 ?_
            refine q_top (y := bitsC (pu pp 3 h) (3 + 1)) (by rw [hus]; exact bitsC_s) ?_
            refine lv_istore (lv' := [(5, .int (bitsC (pu pp 3 h) (3 + 1))), (0, .ref (a 70)), (1, .int (nI 3)), (2, .int (us)), (3, .int (nI (F 3))), (4, .int (nI h))]) hC.1 hC.2.1 dX9_placeFrom_60 hl (by decide) rfl (fun ls hl => ?_)
            refine lv_iload hC.1 hC.2.1 dX9_placeFrom_62 (lv_at hl 0 rfl) ?_
            refine q_callSp (As := [.int (bitsC (pu pp 3 h) (3 + 1))]) (rest := []) hC hw hl (tJ6_bitCount_0f7a4 l E a (sr (sr (sr (sr (sr (sr (sr σ 16 (d16)) 17 (d17)) 18 (d18)) 19 (d19)) 20 (d20)) 21 (d21)) 0 (upd (σ 0) 11 (nI bb))) (bitsC (pu pp 3 h) (3 + 1))) (q_cwS hC.2.2.2.2.1 ⟨rfl, rfl⟩ wk4_33 wk4_34 wk1_16 wk4_35 hd_J6_bitCount_0f7a4.2 ⟨Nat.le_of_ble_eq_true rfl, Nat.le_of_ble_eq_true rfl⟩) rfl rfl (Nat.le_of_ble_eq_true rfl) dX9_placeFrom_64 (fun H locs hw => ?_)
            refine q_top (y := nI (pcq (pu pp 3 h) (3 + 1))) (pcq_bc (pu_lt (hfea.lt hnh) (show h < 10 by omega))) ?_
            have hpq : pcq (pu pp 3 h) (3 + 1) ≤ 10 := pcn_le 10
            refine lv_aload_n hC.1 hC.2.1 dX9_placeFrom_67 rfl (lv_at hl 1 rfl) ?_
            refine gf_X9_52 (v := nI bb) hC hw rfl dX9_placeFrom_68 ?_
            refine q_cmpge hC 118 (cNle (by omega) (by omega)) dX9_placeFrom_71 (by decide) (fun (c11 : bb ≤ (pcq (pu pp 3 h) (3 + 1))) => ?_) (fun (c11 : (pcq (pu pp 3 h) (3 + 1)) < bb) => ?_)
            · refine lv_iinc (v := nI (h + 1)) (lv' := [(4, .int (nI (h + 1))), (5, .int (bitsC (pu pp 3 h) (3 + 1))), (0, .ref (a 70)), (1, .int (nI 3)), (2, .int (us)), (3, .int (nI (F 3)))]) hC.1 hC.2.1 dX9_placeFrom_118 hl (k := 5) rfl (nI_add _ _) (by decide) rfl (fun ls hl => ?_)
              refine lv_goto (tgt := 39) hC.1 hC.2.1 dX9_placeFrom_121 (by decide) ?_
              have hNH2 : NH E0 F fm P0 nh nj pp 3 (h + 1) bb := hNH.next (nb_prune (by omega) c11)
              have hLB2 := hLB
              have hF2 := hF0
              exact ih39 (h + 1) d16 d17 d18 d19 d20 d21 bb (by omega) hF2 hLB2 hNH2 (by omega) _ _ _ hw (lv_sub hl [2, 3, 4, 5, 0] rfl)
            · refine lv_aload_n hC.1 hC.2.1 dX9_placeFrom_74 rfl (lv_at hl 1 rfl) ?_
              refine gf_X9_15 hC hw dX9_placeFrom_75 ?_
              refine lv_iload_n hC.1 hC.2.1 dX9_placeFrom_78 rfl (lv_at hl 4 rfl) ?_
              refine lv_iload hC.1 hC.2.1 dX9_placeFrom_79 (lv_at hl 5 rfl) ?_
              refine q_callVp (As := [.int (nI (F 3)), .int (nI h)]) (rest := []) (q0 := 5) hC hw hl (tX4_fits l E a (sr (sr (sr (sr (sr (sr (sr σ 16 (d16)) 17 (d17)) 18 (d18)) 19 (d19)) 20 (d20)) 21 (d21)) 0 (upd (σ 0) 11 (nI bb))) nh nj E0 (pP F P0 (cut pp 3) fm) (F 3) h hN hE hS hF0 hFx (show h < nh by omega)) (q_cwV hC.2.2.2.2.1 ⟨rfl, rfl⟩ wk4_39 wk3_37 wk3_38 wk1_4 wk3_39 hd_X4_fits ⟨Nat.le_of_ble_eq_true rfl, Nat.le_of_ble_eq_true rfl⟩) rfl rfl rfl rfl rfl (Nat.le_of_ble_eq_true rfl) dX9_placeFrom_81 (fun H locs hw => ?_)
              refine q_ifeq hC 118 cB dX9_placeFrom_84 (by decide) (fun (c15 : ¬ (m_why E0 (pP F P0 (cut pp 3) fm) nh nj (F 3) h = 0)) => ?_) (fun (c15 : m_why E0 (pP F P0 (cut pp 3) fm) nh nj (F 3) h = 0) => ?_)
              · refine lv_iinc (v := nI (h + 1)) (lv' := [(4, .int (nI (h + 1))), (5, .int (bitsC (pu pp 3 h) (3 + 1))), (0, .ref (a 70)), (1, .int (nI 3)), (2, .int (us)), (3, .int (nI (F 3)))]) hC.1 hC.2.1 dX9_placeFrom_118 hl (k := 5) rfl (nI_add _ _) (by decide) rfl (fun ls hl => ?_)
                refine lv_goto (tgt := 39) hC.1 hC.2.1 dX9_placeFrom_121 (by decide) ?_
                have hNH2 : NH E0 F fm P0 nh nj pp 3 (h + 1) bb := hNH.next (nb_nofit (by omega) (fun q => c15 ((fit_cut hFk (by omega)).mpr q)))
                have hLB2 := hLB
                have hF2 := hF0
                exact ih39 (h + 1) d16 d17 d18 d19 d20 d21 bb (by omega) hF2 hLB2 hNH2 (by omega) _ _ _ hw (lv_sub hl [2, 3, 4, 5, 0] rfl)
              · refine lv_aload_n hC.1 hC.2.1 dX9_placeFrom_87 rfl (lv_at hl 1 rfl) ?_
                refine gf_X9_15 hC hw dX9_placeFrom_88 ?_
                refine lv_iload_n hC.1 hC.2.1 dX9_placeFrom_91 rfl (lv_at hl 4 rfl) ?_
                refine lv_iload hC.1 hC.2.1 dX9_placeFrom_92 (lv_at hl 5 rfl) ?_
                refine lv_iconst (v := nI 1) hC.1 hC.2.1 dX9_placeFrom_94 (by decide) ?_
                refine q_callVv (As := [.int (nI (F 3)), .int (nI h), .int (nI 1)]) (rest := []) (q0 := 5) hC hw hl (tX4_tally l E a (sr (sr (sr (sr (sr (sr (sr σ 16 (d16)) 17 (d17)) 18 (d18)) 19 (d19)) 20 (d20)) 21 (d21)) 0 (upd (σ 0) 11 (nI bb))) nh nj E0 (pP F P0 (cut pp 3) fm) (pP F P0 (cut (pu pp 3 h) (3 + 1)) fm) (F 3) h 1 hN hE hS hF0 (cut_TL hFk (show 3 < fm by omega) (show h < 10 by omega)) hFx (show h < nh by omega)) (q_cwV hC.2.2.2.2.1 ⟨rfl, rfl⟩ wk4_29 wk2_201 wk2_202 wk1_4 wk2_203 hd_X4_tally ⟨Nat.le_of_ble_eq_true rfl, Nat.le_of_ble_eq_true rfl⟩) rfl rfl rfl rfl rfl (Nat.le_of_ble_eq_true rfl) dX9_placeFrom_95 (fun u18 H locs p16 hw => ?_)
                obtain ⟨b16_19, b17_20, b18_21, b19_22, b20_23, b21_24, hFu18, huu18⟩ := p16
                subst huu18
                have hst_ : sr (sr (sr (sr (sr (sr (sr (sr (sr (sr (sr (sr (sr σ 16 (d16)) 17 (d17)) 18 (d18)) 19 (d19)) 20 (d20)) 21 (d21)) 0 (upd (σ 0) 11 (nI bb))) 16 b16_19) 17 b17_20) 18 b18_21) 19 b19_22) 20 b20_23) 21 b21_24 = sr (sr (sr (sr (sr (sr (sr σ 16 (b16_19)) 17 (b17_20)) 18 (b18_21)) 19 (b19_22)) 20 (b20_23)) 21 (b21_24)) 0 (upd (σ 0) 11 (nI bb)) := by
                  funext j_ x_
                  by_cases e0 : j_ = 0
                  · subst e0
                    by_cases y11 : x_ = 11
                    · subst y11; rfl
                    · simp [sr, upd, y11]
                  · by_cases e16 : j_ = 16
                    · subst e16; rfl
                    · by_cases e17 : j_ = 17
                      · subst e17; rfl
                      · by_cases e18 : j_ = 18
                        · subst e18; rfl
                        · by_cases e19 : j_ = 19
                          · subst e19; rfl
                          · by_cases e20 : j_ = 20
                            · subst e20; rfl
                            · by_cases e21 : j_ = 21
                              · subst e21; rfl
                              · simp only [sr, e0, e16, e17, e18, e19, e20, e21, if_false]
                rw [hst_] at hw
                refine lv_aload_n hC.1 hC.2.1 dX9_placeFrom_98 rfl (lv_at hl 1 rfl) ?_
                refine lv_iload_n hC.1 hC.2.1 dX9_placeFrom_99 rfl (lv_at hl 2 rfl) ?_
                refine lv_iconst (v := nI 1) hC.1 hC.2.1 dX9_placeFrom_100 (by decide) ?_
                refine q_addN hC dX9_placeFrom_101 ?_
                refine lv_iload hC.1 hC.2.1 dX9_placeFrom_102 (lv_at hl 0 rfl) ?_
                refine q_callSv (As := [.ref (a 70), .int (nI (3 + 1)), .int (bitsC (pu pp 3 h) (3 + 1))]) (rest := []) hC hw hl (tX9_placeFrom_k4 l E a (sr (sr (sr (sr (sr (sr (sr σ 16 (b16_19)) 17 (b17_20)) 18 (b18_21)) 19 (b19_22)) 20 (b20_23)) 21 (b21_24)) 0 (upd (σ 0) 11 (nI bb))) nh nj E0 fm F P0 (pu pp 3 h) bb (bitsC (pu pp 3 h) (3 + 1)) hN hE hS hFu18 hm hm5 (by omega) hF hFk (hfea.s (show h < nh by omega) ((fit_cut hFk (by omega)).mp c15)) rfl (by omega) rfl) (q_cwS hC.2.2.2.2.1 ⟨rfl, rfl⟩ wk4_30 wk4_31 wk1_10 wk4_32 hd_X9_placeFrom.2 ⟨Nat.le_of_ble_eq_true rfl, Nat.le_of_ble_eq_true rfl⟩) rfl rfl (Nat.le_of_ble_eq_true rfl) dX9_placeFrom_104 (fun u27 H locs p25 hw => ?_)
                obtain ⟨b16_28, b17_29, b18_30, b19_31, b20_32, b21_33, bq34, hFu27, hLu27, hBu27, huu27⟩ := p25
                subst huu27
                have hst_ : sr (sr (sr (sr (sr (sr (sr (sr (sr (sr (sr (sr (sr (sr σ 16 (b16_19)) 17 (b17_20)) 18 (b18_21)) 19 (b19_22)) 20 (b20_23)) 21 (b21_24)) 0 (upd (σ 0) 11 (nI bb))) 16 b16_28) 17 b17_29) 18 b18_30) 19 b19_31) 20 b20_32) 21 b21_33) 0 (upd ((sr (sr (sr (sr (sr (sr (sr σ 16 (b16_19)) 17 (b17_20)) 18 (b18_21)) 19 (b19_22)) 20 (b20_23)) 21 (b21_24)) 0 (upd (σ 0) 11 (nI bb))) 0) 11 (nI bq34)) = sr (sr (sr (sr (sr (sr (sr σ 16 (b16_28)) 17 (b17_29)) 18 (b18_30)) 19 (b19_31)) 20 (b20_32)) 21 (b21_33)) 0 (upd (σ 0) 11 (nI bq34)) := by
                  funext j_ x_
                  by_cases e0 : j_ = 0
                  · subst e0
                    by_cases y11 : x_ = 11
                    · subst y11; rfl
                    · simp [sr, upd, y11]
                  · by_cases e16 : j_ = 16
                    · subst e16; rfl
                    · by_cases e17 : j_ = 17
                      · subst e17; rfl
                      · by_cases e18 : j_ = 18
                        · subst e18; rfl
                        · by_cases e19 : j_ = 19
                          · subst e19; rfl
                          · by_cases e20 : j_ = 20
                            · subst e20; rfl
                            · by_cases e21 : j_ = 21
                              · subst e21; rfl
                              · simp only [sr, e0, e16, e17, e18, e19, e20, e21, if_false]
                rw [hst_] at hw
                refine lv_aload_n hC.1 hC.2.1 dX9_placeFrom_107 rfl (lv_at hl 1 rfl) ?_
                refine gf_X9_15 hC hw dX9_placeFrom_108 ?_
                refine lv_iload_n hC.1 hC.2.1 dX9_placeFrom_111 rfl (lv_at hl 4 rfl) ?_
                refine lv_iload hC.1 hC.2.1 dX9_placeFrom_112 (lv_at hl 5 rfl) ?_
                refine lv_iconst (v := (-1)) hC.1 hC.2.1 dX9_placeFrom_114 (by decide) ?_
                have hL9 := hLu27
                have hB9 := hBu27
                refine q_callVv (As := [.int (nI (F 3)), .int (nI h), .int ((-1))]) (rest := []) (q0 := 5) hC hw hl (tX4_tally l E a (sr (sr (sr (sr (sr (sr (sr σ 16 (b16_28)) 17 (b17_29)) 18 (b18_30)) 19 (b19_31)) 20 (b20_32)) 21 (b21_33)) 0 (upd (σ 0) 11 (nI bq34))) nh nj E0 (pP F P0 (cut (pu pp 3 h) (3 + 1)) fm) (pP F P0 (cut pp 3) fm) (F 3) h (-1) hN hE hS hFu27 (cut_TL2 hFk (show 3 < fm by omega) (show h < 10 by omega)) hFx (show h < nh by omega)) (q_cwV hC.2.2.2.2.1 ⟨rfl, rfl⟩ wk4_29 wk2_201 wk2_202 wk1_4 wk2_203 hd_X4_tally ⟨Nat.le_of_ble_eq_true rfl, Nat.le_of_ble_eq_true rfl⟩) rfl rfl rfl rfl rfl (Nat.le_of_ble_eq_true rfl) dX9_placeFrom_115 (fun u37 H locs p35 hw => ?_)
                obtain ⟨b16_38, b17_39, b18_40, b19_41, b20_42, b21_43, hFu37, huu37⟩ := p35
                subst huu37
                have hst_ : sr (sr (sr (sr (sr (sr (sr (sr (sr (sr (sr (sr (sr σ 16 (b16_28)) 17 (b17_29)) 18 (b18_30)) 19 (b19_31)) 20 (b20_32)) 21 (b21_33)) 0 (upd (σ 0) 11 (nI bq34))) 16 b16_38) 17 b17_39) 18 b18_40) 19 b19_41) 20 b20_42) 21 b21_43 = sr (sr (sr (sr (sr (sr (sr σ 16 (b16_38)) 17 (b17_39)) 18 (b18_40)) 19 (b19_41)) 20 (b20_42)) 21 (b21_43)) 0 (upd (σ 0) 11 (nI bq34)) := by
                  funext j_ x_
                  by_cases e0 : j_ = 0
                  · subst e0
                    by_cases y11 : x_ = 11
                    · subst y11; rfl
                    · simp [sr, upd, y11]
                  · by_cases e16 : j_ = 16
                    · subst e16; rfl
                    · by_cases e17 : j_ = 17
                      · subst e17; rfl
                      · by_cases e18 : j_ = 18
                        · subst e18; rfl
                        · by_cases e19 : j_ = 19
                          · subst e19; rfl
                          · by_cases e20 : j_ = 20
                            · subst e20; rfl
                            · by_cases e21 : j_ = 21
                              · subst e21; rfl
                              · simp only [sr, e0, e16, e17, e18, e19, e20, e21, if_false]
                rw [hst_] at hw
                refine lv_iinc (v := nI (h + 1)) (lv' := [(4, .int (nI (h + 1))), (5, .int (bitsC (pu pp 3 h) (3 + 1))), (0, .ref (a 70)), (1, .int (nI 3)), (2, .int (us)), (3, .int (nI (F 3)))]) hC.1 hC.2.1 dX9_placeFrom_118 hl (k := 5) rfl (nI_add _ _) (by decide) rfl (fun ls hl => ?_)
                refine lv_goto (tgt := 39) hC.1 hC.2.1 dX9_placeFrom_121 (by decide) ?_
                have hLB2 := hLB.tr hL9
                have hNH2 : NH E0 F fm P0 nh nj pp 3 (h + 1) bq34 := (hNH.le hL9.1).next (fun q hq hp he => hB9 q hq (pre_pu hp he))
                have hF2 := hFu37
                exact ih39 (h + 1) b16_38 b17_39 b18_40 b19_41 b20_42 b21_43 bq34 (by omega) hF2 hLB2 hNH2 (by omega) _ _ _ hw (lv_sub hl [2, 3, 4, 5, 0] rfl)
      have hst_ : σ = sr (sr (sr (sr (sr (sr (sr σ 16 (σ 16)) 17 (σ 17)) 18 (σ 18)) 19 (σ 19)) 20 (σ 20)) 21 (σ 21)) 0 (upd (σ 0) 11 (σ 0 11)) := by
        funext j_ x_
        by_cases e0 : j_ = 0
        · subst e0
          by_cases y11 : x_ = 11
          · subst y11; rfl
          · simp [sr, upd, y11]
        · by_cases e16 : j_ = 16
          · subst e16; rfl
          · by_cases e17 : j_ = 17
            · subst e17; rfl
            · by_cases e18 : j_ = 18
              · subst e18; rfl
              · by_cases e19 : j_ = 19
                · subst e19; rfl
                · by_cases e20 : j_ = 20
                  · subst e20; rfl
                  · by_cases e21 : j_ = 21
                    · subst e21; rfl
                    · simp only [sr, e0, e16, e17, e18, e19, e20, e21, if_false]
      rw [hst_] at hw
      rw [hb] at hw
      exact L39_5 _ 0 (σ 16) (σ 17) (σ 18) (σ 19) (σ 20) (σ 21) b (Nat.zero_le _) hFS ⟨Nat.le_refl _, Or.inl rfl⟩ (fun q _ _ hk => absurd hk (Nat.not_lt_zero _)) (Nat.lt_succ_self _) _ _ _ hw (lv_sub hl [2, 3, 4, 1, 0] rfl)
    · refine lv_aload_n hC.1 hC.2.1 dX9_placeFrom_13 rfl (lv_at hl 0 rfl) ?_
      refine lv_aload_n hC.1 hC.2.1 dX9_placeFrom_14 rfl (lv_at hl 0 rfl) ?_
      refine gf_X9_52 (v := nI b) hC hw hb dX9_placeFrom_15 ?_
      refine lv_iload_n hC.1 hC.2.1 dX9_placeFrom_18 rfl (lv_at hl 2 rfl) ?_
      refine q_callSp (As := [.int (us)]) (rest := [.int (nI b), .ref (a 70)]) hC hw hl (tJ6_bitCount_0f7a4 l E a σ us) (q_cwS hC.2.2.2.2.1 ⟨rfl, rfl⟩ wk4_33 wk4_34 wk1_16 wk4_35 hd_J6_bitCount_0f7a4.2 ⟨Nat.le_of_ble_eq_true rfl, Nat.le_of_ble_eq_true rfl⟩) rfl rfl (Nat.le_of_ble_eq_true rfl) dX9_placeFrom_19 (fun H locs hw => ?_)
      refine q_min (x := nI b) (y := bcx us) hC hl ⟨Nat.le_of_ble_eq_true rfl, Nat.le_of_ble_eq_true rfl⟩ wk4_22 dX9_placeFrom_22 ?_
      refine pf_X9_52 hC hw dX9_placeFrom_25 (fun H locs hw => ?_)
      have hw : Wst E (XW E a) (sr σ 0 (upd (σ 0) 11 ((if (bcx us) < (nI b) then (bcx us) else (nI b))))) A s.heap H locs := hw
      refine hret _ _ _ _ _ hw ?_ dX9_placeFrom_28
      have hkf : 3 = fm := by omega
      have hq9 : (if (bcx us) < (nI b) then (bcx us) else (nI b)) = nI (if pcq pp 3 < b then pcq pp 3 else b) := by rw [hus, pcq_bc (hfea.lt hnh)]; exact ifn_min (by omega) (pcn_le 10)
      rw [hq9]
      have hfea9 : Fea E0 F fm P0 nh nj pp fm := by have h9 := hfea; rw [hkf] at h9; exact h9
      refine ⟨σ 16, σ 17, σ 18, σ 19, σ 20, σ 21, if pcq pp 3 < b then pcq pp 3 else b, hFS, ⟨by split <;> omega, ?_⟩, fun q hq hp => ?_, ?_⟩
      · by_cases z : pcq pp 3 < b
        · rw [if_pos z]; exact Or.inr ⟨pp, hfea9, by rw [← hkf]⟩
        · rw [if_neg z]; exact Or.inl rfl
      · rw [pcq_congr (p := q) (q := pp) (fun i hi => hp i (by omega)), ← hkf]; split <;> omega
      · show sr σ 0 (upd (σ 0) 11 (nI (if pcq pp 3 < b then pcq pp 3 else b))) = sr (sr (sr (sr (sr (sr (sr σ 16 (σ 16)) 17 (σ 17)) 18 (σ 18)) 19 (σ 19)) 20 (σ 20)) 21 (σ 21)) 0 (upd (σ 0) 11 (nI (if pcq pp 3 < b then pcq pp 3 else b)))
        funext j_ x_
        by_cases e0 : j_ = 0
        · subst e0
          by_cases y11 : x_ = 11
          · subst y11; rfl
          · simp [sr, upd, y11]
        · by_cases e16 : j_ = 16
          · subst e16; rfl
          · by_cases e17 : j_ = 17
            · subst e17; rfl
            · by_cases e18 : j_ = 18
              · subst e18; rfl
              · by_cases e19 : j_ = 19
                · subst e19; rfl
                · by_cases e20 : j_ = 20
                  · subst e20; rfl
                  · by_cases e21 : j_ = 21
                    · subst e21; rfl
                    · simp only [sr, e0, e16, e17, e18, e19, e20, e21, if_false]
set_option maxHeartbeats 4000000 in
set_option maxRecDepth 100000 in
theorem tX9_placeFrom_k2 (l : Launch) (E : EV) (a : Nat → Nat) (σ : St) (nh : Nat) (nj : Nat) (E0 : St) (fm : Nat) (F : Nat → Nat) (P0 : Nat → Int32) (pp : Nat → Nat) (b : Nat) (us : Int32) (hN : cN2 σ nh nj) (hE : aE σ E0) (hS : cS E0 nh nj) (hFS : FSr E0 (pP F P0 (cut pp 2) fm) nh nj (σ 16) (σ 17) (σ 18) (σ 19) (σ 20) (σ 21)) (hm : σ 0 10 = nI fm) (hm5 : fm ≤ 5) (hkm : 2 ≤ fm) (hF : ∀ i, i < fm → σ 29 i = nI (F i) ∧ F i < nj) (hFk : Fok F fm nj) (hfea : Fea E0 F fm P0 nh nj pp 2) (hb : σ 0 11 = nI b) (hb11 : b ≤ 11) (hus : us = bitsC pp 2) : MV l E (XW E a) yX9_placeFrom (Cond.code yX9_placeFrom cX9_placeFrom 6 none) ({ frames := 6, cells := 0, slots := 0, locals := 148 }) [.ref (a 70), .int (nI 2), .int (us)] σ (fun u_ => ∃ (b16 b17 b18 b19 b20 b21 : Nat → Int32) (b9 : Nat), FSr E0 (pP F P0 (cut pp 2) fm) nh nj b16 b17 b18 b19 b20 b21 ∧ LB E0 F fm P0 nh nj b b9 ∧ NB E0 F fm P0 nh nj pp 2 b9 ∧ u_ = sr (sr (sr (sr (sr (sr (sr σ 16 b16) 17 b17) 18 b18) 19 b19) 20 b20) 21 b21) 0 (upd (σ 0) 11 (nI b9))) := by
  refine MV.mk (by decide +kernel) (Nat.le_of_ble_eq_true rfl) ?_
  intro p e s m args below meth c ls A Q hret hC hw hl
  have hC : Cxt E p s m args meth c cX9_placeFrom 6 none RX9 A := hC
  have hl : lv_has ls 6 [(0, .ref (a 70)), (1, .int (nI 2)), (2, .int (us))] := hl
  have hnh := hS.1
  have hnj := hS.2.1
  refine lv_iload_n hC.1 hC.2.1 dX9_placeFrom_0 rfl (lv_at hl 1 rfl) ?_
  refine lv_iconst (v := nI 5) hC.1 hC.2.1 dX9_placeFrom_1 (by decide) ?_
  refine q_cmpge hC 13 (cNle (by omega) (by omega)) dX9_placeFrom_2 (by decide) (fun (c1 : 5 ≤ 2) => ?_) (fun (c1 : 2 < 5) => ?_)
  · refine lv_aload_n hC.1 hC.2.1 dX9_placeFrom_13 rfl (lv_at hl 0 rfl) ?_
    refine lv_aload_n hC.1 hC.2.1 dX9_placeFrom_14 rfl (lv_at hl 0 rfl) ?_
    refine gf_X9_52 (v := nI b) hC hw hb dX9_placeFrom_15 ?_
    refine lv_iload_n hC.1 hC.2.1 dX9_placeFrom_18 rfl (lv_at hl 2 rfl) ?_
    refine q_callSp (As := [.int (us)]) (rest := [.int (nI b), .ref (a 70)]) hC hw hl (tJ6_bitCount_0f7a4 l E a σ us) (q_cwS hC.2.2.2.2.1 ⟨rfl, rfl⟩ wk4_33 wk4_34 wk1_16 wk4_35 hd_J6_bitCount_0f7a4.2 ⟨Nat.le_of_ble_eq_true rfl, Nat.le_of_ble_eq_true rfl⟩) rfl rfl (Nat.le_of_ble_eq_true rfl) dX9_placeFrom_19 (fun H locs hw => ?_)
    refine q_min (x := nI b) (y := bcx us) hC hl ⟨Nat.le_of_ble_eq_true rfl, Nat.le_of_ble_eq_true rfl⟩ wk4_22 dX9_placeFrom_22 ?_
    refine pf_X9_52 hC hw dX9_placeFrom_25 (fun H locs hw => ?_)
    have hw : Wst E (XW E a) (sr σ 0 (upd (σ 0) 11 ((if (bcx us) < (nI b) then (bcx us) else (nI b))))) A s.heap H locs := hw
    refine hret _ _ _ _ _ hw ?_ dX9_placeFrom_28
    have hkf : 2 = fm := by omega
    have hq9 : (if (bcx us) < (nI b) then (bcx us) else (nI b)) = nI (if pcq pp 2 < b then pcq pp 2 else b) := by rw [hus, pcq_bc (hfea.lt hnh)]; exact ifn_min (by omega) (pcn_le 10)
    rw [hq9]
    have hfea9 : Fea E0 F fm P0 nh nj pp fm := by have h9 := hfea; rw [hkf] at h9; exact h9
    refine ⟨σ 16, σ 17, σ 18, σ 19, σ 20, σ 21, if pcq pp 2 < b then pcq pp 2 else b, hFS, ⟨by split <;> omega, ?_⟩, fun q hq hp => ?_, ?_⟩
    · by_cases z : pcq pp 2 < b
      · rw [if_pos z]; exact Or.inr ⟨pp, hfea9, by rw [← hkf]⟩
      · rw [if_neg z]; exact Or.inl rfl
    · rw [pcq_congr (p := q) (q := pp) (fun i hi => hp i (by omega)), ← hkf]; split <;> omega
    · show sr σ 0 (upd (σ 0) 11 (nI (if pcq pp 2 < b then pcq pp 2 else b))) = sr (sr (sr (sr (sr (sr (sr σ 16 (σ 16)) 17 (σ 17)) 18 (σ 18)) 19 (σ 19)) 20 (σ 20)) 21 (σ 21)) 0 (upd (σ 0) 11 (nI (if pcq pp 2 < b then pcq pp 2 else b)))
      funext j_ x_
      by_cases e0 : j_ = 0
      · subst e0
        by_cases y11 : x_ = 11
        · subst y11; rfl
        · simp [sr, upd, y11]
      · by_cases e16 : j_ = 16
        · subst e16; rfl
        · by_cases e17 : j_ = 17
          · subst e17; rfl
          · by_cases e18 : j_ = 18
            · subst e18; rfl
            · by_cases e19 : j_ = 19
              · subst e19; rfl
              · by_cases e20 : j_ = 20
                · subst e20; rfl
                · by_cases e21 : j_ = 21
                  · subst e21; rfl
                  · simp only [sr, e0, e16, e17, e18, e19, e20, e21, if_false]
  · refine lv_iload_n hC.1 hC.2.1 dX9_placeFrom_5 rfl (lv_at hl 1 rfl) ?_
    refine lv_aload_n hC.1 hC.2.1 dX9_placeFrom_6 rfl (lv_at hl 0 rfl) ?_
    refine gf_X9_42 (v := nI fm) hC hw hm dX9_placeFrom_7 ?_
    refine q_cmplt hC 29 (cNlt (by omega) (by omega)) dX9_placeFrom_10 (by decide) (fun (c5 : 2 < fm) => ?_) (fun (c5 : fm ≤ 2) => ?_)
    · refine lv_aload_n hC.1 hC.2.1 dX9_placeFrom_29 rfl (lv_at hl 0 rfl) ?_
      refine gf_X9_9 hC hw dX9_placeFrom_30 ?_
      refine lv_iload_n hC.1 hC.2.1 dX9_placeFrom_33 rfl (lv_at hl 1 rfl) ?_
      have hFx := (hF 2 (by omega)).2
      refine al_X29 (v := nI (F 2)) hC hw (by omega) (hF 2 (by omega)).1 dX9_placeFrom_34 ?_
      refine lv_istore_n (lv' := [(3, .int (nI (F 2))), (0, .ref (a 70)), (1, .int (nI 2)), (2, .int (us))]) hC.1 hC.2.1 dX9_placeFrom_35 rfl hl (by decide) rfl (fun ls hl => ?_)
      refine lv_iconst (v := nI 0) hC.1 hC.2.1 dX9_placeFrom_36 (by decide) ?_
      refine lv_istore (lv' := [(4, .int (nI 0)), (3, .int (nI (F 2))), (0, .ref (a 70)), (1, .int (nI 2)), (2, .int (us))]) hC.1 hC.2.1 dX9_placeFrom_37 hl (by decide) rfl (fun ls hl => ?_)
      have L39_5 : ∀ (n : Nat), ∀ (h : Nat), ∀ (d16 : Nat → Int32), ∀ (d17 : Nat → Int32), ∀ (d18 : Nat → Int32), ∀ (d19 : Nat → Int32), ∀ (d20 : Nat → Int32), ∀ (d21 : Nat → Int32), ∀ (bb : Nat), (h ≤ nh) → (FSr E0 (pP F P0 (cut pp 2) fm) nh nj d16 d17 d18 d19 d20 d21) → (LB E0 F fm P0 nh nj b bb) → (NH E0 F fm P0 nh nj pp 2 h bb) → (nh - h) < n → ∀ (H : Heap) (locs : List Loc) (ls : Array Slot), Wst E (XW E a) (sr (sr (sr (sr (sr (sr (sr σ 16 (d16)) 17 (d17)) 18 (d18)) 19 (d19)) 20 (d20)) 21 (d21)) 0 (upd (σ 0) 11 (nI bb))) A s.heap H locs → lv_has ls 6 [(0, .ref (a 70)), (1, .int (nI 2)), (2, .int (us)), (3, .int (nI (F 2))), (4, .int (nI h))] → W p l e ({ frames := 6, cells := 0, slots := 0, locals := 148 }) s m args below meth c H locs 0 0 Q (F0 m 39 ls []) := by
        intro n
        induction n with
        | zero => intro h d16 d17 d18 d19 d20 d21 bb hh hF0 hLB hNH hn; exact absurd hn (Nat.not_lt_zero _)
        | succ n ih39 =>
          intro h d16 d17 d18 d19 d20 d21 bb hh hF0 hLB hNH hn39 H locs ls hw hl
          have hbb9 := hLB.1
          refine lv_iload hC.1 hC.2.1 dX9_placeFrom_39 (lv_at hl 4 rfl) ?_
          refine lv_aload_n hC.1 hC.2.1 dX9_placeFrom_41 rfl (lv_at hl 0 rfl) ?_
          refine gf_X9_15 hC hw dX9_placeFrom_42 ?_
          refine gf_X9_68 hC hw dX9_placeFrom_45 ?_
          refine gf_X9_72 (v := nI nh) hC hw hN.1 dX9_placeFrom_48 ?_
          refine q_cmpge hC 124 (cNle (by omega) (by omega)) dX9_placeFrom_51 (by decide) (fun (c7 : nh ≤ h) => ?_) (fun (c7 : h < nh) => ?_)
          · refine hret _ _ _ _ _ hw ?_ dX9_placeFrom_124
            have hh9 : h = nh := by omega
            rw [hh9] at hNH
            exact ⟨d16, d17, d18, d19, d20, d21, bb, hF0, hLB, NB.of hNH (by omega), rfl⟩
          · refine lv_iload_n hC.1 hC.2.1 dX9_placeFrom_54 rfl (lv_at hl 2 rfl) ?_
            refine lv_iconst (v := nI 1) hC.1 hC.2.1 dX9_placeFrom_55 (by decide) ?_
            refine lv_iload hC.1 hC.2.1 dX9_placeFrom_56 (lv_at hl 4 rfl) ?_
            refine lv_ishl hC.1 hC.2.1 dX9_placeFrom_58 ?_
            refine lv_ior hC.1 hC.2.1 dX9_placeFrom_59 ?_
            refine q_top (y := bitsC (pu pp 2 h) (2 + 1)) (by rw [hus]; exact bitsC_s) ?_
            refine lv_istore (lv' := [(5, .int (bitsC (pu pp 2 h) (2 + 1))), (0, .ref (a 70)), (1, .int (nI 2)), (2, .int (us)), (3, .int (nI (F 2))), (4, .int (nI h))]) hC.1 hC.2.1 dX9_placeFrom_60 hl (by decide) rfl (fun ls hl => ?_)
            refine lv_iload hC.1 hC.2.1 dX9_placeFrom_62 (lv_at hl 0 rfl) ?_
            refine q_callSp (As := [.int (bitsC (pu pp 2 h) (2 + 1))]) (rest := []) hC hw hl (tJ6_bitCount_0f7a4 l E a (sr (sr (sr (sr (sr (sr (sr σ 16 (d16)) 17 (d17)) 18 (d18)) 19 (d19)) 20 (d20)) 21 (d21)) 0 (upd (σ 0) 11 (nI bb))) (bitsC (pu pp 2 h) (2 + 1))) (q_cwS hC.2.2.2.2.1 ⟨rfl, rfl⟩ wk4_33 wk4_34 wk1_16 wk4_35 hd_J6_bitCount_0f7a4.2 ⟨Nat.le_of_ble_eq_true rfl, Nat.le_of_ble_eq_true rfl⟩) rfl rfl (Nat.le_of_ble_eq_true rfl) dX9_placeFrom_64 (fun H locs hw => ?_)
            refine q_top (y := nI (pcq (pu pp 2 h) (2 + 1))) (pcq_bc (pu_lt (hfea.lt hnh) (show h < 10 by omega))) ?_
            have hpq : pcq (pu pp 2 h) (2 + 1) ≤ 10 := pcn_le 10
            refine lv_aload_n hC.1 hC.2.1 dX9_placeFrom_67 rfl (lv_at hl 1 rfl) ?_
            refine gf_X9_52 (v := nI bb) hC hw rfl dX9_placeFrom_68 ?_
            refine q_cmpge hC 118 (cNle (by omega) (by omega)) dX9_placeFrom_71 (by decide) (fun (c11 : bb ≤ (pcq (pu pp 2 h) (2 + 1))) => ?_) (fun (c11 : (pcq (pu pp 2 h) (2 + 1)) < bb) => ?_)
            · refine lv_iinc (v := nI (h + 1)) (lv' := [(4, .int (nI (h + 1))), (5, .int (bitsC (pu pp 2 h) (2 + 1))), (0, .ref (a 70)), (1, .int (nI 2)), (2, .int (us)), (3, .int (nI (F 2)))]) hC.1 hC.2.1 dX9_placeFrom_118 hl (k := 5) rfl (nI_add _ _) (by decide) rfl (fun ls hl => ?_)
              refine lv_goto (tgt := 39) hC.1 hC.2.1 dX9_placeFrom_121 (by decide) ?_
              have hNH2 : NH E0 F fm P0 nh nj pp 2 (h + 1) bb := hNH.next (nb_prune (by omega) c11)
              have hLB2 := hLB
              have hF2 := hF0
              exact ih39 (h + 1) d16 d17 d18 d19 d20 d21 bb (by omega) hF2 hLB2 hNH2 (by omega) _ _ _ hw (lv_sub hl [2, 3, 4, 5, 0] rfl)
            · refine lv_aload_n hC.1 hC.2.1 dX9_placeFrom_74 rfl (lv_at hl 1 rfl) ?_
              refine gf_X9_15 hC hw dX9_placeFrom_75 ?_
              refine lv_iload_n hC.1 hC.2.1 dX9_placeFrom_78 rfl (lv_at hl 4 rfl) ?_
              refine lv_iload hC.1 hC.2.1 dX9_placeFrom_79 (lv_at hl 5 rfl) ?_
              refine q_callVp (As := [.int (nI (F 2)), .int (nI h)]) (rest := []) (q0 := 5) hC hw hl (tX4_fits l E a (sr (sr (sr (sr (sr (sr (sr σ 16 (d16)) 17 (d17)) 18 (d18)) 19 (d19)) 20 (d20)) 21 (d21)) 0 (upd (σ 0) 11 (nI bb))) nh nj E0 (pP F P0 (cut pp 2) fm) (F 2) h hN hE hS hF0 hFx (show h < nh by omega)) (q_cwV hC.2.2.2.2.1 ⟨rfl, rfl⟩ wk4_39 wk3_37 wk3_38 wk1_4 wk3_39 hd_X4_fits ⟨Nat.le_of_ble_eq_true rfl, Nat.le_of_ble_eq_true rfl⟩) rfl rfl rfl rfl rfl (Nat.le_of_ble_eq_true rfl) dX9_placeFrom_81 (fun H locs hw => ?_)
              refine q_ifeq hC 118 cB dX9_placeFrom_84 (by decide) (fun (c15 : ¬ (m_why E0 (pP F P0 (cut pp 2) fm) nh nj (F 2) h = 0)) => ?_) (fun (c15 : m_why E0 (pP F P0 (cut pp 2) fm) nh nj (F 2) h = 0) => ?_)
              · refine lv_iinc (v := nI (h + 1)) (lv' := [(4, .int (nI (h + 1))), (5, .int (bitsC (pu pp 2 h) (2 + 1))), (0, .ref (a 70)), (1, .int (nI 2)), (2, .int (us)), (3, .int (nI (F 2)))]) hC.1 hC.2.1 dX9_placeFrom_118 hl (k := 5) rfl (nI_add _ _) (by decide) rfl (fun ls hl => ?_)
                refine lv_goto (tgt := 39) hC.1 hC.2.1 dX9_placeFrom_121 (by decide) ?_
                have hNH2 : NH E0 F fm P0 nh nj pp 2 (h + 1) bb := hNH.next (nb_nofit (by omega) (fun q => c15 ((fit_cut hFk (by omega)).mpr q)))
                have hLB2 := hLB
                have hF2 := hF0
                exact ih39 (h + 1) d16 d17 d18 d19 d20 d21 bb (by omega) hF2 hLB2 hNH2 (by omega) _ _ _ hw (lv_sub hl [2, 3, 4, 5, 0] rfl)
              · refine lv_aload_n hC.1 hC.2.1 dX9_placeFrom_87 rfl (lv_at hl 1 rfl) ?_
                refine gf_X9_15 hC hw dX9_placeFrom_88 ?_
                refine lv_iload_n hC.1 hC.2.1 dX9_placeFrom_91 rfl (lv_at hl 4 rfl) ?_
                refine lv_iload hC.1 hC.2.1 dX9_placeFrom_92 (lv_at hl 5 rfl) ?_
                refine lv_iconst (v := nI 1) hC.1 hC.2.1 dX9_placeFrom_94 (by decide) ?_
                refine q_callVv (As := [.int (nI (F 2)), .int (nI h), .int (nI 1)]) (rest := []) (q0 := 5) hC hw hl (tX4_tally l E a (sr (sr (sr (sr (sr (sr (sr σ 16 (d16)) 17 (d17)) 18 (d18)) 19 (d19)) 20 (d20)) 21 (d21)) 0 (upd (σ 0) 11 (nI bb))) nh nj E0 (pP F P0 (cut pp 2) fm) (pP F P0 (cut (pu pp 2 h) (2 + 1)) fm) (F 2) h 1 hN hE hS hF0 (cut_TL hFk (show 2 < fm by omega) (show h < 10 by omega)) hFx (show h < nh by omega)) (q_cwV hC.2.2.2.2.1 ⟨rfl, rfl⟩ wk4_29 wk2_201 wk2_202 wk1_4 wk2_203 hd_X4_tally ⟨Nat.le_of_ble_eq_true rfl, Nat.le_of_ble_eq_true rfl⟩) rfl rfl rfl rfl rfl (Nat.le_of_ble_eq_true rfl) dX9_placeFrom_95 (fun u18 H locs p16 hw => ?_)
                obtain ⟨b16_19, b17_20, b18_21, b19_22, b20_23, b21_24, hFu18, huu18⟩ := p16
                subst huu18
                have hst_ : sr (sr (sr (sr (sr (sr (sr (sr (sr (sr (sr (sr (sr σ 16 (d16)) 17 (d17)) 18 (d18)) 19 (d19)) 20 (d20)) 21 (d21)) 0 (upd (σ 0) 11 (nI bb))) 16 b16_19) 17 b17_20) 18 b18_21) 19 b19_22) 20 b20_23) 21 b21_24 = sr (sr (sr (sr (sr (sr (sr σ 16 (b16_19)) 17 (b17_20)) 18 (b18_21)) 19 (b19_22)) 20 (b20_23)) 21 (b21_24)) 0 (upd (σ 0) 11 (nI bb)) := by
                  funext j_ x_
                  by_cases e0 : j_ = 0
                  · subst e0
                    by_cases y11 : x_ = 11
                    · subst y11; rfl
                    · simp [sr, upd, y11]
                  · by_cases e16 : j_ = 16
                    · subst e16; rfl
                    · by_cases e17 : j_ = 17
                      · subst e17; rfl
                      · by_cases e18 : j_ = 18
                        · subst e18; rfl
                        · by_cases e19 : j_ = 19
                          · subst e19; rfl
                          · by_cases e20 : j_ = 20
                            · subst e20; rfl
                            · by_cases e21 : j_ = 21
                              · subst e21; rfl
                              · simp only [sr, e0, e16, e17, e18, e19, e20, e21, if_false]
                rw [hst_] at hw
                refine lv_aload_n hC.1 hC.2.1 dX9_placeFrom_98 rfl (lv_at hl 1 rfl) ?_
                refine lv_iload_n hC.1 hC.2.1 dX9_placeFrom_99 rfl (lv_at hl 2 rfl) ?_
                refine lv_iconst (v := nI 1) hC.1 hC.2.1 dX9_placeFrom_100 (by decide) ?_
                refine q_addN hC dX9_placeFrom_101 ?_
                refine lv_iload hC.1 hC.2.1 dX9_placeFrom_102 (lv_at hl 0 rfl) ?_
                refine q_callSv (As := [.ref (a 70), .int (nI (2 + 1)), .int (bitsC (pu pp 2 h) (2 + 1))]) (rest := []) hC hw hl (tX9_placeFrom_k3 l E a (sr (sr (sr (sr (sr (sr (sr σ 16 (b16_19)) 17 (b17_20)) 18 (b18_21)) 19 (b19_22)) 20 (b20_23)) 21 (b21_24)) 0 (upd (σ 0) 11 (nI bb))) nh nj E0 fm F P0 (pu pp 2 h) bb (bitsC (pu pp 2 h) (2 + 1)) hN hE hS hFu18 hm hm5 (by omega) hF hFk (hfea.s (show h < nh by omega) ((fit_cut hFk (by omega)).mp c15)) rfl (by omega) rfl) (q_cwS hC.2.2.2.2.1 ⟨rfl, rfl⟩ wk4_30 wk4_31 wk1_10 wk4_32 hd_X9_placeFrom.2 ⟨Nat.le_of_ble_eq_true rfl, Nat.le_of_ble_eq_true rfl⟩) rfl rfl (Nat.le_of_ble_eq_true rfl) dX9_placeFrom_104 (fun u27 H locs p25 hw => ?_)
                obtain ⟨b16_28, b17_29, b18_30, b19_31, b20_32, b21_33, bq34, hFu27, hLu27, hBu27, huu27⟩ := p25
                subst huu27
                have hst_ : sr (sr (sr (sr (sr (sr (sr (sr (sr (sr (sr (sr (sr (sr σ 16 (b16_19)) 17 (b17_20)) 18 (b18_21)) 19 (b19_22)) 20 (b20_23)) 21 (b21_24)) 0 (upd (σ 0) 11 (nI bb))) 16 b16_28) 17 b17_29) 18 b18_30) 19 b19_31) 20 b20_32) 21 b21_33) 0 (upd ((sr (sr (sr (sr (sr (sr (sr σ 16 (b16_19)) 17 (b17_20)) 18 (b18_21)) 19 (b19_22)) 20 (b20_23)) 21 (b21_24)) 0 (upd (σ 0) 11 (nI bb))) 0) 11 (nI bq34)) = sr (sr (sr (sr (sr (sr (sr σ 16 (b16_28)) 17 (b17_29)) 18 (b18_30)) 19 (b19_31)) 20 (b20_32)) 21 (b21_33)) 0 (upd (σ 0) 11 (nI bq34)) := by
                  funext j_ x_
                  by_cases e0 : j_ = 0
                  · subst e0
                    by_cases y11 : x_ = 11
                    · subst y11; rfl
                    · simp [sr, upd, y11]
                  · by_cases e16 : j_ = 16
                    · subst e16; rfl
                    · by_cases e17 : j_ = 17
                      · subst e17; rfl
                      · by_cases e18 : j_ = 18
                        · subst e18; rfl
                        · by_cases e19 : j_ = 19
                          · subst e19; rfl
                          · by_cases e20 : j_ = 20
                            · subst e20; rfl
                            · by_cases e21 : j_ = 21
                              · subst e21; rfl
                              · simp only [sr, e0, e16, e17, e18, e19, e20, e21, if_false]
                rw [hst_] at hw
                refine lv_aload_n hC.1 hC.2.1 dX9_placeFrom_107 rfl (lv_at hl 1 rfl) ?_
                refine gf_X9_15 hC hw dX9_placeFrom_108 ?_
                refine lv_iload_n hC.1 hC.2.1 dX9_placeFrom_111 rfl (lv_at hl 4 rfl) ?_
                refine lv_iload hC.1 hC.2.1 dX9_placeFrom_112 (lv_at hl 5 rfl) ?_
                refine lv_iconst (v := (-1)) hC.1 hC.2.1 dX9_placeFrom_114 (by decide) ?_
                have hL9 := hLu27
                have hB9 := hBu27
                refine q_callVv (As := [.int (nI (F 2)), .int (nI h), .int ((-1))]) (rest := []) (q0 := 5) hC hw hl (tX4_tally l E a (sr (sr (sr (sr (sr (sr (sr σ 16 (b16_28)) 17 (b17_29)) 18 (b18_30)) 19 (b19_31)) 20 (b20_32)) 21 (b21_33)) 0 (upd (σ 0) 11 (nI bq34))) nh nj E0 (pP F P0 (cut (pu pp 2 h) (2 + 1)) fm) (pP F P0 (cut pp 2) fm) (F 2) h (-1) hN hE hS hFu27 (cut_TL2 hFk (show 2 < fm by omega) (show h < 10 by omega)) hFx (show h < nh by omega)) (q_cwV hC.2.2.2.2.1 ⟨rfl, rfl⟩ wk4_29 wk2_201 wk2_202 wk1_4 wk2_203 hd_X4_tally ⟨Nat.le_of_ble_eq_true rfl, Nat.le_of_ble_eq_true rfl⟩) rfl rfl rfl rfl rfl (Nat.le_of_ble_eq_true rfl) dX9_placeFrom_115 (fun u37 H locs p35 hw => ?_)
                obtain ⟨b16_38, b17_39, b18_40, b19_41, b20_42, b21_43, hFu37, huu37⟩ := p35
                subst huu37
                have hst_ : sr (sr (sr (sr (sr (sr (sr (sr (sr (sr (sr (sr (sr σ 16 (b16_28)) 17 (b17_29)) 18 (b18_30)) 19 (b19_31)) 20 (b20_32)) 21 (b21_33)) 0 (upd (σ 0) 11 (nI bq34))) 16 b16_38) 17 b17_39) 18 b18_40) 19 b19_41) 20 b20_42) 21 b21_43 = sr (sr (sr (sr (sr (sr (sr σ 16 (b16_38)) 17 (b17_39)) 18 (b18_40)) 19 (b19_41)) 20 (b20_42)) 21 (b21_43)) 0 (upd (σ 0) 11 (nI bq34)) := by
                  funext j_ x_
                  by_cases e0 : j_ = 0
                  · subst e0
                    by_cases y11 : x_ = 11
                    · subst y11; rfl
                    · simp [sr, upd, y11]
                  · by_cases e16 : j_ = 16
                    · subst e16; rfl
                    · by_cases e17 : j_ = 17
                      · subst e17; rfl
                      · by_cases e18 : j_ = 18
                        · subst e18; rfl
                        · by_cases e19 : j_ = 19
                          · subst e19; rfl
                          · by_cases e20 : j_ = 20
                            · subst e20; rfl
                            · by_cases e21 : j_ = 21
                              · subst e21; rfl
                              · simp only [sr, e0, e16, e17, e18, e19, e20, e21, if_false]
                rw [hst_] at hw
                refine lv_iinc (v := nI (h + 1)) (lv' := [(4, .int (nI (h + 1))), (5, .int (bitsC (pu pp 2 h) (2 + 1))), (0, .ref (a 70)), (1, .int (nI 2)), (2, .int (us)), (3, .int (nI (F 2)))]) hC.1 hC.2.1 dX9_placeFrom_118 hl (k := 5) rfl (nI_add _ _) (by decide) rfl (fun ls hl => ?_)
                refine lv_goto (tgt := 39) hC.1 hC.2.1 dX9_placeFrom_121 (by decide) ?_
                have hLB2 := hLB.tr hL9
                have hNH2 : NH E0 F fm P0 nh nj pp 2 (h + 1) bq34 := (hNH.le hL9.1).next (fun q hq hp he => hB9 q hq (pre_pu hp he))
                have hF2 := hFu37
                exact ih39 (h + 1) b16_38 b17_39 b18_40 b19_41 b20_42 b21_43 bq34 (by omega) hF2 hLB2 hNH2 (by omega) _ _ _ hw (lv_sub hl [2, 3, 4, 5, 0] rfl)
      have hst_ : σ = sr (sr (sr (sr (sr (sr (sr σ 16 (σ 16)) 17 (σ 17)) 18 (σ 18)) 19 (σ 19)) 20 (σ 20)) 21 (σ 21)) 0 (upd (σ 0) 11 (σ 0 11)) := by
        funext j_ x_
        by_cases e0 : j_ = 0
        · subst e0
          by_cases y11 : x_ = 11
          · subst y11; rfl
          · simp [sr, upd, y11]
        · by_cases e16 : j_ = 16
          · subst e16; rfl
          · by_cases e17 : j_ = 17
            · subst e17; rfl
            · by_cases e18 : j_ = 18
              · subst e18; rfl
              · by_cases e19 : j_ = 19
                · subst e19; rfl
                · by_cases e20 : j_ = 20
                  · subst e20; rfl
                  · by_cases e21 : j_ = 21
                    · subst e21; rfl
                    · simp only [sr, e0, e16, e17, e18, e19, e20, e21, if_false]
      rw [hst_] at hw
      rw [hb] at hw
      exact L39_5 _ 0 (σ 16) (σ 17) (σ 18) (σ 19) (σ 20) (σ 21) b (Nat.zero_le _) hFS ⟨Nat.le_refl _, Or.inl rfl⟩ (fun q _ _ hk => absurd hk (Nat.not_lt_zero _)) (Nat.lt_succ_self _) _ _ _ hw (lv_sub hl [2, 3, 4, 1, 0] rfl)
    · refine lv_aload_n hC.1 hC.2.1 dX9_placeFrom_13 rfl (lv_at hl 0 rfl) ?_
      refine lv_aload_n hC.1 hC.2.1 dX9_placeFrom_14 rfl (lv_at hl 0 rfl) ?_
      refine gf_X9_52 (v := nI b) hC hw hb dX9_placeFrom_15 ?_
      refine lv_iload_n hC.1 hC.2.1 dX9_placeFrom_18 rfl (lv_at hl 2 rfl) ?_
      refine q_callSp (As := [.int (us)]) (rest := [.int (nI b), .ref (a 70)]) hC hw hl (tJ6_bitCount_0f7a4 l E a σ us) (q_cwS hC.2.2.2.2.1 ⟨rfl, rfl⟩ wk4_33 wk4_34 wk1_16 wk4_35 hd_J6_bitCount_0f7a4.2 ⟨Nat.le_of_ble_eq_true rfl, Nat.le_of_ble_eq_true rfl⟩) rfl rfl (Nat.le_of_ble_eq_true rfl) dX9_placeFrom_19 (fun H locs hw => ?_)
      refine q_min (x := nI b) (y := bcx us) hC hl ⟨Nat.le_of_ble_eq_true rfl, Nat.le_of_ble_eq_true rfl⟩ wk4_22 dX9_placeFrom_22 ?_
      refine pf_X9_52 hC hw dX9_placeFrom_25 (fun H locs hw => ?_)
      have hw : Wst E (XW E a) (sr σ 0 (upd (σ 0) 11 ((if (bcx us) < (nI b) then (bcx us) else (nI b))))) A s.heap H locs := hw
      refine hret _ _ _ _ _ hw ?_ dX9_placeFrom_28
      have hkf : 2 = fm := by omega
      have hq9 : (if (bcx us) < (nI b) then (bcx us) else (nI b)) = nI (if pcq pp 2 < b then pcq pp 2 else b) := by rw [hus, pcq_bc (hfea.lt hnh)]; exact ifn_min (by omega) (pcn_le 10)
      rw [hq9]
      have hfea9 : Fea E0 F fm P0 nh nj pp fm := by have h9 := hfea; rw [hkf] at h9; exact h9
      refine ⟨σ 16, σ 17, σ 18, σ 19, σ 20, σ 21, if pcq pp 2 < b then pcq pp 2 else b, hFS, ⟨by split <;> omega, ?_⟩, fun q hq hp => ?_, ?_⟩
      · by_cases z : pcq pp 2 < b
        · rw [if_pos z]; exact Or.inr ⟨pp, hfea9, by rw [← hkf]⟩
        · rw [if_neg z]; exact Or.inl rfl
      · rw [pcq_congr (p := q) (q := pp) (fun i hi => hp i (by omega)), ← hkf]; split <;> omega
      · show sr σ 0 (upd (σ 0) 11 (nI (if pcq pp 2 < b then pcq pp 2 else b))) = sr (sr (sr (sr (sr (sr (sr σ 16 (σ 16)) 17 (σ 17)) 18 (σ 18)) 19 (σ 19)) 20 (σ 20)) 21 (σ 21)) 0 (upd (σ 0) 11 (nI (if pcq pp 2 < b then pcq pp 2 else b)))
        funext j_ x_
        by_cases e0 : j_ = 0
        · subst e0
          by_cases y11 : x_ = 11
          · subst y11; rfl
          · simp [sr, upd, y11]
        · by_cases e16 : j_ = 16
          · subst e16; rfl
          · by_cases e17 : j_ = 17
            · subst e17; rfl
            · by_cases e18 : j_ = 18
              · subst e18; rfl
              · by_cases e19 : j_ = 19
                · subst e19; rfl
                · by_cases e20 : j_ = 20
                  · subst e20; rfl
                  · by_cases e21 : j_ = 21
                    · subst e21; rfl
                    · simp only [sr, e0, e16, e17, e18, e19, e20, e21, if_false]
set_option maxHeartbeats 4000000 in
set_option maxRecDepth 100000 in
theorem tX9_placeFrom_k1 (l : Launch) (E : EV) (a : Nat → Nat) (σ : St) (nh : Nat) (nj : Nat) (E0 : St) (fm : Nat) (F : Nat → Nat) (P0 : Nat → Int32) (pp : Nat → Nat) (b : Nat) (us : Int32) (hN : cN2 σ nh nj) (hE : aE σ E0) (hS : cS E0 nh nj) (hFS : FSr E0 (pP F P0 (cut pp 1) fm) nh nj (σ 16) (σ 17) (σ 18) (σ 19) (σ 20) (σ 21)) (hm : σ 0 10 = nI fm) (hm5 : fm ≤ 5) (hkm : 1 ≤ fm) (hF : ∀ i, i < fm → σ 29 i = nI (F i) ∧ F i < nj) (hFk : Fok F fm nj) (hfea : Fea E0 F fm P0 nh nj pp 1) (hb : σ 0 11 = nI b) (hb11 : b ≤ 11) (hus : us = bitsC pp 1) : MV l E (XW E a) yX9_placeFrom (Cond.code yX9_placeFrom cX9_placeFrom 6 none) ({ frames := 7, cells := 0, slots := 0, locals := 173 }) [.ref (a 70), .int (nI 1), .int (us)] σ (fun u_ => ∃ (b16 b17 b18 b19 b20 b21 : Nat → Int32) (b9 : Nat), FSr E0 (pP F P0 (cut pp 1) fm) nh nj b16 b17 b18 b19 b20 b21 ∧ LB E0 F fm P0 nh nj b b9 ∧ NB E0 F fm P0 nh nj pp 1 b9 ∧ u_ = sr (sr (sr (sr (sr (sr (sr σ 16 b16) 17 b17) 18 b18) 19 b19) 20 b20) 21 b21) 0 (upd (σ 0) 11 (nI b9))) := by
  refine MV.mk (by decide +kernel) (Nat.le_of_ble_eq_true rfl) ?_
  intro p e s m args below meth c ls A Q hret hC hw hl
  have hC : Cxt E p s m args meth c cX9_placeFrom 6 none RX9 A := hC
  have hl : lv_has ls 6 [(0, .ref (a 70)), (1, .int (nI 1)), (2, .int (us))] := hl
  have hnh := hS.1
  have hnj := hS.2.1
  refine lv_iload_n hC.1 hC.2.1 dX9_placeFrom_0 rfl (lv_at hl 1 rfl) ?_
  refine lv_iconst (v := nI 5) hC.1 hC.2.1 dX9_placeFrom_1 (by decide) ?_
  refine q_cmpge hC 13 (cNle (by omega) (by omega)) dX9_placeFrom_2 (by decide) (fun (c1 : 5 ≤ 1) => ?_) (fun (c1 : 1 < 5) => ?_)
  · refine lv_aload_n hC.1 hC.2.1 dX9_placeFrom_13 rfl (lv_at hl 0 rfl) ?_
    refine lv_aload_n hC.1 hC.2.1 dX9_placeFrom_14 rfl (lv_at hl 0 rfl) ?_
    refine gf_X9_52 (v := nI b) hC hw hb dX9_placeFrom_15 ?_
    refine lv_iload_n hC.1 hC.2.1 dX9_placeFrom_18 rfl (lv_at hl 2 rfl) ?_
    refine q_callSp (As := [.int (us)]) (rest := [.int (nI b), .ref (a 70)]) hC hw hl (tJ6_bitCount_0f7a4 l E a σ us) (q_cwS hC.2.2.2.2.1 ⟨rfl, rfl⟩ wk4_33 wk4_34 wk1_16 wk4_35 hd_J6_bitCount_0f7a4.2 ⟨Nat.le_of_ble_eq_true rfl, Nat.le_of_ble_eq_true rfl⟩) rfl rfl (Nat.le_of_ble_eq_true rfl) dX9_placeFrom_19 (fun H locs hw => ?_)
    refine q_min (x := nI b) (y := bcx us) hC hl ⟨Nat.le_of_ble_eq_true rfl, Nat.le_of_ble_eq_true rfl⟩ wk4_22 dX9_placeFrom_22 ?_
    refine pf_X9_52 hC hw dX9_placeFrom_25 (fun H locs hw => ?_)
    have hw : Wst E (XW E a) (sr σ 0 (upd (σ 0) 11 ((if (bcx us) < (nI b) then (bcx us) else (nI b))))) A s.heap H locs := hw
    refine hret _ _ _ _ _ hw ?_ dX9_placeFrom_28
    have hkf : 1 = fm := by omega
    have hq9 : (if (bcx us) < (nI b) then (bcx us) else (nI b)) = nI (if pcq pp 1 < b then pcq pp 1 else b) := by rw [hus, pcq_bc (hfea.lt hnh)]; exact ifn_min (by omega) (pcn_le 10)
    rw [hq9]
    have hfea9 : Fea E0 F fm P0 nh nj pp fm := by have h9 := hfea; rw [hkf] at h9; exact h9
    refine ⟨σ 16, σ 17, σ 18, σ 19, σ 20, σ 21, if pcq pp 1 < b then pcq pp 1 else b, hFS, ⟨by split <;> omega, ?_⟩, fun q hq hp => ?_, ?_⟩
    · by_cases z : pcq pp 1 < b
      · rw [if_pos z]; exact Or.inr ⟨pp, hfea9, by rw [← hkf]⟩
      · rw [if_neg z]; exact Or.inl rfl
    · rw [pcq_congr (p := q) (q := pp) (fun i hi => hp i (by omega)), ← hkf]; split <;> omega
    · show sr σ 0 (upd (σ 0) 11 (nI (if pcq pp 1 < b then pcq pp 1 else b))) = sr (sr (sr (sr (sr (sr (sr σ 16 (σ 16)) 17 (σ 17)) 18 (σ 18)) 19 (σ 19)) 20 (σ 20)) 21 (σ 21)) 0 (upd (σ 0) 11 (nI (if pcq pp 1 < b then pcq pp 1 else b)))
      funext j_ x_
      by_cases e0 : j_ = 0
      · subst e0
        by_cases y11 : x_ = 11
        · subst y11; rfl
        · simp [sr, upd, y11]
      · by_cases e16 : j_ = 16
        · subst e16; rfl
        · by_cases e17 : j_ = 17
          · subst e17; rfl
          · by_cases e18 : j_ = 18
            · subst e18; rfl
            · by_cases e19 : j_ = 19
              · subst e19; rfl
              · by_cases e20 : j_ = 20
                · subst e20; rfl
                · by_cases e21 : j_ = 21
                  · subst e21; rfl
                  · simp only [sr, e0, e16, e17, e18, e19, e20, e21, if_false]
  · refine lv_iload_n hC.1 hC.2.1 dX9_placeFrom_5 rfl (lv_at hl 1 rfl) ?_
    refine lv_aload_n hC.1 hC.2.1 dX9_placeFrom_6 rfl (lv_at hl 0 rfl) ?_
    refine gf_X9_42 (v := nI fm) hC hw hm dX9_placeFrom_7 ?_
    refine q_cmplt hC 29 (cNlt (by omega) (by omega)) dX9_placeFrom_10 (by decide) (fun (c5 : 1 < fm) => ?_) (fun (c5 : fm ≤ 1) => ?_)
    · refine lv_aload_n hC.1 hC.2.1 dX9_placeFrom_29 rfl (lv_at hl 0 rfl) ?_
      refine gf_X9_9 hC hw dX9_placeFrom_30 ?_
      refine lv_iload_n hC.1 hC.2.1 dX9_placeFrom_33 rfl (lv_at hl 1 rfl) ?_
      have hFx := (hF 1 (by omega)).2
      refine al_X29 (v := nI (F 1)) hC hw (by omega) (hF 1 (by omega)).1 dX9_placeFrom_34 ?_
      refine lv_istore_n (lv' := [(3, .int (nI (F 1))), (0, .ref (a 70)), (1, .int (nI 1)), (2, .int (us))]) hC.1 hC.2.1 dX9_placeFrom_35 rfl hl (by decide) rfl (fun ls hl => ?_)
      refine lv_iconst (v := nI 0) hC.1 hC.2.1 dX9_placeFrom_36 (by decide) ?_
      refine lv_istore (lv' := [(4, .int (nI 0)), (3, .int (nI (F 1))), (0, .ref (a 70)), (1, .int (nI 1)), (2, .int (us))]) hC.1 hC.2.1 dX9_placeFrom_37 hl (by decide) rfl (fun ls hl => ?_)
      have L39_5 : ∀ (n : Nat), ∀ (h : Nat), ∀ (d16 : Nat → Int32), ∀ (d17 : Nat → Int32), ∀ (d18 : Nat → Int32), ∀ (d19 : Nat → Int32), ∀ (d20 : Nat → Int32), ∀ (d21 : Nat → Int32), ∀ (bb : Nat), (h ≤ nh) → (FSr E0 (pP F P0 (cut pp 1) fm) nh nj d16 d17 d18 d19 d20 d21) → (LB E0 F fm P0 nh nj b bb) → (NH E0 F fm P0 nh nj pp 1 h bb) → (nh - h) < n → ∀ (H : Heap) (locs : List Loc) (ls : Array Slot), Wst E (XW E a) (sr (sr (sr (sr (sr (sr (sr σ 16 (d16)) 17 (d17)) 18 (d18)) 19 (d19)) 20 (d20)) 21 (d21)) 0 (upd (σ 0) 11 (nI bb))) A s.heap H locs → lv_has ls 6 [(0, .ref (a 70)), (1, .int (nI 1)), (2, .int (us)), (3, .int (nI (F 1))), (4, .int (nI h))] → W p l e ({ frames := 7, cells := 0, slots := 0, locals := 173 }) s m args below meth c H locs 0 0 Q (F0 m 39 ls []) := by
        intro n
        induction n with
        | zero => intro h d16 d17 d18 d19 d20 d21 bb hh hF0 hLB hNH hn; exact absurd hn (Nat.not_lt_zero _)
        | succ n ih39 =>
          intro h d16 d17 d18 d19 d20 d21 bb hh hF0 hLB hNH hn39 H locs ls hw hl
          have hbb9 := hLB.1
          refine lv_iload hC.1 hC.2.1 dX9_placeFrom_39 (lv_at hl 4 rfl) ?_
          refine lv_aload_n hC.1 hC.2.1 dX9_placeFrom_41 rfl (lv_at hl 0 rfl) ?_
          refine gf_X9_15 hC hw dX9_placeFrom_42 ?_
          refine gf_X9_68 hC hw dX9_placeFrom_45 ?_
          refine gf_X9_72 (v := nI nh) hC hw hN.1 dX9_placeFrom_48 ?_
          refine q_cmpge hC 124 (cNle (by omega) (by omega)) dX9_placeFrom_51 (by decide) (fun (c7 : nh ≤ h) => ?_) (fun (c7 : h < nh) => ?_)
          · refine hret _ _ _ _ _ hw ?_ dX9_placeFrom_124
            have hh9 : h = nh := by omega
            rw [hh9] at hNH
            exact ⟨d16, d17, d18, d19, d20, d21, bb, hF0, hLB, NB.of hNH (by omega), rfl⟩
          · refine lv_iload_n hC.1 hC.2.1 dX9_placeFrom_54 rfl (lv_at hl 2 rfl) ?_
            refine lv_iconst (v := nI 1) hC.1 hC.2.1 dX9_placeFrom_55 (by decide) ?_
            refine lv_iload hC.1 hC.2.1 dX9_placeFrom_56 (lv_at hl 4 rfl) ?_
            refine lv_ishl hC.1 hC.2.1 dX9_placeFrom_58 ?_
            refine lv_ior hC.1 hC.2.1 dX9_placeFrom_59 ?_
            refine q_top (y := bitsC (pu pp 1 h) (1 + 1)) (by rw [hus]; exact bitsC_s) ?_
            refine lv_istore (lv' := [(5, .int (bitsC (pu pp 1 h) (1 + 1))), (0, .ref (a 70)), (1, .int (nI 1)), (2, .int (us)), (3, .int (nI (F 1))), (4, .int (nI h))]) hC.1 hC.2.1 dX9_placeFrom_60 hl (by decide) rfl (fun ls hl => ?_)
            refine lv_iload hC.1 hC.2.1 dX9_placeFrom_62 (lv_at hl 0 rfl) ?_
            refine q_callSp (As := [.int (bitsC (pu pp 1 h) (1 + 1))]) (rest := []) hC hw hl (tJ6_bitCount_0f7a4 l E a (sr (sr (sr (sr (sr (sr (sr σ 16 (d16)) 17 (d17)) 18 (d18)) 19 (d19)) 20 (d20)) 21 (d21)) 0 (upd (σ 0) 11 (nI bb))) (bitsC (pu pp 1 h) (1 + 1))) (q_cwS hC.2.2.2.2.1 ⟨rfl, rfl⟩ wk4_33 wk4_34 wk1_16 wk4_35 hd_J6_bitCount_0f7a4.2 ⟨Nat.le_of_ble_eq_true rfl, Nat.le_of_ble_eq_true rfl⟩) rfl rfl (Nat.le_of_ble_eq_true rfl) dX9_placeFrom_64 (fun H locs hw => ?_)
            refine q_top (y := nI (pcq (pu pp 1 h) (1 + 1))) (pcq_bc (pu_lt (hfea.lt hnh) (show h < 10 by omega))) ?_
            have hpq : pcq (pu pp 1 h) (1 + 1) ≤ 10 := pcn_le 10
            refine lv_aload_n hC.1 hC.2.1 dX9_placeFrom_67 rfl (lv_at hl 1 rfl) ?_
            refine gf_X9_52 (v := nI bb) hC hw rfl dX9_placeFrom_68 ?_
            refine q_cmpge hC 118 (cNle (by omega) (by omega)) dX9_placeFrom_71 (by decide) (fun (c11 : bb ≤ (pcq (pu pp 1 h) (1 + 1))) => ?_) (fun (c11 : (pcq (pu pp 1 h) (1 + 1)) < bb) => ?_)
            · refine lv_iinc (v := nI (h + 1)) (lv' := [(4, .int (nI (h + 1))), (5, .int (bitsC (pu pp 1 h) (1 + 1))), (0, .ref (a 70)), (1, .int (nI 1)), (2, .int (us)), (3, .int (nI (F 1)))]) hC.1 hC.2.1 dX9_placeFrom_118 hl (k := 5) rfl (nI_add _ _) (by decide) rfl (fun ls hl => ?_)
              refine lv_goto (tgt := 39) hC.1 hC.2.1 dX9_placeFrom_121 (by decide) ?_
              have hNH2 : NH E0 F fm P0 nh nj pp 1 (h + 1) bb := hNH.next (nb_prune (by omega) c11)
              have hLB2 := hLB
              have hF2 := hF0
              exact ih39 (h + 1) d16 d17 d18 d19 d20 d21 bb (by omega) hF2 hLB2 hNH2 (by omega) _ _ _ hw (lv_sub hl [2, 3, 4, 5, 0] rfl)
            · refine lv_aload_n hC.1 hC.2.1 dX9_placeFrom_74 rfl (lv_at hl 1 rfl) ?_
              refine gf_X9_15 hC hw dX9_placeFrom_75 ?_
              refine lv_iload_n hC.1 hC.2.1 dX9_placeFrom_78 rfl (lv_at hl 4 rfl) ?_
              refine lv_iload hC.1 hC.2.1 dX9_placeFrom_79 (lv_at hl 5 rfl) ?_
              refine q_callVp (As := [.int (nI (F 1)), .int (nI h)]) (rest := []) (q0 := 5) hC hw hl (tX4_fits l E a (sr (sr (sr (sr (sr (sr (sr σ 16 (d16)) 17 (d17)) 18 (d18)) 19 (d19)) 20 (d20)) 21 (d21)) 0 (upd (σ 0) 11 (nI bb))) nh nj E0 (pP F P0 (cut pp 1) fm) (F 1) h hN hE hS hF0 hFx (show h < nh by omega)) (q_cwV hC.2.2.2.2.1 ⟨rfl, rfl⟩ wk4_39 wk3_37 wk3_38 wk1_4 wk3_39 hd_X4_fits ⟨Nat.le_of_ble_eq_true rfl, Nat.le_of_ble_eq_true rfl⟩) rfl rfl rfl rfl rfl (Nat.le_of_ble_eq_true rfl) dX9_placeFrom_81 (fun H locs hw => ?_)
              refine q_ifeq hC 118 cB dX9_placeFrom_84 (by decide) (fun (c15 : ¬ (m_why E0 (pP F P0 (cut pp 1) fm) nh nj (F 1) h = 0)) => ?_) (fun (c15 : m_why E0 (pP F P0 (cut pp 1) fm) nh nj (F 1) h = 0) => ?_)
              · refine lv_iinc (v := nI (h + 1)) (lv' := [(4, .int (nI (h + 1))), (5, .int (bitsC (pu pp 1 h) (1 + 1))), (0, .ref (a 70)), (1, .int (nI 1)), (2, .int (us)), (3, .int (nI (F 1)))]) hC.1 hC.2.1 dX9_placeFrom_118 hl (k := 5) rfl (nI_add _ _) (by decide) rfl (fun ls hl => ?_)
                refine lv_goto (tgt := 39) hC.1 hC.2.1 dX9_placeFrom_121 (by decide) ?_
                have hNH2 : NH E0 F fm P0 nh nj pp 1 (h + 1) bb := hNH.next (nb_nofit (by omega) (fun q => c15 ((fit_cut hFk (by omega)).mpr q)))
                have hLB2 := hLB
                have hF2 := hF0
                exact ih39 (h + 1) d16 d17 d18 d19 d20 d21 bb (by omega) hF2 hLB2 hNH2 (by omega) _ _ _ hw (lv_sub hl [2, 3, 4, 5, 0] rfl)
              · refine lv_aload_n hC.1 hC.2.1 dX9_placeFrom_87 rfl (lv_at hl 1 rfl) ?_
                refine gf_X9_15 hC hw dX9_placeFrom_88 ?_
                refine lv_iload_n hC.1 hC.2.1 dX9_placeFrom_91 rfl (lv_at hl 4 rfl) ?_
                refine lv_iload hC.1 hC.2.1 dX9_placeFrom_92 (lv_at hl 5 rfl) ?_
                refine lv_iconst (v := nI 1) hC.1 hC.2.1 dX9_placeFrom_94 (by decide) ?_
                refine q_callVv (As := [.int (nI (F 1)), .int (nI h), .int (nI 1)]) (rest := []) (q0 := 5) hC hw hl (tX4_tally l E a (sr (sr (sr (sr (sr (sr (sr σ 16 (d16)) 17 (d17)) 18 (d18)) 19 (d19)) 20 (d20)) 21 (d21)) 0 (upd (σ 0) 11 (nI bb))) nh nj E0 (pP F P0 (cut pp 1) fm) (pP F P0 (cut (pu pp 1 h) (1 + 1)) fm) (F 1) h 1 hN hE hS hF0 (cut_TL hFk (show 1 < fm by omega) (show h < 10 by omega)) hFx (show h < nh by omega)) (q_cwV hC.2.2.2.2.1 ⟨rfl, rfl⟩ wk4_29 wk2_201 wk2_202 wk1_4 wk2_203 hd_X4_tally ⟨Nat.le_of_ble_eq_true rfl, Nat.le_of_ble_eq_true rfl⟩) rfl rfl rfl rfl rfl (Nat.le_of_ble_eq_true rfl) dX9_placeFrom_95 (fun u18 H locs p16 hw => ?_)
                obtain ⟨b16_19, b17_20, b18_21, b19_22, b20_23, b21_24, hFu18, huu18⟩ := p16
                subst huu18
                have hst_ : sr (sr (sr (sr (sr (sr (sr (sr (sr (sr (sr (sr (sr σ 16 (d16)) 17 (d17)) 18 (d18)) 19 (d19)) 20 (d20)) 21 (d21)) 0 (upd (σ 0) 11 (nI bb))) 16 b16_19) 17 b17_20) 18 b18_21) 19 b19_22) 20 b20_23) 21 b21_24 = sr (sr (sr (sr (sr (sr (sr σ 16 (b16_19)) 17 (b17_20)) 18 (b18_21)) 19 (b19_22)) 20 (b20_23)) 21 (b21_24)) 0 (upd (σ 0) 11 (nI bb)) := by
                  funext j_ x_
                  by_cases e0 : j_ = 0
                  · subst e0
                    by_cases y11 : x_ = 11
                    · subst y11; rfl
                    · simp [sr, upd, y11]
                  · by_cases e16 : j_ = 16
                    · subst e16; rfl
                    · by_cases e17 : j_ = 17
                      · subst e17; rfl
                      · by_cases e18 : j_ = 18
                        · subst e18; rfl
                        · by_cases e19 : j_ = 19
                          · subst e19; rfl
                          · by_cases e20 : j_ = 20
                            · subst e20; rfl
                            · by_cases e21 : j_ = 21
                              · subst e21; rfl
                              · simp only [sr, e0, e16, e17, e18, e19, e20, e21, if_false]
                rw [hst_] at hw
                refine lv_aload_n hC.1 hC.2.1 dX9_placeFrom_98 rfl (lv_at hl 1 rfl) ?_
                refine lv_iload_n hC.1 hC.2.1 dX9_placeFrom_99 rfl (lv_at hl 2 rfl) ?_
                refine lv_iconst (v := nI 1) hC.1 hC.2.1 dX9_placeFrom_100 (by decide) ?_
                refine q_addN hC dX9_placeFrom_101 ?_
                refine lv_iload hC.1 hC.2.1 dX9_placeFrom_102 (lv_at hl 0 rfl) ?_
                refine q_callSv (As := [.ref (a 70), .int (nI (1 + 1)), .int (bitsC (pu pp 1 h) (1 + 1))]) (rest := []) hC hw hl (tX9_placeFrom_k2 l E a (sr (sr (sr (sr (sr (sr (sr σ 16 (b16_19)) 17 (b17_20)) 18 (b18_21)) 19 (b19_22)) 20 (b20_23)) 21 (b21_24)) 0 (upd (σ 0) 11 (nI bb))) nh nj E0 fm F P0 (pu pp 1 h) bb (bitsC (pu pp 1 h) (1 + 1)) hN hE hS hFu18 hm hm5 (by omega) hF hFk (hfea.s (show h < nh by omega) ((fit_cut hFk (by omega)).mp c15)) rfl (by omega) rfl) (q_cwS hC.2.2.2.2.1 ⟨rfl, rfl⟩ wk4_30 wk4_31 wk1_10 wk4_32 hd_X9_placeFrom.2 ⟨Nat.le_of_ble_eq_true rfl, Nat.le_of_ble_eq_true rfl⟩) rfl rfl (Nat.le_of_ble_eq_true rfl) dX9_placeFrom_104 (fun u27 H locs p25 hw => ?_)
                obtain ⟨b16_28, b17_29, b18_30, b19_31, b20_32, b21_33, bq34, hFu27, hLu27, hBu27, huu27⟩ := p25
                subst huu27
                have hst_ : sr (sr (sr (sr (sr (sr (sr (sr (sr (sr (sr (sr (sr (sr σ 16 (b16_19)) 17 (b17_20)) 18 (b18_21)) 19 (b19_22)) 20 (b20_23)) 21 (b21_24)) 0 (upd (σ 0) 11 (nI bb))) 16 b16_28) 17 b17_29) 18 b18_30) 19 b19_31) 20 b20_32) 21 b21_33) 0 (upd ((sr (sr (sr (sr (sr (sr (sr σ 16 (b16_19)) 17 (b17_20)) 18 (b18_21)) 19 (b19_22)) 20 (b20_23)) 21 (b21_24)) 0 (upd (σ 0) 11 (nI bb))) 0) 11 (nI bq34)) = sr (sr (sr (sr (sr (sr (sr σ 16 (b16_28)) 17 (b17_29)) 18 (b18_30)) 19 (b19_31)) 20 (b20_32)) 21 (b21_33)) 0 (upd (σ 0) 11 (nI bq34)) := by
                  funext j_ x_
                  by_cases e0 : j_ = 0
                  · subst e0
                    by_cases y11 : x_ = 11
                    · subst y11; rfl
                    · simp [sr, upd, y11]
                  · by_cases e16 : j_ = 16
                    · subst e16; rfl
                    · by_cases e17 : j_ = 17
                      · subst e17; rfl
                      · by_cases e18 : j_ = 18
                        · subst e18; rfl
                        · by_cases e19 : j_ = 19
                          · subst e19; rfl
                          · by_cases e20 : j_ = 20
                            · subst e20; rfl
                            · by_cases e21 : j_ = 21
                              · subst e21; rfl
                              · simp only [sr, e0, e16, e17, e18, e19, e20, e21, if_false]
                rw [hst_] at hw
                refine lv_aload_n hC.1 hC.2.1 dX9_placeFrom_107 rfl (lv_at hl 1 rfl) ?_
                refine gf_X9_15 hC hw dX9_placeFrom_108 ?_
                refine lv_iload_n hC.1 hC.2.1 dX9_placeFrom_111 rfl (lv_at hl 4 rfl) ?_
                refine lv_iload hC.1 hC.2.1 dX9_placeFrom_112 (lv_at hl 5 rfl) ?_
                refine lv_iconst (v := (-1)) hC.1 hC.2.1 dX9_placeFrom_114 (by decide) ?_
                have hL9 := hLu27
                have hB9 := hBu27
                refine q_callVv (As := [.int (nI (F 1)), .int (nI h), .int ((-1))]) (rest := []) (q0 := 5) hC hw hl (tX4_tally l E a (sr (sr (sr (sr (sr (sr (sr σ 16 (b16_28)) 17 (b17_29)) 18 (b18_30)) 19 (b19_31)) 20 (b20_32)) 21 (b21_33)) 0 (upd (σ 0) 11 (nI bq34))) nh nj E0 (pP F P0 (cut (pu pp 1 h) (1 + 1)) fm) (pP F P0 (cut pp 1) fm) (F 1) h (-1) hN hE hS hFu27 (cut_TL2 hFk (show 1 < fm by omega) (show h < 10 by omega)) hFx (show h < nh by omega)) (q_cwV hC.2.2.2.2.1 ⟨rfl, rfl⟩ wk4_29 wk2_201 wk2_202 wk1_4 wk2_203 hd_X4_tally ⟨Nat.le_of_ble_eq_true rfl, Nat.le_of_ble_eq_true rfl⟩) rfl rfl rfl rfl rfl (Nat.le_of_ble_eq_true rfl) dX9_placeFrom_115 (fun u37 H locs p35 hw => ?_)
                obtain ⟨b16_38, b17_39, b18_40, b19_41, b20_42, b21_43, hFu37, huu37⟩ := p35
                subst huu37
                have hst_ : sr (sr (sr (sr (sr (sr (sr (sr (sr (sr (sr (sr (sr σ 16 (b16_28)) 17 (b17_29)) 18 (b18_30)) 19 (b19_31)) 20 (b20_32)) 21 (b21_33)) 0 (upd (σ 0) 11 (nI bq34))) 16 b16_38) 17 b17_39) 18 b18_40) 19 b19_41) 20 b20_42) 21 b21_43 = sr (sr (sr (sr (sr (sr (sr σ 16 (b16_38)) 17 (b17_39)) 18 (b18_40)) 19 (b19_41)) 20 (b20_42)) 21 (b21_43)) 0 (upd (σ 0) 11 (nI bq34)) := by
                  funext j_ x_
                  by_cases e0 : j_ = 0
                  · subst e0
                    by_cases y11 : x_ = 11
                    · subst y11; rfl
                    · simp [sr, upd, y11]
                  · by_cases e16 : j_ = 16
                    · subst e16; rfl
                    · by_cases e17 : j_ = 17
                      · subst e17; rfl
                      · by_cases e18 : j_ = 18
                        · subst e18; rfl
                        · by_cases e19 : j_ = 19
                          · subst e19; rfl
                          · by_cases e20 : j_ = 20
                            · subst e20; rfl
                            · by_cases e21 : j_ = 21
                              · subst e21; rfl
                              · simp only [sr, e0, e16, e17, e18, e19, e20, e21, if_false]
                rw [hst_] at hw
                refine lv_iinc (v := nI (h + 1)) (lv' := [(4, .int (nI (h + 1))), (5, .int (bitsC (pu pp 1 h) (1 + 1))), (0, .ref (a 70)), (1, .int (nI 1)), (2, .int (us)), (3, .int (nI (F 1)))]) hC.1 hC.2.1 dX9_placeFrom_118 hl (k := 5) rfl (nI_add _ _) (by decide) rfl (fun ls hl => ?_)
                refine lv_goto (tgt := 39) hC.1 hC.2.1 dX9_placeFrom_121 (by decide) ?_
                have hLB2 := hLB.tr hL9
                have hNH2 : NH E0 F fm P0 nh nj pp 1 (h + 1) bq34 := (hNH.le hL9.1).next (fun q hq hp he => hB9 q hq (pre_pu hp he))
                have hF2 := hFu37
                exact ih39 (h + 1) b16_38 b17_39 b18_40 b19_41 b20_42 b21_43 bq34 (by omega) hF2 hLB2 hNH2 (by omega) _ _ _ hw (lv_sub hl [2, 3, 4, 5, 0] rfl)
      have hst_ : σ = sr (sr (sr (sr (sr (sr (sr σ 16 (σ 16)) 17 (σ 17)) 18 (σ 18)) 19 (σ 19)) 20 (σ 20)) 21 (σ 21)) 0 (upd (σ 0) 11 (σ 0 11)) := by
        funext j_ x_
        by_cases e0 : j_ = 0
        · subst e0
          by_cases y11 : x_ = 11
          · subst y11; rfl
          · simp [sr, upd, y11]
        · by_cases e16 : j_ = 16
          · subst e16; rfl
          · by_cases e17 : j_ = 17
            · subst e17; rfl
            · by_cases e18 : j_ = 18
              · subst e18; rfl
              · by_cases e19 : j_ = 19
                · subst e19; rfl
                · by_cases e20 : j_ = 20
                  · subst e20; rfl
                  · by_cases e21 : j_ = 21
                    · subst e21; rfl
                    · simp only [sr, e0, e16, e17, e18, e19, e20, e21, if_false]
      rw [hst_] at hw
      rw [hb] at hw
      exact L39_5 _ 0 (σ 16) (σ 17) (σ 18) (σ 19) (σ 20) (σ 21) b (Nat.zero_le _) hFS ⟨Nat.le_refl _, Or.inl rfl⟩ (fun q _ _ hk => absurd hk (Nat.not_lt_zero _)) (Nat.lt_succ_self _) _ _ _ hw (lv_sub hl [2, 3, 4, 1, 0] rfl)
    · refine lv_aload_n hC.1 hC.2.1 dX9_placeFrom_13 rfl (lv_at hl 0 rfl) ?_
      refine lv_aload_n hC.1 hC.2.1 dX9_placeFrom_14 rfl (lv_at hl 0 rfl) ?_
      refine gf_X9_52 (v := nI b) hC hw hb dX9_placeFrom_15 ?_
      refine lv_iload_n hC.1 hC.2.1 dX9_placeFrom_18 rfl (lv_at hl 2 rfl) ?_
      refine q_callSp (As := [.int (us)]) (rest := [.int (nI b), .ref (a 70)]) hC hw hl (tJ6_bitCount_0f7a4 l E a σ us) (q_cwS hC.2.2.2.2.1 ⟨rfl, rfl⟩ wk4_33 wk4_34 wk1_16 wk4_35 hd_J6_bitCount_0f7a4.2 ⟨Nat.le_of_ble_eq_true rfl, Nat.le_of_ble_eq_true rfl⟩) rfl rfl (Nat.le_of_ble_eq_true rfl) dX9_placeFrom_19 (fun H locs hw => ?_)
      refine q_min (x := nI b) (y := bcx us) hC hl ⟨Nat.le_of_ble_eq_true rfl, Nat.le_of_ble_eq_true rfl⟩ wk4_22 dX9_placeFrom_22 ?_
      refine pf_X9_52 hC hw dX9_placeFrom_25 (fun H locs hw => ?_)
      have hw : Wst E (XW E a) (sr σ 0 (upd (σ 0) 11 ((if (bcx us) < (nI b) then (bcx us) else (nI b))))) A s.heap H locs := hw
      refine hret _ _ _ _ _ hw ?_ dX9_placeFrom_28
      have hkf : 1 = fm := by omega
      have hq9 : (if (bcx us) < (nI b) then (bcx us) else (nI b)) = nI (if pcq pp 1 < b then pcq pp 1 else b) := by rw [hus, pcq_bc (hfea.lt hnh)]; exact ifn_min (by omega) (pcn_le 10)
      rw [hq9]
      have hfea9 : Fea E0 F fm P0 nh nj pp fm := by have h9 := hfea; rw [hkf] at h9; exact h9
      refine ⟨σ 16, σ 17, σ 18, σ 19, σ 20, σ 21, if pcq pp 1 < b then pcq pp 1 else b, hFS, ⟨by split <;> omega, ?_⟩, fun q hq hp => ?_, ?_⟩
      · by_cases z : pcq pp 1 < b
        · rw [if_pos z]; exact Or.inr ⟨pp, hfea9, by rw [← hkf]⟩
        · rw [if_neg z]; exact Or.inl rfl
      · rw [pcq_congr (p := q) (q := pp) (fun i hi => hp i (by omega)), ← hkf]; split <;> omega
      · show sr σ 0 (upd (σ 0) 11 (nI (if pcq pp 1 < b then pcq pp 1 else b))) = sr (sr (sr (sr (sr (sr (sr σ 16 (σ 16)) 17 (σ 17)) 18 (σ 18)) 19 (σ 19)) 20 (σ 20)) 21 (σ 21)) 0 (upd (σ 0) 11 (nI (if pcq pp 1 < b then pcq pp 1 else b)))
        funext j_ x_
        by_cases e0 : j_ = 0
        · subst e0
          by_cases y11 : x_ = 11
          · subst y11; rfl
          · simp [sr, upd, y11]
        · by_cases e16 : j_ = 16
          · subst e16; rfl
          · by_cases e17 : j_ = 17
            · subst e17; rfl
            · by_cases e18 : j_ = 18
              · subst e18; rfl
              · by_cases e19 : j_ = 19
                · subst e19; rfl
                · by_cases e20 : j_ = 20
                  · subst e20; rfl
                  · by_cases e21 : j_ = 21
                    · subst e21; rfl
                    · simp only [sr, e0, e16, e17, e18, e19, e20, e21, if_false]
set_option maxHeartbeats 4000000 in
set_option maxRecDepth 100000 in
theorem tX9_placeFrom_k0 (l : Launch) (E : EV) (a : Nat → Nat) (σ : St) (nh : Nat) (nj : Nat) (E0 : St) (fm : Nat) (F : Nat → Nat) (P0 : Nat → Int32) (pp : Nat → Nat) (b : Nat) (us : Int32) (hN : cN2 σ nh nj) (hE : aE σ E0) (hS : cS E0 nh nj) (hFS : FSr E0 (pP F P0 (cut pp 0) fm) nh nj (σ 16) (σ 17) (σ 18) (σ 19) (σ 20) (σ 21)) (hm : σ 0 10 = nI fm) (hm5 : fm ≤ 5) (hkm : 0 ≤ fm) (hF : ∀ i, i < fm → σ 29 i = nI (F i) ∧ F i < nj) (hFk : Fok F fm nj) (hfea : Fea E0 F fm P0 nh nj pp 0) (hb : σ 0 11 = nI b) (hb11 : b ≤ 11) (hus : us = bitsC pp 0) : MV l E (XW E a) yX9_placeFrom (Cond.code yX9_placeFrom cX9_placeFrom 6 none) ({ frames := 8, cells := 0, slots := 0, locals := 198 }) [.ref (a 70), .int (nI 0), .int (us)] σ (fun u_ => ∃ (b16 b17 b18 b19 b20 b21 : Nat → Int32) (b9 : Nat), FSr E0 (pP F P0 (cut pp 0) fm) nh nj b16 b17 b18 b19 b20 b21 ∧ LB E0 F fm P0 nh nj b b9 ∧ NB E0 F fm P0 nh nj pp 0 b9 ∧ u_ = sr (sr (sr (sr (sr (sr (sr σ 16 b16) 17 b17) 18 b18) 19 b19) 20 b20) 21 b21) 0 (upd (σ 0) 11 (nI b9))) := by
  refine MV.mk (by decide +kernel) (Nat.le_of_ble_eq_true rfl) ?_
  intro p e s m args below meth c ls A Q hret hC hw hl
  have hC : Cxt E p s m args meth c cX9_placeFrom 6 none RX9 A := hC
  have hl : lv_has ls 6 [(0, .ref (a 70)), (1, .int (nI 0)), (2, .int (us))] := hl
  have hnh := hS.1
  have hnj := hS.2.1
  refine lv_iload_n hC.1 hC.2.1 dX9_placeFrom_0 rfl (lv_at hl 1 rfl) ?_
  refine lv_iconst (v := nI 5) hC.1 hC.2.1 dX9_placeFrom_1 (by decide) ?_
  refine q_cmpge hC 13 (cNle (by omega) (by omega)) dX9_placeFrom_2 (by decide) (fun (c1 : 5 ≤ 0) => ?_) (fun (c1 : 0 < 5) => ?_)
  · refine lv_aload_n hC.1 hC.2.1 dX9_placeFrom_13 rfl (lv_at hl 0 rfl) ?_
    refine lv_aload_n hC.1 hC.2.1 dX9_placeFrom_14 rfl (lv_at hl 0 rfl) ?_
    refine gf_X9_52 (v := nI b) hC hw hb dX9_placeFrom_15 ?_
    refine lv_iload_n hC.1 hC.2.1 dX9_placeFrom_18 rfl (lv_at hl 2 rfl) ?_
    refine q_callSp (As := [.int (us)]) (rest := [.int (nI b), .ref (a 70)]) hC hw hl (tJ6_bitCount_0f7a4 l E a σ us) (q_cwS hC.2.2.2.2.1 ⟨rfl, rfl⟩ wk4_33 wk4_34 wk1_16 wk4_35 hd_J6_bitCount_0f7a4.2 ⟨Nat.le_of_ble_eq_true rfl, Nat.le_of_ble_eq_true rfl⟩) rfl rfl (Nat.le_of_ble_eq_true rfl) dX9_placeFrom_19 (fun H locs hw => ?_)
    refine q_min (x := nI b) (y := bcx us) hC hl ⟨Nat.le_of_ble_eq_true rfl, Nat.le_of_ble_eq_true rfl⟩ wk4_22 dX9_placeFrom_22 ?_
    refine pf_X9_52 hC hw dX9_placeFrom_25 (fun H locs hw => ?_)
    have hw : Wst E (XW E a) (sr σ 0 (upd (σ 0) 11 ((if (bcx us) < (nI b) then (bcx us) else (nI b))))) A s.heap H locs := hw
    refine hret _ _ _ _ _ hw ?_ dX9_placeFrom_28
    have hkf : 0 = fm := by omega
    have hq9 : (if (bcx us) < (nI b) then (bcx us) else (nI b)) = nI (if pcq pp 0 < b then pcq pp 0 else b) := by rw [hus, pcq_bc (hfea.lt hnh)]; exact ifn_min (by omega) (pcn_le 10)
    rw [hq9]
    have hfea9 : Fea E0 F fm P0 nh nj pp fm := by have h9 := hfea; rw [hkf] at h9; exact h9
    refine ⟨σ 16, σ 17, σ 18, σ 19, σ 20, σ 21, if pcq pp 0 < b then pcq pp 0 else b, hFS, ⟨by split <;> omega, ?_⟩, fun q hq hp => ?_, ?_⟩
    · by_cases z : pcq pp 0 < b
      · rw [if_pos z]; exact Or.inr ⟨pp, hfea9, by rw [← hkf]⟩
      · rw [if_neg z]; exact Or.inl rfl
    · rw [pcq_congr (p := q) (q := pp) (fun i hi => hp i (by omega)), ← hkf]; split <;> omega
    · show sr σ 0 (upd (σ 0) 11 (nI (if pcq pp 0 < b then pcq pp 0 else b))) = sr (sr (sr (sr (sr (sr (sr σ 16 (σ 16)) 17 (σ 17)) 18 (σ 18)) 19 (σ 19)) 20 (σ 20)) 21 (σ 21)) 0 (upd (σ 0) 11 (nI (if pcq pp 0 < b then pcq pp 0 else b)))
      funext j_ x_
      by_cases e0 : j_ = 0
      · subst e0
        by_cases y11 : x_ = 11
        · subst y11; rfl
        · simp [sr, upd, y11]
      · by_cases e16 : j_ = 16
        · subst e16; rfl
        · by_cases e17 : j_ = 17
          · subst e17; rfl
          · by_cases e18 : j_ = 18
            · subst e18; rfl
            · by_cases e19 : j_ = 19
              · subst e19; rfl
              · by_cases e20 : j_ = 20
                · subst e20; rfl
                · by_cases e21 : j_ = 21
                  · subst e21; rfl
                  · simp only [sr, e0, e16, e17, e18, e19, e20, e21, if_false]
  · refine lv_iload_n hC.1 hC.2.1 dX9_placeFrom_5 rfl (lv_at hl 1 rfl) ?_
    refine lv_aload_n hC.1 hC.2.1 dX9_placeFrom_6 rfl (lv_at hl 0 rfl) ?_
    refine gf_X9_42 (v := nI fm) hC hw hm dX9_placeFrom_7 ?_
    refine q_cmplt hC 29 (cNlt (by omega) (by omega)) dX9_placeFrom_10 (by decide) (fun (c5 : 0 < fm) => ?_) (fun (c5 : fm ≤ 0) => ?_)
    · refine lv_aload_n hC.1 hC.2.1 dX9_placeFrom_29 rfl (lv_at hl 0 rfl) ?_
      refine gf_X9_9 hC hw dX9_placeFrom_30 ?_
      refine lv_iload_n hC.1 hC.2.1 dX9_placeFrom_33 rfl (lv_at hl 1 rfl) ?_
      have hFx := (hF 0 (by omega)).2
      refine al_X29 (v := nI (F 0)) hC hw (by omega) (hF 0 (by omega)).1 dX9_placeFrom_34 ?_
      refine lv_istore_n (lv' := [(3, .int (nI (F 0))), (0, .ref (a 70)), (1, .int (nI 0)), (2, .int (us))]) hC.1 hC.2.1 dX9_placeFrom_35 rfl hl (by decide) rfl (fun ls hl => ?_)
      refine lv_iconst (v := nI 0) hC.1 hC.2.1 dX9_placeFrom_36 (by decide) ?_
      refine lv_istore (lv' := [(4, .int (nI 0)), (3, .int (nI (F 0))), (0, .ref (a 70)), (1, .int (nI 0)), (2, .int (us))]) hC.1 hC.2.1 dX9_placeFrom_37 hl (by decide) rfl (fun ls hl => ?_)
      have L39_5 : ∀ (n : Nat), ∀ (h : Nat), ∀ (d16 : Nat → Int32), ∀ (d17 : Nat → Int32), ∀ (d18 : Nat → Int32), ∀ (d19 : Nat → Int32), ∀ (d20 : Nat → Int32), ∀ (d21 : Nat → Int32), ∀ (bb : Nat), (h ≤ nh) → (FSr E0 (pP F P0 (cut pp 0) fm) nh nj d16 d17 d18 d19 d20 d21) → (LB E0 F fm P0 nh nj b bb) → (NH E0 F fm P0 nh nj pp 0 h bb) → (nh - h) < n → ∀ (H : Heap) (locs : List Loc) (ls : Array Slot), Wst E (XW E a) (sr (sr (sr (sr (sr (sr (sr σ 16 (d16)) 17 (d17)) 18 (d18)) 19 (d19)) 20 (d20)) 21 (d21)) 0 (upd (σ 0) 11 (nI bb))) A s.heap H locs → lv_has ls 6 [(0, .ref (a 70)), (1, .int (nI 0)), (2, .int (us)), (3, .int (nI (F 0))), (4, .int (nI h))] → W p l e ({ frames := 8, cells := 0, slots := 0, locals := 198 }) s m args below meth c H locs 0 0 Q (F0 m 39 ls []) := by
        intro n
        induction n with
        | zero => intro h d16 d17 d18 d19 d20 d21 bb hh hF0 hLB hNH hn; exact absurd hn (Nat.not_lt_zero _)
        | succ n ih39 =>
          intro h d16 d17 d18 d19 d20 d21 bb hh hF0 hLB hNH hn39 H locs ls hw hl
          have hbb9 := hLB.1
          refine lv_iload hC.1 hC.2.1 dX9_placeFrom_39 (lv_at hl 4 rfl) ?_
          refine lv_aload_n hC.1 hC.2.1 dX9_placeFrom_41 rfl (lv_at hl 0 rfl) ?_
          refine gf_X9_15 hC hw dX9_placeFrom_42 ?_
          refine gf_X9_68 hC hw dX9_placeFrom_45 ?_
          refine gf_X9_72 (v := nI nh) hC hw hN.1 dX9_placeFrom_48 ?_
          refine q_cmpge hC 124 (cNle (by omega) (by omega)) dX9_placeFrom_51 (by decide) (fun (c7 : nh ≤ h) => ?_) (fun (c7 : h < nh) => ?_)
          · refine hret _ _ _ _ _ hw ?_ dX9_placeFrom_124
            have hh9 : h = nh := by omega
            rw [hh9] at hNH
            exact ⟨d16, d17, d18, d19, d20, d21, bb, hF0, hLB, NB.of hNH (by omega), rfl⟩
          · refine lv_iload_n hC.1 hC.2.1 dX9_placeFrom_54 rfl (lv_at hl 2 rfl) ?_
            refine lv_iconst (v := nI 1) hC.1 hC.2.1 dX9_placeFrom_55 (by decide) ?_
            refine lv_iload hC.1 hC.2.1 dX9_placeFrom_56 (lv_at hl 4 rfl) ?_
            refine lv_ishl hC.1 hC.2.1 dX9_placeFrom_58 ?_
            refine lv_ior hC.1 hC.2.1 dX9_placeFrom_59 ?_
            refine q_top (y := bitsC (pu pp 0 h) (0 + 1)) (by rw [hus]; exact bitsC_s) ?_
            refine lv_istore (lv' := [(5, .int (bitsC (pu pp 0 h) (0 + 1))), (0, .ref (a 70)), (1, .int (nI 0)), (2, .int (us)), (3, .int (nI (F 0))), (4, .int (nI h))]) hC.1 hC.2.1 dX9_placeFrom_60 hl (by decide) rfl (fun ls hl => ?_)
            refine lv_iload hC.1 hC.2.1 dX9_placeFrom_62 (lv_at hl 0 rfl) ?_
            refine q_callSp (As := [.int (bitsC (pu pp 0 h) (0 + 1))]) (rest := []) hC hw hl (tJ6_bitCount_0f7a4 l E a (sr (sr (sr (sr (sr (sr (sr σ 16 (d16)) 17 (d17)) 18 (d18)) 19 (d19)) 20 (d20)) 21 (d21)) 0 (upd (σ 0) 11 (nI bb))) (bitsC (pu pp 0 h) (0 + 1))) (q_cwS hC.2.2.2.2.1 ⟨rfl, rfl⟩ wk4_33 wk4_34 wk1_16 wk4_35 hd_J6_bitCount_0f7a4.2 ⟨Nat.le_of_ble_eq_true rfl, Nat.le_of_ble_eq_true rfl⟩) rfl rfl (Nat.le_of_ble_eq_true rfl) dX9_placeFrom_64 (fun H locs hw => ?_)
            refine q_top (y := nI (pcq (pu pp 0 h) (0 + 1))) (pcq_bc (pu_lt (hfea.lt hnh) (show h < 10 by omega))) ?_
            have hpq : pcq (pu pp 0 h) (0 + 1) ≤ 10 := pcn_le 10
            refine lv_aload_n hC.1 hC.2.1 dX9_placeFrom_67 rfl (lv_at hl 1 rfl) ?_
            refine gf_X9_52 (v := nI bb) hC hw rfl dX9_placeFrom_68 ?_
            refine q_cmpge hC 118 (cNle (by omega) (by omega)) dX9_placeFrom_71 (by decide) (fun (c11 : bb ≤ (pcq (pu pp 0 h) (0 + 1))) => ?_) (fun (c11 : (pcq (pu pp 0 h) (0 + 1)) < bb) => ?_)
            · refine lv_iinc (v := nI (h + 1)) (lv' := [(4, .int (nI (h + 1))), (5, .int (bitsC (pu pp 0 h) (0 + 1))), (0, .ref (a 70)), (1, .int (nI 0)), (2, .int (us)), (3, .int (nI (F 0)))]) hC.1 hC.2.1 dX9_placeFrom_118 hl (k := 5) rfl (nI_add _ _) (by decide) rfl (fun ls hl => ?_)
              refine lv_goto (tgt := 39) hC.1 hC.2.1 dX9_placeFrom_121 (by decide) ?_
              have hNH2 : NH E0 F fm P0 nh nj pp 0 (h + 1) bb := hNH.next (nb_prune (by omega) c11)
              have hLB2 := hLB
              have hF2 := hF0
              exact ih39 (h + 1) d16 d17 d18 d19 d20 d21 bb (by omega) hF2 hLB2 hNH2 (by omega) _ _ _ hw (lv_sub hl [2, 3, 4, 5, 0] rfl)
            · refine lv_aload_n hC.1 hC.2.1 dX9_placeFrom_74 rfl (lv_at hl 1 rfl) ?_
              refine gf_X9_15 hC hw dX9_placeFrom_75 ?_
              refine lv_iload_n hC.1 hC.2.1 dX9_placeFrom_78 rfl (lv_at hl 4 rfl) ?_
              refine lv_iload hC.1 hC.2.1 dX9_placeFrom_79 (lv_at hl 5 rfl) ?_
              refine q_callVp (As := [.int (nI (F 0)), .int (nI h)]) (rest := []) (q0 := 5) hC hw hl (tX4_fits l E a (sr (sr (sr (sr (sr (sr (sr σ 16 (d16)) 17 (d17)) 18 (d18)) 19 (d19)) 20 (d20)) 21 (d21)) 0 (upd (σ 0) 11 (nI bb))) nh nj E0 (pP F P0 (cut pp 0) fm) (F 0) h hN hE hS hF0 hFx (show h < nh by omega)) (q_cwV hC.2.2.2.2.1 ⟨rfl, rfl⟩ wk4_39 wk3_37 wk3_38 wk1_4 wk3_39 hd_X4_fits ⟨Nat.le_of_ble_eq_true rfl, Nat.le_of_ble_eq_true rfl⟩) rfl rfl rfl rfl rfl (Nat.le_of_ble_eq_true rfl) dX9_placeFrom_81 (fun H locs hw => ?_)
              refine q_ifeq hC 118 cB dX9_placeFrom_84 (by decide) (fun (c15 : ¬ (m_why E0 (pP F P0 (cut pp 0) fm) nh nj (F 0) h = 0)) => ?_) (fun (c15 : m_why E0 (pP F P0 (cut pp 0) fm) nh nj (F 0) h = 0) => ?_)
              · refine lv_iinc (v := nI (h + 1)) (lv' := [(4, .int (nI (h + 1))), (5, .int (bitsC (pu pp 0 h) (0 + 1))), (0, .ref (a 70)), (1, .int (nI 0)), (2, .int (us)), (3, .int (nI (F 0)))]) hC.1 hC.2.1 dX9_placeFrom_118 hl (k := 5) rfl (nI_add _ _) (by decide) rfl (fun ls hl => ?_)
                refine lv_goto (tgt := 39) hC.1 hC.2.1 dX9_placeFrom_121 (by decide) ?_
                have hNH2 : NH E0 F fm P0 nh nj pp 0 (h + 1) bb := hNH.next (nb_nofit (by omega) (fun q => c15 ((fit_cut hFk (by omega)).mpr q)))
                have hLB2 := hLB
                have hF2 := hF0
                exact ih39 (h + 1) d16 d17 d18 d19 d20 d21 bb (by omega) hF2 hLB2 hNH2 (by omega) _ _ _ hw (lv_sub hl [2, 3, 4, 5, 0] rfl)
              · refine lv_aload_n hC.1 hC.2.1 dX9_placeFrom_87 rfl (lv_at hl 1 rfl) ?_
                refine gf_X9_15 hC hw dX9_placeFrom_88 ?_
                refine lv_iload_n hC.1 hC.2.1 dX9_placeFrom_91 rfl (lv_at hl 4 rfl) ?_
                refine lv_iload hC.1 hC.2.1 dX9_placeFrom_92 (lv_at hl 5 rfl) ?_
                refine lv_iconst (v := nI 1) hC.1 hC.2.1 dX9_placeFrom_94 (by decide) ?_
                refine q_callVv (As := [.int (nI (F 0)), .int (nI h), .int (nI 1)]) (rest := []) (q0 := 5) hC hw hl (tX4_tally l E a (sr (sr (sr (sr (sr (sr (sr σ 16 (d16)) 17 (d17)) 18 (d18)) 19 (d19)) 20 (d20)) 21 (d21)) 0 (upd (σ 0) 11 (nI bb))) nh nj E0 (pP F P0 (cut pp 0) fm) (pP F P0 (cut (pu pp 0 h) (0 + 1)) fm) (F 0) h 1 hN hE hS hF0 (cut_TL hFk (show 0 < fm by omega) (show h < 10 by omega)) hFx (show h < nh by omega)) (q_cwV hC.2.2.2.2.1 ⟨rfl, rfl⟩ wk4_29 wk2_201 wk2_202 wk1_4 wk2_203 hd_X4_tally ⟨Nat.le_of_ble_eq_true rfl, Nat.le_of_ble_eq_true rfl⟩) rfl rfl rfl rfl rfl (Nat.le_of_ble_eq_true rfl) dX9_placeFrom_95 (fun u18 H locs p16 hw => ?_)
                obtain ⟨b16_19, b17_20, b18_21, b19_22, b20_23, b21_24, hFu18, huu18⟩ := p16
                subst huu18
                have hst_ : sr (sr (sr (sr (sr (sr (sr (sr (sr (sr (sr (sr (sr σ 16 (d16)) 17 (d17)) 18 (d18)) 19 (d19)) 20 (d20)) 21 (d21)) 0 (upd (σ 0) 11 (nI bb))) 16 b16_19) 17 b17_20) 18 b18_21) 19 b19_22) 20 b20_23) 21 b21_24 = sr (sr (sr (sr (sr (sr (sr σ 16 (b16_19)) 17 (b17_20)) 18 (b18_21)) 19 (b19_22)) 20 (b20_23)) 21 (b21_24)) 0 (upd (σ 0) 11 (nI bb)) := by
                  funext j_ x_
                  by_cases e0 : j_ = 0
                  · subst e0
                    by_cases y11 : x_ = 11
                    · subst y11; rfl
                    · simp [sr, upd, y11]
                  · by_cases e16 : j_ = 16
                    · subst e16; rfl
                    · by_cases e17 : j_ = 17
                      · subst e17; rfl
                      · by_cases e18 : j_ = 18
                        · subst e18; rfl
                        · by_cases e19 : j_ = 19
                          · subst e19; rfl
                          · by_cases e20 : j_ = 20
                            · subst e20; rfl
                            · by_cases e21 : j_ = 21
                              · subst e21; rfl
                              · simp only [sr, e0, e16, e17, e18, e19, e20, e21, if_false]
                rw [hst_] at hw
                refine lv_aload_n hC.1 hC.2.1 dX9_placeFrom_98 rfl (lv_at hl 1 rfl) ?_
                refine lv_iload_n hC.1 hC.2.1 dX9_placeFrom_99 rfl (lv_at hl 2 rfl) ?_
                refine lv_iconst (v := nI 1) hC.1 hC.2.1 dX9_placeFrom_100 (by decide) ?_
                refine q_addN hC dX9_placeFrom_101 ?_
                refine lv_iload hC.1 hC.2.1 dX9_placeFrom_102 (lv_at hl 0 rfl) ?_
                refine q_callSv (As := [.ref (a 70), .int (nI (0 + 1)), .int (bitsC (pu pp 0 h) (0 + 1))]) (rest := []) hC hw hl (tX9_placeFrom_k1 l E a (sr (sr (sr (sr (sr (sr (sr σ 16 (b16_19)) 17 (b17_20)) 18 (b18_21)) 19 (b19_22)) 20 (b20_23)) 21 (b21_24)) 0 (upd (σ 0) 11 (nI bb))) nh nj E0 fm F P0 (pu pp 0 h) bb (bitsC (pu pp 0 h) (0 + 1)) hN hE hS hFu18 hm hm5 (by omega) hF hFk (hfea.s (show h < nh by omega) ((fit_cut hFk (by omega)).mp c15)) rfl (by omega) rfl) (q_cwS hC.2.2.2.2.1 ⟨rfl, rfl⟩ wk4_30 wk4_31 wk1_10 wk4_32 hd_X9_placeFrom.2 ⟨Nat.le_of_ble_eq_true rfl, Nat.le_of_ble_eq_true rfl⟩) rfl rfl (Nat.le_of_ble_eq_true rfl) dX9_placeFrom_104 (fun u27 H locs p25 hw => ?_)
                obtain ⟨b16_28, b17_29, b18_30, b19_31, b20_32, b21_33, bq34, hFu27, hLu27, hBu27, huu27⟩ := p25
                subst huu27
                have hst_ : sr (sr (sr (sr (sr (sr (sr (sr (sr (sr (sr (sr (sr (sr σ 16 (b16_19)) 17 (b17_20)) 18 (b18_21)) 19 (b19_22)) 20 (b20_23)) 21 (b21_24)) 0 (upd (σ 0) 11 (nI bb))) 16 b16_28) 17 b17_29) 18 b18_30) 19 b19_31) 20 b20_32) 21 b21_33) 0 (upd ((sr (sr (sr (sr (sr (sr (sr σ 16 (b16_19)) 17 (b17_20)) 18 (b18_21)) 19 (b19_22)) 20 (b20_23)) 21 (b21_24)) 0 (upd (σ 0) 11 (nI bb))) 0) 11 (nI bq34)) = sr (sr (sr (sr (sr (sr (sr σ 16 (b16_28)) 17 (b17_29)) 18 (b18_30)) 19 (b19_31)) 20 (b20_32)) 21 (b21_33)) 0 (upd (σ 0) 11 (nI bq34)) := by
                  funext j_ x_
                  by_cases e0 : j_ = 0
                  · subst e0
                    by_cases y11 : x_ = 11
                    · subst y11; rfl
                    · simp [sr, upd, y11]
                  · by_cases e16 : j_ = 16
                    · subst e16; rfl
                    · by_cases e17 : j_ = 17
                      · subst e17; rfl
                      · by_cases e18 : j_ = 18
                        · subst e18; rfl
                        · by_cases e19 : j_ = 19
                          · subst e19; rfl
                          · by_cases e20 : j_ = 20
                            · subst e20; rfl
                            · by_cases e21 : j_ = 21
                              · subst e21; rfl
                              · simp only [sr, e0, e16, e17, e18, e19, e20, e21, if_false]
                rw [hst_] at hw
                refine lv_aload_n hC.1 hC.2.1 dX9_placeFrom_107 rfl (lv_at hl 1 rfl) ?_
                refine gf_X9_15 hC hw dX9_placeFrom_108 ?_
                refine lv_iload_n hC.1 hC.2.1 dX9_placeFrom_111 rfl (lv_at hl 4 rfl) ?_
                refine lv_iload hC.1 hC.2.1 dX9_placeFrom_112 (lv_at hl 5 rfl) ?_
                refine lv_iconst (v := (-1)) hC.1 hC.2.1 dX9_placeFrom_114 (by decide) ?_
                have hL9 := hLu27
                have hB9 := hBu27
                refine q_callVv (As := [.int (nI (F 0)), .int (nI h), .int ((-1))]) (rest := []) (q0 := 5) hC hw hl (tX4_tally l E a (sr (sr (sr (sr (sr (sr (sr σ 16 (b16_28)) 17 (b17_29)) 18 (b18_30)) 19 (b19_31)) 20 (b20_32)) 21 (b21_33)) 0 (upd (σ 0) 11 (nI bq34))) nh nj E0 (pP F P0 (cut (pu pp 0 h) (0 + 1)) fm) (pP F P0 (cut pp 0) fm) (F 0) h (-1) hN hE hS hFu27 (cut_TL2 hFk (show 0 < fm by omega) (show h < 10 by omega)) hFx (show h < nh by omega)) (q_cwV hC.2.2.2.2.1 ⟨rfl, rfl⟩ wk4_29 wk2_201 wk2_202 wk1_4 wk2_203 hd_X4_tally ⟨Nat.le_of_ble_eq_true rfl, Nat.le_of_ble_eq_true rfl⟩) rfl rfl rfl rfl rfl (Nat.le_of_ble_eq_true rfl) dX9_placeFrom_115 (fun u37 H locs p35 hw => ?_)
                obtain ⟨b16_38, b17_39, b18_40, b19_41, b20_42, b21_43, hFu37, huu37⟩ := p35
                subst huu37
                have hst_ : sr (sr (sr (sr (sr (sr (sr (sr (sr (sr (sr (sr (sr σ 16 (b16_28)) 17 (b17_29)) 18 (b18_30)) 19 (b19_31)) 20 (b20_32)) 21 (b21_33)) 0 (upd (σ 0) 11 (nI bq34))) 16 b16_38) 17 b17_39) 18 b18_40) 19 b19_41) 20 b20_42) 21 b21_43 = sr (sr (sr (sr (sr (sr (sr σ 16 (b16_38)) 17 (b17_39)) 18 (b18_40)) 19 (b19_41)) 20 (b20_42)) 21 (b21_43)) 0 (upd (σ 0) 11 (nI bq34)) := by
                  funext j_ x_
                  by_cases e0 : j_ = 0
                  · subst e0
                    by_cases y11 : x_ = 11
                    · subst y11; rfl
                    · simp [sr, upd, y11]
                  · by_cases e16 : j_ = 16
                    · subst e16; rfl
                    · by_cases e17 : j_ = 17
                      · subst e17; rfl
                      · by_cases e18 : j_ = 18
                        · subst e18; rfl
                        · by_cases e19 : j_ = 19
                          · subst e19; rfl
                          · by_cases e20 : j_ = 20
                            · subst e20; rfl
                            · by_cases e21 : j_ = 21
                              · subst e21; rfl
                              · simp only [sr, e0, e16, e17, e18, e19, e20, e21, if_false]
                rw [hst_] at hw
                refine lv_iinc (v := nI (h + 1)) (lv' := [(4, .int (nI (h + 1))), (5, .int (bitsC (pu pp 0 h) (0 + 1))), (0, .ref (a 70)), (1, .int (nI 0)), (2, .int (us)), (3, .int (nI (F 0)))]) hC.1 hC.2.1 dX9_placeFrom_118 hl (k := 5) rfl (nI_add _ _) (by decide) rfl (fun ls hl => ?_)
                refine lv_goto (tgt := 39) hC.1 hC.2.1 dX9_placeFrom_121 (by decide) ?_
                have hLB2 := hLB.tr hL9
                have hNH2 : NH E0 F fm P0 nh nj pp 0 (h + 1) bq34 := (hNH.le hL9.1).next (fun q hq hp he => hB9 q hq (pre_pu hp he))
                have hF2 := hFu37
                exact ih39 (h + 1) b16_38 b17_39 b18_40 b19_41 b20_42 b21_43 bq34 (by omega) hF2 hLB2 hNH2 (by omega) _ _ _ hw (lv_sub hl [2, 3, 4, 5, 0] rfl)
      have hst_ : σ = sr (sr (sr (sr (sr (sr (sr σ 16 (σ 16)) 17 (σ 17)) 18 (σ 18)) 19 (σ 19)) 20 (σ 20)) 21 (σ 21)) 0 (upd (σ 0) 11 (σ 0 11)) := by
        funext j_ x_
        by_cases e0 : j_ = 0
        · subst e0
          by_cases y11 : x_ = 11
          · subst y11; rfl
          · simp [sr, upd, y11]
        · by_cases e16 : j_ = 16
          · subst e16; rfl
          · by_cases e17 : j_ = 17
            · subst e17; rfl
            · by_cases e18 : j_ = 18
              · subst e18; rfl
              · by_cases e19 : j_ = 19
                · subst e19; rfl
                · by_cases e20 : j_ = 20
                  · subst e20; rfl
                  · by_cases e21 : j_ = 21
                    · subst e21; rfl
                    · simp only [sr, e0, e16, e17, e18, e19, e20, e21, if_false]
      rw [hst_] at hw
      rw [hb] at hw
      exact L39_5 _ 0 (σ 16) (σ 17) (σ 18) (σ 19) (σ 20) (σ 21) b (Nat.zero_le _) hFS ⟨Nat.le_refl _, Or.inl rfl⟩ (fun q _ _ hk => absurd hk (Nat.not_lt_zero _)) (Nat.lt_succ_self _) _ _ _ hw (lv_sub hl [2, 3, 4, 1, 0] rfl)
    · refine lv_aload_n hC.1 hC.2.1 dX9_placeFrom_13 rfl (lv_at hl 0 rfl) ?_
      refine lv_aload_n hC.1 hC.2.1 dX9_placeFrom_14 rfl (lv_at hl 0 rfl) ?_
      refine gf_X9_52 (v := nI b) hC hw hb dX9_placeFrom_15 ?_
      refine lv_iload_n hC.1 hC.2.1 dX9_placeFrom_18 rfl (lv_at hl 2 rfl) ?_
      refine q_callSp (As := [.int (us)]) (rest := [.int (nI b), .ref (a 70)]) hC hw hl (tJ6_bitCount_0f7a4 l E a σ us) (q_cwS hC.2.2.2.2.1 ⟨rfl, rfl⟩ wk4_33 wk4_34 wk1_16 wk4_35 hd_J6_bitCount_0f7a4.2 ⟨Nat.le_of_ble_eq_true rfl, Nat.le_of_ble_eq_true rfl⟩) rfl rfl (Nat.le_of_ble_eq_true rfl) dX9_placeFrom_19 (fun H locs hw => ?_)
      refine q_min (x := nI b) (y := bcx us) hC hl ⟨Nat.le_of_ble_eq_true rfl, Nat.le_of_ble_eq_true rfl⟩ wk4_22 dX9_placeFrom_22 ?_
      refine pf_X9_52 hC hw dX9_placeFrom_25 (fun H locs hw => ?_)
      have hw : Wst E (XW E a) (sr σ 0 (upd (σ 0) 11 ((if (bcx us) < (nI b) then (bcx us) else (nI b))))) A s.heap H locs := hw
      refine hret _ _ _ _ _ hw ?_ dX9_placeFrom_28
      have hkf : 0 = fm := by omega
      have hq9 : (if (bcx us) < (nI b) then (bcx us) else (nI b)) = nI (if pcq pp 0 < b then pcq pp 0 else b) := by rw [hus, pcq_bc (hfea.lt hnh)]; exact ifn_min (by omega) (pcn_le 10)
      rw [hq9]
      have hfea9 : Fea E0 F fm P0 nh nj pp fm := by have h9 := hfea; rw [hkf] at h9; exact h9
      refine ⟨σ 16, σ 17, σ 18, σ 19, σ 20, σ 21, if pcq pp 0 < b then pcq pp 0 else b, hFS, ⟨by split <;> omega, ?_⟩, fun q hq hp => ?_, ?_⟩
      · by_cases z : pcq pp 0 < b
        · rw [if_pos z]; exact Or.inr ⟨pp, hfea9, by rw [← hkf]⟩
        · rw [if_neg z]; exact Or.inl rfl
      · rw [pcq_congr (p := q) (q := pp) (fun i hi => hp i (by omega)), ← hkf]; split <;> omega
      · show sr σ 0 (upd (σ 0) 11 (nI (if pcq pp 0 < b then pcq pp 0 else b))) = sr (sr (sr (sr (sr (sr (sr σ 16 (σ 16)) 17 (σ 17)) 18 (σ 18)) 19 (σ 19)) 20 (σ 20)) 21 (σ 21)) 0 (upd (σ 0) 11 (nI (if pcq pp 0 < b then pcq pp 0 else b)))
        funext j_ x_
        by_cases e0 : j_ = 0
        · subst e0
          by_cases y11 : x_ = 11
          · subst y11; rfl
          · simp [sr, upd, y11]
        · by_cases e16 : j_ = 16
          · subst e16; rfl
          · by_cases e17 : j_ = 17
            · subst e17; rfl
            · by_cases e18 : j_ = 18
              · subst e18; rfl
              · by_cases e19 : j_ = 19
                · subst e19; rfl
                · by_cases e20 : j_ = 20
                  · subst e20; rfl
                  · by_cases e21 : j_ = 21
                    · subst e21; rfl
                    · simp only [sr, e0, e16, e17, e18, e19, e20, e21, if_false]
