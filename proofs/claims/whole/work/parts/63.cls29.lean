def c_gsz (σ : St) (group : Int32) (n : Nat) : Int32 := sm (fun j => if (σ 5 j = 2 ∧ σ 8 j = group) ∧ σ 11 j = 0 then 1 else 0) n
set_option maxHeartbeats 4000000 in
set_option maxRecDepth 100000 in
theorem tX10_seat (l : Launch) (E : EV) (a : Nat → Nat) (σ : St) (nh : Nat) (nj : Nat) (E0 : St) (P : Nat → Int32) (j : Nat) (h : Nat) (hN : cN2 σ nh nj) (hE : aE σ E0) (hS : cS E0 nh nj) (hFS : FSr E0 P nh nj (σ 16) (σ 17) (σ 18) (σ 19) (σ 20) (σ 21)) (hj : j < nj) (hh : h < nh) (hPj : P j = -1) : MV l E (XW E a) yX10_seat (Cond.code yX10_seat cX10_seat 3 none) ({ frames := 2, cells := 0, slots := 0, locals := 46 }) [.ref (a 71), .int (nI j), .int (nI h)] σ (fun u_ => ∃ (b16 b17 b18 b19 b20 b21 : Nat → Int32), FSr E0 (upd P j (nI h)) nh nj b16 b17 b18 b19 b20 b21 ∧ u_ = sr (sr (sr (sr (sr (sr (sr (sr (sr (sr σ 11 (upd (σ 11) j 1)) 12 (upd (σ 12) j (nI h))) 13 (upd (σ 13) j ((σ 0 2) + 1))) 16 b16) 17 b17) 18 b18) 19 b19) 20 b20) 21 b21) 0 (upd (σ 0) 2 ((σ 0 2) + 1))) := by
  refine MV.mk (by decide +kernel) (Nat.le_of_ble_eq_true rfl) ?_
  intro p e s m args below meth c ls A Q hret hC hw hl
  have hC : Cxt E p s m args meth c cX10_seat 3 none RX10 A := hC
  have hl : lv_has ls 3 [(0, .ref (a 71)), (1, .int (nI j)), (2, .int (nI h))] := hl
  have hnh := hS.1
  have hnj := hS.2.1
  refine lv_aload_n hC.1 hC.2.1 dX10_seat_0 rfl (lv_at hl 0 rfl) ?_
  refine gf_X10_10 hC hw dX10_seat_1 ?_
  refine lv_iload_n hC.1 hC.2.1 dX10_seat_4 rfl (lv_at hl 2 rfl) ?_
  refine q_callVp (As := [.int (nI h)]) (rest := []) (q0 := 6) hC hw hl (tX5_has l E a σ nh nj (nI h) hN) (q_cwV hC.2.2.2.2.1 ⟨rfl, rfl⟩ wk2_233 wk2_209 wk2_210 wk1_2 wk2_211 hd_X5_has ⟨Nat.le_of_ble_eq_true rfl, Nat.le_of_ble_eq_true rfl⟩) rfl rfl rfl rfl rfl (Nat.le_of_ble_eq_true rfl) dX10_seat_5 (fun H locs hw => ?_)
  refine q_ifne hC 12 cB dX10_seat_8 (by decide) (fun (c4 : ¬ (nI h) < 0 ∧ (nI h) < nI nh) => ?_) (fun (c4 : ¬ (¬ (nI h) < 0 ∧ (nI h) < nI nh)) => ?_)
  · refine lv_aload_n hC.1 hC.2.1 dX10_seat_12 rfl (lv_at hl 0 rfl) ?_
    refine gf_X10_19 hC hw dX10_seat_13 ?_
    refine lv_iload_n hC.1 hC.2.1 dX10_seat_16 rfl (lv_at hl 1 rfl) ?_
    refine lv_iload_n hC.1 hC.2.1 dX10_seat_17 rfl (lv_at hl 2 rfl) ?_
    refine q_callVvp (As := [.int (nI j), .int (nI h)]) (rest := []) (q0 := 7) hC hw hl (tX6_settle l E a σ j (nI h) (by first | assumption | omega)) (q_cwV hC.2.2.2.2.1 ⟨rfl, rfl⟩ wk3_86 wk3_87 wk3_88 wk1_3 wk3_89 hd_X6_settle ⟨Nat.le_of_ble_eq_true rfl, Nat.le_of_ble_eq_true rfl⟩) rfl rfl rfl rfl rfl (Nat.le_of_ble_eq_true rfl) dX10_seat_18 (fun H locs hw => ?_)
    have hw : Wst E (XW E a) (sr (sr (sr (sr σ 11 (upd (σ 11) j 1)) 12 (upd (σ 12) j (nI h))) 13 (upd (σ 13) j ((σ 0 2) + 1))) 0 (upd (σ 0) 2 ((σ 0 2) + 1))) A s.heap H locs := hw
    refine lv_aload_n hC.1 hC.2.1 dX10_seat_21 rfl (lv_at hl 0 rfl) ?_
    refine gf_X10_32 hC hw dX10_seat_22 ?_
    refine lv_iload_n hC.1 hC.2.1 dX10_seat_25 rfl (lv_at hl 1 rfl) ?_
    refine lv_iload_n hC.1 hC.2.1 dX10_seat_26 rfl (lv_at hl 2 rfl) ?_
    refine lv_iconst (v := nI 1) hC.1 hC.2.1 dX10_seat_27 (by decide) ?_
    refine q_callVv (As := [.int (nI j), .int (nI h), .int (nI 1)]) (rest := []) (q0 := 5) hC hw hl (tX4_tally l E a (sr (sr (sr (sr σ 11 (upd (σ 11) j 1)) 12 (upd (σ 12) j (nI h))) 13 (upd (σ 13) j ((σ 0 2) + 1))) 0 (upd (σ 0) 2 ((σ 0 2) + 1))) nh nj E0 P (upd P j (nI h)) j h 1 hN hE hS hFS (Or.inl ⟨rfl, hPj, rfl⟩) hj hh) (q_cwV hC.2.2.2.2.1 ⟨rfl, rfl⟩ wk3_90 wk2_201 wk2_202 wk1_4 wk2_203 hd_X4_tally ⟨Nat.le_of_ble_eq_true rfl, Nat.le_of_ble_eq_true rfl⟩) rfl rfl rfl rfl rfl (Nat.le_of_ble_eq_true rfl) dX10_seat_28 (fun u10 H locs p8 hw => ?_)
    obtain ⟨b16_11, b17_12, b18_13, b19_14, b20_15, b21_16, hFu10, huu10⟩ := p8
    subst huu10
    have hst_ : sr (sr (sr (sr (sr (sr (sr (sr (sr (sr σ 11 (upd (σ 11) j 1)) 12 (upd (σ 12) j (nI h))) 13 (upd (σ 13) j ((σ 0 2) + 1))) 0 (upd (σ 0) 2 ((σ 0 2) + 1))) 16 b16_11) 17 b17_12) 18 b18_13) 19 b19_14) 20 b20_15) 21 b21_16 = sr (sr (sr (sr (sr (sr (sr (sr (sr (sr σ 11 (upd (σ 11) j 1)) 12 (upd (σ 12) j (nI h))) 13 (upd (σ 13) j ((σ 0 2) + 1))) 16 (b16_11)) 17 (b17_12)) 18 (b18_13)) 19 (b19_14)) 20 (b20_15)) 21 (b21_16)) 0 (upd (σ 0) 2 ((σ 0 2) + 1)) := by
      funext j_ x_
      by_cases e0 : j_ = 0
      · subst e0
        by_cases y2 : x_ = 2
        · subst y2; rfl
        · simp [sr, upd, y2]
      · by_cases e11 : j_ = 11
        · subst e11; rfl
        · by_cases e12 : j_ = 12
          · subst e12; rfl
          · by_cases e13 : j_ = 13
            · subst e13; rfl
            · by_cases e16 : j_ = 16
              · subst e16; rfl
              · by_cases e17 : j_ = 17
                · subst e17; rfl
                · by_cases e18 : j_ = 18
                  · subst e18; rfl
                  · by_cases e19 : j_ = 19
                    · subst e19; rfl
                    · by_cases e20 : j_ = 20
                      · subst e20; rfl
                      · by_cases e21 : j_ = 21
                        · subst e21; rfl
                        · simp only [sr, e0, e11, e12, e13, e16, e17, e18, e19, e20, e21, if_false]
    rw [hst_] at hw
    refine hret _ _ _ _ _ hw ?_ dX10_seat_31
    exact ⟨b16_11, b17_12, b18_13, b19_14, b20_15, b21_16, hFu10, rfl⟩
  · exact absurd ⟨nI_pos (by omega), (nI_ltI (by omega) (by omega)).mpr (by omega)⟩ c4
set_option maxHeartbeats 4000000 in
set_option maxRecDepth 100000 in
theorem tX10_release (l : Launch) (E : EV) (a : Nat → Nat) (σ : St) (nh : Nat) (nj : Nat) (E0 : St) (P : Nat → Int32) (j : Nat) (x : Int32) (hN : cN2 σ nh nj) (hE : aE σ E0) (hS : cS E0 nh nj) (hFS : FSr E0 P nh nj (σ 16) (σ 17) (σ 18) (σ 19) (σ 20) (σ 21)) (hj : j < nj) (hP : PL σ P nh nj) : MV l E (XW E a) yX10_release (Cond.code yX10_release cX10_release 3 none) ({ frames := 2, cells := 0, slots := 0, locals := 46 }) [.ref (a 71), .int (nI j), .int (x)] σ (fun u_ => ∃ (b16 b17 b18 b19 b20 b21 : Nat → Int32), FSr E0 (upd P j (-1)) nh nj b16 b17 b18 b19 b20 b21 ∧ u_ = sr (sr (sr (sr (sr (sr (sr (sr (sr σ 11 (upd (σ 11) j x)) 12 (upd (σ 12) j (-1))) 13 (upd (σ 13) j 0)) 16 b16) 17 b17) 18 b18) 19 b19) 20 b20) 21 b21) := by
  refine MV.mk (by decide +kernel) (Nat.le_of_ble_eq_true rfl) ?_
  intro p e s m args below meth c ls A Q hret hC hw hl
  have hC : Cxt E p s m args meth c cX10_release 3 none RX10 A := hC
  have hl : lv_has ls 3 [(0, .ref (a 71)), (1, .int (nI j)), (2, .int (x))] := hl
  have hnh := hS.1
  have hnj := hS.2.1
  refine lv_aload_n hC.1 hC.2.1 dX10_release_0 rfl (lv_at hl 0 rfl) ?_
  refine gf_X10_19 hC hw dX10_release_1 ?_
  refine gf_X10_126 hC hw dX10_release_4 ?_
  refine lv_iload_n hC.1 hC.2.1 dX10_release_7 rfl (lv_at hl 1 rfl) ?_
  refine al_X11 (v := σ 11 j) hC hw (by omega) rfl dX10_release_8 ?_
  refine lv_iconst (v := nI 1) hC.1 hC.2.1 dX10_release_9 (by decide) ?_
  refine q_cmpne hC 31 cI dX10_release_10 (by decide) (fun (c1 : ¬ (σ 11 j = 1)) => ?_) (fun (c1 : σ 11 j = 1) => ?_)
  · refine lv_aload_n hC.1 hC.2.1 dX10_release_31 rfl (lv_at hl 0 rfl) ?_
    refine gf_X10_19 hC hw dX10_release_32 ?_
    refine lv_iload_n hC.1 hC.2.1 dX10_release_35 rfl (lv_at hl 1 rfl) ?_
    refine lv_iload_n hC.1 hC.2.1 dX10_release_36 rfl (lv_at hl 2 rfl) ?_
    refine q_callVvp (As := [.int (nI j), .int (x)]) (rest := []) (q0 := 7) hC hw hl (tX6_leave l E a σ j x (by first | assumption | omega)) (q_cwV hC.2.2.2.2.1 ⟨rfl, rfl⟩ wk3_81 wk2_221 wk2_222 wk1_3 wk2_223 hd_X6_leave ⟨Nat.le_of_ble_eq_true rfl, Nat.le_of_ble_eq_true rfl⟩) rfl rfl rfl rfl rfl (Nat.le_of_ble_eq_true rfl) dX10_release_37 (fun H locs hw => ?_)
    have hw : Wst E (XW E a) (sr (sr (sr σ 11 (upd (σ 11) j x)) 12 (upd (σ 12) j (-1))) 13 (upd (σ 13) j 0)) A s.heap H locs := hw
    refine hret _ _ _ _ _ hw ?_ dX10_release_40
    refine ⟨σ 16, σ 17, σ 18, σ 19, σ 20, σ 21, ?_, ?_⟩
    · rw [upd_same ((hP j hj).2 c1)]; exact hFS
    · show sr (sr (sr σ 11 (upd (σ 11) j x)) 12 (upd (σ 12) j (-1))) 13 (upd (σ 13) j 0) = sr (sr (sr (sr (sr (sr (sr (sr (sr σ 11 (upd (σ 11) j x)) 12 (upd (σ 12) j (-1))) 13 (upd (σ 13) j 0)) 16 (σ 16)) 17 (σ 17)) 18 (σ 18)) 19 (σ 19)) 20 (σ 20)) 21 (σ 21)
      funext j_ x_
      by_cases e0 : j_ = 0
      · subst e0
        rfl
      · by_cases e11 : j_ = 11
        · subst e11; rfl
        · by_cases e12 : j_ = 12
          · subst e12; rfl
          · by_cases e13 : j_ = 13
            · subst e13; rfl
            · by_cases e16 : j_ = 16
              · subst e16; rfl
              · by_cases e17 : j_ = 17
                · subst e17; rfl
                · by_cases e18 : j_ = 18
                  · subst e18; rfl
                  · by_cases e19 : j_ = 19
                    · subst e19; rfl
                    · by_cases e20 : j_ = 20
                      · subst e20; rfl
                      · by_cases e21 : j_ = 21
                        · subst e21; rfl
                        · simp only [sr, e0, e11, e12, e13, e16, e17, e18, e19, e20, e21, if_false]
  · obtain ⟨h9, hh9, e12, eP⟩ := (hP j hj).1 c1
    refine lv_aload_n hC.1 hC.2.1 dX10_release_13 rfl (lv_at hl 0 rfl) ?_
    refine gf_X10_32 hC hw dX10_release_14 ?_
    refine lv_iload_n hC.1 hC.2.1 dX10_release_17 rfl (lv_at hl 1 rfl) ?_
    refine lv_aload_n hC.1 hC.2.1 dX10_release_18 rfl (lv_at hl 0 rfl) ?_
    refine gf_X10_19 hC hw dX10_release_19 ?_
    refine gf_X10_140 hC hw dX10_release_22 ?_
    refine lv_iload_n hC.1 hC.2.1 dX10_release_25 rfl (lv_at hl 1 rfl) ?_
    refine al_X12 (v := nI h9) hC hw (by omega) e12 dX10_release_26 ?_
    refine lv_iconst (v := (-1)) hC.1 hC.2.1 dX10_release_27 (by decide) ?_
    refine q_callVv (As := [.int (nI j), .int (nI h9), .int ((-1))]) (rest := []) (q0 := 5) hC hw hl (tX4_tally l E a σ nh nj E0 P (upd P j (-1)) j h9 (-1) hN hE hS hFS (Or.inr ⟨rfl, eP, rfl⟩) hj hh9) (q_cwV hC.2.2.2.2.1 ⟨rfl, rfl⟩ wk3_90 wk2_201 wk2_202 wk1_4 wk2_203 hd_X4_tally ⟨Nat.le_of_ble_eq_true rfl, Nat.le_of_ble_eq_true rfl⟩) rfl rfl rfl rfl rfl (Nat.le_of_ble_eq_true rfl) dX10_release_28 (fun u7 H locs p5 hw => ?_)
    obtain ⟨b16_8, b17_9, b18_10, b19_11, b20_12, b21_13, hFu7, huu7⟩ := p5
    subst huu7
    refine lv_aload_n hC.1 hC.2.1 dX10_release_31 rfl (lv_at hl 0 rfl) ?_
    refine gf_X10_19 hC hw dX10_release_32 ?_
    refine lv_iload_n hC.1 hC.2.1 dX10_release_35 rfl (lv_at hl 1 rfl) ?_
    refine lv_iload_n hC.1 hC.2.1 dX10_release_36 rfl (lv_at hl 2 rfl) ?_
    refine q_callVvp (As := [.int (nI j), .int (x)]) (rest := []) (q0 := 7) hC hw hl (tX6_leave l E a (sr (sr (sr (sr (sr (sr σ 16 (b16_8)) 17 (b17_9)) 18 (b18_10)) 19 (b19_11)) 20 (b20_12)) 21 (b21_13)) j x (by first | assumption | omega)) (q_cwV hC.2.2.2.2.1 ⟨rfl, rfl⟩ wk3_81 wk2_221 wk2_222 wk1_3 wk2_223 hd_X6_leave ⟨Nat.le_of_ble_eq_true rfl, Nat.le_of_ble_eq_true rfl⟩) rfl rfl rfl rfl rfl (Nat.le_of_ble_eq_true rfl) dX10_release_37 (fun H locs hw => ?_)
    have hw : Wst E (XW E a) (sr (sr (sr (sr (sr (sr (sr (sr (sr σ 11 (upd (σ 11) j x)) 12 (upd (σ 12) j (-1))) 13 (upd (σ 13) j 0)) 16 (b16_8)) 17 (b17_9)) 18 (b18_10)) 19 (b19_11)) 20 (b20_12)) 21 (b21_13)) A s.heap H locs := hw
    refine hret _ _ _ _ _ hw ?_ dX10_release_40
    exact ⟨b16_8, b17_9, b18_10, b19_11, b20_12, b21_13, hFu7, rfl⟩
set_option maxHeartbeats 4000000 in
set_option maxRecDepth 100000 in
theorem tX10_isInGang (l : Launch) (E : EV) (a : Nat → Nat) (σ : St) (j : Nat) (group : Int32) (hj : j < 24) : MI l E (XW E a) yX10_isInGang (Cond.code yX10_isInGang cX10_isInGang 3 (some .boolean)) ({ frames := 0, cells := 0, slots := 0, locals := 0 }) [.ref (a 71), .int (nI j), .int (group)] σ (fun r_ u_ => r_ = (if ((σ 5) j = 2 ∧ (σ 8) j = group) ∧ (σ 11) j = 0 then (1 : Int32) else 0) ∧ u_ = σ) := by
  refine MI.mk (by decide +kernel) (Nat.le_of_ble_eq_true rfl) ?_
  intro p e s m args below meth c ls A Q hret hC hw hl
  have hC : Cxt E p s m args meth c cX10_isInGang 3 (some .boolean) RX10 A := hC
  have hl : lv_has ls 3 [(0, .ref (a 71)), (1, .int (nI j)), (2, .int (group))] := hl
  refine lv_aload_n hC.1 hC.2.1 dX10_isInGang_0 rfl (lv_at hl 0 rfl) ?_
  refine gf_X10_19 hC hw dX10_isInGang_1 ?_
  refine gf_X10_146 hC hw dX10_isInGang_4 ?_
  refine lv_iload_n hC.1 hC.2.1 dX10_isInGang_7 rfl (lv_at hl 1 rfl) ?_
  refine al_X5 (v := σ 5 j) hC hw (by omega) rfl dX10_isInGang_8 ?_
  refine lv_iconst (v := nI 2) hC.1 hC.2.1 dX10_isInGang_9 (by decide) ?_
  have J43_2 : ∀ (w1 : Int32), w1 = (if (σ 5 j = 2) ∧ ((σ 8 j = group) ∧ (σ 11 j = 0)) then (1 : Int32) else 0) → ∀ (H : Heap) (locs : List Loc) (ls : Array Slot), Wst E (XW E a) (σ) A s.heap H locs → lv_has ls 3 [(0, .ref (a 71)), (1, .int (nI j)), (2, .int (group))] → W p l e ({ frames := 0, cells := 0, slots := 0, locals := 0 }) s m args below meth c H locs 0 0 Q (F0 m 43 ls [.int (w1)]) := by
    intro w1 e2 H locs ls hw hl
    subst e2
    refine hret _ _ _ _ _ _ hw ?_ nz_B dX10_isInGang_43
    exact ⟨ite_iff ⟨fun q => ⟨⟨q.1, q.2.1⟩, q.2.2⟩, fun q => ⟨q.1.1, q.1.2, q.2⟩⟩, rfl⟩
  refine q_cmpne hC 42 cI dX10_isInGang_10 (by decide) (fun (c3 : ¬ (σ 5 j = 2)) => ?_) (fun (c3 : σ 5 j = 2) => ?_)
  · refine lv_iconst (v := nI 0) hC.1 hC.2.1 dX10_isInGang_42 (by decide) ?_
    exact J43_2 _ (if_neg (fun q => c3 q.1)).symm _ _ _ hw (lv_sub hl [0, 1, 2] rfl)
  · refine lv_aload_n hC.1 hC.2.1 dX10_isInGang_13 rfl (lv_at hl 0 rfl) ?_
    refine gf_X10_19 hC hw dX10_isInGang_14 ?_
    refine gf_X10_152 hC hw dX10_isInGang_17 ?_
    refine lv_iload_n hC.1 hC.2.1 dX10_isInGang_20 rfl (lv_at hl 1 rfl) ?_
    refine al_X8 (v := σ 8 j) hC hw (by omega) rfl dX10_isInGang_21 ?_
    refine lv_iload_n hC.1 hC.2.1 dX10_isInGang_22 rfl (lv_at hl 2 rfl) ?_
    refine q_cmpne hC 42 cI dX10_isInGang_23 (by decide) (fun (c4 : ¬ (σ 8 j = group)) => ?_) (fun (c4 : σ 8 j = group) => ?_)
    · refine lv_iconst (v := nI 0) hC.1 hC.2.1 dX10_isInGang_42 (by decide) ?_
      exact J43_2 _ (if_neg (fun q => (fun q => c4 q.1) q.2)).symm _ _ _ hw (lv_sub hl [0, 1, 2] rfl)
    · refine lv_aload_n hC.1 hC.2.1 dX10_isInGang_26 rfl (lv_at hl 0 rfl) ?_
      refine gf_X10_19 hC hw dX10_isInGang_27 ?_
      refine gf_X10_126 hC hw dX10_isInGang_30 ?_
      refine lv_iload_n hC.1 hC.2.1 dX10_isInGang_33 rfl (lv_at hl 1 rfl) ?_
      refine al_X11 (v := σ 11 j) hC hw (by omega) rfl dX10_isInGang_34 ?_
      refine q_ifne hC 42 cI dX10_isInGang_35 (by decide) (fun (c5 : ¬ (σ 11 j = 0)) => ?_) (fun (c5 : σ 11 j = 0) => ?_)
      · refine lv_iconst (v := nI 0) hC.1 hC.2.1 dX10_isInGang_42 (by decide) ?_
        exact J43_2 _ (if_neg (fun q => (fun q => c5 q.2) q.2)).symm _ _ _ hw (lv_sub hl [0, 1, 2] rfl)
      · refine lv_iconst (v := nI 1) hC.1 hC.2.1 dX10_isInGang_38 (by decide) ?_
        refine lv_goto (tgt := 43) hC.1 hC.2.1 dX10_isInGang_39 (by decide) ?_
        exact J43_2 _ (if_pos ⟨c3, ⟨c4, c5⟩⟩).symm _ _ _ hw (lv_sub hl [0, 1, 2] rfl)
set_option maxHeartbeats 4000000 in
set_option maxRecDepth 100000 in
theorem tX10_gangSize (l : Launch) (E : EV) (a : Nat → Nat) (σ : St) (nh : Nat) (nj : Nat) (group : Int32) (hN : cN2 σ nh nj) (h10 : nh ≤ 10) (h24 : nj ≤ 24) : MI l E (XW E a) yX10_gangSize (Cond.code yX10_gangSize cX10_gangSize 4 (some .int)) ({ frames := 1, cells := 0, slots := 0, locals := 22 }) [.ref (a 71), .int (group)] σ (fun r_ u_ => r_ = (c_gsz σ group nj) ∧ u_ = σ) := by
  refine MI.mk (by decide +kernel) (Nat.le_of_ble_eq_true rfl) ?_
  intro p e s m args below meth c ls A Q hret hC hw hl
  have hC : Cxt E p s m args meth c cX10_gangSize 4 (some .int) RX10 A := hC
  have hl : lv_has ls 4 [(0, .ref (a 71)), (1, .int (group))] := hl
  refine lv_iconst (v := nI 0) hC.1 hC.2.1 dX10_gangSize_0 (by decide) ?_
  refine lv_istore_n (lv' := [(2, .int (nI 0)), (0, .ref (a 71)), (1, .int (group))]) hC.1 hC.2.1 dX10_gangSize_1 rfl hl (by decide) rfl (fun ls hl => ?_)
  refine lv_iconst (v := nI 0) hC.1 hC.2.1 dX10_gangSize_2 (by decide) ?_
  refine lv_istore_n (lv' := [(3, .int (nI 0)), (2, .int (nI 0)), (0, .ref (a 71)), (1, .int (group))]) hC.1 hC.2.1 dX10_gangSize_3 rfl hl (by decide) rfl (fun ls hl => ?_)
  have L4_0 : ∀ (n : Nat), ∀ (k : Nat), ∀ (sz : Int32), (sz = (c_gsz σ group k)) → (k ≤ nj) → (nj - k) < n → ∀ (H : Heap) (locs : List Loc) (ls : Array Slot), Wst E (XW E a) (σ) A s.heap H locs → lv_has ls 4 [(0, .ref (a 71)), (1, .int (group)), (2, .int (sz)), (3, .int (nI k))] → W p l e ({ frames := 1, cells := 0, slots := 0, locals := 22 }) s m args below meth c H locs 0 0 Q (F0 m 4 ls []) := by
    intro n
    induction n with
    | zero => intro k sz q_sz hk hn; exact absurd hn (Nat.not_lt_zero _)
    | succ n ih4 =>
      intro k sz q_sz hk hn4 H locs ls hw hl
      subst q_sz
      refine lv_iload_n hC.1 hC.2.1 dX10_gangSize_4 rfl (lv_at hl 3 rfl) ?_
      refine lv_aload_n hC.1 hC.2.1 dX10_gangSize_5 rfl (lv_at hl 0 rfl) ?_
      refine gf_X10_19 hC hw dX10_gangSize_6 ?_
      refine gf_X10_114 (v := nI nj) hC hw hN.2 dX10_gangSize_9 ?_
      refine q_cmpge hC 38 (cNle (by omega) (by omega)) dX10_gangSize_12 (by decide) (fun (c2 : nj ≤ k) => ?_) (fun (c2 : k < nj) => ?_)
      · refine lv_iload_n hC.1 hC.2.1 dX10_gangSize_38 rfl (lv_at hl 2 rfl) ?_
        refine hret _ _ _ _ _ _ hw ?_ rfl dX10_gangSize_39
        have hk9 : k = nj := by omega
        rw [hk9]
        exact ⟨rfl, rfl⟩
      · refine lv_iload_n hC.1 hC.2.1 dX10_gangSize_15 rfl (lv_at hl 2 rfl) ?_
        refine lv_aload_n hC.1 hC.2.1 dX10_gangSize_16 rfl (lv_at hl 0 rfl) ?_
        refine lv_iload_n hC.1 hC.2.1 dX10_gangSize_17 rfl (lv_at hl 3 rfl) ?_
        refine lv_iload_n hC.1 hC.2.1 dX10_gangSize_18 rfl (lv_at hl 1 rfl) ?_
        refine q_callVp (As := [.int (nI k), .int (group)]) (rest := [.int (c_gsz σ group k)]) (q0 := 0) hC hw hl (tX10_isInGang l E a σ k group (by first | assumption | omega)) (q_cwV hC.2.2.2.2.1 ⟨rfl, rfl⟩ wk3_103 wk3_105 wks_1_9 wk1_1 wk3_106 hd_X10_isInGang ⟨Nat.le_of_ble_eq_true rfl, Nat.le_of_ble_eq_true rfl⟩) rfl rfl rfl rfl rfl (Nat.le_of_ble_eq_true rfl) dX10_gangSize_19 (fun H locs hw => ?_)
        have J30_7 : ∀ (w6 : Int32), w6 = (if ((σ 5) k = 2 ∧ (σ 8) k = group) ∧ (σ 11) k = 0 then (1 : Int32) else 0) → ∀ (H : Heap) (locs : List Loc) (ls : Array Slot), Wst E (XW E a) (σ) A s.heap H locs → lv_has ls 4 [(0, .ref (a 71)), (1, .int (group)), (2, .int (c_gsz σ group k)), (3, .int (nI k))] → W p l e ({ frames := 1, cells := 0, slots := 0, locals := 22 }) s m args below meth c H locs 0 0 Q (F0 m 30 ls [.int (w6), .int (c_gsz σ group k)]) := by
          intro w6 e7 H locs ls hw hl
          subst e7
          refine lv_iadd hC.1 hC.2.1 dX10_gangSize_30 ?_
          refine lv_istore_n (lv' := [(2, .int ((c_gsz σ group k) + (if ((σ 5) k = 2 ∧ (σ 8) k = group) ∧ (σ 11) k = 0 then (1 : Int32) else 0))), (0, .ref (a 71)), (1, .int (group)), (3, .int (nI k))]) hC.1 hC.2.1 dX10_gangSize_31 rfl hl (by decide) rfl (fun ls hl => ?_)
          refine lv_iinc (v := nI (k + 1)) (lv' := [(3, .int (nI (k + 1))), (2, .int ((c_gsz σ group k) + (if ((σ 5) k = 2 ∧ (σ 8) k = group) ∧ (σ 11) k = 0 then (1 : Int32) else 0))), (0, .ref (a 71)), (1, .int (group))]) hC.1 hC.2.1 dX10_gangSize_32 hl (k := 3) rfl (nI_add _ _) (by decide) rfl (fun ls hl => ?_)
          refine lv_goto (tgt := 4) hC.1 hC.2.1 dX10_gangSize_35 (by decide) ?_
          exact ih4 (k + 1) ((c_gsz σ group k) + (if ((σ 5) k = 2 ∧ (σ 8) k = group) ∧ (σ 11) k = 0 then (1 : Int32) else 0)) rfl (by omega) (by omega) _ _ _ hw (lv_sub hl [2, 3, 1, 0] rfl)
        refine q_ifeq hC 29 cB dX10_gangSize_22 (by decide) (fun (c8 : ¬ (((σ 5) k = 2 ∧ (σ 8) k = group) ∧ (σ 11) k = 0)) => ?_) (fun (c8 : ((σ 5) k = 2 ∧ (σ 8) k = group) ∧ (σ 11) k = 0) => ?_)
        · refine lv_iconst (v := nI 0) hC.1 hC.2.1 dX10_gangSize_29 (by decide) ?_
          exact J30_7 _ (if_neg c8).symm _ _ _ hw (lv_sub hl [0, 1, 2, 3] rfl)
        · refine lv_iconst (v := nI 1) hC.1 hC.2.1 dX10_gangSize_25 (by decide) ?_
          refine lv_goto (tgt := 30) hC.1 hC.2.1 dX10_gangSize_26 (by decide) ?_
          exact J30_7 _ (if_pos c8).symm _ _ _ hw (lv_sub hl [0, 1, 2, 3] rfl)
  exact L4_0 _ 0 (nI 0) rfl (Nat.zero_le _) (Nat.lt_succ_self _) _ _ _ hw (lv_sub hl [2, 3, 1, 0] rfl)
