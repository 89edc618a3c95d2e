theorem sw_out_0_2 {x : Int32} (h0 : ¬ x = 0) (h1 : ¬ x = 1) (h2 : ¬ x = 2) : x.toInt < 0 ∨ 2 < x.toInt := by
  rcases Classical.em (x.toInt < 0) with q | q
  · exact Or.inl q
  · refine Or.inr (Classical.byContradiction fun z => ?_)
    obtain ⟨k, hk, rfl⟩ := sw_in (n := 2) (by decide) q z
    rcases (show k = 0 ∨ k = 1 ∨ k = 2 by omega) with rfl | rfl | rfl
    · exact h0 rfl
    · exact h1 rfl
    · exact h2 rfl
theorem sw_out_0_5 {x : Int32} (h0 : ¬ x = 0) (h1 : ¬ x = 1) (h2 : ¬ x = 2) (h3 : ¬ x = 3) (h4 : ¬ x = 4) (h5 : ¬ x = 5) : x.toInt < 0 ∨ 5 < x.toInt := by
  rcases Classical.em (x.toInt < 0) with q | q
  · exact Or.inl q
  · refine Or.inr (Classical.byContradiction fun z => ?_)
    obtain ⟨k, hk, rfl⟩ := sw_in (n := 5) (by decide) q z
    rcases (show k = 0 ∨ k = 1 ∨ k = 2 ∨ k = 3 ∨ k = 4 ∨ k = 5 by omega) with rfl | rfl | rfl | rfl | rfl | rfl
    · exact h0 rfl
    · exact h1 rfl
    · exact h2 rfl
    · exact h3 rfl
    · exact h4 rfl
    · exact h5 rfl
set_option maxHeartbeats 4000000 in
set_option maxRecDepth 100000 in
theorem tX0_find (l : Launch) (E : EV) (a : Nat → Nat) (σ : St) (nh : Nat) (nj : Nat) (E0 : St) (v : Nat → Int32) (j : Nat) (hN : cN2 σ nh nj) (hE : aE σ E0) (hS : cS E0 nh nj) (hFS : FSr E0 (pB (eM v) (-1)) nh nj (σ 16) (σ 17) (σ 18) (σ 19) (σ 20) (σ 21)) (hX : JX σ v nj) (hA : agE E0 (eM v) nh nj) (hW : mF v nh nj) (hT : cT E0 nh nj) (hj : j < nj) (hj0 : eM v 11 j = 0) : MI l E (XW E a) yX0_find (Cond.code yX0_find cX0_find 2 (some .boolean)) ({ frames := 5, cells := 0, slots := 0, locals := 123 }) [.ref (a 61), .int (nI j)] σ (fun r_ u_ => ∃ (b16 b17 b18 b19 b20 b21 : Nat → Int32) (z12 z13 z14 z15 : Int32), FSr E0 (pB (eM v) (-1)) nh nj b16 b17 b18 b19 b20 b21 ∧ WDr v nh nj j r_ (c4 z12 z13 z14 z15) ∧ (r_ = 1 ∨ r_ = 0) ∧ u_ = sr (sr (sr (sr (sr (sr (sr σ 16 b16) 17 b17) 18 b18) 19 b19) 20 b20) 21 b21) 0 (upd (upd (upd (upd (σ 0) 12 z12) 13 z13) 14 z14) 15 z15)) := by
  refine MI.mk (by decide +kernel) (Nat.le_of_ble_eq_true rfl) ?_
  intro p e s m args below meth c ls A Q hret hC hw hl
  have hC : Cxt E p s m args meth c cX0_find 2 (some .boolean) RX0 A := hC
  have hl : lv_has ls 2 [(0, .ref (a 61)), (1, .int (nI j))] := hl
  have hnh := hS.1
  have hnj := hS.2.1
  refine lv_aload_n hC.1 hC.2.1 dX0_find_0 rfl (lv_at hl 0 rfl) ?_
  refine lv_iconst (v := (-1)) hC.1 hC.2.1 dX0_find_1 (by decide) ?_
  refine pf_X0_34 hC hw dX0_find_2 (fun H locs hw => ?_)
  have hw : Wst E (XW E a) (sr σ 0 (upd (σ 0) 14 ((-1)))) A s.heap H locs := hw
  refine lv_aload_n hC.1 hC.2.1 dX0_find_5 rfl (lv_at hl 0 rfl) ?_
  refine lv_iconst (v := nI 0) hC.1 hC.2.1 dX0_find_6 (by decide) ?_
  refine pf_X0_37 hC hw dX0_find_7 (fun H locs hw => ?_)
  have hw : Wst E (XW E a) (sr (sr σ 0 (upd (σ 0) 14 ((-1)))) 0 (upd (upd (σ 0) 14 ((-1))) 15 (nI 0))) A s.heap H locs := hw
  have hst_ : sr (sr σ 0 (upd (σ 0) 14 ((-1)))) 0 (upd (upd (σ 0) 14 ((-1))) 15 (nI 0)) = sr σ 0 (upd (upd (σ 0) 14 ((-1))) 15 (nI 0)) := by
    funext j_ x_
    by_cases e0 : j_ = 0
    · subst e0
      by_cases y14 : x_ = 14
      · subst y14; rfl
      · by_cases y15 : x_ = 15
        · subst y15; rfl
        · simp [sr, upd, y14, y15]
    · simp only [sr, e0, if_false]
  rw [hst_] at hw
  refine lv_aload_n hC.1 hC.2.1 dX0_find_10 rfl (lv_at hl 0 rfl) ?_
  refine lv_iload_n hC.1 hC.2.1 dX0_find_11 rfl (lv_at hl 1 rfl) ?_
  refine q_callV (As := [.int (nI j)]) (rest := []) (q0 := 1) hC hw hl (tX0_byTaint l E a (sr σ 0 (upd (upd (σ 0) 14 ((-1))) 15 (nI 0))) nh nj E0 v j hN hE hS hFS hA hW hj hj0 rfl) (q_cwV hC.2.2.2.2.1 ⟨rfl, rfl⟩ wk4_53 wk4_55 wks_2_2 wk1_11 wk4_56 hd_X0_byTaint ⟨Nat.le_of_ble_eq_true rfl, Nat.le_of_ble_eq_true rfl⟩) rfl rfl rfl rfl rfl (Nat.le_of_ble_eq_true rfl) dX0_find_12 (fun r2 u3 H locs p1 hw => ?_)
  obtain ⟨z13_4, z14_5, hru3, huu3⟩ := p1
  subst huu3
  have hst_ : sr (sr σ 0 (upd (upd (σ 0) 14 ((-1))) 15 (nI 0))) 0 (upd (upd (upd ((sr σ 0 (upd (upd (σ 0) 14 ((-1))) 15 (nI 0))) 0) 12 (nI 1)) 13 z13_4) 14 z14_5) = sr σ 0 (upd (upd (upd (upd (σ 0) 12 ((nI 1))) 13 (z13_4)) 14 (z14_5)) 15 (nI 0)) := by
    funext j_ x_
    by_cases e0 : j_ = 0
    · subst e0
      by_cases y12 : x_ = 12
      · subst y12; rfl
      · by_cases y13 : x_ = 13
        · subst y13; rfl
        · by_cases y14 : x_ = 14
          · subst y14; rfl
          · by_cases y15 : x_ = 15
            · subst y15; rfl
            · simp [sr, upd, y12, y13, y14, y15]
    · simp only [sr, e0, if_false]
  rw [hst_] at hw
  refine q_ifne hC 34 cI dX0_find_15 (by decide) (fun (c6 : ¬ (r2 = 0)) => ?_) (fun (c6 : r2 = 0) => ?_)
  · refine lv_iconst (v := nI 1) hC.1 hC.2.1 dX0_find_34 (by decide) ?_
    refine lv_goto (tgt := 39) hC.1 hC.2.1 dX0_find_35 (by decide) ?_
    refine hret _ _ _ _ _ _ hw ?_ (by decide) dX0_find_39
    refine ⟨σ 16, σ 17, σ 18, σ 19, σ 20, σ 21, (nI 1), z13_4, z14_5, nI 0, hFS, ?_, ?_, ?_⟩
    · obtain ⟨y, x, h1, h2, h3, h4⟩ := hru3.resolve_right (fun q => c6 q.2.1)
      exact Or.inl ⟨y, x, h1, rfl, by rw [← h3, ← h4]; exact c4_t _ _ _ _⟩
    · exact Or.inl rfl
    · show sr σ 0 (upd (upd (upd (upd (σ 0) 12 ((nI 1))) 13 (z13_4)) 14 (z14_5)) 15 (nI 0)) = sr (sr (sr (sr (sr (sr (sr σ 16 (σ 16)) 17 (σ 17)) 18 (σ 18)) 19 (σ 19)) 20 (σ 20)) 21 (σ 21)) 0 (upd (upd (upd (upd (σ 0) 12 ((nI 1))) 13 (z13_4)) 14 (z14_5)) 15 (nI 0))
      funext j_ x_
      by_cases e0 : j_ = 0
      · subst e0
        by_cases y12 : x_ = 12
        · subst y12; rfl
        · by_cases y13 : x_ = 13
          · subst y13; rfl
          · by_cases y14 : x_ = 14
            · subst y14; rfl
            · by_cases y15 : x_ = 15
              · subst y15; rfl
              · simp [sr, upd, y12, y13, y14, y15]
      · by_cases e16 : j_ = 16
        · subst e16; rfl
        · by_cases e17 : j_ = 17
          · subst e17; rfl
          · by_cases e18 : j_ = 18
            · subst e18; rfl
            · by_cases e19 : j_ = 19
              · subst e19; rfl
              · by_cases e20 : j_ = 20
                · subst e20; rfl
                · by_cases e21 : j_ = 21
                  · subst e21; rfl
                  · simp only [sr, e0, e16, e17, e18, e19, e20, e21, if_false]
  · refine lv_aload_n hC.1 hC.2.1 dX0_find_18 rfl (lv_at hl 0 rfl) ?_
    refine lv_iload_n hC.1 hC.2.1 dX0_find_19 rfl (lv_at hl 1 rfl) ?_
    have h149 := (hru3.resolve_left (fun ⟨_, _, _, h2, _⟩ => absurd (h2.symm.trans c6) (by decide))).2.2
    refine q_callV (As := [.int (nI j)]) (rest := []) (q0 := 1) hC hw hl (tX0_byAmount l E a (sr σ 0 (upd (upd (upd (upd (σ 0) 12 ((nI 1))) 13 (z13_4)) 14 (z14_5)) 15 (nI 0))) nh nj E0 v j hN hE hS hFS hA hW hT hj hj0 h149 rfl) (q_cwV hC.2.2.2.2.1 ⟨rfl, rfl⟩ wk4_58 wk4_60 wks_2_3 wk1_11 wk4_61 hd_X0_byAmount ⟨Nat.le_of_ble_eq_true rfl, Nat.le_of_ble_eq_true rfl⟩) rfl rfl rfl rfl rfl (Nat.le_of_ble_eq_true rfl) dX0_find_20 (fun r8 u9 H locs p7 hw => ?_)
    obtain ⟨z13_10, z14_11, z15_12, hru9, huu9⟩ := p7
    subst huu9
    have hst_ : sr (sr σ 0 (upd (upd (upd (upd (σ 0) 12 ((nI 1))) 13 (z13_4)) 14 (z14_5)) 15 (nI 0))) 0 (upd (upd (upd (upd ((sr σ 0 (upd (upd (upd (upd (σ 0) 12 ((nI 1))) 13 (z13_4)) 14 (z14_5)) 15 (nI 0))) 0) 12 (nI 2)) 13 z13_10) 14 z14_11) 15 z15_12) = sr σ 0 (upd (upd (upd (upd (σ 0) 12 ((nI 2))) 13 (z13_10)) 14 (z14_11)) 15 (z15_12)) := by
      funext j_ x_
      by_cases e0 : j_ = 0
      · subst e0
        by_cases y12 : x_ = 12
        · subst y12; rfl
        · by_cases y13 : x_ = 13
          · subst y13; rfl
          · by_cases y14 : x_ = 14
            · subst y14; rfl
            · by_cases y15 : x_ = 15
              · subst y15; rfl
              · simp [sr, upd, y12, y13, y14, y15]
      · simp only [sr, e0, if_false]
    rw [hst_] at hw
    refine q_ifne hC 34 cI dX0_find_23 (by decide) (fun (c13 : ¬ (r8 = 0)) => ?_) (fun (c13 : r8 = 0) => ?_)
    · refine lv_iconst (v := nI 1) hC.1 hC.2.1 dX0_find_34 (by decide) ?_
      refine lv_goto (tgt := 39) hC.1 hC.2.1 dX0_find_35 (by decide) ?_
      refine hret _ _ _ _ _ _ hw ?_ (by decide) dX0_find_39
      refine ⟨σ 16, σ 17, σ 18, σ 19, σ 20, σ 21, (nI 2), z13_10, z14_11, z15_12, hFS, ?_, ?_, ?_⟩
      · obtain ⟨h, y, h1, h2, h3, h4, h5⟩ := hru9.resolve_right (fun q => c13 q.2.1)
        exact Or.inr ⟨(hru3.resolve_left (fun ⟨_, _, _, h2, _⟩ => absurd (h2.symm.trans c6) (by decide))).1, Or.inl ⟨h, y, h1, rfl, by rw [← h3, ← h4, ← h5]; exact c4_t _ _ _ _⟩⟩
      · exact Or.inl rfl
      · show sr σ 0 (upd (upd (upd (upd (σ 0) 12 ((nI 2))) 13 (z13_10)) 14 (z14_11)) 15 (z15_12)) = sr (sr (sr (sr (sr (sr (sr σ 16 (σ 16)) 17 (σ 17)) 18 (σ 18)) 19 (σ 19)) 20 (σ 20)) 21 (σ 21)) 0 (upd (upd (upd (upd (σ 0) 12 ((nI 2))) 13 (z13_10)) 14 (z14_11)) 15 (z15_12))
        funext j_ x_
        by_cases e0 : j_ = 0
        · subst e0
          by_cases y12 : x_ = 12
          · subst y12; rfl
          · by_cases y13 : x_ = 13
            · subst y13; rfl
            · by_cases y14 : x_ = 14
              · subst y14; rfl
              · by_cases y15 : x_ = 15
                · subst y15; rfl
                · simp [sr, upd, y12, y13, y14, y15]
        · by_cases e16 : j_ = 16
          · subst e16; rfl
          · by_cases e17 : j_ = 17
            · subst e17; rfl
            · by_cases e18 : j_ = 18
              · subst e18; rfl
              · by_cases e19 : j_ = 19
                · subst e19; rfl
                · by_cases e20 : j_ = 20
                  · subst e20; rfl
                  · by_cases e21 : j_ = 21
                    · subst e21; rfl
                    · simp only [sr, e0, e16, e17, e18, e19, e20, e21, if_false]
    · refine lv_aload_n hC.1 hC.2.1 dX0_find_26 rfl (lv_at hl 0 rfl) ?_
      refine lv_iload_n hC.1 hC.2.1 dX0_find_27 rfl (lv_at hl 1 rfl) ?_
      have h148 := (hru9.resolve_left (fun ⟨_, _, _, h2, _⟩ => absurd (h2.symm.trans c13) (by decide))).2.2.1
      refine q_callV (As := [.int (nI j)]) (rest := []) (q0 := 1) hC hw hl (tX0_byGoing l E a (sr σ 0 (upd (upd (upd (upd (σ 0) 12 ((nI 2))) 13 (z13_10)) 14 (z14_11)) 15 (z15_12))) nh nj E0 v j hN hE hS hFS (fun k hk => hX k hk) hA hW hj hj0 h148) (q_cwV hC.2.2.2.2.1 ⟨rfl, rfl⟩ wk4_68 wk4_70 wks_2_5 wk1_11 wk4_71 hd_X0_byGoing ⟨Nat.le_of_ble_eq_true rfl, Nat.le_of_ble_eq_true rfl⟩) rfl rfl rfl rfl rfl (Nat.le_of_ble_eq_true rfl) dX0_find_28 (fun r15 u16 H locs p14 hw => ?_)
      obtain ⟨b16_17, b17_18, b18_19, b19_20, b20_21, b21_22, z13_23, z14_24, hFu16, hru16, huu16⟩ := p14
      subst huu16
      have hst_ : sr (sr (sr (sr (sr (sr (sr (sr σ 0 (upd (upd (upd (upd (σ 0) 12 ((nI 2))) 13 (z13_10)) 14 (z14_11)) 15 (z15_12))) 16 b16_17) 17 b17_18) 18 b18_19) 19 b19_20) 20 b20_21) 21 b21_22) 0 (upd (upd (upd ((sr σ 0 (upd (upd (upd (upd (σ 0) 12 ((nI 2))) 13 (z13_10)) 14 (z14_11)) 15 (z15_12))) 0) 12 (nI 3)) 13 z13_23) 14 z14_24) = sr (sr (sr (sr (sr (sr (sr σ 16 (b16_17)) 17 (b17_18)) 18 (b18_19)) 19 (b19_20)) 20 (b20_21)) 21 (b21_22)) 0 (upd (upd (upd (upd (σ 0) 12 ((nI 3))) 13 (z13_23)) 14 (z14_24)) 15 (z15_12)) := by
        funext j_ x_
        by_cases e0 : j_ = 0
        · subst e0
          by_cases y12 : x_ = 12
          · subst y12; rfl
          · by_cases y13 : x_ = 13
            · subst y13; rfl
            · by_cases y14 : x_ = 14
              · subst y14; rfl
              · by_cases y15 : x_ = 15
                · subst y15; rfl
                · simp [sr, upd, y12, y13, y14, y15]
        · by_cases e16 : j_ = 16
          · subst e16; rfl
          · by_cases e17 : j_ = 17
            · subst e17; rfl
            · by_cases e18 : j_ = 18
              · subst e18; rfl
              · by_cases e19 : j_ = 19
                · subst e19; rfl
                · by_cases e20 : j_ = 20
                  · subst e20; rfl
                  · by_cases e21 : j_ = 21
                    · subst e21; rfl
                    · simp only [sr, e0, e16, e17, e18, e19, e20, e21, if_false]
      rw [hst_] at hw
      refine q_ifeq hC 38 cI dX0_find_31 (by decide) (fun (c25 : r15 = 0) => ?_) (fun (c25 : ¬ (r15 = 0)) => ?_)
      · refine lv_iconst (v := nI 0) hC.1 hC.2.1 dX0_find_38 (by decide) ?_
        refine hret _ _ _ _ _ _ hw ?_ (by decide) dX0_find_39
        refine ⟨b16_17, b17_18, b18_19, b19_20, b20_21, b21_22, (nI 3), z13_23, z14_24, z15_12, hFu16, ?_, ?_, ?_⟩
        · exact Or.inr ⟨(hru3.resolve_left (fun ⟨_, _, _, h2, _⟩ => absurd (h2.symm.trans c6) (by decide))).1, Or.inr ⟨(hru9.resolve_left (fun ⟨_, _, _, h2, _⟩ => absurd (h2.symm.trans c13) (by decide))).1, Or.inr ⟨(hru16.resolve_left (fun ⟨_, _, _, h2, _⟩ => absurd (h2.symm.trans c25) (by decide))).1, rfl⟩⟩⟩
        · exact Or.inr rfl
        · show sr (sr (sr (sr (sr (sr (sr σ 16 (b16_17)) 17 (b17_18)) 18 (b18_19)) 19 (b19_20)) 20 (b20_21)) 21 (b21_22)) 0 (upd (upd (upd (upd (σ 0) 12 ((nI 3))) 13 (z13_23)) 14 (z14_24)) 15 (z15_12)) = sr (sr (sr (sr (sr (sr (sr σ 16 (b16_17)) 17 (b17_18)) 18 (b18_19)) 19 (b19_20)) 20 (b20_21)) 21 (b21_22)) 0 (upd (upd (upd (upd (σ 0) 12 ((nI 3))) 13 (z13_23)) 14 (z14_24)) 15 (z15_12))
          funext j_ x_
          by_cases e0 : j_ = 0
          · subst e0
            by_cases y12 : x_ = 12
            · subst y12; rfl
            · by_cases y13 : x_ = 13
              · subst y13; rfl
              · by_cases y14 : x_ = 14
                · subst y14; rfl
                · by_cases y15 : x_ = 15
                  · subst y15; rfl
                  · simp [sr, upd, y12, y13, y14, y15]
          · by_cases e16 : j_ = 16
            · subst e16; rfl
            · by_cases e17 : j_ = 17
              · subst e17; rfl
              · by_cases e18 : j_ = 18
                · subst e18; rfl
                · by_cases e19 : j_ = 19
                  · subst e19; rfl
                  · by_cases e20 : j_ = 20
                    · subst e20; rfl
                    · by_cases e21 : j_ = 21
                      · subst e21; rfl
                      · simp only [sr, e0, e16, e17, e18, e19, e20, e21, if_false]
      · refine lv_iconst (v := nI 1) hC.1 hC.2.1 dX0_find_34 (by decide) ?_
        refine lv_goto (tgt := 39) hC.1 hC.2.1 dX0_find_35 (by decide) ?_
        refine hret _ _ _ _ _ _ hw ?_ (by decide) dX0_find_39
        refine ⟨b16_17, b17_18, b18_19, b19_20, b20_21, b21_22, (nI 3), z13_23, z14_24, z15_12, hFu16, ?_, ?_, ?_⟩
        · obtain ⟨y, x, h1, h2, h3, h4⟩ := hru16.resolve_right (fun q => c25 q.2.1)
          exact Or.inr ⟨(hru3.resolve_left (fun ⟨_, _, _, h2, _⟩ => absurd (h2.symm.trans c6) (by decide))).1, Or.inr ⟨(hru9.resolve_left (fun ⟨_, _, _, h2, _⟩ => absurd (h2.symm.trans c13) (by decide))).1, Or.inl ⟨y, x, h1, rfl, by rw [← h3, ← h4, (hru9.resolve_left (fun ⟨_, _, _, h2, _⟩ => absurd (h2.symm.trans c13) (by decide))).2.2.2]; exact c4_t _ _ _ _⟩⟩⟩
        · exact Or.inl rfl
        · show sr (sr (sr (sr (sr (sr (sr σ 16 (b16_17)) 17 (b17_18)) 18 (b18_19)) 19 (b19_20)) 20 (b20_21)) 21 (b21_22)) 0 (upd (upd (upd (upd (σ 0) 12 ((nI 3))) 13 (z13_23)) 14 (z14_24)) 15 (z15_12)) = sr (sr (sr (sr (sr (sr (sr σ 16 (b16_17)) 17 (b17_18)) 18 (b18_19)) 19 (b19_20)) 20 (b20_21)) 21 (b21_22)) 0 (upd (upd (upd (upd (σ 0) 12 ((nI 3))) 13 (z13_23)) 14 (z14_24)) 15 (z15_12))
          funext j_ x_
          by_cases e0 : j_ = 0
          · subst e0
            by_cases y12 : x_ = 12
            · subst y12; rfl
            · by_cases y13 : x_ = 13
              · subst y13; rfl
              · by_cases y14 : x_ = 14
                · subst y14; rfl
                · by_cases y15 : x_ = 15
                  · subst y15; rfl
                  · simp [sr, upd, y12, y13, y14, y15]
          · by_cases e16 : j_ = 16
            · subst e16; rfl
            · by_cases e17 : j_ = 17
              · subst e17; rfl
              · by_cases e18 : j_ = 18
                · subst e18; rfl
                · by_cases e19 : j_ = 19
                  · subst e19; rfl
                  · by_cases e20 : j_ = 20
                    · subst e20; rfl
                    · by_cases e21 : j_ = 21
                      · subst e21; rfl
                      · simp only [sr, e0, e16, e17, e18, e19, e20, e21, if_false]
set_option maxHeartbeats 4000000 in
set_option maxRecDepth 100000 in
theorem tX0_part (l : Launch) (E : EV) (a : Nat → Nat) (σ : St) (what : Int32) : MI l E (XW E a) yX0_part (Cond.code yX0_part cX0_part 2 (some .int)) ({ frames := 0, cells := 0, slots := 0, locals := 0 }) [.ref (a 61), .int (what)] σ (fun r_ u_ => r_ = (c4 (σ 0 12) (σ 0 13) (σ 0 14) (σ 0 15) (if what = 0 then 0 else if what = 1 then 1 else if what = 2 then 2 else 3)) ∧ u_ = σ) := by
  refine MI.mk (by decide +kernel) (Nat.le_of_ble_eq_true rfl) ?_
  intro p e s m args below meth c ls A Q hret hC hw hl
  have hC : Cxt E p s m args meth c cX0_part 2 (some .int) RX0 A := hC
  have hl : lv_has ls 2 [(0, .ref (a 61)), (1, .int (what))] := hl
  refine lv_iload_n hC.1 hC.2.1 dX0_part_0 rfl (lv_at hl 1 rfl) ?_
  rcases Classical.em (what = 0) with k1 | k1
  · subst k1
    refine lv_tableIn (tgt := 28) hC.1 hC.2.1 dX0_part_1 (by decide) (by decide) (by rfl) (by decide) ?_
    refine lv_aload_n hC.1 hC.2.1 dX0_part_28 rfl (lv_at hl 0 rfl) ?_
    refine gf_X0_27 (v := σ 0 12) hC hw rfl dX0_part_29 ?_
    refine hret _ _ _ _ _ _ hw ?_ rfl dX0_part_32
    exact ⟨rfl, rfl⟩
  rcases Classical.em (what = 1) with k2 | k2
  · subst k2
    refine lv_tableIn (tgt := 33) hC.1 hC.2.1 dX0_part_1 (by decide) (by decide) (by rfl) (by decide) ?_
    refine lv_aload_n hC.1 hC.2.1 dX0_part_33 rfl (lv_at hl 0 rfl) ?_
    refine gf_X0_31 (v := σ 0 13) hC hw rfl dX0_part_34 ?_
    refine hret _ _ _ _ _ _ hw ?_ rfl dX0_part_37
    exact ⟨rfl, rfl⟩
  rcases Classical.em (what = 2) with k3 | k3
  · subst k3
    refine lv_tableIn (tgt := 38) hC.1 hC.2.1 dX0_part_1 (by decide) (by decide) (by rfl) (by decide) ?_
    refine lv_aload_n hC.1 hC.2.1 dX0_part_38 rfl (lv_at hl 0 rfl) ?_
    refine gf_X0_34 (v := σ 0 14) hC hw rfl dX0_part_39 ?_
    refine hret _ _ _ _ _ _ hw ?_ rfl dX0_part_42
    exact ⟨rfl, rfl⟩
  refine lv_tableOut (tgt := 43) hC.1 hC.2.1 dX0_part_1 (sw_out_0_2 k1 k2 k3) (by decide) ?_
  refine lv_aload_n hC.1 hC.2.1 dX0_part_43 rfl (lv_at hl 0 rfl) ?_
  refine gf_X0_37 (v := σ 0 15) hC hw rfl dX0_part_44 ?_
  refine hret _ _ _ _ _ _ hw ?_ rfl dX0_part_47
  exact ⟨by rw [if_neg k1, if_neg k2, if_neg k3]; rfl, rfl⟩
