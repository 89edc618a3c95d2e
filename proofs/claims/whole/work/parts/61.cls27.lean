theorem c_sts_eq {σ : St} {v : Nat → Int32} {nj : Nat} {x : Int32} (hX : JX σ v nj) : c_sts (σ 11) x nj = m_sts v x nj := sm_congr (fun k hk => by rw [(hX k hk).2.2.1])
theorem c_tgs_eq {σ : St} {v : Nat → Int32} {nh nj : Nat} (h14 : ∀ j, j < nj → σ 14 j = eM v 14 j) (hT : TGr v nh nj) (hn : nh ≤ 10) : c_tgs (σ 14) nj = m_tgs v nj := sm_congr (fun k hk => by
  rw [h14 k hk]
  by_cases q : eM v 14 k = -1
  · rw [if_neg (fun z => z q), if_pos ((hT.neg hn hk).mp q)]
  · rw [if_pos q, if_neg (fun z => q ((hT.neg hn hk).mpr z))])
theorem c_ups_eq {σ : St} {v : Nat → Int32} {nh nj : Nat} (hA : agE σ (eM v) nh nj) (hS : cS σ nh nj) : c_ups (σ 4) nh = m_ups v nh := sm_congr (fun k hk => by
  rw [← (hA.1 k hk).2.2.2]
  rcases (hS.2.2.1 k hk).2.1 with e | e <;> rw [e] <;> decide)
set_option maxHeartbeats 4000000 in
set_option maxRecDepth 100000 in
theorem tX10_areAmounts (l : Launch) (E : EV) (a : Nat → Nat) (σ : St) (a1 : Int32) (b1 : Int32) (c1 : Int32) : MI l E (XW E a) yX10_areAmounts (Cond.code yX10_areAmounts cX10_areAmounts 3 (some .boolean)) ({ frames := 1, cells := 0, slots := 0, locals := 21 }) [.int (a1), .int (b1), .int (c1)] σ (fun r_ u_ => r_ = (if okA a1 b1 c1 then (1 : Int32) else 0) ∧ u_ = σ) := by
  refine MI.mk (by decide +kernel) (Nat.le_of_ble_eq_true rfl) ?_
  intro p e s m args below meth c ls A Q hret hC hw hl
  have hC : Cxt E p s m args meth c cX10_areAmounts 3 (some .boolean) RX10 A := hC
  have hl : lv_has ls 3 [(0, .int (a1)), (1, .int (b1)), (2, .int (c1))] := hl
  refine lv_iload_n hC.1 hC.2.1 dX10_areAmounts_0 rfl (lv_at hl 0 rfl) ?_
  refine lv_sipush (v := nI 1001) hC.1 hC.2.1 dX10_areAmounts_1 (by decide) ?_
  refine q_callSp (As := [.int (a1), .int (nI 1001)]) (rest := []) hC hw hl (tX10_isBelow l E a σ a1 1001) (q_cwS hC.2.2.2.2.1 ⟨rfl, rfl⟩ wk2_175 wk2_176 wk1_1 wk2_177 hd_X10_isBelow.2 ⟨Nat.le_of_ble_eq_true rfl, Nat.le_of_ble_eq_true rfl⟩) rfl rfl (Nat.le_of_ble_eq_true rfl) dX10_areAmounts_4 (fun H locs hw => ?_)
  have J35_5 : ∀ (w4 : Int32), w4 = (if (¬ a1 < 0 ∧ a1 < 1001) ∧ ((¬ b1 < 0 ∧ b1 < 1001) ∧ (¬ c1 < 0 ∧ c1 < 1001)) then (1 : Int32) else 0) → ∀ (H : Heap) (locs : List Loc) (ls : Array Slot), Wst E (XW E a) (σ) A s.heap H locs → lv_has ls 3 [(0, .int (a1)), (1, .int (b1)), (2, .int (c1))] → W p l e ({ frames := 1, cells := 0, slots := 0, locals := 21 }) s m args below meth c H locs 0 0 Q (F0 m 35 ls [.int (w4)]) := by
    intro w4 e5 H locs ls hw hl
    subst e5
    refine hret _ _ _ _ _ _ hw ?_ nz_B dX10_areAmounts_35
    exact ⟨ite_iff Iff.rfl, rfl⟩
  refine q_ifeq hC 34 cB dX10_areAmounts_7 (by decide) (fun (c6 : ¬ (¬ a1 < 0 ∧ a1 < 1001)) => ?_) (fun (c6 : ¬ a1 < 0 ∧ a1 < 1001) => ?_)
  · refine lv_iconst (v := nI 0) hC.1 hC.2.1 dX10_areAmounts_34 (by decide) ?_
    exact J35_5 _ (if_neg (fun q => c6 q.1)).symm _ _ _ hw (lv_sub hl [0, 1, 2] rfl)
  · refine lv_iload_n hC.1 hC.2.1 dX10_areAmounts_10 rfl (lv_at hl 1 rfl) ?_
    refine lv_sipush (v := nI 1001) hC.1 hC.2.1 dX10_areAmounts_11 (by decide) ?_
    refine q_callSp (As := [.int (b1), .int (nI 1001)]) (rest := []) hC hw hl (tX10_isBelow l E a σ b1 1001) (q_cwS hC.2.2.2.2.1 ⟨rfl, rfl⟩ wk2_175 wk2_176 wk1_1 wk2_177 hd_X10_isBelow.2 ⟨Nat.le_of_ble_eq_true rfl, Nat.le_of_ble_eq_true rfl⟩) rfl rfl (Nat.le_of_ble_eq_true rfl) dX10_areAmounts_14 (fun H locs hw => ?_)
    refine q_ifeq hC 34 cB dX10_areAmounts_17 (by decide) (fun (c10 : ¬ (¬ b1 < 0 ∧ b1 < 1001)) => ?_) (fun (c10 : ¬ b1 < 0 ∧ b1 < 1001) => ?_)
    · refine lv_iconst (v := nI 0) hC.1 hC.2.1 dX10_areAmounts_34 (by decide) ?_
      exact J35_5 _ (if_neg (fun q => (fun q => c10 q.1) q.2)).symm _ _ _ hw (lv_sub hl [0, 1, 2] rfl)
    · refine lv_iload_n hC.1 hC.2.1 dX10_areAmounts_20 rfl (lv_at hl 2 rfl) ?_
      refine lv_sipush (v := nI 1001) hC.1 hC.2.1 dX10_areAmounts_21 (by decide) ?_
      refine q_callSp (As := [.int (c1), .int (nI 1001)]) (rest := []) hC hw hl (tX10_isBelow l E a σ c1 1001) (q_cwS hC.2.2.2.2.1 ⟨rfl, rfl⟩ wk2_175 wk2_176 wk1_1 wk2_177 hd_X10_isBelow.2 ⟨Nat.le_of_ble_eq_true rfl, Nat.le_of_ble_eq_true rfl⟩) rfl rfl (Nat.le_of_ble_eq_true rfl) dX10_areAmounts_24 (fun H locs hw => ?_)
      refine q_ifeq hC 34 cB dX10_areAmounts_27 (by decide) (fun (c14 : ¬ (¬ c1 < 0 ∧ c1 < 1001)) => ?_) (fun (c14 : ¬ c1 < 0 ∧ c1 < 1001) => ?_)
      · refine lv_iconst (v := nI 0) hC.1 hC.2.1 dX10_areAmounts_34 (by decide) ?_
        exact J35_5 _ (if_neg (fun q => (fun q => c14 q.2) q.2)).symm _ _ _ hw (lv_sub hl [0, 1, 2] rfl)
      · refine lv_iconst (v := nI 1) hC.1 hC.2.1 dX10_areAmounts_30 (by decide) ?_
        refine lv_goto (tgt := 35) hC.1 hC.2.1 dX10_areAmounts_31 (by decide) ?_
        exact J35_5 _ (if_pos ⟨c6, ⟨c10, c14⟩⟩).symm _ _ _ hw (lv_sub hl [0, 1, 2] rfl)
set_option maxHeartbeats 4000000 in
set_option maxRecDepth 100000 in
theorem tX10_why (l : Launch) (E : EV) (a : Nat → Nat) (σ : St) (nh : Nat) (nj : Nat) (v : Nat → Int32) (stk : List (Nat → Int32)) (T : Nat) (job : Int32) (host : Int32) (hCL : CL σ v nh nj stk T) : MI l E (XW E a) yX10_why (Cond.code yX10_why cX10_why 3 (some .int)) ({ frames := 2, cells := 0, slots := 0, locals := 51 }) [.ref (a 71), .int (job), .int (host)] σ (fun r_ u_ => r_ = (o_why v nh nj job host) ∧ u_ = σ) := by
  refine MI.mk (by decide +kernel) (Nat.le_of_ble_eq_true rfl) ?_
  intro p e s m args below meth c ls A Q hret hC hw hl
  have hC : Cxt E p s m args meth c cX10_why 3 (some .int) RX10 A := hC
  have hl : lv_has ls 3 [(0, .ref (a 71)), (1, .int (job)), (2, .int (host))] := hl
  have hXR := hCL.1
  have hV := hCL.2.1
  have hFS := hCL.2.2.1
  have hRG := hCL.2.2.2.1
  have hSK := hCL.2.2.2.2
  have hN := hXR.1
  have hA := hXR.2.2.1
  have hX := hXR.2.2.2.1
  have hW := hV.1
  have hS : cS σ nh nj := cS.ag hA hV.2.2.1
  have hE : aE σ σ := aE.rf
  have hnh := hS.1
  have hnj := hS.2.1
  refine lv_aload_n hC.1 hC.2.1 dX10_why_0 rfl (lv_at hl 0 rfl) ?_
  refine gf_X10_19 hC hw dX10_why_1 ?_
  refine lv_iload_n hC.1 hC.2.1 dX10_why_4 rfl (lv_at hl 1 rfl) ?_
  refine q_callVp (As := [.int (job)]) (rest := []) (q0 := 7) hC hw hl (tX6_has l E a σ nh nj job (by first | assumption | omega)) (q_cwV hC.2.2.2.2.1 ⟨rfl, rfl⟩ wk2_232 wk2_205 wk2_206 wk1_3 wk2_207 hd_X6_has ⟨Nat.le_of_ble_eq_true rfl, Nat.le_of_ble_eq_true rfl⟩) rfl rfl rfl rfl rfl (Nat.le_of_ble_eq_true rfl) dX10_why_5 (fun H locs hw => ?_)
  refine q_ifeq hC 22 cB dX10_why_8 (by decide) (fun (c4 : ¬ (¬ job < 0 ∧ job < nI nj)) => ?_) (fun (c4 : ¬ job < 0 ∧ job < nI nj) => ?_)
  · refine lv_iconst (v := (-1)) hC.1 hC.2.1 dX10_why_22 (by decide) ?_
    refine hret _ _ _ _ _ _ hw ?_ rfl dX10_why_23
    exact ⟨by rw [o_why, if_neg (fun q => c4 q.1)], rfl⟩
  · refine lv_aload_n hC.1 hC.2.1 dX10_why_11 rfl (lv_at hl 0 rfl) ?_
    refine gf_X10_10 hC hw dX10_why_12 ?_
    refine lv_iload_n hC.1 hC.2.1 dX10_why_15 rfl (lv_at hl 2 rfl) ?_
    refine q_callVp (As := [.int (host)]) (rest := []) (q0 := 6) hC hw hl (tX5_has l E a σ nh nj host (by first | assumption | omega)) (q_cwV hC.2.2.2.2.1 ⟨rfl, rfl⟩ wk2_233 wk2_209 wk2_210 wk1_2 wk2_211 hd_X5_has ⟨Nat.le_of_ble_eq_true rfl, Nat.le_of_ble_eq_true rfl⟩) rfl rfl rfl rfl rfl (Nat.le_of_ble_eq_true rfl) dX10_why_16 (fun H locs hw => ?_)
    refine q_ifne hC 24 cB dX10_why_19 (by decide) (fun (c8 : ¬ host < 0 ∧ host < nI nh) => ?_) (fun (c8 : ¬ (¬ host < 0 ∧ host < nI nh)) => ?_)
    · obtain ⟨jn, h_jn, rfl⟩ := in_nat (by omega) c4
      have z_jn := nI_clamp (show jn < 2 ^ 31 by omega)
      have y_jn : cN (nI jn) = jn := z_jn
      obtain ⟨hn, h_hn, rfl⟩ := in_nat (by omega) c8
      have z_hn := nI_clamp (show hn < 2 ^ 31 by omega)
      have y_hn : cN (nI hn) = hn := z_hn
      refine lv_aload_n hC.1 hC.2.1 dX10_why_24 rfl (lv_at hl 0 rfl) ?_
      refine gf_X10_19 hC hw dX10_why_25 ?_
      refine gf_X10_126 hC hw dX10_why_28 ?_
      refine lv_iload_n hC.1 hC.2.1 dX10_why_31 rfl (lv_at hl 1 rfl) ?_
      refine al_X11 (v := σ 11 jn) hC hw (by omega) rfl dX10_why_32 ?_
      refine q_ifeq hC 39 cI dX10_why_33 (by decide) (fun (c9 : σ 11 jn = 0) => ?_) (fun (c9 : ¬ (σ 11 jn = 0)) => ?_)
      · refine lv_aload_n hC.1 hC.2.1 dX10_why_39 rfl (lv_at hl 0 rfl) ?_
        refine gf_X10_32 hC hw dX10_why_40 ?_
        refine lv_iload_n hC.1 hC.2.1 dX10_why_43 rfl (lv_at hl 1 rfl) ?_
        refine lv_iload_n hC.1 hC.2.1 dX10_why_44 rfl (lv_at hl 2 rfl) ?_
        refine q_callVp (As := [.int (nI jn), .int (nI hn)]) (rest := []) (q0 := 5) hC hw hl (tX4_reason l E a σ nh nj σ (pB (eM v) (-1)) jn hn hN hE hS hFS (by omega) (by omega)) (q_cwV hC.2.2.2.2.1 ⟨rfl, rfl⟩ wk2_234 wk2_235 wk2_236 wk1_4 wk2_237 hd_X4_reason ⟨Nat.le_of_ble_eq_true rfl, Nat.le_of_ble_eq_true rfl⟩) rfl rfl rfl rfl rfl (Nat.le_of_ble_eq_true rfl) dX10_why_45 (fun H locs hw => ?_)
        refine hret _ _ _ _ _ _ hw ?_ rfl dX10_why_48
        have hj0 : eM v 11 jn = 0 := (hX jn (by omega)).2.2.1.symm.trans c9
        exact ⟨by rw [o_why, if_pos ⟨c4, c8⟩, y_jn, if_pos hj0, y_hn]; exact m_why_congr hA (ad_P hW (by omega) hj0) (pB_ok hW) hnh (by omega) (by omega), rfl⟩
      · refine lv_bipush (v := (-2)) hC.1 hC.2.1 dX10_why_36 (by decide) ?_
        refine hret _ _ _ _ _ _ hw ?_ rfl dX10_why_38
        exact ⟨by rw [o_why, if_pos ⟨c4, c8⟩, y_jn, if_neg (fun q => c9 ((hX jn (by omega)).2.2.1.trans q))], rfl⟩
    · refine lv_iconst (v := (-1)) hC.1 hC.2.1 dX10_why_22 (by decide) ?_
      refine hret _ _ _ _ _ _ hw ?_ rfl dX10_why_23
      exact ⟨by rw [o_why, if_neg (fun q => c8 q.2)], rfl⟩
set_option maxHeartbeats 4000000 in
set_option maxRecDepth 100000 in
theorem tX10_points (l : Launch) (E : EV) (a : Nat → Nat) (σ : St) (nh : Nat) (nj : Nat) (v : Nat → Int32) (stk : List (Nat → Int32)) (T : Nat) (job : Int32) (host : Int32) (hCL : CL σ v nh nj stk T) : MI l E (XW E a) yX10_points (Cond.code yX10_points cX10_points 3 (some .int)) ({ frames := 2, cells := 0, slots := 0, locals := 47 }) [.ref (a 71), .int (job), .int (host)] σ (fun r_ u_ => r_ = (o_points v nh nj job host) ∧ u_ = σ) := by
  refine MI.mk (by decide +kernel) (Nat.le_of_ble_eq_true rfl) ?_
  intro p e s m args below meth c ls A Q hret hC hw hl
  have hC : Cxt E p s m args meth c cX10_points 3 (some .int) RX10 A := hC
  have hl : lv_has ls 3 [(0, .ref (a 71)), (1, .int (job)), (2, .int (host))] := hl
  have hXR := hCL.1
  have hV := hCL.2.1
  have hFS := hCL.2.2.1
  have hRG := hCL.2.2.2.1
  have hSK := hCL.2.2.2.2
  have hN := hXR.1
  have hA := hXR.2.2.1
  have hX := hXR.2.2.2.1
  have hW := hV.1
  have hS : cS σ nh nj := cS.ag hA hV.2.2.1
  have hE : aE σ σ := aE.rf
  have hnh := hS.1
  have hnj := hS.2.1
  refine lv_aload_n hC.1 hC.2.1 dX10_points_0 rfl (lv_at hl 0 rfl) ?_
  refine gf_X10_19 hC hw dX10_points_1 ?_
  refine lv_iload_n hC.1 hC.2.1 dX10_points_4 rfl (lv_at hl 1 rfl) ?_
  refine q_callVp (As := [.int (job)]) (rest := []) (q0 := 7) hC hw hl (tX6_has l E a σ nh nj job (by first | assumption | omega)) (q_cwV hC.2.2.2.2.1 ⟨rfl, rfl⟩ wk2_232 wk2_205 wk2_206 wk1_3 wk2_207 hd_X6_has ⟨Nat.le_of_ble_eq_true rfl, Nat.le_of_ble_eq_true rfl⟩) rfl rfl rfl rfl rfl (Nat.le_of_ble_eq_true rfl) dX10_points_5 (fun H locs hw => ?_)
  refine q_ifeq hC 22 cB dX10_points_8 (by decide) (fun (c4 : ¬ (¬ job < 0 ∧ job < nI nj)) => ?_) (fun (c4 : ¬ job < 0 ∧ job < nI nj) => ?_)
  · refine lv_ldc (v := -1000001) hC.1 hC.2.1 hC.2.2.2.1 (hC.2.2.2.2.1 _ wk3_14) dX10_points_22 ?_
    refine hret _ _ _ _ _ _ hw ?_ rfl dX10_points_24
    exact ⟨by rw [o_points, if_neg (fun q => c4 q.1)], rfl⟩
  · refine lv_aload_n hC.1 hC.2.1 dX10_points_11 rfl (lv_at hl 0 rfl) ?_
    refine gf_X10_10 hC hw dX10_points_12 ?_
    refine lv_iload_n hC.1 hC.2.1 dX10_points_15 rfl (lv_at hl 2 rfl) ?_
    refine q_callVp (As := [.int (host)]) (rest := []) (q0 := 6) hC hw hl (tX5_has l E a σ nh nj host (by first | assumption | omega)) (q_cwV hC.2.2.2.2.1 ⟨rfl, rfl⟩ wk2_233 wk2_209 wk2_210 wk1_2 wk2_211 hd_X5_has ⟨Nat.le_of_ble_eq_true rfl, Nat.le_of_ble_eq_true rfl⟩) rfl rfl rfl rfl rfl (Nat.le_of_ble_eq_true rfl) dX10_points_16 (fun H locs hw => ?_)
    refine q_ifne hC 25 cB dX10_points_19 (by decide) (fun (c8 : ¬ host < 0 ∧ host < nI nh) => ?_) (fun (c8 : ¬ (¬ host < 0 ∧ host < nI nh)) => ?_)
    · obtain ⟨jn, h_jn, rfl⟩ := in_nat (by omega) c4
      have z_jn := nI_clamp (show jn < 2 ^ 31 by omega)
      have y_jn : cN (nI jn) = jn := z_jn
      obtain ⟨hn, h_hn, rfl⟩ := in_nat (by omega) c8
      have z_hn := nI_clamp (show hn < 2 ^ 31 by omega)
      have y_hn : cN (nI hn) = hn := z_hn
      refine lv_aload_n hC.1 hC.2.1 dX10_points_25 rfl (lv_at hl 0 rfl) ?_
      refine gf_X10_19 hC hw dX10_points_26 ?_
      refine gf_X10_126 hC hw dX10_points_29 ?_
      refine lv_iload_n hC.1 hC.2.1 dX10_points_32 rfl (lv_at hl 1 rfl) ?_
      refine al_X11 (v := σ 11 jn) hC hw (by omega) rfl dX10_points_33 ?_
      refine q_ifeq hC 40 cI dX10_points_34 (by decide) (fun (c9 : σ 11 jn = 0) => ?_) (fun (c9 : ¬ (σ 11 jn = 0)) => ?_)
      · refine lv_aload_n hC.1 hC.2.1 dX10_points_40 rfl (lv_at hl 0 rfl) ?_
        refine gf_X10_32 hC hw dX10_points_41 ?_
        refine lv_iload_n hC.1 hC.2.1 dX10_points_44 rfl (lv_at hl 1 rfl) ?_
        refine lv_iload_n hC.1 hC.2.1 dX10_points_45 rfl (lv_at hl 2 rfl) ?_
        refine q_callVp (As := [.int (nI jn), .int (nI hn)]) (rest := []) (q0 := 5) hC hw hl (tX4_score l E a σ nh nj σ (pB (eM v) (-1)) jn hn hN hE hS hFS (by omega) (by omega)) (q_cwV hC.2.2.2.2.1 ⟨rfl, rfl⟩ wk3_16 wk3_17 wk3_18 wk1_4 wk3_19 hd_X4_score ⟨Nat.le_of_ble_eq_true rfl, Nat.le_of_ble_eq_true rfl⟩) rfl rfl rfl rfl rfl (Nat.le_of_ble_eq_true rfl) dX10_points_46 (fun H locs hw => ?_)
        refine hret _ _ _ _ _ _ hw ?_ rfl dX10_points_49
        have hj0 : eM v 11 jn = 0 := (hX jn (by omega)).2.2.1.symm.trans c9
        exact ⟨by rw [o_points, if_pos ⟨c4, c8⟩, y_jn, if_pos hj0, y_hn]; exact m_pts_congr hA hXR.2.2.2.2.2 (ad_P hW (by omega) hj0) (pB_ok hW) hnh (by omega) (by omega), rfl⟩
      · refine lv_ldc (v := -1000002) hC.1 hC.2.1 hC.2.2.2.1 (hC.2.2.2.2.1 _ wk3_15) dX10_points_37 ?_
        refine hret _ _ _ _ _ _ hw ?_ rfl dX10_points_39
        exact ⟨by rw [o_points, if_pos ⟨c4, c8⟩, y_jn, if_neg (fun q => c9 ((hX jn (by omega)).2.2.1.trans q))], rfl⟩
    · refine lv_ldc (v := -1000001) hC.1 hC.2.1 hC.2.2.2.1 (hC.2.2.2.2.1 _ wk3_14) dX10_points_22 ?_
      refine hret _ _ _ _ _ _ hw ?_ rfl dX10_points_24
      exact ⟨by rw [o_points, if_neg (fun q => c8 q.2)], rfl⟩
set_option maxHeartbeats 4000000 in
set_option maxRecDepth 100000 in
theorem tX10_left (l : Launch) (E : EV) (a : Nat → Nat) (σ : St) (nh : Nat) (nj : Nat) (v : Nat → Int32) (stk : List (Nat → Int32)) (T : Nat) (host : Int32) (i : Int32) (hCL : CL σ v nh nj stk T) : MI l E (XW E a) yX10_left (Cond.code yX10_left cX10_left 3 (some .int)) ({ frames := 1, cells := 0, slots := 0, locals := 21 }) [.ref (a 71), .int (host), .int (i)] σ (fun r_ u_ => r_ = (o_left v nh nj host i) ∧ u_ = σ) := by
  refine MI.mk (by decide +kernel) (Nat.le_of_ble_eq_true rfl) ?_
  intro p e s m args below meth c ls A Q hret hC hw hl
  have hC : Cxt E p s m args meth c cX10_left 3 (some .int) RX10 A := hC
  have hl : lv_has ls 3 [(0, .ref (a 71)), (1, .int (host)), (2, .int (i))] := hl
  have hXR := hCL.1
  have hV := hCL.2.1
  have hFS := hCL.2.2.1
  have hRG := hCL.2.2.2.1
  have hSK := hCL.2.2.2.2
  have hN := hXR.1
  have hA := hXR.2.2.1
  have hX := hXR.2.2.2.1
  have hW := hV.1
  have hS : cS σ nh nj := cS.ag hA hV.2.2.1
  have hE : aE σ σ := aE.rf
  have hnh := hS.1
  have hnj := hS.2.1
  refine lv_aload_n hC.1 hC.2.1 dX10_left_0 rfl (lv_at hl 0 rfl) ?_
  refine gf_X10_10 hC hw dX10_left_1 ?_
  refine lv_iload_n hC.1 hC.2.1 dX10_left_4 rfl (lv_at hl 1 rfl) ?_
  refine q_callVp (As := [.int (host)]) (rest := []) (q0 := 6) hC hw hl (tX5_has l E a σ nh nj host (by first | assumption | omega)) (q_cwV hC.2.2.2.2.1 ⟨rfl, rfl⟩ wk2_233 wk2_209 wk2_210 wk1_2 wk2_211 hd_X5_has ⟨Nat.le_of_ble_eq_true rfl, Nat.le_of_ble_eq_true rfl⟩) rfl rfl rfl rfl rfl (Nat.le_of_ble_eq_true rfl) dX10_left_5 (fun H locs hw => ?_)
  refine q_ifeq hC 19 cB dX10_left_8 (by decide) (fun (c4 : ¬ (¬ host < 0 ∧ host < nI nh)) => ?_) (fun (c4 : ¬ host < 0 ∧ host < nI nh) => ?_)
  · refine lv_iconst (v := (-1)) hC.1 hC.2.1 dX10_left_19 (by decide) ?_
    refine hret _ _ _ _ _ _ hw ?_ rfl dX10_left_20
    exact ⟨by rw [o_left, if_neg (fun q => c4 q.1)], rfl⟩
  · refine lv_iload_n hC.1 hC.2.1 dX10_left_11 rfl (lv_at hl 2 rfl) ?_
    refine lv_iconst (v := nI 3) hC.1 hC.2.1 dX10_left_12 (by decide) ?_
    refine q_callSp (As := [.int (i), .int (nI 3)]) (rest := []) hC hw hl (tX10_isBelow l E a σ i 3) (q_cwS hC.2.2.2.2.1 ⟨rfl, rfl⟩ wk2_175 wk2_176 wk1_1 wk2_177 hd_X10_isBelow.2 ⟨Nat.le_of_ble_eq_true rfl, Nat.le_of_ble_eq_true rfl⟩) rfl rfl (Nat.le_of_ble_eq_true rfl) dX10_left_13 (fun H locs hw => ?_)
    refine q_ifne hC 21 cB dX10_left_16 (by decide) (fun (c8 : ¬ i < 0 ∧ i < 3) => ?_) (fun (c8 : ¬ (¬ i < 0 ∧ i < 3)) => ?_)
    · obtain ⟨hn, h_hn, rfl⟩ := in_nat (by omega) c4
      have z_hn := nI_clamp (show hn < 2 ^ 31 by omega)
      have y_hn : cN (nI hn) = hn := z_hn
      obtain ⟨xn, h_xn, rfl⟩ := in_nat (n := 3) (by decide) c8
      have z_xn := nI_clamp (show xn < 2 ^ 31 by omega)
      have y_xn : cN (nI xn) = xn := z_xn
      refine lv_aload_n hC.1 hC.2.1 dX10_left_21 rfl (lv_at hl 0 rfl) ?_
      refine gf_X10_32 hC hw dX10_left_22 ?_
      refine gf_X10_137 hC hw dX10_left_25 ?_
      refine lv_iload_n hC.1 hC.2.1 dX10_left_28 rfl (lv_at hl 1 rfl) ?_
      refine lv_iconst (v := nI 3) hC.1 hC.2.1 dX10_left_29 (by decide) ?_
      refine q_mulN hC dX10_left_30 ?_
      refine lv_iload_n hC.1 hC.2.1 dX10_left_31 rfl (lv_at hl 2 rfl) ?_
      refine q_addN hC dX10_left_32 ?_
      refine al_X16 (v := m_left σ (pB (eM v) (-1)) nj hn xn) hC hw (by omega) ((hFS.1 hn (by omega)).1 xn (by omega)) dX10_left_33 ?_
      refine hret _ _ _ _ _ _ hw ?_ rfl dX10_left_34
      exact ⟨by rw [o_left, if_pos ⟨c4, c8⟩, y_hn, y_xn]; exact m_left_congr hA (fun _ _ => rfl) (by omega) (by omega), rfl⟩
    · refine lv_iconst (v := (-1)) hC.1 hC.2.1 dX10_left_19 (by decide) ?_
      refine hret _ _ _ _ _ _ hw ?_ rfl dX10_left_20
      exact ⟨by rw [o_left, if_neg (fun q => c8 q.2)], rfl⟩
set_option maxHeartbeats 4000000 in
set_option maxRecDepth 100000 in
theorem tX10_told (l : Launch) (E : EV) (a : Nat → Nat) (σ : St) (nh : Nat) (nj : Nat) (v : Nat → Int32) (stk : List (Nat → Int32)) (T : Nat) (job : Int32) (what : Int32) (hCL : CL σ v nh nj stk T) : MI l E (XW E a) yX10_told (Cond.code yX10_told cX10_told 4 (some .int)) ({ frames := 1, cells := 0, slots := 0, locals := 21 }) [.ref (a 71), .int (job), .int (what)] σ (fun r_ u_ => r_ = (o_told v nj job what) ∧ u_ = σ) := by
  refine MI.mk (by decide +kernel) (Nat.le_of_ble_eq_true rfl) ?_
  intro p e s m args below meth c ls A Q hret hC hw hl
  have hC : Cxt E p s m args meth c cX10_told 4 (some .int) RX10 A := hC
  have hl : lv_has ls 4 [(0, .ref (a 71)), (1, .int (job)), (2, .int (what))] := hl
  have hXR := hCL.1
  have hV := hCL.2.1
  have hFS := hCL.2.2.1
  have hRG := hCL.2.2.2.1
  have hSK := hCL.2.2.2.2
  have hN := hXR.1
  have hA := hXR.2.2.1
  have hX := hXR.2.2.2.1
  have hW := hV.1
  have hS : cS σ nh nj := cS.ag hA hV.2.2.1
  have hE : aE σ σ := aE.rf
  have hnh := hS.1
  have hnj := hS.2.1
  refine lv_aload_n hC.1 hC.2.1 dX10_told_0 rfl (lv_at hl 0 rfl) ?_
  refine gf_X10_19 hC hw dX10_told_1 ?_
  refine lv_iload_n hC.1 hC.2.1 dX10_told_4 rfl (lv_at hl 1 rfl) ?_
  refine q_callVp (As := [.int (job)]) (rest := []) (q0 := 7) hC hw hl (tX6_has l E a σ nh nj job (by first | assumption | omega)) (q_cwV hC.2.2.2.2.1 ⟨rfl, rfl⟩ wk2_232 wk2_205 wk2_206 wk1_3 wk2_207 hd_X6_has ⟨Nat.le_of_ble_eq_true rfl, Nat.le_of_ble_eq_true rfl⟩) rfl rfl rfl rfl rfl (Nat.le_of_ble_eq_true rfl) dX10_told_5 (fun H locs hw => ?_)
  refine q_ifne hC 13 cB dX10_told_8 (by decide) (fun (c4 : ¬ job < 0 ∧ job < nI nj) => ?_) (fun (c4 : ¬ (¬ job < 0 ∧ job < nI nj)) => ?_)
  · obtain ⟨jn, h_jn, rfl⟩ := in_nat (by omega) c4
    have z_jn := nI_clamp (show jn < 2 ^ 31 by omega)
    have y_jn : cN (nI jn) = jn := z_jn
    refine lv_aload_n hC.1 hC.2.1 dX10_told_13 rfl (lv_at hl 0 rfl) ?_
    refine gf_X10_19 hC hw dX10_told_14 ?_
    refine gf_X10_126 hC hw dX10_told_17 ?_
    refine lv_iload_n hC.1 hC.2.1 dX10_told_20 rfl (lv_at hl 1 rfl) ?_
    refine al_X11 (v := σ 11 jn) hC hw (by omega) rfl dX10_told_21 ?_
    refine lv_iconst (v := nI 1) hC.1 hC.2.1 dX10_told_22 (by decide) ?_
    have J31_6 : ∀ (w5 : Int32), w5 = (if σ 11 jn = 1 then (1 : Int32) else 0) → ∀ (H : Heap) (locs : List Loc) (ls : Array Slot), Wst E (XW E a) (σ) A s.heap H locs → lv_has ls 4 [(0, .ref (a 71)), (1, .int (nI jn)), (2, .int (what))] → W p l e ({ frames := 1, cells := 0, slots := 0, locals := 21 }) s m args below meth c H locs 0 0 Q (F0 m 31 ls [.int (w5)]) := by
      intro w5 e6 H locs ls hw hl
      subst e6
      refine lv_istore_n (lv' := [(3, .int (if σ 11 jn = 1 then (1 : Int32) else 0)), (0, .ref (a 71)), (1, .int (nI jn)), (2, .int (what))]) hC.1 hC.2.1 dX10_told_31 rfl hl (by decide) rfl (fun ls hl => ?_)
      refine lv_iload_n hC.1 hC.2.1 dX10_told_32 rfl (lv_at hl 3 rfl) ?_
      rcases Classical.em (what = 0) with k7 | k7
      · subst k7
        refine lv_tableIn (tgt := 72) hC.1 hC.2.1 dX10_told_33 (by decide) (by decide) (by rfl) (by decide) ?_
        refine lv_aload_n hC.1 hC.2.1 dX10_told_72 rfl (lv_at hl 1 rfl) ?_
        refine gf_X10_19 hC hw dX10_told_73 ?_
        refine gf_X10_126 hC hw dX10_told_76 ?_
        refine lv_iload_n hC.1 hC.2.1 dX10_told_79 rfl (lv_at hl 2 rfl) ?_
        refine al_X11 (v := σ 11 jn) hC hw (by omega) rfl dX10_told_80 ?_
        refine hret _ _ _ _ _ _ hw ?_ rfl dX10_told_81
        exact ⟨by rw [o_told, if_pos c4, y_jn, if_pos rfl]; exact (hX jn (by omega)).2.2.1, rfl⟩
      rcases Classical.em (what = 1) with k8 | k8
      · subst k8
        refine lv_tableIn (tgt := 82) hC.1 hC.2.1 dX10_told_33 (by decide) (by decide) (by rfl) (by decide) ?_
        refine lv_iload_n hC.1 hC.2.1 dX10_told_82 rfl (lv_at hl 0 rfl) ?_
        refine q_ifeq hC 98 cB dX10_told_83 (by decide) (fun (c9 : ¬ (σ 11 jn = 1)) => ?_) (fun (c9 : σ 11 jn = 1) => ?_)
        · refine lv_bipush (v := (-3)) hC.1 hC.2.1 dX10_told_98 (by decide) ?_
          refine hret _ _ _ _ _ _ hw ?_ rfl dX10_told_100
          exact ⟨by rw [o_told, if_pos c4, y_jn, if_neg (by decide), if_pos rfl, if_neg (fun q => c9 ((hX jn (by omega)).2.2.1.trans q))], rfl⟩
        · refine lv_aload_n hC.1 hC.2.1 dX10_told_86 rfl (lv_at hl 1 rfl) ?_
          refine gf_X10_19 hC hw dX10_told_87 ?_
          refine gf_X10_140 hC hw dX10_told_90 ?_
          refine lv_iload_n hC.1 hC.2.1 dX10_told_93 rfl (lv_at hl 2 rfl) ?_
          refine al_X12 (v := σ 12 jn) hC hw (by omega) rfl dX10_told_94 ?_
          refine lv_goto (tgt := 100) hC.1 hC.2.1 dX10_told_95 (by decide) ?_
          refine hret _ _ _ _ _ _ hw ?_ rfl dX10_told_100
          have hs9 := (hX jn (by omega)).2.2.1.symm.trans c9
          exact ⟨by rw [o_told, if_pos c4, y_jn, if_neg (by decide), if_pos rfl, if_pos hs9]; exact ((hX jn (by omega)).2.2.2 hs9).1, rfl⟩
      rcases Classical.em (what = 2) with k10 | k10
      · subst k10
        refine lv_tableIn (tgt := 101) hC.1 hC.2.1 dX10_told_33 (by decide) (by decide) (by rfl) (by decide) ?_
        refine lv_iload_n hC.1 hC.2.1 dX10_told_101 rfl (lv_at hl 0 rfl) ?_
        refine q_ifeq hC 117 cB dX10_told_102 (by decide) (fun (c11 : ¬ (σ 11 jn = 1)) => ?_) (fun (c11 : σ 11 jn = 1) => ?_)
        · refine lv_bipush (v := (-3)) hC.1 hC.2.1 dX10_told_117 (by decide) ?_
          refine hret _ _ _ _ _ _ hw ?_ rfl dX10_told_119
          exact ⟨by rw [o_told, if_pos c4, y_jn, if_neg (by decide), if_neg (by decide), if_pos rfl, if_neg (fun q => c11 ((hX jn (by omega)).2.2.1.trans q))], rfl⟩
        · refine lv_aload_n hC.1 hC.2.1 dX10_told_105 rfl (lv_at hl 1 rfl) ?_
          refine gf_X10_19 hC hw dX10_told_106 ?_
          refine gf_X10_143 hC hw dX10_told_109 ?_
          refine lv_iload_n hC.1 hC.2.1 dX10_told_112 rfl (lv_at hl 2 rfl) ?_
          refine al_X13 (v := σ 13 jn) hC hw (by omega) rfl dX10_told_113 ?_
          refine lv_goto (tgt := 119) hC.1 hC.2.1 dX10_told_114 (by decide) ?_
          refine hret _ _ _ _ _ _ hw ?_ rfl dX10_told_119
          have hs9 := (hX jn (by omega)).2.2.1.symm.trans c11
          exact ⟨by rw [o_told, if_pos c4, y_jn, if_neg (by decide), if_neg (by decide), if_pos rfl, if_pos hs9]; exact ((hX jn (by omega)).2.2.2 hs9).2, rfl⟩
      rcases Classical.em (what = 3) with k12 | k12
      · subst k12
        refine lv_tableIn (tgt := 120) hC.1 hC.2.1 dX10_told_33 (by decide) (by decide) (by rfl) (by decide) ?_
        refine lv_aload_n hC.1 hC.2.1 dX10_told_120 rfl (lv_at hl 1 rfl) ?_
        refine gf_X10_19 hC hw dX10_told_121 ?_
        refine gf_X10_146 hC hw dX10_told_124 ?_
        refine lv_iload_n hC.1 hC.2.1 dX10_told_127 rfl (lv_at hl 2 rfl) ?_
        refine al_X5 (v := σ 5 jn) hC hw (by omega) rfl dX10_told_128 ?_
        refine hret _ _ _ _ _ _ hw ?_ rfl dX10_told_129
        exact ⟨by rw [o_told, if_pos c4, y_jn, if_neg (by decide), if_neg (by decide), if_neg (by decide), if_pos rfl]; exact (hX jn (by omega)).1, rfl⟩
      rcases Classical.em (what = 4) with k13 | k13
      · subst k13
        refine lv_tableIn (tgt := 130) hC.1 hC.2.1 dX10_told_33 (by decide) (by decide) (by rfl) (by decide) ?_
        refine lv_aload_n hC.1 hC.2.1 dX10_told_130 rfl (lv_at hl 1 rfl) ?_
        refine gf_X10_19 hC hw dX10_told_131 ?_
        refine gf_X10_149 hC hw dX10_told_134 ?_
        refine lv_iload_n hC.1 hC.2.1 dX10_told_137 rfl (lv_at hl 2 rfl) ?_
        refine al_X7 (v := σ 7 jn) hC hw (by omega) rfl dX10_told_138 ?_
        refine hret _ _ _ _ _ _ hw ?_ rfl dX10_told_139
        exact ⟨by rw [o_told, if_pos c4, y_jn, if_neg (by decide), if_neg (by decide), if_neg (by decide), if_neg (by decide), if_pos rfl]; exact (hX jn (by omega)).2.1, rfl⟩
      rcases Classical.em (what = 5) with k14 | k14
      · subst k14
        refine lv_tableIn (tgt := 140) hC.1 hC.2.1 dX10_told_33 (by decide) (by decide) (by rfl) (by decide) ?_
        refine lv_aload_n hC.1 hC.2.1 dX10_told_140 rfl (lv_at hl 1 rfl) ?_
        refine gf_X10_19 hC hw dX10_told_141 ?_
        refine gf_X10_152 hC hw dX10_told_144 ?_
        refine lv_iload_n hC.1 hC.2.1 dX10_told_147 rfl (lv_at hl 2 rfl) ?_
        refine al_X8 (v := σ 8 jn) hC hw (by omega) rfl dX10_told_148 ?_
        refine hret _ _ _ _ _ _ hw ?_ rfl dX10_told_149
        exact ⟨by rw [o_told, if_pos c4, y_jn, if_neg (by decide), if_neg (by decide), if_neg (by decide), if_neg (by decide), if_neg (by decide), if_pos rfl]; exact (hA.2 jn (by omega)).2.2.1, rfl⟩
      refine lv_tableOut (tgt := 150) hC.1 hC.2.1 dX10_told_33 (sw_out_0_5 k7 k8 k10 k12 k13 k14) (by decide) ?_
      refine lv_iconst (v := (-1)) hC.1 hC.2.1 dX10_told_150 (by decide) ?_
      refine hret _ _ _ _ _ _ hw ?_ rfl dX10_told_151
      exact ⟨by rw [o_told, if_pos c4, y_jn, if_neg k7, if_neg k8, if_neg k10, if_neg k12, if_neg k13, if_neg k14], rfl⟩
    refine q_cmpne hC 30 cI dX10_told_23 (by decide) (fun (c15 : ¬ (σ 11 jn = 1)) => ?_) (fun (c15 : σ 11 jn = 1) => ?_)
    · refine lv_iconst (v := nI 0) hC.1 hC.2.1 dX10_told_30 (by decide) ?_
      exact J31_6 _ (if_neg c15).symm _ _ _ hw (lv_sub hl [0, 1, 2] rfl)
    · refine lv_iconst (v := nI 1) hC.1 hC.2.1 dX10_told_26 (by decide) ?_
      refine lv_goto (tgt := 31) hC.1 hC.2.1 dX10_told_27 (by decide) ?_
      exact J31_6 _ (if_pos c15).symm _ _ _ hw (lv_sub hl [0, 1, 2] rfl)
  · refine lv_iconst (v := (-1)) hC.1 hC.2.1 dX10_told_11 (by decide) ?_
    refine hret _ _ _ _ _ _ hw ?_ rfl dX10_told_12
    exact ⟨by rw [o_told, if_neg c4], rfl⟩
set_option maxHeartbeats 4000000 in
set_option maxRecDepth 100000 in
theorem tX10_count (l : Launch) (E : EV) (a : Nat → Nat) (σ : St) (nh : Nat) (nj : Nat) (v : Nat → Int32) (stk : List (Nat → Int32)) (T : Nat) (what : Int32) (hCL : CL σ v nh nj stk T) : MI l E (XW E a) yX10_count (Cond.code yX10_count cX10_count 2 (some .int)) ({ frames := 1, cells := 0, slots := 0, locals := 23 }) [.ref (a 71), .int (what)] σ (fun r_ u_ => r_ = (o_count v nh nj stk.length what) ∧ u_ = σ) := by
  refine MI.mk (by decide +kernel) (Nat.le_of_ble_eq_true rfl) ?_
  intro p e s m args below meth c ls A Q hret hC hw hl
  have hC : Cxt E p s m args meth c cX10_count 2 (some .int) RX10 A := hC
  have hl : lv_has ls 2 [(0, .ref (a 71)), (1, .int (what))] := hl
  have hXR := hCL.1
  have hV := hCL.2.1
  have hFS := hCL.2.2.1
  have hRG := hCL.2.2.2.1
  have hSK := hCL.2.2.2.2
  have hN := hXR.1
  have hA := hXR.2.2.1
  have hX := hXR.2.2.2.1
  have hW := hV.1
  have hS : cS σ nh nj := cS.ag hA hV.2.2.1
  have hE : aE σ σ := aE.rf
  have hnh := hS.1
  have hnj := hS.2.1
  have hk4 : σ 0 4 = nI stk.length := by obtain ⟨_, _, _, h, _⟩ := hRG; exact h
  refine lv_iload_n hC.1 hC.2.1 dX10_count_0 rfl (lv_at hl 1 rfl) ?_
  rcases Classical.em (what = 0) with k1 | k1
  · subst k1
    refine lv_tableIn (tgt := 48) hC.1 hC.2.1 dX10_count_1 (by decide) (by decide) (by rfl) (by decide) ?_
    refine lv_aload_n hC.1 hC.2.1 dX10_count_48 rfl (lv_at hl 0 rfl) ?_
    refine gf_X10_10 hC hw dX10_count_49 ?_
    refine gf_X10_93 (v := nI nh) hC hw hN.1 dX10_count_52 ?_
    refine hret _ _ _ _ _ _ hw ?_ rfl dX10_count_55
    exact ⟨by rw [o_count, if_pos rfl], rfl⟩
  rcases Classical.em (what = 1) with k2 | k2
  · subst k2
    refine lv_tableIn (tgt := 56) hC.1 hC.2.1 dX10_count_1 (by decide) (by decide) (by rfl) (by decide) ?_
    refine lv_aload_n hC.1 hC.2.1 dX10_count_56 rfl (lv_at hl 0 rfl) ?_
    refine gf_X10_19 hC hw dX10_count_57 ?_
    refine gf_X10_114 (v := nI nj) hC hw hN.2 dX10_count_60 ?_
    refine hret _ _ _ _ _ _ hw ?_ rfl dX10_count_63
    exact ⟨by rw [o_count, if_neg (by decide), if_pos rfl], rfl⟩
  rcases Classical.em (what = 2) with k3 | k3
  · subst k3
    refine lv_tableIn (tgt := 64) hC.1 hC.2.1 dX10_count_1 (by decide) (by decide) (by rfl) (by decide) ?_
    refine lv_aload_n hC.1 hC.2.1 dX10_count_64 rfl (lv_at hl 0 rfl) ?_
    refine gf_X10_19 hC hw dX10_count_65 ?_
    refine lv_iconst (v := nI 0) hC.1 hC.2.1 dX10_count_68 (by decide) ?_
    refine q_callVp (As := [.int (nI 0)]) (rest := []) (q0 := 7) hC hw hl (tX6_inState l E a σ nh nj 0 hN hnh hnj) (q_cwV hC.2.2.2.2.1 ⟨rfl, rfl⟩ wk4_89 wk4_90 wk4_91 wk1_3 wk4_92 hd_X6_inState ⟨Nat.le_of_ble_eq_true rfl, Nat.le_of_ble_eq_true rfl⟩) rfl rfl rfl rfl rfl (Nat.le_of_ble_eq_true rfl) dX10_count_69 (fun H locs hw => ?_)
    refine hret _ _ _ _ _ _ hw ?_ rfl dX10_count_72
    exact ⟨by rw [o_count, if_neg (by decide), if_neg (by decide), if_pos rfl]; exact c_sts_eq hX, rfl⟩
  rcases Classical.em (what = 3) with k7 | k7
  · subst k7
    refine lv_tableIn (tgt := 73) hC.1 hC.2.1 dX10_count_1 (by decide) (by decide) (by rfl) (by decide) ?_
    refine lv_aload_n hC.1 hC.2.1 dX10_count_73 rfl (lv_at hl 0 rfl) ?_
    refine gf_X10_19 hC hw dX10_count_74 ?_
    refine lv_iconst (v := nI 1) hC.1 hC.2.1 dX10_count_77 (by decide) ?_
    refine q_callVp (As := [.int (nI 1)]) (rest := []) (q0 := 7) hC hw hl (tX6_inState l E a σ nh nj 1 hN hnh hnj) (q_cwV hC.2.2.2.2.1 ⟨rfl, rfl⟩ wk4_89 wk4_90 wk4_91 wk1_3 wk4_92 hd_X6_inState ⟨Nat.le_of_ble_eq_true rfl, Nat.le_of_ble_eq_true rfl⟩) rfl rfl rfl rfl rfl (Nat.le_of_ble_eq_true rfl) dX10_count_78 (fun H locs hw => ?_)
    refine hret _ _ _ _ _ _ hw ?_ rfl dX10_count_81
    exact ⟨by rw [o_count, if_neg (by decide), if_neg (by decide), if_neg (by decide), if_pos rfl]; exact c_sts_eq hX, rfl⟩
  rcases Classical.em (what = 4) with k11 | k11
  · subst k11
    refine lv_tableIn (tgt := 82) hC.1 hC.2.1 dX10_count_1 (by decide) (by decide) (by rfl) (by decide) ?_
    refine lv_aload_n hC.1 hC.2.1 dX10_count_82 rfl (lv_at hl 0 rfl) ?_
    refine gf_X10_19 hC hw dX10_count_83 ?_
    refine lv_iconst (v := nI 2) hC.1 hC.2.1 dX10_count_86 (by decide) ?_
    refine q_callVp (As := [.int (nI 2)]) (rest := []) (q0 := 7) hC hw hl (tX6_inState l E a σ nh nj 2 hN hnh hnj) (q_cwV hC.2.2.2.2.1 ⟨rfl, rfl⟩ wk4_89 wk4_90 wk4_91 wk1_3 wk4_92 hd_X6_inState ⟨Nat.le_of_ble_eq_true rfl, Nat.le_of_ble_eq_true rfl⟩) rfl rfl rfl rfl rfl (Nat.le_of_ble_eq_true rfl) dX10_count_87 (fun H locs hw => ?_)
    refine hret _ _ _ _ _ _ hw ?_ rfl dX10_count_90
    exact ⟨by rw [o_count, if_neg (by decide), if_neg (by decide), if_neg (by decide), if_neg (by decide), if_pos rfl]; exact c_sts_eq hX, rfl⟩
  rcases Classical.em (what = 5) with k15 | k15
  · subst k15
    refine lv_tableIn (tgt := 91) hC.1 hC.2.1 dX10_count_1 (by decide) (by decide) (by rfl) (by decide) ?_
    refine lv_aload_n hC.1 hC.2.1 dX10_count_91 rfl (lv_at hl 0 rfl) ?_
    refine gf_X10_10 hC hw dX10_count_92 ?_
    refine q_callVp (As := []) (rest := []) (q0 := 6) hC hw hl (tX5_upNow l E a σ nh nj hN hnh hnj) (q_cwV hC.2.2.2.2.1 ⟨rfl, rfl⟩ wk4_93 wk4_94 wk4_95 wk1_2 wk4_96 hd_X5_upNow ⟨Nat.le_of_ble_eq_true rfl, Nat.le_of_ble_eq_true rfl⟩) rfl rfl rfl rfl rfl (Nat.le_of_ble_eq_true rfl) dX10_count_95 (fun H locs hw => ?_)
    refine hret _ _ _ _ _ _ hw ?_ rfl dX10_count_98
    exact ⟨by rw [o_count, if_neg (by decide), if_neg (by decide), if_neg (by decide), if_neg (by decide), if_neg (by decide), if_pos rfl]; exact c_ups_eq hA hS, rfl⟩
  rcases Classical.em (what = 6) with k19 | k19
  · subst k19
    refine lv_tableIn (tgt := 99) hC.1 hC.2.1 dX10_count_1 (by decide) (by decide) (by rfl) (by decide) ?_
    refine lv_aload_n hC.1 hC.2.1 dX10_count_99 rfl (lv_at hl 0 rfl) ?_
    refine gf_X10_19 hC hw dX10_count_100 ?_
    refine q_callVp (As := []) (rest := []) (q0 := 7) hC hw hl (tX6_targets l E a σ nh nj hN hnh hnj) (q_cwV hC.2.2.2.2.1 ⟨rfl, rfl⟩ wk3_210 wk3_211 wk3_212 wk1_3 wk3_213 hd_X6_targets ⟨Nat.le_of_ble_eq_true rfl, Nat.le_of_ble_eq_true rfl⟩) rfl rfl rfl rfl rfl (Nat.le_of_ble_eq_true rfl) dX10_count_103 (fun H locs hw => ?_)
    refine hret _ _ _ _ _ _ hw ?_ rfl dX10_count_106
    exact ⟨by rw [o_count, if_neg (by decide), if_neg (by decide), if_neg (by decide), if_neg (by decide), if_neg (by decide), if_neg (by decide), if_pos rfl]; exact c_tgs_eq hXR.2.2.2.2.1 hV.2.2.2.2.2.1 hnh, rfl⟩
  rcases Classical.em (what = 7) with k23 | k23
  · subst k23
    refine lv_tableIn (tgt := 107) hC.1 hC.2.1 dX10_count_1 (by decide) (by decide) (by rfl) (by decide) ?_
    refine lv_aload_n hC.1 hC.2.1 dX10_count_107 rfl (lv_at hl 0 rfl) ?_
    refine gf_X10_39 hC hw dX10_count_108 ?_
    refine gf_X10_239 (v := nI stk.length) hC hw hk4 dX10_count_111 ?_
    refine hret _ _ _ _ _ _ hw ?_ rfl dX10_count_114
    exact ⟨by rw [o_count, if_neg (by decide), if_neg (by decide), if_neg (by decide), if_neg (by decide), if_neg (by decide), if_neg (by decide), if_neg (by decide), if_pos rfl], rfl⟩
  refine lv_tableOut (tgt := 115) hC.1 hC.2.1 dX10_count_1 (sw_out_0_7 k1 k2 k3 k7 k11 k15 k19 k23) (by decide) ?_
  refine lv_iconst (v := (-1)) hC.1 hC.2.1 dX10_count_115 (by decide) ?_
  refine hret _ _ _ _ _ _ hw ?_ rfl dX10_count_116
  exact ⟨by rw [o_count, if_neg k1, if_neg k2, if_neg k3, if_neg k7, if_neg k11, if_neg k15, if_neg k19, if_neg k23], rfl⟩
set_option maxHeartbeats 4000000 in
set_option maxRecDepth 100000 in
theorem tX10_gone (l : Launch) (E : EV) (a : Nat → Nat) (σ : St)  : MI l E (XW E a) yX10_gone (Cond.code yX10_gone cX10_gone 1 (some .int)) ({ frames := 0, cells := 0, slots := 0, locals := 0 }) [.ref (a 71)] σ (fun r_ u_ => r_ = ((σ 0 16)) ∧ u_ = σ) := by
  refine MI.mk (by decide +kernel) (Nat.le_of_ble_eq_true rfl) ?_
  intro p e s m args below meth c ls A Q hret hC hw hl
  have hC : Cxt E p s m args meth c cX10_gone 1 (some .int) RX10 A := hC
  have hl : lv_has ls 1 [(0, .ref (a 71))] := hl
  refine lv_aload_n hC.1 hC.2.1 dX10_gone_0 rfl (lv_at hl 0 rfl) ?_
  refine gf_X10_163 (v := σ 0 16) hC hw rfl dX10_gone_1 ?_
  refine hret _ _ _ _ _ _ hw ?_ rfl dX10_gone_4
  exact ⟨rfl, rfl⟩
set_option maxHeartbeats 4000000 in
set_option maxRecDepth 100000 in
theorem tX10_step (l : Launch) (E : EV) (a : Nat → Nat) (σ : St) (mv : Nat) (i : Int32) (what : Int32) (hmv : σ 0 9 = nI mv) (hm8 : mv ≤ 8) : MI l E (XW E a) yX10_step (Cond.code yX10_step cX10_step 3 (some .int)) ({ frames := 1, cells := 0, slots := 0, locals := 21 }) [.ref (a 71), .int (i), .int (what)] σ (fun r_ u_ => r_ = (o_step mv (σ 27) (σ 28) i what) ∧ u_ = σ) := by
  refine MI.mk (by decide +kernel) (Nat.le_of_ble_eq_true rfl) ?_
  intro p e s m args below meth c ls A Q hret hC hw hl
  have hC : Cxt E p s m args meth c cX10_step 3 (some .int) RX10 A := hC
  have hl : lv_has ls 3 [(0, .ref (a 71)), (1, .int (i)), (2, .int (what))] := hl
  refine lv_iload_n hC.1 hC.2.1 dX10_step_0 rfl (lv_at hl 1 rfl) ?_
  refine lv_aload_n hC.1 hC.2.1 dX10_step_1 rfl (lv_at hl 0 rfl) ?_
  refine gf_X10_67 hC hw dX10_step_2 ?_
  refine gf_X10_216 (v := nI mv) hC hw hmv dX10_step_5 ?_
  refine q_callSp (As := [.int (i), .int (nI mv)]) (rest := []) hC hw hl (tX10_isBelow l E a σ i (nI mv)) (q_cwS hC.2.2.2.2.1 ⟨rfl, rfl⟩ wk2_175 wk2_176 wk1_1 wk2_177 hd_X10_isBelow.2 ⟨Nat.le_of_ble_eq_true rfl, Nat.le_of_ble_eq_true rfl⟩) rfl rfl (Nat.le_of_ble_eq_true rfl) dX10_step_8 (fun H locs hw => ?_)
  refine q_ifeq hC 22 cB dX10_step_11 (by decide) (fun (c4 : ¬ (¬ i < 0 ∧ i < (nI mv))) => ?_) (fun (c4 : ¬ i < 0 ∧ i < (nI mv)) => ?_)
  · refine lv_iconst (v := (-1)) hC.1 hC.2.1 dX10_step_22 (by decide) ?_
    refine hret _ _ _ _ _ _ hw ?_ rfl dX10_step_23
    exact ⟨by rw [o_step, if_neg (fun q => c4 q.1)], rfl⟩
  · refine lv_iload_n hC.1 hC.2.1 dX10_step_14 rfl (lv_at hl 2 rfl) ?_
    refine lv_iconst (v := nI 2) hC.1 hC.2.1 dX10_step_15 (by decide) ?_
    refine q_callSp (As := [.int (what), .int (nI 2)]) (rest := []) hC hw hl (tX10_isBelow l E a σ what 2) (q_cwS hC.2.2.2.2.1 ⟨rfl, rfl⟩ wk2_175 wk2_176 wk1_1 wk2_177 hd_X10_isBelow.2 ⟨Nat.le_of_ble_eq_true rfl, Nat.le_of_ble_eq_true rfl⟩) rfl rfl (Nat.le_of_ble_eq_true rfl) dX10_step_16 (fun H locs hw => ?_)
    refine q_ifne hC 24 cB dX10_step_19 (by decide) (fun (c8 : ¬ what < 0 ∧ what < 2) => ?_) (fun (c8 : ¬ (¬ what < 0 ∧ what < 2)) => ?_)
    · obtain ⟨xn, h_xn, rfl⟩ := in_nat (by omega) c4
      have z_xn := nI_clamp (show xn < 2 ^ 31 by omega)
      have y_xn : cN (nI xn) = xn := z_xn
      refine lv_iload_n hC.1 hC.2.1 dX10_step_24 rfl (lv_at hl 2 rfl) ?_
      refine q_ifne hC 40 cI dX10_step_25 (by decide) (fun (c9 : ¬ (what = 0)) => ?_) (fun (c9 : what = 0) => ?_)
      · refine lv_aload_n hC.1 hC.2.1 dX10_step_40 rfl (lv_at hl 0 rfl) ?_
        refine gf_X10_67 hC hw dX10_step_41 ?_
        refine gf_X10_222 hC hw dX10_step_44 ?_
        refine lv_iload_n hC.1 hC.2.1 dX10_step_47 rfl (lv_at hl 1 rfl) ?_
        refine al_X28 (v := σ 28 xn) hC hw (by omega) rfl dX10_step_48 ?_
        refine hret _ _ _ _ _ _ hw ?_ rfl dX10_step_49
        exact ⟨by rw [o_step, if_pos ⟨c4, c8⟩, if_neg c9, y_xn], rfl⟩
      · refine lv_aload_n hC.1 hC.2.1 dX10_step_28 rfl (lv_at hl 0 rfl) ?_
        refine gf_X10_67 hC hw dX10_step_29 ?_
        refine gf_X10_219 hC hw dX10_step_32 ?_
        refine lv_iload_n hC.1 hC.2.1 dX10_step_35 rfl (lv_at hl 1 rfl) ?_
        refine al_X27 (v := σ 27 xn) hC hw (by omega) rfl dX10_step_36 ?_
        refine lv_goto (tgt := 49) hC.1 hC.2.1 dX10_step_37 (by decide) ?_
        refine hret _ _ _ _ _ _ hw ?_ rfl dX10_step_49
        exact ⟨by rw [o_step, if_pos ⟨c4, c8⟩, if_pos c9, y_xn], rfl⟩
    · refine lv_iconst (v := (-1)) hC.1 hC.2.1 dX10_step_22 (by decide) ?_
      refine hret _ _ _ _ _ _ hw ?_ rfl dX10_step_23
      exact ⟨by rw [o_step, if_neg (fun q => c8 q.2)], rfl⟩
