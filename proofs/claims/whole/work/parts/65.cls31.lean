theorem okB_n {x : Int32} {n : Nat} (h : okB x n) (hn : n < 2 ^ 31 := by omega) : ∃ k, k < n ∧ x = nI k := in_nat hn h
set_option maxHeartbeats 4000000 in
set_option maxRecDepth 100000 in
theorem tX10_end (l : Launch) (E : EV) (a : Nat → Nat) (σ : St) (nh : Nat) (nj : Nat) (v : Nat → Int32) (stk : List (Nat → Int32)) (T : Nat) (job : Int32) (hCL : CL σ v nh nj stk T) : MI l E (XW E a) yX10_end (Cond.code yX10_end cX10_end 2 (some .int)) ({ frames := 3, cells := 0, slots := 0, locals := 68 }) [.ref (a 71), .int (job)] σ (fun r_ u_ => r_ = (o_end v nj job).1 ∧ CL u_ ((o_end v nj job).2.getD v) nh nj (nxS stk v (o_end v nj job).2) (T + 24) ∧ keepX σ u_) := by
  refine MI.mk (by decide +kernel) (Nat.le_of_ble_eq_true rfl) ?_
  intro p e s m args below meth c ls A Q hret hC hw hl
  have hC : Cxt E p s m args meth c cX10_end 2 (some .int) RX10 A := hC
  have hl : lv_has ls 2 [(0, .ref (a 71)), (1, .int (job))] := hl
  have hXR := hCL.1
  have hV := hCL.2.1
  have hFS := hCL.2.2.1
  have hRG := hCL.2.2.2.1
  have hSK := hCL.2.2.2.2
  have hN := hXR.1
  have hA := hXR.2.2.1
  have hX := hXR.2.2.2.1
  have hW := hV.1
  have hS : cS σ nh nj := cS.ag hA hV.2.2.1
  have hE : aE σ σ := aE.rf
  have hnh := hS.1
  have hnj := hS.2.1
  refine lv_aload_n hC.1 hC.2.1 dX10_end_0 rfl (lv_at hl 0 rfl) ?_
  refine gf_X10_19 hC hw dX10_end_1 ?_
  refine lv_iload_n hC.1 hC.2.1 dX10_end_4 rfl (lv_at hl 1 rfl) ?_
  refine q_callVp (As := [.int (job)]) (rest := []) (q0 := 7) hC hw hl (tX6_has l E a σ nh nj job (by first | assumption | omega)) (q_cwV hC.2.2.2.2.1 ⟨rfl, rfl⟩ wk2_232 wk2_205 wk2_206 wk1_3 wk2_207 hd_X6_has ⟨Nat.le_of_ble_eq_true rfl, Nat.le_of_ble_eq_true rfl⟩) rfl rfl rfl rfl rfl (Nat.le_of_ble_eq_true rfl) dX10_end_5 (fun H locs hw => ?_)
  refine q_ifne hC 13 cB dX10_end_8 (by decide) (fun (c4 : ¬ job < 0 ∧ job < nI nj) => ?_) (fun (c4 : ¬ (¬ job < 0 ∧ job < nI nj)) => ?_)
  · obtain ⟨jn, h_jn, rfl⟩ := in_nat (by omega) c4
    have z_jn := nI_clamp (show jn < 2 ^ 31 by omega)
    have y_jn : cN (nI jn) = jn := z_jn
    refine lv_aload_n hC.1 hC.2.1 dX10_end_13 rfl (lv_at hl 0 rfl) ?_
    refine gf_X10_19 hC hw dX10_end_14 ?_
    refine gf_X10_126 hC hw dX10_end_17 ?_
    refine lv_iload_n hC.1 hC.2.1 dX10_end_20 rfl (lv_at hl 1 rfl) ?_
    refine al_X11 (v := σ 11 jn) hC hw (by omega) rfl dX10_end_21 ?_
    refine lv_iconst (v := nI 2) hC.1 hC.2.1 dX10_end_22 (by decide) ?_
    refine q_cmpne hC 29 cI dX10_end_23 (by decide) (fun (c5 : ¬ (σ 11 jn = 2)) => ?_) (fun (c5 : σ 11 jn = 2) => ?_)
    · have hX0 := hX
      refine lv_aload_n hC.1 hC.2.1 dX10_end_29 rfl (lv_at hl 0 rfl) ?_
      refine gf_X10_39 hC hw dX10_end_30 ?_
      obtain ⟨nx9, hnx1, hnx2, hkp9, hk309, -⟩ := hCL.2.2.2.1
      refine q_callVv (As := []) (rest := []) (q0 := 8) hC hw hl (tX7_keep_all l E a σ stk.length hkp9 hk309 nx9 hnx1 hnx2) (q_cwV hC.2.2.2.2.1 ⟨rfl, rfl⟩ wk2_178 wk2_179 wk2_180 wk1_5 wk2_181 hd_X7_keep ⟨Nat.le_of_ble_eq_true rfl, Nat.le_of_ble_eq_true rfl⟩) rfl rfl rfl rfl rfl (Nat.le_of_ble_eq_true rfl) dX10_end_33 (fun u8 H locs p6 hw => ?_)
      obtain ⟨hCLu8, hku8, hzu8⟩ := keep_CL hCL hnx1 hnx2 p6
      have hXR := hCLu8.1
      have hV := hCLu8.2.1
      have hFS := hCLu8.2.2.1
      have hRG := hCLu8.2.2.2.1
      have hSK := hCLu8.2.2.2.2
      have hN := hXR.1
      have hA := hXR.2.2.1
      have hX := hXR.2.2.2.1
      have hW := hV.1
      have hS : cS u8 nh nj := cS.ag hA hV.2.2.1
      have hE : aE u8 u8 := aE.rf
      have hnh := hS.1
      have hnj := hS.2.1
      refine lv_aload_n hC.1 hC.2.1 dX10_end_36 rfl (lv_at hl 0 rfl) ?_
      refine lv_iload_n hC.1 hC.2.1 dX10_end_37 rfl (lv_at hl 1 rfl) ?_
      refine lv_iconst (v := nI 2) hC.1 hC.2.1 dX10_end_38 (by decide) ?_
      refine q_callVv (As := [.int (nI jn), .int (nI 2)]) (rest := []) (q0 := 0) hC hw hl (tX10_release l E a u8 nh nj u8 (pB (eM v) (-1)) jn 2 hN hE hS hFS h_jn (hX.PL hW)) (q_cwV hC.2.2.2.2.1 ⟨rfl, rfl⟩ wk3_115 wk3_117 wks_1_11 wk1_1 wk3_118 hd_X10_release ⟨Nat.le_of_ble_eq_true rfl, Nat.le_of_ble_eq_true rfl⟩) rfl rfl rfl rfl rfl (Nat.le_of_ble_eq_true rfl) dX10_end_39 (fun u11 H locs p9 hw => ?_)
      obtain ⟨b16_12, b17_13, b18_14, b19_15, b20_16, b21_17, hFu11, huu11⟩ := p9
      subst huu11
      refine lv_iconst (v := nI 1) hC.1 hC.2.1 dX10_end_42 (by decide) ?_
      refine hret _ _ _ _ _ _ hw ?_ rfl dX10_end_43
      have ho : o_end v nj (nI jn) = (1, some (upd v (258 + jn) 2)) := by rw [o_end, if_pos c4, y_jn, if_neg (fun q => c5 ((hX0 jn (by omega)).2.2.1.trans q))]
      rw [ho]
      exact ⟨rfl, (CL.rel (u := sr (sr (sr (sr (sr (sr (sr (sr (sr u8 11 (upd (u8 11) jn 2)) 12 (upd (u8 12) jn (-1))) 13 (upd (u8 13) jn 0)) 16 (b16_12)) 17 (b17_13)) 18 (b18_14)) 19 (b19_15)) 20 (b20_16)) 21 (b21_17)) (x := 2) hCLu8 h_jn (by decide) ⟨rfl, rfl, rfl, rfl, rfl, rfl, rfl, rfl, rfl, rfl, rfl⟩ ⟨rfl, rfl, rfl, rfl, rfl, (fun r hr => by rw [sr_n (by omega), sr_n (by omega), sr_n (by omega), sr_n (by omega), sr_n (by omega), sr_n (by omega), sr_n (by omega), sr_n (by omega), sr_n (by omega)])⟩ rfl rfl (fun k hk => (upn hk : upd (u8 12) jn (-1) k = u8 12 k)) (fun k hk => (upn hk : upd (u8 13) jn 0 k = u8 13 k)) hFu11).mono (by omega), ⟨hzu8 9 (by decide) (by decide), hku8 27 (by decide) (by decide), hku8 28 (by decide) (by decide), hzu8 16 (by decide) (by decide)⟩⟩
    · refine lv_bipush (v := (-2)) hC.1 hC.2.1 dX10_end_26 (by decide) ?_
      refine hret _ _ _ _ _ _ hw ?_ rfl dX10_end_28
      have ho : o_end v nj (nI jn) = (-2, none) := by rw [o_end, if_pos c4, y_jn, if_pos ((hX jn (by omega)).2.2.1.symm.trans c5)]
      rw [ho]
      exact ⟨rfl, hCL.mono (by omega), rfl, rfl, rfl, rfl⟩
  · refine lv_iconst (v := (-1)) hC.1 hC.2.1 dX10_end_11 (by decide) ?_
    refine hret _ _ _ _ _ _ hw ?_ rfl dX10_end_12
    have ho : o_end v nj job = (-1, none) := by rw [o_end, if_neg c4]
    rw [ho]
    exact ⟨rfl, hCL.mono (by omega), rfl, rfl, rfl, rfl⟩
set_option maxHeartbeats 4000000 in
set_option maxRecDepth 100000 in
theorem tX10_rise (l : Launch) (E : EV) (a : Nat → Nat) (σ : St) (nh : Nat) (nj : Nat) (v : Nat → Int32) (stk : List (Nat → Int32)) (T : Nat) (host : Int32) (hCL : CL σ v nh nj stk T) : MI l E (XW E a) yX10_rise (Cond.code yX10_rise cX10_rise 2 (some .int)) ({ frames := 2, cells := 0, slots := 0, locals := 47 }) [.ref (a 71), .int (host)] σ (fun r_ u_ => r_ = (o_rise v nh host).1 ∧ CL u_ ((o_rise v nh host).2.getD v) nh nj (nxS stk v (o_rise v nh host).2) (T + 24) ∧ keepX σ u_) := by
  refine MI.mk (by decide +kernel) (Nat.le_of_ble_eq_true rfl) ?_
  intro p e s m args below meth c ls A Q hret hC hw hl
  have hC : Cxt E p s m args meth c cX10_rise 2 (some .int) RX10 A := hC
  have hl : lv_has ls 2 [(0, .ref (a 71)), (1, .int (host))] := hl
  have hXR := hCL.1
  have hV := hCL.2.1
  have hFS := hCL.2.2.1
  have hRG := hCL.2.2.2.1
  have hSK := hCL.2.2.2.2
  have hN := hXR.1
  have hA := hXR.2.2.1
  have hX := hXR.2.2.2.1
  have hW := hV.1
  have hS : cS σ nh nj := cS.ag hA hV.2.2.1
  have hE : aE σ σ := aE.rf
  have hnh := hS.1
  have hnj := hS.2.1
  refine lv_aload_n hC.1 hC.2.1 dX10_rise_0 rfl (lv_at hl 0 rfl) ?_
  refine gf_X10_10 hC hw dX10_rise_1 ?_
  refine lv_iload_n hC.1 hC.2.1 dX10_rise_4 rfl (lv_at hl 1 rfl) ?_
  refine q_callVp (As := [.int (host)]) (rest := []) (q0 := 6) hC hw hl (tX5_has l E a σ nh nj host (by first | assumption | omega)) (q_cwV hC.2.2.2.2.1 ⟨rfl, rfl⟩ wk2_233 wk2_209 wk2_210 wk1_2 wk2_211 hd_X5_has ⟨Nat.le_of_ble_eq_true rfl, Nat.le_of_ble_eq_true rfl⟩) rfl rfl rfl rfl rfl (Nat.le_of_ble_eq_true rfl) dX10_rise_5 (fun H locs hw => ?_)
  refine q_ifne hC 13 cB dX10_rise_8 (by decide) (fun (c4 : ¬ host < 0 ∧ host < nI nh) => ?_) (fun (c4 : ¬ (¬ host < 0 ∧ host < nI nh)) => ?_)
  · obtain ⟨hn, h_hn, rfl⟩ := in_nat (by omega) c4
    have z_hn := nI_clamp (show hn < 2 ^ 31 by omega)
    have y_hn : cN (nI hn) = hn := z_hn
    refine lv_aload_n hC.1 hC.2.1 dX10_rise_13 rfl (lv_at hl 0 rfl) ?_
    refine gf_X10_10 hC hw dX10_rise_14 ?_
    refine gf_X10_182 hC hw dX10_rise_17 ?_
    refine lv_iload_n hC.1 hC.2.1 dX10_rise_20 rfl (lv_at hl 1 rfl) ?_
    refine al_X4 (v := σ 4 hn) hC hw (by omega) rfl dX10_rise_21 ?_
    refine q_ifeq hC 28 cI dX10_rise_22 (by decide) (fun (c5 : σ 4 hn = 0) => ?_) (fun (c5 : ¬ (σ 4 hn = 0)) => ?_)
    · have hA0 := hA
      refine lv_aload_n hC.1 hC.2.1 dX10_rise_28 rfl (lv_at hl 0 rfl) ?_
      refine gf_X10_39 hC hw dX10_rise_29 ?_
      obtain ⟨nx9, hnx1, hnx2, hkp9, hk309, -⟩ := hCL.2.2.2.1
      refine q_callVv (As := []) (rest := []) (q0 := 8) hC hw hl (tX7_keep_all l E a σ stk.length hkp9 hk309 nx9 hnx1 hnx2) (q_cwV hC.2.2.2.2.1 ⟨rfl, rfl⟩ wk2_178 wk2_179 wk2_180 wk1_5 wk2_181 hd_X7_keep ⟨Nat.le_of_ble_eq_true rfl, Nat.le_of_ble_eq_true rfl⟩) rfl rfl rfl rfl rfl (Nat.le_of_ble_eq_true rfl) dX10_rise_32 (fun u8 H locs p6 hw => ?_)
      obtain ⟨hCLu8, hku8, hzu8⟩ := keep_CL hCL hnx1 hnx2 p6
      have hXR := hCLu8.1
      have hV := hCLu8.2.1
      have hFS := hCLu8.2.2.1
      have hRG := hCLu8.2.2.2.1
      have hSK := hCLu8.2.2.2.2
      have hN := hXR.1
      have hA := hXR.2.2.1
      have hX := hXR.2.2.2.1
      have hW := hV.1
      have hS : cS u8 nh nj := cS.ag hA hV.2.2.1
      have hE : aE u8 u8 := aE.rf
      have hnh := hS.1
      have hnj := hS.2.1
      refine lv_aload_n hC.1 hC.2.1 dX10_rise_35 rfl (lv_at hl 0 rfl) ?_
      refine gf_X10_10 hC hw dX10_rise_36 ?_
      refine gf_X10_182 hC hw dX10_rise_39 ?_
      refine lv_iload_n hC.1 hC.2.1 dX10_rise_42 rfl (lv_at hl 1 rfl) ?_
      refine lv_iconst (v := nI 1) hC.1 hC.2.1 dX10_rise_43 (by decide) ?_
      refine as_X4 hC hw (by omega) (by decide) dX10_rise_44 (fun H locs hw => ?_)
      have hw : Wst E (XW E a) (sr u8 4 (upd (u8 4) hn (1))) A s.heap H locs := hw
      refine lv_iconst (v := nI 1) hC.1 hC.2.1 dX10_rise_45 (by decide) ?_
      refine hret _ _ _ _ _ _ hw ?_ rfl dX10_rise_46
      have ho : o_rise v nh (nI hn) = (1, some (upd v (56 + hn) 1)) := by rw [o_rise, if_pos c4, y_hn, if_neg (fun q => absurd (c5.symm.trans ((hA0.1 hn (by omega)).2.2.2.trans q)) (by decide))]
      rw [ho]
      exact ⟨rfl, (CL.up hCLu8 h_hn rfl).mono (by omega), ⟨hzu8 9 (by decide) (by decide), hku8 27 (by decide) (by decide), hku8 28 (by decide) (by decide), hzu8 16 (by decide) (by decide)⟩⟩
    · refine lv_bipush (v := (-2)) hC.1 hC.2.1 dX10_rise_25 (by decide) ?_
      refine hret _ _ _ _ _ _ hw ?_ rfl dX10_rise_27
      have ho : o_rise v nh (nI hn) = (-2, none) := by rw [o_rise, if_pos c4, y_hn, if_pos ((hA.1 hn (by omega)).2.2.2.symm.trans ((hS.2.2.1 hn (by omega)).2.1.resolve_left c5))]
      rw [ho]
      exact ⟨rfl, hCL.mono (by omega), rfl, rfl, rfl, rfl⟩
  · refine lv_iconst (v := (-1)) hC.1 hC.2.1 dX10_rise_11 (by decide) ?_
    refine hret _ _ _ _ _ _ hw ?_ rfl dX10_rise_12
    have ho : o_rise v nh host = (-1, none) := by rw [o_rise, if_neg c4]
    rw [ho]
    exact ⟨rfl, hCL.mono (by omega), rfl, rfl, rfl, rfl⟩
set_option maxHeartbeats 4000000 in
set_option maxRecDepth 100000 in
theorem tX10_weight (l : Launch) (E : EV) (a : Nat → Nat) (σ : St) (nh : Nat) (nj : Nat) (v : Nat → Int32) (stk : List (Nat → Int32)) (T : Nat) (which : Int32) (w : Int32) (hCL : CL σ v nh nj stk T) : MI l E (XW E a) yX10_weight (Cond.code yX10_weight cX10_weight 4 (some .int)) ({ frames := 2, cells := 0, slots := 0, locals := 47 }) [.ref (a 71), .int (which), .int (w)] σ (fun r_ u_ => r_ = (o_weight v which w).1 ∧ CL u_ ((o_weight v which w).2.getD v) nh nj (nxS stk v (o_weight v which w).2) (T + 24) ∧ keepX σ u_) := by
  refine MI.mk (by decide +kernel) (Nat.le_of_ble_eq_true rfl) ?_
  intro p e s m args below meth c ls A Q hret hC hw hl
  have hC : Cxt E p s m args meth c cX10_weight 4 (some .int) RX10 A := hC
  have hl : lv_has ls 4 [(0, .ref (a 71)), (1, .int (which)), (2, .int (w))] := hl
  have hXR := hCL.1
  have hV := hCL.2.1
  have hFS := hCL.2.2.1
  have hRG := hCL.2.2.2.1
  have hSK := hCL.2.2.2.2
  have hN := hXR.1
  have hA := hXR.2.2.1
  have hX := hXR.2.2.2.1
  have hW := hV.1
  have hS : cS σ nh nj := cS.ag hA hV.2.2.1
  have hE : aE σ σ := aE.rf
  have hnh := hS.1
  have hnj := hS.2.1
  refine lv_iload_n hC.1 hC.2.1 dX10_weight_0 rfl (lv_at hl 1 rfl) ?_
  refine lv_iconst (v := nI 3) hC.1 hC.2.1 dX10_weight_1 (by decide) ?_
  refine q_callSp (As := [.int (which), .int (nI 3)]) (rest := []) hC hw hl (tX10_isBelow l E a σ which 3) (q_cwS hC.2.2.2.2.1 ⟨rfl, rfl⟩ wk2_175 wk2_176 wk1_1 wk2_177 hd_X10_isBelow.2 ⟨Nat.le_of_ble_eq_true rfl, Nat.le_of_ble_eq_true rfl⟩) rfl rfl (Nat.le_of_ble_eq_true rfl) dX10_weight_2 (fun H locs hw => ?_)
  refine q_ifeq hC 20 cB dX10_weight_5 (by decide) (fun (c4 : ¬ (¬ which < 0 ∧ which < 3)) => ?_) (fun (c4 : ¬ which < 0 ∧ which < 3) => ?_)
  · refine lv_sipush (v := (-1001)) hC.1 hC.2.1 dX10_weight_20 (by decide) ?_
    refine hret _ _ _ _ _ _ hw ?_ rfl dX10_weight_23
    have ho : o_weight v which w = (-1001, none) := by rw [o_weight, if_neg (fun q => c4 q.1)]
    rw [ho]
    exact ⟨rfl, hCL.mono (by omega), rfl, rfl, rfl, rfl⟩
  · refine lv_iload_n hC.1 hC.2.1 dX10_weight_8 rfl (lv_at hl 2 rfl) ?_
    refine lv_bipush (v := (-100)) hC.1 hC.2.1 dX10_weight_9 (by decide) ?_
    refine q_cmplt hC 20 cI dX10_weight_11 (by decide) (fun (c5 : w < (-100)) => ?_) (fun (c5 : ¬ (w < (-100))) => ?_)
    · refine lv_sipush (v := (-1001)) hC.1 hC.2.1 dX10_weight_20 (by decide) ?_
      refine hret _ _ _ _ _ _ hw ?_ rfl dX10_weight_23
      have ho : o_weight v which w = (-1001, none) := by rw [o_weight, if_neg (fun q => q.2.1 c5)]
      rw [ho]
      exact ⟨rfl, hCL.mono (by omega), rfl, rfl, rfl, rfl⟩
    · refine lv_iload_n hC.1 hC.2.1 dX10_weight_14 rfl (lv_at hl 2 rfl) ?_
      refine lv_bipush (v := nI 100) hC.1 hC.2.1 dX10_weight_15 (by decide) ?_
      refine q_cmple hC 24 cI dX10_weight_17 (by decide) (fun (c6 : w ≤ 100) => ?_) (fun (c6 : ¬ (w ≤ 100)) => ?_)
      · obtain ⟨wn, h_wn, rfl⟩ := in_nat (n := 3) (by decide) c4
        have z_wn := nI_clamp (show wn < 2 ^ 31 by omega)
        have y_wn : cN (nI wn) = wn := z_wn
        refine lv_aload_n hC.1 hC.2.1 dX10_weight_24 rfl (lv_at hl 0 rfl) ?_
        refine gf_X10_39 hC hw dX10_weight_25 ?_
        obtain ⟨nx9, hnx1, hnx2, hkp9, hk309, -⟩ := hCL.2.2.2.1
        refine q_callVv (As := []) (rest := []) (q0 := 8) hC hw hl (tX7_keep_all l E a σ stk.length hkp9 hk309 nx9 hnx1 hnx2) (q_cwV hC.2.2.2.2.1 ⟨rfl, rfl⟩ wk2_178 wk2_179 wk2_180 wk1_5 wk2_181 hd_X7_keep ⟨Nat.le_of_ble_eq_true rfl, Nat.le_of_ble_eq_true rfl⟩) rfl rfl rfl rfl rfl (Nat.le_of_ble_eq_true rfl) dX10_weight_28 (fun u9 H locs p7 hw => ?_)
        obtain ⟨hCLu9, hku9, hzu9⟩ := keep_CL hCL hnx1 hnx2 p7
        have hXR := hCLu9.1
        have hV := hCLu9.2.1
        have hFS := hCLu9.2.2.1
        have hRG := hCLu9.2.2.2.1
        have hSK := hCLu9.2.2.2.2
        have hN := hXR.1
        have hA := hXR.2.2.1
        have hX := hXR.2.2.2.1
        have hW := hV.1
        have hS : cS u9 nh nj := cS.ag hA hV.2.2.1
        have hE : aE u9 u9 := aE.rf
        have hnh := hS.1
        have hnj := hS.2.1
        refine lv_aload_n hC.1 hC.2.1 dX10_weight_31 rfl (lv_at hl 0 rfl) ?_
        refine gf_X10_23 hC hw dX10_weight_32 ?_
        refine lv_iload_n hC.1 hC.2.1 dX10_weight_35 rfl (lv_at hl 1 rfl) ?_
        refine al_X15 (v := u9 15 wn) hC hw (by omega) rfl dX10_weight_36 ?_
        refine lv_istore_n (lv' := [(3, .int (u9 15 wn)), (0, .ref (a 71)), (1, .int (nI wn)), (2, .int (w))]) hC.1 hC.2.1 dX10_weight_37 rfl hl (by decide) rfl (fun ls hl => ?_)
        refine lv_aload_n hC.1 hC.2.1 dX10_weight_38 rfl (lv_at hl 1 rfl) ?_
        refine gf_X10_23 hC hw dX10_weight_39 ?_
        refine lv_iload_n hC.1 hC.2.1 dX10_weight_42 rfl (lv_at hl 2 rfl) ?_
        refine lv_iload_n hC.1 hC.2.1 dX10_weight_43 rfl (lv_at hl 3 rfl) ?_
        refine as_X15 hC hw (by omega) dX10_weight_44 (fun H locs hw => ?_)
        have hw : Wst E (XW E a) (sr u9 15 (upd (u9 15) wn (w))) A s.heap H locs := hw
        refine lv_iload_n hC.1 hC.2.1 dX10_weight_45 rfl (lv_at hl 0 rfl) ?_
        refine hret _ _ _ _ _ _ hw ?_ rfl dX10_weight_46
        have ho : o_weight v (nI wn) w = (eM v 15 wn, some (upd v (2 + wn) w)) := by rw [o_weight, if_pos ⟨c4, c5, Int32.not_lt.mpr c6⟩, y_wn]
        rw [ho]
        exact ⟨hXR.2.2.2.2.2 wn h_wn, (CL.wt hCLu9 h_wn rfl).mono (by omega), ⟨hzu9 9 (by decide) (by decide), hku9 27 (by decide) (by decide), hku9 28 (by decide) (by decide), hzu9 16 (by decide) (by decide)⟩⟩
      · refine lv_sipush (v := (-1001)) hC.1 hC.2.1 dX10_weight_20 (by decide) ?_
        refine hret _ _ _ _ _ _ hw ?_ rfl dX10_weight_23
        have ho : o_weight v which w = (-1001, none) := by rw [o_weight, if_neg (fun q => c6 (Int32.not_lt.mp q.2.2))]
        rw [ho]
        exact ⟨rfl, hCL.mono (by omega), rfl, rfl, rfl, rfl⟩
set_option maxHeartbeats 4000000 in
set_option maxRecDepth 100000 in
theorem tX10_target (l : Launch) (E : EV) (a : Nat → Nat) (σ : St) (nh : Nat) (nj : Nat) (v : Nat → Int32) (stk : List (Nat → Int32)) (T : Nat) (job : Int32) (host : Int32) (hCL : CL σ v nh nj stk T) : MI l E (XW E a) yX10_target (Cond.code yX10_target cX10_target 3 (some .int)) ({ frames := 2, cells := 0, slots := 0, locals := 47 }) [.ref (a 71), .int (job), .int (host)] σ (fun r_ u_ => r_ = (o_target v nh nj job host).1 ∧ CL u_ ((o_target v nh nj job host).2.getD v) nh nj (nxS stk v (o_target v nh nj job host).2) (T + 24) ∧ keepX σ u_) := by
  refine MI.mk (by decide +kernel) (Nat.le_of_ble_eq_true rfl) ?_
  intro p e s m args below meth c ls A Q hret hC hw hl
  have hC : Cxt E p s m args meth c cX10_target 3 (some .int) RX10 A := hC
  have hl : lv_has ls 3 [(0, .ref (a 71)), (1, .int (job)), (2, .int (host))] := hl
  have hXR := hCL.1
  have hV := hCL.2.1
  have hFS := hCL.2.2.1
  have hRG := hCL.2.2.2.1
  have hSK := hCL.2.2.2.2
  have hN := hXR.1
  have hA := hXR.2.2.1
  have hX := hXR.2.2.2.1
  have hW := hV.1
  have hS : cS σ nh nj := cS.ag hA hV.2.2.1
  have hE : aE σ σ := aE.rf
  have hnh := hS.1
  have hnj := hS.2.1
  refine lv_aload_n hC.1 hC.2.1 dX10_target_0 rfl (lv_at hl 0 rfl) ?_
  refine gf_X10_19 hC hw dX10_target_1 ?_
  refine lv_iload_n hC.1 hC.2.1 dX10_target_4 rfl (lv_at hl 1 rfl) ?_
  refine q_callVp (As := [.int (job)]) (rest := []) (q0 := 7) hC hw hl (tX6_has l E a σ nh nj job (by first | assumption | omega)) (q_cwV hC.2.2.2.2.1 ⟨rfl, rfl⟩ wk2_232 wk2_205 wk2_206 wk1_3 wk2_207 hd_X6_has ⟨Nat.le_of_ble_eq_true rfl, Nat.le_of_ble_eq_true rfl⟩) rfl rfl rfl rfl rfl (Nat.le_of_ble_eq_true rfl) dX10_target_5 (fun H locs hw => ?_)
  refine q_ifeq hC 27 cB dX10_target_8 (by decide) (fun (c4 : ¬ (¬ job < 0 ∧ job < nI nj)) => ?_) (fun (c4 : ¬ job < 0 ∧ job < nI nj) => ?_)
  · refine lv_iconst (v := (-1)) hC.1 hC.2.1 dX10_target_27 (by decide) ?_
    refine hret _ _ _ _ _ _ hw ?_ rfl dX10_target_28
    have ho : o_target v nh nj job host = (-1, none) := by rw [o_target, if_neg (fun q => c4 q.1)]
    rw [ho]
    exact ⟨rfl, hCL.mono (by omega), rfl, rfl, rfl, rfl⟩
  · refine lv_iload_n hC.1 hC.2.1 dX10_target_11 rfl (lv_at hl 2 rfl) ?_
    refine lv_iconst (v := (-1)) hC.1 hC.2.1 dX10_target_12 (by decide) ?_
    refine q_cmpeq hC 29 cI dX10_target_13 (by decide) (fun (c5 : host = (-1)) => ?_) (fun (c5 : ¬ (host = (-1))) => ?_)
    · obtain ⟨jn, h_jn, rfl⟩ := in_nat (by omega) c4
      have z_jn := nI_clamp (show jn < 2 ^ 31 by omega)
      have y_jn : cN (nI jn) = jn := z_jn
      refine lv_aload_n hC.1 hC.2.1 dX10_target_29 rfl (lv_at hl 0 rfl) ?_
      refine gf_X10_39 hC hw dX10_target_30 ?_
      obtain ⟨nx9, hnx1, hnx2, hkp9, hk309, -⟩ := hCL.2.2.2.1
      refine q_callVv (As := []) (rest := []) (q0 := 8) hC hw hl (tX7_keep_all l E a σ stk.length hkp9 hk309 nx9 hnx1 hnx2) (q_cwV hC.2.2.2.2.1 ⟨rfl, rfl⟩ wk2_178 wk2_179 wk2_180 wk1_5 wk2_181 hd_X7_keep ⟨Nat.le_of_ble_eq_true rfl, Nat.le_of_ble_eq_true rfl⟩) rfl rfl rfl rfl rfl (Nat.le_of_ble_eq_true rfl) dX10_target_33 (fun u8 H locs p6 hw => ?_)
      obtain ⟨hCLu8, hku8, hzu8⟩ := keep_CL hCL hnx1 hnx2 p6
      have hXR := hCLu8.1
      have hV := hCLu8.2.1
      have hFS := hCLu8.2.2.1
      have hRG := hCLu8.2.2.2.1
      have hSK := hCLu8.2.2.2.2
      have hN := hXR.1
      have hA := hXR.2.2.1
      have hX := hXR.2.2.2.1
      have hW := hV.1
      have hS : cS u8 nh nj := cS.ag hA hV.2.2.1
      have hE : aE u8 u8 := aE.rf
      have hnh := hS.1
      have hnj := hS.2.1
      refine lv_aload_n hC.1 hC.2.1 dX10_target_36 rfl (lv_at hl 0 rfl) ?_
      refine gf_X10_19 hC hw dX10_target_37 ?_
      refine gf_X10_204 hC hw dX10_target_40 ?_
      refine lv_iload_n hC.1 hC.2.1 dX10_target_43 rfl (lv_at hl 1 rfl) ?_
      refine lv_iload_n hC.1 hC.2.1 dX10_target_44 rfl (lv_at hl 2 rfl) ?_
      refine as_X14 hC hw (by omega) dX10_target_45 (fun H locs hw => ?_)
      have hw : Wst E (XW E a) (sr u8 14 (upd (u8 14) jn (host))) A s.heap H locs := hw
      refine lv_aload_n hC.1 hC.2.1 dX10_target_46 rfl (lv_at hl 0 rfl) ?_
      refine gf_X10_19 hC hw dX10_target_47 ?_
      refine q_callVp (As := []) (rest := []) (q0 := 7) hC hw hl (tX6_targets l E a (sr u8 14 (upd (u8 14) jn (host))) nh nj hN hnh hnj) (q_cwV hC.2.2.2.2.1 ⟨rfl, rfl⟩ wk3_210 wk3_211 wk3_212 wk1_3 wk3_213 hd_X6_targets ⟨Nat.le_of_ble_eq_true rfl, Nat.le_of_ble_eq_true rfl⟩) rfl rfl rfl rfl rfl (Nat.le_of_ble_eq_true rfl) dX10_target_50 (fun H locs hw => ?_)
      refine hret _ _ _ _ _ _ hw ?_ rfl dX10_target_53
      have hCf := CL.tg hCLu8 h_jn (Or.inl c5) (rfl : sr u8 14 (upd (u8 14) jn (host)) = sr u8 14 (upd (u8 14) jn host))
      have ho : o_target v nh nj (nI jn) host = (m_tgs (upd v (330 + jn) host) nj, some (upd v (330 + jn) host)) := by rw [o_target, if_pos ⟨c4, (Or.inl c5)⟩, y_jn]
      rw [ho]
      exact ⟨c_tgs_eq hCf.1.2.2.2.2.1 hCf.2.1.2.2.2.2.2.1 hnh, hCf.mono (by omega), ⟨hzu8 9 (by decide) (by decide), hku8 27 (by decide) (by decide), hku8 28 (by decide) (by decide), hzu8 16 (by decide) (by decide)⟩⟩
    · refine lv_aload_n hC.1 hC.2.1 dX10_target_16 rfl (lv_at hl 0 rfl) ?_
      refine gf_X10_10 hC hw dX10_target_17 ?_
      refine lv_iload_n hC.1 hC.2.1 dX10_target_20 rfl (lv_at hl 2 rfl) ?_
      refine q_callVp (As := [.int (host)]) (rest := []) (q0 := 6) hC hw hl (tX5_has l E a σ nh nj host (by first | assumption | omega)) (q_cwV hC.2.2.2.2.1 ⟨rfl, rfl⟩ wk2_233 wk2_209 wk2_210 wk1_2 wk2_211 hd_X5_has ⟨Nat.le_of_ble_eq_true rfl, Nat.le_of_ble_eq_true rfl⟩) rfl rfl rfl rfl rfl (Nat.le_of_ble_eq_true rfl) dX10_target_21 (fun H locs hw => ?_)
      refine q_ifne hC 29 cB dX10_target_24 (by decide) (fun (c15 : ¬ host < 0 ∧ host < nI nh) => ?_) (fun (c15 : ¬ (¬ host < 0 ∧ host < nI nh)) => ?_)
      · obtain ⟨jn, h_jn, rfl⟩ := in_nat (by omega) c4
        have z_jn := nI_clamp (show jn < 2 ^ 31 by omega)
        have y_jn : cN (nI jn) = jn := z_jn
        refine lv_aload_n hC.1 hC.2.1 dX10_target_29 rfl (lv_at hl 0 rfl) ?_
        refine gf_X10_39 hC hw dX10_target_30 ?_
        obtain ⟨nx9, hnx1, hnx2, hkp9, hk309, -⟩ := hCL.2.2.2.1
        refine q_callVv (As := []) (rest := []) (q0 := 8) hC hw hl (tX7_keep_all l E a σ stk.length hkp9 hk309 nx9 hnx1 hnx2) (q_cwV hC.2.2.2.2.1 ⟨rfl, rfl⟩ wk2_178 wk2_179 wk2_180 wk1_5 wk2_181 hd_X7_keep ⟨Nat.le_of_ble_eq_true rfl, Nat.le_of_ble_eq_true rfl⟩) rfl rfl rfl rfl rfl (Nat.le_of_ble_eq_true rfl) dX10_target_33 (fun u18 H locs p16 hw => ?_)
        obtain ⟨hCLu18, hku18, hzu18⟩ := keep_CL hCL hnx1 hnx2 p16
        have hXR := hCLu18.1
        have hV := hCLu18.2.1
        have hFS := hCLu18.2.2.1
        have hRG := hCLu18.2.2.2.1
        have hSK := hCLu18.2.2.2.2
        have hN := hXR.1
        have hA := hXR.2.2.1
        have hX := hXR.2.2.2.1
        have hW := hV.1
        have hS : cS u18 nh nj := cS.ag hA hV.2.2.1
        have hE : aE u18 u18 := aE.rf
        have hnh := hS.1
        have hnj := hS.2.1
        refine lv_aload_n hC.1 hC.2.1 dX10_target_36 rfl (lv_at hl 0 rfl) ?_
        refine gf_X10_19 hC hw dX10_target_37 ?_
        refine gf_X10_204 hC hw dX10_target_40 ?_
        refine lv_iload_n hC.1 hC.2.1 dX10_target_43 rfl (lv_at hl 1 rfl) ?_
        refine lv_iload_n hC.1 hC.2.1 dX10_target_44 rfl (lv_at hl 2 rfl) ?_
        refine as_X14 hC hw (by omega) dX10_target_45 (fun H locs hw => ?_)
        have hw : Wst E (XW E a) (sr u18 14 (upd (u18 14) jn (host))) A s.heap H locs := hw
        refine lv_aload_n hC.1 hC.2.1 dX10_target_46 rfl (lv_at hl 0 rfl) ?_
        refine gf_X10_19 hC hw dX10_target_47 ?_
        refine q_callVp (As := []) (rest := []) (q0 := 7) hC hw hl (tX6_targets l E a (sr u18 14 (upd (u18 14) jn (host))) nh nj hN hnh hnj) (q_cwV hC.2.2.2.2.1 ⟨rfl, rfl⟩ wk3_210 wk3_211 wk3_212 wk1_3 wk3_213 hd_X6_targets ⟨Nat.le_of_ble_eq_true rfl, Nat.le_of_ble_eq_true rfl⟩) rfl rfl rfl rfl rfl (Nat.le_of_ble_eq_true rfl) dX10_target_50 (fun H locs hw => ?_)
        refine hret _ _ _ _ _ _ hw ?_ rfl dX10_target_53
        have hCf := CL.tg hCLu18 h_jn (Or.inr (okB_n c15)) (rfl : sr u18 14 (upd (u18 14) jn (host)) = sr u18 14 (upd (u18 14) jn host))
        have ho : o_target v nh nj (nI jn) host = (m_tgs (upd v (330 + jn) host) nj, some (upd v (330 + jn) host)) := by rw [o_target, if_pos ⟨c4, (Or.inr c15)⟩, y_jn]
        rw [ho]
        exact ⟨c_tgs_eq hCf.1.2.2.2.2.1 hCf.2.1.2.2.2.2.2.1 hnh, hCf.mono (by omega), ⟨hzu18 9 (by decide) (by decide), hku18 27 (by decide) (by decide), hku18 28 (by decide) (by decide), hzu18 16 (by decide) (by decide)⟩⟩
      · refine lv_iconst (v := (-1)) hC.1 hC.2.1 dX10_target_27 (by decide) ?_
        refine hret _ _ _ _ _ _ hw ?_ rfl dX10_target_28
        have ho : o_target v nh nj job host = (-1, none) := by rw [o_target, if_neg (fun q => q.2.elim c5 c15)]
        rw [ho]
        exact ⟨rfl, hCL.mono (by omega), rfl, rfl, rfl, rfl⟩
