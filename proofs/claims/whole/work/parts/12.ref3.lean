theorem upn {f : Nat → Int32} {k j : Nat} {x : Int32} (h : j ≠ k) : upd f k x j = f j := if_neg h
theorem ups {f : Nat → Int32} {k : Nat} {x : Int32} : upd f k x k = x := if_pos rfl
set_option maxHeartbeats 4000000 in
set_option maxRecDepth 100000 in
theorem tX11_why (l : Launch) (E : EV) (a : Nat → Nat) (τ : St) (nh : Nat) (nj : Nat) (job : Int32) (host : Int32) (hW : mF (τ 1) nh nj) : MI l E (MW E a) yX11_why (Cond.code yX11_why cX11_why 3 (some .int)) ({ frames := 4, cells := 0, slots := 0, locals := 94 }) [.ref (a 70), .int (job), .int (host)] τ (fun r_ u_ => r_ = (o_why (τ 1) nh nj job host) ∧ u_ = τ) := by
  refine MI.mk (by decide +kernel) (Nat.le_of_ble_eq_true rfl) ?_
  intro p e s m args below meth c ls A Q hret hC hw hl
  have hC : Cxt E p s m args meth c cX11_why 3 (some .int) RX11 A := hC
  have hl : lv_has ls 3 [(0, .ref (a 70)), (1, .int (job)), (2, .int (host))] := hl
  have ⟨hnh, hnj, hW0, hW1, hWh⟩ := id hW
  refine lv_aload_n hC.1 hC.2.1 dX11_why_0 rfl (lv_at hl 0 rfl) ?_
  refine lv_iload_n hC.1 hC.2.1 dX11_why_1 rfl (lv_at hl 1 rfl) ?_
  refine q_callVp (As := [.int (job)]) (rest := []) (q0 := 0) hC hw hl (tX11_isJob l E a τ nh nj job (by first | assumption | omega)) (q_cwV hC.2.2.2.2.1 ⟨rfl, rfl⟩ wk4_194 wk4_196 wks_2_7 wk1_12 wk4_197 hd_X11_isJob ⟨Nat.le_of_ble_eq_true rfl, Nat.le_of_ble_eq_true rfl⟩) rfl rfl rfl rfl rfl (Nat.le_of_ble_eq_true rfl) dX11_why_2 (fun H locs hw => ?_)
  refine q_ifeq hC 16 cB dX11_why_5 (by decide) (fun (c4 : ¬ (¬ job < 0 ∧ job < nI nj)) => ?_) (fun (c4 : ¬ job < 0 ∧ job < nI nj) => ?_)
  · refine lv_iconst (v := (-1)) hC.1 hC.2.1 dX11_why_16 (by decide) ?_
    refine lv_goto (tgt := 44) hC.1 hC.2.1 dX11_why_17 (by decide) ?_
    refine hret _ _ _ _ _ _ hw ?_ rfl dX11_why_44
    exact ⟨by rw [o_why, if_neg (fun q => c4 q.1)], rfl⟩
  · refine lv_aload_n hC.1 hC.2.1 dX11_why_8 rfl (lv_at hl 0 rfl) ?_
    refine lv_iload_n hC.1 hC.2.1 dX11_why_9 rfl (lv_at hl 2 rfl) ?_
    refine q_callVp (As := [.int (host)]) (rest := []) (q0 := 0) hC hw hl (tX11_isHost l E a τ nh nj host (by first | assumption | omega)) (q_cwV hC.2.2.2.2.1 ⟨rfl, rfl⟩ wk4_198 wk4_200 wks_2_8 wk1_12 wk4_201 hd_X11_isHost ⟨Nat.le_of_ble_eq_true rfl, Nat.le_of_ble_eq_true rfl⟩) rfl rfl rfl rfl rfl (Nat.le_of_ble_eq_true rfl) dX11_why_10 (fun H locs hw => ?_)
    refine q_ifne hC 20 cB dX11_why_13 (by decide) (fun (c8 : ¬ host < 0 ∧ host < nI nh) => ?_) (fun (c8 : ¬ (¬ host < 0 ∧ host < nI nh)) => ?_)
    · obtain ⟨j, h_j, rfl⟩ := in_nat (by omega) c4
      have z_j := nI_clamp (show j < 2 ^ 31 by omega)
      have y_j : cN (nI j) = j := z_j
      obtain ⟨h, h_h, rfl⟩ := in_nat (by omega) c8
      have z_h := nI_clamp (show h < 2 ^ 31 by omega)
      have y_h : cN (nI h) = h := z_h
      refine lv_aload_n hC.1 hC.2.1 dX11_why_20 rfl (lv_at hl 0 rfl) ?_
      refine gf_X11_7 hC hw dX11_why_21 ?_
      refine lv_sipush (v := nI 258) hC.1 hC.2.1 dX11_why_24 (by decide) ?_
      refine lv_iload_n hC.1 hC.2.1 dX11_why_27 rfl (lv_at hl 1 rfl) ?_
      refine q_addN hC dX11_why_28 ?_
      refine al_M1 (v := eM (τ 1) 11 j) hC hw (by omega) (show _ = eM (τ 1) 11 j from congrArg (τ 1) (by omega)) dX11_why_29 ?_
      refine q_ifeq hC 38 cI dX11_why_30 (by decide) (fun (c9 : (eM (τ 1) 11 j) = 0) => ?_) (fun (c9 : ¬ ((eM (τ 1) 11 j) = 0)) => ?_)
      · refine lv_aload_n hC.1 hC.2.1 dX11_why_38 rfl (lv_at hl 0 rfl) ?_
        refine lv_iload_n hC.1 hC.2.1 dX11_why_39 rfl (lv_at hl 1 rfl) ?_
        refine lv_iload_n hC.1 hC.2.1 dX11_why_40 rfl (lv_at hl 2 rfl) ?_
        refine q_callVp (As := [.int (nI j), .int (nI h)]) (rest := []) (q0 := 0) hC hw hl (tX11_whyNot l E a τ nh nj j h (by first | assumption | omega) (by first | assumption | omega) (by first | assumption | omega)) (q_cwV hC.2.2.2.2.1 ⟨rfl, rfl⟩ wk4_202 wk4_204 wks_2_9 wk1_12 wk4_205 hd_X11_whyNot ⟨Nat.le_of_ble_eq_true rfl, Nat.le_of_ble_eq_true rfl⟩) rfl rfl rfl rfl rfl (Nat.le_of_ble_eq_true rfl) dX11_why_41 (fun H locs hw => ?_)
        refine hret _ _ _ _ _ _ hw ?_ rfl dX11_why_44
        exact ⟨by rw [o_why, if_pos ⟨c4, c8⟩, y_j, y_h, if_pos c9], rfl⟩
      · refine lv_bipush (v := (-2)) hC.1 hC.2.1 dX11_why_33 (by decide) ?_
        refine lv_goto (tgt := 44) hC.1 hC.2.1 dX11_why_35 (by decide) ?_
        refine hret _ _ _ _ _ _ hw ?_ rfl dX11_why_44
        exact ⟨by rw [o_why, if_pos ⟨c4, c8⟩, y_j, y_h, if_neg c9], rfl⟩
    · refine lv_iconst (v := (-1)) hC.1 hC.2.1 dX11_why_16 (by decide) ?_
      refine lv_goto (tgt := 44) hC.1 hC.2.1 dX11_why_17 (by decide) ?_
      refine hret _ _ _ _ _ _ hw ?_ rfl dX11_why_44
      exact ⟨by rw [o_why, if_neg (fun q => c8 q.2)], rfl⟩
set_option maxHeartbeats 4000000 in
set_option maxRecDepth 100000 in
theorem tX11_points (l : Launch) (E : EV) (a : Nat → Nat) (τ : St) (nh : Nat) (nj : Nat) (job : Int32) (host : Int32) (hW : mF (τ 1) nh nj) : MI l E (MW E a) yX11_points (Cond.code yX11_points cX11_points 3 (some .int)) ({ frames := 3, cells := 0, slots := 0, locals := 72 }) [.ref (a 70), .int (job), .int (host)] τ (fun r_ u_ => r_ = (o_points (τ 1) nh nj job host) ∧ u_ = τ) := by
  refine MI.mk (by decide +kernel) (Nat.le_of_ble_eq_true rfl) ?_
  intro p e s m args below meth c ls A Q hret hC hw hl
  have hC : Cxt E p s m args meth c cX11_points 3 (some .int) RX11 A := hC
  have hl : lv_has ls 3 [(0, .ref (a 70)), (1, .int (job)), (2, .int (host))] := hl
  have ⟨hnh, hnj, hW0, hW1, hWh⟩ := id hW
  refine lv_aload_n hC.1 hC.2.1 dX11_points_0 rfl (lv_at hl 0 rfl) ?_
  refine lv_iload_n hC.1 hC.2.1 dX11_points_1 rfl (lv_at hl 1 rfl) ?_
  refine q_callVp (As := [.int (job)]) (rest := []) (q0 := 0) hC hw hl (tX11_isJob l E a τ nh nj job (by first | assumption | omega)) (q_cwV hC.2.2.2.2.1 ⟨rfl, rfl⟩ wk4_194 wk4_196 wks_2_7 wk1_12 wk4_197 hd_X11_isJob ⟨Nat.le_of_ble_eq_true rfl, Nat.le_of_ble_eq_true rfl⟩) rfl rfl rfl rfl rfl (Nat.le_of_ble_eq_true rfl) dX11_points_2 (fun H locs hw => ?_)
  refine q_ifeq hC 16 cB dX11_points_5 (by decide) (fun (c4 : ¬ (¬ job < 0 ∧ job < nI nj)) => ?_) (fun (c4 : ¬ job < 0 ∧ job < nI nj) => ?_)
  · refine lv_ldc (v := -1000001) hC.1 hC.2.1 hC.2.2.2.1 (hC.2.2.2.2.1 _ wk5_2) dX11_points_16 ?_
    refine lv_goto (tgt := 45) hC.1 hC.2.1 dX11_points_18 (by decide) ?_
    refine hret _ _ _ _ _ _ hw ?_ rfl dX11_points_45
    exact ⟨by rw [o_points, if_neg (fun q => c4 q.1)], rfl⟩
  · refine lv_aload_n hC.1 hC.2.1 dX11_points_8 rfl (lv_at hl 0 rfl) ?_
    refine lv_iload_n hC.1 hC.2.1 dX11_points_9 rfl (lv_at hl 2 rfl) ?_
    refine q_callVp (As := [.int (host)]) (rest := []) (q0 := 0) hC hw hl (tX11_isHost l E a τ nh nj host (by first | assumption | omega)) (q_cwV hC.2.2.2.2.1 ⟨rfl, rfl⟩ wk4_198 wk4_200 wks_2_8 wk1_12 wk4_201 hd_X11_isHost ⟨Nat.le_of_ble_eq_true rfl, Nat.le_of_ble_eq_true rfl⟩) rfl rfl rfl rfl rfl (Nat.le_of_ble_eq_true rfl) dX11_points_10 (fun H locs hw => ?_)
    refine q_ifne hC 21 cB dX11_points_13 (by decide) (fun (c8 : ¬ host < 0 ∧ host < nI nh) => ?_) (fun (c8 : ¬ (¬ host < 0 ∧ host < nI nh)) => ?_)
    · obtain ⟨j, h_j, rfl⟩ := in_nat (by omega) c4
      have z_j := nI_clamp (show j < 2 ^ 31 by omega)
      have y_j : cN (nI j) = j := z_j
      obtain ⟨h, h_h, rfl⟩ := in_nat (by omega) c8
      have z_h := nI_clamp (show h < 2 ^ 31 by omega)
      have y_h : cN (nI h) = h := z_h
      refine lv_aload_n hC.1 hC.2.1 dX11_points_21 rfl (lv_at hl 0 rfl) ?_
      refine gf_X11_7 hC hw dX11_points_22 ?_
      refine lv_sipush (v := nI 258) hC.1 hC.2.1 dX11_points_25 (by decide) ?_
      refine lv_iload_n hC.1 hC.2.1 dX11_points_28 rfl (lv_at hl 1 rfl) ?_
      refine q_addN hC dX11_points_29 ?_
      refine al_M1 (v := eM (τ 1) 11 j) hC hw (by omega) (show _ = eM (τ 1) 11 j from congrArg (τ 1) (by omega)) dX11_points_30 ?_
      refine q_ifeq hC 39 cI dX11_points_31 (by decide) (fun (c9 : (eM (τ 1) 11 j) = 0) => ?_) (fun (c9 : ¬ ((eM (τ 1) 11 j) = 0)) => ?_)
      · refine lv_aload_n hC.1 hC.2.1 dX11_points_39 rfl (lv_at hl 0 rfl) ?_
        refine lv_iload_n hC.1 hC.2.1 dX11_points_40 rfl (lv_at hl 1 rfl) ?_
        refine lv_iload_n hC.1 hC.2.1 dX11_points_41 rfl (lv_at hl 2 rfl) ?_
        refine q_callVp (As := [.int (nI j), .int (nI h)]) (rest := []) (q0 := 0) hC hw hl (tX11_pointsOf l E a τ nh nj j h (by first | assumption | omega) (by first | assumption | omega) (by first | assumption | omega)) (q_cwV hC.2.2.2.2.1 ⟨rfl, rfl⟩ wk5_4 wk5_6 wks_3_2 wk1_12 wk5_7 hd_X11_pointsOf ⟨Nat.le_of_ble_eq_true rfl, Nat.le_of_ble_eq_true rfl⟩) rfl rfl rfl rfl rfl (Nat.le_of_ble_eq_true rfl) dX11_points_42 (fun H locs hw => ?_)
        refine hret _ _ _ _ _ _ hw ?_ rfl dX11_points_45
        exact ⟨by rw [o_points, if_pos ⟨c4, c8⟩, y_j, y_h, if_pos c9], rfl⟩
      · refine lv_ldc (v := -1000002) hC.1 hC.2.1 hC.2.2.2.1 (hC.2.2.2.2.1 _ wk5_3) dX11_points_34 ?_
        refine lv_goto (tgt := 45) hC.1 hC.2.1 dX11_points_36 (by decide) ?_
        refine hret _ _ _ _ _ _ hw ?_ rfl dX11_points_45
        exact ⟨by rw [o_points, if_pos ⟨c4, c8⟩, y_j, y_h, if_neg c9], rfl⟩
    · refine lv_ldc (v := -1000001) hC.1 hC.2.1 hC.2.2.2.1 (hC.2.2.2.2.1 _ wk5_2) dX11_points_16 ?_
      refine lv_goto (tgt := 45) hC.1 hC.2.1 dX11_points_18 (by decide) ?_
      refine hret _ _ _ _ _ _ hw ?_ rfl dX11_points_45
      exact ⟨by rw [o_points, if_neg (fun q => c8 q.2)], rfl⟩
set_option maxHeartbeats 4000000 in
set_option maxRecDepth 100000 in
theorem tX11_left (l : Launch) (E : EV) (a : Nat → Nat) (τ : St) (nh : Nat) (nj : Nat) (host : Int32) (i : Int32) (hW : mF (τ 1) nh nj) : MI l E (MW E a) yX11_left (Cond.code yX11_left cX11_left 3 (some .int)) ({ frames := 2, cells := 0, slots := 0, locals := 47 }) [.ref (a 70), .int (host), .int (i)] τ (fun r_ u_ => r_ = (o_left (τ 1) nh nj host i) ∧ u_ = τ) := by
  refine MI.mk (by decide +kernel) (Nat.le_of_ble_eq_true rfl) ?_
  intro p e s m args below meth c ls A Q hret hC hw hl
  have hC : Cxt E p s m args meth c cX11_left 3 (some .int) RX11 A := hC
  have hl : lv_has ls 3 [(0, .ref (a 70)), (1, .int (host)), (2, .int (i))] := hl
  have ⟨hnh, hnj, hW0, hW1, hWh⟩ := id hW
  refine lv_aload_n hC.1 hC.2.1 dX11_left_0 rfl (lv_at hl 0 rfl) ?_
  refine lv_iload_n hC.1 hC.2.1 dX11_left_1 rfl (lv_at hl 1 rfl) ?_
  refine q_callVp (As := [.int (host)]) (rest := []) (q0 := 0) hC hw hl (tX11_isHost l E a τ nh nj host (by first | assumption | omega)) (q_cwV hC.2.2.2.2.1 ⟨rfl, rfl⟩ wk4_198 wk4_200 wks_2_8 wk1_12 wk4_201 hd_X11_isHost ⟨Nat.le_of_ble_eq_true rfl, Nat.le_of_ble_eq_true rfl⟩) rfl rfl rfl rfl rfl (Nat.le_of_ble_eq_true rfl) dX11_left_2 (fun H locs hw => ?_)
  refine q_ifeq hC 27 cB dX11_left_5 (by decide) (fun (c4 : ¬ (¬ host < 0 ∧ host < nI nh)) => ?_) (fun (c4 : ¬ host < 0 ∧ host < nI nh) => ?_)
  · refine lv_iconst (v := (-1)) hC.1 hC.2.1 dX11_left_27 (by decide) ?_
    refine hret _ _ _ _ _ _ hw ?_ rfl dX11_left_28
    exact ⟨by rw [o_left, if_neg (fun q => c4 q.1)], rfl⟩
  · refine lv_iload_n hC.1 hC.2.1 dX11_left_8 rfl (lv_at hl 2 rfl) ?_
    refine lv_iconst (v := nI 0) hC.1 hC.2.1 dX11_left_9 (by decide) ?_
    refine lv_iconst (v := nI 2) hC.1 hC.2.1 dX11_left_10 (by decide) ?_
    refine q_callSp (As := [.int (i), .int (nI 0), .int (nI 2)]) (rest := []) hC hw hl (tX11_in l E a τ i 0 2) (q_cwS hC.2.2.2.2.1 ⟨rfl, rfl⟩ wk4_175 wk4_176 wk1_12 wk4_177 hd_X11_in.2 ⟨Nat.le_of_ble_eq_true rfl, Nat.le_of_ble_eq_true rfl⟩) rfl rfl (Nat.le_of_ble_eq_true rfl) dX11_left_11 (fun H locs hw => ?_)
    refine q_ifeq hC 27 cB dX11_left_14 (by decide) (fun (c8 : ¬ (¬ i < 0 ∧ ¬ 2 < i)) => ?_) (fun (c8 : ¬ i < 0 ∧ ¬ 2 < i) => ?_)
    · refine lv_iconst (v := (-1)) hC.1 hC.2.1 dX11_left_27 (by decide) ?_
      refine hret _ _ _ _ _ _ hw ?_ rfl dX11_left_28
      exact ⟨by rw [o_left, if_neg (fun q => c8 ((le_iff (n := 2) (by decide)).mpr q.2))], rfl⟩
    · obtain ⟨h, h_h, rfl⟩ := in_nat (by omega) c4
      have z_h := nI_clamp (show h < 2 ^ 31 by omega)
      have y_h : cN (nI h) = h := z_h
      obtain ⟨x, h_x, rfl⟩ := in_nat (by omega) ((le_iff (n := 2) (by decide)).mp c8)
      have z_x := nI_clamp (show x < 2 ^ 31 by omega)
      have y_x : cN (nI x) = x := z_x
      refine lv_aload_n hC.1 hC.2.1 dX11_left_17 rfl (lv_at hl 0 rfl) ?_
      refine lv_iload_n hC.1 hC.2.1 dX11_left_18 rfl (lv_at hl 1 rfl) ?_
      refine lv_iload_n hC.1 hC.2.1 dX11_left_19 rfl (lv_at hl 2 rfl) ?_
      refine lv_iconst (v := (-1)) hC.1 hC.2.1 dX11_left_20 (by decide) ?_
      refine q_callVp (As := [.int (nI h), .int (nI x), .int ((-1))]) (rest := []) (q0 := 0) hC hw hl (tX11_leftOf l E a τ nh nj h x (-1) (by first | assumption | omega) (by first | assumption | omega) (by first | assumption | omega)) (q_cwV hC.2.2.2.2.1 ⟨rfl, rfl⟩ wk4_206 wk4_208 wks_2_10 wk1_12 wk4_209 hd_X11_leftOf ⟨Nat.le_of_ble_eq_true rfl, Nat.le_of_ble_eq_true rfl⟩) rfl rfl rfl rfl rfl (Nat.le_of_ble_eq_true rfl) dX11_left_21 (fun H locs hw => ?_)
      refine lv_goto (tgt := 28) hC.1 hC.2.1 dX11_left_24 (by decide) ?_
      refine hret _ _ _ _ _ _ hw ?_ rfl dX11_left_28
      exact ⟨by rw [o_left, if_pos ⟨c4, (le_iff (n := 2) (by decide)).mp c8⟩, y_h, y_x], rfl⟩
set_option maxHeartbeats 4000000 in
set_option maxRecDepth 100000 in
theorem tX11_gone (l : Launch) (E : EV) (a : Nat → Nat) (τ : St)  : MI l E (MW E a) yX11_gone (Cond.code yX11_gone cX11_gone 1 (some .int)) ({ frames := 0, cells := 0, slots := 0, locals := 0 }) [.ref (a 70)] τ (fun r_ u_ => r_ = ((τ 0 3)) ∧ u_ = τ) := by
  refine MI.mk (by decide +kernel) (Nat.le_of_ble_eq_true rfl) ?_
  intro p e s m args below meth c ls A Q hret hC hw hl
  have hC : Cxt E p s m args meth c cX11_gone 1 (some .int) RX11 A := hC
  have hl : lv_has ls 1 [(0, .ref (a 70))] := hl
  refine lv_aload_n hC.1 hC.2.1 dX11_gone_0 rfl (lv_at hl 0 rfl) ?_
  refine gf_X11_120 (v := τ 0 3) hC hw rfl dX11_gone_1 ?_
  refine hret _ _ _ _ _ _ hw ?_ rfl dX11_gone_4
  exact ⟨rfl, rfl⟩
set_option maxHeartbeats 4000000 in
set_option maxRecDepth 100000 in
theorem tX11_step (l : Launch) (E : EV) (a : Nat → Nat) (τ : St) (mv : Nat) (i : Int32) (what : Int32) (hmv : τ 0 6 = nI mv) (hm8 : mv ≤ 8) : MI l E (MW E a) yX11_step (Cond.code yX11_step cX11_step 3 (some .int)) ({ frames := 1, cells := 0, slots := 0, locals := 22 }) [.ref (a 70), .int (i), .int (what)] τ (fun r_ u_ => r_ = (o_step mv (τ 10) (τ 11) i what) ∧ u_ = τ) := by
  refine MI.mk (by decide +kernel) (Nat.le_of_ble_eq_true rfl) ?_
  intro p e s m args below meth c ls A Q hret hC hw hl
  have hC : Cxt E p s m args meth c cX11_step 3 (some .int) RX11 A := hC
  have hl : lv_has ls 3 [(0, .ref (a 70)), (1, .int (i)), (2, .int (what))] := hl
  refine lv_iload_n hC.1 hC.2.1 dX11_step_0 rfl (lv_at hl 1 rfl) ?_
  refine lv_iconst (v := nI 0) hC.1 hC.2.1 dX11_step_1 (by decide) ?_
  refine lv_aload_n hC.1 hC.2.1 dX11_step_2 rfl (lv_at hl 0 rfl) ?_
  refine gf_X11_175 (v := nI mv) hC hw hmv dX11_step_3 ?_
  refine lv_iconst (v := nI 1) hC.1 hC.2.1 dX11_step_6 (by decide) ?_
  refine lv_isub hC.1 hC.2.1 dX11_step_7 ?_
  refine q_callSp (As := [.int (i), .int (nI 0), .int ((nI mv) - 1)]) (rest := []) hC hw hl (tX11_in l E a τ i 0 ((nI mv) - 1)) (q_cwS hC.2.2.2.2.1 ⟨rfl, rfl⟩ wk4_175 wk4_176 wk1_12 wk4_177 hd_X11_in.2 ⟨Nat.le_of_ble_eq_true rfl, Nat.le_of_ble_eq_true rfl⟩) rfl rfl (Nat.le_of_ble_eq_true rfl) dX11_step_8 (fun H locs hw => ?_)
  refine q_ifeq hC 45 cB dX11_step_11 (by decide) (fun (c4 : ¬ (¬ i < 0 ∧ ¬ ((nI mv) - 1) < i)) => ?_) (fun (c4 : ¬ i < 0 ∧ ¬ ((nI mv) - 1) < i) => ?_)
  · refine lv_iconst (v := (-1)) hC.1 hC.2.1 dX11_step_45 (by decide) ?_
    refine hret _ _ _ _ _ _ hw ?_ rfl dX11_step_46
    exact ⟨by rw [o_step, if_neg (fun q => c4 ((in_iff (n := mv) (by omega)).mpr q.1))], rfl⟩
  · refine lv_iload_n hC.1 hC.2.1 dX11_step_14 rfl (lv_at hl 2 rfl) ?_
    refine lv_iconst (v := nI 0) hC.1 hC.2.1 dX11_step_15 (by decide) ?_
    refine lv_iconst (v := nI 1) hC.1 hC.2.1 dX11_step_16 (by decide) ?_
    refine q_callSp (As := [.int (what), .int (nI 0), .int (nI 1)]) (rest := []) hC hw hl (tX11_in l E a τ what 0 1) (q_cwS hC.2.2.2.2.1 ⟨rfl, rfl⟩ wk4_175 wk4_176 wk1_12 wk4_177 hd_X11_in.2 ⟨Nat.le_of_ble_eq_true rfl, Nat.le_of_ble_eq_true rfl⟩) rfl rfl (Nat.le_of_ble_eq_true rfl) dX11_step_17 (fun H locs hw => ?_)
    refine q_ifeq hC 45 cB dX11_step_20 (by decide) (fun (c8 : ¬ (¬ what < 0 ∧ ¬ 1 < what)) => ?_) (fun (c8 : ¬ what < 0 ∧ ¬ 1 < what) => ?_)
    · refine lv_iconst (v := (-1)) hC.1 hC.2.1 dX11_step_45 (by decide) ?_
      refine hret _ _ _ _ _ _ hw ?_ rfl dX11_step_46
      exact ⟨by rw [o_step, if_neg (fun q => c8 ((le_iff (n := 1) (by decide)).mpr q.2))], rfl⟩
    · obtain ⟨x, h_x, rfl⟩ := in_nat (by omega) ((in_iff (n := mv) (by omega)).mp c4)
      have z_x := nI_clamp (show x < 2 ^ 31 by omega)
      have y_x : cN (nI x) = x := z_x
      refine lv_iload_n hC.1 hC.2.1 dX11_step_23 rfl (lv_at hl 2 rfl) ?_
      refine q_ifne hC 36 cI dX11_step_24 (by decide) (fun (c9 : ¬ (what = 0)) => ?_) (fun (c9 : what = 0) => ?_)
      · refine lv_aload_n hC.1 hC.2.1 dX11_step_36 rfl (lv_at hl 0 rfl) ?_
        refine gf_X11_41 hC hw dX11_step_37 ?_
        refine lv_iload_n hC.1 hC.2.1 dX11_step_40 rfl (lv_at hl 1 rfl) ?_
        refine al_M11 (v := τ 11 x) hC hw (by omega) rfl dX11_step_41 ?_
        refine lv_goto (tgt := 46) hC.1 hC.2.1 dX11_step_42 (by decide) ?_
        refine hret _ _ _ _ _ _ hw ?_ rfl dX11_step_46
        exact ⟨by rw [o_step, if_pos ⟨((in_iff (n := mv) (by omega)).mp c4), ((le_iff (n := 1) (by decide)).mp c8)⟩, y_x, if_neg c9], rfl⟩
      · refine lv_aload_n hC.1 hC.2.1 dX11_step_27 rfl (lv_at hl 0 rfl) ?_
        refine gf_X11_38 hC hw dX11_step_28 ?_
        refine lv_iload_n hC.1 hC.2.1 dX11_step_31 rfl (lv_at hl 1 rfl) ?_
        refine al_M10 (v := τ 10 x) hC hw (by omega) rfl dX11_step_32 ?_
        refine lv_goto (tgt := 46) hC.1 hC.2.1 dX11_step_33 (by decide) ?_
        refine hret _ _ _ _ _ _ hw ?_ rfl dX11_step_46
        exact ⟨by rw [o_step, if_pos ⟨((in_iff (n := mv) (by omega)).mp c4), ((le_iff (n := 1) (by decide)).mp c8)⟩, y_x, if_pos c9], rfl⟩
set_option maxHeartbeats 4000000 in
set_option maxRecDepth 100000 in
theorem tX11_targets (l : Launch) (E : EV) (a : Nat → Nat) (τ : St) (nh : Nat) (nj : Nat) (hW : mF (τ 1) nh nj) : MI l E (MW E a) yX11_targets (Cond.code yX11_targets cX11_targets 3 (some .int)) ({ frames := 0, cells := 0, slots := 0, locals := 0 }) [.ref (a 70)] τ (fun r_ u_ => r_ = (m_tgs (τ 1) nj) ∧ u_ = τ) := by
  refine MI.mk (by decide +kernel) (Nat.le_of_ble_eq_true rfl) ?_
  intro p e s m args below meth c ls A Q hret hC hw hl
  have hC : Cxt E p s m args meth c cX11_targets 3 (some .int) RX11 A := hC
  have hl : lv_has ls 3 [(0, .ref (a 70))] := hl
  have ⟨hnh, hnj, hW0, hW1, hWh⟩ := id hW
  refine lv_iconst (v := nI 0) hC.1 hC.2.1 dX11_targets_0 (by decide) ?_
  refine lv_istore_n (lv' := [(1, .int (nI 0)), (0, .ref (a 70))]) hC.1 hC.2.1 dX11_targets_1 rfl hl (by decide) rfl (fun ls hl => ?_)
  refine lv_iconst (v := nI 0) hC.1 hC.2.1 dX11_targets_2 (by decide) ?_
  refine lv_istore_n (lv' := [(2, .int (nI 0)), (1, .int (nI 0)), (0, .ref (a 70))]) hC.1 hC.2.1 dX11_targets_3 rfl hl (by decide) rfl (fun ls hl => ?_)
  have L4_0 : ∀ (n : Nat), ∀ (k : Nat), ∀ (v : Int32), (v = (m_tgs (τ 1) k)) → (k ≤ nj) → (nj - k) < n → ∀ (H : Heap) (locs : List Loc) (ls : Array Slot), Wst E (MW E a) (τ) A s.heap H locs → lv_has ls 3 [(0, .ref (a 70)), (1, .int (v)), (2, .int (nI k))] → W p l e ({ frames := 0, cells := 0, slots := 0, locals := 0 }) s m args below meth c H locs 0 0 Q (F0 m 4 ls []) := by
    intro n
    induction n with
    | zero => intro k v q_v hk hn; exact absurd hn (Nat.not_lt_zero _)
    | succ n ih4 =>
      intro k v q_v hk hn4 H locs ls hw hl
      subst q_v
      refine lv_iload_n hC.1 hC.2.1 dX11_targets_4 rfl (lv_at hl 2 rfl) ?_
      refine lv_aload_n hC.1 hC.2.1 dX11_targets_5 rfl (lv_at hl 0 rfl) ?_
      refine gf_X11_7 hC hw dX11_targets_6 ?_
      refine lv_iconst (v := nI 1) hC.1 hC.2.1 dX11_targets_9 (by decide) ?_
      refine al_M1 (v := nI nj) hC hw (by omega) hW.2.2.2.1 dX11_targets_10 ?_
      refine q_cmpge hC 41 (cNle (by omega) (by omega)) dX11_targets_11 (by decide) (fun (c2 : nj ≤ k) => ?_) (fun (c2 : k < nj) => ?_)
      · refine lv_iload_n hC.1 hC.2.1 dX11_targets_41 rfl (lv_at hl 1 rfl) ?_
        refine hret _ _ _ _ _ _ hw ?_ rfl dX11_targets_42
        exact ⟨by rw [show k = nj by omega], rfl⟩
      · refine lv_iload_n hC.1 hC.2.1 dX11_targets_14 rfl (lv_at hl 1 rfl) ?_
        refine lv_aload_n hC.1 hC.2.1 dX11_targets_15 rfl (lv_at hl 0 rfl) ?_
        refine gf_X11_7 hC hw dX11_targets_16 ?_
        refine lv_sipush (v := nI 330) hC.1 hC.2.1 dX11_targets_19 (by decide) ?_
        refine lv_iload_n hC.1 hC.2.1 dX11_targets_22 rfl (lv_at hl 2 rfl) ?_
        refine q_addN hC dX11_targets_23 ?_
        refine al_M1 (v := eM (τ 1) 14 k) hC hw (by omega) (show _ = eM (τ 1) 14 k from congrArg (τ 1) (by omega)) dX11_targets_24 ?_
        have J33_4 : ∀ (w3 : Int32), w3 = (if ¬ ((eM (τ 1) 14 k) < 0) then (1 : Int32) else 0) → ∀ (H : Heap) (locs : List Loc) (ls : Array Slot), Wst E (MW E a) (τ) A s.heap H locs → lv_has ls 3 [(0, .ref (a 70)), (1, .int (m_tgs (τ 1) k)), (2, .int (nI k))] → W p l e ({ frames := 0, cells := 0, slots := 0, locals := 0 }) s m args below meth c H locs 0 0 Q (F0 m 33 ls [.int (w3), .int (m_tgs (τ 1) k)]) := by
          intro w3 e4 H locs ls hw hl
          subst e4
          refine lv_iadd hC.1 hC.2.1 dX11_targets_33 ?_
          refine lv_istore_n (lv' := [(1, .int ((m_tgs (τ 1) k) + (if ¬ ((eM (τ 1) 14 k) < 0) then (1 : Int32) else 0))), (0, .ref (a 70)), (2, .int (nI k))]) hC.1 hC.2.1 dX11_targets_34 rfl hl (by decide) rfl (fun ls hl => ?_)
          refine lv_iinc (v := nI (k + 1)) (lv' := [(2, .int (nI (k + 1))), (1, .int ((m_tgs (τ 1) k) + (if ¬ ((eM (τ 1) 14 k) < 0) then (1 : Int32) else 0))), (0, .ref (a 70))]) hC.1 hC.2.1 dX11_targets_35 hl (k := 2) rfl (nI_add _ _) (by decide) rfl (fun ls hl => ?_)
          refine lv_goto (tgt := 4) hC.1 hC.2.1 dX11_targets_38 (by decide) ?_
          exact ih4 (k + 1) ((m_tgs (τ 1) k) + (if ¬ ((eM (τ 1) 14 k) < 0) then (1 : Int32) else 0)) (by simp only [m_tgs, sm, ite_not]) (by omega) (by omega) _ _ _ hw (lv_sub hl [2, 1, 0] rfl)
        refine q_iflt hC 32 cI dX11_targets_25 (by decide) (fun (c5 : (eM (τ 1) 14 k) < 0) => ?_) (fun (c5 : ¬ ((eM (τ 1) 14 k) < 0)) => ?_)
        · refine lv_iconst (v := nI 0) hC.1 hC.2.1 dX11_targets_32 (by decide) ?_
          exact J33_4 _ (if_neg (fun q => q c5)).symm _ _ _ hw (lv_sub hl [0, 1, 2] rfl)
        · refine lv_iconst (v := nI 1) hC.1 hC.2.1 dX11_targets_28 (by decide) ?_
          refine lv_goto (tgt := 33) hC.1 hC.2.1 dX11_targets_29 (by decide) ?_
          exact J33_4 _ (if_pos c5).symm _ _ _ hw (lv_sub hl [0, 1, 2] rfl)
  exact L4_0 _ 0 (nI 0) rfl (Nat.zero_le _) (Nat.lt_succ_self _) _ _ _ hw (lv_sub hl [2, 1, 0] rfl)
set_option maxHeartbeats 4000000 in
set_option maxRecDepth 100000 in
theorem tX11_fitsAny (l : Launch) (E : EV) (a : Nat → Nat) (τ : St) (nh : Nat) (nj : Nat) (j : Nat) (hW : mF (τ 1) nh nj) (hj : j < nj) : MI l E (MW E a) yX11_fitsAny (Cond.code yX11_fitsAny cX11_fitsAny 4 (some .boolean)) ({ frames := 4, cells := 0, slots := 0, locals := 94 }) [.ref (a 70), .int (nI j)] τ (fun r_ u_ => r_ = (if m_fit (eM (τ 1)) (pB (eM (τ 1)) (nI j)) nh nj j nh = true then (1 : Int32) else 0) ∧ u_ = τ) := by
  refine MI.mk (by decide +kernel) (Nat.le_of_ble_eq_true rfl) ?_
  intro p e s m args below meth c ls A Q hret hC hw hl
  have hC : Cxt E p s m args meth c cX11_fitsAny 4 (some .boolean) RX11 A := hC
  have hl : lv_has ls 4 [(0, .ref (a 70)), (1, .int (nI j))] := hl
  have ⟨hnh, hnj, hW0, hW1, hWh⟩ := id hW
  refine lv_iconst (v := nI 0) hC.1 hC.2.1 dX11_fitsAny_0 (by decide) ?_
  refine lv_istore_n (lv' := [(2, .int (nI 0)), (0, .ref (a 70)), (1, .int (nI j))]) hC.1 hC.2.1 dX11_fitsAny_1 rfl hl (by decide) rfl (fun ls hl => ?_)
  refine lv_iconst (v := nI 0) hC.1 hC.2.1 dX11_fitsAny_2 (by decide) ?_
  refine lv_istore_n (lv' := [(3, .int (nI 0)), (2, .int (nI 0)), (0, .ref (a 70)), (1, .int (nI j))]) hC.1 hC.2.1 dX11_fitsAny_3 rfl hl (by decide) rfl (fun ls hl => ?_)
  have L4_0 : ∀ (n : Nat), ∀ (x : Nat), ∀ (b : Int32), (b = (if m_fit (eM (τ 1)) (pB (eM (τ 1)) (nI j)) nh nj j x = true then (1 : Int32) else 0)) → (x ≤ nh) → (nh - x) < n → ∀ (H : Heap) (locs : List Loc) (ls : Array Slot), Wst E (MW E a) (τ) A s.heap H locs → lv_has ls 4 [(0, .ref (a 70)), (1, .int (nI j)), (2, .int (b)), (3, .int (nI x))] → W p l e ({ frames := 4, cells := 0, slots := 0, locals := 94 }) s m args below meth c H locs 0 0 Q (F0 m 4 ls []) := by
    intro n
    induction n with
    | zero => intro x b q_b hx hn; exact absurd hn (Nat.not_lt_zero _)
    | succ n ih4 =>
      intro x b q_b hx hn4 H locs ls hw hl
      subst q_b
      refine lv_iload_n hC.1 hC.2.1 dX11_fitsAny_4 rfl (lv_at hl 3 rfl) ?_
      refine lv_aload_n hC.1 hC.2.1 dX11_fitsAny_5 rfl (lv_at hl 0 rfl) ?_
      refine gf_X11_7 hC hw dX11_fitsAny_6 ?_
      refine lv_iconst (v := nI 0) hC.1 hC.2.1 dX11_fitsAny_9 (by decide) ?_
      refine al_M1 (v := nI nh) hC hw (by omega) hW.2.2.1 dX11_fitsAny_10 ?_
      refine q_cmpge hC 39 (cNle (by omega) (by omega)) dX11_fitsAny_11 (by decide) (fun (c2 : nh ≤ x) => ?_) (fun (c2 : x < nh) => ?_)
      · refine lv_iload_n hC.1 hC.2.1 dX11_fitsAny_39 rfl (lv_at hl 2 rfl) ?_
        refine hret _ _ _ _ _ _ hw ?_ nz_B dX11_fitsAny_40
        exact ⟨by rw [show x = nh by omega], rfl⟩
      · refine lv_iload_n hC.1 hC.2.1 dX11_fitsAny_14 rfl (lv_at hl 2 rfl) ?_
        have J32_4 : ∀ (w3 : Int32), w3 = (if (m_fit (eM (τ 1)) (pB (eM (τ 1)) (nI j)) nh nj j x = true) ∨ ((m_why (eM (τ 1)) (pB (eM (τ 1)) (nI j)) nh nj j x) = 0) then (1 : Int32) else 0) → ∀ (H : Heap) (locs : List Loc) (ls : Array Slot), Wst E (MW E a) (τ) A s.heap H locs → lv_has ls 4 [(0, .ref (a 70)), (1, .int (nI j)), (2, .int (if m_fit (eM (τ 1)) (pB (eM (τ 1)) (nI j)) nh nj j x = true then (1 : Int32) else 0)), (3, .int (nI x))] → W p l e ({ frames := 4, cells := 0, slots := 0, locals := 94 }) s m args below meth c H locs 0 0 Q (F0 m 32 ls [.int (w3)]) := by
          intro w3 e4 H locs ls hw hl
          subst e4
          refine lv_istore_n (lv' := [(2, .int (if (m_fit (eM (τ 1)) (pB (eM (τ 1)) (nI j)) nh nj j x = true) ∨ ((m_why (eM (τ 1)) (pB (eM (τ 1)) (nI j)) nh nj j x) = 0) then (1 : Int32) else 0)), (0, .ref (a 70)), (1, .int (nI j)), (3, .int (nI x))]) hC.1 hC.2.1 dX11_fitsAny_32 rfl hl (by decide) rfl (fun ls hl => ?_)
          refine lv_iinc (v := nI (x + 1)) (lv' := [(3, .int (nI (x + 1))), (2, .int (if (m_fit (eM (τ 1)) (pB (eM (τ 1)) (nI j)) nh nj j x = true) ∨ ((m_why (eM (τ 1)) (pB (eM (τ 1)) (nI j)) nh nj j x) = 0) then (1 : Int32) else 0)), (0, .ref (a 70)), (1, .int (nI j))]) hC.1 hC.2.1 dX11_fitsAny_33 hl (k := 3) rfl (nI_add _ _) (by decide) rfl (fun ls hl => ?_)
          refine lv_goto (tgt := 4) hC.1 hC.2.1 dX11_fitsAny_36 (by decide) ?_
          exact ih4 (x + 1) (if (m_fit (eM (τ 1)) (pB (eM (τ 1)) (nI j)) nh nj j x = true) ∨ ((m_why (eM (τ 1)) (pB (eM (τ 1)) (nI j)) nh nj j x) = 0) then (1 : Int32) else 0) (ite_iff (by simp only [m_fit, anyB, Bool.or_eq_true, decide_eq_true_eq])) (by omega) (by omega) _ _ _ hw (lv_sub hl [2, 3, 1, 0] rfl)
        refine q_ifne hC 27 cB dX11_fitsAny_15 (by decide) (fun (c5 : m_fit (eM (τ 1)) (pB (eM (τ 1)) (nI j)) nh nj j x = true) => ?_) (fun (c5 : ¬ (m_fit (eM (τ 1)) (pB (eM (τ 1)) (nI j)) nh nj j x = true)) => ?_)
        · refine lv_iconst (v := nI 1) hC.1 hC.2.1 dX11_fitsAny_27 (by decide) ?_
          refine lv_goto (tgt := 32) hC.1 hC.2.1 dX11_fitsAny_28 (by decide) ?_
          exact J32_4 _ (if_pos (Or.inl c5)).symm _ _ _ hw (lv_sub hl [0, 1, 2, 3] rfl)
        · refine lv_aload_n hC.1 hC.2.1 dX11_fitsAny_18 rfl (lv_at hl 0 rfl) ?_
          refine lv_iload_n hC.1 hC.2.1 dX11_fitsAny_19 rfl (lv_at hl 1 rfl) ?_
          refine lv_iload_n hC.1 hC.2.1 dX11_fitsAny_20 rfl (lv_at hl 3 rfl) ?_
          refine q_callVp (As := [.int (nI j), .int (nI x)]) (rest := []) (q0 := 0) hC hw hl (tX11_whyNot l E a τ nh nj j x (by first | assumption | omega) (by first | assumption | omega) (by first | assumption | omega)) (q_cwV hC.2.2.2.2.1 ⟨rfl, rfl⟩ wk4_202 wk4_204 wks_2_9 wk1_12 wk4_205 hd_X11_whyNot ⟨Nat.le_of_ble_eq_true rfl, Nat.le_of_ble_eq_true rfl⟩) rfl rfl rfl rfl rfl (Nat.le_of_ble_eq_true rfl) dX11_fitsAny_21 (fun H locs hw => ?_)
          refine q_ifne hC 31 cI dX11_fitsAny_24 (by decide) (fun (c9 : ¬ ((m_why (eM (τ 1)) (pB (eM (τ 1)) (nI j)) nh nj j x) = 0)) => ?_) (fun (c9 : (m_why (eM (τ 1)) (pB (eM (τ 1)) (nI j)) nh nj j x) = 0) => ?_)
          · refine lv_iconst (v := nI 0) hC.1 hC.2.1 dX11_fitsAny_31 (by decide) ?_
            exact J32_4 _ (if_neg (fun q => q.elim c5 c9)).symm _ _ _ hw (lv_sub hl [0, 1, 2, 3] rfl)
          · refine lv_iconst (v := nI 1) hC.1 hC.2.1 dX11_fitsAny_27 (by decide) ?_
            refine lv_goto (tgt := 32) hC.1 hC.2.1 dX11_fitsAny_28 (by decide) ?_
            exact J32_4 _ (if_pos (Or.inr c9)).symm _ _ _ hw (lv_sub hl [0, 1, 2, 3] rfl)
  exact L4_0 _ 0 (nI 0) rfl (Nat.zero_le _) (Nat.lt_succ_self _) _ _ _ hw (lv_sub hl [2, 3, 1, 0] rfl)
set_option maxHeartbeats 4000000 in
set_option maxRecDepth 100000 in
theorem tX11_tell (l : Launch) (E : EV) (a : Nat → Nat) (τ : St) (w0 : Int32) (w1 : Int32) (w2 : Int32) (w3 : Int32) : MI l E (MW E a) yX11_tell (Cond.code yX11_tell cX11_tell 5 (some .boolean)) ({ frames := 0, cells := 0, slots := 0, locals := 0 }) [.ref (a 70), .int (w0), .int (w1), .int (w2), .int (w3)] τ (fun r_ u_ => r_ = (if True then (1 : Int32) else 0) ∧ u_ = sr τ 13 (upd (upd (upd (upd (τ 13) 0 w0) 1 w1) 2 w2) 3 w3)) := by
  refine MI.mk (by decide +kernel) (Nat.le_of_ble_eq_true rfl) ?_
  intro p e s m args below meth c ls A Q hret hC hw hl
  have hC : Cxt E p s m args meth c cX11_tell 5 (some .boolean) RX11 A := hC
  have hl : lv_has ls 5 [(0, .ref (a 70)), (1, .int (w0)), (2, .int (w1)), (3, .int (w2)), (4, .int (w3))] := hl
  refine lv_aload_n hC.1 hC.2.1 dX11_tell_0 rfl (lv_at hl 0 rfl) ?_
  refine gf_X11_47 hC hw dX11_tell_1 ?_
  refine lv_iconst (v := nI 0) hC.1 hC.2.1 dX11_tell_4 (by decide) ?_
  refine lv_iload_n hC.1 hC.2.1 dX11_tell_5 rfl (lv_at hl 1 rfl) ?_
  refine as_M13 hC hw (by omega) dX11_tell_6 (fun H locs hw => ?_)
  have hw : Wst E (MW E a) (sr τ 13 (upd (τ 13) 0 (w0))) A s.heap H locs := hw
  refine lv_aload_n hC.1 hC.2.1 dX11_tell_7 rfl (lv_at hl 0 rfl) ?_
  refine gf_X11_47 hC hw dX11_tell_8 ?_
  refine lv_iconst (v := nI 1) hC.1 hC.2.1 dX11_tell_11 (by decide) ?_
  refine lv_iload_n hC.1 hC.2.1 dX11_tell_12 rfl (lv_at hl 2 rfl) ?_
  refine as_M13 hC hw (by omega) dX11_tell_13 (fun H locs hw => ?_)
  have hw : Wst E (MW E a) (sr τ 13 (upd (upd (τ 13) 0 (w0)) 1 (w1))) A s.heap H locs := hw
  refine lv_aload_n hC.1 hC.2.1 dX11_tell_14 rfl (lv_at hl 0 rfl) ?_
  refine gf_X11_47 hC hw dX11_tell_15 ?_
  refine lv_iconst (v := nI 2) hC.1 hC.2.1 dX11_tell_18 (by decide) ?_
  refine lv_iload_n hC.1 hC.2.1 dX11_tell_19 rfl (lv_at hl 3 rfl) ?_
  refine as_M13 hC hw (by omega) dX11_tell_20 (fun H locs hw => ?_)
  have hw : Wst E (MW E a) (sr τ 13 (upd (upd (upd (τ 13) 0 (w0)) 1 (w1)) 2 (w2))) A s.heap H locs := hw
  refine lv_aload_n hC.1 hC.2.1 dX11_tell_21 rfl (lv_at hl 0 rfl) ?_
  refine gf_X11_47 hC hw dX11_tell_22 ?_
  refine lv_iconst (v := nI 3) hC.1 hC.2.1 dX11_tell_25 (by decide) ?_
  refine lv_iload hC.1 hC.2.1 dX11_tell_26 (lv_at hl 4 rfl) ?_
  refine as_M13 hC hw (by omega) dX11_tell_28 (fun H locs hw => ?_)
  have hw : Wst E (MW E a) (sr τ 13 (upd (upd (upd (upd (τ 13) 0 (w0)) 1 (w1)) 2 (w2)) 3 (w3))) A s.heap H locs := hw
  refine lv_iconst (v := nI 1) hC.1 hC.2.1 dX11_tell_29 (by decide) ?_
  refine hret _ _ _ _ _ _ hw ?_ (by decide) dX11_tell_30
  exact ⟨rfl, rfl⟩
set_option maxHeartbeats 4000000 in
set_option maxRecDepth 100000 in
theorem tX11_end (l : Launch) (E : EV) (a : Nat → Nat) (τ : St) (nh : Nat) (nj : Nat) (stk : List (Nat → Int32)) (job : Int32) (hW : mF (τ 1) nh nj) (hO : τ 0 0 = nI stk.length) (hKR : KR (τ 2) stk) : MI l E (MW E a) yX11_end (Cond.code yX11_end cX11_end 2 (some .int)) ({ frames := 2, cells := 0, slots := 0, locals := 43 }) [.ref (a 70), .int (job)] τ (fun r_ u_ => r_ = (o_end (τ 1) nj job).1 ∧ MP τ u_ stk (o_end (τ 1) nj job).2) := by
  refine MI.mk (by decide +kernel) (Nat.le_of_ble_eq_true rfl) ?_
  intro p e s m args below meth c ls A Q hret hC hw hl
  have hC : Cxt E p s m args meth c cX11_end 2 (some .int) RX11 A := hC
  have hl : lv_has ls 2 [(0, .ref (a 70)), (1, .int (job))] := hl
  have ⟨hnh, hnj, hW0, hW1, hWh⟩ := id hW
  refine lv_aload_n hC.1 hC.2.1 dX11_end_0 rfl (lv_at hl 0 rfl) ?_
  refine lv_iload_n hC.1 hC.2.1 dX11_end_1 rfl (lv_at hl 1 rfl) ?_
  refine q_callVp (As := [.int (job)]) (rest := []) (q0 := 0) hC hw hl (tX11_isJob l E a τ nh nj job (by first | assumption | omega)) (q_cwV hC.2.2.2.2.1 ⟨rfl, rfl⟩ wk4_194 wk4_196 wks_2_7 wk1_12 wk4_197 hd_X11_isJob ⟨Nat.le_of_ble_eq_true rfl, Nat.le_of_ble_eq_true rfl⟩) rfl rfl rfl rfl rfl (Nat.le_of_ble_eq_true rfl) dX11_end_2 (fun H locs hw => ?_)
  refine q_ifne hC 10 cB dX11_end_5 (by decide) (fun (c4 : ¬ job < 0 ∧ job < nI nj) => ?_) (fun (c4 : ¬ (¬ job < 0 ∧ job < nI nj)) => ?_)
  · obtain ⟨j, h_j, rfl⟩ := in_nat (by omega) c4
    have z_j := nI_clamp (show j < 2 ^ 31 by omega)
    have y_j : cN (nI j) = j := z_j
    refine lv_aload_n hC.1 hC.2.1 dX11_end_10 rfl (lv_at hl 0 rfl) ?_
    refine gf_X11_7 hC hw dX11_end_11 ?_
    refine lv_sipush (v := nI 258) hC.1 hC.2.1 dX11_end_14 (by decide) ?_
    refine lv_iload_n hC.1 hC.2.1 dX11_end_17 rfl (lv_at hl 1 rfl) ?_
    refine q_addN hC dX11_end_18 ?_
    refine al_M1 (v := eM (τ 1) 11 j) hC hw (by omega) (show _ = eM (τ 1) 11 j from congrArg (τ 1) (by omega)) dX11_end_19 ?_
    refine lv_iconst (v := nI 2) hC.1 hC.2.1 dX11_end_20 (by decide) ?_
    refine q_cmpne hC 27 cI dX11_end_21 (by decide) (fun (c5 : ¬ ((eM (τ 1) 11 j) = 2)) => ?_) (fun (c5 : (eM (τ 1) 11 j) = 2) => ?_)
    · refine lv_aload_n hC.1 hC.2.1 dX11_end_27 rfl (lv_at hl 0 rfl) ?_
      refine q_callVv (As := []) (rest := []) (q0 := 0) hC hw hl (tX11_keep l E a τ stk (by first | assumption | omega) (by first | assumption | omega)) (q_cwV hC.2.2.2.2.1 ⟨rfl, rfl⟩ wk4_178 wk4_180 wks_2_6 wk1_12 wk4_181 hd_X11_keep ⟨Nat.le_of_ble_eq_true rfl, Nat.le_of_ble_eq_true rfl⟩) rfl rfl rfl rfl rfl (Nat.le_of_ble_eq_true rfl) dX11_end_28 (fun u8 H locs p6 hw => ?_)
      obtain ⟨K9, hRK9, huK9⟩ := p6
      have hw : Wst E (MW E a) (sr (sr τ 2 (K9)) 0 (upd (τ 0) 0 (nI (push30 stk (τ 1)).length))) A s.heap H locs := by rw [huK9] at hw; exact hw
      refine lv_aload_n hC.1 hC.2.1 dX11_end_31 rfl (lv_at hl 0 rfl) ?_
      refine gf_X11_7 hC hw dX11_end_32 ?_
      refine lv_sipush (v := nI 258) hC.1 hC.2.1 dX11_end_35 (by decide) ?_
      refine lv_iload_n hC.1 hC.2.1 dX11_end_38 rfl (lv_at hl 1 rfl) ?_
      refine q_addN hC dX11_end_39 ?_
      refine lv_iconst (v := nI 2) hC.1 hC.2.1 dX11_end_40 (by decide) ?_
      refine as_M1 hC hw (by omega) dX11_end_41 (fun H locs hw => ?_)
      have hw : Wst E (MW E a) (sr (sr (sr τ 1 (upd (τ 1) (258 + j) (2))) 2 (K9)) 0 (upd (τ 0) 0 (nI (push30 stk (τ 1)).length))) A s.heap H locs := hw
      refine lv_iconst (v := nI 1) hC.1 hC.2.1 dX11_end_42 (by decide) ?_
      refine hret _ _ _ _ _ _ hw ?_ rfl dX11_end_43
      have ho : o_end (τ 1) nj (nI j) = (1, some (upd (τ 1) (258 + j) (2))) := by rw [o_end, if_pos c4, y_j, if_neg c5]
      rw [ho]
      exact ⟨rfl, MPs hRK9⟩
    · refine lv_bipush (v := (-2)) hC.1 hC.2.1 dX11_end_24 (by decide) ?_
      refine hret _ _ _ _ _ _ hw ?_ rfl dX11_end_26
      have ho : o_end (τ 1) nj (nI j) = ((-2), none) := by rw [o_end, if_pos c4, y_j, if_pos c5]
      rw [ho]
      exact ⟨rfl, MP0 hKR hO⟩
  · refine lv_iconst (v := (-1)) hC.1 hC.2.1 dX11_end_8 (by decide) ?_
    refine hret _ _ _ _ _ _ hw ?_ rfl dX11_end_9
    have ho : o_end (τ 1) nj job = ((-1), none) := by rw [o_end, if_neg c4]
    rw [ho]
    exact ⟨rfl, MP0 hKR hO⟩
set_option maxHeartbeats 4000000 in
set_option maxRecDepth 100000 in
theorem tX11_rise (l : Launch) (E : EV) (a : Nat → Nat) (τ : St) (nh : Nat) (nj : Nat) (stk : List (Nat → Int32)) (host : Int32) (hW : mF (τ 1) nh nj) (hO : τ 0 0 = nI stk.length) (hKR : KR (τ 2) stk) : MI l E (MW E a) yX11_rise (Cond.code yX11_rise cX11_rise 2 (some .int)) ({ frames := 2, cells := 0, slots := 0, locals := 43 }) [.ref (a 70), .int (host)] τ (fun r_ u_ => r_ = (o_rise (τ 1) nh host).1 ∧ MP τ u_ stk (o_rise (τ 1) nh host).2) := by
  refine MI.mk (by decide +kernel) (Nat.le_of_ble_eq_true rfl) ?_
  intro p e s m args below meth c ls A Q hret hC hw hl
  have hC : Cxt E p s m args meth c cX11_rise 2 (some .int) RX11 A := hC
  have hl : lv_has ls 2 [(0, .ref (a 70)), (1, .int (host))] := hl
  have ⟨hnh, hnj, hW0, hW1, hWh⟩ := id hW
  refine lv_aload_n hC.1 hC.2.1 dX11_rise_0 rfl (lv_at hl 0 rfl) ?_
  refine lv_iload_n hC.1 hC.2.1 dX11_rise_1 rfl (lv_at hl 1 rfl) ?_
  refine q_callVp (As := [.int (host)]) (rest := []) (q0 := 0) hC hw hl (tX11_isHost l E a τ nh nj host (by first | assumption | omega)) (q_cwV hC.2.2.2.2.1 ⟨rfl, rfl⟩ wk4_198 wk4_200 wks_2_8 wk1_12 wk4_201 hd_X11_isHost ⟨Nat.le_of_ble_eq_true rfl, Nat.le_of_ble_eq_true rfl⟩) rfl rfl rfl rfl rfl (Nat.le_of_ble_eq_true rfl) dX11_rise_2 (fun H locs hw => ?_)
  refine q_ifne hC 10 cB dX11_rise_5 (by decide) (fun (c4 : ¬ host < 0 ∧ host < nI nh) => ?_) (fun (c4 : ¬ (¬ host < 0 ∧ host < nI nh)) => ?_)
  · obtain ⟨h, h_h, rfl⟩ := in_nat (by omega) c4
    have z_h := nI_clamp (show h < 2 ^ 31 by omega)
    have y_h : cN (nI h) = h := z_h
    refine lv_aload_n hC.1 hC.2.1 dX11_rise_10 rfl (lv_at hl 0 rfl) ?_
    refine gf_X11_7 hC hw dX11_rise_11 ?_
    refine lv_bipush (v := nI 56) hC.1 hC.2.1 dX11_rise_14 (by decide) ?_
    refine lv_iload_n hC.1 hC.2.1 dX11_rise_16 rfl (lv_at hl 1 rfl) ?_
    refine q_addN hC dX11_rise_17 ?_
    refine al_M1 (v := eM (τ 1) 4 h) hC hw (by omega) (show _ = eM (τ 1) 4 h from congrArg (τ 1) (by omega)) dX11_rise_18 ?_
    refine lv_iconst (v := nI 1) hC.1 hC.2.1 dX11_rise_19 (by decide) ?_
    refine q_cmpne hC 26 cI dX11_rise_20 (by decide) (fun (c5 : ¬ ((eM (τ 1) 4 h) = 1)) => ?_) (fun (c5 : (eM (τ 1) 4 h) = 1) => ?_)
    · refine lv_aload_n hC.1 hC.2.1 dX11_rise_26 rfl (lv_at hl 0 rfl) ?_
      refine q_callVv (As := []) (rest := []) (q0 := 0) hC hw hl (tX11_keep l E a τ stk (by first | assumption | omega) (by first | assumption | omega)) (q_cwV hC.2.2.2.2.1 ⟨rfl, rfl⟩ wk4_178 wk4_180 wks_2_6 wk1_12 wk4_181 hd_X11_keep ⟨Nat.le_of_ble_eq_true rfl, Nat.le_of_ble_eq_true rfl⟩) rfl rfl rfl rfl rfl (Nat.le_of_ble_eq_true rfl) dX11_rise_27 (fun u8 H locs p6 hw => ?_)
      obtain ⟨K9, hRK9, huK9⟩ := p6
      have hw : Wst E (MW E a) (sr (sr τ 2 (K9)) 0 (upd (τ 0) 0 (nI (push30 stk (τ 1)).length))) A s.heap H locs := by rw [huK9] at hw; exact hw
      refine lv_aload_n hC.1 hC.2.1 dX11_rise_30 rfl (lv_at hl 0 rfl) ?_
      refine gf_X11_7 hC hw dX11_rise_31 ?_
      refine lv_bipush (v := nI 56) hC.1 hC.2.1 dX11_rise_34 (by decide) ?_
      refine lv_iload_n hC.1 hC.2.1 dX11_rise_36 rfl (lv_at hl 1 rfl) ?_
      refine q_addN hC dX11_rise_37 ?_
      refine lv_iconst (v := nI 1) hC.1 hC.2.1 dX11_rise_38 (by decide) ?_
      refine as_M1 hC hw (by omega) dX11_rise_39 (fun H locs hw => ?_)
      have hw : Wst E (MW E a) (sr (sr (sr τ 1 (upd (τ 1) (56 + h) (1))) 2 (K9)) 0 (upd (τ 0) 0 (nI (push30 stk (τ 1)).length))) A s.heap H locs := hw
      refine lv_iconst (v := nI 1) hC.1 hC.2.1 dX11_rise_40 (by decide) ?_
      refine hret _ _ _ _ _ _ hw ?_ rfl dX11_rise_41
      have ho : o_rise (τ 1) nh (nI h) = (1, some (upd (τ 1) (56 + h) (1))) := by rw [o_rise, if_pos c4, y_h, if_neg c5]
      rw [ho]
      exact ⟨rfl, MPs hRK9⟩
    · refine lv_bipush (v := (-2)) hC.1 hC.2.1 dX11_rise_23 (by decide) ?_
      refine hret _ _ _ _ _ _ hw ?_ rfl dX11_rise_25
      have ho : o_rise (τ 1) nh (nI h) = ((-2), none) := by rw [o_rise, if_pos c4, y_h, if_pos c5]
      rw [ho]
      exact ⟨rfl, MP0 hKR hO⟩
  · refine lv_iconst (v := (-1)) hC.1 hC.2.1 dX11_rise_8 (by decide) ?_
    refine hret _ _ _ _ _ _ hw ?_ rfl dX11_rise_9
    have ho : o_rise (τ 1) nh host = ((-1), none) := by rw [o_rise, if_neg c4]
    rw [ho]
    exact ⟨rfl, MP0 hKR hO⟩
set_option maxHeartbeats 4000000 in
set_option maxRecDepth 100000 in
theorem tX11_target (l : Launch) (E : EV) (a : Nat → Nat) (τ : St) (nh : Nat) (nj : Nat) (stk : List (Nat → Int32)) (job : Int32) (host : Int32) (hW : mF (τ 1) nh nj) (hO : τ 0 0 = nI stk.length) (hKR : KR (τ 2) stk) : MI l E (MW E a) yX11_target (Cond.code yX11_target cX11_target 3 (some .int)) ({ frames := 2, cells := 0, slots := 0, locals := 43 }) [.ref (a 70), .int (job), .int (host)] τ (fun r_ u_ => r_ = (o_target (τ 1) nh nj job host).1 ∧ MP τ u_ stk (o_target (τ 1) nh nj job host).2) := by
  refine MI.mk (by decide +kernel) (Nat.le_of_ble_eq_true rfl) ?_
  intro p e s m args below meth c ls A Q hret hC hw hl
  have hC : Cxt E p s m args meth c cX11_target 3 (some .int) RX11 A := hC
  have hl : lv_has ls 3 [(0, .ref (a 70)), (1, .int (job)), (2, .int (host))] := hl
  have ⟨hnh, hnj, hW0, hW1, hWh⟩ := id hW
  refine lv_aload_n hC.1 hC.2.1 dX11_target_0 rfl (lv_at hl 0 rfl) ?_
  refine lv_iload_n hC.1 hC.2.1 dX11_target_1 rfl (lv_at hl 1 rfl) ?_
  refine q_callVp (As := [.int (job)]) (rest := []) (q0 := 0) hC hw hl (tX11_isJob l E a τ nh nj job (by first | assumption | omega)) (q_cwV hC.2.2.2.2.1 ⟨rfl, rfl⟩ wk4_194 wk4_196 wks_2_7 wk1_12 wk4_197 hd_X11_isJob ⟨Nat.le_of_ble_eq_true rfl, Nat.le_of_ble_eq_true rfl⟩) rfl rfl rfl rfl rfl (Nat.le_of_ble_eq_true rfl) dX11_target_2 (fun H locs hw => ?_)
  refine q_ifeq hC 21 cB dX11_target_5 (by decide) (fun (c4 : ¬ (¬ job < 0 ∧ job < nI nj)) => ?_) (fun (c4 : ¬ job < 0 ∧ job < nI nj) => ?_)
  · refine lv_iconst (v := (-1)) hC.1 hC.2.1 dX11_target_21 (by decide) ?_
    refine hret _ _ _ _ _ _ hw ?_ rfl dX11_target_22
    have ho : o_target (τ 1) nh nj job host = ((-1), none) := by rw [o_target, if_neg (fun q => c4 q.1)]
    rw [ho]
    exact ⟨rfl, MP0 hKR hO⟩
  · refine lv_iload_n hC.1 hC.2.1 dX11_target_8 rfl (lv_at hl 2 rfl) ?_
    refine lv_iconst (v := (-1)) hC.1 hC.2.1 dX11_target_9 (by decide) ?_
    refine q_cmpeq hC 23 cI dX11_target_10 (by decide) (fun (c5 : host = (-1)) => ?_) (fun (c5 : ¬ (host = (-1))) => ?_)
    · obtain ⟨j, h_j, rfl⟩ := in_nat (by omega) c4
      have z_j := nI_clamp (show j < 2 ^ 31 by omega)
      have y_j : cN (nI j) = j := z_j
      refine lv_aload_n hC.1 hC.2.1 dX11_target_23 rfl (lv_at hl 0 rfl) ?_
      refine q_callVv (As := []) (rest := []) (q0 := 0) hC hw hl (tX11_keep l E a τ stk (by first | assumption | omega) (by first | assumption | omega)) (q_cwV hC.2.2.2.2.1 ⟨rfl, rfl⟩ wk4_178 wk4_180 wks_2_6 wk1_12 wk4_181 hd_X11_keep ⟨Nat.le_of_ble_eq_true rfl, Nat.le_of_ble_eq_true rfl⟩) rfl rfl rfl rfl rfl (Nat.le_of_ble_eq_true rfl) dX11_target_24 (fun u8 H locs p6 hw => ?_)
      obtain ⟨K9, hRK9, huK9⟩ := p6
      have hw : Wst E (MW E a) (sr (sr τ 2 (K9)) 0 (upd (τ 0) 0 (nI (push30 stk (τ 1)).length))) A s.heap H locs := by rw [huK9] at hw; exact hw
      refine lv_aload_n hC.1 hC.2.1 dX11_target_27 rfl (lv_at hl 0 rfl) ?_
      refine gf_X11_7 hC hw dX11_target_28 ?_
      refine lv_sipush (v := nI 330) hC.1 hC.2.1 dX11_target_31 (by decide) ?_
      refine lv_iload_n hC.1 hC.2.1 dX11_target_34 rfl (lv_at hl 1 rfl) ?_
      refine q_addN hC dX11_target_35 ?_
      refine lv_iload_n hC.1 hC.2.1 dX11_target_36 rfl (lv_at hl 2 rfl) ?_
      refine as_M1 hC hw (by omega) dX11_target_37 (fun H locs hw => ?_)
      have hw : Wst E (MW E a) (sr (sr (sr τ 1 (upd (τ 1) (330 + j) (host))) 2 (K9)) 0 (upd (τ 0) 0 (nI (push30 stk (τ 1)).length))) A s.heap H locs := hw
      refine lv_aload_n hC.1 hC.2.1 dX11_target_38 rfl (lv_at hl 0 rfl) ?_
      have hW9 := hW.put (k := 330 + j) (x := host) (by omega) (by omega)
      refine q_callVp (As := []) (rest := []) (q0 := 0) hC hw hl (tX11_targets l E a (sr (sr (sr τ 1 (upd (τ 1) (330 + j) (host))) 2 (K9)) 0 (upd (τ 0) 0 (nI (push30 stk (τ 1)).length))) nh nj hW9) (q_cwV hC.2.2.2.2.1 ⟨rfl, rfl⟩ wk5_108 wk5_110 wks_4_0 wk1_12 wk5_111 hd_X11_targets ⟨Nat.le_of_ble_eq_true rfl, Nat.le_of_ble_eq_true rfl⟩) rfl rfl rfl rfl rfl (Nat.le_of_ble_eq_true rfl) dX11_target_39 (fun H locs hw => ?_)
      refine hret _ _ _ _ _ _ hw ?_ rfl dX11_target_42
      have ho : o_target (τ 1) nh nj (nI j) host = (m_tgs (upd (τ 1) (330 + j) (host)) nj, some (upd (τ 1) (330 + j) (host))) := by rw [o_target, if_pos ⟨c4, Or.inl c5⟩, y_j]
      rw [ho]
      exact ⟨rfl, MPs hRK9⟩
    · refine lv_aload_n hC.1 hC.2.1 dX11_target_13 rfl (lv_at hl 0 rfl) ?_
      refine lv_iload_n hC.1 hC.2.1 dX11_target_14 rfl (lv_at hl 2 rfl) ?_
      refine q_callVp (As := [.int (host)]) (rest := []) (q0 := 0) hC hw hl (tX11_isHost l E a τ nh nj host (by first | assumption | omega)) (q_cwV hC.2.2.2.2.1 ⟨rfl, rfl⟩ wk4_198 wk4_200 wks_2_8 wk1_12 wk4_201 hd_X11_isHost ⟨Nat.le_of_ble_eq_true rfl, Nat.le_of_ble_eq_true rfl⟩) rfl rfl rfl rfl rfl (Nat.le_of_ble_eq_true rfl) dX11_target_15 (fun H locs hw => ?_)
      refine q_ifne hC 23 cB dX11_target_18 (by decide) (fun (c16 : ¬ host < 0 ∧ host < nI nh) => ?_) (fun (c16 : ¬ (¬ host < 0 ∧ host < nI nh)) => ?_)
      · obtain ⟨j, h_j, rfl⟩ := in_nat (by omega) c4
        have z_j := nI_clamp (show j < 2 ^ 31 by omega)
        have y_j : cN (nI j) = j := z_j
        refine lv_aload_n hC.1 hC.2.1 dX11_target_23 rfl (lv_at hl 0 rfl) ?_
        refine q_callVv (As := []) (rest := []) (q0 := 0) hC hw hl (tX11_keep l E a τ stk (by first | assumption | omega) (by first | assumption | omega)) (q_cwV hC.2.2.2.2.1 ⟨rfl, rfl⟩ wk4_178 wk4_180 wks_2_6 wk1_12 wk4_181 hd_X11_keep ⟨Nat.le_of_ble_eq_true rfl, Nat.le_of_ble_eq_true rfl⟩) rfl rfl rfl rfl rfl (Nat.le_of_ble_eq_true rfl) dX11_target_24 (fun u19 H locs p17 hw => ?_)
        obtain ⟨K20, hRK20, huK20⟩ := p17
        have hw : Wst E (MW E a) (sr (sr τ 2 (K20)) 0 (upd (τ 0) 0 (nI (push30 stk (τ 1)).length))) A s.heap H locs := by rw [huK20] at hw; exact hw
        refine lv_aload_n hC.1 hC.2.1 dX11_target_27 rfl (lv_at hl 0 rfl) ?_
        refine gf_X11_7 hC hw dX11_target_28 ?_
        refine lv_sipush (v := nI 330) hC.1 hC.2.1 dX11_target_31 (by decide) ?_
        refine lv_iload_n hC.1 hC.2.1 dX11_target_34 rfl (lv_at hl 1 rfl) ?_
        refine q_addN hC dX11_target_35 ?_
        refine lv_iload_n hC.1 hC.2.1 dX11_target_36 rfl (lv_at hl 2 rfl) ?_
        refine as_M1 hC hw (by omega) dX11_target_37 (fun H locs hw => ?_)
        have hw : Wst E (MW E a) (sr (sr (sr τ 1 (upd (τ 1) (330 + j) (host))) 2 (K20)) 0 (upd (τ 0) 0 (nI (push30 stk (τ 1)).length))) A s.heap H locs := hw
        refine lv_aload_n hC.1 hC.2.1 dX11_target_38 rfl (lv_at hl 0 rfl) ?_
        have hW9 := hW.put (k := 330 + j) (x := host) (by omega) (by omega)
        refine q_callVp (As := []) (rest := []) (q0 := 0) hC hw hl (tX11_targets l E a (sr (sr (sr τ 1 (upd (τ 1) (330 + j) (host))) 2 (K20)) 0 (upd (τ 0) 0 (nI (push30 stk (τ 1)).length))) nh nj hW9) (q_cwV hC.2.2.2.2.1 ⟨rfl, rfl⟩ wk5_108 wk5_110 wks_4_0 wk1_12 wk5_111 hd_X11_targets ⟨Nat.le_of_ble_eq_true rfl, Nat.le_of_ble_eq_true rfl⟩) rfl rfl rfl rfl rfl (Nat.le_of_ble_eq_true rfl) dX11_target_39 (fun H locs hw => ?_)
        refine hret _ _ _ _ _ _ hw ?_ rfl dX11_target_42
        have ho : o_target (τ 1) nh nj (nI j) host = (m_tgs (upd (τ 1) (330 + j) (host)) nj, some (upd (τ 1) (330 + j) (host))) := by rw [o_target, if_pos ⟨c4, Or.inr c16⟩, y_j]
        rw [ho]
        exact ⟨rfl, MPs hRK20⟩
      · refine lv_iconst (v := (-1)) hC.1 hC.2.1 dX11_target_21 (by decide) ?_
        refine hret _ _ _ _ _ _ hw ?_ rfl dX11_target_22
        have ho : o_target (τ 1) nh nj job host = ((-1), none) := by rw [o_target, if_neg (fun q => q.2.elim c5 c16)]
        rw [ho]
        exact ⟨rfl, MP0 hKR hO⟩
set_option maxHeartbeats 4000000 in
set_option maxRecDepth 100000 in
theorem tX11_weight (l : Launch) (E : EV) (a : Nat → Nat) (τ : St) (stk : List (Nat → Int32)) (which : Int32) (w : Int32) (hO : τ 0 0 = nI stk.length) (hKR : KR (τ 2) stk) : MI l E (MW E a) yX11_weight (Cond.code yX11_weight cX11_weight 4 (some .int)) ({ frames := 1, cells := 0, slots := 0, locals := 22 }) [.ref (a 70), .int (which), .int (w)] τ (fun r_ u_ => r_ = (o_weight (τ 1) which w).1 ∧ MP τ u_ stk (o_weight (τ 1) which w).2) := by
  refine MI.mk (by decide +kernel) (Nat.le_of_ble_eq_true rfl) ?_
  intro p e s m args below meth c ls A Q hret hC hw hl
  have hC : Cxt E p s m args meth c cX11_weight 4 (some .int) RX11 A := hC
  have hl : lv_has ls 4 [(0, .ref (a 70)), (1, .int (which)), (2, .int (w))] := hl
  refine lv_iload_n hC.1 hC.2.1 dX11_weight_0 rfl (lv_at hl 1 rfl) ?_
  refine lv_iconst (v := nI 0) hC.1 hC.2.1 dX11_weight_1 (by decide) ?_
  refine lv_iconst (v := nI 2) hC.1 hC.2.1 dX11_weight_2 (by decide) ?_
  refine q_callSp (As := [.int (which), .int (nI 0), .int (nI 2)]) (rest := []) hC hw hl (tX11_in l E a τ which 0 2) (q_cwS hC.2.2.2.2.1 ⟨rfl, rfl⟩ wk4_175 wk4_176 wk1_12 wk4_177 hd_X11_in.2 ⟨Nat.le_of_ble_eq_true rfl, Nat.le_of_ble_eq_true rfl⟩) rfl rfl (Nat.le_of_ble_eq_true rfl) dX11_weight_3 (fun H locs hw => ?_)
  refine q_ifeq hC 20 cB dX11_weight_6 (by decide) (fun (c4 : ¬ (¬ which < 0 ∧ ¬ 2 < which)) => ?_) (fun (c4 : ¬ which < 0 ∧ ¬ 2 < which) => ?_)
  · refine lv_sipush (v := (-1001)) hC.1 hC.2.1 dX11_weight_20 (by decide) ?_
    refine hret _ _ _ _ _ _ hw ?_ rfl dX11_weight_23
    have ho : o_weight (τ 1) which w = (-1001, none) := by rw [o_weight, if_neg (fun q => c4 ((le_iff (n := 2) (by decide)).mpr q.1))]
    rw [ho]
    exact ⟨rfl, MP0 hKR hO⟩
  · refine lv_iload_n hC.1 hC.2.1 dX11_weight_9 rfl (lv_at hl 2 rfl) ?_
    refine lv_bipush (v := (-100)) hC.1 hC.2.1 dX11_weight_10 (by decide) ?_
    refine lv_bipush (v := nI 100) hC.1 hC.2.1 dX11_weight_12 (by decide) ?_
    refine q_callSp (As := [.int (w), .int ((-100)), .int (nI 100)]) (rest := []) hC hw hl (tX11_in l E a τ w (-100) 100) (q_cwS hC.2.2.2.2.1 ⟨rfl, rfl⟩ wk4_175 wk4_176 wk1_12 wk4_177 hd_X11_in.2 ⟨Nat.le_of_ble_eq_true rfl, Nat.le_of_ble_eq_true rfl⟩) rfl rfl (Nat.le_of_ble_eq_true rfl) dX11_weight_14 (fun H locs hw => ?_)
    refine q_ifne hC 24 cB dX11_weight_17 (by decide) (fun (c8 : ¬ w < (-100) ∧ ¬ 100 < w) => ?_) (fun (c8 : ¬ (¬ w < (-100) ∧ ¬ 100 < w)) => ?_)
    · obtain ⟨x, h_x, rfl⟩ := in_nat (by omega) ((le_iff (n := 2) (by decide)).mp c4)
      have z_x := nI_clamp (show x < 2 ^ 31 by omega)
      have y_x : cN (nI x) = x := z_x
      refine lv_aload_n hC.1 hC.2.1 dX11_weight_24 rfl (lv_at hl 0 rfl) ?_
      refine q_callVv (As := []) (rest := []) (q0 := 0) hC hw hl (tX11_keep l E a τ stk (by first | assumption | omega) (by first | assumption | omega)) (q_cwV hC.2.2.2.2.1 ⟨rfl, rfl⟩ wk4_178 wk4_180 wks_2_6 wk1_12 wk4_181 hd_X11_keep ⟨Nat.le_of_ble_eq_true rfl, Nat.le_of_ble_eq_true rfl⟩) rfl rfl rfl rfl rfl (Nat.le_of_ble_eq_true rfl) dX11_weight_25 (fun u11 H locs p9 hw => ?_)
      obtain ⟨K12, hRK12, huK12⟩ := p9
      have hw : Wst E (MW E a) (sr (sr τ 2 (K12)) 0 (upd (τ 0) 0 (nI (push30 stk (τ 1)).length))) A s.heap H locs := by rw [huK12] at hw; exact hw
      refine lv_aload_n hC.1 hC.2.1 dX11_weight_28 rfl (lv_at hl 0 rfl) ?_
      refine gf_X11_7 hC hw dX11_weight_29 ?_
      refine lv_iconst (v := nI 2) hC.1 hC.2.1 dX11_weight_32 (by decide) ?_
      refine lv_iload_n hC.1 hC.2.1 dX11_weight_33 rfl (lv_at hl 1 rfl) ?_
      refine q_addN hC dX11_weight_34 ?_
      refine al_M1 (v := eM (τ 1) 15 x) hC hw (by omega) (show _ = eM (τ 1) 15 x from congrArg (τ 1) (by omega)) dX11_weight_35 ?_
      refine lv_istore_n (lv' := [(3, .int (eM (τ 1) 15 x)), (0, .ref (a 70)), (1, .int (nI x)), (2, .int (w))]) hC.1 hC.2.1 dX11_weight_36 rfl hl (by decide) rfl (fun ls hl => ?_)
      refine lv_aload_n hC.1 hC.2.1 dX11_weight_37 rfl (lv_at hl 1 rfl) ?_
      refine gf_X11_7 hC hw dX11_weight_38 ?_
      refine lv_iconst (v := nI 2) hC.1 hC.2.1 dX11_weight_41 (by decide) ?_
      refine lv_iload_n hC.1 hC.2.1 dX11_weight_42 rfl (lv_at hl 2 rfl) ?_
      refine q_addN hC dX11_weight_43 ?_
      refine lv_iload_n hC.1 hC.2.1 dX11_weight_44 rfl (lv_at hl 3 rfl) ?_
      refine as_M1 hC hw (by omega) dX11_weight_45 (fun H locs hw => ?_)
      have hw : Wst E (MW E a) (sr (sr (sr τ 1 (upd (τ 1) (2 + x) (w))) 2 (K12)) 0 (upd (τ 0) 0 (nI (push30 stk (τ 1)).length))) A s.heap H locs := hw
      refine lv_iload_n hC.1 hC.2.1 dX11_weight_46 rfl (lv_at hl 0 rfl) ?_
      refine hret _ _ _ _ _ _ hw ?_ rfl dX11_weight_47
      have ho : o_weight (τ 1) (nI x) w = (eM (τ 1) 15 x, some (upd (τ 1) (2 + x) w)) := by rw [o_weight, if_pos ⟨(le_iff (n := 2) (by decide)).mp c4, c8⟩, y_x]
      rw [ho]
      exact ⟨rfl, MPs hRK12⟩
    · refine lv_sipush (v := (-1001)) hC.1 hC.2.1 dX11_weight_20 (by decide) ?_
      refine hret _ _ _ _ _ _ hw ?_ rfl dX11_weight_23
      have ho : o_weight (τ 1) which w = (-1001, none) := by rw [o_weight, if_neg (fun q => c8 q.2)]
      rw [ho]
      exact ⟨rfl, MP0 hKR hO⟩
set_option maxHeartbeats 4000000 in
set_option maxRecDepth 100000 in
theorem tX11_job (l : Launch) (E : EV) (a : Nat → Nat) (τ : St) (nh : Nat) (nj : Nat) (stk : List (Nat → Int32)) (kind : Int32) (a1 : Int32) (b1 : Int32) (c1 : Int32) (pr : Int32) (gr : Int32) (tol : Int32) (oth : Int32) (hW : mF (τ 1) nh nj) (hO : τ 0 0 = nI stk.length) (hKR : KR (τ 2) stk) : MI l E (MW E a) yX11_job (Cond.code yX11_job cX11_job 10 (some .int)) ({ frames := 2, cells := 0, slots := 0, locals := 44 }) [.ref (a 70), .int (kind), .int (a1), .int (b1), .int (c1), .int (pr), .int (gr), .int (tol), .int (oth)] τ (fun r_ u_ => r_ = (o_job (τ 1) nj kind a1 b1 c1 pr gr tol oth).1 ∧ MP τ u_ stk (o_job (τ 1) nj kind a1 b1 c1 pr gr tol oth).2) := by
  refine MI.mk (by decide +kernel) (Nat.le_of_ble_eq_true rfl) ?_
  intro p e s m args below meth c ls A Q hret hC hw hl
  have hC : Cxt E p s m args meth c cX11_job 10 (some .int) RX11 A := hC
  have hl : lv_has ls 10 [(0, .ref (a 70)), (1, .int (kind)), (2, .int (a1)), (3, .int (b1)), (4, .int (c1)), (5, .int (pr)), (6, .int (gr)), (7, .int (tol)), (8, .int (oth))] := hl
  have ⟨hnh, hnj, hW0, hW1, hWh⟩ := id hW
  refine lv_iload_n hC.1 hC.2.1 dX11_job_0 rfl (lv_at hl 1 rfl) ?_
  refine lv_iconst (v := nI 0) hC.1 hC.2.1 dX11_job_1 (by decide) ?_
  refine lv_iconst (v := nI 5) hC.1 hC.2.1 dX11_job_2 (by decide) ?_
  refine q_callSp (As := [.int (kind), .int (nI 0), .int (nI 5)]) (rest := []) hC hw hl (tX11_in l E a τ kind 0 5) (q_cwS hC.2.2.2.2.1 ⟨rfl, rfl⟩ wk4_175 wk4_176 wk1_12 wk4_177 hd_X11_in.2 ⟨Nat.le_of_ble_eq_true rfl, Nat.le_of_ble_eq_true rfl⟩) rfl rfl (Nat.le_of_ble_eq_true rfl) dX11_job_3 (fun H locs hw => ?_)
  refine q_ifeq hC 64 cB dX11_job_6 (by decide) (fun (c4 : ¬ (¬ kind < 0 ∧ ¬ 5 < kind)) => ?_) (fun (c4 : ¬ kind < 0 ∧ ¬ 5 < kind) => ?_)
  · refine lv_iconst (v := (-1)) hC.1 hC.2.1 dX11_job_64 (by decide) ?_
    refine hret _ _ _ _ _ _ hw ?_ rfl dX11_job_65
    have ho : o_job (τ 1) nj kind a1 b1 c1 pr gr tol oth = (-1, none) := by rw [o_job, if_neg (fun q => c4 ((le_iff (n := 5) (by decide)).mpr q.1))]
    rw [ho]
    exact ⟨rfl, MP0 hKR hO⟩
  · refine lv_iload_n hC.1 hC.2.1 dX11_job_9 rfl (lv_at hl 2 rfl) ?_
    refine lv_iload_n hC.1 hC.2.1 dX11_job_10 rfl (lv_at hl 3 rfl) ?_
    refine lv_iload hC.1 hC.2.1 dX11_job_11 (lv_at hl 4 rfl) ?_
    refine q_callSp (As := [.int (a1), .int (b1), .int (c1)]) (rest := []) hC hw hl (tX11_areAmounts l E a τ a1 b1 c1) (q_cwS hC.2.2.2.2.1 ⟨rfl, rfl⟩ wk4_172 wk4_173 wk1_12 wk4_174 hd_X11_areAmounts.2 ⟨Nat.le_of_ble_eq_true rfl, Nat.le_of_ble_eq_true rfl⟩) rfl rfl (Nat.le_of_ble_eq_true rfl) dX11_job_13 (fun H locs hw => ?_)
    refine q_ifeq hC 64 cB dX11_job_16 (by decide) (fun (c8 : ¬ ((¬ a1 < 0 ∧ a1 < nI 1001) ∧ (¬ b1 < 0 ∧ b1 < nI 1001) ∧ (¬ c1 < 0 ∧ c1 < nI 1001))) => ?_) (fun (c8 : (¬ a1 < 0 ∧ a1 < nI 1001) ∧ (¬ b1 < 0 ∧ b1 < nI 1001) ∧ (¬ c1 < 0 ∧ c1 < nI 1001)) => ?_)
    · refine lv_iconst (v := (-1)) hC.1 hC.2.1 dX11_job_64 (by decide) ?_
      refine hret _ _ _ _ _ _ hw ?_ rfl dX11_job_65
      have ho : o_job (τ 1) nj kind a1 b1 c1 pr gr tol oth = (-1, none) := by rw [o_job, if_neg (fun q => c8 q.2.1)]
      rw [ho]
      exact ⟨rfl, MP0 hKR hO⟩
    · refine lv_iload hC.1 hC.2.1 dX11_job_19 (lv_at hl 5 rfl) ?_
      refine lv_iconst (v := nI 0) hC.1 hC.2.1 dX11_job_21 (by decide) ?_
      refine lv_bipush (v := nI 9) hC.1 hC.2.1 dX11_job_22 (by decide) ?_
      refine q_callSp (As := [.int (pr), .int (nI 0), .int (nI 9)]) (rest := []) hC hw hl (tX11_in l E a τ pr 0 9) (q_cwS hC.2.2.2.2.1 ⟨rfl, rfl⟩ wk4_175 wk4_176 wk1_12 wk4_177 hd_X11_in.2 ⟨Nat.le_of_ble_eq_true rfl, Nat.le_of_ble_eq_true rfl⟩) rfl rfl (Nat.le_of_ble_eq_true rfl) dX11_job_24 (fun H locs hw => ?_)
      refine q_ifeq hC 64 cB dX11_job_27 (by decide) (fun (c12 : ¬ (¬ pr < 0 ∧ ¬ 9 < pr)) => ?_) (fun (c12 : ¬ pr < 0 ∧ ¬ 9 < pr) => ?_)
      · refine lv_iconst (v := (-1)) hC.1 hC.2.1 dX11_job_64 (by decide) ?_
        refine hret _ _ _ _ _ _ hw ?_ rfl dX11_job_65
        have ho : o_job (τ 1) nj kind a1 b1 c1 pr gr tol oth = (-1, none) := by rw [o_job, if_neg (fun q => c12 ((le_iff (n := 9) (by decide)).mpr q.2.2.1))]
        rw [ho]
        exact ⟨rfl, MP0 hKR hO⟩
      · refine lv_iload hC.1 hC.2.1 dX11_job_30 (lv_at hl 6 rfl) ?_
        refine lv_iconst (v := nI 0) hC.1 hC.2.1 dX11_job_32 (by decide) ?_
        refine lv_bipush (v := nI 7) hC.1 hC.2.1 dX11_job_33 (by decide) ?_
        refine q_callSp (As := [.int (gr), .int (nI 0), .int (nI 7)]) (rest := []) hC hw hl (tX11_in l E a τ gr 0 7) (q_cwS hC.2.2.2.2.1 ⟨rfl, rfl⟩ wk4_175 wk4_176 wk1_12 wk4_177 hd_X11_in.2 ⟨Nat.le_of_ble_eq_true rfl, Nat.le_of_ble_eq_true rfl⟩) rfl rfl (Nat.le_of_ble_eq_true rfl) dX11_job_35 (fun H locs hw => ?_)
        refine q_ifeq hC 64 cB dX11_job_38 (by decide) (fun (c16 : ¬ (¬ gr < 0 ∧ ¬ 7 < gr)) => ?_) (fun (c16 : ¬ gr < 0 ∧ ¬ 7 < gr) => ?_)
        · refine lv_iconst (v := (-1)) hC.1 hC.2.1 dX11_job_64 (by decide) ?_
          refine hret _ _ _ _ _ _ hw ?_ rfl dX11_job_65
          have ho : o_job (τ 1) nj kind a1 b1 c1 pr gr tol oth = (-1, none) := by rw [o_job, if_neg (fun q => c16 ((le_iff (n := 7) (by decide)).mpr q.2.2.2.1))]
          rw [ho]
          exact ⟨rfl, MP0 hKR hO⟩
        · refine lv_iload hC.1 hC.2.1 dX11_job_41 (lv_at hl 7 rfl) ?_
          refine lv_iconst (v := nI 0) hC.1 hC.2.1 dX11_job_43 (by decide) ?_
          refine lv_sipush (v := nI 255) hC.1 hC.2.1 dX11_job_44 (by decide) ?_
          refine q_callSp (As := [.int (tol), .int (nI 0), .int (nI 255)]) (rest := []) hC hw hl (tX11_in l E a τ tol 0 255) (q_cwS hC.2.2.2.2.1 ⟨rfl, rfl⟩ wk4_175 wk4_176 wk1_12 wk4_177 hd_X11_in.2 ⟨Nat.le_of_ble_eq_true rfl, Nat.le_of_ble_eq_true rfl⟩) rfl rfl (Nat.le_of_ble_eq_true rfl) dX11_job_47 (fun H locs hw => ?_)
          refine q_ifeq hC 64 cB dX11_job_50 (by decide) (fun (c20 : ¬ (¬ tol < 0 ∧ ¬ 255 < tol)) => ?_) (fun (c20 : ¬ tol < 0 ∧ ¬ 255 < tol) => ?_)
          · refine lv_iconst (v := (-1)) hC.1 hC.2.1 dX11_job_64 (by decide) ?_
            refine hret _ _ _ _ _ _ hw ?_ rfl dX11_job_65
            have ho : o_job (τ 1) nj kind a1 b1 c1 pr gr tol oth = (-1, none) := by rw [o_job, if_neg (fun q => c20 ((le_iff (n := 255) (by decide)).mpr q.2.2.2.2.1))]
            rw [ho]
            exact ⟨rfl, MP0 hKR hO⟩
          · refine lv_iload hC.1 hC.2.1 dX11_job_53 (lv_at hl 8 rfl) ?_
            refine lv_iconst (v := nI 0) hC.1 hC.2.1 dX11_job_55 (by decide) ?_
            refine lv_bipush (v := nI 7) hC.1 hC.2.1 dX11_job_56 (by decide) ?_
            refine q_callSp (As := [.int (oth), .int (nI 0), .int (nI 7)]) (rest := []) hC hw hl (tX11_in l E a τ oth 0 7) (q_cwS hC.2.2.2.2.1 ⟨rfl, rfl⟩ wk4_175 wk4_176 wk1_12 wk4_177 hd_X11_in.2 ⟨Nat.le_of_ble_eq_true rfl, Nat.le_of_ble_eq_true rfl⟩) rfl rfl (Nat.le_of_ble_eq_true rfl) dX11_job_58 (fun H locs hw => ?_)
            refine q_ifne hC 66 cB dX11_job_61 (by decide) (fun (c24 : ¬ oth < 0 ∧ ¬ 7 < oth) => ?_) (fun (c24 : ¬ (¬ oth < 0 ∧ ¬ 7 < oth)) => ?_)
            · refine lv_aload_n hC.1 hC.2.1 dX11_job_66 rfl (lv_at hl 0 rfl) ?_
              refine gf_X11_7 hC hw dX11_job_67 ?_
              refine lv_iconst (v := nI 1) hC.1 hC.2.1 dX11_job_70 (by decide) ?_
              refine al_M1 (v := nI nj) hC hw (by omega) hW.2.2.2.1 dX11_job_71 ?_
              refine lv_bipush (v := nI 24) hC.1 hC.2.1 dX11_job_72 (by decide) ?_
              refine q_cmpne hC 80 (cNeq (by omega) (by omega)) dX11_job_74 (by decide) (fun (c25 : nj ≠ 24) => ?_) (fun (c25 : nj = 24) => ?_)
              · refine lv_aload_n hC.1 hC.2.1 dX11_job_80 rfl (lv_at hl 0 rfl) ?_
                refine q_callVv (As := []) (rest := []) (q0 := 0) hC hw hl (tX11_keep l E a τ stk (by first | assumption | omega) (by first | assumption | omega)) (q_cwV hC.2.2.2.2.1 ⟨rfl, rfl⟩ wk4_178 wk4_180 wks_2_6 wk1_12 wk4_181 hd_X11_keep ⟨Nat.le_of_ble_eq_true rfl, Nat.le_of_ble_eq_true rfl⟩) rfl rfl rfl rfl rfl (Nat.le_of_ble_eq_true rfl) dX11_job_81 (fun u28 H locs p26 hw => ?_)
                obtain ⟨K29, hRK29, huK29⟩ := p26
                have hw : Wst E (MW E a) (sr (sr τ 2 (K29)) 0 (upd (τ 0) 0 (nI (push30 stk (τ 1)).length))) A s.heap H locs := by rw [huK29] at hw; exact hw
                refine lv_aload_n hC.1 hC.2.1 dX11_job_84 rfl (lv_at hl 0 rfl) ?_
                refine gf_X11_7 hC hw dX11_job_85 ?_
                refine lv_iconst (v := nI 1) hC.1 hC.2.1 dX11_job_88 (by decide) ?_
                refine al_M1 (v := nI nj) hC hw (by omega) hW.2.2.2.1 dX11_job_89 ?_
                refine lv_istore (lv' := [(9, .int (nI nj)), (0, .ref (a 70)), (1, .int (kind)), (2, .int (a1)), (3, .int (b1)), (4, .int (c1)), (5, .int (pr)), (6, .int (gr)), (7, .int (tol)), (8, .int (oth))]) hC.1 hC.2.1 dX11_job_90 hl (by decide) rfl (fun ls hl => ?_)
                refine lv_aload_n hC.1 hC.2.1 dX11_job_92 rfl (lv_at hl 1 rfl) ?_
                refine gf_X11_7 hC hw dX11_job_93 ?_
                refine lv_bipush (v := nI 66) hC.1 hC.2.1 dX11_job_96 (by decide) ?_
                refine lv_iload hC.1 hC.2.1 dX11_job_98 (lv_at hl 0 rfl) ?_
                refine q_addN hC dX11_job_100 ?_
                refine lv_iload_n hC.1 hC.2.1 dX11_job_101 rfl (lv_at hl 2 rfl) ?_
                refine as_M1 hC hw (by omega) dX11_job_102 (fun H locs hw => ?_)
                have hw : Wst E (MW E a) (sr (sr (sr τ 1 (upd (τ 1) (66 + nj) (kind))) 2 (K29)) 0 (upd (τ 0) 0 (nI (push30 stk (τ 1)).length))) A s.heap H locs := hw
                refine lv_aload_n hC.1 hC.2.1 dX11_job_103 rfl (lv_at hl 1 rfl) ?_
                refine gf_X11_7 hC hw dX11_job_104 ?_
                refine lv_bipush (v := nI 90) hC.1 hC.2.1 dX11_job_107 (by decide) ?_
                refine lv_iconst (v := nI 3) hC.1 hC.2.1 dX11_job_109 (by decide) ?_
                refine lv_iload hC.1 hC.2.1 dX11_job_110 (lv_at hl 0 rfl) ?_
                refine q_mulN hC dX11_job_112 ?_
                refine q_addN hC dX11_job_113 ?_
                refine lv_iload_n hC.1 hC.2.1 dX11_job_114 rfl (lv_at hl 3 rfl) ?_
                refine as_M1 hC hw (by omega) dX11_job_115 (fun H locs hw => ?_)
                have hw : Wst E (MW E a) (sr (sr (sr τ 1 (upd (upd (τ 1) (66 + nj) (kind)) (90 + (3 * nj)) (a1))) 2 (K29)) 0 (upd (τ 0) 0 (nI (push30 stk (τ 1)).length))) A s.heap H locs := hw
                refine lv_aload_n hC.1 hC.2.1 dX11_job_116 rfl (lv_at hl 1 rfl) ?_
                refine gf_X11_7 hC hw dX11_job_117 ?_
                refine lv_bipush (v := nI 90) hC.1 hC.2.1 dX11_job_120 (by decide) ?_
                refine lv_iconst (v := nI 3) hC.1 hC.2.1 dX11_job_122 (by decide) ?_
                refine lv_iload hC.1 hC.2.1 dX11_job_123 (lv_at hl 0 rfl) ?_
                refine q_mulN hC dX11_job_125 ?_
                refine q_addN hC dX11_job_126 ?_
                refine lv_iconst (v := nI 1) hC.1 hC.2.1 dX11_job_127 (by decide) ?_
                refine q_addN hC dX11_job_128 ?_
                refine lv_iload_n hC.1 hC.2.1 dX11_job_129 rfl (lv_at hl 4 rfl) ?_
                refine as_M1 hC hw (by omega) dX11_job_130 (fun H locs hw => ?_)
                have hw : Wst E (MW E a) (sr (sr (sr τ 1 (upd (upd (upd (τ 1) (66 + nj) (kind)) (90 + (3 * nj)) (a1)) ((90 + (3 * nj)) + 1) (b1))) 2 (K29)) 0 (upd (τ 0) 0 (nI (push30 stk (τ 1)).length))) A s.heap H locs := hw
                refine lv_aload_n hC.1 hC.2.1 dX11_job_131 rfl (lv_at hl 1 rfl) ?_
                refine gf_X11_7 hC hw dX11_job_132 ?_
                refine lv_bipush (v := nI 90) hC.1 hC.2.1 dX11_job_135 (by decide) ?_
                refine lv_iconst (v := nI 3) hC.1 hC.2.1 dX11_job_137 (by decide) ?_
                refine lv_iload hC.1 hC.2.1 dX11_job_138 (lv_at hl 0 rfl) ?_
                refine q_mulN hC dX11_job_140 ?_
                refine q_addN hC dX11_job_141 ?_
                refine lv_iconst (v := nI 2) hC.1 hC.2.1 dX11_job_142 (by decide) ?_
                refine q_addN hC dX11_job_143 ?_
                refine lv_iload hC.1 hC.2.1 dX11_job_144 (lv_at hl 5 rfl) ?_
                refine as_M1 hC hw (by omega) dX11_job_146 (fun H locs hw => ?_)
                have hw : Wst E (MW E a) (sr (sr (sr τ 1 (upd (upd (upd (upd (τ 1) (66 + nj) (kind)) (90 + (3 * nj)) (a1)) ((90 + (3 * nj)) + 1) (b1)) ((90 + (3 * nj)) + 2) (c1))) 2 (K29)) 0 (upd (τ 0) 0 (nI (push30 stk (τ 1)).length))) A s.heap H locs := hw
                refine lv_aload_n hC.1 hC.2.1 dX11_job_147 rfl (lv_at hl 1 rfl) ?_
                refine gf_X11_7 hC hw dX11_job_148 ?_
                refine lv_sipush (v := nI 162) hC.1 hC.2.1 dX11_job_151 (by decide) ?_
                refine lv_iload hC.1 hC.2.1 dX11_job_154 (lv_at hl 0 rfl) ?_
                refine q_addN hC dX11_job_156 ?_
                refine lv_iload hC.1 hC.2.1 dX11_job_157 (lv_at hl 6 rfl) ?_
                refine as_M1 hC hw (by omega) dX11_job_159 (fun H locs hw => ?_)
                have hw : Wst E (MW E a) (sr (sr (sr τ 1 (upd (upd (upd (upd (upd (τ 1) (66 + nj) (kind)) (90 + (3 * nj)) (a1)) ((90 + (3 * nj)) + 1) (b1)) ((90 + (3 * nj)) + 2) (c1)) (162 + nj) (pr))) 2 (K29)) 0 (upd (τ 0) 0 (nI (push30 stk (τ 1)).length))) A s.heap H locs := hw
                refine lv_aload_n hC.1 hC.2.1 dX11_job_160 rfl (lv_at hl 1 rfl) ?_
                refine gf_X11_7 hC hw dX11_job_161 ?_
                refine lv_sipush (v := nI 186) hC.1 hC.2.1 dX11_job_164 (by decide) ?_
                refine lv_iload hC.1 hC.2.1 dX11_job_167 (lv_at hl 0 rfl) ?_
                refine q_addN hC dX11_job_169 ?_
                refine lv_iload hC.1 hC.2.1 dX11_job_170 (lv_at hl 7 rfl) ?_
                refine as_M1 hC hw (by omega) dX11_job_172 (fun H locs hw => ?_)
                have hw : Wst E (MW E a) (sr (sr (sr τ 1 (upd (upd (upd (upd (upd (upd (τ 1) (66 + nj) (kind)) (90 + (3 * nj)) (a1)) ((90 + (3 * nj)) + 1) (b1)) ((90 + (3 * nj)) + 2) (c1)) (162 + nj) (pr)) (186 + nj) (gr))) 2 (K29)) 0 (upd (τ 0) 0 (nI (push30 stk (τ 1)).length))) A s.heap H locs := hw
                refine lv_aload_n hC.1 hC.2.1 dX11_job_173 rfl (lv_at hl 1 rfl) ?_
                refine gf_X11_7 hC hw dX11_job_174 ?_
                refine lv_sipush (v := nI 210) hC.1 hC.2.1 dX11_job_177 (by decide) ?_
                refine lv_iload hC.1 hC.2.1 dX11_job_180 (lv_at hl 0 rfl) ?_
                refine q_addN hC dX11_job_182 ?_
                refine lv_iload hC.1 hC.2.1 dX11_job_183 (lv_at hl 8 rfl) ?_
                refine as_M1 hC hw (by omega) dX11_job_185 (fun H locs hw => ?_)
                have hw : Wst E (MW E a) (sr (sr (sr τ 1 (upd (upd (upd (upd (upd (upd (upd (τ 1) (66 + nj) (kind)) (90 + (3 * nj)) (a1)) ((90 + (3 * nj)) + 1) (b1)) ((90 + (3 * nj)) + 2) (c1)) (162 + nj) (pr)) (186 + nj) (gr)) (210 + nj) (tol))) 2 (K29)) 0 (upd (τ 0) 0 (nI (push30 stk (τ 1)).length))) A s.heap H locs := hw
                refine lv_aload_n hC.1 hC.2.1 dX11_job_186 rfl (lv_at hl 1 rfl) ?_
                refine gf_X11_7 hC hw dX11_job_187 ?_
                refine lv_sipush (v := nI 234) hC.1 hC.2.1 dX11_job_190 (by decide) ?_
                refine lv_iload hC.1 hC.2.1 dX11_job_193 (lv_at hl 0 rfl) ?_
                refine q_addN hC dX11_job_195 ?_
                refine lv_iload hC.1 hC.2.1 dX11_job_196 (lv_at hl 9 rfl) ?_
                refine as_M1 hC hw (by omega) dX11_job_198 (fun H locs hw => ?_)
                have hw : Wst E (MW E a) (sr (sr (sr τ 1 (upd (upd (upd (upd (upd (upd (upd (upd (τ 1) (66 + nj) (kind)) (90 + (3 * nj)) (a1)) ((90 + (3 * nj)) + 1) (b1)) ((90 + (3 * nj)) + 2) (c1)) (162 + nj) (pr)) (186 + nj) (gr)) (210 + nj) (tol)) (234 + nj) (oth))) 2 (K29)) 0 (upd (τ 0) 0 (nI (push30 stk (τ 1)).length))) A s.heap H locs := hw
                refine lv_aload_n hC.1 hC.2.1 dX11_job_199 rfl (lv_at hl 1 rfl) ?_
                refine gf_X11_7 hC hw dX11_job_200 ?_
                refine lv_sipush (v := nI 258) hC.1 hC.2.1 dX11_job_203 (by decide) ?_
                refine lv_iload hC.1 hC.2.1 dX11_job_206 (lv_at hl 0 rfl) ?_
                refine q_addN hC dX11_job_208 ?_
                refine lv_iconst (v := nI 0) hC.1 hC.2.1 dX11_job_209 (by decide) ?_
                refine as_M1 hC hw (by omega) dX11_job_210 (fun H locs hw => ?_)
                have hw : Wst E (MW E a) (sr (sr (sr τ 1 (upd (upd (upd (upd (upd (upd (upd (upd (upd (τ 1) (66 + nj) (kind)) (90 + (3 * nj)) (a1)) ((90 + (3 * nj)) + 1) (b1)) ((90 + (3 * nj)) + 2) (c1)) (162 + nj) (pr)) (186 + nj) (gr)) (210 + nj) (tol)) (234 + nj) (oth)) (258 + nj) (0))) 2 (K29)) 0 (upd (τ 0) 0 (nI (push30 stk (τ 1)).length))) A s.heap H locs := hw
                refine lv_aload_n hC.1 hC.2.1 dX11_job_211 rfl (lv_at hl 1 rfl) ?_
                refine gf_X11_7 hC hw dX11_job_212 ?_
                refine lv_sipush (v := nI 330) hC.1 hC.2.1 dX11_job_215 (by decide) ?_
                refine lv_iload hC.1 hC.2.1 dX11_job_218 (lv_at hl 0 rfl) ?_
                refine q_addN hC dX11_job_220 ?_
                refine lv_iconst (v := (-1)) hC.1 hC.2.1 dX11_job_221 (by decide) ?_
                refine as_M1 hC hw (by omega) dX11_job_222 (fun H locs hw => ?_)
                have hw : Wst E (MW E a) (sr (sr (sr τ 1 (upd (upd (upd (upd (upd (upd (upd (upd (upd (upd (τ 1) (66 + nj) (kind)) (90 + (3 * nj)) (a1)) ((90 + (3 * nj)) + 1) (b1)) ((90 + (3 * nj)) + 2) (c1)) (162 + nj) (pr)) (186 + nj) (gr)) (210 + nj) (tol)) (234 + nj) (oth)) (258 + nj) (0)) (330 + nj) ((-1)))) 2 (K29)) 0 (upd (τ 0) 0 (nI (push30 stk (τ 1)).length))) A s.heap H locs := hw
                refine lv_aload_n hC.1 hC.2.1 dX11_job_223 rfl (lv_at hl 1 rfl) ?_
                refine gf_X11_7 hC hw dX11_job_224 ?_
                refine lv_iconst (v := nI 1) hC.1 hC.2.1 dX11_job_227 (by decide) ?_
                refine lv_dup2_11 hC.1 hC.2.1 dX11_job_228 rfl rfl ?_
                refine al_M1 (v := nI nj) hC hw (by omega) (by show (upd (upd (upd (upd (upd (upd (upd (upd (upd (upd (τ 1) (66 + nj) (kind)) (90 + (3 * nj)) (a1)) ((90 + (3 * nj)) + 1) (b1)) ((90 + (3 * nj)) + 2) (c1)) (162 + nj) (pr)) (186 + nj) (gr)) (210 + nj) (tol)) (234 + nj) (oth)) (258 + nj) (0)) (330 + nj) ((-1))) 1 = _; rw [upn (by omega), upn (by omega), upn (by omega), upn (by omega), upn (by omega), upn (by omega), upn (by omega), upn (by omega), upn (by omega), upn (by omega)]; exact hW1) dX11_job_229 ?_
                refine lv_iconst (v := nI 1) hC.1 hC.2.1 dX11_job_230 (by decide) ?_
                refine q_addN hC dX11_job_231 ?_
                refine as_M1 hC hw (by omega) dX11_job_232 (fun H locs hw => ?_)
                have hw : Wst E (MW E a) (sr (sr (sr τ 1 (upd (upd (upd (upd (upd (upd (upd (upd (upd (upd (upd (τ 1) (66 + nj) (kind)) (90 + (3 * nj)) (a1)) ((90 + (3 * nj)) + 1) (b1)) ((90 + (3 * nj)) + 2) (c1)) (162 + nj) (pr)) (186 + nj) (gr)) (210 + nj) (tol)) (234 + nj) (oth)) (258 + nj) (0)) (330 + nj) ((-1))) 1 (nI (nj + 1)))) 2 (K29)) 0 (upd (τ 0) 0 (nI (push30 stk (τ 1)).length))) A s.heap H locs := hw
                refine lv_iload hC.1 hC.2.1 dX11_job_233 (lv_at hl 0 rfl) ?_
                refine hret _ _ _ _ _ _ hw ?_ rfl dX11_job_235
                have ho : o_job (τ 1) nj kind a1 b1 c1 pr gr tol oth = (nI nj, some (f_job (τ 1) nj kind a1 b1 c1 pr gr tol oth)) := by rw [o_job, if_pos ⟨(le_iff (n := 5) (by decide)).mp c4, c8, (le_iff (n := 9) (by decide)).mp c12, (le_iff (n := 7) (by decide)).mp c16, (le_iff (n := 255) (by decide)).mp c20, (le_iff (n := 7) (by decide)).mp c24⟩, if_neg c25]
                rw [ho]
                exact ⟨rfl, MPs hRK29⟩
              · refine lv_bipush (v := (-2)) hC.1 hC.2.1 dX11_job_77 (by decide) ?_
                refine hret _ _ _ _ _ _ hw ?_ rfl dX11_job_79
                have ho : o_job (τ 1) nj kind a1 b1 c1 pr gr tol oth = (-2, none) := by rw [o_job, if_pos ⟨(le_iff (n := 5) (by decide)).mp c4, c8, (le_iff (n := 9) (by decide)).mp c12, (le_iff (n := 7) (by decide)).mp c16, (le_iff (n := 255) (by decide)).mp c20, (le_iff (n := 7) (by decide)).mp c24⟩, if_pos c25]
                rw [ho]
                exact ⟨rfl, MP0 hKR hO⟩
            · refine lv_iconst (v := (-1)) hC.1 hC.2.1 dX11_job_64 (by decide) ?_
              refine hret _ _ _ _ _ _ hw ?_ rfl dX11_job_65
              have ho : o_job (τ 1) nj kind a1 b1 c1 pr gr tol oth = (-1, none) := by rw [o_job, if_neg (fun q => c24 ((le_iff (n := 7) (by decide)).mpr q.2.2.2.2.2))]
              rw [ho]
              exact ⟨rfl, MP0 hKR hO⟩
set_option maxHeartbeats 4000000 in
set_option maxRecDepth 100000 in
theorem tX11_host (l : Launch) (E : EV) (a : Nat → Nat) (τ : St) (nh : Nat) (nj : Nat) (stk : List (Nat → Int32)) (a1 : Int32) (b1 : Int32) (c1 : Int32) (hall : Int32) (tn : Int32) (hW : mF (τ 1) nh nj) (hO : τ 0 0 = nI stk.length) (hKR : KR (τ 2) stk) : MI l E (MW E a) yX11_host (Cond.code yX11_host cX11_host 7 (some .int)) ({ frames := 2, cells := 0, slots := 0, locals := 44 }) [.ref (a 70), .int (a1), .int (b1), .int (c1), .int (hall), .int (tn)] τ (fun r_ u_ => r_ = (o_host (τ 1) nh a1 b1 c1 hall tn).1 ∧ MP τ u_ stk (o_host (τ 1) nh a1 b1 c1 hall tn).2) := by
  refine MI.mk (by decide +kernel) (Nat.le_of_ble_eq_true rfl) ?_
  intro p e s m args below meth c ls A Q hret hC hw hl
  have hC : Cxt E p s m args meth c cX11_host 7 (some .int) RX11 A := hC
  have hl : lv_has ls 7 [(0, .ref (a 70)), (1, .int (a1)), (2, .int (b1)), (3, .int (c1)), (4, .int (hall)), (5, .int (tn))] := hl
  have ⟨hnh, hnj, hW0, hW1, hWh⟩ := id hW
  refine lv_iload_n hC.1 hC.2.1 dX11_host_0 rfl (lv_at hl 1 rfl) ?_
  refine lv_iload_n hC.1 hC.2.1 dX11_host_1 rfl (lv_at hl 2 rfl) ?_
  refine lv_iload_n hC.1 hC.2.1 dX11_host_2 rfl (lv_at hl 3 rfl) ?_
  refine q_callSp (As := [.int (a1), .int (b1), .int (c1)]) (rest := []) hC hw hl (tX11_areAmounts l E a τ a1 b1 c1) (q_cwS hC.2.2.2.2.1 ⟨rfl, rfl⟩ wk4_172 wk4_173 wk1_12 wk4_174 hd_X11_areAmounts.2 ⟨Nat.le_of_ble_eq_true rfl, Nat.le_of_ble_eq_true rfl⟩) rfl rfl (Nat.le_of_ble_eq_true rfl) dX11_host_3 (fun H locs hw => ?_)
  refine q_ifeq hC 31 cB dX11_host_6 (by decide) (fun (c4 : ¬ ((¬ a1 < 0 ∧ a1 < nI 1001) ∧ (¬ b1 < 0 ∧ b1 < nI 1001) ∧ (¬ c1 < 0 ∧ c1 < nI 1001))) => ?_) (fun (c4 : (¬ a1 < 0 ∧ a1 < nI 1001) ∧ (¬ b1 < 0 ∧ b1 < nI 1001) ∧ (¬ c1 < 0 ∧ c1 < nI 1001)) => ?_)
  · refine lv_iconst (v := (-1)) hC.1 hC.2.1 dX11_host_31 (by decide) ?_
    refine hret _ _ _ _ _ _ hw ?_ rfl dX11_host_32
    have ho : o_host (τ 1) nh a1 b1 c1 hall tn = (-1, none) := by rw [o_host, if_neg (fun q => c4 q.1)]
    rw [ho]
    exact ⟨rfl, MP0 hKR hO⟩
  · refine lv_iload hC.1 hC.2.1 dX11_host_9 (lv_at hl 4 rfl) ?_
    refine lv_iconst (v := nI 0) hC.1 hC.2.1 dX11_host_11 (by decide) ?_
    refine lv_iconst (v := nI 4) hC.1 hC.2.1 dX11_host_12 (by decide) ?_
    refine q_callSp (As := [.int (hall), .int (nI 0), .int (nI 4)]) (rest := []) hC hw hl (tX11_in l E a τ hall 0 4) (q_cwS hC.2.2.2.2.1 ⟨rfl, rfl⟩ wk4_175 wk4_176 wk1_12 wk4_177 hd_X11_in.2 ⟨Nat.le_of_ble_eq_true rfl, Nat.le_of_ble_eq_true rfl⟩) rfl rfl (Nat.le_of_ble_eq_true rfl) dX11_host_13 (fun H locs hw => ?_)
    refine q_ifeq hC 31 cB dX11_host_16 (by decide) (fun (c8 : ¬ (¬ hall < 0 ∧ ¬ 4 < hall)) => ?_) (fun (c8 : ¬ hall < 0 ∧ ¬ 4 < hall) => ?_)
    · refine lv_iconst (v := (-1)) hC.1 hC.2.1 dX11_host_31 (by decide) ?_
      refine hret _ _ _ _ _ _ hw ?_ rfl dX11_host_32
      have ho : o_host (τ 1) nh a1 b1 c1 hall tn = (-1, none) := by rw [o_host, if_neg (fun q => c8 ((le_iff (n := 4) (by decide)).mpr q.2.1))]
      rw [ho]
      exact ⟨rfl, MP0 hKR hO⟩
    · refine lv_iload hC.1 hC.2.1 dX11_host_19 (lv_at hl 5 rfl) ?_
      refine lv_iconst (v := nI 0) hC.1 hC.2.1 dX11_host_21 (by decide) ?_
      refine lv_sipush (v := nI 255) hC.1 hC.2.1 dX11_host_22 (by decide) ?_
      refine q_callSp (As := [.int (tn), .int (nI 0), .int (nI 255)]) (rest := []) hC hw hl (tX11_in l E a τ tn 0 255) (q_cwS hC.2.2.2.2.1 ⟨rfl, rfl⟩ wk4_175 wk4_176 wk1_12 wk4_177 hd_X11_in.2 ⟨Nat.le_of_ble_eq_true rfl, Nat.le_of_ble_eq_true rfl⟩) rfl rfl (Nat.le_of_ble_eq_true rfl) dX11_host_25 (fun H locs hw => ?_)
      refine q_ifne hC 33 cB dX11_host_28 (by decide) (fun (c12 : ¬ tn < 0 ∧ ¬ 255 < tn) => ?_) (fun (c12 : ¬ (¬ tn < 0 ∧ ¬ 255 < tn)) => ?_)
      · refine lv_aload_n hC.1 hC.2.1 dX11_host_33 rfl (lv_at hl 0 rfl) ?_
        refine gf_X11_7 hC hw dX11_host_34 ?_
        refine lv_iconst (v := nI 0) hC.1 hC.2.1 dX11_host_37 (by decide) ?_
        refine al_M1 (v := nI nh) hC hw (by omega) hW.2.2.1 dX11_host_38 ?_
        refine lv_bipush (v := nI 10) hC.1 hC.2.1 dX11_host_39 (by decide) ?_
        refine q_cmpne hC 47 (cNeq (by omega) (by omega)) dX11_host_41 (by decide) (fun (c13 : nh ≠ 10) => ?_) (fun (c13 : nh = 10) => ?_)
        · refine lv_aload_n hC.1 hC.2.1 dX11_host_47 rfl (lv_at hl 0 rfl) ?_
          refine q_callVv (As := []) (rest := []) (q0 := 0) hC hw hl (tX11_keep l E a τ stk (by first | assumption | omega) (by first | assumption | omega)) (q_cwV hC.2.2.2.2.1 ⟨rfl, rfl⟩ wk4_178 wk4_180 wks_2_6 wk1_12 wk4_181 hd_X11_keep ⟨Nat.le_of_ble_eq_true rfl, Nat.le_of_ble_eq_true rfl⟩) rfl rfl rfl rfl rfl (Nat.le_of_ble_eq_true rfl) dX11_host_48 (fun u16 H locs p14 hw => ?_)
          obtain ⟨K17, hRK17, huK17⟩ := p14
          have hw : Wst E (MW E a) (sr (sr τ 2 (K17)) 0 (upd (τ 0) 0 (nI (push30 stk (τ 1)).length))) A s.heap H locs := by rw [huK17] at hw; exact hw
          refine lv_aload_n hC.1 hC.2.1 dX11_host_51 rfl (lv_at hl 0 rfl) ?_
          refine gf_X11_7 hC hw dX11_host_52 ?_
          refine lv_iconst (v := nI 0) hC.1 hC.2.1 dX11_host_55 (by decide) ?_
          refine al_M1 (v := nI nh) hC hw (by omega) hW.2.2.1 dX11_host_56 ?_
          refine lv_istore (lv' := [(6, .int (nI nh)), (0, .ref (a 70)), (1, .int (a1)), (2, .int (b1)), (3, .int (c1)), (4, .int (hall)), (5, .int (tn))]) hC.1 hC.2.1 dX11_host_57 hl (by decide) rfl (fun ls hl => ?_)
          refine lv_aload_n hC.1 hC.2.1 dX11_host_59 rfl (lv_at hl 1 rfl) ?_
          refine gf_X11_7 hC hw dX11_host_60 ?_
          refine lv_bipush (v := nI 6) hC.1 hC.2.1 dX11_host_63 (by decide) ?_
          refine lv_iconst (v := nI 3) hC.1 hC.2.1 dX11_host_65 (by decide) ?_
          refine lv_iload hC.1 hC.2.1 dX11_host_66 (lv_at hl 0 rfl) ?_
          refine q_mulN hC dX11_host_68 ?_
          refine q_addN hC dX11_host_69 ?_
          refine lv_iload_n hC.1 hC.2.1 dX11_host_70 rfl (lv_at hl 2 rfl) ?_
          refine as_M1 hC hw (by omega) dX11_host_71 (fun H locs hw => ?_)
          have hw : Wst E (MW E a) (sr (sr (sr τ 1 (upd (τ 1) (6 + (3 * nh)) (a1))) 2 (K17)) 0 (upd (τ 0) 0 (nI (push30 stk (τ 1)).length))) A s.heap H locs := hw
          refine lv_aload_n hC.1 hC.2.1 dX11_host_72 rfl (lv_at hl 1 rfl) ?_
          refine gf_X11_7 hC hw dX11_host_73 ?_
          refine lv_bipush (v := nI 6) hC.1 hC.2.1 dX11_host_76 (by decide) ?_
          refine lv_iconst (v := nI 3) hC.1 hC.2.1 dX11_host_78 (by decide) ?_
          refine lv_iload hC.1 hC.2.1 dX11_host_79 (lv_at hl 0 rfl) ?_
          refine q_mulN hC dX11_host_81 ?_
          refine q_addN hC dX11_host_82 ?_
          refine lv_iconst (v := nI 1) hC.1 hC.2.1 dX11_host_83 (by decide) ?_
          refine q_addN hC dX11_host_84 ?_
          refine lv_iload_n hC.1 hC.2.1 dX11_host_85 rfl (lv_at hl 3 rfl) ?_
          refine as_M1 hC hw (by omega) dX11_host_86 (fun H locs hw => ?_)
          have hw : Wst E (MW E a) (sr (sr (sr τ 1 (upd (upd (τ 1) (6 + (3 * nh)) (a1)) ((6 + (3 * nh)) + 1) (b1))) 2 (K17)) 0 (upd (τ 0) 0 (nI (push30 stk (τ 1)).length))) A s.heap H locs := hw
          refine lv_aload_n hC.1 hC.2.1 dX11_host_87 rfl (lv_at hl 1 rfl) ?_
          refine gf_X11_7 hC hw dX11_host_88 ?_
          refine lv_bipush (v := nI 6) hC.1 hC.2.1 dX11_host_91 (by decide) ?_
          refine lv_iconst (v := nI 3) hC.1 hC.2.1 dX11_host_93 (by decide) ?_
          refine lv_iload hC.1 hC.2.1 dX11_host_94 (lv_at hl 0 rfl) ?_
          refine q_mulN hC dX11_host_96 ?_
          refine q_addN hC dX11_host_97 ?_
          refine lv_iconst (v := nI 2) hC.1 hC.2.1 dX11_host_98 (by decide) ?_
          refine q_addN hC dX11_host_99 ?_
          refine lv_iload_n hC.1 hC.2.1 dX11_host_100 rfl (lv_at hl 4 rfl) ?_
          refine as_M1 hC hw (by omega) dX11_host_101 (fun H locs hw => ?_)
          have hw : Wst E (MW E a) (sr (sr (sr τ 1 (upd (upd (upd (τ 1) (6 + (3 * nh)) (a1)) ((6 + (3 * nh)) + 1) (b1)) ((6 + (3 * nh)) + 2) (c1))) 2 (K17)) 0 (upd (τ 0) 0 (nI (push30 stk (τ 1)).length))) A s.heap H locs := hw
          refine lv_aload_n hC.1 hC.2.1 dX11_host_102 rfl (lv_at hl 1 rfl) ?_
          refine gf_X11_7 hC hw dX11_host_103 ?_
          refine lv_bipush (v := nI 36) hC.1 hC.2.1 dX11_host_106 (by decide) ?_
          refine lv_iload hC.1 hC.2.1 dX11_host_108 (lv_at hl 0 rfl) ?_
          refine q_addN hC dX11_host_110 ?_
          refine lv_iload hC.1 hC.2.1 dX11_host_111 (lv_at hl 5 rfl) ?_
          refine as_M1 hC hw (by omega) dX11_host_113 (fun H locs hw => ?_)
          have hw : Wst E (MW E a) (sr (sr (sr τ 1 (upd (upd (upd (upd (τ 1) (6 + (3 * nh)) (a1)) ((6 + (3 * nh)) + 1) (b1)) ((6 + (3 * nh)) + 2) (c1)) (36 + nh) (hall))) 2 (K17)) 0 (upd (τ 0) 0 (nI (push30 stk (τ 1)).length))) A s.heap H locs := hw
          refine lv_aload_n hC.1 hC.2.1 dX11_host_114 rfl (lv_at hl 1 rfl) ?_
          refine gf_X11_7 hC hw dX11_host_115 ?_
          refine lv_bipush (v := nI 46) hC.1 hC.2.1 dX11_host_118 (by decide) ?_
          refine lv_iload hC.1 hC.2.1 dX11_host_120 (lv_at hl 0 rfl) ?_
          refine q_addN hC dX11_host_122 ?_
          refine lv_iload hC.1 hC.2.1 dX11_host_123 (lv_at hl 6 rfl) ?_
          refine as_M1 hC hw (by omega) dX11_host_125 (fun H locs hw => ?_)
          have hw : Wst E (MW E a) (sr (sr (sr τ 1 (upd (upd (upd (upd (upd (τ 1) (6 + (3 * nh)) (a1)) ((6 + (3 * nh)) + 1) (b1)) ((6 + (3 * nh)) + 2) (c1)) (36 + nh) (hall)) (46 + nh) (tn))) 2 (K17)) 0 (upd (τ 0) 0 (nI (push30 stk (τ 1)).length))) A s.heap H locs := hw
          refine lv_aload_n hC.1 hC.2.1 dX11_host_126 rfl (lv_at hl 1 rfl) ?_
          refine gf_X11_7 hC hw dX11_host_127 ?_
          refine lv_bipush (v := nI 56) hC.1 hC.2.1 dX11_host_130 (by decide) ?_
          refine lv_iload hC.1 hC.2.1 dX11_host_132 (lv_at hl 0 rfl) ?_
          refine q_addN hC dX11_host_134 ?_
          refine lv_iconst (v := nI 1) hC.1 hC.2.1 dX11_host_135 (by decide) ?_
          refine as_M1 hC hw (by omega) dX11_host_136 (fun H locs hw => ?_)
          have hw : Wst E (MW E a) (sr (sr (sr τ 1 (upd (upd (upd (upd (upd (upd (τ 1) (6 + (3 * nh)) (a1)) ((6 + (3 * nh)) + 1) (b1)) ((6 + (3 * nh)) + 2) (c1)) (36 + nh) (hall)) (46 + nh) (tn)) (56 + nh) (1))) 2 (K17)) 0 (upd (τ 0) 0 (nI (push30 stk (τ 1)).length))) A s.heap H locs := hw
          refine lv_aload_n hC.1 hC.2.1 dX11_host_137 rfl (lv_at hl 1 rfl) ?_
          refine gf_X11_7 hC hw dX11_host_138 ?_
          refine lv_iconst (v := nI 0) hC.1 hC.2.1 dX11_host_141 (by decide) ?_
          refine lv_dup2_11 hC.1 hC.2.1 dX11_host_142 rfl rfl ?_
          refine al_M1 (v := nI nh) hC hw (by omega) (by show (upd (upd (upd (upd (upd (upd (τ 1) (6 + (3 * nh)) (a1)) ((6 + (3 * nh)) + 1) (b1)) ((6 + (3 * nh)) + 2) (c1)) (36 + nh) (hall)) (46 + nh) (tn)) (56 + nh) (1)) 0 = _; rw [upn (by omega), upn (by omega), upn (by omega), upn (by omega), upn (by omega), upn (by omega)]; exact hW0) dX11_host_143 ?_
          refine lv_iconst (v := nI 1) hC.1 hC.2.1 dX11_host_144 (by decide) ?_
          refine q_addN hC dX11_host_145 ?_
          refine as_M1 hC hw (by omega) dX11_host_146 (fun H locs hw => ?_)
          have hw : Wst E (MW E a) (sr (sr (sr τ 1 (upd (upd (upd (upd (upd (upd (upd (τ 1) (6 + (3 * nh)) (a1)) ((6 + (3 * nh)) + 1) (b1)) ((6 + (3 * nh)) + 2) (c1)) (36 + nh) (hall)) (46 + nh) (tn)) (56 + nh) (1)) 0 (nI (nh + 1)))) 2 (K17)) 0 (upd (τ 0) 0 (nI (push30 stk (τ 1)).length))) A s.heap H locs := hw
          refine lv_iload hC.1 hC.2.1 dX11_host_147 (lv_at hl 0 rfl) ?_
          refine hret _ _ _ _ _ _ hw ?_ rfl dX11_host_149
          have ho : o_host (τ 1) nh a1 b1 c1 hall tn = (nI nh, some (f_host (τ 1) nh a1 b1 c1 hall tn)) := by rw [o_host, if_pos ⟨c4, (le_iff (n := 4) (by decide)).mp c8, (le_iff (n := 255) (by decide)).mp c12⟩, if_neg c13]
          rw [ho]
          exact ⟨rfl, MPs hRK17⟩
        · refine lv_bipush (v := (-2)) hC.1 hC.2.1 dX11_host_44 (by decide) ?_
          refine hret _ _ _ _ _ _ hw ?_ rfl dX11_host_46
          have ho : o_host (τ 1) nh a1 b1 c1 hall tn = (-2, none) := by rw [o_host, if_pos ⟨c4, (le_iff (n := 4) (by decide)).mp c8, (le_iff (n := 255) (by decide)).mp c12⟩, if_pos c13]
          rw [ho]
          exact ⟨rfl, MP0 hKR hO⟩
      · refine lv_iconst (v := (-1)) hC.1 hC.2.1 dX11_host_31 (by decide) ?_
        refine hret _ _ _ _ _ _ hw ?_ rfl dX11_host_32
        have ho : o_host (τ 1) nh a1 b1 c1 hall tn = (-1, none) := by rw [o_host, if_neg (fun q => c12 ((le_iff (n := 255) (by decide)).mpr q.2.2))]
        rw [ho]
        exact ⟨rfl, MP0 hKR hO⟩
