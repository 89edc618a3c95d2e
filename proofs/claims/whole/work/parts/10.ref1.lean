theorem nI_1e : nI 1 = 1 := rfl
theorem nI_4e : nI 4 = 4 := rfl
theorem ite_iff {p q : Prop} [Decidable p] [Decidable q] (h : p ↔ q) : (if p then (1 : Int32) else 0) = if q then (1 : Int32) else 0 := by
  by_cases hq : q
  · rw [if_pos hq, if_pos (h.mpr hq)]
  · rw [if_neg hq, if_neg (fun z => hq (h.mp z))]
theorem in_iff {v : Int32} {n : Nat} (hn : n < 2 ^ 30) : (¬ v < 0 ∧ ¬ nI n - 1 < v) ↔ (¬ v < 0 ∧ v < nI n) := by
  have e : (nI n - 1).toInt = (n : Int) - 1 := pk_sub_toInt (b := 1) (by omega) (by omega)
  have e2 := nI_toInt (n := n) (by omega)
  simp only [Int32.lt_iff_toInt_lt, e, e2, Int32.toInt_zero]
  omega
theorem le_iff {v : Int32} {n : Nat} (hn : n < 2 ^ 30) : (¬ v < 0 ∧ ¬ nI n < v) ↔ (¬ v < 0 ∧ v < nI (n + 1)) := by
  have e2 := nI_toInt (n := n) (by omega)
  have e3 := nI_toInt (n := n + 1) (by omega)
  simp only [Int32.lt_iff_toInt_lt, e2, e3, Int32.toInt_zero]
  omega
theorem in_nat {v : Int32} {n : Nat} (hn : n < 2 ^ 31) (h : ¬ v < 0 ∧ v < nI n) : ∃ j, j < n ∧ v = nI j := by
  obtain ⟨j, hj, rfl⟩ := nI_of h.1
  exact ⟨j, (nI_ltI hj hn).mp h.2, rfl⟩
theorem am_iff {u v w : Int32} : ((¬ u < 0 ∧ ¬ 1000 < u) ∧ (¬ v < 0 ∧ ¬ 1000 < v) ∧ (¬ w < 0 ∧ ¬ 1000 < w)) ↔ ((¬ u < 0 ∧ u < nI 1001) ∧ (¬ v < 0 ∧ v < nI 1001) ∧ (¬ w < 0 ∧ w < nI 1001)) := by
  have := fun x => le_iff (v := x) (n := 1000) (by decide)
  exact and_congr (this u) (and_congr (this v) (this w))
theorem nI_nm1 {h : Nat} (hh : h < 2 ^ 31) : ¬ (-1 : Int32) = nI h := by
  intro q
  have := congrArg Int32.toInt q
  rw [nI_toInt hh] at this
  have e : Int32.toInt (-1) = -1 := by decide
  omega
theorem inH_pB2 {v : Nat → Int32} {nh nj k : Nat} {but hall : Int32} (hW : mF v nh nj) (hk : k < nj) : inH (eM v) (pB (eM v) but) k hall ↔ ¬ nI k = but ∧ eM v 11 k = 1 ∧ eM v 2 (eM v 12 k).toNatClampNeg = hall := by
  unfold inH pB
  by_cases h1 : nI k = but
  · simp [h1]
  · by_cases h2 : eM v 11 k = 1
    · have h3 := hW.host hk h2
      have h4 : ¬ eM v 12 k = -1 := fun q => nI_nm1 (h := hN v k) (by have := hW.1; omega) (q.symm.trans h3.1)
      simp [h1, h2, h4]
    · simp [h1, h2]
theorem inH_pB {v : Nat → Int32} {nh nj j k : Nat} {hall : Int32} (hW : mF v nh nj) (hk : k < nj) (hj : j < nj) : inH (eM v) (pB (eM v) (nI j)) k hall ↔ ¬ k = j ∧ eM v 11 k = 1 ∧ eM v 2 (eM v 12 k).toNatClampNeg = hall := by
  rw [inH_pB2 hW hk, nI_eq (by have := hW.2.1; omega) (by have := hW.2.1; omega)]
set_option maxHeartbeats 4000000 in
set_option maxRecDepth 100000 in
theorem tX11_in (l : Launch) (E : EV) (a : Nat → Nat) (τ : St) (v : Int32) (lo : Int32) (hi : Int32) : MI l E (MW E a) yX11_in (Cond.code yX11_in cX11_in 3 (some .boolean)) ({ frames := 0, cells := 0, slots := 0, locals := 0 }) [.int (v), .int (lo), .int (hi)] τ (fun r_ u_ => r_ = (if ¬ v < lo ∧ ¬ hi < v then (1 : Int32) else 0) ∧ u_ = τ) := by
  refine MI.mk (by decide +kernel) (Nat.le_of_ble_eq_true rfl) ?_
  intro p e s m args below meth c ls A Q hret hC hw hl
  have hC : Cxt E p s m args meth c cX11_in 3 (some .boolean) RX11 A := hC
  have hl : lv_has ls 3 [(0, .int (v)), (1, .int (lo)), (2, .int (hi))] := hl
  refine lv_iload_n hC.1 hC.2.1 dX11_in_0 rfl (lv_at hl 0 rfl) ?_
  refine lv_iload_n hC.1 hC.2.1 dX11_in_1 rfl (lv_at hl 1 rfl) ?_
  have J15_2 : ∀ (w1 : Int32), w1 = (if (¬ (v < lo)) ∧ (¬ (hi < v)) then (1 : Int32) else 0) → ∀ (H : Heap) (locs : List Loc) (ls : Array Slot), Wst E (MW E a) (τ) A s.heap H locs → lv_has ls 3 [(0, .int (v)), (1, .int (lo)), (2, .int (hi))] → W p l e ({ frames := 0, cells := 0, slots := 0, locals := 0 }) s m args below meth c H locs 0 0 Q (F0 m 15 ls [.int (w1)]) := by
    intro w1 e2 H locs ls hw hl
    subst e2
    refine hret _ _ _ _ _ _ hw ?_ nz_B dX11_in_15
    exact ⟨rfl, rfl⟩
  refine q_cmplt hC 14 cI dX11_in_2 (by decide) (fun (c3 : v < lo) => ?_) (fun (c3 : ¬ (v < lo)) => ?_)
  · refine lv_iconst (v := nI 0) hC.1 hC.2.1 dX11_in_14 (by decide) ?_
    exact J15_2 _ (if_neg (fun q => (fun q => q c3) q.1)).symm _ _ _ hw (lv_sub hl [0, 1, 2] rfl)
  · refine lv_iload_n hC.1 hC.2.1 dX11_in_5 rfl (lv_at hl 0 rfl) ?_
    refine lv_iload_n hC.1 hC.2.1 dX11_in_6 rfl (lv_at hl 2 rfl) ?_
    refine q_cmpgt hC 14 cI dX11_in_7 (by decide) (fun (c4 : hi < v) => ?_) (fun (c4 : ¬ (hi < v)) => ?_)
    · refine lv_iconst (v := nI 0) hC.1 hC.2.1 dX11_in_14 (by decide) ?_
      exact J15_2 _ (if_neg (fun q => (fun q => q c4) q.2)).symm _ _ _ hw (lv_sub hl [0, 1, 2] rfl)
    · refine lv_iconst (v := nI 1) hC.1 hC.2.1 dX11_in_10 (by decide) ?_
      refine lv_goto (tgt := 15) hC.1 hC.2.1 dX11_in_11 (by decide) ?_
      exact J15_2 _ (if_pos ⟨c3, c4⟩).symm _ _ _ hw (lv_sub hl [0, 1, 2] rfl)
set_option maxHeartbeats 4000000 in
set_option maxRecDepth 100000 in
theorem tX11_isHost (l : Launch) (E : EV) (a : Nat → Nat) (τ : St) (nh : Nat) (nj : Nat) (v : Int32) (hW : mF (τ 1) nh nj) : MI l E (MW E a) yX11_isHost (Cond.code yX11_isHost cX11_isHost 2 (some .boolean)) ({ frames := 1, cells := 0, slots := 0, locals := 22 }) [.ref (a 70), .int (v)] τ (fun r_ u_ => r_ = (if ¬ v < 0 ∧ v < nI nh then (1 : Int32) else 0) ∧ u_ = τ) := by
  refine MI.mk (by decide +kernel) (Nat.le_of_ble_eq_true rfl) ?_
  intro p e s m args below meth c ls A Q hret hC hw hl
  have hC : Cxt E p s m args meth c cX11_isHost 2 (some .boolean) RX11 A := hC
  have hl : lv_has ls 2 [(0, .ref (a 70)), (1, .int (v))] := hl
  have ⟨hnh, hnj, hW0, hW1, hWh⟩ := id hW
  refine lv_iload_n hC.1 hC.2.1 dX11_isHost_0 rfl (lv_at hl 1 rfl) ?_
  refine lv_iconst (v := nI 0) hC.1 hC.2.1 dX11_isHost_1 (by decide) ?_
  refine lv_aload_n hC.1 hC.2.1 dX11_isHost_2 rfl (lv_at hl 0 rfl) ?_
  refine gf_X11_7 hC hw dX11_isHost_3 ?_
  refine lv_iconst (v := nI 0) hC.1 hC.2.1 dX11_isHost_6 (by decide) ?_
  refine al_M1 (v := nI nh) hC hw (by omega) hW.2.2.1 dX11_isHost_7 ?_
  refine lv_iconst (v := nI 1) hC.1 hC.2.1 dX11_isHost_8 (by decide) ?_
  refine lv_isub hC.1 hC.2.1 dX11_isHost_9 ?_
  refine q_callSp (As := [.int (v), .int (nI 0), .int ((nI nh) - 1)]) (rest := []) hC hw hl (tX11_in l E a τ v 0 ((nI nh) - 1)) (q_cwS hC.2.2.2.2.1 ⟨rfl, rfl⟩ wk4_175 wk4_176 wk1_12 wk4_177 hd_X11_in.2 ⟨Nat.le_of_ble_eq_true rfl, Nat.le_of_ble_eq_true rfl⟩) rfl rfl (Nat.le_of_ble_eq_true rfl) dX11_isHost_10 (fun H locs hw => ?_)
  refine hret _ _ _ _ _ _ hw ?_ nz_B dX11_isHost_13
  exact ⟨ite_iff (in_iff (by omega)), rfl⟩
set_option maxHeartbeats 4000000 in
set_option maxRecDepth 100000 in
theorem tX11_isJob (l : Launch) (E : EV) (a : Nat → Nat) (τ : St) (nh : Nat) (nj : Nat) (v : Int32) (hW : mF (τ 1) nh nj) : MI l E (MW E a) yX11_isJob (Cond.code yX11_isJob cX11_isJob 2 (some .boolean)) ({ frames := 1, cells := 0, slots := 0, locals := 22 }) [.ref (a 70), .int (v)] τ (fun r_ u_ => r_ = (if ¬ v < 0 ∧ v < nI nj then (1 : Int32) else 0) ∧ u_ = τ) := by
  refine MI.mk (by decide +kernel) (Nat.le_of_ble_eq_true rfl) ?_
  intro p e s m args below meth c ls A Q hret hC hw hl
  have hC : Cxt E p s m args meth c cX11_isJob 2 (some .boolean) RX11 A := hC
  have hl : lv_has ls 2 [(0, .ref (a 70)), (1, .int (v))] := hl
  have ⟨hnh, hnj, hW0, hW1, hWh⟩ := id hW
  refine lv_iload_n hC.1 hC.2.1 dX11_isJob_0 rfl (lv_at hl 1 rfl) ?_
  refine lv_iconst (v := nI 0) hC.1 hC.2.1 dX11_isJob_1 (by decide) ?_
  refine lv_aload_n hC.1 hC.2.1 dX11_isJob_2 rfl (lv_at hl 0 rfl) ?_
  refine gf_X11_7 hC hw dX11_isJob_3 ?_
  refine lv_iconst (v := nI 1) hC.1 hC.2.1 dX11_isJob_6 (by decide) ?_
  refine al_M1 (v := nI nj) hC hw (by omega) hW.2.2.2.1 dX11_isJob_7 ?_
  refine lv_iconst (v := nI 1) hC.1 hC.2.1 dX11_isJob_8 (by decide) ?_
  refine lv_isub hC.1 hC.2.1 dX11_isJob_9 ?_
  refine q_callSp (As := [.int (v), .int (nI 0), .int ((nI nj) - 1)]) (rest := []) hC hw hl (tX11_in l E a τ v 0 ((nI nj) - 1)) (q_cwS hC.2.2.2.2.1 ⟨rfl, rfl⟩ wk4_175 wk4_176 wk1_12 wk4_177 hd_X11_in.2 ⟨Nat.le_of_ble_eq_true rfl, Nat.le_of_ble_eq_true rfl⟩) rfl rfl (Nat.le_of_ble_eq_true rfl) dX11_isJob_10 (fun H locs hw => ?_)
  refine hret _ _ _ _ _ _ hw ?_ nz_B dX11_isJob_13
  exact ⟨ite_iff (in_iff (by omega)), rfl⟩
set_option maxHeartbeats 4000000 in
set_option maxRecDepth 100000 in
theorem tX11_areAmounts (l : Launch) (E : EV) (a : Nat → Nat) (τ : St) (u : Int32) (v : Int32) (w : Int32) : MI l E (MW E a) yX11_areAmounts (Cond.code yX11_areAmounts cX11_areAmounts 3 (some .boolean)) ({ frames := 1, cells := 0, slots := 0, locals := 22 }) [.int (u), .int (v), .int (w)] τ (fun r_ u_ => r_ = (if (¬ u < 0 ∧ u < nI 1001) ∧ (¬ v < 0 ∧ v < nI 1001) ∧ (¬ w < 0 ∧ w < nI 1001) then (1 : Int32) else 0) ∧ u_ = τ) := by
  refine MI.mk (by decide +kernel) (Nat.le_of_ble_eq_true rfl) ?_
  intro p e s m args below meth c ls A Q hret hC hw hl
  have hC : Cxt E p s m args meth c cX11_areAmounts 3 (some .boolean) RX11 A := hC
  have hl : lv_has ls 3 [(0, .int (u)), (1, .int (v)), (2, .int (w))] := hl
  refine lv_iload_n hC.1 hC.2.1 dX11_areAmounts_0 rfl (lv_at hl 0 rfl) ?_
  refine lv_iconst (v := nI 0) hC.1 hC.2.1 dX11_areAmounts_1 (by decide) ?_
  refine lv_sipush (v := nI 1000) hC.1 hC.2.1 dX11_areAmounts_2 (by decide) ?_
  refine q_callSp (As := [.int (u), .int (nI 0), .int (nI 1000)]) (rest := []) hC hw hl (tX11_in l E a τ u 0 1000) (q_cwS hC.2.2.2.2.1 ⟨rfl, rfl⟩ wk4_175 wk4_176 wk1_12 wk4_177 hd_X11_in.2 ⟨Nat.le_of_ble_eq_true rfl, Nat.le_of_ble_eq_true rfl⟩) rfl rfl (Nat.le_of_ble_eq_true rfl) dX11_areAmounts_5 (fun H locs hw => ?_)
  have J38_5 : ∀ (w4 : Int32), w4 = (if (¬ u < 0 ∧ ¬ 1000 < u) ∧ ((¬ v < 0 ∧ ¬ 1000 < v) ∧ (¬ w < 0 ∧ ¬ 1000 < w)) then (1 : Int32) else 0) → ∀ (H : Heap) (locs : List Loc) (ls : Array Slot), Wst E (MW E a) (τ) A s.heap H locs → lv_has ls 3 [(0, .int (u)), (1, .int (v)), (2, .int (w))] → W p l e ({ frames := 1, cells := 0, slots := 0, locals := 22 }) s m args below meth c H locs 0 0 Q (F0 m 38 ls [.int (w4)]) := by
    intro w4 e5 H locs ls hw hl
    subst e5
    refine hret _ _ _ _ _ _ hw ?_ nz_B dX11_areAmounts_38
    exact ⟨ite_iff (am_iff), rfl⟩
  refine q_ifeq hC 37 cB dX11_areAmounts_8 (by decide) (fun (c6 : ¬ (¬ u < 0 ∧ ¬ 1000 < u)) => ?_) (fun (c6 : ¬ u < 0 ∧ ¬ 1000 < u) => ?_)
  · refine lv_iconst (v := nI 0) hC.1 hC.2.1 dX11_areAmounts_37 (by decide) ?_
    exact J38_5 _ (if_neg (fun q => c6 q.1)).symm _ _ _ hw (lv_sub hl [0, 1, 2] rfl)
  · refine lv_iload_n hC.1 hC.2.1 dX11_areAmounts_11 rfl (lv_at hl 1 rfl) ?_
    refine lv_iconst (v := nI 0) hC.1 hC.2.1 dX11_areAmounts_12 (by decide) ?_
    refine lv_sipush (v := nI 1000) hC.1 hC.2.1 dX11_areAmounts_13 (by decide) ?_
    refine q_callSp (As := [.int (v), .int (nI 0), .int (nI 1000)]) (rest := []) hC hw hl (tX11_in l E a τ v 0 1000) (q_cwS hC.2.2.2.2.1 ⟨rfl, rfl⟩ wk4_175 wk4_176 wk1_12 wk4_177 hd_X11_in.2 ⟨Nat.le_of_ble_eq_true rfl, Nat.le_of_ble_eq_true rfl⟩) rfl rfl (Nat.le_of_ble_eq_true rfl) dX11_areAmounts_16 (fun H locs hw => ?_)
    refine q_ifeq hC 37 cB dX11_areAmounts_19 (by decide) (fun (c10 : ¬ (¬ v < 0 ∧ ¬ 1000 < v)) => ?_) (fun (c10 : ¬ v < 0 ∧ ¬ 1000 < v) => ?_)
    · refine lv_iconst (v := nI 0) hC.1 hC.2.1 dX11_areAmounts_37 (by decide) ?_
      exact J38_5 _ (if_neg (fun q => (fun q => c10 q.1) q.2)).symm _ _ _ hw (lv_sub hl [0, 1, 2] rfl)
    · refine lv_iload_n hC.1 hC.2.1 dX11_areAmounts_22 rfl (lv_at hl 2 rfl) ?_
      refine lv_iconst (v := nI 0) hC.1 hC.2.1 dX11_areAmounts_23 (by decide) ?_
      refine lv_sipush (v := nI 1000) hC.1 hC.2.1 dX11_areAmounts_24 (by decide) ?_
      refine q_callSp (As := [.int (w), .int (nI 0), .int (nI 1000)]) (rest := []) hC hw hl (tX11_in l E a τ w 0 1000) (q_cwS hC.2.2.2.2.1 ⟨rfl, rfl⟩ wk4_175 wk4_176 wk1_12 wk4_177 hd_X11_in.2 ⟨Nat.le_of_ble_eq_true rfl, Nat.le_of_ble_eq_true rfl⟩) rfl rfl (Nat.le_of_ble_eq_true rfl) dX11_areAmounts_27 (fun H locs hw => ?_)
      refine q_ifeq hC 37 cB dX11_areAmounts_30 (by decide) (fun (c14 : ¬ (¬ w < 0 ∧ ¬ 1000 < w)) => ?_) (fun (c14 : ¬ w < 0 ∧ ¬ 1000 < w) => ?_)
      · refine lv_iconst (v := nI 0) hC.1 hC.2.1 dX11_areAmounts_37 (by decide) ?_
        exact J38_5 _ (if_neg (fun q => (fun q => c14 q.2) q.2)).symm _ _ _ hw (lv_sub hl [0, 1, 2] rfl)
      · refine lv_iconst (v := nI 1) hC.1 hC.2.1 dX11_areAmounts_33 (by decide) ?_
        refine lv_goto (tgt := 38) hC.1 hC.2.1 dX11_areAmounts_34 (by decide) ?_
        exact J38_5 _ (if_pos ⟨c6, ⟨c10, c14⟩⟩).symm _ _ _ hw (lv_sub hl [0, 1, 2] rfl)
set_option maxHeartbeats 4000000 in
set_option maxRecDepth 100000 in
theorem tX11_standsOn (l : Launch) (E : EV) (a : Nat → Nat) (τ : St) (nh : Nat) (nj : Nat) (j : Nat) (h : Nat) (hW : mF (τ 1) nh nj) (hj : j < nj) (hh : h < 10) : MI l E (MW E a) yX11_standsOn (Cond.code yX11_standsOn cX11_standsOn 3 (some .boolean)) ({ frames := 0, cells := 0, slots := 0, locals := 0 }) [.ref (a 70), .int (nI j), .int (nI h)] τ (fun r_ u_ => r_ = (if eM (τ 1) 11 j = 1 ∧ eM (τ 1) 12 j = nI h then (1 : Int32) else 0) ∧ u_ = τ) := by
  refine MI.mk (by decide +kernel) (Nat.le_of_ble_eq_true rfl) ?_
  intro p e s m args below meth c ls A Q hret hC hw hl
  have hC : Cxt E p s m args meth c cX11_standsOn 3 (some .boolean) RX11 A := hC
  have hl : lv_has ls 3 [(0, .ref (a 70)), (1, .int (nI j)), (2, .int (nI h))] := hl
  have ⟨hnh, hnj, hW0, hW1, hWh⟩ := id hW
  refine lv_aload_n hC.1 hC.2.1 dX11_standsOn_0 rfl (lv_at hl 0 rfl) ?_
  refine gf_X11_7 hC hw dX11_standsOn_1 ?_
  refine lv_sipush (v := nI 258) hC.1 hC.2.1 dX11_standsOn_4 (by decide) ?_
  refine lv_iload_n hC.1 hC.2.1 dX11_standsOn_7 rfl (lv_at hl 1 rfl) ?_
  refine q_addN hC dX11_standsOn_8 ?_
  refine al_M1 (v := eM (τ 1) 11 j) hC hw (by omega) (show _ = eM (τ 1) 11 j from congrArg (τ 1) (by omega)) dX11_standsOn_9 ?_
  refine lv_iconst (v := nI 1) hC.1 hC.2.1 dX11_standsOn_10 (by decide) ?_
  have J33_2 : ∀ (w1 : Int32), w1 = (if ((eM (τ 1) 11 j) = 1) ∧ ((eM (τ 1) 12 j) = nI h) then (1 : Int32) else 0) → ∀ (H : Heap) (locs : List Loc) (ls : Array Slot), Wst E (MW E a) (τ) A s.heap H locs → lv_has ls 3 [(0, .ref (a 70)), (1, .int (nI j)), (2, .int (nI h))] → W p l e ({ frames := 0, cells := 0, slots := 0, locals := 0 }) s m args below meth c H locs 0 0 Q (F0 m 33 ls [.int (w1)]) := by
    intro w1 e2 H locs ls hw hl
    subst e2
    refine hret _ _ _ _ _ _ hw ?_ nz_B dX11_standsOn_33
    exact ⟨rfl, rfl⟩
  refine q_cmpne hC 32 cI dX11_standsOn_11 (by decide) (fun (c3 : ¬ ((eM (τ 1) 11 j) = 1)) => ?_) (fun (c3 : (eM (τ 1) 11 j) = 1) => ?_)
  · refine lv_iconst (v := nI 0) hC.1 hC.2.1 dX11_standsOn_32 (by decide) ?_
    exact J33_2 _ (if_neg (fun q => c3 q.1)).symm _ _ _ hw (lv_sub hl [0, 1, 2] rfl)
  · refine lv_aload_n hC.1 hC.2.1 dX11_standsOn_14 rfl (lv_at hl 0 rfl) ?_
    refine gf_X11_7 hC hw dX11_standsOn_15 ?_
    refine lv_sipush (v := nI 282) hC.1 hC.2.1 dX11_standsOn_18 (by decide) ?_
    refine lv_iload_n hC.1 hC.2.1 dX11_standsOn_21 rfl (lv_at hl 1 rfl) ?_
    refine q_addN hC dX11_standsOn_22 ?_
    refine al_M1 (v := eM (τ 1) 12 j) hC hw (by omega) (show _ = eM (τ 1) 12 j from congrArg (τ 1) (by omega)) dX11_standsOn_23 ?_
    refine lv_iload_n hC.1 hC.2.1 dX11_standsOn_24 rfl (lv_at hl 2 rfl) ?_
    refine q_cmpne hC 32 cI dX11_standsOn_25 (by decide) (fun (c4 : ¬ ((eM (τ 1) 12 j) = nI h)) => ?_) (fun (c4 : (eM (τ 1) 12 j) = nI h) => ?_)
    · refine lv_iconst (v := nI 0) hC.1 hC.2.1 dX11_standsOn_32 (by decide) ?_
      exact J33_2 _ (if_neg (fun q => c4 q.2)).symm _ _ _ hw (lv_sub hl [0, 1, 2] rfl)
    · refine lv_iconst (v := nI 1) hC.1 hC.2.1 dX11_standsOn_28 (by decide) ?_
      refine lv_goto (tgt := 33) hC.1 hC.2.1 dX11_standsOn_29 (by decide) ?_
      exact J33_2 _ (if_pos ⟨c3, c4⟩).symm _ _ _ hw (lv_sub hl [0, 1, 2] rfl)
set_option maxHeartbeats 4000000 in
set_option maxRecDepth 100000 in
theorem tX11_standsIn (l : Launch) (E : EV) (a : Nat → Nat) (τ : St) (nh : Nat) (nj : Nat) (j : Nat) (hall : Int32) (hW : mF (τ 1) nh nj) (hj : j < nj) : MI l E (MW E a) yX11_standsIn (Cond.code yX11_standsIn cX11_standsIn 3 (some .boolean)) ({ frames := 0, cells := 0, slots := 0, locals := 0 }) [.ref (a 70), .int (nI j), .int (hall)] τ (fun r_ u_ => r_ = (if eM (τ 1) 11 j = 1 ∧ eM (τ 1) 2 (eM (τ 1) 12 j).toNatClampNeg = hall then (1 : Int32) else 0) ∧ u_ = τ) := by
  refine MI.mk (by decide +kernel) (Nat.le_of_ble_eq_true rfl) ?_
  intro p e s m args below meth c ls A Q hret hC hw hl
  have hC : Cxt E p s m args meth c cX11_standsIn 3 (some .boolean) RX11 A := hC
  have hl : lv_has ls 3 [(0, .ref (a 70)), (1, .int (nI j)), (2, .int (hall))] := hl
  have ⟨hnh, hnj, hW0, hW1, hWh⟩ := id hW
  refine lv_aload_n hC.1 hC.2.1 dX11_standsIn_0 rfl (lv_at hl 0 rfl) ?_
  refine gf_X11_7 hC hw dX11_standsIn_1 ?_
  refine lv_sipush (v := nI 258) hC.1 hC.2.1 dX11_standsIn_4 (by decide) ?_
  refine lv_iload_n hC.1 hC.2.1 dX11_standsIn_7 rfl (lv_at hl 1 rfl) ?_
  refine q_addN hC dX11_standsIn_8 ?_
  refine al_M1 (v := eM (τ 1) 11 j) hC hw (by omega) (show _ = eM (τ 1) 11 j from congrArg (τ 1) (by omega)) dX11_standsIn_9 ?_
  refine lv_iconst (v := nI 1) hC.1 hC.2.1 dX11_standsIn_10 (by decide) ?_
  have J41_2 : ∀ (w1 : Int32), w1 = (if ((eM (τ 1) 11 j) = 1) ∧ ((eM (τ 1) 2 (hN (τ 1) j)) = hall) then (1 : Int32) else 0) → ∀ (H : Heap) (locs : List Loc) (ls : Array Slot), Wst E (MW E a) (τ) A s.heap H locs → lv_has ls 3 [(0, .ref (a 70)), (1, .int (nI j)), (2, .int (hall))] → W p l e ({ frames := 0, cells := 0, slots := 0, locals := 0 }) s m args below meth c H locs 0 0 Q (F0 m 41 ls [.int (w1)]) := by
    intro w1 e2 H locs ls hw hl
    subst e2
    refine hret _ _ _ _ _ _ hw ?_ nz_B dX11_standsIn_41
    exact ⟨rfl, rfl⟩
  refine q_cmpne hC 40 cI dX11_standsIn_11 (by decide) (fun (c3 : ¬ ((eM (τ 1) 11 j) = 1)) => ?_) (fun (c3 : (eM (τ 1) 11 j) = 1) => ?_)
  · refine lv_iconst (v := nI 0) hC.1 hC.2.1 dX11_standsIn_40 (by decide) ?_
    exact J41_2 _ (if_neg (fun q => c3 q.1)).symm _ _ _ hw (lv_sub hl [0, 1, 2] rfl)
  · refine lv_aload_n hC.1 hC.2.1 dX11_standsIn_14 rfl (lv_at hl 0 rfl) ?_
    refine gf_X11_7 hC hw dX11_standsIn_15 ?_
    refine lv_bipush (v := nI 36) hC.1 hC.2.1 dX11_standsIn_18 (by decide) ?_
    refine lv_aload_n hC.1 hC.2.1 dX11_standsIn_20 rfl (lv_at hl 0 rfl) ?_
    refine gf_X11_7 hC hw dX11_standsIn_21 ?_
    refine lv_sipush (v := nI 282) hC.1 hC.2.1 dX11_standsIn_24 (by decide) ?_
    refine lv_iload_n hC.1 hC.2.1 dX11_standsIn_27 rfl (lv_at hl 1 rfl) ?_
    refine q_addN hC dX11_standsIn_28 ?_
    have hhc3 := mF.host hW hj c3
    refine al_M1 (v := nI (hN (τ 1) j)) hC hw (by omega) hhc3.1 dX11_standsIn_29 ?_
    refine q_addN hC dX11_standsIn_30 ?_
    refine al_M1 (v := eM (τ 1) 2 (hN (τ 1) j)) hC hw (by omega) (show _ = eM (τ 1) 2 (hN (τ 1) j) from congrArg (τ 1) (by omega)) dX11_standsIn_31 ?_
    refine lv_iload_n hC.1 hC.2.1 dX11_standsIn_32 rfl (lv_at hl 2 rfl) ?_
    refine q_cmpne hC 40 cI dX11_standsIn_33 (by decide) (fun (c4 : ¬ ((eM (τ 1) 2 (hN (τ 1) j)) = hall)) => ?_) (fun (c4 : (eM (τ 1) 2 (hN (τ 1) j)) = hall) => ?_)
    · refine lv_iconst (v := nI 0) hC.1 hC.2.1 dX11_standsIn_40 (by decide) ?_
      exact J41_2 _ (if_neg (fun q => c4 q.2)).symm _ _ _ hw (lv_sub hl [0, 1, 2] rfl)
    · refine lv_iconst (v := nI 1) hC.1 hC.2.1 dX11_standsIn_36 (by decide) ?_
      refine lv_goto (tgt := 41) hC.1 hC.2.1 dX11_standsIn_37 (by decide) ?_
      exact J41_2 _ (if_pos ⟨c3, c4⟩).symm _ _ _ hw (lv_sub hl [0, 1, 2] rfl)
set_option maxHeartbeats 4000000 in
set_option maxRecDepth 100000 in
theorem tX11_leftOf (l : Launch) (E : EV) (a : Nat → Nat) (τ : St) (nh : Nat) (nj : Nat) (h : Nat) (i : Nat) (but : Int32) (hW : mF (τ 1) nh nj) (hh : h < 10) (hi : i < 3) : MI l E (MW E a) yX11_leftOf (Cond.code yX11_leftOf cX11_leftOf 6 (some .int)) ({ frames := 1, cells := 0, slots := 0, locals := 22 }) [.ref (a 70), .int (nI h), .int (nI i), .int (but)] τ (fun r_ u_ => r_ = (m_left (eM (τ 1)) (pB (eM (τ 1)) but) nj h i) ∧ u_ = τ) := by
  refine MI.mk (by decide +kernel) (Nat.le_of_ble_eq_true rfl) ?_
  intro p e s m args below meth c ls A Q hret hC hw hl
  have hC : Cxt E p s m args meth c cX11_leftOf 6 (some .int) RX11 A := hC
  have hl : lv_has ls 6 [(0, .ref (a 70)), (1, .int (nI h)), (2, .int (nI i)), (3, .int (but))] := hl
  have ⟨hnh, hnj, hW0, hW1, hWh⟩ := id hW
  refine lv_aload_n hC.1 hC.2.1 dX11_leftOf_0 rfl (lv_at hl 0 rfl) ?_
  refine gf_X11_7 hC hw dX11_leftOf_1 ?_
  refine lv_bipush (v := nI 6) hC.1 hC.2.1 dX11_leftOf_4 (by decide) ?_
  refine lv_iconst (v := nI 3) hC.1 hC.2.1 dX11_leftOf_6 (by decide) ?_
  refine lv_iload_n hC.1 hC.2.1 dX11_leftOf_7 rfl (lv_at hl 1 rfl) ?_
  refine q_mulN hC dX11_leftOf_8 ?_
  refine q_addN hC dX11_leftOf_9 ?_
  refine lv_iload_n hC.1 hC.2.1 dX11_leftOf_10 rfl (lv_at hl 2 rfl) ?_
  refine q_addN hC dX11_leftOf_11 ?_
  refine al_M1 (v := eM (τ 1) 1 (((3 * h)) + i)) hC hw (by omega) (show _ = eM (τ 1) 1 (((3 * h)) + i) from congrArg (τ 1) (by omega)) dX11_leftOf_12 ?_
  refine lv_istore (lv' := [(4, .int (eM (τ 1) 1 (((3 * h)) + i))), (0, .ref (a 70)), (1, .int (nI h)), (2, .int (nI i)), (3, .int (but))]) hC.1 hC.2.1 dX11_leftOf_13 hl (by decide) rfl (fun ls hl => ?_)
  refine lv_iconst (v := nI 0) hC.1 hC.2.1 dX11_leftOf_15 (by decide) ?_
  refine lv_istore (lv' := [(5, .int (nI 0)), (4, .int (eM (τ 1) 1 (((3 * h)) + i))), (0, .ref (a 70)), (1, .int (nI h)), (2, .int (nI i)), (3, .int (but))]) hC.1 hC.2.1 dX11_leftOf_16 hl (by decide) rfl (fun ls hl => ?_)
  have L18_0 : ∀ (n : Nat), ∀ (j : Nat), ∀ (v : Int32), (v = (eM (τ 1) 1 (3 * h + i) - sm (f_left (eM (τ 1)) (pB (eM (τ 1)) but) h i) j)) → (j ≤ nj) → (nj - j) < n → ∀ (H : Heap) (locs : List Loc) (ls : Array Slot), Wst E (MW E a) (τ) A s.heap H locs → lv_has ls 6 [(0, .ref (a 70)), (1, .int (nI h)), (2, .int (nI i)), (3, .int (but)), (4, .int (v)), (5, .int (nI j))] → W p l e ({ frames := 1, cells := 0, slots := 0, locals := 22 }) s m args below meth c H locs 0 0 Q (F0 m 18 ls []) := by
    intro n
    induction n with
    | zero => intro j v q_v hj hn; exact absurd hn (Nat.not_lt_zero _)
    | succ n ih18 =>
      intro j v q_v hj hn18 H locs ls hw hl
      subst q_v
      refine lv_iload hC.1 hC.2.1 dX11_leftOf_18 (lv_at hl 5 rfl) ?_
      refine lv_aload_n hC.1 hC.2.1 dX11_leftOf_20 rfl (lv_at hl 0 rfl) ?_
      refine gf_X11_7 hC hw dX11_leftOf_21 ?_
      refine lv_iconst (v := nI 1) hC.1 hC.2.1 dX11_leftOf_24 (by decide) ?_
      refine al_M1 (v := nI nj) hC hw (by omega) hW.2.2.2.1 dX11_leftOf_25 ?_
      refine q_cmpge hC 74 (cNle (by omega) (by omega)) dX11_leftOf_26 (by decide) (fun (c2 : nj ≤ j) => ?_) (fun (c2 : j < nj) => ?_)
      · refine lv_iload hC.1 hC.2.1 dX11_leftOf_74 (lv_at hl 4 rfl) ?_
        refine hret _ _ _ _ _ _ hw ?_ rfl dX11_leftOf_76
        exact ⟨by rw [show j = nj by omega]; rfl, rfl⟩
      · refine lv_iload hC.1 hC.2.1 dX11_leftOf_29 (lv_at hl 4 rfl) ?_
        refine lv_iload hC.1 hC.2.1 dX11_leftOf_31 (lv_at hl 5 rfl) ?_
        refine lv_iload_n hC.1 hC.2.1 dX11_leftOf_33 rfl (lv_at hl 3 rfl) ?_
        have J65_4 : ∀ (w3 : Int32), w3 = (if nI j = but then 0 else (if eM (τ 1) 11 j = 1 ∧ eM (τ 1) 12 j = nI h then (eM (τ 1) 6 (((3 * j)) + i)) else 0)) → ∀ (H : Heap) (locs : List Loc) (ls : Array Slot), Wst E (MW E a) (τ) A s.heap H locs → lv_has ls 6 [(0, .ref (a 70)), (1, .int (nI h)), (2, .int (nI i)), (3, .int (but)), (4, .int (eM (τ 1) 1 (3 * h + i) - sm (f_left (eM (τ 1)) (pB (eM (τ 1)) but) h i) j)), (5, .int (nI j))] → W p l e ({ frames := 1, cells := 0, slots := 0, locals := 22 }) s m args below meth c H locs 0 0 Q (F0 m 65 ls [.int (w3), .int (eM (τ 1) 1 (3 * h + i) - sm (f_left (eM (τ 1)) (pB (eM (τ 1)) but) h i) j)]) := by
          intro w3 e4 H locs ls hw hl
          subst e4
          refine lv_isub hC.1 hC.2.1 dX11_leftOf_65 ?_
          refine lv_istore (lv' := [(4, .int ((eM (τ 1) 1 (3 * h + i) - sm (f_left (eM (τ 1)) (pB (eM (τ 1)) but) h i) j) - (if nI j = but then 0 else (if eM (τ 1) 11 j = 1 ∧ eM (τ 1) 12 j = nI h then (eM (τ 1) 6 (((3 * j)) + i)) else 0)))), (0, .ref (a 70)), (1, .int (nI h)), (2, .int (nI i)), (3, .int (but)), (5, .int (nI j))]) hC.1 hC.2.1 dX11_leftOf_66 hl (by decide) rfl (fun ls hl => ?_)
          refine lv_iinc (v := nI (j + 1)) (lv' := [(5, .int (nI (j + 1))), (4, .int ((eM (τ 1) 1 (3 * h + i) - sm (f_left (eM (τ 1)) (pB (eM (τ 1)) but) h i) j) - (if nI j = but then 0 else (if eM (τ 1) 11 j = 1 ∧ eM (τ 1) 12 j = nI h then (eM (τ 1) 6 (((3 * j)) + i)) else 0)))), (0, .ref (a 70)), (1, .int (nI h)), (2, .int (nI i)), (3, .int (but))]) hC.1 hC.2.1 dX11_leftOf_68 hl (k := 5) rfl (nI_add _ _) (by decide) rfl (fun ls hl => ?_)
          refine lv_goto (tgt := 18) hC.1 hC.2.1 dX11_leftOf_71 (by decide) ?_
          exact ih18 (j + 1) ((eM (τ 1) 1 (3 * h + i) - sm (f_left (eM (τ 1)) (pB (eM (τ 1)) but) h i) j) - (if nI j = but then 0 else (if eM (τ 1) 11 j = 1 ∧ eM (τ 1) 12 j = nI h then (eM (τ 1) 6 (((3 * j)) + i)) else 0))) (by simp only [sm, f_left, pB_ne hh, nI_0]; grind) (by omega) (by omega) _ _ _ hw (lv_sub hl [2, 3, 4, 5, 1, 0] rfl)
        refine q_cmpeq hC 64 cI dX11_leftOf_34 (by decide) (fun (c5 : nI j = but) => ?_) (fun (c5 : ¬ (nI j = but)) => ?_)
        · refine lv_iconst (v := nI 0) hC.1 hC.2.1 dX11_leftOf_64 (by decide) ?_
          exact J65_4 _ (by (rw [if_pos c5]) <;> rfl) _ _ _ hw (lv_sub hl [0, 1, 2, 3, 4, 5] rfl)
        · refine lv_aload_n hC.1 hC.2.1 dX11_leftOf_37 rfl (lv_at hl 0 rfl) ?_
          refine lv_iload hC.1 hC.2.1 dX11_leftOf_38 (lv_at hl 5 rfl) ?_
          refine lv_iload_n hC.1 hC.2.1 dX11_leftOf_40 rfl (lv_at hl 1 rfl) ?_
          refine q_callVp (As := [.int (nI j), .int (nI h)]) (rest := [.int (eM (τ 1) 1 (3 * h + i) - sm (f_left (eM (τ 1)) (pB (eM (τ 1)) but) h i) j)]) (q0 := 0) hC hw hl (tX11_standsOn l E a τ nh nj j h (by first | assumption | omega) (by first | assumption | omega) (by first | assumption | omega)) (q_cwV hC.2.2.2.2.1 ⟨rfl, rfl⟩ wk4_210 wk4_212 wks_2_11 wk1_12 wk4_213 hd_X11_standsOn ⟨Nat.le_of_ble_eq_true rfl, Nat.le_of_ble_eq_true rfl⟩) rfl rfl rfl rfl rfl (Nat.le_of_ble_eq_true rfl) dX11_leftOf_41 (fun H locs hw => ?_)
          refine q_ifeq hC 64 cB dX11_leftOf_44 (by decide) (fun (c9 : ¬ (eM (τ 1) 11 j = 1 ∧ eM (τ 1) 12 j = nI h)) => ?_) (fun (c9 : eM (τ 1) 11 j = 1 ∧ eM (τ 1) 12 j = nI h) => ?_)
          · refine lv_iconst (v := nI 0) hC.1 hC.2.1 dX11_leftOf_64 (by decide) ?_
            exact J65_4 _ (by (rw [if_neg c5, if_neg c9]) <;> rfl) _ _ _ hw (lv_sub hl [0, 1, 2, 3, 4, 5] rfl)
          · refine lv_aload_n hC.1 hC.2.1 dX11_leftOf_47 rfl (lv_at hl 0 rfl) ?_
            refine gf_X11_7 hC hw dX11_leftOf_48 ?_
            refine lv_bipush (v := nI 90) hC.1 hC.2.1 dX11_leftOf_51 (by decide) ?_
            refine lv_iconst (v := nI 3) hC.1 hC.2.1 dX11_leftOf_53 (by decide) ?_
            refine lv_iload hC.1 hC.2.1 dX11_leftOf_54 (lv_at hl 5 rfl) ?_
            refine q_mulN hC dX11_leftOf_56 ?_
            refine q_addN hC dX11_leftOf_57 ?_
            refine lv_iload_n hC.1 hC.2.1 dX11_leftOf_58 rfl (lv_at hl 2 rfl) ?_
            refine q_addN hC dX11_leftOf_59 ?_
            refine al_M1 (v := eM (τ 1) 6 (((3 * j)) + i)) hC hw (by omega) (show _ = eM (τ 1) 6 (((3 * j)) + i) from congrArg (τ 1) (by omega)) dX11_leftOf_60 ?_
            refine lv_goto (tgt := 65) hC.1 hC.2.1 dX11_leftOf_61 (by decide) ?_
            exact J65_4 _ (by (rw [if_neg c5, if_pos c9]) <;> rfl) _ _ _ hw (lv_sub hl [0, 1, 2, 3, 4, 5] rfl)
  exact L18_0 _ 0 (eM (τ 1) 1 (((3 * h)) + i)) (by simp only [sm]; grind) (Nat.zero_le _) (Nat.lt_succ_self _) _ _ _ hw (lv_sub hl [2, 3, 4, 5, 1, 0] rfl)
set_option maxHeartbeats 4000000 in
set_option maxRecDepth 100000 in
theorem tX11_alikeIn (l : Launch) (E : EV) (a : Nat → Nat) (τ : St) (nh : Nat) (nj : Nat) (j : Nat) (hall : Int32) (hW : mF (τ 1) nh nj) (hj : j < nj) : MI l E (MW E a) yX11_alikeIn (Cond.code yX11_alikeIn cX11_alikeIn 5 (some .int)) ({ frames := 1, cells := 0, slots := 0, locals := 22 }) [.ref (a 70), .int (nI j), .int (hall)] τ (fun r_ u_ => r_ = (m_alk (eM (τ 1)) (pB (eM (τ 1)) (nI j)) nj (eM (τ 1) 5 j) (eM (τ 1) 8 j) hall) ∧ u_ = τ) := by
  refine MI.mk (by decide +kernel) (Nat.le_of_ble_eq_true rfl) ?_
  intro p e s m args below meth c ls A Q hret hC hw hl
  have hC : Cxt E p s m args meth c cX11_alikeIn 5 (some .int) RX11 A := hC
  have hl : lv_has ls 5 [(0, .ref (a 70)), (1, .int (nI j)), (2, .int (hall))] := hl
  have ⟨hnh, hnj, hW0, hW1, hWh⟩ := id hW
  refine lv_iconst (v := nI 0) hC.1 hC.2.1 dX11_alikeIn_0 (by decide) ?_
  refine lv_istore_n (lv' := [(3, .int (nI 0)), (0, .ref (a 70)), (1, .int (nI j)), (2, .int (hall))]) hC.1 hC.2.1 dX11_alikeIn_1 rfl hl (by decide) rfl (fun ls hl => ?_)
  refine lv_iconst (v := nI 0) hC.1 hC.2.1 dX11_alikeIn_2 (by decide) ?_
  refine lv_istore (lv' := [(4, .int (nI 0)), (3, .int (nI 0)), (0, .ref (a 70)), (1, .int (nI j)), (2, .int (hall))]) hC.1 hC.2.1 dX11_alikeIn_3 hl (by decide) rfl (fun ls hl => ?_)
  have L5_0 : ∀ (n : Nat), ∀ (k : Nat), ∀ (v : Int32), (v = (sm (f_alk (eM (τ 1)) (pB (eM (τ 1)) (nI j)) (eM (τ 1) 5 j) (eM (τ 1) 8 j) hall) k)) → (k ≤ nj) → (nj - k) < n → ∀ (H : Heap) (locs : List Loc) (ls : Array Slot), Wst E (MW E a) (τ) A s.heap H locs → lv_has ls 5 [(0, .ref (a 70)), (1, .int (nI j)), (2, .int (hall)), (3, .int (v)), (4, .int (nI k))] → W p l e ({ frames := 1, cells := 0, slots := 0, locals := 22 }) s m args below meth c H locs 0 0 Q (F0 m 5 ls []) := by
    intro n
    induction n with
    | zero => intro k v q_v hk hn; exact absurd hn (Nat.not_lt_zero _)
    | succ n ih5 =>
      intro k v q_v hk hn5 H locs ls hw hl
      subst q_v
      refine lv_iload hC.1 hC.2.1 dX11_alikeIn_5 (lv_at hl 4 rfl) ?_
      refine lv_aload_n hC.1 hC.2.1 dX11_alikeIn_7 rfl (lv_at hl 0 rfl) ?_
      refine gf_X11_7 hC hw dX11_alikeIn_8 ?_
      refine lv_iconst (v := nI 1) hC.1 hC.2.1 dX11_alikeIn_11 (by decide) ?_
      refine al_M1 (v := nI nj) hC hw (by omega) hW.2.2.2.1 dX11_alikeIn_12 ?_
      refine q_cmpge hC 92 (cNle (by omega) (by omega)) dX11_alikeIn_13 (by decide) (fun (c2 : nj ≤ k) => ?_) (fun (c2 : k < nj) => ?_)
      · refine lv_iload_n hC.1 hC.2.1 dX11_alikeIn_92 rfl (lv_at hl 3 rfl) ?_
        refine hret _ _ _ _ _ _ hw ?_ rfl dX11_alikeIn_93
        exact ⟨by rw [show k = nj by omega]; rfl, rfl⟩
      · refine lv_iload_n hC.1 hC.2.1 dX11_alikeIn_16 rfl (lv_at hl 3 rfl) ?_
        refine lv_iload hC.1 hC.2.1 dX11_alikeIn_17 (lv_at hl 4 rfl) ?_
        refine lv_iload_n hC.1 hC.2.1 dX11_alikeIn_19 rfl (lv_at hl 1 rfl) ?_
        have J84_4 : ∀ (w3 : Int32), w3 = (if (k ≠ j) ∧ (((eM (τ 1) 5 k) = (eM (τ 1) 5 j)) ∧ (((eM (τ 1) 8 k) = (eM (τ 1) 8 j)) ∧ (eM (τ 1) 11 k = 1 ∧ eM (τ 1) 2 (eM (τ 1) 12 k).toNatClampNeg = hall))) then (1 : Int32) else 0) → ∀ (H : Heap) (locs : List Loc) (ls : Array Slot), Wst E (MW E a) (τ) A s.heap H locs → lv_has ls 5 [(0, .ref (a 70)), (1, .int (nI j)), (2, .int (hall)), (3, .int (sm (f_alk (eM (τ 1)) (pB (eM (τ 1)) (nI j)) (eM (τ 1) 5 j) (eM (τ 1) 8 j) hall) k)), (4, .int (nI k))] → W p l e ({ frames := 1, cells := 0, slots := 0, locals := 22 }) s m args below meth c H locs 0 0 Q (F0 m 84 ls [.int (w3), .int (sm (f_alk (eM (τ 1)) (pB (eM (τ 1)) (nI j)) (eM (τ 1) 5 j) (eM (τ 1) 8 j) hall) k)]) := by
          intro w3 e4 H locs ls hw hl
          subst e4
          refine lv_iadd hC.1 hC.2.1 dX11_alikeIn_84 ?_
          refine lv_istore_n (lv' := [(3, .int ((sm (f_alk (eM (τ 1)) (pB (eM (τ 1)) (nI j)) (eM (τ 1) 5 j) (eM (τ 1) 8 j) hall) k) + (if (k ≠ j) ∧ (((eM (τ 1) 5 k) = (eM (τ 1) 5 j)) ∧ (((eM (τ 1) 8 k) = (eM (τ 1) 8 j)) ∧ (eM (τ 1) 11 k = 1 ∧ eM (τ 1) 2 (eM (τ 1) 12 k).toNatClampNeg = hall))) then (1 : Int32) else 0))), (0, .ref (a 70)), (1, .int (nI j)), (2, .int (hall)), (4, .int (nI k))]) hC.1 hC.2.1 dX11_alikeIn_85 rfl hl (by decide) rfl (fun ls hl => ?_)
          refine lv_iinc (v := nI (k + 1)) (lv' := [(4, .int (nI (k + 1))), (3, .int ((sm (f_alk (eM (τ 1)) (pB (eM (τ 1)) (nI j)) (eM (τ 1) 5 j) (eM (τ 1) 8 j) hall) k) + (if (k ≠ j) ∧ (((eM (τ 1) 5 k) = (eM (τ 1) 5 j)) ∧ (((eM (τ 1) 8 k) = (eM (τ 1) 8 j)) ∧ (eM (τ 1) 11 k = 1 ∧ eM (τ 1) 2 (eM (τ 1) 12 k).toNatClampNeg = hall))) then (1 : Int32) else 0))), (0, .ref (a 70)), (1, .int (nI j)), (2, .int (hall))]) hC.1 hC.2.1 dX11_alikeIn_86 hl (k := 4) rfl (nI_add _ _) (by decide) rfl (fun ls hl => ?_)
          refine lv_goto (tgt := 5) hC.1 hC.2.1 dX11_alikeIn_89 (by decide) ?_
          exact ih5 (k + 1) ((sm (f_alk (eM (τ 1)) (pB (eM (τ 1)) (nI j)) (eM (τ 1) 5 j) (eM (τ 1) 8 j) hall) k) + (if (k ≠ j) ∧ (((eM (τ 1) 5 k) = (eM (τ 1) 5 j)) ∧ (((eM (τ 1) 8 k) = (eM (τ 1) 8 j)) ∧ (eM (τ 1) 11 k = 1 ∧ eM (τ 1) 2 (eM (τ 1) 12 k).toNatClampNeg = hall))) then (1 : Int32) else 0)) (by simp only [sm, nI_0, nI_1e, f_alk, inH_pB hW (show k < nj by omega) (show j < nj by omega)]; grind) (by omega) (by omega) _ _ _ hw (lv_sub hl [2, 3, 4, 1, 0] rfl)
        refine q_cmpeq hC 83 (cNeq (by omega) (by omega)) dX11_alikeIn_20 (by decide) (fun (c5 : k = j) => ?_) (fun (c5 : k ≠ j) => ?_)
        · refine lv_iconst (v := nI 0) hC.1 hC.2.1 dX11_alikeIn_83 (by decide) ?_
          exact J84_4 _ (if_neg (fun q => (fun q => q c5) q.1)).symm _ _ _ hw (lv_sub hl [0, 1, 2, 3, 4] rfl)
        · refine lv_aload_n hC.1 hC.2.1 dX11_alikeIn_23 rfl (lv_at hl 0 rfl) ?_
          refine gf_X11_7 hC hw dX11_alikeIn_24 ?_
          refine lv_bipush (v := nI 66) hC.1 hC.2.1 dX11_alikeIn_27 (by decide) ?_
          refine lv_iload hC.1 hC.2.1 dX11_alikeIn_29 (lv_at hl 4 rfl) ?_
          refine q_addN hC dX11_alikeIn_31 ?_
          refine al_M1 (v := eM (τ 1) 5 k) hC hw (by omega) (show _ = eM (τ 1) 5 k from congrArg (τ 1) (by omega)) dX11_alikeIn_32 ?_
          refine lv_aload_n hC.1 hC.2.1 dX11_alikeIn_33 rfl (lv_at hl 0 rfl) ?_
          refine gf_X11_7 hC hw dX11_alikeIn_34 ?_
          refine lv_bipush (v := nI 66) hC.1 hC.2.1 dX11_alikeIn_37 (by decide) ?_
          refine lv_iload_n hC.1 hC.2.1 dX11_alikeIn_39 rfl (lv_at hl 1 rfl) ?_
          refine q_addN hC dX11_alikeIn_40 ?_
          refine al_M1 (v := eM (τ 1) 5 j) hC hw (by omega) (show _ = eM (τ 1) 5 j from congrArg (τ 1) (by omega)) dX11_alikeIn_41 ?_
          refine q_cmpne hC 83 cI dX11_alikeIn_42 (by decide) (fun (c6 : ¬ ((eM (τ 1) 5 k) = (eM (τ 1) 5 j))) => ?_) (fun (c6 : (eM (τ 1) 5 k) = (eM (τ 1) 5 j)) => ?_)
          · refine lv_iconst (v := nI 0) hC.1 hC.2.1 dX11_alikeIn_83 (by decide) ?_
            exact J84_4 _ (if_neg (fun q => (fun q => c6 q.1) q.2)).symm _ _ _ hw (lv_sub hl [0, 1, 2, 3, 4] rfl)
          · refine lv_aload_n hC.1 hC.2.1 dX11_alikeIn_45 rfl (lv_at hl 0 rfl) ?_
            refine gf_X11_7 hC hw dX11_alikeIn_46 ?_
            refine lv_sipush (v := nI 186) hC.1 hC.2.1 dX11_alikeIn_49 (by decide) ?_
            refine lv_iload hC.1 hC.2.1 dX11_alikeIn_52 (lv_at hl 4 rfl) ?_
            refine q_addN hC dX11_alikeIn_54 ?_
            refine al_M1 (v := eM (τ 1) 8 k) hC hw (by omega) (show _ = eM (τ 1) 8 k from congrArg (τ 1) (by omega)) dX11_alikeIn_55 ?_
            refine lv_aload_n hC.1 hC.2.1 dX11_alikeIn_56 rfl (lv_at hl 0 rfl) ?_
            refine gf_X11_7 hC hw dX11_alikeIn_57 ?_
            refine lv_sipush (v := nI 186) hC.1 hC.2.1 dX11_alikeIn_60 (by decide) ?_
            refine lv_iload_n hC.1 hC.2.1 dX11_alikeIn_63 rfl (lv_at hl 1 rfl) ?_
            refine q_addN hC dX11_alikeIn_64 ?_
            refine al_M1 (v := eM (τ 1) 8 j) hC hw (by omega) (show _ = eM (τ 1) 8 j from congrArg (τ 1) (by omega)) dX11_alikeIn_65 ?_
            refine q_cmpne hC 83 cI dX11_alikeIn_66 (by decide) (fun (c7 : ¬ ((eM (τ 1) 8 k) = (eM (τ 1) 8 j))) => ?_) (fun (c7 : (eM (τ 1) 8 k) = (eM (τ 1) 8 j)) => ?_)
            · refine lv_iconst (v := nI 0) hC.1 hC.2.1 dX11_alikeIn_83 (by decide) ?_
              exact J84_4 _ (if_neg (fun q => (fun q => (fun q => c7 q.1) q.2) q.2)).symm _ _ _ hw (lv_sub hl [0, 1, 2, 3, 4] rfl)
            · refine lv_aload_n hC.1 hC.2.1 dX11_alikeIn_69 rfl (lv_at hl 0 rfl) ?_
              refine lv_iload hC.1 hC.2.1 dX11_alikeIn_70 (lv_at hl 4 rfl) ?_
              refine lv_iload_n hC.1 hC.2.1 dX11_alikeIn_72 rfl (lv_at hl 2 rfl) ?_
              refine q_callVp (As := [.int (nI k), .int (hall)]) (rest := [.int (sm (f_alk (eM (τ 1)) (pB (eM (τ 1)) (nI j)) (eM (τ 1) 5 j) (eM (τ 1) 8 j) hall) k)]) (q0 := 0) hC hw hl (tX11_standsIn l E a τ nh nj k hall (by first | assumption | omega) (by first | assumption | omega)) (q_cwV hC.2.2.2.2.1 ⟨rfl, rfl⟩ wk4_222 wk4_224 wks_2_14 wk1_12 wk4_225 hd_X11_standsIn ⟨Nat.le_of_ble_eq_true rfl, Nat.le_of_ble_eq_true rfl⟩) rfl rfl rfl rfl rfl (Nat.le_of_ble_eq_true rfl) dX11_alikeIn_73 (fun H locs hw => ?_)
              refine q_ifeq hC 83 cB dX11_alikeIn_76 (by decide) (fun (c11 : ¬ (eM (τ 1) 11 k = 1 ∧ eM (τ 1) 2 (eM (τ 1) 12 k).toNatClampNeg = hall)) => ?_) (fun (c11 : eM (τ 1) 11 k = 1 ∧ eM (τ 1) 2 (eM (τ 1) 12 k).toNatClampNeg = hall) => ?_)
              · refine lv_iconst (v := nI 0) hC.1 hC.2.1 dX11_alikeIn_83 (by decide) ?_
                exact J84_4 _ (if_neg (fun q => (fun q => (fun q => c11 q.2) q.2) q.2)).symm _ _ _ hw (lv_sub hl [0, 1, 2, 3, 4] rfl)
              · refine lv_iconst (v := nI 1) hC.1 hC.2.1 dX11_alikeIn_79 (by decide) ?_
                refine lv_goto (tgt := 84) hC.1 hC.2.1 dX11_alikeIn_80 (by decide) ?_
                exact J84_4 _ (if_pos ⟨c5, ⟨c6, ⟨c7, c11⟩⟩⟩).symm _ _ _ hw (lv_sub hl [0, 1, 2, 3, 4] rfl)
  exact L5_0 _ 0 (nI 0) rfl (Nat.zero_le _) (Nat.lt_succ_self _) _ _ _ hw (lv_sub hl [2, 3, 4, 1, 0] rfl)
set_option maxHeartbeats 4000000 in
set_option maxRecDepth 100000 in
theorem tX11_groupOn (l : Launch) (E : EV) (a : Nat → Nat) (τ : St) (nh : Nat) (nj : Nat) (group : Int32) (h : Nat) (but : Int32) (hW : mF (τ 1) nh nj) (hh : h < 10) : MI l E (MW E a) yX11_groupOn (Cond.code yX11_groupOn cX11_groupOn 6 (some .int)) ({ frames := 1, cells := 0, slots := 0, locals := 22 }) [.ref (a 70), .int (group), .int (nI h), .int (but)] τ (fun r_ u_ => r_ = (m_gon (eM (τ 1)) (pB (eM (τ 1)) but) nj group h) ∧ u_ = τ) := by
  refine MI.mk (by decide +kernel) (Nat.le_of_ble_eq_true rfl) ?_
  intro p e s m args below meth c ls A Q hret hC hw hl
  have hC : Cxt E p s m args meth c cX11_groupOn 6 (some .int) RX11 A := hC
  have hl : lv_has ls 6 [(0, .ref (a 70)), (1, .int (group)), (2, .int (nI h)), (3, .int (but))] := hl
  have ⟨hnh, hnj, hW0, hW1, hWh⟩ := id hW
  refine lv_iconst (v := nI 0) hC.1 hC.2.1 dX11_groupOn_0 (by decide) ?_
  refine lv_istore (lv' := [(4, .int (nI 0)), (0, .ref (a 70)), (1, .int (group)), (2, .int (nI h)), (3, .int (but))]) hC.1 hC.2.1 dX11_groupOn_1 hl (by decide) rfl (fun ls hl => ?_)
  refine lv_iconst (v := nI 0) hC.1 hC.2.1 dX11_groupOn_3 (by decide) ?_
  refine lv_istore (lv' := [(5, .int (nI 0)), (4, .int (nI 0)), (0, .ref (a 70)), (1, .int (group)), (2, .int (nI h)), (3, .int (but))]) hC.1 hC.2.1 dX11_groupOn_4 hl (by decide) rfl (fun ls hl => ?_)
  have L6_0 : ∀ (n : Nat), ∀ (k : Nat), ∀ (v : Int32), (v = (sm (f_gon (eM (τ 1)) (pB (eM (τ 1)) but) group h) k)) → (k ≤ nj) → (nj - k) < n → ∀ (H : Heap) (locs : List Loc) (ls : Array Slot), Wst E (MW E a) (τ) A s.heap H locs → lv_has ls 6 [(0, .ref (a 70)), (1, .int (group)), (2, .int (nI h)), (3, .int (but)), (4, .int (v)), (5, .int (nI k))] → W p l e ({ frames := 1, cells := 0, slots := 0, locals := 22 }) s m args below meth c H locs 0 0 Q (F0 m 6 ls []) := by
    intro n
    induction n with
    | zero => intro k v q_v hk hn; exact absurd hn (Nat.not_lt_zero _)
    | succ n ih6 =>
      intro k v q_v hk hn6 H locs ls hw hl
      subst q_v
      refine lv_iload hC.1 hC.2.1 dX11_groupOn_6 (lv_at hl 5 rfl) ?_
      refine lv_aload_n hC.1 hC.2.1 dX11_groupOn_8 rfl (lv_at hl 0 rfl) ?_
      refine gf_X11_7 hC hw dX11_groupOn_9 ?_
      refine lv_iconst (v := nI 1) hC.1 hC.2.1 dX11_groupOn_12 (by decide) ?_
      refine al_M1 (v := nI nj) hC hw (by omega) hW.2.2.2.1 dX11_groupOn_13 ?_
      refine q_cmpge hC 64 (cNle (by omega) (by omega)) dX11_groupOn_14 (by decide) (fun (c2 : nj ≤ k) => ?_) (fun (c2 : k < nj) => ?_)
      · refine lv_iload hC.1 hC.2.1 dX11_groupOn_64 (lv_at hl 4 rfl) ?_
        refine hret _ _ _ _ _ _ hw ?_ rfl dX11_groupOn_66
        exact ⟨by rw [show k = nj by omega]; rfl, rfl⟩
      · refine lv_iload hC.1 hC.2.1 dX11_groupOn_17 (lv_at hl 4 rfl) ?_
        refine lv_iload hC.1 hC.2.1 dX11_groupOn_19 (lv_at hl 5 rfl) ?_
        refine lv_iload_n hC.1 hC.2.1 dX11_groupOn_21 rfl (lv_at hl 3 rfl) ?_
        have J55_4 : ∀ (w3 : Int32), w3 = (if (¬ (nI k = but)) ∧ (((eM (τ 1) 8 k) = group) ∧ (eM (τ 1) 11 k = 1 ∧ eM (τ 1) 12 k = nI h)) then (1 : Int32) else 0) → ∀ (H : Heap) (locs : List Loc) (ls : Array Slot), Wst E (MW E a) (τ) A s.heap H locs → lv_has ls 6 [(0, .ref (a 70)), (1, .int (group)), (2, .int (nI h)), (3, .int (but)), (4, .int (sm (f_gon (eM (τ 1)) (pB (eM (τ 1)) but) group h) k)), (5, .int (nI k))] → W p l e ({ frames := 1, cells := 0, slots := 0, locals := 22 }) s m args below meth c H locs 0 0 Q (F0 m 55 ls [.int (w3), .int (sm (f_gon (eM (τ 1)) (pB (eM (τ 1)) but) group h) k)]) := by
          intro w3 e4 H locs ls hw hl
          subst e4
          refine lv_iadd hC.1 hC.2.1 dX11_groupOn_55 ?_
          refine lv_istore (lv' := [(4, .int ((sm (f_gon (eM (τ 1)) (pB (eM (τ 1)) but) group h) k) + (if (¬ (nI k = but)) ∧ (((eM (τ 1) 8 k) = group) ∧ (eM (τ 1) 11 k = 1 ∧ eM (τ 1) 12 k = nI h)) then (1 : Int32) else 0))), (0, .ref (a 70)), (1, .int (group)), (2, .int (nI h)), (3, .int (but)), (5, .int (nI k))]) hC.1 hC.2.1 dX11_groupOn_56 hl (by decide) rfl (fun ls hl => ?_)
          refine lv_iinc (v := nI (k + 1)) (lv' := [(5, .int (nI (k + 1))), (4, .int ((sm (f_gon (eM (τ 1)) (pB (eM (τ 1)) but) group h) k) + (if (¬ (nI k = but)) ∧ (((eM (τ 1) 8 k) = group) ∧ (eM (τ 1) 11 k = 1 ∧ eM (τ 1) 12 k = nI h)) then (1 : Int32) else 0))), (0, .ref (a 70)), (1, .int (group)), (2, .int (nI h)), (3, .int (but))]) hC.1 hC.2.1 dX11_groupOn_58 hl (k := 5) rfl (nI_add _ _) (by decide) rfl (fun ls hl => ?_)
          refine lv_goto (tgt := 6) hC.1 hC.2.1 dX11_groupOn_61 (by decide) ?_
          exact ih6 (k + 1) ((sm (f_gon (eM (τ 1)) (pB (eM (τ 1)) but) group h) k) + (if (¬ (nI k = but)) ∧ (((eM (τ 1) 8 k) = group) ∧ (eM (τ 1) 11 k = 1 ∧ eM (τ 1) 12 k = nI h)) then (1 : Int32) else 0)) (by simp only [sm, nI_0, nI_1e, f_gon, pB_ne hh]; grind) (by omega) (by omega) _ _ _ hw (lv_sub hl [2, 3, 4, 5, 1, 0] rfl)
        refine q_cmpeq hC 54 cI dX11_groupOn_22 (by decide) (fun (c5 : nI k = but) => ?_) (fun (c5 : ¬ (nI k = but)) => ?_)
        · refine lv_iconst (v := nI 0) hC.1 hC.2.1 dX11_groupOn_54 (by decide) ?_
          exact J55_4 _ (if_neg (fun q => (fun q => q c5) q.1)).symm _ _ _ hw (lv_sub hl [0, 1, 2, 3, 4, 5] rfl)
        · refine lv_aload_n hC.1 hC.2.1 dX11_groupOn_25 rfl (lv_at hl 0 rfl) ?_
          refine gf_X11_7 hC hw dX11_groupOn_26 ?_
          refine lv_sipush (v := nI 186) hC.1 hC.2.1 dX11_groupOn_29 (by decide) ?_
          refine lv_iload hC.1 hC.2.1 dX11_groupOn_32 (lv_at hl 5 rfl) ?_
          refine q_addN hC dX11_groupOn_34 ?_
          refine al_M1 (v := eM (τ 1) 8 k) hC hw (by omega) (show _ = eM (τ 1) 8 k from congrArg (τ 1) (by omega)) dX11_groupOn_35 ?_
          refine lv_iload_n hC.1 hC.2.1 dX11_groupOn_36 rfl (lv_at hl 1 rfl) ?_
          refine q_cmpne hC 54 cI dX11_groupOn_37 (by decide) (fun (c6 : ¬ ((eM (τ 1) 8 k) = group)) => ?_) (fun (c6 : (eM (τ 1) 8 k) = group) => ?_)
          · refine lv_iconst (v := nI 0) hC.1 hC.2.1 dX11_groupOn_54 (by decide) ?_
            exact J55_4 _ (if_neg (fun q => (fun q => c6 q.1) q.2)).symm _ _ _ hw (lv_sub hl [0, 1, 2, 3, 4, 5] rfl)
          · refine lv_aload_n hC.1 hC.2.1 dX11_groupOn_40 rfl (lv_at hl 0 rfl) ?_
            refine lv_iload hC.1 hC.2.1 dX11_groupOn_41 (lv_at hl 5 rfl) ?_
            refine lv_iload_n hC.1 hC.2.1 dX11_groupOn_43 rfl (lv_at hl 2 rfl) ?_
            refine q_callVp (As := [.int (nI k), .int (nI h)]) (rest := [.int (sm (f_gon (eM (τ 1)) (pB (eM (τ 1)) but) group h) k)]) (q0 := 0) hC hw hl (tX11_standsOn l E a τ nh nj k h (by first | assumption | omega) (by first | assumption | omega) (by first | assumption | omega)) (q_cwV hC.2.2.2.2.1 ⟨rfl, rfl⟩ wk4_210 wk4_212 wks_2_11 wk1_12 wk4_213 hd_X11_standsOn ⟨Nat.le_of_ble_eq_true rfl, Nat.le_of_ble_eq_true rfl⟩) rfl rfl rfl rfl rfl (Nat.le_of_ble_eq_true rfl) dX11_groupOn_44 (fun H locs hw => ?_)
            refine q_ifeq hC 54 cB dX11_groupOn_47 (by decide) (fun (c10 : ¬ (eM (τ 1) 11 k = 1 ∧ eM (τ 1) 12 k = nI h)) => ?_) (fun (c10 : eM (τ 1) 11 k = 1 ∧ eM (τ 1) 12 k = nI h) => ?_)
            · refine lv_iconst (v := nI 0) hC.1 hC.2.1 dX11_groupOn_54 (by decide) ?_
              exact J55_4 _ (if_neg (fun q => (fun q => c10 q.2) q.2)).symm _ _ _ hw (lv_sub hl [0, 1, 2, 3, 4, 5] rfl)
            · refine lv_iconst (v := nI 1) hC.1 hC.2.1 dX11_groupOn_50 (by decide) ?_
              refine lv_goto (tgt := 55) hC.1 hC.2.1 dX11_groupOn_51 (by decide) ?_
              exact J55_4 _ (if_pos ⟨c5, ⟨c6, c10⟩⟩).symm _ _ _ hw (lv_sub hl [0, 1, 2, 3, 4, 5] rfl)
  exact L6_0 _ 0 (nI 0) rfl (Nat.zero_le _) (Nat.lt_succ_self _) _ _ _ hw (lv_sub hl [2, 3, 4, 5, 1, 0] rfl)
set_option maxHeartbeats 4000000 in
set_option maxRecDepth 100000 in
theorem tX11_groupIn (l : Launch) (E : EV) (a : Nat → Nat) (τ : St) (nh : Nat) (nj : Nat) (group : Int32) (hall : Int32) (but : Int32) (hW : mF (τ 1) nh nj) : MI l E (MW E a) yX11_groupIn (Cond.code yX11_groupIn cX11_groupIn 6 (some .int)) ({ frames := 1, cells := 0, slots := 0, locals := 22 }) [.ref (a 70), .int (group), .int (hall), .int (but)] τ (fun r_ u_ => r_ = (m_gin (eM (τ 1)) (pB (eM (τ 1)) but) nj group hall) ∧ u_ = τ) := by
  refine MI.mk (by decide +kernel) (Nat.le_of_ble_eq_true rfl) ?_
  intro p e s m args below meth c ls A Q hret hC hw hl
  have hC : Cxt E p s m args meth c cX11_groupIn 6 (some .int) RX11 A := hC
  have hl : lv_has ls 6 [(0, .ref (a 70)), (1, .int (group)), (2, .int (hall)), (3, .int (but))] := hl
  have ⟨hnh, hnj, hW0, hW1, hWh⟩ := id hW
  refine lv_iconst (v := nI 0) hC.1 hC.2.1 dX11_groupIn_0 (by decide) ?_
  refine lv_istore (lv' := [(4, .int (nI 0)), (0, .ref (a 70)), (1, .int (group)), (2, .int (hall)), (3, .int (but))]) hC.1 hC.2.1 dX11_groupIn_1 hl (by decide) rfl (fun ls hl => ?_)
  refine lv_iconst (v := nI 0) hC.1 hC.2.1 dX11_groupIn_3 (by decide) ?_
  refine lv_istore (lv' := [(5, .int (nI 0)), (4, .int (nI 0)), (0, .ref (a 70)), (1, .int (group)), (2, .int (hall)), (3, .int (but))]) hC.1 hC.2.1 dX11_groupIn_4 hl (by decide) rfl (fun ls hl => ?_)
  have L6_0 : ∀ (n : Nat), ∀ (k : Nat), ∀ (v : Int32), (v = (sm (f_gin (eM (τ 1)) (pB (eM (τ 1)) but) group hall) k)) → (k ≤ nj) → (nj - k) < n → ∀ (H : Heap) (locs : List Loc) (ls : Array Slot), Wst E (MW E a) (τ) A s.heap H locs → lv_has ls 6 [(0, .ref (a 70)), (1, .int (group)), (2, .int (hall)), (3, .int (but)), (4, .int (v)), (5, .int (nI k))] → W p l e ({ frames := 1, cells := 0, slots := 0, locals := 22 }) s m args below meth c H locs 0 0 Q (F0 m 6 ls []) := by
    intro n
    induction n with
    | zero => intro k v q_v hk hn; exact absurd hn (Nat.not_lt_zero _)
    | succ n ih6 =>
      intro k v q_v hk hn6 H locs ls hw hl
      subst q_v
      refine lv_iload hC.1 hC.2.1 dX11_groupIn_6 (lv_at hl 5 rfl) ?_
      refine lv_aload_n hC.1 hC.2.1 dX11_groupIn_8 rfl (lv_at hl 0 rfl) ?_
      refine gf_X11_7 hC hw dX11_groupIn_9 ?_
      refine lv_iconst (v := nI 1) hC.1 hC.2.1 dX11_groupIn_12 (by decide) ?_
      refine al_M1 (v := nI nj) hC hw (by omega) hW.2.2.2.1 dX11_groupIn_13 ?_
      refine q_cmpge hC 64 (cNle (by omega) (by omega)) dX11_groupIn_14 (by decide) (fun (c2 : nj ≤ k) => ?_) (fun (c2 : k < nj) => ?_)
      · refine lv_iload hC.1 hC.2.1 dX11_groupIn_64 (lv_at hl 4 rfl) ?_
        refine hret _ _ _ _ _ _ hw ?_ rfl dX11_groupIn_66
        exact ⟨by rw [show k = nj by omega]; rfl, rfl⟩
      · refine lv_iload hC.1 hC.2.1 dX11_groupIn_17 (lv_at hl 4 rfl) ?_
        refine lv_iload hC.1 hC.2.1 dX11_groupIn_19 (lv_at hl 5 rfl) ?_
        refine lv_iload_n hC.1 hC.2.1 dX11_groupIn_21 rfl (lv_at hl 3 rfl) ?_
        have J55_4 : ∀ (w3 : Int32), w3 = (if (¬ (nI k = but)) ∧ (((eM (τ 1) 8 k) = group) ∧ (eM (τ 1) 11 k = 1 ∧ eM (τ 1) 2 (eM (τ 1) 12 k).toNatClampNeg = hall)) then (1 : Int32) else 0) → ∀ (H : Heap) (locs : List Loc) (ls : Array Slot), Wst E (MW E a) (τ) A s.heap H locs → lv_has ls 6 [(0, .ref (a 70)), (1, .int (group)), (2, .int (hall)), (3, .int (but)), (4, .int (sm (f_gin (eM (τ 1)) (pB (eM (τ 1)) but) group hall) k)), (5, .int (nI k))] → W p l e ({ frames := 1, cells := 0, slots := 0, locals := 22 }) s m args below meth c H locs 0 0 Q (F0 m 55 ls [.int (w3), .int (sm (f_gin (eM (τ 1)) (pB (eM (τ 1)) but) group hall) k)]) := by
          intro w3 e4 H locs ls hw hl
          subst e4
          refine lv_iadd hC.1 hC.2.1 dX11_groupIn_55 ?_
          refine lv_istore (lv' := [(4, .int ((sm (f_gin (eM (τ 1)) (pB (eM (τ 1)) but) group hall) k) + (if (¬ (nI k = but)) ∧ (((eM (τ 1) 8 k) = group) ∧ (eM (τ 1) 11 k = 1 ∧ eM (τ 1) 2 (eM (τ 1) 12 k).toNatClampNeg = hall)) then (1 : Int32) else 0))), (0, .ref (a 70)), (1, .int (group)), (2, .int (hall)), (3, .int (but)), (5, .int (nI k))]) hC.1 hC.2.1 dX11_groupIn_56 hl (by decide) rfl (fun ls hl => ?_)
          refine lv_iinc (v := nI (k + 1)) (lv' := [(5, .int (nI (k + 1))), (4, .int ((sm (f_gin (eM (τ 1)) (pB (eM (τ 1)) but) group hall) k) + (if (¬ (nI k = but)) ∧ (((eM (τ 1) 8 k) = group) ∧ (eM (τ 1) 11 k = 1 ∧ eM (τ 1) 2 (eM (τ 1) 12 k).toNatClampNeg = hall)) then (1 : Int32) else 0))), (0, .ref (a 70)), (1, .int (group)), (2, .int (hall)), (3, .int (but))]) hC.1 hC.2.1 dX11_groupIn_58 hl (k := 5) rfl (nI_add _ _) (by decide) rfl (fun ls hl => ?_)
          refine lv_goto (tgt := 6) hC.1 hC.2.1 dX11_groupIn_61 (by decide) ?_
          exact ih6 (k + 1) ((sm (f_gin (eM (τ 1)) (pB (eM (τ 1)) but) group hall) k) + (if (¬ (nI k = but)) ∧ (((eM (τ 1) 8 k) = group) ∧ (eM (τ 1) 11 k = 1 ∧ eM (τ 1) 2 (eM (τ 1) 12 k).toNatClampNeg = hall)) then (1 : Int32) else 0)) (by simp only [sm, nI_0, nI_1e, f_gin, inH_pB2 hW (show k < nj by omega)]; grind) (by omega) (by omega) _ _ _ hw (lv_sub hl [2, 3, 4, 5, 1, 0] rfl)
        refine q_cmpeq hC 54 cI dX11_groupIn_22 (by decide) (fun (c5 : nI k = but) => ?_) (fun (c5 : ¬ (nI k = but)) => ?_)
        · refine lv_iconst (v := nI 0) hC.1 hC.2.1 dX11_groupIn_54 (by decide) ?_
          exact J55_4 _ (if_neg (fun q => (fun q => q c5) q.1)).symm _ _ _ hw (lv_sub hl [0, 1, 2, 3, 4, 5] rfl)
        · refine lv_aload_n hC.1 hC.2.1 dX11_groupIn_25 rfl (lv_at hl 0 rfl) ?_
          refine gf_X11_7 hC hw dX11_groupIn_26 ?_
          refine lv_sipush (v := nI 186) hC.1 hC.2.1 dX11_groupIn_29 (by decide) ?_
          refine lv_iload hC.1 hC.2.1 dX11_groupIn_32 (lv_at hl 5 rfl) ?_
          refine q_addN hC dX11_groupIn_34 ?_
          refine al_M1 (v := eM (τ 1) 8 k) hC hw (by omega) (show _ = eM (τ 1) 8 k from congrArg (τ 1) (by omega)) dX11_groupIn_35 ?_
          refine lv_iload_n hC.1 hC.2.1 dX11_groupIn_36 rfl (lv_at hl 1 rfl) ?_
          refine q_cmpne hC 54 cI dX11_groupIn_37 (by decide) (fun (c6 : ¬ ((eM (τ 1) 8 k) = group)) => ?_) (fun (c6 : (eM (τ 1) 8 k) = group) => ?_)
          · refine lv_iconst (v := nI 0) hC.1 hC.2.1 dX11_groupIn_54 (by decide) ?_
            exact J55_4 _ (if_neg (fun q => (fun q => c6 q.1) q.2)).symm _ _ _ hw (lv_sub hl [0, 1, 2, 3, 4, 5] rfl)
          · refine lv_aload_n hC.1 hC.2.1 dX11_groupIn_40 rfl (lv_at hl 0 rfl) ?_
            refine lv_iload hC.1 hC.2.1 dX11_groupIn_41 (lv_at hl 5 rfl) ?_
            refine lv_iload_n hC.1 hC.2.1 dX11_groupIn_43 rfl (lv_at hl 2 rfl) ?_
            refine q_callVp (As := [.int (nI k), .int (hall)]) (rest := [.int (sm (f_gin (eM (τ 1)) (pB (eM (τ 1)) but) group hall) k)]) (q0 := 0) hC hw hl (tX11_standsIn l E a τ nh nj k hall (by first | assumption | omega) (by first | assumption | omega)) (q_cwV hC.2.2.2.2.1 ⟨rfl, rfl⟩ wk4_222 wk4_224 wks_2_14 wk1_12 wk4_225 hd_X11_standsIn ⟨Nat.le_of_ble_eq_true rfl, Nat.le_of_ble_eq_true rfl⟩) rfl rfl rfl rfl rfl (Nat.le_of_ble_eq_true rfl) dX11_groupIn_44 (fun H locs hw => ?_)
            refine q_ifeq hC 54 cB dX11_groupIn_47 (by decide) (fun (c10 : ¬ (eM (τ 1) 11 k = 1 ∧ eM (τ 1) 2 (eM (τ 1) 12 k).toNatClampNeg = hall)) => ?_) (fun (c10 : eM (τ 1) 11 k = 1 ∧ eM (τ 1) 2 (eM (τ 1) 12 k).toNatClampNeg = hall) => ?_)
            · refine lv_iconst (v := nI 0) hC.1 hC.2.1 dX11_groupIn_54 (by decide) ?_
              exact J55_4 _ (if_neg (fun q => (fun q => c10 q.2) q.2)).symm _ _ _ hw (lv_sub hl [0, 1, 2, 3, 4, 5] rfl)
            · refine lv_iconst (v := nI 1) hC.1 hC.2.1 dX11_groupIn_50 (by decide) ?_
              refine lv_goto (tgt := 55) hC.1 hC.2.1 dX11_groupIn_51 (by decide) ?_
              exact J55_4 _ (if_pos ⟨c5, ⟨c6, c10⟩⟩).symm _ _ _ hw (lv_sub hl [0, 1, 2, 3, 4, 5] rfl)
  exact L6_0 _ 0 (nI 0) rfl (Nat.zero_le _) (Nat.lt_succ_self _) _ _ _ hw (lv_sub hl [2, 3, 4, 5, 1, 0] rfl)
set_option maxHeartbeats 4000000 in
set_option maxRecDepth 100000 in
theorem tX11_isCrowded (l : Launch) (E : EV) (a : Nat → Nat) (τ : St) (nh : Nat) (nj : Nat) (j : Nat) (h : Nat) (hW : mF (τ 1) nh nj) (hj : j < nj) (hh : h < nh) : MI l E (MW E a) yX11_isCrowded (Cond.code yX11_isCrowded cX11_isCrowded 6 (some .boolean)) ({ frames := 2, cells := 0, slots := 0, locals := 46 }) [.ref (a 70), .int (nI j), .int (nI h)] τ (fun r_ u_ => r_ = (if m_crd (eM (τ 1)) (pB (eM (τ 1)) (nI j)) nh nj j h = true then (1 : Int32) else 0) ∧ u_ = τ) := by
  refine MI.mk (by decide +kernel) (Nat.le_of_ble_eq_true rfl) ?_
  intro p e s m args below meth c ls A Q hret hC hw hl
  have hC : Cxt E p s m args meth c cX11_isCrowded 6 (some .boolean) RX11 A := hC
  have hl : lv_has ls 6 [(0, .ref (a 70)), (1, .int (nI j)), (2, .int (nI h))] := hl
  have ⟨hnh, hnj, hW0, hW1, hWh⟩ := id hW
  refine lv_iconst (v := nI 0) hC.1 hC.2.1 dX11_isCrowded_0 (by decide) ?_
  refine lv_istore_n (lv' := [(3, .int (nI 0)), (0, .ref (a 70)), (1, .int (nI j)), (2, .int (nI h))]) hC.1 hC.2.1 dX11_isCrowded_1 rfl hl (by decide) rfl (fun ls hl => ?_)
  refine lv_aload_n hC.1 hC.2.1 dX11_isCrowded_2 rfl (lv_at hl 1 rfl) ?_
  refine lv_iload_n hC.1 hC.2.1 dX11_isCrowded_3 rfl (lv_at hl 2 rfl) ?_
  refine lv_aload_n hC.1 hC.2.1 dX11_isCrowded_4 rfl (lv_at hl 1 rfl) ?_
  refine gf_X11_7 hC hw dX11_isCrowded_5 ?_
  refine lv_bipush (v := nI 36) hC.1 hC.2.1 dX11_isCrowded_8 (by decide) ?_
  refine lv_iload_n hC.1 hC.2.1 dX11_isCrowded_10 rfl (lv_at hl 3 rfl) ?_
  refine q_addN hC dX11_isCrowded_11 ?_
  refine al_M1 (v := eM (τ 1) 2 h) hC hw (by omega) (show _ = eM (τ 1) 2 h from congrArg (τ 1) (by omega)) dX11_isCrowded_12 ?_
  refine q_callVp (As := [.int (nI j), .int (eM (τ 1) 2 h)]) (rest := []) (q0 := 0) hC hw hl (tX11_alikeIn l E a τ nh nj j (eM (τ 1) 2 h) (by first | assumption | omega) (by first | assumption | omega)) (q_cwV hC.2.2.2.2.1 ⟨rfl, rfl⟩ wk4_218 wk4_220 wks_2_13 wk1_12 wk4_221 hd_X11_alikeIn ⟨Nat.le_of_ble_eq_true rfl, Nat.le_of_ble_eq_true rfl⟩) rfl rfl rfl rfl rfl (Nat.le_of_ble_eq_true rfl) dX11_isCrowded_13 (fun H locs hw => ?_)
  refine lv_istore (lv' := [(4, .int (m_alk (eM (τ 1)) (pB (eM (τ 1)) (nI j)) nj (eM (τ 1) 5 j) (eM (τ 1) 8 j) (eM (τ 1) 2 h))), (3, .int (nI 0)), (0, .ref (a 70)), (1, .int (nI j)), (2, .int (nI h))]) hC.1 hC.2.1 dX11_isCrowded_16 hl (by decide) rfl (fun ls hl => ?_)
  refine lv_iconst (v := nI 0) hC.1 hC.2.1 dX11_isCrowded_18 (by decide) ?_
  refine lv_istore (lv' := [(5, .int (nI 0)), (4, .int (m_alk (eM (τ 1)) (pB (eM (τ 1)) (nI j)) nj (eM (τ 1) 5 j) (eM (τ 1) 8 j) (eM (τ 1) 2 h))), (3, .int (nI 0)), (0, .ref (a 70)), (1, .int (nI j)), (2, .int (nI h))]) hC.1 hC.2.1 dX11_isCrowded_19 hl (by decide) rfl (fun ls hl => ?_)
  have L21_3 : ∀ (n : Nat), ∀ (x : Nat), ∀ (b : Int32), (b = (if anyB (f_crd (eM (τ 1)) (pB (eM (τ 1)) (nI j)) nj (eM (τ 1) 5 j) (eM (τ 1) 8 j) (eM (τ 1) 2 h)) x = true then (1 : Int32) else 0)) → (x ≤ nh) → (nh - x) < n → ∀ (H : Heap) (locs : List Loc) (ls : Array Slot), Wst E (MW E a) (τ) A s.heap H locs → lv_has ls 6 [(0, .ref (a 70)), (1, .int (nI j)), (2, .int (nI h)), (3, .int (b)), (4, .int (m_alk (eM (τ 1)) (pB (eM (τ 1)) (nI j)) nj (eM (τ 1) 5 j) (eM (τ 1) 8 j) (eM (τ 1) 2 h))), (5, .int (nI x))] → W p l e ({ frames := 2, cells := 0, slots := 0, locals := 46 }) s m args below meth c H locs 0 0 Q (F0 m 21 ls []) := by
    intro n
    induction n with
    | zero => intro x b q_b hx hn; exact absurd hn (Nat.not_lt_zero _)
    | succ n ih21 =>
      intro x b q_b hx hn21 H locs ls hw hl
      subst q_b
      refine lv_iload hC.1 hC.2.1 dX11_isCrowded_21 (lv_at hl 5 rfl) ?_
      refine lv_aload_n hC.1 hC.2.1 dX11_isCrowded_23 rfl (lv_at hl 0 rfl) ?_
      refine gf_X11_7 hC hw dX11_isCrowded_24 ?_
      refine lv_iconst (v := nI 0) hC.1 hC.2.1 dX11_isCrowded_27 (by decide) ?_
      refine al_M1 (v := nI nh) hC hw (by omega) hW.2.2.1 dX11_isCrowded_28 ?_
      refine q_cmpge hC 82 (cNle (by omega) (by omega)) dX11_isCrowded_29 (by decide) (fun (c5 : nh ≤ x) => ?_) (fun (c5 : x < nh) => ?_)
      · refine lv_iload_n hC.1 hC.2.1 dX11_isCrowded_82 rfl (lv_at hl 3 rfl) ?_
        refine hret _ _ _ _ _ _ hw ?_ nz_B dX11_isCrowded_83
        exact ⟨by rw [show x = nh by omega]; rfl, rfl⟩
      · refine lv_iload_n hC.1 hC.2.1 dX11_isCrowded_32 rfl (lv_at hl 3 rfl) ?_
        have J75_7 : ∀ (w6 : Int32), w6 = (if (anyB (f_crd (eM (τ 1)) (pB (eM (τ 1)) (nI j)) nj (eM (τ 1) 5 j) (eM (τ 1) 8 j) (eM (τ 1) 2 h)) x = true) ∨ (((eM (τ 1) 4 x) = 1) ∧ (¬ ((m_alk (eM (τ 1)) (pB (eM (τ 1)) (nI j)) nj (eM (τ 1) 5 j) (eM (τ 1) 8 j) (eM (τ 1) 2 h)) ≤ (m_alk (eM (τ 1)) (pB (eM (τ 1)) (nI j)) nj (eM (τ 1) 5 j) (eM (τ 1) 8 j) (eM (τ 1) 2 x))))) then (1 : Int32) else 0) → ∀ (H : Heap) (locs : List Loc) (ls : Array Slot), Wst E (MW E a) (τ) A s.heap H locs → lv_has ls 6 [(0, .ref (a 70)), (1, .int (nI j)), (2, .int (nI h)), (3, .int (if anyB (f_crd (eM (τ 1)) (pB (eM (τ 1)) (nI j)) nj (eM (τ 1) 5 j) (eM (τ 1) 8 j) (eM (τ 1) 2 h)) x = true then (1 : Int32) else 0)), (4, .int (m_alk (eM (τ 1)) (pB (eM (τ 1)) (nI j)) nj (eM (τ 1) 5 j) (eM (τ 1) 8 j) (eM (τ 1) 2 h))), (5, .int (nI x))] → W p l e ({ frames := 2, cells := 0, slots := 0, locals := 46 }) s m args below meth c H locs 0 0 Q (F0 m 75 ls [.int (w6)]) := by
          intro w6 e7 H locs ls hw hl
          subst e7
          refine lv_istore_n (lv' := [(3, .int (if (anyB (f_crd (eM (τ 1)) (pB (eM (τ 1)) (nI j)) nj (eM (τ 1) 5 j) (eM (τ 1) 8 j) (eM (τ 1) 2 h)) x = true) ∨ (((eM (τ 1) 4 x) = 1) ∧ (¬ ((m_alk (eM (τ 1)) (pB (eM (τ 1)) (nI j)) nj (eM (τ 1) 5 j) (eM (τ 1) 8 j) (eM (τ 1) 2 h)) ≤ (m_alk (eM (τ 1)) (pB (eM (τ 1)) (nI j)) nj (eM (τ 1) 5 j) (eM (τ 1) 8 j) (eM (τ 1) 2 x))))) then (1 : Int32) else 0)), (0, .ref (a 70)), (1, .int (nI j)), (2, .int (nI h)), (4, .int (m_alk (eM (τ 1)) (pB (eM (τ 1)) (nI j)) nj (eM (τ 1) 5 j) (eM (τ 1) 8 j) (eM (τ 1) 2 h))), (5, .int (nI x))]) hC.1 hC.2.1 dX11_isCrowded_75 rfl hl (by decide) rfl (fun ls hl => ?_)
          refine lv_iinc (v := nI (x + 1)) (lv' := [(5, .int (nI (x + 1))), (3, .int (if (anyB (f_crd (eM (τ 1)) (pB (eM (τ 1)) (nI j)) nj (eM (τ 1) 5 j) (eM (τ 1) 8 j) (eM (τ 1) 2 h)) x = true) ∨ (((eM (τ 1) 4 x) = 1) ∧ (¬ ((m_alk (eM (τ 1)) (pB (eM (τ 1)) (nI j)) nj (eM (τ 1) 5 j) (eM (τ 1) 8 j) (eM (τ 1) 2 h)) ≤ (m_alk (eM (τ 1)) (pB (eM (τ 1)) (nI j)) nj (eM (τ 1) 5 j) (eM (τ 1) 8 j) (eM (τ 1) 2 x))))) then (1 : Int32) else 0)), (0, .ref (a 70)), (1, .int (nI j)), (2, .int (nI h)), (4, .int (m_alk (eM (τ 1)) (pB (eM (τ 1)) (nI j)) nj (eM (τ 1) 5 j) (eM (τ 1) 8 j) (eM (τ 1) 2 h)))]) hC.1 hC.2.1 dX11_isCrowded_76 hl (k := 5) rfl (nI_add _ _) (by decide) rfl (fun ls hl => ?_)
          refine lv_goto (tgt := 21) hC.1 hC.2.1 dX11_isCrowded_79 (by decide) ?_
          exact ih21 (x + 1) (if (anyB (f_crd (eM (τ 1)) (pB (eM (τ 1)) (nI j)) nj (eM (τ 1) 5 j) (eM (τ 1) 8 j) (eM (τ 1) 2 h)) x = true) ∨ (((eM (τ 1) 4 x) = 1) ∧ (¬ ((m_alk (eM (τ 1)) (pB (eM (τ 1)) (nI j)) nj (eM (τ 1) 5 j) (eM (τ 1) 8 j) (eM (τ 1) 2 h)) ≤ (m_alk (eM (τ 1)) (pB (eM (τ 1)) (nI j)) nj (eM (τ 1) 5 j) (eM (τ 1) 8 j) (eM (τ 1) 2 x))))) then (1 : Int32) else 0) (ite_iff (by simp only [anyB, f_crd, Bool.or_eq_true, decide_eq_true_eq, nI_1e]; grind)) (by omega) (by omega) _ _ _ hw (lv_sub hl [2, 3, 4, 1, 5, 0] rfl)
        refine q_ifne hC 70 cB dX11_isCrowded_33 (by decide) (fun (c8 : anyB (f_crd (eM (τ 1)) (pB (eM (τ 1)) (nI j)) nj (eM (τ 1) 5 j) (eM (τ 1) 8 j) (eM (τ 1) 2 h)) x = true) => ?_) (fun (c8 : ¬ (anyB (f_crd (eM (τ 1)) (pB (eM (τ 1)) (nI j)) nj (eM (τ 1) 5 j) (eM (τ 1) 8 j) (eM (τ 1) 2 h)) x = true)) => ?_)
        · refine lv_iconst (v := nI 1) hC.1 hC.2.1 dX11_isCrowded_70 (by decide) ?_
          refine lv_goto (tgt := 75) hC.1 hC.2.1 dX11_isCrowded_71 (by decide) ?_
          exact J75_7 _ (if_pos (Or.inl c8)).symm _ _ _ hw (lv_sub hl [0, 1, 2, 3, 4, 5] rfl)
        · refine lv_aload_n hC.1 hC.2.1 dX11_isCrowded_36 rfl (lv_at hl 0 rfl) ?_
          refine gf_X11_7 hC hw dX11_isCrowded_37 ?_
          refine lv_bipush (v := nI 56) hC.1 hC.2.1 dX11_isCrowded_40 (by decide) ?_
          refine lv_iload hC.1 hC.2.1 dX11_isCrowded_42 (lv_at hl 5 rfl) ?_
          refine q_addN hC dX11_isCrowded_44 ?_
          refine al_M1 (v := eM (τ 1) 4 x) hC hw (by omega) (show _ = eM (τ 1) 4 x from congrArg (τ 1) (by omega)) dX11_isCrowded_45 ?_
          refine lv_iconst (v := nI 1) hC.1 hC.2.1 dX11_isCrowded_46 (by decide) ?_
          refine q_cmpne hC 74 cI dX11_isCrowded_47 (by decide) (fun (c9 : ¬ ((eM (τ 1) 4 x) = 1)) => ?_) (fun (c9 : (eM (τ 1) 4 x) = 1) => ?_)
          · refine lv_iconst (v := nI 0) hC.1 hC.2.1 dX11_isCrowded_74 (by decide) ?_
            exact J75_7 _ (if_neg (fun q => q.elim c8 (fun q => c9 q.1))).symm _ _ _ hw (lv_sub hl [0, 1, 2, 3, 4, 5] rfl)
          · refine lv_iload hC.1 hC.2.1 dX11_isCrowded_50 (lv_at hl 4 rfl) ?_
            refine lv_aload_n hC.1 hC.2.1 dX11_isCrowded_52 rfl (lv_at hl 0 rfl) ?_
            refine lv_iload_n hC.1 hC.2.1 dX11_isCrowded_53 rfl (lv_at hl 1 rfl) ?_
            refine lv_aload_n hC.1 hC.2.1 dX11_isCrowded_54 rfl (lv_at hl 0 rfl) ?_
            refine gf_X11_7 hC hw dX11_isCrowded_55 ?_
            refine lv_bipush (v := nI 36) hC.1 hC.2.1 dX11_isCrowded_58 (by decide) ?_
            refine lv_iload hC.1 hC.2.1 dX11_isCrowded_60 (lv_at hl 5 rfl) ?_
            refine q_addN hC dX11_isCrowded_62 ?_
            refine al_M1 (v := eM (τ 1) 2 x) hC hw (by omega) (show _ = eM (τ 1) 2 x from congrArg (τ 1) (by omega)) dX11_isCrowded_63 ?_
            refine q_callVp (As := [.int (nI j), .int (eM (τ 1) 2 x)]) (rest := [.int (m_alk (eM (τ 1)) (pB (eM (τ 1)) (nI j)) nj (eM (τ 1) 5 j) (eM (τ 1) 8 j) (eM (τ 1) 2 h))]) (q0 := 0) hC hw hl (tX11_alikeIn l E a τ nh nj j (eM (τ 1) 2 x) (by first | assumption | omega) (by first | assumption | omega)) (q_cwV hC.2.2.2.2.1 ⟨rfl, rfl⟩ wk4_218 wk4_220 wks_2_13 wk1_12 wk4_221 hd_X11_alikeIn ⟨Nat.le_of_ble_eq_true rfl, Nat.le_of_ble_eq_true rfl⟩) rfl rfl rfl rfl rfl (Nat.le_of_ble_eq_true rfl) dX11_isCrowded_64 (fun H locs hw => ?_)
            refine q_cmple hC 74 cI dX11_isCrowded_67 (by decide) (fun (c13 : (m_alk (eM (τ 1)) (pB (eM (τ 1)) (nI j)) nj (eM (τ 1) 5 j) (eM (τ 1) 8 j) (eM (τ 1) 2 h)) ≤ (m_alk (eM (τ 1)) (pB (eM (τ 1)) (nI j)) nj (eM (τ 1) 5 j) (eM (τ 1) 8 j) (eM (τ 1) 2 x))) => ?_) (fun (c13 : ¬ ((m_alk (eM (τ 1)) (pB (eM (τ 1)) (nI j)) nj (eM (τ 1) 5 j) (eM (τ 1) 8 j) (eM (τ 1) 2 h)) ≤ (m_alk (eM (τ 1)) (pB (eM (τ 1)) (nI j)) nj (eM (τ 1) 5 j) (eM (τ 1) 8 j) (eM (τ 1) 2 x)))) => ?_)
            · refine lv_iconst (v := nI 0) hC.1 hC.2.1 dX11_isCrowded_74 (by decide) ?_
              exact J75_7 _ (if_neg (fun q => q.elim c8 (fun q => (fun q => q c13) q.2))).symm _ _ _ hw (lv_sub hl [0, 1, 2, 3, 4, 5] rfl)
            · refine lv_iconst (v := nI 1) hC.1 hC.2.1 dX11_isCrowded_70 (by decide) ?_
              refine lv_goto (tgt := 75) hC.1 hC.2.1 dX11_isCrowded_71 (by decide) ?_
              exact J75_7 _ (if_pos (Or.inr ⟨c9, c13⟩)).symm _ _ _ hw (lv_sub hl [0, 1, 2, 3, 4, 5] rfl)
  exact L21_3 _ 0 (nI 0) rfl (Nat.zero_le _) (Nat.lt_succ_self _) _ _ _ hw (lv_sub hl [3, 4, 5, 2, 1, 0] rfl)
set_option maxHeartbeats 4000000 in
set_option maxRecDepth 100000 in
theorem tX11_isScared (l : Launch) (E : EV) (a : Nat → Nat) (τ : St) (nh : Nat) (nj : Nat) (j : Nat) (h : Nat) (hW : mF (τ 1) nh nj) (hj : j < nj) (hh : h < nh) : MI l E (MW E a) yX11_isScared (Cond.code yX11_isScared cX11_isScared 5 (some .boolean)) ({ frames := 1, cells := 0, slots := 0, locals := 22 }) [.ref (a 70), .int (nI j), .int (nI h)] τ (fun r_ u_ => r_ = (if m_scd (eM (τ 1)) (pB (eM (τ 1)) (nI j)) nj j h = true then (1 : Int32) else 0) ∧ u_ = τ) := by
  refine MI.mk (by decide +kernel) (Nat.le_of_ble_eq_true rfl) ?_
  intro p e s m args below meth c ls A Q hret hC hw hl
  have hC : Cxt E p s m args meth c cX11_isScared 5 (some .boolean) RX11 A := hC
  have hl : lv_has ls 5 [(0, .ref (a 70)), (1, .int (nI j)), (2, .int (nI h))] := hl
  have ⟨hnh, hnj, hW0, hW1, hWh⟩ := id hW
  refine lv_iconst (v := nI 0) hC.1 hC.2.1 dX11_isScared_0 (by decide) ?_
  refine lv_istore_n (lv' := [(3, .int (nI 0)), (0, .ref (a 70)), (1, .int (nI j)), (2, .int (nI h))]) hC.1 hC.2.1 dX11_isScared_1 rfl hl (by decide) rfl (fun ls hl => ?_)
  refine lv_iconst (v := nI 0) hC.1 hC.2.1 dX11_isScared_2 (by decide) ?_
  refine lv_istore (lv' := [(4, .int (nI 0)), (3, .int (nI 0)), (0, .ref (a 70)), (1, .int (nI j)), (2, .int (nI h))]) hC.1 hC.2.1 dX11_isScared_3 hl (by decide) rfl (fun ls hl => ?_)
  have L5_0 : ∀ (n : Nat), ∀ (k : Nat), ∀ (b : Int32), (b = (if anyB (f_scd (eM (τ 1)) (pB (eM (τ 1)) (nI j)) (eM (τ 1) 8 j) h) k = true then (1 : Int32) else 0)) → (k ≤ nj) → (nj - k) < n → ∀ (H : Heap) (locs : List Loc) (ls : Array Slot), Wst E (MW E a) (τ) A s.heap H locs → lv_has ls 5 [(0, .ref (a 70)), (1, .int (nI j)), (2, .int (nI h)), (3, .int (b)), (4, .int (nI k))] → W p l e ({ frames := 1, cells := 0, slots := 0, locals := 22 }) s m args below meth c H locs 0 0 Q (F0 m 5 ls []) := by
    intro n
    induction n with
    | zero => intro k b q_b hk hn; exact absurd hn (Nat.not_lt_zero _)
    | succ n ih5 =>
      intro k b q_b hk hn5 H locs ls hw hl
      subst q_b
      refine lv_iload hC.1 hC.2.1 dX11_isScared_5 (lv_at hl 4 rfl) ?_
      refine lv_aload_n hC.1 hC.2.1 dX11_isScared_7 rfl (lv_at hl 0 rfl) ?_
      refine gf_X11_7 hC hw dX11_isScared_8 ?_
      refine lv_iconst (v := nI 1) hC.1 hC.2.1 dX11_isScared_11 (by decide) ?_
      refine al_M1 (v := nI nj) hC hw (by omega) hW.2.2.2.1 dX11_isScared_12 ?_
      refine q_cmpge hC 86 (cNle (by omega) (by omega)) dX11_isScared_13 (by decide) (fun (c2 : nj ≤ k) => ?_) (fun (c2 : k < nj) => ?_)
      · refine lv_iload_n hC.1 hC.2.1 dX11_isScared_86 rfl (lv_at hl 3 rfl) ?_
        refine hret _ _ _ _ _ _ hw ?_ nz_B dX11_isScared_87
        exact ⟨by rw [show k = nj by omega]; rfl, rfl⟩
      · refine lv_iload_n hC.1 hC.2.1 dX11_isScared_16 rfl (lv_at hl 3 rfl) ?_
        have J79_4 : ∀ (w3 : Int32), w3 = (if (anyB (f_scd (eM (τ 1)) (pB (eM (τ 1)) (nI j)) (eM (τ 1) 8 j) h) k = true) ∨ ((k ≠ j) ∧ ((eM (τ 1) 11 k = 1 ∧ eM (τ 1) 12 k = nI h) ∧ (((eM (τ 1) 5 k) = 4) ∧ ((eM (τ 1) 10 k) = (eM (τ 1) 8 j))))) then (1 : Int32) else 0) → ∀ (H : Heap) (locs : List Loc) (ls : Array Slot), Wst E (MW E a) (τ) A s.heap H locs → lv_has ls 5 [(0, .ref (a 70)), (1, .int (nI j)), (2, .int (nI h)), (3, .int (if anyB (f_scd (eM (τ 1)) (pB (eM (τ 1)) (nI j)) (eM (τ 1) 8 j) h) k = true then (1 : Int32) else 0)), (4, .int (nI k))] → W p l e ({ frames := 1, cells := 0, slots := 0, locals := 22 }) s m args below meth c H locs 0 0 Q (F0 m 79 ls [.int (w3)]) := by
          intro w3 e4 H locs ls hw hl
          subst e4
          refine lv_istore_n (lv' := [(3, .int (if (anyB (f_scd (eM (τ 1)) (pB (eM (τ 1)) (nI j)) (eM (τ 1) 8 j) h) k = true) ∨ ((k ≠ j) ∧ ((eM (τ 1) 11 k = 1 ∧ eM (τ 1) 12 k = nI h) ∧ (((eM (τ 1) 5 k) = 4) ∧ ((eM (τ 1) 10 k) = (eM (τ 1) 8 j))))) then (1 : Int32) else 0)), (0, .ref (a 70)), (1, .int (nI j)), (2, .int (nI h)), (4, .int (nI k))]) hC.1 hC.2.1 dX11_isScared_79 rfl hl (by decide) rfl (fun ls hl => ?_)
          refine lv_iinc (v := nI (k + 1)) (lv' := [(4, .int (nI (k + 1))), (3, .int (if (anyB (f_scd (eM (τ 1)) (pB (eM (τ 1)) (nI j)) (eM (τ 1) 8 j) h) k = true) ∨ ((k ≠ j) ∧ ((eM (τ 1) 11 k = 1 ∧ eM (τ 1) 12 k = nI h) ∧ (((eM (τ 1) 5 k) = 4) ∧ ((eM (τ 1) 10 k) = (eM (τ 1) 8 j))))) then (1 : Int32) else 0)), (0, .ref (a 70)), (1, .int (nI j)), (2, .int (nI h))]) hC.1 hC.2.1 dX11_isScared_80 hl (k := 4) rfl (nI_add _ _) (by decide) rfl (fun ls hl => ?_)
          refine lv_goto (tgt := 5) hC.1 hC.2.1 dX11_isScared_83 (by decide) ?_
          exact ih5 (k + 1) (if (anyB (f_scd (eM (τ 1)) (pB (eM (τ 1)) (nI j)) (eM (τ 1) 8 j) h) k = true) ∨ ((k ≠ j) ∧ ((eM (τ 1) 11 k = 1 ∧ eM (τ 1) 12 k = nI h) ∧ (((eM (τ 1) 5 k) = 4) ∧ ((eM (τ 1) 10 k) = (eM (τ 1) 8 j))))) then (1 : Int32) else 0) (ite_iff (by simp only [anyB, f_scd, Bool.or_eq_true, decide_eq_true_eq, pB_ne (show h < 10 by omega), nI_eq (show k < 2 ^ 31 by omega) (show j < 2 ^ 31 by omega), nI_4e]; grind)) (by omega) (by omega) _ _ _ hw (lv_sub hl [2, 3, 4, 1, 0] rfl)
        refine q_ifne hC 74 cB dX11_isScared_17 (by decide) (fun (c5 : anyB (f_scd (eM (τ 1)) (pB (eM (τ 1)) (nI j)) (eM (τ 1) 8 j) h) k = true) => ?_) (fun (c5 : ¬ (anyB (f_scd (eM (τ 1)) (pB (eM (τ 1)) (nI j)) (eM (τ 1) 8 j) h) k = true)) => ?_)
        · refine lv_iconst (v := nI 1) hC.1 hC.2.1 dX11_isScared_74 (by decide) ?_
          refine lv_goto (tgt := 79) hC.1 hC.2.1 dX11_isScared_75 (by decide) ?_
          exact J79_4 _ (if_pos (Or.inl c5)).symm _ _ _ hw (lv_sub hl [0, 1, 2, 3, 4] rfl)
        · refine lv_iload hC.1 hC.2.1 dX11_isScared_20 (lv_at hl 4 rfl) ?_
          refine lv_iload_n hC.1 hC.2.1 dX11_isScared_22 rfl (lv_at hl 1 rfl) ?_
          refine q_cmpeq hC 78 (cNeq (by omega) (by omega)) dX11_isScared_23 (by decide) (fun (c6 : k = j) => ?_) (fun (c6 : k ≠ j) => ?_)
          · refine lv_iconst (v := nI 0) hC.1 hC.2.1 dX11_isScared_78 (by decide) ?_
            exact J79_4 _ (if_neg (fun q => q.elim c5 (fun q => (fun q => q c6) q.1))).symm _ _ _ hw (lv_sub hl [0, 1, 2, 3, 4] rfl)
          · refine lv_aload_n hC.1 hC.2.1 dX11_isScared_26 rfl (lv_at hl 0 rfl) ?_
            refine lv_iload hC.1 hC.2.1 dX11_isScared_27 (lv_at hl 4 rfl) ?_
            refine lv_iload_n hC.1 hC.2.1 dX11_isScared_29 rfl (lv_at hl 2 rfl) ?_
            refine q_callVp (As := [.int (nI k), .int (nI h)]) (rest := []) (q0 := 0) hC hw hl (tX11_standsOn l E a τ nh nj k h (by first | assumption | omega) (by first | assumption | omega) (by first | assumption | omega)) (q_cwV hC.2.2.2.2.1 ⟨rfl, rfl⟩ wk4_210 wk4_212 wks_2_11 wk1_12 wk4_213 hd_X11_standsOn ⟨Nat.le_of_ble_eq_true rfl, Nat.le_of_ble_eq_true rfl⟩) rfl rfl rfl rfl rfl (Nat.le_of_ble_eq_true rfl) dX11_isScared_30 (fun H locs hw => ?_)
            refine q_ifeq hC 78 cB dX11_isScared_33 (by decide) (fun (c10 : ¬ (eM (τ 1) 11 k = 1 ∧ eM (τ 1) 12 k = nI h)) => ?_) (fun (c10 : eM (τ 1) 11 k = 1 ∧ eM (τ 1) 12 k = nI h) => ?_)
            · refine lv_iconst (v := nI 0) hC.1 hC.2.1 dX11_isScared_78 (by decide) ?_
              exact J79_4 _ (if_neg (fun q => q.elim c5 (fun q => (fun q => c10 q.1) q.2))).symm _ _ _ hw (lv_sub hl [0, 1, 2, 3, 4] rfl)
            · refine lv_aload_n hC.1 hC.2.1 dX11_isScared_36 rfl (lv_at hl 0 rfl) ?_
              refine gf_X11_7 hC hw dX11_isScared_37 ?_
              refine lv_bipush (v := nI 66) hC.1 hC.2.1 dX11_isScared_40 (by decide) ?_
              refine lv_iload hC.1 hC.2.1 dX11_isScared_42 (lv_at hl 4 rfl) ?_
              refine q_addN hC dX11_isScared_44 ?_
              refine al_M1 (v := eM (τ 1) 5 k) hC hw (by omega) (show _ = eM (τ 1) 5 k from congrArg (τ 1) (by omega)) dX11_isScared_45 ?_
              refine lv_iconst (v := nI 4) hC.1 hC.2.1 dX11_isScared_46 (by decide) ?_
              refine q_cmpne hC 78 cI dX11_isScared_47 (by decide) (fun (c11 : ¬ ((eM (τ 1) 5 k) = 4)) => ?_) (fun (c11 : (eM (τ 1) 5 k) = 4) => ?_)
              · refine lv_iconst (v := nI 0) hC.1 hC.2.1 dX11_isScared_78 (by decide) ?_
                exact J79_4 _ (if_neg (fun q => q.elim c5 (fun q => (fun q => (fun q => c11 q.1) q.2) q.2))).symm _ _ _ hw (lv_sub hl [0, 1, 2, 3, 4] rfl)
              · refine lv_aload_n hC.1 hC.2.1 dX11_isScared_50 rfl (lv_at hl 0 rfl) ?_
                refine gf_X11_7 hC hw dX11_isScared_51 ?_
                refine lv_sipush (v := nI 234) hC.1 hC.2.1 dX11_isScared_54 (by decide) ?_
                refine lv_iload hC.1 hC.2.1 dX11_isScared_57 (lv_at hl 4 rfl) ?_
                refine q_addN hC dX11_isScared_59 ?_
                refine al_M1 (v := eM (τ 1) 10 k) hC hw (by omega) (show _ = eM (τ 1) 10 k from congrArg (τ 1) (by omega)) dX11_isScared_60 ?_
                refine lv_aload_n hC.1 hC.2.1 dX11_isScared_61 rfl (lv_at hl 0 rfl) ?_
                refine gf_X11_7 hC hw dX11_isScared_62 ?_
                refine lv_sipush (v := nI 186) hC.1 hC.2.1 dX11_isScared_65 (by decide) ?_
                refine lv_iload_n hC.1 hC.2.1 dX11_isScared_68 rfl (lv_at hl 1 rfl) ?_
                refine q_addN hC dX11_isScared_69 ?_
                refine al_M1 (v := eM (τ 1) 8 j) hC hw (by omega) (show _ = eM (τ 1) 8 j from congrArg (τ 1) (by omega)) dX11_isScared_70 ?_
                refine q_cmpne hC 78 cI dX11_isScared_71 (by decide) (fun (c12 : ¬ ((eM (τ 1) 10 k) = (eM (τ 1) 8 j))) => ?_) (fun (c12 : (eM (τ 1) 10 k) = (eM (τ 1) 8 j)) => ?_)
                · refine lv_iconst (v := nI 0) hC.1 hC.2.1 dX11_isScared_78 (by decide) ?_
                  exact J79_4 _ (if_neg (fun q => q.elim c5 (fun q => (fun q => (fun q => c12 q.2) q.2) q.2))).symm _ _ _ hw (lv_sub hl [0, 1, 2, 3, 4] rfl)
                · refine lv_iconst (v := nI 1) hC.1 hC.2.1 dX11_isScared_74 (by decide) ?_
                  refine lv_goto (tgt := 79) hC.1 hC.2.1 dX11_isScared_75 (by decide) ?_
                  exact J79_4 _ (if_pos (Or.inr ⟨c6, ⟨c10, ⟨c11, c12⟩⟩⟩)).symm _ _ _ hw (lv_sub hl [0, 1, 2, 3, 4] rfl)
  exact L5_0 _ 0 (nI 0) rfl (Nat.zero_le _) (Nat.lt_succ_self _) _ _ _ hw (lv_sub hl [2, 3, 4, 1, 0] rfl)
