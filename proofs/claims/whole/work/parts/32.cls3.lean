def c_ups (up : Nat → Int32) (n : Nat) : Int32 := sm (fun h => if ¬ up h = 0 then 1 else 0) n
def c_tgs (t : Nat → Int32) (n : Nat) : Int32 := sm (fun j => if ¬ t j = -1 then 1 else 0) n
def c_sts (st : Nat → Int32) (x : Int32) (n : Nat) : Int32 := sm (fun j => if st j = x then 1 else 0) n
set_option maxHeartbeats 4000000 in
set_option maxRecDepth 100000 in
theorem tX6_leave (l : Launch) (E : EV) (a : Nat → Nat) (σ : St) (j : Nat) (x : Int32) (hj : j < 24) : MV l E (XW E a) yX6_leave (Cond.code yX6_leave cX6_leave 3 none) ({ frames := 0, cells := 0, slots := 0, locals := 0 }) [.ref (a 67), .int (nI j), .int (x)] σ (fun u_ => u_ = sr (sr (sr σ 11 (upd (σ 11) j x)) 12 (upd (σ 12) j (-1))) 13 (upd (σ 13) j 0)) := by
  refine MV.mk (by decide +kernel) (Nat.le_of_ble_eq_true rfl) ?_
  intro p e s m args below meth c ls A Q hret hC hw hl
  have hC : Cxt E p s m args meth c cX6_leave 3 none RX6 A := hC
  have hl : lv_has ls 3 [(0, .ref (a 67)), (1, .int (nI j)), (2, .int (x))] := hl
  refine lv_aload_n hC.1 hC.2.1 dX6_leave_0 rfl (lv_at hl 0 rfl) ?_
  refine gf_X6_30 hC hw dX6_leave_1 ?_
  refine lv_iload_n hC.1 hC.2.1 dX6_leave_4 rfl (lv_at hl 1 rfl) ?_
  refine lv_iload_n hC.1 hC.2.1 dX6_leave_5 rfl (lv_at hl 2 rfl) ?_
  refine as_X11 hC hw (by omega) dX6_leave_6 (fun H locs hw => ?_)
  have hw : Wst E (XW E a) (sr σ 11 (upd (σ 11) j (x))) A s.heap H locs := hw
  refine lv_aload_n hC.1 hC.2.1 dX6_leave_7 rfl (lv_at hl 0 rfl) ?_
  refine gf_X6_33 hC hw dX6_leave_8 ?_
  refine lv_iload_n hC.1 hC.2.1 dX6_leave_11 rfl (lv_at hl 1 rfl) ?_
  refine lv_iconst (v := (-1)) hC.1 hC.2.1 dX6_leave_12 (by decide) ?_
  refine as_X12 hC hw (by omega) dX6_leave_13 (fun H locs hw => ?_)
  have hw : Wst E (XW E a) (sr (sr σ 11 (upd (σ 11) j (x))) 12 (upd (σ 12) j ((-1)))) A s.heap H locs := hw
  refine lv_aload_n hC.1 hC.2.1 dX6_leave_14 rfl (lv_at hl 0 rfl) ?_
  refine gf_X6_36 hC hw dX6_leave_15 ?_
  refine lv_iload_n hC.1 hC.2.1 dX6_leave_18 rfl (lv_at hl 1 rfl) ?_
  refine lv_iconst (v := nI 0) hC.1 hC.2.1 dX6_leave_19 (by decide) ?_
  refine as_X13 hC hw (by omega) dX6_leave_20 (fun H locs hw => ?_)
  have hw : Wst E (XW E a) (sr (sr (sr σ 11 (upd (σ 11) j (x))) 12 (upd (σ 12) j ((-1)))) 13 (upd (σ 13) j (0))) A s.heap H locs := hw
  refine hret _ _ _ _ _ hw ?_ dX6_leave_21
  exact rfl
set_option maxHeartbeats 4000000 in
set_option maxRecDepth 100000 in
theorem tX6_settle (l : Launch) (E : EV) (a : Nat → Nat) (σ : St) (j : Nat) (h : Int32) (hj : j < 24) : MV l E (XW E a) yX6_settle (Cond.code yX6_settle cX6_settle 3 none) ({ frames := 0, cells := 0, slots := 0, locals := 0 }) [.ref (a 67), .int (nI j), .int (h)] σ (fun u_ => u_ = sr (sr (sr (sr σ 11 (upd (σ 11) j 1)) 12 (upd (σ 12) j h)) 13 (upd (σ 13) j ((σ 0 2) + 1))) 0 (upd (σ 0) 2 ((σ 0 2) + 1))) := by
  refine MV.mk (by decide +kernel) (Nat.le_of_ble_eq_true rfl) ?_
  intro p e s m args below meth c ls A Q hret hC hw hl
  have hC : Cxt E p s m args meth c cX6_settle 3 none RX6 A := hC
  have hl : lv_has ls 3 [(0, .ref (a 67)), (1, .int (nI j)), (2, .int (h))] := hl
  refine lv_aload_n hC.1 hC.2.1 dX6_settle_0 rfl (lv_at hl 0 rfl) ?_
  refine lv_dup hC.1 hC.2.1 dX6_settle_1 rfl ?_
  refine gf_X6_50 (v := σ 0 2) hC hw rfl dX6_settle_2 ?_
  refine lv_iconst (v := nI 1) hC.1 hC.2.1 dX6_settle_5 (by decide) ?_
  refine lv_iadd hC.1 hC.2.1 dX6_settle_6 ?_
  refine pf_X6_50 hC hw dX6_settle_7 (fun H locs hw => ?_)
  have hw : Wst E (XW E a) (sr σ 0 (upd (σ 0) 2 ((σ 0 2) + 1))) A s.heap H locs := hw
  refine lv_aload_n hC.1 hC.2.1 dX6_settle_10 rfl (lv_at hl 0 rfl) ?_
  refine gf_X6_30 hC hw dX6_settle_11 ?_
  refine lv_iload_n hC.1 hC.2.1 dX6_settle_14 rfl (lv_at hl 1 rfl) ?_
  refine lv_iconst (v := nI 1) hC.1 hC.2.1 dX6_settle_15 (by decide) ?_
  refine as_X11 hC hw (by omega) dX6_settle_16 (fun H locs hw => ?_)
  have hw : Wst E (XW E a) (sr (sr σ 0 (upd (σ 0) 2 ((σ 0 2) + 1))) 11 (upd (σ 11) j (1))) A s.heap H locs := hw
  have hst_ : sr (sr σ 0 (upd (σ 0) 2 ((σ 0 2) + 1))) 11 (upd (σ 11) j (1)) = sr (sr σ 11 (upd (σ 11) j (1))) 0 (upd (σ 0) 2 ((σ 0 2) + 1)) := by
    funext j_ x_
    by_cases e0 : j_ = 0
    · subst e0
      by_cases y2 : x_ = 2
      · subst y2; rfl
      · simp [sr, upd, y2]
    · by_cases e11 : j_ = 11
      · subst e11; rfl
      · simp only [sr, e0, e11, if_false]
  rw [hst_] at hw
  refine lv_aload_n hC.1 hC.2.1 dX6_settle_17 rfl (lv_at hl 0 rfl) ?_
  refine gf_X6_33 hC hw dX6_settle_18 ?_
  refine lv_iload_n hC.1 hC.2.1 dX6_settle_21 rfl (lv_at hl 1 rfl) ?_
  refine lv_iload_n hC.1 hC.2.1 dX6_settle_22 rfl (lv_at hl 2 rfl) ?_
  refine as_X12 hC hw (by omega) dX6_settle_23 (fun H locs hw => ?_)
  have hw : Wst E (XW E a) (sr (sr (sr σ 11 (upd (σ 11) j (1))) 0 (upd (σ 0) 2 ((σ 0 2) + 1))) 12 (upd (σ 12) j (h))) A s.heap H locs := hw
  have hst_ : sr (sr (sr σ 11 (upd (σ 11) j (1))) 0 (upd (σ 0) 2 ((σ 0 2) + 1))) 12 (upd (σ 12) j (h)) = sr (sr (sr σ 11 (upd (σ 11) j (1))) 12 (upd (σ 12) j (h))) 0 (upd (σ 0) 2 ((σ 0 2) + 1)) := by
    funext j_ x_
    by_cases e0 : j_ = 0
    · subst e0
      by_cases y2 : x_ = 2
      · subst y2; rfl
      · simp [sr, upd, y2]
    · by_cases e11 : j_ = 11
      · subst e11; rfl
      · by_cases e12 : j_ = 12
        · subst e12; rfl
        · simp only [sr, e0, e11, e12, if_false]
  rw [hst_] at hw
  refine lv_aload_n hC.1 hC.2.1 dX6_settle_24 rfl (lv_at hl 0 rfl) ?_
  refine gf_X6_36 hC hw dX6_settle_25 ?_
  refine lv_iload_n hC.1 hC.2.1 dX6_settle_28 rfl (lv_at hl 1 rfl) ?_
  refine lv_aload_n hC.1 hC.2.1 dX6_settle_29 rfl (lv_at hl 0 rfl) ?_
  refine gf_X6_50 (v := (σ 0 2) + 1) hC hw rfl dX6_settle_30 ?_
  refine as_X13 hC hw (by omega) dX6_settle_33 (fun H locs hw => ?_)
  have hw : Wst E (XW E a) (sr (sr (sr (sr σ 11 (upd (σ 11) j (1))) 12 (upd (σ 12) j (h))) 0 (upd (σ 0) 2 ((σ 0 2) + 1))) 13 (upd (σ 13) j ((σ 0 2) + 1))) A s.heap H locs := hw
  have hst_ : sr (sr (sr (sr σ 11 (upd (σ 11) j (1))) 12 (upd (σ 12) j (h))) 0 (upd (σ 0) 2 ((σ 0 2) + 1))) 13 (upd (σ 13) j ((σ 0 2) + 1)) = sr (sr (sr (sr σ 11 (upd (σ 11) j (1))) 12 (upd (σ 12) j (h))) 13 (upd (σ 13) j ((σ 0 2) + 1))) 0 (upd (σ 0) 2 ((σ 0 2) + 1)) := by
    funext j_ x_
    by_cases e0 : j_ = 0
    · subst e0
      by_cases y2 : x_ = 2
      · subst y2; rfl
      · simp [sr, upd, y2]
    · by_cases e11 : j_ = 11
      · subst e11; rfl
      · by_cases e12 : j_ = 12
        · subst e12; rfl
        · by_cases e13 : j_ = 13
          · subst e13; rfl
          · simp only [sr, e0, e11, e12, e13, if_false]
  rw [hst_] at hw
  refine hret _ _ _ _ _ hw ?_ dX6_settle_34
  exact rfl
set_option maxHeartbeats 4000000 in
set_option maxRecDepth 100000 in
theorem tX5_upNow (l : Launch) (E : EV) (a : Nat → Nat) (σ : St) (nh : Nat) (nj : Nat) (hN : cN2 σ nh nj) (h10 : nh ≤ 10) (h24 : nj ≤ 24) : MI l E (XW E a) yX5_upNow (Cond.code yX5_upNow cX5_upNow 3 (some .int)) ({ frames := 0, cells := 0, slots := 0, locals := 0 }) [.ref (a 66)] σ (fun r_ u_ => r_ = (c_ups (σ 4) nh) ∧ u_ = σ) := by
  refine MI.mk (by decide +kernel) (Nat.le_of_ble_eq_true rfl) ?_
  intro p e s m args below meth c ls A Q hret hC hw hl
  have hC : Cxt E p s m args meth c cX5_upNow 3 (some .int) RX5 A := hC
  have hl : lv_has ls 3 [(0, .ref (a 66))] := hl
  refine lv_iconst (v := nI 0) hC.1 hC.2.1 dX5_upNow_0 (by decide) ?_
  refine lv_istore_n (lv' := [(1, .int (nI 0)), (0, .ref (a 66))]) hC.1 hC.2.1 dX5_upNow_1 rfl hl (by decide) rfl (fun ls hl => ?_)
  refine lv_iconst (v := nI 0) hC.1 hC.2.1 dX5_upNow_2 (by decide) ?_
  refine lv_istore_n (lv' := [(2, .int (nI 0)), (1, .int (nI 0)), (0, .ref (a 66))]) hC.1 hC.2.1 dX5_upNow_3 rfl hl (by decide) rfl (fun ls hl => ?_)
  have L4_0 : ∀ (n : Nat), ∀ (k : Nat), ∀ (cc : Int32), (cc = (c_ups (σ 4) k)) → (k ≤ nh) → (nh - k) < n → ∀ (H : Heap) (locs : List Loc) (ls : Array Slot), Wst E (XW E a) (σ) A s.heap H locs → lv_has ls 3 [(0, .ref (a 66)), (1, .int (cc)), (2, .int (nI k))] → W p l e ({ frames := 0, cells := 0, slots := 0, locals := 0 }) s m args below meth c H locs 0 0 Q (F0 m 4 ls []) := by
    intro n
    induction n with
    | zero => intro k cc q_cc hk hn; exact absurd hn (Nat.not_lt_zero _)
    | succ n ih4 =>
      intro k cc q_cc hk hn4 H locs ls hw hl
      subst q_cc
      refine lv_iload_n hC.1 hC.2.1 dX5_upNow_4 rfl (lv_at hl 2 rfl) ?_
      refine lv_aload_n hC.1 hC.2.1 dX5_upNow_5 rfl (lv_at hl 0 rfl) ?_
      refine gf_X5_25 (v := nI nh) hC hw hN.1 dX5_upNow_6 ?_
      refine q_cmpge hC 35 (cNle (by omega) (by omega)) dX5_upNow_9 (by decide) (fun (c2 : nh ≤ k) => ?_) (fun (c2 : k < nh) => ?_)
      · refine lv_iload_n hC.1 hC.2.1 dX5_upNow_35 rfl (lv_at hl 1 rfl) ?_
        refine hret _ _ _ _ _ _ hw ?_ rfl dX5_upNow_36
        have hk9 : k = nh := by omega
        rw [hk9]
        exact ⟨rfl, rfl⟩
      · refine lv_iload_n hC.1 hC.2.1 dX5_upNow_12 rfl (lv_at hl 1 rfl) ?_
        refine lv_aload_n hC.1 hC.2.1 dX5_upNow_13 rfl (lv_at hl 0 rfl) ?_
        refine gf_X5_21 hC hw dX5_upNow_14 ?_
        refine lv_iload_n hC.1 hC.2.1 dX5_upNow_17 rfl (lv_at hl 2 rfl) ?_
        refine al_X4 (v := σ 4 k) hC hw (by omega) rfl dX5_upNow_18 ?_
        have J27_4 : ∀ (w3 : Int32), w3 = (if ¬ (σ 4 k = 0) then (1 : Int32) else 0) → ∀ (H : Heap) (locs : List Loc) (ls : Array Slot), Wst E (XW E a) (σ) A s.heap H locs → lv_has ls 3 [(0, .ref (a 66)), (1, .int (c_ups (σ 4) k)), (2, .int (nI k))] → W p l e ({ frames := 0, cells := 0, slots := 0, locals := 0 }) s m args below meth c H locs 0 0 Q (F0 m 27 ls [.int (w3), .int (c_ups (σ 4) k)]) := by
          intro w3 e4 H locs ls hw hl
          subst e4
          refine lv_iadd hC.1 hC.2.1 dX5_upNow_27 ?_
          refine lv_istore_n (lv' := [(1, .int ((c_ups (σ 4) k) + (if ¬ (σ 4 k = 0) then (1 : Int32) else 0))), (0, .ref (a 66)), (2, .int (nI k))]) hC.1 hC.2.1 dX5_upNow_28 rfl hl (by decide) rfl (fun ls hl => ?_)
          refine lv_iinc (v := nI (k + 1)) (lv' := [(2, .int (nI (k + 1))), (1, .int ((c_ups (σ 4) k) + (if ¬ (σ 4 k = 0) then (1 : Int32) else 0))), (0, .ref (a 66))]) hC.1 hC.2.1 dX5_upNow_29 hl (k := 2) rfl (nI_add _ _) (by decide) rfl (fun ls hl => ?_)
          refine lv_goto (tgt := 4) hC.1 hC.2.1 dX5_upNow_32 (by decide) ?_
          exact ih4 (k + 1) ((c_ups (σ 4) k) + (if ¬ (σ 4 k = 0) then (1 : Int32) else 0)) rfl (by omega) (by omega) _ _ _ hw (lv_sub hl [2, 1, 0] rfl)
        refine q_ifeq hC 26 cI dX5_upNow_19 (by decide) (fun (c5 : σ 4 k = 0) => ?_) (fun (c5 : ¬ (σ 4 k = 0)) => ?_)
        · refine lv_iconst (v := nI 0) hC.1 hC.2.1 dX5_upNow_26 (by decide) ?_
          exact J27_4 _ (if_neg (fun q => q c5)).symm _ _ _ hw (lv_sub hl [0, 1, 2] rfl)
        · refine lv_iconst (v := nI 1) hC.1 hC.2.1 dX5_upNow_22 (by decide) ?_
          refine lv_goto (tgt := 27) hC.1 hC.2.1 dX5_upNow_23 (by decide) ?_
          exact J27_4 _ (if_pos c5).symm _ _ _ hw (lv_sub hl [0, 1, 2] rfl)
  exact L4_0 _ 0 (nI 0) rfl (Nat.zero_le _) (Nat.lt_succ_self _) _ _ _ hw (lv_sub hl [2, 1, 0] rfl)
set_option maxHeartbeats 4000000 in
set_option maxRecDepth 100000 in
theorem tX6_targets (l : Launch) (E : EV) (a : Nat → Nat) (σ : St) (nh : Nat) (nj : Nat) (hN : cN2 σ nh nj) (h10 : nh ≤ 10) (h24 : nj ≤ 24) : MI l E (XW E a) yX6_targets (Cond.code yX6_targets cX6_targets 3 (some .int)) ({ frames := 0, cells := 0, slots := 0, locals := 0 }) [.ref (a 67)] σ (fun r_ u_ => r_ = (c_tgs (σ 14) nj) ∧ u_ = σ) := by
  refine MI.mk (by decide +kernel) (Nat.le_of_ble_eq_true rfl) ?_
  intro p e s m args below meth c ls A Q hret hC hw hl
  have hC : Cxt E p s m args meth c cX6_targets 3 (some .int) RX6 A := hC
  have hl : lv_has ls 3 [(0, .ref (a 67))] := hl
  refine lv_iconst (v := nI 0) hC.1 hC.2.1 dX6_targets_0 (by decide) ?_
  refine lv_istore_n (lv' := [(1, .int (nI 0)), (0, .ref (a 67))]) hC.1 hC.2.1 dX6_targets_1 rfl hl (by decide) rfl (fun ls hl => ?_)
  refine lv_iconst (v := nI 0) hC.1 hC.2.1 dX6_targets_2 (by decide) ?_
  refine lv_istore_n (lv' := [(2, .int (nI 0)), (1, .int (nI 0)), (0, .ref (a 67))]) hC.1 hC.2.1 dX6_targets_3 rfl hl (by decide) rfl (fun ls hl => ?_)
  have L4_0 : ∀ (n : Nat), ∀ (k : Nat), ∀ (cc : Int32), (cc = (c_tgs (σ 14) k)) → (k ≤ nj) → (nj - k) < n → ∀ (H : Heap) (locs : List Loc) (ls : Array Slot), Wst E (XW E a) (σ) A s.heap H locs → lv_has ls 3 [(0, .ref (a 67)), (1, .int (cc)), (2, .int (nI k))] → W p l e ({ frames := 0, cells := 0, slots := 0, locals := 0 }) s m args below meth c H locs 0 0 Q (F0 m 4 ls []) := by
    intro n
    induction n with
    | zero => intro k cc q_cc hk hn; exact absurd hn (Nat.not_lt_zero _)
    | succ n ih4 =>
      intro k cc q_cc hk hn4 H locs ls hw hl
      subst q_cc
      refine lv_iload_n hC.1 hC.2.1 dX6_targets_4 rfl (lv_at hl 2 rfl) ?_
      refine lv_aload_n hC.1 hC.2.1 dX6_targets_5 rfl (lv_at hl 0 rfl) ?_
      refine gf_X6_42 (v := nI nj) hC hw hN.2 dX6_targets_6 ?_
      refine q_cmpge hC 36 (cNle (by omega) (by omega)) dX6_targets_9 (by decide) (fun (c2 : nj ≤ k) => ?_) (fun (c2 : k < nj) => ?_)
      · refine lv_iload_n hC.1 hC.2.1 dX6_targets_36 rfl (lv_at hl 1 rfl) ?_
        refine hret _ _ _ _ _ _ hw ?_ rfl dX6_targets_37
        have hk9 : k = nj := by omega
        rw [hk9]
        exact ⟨rfl, rfl⟩
      · refine lv_iload_n hC.1 hC.2.1 dX6_targets_12 rfl (lv_at hl 1 rfl) ?_
        refine lv_aload_n hC.1 hC.2.1 dX6_targets_13 rfl (lv_at hl 0 rfl) ?_
        refine gf_X6_39 hC hw dX6_targets_14 ?_
        refine lv_iload_n hC.1 hC.2.1 dX6_targets_17 rfl (lv_at hl 2 rfl) ?_
        refine al_X14 (v := σ 14 k) hC hw (by omega) rfl dX6_targets_18 ?_
        refine lv_iconst (v := (-1)) hC.1 hC.2.1 dX6_targets_19 (by decide) ?_
        have J28_4 : ∀ (w3 : Int32), w3 = (if ¬ (σ 14 k = (-1)) then (1 : Int32) else 0) → ∀ (H : Heap) (locs : List Loc) (ls : Array Slot), Wst E (XW E a) (σ) A s.heap H locs → lv_has ls 3 [(0, .ref (a 67)), (1, .int (c_tgs (σ 14) k)), (2, .int (nI k))] → W p l e ({ frames := 0, cells := 0, slots := 0, locals := 0 }) s m args below meth c H locs 0 0 Q (F0 m 28 ls [.int (w3), .int (c_tgs (σ 14) k)]) := by
          intro w3 e4 H locs ls hw hl
          subst e4
          refine lv_iadd hC.1 hC.2.1 dX6_targets_28 ?_
          refine lv_istore_n (lv' := [(1, .int ((c_tgs (σ 14) k) + (if ¬ (σ 14 k = (-1)) then (1 : Int32) else 0))), (0, .ref (a 67)), (2, .int (nI k))]) hC.1 hC.2.1 dX6_targets_29 rfl hl (by decide) rfl (fun ls hl => ?_)
          refine lv_iinc (v := nI (k + 1)) (lv' := [(2, .int (nI (k + 1))), (1, .int ((c_tgs (σ 14) k) + (if ¬ (σ 14 k = (-1)) then (1 : Int32) else 0))), (0, .ref (a 67))]) hC.1 hC.2.1 dX6_targets_30 hl (k := 2) rfl (nI_add _ _) (by decide) rfl (fun ls hl => ?_)
          refine lv_goto (tgt := 4) hC.1 hC.2.1 dX6_targets_33 (by decide) ?_
          exact ih4 (k + 1) ((c_tgs (σ 14) k) + (if ¬ (σ 14 k = (-1)) then (1 : Int32) else 0)) rfl (by omega) (by omega) _ _ _ hw (lv_sub hl [2, 1, 0] rfl)
        refine q_cmpeq hC 27 cI dX6_targets_20 (by decide) (fun (c5 : σ 14 k = (-1)) => ?_) (fun (c5 : ¬ (σ 14 k = (-1))) => ?_)
        · refine lv_iconst (v := nI 0) hC.1 hC.2.1 dX6_targets_27 (by decide) ?_
          exact J28_4 _ (if_neg (fun q => q c5)).symm _ _ _ hw (lv_sub hl [0, 1, 2] rfl)
        · refine lv_iconst (v := nI 1) hC.1 hC.2.1 dX6_targets_23 (by decide) ?_
          refine lv_goto (tgt := 28) hC.1 hC.2.1 dX6_targets_24 (by decide) ?_
          exact J28_4 _ (if_pos c5).symm _ _ _ hw (lv_sub hl [0, 1, 2] rfl)
  exact L4_0 _ 0 (nI 0) rfl (Nat.zero_le _) (Nat.lt_succ_self _) _ _ _ hw (lv_sub hl [2, 1, 0] rfl)
set_option maxHeartbeats 4000000 in
set_option maxRecDepth 100000 in
theorem tX6_inState (l : Launch) (E : EV) (a : Nat → Nat) (σ : St) (nh : Nat) (nj : Nat) (x : Int32) (hN : cN2 σ nh nj) (h10 : nh ≤ 10) (h24 : nj ≤ 24) : MI l E (XW E a) yX6_inState (Cond.code yX6_inState cX6_inState 4 (some .int)) ({ frames := 0, cells := 0, slots := 0, locals := 0 }) [.ref (a 67), .int (x)] σ (fun r_ u_ => r_ = (c_sts (σ 11) x nj) ∧ u_ = σ) := by
  refine MI.mk (by decide +kernel) (Nat.le_of_ble_eq_true rfl) ?_
  intro p e s m args below meth c ls A Q hret hC hw hl
  have hC : Cxt E p s m args meth c cX6_inState 4 (some .int) RX6 A := hC
  have hl : lv_has ls 4 [(0, .ref (a 67)), (1, .int (x))] := hl
  refine lv_iconst (v := nI 0) hC.1 hC.2.1 dX6_inState_0 (by decide) ?_
  refine lv_istore_n (lv' := [(2, .int (nI 0)), (0, .ref (a 67)), (1, .int (x))]) hC.1 hC.2.1 dX6_inState_1 rfl hl (by decide) rfl (fun ls hl => ?_)
  refine lv_iconst (v := nI 0) hC.1 hC.2.1 dX6_inState_2 (by decide) ?_
  refine lv_istore_n (lv' := [(3, .int (nI 0)), (2, .int (nI 0)), (0, .ref (a 67)), (1, .int (x))]) hC.1 hC.2.1 dX6_inState_3 rfl hl (by decide) rfl (fun ls hl => ?_)
  have L4_0 : ∀ (n : Nat), ∀ (k : Nat), ∀ (cc : Int32), (cc = (c_sts (σ 11) x k)) → (k ≤ nj) → (nj - k) < n → ∀ (H : Heap) (locs : List Loc) (ls : Array Slot), Wst E (XW E a) (σ) A s.heap H locs → lv_has ls 4 [(0, .ref (a 67)), (1, .int (x)), (2, .int (cc)), (3, .int (nI k))] → W p l e ({ frames := 0, cells := 0, slots := 0, locals := 0 }) s m args below meth c H locs 0 0 Q (F0 m 4 ls []) := by
    intro n
    induction n with
    | zero => intro k cc q_cc hk hn; exact absurd hn (Nat.not_lt_zero _)
    | succ n ih4 =>
      intro k cc q_cc hk hn4 H locs ls hw hl
      subst q_cc
      refine lv_iload_n hC.1 hC.2.1 dX6_inState_4 rfl (lv_at hl 3 rfl) ?_
      refine lv_aload_n hC.1 hC.2.1 dX6_inState_5 rfl (lv_at hl 0 rfl) ?_
      refine gf_X6_42 (v := nI nj) hC hw hN.2 dX6_inState_6 ?_
      refine q_cmpge hC 36 (cNle (by omega) (by omega)) dX6_inState_9 (by decide) (fun (c2 : nj ≤ k) => ?_) (fun (c2 : k < nj) => ?_)
      · refine lv_iload_n hC.1 hC.2.1 dX6_inState_36 rfl (lv_at hl 2 rfl) ?_
        refine hret _ _ _ _ _ _ hw ?_ rfl dX6_inState_37
        have hk9 : k = nj := by omega
        rw [hk9]
        exact ⟨rfl, rfl⟩
      · refine lv_iload_n hC.1 hC.2.1 dX6_inState_12 rfl (lv_at hl 2 rfl) ?_
        refine lv_aload_n hC.1 hC.2.1 dX6_inState_13 rfl (lv_at hl 0 rfl) ?_
        refine gf_X6_30 hC hw dX6_inState_14 ?_
        refine lv_iload_n hC.1 hC.2.1 dX6_inState_17 rfl (lv_at hl 3 rfl) ?_
        refine al_X11 (v := σ 11 k) hC hw (by omega) rfl dX6_inState_18 ?_
        refine lv_iload_n hC.1 hC.2.1 dX6_inState_19 rfl (lv_at hl 1 rfl) ?_
        have J28_4 : ∀ (w3 : Int32), w3 = (if σ 11 k = x then (1 : Int32) else 0) → ∀ (H : Heap) (locs : List Loc) (ls : Array Slot), Wst E (XW E a) (σ) A s.heap H locs → lv_has ls 4 [(0, .ref (a 67)), (1, .int (x)), (2, .int (c_sts (σ 11) x k)), (3, .int (nI k))] → W p l e ({ frames := 0, cells := 0, slots := 0, locals := 0 }) s m args below meth c H locs 0 0 Q (F0 m 28 ls [.int (w3), .int (c_sts (σ 11) x k)]) := by
          intro w3 e4 H locs ls hw hl
          subst e4
          refine lv_iadd hC.1 hC.2.1 dX6_inState_28 ?_
          refine lv_istore_n (lv' := [(2, .int ((c_sts (σ 11) x k) + (if σ 11 k = x then (1 : Int32) else 0))), (0, .ref (a 67)), (1, .int (x)), (3, .int (nI k))]) hC.1 hC.2.1 dX6_inState_29 rfl hl (by decide) rfl (fun ls hl => ?_)
          refine lv_iinc (v := nI (k + 1)) (lv' := [(3, .int (nI (k + 1))), (2, .int ((c_sts (σ 11) x k) + (if σ 11 k = x then (1 : Int32) else 0))), (0, .ref (a 67)), (1, .int (x))]) hC.1 hC.2.1 dX6_inState_30 hl (k := 3) rfl (nI_add _ _) (by decide) rfl (fun ls hl => ?_)
          refine lv_goto (tgt := 4) hC.1 hC.2.1 dX6_inState_33 (by decide) ?_
          exact ih4 (k + 1) ((c_sts (σ 11) x k) + (if σ 11 k = x then (1 : Int32) else 0)) rfl (by omega) (by omega) _ _ _ hw (lv_sub hl [2, 3, 1, 0] rfl)
        refine q_cmpne hC 27 cI dX6_inState_20 (by decide) (fun (c5 : ¬ (σ 11 k = x)) => ?_) (fun (c5 : σ 11 k = x) => ?_)
        · refine lv_iconst (v := nI 0) hC.1 hC.2.1 dX6_inState_27 (by decide) ?_
          exact J28_4 _ (if_neg c5).symm _ _ _ hw (lv_sub hl [0, 1, 2, 3] rfl)
        · refine lv_iconst (v := nI 1) hC.1 hC.2.1 dX6_inState_23 (by decide) ?_
          refine lv_goto (tgt := 28) hC.1 hC.2.1 dX6_inState_24 (by decide) ?_
          exact J28_4 _ (if_pos c5).symm _ _ _ hw (lv_sub hl [0, 1, 2, 3] rfl)
  exact L4_0 _ 0 (nI 0) rfl (Nat.zero_le _) (Nat.lt_succ_self _) _ _ _ hw (lv_sub hl [2, 3, 1, 0] rfl)
