/-! ===== THE CLASS ===== -/
/-- rows 1 to 10 and 15 of σ are those of E0 -/
def aE (σ E0 : St) : Prop := σ 1 = E0 1 ∧ σ 2 = E0 2 ∧ σ 3 = E0 3 ∧ σ 4 = E0 4 ∧ σ 5 = E0 5 ∧ σ 6 = E0 6 ∧ σ 7 = E0 7 ∧ σ 8 = E0 8 ∧ σ 9 = E0 9 ∧ σ 10 = E0 10 ∧ σ 15 = E0 15
theorem aE.rf {σ : St} : aE σ σ := ⟨rfl, rfl, rfl, rfl, rfl, rfl, rfl, rfl, rfl, rfl, rfl⟩
def cN2 (σ : St) (nh nj : Nat) : Prop := σ 0 0 = nI nh ∧ σ 0 1 = nI nj
def hlN (E0 : St) (h : Nat) : Nat := (E0 2 h).toNatClampNeg
def grN (E0 : St) (j : Nat) : Nat := (E0 8 j).toNatClampNeg
def otN (E0 : St) (j : Nat) : Nat := (E0 10 j).toNatClampNeg
def bd5 (x : Int32) : Prop := -100000 ≤ x.toInt ∧ x.toInt ≤ 100000
/-- ranges of what hosts and jobs are made of -/
def cS (E0 : St) (nh nj : Nat) : Prop := nh ≤ 10 ∧ nj ≤ 24 ∧ (∀ h, h < nh → (∃ x, x < 5 ∧ E0 2 h = nI x) ∧ ∀ i, i < 3 → bd5 (E0 1 (3 * h + i))) ∧ ∀ j, j < nj → (∃ g, g < 8 ∧ E0 8 j = nI g) ∧ (∃ g, g < 8 ∧ E0 10 j = nI g) ∧ ∀ i, i < 3 → bd5 (E0 6 (3 * j + i))
theorem cS.hl {E0 : St} {nh nj : Nat} (hS : cS E0 nh nj) (h : Nat) (hh : h < nh) : E0 2 h = nI (hlN E0 h) ∧ hlN E0 h < 5 := by
  obtain ⟨x, h1, h2⟩ := (hS.2.2.1 h hh).1
  have e : hlN E0 h = x := by rw [hlN, h2, nI_clamp (by omega)]
  rw [e]; exact ⟨h2, h1⟩
theorem cS.gr {E0 : St} {nh nj : Nat} (hS : cS E0 nh nj) (j : Nat) (hj : j < nj) : E0 8 j = nI (grN E0 j) ∧ grN E0 j < 8 := by
  obtain ⟨x, h1, h2⟩ := (hS.2.2.2 j hj).1
  have e : grN E0 j = x := by rw [grN, h2, nI_clamp (by omega)]
  rw [e]; exact ⟨h2, h1⟩
theorem cS.ot {E0 : St} {nh nj : Nat} (hS : cS E0 nh nj) (j : Nat) (hj : j < nj) : E0 10 j = nI (otN E0 j) ∧ otN E0 j < 8 := by
  obtain ⟨x, h1, h2⟩ := (hS.2.2.2 j hj).2.1
  have e : otN E0 j = x := by rw [otN, h2, nI_clamp (by omega)]
  rw [e]; exact ⟨h2, h1⟩
theorem congr2 {a a' b b' : Int32} (f : Int32 → Int32 → Int32) (h1 : a = a') (h2 : b = b') : f a b = f a' b' := by rw [h1, h2]
def f_shy (E0 : St) (P : Nat → Int32) (g : Int32) (h : Nat) : Nat → Int32 := fun j => if P j = nI h ∧ E0 5 j = 4 ∧ E0 10 j = g then 1 else 0
def m_shy (E0 : St) (P : Nat → Int32) (nj : Nat) (g : Int32) (h : Nat) : Int32 := sm (f_shy E0 P g h) nj
/-- the class's sums are those of the places P -/
def FSr (E0 : St) (P : Nat → Int32) (nh nj : Nat) (b16 b17 b18 b19 b20 b21 : Nat → Int32) : Prop :=
  (∀ h, h < nh → (∀ i, i < 3 → b16 (h * 3 + i) = m_left E0 P nj h i) ∧ ∀ g, g < 8 → b17 (h * 8 + g) = m_gon E0 P nj (nI g) h ∧ b19 (h * 8 + g) = m_shy E0 P nj (nI g) h) ∧
  ∀ x, x < 5 → ∀ g, g < 8 → b18 (x * 8 + g) = m_gin E0 P nj (nI g) (nI x) ∧ b20 (x * 8 + g) = m_alk E0 P nj 1 (nI g) (nI x) ∧ b21 (x * 8 + g) = m_alk E0 P nj 2 (nI g) (nI x)
set_option maxHeartbeats 4000000 in
set_option maxRecDepth 100000 in
theorem tX5_has (l : Launch) (E : EV) (a : Nat → Nat) (σ : St) (nh : Nat) (nj : Nat) (v : Int32) (hN : cN2 σ nh nj) : MI l E (XW E a) yX5_has (Cond.code yX5_has cX5_has 2 (some .boolean)) ({ frames := 0, cells := 0, slots := 0, locals := 0 }) [.ref (a 66), .int (v)] σ (fun r_ u_ => r_ = (if ¬ v < 0 ∧ v < nI nh then (1 : Int32) else 0) ∧ u_ = σ) := by
  refine MI.mk (by decide +kernel) (Nat.le_of_ble_eq_true rfl) ?_
  intro p e s m args below meth c ls A Q hret hC hw hl
  have hC : Cxt E p s m args meth c cX5_has 2 (some .boolean) RX5 A := hC
  have hl : lv_has ls 2 [(0, .ref (a 66)), (1, .int (v))] := hl
  refine lv_iload_n hC.1 hC.2.1 dX5_has_0 rfl (lv_at hl 1 rfl) ?_
  have J17_2 : ∀ (w1 : Int32), w1 = (if (¬ (v < 0)) ∧ (¬ (nI nh ≤ v)) then (1 : Int32) else 0) → ∀ (H : Heap) (locs : List Loc) (ls : Array Slot), Wst E (XW E a) (σ) A s.heap H locs → lv_has ls 2 [(0, .ref (a 66)), (1, .int (v))] → W p l e ({ frames := 0, cells := 0, slots := 0, locals := 0 }) s m args below meth c H locs 0 0 Q (F0 m 17 ls [.int (w1)]) := by
    intro w1 e2 H locs ls hw hl
    subst e2
    refine hret _ _ _ _ _ _ hw ?_ nz_B dX5_has_17
    exact ⟨ite_iff (and_congr Iff.rfl Int32.not_le), rfl⟩
  refine q_iflt hC 16 cI dX5_has_1 (by decide) (fun (c3 : v < 0) => ?_) (fun (c3 : ¬ (v < 0)) => ?_)
  · refine lv_iconst (v := nI 0) hC.1 hC.2.1 dX5_has_16 (by decide) ?_
    exact J17_2 _ (if_neg (fun q => (fun q => q c3) q.1)).symm _ _ _ hw (lv_sub hl [0, 1] rfl)
  · refine lv_iload_n hC.1 hC.2.1 dX5_has_4 rfl (lv_at hl 1 rfl) ?_
    refine lv_aload_n hC.1 hC.2.1 dX5_has_5 rfl (lv_at hl 0 rfl) ?_
    refine gf_X5_25 (v := nI nh) hC hw hN.1 dX5_has_6 ?_
    refine q_cmpge hC 16 cI dX5_has_9 (by decide) (fun (c4 : nI nh ≤ v) => ?_) (fun (c4 : ¬ (nI nh ≤ v)) => ?_)
    · refine lv_iconst (v := nI 0) hC.1 hC.2.1 dX5_has_16 (by decide) ?_
      exact J17_2 _ (if_neg (fun q => (fun q => q c4) q.2)).symm _ _ _ hw (lv_sub hl [0, 1] rfl)
    · refine lv_iconst (v := nI 1) hC.1 hC.2.1 dX5_has_12 (by decide) ?_
      refine lv_goto (tgt := 17) hC.1 hC.2.1 dX5_has_13 (by decide) ?_
      exact J17_2 _ (if_pos ⟨c3, c4⟩).symm _ _ _ hw (lv_sub hl [0, 1] rfl)
set_option maxHeartbeats 4000000 in
set_option maxRecDepth 100000 in
theorem tX6_has (l : Launch) (E : EV) (a : Nat → Nat) (σ : St) (nh : Nat) (nj : Nat) (v : Int32) (hN : cN2 σ nh nj) : MI l E (XW E a) yX6_has (Cond.code yX6_has cX6_has 2 (some .boolean)) ({ frames := 0, cells := 0, slots := 0, locals := 0 }) [.ref (a 67), .int (v)] σ (fun r_ u_ => r_ = (if ¬ v < 0 ∧ v < nI nj then (1 : Int32) else 0) ∧ u_ = σ) := by
  refine MI.mk (by decide +kernel) (Nat.le_of_ble_eq_true rfl) ?_
  intro p e s m args below meth c ls A Q hret hC hw hl
  have hC : Cxt E p s m args meth c cX6_has 2 (some .boolean) RX6 A := hC
  have hl : lv_has ls 2 [(0, .ref (a 67)), (1, .int (v))] := hl
  refine lv_iload_n hC.1 hC.2.1 dX6_has_0 rfl (lv_at hl 1 rfl) ?_
  have J17_2 : ∀ (w1 : Int32), w1 = (if (¬ (v < 0)) ∧ (¬ (nI nj ≤ v)) then (1 : Int32) else 0) → ∀ (H : Heap) (locs : List Loc) (ls : Array Slot), Wst E (XW E a) (σ) A s.heap H locs → lv_has ls 2 [(0, .ref (a 67)), (1, .int (v))] → W p l e ({ frames := 0, cells := 0, slots := 0, locals := 0 }) s m args below meth c H locs 0 0 Q (F0 m 17 ls [.int (w1)]) := by
    intro w1 e2 H locs ls hw hl
    subst e2
    refine hret _ _ _ _ _ _ hw ?_ nz_B dX6_has_17
    exact ⟨ite_iff (and_congr Iff.rfl Int32.not_le), rfl⟩
  refine q_iflt hC 16 cI dX6_has_1 (by decide) (fun (c3 : v < 0) => ?_) (fun (c3 : ¬ (v < 0)) => ?_)
  · refine lv_iconst (v := nI 0) hC.1 hC.2.1 dX6_has_16 (by decide) ?_
    exact J17_2 _ (if_neg (fun q => (fun q => q c3) q.1)).symm _ _ _ hw (lv_sub hl [0, 1] rfl)
  · refine lv_iload_n hC.1 hC.2.1 dX6_has_4 rfl (lv_at hl 1 rfl) ?_
    refine lv_aload_n hC.1 hC.2.1 dX6_has_5 rfl (lv_at hl 0 rfl) ?_
    refine gf_X6_42 (v := nI nj) hC hw hN.2 dX6_has_6 ?_
    refine q_cmpge hC 16 cI dX6_has_9 (by decide) (fun (c4 : nI nj ≤ v) => ?_) (fun (c4 : ¬ (nI nj ≤ v)) => ?_)
    · refine lv_iconst (v := nI 0) hC.1 hC.2.1 dX6_has_16 (by decide) ?_
      exact J17_2 _ (if_neg (fun q => (fun q => q c4) q.2)).symm _ _ _ hw (lv_sub hl [0, 1] rfl)
    · refine lv_iconst (v := nI 1) hC.1 hC.2.1 dX6_has_12 (by decide) ?_
      refine lv_goto (tgt := 17) hC.1 hC.2.1 dX6_has_13 (by decide) ?_
      exact J17_2 _ (if_pos ⟨c3, c4⟩).symm _ _ _ hw (lv_sub hl [0, 1] rfl)
set_option maxHeartbeats 4000000 in
set_option maxRecDepth 100000 in
theorem tX10_isBelow (l : Launch) (E : EV) (a : Nat → Nat) (σ : St) (v : Int32) (b : Int32) : MI l E (XW E a) yX10_isBelow (Cond.code yX10_isBelow cX10_isBelow 2 (some .boolean)) ({ frames := 0, cells := 0, slots := 0, locals := 0 }) [.int (v), .int (b)] σ (fun r_ u_ => r_ = (if ¬ v < 0 ∧ v < b then (1 : Int32) else 0) ∧ u_ = σ) := by
  refine MI.mk (by decide +kernel) (Nat.le_of_ble_eq_true rfl) ?_
  intro p e s m args below meth c ls A Q hret hC hw hl
  have hC : Cxt E p s m args meth c cX10_isBelow 2 (some .boolean) RX10 A := hC
  have hl : lv_has ls 2 [(0, .int (v)), (1, .int (b))] := hl
  refine lv_iload_n hC.1 hC.2.1 dX10_isBelow_0 rfl (lv_at hl 0 rfl) ?_
  have J14_2 : ∀ (w1 : Int32), w1 = (if (¬ (v < 0)) ∧ (¬ (b ≤ v)) then (1 : Int32) else 0) → ∀ (H : Heap) (locs : List Loc) (ls : Array Slot), Wst E (XW E a) (σ) A s.heap H locs → lv_has ls 2 [(0, .int (v)), (1, .int (b))] → W p l e ({ frames := 0, cells := 0, slots := 0, locals := 0 }) s m args below meth c H locs 0 0 Q (F0 m 14 ls [.int (w1)]) := by
    intro w1 e2 H locs ls hw hl
    subst e2
    refine hret _ _ _ _ _ _ hw ?_ nz_B dX10_isBelow_14
    exact ⟨ite_iff (and_congr Iff.rfl Int32.not_le), rfl⟩
  refine q_iflt hC 13 cI dX10_isBelow_1 (by decide) (fun (c3 : v < 0) => ?_) (fun (c3 : ¬ (v < 0)) => ?_)
  · refine lv_iconst (v := nI 0) hC.1 hC.2.1 dX10_isBelow_13 (by decide) ?_
    exact J14_2 _ (if_neg (fun q => (fun q => q c3) q.1)).symm _ _ _ hw (lv_sub hl [0, 1] rfl)
  · refine lv_iload_n hC.1 hC.2.1 dX10_isBelow_4 rfl (lv_at hl 0 rfl) ?_
    refine lv_iload_n hC.1 hC.2.1 dX10_isBelow_5 rfl (lv_at hl 1 rfl) ?_
    refine q_cmpge hC 13 cI dX10_isBelow_6 (by decide) (fun (c4 : b ≤ v) => ?_) (fun (c4 : ¬ (b ≤ v)) => ?_)
    · refine lv_iconst (v := nI 0) hC.1 hC.2.1 dX10_isBelow_13 (by decide) ?_
      exact J14_2 _ (if_neg (fun q => (fun q => q c4) q.2)).symm _ _ _ hw (lv_sub hl [0, 1] rfl)
    · refine lv_iconst (v := nI 1) hC.1 hC.2.1 dX10_isBelow_9 (by decide) ?_
      refine lv_goto (tgt := 14) hC.1 hC.2.1 dX10_isBelow_10 (by decide) ?_
      exact J14_2 _ (if_pos ⟨c3, c4⟩).symm _ _ _ hw (lv_sub hl [0, 1] rfl)
set_option maxHeartbeats 4000000 in
set_option maxRecDepth 100000 in
theorem tX6_standsOn (l : Launch) (E : EV) (a : Nat → Nat) (σ : St) (j : Nat) (h : Int32) (hj : j < 24) : MI l E (XW E a) yX6_standsOn (Cond.code yX6_standsOn cX6_standsOn 3 (some .boolean)) ({ frames := 0, cells := 0, slots := 0, locals := 0 }) [.ref (a 67), .int (nI j), .int (h)] σ (fun r_ u_ => r_ = (if (σ 11) j = 1 ∧ (σ 12) j = h then (1 : Int32) else 0) ∧ u_ = σ) := by
  refine MI.mk (by decide +kernel) (Nat.le_of_ble_eq_true rfl) ?_
  intro p e s m args below meth c ls A Q hret hC hw hl
  have hC : Cxt E p s m args meth c cX6_standsOn 3 (some .boolean) RX6 A := hC
  have hl : lv_has ls 3 [(0, .ref (a 67)), (1, .int (nI j)), (2, .int (h))] := hl
  refine lv_aload_n hC.1 hC.2.1 dX6_standsOn_0 rfl (lv_at hl 0 rfl) ?_
  refine gf_X6_30 hC hw dX6_standsOn_1 ?_
  refine lv_iload_n hC.1 hC.2.1 dX6_standsOn_4 rfl (lv_at hl 1 rfl) ?_
  refine al_X11 (v := σ 11 j) hC hw (by omega) rfl dX6_standsOn_5 ?_
  refine lv_iconst (v := nI 1) hC.1 hC.2.1 dX6_standsOn_6 (by decide) ?_
  have J25_2 : ∀ (w1 : Int32), w1 = (if (σ 11 j = 1) ∧ (σ 12 j = h) then (1 : Int32) else 0) → ∀ (H : Heap) (locs : List Loc) (ls : Array Slot), Wst E (XW E a) (σ) A s.heap H locs → lv_has ls 3 [(0, .ref (a 67)), (1, .int (nI j)), (2, .int (h))] → W p l e ({ frames := 0, cells := 0, slots := 0, locals := 0 }) s m args below meth c H locs 0 0 Q (F0 m 25 ls [.int (w1)]) := by
    intro w1 e2 H locs ls hw hl
    subst e2
    refine hret _ _ _ _ _ _ hw ?_ nz_B dX6_standsOn_25
    exact ⟨rfl, rfl⟩
  refine q_cmpne hC 24 cI dX6_standsOn_7 (by decide) (fun (c3 : ¬ (σ 11 j = 1)) => ?_) (fun (c3 : σ 11 j = 1) => ?_)
  · refine lv_iconst (v := nI 0) hC.1 hC.2.1 dX6_standsOn_24 (by decide) ?_
    exact J25_2 _ (if_neg (fun q => c3 q.1)).symm _ _ _ hw (lv_sub hl [0, 1, 2] rfl)
  · refine lv_aload_n hC.1 hC.2.1 dX6_standsOn_10 rfl (lv_at hl 0 rfl) ?_
    refine gf_X6_33 hC hw dX6_standsOn_11 ?_
    refine lv_iload_n hC.1 hC.2.1 dX6_standsOn_14 rfl (lv_at hl 1 rfl) ?_
    refine al_X12 (v := σ 12 j) hC hw (by omega) rfl dX6_standsOn_15 ?_
    refine lv_iload_n hC.1 hC.2.1 dX6_standsOn_16 rfl (lv_at hl 2 rfl) ?_
    refine q_cmpne hC 24 cI dX6_standsOn_17 (by decide) (fun (c4 : ¬ (σ 12 j = h)) => ?_) (fun (c4 : σ 12 j = h) => ?_)
    · refine lv_iconst (v := nI 0) hC.1 hC.2.1 dX6_standsOn_24 (by decide) ?_
      exact J25_2 _ (if_neg (fun q => c4 q.2)).symm _ _ _ hw (lv_sub hl [0, 1, 2] rfl)
    · refine lv_iconst (v := nI 1) hC.1 hC.2.1 dX6_standsOn_20 (by decide) ?_
      refine lv_goto (tgt := 25) hC.1 hC.2.1 dX6_standsOn_21 (by decide) ?_
      exact J25_2 _ (if_pos ⟨c3, c4⟩).symm _ _ _ hw (lv_sub hl [0, 1, 2] rfl)
set_option maxHeartbeats 4000000 in
set_option maxRecDepth 100000 in
theorem tX6_canLeave (l : Launch) (E : EV) (a : Nat → Nat) (σ : St) (j : Nat) (hj : j < 24) : MI l E (XW E a) yX6_canLeave (Cond.code yX6_canLeave cX6_canLeave 2 (some .boolean)) ({ frames := 0, cells := 0, slots := 0, locals := 0 }) [.ref (a 67), .int (nI j)] σ (fun r_ u_ => r_ = (if (σ 11) j = 1 ∧ ¬ (σ 5) j = 3 then (1 : Int32) else 0) ∧ u_ = σ) := by
  refine MI.mk (by decide +kernel) (Nat.le_of_ble_eq_true rfl) ?_
  intro p e s m args below meth c ls A Q hret hC hw hl
  have hC : Cxt E p s m args meth c cX6_canLeave 2 (some .boolean) RX6 A := hC
  have hl : lv_has ls 2 [(0, .ref (a 67)), (1, .int (nI j))] := hl
  refine lv_aload_n hC.1 hC.2.1 dX6_canLeave_0 rfl (lv_at hl 0 rfl) ?_
  refine gf_X6_30 hC hw dX6_canLeave_1 ?_
  refine lv_iload_n hC.1 hC.2.1 dX6_canLeave_4 rfl (lv_at hl 1 rfl) ?_
  refine al_X11 (v := σ 11 j) hC hw (by omega) rfl dX6_canLeave_5 ?_
  refine lv_iconst (v := nI 1) hC.1 hC.2.1 dX6_canLeave_6 (by decide) ?_
  have J25_2 : ∀ (w1 : Int32), w1 = (if (σ 11 j = 1) ∧ (¬ (σ 5 j = 3)) then (1 : Int32) else 0) → ∀ (H : Heap) (locs : List Loc) (ls : Array Slot), Wst E (XW E a) (σ) A s.heap H locs → lv_has ls 2 [(0, .ref (a 67)), (1, .int (nI j))] → W p l e ({ frames := 0, cells := 0, slots := 0, locals := 0 }) s m args below meth c H locs 0 0 Q (F0 m 25 ls [.int (w1)]) := by
    intro w1 e2 H locs ls hw hl
    subst e2
    refine hret _ _ _ _ _ _ hw ?_ nz_B dX6_canLeave_25
    exact ⟨rfl, rfl⟩
  refine q_cmpne hC 24 cI dX6_canLeave_7 (by decide) (fun (c3 : ¬ (σ 11 j = 1)) => ?_) (fun (c3 : σ 11 j = 1) => ?_)
  · refine lv_iconst (v := nI 0) hC.1 hC.2.1 dX6_canLeave_24 (by decide) ?_
    exact J25_2 _ (if_neg (fun q => c3 q.1)).symm _ _ _ hw (lv_sub hl [0, 1] rfl)
  · refine lv_aload_n hC.1 hC.2.1 dX6_canLeave_10 rfl (lv_at hl 0 rfl) ?_
    refine gf_X6_9 hC hw dX6_canLeave_11 ?_
    refine lv_iload_n hC.1 hC.2.1 dX6_canLeave_14 rfl (lv_at hl 1 rfl) ?_
    refine al_X5 (v := σ 5 j) hC hw (by omega) rfl dX6_canLeave_15 ?_
    refine lv_iconst (v := nI 3) hC.1 hC.2.1 dX6_canLeave_16 (by decide) ?_
    refine q_cmpeq hC 24 cI dX6_canLeave_17 (by decide) (fun (c4 : σ 5 j = 3) => ?_) (fun (c4 : ¬ (σ 5 j = 3)) => ?_)
    · refine lv_iconst (v := nI 0) hC.1 hC.2.1 dX6_canLeave_24 (by decide) ?_
      exact J25_2 _ (if_neg (fun q => (fun q => q c4) q.2)).symm _ _ _ hw (lv_sub hl [0, 1] rfl)
    · refine lv_iconst (v := nI 1) hC.1 hC.2.1 dX6_canLeave_20 (by decide) ?_
      refine lv_goto (tgt := 25) hC.1 hC.2.1 dX6_canLeave_21 (by decide) ?_
      exact J25_2 _ (if_pos ⟨c3, c4⟩).symm _ _ _ hw (lv_sub hl [0, 1] rfl)
set_option maxHeartbeats 4000000 in
set_option maxRecDepth 100000 in
theorem tX4_tooMuch (l : Launch) (E : EV) (a : Nat → Nat) (σ : St) (nh : Nat) (nj : Nat) (E0 : St) (P : Nat → Int32) (j : Nat) (h : Nat) (i : Nat) (hN : cN2 σ nh nj) (hE : aE σ E0) (hS : cS E0 nh nj) (hFS : FSr E0 P nh nj (σ 16) (σ 17) (σ 18) (σ 19) (σ 20) (σ 21)) (hj : j < nj) (hh : h < nh) (hi : i < 3) : MI l E (XW E a) yX4_tooMuch (Cond.code yX4_tooMuch cX4_tooMuch 4 (some .int)) ({ frames := 0, cells := 0, slots := 0, locals := 0 }) [.ref (a 65), .int (nI j), .int (nI h), .int (nI i)] σ (fun r_ u_ => r_ = (E0 6 (3 * j + i) - m_left E0 P nj h i) ∧ u_ = σ) := by
  refine MI.mk (by decide +kernel) (Nat.le_of_ble_eq_true rfl) ?_
  intro p e s m args below meth c ls A Q hret hC hw hl
  have hC : Cxt E p s m args meth c cX4_tooMuch 4 (some .int) RX4 A := hC
  have hl : lv_has ls 4 [(0, .ref (a 65)), (1, .int (nI j)), (2, .int (nI h)), (3, .int (nI i))] := hl
  have hnh := hS.1
  have hnj := hS.2.1
  refine lv_aload_n hC.1 hC.2.1 dX4_tooMuch_0 rfl (lv_at hl 0 rfl) ?_
  refine gf_X4_34 hC hw dX4_tooMuch_1 ?_
  refine gf_X4_79 hC hw dX4_tooMuch_4 ?_
  refine lv_iload_n hC.1 hC.2.1 dX4_tooMuch_7 rfl (lv_at hl 1 rfl) ?_
  refine lv_iconst (v := nI 3) hC.1 hC.2.1 dX4_tooMuch_8 (by decide) ?_
  refine q_mulN hC dX4_tooMuch_9 ?_
  refine lv_iload_n hC.1 hC.2.1 dX4_tooMuch_10 rfl (lv_at hl 3 rfl) ?_
  refine q_addN hC dX4_tooMuch_11 ?_
  refine al_X6 (v := E0 6 (3 * j + i)) hC hw (by omega) ((congrFun hE.2.2.2.2.2.1 _).trans (congrArg (E0 6) (by omega))) dX4_tooMuch_12 ?_
  refine lv_aload_n hC.1 hC.2.1 dX4_tooMuch_13 rfl (lv_at hl 0 rfl) ?_
  refine gf_X4_9 hC hw dX4_tooMuch_14 ?_
  refine lv_iload_n hC.1 hC.2.1 dX4_tooMuch_17 rfl (lv_at hl 2 rfl) ?_
  refine lv_iconst (v := nI 3) hC.1 hC.2.1 dX4_tooMuch_18 (by decide) ?_
  refine q_mulN hC dX4_tooMuch_19 ?_
  refine lv_iload_n hC.1 hC.2.1 dX4_tooMuch_20 rfl (lv_at hl 3 rfl) ?_
  refine q_addN hC dX4_tooMuch_21 ?_
  refine al_X16 (v := m_left E0 P nj h i) hC hw (by omega) ((hFS.1 h (by omega)).1 i hi) dX4_tooMuch_22 ?_
  refine lv_isub hC.1 hC.2.1 dX4_tooMuch_23 ?_
  refine hret _ _ _ _ _ _ hw ?_ rfl dX4_tooMuch_24
  exact ⟨rfl, rfl⟩
set_option maxHeartbeats 4000000 in
set_option maxRecDepth 100000 in
theorem tX4_others (l : Launch) (E : EV) (a : Nat → Nat) (σ : St) (nh : Nat) (nj : Nat) (E0 : St) (P : Nat → Int32) (j : Nat) (h : Nat) (hN : cN2 σ nh nj) (hE : aE σ E0) (hS : cS E0 nh nj) (hFS : FSr E0 P nh nj (σ 16) (σ 17) (σ 18) (σ 19) (σ 20) (σ 21)) (hj : j < nj) (hh : h < nh) : MI l E (XW E a) yX4_others (Cond.code yX4_others cX4_others 3 (some .int)) ({ frames := 0, cells := 0, slots := 0, locals := 0 }) [.ref (a 65), .int (nI j), .int (nI h)] σ (fun r_ u_ => r_ = (m_oth E0 P nj j h) ∧ u_ = σ) := by
  refine MI.mk (by decide +kernel) (Nat.le_of_ble_eq_true rfl) ?_
  intro p e s m args below meth c ls A Q hret hC hw hl
  have hC : Cxt E p s m args meth c cX4_others 3 (some .int) RX4 A := hC
  have hl : lv_has ls 3 [(0, .ref (a 65)), (1, .int (nI j)), (2, .int (nI h))] := hl
  have hnh := hS.1
  have hnj := hS.2.1
  refine lv_aload_n hC.1 hC.2.1 dX4_others_0 rfl (lv_at hl 0 rfl) ?_
  refine gf_X4_34 hC hw dX4_others_1 ?_
  refine gf_X4_88 hC hw dX4_others_4 ?_
  refine lv_iload_n hC.1 hC.2.1 dX4_others_7 rfl (lv_at hl 1 rfl) ?_
  refine al_X5 (v := E0 5 j) hC hw (by omega) (congrFun hE.2.2.2.2.1 _) dX4_others_8 ?_
  refine lv_iconst (v := nI 4) hC.1 hC.2.1 dX4_others_9 (by decide) ?_
  refine q_cmpne hC 33 cI dX4_others_10 (by decide) (fun (c1 : ¬ (E0 5 j = 4)) => ?_) (fun (c1 : E0 5 j = 4) => ?_)
  · refine lv_aload_n hC.1 hC.2.1 dX4_others_33 rfl (lv_at hl 0 rfl) ?_
    refine gf_X4_34 hC hw dX4_others_34 ?_
    refine gf_X4_88 hC hw dX4_others_37 ?_
    refine lv_iload_n hC.1 hC.2.1 dX4_others_40 rfl (lv_at hl 1 rfl) ?_
    refine al_X5 (v := E0 5 j) hC hw (by omega) (congrFun hE.2.2.2.2.1 _) dX4_others_41 ?_
    refine lv_iconst (v := nI 5) hC.1 hC.2.1 dX4_others_42 (by decide) ?_
    refine q_cmpne hC 74 cI dX4_others_43 (by decide) (fun (c2 : ¬ (E0 5 j = 5)) => ?_) (fun (c2 : E0 5 j = 5) => ?_)
    · refine lv_iconst (v := nI 0) hC.1 hC.2.1 dX4_others_74 (by decide) ?_
      refine hret _ _ _ _ _ _ hw ?_ rfl dX4_others_75
      exact ⟨((if_neg c1).trans (if_neg c2)).symm, rfl⟩
    · refine lv_aload_n hC.1 hC.2.1 dX4_others_46 rfl (lv_at hl 0 rfl) ?_
      refine gf_X4_18 hC hw dX4_others_47 ?_
      refine lv_aload_n hC.1 hC.2.1 dX4_others_50 rfl (lv_at hl 0 rfl) ?_
      refine gf_X4_30 hC hw dX4_others_51 ?_
      refine gf_X4_85 hC hw dX4_others_54 ?_
      refine lv_iload_n hC.1 hC.2.1 dX4_others_57 rfl (lv_at hl 2 rfl) ?_
      have hHl := (hS.hl h (by omega)).2
      refine al_X2 (v := nI (hlN E0 h)) hC hw (by omega) ((congrFun hE.2.1 _).trans (hS.hl h (by omega)).1) dX4_others_58 ?_
      refine lv_bipush (v := nI 8) hC.1 hC.2.1 dX4_others_59 (by decide) ?_
      refine q_mulN hC dX4_others_61 ?_
      refine lv_aload_n hC.1 hC.2.1 dX4_others_62 rfl (lv_at hl 0 rfl) ?_
      refine gf_X4_34 hC hw dX4_others_63 ?_
      refine gf_X4_91 hC hw dX4_others_66 ?_
      refine lv_iload_n hC.1 hC.2.1 dX4_others_69 rfl (lv_at hl 1 rfl) ?_
      have hOt := (hS.ot j (by omega)).2
      refine al_X10 (v := nI (otN E0 j)) hC hw (by omega) ((congrFun hE.2.2.2.2.2.2.2.2.2.1 _).trans (hS.ot j (by omega)).1) dX4_others_70 ?_
      refine q_addN hC dX4_others_71 ?_
      refine al_X18 (v := m_gin E0 P nj (E0 10 j) (E0 2 h)) hC hw (by omega) ((hFS.2 _ (by omega) _ (by omega)).1.trans (congr2 (fun z y => m_gin E0 P nj z y) (hS.ot j (by omega)).1.symm (hS.hl h (by omega)).1.symm)) dX4_others_72 ?_
      refine hret _ _ _ _ _ _ hw ?_ rfl dX4_others_73
      exact ⟨((if_neg c1).trans (if_pos c2)).symm, rfl⟩
  · refine lv_aload_n hC.1 hC.2.1 dX4_others_13 rfl (lv_at hl 0 rfl) ?_
    refine gf_X4_15 hC hw dX4_others_14 ?_
    refine lv_iload_n hC.1 hC.2.1 dX4_others_17 rfl (lv_at hl 2 rfl) ?_
    refine lv_bipush (v := nI 8) hC.1 hC.2.1 dX4_others_18 (by decide) ?_
    refine q_mulN hC dX4_others_20 ?_
    refine lv_aload_n hC.1 hC.2.1 dX4_others_21 rfl (lv_at hl 0 rfl) ?_
    refine gf_X4_34 hC hw dX4_others_22 ?_
    refine gf_X4_91 hC hw dX4_others_25 ?_
    refine lv_iload_n hC.1 hC.2.1 dX4_others_28 rfl (lv_at hl 1 rfl) ?_
    have hOt := (hS.ot j (by omega)).2
    refine al_X10 (v := nI (otN E0 j)) hC hw (by omega) ((congrFun hE.2.2.2.2.2.2.2.2.2.1 _).trans (hS.ot j (by omega)).1) dX4_others_29 ?_
    refine q_addN hC dX4_others_30 ?_
    refine al_X17 (v := m_gon E0 P nj (E0 10 j) h) hC hw (by omega) (((hFS.1 h (by omega)).2 _ (by omega)).1.trans (congrArg (fun z => m_gon E0 P nj z h) (hS.ot j (by omega)).1.symm)) dX4_others_31 ?_
    refine hret _ _ _ _ _ _ hw ?_ rfl dX4_others_32
    exact ⟨(if_pos c1).symm, rfl⟩
