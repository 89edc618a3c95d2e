/-! ===== THE CLASS ===== -/
/-- rows 1 to 10 and 15 of σ are those of E0 -/
def aE (σ E0 : St) : Prop := σ 1 = E0 1 ∧ σ 2 = E0 2 ∧ σ 3 = E0 3 ∧ σ 4 = E0 4 ∧ σ 5 = E0 5 ∧ σ 6 = E0 6 ∧ σ 7 = E0 7 ∧ σ 8 = E0 8 ∧ σ 9 = E0 9 ∧ σ 10 = E0 10 ∧ σ 15 = E0 15
theorem aE.rf {σ : St} : aE σ σ := ⟨rfl, rfl, rfl, rfl, rfl, rfl, rfl, rfl, rfl, rfl, rfl⟩
def cN2 (σ : St) (nh nj : Nat) : Prop := σ 0 0 = nI nh ∧ σ 0 1 = nI nj
def hlN (E0 : St) (h : Nat) : Nat := (E0 2 h).toNatClampNeg
def grN (E0 : St) (j : Nat) : Nat := (E0 8 j).toNatClampNeg
def otN (E0 : St) (j : Nat) : Nat := (E0 10 j).toNatClampNeg
def bd5 (x : Int32) : Prop := -100000 ≤ x.toInt ∧ x.toInt ≤ 100000
/-- ranges of what hosts and jobs are made of -/
def cS (E0 : St) (nh nj : Nat) : Prop := nh ≤ 10 ∧ nj ≤ 24 ∧ (∀ h, h < nh → (∃ x, x < 5 ∧ E0 2 h = nI x) ∧ (E0 4 h = 0 ∨ E0 4 h = 1) ∧ ∀ i, i < 3 → bd5 (E0 1 (3 * h + i))) ∧ ∀ j, j < nj → (∃ g, g < 8 ∧ E0 8 j = nI g) ∧ (∃ g, g < 8 ∧ E0 10 j = nI g) ∧ ∀ i, i < 3 → bd5 (E0 6 (3 * j + i))
theorem cS.hl {E0 : St} {nh nj : Nat} (hS : cS E0 nh nj) (h : Nat) (hh : h < nh) : E0 2 h = nI (hlN E0 h) ∧ hlN E0 h < 5 := by
  obtain ⟨x, h1, h2⟩ := (hS.2.2.1 h hh).1
  have e : hlN E0 h = x := by rw [hlN, h2, nI_clamp (by omega)]
  rw [e]; exact ⟨h2, h1⟩
theorem cS.gr {E0 : St} {nh nj : Nat} (hS : cS E0 nh nj) (j : Nat) (hj : j < nj) : E0 8 j = nI (grN E0 j) ∧ grN E0 j < 8 := by
  obtain ⟨x, h1, h2⟩ := (hS.2.2.2 j hj).1
  have e : grN E0 j = x := by rw [grN, h2, nI_clamp (by omega)]
  rw [e]; exact ⟨h2, h1⟩
theorem cS.ot {E0 : St} {nh nj : Nat} (hS : cS E0 nh nj) (j : Nat) (hj : j < nj) : E0 10 j = nI (otN E0 j) ∧ otN E0 j < 8 := by
  obtain ⟨x, h1, h2⟩ := (hS.2.2.2 j hj).2.1
  have e : otN E0 j = x := by rw [otN, h2, nI_clamp (by omega)]
  rw [e]; exact ⟨h2, h1⟩
theorem congr2 {a a' b b' : Int32} (f : Int32 → Int32 → Int32) (h1 : a = a') (h2 : b = b') : f a b = f a' b' := by rw [h1, h2]
def f_shy (E0 : St) (P : Nat → Int32) (g : Int32) (h : Nat) : Nat → Int32 := fun j => if P j = nI h ∧ E0 5 j = 4 ∧ E0 10 j = g then 1 else 0
def m_shy (E0 : St) (P : Nat → Int32) (nj : Nat) (g : Int32) (h : Nat) : Int32 := sm (f_shy E0 P g h) nj
/-- the class's sums are those of the places P -/
def FSr (E0 : St) (P : Nat → Int32) (nh nj : Nat) (b16 b17 b18 b19 b20 b21 : Nat → Int32) : Prop :=
  (∀ h, h < nh → (∀ i, i < 3 → b16 (h * 3 + i) = m_left E0 P nj h i) ∧ ∀ g, g < 8 → b17 (h * 8 + g) = m_gon E0 P nj (nI g) h ∧ b19 (h * 8 + g) = m_shy E0 P nj (nI g) h) ∧
  ∀ x, x < 5 → ∀ g, g < 8 → b18 (x * 8 + g) = m_gin E0 P nj (nI g) (nI x) ∧ b20 (x * 8 + g) = m_alk E0 P nj 1 (nI g) (nI x) ∧ b21 (x * 8 + g) = m_alk E0 P nj 2 (nI g) (nI x)
/-! counts -/
theorem sm_01 {f : Nat → Int32} : ∀ {n : Nat}, (∀ k, k < n → f k = 0 ∨ f k = 1) → ∃ c, c ≤ n ∧ sm f n = nI c ∧ (c = 0 ↔ ∀ k, k < n → f k = 0)
  | 0, _ => ⟨0, Nat.le_refl _, rfl, by simp⟩
  | n + 1, h => by
    obtain ⟨c, h1, h2, h3⟩ := sm_01 (n := n) (fun k hk => h k (by omega))
    rw [sm, h2]
    rcases h n (by omega) with e | e
    · refine ⟨c, by omega, by rw [e]; exact Int32.add_zero _, ?_⟩
      rw [h3]
      exact ⟨fun q k hk => by by_cases z : k = n; (subst z; exact e); exact q k (by omega), fun q k hk => q k (by omega)⟩
    · refine ⟨c + 1, by omega, by rw [e]; exact nI_1 c, ?_⟩
      exact ⟨fun q => by omega, fun q => by have := q n (by omega); rw [e] at this; exact absurd this (by decide)⟩
theorem scd_shy {E0 : St} {P : Nat → Int32} {nj j h : Nat} (hn : nj ≤ 24) : m_scd E0 P nj j h = true ↔ ¬ m_shy E0 P nj (E0 8 j) h ≤ 0 := by
  obtain ⟨c, h1, h2, h3⟩ := sm_01 (f := f_shy E0 P (E0 8 j) h) (n := nj) (fun k _ => by unfold f_shy; split; exact Or.inr rfl; exact Or.inl rfl)
  unfold m_scd m_shy
  rw [h2, anyB_iff]
  have e0 : nI c ≤ 0 ↔ c = 0 := by
    rw [show (0 : Int32) = nI 0 from rfl, nI_leI (by omega) (by omega)]; omega
  rw [e0, h3]
  constructor
  · rintro ⟨k, k1, k2⟩ q
    have := q k k1
    unfold f_shy at this
    unfold f_scd at k2
    rw [if_pos (of_decide_eq_true k2)] at this
    exact absurd this (by decide)
  · intro q
    refine Classical.byContradiction fun z => q (fun k hk => ?_)
    unfold f_shy
    refine if_neg (fun y => z ⟨k, hk, decide_eq_true y⟩)
theorem sm_bd {f : Nat → Int32} {B : Nat} : ∀ {n : Nat}, n * B ≤ 1000000000 → (∀ k, k < n → -(B : Int) ≤ (f k).toInt ∧ (f k).toInt ≤ B) → -((n * B : Nat) : Int) ≤ (sm f n).toInt ∧ (sm f n).toInt ≤ ((n * B : Nat) : Int)
  | 0, _, _ => by rw [sm, Nat.zero_mul]; decide
  | n + 1, hB, h => by
    rw [Nat.succ_mul] at hB ⊢
    have a := sm_bd (n := n) (B := B) (by omega) (fun k hk => h k (by omega))
    have b := h n (by omega)
    rw [sm, Int32.toInt_add, Int.bmod_eq_of_le (by omega) (by omega)]
    omega
theorem left_bd {E0 : St} {P : Nat → Int32} {nh nj h i : Nat} (hS : cS E0 nh nj) (hh : h < nh) (hi : i < 3) : -2500000 ≤ (m_left E0 P nj h i).toInt ∧ (m_left E0 P nj h i).toInt ≤ 2500000 := by
  have hn := hS.2.1
  have a := sm_bd (f := f_left E0 P h i) (B := 100000) (n := nj) (by omega) (fun k hk => by
    unfold f_left
    split
    · exact (hS.2.2.2 k hk).2.2 i hi
    · decide)
  have b := (hS.2.2.1 h hh).2.2 i hi
  unfold bd5 at b
  have c : ((nj * 100000 : Nat) : Int) ≤ 2400000 := by omega
  unfold m_left
  rw [Int32.toInt_sub, Int.bmod_eq_of_le (by omega) (by omega)]
  omega
theorem why_at {E0 : St} {P : Nat → Int32} {nj j h i : Nat} {w : Int32} (hlt : ∀ x, x < i → ¬ m_left E0 P nj h x < E0 6 (3 * j + x)) (hi : m_left E0 P nj h i < E0 6 (3 * j + i)) (h3 : i < 3 := by omega) : (if m_left E0 P nj h 0 < E0 6 (3 * j + 0) then (3 : Int32) else if m_left E0 P nj h 1 < E0 6 (3 * j + 1) then 4 else if m_left E0 P nj h 2 < E0 6 (3 * j + 2) then 5 else w) = nI (3 + i) := by
  rcases (show i = 0 ∨ i = 1 ∨ i = 2 by omega) with e | e | e
  · subst e; rw [if_pos hi]; rfl
  · subst e; rw [if_neg (hlt 0 (by omega)), if_pos hi]; rfl
  · subst e; rw [if_neg (hlt 0 (by omega)), if_neg (hlt 1 (by omega)), if_pos hi]; rfl
theorem tm_iff {E0 : St} {P : Nat → Int32} {nh nj j h i : Nat} (hS : cS E0 nh nj) (hj : j < nj) (hh : h < nh) (hi : i < 3) : ¬ E0 6 (3 * j + i) - m_left E0 P nj h i ≤ 0 ↔ m_left E0 P nj h i < E0 6 (3 * j + i) := by
  have a := left_bd (P := P) hS hh hi
  have b := (hS.2.2.2 j hj).2.2 i hi
  unfold bd5 at b
  rw [Int32.le_iff_toInt_le, Int32.lt_iff_toInt_lt, Int32.toInt_sub, Int.bmod_eq_of_le (by omega) (by omega)]
  have e : Int32.toInt 0 = 0 := by decide
  omega
theorem room_s {E0 : St} {P : Nat → Int32} {nj j h i : Nat} : m_room E0 P nj j h i - (E0 6 (3 * j + i) - m_left E0 P nj h i) = m_room E0 P nj j h (i + 1) := by rw [m_room]; grind
/-- the first host that j fits on (-1: none) -/
def m_ff (E0 : St) (P : Nat → Int32) (nh nj j : Nat) : Nat → Int32
  | 0 => -1
  | n + 1 => if m_ff E0 P nh nj j n = -1 then (if m_why E0 P nh nj j n = 0 then nI n else -1) else m_ff E0 P nh nj j n
theorem ff_at {E0 : St} {P : Nat → Int32} {nh nj j x : Nat} (h : m_ff E0 P nh nj j x = -1) (hf : m_why E0 P nh nj j x = 0) (hx : x < nh) (hn : nh < 2 ^ 31 := by omega) : m_ff E0 P nh nj j nh = nI x := by
  have key : ∀ d, x + 1 + d < 2 ^ 31 → m_ff E0 P nh nj j (x + 1 + d) = nI x := by
    intro d
    induction d with
    | zero => intro _; rw [Nat.add_zero, m_ff, if_pos h, if_pos hf]
    | succ d ih =>
      intro hd
      rw [← Nat.add_assoc, m_ff, ih (by omega), if_neg (fun q => nI_nm1 (by omega) q.symm)]
  have := key (nh - (x + 1)) (by omega)
  rw [show x + 1 + (nh - (x + 1)) = nh by omega] at this
  exact this
def m_cb (E0 : St) (P : Nat → Int32) (nh nj j : Nat) : Int32 := if m_bst E0 P nh nj j nh < 0 then -1 else m_bst E0 P nh nj j nh
section CB
variable {E0 : St} {P : Nat → Int32} {nh nj j x : Nat} {be mo : Int32}
abbrev CBi (E0 : St) (P : Nat → Int32) (nh nj j x : Nat) (be mo : Int32) : Prop := (be = -1 ∧ m_bst E0 P nh nj j x = -3) ∨ ∃ b, b < x ∧ be = nI b ∧ m_bst E0 P nh nj j x = nI b ∧ mo = m_pts E0 P nj j b
theorem cb_no (h : CBi E0 P nh nj j x be mo) (hf : ¬ m_why E0 P nh nj j x = 0) : CBi E0 P nh nj j (x + 1) be mo := by
  have e : m_bst E0 P nh nj j (x + 1) = m_bst E0 P nh nj j x := by rw [m_bst, if_neg (fun q => hf q.1)]
  rcases h with ⟨h1, h2⟩ | ⟨b, h1, h2, h3, h4⟩
  · exact Or.inl ⟨h1, e.trans h2⟩
  · exact Or.inr ⟨b, by omega, h2, e.trans h3, h4⟩
theorem cb_keep (hx : x < 2 ^ 31) (h : CBi E0 P nh nj j x be mo) (h1 : ¬ be = -1) (hle : m_pts E0 P nj j x ≤ mo) : CBi E0 P nh nj j (x + 1) be mo := by
  rcases h with ⟨a1, -⟩ | ⟨b, a1, a2, a3, a4⟩
  · exact absurd a1 h1
  · refine Or.inr ⟨b, by omega, a2, ?_, a4⟩
    rw [m_bst, a3, if_neg (fun q => ?_)]
    rcases q.2 with q | q
    · exact nI_pos (by omega) q
    · rw [nI_clamp (by omega), ← a4] at q
      exact absurd q (Int32.not_lt.mpr hle)
theorem cb_new (hx : x < 2 ^ 31) (h : CBi E0 P nh nj j x be mo) (hf : m_why E0 P nh nj j x = 0) (hn : be = -1 ∨ mo < m_pts E0 P nj j x) : CBi E0 P nh nj j (x + 1) (nI x) (m_pts E0 P nj j x) := by
  have hc : m_bst E0 P nh nj j x < 0 ∨ m_pts E0 P nj j (m_bst E0 P nh nj j x).toNatClampNeg < m_pts E0 P nj j x := by
    rcases h with ⟨a1, a2⟩ | ⟨b, a1, a2, a3, a4⟩
    · rw [a2]; exact Or.inl (by decide)
    · rcases hn with z | z
      · rw [a2] at z; exact absurd z.symm (nI_nm1 (by omega))
      · rw [a3, nI_clamp (by omega), ← a4]; exact Or.inr z
  exact Or.inr ⟨x, by omega, rfl, by rw [m_bst, if_pos ⟨hf, hc⟩], rfl⟩
theorem cb_end (hn : nh < 2 ^ 31) (h : CBi E0 P nh nj j nh be mo) : be = m_cb E0 P nh nj j := by
  unfold m_cb
  rcases h with ⟨a1, a2⟩ | ⟨b, a1, a2, a3, a4⟩
  · rw [a2, if_pos (by decide), a1]
  · rw [a3, if_neg (nI_pos (by omega)), a2]
end CB
set_option maxHeartbeats 4000000 in
set_option maxRecDepth 100000 in
theorem tX5_has (l : Launch) (E : EV) (a : Nat → Nat) (σ : St) (nh : Nat) (nj : Nat) (v : Int32) (hN : cN2 σ nh nj) : MI l E (XW E a) yX5_has (Cond.code yX5_has cX5_has 2 (some .boolean)) ({ frames := 0, cells := 0, slots := 0, locals := 0 }) [.ref (a 66), .int (v)] σ (fun r_ u_ => r_ = (if ¬ v < 0 ∧ v < nI nh then (1 : Int32) else 0) ∧ u_ = σ) := by
  refine MI.mk (by decide +kernel) (Nat.le_of_ble_eq_true rfl) ?_
  intro p e s m args below meth c ls A Q hret hC hw hl
  have hC : Cxt E p s m args meth c cX5_has 2 (some .boolean) RX5 A := hC
  have hl : lv_has ls 2 [(0, .ref (a 66)), (1, .int (v))] := hl
  refine lv_iload_n hC.1 hC.2.1 dX5_has_0 rfl (lv_at hl 1 rfl) ?_
  have J17_2 : ∀ (w1 : Int32), w1 = (if (¬ (v < 0)) ∧ (¬ (nI nh ≤ v)) then (1 : Int32) else 0) → ∀ (H : Heap) (locs : List Loc) (ls : Array Slot), Wst E (XW E a) (σ) A s.heap H locs → lv_has ls 2 [(0, .ref (a 66)), (1, .int (v))] → W p l e ({ frames := 0, cells := 0, slots := 0, locals := 0 }) s m args below meth c H locs 0 0 Q (F0 m 17 ls [.int (w1)]) := by
    intro w1 e2 H locs ls hw hl
    subst e2
    refine hret _ _ _ _ _ _ hw ?_ nz_B dX5_has_17
    exact ⟨ite_iff (and_congr Iff.rfl Int32.not_le), rfl⟩
  refine q_iflt hC 16 cI dX5_has_1 (by decide) (fun (c3 : v < 0) => ?_) (fun (c3 : ¬ (v < 0)) => ?_)
  · refine lv_iconst (v := nI 0) hC.1 hC.2.1 dX5_has_16 (by decide) ?_
    exact J17_2 _ (if_neg (fun q => (fun q => q c3) q.1)).symm _ _ _ hw (lv_sub hl [0, 1] rfl)
  · refine lv_iload_n hC.1 hC.2.1 dX5_has_4 rfl (lv_at hl 1 rfl) ?_
    refine lv_aload_n hC.1 hC.2.1 dX5_has_5 rfl (lv_at hl 0 rfl) ?_
    refine gf_X5_25 (v := nI nh) hC hw hN.1 dX5_has_6 ?_
    refine q_cmpge hC 16 cI dX5_has_9 (by decide) (fun (c4 : nI nh ≤ v) => ?_) (fun (c4 : ¬ (nI nh ≤ v)) => ?_)
    · refine lv_iconst (v := nI 0) hC.1 hC.2.1 dX5_has_16 (by decide) ?_
      exact J17_2 _ (if_neg (fun q => (fun q => q c4) q.2)).symm _ _ _ hw (lv_sub hl [0, 1] rfl)
    · refine lv_iconst (v := nI 1) hC.1 hC.2.1 dX5_has_12 (by decide) ?_
      refine lv_goto (tgt := 17) hC.1 hC.2.1 dX5_has_13 (by decide) ?_
      exact J17_2 _ (if_pos ⟨c3, c4⟩).symm _ _ _ hw (lv_sub hl [0, 1] rfl)
set_option maxHeartbeats 4000000 in
set_option maxRecDepth 100000 in
theorem tX6_has (l : Launch) (E : EV) (a : Nat → Nat) (σ : St) (nh : Nat) (nj : Nat) (v : Int32) (hN : cN2 σ nh nj) : MI l E (XW E a) yX6_has (Cond.code yX6_has cX6_has 2 (some .boolean)) ({ frames := 0, cells := 0, slots := 0, locals := 0 }) [.ref (a 67), .int (v)] σ (fun r_ u_ => r_ = (if ¬ v < 0 ∧ v < nI nj then (1 : Int32) else 0) ∧ u_ = σ) := by
  refine MI.mk (by decide +kernel) (Nat.le_of_ble_eq_true rfl) ?_
  intro p e s m args below meth c ls A Q hret hC hw hl
  have hC : Cxt E p s m args meth c cX6_has 2 (some .boolean) RX6 A := hC
  have hl : lv_has ls 2 [(0, .ref (a 67)), (1, .int (v))] := hl
  refine lv_iload_n hC.1 hC.2.1 dX6_has_0 rfl (lv_at hl 1 rfl) ?_
  have J17_2 : ∀ (w1 : Int32), w1 = (if (¬ (v < 0)) ∧ (¬ (nI nj ≤ v)) then (1 : Int32) else 0) → ∀ (H : Heap) (locs : List Loc) (ls : Array Slot), Wst E (XW E a) (σ) A s.heap H locs → lv_has ls 2 [(0, .ref (a 67)), (1, .int (v))] → W p l e ({ frames := 0, cells := 0, slots := 0, locals := 0 }) s m args below meth c H locs 0 0 Q (F0 m 17 ls [.int (w1)]) := by
    intro w1 e2 H locs ls hw hl
    subst e2
    refine hret _ _ _ _ _ _ hw ?_ nz_B dX6_has_17
    exact ⟨ite_iff (and_congr Iff.rfl Int32.not_le), rfl⟩
  refine q_iflt hC 16 cI dX6_has_1 (by decide) (fun (c3 : v < 0) => ?_) (fun (c3 : ¬ (v < 0)) => ?_)
  · refine lv_iconst (v := nI 0) hC.1 hC.2.1 dX6_has_16 (by decide) ?_
    exact J17_2 _ (if_neg (fun q => (fun q => q c3) q.1)).symm _ _ _ hw (lv_sub hl [0, 1] rfl)
  · refine lv_iload_n hC.1 hC.2.1 dX6_has_4 rfl (lv_at hl 1 rfl) ?_
    refine lv_aload_n hC.1 hC.2.1 dX6_has_5 rfl (lv_at hl 0 rfl) ?_
    refine gf_X6_42 (v := nI nj) hC hw hN.2 dX6_has_6 ?_
    refine q_cmpge hC 16 cI dX6_has_9 (by decide) (fun (c4 : nI nj ≤ v) => ?_) (fun (c4 : ¬ (nI nj ≤ v)) => ?_)
    · refine lv_iconst (v := nI 0) hC.1 hC.2.1 dX6_has_16 (by decide) ?_
      exact J17_2 _ (if_neg (fun q => (fun q => q c4) q.2)).symm _ _ _ hw (lv_sub hl [0, 1] rfl)
    · refine lv_iconst (v := nI 1) hC.1 hC.2.1 dX6_has_12 (by decide) ?_
      refine lv_goto (tgt := 17) hC.1 hC.2.1 dX6_has_13 (by decide) ?_
      exact J17_2 _ (if_pos ⟨c3, c4⟩).symm _ _ _ hw (lv_sub hl [0, 1] rfl)
set_option maxHeartbeats 4000000 in
set_option maxRecDepth 100000 in
theorem tX10_isBelow (l : Launch) (E : EV) (a : Nat → Nat) (σ : St) (v : Int32) (b : Int32) : MI l E (XW E a) yX10_isBelow (Cond.code yX10_isBelow cX10_isBelow 2 (some .boolean)) ({ frames := 0, cells := 0, slots := 0, locals := 0 }) [.int (v), .int (b)] σ (fun r_ u_ => r_ = (if ¬ v < 0 ∧ v < b then (1 : Int32) else 0) ∧ u_ = σ) := by
  refine MI.mk (by decide +kernel) (Nat.le_of_ble_eq_true rfl) ?_
  intro p e s m args below meth c ls A Q hret hC hw hl
  have hC : Cxt E p s m args meth c cX10_isBelow 2 (some .boolean) RX10 A := hC
  have hl : lv_has ls 2 [(0, .int (v)), (1, .int (b))] := hl
  refine lv_iload_n hC.1 hC.2.1 dX10_isBelow_0 rfl (lv_at hl 0 rfl) ?_
  have J14_2 : ∀ (w1 : Int32), w1 = (if (¬ (v < 0)) ∧ (¬ (b ≤ v)) then (1 : Int32) else 0) → ∀ (H : Heap) (locs : List Loc) (ls : Array Slot), Wst E (XW E a) (σ) A s.heap H locs → lv_has ls 2 [(0, .int (v)), (1, .int (b))] → W p l e ({ frames := 0, cells := 0, slots := 0, locals := 0 }) s m args below meth c H locs 0 0 Q (F0 m 14 ls [.int (w1)]) := by
    intro w1 e2 H locs ls hw hl
    subst e2
    refine hret _ _ _ _ _ _ hw ?_ nz_B dX10_isBelow_14
    exact ⟨ite_iff (and_congr Iff.rfl Int32.not_le), rfl⟩
  refine q_iflt hC 13 cI dX10_isBelow_1 (by decide) (fun (c3 : v < 0) => ?_) (fun (c3 : ¬ (v < 0)) => ?_)
  · refine lv_iconst (v := nI 0) hC.1 hC.2.1 dX10_isBelow_13 (by decide) ?_
    exact J14_2 _ (if_neg (fun q => (fun q => q c3) q.1)).symm _ _ _ hw (lv_sub hl [0, 1] rfl)
  · refine lv_iload_n hC.1 hC.2.1 dX10_isBelow_4 rfl (lv_at hl 0 rfl) ?_
    refine lv_iload_n hC.1 hC.2.1 dX10_isBelow_5 rfl (lv_at hl 1 rfl) ?_
    refine q_cmpge hC 13 cI dX10_isBelow_6 (by decide) (fun (c4 : b ≤ v) => ?_) (fun (c4 : ¬ (b ≤ v)) => ?_)
    · refine lv_iconst (v := nI 0) hC.1 hC.2.1 dX10_isBelow_13 (by decide) ?_
      exact J14_2 _ (if_neg (fun q => (fun q => q c4) q.2)).symm _ _ _ hw (lv_sub hl [0, 1] rfl)
    · refine lv_iconst (v := nI 1) hC.1 hC.2.1 dX10_isBelow_9 (by decide) ?_
      refine lv_goto (tgt := 14) hC.1 hC.2.1 dX10_isBelow_10 (by decide) ?_
      exact J14_2 _ (if_pos ⟨c3, c4⟩).symm _ _ _ hw (lv_sub hl [0, 1] rfl)
set_option maxHeartbeats 4000000 in
set_option maxRecDepth 100000 in
theorem tX6_standsOn (l : Launch) (E : EV) (a : Nat → Nat) (σ : St) (j : Nat) (h : Int32) (hj : j < 24) : MI l E (XW E a) yX6_standsOn (Cond.code yX6_standsOn cX6_standsOn 3 (some .boolean)) ({ frames := 0, cells := 0, slots := 0, locals := 0 }) [.ref (a 67), .int (nI j), .int (h)] σ (fun r_ u_ => r_ = (if (σ 11) j = 1 ∧ (σ 12) j = h then (1 : Int32) else 0) ∧ u_ = σ) := by
  refine MI.mk (by decide +kernel) (Nat.le_of_ble_eq_true rfl) ?_
  intro p e s m args below meth c ls A Q hret hC hw hl
  have hC : Cxt E p s m args meth c cX6_standsOn 3 (some .boolean) RX6 A := hC
  have hl : lv_has ls 3 [(0, .ref (a 67)), (1, .int (nI j)), (2, .int (h))] := hl
  refine lv_aload_n hC.1 hC.2.1 dX6_standsOn_0 rfl (lv_at hl 0 rfl) ?_
  refine gf_X6_30 hC hw dX6_standsOn_1 ?_
  refine lv_iload_n hC.1 hC.2.1 dX6_standsOn_4 rfl (lv_at hl 1 rfl) ?_
  refine al_X11 (v := σ 11 j) hC hw (by omega) rfl dX6_standsOn_5 ?_
  refine lv_iconst (v := nI 1) hC.1 hC.2.1 dX6_standsOn_6 (by decide) ?_
  have J25_2 : ∀ (w1 : Int32), w1 = (if (σ 11 j = 1) ∧ (σ 12 j = h) then (1 : Int32) else 0) → ∀ (H : Heap) (locs : List Loc) (ls : Array Slot), Wst E (XW E a) (σ) A s.heap H locs → lv_has ls 3 [(0, .ref (a 67)), (1, .int (nI j)), (2, .int (h))] → W p l e ({ frames := 0, cells := 0, slots := 0, locals := 0 }) s m args below meth c H locs 0 0 Q (F0 m 25 ls [.int (w1)]) := by
    intro w1 e2 H locs ls hw hl
    subst e2
    refine hret _ _ _ _ _ _ hw ?_ nz_B dX6_standsOn_25
    exact ⟨rfl, rfl⟩
  refine q_cmpne hC 24 cI dX6_standsOn_7 (by decide) (fun (c3 : ¬ (σ 11 j = 1)) => ?_) (fun (c3 : σ 11 j = 1) => ?_)
  · refine lv_iconst (v := nI 0) hC.1 hC.2.1 dX6_standsOn_24 (by decide) ?_
    exact J25_2 _ (if_neg (fun q => c3 q.1)).symm _ _ _ hw (lv_sub hl [0, 1, 2] rfl)
  · refine lv_aload_n hC.1 hC.2.1 dX6_standsOn_10 rfl (lv_at hl 0 rfl) ?_
    refine gf_X6_33 hC hw dX6_standsOn_11 ?_
    refine lv_iload_n hC.1 hC.2.1 dX6_standsOn_14 rfl (lv_at hl 1 rfl) ?_
    refine al_X12 (v := σ 12 j) hC hw (by omega) rfl dX6_standsOn_15 ?_
    refine lv_iload_n hC.1 hC.2.1 dX6_standsOn_16 rfl (lv_at hl 2 rfl) ?_
    refine q_cmpne hC 24 cI dX6_standsOn_17 (by decide) (fun (c4 : ¬ (σ 12 j = h)) => ?_) (fun (c4 : σ 12 j = h) => ?_)
    · refine lv_iconst (v := nI 0) hC.1 hC.2.1 dX6_standsOn_24 (by decide) ?_
      exact J25_2 _ (if_neg (fun q => c4 q.2)).symm _ _ _ hw (lv_sub hl [0, 1, 2] rfl)
    · refine lv_iconst (v := nI 1) hC.1 hC.2.1 dX6_standsOn_20 (by decide) ?_
      refine lv_goto (tgt := 25) hC.1 hC.2.1 dX6_standsOn_21 (by decide) ?_
      exact J25_2 _ (if_pos ⟨c3, c4⟩).symm _ _ _ hw (lv_sub hl [0, 1, 2] rfl)
set_option maxHeartbeats 4000000 in
set_option maxRecDepth 100000 in
theorem tX6_canLeave (l : Launch) (E : EV) (a : Nat → Nat) (σ : St) (j : Nat) (hj : j < 24) : MI l E (XW E a) yX6_canLeave (Cond.code yX6_canLeave cX6_canLeave 2 (some .boolean)) ({ frames := 0, cells := 0, slots := 0, locals := 0 }) [.ref (a 67), .int (nI j)] σ (fun r_ u_ => r_ = (if (σ 11) j = 1 ∧ ¬ (σ 5) j = 3 then (1 : Int32) else 0) ∧ u_ = σ) := by
  refine MI.mk (by decide +kernel) (Nat.le_of_ble_eq_true rfl) ?_
  intro p e s m args below meth c ls A Q hret hC hw hl
  have hC : Cxt E p s m args meth c cX6_canLeave 2 (some .boolean) RX6 A := hC
  have hl : lv_has ls 2 [(0, .ref (a 67)), (1, .int (nI j))] := hl
  refine lv_aload_n hC.1 hC.2.1 dX6_canLeave_0 rfl (lv_at hl 0 rfl) ?_
  refine gf_X6_30 hC hw dX6_canLeave_1 ?_
  refine lv_iload_n hC.1 hC.2.1 dX6_canLeave_4 rfl (lv_at hl 1 rfl) ?_
  refine al_X11 (v := σ 11 j) hC hw (by omega) rfl dX6_canLeave_5 ?_
  refine lv_iconst (v := nI 1) hC.1 hC.2.1 dX6_canLeave_6 (by decide) ?_
  have J25_2 : ∀ (w1 : Int32), w1 = (if (σ 11 j = 1) ∧ (¬ (σ 5 j = 3)) then (1 : Int32) else 0) → ∀ (H : Heap) (locs : List Loc) (ls : Array Slot), Wst E (XW E a) (σ) A s.heap H locs → lv_has ls 2 [(0, .ref (a 67)), (1, .int (nI j))] → W p l e ({ frames := 0, cells := 0, slots := 0, locals := 0 }) s m args below meth c H locs 0 0 Q (F0 m 25 ls [.int (w1)]) := by
    intro w1 e2 H locs ls hw hl
    subst e2
    refine hret _ _ _ _ _ _ hw ?_ nz_B dX6_canLeave_25
    exact ⟨rfl, rfl⟩
  refine q_cmpne hC 24 cI dX6_canLeave_7 (by decide) (fun (c3 : ¬ (σ 11 j = 1)) => ?_) (fun (c3 : σ 11 j = 1) => ?_)
  · refine lv_iconst (v := nI 0) hC.1 hC.2.1 dX6_canLeave_24 (by decide) ?_
    exact J25_2 _ (if_neg (fun q => c3 q.1)).symm _ _ _ hw (lv_sub hl [0, 1] rfl)
  · refine lv_aload_n hC.1 hC.2.1 dX6_canLeave_10 rfl (lv_at hl 0 rfl) ?_
    refine gf_X6_9 hC hw dX6_canLeave_11 ?_
    refine lv_iload_n hC.1 hC.2.1 dX6_canLeave_14 rfl (lv_at hl 1 rfl) ?_
    refine al_X5 (v := σ 5 j) hC hw (by omega) rfl dX6_canLeave_15 ?_
    refine lv_iconst (v := nI 3) hC.1 hC.2.1 dX6_canLeave_16 (by decide) ?_
    refine q_cmpeq hC 24 cI dX6_canLeave_17 (by decide) (fun (c4 : σ 5 j = 3) => ?_) (fun (c4 : ¬ (σ 5 j = 3)) => ?_)
    · refine lv_iconst (v := nI 0) hC.1 hC.2.1 dX6_canLeave_24 (by decide) ?_
      exact J25_2 _ (if_neg (fun q => (fun q => q c4) q.2)).symm _ _ _ hw (lv_sub hl [0, 1] rfl)
    · refine lv_iconst (v := nI 1) hC.1 hC.2.1 dX6_canLeave_20 (by decide) ?_
      refine lv_goto (tgt := 25) hC.1 hC.2.1 dX6_canLeave_21 (by decide) ?_
      exact J25_2 _ (if_pos ⟨c3, c4⟩).symm _ _ _ hw (lv_sub hl [0, 1] rfl)
set_option maxHeartbeats 4000000 in
set_option maxRecDepth 100000 in
theorem tX4_tooMuch (l : Launch) (E : EV) (a : Nat → Nat) (σ : St) (nh : Nat) (nj : Nat) (E0 : St) (P : Nat → Int32) (j : Nat) (h : Nat) (i : Nat) (hN : cN2 σ nh nj) (hE : aE σ E0) (hS : cS E0 nh nj) (hFS : FSr E0 P nh nj (σ 16) (σ 17) (σ 18) (σ 19) (σ 20) (σ 21)) (hj : j < nj) (hh : h < nh) (hi : i < 3) : MI l E (XW E a) yX4_tooMuch (Cond.code yX4_tooMuch cX4_tooMuch 4 (some .int)) ({ frames := 0, cells := 0, slots := 0, locals := 0 }) [.ref (a 65), .int (nI j), .int (nI h), .int (nI i)] σ (fun r_ u_ => r_ = (E0 6 (3 * j + i) - m_left E0 P nj h i) ∧ u_ = σ) := by
  refine MI.mk (by decide +kernel) (Nat.le_of_ble_eq_true rfl) ?_
  intro p e s m args below meth c ls A Q hret hC hw hl
  have hC : Cxt E p s m args meth c cX4_tooMuch 4 (some .int) RX4 A := hC
  have hl : lv_has ls 4 [(0, .ref (a 65)), (1, .int (nI j)), (2, .int (nI h)), (3, .int (nI i))] := hl
  have hnh := hS.1
  have hnj := hS.2.1
  refine lv_aload_n hC.1 hC.2.1 dX4_tooMuch_0 rfl (lv_at hl 0 rfl) ?_
  refine gf_X4_34 hC hw dX4_tooMuch_1 ?_
  refine gf_X4_79 hC hw dX4_tooMuch_4 ?_
  refine lv_iload_n hC.1 hC.2.1 dX4_tooMuch_7 rfl (lv_at hl 1 rfl) ?_
  refine lv_iconst (v := nI 3) hC.1 hC.2.1 dX4_tooMuch_8 (by decide) ?_
  refine q_mulN hC dX4_tooMuch_9 ?_
  refine lv_iload_n hC.1 hC.2.1 dX4_tooMuch_10 rfl (lv_at hl 3 rfl) ?_
  refine q_addN hC dX4_tooMuch_11 ?_
  refine al_X6 (v := E0 6 (3 * j + i)) hC hw (by omega) ((congrFun hE.2.2.2.2.2.1 _).trans (congrArg (E0 6) (by omega))) dX4_tooMuch_12 ?_
  refine lv_aload_n hC.1 hC.2.1 dX4_tooMuch_13 rfl (lv_at hl 0 rfl) ?_
  refine gf_X4_9 hC hw dX4_tooMuch_14 ?_
  refine lv_iload_n hC.1 hC.2.1 dX4_tooMuch_17 rfl (lv_at hl 2 rfl) ?_
  refine lv_iconst (v := nI 3) hC.1 hC.2.1 dX4_tooMuch_18 (by decide) ?_
  refine q_mulN hC dX4_tooMuch_19 ?_
  refine lv_iload_n hC.1 hC.2.1 dX4_tooMuch_20 rfl (lv_at hl 3 rfl) ?_
  refine q_addN hC dX4_tooMuch_21 ?_
  refine al_X16 (v := m_left E0 P nj h i) hC hw (by omega) ((hFS.1 h (by omega)).1 i hi) dX4_tooMuch_22 ?_
  refine lv_isub hC.1 hC.2.1 dX4_tooMuch_23 ?_
  refine hret _ _ _ _ _ _ hw ?_ rfl dX4_tooMuch_24
  exact ⟨rfl, rfl⟩
set_option maxHeartbeats 4000000 in
set_option maxRecDepth 100000 in
theorem tX4_others (l : Launch) (E : EV) (a : Nat → Nat) (σ : St) (nh : Nat) (nj : Nat) (E0 : St) (P : Nat → Int32) (j : Nat) (h : Nat) (hN : cN2 σ nh nj) (hE : aE σ E0) (hS : cS E0 nh nj) (hFS : FSr E0 P nh nj (σ 16) (σ 17) (σ 18) (σ 19) (σ 20) (σ 21)) (hj : j < nj) (hh : h < nh) : MI l E (XW E a) yX4_others (Cond.code yX4_others cX4_others 3 (some .int)) ({ frames := 0, cells := 0, slots := 0, locals := 0 }) [.ref (a 65), .int (nI j), .int (nI h)] σ (fun r_ u_ => r_ = (m_oth E0 P nj j h) ∧ u_ = σ) := by
  refine MI.mk (by decide +kernel) (Nat.le_of_ble_eq_true rfl) ?_
  intro p e s m args below meth c ls A Q hret hC hw hl
  have hC : Cxt E p s m args meth c cX4_others 3 (some .int) RX4 A := hC
  have hl : lv_has ls 3 [(0, .ref (a 65)), (1, .int (nI j)), (2, .int (nI h))] := hl
  have hnh := hS.1
  have hnj := hS.2.1
  refine lv_aload_n hC.1 hC.2.1 dX4_others_0 rfl (lv_at hl 0 rfl) ?_
  refine gf_X4_34 hC hw dX4_others_1 ?_
  refine gf_X4_88 hC hw dX4_others_4 ?_
  refine lv_iload_n hC.1 hC.2.1 dX4_others_7 rfl (lv_at hl 1 rfl) ?_
  refine al_X5 (v := E0 5 j) hC hw (by omega) (congrFun hE.2.2.2.2.1 _) dX4_others_8 ?_
  refine lv_iconst (v := nI 4) hC.1 hC.2.1 dX4_others_9 (by decide) ?_
  refine q_cmpne hC 33 cI dX4_others_10 (by decide) (fun (c1 : ¬ (E0 5 j = 4)) => ?_) (fun (c1 : E0 5 j = 4) => ?_)
  · refine lv_aload_n hC.1 hC.2.1 dX4_others_33 rfl (lv_at hl 0 rfl) ?_
    refine gf_X4_34 hC hw dX4_others_34 ?_
    refine gf_X4_88 hC hw dX4_others_37 ?_
    refine lv_iload_n hC.1 hC.2.1 dX4_others_40 rfl (lv_at hl 1 rfl) ?_
    refine al_X5 (v := E0 5 j) hC hw (by omega) (congrFun hE.2.2.2.2.1 _) dX4_others_41 ?_
    refine lv_iconst (v := nI 5) hC.1 hC.2.1 dX4_others_42 (by decide) ?_
    refine q_cmpne hC 74 cI dX4_others_43 (by decide) (fun (c2 : ¬ (E0 5 j = 5)) => ?_) (fun (c2 : E0 5 j = 5) => ?_)
    · refine lv_iconst (v := nI 0) hC.1 hC.2.1 dX4_others_74 (by decide) ?_
      refine hret _ _ _ _ _ _ hw ?_ rfl dX4_others_75
      exact ⟨((if_neg c1).trans (if_neg c2)).symm, rfl⟩
    · refine lv_aload_n hC.1 hC.2.1 dX4_others_46 rfl (lv_at hl 0 rfl) ?_
      refine gf_X4_18 hC hw dX4_others_47 ?_
      refine lv_aload_n hC.1 hC.2.1 dX4_others_50 rfl (lv_at hl 0 rfl) ?_
      refine gf_X4_30 hC hw dX4_others_51 ?_
      refine gf_X4_85 hC hw dX4_others_54 ?_
      refine lv_iload_n hC.1 hC.2.1 dX4_others_57 rfl (lv_at hl 2 rfl) ?_
      have hHl := (hS.hl h (by omega)).2
      refine al_X2 (v := nI (hlN E0 h)) hC hw (by omega) ((congrFun hE.2.1 _).trans (hS.hl h (by omega)).1) dX4_others_58 ?_
      refine lv_bipush (v := nI 8) hC.1 hC.2.1 dX4_others_59 (by decide) ?_
      refine q_mulN hC dX4_others_61 ?_
      refine lv_aload_n hC.1 hC.2.1 dX4_others_62 rfl (lv_at hl 0 rfl) ?_
      refine gf_X4_34 hC hw dX4_others_63 ?_
      refine gf_X4_91 hC hw dX4_others_66 ?_
      refine lv_iload_n hC.1 hC.2.1 dX4_others_69 rfl (lv_at hl 1 rfl) ?_
      have hOt := (hS.ot j (by omega)).2
      refine al_X10 (v := nI (otN E0 j)) hC hw (by omega) ((congrFun hE.2.2.2.2.2.2.2.2.2.1 _).trans (hS.ot j (by omega)).1) dX4_others_70 ?_
      refine q_addN hC dX4_others_71 ?_
      refine al_X18 (v := m_gin E0 P nj (E0 10 j) (E0 2 h)) hC hw (by omega) ((hFS.2 _ (by omega) _ (by omega)).1.trans (congr2 (fun z y => m_gin E0 P nj z y) (hS.ot j (by omega)).1.symm (hS.hl h (by omega)).1.symm)) dX4_others_72 ?_
      refine hret _ _ _ _ _ _ hw ?_ rfl dX4_others_73
      exact ⟨((if_neg c1).trans (if_pos c2)).symm, rfl⟩
  · refine lv_aload_n hC.1 hC.2.1 dX4_others_13 rfl (lv_at hl 0 rfl) ?_
    refine gf_X4_15 hC hw dX4_others_14 ?_
    refine lv_iload_n hC.1 hC.2.1 dX4_others_17 rfl (lv_at hl 2 rfl) ?_
    refine lv_bipush (v := nI 8) hC.1 hC.2.1 dX4_others_18 (by decide) ?_
    refine q_mulN hC dX4_others_20 ?_
    refine lv_aload_n hC.1 hC.2.1 dX4_others_21 rfl (lv_at hl 0 rfl) ?_
    refine gf_X4_34 hC hw dX4_others_22 ?_
    refine gf_X4_91 hC hw dX4_others_25 ?_
    refine lv_iload_n hC.1 hC.2.1 dX4_others_28 rfl (lv_at hl 1 rfl) ?_
    have hOt := (hS.ot j (by omega)).2
    refine al_X10 (v := nI (otN E0 j)) hC hw (by omega) ((congrFun hE.2.2.2.2.2.2.2.2.2.1 _).trans (hS.ot j (by omega)).1) dX4_others_29 ?_
    refine q_addN hC dX4_others_30 ?_
    refine al_X17 (v := m_gon E0 P nj (E0 10 j) h) hC hw (by omega) (((hFS.1 h (by omega)).2 _ (by omega)).1.trans (congrArg (fun z => m_gon E0 P nj z h) (hS.ot j (by omega)).1.symm)) dX4_others_31 ?_
    refine hret _ _ _ _ _ _ hw ?_ rfl dX4_others_32
    exact ⟨(if_pos c1).symm, rfl⟩
set_option maxHeartbeats 4000000 in
set_option maxRecDepth 100000 in
theorem tX4_isUneven (l : Launch) (E : EV) (a : Nat → Nat) (σ : St) (nh : Nat) (nj : Nat) (E0 : St) (P : Nat → Int32) (j : Nat) (h : Nat) (hN : cN2 σ nh nj) (hE : aE σ E0) (hS : cS E0 nh nj) (hFS : FSr E0 P nh nj (σ 16) (σ 17) (σ 18) (σ 19) (σ 20) (σ 21)) (hj : j < nj) (hh : h < nh) : MI l E (XW E a) yX4_isUneven (Cond.code yX4_isUneven cX4_isUneven 8 (some .boolean)) ({ frames := 0, cells := 0, slots := 0, locals := 0 }) [.ref (a 65), .int (nI j), .int (nI h)] σ (fun r_ u_ => r_ = (if (E0 5 j = 1 ∨ E0 5 j = 2) ∧ m_crd E0 P nh nj j h = true then (1 : Int32) else 0) ∧ u_ = σ) := by
  refine MI.mk (by decide +kernel) (Nat.le_of_ble_eq_true rfl) ?_
  intro p e s m args below meth c ls A Q hret hC hw hl
  have hC : Cxt E p s m args meth c cX4_isUneven 8 (some .boolean) RX4 A := hC
  have hl : lv_has ls 8 [(0, .ref (a 65)), (1, .int (nI j)), (2, .int (nI h))] := hl
  have hnh := hS.1
  have hnj := hS.2.1
  refine lv_aload_n hC.1 hC.2.1 dX4_isUneven_0 rfl (lv_at hl 0 rfl) ?_
  refine gf_X4_34 hC hw dX4_isUneven_1 ?_
  refine gf_X4_88 hC hw dX4_isUneven_4 ?_
  refine lv_iload_n hC.1 hC.2.1 dX4_isUneven_7 rfl (lv_at hl 1 rfl) ?_
  refine al_X5 (v := E0 5 j) hC hw (by omega) (congrFun hE.2.2.2.2.1 _) dX4_isUneven_8 ?_
  refine lv_istore_n (lv' := [(3, .int (E0 5 j)), (0, .ref (a 65)), (1, .int (nI j)), (2, .int (nI h))]) hC.1 hC.2.1 dX4_isUneven_9 rfl hl (by decide) rfl (fun ls hl => ?_)
  refine lv_iload_n hC.1 hC.2.1 dX4_isUneven_10 rfl (lv_at hl 0 rfl) ?_
  refine lv_iconst (v := nI 1) hC.1 hC.2.1 dX4_isUneven_11 (by decide) ?_
  refine q_cmpeq hC 22 cI dX4_isUneven_12 (by decide) (fun (c1 : E0 5 j = 1) => ?_) (fun (c1 : ¬ (E0 5 j = 1)) => ?_)
  · refine lv_iload_n hC.1 hC.2.1 dX4_isUneven_22 rfl (lv_at hl 0 rfl) ?_
    refine lv_iconst (v := nI 1) hC.1 hC.2.1 dX4_isUneven_23 (by decide) ?_
    refine q_cmpne hC 34 cI dX4_isUneven_24 (by decide) (fun (c2 : ¬ (E0 5 j = 1)) => ?_) (fun (c2 : E0 5 j = 1) => ?_)
    · exact absurd c1 c2
    · refine lv_aload_n hC.1 hC.2.1 dX4_isUneven_27 rfl (lv_at hl 1 rfl) ?_
      refine gf_X4_24 hC hw dX4_isUneven_28 ?_
      refine lv_goto (tgt := 38) hC.1 hC.2.1 dX4_isUneven_31 (by decide) ?_
      refine lv_astore (lv' := [(4, .ref (a 20)), (3, .int (E0 5 j)), (0, .ref (a 65)), (1, .int (nI j)), (2, .int (nI h))]) hC.1 hC.2.1 dX4_isUneven_38 hl (by decide) rfl (fun ls hl => ?_)
      refine lv_aload_n hC.1 hC.2.1 dX4_isUneven_40 rfl (lv_at hl 2 rfl) ?_
      refine gf_X4_34 hC hw dX4_isUneven_41 ?_
      refine gf_X4_82 hC hw dX4_isUneven_44 ?_
      refine lv_iload_n hC.1 hC.2.1 dX4_isUneven_47 rfl (lv_at hl 3 rfl) ?_
      have hGr := (hS.gr j (by omega)).2
      refine al_X8 (v := nI (grN E0 j)) hC hw (by omega) ((congrFun hE.2.2.2.2.2.2.2.1 _).trans (hS.gr j (by omega)).1) dX4_isUneven_48 ?_
      refine lv_istore (lv' := [(5, .int (nI (grN E0 j))), (4, .ref (a 20)), (3, .int (E0 5 j)), (0, .ref (a 65)), (1, .int (nI j)), (2, .int (nI h))]) hC.1 hC.2.1 dX4_isUneven_49 hl (by decide) rfl (fun ls hl => ?_)
      refine lv_aload hC.1 hC.2.1 dX4_isUneven_51 (lv_at hl 1 rfl) ?_
      refine lv_aload_n hC.1 hC.2.1 dX4_isUneven_53 rfl (lv_at hl 3 rfl) ?_
      refine gf_X4_30 hC hw dX4_isUneven_54 ?_
      refine gf_X4_85 hC hw dX4_isUneven_57 ?_
      refine lv_iload_n hC.1 hC.2.1 dX4_isUneven_60 rfl (lv_at hl 5 rfl) ?_
      have hHl := (hS.hl h (by omega)).2
      refine al_X2 (v := nI (hlN E0 h)) hC hw (by omega) ((congrFun hE.2.1 _).trans (hS.hl h (by omega)).1) dX4_isUneven_61 ?_
      refine lv_bipush (v := nI 8) hC.1 hC.2.1 dX4_isUneven_62 (by decide) ?_
      refine q_mulN hC dX4_isUneven_64 ?_
      refine lv_iload hC.1 hC.2.1 dX4_isUneven_65 (lv_at hl 0 rfl) ?_
      refine q_addN hC dX4_isUneven_67 ?_
      refine al_X20 (v := m_alk E0 P nj 1 (E0 8 j) (E0 2 h)) hC hw (by omega) ((hFS.2 _ (by omega) _ (by omega)).2.1.trans (congr2 (fun z y => m_alk E0 P nj 1 z y) (hS.gr j (by omega)).1.symm (hS.hl h (by omega)).1.symm)) dX4_isUneven_68 ?_
      refine lv_istore (lv' := [(6, .int (m_alk E0 P nj 1 (E0 8 j) (E0 2 h))), (5, .int (nI (grN E0 j))), (4, .ref (a 20)), (3, .int (E0 5 j)), (0, .ref (a 65)), (1, .int (nI j)), (2, .int (nI h))]) hC.1 hC.2.1 dX4_isUneven_69 hl (by decide) rfl (fun ls hl => ?_)
      refine lv_iconst (v := nI 0) hC.1 hC.2.1 dX4_isUneven_71 (by decide) ?_
      refine lv_istore (lv' := [(7, .int (nI 0)), (6, .int (m_alk E0 P nj 1 (E0 8 j) (E0 2 h))), (5, .int (nI (grN E0 j))), (4, .ref (a 20)), (3, .int (E0 5 j)), (0, .ref (a 65)), (1, .int (nI j)), (2, .int (nI h))]) hC.1 hC.2.1 dX4_isUneven_72 hl (by decide) rfl (fun ls hl => ?_)
      have L74_2 : ∀ (n : Nat), ∀ (x : Nat), (x ≤ nh) → (∀ y, y < x → ¬ (E0 4 y = 1 ∧ m_alk E0 P nj 1 (E0 8 j) (E0 2 y) < m_alk E0 P nj 1 (E0 8 j) (E0 2 h))) → (nh - x) < n → ∀ (H : Heap) (locs : List Loc) (ls : Array Slot), Wst E (XW E a) (σ) A s.heap H locs → lv_has ls 8 [(0, .ref (a 65)), (1, .int (nI j)), (2, .int (nI h)), (3, .int (E0 5 j)), (4, .ref (a 20)), (5, .int (nI (grN E0 j))), (6, .int (m_alk E0 P nj 1 (E0 8 j) (E0 2 h))), (7, .int (nI x))] → W p l e ({ frames := 0, cells := 0, slots := 0, locals := 0 }) s m args below meth c H locs 0 0 Q (F0 m 74 ls []) := by
        intro n
        induction n with
        | zero => intro x hx hno hn; exact absurd hn (Nat.not_lt_zero _)
        | succ n ih74 =>
          intro x hx hno hn74 H locs ls hw hl
          refine lv_iload hC.1 hC.2.1 dX4_isUneven_74 (lv_at hl 7 rfl) ?_
          refine lv_aload_n hC.1 hC.2.1 dX4_isUneven_76 rfl (lv_at hl 0 rfl) ?_
          refine gf_X4_30 hC hw dX4_isUneven_77 ?_
          refine gf_X4_119 (v := nI nh) hC hw hN.1 dX4_isUneven_80 ?_
          refine q_cmpge hC 131 (cNle (by omega) (by omega)) dX4_isUneven_83 (by decide) (fun (c4 : nh ≤ x) => ?_) (fun (c4 : x < nh) => ?_)
          · refine lv_iconst (v := nI 0) hC.1 hC.2.1 dX4_isUneven_131 (by decide) ?_
            refine hret _ _ _ _ _ _ hw ?_ (by decide) dX4_isUneven_132
            exact ⟨(if_neg (fun q => by obtain ⟨y, y1, y2⟩ := anyB_iff.mp q.2; have y3 := of_decide_eq_true y2; rw [c1] at y3; exact hno y (by omega) y3)).symm, rfl⟩
          · refine lv_aload_n hC.1 hC.2.1 dX4_isUneven_86 rfl (lv_at hl 0 rfl) ?_
            refine gf_X4_30 hC hw dX4_isUneven_87 ?_
            refine gf_X4_98 hC hw dX4_isUneven_90 ?_
            refine lv_iload hC.1 hC.2.1 dX4_isUneven_93 (lv_at hl 7 rfl) ?_
            refine al_X4 (v := E0 4 x) hC hw (by omega) (congrFun hE.2.2.2.1 _) dX4_isUneven_95 ?_
            refine q_ifeq hC 125 cI dX4_isUneven_96 (by decide) (fun (c5 : E0 4 x = 0) => ?_) (fun (c5 : ¬ (E0 4 x = 0)) => ?_)
            · refine lv_iinc (v := nI (x + 1)) (lv' := [(7, .int (nI (x + 1))), (0, .ref (a 65)), (1, .int (nI j)), (2, .int (nI h)), (3, .int (E0 5 j)), (4, .ref (a 20)), (5, .int (nI (grN E0 j))), (6, .int (m_alk E0 P nj 1 (E0 8 j) (E0 2 h)))]) hC.1 hC.2.1 dX4_isUneven_125 hl (k := 7) rfl (nI_add _ _) (by decide) rfl (fun ls hl => ?_)
              refine lv_goto (tgt := 74) hC.1 hC.2.1 dX4_isUneven_128 (by decide) ?_
              exact ih74 (x + 1) (by omega) (fun y q => by by_cases z : y = x; (subst z; exact fun w => absurd (w.1.symm.trans c5) (by decide)); exact hno y (by omega)) (by omega) _ _ _ hw (lv_sub hl [1, 2, 3, 4, 5, 6, 7, 0] rfl)
            · refine lv_iload hC.1 hC.2.1 dX4_isUneven_99 (lv_at hl 6 rfl) ?_
              refine lv_aload hC.1 hC.2.1 dX4_isUneven_101 (lv_at hl 4 rfl) ?_
              refine lv_aload_n hC.1 hC.2.1 dX4_isUneven_103 rfl (lv_at hl 0 rfl) ?_
              refine gf_X4_30 hC hw dX4_isUneven_104 ?_
              refine gf_X4_85 hC hw dX4_isUneven_107 ?_
              refine lv_iload hC.1 hC.2.1 dX4_isUneven_110 (lv_at hl 7 rfl) ?_
              have hHl := (hS.hl x (by omega)).2
              refine al_X2 (v := nI (hlN E0 x)) hC hw (by omega) ((congrFun hE.2.1 _).trans (hS.hl x (by omega)).1) dX4_isUneven_112 ?_
              refine lv_bipush (v := nI 8) hC.1 hC.2.1 dX4_isUneven_113 (by decide) ?_
              refine q_mulN hC dX4_isUneven_115 ?_
              refine lv_iload hC.1 hC.2.1 dX4_isUneven_116 (lv_at hl 5 rfl) ?_
              refine q_addN hC dX4_isUneven_118 ?_
              refine al_X20 (v := m_alk E0 P nj 1 (E0 8 j) (E0 2 x)) hC hw (by omega) ((hFS.2 _ (by omega) _ (by omega)).2.1.trans (congr2 (fun z y => m_alk E0 P nj 1 z y) (hS.gr j (by omega)).1.symm (hS.hl x (by omega)).1.symm)) dX4_isUneven_119 ?_
              refine q_cmple hC 125 cI dX4_isUneven_120 (by decide) (fun (c6 : (m_alk E0 P nj 1 (E0 8 j) (E0 2 h)) ≤ (m_alk E0 P nj 1 (E0 8 j) (E0 2 x))) => ?_) (fun (c6 : ¬ ((m_alk E0 P nj 1 (E0 8 j) (E0 2 h)) ≤ (m_alk E0 P nj 1 (E0 8 j) (E0 2 x)))) => ?_)
              · refine lv_iinc (v := nI (x + 1)) (lv' := [(7, .int (nI (x + 1))), (0, .ref (a 65)), (1, .int (nI j)), (2, .int (nI h)), (3, .int (E0 5 j)), (4, .ref (a 20)), (5, .int (nI (grN E0 j))), (6, .int (m_alk E0 P nj 1 (E0 8 j) (E0 2 h)))]) hC.1 hC.2.1 dX4_isUneven_125 hl (k := 7) rfl (nI_add _ _) (by decide) rfl (fun ls hl => ?_)
                refine lv_goto (tgt := 74) hC.1 hC.2.1 dX4_isUneven_128 (by decide) ?_
                exact ih74 (x + 1) (by omega) (fun y q => by by_cases z : y = x; (subst z; exact fun w => absurd w.2 (Int32.not_lt.mpr c6)); exact hno y (by omega)) (by omega) _ _ _ hw (lv_sub hl [1, 2, 3, 4, 5, 6, 7, 0] rfl)
              · refine lv_iconst (v := nI 1) hC.1 hC.2.1 dX4_isUneven_123 (by decide) ?_
                refine hret _ _ _ _ _ _ hw ?_ (by decide) dX4_isUneven_124
                have hup := (hS.2.2.1 x (by omega)).2.1.resolve_left c5
                exact ⟨(if_pos ⟨Or.inl c1, anyB_iff.mpr ⟨x, by omega, decide_eq_true ⟨hup, by rw [c1]; exact Int32.not_le.mp c6⟩⟩⟩).symm, rfl⟩
      exact L74_2 _ 0 (Nat.zero_le _) (fun y q => absurd q (Nat.not_lt_zero _)) (Nat.lt_succ_self _) _ _ _ hw (lv_sub hl [5, 6, 7, 4, 3, 2, 1, 0] rfl)
  · refine lv_iload_n hC.1 hC.2.1 dX4_isUneven_15 rfl (lv_at hl 0 rfl) ?_
    refine lv_iconst (v := nI 2) hC.1 hC.2.1 dX4_isUneven_16 (by decide) ?_
    refine q_cmpeq hC 22 cI dX4_isUneven_17 (by decide) (fun (c7 : E0 5 j = 2) => ?_) (fun (c7 : ¬ (E0 5 j = 2)) => ?_)
    · refine lv_iload_n hC.1 hC.2.1 dX4_isUneven_22 rfl (lv_at hl 0 rfl) ?_
      refine lv_iconst (v := nI 1) hC.1 hC.2.1 dX4_isUneven_23 (by decide) ?_
      refine q_cmpne hC 34 cI dX4_isUneven_24 (by decide) (fun (c8 : ¬ (E0 5 j = 1)) => ?_) (fun (c8 : E0 5 j = 1) => ?_)
      · refine lv_aload_n hC.1 hC.2.1 dX4_isUneven_34 rfl (lv_at hl 1 rfl) ?_
        refine gf_X4_27 hC hw dX4_isUneven_35 ?_
        refine lv_astore (lv' := [(4, .ref (a 21)), (3, .int (E0 5 j)), (0, .ref (a 65)), (1, .int (nI j)), (2, .int (nI h))]) hC.1 hC.2.1 dX4_isUneven_38 hl (by decide) rfl (fun ls hl => ?_)
        refine lv_aload_n hC.1 hC.2.1 dX4_isUneven_40 rfl (lv_at hl 2 rfl) ?_
        refine gf_X4_34 hC hw dX4_isUneven_41 ?_
        refine gf_X4_82 hC hw dX4_isUneven_44 ?_
        refine lv_iload_n hC.1 hC.2.1 dX4_isUneven_47 rfl (lv_at hl 3 rfl) ?_
        have hGr := (hS.gr j (by omega)).2
        refine al_X8 (v := nI (grN E0 j)) hC hw (by omega) ((congrFun hE.2.2.2.2.2.2.2.1 _).trans (hS.gr j (by omega)).1) dX4_isUneven_48 ?_
        refine lv_istore (lv' := [(5, .int (nI (grN E0 j))), (4, .ref (a 21)), (3, .int (E0 5 j)), (0, .ref (a 65)), (1, .int (nI j)), (2, .int (nI h))]) hC.1 hC.2.1 dX4_isUneven_49 hl (by decide) rfl (fun ls hl => ?_)
        refine lv_aload hC.1 hC.2.1 dX4_isUneven_51 (lv_at hl 1 rfl) ?_
        refine lv_aload_n hC.1 hC.2.1 dX4_isUneven_53 rfl (lv_at hl 3 rfl) ?_
        refine gf_X4_30 hC hw dX4_isUneven_54 ?_
        refine gf_X4_85 hC hw dX4_isUneven_57 ?_
        refine lv_iload_n hC.1 hC.2.1 dX4_isUneven_60 rfl (lv_at hl 5 rfl) ?_
        have hHl := (hS.hl h (by omega)).2
        refine al_X2 (v := nI (hlN E0 h)) hC hw (by omega) ((congrFun hE.2.1 _).trans (hS.hl h (by omega)).1) dX4_isUneven_61 ?_
        refine lv_bipush (v := nI 8) hC.1 hC.2.1 dX4_isUneven_62 (by decide) ?_
        refine q_mulN hC dX4_isUneven_64 ?_
        refine lv_iload hC.1 hC.2.1 dX4_isUneven_65 (lv_at hl 0 rfl) ?_
        refine q_addN hC dX4_isUneven_67 ?_
        refine al_X21 (v := m_alk E0 P nj 2 (E0 8 j) (E0 2 h)) hC hw (by omega) ((hFS.2 _ (by omega) _ (by omega)).2.2.trans (congr2 (fun z y => m_alk E0 P nj 2 z y) (hS.gr j (by omega)).1.symm (hS.hl h (by omega)).1.symm)) dX4_isUneven_68 ?_
        refine lv_istore (lv' := [(6, .int (m_alk E0 P nj 2 (E0 8 j) (E0 2 h))), (5, .int (nI (grN E0 j))), (4, .ref (a 21)), (3, .int (E0 5 j)), (0, .ref (a 65)), (1, .int (nI j)), (2, .int (nI h))]) hC.1 hC.2.1 dX4_isUneven_69 hl (by decide) rfl (fun ls hl => ?_)
        refine lv_iconst (v := nI 0) hC.1 hC.2.1 dX4_isUneven_71 (by decide) ?_
        refine lv_istore (lv' := [(7, .int (nI 0)), (6, .int (m_alk E0 P nj 2 (E0 8 j) (E0 2 h))), (5, .int (nI (grN E0 j))), (4, .ref (a 21)), (3, .int (E0 5 j)), (0, .ref (a 65)), (1, .int (nI j)), (2, .int (nI h))]) hC.1 hC.2.1 dX4_isUneven_72 hl (by decide) rfl (fun ls hl => ?_)
        have L74_8 : ∀ (n : Nat), ∀ (x : Nat), (x ≤ nh) → (∀ y, y < x → ¬ (E0 4 y = 1 ∧ m_alk E0 P nj 2 (E0 8 j) (E0 2 y) < m_alk E0 P nj 2 (E0 8 j) (E0 2 h))) → (nh - x) < n → ∀ (H : Heap) (locs : List Loc) (ls : Array Slot), Wst E (XW E a) (σ) A s.heap H locs → lv_has ls 8 [(0, .ref (a 65)), (1, .int (nI j)), (2, .int (nI h)), (3, .int (E0 5 j)), (4, .ref (a 21)), (5, .int (nI (grN E0 j))), (6, .int (m_alk E0 P nj 2 (E0 8 j) (E0 2 h))), (7, .int (nI x))] → W p l e ({ frames := 0, cells := 0, slots := 0, locals := 0 }) s m args below meth c H locs 0 0 Q (F0 m 74 ls []) := by
          intro n
          induction n with
          | zero => intro x hx hno hn; exact absurd hn (Nat.not_lt_zero _)
          | succ n ih74 =>
            intro x hx hno hn74 H locs ls hw hl
            refine lv_iload hC.1 hC.2.1 dX4_isUneven_74 (lv_at hl 7 rfl) ?_
            refine lv_aload_n hC.1 hC.2.1 dX4_isUneven_76 rfl (lv_at hl 0 rfl) ?_
            refine gf_X4_30 hC hw dX4_isUneven_77 ?_
            refine gf_X4_119 (v := nI nh) hC hw hN.1 dX4_isUneven_80 ?_
            refine q_cmpge hC 131 (cNle (by omega) (by omega)) dX4_isUneven_83 (by decide) (fun (c10 : nh ≤ x) => ?_) (fun (c10 : x < nh) => ?_)
            · refine lv_iconst (v := nI 0) hC.1 hC.2.1 dX4_isUneven_131 (by decide) ?_
              refine hret _ _ _ _ _ _ hw ?_ (by decide) dX4_isUneven_132
              exact ⟨(if_neg (fun q => by obtain ⟨y, y1, y2⟩ := anyB_iff.mp q.2; have y3 := of_decide_eq_true y2; rw [c7] at y3; exact hno y (by omega) y3)).symm, rfl⟩
            · refine lv_aload_n hC.1 hC.2.1 dX4_isUneven_86 rfl (lv_at hl 0 rfl) ?_
              refine gf_X4_30 hC hw dX4_isUneven_87 ?_
              refine gf_X4_98 hC hw dX4_isUneven_90 ?_
              refine lv_iload hC.1 hC.2.1 dX4_isUneven_93 (lv_at hl 7 rfl) ?_
              refine al_X4 (v := E0 4 x) hC hw (by omega) (congrFun hE.2.2.2.1 _) dX4_isUneven_95 ?_
              refine q_ifeq hC 125 cI dX4_isUneven_96 (by decide) (fun (c11 : E0 4 x = 0) => ?_) (fun (c11 : ¬ (E0 4 x = 0)) => ?_)
              · refine lv_iinc (v := nI (x + 1)) (lv' := [(7, .int (nI (x + 1))), (0, .ref (a 65)), (1, .int (nI j)), (2, .int (nI h)), (3, .int (E0 5 j)), (4, .ref (a 21)), (5, .int (nI (grN E0 j))), (6, .int (m_alk E0 P nj 2 (E0 8 j) (E0 2 h)))]) hC.1 hC.2.1 dX4_isUneven_125 hl (k := 7) rfl (nI_add _ _) (by decide) rfl (fun ls hl => ?_)
                refine lv_goto (tgt := 74) hC.1 hC.2.1 dX4_isUneven_128 (by decide) ?_
                exact ih74 (x + 1) (by omega) (fun y q => by by_cases z : y = x; (subst z; exact fun w => absurd (w.1.symm.trans c11) (by decide)); exact hno y (by omega)) (by omega) _ _ _ hw (lv_sub hl [1, 2, 3, 4, 5, 6, 7, 0] rfl)
              · refine lv_iload hC.1 hC.2.1 dX4_isUneven_99 (lv_at hl 6 rfl) ?_
                refine lv_aload hC.1 hC.2.1 dX4_isUneven_101 (lv_at hl 4 rfl) ?_
                refine lv_aload_n hC.1 hC.2.1 dX4_isUneven_103 rfl (lv_at hl 0 rfl) ?_
                refine gf_X4_30 hC hw dX4_isUneven_104 ?_
                refine gf_X4_85 hC hw dX4_isUneven_107 ?_
                refine lv_iload hC.1 hC.2.1 dX4_isUneven_110 (lv_at hl 7 rfl) ?_
                have hHl := (hS.hl x (by omega)).2
                refine al_X2 (v := nI (hlN E0 x)) hC hw (by omega) ((congrFun hE.2.1 _).trans (hS.hl x (by omega)).1) dX4_isUneven_112 ?_
                refine lv_bipush (v := nI 8) hC.1 hC.2.1 dX4_isUneven_113 (by decide) ?_
                refine q_mulN hC dX4_isUneven_115 ?_
                refine lv_iload hC.1 hC.2.1 dX4_isUneven_116 (lv_at hl 5 rfl) ?_
                refine q_addN hC dX4_isUneven_118 ?_
                refine al_X21 (v := m_alk E0 P nj 2 (E0 8 j) (E0 2 x)) hC hw (by omega) ((hFS.2 _ (by omega) _ (by omega)).2.2.trans (congr2 (fun z y => m_alk E0 P nj 2 z y) (hS.gr j (by omega)).1.symm (hS.hl x (by omega)).1.symm)) dX4_isUneven_119 ?_
                refine q_cmple hC 125 cI dX4_isUneven_120 (by decide) (fun (c12 : (m_alk E0 P nj 2 (E0 8 j) (E0 2 h)) ≤ (m_alk E0 P nj 2 (E0 8 j) (E0 2 x))) => ?_) (fun (c12 : ¬ ((m_alk E0 P nj 2 (E0 8 j) (E0 2 h)) ≤ (m_alk E0 P nj 2 (E0 8 j) (E0 2 x)))) => ?_)
                · refine lv_iinc (v := nI (x + 1)) (lv' := [(7, .int (nI (x + 1))), (0, .ref (a 65)), (1, .int (nI j)), (2, .int (nI h)), (3, .int (E0 5 j)), (4, .ref (a 21)), (5, .int (nI (grN E0 j))), (6, .int (m_alk E0 P nj 2 (E0 8 j) (E0 2 h)))]) hC.1 hC.2.1 dX4_isUneven_125 hl (k := 7) rfl (nI_add _ _) (by decide) rfl (fun ls hl => ?_)
                  refine lv_goto (tgt := 74) hC.1 hC.2.1 dX4_isUneven_128 (by decide) ?_
                  exact ih74 (x + 1) (by omega) (fun y q => by by_cases z : y = x; (subst z; exact fun w => absurd w.2 (Int32.not_lt.mpr c12)); exact hno y (by omega)) (by omega) _ _ _ hw (lv_sub hl [1, 2, 3, 4, 5, 6, 7, 0] rfl)
                · refine lv_iconst (v := nI 1) hC.1 hC.2.1 dX4_isUneven_123 (by decide) ?_
                  refine hret _ _ _ _ _ _ hw ?_ (by decide) dX4_isUneven_124
                  have hup := (hS.2.2.1 x (by omega)).2.1.resolve_left c11
                  exact ⟨(if_pos ⟨Or.inr c7, anyB_iff.mpr ⟨x, by omega, decide_eq_true ⟨hup, by rw [c7]; exact Int32.not_le.mp c12⟩⟩⟩).symm, rfl⟩
        exact L74_8 _ 0 (Nat.zero_le _) (fun y q => absurd q (Nat.not_lt_zero _)) (Nat.lt_succ_self _) _ _ _ hw (lv_sub hl [5, 6, 7, 4, 3, 2, 1, 0] rfl)
      · exact absurd c8 c1
    · refine lv_iconst (v := nI 0) hC.1 hC.2.1 dX4_isUneven_20 (by decide) ?_
      refine hret _ _ _ _ _ _ hw ?_ (by decide) dX4_isUneven_21
      exact ⟨(if_neg (fun q => q.1.elim c1 c7)).symm, rfl⟩
set_option maxHeartbeats 4000000 in
set_option maxRecDepth 100000 in
theorem tX4_reason (l : Launch) (E : EV) (a : Nat → Nat) (σ : St) (nh : Nat) (nj : Nat) (E0 : St) (P : Nat → Int32) (j : Nat) (h : Nat) (hN : cN2 σ nh nj) (hE : aE σ E0) (hS : cS E0 nh nj) (hFS : FSr E0 P nh nj (σ 16) (σ 17) (σ 18) (σ 19) (σ 20) (σ 21)) (hj : j < nj) (hh : h < nh) : MI l E (XW E a) yX4_reason (Cond.code yX4_reason cX4_reason 5 (some .int)) ({ frames := 1, cells := 0, slots := 0, locals := 27 }) [.ref (a 65), .int (nI j), .int (nI h)] σ (fun r_ u_ => r_ = (m_why E0 P nh nj j h) ∧ u_ = σ) := by
  refine MI.mk (by decide +kernel) (Nat.le_of_ble_eq_true rfl) ?_
  intro p e s m args below meth c ls A Q hret hC hw hl
  have hC : Cxt E p s m args meth c cX4_reason 5 (some .int) RX4 A := hC
  have hl : lv_has ls 5 [(0, .ref (a 65)), (1, .int (nI j)), (2, .int (nI h))] := hl
  have hnh := hS.1
  have hnj := hS.2.1
  refine lv_aload_n hC.1 hC.2.1 dX4_reason_0 rfl (lv_at hl 0 rfl) ?_
  refine gf_X4_30 hC hw dX4_reason_1 ?_
  refine gf_X4_98 hC hw dX4_reason_4 ?_
  refine lv_iload_n hC.1 hC.2.1 dX4_reason_7 rfl (lv_at hl 2 rfl) ?_
  refine al_X4 (v := E0 4 h) hC hw (by omega) (congrFun hE.2.2.2.1 _) dX4_reason_8 ?_
  refine q_ifne hC 14 cI dX4_reason_9 (by decide) (fun (c1 : ¬ (E0 4 h = 0)) => ?_) (fun (c1 : E0 4 h = 0) => ?_)
  · refine lv_aload_n hC.1 hC.2.1 dX4_reason_14 rfl (lv_at hl 0 rfl) ?_
    refine gf_X4_30 hC hw dX4_reason_15 ?_
    refine gf_X4_102 hC hw dX4_reason_18 ?_
    refine lv_iload_n hC.1 hC.2.1 dX4_reason_21 rfl (lv_at hl 2 rfl) ?_
    refine al_X3 (v := E0 3 h) hC hw (by omega) (congrFun hE.2.2.1 _) dX4_reason_22 ?_
    refine lv_aload_n hC.1 hC.2.1 dX4_reason_23 rfl (lv_at hl 0 rfl) ?_
    refine gf_X4_34 hC hw dX4_reason_24 ?_
    refine gf_X4_105 hC hw dX4_reason_27 ?_
    refine lv_iload_n hC.1 hC.2.1 dX4_reason_30 rfl (lv_at hl 1 rfl) ?_
    refine al_X9 (v := E0 9 j) hC hw (by omega) (congrFun hE.2.2.2.2.2.2.2.2.1 _) dX4_reason_31 ?_
    refine lv_iconst (v := (-1)) hC.1 hC.2.1 dX4_reason_32 (by decide) ?_
    refine lv_ixor hC.1 hC.2.1 dX4_reason_33 ?_
    refine lv_iand hC.1 hC.2.1 dX4_reason_34 ?_
    refine q_ifeq hC 40 cI dX4_reason_35 (by decide) (fun (c2 : ((E0 3 h) &&& ((E0 9 j) ^^^ (-1))) = 0) => ?_) (fun (c2 : ¬ (((E0 3 h) &&& ((E0 9 j) ^^^ (-1))) = 0)) => ?_)
    · refine lv_iconst (v := nI 0) hC.1 hC.2.1 dX4_reason_40 (by decide) ?_
      refine lv_istore_n (lv' := [(3, .int (nI 0)), (0, .ref (a 65)), (1, .int (nI j)), (2, .int (nI h))]) hC.1 hC.2.1 dX4_reason_41 rfl hl (by decide) rfl (fun ls hl => ?_)
      have L42_2 : ∀ (n : Nat), ∀ (i : Nat), (i ≤ 3) → (∀ x, x < i → ¬ m_left E0 P nj h x < E0 6 (3 * j + x)) → (3 - i) < n → ∀ (H : Heap) (locs : List Loc) (ls : Array Slot), Wst E (XW E a) (σ) A s.heap H locs → lv_has ls 5 [(0, .ref (a 65)), (1, .int (nI j)), (2, .int (nI h)), (3, .int (nI i))] → W p l e ({ frames := 1, cells := 0, slots := 0, locals := 27 }) s m args below meth c H locs 0 0 Q (F0 m 42 ls []) := by
        intro n
        induction n with
        | zero => intro i hi hlt hn; exact absurd hn (Nat.not_lt_zero _)
        | succ n ih42 =>
          intro i hi hlt hn42 H locs ls hw hl
          refine lv_iload_n hC.1 hC.2.1 dX4_reason_42 rfl (lv_at hl 3 rfl) ?_
          refine lv_iconst (v := nI 3) hC.1 hC.2.1 dX4_reason_43 (by decide) ?_
          refine q_cmpge hC 67 (cNle (by omega) (by omega)) dX4_reason_44 (by decide) (fun (c4 : 3 ≤ i) => ?_) (fun (c4 : i < 3) => ?_)
          · refine lv_aload_n hC.1 hC.2.1 dX4_reason_67 rfl (lv_at hl 0 rfl) ?_
            refine lv_iload_n hC.1 hC.2.1 dX4_reason_68 rfl (lv_at hl 1 rfl) ?_
            refine lv_iload_n hC.1 hC.2.1 dX4_reason_69 rfl (lv_at hl 2 rfl) ?_
            refine q_callVp (As := [.int (nI j), .int (nI h)]) (rest := []) (q0 := 5) hC hw hl (tX4_isUneven l E a σ nh nj E0 P j h hN hE hS hFS (by first | assumption | omega) (by first | assumption | omega)) (q_cwV hC.2.2.2.2.1 ⟨rfl, rfl⟩ wk3_2 wk3_4 wks_1_0 wk1_4 wk3_5 hd_X4_isUneven ⟨Nat.le_of_ble_eq_true rfl, Nat.le_of_ble_eq_true rfl⟩) rfl rfl rfl rfl rfl (Nat.le_of_ble_eq_true rfl) dX4_reason_70 (fun H locs hw => ?_)
            refine q_ifeq hC 79 cB dX4_reason_73 (by decide) (fun (c8 : ¬ ((E0 5 j = 1 ∨ E0 5 j = 2) ∧ m_crd E0 P nh nj j h = true)) => ?_) (fun (c8 : (E0 5 j = 1 ∨ E0 5 j = 2) ∧ m_crd E0 P nh nj j h = true) => ?_)
            · refine lv_aload_n hC.1 hC.2.1 dX4_reason_79 rfl (lv_at hl 0 rfl) ?_
              refine gf_X4_34 hC hw dX4_reason_80 ?_
              refine gf_X4_88 hC hw dX4_reason_83 ?_
              refine lv_iload_n hC.1 hC.2.1 dX4_reason_86 rfl (lv_at hl 1 rfl) ?_
              refine al_X5 (v := E0 5 j) hC hw (by omega) (congrFun hE.2.2.2.2.1 _) dX4_reason_87 ?_
              refine lv_istore_n (lv' := [(3, .int (E0 5 j)), (0, .ref (a 65)), (1, .int (nI j)), (2, .int (nI h))]) hC.1 hC.2.1 dX4_reason_88 rfl hl (by decide) rfl (fun ls hl => ?_)
              refine lv_aload_n hC.1 hC.2.1 dX4_reason_89 rfl (lv_at hl 1 rfl) ?_
              refine lv_iload_n hC.1 hC.2.1 dX4_reason_90 rfl (lv_at hl 2 rfl) ?_
              refine lv_iload_n hC.1 hC.2.1 dX4_reason_91 rfl (lv_at hl 3 rfl) ?_
              refine q_callVp (As := [.int (nI j), .int (nI h)]) (rest := []) (q0 := 5) hC hw hl (tX4_others l E a σ nh nj E0 P j h hN hE hS hFS (by first | assumption | omega) (by first | assumption | omega)) (q_cwV hC.2.2.2.2.1 ⟨rfl, rfl⟩ wk3_6 wk3_8 wks_1_1 wk1_4 wk3_9 hd_X4_others ⟨Nat.le_of_ble_eq_true rfl, Nat.le_of_ble_eq_true rfl⟩) rfl rfl rfl rfl rfl (Nat.le_of_ble_eq_true rfl) dX4_reason_92 (fun H locs hw => ?_)
              refine lv_istore (lv' := [(4, .int (m_oth E0 P nj j h)), (3, .int (E0 5 j)), (0, .ref (a 65)), (1, .int (nI j)), (2, .int (nI h))]) hC.1 hC.2.1 dX4_reason_95 hl (by decide) rfl (fun ls hl => ?_)
              refine lv_iload_n hC.1 hC.2.1 dX4_reason_97 rfl (lv_at hl 1 rfl) ?_
              refine lv_iconst (v := nI 4) hC.1 hC.2.1 dX4_reason_98 (by decide) ?_
              refine q_cmpne hC 107 cI dX4_reason_99 (by decide) (fun (c12 : ¬ (E0 5 j = 4)) => ?_) (fun (c12 : E0 5 j = 4) => ?_)
              · refine lv_iload_n hC.1 hC.2.1 dX4_reason_107 rfl (lv_at hl 1 rfl) ?_
                refine lv_iconst (v := nI 5) hC.1 hC.2.1 dX4_reason_108 (by decide) ?_
                refine q_cmpne hC 120 cI dX4_reason_109 (by decide) (fun (c13 : ¬ (E0 5 j = 5)) => ?_) (fun (c13 : E0 5 j = 5) => ?_)
                · refine lv_aload_n hC.1 hC.2.1 dX4_reason_120 rfl (lv_at hl 2 rfl) ?_
                  refine gf_X4_21 hC hw dX4_reason_121 ?_
                  refine lv_iload_n hC.1 hC.2.1 dX4_reason_124 rfl (lv_at hl 4 rfl) ?_
                  refine lv_bipush (v := nI 8) hC.1 hC.2.1 dX4_reason_125 (by decide) ?_
                  refine q_mulN hC dX4_reason_127 ?_
                  refine lv_aload_n hC.1 hC.2.1 dX4_reason_128 rfl (lv_at hl 2 rfl) ?_
                  refine gf_X4_34 hC hw dX4_reason_129 ?_
                  refine gf_X4_82 hC hw dX4_reason_132 ?_
                  refine lv_iload_n hC.1 hC.2.1 dX4_reason_135 rfl (lv_at hl 3 rfl) ?_
                  have hGr := (hS.gr j (by omega)).2
                  refine al_X8 (v := nI (grN E0 j)) hC hw (by omega) ((congrFun hE.2.2.2.2.2.2.2.1 _).trans (hS.gr j (by omega)).1) dX4_reason_136 ?_
                  refine q_addN hC dX4_reason_137 ?_
                  refine al_X19 (v := m_shy E0 P nj (E0 8 j) h) hC hw (by omega) (((hFS.1 h (by omega)).2 _ (by omega)).2.trans (congrArg (fun z => m_shy E0 P nj z h) (hS.gr j (by omega)).1.symm)) dX4_reason_138 ?_
                  refine q_ifle hC 147 cI dX4_reason_139 (by decide) (fun (c14 : (m_shy E0 P nj (E0 8 j) h) ≤ 0) => ?_) (fun (c14 : ¬ ((m_shy E0 P nj (E0 8 j) h) ≤ 0)) => ?_)
                  · refine lv_iconst (v := nI 0) hC.1 hC.2.1 dX4_reason_147 (by decide) ?_
                    refine hret _ _ _ _ _ _ hw ?_ rfl dX4_reason_148
                    have hti := why_tail (P := P) (nh := nh) (nj := nj) c1 c2 (fun x q => hlt x (by omega))
                    have hn6 := c8
                    have hn7 : ¬ ((E0 5 j = 4 ∧ 0 < m_gon E0 P nj (E0 10 j) h) ∨ (E0 5 j = 5 ∧ m_gin E0 P nj (E0 10 j) (E0 2 h) = 0)) := fun q => q.elim (fun q => c12 q.1) (fun q => c13 q.1)
                    exact ⟨by rw [hti, m_wh2, if_neg hn6, if_neg hn7, if_neg (fun q => (scd_shy hnj).mp q c14)]; rfl, rfl⟩
                  · refine lv_bipush (v := nI 8) hC.1 hC.2.1 dX4_reason_142 (by decide) ?_
                    refine lv_goto (tgt := 148) hC.1 hC.2.1 dX4_reason_144 (by decide) ?_
                    refine hret _ _ _ _ _ _ hw ?_ rfl dX4_reason_148
                    have hti := why_tail (P := P) (nh := nh) (nj := nj) c1 c2 (fun x q => hlt x (by omega))
                    have hn6 := c8
                    have hn7 : ¬ ((E0 5 j = 4 ∧ 0 < m_gon E0 P nj (E0 10 j) h) ∨ (E0 5 j = 5 ∧ m_gin E0 P nj (E0 10 j) (E0 2 h) = 0)) := fun q => q.elim (fun q => c12 q.1) (fun q => c13 q.1)
                    exact ⟨by rw [hti, m_wh2, if_neg hn6, if_neg hn7, if_pos ((scd_shy hnj).mpr c14)]; rfl, rfl⟩
                · refine lv_iload hC.1 hC.2.1 dX4_reason_112 (lv_at hl 0 rfl) ?_
                  refine q_ifne hC 120 cI dX4_reason_114 (by decide) (fun (c15 : ¬ (m_oth E0 P nj j h = 0)) => ?_) (fun (c15 : m_oth E0 P nj j h = 0) => ?_)
                  · refine lv_aload_n hC.1 hC.2.1 dX4_reason_120 rfl (lv_at hl 2 rfl) ?_
                    refine gf_X4_21 hC hw dX4_reason_121 ?_
                    refine lv_iload_n hC.1 hC.2.1 dX4_reason_124 rfl (lv_at hl 4 rfl) ?_
                    refine lv_bipush (v := nI 8) hC.1 hC.2.1 dX4_reason_125 (by decide) ?_
                    refine q_mulN hC dX4_reason_127 ?_
                    refine lv_aload_n hC.1 hC.2.1 dX4_reason_128 rfl (lv_at hl 2 rfl) ?_
                    refine gf_X4_34 hC hw dX4_reason_129 ?_
                    refine gf_X4_82 hC hw dX4_reason_132 ?_
                    refine lv_iload_n hC.1 hC.2.1 dX4_reason_135 rfl (lv_at hl 3 rfl) ?_
                    have hGr := (hS.gr j (by omega)).2
                    refine al_X8 (v := nI (grN E0 j)) hC hw (by omega) ((congrFun hE.2.2.2.2.2.2.2.1 _).trans (hS.gr j (by omega)).1) dX4_reason_136 ?_
                    refine q_addN hC dX4_reason_137 ?_
                    refine al_X19 (v := m_shy E0 P nj (E0 8 j) h) hC hw (by omega) (((hFS.1 h (by omega)).2 _ (by omega)).2.trans (congrArg (fun z => m_shy E0 P nj z h) (hS.gr j (by omega)).1.symm)) dX4_reason_138 ?_
                    refine q_ifle hC 147 cI dX4_reason_139 (by decide) (fun (c16 : (m_shy E0 P nj (E0 8 j) h) ≤ 0) => ?_) (fun (c16 : ¬ ((m_shy E0 P nj (E0 8 j) h) ≤ 0)) => ?_)
                    · refine lv_iconst (v := nI 0) hC.1 hC.2.1 dX4_reason_147 (by decide) ?_
                      refine hret _ _ _ _ _ _ hw ?_ rfl dX4_reason_148
                      have hti := why_tail (P := P) (nh := nh) (nj := nj) c1 c2 (fun x q => hlt x (by omega))
                      have hn6 := c8
                      have hn7 : ¬ ((E0 5 j = 4 ∧ 0 < m_gon E0 P nj (E0 10 j) h) ∨ (E0 5 j = 5 ∧ m_gin E0 P nj (E0 10 j) (E0 2 h) = 0)) := fun q => q.elim (fun q => c12 q.1) (fun q => by have := c15; rw [m_oth, if_neg (fun q => by rw [c13] at q; exact absurd q (by decide)), if_pos c13] at this; exact this q.2)
                      exact ⟨by rw [hti, m_wh2, if_neg hn6, if_neg hn7, if_neg (fun q => (scd_shy hnj).mp q c16)]; rfl, rfl⟩
                    · refine lv_bipush (v := nI 8) hC.1 hC.2.1 dX4_reason_142 (by decide) ?_
                      refine lv_goto (tgt := 148) hC.1 hC.2.1 dX4_reason_144 (by decide) ?_
                      refine hret _ _ _ _ _ _ hw ?_ rfl dX4_reason_148
                      have hti := why_tail (P := P) (nh := nh) (nj := nj) c1 c2 (fun x q => hlt x (by omega))
                      have hn6 := c8
                      have hn7 : ¬ ((E0 5 j = 4 ∧ 0 < m_gon E0 P nj (E0 10 j) h) ∨ (E0 5 j = 5 ∧ m_gin E0 P nj (E0 10 j) (E0 2 h) = 0)) := fun q => q.elim (fun q => c12 q.1) (fun q => by have := c15; rw [m_oth, if_neg (fun q => by rw [c13] at q; exact absurd q (by decide)), if_pos c13] at this; exact this q.2)
                      exact ⟨by rw [hti, m_wh2, if_neg hn6, if_neg hn7, if_pos ((scd_shy hnj).mpr c16)]; rfl, rfl⟩
                  · refine lv_bipush (v := nI 7) hC.1 hC.2.1 dX4_reason_117 (by decide) ?_
                    refine hret _ _ _ _ _ _ hw ?_ rfl dX4_reason_119
                    have hti := why_tail (P := P) (nh := nh) (nj := nj) c1 c2 (fun x q => hlt x (by omega))
                    have hn6 := c8
                    exact ⟨by rw [hti, m_wh2, if_neg hn6, if_pos (Or.inr ⟨c13, by have := c15; rw [m_oth, if_neg (fun q => by rw [c13] at q; exact absurd q (by decide)), if_pos c13] at this; exact this⟩)]; rfl, rfl⟩
              · refine lv_iload hC.1 hC.2.1 dX4_reason_102 (lv_at hl 0 rfl) ?_
                refine q_ifgt hC 117 cI dX4_reason_104 (by decide) (fun (c17 : 0 < m_oth E0 P nj j h) => ?_) (fun (c17 : ¬ (0 < m_oth E0 P nj j h)) => ?_)
                · refine lv_bipush (v := nI 7) hC.1 hC.2.1 dX4_reason_117 (by decide) ?_
                  refine hret _ _ _ _ _ _ hw ?_ rfl dX4_reason_119
                  have hti := why_tail (P := P) (nh := nh) (nj := nj) c1 c2 (fun x q => hlt x (by omega))
                  have hn6 := c8
                  exact ⟨by rw [hti, m_wh2, if_neg hn6, if_pos (Or.inl ⟨c12, by have := c17; rw [m_oth, if_pos c12] at this; exact this⟩)]; rfl, rfl⟩
                · refine lv_iload_n hC.1 hC.2.1 dX4_reason_107 rfl (lv_at hl 1 rfl) ?_
                  refine lv_iconst (v := nI 5) hC.1 hC.2.1 dX4_reason_108 (by decide) ?_
                  refine q_cmpne hC 120 cI dX4_reason_109 (by decide) (fun (c18 : ¬ (E0 5 j = 5)) => ?_) (fun (c18 : E0 5 j = 5) => ?_)
                  · refine lv_aload_n hC.1 hC.2.1 dX4_reason_120 rfl (lv_at hl 2 rfl) ?_
                    refine gf_X4_21 hC hw dX4_reason_121 ?_
                    refine lv_iload_n hC.1 hC.2.1 dX4_reason_124 rfl (lv_at hl 4 rfl) ?_
                    refine lv_bipush (v := nI 8) hC.1 hC.2.1 dX4_reason_125 (by decide) ?_
                    refine q_mulN hC dX4_reason_127 ?_
                    refine lv_aload_n hC.1 hC.2.1 dX4_reason_128 rfl (lv_at hl 2 rfl) ?_
                    refine gf_X4_34 hC hw dX4_reason_129 ?_
                    refine gf_X4_82 hC hw dX4_reason_132 ?_
                    refine lv_iload_n hC.1 hC.2.1 dX4_reason_135 rfl (lv_at hl 3 rfl) ?_
                    have hGr := (hS.gr j (by omega)).2
                    refine al_X8 (v := nI (grN E0 j)) hC hw (by omega) ((congrFun hE.2.2.2.2.2.2.2.1 _).trans (hS.gr j (by omega)).1) dX4_reason_136 ?_
                    refine q_addN hC dX4_reason_137 ?_
                    refine al_X19 (v := m_shy E0 P nj (E0 8 j) h) hC hw (by omega) (((hFS.1 h (by omega)).2 _ (by omega)).2.trans (congrArg (fun z => m_shy E0 P nj z h) (hS.gr j (by omega)).1.symm)) dX4_reason_138 ?_
                    refine q_ifle hC 147 cI dX4_reason_139 (by decide) (fun (c19 : (m_shy E0 P nj (E0 8 j) h) ≤ 0) => ?_) (fun (c19 : ¬ ((m_shy E0 P nj (E0 8 j) h) ≤ 0)) => ?_)
                    · refine lv_iconst (v := nI 0) hC.1 hC.2.1 dX4_reason_147 (by decide) ?_
                      refine hret _ _ _ _ _ _ hw ?_ rfl dX4_reason_148
                      have hti := why_tail (P := P) (nh := nh) (nj := nj) c1 c2 (fun x q => hlt x (by omega))
                      have hn6 := c8
                      have hn7 : ¬ ((E0 5 j = 4 ∧ 0 < m_gon E0 P nj (E0 10 j) h) ∨ (E0 5 j = 5 ∧ m_gin E0 P nj (E0 10 j) (E0 2 h) = 0)) := fun q => q.elim (fun q => by have := c17; rw [m_oth, if_pos c12] at this; exact this q.2) (fun q => c18 q.1)
                      exact ⟨by rw [hti, m_wh2, if_neg hn6, if_neg hn7, if_neg (fun q => (scd_shy hnj).mp q c19)]; rfl, rfl⟩
                    · refine lv_bipush (v := nI 8) hC.1 hC.2.1 dX4_reason_142 (by decide) ?_
                      refine lv_goto (tgt := 148) hC.1 hC.2.1 dX4_reason_144 (by decide) ?_
                      refine hret _ _ _ _ _ _ hw ?_ rfl dX4_reason_148
                      have hti := why_tail (P := P) (nh := nh) (nj := nj) c1 c2 (fun x q => hlt x (by omega))
                      have hn6 := c8
                      have hn7 : ¬ ((E0 5 j = 4 ∧ 0 < m_gon E0 P nj (E0 10 j) h) ∨ (E0 5 j = 5 ∧ m_gin E0 P nj (E0 10 j) (E0 2 h) = 0)) := fun q => q.elim (fun q => by have := c17; rw [m_oth, if_pos c12] at this; exact this q.2) (fun q => c18 q.1)
                      exact ⟨by rw [hti, m_wh2, if_neg hn6, if_neg hn7, if_pos ((scd_shy hnj).mpr c19)]; rfl, rfl⟩
                  · refine lv_iload hC.1 hC.2.1 dX4_reason_112 (lv_at hl 0 rfl) ?_
                    refine q_ifne hC 120 cI dX4_reason_114 (by decide) (fun (c20 : ¬ (m_oth E0 P nj j h = 0)) => ?_) (fun (c20 : m_oth E0 P nj j h = 0) => ?_)
                    · refine lv_aload_n hC.1 hC.2.1 dX4_reason_120 rfl (lv_at hl 2 rfl) ?_
                      refine gf_X4_21 hC hw dX4_reason_121 ?_
                      refine lv_iload_n hC.1 hC.2.1 dX4_reason_124 rfl (lv_at hl 4 rfl) ?_
                      refine lv_bipush (v := nI 8) hC.1 hC.2.1 dX4_reason_125 (by decide) ?_
                      refine q_mulN hC dX4_reason_127 ?_
                      refine lv_aload_n hC.1 hC.2.1 dX4_reason_128 rfl (lv_at hl 2 rfl) ?_
                      refine gf_X4_34 hC hw dX4_reason_129 ?_
                      refine gf_X4_82 hC hw dX4_reason_132 ?_
                      refine lv_iload_n hC.1 hC.2.1 dX4_reason_135 rfl (lv_at hl 3 rfl) ?_
                      have hGr := (hS.gr j (by omega)).2
                      refine al_X8 (v := nI (grN E0 j)) hC hw (by omega) ((congrFun hE.2.2.2.2.2.2.2.1 _).trans (hS.gr j (by omega)).1) dX4_reason_136 ?_
                      refine q_addN hC dX4_reason_137 ?_
                      refine al_X19 (v := m_shy E0 P nj (E0 8 j) h) hC hw (by omega) (((hFS.1 h (by omega)).2 _ (by omega)).2.trans (congrArg (fun z => m_shy E0 P nj z h) (hS.gr j (by omega)).1.symm)) dX4_reason_138 ?_
                      refine q_ifle hC 147 cI dX4_reason_139 (by decide) (fun (c21 : (m_shy E0 P nj (E0 8 j) h) ≤ 0) => ?_) (fun (c21 : ¬ ((m_shy E0 P nj (E0 8 j) h) ≤ 0)) => ?_)
                      · refine lv_iconst (v := nI 0) hC.1 hC.2.1 dX4_reason_147 (by decide) ?_
                        refine hret _ _ _ _ _ _ hw ?_ rfl dX4_reason_148
                        have hti := why_tail (P := P) (nh := nh) (nj := nj) c1 c2 (fun x q => hlt x (by omega))
                        have hn6 := c8
                        have hn7 : ¬ ((E0 5 j = 4 ∧ 0 < m_gon E0 P nj (E0 10 j) h) ∨ (E0 5 j = 5 ∧ m_gin E0 P nj (E0 10 j) (E0 2 h) = 0)) := fun q => q.elim (fun q => by have := c17; rw [m_oth, if_pos c12] at this; exact this q.2) (fun q => by have := c20; rw [m_oth, if_neg (fun q => by rw [c18] at q; exact absurd q (by decide)), if_pos c18] at this; exact this q.2)
                        exact ⟨by rw [hti, m_wh2, if_neg hn6, if_neg hn7, if_neg (fun q => (scd_shy hnj).mp q c21)]; rfl, rfl⟩
                      · refine lv_bipush (v := nI 8) hC.1 hC.2.1 dX4_reason_142 (by decide) ?_
                        refine lv_goto (tgt := 148) hC.1 hC.2.1 dX4_reason_144 (by decide) ?_
                        refine hret _ _ _ _ _ _ hw ?_ rfl dX4_reason_148
                        have hti := why_tail (P := P) (nh := nh) (nj := nj) c1 c2 (fun x q => hlt x (by omega))
                        have hn6 := c8
                        have hn7 : ¬ ((E0 5 j = 4 ∧ 0 < m_gon E0 P nj (E0 10 j) h) ∨ (E0 5 j = 5 ∧ m_gin E0 P nj (E0 10 j) (E0 2 h) = 0)) := fun q => q.elim (fun q => by have := c17; rw [m_oth, if_pos c12] at this; exact this q.2) (fun q => by have := c20; rw [m_oth, if_neg (fun q => by rw [c18] at q; exact absurd q (by decide)), if_pos c18] at this; exact this q.2)
                        exact ⟨by rw [hti, m_wh2, if_neg hn6, if_neg hn7, if_pos ((scd_shy hnj).mpr c21)]; rfl, rfl⟩
                    · refine lv_bipush (v := nI 7) hC.1 hC.2.1 dX4_reason_117 (by decide) ?_
                      refine hret _ _ _ _ _ _ hw ?_ rfl dX4_reason_119
                      have hti := why_tail (P := P) (nh := nh) (nj := nj) c1 c2 (fun x q => hlt x (by omega))
                      have hn6 := c8
                      exact ⟨by rw [hti, m_wh2, if_neg hn6, if_pos (Or.inr ⟨c18, by have := c20; rw [m_oth, if_neg (fun q => by rw [c18] at q; exact absurd q (by decide)), if_pos c18] at this; exact this⟩)]; rfl, rfl⟩
            · refine lv_bipush (v := nI 6) hC.1 hC.2.1 dX4_reason_76 (by decide) ?_
              refine hret _ _ _ _ _ _ hw ?_ rfl dX4_reason_78
              have hti := why_tail (P := P) (nh := nh) (nj := nj) c1 c2 (fun x q => hlt x (by omega))
              exact ⟨by rw [hti, m_wh2, if_pos c8]; rfl, rfl⟩
          · refine lv_aload_n hC.1 hC.2.1 dX4_reason_47 rfl (lv_at hl 0 rfl) ?_
            refine lv_iload_n hC.1 hC.2.1 dX4_reason_48 rfl (lv_at hl 1 rfl) ?_
            refine lv_iload_n hC.1 hC.2.1 dX4_reason_49 rfl (lv_at hl 2 rfl) ?_
            refine lv_iload_n hC.1 hC.2.1 dX4_reason_50 rfl (lv_at hl 3 rfl) ?_
            refine q_callVp (As := [.int (nI j), .int (nI h), .int (nI i)]) (rest := []) (q0 := 5) hC hw hl (tX4_tooMuch l E a σ nh nj E0 P j h i hN hE hS hFS (by first | assumption | omega) (by first | assumption | omega) (by first | assumption | omega)) (q_cwV hC.2.2.2.2.1 ⟨rfl, rfl⟩ wk2_238 wk2_239 wk3_0 wk1_4 wk3_1 hd_X4_tooMuch ⟨Nat.le_of_ble_eq_true rfl, Nat.le_of_ble_eq_true rfl⟩) rfl rfl rfl rfl rfl (Nat.le_of_ble_eq_true rfl) dX4_reason_51 (fun H locs hw => ?_)
            refine q_ifle hC 61 cI dX4_reason_54 (by decide) (fun (c25 : (E0 6 (3 * j + i) - m_left E0 P nj h i) ≤ 0) => ?_) (fun (c25 : ¬ ((E0 6 (3 * j + i) - m_left E0 P nj h i) ≤ 0)) => ?_)
            · refine lv_iinc (v := nI (i + 1)) (lv' := [(3, .int (nI (i + 1))), (0, .ref (a 65)), (1, .int (nI j)), (2, .int (nI h))]) hC.1 hC.2.1 dX4_reason_61 hl (k := 3) rfl (nI_add _ _) (by decide) rfl (fun ls hl => ?_)
              refine lv_goto (tgt := 42) hC.1 hC.2.1 dX4_reason_64 (by decide) ?_
              exact ih42 (i + 1) (by omega) (fun x q => by rcases Nat.lt_succ_iff_lt_or_eq.mp q with q | q; exact hlt x q; subst q; exact fun z => (tm_iff hS hj hh (show x < 3 by omega)).mpr z c25) (by omega) _ _ _ hw (lv_sub hl [1, 2, 3, 0] rfl)
            · refine lv_iconst (v := nI 3) hC.1 hC.2.1 dX4_reason_57 (by decide) ?_
              refine lv_iload_n hC.1 hC.2.1 dX4_reason_58 rfl (lv_at hl 3 rfl) ?_
              refine q_addN hC dX4_reason_59 ?_
              refine hret _ _ _ _ _ _ hw ?_ rfl dX4_reason_60
              exact ⟨by rw [m_why, if_neg c1, if_neg (fun q => q c2)]; exact (why_at hlt ((tm_iff hS hj hh (show i < 3 by omega)).mp c25)).symm, rfl⟩
      exact L42_2 _ 0 (by omega) (fun x q => absurd q (Nat.not_lt_zero x)) (Nat.lt_succ_self _) _ _ _ hw (lv_sub hl [1, 2, 3, 0] rfl)
    · refine lv_iconst (v := nI 2) hC.1 hC.2.1 dX4_reason_38 (by decide) ?_
      refine hret _ _ _ _ _ _ hw ?_ rfl dX4_reason_39
      exact ⟨((if_neg c1).trans (if_pos c2)).symm, rfl⟩
  · refine lv_iconst (v := nI 1) hC.1 hC.2.1 dX4_reason_12 (by decide) ?_
    refine hret _ _ _ _ _ _ hw ?_ rfl dX4_reason_13
    exact ⟨(if_pos c1).symm, rfl⟩
set_option maxHeartbeats 4000000 in
set_option maxRecDepth 100000 in
theorem tX4_fits (l : Launch) (E : EV) (a : Nat → Nat) (σ : St) (nh : Nat) (nj : Nat) (E0 : St) (P : Nat → Int32) (j : Nat) (h : Nat) (hN : cN2 σ nh nj) (hE : aE σ E0) (hS : cS E0 nh nj) (hFS : FSr E0 P nh nj (σ 16) (σ 17) (σ 18) (σ 19) (σ 20) (σ 21)) (hj : j < nj) (hh : h < nh) : MI l E (XW E a) yX4_fits (Cond.code yX4_fits cX4_fits 3 (some .boolean)) ({ frames := 2, cells := 0, slots := 0, locals := 51 }) [.ref (a 65), .int (nI j), .int (nI h)] σ (fun r_ u_ => r_ = (if m_why E0 P nh nj j h = 0 then (1 : Int32) else 0) ∧ u_ = σ) := by
  refine MI.mk (by decide +kernel) (Nat.le_of_ble_eq_true rfl) ?_
  intro p e s m args below meth c ls A Q hret hC hw hl
  have hC : Cxt E p s m args meth c cX4_fits 3 (some .boolean) RX4 A := hC
  have hl : lv_has ls 3 [(0, .ref (a 65)), (1, .int (nI j)), (2, .int (nI h))] := hl
  have hnh := hS.1
  have hnj := hS.2.1
  refine lv_aload_n hC.1 hC.2.1 dX4_fits_0 rfl (lv_at hl 0 rfl) ?_
  refine lv_iload_n hC.1 hC.2.1 dX4_fits_1 rfl (lv_at hl 1 rfl) ?_
  refine lv_iload_n hC.1 hC.2.1 dX4_fits_2 rfl (lv_at hl 2 rfl) ?_
  refine q_callVp (As := [.int (nI j), .int (nI h)]) (rest := []) (q0 := 5) hC hw hl (tX4_reason l E a σ nh nj E0 P j h hN hE hS hFS (by first | assumption | omega) (by first | assumption | omega)) (q_cwV hC.2.2.2.2.1 ⟨rfl, rfl⟩ wk3_40 wk2_235 wk2_236 wk1_4 wk2_237 hd_X4_reason ⟨Nat.le_of_ble_eq_true rfl, Nat.le_of_ble_eq_true rfl⟩) rfl rfl rfl rfl rfl (Nat.le_of_ble_eq_true rfl) dX4_fits_3 (fun H locs hw => ?_)
  have J14_5 : ∀ (w4 : Int32), w4 = (if m_why E0 P nh nj j h = 0 then (1 : Int32) else 0) → ∀ (H : Heap) (locs : List Loc) (ls : Array Slot), Wst E (XW E a) (σ) A s.heap H locs → lv_has ls 3 [(0, .ref (a 65)), (1, .int (nI j)), (2, .int (nI h))] → W p l e ({ frames := 2, cells := 0, slots := 0, locals := 51 }) s m args below meth c H locs 0 0 Q (F0 m 14 ls [.int (w4)]) := by
    intro w4 e5 H locs ls hw hl
    subst e5
    refine hret _ _ _ _ _ _ hw ?_ nz_B dX4_fits_14
    exact ⟨rfl, rfl⟩
  refine q_ifne hC 13 cI dX4_fits_6 (by decide) (fun (c6 : ¬ (m_why E0 P nh nj j h = 0)) => ?_) (fun (c6 : m_why E0 P nh nj j h = 0) => ?_)
  · refine lv_iconst (v := nI 0) hC.1 hC.2.1 dX4_fits_13 (by decide) ?_
    exact J14_5 _ (if_neg c6).symm _ _ _ hw (lv_sub hl [0, 1, 2] rfl)
  · refine lv_iconst (v := nI 1) hC.1 hC.2.1 dX4_fits_9 (by decide) ?_
    refine lv_goto (tgt := 14) hC.1 hC.2.1 dX4_fits_10 (by decide) ?_
    exact J14_5 _ (if_pos c6).symm _ _ _ hw (lv_sub hl [0, 1, 2] rfl)
set_option maxHeartbeats 4000000 in
set_option maxRecDepth 100000 in
theorem tX4_score (l : Launch) (E : EV) (a : Nat → Nat) (σ : St) (nh : Nat) (nj : Nat) (E0 : St) (P : Nat → Int32) (j : Nat) (h : Nat) (hN : cN2 σ nh nj) (hE : aE σ E0) (hS : cS E0 nh nj) (hFS : FSr E0 P nh nj (σ 16) (σ 17) (σ 18) (σ 19) (σ 20) (σ 21)) (hj : j < nj) (hh : h < nh) : MI l E (XW E a) yX4_score (Cond.code yX4_score cX4_score 5 (some .int)) ({ frames := 1, cells := 0, slots := 0, locals := 23 }) [.ref (a 65), .int (nI j), .int (nI h)] σ (fun r_ u_ => r_ = (m_pts E0 P nj j h) ∧ u_ = σ) := by
  refine MI.mk (by decide +kernel) (Nat.le_of_ble_eq_true rfl) ?_
  intro p e s m args below meth c ls A Q hret hC hw hl
  have hC : Cxt E p s m args meth c cX4_score 5 (some .int) RX4 A := hC
  have hl : lv_has ls 5 [(0, .ref (a 65)), (1, .int (nI j)), (2, .int (nI h))] := hl
  have hnh := hS.1
  have hnj := hS.2.1
  refine lv_iconst (v := nI 0) hC.1 hC.2.1 dX4_score_0 (by decide) ?_
  refine lv_istore_n (lv' := [(3, .int (nI 0)), (0, .ref (a 65)), (1, .int (nI j)), (2, .int (nI h))]) hC.1 hC.2.1 dX4_score_1 rfl hl (by decide) rfl (fun ls hl => ?_)
  refine lv_iconst (v := nI 0) hC.1 hC.2.1 dX4_score_2 (by decide) ?_
  refine lv_istore (lv' := [(4, .int (nI 0)), (3, .int (nI 0)), (0, .ref (a 65)), (1, .int (nI j)), (2, .int (nI h))]) hC.1 hC.2.1 dX4_score_3 hl (by decide) rfl (fun ls hl => ?_)
  have L5_0 : ∀ (n : Nat), ∀ (i : Nat), ∀ (v : Int32), (v = (m_room E0 P nj j h i)) → (i ≤ 3) → (3 - i) < n → ∀ (H : Heap) (locs : List Loc) (ls : Array Slot), Wst E (XW E a) (σ) A s.heap H locs → lv_has ls 5 [(0, .ref (a 65)), (1, .int (nI j)), (2, .int (nI h)), (3, .int (v)), (4, .int (nI i))] → W p l e ({ frames := 1, cells := 0, slots := 0, locals := 23 }) s m args below meth c H locs 0 0 Q (F0 m 5 ls []) := by
    intro n
    induction n with
    | zero => intro i v q_v hi hn; exact absurd hn (Nat.not_lt_zero _)
    | succ n ih5 =>
      intro i v q_v hi hn5 H locs ls hw hl
      subst q_v
      refine lv_iload hC.1 hC.2.1 dX4_score_5 (lv_at hl 4 rfl) ?_
      refine lv_iconst (v := nI 3) hC.1 hC.2.1 dX4_score_7 (by decide) ?_
      refine q_cmpge hC 28 (cNle (by omega) (by omega)) dX4_score_8 (by decide) (fun (c2 : 3 ≤ i) => ?_) (fun (c2 : i < 3) => ?_)
      · refine lv_aload_n hC.1 hC.2.1 dX4_score_28 rfl (lv_at hl 0 rfl) ?_
        refine gf_X4_15 hC hw dX4_score_29 ?_
        refine lv_iload_n hC.1 hC.2.1 dX4_score_32 rfl (lv_at hl 2 rfl) ?_
        refine lv_bipush (v := nI 8) hC.1 hC.2.1 dX4_score_33 (by decide) ?_
        refine q_mulN hC dX4_score_35 ?_
        refine lv_aload_n hC.1 hC.2.1 dX4_score_36 rfl (lv_at hl 0 rfl) ?_
        refine gf_X4_34 hC hw dX4_score_37 ?_
        refine gf_X4_82 hC hw dX4_score_40 ?_
        refine lv_iload_n hC.1 hC.2.1 dX4_score_43 rfl (lv_at hl 1 rfl) ?_
        have hGr := (hS.gr j (by omega)).2
        refine al_X8 (v := nI (grN E0 j)) hC hw (by omega) ((congrFun hE.2.2.2.2.2.2.2.1 _).trans (hS.gr j (by omega)).1) dX4_score_44 ?_
        refine q_addN hC dX4_score_45 ?_
        refine al_X17 (v := m_gon E0 P nj (E0 8 j) h) hC hw (by omega) (((hFS.1 h (by omega)).2 _ (by omega)).1.trans (congrArg (fun z => m_gon E0 P nj z h) (hS.gr j (by omega)).1.symm)) dX4_score_46 ?_
        refine lv_istore (lv' := [(4, .int (m_gon E0 P nj (E0 8 j) h)), (0, .ref (a 65)), (1, .int (nI j)), (2, .int (nI h)), (3, .int (m_room E0 P nj j h i))]) hC.1 hC.2.1 dX4_score_47 hl (by decide) rfl (fun ls hl => ?_)
        refine lv_aload_n hC.1 hC.2.1 dX4_score_49 rfl (lv_at hl 1 rfl) ?_
        refine gf_X4_38 hC hw dX4_score_50 ?_
        refine lv_iconst (v := nI 0) hC.1 hC.2.1 dX4_score_53 (by decide) ?_
        refine al_X15 (v := E0 15 0) hC hw (by omega) (congrFun hE.2.2.2.2.2.2.2.2.2.2 _) dX4_score_54 ?_
        refine lv_iload_n hC.1 hC.2.1 dX4_score_55 rfl (lv_at hl 4 rfl) ?_
        refine lv_imul hC.1 hC.2.1 dX4_score_56 ?_
        refine lv_aload_n hC.1 hC.2.1 dX4_score_57 rfl (lv_at hl 1 rfl) ?_
        refine gf_X4_38 hC hw dX4_score_58 ?_
        refine lv_iconst (v := nI 1) hC.1 hC.2.1 dX4_score_61 (by decide) ?_
        refine al_X15 (v := E0 15 1) hC hw (by omega) (congrFun hE.2.2.2.2.2.2.2.2.2.2 _) dX4_score_62 ?_
        refine lv_iload hC.1 hC.2.1 dX4_score_63 (lv_at hl 0 rfl) ?_
        refine lv_imul hC.1 hC.2.1 dX4_score_65 ?_
        refine lv_isub hC.1 hC.2.1 dX4_score_66 ?_
        refine lv_aload_n hC.1 hC.2.1 dX4_score_67 rfl (lv_at hl 1 rfl) ?_
        refine gf_X4_38 hC hw dX4_score_68 ?_
        refine lv_iconst (v := nI 2) hC.1 hC.2.1 dX4_score_71 (by decide) ?_
        refine al_X15 (v := E0 15 2) hC hw (by omega) (congrFun hE.2.2.2.2.2.2.2.2.2.2 _) dX4_score_72 ?_
        refine lv_aload_n hC.1 hC.2.1 dX4_score_73 rfl (lv_at hl 1 rfl) ?_
        refine lv_iload_n hC.1 hC.2.1 dX4_score_74 rfl (lv_at hl 2 rfl) ?_
        refine lv_iload_n hC.1 hC.2.1 dX4_score_75 rfl (lv_at hl 3 rfl) ?_
        refine q_callVp (As := [.int (nI j), .int (nI h)]) (rest := [.int (E0 15 2), .int (((E0 15 0) * (m_room E0 P nj j h i)) - ((E0 15 1) * (m_gon E0 P nj (E0 8 j) h)))]) (q0 := 5) hC hw hl (tX4_others l E a σ nh nj E0 P j h hN hE hS hFS (by first | assumption | omega) (by first | assumption | omega)) (q_cwV hC.2.2.2.2.1 ⟨rfl, rfl⟩ wk3_6 wk3_8 wks_1_1 wk1_4 wk3_9 hd_X4_others ⟨Nat.le_of_ble_eq_true rfl, Nat.le_of_ble_eq_true rfl⟩) rfl rfl rfl rfl rfl (Nat.le_of_ble_eq_true rfl) dX4_score_76 (fun H locs hw => ?_)
        refine lv_imul hC.1 hC.2.1 dX4_score_79 ?_
        refine lv_iadd hC.1 hC.2.1 dX4_score_80 ?_
        refine hret _ _ _ _ _ _ hw ?_ rfl dX4_score_81
        have hi3 : i = 3 := by omega
        subst hi3
        exact ⟨rfl, rfl⟩
      · refine lv_iload_n hC.1 hC.2.1 dX4_score_11 rfl (lv_at hl 3 rfl) ?_
        refine lv_aload_n hC.1 hC.2.1 dX4_score_12 rfl (lv_at hl 0 rfl) ?_
        refine lv_iload_n hC.1 hC.2.1 dX4_score_13 rfl (lv_at hl 1 rfl) ?_
        refine lv_iload_n hC.1 hC.2.1 dX4_score_14 rfl (lv_at hl 2 rfl) ?_
        refine lv_iload hC.1 hC.2.1 dX4_score_15 (lv_at hl 4 rfl) ?_
        refine q_callVp (As := [.int (nI j), .int (nI h), .int (nI i)]) (rest := [.int (m_room E0 P nj j h i)]) (q0 := 5) hC hw hl (tX4_tooMuch l E a σ nh nj E0 P j h i hN hE hS hFS (by first | assumption | omega) (by first | assumption | omega) (by first | assumption | omega)) (q_cwV hC.2.2.2.2.1 ⟨rfl, rfl⟩ wk2_238 wk2_239 wk3_0 wk1_4 wk3_1 hd_X4_tooMuch ⟨Nat.le_of_ble_eq_true rfl, Nat.le_of_ble_eq_true rfl⟩) rfl rfl rfl rfl rfl (Nat.le_of_ble_eq_true rfl) dX4_score_17 (fun H locs hw => ?_)
        refine lv_isub hC.1 hC.2.1 dX4_score_20 ?_
        refine lv_istore_n (lv' := [(3, .int ((m_room E0 P nj j h i) - (E0 6 (3 * j + i) - m_left E0 P nj h i))), (0, .ref (a 65)), (1, .int (nI j)), (2, .int (nI h)), (4, .int (nI i))]) hC.1 hC.2.1 dX4_score_21 rfl hl (by decide) rfl (fun ls hl => ?_)
        refine lv_iinc (v := nI (i + 1)) (lv' := [(4, .int (nI (i + 1))), (3, .int ((m_room E0 P nj j h i) - (E0 6 (3 * j + i) - m_left E0 P nj h i))), (0, .ref (a 65)), (1, .int (nI j)), (2, .int (nI h))]) hC.1 hC.2.1 dX4_score_22 hl (k := 4) rfl (nI_add _ _) (by decide) rfl (fun ls hl => ?_)
        refine lv_goto (tgt := 5) hC.1 hC.2.1 dX4_score_25 (by decide) ?_
        exact ih5 (i + 1) ((m_room E0 P nj j h i) - (E0 6 (3 * j + i) - m_left E0 P nj h i)) (room_s) (by omega) (by omega) _ _ _ hw (lv_sub hl [2, 3, 4, 1, 0] rfl)
  exact L5_0 _ 0 (nI 0) rfl (by omega) (Nat.lt_succ_self _) _ _ _ hw (lv_sub hl [2, 3, 4, 1, 0] rfl)
set_option maxHeartbeats 4000000 in
set_option maxRecDepth 100000 in
theorem tX4_firstFit (l : Launch) (E : EV) (a : Nat → Nat) (σ : St) (nh : Nat) (nj : Nat) (E0 : St) (P : Nat → Int32) (j : Nat) (hN : cN2 σ nh nj) (hE : aE σ E0) (hS : cS E0 nh nj) (hFS : FSr E0 P nh nj (σ 16) (σ 17) (σ 18) (σ 19) (σ 20) (σ 21)) (hj : j < nj) : MI l E (XW E a) yX4_firstFit (Cond.code yX4_firstFit cX4_firstFit 3 (some .int)) ({ frames := 3, cells := 0, slots := 0, locals := 73 }) [.ref (a 65), .int (nI j)] σ (fun r_ u_ => r_ = (m_ff E0 P nh nj j nh) ∧ u_ = σ) := by
  refine MI.mk (by decide +kernel) (Nat.le_of_ble_eq_true rfl) ?_
  intro p e s m args below meth c ls A Q hret hC hw hl
  have hC : Cxt E p s m args meth c cX4_firstFit 3 (some .int) RX4 A := hC
  have hl : lv_has ls 3 [(0, .ref (a 65)), (1, .int (nI j))] := hl
  have hnh := hS.1
  have hnj := hS.2.1
  refine lv_iconst (v := nI 0) hC.1 hC.2.1 dX4_firstFit_0 (by decide) ?_
  refine lv_istore_n (lv' := [(2, .int (nI 0)), (0, .ref (a 65)), (1, .int (nI j))]) hC.1 hC.2.1 dX4_firstFit_1 rfl hl (by decide) rfl (fun ls hl => ?_)
  have L2_0 : ∀ (n : Nat), ∀ (x : Nat), (x ≤ nh) → (m_ff E0 P nh nj j x = -1) → (nh - x) < n → ∀ (H : Heap) (locs : List Loc) (ls : Array Slot), Wst E (XW E a) (σ) A s.heap H locs → lv_has ls 3 [(0, .ref (a 65)), (1, .int (nI j)), (2, .int (nI x))] → W p l e ({ frames := 3, cells := 0, slots := 0, locals := 73 }) s m args below meth c H locs 0 0 Q (F0 m 2 ls []) := by
    intro n
    induction n with
    | zero => intro x hx hff hn; exact absurd hn (Nat.not_lt_zero _)
    | succ n ih2 =>
      intro x hx hff hn2 H locs ls hw hl
      refine lv_iload_n hC.1 hC.2.1 dX4_firstFit_2 rfl (lv_at hl 2 rfl) ?_
      refine lv_aload_n hC.1 hC.2.1 dX4_firstFit_3 rfl (lv_at hl 0 rfl) ?_
      refine gf_X4_30 hC hw dX4_firstFit_4 ?_
      refine gf_X4_119 (v := nI nh) hC hw hN.1 dX4_firstFit_7 ?_
      refine q_cmpge hC 30 (cNle (by omega) (by omega)) dX4_firstFit_10 (by decide) (fun (c2 : nh ≤ x) => ?_) (fun (c2 : x < nh) => ?_)
      · refine lv_iconst (v := (-1)) hC.1 hC.2.1 dX4_firstFit_30 (by decide) ?_
        refine hret _ _ _ _ _ _ hw ?_ rfl dX4_firstFit_31
        have hx9 : x = nh := by omega
        rw [hx9] at hff
        exact ⟨hff.symm, rfl⟩
      · refine lv_aload_n hC.1 hC.2.1 dX4_firstFit_13 rfl (lv_at hl 0 rfl) ?_
        refine lv_iload_n hC.1 hC.2.1 dX4_firstFit_14 rfl (lv_at hl 1 rfl) ?_
        refine lv_iload_n hC.1 hC.2.1 dX4_firstFit_15 rfl (lv_at hl 2 rfl) ?_
        refine q_callVp (As := [.int (nI j), .int (nI x)]) (rest := []) (q0 := 5) hC hw hl (tX4_fits l E a σ nh nj E0 P j x (by first | assumption | omega) (by first | assumption | omega) (by first | assumption | omega) (by first | assumption | omega) (by first | assumption | omega) (by first | assumption | omega)) (q_cwV hC.2.2.2.2.1 ⟨rfl, rfl⟩ wk3_36 wk3_37 wk3_38 wk1_4 wk3_39 hd_X4_fits ⟨Nat.le_of_ble_eq_true rfl, Nat.le_of_ble_eq_true rfl⟩) rfl rfl rfl rfl rfl (Nat.le_of_ble_eq_true rfl) dX4_firstFit_16 (fun H locs hw => ?_)
        refine q_ifeq hC 24 cB dX4_firstFit_19 (by decide) (fun (c6 : ¬ (m_why E0 P nh nj j x = 0)) => ?_) (fun (c6 : m_why E0 P nh nj j x = 0) => ?_)
        · refine lv_iinc (v := nI (x + 1)) (lv' := [(2, .int (nI (x + 1))), (0, .ref (a 65)), (1, .int (nI j))]) hC.1 hC.2.1 dX4_firstFit_24 hl (k := 2) rfl (nI_add _ _) (by decide) rfl (fun ls hl => ?_)
          refine lv_goto (tgt := 2) hC.1 hC.2.1 dX4_firstFit_27 (by decide) ?_
          exact ih2 (x + 1) (by omega) (by rw [m_ff, hff, if_pos rfl, if_neg c6]) (by omega) _ _ _ hw (lv_sub hl [1, 2, 0] rfl)
        · refine lv_iload_n hC.1 hC.2.1 dX4_firstFit_22 rfl (lv_at hl 2 rfl) ?_
          refine hret _ _ _ _ _ _ hw ?_ rfl dX4_firstFit_23
          exact ⟨(ff_at hff c6 (by omega)).symm, rfl⟩
  exact L2_0 _ 0 (Nat.zero_le _) rfl (Nat.lt_succ_self _) _ _ _ hw (lv_sub hl [1, 2, 0] rfl)
set_option maxHeartbeats 4000000 in
set_option maxRecDepth 100000 in
theorem tX4_bestHost (l : Launch) (E : EV) (a : Nat → Nat) (σ : St) (nh : Nat) (nj : Nat) (E0 : St) (P : Nat → Int32) (j : Nat) (hN : cN2 σ nh nj) (hE : aE σ E0) (hS : cS E0 nh nj) (hFS : FSr E0 P nh nj (σ 16) (σ 17) (σ 18) (σ 19) (σ 20) (σ 21)) (hj : j < nj) : MI l E (XW E a) yX4_bestHost (Cond.code yX4_bestHost cX4_bestHost 6 (some .int)) ({ frames := 3, cells := 0, slots := 0, locals := 73 }) [.ref (a 65), .int (nI j)] σ (fun r_ u_ => r_ = (m_cb E0 P nh nj j) ∧ u_ = σ) := by
  refine MI.mk (by decide +kernel) (Nat.le_of_ble_eq_true rfl) ?_
  intro p e s m args below meth c ls A Q hret hC hw hl
  have hC : Cxt E p s m args meth c cX4_bestHost 6 (some .int) RX4 A := hC
  have hl : lv_has ls 6 [(0, .ref (a 65)), (1, .int (nI j))] := hl
  have hnh := hS.1
  have hnj := hS.2.1
  refine lv_iconst (v := (-1)) hC.1 hC.2.1 dX4_bestHost_0 (by decide) ?_
  refine lv_istore_n (lv' := [(2, .int ((-1))), (0, .ref (a 65)), (1, .int (nI j))]) hC.1 hC.2.1 dX4_bestHost_1 rfl hl (by decide) rfl (fun ls hl => ?_)
  refine lv_iconst (v := nI 0) hC.1 hC.2.1 dX4_bestHost_2 (by decide) ?_
  refine lv_istore_n (lv' := [(3, .int (nI 0)), (2, .int ((-1))), (0, .ref (a 65)), (1, .int (nI j))]) hC.1 hC.2.1 dX4_bestHost_3 rfl hl (by decide) rfl (fun ls hl => ?_)
  refine lv_iconst (v := nI 0) hC.1 hC.2.1 dX4_bestHost_4 (by decide) ?_
  refine lv_istore (lv' := [(4, .int (nI 0)), (3, .int (nI 0)), (2, .int ((-1))), (0, .ref (a 65)), (1, .int (nI j))]) hC.1 hC.2.1 dX4_bestHost_5 hl (by decide) rfl (fun ls hl => ?_)
  have L7_0 : ∀ (n : Nat), ∀ (x : Nat), ∀ (be : Int32), ∀ (mo : Int32), (x ≤ nh) → ((be = -1 ∧ m_bst E0 P nh nj j x = -3) ∨ ∃ b, b < x ∧ be = nI b ∧ m_bst E0 P nh nj j x = nI b ∧ mo = m_pts E0 P nj j b) → (nh - x) < n → ∀ (H : Heap) (locs : List Loc) (ls : Array Slot), Wst E (XW E a) (σ) A s.heap H locs → lv_has ls 6 [(0, .ref (a 65)), (1, .int (nI j)), (2, .int (be)), (3, .int (mo)), (4, .int (nI x))] → W p l e ({ frames := 3, cells := 0, slots := 0, locals := 73 }) s m args below meth c H locs 0 0 Q (F0 m 7 ls []) := by
    intro n
    induction n with
    | zero => intro x be mo hx hb hn; exact absurd hn (Nat.not_lt_zero _)
    | succ n ih7 =>
      intro x be mo hx hb hn7 H locs ls hw hl
      refine lv_iload hC.1 hC.2.1 dX4_bestHost_7 (lv_at hl 4 rfl) ?_
      refine lv_aload_n hC.1 hC.2.1 dX4_bestHost_9 rfl (lv_at hl 0 rfl) ?_
      refine gf_X4_30 hC hw dX4_bestHost_10 ?_
      refine gf_X4_119 (v := nI nh) hC hw hN.1 dX4_bestHost_13 ?_
      refine q_cmpge hC 61 (cNle (by omega) (by omega)) dX4_bestHost_16 (by decide) (fun (c2 : nh ≤ x) => ?_) (fun (c2 : x < nh) => ?_)
      · refine lv_iload_n hC.1 hC.2.1 dX4_bestHost_61 rfl (lv_at hl 2 rfl) ?_
        refine hret _ _ _ _ _ _ hw ?_ rfl dX4_bestHost_62
        have hx9 : x = nh := by omega
        rw [hx9] at hb
        exact ⟨cb_end (by omega) hb, rfl⟩
      · refine lv_aload_n hC.1 hC.2.1 dX4_bestHost_19 rfl (lv_at hl 0 rfl) ?_
        refine lv_iload_n hC.1 hC.2.1 dX4_bestHost_20 rfl (lv_at hl 1 rfl) ?_
        refine lv_iload hC.1 hC.2.1 dX4_bestHost_21 (lv_at hl 4 rfl) ?_
        refine q_callVp (As := [.int (nI j), .int (nI x)]) (rest := []) (q0 := 5) hC hw hl (tX4_fits l E a σ nh nj E0 P j x hN hE hS hFS (by first | assumption | omega) (by first | assumption | omega)) (q_cwV hC.2.2.2.2.1 ⟨rfl, rfl⟩ wk3_36 wk3_37 wk3_38 wk1_4 wk3_39 hd_X4_fits ⟨Nat.le_of_ble_eq_true rfl, Nat.le_of_ble_eq_true rfl⟩) rfl rfl rfl rfl rfl (Nat.le_of_ble_eq_true rfl) dX4_bestHost_23 (fun H locs hw => ?_)
        refine q_ifeq hC 55 cB dX4_bestHost_26 (by decide) (fun (c6 : ¬ (m_why E0 P nh nj j x = 0)) => ?_) (fun (c6 : m_why E0 P nh nj j x = 0) => ?_)
        · refine lv_iinc (v := nI (x + 1)) (lv' := [(4, .int (nI (x + 1))), (0, .ref (a 65)), (1, .int (nI j)), (2, .int (be)), (3, .int (mo))]) hC.1 hC.2.1 dX4_bestHost_55 hl (k := 4) rfl (nI_add _ _) (by decide) rfl (fun ls hl => ?_)
          refine lv_goto (tgt := 7) hC.1 hC.2.1 dX4_bestHost_58 (by decide) ?_
          have hb2 : (be = -1 ∧ m_bst E0 P nh nj j (x + 1) = -3) ∨ ∃ b, b < x + 1 ∧ be = nI b ∧ m_bst E0 P nh nj j (x + 1) = nI b ∧ mo = m_pts E0 P nj j b := cb_no hb c6
          exact ih7 (x + 1) be mo (by omega) hb2 (by omega) _ _ _ hw (lv_sub hl [1, 2, 3, 4, 0] rfl)
        · refine lv_aload_n hC.1 hC.2.1 dX4_bestHost_29 rfl (lv_at hl 0 rfl) ?_
          refine lv_iload_n hC.1 hC.2.1 dX4_bestHost_30 rfl (lv_at hl 1 rfl) ?_
          refine lv_iload hC.1 hC.2.1 dX4_bestHost_31 (lv_at hl 4 rfl) ?_
          refine q_callVp (As := [.int (nI j), .int (nI x)]) (rest := []) (q0 := 5) hC hw hl (tX4_score l E a σ nh nj E0 P j x hN hE hS hFS (by first | assumption | omega) (by first | assumption | omega)) (q_cwV hC.2.2.2.2.1 ⟨rfl, rfl⟩ wk3_41 wk3_17 wk3_18 wk1_4 wk3_19 hd_X4_score ⟨Nat.le_of_ble_eq_true rfl, Nat.le_of_ble_eq_true rfl⟩) rfl rfl rfl rfl rfl (Nat.le_of_ble_eq_true rfl) dX4_bestHost_33 (fun H locs hw => ?_)
          refine lv_istore (lv' := [(5, .int (m_pts E0 P nj j x)), (0, .ref (a 65)), (1, .int (nI j)), (2, .int (be)), (3, .int (mo)), (4, .int (nI x))]) hC.1 hC.2.1 dX4_bestHost_36 hl (by decide) rfl (fun ls hl => ?_)
          refine lv_iload_n hC.1 hC.2.1 dX4_bestHost_38 rfl (lv_at hl 3 rfl) ?_
          refine lv_iconst (v := (-1)) hC.1 hC.2.1 dX4_bestHost_39 (by decide) ?_
          refine q_cmpeq hC 49 cI dX4_bestHost_40 (by decide) (fun (c10 : be = (-1)) => ?_) (fun (c10 : ¬ (be = (-1))) => ?_)
          · refine lv_iload hC.1 hC.2.1 dX4_bestHost_49 (lv_at hl 5 rfl) ?_
            refine lv_istore_n (lv' := [(2, .int (nI x)), (5, .int (m_pts E0 P nj j x)), (0, .ref (a 65)), (1, .int (nI j)), (3, .int (mo)), (4, .int (nI x))]) hC.1 hC.2.1 dX4_bestHost_51 rfl hl (by decide) rfl (fun ls hl => ?_)
            refine lv_iload hC.1 hC.2.1 dX4_bestHost_52 (lv_at hl 1 rfl) ?_
            refine lv_istore_n (lv' := [(3, .int (m_pts E0 P nj j x)), (2, .int (nI x)), (5, .int (m_pts E0 P nj j x)), (0, .ref (a 65)), (1, .int (nI j)), (4, .int (nI x))]) hC.1 hC.2.1 dX4_bestHost_54 rfl hl (by decide) rfl (fun ls hl => ?_)
            refine lv_iinc (v := nI (x + 1)) (lv' := [(4, .int (nI (x + 1))), (3, .int (m_pts E0 P nj j x)), (2, .int (nI x)), (5, .int (m_pts E0 P nj j x)), (0, .ref (a 65)), (1, .int (nI j))]) hC.1 hC.2.1 dX4_bestHost_55 hl (k := 5) rfl (nI_add _ _) (by decide) rfl (fun ls hl => ?_)
            refine lv_goto (tgt := 7) hC.1 hC.2.1 dX4_bestHost_58 (by decide) ?_
            have hb2 : ((nI x) = -1 ∧ m_bst E0 P nh nj j (x + 1) = -3) ∨ ∃ b, b < x + 1 ∧ (nI x) = nI b ∧ m_bst E0 P nh nj j (x + 1) = nI b ∧ (m_pts E0 P nj j x) = m_pts E0 P nj j b := cb_new (by omega) hb c6 (Or.inl c10)
            exact ih7 (x + 1) (nI x) (m_pts E0 P nj j x) (by omega) hb2 (by omega) _ _ _ hw (lv_sub hl [4, 5, 2, 1, 0] rfl)
          · refine lv_iload hC.1 hC.2.1 dX4_bestHost_43 (lv_at hl 0 rfl) ?_
            refine lv_iload_n hC.1 hC.2.1 dX4_bestHost_45 rfl (lv_at hl 4 rfl) ?_
            refine q_cmple hC 55 cI dX4_bestHost_46 (by decide) (fun (c11 : m_pts E0 P nj j x ≤ mo) => ?_) (fun (c11 : ¬ (m_pts E0 P nj j x ≤ mo)) => ?_)
            · refine lv_iinc (v := nI (x + 1)) (lv' := [(4, .int (nI (x + 1))), (5, .int (m_pts E0 P nj j x)), (0, .ref (a 65)), (1, .int (nI j)), (2, .int (be)), (3, .int (mo))]) hC.1 hC.2.1 dX4_bestHost_55 hl (k := 5) rfl (nI_add _ _) (by decide) rfl (fun ls hl => ?_)
              refine lv_goto (tgt := 7) hC.1 hC.2.1 dX4_bestHost_58 (by decide) ?_
              have hb2 : (be = -1 ∧ m_bst E0 P nh nj j (x + 1) = -3) ∨ ∃ b, b < x + 1 ∧ be = nI b ∧ m_bst E0 P nh nj j (x + 1) = nI b ∧ mo = m_pts E0 P nj j b := cb_keep (by omega) hb c10 c11
              exact ih7 (x + 1) be mo (by omega) hb2 (by omega) _ _ _ hw (lv_sub hl [2, 3, 4, 5, 0] rfl)
            · refine lv_iload hC.1 hC.2.1 dX4_bestHost_49 (lv_at hl 5 rfl) ?_
              refine lv_istore_n (lv' := [(2, .int (nI x)), (5, .int (m_pts E0 P nj j x)), (0, .ref (a 65)), (1, .int (nI j)), (3, .int (mo)), (4, .int (nI x))]) hC.1 hC.2.1 dX4_bestHost_51 rfl hl (by decide) rfl (fun ls hl => ?_)
              refine lv_iload hC.1 hC.2.1 dX4_bestHost_52 (lv_at hl 1 rfl) ?_
              refine lv_istore_n (lv' := [(3, .int (m_pts E0 P nj j x)), (2, .int (nI x)), (5, .int (m_pts E0 P nj j x)), (0, .ref (a 65)), (1, .int (nI j)), (4, .int (nI x))]) hC.1 hC.2.1 dX4_bestHost_54 rfl hl (by decide) rfl (fun ls hl => ?_)
              refine lv_iinc (v := nI (x + 1)) (lv' := [(4, .int (nI (x + 1))), (3, .int (m_pts E0 P nj j x)), (2, .int (nI x)), (5, .int (m_pts E0 P nj j x)), (0, .ref (a 65)), (1, .int (nI j))]) hC.1 hC.2.1 dX4_bestHost_55 hl (k := 5) rfl (nI_add _ _) (by decide) rfl (fun ls hl => ?_)
              refine lv_goto (tgt := 7) hC.1 hC.2.1 dX4_bestHost_58 (by decide) ?_
              have hb2 : ((nI x) = -1 ∧ m_bst E0 P nh nj j (x + 1) = -3) ∨ ∃ b, b < x + 1 ∧ (nI x) = nI b ∧ m_bst E0 P nh nj j (x + 1) = nI b ∧ (m_pts E0 P nj j x) = m_pts E0 P nj j b := cb_new (by omega) hb c6 (Or.inr (Int32.not_le.mp c11))
              exact ih7 (x + 1) (nI x) (m_pts E0 P nj j x) (by omega) hb2 (by omega) _ _ _ hw (lv_sub hl [4, 5, 2, 1, 0] rfl)
  exact L7_0 _ 0 (-1) (nI 0) (Nat.zero_le _) (Or.inl ⟨rfl, rfl⟩) (Nat.lt_succ_self _) _ _ _ hw (lv_sub hl [3, 4, 2, 1, 0] rfl)
