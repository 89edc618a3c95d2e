/-! ===== the fewest hosts ===== -/
def bitsC (p : Nat → Nat) : Nat → Int32
  | 0 => 0
  | n + 1 => bitsC p n ||| (1 <<< (nI (p n) &&& 31))
def m_bits (w : Nat → Int32) (F : Nat → Nat) : Nat → Int32
  | 0 => 0
  | n + 1 => m_bits w F n ||| (1 <<< (eM w 12 (F n) &&& 31))
def m_cnt (x : Int32) : Nat → Int32
  | 0 => 0
  | n + 1 => m_cnt x n + (x >>> (nI n &&& 31) &&& 1)
def cnC (p : Nat → Nat) (fm : Nat) : Int32 := m_cnt (bitsC p fm) 10
theorem bitsC_congr {p q : Nat → Nat} : ∀ {n : Nat}, (∀ k, k < n → p k = q k) → bitsC p n = bitsC q n
  | 0, _ => rfl
  | n + 1, h => by rw [bitsC, bitsC, bitsC_congr (fun k hk => h k (by omega)), h n (by omega)]
theorem and_1 (x : Int32) : x &&& 1 = 0 ∨ x &&& 1 = 1 := by
  have h : (x &&& 1).toBitVec = x.toBitVec &&& 1#32 := rfl
  have e : x.toBitVec &&& 1#32 = 0#32 ∨ x.toBitVec &&& 1#32 = 1#32 := by
    generalize x.toBitVec = y
    have t : (y &&& 1#32).toNat = y.toNat % 2 := by rw [BitVec.toNat_and]; exact Nat.and_one_is_mod _
    rcases Nat.mod_two_eq_zero_or_one y.toNat with q | q
    · exact Or.inl (BitVec.eq_of_toNat_eq (by rw [t, q]; rfl))
    · exact Or.inr (BitVec.eq_of_toNat_eq (by rw [t, q]; rfl))
  rcases e with e | e
  · exact Or.inl (Int32.toBitVec_inj.mp (h.trans e))
  · exact Or.inr (Int32.toBitVec_inj.mp (h.trans e))
theorem m_cnt_nat (x : Int32) : ∀ n : Nat, ∃ c, c ≤ n ∧ m_cnt x n = nI c
  | 0 => ⟨0, Nat.le_refl _, rfl⟩
  | n + 1 => by
    obtain ⟨c, h1, h2⟩ := m_cnt_nat x n
    rw [m_cnt, h2]
    rcases and_1 (x >>> (nI n &&& 31)) with e | e
    · rw [e]; exact ⟨c, by omega, Int32.add_zero _⟩
    · rw [e]; exact ⟨c + 1, by omega, nI_1 c⟩
def Fea (E : St) (F : Nat → Nat) (fm : Nat) (P0 : Nat → Int32) (nh nj : Nat) (p : Nat → Nat) (n : Nat) : Prop := ∀ k, k < n → p k < nh ∧ fitC E F fm P0 nh nj (fun i => if i < k then p i else 10) k (p k)
theorem Fea.congr {E : St} {F : Nat → Nat} {fm nh nj n : Nat} {P0 : Nat → Int32} {p q : Nat → Nat} (h : Fea E F fm P0 nh nj p n) (e : ∀ k, k < n → p k = q k) : Fea E F fm P0 nh nj q n := fun k hk => by
  have a := h k hk
  rw [e k hk] at a
  refine ⟨a.1, (fitC_congr (fun i hi => ?_)).mp a.2⟩
  by_cases z : i < k
  · rw [if_pos z, if_pos z, e i (by omega)]
  · rw [if_neg z, if_neg z]
/-- the least so far, of all that X has -/
def Mn (E : St) (F : Nat → Nat) (fm : Nat) (P0 : Nat → Int32) (nh nj : Nat) (X : (Nat → Nat) → Prop) (best : Int32) : Prop := (∀ q, Fea E F fm P0 nh nj q fm → X q → 0 ≤ best ∧ best ≤ cnC q fm) ∧ (best = -3 ∨ ∃ q, Fea E F fm P0 nh nj q fm ∧ best = cnC q fm)
theorem Mn.sub {E : St} {F : Nat → Nat} {fm nh nj : Nat} {P0 : Nat → Int32} {X Y : (Nat → Nat) → Prop} {best : Int32} (h : Mn E F fm P0 nh nj X best) (hs : ∀ q, Fea E F fm P0 nh nj q fm → Y q → X q) : Mn E F fm P0 nh nj Y best := ⟨fun q hq hy => h.1 q hq (hs q hq hy), h.2⟩
def Xp (fm k : Nat) (T : Nat → Nat) (q : Nat → Nat) : Prop := ∃ i, i < fm ∧ i ≤ k ∧ (∀ x, x < i → q x + 1 = T x) ∧ q i + (if i = k then 0 else 1) < T i
def Xk (fm k1 : Nat) (T : Nat → Nat) (q : Nat → Nat) : Prop := k1 = 0 ∨ Xp fm (k1 - 1) T q
theorem Mn.leaf {E : St} {F : Nat → Nat} {fm nh nj : Nat} {P0 : Nat → Int32} {T : Nat → Nat} {best : Int32} (h : Mn E F fm P0 nh nj (Xk fm (fm + 1) T) best) (hT : ∀ i, i < fm → 1 ≤ T i) (hF : Fea E F fm P0 nh nj (fun i => T i - 1) fm) : Mn E F fm P0 nh nj (Xk fm fm T) (if best < 0 then cnC (fun i => T i - 1) fm else (if best ≤ cnC (fun i => T i - 1) fm then best else cnC (fun i => T i - 1) fm)) := by
  obtain ⟨c, hc, ec⟩ := m_cnt_nat (bitsC (fun i => T i - 1) fm) 10
  have ec : cnC (fun i => T i - 1) fm = nI c := ec
  have h0 : (0 : Int32) ≤ nI c := nI_pos' (by omega)
  refine ⟨fun q hq hX => ?_, ?_⟩
  · have hsp : Xk fm (fm + 1) T q ∨ ∀ k, k < fm → T k - 1 = q k := by
      rcases hX with hX | ⟨i, h1, h2, h3, h4⟩
      · exact Or.inr (fun k hk => by omega)
      · by_cases e : i = fm - 1
        · rw [if_pos e] at h4
          by_cases e2 : q i + 1 = T i
          · refine Or.inr (fun k hk => ?_)
            by_cases e3 : k = i
            · rw [e3]; omega
            · have := h3 k (by omega); omega
          · exact Or.inl (Or.inr ⟨i, h1, by omega, h3, by rw [if_neg (by omega)]; omega⟩)
        · rw [if_neg e] at h4
          exact Or.inl (Or.inr ⟨i, h1, by omega, h3, by rw [if_neg (by omega)]; exact h4⟩)
    rcases hsp with hs | hs
    · have a := h.1 q hq hs
      rw [if_neg (Int32.not_lt.mpr a.1), ec]
      split
      case isTrue z => exact a
      case isFalse z => exact ⟨h0, Int32.le_trans (Int32.le_of_lt (Int32.not_le.mp z)) a.2⟩
    · have e : cnC q fm = nI c := by rw [← ec]; unfold cnC; rw [bitsC_congr hs]
      rw [e, ec]
      split
      case isTrue z => exact ⟨h0, Int32.le_refl _⟩
      case isFalse z =>
        split
        case isTrue z2 => exact ⟨Int32.not_lt.mp z, z2⟩
        case isFalse z2 => exact ⟨h0, Int32.le_refl _⟩
  · split
    case isTrue z => exact Or.inr ⟨_, hF, rfl⟩
    case isFalse z =>
      split
      case isTrue z2 => exact h.2
      case isFalse z2 => exact Or.inr ⟨_, hF, rfl⟩
theorem Mn.fail {E : St} {F : Nat → Nat} {fm nh nj k : Nat} {P0 : Nat → Int32} {T T' : Nat → Nat} {best : Int32} (h : Mn E F fm P0 nh nj (Xk fm (k + 1) T) best) (hk : k < fm) (hT : ∀ i, i < k → T' i = T i) (hn : ∀ x, T k ≤ x → x < nh → ¬ fitC E F fm P0 nh nj (fun i => if i < k then T i - 1 else 10) k x) : Mn E F fm P0 nh nj (Xk fm k T') best := h.sub (fun q hq hX => by
  have key : (∀ x, x < k → q x + 1 = T x) → Xk fm (k + 1) T q := fun ha => by
    refine Or.inr ⟨k, hk, Nat.le_refl _, ha, ?_⟩
    rw [if_pos (by omega)]
    refine Classical.byContradiction fun z => ?_
    have a := hq k hk
    refine hn (q k) (by omega) a.1 ((fitC_congr (fun i hi => ?_)).mp a.2)
    by_cases z : i < k
    · rw [if_pos z, if_pos z]; have := ha i z; omega
    · rw [if_neg z, if_neg z]
  rcases hX with hX | ⟨i, h1, h2, h3, h4⟩
  · exact key (fun x hx => by omega)
  · by_cases e0 : k = 0
    · exact key (fun x hx => by omega)
    · have h3' : ∀ x, x < i → q x + 1 = T x := fun x hx => by rw [h3 x hx, hT x (by omega)]
      rw [hT i (by omega)] at h4
      by_cases e : i = k - 1
      · rw [if_pos e] at h4
        by_cases e2 : q i + 1 = T i
        · refine key (fun x hx => ?_)
          by_cases e3 : x = i
          · rw [e3]; exact e2
          · exact h3' x (by omega)
        · exact Or.inr ⟨i, h1, by omega, h3', by rw [if_neg (by omega)]; omega⟩
      · rw [if_neg e] at h4
        exact Or.inr ⟨i, h1, by omega, h3', by rw [if_neg (by omega)]; exact h4⟩)
theorem Mn.desc {E : St} {F : Nat → Nat} {fm nh nj k h : Nat} {P0 : Nat → Int32} {T : Nat → Nat} {best : Int32} (hM : Mn E F fm P0 nh nj (Xk fm (k + 1) T) best) (hk : k < fm) (hh : h < nh) (hn : ∀ x, T k ≤ x → x < h → ¬ fitC E F fm P0 nh nj (fun i => if i < k then T i - 1 else 10) k x) : Mn E F fm P0 nh nj (Xk fm (k + 2) (pu (pu T k (h + 1)) (k + 1) 0)) best := hM.sub (fun q hq hX => by
  have e0 : pu (pu T k (h + 1)) (k + 1) 0 k = h + 1 := by unfold pu; rw [if_neg (by omega), if_pos rfl]
  have e1 : pu (pu T k (h + 1)) (k + 1) 0 (k + 1) = 0 := if_pos rfl
  have e2 : ∀ i, i < k → pu (pu T k (h + 1)) (k + 1) 0 i = T i := fun i hi => by unfold pu; rw [if_neg (by omega), if_neg (by omega)]
  rcases hX with hX | ⟨i, h1, h2, h3, h4⟩
  · omega
  · rw [show k + 2 - 1 = k + 1 by omega] at h2 h4
    by_cases ei : i = k + 1
    · subst ei; rw [e1] at h4; omega
    · rw [if_neg ei] at h4
      have h3' : ∀ x, x < i → x < k → q x + 1 = T x := fun x hx hx2 => by rw [h3 x hx, e2 x hx2]
      by_cases ek : i = k
      · subst ek
        rw [e0] at h4
        refine Or.inr ⟨i, h1, Nat.le_refl _, fun x hx => h3' x hx hx, ?_⟩
        rw [if_pos (by omega)]
        refine Classical.byContradiction fun z => ?_
        have a := hq i hk
        refine hn (q i) (by omega) (by omega) ((fitC_congr (fun j hj => ?_)).mp a.2)
        by_cases z : j < i
        · rw [if_pos z, if_pos z]; have := h3' j z z; omega
        · rw [if_neg z, if_neg z]
      · rw [e2 i (by omega)] at h4
        exact Or.inr ⟨i, h1, by omega, fun x hx => h3' x hx (by omega), by rw [if_neg (by omega)]; exact h4⟩)
/-! it ends -/
def muS (fm : Nat) (T : Nat → Nat) : Nat → Nat
  | 0 => 0
  | k + 1 => muS fm T k + (23 - 2 * T k) * 24 ^ (fm - k)
def muK (fm k1 : Nat) (T : Nat → Nat) : Nat := if k1 = 0 then 0 else 1 + muS fm T (k1 - 1) + if k1 - 1 < fm then (22 - 2 * T (k1 - 1)) * 24 ^ (fm - (k1 - 1)) else 0
theorem muS_congr {fm : Nat} {T T' : Nat → Nat} : ∀ {k : Nat}, (∀ i, i < k → T i = T' i) → muS fm T k = muS fm T' k
  | 0, _ => rfl
  | k + 1, h => by rw [muS, muS, muS_congr (fun i hi => h i (by omega)), h k (by omega)]
/-- from level k one back -/
theorem muK_up {fm k : Nat} {T T' : Nat → Nat} (hk : k ≤ fm) (hT : ∀ i, i < k → T' i = T i ∧ T i ≤ 10) (hk2 : k < fm → T k ≤ 10) : muK fm k T' < muK fm (k + 1) T := by
  unfold muK
  rw [if_neg (show ¬ k + 1 = 0 by omega), show k + 1 - 1 = k by omega]
  by_cases e : k = 0
  · rw [if_pos e]; omega
  · obtain ⟨j, rfl⟩ : ∃ j, k = j + 1 := ⟨k - 1, by omega⟩
    rw [if_neg e, show j + 1 - 1 = j by omega, muS, muS_congr (fun i hi => (hT i (by omega)).1), (hT j (by omega)).1, if_pos (by omega)]
    have h10 := (hT j (by omega)).2
    have e2 : (23 - 2 * T j) * 24 ^ (fm - j) = (22 - 2 * T j) * 24 ^ (fm - j) + 24 ^ (fm - j) := by
      rw [show 23 - 2 * T j = (22 - 2 * T j) + 1 by omega, Nat.succ_mul]
    have e3 : 0 < 24 ^ (fm - j) := Nat.pow_pos (by decide)
    rw [e2]
    generalize (22 - 2 * T j) * 24 ^ (fm - j) = x at *
    generalize 24 ^ (fm - j) = y at *
    generalize muS fm T j = z at *
    omega
theorem muK_dn {fm k h : Nat} {T : Nat → Nat} (hk : k < fm) (hh : T k ≤ h) (h9 : h ≤ 9) : muK fm (k + 2) (pu (pu T k (h + 1)) (k + 1) 0) < muK fm (k + 1) T := by
  have e0 : pu (pu T k (h + 1)) (k + 1) 0 k = h + 1 := by unfold pu; rw [if_neg (by omega), if_pos rfl]
  have e1 : pu (pu T k (h + 1)) (k + 1) 0 (k + 1) = 0 := if_pos rfl
  have e2 : ∀ i, i < k → pu (pu T k (h + 1)) (k + 1) 0 i = T i := fun i hi => by unfold pu; rw [if_neg (by omega), if_neg (by omega)]
  unfold muK
  rw [if_neg (show ¬ k + 2 = 0 by omega), if_neg (show ¬ k + 1 = 0 by omega), show k + 2 - 1 = k + 1 by omega, show k + 1 - 1 = k by omega, muS, muS_congr e2, e0, e1, if_pos hk]
  have a1 : (22 - 2 * T k) * 24 ^ (fm - k) ≥ (23 - 2 * (h + 1)) * 24 ^ (fm - k) + 24 ^ (fm - k) := by
    rw [← Nat.succ_mul]
    exact Nat.mul_le_mul_right _ (by omega)
  have a2 : (if k + 1 < fm then (22 - 2 * 0) * 24 ^ (fm - (k + 1)) else 0) < 24 ^ (fm - k) := by
    have e3 : 24 ^ (fm - k) = 24 * 24 ^ (fm - (k + 1)) := by
      rw [show fm - k = (fm - (k + 1)) + 1 by omega, Nat.pow_succ, Nat.mul_comm]
    have e4 : 0 < 24 ^ (fm - (k + 1)) := Nat.pow_pos (by decide)
    rw [e3]
    split <;> omega
  omega
theorem nI_s1 (x : Nat) : nI x - 1 + 1 = nI x := by grind
theorem nI_mm (x : Nat) : nI x + (-1) = nI x - 1 := by grind
def f_off (v : Nat → Int32) (F : Nat → Nat) : Nat → (Nat → Int32)
  | 0 => v
  | k + 1 => upd (f_off v F k) (258 + F k) 0
theorem f_off_at {v : Nat → Int32} {F : Nat → Nat} {fm nh nj : Nat} (hF : Fok F fm nj) (hj : nj ≤ 24) : atP v F fm nh (f_off v F fm) (fun _ => 10) := by
  have key : ∀ n, n ≤ fm → (∀ i, (∀ k, k < fm → i ≠ 258 + F k) → f_off v F n i = v i) ∧ ∀ k, k < n → f_off v F n (258 + F k) = 0 := by
    intro n
    induction n with
    | zero => intro _; exact ⟨fun _ _ => rfl, fun k hk => absurd hk (Nat.not_lt_zero _)⟩
    | succ n ih =>
      intro hn
      obtain ⟨i1, i2⟩ := ih (by omega)
      refine ⟨fun i hi => ?_, fun k hk => ?_⟩
      · rw [f_off, upn (hi n (by omega))]; exact i1 i hi
      · rw [f_off]
        by_cases e : k = n
        · subst e; exact ups
        · rw [upn (fun z => e (hF.2 k n (by omega) (by omega) (by omega)))]; exact i2 k (by omega)
  have := key fm (Nat.le_refl _)
  exact ⟨fun i hi => this.1 i (fun k hk => (hi k hk).1), fun k hk => Or.inl ⟨rfl, this.2 k hk⟩⟩
theorem atP.congr {v0 w : Nat → Int32} {F : Nat → Nat} {fm nh : Nat} {p q : Nat → Nat} (h : atP v0 F fm nh w p) (e : ∀ k, k < fm → p k = q k) : atP v0 F fm nh w q := ⟨h.1, fun k hk => by rw [← e k hk]; exact h.2 k hk⟩
theorem atP.off {v0 w : Nat → Int32} {F : Nat → Nat} {fm nh nj k : Nat} {p : Nat → Nat} (h : atP v0 F fm nh w p) (hF : Fok F fm nj) (hj : nj ≤ 24) (hk : k < fm) : atP v0 F fm nh (upd w (258 + F k) 0) (pu p k 10) := by
  have hFk := hF.1 k hk
  refine ⟨fun i hi => ?_, fun i hi => ?_⟩
  · rw [upn (hi k hk).1]; exact h.1 i hi
  · have hFi := hF.1 i hi
    by_cases e : i = k
    · subst e; exact Or.inl ⟨if_pos rfl, ups⟩
    · have e2 : F i ≠ F k := fun q => e (hF.2 i k hi hk q)
      rw [show pu p k 10 i = p i from if_neg e, upn (by omega), upn (by omega)]
      exact h.2 i hi
theorem qL_mono {c : Nat → Bool} {n : Nat} : ∀ d : Nat, (qL c n).length ≤ (qL c (n + d)).length
  | 0 => Nat.le_refl _
  | d + 1 => by
    have := qL_mono (c := c) (n := n) d
    rw [show n + (d + 1) = (n + d) + 1 by omega, qL]
    split
    · rw [List.length_append]; omega
    · exact this
def fwc2 (v : Nat → Int32) : Nat → Bool := fun j => decide (eM v 11 j = 1 ∧ ¬ eM v 5 j = 3)
abbrev fwN2 (v : Nat → Int32) (nj : Nat) : Nat := (qL (fwc2 v) nj).length
abbrev fwF2 (v : Nat → Int32) (nj : Nat) : Nat → Nat := gd (qL (fwc2 v) nj)
abbrev FeaV (v : Nat → Int32) (nh nj : Nat) (q : Nat → Nat) : Prop := Fea (eM v) (fwF2 v nj) (fwN2 v nj) (pB (eM v) (-1)) nh nj q (fwN2 v nj)
/-- what fewest answers -/
def FWr (v : Nat → Int32) (nh nj : Nat) (r : Int32) : Prop := (5 < fwN2 v nj ∧ r = -4) ∨ (fwN2 v nj ≤ 5 ∧ ((∃ q, FeaV v nh nj q ∧ r = cnC q (fwN2 v nj) ∧ ∀ q', FeaV v nh nj q' → cnC q (fwN2 v nj) ≤ cnC q' (fwN2 v nj)) ∨ ((∀ q, ¬ FeaV v nh nj q) ∧ r = -3)))
theorem m_bits_at {v0 w : Nat → Int32} {F : Nat → Nat} {fm nh : Nat} {p : Nat → Nat} (h : atP v0 F fm nh w p) (hn : nh ≤ 10) (hp : ∀ k, k < fm → p k < nh) : ∀ {n : Nat}, n ≤ fm → m_bits w F n = bitsC p n
  | 0, _ => rfl
  | n + 1, hn1 => by
    rw [m_bits, bitsC, m_bits_at h hn hp (by omega)]
    have : eM w 12 (F n) = nI (p n) := h.at hn (by omega) (hp n (by omega))
    rw [this]
set_option maxHeartbeats 4000000 in
set_option maxRecDepth 100000 in
theorem tX11_hostsOfFew (l : Launch) (E : EV) (a : Nat → Nat) (τ : St) (nh : Nat) (nj : Nat) (fm : Nat) (F : Nat → Nat) (hW : mF (τ 1) nh nj) (hm : τ 0 4 = nI fm) (hm5 : fm ≤ 5) (hF : ∀ k, k < fm → τ 5 k = nI (F k) ∧ F k < nj) : MI l E (MW E a) yX11_hostsOfFew (Cond.code yX11_hostsOfFew cX11_hostsOfFew 4 (some .int)) ({ frames := 0, cells := 0, slots := 0, locals := 0 }) [.ref (a 70)] τ (fun r_ u_ => r_ = (m_cnt (m_bits (τ 1) F fm) 10) ∧ u_ = τ) := by
  refine MI.mk (by decide +kernel) (Nat.le_of_ble_eq_true rfl) ?_
  intro p e s m args below meth c ls A Q hret hC hw hl
  have hC : Cxt E p s m args meth c cX11_hostsOfFew 4 (some .int) RX11 A := hC
  have hl : lv_has ls 4 [(0, .ref (a 70))] := hl
  have ⟨hnh, hnj, hW0, hW1, hWh⟩ := id hW
  refine lv_iconst (v := nI 0) hC.1 hC.2.1 dX11_hostsOfFew_0 (by decide) ?_
  refine lv_istore_n (lv' := [(1, .int (nI 0)), (0, .ref (a 70))]) hC.1 hC.2.1 dX11_hostsOfFew_1 rfl hl (by decide) rfl (fun ls hl => ?_)
  refine lv_iconst (v := nI 0) hC.1 hC.2.1 dX11_hostsOfFew_2 (by decide) ?_
  refine lv_istore_n (lv' := [(2, .int (nI 0)), (1, .int (nI 0)), (0, .ref (a 70))]) hC.1 hC.2.1 dX11_hostsOfFew_3 rfl hl (by decide) rfl (fun ls hl => ?_)
  have L4_0 : ∀ (n : Nat), ∀ (k : Nat), ∀ (bi : Int32), (bi = (m_bits (τ 1) F k)) → (k ≤ fm) → (fm - k) < n → ∀ (H : Heap) (locs : List Loc) (ls : Array Slot), Wst E (MW E a) (τ) A s.heap H locs → lv_has ls 4 [(0, .ref (a 70)), (1, .int (bi)), (2, .int (nI k))] → W p l e ({ frames := 0, cells := 0, slots := 0, locals := 0 }) s m args below meth c H locs 0 0 Q (F0 m 4 ls []) := by
    intro n
    induction n with
    | zero => intro k bi q_bi hk hn; exact absurd hn (Nat.not_lt_zero _)
    | succ n ih4 =>
      intro k bi q_bi hk hn4 H locs ls hw hl
      subst q_bi
      refine lv_iload_n hC.1 hC.2.1 dX11_hostsOfFew_4 rfl (lv_at hl 2 rfl) ?_
      refine lv_aload_n hC.1 hC.2.1 dX11_hostsOfFew_5 rfl (lv_at hl 0 rfl) ?_
      refine gf_X11_138 (v := nI fm) hC hw hm dX11_hostsOfFew_6 ?_
      refine q_cmpge hC 38 (cNle (by omega) (by omega)) dX11_hostsOfFew_9 (by decide) (fun (c2 : fm ≤ k) => ?_) (fun (c2 : k < fm) => ?_)
      · have hk9 : k = fm := by omega
        rw [hk9] at hl
        refine lv_iconst (v := nI 0) hC.1 hC.2.1 dX11_hostsOfFew_38 (by decide) ?_
        refine lv_istore_n (lv' := [(2, .int (nI 0)), (0, .ref (a 70)), (1, .int (m_bits (τ 1) F fm))]) hC.1 hC.2.1 dX11_hostsOfFew_39 rfl hl (by decide) rfl (fun ls hl => ?_)
        refine lv_iconst (v := nI 0) hC.1 hC.2.1 dX11_hostsOfFew_40 (by decide) ?_
        refine lv_istore_n (lv' := [(3, .int (nI 0)), (2, .int (nI 0)), (0, .ref (a 70)), (1, .int (m_bits (τ 1) F fm))]) hC.1 hC.2.1 dX11_hostsOfFew_41 rfl hl (by decide) rfl (fun ls hl => ?_)
        have L42_2 : ∀ (n : Nat), ∀ (h : Nat), ∀ (n2 : Int32), (n2 = (m_cnt (m_bits (τ 1) F fm) h)) → (h ≤ 10) → (10 - h) < n → ∀ (H : Heap) (locs : List Loc) (ls : Array Slot), Wst E (MW E a) (τ) A s.heap H locs → lv_has ls 4 [(0, .ref (a 70)), (1, .int (m_bits (τ 1) F fm)), (2, .int (n2)), (3, .int (nI h))] → W p l e ({ frames := 0, cells := 0, slots := 0, locals := 0 }) s m args below meth c H locs 0 0 Q (F0 m 42 ls []) := by
          intro n
          induction n with
          | zero => intro h n2 q_n2 hh hn; exact absurd hn (Nat.not_lt_zero _)
          | succ n ih42 =>
            intro h n2 q_n2 hh hn42 H locs ls hw hl
            subst q_n2
            refine lv_iload_n hC.1 hC.2.1 dX11_hostsOfFew_42 rfl (lv_at hl 3 rfl) ?_
            refine lv_bipush (v := nI 10) hC.1 hC.2.1 dX11_hostsOfFew_43 (by decide) ?_
            refine q_cmpge hC 62 (cNle (by omega) (by omega)) dX11_hostsOfFew_45 (by decide) (fun (c4 : 10 ≤ h) => ?_) (fun (c4 : h < 10) => ?_)
            · refine lv_iload_n hC.1 hC.2.1 dX11_hostsOfFew_62 rfl (lv_at hl 2 rfl) ?_
              refine hret _ _ _ _ _ _ hw ?_ rfl dX11_hostsOfFew_63
              exact ⟨by rw [show h = 10 by omega], rfl⟩
            · refine lv_iload_n hC.1 hC.2.1 dX11_hostsOfFew_48 rfl (lv_at hl 2 rfl) ?_
              refine lv_iload_n hC.1 hC.2.1 dX11_hostsOfFew_49 rfl (lv_at hl 1 rfl) ?_
              refine lv_iload_n hC.1 hC.2.1 dX11_hostsOfFew_50 rfl (lv_at hl 3 rfl) ?_
              refine lv_ishr hC.1 hC.2.1 dX11_hostsOfFew_51 ?_
              refine lv_iconst (v := nI 1) hC.1 hC.2.1 dX11_hostsOfFew_52 (by decide) ?_
              refine lv_iand hC.1 hC.2.1 dX11_hostsOfFew_53 ?_
              refine lv_iadd hC.1 hC.2.1 dX11_hostsOfFew_54 ?_
              refine lv_istore_n (lv' := [(2, .int ((m_cnt (m_bits (τ 1) F fm) h) + (((m_bits (τ 1) F fm) >>> ((nI h) &&& 31)) &&& 1))), (0, .ref (a 70)), (1, .int (m_bits (τ 1) F fm)), (3, .int (nI h))]) hC.1 hC.2.1 dX11_hostsOfFew_55 rfl hl (by decide) rfl (fun ls hl => ?_)
              refine lv_iinc (v := nI (h + 1)) (lv' := [(3, .int (nI (h + 1))), (2, .int ((m_cnt (m_bits (τ 1) F fm) h) + (((m_bits (τ 1) F fm) >>> ((nI h) &&& 31)) &&& 1))), (0, .ref (a 70)), (1, .int (m_bits (τ 1) F fm))]) hC.1 hC.2.1 dX11_hostsOfFew_56 hl (k := 3) rfl (nI_add _ _) (by decide) rfl (fun ls hl => ?_)
              refine lv_goto (tgt := 42) hC.1 hC.2.1 dX11_hostsOfFew_59 (by decide) ?_
              exact ih42 (h + 1) ((m_cnt (m_bits (τ 1) F fm) h) + (((m_bits (τ 1) F fm) >>> ((nI h) &&& 31)) &&& 1)) rfl (by omega) (by omega) _ _ _ hw (lv_sub hl [2, 3, 1, 0] rfl)
        exact L42_2 _ 0 (nI 0) rfl (Nat.zero_le _) (Nat.lt_succ_self _) _ _ _ hw (lv_sub hl [2, 3, 1, 0] rfl)
      · refine lv_iload_n hC.1 hC.2.1 dX11_hostsOfFew_12 rfl (lv_at hl 1 rfl) ?_
        refine lv_iconst (v := nI 1) hC.1 hC.2.1 dX11_hostsOfFew_13 (by decide) ?_
        refine lv_aload_n hC.1 hC.2.1 dX11_hostsOfFew_14 rfl (lv_at hl 0 rfl) ?_
        refine gf_X11_7 hC hw dX11_hostsOfFew_15 ?_
        refine lv_sipush (v := nI 282) hC.1 hC.2.1 dX11_hostsOfFew_18 (by decide) ?_
        refine lv_aload_n hC.1 hC.2.1 dX11_hostsOfFew_21 rfl (lv_at hl 0 rfl) ?_
        refine gf_X11_22 hC hw dX11_hostsOfFew_22 ?_
        refine lv_iload_n hC.1 hC.2.1 dX11_hostsOfFew_25 rfl (lv_at hl 2 rfl) ?_
        have hFx := (hF k (by omega)).2
        refine al_M5 (v := nI (F k)) hC hw (by omega) (hF k (by omega)).1 dX11_hostsOfFew_26 ?_
        refine q_addN hC dX11_hostsOfFew_27 ?_
        refine al_M1 (v := eM (τ 1) 12 (F k)) hC hw (by omega) (show _ = eM (τ 1) 12 (F k) from congrArg (τ 1) (by omega)) dX11_hostsOfFew_28 ?_
        refine lv_ishl hC.1 hC.2.1 dX11_hostsOfFew_29 ?_
        refine lv_ior hC.1 hC.2.1 dX11_hostsOfFew_30 ?_
        refine lv_istore_n (lv' := [(1, .int ((m_bits (τ 1) F k) ||| (1 <<< ((eM (τ 1) 12 (F k)) &&& 31)))), (0, .ref (a 70)), (2, .int (nI k))]) hC.1 hC.2.1 dX11_hostsOfFew_31 rfl hl (by decide) rfl (fun ls hl => ?_)
        refine lv_iinc (v := nI (k + 1)) (lv' := [(2, .int (nI (k + 1))), (1, .int ((m_bits (τ 1) F k) ||| (1 <<< ((eM (τ 1) 12 (F k)) &&& 31)))), (0, .ref (a 70))]) hC.1 hC.2.1 dX11_hostsOfFew_32 hl (k := 2) rfl (nI_add _ _) (by decide) rfl (fun ls hl => ?_)
        refine lv_goto (tgt := 4) hC.1 hC.2.1 dX11_hostsOfFew_35 (by decide) ?_
        exact ih4 (k + 1) ((m_bits (τ 1) F k) ||| (1 <<< ((eM (τ 1) 12 (F k)) &&& 31))) rfl (by omega) (by omega) _ _ _ hw (lv_sub hl [2, 1, 0] rfl)
  exact L4_0 _ 0 (nI 0) rfl (Nat.zero_le _) (Nat.lt_succ_self _) _ _ _ hw (lv_sub hl [2, 1, 0] rfl)
set_option maxHeartbeats 4000000 in
set_option maxRecDepth 100000 in
theorem tX11_fewest (l : Launch) (E : EV) (a : Nat → Nat) (τ : St) (nh : Nat) (nj : Nat) (hW : mF (τ 1) nh nj) : MI l E (MW E a) yX11_fewest (Cond.code yX11_fewest cX11_fewest 5 (some .int)) ({ frames := 4, cells := 0, slots := 0, locals := 94 }) [.ref (a 70)] τ (fun r_ u_ => ∃ (r4 r5 r12 : Nat → Int32) (z4 : Int32), FWr (τ 1) nh nj r_ ∧ u_ = sr (sr (sr (sr τ 4 r4) 5 r5) 12 r12) 0 (upd (τ 0) 4 z4)) := by
  refine MI.mk (by decide +kernel) (Nat.le_of_ble_eq_true rfl) ?_
  intro p e s m args below meth c ls A Q hret hC hw hl
  have hC : Cxt E p s m args meth c cX11_fewest 5 (some .int) RX11 A := hC
  have hl : lv_has ls 5 [(0, .ref (a 70))] := hl
  have ⟨hnh, hnj, hW0, hW1, hWh⟩ := id hW
  refine lv_aload_n hC.1 hC.2.1 dX11_fewest_0 rfl (lv_at hl 0 rfl) ?_
  refine lv_iconst (v := nI 0) hC.1 hC.2.1 dX11_fewest_1 (by decide) ?_
  refine pf_X11_138 hC hw dX11_fewest_2 (fun H locs hw => ?_)
  have hw : Wst E (MW E a) (sr τ 0 (upd (τ 0) 4 (nI 0))) A s.heap H locs := hw
  refine lv_iconst (v := nI 0) hC.1 hC.2.1 dX11_fewest_5 (by decide) ?_
  refine lv_istore_n (lv' := [(1, .int (nI 0)), (0, .ref (a 70))]) hC.1 hC.2.1 dX11_fewest_6 rfl hl (by decide) rfl (fun ls hl => ?_)
  have L7_0 : ∀ (n : Nat), ∀ (j : Nat), ∀ (r5 : Nat → Int32), (j ≤ nj) → (∀ x, x < (qL (fwc2 (τ 1)) j).length → r5 x = nI (gd (qL (fwc2 (τ 1)) j) x)) → ((qL (fwc2 (τ 1)) j).length ≤ 5) → (nj - j) < n → ∀ (H : Heap) (locs : List Loc) (ls : Array Slot), Wst E (MW E a) (sr (sr τ 5 (r5)) 0 (upd (τ 0) 4 (nI (qL (fwc2 (τ 1)) j).length))) A s.heap H locs → lv_has ls 5 [(0, .ref (a 70)), (1, .int (nI j))] → W p l e ({ frames := 4, cells := 0, slots := 0, locals := 94 }) s m args below meth c H locs 0 0 Q (F0 m 7 ls []) := by
    intro n
    induction n with
    | zero => intro j r5 hj hG h5 hn; exact absurd hn (Nat.not_lt_zero _)
    | succ n ih7 =>
      intro j r5 hj hG h5 hn7 H locs ls hw hl
      have hLn := qL_len (c := fwc2 (τ 1)) (n := j)
      refine lv_iload_n hC.1 hC.2.1 dX11_fewest_7 rfl (lv_at hl 1 rfl) ?_
      refine lv_aload_n hC.1 hC.2.1 dX11_fewest_8 rfl (lv_at hl 0 rfl) ?_
      refine gf_X11_7 hC hw dX11_fewest_9 ?_
      refine lv_iconst (v := nI 1) hC.1 hC.2.1 dX11_fewest_12 (by decide) ?_
      refine al_M1 (v := nI nj) hC hw (by omega) hW.2.2.2.1 dX11_fewest_13 ?_
      refine q_cmpge hC 81 (cNle (by omega) (by omega)) dX11_fewest_14 (by decide) (fun (c2 : nj ≤ j) => ?_) (fun (c2 : j < nj) => ?_)
      · have hj9 : j = nj := by omega
        rw [hj9] at hw hl
        rw [hj9] at hG hLn h5
        have hLn : fwN2 (τ 1) nj ≤ nj := hLn
        have h5 : fwN2 (τ 1) nj ≤ 5 := h5
        have hFk : Fok (fwF2 (τ 1) nj) (fwN2 (τ 1) nj) nj := qL_ok
        have hG : ∀ x, x < fwN2 (τ 1) nj → r5 x = nI (fwF2 (τ 1) nj x) := hG
        have hF : ∀ x, x < fwN2 (τ 1) nj → r5 x = nI (fwF2 (τ 1) nj x) ∧ fwF2 (τ 1) nj x < nj := fun x hx => ⟨hG x hx, hFk.1 x hx⟩
        have hw : Wst E (MW E a) (sr (sr τ 5 (r5)) 0 (upd (τ 0) 4 (nI (fwN2 (τ 1) nj)))) A s.heap H locs := hw
        refine lv_aload_n hC.1 hC.2.1 dX11_fewest_81 rfl (lv_at hl 0 rfl) ?_
        refine q_callVvp (As := []) (rest := []) (q0 := 0) hC hw hl (tX11_keepSpare l E a (sr (sr τ 5 (r5)) 0 (upd (τ 0) 4 (nI (fwN2 (τ 1) nj)))) ) (q_cwV hC.2.2.2.2.1 ⟨rfl, rfl⟩ wk5_40 wk5_42 wks_3_6 wk1_12 wk5_43 hd_X11_keepSpare ⟨Nat.le_of_ble_eq_true rfl, Nat.le_of_ble_eq_true rfl⟩) rfl rfl rfl rfl rfl (Nat.le_of_ble_eq_true rfl) dX11_fewest_82 (fun H locs hw => ?_)
        have hw : Wst E (MW E a) (sr (sr (sr τ 4 (cpy 354 (τ 1) (τ 4))) 5 (r5)) 0 (upd (τ 0) 4 (nI (fwN2 (τ 1) nj)))) A s.heap H locs := hw
        refine lv_iconst (v := nI 0) hC.1 hC.2.1 dX11_fewest_85 (by decide) ?_
        refine lv_istore_n (lv' := [(1, .int (nI 0)), (0, .ref (a 70))]) hC.1 hC.2.1 dX11_fewest_86 rfl hl (by decide) rfl (fun ls hl => ?_)
        have L87_5 : ∀ (n : Nat), ∀ (i : Nat), (i ≤ fwN2 (τ 1) nj) → (fwN2 (τ 1) nj - i) < n → ∀ (H : Heap) (locs : List Loc) (ls : Array Slot), Wst E (MW E a) (sr (sr (sr (sr τ 1 (f_off (τ 1) (fwF2 (τ 1) nj) i)) 4 (cpy 354 (τ 1) (τ 4))) 5 (r5)) 0 (upd (τ 0) 4 (nI (fwN2 (τ 1) nj)))) A s.heap H locs → lv_has ls 5 [(0, .ref (a 70)), (1, .int (nI i))] → W p l e ({ frames := 4, cells := 0, slots := 0, locals := 94 }) s m args below meth c H locs 0 0 Q (F0 m 87 ls []) := by
          intro n
          induction n with
          | zero => intro i hi hn; exact absurd hn (Nat.not_lt_zero _)
          | succ n ih87 =>
            intro i hi hn87 H locs ls hw hl
            refine lv_iload_n hC.1 hC.2.1 dX11_fewest_87 rfl (lv_at hl 1 rfl) ?_
            refine lv_aload_n hC.1 hC.2.1 dX11_fewest_88 rfl (lv_at hl 0 rfl) ?_
            refine gf_X11_138 (v := nI (fwN2 (τ 1) nj)) hC hw rfl dX11_fewest_89 ?_
            refine q_cmpge hC 117 (cNle (by omega) (by omega)) dX11_fewest_92 (by decide) (fun (c7 : (fwN2 (τ 1) nj) ≤ i) => ?_) (fun (c7 : i < (fwN2 (τ 1) nj)) => ?_)
            · have hat0 := f_off_at (v := τ 1) (nh := nh) hFk hnj
              have hk9 : i = fwN2 (τ 1) nj := by omega
              rw [hk9] at hw hl
              have hw : Wst E (MW E a) (sr (sr (sr (sr τ 1 (f_off (τ 1) (fwF2 (τ 1) nj) (fwN2 (τ 1) nj))) 4 (cpy 354 (τ 1) (τ 4))) 5 (r5)) 0 (upd (τ 0) 4 (nI (fwN2 (τ 1) nj)))) A s.heap H locs := hw
              refine lv_bipush (v := (-3)) hC.1 hC.2.1 dX11_fewest_117 (by decide) ?_
              refine lv_istore_n (lv' := [(1, .int ((-3))), (0, .ref (a 70))]) hC.1 hC.2.1 dX11_fewest_119 rfl hl (by decide) rfl (fun ls hl => ?_)
              refine lv_iconst (v := nI 0) hC.1 hC.2.1 dX11_fewest_120 (by decide) ?_
              refine lv_istore_n (lv' := [(2, .int (nI 0)), (1, .int ((-3))), (0, .ref (a 70))]) hC.1 hC.2.1 dX11_fewest_121 rfl hl (by decide) rfl (fun ls hl => ?_)
              refine lv_aload_n hC.1 hC.2.1 dX11_fewest_122 rfl (lv_at hl 2 rfl) ?_
              refine gf_X11_44 hC hw dX11_fewest_123 ?_
              refine lv_iconst (v := nI 0) hC.1 hC.2.1 dX11_fewest_126 (by decide) ?_
              refine lv_iconst (v := (-1)) hC.1 hC.2.1 dX11_fewest_127 (by decide) ?_
              refine as_M12 hC hw (by omega) dX11_fewest_128 (fun H locs hw => ?_)
              have hw : Wst E (MW E a) (sr (sr (sr (sr (sr τ 1 (f_off (τ 1) (fwF2 (τ 1) nj) (fwN2 (τ 1) nj))) 4 (cpy 354 (τ 1) (τ 4))) 5 (r5)) 12 (upd (τ 12) 0 ((-1)))) 0 (upd (τ 0) 4 (nI (fwN2 (τ 1) nj)))) A s.heap H locs := hw
              have L129_7 : ∀ (n : Nat), ∀ (best : Int32), ∀ (k1 : Nat), ∀ (kk : Int32), ∀ (w : Nat → Int32), ∀ (tr : Nat → Int32), ∀ (T : Nat → Nat), ∀ (q : Nat → Nat), (kk = (nI k1 - 1)) → (k1 ≤ fwN2 (τ 1) nj + 1) → (atP (τ 1) (fwF2 (τ 1) nj) (fwN2 (τ 1) nj) nh w q) → (∀ i, i + 1 < k1 → q i = T i - 1 ∧ 1 ≤ T i ∧ T i ≤ nh) → (∀ i, k1 ≤ i → i < fwN2 (τ 1) nj → q i = 10) → (∀ i, i < k1 → i < fwN2 (τ 1) nj → tr i = nI (T i) - 1 ∧ T i ≤ nh) → (Mn (eM (τ 1)) (fwF2 (τ 1) nj) (fwN2 (τ 1) nj) (pB (eM (τ 1)) (-1)) nh nj (Xk (fwN2 (τ 1) nj) k1 T) best) → (Fea (eM (τ 1)) (fwF2 (τ 1) nj) (fwN2 (τ 1) nj) (pB (eM (τ 1)) (-1)) nh nj (fun i => T i - 1) (k1 - 1)) → (muK (fwN2 (τ 1) nj) k1 T) < n → ∀ (H : Heap) (locs : List Loc) (ls : Array Slot), Wst E (MW E a) (sr (sr (sr (sr (sr τ 1 (w)) 4 (cpy 354 (τ 1) (τ 4))) 5 (r5)) 12 (tr)) 0 (upd (τ 0) 4 (nI (fwN2 (τ 1) nj)))) A s.heap H locs → lv_has ls 5 [(0, .ref (a 70)), (1, .int (best)), (2, .int (kk))] → W p l e ({ frames := 4, cells := 0, slots := 0, locals := 94 }) s m args below meth c H locs 0 0 Q (F0 m 129 ls []) := by
                intro n
                induction n with
                | zero => intro best k1 kk w tr T q q_kk hk1 hat hq hq2 htr hM hFe hn; exact absurd hn (Nat.not_lt_zero _)
                | succ n ih129 =>
                  intro best k1 kk w tr T q q_kk hk1 hat hq hq2 htr hM hFe hn129 H locs ls hw hl
                  subst q_kk
                  refine lv_iload_n hC.1 hC.2.1 dX11_fewest_129 rfl (lv_at hl 2 rfl) ?_
                  refine q_iflt hC 283 cI dX11_fewest_130 (by decide) (fun (c9 : (nI k1 - 1) < 0) => ?_) (fun (c9 : ¬ ((nI k1 - 1) < 0)) => ?_)
                  · refine lv_aload_n hC.1 hC.2.1 dX11_fewest_283 rfl (lv_at hl 0 rfl) ?_
                    refine q_callVvp (As := []) (rest := []) (q0 := 0) hC hw hl (tX11_backSpare l E a (sr (sr (sr (sr (sr τ 1 (w)) 4 (cpy 354 (τ 1) (τ 4))) 5 (r5)) 12 (tr)) 0 (upd (τ 0) 4 (nI (fwN2 (τ 1) nj)))) ) (q_cwV hC.2.2.2.2.1 ⟨rfl, rfl⟩ wk5_44 wk5_46 wks_3_7 wk1_12 wk5_47 hd_X11_backSpare ⟨Nat.le_of_ble_eq_true rfl, Nat.le_of_ble_eq_true rfl⟩) rfl rfl rfl rfl rfl (Nat.le_of_ble_eq_true rfl) dX11_fewest_284 (fun H locs hw => ?_)
                    have hw : Wst E (MW E a) (sr (sr (sr (sr (sr τ 1 (cpy 354 (cpy 354 (τ 1) (τ 4)) w)) 4 (cpy 354 (τ 1) (τ 4))) 5 (r5)) 12 (tr)) 0 (upd (τ 0) 4 (nI (fwN2 (τ 1) nj)))) A s.heap H locs := hw
                    have hbk : cpy 354 (cpy 354 (τ 1) (τ 4)) w = τ 1 := atP_back hW hFk hat
                    rw [hbk] at hw
                    refine lv_iload_n hC.1 hC.2.1 dX11_fewest_287 rfl (lv_at hl 1 rfl) ?_
                    refine hret _ _ _ _ _ _ hw ?_ rfl dX11_fewest_288
                    have hk0 : k1 = 0 := Classical.byContradiction fun z => by
                      obtain ⟨k, rfl⟩ : ∃ k, k1 = k + 1 := ⟨k1 - 1, by omega⟩
                      rw [nI_pred] at c9
                      exact nI_pos (by omega) c9
                    have hM3 := hM.1
                    refine ⟨cpy 354 (τ 1) (τ 4), r5, tr, nI (fwN2 (τ 1) nj), Or.inr ⟨h5, ?_⟩, ?_⟩
                    · rcases hM.2 with z | ⟨q1, z1, z2⟩
                      · refine Or.inr ⟨fun q1 hq1 => ?_, z⟩
                        have := (hM3 q1 hq1 (Or.inl hk0)).1
                        rw [z] at this; exact absurd this (by decide)
                      · exact Or.inl ⟨q1, z1, z2, fun q2 hq2 => by rw [← z2]; exact (hM3 q2 hq2 (Or.inl hk0)).2⟩
                    · funext j_ x_
                      by_cases e0 : j_ = 0
                      · subst e0
                        by_cases y4 : x_ = 4
                        · subst y4; rfl
                        · simp [sr, upd, y4]
                      · by_cases e1 : j_ = 1
                        · subst e1; rfl
                        · by_cases e4 : j_ = 4
                          · subst e4; rfl
                          · by_cases e5 : j_ = 5
                            · subst e5; rfl
                            · by_cases e12 : j_ = 12
                              · subst e12; rfl
                              · simp only [sr, e0, e1, e4, e5, e12, if_false]
                  · obtain ⟨k, rfl⟩ : ∃ k, k1 = k + 1 := ⟨k1 - 1, by by_cases z : k1 = 0; (rw [z] at c9; exact absurd (by decide) c9); omega⟩
                    rw [nI_pred] at hl
                    refine lv_iload_n hC.1 hC.2.1 dX11_fewest_133 rfl (lv_at hl 2 rfl) ?_
                    refine lv_aload_n hC.1 hC.2.1 dX11_fewest_134 rfl (lv_at hl 0 rfl) ?_
                    refine gf_X11_138 (v := nI (fwN2 (τ 1) nj)) hC hw rfl dX11_fewest_135 ?_
                    refine q_cmpne hC 167 (cNeq (by omega) (by omega)) dX11_fewest_138 (by decide) (fun (c13 : k ≠ (fwN2 (τ 1) nj)) => ?_) (fun (c13 : k = (fwN2 (τ 1) nj)) => ?_)
                    · have hkf : k < fwN2 (τ 1) nj := by omega
                      have htk := htr k (by omega) hkf
                      have hatK : atP (τ 1) (fwF2 (τ 1) nj) (fwN2 (τ 1) nj) nh (upd w (258 + fwF2 (τ 1) nj k) 0) (fun i => if i < k then T i - 1 else 10) := (hat.off hFk hnj hkf).congr (fun i hi => by unfold pu; by_cases z : i = k; (subst z; rw [if_pos rfl, if_neg (by omega)]); rw [if_neg z]; by_cases z2 : i < k; (rw [if_pos z2]; exact (hq i (by omega)).1); rw [if_neg z2]; exact hq2 i (by omega) hi)
                      have hWk := hatK.zmF hFk hW
                      refine lv_aload_n hC.1 hC.2.1 dX11_fewest_167 rfl (lv_at hl 0 rfl) ?_
                      refine gf_X11_22 hC hw dX11_fewest_168 ?_
                      refine lv_iload_n hC.1 hC.2.1 dX11_fewest_171 rfl (lv_at hl 2 rfl) ?_
                      have hFx := hFk.1 k (by omega)
                      refine al_M5 (v := nI (fwF2 (τ 1) nj k)) hC hw (by omega) (hG k (by omega)) dX11_fewest_172 ?_
                      refine lv_istore_n (lv' := [(3, .int (nI (fwF2 (τ 1) nj k))), (0, .ref (a 70)), (1, .int (best)), (2, .int (nI k))]) hC.1 hC.2.1 dX11_fewest_173 rfl hl (by decide) rfl (fun ls hl => ?_)
                      refine lv_aload_n hC.1 hC.2.1 dX11_fewest_174 rfl (lv_at hl 1 rfl) ?_
                      refine gf_X11_7 hC hw dX11_fewest_175 ?_
                      refine lv_sipush (v := nI 258) hC.1 hC.2.1 dX11_fewest_178 (by decide) ?_
                      refine lv_iload_n hC.1 hC.2.1 dX11_fewest_181 rfl (lv_at hl 0 rfl) ?_
                      refine q_addN hC dX11_fewest_182 ?_
                      refine lv_iconst (v := nI 0) hC.1 hC.2.1 dX11_fewest_183 (by decide) ?_
                      refine as_M1 hC hw (by omega) dX11_fewest_184 (fun H locs hw => ?_)
                      have hw : Wst E (MW E a) (sr (sr (sr (sr (sr τ 1 (upd (w) (258 + (fwF2 (τ 1) nj k)) (0))) 4 (cpy 354 (τ 1) (τ 4))) 5 (r5)) 12 (tr)) 0 (upd (τ 0) 4 (nI (fwN2 (τ 1) nj)))) A s.heap H locs := hw
                      refine lv_aload_n hC.1 hC.2.1 dX11_fewest_185 rfl (lv_at hl 1 rfl) ?_
                      refine gf_X11_44 hC hw dX11_fewest_186 ?_
                      refine lv_iload_n hC.1 hC.2.1 dX11_fewest_189 rfl (lv_at hl 3 rfl) ?_
                      refine al_M12 (v := (nI (T k) - 1)) hC hw (by omega) htk.1 dX11_fewest_190 ?_
                      refine lv_iconst (v := nI 1) hC.1 hC.2.1 dX11_fewest_191 (by decide) ?_
                      refine lv_iadd hC.1 hC.2.1 dX11_fewest_192 ?_
                      refine q_top (y := nI (T k)) (nI_s1 _) ?_
                      refine lv_istore (lv' := [(4, .int (nI (T k))), (3, .int (nI (fwF2 (τ 1) nj k))), (0, .ref (a 70)), (1, .int (best)), (2, .int (nI k))]) hC.1 hC.2.1 dX11_fewest_193 hl (by decide) rfl (fun ls hl => ?_)
                      have L195_13 : ∀ (n : Nat), ∀ (h : Nat), (h ≤ nh) → (T k ≤ h) → (∀ x, T k ≤ x → x < h → ¬ fitC (eM (τ 1)) (fwF2 (τ 1) nj) (fwN2 (τ 1) nj) (pB (eM (τ 1)) (-1)) nh nj (fun i => if i < k then T i - 1 else 10) k x) → (nh - h) < n → ∀ (H : Heap) (locs : List Loc) (ls : Array Slot), Wst E (MW E a) (sr (sr (sr (sr (sr τ 1 (upd (w) (258 + (fwF2 (τ 1) nj k)) (0))) 4 (cpy 354 (τ 1) (τ 4))) 5 (r5)) 12 (tr)) 0 (upd (τ 0) 4 (nI (fwN2 (τ 1) nj)))) A s.heap H locs → lv_has ls 5 [(0, .ref (a 70)), (1, .int (best)), (2, .int (nI k)), (3, .int (nI (fwF2 (τ 1) nj k))), (4, .int (nI h))] → W p l e ({ frames := 4, cells := 0, slots := 0, locals := 94 }) s m args below meth c H locs 0 0 Q (F0 m 195 ls []) := by
                        intro n
                        induction n with
                        | zero => intro h hh hTh hno hn; exact absurd hn (Nat.not_lt_zero _)
                        | succ n ih195 =>
                          intro h hh hTh hno hn195 H locs ls hw hl
                          refine lv_iload hC.1 hC.2.1 dX11_fewest_195 (lv_at hl 4 rfl) ?_
                          refine lv_aload_n hC.1 hC.2.1 dX11_fewest_197 rfl (lv_at hl 0 rfl) ?_
                          refine gf_X11_7 hC hw dX11_fewest_198 ?_
                          refine lv_iconst (v := nI 0) hC.1 hC.2.1 dX11_fewest_201 (by decide) ?_
                          refine al_M1 (v := nI nh) hC hw (by omega) hWk.2.2.1 dX11_fewest_202 ?_
                          refine q_cmpge hC 222 (cNle (by omega) (by omega)) dX11_fewest_203 (by decide) (fun (c15 : nh ≤ h) => ?_) (fun (c15 : h < nh) => ?_)
                          · refine lv_aload_n hC.1 hC.2.1 dX11_fewest_222 rfl (lv_at hl 0 rfl) ?_
                            refine gf_X11_44 hC hw dX11_fewest_223 ?_
                            refine lv_iload_n hC.1 hC.2.1 dX11_fewest_226 rfl (lv_at hl 2 rfl) ?_
                            refine lv_iload hC.1 hC.2.1 dX11_fewest_227 (lv_at hl 4 rfl) ?_
                            refine as_M12 hC hw (by omega) dX11_fewest_229 (fun H locs hw => ?_)
                            have hw : Wst E (MW E a) (sr (sr (sr (sr (sr τ 1 (upd (w) (258 + (fwF2 (τ 1) nj k)) (0))) 4 (cpy 354 (τ 1) (τ 4))) 5 (r5)) 12 (upd (tr) k (nI h))) 0 (upd (τ 0) 4 (nI (fwN2 (τ 1) nj)))) A s.heap H locs := hw
                            refine lv_iload hC.1 hC.2.1 dX11_fewest_230 (lv_at hl 4 rfl) ?_
                            refine lv_aload_n hC.1 hC.2.1 dX11_fewest_232 rfl (lv_at hl 0 rfl) ?_
                            refine gf_X11_7 hC hw dX11_fewest_233 ?_
                            refine lv_iconst (v := nI 0) hC.1 hC.2.1 dX11_fewest_236 (by decide) ?_
                            refine al_M1 (v := nI nh) hC hw (by omega) hWk.2.2.1 dX11_fewest_237 ?_
                            refine q_cmplt hC 247 (cNlt (by omega) (by omega)) dX11_fewest_238 (by decide) (fun (c16 : h < nh) => ?_) (fun (c16 : nh ≤ h) => ?_)
                            · exact absurd c16 (by omega)
                            · refine lv_iinc (v := (nI k) + (-1)) (lv' := [(2, .int ((nI k) + (-1))), (0, .ref (a 70)), (1, .int (best)), (3, .int (nI (fwF2 (τ 1) nj k))), (4, .int (nI h))]) hC.1 hC.2.1 dX11_fewest_241 hl (k := 2) rfl rfl (by decide) rfl (fun ls hl => ?_)
                              refine lv_goto (tgt := 280) hC.1 hC.2.1 dX11_fewest_244 (by decide) ?_
                              refine lv_goto (tgt := 129) hC.1 hC.2.1 dX11_fewest_280 (by decide) ?_
                              have hM2 := hM.fail hkf (fun i hi => show T i = T i from rfl) (fun x h1 h2 => hno x h1 (by omega))
                              have hmu := muK_up (fm := fwN2 (τ 1) nj) (k := k) (T := T) (T' := T) (by omega) (fun i hi => ⟨rfl, by have := (hq i (by omega)).2; omega⟩) (fun z => by have := htk.2; omega)
                              exact ih129 best k ((nI k) + (-1)) (upd (w) (258 + (fwF2 (τ 1) nj k)) (0)) (upd (tr) k (nI h)) T (fun i => if i < k then T i - 1 else 10) (nI_mm k) (by omega) hatK (fun i hi => ⟨if_pos (by omega), (hq i (by omega)).2⟩) (fun i h1 h2 => if_neg (by omega)) (fun i h1 h2 => by rw [upn (by omega)]; exact htr i (by omega) h2) hM2 (fun i hi => hFe i (by omega)) (by omega) _ _ _ hw (lv_sub hl [1, 2, 0] rfl)
                          · refine lv_aload_n hC.1 hC.2.1 dX11_fewest_206 rfl (lv_at hl 0 rfl) ?_
                            refine lv_iload_n hC.1 hC.2.1 dX11_fewest_207 rfl (lv_at hl 3 rfl) ?_
                            refine lv_iload hC.1 hC.2.1 dX11_fewest_208 (lv_at hl 4 rfl) ?_
                            refine q_callVp (As := [.int (nI (fwF2 (τ 1) nj k)), .int (nI h)]) (rest := []) (q0 := 0) hC hw hl (tX11_whyNot l E a (sr (sr (sr (sr (sr τ 1 (upd (w) (258 + (fwF2 (τ 1) nj k)) (0))) 4 (cpy 354 (τ 1) (τ 4))) 5 (r5)) 12 (tr)) 0 (upd (τ 0) 4 (nI (fwN2 (τ 1) nj)))) nh nj (fwF2 (τ 1) nj k) h hWk (by first | assumption | omega) (by first | assumption | omega)) (q_cwV hC.2.2.2.2.1 ⟨rfl, rfl⟩ wk4_202 wk4_204 wks_2_9 wk1_12 wk4_205 hd_X11_whyNot ⟨Nat.le_of_ble_eq_true rfl, Nat.le_of_ble_eq_true rfl⟩) rfl rfl rfl rfl rfl (Nat.le_of_ble_eq_true rfl) dX11_fewest_210 (fun H locs hw => ?_)
                            refine q_ifeq hC 222 cI dX11_fewest_213 (by decide) (fun (c20 : (m_why (eM (upd (w) (258 + (fwF2 (τ 1) nj k)) (0))) (pB (eM (upd (w) (258 + (fwF2 (τ 1) nj k)) (0))) (nI (fwF2 (τ 1) nj k))) nh nj (fwF2 (τ 1) nj k) h) = 0) => ?_) (fun (c20 : ¬ ((m_why (eM (upd (w) (258 + (fwF2 (τ 1) nj k)) (0))) (pB (eM (upd (w) (258 + (fwF2 (τ 1) nj k)) (0))) (nI (fwF2 (τ 1) nj k))) nh nj (fwF2 (τ 1) nj k) h) = 0)) => ?_)
                            · refine lv_aload_n hC.1 hC.2.1 dX11_fewest_222 rfl (lv_at hl 0 rfl) ?_
                              refine gf_X11_44 hC hw dX11_fewest_223 ?_
                              refine lv_iload_n hC.1 hC.2.1 dX11_fewest_226 rfl (lv_at hl 2 rfl) ?_
                              refine lv_iload hC.1 hC.2.1 dX11_fewest_227 (lv_at hl 4 rfl) ?_
                              refine as_M12 hC hw (by omega) dX11_fewest_229 (fun H locs hw => ?_)
                              have hw : Wst E (MW E a) (sr (sr (sr (sr (sr τ 1 (upd (w) (258 + (fwF2 (τ 1) nj k)) (0))) 4 (cpy 354 (τ 1) (τ 4))) 5 (r5)) 12 (upd (tr) k (nI h))) 0 (upd (τ 0) 4 (nI (fwN2 (τ 1) nj)))) A s.heap H locs := hw
                              refine lv_iload hC.1 hC.2.1 dX11_fewest_230 (lv_at hl 4 rfl) ?_
                              refine lv_aload_n hC.1 hC.2.1 dX11_fewest_232 rfl (lv_at hl 0 rfl) ?_
                              refine gf_X11_7 hC hw dX11_fewest_233 ?_
                              refine lv_iconst (v := nI 0) hC.1 hC.2.1 dX11_fewest_236 (by decide) ?_
                              refine al_M1 (v := nI nh) hC hw (by omega) hWk.2.2.1 dX11_fewest_237 ?_
                              refine q_cmplt hC 247 (cNlt (by omega) (by omega)) dX11_fewest_238 (by decide) (fun (c21 : h < nh) => ?_) (fun (c21 : nh ≤ h) => ?_)
                              · have hhn : h < nh := by omega
                                have hfit : fitC (eM (τ 1)) (fwF2 (τ 1) nj) (fwN2 (τ 1) nj) (pB (eM (τ 1)) (-1)) nh nj (fun i => if i < k then T i - 1 else 10) k h := (hatK.why hFk hW hkf hhn).symm.trans c20
                                have hatN := hatK.put hFk hnj hkf hhn
                                refine lv_aload_n hC.1 hC.2.1 dX11_fewest_247 rfl (lv_at hl 0 rfl) ?_
                                refine gf_X11_7 hC hw dX11_fewest_248 ?_
                                refine lv_sipush (v := nI 258) hC.1 hC.2.1 dX11_fewest_251 (by decide) ?_
                                refine lv_iload_n hC.1 hC.2.1 dX11_fewest_254 rfl (lv_at hl 3 rfl) ?_
                                refine q_addN hC dX11_fewest_255 ?_
                                refine lv_iconst (v := nI 1) hC.1 hC.2.1 dX11_fewest_256 (by decide) ?_
                                refine as_M1 hC hw (by omega) dX11_fewest_257 (fun H locs hw => ?_)
                                have hw : Wst E (MW E a) (sr (sr (sr (sr (sr τ 1 (upd (upd (w) (258 + (fwF2 (τ 1) nj k)) (0)) (258 + (fwF2 (τ 1) nj k)) (1))) 4 (cpy 354 (τ 1) (τ 4))) 5 (r5)) 12 (upd (tr) k (nI h))) 0 (upd (τ 0) 4 (nI (fwN2 (τ 1) nj)))) A s.heap H locs := hw
                                refine lv_aload_n hC.1 hC.2.1 dX11_fewest_258 rfl (lv_at hl 0 rfl) ?_
                                refine gf_X11_7 hC hw dX11_fewest_259 ?_
                                refine lv_sipush (v := nI 282) hC.1 hC.2.1 dX11_fewest_262 (by decide) ?_
                                refine lv_iload_n hC.1 hC.2.1 dX11_fewest_265 rfl (lv_at hl 3 rfl) ?_
                                refine q_addN hC dX11_fewest_266 ?_
                                refine lv_iload hC.1 hC.2.1 dX11_fewest_267 (lv_at hl 4 rfl) ?_
                                refine as_M1 hC hw (by omega) dX11_fewest_269 (fun H locs hw => ?_)
                                have hw : Wst E (MW E a) (sr (sr (sr (sr (sr τ 1 (upd (upd (upd (w) (258 + (fwF2 (τ 1) nj k)) (0)) (258 + (fwF2 (τ 1) nj k)) (1)) (282 + (fwF2 (τ 1) nj k)) (nI h))) 4 (cpy 354 (τ 1) (τ 4))) 5 (r5)) 12 (upd (tr) k (nI h))) 0 (upd (τ 0) 4 (nI (fwN2 (τ 1) nj)))) A s.heap H locs := hw
                                refine lv_iinc (v := nI (k + 1)) (lv' := [(2, .int (nI (k + 1))), (0, .ref (a 70)), (1, .int (best)), (3, .int (nI (fwF2 (τ 1) nj k))), (4, .int (nI h))]) hC.1 hC.2.1 dX11_fewest_270 hl (k := 2) rfl (nI_add _ _) (by decide) rfl (fun ls hl => ?_)
                                refine lv_aload_n hC.1 hC.2.1 dX11_fewest_273 rfl (lv_at hl 1 rfl) ?_
                                refine gf_X11_44 hC hw dX11_fewest_274 ?_
                                refine lv_iload_n hC.1 hC.2.1 dX11_fewest_277 rfl (lv_at hl 0 rfl) ?_
                                refine lv_iconst (v := (-1)) hC.1 hC.2.1 dX11_fewest_278 (by decide) ?_
                                refine as_M12 hC hw (by omega) dX11_fewest_279 (fun H locs hw => ?_)
                                have hw : Wst E (MW E a) (sr (sr (sr (sr (sr τ 1 (upd (upd (upd (w) (258 + (fwF2 (τ 1) nj k)) (0)) (258 + (fwF2 (τ 1) nj k)) (1)) (282 + (fwF2 (τ 1) nj k)) (nI h))) 4 (cpy 354 (τ 1) (τ 4))) 5 (r5)) 12 (upd (upd (tr) k (nI h)) (k + 1) ((-1)))) 0 (upd (τ 0) 4 (nI (fwN2 (τ 1) nj)))) A s.heap H locs := hw
                                refine lv_goto (tgt := 129) hC.1 hC.2.1 dX11_fewest_280 (by decide) ?_
                                have hM2 := hM.desc hkf hhn hno
                                have hmu := muK_dn (T := T) hkf hTh (by omega)
                                have t0 : ∀ i, i < k → (pu (pu T k (h + 1)) (k + 1) 0) i = T i := fun i hi => by unfold pu; rw [if_neg (by omega), if_neg (by omega)]
                                have t1 : (pu (pu T k (h + 1)) (k + 1) 0) k = h + 1 := by unfold pu; rw [if_neg (by omega), if_pos rfl]
                                have t2 : (pu (pu T k (h + 1)) (k + 1) 0) (k + 1) = 0 := if_pos rfl
                                have hq' : ∀ i, i + 1 < k + 2 → (pu (fun i => if i < k then T i - 1 else 10) k h) i = (pu (pu T k (h + 1)) (k + 1) 0) i - 1 ∧ 1 ≤ (pu (pu T k (h + 1)) (k + 1) 0) i ∧ (pu (pu T k (h + 1)) (k + 1) 0) i ≤ nh := fun i hi => by
                                  by_cases z : i = k
                                  · rw [z, t1]; exact ⟨if_pos rfl, by omega, by omega⟩
                                  · rw [t0 i (by omega)]
                                    exact ⟨(if_neg z).trans (if_pos (by omega)), (hq i (by omega)).2⟩
                                have hq2' : ∀ i, k + 2 ≤ i → i < fwN2 (τ 1) nj → (pu (fun i => if i < k then T i - 1 else 10) k h) i = 10 := fun i h1 h2 => (if_neg (by omega)).trans (if_neg (by omega))
                                have htr' : ∀ i, i < k + 2 → i < fwN2 (τ 1) nj → (upd (upd tr k (nI h)) (k + 1) (-1)) i = nI ((pu (pu T k (h + 1)) (k + 1) 0) i) - 1 ∧ (pu (pu T k (h + 1)) (k + 1) 0) i ≤ nh := fun i h1 h2 => by
                                  by_cases z : i = k + 1
                                  · rw [z, ups, t2]; exact ⟨rfl, Nat.zero_le _⟩
                                  · by_cases z2 : i = k
                                    · rw [z2, upn (by omega), ups, t1, nI_pred]; exact ⟨rfl, by omega⟩
                                    · rw [upn z, upn z2, t0 i (by omega)]; exact htr i (by omega) h2
                                have hFe' : Fea (eM (τ 1)) (fwF2 (τ 1) nj) (fwN2 (τ 1) nj) (pB (eM (τ 1)) (-1)) nh nj (fun i => (pu (pu T k (h + 1)) (k + 1) 0) i - 1) (k + 2 - 1) := fun i hi => by
                                  have hi : i < k + 1 := hi
                                  have e1 : i ≤ k → (fun x => if x < i then (pu (pu T k (h + 1)) (k + 1) 0) x - 1 else 10) = (fun x => if x < i then T x - 1 else 10) := fun hik => funext fun x => by
                                    by_cases z : x < i
                                    · rw [if_pos z, if_pos z, t0 x (by omega)]
                                    · rw [if_neg z, if_neg z]
                                  have e1 := e1 (by omega)
                                  show (pu (pu T k (h + 1)) (k + 1) 0) i - 1 < nh ∧ fitC (eM (τ 1)) (fwF2 (τ 1) nj) (fwN2 (τ 1) nj) (pB (eM (τ 1)) (-1)) nh nj (fun x => if x < i then (pu (pu T k (h + 1)) (k + 1) 0) x - 1 else 10) i ((pu (pu T k (h + 1)) (k + 1) 0) i - 1)
                                  rw [e1]
                                  by_cases z : i = k
                                  · rw [z, t1]; exact ⟨hhn, hfit⟩
                                  · rw [t0 i (by omega)]; exact hFe i (by omega)
                                exact ih129 best (k + 2) (nI (k + 1)) (upd (upd (upd (w) (258 + (fwF2 (τ 1) nj k)) (0)) (258 + (fwF2 (τ 1) nj k)) (1)) (282 + (fwF2 (τ 1) nj k)) (nI h)) (upd (upd (tr) k (nI h)) (k + 1) ((-1))) (pu (pu T k (h + 1)) (k + 1) 0) (pu (fun i => if i < k then T i - 1 else 10) k h) (nI_pred (k + 1)).symm (by omega) hatN hq' hq2' htr' hM2 hFe' (by omega) _ _ _ hw (lv_sub hl [1, 2, 0] rfl)
                              · exact absurd c21 (by omega)
                            · refine lv_iinc (v := nI (h + 1)) (lv' := [(4, .int (nI (h + 1))), (0, .ref (a 70)), (1, .int (best)), (2, .int (nI k)), (3, .int (nI (fwF2 (τ 1) nj k)))]) hC.1 hC.2.1 dX11_fewest_216 hl (k := 4) rfl (nI_add _ _) (by decide) rfl (fun ls hl => ?_)
                              refine lv_goto (tgt := 195) hC.1 hC.2.1 dX11_fewest_219 (by decide) ?_
                              exact ih195 (h + 1) (by omega) (by omega) (fun x h1 h2 => by by_cases z : x = h; (subst z; exact fun z2 => c20 ((hatK.why hFk hW hkf (show x < nh by omega)).trans z2)); exact hno x h1 (by omega)) (by omega) _ _ _ hw (lv_sub hl [1, 2, 3, 4, 0] rfl)
                      exact L195_13 _ (T k) htk.2 (Nat.le_refl _) (fun x h1 h2 => by omega) (Nat.lt_succ_self _) _ _ _ hw (lv_sub hl [2, 3, 4, 1, 0] rfl)
                    · have hkf : k = fwN2 (τ 1) nj := by omega
                      have hatT : atP (τ 1) (fwF2 (τ 1) nj) (fwN2 (τ 1) nj) nh w (fun i => T i - 1) := hat.congr (fun i hi => (hq i (by omega)).1)
                      have hpl : ∀ i, i < fwN2 (τ 1) nj → T i - 1 < nh := fun i hi => by have := (hq i (by omega)).2; omega
                      refine lv_aload_n hC.1 hC.2.1 dX11_fewest_141 rfl (lv_at hl 0 rfl) ?_
                      refine q_callVp (As := []) (rest := []) (q0 := 0) hC hw hl (tX11_hostsOfFew l E a (sr (sr (sr (sr (sr τ 1 (w)) 4 (cpy 354 (τ 1) (τ 4))) 5 (r5)) 12 (tr)) 0 (upd (τ 0) 4 (nI (fwN2 (τ 1) nj)))) nh nj (fwN2 (τ 1) nj) (fwF2 (τ 1) nj) (hat.zmF hFk hW) rfl h5 hF) (q_cwV hC.2.2.2.2.1 ⟨rfl, rfl⟩ wk5_132 wk5_134 wks_4_3 wk1_12 wk5_135 hd_X11_hostsOfFew ⟨Nat.le_of_ble_eq_true rfl, Nat.le_of_ble_eq_true rfl⟩) rfl rfl rfl rfl rfl (Nat.le_of_ble_eq_true rfl) dX11_fewest_142 (fun H locs hw => ?_)
                      refine q_top (y := cnC (fun i => T i - 1) (fwN2 (τ 1) nj)) (congrArg (fun z => m_cnt z 10) (m_bits_at hatT hnh hpl (Nat.le_refl _))) ?_
                      refine lv_istore_n (lv' := [(3, .int (cnC (fun i => T i - 1) (fwN2 (τ 1) nj))), (0, .ref (a 70)), (1, .int (best)), (2, .int (nI k))]) hC.1 hC.2.1 dX11_fewest_145 rfl hl (by decide) rfl (fun ls hl => ?_)
                      refine lv_iload_n hC.1 hC.2.1 dX11_fewest_146 rfl (lv_at hl 2 rfl) ?_
                      have J160_26 : ∀ (w25 : Int32), w25 = (if best < 0 then (cnC (fun i => T i - 1) (fwN2 (τ 1) nj)) else (if best ≤ (cnC (fun i => T i - 1) (fwN2 (τ 1) nj)) then best else (cnC (fun i => T i - 1) (fwN2 (τ 1) nj)))) → ∀ (H : Heap) (locs : List Loc) (ls : Array Slot), Wst E (MW E a) (sr (sr (sr (sr (sr τ 1 (w)) 4 (cpy 354 (τ 1) (τ 4))) 5 (r5)) 12 (tr)) 0 (upd (τ 0) 4 (nI (fwN2 (τ 1) nj)))) A s.heap H locs → lv_has ls 5 [(0, .ref (a 70)), (1, .int (best)), (2, .int (nI k)), (3, .int (cnC (fun i => T i - 1) (fwN2 (τ 1) nj)))] → W p l e ({ frames := 4, cells := 0, slots := 0, locals := 94 }) s m args below meth c H locs 0 0 Q (F0 m 160 ls [.int (w25)]) := by
                        intro w25 e26 H locs ls hw hl
                        subst e26
                        refine lv_istore_n (lv' := [(1, .int ((if best < 0 then (cnC (fun i => T i - 1) (fwN2 (τ 1) nj)) else (if best ≤ (cnC (fun i => T i - 1) (fwN2 (τ 1) nj)) then best else (cnC (fun i => T i - 1) (fwN2 (τ 1) nj)))))), (0, .ref (a 70)), (2, .int (nI k)), (3, .int (cnC (fun i => T i - 1) (fwN2 (τ 1) nj)))]) hC.1 hC.2.1 dX11_fewest_160 rfl hl (by decide) rfl (fun ls hl => ?_)
                        refine lv_iinc (v := (nI k) + (-1)) (lv' := [(2, .int ((nI k) + (-1))), (1, .int ((if best < 0 then (cnC (fun i => T i - 1) (fwN2 (τ 1) nj)) else (if best ≤ (cnC (fun i => T i - 1) (fwN2 (τ 1) nj)) then best else (cnC (fun i => T i - 1) (fwN2 (τ 1) nj)))))), (0, .ref (a 70)), (3, .int (cnC (fun i => T i - 1) (fwN2 (τ 1) nj)))]) hC.1 hC.2.1 dX11_fewest_161 hl (k := 2) rfl rfl (by decide) rfl (fun ls hl => ?_)
                        refine lv_goto (tgt := 129) hC.1 hC.2.1 dX11_fewest_164 (by decide) ?_
                        have hM2 : Mn (eM (τ 1)) (fwF2 (τ 1) nj) (fwN2 (τ 1) nj) (pB (eM (τ 1)) (-1)) nh nj (Xk (fwN2 (τ 1) nj) k T) (if best < 0 then cnC (fun i => T i - 1) (fwN2 (τ 1) nj) else (if best ≤ cnC (fun i => T i - 1) (fwN2 (τ 1) nj) then best else cnC (fun i => T i - 1) (fwN2 (τ 1) nj))) := by rw [hkf] at hM hFe ⊢; exact hM.leaf (fun i hi => (hq i (by omega)).2.1) hFe
                        have hmu := muK_up (fm := fwN2 (τ 1) nj) (k := k) (T := T) (T' := T) (by omega) (fun i hi => ⟨rfl, by have := (hq i (by omega)).2; omega⟩) (fun z => by omega)
                        exact ih129 (if best < 0 then (cnC (fun i => T i - 1) (fwN2 (τ 1) nj)) else (if best ≤ (cnC (fun i => T i - 1) (fwN2 (τ 1) nj)) then best else (cnC (fun i => T i - 1) (fwN2 (τ 1) nj)))) k ((nI k) + (-1)) w tr T q (nI_mm k) (by omega) hat (fun i hi => hq i (by omega)) (fun i h1 h2 => by omega) (fun i h1 h2 => htr i (by omega) h2) hM2 (fun i hi => hFe i (by omega)) (by omega) _ _ _ hw (lv_sub hl [2, 1, 0] rfl)
                      refine q_iflt hC 155 cI dX11_fewest_147 (by decide) (fun (c27 : best < 0) => ?_) (fun (c27 : ¬ (best < 0)) => ?_)
                      · refine lv_iload_n hC.1 hC.2.1 dX11_fewest_155 rfl (lv_at hl 0 rfl) ?_
                        refine lv_goto (tgt := 160) hC.1 hC.2.1 dX11_fewest_156 (by decide) ?_
                        exact J160_26 _ (by (rw [if_pos c27]) <;> rfl) _ _ _ hw (lv_sub hl [1, 2, 3, 0] rfl)
                      · refine lv_iload_n hC.1 hC.2.1 dX11_fewest_150 rfl (lv_at hl 0 rfl) ?_
                        refine lv_iload_n hC.1 hC.2.1 dX11_fewest_151 rfl (lv_at hl 2 rfl) ?_
                        refine q_cmpge hC 159 cI dX11_fewest_152 (by decide) (fun (c28 : best ≤ (cnC (fun i => T i - 1) (fwN2 (τ 1) nj))) => ?_) (fun (c28 : ¬ (best ≤ (cnC (fun i => T i - 1) (fwN2 (τ 1) nj)))) => ?_)
                        · refine lv_iload_n hC.1 hC.2.1 dX11_fewest_159 rfl (lv_at hl 2 rfl) ?_
                          exact J160_26 _ (by (rw [if_neg c27, if_pos c28]) <;> rfl) _ _ _ hw (lv_sub hl [1, 2, 3, 0] rfl)
                        · refine lv_iload_n hC.1 hC.2.1 dX11_fewest_155 rfl (lv_at hl 0 rfl) ?_
                          refine lv_goto (tgt := 160) hC.1 hC.2.1 dX11_fewest_156 (by decide) ?_
                          exact J160_26 _ (by (rw [if_neg c27, if_neg c28]) <;> rfl) _ _ _ hw (lv_sub hl [1, 2, 3, 0] rfl)
              have hM0 : Mn (eM (τ 1)) (fwF2 (τ 1) nj) (fwN2 (τ 1) nj) (pB (eM (τ 1)) (-1)) nh nj (Xk (fwN2 (τ 1) nj) 1 (fun _ => 0)) (-3) := ⟨fun q hq hX => by rcases hX with z | ⟨i, h1, h2, h3, h4⟩; omega; exact absurd h4 (Nat.not_lt_zero _), Or.inl rfl⟩
              exact L129_7 _ (-3) 1 (nI 0) (f_off (τ 1) (fwF2 (τ 1) nj) (fwN2 (τ 1) nj)) (upd (τ 12) 0 ((-1))) (fun _ => 0) (fun _ => 10) rfl (by omega) hat0 (fun i h1 => by omega) (fun i _ _ => rfl) (fun i h1 h2 => by rw [show i = 0 by omega]; exact ⟨ups, Nat.zero_le _⟩) hM0 (fun i h1 => by omega) (Nat.lt_succ_self _) _ _ _ hw (lv_sub hl [2, 1, 0] rfl)
            · refine lv_aload_n hC.1 hC.2.1 dX11_fewest_95 rfl (lv_at hl 0 rfl) ?_
              refine gf_X11_7 hC hw dX11_fewest_96 ?_
              refine lv_sipush (v := nI 258) hC.1 hC.2.1 dX11_fewest_99 (by decide) ?_
              refine lv_aload_n hC.1 hC.2.1 dX11_fewest_102 rfl (lv_at hl 0 rfl) ?_
              refine gf_X11_22 hC hw dX11_fewest_103 ?_
              refine lv_iload_n hC.1 hC.2.1 dX11_fewest_106 rfl (lv_at hl 1 rfl) ?_
              have hFx := hFk.1 i (by omega)
              refine al_M5 (v := nI (fwF2 (τ 1) nj i)) hC hw (by omega) (hG i (by omega)) dX11_fewest_107 ?_
              refine q_addN hC dX11_fewest_108 ?_
              refine lv_iconst (v := nI 0) hC.1 hC.2.1 dX11_fewest_109 (by decide) ?_
              refine as_M1 hC hw (by omega) dX11_fewest_110 (fun H locs hw => ?_)
              have hw : Wst E (MW E a) (sr (sr (sr (sr τ 1 (upd (f_off (τ 1) (fwF2 (τ 1) nj) i) (258 + (fwF2 (τ 1) nj i)) (0))) 4 (cpy 354 (τ 1) (τ 4))) 5 (r5)) 0 (upd (τ 0) 4 (nI (fwN2 (τ 1) nj)))) A s.heap H locs := hw
              refine lv_iinc (v := nI (i + 1)) (lv' := [(1, .int (nI (i + 1))), (0, .ref (a 70))]) hC.1 hC.2.1 dX11_fewest_111 hl (k := 1) rfl (nI_add _ _) (by decide) rfl (fun ls hl => ?_)
              refine lv_goto (tgt := 87) hC.1 hC.2.1 dX11_fewest_114 (by decide) ?_
              exact ih87 (i + 1) (by omega) (by omega) _ _ _ hw (lv_sub hl [1, 0] rfl)
        have hw : Wst E (MW E a) (sr (sr (sr (sr τ 1 (f_off (τ 1) (fwF2 (τ 1) nj) 0)) 4 (cpy 354 (τ 1) (τ 4))) 5 (r5)) 0 (upd (τ 0) 4 (nI (fwN2 (τ 1) nj)))) A s.heap H locs := by rw [show f_off (τ 1) (fwF2 (τ 1) nj) 0 = τ 1 from rfl, sr_id]; exact hw
        exact L87_5 _ 0 (Nat.zero_le _) (Nat.lt_succ_self _) _ _ _ hw (lv_sub hl [1, 0] rfl)
      · refine lv_aload_n hC.1 hC.2.1 dX11_fewest_17 rfl (lv_at hl 0 rfl) ?_
        refine gf_X11_7 hC hw dX11_fewest_18 ?_
        refine lv_sipush (v := nI 258) hC.1 hC.2.1 dX11_fewest_21 (by decide) ?_
        refine lv_iload_n hC.1 hC.2.1 dX11_fewest_24 rfl (lv_at hl 1 rfl) ?_
        refine q_addN hC dX11_fewest_25 ?_
        refine al_M1 (v := eM (τ 1) 11 j) hC hw (by omega) (show _ = eM (τ 1) 11 j from congrArg (τ 1) (by omega)) dX11_fewest_26 ?_
        refine lv_iconst (v := nI 1) hC.1 hC.2.1 dX11_fewest_27 (by decide) ?_
        refine q_cmpne hC 75 cI dX11_fewest_28 (by decide) (fun (c29 : ¬ ((eM (τ 1) 11 j) = 1)) => ?_) (fun (c29 : (eM (τ 1) 11 j) = 1) => ?_)
        · refine lv_iinc (v := nI (j + 1)) (lv' := [(1, .int (nI (j + 1))), (0, .ref (a 70))]) hC.1 hC.2.1 dX11_fewest_75 hl (k := 1) rfl (nI_add _ _) (by decide) rfl (fun ls hl => ?_)
          refine lv_goto (tgt := 7) hC.1 hC.2.1 dX11_fewest_78 (by decide) ?_
          have hL : qL (fwc2 (τ 1)) (j + 1) = qL (fwc2 (τ 1)) j := if_neg (fun q => c29 (of_decide_eq_true q).1)
          rw [← hL] at hw
          exact ih7 (j + 1) r5 (by omega) (by rw [hL]; exact hG) (by rw [hL]; exact h5) (by omega) _ _ _ hw (lv_sub hl [1, 0] rfl)
        · refine lv_aload_n hC.1 hC.2.1 dX11_fewest_31 rfl (lv_at hl 0 rfl) ?_
          refine gf_X11_7 hC hw dX11_fewest_32 ?_
          refine lv_bipush (v := nI 66) hC.1 hC.2.1 dX11_fewest_35 (by decide) ?_
          refine lv_iload_n hC.1 hC.2.1 dX11_fewest_37 rfl (lv_at hl 1 rfl) ?_
          refine q_addN hC dX11_fewest_38 ?_
          refine al_M1 (v := eM (τ 1) 5 j) hC hw (by omega) (show _ = eM (τ 1) 5 j from congrArg (τ 1) (by omega)) dX11_fewest_39 ?_
          refine lv_iconst (v := nI 3) hC.1 hC.2.1 dX11_fewest_40 (by decide) ?_
          refine q_cmpeq hC 75 cI dX11_fewest_41 (by decide) (fun (c30 : (eM (τ 1) 5 j) = 3) => ?_) (fun (c30 : ¬ ((eM (τ 1) 5 j) = 3)) => ?_)
          · refine lv_iinc (v := nI (j + 1)) (lv' := [(1, .int (nI (j + 1))), (0, .ref (a 70))]) hC.1 hC.2.1 dX11_fewest_75 hl (k := 1) rfl (nI_add _ _) (by decide) rfl (fun ls hl => ?_)
            refine lv_goto (tgt := 7) hC.1 hC.2.1 dX11_fewest_78 (by decide) ?_
            have hL : qL (fwc2 (τ 1)) (j + 1) = qL (fwc2 (τ 1)) j := if_neg (fun q => (of_decide_eq_true q).2 c30)
            rw [← hL] at hw
            exact ih7 (j + 1) r5 (by omega) (by rw [hL]; exact hG) (by rw [hL]; exact h5) (by omega) _ _ _ hw (lv_sub hl [1, 0] rfl)
          · refine lv_aload_n hC.1 hC.2.1 dX11_fewest_44 rfl (lv_at hl 0 rfl) ?_
            refine gf_X11_138 (v := nI ((qL (fwc2 (τ 1)) j).length)) hC hw rfl dX11_fewest_45 ?_
            refine lv_iconst (v := nI 5) hC.1 hC.2.1 dX11_fewest_48 (by decide) ?_
            refine q_cmpne hC 55 (cNeq (by omega) (by omega)) dX11_fewest_49 (by decide) (fun (c31 : ((qL (fwc2 (τ 1)) j).length) ≠ 5) => ?_) (fun (c31 : ((qL (fwc2 (τ 1)) j).length) = 5) => ?_)
            · refine lv_aload_n hC.1 hC.2.1 dX11_fewest_55 rfl (lv_at hl 0 rfl) ?_
              refine gf_X11_22 hC hw dX11_fewest_56 ?_
              refine lv_aload_n hC.1 hC.2.1 dX11_fewest_59 rfl (lv_at hl 0 rfl) ?_
              refine gf_X11_138 (v := nI ((qL (fwc2 (τ 1)) j).length)) hC hw rfl dX11_fewest_60 ?_
              refine lv_iload_n hC.1 hC.2.1 dX11_fewest_63 rfl (lv_at hl 1 rfl) ?_
              refine as_M5 hC hw (by omega) dX11_fewest_64 (fun H locs hw => ?_)
              have hw : Wst E (MW E a) (sr (sr τ 5 (upd (r5) ((qL (fwc2 (τ 1)) j).length) (nI j))) 0 (upd (τ 0) 4 (nI (qL (fwc2 (τ 1)) j).length))) A s.heap H locs := hw
              refine lv_aload_n hC.1 hC.2.1 dX11_fewest_65 rfl (lv_at hl 0 rfl) ?_
              refine lv_dup hC.1 hC.2.1 dX11_fewest_66 rfl ?_
              refine gf_X11_138 (v := nI ((qL (fwc2 (τ 1)) j).length)) hC hw rfl dX11_fewest_67 ?_
              refine lv_iconst (v := nI 1) hC.1 hC.2.1 dX11_fewest_70 (by decide) ?_
              refine q_addN hC dX11_fewest_71 ?_
              refine pf_X11_138 hC hw dX11_fewest_72 (fun H locs hw => ?_)
              have hw : Wst E (MW E a) (sr (sr τ 5 (upd (r5) ((qL (fwc2 (τ 1)) j).length) (nI j))) 0 (upd (τ 0) 4 (nI (((qL (fwc2 (τ 1)) j).length) + 1)))) A s.heap H locs := hw
              refine lv_iinc (v := nI (j + 1)) (lv' := [(1, .int (nI (j + 1))), (0, .ref (a 70))]) hC.1 hC.2.1 dX11_fewest_75 hl (k := 1) rfl (nI_add _ _) (by decide) rfl (fun ls hl => ?_)
              refine lv_goto (tgt := 7) hC.1 hC.2.1 dX11_fewest_78 (by decide) ?_
              have hL : qL (fwc2 (τ 1)) (j + 1) = qL (fwc2 (τ 1)) j ++ [j] := if_pos (decide_eq_true ⟨c29, c30⟩)
              have hLl : (qL (fwc2 (τ 1)) j).length + 1 = (qL (fwc2 (τ 1)) (j + 1)).length := by rw [hL, List.length_append]; rfl
              have hsc : nI (((qL (fwc2 (τ 1)) j).length) + 1) = nI (qL (fwc2 (τ 1)) (j + 1)).length := congrArg nI hLl
              rw [hsc] at hw
              exact ih7 (j + 1) (upd (r5) ((qL (fwc2 (τ 1)) j).length) (nI j)) (by omega) (fun x hx => by rw [hL] at hx ⊢; rw [List.length_append, List.length_singleton] at hx; by_cases e : x = (qL (fwc2 (τ 1)) j).length; (subst e; rw [ups, gd_r rfl]); rw [upn e, gd_l (by omega)]; exact hG x (by omega)) (by omega) (by omega) _ _ _ hw (lv_sub hl [1, 0] rfl)
            · refine lv_bipush (v := (-4)) hC.1 hC.2.1 dX11_fewest_52 (by decide) ?_
              refine hret _ _ _ _ _ _ hw ?_ rfl dX11_fewest_54
              have hL : qL (fwc2 (τ 1)) (j + 1) = qL (fwc2 (τ 1)) j ++ [j] := if_pos (decide_eq_true ⟨c29, c30⟩)
              have hml := qL_mono (c := fwc2 (τ 1)) (n := j + 1) (nj - (j + 1))
              rw [hL, List.length_append, List.length_singleton, show j + 1 + (nj - (j + 1)) = nj by omega] at hml
              refine ⟨τ 4, r5, τ 12, nI (qL (fwc2 (τ 1)) j).length, Or.inl ⟨by show 5 < (qL (fwc2 (τ 1)) nj).length; omega, rfl⟩, ?_⟩
              funext j_ x_
              by_cases e0 : j_ = 0
              · subst e0
                by_cases y4 : x_ = 4
                · subst y4; rfl
                · simp [sr, upd, y4]
              · by_cases e4 : j_ = 4
                · subst e4; rfl
                · by_cases e5 : j_ = 5
                  · subst e5; rfl
                  · by_cases e12 : j_ = 12
                    · subst e12; rfl
                    · simp only [sr, e0, e4, e5, e12, if_false]
  exact L7_0 _ 0 (τ 5) (Nat.zero_le _) (fun x q => absurd q (Nat.not_lt_zero _)) (Nat.zero_le _) (Nat.lt_succ_self _) _ _ _ hw (lv_sub hl [1, 0] rfl)
