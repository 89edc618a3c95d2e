/-! ===== BETWEEN CALLS ===== -/
/-- a row of the ring: what the reference's row w had -/
def ROW (w : Nat → Int32) (nh nj : Nat) (r : Nat → Int32) : Prop := r 0 = w 0 ∧ r 1 = w 1 ∧ r 2 = w 5 ∧ (∀ i, i < 3 → r (3 + i) = eM w 15 i) ∧ (∀ h, h < nh → r (6 + h) = eM w 4 h) ∧ ∀ j, j < nj → r (16 + j) = eM w 11 j ∧ (eM w 11 j = 1 → r (40 + j) = eM w 12 j ∧ r (64 + j) = eM w 13 j) ∧ r (88 + j) = eM w 14 j
def nhW (w : Nat → Int32) : Nat := cN (w 0)
def njW (w : Nat → Int32) : Nat := cN (w 1)
def rgi (nx len i : Nat) : Nat := (nx + 30 - len + i) % 30
def RG (σ : St) (stk : List (Nat → Int32)) : Prop := ∃ nx, nx < 30 ∧ σ 0 3 = nI nx ∧ σ 0 4 = nI stk.length ∧ stk.length ≤ 30 ∧ ∀ i w, stk[i]? = some w → ROW w (nhW w) (njW w) (σ (30 + rgi nx stk.length i))
/-- the class's rows are the reference's row v -/
def XR (σ : St) (v : Nat → Int32) (nh nj : Nat) : Prop := cN2 σ nh nj ∧ σ 0 2 = v 5 ∧ agE σ (eM v) nh nj ∧ JX σ v nj ∧ (∀ j, j < nj → σ 14 j = eM v 14 j) ∧ ∀ i, i < 3 → σ 15 i = eM v 15 i
/-- what holds of each row of the reference -/
def VI (v : Nat → Int32) (nh nj T : Nat) : Prop := mF v nh nj ∧ Zr v ∧ cS (eM v) nh nj ∧ cT (eM v) nh nj ∧ (∀ k, k < nj → ¬ eM v 7 k < 0) ∧ TGr v nh nj ∧ (∀ j, j < nj → eM v 11 j = 1 → eM v 4 (hsN v j) = 1) ∧ TD v nj ∧ ∃ t, v 5 = nI t ∧ t ≤ T ∧ ∀ j, j < nj → eM v 11 j = 1 → ∃ s, s ≤ t ∧ eM v 13 j = nI s
def SA (σ : St) (w : Nat → Int32) (nh nj : Nat) : Prop := (∀ h, h < nh → (∀ i, i < 3 → σ 1 (3 * h + i) = eM w 1 (3 * h + i)) ∧ σ 2 h = eM w 2 h ∧ σ 3 h = eM w 3 h) ∧ ∀ j, j < nj → (∀ i, i < 3 → σ 6 (3 * j + i) = eM w 6 (3 * j + i)) ∧ σ 5 j = eM w 5 j ∧ σ 7 j = eM w 7 j ∧ σ 8 j = eM w 8 j ∧ σ 9 j = eM w 9 j ∧ σ 10 j = eM w 10 j
def STK (σ : St) (stk : List (Nat → Int32)) (nh nj T : Nat) : Prop := (∀ w, w ∈ stk → VI w (nhW w) (njW w) T ∧ SA σ w (nhW w) (njW w) ∧ nhW w ≤ nh ∧ njW w ≤ nj) ∧ stk.Pairwise (fun a b => nhW a ≤ nhW b ∧ njW a ≤ njW b)
def CL (σ : St) (v : Nat → Int32) (nh nj : Nat) (stk : List (Nat → Int32)) (T : Nat) : Prop := XR σ v nh nj ∧ VI v nh nj T ∧ FSr σ (pB (eM v) (-1)) nh nj (σ 16) (σ 17) (σ 18) (σ 19) (σ 20) (σ 21) ∧ RG σ stk ∧ STK σ stk nh nj T
theorem VI.nW {v : Nat → Int32} {nh nj T : Nat} (h : VI v nh nj T) : nhW v = nh ∧ njW v = nj := by
  obtain ⟨⟨h1, h2, h3, h4, -⟩, -⟩ := h
  exact ⟨by unfold nhW; rw [h3]; exact nI_clamp (by omega), by unfold njW; rw [h4]; exact nI_clamp (by omega)⟩
theorem VI.mono {v : Nat → Int32} {nh nj T T' : Nat} (h : VI v nh nj T) (hT : T ≤ T') : VI v nh nj T' := by
  obtain ⟨h1, h2, h3, h4, h5, h6, h7, h8, t, h9, h10, h11⟩ := h
  exact ⟨h1, h2, h3, h4, h5, h6, h7, h8, t, h9, by omega, h11⟩
theorem STK.mono {σ : St} {stk : List (Nat → Int32)} {nh nj nh' nj' T T' : Nat} (h : STK σ stk nh nj T) (hn : nh ≤ nh') (hj : nj ≤ nj') (hT : T ≤ T') : STK σ stk nh' nj' T' :=
  ⟨fun w hw => by obtain ⟨a, b, c, d⟩ := h.1 w hw; exact ⟨a.mono hT, b, by omega, by omega⟩, h.2⟩
theorem SA.of {σ u : St} {w : Nat → Int32} {nh nj : Nat} (h : SA σ w nh nj) (hr : ∀ r, (r = 1 ∨ r = 2 ∨ r = 3 ∨ r = 5 ∨ r = 6 ∨ r = 7 ∨ r = 8 ∨ r = 9 ∨ r = 10) → u r = σ r) : SA u w nh nj := by
  unfold SA at h ⊢
  rw [hr 1 (by omega), hr 2 (by omega), hr 3 (by omega), hr 5 (by omega), hr 6 (by omega), hr 7 (by omega), hr 8 (by omega), hr 9 (by omega), hr 10 (by omega)]
  exact h
theorem STK.of {σ u : St} {stk : List (Nat → Int32)} {nh nj T : Nat} (h : STK σ stk nh nj T) (hr : ∀ r, (r = 1 ∨ r = 2 ∨ r = 3 ∨ r = 5 ∨ r = 6 ∨ r = 7 ∨ r = 8 ∨ r = 9 ∨ r = 10) → u r = σ r) : STK u stk nh nj T :=
  ⟨fun w hw => by obtain ⟨a, b, c, d⟩ := h.1 w hw; exact ⟨a, b.of hr, c, d⟩, h.2⟩
theorem RG.of {σ u : St} {stk : List (Nat → Int32)} (h : RG σ stk) (hr : ∀ r, 30 ≤ r → u r = σ r) (h3 : u 0 3 = σ 0 3) (h4 : u 0 4 = σ 0 4) : RG u stk := by
  obtain ⟨nx, a, b, c, d, e⟩ := h
  exact ⟨nx, a, h3.trans b, h4.trans c, d, fun i w hi => by rw [hr _ (by omega)]; exact e i w hi⟩
theorem cS.ag {σ E : St} {nh nj : Nat} (hA : agE σ E nh nj) (h : cS E nh nj) : cS σ nh nj := by
  obtain ⟨h1, h2, h3, h4⟩ := h
  refine ⟨h1, h2, fun x hx => ?_, fun x hx => ?_⟩
  · obtain ⟨a, b, c⟩ := h3 x hx; obtain ⟨p, q, r, s⟩ := hA.1 x hx
    exact ⟨by rw [q]; exact a, by rw [s]; exact b, fun i hi => by rw [p i hi]; exact c i hi⟩
  · obtain ⟨a, b, c⟩ := h4 x hx; obtain ⟨p, q, r, s, t⟩ := hA.2 x hx
    exact ⟨by rw [r]; exact a, by rw [t]; exact b, fun i hi => by rw [p i hi]; exact c i hi⟩
theorem cT.ag {σ E : St} {nh nj : Nat} (hA : agE σ E nh nj) (h : cT E nh nj) : cT σ nh nj :=
  ⟨fun x hx i hi => by rw [(hA.1 x hx).1 i hi]; exact h.1 x hx i hi, fun x hx i hi => by rw [(hA.2 x hx).1 i hi]; exact h.2 x hx i hi⟩
theorem XR.SA {σ : St} {v : Nat → Int32} {nh nj : Nat} (h : XR σ v nh nj) : SA σ v nh nj := by
  obtain ⟨-, -, hA, hJ, -⟩ := h
  exact ⟨fun x hx => ⟨(hA.1 x hx).1, (hA.1 x hx).2.1, (hA.1 x hx).2.2.1⟩, fun x hx => ⟨(hA.2 x hx).1, (hA.2 x hx).2.1, (hJ x hx).2.1, (hA.2 x hx).2.2.1, (hA.2 x hx).2.2.2.1, (hA.2 x hx).2.2.2.2⟩⟩
/-- keep: the row is v's -/
theorem kpr_ROW {σ : St} {v r : Nat → Int32} {nh nj T : Nat} (hX : XR σ v nh nj) (hV : VI v nh nj T) : ROW v nh nj (kpr σ r) := by
  obtain ⟨h1, h2, hA, hJ, h14, h15⟩ := hX
  have hn := hV.1.1; have hj := hV.1.2.1; have e0 := hV.1.2.2.1; have e1 := hV.1.2.2.2.1
  refine ⟨?_, ?_, ?_, fun i hi => ?_, fun h hh => ?_, fun j hjj => ⟨?_, fun hs => ⟨?_, ?_⟩, ?_⟩⟩
  · exact h1.1.trans e0.symm
  · exact h1.2.trans e1.symm
  · exact h2
  · unfold kpr va_cpy upc
    rw [if_neg (by omega), if_neg (by omega), if_neg (by omega), if_neg (by omega), if_neg (by omega)]
    show (if 3 ≤ 3 + i ∧ 3 + i < 3 + 3 then σ 15 (0 + (3 + i - 3)) else upd (upd (upd r 0 (σ 0 0)) 1 (σ 0 1)) 2 (σ 0 2) (3 + i)) = _
    rw [if_pos (by omega), show 0 + (3 + i - 3) = i by omega]
    exact h15 i hi
  · unfold kpr va_cpy upc
    rw [if_neg (by omega), if_neg (by omega), if_neg (by omega), if_neg (by omega), if_pos (show 6 ≤ 6 + h ∧ 6 + h < 6 + 10 by omega), show 6 + h - 6 = h by omega, (hA.1 h hh).2.2.2]
    rcases (hV.2.2.1.2.2.1 h hh).2.1 with e | e <;> rw [e] <;> decide
  · unfold kpr va_cpy
    rw [if_neg (by omega), if_neg (by omega), if_neg (by omega), if_pos (by omega), show 0 + (16 + j - 16) = j by omega]
    exact (hJ j hjj).2.2.1
  · unfold kpr va_cpy
    rw [if_neg (by omega), if_neg (by omega), if_pos (by omega), show 0 + (40 + j - 40) = j by omega]
    exact ((hJ j hjj).2.2.2 hs).1
  · unfold kpr va_cpy
    rw [if_neg (by omega), if_pos (by omega), show 0 + (64 + j - 64) = j by omega]
    exact ((hJ j hjj).2.2.2 hs).2
  · unfold kpr va_cpy
    rw [if_pos (by omega), show 0 + (88 + j - 88) = j by omega]
    exact h14 j hjj
theorem keep_CL {σ u : St} {v : Nat → Int32} {nh nj T nx : Nat} {stk : List (Nat → Int32)} (hC : CL σ v nh nj stk T) (hn : nx < 30) (hnx : σ 0 3 = nI nx)
    (hu : u = sr (sr σ (30 + nx) (kpr σ (σ (30 + nx)))) 0 (upd (upd (σ 0) 3 (nI (if nx ≠ 29 then nx + 1 else 0))) 4 (nI (if stk.length ≠ 30 then stk.length + 1 else stk.length)))) :
    CL u v nh nj (push30 stk v) T ∧ (∀ r, 0 < r → r < 30 → u r = σ r) ∧ ∀ x, x ≠ 3 → x ≠ 4 → u 0 x = σ 0 x := by
  obtain ⟨hX, hV, hF, ⟨nx', g1, g2, g3, g4, g5⟩, hS⟩ := hC
  obtain rfl : nx' = nx := (nI_eq (by omega) (by omega)).mp (g2.symm.trans hnx)
  have hr : ∀ r, 0 < r → r < 30 → u r = σ r := fun r h1 h2 => by rw [hu, sr_n (by omega), sr_n (by omega)]
  have h0 : ∀ x, x ≠ 3 → x ≠ 4 → u 0 x = σ 0 x := fun x h3 h4 => by rw [hu, sr_s, upn h4, upn h3]
  have hRo : u (30 + nx') = kpr σ (σ (30 + nx')) := by rw [hu, sr_n (by omega), sr_s]
  have hRn : ∀ k, k < 30 → k ≠ nx' → u (30 + k) = σ (30 + k) := fun k hk hne => by rw [hu, sr_n (by omega), sr_n (by omega)]
  have hnw := hV.nW
  have hXu : XR u v nh nj := by
    obtain ⟨a1, a2, a3, a4, a5, a6⟩ := hX
    unfold XR cN2 agE JX
    rw [h0 0 (by omega) (by omega), h0 1 (by omega) (by omega), h0 2 (by omega) (by omega)]
    rw [hr 1 (by omega) (by omega), hr 2 (by omega) (by omega), hr 3 (by omega) (by omega), hr 4 (by omega) (by omega), hr 5 (by omega) (by omega), hr 6 (by omega) (by omega), hr 7 (by omega) (by omega), hr 8 (by omega) (by omega), hr 9 (by omega) (by omega), hr 10 (by omega) (by omega), hr 11 (by omega) (by omega), hr 12 (by omega) (by omega), hr 13 (by omega) (by omega), hr 14 (by omega) (by omega), hr 15 (by omega) (by omega)]
    exact ⟨a1, a2, a3, a4, a5, a6⟩
  have hFu : FSr u (pB (eM v) (-1)) nh nj (u 16) (u 17) (u 18) (u 19) (u 20) (u 21) := by
    unfold FSr m_left m_gon m_gin m_alk m_shy f_left f_gon f_gin f_alk f_shy inH
    rw [hr 1 (by omega) (by omega), hr 2 (by omega) (by omega), hr 5 (by omega) (by omega), hr 6 (by omega) (by omega), hr 8 (by omega) (by omega), hr 10 (by omega) (by omega), hr 16 (by omega) (by omega), hr 17 (by omega) (by omega), hr 18 (by omega) (by omega), hr 19 (by omega) (by omega), hr 20 (by omega) (by omega), hr 21 (by omega) (by omega)]
    exact hF
  have hst : ∀ r, (r = 1 ∨ r = 2 ∨ r = 3 ∨ r = 5 ∨ r = 6 ∨ r = 7 ∨ r = 8 ∨ r = 9 ∨ r = 10) → u r = σ r := fun r h => hr r (by omega) (by omega)
  have hRv : ROW v (nhW v) (njW v) (u (30 + nx')) := by rw [hRo, hnw.1, hnw.2]; exact kpr_ROW hX hV
  refine ⟨⟨hXu, hV, hFu, ⟨if nx' ≠ 29 then nx' + 1 else 0, by split <;> omega, by rw [hu, sr_s, upn (by decide), ups], ?_, ?_, ?_⟩, ?_⟩, hr, h0⟩
  · rw [hu, sr_s, ups]; congr 1
    unfold push30
    by_cases q : stk.length = 30
    · rw [if_neg (fun z => z q), if_pos q, List.length_append, List.length_tail]; simp; omega
    · rw [if_pos q, if_neg q, List.length_append]; rfl
  · unfold push30; rw [List.length_append]; split
    · rw [List.length_tail]; simp; omega
    · simp; omega
  · intro i w hi
    unfold push30 at hi ⊢
    by_cases q : stk.length = 30
    · rw [if_pos q] at hi ⊢
      have hlen : (stk.tail ++ [v]).length = 30 := by rw [List.length_append, List.length_tail]; simp; omega
      rw [hlen]
      by_cases z : i < 29
      · rw [List.getElem?_append_left (by rw [List.length_tail]; omega), List.getElem?_tail] at hi
        have := g5 (i + 1) w hi
        have e : 30 + rgi (if nx' ≠ 29 then nx' + 1 else 0) 30 i = 30 + rgi nx' stk.length (i + 1) := by unfold rgi; split <;> omega
        rw [e, hRn _ (by unfold rgi; omega) (by unfold rgi; omega)]; exact this
      · have hil := (List.getElem?_eq_some_iff.mp hi).1
        rw [hlen] at hil
        rw [List.getElem?_append_right (by rw [List.length_tail]; omega), List.length_tail, show i - (stk.length - 1) = 0 by omega] at hi
        cases hi
        have e : 30 + rgi (if nx' ≠ 29 then nx' + 1 else 0) 30 i = 30 + nx' := by unfold rgi; split <;> omega
        rw [e]; exact hRv
    · rw [if_neg q] at hi ⊢
      have hlen : (stk ++ [v]).length = stk.length + 1 := by rw [List.length_append]; rfl
      rw [hlen]
      by_cases z : i < stk.length
      · rw [List.getElem?_append_left z] at hi
        have := g5 i w hi
        have e : 30 + rgi (if nx' ≠ 29 then nx' + 1 else 0) (stk.length + 1) i = 30 + rgi nx' stk.length i := by unfold rgi; split <;> omega
        rw [e, hRn _ (by unfold rgi; omega) (by unfold rgi; omega)]; exact this
      · have hil := (List.getElem?_eq_some_iff.mp hi).1
        rw [hlen] at hil
        rw [List.getElem?_append_right (by omega), show i - stk.length = 0 by omega] at hi
        cases hi
        have e : 30 + rgi (if nx' ≠ 29 then nx' + 1 else 0) (stk.length + 1) i = 30 + nx' := by unfold rgi; split <;> omega
        rw [e]; exact hRv
  · have hS2 := hS.of hst
    unfold push30
    refine ⟨fun w hw => ?_, ?_⟩
    · rcases List.mem_append.mp hw with hw | hw
      · refine hS2.1 w ?_
        split at hw
        · exact List.mem_of_mem_tail hw
        · exact hw
      · rw [List.mem_singleton] at hw; subst hw
        rw [hnw.1, hnw.2]
        exact ⟨hV, hXu.SA, Nat.le_refl _, Nat.le_refl _⟩
    · rw [List.pairwise_append]
      refine ⟨by split; exact hS2.2.tail; exact hS2.2, List.pairwise_singleton _ _, fun x hx y hy => ?_⟩
      rw [List.mem_singleton] at hy; subst hy
      rw [hnw.1, hnw.2]
      have hx' : x ∈ stk := by split at hx; exact List.mem_of_mem_tail hx; exact hx
      exact (hS.1 x hx').2.2
