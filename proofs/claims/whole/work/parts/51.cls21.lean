/-! ===== ADVICE ===== -/
theorem ff_no {E0 : St} {P : Nat → Int32} {nh nj j : Nat} : ∀ {n : Nat}, n < 2 ^ 31 → (m_ff E0 P nh nj j n = -1 ∧ ∀ h, h < n → ¬ m_why E0 P nh nj j h = 0) ∨ ∃ h, h < n ∧ m_ff E0 P nh nj j n = nI h ∧ m_why E0 P nh nj j h = 0 ∧ ∀ x, x < h → ¬ m_why E0 P nh nj j x = 0
  | 0, _ => Or.inl ⟨rfl, fun h q => absurd q (Nat.not_lt_zero _)⟩
  | n + 1, hn => by
    rcases ff_no (E0 := E0) (P := P) (nh := nh) (nj := nj) (j := j) (n := n) (by omega) with ⟨h1, h2⟩ | ⟨h, h1, h2, h3, h4⟩
    · rw [m_ff, if_pos h1]
      by_cases e : m_why E0 P nh nj j n = 0
      · exact Or.inr ⟨n, Nat.lt_succ_self n, if_pos e, e, h2⟩
      · exact Or.inl ⟨if_neg e, ball_s.mpr ⟨h2, e⟩⟩
    · rw [m_ff, if_neg (fun q => nI_nm1 (show h < 2 ^ 31 by omega) (h2.symm.trans q).symm)]
      exact Or.inr ⟨h, by omega, h2, h3, h4⟩
theorem aE.r9 {σ E0 : St} {j : Nat} {x : Int32} (hE : aE σ E0) : aE (sr σ 9 (upd (σ 9) j x)) (sr E0 9 (upd (E0 9) j x)) := by
  obtain ⟨h1, h2, h3, h4, h5, h6, h7, h8, h9, h10⟩ := hE
  exact ⟨h1, h2, h3, h4, h5, h6, h7, h8, by show upd (σ 9) j x = upd (E0 9) j x; rw [h9], h10⟩
/-- tight ranges -/
def cT (E0 : St) (nh nj : Nat) : Prop := (∀ h, h < nh → ∀ i, i < 3 → 0 ≤ (E0 1 (3 * h + i)).toInt ∧ (E0 1 (3 * h + i)).toInt ≤ 1000) ∧ ∀ j, j < nj → ∀ i, i < 3 → 0 ≤ (E0 6 (3 * j + i)).toInt ∧ (E0 6 (3 * j + i)).toInt ≤ 1000
theorem cT.left {E0 : St} {P : Nat → Int32} {nh nj h i : Nat} (hT : cT E0 nh nj) (hn : nj ≤ 24) (hh : h < nh) (hi : i < 3) : bd5 (m_left E0 P nj h i) := by
  have a := sm_bd (f := f_left E0 P h i) (B := 1000) (n := nj) (by omega) (fun k hk => by
    unfold f_left
    split
    · have := hT.2 k hk i hi; omega
    · decide)
  have b := hT.1 h hh i hi
  have c : ((nj * 1000 : Nat) : Int) ≤ 24000 := by omega
  unfold m_left bd5
  rw [Int32.toInt_sub, Int.bmod_eq_of_le (by omega) (by omega)]
  omega
theorem aE.r6 {σ E0 : St} {k : Nat} {x : Int32} (hE : aE σ E0) : aE (sr σ 6 (upd (σ 6) k x)) (sr E0 6 (upd (E0 6) k x)) := by
  obtain ⟨h1, h2, h3, h4, h5, h6, h7⟩ := hE
  exact ⟨h1, h2, h3, h4, h5, by show upd (σ 6) k x = upd (E0 6) k x; rw [h6], h7⟩
theorem cS.r6 {E0 : St} {nh nj j i : Nat} {x : Int32} (hS : cS E0 nh nj) (hx : bd5 x) : cS (sr E0 6 (upd (E0 6) (3 * j + i) x)) nh nj := by
  refine ⟨hS.1, hS.2.1, hS.2.2.1, fun k hk => ⟨(hS.2.2.2 k hk).1, (hS.2.2.2 k hk).2.1, fun y hy => ?_⟩⟩
  show bd5 (upd (E0 6) (3 * j + i) x (3 * k + y))
  by_cases e : 3 * k + y = 3 * j + i
  · rw [e, ups]; exact hx
  · rw [upn e]; exact (hS.2.2.2 k hk).2.2 y hy
theorem chn {c1 c2 c3 c4 c5 : Prop} [Decidable c1] [Decidable c2] [Decidable c3] [Decidable c4] [Decidable c5] {w : Int32} (h : (if c1 then (1 : Int32) else if c2 then 2 else if c3 then 3 else if c4 then 4 else if c5 then 5 else w) = 0) : ¬ c1 ∧ ¬ c2 ∧ ¬ c3 ∧ ¬ c4 ∧ ¬ c5 ∧ w = 0 := by
  by_cases h1 : c1
  · rw [if_pos h1] at h; exact absurd h (by decide)
  · rw [if_neg h1] at h
    by_cases h2 : c2
    · rw [if_pos h2] at h; exact absurd h (by decide)
    · rw [if_neg h2] at h
      by_cases h3 : c3
      · rw [if_pos h3] at h; exact absurd h (by decide)
      · rw [if_neg h3] at h
        by_cases h4 : c4
        · rw [if_pos h4] at h; exact absurd h (by decide)
        · rw [if_neg h4] at h
          by_cases h5 : c5
          · rw [if_pos h5] at h; exact absurd h (by decide)
          · rw [if_neg h5] at h; exact ⟨h1, h2, h3, h4, h5, h⟩
theorem wh2_in {E : St} {P : Nat → Int32} {nh nj j h : Nat} : m_wh2 E P nh nj j h = 6 ∨ m_wh2 E P nh nj j h = 7 ∨ m_wh2 E P nh nj j h = 8 ∨ m_wh2 E P nh nj j h = 0 := by
  unfold m_wh2
  split
  · exact Or.inl rfl
  · split
    · exact Or.inr (Or.inl rfl)
    · split
      · exact Or.inr (Or.inr (Or.inl rfl))
      · exact Or.inr (Or.inr (Or.inr rfl))
/-- amount i lacks, and it's all that is wrong -/
theorem amt_iff {E : St} {P : Nat → Int32} {nh nj j h i : Nat} (hj : j < nj) (hP : ¬ P j = nI h) (hi : i < 3) : (m_why E P nh nj j h = nI (3 + i) ∧ m_why (sr E 6 (upd (E 6) (3 * j + i) (m_left E P nj h i))) P nh nj j h = 0) ↔ (m_left E P nj h i < E 6 (3 * j + i) ∧ m_why (sr E 6 (upd (E 6) (3 * j + i) (m_left E P nj h i))) P nh nj j h = 0) := by
  have hl : ∀ x, x < 3 → m_left (sr E 6 (upd (E 6) (3 * j + i) (m_left E P nj h i))) P nj h x = m_left E P nj h x := fun x hx => by
    refine congrArg (E 1 (3 * h + x) - ·) (sm_congr (fun k hk => ?_))
    show (if P k = nI h then upd (E 6) (3 * j + i) (m_left E P nj h i) (3 * k + x) else 0) = (if P k = nI h then E 6 (3 * k + x) else 0)
    by_cases e : P k = nI h
    · rw [if_pos e, if_pos e, upn (fun q => hP (by rw [show j = k by omega]; exact e))]
    · rw [if_neg e, if_neg e]
  have ha : ∀ x, x < 3 → x ≠ i → (sr E 6 (upd (E 6) (3 * j + i) (m_left E P nj h i))) 6 (3 * j + x) = E 6 (3 * j + x) := fun x hx hne => upn (f := E 6) (by omega)
  refine and_congr_left (fun h0 => ?_)
  unfold m_why at h0
  rw [hl 0 (by decide), hl 1 (by decide), hl 2 (by decide)] at h0
  obtain ⟨z1, z2, z3, z4, z5, z6⟩ := chn h0
  have z1 : ¬ E 4 h = 0 := z1
  have z2 : ¬ ¬ (E 3 h &&& (E 9 j ^^^ (-1))) = 0 := z2
  unfold m_why
  rw [if_neg z1, if_neg z2]
  have hw := wh2_in (E := E) (P := P) (nh := nh) (nj := nj) (j := j) (h := h)
  rcases (show i = 0 ∨ i = 1 ∨ i = 2 by omega) with e | e | e
  · subst e
    rw [ha 1 (by decide) (by decide)] at z4; rw [ha 2 (by decide) (by decide)] at z5
    rw [if_neg z4, if_neg z5]
    constructor
    · intro q
      refine Classical.byContradiction fun w => ?_
      rw [if_neg w] at q
      rcases hw with e | e | e | e <;> rw [e] at q <;> exact absurd q (by decide)
    · intro q; rw [if_pos q]; rfl
  · subst e
    rw [ha 0 (by decide) (by decide)] at z3; rw [ha 2 (by decide) (by decide)] at z5
    rw [if_neg z3, if_neg z5]
    constructor
    · intro q
      refine Classical.byContradiction fun w => ?_
      rw [if_neg w] at q
      rcases hw with e | e | e | e <;> rw [e] at q <;> exact absurd q (by decide)
    · intro q; rw [if_pos q]; rfl
  · subst e
    rw [ha 0 (by decide) (by decide)] at z3; rw [ha 1 (by decide) (by decide)] at z4
    rw [if_neg z3, if_neg z4]
    constructor
    · intro q
      refine Classical.byContradiction fun w => ?_
      rw [if_neg w] at q
      rcases hw with e | e | e | e <;> rw [e] at q <;> exact absurd q (by decide)
    · intro q; rw [if_pos q]; rfl
section AD
variable {E0 : St} {v : Nat → Int32} {nh nj j : Nat}
theorem ad_P (hW : mF v nh nj) (hj : j < nj) (hj0 : eM v 11 j = 0) : ∀ k, k < nj → pB (eM v) (-1) k = pB (eM v) (nI j) k := fun k hk => by
  have h2 := hW.2.1
  exact pB_but (by rw [hj0]; decide) (by omega) k (by omega)
theorem ftT_iff {b h : Nat} (hA : agE E0 (eM v) nh nj) (hW : mF v nh nj) (hj : j < nj) (hj0 : eM v 11 j = 0) (hh : h < nh) : m_why (sr E0 9 (upd (E0 9) j (E0 9 j ||| (1 <<< (nI b &&& 31))))) (pB (eM v) (-1)) nh nj j h = 0 ↔ ftT v nh nj j b h := by
  unfold ftT
  rw [m_why_congr (E := sr E0 9 (upd (E0 9) j (E0 9 j ||| (1 <<< (nI b &&& 31))))) (E' := tnE v j b) (P' := pB (eM v) (nI j)) ⟨fun x hx => hA.1 x hx, fun x hx => ⟨(hA.2 x hx).1, (hA.2 x hx).2.1, (hA.2 x hx).2.2.1, ?_, (hA.2 x hx).2.2.2.2⟩⟩ (ad_P hW hj hj0) (pB_ok hW) hW.1 hj hh]
  show upd (E0 9) j (E0 9 j ||| (1 <<< (nI b &&& 31))) x = upd (eM v 9) j (eM v 9 j ||| (1 <<< (nI b &&& 31))) x
  by_cases e : x = j
  · subst e; rw [ups, ups, (hA.2 x hx).2.2.2.1]
  · rw [upn e, upn e]; exact (hA.2 x hx).2.2.2.1
theorem ftG_iff {k h : Nat} (hA : agE E0 (eM v) nh nj) (hW : mF v nh nj) (hj : j < nj) (hj0 : eM v 11 j = 0) (hh : h < nh) (hk : eM v 11 k = 1) : m_why E0 (upd (pB (eM v) (-1)) k (-1)) nh nj j h = 0 ↔ ftG v nh nj j k h := by
  unfold ftG
  rw [m_why_congr (E' := eM v) (P' := upd (pB (eM v) (nI j)) k (-1)) hA (fun x hx => ?_) (fun x hx => ?_) hW.1 hj hh]
  · exact ⟨fun q => ⟨hk, q⟩, fun q => q.2⟩
  · by_cases e : x = k
    · subst e; rw [ups, ups]
    · rw [upn e, upn e]; exact ad_P hW hj hj0 x hx
  · by_cases e : x = k
    · subst e; rw [ups]; exact Or.inl rfl
    · rw [upn e]; exact pB_ok hW x hx
theorem ad_Pj (hW : mF v nh nj) (hj : j < nj) (hj0 : eM v 11 j = 0) {h : Nat} (hh : h < nh) : ¬ pB (eM v) (-1) j = nI h ∧ ¬ pB (eM v) (nI j) j = nI h := by
  have h1 := hW.1
  constructor
  · unfold pB; rw [hj0]; split
    · exact nI_nm1 (by omega)
    · rw [if_neg (by decide)]; exact nI_nm1 (by omega)
  · unfold pB; rw [if_pos rfl]; exact nI_nm1 (by omega)
theorem ls_eq {h i : Nat} (hA : agE E0 (eM v) nh nj) (hW : mF v nh nj) (hj : j < nj) (hj0 : eM v 11 j = 0) (hh : h < nh) (hi : i < 3) : m_left E0 (pB (eM v) (-1)) nj h i = m_left (eM v) (pB (eM v) (nI j)) nj h i ∧ E0 6 (3 * j + i) - m_left E0 (pB (eM v) (-1)) nj h i = lsA v nj j h i := by
  have e := m_left_congr hA (ad_P hW hj hj0) hh hi
  exact ⟨e, by unfold lsA; rw [e, (hA.2 j hj).1 i hi]⟩
theorem ftA_iff {h i : Nat} (hA : agE E0 (eM v) nh nj) (hW : mF v nh nj) (hj : j < nj) (hj0 : eM v 11 j = 0) (hh : h < nh) (hi : i < 3) : (m_left E0 (pB (eM v) (-1)) nj h i < E0 6 (3 * j + i) ∧ m_why (sr E0 6 (upd (E0 6) (3 * j + i) (m_left E0 (pB (eM v) (-1)) nj h i))) (pB (eM v) (-1)) nh nj j h = 0) ↔ ftA v nh nj j h i := by
  unfold ftA
  rw [amt_iff hj (ad_Pj hW hj hj0 hh).2 hi]
  have e := (ls_eq hA hW hj hj0 hh hi).1
  rw [e, (hA.2 j hj).1 i hi]
  rw [m_why_congr (E := sr E0 6 (upd (E0 6) (3 * j + i) (m_left (eM v) (pB (eM v) (nI j)) nj h i))) (E' := amE v nj j h i) (P' := pB (eM v) (nI j)) ⟨fun x hx => hA.1 x hx, fun x hx => ⟨fun y hy => ?_, (hA.2 x hx).2⟩⟩ (ad_P hW hj hj0) (pB_ok hW) hW.1 hj hh]
  show upd (E0 6) (3 * j + i) (m_left (eM v) (pB (eM v) (nI j)) nj h i) (3 * x + y) = upd (eM v 6) (3 * j + i) (m_left (eM v) (pB (eM v) (nI j)) nj h i) (3 * x + y)
  by_cases z : 3 * x + y = 3 * j + i
  · rw [z, ups, ups]
  · rw [upn z, upn z]; exact (hA.2 x hx).1 y hy
/-- the best amount so far: of hosts below x, and of host x amounts below i -/
def scn (x i h y : Nat) : Prop := y < 3 ∧ (h < x ∨ (h = x ∧ y < i))
def BA (v : Nat → Int32) (nh nj j x i : Nat) (z13 z14 z15 : Int32) : Prop := (z14 = -1 ∧ z15 = 0 ∧ ∀ h y, scn x i h y → ¬ ftA v nh nj j h y) ∨ ∃ h y, scn x i h y ∧ ftA v nh nj j h y ∧ z13 = nI y ∧ z14 = nI h ∧ z15 = lsA v nj j h y ∧ ∀ h' y', scn x i h' y' → ftA v nh nj j h' y' → lsA v nj j h y ≤ lsA v nj j h' y' ∧ (h' < h → lsA v nj j h y < lsA v nj j h' y')
theorem scn_s {x i h y : Nat} (hi : i < 3) : scn x (i + 1) h y ↔ scn x i h y ∨ (h = x ∧ y = i) := by unfold scn; omega
theorem scn_3 {x h y : Nat} : scn x 3 h y ↔ scn (x + 1) 0 h y := by unfold scn; omega
theorem BA.no {x i : Nat} {z13 z14 z15 : Int32} (h : BA v nh nj j x i z13 z14 z15) (hi : i < 3) (hn : ¬ ftA v nh nj j x i) : BA v nh nj j x (i + 1) z13 z14 z15 := by
  rcases h with ⟨h1, h2, h3⟩ | ⟨a, b, h1, h2, h3, h4, h5, h6⟩
  · refine Or.inl ⟨h1, h2, fun h y q => ?_⟩
    rcases (scn_s hi).mp q with q | ⟨e1, e2⟩
    · exact h3 h y q
    · rw [e1, e2]; exact hn
  · refine Or.inr ⟨a, b, (scn_s hi).mpr (Or.inl h1), h2, h3, h4, h5, fun h y q w => ?_⟩
    rcases (scn_s hi).mp q with q | ⟨e1, e2⟩
    · exact h6 h y q w
    · rw [e1, e2] at w; exact absurd w hn
theorem BA.keep {x i : Nat} {z13 z14 z15 : Int32} (h : BA v nh nj j x i z13 z14 z15) (hi : i < 3) (hz : ¬ z14 = -1) (hl : z15 ≤ lsA v nj j x i) : BA v nh nj j x (i + 1) z13 z14 z15 := by
  rcases h with ⟨h1, h2, h3⟩ | ⟨a, b, h1, h2, h3, h4, h5, h6⟩
  · exact absurd h1 hz
  · refine Or.inr ⟨a, b, (scn_s hi).mpr (Or.inl h1), h2, h3, h4, h5, fun h y q w => ?_⟩
    rcases (scn_s hi).mp q with q | ⟨e1, e2⟩
    · exact h6 h y q w
    · rw [e1, e2]; exact ⟨by rw [← h5]; exact hl, fun q => by unfold scn at h1; omega⟩
theorem BA.new {x i : Nat} {z13 z14 z15 : Int32} (h : BA v nh nj j x i z13 z14 z15) (hi : i < 3) (hx : x < 2 ^ 31) (hA : ftA v nh nj j x i) (hz : z14 = -1 ∨ lsA v nj j x i < z15) : BA v nh nj j x (i + 1) (nI i) (nI x) (lsA v nj j x i) := by
  refine Or.inr ⟨x, i, (scn_s hi).mpr (Or.inr ⟨rfl, rfl⟩), hA, rfl, rfl, rfl, fun h' y q w => ?_⟩
  rcases (scn_s hi).mp q with q | ⟨e1, e2⟩
  · rcases h with ⟨h1, h2, h3⟩ | ⟨a, b, h1, h2, h3, h4, h5, h6⟩
    · exact absurd w (h3 h' y q)
    · have hz := hz.resolve_left (fun e => nI_nm1 (by unfold scn at h1; omega) (h4.symm.trans e).symm)
      rw [h5] at hz
      have := (h6 h' y q w).1
      exact ⟨Int32.le_of_lt (Int32.lt_of_lt_of_le hz this), fun _ => Int32.lt_of_lt_of_le hz this⟩
  · rw [e1, e2]; exact ⟨Int32.le_refl _, fun q => absurd q (Nat.lt_irrefl _)⟩
theorem BA.fin {z13 z14 z15 : Int32} (h : BA v nh nj j nh 0 z13 z14 z15) : (∃ h y, BsA v nj j nh (ftA v nh nj j) h y ∧ z13 = nI y ∧ z14 = nI h ∧ z15 = lsA v nj j h y) ∨ ((∀ h y, h < nh → y < 3 → ¬ ftA v nh nj j h y) ∧ z14 = -1 ∧ z15 = 0) := by
  rcases h with ⟨h1, h2, h3⟩ | ⟨a, b, h1, h2, h3, h4, h5, h6⟩
  · exact Or.inr ⟨fun h y hh hy => h3 h y ⟨hy, Or.inl hh⟩, h1, h2⟩
  · have h1' : b < 3 ∧ a < nh := by unfold scn at h1; omega
    exact Or.inl ⟨a, b, ⟨h1'.2, h1'.1, h2, fun h' hh y hy w => (h6 h' y ⟨hy, Or.inl hh⟩ w).1, fun h' hh y hy w => (h6 h' y ⟨hy, Or.inl (by omega)⟩ w).2 hh⟩, h3, h4, h5⟩
end AD
