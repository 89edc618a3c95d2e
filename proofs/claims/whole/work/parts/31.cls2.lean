/-! one job counted in or out -/
def TL (P P2 : Nat → Int32) (j h : Nat) (one : Int32) : Prop := (one = 1 ∧ P j = -1 ∧ P2 = upd P j (nI h)) ∨ (one = -1 ∧ P j = nI h ∧ P2 = upd P j (-1))
theorem sm_upd {f g : Nat → Int32} {j : Nat} : ∀ {n : Nat}, j < n → (∀ k, k ≠ j → g k = f k) → sm g n = sm f n + (g j - f j)
  | 0, hj, _ => absurd hj (Nat.not_lt_zero _)
  | n + 1, hj, h => by
    rw [sm, sm]
    by_cases e : j = n
    · subst e
      rw [sm_congr (f := g) (g := f) (fun k hk => h k (by omega))]
      generalize sm f j = x; generalize g j = y; generalize f j = z
      grind
    · rw [sm_upd (n := n) (by omega) h, h n (fun q => e q.symm)]
      generalize sm f n = x; generalize g j = y; generalize f j = z; generalize f n = w
      grind
theorem tl_sm {P P2 : Nat → Int32} {nj j h : Nat} {one X : Int32} (F : Int32 → Nat → Int32) (hT : TL P P2 j h one) (hj : j < nj) (h0 : F (-1) j = 0) (hX : F (nI h) j = X) : sm (fun k => F (P2 k) k) nj = sm (fun k => F (P k) k) nj + one * X := by
  rcases hT with ⟨e1, e2, e3⟩ | ⟨e1, e2, e3⟩
  · rw [sm_upd (f := fun k => F (P k) k) hj (fun k hk => by rw [e3, upn hk])]
    show _ + (F (P2 j) j - F (P j) j) = _
    rw [e3, ups, e2, h0, hX, e1]
    generalize sm _ nj = x
    grind
  · rw [sm_upd (f := fun k => F (P k) k) hj (fun k hk => by rw [e3, upn hk])]
    show _ + (F (P2 j) j - F (P j) j) = _
    rw [e3, ups, e2, h0, hX, e1]
    generalize sm _ nj = x
    grind
theorem tl_0 {P P2 : Nat → Int32} {nj j h : Nat} {one : Int32} (F : Int32 → Nat → Int32) (hT : TL P P2 j h one) (hj : j < nj) (h0 : F (-1) j = 0) (hX : F (nI h) j = 0) : sm (fun k => F (P2 k) k) nj = sm (fun k => F (P k) k) nj := by
  rw [tl_sm F hT hj h0 hX]
  generalize sm _ nj = x
  grind
theorem tl_1 {P P2 : Nat → Int32} {nj j h : Nat} {one : Int32} (F : Int32 → Nat → Int32) (hT : TL P P2 j h one) (hj : j < nj) (h0 : F (-1) j = 0) (hX : F (nI h) j = 1) : sm (fun k => F (P2 k) k) nj = sm (fun k => F (P k) k) nj + one := by
  rw [tl_sm F hT hj h0 hX]
  generalize sm _ nj = x
  grind
def L16 (E0 : St) (b c : Nat → Int32) (j h : Nat) (one : Int32) (i : Nat) : Prop := (∀ x, x < i → c (h * 3 + x) = b (h * 3 + x) - one * E0 6 (3 * j + x)) ∧ ∀ y, (∀ x, x < i → y ≠ h * 3 + x) → c y = b y
theorem tl_alk {E0 : St} {P P2 : Nat → Int32} {nh nj j h x g : Nat} {one : Int32} {b : Nat → Int32} (kd : Int32) (hS : cS E0 nh nj) (hT : TL P P2 j h one) (hj : j < nj) (hh : h < nh) (hx : x < 5) (hgg : g < 8) (hb : b (x * 8 + g) = m_alk E0 P nj kd (nI g) (nI x)) :
    (if E0 5 j = kd then upd b (((hlN E0 h) * 8) + (grN E0 j)) (m_alk E0 P nj kd (E0 8 j) (E0 2 h) + one) else b) (x * 8 + g) = m_alk E0 P2 nj kd (nI g) (nI x) := by
  have h10 := hS.1
  have hg := hS.gr j hj; have hl := hS.hl h hh
  have hnm : ¬ nI h = (-1 : Int32) := fun q => nI_nm1 (by omega) q.symm
  have hc : ∀ z : Int32, z = nI h → (z ≠ -1 ∧ E0 2 z.toNatClampNeg = nI x ↔ x = hlN E0 h) := fun z hz => by
    rw [hz, nI_clamp (by omega), hl.1]
    exact ⟨fun q => by have := (nI_eq (by omega) (by omega)).mp q.2; omega, fun q => ⟨hnm, by rw [q]⟩⟩
  have hz : ¬ (x = hlN E0 h ∧ g = grN E0 j ∧ E0 5 j = kd) → b (x * 8 + g) = m_alk E0 P2 nj kd (nI g) (nI x) := fun e => by
    rw [hb]
    unfold m_alk f_alk inH
    rw [tl_0 (fun z k => if (E0 5 k = kd ∧ E0 8 k = nI g) ∧ (z ≠ -1 ∧ E0 2 z.toNatClampNeg = nI x) then 1 else 0) hT hj (if_neg (fun q => q.2.1 rfl)) (if_neg (fun q => e ⟨(hc _ rfl).mp q.2, by have := hg.1.symm.trans q.1.2; have := (nI_eq (by omega) (by omega)).mp this; omega, q.1.1⟩))]
  by_cases ek : E0 5 j = kd
  · rw [if_pos ek]
    by_cases e : x = hlN E0 h ∧ g = grN E0 j
    · obtain ⟨rfl, rfl⟩ := e
      rw [ups, hg.1, hl.1]
      unfold m_alk f_alk inH
      rw [tl_1 (fun z k => if (E0 5 k = kd ∧ E0 8 k = nI (grN E0 j)) ∧ (z ≠ -1 ∧ E0 2 z.toNatClampNeg = nI (hlN E0 h)) then 1 else 0) hT hj (if_neg (fun q => q.2.1 rfl)) (if_pos ⟨⟨ek, hg.1⟩, (hc _ rfl).mpr rfl⟩)]
    · rw [upn (by omega)]; exact hz (fun q => e ⟨q.1, q.2.1⟩)
  · rw [if_neg ek]; exact hz (fun q => ek q.2.2)
theorem tl_FS {E0 : St} {P P2 : Nat → Int32} {nh nj j h : Nat} {one : Int32} {b16 b17 b18 b19 b20 b21 c16 : Nat → Int32} (hS : cS E0 nh nj) (hF : FSr E0 P nh nj b16 b17 b18 b19 b20 b21) (hT : TL P P2 j h one) (hj : j < nj) (hh : h < nh) (hL : L16 E0 b16 c16 j h one 3) :
    FSr E0 P2 nh nj c16 (upd b17 ((h * 8) + (grN E0 j)) (m_gon E0 P nj (E0 8 j) h + one)) (upd b18 (((hlN E0 h) * 8) + (grN E0 j)) (m_gin E0 P nj (E0 8 j) (E0 2 h) + one))
      (if E0 5 j = 4 then upd b19 ((h * 8) + (otN E0 j)) (m_shy E0 P nj (E0 10 j) h + one) else b19) (if E0 5 j = 1 then upd b20 (((hlN E0 h) * 8) + (grN E0 j)) (m_alk E0 P nj 1 (E0 8 j) (E0 2 h) + one) else b20)
      (if E0 5 j = 2 then upd b21 (((hlN E0 h) * 8) + (grN E0 j)) (m_alk E0 P nj 2 (E0 8 j) (E0 2 h) + one) else b21) := by
  have h10 := hS.1
  have hg := hS.gr j hj; have ho := hS.ot j hj; have hl := hS.hl h hh
  have hm1 : ∀ y, y < nh → ¬ (-1 : Int32) = nI y := fun y hy => nI_nm1 (by omega)
  have hne : ∀ y, y < nh → y ≠ h → ¬ nI h = nI y := fun y hy q z => q ((nI_eq (by omega) (by omega)).mp z).symm
  have hnm : ¬ nI h = (-1 : Int32) := fun q => nI_nm1 (by omega) q.symm
  refine ⟨fun y hy => ⟨fun i hi => ?_, fun g hgg => ⟨?_, ?_⟩⟩, fun x hx g hgg => ⟨?_, ?_, ?_⟩⟩
  · by_cases e : y = h
    · subst e
      rw [hL.1 i hi, (hF.1 y hy).1 i hi]
      unfold m_left f_left
      rw [tl_sm (X := E0 6 (3 * j + i)) (fun z k => if z = nI y then E0 6 (3 * k + i) else 0) hT hj (if_neg (hm1 y hy)) (if_pos rfl)]
      generalize sm _ nj = a; generalize E0 6 _ = b; generalize E0 1 _ = d
      grind
    · rw [hL.2 _ (fun x hx => by omega), (hF.1 y hy).1 i hi]
      unfold m_left f_left
      rw [tl_0 (fun z k => if z = nI y then E0 6 (3 * k + i) else 0) hT hj (if_neg (hm1 y hy)) (if_neg (hne y hy e))]
  · unfold m_gon f_gon
    by_cases e : y = h ∧ g = grN E0 j
    · obtain ⟨rfl, rfl⟩ := e
      rw [ups, hg.1]
      rw [tl_1 (fun z k => if E0 8 k = nI (grN E0 j) ∧ z = nI y then 1 else 0) hT hj (if_neg (fun q => hm1 y hy q.2)) (if_pos ⟨hg.1, rfl⟩)]
    · rw [upn (by omega), ((hF.1 y hy).2 g hgg).1]
      unfold m_gon f_gon
      rw [tl_0 (fun z k => if E0 8 k = nI g ∧ z = nI y then 1 else 0) hT hj (if_neg (fun q => hm1 y hy q.2)) (if_neg (fun q => e ⟨by have := (nI_eq (by omega) (by omega)).mp q.2; omega, by have := hg.1.symm.trans q.1; have := (nI_eq (by omega) (by omega)).mp this; omega⟩))]
  · have hz : ∀ (q : ¬ (y = h ∧ g = otN E0 j ∧ E0 5 j = 4)), b19 (y * 8 + g) = m_shy E0 P2 nj (nI g) y := fun e => by
      rw [((hF.1 y hy).2 g hgg).2]
      unfold m_shy f_shy
      rw [tl_0 (fun z k => if z = nI y ∧ E0 5 k = 4 ∧ E0 10 k = nI g then 1 else 0) hT hj (if_neg (fun q => hm1 y hy q.1)) (if_neg (fun q => e ⟨by have := (nI_eq (by omega) (by omega)).mp q.1; omega, by have := ho.1.symm.trans q.2.2; have := (nI_eq (by omega) (by omega)).mp this; omega, q.2.1⟩))]
    by_cases e4 : E0 5 j = 4
    · rw [if_pos e4]
      by_cases e : y = h ∧ g = otN E0 j
      · obtain ⟨rfl, rfl⟩ := e
        rw [ups, ho.1]
        unfold m_shy f_shy
        rw [tl_1 (fun z k => if z = nI y ∧ E0 5 k = 4 ∧ E0 10 k = nI (otN E0 j) then 1 else 0) hT hj (if_neg (fun q => hm1 y hy q.1)) (if_pos ⟨rfl, e4, ho.1⟩)]
      · rw [upn (by omega)]; exact hz (fun q => e ⟨q.1, q.2.1⟩)
    · rw [if_neg e4]; exact hz (fun q => e4 q.2.2)
  · have hc : ∀ z : Int32, z = nI h → (z ≠ -1 ∧ E0 2 z.toNatClampNeg = nI x ↔ x = hlN E0 h) := fun z hz => by
      rw [hz, nI_clamp (by omega), hl.1]
      exact ⟨fun q => by have := (nI_eq (by omega) (by omega)).mp q.2; omega, fun q => ⟨hnm, by rw [q]⟩⟩
    unfold m_gin f_gin inH
    by_cases e : x = hlN E0 h ∧ g = grN E0 j
    · obtain ⟨rfl, rfl⟩ := e
      rw [ups, hg.1, hl.1]
      rw [tl_1 (fun z k => if E0 8 k = nI (grN E0 j) ∧ (z ≠ -1 ∧ E0 2 z.toNatClampNeg = nI (hlN E0 h)) then 1 else 0) hT hj (if_neg (fun q => q.2.1 rfl)) (if_pos ⟨hg.1, (hc _ rfl).mpr rfl⟩)]
    · rw [upn (by omega), (hF.2 x hx g hgg).1]
      unfold m_gin f_gin inH
      rw [tl_0 (fun z k => if E0 8 k = nI g ∧ (z ≠ -1 ∧ E0 2 z.toNatClampNeg = nI x) then 1 else 0) hT hj (if_neg (fun q => q.2.1 rfl)) (if_neg (fun q => e ⟨(hc _ rfl).mp q.2, by have := hg.1.symm.trans q.1; have := (nI_eq (by omega) (by omega)).mp this; omega⟩))]
  · exact tl_alk 1 hS hT hj hh hx hgg (hF.2 x hx g hgg).2.1
  · exact tl_alk 2 hS hT hj hh hx hgg (hF.2 x hx g hgg).2.2
theorem L16_s {E0 : St} {b c : Nat → Int32} {j h i : Nat} {one : Int32} (hL : L16 E0 b c j h one i) : L16 E0 b (upd c ((h * 3) + i) (c ((h * 3) + i) - one * E0 6 (3 * j + i))) j h one (i + 1) := by
  refine ⟨fun x hx => ?_, fun y hy => ?_⟩
  · by_cases e : x = i
    · subst e; rw [ups, hL.2 _ (fun x hx => by omega)]
    · rw [upn (by omega)]; exact hL.1 x (by omega)
  · rw [upn (hy i (by omega))]; exact hL.2 y (fun x hx => hy x (by omega))
