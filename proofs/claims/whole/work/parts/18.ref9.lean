/-! ===== SEARCHES: what both sides answer ===== -/
theorem ph : ∀ (m n : Nat) (f : Nat → Nat), (∀ i, i < n → f i < m) → (∀ i j, i < j → j < n → f i ≠ f j) → n ≤ m
  | _, 0, _, _, _ => Nat.zero_le _
  | 0, n + 1, f, h1, _ => absurd (h1 0 (Nat.succ_pos n)) (Nat.not_lt_zero _)
  | m + 1, n + 1, f, h1, h2 => by
    refine Nat.succ_le_succ (ph m n (fun i => if f i = m then f n else f i) (fun i hi => ?_) (fun i j hij hj => ?_))
    · have a := h1 i (by omega); have b := h1 n (by omega); have d := h2 i n hi (by omega)
      show (if f i = m then f n else f i) < m
      split <;> omega
    · have a := h2 i j hij (by omega); have b := h2 i n (by omega) (by omega); have d := h2 j n hj (by omega)
      show (if f i = m then f n else f i) ≠ (if f j = m then f n else f j)
      split <;> split <;> omega
def okC (nh fm : Nat) (p : Nat → Nat) : Prop := ∀ k, k < fm → p k = 10 ∨ p k < nh
/-- the few at p, one after another put somewhere -/
def Rch (E : St) (F : Nat → Nat) (fm : Nat) (P0 : Nat → Int32) (nh nj : Nat) (p : Nat → Nat) : Prop := ∀ X : (Nat → Nat) → Prop, X (fun _ => 10) → (∀ q k h, X q → k < fm → h < nh → q k = 10 → fitC E F fm P0 nh nj q k h → X (pu q k h)) → X p
def Saf (E : St) (F : Nat → Nat) (fm : Nat) (P0 : Nat → Int32) (nh nj : Nat) : Prop := ∃ p, Rch E F fm P0 nh nj p ∧ ∀ k, k < fm → p k ≠ 10
theorem pu_ok {nh fm k h : Nat} {p : Nat → Nat} (hp : okC nh fm p) (hh : h < nh) : okC nh fm (pu p k h) := fun i hi => by
  unfold pu; split
  · exact Or.inr hh
  · exact hp i hi
theorem Rch.ok {E : St} {F : Nat → Nat} {fm nh nj : Nat} {P0 : Nat → Int32} {p : Nat → Nat} (h : Rch E F fm P0 nh nj p) : okC nh fm p := h (okC nh fm) (fun _ _ => Or.inl rfl) (fun _ _ _ hq _ hh _ _ => pu_ok hq hh)
theorem Rch.z {E : St} {F : Nat → Nat} {fm nh nj : Nat} {P0 : Nat → Int32} : Rch E F fm P0 nh nj (fun _ => 10) := fun _ h _ => h
theorem Rch.n {E : St} {F : Nat → Nat} {fm nh nj k h : Nat} {P0 : Nat → Int32} {p : Nat → Nat} (r : Rch E F fm P0 nh nj p) (hk : k < fm) (hh : h < nh) (hp : p k = 10) (hf : fitC E F fm P0 nh nj p k h) : Rch E F fm P0 nh nj (pu p k h) := fun X h0 hX => hX p k h (r X h0 hX) hk hh hp hf
theorem pP_congr {F : Nat → Nat} {P0 : Nat → Int32} {p q : Nat → Nat} : ∀ {m : Nat}, (∀ k, k < m → p k = q k) → pP F P0 p m = pP F P0 q m
  | 0, _ => rfl
  | m + 1, h => by rw [pP, pP, pP_congr (fun k hk => h k (by omega)), h m (by omega)]
theorem pP_at {F : Nat → Nat} {P0 : Nat → Int32} {p : Nat → Nat} {k : Nat} : ∀ {m : Nat}, (∀ i j, i < m → j < m → F i = F j → i = j) → k < m → pP F P0 p m (F k) = plc (p k)
  | 0, _, hk => absurd hk (Nat.not_lt_zero _)
  | m + 1, hd, hk => by
    rw [pP]
    by_cases e : k = m
    · subst e; exact ups
    · rw [upn (fun q => e (hd k m hk (by omega) q))]
      exact pP_at (fun i j hi hj => hd i j (by omega) (by omega)) (by omega)
theorem pP_no {F : Nat → Nat} {P0 : Nat → Int32} {p : Nat → Nat} {j : Nat} : ∀ {m : Nat}, (∀ k, k < m → j ≠ F k) → pP F P0 p m j = P0 j
  | 0, _ => rfl
  | m + 1, h => by rw [pP, upn (h m (by omega)), pP_no (fun k hk => h k (by omega))]
/-- the few, none twice -/
def Fok (F : Nat → Nat) (fm nj : Nat) : Prop := (∀ k, k < fm → F k < nj) ∧ ∀ i j, i < fm → j < fm → F i = F j → i = j
/-- the row w is v0, but for where the few are -/
def atP (v0 : Nat → Int32) (F : Nat → Nat) (fm nh : Nat) (w : Nat → Int32) (p : Nat → Nat) : Prop :=
  (∀ i, (∀ k, k < fm → i ≠ 258 + F k ∧ i ≠ 282 + F k) → w i = v0 i) ∧ ∀ k, k < fm → (p k = 10 ∧ w (258 + F k) = 0) ∨ (p k < nh ∧ w (258 + F k) = 1 ∧ w (282 + F k) = nI (p k))
theorem atP.ok {v0 w : Nat → Int32} {F : Nat → Nat} {fm nh : Nat} {p : Nat → Nat} (h : atP v0 F fm nh w p) : okC nh fm p := fun k hk => (h.2 k hk).elim (fun q => Or.inl q.1) (fun q => Or.inr q.1)
theorem atP.zdg {v0 w : Nat → Int32} {F : Nat → Nat} {fm nh k : Nat} {p : Nat → Nat} (h : atP v0 F fm nh w p) (hn : nh ≤ 10) (hk : k < fm) : dg w F k = p k := by
  have e : dg w F k = if w (258 + F k) = 1 then (w (282 + F k)).toNatClampNeg else 10 := rfl
  rw [e]
  rcases h.2 k hk with ⟨h1, h2⟩ | ⟨h1, h2, h3⟩
  · rw [h2, if_neg (by decide), h1]
  · rw [h2, if_pos rfl, h3, nI_clamp (by omega)]
theorem atP.zenc {v0 w : Nat → Int32} {F : Nat → Nat} {fm nh b : Nat} {p : Nat → Nat} (h : atP v0 F fm nh w p) (hn : nh ≤ 10) : enc b (dg w F) fm = enc b p fm := enc_congr (fun _ hk => h.zdg hn hk)
theorem okC.lt {nh fm : Nat} {p : Nat → Nat} (h : okC nh fm p) (hn : nh ≤ 10) : ∀ k, k < fm → p k < 11 := fun k hk => by rcases h k hk with q | q <;> omega
theorem okC.zenc {nh fm : Nat} {p : Nat → Nat} (h : okC nh fm p) (hn : nh ≤ 10) (hm : fm ≤ 4) : enc 11 p fm < 14641 := Nat.lt_of_lt_of_le (enc_lt (by decide) (h.lt hn)) (Nat.le_trans (Nat.pow_le_pow_right (by decide) hm) (by decide))
theorem okC.inj {nh fm : Nat} {p q : Nat → Nat} (h : okC nh fm p) (h' : okC nh fm q) (hn : nh ≤ 10) (e : enc 11 p fm = enc 11 q fm) : ∀ k, k < fm → p k = q k := fun k hk => by
  rw [← enc_dig (b := 11) (by decide) (h.lt hn) hk, e, enc_dig (b := 11) (by decide) (h'.lt hn) hk]
theorem atP.out {v0 w : Nat → Int32} {F : Nat → Nat} {fm nh nj i : Nat} {p : Nat → Nat} (h : atP v0 F fm nh w p) (hF : Fok F fm nj) (hj : nj ≤ 24) (hi : i < 258 ∨ 306 ≤ i) : w i = v0 i := h.1 i (fun k hk => by have := hF.1 k hk; omega)
theorem atP.job {v0 w : Nat → Int32} {F : Nat → Nat} {fm nh nj j : Nat} {p : Nat → Nat} (h : atP v0 F fm nh w p) (hF : Fok F fm nj) (hj : nj ≤ 24) (hjj : j < nj) (hn : ∀ k, k < fm → j ≠ F k) : w (258 + j) = v0 (258 + j) ∧ w (282 + j) = v0 (282 + j) :=
  ⟨h.1 _ (fun k hk => by have := hF.1 k hk; have := hn k hk; omega), h.1 _ (fun k hk => by have := hF.1 k hk; have := hn k hk; omega)⟩
theorem atP.zmF {v0 w : Nat → Int32} {F : Nat → Nat} {fm nh nj : Nat} {p : Nat → Nat} (h : atP v0 F fm nh w p) (hF : Fok F fm nj) (hW : mF v0 nh nj) : mF w nh nj := by
  obtain ⟨h1, h2, h3, h4, h5⟩ := hW
  refine ⟨h1, h2, (h.out hF h2 (Or.inl (by omega))).trans h3, (h.out hF h2 (Or.inl (by omega))).trans h4, fun j hj hs => ?_⟩
  by_cases e : ∃ k, k < fm ∧ j = F k
  · obtain ⟨k, hk, rfl⟩ := e
    rcases h.2 k hk with ⟨k1, k2⟩ | ⟨k1, k2, k3⟩
    · rw [k2] at hs; exact absurd hs (by decide)
    · exact ⟨p k, k1, k3⟩
  · have := h.job hF h2 hj (fun k hk q => e ⟨k, hk, q⟩)
    rw [this.1] at hs; rw [this.2]; exact h5 j hj hs
theorem atP.zagE {v0 w : Nat → Int32} {F : Nat → Nat} {fm nh nj : Nat} {p : Nat → Nat} (h : atP v0 F fm nh w p) (hF : Fok F fm nj) (hn : nh ≤ 10) (hj : nj ≤ 24) : agE (eM w) (eM v0) nh nj := by
  have o := fun i (hi : i < 258 ∨ 306 ≤ i) => h.out hF hj hi
  refine ⟨fun x hx => ⟨fun i hi => o _ (by omega), o _ (by omega), o _ (by omega), o _ (by omega)⟩, fun x hx => ⟨fun i hi => o _ (by omega), o _ (by omega), o _ (by omega), o _ (by omega), o _ (by omega)⟩⟩
theorem pB_ok {v : Nat → Int32} {nh nj : Nat} {but : Int32} (hW : mF v nh nj) : okP (pB (eM v) but) nh nj := fun j hj => by
  unfold pB
  split
  · exact Or.inl rfl
  · split
    case isTrue q => exact Or.inr (hW.2.2.2.2 j hj q)
    case isFalse q => exact Or.inl rfl
theorem nI_ne {a b : Nat} (h : a ≠ b) (ha : a < 2 ^ 31) (hb : b < 2 ^ 31) : ¬ nI a = nI b := fun q => h ((nI_eq ha hb).mp q)
theorem atP.zpB {v0 w : Nat → Int32} {F : Nat → Nat} {fm nh nj k : Nat} {p : Nat → Nat} (h : atP v0 F fm nh w p) (hF : Fok F fm nj) (hn : nh ≤ 10) (hj : nj ≤ 24) (hk : k < fm) : ∀ j, j < nj → pB (eM w) (nI (F k)) j = upd (pP F (pB (eM v0) (-1)) p fm) (F k) (-1) j := fun j hjj => by
  have hFk := hF.1 k hk
  by_cases e : j = F k
  · subst e; rw [ups]; exact if_pos rfl
  · have e2 : pB (eM w) (nI (F k)) j = if w (258 + j) = 1 then w (282 + j) else -1 := if_neg (nI_ne e (by omega) (by omega))
    rw [upn e, e2]
    by_cases e3 : ∃ i, i < fm ∧ j = F i
    · obtain ⟨i, hi, rfl⟩ := e3
      rw [pP_at hF.2 hi]
      unfold plc
      rcases h.2 i hi with ⟨k1, k2⟩ | ⟨k1, k2, k3⟩
      · rw [k2, if_neg (by decide), if_pos k1]
      · rw [k2, if_pos rfl, k3, if_neg (by omega)]
    · have a := h.job hF hj hjj (fun i hi q => e3 ⟨i, hi, q⟩)
      rw [pP_no (fun i hi q => e3 ⟨i, hi, q⟩), a.1, a.2]
      refine (if_neg (fun q => nI_nm1 (by omega) q.symm)).symm
theorem atP.why {v0 w : Nat → Int32} {F : Nat → Nat} {fm nh nj k x : Nat} {p : Nat → Nat} (h : atP v0 F fm nh w p) (hF : Fok F fm nj) (hW : mF v0 nh nj) (hk : k < fm) (hx : x < nh) : m_why (eM w) (pB (eM w) (nI (F k))) nh nj (F k) x = m_why (eM v0) (upd (pP F (pB (eM v0) (-1)) p fm) (F k) (-1)) nh nj (F k) x :=
  m_why_congr (h.zagE hF hW.1 hW.2.1) (h.zpB hF hW.1 hW.2.1 hk) (pB_ok (h.zmF hF hW)) hW.1 (hF.1 k hk) hx
theorem atP.put {v0 w : Nat → Int32} {F : Nat → Nat} {fm nh nj k x : Nat} {p : Nat → Nat} (h : atP v0 F fm nh w p) (hF : Fok F fm nj) (hj : nj ≤ 24) (hk : k < fm) (hx : x < nh) : atP v0 F fm nh (upd (upd w (258 + F k) 1) (282 + F k) (nI x)) (pu p k x) := by
  have hFk := hF.1 k hk
  refine ⟨fun i hi => ?_, fun i hi => ?_⟩
  · rw [upn (hi k hk).2, upn (hi k hk).1]; exact h.1 i hi
  · have hFi := hF.1 i hi
    by_cases e : i = k
    · subst e
      refine Or.inr ?_
      rw [show pu p i x i = x from if_pos rfl]
      refine ⟨hx, ?_, ups⟩
      rw [upn (by omega)]; exact ups
    · have e2 : F i ≠ F k := fun q => e (hF.2 i k hi hk q)
      rw [show pu p k x i = p i from if_neg e, upn (by omega), upn (by omega), upn (by omega), upn (by omega)]
      exact h.2 i hi
theorem upd4 {w : Nat → Int32} {a b : Nat} {y : Int32} (h : a ≠ b) (h0 : w a = 0) : upd (upd (upd (upd w a 1) b y) a 0) b (w b) = w := funext fun i => by
  by_cases e : i = b
  · subst e; exact ups
  · rw [upn e]
    by_cases e2 : i = a
    · subst e2; rw [ups, h0]
    · rw [upn e2, upn e, upn e2]
theorem f_set_at {v0 w : Nat → Int32} {F : Nat → Nat} {fm nh nj : Nat} {p q : Nat → Nat} (h : atP v0 F fm nh w q) (hF : Fok F fm nj) (hn : nh ≤ 10) (hj : nj ≤ 24) (hp : okC nh fm p) : atP v0 F fm nh (f_set w F (enc 11 p fm) fm) p := by
  have key : ∀ n, n ≤ fm → (∀ i, (∀ k, k < fm → i ≠ 258 + F k ∧ i ≠ 282 + F k) → f_set w F (enc 11 p fm) n i = v0 i) ∧ ∀ k, k < n → (p k = 10 ∧ f_set w F (enc 11 p fm) n (258 + F k) = 0) ∨ (p k < nh ∧ f_set w F (enc 11 p fm) n (258 + F k) = 1 ∧ f_set w F (enc 11 p fm) n (282 + F k) = nI (p k)) := by
    intro n
    induction n with
    | zero => intro _; exact ⟨h.1, fun k hk => absurd hk (Nat.not_lt_zero _)⟩
    | succ n ih =>
      intro hn1
      obtain ⟨i1, i2⟩ := ih (by omega)
      have hd := enc_dig (b := 11) (by decide) (hp.lt hn) (show n < fm by omega)
      have hFn := hF.1 n (by omega)
      rw [f_set, hd]
      refine ⟨fun i hi => ?_, fun k hk => ?_⟩
      · rw [upn (hi n (by omega)).2, upn (hi n (by omega)).1]; exact i1 i hi
      · have hFk := hF.1 k (by omega)
        by_cases e : k = n
        · subst e
          rcases hp k (by omega) with q1 | q1
          · refine Or.inl ⟨q1, ?_⟩
            rw [upn (by omega), ups, if_neg (fun z => z q1)]
          · refine Or.inr ⟨q1, ?_, ?_⟩
            · rw [upn (by omega), ups, if_pos (by omega)]
            · rw [ups, if_neg (by omega)]
        · have e2 : F k ≠ F n := fun z => e (hF.2 k n (by omega) (by omega) z)
          rw [upn (by omega), upn (by omega), upn (by omega), upn (by omega)]
          exact i2 k (by omega)
  exact key fm (Nat.le_refl _)
theorem fitC_congr {E : St} {F : Nat → Nat} {fm nh nj k h : Nat} {P0 : Nat → Int32} {p q : Nat → Nat} (e : ∀ k, k < fm → p k = q k) : fitC E F fm P0 nh nj p k h ↔ fitC E F fm P0 nh nj q k h := by
  unfold fitC; rw [pP_congr e]
theorem pu_congr {b fm k h : Nat} {p q : Nat → Nat} (e : ∀ k, k < fm → p k = q k) : enc b (pu p k h) fm = enc b (pu q k h) fm := enc_congr (fun i hi => by unfold pu; rw [e i hi])
/-! the reference's search: what was seen, in order -/
def SI (R : (Nat → Nat) → Prop) (fm : Nat) (s6 s7 : Nat → Int32) (M : Nat) : Prop :=
  (∀ i, i < M → ∃ p, R p ∧ s7 i = nI (enc 11 p fm) ∧ enc 11 p fm < 14641 ∧ ¬ s6 (enc 11 p fm) = 0) ∧ (∀ x, x < 14641 → ¬ s6 x = 0 → ∃ i, i < M ∧ s7 i = nI x) ∧ ∀ i j, i < j → j < M → s7 i ≠ s7 j
theorem SI.lt {R : (Nat → Nat) → Prop} {fm : Nat} {s6 s7 : Nat → Int32} {M x : Nat} (h : SI R fm s6 s7 M) (hx : x < 14641) (h0 : s6 x = 0) : M < 14641 := by
  have : M + 1 ≤ 14641 := ph 14641 (M + 1) (fun i => if i < M then (s7 i).toNatClampNeg else x) (fun i hi => by
      show (if i < M then (s7 i).toNatClampNeg else x) < 14641
      split
      case isTrue q => obtain ⟨p, -, e, hl, -⟩ := h.1 i q; rw [e, nI_clamp (by omega)]; exact hl
      case isFalse q => exact hx) (fun i j hij hj => by
      show (if i < M then (s7 i).toNatClampNeg else x) ≠ (if j < M then (s7 j).toNatClampNeg else x)
      obtain ⟨p, -, e, hl, hs⟩ := h.1 i (by omega)
      rw [if_pos (by omega), e, nI_clamp (by omega)]
      split
      case isTrue q =>
        obtain ⟨p', -, e', hl', -⟩ := h.1 j q
        rw [e', nI_clamp (by omega)]
        intro z
        exact h.2.2 i j hij q (by rw [e, e', z])
      case isFalse q => intro z; rw [z] at hs; exact hs h0)
  omega
theorem SI.le {R : (Nat → Nat) → Prop} {fm : Nat} {s6 s7 : Nat → Int32} {M : Nat} (h : SI R fm s6 s7 M) : M ≤ 14641 :=
  ph 14641 M (fun i => (s7 i).toNatClampNeg) (fun i hi => by
      obtain ⟨p, -, e, hl, -⟩ := h.1 i hi
      show (s7 i).toNatClampNeg < 14641
      rw [e, nI_clamp (by omega)]; exact hl) (fun i j hij hj => by
      obtain ⟨p, -, e, hl, -⟩ := h.1 i (by omega)
      obtain ⟨p', -, e', hl', -⟩ := h.1 j hj
      show (s7 i).toNatClampNeg ≠ (s7 j).toNatClampNeg
      rw [e, e', nI_clamp (by omega), nI_clamp (by omega)]
      intro z
      exact h.2.2 i j hij hj (by rw [e, e', z]))
def mt6 (s6 : Nat → Int32) (x : Nat) : Nat → Int32 := if s6 x = 0 then upd s6 x 1 else s6
def mt7 (s6 s7 : Nat → Int32) (M x : Nat) : Nat → Int32 := if s6 x = 0 then upd s7 M (nI x) else s7
def mtM (s6 : Nat → Int32) (M x : Nat) : Nat := if s6 x = 0 then M + 1 else M
theorem mt6_mono {s6 : Nat → Int32} {x y : Nat} (h : ¬ s6 y = 0) : ¬ mt6 s6 x y = 0 := by
  unfold mt6
  by_cases e : s6 x = 0
  · rw [if_pos e]
    by_cases e2 : y = x
    · subst e2; exact absurd e h
    · rw [upn e2]; exact h
  · rw [if_neg e]; exact h
theorem mt6_x {s6 : Nat → Int32} {x : Nat} : ¬ mt6 s6 x x = 0 := by
  unfold mt6
  by_cases e : s6 x = 0
  · rw [if_pos e, ups]; decide
  · rw [if_neg e]; exact e
theorem mt7_lt {s6 s7 : Nat → Int32} {M x i : Nat} (h : i < M) : mt7 s6 s7 M x i = s7 i := by
  unfold mt7
  split
  · exact upn (by omega)
  · rfl
theorem mtM_le {s6 : Nat → Int32} {M x : Nat} : M ≤ mtM s6 M x := by unfold mtM; split <;> omega
theorem SI.meet {R : (Nat → Nat) → Prop} {fm : Nat} {s6 s7 : Nat → Int32} {M : Nat} {p : Nat → Nat} (h : SI R fm s6 s7 M) (hp : R p) (hx : enc 11 p fm < 14641) : SI R fm (mt6 s6 (enc 11 p fm)) (mt7 s6 s7 M (enc 11 p fm)) (mtM s6 M (enc 11 p fm)) := by
  by_cases e : s6 (enc 11 p fm) = 0
  · refine ⟨fun i hi => ?_, fun y hy hs => ?_, fun i j hij hj => ?_⟩
    · have hi : i < M + 1 := by unfold mtM at hi; rw [if_pos e] at hi; exact hi
      by_cases e2 : i = M
      · subst e2
        refine ⟨p, hp, ?_, hx, mt6_x⟩
        unfold mt7; rw [if_pos e, ups]
      · obtain ⟨q, q1, q2, q3, q4⟩ := h.1 i (by omega)
        exact ⟨q, q1, by rw [mt7_lt (by omega)]; exact q2, q3, mt6_mono q4⟩
    · unfold mt6 at hs; unfold mt7 mtM; rw [if_pos e] at hs; rw [if_pos e, if_pos e]
      by_cases e2 : y = enc 11 p fm
      · subst e2; exact ⟨M, by omega, ups⟩
      · rw [upn e2] at hs
        obtain ⟨i, i1, i2⟩ := h.2.1 y hy hs
        exact ⟨i, by omega, by rw [upn (by omega)]; exact i2⟩
    · have hj : j < M + 1 := by unfold mtM at hj; rw [if_pos e] at hj; exact hj
      rw [mt7_lt (show i < M by omega)]
      by_cases e2 : j = M
      · subst e2
        unfold mt7; rw [if_pos e, ups]
        obtain ⟨q, q1, q2, q3, q4⟩ := h.1 i hij
        rw [q2]
        intro z
        rw [(nI_eq (by omega) (by omega)).mp z] at q4
        exact q4 e
      · rw [mt7_lt (show j < M by omega)]; exact h.2.2 i j hij (by omega)
  · unfold mt6 mt7 mtM; rw [if_neg e, if_neg e, if_neg e]; exact h
/-- a state from which all ways were looked at; and it's not the end -/
def DN (E : St) (F : Nat → Nat) (fm : Nat) (P0 : Nat → Int32) (nh nj : Nat) (s6 s7 : Nat → Int32) (i : Nat) : Prop := ∀ p, okC nh fm p → s7 i = nI (enc 11 p fm) → (∃ k, k < fm ∧ p k = 10) ∧ ∀ k h, k < fm → h < nh → p k = 10 → fitC E F fm P0 nh nj p k h → ¬ s6 (enc 11 (pu p k h) fm) = 0
/-- a search that's at its state s -/
def BI (E : St) (F : Nat → Nat) (fm : Nat) (P0 : Nat → Int32) (nh nj : Nat) (s6 s7 : Nat → Int32) (M s : Nat) : Prop := SI (Rch E F fm P0 nh nj) fm s6 s7 M ∧ (∀ i, i < s → DN E F fm P0 nh nj s6 s7 i) ∧ ¬ s6 (enc 11 (fun _ => 10) fm) = 0 ∧ s ≤ M
theorem BI.meet {E : St} {F : Nat → Nat} {fm nh nj M s : Nat} {P0 : Nat → Int32} {s6 s7 : Nat → Int32} {p : Nat → Nat} (h : BI E F fm P0 nh nj s6 s7 M s) (hp : Rch E F fm P0 nh nj p) (hx : enc 11 p fm < 14641) : BI E F fm P0 nh nj (mt6 s6 (enc 11 p fm)) (mt7 s6 s7 M (enc 11 p fm)) (mtM s6 M (enc 11 p fm)) s := by
  obtain ⟨h1, h2, h3, h4⟩ := h
  refine ⟨h1.meet hp hx, fun i hi q hq e => ?_, mt6_mono h3, Nat.le_trans h4 mtM_le⟩
  rw [mt7_lt (by omega)] at e
  obtain ⟨a1, a2⟩ := h2 i hi q hq e
  exact ⟨a1, fun k x hk hx hpk hf => mt6_mono (a2 k x hk hx hpk hf)⟩
theorem BI.next {E : St} {F : Nat → Nat} {fm nh nj M s : Nat} {P0 : Nat → Int32} {s6 s7 : Nat → Int32} {p : Nat → Nat} (h : BI E F fm P0 nh nj s6 s7 M s) (hn : nh ≤ 10) (hm : fm ≤ 4) (hp : okC nh fm p) (hs : s < M) (e : s7 s = nI (enc 11 p fm)) (hz : ∃ k, k < fm ∧ p k = 10) (ha : ∀ k h, k < fm → h < nh → p k = 10 → fitC E F fm P0 nh nj p k h → ¬ s6 (enc 11 (pu p k h) fm) = 0) : BI E F fm P0 nh nj s6 s7 M (s + 1) := by
  obtain ⟨h1, h2, h3, h4⟩ := h
  refine ⟨h1, fun i hi q hq e2 => ?_, h3, hs⟩
  by_cases es : i = s
  · subst es
    have l1 := hp.zenc hn hm
    have l2 := hq.zenc hn hm
    have e3 := hp.inj hq hn ((nI_eq (by omega) (by omega)).mp (e.symm.trans e2))
    obtain ⟨k, k1, k2⟩ := hz
    refine ⟨⟨k, k1, by rw [← e3 k k1]; exact k2⟩, fun k x hk hx hpk hf => ?_⟩
    rw [← pu_congr e3]
    exact ha k x hk hx (by rw [e3 k hk]; exact hpk) ((fitC_congr e3).mpr hf)
  · exact h2 i (by omega) q hq e2
theorem BI.no {E : St} {F : Nat → Nat} {fm nh nj M s : Nat} {P0 : Nat → Int32} {s6 s7 : Nat → Int32} (h : BI E F fm P0 nh nj s6 s7 M s) (hn : nh ≤ 10) (hm : fm ≤ 4) (hs : M ≤ s) : ¬ Saf E F fm P0 nh nj := by
  obtain ⟨h1, h2, h3, h4⟩ := h
  rintro ⟨p, hp, hall⟩
  have key := hp (fun q => okC nh fm q ∧ ¬ s6 (enc 11 q fm) = 0) ⟨fun _ _ => Or.inl rfl, h3⟩ (fun q k x hq hk hx hqk hf => by
    obtain ⟨i, i1, i2⟩ := h1.2.1 _ (hq.1.zenc hn hm) hq.2
    exact ⟨pu_ok hq.1 hx, (h2 i (by omega) q hq.1 i2).2 k x hk hx hqk hf⟩)
  obtain ⟨i, i1, i2⟩ := h1.2.1 _ (key.1.zenc hn hm) key.2
  obtain ⟨k, k1, k2⟩ := (h2 i (by omega) p key.1 i2).1
  exact hall k k1 k2
