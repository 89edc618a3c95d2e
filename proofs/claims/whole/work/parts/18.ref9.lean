/-! ===== SEARCHES: what both sides answer ===== -/
theorem ph : ∀ (m n : Nat) (f : Nat → Nat), (∀ i, i < n → f i < m) → (∀ i j, i < j → j < n → f i ≠ f j) → n ≤ m
  | _, 0, _, _, _ => Nat.zero_le _
  | 0, n + 1, f, h1, _ => absurd (h1 0 (Nat.succ_pos n)) (Nat.not_lt_zero _)
  | m + 1, n + 1, f, h1, h2 => by
    refine Nat.succ_le_succ (ph m n (fun i => if f i = m then f n else f i) (fun i hi => ?_) (fun i j hij hj => ?_))
    · have a := h1 i (by omega); have b := h1 n (by omega); have d := h2 i n hi (by omega)
      show (if f i = m then f n else f i) < m
      split <;> omega
    · have a := h2 i j hij (by omega); have b := h2 i n (by omega) (by omega); have d := h2 j n hj (by omega)
      show (if f i = m then f n else f i) ≠ (if f j = m then f n else f j)
      split <;> split <;> omega
def okC (nh fm : Nat) (p : Nat → Nat) : Prop := ∀ k, k < fm → p k = 10 ∨ p k < nh
/-- the few at p, one after another put somewhere -/
def Rch (E : St) (F : Nat → Nat) (fm : Nat) (P0 : Nat → Int32) (nh nj : Nat) (p : Nat → Nat) : Prop := ∀ X : (Nat → Nat) → Prop, X (fun _ => 10) → (∀ q k h, X q → k < fm → h < nh → q k = 10 → fitC E F fm P0 nh nj q k h → X (pu q k h)) → X p
def Saf (E : St) (F : Nat → Nat) (fm : Nat) (P0 : Nat → Int32) (nh nj : Nat) : Prop := ∃ p, Rch E F fm P0 nh nj p ∧ ∀ k, k < fm → p k ≠ 10
theorem pu_ok {nh fm k h : Nat} {p : Nat → Nat} (hp : okC nh fm p) (hh : h < nh) : okC nh fm (pu p k h) := fun i hi => by
  unfold pu; split
  · exact Or.inr hh
  · exact hp i hi
theorem Rch.ok {E : St} {F : Nat → Nat} {fm nh nj : Nat} {P0 : Nat → Int32} {p : Nat → Nat} (h : Rch E F fm P0 nh nj p) : okC nh fm p := h (okC nh fm) (fun _ _ => Or.inl rfl) (fun _ _ _ hq _ hh _ _ => pu_ok hq hh)
theorem Rch.z {E : St} {F : Nat → Nat} {fm nh nj : Nat} {P0 : Nat → Int32} : Rch E F fm P0 nh nj (fun _ => 10) := fun _ h _ => h
theorem Rch.n {E : St} {F : Nat → Nat} {fm nh nj k h : Nat} {P0 : Nat → Int32} {p : Nat → Nat} (r : Rch E F fm P0 nh nj p) (hk : k < fm) (hh : h < nh) (hp : p k = 10) (hf : fitC E F fm P0 nh nj p k h) : Rch E F fm P0 nh nj (pu p k h) := fun X h0 hX => hX p k h (r X h0 hX) hk hh hp hf
theorem pP_congr {F : Nat → Nat} {P0 : Nat → Int32} {p q : Nat → Nat} : ∀ {m : Nat}, (∀ k, k < m → p k = q k) → pP F P0 p m = pP F P0 q m
  | 0, _ => rfl
  | m + 1, h => by rw [pP, pP, pP_congr (fun k hk => h k (by omega)), h m (by omega)]
theorem pP_at {F : Nat → Nat} {P0 : Nat → Int32} {p : Nat → Nat} {k : Nat} : ∀ {m : Nat}, (∀ i j, i < m → j < m → F i = F j → i = j) → k < m → pP F P0 p m (F k) = plc (p k)
  | 0, _, hk => absurd hk (Nat.not_lt_zero _)
  | m + 1, hd, hk => by
    rw [pP]
    by_cases e : k = m
    · subst e; exact ups
    · rw [upn (fun q => e (hd k m hk (by omega) q))]
      exact pP_at (fun i j hi hj => hd i j (by omega) (by omega)) (by omega)
theorem pP_no {F : Nat → Nat} {P0 : Nat → Int32} {p : Nat → Nat} {j : Nat} : ∀ {m : Nat}, (∀ k, k < m → j ≠ F k) → pP F P0 p m j = P0 j
  | 0, _ => rfl
  | m + 1, h => by rw [pP, upn (h m (by omega)), pP_no (fun k hk => h k (by omega))]
/-- the few, none twice -/
def Fok (F : Nat → Nat) (fm nj : Nat) : Prop := (∀ k, k < fm → F k < nj) ∧ ∀ i j, i < fm → j < fm → F i = F j → i = j
/-- the row w is v0, but for where the few are -/
def atP (v0 : Nat → Int32) (F : Nat → Nat) (fm nh : Nat) (w : Nat → Int32) (p : Nat → Nat) : Prop :=
  (∀ i, (∀ k, k < fm → i ≠ 258 + F k ∧ i ≠ 282 + F k) → w i = v0 i) ∧ ∀ k, k < fm → (p k = 10 ∧ w (258 + F k) = 0) ∨ (p k < nh ∧ w (258 + F k) = 1 ∧ w (282 + F k) = nI (p k))
theorem atP.ok {v0 w : Nat → Int32} {F : Nat → Nat} {fm nh : Nat} {p : Nat → Nat} (h : atP v0 F fm nh w p) : okC nh fm p := fun k hk => (h.2 k hk).elim (fun q => Or.inl q.1) (fun q => Or.inr q.1)
theorem atP.zdg {v0 w : Nat → Int32} {F : Nat → Nat} {fm nh k : Nat} {p : Nat → Nat} (h : atP v0 F fm nh w p) (hn : nh ≤ 10) (hk : k < fm) : dg w F k = p k := by
  have e : dg w F k = if w (258 + F k) = 1 then (w (282 + F k)).toNatClampNeg else 10 := rfl
  rw [e]
  rcases h.2 k hk with ⟨h1, h2⟩ | ⟨h1, h2, h3⟩
  · rw [h2, if_neg (by decide), h1]
  · rw [h2, if_pos rfl, h3, nI_clamp (by omega)]
theorem atP.zenc {v0 w : Nat → Int32} {F : Nat → Nat} {fm nh b : Nat} {p : Nat → Nat} (h : atP v0 F fm nh w p) (hn : nh ≤ 10) : enc b (dg w F) fm = enc b p fm := enc_congr (fun _ hk => h.zdg hn hk)
theorem okC.lt {nh fm : Nat} {p : Nat → Nat} (h : okC nh fm p) (hn : nh ≤ 10) : ∀ k, k < fm → p k < 11 := fun k hk => by rcases h k hk with q | q <;> omega
theorem okC.zenc {nh fm : Nat} {p : Nat → Nat} (h : okC nh fm p) (hn : nh ≤ 10) (hm : fm ≤ 4) : enc 11 p fm < 14641 := Nat.lt_of_lt_of_le (enc_lt (by decide) (h.lt hn)) (Nat.le_trans (Nat.pow_le_pow_right (by decide) hm) (by decide))
theorem okC.inj {nh fm : Nat} {p q : Nat → Nat} (h : okC nh fm p) (h' : okC nh fm q) (hn : nh ≤ 10) (e : enc 11 p fm = enc 11 q fm) : ∀ k, k < fm → p k = q k := fun k hk => by
  rw [← enc_dig (b := 11) (by decide) (h.lt hn) hk, e, enc_dig (b := 11) (by decide) (h'.lt hn) hk]
theorem atP.out {v0 w : Nat → Int32} {F : Nat → Nat} {fm nh nj i : Nat} {p : Nat → Nat} (h : atP v0 F fm nh w p) (hF : Fok F fm nj) (hj : nj ≤ 24) (hi : i < 258 ∨ 306 ≤ i) : w i = v0 i := h.1 i (fun k hk => by have := hF.1 k hk; omega)
theorem atP.job {v0 w : Nat → Int32} {F : Nat → Nat} {fm nh nj j : Nat} {p : Nat → Nat} (h : atP v0 F fm nh w p) (hF : Fok F fm nj) (hj : nj ≤ 24) (hjj : j < nj) (hn : ∀ k, k < fm → j ≠ F k) : w (258 + j) = v0 (258 + j) ∧ w (282 + j) = v0 (282 + j) :=
  ⟨h.1 _ (fun k hk => by have := hF.1 k hk; have := hn k hk; omega), h.1 _ (fun k hk => by have := hF.1 k hk; have := hn k hk; omega)⟩
theorem atP.zmF {v0 w : Nat → Int32} {F : Nat → Nat} {fm nh nj : Nat} {p : Nat → Nat} (h : atP v0 F fm nh w p) (hF : Fok F fm nj) (hW : mF v0 nh nj) : mF w nh nj := by
  obtain ⟨h1, h2, h3, h4, h5⟩ := hW
  refine ⟨h1, h2, (h.out hF h2 (Or.inl (by omega))).trans h3, (h.out hF h2 (Or.inl (by omega))).trans h4, fun j hj hs => ?_⟩
  by_cases e : ∃ k, k < fm ∧ j = F k
  · obtain ⟨k, hk, rfl⟩ := e
    rcases h.2 k hk with ⟨k1, k2⟩ | ⟨k1, k2, k3⟩
    · rw [k2] at hs; exact absurd hs (by decide)
    · exact ⟨p k, k1, k3⟩
  · have := h.job hF h2 hj (fun k hk q => e ⟨k, hk, q⟩)
    rw [this.1] at hs; rw [this.2]; exact h5 j hj hs
theorem atP.zagE {v0 w : Nat → Int32} {F : Nat → Nat} {fm nh nj : Nat} {p : Nat → Nat} (h : atP v0 F fm nh w p) (hF : Fok F fm nj) (hn : nh ≤ 10) (hj : nj ≤ 24) : agE (eM w) (eM v0) nh nj := by
  have o := fun i (hi : i < 258 ∨ 306 ≤ i) => h.out hF hj hi
  refine ⟨fun x hx => ⟨fun i hi => o _ (by omega), o _ (by omega), o _ (by omega), o _ (by omega)⟩, fun x hx => ⟨fun i hi => o _ (by omega), o _ (by omega), o _ (by omega), o _ (by omega), o _ (by omega)⟩⟩
theorem pB_ok {v : Nat → Int32} {nh nj : Nat} {but : Int32} (hW : mF v nh nj) : okP (pB (eM v) but) nh nj := fun j hj => by
  unfold pB
  split
  · exact Or.inl rfl
  · split
    case isTrue q => exact Or.inr (hW.2.2.2.2 j hj q)
    case isFalse q => exact Or.inl rfl
theorem nI_ne {a b : Nat} (h : a ≠ b) (ha : a < 2 ^ 31) (hb : b < 2 ^ 31) : ¬ nI a = nI b := fun q => h ((nI_eq ha hb).mp q)
theorem atP.zpB {v0 w : Nat → Int32} {F : Nat → Nat} {fm nh nj k : Nat} {p : Nat → Nat} (h : atP v0 F fm nh w p) (hF : Fok F fm nj) (hn : nh ≤ 10) (hj : nj ≤ 24) (hk : k < fm) : ∀ j, j < nj → pB (eM w) (nI (F k)) j = upd (pP F (pB (eM v0) (-1)) p fm) (F k) (-1) j := fun j hjj => by
  have hFk := hF.1 k hk
  by_cases e : j = F k
  · subst e; rw [ups]; exact if_pos rfl
  · have e2 : pB (eM w) (nI (F k)) j = if w (258 + j) = 1 then w (282 + j) else -1 := if_neg (nI_ne e (by omega) (by omega))
    rw [upn e, e2]
    by_cases e3 : ∃ i, i < fm ∧ j = F i
    · obtain ⟨i, hi, rfl⟩ := e3
      rw [pP_at hF.2 hi]
      unfold plc
      rcases h.2 i hi with ⟨k1, k2⟩ | ⟨k1, k2, k3⟩
      · rw [k2, if_neg (by decide), if_pos k1]
      · rw [k2, if_pos rfl, k3, if_neg (by omega)]
    · have a := h.job hF hj hjj (fun i hi q => e3 ⟨i, hi, q⟩)
      rw [pP_no (fun i hi q => e3 ⟨i, hi, q⟩), a.1, a.2]
      refine (if_neg (fun q => nI_nm1 (by omega) q.symm)).symm
theorem atP.why {v0 w : Nat → Int32} {F : Nat → Nat} {fm nh nj k x : Nat} {p : Nat → Nat} (h : atP v0 F fm nh w p) (hF : Fok F fm nj) (hW : mF v0 nh nj) (hk : k < fm) (hx : x < nh) : m_why (eM w) (pB (eM w) (nI (F k))) nh nj (F k) x = m_why (eM v0) (upd (pP F (pB (eM v0) (-1)) p fm) (F k) (-1)) nh nj (F k) x :=
  m_why_congr (h.zagE hF hW.1 hW.2.1) (h.zpB hF hW.1 hW.2.1 hk) (pB_ok (h.zmF hF hW)) hW.1 (hF.1 k hk) hx
theorem atP.put {v0 w : Nat → Int32} {F : Nat → Nat} {fm nh nj k x : Nat} {p : Nat → Nat} (h : atP v0 F fm nh w p) (hF : Fok F fm nj) (hj : nj ≤ 24) (hk : k < fm) (hx : x < nh) : atP v0 F fm nh (upd (upd w (258 + F k) 1) (282 + F k) (nI x)) (pu p k x) := by
  have hFk := hF.1 k hk
  refine ⟨fun i hi => ?_, fun i hi => ?_⟩
  · rw [upn (hi k hk).2, upn (hi k hk).1]; exact h.1 i hi
  · have hFi := hF.1 i hi
    by_cases e : i = k
    · subst e
      refine Or.inr ?_
      rw [show pu p i x i = x from if_pos rfl]
      refine ⟨hx, ?_, ups⟩
      rw [upn (by omega)]; exact ups
    · have e2 : F i ≠ F k := fun q => e (hF.2 i k hi hk q)
      rw [show pu p k x i = p i from if_neg e, upn (by omega), upn (by omega), upn (by omega), upn (by omega)]
      exact h.2 i hi
theorem upd4 {w : Nat → Int32} {a b : Nat} {y : Int32} (h : a ≠ b) (h0 : w a = 0) : upd (upd (upd (upd w a 1) b y) a 0) b (w b) = w := funext fun i => by
  by_cases e : i = b
  · subst e; exact ups
  · rw [upn e]
    by_cases e2 : i = a
    · subst e2; rw [ups, h0]
    · rw [upn e2, upn e, upn e2]
theorem f_set_at {v0 w : Nat → Int32} {F : Nat → Nat} {fm nh nj : Nat} {p q : Nat → Nat} (h : atP v0 F fm nh w q) (hF : Fok F fm nj) (hn : nh ≤ 10) (hj : nj ≤ 24) (hp : okC nh fm p) : atP v0 F fm nh (f_set w F (enc 11 p fm) fm) p := by
  have key : ∀ n, n ≤ fm → (∀ i, (∀ k, k < fm → i ≠ 258 + F k ∧ i ≠ 282 + F k) → f_set w F (enc 11 p fm) n i = v0 i) ∧ ∀ k, k < n → (p k = 10 ∧ f_set w F (enc 11 p fm) n (258 + F k) = 0) ∨ (p k < nh ∧ f_set w F (enc 11 p fm) n (258 + F k) = 1 ∧ f_set w F (enc 11 p fm) n (282 + F k) = nI (p k)) := by
    intro n
    induction n with
    | zero => intro _; exact ⟨h.1, fun k hk => absurd hk (Nat.not_lt_zero _)⟩
    | succ n ih =>
      intro hn1
      obtain ⟨i1, i2⟩ := ih (by omega)
      have hd := enc_dig (b := 11) (by decide) (hp.lt hn) (show n < fm by omega)
      have hFn := hF.1 n (by omega)
      rw [f_set, hd]
      refine ⟨fun i hi => ?_, fun k hk => ?_⟩
      · rw [upn (hi n (by omega)).2, upn (hi n (by omega)).1]; exact i1 i hi
      · have hFk := hF.1 k (by omega)
        by_cases e : k = n
        · subst e
          rcases hp k (by omega) with q1 | q1
          · refine Or.inl ⟨q1, ?_⟩
            rw [upn (by omega), ups, if_neg (fun z => z q1)]
          · refine Or.inr ⟨q1, ?_, ?_⟩
            · rw [upn (by omega), ups, if_pos (by omega)]
            · rw [ups, if_neg (by omega)]
        · have e2 : F k ≠ F n := fun z => e (hF.2 k n (by omega) (by omega) z)
          rw [upn (by omega), upn (by omega), upn (by omega), upn (by omega)]
          exact i2 k (by omega)
  exact key fm (Nat.le_refl _)
theorem fitC_congr {E : St} {F : Nat → Nat} {fm nh nj k h : Nat} {P0 : Nat → Int32} {p q : Nat → Nat} (e : ∀ k, k < fm → p k = q k) : fitC E F fm P0 nh nj p k h ↔ fitC E F fm P0 nh nj q k h := by
  unfold fitC; rw [pP_congr e]
theorem pu_congr {b fm k h : Nat} {p q : Nat → Nat} (e : ∀ k, k < fm → p k = q k) : enc b (pu p k h) fm = enc b (pu q k h) fm := enc_congr (fun i hi => by unfold pu; rw [e i hi])
/-! the reference's search: what was seen, in order -/
def SI (R : (Nat → Nat) → Prop) (fm : Nat) (s6 s7 : Nat → Int32) (M : Nat) : Prop :=
  (∀ i, i < M → ∃ p, R p ∧ s7 i = nI (enc 11 p fm) ∧ enc 11 p fm < 14641 ∧ ¬ s6 (enc 11 p fm) = 0) ∧ (∀ x, x < 14641 → ¬ s6 x = 0 → ∃ i, i < M ∧ s7 i = nI x) ∧ ∀ i j, i < j → j < M → s7 i ≠ s7 j
theorem SI.lt {R : (Nat → Nat) → Prop} {fm : Nat} {s6 s7 : Nat → Int32} {M x : Nat} (h : SI R fm s6 s7 M) (hx : x < 14641) (h0 : s6 x = 0) : M < 14641 := by
  have : M + 1 ≤ 14641 := ph 14641 (M + 1) (fun i => if i < M then (s7 i).toNatClampNeg else x) (fun i hi => by
      show (if i < M then (s7 i).toNatClampNeg else x) < 14641
      split
      case isTrue q => obtain ⟨p, -, e, hl, -⟩ := h.1 i q; rw [e, nI_clamp (by omega)]; exact hl
      case isFalse q => exact hx) (fun i j hij hj => by
      show (if i < M then (s7 i).toNatClampNeg else x) ≠ (if j < M then (s7 j).toNatClampNeg else x)
      obtain ⟨p, -, e, hl, hs⟩ := h.1 i (by omega)
      rw [if_pos (by omega), e, nI_clamp (by omega)]
      split
      case isTrue q =>
        obtain ⟨p', -, e', hl', -⟩ := h.1 j q
        rw [e', nI_clamp (by omega)]
        intro z
        exact h.2.2 i j hij q (by rw [e, e', z])
      case isFalse q => intro z; rw [z] at hs; exact hs h0)
  omega
theorem SI.le {R : (Nat → Nat) → Prop} {fm : Nat} {s6 s7 : Nat → Int32} {M : Nat} (h : SI R fm s6 s7 M) : M ≤ 14641 :=
  ph 14641 M (fun i => (s7 i).toNatClampNeg) (fun i hi => by
      obtain ⟨p, -, e, hl, -⟩ := h.1 i hi
      show (s7 i).toNatClampNeg < 14641
      rw [e, nI_clamp (by omega)]; exact hl) (fun i j hij hj => by
      obtain ⟨p, -, e, hl, -⟩ := h.1 i (by omega)
      obtain ⟨p', -, e', hl', -⟩ := h.1 j hj
      show (s7 i).toNatClampNeg ≠ (s7 j).toNatClampNeg
      rw [e, e', nI_clamp (by omega), nI_clamp (by omega)]
      intro z
      exact h.2.2 i j hij hj (by rw [e, e', z]))
def mt6 (s6 : Nat → Int32) (x : Nat) : Nat → Int32 := if s6 x = 0 then upd s6 x 1 else s6
def mt7 (s6 s7 : Nat → Int32) (M x : Nat) : Nat → Int32 := if s6 x = 0 then upd s7 M (nI x) else s7
def mtM (s6 : Nat → Int32) (M x : Nat) : Nat := if s6 x = 0 then M + 1 else M
theorem mt6_mono {s6 : Nat → Int32} {x y : Nat} (h : ¬ s6 y = 0) : ¬ mt6 s6 x y = 0 := by
  unfold mt6
  by_cases e : s6 x = 0
  · rw [if_pos e]
    by_cases e2 : y = x
    · subst e2; exact absurd e h
    · rw [upn e2]; exact h
  · rw [if_neg e]; exact h
theorem mt6_x {s6 : Nat → Int32} {x : Nat} : ¬ mt6 s6 x x = 0 := by
  unfold mt6
  by_cases e : s6 x = 0
  · rw [if_pos e, ups]; decide
  · rw [if_neg e]; exact e
theorem mt7_lt {s6 s7 : Nat → Int32} {M x i : Nat} (h : i < M) : mt7 s6 s7 M x i = s7 i := by
  unfold mt7
  split
  · exact upn (by omega)
  · rfl
theorem mtM_le {s6 : Nat → Int32} {M x : Nat} : M ≤ mtM s6 M x := by unfold mtM; split <;> omega
theorem SI.meet {R : (Nat → Nat) → Prop} {fm : Nat} {s6 s7 : Nat → Int32} {M : Nat} {p : Nat → Nat} (h : SI R fm s6 s7 M) (hp : R p) (hx : enc 11 p fm < 14641) : SI R fm (mt6 s6 (enc 11 p fm)) (mt7 s6 s7 M (enc 11 p fm)) (mtM s6 M (enc 11 p fm)) := by
  by_cases e : s6 (enc 11 p fm) = 0
  · refine ⟨fun i hi => ?_, fun y hy hs => ?_, fun i j hij hj => ?_⟩
    · have hi : i < M + 1 := by unfold mtM at hi; rw [if_pos e] at hi; exact hi
      by_cases e2 : i = M
      · subst e2
        refine ⟨p, hp, ?_, hx, mt6_x⟩
        unfold mt7; rw [if_pos e, ups]
      · obtain ⟨q, q1, q2, q3, q4⟩ := h.1 i (by omega)
        exact ⟨q, q1, by rw [mt7_lt (by omega)]; exact q2, q3, mt6_mono q4⟩
    · unfold mt6 at hs; unfold mt7 mtM; rw [if_pos e] at hs; rw [if_pos e, if_pos e]
      by_cases e2 : y = enc 11 p fm
      · subst e2; exact ⟨M, by omega, ups⟩
      · rw [upn e2] at hs
        obtain ⟨i, i1, i2⟩ := h.2.1 y hy hs
        exact ⟨i, by omega, by rw [upn (by omega)]; exact i2⟩
    · have hj : j < M + 1 := by unfold mtM at hj; rw [if_pos e] at hj; exact hj
      rw [mt7_lt (show i < M by omega)]
      by_cases e2 : j = M
      · subst e2
        unfold mt7; rw [if_pos e, ups]
        obtain ⟨q, q1, q2, q3, q4⟩ := h.1 i hij
        rw [q2]
        intro z
        rw [(nI_eq (by omega) (by omega)).mp z] at q4
        exact q4 e
      · rw [mt7_lt (show j < M by omega)]; exact h.2.2 i j hij (by omega)
  · unfold mt6 mt7 mtM; rw [if_neg e, if_neg e, if_neg e]; exact h
theorem sr_id {σ : St} {k : Nat} : sr σ k (σ k) = σ := funext fun j => by
  unfold sr
  by_cases e : j = k
  · rw [if_pos e, e]
  · rw [if_neg e]
/-- a state from which all ways were looked at; and it's not the end -/
def DN (E : St) (F : Nat → Nat) (fm : Nat) (P0 : Nat → Int32) (nh nj : Nat) (s6 s7 : Nat → Int32) (i : Nat) : Prop := ∀ p, okC nh fm p → s7 i = nI (enc 11 p fm) → (∃ k, k < fm ∧ p k = 10) ∧ ∀ k h, k < fm → h < nh → p k = 10 → fitC E F fm P0 nh nj p k h → ¬ s6 (enc 11 (pu p k h) fm) = 0
/-- a search that's at its state s -/
def BI (E : St) (F : Nat → Nat) (fm : Nat) (P0 : Nat → Int32) (nh nj : Nat) (s6 s7 : Nat → Int32) (M s : Nat) : Prop := SI (Rch E F fm P0 nh nj) fm s6 s7 M ∧ (∀ i, i < s → DN E F fm P0 nh nj s6 s7 i) ∧ ¬ s6 (enc 11 (fun _ => 10) fm) = 0 ∧ s ≤ M
theorem BI.meet {E : St} {F : Nat → Nat} {fm nh nj M s : Nat} {P0 : Nat → Int32} {s6 s7 : Nat → Int32} {p : Nat → Nat} (h : BI E F fm P0 nh nj s6 s7 M s) (hp : Rch E F fm P0 nh nj p) (hx : enc 11 p fm < 14641) : BI E F fm P0 nh nj (mt6 s6 (enc 11 p fm)) (mt7 s6 s7 M (enc 11 p fm)) (mtM s6 M (enc 11 p fm)) s := by
  obtain ⟨h1, h2, h3, h4⟩ := h
  refine ⟨h1.meet hp hx, fun i hi q hq e => ?_, mt6_mono h3, Nat.le_trans h4 mtM_le⟩
  rw [mt7_lt (by omega)] at e
  obtain ⟨a1, a2⟩ := h2 i hi q hq e
  exact ⟨a1, fun k x hk hx hpk hf => mt6_mono (a2 k x hk hx hpk hf)⟩
theorem BI.next {E : St} {F : Nat → Nat} {fm nh nj M s : Nat} {P0 : Nat → Int32} {s6 s7 : Nat → Int32} {p : Nat → Nat} (h : BI E F fm P0 nh nj s6 s7 M s) (hn : nh ≤ 10) (hm : fm ≤ 4) (hp : okC nh fm p) (hs : s < M) (e : s7 s = nI (enc 11 p fm)) (hz : ∃ k, k < fm ∧ p k = 10) (ha : ∀ k h, k < fm → h < nh → p k = 10 → fitC E F fm P0 nh nj p k h → ¬ s6 (enc 11 (pu p k h) fm) = 0) : BI E F fm P0 nh nj s6 s7 M (s + 1) := by
  obtain ⟨h1, h2, h3, h4⟩ := h
  refine ⟨h1, fun i hi q hq e2 => ?_, h3, hs⟩
  by_cases es : i = s
  · subst es
    have l1 := hp.zenc hn hm
    have l2 := hq.zenc hn hm
    have e3 := hp.inj hq hn ((nI_eq (by omega) (by omega)).mp (e.symm.trans e2))
    obtain ⟨k, k1, k2⟩ := hz
    refine ⟨⟨k, k1, by rw [← e3 k k1]; exact k2⟩, fun k x hk hx hpk hf => ?_⟩
    rw [← pu_congr e3]
    exact ha k x hk hx (by rw [e3 k hk]; exact hpk) ((fitC_congr e3).mpr hf)
  · exact h2 i (by omega) q hq e2
theorem BI.no {E : St} {F : Nat → Nat} {fm nh nj M s : Nat} {P0 : Nat → Int32} {s6 s7 : Nat → Int32} (h : BI E F fm P0 nh nj s6 s7 M s) (hn : nh ≤ 10) (hm : fm ≤ 4) (hs : M ≤ s) : ¬ Saf E F fm P0 nh nj := by
  obtain ⟨h1, h2, h3, h4⟩ := h
  rintro ⟨p, hp, hall⟩
  have key := hp (fun q => okC nh fm q ∧ ¬ s6 (enc 11 q fm) = 0) ⟨fun _ _ => Or.inl rfl, h3⟩ (fun q k x hq hk hx hqk hf => by
    obtain ⟨i, i1, i2⟩ := h1.2.1 _ (hq.1.zenc hn hm) hq.2
    exact ⟨pu_ok hq.1 hx, (h2 i (by omega) q hq.1 i2).2 k x hk hx hqk hf⟩)
  obtain ⟨i, i1, i2⟩ := h1.2.1 _ (key.1.zenc hn hm) key.2
  obtain ⟨k, k1, k2⟩ := (h2 i (by omega) p key.1 i2).1
  exact hall k k1 k2
set_option maxHeartbeats 4000000 in
set_option maxRecDepth 100000 in
theorem tX11_canAll (l : Launch) (E : EV) (a : Nat → Nat) (τ : St) (nh : Nat) (nj : Nat) (fm : Nat) (F : Nat → Nat) (hW : mF (τ 1) nh nj) (hm : τ 0 4 = nI fm) (hm4 : fm ≤ 4) (hF : ∀ k, k < fm → τ 5 k = nI (F k) ∧ F k < nj) (hFk : Fok F fm nj) (h0 : ∀ k, k < fm → τ 1 (258 + F k) = 0) : MI l E (MW E a) yX11_canAll (Cond.code yX11_canAll cX11_canAll 6 (some .boolean)) ({ frames := 4, cells := 0, slots := 0, locals := 94 }) [.ref (a 70)] τ (fun r_ u_ => ((r_ = 1 ∧ Saf (eM (τ 1)) F fm (pB (eM (τ 1)) (-1)) nh nj) ∨ (r_ = 0 ∧ ¬ Saf (eM (τ 1)) F fm (pB (eM (τ 1)) (-1)) nh nj)) ∧ ∃ (w s6 s7 s8 s9 : Nat → Int32) (M : Nat) (q0 : Nat → Nat), atP (τ 1) F fm nh w q0 ∧ u_ = sr (sr (sr (sr (sr (sr τ 1 w) 6 s6) 7 s7) 8 s8) 9 s9) 0 (upd (τ 0) 5 (nI M))) := by
  refine MI.mk (by decide +kernel) (Nat.le_of_ble_eq_true rfl) ?_
  intro p e s m args below meth c ls A Q hret hC hw hl
  have hC : Cxt E p s m args meth c cX11_canAll 6 (some .boolean) RX11 A := hC
  have hl : lv_has ls 6 [(0, .ref (a 70))] := hl
  have ⟨hnh, hnj, hW0, hW1, hWh⟩ := id hW
  have hat0 : atP (τ 1) F fm nh (τ 1) (fun _ => 10) := ⟨fun _ _ => rfl, fun k hk => Or.inl ⟨rfl, h0 k hk⟩⟩
  have hok0 : okC nh fm (fun _ => 10) := fun _ _ => Or.inl rfl
  have hcl0 := hok0.zenc hnh hm4
  refine lv_aload_n hC.1 hC.2.1 dX11_canAll_0 rfl (lv_at hl 0 rfl) ?_
  refine q_callVvp (As := []) (rest := []) (q0 := 0) hC hw hl (tX11_forget l E a τ ) (q_cwV hC.2.2.2.2.1 ⟨rfl, rfl⟩ wk5_84 wk5_86 wks_3_12 wk1_12 wk5_87 hd_X11_forget ⟨Nat.le_of_ble_eq_true rfl, Nat.le_of_ble_eq_true rfl⟩) rfl rfl rfl rfl rfl (Nat.le_of_ble_eq_true rfl) dX11_canAll_1 (fun H locs hw => ?_)
  have hw : Wst E (MW E a) (sr τ 6 (zer 14641 (τ 6))) A s.heap H locs := hw
  refine lv_aload_n hC.1 hC.2.1 dX11_canAll_4 rfl (lv_at hl 0 rfl) ?_
  refine lv_iconst (v := nI 0) hC.1 hC.2.1 dX11_canAll_5 (by decide) ?_
  refine pf_X11_141 hC hw dX11_canAll_6 (fun H locs hw => ?_)
  have hw : Wst E (MW E a) (sr (sr τ 6 (zer 14641 (τ 6))) 0 (upd (τ 0) 5 (nI 0))) A s.heap H locs := hw
  refine lv_aload_n hC.1 hC.2.1 dX11_canAll_9 rfl (lv_at hl 0 rfl) ?_
  refine lv_aload_n hC.1 hC.2.1 dX11_canAll_10 rfl (lv_at hl 0 rfl) ?_
  refine q_callVp (As := []) (rest := [.ref (a 70)]) (q0 := 0) hC hw hl (tX11_codeOf l E a (sr (sr τ 6 (zer 14641 (τ 6))) 0 (upd (τ 0) 5 (nI 0))) nh nj fm F hW hm hm4 hF) (q_cwV hC.2.2.2.2.1 ⟨rfl, rfl⟩ wk5_88 wk5_90 wks_3_13 wk1_12 wk5_91 hd_X11_codeOf ⟨Nat.le_of_ble_eq_true rfl, Nat.le_of_ble_eq_true rfl⟩) rfl rfl rfl rfl rfl (Nat.le_of_ble_eq_true rfl) dX11_canAll_11 (fun H locs hw => ?_)
  refine q_top (y := nI (enc 11 (fun _ => 10) fm)) (congrArg nI (hat0.zenc hnh)) ?_
  refine lv_iconst (v := (-1)) hC.1 hC.2.1 dX11_canAll_14 (by decide) ?_
  refine lv_iconst (v := nI 0) hC.1 hC.2.1 dX11_canAll_15 (by decide) ?_
  refine q_callVvp (As := [.int (nI (enc 11 (fun _ => 10) fm)), .int ((-1)), .int (nI 0)]) (rest := []) (q0 := 0) hC hw hl (tX11_meet l E a (sr (sr τ 6 (zer 14641 (τ 6))) 0 (upd (τ 0) 5 (nI 0))) 0 (enc 11 (fun _ => 10) fm) (-1) 0 rfl hcl0 (fun _ => by decide)) (q_cwV hC.2.2.2.2.1 ⟨rfl, rfl⟩ wk5_92 wk5_94 wks_3_14 wk1_12 wk5_95 hd_X11_meet ⟨Nat.le_of_ble_eq_true rfl, Nat.le_of_ble_eq_true rfl⟩) rfl rfl rfl rfl rfl (Nat.le_of_ble_eq_true rfl) dX11_canAll_16 (fun H locs hw => ?_)
  have hw : Wst E (MW E a) (sr (sr (sr (sr (sr τ 6 ((if (zer 14641 (τ 6)) (enc 11 (fun _ => 10) fm) = 0 then upd (zer 14641 (τ 6)) (enc 11 (fun _ => 10) fm) 1 else (zer 14641 (τ 6))))) 7 ((if (zer 14641 (τ 6)) (enc 11 (fun _ => 10) fm) = 0 then upd (τ 7) 0 (nI (enc 11 (fun _ => 10) fm)) else (τ 7)))) 8 ((if (zer 14641 (τ 6)) (enc 11 (fun _ => 10) fm) = 0 then upd (τ 8) 0 (-1) else (τ 8)))) 9 ((if (zer 14641 (τ 6)) (enc 11 (fun _ => 10) fm) = 0 then upd (τ 9) 0 0 else (τ 9)))) 0 (upd (τ 0) 5 ((if (zer 14641 (τ 6)) (enc 11 (fun _ => 10) fm) = 0 then nI (0 + 1) else (nI 0))))) A s.heap H locs := hw
  refine lv_iconst (v := nI 0) hC.1 hC.2.1 dX11_canAll_19 (by decide) ?_
  refine lv_istore_n (lv' := [(1, .int (nI 0)), (0, .ref (a 70))]) hC.1 hC.2.1 dX11_canAll_20 rfl hl (by decide) rfl (fun ls hl => ?_)
  have L21_9 : ∀ (n : Nat), ∀ (s0 : Nat), ∀ (w : Nat → Int32), ∀ (s6 : Nat → Int32), ∀ (s7 : Nat → Int32), ∀ (s8 : Nat → Int32), ∀ (s9 : Nat → Int32), ∀ (M : Nat), ∀ (q0 : Nat → Nat), (atP (τ 1) F fm nh w q0) → (BI (eM (τ 1)) F fm (pB (eM (τ 1)) (-1)) nh nj s6 s7 M s0) → (14641 - s0) < n → ∀ (H : Heap) (locs : List Loc) (ls : Array Slot), Wst E (MW E a) (sr (sr (sr (sr (sr (sr τ 1 (w)) 6 (s6)) 7 (s7)) 8 (s8)) 9 (s9)) 0 (upd (τ 0) 5 (nI (M)))) A s.heap H locs → lv_has ls 6 [(0, .ref (a 70)), (1, .int (nI s0))] → W p l e ({ frames := 4, cells := 0, slots := 0, locals := 94 }) s m args below meth c H locs 0 0 Q (F0 m 21 ls []) := by
    intro n
    induction n with
    | zero => intro s0 w s6 s7 s8 s9 M q0 hat hB hn; exact absurd hn (Nat.not_lt_zero _)
    | succ n ih21 =>
      intro s0 w s6 s7 s8 s9 M q0 hat hB hn21 H locs ls hw hl
      have hWw := hat.zmF hFk hW
      have hM14 := hB.1.le
      have hsle := hB.2.2.2
      refine lv_iload_n hC.1 hC.2.1 dX11_canAll_21 rfl (lv_at hl 1 rfl) ?_
      refine lv_aload_n hC.1 hC.2.1 dX11_canAll_22 rfl (lv_at hl 0 rfl) ?_
      refine gf_X11_141 (v := nI M) hC hw rfl dX11_canAll_23 ?_
      refine q_cmpge hC 221 (cNle (by omega) (by omega)) dX11_canAll_26 (by decide) (fun (c11 : M ≤ s0) => ?_) (fun (c11 : s0 < M) => ?_)
      · refine lv_iconst (v := nI 0) hC.1 hC.2.1 dX11_canAll_221 (by decide) ?_
        refine hret _ _ _ _ _ _ hw ?_ (by decide) dX11_canAll_222
        exact ⟨Or.inr ⟨rfl, hB.no hnh hm4 c11⟩, w, s6, s7, s8, s9, M, q0, hat, rfl⟩
      · obtain ⟨p1, hp1, hps, hcl1, -⟩ := hB.1.1 s0 (by omega)
        have hok1 := hp1.ok
        have hat1 := f_set_at hat hFk hnh hnj hok1
        have hsM : s0 < M := by omega
        refine lv_aload_n hC.1 hC.2.1 dX11_canAll_29 rfl (lv_at hl 0 rfl) ?_
        refine lv_aload_n hC.1 hC.2.1 dX11_canAll_30 rfl (lv_at hl 0 rfl) ?_
        refine gf_X11_29 hC hw dX11_canAll_31 ?_
        refine lv_iload_n hC.1 hC.2.1 dX11_canAll_34 rfl (lv_at hl 1 rfl) ?_
        refine al_M7 (v := nI (enc 11 p1 fm)) hC hw (by omega) hps dX11_canAll_35 ?_
        refine q_callVvp (As := [.int (nI (enc 11 p1 fm))]) (rest := []) (q0 := 0) hC hw hl (tX11_setFew l E a (sr (sr (sr (sr (sr (sr τ 1 (w)) 6 (s6)) 7 (s7)) 8 (s8)) 9 (s9)) 0 (upd (τ 0) 5 (nI (M)))) nh nj fm F (enc 11 p1 fm) hWw hm hm4 hF hcl1) (q_cwV hC.2.2.2.2.1 ⟨rfl, rfl⟩ wk5_96 wk5_98 wks_3_15 wk1_12 wk5_99 hd_X11_setFew ⟨Nat.le_of_ble_eq_true rfl, Nat.le_of_ble_eq_true rfl⟩) rfl rfl rfl rfl rfl (Nat.le_of_ble_eq_true rfl) dX11_canAll_36 (fun H locs hw => ?_)
        have hw : Wst E (MW E a) (sr (sr (sr (sr (sr (sr τ 1 (f_set w F (enc 11 p1 fm) fm)) 6 (s6)) 7 (s7)) 8 (s8)) 9 (s9)) 0 (upd (τ 0) 5 (nI (M)))) A s.heap H locs := hw
        refine lv_iconst (v := nI 1) hC.1 hC.2.1 dX11_canAll_39 (by decide) ?_
        refine lv_istore_n (lv' := [(2, .int (nI 1)), (0, .ref (a 70)), (1, .int (nI s0))]) hC.1 hC.2.1 dX11_canAll_40 rfl hl (by decide) rfl (fun ls hl => ?_)
        refine lv_iconst (v := nI 0) hC.1 hC.2.1 dX11_canAll_41 (by decide) ?_
        refine lv_istore_n (lv' := [(3, .int (nI 0)), (2, .int (nI 1)), (0, .ref (a 70)), (1, .int (nI s0))]) hC.1 hC.2.1 dX11_canAll_42 rfl hl (by decide) rfl (fun ls hl => ?_)
        have L43_14 : ∀ (n : Nat), ∀ (k : Nat), ∀ (al : Int32), ∀ (w : Nat → Int32), ∀ (s6 : Nat → Int32), ∀ (s7 : Nat → Int32), ∀ (s8 : Nat → Int32), ∀ (s9 : Nat → Int32), ∀ (M : Nat), (k ≤ fm) → (atP (τ 1) F fm nh w p1) → (BI (eM (τ 1)) F fm (pB (eM (τ 1)) (-1)) nh nj s6 s7 M s0) → (∀ i, i < k → ∀ x, x < nh → p1 i = 10 → fitC (eM (τ 1)) F fm (pB (eM (τ 1)) (-1)) nh nj p1 i x → ¬ s6 (enc 11 (pu p1 i x) fm) = 0) → ((al = 1 ∧ ∀ i, i < k → p1 i ≠ 10) ∨ (al = 0 ∧ ∃ i, i < fm ∧ p1 i = 10)) → (s7 s0 = nI (enc 11 p1 fm)) → (s0 < M) → (fm - k) < n → ∀ (H : Heap) (locs : List Loc) (ls : Array Slot), Wst E (MW E a) (sr (sr (sr (sr (sr (sr τ 1 (w)) 6 (s6)) 7 (s7)) 8 (s8)) 9 (s9)) 0 (upd (τ 0) 5 (nI (M)))) A s.heap H locs → lv_has ls 6 [(0, .ref (a 70)), (1, .int (nI s0)), (2, .int (al)), (3, .int (nI k))] → W p l e ({ frames := 4, cells := 0, slots := 0, locals := 94 }) s m args below meth c H locs 0 0 Q (F0 m 43 ls []) := by
          intro n
          induction n with
          | zero => intro k al w s6 s7 s8 s9 M hk hat hB hcur hal hps hsM hn; exact absurd hn (Nat.not_lt_zero _)
          | succ n ih43 =>
            intro k al w s6 s7 s8 s9 M hk hat hB hcur hal hps hsM hn43 H locs ls hw hl
            have hWw := hat.zmF hFk hW
            have hM14 := hB.1.le
            refine lv_iload_n hC.1 hC.2.1 dX11_canAll_43 rfl (lv_at hl 3 rfl) ?_
            refine lv_aload_n hC.1 hC.2.1 dX11_canAll_44 rfl (lv_at hl 0 rfl) ?_
            refine gf_X11_138 (v := nI fm) hC hw hm dX11_canAll_45 ?_
            refine q_cmpge hC 209 (cNle (by omega) (by omega)) dX11_canAll_48 (by decide) (fun (c16 : fm ≤ k) => ?_) (fun (c16 : k < fm) => ?_)
            · refine lv_iload_n hC.1 hC.2.1 dX11_canAll_209 rfl (lv_at hl 2 rfl) ?_
              refine q_ifeq hC 215 cI dX11_canAll_210 (by decide) (fun (c17 : al = 0) => ?_) (fun (c17 : ¬ (al = 0)) => ?_)
              · refine lv_iinc (v := nI (s0 + 1)) (lv' := [(1, .int (nI (s0 + 1))), (0, .ref (a 70)), (2, .int (al)), (3, .int (nI k))]) hC.1 hC.2.1 dX11_canAll_215 hl (k := 1) rfl (nI_add _ _) (by decide) rfl (fun ls hl => ?_)
                refine lv_goto (tgt := 21) hC.1 hC.2.1 dX11_canAll_218 (by decide) ?_
                have hz : ∃ i, i < fm ∧ p1 i = 10 := by
                  rcases hal with z | z
                  · rw [z.1] at c17; exact absurd c17 (by decide)
                  · exact z.2
                have hBn := hB.next hnh hm4 hok1 hsM hps hz (fun i x hi hx hp hf => hcur i (by omega) x hx hp hf)
                exact ih21 (s0 + 1) w s6 s7 s8 s9 (M) p1 hat hBn (by omega) _ _ _ hw (lv_sub hl [1, 0] rfl)
              · refine lv_iconst (v := nI 1) hC.1 hC.2.1 dX11_canAll_213 (by decide) ?_
                refine hret _ _ _ _ _ _ hw ?_ (by decide) dX11_canAll_214
                have hall : ∀ i, i < fm → p1 i ≠ 10 := fun i hi => by
                  rcases hal with z | z
                  · exact z.2 i (by omega)
                  · exact absurd z.1 c17
                exact ⟨Or.inl ⟨rfl, p1, hp1, hall⟩, w, s6, s7, s8, s9, M, p1, hat, rfl⟩
            · refine lv_aload_n hC.1 hC.2.1 dX11_canAll_51 rfl (lv_at hl 0 rfl) ?_
              refine gf_X11_7 hC hw dX11_canAll_52 ?_
              refine lv_sipush (v := nI 258) hC.1 hC.2.1 dX11_canAll_55 (by decide) ?_
              refine lv_aload_n hC.1 hC.2.1 dX11_canAll_58 rfl (lv_at hl 0 rfl) ?_
              refine gf_X11_22 hC hw dX11_canAll_59 ?_
              refine lv_iload_n hC.1 hC.2.1 dX11_canAll_62 rfl (lv_at hl 3 rfl) ?_
              have hFx := (hF k (by omega)).2
              refine al_M5 (v := nI (F k)) hC hw (by omega) (hF k (by omega)).1 dX11_canAll_63 ?_
              refine q_addN hC dX11_canAll_64 ?_
              refine al_M1 (v := eM w 11 (F k)) hC hw (by omega) (show _ = eM w 11 (F k) from congrArg w (by omega)) dX11_canAll_65 ?_
              refine lv_iconst (v := nI 1) hC.1 hC.2.1 dX11_canAll_66 (by decide) ?_
              refine q_cmpne hC 73 cI dX11_canAll_67 (by decide) (fun (c18 : ¬ ((eM w 11 (F k)) = 1)) => ?_) (fun (c18 : (eM w 11 (F k)) = 1) => ?_)
              · have hpk : p1 k = 10 := by rcases hat.2 k (by omega) with z | z; exact z.1; exact absurd z.2.1 c18
                refine lv_iconst (v := nI 0) hC.1 hC.2.1 dX11_canAll_73 (by decide) ?_
                refine lv_istore_n (lv' := [(2, .int (nI 0)), (0, .ref (a 70)), (1, .int (nI s0)), (3, .int (nI k))]) hC.1 hC.2.1 dX11_canAll_74 rfl hl (by decide) rfl (fun ls hl => ?_)
                refine lv_iconst (v := nI 0) hC.1 hC.2.1 dX11_canAll_75 (by decide) ?_
                refine lv_istore (lv' := [(4, .int (nI 0)), (2, .int (nI 0)), (0, .ref (a 70)), (1, .int (nI s0)), (3, .int (nI k))]) hC.1 hC.2.1 dX11_canAll_76 hl (by decide) rfl (fun ls hl => ?_)
                have L78_18 : ∀ (n : Nat), ∀ (h : Nat), ∀ (w : Nat → Int32), ∀ (s6 : Nat → Int32), ∀ (s7 : Nat → Int32), ∀ (s8 : Nat → Int32), ∀ (s9 : Nat → Int32), ∀ (M : Nat), (h ≤ nh) → (atP (τ 1) F fm nh w p1) → (BI (eM (τ 1)) F fm (pB (eM (τ 1)) (-1)) nh nj s6 s7 M s0) → (∀ i, i < k → ∀ x, x < nh → p1 i = 10 → fitC (eM (τ 1)) F fm (pB (eM (τ 1)) (-1)) nh nj p1 i x → ¬ s6 (enc 11 (pu p1 i x) fm) = 0) → (∀ x, x < h → fitC (eM (τ 1)) F fm (pB (eM (τ 1)) (-1)) nh nj p1 k x → ¬ s6 (enc 11 (pu p1 k x) fm) = 0) → (s7 s0 = nI (enc 11 p1 fm)) → (s0 < M) → (nh - h) < n → ∀ (H : Heap) (locs : List Loc) (ls : Array Slot), Wst E (MW E a) (sr (sr (sr (sr (sr (sr τ 1 (w)) 6 (s6)) 7 (s7)) 8 (s8)) 9 (s9)) 0 (upd (τ 0) 5 (nI (M)))) A s.heap H locs → lv_has ls 6 [(0, .ref (a 70)), (1, .int (nI s0)), (2, .int (nI 0)), (3, .int (nI k)), (4, .int (nI h))] → W p l e ({ frames := 4, cells := 0, slots := 0, locals := 94 }) s m args below meth c H locs 0 0 Q (F0 m 78 ls []) := by
                  intro n
                  induction n with
                  | zero => intro h w s6 s7 s8 s9 M hh hat hB hcur hch hps hsM hn; exact absurd hn (Nat.not_lt_zero _)
                  | succ n ih78 =>
                    intro h w s6 s7 s8 s9 M hh hat hB hcur hch hps hsM hn78 H locs ls hw hl
                    have hWw := hat.zmF hFk hW
                    have hM14 := hB.1.le
                    refine lv_iload hC.1 hC.2.1 dX11_canAll_78 (lv_at hl 4 rfl) ?_
                    refine lv_aload_n hC.1 hC.2.1 dX11_canAll_80 rfl (lv_at hl 0 rfl) ?_
                    refine gf_X11_7 hC hw dX11_canAll_81 ?_
                    refine lv_iconst (v := nI 0) hC.1 hC.2.1 dX11_canAll_84 (by decide) ?_
                    refine al_M1 (v := nI nh) hC hw (by omega) hWw.2.2.1 dX11_canAll_85 ?_
                    refine q_cmpge hC 203 (cNle (by omega) (by omega)) dX11_canAll_86 (by decide) (fun (c20 : nh ≤ h) => ?_) (fun (c20 : h < nh) => ?_)
                    · refine lv_iinc (v := nI (k + 1)) (lv' := [(3, .int (nI (k + 1))), (0, .ref (a 70)), (1, .int (nI s0)), (2, .int (nI 0)), (4, .int (nI h))]) hC.1 hC.2.1 dX11_canAll_203 hl (k := 3) rfl (nI_add _ _) (by decide) rfl (fun ls hl => ?_)
                      refine lv_goto (tgt := 43) hC.1 hC.2.1 dX11_canAll_206 (by decide) ?_
                      have hcur2 : ∀ i, i < k + 1 → ∀ x, x < nh → p1 i = 10 → fitC (eM (τ 1)) F fm (pB (eM (τ 1)) (-1)) nh nj p1 i x → ¬ s6 (enc 11 (pu p1 i x) fm) = 0 := fun i hi x hx hp hf => by
                        by_cases e : i = k
                        · subst e; exact hch x (by omega) hf
                        · exact hcur i (by omega) x hx hp hf
                      have hal2 : (nI 0 = (1 : Int32) ∧ ∀ i, i < k + 1 → p1 i ≠ 10) ∨ (nI 0 = (0 : Int32) ∧ ∃ i, i < fm ∧ p1 i = 10) := Or.inr ⟨rfl, k, by omega, hpk⟩
                      exact ih43 (k + 1) (nI 0) w s6 s7 s8 s9 (M) (by omega) hat hB hcur2 hal2 hps hsM (by omega) _ _ _ hw (lv_sub hl [1, 2, 3, 0] rfl)
                    · refine lv_aload_n hC.1 hC.2.1 dX11_canAll_89 rfl (lv_at hl 0 rfl) ?_
                      refine lv_aload_n hC.1 hC.2.1 dX11_canAll_90 rfl (lv_at hl 0 rfl) ?_
                      refine gf_X11_22 hC hw dX11_canAll_91 ?_
                      refine lv_iload_n hC.1 hC.2.1 dX11_canAll_94 rfl (lv_at hl 3 rfl) ?_
                      have hFx := (hF k (by omega)).2
                      refine al_M5 (v := nI (F k)) hC hw (by omega) (hF k (by omega)).1 dX11_canAll_95 ?_
                      refine lv_iload hC.1 hC.2.1 dX11_canAll_96 (lv_at hl 4 rfl) ?_
                      refine q_callVp (As := [.int (nI (F k)), .int (nI h)]) (rest := []) (q0 := 0) hC hw hl (tX11_whyNot l E a (sr (sr (sr (sr (sr (sr τ 1 (w)) 6 (s6)) 7 (s7)) 8 (s8)) 9 (s9)) 0 (upd (τ 0) 5 (nI (M)))) nh nj (F k) h hWw (by first | assumption | omega) (by first | assumption | omega)) (q_cwV hC.2.2.2.2.1 ⟨rfl, rfl⟩ wk4_202 wk4_204 wks_2_9 wk1_12 wk4_205 hd_X11_whyNot ⟨Nat.le_of_ble_eq_true rfl, Nat.le_of_ble_eq_true rfl⟩) rfl rfl rfl rfl rfl (Nat.le_of_ble_eq_true rfl) dX11_canAll_98 (fun H locs hw => ?_)
                      refine q_ifne hC 197 cI dX11_canAll_101 (by decide) (fun (c24 : ¬ ((m_why (eM w) (pB (eM w) (nI (F k))) nh nj (F k) h) = 0)) => ?_) (fun (c24 : (m_why (eM w) (pB (eM w) (nI (F k))) nh nj (F k) h) = 0) => ?_)
                      · refine lv_iinc (v := nI (h + 1)) (lv' := [(4, .int (nI (h + 1))), (0, .ref (a 70)), (1, .int (nI s0)), (2, .int (nI 0)), (3, .int (nI k))]) hC.1 hC.2.1 dX11_canAll_197 hl (k := 4) rfl (nI_add _ _) (by decide) rfl (fun ls hl => ?_)
                        refine lv_goto (tgt := 78) hC.1 hC.2.1 dX11_canAll_200 (by decide) ?_
                        exact ih78 (h + 1) w s6 s7 s8 s9 (M) (by omega) hat hB hcur (fun x hx hf => by by_cases e : x = h; subst e; exact absurd ((hat.why hFk hW (show k < fm by omega) (show x < nh by omega)).trans hf) c24; exact hch x (by omega) hf) hps hsM (by omega) _ _ _ hw (lv_sub hl [1, 2, 3, 4, 0] rfl)
                      · have hkm : k < fm := by omega
                        have hhn : h < nh := by omega
                        have hfc : fitC (eM (τ 1)) F fm (pB (eM (τ 1)) (-1)) nh nj p1 k h := (hat.why hFk hW hkm hhn).symm.trans c24
                        have hRp := Rch.n hp1 hkm hhn hpk hfc
                        have hcl := hRp.ok.zenc hnh hm4
                        have hat4 := hat.put hFk hnj hkm hhn
                        have hWu := hat4.zmF hFk hW
                        have hw0 : w (258 + F k) = 0 := by rcases hat.2 k hkm with z | z; exact z.2; omega
                        refine lv_aload_n hC.1 hC.2.1 dX11_canAll_104 rfl (lv_at hl 0 rfl) ?_
                        refine gf_X11_7 hC hw dX11_canAll_105 ?_
                        refine lv_sipush (v := nI 282) hC.1 hC.2.1 dX11_canAll_108 (by decide) ?_
                        refine lv_aload_n hC.1 hC.2.1 dX11_canAll_111 rfl (lv_at hl 0 rfl) ?_
                        refine gf_X11_22 hC hw dX11_canAll_112 ?_
                        refine lv_iload_n hC.1 hC.2.1 dX11_canAll_115 rfl (lv_at hl 3 rfl) ?_
                        have hFx := (hF k (by omega)).2
                        refine al_M5 (v := nI (F k)) hC hw (by omega) (hF k (by omega)).1 dX11_canAll_116 ?_
                        refine q_addN hC dX11_canAll_117 ?_
                        refine al_M1 (v := eM w 12 (F k)) hC hw (by omega) (show _ = eM w 12 (F k) from congrArg w (by omega)) dX11_canAll_118 ?_
                        refine lv_istore (lv' := [(5, .int (eM w 12 (F k))), (0, .ref (a 70)), (1, .int (nI s0)), (2, .int (nI 0)), (3, .int (nI k)), (4, .int (nI h))]) hC.1 hC.2.1 dX11_canAll_119 hl (by decide) rfl (fun ls hl => ?_)
                        refine lv_aload_n hC.1 hC.2.1 dX11_canAll_121 rfl (lv_at hl 1 rfl) ?_
                        refine gf_X11_7 hC hw dX11_canAll_122 ?_
                        refine lv_sipush (v := nI 258) hC.1 hC.2.1 dX11_canAll_125 (by decide) ?_
                        refine lv_aload_n hC.1 hC.2.1 dX11_canAll_128 rfl (lv_at hl 1 rfl) ?_
                        refine gf_X11_22 hC hw dX11_canAll_129 ?_
                        refine lv_iload_n hC.1 hC.2.1 dX11_canAll_132 rfl (lv_at hl 4 rfl) ?_
                        have hFx := (hF k (by omega)).2
                        refine al_M5 (v := nI (F k)) hC hw (by omega) (hF k (by omega)).1 dX11_canAll_133 ?_
                        refine q_addN hC dX11_canAll_134 ?_
                        refine lv_iconst (v := nI 1) hC.1 hC.2.1 dX11_canAll_135 (by decide) ?_
                        refine as_M1 hC hw (by omega) dX11_canAll_136 (fun H locs hw => ?_)
                        have hw : Wst E (MW E a) (sr (sr (sr (sr (sr (sr τ 1 (upd (w) (258 + (F k)) (1))) 6 (s6)) 7 (s7)) 8 (s8)) 9 (s9)) 0 (upd (τ 0) 5 (nI (M)))) A s.heap H locs := hw
                        refine lv_aload_n hC.1 hC.2.1 dX11_canAll_137 rfl (lv_at hl 1 rfl) ?_
                        refine gf_X11_7 hC hw dX11_canAll_138 ?_
                        refine lv_sipush (v := nI 282) hC.1 hC.2.1 dX11_canAll_141 (by decide) ?_
                        refine lv_aload_n hC.1 hC.2.1 dX11_canAll_144 rfl (lv_at hl 1 rfl) ?_
                        refine gf_X11_22 hC hw dX11_canAll_145 ?_
                        refine lv_iload_n hC.1 hC.2.1 dX11_canAll_148 rfl (lv_at hl 4 rfl) ?_
                        have hFx := (hF k (by omega)).2
                        refine al_M5 (v := nI (F k)) hC hw (by omega) (hF k (by omega)).1 dX11_canAll_149 ?_
                        refine q_addN hC dX11_canAll_150 ?_
                        refine lv_iload hC.1 hC.2.1 dX11_canAll_151 (lv_at hl 5 rfl) ?_
                        refine as_M1 hC hw (by omega) dX11_canAll_153 (fun H locs hw => ?_)
                        have hw : Wst E (MW E a) (sr (sr (sr (sr (sr (sr τ 1 (upd (upd (w) (258 + (F k)) (1)) (282 + (F k)) (nI h))) 6 (s6)) 7 (s7)) 8 (s8)) 9 (s9)) 0 (upd (τ 0) 5 (nI (M)))) A s.heap H locs := hw
                        refine lv_aload_n hC.1 hC.2.1 dX11_canAll_154 rfl (lv_at hl 1 rfl) ?_
                        refine lv_aload_n hC.1 hC.2.1 dX11_canAll_155 rfl (lv_at hl 1 rfl) ?_
                        refine q_callVp (As := []) (rest := [.ref (a 70)]) (q0 := 0) hC hw hl (tX11_codeOf l E a (sr (sr (sr (sr (sr (sr τ 1 (upd (upd (w) (258 + (F k)) (1)) (282 + (F k)) (nI h))) 6 (s6)) 7 (s7)) 8 (s8)) 9 (s9)) 0 (upd (τ 0) 5 (nI (M)))) nh nj fm F hWu hm hm4 hF) (q_cwV hC.2.2.2.2.1 ⟨rfl, rfl⟩ wk5_88 wk5_90 wks_3_13 wk1_12 wk5_91 hd_X11_codeOf ⟨Nat.le_of_ble_eq_true rfl, Nat.le_of_ble_eq_true rfl⟩) rfl rfl rfl rfl rfl (Nat.le_of_ble_eq_true rfl) dX11_canAll_156 (fun H locs hw => ?_)
                        refine q_top (y := nI (enc 11 (pu p1 k h) fm)) (congrArg nI (hat4.zenc hnh)) ?_
                        refine lv_iload_n hC.1 hC.2.1 dX11_canAll_159 rfl (lv_at hl 2 rfl) ?_
                        refine lv_iconst (v := nI 0) hC.1 hC.2.1 dX11_canAll_160 (by decide) ?_
                        refine q_callVvp (As := [.int (nI (enc 11 (pu p1 k h) fm)), .int (nI s0), .int (nI 0)]) (rest := []) (q0 := 0) hC hw hl (tX11_meet l E a (sr (sr (sr (sr (sr (sr τ 1 (upd (upd (w) (258 + (F k)) (1)) (282 + (F k)) (nI h))) 6 (s6)) 7 (s7)) 8 (s8)) 9 (s9)) 0 (upd (τ 0) 5 (nI (M)))) M (enc 11 (pu p1 k h) fm) (nI s0) 0 rfl hcl (fun q => hB.1.lt hcl q)) (q_cwV hC.2.2.2.2.1 ⟨rfl, rfl⟩ wk5_92 wk5_94 wks_3_14 wk1_12 wk5_95 hd_X11_meet ⟨Nat.le_of_ble_eq_true rfl, Nat.le_of_ble_eq_true rfl⟩) rfl rfl rfl rfl rfl (Nat.le_of_ble_eq_true rfl) dX11_canAll_161 (fun H locs hw => ?_)
                        have hw : Wst E (MW E a) (sr (sr (sr (sr (sr (sr τ 1 (upd (upd (w) (258 + (F k)) (1)) (282 + (F k)) (nI h))) 6 ((if s6 (enc 11 (pu p1 k h) fm) = 0 then upd s6 (enc 11 (pu p1 k h) fm) 1 else s6))) 7 ((if s6 (enc 11 (pu p1 k h) fm) = 0 then upd s7 M (nI (enc 11 (pu p1 k h) fm)) else s7))) 8 ((if s6 (enc 11 (pu p1 k h) fm) = 0 then upd s8 M (nI s0) else s8))) 9 ((if s6 (enc 11 (pu p1 k h) fm) = 0 then upd s9 M 0 else s9))) 0 (upd (τ 0) 5 ((if s6 (enc 11 (pu p1 k h) fm) = 0 then nI (M + 1) else (nI (M)))))) A s.heap H locs := hw
                        refine lv_aload_n hC.1 hC.2.1 dX11_canAll_164 rfl (lv_at hl 1 rfl) ?_
                        refine gf_X11_7 hC hw dX11_canAll_165 ?_
                        refine lv_sipush (v := nI 258) hC.1 hC.2.1 dX11_canAll_168 (by decide) ?_
                        refine lv_aload_n hC.1 hC.2.1 dX11_canAll_171 rfl (lv_at hl 1 rfl) ?_
                        refine gf_X11_22 hC hw dX11_canAll_172 ?_
                        refine lv_iload_n hC.1 hC.2.1 dX11_canAll_175 rfl (lv_at hl 4 rfl) ?_
                        have hFx := (hF k (by omega)).2
                        refine al_M5 (v := nI (F k)) hC hw (by omega) (hF k (by omega)).1 dX11_canAll_176 ?_
                        refine q_addN hC dX11_canAll_177 ?_
                        refine lv_iconst (v := nI 0) hC.1 hC.2.1 dX11_canAll_178 (by decide) ?_
                        refine as_M1 hC hw (by omega) dX11_canAll_179 (fun H locs hw => ?_)
                        have hw : Wst E (MW E a) (sr (sr (sr (sr (sr (sr τ 1 (upd (upd (upd (w) (258 + (F k)) (1)) (282 + (F k)) (nI h)) (258 + (F k)) (0))) 6 ((if s6 (enc 11 (pu p1 k h) fm) = 0 then upd s6 (enc 11 (pu p1 k h) fm) 1 else s6))) 7 ((if s6 (enc 11 (pu p1 k h) fm) = 0 then upd s7 M (nI (enc 11 (pu p1 k h) fm)) else s7))) 8 ((if s6 (enc 11 (pu p1 k h) fm) = 0 then upd s8 M (nI s0) else s8))) 9 ((if s6 (enc 11 (pu p1 k h) fm) = 0 then upd s9 M 0 else s9))) 0 (upd (τ 0) 5 ((if s6 (enc 11 (pu p1 k h) fm) = 0 then nI (M + 1) else (nI (M)))))) A s.heap H locs := hw
                        refine lv_aload_n hC.1 hC.2.1 dX11_canAll_180 rfl (lv_at hl 1 rfl) ?_
                        refine gf_X11_7 hC hw dX11_canAll_181 ?_
                        refine lv_sipush (v := nI 282) hC.1 hC.2.1 dX11_canAll_184 (by decide) ?_
                        refine lv_aload_n hC.1 hC.2.1 dX11_canAll_187 rfl (lv_at hl 1 rfl) ?_
                        refine gf_X11_22 hC hw dX11_canAll_188 ?_
                        refine lv_iload_n hC.1 hC.2.1 dX11_canAll_191 rfl (lv_at hl 4 rfl) ?_
                        have hFx := (hF k (by omega)).2
                        refine al_M5 (v := nI (F k)) hC hw (by omega) (hF k (by omega)).1 dX11_canAll_192 ?_
                        refine q_addN hC dX11_canAll_193 ?_
                        refine lv_iload hC.1 hC.2.1 dX11_canAll_194 (lv_at hl 0 rfl) ?_
                        refine as_M1 hC hw (by omega) dX11_canAll_196 (fun H locs hw => ?_)
                        have hw : Wst E (MW E a) (sr (sr (sr (sr (sr (sr τ 1 (upd (upd (upd (upd (w) (258 + (F k)) (1)) (282 + (F k)) (nI h)) (258 + (F k)) (0)) (282 + (F k)) (eM w 12 (F k)))) 6 ((if s6 (enc 11 (pu p1 k h) fm) = 0 then upd s6 (enc 11 (pu p1 k h) fm) 1 else s6))) 7 ((if s6 (enc 11 (pu p1 k h) fm) = 0 then upd s7 M (nI (enc 11 (pu p1 k h) fm)) else s7))) 8 ((if s6 (enc 11 (pu p1 k h) fm) = 0 then upd s8 M (nI s0) else s8))) 9 ((if s6 (enc 11 (pu p1 k h) fm) = 0 then upd s9 M 0 else s9))) 0 (upd (τ 0) 5 ((if s6 (enc 11 (pu p1 k h) fm) = 0 then nI (M + 1) else (nI (M)))))) A s.heap H locs := hw
                        refine lv_iinc (v := nI (h + 1)) (lv' := [(4, .int (nI (h + 1))), (5, .int (eM w 12 (F k))), (0, .ref (a 70)), (1, .int (nI s0)), (2, .int (nI 0)), (3, .int (nI k))]) hC.1 hC.2.1 dX11_canAll_197 hl (k := 5) rfl (nI_add _ _) (by decide) rfl (fun ls hl => ?_)
                        refine lv_goto (tgt := 78) hC.1 hC.2.1 dX11_canAll_200 (by decide) ?_
                        have hMe : (if s6 (enc 11 (pu p1 k h) fm) = 0 then nI (M + 1) else nI (M)) = nI (mtM s6 M (enc 11 (pu p1 k h) fm)) := by unfold mtM; split <;> rfl
                        have hU : upd (upd (upd (upd (w) (258 + (F k)) (1)) (282 + (F k)) (nI h)) (258 + (F k)) (0)) (282 + (F k)) (eM w 12 (F k)) = w := upd4 (by omega) hw0
                        rw [hMe, hU] at hw
                        have hw : Wst E (MW E a) (sr (sr (sr (sr (sr (sr τ 1 (w)) 6 (mt6 s6 (enc 11 (pu p1 k h) fm))) 7 (mt7 s6 s7 M (enc 11 (pu p1 k h) fm))) 8 ((if s6 (enc 11 (pu p1 k h) fm) = 0 then upd s8 M (nI s0) else s8))) 9 ((if s6 (enc 11 (pu p1 k h) fm) = 0 then upd s9 M 0 else s9))) 0 (upd (τ 0) 5 (nI (mtM s6 M (enc 11 (pu p1 k h) fm))))) A s.heap H locs := hw
                        exact ih78 (h + 1) w (mt6 s6 (enc 11 (pu p1 k h) fm)) (mt7 s6 s7 M (enc 11 (pu p1 k h) fm)) (if s6 (enc 11 (pu p1 k h) fm) = 0 then upd s8 M (nI s0) else s8) (if s6 (enc 11 (pu p1 k h) fm) = 0 then upd s9 M 0 else s9) (mtM s6 M (enc 11 (pu p1 k h) fm)) (by omega) hat (hB.meet hRp hcl) (fun i hi x hx hp hf => mt6_mono (hcur i hi x hx hp hf)) (fun x hx hf => by by_cases e : x = h; subst e; exact mt6_x; exact mt6_mono (hch x (by omega) hf)) (by rw [mt7_lt hsM]; exact hps) (Nat.lt_of_lt_of_le hsM mtM_le) (by omega) _ _ _ hw (lv_sub hl [2, 3, 4, 5, 0] rfl)
                exact L78_18 _ 0 w s6 s7 s8 s9 (M) (Nat.zero_le _) hat hB hcur (fun i q => absurd q (Nat.not_lt_zero _)) hps hsM (Nat.lt_succ_self _) _ _ _ hw (lv_sub hl [2, 3, 1, 4, 0] rfl)
              · refine lv_goto (tgt := 203) hC.1 hC.2.1 dX11_canAll_70 (by decide) ?_
                refine lv_iinc (v := nI (k + 1)) (lv' := [(3, .int (nI (k + 1))), (0, .ref (a 70)), (1, .int (nI s0)), (2, .int (al))]) hC.1 hC.2.1 dX11_canAll_203 hl (k := 3) rfl (nI_add _ _) (by decide) rfl (fun ls hl => ?_)
                refine lv_goto (tgt := 43) hC.1 hC.2.1 dX11_canAll_206 (by decide) ?_
                have hne : p1 k ≠ 10 := fun q => by
                  rcases hat.2 k (by omega) with z | z
                  · exact absurd (z.2.symm.trans c18) (by decide)
                  · omega
                have hcur2 : ∀ i, i < k + 1 → ∀ x, x < nh → p1 i = 10 → fitC (eM (τ 1)) F fm (pB (eM (τ 1)) (-1)) nh nj p1 i x → ¬ s6 (enc 11 (pu p1 i x) fm) = 0 := fun i hi x hx hp hf => by
                  by_cases e : i = k
                  · subst e; exact absurd hp hne
                  · exact hcur i (by omega) x hx hp hf
                have hal2 : (al = 1 ∧ ∀ i, i < k + 1 → p1 i ≠ 10) ∨ (al = 0 ∧ ∃ i, i < fm ∧ p1 i = 10) := by
                  rcases hal with ⟨z, z2⟩ | z
                  · refine Or.inl ⟨z, fun i hi => ?_⟩
                    by_cases e : i = k
                    · subst e; exact hne
                    · exact z2 i (by omega)
                  · exact Or.inr z
                exact ih43 (k + 1) al w s6 s7 s8 s9 (M) (by omega) hat hB hcur2 hal2 hps hsM (by omega) _ _ _ hw (lv_sub hl [1, 2, 3, 0] rfl)
        exact L43_14 _ 0 (nI 1) (f_set w F (enc 11 p1 fm) fm) s6 s7 s8 s9 (M) (Nat.zero_le _) hat1 hB (fun i q => absurd q (Nat.not_lt_zero _)) (Or.inl ⟨rfl, fun i q => absurd q (Nat.not_lt_zero _)⟩) hps hsM (Nat.lt_succ_self _) _ _ _ hw (lv_sub hl [2, 3, 1, 0] rfl)
  have hMe : (if (zer 14641 (τ 6)) (enc 11 (fun _ => 10) fm) = 0 then nI (0 + 1) else (nI 0)) = nI (mtM (zer 14641 (τ 6)) 0 (enc 11 (fun _ => 10) fm)) := by unfold mtM; split <;> rfl
  rw [hMe] at hw
  have hw : Wst E (MW E a) (sr (sr (sr (sr (sr (sr τ 1 (τ 1)) 6 (mt6 (zer 14641 (τ 6)) (enc 11 (fun _ => 10) fm))) 7 (mt7 (zer 14641 (τ 6)) (τ 7) 0 (enc 11 (fun _ => 10) fm))) 8 ((if (zer 14641 (τ 6)) (enc 11 (fun _ => 10) fm) = 0 then upd (τ 8) 0 (-1) else (τ 8)))) 9 ((if (zer 14641 (τ 6)) (enc 11 (fun _ => 10) fm) = 0 then upd (τ 9) 0 0 else (τ 9)))) 0 (upd (τ 0) 5 (nI (mtM (zer 14641 (τ 6)) 0 (enc 11 (fun _ => 10) fm))))) A s.heap H locs := by rw [sr_id]; exact hw
  have hB0 : BI (eM (τ 1)) F fm (pB (eM (τ 1)) (-1)) nh nj (mt6 (zer 14641 (τ 6)) (enc 11 (fun _ => 10) fm)) (mt7 (zer 14641 (τ 6)) (τ 7) 0 (enc 11 (fun _ => 10) fm)) (mtM (zer 14641 (τ 6)) 0 (enc 11 (fun _ => 10) fm)) 0 := ⟨SI.meet ⟨fun i q => absurd q (Nat.not_lt_zero _), fun x hx q => absurd (if_pos hx) q, fun i j _ q => absurd q (Nat.not_lt_zero _)⟩ Rch.z hcl0, fun i q => absurd q (Nat.not_lt_zero _), mt6_x, Nat.zero_le _⟩
  exact L21_9 _ 0 (τ 1) (mt6 (zer 14641 (τ 6)) (enc 11 (fun _ => 10) fm)) (mt7 (zer 14641 (τ 6)) (τ 7) 0 (enc 11 (fun _ => 10) fm)) (if (zer 14641 (τ 6)) (enc 11 (fun _ => 10) fm) = 0 then upd (τ 8) 0 (-1) else (τ 8)) (if (zer 14641 (τ 6)) (enc 11 (fun _ => 10) fm) = 0 then upd (τ 9) 0 0 else (τ 9)) (mtM (zer 14641 (τ 6)) 0 (enc 11 (fun _ => 10) fm)) (fun _ => 10) hat0 hB0 (Nat.lt_succ_self _) _ _ _ hw (lv_sub hl [1, 0] rfl)
