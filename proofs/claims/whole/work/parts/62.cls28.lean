theorem FSr.aE {σ u : St} {P : Nat → Int32} {nh nj : Nat} {b16 b17 b18 b19 b20 b21 : Nat → Int32} (ha : aE u σ) (hF : FSr σ P nh nj b16 b17 b18 b19 b20 b21) : FSr u P nh nj b16 b17 b18 b19 b20 b21 := by
  obtain ⟨a1, a2, a3, a4, a5, a6, a7, a8, a9, a10, a15⟩ := ha
  unfold FSr m_left m_gon m_gin m_alk m_shy f_left f_gon f_gin f_alk f_shy inH
  rw [a1, a2, a5, a6, a8, a10]
  exact hF
theorem agE.aE {σ u E : St} {nh nj : Nat} (ha : aE u σ) (h : agE σ E nh nj) : agE u E nh nj := by
  obtain ⟨a1, a2, a3, a4, a5, a6, a7, a8, a9, a10, a15⟩ := ha
  unfold agE at h ⊢
  rw [a1, a2, a3, a4, a5, a6, a8, a9, a10]
  exact h
theorem CL.of {σ u : St} {v : Nat → Int32} {nh nj nh' nj' T T' : Nat} {stk : List (Nat → Int32)} (hX : XR u v nh' nj') (hV : VI v nh' nj' T') (hF : FSr u (pB (eM v) (-1)) nh' nj' (u 16) (u 17) (u 18) (u 19) (u 20) (u 21)) (hR : RG σ stk) (hS : STK σ stk nh nj T) (h30 : ∀ r, 30 ≤ r → u r = σ r) (h3 : u 0 3 = σ 0 3) (h4 : u 0 4 = σ 0 4) (hst : ∀ r, (r = 1 ∨ r = 2 ∨ r = 3 ∨ r = 5 ∨ r = 6 ∨ r = 7 ∨ r = 8 ∨ r = 9 ∨ r = 10) → u r = σ r) (hn : nh ≤ nh') (hj : nj ≤ nj') (hT : T ≤ T') : CL u v nh' nj' stk T' :=
  ⟨hX, hV, hF, hR.of h30 h3 h4, (hS.of hst).mono hn hj hT⟩
theorem aE.st {σ u : St} (ha : aE u σ) : ∀ r, (r = 1 ∨ r = 2 ∨ r = 3 ∨ r = 5 ∨ r = 6 ∨ r = 7 ∨ r = 8 ∨ r = 9 ∨ r = 10) → u r = σ r := by
  obtain ⟨a1, a2, a3, a4, a5, a6, a7, a8, a9, a10, a15⟩ := ha
  intro r hr
  rcases hr with e | e | e | e | e | e | e | e | e <;> subst e <;> assumption
/-! what holds of the reference's row, kept -/
theorem VI.put {v : Nat → Int32} {nh nj T k : Nat} {x : Int32} (h : VI v nh nj T) (hk : 2 ≤ k) (hk5 : k < 5) : VI (upd v k x) nh nj T := by
  obtain ⟨h1, h2, h3, h4, h5, h6, h7, h8, t, h9, h10, h11⟩ := h
  have hn := h1.1; have hj := h1.2.1
  have o : ∀ i, i ≠ k → upd v k x i = v i := fun i hi => upn hi
  have hag : agE (eM (upd v k x)) (eM v) nh nj := agE.of hn hj (fun i hi _ => o i (by omega))
  refine ⟨h1.put hk (by omega), fun i hi => by rw [o i (by omega)]; exact h2 i hi, cS.ag hag h3, cT.ag hag h4, fun j hjj => ?_, fun j hjj => ?_, fun j hjj hs => ?_, fun a ha b hb sa sb e => ?_, t, by rw [o 5 (by omega)]; exact h9, h10, fun j hjj hs => ?_⟩
  · show ¬ upd v k x (162 + j) < 0; rw [o _ (by omega)]; exact h5 j hjj
  · show upd v k x (330 + j) = -1 ∨ ∃ y, y < nh ∧ upd v k x (330 + j) = nI y
    rw [o _ (by omega)]; exact h6 j hjj
  · have hs : upd v k x (258 + j) = 1 := hs
    rw [o _ (by omega)] at hs
    have e : hsN (upd v k x) j = hsN v j := by unfold hsN hN; rw [o _ (by omega)]
    rw [e]; show upd v k x (56 + hsN v j) = 1; rw [o _ (by omega)]; exact h7 j hjj hs
  · have sa : upd v k x (258 + a) = 1 := sa
    have sb : upd v k x (258 + b) = 1 := sb
    have e : upd v k x (306 + a) = upd v k x (306 + b) := e
    rw [o _ (by omega)] at sa sb
    rw [o _ (by omega), o _ (by omega)] at e
    exact h8 a ha b hb sa sb e
  · have hs : upd v k x (258 + j) = 1 := hs
    rw [o _ (by omega)] at hs
    obtain ⟨s, s1, s2⟩ := h11 j hjj hs
    exact ⟨s, s1, by show upd v k x (306 + j) = nI s; rw [o _ (by omega)]; exact s2⟩
theorem VI.rel {v : Nat → Int32} {nh nj T j : Nat} {x : Int32} (h : VI v nh nj T) (hjn : j < nj) (hx : ¬ x = 1) : VI (upd v (258 + j) x) nh nj T := by
  obtain ⟨h1, h2, h3, h4, h5, h6, h7, h8, t, h9, h10, h11⟩ := h
  have hn := h1.1; have hj := h1.2.1
  have o : ∀ i, i ≠ 258 + j → upd v (258 + j) x i = v i := fun i hi => upn hi
  have hag : agE (eM (upd v (258 + j) x)) (eM v) nh nj := agE.of hn hj (fun i hi hi2 => o i (by omega))
  have hst : ∀ k, eM (upd v (258 + j) x) 11 k = 1 → k ≠ j ∧ eM v 11 k = 1 := fun k hs => by
    have hs : upd v (258 + j) x (258 + k) = 1 := hs
    by_cases e : k = j
    · subst e; rw [ups] at hs; exact absurd hs hx
    · rw [o _ (by omega)] at hs; exact ⟨e, hs⟩
  refine ⟨⟨hn, hj, by rw [o 0 (by omega)]; exact h1.2.2.1, by rw [o 1 (by omega)]; exact h1.2.2.2.1, fun k hk hs => ?_⟩, fun i hi => by rw [o i (by omega)]; exact h2 i hi, cS.ag hag h3, cT.ag hag h4, fun k hk => ?_, fun k hk => ?_, fun k hk hs => ?_, fun a ha b hb sa sb e => ?_, t, by rw [o 5 (by omega)]; exact h9, h10, fun k hk hs => ?_⟩
  · rw [o (282 + k) (by omega)]; exact h1.2.2.2.2 k hk (hst k hs).2
  · show ¬ upd v (258 + j) x (162 + k) < 0; rw [o _ (by omega)]; exact h5 k hk
  · show upd v (258 + j) x (330 + k) = -1 ∨ ∃ y, y < nh ∧ upd v (258 + j) x (330 + k) = nI y
    rw [o _ (by omega)]; exact h6 k hk
  · have e : hsN (upd v (258 + j) x) k = hsN v k := by unfold hsN hN; rw [o _ (by omega)]
    have hl := (h1.host hk (hst k hs).2).2
    have hl : hsN v k < nh := hl
    rw [e]; show upd v (258 + j) x (56 + hsN v k) = 1; rw [o _ (by omega)]; exact h7 k hk (hst k hs).2
  · have e : upd v (258 + j) x (306 + a) = upd v (258 + j) x (306 + b) := e
    rw [o _ (by omega), o _ (by omega)] at e
    exact h8 a ha b hb (hst a sa).2 (hst b sb).2 e
  · obtain ⟨s, s1, s2⟩ := h11 k hk (hst k hs).2
    exact ⟨s, s1, by show upd v (258 + j) x (306 + k) = nI s; rw [o _ (by omega)]; exact s2⟩
theorem VI.std {v : Nat → Int32} {nh nj T j h : Nat} (hV : VI v nh nj T) (hjn : j < nj) (hh : h < nh) (hu : eM v 4 h = 1) (hT : T < 2 ^ 30) : VI (f_std v j h) nh nj (T + 1) := by
  obtain ⟨h1, h2, h3, h4, h5, h6, h7, h8, t, h9, h10, h11⟩ := hV
  have hn := h1.1; have hj := h1.2.1
  have o : ∀ i, (i < 258 ∨ 330 ≤ i) → i ≠ 5 → f_std v j h i = v i := fun i hi h5 => f_std_o hi h5 (by omega)
  have ot : ∀ k, k < 24 → k ≠ j → f_std v j h (306 + k) = v (306 + k) := fun k hk e => by unfold f_std; rw [upn (by omega), upn (by omega), upn (by omega), upn (by omega)]
  have otj : f_std v j h (306 + j) = v 5 + 1 := by unfold f_std; rw [ups]
  have o5 : f_std v j h 5 = v 5 + 1 := by unfold f_std; rw [upn (by omega), ups]
  have hag : agE (eM (f_std v j h)) (eM v) nh nj := agE.of hn hj (fun i hi hi2 => o i (by omega) (by omega))
  have hst : ∀ k, k < nj → k ≠ j → eM (f_std v j h) 11 k = 1 → eM v 11 k = 1 := fun k hk e hs => by
    have hs : f_std v j h (258 + k) = 1 := hs
    rw [f_std_st (by omega) (by omega), if_neg e] at hs; exact hs
  have e9 : v 5 + 1 = nI (t + 1) := by rw [h9, nI_1]
  refine ⟨f_std_mF h1 hjn hh, f_std_Z h2 (by omega), cS.ag hag h3, cT.ag hag h4, fun k hk => ?_, fun k hk => ?_, fun k hk hs => ?_, fun a ha b hb sa sb e => ?_, t + 1, o5.trans e9, by omega, fun k hk hs => ?_⟩
  · show ¬ f_std v j h (162 + k) < 0; rw [o _ (by omega) (by omega)]; exact h5 k hk
  · show f_std v j h (330 + k) = -1 ∨ ∃ y, y < nh ∧ f_std v j h (330 + k) = nI y
    rw [o _ (by omega) (by omega)]; exact h6 k hk
  · show f_std v j h (56 + hsN (f_std v j h) k) = 1
    by_cases e : k = j
    · subst e
      have e1 : hsN (f_std v k h) k = h := by unfold hsN hN; rw [f_std_ho (by omega) (by omega), if_pos rfl]; exact nI_clamp (by omega)
      rw [e1, o _ (by omega) (by omega)]; exact hu
    · have e1 : hsN (f_std v j h) k = hsN v k := by unfold hsN hN; rw [f_std_ho (by omega) (by omega), if_neg e]
      have hl : hsN v k < nh := (h1.host hk (hst k hk e hs)).2
      rw [e1, o _ (by omega) (by omega)]; exact h7 k hk (hst k hk e hs)
  · have e : f_std v j h (306 + a) = f_std v j h (306 + b) := e
    by_cases ea : a = j <;> by_cases eb : b = j
    · rw [ea, eb]
    · rw [ea, otj, ot b (by omega) eb, e9] at e
      obtain ⟨s, s1, s2⟩ := h11 b hb (hst b hb eb sb)
      have s2 : v (306 + b) = nI s := s2
      rw [s2] at e
      have := (nI_eq (by omega) (by omega)).mp e; omega
    · rw [eb, otj, ot a (by omega) ea, e9] at e
      obtain ⟨s, s1, s2⟩ := h11 a ha (hst a ha ea sa)
      have s2 : v (306 + a) = nI s := s2
      rw [s2] at e
      have := (nI_eq (by omega) (by omega)).mp e; omega
    · rw [ot a (by omega) ea, ot b (by omega) eb] at e
      exact h8 a ha b hb (hst a ha ea sa) (hst b hb eb sb) e
  · by_cases e : k = j
    · subst e; exact ⟨t + 1, Nat.le_refl _, otj.trans e9⟩
    · obtain ⟨s, s1, s2⟩ := h11 k hk (hst k hk e hs)
      exact ⟨s, by omega, by show f_std v j h (306 + k) = nI s; rw [ot k (by omega) e]; exact s2⟩
/-! the class's rows after a job left, after one was seated -/
def fr0 (u σ : St) : Prop := u 14 = σ 14 ∧ u 0 0 = σ 0 0 ∧ u 0 1 = σ 0 1 ∧ u 0 3 = σ 0 3 ∧ u 0 4 = σ 0 4 ∧ ∀ r, 30 ≤ r → u r = σ r
theorem XR.rel {σ u : St} {v : Nat → Int32} {nh nj j : Nat} {x : Int32} (hX : XR σ v nh nj) (hn : nh ≤ 10) (hjn : nj ≤ 24) (hj : j < nj) (hx : ¬ x = 1) (ha : aE u σ) (hf : fr0 u σ) (h2 : u 0 2 = σ 0 2) (h11 : u 11 = upd (σ 11) j x) (h12 : ∀ k, k ≠ j → u 12 k = σ 12 k) (h13 : ∀ k, k ≠ j → u 13 k = σ 13 k) : XR u (upd v (258 + j) x) nh nj := by
  obtain ⟨a1, a2, a3, a4, a5, a6⟩ := hX
  obtain ⟨f1, f2, f3, f4, f5, f6⟩ := hf
  have o : ∀ i, i ≠ 258 + j → upd v (258 + j) x i = v i := fun i hi => upn hi
  have hag : agE (eM (upd v (258 + j) x)) (eM v) nh nj := agE.of hn hjn (fun i hi hi2 => o i (by omega))
  have ha' := ha
  obtain ⟨b1, b2, b3, b4, b5, b6, b7, b8, b9, b10, b15⟩ := ha'
  refine ⟨⟨f2.trans a1.1, f3.trans a1.2⟩, by rw [h2, o 5 (by omega)]; exact a2, (a3.aE ha).tr hag.sy, fun k hk => ⟨?_, ?_, ?_, fun hs => ?_⟩, fun k hk => ?_, fun i hi => ?_⟩
  · rw [b5]; show σ 5 k = upd v (258 + j) x (66 + k); rw [o _ (by omega)]; exact (a4 k hk).1
  · rw [b7]; show σ 7 k = upd v (258 + j) x (162 + k); rw [o _ (by omega)]; exact (a4 k hk).2.1
  · rw [h11]; show upd (σ 11) j x k = upd v (258 + j) x (258 + k)
    by_cases e : k = j
    · subst e; rw [ups, ups]
    · rw [upn e, o _ (by omega)]; exact (a4 k hk).2.2.1
  · have hs : upd v (258 + j) x (258 + k) = 1 := hs
    have e : k ≠ j := fun e => by subst e; rw [ups] at hs; exact hx hs
    rw [o _ (by omega)] at hs
    have := (a4 k hk).2.2.2 hs
    refine ⟨?_, ?_⟩
    · rw [h12 k e]; show σ 12 k = upd v (258 + j) x (282 + k); rw [o _ (by omega)]; exact this.1
    · rw [h13 k e]; show σ 13 k = upd v (258 + j) x (306 + k); rw [o _ (by omega)]; exact this.2
  · rw [f1]; show σ 14 k = upd v (258 + j) x (330 + k); rw [o _ (by omega)]; exact a5 k hk
  · rw [b15]; show σ 15 i = upd v (258 + j) x (2 + i); rw [o _ (by omega)]; exact a6 i hi
theorem CL.rel {σ u : St} {v : Nat → Int32} {nh nj T j : Nat} {x : Int32} {stk : List (Nat → Int32)} (hC : CL σ v nh nj stk T) (hj : j < nj) (hx : ¬ x = 1) (ha : aE u σ) (hf : fr0 u σ) (h2 : u 0 2 = σ 0 2) (h11 : u 11 = upd (σ 11) j x) (h12 : ∀ k, k ≠ j → u 12 k = σ 12 k) (h13 : ∀ k, k ≠ j → u 13 k = σ 13 k) (hF : FSr σ (upd (pB (eM v) (-1)) j (-1)) nh nj (u 16) (u 17) (u 18) (u 19) (u 20) (u 21)) : CL u (upd v (258 + j) x) nh nj stk T := by
  obtain ⟨hX, hV, -, hR, hS⟩ := hC
  have hjn := hV.1.2.1
  refine CL.of (hX.rel hV.1.1 hjn hj hx ha hf h2 h11 h12 h13) (hV.rel hj hx) ?_ hR hS hf.2.2.2.2.2 hf.2.2.2.1 hf.2.2.2.2.1 ha.st (Nat.le_refl _) (Nat.le_refl _) (Nat.le_refl _)
  rw [pB_out (by omega) hx]; exact FSr.aE ha hF
theorem CL.std {σ u : St} {v : Nat → Int32} {nh nj T j h : Nat} {stk : List (Nat → Int32)} (hC : CL σ v nh nj stk T) (hj : j < nj) (hh : h < nh) (hu : eM v 4 h = 1) (hT : T < 2 ^ 30) (ha : aE u σ) (hf : fr0 u σ) (h2 : u 0 2 = σ 0 2 + 1) (h11 : u 11 = upd (σ 11) j 1) (h12 : u 12 = upd (σ 12) j (nI h)) (h13 : u 13 = upd (σ 13) j (σ 0 2 + 1)) (hF : FSr σ (upd (pB (eM v) (-1)) j (nI h)) nh nj (u 16) (u 17) (u 18) (u 19) (u 20) (u 21)) : CL u (f_std v j h) nh nj stk (T + 1) := by
  obtain ⟨⟨a1, a2, a3, a4, a5, a6⟩, hV, -, hR, hS⟩ := hC
  obtain ⟨f1, f2, f3, f4, f5, f6⟩ := hf
  have hn := hV.1.1; have hjn := hV.1.2.1
  have o : ∀ i, (i < 258 ∨ 330 ≤ i) → i ≠ 5 → f_std v j h i = v i := fun i hi h5 => f_std_o hi h5 (by omega)
  have ot : ∀ k, k < 24 → k ≠ j → f_std v j h (306 + k) = v (306 + k) := fun k hk e => by unfold f_std; rw [upn (by omega), upn (by omega), upn (by omega), upn (by omega)]
  have otj : f_std v j h (306 + j) = v 5 + 1 := by unfold f_std; rw [ups]
  have o5 : f_std v j h 5 = v 5 + 1 := by unfold f_std; rw [upn (by omega), ups]
  have hV' := hV.std hj hh hu hT
  have hag : agE (eM (f_std v j h)) (eM v) nh nj := agE.of hn hjn (fun i hi hi2 => o i (by omega) (by omega))
  have ha' := ha
  obtain ⟨b1, b2, b3, b4, b5, b6, b7, b8, b9, b10, b15⟩ := ha'
  refine CL.of ⟨⟨f2.trans a1.1, f3.trans a1.2⟩, by rw [h2, o5, a2], (a3.aE ha).tr hag.sy, fun k hk => ⟨?_, ?_, ?_, fun hs => ?_⟩, fun k hk => ?_, fun i hi => ?_⟩ hV' ?_ hR hS f6 f4 f5 ha.st (Nat.le_refl _) (Nat.le_refl _) (Nat.le_succ _)
  · rw [b5]; show σ 5 k = f_std v j h (66 + k); rw [o _ (by omega) (by omega)]; exact (a4 k hk).1
  · rw [b7]; show σ 7 k = f_std v j h (162 + k); rw [o _ (by omega) (by omega)]; exact (a4 k hk).2.1
  · rw [h11]; show upd (σ 11) j 1 k = f_std v j h (258 + k)
    rw [f_std_st (by omega) (by omega)]
    by_cases e : k = j
    · subst e; rw [ups, if_pos rfl]
    · rw [upn e, if_neg e]; exact (a4 k hk).2.2.1
  · have hs : f_std v j h (258 + k) = 1 := hs
    rw [h12, h13]
    show upd (σ 12) j (nI h) k = f_std v j h (282 + k) ∧ upd (σ 13) j (σ 0 2 + 1) k = f_std v j h (306 + k)
    rw [f_std_ho (by omega) (by omega)]
    by_cases e : k = j
    · subst e; rw [ups, ups, if_pos rfl, otj, a2]; exact ⟨rfl, rfl⟩
    · rw [f_std_st (by omega) (by omega), if_neg e] at hs
      rw [upn e, upn e, if_neg e, ot k (by omega) e]
      exact (a4 k hk).2.2.2 hs
  · rw [f1]; show σ 14 k = f_std v j h (330 + k); rw [o _ (by omega) (by omega)]; exact a5 k hk
  · rw [b15]; show σ 15 i = f_std v j h (2 + i); rw [o _ (by omega) (by omega)]; exact a6 i hi
  · exact FSr.cg (fun k hk => pB_set (by omega) k (by omega)) (FSr.aE ha hF)
