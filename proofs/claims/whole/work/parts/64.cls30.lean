def keepX (σ u : St) : Prop := u 0 9 = σ 0 9 ∧ u 27 = σ 27 ∧ u 28 = σ 28 ∧ u 0 16 = σ 0 16
theorem CL.mono {σ : St} {v : Nat → Int32} {nh nj T T' : Nat} {stk : List (Nat → Int32)} (h : CL σ v nh nj stk T) (hT : T ≤ T') : CL σ v nh nj stk T' :=
  ⟨h.1, h.2.1.mono hT, h.2.2.1, h.2.2.2.1, h.2.2.2.2.mono (Nat.le_refl _) (Nat.le_refl _) hT⟩
theorem upd_c {f : Nat → Int32} {k i : Nat} {x y : Int32} (h : i = k → y = x) (h2 : i ≠ k → y = f i) : y = upd f k x i := by
  by_cases e : i = k
  · subst e; rw [ups]; exact h rfl
  · rw [upn e]; exact h2 e
theorem VI.up {v : Nat → Int32} {nh nj T h : Nat} (hV : VI v nh nj T) (hh : h < nh) : VI (upd v (56 + h) 1) nh nj T := by
  obtain ⟨h1, h2, h3, h4, h5, h6, h7, h8, t, h9, h10, h11⟩ := hV
  have hn := h1.1; have hj := h1.2.1
  have o : ∀ i, i ≠ 56 + h → upd v (56 + h) 1 i = v i := fun i hi => upn hi
  have hr : ∀ r k, r ≠ 4 → (r = 1 → k < 30) → (r = 2 ∨ r = 3 → k < 10) → 1 ≤ r → r < 15 → eM (upd v (56 + h) 1) r k = eM v r k := fun r k e1 e2 e3 e4 e5 => by
    rcases (show r = 1 ∨ r = 2 ∨ r = 3 ∨ r = 5 ∨ r = 6 ∨ r = 7 ∨ r = 8 ∨ r = 9 ∨ r = 10 ∨ r = 11 ∨ r = 12 ∨ r = 13 ∨ r = 14 by omega) with e | e | e | e | e | e | e | e | e | e | e | e | e <;> subst e
    · exact o (6 + k) (by omega)
    · exact o (36 + k) (by omega)
    · exact o (46 + k) (by omega)
    · exact o (66 + k) (by omega)
    · exact o (90 + k) (by omega)
    · exact o (162 + k) (by omega)
    · exact o (186 + k) (by omega)
    · exact o (210 + k) (by omega)
    · exact o (234 + k) (by omega)
    · exact o (258 + k) (by omega)
    · exact o (282 + k) (by omega)
    · exact o (306 + k) (by omega)
    · exact o (330 + k) (by omega)
  have h4u : ∀ x, eM v 4 x = 1 → eM (upd v (56 + h) 1) 4 x = 1 := fun x hx => by
    show upd v (56 + h) 1 (56 + x) = 1
    by_cases e : x = h
    · subst e; exact ups
    · rw [o _ (by omega)]; exact hx
  refine ⟨h1.put (by omega) (by omega), fun i hi => by rw [o i (by omega)]; exact h2 i hi, ⟨hn, hj, fun x hx => ⟨?_, ?_, fun i hi => ?_⟩, fun x hx => ⟨?_, ?_, fun i hi => ?_⟩⟩, ⟨fun x hx i hi => ?_, fun x hx i hi => ?_⟩, fun j hjj => ?_, fun j hjj => ?_, fun j hjj hs => ?_, fun a ha b hb sa sb e => ?_, t, by rw [o 5 (by omega)]; exact h9, h10, fun j hjj hs => ?_⟩
  · rw [hr 2 x (by omega) (by omega) (by omega) (by omega) (by omega)]; exact (h3.2.2.1 x hx).1
  · show upd v (56 + h) 1 (56 + x) = 0 ∨ upd v (56 + h) 1 (56 + x) = 1
    by_cases e : x = h
    · subst e; exact Or.inr ups
    · rw [o _ (by omega)]; exact (h3.2.2.1 x hx).2.1
  · rw [hr 1 _ (by omega) (by omega) (by omega) (by omega) (by omega)]; exact (h3.2.2.1 x hx).2.2 i hi
  · rw [hr 8 x (by omega) (by omega) (by omega) (by omega) (by omega)]; exact (h3.2.2.2 x hx).1
  · rw [hr 10 x (by omega) (by omega) (by omega) (by omega) (by omega)]; exact (h3.2.2.2 x hx).2.1
  · rw [hr 6 _ (by omega) (by omega) (by omega) (by omega) (by omega)]; exact (h3.2.2.2 x hx).2.2 i hi
  · rw [hr 1 _ (by omega) (by omega) (by omega) (by omega) (by omega)]; exact h4.1 x hx i hi
  · rw [hr 6 _ (by omega) (by omega) (by omega) (by omega) (by omega)]; exact h4.2 x hx i hi
  · rw [hr 7 j (by omega) (by omega) (by omega) (by omega) (by omega)]; exact h5 j hjj
  · rw [hr 14 j (by omega) (by omega) (by omega) (by omega) (by omega)]; exact h6 j hjj
  · rw [hr 11 j (by omega) (by omega) (by omega) (by omega) (by omega)] at hs
    have e : hsN (upd v (56 + h) 1) j = hsN v j := by unfold hsN hN; rw [o _ (by omega)]
    rw [e]; exact h4u _ (h7 j hjj hs)
  · rw [hr 11 _ (by omega) (by omega) (by omega) (by omega) (by omega)] at sa sb
    rw [hr 13 _ (by omega) (by omega) (by omega) (by omega) (by omega), hr 13 _ (by omega) (by omega) (by omega) (by omega) (by omega)] at e
    exact h8 a ha b hb sa sb e
  · rw [hr 11 j (by omega) (by omega) (by omega) (by omega) (by omega)] at hs
    rw [hr 13 j (by omega) (by omega) (by omega) (by omega) (by omega)]
    exact h11 j hjj hs
theorem VI.tg {v : Nat → Int32} {nh nj T j : Nat} {x : Int32} (hV : VI v nh nj T) (hjn : j < nj) (hx : x = -1 ∨ ∃ h, h < nh ∧ x = nI h) : VI (upd v (330 + j) x) nh nj T := by
  obtain ⟨h1, h2, h3, h4, h5, h6, h7, h8, t, h9, h10, h11⟩ := hV
  have hn := h1.1; have hj := h1.2.1
  have o : ∀ i, i ≠ 330 + j → upd v (330 + j) x i = v i := fun i hi => upn hi
  have hag : agE (eM (upd v (330 + j) x)) (eM v) nh nj := agE.of hn hj (fun i hi hi2 => o i (by omega))
  refine ⟨h1.put (by omega) (by omega), fun i hi => by rw [o i (by omega)]; exact h2 i hi, cS.ag hag h3, cT.ag hag h4, fun k hk => ?_, fun k hk => ?_, fun k hk hs => ?_, fun a ha b hb sa sb e => ?_, t, by rw [o 5 (by omega)]; exact h9, h10, fun k hk hs => ?_⟩
  · show ¬ upd v (330 + j) x (162 + k) < 0; rw [o _ (by omega)]; exact h5 k hk
  · show upd v (330 + j) x (330 + k) = -1 ∨ ∃ y, y < nh ∧ upd v (330 + j) x (330 + k) = nI y
    by_cases e : k = j
    · subst e; rw [ups]; exact hx
    · rw [o _ (by omega)]; exact h6 k hk
  · have hs : upd v (330 + j) x (258 + k) = 1 := hs
    rw [o _ (by omega)] at hs
    have e : hsN (upd v (330 + j) x) k = hsN v k := by unfold hsN hN; rw [o _ (by omega)]
    have hl : hsN v k < nh := (h1.host hk hs).2
    rw [e]; show upd v (330 + j) x (56 + hsN v k) = 1; rw [o _ (by omega)]; exact h7 k hk hs
  · have sa : upd v (330 + j) x (258 + a) = 1 := sa
    have sb : upd v (330 + j) x (258 + b) = 1 := sb
    have e : upd v (330 + j) x (306 + a) = upd v (330 + j) x (306 + b) := e
    rw [o _ (by omega)] at sa sb
    rw [o _ (by omega), o _ (by omega)] at e
    exact h8 a ha b hb sa sb e
  · have hs : upd v (330 + j) x (258 + k) = 1 := hs
    rw [o _ (by omega)] at hs
    obtain ⟨s, s1, s2⟩ := h11 k hk hs
    exact ⟨s, s1, by show upd v (330 + j) x (306 + k) = nI s; rw [o _ (by omega)]; exact s2⟩
/-- the sums do not look at whether hosts are up, at weights, or at targets -/
theorem FSr.as {σ u : St} {P : Nat → Int32} {nh nj : Nat} {b16 b17 b18 b19 b20 b21 : Nat → Int32} (hr : u 1 = σ 1 ∧ u 2 = σ 2 ∧ u 5 = σ 5 ∧ u 6 = σ 6 ∧ u 8 = σ 8 ∧ u 10 = σ 10) (hF : FSr σ P nh nj b16 b17 b18 b19 b20 b21) : FSr u P nh nj b16 b17 b18 b19 b20 b21 := by
  obtain ⟨a1, a2, a5, a6, a8, a10⟩ := hr
  unfold FSr m_left m_gon m_gin m_alk m_shy f_left f_gon f_gin f_alk f_shy inH
  rw [a1, a2, a5, a6, a8, a10]
  exact hF
theorem pB_oth {v : Nat → Int32} {k : Nat} {x : Int32} (hk : k < 258 ∨ 330 ≤ k) (j : Nat) (hj : j < 24) : pB (eM v) (-1) j = pB (eM (upd v k x)) (-1) j := by
  unfold pB
  rw [show eM (upd v k x) 11 j = eM v 11 j from upn (f := v) (by omega), show eM (upd v k x) 12 j = eM v 12 j from upn (f := v) (by omega)]
theorem CL.up {σ u : St} {v : Nat → Int32} {nh nj T h : Nat} {stk : List (Nat → Int32)} (hC : CL σ v nh nj stk T) (hh : h < nh) (hu : u = sr σ 4 (upd (σ 4) h 1)) : CL u (upd v (56 + h) 1) nh nj stk T := by
  obtain ⟨⟨a1, a2, a3, a4, a5, a6⟩, hV, hF, hR, hS⟩ := hC
  have hn := hV.1.1; have hjn := hV.1.2.1
  have o : ∀ i, i ≠ 56 + h → upd v (56 + h) 1 i = v i := fun i hi => upn hi
  have hr : ∀ r, r ≠ 4 → u r = σ r := fun r e => by rw [hu]; exact sr_n e
  refine CL.of ⟨⟨by rw [hr 0 (by omega)]; exact a1.1, by rw [hr 0 (by omega)]; exact a1.2⟩, by rw [hr 0 (by omega), o 5 (by omega)]; exact a2, ⟨fun x hx => ⟨fun i hi => ?_, ?_, ?_, ?_⟩, fun x hx => ⟨fun i hi => ?_, ?_, ?_, ?_, ?_⟩⟩, fun k hk => ⟨?_, ?_, ?_, fun hs => ?_⟩, fun k hk => ?_, fun i hi => ?_⟩ (hV.up hh) ?_ hR hS (fun r _ => hr r (by omega)) (by rw [hr 0 (by omega)]) (by rw [hr 0 (by omega)]) (fun r _ => hr r (by omega)) (Nat.le_refl _) (Nat.le_refl _) (Nat.le_refl _)
  · rw [hr 1 (by omega)]; exact (a3.1 x hx).1 i hi |>.trans (o (6 + (3 * x + i)) (by omega)).symm
  · rw [hr 2 (by omega)]; exact (a3.1 x hx).2.1.trans (o (36 + x) (by omega)).symm
  · rw [hr 3 (by omega)]; exact (a3.1 x hx).2.2.1.trans (o (46 + x) (by omega)).symm
  · rw [hu, sr_s]; show upd (σ 4) h 1 x = upd v (56 + h) 1 (56 + x)
    by_cases e : x = h
    · subst e; rw [ups, ups]
    · rw [upn e, o _ (by omega)]; exact (a3.1 x hx).2.2.2
  · rw [hr 6 (by omega)]; exact (a3.2 x hx).1 i hi |>.trans (o (90 + (3 * x + i)) (by omega)).symm
  · rw [hr 5 (by omega)]; exact (a3.2 x hx).2.1.trans (o (66 + x) (by omega)).symm
  · rw [hr 8 (by omega)]; exact (a3.2 x hx).2.2.1.trans (o (186 + x) (by omega)).symm
  · rw [hr 9 (by omega)]; exact (a3.2 x hx).2.2.2.1.trans (o (210 + x) (by omega)).symm
  · rw [hr 10 (by omega)]; exact (a3.2 x hx).2.2.2.2.trans (o (234 + x) (by omega)).symm
  · rw [hr 5 (by omega)]; exact (a4 k hk).1.trans (o (66 + k) (by omega)).symm
  · rw [hr 7 (by omega)]; exact (a4 k hk).2.1.trans (o (162 + k) (by omega)).symm
  · rw [hr 11 (by omega)]; exact (a4 k hk).2.2.1.trans (o (258 + k) (by omega)).symm
  · have hs : upd v (56 + h) 1 (258 + k) = 1 := hs
    rw [o _ (by omega)] at hs
    rw [hr 12 (by omega), hr 13 (by omega)]
    exact ⟨((a4 k hk).2.2.2 hs).1.trans (o (282 + k) (by omega)).symm, ((a4 k hk).2.2.2 hs).2.trans (o (306 + k) (by omega)).symm⟩
  · rw [hr 14 (by omega)]; exact (a5 k hk).trans (o (330 + k) (by omega)).symm
  · rw [hr 15 (by omega)]; exact (a6 i hi).trans (o (2 + i) (by omega)).symm
  · rw [hr 16 (by omega), hr 17 (by omega), hr 18 (by omega), hr 19 (by omega), hr 20 (by omega), hr 21 (by omega)]
    exact FSr.cg (fun k hk => pB_oth (by omega) k (by omega)) (FSr.as ⟨hr 1 (by omega), hr 2 (by omega), hr 5 (by omega), hr 6 (by omega), hr 8 (by omega), hr 10 (by omega)⟩ hF)
theorem CL.wt {σ u : St} {v : Nat → Int32} {nh nj T i0 : Nat} {w : Int32} {stk : List (Nat → Int32)} (hC : CL σ v nh nj stk T) (hi0 : i0 < 3) (hu : u = sr σ 15 (upd (σ 15) i0 w)) : CL u (upd v (2 + i0) w) nh nj stk T := by
  obtain ⟨⟨a1, a2, a3, a4, a5, a6⟩, hV, hF, hR, hS⟩ := hC
  have hn := hV.1.1; have hjn := hV.1.2.1
  have o : ∀ i, i ≠ 2 + i0 → upd v (2 + i0) w i = v i := fun i hi => upn hi
  have hr : ∀ r, r ≠ 15 → u r = σ r := fun r e => by rw [hu]; exact sr_n e
  have hag : agE u (eM (upd v (2 + i0) w)) nh nj := by
    have h1 : agE u (eM v) nh nj := by unfold agE at a3 ⊢; rw [hr 1 (by omega), hr 2 (by omega), hr 3 (by omega), hr 4 (by omega), hr 5 (by omega), hr 6 (by omega), hr 8 (by omega), hr 9 (by omega), hr 10 (by omega)]; exact a3
    exact h1.tr (agE.of hn hjn (fun i hi hi2 => (o i (by omega)).symm))
  refine CL.of ⟨⟨by rw [hr 0 (by omega)]; exact a1.1, by rw [hr 0 (by omega)]; exact a1.2⟩, by rw [hr 0 (by omega), o 5 (by omega)]; exact a2, hag, fun k hk => ⟨?_, ?_, ?_, fun hs => ?_⟩, fun k hk => ?_, fun i hi => ?_⟩ (hV.put (by omega) (by omega)) ?_ hR hS (fun r _ => hr r (by omega)) (by rw [hr 0 (by omega)]) (by rw [hr 0 (by omega)]) (fun r _ => hr r (by omega)) (Nat.le_refl _) (Nat.le_refl _) (Nat.le_refl _)
  · rw [hr 5 (by omega)]; exact (a4 k hk).1.trans (o (66 + k) (by omega)).symm
  · rw [hr 7 (by omega)]; exact (a4 k hk).2.1.trans (o (162 + k) (by omega)).symm
  · rw [hr 11 (by omega)]; exact (a4 k hk).2.2.1.trans (o (258 + k) (by omega)).symm
  · have hs : upd v (2 + i0) w (258 + k) = 1 := hs
    rw [o _ (by omega)] at hs
    rw [hr 12 (by omega), hr 13 (by omega)]
    exact ⟨((a4 k hk).2.2.2 hs).1.trans (o (282 + k) (by omega)).symm, ((a4 k hk).2.2.2 hs).2.trans (o (306 + k) (by omega)).symm⟩
  · rw [hr 14 (by omega)]; exact (a5 k hk).trans (o (330 + k) (by omega)).symm
  · rw [hu, sr_s]; show upd (σ 15) i0 w i = upd v (2 + i0) w (2 + i)
    by_cases e : i = i0
    · subst e; rw [ups, ups]
    · rw [upn e, o _ (by omega)]; exact a6 i hi
  · rw [hr 16 (by omega), hr 17 (by omega), hr 18 (by omega), hr 19 (by omega), hr 20 (by omega), hr 21 (by omega)]
    exact FSr.cg (fun k hk => pB_oth (by omega) k (by omega)) (FSr.as ⟨hr 1 (by omega), hr 2 (by omega), hr 5 (by omega), hr 6 (by omega), hr 8 (by omega), hr 10 (by omega)⟩ hF)
theorem CL.tg {σ u : St} {v : Nat → Int32} {nh nj T j : Nat} {x : Int32} {stk : List (Nat → Int32)} (hC : CL σ v nh nj stk T) (hj : j < nj) (hx : x = -1 ∨ ∃ h, h < nh ∧ x = nI h) (hu : u = sr σ 14 (upd (σ 14) j x)) : CL u (upd v (330 + j) x) nh nj stk T := by
  obtain ⟨⟨a1, a2, a3, a4, a5, a6⟩, hV, hF, hR, hS⟩ := hC
  have hn := hV.1.1; have hjn := hV.1.2.1
  have o : ∀ i, i ≠ 330 + j → upd v (330 + j) x i = v i := fun i hi => upn hi
  have hr : ∀ r, r ≠ 14 → u r = σ r := fun r e => by rw [hu]; exact sr_n e
  have hag : agE u (eM (upd v (330 + j) x)) nh nj := by
    have h1 : agE u (eM v) nh nj := by unfold agE at a3 ⊢; rw [hr 1 (by omega), hr 2 (by omega), hr 3 (by omega), hr 4 (by omega), hr 5 (by omega), hr 6 (by omega), hr 8 (by omega), hr 9 (by omega), hr 10 (by omega)]; exact a3
    exact h1.tr (agE.of hn hjn (fun i hi hi2 => (o i (by omega)).symm))
  refine CL.of ⟨⟨by rw [hr 0 (by omega)]; exact a1.1, by rw [hr 0 (by omega)]; exact a1.2⟩, by rw [hr 0 (by omega), o 5 (by omega)]; exact a2, hag, fun k hk => ⟨?_, ?_, ?_, fun hs => ?_⟩, fun k hk => ?_, fun i hi => ?_⟩ (hV.tg hj hx) ?_ hR hS (fun r _ => hr r (by omega)) (by rw [hr 0 (by omega)]) (by rw [hr 0 (by omega)]) (fun r _ => hr r (by omega)) (Nat.le_refl _) (Nat.le_refl _) (Nat.le_refl _)
  · rw [hr 5 (by omega)]; exact (a4 k hk).1.trans (o (66 + k) (by omega)).symm
  · rw [hr 7 (by omega)]; exact (a4 k hk).2.1.trans (o (162 + k) (by omega)).symm
  · rw [hr 11 (by omega)]; exact (a4 k hk).2.2.1.trans (o (258 + k) (by omega)).symm
  · have hs : upd v (330 + j) x (258 + k) = 1 := hs
    rw [o _ (by omega)] at hs
    rw [hr 12 (by omega), hr 13 (by omega)]
    exact ⟨((a4 k hk).2.2.2 hs).1.trans (o (282 + k) (by omega)).symm, ((a4 k hk).2.2.2 hs).2.trans (o (306 + k) (by omega)).symm⟩
  · rw [hu, sr_s]; show upd (σ 14) j x k = upd v (330 + j) x (330 + k)
    by_cases e : k = j
    · subst e; rw [ups, ups]
    · rw [upn e, o _ (by omega)]; exact a5 k hk
  · rw [hr 15 (by omega)]; exact (a6 i hi).trans (o (2 + i) (by omega)).symm
  · rw [hr 16 (by omega), hr 17 (by omega), hr 18 (by omega), hr 19 (by omega), hr 20 (by omega), hr 21 (by omega)]
    exact FSr.cg (fun k hk => pB_oth (by omega) k (by omega)) (FSr.as ⟨hr 1 (by omega), hr 2 (by omega), hr 5 (by omega), hr 6 (by omega), hr 8 (by omega), hr 10 (by omega)⟩ hF)
