theorem agE.tr {A B C : St} {nh nj : Nat} (h1 : agE A B nh nj) (h2 : agE B C nh nj) : agE A C nh nj :=
  ⟨fun x hx => ⟨fun i hi => ((h1.1 x hx).1 i hi).trans ((h2.1 x hx).1 i hi), (h1.1 x hx).2.1.trans (h2.1 x hx).2.1, (h1.1 x hx).2.2.1.trans (h2.1 x hx).2.2.1, (h1.1 x hx).2.2.2.trans (h2.1 x hx).2.2.2⟩,
   fun x hx => ⟨fun i hi => ((h1.2 x hx).1 i hi).trans ((h2.2 x hx).1 i hi), (h1.2 x hx).2.1.trans (h2.2 x hx).2.1, (h1.2 x hx).2.2.1.trans (h2.2 x hx).2.2.1, (h1.2 x hx).2.2.2.1.trans (h2.2 x hx).2.2.2.1, (h1.2 x hx).2.2.2.2.trans (h2.2 x hx).2.2.2.2⟩⟩
/-- what differs only in states, places, turns, targets -/
theorem agE.of {v u : Nat → Int32} {nh nj : Nat} (hn : nh ≤ 10) (hj : nj ≤ 24) (h : ∀ i, 6 ≤ i → i < 258 → v i = u i) : agE (eM v) (eM u) nh nj :=
  ⟨fun x hx => ⟨fun i hi => h (6 + (3 * x + i)) (by omega) (by omega), h (36 + x) (by omega) (by omega), h (46 + x) (by omega) (by omega), h (56 + x) (by omega) (by omega)⟩,
   fun x hx => ⟨fun i hi => h (90 + (3 * x + i)) (by omega) (by omega), h (66 + x) (by omega) (by omega), h (186 + x) (by omega) (by omega), h (210 + x) (by omega) (by omega), h (234 + x) (by omega) (by omega)⟩⟩
theorem pB_out {v : Nat → Int32} {w : Nat} {x : Int32} (hw : w < 24) (hx : ¬ x = 1) : pB (eM (upd v (258 + w) x)) (-1) = upd (pB (eM v) (-1)) w (-1) := funext fun k => by
  show (if nI k = -1 then -1 else if upd v (258 + w) x (258 + k) = 1 then upd v (258 + w) x (282 + k) else -1) = (if k = w then -1 else (if nI k = -1 then -1 else if v (258 + k) = 1 then v (282 + k) else -1))
  by_cases e : k = w
  · subst e
    rw [ups, if_neg hx, if_pos rfl]
    split <;> rfl
  · rw [upn (by omega), upn (by omega), if_neg e]
theorem pB_set {v : Nat → Int32} {j h : Nat} (hj : j < 24) (k : Nat) (hk : k < 24) : upd (pB (eM v) (-1)) j (nI h) k = pB (eM (f_std v j h)) (-1) k := by
  show (if k = j then nI h else (if nI k = -1 then -1 else if v (258 + k) = 1 then v (282 + k) else -1)) = (if nI k = -1 then -1 else if f_std v j h (258 + k) = 1 then f_std v j h (282 + k) else -1)
  have h1 : nI j ≠ -1 := fun q => nI_nm1 (show j < 2 ^ 31 by omega) q.symm
  unfold f_std
  by_cases e : k = j
  · subst e
    rw [show (if k = k then nI h else (if nI k = -1 then -1 else if v (258 + k) = 1 then v (282 + k) else -1)) = nI h from if_pos rfl, if_neg h1, upn (by omega), upn (by omega), upn (by omega), ups, if_pos rfl, upn (by omega), upn (by omega), ups]
  · rw [if_neg e]
    by_cases z : nI k = -1
    · rw [if_pos z, if_pos z]
    · rw [if_neg z, if_neg z, upn (by omega), upn (by omega), upn (by omega), upn (by omega), upn (by omega), upn (by omega), upn (by omega), upn (by omega)]
theorem okP_pB {v : Nat → Int32} {nh nj : Nat} {but : Int32} (hW : mF v nh nj) : okP (pB (eM v) but) nh nj := fun k hk => by
  unfold pB
  split
  · exact Or.inl rfl
  · split
    case isTrue q => obtain ⟨x, x1, x2⟩ := hW.2.2.2.2 k hk q; exact Or.inr ⟨x, x1, x2⟩
    case isFalse q => exact Or.inl rfl
/-- a job that does not stand need not be left out -/
theorem pB_but {v : Nat → Int32} {j : Nat} (hs : ¬ eM v 11 j = 1) (hj : j < 24) (k : Nat) (hk : k < 24) : pB (eM v) (-1) k = pB (eM v) (nI j) k := by
  have h1 : ¬ nI k = -1 := fun q => nI_nm1 (show k < 2 ^ 31 by omega) q.symm
  unfold pB
  rw [if_neg h1]
  by_cases e : nI k = nI j
  · have : k = j := (nI_eq (by omega) (by omega)).mp e
    subst this
    rw [if_pos rfl, if_neg hs]
  · rw [if_neg e]
theorem go_ag {v : Nat → Int32} {nh nj j h t : Nat} (hn : nh ≤ 10) (hj : nj ≤ 24) : agE (eM v) (eM (go_v v nj j h t)) nh nj := agE.of hn hj (fun i _ hi => by
  rcases go_v_at v nj j h i t with ⟨x, x1, x2, x3⟩ | ⟨x1, x2⟩
  · omega
  · exact x2.symm)
theorem cgo_y {E0 : St} {v : Nat → Int32} {nh nj j h t : Nat} (hA : agE E0 (eM v) nh nj) (hW : mF v nh nj) (hj : j < nj) (hh : h < nh) (hj0 : eM v 11 j = 0) : m_why E0 (pB (eM (go_v v nj j h t)) (-1)) nh nj j h = go_y v nh nj j h t := by
  have h10 := hW.1; have h24 := hW.2.1
  refine m_why_congr (hA.tr (go_ag h10 h24)) (fun k hk => pB_but (fun q => ?_) (by omega) k (by omega)) (okP_pB (go_v_mF hW)) h10 hj hh
  have := ((go_11 hj h24).1.mp q).1
  rw [hj0] at this; exact absurd this (by decide)
theorem go_TL {v : Nat → Int32} {nj j h t : Nat} (hn : nj ≤ 24) (hm : ¬ m_nx (go_v v nj j h t) j h nj < 0) : TL (pB (eM (go_v v nj j h t)) (-1)) (pB (eM (go_v v nj j h (t + 1))) (-1)) (cN (m_nx (go_v v nj j h t) j h nj)) h (-1) := by
  have a : _ ∧ cN (m_nx (go_v v nj j h t) j h nj) < nj := m_nx_nat (show nj < 2 ^ 31 by omega) hm
  have b : mayGo (go_v v nj j h t) j h (cN (m_nx (go_v v nj j h t) j h nj)) := m_nx_may (show nj < 2 ^ 31 by omega) hm
  refine Or.inr ⟨rfl, ?_, ?_⟩
  · unfold pB
    rw [if_neg (fun q => nI_nm1 (by omega) q.symm), if_pos b.1.1]; exact b.1.2
  · exact pB_out (Nat.lt_of_lt_of_le a.2 hn) (by decide)
theorem rs_TL {v : Nat → Int32} {nh nj j h k : Nat} (hn : nj ≤ 24) (hk : k < go_T v nh nj j h) : TL (pB (eM (rs_v v nj j h (go_T v nh nj j h) k)) (-1)) (pB (eM (rs_v v nj j h (go_T v nh nj j h) (k + 1))) (-1)) (go_w v nj j h k) h 1 := by
  have hl := go_w_lt hn hk
  have hm := go_w_may hn hk
  have hne : ∀ x, x < k → ¬ 258 + go_w v nj j h k = 258 + go_w v nj j h x := fun x hx e => by
    have := ((go_11 hl hn).1.mp hm.1.1).2 x hx
    omega
  have h0 : rs_v v nj j h (go_T v nh nj j h) k (258 + go_w v nj j h k) = 0 := by
    rcases rs_v_at v nj j h (go_T v nh nj j h) (258 + go_w v nj j h k) k with ⟨x, x1, x2, x3⟩ | ⟨x1, x2⟩
    · exact absurd x2 (hne x x1)
    · rw [x2]
      rcases go_v_at v nj j h (258 + go_w v nj j h k) (go_T v nh nj j h) with ⟨x, x1, x2, x3⟩ | ⟨x1, x2⟩
      · exact x3
      · exact absurd rfl (x1 k hk)
  have h12 : rs_v v nj j h (go_T v nh nj j h) k (282 + go_w v nj j h k) = nI h := by
    have e1 : eM v 12 (go_w v nj j h k) = nI h := by
      have := hm.1.2
      rw [(go_11 hl hn).2 12 (by simp) (fun x hx => go_w_lt hn (Nat.lt_trans hx hk))] at this
      exact this
    rcases rs_v_at v nj j h (go_T v nh nj j h) (282 + go_w v nj j h k) k with ⟨x, x1, x2, x3⟩ | ⟨x1, x2⟩
    · have := go_w_lt hn (Nat.lt_trans x1 hk); omega
    · rw [x2]
      rcases go_v_at v nj j h (282 + go_w v nj j h k) (go_T v nh nj j h) with ⟨x, x1, x2, x3⟩ | ⟨x1, x2⟩
      · have := go_w_lt hn x1; omega
      · rw [x2]; exact e1
  refine Or.inl ⟨rfl, ?_, ?_⟩
  · unfold pB
    rw [if_neg (fun q => nI_nm1 (by omega) q.symm), if_neg]
    show ¬ rs_v v nj j h (go_T v nh nj j h) k (258 + go_w v nj j h k) = 1
    rw [h0]; decide
  · funext i
    show (if nI i = -1 then -1 else if upd (rs_v v nj j h (go_T v nh nj j h) k) (258 + go_w v nj j h k) 1 (258 + i) = 1 then upd (rs_v v nj j h (go_T v nh nj j h) k) (258 + go_w v nj j h k) 1 (282 + i) else -1) = (if i = go_w v nj j h k then nI h else (if nI i = -1 then -1 else if rs_v v nj j h (go_T v nh nj j h) k (258 + i) = 1 then rs_v v nj j h (go_T v nh nj j h) k (282 + i) else -1))
    by_cases e : i = go_w v nj j h k
    · rw [e, if_neg (fun q => nI_nm1 (by omega) q.symm), ups, if_pos rfl, upn (by omega), h12, if_pos rfl]
    · rw [if_neg e, upn (by omega), upn (by omega)]
theorem nx_neg {v : Nat → Int32} {j h n : Nat} (q : m_nx v j h n < 0) (hn : n < 2 ^ 31 := by omega) : m_nx v j h n = -1 := by
  rcases m_nx_in v j h n with e | ⟨b, b1, b2, -⟩
  · exact e
  · rw [b2] at q; exact absurd q (nI_pos (by omega))
theorem go_24 {v : Nat → Int32} {nh nj j h : Nat} (hTn : go_n v nh nj j h (25 - 24) 24 = go_T v nh nj j h) (hn : nj ≤ 24) : go_T v nh nj j h = 24 := by
  have h1 := go_T_le (v := v) (nh := nh) (j := j) (h := h) hn
  rw [← hTn] at h1 ⊢
  have e : go_n v nh nj j h (25 - 24) 24 = if go_y v nh nj j h 24 = 0 ∨ m_nx (go_v v nj j h 24) j h nj < 0 then 24 else 25 := rfl
  rw [e] at h1 ⊢
  split at h1
  case isTrue q => rw [if_pos q]
  case isFalse q => omega
theorem go_T0 {v : Nat → Int32} {nh nj j x : Nat} (hno : ¬ go_y v nh nj j x 0 = 0) (hf : go_y v nh nj j x (go_T v nh nj j x) = 0) : 0 < go_T v nh nj j x := by
  rcases Nat.eq_zero_or_pos (go_T v nh nj j x) with e | e
  · rw [e] at hf; exact absurd hf hno
  · exact e
/-- the last that went has the greatest priority -/
theorem go_gl {v : Nat → Int32} {nh nj j x : Nat} (hj : j < nj) (hn : nj ≤ 24) (hD : TD v nj) (hPr : ∀ k, k < nj → ¬ eM v 7 k < 0) (h0 : 0 < go_T v nh nj j x) : eM v 7 (go_w v nj j x (go_T v nh nj j x - 1)) = go_g v nj j x (go_T v nh nj j x) := by
  have hG : GoK v nj j x (go_T v nh nj j x) := fun y hy q => by
    have := go_w_may (h := x) hn hy
    have e := nx_neg (v := go_v v nj j x y) (j := j) (h := x) (n := nj) q
    have hw : go_w v nj j x y = 0 := by
      show (m_nx (go_v v nj j x y) j x nj).toNatClampNeg = 0
      rw [e]; rfl
    rw [hw] at this
    have := (nx_min (v := go_v v nj j x y) (j := j) (h := x) (n := nj) (by omega) 0 (by omega) this).1
    exact this q
  have key : ∀ t, t + 1 ≤ go_T v nh nj j x → go_g v nj j x (t + 1) = eM v 7 (go_w v nj j x t) := by
    intro t
    induction t with
    | zero =>
      intro ht
      have a := (hG.lt hn 0 (by omega))
      rw [go_g]
      have e7 := (go_11 (v := v) (j := j) (h := x) (t := 1) a.1 hn).2 7 (by simp) (fun y hy => (hG.lt hn y (by omega)).1)
      rw [e7]
      by_cases q : eM v 7 (go_w v nj j x 0) ≤ go_g v nj j x 0
      · have : ¬ eM v 7 (go_w v nj j x 0) ≤ -1 := fun z => hPr _ a.1 (Int32.lt_of_le_of_lt z (by decide))
        exact absurd q this
      · rw [if_neg q]
    | succ t ih =>
      intro ht
      have a := (hG.lt hn (t + 1) (by omega))
      rw [go_g]
      have e7 := (go_11 (v := v) (j := j) (h := x) (t := t + 2) a.1 hn).2 7 (by simp) (fun y hy => (hG.lt hn y (by omega)).1)
      rw [e7, ih (by omega)]
      have o := go_ord hj hn hD hG t (t + 1) (by omega) (by omega)
      by_cases q : eM v 7 (go_w v nj j x (t + 1)) ≤ eM v 7 (go_w v nj j x t)
      · rw [if_pos q]
        rcases o with o | o
        · exact absurd o (Int32.not_lt.mpr q)
        · exact o.1
      · rw [if_neg q]
  have := key (go_T v nh nj j x - 1) (by omega)
  rw [show go_T v nh nj j x - 1 + 1 = go_T v nh nj j x by omega] at this
  exact this.symm
def AB (v : Nat → Int32) (nh nj j k : Nat) (be lp fg : Int32) : Prop := be = (if (p_b v nh nj j k).1 < 0 then -1 else (p_b v nh nj j k).1) ∧ lp = (p_b v nh nj j k).2.1 ∧ fg = (p_b v nh nj j k).2.2
abbrev abc (v : Nat → Int32) (nh nj j k : Nat) (be lp fg : Int32) : Prop := go_y v nh nj j k (go_T v nh nj j k) = 0 ∧ (be = -1 ∨ go_g v nj j k (go_T v nh nj j k) < lp ∨ (go_g v nj j k (go_T v nh nj j k) = lp ∧ nI (go_T v nh nj j k) < fg))
theorem abc_iff {v : Nat → Int32} {nh nj j k : Nat} {be lp fg : Int32} (hk : k < 2 ^ 31) (h : AB v nh nj j k be lp fg) : abc v nh nj j k be lp fg ↔ (go_y v nh nj j k (go_T v nh nj j k) = 0 ∧ ((p_b v nh nj j k).1 < 0 ∨ go_g v nj j k (go_T v nh nj j k) < (p_b v nh nj j k).2.1 ∨ (go_g v nj j k (go_T v nh nj j k) = (p_b v nh nj j k).2.1 ∧ ¬ (p_b v nh nj j k).2.2 ≤ nI (go_T v nh nj j k)))) := by
  obtain ⟨h1, h2, h3⟩ := h
  unfold abc
  rw [h2, h3, Int32.not_le]
  have : be = -1 ↔ (p_b v nh nj j k).1 < 0 := by
    rw [h1]
    by_cases q : (p_b v nh nj j k).1 < 0
    · rw [if_pos q]; exact ⟨fun _ => q, fun _ => rfl⟩
    · rw [if_neg q]
      have := p_b_nat hk q
      exact ⟨fun z => absurd (this.1.symm.trans z).symm (nI_nm1 (by omega)), fun z => absurd z q⟩
  rw [this]
theorem ab_no {v : Nat → Int32} {nh nj j k : Nat} {be lp fg : Int32} (h : AB v nh nj j k be lp fg) (q : ¬ abc v nh nj j k be lp fg) (hk : k < 2 ^ 31 := by omega) : AB v nh nj j (k + 1) be lp fg := by
  rw [abc_iff hk h] at q
  unfold AB
  rw [p_b, if_neg q]; exact h
theorem ab_yes {v : Nat → Int32} {nh nj j k : Nat} {be lp fg : Int32} (hk : k < 2 ^ 31) (h : AB v nh nj j k be lp fg) (q : abc v nh nj j k be lp fg) : AB v nh nj j (k + 1) (nI k) (go_g v nj j k (go_T v nh nj j k)) (nI (go_T v nh nj j k)) := by
  rw [abc_iff hk h] at q
  unfold AB
  rw [p_b, if_pos q]
  exact ⟨(if_neg (nI_pos (by omega))).symm, rfl, rfl⟩
set_option maxHeartbeats 4000000 in
set_option maxRecDepth 100000 in
theorem tX1_putBack (l : Launch) (E : EV) (a : Nat → Nat) (σ : St) (nh : Nat) (nj : Nat) (E0 : St) (gn : Nat) (w : Nat → Nat) (Qs : Nat → Nat → Int32) (h : Nat) (hN : cN2 σ nh nj) (hE : aE σ E0) (hS : cS E0 nh nj) (hFS : FSr E0 (Qs 0) nh nj (σ 16) (σ 17) (σ 18) (σ 19) (σ 20) (σ 21)) (ht : σ 0 5 = nI gn) (ht24 : gn ≤ 24) (hgo : ∀ k, k < gn → σ 22 k = nI (w k) ∧ w k < nj ∧ TL (Qs k) (Qs (k + 1)) (w k) h 1) (hh : h < nh) : MV l E (XW E a) yX1_putBack (Cond.code yX1_putBack cX1_putBack 3 none) ({ frames := 2, cells := 0, slots := 0, locals := 46 }) [.ref (a 62), .int (nI h)] σ (fun u_ => ∃ (b16 b17 b18 b19 b20 b21 : Nat → Int32), FSr E0 (Qs gn) nh nj b16 b17 b18 b19 b20 b21 ∧ u_ = sr (sr (sr (sr (sr (sr σ 16 b16) 17 b17) 18 b18) 19 b19) 20 b20) 21 b21) := by
  refine MV.mk (by decide +kernel) (Nat.le_of_ble_eq_true rfl) ?_
  intro p e s m args below meth c ls A Q hret hC hw hl
  have hC : Cxt E p s m args meth c cX1_putBack 3 none RX1 A := hC
  have hl : lv_has ls 3 [(0, .ref (a 62)), (1, .int (nI h))] := hl
  have hnh := hS.1
  have hnj := hS.2.1
  refine lv_iconst (v := nI 0) hC.1 hC.2.1 dX1_putBack_0 (by decide) ?_
  refine lv_istore_n (lv' := [(2, .int (nI 0)), (0, .ref (a 62)), (1, .int (nI h))]) hC.1 hC.2.1 dX1_putBack_1 rfl hl (by decide) rfl (fun ls hl => ?_)
  have L2_0 : ∀ (n : Nat), ∀ (k : Nat), ∀ (d16 : Nat → Int32), ∀ (d17 : Nat → Int32), ∀ (d18 : Nat → Int32), ∀ (d19 : Nat → Int32), ∀ (d20 : Nat → Int32), ∀ (d21 : Nat → Int32), (k ≤ gn) → (FSr E0 (Qs k) nh nj d16 d17 d18 d19 d20 d21) → (gn - k) < n → ∀ (H : Heap) (locs : List Loc) (ls : Array Slot), Wst E (XW E a) (sr (sr (sr (sr (sr (sr σ 16 (d16)) 17 (d17)) 18 (d18)) 19 (d19)) 20 (d20)) 21 (d21)) A s.heap H locs → lv_has ls 3 [(0, .ref (a 62)), (1, .int (nI h)), (2, .int (nI k))] → W p l e ({ frames := 2, cells := 0, slots := 0, locals := 46 }) s m args below meth c H locs 0 0 Q (F0 m 2 ls []) := by
    intro n
    induction n with
    | zero => intro k d16 d17 d18 d19 d20 d21 hk hF hn; exact absurd hn (Nat.not_lt_zero _)
    | succ n ih2 =>
      intro k d16 d17 d18 d19 d20 d21 hk hF hn2 H locs ls hw hl
      refine lv_iload_n hC.1 hC.2.1 dX1_putBack_2 rfl (lv_at hl 2 rfl) ?_
      refine lv_aload_n hC.1 hC.2.1 dX1_putBack_3 rfl (lv_at hl 0 rfl) ?_
      refine gf_X1_49 (v := nI gn) hC hw ht dX1_putBack_4 ?_
      refine q_cmpge hC 31 (cNle (by omega) (by omega)) dX1_putBack_7 (by decide) (fun (c2 : gn ≤ k) => ?_) (fun (c2 : k < gn) => ?_)
      · refine hret _ _ _ _ _ hw ?_ dX1_putBack_31
        have hk9 : k = gn := by omega
        subst hk9
        exact ⟨d16, d17, d18, d19, d20, d21, hF, rfl⟩
      · refine lv_aload_n hC.1 hC.2.1 dX1_putBack_10 rfl (lv_at hl 0 rfl) ?_
        refine gf_X1_15 hC hw dX1_putBack_11 ?_
        refine lv_aload_n hC.1 hC.2.1 dX1_putBack_14 rfl (lv_at hl 0 rfl) ?_
        refine gf_X1_9 hC hw dX1_putBack_15 ?_
        refine lv_iload_n hC.1 hC.2.1 dX1_putBack_18 rfl (lv_at hl 2 rfl) ?_
        have hgw := (hgo k (by omega)).2
        refine al_X22 (v := nI (w k)) hC hw (by omega) (hgo k (by omega)).1 dX1_putBack_19 ?_
        refine lv_iload_n hC.1 hC.2.1 dX1_putBack_20 rfl (lv_at hl 1 rfl) ?_
        refine lv_iconst (v := nI 1) hC.1 hC.2.1 dX1_putBack_21 (by decide) ?_
        refine q_callVv (As := [.int (nI (w k)), .int (nI h), .int (nI 1)]) (rest := []) (q0 := 5) hC hw hl (tX4_tally l E a (sr (sr (sr (sr (sr (sr σ 16 (d16)) 17 (d17)) 18 (d18)) 19 (d19)) 20 (d20)) 21 (d21)) nh nj E0 (Qs k) (Qs (k + 1)) (w k) h 1 hN hE hS hF hgw.2 hgw.1 hh) (q_cwV hC.2.2.2.2.1 ⟨rfl, rfl⟩ wk3_71 wk2_201 wk2_202 wk1_4 wk2_203 hd_X4_tally ⟨Nat.le_of_ble_eq_true rfl, Nat.le_of_ble_eq_true rfl⟩) rfl rfl rfl rfl rfl (Nat.le_of_ble_eq_true rfl) dX1_putBack_22 (fun u5 H locs p3 hw => ?_)
        obtain ⟨b16_6, b17_7, b18_8, b19_9, b20_10, b21_11, hFu5, huu5⟩ := p3
        subst huu5
        have hst_ : sr (sr (sr (sr (sr (sr (sr (sr (sr (sr (sr (sr σ 16 (d16)) 17 (d17)) 18 (d18)) 19 (d19)) 20 (d20)) 21 (d21)) 16 b16_6) 17 b17_7) 18 b18_8) 19 b19_9) 20 b20_10) 21 b21_11 = sr (sr (sr (sr (sr (sr σ 16 (b16_6)) 17 (b17_7)) 18 (b18_8)) 19 (b19_9)) 20 (b20_10)) 21 (b21_11) := by
          funext j_ x_
          by_cases e0 : j_ = 0
          · subst e0
            rfl
          · by_cases e16 : j_ = 16
            · subst e16; rfl
            · by_cases e17 : j_ = 17
              · subst e17; rfl
              · by_cases e18 : j_ = 18
                · subst e18; rfl
                · by_cases e19 : j_ = 19
                  · subst e19; rfl
                  · by_cases e20 : j_ = 20
                    · subst e20; rfl
                    · by_cases e21 : j_ = 21
                      · subst e21; rfl
                      · simp only [sr, e0, e16, e17, e18, e19, e20, e21, if_false]
        rw [hst_] at hw
        refine lv_iinc (v := nI (k + 1)) (lv' := [(2, .int (nI (k + 1))), (0, .ref (a 62)), (1, .int (nI h))]) hC.1 hC.2.1 dX1_putBack_25 hl (k := 2) rfl (nI_add _ _) (by decide) rfl (fun ls hl => ?_)
        refine lv_goto (tgt := 2) hC.1 hC.2.1 dX1_putBack_28 (by decide) ?_
        exact ih2 (k + 1) b16_6 b17_7 b18_8 b19_9 b20_10 b21_11 (by omega) hFu5 (by omega) _ _ _ hw (lv_sub hl [1, 2, 0] rfl)
  have hst_ : σ = sr (sr (sr (sr (sr (sr σ 16 (σ 16)) 17 (σ 17)) 18 (σ 18)) 19 (σ 19)) 20 (σ 20)) 21 (σ 21) := by
    funext j_ x_
    by_cases e0 : j_ = 0
    · subst e0
      rfl
    · by_cases e16 : j_ = 16
      · subst e16; rfl
      · by_cases e17 : j_ = 17
        · subst e17; rfl
        · by_cases e18 : j_ = 18
          · subst e18; rfl
          · by_cases e19 : j_ = 19
            · subst e19; rfl
            · by_cases e20 : j_ = 20
              · subst e20; rfl
              · by_cases e21 : j_ = 21
                · subst e21; rfl
                · simp only [sr, e0, e16, e17, e18, e19, e20, e21, if_false]
  rw [hst_] at hw
  exact L2_0 _ 0 (σ 16) (σ 17) (σ 18) (σ 19) (σ 20) (σ 21) (Nat.zero_le _) hFS (Nat.lt_succ_self _) _ _ _ hw (lv_sub hl [1, 2, 0] rfl)
set_option maxHeartbeats 4000000 in
set_option maxRecDepth 100000 in
theorem tX1_clear (l : Launch) (E : EV) (a : Nat → Nat) (σ : St) (nh : Nat) (nj : Nat) (E0 : St) (v : Nat → Int32) (j : Nat) (h : Nat) (hN : cN2 σ nh nj) (hE : aE σ E0) (hS : cS E0 nh nj) (hFS : FSr E0 (pB (eM v) (-1)) nh nj (σ 16) (σ 17) (σ 18) (σ 19) (σ 20) (σ 21)) (hX : JX σ v nj) (hA : agE E0 (eM v) nh nj) (hW : mF v nh nj) (hD : TD v nj) (hj : j < nj) (hh : h < nh) (hj0 : eM v 11 j = 0) : MI l E (XW E a) yX1_clear (Cond.code yX1_clear cX1_clear 4 (some .boolean)) ({ frames := 3, cells := 0, slots := 0, locals := 73 }) [.ref (a 62), .int (nI j), .int (nI h)] σ (fun r_ u_ => ∃ (b16 b17 b18 b19 b20 b21 b22 : Nat → Int32), FSr E0 (pB (eM (go_v v nj j h (go_T v nh nj j h))) (-1)) nh nj b16 b17 b18 b19 b20 b21 ∧ (∀ k, k < go_T v nh nj j h → b22 k = nI (go_w v nj j h k)) ∧ r_ = (if go_y v nh nj j h (go_T v nh nj j h) = 0 then (1 : Int32) else 0) ∧ u_ = sr (sr (sr (sr (sr (sr (sr (sr σ 16 b16) 17 b17) 18 b18) 19 b19) 20 b20) 21 b21) 22 b22) 0 (upd (σ 0) 5 (nI (go_T v nh nj j h)))) := by
  refine MI.mk (by decide +kernel) (Nat.le_of_ble_eq_true rfl) ?_
  intro p e s m args below meth c ls A Q hret hC hw hl
  have hC : Cxt E p s m args meth c cX1_clear 4 (some .boolean) RX1 A := hC
  have hl : lv_has ls 4 [(0, .ref (a 62)), (1, .int (nI j)), (2, .int (nI h))] := hl
  have hnh := hS.1
  have hnj := hS.2.1
  have h24 := hS.2.1
  refine lv_aload_n hC.1 hC.2.1 dX1_clear_0 rfl (lv_at hl 0 rfl) ?_
  refine lv_iconst (v := nI 0) hC.1 hC.2.1 dX1_clear_1 (by decide) ?_
  refine pf_X1_49 hC hw dX1_clear_2 (fun H locs hw => ?_)
  have hw : Wst E (XW E a) (sr σ 0 (upd (σ 0) 5 (nI 0))) A s.heap H locs := hw
  have L5_0 : ∀ (n : Nat), ∀ (t : Nat), ∀ (d16 : Nat → Int32), ∀ (d17 : Nat → Int32), ∀ (d18 : Nat → Int32), ∀ (d19 : Nat → Int32), ∀ (d20 : Nat → Int32), ∀ (d21 : Nat → Int32), ∀ (d22 : Nat → Int32), (t ≤ 24) → (go_n v nh nj j h (25 - t) t = go_T v nh nj j h) → (GoK v nj j h t) → (FSr E0 (pB (eM (go_v v nj j h t)) (-1)) nh nj d16 d17 d18 d19 d20 d21) → (∀ k, k < t → d22 k = nI (go_w v nj j h k)) → (25 - t) < n → ∀ (H : Heap) (locs : List Loc) (ls : Array Slot), Wst E (XW E a) (sr (sr (sr (sr (sr (sr (sr (sr σ 16 (d16)) 17 (d17)) 18 (d18)) 19 (d19)) 20 (d20)) 21 (d21)) 22 (d22)) 0 (upd (σ 0) 5 (nI t))) A s.heap H locs → lv_has ls 4 [(0, .ref (a 62)), (1, .int (nI j)), (2, .int (nI h))] → W p l e ({ frames := 3, cells := 0, slots := 0, locals := 73 }) s m args below meth c H locs 0 0 Q (F0 m 5 ls []) := by
    intro n
    induction n with
    | zero => intro t d16 d17 d18 d19 d20 d21 d22 ht hTn hG hF hgo hn; exact absurd hn (Nat.not_lt_zero _)
    | succ n ih5 =>
      intro t d16 d17 d18 d19 d20 d21 d22 ht hTn hG hF hgo hn5 H locs ls hw hl
      refine lv_aload_n hC.1 hC.2.1 dX1_clear_5 rfl (lv_at hl 0 rfl) ?_
      refine gf_X1_49 (v := nI t) hC hw rfl dX1_clear_6 ?_
      refine lv_bipush (v := nI 24) hC.1 hC.2.1 dX1_clear_9 (by decide) ?_
      refine q_cmpge hC 73 (cNle (by omega) (by omega)) dX1_clear_11 (by decide) (fun (c2 : 24 ≤ t) => ?_) (fun (c2 : t < 24) => ?_)
      · refine lv_aload_n hC.1 hC.2.1 dX1_clear_73 rfl (lv_at hl 0 rfl) ?_
        refine gf_X1_15 hC hw dX1_clear_74 ?_
        refine lv_iload_n hC.1 hC.2.1 dX1_clear_77 rfl (lv_at hl 1 rfl) ?_
        refine lv_iload_n hC.1 hC.2.1 dX1_clear_78 rfl (lv_at hl 2 rfl) ?_
        refine q_callVp (As := [.int (nI j), .int (nI h)]) (rest := []) (q0 := 5) hC hw hl (tX4_fits l E a (sr (sr (sr (sr (sr (sr (sr (sr σ 16 (d16)) 17 (d17)) 18 (d18)) 19 (d19)) 20 (d20)) 21 (d21)) 22 (d22)) 0 (upd (σ 0) 5 (nI t))) nh nj E0 (pB (eM (go_v v nj j h t)) (-1)) j h hN hE hS hF hj hh) (q_cwV hC.2.2.2.2.1 ⟨rfl, rfl⟩ wk3_50 wk3_37 wk3_38 wk1_4 wk3_39 hd_X4_fits ⟨Nat.le_of_ble_eq_true rfl, Nat.le_of_ble_eq_true rfl⟩) rfl rfl rfl rfl rfl (Nat.le_of_ble_eq_true rfl) dX1_clear_79 (fun H locs hw => ?_)
        refine hret _ _ _ _ _ _ hw ?_ nz_B dX1_clear_82
        have hTt : go_T v nh nj j h = t := by
          have q : t = 24 := by omega
          subst q
          exact go_24 hTn h24
        rw [hTt]
        exact ⟨d16, d17, d18, d19, d20, d21, d22, hF, hgo, by rw [cgo_y hA hW hj hh hj0], rfl⟩
      · refine lv_aload_n hC.1 hC.2.1 dX1_clear_14 rfl (lv_at hl 0 rfl) ?_
        refine gf_X1_15 hC hw dX1_clear_15 ?_
        refine lv_iload_n hC.1 hC.2.1 dX1_clear_18 rfl (lv_at hl 1 rfl) ?_
        refine lv_iload_n hC.1 hC.2.1 dX1_clear_19 rfl (lv_at hl 2 rfl) ?_
        refine q_callVp (As := [.int (nI j), .int (nI h)]) (rest := []) (q0 := 5) hC hw hl (tX4_fits l E a (sr (sr (sr (sr (sr (sr (sr (sr σ 16 (d16)) 17 (d17)) 18 (d18)) 19 (d19)) 20 (d20)) 21 (d21)) 22 (d22)) 0 (upd (σ 0) 5 (nI t))) nh nj E0 (pB (eM (go_v v nj j h t)) (-1)) j h hN hE hS hF hj hh) (q_cwV hC.2.2.2.2.1 ⟨rfl, rfl⟩ wk3_50 wk3_37 wk3_38 wk1_4 wk3_39 hd_X4_fits ⟨Nat.le_of_ble_eq_true rfl, Nat.le_of_ble_eq_true rfl⟩) rfl rfl rfl rfl rfl (Nat.le_of_ble_eq_true rfl) dX1_clear_20 (fun H locs hw => ?_)
        refine q_ifne hC 73 cB dX1_clear_23 (by decide) (fun (c9 : m_why E0 (pB (eM (go_v v nj j h t)) (-1)) nh nj j h = 0) => ?_) (fun (c9 : ¬ (m_why E0 (pB (eM (go_v v nj j h t)) (-1)) nh nj j h = 0)) => ?_)
        · refine lv_aload_n hC.1 hC.2.1 dX1_clear_73 rfl (lv_at hl 0 rfl) ?_
          refine gf_X1_15 hC hw dX1_clear_74 ?_
          refine lv_iload_n hC.1 hC.2.1 dX1_clear_77 rfl (lv_at hl 1 rfl) ?_
          refine lv_iload_n hC.1 hC.2.1 dX1_clear_78 rfl (lv_at hl 2 rfl) ?_
          refine q_callVp (As := [.int (nI j), .int (nI h)]) (rest := []) (q0 := 5) hC hw hl (tX4_fits l E a (sr (sr (sr (sr (sr (sr (sr (sr σ 16 (d16)) 17 (d17)) 18 (d18)) 19 (d19)) 20 (d20)) 21 (d21)) 22 (d22)) 0 (upd (σ 0) 5 (nI t))) nh nj E0 (pB (eM (go_v v nj j h t)) (-1)) j h hN hE hS hF hj hh) (q_cwV hC.2.2.2.2.1 ⟨rfl, rfl⟩ wk3_50 wk3_37 wk3_38 wk1_4 wk3_39 hd_X4_fits ⟨Nat.le_of_ble_eq_true rfl, Nat.le_of_ble_eq_true rfl⟩) rfl rfl rfl rfl rfl (Nat.le_of_ble_eq_true rfl) dX1_clear_79 (fun H locs hw => ?_)
          refine hret _ _ _ _ _ _ hw ?_ nz_B dX1_clear_82
          have hTt : go_T v nh nj j h = t := go_n_stop hTn ht (Or.inl ((cgo_y hA hW hj hh hj0).symm.trans c9))
          rw [hTt]
          exact ⟨d16, d17, d18, d19, d20, d21, d22, hF, hgo, by rw [cgo_y hA hW hj hh hj0], rfl⟩
        · refine lv_aload_n hC.1 hC.2.1 dX1_clear_26 rfl (lv_at hl 0 rfl) ?_
          refine lv_iload_n hC.1 hC.2.1 dX1_clear_27 rfl (lv_at hl 1 rfl) ?_
          refine lv_iload_n hC.1 hC.2.1 dX1_clear_28 rfl (lv_at hl 2 rfl) ?_
          refine q_callVp (As := [.int (nI j), .int (nI h)]) (rest := []) (q0 := 2) hC hw hl (tX1_nextToGo l E a (sr (sr (sr (sr (sr (sr (sr (sr σ 16 (d16)) 17 (d17)) 18 (d18)) 19 (d19)) 20 (d20)) 21 (d21)) 22 (d22)) 0 (upd (σ 0) 5 (nI t))) nh nj t (go_w v nj j h) j h hN rfl ht (fun k hk => ⟨hgo k hk, by have := (hG.lt h24 k hk).1; omega⟩) (by first | assumption | omega) h24 (by omega)) (q_cwV hC.2.2.2.2.1 ⟨rfl, rfl⟩ wk3_51 wk3_53 wks_1_2 wk1_6 wk3_54 hd_X1_nextToGo ⟨Nat.le_of_ble_eq_true rfl, Nat.le_of_ble_eq_true rfl⟩) rfl rfl rfl rfl rfl (Nat.le_of_ble_eq_true rfl) dX1_clear_29 (fun H locs hw => ?_)
          refine q_top (y := m_nx (go_v v nj j h t) j h nj) (nx_eq (σ := sr (sr (sr (sr (sr (sr (sr (sr σ 16 (d16)) 17 (d17)) 18 (d18)) 19 (d19)) 20 (d20)) 21 (d21)) 22 (d22)) 0 (upd (σ 0) 5 (nI t))) (fun k hk => hX k hk) hj h24 hD hG (fun _ _ => rfl) nj (Nat.le_refl _)) ?_
          refine lv_istore_n (lv' := [(3, .int (m_nx (go_v v nj j h t) j h nj)), (0, .ref (a 62)), (1, .int (nI j)), (2, .int (nI h))]) hC.1 hC.2.1 dX1_clear_32 rfl hl (by decide) rfl (fun ls hl => ?_)
          refine lv_iload_n hC.1 hC.2.1 dX1_clear_33 rfl (lv_at hl 0 rfl) ?_
          refine lv_iconst (v := (-1)) hC.1 hC.2.1 dX1_clear_34 (by decide) ?_
          refine q_cmpne hC 40 cI dX1_clear_35 (by decide) (fun (c16 : ¬ ((m_nx (go_v v nj j h t) j h nj) = (-1))) => ?_) (fun (c16 : (m_nx (go_v v nj j h t) j h nj) = (-1)) => ?_)
          · have hm0 : ¬ m_nx (go_v v nj j h t) j h nj < 0 := fun q => c16 (nx_neg q)
            have hmn := m_nx_nat (show nj < 2 ^ 31 by omega) hm0
            rw [hmn.1] at hl
            refine lv_aload_n hC.1 hC.2.1 dX1_clear_40 rfl (lv_at hl 1 rfl) ?_
            refine gf_X1_15 hC hw dX1_clear_41 ?_
            refine lv_iload_n hC.1 hC.2.1 dX1_clear_44 rfl (lv_at hl 0 rfl) ?_
            refine lv_iload_n hC.1 hC.2.1 dX1_clear_45 rfl (lv_at hl 3 rfl) ?_
            refine lv_iconst (v := (-1)) hC.1 hC.2.1 dX1_clear_46 (by decide) ?_
            refine q_callVv (As := [.int (nI (cN (m_nx (go_v v nj j h t) j h nj))), .int (nI h), .int ((-1))]) (rest := []) (q0 := 5) hC hw hl (tX4_tally l E a (sr (sr (sr (sr (sr (sr (sr (sr σ 16 (d16)) 17 (d17)) 18 (d18)) 19 (d19)) 20 (d20)) 21 (d21)) 22 (d22)) 0 (upd (σ 0) 5 (nI t))) nh nj E0 (pB (eM (go_v v nj j h t)) (-1)) (pB (eM (go_v v nj j h (t + 1))) (-1)) (cN (m_nx (go_v v nj j h t) j h nj)) h (-1) hN hE hS hF (go_TL h24 hm0) hmn.2 hh) (q_cwV hC.2.2.2.2.1 ⟨rfl, rfl⟩ wk3_71 wk2_201 wk2_202 wk1_4 wk2_203 hd_X4_tally ⟨Nat.le_of_ble_eq_true rfl, Nat.le_of_ble_eq_true rfl⟩) rfl rfl rfl rfl rfl (Nat.le_of_ble_eq_true rfl) dX1_clear_47 (fun u19 H locs p17 hw => ?_)
            obtain ⟨b16_20, b17_21, b18_22, b19_23, b20_24, b21_25, hFu19, huu19⟩ := p17
            subst huu19
            have hst_ : sr (sr (sr (sr (sr (sr (sr (sr (sr (sr (sr (sr (sr (sr σ 16 (d16)) 17 (d17)) 18 (d18)) 19 (d19)) 20 (d20)) 21 (d21)) 22 (d22)) 0 (upd (σ 0) 5 (nI t))) 16 b16_20) 17 b17_21) 18 b18_22) 19 b19_23) 20 b20_24) 21 b21_25 = sr (sr (sr (sr (sr (sr (sr (sr σ 16 (b16_20)) 17 (b17_21)) 18 (b18_22)) 19 (b19_23)) 20 (b20_24)) 21 (b21_25)) 22 (d22)) 0 (upd (σ 0) 5 (nI t)) := by
              funext j_ x_
              by_cases e0 : j_ = 0
              · subst e0
                by_cases y5 : x_ = 5
                · subst y5; rfl
                · simp [sr, upd, y5]
              · by_cases e16 : j_ = 16
                · subst e16; rfl
                · by_cases e17 : j_ = 17
                  · subst e17; rfl
                  · by_cases e18 : j_ = 18
                    · subst e18; rfl
                    · by_cases e19 : j_ = 19
                      · subst e19; rfl
                      · by_cases e20 : j_ = 20
                        · subst e20; rfl
                        · by_cases e21 : j_ = 21
                          · subst e21; rfl
                          · by_cases e22 : j_ = 22
                            · subst e22; rfl
                            · simp only [sr, e0, e16, e17, e18, e19, e20, e21, e22, if_false]
            rw [hst_] at hw
            refine lv_aload_n hC.1 hC.2.1 dX1_clear_50 rfl (lv_at hl 1 rfl) ?_
            refine gf_X1_9 hC hw dX1_clear_51 ?_
            refine lv_aload_n hC.1 hC.2.1 dX1_clear_54 rfl (lv_at hl 1 rfl) ?_
            refine gf_X1_49 (v := nI t) hC hw rfl dX1_clear_55 ?_
            refine lv_iload_n hC.1 hC.2.1 dX1_clear_58 rfl (lv_at hl 0 rfl) ?_
            refine as_X22 hC hw (by omega) dX1_clear_59 (fun H locs hw => ?_)
            have hw : Wst E (XW E a) (sr (sr (sr (sr (sr (sr (sr (sr (sr σ 16 (b16_20)) 17 (b17_21)) 18 (b18_22)) 19 (b19_23)) 20 (b20_24)) 21 (b21_25)) 22 (d22)) 0 (upd (σ 0) 5 (nI t))) 22 (upd (d22) t (nI (cN (m_nx (go_v v nj j h t) j h nj))))) A s.heap H locs := hw
            have hst_ : sr (sr (sr (sr (sr (sr (sr (sr (sr σ 16 (b16_20)) 17 (b17_21)) 18 (b18_22)) 19 (b19_23)) 20 (b20_24)) 21 (b21_25)) 22 (d22)) 0 (upd (σ 0) 5 (nI t))) 22 (upd (d22) t (nI (cN (m_nx (go_v v nj j h t) j h nj)))) = sr (sr (sr (sr (sr (sr (sr (sr σ 16 (b16_20)) 17 (b17_21)) 18 (b18_22)) 19 (b19_23)) 20 (b20_24)) 21 (b21_25)) 22 (upd (d22) t (nI (cN (m_nx (go_v v nj j h t) j h nj))))) 0 (upd (σ 0) 5 (nI t)) := by
              funext j_ x_
              by_cases e0 : j_ = 0
              · subst e0
                by_cases y5 : x_ = 5
                · subst y5; rfl
                · simp [sr, upd, y5]
              · by_cases e16 : j_ = 16
                · subst e16; rfl
                · by_cases e17 : j_ = 17
                  · subst e17; rfl
                  · by_cases e18 : j_ = 18
                    · subst e18; rfl
                    · by_cases e19 : j_ = 19
                      · subst e19; rfl
                      · by_cases e20 : j_ = 20
                        · subst e20; rfl
                        · by_cases e21 : j_ = 21
                          · subst e21; rfl
                          · by_cases e22 : j_ = 22
                            · subst e22; rfl
                            · simp only [sr, e0, e16, e17, e18, e19, e20, e21, e22, if_false]
            rw [hst_] at hw
            refine lv_aload_n hC.1 hC.2.1 dX1_clear_60 rfl (lv_at hl 1 rfl) ?_
            refine lv_dup hC.1 hC.2.1 dX1_clear_61 rfl ?_
            refine gf_X1_49 (v := nI t) hC hw rfl dX1_clear_62 ?_
            refine lv_iconst (v := nI 1) hC.1 hC.2.1 dX1_clear_65 (by decide) ?_
            refine q_addN hC dX1_clear_66 ?_
            refine pf_X1_49 hC hw dX1_clear_67 (fun H locs hw => ?_)
            have hw : Wst E (XW E a) (sr (sr (sr (sr (sr (sr (sr (sr (sr σ 16 (b16_20)) 17 (b17_21)) 18 (b18_22)) 19 (b19_23)) 20 (b20_24)) 21 (b21_25)) 22 (upd (d22) t (nI (cN (m_nx (go_v v nj j h t) j h nj))))) 0 (upd (σ 0) 5 (nI t))) 0 (upd (upd (σ 0) 5 (nI t)) 5 (nI (t + 1)))) A s.heap H locs := hw
            have hst_ : sr (sr (sr (sr (sr (sr (sr (sr (sr σ 16 (b16_20)) 17 (b17_21)) 18 (b18_22)) 19 (b19_23)) 20 (b20_24)) 21 (b21_25)) 22 (upd (d22) t (nI (cN (m_nx (go_v v nj j h t) j h nj))))) 0 (upd (σ 0) 5 (nI t))) 0 (upd (upd (σ 0) 5 (nI t)) 5 (nI (t + 1))) = sr (sr (sr (sr (sr (sr (sr (sr σ 16 (b16_20)) 17 (b17_21)) 18 (b18_22)) 19 (b19_23)) 20 (b20_24)) 21 (b21_25)) 22 (upd (d22) t (nI (cN (m_nx (go_v v nj j h t) j h nj))))) 0 (upd (σ 0) 5 (nI (t + 1))) := by
              funext j_ x_
              by_cases e0 : j_ = 0
              · subst e0
                by_cases y5 : x_ = 5
                · subst y5; rfl
                · simp [sr, upd, y5]
              · by_cases e16 : j_ = 16
                · subst e16; rfl
                · by_cases e17 : j_ = 17
                  · subst e17; rfl
                  · by_cases e18 : j_ = 18
                    · subst e18; rfl
                    · by_cases e19 : j_ = 19
                      · subst e19; rfl
                      · by_cases e20 : j_ = 20
                        · subst e20; rfl
                        · by_cases e21 : j_ = 21
                          · subst e21; rfl
                          · by_cases e22 : j_ = 22
                            · subst e22; rfl
                            · simp only [sr, e0, e16, e17, e18, e19, e20, e21, e22, if_false]
            rw [hst_] at hw
            refine lv_goto (tgt := 5) hC.1 hC.2.1 dX1_clear_70 (by decide) ?_
            exact ih5 (t + 1) b16_20 b17_21 b18_22 b19_23 b20_24 b21_25 (upd (d22) t (nI (cN (m_nx (go_v v nj j h t) j h nj)))) (by omega) ((go_n_go ht (fun q => c9 ((cgo_y hA hW hj hh hj0).trans q)) hm0).symm.trans hTn) (fun x hx => by by_cases z : x = t; (subst z; exact hm0); exact hG x (by omega)) hFu19 (fun x hx => by by_cases z : x = t; (subst z; exact ups); exact (upn z).trans (hgo x (by omega))) (by omega) _ _ _ hw (lv_sub hl [1, 2, 3] rfl)
          · refine lv_iconst (v := nI 0) hC.1 hC.2.1 dX1_clear_38 (by decide) ?_
            refine hret _ _ _ _ _ _ hw ?_ (by decide) dX1_clear_39
            have hTt : go_T v nh nj j h = t := go_n_stop hTn ht (Or.inr (by rw [c16]; decide))
            rw [hTt]
            exact ⟨d16, d17, d18, d19, d20, d21, d22, hF, hgo, (if_neg (fun q => c9 ((cgo_y hA hW hj hh hj0).trans q))).symm, rfl⟩
  have hst_ : sr σ 0 (upd (σ 0) 5 (nI 0)) = sr (sr (sr (sr (sr (sr (sr (sr σ 16 (σ 16)) 17 (σ 17)) 18 (σ 18)) 19 (σ 19)) 20 (σ 20)) 21 (σ 21)) 22 (σ 22)) 0 (upd (σ 0) 5 (nI 0)) := by
    funext j_ x_
    by_cases e0 : j_ = 0
    · subst e0
      by_cases y5 : x_ = 5
      · subst y5; rfl
      · simp [sr, upd, y5]
    · by_cases e16 : j_ = 16
      · subst e16; rfl
      · by_cases e17 : j_ = 17
        · subst e17; rfl
        · by_cases e18 : j_ = 18
          · subst e18; rfl
          · by_cases e19 : j_ = 19
            · subst e19; rfl
            · by_cases e20 : j_ = 20
              · subst e20; rfl
              · by_cases e21 : j_ = 21
                · subst e21; rfl
                · by_cases e22 : j_ = 22
                  · subst e22; rfl
                  · simp only [sr, e0, e16, e17, e18, e19, e20, e21, e22, if_false]
  rw [hst_] at hw
  exact L5_0 _ 0 (σ 16) (σ 17) (σ 18) (σ 19) (σ 20) (σ 21) (σ 22) (by omega) rfl (fun x hx => absurd hx (Nat.not_lt_zero _)) hFS (fun x hx => absurd hx (Nat.not_lt_zero _)) (Nat.lt_succ_self _) _ _ _ hw (lv_sub hl [0, 1, 2] rfl)
set_option maxHeartbeats 4000000 in
set_option maxRecDepth 100000 in
theorem tX1_bestHost (l : Launch) (E : EV) (a : Nat → Nat) (σ : St) (nh : Nat) (nj : Nat) (E0 : St) (v : Nat → Int32) (j : Nat) (hN : cN2 σ nh nj) (hE : aE σ E0) (hS : cS E0 nh nj) (hFS : FSr E0 (pB (eM v) (-1)) nh nj (σ 16) (σ 17) (σ 18) (σ 19) (σ 20) (σ 21)) (hX : JX σ v nj) (hA : agE E0 (eM v) nh nj) (hW : mF v nh nj) (hD : TD v nj) (hPr : ∀ k, k < nj → ¬ eM v 7 k < 0) (hj : j < nj) (hj0 : eM v 11 j = 0) (hno : ∀ x, x < nh → ¬ go_y v nh nj j x 0 = 0) : MI l E (XW E a) yX1_bestHost (Cond.code yX1_bestHost cX1_bestHost 9 (some .int)) ({ frames := 4, cells := 0, slots := 0, locals := 96 }) [.ref (a 62), .int (nI j)] σ (fun r_ u_ => ∃ (b16 b17 b18 b19 b20 b21 b22 : Nat → Int32) (z5 : Int32), FSr E0 (pB (eM v) (-1)) nh nj b16 b17 b18 b19 b20 b21 ∧ r_ = (if eM v 5 j = 3 then -1 else if (p_b v nh nj j nh).1 < 0 then -1 else (p_b v nh nj j nh).1) ∧ u_ = sr (sr (sr (sr (sr (sr (sr (sr σ 16 b16) 17 b17) 18 b18) 19 b19) 20 b20) 21 b21) 22 b22) 0 (upd (σ 0) 5 z5)) := by
  refine MI.mk (by decide +kernel) (Nat.le_of_ble_eq_true rfl) ?_
  intro p e s m args below meth c ls A Q hret hC hw hl
  have hC : Cxt E p s m args meth c cX1_bestHost 9 (some .int) RX1 A := hC
  have hl : lv_has ls 9 [(0, .ref (a 62)), (1, .int (nI j))] := hl
  have hnh := hS.1
  have hnj := hS.2.1
  have h24 := hS.2.1
  refine lv_aload_n hC.1 hC.2.1 dX1_bestHost_0 rfl (lv_at hl 0 rfl) ?_
  refine gf_X1_25 hC hw dX1_bestHost_1 ?_
  refine gf_X1_26 hC hw dX1_bestHost_4 ?_
  refine lv_iload_n hC.1 hC.2.1 dX1_bestHost_7 rfl (lv_at hl 1 rfl) ?_
  refine al_X5 (v := σ 5 j) hC hw (by omega) rfl dX1_bestHost_8 ?_
  refine lv_iconst (v := nI 3) hC.1 hC.2.1 dX1_bestHost_9 (by decide) ?_
  refine q_cmpne hC 15 cI dX1_bestHost_10 (by decide) (fun (c1 : ¬ (σ 5 j = 3)) => ?_) (fun (c1 : σ 5 j = 3) => ?_)
  · refine lv_iconst (v := (-1)) hC.1 hC.2.1 dX1_bestHost_15 (by decide) ?_
    refine lv_istore_n (lv' := [(2, .int ((-1))), (0, .ref (a 62)), (1, .int (nI j))]) hC.1 hC.2.1 dX1_bestHost_16 rfl hl (by decide) rfl (fun ls hl => ?_)
    refine lv_iconst (v := nI 0) hC.1 hC.2.1 dX1_bestHost_17 (by decide) ?_
    refine lv_istore_n (lv' := [(3, .int (nI 0)), (2, .int ((-1))), (0, .ref (a 62)), (1, .int (nI j))]) hC.1 hC.2.1 dX1_bestHost_18 rfl hl (by decide) rfl (fun ls hl => ?_)
    refine lv_iconst (v := nI 0) hC.1 hC.2.1 dX1_bestHost_19 (by decide) ?_
    refine lv_istore (lv' := [(4, .int (nI 0)), (3, .int (nI 0)), (2, .int ((-1))), (0, .ref (a 62)), (1, .int (nI j))]) hC.1 hC.2.1 dX1_bestHost_20 hl (by decide) rfl (fun ls hl => ?_)
    refine lv_iconst (v := nI 0) hC.1 hC.2.1 dX1_bestHost_22 (by decide) ?_
    refine lv_istore (lv' := [(5, .int (nI 0)), (4, .int (nI 0)), (3, .int (nI 0)), (2, .int ((-1))), (0, .ref (a 62)), (1, .int (nI j))]) hC.1 hC.2.1 dX1_bestHost_23 hl (by decide) rfl (fun ls hl => ?_)
    have L25_1 : ∀ (n : Nat), ∀ (x : Nat), ∀ (be : Int32), ∀ (lp : Int32), ∀ (fg : Int32), ∀ (d16 : Nat → Int32), ∀ (d17 : Nat → Int32), ∀ (d18 : Nat → Int32), ∀ (d19 : Nat → Int32), ∀ (d20 : Nat → Int32), ∀ (d21 : Nat → Int32), ∀ (d22 : Nat → Int32), ∀ (z5 : Int32), (x ≤ nh) → (FSr E0 (pB (eM v) (-1)) nh nj d16 d17 d18 d19 d20 d21) → (AB v nh nj j x be lp fg) → (nh - x) < n → ∀ (H : Heap) (locs : List Loc) (ls : Array Slot), Wst E (XW E a) (sr (sr (sr (sr (sr (sr (sr (sr σ 16 (d16)) 17 (d17)) 18 (d18)) 19 (d19)) 20 (d20)) 21 (d21)) 22 (d22)) 0 (upd (σ 0) 5 (z5))) A s.heap H locs → lv_has ls 9 [(0, .ref (a 62)), (1, .int (nI j)), (2, .int (be)), (3, .int (lp)), (4, .int (fg)), (5, .int (nI x))] → W p l e ({ frames := 4, cells := 0, slots := 0, locals := 96 }) s m args below meth c H locs 0 0 Q (F0 m 25 ls []) := by
      intro n
      induction n with
      | zero => intro x be lp fg d16 d17 d18 d19 d20 d21 d22 z5 hx hF hab hn; exact absurd hn (Nat.not_lt_zero _)
      | succ n ih25 =>
        intro x be lp fg d16 d17 d18 d19 d20 d21 d22 z5 hx hF hab hn25 H locs ls hw hl
        refine lv_iload hC.1 hC.2.1 dX1_bestHost_25 (lv_at hl 5 rfl) ?_
        refine lv_aload_n hC.1 hC.2.1 dX1_bestHost_27 rfl (lv_at hl 0 rfl) ?_
        refine gf_X1_15 hC hw dX1_bestHost_28 ?_
        refine gf_X1_31 hC hw dX1_bestHost_31 ?_
        refine gf_X1_35 (v := nI nh) hC hw hN.1 dX1_bestHost_34 ?_
        refine q_cmpge hC 144 (cNle (by omega) (by omega)) dX1_bestHost_37 (by decide) (fun (c3 : nh ≤ x) => ?_) (fun (c3 : x < nh) => ?_)
        · refine lv_iload_n hC.1 hC.2.1 dX1_bestHost_144 rfl (lv_at hl 2 rfl) ?_
          refine hret _ _ _ _ _ _ hw ?_ rfl dX1_bestHost_145
          have hx9 : x = nh := by omega
          subst hx9
          exact ⟨d16, d17, d18, d19, d20, d21, d22, z5, hF, by rw [if_neg (fun q => c1 ((hX j hj).1.trans q))]; exact hab.1, rfl⟩
        · refine lv_aload_n hC.1 hC.2.1 dX1_bestHost_40 rfl (lv_at hl 0 rfl) ?_
          refine lv_iload_n hC.1 hC.2.1 dX1_bestHost_41 rfl (lv_at hl 1 rfl) ?_
          refine lv_iload hC.1 hC.2.1 dX1_bestHost_42 (lv_at hl 5 rfl) ?_
          refine q_callV (As := [.int (nI j), .int (nI x)]) (rest := []) (q0 := 2) hC hw hl (tX1_clear l E a (sr (sr (sr (sr (sr (sr (sr (sr σ 16 (d16)) 17 (d17)) 18 (d18)) 19 (d19)) 20 (d20)) 21 (d21)) 22 (d22)) 0 (upd (σ 0) 5 (z5))) nh nj E0 v j x hN hE hS hF (fun k hk => hX k hk) hA hW hD hj (by omega) hj0) (q_cwV hC.2.2.2.2.1 ⟨rfl, rfl⟩ wk3_46 wk3_47 wk3_48 wk1_6 wk3_49 hd_X1_clear ⟨Nat.le_of_ble_eq_true rfl, Nat.le_of_ble_eq_true rfl⟩) rfl rfl rfl rfl rfl (Nat.le_of_ble_eq_true rfl) dX1_bestHost_44 (fun r5 u6 H locs p4 hw => ?_)
          obtain ⟨b16_7, b17_8, b18_9, b19_10, b20_11, b21_12, b22_13, hFu6, hgou6, hru6, huu6⟩ := p4
          subst huu6 hru6
          have hst_ : sr (sr (sr (sr (sr (sr (sr (sr (sr (sr (sr (sr (sr (sr (sr (sr σ 16 (d16)) 17 (d17)) 18 (d18)) 19 (d19)) 20 (d20)) 21 (d21)) 22 (d22)) 0 (upd (σ 0) 5 (z5))) 16 b16_7) 17 b17_8) 18 b18_9) 19 b19_10) 20 b20_11) 21 b21_12) 22 b22_13) 0 (upd ((sr (sr (sr (sr (sr (sr (sr (sr σ 16 (d16)) 17 (d17)) 18 (d18)) 19 (d19)) 20 (d20)) 21 (d21)) 22 (d22)) 0 (upd (σ 0) 5 (z5))) 0) 5 (nI (go_T v nh nj j x))) = sr (sr (sr (sr (sr (sr (sr (sr σ 16 (b16_7)) 17 (b17_8)) 18 (b18_9)) 19 (b19_10)) 20 (b20_11)) 21 (b21_12)) 22 (b22_13)) 0 (upd (σ 0) 5 (nI (go_T v nh nj j x))) := by
            funext j_ x_
            by_cases e0 : j_ = 0
            · subst e0
              by_cases y5 : x_ = 5
              · subst y5; rfl
              · simp [sr, upd, y5]
            · by_cases e16 : j_ = 16
              · subst e16; rfl
              · by_cases e17 : j_ = 17
                · subst e17; rfl
                · by_cases e18 : j_ = 18
                  · subst e18; rfl
                  · by_cases e19 : j_ = 19
                    · subst e19; rfl
                    · by_cases e20 : j_ = 20
                      · subst e20; rfl
                      · by_cases e21 : j_ = 21
                        · subst e21; rfl
                        · by_cases e22 : j_ = 22
                          · subst e22; rfl
                          · simp only [sr, e0, e16, e17, e18, e19, e20, e21, e22, if_false]
          rw [hst_] at hw
          refine lv_istore (lv' := [(6, .int (if go_y v nh nj j x (go_T v nh nj j x) = 0 then (1 : Int32) else 0)), (0, .ref (a 62)), (1, .int (nI j)), (2, .int (be)), (3, .int (lp)), (4, .int (fg)), (5, .int (nI x))]) hC.1 hC.2.1 dX1_bestHost_47 hl (by decide) rfl (fun ls hl => ?_)
          refine lv_aload_n hC.1 hC.2.1 dX1_bestHost_49 rfl (lv_at hl 1 rfl) ?_
          refine lv_iload hC.1 hC.2.1 dX1_bestHost_50 (lv_at hl 6 rfl) ?_
          refine q_callVv (As := [.int (nI x)]) (rest := []) (q0 := 2) hC hw hl (tX1_putBack l E a (sr (sr (sr (sr (sr (sr (sr (sr σ 16 (b16_7)) 17 (b17_8)) 18 (b18_9)) 19 (b19_10)) 20 (b20_11)) 21 (b21_12)) 22 (b22_13)) 0 (upd (σ 0) 5 (nI (go_T v nh nj j x)))) nh nj E0 (go_T v nh nj j x) (go_w v nj j x) (fun k => pB (eM (rs_v v nj j x (go_T v nh nj j x) k)) (-1)) x hN hE hS hFu6 rfl (go_T_le h24) (fun k hk => ⟨hgou6 k hk, go_w_lt h24 hk, rs_TL (nh := nh) h24 hk⟩) (by omega)) (q_cwV hC.2.2.2.2.1 ⟨rfl, rfl⟩ wk3_72 wk3_74 wks_1_5 wk1_6 wk3_75 hd_X1_putBack ⟨Nat.le_of_ble_eq_true rfl, Nat.le_of_ble_eq_true rfl⟩) rfl rfl rfl rfl rfl (Nat.le_of_ble_eq_true rfl) dX1_bestHost_52 (fun u16 H locs p14 hw => ?_)
          obtain ⟨b16_17, b17_18, b18_19, b19_20, b20_21, b21_22, hFu16, huu16⟩ := p14
          subst huu16
          have hst_ : sr (sr (sr (sr (sr (sr (sr (sr (sr (sr (sr (sr (sr (sr σ 16 (b16_7)) 17 (b17_8)) 18 (b18_9)) 19 (b19_10)) 20 (b20_11)) 21 (b21_12)) 22 (b22_13)) 0 (upd (σ 0) 5 (nI (go_T v nh nj j x)))) 16 b16_17) 17 b17_18) 18 b18_19) 19 b19_20) 20 b20_21) 21 b21_22 = sr (sr (sr (sr (sr (sr (sr (sr σ 16 (b16_17)) 17 (b17_18)) 18 (b18_19)) 19 (b19_20)) 20 (b20_21)) 21 (b21_22)) 22 (b22_13)) 0 (upd (σ 0) 5 (nI (go_T v nh nj j x))) := by
            funext j_ x_
            by_cases e0 : j_ = 0
            · subst e0
              by_cases y5 : x_ = 5
              · subst y5; rfl
              · simp [sr, upd, y5]
            · by_cases e16 : j_ = 16
              · subst e16; rfl
              · by_cases e17 : j_ = 17
                · subst e17; rfl
                · by_cases e18 : j_ = 18
                  · subst e18; rfl
                  · by_cases e19 : j_ = 19
                    · subst e19; rfl
                    · by_cases e20 : j_ = 20
                      · subst e20; rfl
                      · by_cases e21 : j_ = 21
                        · subst e21; rfl
                        · by_cases e22 : j_ = 22
                          · subst e22; rfl
                          · simp only [sr, e0, e16, e17, e18, e19, e20, e21, e22, if_false]
          rw [hst_] at hw
          have hrsA : rs_v v nj j x (go_T v nh nj j x) (go_T v nh nj j x) = v := rs_all (fun y hy => ⟨go_w_may h24 hy, go_w_lt h24 hy⟩)
          rw [hrsA] at hFu16
          have hT24 : go_T v nh nj j x ≤ 24 := go_T_le h24
          refine lv_iload hC.1 hC.2.1 dX1_bestHost_55 (lv_at hl 0 rfl) ?_
          refine q_ifeq hC 138 cB dX1_bestHost_57 (by decide) (fun (c23 : ¬ (go_y v nh nj j x (go_T v nh nj j x) = 0)) => ?_) (fun (c23 : go_y v nh nj j x (go_T v nh nj j x) = 0) => ?_)
          · refine lv_iinc (v := nI (x + 1)) (lv' := [(5, .int (nI (x + 1))), (6, .int (if go_y v nh nj j x (go_T v nh nj j x) = 0 then (1 : Int32) else 0)), (0, .ref (a 62)), (1, .int (nI j)), (2, .int (be)), (3, .int (lp)), (4, .int (fg))]) hC.1 hC.2.1 dX1_bestHost_138 hl (k := 6) rfl (nI_add _ _) (by decide) rfl (fun ls hl => ?_)
            refine lv_goto (tgt := 25) hC.1 hC.2.1 dX1_bestHost_141 (by decide) ?_
            have hab2 : AB v nh nj j (x + 1) be lp fg := ab_no hab (fun q => c23 q.1)
            exact ih25 (x + 1) be lp fg b16_17 b17_18 b18_19 b19_20 b20_21 b21_22 b22_13 (nI (go_T v nh nj j x)) (by omega) hFu16 hab2 (by omega) _ _ _ hw (lv_sub hl [2, 3, 4, 5, 6, 0] rfl)
          · refine lv_aload_n hC.1 hC.2.1 dX1_bestHost_60 rfl (lv_at hl 1 rfl) ?_
            refine gf_X1_49 (v := nI (go_T v nh nj j x)) hC hw rfl dX1_bestHost_61 ?_
            refine q_ifle hC 138 (cNle (b := 0) (by omega) (by decide)) dX1_bestHost_64 (by decide) (fun (c24 : (go_T v nh nj j x) ≤ 0) => ?_) (fun (c24 : 0 < (go_T v nh nj j x)) => ?_)
            · refine lv_iinc (v := nI (x + 1)) (lv' := [(5, .int (nI (x + 1))), (6, .int (if go_y v nh nj j x (go_T v nh nj j x) = 0 then (1 : Int32) else 0)), (0, .ref (a 62)), (1, .int (nI j)), (2, .int (be)), (3, .int (lp)), (4, .int (fg))]) hC.1 hC.2.1 dX1_bestHost_138 hl (k := 6) rfl (nI_add _ _) (by decide) rfl (fun ls hl => ?_)
              refine lv_goto (tgt := 25) hC.1 hC.2.1 dX1_bestHost_141 (by decide) ?_
              have hab2 : AB v nh nj j (x + 1) be lp fg := absurd c24 (by have := go_T0 (hno x (by omega)) c23; omega)
              exact ih25 (x + 1) be lp fg b16_17 b17_18 b18_19 b19_20 b20_21 b21_22 b22_13 (nI (go_T v nh nj j x)) (by omega) hFu16 hab2 (by omega) _ _ _ hw (lv_sub hl [2, 3, 4, 5, 6, 0] rfl)
            · refine lv_aload_n hC.1 hC.2.1 dX1_bestHost_67 rfl (lv_at hl 1 rfl) ?_
              refine gf_X1_25 hC hw dX1_bestHost_68 ?_
              refine gf_X1_52 hC hw dX1_bestHost_71 ?_
              refine lv_aload_n hC.1 hC.2.1 dX1_bestHost_74 rfl (lv_at hl 1 rfl) ?_
              refine gf_X1_9 hC hw dX1_bestHost_75 ?_
              refine lv_aload_n hC.1 hC.2.1 dX1_bestHost_78 rfl (lv_at hl 1 rfl) ?_
              refine gf_X1_49 (v := nI (go_T v nh nj j x)) hC hw rfl dX1_bestHost_79 ?_
              refine lv_iconst (v := nI 1) hC.1 hC.2.1 dX1_bestHost_82 (by decide) ?_
              refine q_subN hC (by omega) dX1_bestHost_83 ?_
              have hT0 : 0 < go_T v nh nj j x := c24
              have hgwl := go_w_lt (h := x) h24 (show go_T v nh nj j x - 1 < go_T v nh nj j x by omega)
              refine al_X22 (v := nI (go_w v nj j x (go_T v nh nj j x - 1))) hC hw (by omega) (hgou6 _ (by omega)) dX1_bestHost_84 ?_
              refine al_X7 (v := go_g v nj j x (go_T v nh nj j x)) hC hw (by omega) (((hX _ hgwl).2.1).trans (go_gl hj h24 hD hPr hT0)) dX1_bestHost_85 ?_
              refine lv_istore (lv' := [(7, .int (go_g v nj j x (go_T v nh nj j x))), (6, .int (if go_y v nh nj j x (go_T v nh nj j x) = 0 then (1 : Int32) else 0)), (0, .ref (a 62)), (1, .int (nI j)), (2, .int (be)), (3, .int (lp)), (4, .int (fg)), (5, .int (nI x))]) hC.1 hC.2.1 dX1_bestHost_86 hl (by decide) rfl (fun ls hl => ?_)
              refine lv_iload hC.1 hC.2.1 dX1_bestHost_88 (lv_at hl 0 rfl) ?_
              refine lv_iload_n hC.1 hC.2.1 dX1_bestHost_90 rfl (lv_at hl 5 rfl) ?_
              have J108_26 : ∀ (w25 : Int32), w25 = (if ((go_g v nj j x (go_T v nh nj j x)) = lp) ∧ (¬ (fg ≤ (nI (go_T v nh nj j x)))) then (1 : Int32) else 0) → ∀ (H : Heap) (locs : List Loc) (ls : Array Slot), Wst E (XW E a) (sr (sr (sr (sr (sr (sr (sr (sr σ 16 (b16_17)) 17 (b17_18)) 18 (b18_19)) 19 (b19_20)) 20 (b20_21)) 21 (b21_22)) 22 (b22_13)) 0 (upd (σ 0) 5 (nI (go_T v nh nj j x)))) A s.heap H locs → lv_has ls 9 [(0, .ref (a 62)), (1, .int (nI j)), (2, .int (be)), (3, .int (lp)), (4, .int (fg)), (5, .int (nI x)), (6, .int (if go_y v nh nj j x (go_T v nh nj j x) = 0 then (1 : Int32) else 0)), (7, .int (go_g v nj j x (go_T v nh nj j x)))] → W p l e ({ frames := 4, cells := 0, slots := 0, locals := 96 }) s m args below meth c H locs 0 0 Q (F0 m 108 ls [.int (w25)]) := by
                intro w25 e26 H locs ls hw hl
                subst e26
                refine lv_istore (lv' := [(8, .int (if ((go_g v nj j x (go_T v nh nj j x)) = lp) ∧ (¬ (fg ≤ (nI (go_T v nh nj j x)))) then (1 : Int32) else 0)), (0, .ref (a 62)), (1, .int (nI j)), (2, .int (be)), (3, .int (lp)), (4, .int (fg)), (5, .int (nI x)), (6, .int (if go_y v nh nj j x (go_T v nh nj j x) = 0 then (1 : Int32) else 0)), (7, .int (go_g v nj j x (go_T v nh nj j x)))]) hC.1 hC.2.1 dX1_bestHost_108 hl (by decide) rfl (fun ls hl => ?_)
                refine lv_iload_n hC.1 hC.2.1 dX1_bestHost_110 rfl (lv_at hl 3 rfl) ?_
                refine lv_iconst (v := (-1)) hC.1 hC.2.1 dX1_bestHost_111 (by decide) ?_
                refine q_cmpeq hC 126 cI dX1_bestHost_112 (by decide) (fun (c27 : be = (-1)) => ?_) (fun (c27 : ¬ (be = (-1))) => ?_)
                · refine lv_iload hC.1 hC.2.1 dX1_bestHost_126 (lv_at hl 6 rfl) ?_
                  refine lv_istore_n (lv' := [(2, .int (nI x)), (8, .int (if ((go_g v nj j x (go_T v nh nj j x)) = lp) ∧ (¬ (fg ≤ (nI (go_T v nh nj j x)))) then (1 : Int32) else 0)), (0, .ref (a 62)), (1, .int (nI j)), (3, .int (lp)), (4, .int (fg)), (5, .int (nI x)), (6, .int (if go_y v nh nj j x (go_T v nh nj j x) = 0 then (1 : Int32) else 0)), (7, .int (go_g v nj j x (go_T v nh nj j x)))]) hC.1 hC.2.1 dX1_bestHost_128 rfl hl (by decide) rfl (fun ls hl => ?_)
                  refine lv_iload hC.1 hC.2.1 dX1_bestHost_129 (lv_at hl 8 rfl) ?_
                  refine lv_istore_n (lv' := [(3, .int (go_g v nj j x (go_T v nh nj j x))), (2, .int (nI x)), (8, .int (if ((go_g v nj j x (go_T v nh nj j x)) = lp) ∧ (¬ (fg ≤ (nI (go_T v nh nj j x)))) then (1 : Int32) else 0)), (0, .ref (a 62)), (1, .int (nI j)), (4, .int (fg)), (5, .int (nI x)), (6, .int (if go_y v nh nj j x (go_T v nh nj j x) = 0 then (1 : Int32) else 0)), (7, .int (go_g v nj j x (go_T v nh nj j x)))]) hC.1 hC.2.1 dX1_bestHost_131 rfl hl (by decide) rfl (fun ls hl => ?_)
                  refine lv_aload_n hC.1 hC.2.1 dX1_bestHost_132 rfl (lv_at hl 3 rfl) ?_
                  refine gf_X1_49 (v := nI (go_T v nh nj j x)) hC hw rfl dX1_bestHost_133 ?_
                  refine lv_istore (lv' := [(4, .int (nI (go_T v nh nj j x))), (3, .int (go_g v nj j x (go_T v nh nj j x))), (2, .int (nI x)), (8, .int (if ((go_g v nj j x (go_T v nh nj j x)) = lp) ∧ (¬ (fg ≤ (nI (go_T v nh nj j x)))) then (1 : Int32) else 0)), (0, .ref (a 62)), (1, .int (nI j)), (5, .int (nI x)), (6, .int (if go_y v nh nj j x (go_T v nh nj j x) = 0 then (1 : Int32) else 0)), (7, .int (go_g v nj j x (go_T v nh nj j x)))]) hC.1 hC.2.1 dX1_bestHost_136 hl (by decide) rfl (fun ls hl => ?_)
                  refine lv_iinc (v := nI (x + 1)) (lv' := [(5, .int (nI (x + 1))), (4, .int (nI (go_T v nh nj j x))), (3, .int (go_g v nj j x (go_T v nh nj j x))), (2, .int (nI x)), (8, .int (if ((go_g v nj j x (go_T v nh nj j x)) = lp) ∧ (¬ (fg ≤ (nI (go_T v nh nj j x)))) then (1 : Int32) else 0)), (0, .ref (a 62)), (1, .int (nI j)), (6, .int (if go_y v nh nj j x (go_T v nh nj j x) = 0 then (1 : Int32) else 0)), (7, .int (go_g v nj j x (go_T v nh nj j x)))]) hC.1 hC.2.1 dX1_bestHost_138 hl (k := 6) rfl (nI_add _ _) (by decide) rfl (fun ls hl => ?_)
                  refine lv_goto (tgt := 25) hC.1 hC.2.1 dX1_bestHost_141 (by decide) ?_
                  have hab2 : AB v nh nj j (x + 1) (nI x) (go_g v nj j x (go_T v nh nj j x)) (nI (go_T v nh nj j x)) := ab_yes (by omega) hab ⟨c23, Or.inl c27⟩
                  exact ih25 (x + 1) (nI x) (go_g v nj j x (go_T v nh nj j x)) (nI (go_T v nh nj j x)) b16_17 b17_18 b18_19 b19_20 b20_21 b21_22 b22_13 (nI (go_T v nh nj j x)) (by omega) hFu16 hab2 (by omega) _ _ _ hw (lv_sub hl [5, 6, 3, 2, 1, 0] rfl)
                · refine lv_iload hC.1 hC.2.1 dX1_bestHost_115 (lv_at hl 8 rfl) ?_
                  refine lv_iload_n hC.1 hC.2.1 dX1_bestHost_117 rfl (lv_at hl 4 rfl) ?_
                  refine q_cmplt hC 126 cI dX1_bestHost_118 (by decide) (fun (c28 : (go_g v nj j x (go_T v nh nj j x)) < lp) => ?_) (fun (c28 : ¬ ((go_g v nj j x (go_T v nh nj j x)) < lp)) => ?_)
                  · refine lv_iload hC.1 hC.2.1 dX1_bestHost_126 (lv_at hl 6 rfl) ?_
                    refine lv_istore_n (lv' := [(2, .int (nI x)), (8, .int (if ((go_g v nj j x (go_T v nh nj j x)) = lp) ∧ (¬ (fg ≤ (nI (go_T v nh nj j x)))) then (1 : Int32) else 0)), (0, .ref (a 62)), (1, .int (nI j)), (3, .int (lp)), (4, .int (fg)), (5, .int (nI x)), (6, .int (if go_y v nh nj j x (go_T v nh nj j x) = 0 then (1 : Int32) else 0)), (7, .int (go_g v nj j x (go_T v nh nj j x)))]) hC.1 hC.2.1 dX1_bestHost_128 rfl hl (by decide) rfl (fun ls hl => ?_)
                    refine lv_iload hC.1 hC.2.1 dX1_bestHost_129 (lv_at hl 8 rfl) ?_
                    refine lv_istore_n (lv' := [(3, .int (go_g v nj j x (go_T v nh nj j x))), (2, .int (nI x)), (8, .int (if ((go_g v nj j x (go_T v nh nj j x)) = lp) ∧ (¬ (fg ≤ (nI (go_T v nh nj j x)))) then (1 : Int32) else 0)), (0, .ref (a 62)), (1, .int (nI j)), (4, .int (fg)), (5, .int (nI x)), (6, .int (if go_y v nh nj j x (go_T v nh nj j x) = 0 then (1 : Int32) else 0)), (7, .int (go_g v nj j x (go_T v nh nj j x)))]) hC.1 hC.2.1 dX1_bestHost_131 rfl hl (by decide) rfl (fun ls hl => ?_)
                    refine lv_aload_n hC.1 hC.2.1 dX1_bestHost_132 rfl (lv_at hl 3 rfl) ?_
                    refine gf_X1_49 (v := nI (go_T v nh nj j x)) hC hw rfl dX1_bestHost_133 ?_
                    refine lv_istore (lv' := [(4, .int (nI (go_T v nh nj j x))), (3, .int (go_g v nj j x (go_T v nh nj j x))), (2, .int (nI x)), (8, .int (if ((go_g v nj j x (go_T v nh nj j x)) = lp) ∧ (¬ (fg ≤ (nI (go_T v nh nj j x)))) then (1 : Int32) else 0)), (0, .ref (a 62)), (1, .int (nI j)), (5, .int (nI x)), (6, .int (if go_y v nh nj j x (go_T v nh nj j x) = 0 then (1 : Int32) else 0)), (7, .int (go_g v nj j x (go_T v nh nj j x)))]) hC.1 hC.2.1 dX1_bestHost_136 hl (by decide) rfl (fun ls hl => ?_)
                    refine lv_iinc (v := nI (x + 1)) (lv' := [(5, .int (nI (x + 1))), (4, .int (nI (go_T v nh nj j x))), (3, .int (go_g v nj j x (go_T v nh nj j x))), (2, .int (nI x)), (8, .int (if ((go_g v nj j x (go_T v nh nj j x)) = lp) ∧ (¬ (fg ≤ (nI (go_T v nh nj j x)))) then (1 : Int32) else 0)), (0, .ref (a 62)), (1, .int (nI j)), (6, .int (if go_y v nh nj j x (go_T v nh nj j x) = 0 then (1 : Int32) else 0)), (7, .int (go_g v nj j x (go_T v nh nj j x)))]) hC.1 hC.2.1 dX1_bestHost_138 hl (k := 6) rfl (nI_add _ _) (by decide) rfl (fun ls hl => ?_)
                    refine lv_goto (tgt := 25) hC.1 hC.2.1 dX1_bestHost_141 (by decide) ?_
                    have hab2 : AB v nh nj j (x + 1) (nI x) (go_g v nj j x (go_T v nh nj j x)) (nI (go_T v nh nj j x)) := ab_yes (by omega) hab ⟨c23, Or.inr (Or.inl c28)⟩
                    exact ih25 (x + 1) (nI x) (go_g v nj j x (go_T v nh nj j x)) (nI (go_T v nh nj j x)) b16_17 b17_18 b18_19 b19_20 b20_21 b21_22 b22_13 (nI (go_T v nh nj j x)) (by omega) hFu16 hab2 (by omega) _ _ _ hw (lv_sub hl [5, 6, 3, 2, 1, 0] rfl)
                  · refine lv_iload hC.1 hC.2.1 dX1_bestHost_121 (lv_at hl 0 rfl) ?_
                    refine q_ifeq hC 138 cB dX1_bestHost_123 (by decide) (fun (c29 : ¬ (((go_g v nj j x (go_T v nh nj j x)) = lp) ∧ (¬ (fg ≤ (nI (go_T v nh nj j x)))))) => ?_) (fun (c29 : ((go_g v nj j x (go_T v nh nj j x)) = lp) ∧ (¬ (fg ≤ (nI (go_T v nh nj j x))))) => ?_)
                    · refine lv_iinc (v := nI (x + 1)) (lv' := [(5, .int (nI (x + 1))), (8, .int (if ((go_g v nj j x (go_T v nh nj j x)) = lp) ∧ (¬ (fg ≤ (nI (go_T v nh nj j x)))) then (1 : Int32) else 0)), (0, .ref (a 62)), (1, .int (nI j)), (2, .int (be)), (3, .int (lp)), (4, .int (fg)), (6, .int (if go_y v nh nj j x (go_T v nh nj j x) = 0 then (1 : Int32) else 0)), (7, .int (go_g v nj j x (go_T v nh nj j x)))]) hC.1 hC.2.1 dX1_bestHost_138 hl (k := 6) rfl (nI_add _ _) (by decide) rfl (fun ls hl => ?_)
                      refine lv_goto (tgt := 25) hC.1 hC.2.1 dX1_bestHost_141 (by decide) ?_
                      have hab2 : AB v nh nj j (x + 1) be lp fg := ab_no hab (fun q => q.2.elim c27 (fun q => q.elim c28 (fun q => c29 (by simpa using q))))
                      exact ih25 (x + 1) be lp fg b16_17 b17_18 b18_19 b19_20 b20_21 b21_22 b22_13 (nI (go_T v nh nj j x)) (by omega) hFu16 hab2 (by omega) _ _ _ hw (lv_sub hl [2, 3, 4, 5, 6, 0] rfl)
                    · refine lv_iload hC.1 hC.2.1 dX1_bestHost_126 (lv_at hl 6 rfl) ?_
                      refine lv_istore_n (lv' := [(2, .int (nI x)), (8, .int (if ((go_g v nj j x (go_T v nh nj j x)) = lp) ∧ (¬ (fg ≤ (nI (go_T v nh nj j x)))) then (1 : Int32) else 0)), (0, .ref (a 62)), (1, .int (nI j)), (3, .int (lp)), (4, .int (fg)), (5, .int (nI x)), (6, .int (if go_y v nh nj j x (go_T v nh nj j x) = 0 then (1 : Int32) else 0)), (7, .int (go_g v nj j x (go_T v nh nj j x)))]) hC.1 hC.2.1 dX1_bestHost_128 rfl hl (by decide) rfl (fun ls hl => ?_)
                      refine lv_iload hC.1 hC.2.1 dX1_bestHost_129 (lv_at hl 8 rfl) ?_
                      refine lv_istore_n (lv' := [(3, .int (go_g v nj j x (go_T v nh nj j x))), (2, .int (nI x)), (8, .int (if ((go_g v nj j x (go_T v nh nj j x)) = lp) ∧ (¬ (fg ≤ (nI (go_T v nh nj j x)))) then (1 : Int32) else 0)), (0, .ref (a 62)), (1, .int (nI j)), (4, .int (fg)), (5, .int (nI x)), (6, .int (if go_y v nh nj j x (go_T v nh nj j x) = 0 then (1 : Int32) else 0)), (7, .int (go_g v nj j x (go_T v nh nj j x)))]) hC.1 hC.2.1 dX1_bestHost_131 rfl hl (by decide) rfl (fun ls hl => ?_)
                      refine lv_aload_n hC.1 hC.2.1 dX1_bestHost_132 rfl (lv_at hl 3 rfl) ?_
                      refine gf_X1_49 (v := nI (go_T v nh nj j x)) hC hw rfl dX1_bestHost_133 ?_
                      refine lv_istore (lv' := [(4, .int (nI (go_T v nh nj j x))), (3, .int (go_g v nj j x (go_T v nh nj j x))), (2, .int (nI x)), (8, .int (if ((go_g v nj j x (go_T v nh nj j x)) = lp) ∧ (¬ (fg ≤ (nI (go_T v nh nj j x)))) then (1 : Int32) else 0)), (0, .ref (a 62)), (1, .int (nI j)), (5, .int (nI x)), (6, .int (if go_y v nh nj j x (go_T v nh nj j x) = 0 then (1 : Int32) else 0)), (7, .int (go_g v nj j x (go_T v nh nj j x)))]) hC.1 hC.2.1 dX1_bestHost_136 hl (by decide) rfl (fun ls hl => ?_)
                      refine lv_iinc (v := nI (x + 1)) (lv' := [(5, .int (nI (x + 1))), (4, .int (nI (go_T v nh nj j x))), (3, .int (go_g v nj j x (go_T v nh nj j x))), (2, .int (nI x)), (8, .int (if ((go_g v nj j x (go_T v nh nj j x)) = lp) ∧ (¬ (fg ≤ (nI (go_T v nh nj j x)))) then (1 : Int32) else 0)), (0, .ref (a 62)), (1, .int (nI j)), (6, .int (if go_y v nh nj j x (go_T v nh nj j x) = 0 then (1 : Int32) else 0)), (7, .int (go_g v nj j x (go_T v nh nj j x)))]) hC.1 hC.2.1 dX1_bestHost_138 hl (k := 6) rfl (nI_add _ _) (by decide) rfl (fun ls hl => ?_)
                      refine lv_goto (tgt := 25) hC.1 hC.2.1 dX1_bestHost_141 (by decide) ?_
                      have hab2 : AB v nh nj j (x + 1) (nI x) (go_g v nj j x (go_T v nh nj j x)) (nI (go_T v nh nj j x)) := ab_yes (by omega) hab ⟨c23, Or.inr (Or.inr (by simpa using c29))⟩
                      exact ih25 (x + 1) (nI x) (go_g v nj j x (go_T v nh nj j x)) (nI (go_T v nh nj j x)) b16_17 b17_18 b18_19 b19_20 b20_21 b21_22 b22_13 (nI (go_T v nh nj j x)) (by omega) hFu16 hab2 (by omega) _ _ _ hw (lv_sub hl [5, 6, 3, 2, 1, 0] rfl)
              refine q_cmpne hC 107 cI dX1_bestHost_91 (by decide) (fun (c30 : ¬ ((go_g v nj j x (go_T v nh nj j x)) = lp)) => ?_) (fun (c30 : (go_g v nj j x (go_T v nh nj j x)) = lp) => ?_)
              · refine lv_iconst (v := nI 0) hC.1 hC.2.1 dX1_bestHost_107 (by decide) ?_
                exact J108_26 _ (if_neg (fun q => c30 q.1)).symm _ _ _ hw (lv_sub hl [2, 3, 4, 5, 6, 7, 1, 0] rfl)
              · refine lv_aload_n hC.1 hC.2.1 dX1_bestHost_94 rfl (lv_at hl 2 rfl) ?_
                refine gf_X1_49 (v := nI (go_T v nh nj j x)) hC hw rfl dX1_bestHost_95 ?_
                refine lv_iload hC.1 hC.2.1 dX1_bestHost_98 (lv_at hl 6 rfl) ?_
                refine q_cmpge hC 107 cI dX1_bestHost_100 (by decide) (fun (c31 : fg ≤ (nI (go_T v nh nj j x))) => ?_) (fun (c31 : ¬ (fg ≤ (nI (go_T v nh nj j x)))) => ?_)
                · refine lv_iconst (v := nI 0) hC.1 hC.2.1 dX1_bestHost_107 (by decide) ?_
                  exact J108_26 _ (if_neg (fun q => (fun q => q c31) q.2)).symm _ _ _ hw (lv_sub hl [2, 3, 4, 5, 6, 7, 1, 0] rfl)
                · refine lv_iconst (v := nI 1) hC.1 hC.2.1 dX1_bestHost_103 (by decide) ?_
                  refine lv_goto (tgt := 108) hC.1 hC.2.1 dX1_bestHost_104 (by decide) ?_
                  exact J108_26 _ (if_pos ⟨c30, c31⟩).symm _ _ _ hw (lv_sub hl [2, 3, 4, 5, 6, 7, 1, 0] rfl)
    have hst_ : σ = sr (sr (sr (sr (sr (sr (sr (sr σ 16 (σ 16)) 17 (σ 17)) 18 (σ 18)) 19 (σ 19)) 20 (σ 20)) 21 (σ 21)) 22 (σ 22)) 0 (upd (σ 0) 5 (σ 0 5)) := by
      funext j_ x_
      by_cases e0 : j_ = 0
      · subst e0
        by_cases y5 : x_ = 5
        · subst y5; rfl
        · simp [sr, upd, y5]
      · by_cases e16 : j_ = 16
        · subst e16; rfl
        · by_cases e17 : j_ = 17
          · subst e17; rfl
          · by_cases e18 : j_ = 18
            · subst e18; rfl
            · by_cases e19 : j_ = 19
              · subst e19; rfl
              · by_cases e20 : j_ = 20
                · subst e20; rfl
                · by_cases e21 : j_ = 21
                  · subst e21; rfl
                  · by_cases e22 : j_ = 22
                    · subst e22; rfl
                    · simp only [sr, e0, e16, e17, e18, e19, e20, e21, e22, if_false]
    rw [hst_] at hw
    exact L25_1 _ 0 (-1) (nI 0) (nI 0) (σ 16) (σ 17) (σ 18) (σ 19) (σ 20) (σ 21) (σ 22) (σ 0 5) (Nat.zero_le _) hFS ⟨rfl, rfl, rfl⟩ (Nat.lt_succ_self _) _ _ _ hw (lv_sub hl [4, 5, 3, 2, 1, 0] rfl)
  · refine lv_iconst (v := (-1)) hC.1 hC.2.1 dX1_bestHost_13 (by decide) ?_
    refine hret _ _ _ _ _ _ hw ?_ rfl dX1_bestHost_14
    refine ⟨σ 16, σ 17, σ 18, σ 19, σ 20, σ 21, σ 22, σ 0 5, hFS, ?_, ?_⟩
    · rw [if_pos ((hX j hj).1.symm.trans c1)]
    · show σ = sr (sr (sr (sr (sr (sr (sr (sr σ 16 (σ 16)) 17 (σ 17)) 18 (σ 18)) 19 (σ 19)) 20 (σ 20)) 21 (σ 21)) 22 (σ 22)) 0 (upd (σ 0) 5 (σ 0 5))
      funext j_ x_
      by_cases e0 : j_ = 0
      · subst e0
        by_cases y5 : x_ = 5
        · subst y5; rfl
        · simp [sr, upd, y5]
      · by_cases e16 : j_ = 16
        · subst e16; rfl
        · by_cases e17 : j_ = 17
          · subst e17; rfl
          · by_cases e18 : j_ = 18
            · subst e18; rfl
            · by_cases e19 : j_ = 19
              · subst e19; rfl
              · by_cases e20 : j_ = 20
                · subst e20; rfl
                · by_cases e21 : j_ = 21
                  · subst e21; rfl
                  · by_cases e22 : j_ = 22
                    · subst e22; rfl
                    · simp only [sr, e0, e16, e17, e18, e19, e20, e21, e22, if_false]
