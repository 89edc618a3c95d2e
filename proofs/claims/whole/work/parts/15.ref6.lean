theorem m_nx_in (v : Nat → Int32) (j h : Nat) : ∀ n : Nat, m_nx v j h n = -1 ∨ ∃ b, b < n ∧ m_nx v j h n = nI b ∧ mayGo v j h b
  | 0 => Or.inl rfl
  | n + 1 => by
    rw [m_nx]
    split
    case isTrue q => exact Or.inr ⟨n, Nat.lt_succ_self n, rfl, q.1⟩
    case isFalse q =>
      rcases m_nx_in v j h n with h | ⟨b, h1, h2⟩
      · exact Or.inl h
      · exact Or.inr ⟨b, Nat.lt_succ_of_lt h1, h2⟩
theorem m_nx_nat {v : Nat → Int32} {j h n : Nat} (hn : n < 2 ^ 31) (q : ¬ m_nx v j h n < 0) : m_nx v j h n = nI (m_nx v j h n).toNatClampNeg ∧ (m_nx v j h n).toNatClampNeg < n := by
  rcases m_nx_in v j h n with e | ⟨b, h1, h2, -⟩
  · rw [e] at q; exact absurd (by decide) q
  · rw [h2, nI_clamp (by omega)]; exact ⟨rfl, h1⟩
theorem m_nx_may {v : Nat → Int32} {j h n : Nat} (hn : n < 2 ^ 31) (q : ¬ m_nx v j h n < 0) : mayGo v j h (m_nx v j h n).toNatClampNeg := by
  rcases m_nx_in v j h n with e | ⟨b, h1, h2, h3⟩
  · rw [e] at q; exact absurd (by decide) q
  · rw [h2, nI_clamp (by omega)]; exact h3
theorem m_nx_le {v : Nat → Int32} {j h n : Nat} (hn : n < 2 ^ 31) : (m_nx v j h n).toNatClampNeg ≤ n := by
  rcases m_nx_in v j h n with e | ⟨b, h1, h2, -⟩
  · rw [e]; exact Nat.zero_le _
  · rw [h2, nI_clamp (by omega)]; omega
theorem go_v_mF {v : Nat → Int32} {nh nj j h : Nat} (hW : mF v nh nj) : ∀ {t : Nat}, mF (go_v v nj j h t) nh nj
  | 0 => hW
  | t + 1 => by
    have h24 := hW.2.1
    obtain ⟨h1, h2, h3, h4, h5⟩ := go_v_mF (t := t) (j := j) (h := h) hW
    have hl := m_nx_le (v := go_v v nj j h t) (j := j) (h := h) (n := nj) (by omega)
    have hl2 : (m_nx (go_v v nj j h t) j h nj).toNatClampNeg < 24 ∨ (m_nx (go_v v nj j h t) j h nj).toNatClampNeg = 0 := by
      rcases m_nx_in (go_v v nj j h t) j h nj with e | ⟨b, b1, b2, -⟩
      · rw [e]; exact Or.inr rfl
      · rw [b2, nI_clamp (by omega)]; omega
    rw [go_v]
    refine ⟨h1, h2, ?_, ?_, fun i hi hs => ?_⟩
    · rw [upn (by omega)]; exact h3
    · rw [upn (by omega)]; exact h4
    · rw [upn (by omega)]
      by_cases e : 258 + i = 258 + (m_nx (go_v v nj j h t) j h nj).toNatClampNeg
      · rw [e, ups] at hs; exact absurd hs (by decide)
      · rw [upn e] at hs; exact h5 i hi hs
theorem cG_le {v : Nat → Int32} {h : Nat} : ∀ {n : Nat}, cG v h n ≤ n
  | 0 => Nat.le_refl _
  | n + 1 => by
    have := cG_le (v := v) (h := h) (n := n)
    rw [cG]; split <;> omega
theorem cG_pos {v : Nat → Int32} {h w : Nat} : ∀ {n : Nat}, w < n → (eM v 11 w = 1 ∧ eM v 12 w = nI h) → 0 < cG v h n
  | 0, hw, _ => absurd hw (Nat.not_lt_zero _)
  | n + 1, hw, hs => by
    rw [cG]
    by_cases e : w = n
    · subst e; rw [if_pos hs]; omega
    · have := cG_pos (n := n) (by omega) hs
      omega
theorem cG_same {v : Nat → Int32} {h w : Nat} (hw : w < 24) : ∀ {n : Nat}, n ≤ w → cG (upd v (258 + w) 0) h n = cG v h n
  | 0, _ => rfl
  | n + 1, hn => by
    have e1 : eM (upd v (258 + w) 0) 11 n = eM v 11 n := upn (by omega)
    have e2 : eM (upd v (258 + w) 0) 12 n = eM v 12 n := upn (by omega)
    rw [cG, cG, cG_same hw (by omega), e1, e2]
theorem cG_drop {v : Nat → Int32} {h w n : Nat} (hw : w < n) (hs : eM v 11 w = 1 ∧ eM v 12 w = nI h) (hn : n ≤ 24 := by omega) : cG (upd v (258 + w) 0) h n + 1 = cG v h n := by
  induction n with
  | zero => exact absurd hw (Nat.not_lt_zero _)
  | succ n ih =>
    rw [cG, cG]
    by_cases e : w = n
    · subst e
      have e1 : eM (upd v (258 + w) 0) 11 w = 0 := ups
      rw [cG_same (by omega) (Nat.le_refl _), if_pos hs, if_neg (fun q => absurd (e1.symm.trans q.1) (by decide))]
    · have e1 : eM (upd v (258 + w) 0) 11 n = eM v 11 n := upn (by omega)
      have e2 : eM (upd v (258 + w) 0) 12 n = eM v 12 n := upn (by omega)
      have := ih (by omega) (by omega)
      rw [e1, e2]
      omega
theorem go_n_stop {v : Nat → Int32} {nh nj j h t T : Nat} (hTn : go_n v nh nj j h (25 - t) t = T) (ht : t ≤ 24) (hc : go_y v nh nj j h t = 0 ∨ m_nx (go_v v nj j h t) j h nj < 0) : T = t := by
  rw [show 25 - t = (24 - t) + 1 by omega, go_n, if_pos hc] at hTn
  exact hTn.symm
theorem go_n_go {v : Nat → Int32} {nh nj j h t : Nat} (ht : t ≤ 24) (h1 : ¬ go_y v nh nj j h t = 0) (h2 : ¬ m_nx (go_v v nj j h t) j h nj < 0) : go_n v nh nj j h (25 - t) t = go_n v nh nj j h (25 - (t + 1)) (t + 1) := by
  rw [show 25 - t = (25 - (t + 1)) + 1 by omega, go_n, if_neg (fun q => q.elim h1 h2)]
theorem go_v_at (v : Nat → Int32) (nj j h i : Nat) : ∀ t : Nat, (∃ x, x < t ∧ i = 258 + go_w v nj j h x ∧ go_v v nj j h t i = 0) ∨ ((∀ x, x < t → i ≠ 258 + go_w v nj j h x) ∧ go_v v nj j h t i = v i)
  | 0 => Or.inr ⟨fun x q => absurd q (Nat.not_lt_zero _), rfl⟩
  | t + 1 => by
    by_cases e : i = 258 + go_w v nj j h t
    · exact Or.inl ⟨t, Nat.lt_succ_self t, e, by rw [e]; exact ups⟩
    · have e2 : go_v v nj j h (t + 1) i = go_v v nj j h t i := upn e
      rcases go_v_at v nj j h i t with ⟨x, h1, h2, h3⟩ | ⟨h1, h2⟩
      · exact Or.inl ⟨x, Nat.lt_succ_of_lt h1, h2, e2.trans h3⟩
      · refine Or.inr ⟨fun x q => ?_, e2.trans h2⟩
        by_cases ex : x = t
        · rw [ex]; exact e
        · exact h1 x (by omega)
theorem rs_v_at (v : Nat → Int32) (nj j h t i : Nat) : ∀ k : Nat, (∃ x, x < k ∧ i = 258 + go_w v nj j h x ∧ rs_v v nj j h t k i = 1) ∨ ((∀ x, x < k → i ≠ 258 + go_w v nj j h x) ∧ rs_v v nj j h t k i = go_v v nj j h t i)
  | 0 => Or.inr ⟨fun x q => absurd q (Nat.not_lt_zero _), rfl⟩
  | k + 1 => by
    by_cases e : i = 258 + go_w v nj j h k
    · exact Or.inl ⟨k, Nat.lt_succ_self k, e, by rw [e]; exact ups⟩
    · have e2 : rs_v v nj j h t (k + 1) i = rs_v v nj j h t k i := upn e
      rcases rs_v_at v nj j h t i k with ⟨x, h1, h2, h3⟩ | ⟨h1, h2⟩
      · exact Or.inl ⟨x, Nat.lt_succ_of_lt h1, h2, e2.trans h3⟩
      · refine Or.inr ⟨fun x q => ?_, e2.trans h2⟩
        by_cases ex : x = k
        · rw [ex]; exact e
        · exact h1 x (by omega)
theorem rs_all {v : Nat → Int32} {nj j h t : Nat} (hrm : ∀ x, x < t → mayGo (go_v v nj j h x) j h (go_w v nj j h x) ∧ go_w v nj j h x < nj) : rs_v v nj j h t t = v := funext fun i => by
  rcases rs_v_at v nj j h t i t with ⟨x, h1, h2, h3⟩ | ⟨h1, h2⟩
  · rw [h3]
    have hm : go_v v nj j h x i = 1 := by rw [h2]; exact (hrm x h1).1.1.1
    rcases go_v_at v nj j h i x with ⟨y, k1, k2, k3⟩ | ⟨k1, k2⟩
    · rw [k3] at hm; exact absurd hm (by decide)
    · rw [← k2, hm]
  · rw [h2]
    rcases go_v_at v nj j h i t with ⟨y, k1, k2, k3⟩ | ⟨k1, k2⟩
    · exact absurd k2 (h1 y k1)
    · exact k2
set_option maxHeartbeats 4000000 in
set_option maxRecDepth 100000 in
theorem tX11_findGoing (l : Launch) (E : EV) (a : Nat → Nat) (τ : St) (nh : Nat) (nj : Nat) (j : Nat) (h : Nat) (hW : mF (τ 1) nh nj) (hj : j < nj) (hh : h < nh) : MI l E (MW E a) yX11_findGoing (Cond.code yX11_findGoing cX11_findGoing 8 (some .boolean)) ({ frames := 4, cells := 0, slots := 0, locals := 94 }) [.ref (a 70), .int (nI j), .int (nI h)] τ (fun r_ u_ => r_ = (if go_y (τ 1) nh nj j h (go_T (τ 1) nh nj j h) = 0 then (1 : Int32) else 0) ∧ ∃ G : Nat → Int32, (∀ x, x < go_T (τ 1) nh nj j h → G x = nI (go_w (τ 1) nj j h x)) ∧ u_ = sr (sr τ 3 G) 0 (upd (upd (τ 0) 1 (nI (go_T (τ 1) nh nj j h))) 2 (go_g (τ 1) nj j h (go_T (τ 1) nh nj j h)))) := by
  refine MI.mk (by decide +kernel) (Nat.le_of_ble_eq_true rfl) ?_
  intro p e s m args below meth c ls A Q hret hC hw hl
  have hC : Cxt E p s m args meth c cX11_findGoing 8 (some .boolean) RX11 A := hC
  have hl : lv_has ls 8 [(0, .ref (a 70)), (1, .int (nI j)), (2, .int (nI h))] := hl
  have ⟨hnh, hnj, hW0, hW1, hWh⟩ := id hW
  refine lv_aload_n hC.1 hC.2.1 dX11_findGoing_0 rfl (lv_at hl 0 rfl) ?_
  refine lv_iconst (v := nI 0) hC.1 hC.2.1 dX11_findGoing_1 (by decide) ?_
  refine pf_X11_106 hC hw dX11_findGoing_2 (fun H locs hw => ?_)
  have hw : Wst E (MW E a) (sr τ 0 (upd (τ 0) 1 (nI 0))) A s.heap H locs := hw
  refine lv_aload_n hC.1 hC.2.1 dX11_findGoing_5 rfl (lv_at hl 0 rfl) ?_
  refine lv_iconst (v := (-1)) hC.1 hC.2.1 dX11_findGoing_6 (by decide) ?_
  refine pf_X11_109 hC hw dX11_findGoing_7 (fun H locs hw => ?_)
  have hw : Wst E (MW E a) (sr τ 0 (upd (upd (τ 0) 1 (nI 0)) 2 ((-1)))) A s.heap H locs := hw
  refine lv_aload_n hC.1 hC.2.1 dX11_findGoing_10 rfl (lv_at hl 0 rfl) ?_
  refine lv_iload_n hC.1 hC.2.1 dX11_findGoing_11 rfl (lv_at hl 1 rfl) ?_
  refine lv_iload_n hC.1 hC.2.1 dX11_findGoing_12 rfl (lv_at hl 2 rfl) ?_
  refine q_callVp (As := [.int (nI j), .int (nI h)]) (rest := []) (q0 := 0) hC hw hl (tX11_whyNot l E a (sr τ 0 (upd (upd (τ 0) 1 (nI 0)) 2 ((-1)))) nh nj j h hW (by first | assumption | omega) (by first | assumption | omega)) (q_cwV hC.2.2.2.2.1 ⟨rfl, rfl⟩ wk4_202 wk4_204 wks_2_9 wk1_12 wk4_205 hd_X11_whyNot ⟨Nat.le_of_ble_eq_true rfl, Nat.le_of_ble_eq_true rfl⟩) rfl rfl rfl rfl rfl (Nat.le_of_ble_eq_true rfl) dX11_findGoing_13 (fun H locs hw => ?_)
  have J24_5 : ∀ (w4 : Int32), w4 = (if (m_why (eM (τ 1)) (pB (eM (τ 1)) (nI j)) nh nj j h) = 0 then (1 : Int32) else 0) → ∀ (H : Heap) (locs : List Loc) (ls : Array Slot), Wst E (MW E a) (sr τ 0 (upd (upd (τ 0) 1 (nI 0)) 2 ((-1)))) A s.heap H locs → lv_has ls 8 [(0, .ref (a 70)), (1, .int (nI j)), (2, .int (nI h))] → W p l e ({ frames := 4, cells := 0, slots := 0, locals := 94 }) s m args below meth c H locs 0 0 Q (F0 m 24 ls [.int (w4)]) := by
    intro w4 e5 H locs ls hw hl
    subst e5
    refine lv_istore_n (lv' := [(3, .int (if (m_why (eM (τ 1)) (pB (eM (τ 1)) (nI j)) nh nj j h) = 0 then (1 : Int32) else 0)), (0, .ref (a 70)), (1, .int (nI j)), (2, .int (nI h))]) hC.1 hC.2.1 dX11_findGoing_24 rfl hl (by decide) rfl (fun ls hl => ?_)
    have L25_5 : ∀ (n : Nat), ∀ (t : Nat), ∀ (G : Nat → Int32), ∀ (fi : Int32), (fi = (if go_y (τ 1) nh nj j h t = 0 then (1 : Int32) else 0)) → (go_n (τ 1) nh nj j h (25 - t) t = go_T (τ 1) nh nj j h) → (t + cG (go_v (τ 1) nj j h t) h nj ≤ 24) → (∀ x, x < t → G x = nI (go_w (τ 1) nj j h x)) → (∀ x, x < t → mayGo (go_v (τ 1) nj j h x) j h (go_w (τ 1) nj j h x) ∧ go_w (τ 1) nj j h x < nj) → (24 - t) < n → ∀ (H : Heap) (locs : List Loc) (ls : Array Slot), Wst E (MW E a) (sr (sr (sr τ 1 (go_v (τ 1) nj j h t)) 3 (G)) 0 (upd (upd (τ 0) 1 (nI t)) 2 (go_g (τ 1) nj j h t))) A s.heap H locs → lv_has ls 8 [(0, .ref (a 70)), (1, .int (nI j)), (2, .int (nI h)), (3, .int (fi))] → W p l e ({ frames := 4, cells := 0, slots := 0, locals := 94 }) s m args below meth c H locs 0 0 Q (F0 m 25 ls []) := by
      intro n
      induction n with
      | zero => intro t G fi q_fi hTn htc hG hrm hn; exact absurd hn (Nat.not_lt_zero _)
      | succ n ih25 =>
        intro t G fi q_fi hTn htc hG hrm hn25 H locs ls hw hl
        subst q_fi
        have hWv := go_v_mF (t := t) (j := j) (h := h) hW
        refine lv_iload_n hC.1 hC.2.1 dX11_findGoing_25 rfl (lv_at hl 3 rfl) ?_
        refine q_ifne hC 312 cB dX11_findGoing_26 (by decide) (fun (c7 : go_y (τ 1) nh nj j h t = 0) => ?_) (fun (c7 : ¬ (go_y (τ 1) nh nj j h t = 0)) => ?_)
        · have hTt : go_T (τ 1) nh nj j h = t := (go_n_stop hTn (by omega) (Or.inl c7))
          refine lv_iconst (v := nI 0) hC.1 hC.2.1 dX11_findGoing_312 (by decide) ?_
          refine lv_istore (lv' := [(4, .int (nI 0)), (0, .ref (a 70)), (1, .int (nI j)), (2, .int (nI h)), (3, .int (if go_y (τ 1) nh nj j h t = 0 then (1 : Int32) else 0))]) hC.1 hC.2.1 dX11_findGoing_313 hl (by decide) rfl (fun ls hl => ?_)
          have L315_7 : ∀ (n : Nat), ∀ (k : Nat), (k ≤ t) → (t - k) < n → ∀ (H : Heap) (locs : List Loc) (ls : Array Slot), Wst E (MW E a) (sr (sr (sr τ 1 (rs_v (τ 1) nj j h t k)) 3 (G)) 0 (upd (upd (τ 0) 1 (nI t)) 2 (go_g (τ 1) nj j h t))) A s.heap H locs → lv_has ls 8 [(0, .ref (a 70)), (1, .int (nI j)), (2, .int (nI h)), (3, .int (if go_y (τ 1) nh nj j h t = 0 then (1 : Int32) else 0)), (4, .int (nI k))] → W p l e ({ frames := 4, cells := 0, slots := 0, locals := 94 }) s m args below meth c H locs 0 0 Q (F0 m 315 ls []) := by
            intro n
            induction n with
            | zero => intro k hk hn; exact absurd hn (Nat.not_lt_zero _)
            | succ n ih315 =>
              intro k hk hn315 H locs ls hw hl
              refine lv_iload hC.1 hC.2.1 dX11_findGoing_315 (lv_at hl 4 rfl) ?_
              refine lv_aload_n hC.1 hC.2.1 dX11_findGoing_317 rfl (lv_at hl 0 rfl) ?_
              refine gf_X11_106 (v := nI t) hC hw rfl dX11_findGoing_318 ?_
              refine q_cmpge hC 347 (cNle (by omega) (by omega)) dX11_findGoing_321 (by decide) (fun (c9 : t ≤ k) => ?_) (fun (c9 : k < t) => ?_)
              · have hk9 : k = t := by omega
                rw [hk9, rs_all hrm] at hw
                have hw : Wst E (MW E a) (sr (sr τ 3 (G)) 0 (upd (upd (τ 0) 1 (nI t)) 2 (go_g (τ 1) nj j h t))) A s.heap H locs := hw
                refine lv_iload_n hC.1 hC.2.1 dX11_findGoing_347 rfl (lv_at hl 3 rfl) ?_
                refine hret _ _ _ _ _ _ hw ?_ nz_B dX11_findGoing_348
                rw [hTt]
                exact ⟨rfl, G, hG, rfl⟩
              · refine lv_aload_n hC.1 hC.2.1 dX11_findGoing_324 rfl (lv_at hl 0 rfl) ?_
                refine gf_X11_7 hC hw dX11_findGoing_325 ?_
                refine lv_sipush (v := nI 258) hC.1 hC.2.1 dX11_findGoing_328 (by decide) ?_
                refine lv_aload_n hC.1 hC.2.1 dX11_findGoing_331 rfl (lv_at hl 0 rfl) ?_
                refine gf_X11_16 hC hw dX11_findGoing_332 ?_
                refine lv_iload hC.1 hC.2.1 dX11_findGoing_335 (lv_at hl 4 rfl) ?_
                have hrk := (hrm k (by omega)).2
                refine al_M3 (v := nI (go_w (τ 1) nj j h k)) hC hw (by omega) (hG k (by omega)) dX11_findGoing_337 ?_
                refine q_addN hC dX11_findGoing_338 ?_
                refine lv_iconst (v := nI 1) hC.1 hC.2.1 dX11_findGoing_339 (by decide) ?_
                refine as_M1 hC hw (by omega) dX11_findGoing_340 (fun H locs hw => ?_)
                have hw : Wst E (MW E a) (sr (sr (sr τ 1 (rs_v (τ 1) nj j h t (k + 1))) 3 (G)) 0 (upd (upd (τ 0) 1 (nI t)) 2 (go_g (τ 1) nj j h t))) A s.heap H locs := hw
                refine lv_iinc (v := nI (k + 1)) (lv' := [(4, .int (nI (k + 1))), (0, .ref (a 70)), (1, .int (nI j)), (2, .int (nI h)), (3, .int (if go_y (τ 1) nh nj j h t = 0 then (1 : Int32) else 0))]) hC.1 hC.2.1 dX11_findGoing_341 hl (k := 4) rfl (nI_add _ _) (by decide) rfl (fun ls hl => ?_)
                refine lv_goto (tgt := 315) hC.1 hC.2.1 dX11_findGoing_344 (by decide) ?_
                exact ih315 (k + 1) (by omega) (by omega) _ _ _ hw (lv_sub hl [1, 2, 3, 4, 0] rfl)
          have hw : Wst E (MW E a) (sr (sr (sr τ 1 (rs_v (τ 1) nj j h t 0)) 3 G) 0 (upd (upd (τ 0) 1 (nI t)) 2 (go_g (τ 1) nj j h t))) A s.heap H locs := hw
          exact L315_7 _ 0 (Nat.zero_le _) (Nat.lt_succ_self _) _ _ _ hw (lv_sub hl [1, 2, 3, 4, 0] rfl)
        · refine lv_iconst (v := (-1)) hC.1 hC.2.1 dX11_findGoing_29 (by decide) ?_
          refine lv_istore (lv' := [(4, .int ((-1))), (0, .ref (a 70)), (1, .int (nI j)), (2, .int (nI h)), (3, .int (if go_y (τ 1) nh nj j h t = 0 then (1 : Int32) else 0))]) hC.1 hC.2.1 dX11_findGoing_30 hl (by decide) rfl (fun ls hl => ?_)
          refine lv_iconst (v := nI 0) hC.1 hC.2.1 dX11_findGoing_32 (by decide) ?_
          refine lv_istore (lv' := [(5, .int (nI 0)), (4, .int ((-1))), (0, .ref (a 70)), (1, .int (nI j)), (2, .int (nI h)), (3, .int (if go_y (τ 1) nh nj j h t = 0 then (1 : Int32) else 0))]) hC.1 hC.2.1 dX11_findGoing_33 hl (by decide) rfl (fun ls hl => ?_)
          have L35_9 : ∀ (n : Nat), ∀ (k : Nat), ∀ (wh : Int32), (wh = (m_nx (go_v (τ 1) nj j h t) j h k)) → (k ≤ nj) → (nj - k) < n → ∀ (H : Heap) (locs : List Loc) (ls : Array Slot), Wst E (MW E a) (sr (sr (sr τ 1 (go_v (τ 1) nj j h t)) 3 (G)) 0 (upd (upd (τ 0) 1 (nI t)) 2 (go_g (τ 1) nj j h t))) A s.heap H locs → lv_has ls 8 [(0, .ref (a 70)), (1, .int (nI j)), (2, .int (nI h)), (3, .int (if go_y (τ 1) nh nj j h t = 0 then (1 : Int32) else 0)), (4, .int (wh)), (5, .int (nI k))] → W p l e ({ frames := 4, cells := 0, slots := 0, locals := 94 }) s m args below meth c H locs 0 0 Q (F0 m 35 ls []) := by
            intro n
            induction n with
            | zero => intro k wh q_wh hk hn; exact absurd hn (Nat.not_lt_zero _)
            | succ n ih35 =>
              intro k wh q_wh hk hn35 H locs ls hw hl
              subst q_wh
              refine lv_iload hC.1 hC.2.1 dX11_findGoing_35 (lv_at hl 5 rfl) ?_
              refine lv_aload_n hC.1 hC.2.1 dX11_findGoing_37 rfl (lv_at hl 0 rfl) ?_
              refine gf_X11_7 hC hw dX11_findGoing_38 ?_
              refine lv_iconst (v := nI 1) hC.1 hC.2.1 dX11_findGoing_41 (by decide) ?_
              refine al_M1 (v := nI nj) hC hw (by omega) hWv.2.2.2.1 dX11_findGoing_42 ?_
              refine q_cmpge hC 213 (cNle (by omega) (by omega)) dX11_findGoing_43 (by decide) (fun (c11 : nj ≤ k) => ?_) (fun (c11 : k < nj) => ?_)
              · have hk9 : k = nj := by omega
                rw [hk9] at hl
                refine lv_iload hC.1 hC.2.1 dX11_findGoing_213 (lv_at hl 4 rfl) ?_
                refine q_ifge hC 221 cI dX11_findGoing_215 (by decide) (fun (c12 : 0 ≤ (m_nx (go_v (τ 1) nj j h t) j h nj)) => ?_) (fun (c12 : ¬ (0 ≤ (m_nx (go_v (τ 1) nj j h t) j h nj))) => ?_)
                · have hwN := m_nx_nat (n := nj) (show nj < 2 ^ 31 by omega) (Int32.not_lt.mpr c12)
                  have hwM := m_nx_may (n := nj) (show nj < 2 ^ 31 by omega) (Int32.not_lt.mpr c12)
                  have hwN : m_nx (go_v (τ 1) nj j h t) j h nj = nI (go_w (τ 1) nj j h t) ∧ go_w (τ 1) nj j h t < nj := hwN
                  have hcp := cG_pos (n := nj) hwN.2 hwM.1
                  refine lv_aload_n hC.1 hC.2.1 dX11_findGoing_221 rfl (lv_at hl 0 rfl) ?_
                  refine gf_X11_7 hC hw dX11_findGoing_222 ?_
                  refine lv_sipush (v := nI 258) hC.1 hC.2.1 dX11_findGoing_225 (by decide) ?_
                  refine lv_iload hC.1 hC.2.1 dX11_findGoing_228 (lv_at hl 4 rfl) ?_
                  refine q_top (y := nI (go_w (τ 1) nj j h t)) hwN.1 ?_
                  refine q_addN hC dX11_findGoing_230 ?_
                  refine lv_iconst (v := nI 0) hC.1 hC.2.1 dX11_findGoing_231 (by decide) ?_
                  refine as_M1 hC hw (by omega) dX11_findGoing_232 (fun H locs hw => ?_)
                  have hw : Wst E (MW E a) (sr (sr (sr τ 1 (go_v (τ 1) nj j h (t + 1))) 3 (G)) 0 (upd (upd (τ 0) 1 (nI t)) 2 (go_g (τ 1) nj j h t))) A s.heap H locs := hw
                  refine lv_aload_n hC.1 hC.2.1 dX11_findGoing_233 rfl (lv_at hl 0 rfl) ?_
                  refine gf_X11_16 hC hw dX11_findGoing_234 ?_
                  refine lv_aload_n hC.1 hC.2.1 dX11_findGoing_237 rfl (lv_at hl 0 rfl) ?_
                  refine gf_X11_106 (v := nI t) hC hw rfl dX11_findGoing_238 ?_
                  refine lv_iload hC.1 hC.2.1 dX11_findGoing_241 (lv_at hl 4 rfl) ?_
                  refine q_top (y := nI (go_w (τ 1) nj j h t)) hwN.1 ?_
                  refine as_M3 hC hw (by omega) dX11_findGoing_243 (fun H locs hw => ?_)
                  have hw : Wst E (MW E a) (sr (sr (sr τ 1 (go_v (τ 1) nj j h (t + 1))) 3 (upd (G) t (nI (go_w (τ 1) nj j h t)))) 0 (upd (upd (τ 0) 1 (nI t)) 2 (go_g (τ 1) nj j h t))) A s.heap H locs := hw
                  refine lv_aload_n hC.1 hC.2.1 dX11_findGoing_244 rfl (lv_at hl 0 rfl) ?_
                  refine lv_dup hC.1 hC.2.1 dX11_findGoing_245 rfl ?_
                  refine gf_X11_106 (v := nI t) hC hw rfl dX11_findGoing_246 ?_
                  refine lv_iconst (v := nI 1) hC.1 hC.2.1 dX11_findGoing_249 (by decide) ?_
                  refine q_addN hC dX11_findGoing_250 ?_
                  refine pf_X11_106 hC hw dX11_findGoing_251 (fun H locs hw => ?_)
                  have hw : Wst E (MW E a) (sr (sr (sr τ 1 (go_v (τ 1) nj j h (t + 1))) 3 (upd (G) t (nI (go_w (τ 1) nj j h t)))) 0 (upd (upd (τ 0) 1 (nI (t + 1))) 2 (go_g (τ 1) nj j h t))) A s.heap H locs := hw
                  refine lv_aload_n hC.1 hC.2.1 dX11_findGoing_254 rfl (lv_at hl 0 rfl) ?_
                  refine lv_aload_n hC.1 hC.2.1 dX11_findGoing_255 rfl (lv_at hl 0 rfl) ?_
                  refine gf_X11_7 hC hw dX11_findGoing_256 ?_
                  refine lv_sipush (v := nI 162) hC.1 hC.2.1 dX11_findGoing_259 (by decide) ?_
                  refine lv_iload hC.1 hC.2.1 dX11_findGoing_262 (lv_at hl 4 rfl) ?_
                  refine q_top (y := nI (go_w (τ 1) nj j h t)) hwN.1 ?_
                  refine q_addN hC dX11_findGoing_264 ?_
                  refine al_M1 (v := eM (go_v (τ 1) nj j h (t + 1)) 7 (go_w (τ 1) nj j h t)) hC hw (by omega) (show _ = eM (go_v (τ 1) nj j h (t + 1)) 7 (go_w (τ 1) nj j h t) from congrArg (go_v (τ 1) nj j h (t + 1)) (by omega)) dX11_findGoing_265 ?_
                  refine lv_aload_n hC.1 hC.2.1 dX11_findGoing_266 rfl (lv_at hl 0 rfl) ?_
                  refine gf_X11_109 (v := go_g (τ 1) nj j h t) hC hw rfl dX11_findGoing_267 ?_
                  have J291_14 : ∀ (w13 : Int32), w13 = (if (eM (go_v (τ 1) nj j h (t + 1)) 7 (go_w (τ 1) nj j h t)) ≤ (go_g (τ 1) nj j h t) then (go_g (τ 1) nj j h t) else (eM (go_v (τ 1) nj j h (t + 1)) 7 (go_w (τ 1) nj j h t))) → ∀ (H : Heap) (locs : List Loc) (ls : Array Slot), Wst E (MW E a) (sr (sr (sr τ 1 (go_v (τ 1) nj j h (t + 1))) 3 (upd (G) t (nI (go_w (τ 1) nj j h t)))) 0 (upd (upd (τ 0) 1 (nI (t + 1))) 2 (go_g (τ 1) nj j h t))) A s.heap H locs → lv_has ls 8 [(0, .ref (a 70)), (1, .int (nI j)), (2, .int (nI h)), (3, .int (if go_y (τ 1) nh nj j h t = 0 then (1 : Int32) else 0)), (4, .int (m_nx (go_v (τ 1) nj j h t) j h nj)), (5, .int (nI nj))] → W p l e ({ frames := 4, cells := 0, slots := 0, locals := 94 }) s m args below meth c H locs 0 0 Q (F0 m 291 ls [.int (w13), .ref (a 70)]) := by
                    intro w13 e14 H locs ls hw hl
                    subst e14
                    refine pf_X11_109 hC hw dX11_findGoing_291 (fun H locs hw => ?_)
                    have hw : Wst E (MW E a) (sr (sr (sr τ 1 (go_v (τ 1) nj j h (t + 1))) 3 (upd (G) t (nI (go_w (τ 1) nj j h t)))) 0 (upd (upd (τ 0) 1 (nI (t + 1))) 2 ((if (eM (go_v (τ 1) nj j h (t + 1)) 7 (go_w (τ 1) nj j h t)) ≤ (go_g (τ 1) nj j h t) then (go_g (τ 1) nj j h t) else (eM (go_v (τ 1) nj j h (t + 1)) 7 (go_w (τ 1) nj j h t)))))) A s.heap H locs := hw
                    refine lv_aload_n hC.1 hC.2.1 dX11_findGoing_294 rfl (lv_at hl 0 rfl) ?_
                    refine lv_iload_n hC.1 hC.2.1 dX11_findGoing_295 rfl (lv_at hl 1 rfl) ?_
                    refine lv_iload_n hC.1 hC.2.1 dX11_findGoing_296 rfl (lv_at hl 2 rfl) ?_
                    have hWv1 := go_v_mF (t := t + 1) (j := j) (h := h) hW
                    refine q_callVp (As := [.int (nI j), .int (nI h)]) (rest := []) (q0 := 0) hC hw hl (tX11_whyNot l E a (sr (sr (sr τ 1 (go_v (τ 1) nj j h (t + 1))) 3 (upd (G) t (nI (go_w (τ 1) nj j h t)))) 0 (upd (upd (τ 0) 1 (nI (t + 1))) 2 ((if (eM (go_v (τ 1) nj j h (t + 1)) 7 (go_w (τ 1) nj j h t)) ≤ (go_g (τ 1) nj j h t) then (go_g (τ 1) nj j h t) else (eM (go_v (τ 1) nj j h (t + 1)) 7 (go_w (τ 1) nj j h t)))))) nh nj j h hWv1 (by first | assumption | omega) (by first | assumption | omega)) (q_cwV hC.2.2.2.2.1 ⟨rfl, rfl⟩ wk4_202 wk4_204 wks_2_9 wk1_12 wk4_205 hd_X11_whyNot ⟨Nat.le_of_ble_eq_true rfl, Nat.le_of_ble_eq_true rfl⟩) rfl rfl rfl rfl rfl (Nat.le_of_ble_eq_true rfl) dX11_findGoing_297 (fun H locs hw => ?_)
                    have J308_19 : ∀ (w18 : Int32), w18 = (if (m_why (eM (go_v (τ 1) nj j h (t + 1))) (pB (eM (go_v (τ 1) nj j h (t + 1))) (nI j)) nh nj j h) = 0 then (1 : Int32) else 0) → ∀ (H : Heap) (locs : List Loc) (ls : Array Slot), Wst E (MW E a) (sr (sr (sr τ 1 (go_v (τ 1) nj j h (t + 1))) 3 (upd (G) t (nI (go_w (τ 1) nj j h t)))) 0 (upd (upd (τ 0) 1 (nI (t + 1))) 2 ((if (eM (go_v (τ 1) nj j h (t + 1)) 7 (go_w (τ 1) nj j h t)) ≤ (go_g (τ 1) nj j h t) then (go_g (τ 1) nj j h t) else (eM (go_v (τ 1) nj j h (t + 1)) 7 (go_w (τ 1) nj j h t)))))) A s.heap H locs → lv_has ls 8 [(0, .ref (a 70)), (1, .int (nI j)), (2, .int (nI h)), (3, .int (if go_y (τ 1) nh nj j h t = 0 then (1 : Int32) else 0)), (4, .int (m_nx (go_v (τ 1) nj j h t) j h nj)), (5, .int (nI nj))] → W p l e ({ frames := 4, cells := 0, slots := 0, locals := 94 }) s m args below meth c H locs 0 0 Q (F0 m 308 ls [.int (w18)]) := by
                      intro w18 e19 H locs ls hw hl
                      subst e19
                      refine lv_istore_n (lv' := [(3, .int (if (m_why (eM (go_v (τ 1) nj j h (t + 1))) (pB (eM (go_v (τ 1) nj j h (t + 1))) (nI j)) nh nj j h) = 0 then (1 : Int32) else 0)), (0, .ref (a 70)), (1, .int (nI j)), (2, .int (nI h)), (4, .int (m_nx (go_v (τ 1) nj j h t) j h nj)), (5, .int (nI nj))]) hC.1 hC.2.1 dX11_findGoing_308 rfl hl (by decide) rfl (fun ls hl => ?_)
                      refine lv_goto (tgt := 25) hC.1 hC.2.1 dX11_findGoing_309 (by decide) ?_
                      exact ih25 (t + 1) (upd (G) t (nI (go_w (τ 1) nj j h t))) (if (m_why (eM (go_v (τ 1) nj j h (t + 1))) (pB (eM (go_v (τ 1) nj j h (t + 1))) (nI j)) nh nj j h) = 0 then (1 : Int32) else 0) rfl (by rw [← hTn]; exact (go_n_go (by omega) c7 (Int32.not_lt.mpr c12)).symm) (by rw [show go_v (τ 1) nj j h (t + 1) = upd (go_v (τ 1) nj j h t) (258 + go_w (τ 1) nj j h t) 0 from rfl]; have := cG_drop (n := nj) hwN.2 hwM.1; omega) (fun x q => by by_cases e : x = t; subst e; exact ups; rw [upn e]; exact hG x (by omega)) (fun x q => by by_cases e : x = t; subst e; exact ⟨hwM, hwN.2⟩; exact hrm x (by omega)) (by omega) _ _ _ hw (lv_sub hl [1, 2, 3, 0] rfl)
                    refine q_ifne hC 307 cI dX11_findGoing_300 (by decide) (fun (c20 : ¬ ((m_why (eM (go_v (τ 1) nj j h (t + 1))) (pB (eM (go_v (τ 1) nj j h (t + 1))) (nI j)) nh nj j h) = 0)) => ?_) (fun (c20 : (m_why (eM (go_v (τ 1) nj j h (t + 1))) (pB (eM (go_v (τ 1) nj j h (t + 1))) (nI j)) nh nj j h) = 0) => ?_)
                    · refine lv_iconst (v := nI 0) hC.1 hC.2.1 dX11_findGoing_307 (by decide) ?_
                      exact J308_19 _ (if_neg c20).symm _ _ _ hw (lv_sub hl [0, 1, 2, 3, 4, 5] rfl)
                    · refine lv_iconst (v := nI 1) hC.1 hC.2.1 dX11_findGoing_303 (by decide) ?_
                      refine lv_goto (tgt := 308) hC.1 hC.2.1 dX11_findGoing_304 (by decide) ?_
                      exact J308_19 _ (if_pos c20).symm _ _ _ hw (lv_sub hl [0, 1, 2, 3, 4, 5] rfl)
                  refine q_cmple hC 287 cI dX11_findGoing_270 (by decide) (fun (c21 : (eM (go_v (τ 1) nj j h (t + 1)) 7 (go_w (τ 1) nj j h t)) ≤ (go_g (τ 1) nj j h t)) => ?_) (fun (c21 : ¬ ((eM (go_v (τ 1) nj j h (t + 1)) 7 (go_w (τ 1) nj j h t)) ≤ (go_g (τ 1) nj j h t))) => ?_)
                  · refine lv_aload_n hC.1 hC.2.1 dX11_findGoing_287 rfl (lv_at hl 0 rfl) ?_
                    refine gf_X11_109 (v := go_g (τ 1) nj j h t) hC hw rfl dX11_findGoing_288 ?_
                    exact J291_14 _ (by (rw [if_pos c21]) <;> rfl) _ _ _ hw (lv_sub hl [0, 1, 2, 3, 4, 5] rfl)
                  · refine lv_aload_n hC.1 hC.2.1 dX11_findGoing_273 rfl (lv_at hl 0 rfl) ?_
                    refine gf_X11_7 hC hw dX11_findGoing_274 ?_
                    refine lv_sipush (v := nI 162) hC.1 hC.2.1 dX11_findGoing_277 (by decide) ?_
                    refine lv_iload hC.1 hC.2.1 dX11_findGoing_280 (lv_at hl 4 rfl) ?_
                    refine q_top (y := nI (go_w (τ 1) nj j h t)) hwN.1 ?_
                    refine q_addN hC dX11_findGoing_282 ?_
                    refine al_M1 (v := eM (go_v (τ 1) nj j h (t + 1)) 7 (go_w (τ 1) nj j h t)) hC hw (by omega) (show _ = eM (go_v (τ 1) nj j h (t + 1)) 7 (go_w (τ 1) nj j h t) from congrArg (go_v (τ 1) nj j h (t + 1)) (by omega)) dX11_findGoing_283 ?_
                    refine lv_goto (tgt := 291) hC.1 hC.2.1 dX11_findGoing_284 (by decide) ?_
                    exact J291_14 _ (by (rw [if_neg c21]) <;> rfl) _ _ _ hw (lv_sub hl [0, 1, 2, 3, 4, 5] rfl)
                · refine lv_goto (tgt := 312) hC.1 hC.2.1 dX11_findGoing_218 (by decide) ?_
                  have hTt : go_T (τ 1) nh nj j h = t := (go_n_stop hTn (by omega) (Or.inr (Int32.not_le.mp c12)))
                  refine lv_iconst (v := nI 0) hC.1 hC.2.1 dX11_findGoing_312 (by decide) ?_
                  refine lv_istore (lv' := [(4, .int (nI 0)), (0, .ref (a 70)), (1, .int (nI j)), (2, .int (nI h)), (3, .int (if go_y (τ 1) nh nj j h t = 0 then (1 : Int32) else 0)), (5, .int (nI nj))]) hC.1 hC.2.1 dX11_findGoing_313 hl (by decide) rfl (fun ls hl => ?_)
                  have L315_21 : ∀ (n : Nat), ∀ (k : Nat), (k ≤ t) → (t - k) < n → ∀ (H : Heap) (locs : List Loc) (ls : Array Slot), Wst E (MW E a) (sr (sr (sr τ 1 (rs_v (τ 1) nj j h t k)) 3 (G)) 0 (upd (upd (τ 0) 1 (nI t)) 2 (go_g (τ 1) nj j h t))) A s.heap H locs → lv_has ls 8 [(0, .ref (a 70)), (1, .int (nI j)), (2, .int (nI h)), (3, .int (if go_y (τ 1) nh nj j h t = 0 then (1 : Int32) else 0)), (4, .int (nI k))] → W p l e ({ frames := 4, cells := 0, slots := 0, locals := 94 }) s m args below meth c H locs 0 0 Q (F0 m 315 ls []) := by
                    intro n
                    induction n with
                    | zero => intro k hk hn; exact absurd hn (Nat.not_lt_zero _)
                    | succ n ih315 =>
                      intro k hk hn315 H locs ls hw hl
                      refine lv_iload hC.1 hC.2.1 dX11_findGoing_315 (lv_at hl 4 rfl) ?_
                      refine lv_aload_n hC.1 hC.2.1 dX11_findGoing_317 rfl (lv_at hl 0 rfl) ?_
                      refine gf_X11_106 (v := nI t) hC hw rfl dX11_findGoing_318 ?_
                      refine q_cmpge hC 347 (cNle (by omega) (by omega)) dX11_findGoing_321 (by decide) (fun (c23 : t ≤ k) => ?_) (fun (c23 : k < t) => ?_)
                      · have hk9 : k = t := by omega
                        rw [hk9, rs_all hrm] at hw
                        have hw : Wst E (MW E a) (sr (sr τ 3 (G)) 0 (upd (upd (τ 0) 1 (nI t)) 2 (go_g (τ 1) nj j h t))) A s.heap H locs := hw
                        refine lv_iload_n hC.1 hC.2.1 dX11_findGoing_347 rfl (lv_at hl 3 rfl) ?_
                        refine hret _ _ _ _ _ _ hw ?_ nz_B dX11_findGoing_348
                        rw [hTt]
                        exact ⟨rfl, G, hG, rfl⟩
                      · refine lv_aload_n hC.1 hC.2.1 dX11_findGoing_324 rfl (lv_at hl 0 rfl) ?_
                        refine gf_X11_7 hC hw dX11_findGoing_325 ?_
                        refine lv_sipush (v := nI 258) hC.1 hC.2.1 dX11_findGoing_328 (by decide) ?_
                        refine lv_aload_n hC.1 hC.2.1 dX11_findGoing_331 rfl (lv_at hl 0 rfl) ?_
                        refine gf_X11_16 hC hw dX11_findGoing_332 ?_
                        refine lv_iload hC.1 hC.2.1 dX11_findGoing_335 (lv_at hl 4 rfl) ?_
                        have hrk := (hrm k (by omega)).2
                        refine al_M3 (v := nI (go_w (τ 1) nj j h k)) hC hw (by omega) (hG k (by omega)) dX11_findGoing_337 ?_
                        refine q_addN hC dX11_findGoing_338 ?_
                        refine lv_iconst (v := nI 1) hC.1 hC.2.1 dX11_findGoing_339 (by decide) ?_
                        refine as_M1 hC hw (by omega) dX11_findGoing_340 (fun H locs hw => ?_)
                        have hw : Wst E (MW E a) (sr (sr (sr τ 1 (rs_v (τ 1) nj j h t (k + 1))) 3 (G)) 0 (upd (upd (τ 0) 1 (nI t)) 2 (go_g (τ 1) nj j h t))) A s.heap H locs := hw
                        refine lv_iinc (v := nI (k + 1)) (lv' := [(4, .int (nI (k + 1))), (0, .ref (a 70)), (1, .int (nI j)), (2, .int (nI h)), (3, .int (if go_y (τ 1) nh nj j h t = 0 then (1 : Int32) else 0))]) hC.1 hC.2.1 dX11_findGoing_341 hl (k := 4) rfl (nI_add _ _) (by decide) rfl (fun ls hl => ?_)
                        refine lv_goto (tgt := 315) hC.1 hC.2.1 dX11_findGoing_344 (by decide) ?_
                        exact ih315 (k + 1) (by omega) (by omega) _ _ _ hw (lv_sub hl [1, 2, 3, 4, 0] rfl)
                  have hw : Wst E (MW E a) (sr (sr (sr τ 1 (rs_v (τ 1) nj j h t 0)) 3 G) 0 (upd (upd (τ 0) 1 (nI t)) 2 (go_g (τ 1) nj j h t))) A s.heap H locs := hw
                  exact L315_21 _ 0 (Nat.zero_le _) (Nat.lt_succ_self _) _ _ _ hw (lv_sub hl [1, 2, 3, 4, 0] rfl)
              · refine lv_aload_n hC.1 hC.2.1 dX11_findGoing_46 rfl (lv_at hl 0 rfl) ?_
                refine lv_iload hC.1 hC.2.1 dX11_findGoing_47 (lv_at hl 5 rfl) ?_
                refine lv_iload_n hC.1 hC.2.1 dX11_findGoing_49 rfl (lv_at hl 2 rfl) ?_
                refine q_callVp (As := [.int (nI k), .int (nI h)]) (rest := []) (q0 := 0) hC hw hl (tX11_standsOn l E a (sr (sr (sr τ 1 (go_v (τ 1) nj j h t)) 3 (G)) 0 (upd (upd (τ 0) 1 (nI t)) 2 (go_g (τ 1) nj j h t))) nh nj k h hWv (by first | assumption | omega) (by first | assumption | omega)) (q_cwV hC.2.2.2.2.1 ⟨rfl, rfl⟩ wk4_210 wk4_212 wks_2_11 wk1_12 wk4_213 hd_X11_standsOn ⟨Nat.le_of_ble_eq_true rfl, Nat.le_of_ble_eq_true rfl⟩) rfl rfl rfl rfl rfl (Nat.le_of_ble_eq_true rfl) dX11_findGoing_50 (fun H locs hw => ?_)
                have J99_28 : ∀ (w27 : Int32), w27 = (if (eM (go_v (τ 1) nj j h t) 11 k = 1 ∧ eM (go_v (τ 1) nj j h t) 12 k = nI h) ∧ ((¬ ((eM (go_v (τ 1) nj j h t) 5 k) = 3)) ∧ (¬ ((eM (go_v (τ 1) nj j h t) 7 j) ≤ (eM (go_v (τ 1) nj j h t) 7 k)))) then (1 : Int32) else 0) → ∀ (H : Heap) (locs : List Loc) (ls : Array Slot), Wst E (MW E a) (sr (sr (sr τ 1 (go_v (τ 1) nj j h t)) 3 (G)) 0 (upd (upd (τ 0) 1 (nI t)) 2 (go_g (τ 1) nj j h t))) A s.heap H locs → lv_has ls 8 [(0, .ref (a 70)), (1, .int (nI j)), (2, .int (nI h)), (3, .int (if go_y (τ 1) nh nj j h t = 0 then (1 : Int32) else 0)), (4, .int (m_nx (go_v (τ 1) nj j h t) j h k)), (5, .int (nI k))] → W p l e ({ frames := 4, cells := 0, slots := 0, locals := 94 }) s m args below meth c H locs 0 0 Q (F0 m 99 ls [.int (w27)]) := by
                  intro w27 e28 H locs ls hw hl
                  subst e28
                  refine lv_istore (lv' := [(6, .int (if (eM (go_v (τ 1) nj j h t) 11 k = 1 ∧ eM (go_v (τ 1) nj j h t) 12 k = nI h) ∧ ((¬ ((eM (go_v (τ 1) nj j h t) 5 k) = 3)) ∧ (¬ ((eM (go_v (τ 1) nj j h t) 7 j) ≤ (eM (go_v (τ 1) nj j h t) 7 k)))) then (1 : Int32) else 0)), (0, .ref (a 70)), (1, .int (nI j)), (2, .int (nI h)), (3, .int (if go_y (τ 1) nh nj j h t = 0 then (1 : Int32) else 0)), (4, .int (m_nx (go_v (τ 1) nj j h t) j h k)), (5, .int (nI k))]) hC.1 hC.2.1 dX11_findGoing_99 hl (by decide) rfl (fun ls hl => ?_)
                  refine lv_iload hC.1 hC.2.1 dX11_findGoing_101 (lv_at hl 0 rfl) ?_
                  have J191_30 : ∀ (w29 : Int32), w29 = (if ((eM (go_v (τ 1) nj j h t) 11 k = 1 ∧ eM (go_v (τ 1) nj j h t) 12 k = nI h) ∧ ((¬ ((eM (go_v (τ 1) nj j h t) 5 k) = 3)) ∧ (¬ ((eM (go_v (τ 1) nj j h t) 7 j) ≤ (eM (go_v (τ 1) nj j h t) 7 k))))) ∧ (((m_nx (go_v (τ 1) nj j h t) j h k) < 0) ∨ (((eM (go_v (τ 1) nj j h t) 7 k) < (eM (go_v (τ 1) nj j h t) 7 ((m_nx (go_v (τ 1) nj j h t) j h k).toNatClampNeg))) ∨ (((eM (go_v (τ 1) nj j h t) 7 k) = (eM (go_v (τ 1) nj j h t) 7 ((m_nx (go_v (τ 1) nj j h t) j h k).toNatClampNeg))) ∧ (¬ ((eM (go_v (τ 1) nj j h t) 13 k) ≤ (eM (go_v (τ 1) nj j h t) 13 ((m_nx (go_v (τ 1) nj j h t) j h k).toNatClampNeg))))))) then (1 : Int32) else 0) → ∀ (H : Heap) (locs : List Loc) (ls : Array Slot), Wst E (MW E a) (sr (sr (sr τ 1 (go_v (τ 1) nj j h t)) 3 (G)) 0 (upd (upd (τ 0) 1 (nI t)) 2 (go_g (τ 1) nj j h t))) A s.heap H locs → lv_has ls 8 [(0, .ref (a 70)), (1, .int (nI j)), (2, .int (nI h)), (3, .int (if go_y (τ 1) nh nj j h t = 0 then (1 : Int32) else 0)), (4, .int (m_nx (go_v (τ 1) nj j h t) j h k)), (5, .int (nI k)), (6, .int (if (eM (go_v (τ 1) nj j h t) 11 k = 1 ∧ eM (go_v (τ 1) nj j h t) 12 k = nI h) ∧ ((¬ ((eM (go_v (τ 1) nj j h t) 5 k) = 3)) ∧ (¬ ((eM (go_v (τ 1) nj j h t) 7 j) ≤ (eM (go_v (τ 1) nj j h t) 7 k)))) then (1 : Int32) else 0))] → W p l e ({ frames := 4, cells := 0, slots := 0, locals := 94 }) s m args below meth c H locs 0 0 Q (F0 m 191 ls [.int (w29)]) := by
                    intro w29 e30 H locs ls hw hl
                    subst e30
                    refine lv_istore (lv' := [(7, .int (if ((eM (go_v (τ 1) nj j h t) 11 k = 1 ∧ eM (go_v (τ 1) nj j h t) 12 k = nI h) ∧ ((¬ ((eM (go_v (τ 1) nj j h t) 5 k) = 3)) ∧ (¬ ((eM (go_v (τ 1) nj j h t) 7 j) ≤ (eM (go_v (τ 1) nj j h t) 7 k))))) ∧ (((m_nx (go_v (τ 1) nj j h t) j h k) < 0) ∨ (((eM (go_v (τ 1) nj j h t) 7 k) < (eM (go_v (τ 1) nj j h t) 7 ((m_nx (go_v (τ 1) nj j h t) j h k).toNatClampNeg))) ∨ (((eM (go_v (τ 1) nj j h t) 7 k) = (eM (go_v (τ 1) nj j h t) 7 ((m_nx (go_v (τ 1) nj j h t) j h k).toNatClampNeg))) ∧ (¬ ((eM (go_v (τ 1) nj j h t) 13 k) ≤ (eM (go_v (τ 1) nj j h t) 13 ((m_nx (go_v (τ 1) nj j h t) j h k).toNatClampNeg))))))) then (1 : Int32) else 0)), (0, .ref (a 70)), (1, .int (nI j)), (2, .int (nI h)), (3, .int (if go_y (τ 1) nh nj j h t = 0 then (1 : Int32) else 0)), (4, .int (m_nx (go_v (τ 1) nj j h t) j h k)), (5, .int (nI k)), (6, .int (if (eM (go_v (τ 1) nj j h t) 11 k = 1 ∧ eM (go_v (τ 1) nj j h t) 12 k = nI h) ∧ ((¬ ((eM (go_v (τ 1) nj j h t) 5 k) = 3)) ∧ (¬ ((eM (go_v (τ 1) nj j h t) 7 j) ≤ (eM (go_v (τ 1) nj j h t) 7 k)))) then (1 : Int32) else 0))]) hC.1 hC.2.1 dX11_findGoing_191 hl (by decide) rfl (fun ls hl => ?_)
                    refine lv_iload hC.1 hC.2.1 dX11_findGoing_193 (lv_at hl 0 rfl) ?_
                    have J205_32 : ∀ (w31 : Int32), w31 = (if ((eM (go_v (τ 1) nj j h t) 11 k = 1 ∧ eM (go_v (τ 1) nj j h t) 12 k = nI h) ∧ ((¬ ((eM (go_v (τ 1) nj j h t) 5 k) = 3)) ∧ (¬ ((eM (go_v (τ 1) nj j h t) 7 j) ≤ (eM (go_v (τ 1) nj j h t) 7 k))))) ∧ (((m_nx (go_v (τ 1) nj j h t) j h k) < 0) ∨ (((eM (go_v (τ 1) nj j h t) 7 k) < (eM (go_v (τ 1) nj j h t) 7 ((m_nx (go_v (τ 1) nj j h t) j h k).toNatClampNeg))) ∨ (((eM (go_v (τ 1) nj j h t) 7 k) = (eM (go_v (τ 1) nj j h t) 7 ((m_nx (go_v (τ 1) nj j h t) j h k).toNatClampNeg))) ∧ (¬ ((eM (go_v (τ 1) nj j h t) 13 k) ≤ (eM (go_v (τ 1) nj j h t) 13 ((m_nx (go_v (τ 1) nj j h t) j h k).toNatClampNeg))))))) then (nI k) else (m_nx (go_v (τ 1) nj j h t) j h k)) → ∀ (H : Heap) (locs : List Loc) (ls : Array Slot), Wst E (MW E a) (sr (sr (sr τ 1 (go_v (τ 1) nj j h t)) 3 (G)) 0 (upd (upd (τ 0) 1 (nI t)) 2 (go_g (τ 1) nj j h t))) A s.heap H locs → lv_has ls 8 [(0, .ref (a 70)), (1, .int (nI j)), (2, .int (nI h)), (3, .int (if go_y (τ 1) nh nj j h t = 0 then (1 : Int32) else 0)), (4, .int (m_nx (go_v (τ 1) nj j h t) j h k)), (5, .int (nI k)), (6, .int (if (eM (go_v (τ 1) nj j h t) 11 k = 1 ∧ eM (go_v (τ 1) nj j h t) 12 k = nI h) ∧ ((¬ ((eM (go_v (τ 1) nj j h t) 5 k) = 3)) ∧ (¬ ((eM (go_v (τ 1) nj j h t) 7 j) ≤ (eM (go_v (τ 1) nj j h t) 7 k)))) then (1 : Int32) else 0)), (7, .int (if ((eM (go_v (τ 1) nj j h t) 11 k = 1 ∧ eM (go_v (τ 1) nj j h t) 12 k = nI h) ∧ ((¬ ((eM (go_v (τ 1) nj j h t) 5 k) = 3)) ∧ (¬ ((eM (go_v (τ 1) nj j h t) 7 j) ≤ (eM (go_v (τ 1) nj j h t) 7 k))))) ∧ (((m_nx (go_v (τ 1) nj j h t) j h k) < 0) ∨ (((eM (go_v (τ 1) nj j h t) 7 k) < (eM (go_v (τ 1) nj j h t) 7 ((m_nx (go_v (τ 1) nj j h t) j h k).toNatClampNeg))) ∨ (((eM (go_v (τ 1) nj j h t) 7 k) = (eM (go_v (τ 1) nj j h t) 7 ((m_nx (go_v (τ 1) nj j h t) j h k).toNatClampNeg))) ∧ (¬ ((eM (go_v (τ 1) nj j h t) 13 k) ≤ (eM (go_v (τ 1) nj j h t) 13 ((m_nx (go_v (τ 1) nj j h t) j h k).toNatClampNeg))))))) then (1 : Int32) else 0))] → W p l e ({ frames := 4, cells := 0, slots := 0, locals := 94 }) s m args below meth c H locs 0 0 Q (F0 m 205 ls [.int (w31)]) := by
                      intro w31 e32 H locs ls hw hl
                      subst e32
                      refine lv_istore (lv' := [(4, .int ((if ((eM (go_v (τ 1) nj j h t) 11 k = 1 ∧ eM (go_v (τ 1) nj j h t) 12 k = nI h) ∧ ((¬ ((eM (go_v (τ 1) nj j h t) 5 k) = 3)) ∧ (¬ ((eM (go_v (τ 1) nj j h t) 7 j) ≤ (eM (go_v (τ 1) nj j h t) 7 k))))) ∧ (((m_nx (go_v (τ 1) nj j h t) j h k) < 0) ∨ (((eM (go_v (τ 1) nj j h t) 7 k) < (eM (go_v (τ 1) nj j h t) 7 ((m_nx (go_v (τ 1) nj j h t) j h k).toNatClampNeg))) ∨ (((eM (go_v (τ 1) nj j h t) 7 k) = (eM (go_v (τ 1) nj j h t) 7 ((m_nx (go_v (τ 1) nj j h t) j h k).toNatClampNeg))) ∧ (¬ ((eM (go_v (τ 1) nj j h t) 13 k) ≤ (eM (go_v (τ 1) nj j h t) 13 ((m_nx (go_v (τ 1) nj j h t) j h k).toNatClampNeg))))))) then (nI k) else (m_nx (go_v (τ 1) nj j h t) j h k)))), (0, .ref (a 70)), (1, .int (nI j)), (2, .int (nI h)), (3, .int (if go_y (τ 1) nh nj j h t = 0 then (1 : Int32) else 0)), (5, .int (nI k)), (6, .int (if (eM (go_v (τ 1) nj j h t) 11 k = 1 ∧ eM (go_v (τ 1) nj j h t) 12 k = nI h) ∧ ((¬ ((eM (go_v (τ 1) nj j h t) 5 k) = 3)) ∧ (¬ ((eM (go_v (τ 1) nj j h t) 7 j) ≤ (eM (go_v (τ 1) nj j h t) 7 k)))) then (1 : Int32) else 0)), (7, .int (if ((eM (go_v (τ 1) nj j h t) 11 k = 1 ∧ eM (go_v (τ 1) nj j h t) 12 k = nI h) ∧ ((¬ ((eM (go_v (τ 1) nj j h t) 5 k) = 3)) ∧ (¬ ((eM (go_v (τ 1) nj j h t) 7 j) ≤ (eM (go_v (τ 1) nj j h t) 7 k))))) ∧ (((m_nx (go_v (τ 1) nj j h t) j h k) < 0) ∨ (((eM (go_v (τ 1) nj j h t) 7 k) < (eM (go_v (τ 1) nj j h t) 7 ((m_nx (go_v (τ 1) nj j h t) j h k).toNatClampNeg))) ∨ (((eM (go_v (τ 1) nj j h t) 7 k) = (eM (go_v (τ 1) nj j h t) 7 ((m_nx (go_v (τ 1) nj j h t) j h k).toNatClampNeg))) ∧ (¬ ((eM (go_v (τ 1) nj j h t) 13 k) ≤ (eM (go_v (τ 1) nj j h t) 13 ((m_nx (go_v (τ 1) nj j h t) j h k).toNatClampNeg))))))) then (1 : Int32) else 0))]) hC.1 hC.2.1 dX11_findGoing_205 hl (by decide) rfl (fun ls hl => ?_)
                      refine lv_iinc (v := nI (k + 1)) (lv' := [(5, .int (nI (k + 1))), (4, .int ((if ((eM (go_v (τ 1) nj j h t) 11 k = 1 ∧ eM (go_v (τ 1) nj j h t) 12 k = nI h) ∧ ((¬ ((eM (go_v (τ 1) nj j h t) 5 k) = 3)) ∧ (¬ ((eM (go_v (τ 1) nj j h t) 7 j) ≤ (eM (go_v (τ 1) nj j h t) 7 k))))) ∧ (((m_nx (go_v (τ 1) nj j h t) j h k) < 0) ∨ (((eM (go_v (τ 1) nj j h t) 7 k) < (eM (go_v (τ 1) nj j h t) 7 ((m_nx (go_v (τ 1) nj j h t) j h k).toNatClampNeg))) ∨ (((eM (go_v (τ 1) nj j h t) 7 k) = (eM (go_v (τ 1) nj j h t) 7 ((m_nx (go_v (τ 1) nj j h t) j h k).toNatClampNeg))) ∧ (¬ ((eM (go_v (τ 1) nj j h t) 13 k) ≤ (eM (go_v (τ 1) nj j h t) 13 ((m_nx (go_v (τ 1) nj j h t) j h k).toNatClampNeg))))))) then (nI k) else (m_nx (go_v (τ 1) nj j h t) j h k)))), (0, .ref (a 70)), (1, .int (nI j)), (2, .int (nI h)), (3, .int (if go_y (τ 1) nh nj j h t = 0 then (1 : Int32) else 0)), (6, .int (if (eM (go_v (τ 1) nj j h t) 11 k = 1 ∧ eM (go_v (τ 1) nj j h t) 12 k = nI h) ∧ ((¬ ((eM (go_v (τ 1) nj j h t) 5 k) = 3)) ∧ (¬ ((eM (go_v (τ 1) nj j h t) 7 j) ≤ (eM (go_v (τ 1) nj j h t) 7 k)))) then (1 : Int32) else 0)), (7, .int (if ((eM (go_v (τ 1) nj j h t) 11 k = 1 ∧ eM (go_v (τ 1) nj j h t) 12 k = nI h) ∧ ((¬ ((eM (go_v (τ 1) nj j h t) 5 k) = 3)) ∧ (¬ ((eM (go_v (τ 1) nj j h t) 7 j) ≤ (eM (go_v (τ 1) nj j h t) 7 k))))) ∧ (((m_nx (go_v (τ 1) nj j h t) j h k) < 0) ∨ (((eM (go_v (τ 1) nj j h t) 7 k) < (eM (go_v (τ 1) nj j h t) 7 ((m_nx (go_v (τ 1) nj j h t) j h k).toNatClampNeg))) ∨ (((eM (go_v (τ 1) nj j h t) 7 k) = (eM (go_v (τ 1) nj j h t) 7 ((m_nx (go_v (τ 1) nj j h t) j h k).toNatClampNeg))) ∧ (¬ ((eM (go_v (τ 1) nj j h t) 13 k) ≤ (eM (go_v (τ 1) nj j h t) 13 ((m_nx (go_v (τ 1) nj j h t) j h k).toNatClampNeg))))))) then (1 : Int32) else 0))]) hC.1 hC.2.1 dX11_findGoing_207 hl (k := 5) rfl (nI_add _ _) (by decide) rfl (fun ls hl => ?_)
                      refine lv_goto (tgt := 35) hC.1 hC.2.1 dX11_findGoing_210 (by decide) ?_
                      exact ih35 (k + 1) (if ((eM (go_v (τ 1) nj j h t) 11 k = 1 ∧ eM (go_v (τ 1) nj j h t) 12 k = nI h) ∧ ((¬ ((eM (go_v (τ 1) nj j h t) 5 k) = 3)) ∧ (¬ ((eM (go_v (τ 1) nj j h t) 7 j) ≤ (eM (go_v (τ 1) nj j h t) 7 k))))) ∧ (((m_nx (go_v (τ 1) nj j h t) j h k) < 0) ∨ (((eM (go_v (τ 1) nj j h t) 7 k) < (eM (go_v (τ 1) nj j h t) 7 ((m_nx (go_v (τ 1) nj j h t) j h k).toNatClampNeg))) ∨ (((eM (go_v (τ 1) nj j h t) 7 k) = (eM (go_v (τ 1) nj j h t) 7 ((m_nx (go_v (τ 1) nj j h t) j h k).toNatClampNeg))) ∧ (¬ ((eM (go_v (τ 1) nj j h t) 13 k) ≤ (eM (go_v (τ 1) nj j h t) 13 ((m_nx (go_v (τ 1) nj j h t) j h k).toNatClampNeg))))))) then (nI k) else (m_nx (go_v (τ 1) nj j h t) j h k)) (by simp only [m_nx]; clear hTn htc hG hrm hWh hW; grind) (by omega) (by omega) _ _ _ hw (lv_sub hl [2, 3, 4, 5, 1, 0] rfl)
                    refine q_ifeq hC 203 cB dX11_findGoing_195 (by decide) (fun (c33 : ¬ (((eM (go_v (τ 1) nj j h t) 11 k = 1 ∧ eM (go_v (τ 1) nj j h t) 12 k = nI h) ∧ ((¬ ((eM (go_v (τ 1) nj j h t) 5 k) = 3)) ∧ (¬ ((eM (go_v (τ 1) nj j h t) 7 j) ≤ (eM (go_v (τ 1) nj j h t) 7 k))))) ∧ (((m_nx (go_v (τ 1) nj j h t) j h k) < 0) ∨ (((eM (go_v (τ 1) nj j h t) 7 k) < (eM (go_v (τ 1) nj j h t) 7 ((m_nx (go_v (τ 1) nj j h t) j h k).toNatClampNeg))) ∨ (((eM (go_v (τ 1) nj j h t) 7 k) = (eM (go_v (τ 1) nj j h t) 7 ((m_nx (go_v (τ 1) nj j h t) j h k).toNatClampNeg))) ∧ (¬ ((eM (go_v (τ 1) nj j h t) 13 k) ≤ (eM (go_v (τ 1) nj j h t) 13 ((m_nx (go_v (τ 1) nj j h t) j h k).toNatClampNeg))))))))) => ?_) (fun (c33 : ((eM (go_v (τ 1) nj j h t) 11 k = 1 ∧ eM (go_v (τ 1) nj j h t) 12 k = nI h) ∧ ((¬ ((eM (go_v (τ 1) nj j h t) 5 k) = 3)) ∧ (¬ ((eM (go_v (τ 1) nj j h t) 7 j) ≤ (eM (go_v (τ 1) nj j h t) 7 k))))) ∧ (((m_nx (go_v (τ 1) nj j h t) j h k) < 0) ∨ (((eM (go_v (τ 1) nj j h t) 7 k) < (eM (go_v (τ 1) nj j h t) 7 ((m_nx (go_v (τ 1) nj j h t) j h k).toNatClampNeg))) ∨ (((eM (go_v (τ 1) nj j h t) 7 k) = (eM (go_v (τ 1) nj j h t) 7 ((m_nx (go_v (τ 1) nj j h t) j h k).toNatClampNeg))) ∧ (¬ ((eM (go_v (τ 1) nj j h t) 13 k) ≤ (eM (go_v (τ 1) nj j h t) 13 ((m_nx (go_v (τ 1) nj j h t) j h k).toNatClampNeg)))))))) => ?_)
                    · refine lv_iload hC.1 hC.2.1 dX11_findGoing_203 (lv_at hl 5 rfl) ?_
                      exact J205_32 _ (by (rw [if_neg c33]) <;> rfl) _ _ _ hw (lv_sub hl [1, 2, 3, 4, 5, 6, 7, 0] rfl)
                    · refine lv_iload hC.1 hC.2.1 dX11_findGoing_198 (lv_at hl 6 rfl) ?_
                      refine lv_goto (tgt := 205) hC.1 hC.2.1 dX11_findGoing_200 (by decide) ?_
                      exact J205_32 _ (by (rw [if_pos c33]) <;> rfl) _ _ _ hw (lv_sub hl [1, 2, 3, 4, 5, 6, 7, 0] rfl)
                  refine q_ifeq hC 190 cB dX11_findGoing_103 (by decide) (fun (c34 : ¬ ((eM (go_v (τ 1) nj j h t) 11 k = 1 ∧ eM (go_v (τ 1) nj j h t) 12 k = nI h) ∧ ((¬ ((eM (go_v (τ 1) nj j h t) 5 k) = 3)) ∧ (¬ ((eM (go_v (τ 1) nj j h t) 7 j) ≤ (eM (go_v (τ 1) nj j h t) 7 k)))))) => ?_) (fun (c34 : (eM (go_v (τ 1) nj j h t) 11 k = 1 ∧ eM (go_v (τ 1) nj j h t) 12 k = nI h) ∧ ((¬ ((eM (go_v (τ 1) nj j h t) 5 k) = 3)) ∧ (¬ ((eM (go_v (τ 1) nj j h t) 7 j) ≤ (eM (go_v (τ 1) nj j h t) 7 k))))) => ?_)
                  · refine lv_iconst (v := nI 0) hC.1 hC.2.1 dX11_findGoing_190 (by decide) ?_
                    exact J191_30 _ (if_neg (fun q => c34 q.1)).symm _ _ _ hw (lv_sub hl [1, 2, 3, 4, 5, 6, 0] rfl)
                  · refine lv_iload hC.1 hC.2.1 dX11_findGoing_106 (lv_at hl 5 rfl) ?_
                    refine q_iflt hC 186 cI dX11_findGoing_108 (by decide) (fun (c35 : (m_nx (go_v (τ 1) nj j h t) j h k) < 0) => ?_) (fun (c35 : ¬ ((m_nx (go_v (τ 1) nj j h t) j h k) < 0)) => ?_)
                    · refine lv_iconst (v := nI 1) hC.1 hC.2.1 dX11_findGoing_186 (by decide) ?_
                      refine lv_goto (tgt := 191) hC.1 hC.2.1 dX11_findGoing_187 (by decide) ?_
                      exact J191_30 _ (if_pos ⟨c34, (Or.inl c35)⟩).symm _ _ _ hw (lv_sub hl [1, 2, 3, 4, 5, 6, 0] rfl)
                    · refine lv_aload_n hC.1 hC.2.1 dX11_findGoing_111 rfl (lv_at hl 1 rfl) ?_
                      refine gf_X11_7 hC hw dX11_findGoing_112 ?_
                      refine lv_sipush (v := nI 162) hC.1 hC.2.1 dX11_findGoing_115 (by decide) ?_
                      refine lv_iload hC.1 hC.2.1 dX11_findGoing_118 (lv_at hl 6 rfl) ?_
                      refine q_addN hC dX11_findGoing_120 ?_
                      refine al_M1 (v := eM (go_v (τ 1) nj j h t) 7 k) hC hw (by omega) (show _ = eM (go_v (τ 1) nj j h t) 7 k from congrArg (go_v (τ 1) nj j h t) (by omega)) dX11_findGoing_121 ?_
                      refine lv_aload_n hC.1 hC.2.1 dX11_findGoing_122 rfl (lv_at hl 1 rfl) ?_
                      refine gf_X11_7 hC hw dX11_findGoing_123 ?_
                      refine lv_sipush (v := nI 162) hC.1 hC.2.1 dX11_findGoing_126 (by decide) ?_
                      refine lv_iload hC.1 hC.2.1 dX11_findGoing_129 (lv_at hl 5 rfl) ?_
                      have hbc35 := m_nx_nat (show k < 2 ^ 31 by omega) c35
                      refine q_top (y := nI ((m_nx (go_v (τ 1) nj j h t) j h k).toNatClampNeg)) hbc35.1 ?_
                      refine q_addN hC dX11_findGoing_131 ?_
                      refine al_M1 (v := eM (go_v (τ 1) nj j h t) 7 ((m_nx (go_v (τ 1) nj j h t) j h k).toNatClampNeg)) hC hw (by omega) (show _ = eM (go_v (τ 1) nj j h t) 7 ((m_nx (go_v (τ 1) nj j h t) j h k).toNatClampNeg) from congrArg (go_v (τ 1) nj j h t) (by omega)) dX11_findGoing_132 ?_
                      refine q_cmplt hC 186 cI dX11_findGoing_133 (by decide) (fun (c36 : (eM (go_v (τ 1) nj j h t) 7 k) < (eM (go_v (τ 1) nj j h t) 7 ((m_nx (go_v (τ 1) nj j h t) j h k).toNatClampNeg))) => ?_) (fun (c36 : ¬ ((eM (go_v (τ 1) nj j h t) 7 k) < (eM (go_v (τ 1) nj j h t) 7 ((m_nx (go_v (τ 1) nj j h t) j h k).toNatClampNeg)))) => ?_)
                      · refine lv_iconst (v := nI 1) hC.1 hC.2.1 dX11_findGoing_186 (by decide) ?_
                        refine lv_goto (tgt := 191) hC.1 hC.2.1 dX11_findGoing_187 (by decide) ?_
                        exact J191_30 _ (if_pos ⟨c34, (Or.inr (Or.inl c36))⟩).symm _ _ _ hw (lv_sub hl [1, 2, 3, 4, 5, 6, 0] rfl)
                      · refine lv_aload_n hC.1 hC.2.1 dX11_findGoing_136 rfl (lv_at hl 1 rfl) ?_
                        refine gf_X11_7 hC hw dX11_findGoing_137 ?_
                        refine lv_sipush (v := nI 162) hC.1 hC.2.1 dX11_findGoing_140 (by decide) ?_
                        refine lv_iload hC.1 hC.2.1 dX11_findGoing_143 (lv_at hl 6 rfl) ?_
                        refine q_addN hC dX11_findGoing_145 ?_
                        refine al_M1 (v := eM (go_v (τ 1) nj j h t) 7 k) hC hw (by omega) (show _ = eM (go_v (τ 1) nj j h t) 7 k from congrArg (go_v (τ 1) nj j h t) (by omega)) dX11_findGoing_146 ?_
                        refine lv_aload_n hC.1 hC.2.1 dX11_findGoing_147 rfl (lv_at hl 1 rfl) ?_
                        refine gf_X11_7 hC hw dX11_findGoing_148 ?_
                        refine lv_sipush (v := nI 162) hC.1 hC.2.1 dX11_findGoing_151 (by decide) ?_
                        refine lv_iload hC.1 hC.2.1 dX11_findGoing_154 (lv_at hl 5 rfl) ?_
                        have hbc35 := m_nx_nat (show k < 2 ^ 31 by omega) c35
                        refine q_top (y := nI ((m_nx (go_v (τ 1) nj j h t) j h k).toNatClampNeg)) hbc35.1 ?_
                        refine q_addN hC dX11_findGoing_156 ?_
                        refine al_M1 (v := eM (go_v (τ 1) nj j h t) 7 ((m_nx (go_v (τ 1) nj j h t) j h k).toNatClampNeg)) hC hw (by omega) (show _ = eM (go_v (τ 1) nj j h t) 7 ((m_nx (go_v (τ 1) nj j h t) j h k).toNatClampNeg) from congrArg (go_v (τ 1) nj j h t) (by omega)) dX11_findGoing_157 ?_
                        refine q_cmpne hC 190 cI dX11_findGoing_158 (by decide) (fun (c37 : ¬ ((eM (go_v (τ 1) nj j h t) 7 k) = (eM (go_v (τ 1) nj j h t) 7 ((m_nx (go_v (τ 1) nj j h t) j h k).toNatClampNeg)))) => ?_) (fun (c37 : (eM (go_v (τ 1) nj j h t) 7 k) = (eM (go_v (τ 1) nj j h t) 7 ((m_nx (go_v (τ 1) nj j h t) j h k).toNatClampNeg))) => ?_)
                        · refine lv_iconst (v := nI 0) hC.1 hC.2.1 dX11_findGoing_190 (by decide) ?_
                          exact J191_30 _ (if_neg (fun q => (fun q => q.elim c35 (fun q => q.elim c36 (fun q => c37 q.1))) q.2)).symm _ _ _ hw (lv_sub hl [1, 2, 3, 4, 5, 6, 0] rfl)
                        · refine lv_aload_n hC.1 hC.2.1 dX11_findGoing_161 rfl (lv_at hl 1 rfl) ?_
                          refine gf_X11_7 hC hw dX11_findGoing_162 ?_
                          refine lv_sipush (v := nI 306) hC.1 hC.2.1 dX11_findGoing_165 (by decide) ?_
                          refine lv_iload hC.1 hC.2.1 dX11_findGoing_168 (lv_at hl 6 rfl) ?_
                          refine q_addN hC dX11_findGoing_170 ?_
                          refine al_M1 (v := eM (go_v (τ 1) nj j h t) 13 k) hC hw (by omega) (show _ = eM (go_v (τ 1) nj j h t) 13 k from congrArg (go_v (τ 1) nj j h t) (by omega)) dX11_findGoing_171 ?_
                          refine lv_aload_n hC.1 hC.2.1 dX11_findGoing_172 rfl (lv_at hl 1 rfl) ?_
                          refine gf_X11_7 hC hw dX11_findGoing_173 ?_
                          refine lv_sipush (v := nI 306) hC.1 hC.2.1 dX11_findGoing_176 (by decide) ?_
                          refine lv_iload hC.1 hC.2.1 dX11_findGoing_179 (lv_at hl 5 rfl) ?_
                          have hbc35 := m_nx_nat (show k < 2 ^ 31 by omega) c35
                          refine q_top (y := nI ((m_nx (go_v (τ 1) nj j h t) j h k).toNatClampNeg)) hbc35.1 ?_
                          refine q_addN hC dX11_findGoing_181 ?_
                          refine al_M1 (v := eM (go_v (τ 1) nj j h t) 13 ((m_nx (go_v (τ 1) nj j h t) j h k).toNatClampNeg)) hC hw (by omega) (show _ = eM (go_v (τ 1) nj j h t) 13 ((m_nx (go_v (τ 1) nj j h t) j h k).toNatClampNeg) from congrArg (go_v (τ 1) nj j h t) (by omega)) dX11_findGoing_182 ?_
                          refine q_cmple hC 190 cI dX11_findGoing_183 (by decide) (fun (c38 : (eM (go_v (τ 1) nj j h t) 13 k) ≤ (eM (go_v (τ 1) nj j h t) 13 ((m_nx (go_v (τ 1) nj j h t) j h k).toNatClampNeg))) => ?_) (fun (c38 : ¬ ((eM (go_v (τ 1) nj j h t) 13 k) ≤ (eM (go_v (τ 1) nj j h t) 13 ((m_nx (go_v (τ 1) nj j h t) j h k).toNatClampNeg)))) => ?_)
                          · refine lv_iconst (v := nI 0) hC.1 hC.2.1 dX11_findGoing_190 (by decide) ?_
                            exact J191_30 _ (if_neg (fun q => (fun q => q.elim c35 (fun q => q.elim c36 (fun q => (fun q => q c38) q.2))) q.2)).symm _ _ _ hw (lv_sub hl [1, 2, 3, 4, 5, 6, 0] rfl)
                          · refine lv_iconst (v := nI 1) hC.1 hC.2.1 dX11_findGoing_186 (by decide) ?_
                            refine lv_goto (tgt := 191) hC.1 hC.2.1 dX11_findGoing_187 (by decide) ?_
                            exact J191_30 _ (if_pos ⟨c34, (Or.inr (Or.inr ⟨c37, c38⟩))⟩).symm _ _ _ hw (lv_sub hl [1, 2, 3, 4, 5, 6, 0] rfl)
                refine q_ifeq hC 98 cB dX11_findGoing_53 (by decide) (fun (c39 : ¬ (eM (go_v (τ 1) nj j h t) 11 k = 1 ∧ eM (go_v (τ 1) nj j h t) 12 k = nI h)) => ?_) (fun (c39 : eM (go_v (τ 1) nj j h t) 11 k = 1 ∧ eM (go_v (τ 1) nj j h t) 12 k = nI h) => ?_)
                · refine lv_iconst (v := nI 0) hC.1 hC.2.1 dX11_findGoing_98 (by decide) ?_
                  exact J99_28 _ (if_neg (fun q => c39 q.1)).symm _ _ _ hw (lv_sub hl [0, 1, 2, 3, 4, 5] rfl)
                · refine lv_aload_n hC.1 hC.2.1 dX11_findGoing_56 rfl (lv_at hl 0 rfl) ?_
                  refine gf_X11_7 hC hw dX11_findGoing_57 ?_
                  refine lv_bipush (v := nI 66) hC.1 hC.2.1 dX11_findGoing_60 (by decide) ?_
                  refine lv_iload hC.1 hC.2.1 dX11_findGoing_62 (lv_at hl 5 rfl) ?_
                  refine q_addN hC dX11_findGoing_64 ?_
                  refine al_M1 (v := eM (go_v (τ 1) nj j h t) 5 k) hC hw (by omega) (show _ = eM (go_v (τ 1) nj j h t) 5 k from congrArg (go_v (τ 1) nj j h t) (by omega)) dX11_findGoing_65 ?_
                  refine lv_iconst (v := nI 3) hC.1 hC.2.1 dX11_findGoing_66 (by decide) ?_
                  refine q_cmpeq hC 98 cI dX11_findGoing_67 (by decide) (fun (c40 : (eM (go_v (τ 1) nj j h t) 5 k) = 3) => ?_) (fun (c40 : ¬ ((eM (go_v (τ 1) nj j h t) 5 k) = 3)) => ?_)
                  · refine lv_iconst (v := nI 0) hC.1 hC.2.1 dX11_findGoing_98 (by decide) ?_
                    exact J99_28 _ (if_neg (fun q => (fun q => (fun q => q c40) q.1) q.2)).symm _ _ _ hw (lv_sub hl [0, 1, 2, 3, 4, 5] rfl)
                  · refine lv_aload_n hC.1 hC.2.1 dX11_findGoing_70 rfl (lv_at hl 0 rfl) ?_
                    refine gf_X11_7 hC hw dX11_findGoing_71 ?_
                    refine lv_sipush (v := nI 162) hC.1 hC.2.1 dX11_findGoing_74 (by decide) ?_
                    refine lv_iload hC.1 hC.2.1 dX11_findGoing_77 (lv_at hl 5 rfl) ?_
                    refine q_addN hC dX11_findGoing_79 ?_
                    refine al_M1 (v := eM (go_v (τ 1) nj j h t) 7 k) hC hw (by omega) (show _ = eM (go_v (τ 1) nj j h t) 7 k from congrArg (go_v (τ 1) nj j h t) (by omega)) dX11_findGoing_80 ?_
                    refine lv_aload_n hC.1 hC.2.1 dX11_findGoing_81 rfl (lv_at hl 0 rfl) ?_
                    refine gf_X11_7 hC hw dX11_findGoing_82 ?_
                    refine lv_sipush (v := nI 162) hC.1 hC.2.1 dX11_findGoing_85 (by decide) ?_
                    refine lv_iload_n hC.1 hC.2.1 dX11_findGoing_88 rfl (lv_at hl 1 rfl) ?_
                    refine q_addN hC dX11_findGoing_89 ?_
                    refine al_M1 (v := eM (go_v (τ 1) nj j h t) 7 j) hC hw (by omega) (show _ = eM (go_v (τ 1) nj j h t) 7 j from congrArg (go_v (τ 1) nj j h t) (by omega)) dX11_findGoing_90 ?_
                    refine q_cmpge hC 98 cI dX11_findGoing_91 (by decide) (fun (c41 : (eM (go_v (τ 1) nj j h t) 7 j) ≤ (eM (go_v (τ 1) nj j h t) 7 k)) => ?_) (fun (c41 : ¬ ((eM (go_v (τ 1) nj j h t) 7 j) ≤ (eM (go_v (τ 1) nj j h t) 7 k))) => ?_)
                    · refine lv_iconst (v := nI 0) hC.1 hC.2.1 dX11_findGoing_98 (by decide) ?_
                      exact J99_28 _ (if_neg (fun q => (fun q => (fun q => q c41) q.2) q.2)).symm _ _ _ hw (lv_sub hl [0, 1, 2, 3, 4, 5] rfl)
                    · refine lv_iconst (v := nI 1) hC.1 hC.2.1 dX11_findGoing_94 (by decide) ?_
                      refine lv_goto (tgt := 99) hC.1 hC.2.1 dX11_findGoing_95 (by decide) ?_
                      exact J99_28 _ (if_pos ⟨c39, ⟨c40, c41⟩⟩).symm _ _ _ hw (lv_sub hl [0, 1, 2, 3, 4, 5] rfl)
          exact L35_9 _ 0 (-1) rfl (Nat.zero_le _) (Nat.lt_succ_self _) _ _ _ hw (lv_sub hl [2, 3, 4, 5, 1, 0] rfl)
    have hw : Wst E (MW E a) (sr (sr (sr τ 1 (go_v (τ 1) nj j h 0)) 3 (τ 3)) 0 (upd (upd (τ 0) 1 (nI 0)) 2 (go_g (τ 1) nj j h 0))) A s.heap H locs := hw
    exact L25_5 _ 0 (τ 3) (if (m_why (eM (τ 1)) (pB (eM (τ 1)) (nI j)) nh nj j h) = 0 then (1 : Int32) else 0) rfl rfl (by rw [Nat.zero_add]; exact Nat.le_trans cG_le hnj) (fun x q => absurd q (Nat.not_lt_zero _)) (fun x q => absurd q (Nat.not_lt_zero _)) (Nat.lt_succ_self _) _ _ _ hw (lv_sub hl [1, 2, 3, 0] rfl)
  refine q_ifne hC 23 cI dX11_findGoing_16 (by decide) (fun (c42 : ¬ ((m_why (eM (τ 1)) (pB (eM (τ 1)) (nI j)) nh nj j h) = 0)) => ?_) (fun (c42 : (m_why (eM (τ 1)) (pB (eM (τ 1)) (nI j)) nh nj j h) = 0) => ?_)
  · refine lv_iconst (v := nI 0) hC.1 hC.2.1 dX11_findGoing_23 (by decide) ?_
    exact J24_5 _ (if_neg c42).symm _ _ _ hw (lv_sub hl [0, 1, 2] rfl)
  · refine lv_iconst (v := nI 1) hC.1 hC.2.1 dX11_findGoing_19 (by decide) ?_
    refine lv_goto (tgt := 24) hC.1 hC.2.1 dX11_findGoing_20 (by decide) ?_
    exact J24_5 _ (if_pos c42).symm _ _ _ hw (lv_sub hl [0, 1, 2] rfl)
