theorem pst1 {a b c d e : Prop} [Decidable a] [Decidable b] [Decidable c] [Decidable d] [Decidable e] {x1 x2 x3 : Int32} {y : Int32 × Int32 × Int32} : (if a then (if b then x1 else (if c then x1 else (if d then (if e then y.1 else x1) else y.1))) else y.1) = (if a ∧ (b ∨ c ∨ (d ∧ ¬ e)) then (x1, x2, x3) else y).1 := by
  by_cases h1 : a <;> by_cases h2 : b <;> by_cases h3 : c <;> by_cases h4 : d <;> by_cases h5 : e <;> simp [h1, h2, h3, h4, h5]
theorem pst2 {a b c d e : Prop} [Decidable a] [Decidable b] [Decidable c] [Decidable d] [Decidable e] {x1 x2 x3 : Int32} {y : Int32 × Int32 × Int32} : (if a then (if b then x2 else (if c then x2 else (if d then (if e then y.2.1 else x2) else y.2.1))) else y.2.1) = (if a ∧ (b ∨ c ∨ (d ∧ ¬ e)) then (x1, x2, x3) else y).2.1 := by
  by_cases h1 : a <;> by_cases h2 : b <;> by_cases h3 : c <;> by_cases h4 : d <;> by_cases h5 : e <;> simp [h1, h2, h3, h4, h5]
theorem pst3 {a b c d e : Prop} [Decidable a] [Decidable b] [Decidable c] [Decidable d] [Decidable e] {x1 x2 x3 : Int32} {y : Int32 × Int32 × Int32} : (if a then (if b then x3 else (if c then x3 else (if d then (if e then y.2.2 else x3) else y.2.2))) else y.2.2) = (if a ∧ (b ∨ c ∨ (d ∧ ¬ e)) then (x1, x2, x3) else y).2.2 := by
  by_cases h1 : a <;> by_cases h2 : b <;> by_cases h3 : c <;> by_cases h4 : d <;> by_cases h5 : e <;> simp [h1, h2, h3, h4, h5]
theorem go_n_le {v : Nat → Int32} {nh nj j h : Nat} : ∀ {f t : Nat}, t + cG (go_v v nj j h t) h nj ≤ 24 → nj ≤ 24 → go_n v nh nj j h f t ≤ 24 ∧ ∀ x, t ≤ x → x < go_n v nh nj j h f t → go_w v nj j h x < nj ∧ mayGo (go_v v nj j h x) j h (go_w v nj j h x)
  | 0, t, ht, _ => ⟨by rw [go_n]; omega, fun x h1 h2 => by rw [go_n] at h2; omega⟩
  | f + 1, t, ht, hn => by
    rw [go_n]
    split
    case isTrue q => exact ⟨by omega, fun x h1 h2 => by omega⟩
    case isFalse q =>
      have q2 : ¬ m_nx (go_v v nj j h t) j h nj < 0 := fun z => q (Or.inr z)
      have h1 := m_nx_nat (show nj < 2 ^ 31 by omega) q2
      have h2 := m_nx_may (show nj < 2 ^ 31 by omega) q2
      have h3 := cG_drop h1.2 h2.1 hn
      have h4 := go_n_le (v := v) (nh := nh) (nj := nj) (j := j) (h := h) (f := f) (t := t + 1) (by
        rw [show go_v v nj j h (t + 1) = upd (go_v v nj j h t) (258 + (m_nx (go_v v nj j h t) j h nj).toNatClampNeg) 0 from rfl]; omega) hn
      refine ⟨h4.1, fun x k1 k2 => ?_⟩
      by_cases e : x = t
      · subst e; exact ⟨h1.2, h2⟩
      · exact h4.2 x (by omega) k2
theorem go_T_le {v : Nat → Int32} {nh nj j h : Nat} (hn : nj ≤ 24) : go_T v nh nj j h ≤ 24 := (go_n_le (by rw [Nat.zero_add]; exact Nat.le_trans cG_le hn) hn).1
theorem go_w_lt {v : Nat → Int32} {nh nj j h k : Nat} (hn : nj ≤ 24) (hk : k < go_T v nh nj j h) : go_w v nj j h k < nj := ((go_n_le (by rw [Nat.zero_add]; exact Nat.le_trans cG_le hn) hn).2 k (Nat.zero_le _) hk).1
theorem go_w_may {v : Nat → Int32} {nh nj j h k : Nat} (hn : nj ≤ 24) (hk : k < go_T v nh nj j h) : mayGo (go_v v nj j h k) j h (go_w v nj j h k) := ((go_n_le (by rw [Nat.zero_add]; exact Nat.le_trans cG_le hn) hn).2 k (Nat.zero_le _) hk).2
set_option maxHeartbeats 4000000 in
set_option maxRecDepth 100000 in
theorem tX11_place (l : Launch) (E : EV) (a : Nat → Nat) (τ : St) (nh : Nat) (nj : Nat) (stk : List (Nat → Int32)) (job : Int32) (hW : mF (τ 1) nh nj) (hO : τ 0 0 = nI stk.length) (hKR : KR (τ 2) stk) : MI l E (MW E a) yX11_place (Cond.code yX11_place cX11_place 7 (some .int)) ({ frames := 5, cells := 0, slots := 0, locals := 121 }) [.ref (a 70), .int (job)] τ (fun r_ u_ => r_ = (o_place (τ 1) nh nj job (τ 0 3)).1.1 ∧ MPg τ u_ stk (o_place (τ 1) nh nj job (τ 0 3)).1.2 (o_place (τ 1) nh nj job (τ 0 3)).2) := by
  refine MI.mk (by decide +kernel) (Nat.le_of_ble_eq_true rfl) ?_
  intro p e s m args below meth c ls A Q hret hC hw hl
  have hC : Cxt E p s m args meth c cX11_place 7 (some .int) RX11 A := hC
  have hl : lv_has ls 7 [(0, .ref (a 70)), (1, .int (job))] := hl
  have ⟨hnh, hnj, hW0, hW1, hWh⟩ := id hW
  refine lv_aload_n hC.1 hC.2.1 dX11_place_0 rfl (lv_at hl 0 rfl) ?_
  refine lv_iload_n hC.1 hC.2.1 dX11_place_1 rfl (lv_at hl 1 rfl) ?_
  refine q_callVp (As := [.int (job)]) (rest := []) (q0 := 0) hC hw hl (tX11_isJob l E a τ nh nj job (by first | assumption | omega)) (q_cwV hC.2.2.2.2.1 ⟨rfl, rfl⟩ wk4_194 wk4_196 wks_2_7 wk1_12 wk4_197 hd_X11_isJob ⟨Nat.le_of_ble_eq_true rfl, Nat.le_of_ble_eq_true rfl⟩) rfl rfl rfl rfl rfl (Nat.le_of_ble_eq_true rfl) dX11_place_2 (fun H locs hw => ?_)
  refine q_ifne hC 10 cB dX11_place_5 (by decide) (fun (c4 : ¬ job < 0 ∧ job < nI nj) => ?_) (fun (c4 : ¬ (¬ job < 0 ∧ job < nI nj)) => ?_)
  · obtain ⟨j, h_j, rfl⟩ := in_nat (by omega) c4
    have z_j := nI_clamp (show j < 2 ^ 31 by omega)
    have y_j : cN (nI j) = j := z_j
    refine lv_aload_n hC.1 hC.2.1 dX11_place_10 rfl (lv_at hl 0 rfl) ?_
    refine gf_X11_7 hC hw dX11_place_11 ?_
    refine lv_sipush (v := nI 258) hC.1 hC.2.1 dX11_place_14 (by decide) ?_
    refine lv_iload_n hC.1 hC.2.1 dX11_place_17 rfl (lv_at hl 1 rfl) ?_
    refine q_addN hC dX11_place_18 ?_
    refine al_M1 (v := eM (τ 1) 11 j) hC hw (by omega) (show _ = eM (τ 1) 11 j from congrArg (τ 1) (by omega)) dX11_place_19 ?_
    refine q_ifne hC 36 cI dX11_place_20 (by decide) (fun (c5 : ¬ ((eM (τ 1) 11 j) = 0)) => ?_) (fun (c5 : (eM (τ 1) 11 j) = 0) => ?_)
    · refine lv_bipush (v := (-2)) hC.1 hC.2.1 dX11_place_36 (by decide) ?_
      refine hret _ _ _ _ _ _ hw ?_ rfl dX11_place_38
      have ho : o_place (τ 1) nh nj (nI j) (τ 0 3) = ((-2, none), τ 0 3) := by rw [o_place, if_pos c4, y_j, if_neg (fun q => c5 q.1)]
      rw [ho]
      exact ⟨rfl, rfl, hKR, hO, rfl, rfl, rfl, rfl⟩
    · refine lv_aload_n hC.1 hC.2.1 dX11_place_23 rfl (lv_at hl 0 rfl) ?_
      refine gf_X11_7 hC hw dX11_place_24 ?_
      refine lv_bipush (v := nI 66) hC.1 hC.2.1 dX11_place_27 (by decide) ?_
      refine lv_iload_n hC.1 hC.2.1 dX11_place_29 rfl (lv_at hl 1 rfl) ?_
      refine q_addN hC dX11_place_30 ?_
      refine al_M1 (v := eM (τ 1) 5 j) hC hw (by omega) (show _ = eM (τ 1) 5 j from congrArg (τ 1) (by omega)) dX11_place_31 ?_
      refine lv_iconst (v := nI 2) hC.1 hC.2.1 dX11_place_32 (by decide) ?_
      refine q_cmpne hC 39 cI dX11_place_33 (by decide) (fun (c6 : ¬ ((eM (τ 1) 5 j) = 2)) => ?_) (fun (c6 : (eM (τ 1) 5 j) = 2) => ?_)
      · refine lv_aload_n hC.1 hC.2.1 dX11_place_39 rfl (lv_at hl 0 rfl) ?_
        refine lv_iload_n hC.1 hC.2.1 dX11_place_40 rfl (lv_at hl 1 rfl) ?_
        refine q_callVp (As := [.int (nI j)]) (rest := []) (q0 := 0) hC hw hl (tX11_bestFor l E a τ nh nj j (by first | assumption | omega) (by first | assumption | omega)) (q_cwV hC.2.2.2.2.1 ⟨rfl, rfl⟩ wk5_20 wk5_22 wks_3_3 wk1_12 wk5_23 hd_X11_bestFor ⟨Nat.le_of_ble_eq_true rfl, Nat.le_of_ble_eq_true rfl⟩) rfl rfl rfl rfl rfl (Nat.le_of_ble_eq_true rfl) dX11_place_41 (fun H locs hw => ?_)
        refine lv_istore_n (lv' := [(2, .int (m_bst (eM (τ 1)) (pB (eM (τ 1)) (nI j)) nh nj j nh)), (0, .ref (a 70)), (1, .int (nI j))]) hC.1 hC.2.1 dX11_place_44 rfl hl (by decide) rfl (fun ls hl => ?_)
        refine lv_iload_n hC.1 hC.2.1 dX11_place_45 rfl (lv_at hl 0 rfl) ?_
        refine q_iflt hC 66 cI dX11_place_46 (by decide) (fun (c10 : (m_bst (eM (τ 1)) (pB (eM (τ 1)) (nI j)) nh nj j nh) < 0) => ?_) (fun (c10 : ¬ ((m_bst (eM (τ 1)) (pB (eM (τ 1)) (nI j)) nh nj j nh) < 0)) => ?_)
        · refine lv_iconst (v := nI 0) hC.1 hC.2.1 dX11_place_66 (by decide) ?_
          refine lv_istore_n (lv' := [(3, .int (nI 0)), (2, .int (m_bst (eM (τ 1)) (pB (eM (τ 1)) (nI j)) nh nj j nh)), (0, .ref (a 70)), (1, .int (nI j))]) hC.1 hC.2.1 dX11_place_67 rfl hl (by decide) rfl (fun ls hl => ?_)
          refine lv_iconst (v := nI 0) hC.1 hC.2.1 dX11_place_68 (by decide) ?_
          refine lv_istore (lv' := [(4, .int (nI 0)), (3, .int (nI 0)), (2, .int (m_bst (eM (τ 1)) (pB (eM (τ 1)) (nI j)) nh nj j nh)), (0, .ref (a 70)), (1, .int (nI j))]) hC.1 hC.2.1 dX11_place_69 hl (by decide) rfl (fun ls hl => ?_)
          refine lv_iconst (v := nI 0) hC.1 hC.2.1 dX11_place_71 (by decide) ?_
          refine lv_istore (lv' := [(5, .int (nI 0)), (4, .int (nI 0)), (3, .int (nI 0)), (2, .int (m_bst (eM (τ 1)) (pB (eM (τ 1)) (nI j)) nh nj j nh)), (0, .ref (a 70)), (1, .int (nI j))]) hC.1 hC.2.1 dX11_place_72 hl (by decide) rfl (fun ls hl => ?_)
          have L74_10 : ∀ (n : Nat), ∀ (h : Nat), ∀ (G3 : Nat → Int32), ∀ (g1 : Int32), ∀ (g2 : Int32), ∀ (be : Int32), ∀ (lp : Int32), ∀ (fw : Int32), (be = ((p_b (τ 1) nh nj j h).1)) → (lp = ((p_b (τ 1) nh nj j h).2.1)) → (fw = ((p_b (τ 1) nh nj j h).2.2)) → (h ≤ nh) → (h = 0 ∨ ¬ eM (τ 1) 5 j = 3) → (nh - h) < n → ∀ (H : Heap) (locs : List Loc) (ls : Array Slot), Wst E (MW E a) (sr (sr τ 3 (G3)) 0 (upd (upd (τ 0) 1 (g1)) 2 (g2))) A s.heap H locs → lv_has ls 7 [(0, .ref (a 70)), (1, .int (nI j)), (2, .int (be)), (3, .int (lp)), (4, .int (fw)), (5, .int (nI h))] → W p l e ({ frames := 5, cells := 0, slots := 0, locals := 121 }) s m args below meth c H locs 0 0 Q (F0 m 74 ls []) := by
            intro n
            induction n with
            | zero => intro h G3 g1 g2 be lp fw q_be q_lp q_fw hh hz hn; exact absurd hn (Nat.not_lt_zero _)
            | succ n ih74 =>
              intro h G3 g1 g2 be lp fw q_be q_lp q_fw hh hz hn74 H locs ls hw hl
              subst q_be
              subst q_lp
              subst q_fw
              refine lv_iload hC.1 hC.2.1 dX11_place_74 (lv_at hl 5 rfl) ?_
              refine lv_aload_n hC.1 hC.2.1 dX11_place_76 rfl (lv_at hl 0 rfl) ?_
              refine gf_X11_7 hC hw dX11_place_77 ?_
              refine lv_iconst (v := nI 0) hC.1 hC.2.1 dX11_place_80 (by decide) ?_
              refine al_M1 (v := nI nh) hC hw (by omega) hW.2.2.1 dX11_place_81 ?_
              refine q_cmpge hC 157 (cNle (by omega) (by omega)) dX11_place_82 (by decide) (fun (c12 : nh ≤ h) => ?_) (fun (c12 : h < nh) => ?_)
              · have h0 : h = nh := by omega
                rw [h0] at hl
                refine lv_iload_n hC.1 hC.2.1 dX11_place_157 rfl (lv_at hl 2 rfl) ?_
                refine q_ifge hC 164 cI dX11_place_158 (by decide) (fun (c13 : 0 ≤ ((p_b (τ 1) nh nj j nh).1)) => ?_) (fun (c13 : ¬ (0 ≤ ((p_b (τ 1) nh nj j nh).1))) => ?_)
                · have hbp := p_b_nat (v := τ 1) (nh := nh) (nj := nj) (j := j) (n := nh) (show nh < 2 ^ 31 by omega) (Int32.not_lt.mpr c13)
                  refine lv_aload_n hC.1 hC.2.1 dX11_place_164 rfl (lv_at hl 0 rfl) ?_
                  refine q_callVv (As := []) (rest := []) (q0 := 0) hC hw hl (tX11_keep l E a (sr (sr τ 3 (G3)) 0 (upd (upd (τ 0) 1 (g1)) 2 (g2))) stk (by first | assumption | omega) (by first | assumption | omega)) (q_cwV hC.2.2.2.2.1 ⟨rfl, rfl⟩ wk4_178 wk4_180 wks_2_6 wk1_12 wk4_181 hd_X11_keep ⟨Nat.le_of_ble_eq_true rfl, Nat.le_of_ble_eq_true rfl⟩) rfl rfl rfl rfl rfl (Nat.le_of_ble_eq_true rfl) dX11_place_165 (fun u16 H locs p14 hw => ?_)
                  obtain ⟨K17, hRK17, huK17⟩ := p14
                  have hw : Wst E (MW E a) (sr (sr (sr τ 2 (K17)) 3 (G3)) 0 (upd (upd (upd (τ 0) 0 (nI (push30 stk (τ 1)).length)) 1 (g1)) 2 (g2))) A s.heap H locs := by rw [huK17] at hw; exact hw
                  refine lv_aload_n hC.1 hC.2.1 dX11_place_168 rfl (lv_at hl 0 rfl) ?_
                  refine lv_iload_n hC.1 hC.2.1 dX11_place_169 rfl (lv_at hl 1 rfl) ?_
                  refine lv_iload_n hC.1 hC.2.1 dX11_place_170 rfl (lv_at hl 2 rfl) ?_
                  refine q_top (y := nI ((p_b (τ 1) nh nj j nh).1.toNatClampNeg)) hbp.1 ?_
                  refine q_callV (As := [.int (nI j), .int (nI ((p_b (τ 1) nh nj j nh).1.toNatClampNeg))]) (rest := []) (q0 := 0) hC hw hl (tX11_findGoing l E a (sr (sr (sr τ 2 (K17)) 3 (G3)) 0 (upd (upd (upd (τ 0) 0 (nI (push30 stk (τ 1)).length)) 1 (g1)) 2 (g2))) nh nj j ((p_b (τ 1) nh nj j nh).1.toNatClampNeg) hW (by first | assumption | omega) hbp.2) (q_cwV hC.2.2.2.2.1 ⟨rfl, rfl⟩ wk5_28 wk5_30 wks_3_5 wk1_12 wk5_31 hd_X11_findGoing ⟨Nat.le_of_ble_eq_true rfl, Nat.le_of_ble_eq_true rfl⟩) rfl rfl rfl rfl rfl (Nat.le_of_ble_eq_true rfl) dX11_place_171 (fun r19 u20 H locs p18 hw => ?_)
                  obtain ⟨hrG21, G21, hGG21, huG21⟩ := p18
                  have hGG21 : ∀ x, x < go_T (τ 1) nh nj j ((p_b (τ 1) nh nj j nh).1.toNatClampNeg) → G21 x = nI (go_w (τ 1) nj j ((p_b (τ 1) nh nj j nh).1.toNatClampNeg) x) := hGG21
                  have hw : Wst E (MW E a) (sr (sr (sr τ 2 (K17)) 3 (G21)) 0 (upd (upd (upd (τ 0) 0 (nI (push30 stk (τ 1)).length)) 1 (nI (go_T (τ 1) nh nj j ((p_b (τ 1) nh nj j nh).1.toNatClampNeg)))) 2 (go_g (τ 1) nj j ((p_b (τ 1) nh nj j nh).1.toNatClampNeg) (go_T (τ 1) nh nj j ((p_b (τ 1) nh nj j nh).1.toNatClampNeg))))) A s.heap H locs := by rw [huG21] at hw; exact hw
                  refine q_top hrG21 ?_
                  refine lv_istore (lv' := [(5, .int (if go_y (τ 1) nh nj j ((p_b (τ 1) nh nj j nh).1.toNatClampNeg) (go_T (τ 1) nh nj j ((p_b (τ 1) nh nj j nh).1.toNatClampNeg)) = 0 then (1 : Int32) else 0)), (0, .ref (a 70)), (1, .int (nI j)), (2, .int ((p_b (τ 1) nh nj j nh).1)), (3, .int ((p_b (τ 1) nh nj j nh).2.1)), (4, .int ((p_b (τ 1) nh nj j nh).2.2))]) hC.1 hC.2.1 dX11_place_174 hl (by decide) rfl (fun ls hl => ?_)
                  refine lv_iconst (v := nI 0) hC.1 hC.2.1 dX11_place_176 (by decide) ?_
                  refine lv_istore (lv' := [(6, .int (nI 0)), (5, .int (if go_y (τ 1) nh nj j ((p_b (τ 1) nh nj j nh).1.toNatClampNeg) (go_T (τ 1) nh nj j ((p_b (τ 1) nh nj j nh).1.toNatClampNeg)) = 0 then (1 : Int32) else 0)), (0, .ref (a 70)), (1, .int (nI j)), (2, .int ((p_b (τ 1) nh nj j nh).1)), (3, .int ((p_b (τ 1) nh nj j nh).2.1)), (4, .int ((p_b (τ 1) nh nj j nh).2.2))]) hC.1 hC.2.1 dX11_place_177 hl (by decide) rfl (fun ls hl => ?_)
                  have L179_21 : ∀ (n : Nat), ∀ (k : Nat), (k ≤ go_T (τ 1) nh nj j ((p_b (τ 1) nh nj j nh).1.toNatClampNeg)) → (go_T (τ 1) nh nj j ((p_b (τ 1) nh nj j nh).1.toNatClampNeg) - k) < n → ∀ (H : Heap) (locs : List Loc) (ls : Array Slot), Wst E (MW E a) (sr (sr (sr (sr τ 1 (go_v (τ 1) nj j ((p_b (τ 1) nh nj j nh).1.toNatClampNeg) k)) 2 (K17)) 3 (G21)) 0 (upd (upd (upd (τ 0) 0 (nI (push30 stk (τ 1)).length)) 1 (nI (go_T (τ 1) nh nj j ((p_b (τ 1) nh nj j nh).1.toNatClampNeg)))) 2 (go_g (τ 1) nj j ((p_b (τ 1) nh nj j nh).1.toNatClampNeg) (go_T (τ 1) nh nj j ((p_b (τ 1) nh nj j nh).1.toNatClampNeg))))) A s.heap H locs → lv_has ls 7 [(0, .ref (a 70)), (1, .int (nI j)), (2, .int ((p_b (τ 1) nh nj j nh).1)), (3, .int ((p_b (τ 1) nh nj j nh).2.1)), (4, .int ((p_b (τ 1) nh nj j nh).2.2)), (5, .int (if go_y (τ 1) nh nj j ((p_b (τ 1) nh nj j nh).1.toNatClampNeg) (go_T (τ 1) nh nj j ((p_b (τ 1) nh nj j nh).1.toNatClampNeg)) = 0 then (1 : Int32) else 0)), (6, .int (nI k))] → W p l e ({ frames := 5, cells := 0, slots := 0, locals := 121 }) s m args below meth c H locs 0 0 Q (F0 m 179 ls []) := by
                    intro n
                    induction n with
                    | zero => intro k hk hn; exact absurd hn (Nat.not_lt_zero _)
                    | succ n ih179 =>
                      intro k hk hn179 H locs ls hw hl
                      have hT24 := go_T_le (v := τ 1) (nh := nh) (nj := nj) (j := j) (h := ((p_b (τ 1) nh nj j nh).1.toNatClampNeg)) hnj
                      refine lv_iload hC.1 hC.2.1 dX11_place_179 (lv_at hl 6 rfl) ?_
                      refine lv_aload_n hC.1 hC.2.1 dX11_place_181 rfl (lv_at hl 0 rfl) ?_
                      refine gf_X11_106 (v := nI (go_T (τ 1) nh nj j ((p_b (τ 1) nh nj j nh).1.toNatClampNeg))) hC hw rfl dX11_place_182 ?_
                      refine q_cmpge hC 211 (cNle (by omega) (by omega)) dX11_place_185 (by decide) (fun (c23 : (go_T (τ 1) nh nj j ((p_b (τ 1) nh nj j nh).1.toNatClampNeg)) ≤ k) => ?_) (fun (c23 : k < (go_T (τ 1) nh nj j ((p_b (τ 1) nh nj j nh).1.toNatClampNeg))) => ?_)
                      · have hk9 : k = go_T (τ 1) nh nj j ((p_b (τ 1) nh nj j nh).1.toNatClampNeg) := by omega
                        rw [hk9] at hw
                        refine lv_aload_n hC.1 hC.2.1 dX11_place_211 rfl (lv_at hl 0 rfl) ?_
                        refine lv_iload_n hC.1 hC.2.1 dX11_place_212 rfl (lv_at hl 1 rfl) ?_
                        refine lv_iload_n hC.1 hC.2.1 dX11_place_213 rfl (lv_at hl 2 rfl) ?_
                        refine q_top (y := nI ((p_b (τ 1) nh nj j nh).1.toNatClampNeg)) hbp.1 ?_
                        refine q_callVvp (As := [.int (nI j), .int (nI ((p_b (τ 1) nh nj j nh).1.toNatClampNeg))]) (rest := []) (q0 := 0) hC hw hl (tX11_stand l E a (sr (sr (sr (sr τ 1 (go_v (τ 1) nj j ((p_b (τ 1) nh nj j nh).1.toNatClampNeg) (go_T (τ 1) nh nj j ((p_b (τ 1) nh nj j nh).1.toNatClampNeg)))) 2 (K17)) 3 (G21)) 0 (upd (upd (upd (τ 0) 0 (nI (push30 stk (τ 1)).length)) 1 (nI (go_T (τ 1) nh nj j ((p_b (τ 1) nh nj j nh).1.toNatClampNeg)))) 2 (go_g (τ 1) nj j ((p_b (τ 1) nh nj j nh).1.toNatClampNeg) (go_T (τ 1) nh nj j ((p_b (τ 1) nh nj j nh).1.toNatClampNeg))))) j ((p_b (τ 1) nh nj j nh).1.toNatClampNeg) (by first | assumption | omega)) (q_cwV hC.2.2.2.2.1 ⟨rfl, rfl⟩ wk5_24 wk5_26 wks_3_4 wk1_12 wk5_27 hd_X11_stand ⟨Nat.le_of_ble_eq_true rfl, Nat.le_of_ble_eq_true rfl⟩) rfl rfl rfl rfl rfl (Nat.le_of_ble_eq_true rfl) dX11_place_214 (fun H locs hw => ?_)
                        have hw : Wst E (MW E a) (sr (sr (sr (sr τ 1 (f_std (go_v (τ 1) nj j ((p_b (τ 1) nh nj j nh).1.toNatClampNeg) (go_T (τ 1) nh nj j ((p_b (τ 1) nh nj j nh).1.toNatClampNeg))) j ((p_b (τ 1) nh nj j nh).1.toNatClampNeg))) 2 (K17)) 3 (G21)) 0 (upd (upd (upd (τ 0) 0 (nI (push30 stk (τ 1)).length)) 1 (nI (go_T (τ 1) nh nj j ((p_b (τ 1) nh nj j nh).1.toNatClampNeg)))) 2 (go_g (τ 1) nj j ((p_b (τ 1) nh nj j nh).1.toNatClampNeg) (go_T (τ 1) nh nj j ((p_b (τ 1) nh nj j nh).1.toNatClampNeg))))) A s.heap H locs := hw
                        refine lv_aload_n hC.1 hC.2.1 dX11_place_217 rfl (lv_at hl 0 rfl) ?_
                        refine lv_aload_n hC.1 hC.2.1 dX11_place_218 rfl (lv_at hl 0 rfl) ?_
                        refine gf_X11_106 (v := nI (go_T (τ 1) nh nj j ((p_b (τ 1) nh nj j nh).1.toNatClampNeg))) hC hw rfl dX11_place_219 ?_
                        refine pf_X11_120 hC hw dX11_place_222 (fun H locs hw => ?_)
                        have hw : Wst E (MW E a) (sr (sr (sr (sr τ 1 (f_std (go_v (τ 1) nj j ((p_b (τ 1) nh nj j nh).1.toNatClampNeg) (go_T (τ 1) nh nj j ((p_b (τ 1) nh nj j nh).1.toNatClampNeg))) j ((p_b (τ 1) nh nj j nh).1.toNatClampNeg))) 2 (K17)) 3 (G21)) 0 (upd (upd (upd (upd (τ 0) 0 (nI (push30 stk (τ 1)).length)) 1 (nI (go_T (τ 1) nh nj j ((p_b (τ 1) nh nj j nh).1.toNatClampNeg)))) 2 (go_g (τ 1) nj j ((p_b (τ 1) nh nj j nh).1.toNatClampNeg) (go_T (τ 1) nh nj j ((p_b (τ 1) nh nj j nh).1.toNatClampNeg)))) 3 (nI (go_T (τ 1) nh nj j ((p_b (τ 1) nh nj j nh).1.toNatClampNeg))))) A s.heap H locs := hw
                        refine lv_iload_n hC.1 hC.2.1 dX11_place_225 rfl (lv_at hl 2 rfl) ?_
                        refine hret _ _ _ _ _ _ hw ?_ rfl dX11_place_226
                        have hkf : ¬ eM (τ 1) 5 j = 3 := by rcases hz with q | q; exact absurd hbp.2 (by omega); exact q
                        have ho : o_place (τ 1) nh nj (nI j) (τ 0 3) = (((p_b (τ 1) nh nj j nh).1, some (f_std (go_v (τ 1) nj j ((p_b (τ 1) nh nj j nh).1.toNatClampNeg) (go_T (τ 1) nh nj j ((p_b (τ 1) nh nj j nh).1.toNatClampNeg))) j ((p_b (τ 1) nh nj j nh).1.toNatClampNeg))), nI (go_T (τ 1) nh nj j ((p_b (τ 1) nh nj j nh).1.toNatClampNeg))) := by rw [o_place, if_pos c4, y_j, if_pos ⟨c5, c6⟩, if_pos c10, if_neg (fun q => q.elim hkf (Int32.not_lt.mpr c13))]
                        rw [ho]
                        exact ⟨rfl, rfl, hRK17, rfl, rfl, rfl, rfl, rfl⟩
                      · refine lv_aload_n hC.1 hC.2.1 dX11_place_188 rfl (lv_at hl 0 rfl) ?_
                        refine gf_X11_7 hC hw dX11_place_189 ?_
                        refine lv_sipush (v := nI 258) hC.1 hC.2.1 dX11_place_192 (by decide) ?_
                        refine lv_aload_n hC.1 hC.2.1 dX11_place_195 rfl (lv_at hl 0 rfl) ?_
                        refine gf_X11_16 hC hw dX11_place_196 ?_
                        refine lv_iload hC.1 hC.2.1 dX11_place_199 (lv_at hl 6 rfl) ?_
                        have hwl := go_w_lt (v := τ 1) (nh := nh) (nj := nj) (j := j) (h := ((p_b (τ 1) nh nj j nh).1.toNatClampNeg)) hnj (show k < go_T (τ 1) nh nj j ((p_b (τ 1) nh nj j nh).1.toNatClampNeg) by omega)
                        refine al_M3 (v := nI (go_w (τ 1) nj j ((p_b (τ 1) nh nj j nh).1.toNatClampNeg) k)) hC hw (by omega) (hGG21 k (by omega)) dX11_place_201 ?_
                        refine q_addN hC dX11_place_202 ?_
                        refine lv_iconst (v := nI 0) hC.1 hC.2.1 dX11_place_203 (by decide) ?_
                        refine as_M1 hC hw (by omega) dX11_place_204 (fun H locs hw => ?_)
                        have hw : Wst E (MW E a) (sr (sr (sr (sr τ 1 (go_v (τ 1) nj j ((p_b (τ 1) nh nj j nh).1.toNatClampNeg) (k + 1))) 2 (K17)) 3 (G21)) 0 (upd (upd (upd (τ 0) 0 (nI (push30 stk (τ 1)).length)) 1 (nI (go_T (τ 1) nh nj j ((p_b (τ 1) nh nj j nh).1.toNatClampNeg)))) 2 (go_g (τ 1) nj j ((p_b (τ 1) nh nj j nh).1.toNatClampNeg) (go_T (τ 1) nh nj j ((p_b (τ 1) nh nj j nh).1.toNatClampNeg))))) A s.heap H locs := hw
                        refine lv_iinc (v := nI (k + 1)) (lv' := [(6, .int (nI (k + 1))), (0, .ref (a 70)), (1, .int (nI j)), (2, .int ((p_b (τ 1) nh nj j nh).1)), (3, .int ((p_b (τ 1) nh nj j nh).2.1)), (4, .int ((p_b (τ 1) nh nj j nh).2.2)), (5, .int (if go_y (τ 1) nh nj j ((p_b (τ 1) nh nj j nh).1.toNatClampNeg) (go_T (τ 1) nh nj j ((p_b (τ 1) nh nj j nh).1.toNatClampNeg)) = 0 then (1 : Int32) else 0))]) hC.1 hC.2.1 dX11_place_205 hl (k := 6) rfl (nI_add _ _) (by decide) rfl (fun ls hl => ?_)
                        refine lv_goto (tgt := 179) hC.1 hC.2.1 dX11_place_208 (by decide) ?_
                        exact ih179 (k + 1) (by omega) (by omega) _ _ _ hw (lv_sub hl [1, 2, 3, 4, 5, 6, 0] rfl)
                  have hw : Wst E (MW E a) (sr (sr (sr (sr τ 1 (go_v (τ 1) nj j ((p_b (τ 1) nh nj j nh).1.toNatClampNeg) 0)) 2 (K17)) 3 (G21)) 0 (upd (upd (upd (τ 0) 0 (nI (push30 stk (τ 1)).length)) 1 (nI (go_T (τ 1) nh nj j ((p_b (τ 1) nh nj j nh).1.toNatClampNeg)))) 2 (go_g (τ 1) nj j ((p_b (τ 1) nh nj j nh).1.toNatClampNeg) (go_T (τ 1) nh nj j ((p_b (τ 1) nh nj j nh).1.toNatClampNeg))))) A s.heap H locs := hw
                  exact L179_21 _ 0 (Nat.zero_le _) (Nat.lt_succ_self _) _ _ _ hw (lv_sub hl [2, 3, 4, 5, 6, 1, 0] rfl)
                · refine lv_bipush (v := (-3)) hC.1 hC.2.1 dX11_place_161 (by decide) ?_
                  refine hret _ _ _ _ _ _ hw ?_ rfl dX11_place_163
                  have ho : o_place (τ 1) nh nj (nI j) (τ 0 3) = ((-3, none), τ 0 3) := by rw [o_place, if_pos c4, y_j, if_pos ⟨c5, c6⟩, if_pos c10, if_pos (Or.inr (Int32.not_le.mp c13))]
                  rw [ho]
                  exact ⟨rfl, rfl, hKR, hO, rfl, rfl, rfl, rfl⟩
              · refine lv_aload_n hC.1 hC.2.1 dX11_place_85 rfl (lv_at hl 0 rfl) ?_
                refine gf_X11_7 hC hw dX11_place_86 ?_
                refine lv_bipush (v := nI 66) hC.1 hC.2.1 dX11_place_89 (by decide) ?_
                refine lv_iload_n hC.1 hC.2.1 dX11_place_91 rfl (lv_at hl 1 rfl) ?_
                refine q_addN hC dX11_place_92 ?_
                refine al_M1 (v := eM (τ 1) 5 j) hC hw (by omega) (show _ = eM (τ 1) 5 j from congrArg (τ 1) (by omega)) dX11_place_93 ?_
                refine lv_iconst (v := nI 3) hC.1 hC.2.1 dX11_place_94 (by decide) ?_
                refine q_cmpeq hC 157 cI dX11_place_95 (by decide) (fun (c27 : (eM (τ 1) 5 j) = 3) => ?_) (fun (c27 : ¬ ((eM (τ 1) 5 j) = 3)) => ?_)
                · have h0 : h = 0 := by rcases hz with q | q; exact q; exact absurd c27 q
                  rw [h0] at hl
                  refine lv_iload_n hC.1 hC.2.1 dX11_place_157 rfl (lv_at hl 2 rfl) ?_
                  refine q_ifge hC 164 cI dX11_place_158 (by decide) (fun (c28 : 0 ≤ ((p_b (τ 1) nh nj j 0).1)) => ?_) (fun (c28 : ¬ (0 ≤ ((p_b (τ 1) nh nj j 0).1))) => ?_)
                  · exact absurd (show (0 : Int32) ≤ -3 from c28) (by decide)
                  · refine lv_bipush (v := (-3)) hC.1 hC.2.1 dX11_place_161 (by decide) ?_
                    refine hret _ _ _ _ _ _ hw ?_ rfl dX11_place_163
                    have ho : o_place (τ 1) nh nj (nI j) (τ 0 3) = ((-3, none), τ 0 3) := by rw [o_place, if_pos c4, y_j, if_pos ⟨c5, c6⟩, if_pos c10, if_pos (Or.inl c27)]
                    rw [ho]
                    exact ⟨rfl, rfl, hKR, hO, rfl, rfl, rfl, rfl⟩
                · refine lv_aload_n hC.1 hC.2.1 dX11_place_98 rfl (lv_at hl 0 rfl) ?_
                  refine lv_iload_n hC.1 hC.2.1 dX11_place_99 rfl (lv_at hl 1 rfl) ?_
                  refine lv_iload hC.1 hC.2.1 dX11_place_100 (lv_at hl 5 rfl) ?_
                  refine q_callV (As := [.int (nI j), .int (nI h)]) (rest := []) (q0 := 0) hC hw hl (tX11_findGoing l E a (sr (sr τ 3 (G3)) 0 (upd (upd (τ 0) 1 (g1)) 2 (g2))) nh nj j h hW (by first | assumption | omega) (by first | assumption | omega)) (q_cwV hC.2.2.2.2.1 ⟨rfl, rfl⟩ wk5_28 wk5_30 wks_3_5 wk1_12 wk5_31 hd_X11_findGoing ⟨Nat.le_of_ble_eq_true rfl, Nat.le_of_ble_eq_true rfl⟩) rfl rfl rfl rfl rfl (Nat.le_of_ble_eq_true rfl) dX11_place_102 (fun r30 u31 H locs p29 hw => ?_)
                  obtain ⟨hrG32, G32, hGG32, huG32⟩ := p29
                  have hGG32 : ∀ x, x < go_T (τ 1) nh nj j h → G32 x = nI (go_w (τ 1) nj j h x) := hGG32
                  have hw : Wst E (MW E a) (sr (sr τ 3 (G32)) 0 (upd (upd (τ 0) 1 (nI (go_T (τ 1) nh nj j h))) 2 (go_g (τ 1) nj j h (go_T (τ 1) nh nj j h)))) A s.heap H locs := by rw [huG32] at hw; exact hw
                  refine q_top hrG32 ?_
                  have J151_38 : ∀ (w33 : Int32), w33 = (if go_y (τ 1) nh nj j h (go_T (τ 1) nh nj j h) = 0 then (if ((p_b (τ 1) nh nj j h).1) < 0 then (nI h) else (if (go_g (τ 1) nj j h (go_T (τ 1) nh nj j h)) < ((p_b (τ 1) nh nj j h).2.1) then (nI h) else (if (go_g (τ 1) nj j h (go_T (τ 1) nh nj j h)) = ((p_b (τ 1) nh nj j h).2.1) then (if ((p_b (τ 1) nh nj j h).2.2) ≤ (nI (go_T (τ 1) nh nj j h)) then ((p_b (τ 1) nh nj j h).1) else (nI h)) else ((p_b (τ 1) nh nj j h).1)))) else ((p_b (τ 1) nh nj j h).1)) → ∀ (w35 : Int32), w35 = (if go_y (τ 1) nh nj j h (go_T (τ 1) nh nj j h) = 0 then (if ((p_b (τ 1) nh nj j h).1) < 0 then (go_g (τ 1) nj j h (go_T (τ 1) nh nj j h)) else (if (go_g (τ 1) nj j h (go_T (τ 1) nh nj j h)) < ((p_b (τ 1) nh nj j h).2.1) then (go_g (τ 1) nj j h (go_T (τ 1) nh nj j h)) else (if (go_g (τ 1) nj j h (go_T (τ 1) nh nj j h)) = ((p_b (τ 1) nh nj j h).2.1) then (if ((p_b (τ 1) nh nj j h).2.2) ≤ (nI (go_T (τ 1) nh nj j h)) then ((p_b (τ 1) nh nj j h).2.1) else (go_g (τ 1) nj j h (go_T (τ 1) nh nj j h))) else ((p_b (τ 1) nh nj j h).2.1)))) else ((p_b (τ 1) nh nj j h).2.1)) → ∀ (w37 : Int32), w37 = (if go_y (τ 1) nh nj j h (go_T (τ 1) nh nj j h) = 0 then (if ((p_b (τ 1) nh nj j h).1) < 0 then (nI (go_T (τ 1) nh nj j h)) else (if (go_g (τ 1) nj j h (go_T (τ 1) nh nj j h)) < ((p_b (τ 1) nh nj j h).2.1) then (nI (go_T (τ 1) nh nj j h)) else (if (go_g (τ 1) nj j h (go_T (τ 1) nh nj j h)) = ((p_b (τ 1) nh nj j h).2.1) then (if ((p_b (τ 1) nh nj j h).2.2) ≤ (nI (go_T (τ 1) nh nj j h)) then ((p_b (τ 1) nh nj j h).2.2) else (nI (go_T (τ 1) nh nj j h))) else ((p_b (τ 1) nh nj j h).2.2)))) else ((p_b (τ 1) nh nj j h).2.2)) → ∀ (H : Heap) (locs : List Loc) (ls : Array Slot), Wst E (MW E a) (sr (sr τ 3 (G32)) 0 (upd (upd (τ 0) 1 (nI (go_T (τ 1) nh nj j h))) 2 (go_g (τ 1) nj j h (go_T (τ 1) nh nj j h)))) A s.heap H locs → lv_has ls 7 [(0, .ref (a 70)), (1, .int (nI j)), (2, .int (w33)), (3, .int (w35)), (4, .int (w37)), (5, .int (nI h))] → W p l e ({ frames := 5, cells := 0, slots := 0, locals := 121 }) s m args below meth c H locs 0 0 Q (F0 m 151 ls []) := by
                    intro w33 e34 w35 e36 w37 e38 H locs ls hw hl
                    subst e34
                    subst e36
                    subst e38
                    refine lv_iinc (v := nI (h + 1)) (lv' := [(5, .int (nI (h + 1))), (0, .ref (a 70)), (1, .int (nI j)), (2, .int ((if go_y (τ 1) nh nj j h (go_T (τ 1) nh nj j h) = 0 then (if ((p_b (τ 1) nh nj j h).1) < 0 then (nI h) else (if (go_g (τ 1) nj j h (go_T (τ 1) nh nj j h)) < ((p_b (τ 1) nh nj j h).2.1) then (nI h) else (if (go_g (τ 1) nj j h (go_T (τ 1) nh nj j h)) = ((p_b (τ 1) nh nj j h).2.1) then (if ((p_b (τ 1) nh nj j h).2.2) ≤ (nI (go_T (τ 1) nh nj j h)) then ((p_b (τ 1) nh nj j h).1) else (nI h)) else ((p_b (τ 1) nh nj j h).1)))) else ((p_b (τ 1) nh nj j h).1)))), (3, .int ((if go_y (τ 1) nh nj j h (go_T (τ 1) nh nj j h) = 0 then (if ((p_b (τ 1) nh nj j h).1) < 0 then (go_g (τ 1) nj j h (go_T (τ 1) nh nj j h)) else (if (go_g (τ 1) nj j h (go_T (τ 1) nh nj j h)) < ((p_b (τ 1) nh nj j h).2.1) then (go_g (τ 1) nj j h (go_T (τ 1) nh nj j h)) else (if (go_g (τ 1) nj j h (go_T (τ 1) nh nj j h)) = ((p_b (τ 1) nh nj j h).2.1) then (if ((p_b (τ 1) nh nj j h).2.2) ≤ (nI (go_T (τ 1) nh nj j h)) then ((p_b (τ 1) nh nj j h).2.1) else (go_g (τ 1) nj j h (go_T (τ 1) nh nj j h))) else ((p_b (τ 1) nh nj j h).2.1)))) else ((p_b (τ 1) nh nj j h).2.1)))), (4, .int ((if go_y (τ 1) nh nj j h (go_T (τ 1) nh nj j h) = 0 then (if ((p_b (τ 1) nh nj j h).1) < 0 then (nI (go_T (τ 1) nh nj j h)) else (if (go_g (τ 1) nj j h (go_T (τ 1) nh nj j h)) < ((p_b (τ 1) nh nj j h).2.1) then (nI (go_T (τ 1) nh nj j h)) else (if (go_g (τ 1) nj j h (go_T (τ 1) nh nj j h)) = ((p_b (τ 1) nh nj j h).2.1) then (if ((p_b (τ 1) nh nj j h).2.2) ≤ (nI (go_T (τ 1) nh nj j h)) then ((p_b (τ 1) nh nj j h).2.2) else (nI (go_T (τ 1) nh nj j h))) else ((p_b (τ 1) nh nj j h).2.2)))) else ((p_b (τ 1) nh nj j h).2.2))))]) hC.1 hC.2.1 dX11_place_151 hl (k := 5) rfl (nI_add _ _) (by decide) rfl (fun ls hl => ?_)
                    refine lv_goto (tgt := 74) hC.1 hC.2.1 dX11_place_154 (by decide) ?_
                    exact ih74 (h + 1) G32 (nI (go_T (τ 1) nh nj j h)) (go_g (τ 1) nj j h (go_T (τ 1) nh nj j h)) (if go_y (τ 1) nh nj j h (go_T (τ 1) nh nj j h) = 0 then (if ((p_b (τ 1) nh nj j h).1) < 0 then (nI h) else (if (go_g (τ 1) nj j h (go_T (τ 1) nh nj j h)) < ((p_b (τ 1) nh nj j h).2.1) then (nI h) else (if (go_g (τ 1) nj j h (go_T (τ 1) nh nj j h)) = ((p_b (τ 1) nh nj j h).2.1) then (if ((p_b (τ 1) nh nj j h).2.2) ≤ (nI (go_T (τ 1) nh nj j h)) then ((p_b (τ 1) nh nj j h).1) else (nI h)) else ((p_b (τ 1) nh nj j h).1)))) else ((p_b (τ 1) nh nj j h).1)) (if go_y (τ 1) nh nj j h (go_T (τ 1) nh nj j h) = 0 then (if ((p_b (τ 1) nh nj j h).1) < 0 then (go_g (τ 1) nj j h (go_T (τ 1) nh nj j h)) else (if (go_g (τ 1) nj j h (go_T (τ 1) nh nj j h)) < ((p_b (τ 1) nh nj j h).2.1) then (go_g (τ 1) nj j h (go_T (τ 1) nh nj j h)) else (if (go_g (τ 1) nj j h (go_T (τ 1) nh nj j h)) = ((p_b (τ 1) nh nj j h).2.1) then (if ((p_b (τ 1) nh nj j h).2.2) ≤ (nI (go_T (τ 1) nh nj j h)) then ((p_b (τ 1) nh nj j h).2.1) else (go_g (τ 1) nj j h (go_T (τ 1) nh nj j h))) else ((p_b (τ 1) nh nj j h).2.1)))) else ((p_b (τ 1) nh nj j h).2.1)) (if go_y (τ 1) nh nj j h (go_T (τ 1) nh nj j h) = 0 then (if ((p_b (τ 1) nh nj j h).1) < 0 then (nI (go_T (τ 1) nh nj j h)) else (if (go_g (τ 1) nj j h (go_T (τ 1) nh nj j h)) < ((p_b (τ 1) nh nj j h).2.1) then (nI (go_T (τ 1) nh nj j h)) else (if (go_g (τ 1) nj j h (go_T (τ 1) nh nj j h)) = ((p_b (τ 1) nh nj j h).2.1) then (if ((p_b (τ 1) nh nj j h).2.2) ≤ (nI (go_T (τ 1) nh nj j h)) then ((p_b (τ 1) nh nj j h).2.2) else (nI (go_T (τ 1) nh nj j h))) else ((p_b (τ 1) nh nj j h).2.2)))) else ((p_b (τ 1) nh nj j h).2.2)) (pst1) (pst2) (pst3) (by omega) (Or.inr c27) (by omega) _ _ _ hw (lv_sub hl [1, 2, 3, 4, 5, 0] rfl)
                  refine q_ifeq hC 151 cB dX11_place_105 (by decide) (fun (c39 : ¬ (go_y (τ 1) nh nj j h (go_T (τ 1) nh nj j h) = 0)) => ?_) (fun (c39 : go_y (τ 1) nh nj j h (go_T (τ 1) nh nj j h) = 0) => ?_)
                  · exact J151_38 _ (by (rw [if_neg c39]) <;> rfl) _ (by (rw [if_neg c39]) <;> rfl) _ (by (rw [if_neg c39]) <;> rfl) _ _ _ hw (lv_sub hl [0, 1, 2, 3, 4, 5] rfl)
                  · refine lv_iload_n hC.1 hC.2.1 dX11_place_108 rfl (lv_at hl 2 rfl) ?_
                    refine q_iflt hC 137 cI dX11_place_109 (by decide) (fun (c40 : ((p_b (τ 1) nh nj j h).1) < 0) => ?_) (fun (c40 : ¬ (((p_b (τ 1) nh nj j h).1) < 0)) => ?_)
                    · refine lv_iload hC.1 hC.2.1 dX11_place_137 (lv_at hl 5 rfl) ?_
                      refine lv_istore_n (lv' := [(2, .int (nI h)), (0, .ref (a 70)), (1, .int (nI j)), (3, .int ((p_b (τ 1) nh nj j h).2.1)), (4, .int ((p_b (τ 1) nh nj j h).2.2)), (5, .int (nI h))]) hC.1 hC.2.1 dX11_place_139 rfl hl (by decide) rfl (fun ls hl => ?_)
                      refine lv_aload_n hC.1 hC.2.1 dX11_place_140 rfl (lv_at hl 1 rfl) ?_
                      refine gf_X11_109 (v := go_g (τ 1) nj j h (go_T (τ 1) nh nj j h)) hC hw rfl dX11_place_141 ?_
                      refine lv_istore_n (lv' := [(3, .int (go_g (τ 1) nj j h (go_T (τ 1) nh nj j h))), (2, .int (nI h)), (0, .ref (a 70)), (1, .int (nI j)), (4, .int ((p_b (τ 1) nh nj j h).2.2)), (5, .int (nI h))]) hC.1 hC.2.1 dX11_place_144 rfl hl (by decide) rfl (fun ls hl => ?_)
                      refine lv_aload_n hC.1 hC.2.1 dX11_place_145 rfl (lv_at hl 2 rfl) ?_
                      refine gf_X11_106 (v := nI (go_T (τ 1) nh nj j h)) hC hw rfl dX11_place_146 ?_
                      refine lv_istore (lv' := [(4, .int (nI (go_T (τ 1) nh nj j h))), (3, .int (go_g (τ 1) nj j h (go_T (τ 1) nh nj j h))), (2, .int (nI h)), (0, .ref (a 70)), (1, .int (nI j)), (5, .int (nI h))]) hC.1 hC.2.1 dX11_place_149 hl (by decide) rfl (fun ls hl => ?_)
                      exact J151_38 _ (by (rw [if_pos c39, if_pos c40]) <;> rfl) _ (by (rw [if_pos c39, if_pos c40]) <;> rfl) _ (by (rw [if_pos c39, if_pos c40]) <;> rfl) _ _ _ hw (lv_sub hl [3, 4, 2, 1, 0, 5] rfl)
                    · refine lv_aload_n hC.1 hC.2.1 dX11_place_112 rfl (lv_at hl 0 rfl) ?_
                      refine gf_X11_109 (v := go_g (τ 1) nj j h (go_T (τ 1) nh nj j h)) hC hw rfl dX11_place_113 ?_
                      refine lv_iload_n hC.1 hC.2.1 dX11_place_116 rfl (lv_at hl 3 rfl) ?_
                      refine q_cmplt hC 137 cI dX11_place_117 (by decide) (fun (c41 : (go_g (τ 1) nj j h (go_T (τ 1) nh nj j h)) < ((p_b (τ 1) nh nj j h).2.1)) => ?_) (fun (c41 : ¬ ((go_g (τ 1) nj j h (go_T (τ 1) nh nj j h)) < ((p_b (τ 1) nh nj j h).2.1))) => ?_)
                      · refine lv_iload hC.1 hC.2.1 dX11_place_137 (lv_at hl 5 rfl) ?_
                        refine lv_istore_n (lv' := [(2, .int (nI h)), (0, .ref (a 70)), (1, .int (nI j)), (3, .int ((p_b (τ 1) nh nj j h).2.1)), (4, .int ((p_b (τ 1) nh nj j h).2.2)), (5, .int (nI h))]) hC.1 hC.2.1 dX11_place_139 rfl hl (by decide) rfl (fun ls hl => ?_)
                        refine lv_aload_n hC.1 hC.2.1 dX11_place_140 rfl (lv_at hl 1 rfl) ?_
                        refine gf_X11_109 (v := go_g (τ 1) nj j h (go_T (τ 1) nh nj j h)) hC hw rfl dX11_place_141 ?_
                        refine lv_istore_n (lv' := [(3, .int (go_g (τ 1) nj j h (go_T (τ 1) nh nj j h))), (2, .int (nI h)), (0, .ref (a 70)), (1, .int (nI j)), (4, .int ((p_b (τ 1) nh nj j h).2.2)), (5, .int (nI h))]) hC.1 hC.2.1 dX11_place_144 rfl hl (by decide) rfl (fun ls hl => ?_)
                        refine lv_aload_n hC.1 hC.2.1 dX11_place_145 rfl (lv_at hl 2 rfl) ?_
                        refine gf_X11_106 (v := nI (go_T (τ 1) nh nj j h)) hC hw rfl dX11_place_146 ?_
                        refine lv_istore (lv' := [(4, .int (nI (go_T (τ 1) nh nj j h))), (3, .int (go_g (τ 1) nj j h (go_T (τ 1) nh nj j h))), (2, .int (nI h)), (0, .ref (a 70)), (1, .int (nI j)), (5, .int (nI h))]) hC.1 hC.2.1 dX11_place_149 hl (by decide) rfl (fun ls hl => ?_)
                        exact J151_38 _ (by (rw [if_pos c39, if_neg c40, if_pos c41]) <;> rfl) _ (by (rw [if_pos c39, if_neg c40, if_pos c41]) <;> rfl) _ (by (rw [if_pos c39, if_neg c40, if_pos c41]) <;> rfl) _ _ _ hw (lv_sub hl [3, 4, 2, 1, 0, 5] rfl)
                      · refine lv_aload_n hC.1 hC.2.1 dX11_place_120 rfl (lv_at hl 0 rfl) ?_
                        refine gf_X11_109 (v := go_g (τ 1) nj j h (go_T (τ 1) nh nj j h)) hC hw rfl dX11_place_121 ?_
                        refine lv_iload_n hC.1 hC.2.1 dX11_place_124 rfl (lv_at hl 3 rfl) ?_
                        refine q_cmpne hC 151 cI dX11_place_125 (by decide) (fun (c42 : ¬ ((go_g (τ 1) nj j h (go_T (τ 1) nh nj j h)) = ((p_b (τ 1) nh nj j h).2.1))) => ?_) (fun (c42 : (go_g (τ 1) nj j h (go_T (τ 1) nh nj j h)) = ((p_b (τ 1) nh nj j h).2.1)) => ?_)
                        · exact J151_38 _ (by (rw [if_pos c39, if_neg c40, if_neg c41, if_neg c42]) <;> rfl) _ (by (rw [if_pos c39, if_neg c40, if_neg c41, if_neg c42]) <;> rfl) _ (by (rw [if_pos c39, if_neg c40, if_neg c41, if_neg c42]) <;> rfl) _ _ _ hw (lv_sub hl [0, 1, 2, 3, 4, 5] rfl)
                        · refine lv_aload_n hC.1 hC.2.1 dX11_place_128 rfl (lv_at hl 0 rfl) ?_
                          refine gf_X11_106 (v := nI (go_T (τ 1) nh nj j h)) hC hw rfl dX11_place_129 ?_
                          refine lv_iload hC.1 hC.2.1 dX11_place_132 (lv_at hl 4 rfl) ?_
                          refine q_cmpge hC 151 cI dX11_place_134 (by decide) (fun (c43 : ((p_b (τ 1) nh nj j h).2.2) ≤ (nI (go_T (τ 1) nh nj j h))) => ?_) (fun (c43 : ¬ (((p_b (τ 1) nh nj j h).2.2) ≤ (nI (go_T (τ 1) nh nj j h)))) => ?_)
                          · exact J151_38 _ (by (rw [if_pos c39, if_neg c40, if_neg c41, if_pos c42, if_pos c43]) <;> rfl) _ (by (rw [if_pos c39, if_neg c40, if_neg c41, if_pos c42, if_pos c43]) <;> rfl) _ (by (rw [if_pos c39, if_neg c40, if_neg c41, if_pos c42, if_pos c43]) <;> rfl) _ _ _ hw (lv_sub hl [0, 1, 2, 3, 4, 5] rfl)
                          · refine lv_iload hC.1 hC.2.1 dX11_place_137 (lv_at hl 5 rfl) ?_
                            refine lv_istore_n (lv' := [(2, .int (nI h)), (0, .ref (a 70)), (1, .int (nI j)), (3, .int ((p_b (τ 1) nh nj j h).2.1)), (4, .int ((p_b (τ 1) nh nj j h).2.2)), (5, .int (nI h))]) hC.1 hC.2.1 dX11_place_139 rfl hl (by decide) rfl (fun ls hl => ?_)
                            refine lv_aload_n hC.1 hC.2.1 dX11_place_140 rfl (lv_at hl 1 rfl) ?_
                            refine gf_X11_109 (v := go_g (τ 1) nj j h (go_T (τ 1) nh nj j h)) hC hw rfl dX11_place_141 ?_
                            refine lv_istore_n (lv' := [(3, .int (go_g (τ 1) nj j h (go_T (τ 1) nh nj j h))), (2, .int (nI h)), (0, .ref (a 70)), (1, .int (nI j)), (4, .int ((p_b (τ 1) nh nj j h).2.2)), (5, .int (nI h))]) hC.1 hC.2.1 dX11_place_144 rfl hl (by decide) rfl (fun ls hl => ?_)
                            refine lv_aload_n hC.1 hC.2.1 dX11_place_145 rfl (lv_at hl 2 rfl) ?_
                            refine gf_X11_106 (v := nI (go_T (τ 1) nh nj j h)) hC hw rfl dX11_place_146 ?_
                            refine lv_istore (lv' := [(4, .int (nI (go_T (τ 1) nh nj j h))), (3, .int (go_g (τ 1) nj j h (go_T (τ 1) nh nj j h))), (2, .int (nI h)), (0, .ref (a 70)), (1, .int (nI j)), (5, .int (nI h))]) hC.1 hC.2.1 dX11_place_149 hl (by decide) rfl (fun ls hl => ?_)
                            exact J151_38 _ (by (rw [if_pos c39, if_neg c40, if_neg c41, if_pos c42, if_neg c43]) <;> rfl) _ (by (rw [if_pos c39, if_neg c40, if_neg c41, if_pos c42, if_neg c43]) <;> rfl) _ (by (rw [if_pos c39, if_neg c40, if_neg c41, if_pos c42, if_neg c43]) <;> rfl) _ _ _ hw (lv_sub hl [3, 4, 2, 1, 0, 5] rfl)
          exact L74_10 _ 0 (τ 3) (τ 0 1) (τ 0 2) (m_bst (eM (τ 1)) (pB (eM (τ 1)) (nI j)) nh nj j nh) (nI 0) (nI 0) (m_bst_neg (by omega) c10) rfl rfl (Nat.zero_le _) (Or.inl rfl) (Nat.lt_succ_self _) _ _ _ hw (lv_sub hl [4, 5, 3, 2, 1, 0] rfl)
        · refine lv_aload_n hC.1 hC.2.1 dX11_place_49 rfl (lv_at hl 1 rfl) ?_
          refine q_callVv (As := []) (rest := []) (q0 := 0) hC hw hl (tX11_keep l E a τ stk (by first | assumption | omega) (by first | assumption | omega)) (q_cwV hC.2.2.2.2.1 ⟨rfl, rfl⟩ wk4_178 wk4_180 wks_2_6 wk1_12 wk4_181 hd_X11_keep ⟨Nat.le_of_ble_eq_true rfl, Nat.le_of_ble_eq_true rfl⟩) rfl rfl rfl rfl rfl (Nat.le_of_ble_eq_true rfl) dX11_place_50 (fun u46 H locs p44 hw => ?_)
          obtain ⟨K47, hRK47, huK47⟩ := p44
          have hw : Wst E (MW E a) (sr (sr τ 2 (K47)) 0 (upd (τ 0) 0 (nI (push30 stk (τ 1)).length))) A s.heap H locs := by rw [huK47] at hw; exact hw
          refine lv_aload_n hC.1 hC.2.1 dX11_place_53 rfl (lv_at hl 1 rfl) ?_
          refine lv_iload_n hC.1 hC.2.1 dX11_place_54 rfl (lv_at hl 2 rfl) ?_
          refine lv_iload_n hC.1 hC.2.1 dX11_place_55 rfl (lv_at hl 0 rfl) ?_
          have hbn := m_bst_nat (show nh < 2 ^ 31 by omega) c10
          refine q_top (y := nI ((m_bst (eM (τ 1)) (pB (eM (τ 1)) (nI j)) nh nj j nh).toNatClampNeg)) hbn.1 ?_
          refine q_callVvp (As := [.int (nI j), .int (nI ((m_bst (eM (τ 1)) (pB (eM (τ 1)) (nI j)) nh nj j nh).toNatClampNeg))]) (rest := []) (q0 := 0) hC hw hl (tX11_stand l E a (sr (sr τ 2 (K47)) 0 (upd (τ 0) 0 (nI (push30 stk (τ 1)).length))) j ((m_bst (eM (τ 1)) (pB (eM (τ 1)) (nI j)) nh nj j nh).toNatClampNeg) (by first | assumption | omega)) (q_cwV hC.2.2.2.2.1 ⟨rfl, rfl⟩ wk5_24 wk5_26 wks_3_4 wk1_12 wk5_27 hd_X11_stand ⟨Nat.le_of_ble_eq_true rfl, Nat.le_of_ble_eq_true rfl⟩) rfl rfl rfl rfl rfl (Nat.le_of_ble_eq_true rfl) dX11_place_56 (fun H locs hw => ?_)
          have hw : Wst E (MW E a) (sr (sr (sr τ 1 (f_std (τ 1) j ((m_bst (eM (τ 1)) (pB (eM (τ 1)) (nI j)) nh nj j nh).toNatClampNeg))) 2 (K47)) 0 (upd (τ 0) 0 (nI (push30 stk (τ 1)).length))) A s.heap H locs := hw
          refine lv_aload_n hC.1 hC.2.1 dX11_place_59 rfl (lv_at hl 1 rfl) ?_
          refine lv_iconst (v := nI 0) hC.1 hC.2.1 dX11_place_60 (by decide) ?_
          refine pf_X11_120 hC hw dX11_place_61 (fun H locs hw => ?_)
          have hw : Wst E (MW E a) (sr (sr (sr τ 1 (f_std (τ 1) j ((m_bst (eM (τ 1)) (pB (eM (τ 1)) (nI j)) nh nj j nh).toNatClampNeg))) 2 (K47)) 0 (upd (upd (τ 0) 0 (nI (push30 stk (τ 1)).length)) 3 (nI 0))) A s.heap H locs := hw
          refine lv_iload_n hC.1 hC.2.1 dX11_place_64 rfl (lv_at hl 0 rfl) ?_
          refine hret _ _ _ _ _ _ hw ?_ rfl dX11_place_65
          have ho : o_place (τ 1) nh nj (nI j) (τ 0 3) = (((m_bst (eM (τ 1)) (pB (eM (τ 1)) (nI j)) nh nj j nh), some (f_std (τ 1) j (m_bst (eM (τ 1)) (pB (eM (τ 1)) (nI j)) nh nj j nh).toNatClampNeg)), 0) := by rw [o_place, if_pos c4, y_j, if_pos ⟨c5, c6⟩, if_neg c10]
          rw [ho]
          exact ⟨rfl, rfl, hRK47, rfl, rfl, rfl, rfl, rfl⟩
      · refine lv_bipush (v := (-2)) hC.1 hC.2.1 dX11_place_36 (by decide) ?_
        refine hret _ _ _ _ _ _ hw ?_ rfl dX11_place_38
        have ho : o_place (τ 1) nh nj (nI j) (τ 0 3) = ((-2, none), τ 0 3) := by rw [o_place, if_pos c4, y_j, if_neg (fun q => q.2 c6)]
        rw [ho]
        exact ⟨rfl, rfl, hKR, hO, rfl, rfl, rfl, rfl⟩
  · refine lv_iconst (v := (-1)) hC.1 hC.2.1 dX11_place_8 (by decide) ?_
    refine hret _ _ _ _ _ _ hw ?_ rfl dX11_place_9
    have ho : o_place (τ 1) nh nj job (τ 0 3) = ((-1, none), τ 0 3) := by rw [o_place, if_neg c4]
    rw [ho]
    exact ⟨rfl, rfl, hKR, hO, rfl, rfl, rfl, rfl⟩
