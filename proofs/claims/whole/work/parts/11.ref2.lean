theorem wh6 {E : St} {P : Nat → Int32} {nh nj j h : Nat} (a : E 5 j = 1 ∨ E 5 j = 2) (b : m_crd E P nh nj j h = true) : m_wh2 E P nh nj j h = 6 := by
  unfold m_wh2; rw [if_pos ⟨a, b⟩]
theorem wh7a {E : St} {P : Nat → Int32} {nh nj j h : Nat} (a : ¬ ((E 5 j = 1 ∨ E 5 j = 2) ∧ m_crd E P nh nj j h = true)) (b : E 5 j = 4) (c : 0 < m_gon E P nj (E 10 j) h) : m_wh2 E P nh nj j h = 7 := by
  unfold m_wh2; rw [if_neg a, if_pos (Or.inl ⟨b, c⟩)]
theorem wh7b {E : St} {P : Nat → Int32} {nh nj j h : Nat} (a : ¬ ((E 5 j = 1 ∨ E 5 j = 2) ∧ m_crd E P nh nj j h = true)) (b : E 5 j = 5) (c : m_gin E P nj (E 10 j) (E 2 h) = 0) : m_wh2 E P nh nj j h = 7 := by
  unfold m_wh2; rw [if_neg a, if_pos (Or.inr ⟨b, c⟩)]
theorem wh8 {E : St} {P : Nat → Int32} {nh nj j h : Nat} (a : ¬ ((E 5 j = 1 ∨ E 5 j = 2) ∧ m_crd E P nh nj j h = true)) (b : ¬ ((E 5 j = 4 ∧ 0 < m_gon E P nj (E 10 j) h) ∨ (E 5 j = 5 ∧ m_gin E P nj (E 10 j) (E 2 h) = 0))) : m_wh2 E P nh nj j h = if m_scd E P nj j h = true then 8 else 0 := by
  unfold m_wh2; rw [if_neg a, if_neg b]
theorem why_left {E : St} {P : Nat → Int32} {nh nj j h i : Nat} (hlt : ∀ x, x < i → ¬ m_left E P nj h x < E 6 (3 * j + x)) (h3 : m_left E P nj h i < E 6 (3 * j + i)) (hi : i < 3) (h1 : ¬ E 4 h = 0) (h2 : E 3 h &&& (E 9 j ^^^ (-1)) = 0) : nI (3 + i) = m_why E P nh nj j h := by
  unfold m_why
  rw [if_neg h1, if_neg (fun q => q h2)]
  rcases (show i = 0 ∨ i = 1 ∨ i = 2 by omega) with rfl | rfl | rfl
  · rw [if_pos h3]; rfl
  · rw [if_neg (hlt 0 (by omega)), if_pos h3]; rfl
  · rw [if_neg (hlt 0 (by omega)), if_neg (hlt 1 (by omega)), if_pos h3]; rfl
theorem std_eq {v : Nat → Int32} {j h : Nat} (hj : j < 24) : upd (upd (upd (upd v (258 + j) 1) (282 + j) (nI h)) 5 (eM (upd (upd v (258 + j) 1) (282 + j) (nI h)) 0 2 + 1)) (306 + j) (eM (upd (upd (upd v (258 + j) 1) (282 + j) (nI h)) 5 (eM (upd (upd v (258 + j) 1) (282 + j) (nI h)) 0 2 + 1)) 0 2) = f_std v j h := by
  have e : eM (upd (upd v (258 + j) 1) (282 + j) (nI h)) 0 2 = v 5 := by
    show upd (upd v (258 + j) 1) (282 + j) (nI h) 5 = v 5
    unfold upd; rw [if_neg (by omega), if_neg (by omega)]
  rw [e]
  have e2 : ∀ x, eM (upd (upd (upd v (258 + j) 1) (282 + j) (nI h)) 5 x) 0 2 = x := fun x => by
    show upd (upd (upd v (258 + j) 1) (282 + j) (nI h)) 5 x 5 = x
    unfold upd; rw [if_pos rfl]
  rw [e2]; rfl
set_option maxHeartbeats 4000000 in
set_option maxRecDepth 100000 in
theorem tX11_whyNot (l : Launch) (E : EV) (a : Nat → Nat) (τ : St) (nh : Nat) (nj : Nat) (j : Nat) (h : Nat) (hW : mF (τ 1) nh nj) (hj : j < nj) (hh : h < nh) : MI l E (MW E a) yX11_whyNot (Cond.code yX11_whyNot cX11_whyNot 4 (some .int)) ({ frames := 3, cells := 0, slots := 0, locals := 71 }) [.ref (a 70), .int (nI j), .int (nI h)] τ (fun r_ u_ => r_ = (m_why (eM (τ 1)) (pB (eM (τ 1)) (nI j)) nh nj j h) ∧ u_ = τ) := by
  refine MI.mk (by decide +kernel) (Nat.le_of_ble_eq_true rfl) ?_
  intro p e s m args below meth c ls A Q hret hC hw hl
  have hC : Cxt E p s m args meth c cX11_whyNot 4 (some .int) RX11 A := hC
  have hl : lv_has ls 4 [(0, .ref (a 70)), (1, .int (nI j)), (2, .int (nI h))] := hl
  have ⟨hnh, hnj, hW0, hW1, hWh⟩ := id hW
  refine lv_aload_n hC.1 hC.2.1 dX11_whyNot_0 rfl (lv_at hl 0 rfl) ?_
  refine gf_X11_7 hC hw dX11_whyNot_1 ?_
  refine lv_bipush (v := nI 56) hC.1 hC.2.1 dX11_whyNot_4 (by decide) ?_
  refine lv_iload_n hC.1 hC.2.1 dX11_whyNot_6 rfl (lv_at hl 2 rfl) ?_
  refine q_addN hC dX11_whyNot_7 ?_
  refine al_M1 (v := eM (τ 1) 4 h) hC hw (by omega) (show _ = eM (τ 1) 4 h from congrArg (τ 1) (by omega)) dX11_whyNot_8 ?_
  refine q_ifne hC 14 cI dX11_whyNot_9 (by decide) (fun (c1 : ¬ ((eM (τ 1) 4 h) = 0)) => ?_) (fun (c1 : (eM (τ 1) 4 h) = 0) => ?_)
  · refine lv_aload_n hC.1 hC.2.1 dX11_whyNot_14 rfl (lv_at hl 0 rfl) ?_
    refine gf_X11_7 hC hw dX11_whyNot_15 ?_
    refine lv_bipush (v := nI 46) hC.1 hC.2.1 dX11_whyNot_18 (by decide) ?_
    refine lv_iload_n hC.1 hC.2.1 dX11_whyNot_20 rfl (lv_at hl 2 rfl) ?_
    refine q_addN hC dX11_whyNot_21 ?_
    refine al_M1 (v := eM (τ 1) 3 h) hC hw (by omega) (show _ = eM (τ 1) 3 h from congrArg (τ 1) (by omega)) dX11_whyNot_22 ?_
    refine lv_aload_n hC.1 hC.2.1 dX11_whyNot_23 rfl (lv_at hl 0 rfl) ?_
    refine gf_X11_7 hC hw dX11_whyNot_24 ?_
    refine lv_sipush (v := nI 210) hC.1 hC.2.1 dX11_whyNot_27 (by decide) ?_
    refine lv_iload_n hC.1 hC.2.1 dX11_whyNot_30 rfl (lv_at hl 1 rfl) ?_
    refine q_addN hC dX11_whyNot_31 ?_
    refine al_M1 (v := eM (τ 1) 9 j) hC hw (by omega) (show _ = eM (τ 1) 9 j from congrArg (τ 1) (by omega)) dX11_whyNot_32 ?_
    refine lv_iconst (v := (-1)) hC.1 hC.2.1 dX11_whyNot_33 (by decide) ?_
    refine lv_ixor hC.1 hC.2.1 dX11_whyNot_34 ?_
    refine lv_iand hC.1 hC.2.1 dX11_whyNot_35 ?_
    refine q_ifeq hC 41 cI dX11_whyNot_36 (by decide) (fun (c2 : ((eM (τ 1) 3 h) &&& ((eM (τ 1) 9 j) ^^^ (-1))) = 0) => ?_) (fun (c2 : ¬ (((eM (τ 1) 3 h) &&& ((eM (τ 1) 9 j) ^^^ (-1))) = 0)) => ?_)
    · refine lv_iconst (v := nI 0) hC.1 hC.2.1 dX11_whyNot_41 (by decide) ?_
      refine lv_istore_n (lv' := [(3, .int (nI 0)), (0, .ref (a 70)), (1, .int (nI j)), (2, .int (nI h))]) hC.1 hC.2.1 dX11_whyNot_42 rfl hl (by decide) rfl (fun ls hl => ?_)
      have L43_2 : ∀ (n : Nat), ∀ (i : Nat), (i ≤ 3) → (∀ x, x < i → ¬ m_left (eM (τ 1)) (pB (eM (τ 1)) (nI j)) nj h x < eM (τ 1) 6 (3 * j + x)) → (3 - i) < n → ∀ (H : Heap) (locs : List Loc) (ls : Array Slot), Wst E (MW E a) (τ) A s.heap H locs → lv_has ls 4 [(0, .ref (a 70)), (1, .int (nI j)), (2, .int (nI h)), (3, .int (nI i))] → W p l e ({ frames := 3, cells := 0, slots := 0, locals := 71 }) s m args below meth c H locs 0 0 Q (F0 m 43 ls []) := by
        intro n
        induction n with
        | zero => intro i hi hlt hn; exact absurd hn (Nat.not_lt_zero _)
        | succ n ih43 =>
          intro i hi hlt hn43 H locs ls hw hl
          refine lv_iload_n hC.1 hC.2.1 dX11_whyNot_43 rfl (lv_at hl 3 rfl) ?_
          refine lv_iconst (v := nI 3) hC.1 hC.2.1 dX11_whyNot_44 (by decide) ?_
          refine q_cmpge hC 81 (cNle (by omega) (by omega)) dX11_whyNot_45 (by decide) (fun (c4 : 3 ≤ i) => ?_) (fun (c4 : i < 3) => ?_)
          · refine lv_aload_n hC.1 hC.2.1 dX11_whyNot_81 rfl (lv_at hl 0 rfl) ?_
            refine gf_X11_7 hC hw dX11_whyNot_82 ?_
            refine lv_bipush (v := nI 66) hC.1 hC.2.1 dX11_whyNot_85 (by decide) ?_
            refine lv_iload_n hC.1 hC.2.1 dX11_whyNot_87 rfl (lv_at hl 1 rfl) ?_
            refine q_addN hC dX11_whyNot_88 ?_
            refine al_M1 (v := eM (τ 1) 5 j) hC hw (by omega) (show _ = eM (τ 1) 5 j from congrArg (τ 1) (by omega)) dX11_whyNot_89 ?_
            refine lv_istore_n (lv' := [(3, .int (eM (τ 1) 5 j)), (0, .ref (a 70)), (1, .int (nI j)), (2, .int (nI h))]) hC.1 hC.2.1 dX11_whyNot_90 rfl hl (by decide) rfl (fun ls hl => ?_)
            refine lv_iload_n hC.1 hC.2.1 dX11_whyNot_91 rfl (lv_at hl 0 rfl) ?_
            refine lv_iconst (v := nI 1) hC.1 hC.2.1 dX11_whyNot_92 (by decide) ?_
            refine q_cmpeq hC 101 cI dX11_whyNot_93 (by decide) (fun (c5 : (eM (τ 1) 5 j) = 1) => ?_) (fun (c5 : ¬ ((eM (τ 1) 5 j) = 1)) => ?_)
            · refine lv_aload_n hC.1 hC.2.1 dX11_whyNot_101 rfl (lv_at hl 1 rfl) ?_
              refine lv_iload_n hC.1 hC.2.1 dX11_whyNot_102 rfl (lv_at hl 2 rfl) ?_
              refine lv_iload_n hC.1 hC.2.1 dX11_whyNot_103 rfl (lv_at hl 3 rfl) ?_
              refine q_callVp (As := [.int (nI j), .int (nI h)]) (rest := []) (q0 := 0) hC hw hl (tX11_isCrowded l E a τ nh nj j h (by first | assumption | omega) (by first | assumption | omega) (by first | assumption | omega)) (q_cwV hC.2.2.2.2.1 ⟨rfl, rfl⟩ wk4_214 wk4_216 wks_2_12 wk1_12 wk4_217 hd_X11_isCrowded ⟨Nat.le_of_ble_eq_true rfl, Nat.le_of_ble_eq_true rfl⟩) rfl rfl rfl rfl rfl (Nat.le_of_ble_eq_true rfl) dX11_whyNot_104 (fun H locs hw => ?_)
              refine q_ifeq hC 113 cB dX11_whyNot_107 (by decide) (fun (c9 : ¬ (m_crd (eM (τ 1)) (pB (eM (τ 1)) (nI j)) nh nj j h = true)) => ?_) (fun (c9 : m_crd (eM (τ 1)) (pB (eM (τ 1)) (nI j)) nh nj j h = true) => ?_)
              · refine lv_iload_n hC.1 hC.2.1 dX11_whyNot_113 rfl (lv_at hl 0 rfl) ?_
                refine lv_iconst (v := nI 4) hC.1 hC.2.1 dX11_whyNot_114 (by decide) ?_
                refine q_cmpne hC 137 cI dX11_whyNot_115 (by decide) (fun (c10 : ¬ ((eM (τ 1) 5 j) = 4)) => ?_) (fun (c10 : (eM (τ 1) 5 j) = 4) => ?_)
                · refine lv_iload_n hC.1 hC.2.1 dX11_whyNot_137 rfl (lv_at hl 0 rfl) ?_
                  refine lv_iconst (v := nI 5) hC.1 hC.2.1 dX11_whyNot_138 (by decide) ?_
                  refine q_cmpne hC 172 cI dX11_whyNot_139 (by decide) (fun (c11 : ¬ ((eM (τ 1) 5 j) = 5)) => ?_) (fun (c11 : (eM (τ 1) 5 j) = 5) => ?_)
                  · refine lv_aload_n hC.1 hC.2.1 dX11_whyNot_172 rfl (lv_at hl 1 rfl) ?_
                    refine lv_iload_n hC.1 hC.2.1 dX11_whyNot_173 rfl (lv_at hl 2 rfl) ?_
                    refine lv_iload_n hC.1 hC.2.1 dX11_whyNot_174 rfl (lv_at hl 3 rfl) ?_
                    refine q_callVp (As := [.int (nI j), .int (nI h)]) (rest := []) (q0 := 0) hC hw hl (tX11_isScared l E a τ nh nj j h (by first | assumption | omega) (by first | assumption | omega) (by first | assumption | omega)) (q_cwV hC.2.2.2.2.1 ⟨rfl, rfl⟩ wk4_234 wk4_236 wks_3_1 wk1_12 wk4_237 hd_X11_isScared ⟨Nat.le_of_ble_eq_true rfl, Nat.le_of_ble_eq_true rfl⟩) rfl rfl rfl rfl rfl (Nat.le_of_ble_eq_true rfl) dX11_whyNot_175 (fun H locs hw => ?_)
                    have J187_16 : ∀ (w15 : Int32), w15 = (if m_scd (eM (τ 1)) (pB (eM (τ 1)) (nI j)) nj j h = true then 8 else 0) → ∀ (H : Heap) (locs : List Loc) (ls : Array Slot), Wst E (MW E a) (τ) A s.heap H locs → lv_has ls 4 [(0, .ref (a 70)), (1, .int (nI j)), (2, .int (nI h)), (3, .int (eM (τ 1) 5 j))] → W p l e ({ frames := 3, cells := 0, slots := 0, locals := 71 }) s m args below meth c H locs 0 0 Q (F0 m 187 ls [.int (w15)]) := by
                      intro w15 e16 H locs ls hw hl
                      subst e16
                      refine hret _ _ _ _ _ _ hw ?_ rfl dX11_whyNot_187
                      have hi3 : i = 3 := by omega
                      subst hi3
                      refine ⟨?_, rfl⟩
                      rw [why_tail c1 c2 hlt]
                      exact (wh8 (by simp [c1, c2, c4, c5, c9, c10, c11]) (by simp [c1, c2, c4, c5, c9, c10, c11])).symm
                    refine q_ifeq hC 186 cB dX11_whyNot_178 (by decide) (fun (c17 : ¬ (m_scd (eM (τ 1)) (pB (eM (τ 1)) (nI j)) nj j h = true)) => ?_) (fun (c17 : m_scd (eM (τ 1)) (pB (eM (τ 1)) (nI j)) nj j h = true) => ?_)
                    · refine lv_iconst (v := nI 0) hC.1 hC.2.1 dX11_whyNot_186 (by decide) ?_
                      exact J187_16 _ (by (rw [if_neg c17]) <;> rfl) _ _ _ hw (lv_sub hl [1, 2, 3, 0] rfl)
                    · refine lv_bipush (v := nI 8) hC.1 hC.2.1 dX11_whyNot_181 (by decide) ?_
                      refine lv_goto (tgt := 187) hC.1 hC.2.1 dX11_whyNot_183 (by decide) ?_
                      exact J187_16 _ (by (rw [if_pos c17]) <;> rfl) _ _ _ hw (lv_sub hl [1, 2, 3, 0] rfl)
                  · refine lv_aload_n hC.1 hC.2.1 dX11_whyNot_142 rfl (lv_at hl 1 rfl) ?_
                    refine lv_aload_n hC.1 hC.2.1 dX11_whyNot_143 rfl (lv_at hl 1 rfl) ?_
                    refine gf_X11_7 hC hw dX11_whyNot_144 ?_
                    refine lv_sipush (v := nI 234) hC.1 hC.2.1 dX11_whyNot_147 (by decide) ?_
                    refine lv_iload_n hC.1 hC.2.1 dX11_whyNot_150 rfl (lv_at hl 2 rfl) ?_
                    refine q_addN hC dX11_whyNot_151 ?_
                    refine al_M1 (v := eM (τ 1) 10 j) hC hw (by omega) (show _ = eM (τ 1) 10 j from congrArg (τ 1) (by omega)) dX11_whyNot_152 ?_
                    refine lv_aload_n hC.1 hC.2.1 dX11_whyNot_153 rfl (lv_at hl 1 rfl) ?_
                    refine gf_X11_7 hC hw dX11_whyNot_154 ?_
                    refine lv_bipush (v := nI 36) hC.1 hC.2.1 dX11_whyNot_157 (by decide) ?_
                    refine lv_iload_n hC.1 hC.2.1 dX11_whyNot_159 rfl (lv_at hl 3 rfl) ?_
                    refine q_addN hC dX11_whyNot_160 ?_
                    refine al_M1 (v := eM (τ 1) 2 h) hC hw (by omega) (show _ = eM (τ 1) 2 h from congrArg (τ 1) (by omega)) dX11_whyNot_161 ?_
                    refine lv_iload_n hC.1 hC.2.1 dX11_whyNot_162 rfl (lv_at hl 2 rfl) ?_
                    refine q_callVp (As := [.int (eM (τ 1) 10 j), .int (eM (τ 1) 2 h), .int (nI j)]) (rest := []) (q0 := 0) hC hw hl (tX11_groupIn l E a τ nh nj (eM (τ 1) 10 j) (eM (τ 1) 2 h) (nI j) (by first | assumption | omega)) (q_cwV hC.2.2.2.2.1 ⟨rfl, rfl⟩ wk4_230 wk4_232 wks_3_0 wk1_12 wk4_233 hd_X11_groupIn ⟨Nat.le_of_ble_eq_true rfl, Nat.le_of_ble_eq_true rfl⟩) rfl rfl rfl rfl rfl (Nat.le_of_ble_eq_true rfl) dX11_whyNot_163 (fun H locs hw => ?_)
                    refine q_ifne hC 172 cI dX11_whyNot_166 (by decide) (fun (c21 : ¬ ((m_gin (eM (τ 1)) (pB (eM (τ 1)) (nI j)) nj (eM (τ 1) 10 j) (eM (τ 1) 2 h)) = 0)) => ?_) (fun (c21 : (m_gin (eM (τ 1)) (pB (eM (τ 1)) (nI j)) nj (eM (τ 1) 10 j) (eM (τ 1) 2 h)) = 0) => ?_)
                    · refine lv_aload_n hC.1 hC.2.1 dX11_whyNot_172 rfl (lv_at hl 1 rfl) ?_
                      refine lv_iload_n hC.1 hC.2.1 dX11_whyNot_173 rfl (lv_at hl 2 rfl) ?_
                      refine lv_iload_n hC.1 hC.2.1 dX11_whyNot_174 rfl (lv_at hl 3 rfl) ?_
                      refine q_callVp (As := [.int (nI j), .int (nI h)]) (rest := []) (q0 := 0) hC hw hl (tX11_isScared l E a τ nh nj j h (by first | assumption | omega) (by first | assumption | omega) (by first | assumption | omega)) (q_cwV hC.2.2.2.2.1 ⟨rfl, rfl⟩ wk4_234 wk4_236 wks_3_1 wk1_12 wk4_237 hd_X11_isScared ⟨Nat.le_of_ble_eq_true rfl, Nat.le_of_ble_eq_true rfl⟩) rfl rfl rfl rfl rfl (Nat.le_of_ble_eq_true rfl) dX11_whyNot_175 (fun H locs hw => ?_)
                      have J187_26 : ∀ (w25 : Int32), w25 = (if m_scd (eM (τ 1)) (pB (eM (τ 1)) (nI j)) nj j h = true then 8 else 0) → ∀ (H : Heap) (locs : List Loc) (ls : Array Slot), Wst E (MW E a) (τ) A s.heap H locs → lv_has ls 4 [(0, .ref (a 70)), (1, .int (nI j)), (2, .int (nI h)), (3, .int (eM (τ 1) 5 j))] → W p l e ({ frames := 3, cells := 0, slots := 0, locals := 71 }) s m args below meth c H locs 0 0 Q (F0 m 187 ls [.int (w25)]) := by
                        intro w25 e26 H locs ls hw hl
                        subst e26
                        refine hret _ _ _ _ _ _ hw ?_ rfl dX11_whyNot_187
                        have hi3 : i = 3 := by omega
                        subst hi3
                        refine ⟨?_, rfl⟩
                        rw [why_tail c1 c2 hlt]
                        exact (wh8 (by simp [c1, c2, c4, c5, c9, c10, c11, c21]) (by simp [c1, c2, c4, c5, c9, c10, c11, c21])).symm
                      refine q_ifeq hC 186 cB dX11_whyNot_178 (by decide) (fun (c27 : ¬ (m_scd (eM (τ 1)) (pB (eM (τ 1)) (nI j)) nj j h = true)) => ?_) (fun (c27 : m_scd (eM (τ 1)) (pB (eM (τ 1)) (nI j)) nj j h = true) => ?_)
                      · refine lv_iconst (v := nI 0) hC.1 hC.2.1 dX11_whyNot_186 (by decide) ?_
                        exact J187_26 _ (by (rw [if_neg c27]) <;> rfl) _ _ _ hw (lv_sub hl [1, 2, 3, 0] rfl)
                      · refine lv_bipush (v := nI 8) hC.1 hC.2.1 dX11_whyNot_181 (by decide) ?_
                        refine lv_goto (tgt := 187) hC.1 hC.2.1 dX11_whyNot_183 (by decide) ?_
                        exact J187_26 _ (by (rw [if_pos c27]) <;> rfl) _ _ _ hw (lv_sub hl [1, 2, 3, 0] rfl)
                    · refine lv_bipush (v := nI 7) hC.1 hC.2.1 dX11_whyNot_169 (by decide) ?_
                      refine hret _ _ _ _ _ _ hw ?_ rfl dX11_whyNot_171
                      have hi3 : i = 3 := by omega
                      subst hi3
                      refine ⟨?_, rfl⟩
                      rw [why_tail c1 c2 hlt]
                      exact (wh7b (by simp [c1, c2, c4, c5, c9, c10, c11, c21]) c11 c21).symm
                · refine lv_aload_n hC.1 hC.2.1 dX11_whyNot_118 rfl (lv_at hl 1 rfl) ?_
                  refine lv_aload_n hC.1 hC.2.1 dX11_whyNot_119 rfl (lv_at hl 1 rfl) ?_
                  refine gf_X11_7 hC hw dX11_whyNot_120 ?_
                  refine lv_sipush (v := nI 234) hC.1 hC.2.1 dX11_whyNot_123 (by decide) ?_
                  refine lv_iload_n hC.1 hC.2.1 dX11_whyNot_126 rfl (lv_at hl 2 rfl) ?_
                  refine q_addN hC dX11_whyNot_127 ?_
                  refine al_M1 (v := eM (τ 1) 10 j) hC hw (by omega) (show _ = eM (τ 1) 10 j from congrArg (τ 1) (by omega)) dX11_whyNot_128 ?_
                  refine lv_iload_n hC.1 hC.2.1 dX11_whyNot_129 rfl (lv_at hl 3 rfl) ?_
                  refine lv_iload_n hC.1 hC.2.1 dX11_whyNot_130 rfl (lv_at hl 2 rfl) ?_
                  refine q_callVp (As := [.int (eM (τ 1) 10 j), .int (nI h), .int (nI j)]) (rest := []) (q0 := 0) hC hw hl (tX11_groupOn l E a τ nh nj (eM (τ 1) 10 j) h (nI j) (by first | assumption | omega) (by first | assumption | omega)) (q_cwV hC.2.2.2.2.1 ⟨rfl, rfl⟩ wk4_226 wk4_228 wks_2_15 wk1_12 wk4_229 hd_X11_groupOn ⟨Nat.le_of_ble_eq_true rfl, Nat.le_of_ble_eq_true rfl⟩) rfl rfl rfl rfl rfl (Nat.le_of_ble_eq_true rfl) dX11_whyNot_131 (fun H locs hw => ?_)
                  refine q_ifgt hC 169 cI dX11_whyNot_134 (by decide) (fun (c31 : 0 < (m_gon (eM (τ 1)) (pB (eM (τ 1)) (nI j)) nj (eM (τ 1) 10 j) h)) => ?_) (fun (c31 : ¬ (0 < (m_gon (eM (τ 1)) (pB (eM (τ 1)) (nI j)) nj (eM (τ 1) 10 j) h))) => ?_)
                  · refine lv_bipush (v := nI 7) hC.1 hC.2.1 dX11_whyNot_169 (by decide) ?_
                    refine hret _ _ _ _ _ _ hw ?_ rfl dX11_whyNot_171
                    have hi3 : i = 3 := by omega
                    subst hi3
                    refine ⟨?_, rfl⟩
                    rw [why_tail c1 c2 hlt]
                    exact (wh7a (by simp [c1, c2, c4, c5, c9, c10, c31]) c10 c31).symm
                  · refine lv_iload_n hC.1 hC.2.1 dX11_whyNot_137 rfl (lv_at hl 0 rfl) ?_
                    refine lv_iconst (v := nI 5) hC.1 hC.2.1 dX11_whyNot_138 (by decide) ?_
                    refine q_cmpne hC 172 cI dX11_whyNot_139 (by decide) (fun (c32 : ¬ ((eM (τ 1) 5 j) = 5)) => ?_) (fun (c32 : (eM (τ 1) 5 j) = 5) => ?_)
                    · refine lv_aload_n hC.1 hC.2.1 dX11_whyNot_172 rfl (lv_at hl 1 rfl) ?_
                      refine lv_iload_n hC.1 hC.2.1 dX11_whyNot_173 rfl (lv_at hl 2 rfl) ?_
                      refine lv_iload_n hC.1 hC.2.1 dX11_whyNot_174 rfl (lv_at hl 3 rfl) ?_
                      refine q_callVp (As := [.int (nI j), .int (nI h)]) (rest := []) (q0 := 0) hC hw hl (tX11_isScared l E a τ nh nj j h (by first | assumption | omega) (by first | assumption | omega) (by first | assumption | omega)) (q_cwV hC.2.2.2.2.1 ⟨rfl, rfl⟩ wk4_234 wk4_236 wks_3_1 wk1_12 wk4_237 hd_X11_isScared ⟨Nat.le_of_ble_eq_true rfl, Nat.le_of_ble_eq_true rfl⟩) rfl rfl rfl rfl rfl (Nat.le_of_ble_eq_true rfl) dX11_whyNot_175 (fun H locs hw => ?_)
                      have J187_37 : ∀ (w36 : Int32), w36 = (if m_scd (eM (τ 1)) (pB (eM (τ 1)) (nI j)) nj j h = true then 8 else 0) → ∀ (H : Heap) (locs : List Loc) (ls : Array Slot), Wst E (MW E a) (τ) A s.heap H locs → lv_has ls 4 [(0, .ref (a 70)), (1, .int (nI j)), (2, .int (nI h)), (3, .int (eM (τ 1) 5 j))] → W p l e ({ frames := 3, cells := 0, slots := 0, locals := 71 }) s m args below meth c H locs 0 0 Q (F0 m 187 ls [.int (w36)]) := by
                        intro w36 e37 H locs ls hw hl
                        subst e37
                        refine hret _ _ _ _ _ _ hw ?_ rfl dX11_whyNot_187
                        have hi3 : i = 3 := by omega
                        subst hi3
                        refine ⟨?_, rfl⟩
                        rw [why_tail c1 c2 hlt]
                        exact (wh8 (by simp [c1, c2, c4, c5, c9, c10, c31, c32]) (by simp [c1, c2, c4, c5, c9, c10, c31, c32])).symm
                      refine q_ifeq hC 186 cB dX11_whyNot_178 (by decide) (fun (c38 : ¬ (m_scd (eM (τ 1)) (pB (eM (τ 1)) (nI j)) nj j h = true)) => ?_) (fun (c38 : m_scd (eM (τ 1)) (pB (eM (τ 1)) (nI j)) nj j h = true) => ?_)
                      · refine lv_iconst (v := nI 0) hC.1 hC.2.1 dX11_whyNot_186 (by decide) ?_
                        exact J187_37 _ (by (rw [if_neg c38]) <;> rfl) _ _ _ hw (lv_sub hl [1, 2, 3, 0] rfl)
                      · refine lv_bipush (v := nI 8) hC.1 hC.2.1 dX11_whyNot_181 (by decide) ?_
                        refine lv_goto (tgt := 187) hC.1 hC.2.1 dX11_whyNot_183 (by decide) ?_
                        exact J187_37 _ (by (rw [if_pos c38]) <;> rfl) _ _ _ hw (lv_sub hl [1, 2, 3, 0] rfl)
                    · refine lv_aload_n hC.1 hC.2.1 dX11_whyNot_142 rfl (lv_at hl 1 rfl) ?_
                      refine lv_aload_n hC.1 hC.2.1 dX11_whyNot_143 rfl (lv_at hl 1 rfl) ?_
                      refine gf_X11_7 hC hw dX11_whyNot_144 ?_
                      refine lv_sipush (v := nI 234) hC.1 hC.2.1 dX11_whyNot_147 (by decide) ?_
                      refine lv_iload_n hC.1 hC.2.1 dX11_whyNot_150 rfl (lv_at hl 2 rfl) ?_
                      refine q_addN hC dX11_whyNot_151 ?_
                      refine al_M1 (v := eM (τ 1) 10 j) hC hw (by omega) (show _ = eM (τ 1) 10 j from congrArg (τ 1) (by omega)) dX11_whyNot_152 ?_
                      refine lv_aload_n hC.1 hC.2.1 dX11_whyNot_153 rfl (lv_at hl 1 rfl) ?_
                      refine gf_X11_7 hC hw dX11_whyNot_154 ?_
                      refine lv_bipush (v := nI 36) hC.1 hC.2.1 dX11_whyNot_157 (by decide) ?_
                      refine lv_iload_n hC.1 hC.2.1 dX11_whyNot_159 rfl (lv_at hl 3 rfl) ?_
                      refine q_addN hC dX11_whyNot_160 ?_
                      refine al_M1 (v := eM (τ 1) 2 h) hC hw (by omega) (show _ = eM (τ 1) 2 h from congrArg (τ 1) (by omega)) dX11_whyNot_161 ?_
                      refine lv_iload_n hC.1 hC.2.1 dX11_whyNot_162 rfl (lv_at hl 2 rfl) ?_
                      refine q_callVp (As := [.int (eM (τ 1) 10 j), .int (eM (τ 1) 2 h), .int (nI j)]) (rest := []) (q0 := 0) hC hw hl (tX11_groupIn l E a τ nh nj (eM (τ 1) 10 j) (eM (τ 1) 2 h) (nI j) (by first | assumption | omega)) (q_cwV hC.2.2.2.2.1 ⟨rfl, rfl⟩ wk4_230 wk4_232 wks_3_0 wk1_12 wk4_233 hd_X11_groupIn ⟨Nat.le_of_ble_eq_true rfl, Nat.le_of_ble_eq_true rfl⟩) rfl rfl rfl rfl rfl (Nat.le_of_ble_eq_true rfl) dX11_whyNot_163 (fun H locs hw => ?_)
                      refine q_ifne hC 172 cI dX11_whyNot_166 (by decide) (fun (c42 : ¬ ((m_gin (eM (τ 1)) (pB (eM (τ 1)) (nI j)) nj (eM (τ 1) 10 j) (eM (τ 1) 2 h)) = 0)) => ?_) (fun (c42 : (m_gin (eM (τ 1)) (pB (eM (τ 1)) (nI j)) nj (eM (τ 1) 10 j) (eM (τ 1) 2 h)) = 0) => ?_)
                      · refine lv_aload_n hC.1 hC.2.1 dX11_whyNot_172 rfl (lv_at hl 1 rfl) ?_
                        refine lv_iload_n hC.1 hC.2.1 dX11_whyNot_173 rfl (lv_at hl 2 rfl) ?_
                        refine lv_iload_n hC.1 hC.2.1 dX11_whyNot_174 rfl (lv_at hl 3 rfl) ?_
                        refine q_callVp (As := [.int (nI j), .int (nI h)]) (rest := []) (q0 := 0) hC hw hl (tX11_isScared l E a τ nh nj j h (by first | assumption | omega) (by first | assumption | omega) (by first | assumption | omega)) (q_cwV hC.2.2.2.2.1 ⟨rfl, rfl⟩ wk4_234 wk4_236 wks_3_1 wk1_12 wk4_237 hd_X11_isScared ⟨Nat.le_of_ble_eq_true rfl, Nat.le_of_ble_eq_true rfl⟩) rfl rfl rfl rfl rfl (Nat.le_of_ble_eq_true rfl) dX11_whyNot_175 (fun H locs hw => ?_)
                        have J187_47 : ∀ (w46 : Int32), w46 = (if m_scd (eM (τ 1)) (pB (eM (τ 1)) (nI j)) nj j h = true then 8 else 0) → ∀ (H : Heap) (locs : List Loc) (ls : Array Slot), Wst E (MW E a) (τ) A s.heap H locs → lv_has ls 4 [(0, .ref (a 70)), (1, .int (nI j)), (2, .int (nI h)), (3, .int (eM (τ 1) 5 j))] → W p l e ({ frames := 3, cells := 0, slots := 0, locals := 71 }) s m args below meth c H locs 0 0 Q (F0 m 187 ls [.int (w46)]) := by
                          intro w46 e47 H locs ls hw hl
                          subst e47
                          refine hret _ _ _ _ _ _ hw ?_ rfl dX11_whyNot_187
                          have hi3 : i = 3 := by omega
                          subst hi3
                          refine ⟨?_, rfl⟩
                          rw [why_tail c1 c2 hlt]
                          exact (wh8 (by simp [c1, c2, c4, c5, c9, c10, c31, c32, c42]) (by simp [c1, c2, c4, c5, c9, c10, c31, c32, c42])).symm
                        refine q_ifeq hC 186 cB dX11_whyNot_178 (by decide) (fun (c48 : ¬ (m_scd (eM (τ 1)) (pB (eM (τ 1)) (nI j)) nj j h = true)) => ?_) (fun (c48 : m_scd (eM (τ 1)) (pB (eM (τ 1)) (nI j)) nj j h = true) => ?_)
                        · refine lv_iconst (v := nI 0) hC.1 hC.2.1 dX11_whyNot_186 (by decide) ?_
                          exact J187_47 _ (by (rw [if_neg c48]) <;> rfl) _ _ _ hw (lv_sub hl [1, 2, 3, 0] rfl)
                        · refine lv_bipush (v := nI 8) hC.1 hC.2.1 dX11_whyNot_181 (by decide) ?_
                          refine lv_goto (tgt := 187) hC.1 hC.2.1 dX11_whyNot_183 (by decide) ?_
                          exact J187_47 _ (by (rw [if_pos c48]) <;> rfl) _ _ _ hw (lv_sub hl [1, 2, 3, 0] rfl)
                      · refine lv_bipush (v := nI 7) hC.1 hC.2.1 dX11_whyNot_169 (by decide) ?_
                        refine hret _ _ _ _ _ _ hw ?_ rfl dX11_whyNot_171
                        have hi3 : i = 3 := by omega
                        subst hi3
                        refine ⟨?_, rfl⟩
                        rw [why_tail c1 c2 hlt]
                        exact (wh7b (by simp [c1, c2, c4, c5, c9, c10, c31, c32, c42]) c32 c42).symm
              · refine lv_bipush (v := nI 6) hC.1 hC.2.1 dX11_whyNot_110 (by decide) ?_
                refine hret _ _ _ _ _ _ hw ?_ rfl dX11_whyNot_112
                have hi3 : i = 3 := by omega
                subst hi3
                refine ⟨?_, rfl⟩
                rw [why_tail c1 c2 hlt]
                exact (wh6 (by simp [c1, c2, c4, c5, c9]) c9).symm
            · refine lv_iload_n hC.1 hC.2.1 dX11_whyNot_96 rfl (lv_at hl 0 rfl) ?_
              refine lv_iconst (v := nI 2) hC.1 hC.2.1 dX11_whyNot_97 (by decide) ?_
              refine q_cmpne hC 113 cI dX11_whyNot_98 (by decide) (fun (c49 : ¬ ((eM (τ 1) 5 j) = 2)) => ?_) (fun (c49 : (eM (τ 1) 5 j) = 2) => ?_)
              · refine lv_iload_n hC.1 hC.2.1 dX11_whyNot_113 rfl (lv_at hl 0 rfl) ?_
                refine lv_iconst (v := nI 4) hC.1 hC.2.1 dX11_whyNot_114 (by decide) ?_
                refine q_cmpne hC 137 cI dX11_whyNot_115 (by decide) (fun (c50 : ¬ ((eM (τ 1) 5 j) = 4)) => ?_) (fun (c50 : (eM (τ 1) 5 j) = 4) => ?_)
                · refine lv_iload_n hC.1 hC.2.1 dX11_whyNot_137 rfl (lv_at hl 0 rfl) ?_
                  refine lv_iconst (v := nI 5) hC.1 hC.2.1 dX11_whyNot_138 (by decide) ?_
                  refine q_cmpne hC 172 cI dX11_whyNot_139 (by decide) (fun (c51 : ¬ ((eM (τ 1) 5 j) = 5)) => ?_) (fun (c51 : (eM (τ 1) 5 j) = 5) => ?_)
                  · refine lv_aload_n hC.1 hC.2.1 dX11_whyNot_172 rfl (lv_at hl 1 rfl) ?_
                    refine lv_iload_n hC.1 hC.2.1 dX11_whyNot_173 rfl (lv_at hl 2 rfl) ?_
                    refine lv_iload_n hC.1 hC.2.1 dX11_whyNot_174 rfl (lv_at hl 3 rfl) ?_
                    refine q_callVp (As := [.int (nI j), .int (nI h)]) (rest := []) (q0 := 0) hC hw hl (tX11_isScared l E a τ nh nj j h (by first | assumption | omega) (by first | assumption | omega) (by first | assumption | omega)) (q_cwV hC.2.2.2.2.1 ⟨rfl, rfl⟩ wk4_234 wk4_236 wks_3_1 wk1_12 wk4_237 hd_X11_isScared ⟨Nat.le_of_ble_eq_true rfl, Nat.le_of_ble_eq_true rfl⟩) rfl rfl rfl rfl rfl (Nat.le_of_ble_eq_true rfl) dX11_whyNot_175 (fun H locs hw => ?_)
                    have J187_56 : ∀ (w55 : Int32), w55 = (if m_scd (eM (τ 1)) (pB (eM (τ 1)) (nI j)) nj j h = true then 8 else 0) → ∀ (H : Heap) (locs : List Loc) (ls : Array Slot), Wst E (MW E a) (τ) A s.heap H locs → lv_has ls 4 [(0, .ref (a 70)), (1, .int (nI j)), (2, .int (nI h)), (3, .int (eM (τ 1) 5 j))] → W p l e ({ frames := 3, cells := 0, slots := 0, locals := 71 }) s m args below meth c H locs 0 0 Q (F0 m 187 ls [.int (w55)]) := by
                      intro w55 e56 H locs ls hw hl
                      subst e56
                      refine hret _ _ _ _ _ _ hw ?_ rfl dX11_whyNot_187
                      have hi3 : i = 3 := by omega
                      subst hi3
                      refine ⟨?_, rfl⟩
                      rw [why_tail c1 c2 hlt]
                      exact (wh8 (by simp [c1, c2, c4, c5, c49, c50, c51]) (by simp [c1, c2, c4, c5, c49, c50, c51])).symm
                    refine q_ifeq hC 186 cB dX11_whyNot_178 (by decide) (fun (c57 : ¬ (m_scd (eM (τ 1)) (pB (eM (τ 1)) (nI j)) nj j h = true)) => ?_) (fun (c57 : m_scd (eM (τ 1)) (pB (eM (τ 1)) (nI j)) nj j h = true) => ?_)
                    · refine lv_iconst (v := nI 0) hC.1 hC.2.1 dX11_whyNot_186 (by decide) ?_
                      exact J187_56 _ (by (rw [if_neg c57]) <;> rfl) _ _ _ hw (lv_sub hl [1, 2, 3, 0] rfl)
                    · refine lv_bipush (v := nI 8) hC.1 hC.2.1 dX11_whyNot_181 (by decide) ?_
                      refine lv_goto (tgt := 187) hC.1 hC.2.1 dX11_whyNot_183 (by decide) ?_
                      exact J187_56 _ (by (rw [if_pos c57]) <;> rfl) _ _ _ hw (lv_sub hl [1, 2, 3, 0] rfl)
                  · refine lv_aload_n hC.1 hC.2.1 dX11_whyNot_142 rfl (lv_at hl 1 rfl) ?_
                    refine lv_aload_n hC.1 hC.2.1 dX11_whyNot_143 rfl (lv_at hl 1 rfl) ?_
                    refine gf_X11_7 hC hw dX11_whyNot_144 ?_
                    refine lv_sipush (v := nI 234) hC.1 hC.2.1 dX11_whyNot_147 (by decide) ?_
                    refine lv_iload_n hC.1 hC.2.1 dX11_whyNot_150 rfl (lv_at hl 2 rfl) ?_
                    refine q_addN hC dX11_whyNot_151 ?_
                    refine al_M1 (v := eM (τ 1) 10 j) hC hw (by omega) (show _ = eM (τ 1) 10 j from congrArg (τ 1) (by omega)) dX11_whyNot_152 ?_
                    refine lv_aload_n hC.1 hC.2.1 dX11_whyNot_153 rfl (lv_at hl 1 rfl) ?_
                    refine gf_X11_7 hC hw dX11_whyNot_154 ?_
                    refine lv_bipush (v := nI 36) hC.1 hC.2.1 dX11_whyNot_157 (by decide) ?_
                    refine lv_iload_n hC.1 hC.2.1 dX11_whyNot_159 rfl (lv_at hl 3 rfl) ?_
                    refine q_addN hC dX11_whyNot_160 ?_
                    refine al_M1 (v := eM (τ 1) 2 h) hC hw (by omega) (show _ = eM (τ 1) 2 h from congrArg (τ 1) (by omega)) dX11_whyNot_161 ?_
                    refine lv_iload_n hC.1 hC.2.1 dX11_whyNot_162 rfl (lv_at hl 2 rfl) ?_
                    refine q_callVp (As := [.int (eM (τ 1) 10 j), .int (eM (τ 1) 2 h), .int (nI j)]) (rest := []) (q0 := 0) hC hw hl (tX11_groupIn l E a τ nh nj (eM (τ 1) 10 j) (eM (τ 1) 2 h) (nI j) (by first | assumption | omega)) (q_cwV hC.2.2.2.2.1 ⟨rfl, rfl⟩ wk4_230 wk4_232 wks_3_0 wk1_12 wk4_233 hd_X11_groupIn ⟨Nat.le_of_ble_eq_true rfl, Nat.le_of_ble_eq_true rfl⟩) rfl rfl rfl rfl rfl (Nat.le_of_ble_eq_true rfl) dX11_whyNot_163 (fun H locs hw => ?_)
                    refine q_ifne hC 172 cI dX11_whyNot_166 (by decide) (fun (c61 : ¬ ((m_gin (eM (τ 1)) (pB (eM (τ 1)) (nI j)) nj (eM (τ 1) 10 j) (eM (τ 1) 2 h)) = 0)) => ?_) (fun (c61 : (m_gin (eM (τ 1)) (pB (eM (τ 1)) (nI j)) nj (eM (τ 1) 10 j) (eM (τ 1) 2 h)) = 0) => ?_)
                    · refine lv_aload_n hC.1 hC.2.1 dX11_whyNot_172 rfl (lv_at hl 1 rfl) ?_
                      refine lv_iload_n hC.1 hC.2.1 dX11_whyNot_173 rfl (lv_at hl 2 rfl) ?_
                      refine lv_iload_n hC.1 hC.2.1 dX11_whyNot_174 rfl (lv_at hl 3 rfl) ?_
                      refine q_callVp (As := [.int (nI j), .int (nI h)]) (rest := []) (q0 := 0) hC hw hl (tX11_isScared l E a τ nh nj j h (by first | assumption | omega) (by first | assumption | omega) (by first | assumption | omega)) (q_cwV hC.2.2.2.2.1 ⟨rfl, rfl⟩ wk4_234 wk4_236 wks_3_1 wk1_12 wk4_237 hd_X11_isScared ⟨Nat.le_of_ble_eq_true rfl, Nat.le_of_ble_eq_true rfl⟩) rfl rfl rfl rfl rfl (Nat.le_of_ble_eq_true rfl) dX11_whyNot_175 (fun H locs hw => ?_)
                      have J187_66 : ∀ (w65 : Int32), w65 = (if m_scd (eM (τ 1)) (pB (eM (τ 1)) (nI j)) nj j h = true then 8 else 0) → ∀ (H : Heap) (locs : List Loc) (ls : Array Slot), Wst E (MW E a) (τ) A s.heap H locs → lv_has ls 4 [(0, .ref (a 70)), (1, .int (nI j)), (2, .int (nI h)), (3, .int (eM (τ 1) 5 j))] → W p l e ({ frames := 3, cells := 0, slots := 0, locals := 71 }) s m args below meth c H locs 0 0 Q (F0 m 187 ls [.int (w65)]) := by
                        intro w65 e66 H locs ls hw hl
                        subst e66
                        refine hret _ _ _ _ _ _ hw ?_ rfl dX11_whyNot_187
                        have hi3 : i = 3 := by omega
                        subst hi3
                        refine ⟨?_, rfl⟩
                        rw [why_tail c1 c2 hlt]
                        exact (wh8 (by simp [c1, c2, c4, c5, c49, c50, c51, c61]) (by simp [c1, c2, c4, c5, c49, c50, c51, c61])).symm
                      refine q_ifeq hC 186 cB dX11_whyNot_178 (by decide) (fun (c67 : ¬ (m_scd (eM (τ 1)) (pB (eM (τ 1)) (nI j)) nj j h = true)) => ?_) (fun (c67 : m_scd (eM (τ 1)) (pB (eM (τ 1)) (nI j)) nj j h = true) => ?_)
                      · refine lv_iconst (v := nI 0) hC.1 hC.2.1 dX11_whyNot_186 (by decide) ?_
                        exact J187_66 _ (by (rw [if_neg c67]) <;> rfl) _ _ _ hw (lv_sub hl [1, 2, 3, 0] rfl)
                      · refine lv_bipush (v := nI 8) hC.1 hC.2.1 dX11_whyNot_181 (by decide) ?_
                        refine lv_goto (tgt := 187) hC.1 hC.2.1 dX11_whyNot_183 (by decide) ?_
                        exact J187_66 _ (by (rw [if_pos c67]) <;> rfl) _ _ _ hw (lv_sub hl [1, 2, 3, 0] rfl)
                    · refine lv_bipush (v := nI 7) hC.1 hC.2.1 dX11_whyNot_169 (by decide) ?_
                      refine hret _ _ _ _ _ _ hw ?_ rfl dX11_whyNot_171
                      have hi3 : i = 3 := by omega
                      subst hi3
                      refine ⟨?_, rfl⟩
                      rw [why_tail c1 c2 hlt]
                      exact (wh7b (by simp [c1, c2, c4, c5, c49, c50, c51, c61]) c51 c61).symm
                · refine lv_aload_n hC.1 hC.2.1 dX11_whyNot_118 rfl (lv_at hl 1 rfl) ?_
                  refine lv_aload_n hC.1 hC.2.1 dX11_whyNot_119 rfl (lv_at hl 1 rfl) ?_
                  refine gf_X11_7 hC hw dX11_whyNot_120 ?_
                  refine lv_sipush (v := nI 234) hC.1 hC.2.1 dX11_whyNot_123 (by decide) ?_
                  refine lv_iload_n hC.1 hC.2.1 dX11_whyNot_126 rfl (lv_at hl 2 rfl) ?_
                  refine q_addN hC dX11_whyNot_127 ?_
                  refine al_M1 (v := eM (τ 1) 10 j) hC hw (by omega) (show _ = eM (τ 1) 10 j from congrArg (τ 1) (by omega)) dX11_whyNot_128 ?_
                  refine lv_iload_n hC.1 hC.2.1 dX11_whyNot_129 rfl (lv_at hl 3 rfl) ?_
                  refine lv_iload_n hC.1 hC.2.1 dX11_whyNot_130 rfl (lv_at hl 2 rfl) ?_
                  refine q_callVp (As := [.int (eM (τ 1) 10 j), .int (nI h), .int (nI j)]) (rest := []) (q0 := 0) hC hw hl (tX11_groupOn l E a τ nh nj (eM (τ 1) 10 j) h (nI j) (by first | assumption | omega) (by first | assumption | omega)) (q_cwV hC.2.2.2.2.1 ⟨rfl, rfl⟩ wk4_226 wk4_228 wks_2_15 wk1_12 wk4_229 hd_X11_groupOn ⟨Nat.le_of_ble_eq_true rfl, Nat.le_of_ble_eq_true rfl⟩) rfl rfl rfl rfl rfl (Nat.le_of_ble_eq_true rfl) dX11_whyNot_131 (fun H locs hw => ?_)
                  refine q_ifgt hC 169 cI dX11_whyNot_134 (by decide) (fun (c71 : 0 < (m_gon (eM (τ 1)) (pB (eM (τ 1)) (nI j)) nj (eM (τ 1) 10 j) h)) => ?_) (fun (c71 : ¬ (0 < (m_gon (eM (τ 1)) (pB (eM (τ 1)) (nI j)) nj (eM (τ 1) 10 j) h))) => ?_)
                  · refine lv_bipush (v := nI 7) hC.1 hC.2.1 dX11_whyNot_169 (by decide) ?_
                    refine hret _ _ _ _ _ _ hw ?_ rfl dX11_whyNot_171
                    have hi3 : i = 3 := by omega
                    subst hi3
                    refine ⟨?_, rfl⟩
                    rw [why_tail c1 c2 hlt]
                    exact (wh7a (by simp [c1, c2, c4, c5, c49, c50, c71]) c50 c71).symm
                  · refine lv_iload_n hC.1 hC.2.1 dX11_whyNot_137 rfl (lv_at hl 0 rfl) ?_
                    refine lv_iconst (v := nI 5) hC.1 hC.2.1 dX11_whyNot_138 (by decide) ?_
                    refine q_cmpne hC 172 cI dX11_whyNot_139 (by decide) (fun (c72 : ¬ ((eM (τ 1) 5 j) = 5)) => ?_) (fun (c72 : (eM (τ 1) 5 j) = 5) => ?_)
                    · refine lv_aload_n hC.1 hC.2.1 dX11_whyNot_172 rfl (lv_at hl 1 rfl) ?_
                      refine lv_iload_n hC.1 hC.2.1 dX11_whyNot_173 rfl (lv_at hl 2 rfl) ?_
                      refine lv_iload_n hC.1 hC.2.1 dX11_whyNot_174 rfl (lv_at hl 3 rfl) ?_
                      refine q_callVp (As := [.int (nI j), .int (nI h)]) (rest := []) (q0 := 0) hC hw hl (tX11_isScared l E a τ nh nj j h (by first | assumption | omega) (by first | assumption | omega) (by first | assumption | omega)) (q_cwV hC.2.2.2.2.1 ⟨rfl, rfl⟩ wk4_234 wk4_236 wks_3_1 wk1_12 wk4_237 hd_X11_isScared ⟨Nat.le_of_ble_eq_true rfl, Nat.le_of_ble_eq_true rfl⟩) rfl rfl rfl rfl rfl (Nat.le_of_ble_eq_true rfl) dX11_whyNot_175 (fun H locs hw => ?_)
                      have J187_77 : ∀ (w76 : Int32), w76 = (if m_scd (eM (τ 1)) (pB (eM (τ 1)) (nI j)) nj j h = true then 8 else 0) → ∀ (H : Heap) (locs : List Loc) (ls : Array Slot), Wst E (MW E a) (τ) A s.heap H locs → lv_has ls 4 [(0, .ref (a 70)), (1, .int (nI j)), (2, .int (nI h)), (3, .int (eM (τ 1) 5 j))] → W p l e ({ frames := 3, cells := 0, slots := 0, locals := 71 }) s m args below meth c H locs 0 0 Q (F0 m 187 ls [.int (w76)]) := by
                        intro w76 e77 H locs ls hw hl
                        subst e77
                        refine hret _ _ _ _ _ _ hw ?_ rfl dX11_whyNot_187
                        have hi3 : i = 3 := by omega
                        subst hi3
                        refine ⟨?_, rfl⟩
                        rw [why_tail c1 c2 hlt]
                        exact (wh8 (by simp [c1, c2, c4, c5, c49, c50, c71, c72]) (by simp [c1, c2, c4, c5, c49, c50, c71, c72])).symm
                      refine q_ifeq hC 186 cB dX11_whyNot_178 (by decide) (fun (c78 : ¬ (m_scd (eM (τ 1)) (pB (eM (τ 1)) (nI j)) nj j h = true)) => ?_) (fun (c78 : m_scd (eM (τ 1)) (pB (eM (τ 1)) (nI j)) nj j h = true) => ?_)
                      · refine lv_iconst (v := nI 0) hC.1 hC.2.1 dX11_whyNot_186 (by decide) ?_
                        exact J187_77 _ (by (rw [if_neg c78]) <;> rfl) _ _ _ hw (lv_sub hl [1, 2, 3, 0] rfl)
                      · refine lv_bipush (v := nI 8) hC.1 hC.2.1 dX11_whyNot_181 (by decide) ?_
                        refine lv_goto (tgt := 187) hC.1 hC.2.1 dX11_whyNot_183 (by decide) ?_
                        exact J187_77 _ (by (rw [if_pos c78]) <;> rfl) _ _ _ hw (lv_sub hl [1, 2, 3, 0] rfl)
                    · refine lv_aload_n hC.1 hC.2.1 dX11_whyNot_142 rfl (lv_at hl 1 rfl) ?_
                      refine lv_aload_n hC.1 hC.2.1 dX11_whyNot_143 rfl (lv_at hl 1 rfl) ?_
                      refine gf_X11_7 hC hw dX11_whyNot_144 ?_
                      refine lv_sipush (v := nI 234) hC.1 hC.2.1 dX11_whyNot_147 (by decide) ?_
                      refine lv_iload_n hC.1 hC.2.1 dX11_whyNot_150 rfl (lv_at hl 2 rfl) ?_
                      refine q_addN hC dX11_whyNot_151 ?_
                      refine al_M1 (v := eM (τ 1) 10 j) hC hw (by omega) (show _ = eM (τ 1) 10 j from congrArg (τ 1) (by omega)) dX11_whyNot_152 ?_
                      refine lv_aload_n hC.1 hC.2.1 dX11_whyNot_153 rfl (lv_at hl 1 rfl) ?_
                      refine gf_X11_7 hC hw dX11_whyNot_154 ?_
                      refine lv_bipush (v := nI 36) hC.1 hC.2.1 dX11_whyNot_157 (by decide) ?_
                      refine lv_iload_n hC.1 hC.2.1 dX11_whyNot_159 rfl (lv_at hl 3 rfl) ?_
                      refine q_addN hC dX11_whyNot_160 ?_
                      refine al_M1 (v := eM (τ 1) 2 h) hC hw (by omega) (show _ = eM (τ 1) 2 h from congrArg (τ 1) (by omega)) dX11_whyNot_161 ?_
                      refine lv_iload_n hC.1 hC.2.1 dX11_whyNot_162 rfl (lv_at hl 2 rfl) ?_
                      refine q_callVp (As := [.int (eM (τ 1) 10 j), .int (eM (τ 1) 2 h), .int (nI j)]) (rest := []) (q0 := 0) hC hw hl (tX11_groupIn l E a τ nh nj (eM (τ 1) 10 j) (eM (τ 1) 2 h) (nI j) (by first | assumption | omega)) (q_cwV hC.2.2.2.2.1 ⟨rfl, rfl⟩ wk4_230 wk4_232 wks_3_0 wk1_12 wk4_233 hd_X11_groupIn ⟨Nat.le_of_ble_eq_true rfl, Nat.le_of_ble_eq_true rfl⟩) rfl rfl rfl rfl rfl (Nat.le_of_ble_eq_true rfl) dX11_whyNot_163 (fun H locs hw => ?_)
                      refine q_ifne hC 172 cI dX11_whyNot_166 (by decide) (fun (c82 : ¬ ((m_gin (eM (τ 1)) (pB (eM (τ 1)) (nI j)) nj (eM (τ 1) 10 j) (eM (τ 1) 2 h)) = 0)) => ?_) (fun (c82 : (m_gin (eM (τ 1)) (pB (eM (τ 1)) (nI j)) nj (eM (τ 1) 10 j) (eM (τ 1) 2 h)) = 0) => ?_)
                      · refine lv_aload_n hC.1 hC.2.1 dX11_whyNot_172 rfl (lv_at hl 1 rfl) ?_
                        refine lv_iload_n hC.1 hC.2.1 dX11_whyNot_173 rfl (lv_at hl 2 rfl) ?_
                        refine lv_iload_n hC.1 hC.2.1 dX11_whyNot_174 rfl (lv_at hl 3 rfl) ?_
                        refine q_callVp (As := [.int (nI j), .int (nI h)]) (rest := []) (q0 := 0) hC hw hl (tX11_isScared l E a τ nh nj j h (by first | assumption | omega) (by first | assumption | omega) (by first | assumption | omega)) (q_cwV hC.2.2.2.2.1 ⟨rfl, rfl⟩ wk4_234 wk4_236 wks_3_1 wk1_12 wk4_237 hd_X11_isScared ⟨Nat.le_of_ble_eq_true rfl, Nat.le_of_ble_eq_true rfl⟩) rfl rfl rfl rfl rfl (Nat.le_of_ble_eq_true rfl) dX11_whyNot_175 (fun H locs hw => ?_)
                        have J187_87 : ∀ (w86 : Int32), w86 = (if m_scd (eM (τ 1)) (pB (eM (τ 1)) (nI j)) nj j h = true then 8 else 0) → ∀ (H : Heap) (locs : List Loc) (ls : Array Slot), Wst E (MW E a) (τ) A s.heap H locs → lv_has ls 4 [(0, .ref (a 70)), (1, .int (nI j)), (2, .int (nI h)), (3, .int (eM (τ 1) 5 j))] → W p l e ({ frames := 3, cells := 0, slots := 0, locals := 71 }) s m args below meth c H locs 0 0 Q (F0 m 187 ls [.int (w86)]) := by
                          intro w86 e87 H locs ls hw hl
                          subst e87
                          refine hret _ _ _ _ _ _ hw ?_ rfl dX11_whyNot_187
                          have hi3 : i = 3 := by omega
                          subst hi3
                          refine ⟨?_, rfl⟩
                          rw [why_tail c1 c2 hlt]
                          exact (wh8 (by simp [c1, c2, c4, c5, c49, c50, c71, c72, c82]) (by simp [c1, c2, c4, c5, c49, c50, c71, c72, c82])).symm
                        refine q_ifeq hC 186 cB dX11_whyNot_178 (by decide) (fun (c88 : ¬ (m_scd (eM (τ 1)) (pB (eM (τ 1)) (nI j)) nj j h = true)) => ?_) (fun (c88 : m_scd (eM (τ 1)) (pB (eM (τ 1)) (nI j)) nj j h = true) => ?_)
                        · refine lv_iconst (v := nI 0) hC.1 hC.2.1 dX11_whyNot_186 (by decide) ?_
                          exact J187_87 _ (by (rw [if_neg c88]) <;> rfl) _ _ _ hw (lv_sub hl [1, 2, 3, 0] rfl)
                        · refine lv_bipush (v := nI 8) hC.1 hC.2.1 dX11_whyNot_181 (by decide) ?_
                          refine lv_goto (tgt := 187) hC.1 hC.2.1 dX11_whyNot_183 (by decide) ?_
                          exact J187_87 _ (by (rw [if_pos c88]) <;> rfl) _ _ _ hw (lv_sub hl [1, 2, 3, 0] rfl)
                      · refine lv_bipush (v := nI 7) hC.1 hC.2.1 dX11_whyNot_169 (by decide) ?_
                        refine hret _ _ _ _ _ _ hw ?_ rfl dX11_whyNot_171
                        have hi3 : i = 3 := by omega
                        subst hi3
                        refine ⟨?_, rfl⟩
                        rw [why_tail c1 c2 hlt]
                        exact (wh7b (by simp [c1, c2, c4, c5, c49, c50, c71, c72, c82]) c72 c82).symm
              · refine lv_aload_n hC.1 hC.2.1 dX11_whyNot_101 rfl (lv_at hl 1 rfl) ?_
                refine lv_iload_n hC.1 hC.2.1 dX11_whyNot_102 rfl (lv_at hl 2 rfl) ?_
                refine lv_iload_n hC.1 hC.2.1 dX11_whyNot_103 rfl (lv_at hl 3 rfl) ?_
                refine q_callVp (As := [.int (nI j), .int (nI h)]) (rest := []) (q0 := 0) hC hw hl (tX11_isCrowded l E a τ nh nj j h (by first | assumption | omega) (by first | assumption | omega) (by first | assumption | omega)) (q_cwV hC.2.2.2.2.1 ⟨rfl, rfl⟩ wk4_214 wk4_216 wks_2_12 wk1_12 wk4_217 hd_X11_isCrowded ⟨Nat.le_of_ble_eq_true rfl, Nat.le_of_ble_eq_true rfl⟩) rfl rfl rfl rfl rfl (Nat.le_of_ble_eq_true rfl) dX11_whyNot_104 (fun H locs hw => ?_)
                refine q_ifeq hC 113 cB dX11_whyNot_107 (by decide) (fun (c92 : ¬ (m_crd (eM (τ 1)) (pB (eM (τ 1)) (nI j)) nh nj j h = true)) => ?_) (fun (c92 : m_crd (eM (τ 1)) (pB (eM (τ 1)) (nI j)) nh nj j h = true) => ?_)
                · refine lv_iload_n hC.1 hC.2.1 dX11_whyNot_113 rfl (lv_at hl 0 rfl) ?_
                  refine lv_iconst (v := nI 4) hC.1 hC.2.1 dX11_whyNot_114 (by decide) ?_
                  refine q_cmpne hC 137 cI dX11_whyNot_115 (by decide) (fun (c93 : ¬ ((eM (τ 1) 5 j) = 4)) => ?_) (fun (c93 : (eM (τ 1) 5 j) = 4) => ?_)
                  · refine lv_iload_n hC.1 hC.2.1 dX11_whyNot_137 rfl (lv_at hl 0 rfl) ?_
                    refine lv_iconst (v := nI 5) hC.1 hC.2.1 dX11_whyNot_138 (by decide) ?_
                    refine q_cmpne hC 172 cI dX11_whyNot_139 (by decide) (fun (c94 : ¬ ((eM (τ 1) 5 j) = 5)) => ?_) (fun (c94 : (eM (τ 1) 5 j) = 5) => ?_)
                    · refine lv_aload_n hC.1 hC.2.1 dX11_whyNot_172 rfl (lv_at hl 1 rfl) ?_
                      refine lv_iload_n hC.1 hC.2.1 dX11_whyNot_173 rfl (lv_at hl 2 rfl) ?_
                      refine lv_iload_n hC.1 hC.2.1 dX11_whyNot_174 rfl (lv_at hl 3 rfl) ?_
                      refine q_callVp (As := [.int (nI j), .int (nI h)]) (rest := []) (q0 := 0) hC hw hl (tX11_isScared l E a τ nh nj j h (by first | assumption | omega) (by first | assumption | omega) (by first | assumption | omega)) (q_cwV hC.2.2.2.2.1 ⟨rfl, rfl⟩ wk4_234 wk4_236 wks_3_1 wk1_12 wk4_237 hd_X11_isScared ⟨Nat.le_of_ble_eq_true rfl, Nat.le_of_ble_eq_true rfl⟩) rfl rfl rfl rfl rfl (Nat.le_of_ble_eq_true rfl) dX11_whyNot_175 (fun H locs hw => ?_)
                      have J187_99 : ∀ (w98 : Int32), w98 = (if m_scd (eM (τ 1)) (pB (eM (τ 1)) (nI j)) nj j h = true then 8 else 0) → ∀ (H : Heap) (locs : List Loc) (ls : Array Slot), Wst E (MW E a) (τ) A s.heap H locs → lv_has ls 4 [(0, .ref (a 70)), (1, .int (nI j)), (2, .int (nI h)), (3, .int (eM (τ 1) 5 j))] → W p l e ({ frames := 3, cells := 0, slots := 0, locals := 71 }) s m args below meth c H locs 0 0 Q (F0 m 187 ls [.int (w98)]) := by
                        intro w98 e99 H locs ls hw hl
                        subst e99
                        refine hret _ _ _ _ _ _ hw ?_ rfl dX11_whyNot_187
                        have hi3 : i = 3 := by omega
                        subst hi3
                        refine ⟨?_, rfl⟩
                        rw [why_tail c1 c2 hlt]
                        exact (wh8 (by simp [c1, c2, c4, c5, c49, c92, c93, c94]) (by simp [c1, c2, c4, c5, c49, c92, c93, c94])).symm
                      refine q_ifeq hC 186 cB dX11_whyNot_178 (by decide) (fun (c100 : ¬ (m_scd (eM (τ 1)) (pB (eM (τ 1)) (nI j)) nj j h = true)) => ?_) (fun (c100 : m_scd (eM (τ 1)) (pB (eM (τ 1)) (nI j)) nj j h = true) => ?_)
                      · refine lv_iconst (v := nI 0) hC.1 hC.2.1 dX11_whyNot_186 (by decide) ?_
                        exact J187_99 _ (by (rw [if_neg c100]) <;> rfl) _ _ _ hw (lv_sub hl [1, 2, 3, 0] rfl)
                      · refine lv_bipush (v := nI 8) hC.1 hC.2.1 dX11_whyNot_181 (by decide) ?_
                        refine lv_goto (tgt := 187) hC.1 hC.2.1 dX11_whyNot_183 (by decide) ?_
                        exact J187_99 _ (by (rw [if_pos c100]) <;> rfl) _ _ _ hw (lv_sub hl [1, 2, 3, 0] rfl)
                    · refine lv_aload_n hC.1 hC.2.1 dX11_whyNot_142 rfl (lv_at hl 1 rfl) ?_
                      refine lv_aload_n hC.1 hC.2.1 dX11_whyNot_143 rfl (lv_at hl 1 rfl) ?_
                      refine gf_X11_7 hC hw dX11_whyNot_144 ?_
                      refine lv_sipush (v := nI 234) hC.1 hC.2.1 dX11_whyNot_147 (by decide) ?_
                      refine lv_iload_n hC.1 hC.2.1 dX11_whyNot_150 rfl (lv_at hl 2 rfl) ?_
                      refine q_addN hC dX11_whyNot_151 ?_
                      refine al_M1 (v := eM (τ 1) 10 j) hC hw (by omega) (show _ = eM (τ 1) 10 j from congrArg (τ 1) (by omega)) dX11_whyNot_152 ?_
                      refine lv_aload_n hC.1 hC.2.1 dX11_whyNot_153 rfl (lv_at hl 1 rfl) ?_
                      refine gf_X11_7 hC hw dX11_whyNot_154 ?_
                      refine lv_bipush (v := nI 36) hC.1 hC.2.1 dX11_whyNot_157 (by decide) ?_
                      refine lv_iload_n hC.1 hC.2.1 dX11_whyNot_159 rfl (lv_at hl 3 rfl) ?_
                      refine q_addN hC dX11_whyNot_160 ?_
                      refine al_M1 (v := eM (τ 1) 2 h) hC hw (by omega) (show _ = eM (τ 1) 2 h from congrArg (τ 1) (by omega)) dX11_whyNot_161 ?_
                      refine lv_iload_n hC.1 hC.2.1 dX11_whyNot_162 rfl (lv_at hl 2 rfl) ?_
                      refine q_callVp (As := [.int (eM (τ 1) 10 j), .int (eM (τ 1) 2 h), .int (nI j)]) (rest := []) (q0 := 0) hC hw hl (tX11_groupIn l E a τ nh nj (eM (τ 1) 10 j) (eM (τ 1) 2 h) (nI j) (by first | assumption | omega)) (q_cwV hC.2.2.2.2.1 ⟨rfl, rfl⟩ wk4_230 wk4_232 wks_3_0 wk1_12 wk4_233 hd_X11_groupIn ⟨Nat.le_of_ble_eq_true rfl, Nat.le_of_ble_eq_true rfl⟩) rfl rfl rfl rfl rfl (Nat.le_of_ble_eq_true rfl) dX11_whyNot_163 (fun H locs hw => ?_)
                      refine q_ifne hC 172 cI dX11_whyNot_166 (by decide) (fun (c104 : ¬ ((m_gin (eM (τ 1)) (pB (eM (τ 1)) (nI j)) nj (eM (τ 1) 10 j) (eM (τ 1) 2 h)) = 0)) => ?_) (fun (c104 : (m_gin (eM (τ 1)) (pB (eM (τ 1)) (nI j)) nj (eM (τ 1) 10 j) (eM (τ 1) 2 h)) = 0) => ?_)
                      · refine lv_aload_n hC.1 hC.2.1 dX11_whyNot_172 rfl (lv_at hl 1 rfl) ?_
                        refine lv_iload_n hC.1 hC.2.1 dX11_whyNot_173 rfl (lv_at hl 2 rfl) ?_
                        refine lv_iload_n hC.1 hC.2.1 dX11_whyNot_174 rfl (lv_at hl 3 rfl) ?_
                        refine q_callVp (As := [.int (nI j), .int (nI h)]) (rest := []) (q0 := 0) hC hw hl (tX11_isScared l E a τ nh nj j h (by first | assumption | omega) (by first | assumption | omega) (by first | assumption | omega)) (q_cwV hC.2.2.2.2.1 ⟨rfl, rfl⟩ wk4_234 wk4_236 wks_3_1 wk1_12 wk4_237 hd_X11_isScared ⟨Nat.le_of_ble_eq_true rfl, Nat.le_of_ble_eq_true rfl⟩) rfl rfl rfl rfl rfl (Nat.le_of_ble_eq_true rfl) dX11_whyNot_175 (fun H locs hw => ?_)
                        have J187_109 : ∀ (w108 : Int32), w108 = (if m_scd (eM (τ 1)) (pB (eM (τ 1)) (nI j)) nj j h = true then 8 else 0) → ∀ (H : Heap) (locs : List Loc) (ls : Array Slot), Wst E (MW E a) (τ) A s.heap H locs → lv_has ls 4 [(0, .ref (a 70)), (1, .int (nI j)), (2, .int (nI h)), (3, .int (eM (τ 1) 5 j))] → W p l e ({ frames := 3, cells := 0, slots := 0, locals := 71 }) s m args below meth c H locs 0 0 Q (F0 m 187 ls [.int (w108)]) := by
                          intro w108 e109 H locs ls hw hl
                          subst e109
                          refine hret _ _ _ _ _ _ hw ?_ rfl dX11_whyNot_187
                          have hi3 : i = 3 := by omega
                          subst hi3
                          refine ⟨?_, rfl⟩
                          rw [why_tail c1 c2 hlt]
                          exact (wh8 (by simp [c1, c2, c4, c5, c49, c92, c93, c94, c104]) (by simp [c1, c2, c4, c5, c49, c92, c93, c94, c104])).symm
                        refine q_ifeq hC 186 cB dX11_whyNot_178 (by decide) (fun (c110 : ¬ (m_scd (eM (τ 1)) (pB (eM (τ 1)) (nI j)) nj j h = true)) => ?_) (fun (c110 : m_scd (eM (τ 1)) (pB (eM (τ 1)) (nI j)) nj j h = true) => ?_)
                        · refine lv_iconst (v := nI 0) hC.1 hC.2.1 dX11_whyNot_186 (by decide) ?_
                          exact J187_109 _ (by (rw [if_neg c110]) <;> rfl) _ _ _ hw (lv_sub hl [1, 2, 3, 0] rfl)
                        · refine lv_bipush (v := nI 8) hC.1 hC.2.1 dX11_whyNot_181 (by decide) ?_
                          refine lv_goto (tgt := 187) hC.1 hC.2.1 dX11_whyNot_183 (by decide) ?_
                          exact J187_109 _ (by (rw [if_pos c110]) <;> rfl) _ _ _ hw (lv_sub hl [1, 2, 3, 0] rfl)
                      · refine lv_bipush (v := nI 7) hC.1 hC.2.1 dX11_whyNot_169 (by decide) ?_
                        refine hret _ _ _ _ _ _ hw ?_ rfl dX11_whyNot_171
                        have hi3 : i = 3 := by omega
                        subst hi3
                        refine ⟨?_, rfl⟩
                        rw [why_tail c1 c2 hlt]
                        exact (wh7b (by simp [c1, c2, c4, c5, c49, c92, c93, c94, c104]) c94 c104).symm
                  · refine lv_aload_n hC.1 hC.2.1 dX11_whyNot_118 rfl (lv_at hl 1 rfl) ?_
                    refine lv_aload_n hC.1 hC.2.1 dX11_whyNot_119 rfl (lv_at hl 1 rfl) ?_
                    refine gf_X11_7 hC hw dX11_whyNot_120 ?_
                    refine lv_sipush (v := nI 234) hC.1 hC.2.1 dX11_whyNot_123 (by decide) ?_
                    refine lv_iload_n hC.1 hC.2.1 dX11_whyNot_126 rfl (lv_at hl 2 rfl) ?_
                    refine q_addN hC dX11_whyNot_127 ?_
                    refine al_M1 (v := eM (τ 1) 10 j) hC hw (by omega) (show _ = eM (τ 1) 10 j from congrArg (τ 1) (by omega)) dX11_whyNot_128 ?_
                    refine lv_iload_n hC.1 hC.2.1 dX11_whyNot_129 rfl (lv_at hl 3 rfl) ?_
                    refine lv_iload_n hC.1 hC.2.1 dX11_whyNot_130 rfl (lv_at hl 2 rfl) ?_
                    refine q_callVp (As := [.int (eM (τ 1) 10 j), .int (nI h), .int (nI j)]) (rest := []) (q0 := 0) hC hw hl (tX11_groupOn l E a τ nh nj (eM (τ 1) 10 j) h (nI j) (by first | assumption | omega) (by first | assumption | omega)) (q_cwV hC.2.2.2.2.1 ⟨rfl, rfl⟩ wk4_226 wk4_228 wks_2_15 wk1_12 wk4_229 hd_X11_groupOn ⟨Nat.le_of_ble_eq_true rfl, Nat.le_of_ble_eq_true rfl⟩) rfl rfl rfl rfl rfl (Nat.le_of_ble_eq_true rfl) dX11_whyNot_131 (fun H locs hw => ?_)
                    refine q_ifgt hC 169 cI dX11_whyNot_134 (by decide) (fun (c114 : 0 < (m_gon (eM (τ 1)) (pB (eM (τ 1)) (nI j)) nj (eM (τ 1) 10 j) h)) => ?_) (fun (c114 : ¬ (0 < (m_gon (eM (τ 1)) (pB (eM (τ 1)) (nI j)) nj (eM (τ 1) 10 j) h))) => ?_)
                    · refine lv_bipush (v := nI 7) hC.1 hC.2.1 dX11_whyNot_169 (by decide) ?_
                      refine hret _ _ _ _ _ _ hw ?_ rfl dX11_whyNot_171
                      have hi3 : i = 3 := by omega
                      subst hi3
                      refine ⟨?_, rfl⟩
                      rw [why_tail c1 c2 hlt]
                      exact (wh7a (by simp [c1, c2, c4, c5, c49, c92, c93, c114]) c93 c114).symm
                    · refine lv_iload_n hC.1 hC.2.1 dX11_whyNot_137 rfl (lv_at hl 0 rfl) ?_
                      refine lv_iconst (v := nI 5) hC.1 hC.2.1 dX11_whyNot_138 (by decide) ?_
                      refine q_cmpne hC 172 cI dX11_whyNot_139 (by decide) (fun (c115 : ¬ ((eM (τ 1) 5 j) = 5)) => ?_) (fun (c115 : (eM (τ 1) 5 j) = 5) => ?_)
                      · refine lv_aload_n hC.1 hC.2.1 dX11_whyNot_172 rfl (lv_at hl 1 rfl) ?_
                        refine lv_iload_n hC.1 hC.2.1 dX11_whyNot_173 rfl (lv_at hl 2 rfl) ?_
                        refine lv_iload_n hC.1 hC.2.1 dX11_whyNot_174 rfl (lv_at hl 3 rfl) ?_
                        refine q_callVp (As := [.int (nI j), .int (nI h)]) (rest := []) (q0 := 0) hC hw hl (tX11_isScared l E a τ nh nj j h (by first | assumption | omega) (by first | assumption | omega) (by first | assumption | omega)) (q_cwV hC.2.2.2.2.1 ⟨rfl, rfl⟩ wk4_234 wk4_236 wks_3_1 wk1_12 wk4_237 hd_X11_isScared ⟨Nat.le_of_ble_eq_true rfl, Nat.le_of_ble_eq_true rfl⟩) rfl rfl rfl rfl rfl (Nat.le_of_ble_eq_true rfl) dX11_whyNot_175 (fun H locs hw => ?_)
                        have J187_120 : ∀ (w119 : Int32), w119 = (if m_scd (eM (τ 1)) (pB (eM (τ 1)) (nI j)) nj j h = true then 8 else 0) → ∀ (H : Heap) (locs : List Loc) (ls : Array Slot), Wst E (MW E a) (τ) A s.heap H locs → lv_has ls 4 [(0, .ref (a 70)), (1, .int (nI j)), (2, .int (nI h)), (3, .int (eM (τ 1) 5 j))] → W p l e ({ frames := 3, cells := 0, slots := 0, locals := 71 }) s m args below meth c H locs 0 0 Q (F0 m 187 ls [.int (w119)]) := by
                          intro w119 e120 H locs ls hw hl
                          subst e120
                          refine hret _ _ _ _ _ _ hw ?_ rfl dX11_whyNot_187
                          have hi3 : i = 3 := by omega
                          subst hi3
                          refine ⟨?_, rfl⟩
                          rw [why_tail c1 c2 hlt]
                          exact (wh8 (by simp [c1, c2, c4, c5, c49, c92, c93, c114, c115]) (by simp [c1, c2, c4, c5, c49, c92, c93, c114, c115])).symm
                        refine q_ifeq hC 186 cB dX11_whyNot_178 (by decide) (fun (c121 : ¬ (m_scd (eM (τ 1)) (pB (eM (τ 1)) (nI j)) nj j h = true)) => ?_) (fun (c121 : m_scd (eM (τ 1)) (pB (eM (τ 1)) (nI j)) nj j h = true) => ?_)
                        · refine lv_iconst (v := nI 0) hC.1 hC.2.1 dX11_whyNot_186 (by decide) ?_
                          exact J187_120 _ (by (rw [if_neg c121]) <;> rfl) _ _ _ hw (lv_sub hl [1, 2, 3, 0] rfl)
                        · refine lv_bipush (v := nI 8) hC.1 hC.2.1 dX11_whyNot_181 (by decide) ?_
                          refine lv_goto (tgt := 187) hC.1 hC.2.1 dX11_whyNot_183 (by decide) ?_
                          exact J187_120 _ (by (rw [if_pos c121]) <;> rfl) _ _ _ hw (lv_sub hl [1, 2, 3, 0] rfl)
                      · refine lv_aload_n hC.1 hC.2.1 dX11_whyNot_142 rfl (lv_at hl 1 rfl) ?_
                        refine lv_aload_n hC.1 hC.2.1 dX11_whyNot_143 rfl (lv_at hl 1 rfl) ?_
                        refine gf_X11_7 hC hw dX11_whyNot_144 ?_
                        refine lv_sipush (v := nI 234) hC.1 hC.2.1 dX11_whyNot_147 (by decide) ?_
                        refine lv_iload_n hC.1 hC.2.1 dX11_whyNot_150 rfl (lv_at hl 2 rfl) ?_
                        refine q_addN hC dX11_whyNot_151 ?_
                        refine al_M1 (v := eM (τ 1) 10 j) hC hw (by omega) (show _ = eM (τ 1) 10 j from congrArg (τ 1) (by omega)) dX11_whyNot_152 ?_
                        refine lv_aload_n hC.1 hC.2.1 dX11_whyNot_153 rfl (lv_at hl 1 rfl) ?_
                        refine gf_X11_7 hC hw dX11_whyNot_154 ?_
                        refine lv_bipush (v := nI 36) hC.1 hC.2.1 dX11_whyNot_157 (by decide) ?_
                        refine lv_iload_n hC.1 hC.2.1 dX11_whyNot_159 rfl (lv_at hl 3 rfl) ?_
                        refine q_addN hC dX11_whyNot_160 ?_
                        refine al_M1 (v := eM (τ 1) 2 h) hC hw (by omega) (show _ = eM (τ 1) 2 h from congrArg (τ 1) (by omega)) dX11_whyNot_161 ?_
                        refine lv_iload_n hC.1 hC.2.1 dX11_whyNot_162 rfl (lv_at hl 2 rfl) ?_
                        refine q_callVp (As := [.int (eM (τ 1) 10 j), .int (eM (τ 1) 2 h), .int (nI j)]) (rest := []) (q0 := 0) hC hw hl (tX11_groupIn l E a τ nh nj (eM (τ 1) 10 j) (eM (τ 1) 2 h) (nI j) (by first | assumption | omega)) (q_cwV hC.2.2.2.2.1 ⟨rfl, rfl⟩ wk4_230 wk4_232 wks_3_0 wk1_12 wk4_233 hd_X11_groupIn ⟨Nat.le_of_ble_eq_true rfl, Nat.le_of_ble_eq_true rfl⟩) rfl rfl rfl rfl rfl (Nat.le_of_ble_eq_true rfl) dX11_whyNot_163 (fun H locs hw => ?_)
                        refine q_ifne hC 172 cI dX11_whyNot_166 (by decide) (fun (c125 : ¬ ((m_gin (eM (τ 1)) (pB (eM (τ 1)) (nI j)) nj (eM (τ 1) 10 j) (eM (τ 1) 2 h)) = 0)) => ?_) (fun (c125 : (m_gin (eM (τ 1)) (pB (eM (τ 1)) (nI j)) nj (eM (τ 1) 10 j) (eM (τ 1) 2 h)) = 0) => ?_)
                        · refine lv_aload_n hC.1 hC.2.1 dX11_whyNot_172 rfl (lv_at hl 1 rfl) ?_
                          refine lv_iload_n hC.1 hC.2.1 dX11_whyNot_173 rfl (lv_at hl 2 rfl) ?_
                          refine lv_iload_n hC.1 hC.2.1 dX11_whyNot_174 rfl (lv_at hl 3 rfl) ?_
                          refine q_callVp (As := [.int (nI j), .int (nI h)]) (rest := []) (q0 := 0) hC hw hl (tX11_isScared l E a τ nh nj j h (by first | assumption | omega) (by first | assumption | omega) (by first | assumption | omega)) (q_cwV hC.2.2.2.2.1 ⟨rfl, rfl⟩ wk4_234 wk4_236 wks_3_1 wk1_12 wk4_237 hd_X11_isScared ⟨Nat.le_of_ble_eq_true rfl, Nat.le_of_ble_eq_true rfl⟩) rfl rfl rfl rfl rfl (Nat.le_of_ble_eq_true rfl) dX11_whyNot_175 (fun H locs hw => ?_)
                          have J187_130 : ∀ (w129 : Int32), w129 = (if m_scd (eM (τ 1)) (pB (eM (τ 1)) (nI j)) nj j h = true then 8 else 0) → ∀ (H : Heap) (locs : List Loc) (ls : Array Slot), Wst E (MW E a) (τ) A s.heap H locs → lv_has ls 4 [(0, .ref (a 70)), (1, .int (nI j)), (2, .int (nI h)), (3, .int (eM (τ 1) 5 j))] → W p l e ({ frames := 3, cells := 0, slots := 0, locals := 71 }) s m args below meth c H locs 0 0 Q (F0 m 187 ls [.int (w129)]) := by
                            intro w129 e130 H locs ls hw hl
                            subst e130
                            refine hret _ _ _ _ _ _ hw ?_ rfl dX11_whyNot_187
                            have hi3 : i = 3 := by omega
                            subst hi3
                            refine ⟨?_, rfl⟩
                            rw [why_tail c1 c2 hlt]
                            exact (wh8 (by simp [c1, c2, c4, c5, c49, c92, c93, c114, c115, c125]) (by simp [c1, c2, c4, c5, c49, c92, c93, c114, c115, c125])).symm
                          refine q_ifeq hC 186 cB dX11_whyNot_178 (by decide) (fun (c131 : ¬ (m_scd (eM (τ 1)) (pB (eM (τ 1)) (nI j)) nj j h = true)) => ?_) (fun (c131 : m_scd (eM (τ 1)) (pB (eM (τ 1)) (nI j)) nj j h = true) => ?_)
                          · refine lv_iconst (v := nI 0) hC.1 hC.2.1 dX11_whyNot_186 (by decide) ?_
                            exact J187_130 _ (by (rw [if_neg c131]) <;> rfl) _ _ _ hw (lv_sub hl [1, 2, 3, 0] rfl)
                          · refine lv_bipush (v := nI 8) hC.1 hC.2.1 dX11_whyNot_181 (by decide) ?_
                            refine lv_goto (tgt := 187) hC.1 hC.2.1 dX11_whyNot_183 (by decide) ?_
                            exact J187_130 _ (by (rw [if_pos c131]) <;> rfl) _ _ _ hw (lv_sub hl [1, 2, 3, 0] rfl)
                        · refine lv_bipush (v := nI 7) hC.1 hC.2.1 dX11_whyNot_169 (by decide) ?_
                          refine hret _ _ _ _ _ _ hw ?_ rfl dX11_whyNot_171
                          have hi3 : i = 3 := by omega
                          subst hi3
                          refine ⟨?_, rfl⟩
                          rw [why_tail c1 c2 hlt]
                          exact (wh7b (by simp [c1, c2, c4, c5, c49, c92, c93, c114, c115, c125]) c115 c125).symm
                · refine lv_bipush (v := nI 6) hC.1 hC.2.1 dX11_whyNot_110 (by decide) ?_
                  refine hret _ _ _ _ _ _ hw ?_ rfl dX11_whyNot_112
                  have hi3 : i = 3 := by omega
                  subst hi3
                  refine ⟨?_, rfl⟩
                  rw [why_tail c1 c2 hlt]
                  exact (wh6 (by simp [c1, c2, c4, c5, c49, c92]) c92).symm
          · refine lv_aload_n hC.1 hC.2.1 dX11_whyNot_48 rfl (lv_at hl 0 rfl) ?_
            refine gf_X11_7 hC hw dX11_whyNot_49 ?_
            refine lv_bipush (v := nI 90) hC.1 hC.2.1 dX11_whyNot_52 (by decide) ?_
            refine lv_iconst (v := nI 3) hC.1 hC.2.1 dX11_whyNot_54 (by decide) ?_
            refine lv_iload_n hC.1 hC.2.1 dX11_whyNot_55 rfl (lv_at hl 1 rfl) ?_
            refine q_mulN hC dX11_whyNot_56 ?_
            refine q_addN hC dX11_whyNot_57 ?_
            refine lv_iload_n hC.1 hC.2.1 dX11_whyNot_58 rfl (lv_at hl 3 rfl) ?_
            refine q_addN hC dX11_whyNot_59 ?_
            refine al_M1 (v := eM (τ 1) 6 (((3 * j)) + i)) hC hw (by omega) (show _ = eM (τ 1) 6 (((3 * j)) + i) from congrArg (τ 1) (by omega)) dX11_whyNot_60 ?_
            refine lv_aload_n hC.1 hC.2.1 dX11_whyNot_61 rfl (lv_at hl 0 rfl) ?_
            refine lv_iload_n hC.1 hC.2.1 dX11_whyNot_62 rfl (lv_at hl 2 rfl) ?_
            refine lv_iload_n hC.1 hC.2.1 dX11_whyNot_63 rfl (lv_at hl 3 rfl) ?_
            refine lv_iload_n hC.1 hC.2.1 dX11_whyNot_64 rfl (lv_at hl 1 rfl) ?_
            refine q_callVp (As := [.int (nI h), .int (nI i), .int (nI j)]) (rest := [.int (eM (τ 1) 6 (((3 * j)) + i))]) (q0 := 0) hC hw hl (tX11_leftOf l E a τ nh nj h i (nI j) (by first | assumption | omega) (by first | assumption | omega) (by first | assumption | omega)) (q_cwV hC.2.2.2.2.1 ⟨rfl, rfl⟩ wk4_206 wk4_208 wks_2_10 wk1_12 wk4_209 hd_X11_leftOf ⟨Nat.le_of_ble_eq_true rfl, Nat.le_of_ble_eq_true rfl⟩) rfl rfl rfl rfl rfl (Nat.le_of_ble_eq_true rfl) dX11_whyNot_65 (fun H locs hw => ?_)
            refine q_cmple hC 75 cI dX11_whyNot_68 (by decide) (fun (c135 : (eM (τ 1) 6 (((3 * j)) + i)) ≤ (m_left (eM (τ 1)) (pB (eM (τ 1)) (nI j)) nj h i)) => ?_) (fun (c135 : ¬ ((eM (τ 1) 6 (((3 * j)) + i)) ≤ (m_left (eM (τ 1)) (pB (eM (τ 1)) (nI j)) nj h i))) => ?_)
            · refine lv_iinc (v := nI (i + 1)) (lv' := [(3, .int (nI (i + 1))), (0, .ref (a 70)), (1, .int (nI j)), (2, .int (nI h))]) hC.1 hC.2.1 dX11_whyNot_75 hl (k := 3) rfl (nI_add _ _) (by decide) rfl (fun ls hl => ?_)
              refine lv_goto (tgt := 43) hC.1 hC.2.1 dX11_whyNot_78 (by decide) ?_
              exact ih43 (i + 1) (by omega) (fun x q => by rcases Nat.lt_succ_iff_lt_or_eq.mp q with q | q; exact hlt x q; subst q; exact Int32.not_lt.mpr (by assumption)) (by omega) _ _ _ hw (lv_sub hl [1, 2, 3, 0] rfl)
            · refine lv_iconst (v := nI 3) hC.1 hC.2.1 dX11_whyNot_71 (by decide) ?_
              refine lv_iload_n hC.1 hC.2.1 dX11_whyNot_72 rfl (lv_at hl 3 rfl) ?_
              refine q_addN hC dX11_whyNot_73 ?_
              refine hret _ _ _ _ _ _ hw ?_ rfl dX11_whyNot_74
              exact ⟨why_left hlt (Int32.not_le.mp c135) (by omega) c1 c2, rfl⟩
      exact L43_2 _ 0 (by omega) (fun x q => absurd q (Nat.not_lt_zero x)) (Nat.lt_succ_self _) _ _ _ hw (lv_sub hl [1, 2, 3, 0] rfl)
    · refine lv_iconst (v := nI 2) hC.1 hC.2.1 dX11_whyNot_39 (by decide) ?_
      refine hret _ _ _ _ _ _ hw ?_ rfl dX11_whyNot_40
      exact ⟨by rw [m_why, if_neg c1, if_pos c2]; rfl, rfl⟩
  · refine lv_iconst (v := nI 1) hC.1 hC.2.1 dX11_whyNot_12 (by decide) ?_
    refine hret _ _ _ _ _ _ hw ?_ rfl dX11_whyNot_13
    exact ⟨by rw [m_why, if_pos c1]; rfl, rfl⟩
set_option maxHeartbeats 4000000 in
set_option maxRecDepth 100000 in
theorem tX11_pointsOf (l : Launch) (E : EV) (a : Nat → Nat) (τ : St) (nh : Nat) (nj : Nat) (j : Nat) (h : Nat) (hW : mF (τ 1) nh nj) (hj : j < nj) (hh : h < nh) : MI l E (MW E a) yX11_pointsOf (Cond.code yX11_pointsOf cX11_pointsOf 6 (some .int)) ({ frames := 2, cells := 0, slots := 0, locals := 47 }) [.ref (a 70), .int (nI j), .int (nI h)] τ (fun r_ u_ => r_ = (m_pts (eM (τ 1)) (pB (eM (τ 1)) (nI j)) nj j h) ∧ u_ = τ) := by
  refine MI.mk (by decide +kernel) (Nat.le_of_ble_eq_true rfl) ?_
  intro p e s m args below meth c ls A Q hret hC hw hl
  have hC : Cxt E p s m args meth c cX11_pointsOf 6 (some .int) RX11 A := hC
  have hl : lv_has ls 6 [(0, .ref (a 70)), (1, .int (nI j)), (2, .int (nI h))] := hl
  have ⟨hnh, hnj, hW0, hW1, hWh⟩ := id hW
  refine lv_iconst (v := nI 0) hC.1 hC.2.1 dX11_pointsOf_0 (by decide) ?_
  refine lv_istore_n (lv' := [(3, .int (nI 0)), (0, .ref (a 70)), (1, .int (nI j)), (2, .int (nI h))]) hC.1 hC.2.1 dX11_pointsOf_1 rfl hl (by decide) rfl (fun ls hl => ?_)
  refine lv_iconst (v := nI 0) hC.1 hC.2.1 dX11_pointsOf_2 (by decide) ?_
  refine lv_istore (lv' := [(4, .int (nI 0)), (3, .int (nI 0)), (0, .ref (a 70)), (1, .int (nI j)), (2, .int (nI h))]) hC.1 hC.2.1 dX11_pointsOf_3 hl (by decide) rfl (fun ls hl => ?_)
  have L5_0 : ∀ (n : Nat), ∀ (i : Nat), ∀ (v : Int32), (v = (m_room (eM (τ 1)) (pB (eM (τ 1)) (nI j)) nj j h i)) → (i ≤ 3) → (3 - i) < n → ∀ (H : Heap) (locs : List Loc) (ls : Array Slot), Wst E (MW E a) (τ) A s.heap H locs → lv_has ls 6 [(0, .ref (a 70)), (1, .int (nI j)), (2, .int (nI h)), (3, .int (v)), (4, .int (nI i))] → W p l e ({ frames := 2, cells := 0, slots := 0, locals := 47 }) s m args below meth c H locs 0 0 Q (F0 m 5 ls []) := by
    intro n
    induction n with
    | zero => intro i v q_v hi hn; exact absurd hn (Nat.not_lt_zero _)
    | succ n ih5 =>
      intro i v q_v hi hn5 H locs ls hw hl
      subst q_v
      refine lv_iload hC.1 hC.2.1 dX11_pointsOf_5 (lv_at hl 4 rfl) ?_
      refine lv_iconst (v := nI 3) hC.1 hC.2.1 dX11_pointsOf_7 (by decide) ?_
      refine q_cmpge hC 43 (cNle (by omega) (by omega)) dX11_pointsOf_8 (by decide) (fun (c2 : 3 ≤ i) => ?_) (fun (c2 : i < 3) => ?_)
      · refine lv_aload_n hC.1 hC.2.1 dX11_pointsOf_43 rfl (lv_at hl 0 rfl) ?_
        refine gf_X11_7 hC hw dX11_pointsOf_44 ?_
        refine lv_bipush (v := nI 66) hC.1 hC.2.1 dX11_pointsOf_47 (by decide) ?_
        refine lv_iload_n hC.1 hC.2.1 dX11_pointsOf_49 rfl (lv_at hl 1 rfl) ?_
        refine q_addN hC dX11_pointsOf_50 ?_
        refine al_M1 (v := eM (τ 1) 5 j) hC hw (by omega) (show _ = eM (τ 1) 5 j from congrArg (τ 1) (by omega)) dX11_pointsOf_51 ?_
        refine lv_istore (lv' := [(4, .int (eM (τ 1) 5 j)), (0, .ref (a 70)), (1, .int (nI j)), (2, .int (nI h)), (3, .int (m_room (eM (τ 1)) (pB (eM (τ 1)) (nI j)) nj j h i))]) hC.1 hC.2.1 dX11_pointsOf_52 hl (by decide) rfl (fun ls hl => ?_)
        refine lv_iload hC.1 hC.2.1 dX11_pointsOf_54 (lv_at hl 0 rfl) ?_
        refine lv_iconst (v := nI 4) hC.1 hC.2.1 dX11_pointsOf_56 (by decide) ?_
        have J113_4 : ∀ (w3 : Int32), w3 = (if (eM (τ 1) 5 j) = 4 then (m_gon (eM (τ 1)) (pB (eM (τ 1)) (nI j)) nj (eM (τ 1) 10 j) h) else (if (eM (τ 1) 5 j) = 5 then (m_gin (eM (τ 1)) (pB (eM (τ 1)) (nI j)) nj (eM (τ 1) 10 j) (eM (τ 1) 2 h)) else 0)) → ∀ (H : Heap) (locs : List Loc) (ls : Array Slot), Wst E (MW E a) (τ) A s.heap H locs → lv_has ls 6 [(0, .ref (a 70)), (1, .int (nI j)), (2, .int (nI h)), (3, .int (m_room (eM (τ 1)) (pB (eM (τ 1)) (nI j)) nj j h i)), (4, .int (eM (τ 1) 5 j))] → W p l e ({ frames := 2, cells := 0, slots := 0, locals := 47 }) s m args below meth c H locs 0 0 Q (F0 m 113 ls [.int (w3)]) := by
          intro w3 e4 H locs ls hw hl
          subst e4
          refine lv_istore (lv' := [(5, .int ((if (eM (τ 1) 5 j) = 4 then (m_gon (eM (τ 1)) (pB (eM (τ 1)) (nI j)) nj (eM (τ 1) 10 j) h) else (if (eM (τ 1) 5 j) = 5 then (m_gin (eM (τ 1)) (pB (eM (τ 1)) (nI j)) nj (eM (τ 1) 10 j) (eM (τ 1) 2 h)) else 0)))), (0, .ref (a 70)), (1, .int (nI j)), (2, .int (nI h)), (3, .int (m_room (eM (τ 1)) (pB (eM (τ 1)) (nI j)) nj j h i)), (4, .int (eM (τ 1) 5 j))]) hC.1 hC.2.1 dX11_pointsOf_113 hl (by decide) rfl (fun ls hl => ?_)
          refine lv_aload_n hC.1 hC.2.1 dX11_pointsOf_115 rfl (lv_at hl 1 rfl) ?_
          refine gf_X11_7 hC hw dX11_pointsOf_116 ?_
          refine lv_iconst (v := nI 2) hC.1 hC.2.1 dX11_pointsOf_119 (by decide) ?_
          refine al_M1 (v := eM (τ 1) 15 0) hC hw (by omega) (show _ = eM (τ 1) 15 0 from congrArg (τ 1) (by omega)) dX11_pointsOf_120 ?_
          refine lv_iload_n hC.1 hC.2.1 dX11_pointsOf_121 rfl (lv_at hl 4 rfl) ?_
          refine lv_imul hC.1 hC.2.1 dX11_pointsOf_122 ?_
          refine lv_aload_n hC.1 hC.2.1 dX11_pointsOf_123 rfl (lv_at hl 1 rfl) ?_
          refine gf_X11_7 hC hw dX11_pointsOf_124 ?_
          refine lv_iconst (v := nI 3) hC.1 hC.2.1 dX11_pointsOf_127 (by decide) ?_
          refine al_M1 (v := eM (τ 1) 15 1) hC hw (by omega) (show _ = eM (τ 1) 15 1 from congrArg (τ 1) (by omega)) dX11_pointsOf_128 ?_
          refine lv_aload_n hC.1 hC.2.1 dX11_pointsOf_129 rfl (lv_at hl 1 rfl) ?_
          refine lv_aload_n hC.1 hC.2.1 dX11_pointsOf_130 rfl (lv_at hl 1 rfl) ?_
          refine gf_X11_7 hC hw dX11_pointsOf_131 ?_
          refine lv_sipush (v := nI 186) hC.1 hC.2.1 dX11_pointsOf_134 (by decide) ?_
          refine lv_iload_n hC.1 hC.2.1 dX11_pointsOf_137 rfl (lv_at hl 2 rfl) ?_
          refine q_addN hC dX11_pointsOf_138 ?_
          refine al_M1 (v := eM (τ 1) 8 j) hC hw (by omega) (show _ = eM (τ 1) 8 j from congrArg (τ 1) (by omega)) dX11_pointsOf_139 ?_
          refine lv_iload_n hC.1 hC.2.1 dX11_pointsOf_140 rfl (lv_at hl 3 rfl) ?_
          refine lv_iload_n hC.1 hC.2.1 dX11_pointsOf_141 rfl (lv_at hl 2 rfl) ?_
          refine q_callVp (As := [.int (eM (τ 1) 8 j), .int (nI h), .int (nI j)]) (rest := [.int (eM (τ 1) 15 1), .int ((eM (τ 1) 15 0) * (m_room (eM (τ 1)) (pB (eM (τ 1)) (nI j)) nj j h i))]) (q0 := 0) hC hw hl (tX11_groupOn l E a τ nh nj (eM (τ 1) 8 j) h (nI j) (by first | assumption | omega) (by first | assumption | omega)) (q_cwV hC.2.2.2.2.1 ⟨rfl, rfl⟩ wk4_226 wk4_228 wks_2_15 wk1_12 wk4_229 hd_X11_groupOn ⟨Nat.le_of_ble_eq_true rfl, Nat.le_of_ble_eq_true rfl⟩) rfl rfl rfl rfl rfl (Nat.le_of_ble_eq_true rfl) dX11_pointsOf_142 (fun H locs hw => ?_)
          refine lv_imul hC.1 hC.2.1 dX11_pointsOf_145 ?_
          refine lv_isub hC.1 hC.2.1 dX11_pointsOf_146 ?_
          refine lv_aload_n hC.1 hC.2.1 dX11_pointsOf_147 rfl (lv_at hl 1 rfl) ?_
          refine gf_X11_7 hC hw dX11_pointsOf_148 ?_
          refine lv_iconst (v := nI 4) hC.1 hC.2.1 dX11_pointsOf_151 (by decide) ?_
          refine al_M1 (v := eM (τ 1) 15 2) hC hw (by omega) (show _ = eM (τ 1) 15 2 from congrArg (τ 1) (by omega)) dX11_pointsOf_152 ?_
          refine lv_iload hC.1 hC.2.1 dX11_pointsOf_153 (lv_at hl 0 rfl) ?_
          refine lv_imul hC.1 hC.2.1 dX11_pointsOf_155 ?_
          refine lv_iadd hC.1 hC.2.1 dX11_pointsOf_156 ?_
          refine hret _ _ _ _ _ _ hw ?_ rfl dX11_pointsOf_157
          have hi3 : i = 3 := by omega
          subst hi3
          clear hWh
          exact ⟨by simp only [m_pts, m_oth] <;> grind, rfl⟩
        refine q_cmpne hC 79 cI dX11_pointsOf_57 (by decide) (fun (c8 : ¬ ((eM (τ 1) 5 j) = 4)) => ?_) (fun (c8 : (eM (τ 1) 5 j) = 4) => ?_)
        · refine lv_iload hC.1 hC.2.1 dX11_pointsOf_79 (lv_at hl 0 rfl) ?_
          refine lv_iconst (v := nI 5) hC.1 hC.2.1 dX11_pointsOf_81 (by decide) ?_
          refine q_cmpne hC 112 cI dX11_pointsOf_82 (by decide) (fun (c9 : ¬ ((eM (τ 1) 5 j) = 5)) => ?_) (fun (c9 : (eM (τ 1) 5 j) = 5) => ?_)
          · refine lv_iconst (v := nI 0) hC.1 hC.2.1 dX11_pointsOf_112 (by decide) ?_
            exact J113_4 _ (by (rw [if_neg c8, if_neg c9]) <;> rfl) _ _ _ hw (lv_sub hl [1, 2, 3, 4, 0] rfl)
          · refine lv_aload_n hC.1 hC.2.1 dX11_pointsOf_85 rfl (lv_at hl 1 rfl) ?_
            refine lv_aload_n hC.1 hC.2.1 dX11_pointsOf_86 rfl (lv_at hl 1 rfl) ?_
            refine gf_X11_7 hC hw dX11_pointsOf_87 ?_
            refine lv_sipush (v := nI 234) hC.1 hC.2.1 dX11_pointsOf_90 (by decide) ?_
            refine lv_iload_n hC.1 hC.2.1 dX11_pointsOf_93 rfl (lv_at hl 2 rfl) ?_
            refine q_addN hC dX11_pointsOf_94 ?_
            refine al_M1 (v := eM (τ 1) 10 j) hC hw (by omega) (show _ = eM (τ 1) 10 j from congrArg (τ 1) (by omega)) dX11_pointsOf_95 ?_
            refine lv_aload_n hC.1 hC.2.1 dX11_pointsOf_96 rfl (lv_at hl 1 rfl) ?_
            refine gf_X11_7 hC hw dX11_pointsOf_97 ?_
            refine lv_bipush (v := nI 36) hC.1 hC.2.1 dX11_pointsOf_100 (by decide) ?_
            refine lv_iload_n hC.1 hC.2.1 dX11_pointsOf_102 rfl (lv_at hl 3 rfl) ?_
            refine q_addN hC dX11_pointsOf_103 ?_
            refine al_M1 (v := eM (τ 1) 2 h) hC hw (by omega) (show _ = eM (τ 1) 2 h from congrArg (τ 1) (by omega)) dX11_pointsOf_104 ?_
            refine lv_iload_n hC.1 hC.2.1 dX11_pointsOf_105 rfl (lv_at hl 2 rfl) ?_
            refine q_callVp (As := [.int (eM (τ 1) 10 j), .int (eM (τ 1) 2 h), .int (nI j)]) (rest := []) (q0 := 0) hC hw hl (tX11_groupIn l E a τ nh nj (eM (τ 1) 10 j) (eM (τ 1) 2 h) (nI j) (by first | assumption | omega)) (q_cwV hC.2.2.2.2.1 ⟨rfl, rfl⟩ wk4_230 wk4_232 wks_3_0 wk1_12 wk4_233 hd_X11_groupIn ⟨Nat.le_of_ble_eq_true rfl, Nat.le_of_ble_eq_true rfl⟩) rfl rfl rfl rfl rfl (Nat.le_of_ble_eq_true rfl) dX11_pointsOf_106 (fun H locs hw => ?_)
            refine lv_goto (tgt := 113) hC.1 hC.2.1 dX11_pointsOf_109 (by decide) ?_
            exact J113_4 _ (by (rw [if_neg c8, if_pos c9]) <;> rfl) _ _ _ hw (lv_sub hl [1, 2, 3, 4, 0] rfl)
        · refine lv_aload_n hC.1 hC.2.1 dX11_pointsOf_60 rfl (lv_at hl 1 rfl) ?_
          refine lv_aload_n hC.1 hC.2.1 dX11_pointsOf_61 rfl (lv_at hl 1 rfl) ?_
          refine gf_X11_7 hC hw dX11_pointsOf_62 ?_
          refine lv_sipush (v := nI 234) hC.1 hC.2.1 dX11_pointsOf_65 (by decide) ?_
          refine lv_iload_n hC.1 hC.2.1 dX11_pointsOf_68 rfl (lv_at hl 2 rfl) ?_
          refine q_addN hC dX11_pointsOf_69 ?_
          refine al_M1 (v := eM (τ 1) 10 j) hC hw (by omega) (show _ = eM (τ 1) 10 j from congrArg (τ 1) (by omega)) dX11_pointsOf_70 ?_
          refine lv_iload_n hC.1 hC.2.1 dX11_pointsOf_71 rfl (lv_at hl 3 rfl) ?_
          refine lv_iload_n hC.1 hC.2.1 dX11_pointsOf_72 rfl (lv_at hl 2 rfl) ?_
          refine q_callVp (As := [.int (eM (τ 1) 10 j), .int (nI h), .int (nI j)]) (rest := []) (q0 := 0) hC hw hl (tX11_groupOn l E a τ nh nj (eM (τ 1) 10 j) h (nI j) (by first | assumption | omega) (by first | assumption | omega)) (q_cwV hC.2.2.2.2.1 ⟨rfl, rfl⟩ wk4_226 wk4_228 wks_2_15 wk1_12 wk4_229 hd_X11_groupOn ⟨Nat.le_of_ble_eq_true rfl, Nat.le_of_ble_eq_true rfl⟩) rfl rfl rfl rfl rfl (Nat.le_of_ble_eq_true rfl) dX11_pointsOf_73 (fun H locs hw => ?_)
          refine lv_goto (tgt := 113) hC.1 hC.2.1 dX11_pointsOf_76 (by decide) ?_
          exact J113_4 _ (by (rw [if_pos c8]) <;> rfl) _ _ _ hw (lv_sub hl [1, 2, 3, 4, 0] rfl)
      · refine lv_iload_n hC.1 hC.2.1 dX11_pointsOf_11 rfl (lv_at hl 3 rfl) ?_
        refine lv_aload_n hC.1 hC.2.1 dX11_pointsOf_12 rfl (lv_at hl 0 rfl) ?_
        refine lv_iload_n hC.1 hC.2.1 dX11_pointsOf_13 rfl (lv_at hl 2 rfl) ?_
        refine lv_iload hC.1 hC.2.1 dX11_pointsOf_14 (lv_at hl 4 rfl) ?_
        refine lv_iload_n hC.1 hC.2.1 dX11_pointsOf_16 rfl (lv_at hl 1 rfl) ?_
        refine q_callVp (As := [.int (nI h), .int (nI i), .int (nI j)]) (rest := [.int (m_room (eM (τ 1)) (pB (eM (τ 1)) (nI j)) nj j h i)]) (q0 := 0) hC hw hl (tX11_leftOf l E a τ nh nj h i (nI j) (by first | assumption | omega) (by first | assumption | omega) (by first | assumption | omega)) (q_cwV hC.2.2.2.2.1 ⟨rfl, rfl⟩ wk4_206 wk4_208 wks_2_10 wk1_12 wk4_209 hd_X11_leftOf ⟨Nat.le_of_ble_eq_true rfl, Nat.le_of_ble_eq_true rfl⟩) rfl rfl rfl rfl rfl (Nat.le_of_ble_eq_true rfl) dX11_pointsOf_17 (fun H locs hw => ?_)
        refine lv_aload_n hC.1 hC.2.1 dX11_pointsOf_20 rfl (lv_at hl 0 rfl) ?_
        refine gf_X11_7 hC hw dX11_pointsOf_21 ?_
        refine lv_bipush (v := nI 90) hC.1 hC.2.1 dX11_pointsOf_24 (by decide) ?_
        refine lv_iconst (v := nI 3) hC.1 hC.2.1 dX11_pointsOf_26 (by decide) ?_
        refine lv_iload_n hC.1 hC.2.1 dX11_pointsOf_27 rfl (lv_at hl 1 rfl) ?_
        refine q_mulN hC dX11_pointsOf_28 ?_
        refine q_addN hC dX11_pointsOf_29 ?_
        refine lv_iload hC.1 hC.2.1 dX11_pointsOf_30 (lv_at hl 4 rfl) ?_
        refine q_addN hC dX11_pointsOf_32 ?_
        refine al_M1 (v := eM (τ 1) 6 (((3 * j)) + i)) hC hw (by omega) (show _ = eM (τ 1) 6 (((3 * j)) + i) from congrArg (τ 1) (by omega)) dX11_pointsOf_33 ?_
        refine lv_isub hC.1 hC.2.1 dX11_pointsOf_34 ?_
        refine lv_iadd hC.1 hC.2.1 dX11_pointsOf_35 ?_
        refine lv_istore_n (lv' := [(3, .int ((m_room (eM (τ 1)) (pB (eM (τ 1)) (nI j)) nj j h i) + ((m_left (eM (τ 1)) (pB (eM (τ 1)) (nI j)) nj h i) - (eM (τ 1) 6 (((3 * j)) + i))))), (0, .ref (a 70)), (1, .int (nI j)), (2, .int (nI h)), (4, .int (nI i))]) hC.1 hC.2.1 dX11_pointsOf_36 rfl hl (by decide) rfl (fun ls hl => ?_)
        refine lv_iinc (v := nI (i + 1)) (lv' := [(4, .int (nI (i + 1))), (3, .int ((m_room (eM (τ 1)) (pB (eM (τ 1)) (nI j)) nj j h i) + ((m_left (eM (τ 1)) (pB (eM (τ 1)) (nI j)) nj h i) - (eM (τ 1) 6 (((3 * j)) + i))))), (0, .ref (a 70)), (1, .int (nI j)), (2, .int (nI h))]) hC.1 hC.2.1 dX11_pointsOf_37 hl (k := 4) rfl (nI_add _ _) (by decide) rfl (fun ls hl => ?_)
        refine lv_goto (tgt := 5) hC.1 hC.2.1 dX11_pointsOf_40 (by decide) ?_
        exact ih5 (i + 1) ((m_room (eM (τ 1)) (pB (eM (τ 1)) (nI j)) nj j h i) + ((m_left (eM (τ 1)) (pB (eM (τ 1)) (nI j)) nj h i) - (eM (τ 1) 6 (((3 * j)) + i)))) rfl (by omega) (by omega) _ _ _ hw (lv_sub hl [2, 3, 4, 1, 0] rfl)
  exact L5_0 _ 0 (nI 0) rfl (by omega) (Nat.lt_succ_self _) _ _ _ hw (lv_sub hl [2, 3, 4, 1, 0] rfl)
set_option maxHeartbeats 4000000 in
set_option maxRecDepth 100000 in
theorem tX11_bestFor (l : Launch) (E : EV) (a : Nat → Nat) (τ : St) (nh : Nat) (nj : Nat) (j : Nat) (hW : mF (τ 1) nh nj) (hj : j < nj) : MI l E (MW E a) yX11_bestFor (Cond.code yX11_bestFor cX11_bestFor 6 (some .int)) ({ frames := 4, cells := 0, slots := 0, locals := 94 }) [.ref (a 70), .int (nI j)] τ (fun r_ u_ => r_ = (m_bst (eM (τ 1)) (pB (eM (τ 1)) (nI j)) nh nj j nh) ∧ u_ = τ) := by
  refine MI.mk (by decide +kernel) (Nat.le_of_ble_eq_true rfl) ?_
  intro p e s m args below meth c ls A Q hret hC hw hl
  have hC : Cxt E p s m args meth c cX11_bestFor 6 (some .int) RX11 A := hC
  have hl : lv_has ls 6 [(0, .ref (a 70)), (1, .int (nI j))] := hl
  have ⟨hnh, hnj, hW0, hW1, hWh⟩ := id hW
  refine lv_bipush (v := (-3)) hC.1 hC.2.1 dX11_bestFor_0 (by decide) ?_
  refine lv_istore_n (lv' := [(2, .int ((-3))), (0, .ref (a 70)), (1, .int (nI j))]) hC.1 hC.2.1 dX11_bestFor_2 rfl hl (by decide) rfl (fun ls hl => ?_)
  refine lv_iconst (v := nI 0) hC.1 hC.2.1 dX11_bestFor_3 (by decide) ?_
  refine lv_istore_n (lv' := [(3, .int (nI 0)), (2, .int ((-3))), (0, .ref (a 70)), (1, .int (nI j))]) hC.1 hC.2.1 dX11_bestFor_4 rfl hl (by decide) rfl (fun ls hl => ?_)
  refine lv_iconst (v := nI 0) hC.1 hC.2.1 dX11_bestFor_5 (by decide) ?_
  refine lv_istore (lv' := [(4, .int (nI 0)), (3, .int (nI 0)), (2, .int ((-3))), (0, .ref (a 70)), (1, .int (nI j))]) hC.1 hC.2.1 dX11_bestFor_6 hl (by decide) rfl (fun ls hl => ?_)
  have L8_0 : ∀ (n : Nat), ∀ (h : Nat), ∀ (mo : Int32), ∀ (b : Int32), (b = (m_bst (eM (τ 1)) (pB (eM (τ 1)) (nI j)) nh nj j h)) → (h ≤ nh) → (nh - h) < n → ∀ (H : Heap) (locs : List Loc) (ls : Array Slot), Wst E (MW E a) (τ) A s.heap H locs → lv_has ls 6 [(0, .ref (a 70)), (1, .int (nI j)), (2, .int (b)), (3, .int (mo)), (4, .int (nI h))] → W p l e ({ frames := 4, cells := 0, slots := 0, locals := 94 }) s m args below meth c H locs 0 0 Q (F0 m 8 ls []) := by
    intro n
    induction n with
    | zero => intro h mo b q_b hh hn; exact absurd hn (Nat.not_lt_zero _)
    | succ n ih8 =>
      intro h mo b q_b hh hn8 H locs ls hw hl
      subst q_b
      refine lv_iload hC.1 hC.2.1 dX11_bestFor_8 (lv_at hl 4 rfl) ?_
      refine lv_aload_n hC.1 hC.2.1 dX11_bestFor_10 rfl (lv_at hl 0 rfl) ?_
      refine gf_X11_7 hC hw dX11_bestFor_11 ?_
      refine lv_iconst (v := nI 0) hC.1 hC.2.1 dX11_bestFor_14 (by decide) ?_
      refine al_M1 (v := nI nh) hC hw (by omega) hW.2.2.1 dX11_bestFor_15 ?_
      refine q_cmpge hC 83 (cNle (by omega) (by omega)) dX11_bestFor_16 (by decide) (fun (c2 : nh ≤ h) => ?_) (fun (c2 : h < nh) => ?_)
      · refine lv_iload_n hC.1 hC.2.1 dX11_bestFor_83 rfl (lv_at hl 2 rfl) ?_
        refine hret _ _ _ _ _ _ hw ?_ rfl dX11_bestFor_84
        exact ⟨by rw [show h = nh by omega], rfl⟩
      · refine lv_aload_n hC.1 hC.2.1 dX11_bestFor_19 rfl (lv_at hl 0 rfl) ?_
        refine lv_iload_n hC.1 hC.2.1 dX11_bestFor_20 rfl (lv_at hl 1 rfl) ?_
        refine lv_iload hC.1 hC.2.1 dX11_bestFor_21 (lv_at hl 4 rfl) ?_
        refine q_callVp (As := [.int (nI j), .int (nI h)]) (rest := []) (q0 := 0) hC hw hl (tX11_whyNot l E a τ nh nj j h (by first | assumption | omega) (by first | assumption | omega) (by first | assumption | omega)) (q_cwV hC.2.2.2.2.1 ⟨rfl, rfl⟩ wk4_202 wk4_204 wks_2_9 wk1_12 wk4_205 hd_X11_whyNot ⟨Nat.le_of_ble_eq_true rfl, Nat.le_of_ble_eq_true rfl⟩) rfl rfl rfl rfl rfl (Nat.le_of_ble_eq_true rfl) dX11_bestFor_23 (fun H locs hw => ?_)
        have J77_9 : ∀ (w6 : Int32), w6 = (if (m_why (eM (τ 1)) (pB (eM (τ 1)) (nI j)) nh nj j h) = 0 then (if (m_bst (eM (τ 1)) (pB (eM (τ 1)) (nI j)) nh nj j h) < 0 then (nI h) else (if (m_pts (eM (τ 1)) (pB (eM (τ 1)) (nI j)) nj j h) ≤ (m_pts (eM (τ 1)) (pB (eM (τ 1)) (nI j)) nj j ((m_bst (eM (τ 1)) (pB (eM (τ 1)) (nI j)) nh nj j h).toNatClampNeg)) then (m_bst (eM (τ 1)) (pB (eM (τ 1)) (nI j)) nh nj j h) else (nI h))) else (m_bst (eM (τ 1)) (pB (eM (τ 1)) (nI j)) nh nj j h)) → ∀ (w8 : Int32), w8 = (if (m_why (eM (τ 1)) (pB (eM (τ 1)) (nI j)) nh nj j h) = 0 then (if (m_bst (eM (τ 1)) (pB (eM (τ 1)) (nI j)) nh nj j h) < 0 then (m_pts (eM (τ 1)) (pB (eM (τ 1)) (nI j)) nj j h) else (if (m_pts (eM (τ 1)) (pB (eM (τ 1)) (nI j)) nj j h) ≤ mo then mo else (m_pts (eM (τ 1)) (pB (eM (τ 1)) (nI j)) nj j h))) else mo) → ∀ (H : Heap) (locs : List Loc) (ls : Array Slot), Wst E (MW E a) (τ) A s.heap H locs → lv_has ls 6 [(0, .ref (a 70)), (1, .int (nI j)), (2, .int (w6)), (3, .int (w8)), (4, .int (nI h))] → W p l e ({ frames := 4, cells := 0, slots := 0, locals := 94 }) s m args below meth c H locs 0 0 Q (F0 m 77 ls []) := by
          intro w6 e7 w8 e9 H locs ls hw hl
          subst e7
          subst e9
          refine lv_iinc (v := nI (h + 1)) (lv' := [(4, .int (nI (h + 1))), (0, .ref (a 70)), (1, .int (nI j)), (2, .int ((if (m_why (eM (τ 1)) (pB (eM (τ 1)) (nI j)) nh nj j h) = 0 then (if (m_bst (eM (τ 1)) (pB (eM (τ 1)) (nI j)) nh nj j h) < 0 then (nI h) else (if (m_pts (eM (τ 1)) (pB (eM (τ 1)) (nI j)) nj j h) ≤ (m_pts (eM (τ 1)) (pB (eM (τ 1)) (nI j)) nj j ((m_bst (eM (τ 1)) (pB (eM (τ 1)) (nI j)) nh nj j h).toNatClampNeg)) then (m_bst (eM (τ 1)) (pB (eM (τ 1)) (nI j)) nh nj j h) else (nI h))) else (m_bst (eM (τ 1)) (pB (eM (τ 1)) (nI j)) nh nj j h)))), (3, .int ((if (m_why (eM (τ 1)) (pB (eM (τ 1)) (nI j)) nh nj j h) = 0 then (if (m_bst (eM (τ 1)) (pB (eM (τ 1)) (nI j)) nh nj j h) < 0 then (m_pts (eM (τ 1)) (pB (eM (τ 1)) (nI j)) nj j h) else (if (m_pts (eM (τ 1)) (pB (eM (τ 1)) (nI j)) nj j h) ≤ mo then mo else (m_pts (eM (τ 1)) (pB (eM (τ 1)) (nI j)) nj j h))) else mo)))]) hC.1 hC.2.1 dX11_bestFor_77 hl (k := 4) rfl (nI_add _ _) (by decide) rfl (fun ls hl => ?_)
          refine lv_goto (tgt := 8) hC.1 hC.2.1 dX11_bestFor_80 (by decide) ?_
          exact ih8 (h + 1) (if (m_why (eM (τ 1)) (pB (eM (τ 1)) (nI j)) nh nj j h) = 0 then (if (m_bst (eM (τ 1)) (pB (eM (τ 1)) (nI j)) nh nj j h) < 0 then (m_pts (eM (τ 1)) (pB (eM (τ 1)) (nI j)) nj j h) else (if (m_pts (eM (τ 1)) (pB (eM (τ 1)) (nI j)) nj j h) ≤ mo then mo else (m_pts (eM (τ 1)) (pB (eM (τ 1)) (nI j)) nj j h))) else mo) (if (m_why (eM (τ 1)) (pB (eM (τ 1)) (nI j)) nh nj j h) = 0 then (if (m_bst (eM (τ 1)) (pB (eM (τ 1)) (nI j)) nh nj j h) < 0 then (nI h) else (if (m_pts (eM (τ 1)) (pB (eM (τ 1)) (nI j)) nj j h) ≤ (m_pts (eM (τ 1)) (pB (eM (τ 1)) (nI j)) nj j ((m_bst (eM (τ 1)) (pB (eM (τ 1)) (nI j)) nh nj j h).toNatClampNeg)) then (m_bst (eM (τ 1)) (pB (eM (τ 1)) (nI j)) nh nj j h) else (nI h))) else (m_bst (eM (τ 1)) (pB (eM (τ 1)) (nI j)) nh nj j h)) (by simp only [m_bst]; grind) (by omega) (by omega) _ _ _ hw (lv_sub hl [1, 2, 3, 4, 0] rfl)
        refine q_ifne hC 77 cI dX11_bestFor_26 (by decide) (fun (c10 : ¬ ((m_why (eM (τ 1)) (pB (eM (τ 1)) (nI j)) nh nj j h) = 0)) => ?_) (fun (c10 : (m_why (eM (τ 1)) (pB (eM (τ 1)) (nI j)) nh nj j h) = 0) => ?_)
        · exact J77_9 _ (by (rw [if_neg c10]) <;> rfl) _ (by (rw [if_neg c10]) <;> rfl) _ _ _ hw (lv_sub hl [0, 1, 2, 3, 4] rfl)
        · refine lv_aload_n hC.1 hC.2.1 dX11_bestFor_29 rfl (lv_at hl 0 rfl) ?_
          refine lv_iload_n hC.1 hC.2.1 dX11_bestFor_30 rfl (lv_at hl 1 rfl) ?_
          refine lv_iload hC.1 hC.2.1 dX11_bestFor_31 (lv_at hl 4 rfl) ?_
          refine q_callVp (As := [.int (nI j), .int (nI h)]) (rest := []) (q0 := 0) hC hw hl (tX11_pointsOf l E a τ nh nj j h (by first | assumption | omega) (by first | assumption | omega) (by first | assumption | omega)) (q_cwV hC.2.2.2.2.1 ⟨rfl, rfl⟩ wk5_4 wk5_6 wks_3_2 wk1_12 wk5_7 hd_X11_pointsOf ⟨Nat.le_of_ble_eq_true rfl, Nat.le_of_ble_eq_true rfl⟩) rfl rfl rfl rfl rfl (Nat.le_of_ble_eq_true rfl) dX11_bestFor_33 (fun H locs hw => ?_)
          refine lv_istore (lv' := [(5, .int (m_pts (eM (τ 1)) (pB (eM (τ 1)) (nI j)) nj j h)), (0, .ref (a 70)), (1, .int (nI j)), (2, .int (m_bst (eM (τ 1)) (pB (eM (τ 1)) (nI j)) nh nj j h)), (3, .int (mo)), (4, .int (nI h))]) hC.1 hC.2.1 dX11_bestFor_36 hl (by decide) rfl (fun ls hl => ?_)
          refine lv_iload_n hC.1 hC.2.1 dX11_bestFor_38 rfl (lv_at hl 3 rfl) ?_
          have J54_15 : ∀ (w14 : Int32), w14 = (if (m_bst (eM (τ 1)) (pB (eM (τ 1)) (nI j)) nh nj j h) < 0 then (m_pts (eM (τ 1)) (pB (eM (τ 1)) (nI j)) nj j h) else (if (m_pts (eM (τ 1)) (pB (eM (τ 1)) (nI j)) nj j h) ≤ mo then mo else (m_pts (eM (τ 1)) (pB (eM (τ 1)) (nI j)) nj j h))) → ∀ (H : Heap) (locs : List Loc) (ls : Array Slot), Wst E (MW E a) (τ) A s.heap H locs → lv_has ls 6 [(0, .ref (a 70)), (1, .int (nI j)), (2, .int (m_bst (eM (τ 1)) (pB (eM (τ 1)) (nI j)) nh nj j h)), (3, .int (mo)), (4, .int (nI h)), (5, .int (m_pts (eM (τ 1)) (pB (eM (τ 1)) (nI j)) nj j h))] → W p l e ({ frames := 4, cells := 0, slots := 0, locals := 94 }) s m args below meth c H locs 0 0 Q (F0 m 54 ls [.int (w14)]) := by
            intro w14 e15 H locs ls hw hl
            subst e15
            refine lv_istore_n (lv' := [(3, .int ((if (m_bst (eM (τ 1)) (pB (eM (τ 1)) (nI j)) nh nj j h) < 0 then (m_pts (eM (τ 1)) (pB (eM (τ 1)) (nI j)) nj j h) else (if (m_pts (eM (τ 1)) (pB (eM (τ 1)) (nI j)) nj j h) ≤ mo then mo else (m_pts (eM (τ 1)) (pB (eM (τ 1)) (nI j)) nj j h))))), (0, .ref (a 70)), (1, .int (nI j)), (2, .int (m_bst (eM (τ 1)) (pB (eM (τ 1)) (nI j)) nh nj j h)), (4, .int (nI h)), (5, .int (m_pts (eM (τ 1)) (pB (eM (τ 1)) (nI j)) nj j h))]) hC.1 hC.2.1 dX11_bestFor_54 rfl hl (by decide) rfl (fun ls hl => ?_)
            refine lv_iload_n hC.1 hC.2.1 dX11_bestFor_55 rfl (lv_at hl 3 rfl) ?_
            have J76_17 : ∀ (w16 : Int32), w16 = (if (m_bst (eM (τ 1)) (pB (eM (τ 1)) (nI j)) nh nj j h) < 0 then (nI h) else (if (m_pts (eM (τ 1)) (pB (eM (τ 1)) (nI j)) nj j h) ≤ (m_pts (eM (τ 1)) (pB (eM (τ 1)) (nI j)) nj j ((m_bst (eM (τ 1)) (pB (eM (τ 1)) (nI j)) nh nj j h).toNatClampNeg)) then (m_bst (eM (τ 1)) (pB (eM (τ 1)) (nI j)) nh nj j h) else (nI h))) → ∀ (H : Heap) (locs : List Loc) (ls : Array Slot), Wst E (MW E a) (τ) A s.heap H locs → lv_has ls 6 [(0, .ref (a 70)), (1, .int (nI j)), (2, .int (m_bst (eM (τ 1)) (pB (eM (τ 1)) (nI j)) nh nj j h)), (3, .int ((if (m_bst (eM (τ 1)) (pB (eM (τ 1)) (nI j)) nh nj j h) < 0 then (m_pts (eM (τ 1)) (pB (eM (τ 1)) (nI j)) nj j h) else (if (m_pts (eM (τ 1)) (pB (eM (τ 1)) (nI j)) nj j h) ≤ mo then mo else (m_pts (eM (τ 1)) (pB (eM (τ 1)) (nI j)) nj j h))))), (4, .int (nI h)), (5, .int (m_pts (eM (τ 1)) (pB (eM (τ 1)) (nI j)) nj j h))] → W p l e ({ frames := 4, cells := 0, slots := 0, locals := 94 }) s m args below meth c H locs 0 0 Q (F0 m 76 ls [.int (w16)]) := by
              intro w16 e17 H locs ls hw hl
              subst e17
              refine lv_istore_n (lv' := [(2, .int ((if (m_bst (eM (τ 1)) (pB (eM (τ 1)) (nI j)) nh nj j h) < 0 then (nI h) else (if (m_pts (eM (τ 1)) (pB (eM (τ 1)) (nI j)) nj j h) ≤ (m_pts (eM (τ 1)) (pB (eM (τ 1)) (nI j)) nj j ((m_bst (eM (τ 1)) (pB (eM (τ 1)) (nI j)) nh nj j h).toNatClampNeg)) then (m_bst (eM (τ 1)) (pB (eM (τ 1)) (nI j)) nh nj j h) else (nI h))))), (0, .ref (a 70)), (1, .int (nI j)), (3, .int ((if (m_bst (eM (τ 1)) (pB (eM (τ 1)) (nI j)) nh nj j h) < 0 then (m_pts (eM (τ 1)) (pB (eM (τ 1)) (nI j)) nj j h) else (if (m_pts (eM (τ 1)) (pB (eM (τ 1)) (nI j)) nj j h) ≤ mo then mo else (m_pts (eM (τ 1)) (pB (eM (τ 1)) (nI j)) nj j h))))), (4, .int (nI h)), (5, .int (m_pts (eM (τ 1)) (pB (eM (τ 1)) (nI j)) nj j h))]) hC.1 hC.2.1 dX11_bestFor_76 rfl hl (by decide) rfl (fun ls hl => ?_)
              exact J77_9 _ (by (rw [if_pos c10]) <;> rfl) _ (by (rw [if_pos c10]) <;> rfl) _ _ _ hw (lv_sub hl [1, 2, 0, 3, 4] rfl)
            refine q_iflt hC 70 cI dX11_bestFor_56 (by decide) (fun (c18 : (m_bst (eM (τ 1)) (pB (eM (τ 1)) (nI j)) nh nj j h) < 0) => ?_) (fun (c18 : ¬ ((m_bst (eM (τ 1)) (pB (eM (τ 1)) (nI j)) nh nj j h) < 0)) => ?_)
            · refine lv_iload hC.1 hC.2.1 dX11_bestFor_70 (lv_at hl 4 rfl) ?_
              refine lv_goto (tgt := 76) hC.1 hC.2.1 dX11_bestFor_72 (by decide) ?_
              exact J76_17 _ (by (rw [if_pos c18]) <;> rfl) _ _ _ hw (lv_sub hl [1, 2, 3, 0, 4, 5] rfl)
            · refine lv_iload hC.1 hC.2.1 dX11_bestFor_59 (lv_at hl 5 rfl) ?_
              refine lv_aload_n hC.1 hC.2.1 dX11_bestFor_61 rfl (lv_at hl 1 rfl) ?_
              refine lv_iload_n hC.1 hC.2.1 dX11_bestFor_62 rfl (lv_at hl 2 rfl) ?_
              refine lv_iload_n hC.1 hC.2.1 dX11_bestFor_63 rfl (lv_at hl 3 rfl) ?_
              have hbc18 := m_bst_nat (show h < 2 ^ 31 by omega) c18
              refine q_top (y := nI ((m_bst (eM (τ 1)) (pB (eM (τ 1)) (nI j)) nh nj j h).toNatClampNeg)) hbc18.1 ?_
              refine q_callVp (As := [.int (nI j), .int (nI ((m_bst (eM (τ 1)) (pB (eM (τ 1)) (nI j)) nh nj j h).toNatClampNeg))]) (rest := [.int (m_pts (eM (τ 1)) (pB (eM (τ 1)) (nI j)) nj j h)]) (q0 := 0) hC hw hl (tX11_pointsOf l E a τ nh nj j ((m_bst (eM (τ 1)) (pB (eM (τ 1)) (nI j)) nh nj j h).toNatClampNeg) (by first | assumption | omega) (by first | assumption | omega) (by first | assumption | omega)) (q_cwV hC.2.2.2.2.1 ⟨rfl, rfl⟩ wk5_4 wk5_6 wks_3_2 wk1_12 wk5_7 hd_X11_pointsOf ⟨Nat.le_of_ble_eq_true rfl, Nat.le_of_ble_eq_true rfl⟩) rfl rfl rfl rfl rfl (Nat.le_of_ble_eq_true rfl) dX11_bestFor_64 (fun H locs hw => ?_)
              refine q_cmple hC 75 cI dX11_bestFor_67 (by decide) (fun (c22 : (m_pts (eM (τ 1)) (pB (eM (τ 1)) (nI j)) nj j h) ≤ (m_pts (eM (τ 1)) (pB (eM (τ 1)) (nI j)) nj j ((m_bst (eM (τ 1)) (pB (eM (τ 1)) (nI j)) nh nj j h).toNatClampNeg))) => ?_) (fun (c22 : ¬ ((m_pts (eM (τ 1)) (pB (eM (τ 1)) (nI j)) nj j h) ≤ (m_pts (eM (τ 1)) (pB (eM (τ 1)) (nI j)) nj j ((m_bst (eM (τ 1)) (pB (eM (τ 1)) (nI j)) nh nj j h).toNatClampNeg)))) => ?_)
              · refine lv_iload_n hC.1 hC.2.1 dX11_bestFor_75 rfl (lv_at hl 3 rfl) ?_
                exact J76_17 _ (by (rw [if_neg c18, if_pos c22]) <;> rfl) _ _ _ hw (lv_sub hl [1, 2, 3, 0, 4, 5] rfl)
              · refine lv_iload hC.1 hC.2.1 dX11_bestFor_70 (lv_at hl 4 rfl) ?_
                refine lv_goto (tgt := 76) hC.1 hC.2.1 dX11_bestFor_72 (by decide) ?_
                exact J76_17 _ (by (rw [if_neg c18, if_neg c22]) <;> rfl) _ _ _ hw (lv_sub hl [1, 2, 3, 0, 4, 5] rfl)
          refine q_iflt hC 48 cI dX11_bestFor_39 (by decide) (fun (c23 : (m_bst (eM (τ 1)) (pB (eM (τ 1)) (nI j)) nh nj j h) < 0) => ?_) (fun (c23 : ¬ ((m_bst (eM (τ 1)) (pB (eM (τ 1)) (nI j)) nh nj j h) < 0)) => ?_)
          · refine lv_iload hC.1 hC.2.1 dX11_bestFor_48 (lv_at hl 0 rfl) ?_
            refine lv_goto (tgt := 54) hC.1 hC.2.1 dX11_bestFor_50 (by decide) ?_
            exact J54_15 _ (by (rw [if_pos c23]) <;> rfl) _ _ _ hw (lv_sub hl [1, 2, 3, 4, 5, 0] rfl)
          · refine lv_iload hC.1 hC.2.1 dX11_bestFor_42 (lv_at hl 0 rfl) ?_
            refine lv_iload_n hC.1 hC.2.1 dX11_bestFor_44 rfl (lv_at hl 4 rfl) ?_
            refine q_cmple hC 53 cI dX11_bestFor_45 (by decide) (fun (c24 : (m_pts (eM (τ 1)) (pB (eM (τ 1)) (nI j)) nj j h) ≤ mo) => ?_) (fun (c24 : ¬ ((m_pts (eM (τ 1)) (pB (eM (τ 1)) (nI j)) nj j h) ≤ mo)) => ?_)
            · refine lv_iload_n hC.1 hC.2.1 dX11_bestFor_53 rfl (lv_at hl 4 rfl) ?_
              exact J54_15 _ (by (rw [if_neg c23, if_pos c24]) <;> rfl) _ _ _ hw (lv_sub hl [1, 2, 3, 4, 5, 0] rfl)
            · refine lv_iload hC.1 hC.2.1 dX11_bestFor_48 (lv_at hl 0 rfl) ?_
              refine lv_goto (tgt := 54) hC.1 hC.2.1 dX11_bestFor_50 (by decide) ?_
              exact J54_15 _ (by (rw [if_neg c23, if_neg c24]) <;> rfl) _ _ _ hw (lv_sub hl [1, 2, 3, 4, 5, 0] rfl)
  exact L8_0 _ 0 (nI 0) (-3) rfl (by omega) (Nat.lt_succ_self _) _ _ _ hw (lv_sub hl [3, 4, 2, 1, 0] rfl)
set_option maxHeartbeats 4000000 in
set_option maxRecDepth 100000 in
theorem tX11_stand (l : Launch) (E : EV) (a : Nat → Nat) (τ : St) (j : Nat) (h : Nat) (hj : j < 24) : MV l E (MW E a) yX11_stand (Cond.code yX11_stand cX11_stand 3 none) ({ frames := 0, cells := 0, slots := 0, locals := 0 }) [.ref (a 70), .int (nI j), .int (nI h)] τ (fun u_ => u_ = sr τ 1 (f_std (τ 1) j h)) := by
  refine MV.mk (by decide +kernel) (Nat.le_of_ble_eq_true rfl) ?_
  intro p e s m args below meth c ls A Q hret hC hw hl
  have hC : Cxt E p s m args meth c cX11_stand 3 none RX11 A := hC
  have hl : lv_has ls 3 [(0, .ref (a 70)), (1, .int (nI j)), (2, .int (nI h))] := hl
  refine lv_aload_n hC.1 hC.2.1 dX11_stand_0 rfl (lv_at hl 0 rfl) ?_
  refine gf_X11_7 hC hw dX11_stand_1 ?_
  refine lv_sipush (v := nI 258) hC.1 hC.2.1 dX11_stand_4 (by decide) ?_
  refine lv_iload_n hC.1 hC.2.1 dX11_stand_7 rfl (lv_at hl 1 rfl) ?_
  refine q_addN hC dX11_stand_8 ?_
  refine lv_iconst (v := nI 1) hC.1 hC.2.1 dX11_stand_9 (by decide) ?_
  refine as_M1 hC hw (by omega) dX11_stand_10 (fun H locs hw => ?_)
  have hw : Wst E (MW E a) (sr τ 1 (upd (τ 1) (258 + j) (1))) A s.heap H locs := hw
  refine lv_aload_n hC.1 hC.2.1 dX11_stand_11 rfl (lv_at hl 0 rfl) ?_
  refine gf_X11_7 hC hw dX11_stand_12 ?_
  refine lv_sipush (v := nI 282) hC.1 hC.2.1 dX11_stand_15 (by decide) ?_
  refine lv_iload_n hC.1 hC.2.1 dX11_stand_18 rfl (lv_at hl 1 rfl) ?_
  refine q_addN hC dX11_stand_19 ?_
  refine lv_iload_n hC.1 hC.2.1 dX11_stand_20 rfl (lv_at hl 2 rfl) ?_
  refine as_M1 hC hw (by omega) dX11_stand_21 (fun H locs hw => ?_)
  have hw : Wst E (MW E a) (sr τ 1 (upd (upd (τ 1) (258 + j) (1)) (282 + j) (nI h))) A s.heap H locs := hw
  refine lv_aload_n hC.1 hC.2.1 dX11_stand_22 rfl (lv_at hl 0 rfl) ?_
  refine gf_X11_7 hC hw dX11_stand_23 ?_
  refine lv_iconst (v := nI 5) hC.1 hC.2.1 dX11_stand_26 (by decide) ?_
  refine lv_dup2_11 hC.1 hC.2.1 dX11_stand_27 rfl rfl ?_
  refine al_M1 (v := eM (upd (upd (τ 1) (258 + j) (1)) (282 + j) (nI h)) 0 2) hC hw (by omega) rfl dX11_stand_28 ?_
  refine lv_iconst (v := nI 1) hC.1 hC.2.1 dX11_stand_29 (by decide) ?_
  refine lv_iadd hC.1 hC.2.1 dX11_stand_30 ?_
  refine as_M1 hC hw (by omega) dX11_stand_31 (fun H locs hw => ?_)
  have hw : Wst E (MW E a) (sr τ 1 (upd (upd (upd (τ 1) (258 + j) (1)) (282 + j) (nI h)) 5 ((eM (upd (upd (τ 1) (258 + j) (1)) (282 + j) (nI h)) 0 2) + 1))) A s.heap H locs := hw
  refine lv_aload_n hC.1 hC.2.1 dX11_stand_32 rfl (lv_at hl 0 rfl) ?_
  refine gf_X11_7 hC hw dX11_stand_33 ?_
  refine lv_sipush (v := nI 306) hC.1 hC.2.1 dX11_stand_36 (by decide) ?_
  refine lv_iload_n hC.1 hC.2.1 dX11_stand_39 rfl (lv_at hl 1 rfl) ?_
  refine q_addN hC dX11_stand_40 ?_
  refine lv_aload_n hC.1 hC.2.1 dX11_stand_41 rfl (lv_at hl 0 rfl) ?_
  refine gf_X11_7 hC hw dX11_stand_42 ?_
  refine lv_iconst (v := nI 5) hC.1 hC.2.1 dX11_stand_45 (by decide) ?_
  refine al_M1 (v := eM (upd (upd (upd (τ 1) (258 + j) (1)) (282 + j) (nI h)) 5 ((eM (upd (upd (τ 1) (258 + j) (1)) (282 + j) (nI h)) 0 2) + 1)) 0 2) hC hw (by omega) rfl dX11_stand_46 ?_
  refine as_M1 hC hw (by omega) dX11_stand_47 (fun H locs hw => ?_)
  have hw : Wst E (MW E a) (sr τ 1 (upd (upd (upd (upd (τ 1) (258 + j) (1)) (282 + j) (nI h)) 5 ((eM (upd (upd (τ 1) (258 + j) (1)) (282 + j) (nI h)) 0 2) + 1)) (306 + j) (eM (upd (upd (upd (τ 1) (258 + j) (1)) (282 + j) (nI h)) 5 ((eM (upd (upd (τ 1) (258 + j) (1)) (282 + j) (nI h)) 0 2) + 1)) 0 2))) A s.heap H locs := hw
  refine hret _ _ _ _ _ hw ?_ dX11_stand_48
  exact congrArg (sr τ 1) (std_eq (by omega))
set_option maxHeartbeats 4000000 in
set_option maxRecDepth 100000 in
theorem tX11_keepSpare (l : Launch) (E : EV) (a : Nat → Nat) (τ : St)  : MV l E (MW E a) yX11_keepSpare (Cond.code yX11_keepSpare cX11_keepSpare 2 none) ({ frames := 0, cells := 0, slots := 0, locals := 0 }) [.ref (a 70)] τ (fun u_ => u_ = sr τ 4 (cpy 354 (τ 1) (τ 4))) := by
  refine MV.mk (by decide +kernel) (Nat.le_of_ble_eq_true rfl) ?_
  intro p e s m args below meth c ls A Q hret hC hw hl
  have hC : Cxt E p s m args meth c cX11_keepSpare 2 none RX11 A := hC
  have hl : lv_has ls 2 [(0, .ref (a 70))] := hl
  refine lv_iconst (v := nI 0) hC.1 hC.2.1 dX11_keepSpare_0 (by decide) ?_
  refine lv_istore_n (lv' := [(1, .int (nI 0)), (0, .ref (a 70))]) hC.1 hC.2.1 dX11_keepSpare_1 rfl hl (by decide) rfl (fun ls hl => ?_)
  have L2_0 : ∀ (n : Nat), ∀ (k : Nat), (k ≤ 354) → (354 - k) < n → ∀ (H : Heap) (locs : List Loc) (ls : Array Slot), Wst E (MW E a) (sr τ 4 (cpy k (τ 1) (τ 4))) A s.heap H locs → lv_has ls 2 [(0, .ref (a 70)), (1, .int (nI k))] → W p l e ({ frames := 0, cells := 0, slots := 0, locals := 0 }) s m args below meth c H locs 0 0 Q (F0 m 2 ls []) := by
    intro n
    induction n with
    | zero => intro k hk hn; exact absurd hn (Nat.not_lt_zero _)
    | succ n ih2 =>
      intro k hk hn2 H locs ls hw hl
      refine lv_iload_n hC.1 hC.2.1 dX11_keepSpare_2 rfl (lv_at hl 1 rfl) ?_
      refine lv_sipush (v := nI 354) hC.1 hC.2.1 dX11_keepSpare_3 (by decide) ?_
      refine q_cmpge hC 27 (cNle (by omega) (by omega)) dX11_keepSpare_6 (by decide) (fun (c2 : 354 ≤ k) => ?_) (fun (c2 : k < 354) => ?_)
      · refine hret _ _ _ _ _ hw ?_ dX11_keepSpare_27
        exact by rw [show k = 354 by omega]
      · refine lv_aload_n hC.1 hC.2.1 dX11_keepSpare_9 rfl (lv_at hl 0 rfl) ?_
        refine gf_X11_19 hC hw dX11_keepSpare_10 ?_
        refine lv_iload_n hC.1 hC.2.1 dX11_keepSpare_13 rfl (lv_at hl 1 rfl) ?_
        refine lv_aload_n hC.1 hC.2.1 dX11_keepSpare_14 rfl (lv_at hl 0 rfl) ?_
        refine gf_X11_7 hC hw dX11_keepSpare_15 ?_
        refine lv_iload_n hC.1 hC.2.1 dX11_keepSpare_18 rfl (lv_at hl 1 rfl) ?_
        refine al_M1 (v := τ 1 k) hC hw (by omega) rfl dX11_keepSpare_19 ?_
        refine as_M4 hC hw (by omega) dX11_keepSpare_20 (fun H locs hw => ?_)
        have hw : Wst E (MW E a) (sr τ 4 (upd (cpy k (τ 1) (τ 4)) k (τ 1 k))) A s.heap H locs := hw
        refine lv_iinc (v := nI (k + 1)) (lv' := [(1, .int (nI (k + 1))), (0, .ref (a 70))]) hC.1 hC.2.1 dX11_keepSpare_21 hl (k := 1) rfl (nI_add _ _) (by decide) rfl (fun ls hl => ?_)
        refine lv_goto (tgt := 2) hC.1 hC.2.1 dX11_keepSpare_24 (by decide) ?_
        rw [cpy_s] at hw
        exact ih2 (k + 1) (by omega) (by omega) _ _ _ hw (lv_sub hl [1, 0] rfl)
  have hw : Wst E (MW E a) (sr τ 4 (cpy 0 (τ 1) (τ 4))) A s.heap s.heap [] := by rw [cpy_0]; exact hw
  exact L2_0 _ 0 (by omega) (Nat.lt_succ_self _) _ _ _ hw (lv_sub hl [1, 0] rfl)
set_option maxHeartbeats 4000000 in
set_option maxRecDepth 100000 in
theorem tX11_backSpare (l : Launch) (E : EV) (a : Nat → Nat) (τ : St)  : MV l E (MW E a) yX11_backSpare (Cond.code yX11_backSpare cX11_backSpare 2 none) ({ frames := 0, cells := 0, slots := 0, locals := 0 }) [.ref (a 70)] τ (fun u_ => u_ = sr τ 1 (cpy 354 (τ 4) (τ 1))) := by
  refine MV.mk (by decide +kernel) (Nat.le_of_ble_eq_true rfl) ?_
  intro p e s m args below meth c ls A Q hret hC hw hl
  have hC : Cxt E p s m args meth c cX11_backSpare 2 none RX11 A := hC
  have hl : lv_has ls 2 [(0, .ref (a 70))] := hl
  refine lv_iconst (v := nI 0) hC.1 hC.2.1 dX11_backSpare_0 (by decide) ?_
  refine lv_istore_n (lv' := [(1, .int (nI 0)), (0, .ref (a 70))]) hC.1 hC.2.1 dX11_backSpare_1 rfl hl (by decide) rfl (fun ls hl => ?_)
  have L2_0 : ∀ (n : Nat), ∀ (k : Nat), (k ≤ 354) → (354 - k) < n → ∀ (H : Heap) (locs : List Loc) (ls : Array Slot), Wst E (MW E a) (sr τ 1 (cpy k (τ 4) (τ 1))) A s.heap H locs → lv_has ls 2 [(0, .ref (a 70)), (1, .int (nI k))] → W p l e ({ frames := 0, cells := 0, slots := 0, locals := 0 }) s m args below meth c H locs 0 0 Q (F0 m 2 ls []) := by
    intro n
    induction n with
    | zero => intro k hk hn; exact absurd hn (Nat.not_lt_zero _)
    | succ n ih2 =>
      intro k hk hn2 H locs ls hw hl
      refine lv_iload_n hC.1 hC.2.1 dX11_backSpare_2 rfl (lv_at hl 1 rfl) ?_
      refine lv_sipush (v := nI 354) hC.1 hC.2.1 dX11_backSpare_3 (by decide) ?_
      refine q_cmpge hC 27 (cNle (by omega) (by omega)) dX11_backSpare_6 (by decide) (fun (c2 : 354 ≤ k) => ?_) (fun (c2 : k < 354) => ?_)
      · refine hret _ _ _ _ _ hw ?_ dX11_backSpare_27
        exact by rw [show k = 354 by omega]
      · refine lv_aload_n hC.1 hC.2.1 dX11_backSpare_9 rfl (lv_at hl 0 rfl) ?_
        refine gf_X11_7 hC hw dX11_backSpare_10 ?_
        refine lv_iload_n hC.1 hC.2.1 dX11_backSpare_13 rfl (lv_at hl 1 rfl) ?_
        refine lv_aload_n hC.1 hC.2.1 dX11_backSpare_14 rfl (lv_at hl 0 rfl) ?_
        refine gf_X11_19 hC hw dX11_backSpare_15 ?_
        refine lv_iload_n hC.1 hC.2.1 dX11_backSpare_18 rfl (lv_at hl 1 rfl) ?_
        refine al_M4 (v := τ 4 k) hC hw (by omega) rfl dX11_backSpare_19 ?_
        refine as_M1 hC hw (by omega) dX11_backSpare_20 (fun H locs hw => ?_)
        have hw : Wst E (MW E a) (sr τ 1 (upd (cpy k (τ 4) (τ 1)) k (τ 4 k))) A s.heap H locs := hw
        refine lv_iinc (v := nI (k + 1)) (lv' := [(1, .int (nI (k + 1))), (0, .ref (a 70))]) hC.1 hC.2.1 dX11_backSpare_21 hl (k := 1) rfl (nI_add _ _) (by decide) rfl (fun ls hl => ?_)
        refine lv_goto (tgt := 2) hC.1 hC.2.1 dX11_backSpare_24 (by decide) ?_
        rw [cpy_s] at hw
        exact ih2 (k + 1) (by omega) (by omega) _ _ _ hw (lv_sub hl [1, 0] rfl)
  have hw : Wst E (MW E a) (sr τ 1 (cpy 0 (τ 4) (τ 1))) A s.heap s.heap [] := by rw [cpy_0]; exact hw
  exact L2_0 _ 0 (by omega) (Nat.lt_succ_self _) _ _ _ hw (lv_sub hl [1, 0] rfl)
set_option maxHeartbeats 4000000 in
set_option maxRecDepth 100000 in
theorem tX11_keep (l : Launch) (E : EV) (a : Nat → Nat) (τ : St) (stk : List (Nat → Int32)) (hO : τ 0 0 = nI stk.length) (hKR : KR (τ 2) stk) : MV l E (MW E a) yX11_keep (Cond.code yX11_keep cX11_keep 2 none) ({ frames := 0, cells := 0, slots := 0, locals := 0 }) [.ref (a 70)] τ (fun u_ => ∃ K : Nat → Int32, KR K (push30 stk (τ 1)) ∧ u_ = sr (sr τ 2 K) 0 (upd (τ 0) 0 (nI (push30 stk (τ 1)).length))) := by
  refine MV.mk (by decide +kernel) (Nat.le_of_ble_eq_true rfl) ?_
  intro p e s m args below meth c ls A Q hret hC hw hl
  have hC : Cxt E p s m args meth c cX11_keep 2 none RX11 A := hC
  have hl : lv_has ls 2 [(0, .ref (a 70))] := hl
  have hk30 := hKR.1
  refine lv_aload_n hC.1 hC.2.1 dX11_keep_0 rfl (lv_at hl 0 rfl) ?_
  refine gf_X11_54 (v := nI stk.length) hC hw hO dX11_keep_1 ?_
  refine lv_bipush (v := nI 30) hC.1 hC.2.1 dX11_keep_4 (by decide) ?_
  have J52_0 : ∀ (K1 : Nat → Int32), ∀ (o1 : Int32), ∀ (stk1 : List (Nat → Int32)), (KR K1 stk1) → (stk1.length < 30) → (o1 = nI stk1.length) → (push30 stk (τ 1) = stk1 ++ [τ 1]) → ∀ (H : Heap) (locs : List Loc) (ls : Array Slot), Wst E (MW E a) (sr (sr τ 2 (K1)) 0 (upd (τ 0) 0 (o1))) A s.heap H locs → lv_has ls 2 [(0, .ref (a 70))] → W p l e ({ frames := 0, cells := 0, slots := 0, locals := 0 }) s m args below meth c H locs 0 0 Q (F0 m 52 ls []) := by
    intro K1 o1 stk1 hk1 hl1 ho1 hp1 H locs ls hw hl
    refine lv_iconst (v := nI 0) hC.1 hC.2.1 dX11_keep_52 (by decide) ?_
    refine lv_istore_n (lv' := [(1, .int (nI 0)), (0, .ref (a 70))]) hC.1 hC.2.1 dX11_keep_53 rfl hl (by decide) rfl (fun ls hl => ?_)
    have L54_1 : ∀ (n : Nat), ∀ (k : Nat), (k ≤ 354) → (354 - k) < n → ∀ (H : Heap) (locs : List Loc) (ls : Array Slot), Wst E (MW E a) (sr (sr τ 2 (cpa k (354 * stk1.length) (τ 1) K1)) 0 (upd (τ 0) 0 (o1))) A s.heap H locs → lv_has ls 2 [(0, .ref (a 70)), (1, .int (nI k))] → W p l e ({ frames := 0, cells := 0, slots := 0, locals := 0 }) s m args below meth c H locs 0 0 Q (F0 m 54 ls []) := by
      intro n
      induction n with
      | zero => intro k hk hn; exact absurd hn (Nat.not_lt_zero _)
      | succ n ih54 =>
        intro k hk hn54 H locs ls hw hl
        refine lv_iload_n hC.1 hC.2.1 dX11_keep_54 rfl (lv_at hl 1 rfl) ?_
        refine lv_sipush (v := nI 354) hC.1 hC.2.1 dX11_keep_55 (by decide) ?_
        refine q_cmpge hC 88 (cNle (by omega) (by omega)) dX11_keep_58 (by decide) (fun (c3 : 354 ≤ k) => ?_) (fun (c3 : k < 354) => ?_)
        · refine lv_aload_n hC.1 hC.2.1 dX11_keep_88 rfl (lv_at hl 0 rfl) ?_
          refine lv_dup hC.1 hC.2.1 dX11_keep_89 rfl ?_
          refine gf_X11_54 (v := nI stk1.length) hC hw ho1 dX11_keep_90 ?_
          refine lv_iconst (v := nI 1) hC.1 hC.2.1 dX11_keep_93 (by decide) ?_
          refine q_addN hC dX11_keep_94 ?_
          refine pf_X11_54 hC hw dX11_keep_95 (fun H locs hw => ?_)
          have hw : Wst E (MW E a) (sr (sr τ 2 (cpa k (354 * stk1.length) (τ 1) K1)) 0 (upd (τ 0) 0 (nI (stk1.length + 1)))) A s.heap H locs := hw
          refine hret _ _ _ _ _ hw ?_ dX11_keep_98
          have hk4 : k = 354 := by omega
          subst hk4
          exact ⟨cpa 354 (354 * stk1.length) (τ 1) K1, by rw [hp1]; exact hk1.push hl1 rfl, by rw [hp1]; simp only [List.length_append, List.length_singleton]⟩
        · refine lv_aload_n hC.1 hC.2.1 dX11_keep_61 rfl (lv_at hl 0 rfl) ?_
          refine gf_X11_13 hC hw dX11_keep_62 ?_
          refine lv_sipush (v := nI 354) hC.1 hC.2.1 dX11_keep_65 (by decide) ?_
          refine lv_aload_n hC.1 hC.2.1 dX11_keep_68 rfl (lv_at hl 0 rfl) ?_
          refine gf_X11_54 (v := nI stk1.length) hC hw ho1 dX11_keep_69 ?_
          refine q_mulN hC dX11_keep_72 ?_
          refine lv_iload_n hC.1 hC.2.1 dX11_keep_73 rfl (lv_at hl 1 rfl) ?_
          refine q_addN hC dX11_keep_74 ?_
          refine lv_aload_n hC.1 hC.2.1 dX11_keep_75 rfl (lv_at hl 0 rfl) ?_
          refine gf_X11_7 hC hw dX11_keep_76 ?_
          refine lv_iload_n hC.1 hC.2.1 dX11_keep_79 rfl (lv_at hl 1 rfl) ?_
          refine al_M1 (v := τ 1 k) hC hw (by omega) rfl dX11_keep_80 ?_
          refine as_M2 hC hw (by omega) dX11_keep_81 (fun H locs hw => ?_)
          have hw : Wst E (MW E a) (sr (sr τ 2 (upd (cpa k (354 * stk1.length) (τ 1) K1) ((354 * stk1.length) + k) (τ 1 k))) 0 (upd (τ 0) 0 (o1))) A s.heap H locs := hw
          refine lv_iinc (v := nI (k + 1)) (lv' := [(1, .int (nI (k + 1))), (0, .ref (a 70))]) hC.1 hC.2.1 dX11_keep_82 hl (k := 1) rfl (nI_add _ _) (by decide) rfl (fun ls hl => ?_)
          refine lv_goto (tgt := 54) hC.1 hC.2.1 dX11_keep_85 (by decide) ?_
          rw [cpa_s] at hw
          exact ih54 (k + 1) (by omega) (by omega) _ _ _ hw (lv_sub hl [1, 0] rfl)
    have hw : Wst E (MW E a) (sr (sr τ 2 (cpa 0 (354 * stk1.length) (τ 1) K1)) 0 (upd (τ 0) 0 o1)) A s.heap H locs := by rw [cpa_0]; exact hw
    exact L54_1 _ 0 (by omega) (Nat.lt_succ_self _) _ _ _ hw (lv_sub hl [1, 0] rfl)
  refine q_cmpne hC 52 (cNeq (by omega) (by omega)) dX11_keep_6 (by decide) (fun (c4 : stk.length ≠ 30) => ?_) (fun (c4 : stk.length = 30) => ?_)
  · exact J52_0 (τ 2) (τ 0 0) stk hKR (by omega) hO (by rw [push30, if_neg c4]) _ _ _ hw (lv_sub hl [0] rfl)
  · refine lv_sipush (v := nI 354) hC.1 hC.2.1 dX11_keep_9 (by decide) ?_
    refine lv_istore_n (lv' := [(1, .int (nI 354)), (0, .ref (a 70))]) hC.1 hC.2.1 dX11_keep_12 rfl hl (by decide) rfl (fun ls hl => ?_)
    have L13_4 : ∀ (n : Nat), ∀ (k : Nat), (354 ≤ k ∧ k ≤ 10620) → (10620 - k) < n → ∀ (H : Heap) (locs : List Loc) (ls : Array Slot), Wst E (MW E a) (sr τ 2 (shf k (τ 2))) A s.heap H locs → lv_has ls 2 [(0, .ref (a 70)), (1, .int (nI k))] → W p l e ({ frames := 0, cells := 0, slots := 0, locals := 0 }) s m args below meth c H locs 0 0 Q (F0 m 13 ls []) := by
      intro n
      induction n with
      | zero => intro k hk hn; exact absurd hn (Nat.not_lt_zero _)
      | succ n ih13 =>
        intro k hk hn13 H locs ls hw hl
        refine lv_iload_n hC.1 hC.2.1 dX11_keep_13 rfl (lv_at hl 1 rfl) ?_
        refine lv_sipush (v := nI 10620) hC.1 hC.2.1 dX11_keep_14 (by decide) ?_
        refine q_cmpge hC 42 (cNle (by omega) (by omega)) dX11_keep_17 (by decide) (fun (c6 : 10620 ≤ k) => ?_) (fun (c6 : k < 10620) => ?_)
        · refine lv_aload_n hC.1 hC.2.1 dX11_keep_42 rfl (lv_at hl 0 rfl) ?_
          refine lv_dup hC.1 hC.2.1 dX11_keep_43 rfl ?_
          refine gf_X11_54 (v := nI stk.length) hC hw hO dX11_keep_44 ?_
          refine lv_iconst (v := nI 1) hC.1 hC.2.1 dX11_keep_47 (by decide) ?_
          refine q_subN hC (by omega) dX11_keep_48 ?_
          refine pf_X11_54 hC hw dX11_keep_49 (fun H locs hw => ?_)
          have hw : Wst E (MW E a) (sr (sr τ 2 (shf k (τ 2))) 0 (upd (τ 0) 0 (nI (stk.length - 1)))) A s.heap H locs := hw
          have hk9 : k = 10620 := by omega
          subst hk9
          exact J52_0 (shf 10620 (τ 2)) (nI (stk.length - 1)) stk.tail (hKR.tail c4).1 (by rw [(hKR.tail c4).2]; omega) (by rw [(hKR.tail c4).2, c4]) (by rw [push30, if_pos c4]) _ _ _ hw (lv_sub hl [0] rfl)
        · refine lv_aload_n hC.1 hC.2.1 dX11_keep_20 rfl (lv_at hl 0 rfl) ?_
          refine gf_X11_13 hC hw dX11_keep_21 ?_
          refine lv_iload_n hC.1 hC.2.1 dX11_keep_24 rfl (lv_at hl 1 rfl) ?_
          refine lv_sipush (v := nI 354) hC.1 hC.2.1 dX11_keep_25 (by decide) ?_
          refine q_subN hC (by omega) dX11_keep_28 ?_
          refine lv_aload_n hC.1 hC.2.1 dX11_keep_29 rfl (lv_at hl 0 rfl) ?_
          refine gf_X11_13 hC hw dX11_keep_30 ?_
          refine lv_iload_n hC.1 hC.2.1 dX11_keep_33 rfl (lv_at hl 1 rfl) ?_
          refine al_M2 (v := (shf k (τ 2)) k) hC hw (by omega) rfl dX11_keep_34 ?_
          refine as_M2 hC hw (by omega) dX11_keep_35 (fun H locs hw => ?_)
          have hw : Wst E (MW E a) (sr τ 2 (upd (shf k (τ 2)) (k - 354) ((shf k (τ 2)) k))) A s.heap H locs := hw
          refine lv_iinc (v := nI (k + 1)) (lv' := [(1, .int (nI (k + 1))), (0, .ref (a 70))]) hC.1 hC.2.1 dX11_keep_36 hl (k := 1) rfl (nI_add _ _) (by decide) rfl (fun ls hl => ?_)
          refine lv_goto (tgt := 13) hC.1 hC.2.1 dX11_keep_39 (by decide) ?_
          rw [shf_s (by omega)] at hw
          exact ih13 (k + 1) (by omega) (by omega) _ _ _ hw (lv_sub hl [1, 0] rfl)
    have hw : Wst E (MW E a) (sr τ 2 (shf 354 (τ 2))) A s.heap s.heap [] := by rw [shf_0]; exact hw
    exact L13_4 _ 354 (by omega) (Nat.lt_succ_self _) _ _ _ hw (lv_sub hl [1, 0] rfl)
