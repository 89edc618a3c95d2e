/-- what would answers -/
def WOr (v : Nat → Int32) (nh nj : Nat) (job what r : Int32) : Prop := (¬ (okB job nj ∧ okB what 4) ∧ r = -1) ∨ ((okB job nj ∧ okB what 4) ∧ (((¬ eM v 11 (cN job) = 0 ∨ m_fit (eM v) (pB (eM v) job) nh nj (cN job) nh = true) ∧ r = -2) ∨ ((eM v 11 (cN job) = 0 ∧ ¬ m_fit (eM v) (pB (eM v) job) nh nj (cN job) nh = true) ∧ ∃ (c : Nat → Int32) (f : Int32), WDr v nh nj (cN job) f c ∧ r = if f = 1 then c (cN what) else -3)))
theorem sr_sr {σ : St} {k : Nat} {f g : Nat → Int32} : sr (sr σ k f) k g = sr σ k g := funext fun j => by
  unfold sr
  by_cases e : j = k
  · rw [if_pos e, if_pos e]
  · rw [if_neg e, if_neg e, if_neg e]
set_option maxHeartbeats 4000000 in
set_option maxRecDepth 100000 in
theorem tX11_would (l : Launch) (E : EV) (a : Nat → Nat) (τ : St) (nh : Nat) (nj : Nat) (job : Int32) (what : Int32) (hW : mF (τ 1) nh nj) : MI l E (MW E a) yX11_would (Cond.code yX11_would cX11_would 3 (some .int)) ({ frames := 5, cells := 0, slots := 0, locals := 122 }) [.ref (a 70), .int (job), .int (what)] τ (fun r_ u_ => ∃ c13 : Nat → Int32, WOr (τ 1) nh nj job what r_ ∧ u_ = sr τ 13 c13) := by
  refine MI.mk (by decide +kernel) (Nat.le_of_ble_eq_true rfl) ?_
  intro p e s m args below meth c ls A Q hret hC hw hl
  have hC : Cxt E p s m args meth c cX11_would 3 (some .int) RX11 A := hC
  have hl : lv_has ls 3 [(0, .ref (a 70)), (1, .int (job)), (2, .int (what))] := hl
  have ⟨hnh, hnj, hW0, hW1, hWh⟩ := id hW
  refine lv_aload_n hC.1 hC.2.1 dX11_would_0 rfl (lv_at hl 0 rfl) ?_
  refine lv_iload_n hC.1 hC.2.1 dX11_would_1 rfl (lv_at hl 1 rfl) ?_
  refine q_callVp (As := [.int (job)]) (rest := []) (q0 := 0) hC hw hl (tX11_isJob l E a τ nh nj job (by first | assumption | omega)) (q_cwV hC.2.2.2.2.1 ⟨rfl, rfl⟩ wk4_194 wk4_196 wks_2_7 wk1_12 wk4_197 hd_X11_isJob ⟨Nat.le_of_ble_eq_true rfl, Nat.le_of_ble_eq_true rfl⟩) rfl rfl rfl rfl rfl (Nat.le_of_ble_eq_true rfl) dX11_would_2 (fun H locs hw => ?_)
  refine q_ifeq hC 17 cB dX11_would_5 (by decide) (fun (c4 : ¬ (¬ job < 0 ∧ job < nI nj)) => ?_) (fun (c4 : ¬ job < 0 ∧ job < nI nj) => ?_)
  · refine lv_iconst (v := (-1)) hC.1 hC.2.1 dX11_would_17 (by decide) ?_
    refine hret _ _ _ _ _ _ hw ?_ rfl dX11_would_18
    refine ⟨τ 13, Or.inl ⟨fun q => c4 q.1, rfl⟩, ?_⟩
    funext j_ x_
    by_cases e0 : j_ = 0
    · subst e0
      rfl
    · by_cases e13 : j_ = 13
      · subst e13; rfl
      · simp only [sr, e0, e13, if_false]
  · refine lv_iload_n hC.1 hC.2.1 dX11_would_8 rfl (lv_at hl 2 rfl) ?_
    refine lv_iconst (v := nI 0) hC.1 hC.2.1 dX11_would_9 (by decide) ?_
    refine lv_iconst (v := nI 3) hC.1 hC.2.1 dX11_would_10 (by decide) ?_
    refine q_callSp (As := [.int (what), .int (nI 0), .int (nI 3)]) (rest := []) hC hw hl (tX11_in l E a τ what 0 3) (q_cwS hC.2.2.2.2.1 ⟨rfl, rfl⟩ wk4_175 wk4_176 wk1_12 wk4_177 hd_X11_in.2 ⟨Nat.le_of_ble_eq_true rfl, Nat.le_of_ble_eq_true rfl⟩) rfl rfl (Nat.le_of_ble_eq_true rfl) dX11_would_11 (fun H locs hw => ?_)
    refine q_ifne hC 19 cB dX11_would_14 (by decide) (fun (c8 : ¬ what < 0 ∧ ¬ 3 < what) => ?_) (fun (c8 : ¬ (¬ what < 0 ∧ ¬ 3 < what)) => ?_)
    · obtain ⟨j, h_j, rfl⟩ := in_nat (by omega) c4
      have z_j := nI_clamp (show j < 2 ^ 31 by omega)
      have y_j : cN (nI j) = j := z_j
      refine lv_aload_n hC.1 hC.2.1 dX11_would_19 rfl (lv_at hl 0 rfl) ?_
      refine gf_X11_7 hC hw dX11_would_20 ?_
      refine lv_sipush (v := nI 258) hC.1 hC.2.1 dX11_would_23 (by decide) ?_
      refine lv_iload_n hC.1 hC.2.1 dX11_would_26 rfl (lv_at hl 1 rfl) ?_
      refine q_addN hC dX11_would_27 ?_
      refine al_M1 (v := eM (τ 1) 11 j) hC hw (by omega) (show _ = eM (τ 1) 11 j from congrArg (τ 1) (by omega)) dX11_would_28 ?_
      refine q_ifne hC 40 cI dX11_would_29 (by decide) (fun (c9 : ¬ ((eM (τ 1) 11 j) = 0)) => ?_) (fun (c9 : (eM (τ 1) 11 j) = 0) => ?_)
      · refine lv_bipush (v := (-2)) hC.1 hC.2.1 dX11_would_40 (by decide) ?_
        refine hret _ _ _ _ _ _ hw ?_ rfl dX11_would_42
        have hok : okB (nI j) nj ∧ okB what 4 := ⟨c4, (le_iff (n := 3) (by decide)).mp c8⟩
        refine ⟨τ 13, Or.inr ⟨hok, Or.inl ⟨by rw [y_j]; exact Or.inl c9, rfl⟩⟩, ?_⟩
        funext j_ x_
        by_cases e0 : j_ = 0
        · subst e0
          rfl
        · by_cases e13 : j_ = 13
          · subst e13; rfl
          · simp only [sr, e0, e13, if_false]
      · refine lv_aload_n hC.1 hC.2.1 dX11_would_32 rfl (lv_at hl 0 rfl) ?_
        refine lv_iload_n hC.1 hC.2.1 dX11_would_33 rfl (lv_at hl 1 rfl) ?_
        refine q_callVp (As := [.int (nI j)]) (rest := []) (q0 := 0) hC hw hl (tX11_fitsAny l E a τ nh nj j hW h_j) (q_cwV hC.2.2.2.2.1 ⟨rfl, rfl⟩ wk5_140 wk5_142 wks_4_4 wk1_12 wk5_143 hd_X11_fitsAny ⟨Nat.le_of_ble_eq_true rfl, Nat.le_of_ble_eq_true rfl⟩) rfl rfl rfl rfl rfl (Nat.le_of_ble_eq_true rfl) dX11_would_34 (fun H locs hw => ?_)
        refine q_ifeq hC 43 cB dX11_would_37 (by decide) (fun (c13 : ¬ (m_fit (eM (τ 1)) (pB (eM (τ 1)) (nI j)) nh nj j nh = true)) => ?_) (fun (c13 : m_fit (eM (τ 1)) (pB (eM (τ 1)) (nI j)) nh nj j nh = true) => ?_)
        · refine lv_aload_n hC.1 hC.2.1 dX11_would_43 rfl (lv_at hl 0 rfl) ?_
          refine lv_iload_n hC.1 hC.2.1 dX11_would_44 rfl (lv_at hl 1 rfl) ?_
          refine q_callV (As := [.int (nI j)]) (rest := []) (q0 := 0) hC hw hl (tX11_byTaint l E a τ nh nj j hW h_j) (q_cwV hC.2.2.2.2.1 ⟨rfl, rfl⟩ wk5_144 wk5_146 wks_4_5 wk1_12 wk5_147 hd_X11_byTaint ⟨Nat.le_of_ble_eq_true rfl, Nat.le_of_ble_eq_true rfl⟩) rfl rfl rfl rfl rfl (Nat.le_of_ble_eq_true rfl) dX11_would_45 (fun r15 u16 H locs p14 hw => ?_)
          obtain ⟨c13_17, hA, huA⟩ := p14
          have hw : Wst E (MW E a) (sr τ 13 (c13_17)) A s.heap H locs := by rw [huA] at hw; exact hw
          refine q_ifne hC 67 cI dX11_would_48 (by decide) (fun (c18 : ¬ (r15 = 0)) => ?_) (fun (c18 : r15 = 0) => ?_)
          · obtain ⟨qq, h_qq, rfl⟩ := in_nat (by omega) ((le_iff (n := 3) (by decide)).mp c8)
            have z_qq := nI_clamp (show qq < 2 ^ 31 by omega)
            have y_qq : cN (nI qq) = qq := z_qq
            refine lv_aload_n hC.1 hC.2.1 dX11_would_67 rfl (lv_at hl 0 rfl) ?_
            refine gf_X11_47 hC hw dX11_would_68 ?_
            refine lv_iload_n hC.1 hC.2.1 dX11_would_71 rfl (lv_at hl 2 rfl) ?_
            refine al_M13 (v := (c13_17) qq) hC hw (by omega) rfl dX11_would_72 ?_
            refine lv_goto (tgt := 78) hC.1 hC.2.1 dX11_would_73 (by decide) ?_
            refine hret _ _ _ _ _ _ hw ?_ rfl dX11_would_78
            have hok : okB (nI j) nj ∧ okB (nI qq) 4 := ⟨c4, (le_iff (n := 3) (by decide)).mp c8⟩
            have hst : eM (τ 1) 11 (cN (nI j)) = 0 ∧ ¬ m_fit (eM (τ 1)) (pB (eM (τ 1)) (nI j)) nh nj (cN (nI j)) nh = true := by rw [y_j]; exact ⟨c9, c13⟩
            have hA0 := hA.resolve_right (fun q => c18 q.2)
            obtain ⟨b, h, g1, -, g2⟩ := hA0
            refine ⟨c13_17, Or.inr ⟨hok, Or.inr ⟨hst, c13_17, 1, by rw [y_j]; exact Or.inl ⟨b, h, g1, rfl, g2⟩, by rw [y_qq]; rfl⟩⟩, ?_⟩
            funext j_ x_
            by_cases e0 : j_ = 0
            · subst e0
              rfl
            · by_cases e13 : j_ = 13
              · subst e13; rfl
              · simp only [sr, e0, e13, if_false]
          · refine lv_aload_n hC.1 hC.2.1 dX11_would_51 rfl (lv_at hl 0 rfl) ?_
            refine lv_iload_n hC.1 hC.2.1 dX11_would_52 rfl (lv_at hl 1 rfl) ?_
            refine q_callV (As := [.int (nI j)]) (rest := []) (q0 := 0) hC hw hl (tX11_byAmount l E a (sr τ 13 (c13_17)) nh nj j hW h_j) (q_cwV hC.2.2.2.2.1 ⟨rfl, rfl⟩ wk5_152 wk5_154 wks_4_7 wk1_12 wk5_155 hd_X11_byAmount ⟨Nat.le_of_ble_eq_true rfl, Nat.le_of_ble_eq_true rfl⟩) rfl rfl rfl rfl rfl (Nat.le_of_ble_eq_true rfl) dX11_would_53 (fun r20 u21 H locs p19 hw => ?_)
            obtain ⟨c13_22, hB, huB⟩ := p19
            have hw : Wst E (MW E a) (sr τ 13 (c13_22)) A s.heap H locs := by rw [huB] at hw; rw [sr_sr] at hw; exact hw
            refine q_ifne hC 67 cI dX11_would_56 (by decide) (fun (c23 : ¬ (r20 = 0)) => ?_) (fun (c23 : r20 = 0) => ?_)
            · obtain ⟨qq, h_qq, rfl⟩ := in_nat (by omega) ((le_iff (n := 3) (by decide)).mp c8)
              have z_qq := nI_clamp (show qq < 2 ^ 31 by omega)
              have y_qq : cN (nI qq) = qq := z_qq
              refine lv_aload_n hC.1 hC.2.1 dX11_would_67 rfl (lv_at hl 0 rfl) ?_
              refine gf_X11_47 hC hw dX11_would_68 ?_
              refine lv_iload_n hC.1 hC.2.1 dX11_would_71 rfl (lv_at hl 2 rfl) ?_
              refine al_M13 (v := (c13_22) qq) hC hw (by omega) rfl dX11_would_72 ?_
              refine lv_goto (tgt := 78) hC.1 hC.2.1 dX11_would_73 (by decide) ?_
              refine hret _ _ _ _ _ _ hw ?_ rfl dX11_would_78
              have hok : okB (nI j) nj ∧ okB (nI qq) 4 := ⟨c4, (le_iff (n := 3) (by decide)).mp c8⟩
              have hst : eM (τ 1) 11 (cN (nI j)) = 0 ∧ ¬ m_fit (eM (τ 1)) (pB (eM (τ 1)) (nI j)) nh nj (cN (nI j)) nh = true := by rw [y_j]; exact ⟨c9, c13⟩
              have hA0 := hA.resolve_left (fun ⟨_, _, _, q, _⟩ => absurd (q.symm.trans c18) (by decide))
              have hB0 := hB.resolve_right (fun q => c23 q.2)
              obtain ⟨h, i, g1, -, g2⟩ := hB0
              refine ⟨c13_22, Or.inr ⟨hok, Or.inr ⟨hst, c13_22, 1, by rw [y_j]; exact Or.inr ⟨hA0.1, Or.inl ⟨h, i, g1, rfl, g2⟩⟩, by rw [y_qq]; rfl⟩⟩, ?_⟩
              funext j_ x_
              by_cases e0 : j_ = 0
              · subst e0
                rfl
              · by_cases e13 : j_ = 13
                · subst e13; rfl
                · simp only [sr, e0, e13, if_false]
            · refine lv_aload_n hC.1 hC.2.1 dX11_would_59 rfl (lv_at hl 0 rfl) ?_
              refine lv_iload_n hC.1 hC.2.1 dX11_would_60 rfl (lv_at hl 1 rfl) ?_
              refine q_callV (As := [.int (nI j)]) (rest := []) (q0 := 0) hC hw hl (tX11_byEnd l E a (sr τ 13 (c13_22)) nh nj j hW h_j) (q_cwV hC.2.2.2.2.1 ⟨rfl, rfl⟩ wk5_156 wk5_158 wks_4_8 wk1_12 wk5_159 hd_X11_byEnd ⟨Nat.le_of_ble_eq_true rfl, Nat.le_of_ble_eq_true rfl⟩) rfl rfl rfl rfl rfl (Nat.le_of_ble_eq_true rfl) dX11_would_61 (fun r25 u26 H locs p24 hw => ?_)
              obtain ⟨c13_27, hG, huG⟩ := p24
              have hw : Wst E (MW E a) (sr τ 13 (c13_27)) A s.heap H locs := by rw [huG] at hw; rw [sr_sr] at hw; exact hw
              refine q_ifeq hC 76 cI dX11_would_64 (by decide) (fun (c28 : r25 = 0) => ?_) (fun (c28 : ¬ (r25 = 0)) => ?_)
              · refine lv_bipush (v := (-3)) hC.1 hC.2.1 dX11_would_76 (by decide) ?_
                refine hret _ _ _ _ _ _ hw ?_ rfl dX11_would_78
                have hok : okB (nI j) nj ∧ okB what 4 := ⟨c4, (le_iff (n := 3) (by decide)).mp c8⟩
                have hst : eM (τ 1) 11 (cN (nI j)) = 0 ∧ ¬ m_fit (eM (τ 1)) (pB (eM (τ 1)) (nI j)) nh nj (cN (nI j)) nh = true := by rw [y_j]; exact ⟨c9, c13⟩
                have hA0 := hA.resolve_left (fun ⟨_, _, _, q, _⟩ => absurd (q.symm.trans c18) (by decide))
                have hB0 := hB.resolve_left (fun ⟨_, _, _, q, _⟩ => absurd (q.symm.trans c23) (by decide))
                have hG0 := hG.resolve_left (fun ⟨_, _, _, q, _⟩ => absurd (q.symm.trans c28) (by decide))
                refine ⟨c13_27, Or.inr ⟨hok, Or.inr ⟨hst, c13_27, 0, by rw [y_j]; exact Or.inr ⟨hA0.1, Or.inr ⟨hB0.1, Or.inr ⟨hG0.1, rfl⟩⟩⟩, rfl⟩⟩, ?_⟩
                funext j_ x_
                by_cases e0 : j_ = 0
                · subst e0
                  rfl
                · by_cases e13 : j_ = 13
                  · subst e13; rfl
                  · simp only [sr, e0, e13, if_false]
              · obtain ⟨qq, h_qq, rfl⟩ := in_nat (by omega) ((le_iff (n := 3) (by decide)).mp c8)
                have z_qq := nI_clamp (show qq < 2 ^ 31 by omega)
                have y_qq : cN (nI qq) = qq := z_qq
                refine lv_aload_n hC.1 hC.2.1 dX11_would_67 rfl (lv_at hl 0 rfl) ?_
                refine gf_X11_47 hC hw dX11_would_68 ?_
                refine lv_iload_n hC.1 hC.2.1 dX11_would_71 rfl (lv_at hl 2 rfl) ?_
                refine al_M13 (v := (c13_27) qq) hC hw (by omega) rfl dX11_would_72 ?_
                refine lv_goto (tgt := 78) hC.1 hC.2.1 dX11_would_73 (by decide) ?_
                refine hret _ _ _ _ _ _ hw ?_ rfl dX11_would_78
                have hok : okB (nI j) nj ∧ okB (nI qq) 4 := ⟨c4, (le_iff (n := 3) (by decide)).mp c8⟩
                have hst : eM (τ 1) 11 (cN (nI j)) = 0 ∧ ¬ m_fit (eM (τ 1)) (pB (eM (τ 1)) (nI j)) nh nj (cN (nI j)) nh = true := by rw [y_j]; exact ⟨c9, c13⟩
                have hA0 := hA.resolve_left (fun ⟨_, _, _, q, _⟩ => absurd (q.symm.trans c18) (by decide))
                have hB0 := hB.resolve_left (fun ⟨_, _, _, q, _⟩ => absurd (q.symm.trans c23) (by decide))
                have hG0 := hG.resolve_right (fun q => c28 q.2)
                obtain ⟨k, h, g1, -, g2⟩ := hG0
                refine ⟨c13_27, Or.inr ⟨hok, Or.inr ⟨hst, c13_27, 1, by rw [y_j]; exact Or.inr ⟨hA0.1, Or.inr ⟨hB0.1, Or.inl ⟨k, h, g1, rfl, g2⟩⟩⟩, by rw [y_qq]; rfl⟩⟩, ?_⟩
                funext j_ x_
                by_cases e0 : j_ = 0
                · subst e0
                  rfl
                · by_cases e13 : j_ = 13
                  · subst e13; rfl
                  · simp only [sr, e0, e13, if_false]
        · refine lv_bipush (v := (-2)) hC.1 hC.2.1 dX11_would_40 (by decide) ?_
          refine hret _ _ _ _ _ _ hw ?_ rfl dX11_would_42
          have hok : okB (nI j) nj ∧ okB what 4 := ⟨c4, (le_iff (n := 3) (by decide)).mp c8⟩
          refine ⟨τ 13, Or.inr ⟨hok, Or.inl ⟨by rw [y_j]; exact Or.inr c13, rfl⟩⟩, ?_⟩
          funext j_ x_
          by_cases e0 : j_ = 0
          · subst e0
            rfl
          · by_cases e13 : j_ = 13
            · subst e13; rfl
            · simp only [sr, e0, e13, if_false]
    · refine lv_iconst (v := (-1)) hC.1 hC.2.1 dX11_would_17 (by decide) ?_
      refine hret _ _ _ _ _ _ hw ?_ rfl dX11_would_18
      refine ⟨τ 13, Or.inl ⟨fun q => c8 ((le_iff (n := 3) (by decide)).mpr q.2), rfl⟩, ?_⟩
      funext j_ x_
      by_cases e0 : j_ = 0
      · subst e0
        rfl
      · by_cases e13 : j_ = 13
        · subst e13; rfl
        · simp only [sr, e0, e13, if_false]
