set_option maxHeartbeats 4000000 in
set_option maxRecDepth 100000 in
theorem tX4_recount (l : Launch) (E : EV) (a : Nat → Nat) (σ : St) (nh : Nat) (nj : Nat) (E0 : St) (P : Nat → Int32) (hN : cN2 σ nh nj) (hE : aE σ E0) (hS : cS E0 nh nj) (hP : PL σ P nh nj) : MV l E (XW E a) yX4_recount (Cond.code yX4_recount cX4_recount 2 none) ({ frames := 2, cells := 0, slots := 0, locals := 46 }) [.ref (a 65)] σ (fun u_ => ∃ (b16 b17 b18 b19 b20 b21 : Nat → Int32), FSr E0 P nh nj b16 b17 b18 b19 b20 b21 ∧ u_ = sr (sr (sr (sr (sr (sr σ 16 b16) 17 b17) 18 b18) 19 b19) 20 b20) 21 b21) := by
  refine MV.mk (by decide +kernel) (Nat.le_of_ble_eq_true rfl) ?_
  intro p e s m args below meth c ls A Q hret hC hw hl
  have hC : Cxt E p s m args meth c cX4_recount 2 none RX4 A := hC
  have hl : lv_has ls 2 [(0, .ref (a 65))] := hl
  have hnh := hS.1
  have hnj := hS.2.1
  refine lv_aload_n hC.1 hC.2.1 dX4_recount_0 rfl (lv_at hl 0 rfl) ?_
  refine gf_X4_30 hC hw dX4_recount_1 ?_
  refine gf_X4_41 hC hw dX4_recount_4 ?_
  refine lv_iconst (v := nI 0) hC.1 hC.2.1 dX4_recount_7 (by decide) ?_
  refine lv_aload_n hC.1 hC.2.1 dX4_recount_8 rfl (lv_at hl 0 rfl) ?_
  refine gf_X4_9 hC hw dX4_recount_9 ?_
  refine lv_iconst (v := nI 0) hC.1 hC.2.1 dX4_recount_12 (by decide) ?_
  refine lv_aload_n hC.1 hC.2.1 dX4_recount_13 rfl (lv_at hl 0 rfl) ?_
  refine gf_X4_9 hC hw dX4_recount_14 ?_
  refine q_alen (Wf := XW E a) 26 rfl hC hw dX4_recount_17 ?_
  refine q_cpy (sp := 0) (dp := 0) (n := 30) 11 rfl 26 rfl (XW_s16 _) hC hw hl (by omega) (by omega) (by decide) (by decide) ⟨Nat.le_of_ble_eq_true rfl, Nat.le_of_ble_eq_true rfl⟩ wk2_196 dX4_recount_18 (fun H locs hw => ?_)
  have hw : Wst E (XW E a) (sr σ 16 (va_cpy (σ 1) (σ 16) 0 0 30)) A s.heap H locs := hw
  refine lv_aload_n hC.1 hC.2.1 dX4_recount_21 rfl (lv_at hl 0 rfl) ?_
  refine gf_X4_15 hC hw dX4_recount_22 ?_
  refine lv_iconst (v := nI 0) hC.1 hC.2.1 dX4_recount_25 (by decide) ?_
  refine q_callSvp (As := [.ref (a 17), .int (nI 0)]) (rest := []) hC hw hl (tJ7_fill_53178_17 l E a (sr σ 16 (va_cpy (σ 1) (σ 16) 0 0 30)) 0) (q_cwS hC.2.2.2.2.1 ⟨rfl, rfl⟩ wk2_197 wk2_198 wk1_14 wk2_199 hd_J7_fill_53178.2 ⟨Nat.le_of_ble_eq_true rfl, Nat.le_of_ble_eq_true rfl⟩) rfl rfl (Nat.le_of_ble_eq_true rfl) dX4_recount_26 (fun H locs hw => ?_)
  have hw : Wst E (XW E a) (sr (sr σ 16 (va_cpy (σ 1) (σ 16) 0 0 30)) 17 (fil 80 0 (σ 17))) A s.heap H locs := hw
  refine lv_aload_n hC.1 hC.2.1 dX4_recount_29 rfl (lv_at hl 0 rfl) ?_
  refine gf_X4_18 hC hw dX4_recount_30 ?_
  refine lv_iconst (v := nI 0) hC.1 hC.2.1 dX4_recount_33 (by decide) ?_
  refine q_callSvp (As := [.ref (a 18), .int (nI 0)]) (rest := []) hC hw hl (tJ7_fill_53178_18 l E a (sr (sr σ 16 (va_cpy (σ 1) (σ 16) 0 0 30)) 17 (fil 80 0 (σ 17))) 0) (q_cwS hC.2.2.2.2.1 ⟨rfl, rfl⟩ wk2_197 wk2_198 wk1_14 wk2_199 hd_J7_fill_53178.2 ⟨Nat.le_of_ble_eq_true rfl, Nat.le_of_ble_eq_true rfl⟩) rfl rfl (Nat.le_of_ble_eq_true rfl) dX4_recount_34 (fun H locs hw => ?_)
  have hw : Wst E (XW E a) (sr (sr (sr σ 16 (va_cpy (σ 1) (σ 16) 0 0 30)) 17 (fil 80 0 (σ 17))) 18 (fil 40 0 (σ 18))) A s.heap H locs := hw
  refine lv_aload_n hC.1 hC.2.1 dX4_recount_37 rfl (lv_at hl 0 rfl) ?_
  refine gf_X4_21 hC hw dX4_recount_38 ?_
  refine lv_iconst (v := nI 0) hC.1 hC.2.1 dX4_recount_41 (by decide) ?_
  refine q_callSvp (As := [.ref (a 19), .int (nI 0)]) (rest := []) hC hw hl (tJ7_fill_53178_19 l E a (sr (sr (sr σ 16 (va_cpy (σ 1) (σ 16) 0 0 30)) 17 (fil 80 0 (σ 17))) 18 (fil 40 0 (σ 18))) 0) (q_cwS hC.2.2.2.2.1 ⟨rfl, rfl⟩ wk2_197 wk2_198 wk1_14 wk2_199 hd_J7_fill_53178.2 ⟨Nat.le_of_ble_eq_true rfl, Nat.le_of_ble_eq_true rfl⟩) rfl rfl (Nat.le_of_ble_eq_true rfl) dX4_recount_42 (fun H locs hw => ?_)
  have hw : Wst E (XW E a) (sr (sr (sr (sr σ 16 (va_cpy (σ 1) (σ 16) 0 0 30)) 17 (fil 80 0 (σ 17))) 18 (fil 40 0 (σ 18))) 19 (fil 80 0 (σ 19))) A s.heap H locs := hw
  refine lv_aload_n hC.1 hC.2.1 dX4_recount_45 rfl (lv_at hl 0 rfl) ?_
  refine gf_X4_24 hC hw dX4_recount_46 ?_
  refine lv_iconst (v := nI 0) hC.1 hC.2.1 dX4_recount_49 (by decide) ?_
  refine q_callSvp (As := [.ref (a 20), .int (nI 0)]) (rest := []) hC hw hl (tJ7_fill_53178_20 l E a (sr (sr (sr (sr σ 16 (va_cpy (σ 1) (σ 16) 0 0 30)) 17 (fil 80 0 (σ 17))) 18 (fil 40 0 (σ 18))) 19 (fil 80 0 (σ 19))) 0) (q_cwS hC.2.2.2.2.1 ⟨rfl, rfl⟩ wk2_197 wk2_198 wk1_14 wk2_199 hd_J7_fill_53178.2 ⟨Nat.le_of_ble_eq_true rfl, Nat.le_of_ble_eq_true rfl⟩) rfl rfl (Nat.le_of_ble_eq_true rfl) dX4_recount_50 (fun H locs hw => ?_)
  have hw : Wst E (XW E a) (sr (sr (sr (sr (sr σ 16 (va_cpy (σ 1) (σ 16) 0 0 30)) 17 (fil 80 0 (σ 17))) 18 (fil 40 0 (σ 18))) 19 (fil 80 0 (σ 19))) 20 (fil 40 0 (σ 20))) A s.heap H locs := hw
  refine lv_aload_n hC.1 hC.2.1 dX4_recount_53 rfl (lv_at hl 0 rfl) ?_
  refine gf_X4_27 hC hw dX4_recount_54 ?_
  refine lv_iconst (v := nI 0) hC.1 hC.2.1 dX4_recount_57 (by decide) ?_
  refine q_callSvp (As := [.ref (a 21), .int (nI 0)]) (rest := []) hC hw hl (tJ7_fill_53178_21 l E a (sr (sr (sr (sr (sr σ 16 (va_cpy (σ 1) (σ 16) 0 0 30)) 17 (fil 80 0 (σ 17))) 18 (fil 40 0 (σ 18))) 19 (fil 80 0 (σ 19))) 20 (fil 40 0 (σ 20))) 0) (q_cwS hC.2.2.2.2.1 ⟨rfl, rfl⟩ wk2_197 wk2_198 wk1_14 wk2_199 hd_J7_fill_53178.2 ⟨Nat.le_of_ble_eq_true rfl, Nat.le_of_ble_eq_true rfl⟩) rfl rfl (Nat.le_of_ble_eq_true rfl) dX4_recount_58 (fun H locs hw => ?_)
  have hw : Wst E (XW E a) (sr (sr (sr (sr (sr (sr σ 16 (va_cpy (σ 1) (σ 16) 0 0 30)) 17 (fil 80 0 (σ 17))) 18 (fil 40 0 (σ 18))) 19 (fil 80 0 (σ 19))) 20 (fil 40 0 (σ 20))) 21 (fil 40 0 (σ 21))) A s.heap H locs := hw
  refine lv_iconst (v := nI 0) hC.1 hC.2.1 dX4_recount_61 (by decide) ?_
  refine lv_istore_n (lv' := [(1, .int (nI 0)), (0, .ref (a 65))]) hC.1 hC.2.1 dX4_recount_62 rfl hl (by decide) rfl (fun ls hl => ?_)
  have L63_15 : ∀ (n : Nat), ∀ (j : Nat), ∀ (d16 : Nat → Int32), ∀ (d17 : Nat → Int32), ∀ (d18 : Nat → Int32), ∀ (d19 : Nat → Int32), ∀ (d20 : Nat → Int32), ∀ (d21 : Nat → Int32), (j ≤ nj) → (FSr E0 (Pfx P j) nh nj d16 d17 d18 d19 d20 d21) → (nj - j) < n → ∀ (H : Heap) (locs : List Loc) (ls : Array Slot), Wst E (XW E a) (sr (sr (sr (sr (sr (sr σ 16 (d16)) 17 (d17)) 18 (d18)) 19 (d19)) 20 (d20)) 21 (d21)) A s.heap H locs → lv_has ls 2 [(0, .ref (a 65)), (1, .int (nI j))] → W p l e ({ frames := 2, cells := 0, slots := 0, locals := 46 }) s m args below meth c H locs 0 0 Q (F0 m 63 ls []) := by
    intro n
    induction n with
    | zero => intro j d16 d17 d18 d19 d20 d21 hj hF hn; exact absurd hn (Nat.not_lt_zero _)
    | succ n ih63 =>
      intro j d16 d17 d18 d19 d20 d21 hj hF hn63 H locs ls hw hl
      refine lv_iload_n hC.1 hC.2.1 dX4_recount_63 rfl (lv_at hl 1 rfl) ?_
      refine lv_aload_n hC.1 hC.2.1 dX4_recount_64 rfl (lv_at hl 0 rfl) ?_
      refine gf_X4_34 hC hw dX4_recount_65 ?_
      refine gf_X4_58 (v := nI nj) hC hw hN.2 dX4_recount_68 ?_
      refine q_cmpge hC 108 (cNle (by omega) (by omega)) dX4_recount_71 (by decide) (fun (c17 : nj ≤ j) => ?_) (fun (c17 : j < nj) => ?_)
      · refine hret _ _ _ _ _ hw ?_ dX4_recount_108
        have hj9 : j = nj := by omega
        subst hj9
        exact ⟨d16, d17, d18, d19, d20, d21, hF.cg (fun k hk => if_pos hk), rfl⟩
      · refine lv_aload_n hC.1 hC.2.1 dX4_recount_74 rfl (lv_at hl 0 rfl) ?_
        refine gf_X4_34 hC hw dX4_recount_75 ?_
        refine gf_X4_64 hC hw dX4_recount_78 ?_
        refine lv_iload_n hC.1 hC.2.1 dX4_recount_81 rfl (lv_at hl 1 rfl) ?_
        refine al_X11 (v := σ 11 j) hC hw (by omega) rfl dX4_recount_82 ?_
        refine lv_iconst (v := nI 1) hC.1 hC.2.1 dX4_recount_83 (by decide) ?_
        refine q_cmpne hC 102 cI dX4_recount_84 (by decide) (fun (c18 : ¬ (σ 11 j = 1)) => ?_) (fun (c18 : σ 11 j = 1) => ?_)
        · refine lv_iinc (v := nI (j + 1)) (lv' := [(1, .int (nI (j + 1))), (0, .ref (a 65))]) hC.1 hC.2.1 dX4_recount_102 hl (k := 1) rfl (nI_add _ _) (by decide) rfl (fun ls hl => ?_)
          refine lv_goto (tgt := 63) hC.1 hC.2.1 dX4_recount_105 (by decide) ?_
          exact ih63 (j + 1) d16 d17 d18 d19 d20 d21 (by omega) (by rw [Pfx_no ((hP j (by omega)).2 c18)]; exact hF) (by omega) _ _ _ hw (lv_sub hl [1, 0] rfl)
        · refine lv_aload_n hC.1 hC.2.1 dX4_recount_87 rfl (lv_at hl 0 rfl) ?_
          refine lv_iload_n hC.1 hC.2.1 dX4_recount_88 rfl (lv_at hl 1 rfl) ?_
          refine lv_aload_n hC.1 hC.2.1 dX4_recount_89 rfl (lv_at hl 0 rfl) ?_
          refine gf_X4_34 hC hw dX4_recount_90 ?_
          refine gf_X4_67 hC hw dX4_recount_93 ?_
          refine lv_iload_n hC.1 hC.2.1 dX4_recount_96 rfl (lv_at hl 1 rfl) ?_
          have hPa := hP.at hnh (show j < nj by omega) c18
          refine al_X12 (v := nI (cN (σ 12 j))) hC hw (by omega) (hP.at hnh (by omega) c18).1 dX4_recount_97 ?_
          refine lv_iconst (v := nI 1) hC.1 hC.2.1 dX4_recount_98 (by decide) ?_
          refine q_callVv (As := [.int (nI j), .int (nI (cN (σ 12 j))), .int (nI 1)]) (rest := []) (q0 := 5) hC hw hl (tX4_tally l E a (sr (sr (sr (sr (sr (sr σ 16 (d16)) 17 (d17)) 18 (d18)) 19 (d19)) 20 (d20)) 21 (d21)) nh nj E0 (Pfx P j) (Pfx P (j + 1)) j (cN (σ 12 j)) 1 hN hE hS hF (Pfx_TL hPa.2.2) (show j < nj by omega) hPa.2.1) (q_cwV hC.2.2.2.2.1 ⟨rfl, rfl⟩ wk2_200 wk2_201 wk2_202 wk1_4 wk2_203 hd_X4_tally ⟨Nat.le_of_ble_eq_true rfl, Nat.le_of_ble_eq_true rfl⟩) rfl rfl rfl rfl rfl (Nat.le_of_ble_eq_true rfl) dX4_recount_99 (fun u21 H locs p19 hw => ?_)
          obtain ⟨b16_22, b17_23, b18_24, b19_25, b20_26, b21_27, hFu21, huu21⟩ := p19
          subst huu21
          have hst_ : sr (sr (sr (sr (sr (sr (sr (sr (sr (sr (sr (sr σ 16 (d16)) 17 (d17)) 18 (d18)) 19 (d19)) 20 (d20)) 21 (d21)) 16 b16_22) 17 b17_23) 18 b18_24) 19 b19_25) 20 b20_26) 21 b21_27 = sr (sr (sr (sr (sr (sr σ 16 (b16_22)) 17 (b17_23)) 18 (b18_24)) 19 (b19_25)) 20 (b20_26)) 21 (b21_27) := by
            funext j_ x_
            by_cases e0 : j_ = 0
            · subst e0
              rfl
            · by_cases e16 : j_ = 16
              · subst e16; rfl
              · by_cases e17 : j_ = 17
                · subst e17; rfl
                · by_cases e18 : j_ = 18
                  · subst e18; rfl
                  · by_cases e19 : j_ = 19
                    · subst e19; rfl
                    · by_cases e20 : j_ = 20
                      · subst e20; rfl
                      · by_cases e21 : j_ = 21
                        · subst e21; rfl
                        · simp only [sr, e0, e16, e17, e18, e19, e20, e21, if_false]
          rw [hst_] at hw
          refine lv_iinc (v := nI (j + 1)) (lv' := [(1, .int (nI (j + 1))), (0, .ref (a 65))]) hC.1 hC.2.1 dX4_recount_102 hl (k := 1) rfl (nI_add _ _) (by decide) rfl (fun ls hl => ?_)
          refine lv_goto (tgt := 63) hC.1 hC.2.1 dX4_recount_105 (by decide) ?_
          exact ih63 (j + 1) b16_22 b17_23 b18_24 b19_25 b20_26 b21_27 (by omega) hFu21 (by omega) _ _ _ hw (lv_sub hl [1, 0] rfl)
  exact L63_15 _ 0 (va_cpy (σ 1) (σ 16) 0 0 30) (fil 80 0 (σ 17)) (fil 40 0 (σ 18)) (fil 80 0 (σ 19)) (fil 40 0 (σ 20)) (fil 40 0 (σ 21)) (Nat.zero_le _) (by rw [show σ 1 = E0 1 from hE.1]; exact FS0 hnh) (Nat.lt_succ_self _) _ _ _ hw (lv_sub hl [1, 0] rfl)
set_option maxHeartbeats 4000000 in
set_option maxRecDepth 100000 in
theorem tX5_add (l : Launch) (E : EV) (a : Nat → Nat) (σ : St) (nh : Nat) (nj : Nat) (hall : Int32) (tn : Int32) (hN : cN2 σ nh nj) (h10 : nh < 10) : MI l E (XW E a) yX5_add (Cond.code yX5_add cX5_add 4 (some .int)) ({ frames := 0, cells := 0, slots := 0, locals := 0 }) [.ref (a 66), .int (hall), .int (tn)] σ (fun r_ u_ => r_ = (nI (nh)) ∧ u_ = sr (sr (sr (sr σ 2 (upd (σ 2) nh hall)) 3 (upd (σ 3) nh tn)) 4 (upd (σ 4) nh 1)) 0 (upd (σ 0) 0 (nI (nh + 1)))) := by
  refine MI.mk (by decide +kernel) (Nat.le_of_ble_eq_true rfl) ?_
  intro p e s m args below meth c ls A Q hret hC hw hl
  have hC : Cxt E p s m args meth c cX5_add 4 (some .int) RX5 A := hC
  have hl : lv_has ls 4 [(0, .ref (a 66)), (1, .int (hall)), (2, .int (tn))] := hl
  refine lv_aload_n hC.1 hC.2.1 dX5_add_0 rfl (lv_at hl 0 rfl) ?_
  refine gf_X5_25 (v := nI nh) hC hw hN.1 dX5_add_1 ?_
  refine lv_istore_n (lv' := [(3, .int (nI nh)), (0, .ref (a 66)), (1, .int (hall)), (2, .int (tn))]) hC.1 hC.2.1 dX5_add_4 rfl hl (by decide) rfl (fun ls hl => ?_)
  refine lv_aload_n hC.1 hC.2.1 dX5_add_5 rfl (lv_at hl 1 rfl) ?_
  refine gf_X5_15 hC hw dX5_add_6 ?_
  refine lv_iload_n hC.1 hC.2.1 dX5_add_9 rfl (lv_at hl 0 rfl) ?_
  refine lv_iload_n hC.1 hC.2.1 dX5_add_10 rfl (lv_at hl 2 rfl) ?_
  refine as_X2 hC hw (by omega) dX5_add_11 (fun H locs hw => ?_)
  have hw : Wst E (XW E a) (sr σ 2 (upd (σ 2) nh (hall))) A s.heap H locs := hw
  refine lv_aload_n hC.1 hC.2.1 dX5_add_12 rfl (lv_at hl 1 rfl) ?_
  refine gf_X5_18 hC hw dX5_add_13 ?_
  refine lv_iload_n hC.1 hC.2.1 dX5_add_16 rfl (lv_at hl 0 rfl) ?_
  refine lv_iload_n hC.1 hC.2.1 dX5_add_17 rfl (lv_at hl 3 rfl) ?_
  refine as_X3 hC hw (by omega) dX5_add_18 (fun H locs hw => ?_)
  have hw : Wst E (XW E a) (sr (sr σ 2 (upd (σ 2) nh (hall))) 3 (upd (σ 3) nh (tn))) A s.heap H locs := hw
  refine lv_aload_n hC.1 hC.2.1 dX5_add_19 rfl (lv_at hl 1 rfl) ?_
  refine gf_X5_21 hC hw dX5_add_20 ?_
  refine lv_iload_n hC.1 hC.2.1 dX5_add_23 rfl (lv_at hl 0 rfl) ?_
  refine lv_iconst (v := nI 1) hC.1 hC.2.1 dX5_add_24 (by decide) ?_
  refine as_X4 hC hw (by omega) (by decide) dX5_add_25 (fun H locs hw => ?_)
  have hw : Wst E (XW E a) (sr (sr (sr σ 2 (upd (σ 2) nh (hall))) 3 (upd (σ 3) nh (tn))) 4 (upd (σ 4) nh (1))) A s.heap H locs := hw
  refine lv_aload_n hC.1 hC.2.1 dX5_add_26 rfl (lv_at hl 1 rfl) ?_
  refine lv_dup hC.1 hC.2.1 dX5_add_27 rfl ?_
  refine gf_X5_25 (v := nI nh) hC hw hN.1 dX5_add_28 ?_
  refine lv_iconst (v := nI 1) hC.1 hC.2.1 dX5_add_31 (by decide) ?_
  refine q_addN hC dX5_add_32 ?_
  refine pf_X5_25 hC hw dX5_add_33 (fun H locs hw => ?_)
  have hw : Wst E (XW E a) (sr (sr (sr (sr σ 2 (upd (σ 2) nh (hall))) 3 (upd (σ 3) nh (tn))) 4 (upd (σ 4) nh (1))) 0 (upd (σ 0) 0 (nI (nh + 1)))) A s.heap H locs := hw
  refine lv_iload_n hC.1 hC.2.1 dX5_add_36 rfl (lv_at hl 0 rfl) ?_
  refine hret _ _ _ _ _ _ hw ?_ rfl dX5_add_37
  exact ⟨rfl, rfl⟩
set_option maxHeartbeats 4000000 in
set_option maxRecDepth 100000 in
theorem tX6_add (l : Launch) (E : EV) (a : Nat → Nat) (σ : St) (nh : Nat) (nj : Nat) (kind : Int32) (pr : Int32) (gr : Int32) (tol : Int32) (oth : Int32) (hN : cN2 σ nh nj) (h24 : nj < 24) : MI l E (XW E a) yX6_add (Cond.code yX6_add cX6_add 7 (some .int)) ({ frames := 1, cells := 0, slots := 0, locals := 22 }) [.ref (a 67), .int (kind), .int (pr), .int (gr), .int (tol), .int (oth)] σ (fun r_ u_ => r_ = (nI (nj)) ∧ u_ = sr (sr (sr (sr (sr (sr (sr (sr (sr (sr σ 5 (upd (σ 5) nj kind)) 7 (upd (σ 7) nj pr)) 8 (upd (σ 8) nj gr)) 9 (upd (σ 9) nj tol)) 10 (upd (σ 10) nj oth)) 11 (upd (σ 11) nj 0)) 12 (upd (σ 12) nj (-1))) 13 (upd (σ 13) nj 0)) 14 (upd (σ 14) nj (-1))) 0 (upd (σ 0) 1 (nI (nj + 1)))) := by
  refine MI.mk (by decide +kernel) (Nat.le_of_ble_eq_true rfl) ?_
  intro p e s m args below meth c ls A Q hret hC hw hl
  have hC : Cxt E p s m args meth c cX6_add 7 (some .int) RX6 A := hC
  have hl : lv_has ls 7 [(0, .ref (a 67)), (1, .int (kind)), (2, .int (pr)), (3, .int (gr)), (4, .int (tol)), (5, .int (oth))] := hl
  refine lv_aload_n hC.1 hC.2.1 dX6_add_0 rfl (lv_at hl 0 rfl) ?_
  refine gf_X6_42 (v := nI nj) hC hw hN.2 dX6_add_1 ?_
  refine lv_istore (lv' := [(6, .int (nI nj)), (0, .ref (a 67)), (1, .int (kind)), (2, .int (pr)), (3, .int (gr)), (4, .int (tol)), (5, .int (oth))]) hC.1 hC.2.1 dX6_add_4 hl (by decide) rfl (fun ls hl => ?_)
  refine lv_aload_n hC.1 hC.2.1 dX6_add_6 rfl (lv_at hl 1 rfl) ?_
  refine gf_X6_9 hC hw dX6_add_7 ?_
  refine lv_iload hC.1 hC.2.1 dX6_add_10 (lv_at hl 0 rfl) ?_
  refine lv_iload_n hC.1 hC.2.1 dX6_add_12 rfl (lv_at hl 2 rfl) ?_
  refine as_X5 hC hw (by omega) dX6_add_13 (fun H locs hw => ?_)
  have hw : Wst E (XW E a) (sr σ 5 (upd (σ 5) nj (kind))) A s.heap H locs := hw
  refine lv_aload_n hC.1 hC.2.1 dX6_add_14 rfl (lv_at hl 1 rfl) ?_
  refine gf_X6_18 hC hw dX6_add_15 ?_
  refine lv_iload hC.1 hC.2.1 dX6_add_18 (lv_at hl 0 rfl) ?_
  refine lv_iload_n hC.1 hC.2.1 dX6_add_20 rfl (lv_at hl 3 rfl) ?_
  refine as_X7 hC hw (by omega) dX6_add_21 (fun H locs hw => ?_)
  have hw : Wst E (XW E a) (sr (sr σ 5 (upd (σ 5) nj (kind))) 7 (upd (σ 7) nj (pr))) A s.heap H locs := hw
  refine lv_aload_n hC.1 hC.2.1 dX6_add_22 rfl (lv_at hl 1 rfl) ?_
  refine gf_X6_21 hC hw dX6_add_23 ?_
  refine lv_iload hC.1 hC.2.1 dX6_add_26 (lv_at hl 0 rfl) ?_
  refine lv_iload_n hC.1 hC.2.1 dX6_add_28 rfl (lv_at hl 4 rfl) ?_
  refine as_X8 hC hw (by omega) dX6_add_29 (fun H locs hw => ?_)
  have hw : Wst E (XW E a) (sr (sr (sr σ 5 (upd (σ 5) nj (kind))) 7 (upd (σ 7) nj (pr))) 8 (upd (σ 8) nj (gr))) A s.heap H locs := hw
  refine lv_aload_n hC.1 hC.2.1 dX6_add_30 rfl (lv_at hl 1 rfl) ?_
  refine gf_X6_24 hC hw dX6_add_31 ?_
  refine lv_iload hC.1 hC.2.1 dX6_add_34 (lv_at hl 0 rfl) ?_
  refine lv_iload hC.1 hC.2.1 dX6_add_36 (lv_at hl 5 rfl) ?_
  refine as_X9 hC hw (by omega) dX6_add_38 (fun H locs hw => ?_)
  have hw : Wst E (XW E a) (sr (sr (sr (sr σ 5 (upd (σ 5) nj (kind))) 7 (upd (σ 7) nj (pr))) 8 (upd (σ 8) nj (gr))) 9 (upd (σ 9) nj (tol))) A s.heap H locs := hw
  refine lv_aload_n hC.1 hC.2.1 dX6_add_39 rfl (lv_at hl 1 rfl) ?_
  refine gf_X6_27 hC hw dX6_add_40 ?_
  refine lv_iload hC.1 hC.2.1 dX6_add_43 (lv_at hl 0 rfl) ?_
  refine lv_iload hC.1 hC.2.1 dX6_add_45 (lv_at hl 6 rfl) ?_
  refine as_X10 hC hw (by omega) dX6_add_47 (fun H locs hw => ?_)
  have hw : Wst E (XW E a) (sr (sr (sr (sr (sr σ 5 (upd (σ 5) nj (kind))) 7 (upd (σ 7) nj (pr))) 8 (upd (σ 8) nj (gr))) 9 (upd (σ 9) nj (tol))) 10 (upd (σ 10) nj (oth))) A s.heap H locs := hw
  refine lv_aload_n hC.1 hC.2.1 dX6_add_48 rfl (lv_at hl 1 rfl) ?_
  refine gf_X6_39 hC hw dX6_add_49 ?_
  refine lv_iload hC.1 hC.2.1 dX6_add_52 (lv_at hl 0 rfl) ?_
  refine lv_iconst (v := (-1)) hC.1 hC.2.1 dX6_add_54 (by decide) ?_
  refine as_X14 hC hw (by omega) dX6_add_55 (fun H locs hw => ?_)
  have hw : Wst E (XW E a) (sr (sr (sr (sr (sr (sr σ 5 (upd (σ 5) nj (kind))) 7 (upd (σ 7) nj (pr))) 8 (upd (σ 8) nj (gr))) 9 (upd (σ 9) nj (tol))) 10 (upd (σ 10) nj (oth))) 14 (upd (σ 14) nj ((-1)))) A s.heap H locs := hw
  refine lv_aload_n hC.1 hC.2.1 dX6_add_56 rfl (lv_at hl 1 rfl) ?_
  refine lv_iload hC.1 hC.2.1 dX6_add_57 (lv_at hl 0 rfl) ?_
  refine lv_iconst (v := nI 0) hC.1 hC.2.1 dX6_add_59 (by decide) ?_
  refine q_callVvp (As := [.int (nI nj), .int (nI 0)]) (rest := []) (q0 := 7) hC hw hl (tX6_leave l E a (sr (sr (sr (sr (sr (sr σ 5 (upd (σ 5) nj (kind))) 7 (upd (σ 7) nj (pr))) 8 (upd (σ 8) nj (gr))) 9 (upd (σ 9) nj (tol))) 10 (upd (σ 10) nj (oth))) 14 (upd (σ 14) nj ((-1)))) nj 0 (by first | assumption | omega)) (q_cwV hC.2.2.2.2.1 ⟨rfl, rfl⟩ wk2_220 wk2_221 wk2_222 wk1_3 wk2_223 hd_X6_leave ⟨Nat.le_of_ble_eq_true rfl, Nat.le_of_ble_eq_true rfl⟩) rfl rfl rfl rfl rfl (Nat.le_of_ble_eq_true rfl) dX6_add_60 (fun H locs hw => ?_)
  have hw : Wst E (XW E a) (sr (sr (sr (sr (sr (sr (sr (sr (sr σ 5 (upd (σ 5) nj (kind))) 7 (upd (σ 7) nj (pr))) 8 (upd (σ 8) nj (gr))) 9 (upd (σ 9) nj (tol))) 10 (upd (σ 10) nj (oth))) 11 (upd (σ 11) nj 0)) 12 (upd (σ 12) nj (-1))) 13 (upd (σ 13) nj 0)) 14 (upd (σ 14) nj ((-1)))) A s.heap H locs := hw
  refine lv_aload_n hC.1 hC.2.1 dX6_add_63 rfl (lv_at hl 1 rfl) ?_
  refine lv_dup hC.1 hC.2.1 dX6_add_64 rfl ?_
  refine gf_X6_42 (v := nI nj) hC hw hN.2 dX6_add_65 ?_
  refine lv_iconst (v := nI 1) hC.1 hC.2.1 dX6_add_68 (by decide) ?_
  refine q_addN hC dX6_add_69 ?_
  refine pf_X6_42 hC hw dX6_add_70 (fun H locs hw => ?_)
  have hw : Wst E (XW E a) (sr (sr (sr (sr (sr (sr (sr (sr (sr (sr σ 5 (upd (σ 5) nj (kind))) 7 (upd (σ 7) nj (pr))) 8 (upd (σ 8) nj (gr))) 9 (upd (σ 9) nj (tol))) 10 (upd (σ 10) nj (oth))) 11 (upd (σ 11) nj 0)) 12 (upd (σ 12) nj (-1))) 13 (upd (σ 13) nj 0)) 14 (upd (σ 14) nj ((-1)))) 0 (upd (σ 0) 1 (nI (nj + 1)))) A s.heap H locs := hw
  refine lv_iload hC.1 hC.2.1 dX6_add_73 (lv_at hl 0 rfl) ?_
  refine hret _ _ _ _ _ _ hw ?_ rfl dX6_add_75
  exact ⟨rfl, rfl⟩
