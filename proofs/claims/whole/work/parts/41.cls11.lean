set_option maxHeartbeats 4000000 in
set_option maxRecDepth 100000 in
theorem tX3_allFindHosts (l : Launch) (E : EV) (a : Nat → Nat) (σ : St) (nh : Nat) (nj : Nat) (E0 : St) (fm : Nat) (fz : Nat) (F : Nat → Nat) (P0 : Nat → Int32) (hN : cN2 σ nh nj) (hE : aE σ E0) (hS : cS E0 nh nj) (hFS : FSr E0 (pP F P0 (fun _ => 10) fm) nh nj (σ 16) (σ 17) (σ 18) (σ 19) (σ 20) (σ 21)) (hm : σ 0 6 = nI fm) (hm4 : fm ≤ 4) (h8 : σ 0 8 = plc fz) (hfz : fz < 10) (hF : ∀ i, i < fm → σ 23 i = nI (F i) ∧ F i < nj) (hFk : Fok F fm nj) (hat : ∀ i, i < fm → σ 24 i = atI fz 10) (hP0 : okP P0 nh nj) (hd : E0 4 fz = 0) : MI l E (XW E a) yX3_allFindHosts (Cond.code yX3_allFindHosts cX3_allFindHosts 3 (some .boolean)) ({ frames := 4, cells := 0, slots := 0, locals := 98 }) [.ref (a 64)] σ (fun r_ u_ => ((r_ = 1 ∧ Saf E0 F fm P0 nh nj) ∨ (r_ = 0 ∧ ¬ Saf E0 F fm P0 nh nj)) ∧ ∃ (b16 b17 b18 b19 b20 b21 b24 b25 b26 : Nat → Int32) (z7 : Int32), u_ = sr (sr (sr (sr (sr (sr (sr (sr (sr (sr σ 16 b16) 17 b17) 18 b18) 19 b19) 20 b20) 21 b21) 24 b24) 25 b25) 26 b26) 0 (upd (σ 0) 7 z7)) := by
  refine MI.mk (by decide +kernel) (Nat.le_of_ble_eq_true rfl) ?_
  intro p e s m args below meth c ls A Q hret hC hw hl
  have hC : Cxt E p s m args meth c cX3_allFindHosts 3 (some .boolean) RX3 A := hC
  have hl : lv_has ls 3 [(0, .ref (a 64))] := hl
  have hnh := hS.1
  have hnj := hS.2.1
  have hp10 := pow10 (show fm < 5 by omega)
  have hx0 : cen fz (fun _ => 10) fm < 10 ^ fm := cen_lt hnh hfz (fun _ _ => Or.inl rfl)
  refine lv_aload_n hC.1 hC.2.1 dX3_allFindHosts_0 rfl (lv_at hl 0 rfl) ?_
  refine gf_X3_27 hC hw dX3_allFindHosts_1 ?_
  refine lv_aload_n hC.1 hC.2.1 dX3_allFindHosts_4 rfl (lv_at hl 0 rfl) ?_
  refine gf_X3_27 hC hw dX3_allFindHosts_5 ?_
  refine q_callVp (As := []) (rest := [.ref (a 63)]) (q0 := 3) hC hw hl (tX2_code l E a σ fm (fun k => dz fz ((fun _ => 10) k)) (by first | assumption | omega) (by first | assumption | omega) (fun i hi => ⟨(hat i hi).trans (atI_d (fun _ => by omega)), dz_lt (nh := nh) (p := fun _ => 10) (fm := fm) hnh hfz (fun _ _ => Or.inl rfl) hi⟩)) (q_cwV hC.2.2.2.2.1 ⟨rfl, rfl⟩ wk3_165 wk3_166 wk3_167 wk1_7 wk3_168 hd_X2_code ⟨Nat.le_of_ble_eq_true rfl, Nat.le_of_ble_eq_true rfl⟩) rfl rfl rfl rfl rfl (Nat.le_of_ble_eq_true rfl) dX3_allFindHosts_8 (fun H locs hw => ?_)
  refine q_top (y := nI (cen fz (fun _ => 10) fm)) rfl ?_
  refine q_callVvp (As := [.int (nI (cen fz (fun _ => 10) fm))]) (rest := []) (q0 := 3) hC hw hl (tX2_lookFrom l E a σ fm (cen fz (fun _ => 10) fm) (by first | assumption | omega) (by first | assumption | omega) hx0) (q_cwV hC.2.2.2.2.1 ⟨rfl, rfl⟩ wk3_171 wk3_172 wk3_173 wk1_7 wk3_174 hd_X2_lookFrom ⟨Nat.le_of_ble_eq_true rfl, Nat.le_of_ble_eq_true rfl⟩) rfl rfl rfl rfl rfl (Nat.le_of_ble_eq_true rfl) dX3_allFindHosts_11 (fun H locs hw => ?_)
  have hw : Wst E (XW E a) (sr (sr (sr σ 25 (upd (σ 25) 0 (nI (cen fz (fun _ => 10) fm)))) 26 (upd (fil (10 ^ fm) (-1) (σ 26)) (cen fz (fun _ => 10) fm) (nI (cen fz (fun _ => 10) fm)))) 0 (upd (σ 0) 7 (nI 1))) A s.heap H locs := hw
  refine lv_iconst (v := nI 0) hC.1 hC.2.1 dX3_allFindHosts_14 (by decide) ?_
  refine lv_istore_n (lv' := [(1, .int (nI 0)), (0, .ref (a 64))]) hC.1 hC.2.1 dX3_allFindHosts_15 rfl hl (by decide) rfl (fun ls hl => ?_)
  have L16_6 : ∀ (n : Nat), ∀ (k : Nat), ∀ (d16 : Nat → Int32), ∀ (d17 : Nat → Int32), ∀ (d18 : Nat → Int32), ∀ (d19 : Nat → Int32), ∀ (d20 : Nat → Int32), ∀ (d21 : Nat → Int32), ∀ (d24 : Nat → Int32), ∀ (d25 : Nat → Int32), ∀ (d26 : Nat → Int32), ∀ (dl : Nat), ∀ (pz : Nat → Nat), ∀ (s0 : Nat → Nat), ∀ (N0 : Nat), (k ≤ 10000) → (FSr E0 (pP F P0 (pz) fm) nh nj d16 d17 d18 d19 d20 d21) → (∀ i, i < fm → d24 i = atI fz (pz i)) → (OKP nh fm fz pz) → (DI E0 F fm P0 nh nj fz s0 N0 k (d25, d26, dl)) → (DD E0 F fm P0 nh nj fz s0 N0 dl d26) → (¬ d26 (cen fz (fun _ => 10) fm) = -1) → (10001 - k) < n → ∀ (H : Heap) (locs : List Loc) (ls : Array Slot), Wst E (XW E a) (sr (sr (sr (sr (sr (sr (sr (sr (sr (sr σ 16 (d16)) 17 (d17)) 18 (d18)) 19 (d19)) 20 (d20)) 21 (d21)) 24 (d24)) 25 (d25)) 26 (d26)) 0 (upd (σ 0) 7 (nI dl))) A s.heap H locs → lv_has ls 3 [(0, .ref (a 64)), (1, .int (nI k))] → W p l e ({ frames := 4, cells := 0, slots := 0, locals := 98 }) s m args below meth c H locs 0 0 Q (F0 m 16 ls []) := by
    intro n
    induction n with
    | zero => intro k d16 d17 d18 d19 d20 d21 d24 d25 d26 dl pz s0 N0 hk hF0 hat0 hpz hDI hDD hsn hn; exact absurd hn (Nat.not_lt_zero _)
    | succ n ih16 =>
      intro k d16 d17 d18 d19 d20 d21 d24 d25 d26 dl pz s0 N0 hk hF0 hat0 hpz hDI hDD hsn hn16 H locs ls hw hl
      have hN9 := hDI.le hnh hfz
      have hN8 : dl + k = N0 := hDI.2.2.2.1
      refine lv_iload_n hC.1 hC.2.1 dX3_allFindHosts_16 rfl (lv_at hl 1 rfl) ?_
      refine lv_sipush (v := nI 10000) hC.1 hC.2.1 dX3_allFindHosts_17 (by decide) ?_
      refine q_cmpge hC 89 (cNle (by omega) (by omega)) dX3_allFindHosts_20 (by decide) (fun (c8 : 10000 ≤ k) => ?_) (fun (c8 : k < 10000) => ?_)
      · refine lv_iconst (v := nI 0) hC.1 hC.2.1 dX3_allFindHosts_89 (by decide) ?_
        refine hret _ _ _ _ _ _ hw ?_ (by decide) dX3_allFindHosts_90
        have hdl0 : dl = 0 := by omega
        exact ⟨Or.inr ⟨rfl, hDI.no hDD hdl0 hnh hfz hd hsn⟩, d16, d17, d18, d19, d20, d21, d24, d25, d26, nI dl, rfl⟩
      · refine lv_aload_n hC.1 hC.2.1 dX3_allFindHosts_23 rfl (lv_at hl 0 rfl) ?_
        refine gf_X3_27 hC hw dX3_allFindHosts_24 ?_
        refine gf_X3_83 (v := nI dl) hC hw rfl dX3_allFindHosts_27 ?_
        refine q_ifle hC 89 (cNle (b := 0) (by omega) (by decide)) dX3_allFindHosts_30 (by decide) (fun (c9 : dl ≤ 0) => ?_) (fun (c9 : 0 < dl) => ?_)
        · refine lv_iconst (v := nI 0) hC.1 hC.2.1 dX3_allFindHosts_89 (by decide) ?_
          refine hret _ _ _ _ _ _ hw ?_ (by decide) dX3_allFindHosts_90
          have hdl0 : dl = 0 := by omega
          exact ⟨Or.inr ⟨rfl, hDI.no hDD hdl0 hnh hfz hd hsn⟩, d16, d17, d18, d19, d20, d21, d24, d25, d26, nI dl, rfl⟩
        · refine lv_aload_n hC.1 hC.2.1 dX3_allFindHosts_33 rfl (lv_at hl 0 rfl) ?_
          refine gf_X3_27 hC hw dX3_allFindHosts_34 ?_
          refine lv_dup hC.1 hC.2.1 dX3_allFindHosts_37 rfl ?_
          refine gf_X3_83 (v := nI dl) hC hw rfl dX3_allFindHosts_38 ?_
          refine lv_iconst (v := nI 1) hC.1 hC.2.1 dX3_allFindHosts_41 (by decide) ?_
          refine q_subN hC (by omega) dX3_allFindHosts_42 ?_
          refine pf_X3_83 hC hw dX3_allFindHosts_43 (fun H locs hw => ?_)
          have hw : Wst E (XW E a) (sr (sr (sr (sr (sr (sr (sr (sr (sr (sr (sr σ 16 (d16)) 17 (d17)) 18 (d18)) 19 (d19)) 20 (d20)) 21 (d21)) 24 (d24)) 25 (d25)) 26 (d26)) 0 (upd (σ 0) 7 (nI dl))) 0 (upd (upd (σ 0) 7 (nI dl)) 7 (nI (dl - 1)))) A s.heap H locs := hw
          have hst_ : sr (sr (sr (sr (sr (sr (sr (sr (sr (sr (sr σ 16 (d16)) 17 (d17)) 18 (d18)) 19 (d19)) 20 (d20)) 21 (d21)) 24 (d24)) 25 (d25)) 26 (d26)) 0 (upd (σ 0) 7 (nI dl))) 0 (upd (upd (σ 0) 7 (nI dl)) 7 (nI (dl - 1))) = sr (sr (sr (sr (sr (sr (sr (sr (sr (sr σ 16 (d16)) 17 (d17)) 18 (d18)) 19 (d19)) 20 (d20)) 21 (d21)) 24 (d24)) 25 (d25)) 26 (d26)) 0 (upd (σ 0) 7 (nI (dl - 1))) := by
            funext j_ x_
            by_cases e0 : j_ = 0
            · subst e0
              by_cases y7 : x_ = 7
              · subst y7; rfl
              · simp [sr, upd, y7]
            · by_cases e16 : j_ = 16
              · subst e16; rfl
              · by_cases e17 : j_ = 17
                · subst e17; rfl
                · by_cases e18 : j_ = 18
                  · subst e18; rfl
                  · by_cases e19 : j_ = 19
                    · subst e19; rfl
                    · by_cases e20 : j_ = 20
                      · subst e20; rfl
                      · by_cases e21 : j_ = 21
                        · subst e21; rfl
                        · by_cases e24 : j_ = 24
                          · subst e24; rfl
                          · by_cases e25 : j_ = 25
                            · subst e25; rfl
                            · by_cases e26 : j_ = 26
                              · subst e26; rfl
                              · simp only [sr, e0, e16, e17, e18, e19, e20, e21, e24, e25, e26, if_false]
          rw [hst_] at hw
          obtain ⟨qz, hR, hqz, hsq⟩ := hDI.1 (dl - 1) (by omega)
          have hlt9 := cen_lt hnh hfz hqz
          refine lv_aload_n hC.1 hC.2.1 dX3_allFindHosts_46 rfl (lv_at hl 0 rfl) ?_
          refine gf_X3_27 hC hw dX3_allFindHosts_47 ?_
          refine gf_X3_86 hC hw dX3_allFindHosts_50 ?_
          refine lv_aload_n hC.1 hC.2.1 dX3_allFindHosts_53 rfl (lv_at hl 0 rfl) ?_
          refine gf_X3_27 hC hw dX3_allFindHosts_54 ?_
          refine gf_X3_83 (v := nI (dl - 1)) hC hw rfl dX3_allFindHosts_57 ?_
          refine al_X25 (v := nI (cen fz qz fm)) hC hw (by omega) ((hDI.2.2.2.2 (dl - 1) (show dl - 1 < dl by omega)).trans (congrArg nI hsq)) dX3_allFindHosts_60 ?_
          refine lv_istore_n (lv' := [(2, .int (nI (cen fz qz fm))), (0, .ref (a 64)), (1, .int (nI k))]) hC.1 hC.2.1 dX3_allFindHosts_61 rfl hl (by decide) rfl (fun ls hl => ?_)
          refine lv_aload_n hC.1 hC.2.1 dX3_allFindHosts_62 rfl (lv_at hl 1 rfl) ?_
          refine gf_X3_27 hC hw dX3_allFindHosts_63 ?_
          refine lv_iload_n hC.1 hC.2.1 dX3_allFindHosts_66 rfl (lv_at hl 0 rfl) ?_
          refine q_callVp (As := [.int (nI (cen fz qz fm))]) (rest := []) (q0 := 3) hC hw hl (tX2_allLeftFallen l E a (sr (sr (sr (sr (sr (sr (sr (sr (sr (sr σ 16 (d16)) 17 (d17)) 18 (d18)) 19 (d19)) 20 (d20)) 21 (d21)) 24 (d24)) 25 (d25)) 26 (d26)) 0 (upd (σ 0) 7 (nI (dl - 1)))) fm (cen fz qz fm) hm (by first | assumption | omega) (by omega)) (q_cwV hC.2.2.2.2.1 ⟨rfl, rfl⟩ wk3_183 wk3_184 wk3_185 wk1_7 wk3_186 hd_X2_allLeftFallen ⟨Nat.le_of_ble_eq_true rfl, Nat.le_of_ble_eq_true rfl⟩) rfl rfl rfl rfl rfl (Nat.le_of_ble_eq_true rfl) dX3_allFindHosts_67 (fun H locs hw => ?_)
          refine q_ifeq hC 75 cB dX3_allFindHosts_70 (by decide) (fun (c13 : ¬ (∀ k, k < fm → ¬ nI ((cen fz qz fm) / 10 ^ k % 10) = (σ 0 8))) => ?_) (fun (c13 : ∀ k, k < fm → ¬ nI ((cen fz qz fm) / 10 ^ k % 10) = (σ 0 8)) => ?_)
          · refine lv_aload_n hC.1 hC.2.1 dX3_allFindHosts_75 rfl (lv_at hl 1 rfl) ?_
            refine gf_X3_27 hC hw dX3_allFindHosts_76 ?_
            refine lv_iload_n hC.1 hC.2.1 dX3_allFindHosts_79 rfl (lv_at hl 0 rfl) ?_
            refine q_callVv (As := [.int (nI (cen fz qz fm))]) (rest := []) (q0 := 3) hC hw hl (tX2_lineUpNext l E a (sr (sr (sr (sr (sr (sr (sr (sr (sr (sr σ 16 (d16)) 17 (d17)) 18 (d18)) 19 (d19)) 20 (d20)) 21 (d21)) 24 (d24)) 25 (d25)) 26 (d26)) 0 (upd (σ 0) 7 (nI (dl - 1)))) nh nj E0 fm fz F P0 pz qz (dl - 1) (cen fz qz fm) hN hE hS hF0 hm hm4 h8 (by omega) hF hFk hat0 hpz hqz (fun _ _ _ => by omega) hlt9 (fun i hi => cen_dig hnh hfz hqz hi) rfl (by omega) hP0) (q_cwV hC.2.2.2.2.1 ⟨rfl, rfl⟩ wk3_191 wk3_192 wk3_193 wk1_7 wk3_194 hd_X2_lineUpNext ⟨Nat.le_of_ble_eq_true rfl, Nat.le_of_ble_eq_true rfl⟩) rfl rfl rfl rfl rfl (Nat.le_of_ble_eq_true rfl) dX3_allFindHosts_80 (fun u16 H locs p14 hw => ?_)
            obtain ⟨b16_17, b17_18, b18_19, b19_20, b20_21, b21_22, b24_23, hFu16, hatu16, huu16⟩ := p14
            subst huu16
            have hst_ : sr (sr (sr (sr (sr (sr (sr (sr (sr (sr (sr (sr (sr (sr (sr (sr (sr (sr (sr (sr σ 16 (d16)) 17 (d17)) 18 (d18)) 19 (d19)) 20 (d20)) 21 (d21)) 24 (d24)) 25 (d25)) 26 (d26)) 0 (upd (σ 0) 7 (nI (dl - 1)))) 16 b16_17) 17 b17_18) 18 b18_19) 19 b19_20) 20 b20_21) 21 b21_22) 24 b24_23) 25 ((lnK (gC E0 F fm P0 nh nj qz) (aC fz qz) (cen fz qz fm) nh ((sr (sr (sr (sr (sr (sr (sr (sr (sr (sr σ 16 (d16)) 17 (d17)) 18 (d18)) 19 (d19)) 20 (d20)) 21 (d21)) 24 (d24)) 25 (d25)) 26 (d26)) 0 (upd (σ 0) 7 (nI (dl - 1)))) 25, (sr (sr (sr (sr (sr (sr (sr (sr (sr (sr σ 16 (d16)) 17 (d17)) 18 (d18)) 19 (d19)) 20 (d20)) 21 (d21)) 24 (d24)) 25 (d25)) 26 (d26)) 0 (upd (σ 0) 7 (nI (dl - 1)))) 26, (dl - 1)) fm).1)) 26 ((lnK (gC E0 F fm P0 nh nj qz) (aC fz qz) (cen fz qz fm) nh ((sr (sr (sr (sr (sr (sr (sr (sr (sr (sr σ 16 (d16)) 17 (d17)) 18 (d18)) 19 (d19)) 20 (d20)) 21 (d21)) 24 (d24)) 25 (d25)) 26 (d26)) 0 (upd (σ 0) 7 (nI (dl - 1)))) 25, (sr (sr (sr (sr (sr (sr (sr (sr (sr (sr σ 16 (d16)) 17 (d17)) 18 (d18)) 19 (d19)) 20 (d20)) 21 (d21)) 24 (d24)) 25 (d25)) 26 (d26)) 0 (upd (σ 0) 7 (nI (dl - 1)))) 26, (dl - 1)) fm).2.1)) 0 (upd ((sr (sr (sr (sr (sr (sr (sr (sr (sr (sr σ 16 (d16)) 17 (d17)) 18 (d18)) 19 (d19)) 20 (d20)) 21 (d21)) 24 (d24)) 25 (d25)) 26 (d26)) 0 (upd (σ 0) 7 (nI (dl - 1)))) 0) 7 (nI ((lnK (gC E0 F fm P0 nh nj qz) (aC fz qz) (cen fz qz fm) nh ((sr (sr (sr (sr (sr (sr (sr (sr (sr (sr σ 16 (d16)) 17 (d17)) 18 (d18)) 19 (d19)) 20 (d20)) 21 (d21)) 24 (d24)) 25 (d25)) 26 (d26)) 0 (upd (σ 0) 7 (nI (dl - 1)))) 25, (sr (sr (sr (sr (sr (sr (sr (sr (sr (sr σ 16 (d16)) 17 (d17)) 18 (d18)) 19 (d19)) 20 (d20)) 21 (d21)) 24 (d24)) 25 (d25)) 26 (d26)) 0 (upd (σ 0) 7 (nI (dl - 1)))) 26, (dl - 1)) fm).2.2))) = sr (sr (sr (sr (sr (sr (sr (sr (sr (sr σ 16 (b16_17)) 17 (b17_18)) 18 (b18_19)) 19 (b19_20)) 20 (b20_21)) 21 (b21_22)) 24 (b24_23)) 25 ((lnK (gC E0 F fm P0 nh nj qz) (aC fz qz) (cen fz qz fm) nh (d25, d26, (dl - 1)) fm).1)) 26 ((lnK (gC E0 F fm P0 nh nj qz) (aC fz qz) (cen fz qz fm) nh (d25, d26, (dl - 1)) fm).2.1)) 0 (upd (σ 0) 7 (nI (lnK (gC E0 F fm P0 nh nj qz) (aC fz qz) (cen fz qz fm) nh (d25, d26, (dl - 1)) fm).2.2)) := by
              funext j_ x_
              by_cases e0 : j_ = 0
              · subst e0
                by_cases y7 : x_ = 7
                · subst y7; rfl
                · simp [sr, upd, y7]
              · by_cases e16 : j_ = 16
                · subst e16; rfl
                · by_cases e17 : j_ = 17
                  · subst e17; rfl
                  · by_cases e18 : j_ = 18
                    · subst e18; rfl
                    · by_cases e19 : j_ = 19
                      · subst e19; rfl
                      · by_cases e20 : j_ = 20
                        · subst e20; rfl
                        · by_cases e21 : j_ = 21
                          · subst e21; rfl
                          · by_cases e24 : j_ = 24
                            · subst e24; rfl
                            · by_cases e25 : j_ = 25
                              · subst e25; rfl
                              · by_cases e26 : j_ = 26
                                · subst e26; rfl
                                · simp only [sr, e0, e16, e17, e18, e19, e20, e21, e24, e25, e26, if_false]
            rw [hst_] at hw
            refine lv_iinc (v := nI (k + 1)) (lv' := [(1, .int (nI (k + 1))), (2, .int (nI (cen fz qz fm))), (0, .ref (a 64))]) hC.1 hC.2.1 dX3_allFindHosts_83 hl (k := 2) rfl (nI_add _ _) (by decide) rfl (fun ls hl => ?_)
            refine lv_goto (tgt := 16) hC.1 hC.2.1 dX3_allFindHosts_86 (by decide) ?_
            have hz9 : ∃ i, i < fm ∧ qz i = 10 := Classical.byContradiction fun z => c13 (fun i hi e => z ⟨i, hi, (fz_dig hnh hfz (hqz i hi) (by rw [cen_dig hnh hfz hqz hi, h8] at e; exact e))⟩)
            have hDI0 : DI E0 F fm P0 nh nj fz s0 N0 k (d25, d26, (dl - 1) + 1) := by rw [show dl - 1 + 1 = dl by omega]; exact hDI
            have hDD0 : DD E0 F fm P0 nh nj fz s0 N0 ((dl - 1) + 1) d26 := by rw [show dl - 1 + 1 = dl by omega]; exact hDD
            obtain ⟨s9, N9, hDI9, hDD9⟩ := DI.look hDI0 hDD0 hnh hfz hm4 hd hR hqz hsq hz9
            have hsn9 : ¬ (lnK (gC E0 F fm P0 nh nj qz) (aC fz qz) (cen fz qz fm) nh (d25, d26, dl - 1) fm).2.1 (cen fz (fun _ => 10) fm) = -1 := lnK_mono (by omega) hsn fm
            exact ih16 (k + 1) b16_17 b17_18 b18_19 b19_20 b20_21 b21_22 b24_23 ((lnK (gC E0 F fm P0 nh nj qz) (aC fz qz) (cen fz qz fm) nh (d25, d26, (dl - 1)) fm).1) ((lnK (gC E0 F fm P0 nh nj qz) (aC fz qz) (cen fz qz fm) nh (d25, d26, (dl - 1)) fm).2.1) ((lnK (gC E0 F fm P0 nh nj qz) (aC fz qz) (cen fz qz fm) nh (d25, d26, (dl - 1)) fm).2.2) qz s9 N9 (by omega) hFu16 hatu16 hqz hDI9 hDD9 hsn9 (by omega) _ _ _ hw (lv_sub hl [2, 0] rfl)
          · refine lv_iconst (v := nI 1) hC.1 hC.2.1 dX3_allFindHosts_73 (by decide) ?_
            refine hret _ _ _ _ _ _ hw ?_ (by decide) dX3_allFindHosts_74
            exact ⟨Or.inl ⟨rfl, qz, hR, fun i hi e => c13 i hi (by rw [cen_dig hnh hfz hqz hi, h8, e]; unfold dz plc; rw [if_pos rfl, if_neg (by omega)])⟩, d16, d17, d18, d19, d20, d21, d24, d25, d26, nI (dl - 1), rfl⟩
  have hst_ : sr (sr (sr σ 25 (upd (σ 25) 0 (nI (cen fz (fun _ => 10) fm)))) 26 (upd (fil (10 ^ fm) (-1) (σ 26)) (cen fz (fun _ => 10) fm) (nI (cen fz (fun _ => 10) fm)))) 0 (upd (σ 0) 7 (nI 1)) = sr (sr (sr (sr (sr (sr (sr (sr (sr (sr σ 16 (σ 16)) 17 (σ 17)) 18 (σ 18)) 19 (σ 19)) 20 (σ 20)) 21 (σ 21)) 24 (σ 24)) 25 (upd (σ 25) 0 (nI (cen fz (fun _ => 10) fm)))) 26 (upd (fil (10 ^ fm) (-1) (σ 26)) (cen fz (fun _ => 10) fm) (nI (cen fz (fun _ => 10) fm)))) 0 (upd (σ 0) 7 (nI 1)) := by
    funext j_ x_
    by_cases e0 : j_ = 0
    · subst e0
      by_cases y7 : x_ = 7
      · subst y7; rfl
      · simp [sr, upd, y7]
    · by_cases e16 : j_ = 16
      · subst e16; rfl
      · by_cases e17 : j_ = 17
        · subst e17; rfl
        · by_cases e18 : j_ = 18
          · subst e18; rfl
          · by_cases e19 : j_ = 19
            · subst e19; rfl
            · by_cases e20 : j_ = 20
              · subst e20; rfl
              · by_cases e21 : j_ = 21
                · subst e21; rfl
                · by_cases e24 : j_ = 24
                  · subst e24; rfl
                  · by_cases e25 : j_ = 25
                    · subst e25; rfl
                    · by_cases e26 : j_ = 26
                      · subst e26; rfl
                      · simp only [sr, e0, e16, e17, e18, e19, e20, e21, e24, e25, e26, if_false]
  rw [hst_] at hw
  exact L16_6 _ 0 (σ 16) (σ 17) (σ 18) (σ 19) (σ 20) (σ 21) (σ 24) (upd (σ 25) 0 (nI (cen fz (fun _ => 10) fm))) (upd (fil (10 ^ fm) (-1) (σ 26)) (cen fz (fun _ => 10) fm) (nI (cen fz (fun _ => 10) fm))) 1 (fun _ => 10) (fun _ => cen fz (fun _ => 10) fm) 1 (by omega) hFS hat (fun _ _ => Or.inl rfl) (DI.start hnh hfz hm4) (fun i h1 h2 => by omega) (by rw [ups]; exact fun q => nI_nm1 (by omega) q.symm) (Nat.lt_succ_self _) _ _ _ hw (lv_sub hl [1, 0] rfl)
