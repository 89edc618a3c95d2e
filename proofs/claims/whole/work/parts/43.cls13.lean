theorem upd_upd9 {f : Nat → Int32} {k : Nat} {x y : Int32} : upd (upd f k x) k y = upd f k y := funext fun i => by
  by_cases e : i = k
  · subst e; rw [ups, ups]
  · rw [upn e, upn e, upn e]
theorem up1 {σ E0 : St} {nh nj h : Nat} (hS : cS E0 nh nj) (hE : aE σ E0) (hh : h < nh) (hu : ¬ σ 4 h = 0) : σ 4 h = 1 := by
  rw [hE.2.2.2.1] at hu ⊢
  exact (hS.2.2.1 h hh).2.1.resolve_left hu
theorem up_v {σ E0 : St} {v : Nat → Int32} {nh nj h : Nat} (hS : cS E0 nh nj) (hE : aE σ E0) (hA : agE E0 (eM v) nh nj) (hh : h < nh) : σ 4 h = eM v 4 h := (congrFun hE.2.2.2.1 h).trans (hA.1 h hh).2.2.2
/-- of the few that would wait none is anywhere -/
theorem pP_10 {F : Nat → Nat} {P0 : Nat → Int32} {m : Nat} (h : ∀ i, i < m → P0 (F i) = -1) (k : Nat) : pP F P0 (fun _ => 10) m k = P0 k := by
  induction m with
  | zero => rfl
  | succ m ih =>
    rw [pP]
    by_cases e : k = F m
    · rw [e, ups, h m (by omega)]; rfl
    · rw [upn e]; exact ih (fun i hi => h i (by omega))
theorem fwP_10 {v : Nat → Int32} {nh nj h : Nat} (hW : mF v nh nj) (hh : h < nh) : ∀ i, i < (fwL v h nj).length → pB (eM (f_fal v h nj)) (-1) (fwF v h nj i) = -1 := fun i hi => by
  have h1 := hW.1; have h2 := hW.2.1
  have e : eM (f_fal v h nj) 11 (fwF v h nj i) = 0 := fwF_0 h2 (by omega) hi
  unfold pB
  rw [e]
  split
  · rfl
  · exact if_neg (by decide)
set_option maxHeartbeats 4000000 in
set_option maxRecDepth 100000 in
theorem tX3_firstUnsafe (l : Launch) (E : EV) (a : Nat → Nat) (σ : St) (nh : Nat) (nj : Nat) (E0 : St) (v : Nat → Int32) (hN : cN2 σ nh nj) (hE : aE σ E0) (hS : cS E0 nh nj) (hFS : FSr E0 (pB (eM v) (-1)) nh nj (σ 16) (σ 17) (σ 18) (σ 19) (σ 20) (σ 21)) (hX : JX σ v nj) (hA : agE E0 (eM v) nh nj) (hW : mF v nh nj) (hle : ∀ h, h < nh → (fwL v h nj).length ≤ 4) : MI l E (XW E a) yX3_firstUnsafe (Cond.code yX3_firstUnsafe cX3_firstUnsafe 3 (some .int)) ({ frames := 5, cells := 0, slots := 0, locals := 120 }) [.ref (a 64)] σ (fun r_ u_ => ((∃ h, h < nh ∧ (¬ eM v 4 h = 0 ∧ ¬ Sf v nh nj h) ∧ (∀ x, x < h → ¬ eM v 4 x = 0 → Sf v nh nj x) ∧ r_ = nI h) ∨ ((∀ x, x < nh → ¬ eM v 4 x = 0 → Sf v nh nj x) ∧ r_ = -1)) ∧ ∃ (b16 b17 b18 b19 b20 b21 b23 b24 b25 b26 : Nat → Int32) (z6 z7 z8 : Int32), FSr E0 (pB (eM v) (-1)) nh nj b16 b17 b18 b19 b20 b21 ∧ u_ = sr (sr (sr (sr (sr (sr (sr (sr (sr (sr (sr σ 16 b16) 17 b17) 18 b18) 19 b19) 20 b20) 21 b21) 23 b23) 24 b24) 25 b25) 26 b26) 0 (upd (upd (upd (σ 0) 6 z6) 7 z7) 8 z8)) := by
  refine MI.mk (by decide +kernel) (Nat.le_of_ble_eq_true rfl) ?_
  intro p e s m args below meth c ls A Q hret hC hw hl
  have hC : Cxt E p s m args meth c cX3_firstUnsafe 3 (some .int) RX3 A := hC
  have hl : lv_has ls 3 [(0, .ref (a 64))] := hl
  have hnh := hS.1
  have hnj := hS.2.1
  refine lv_iconst (v := nI 0) hC.1 hC.2.1 dX3_firstUnsafe_0 (by decide) ?_
  refine lv_istore_n (lv' := [(1, .int (nI 0)), (0, .ref (a 64))]) hC.1 hC.2.1 dX3_firstUnsafe_1 rfl hl (by decide) rfl (fun ls hl => ?_)
  have L2_0 : ∀ (n : Nat), ∀ (h : Nat), ∀ (d16 : Nat → Int32), ∀ (d17 : Nat → Int32), ∀ (d18 : Nat → Int32), ∀ (d19 : Nat → Int32), ∀ (d20 : Nat → Int32), ∀ (d21 : Nat → Int32), ∀ (d23 : Nat → Int32), ∀ (d24 : Nat → Int32), ∀ (d25 : Nat → Int32), ∀ (d26 : Nat → Int32), ∀ (z6 : Int32), ∀ (z7 : Int32), ∀ (z8 : Int32), (h ≤ nh) → (FSr E0 (pB (eM v) (-1)) nh nj d16 d17 d18 d19 d20 d21) → (∀ x, x < h → ¬ eM v 4 x = 0 → Sf v nh nj x) → (nh - h) < n → ∀ (H : Heap) (locs : List Loc) (ls : Array Slot), Wst E (XW E a) (sr (sr (sr (sr (sr (sr (sr (sr (sr (sr (sr σ 16 (d16)) 17 (d17)) 18 (d18)) 19 (d19)) 20 (d20)) 21 (d21)) 23 (d23)) 24 (d24)) 25 (d25)) 26 (d26)) 0 (upd (upd (upd (σ 0) 6 (z6)) 7 (z7)) 8 (z8))) A s.heap H locs → lv_has ls 3 [(0, .ref (a 64)), (1, .int (nI h))] → W p l e ({ frames := 5, cells := 0, slots := 0, locals := 120 }) s m args below meth c H locs 0 0 Q (F0 m 2 ls []) := by
    intro n
    induction n with
    | zero => intro h d16 d17 d18 d19 d20 d21 d23 d24 d25 d26 z6 z7 z8 hh hF0 hsf hn; exact absurd hn (Nat.not_lt_zero _)
    | succ n ih2 =>
      intro h d16 d17 d18 d19 d20 d21 d23 d24 d25 d26 z6 z7 z8 hh hF0 hsf hn2 H locs ls hw hl
      refine lv_iload_n hC.1 hC.2.1 dX3_firstUnsafe_2 rfl (lv_at hl 1 rfl) ?_
      refine lv_aload_n hC.1 hC.2.1 dX3_firstUnsafe_3 rfl (lv_at hl 0 rfl) ?_
      refine gf_X3_21 hC hw dX3_firstUnsafe_4 ?_
      refine gf_X3_31 (v := nI nh) hC hw hN.1 dX3_firstUnsafe_7 ?_
      refine q_cmpge hC 64 (cNle (by omega) (by omega)) dX3_firstUnsafe_10 (by decide) (fun (c2 : nh ≤ h) => ?_) (fun (c2 : h < nh) => ?_)
      · refine lv_iconst (v := (-1)) hC.1 hC.2.1 dX3_firstUnsafe_64 (by decide) ?_
        refine hret _ _ _ _ _ _ hw ?_ rfl dX3_firstUnsafe_65
        exact ⟨Or.inr ⟨fun x hx => hsf x (by omega), rfl⟩, d16, d17, d18, d19, d20, d21, d23, d24, d25, d26, z6, z7, z8, hF0, rfl⟩
      · refine lv_aload_n hC.1 hC.2.1 dX3_firstUnsafe_13 rfl (lv_at hl 0 rfl) ?_
        refine gf_X3_21 hC hw dX3_firstUnsafe_14 ?_
        refine gf_X3_48 hC hw dX3_firstUnsafe_17 ?_
        refine lv_iload_n hC.1 hC.2.1 dX3_firstUnsafe_20 rfl (lv_at hl 1 rfl) ?_
        refine al_X4 (v := σ 4 h) hC hw (by omega) rfl dX3_firstUnsafe_21 ?_
        refine q_ifeq hC 58 cI dX3_firstUnsafe_22 (by decide) (fun (c3 : σ 4 h = 0) => ?_) (fun (c3 : ¬ (σ 4 h = 0)) => ?_)
        · refine lv_iinc (v := nI (h + 1)) (lv' := [(1, .int (nI (h + 1))), (0, .ref (a 64))]) hC.1 hC.2.1 dX3_firstUnsafe_58 hl (k := 1) rfl (nI_add _ _) (by decide) rfl (fun ls hl => ?_)
          refine lv_goto (tgt := 2) hC.1 hC.2.1 dX3_firstUnsafe_61 (by decide) ?_
          have hsf2 : ∀ x, x < h + 1 → ¬ eM v 4 x = 0 → Sf v nh nj x := ball_s.mpr ⟨hsf, fun q => absurd ((up_v hS hE hA (show h < nh by omega)).symm.trans c3) q⟩
          exact ih2 (h + 1) d16 d17 d18 d19 d20 d21 d23 d24 d25 d26 z6 z7 z8 (by omega) hF0 hsf2 (by omega) _ _ _ hw (lv_sub hl [1, 0] rfl)
        · refine lv_aload_n hC.1 hC.2.1 dX3_firstUnsafe_25 rfl (lv_at hl 0 rfl) ?_
          refine lv_iload_n hC.1 hC.2.1 dX3_firstUnsafe_26 rfl (lv_at hl 1 rfl) ?_
          refine q_callVv (As := [.int (nI h)]) (rest := []) (q0 := 4) hC hw hl (tX3_letFall l E a (sr (sr (sr (sr (sr (sr (sr (sr (sr (sr (sr σ 16 (d16)) 17 (d17)) 18 (d18)) 19 (d19)) 20 (d20)) 21 (d21)) 23 (d23)) 24 (d24)) 25 (d25)) 26 (d26)) 0 (upd (upd (upd (σ 0) 6 (z6)) 7 (z7)) 8 (z8))) nh nj E0 v h hN hE hS hF0 (fun k hk => hX k hk) hW (show h < nh by omega) (hle h (by omega))) (q_cwV hC.2.2.2.2.1 ⟨rfl, rfl⟩ wk3_147 wk3_149 wks_1_12 wk1_8 wk3_150 hd_X3_letFall ⟨Nat.le_of_ble_eq_true rfl, Nat.le_of_ble_eq_true rfl⟩) rfl rfl rfl rfl rfl (Nat.le_of_ble_eq_true rfl) dX3_firstUnsafe_27 (fun u6 H locs p4 hw => ?_)
          obtain ⟨b16_7, b17_8, b18_9, b19_10, b20_11, b21_12, b23_13, b24_14, hFu6, hmemu6, huu6⟩ := p4
          subst huu6
          have hst_ : sr (sr (sr (sr (sr (sr (sr (sr (sr (sr (sr (sr (sr (sr (sr (sr (sr (sr (sr (sr (sr σ 16 (d16)) 17 (d17)) 18 (d18)) 19 (d19)) 20 (d20)) 21 (d21)) 23 (d23)) 24 (d24)) 25 (d25)) 26 (d26)) 0 (upd (upd (upd (σ 0) 6 (z6)) 7 (z7)) 8 (z8))) 4 (upd ((sr (sr (sr (sr (sr (sr (sr (sr (sr (sr (sr σ 16 (d16)) 17 (d17)) 18 (d18)) 19 (d19)) 20 (d20)) 21 (d21)) 23 (d23)) 24 (d24)) 25 (d25)) 26 (d26)) 0 (upd (upd (upd (σ 0) 6 (z6)) 7 (z7)) 8 (z8))) 4) h 0)) 16 b16_7) 17 b17_8) 18 b18_9) 19 b19_10) 20 b20_11) 21 b21_12) 23 b23_13) 24 b24_14) 0 (upd (upd ((sr (sr (sr (sr (sr (sr (sr (sr (sr (sr (sr σ 16 (d16)) 17 (d17)) 18 (d18)) 19 (d19)) 20 (d20)) 21 (d21)) 23 (d23)) 24 (d24)) 25 (d25)) 26 (d26)) 0 (upd (upd (upd (σ 0) 6 (z6)) 7 (z7)) 8 (z8))) 0) 6 (nI (fwL v h nj).length)) 8 (nI h)) = sr (sr (sr (sr (sr (sr (sr (sr (sr (sr (sr (sr σ 4 (upd (σ 4) h 0)) 16 (b16_7)) 17 (b17_8)) 18 (b18_9)) 19 (b19_10)) 20 (b20_11)) 21 (b21_12)) 23 (b23_13)) 24 (b24_14)) 25 (d25)) 26 (d26)) 0 (upd (upd (upd (σ 0) 6 (nI (fwL v h nj).length)) 7 (z7)) 8 (nI h)) := by
            funext j_ x_
            by_cases e0 : j_ = 0
            · subst e0
              by_cases y6 : x_ = 6
              · subst y6; rfl
              · by_cases y7 : x_ = 7
                · subst y7; rfl
                · by_cases y8 : x_ = 8
                  · subst y8; rfl
                  · simp [sr, upd, y6, y7, y8]
            · by_cases e4 : j_ = 4
              · subst e4; rfl
              · by_cases e16 : j_ = 16
                · subst e16; rfl
                · by_cases e17 : j_ = 17
                  · subst e17; rfl
                  · by_cases e18 : j_ = 18
                    · subst e18; rfl
                    · by_cases e19 : j_ = 19
                      · subst e19; rfl
                      · by_cases e20 : j_ = 20
                        · subst e20; rfl
                        · by_cases e21 : j_ = 21
                          · subst e21; rfl
                          · by_cases e23 : j_ = 23
                            · subst e23; rfl
                            · by_cases e24 : j_ = 24
                              · subst e24; rfl
                              · by_cases e25 : j_ = 25
                                · subst e25; rfl
                                · by_cases e26 : j_ = 26
                                  · subst e26; rfl
                                  · simp only [sr, e0, e4, e16, e17, e18, e19, e20, e21, e23, e24, e25, e26, if_false]
          rw [hst_] at hw
          refine lv_aload_n hC.1 hC.2.1 dX3_firstUnsafe_30 rfl (lv_at hl 0 rfl) ?_
          have hPf := pB_ok (but := -1) (f_fal_mF (n := nj) hW (show h < nh by omega))
          have hsaf := Saf.ag (F := fwF v h nj) (fm := (fwL v h nj).length) (dn_ag hA hnh hnj (show h < nh by omega)) hnh hPf fwF_ok
          refine q_callV (As := []) (rest := []) (q0 := 4) hC hw hl (tX3_allFindHosts l E a (sr (sr (sr (sr (sr (sr (sr (sr (sr (sr (sr (sr σ 4 (upd (σ 4) h 0)) 16 (b16_7)) 17 (b17_8)) 18 (b18_9)) 19 (b19_10)) 20 (b20_11)) 21 (b21_12)) 23 (b23_13)) 24 (b24_14)) 25 (d25)) 26 (d26)) 0 (upd (upd (upd (σ 0) 6 (nI (fwL v h nj).length)) 7 (z7)) 8 (nI h))) nh nj (dn E0 h) ((fwL v h nj).length) h (fwF v h nj) (pB (eM (f_fal v h nj)) (-1)) hN hE.dn hS.dn (FSr.cg (fun k _ => (pP_10 (F := fwF v h nj) (fwP_10 hW (show h < nh by omega)) k).symm) hFu6) rfl (hle h (by omega)) (if_neg (show ¬ h = 10 by omega)).symm (show h < 10 by omega) (fun i hi => ⟨(hmemu6 i hi).1, (fwF_at hi).1⟩) fwF_ok (fun i hi => (hmemu6 i hi).2.trans (if_neg (show ¬ h = 10 by omega)).symm) hPf ups) (q_cwV hC.2.2.2.2.1 ⟨rfl, rfl⟩ wk3_161 wk3_163 wks_1_13 wk1_8 wk3_164 hd_X3_allFindHosts ⟨Nat.le_of_ble_eq_true rfl, Nat.le_of_ble_eq_true rfl⟩) rfl rfl rfl rfl rfl (Nat.le_of_ble_eq_true rfl) dX3_firstUnsafe_31 (fun r16 u17 H locs p15 hw => ?_)
          obtain ⟨hru17, b16_18, b17_19, b18_20, b19_21, b20_22, b21_23, b24_24, b25_25, b26_26, z7_27, huu17⟩ := p15
          subst huu17
          have hst_ : sr (sr (sr (sr (sr (sr (sr (sr (sr (sr (sr (sr (sr (sr (sr (sr (sr (sr (sr (sr (sr (sr σ 4 (upd (σ 4) h 0)) 16 (b16_7)) 17 (b17_8)) 18 (b18_9)) 19 (b19_10)) 20 (b20_11)) 21 (b21_12)) 23 (b23_13)) 24 (b24_14)) 25 (d25)) 26 (d26)) 0 (upd (upd (upd (σ 0) 6 (nI (fwL v h nj).length)) 7 (z7)) 8 (nI h))) 16 b16_18) 17 b17_19) 18 b18_20) 19 b19_21) 20 b20_22) 21 b21_23) 24 b24_24) 25 b25_25) 26 b26_26) 0 (upd ((sr (sr (sr (sr (sr (sr (sr (sr (sr (sr (sr (sr σ 4 (upd (σ 4) h 0)) 16 (b16_7)) 17 (b17_8)) 18 (b18_9)) 19 (b19_10)) 20 (b20_11)) 21 (b21_12)) 23 (b23_13)) 24 (b24_14)) 25 (d25)) 26 (d26)) 0 (upd (upd (upd (σ 0) 6 (nI (fwL v h nj).length)) 7 (z7)) 8 (nI h))) 0) 7 z7_27) = sr (sr (sr (sr (sr (sr (sr (sr (sr (sr (sr (sr σ 4 (upd (σ 4) h 0)) 16 (b16_18)) 17 (b17_19)) 18 (b18_20)) 19 (b19_21)) 20 (b20_22)) 21 (b21_23)) 23 (b23_13)) 24 (b24_24)) 25 (b25_25)) 26 (b26_26)) 0 (upd (upd (upd (σ 0) 6 (nI (fwL v h nj).length)) 7 (z7_27)) 8 (nI h)) := by
            funext j_ x_
            by_cases e0 : j_ = 0
            · subst e0
              by_cases y6 : x_ = 6
              · subst y6; rfl
              · by_cases y7 : x_ = 7
                · subst y7; rfl
                · by_cases y8 : x_ = 8
                  · subst y8; rfl
                  · simp [sr, upd, y6, y7, y8]
            · by_cases e4 : j_ = 4
              · subst e4; rfl
              · by_cases e16 : j_ = 16
                · subst e16; rfl
                · by_cases e17 : j_ = 17
                  · subst e17; rfl
                  · by_cases e18 : j_ = 18
                    · subst e18; rfl
                    · by_cases e19 : j_ = 19
                      · subst e19; rfl
                      · by_cases e20 : j_ = 20
                        · subst e20; rfl
                        · by_cases e21 : j_ = 21
                          · subst e21; rfl
                          · by_cases e23 : j_ = 23
                            · subst e23; rfl
                            · by_cases e24 : j_ = 24
                              · subst e24; rfl
                              · by_cases e25 : j_ = 25
                                · subst e25; rfl
                                · by_cases e26 : j_ = 26
                                  · subst e26; rfl
                                  · simp only [sr, e0, e4, e16, e17, e18, e19, e20, e21, e23, e24, e25, e26, if_false]
          rw [hst_] at hw
          refine lv_istore_n (lv' := [(2, .int (r16)), (0, .ref (a 64)), (1, .int (nI h))]) hC.1 hC.2.1 dX3_firstUnsafe_34 rfl hl (by decide) rfl (fun ls hl => ?_)
          refine lv_aload_n hC.1 hC.2.1 dX3_firstUnsafe_35 rfl (lv_at hl 1 rfl) ?_
          refine gf_X3_21 hC hw dX3_firstUnsafe_36 ?_
          refine gf_X3_48 hC hw dX3_firstUnsafe_39 ?_
          refine lv_iload_n hC.1 hC.2.1 dX3_firstUnsafe_42 rfl (lv_at hl 2 rfl) ?_
          refine lv_iconst (v := nI 1) hC.1 hC.2.1 dX3_firstUnsafe_43 (by decide) ?_
          refine as_X4 hC hw (by omega) (by decide) dX3_firstUnsafe_44 (fun H locs hw => ?_)
          have hw : Wst E (XW E a) (sr (sr (sr (sr (sr (sr (sr (sr (sr (sr (sr (sr (sr σ 4 (upd (σ 4) h 0)) 16 (b16_18)) 17 (b17_19)) 18 (b18_20)) 19 (b19_21)) 20 (b20_22)) 21 (b21_23)) 23 (b23_13)) 24 (b24_24)) 25 (b25_25)) 26 (b26_26)) 0 (upd (upd (upd (σ 0) 6 (nI (fwL v h nj).length)) 7 (z7_27)) 8 (nI h))) 4 (upd (upd (σ 4) h 0) h (1))) A s.heap H locs := hw
          have hst_ : sr (sr (sr (sr (sr (sr (sr (sr (sr (sr (sr (sr (sr σ 4 (upd (σ 4) h 0)) 16 (b16_18)) 17 (b17_19)) 18 (b18_20)) 19 (b19_21)) 20 (b20_22)) 21 (b21_23)) 23 (b23_13)) 24 (b24_24)) 25 (b25_25)) 26 (b26_26)) 0 (upd (upd (upd (σ 0) 6 (nI (fwL v h nj).length)) 7 (z7_27)) 8 (nI h))) 4 (upd (upd (σ 4) h 0) h (1)) = sr (sr (sr (sr (sr (sr (sr (sr (sr (sr (sr (sr σ 4 (upd (upd (σ 4) h 0) h (1))) 16 (b16_18)) 17 (b17_19)) 18 (b18_20)) 19 (b19_21)) 20 (b20_22)) 21 (b21_23)) 23 (b23_13)) 24 (b24_24)) 25 (b25_25)) 26 (b26_26)) 0 (upd (upd (upd (σ 0) 6 (nI (fwL v h nj).length)) 7 (z7_27)) 8 (nI h)) := by
            funext j_ x_
            by_cases e0 : j_ = 0
            · subst e0
              by_cases y6 : x_ = 6
              · subst y6; rfl
              · by_cases y7 : x_ = 7
                · subst y7; rfl
                · by_cases y8 : x_ = 8
                  · subst y8; rfl
                  · simp [sr, upd, y6, y7, y8]
            · by_cases e4 : j_ = 4
              · subst e4; rfl
              · by_cases e16 : j_ = 16
                · subst e16; rfl
                · by_cases e17 : j_ = 17
                  · subst e17; rfl
                  · by_cases e18 : j_ = 18
                    · subst e18; rfl
                    · by_cases e19 : j_ = 19
                      · subst e19; rfl
                      · by_cases e20 : j_ = 20
                        · subst e20; rfl
                        · by_cases e21 : j_ = 21
                          · subst e21; rfl
                          · by_cases e23 : j_ = 23
                            · subst e23; rfl
                            · by_cases e24 : j_ = 24
                              · subst e24; rfl
                              · by_cases e25 : j_ = 25
                                · subst e25; rfl
                                · by_cases e26 : j_ = 26
                                  · subst e26; rfl
                                  · simp only [sr, e0, e4, e16, e17, e18, e19, e20, e21, e23, e24, e25, e26, if_false]
          rw [hst_] at hw
          have e4 : upd (upd (σ 4) h 0) h 1 = σ 4 := by rw [upd_upd9]; exact upd_same (up1 hS hE (show h < nh by omega) c3)
          rw [e4] at hw
          have hst_ : sr (sr (sr (sr (sr (sr (sr (sr (sr (sr (sr (sr σ 4 (σ 4)) 16 (b16_18)) 17 (b17_19)) 18 (b18_20)) 19 (b19_21)) 20 (b20_22)) 21 (b21_23)) 23 (b23_13)) 24 (b24_24)) 25 (b25_25)) 26 (b26_26)) 0 (upd (upd (upd (σ 0) 6 (nI (fwL v h nj).length)) 7 (z7_27)) 8 (nI h)) = sr (sr (sr (sr (sr (sr (sr (sr (sr (sr (sr σ 16 (b16_18)) 17 (b17_19)) 18 (b18_20)) 19 (b19_21)) 20 (b20_22)) 21 (b21_23)) 23 (b23_13)) 24 (b24_24)) 25 (b25_25)) 26 (b26_26)) 0 (upd (upd (upd (σ 0) 6 (nI (fwL v h nj).length)) 7 (z7_27)) 8 (nI h)) := by
            funext j_ x_
            by_cases e0 : j_ = 0
            · subst e0
              by_cases y6 : x_ = 6
              · subst y6; rfl
              · by_cases y7 : x_ = 7
                · subst y7; rfl
                · by_cases y8 : x_ = 8
                  · subst y8; rfl
                  · simp [sr, upd, y6, y7, y8]
            · by_cases e4 : j_ = 4
              · subst e4; rfl
              · by_cases e16 : j_ = 16
                · subst e16; rfl
                · by_cases e17 : j_ = 17
                  · subst e17; rfl
                  · by_cases e18 : j_ = 18
                    · subst e18; rfl
                    · by_cases e19 : j_ = 19
                      · subst e19; rfl
                      · by_cases e20 : j_ = 20
                        · subst e20; rfl
                        · by_cases e21 : j_ = 21
                          · subst e21; rfl
                          · by_cases e23 : j_ = 23
                            · subst e23; rfl
                            · by_cases e24 : j_ = 24
                              · subst e24; rfl
                              · by_cases e25 : j_ = 25
                                · subst e25; rfl
                                · by_cases e26 : j_ = 26
                                  · subst e26; rfl
                                  · simp only [sr, e0, e4, e16, e17, e18, e19, e20, e21, e23, e24, e25, e26, if_false]
          rw [hst_] at hw
          refine lv_aload_n hC.1 hC.2.1 dX3_firstUnsafe_45 rfl (lv_at hl 1 rfl) ?_
          refine gf_X3_9 hC hw dX3_firstUnsafe_46 ?_
          refine q_callVv (As := []) (rest := []) (q0 := 5) hC hw hl (tX4_recount l E a (sr (sr (sr (sr (sr (sr (sr (sr (sr (sr (sr σ 16 (b16_18)) 17 (b17_19)) 18 (b18_20)) 19 (b19_21)) 20 (b20_22)) 21 (b21_23)) 23 (b23_13)) 24 (b24_24)) 25 (b25_25)) 26 (b26_26)) 0 (upd (upd (upd (σ 0) 6 (nI (fwL v h nj).length)) 7 (z7_27)) 8 (nI h))) nh nj E0 (pB (eM v) (-1)) hN hE hS ((show JX _ v nj from fun k hk => hX k hk).PL hW)) (q_cwV hC.2.2.2.2.1 ⟨rfl, rfl⟩ wk3_201 wk2_193 wk2_194 wk1_4 wk2_195 hd_X4_recount ⟨Nat.le_of_ble_eq_true rfl, Nat.le_of_ble_eq_true rfl⟩) rfl rfl rfl rfl rfl (Nat.le_of_ble_eq_true rfl) dX3_firstUnsafe_49 (fun u30 H locs p28 hw => ?_)
          obtain ⟨b16_31, b17_32, b18_33, b19_34, b20_35, b21_36, hFu30, huu30⟩ := p28
          subst huu30
          have hst_ : sr (sr (sr (sr (sr (sr (sr (sr (sr (sr (sr (sr (sr (sr (sr (sr (sr σ 16 (b16_18)) 17 (b17_19)) 18 (b18_20)) 19 (b19_21)) 20 (b20_22)) 21 (b21_23)) 23 (b23_13)) 24 (b24_24)) 25 (b25_25)) 26 (b26_26)) 0 (upd (upd (upd (σ 0) 6 (nI (fwL v h nj).length)) 7 (z7_27)) 8 (nI h))) 16 b16_31) 17 b17_32) 18 b18_33) 19 b19_34) 20 b20_35) 21 b21_36 = sr (sr (sr (sr (sr (sr (sr (sr (sr (sr (sr σ 16 (b16_31)) 17 (b17_32)) 18 (b18_33)) 19 (b19_34)) 20 (b20_35)) 21 (b21_36)) 23 (b23_13)) 24 (b24_24)) 25 (b25_25)) 26 (b26_26)) 0 (upd (upd (upd (σ 0) 6 (nI (fwL v h nj).length)) 7 (z7_27)) 8 (nI h)) := by
            funext j_ x_
            by_cases e0 : j_ = 0
            · subst e0
              by_cases y6 : x_ = 6
              · subst y6; rfl
              · by_cases y7 : x_ = 7
                · subst y7; rfl
                · by_cases y8 : x_ = 8
                  · subst y8; rfl
                  · simp [sr, upd, y6, y7, y8]
            · by_cases e16 : j_ = 16
              · subst e16; rfl
              · by_cases e17 : j_ = 17
                · subst e17; rfl
                · by_cases e18 : j_ = 18
                  · subst e18; rfl
                  · by_cases e19 : j_ = 19
                    · subst e19; rfl
                    · by_cases e20 : j_ = 20
                      · subst e20; rfl
                      · by_cases e21 : j_ = 21
                        · subst e21; rfl
                        · by_cases e23 : j_ = 23
                          · subst e23; rfl
                          · by_cases e24 : j_ = 24
                            · subst e24; rfl
                            · by_cases e25 : j_ = 25
                              · subst e25; rfl
                              · by_cases e26 : j_ = 26
                                · subst e26; rfl
                                · simp only [sr, e0, e16, e17, e18, e19, e20, e21, e23, e24, e25, e26, if_false]
          rw [hst_] at hw
          refine lv_iload_n hC.1 hC.2.1 dX3_firstUnsafe_52 rfl (lv_at hl 0 rfl) ?_
          refine q_ifne hC 58 cI dX3_firstUnsafe_53 (by decide) (fun (c37 : ¬ (r16 = 0)) => ?_) (fun (c37 : r16 = 0) => ?_)
          · refine lv_iinc (v := nI (h + 1)) (lv' := [(1, .int (nI (h + 1))), (2, .int (r16)), (0, .ref (a 64))]) hC.1 hC.2.1 dX3_firstUnsafe_58 hl (k := 2) rfl (nI_add _ _) (by decide) rfl (fun ls hl => ?_)
            refine lv_goto (tgt := 2) hC.1 hC.2.1 dX3_firstUnsafe_61 (by decide) ?_
            have hsf2 : ∀ x, x < h + 1 → ¬ eM v 4 x = 0 → Sf v nh nj x := ball_s.mpr ⟨hsf, fun _ => hsaf.mp (hru17.elim And.right (fun q => absurd q.1 c37))⟩
            exact ih2 (h + 1) b16_31 b17_32 b18_33 b19_34 b20_35 b21_36 b23_13 b24_24 b25_25 b26_26 (nI (fwL v h nj).length) z7_27 (nI h) (by omega) hFu30 hsf2 (by omega) _ _ _ hw (lv_sub hl [2, 0] rfl)
          · refine lv_iload_n hC.1 hC.2.1 dX3_firstUnsafe_56 rfl (lv_at hl 2 rfl) ?_
            refine hret _ _ _ _ _ _ hw ?_ rfl dX3_firstUnsafe_57
            exact ⟨Or.inl ⟨h, by omega, ⟨fun q => c3 ((up_v hS hE hA (show h < nh by omega)).trans q), fun q => (hru17).elim (fun z => absurd (z.1.symm.trans c37) (by decide)) (fun z => z.2 (hsaf.mpr q))⟩, hsf, rfl⟩, b16_31, b17_32, b18_33, b19_34, b20_35, b21_36, b23_13, b24_24, b25_25, b26_26, nI (fwL v h nj).length, z7_27, nI h, hFu30, rfl⟩
  have hst_ : σ = sr (sr (sr (sr (sr (sr (sr (sr (sr (sr (sr σ 16 (σ 16)) 17 (σ 17)) 18 (σ 18)) 19 (σ 19)) 20 (σ 20)) 21 (σ 21)) 23 (σ 23)) 24 (σ 24)) 25 (σ 25)) 26 (σ 26)) 0 (upd (upd (upd (σ 0) 6 (σ 0 6)) 7 (σ 0 7)) 8 (σ 0 8)) := by
    funext j_ x_
    by_cases e0 : j_ = 0
    · subst e0
      by_cases y6 : x_ = 6
      · subst y6; rfl
      · by_cases y7 : x_ = 7
        · subst y7; rfl
        · by_cases y8 : x_ = 8
          · subst y8; rfl
          · simp [sr, upd, y6, y7, y8]
    · by_cases e16 : j_ = 16
      · subst e16; rfl
      · by_cases e17 : j_ = 17
        · subst e17; rfl
        · by_cases e18 : j_ = 18
          · subst e18; rfl
          · by_cases e19 : j_ = 19
            · subst e19; rfl
            · by_cases e20 : j_ = 20
              · subst e20; rfl
              · by_cases e21 : j_ = 21
                · subst e21; rfl
                · by_cases e23 : j_ = 23
                  · subst e23; rfl
                  · by_cases e24 : j_ = 24
                    · subst e24; rfl
                    · by_cases e25 : j_ = 25
                      · subst e25; rfl
                      · by_cases e26 : j_ = 26
                        · subst e26; rfl
                        · simp only [sr, e0, e16, e17, e18, e19, e20, e21, e23, e24, e25, e26, if_false]
  rw [hst_] at hw
  exact L2_0 _ 0 (σ 16) (σ 17) (σ 18) (σ 19) (σ 20) (σ 21) (σ 23) (σ 24) (σ 25) (σ 26) (σ 0 6) (σ 0 7) (σ 0 8) (Nat.zero_le _) hFS (fun x q => absurd q (Nat.not_lt_zero _)) (Nat.lt_succ_self _) _ _ _ hw (lv_sub hl [1, 0] rfl)
