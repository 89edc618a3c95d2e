abbrev hsN (v : Nat → Int32) (j : Nat) : Nat := hN v j
/-- targets: none, or a host -/
def TGr (v : Nat → Int32) (nh nj : Nat) : Prop := ∀ j, j < nj → eM v 14 j = -1 ∨ ∃ h, h < nh ∧ eM v 14 j = nI h
theorem TGr.neg {v : Nat → Int32} {nh nj j : Nat} (h : TGr v nh nj) (hn : nh ≤ 10) (hj : j < nj) : eM v 14 j = -1 ↔ eM v 14 j < 0 := by
  rcases h j hj with e | ⟨x, x1, e⟩
  · rw [e]; exact ⟨fun _ => by decide, fun _ => rfl⟩
  · rw [e]; exact ⟨fun q => absurd q.symm (nI_nm1 (by omega)), fun q => absurd q (nI_pos (by omega))⟩
theorem TGr.at {v : Nat → Int32} {nh nj j : Nat} (h : TGr v nh nj) (hn : nh ≤ 10) (hj : j < nj) (hc : ¬ eM v 14 j < 0) : eM v 14 j = nI (cN (eM v 14 j)) ∧ cN (eM v 14 j) < nh := by
  rcases h j hj with e | ⟨x, x1, e⟩
  · rw [e] at hc; exact absurd (by decide) hc
  · rw [e, show cN (nI x) = x from nI_clamp (by omega)]; exact ⟨rfl, x1⟩
theorem memQ_app {v : Nat → Int32} {l : List Nat} {j : Nat} {d23 d24 : Nat → Int32} (hm : ∀ i, i < l.length → d23 i = nI (gd l i) ∧ d24 i = nI (hN v (gd l i))) : ∀ i, i < (l ++ [j]).length → upd d23 l.length (nI j) i = nI (gd (l ++ [j]) i) ∧ upd d24 l.length (nI (hN v j)) i = nI (hN v (gd (l ++ [j]) i)) := fun i hi => by
  rw [List.length_append] at hi
  simp only [List.length_singleton] at hi
  by_cases e : i = l.length
  · rw [gd_r e, e, ups, ups]; exact ⟨rfl, rfl⟩
  · rw [gd_l (by omega), upn e, upn e]; exact hm i (by omega)
/-- what a search for a plan answers, when it is made -/
def PLc (v : Nat → Int32) (nh nj : Nat) (mv : Int32) (mj mh : Nat → Int32) (r : Int32) (mv' : Int32) (mj' mh' : Nat → Int32) : Prop :=
  ((∀ i, i < (vPl v (tgF v nj) (tgN v nj) nh nj 8).2.length → ¬ gl v (tgF v nj) (tgN v nj) (gt (vPl v (tgF v nj) (tgN v nj) nh nj 8).2 i).1) ∧ r = -3 ∧ mv' = mv ∧ mj' = mj ∧ mh' = mh) ∨
    ∃ d s, d ≤ 8 ∧ (vPl v (tgF v nj) (tgN v nj) nh nj d).1 ≤ s ∧ s < (vPl v (tgF v nj) (tgN v nj) nh nj d).2.length ∧ gl v (tgF v nj) (tgN v nj) (gt (vPl v (tgF v nj) (tgN v nj) nh nj d).2 s).1 ∧ r = nI d ∧ mv' = nI d ∧ NS (vPl v (tgF v nj) (tgN v nj) nh nj d).2 s d d mj' mh'
theorem pB_dg {v : Nat → Int32} {nh nj k : Nat} {F : Nat → Nat} (hW : mF v nh nj) (hj : F k < nj) (hs : v (258 + F k) = 1) : pB (eM v) (-1) (F k) = plc (dg v F k) := by
  have h1 := hW.1; have h2 := hW.2.1
  have hh := mF.host hW hj hs
  rw [show dg v F k = hN v (F k) from if_pos hs]
  unfold pB plc
  rw [if_neg (fun q => nI_nm1 (by omega) q.symm), if_pos (show eM v 11 (F k) = 1 from hs), if_neg (by omega)]
  exact hh.1
set_option maxHeartbeats 4000000 in
set_option maxRecDepth 100000 in
theorem tX8_find (l : Launch) (E : EV) (a : Nat → Nat) (σ : St) (nh : Nat) (nj : Nat) (E0 : St) (v : Nat → Int32) (hN : cN2 σ nh nj) (hE : aE σ E0) (hS : cS E0 nh nj) (hFS : FSr E0 (pB (eM v) (-1)) nh nj (σ 16) (σ 17) (σ 18) (σ 19) (σ 20) (σ 21)) (hX : JX σ v nj) (hA : agE E0 (eM v) nh nj) (hW : mF v nh nj) (hT14 : ∀ j, j < nj → σ 14 j = eM v 14 j) (hTr : TGr v nh nj) (hTG : ∀ j, j < nj → ¬ eM v 14 j < 0 → tgo v j) (hle : (qL (tgc v) nj).length ≤ 4) : MI l E (XW E a) yX8_find (Cond.code yX8_find cX8_find 3 (some .int)) ({ frames := 5, cells := 0, slots := 0, locals := 122 }) [.ref (a 69)] σ (fun r_ u_ => ∃ (b16 b17 b18 b19 b20 b21 b23 b24 b25 b26 b27 b28 : Nat → Int32) (z6 z7 z8 z9 : Int32), FSr E0 (pB (eM v) (-1)) nh nj b16 b17 b18 b19 b20 b21 ∧ PLc v nh nj (σ 0 9) (σ 27) (σ 28) r_ z9 b27 b28 ∧ u_ = sr (sr (sr (sr (sr (sr (sr (sr (sr (sr (sr (sr (sr σ 16 b16) 17 b17) 18 b18) 19 b19) 20 b20) 21 b21) 23 b23) 24 b24) 25 b25) 26 b26) 27 b27) 28 b28) 0 (upd (upd (upd (upd (σ 0) 6 z6) 7 z7) 8 z8) 9 z9)) := by
  refine MI.mk (by decide +kernel) (Nat.le_of_ble_eq_true rfl) ?_
  intro p e s m args below meth c ls A Q hret hC hw hl
  have hC : Cxt E p s m args meth c cX8_find 3 (some .int) RX8 A := hC
  have hl : lv_has ls 3 [(0, .ref (a 69))] := hl
  have hnh := hS.1
  have hnj := hS.2.1
  refine lv_aload_n hC.1 hC.2.1 dX8_find_0 rfl (lv_at hl 0 rfl) ?_
  refine gf_X8_29 hC hw dX8_find_1 ?_
  refine lv_iconst (v := (-1)) hC.1 hC.2.1 dX8_find_4 (by decide) ?_
  refine q_callVvp (As := [.int ((-1))]) (rest := []) (q0 := 3) hC hw hl (tX2_begin l E a σ (-1)) (q_cwV hC.2.2.2.2.1 ⟨rfl, rfl⟩ wk3_227 wk3_152 wk3_153 wk1_7 wk3_154 hd_X2_begin ⟨Nat.le_of_ble_eq_true rfl, Nat.le_of_ble_eq_true rfl⟩) rfl rfl rfl rfl rfl (Nat.le_of_ble_eq_true rfl) dX8_find_5 (fun H locs hw => ?_)
  have hw : Wst E (XW E a) (sr σ 0 (upd (upd (σ 0) 6 (nI 0)) 8 ((-1)))) A s.heap H locs := hw
  refine lv_iconst (v := nI 0) hC.1 hC.2.1 dX8_find_8 (by decide) ?_
  refine lv_istore_n (lv' := [(1, .int (nI 0)), (0, .ref (a 69))]) hC.1 hC.2.1 dX8_find_9 rfl hl (by decide) rfl (fun ls hl => ?_)
  have L10_3 : ∀ (n : Nat), ∀ (j : Nat), ∀ (d23 : Nat → Int32), ∀ (d24 : Nat → Int32), (j ≤ nj) → (∀ i, i < (qL (tgc v) j).length → d23 i = nI (gd (qL (tgc v) j) i) ∧ d24 i = nI (hsN v (gd (qL (tgc v) j) i))) → (nj - j) < n → ∀ (H : Heap) (locs : List Loc) (ls : Array Slot), Wst E (XW E a) (sr (sr (sr σ 23 (d23)) 24 (d24)) 0 (upd (upd (σ 0) 6 (nI (qL (tgc v) j).length)) 8 ((-1)))) A s.heap H locs → lv_has ls 3 [(0, .ref (a 69)), (1, .int (nI j))] → W p l e ({ frames := 5, cells := 0, slots := 0, locals := 122 }) s m args below meth c H locs 0 0 Q (F0 m 10 ls []) := by
    intro n
    induction n with
    | zero => intro j d23 d24 hj hmem hn; exact absurd hn (Nat.not_lt_zero _)
    | succ n ih10 =>
      intro j d23 d24 hj hmem hn10 H locs ls hw hl
      refine lv_iload_n hC.1 hC.2.1 dX8_find_10 rfl (lv_at hl 1 rfl) ?_
      refine lv_aload_n hC.1 hC.2.1 dX8_find_11 rfl (lv_at hl 0 rfl) ?_
      refine gf_X8_28 hC hw dX8_find_12 ?_
      refine gf_X8_33 (v := nI nj) hC hw hN.2 dX8_find_15 ?_
      refine q_cmpge hC 57 (cNle (by omega) (by omega)) dX8_find_18 (by decide) (fun (c5 : nj ≤ j) => ?_) (fun (c5 : j < nj) => ?_)
      · have hj9 : j = nj := by omega
        rw [hj9] at hmem hw
        have hF : ∀ i, i < (qL (tgc v) nj).length → d23 i = nI ((gd (qL (tgc v) nj)) i) ∧ (gd (qL (tgc v) nj)) i < nj := fun i hi => ⟨(hmem i hi).1, (qL_at hi).1⟩
        have hgo8 : ∀ i, i < (qL (tgc v) nj).length → ¬ eM v 14 ((gd (qL (tgc v) nj)) i) < 0 ∧ tgo v ((gd (qL (tgc v) nj)) i) := fun i hi => have h8 := qL_at (c := tgc v) (n := nj) (k := i) hi; ⟨of_decide_eq_true h8.2, hTG _ h8.1 (of_decide_eq_true h8.2)⟩
        have hs1 : ∀ i, i < (qL (tgc v) nj).length → v (258 + (gd (qL (tgc v) nj)) i) = 1 := fun i hi => (hgo8 i hi).2.1
        have hdge : ∀ i, i < (qL (tgc v) nj).length → dg v (gd (qL (tgc v) nj)) i = hsN v ((gd (qL (tgc v) nj)) i) := fun i hi => if_pos (hs1 i hi)
        have hdgl := dg_lt (fm := (qL (tgc v) nj).length) hW qL_ok hs1
        have hat9 : ∀ i, i < (qL (tgc v) nj).length → d24 i = atI 10 (dg v (gd (qL (tgc v) nj)) i) := fun i hi => by rw [atI_n (by have := hdgl i hi; omega), hdge i hi]; exact (hmem i hi).2
        have htg : ∀ i, i < (qL (tgc v) nj).length → eM v 14 ((gd (qL (tgc v) nj)) i) = nI (tgD v (gd (qL (tgc v) nj)) i) ∧ tgD v (gd (qL (tgc v) nj)) i < nh := fun i hi => hTr.at hnh (hF i hi).2 (hgo8 i hi).1
        have hpl : ∀ i, i < (qL (tgc v) nj).length → pB (eM v) (-1) ((gd (qL (tgc v) nj)) i) = plc (dg v (gd (qL (tgc v) nj)) i) := fun i hi => pB_dg hW (hF i hi).2 (hs1 i hi)
        refine lv_iconst (v := nI 0) hC.1 hC.2.1 dX8_find_57 (by decide) ?_
        refine lv_istore_n (lv' := [(1, .int (nI 0)), (0, .ref (a 69))]) hC.1 hC.2.1 dX8_find_58 rfl hl (by decide) rfl (fun ls hl => ?_)
        refine lv_iconst (v := nI 0) hC.1 hC.2.1 dX8_find_59 (by decide) ?_
        refine lv_istore_n (lv' := [(2, .int (nI 0)), (1, .int (nI 0)), (0, .ref (a 69))]) hC.1 hC.2.1 dX8_find_60 rfl hl (by decide) rfl (fun ls hl => ?_)
        have L61_5 : ∀ (n : Nat), ∀ (k : Nat), ∀ (cd : Nat), (cd = (enc 10 (tgD v (gd (qL (tgc v) nj))) k)) → (k ≤ (qL (tgc v) nj).length) → ((qL (tgc v) nj).length - k) < n → ∀ (H : Heap) (locs : List Loc) (ls : Array Slot), Wst E (XW E a) (sr (sr (sr σ 23 (d23)) 24 (d24)) 0 (upd (upd (σ 0) 6 (nI (qL (tgc v) nj).length)) 8 ((-1)))) A s.heap H locs → lv_has ls 3 [(0, .ref (a 69)), (1, .int (nI cd)), (2, .int (nI k))] → W p l e ({ frames := 5, cells := 0, slots := 0, locals := 122 }) s m args below meth c H locs 0 0 Q (F0 m 61 ls []) := by
          intro n
          induction n with
          | zero => intro k cd q_cd hk hn; exact absurd hn (Nat.not_lt_zero _)
          | succ n ih61 =>
            intro k cd q_cd hk hn61 H locs ls hw hl
            subst q_cd
            refine lv_iload_n hC.1 hC.2.1 dX8_find_61 rfl (lv_at hl 2 rfl) ?_
            refine lv_aload_n hC.1 hC.2.1 dX8_find_62 rfl (lv_at hl 0 rfl) ?_
            refine gf_X8_29 hC hw dX8_find_63 ?_
            refine gf_X8_59 (v := nI ((qL (tgc v) nj).length)) hC hw rfl dX8_find_66 ?_
            refine q_cmpge hC 104 (cNle (by omega) (by omega)) dX8_find_69 (by decide) (fun (c7 : ((qL (tgc v) nj).length) ≤ k) => ?_) (fun (c7 : k < ((qL (tgc v) nj).length)) => ?_)
            · refine lv_aload_n hC.1 hC.2.1 dX8_find_104 rfl (lv_at hl 0 rfl) ?_
              refine lv_iload_n hC.1 hC.2.1 dX8_find_105 rfl (lv_at hl 1 rfl) ?_
              have hk9 : k = (qL (tgc v) nj).length := by omega
              refine q_callV (As := [.int (nI (enc 10 (tgD v (gd (qL (tgc v) nj))) k))]) (rest := []) (q0 := 9) hC hw hl (tX8_movesTo l E a (sr (sr (sr σ 23 (d23)) 24 (d24)) 0 (upd (upd (σ 0) 6 (nI (qL (tgc v) nj).length)) 8 ((-1)))) nh nj E0 ((qL (tgc v) nj).length) (gd (qL (tgc v) nj)) v (enc 10 (tgD v (gd (qL (tgc v) nj))) k) hN hE hS (FSr.cg (fun k _ => (pP_self (k := k) hpl).symm) hFS) rfl hle rfl hF qL_ok hat9 hA hW hs1 htg (by rw [hk9])) (q_cwV hC.2.2.2.2.1 ⟨rfl, rfl⟩ wk3_230 wk3_232 wks_2_0 wk1_9 wk3_233 hd_X8_movesTo ⟨Nat.le_of_ble_eq_true rfl, Nat.le_of_ble_eq_true rfl⟩) rfl rfl rfl rfl rfl (Nat.le_of_ble_eq_true rfl) dX8_find_106 (fun r9 u10 H locs p8 hw => ?_)
              obtain ⟨b16_11, b17_12, b18_13, b19_14, b20_15, b21_16, b24_17, b25_18, b26_19, z7_20, hru10, huu10⟩ := p8
              subst huu10
              have hst_ : sr (sr (sr (sr (sr (sr (sr (sr (sr (sr (sr (sr (sr σ 23 (d23)) 24 (d24)) 0 (upd (upd (σ 0) 6 (nI (qL (tgc v) nj).length)) 8 ((-1)))) 16 b16_11) 17 b17_12) 18 b18_13) 19 b19_14) 20 b20_15) 21 b21_16) 24 b24_17) 25 b25_18) 26 b26_19) 0 (upd ((sr (sr (sr σ 23 (d23)) 24 (d24)) 0 (upd (upd (σ 0) 6 (nI (qL (tgc v) nj).length)) 8 ((-1)))) 0) 7 z7_20) = sr (sr (sr (sr (sr (sr (sr (sr (sr (sr (sr σ 16 (b16_11)) 17 (b17_12)) 18 (b18_13)) 19 (b19_14)) 20 (b20_15)) 21 (b21_16)) 23 (d23)) 24 (b24_17)) 25 (b25_18)) 26 (b26_19)) 0 (upd (upd (upd (σ 0) 6 (nI (qL (tgc v) nj).length)) 7 (z7_20)) 8 ((-1))) := by
                funext j_ x_
                by_cases e0 : j_ = 0
                · subst e0
                  by_cases y6 : x_ = 6
                  · subst y6; rfl
                  · by_cases y7 : x_ = 7
                    · subst y7; rfl
                    · by_cases y8 : x_ = 8
                      · subst y8; rfl
                      · simp [sr, upd, y6, y7, y8]
                · by_cases e16 : j_ = 16
                  · subst e16; rfl
                  · by_cases e17 : j_ = 17
                    · subst e17; rfl
                    · by_cases e18 : j_ = 18
                      · subst e18; rfl
                      · by_cases e19 : j_ = 19
                        · subst e19; rfl
                        · by_cases e20 : j_ = 20
                          · subst e20; rfl
                          · by_cases e21 : j_ = 21
                            · subst e21; rfl
                            · by_cases e23 : j_ = 23
                              · subst e23; rfl
                              · by_cases e24 : j_ = 24
                                · subst e24; rfl
                                · by_cases e25 : j_ = 25
                                  · subst e25; rfl
                                  · by_cases e26 : j_ = 26
                                    · subst e26; rfl
                                    · simp only [sr, e0, e16, e17, e18, e19, e20, e21, e23, e24, e25, e26, if_false]
              rw [hst_] at hw
              refine lv_istore_n (lv' := [(2, .int (r9)), (0, .ref (a 69)), (1, .int (nI (enc 10 (tgD v (gd (qL (tgc v) nj))) k)))]) hC.1 hC.2.1 dX8_find_109 rfl hl (by decide) rfl (fun ls hl => ?_)
              refine lv_aload_n hC.1 hC.2.1 dX8_find_110 rfl (lv_at hl 1 rfl) ?_
              refine gf_X8_18 hC hw dX8_find_111 ?_
              refine q_callVv (As := []) (rest := []) (q0 := 5) hC hw hl (tX4_recount l E a (sr (sr (sr (sr (sr (sr (sr (sr (sr (sr (sr σ 16 (b16_11)) 17 (b17_12)) 18 (b18_13)) 19 (b19_14)) 20 (b20_15)) 21 (b21_16)) 23 (d23)) 24 (b24_17)) 25 (b25_18)) 26 (b26_19)) 0 (upd (upd (upd (σ 0) 6 (nI (qL (tgc v) nj).length)) 7 (z7_20)) 8 ((-1)))) nh nj E0 (pB (eM v) (-1)) hN hE hS ((show JX _ v nj from fun k hk => hX k hk).PL hW)) (q_cwV hC.2.2.2.2.1 ⟨rfl, rfl⟩ wk3_239 wk2_193 wk2_194 wk1_4 wk2_195 hd_X4_recount ⟨Nat.le_of_ble_eq_true rfl, Nat.le_of_ble_eq_true rfl⟩) rfl rfl rfl rfl rfl (Nat.le_of_ble_eq_true rfl) dX8_find_114 (fun u23 H locs p21 hw => ?_)
              obtain ⟨b16_24, b17_25, b18_26, b19_27, b20_28, b21_29, hFu23, huu23⟩ := p21
              subst huu23
              have hst_ : sr (sr (sr (sr (sr (sr (sr (sr (sr (sr (sr (sr (sr (sr (sr (sr (sr σ 16 (b16_11)) 17 (b17_12)) 18 (b18_13)) 19 (b19_14)) 20 (b20_15)) 21 (b21_16)) 23 (d23)) 24 (b24_17)) 25 (b25_18)) 26 (b26_19)) 0 (upd (upd (upd (σ 0) 6 (nI (qL (tgc v) nj).length)) 7 (z7_20)) 8 ((-1)))) 16 b16_24) 17 b17_25) 18 b18_26) 19 b19_27) 20 b20_28) 21 b21_29 = sr (sr (sr (sr (sr (sr (sr (sr (sr (sr (sr σ 16 (b16_24)) 17 (b17_25)) 18 (b18_26)) 19 (b19_27)) 20 (b20_28)) 21 (b21_29)) 23 (d23)) 24 (b24_17)) 25 (b25_18)) 26 (b26_19)) 0 (upd (upd (upd (σ 0) 6 (nI (qL (tgc v) nj).length)) 7 (z7_20)) 8 ((-1))) := by
                funext j_ x_
                by_cases e0 : j_ = 0
                · subst e0
                  by_cases y6 : x_ = 6
                  · subst y6; rfl
                  · by_cases y7 : x_ = 7
                    · subst y7; rfl
                    · by_cases y8 : x_ = 8
                      · subst y8; rfl
                      · simp [sr, upd, y6, y7, y8]
                · by_cases e16 : j_ = 16
                  · subst e16; rfl
                  · by_cases e17 : j_ = 17
                    · subst e17; rfl
                    · by_cases e18 : j_ = 18
                      · subst e18; rfl
                      · by_cases e19 : j_ = 19
                        · subst e19; rfl
                        · by_cases e20 : j_ = 20
                          · subst e20; rfl
                          · by_cases e21 : j_ = 21
                            · subst e21; rfl
                            · by_cases e23 : j_ = 23
                              · subst e23; rfl
                              · by_cases e24 : j_ = 24
                                · subst e24; rfl
                                · by_cases e25 : j_ = 25
                                  · subst e25; rfl
                                  · by_cases e26 : j_ = 26
                                    · subst e26; rfl
                                    · simp only [sr, e0, e16, e17, e18, e19, e20, e21, e23, e24, e25, e26, if_false]
              rw [hst_] at hw
              refine lv_iload_n hC.1 hC.2.1 dX8_find_117 rfl (lv_at hl 0 rfl) ?_
              refine q_iflt hC 127 cI dX8_find_118 (by decide) (fun (c30 : r9 < 0) => ?_) (fun (c30 : ¬ (r9 < 0)) => ?_)
              · refine lv_iload_n hC.1 hC.2.1 dX8_find_127 rfl (lv_at hl 0 rfl) ?_
                refine hret _ _ _ _ _ _ hw ?_ rfl dX8_find_128
                refine ⟨b16_24, b17_25, b18_26, b19_27, b20_28, b21_29, d23, b24_17, b25_18, b26_19, σ 27, σ 28, nI (qL (tgc v) nj).length, z7_20, (-1), σ 0 9, hFu23, ?_, ?_⟩
                · exact Or.inl (hru10.elim (fun ⟨d, s1, h1, h2, h3, h4, h5, h6, h7⟩ => absurd c30 (by rw [h6]; exact nI_pos (by omega))) (fun q => ⟨q.1, q.2, rfl, rfl, rfl⟩))
                · show sr (sr (sr (sr (sr (sr (sr (sr (sr (sr (sr σ 16 (b16_24)) 17 (b17_25)) 18 (b18_26)) 19 (b19_27)) 20 (b20_28)) 21 (b21_29)) 23 (d23)) 24 (b24_17)) 25 (b25_18)) 26 (b26_19)) 0 (upd (upd (upd (σ 0) 6 (nI (qL (tgc v) nj).length)) 7 (z7_20)) 8 ((-1))) = sr (sr (sr (sr (sr (sr (sr (sr (sr (sr (sr (sr (sr σ 16 (b16_24)) 17 (b17_25)) 18 (b18_26)) 19 (b19_27)) 20 (b20_28)) 21 (b21_29)) 23 (d23)) 24 (b24_17)) 25 (b25_18)) 26 (b26_19)) 27 (σ 27)) 28 (σ 28)) 0 (upd (upd (upd (upd (σ 0) 6 (nI (qL (tgc v) nj).length)) 7 (z7_20)) 8 ((-1))) 9 (σ 0 9))
                  funext j_ x_
                  by_cases e0 : j_ = 0
                  · subst e0
                    by_cases y6 : x_ = 6
                    · subst y6; rfl
                    · by_cases y7 : x_ = 7
                      · subst y7; rfl
                      · by_cases y8 : x_ = 8
                        · subst y8; rfl
                        · by_cases y9 : x_ = 9
                          · subst y9; rfl
                          · simp [sr, upd, y6, y7, y8, y9]
                  · by_cases e16 : j_ = 16
                    · subst e16; rfl
                    · by_cases e17 : j_ = 17
                      · subst e17; rfl
                      · by_cases e18 : j_ = 18
                        · subst e18; rfl
                        · by_cases e19 : j_ = 19
                          · subst e19; rfl
                          · by_cases e20 : j_ = 20
                            · subst e20; rfl
                            · by_cases e21 : j_ = 21
                              · subst e21; rfl
                              · by_cases e23 : j_ = 23
                                · subst e23; rfl
                                · by_cases e24 : j_ = 24
                                  · subst e24; rfl
                                  · by_cases e25 : j_ = 25
                                    · subst e25; rfl
                                    · by_cases e26 : j_ = 26
                                      · subst e26; rfl
                                      · by_cases e27 : j_ = 27
                                        · subst e27; rfl
                                        · by_cases e28 : j_ = 28
                                          · subst e28; rfl
                                          · simp only [sr, e0, e16, e17, e18, e19, e20, e21, e23, e24, e25, e26, e27, e28, if_false]
              · refine lv_aload_n hC.1 hC.2.1 dX8_find_121 rfl (lv_at hl 1 rfl) ?_
                refine lv_iload_n hC.1 hC.2.1 dX8_find_122 rfl (lv_at hl 2 rfl) ?_
                refine lv_iload_n hC.1 hC.2.1 dX8_find_123 rfl (lv_at hl 0 rfl) ?_
                obtain ⟨d9, s9, h91, h92, h93, h94, h95, h96, h97⟩ := hru10.resolve_right (fun q => c30 (by rw [q.2]; decide))
                refine q_top (y := nI d9) h96 ?_
                refine q_callVv (As := [.int (nI (enc 10 (tgD v (gd (qL (tgc v) nj))) k)), .int (nI d9)]) (rest := []) (q0 := 9) hC hw hl (tX8_noteSteps l E a (sr (sr (sr (sr (sr (sr (sr (sr (sr (sr (sr σ 16 (b16_24)) 17 (b17_25)) 18 (b18_26)) 19 (b19_27)) 20 (b20_28)) 21 (b21_29)) 23 (d23)) 24 (b24_17)) 25 (b25_18)) 26 (b26_19)) 0 (upd (upd (upd (σ 0) 6 (nI (qL (tgc v) nj).length)) 7 (z7_20)) 8 ((-1)))) nh nj ((qL (tgc v) nj).length) (gd (qL (tgc v) nj)) v s9 (enc 10 (tgD v (gd (qL (tgc v) nj))) k) d9 rfl hle hF hnh hnj h91 (dg_Vd hW qL_ok hs1) h92 h93 h95 h97) (q_cwV hC.2.2.2.2.1 ⟨rfl, rfl⟩ wk4_0 wk4_2 wks_2_1 wk1_9 wk4_3 hd_X8_noteSteps ⟨Nat.le_of_ble_eq_true rfl, Nat.le_of_ble_eq_true rfl⟩) rfl rfl rfl rfl rfl (Nat.le_of_ble_eq_true rfl) dX8_find_124 (fun u33 H locs p31 hw => ?_)
                obtain ⟨b27_34, b28_35, hNu33, huu33⟩ := p31
                subst huu33
                have hst_ : sr (sr (sr (sr (sr (sr (sr (sr (sr (sr (sr (sr (sr (sr σ 16 (b16_24)) 17 (b17_25)) 18 (b18_26)) 19 (b19_27)) 20 (b20_28)) 21 (b21_29)) 23 (d23)) 24 (b24_17)) 25 (b25_18)) 26 (b26_19)) 0 (upd (upd (upd (σ 0) 6 (nI (qL (tgc v) nj).length)) 7 (z7_20)) 8 ((-1)))) 27 b27_34) 28 b28_35) 0 (upd ((sr (sr (sr (sr (sr (sr (sr (sr (sr (sr (sr σ 16 (b16_24)) 17 (b17_25)) 18 (b18_26)) 19 (b19_27)) 20 (b20_28)) 21 (b21_29)) 23 (d23)) 24 (b24_17)) 25 (b25_18)) 26 (b26_19)) 0 (upd (upd (upd (σ 0) 6 (nI (qL (tgc v) nj).length)) 7 (z7_20)) 8 ((-1)))) 0) 9 (nI d9)) = sr (sr (sr (sr (sr (sr (sr (sr (sr (sr (sr (sr (sr σ 16 (b16_24)) 17 (b17_25)) 18 (b18_26)) 19 (b19_27)) 20 (b20_28)) 21 (b21_29)) 23 (d23)) 24 (b24_17)) 25 (b25_18)) 26 (b26_19)) 27 (b27_34)) 28 (b28_35)) 0 (upd (upd (upd (upd (σ 0) 6 (nI (qL (tgc v) nj).length)) 7 (z7_20)) 8 ((-1))) 9 (nI d9)) := by
                  funext j_ x_
                  by_cases e0 : j_ = 0
                  · subst e0
                    by_cases y6 : x_ = 6
                    · subst y6; rfl
                    · by_cases y7 : x_ = 7
                      · subst y7; rfl
                      · by_cases y8 : x_ = 8
                        · subst y8; rfl
                        · by_cases y9 : x_ = 9
                          · subst y9; rfl
                          · simp [sr, upd, y6, y7, y8, y9]
                  · by_cases e16 : j_ = 16
                    · subst e16; rfl
                    · by_cases e17 : j_ = 17
                      · subst e17; rfl
                      · by_cases e18 : j_ = 18
                        · subst e18; rfl
                        · by_cases e19 : j_ = 19
                          · subst e19; rfl
                          · by_cases e20 : j_ = 20
                            · subst e20; rfl
                            · by_cases e21 : j_ = 21
                              · subst e21; rfl
                              · by_cases e23 : j_ = 23
                                · subst e23; rfl
                                · by_cases e24 : j_ = 24
                                  · subst e24; rfl
                                  · by_cases e25 : j_ = 25
                                    · subst e25; rfl
                                    · by_cases e26 : j_ = 26
                                      · subst e26; rfl
                                      · by_cases e27 : j_ = 27
                                        · subst e27; rfl
                                        · by_cases e28 : j_ = 28
                                          · subst e28; rfl
                                          · simp only [sr, e0, e16, e17, e18, e19, e20, e21, e23, e24, e25, e26, e27, e28, if_false]
                rw [hst_] at hw
                refine lv_iload_n hC.1 hC.2.1 dX8_find_127 rfl (lv_at hl 0 rfl) ?_
                refine hret _ _ _ _ _ _ hw ?_ rfl dX8_find_128
                refine ⟨b16_24, b17_25, b18_26, b19_27, b20_28, b21_29, d23, b24_17, b25_18, b26_19, b27_34, b28_35, nI (qL (tgc v) nj).length, z7_20, (-1), nI d9, hFu23, ?_, ?_⟩
                · exact Or.inr ⟨d9, s9, h91, h92, h93, h94, h96, rfl, hNu33⟩
                · rfl
            · refine lv_iload_n hC.1 hC.2.1 dX8_find_72 rfl (lv_at hl 1 rfl) ?_
              refine lv_aload_n hC.1 hC.2.1 dX8_find_73 rfl (lv_at hl 0 rfl) ?_
              refine gf_X8_28 hC hw dX8_find_74 ?_
              refine gf_X8_39 hC hw dX8_find_77 ?_
              refine lv_aload_n hC.1 hC.2.1 dX8_find_80 rfl (lv_at hl 0 rfl) ?_
              refine gf_X8_29 hC hw dX8_find_81 ?_
              refine gf_X8_62 hC hw dX8_find_84 ?_
              refine lv_iload_n hC.1 hC.2.1 dX8_find_87 rfl (lv_at hl 2 rfl) ?_
              have hkk : k < (qL (tgc v) nj).length := by omega
              have hFx := (hF k hkk).2
              refine al_X23 (v := nI ((gd (qL (tgc v) nj)) k)) hC hw (by omega) (hF k hkk).1 dX8_find_88 ?_
              refine al_X14 (v := nI (tgD v (gd (qL (tgc v) nj)) k)) hC hw (by omega) ((hT14 _ hFx).trans (htg k hkk).1) dX8_find_89 ?_
              refine q_powN hC.2.2.2.2.2.1.2.2.2 hC hw dX8_find_90 ?_
              refine lv_iload_n hC.1 hC.2.1 dX8_find_93 rfl (lv_at hl 2 rfl) ?_
              refine q_powld (v := nI (10 ^ k)) hC hw (by omega) rfl dX8_find_94 ?_
              refine q_mulN hC dX8_find_95 ?_
              refine q_addN hC dX8_find_96 ?_
              refine lv_istore_n (lv' := [(1, .int (nI ((enc 10 (tgD v (gd (qL (tgc v) nj))) k) + ((tgD v (gd (qL (tgc v) nj)) k) * (10 ^ k))))), (0, .ref (a 69)), (2, .int (nI k))]) hC.1 hC.2.1 dX8_find_97 rfl hl (by decide) rfl (fun ls hl => ?_)
              refine lv_iinc (v := nI (k + 1)) (lv' := [(2, .int (nI (k + 1))), (1, .int (nI ((enc 10 (tgD v (gd (qL (tgc v) nj))) k) + ((tgD v (gd (qL (tgc v) nj)) k) * (10 ^ k))))), (0, .ref (a 69))]) hC.1 hC.2.1 dX8_find_98 hl (k := 2) rfl (nI_add _ _) (by decide) rfl (fun ls hl => ?_)
              refine lv_goto (tgt := 61) hC.1 hC.2.1 dX8_find_101 (by decide) ?_
              exact ih61 (k + 1) ((enc 10 (tgD v (gd (qL (tgc v) nj))) k) + ((tgD v (gd (qL (tgc v) nj)) k) * (10 ^ k))) rfl (by omega) (by omega) _ _ _ hw (lv_sub hl [2, 1, 0] rfl)
        exact L61_5 _ 0 0 rfl (Nat.zero_le _) (Nat.lt_succ_self _) _ _ _ hw (lv_sub hl [2, 1, 0] rfl)
      · refine lv_aload_n hC.1 hC.2.1 dX8_find_21 rfl (lv_at hl 0 rfl) ?_
        refine gf_X8_28 hC hw dX8_find_22 ?_
        refine gf_X8_39 hC hw dX8_find_25 ?_
        refine lv_iload_n hC.1 hC.2.1 dX8_find_28 rfl (lv_at hl 1 rfl) ?_
        refine al_X14 (v := σ 14 j) hC hw (by omega) rfl dX8_find_29 ?_
        refine lv_iconst (v := (-1)) hC.1 hC.2.1 dX8_find_30 (by decide) ?_
        refine q_cmpeq hC 51 cI dX8_find_31 (by decide) (fun (c36 : σ 14 j = (-1)) => ?_) (fun (c36 : ¬ (σ 14 j = (-1))) => ?_)
        · refine lv_iinc (v := nI (j + 1)) (lv' := [(1, .int (nI (j + 1))), (0, .ref (a 69))]) hC.1 hC.2.1 dX8_find_51 hl (k := 1) rfl (nI_add _ _) (by decide) rfl (fun ls hl => ?_)
          refine lv_goto (tgt := 10) hC.1 hC.2.1 dX8_find_54 (by decide) ?_
          have hl9 : qL (tgc v) (j + 1) = (qL (tgc v) j) := by rw [qL, if_neg (fun q : tgc v j = true => (of_decide_eq_true (p := ¬ eM v 14 j < 0) q) ((hTr.neg hnh (show j < nj by omega)).mp ((hT14 j (show j < nj by omega)).symm.trans c36)))]
          rw [← hl9] at hw
          exact ih10 (j + 1) d23 d24 (by omega) (by rw [hl9]; exact hmem) (by omega) _ _ _ hw (lv_sub hl [1, 0] rfl)
        · have htg0 : ¬ eM v 14 j < 0 := fun q => c36 ((hT14 j (show j < nj by omega)).trans ((hTr.neg hnh (by omega)).mpr q))
          have hgo9 := hTG j (show j < nj by omega) htg0
          have hhN := mF.host hW (show j < nj by omega) hgo9.1
          have hl9 : qL (tgc v) (j + 1) = (qL (tgc v) j) ++ [j] := by rw [qL, if_pos (show tgc v j = true from decide_eq_true htg0)]
          have hln9 : (qL (tgc v) j).length < 4 := by have e2 := qL_mono (c := tgc v) (n := j + 1) (nj - (j + 1)); rw [show j + 1 + (nj - (j + 1)) = nj by omega, hl9, List.length_append] at e2; simp only [List.length_singleton] at e2; have := hle; omega
          refine lv_aload_n hC.1 hC.2.1 dX8_find_34 rfl (lv_at hl 0 rfl) ?_
          refine gf_X8_29 hC hw dX8_find_35 ?_
          refine lv_iload_n hC.1 hC.2.1 dX8_find_38 rfl (lv_at hl 1 rfl) ?_
          refine lv_aload_n hC.1 hC.2.1 dX8_find_39 rfl (lv_at hl 0 rfl) ?_
          refine gf_X8_28 hC hw dX8_find_40 ?_
          refine gf_X8_52 hC hw dX8_find_43 ?_
          refine lv_iload_n hC.1 hC.2.1 dX8_find_46 rfl (lv_at hl 1 rfl) ?_
          refine al_X12 (v := nI (hsN v j)) hC hw (by omega) (((hX j (show j < nj by omega)).2.2.2 hgo9.1).1.trans hhN.1) dX8_find_47 ?_
          refine q_callVvp (As := [.int (nI j), .int (nI (hsN v j))]) (rest := []) (q0 := 3) hC hw hl (tX2_join l E a (sr (sr (sr σ 23 (d23)) 24 (d24)) 0 (upd (upd (σ 0) 6 (nI (qL (tgc v) j).length)) 8 ((-1)))) ((qL (tgc v) j).length) j (hsN v j) rfl hln9 (by have h9 : hsN v j < nh := hhN.2; omega)) (q_cwV hC.2.2.2.2.1 ⟨rfl, rfl⟩ wk3_228 wk3_157 wk3_158 wk1_7 wk3_159 hd_X2_join ⟨Nat.le_of_ble_eq_true rfl, Nat.le_of_ble_eq_true rfl⟩) rfl rfl rfl rfl rfl (Nat.le_of_ble_eq_true rfl) dX8_find_48 (fun H locs hw => ?_)
          have hw : Wst E (XW E a) (sr (sr (sr σ 23 (upd d23 ((qL (tgc v) j).length) (nI j))) 24 (upd d24 ((qL (tgc v) j).length) (nI (hsN v j)))) 0 (upd (upd (σ 0) 6 (nI (((qL (tgc v) j).length) + 1))) 8 ((-1)))) A s.heap H locs := hw
          refine lv_iinc (v := nI (j + 1)) (lv' := [(1, .int (nI (j + 1))), (0, .ref (a 69))]) hC.1 hC.2.1 dX8_find_51 hl (k := 1) rfl (nI_add _ _) (by decide) rfl (fun ls hl => ?_)
          refine lv_goto (tgt := 10) hC.1 hC.2.1 dX8_find_54 (by decide) ?_
          rw [show nI ((qL (tgc v) j).length + 1) = nI (qL (tgc v) (j + 1)).length by rw [hl9, List.length_append]; rfl] at hw
          exact ih10 (j + 1) (upd d23 ((qL (tgc v) j).length) (nI j)) (upd d24 ((qL (tgc v) j).length) (nI (hsN v j))) (by omega) (by rw [hl9]; exact memQ_app hmem) (by omega) _ _ _ hw (lv_sub hl [1, 0] rfl)
  have hst_ : sr σ 0 (upd (upd (σ 0) 6 (nI 0)) 8 ((-1))) = sr (sr (sr σ 23 (σ 23)) 24 (σ 24)) 0 (upd (upd (σ 0) 6 (nI 0)) 8 ((-1))) := by
    funext j_ x_
    by_cases e0 : j_ = 0
    · subst e0
      by_cases y6 : x_ = 6
      · subst y6; rfl
      · by_cases y8 : x_ = 8
        · subst y8; rfl
        · simp [sr, upd, y6, y8]
    · by_cases e23 : j_ = 23
      · subst e23; rfl
      · by_cases e24 : j_ = 24
        · subst e24; rfl
        · simp only [sr, e0, e23, e24, if_false]
  rw [hst_] at hw
  exact L10_3 _ 0 (σ 23) (σ 24) (Nat.zero_le _) (fun i q => absurd q (Nat.not_lt_zero _)) (Nat.lt_succ_self _) _ _ _ hw (lv_sub hl [1, 0] rfl)
