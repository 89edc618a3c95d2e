theorem upd_upd2 {f : Nat → Int32} {x y : Int32} (k j : Nat) : upd f k y j = upd (upd f k x) k y j := by
  by_cases e : j = k
  · subst e; rw [ups, ups]
  · rw [upn e, upn e, upn e]
set_option maxHeartbeats 4000000 in
set_option maxRecDepth 100000 in
theorem tX2_put (l : Launch) (E : EV) (a : Nat → Nat) (σ : St) (nh : Nat) (nj : Nat) (E0 : St) (fm : Nat) (fz : Nat) (F : Nat → Nat) (P0 : Nat → Int32) (pp : Nat → Nat) (x : Nat) (k : Nat) (hv : Int32) (hN : cN2 σ nh nj) (hE : aE σ E0) (hS : cS E0 nh nj) (hFS : FSr E0 (pP F P0 (pp) fm) nh nj (σ 16) (σ 17) (σ 18) (σ 19) (σ 20) (σ 21)) (hm4 : fm ≤ 4) (h8 : σ 0 8 = plc fz) (hfz : fz ≤ 10) (hk : k < fm) (hF : ∀ i, i < fm → σ 23 i = nI (F i) ∧ F i < nj) (hFk : Fok F fm nj) (hat : ∀ i, i < fm → σ 24 i = atI fz (pp i)) (hp : OKP nh fm fz pp) (hx : x = 10 ∨ (x < nh ∧ x ≠ fz)) (hv2 : hv = atI fz x) : MV l E (XW E a) yX2_put (Cond.code yX2_put cX2_put 3 none) ({ frames := 2, cells := 0, slots := 0, locals := 46 }) [.ref (a 63), .int (nI k), .int (hv)] σ (fun u_ => ∃ (b16 b17 b18 b19 b20 b21 : Nat → Int32), FSr E0 (pP F P0 (pu pp k x) fm) nh nj b16 b17 b18 b19 b20 b21 ∧ u_ = sr (sr (sr (sr (sr (sr (sr σ 16 b16) 17 b17) 18 b18) 19 b19) 20 b20) 21 b21) 24 (upd (σ 24) k hv)) := by
  refine MV.mk (by decide +kernel) (Nat.le_of_ble_eq_true rfl) ?_
  intro p e s m args below meth c ls A Q hret hC hw hl
  have hC : Cxt E p s m args meth c cX2_put 3 none RX2 A := hC
  have hl : lv_has ls 3 [(0, .ref (a 63)), (1, .int (nI k)), (2, .int (hv))] := hl
  have hnh := hS.1
  have hnj := hS.2.1
  refine lv_iload_n hC.1 hC.2.1 dX2_put_0 rfl (lv_at hl 2 rfl) ?_
  refine lv_aload_n hC.1 hC.2.1 dX2_put_1 rfl (lv_at hl 0 rfl) ?_
  refine gf_X2_15 hC hw dX2_put_2 ?_
  refine lv_iload_n hC.1 hC.2.1 dX2_put_5 rfl (lv_at hl 1 rfl) ?_
  refine al_X24 (v := atI fz (pp k)) hC hw (by omega) (hat k (by omega)) dX2_put_6 ?_
  refine q_cmpne hC 11 cI dX2_put_7 (by decide) (fun (c1 : ¬ (hv = (atI fz (pp k)))) => ?_) (fun (c1 : hv = (atI fz (pp k))) => ?_)
  · refine lv_aload_n hC.1 hC.2.1 dX2_put_11 rfl (lv_at hl 0 rfl) ?_
    refine gf_X2_15 hC hw dX2_put_12 ?_
    refine lv_iload_n hC.1 hC.2.1 dX2_put_15 rfl (lv_at hl 1 rfl) ?_
    refine al_X24 (v := atI fz (pp k)) hC hw (by omega) (hat k (by omega)) dX2_put_16 ?_
    refine lv_aload_n hC.1 hC.2.1 dX2_put_17 rfl (lv_at hl 0 rfl) ?_
    refine gf_X2_32 (v := plc fz) hC hw h8 dX2_put_18 ?_
    refine q_cmpeq hC 44 cI dX2_put_21 (by decide) (fun (c2 : (atI fz (pp k)) = plc fz) => ?_) (fun (c2 : ¬ ((atI fz (pp k)) = plc fz)) => ?_)
    · have hpk10 : pp k = 10 := (atI_f hnh hfz (hp k hk)).mp c2
      refine lv_aload_n hC.1 hC.2.1 dX2_put_44 rfl (lv_at hl 0 rfl) ?_
      refine gf_X2_15 hC hw dX2_put_45 ?_
      refine lv_iload_n hC.1 hC.2.1 dX2_put_48 rfl (lv_at hl 1 rfl) ?_
      refine lv_iload_n hC.1 hC.2.1 dX2_put_49 rfl (lv_at hl 2 rfl) ?_
      refine as_X24 hC hw (by omega) dX2_put_50 (fun H locs hw => ?_)
      have hw : Wst E (XW E a) (sr σ 24 (upd (σ 24) k (hv))) A s.heap H locs := hw
      refine lv_iload_n hC.1 hC.2.1 dX2_put_51 rfl (lv_at hl 2 rfl) ?_
      refine lv_aload_n hC.1 hC.2.1 dX2_put_52 rfl (lv_at hl 0 rfl) ?_
      refine gf_X2_32 (v := plc fz) hC hw h8 dX2_put_53 ?_
      refine q_cmpeq hC 74 cI dX2_put_56 (by decide) (fun (c3 : hv = plc fz) => ?_) (fun (c3 : ¬ (hv = plc fz)) => ?_)
      · have hx10 : x = 10 := (atI_f hnh hfz hx).mp (hv2.symm.trans c3)
        refine hret _ _ _ _ _ hw ?_ dX2_put_74
        refine ⟨σ 16, σ 17, σ 18, σ 19, σ 20, σ 21, hFS.cg (fun j hj => by rw [pP_pu hFk hk, hx10, show plc 10 = -1 from rfl, upd_same ((pP_at hFk.2 hk).trans (by rw [hpk10]; rfl))]), ?_⟩
        show sr σ 24 (upd (σ 24) k (hv)) = sr (sr (sr (sr (sr (sr (sr σ 16 (σ 16)) 17 (σ 17)) 18 (σ 18)) 19 (σ 19)) 20 (σ 20)) 21 (σ 21)) 24 (upd (σ 24) k hv)
        funext j_ x_
        by_cases e0 : j_ = 0
        · subst e0
          rfl
        · by_cases e16 : j_ = 16
          · subst e16; rfl
          · by_cases e17 : j_ = 17
            · subst e17; rfl
            · by_cases e18 : j_ = 18
              · subst e18; rfl
              · by_cases e19 : j_ = 19
                · subst e19; rfl
                · by_cases e20 : j_ = 20
                  · subst e20; rfl
                  · by_cases e21 : j_ = 21
                    · subst e21; rfl
                    · by_cases e24 : j_ = 24
                      · subst e24; rfl
                      · simp only [sr, e0, e16, e17, e18, e19, e20, e21, e24, if_false]
      · have hxz : x ≠ 10 := fun q => c3 (hv2.trans ((atI_f hnh hfz hx).mpr q))
        have hx2 := hx.resolve_left hxz
        have hxn : plc x = nI x := if_neg hxz
        refine lv_aload_n hC.1 hC.2.1 dX2_put_59 rfl (lv_at hl 0 rfl) ?_
        refine gf_X2_24 hC hw dX2_put_60 ?_
        refine lv_aload_n hC.1 hC.2.1 dX2_put_63 rfl (lv_at hl 0 rfl) ?_
        refine gf_X2_11 hC hw dX2_put_64 ?_
        refine lv_iload_n hC.1 hC.2.1 dX2_put_67 rfl (lv_at hl 1 rfl) ?_
        have hFx := (hF k (by omega)).2
        refine al_X23 (v := nI (F k)) hC hw (by omega) (hF k (by omega)).1 dX2_put_68 ?_
        refine lv_iload_n hC.1 hC.2.1 dX2_put_69 rfl (lv_at hl 2 rfl) ?_
        refine q_top (y := nI x) (hv2.trans (atI_n hxz)) ?_
        refine lv_iconst (v := nI 1) hC.1 hC.2.1 dX2_put_70 (by decide) ?_
        refine q_callVv (As := [.int (nI (F k)), .int (nI x), .int (nI 1)]) (rest := []) (q0 := 5) hC hw hl (tX4_tally l E a (sr σ 24 (upd (σ 24) k (hv))) nh nj E0 (pP F P0 pp fm) (upd (pP F P0 pp fm) (F k) (nI x)) (F k) x 1 hN hE hS hFS (Or.inl ⟨rfl, (pP_at hFk.2 hk).trans (by rw [hpk10]; rfl), rfl⟩) hFx hx2.1) (q_cwV hC.2.2.2.2.1 ⟨rfl, rfl⟩ wk3_199 wk2_201 wk2_202 wk1_4 wk2_203 hd_X4_tally ⟨Nat.le_of_ble_eq_true rfl, Nat.le_of_ble_eq_true rfl⟩) rfl rfl rfl rfl rfl (Nat.le_of_ble_eq_true rfl) dX2_put_71 (fun u6 H locs p4 hw => ?_)
        obtain ⟨b16_7, b17_8, b18_9, b19_10, b20_11, b21_12, hFu6, huu6⟩ := p4
        subst huu6
        have hst_ : sr (sr (sr (sr (sr (sr (sr σ 24 (upd (σ 24) k (hv))) 16 b16_7) 17 b17_8) 18 b18_9) 19 b19_10) 20 b20_11) 21 b21_12 = sr (sr (sr (sr (sr (sr (sr σ 16 (b16_7)) 17 (b17_8)) 18 (b18_9)) 19 (b19_10)) 20 (b20_11)) 21 (b21_12)) 24 (upd (σ 24) k (hv)) := by
          funext j_ x_
          by_cases e0 : j_ = 0
          · subst e0
            rfl
          · by_cases e16 : j_ = 16
            · subst e16; rfl
            · by_cases e17 : j_ = 17
              · subst e17; rfl
              · by_cases e18 : j_ = 18
                · subst e18; rfl
                · by_cases e19 : j_ = 19
                  · subst e19; rfl
                  · by_cases e20 : j_ = 20
                    · subst e20; rfl
                    · by_cases e21 : j_ = 21
                      · subst e21; rfl
                      · by_cases e24 : j_ = 24
                        · subst e24; rfl
                        · simp only [sr, e0, e16, e17, e18, e19, e20, e21, e24, if_false]
        rw [hst_] at hw
        refine hret _ _ _ _ _ hw ?_ dX2_put_74
        exact ⟨b16_7, b17_8, b18_9, b19_10, b20_11, b21_12, hFu6.cg (fun j hj => by rw [pP_pu hFk hk, hxn]), rfl⟩
    · have hpk : pp k ≠ 10 := fun q => c2 ((atI_f hnh hfz (hp k hk)).mpr q)
      have hpk2 := (hp k hk).resolve_left hpk
      refine lv_aload_n hC.1 hC.2.1 dX2_put_24 rfl (lv_at hl 0 rfl) ?_
      refine gf_X2_24 hC hw dX2_put_25 ?_
      refine lv_aload_n hC.1 hC.2.1 dX2_put_28 rfl (lv_at hl 0 rfl) ?_
      refine gf_X2_11 hC hw dX2_put_29 ?_
      refine lv_iload_n hC.1 hC.2.1 dX2_put_32 rfl (lv_at hl 1 rfl) ?_
      have hFx := (hF k (by omega)).2
      refine al_X23 (v := nI (F k)) hC hw (by omega) (hF k (by omega)).1 dX2_put_33 ?_
      refine lv_aload_n hC.1 hC.2.1 dX2_put_34 rfl (lv_at hl 0 rfl) ?_
      refine gf_X2_15 hC hw dX2_put_35 ?_
      refine lv_iload_n hC.1 hC.2.1 dX2_put_38 rfl (lv_at hl 1 rfl) ?_
      refine al_X24 (v := nI (pp k)) hC hw (by omega) ((hat k hk).trans (atI_n hpk)) dX2_put_39 ?_
      refine lv_iconst (v := (-1)) hC.1 hC.2.1 dX2_put_40 (by decide) ?_
      refine q_callVv (As := [.int (nI (F k)), .int (nI (pp k)), .int ((-1))]) (rest := []) (q0 := 5) hC hw hl (tX4_tally l E a σ nh nj E0 (pP F P0 pp fm) (upd (pP F P0 pp fm) (F k) (-1)) (F k) (pp k) (-1) hN hE hS hFS (Or.inr ⟨rfl, (pP_at hFk.2 hk).trans (if_neg hpk), rfl⟩) hFx hpk2.1) (q_cwV hC.2.2.2.2.1 ⟨rfl, rfl⟩ wk3_199 wk2_201 wk2_202 wk1_4 wk2_203 hd_X4_tally ⟨Nat.le_of_ble_eq_true rfl, Nat.le_of_ble_eq_true rfl⟩) rfl rfl rfl rfl rfl (Nat.le_of_ble_eq_true rfl) dX2_put_41 (fun u15 H locs p13 hw => ?_)
      obtain ⟨b16_16, b17_17, b18_18, b19_19, b20_20, b21_21, hFu15, huu15⟩ := p13
      subst huu15
      refine lv_aload_n hC.1 hC.2.1 dX2_put_44 rfl (lv_at hl 0 rfl) ?_
      refine gf_X2_15 hC hw dX2_put_45 ?_
      refine lv_iload_n hC.1 hC.2.1 dX2_put_48 rfl (lv_at hl 1 rfl) ?_
      refine lv_iload_n hC.1 hC.2.1 dX2_put_49 rfl (lv_at hl 2 rfl) ?_
      refine as_X24 hC hw (by omega) dX2_put_50 (fun H locs hw => ?_)
      have hw : Wst E (XW E a) (sr (sr (sr (sr (sr (sr (sr σ 16 (b16_16)) 17 (b17_17)) 18 (b18_18)) 19 (b19_19)) 20 (b20_20)) 21 (b21_21)) 24 (upd (σ 24) k (hv))) A s.heap H locs := hw
      refine lv_iload_n hC.1 hC.2.1 dX2_put_51 rfl (lv_at hl 2 rfl) ?_
      refine lv_aload_n hC.1 hC.2.1 dX2_put_52 rfl (lv_at hl 0 rfl) ?_
      refine gf_X2_32 (v := plc fz) hC hw h8 dX2_put_53 ?_
      refine q_cmpeq hC 74 cI dX2_put_56 (by decide) (fun (c22 : hv = plc fz) => ?_) (fun (c22 : ¬ (hv = plc fz)) => ?_)
      · have hx10 : x = 10 := (atI_f hnh hfz hx).mp (hv2.symm.trans c22)
        refine hret _ _ _ _ _ hw ?_ dX2_put_74
        exact ⟨b16_16, b17_17, b18_18, b19_19, b20_20, b21_21, hFu15.cg (fun j hj => by rw [pP_pu hFk hk, hx10]; rfl), rfl⟩
      · have hxz : x ≠ 10 := fun q => c22 (hv2.trans ((atI_f hnh hfz hx).mpr q))
        have hx2 := hx.resolve_left hxz
        have hxn : plc x = nI x := if_neg hxz
        refine lv_aload_n hC.1 hC.2.1 dX2_put_59 rfl (lv_at hl 0 rfl) ?_
        refine gf_X2_24 hC hw dX2_put_60 ?_
        refine lv_aload_n hC.1 hC.2.1 dX2_put_63 rfl (lv_at hl 0 rfl) ?_
        refine gf_X2_11 hC hw dX2_put_64 ?_
        refine lv_iload_n hC.1 hC.2.1 dX2_put_67 rfl (lv_at hl 1 rfl) ?_
        have hFx := (hF k (by omega)).2
        refine al_X23 (v := nI (F k)) hC hw (by omega) (hF k (by omega)).1 dX2_put_68 ?_
        refine lv_iload_n hC.1 hC.2.1 dX2_put_69 rfl (lv_at hl 2 rfl) ?_
        refine q_top (y := nI x) (hv2.trans (atI_n hxz)) ?_
        refine lv_iconst (v := nI 1) hC.1 hC.2.1 dX2_put_70 (by decide) ?_
        refine q_callVv (As := [.int (nI (F k)), .int (nI x), .int (nI 1)]) (rest := []) (q0 := 5) hC hw hl (tX4_tally l E a (sr (sr (sr (sr (sr (sr (sr σ 16 (b16_16)) 17 (b17_17)) 18 (b18_18)) 19 (b19_19)) 20 (b20_20)) 21 (b21_21)) 24 (upd (σ 24) k (hv))) nh nj E0 (upd (pP F P0 pp fm) (F k) (-1)) (upd (upd (pP F P0 pp fm) (F k) (-1)) (F k) (nI x)) (F k) x 1 hN hE hS hFu15 (Or.inl ⟨rfl, ups, rfl⟩) hFx hx2.1) (q_cwV hC.2.2.2.2.1 ⟨rfl, rfl⟩ wk3_199 wk2_201 wk2_202 wk1_4 wk2_203 hd_X4_tally ⟨Nat.le_of_ble_eq_true rfl, Nat.le_of_ble_eq_true rfl⟩) rfl rfl rfl rfl rfl (Nat.le_of_ble_eq_true rfl) dX2_put_71 (fun u25 H locs p23 hw => ?_)
        obtain ⟨b16_26, b17_27, b18_28, b19_29, b20_30, b21_31, hFu25, huu25⟩ := p23
        subst huu25
        have hst_ : sr (sr (sr (sr (sr (sr (sr (sr (sr (sr (sr (sr (sr σ 16 (b16_16)) 17 (b17_17)) 18 (b18_18)) 19 (b19_19)) 20 (b20_20)) 21 (b21_21)) 24 (upd (σ 24) k (hv))) 16 b16_26) 17 b17_27) 18 b18_28) 19 b19_29) 20 b20_30) 21 b21_31 = sr (sr (sr (sr (sr (sr (sr σ 16 (b16_26)) 17 (b17_27)) 18 (b18_28)) 19 (b19_29)) 20 (b20_30)) 21 (b21_31)) 24 (upd (σ 24) k (hv)) := by
          funext j_ x_
          by_cases e0 : j_ = 0
          · subst e0
            rfl
          · by_cases e16 : j_ = 16
            · subst e16; rfl
            · by_cases e17 : j_ = 17
              · subst e17; rfl
              · by_cases e18 : j_ = 18
                · subst e18; rfl
                · by_cases e19 : j_ = 19
                  · subst e19; rfl
                  · by_cases e20 : j_ = 20
                    · subst e20; rfl
                    · by_cases e21 : j_ = 21
                      · subst e21; rfl
                      · by_cases e24 : j_ = 24
                        · subst e24; rfl
                        · simp only [sr, e0, e16, e17, e18, e19, e20, e21, e24, if_false]
        rw [hst_] at hw
        refine hret _ _ _ _ _ hw ?_ dX2_put_74
        exact ⟨b16_26, b17_27, b18_28, b19_29, b20_30, b21_31, hFu25.cg (fun j hj => by rw [pP_pu hFk hk, hxn]; exact (upd_upd2 (F k) j).symm), rfl⟩
  · refine hret _ _ _ _ _ hw ?_ dX2_put_10
    have hxe : x = pp k := atI_inj hnh hfz hx (hp k hk) (hv2.symm.trans c1)
    refine ⟨σ 16, σ 17, σ 18, σ 19, σ 20, σ 21, hFS.cg (fun j hj => by rw [hxe, show pu pp k (pp k) = pp from funext fun i => by unfold pu; split <;> simp_all]), ?_⟩
    rw [show upd (σ 24) k hv = σ 24 from upd_same ((hat k hk).trans (c1).symm)]
    funext j_ x_
    by_cases e0 : j_ = 0
    · subst e0
      rfl
    · by_cases e16 : j_ = 16
      · subst e16; rfl
      · by_cases e17 : j_ = 17
        · subst e17; rfl
        · by_cases e18 : j_ = 18
          · subst e18; rfl
          · by_cases e19 : j_ = 19
            · subst e19; rfl
            · by_cases e20 : j_ = 20
              · subst e20; rfl
              · by_cases e21 : j_ = 21
                · subst e21; rfl
                · by_cases e24 : j_ = 24
                  · subst e24; rfl
                  · simp only [sr, e0, e16, e17, e18, e19, e20, e21, e24, if_false]
