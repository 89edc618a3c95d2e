set_option maxHeartbeats 4000000 in
set_option maxRecDepth 100000 in
theorem tX8_noteSteps (l : Launch) (E : EV) (a : Nat → Nat) (σ : St) (nh : Nat) (nj : Nat) (fm : Nat) (F : Nat → Nat) (v : Nat → Int32) (s0 : Nat) (goal : Nat) (d : Nat) (hm : σ 0 6 = nI fm) (hm4 : fm ≤ 4) (hF : ∀ i, i < fm → σ 23 i = nI (F i) ∧ F i < nj) (hnh : nh ≤ 10) (hnj : nj ≤ 24) (hd8 : d ≤ 8) (hV0 : Vd fm nh (enc 11 (dg v F) fm)) (hs1 : (vPl v F fm nh nj d).1 ≤ s0) (hs2 : s0 < (vPl v F fm nh nj d).2.length) (hgo : rc fm (gt (vPl v F fm nh nj d).2 s0).1 = goal) (hCR : CR fm (vPl v F fm nh nj d).2 (σ 25, σ 26, (vPl v F fm nh nj d).2.length)) : MV l E (XW E a) yX8_noteSteps (Cond.code yX8_noteSteps cX8_noteSteps 7 none) ({ frames := 2, cells := 0, slots := 0, locals := 42 }) [.ref (a 69), .int (nI goal), .int (nI d)] σ (fun u_ => ∃ (b27 b28 : Nat → Int32), NS (vPl v F fm nh nj d).2 s0 d d b27 b28 ∧ u_ = sr (sr (sr σ 27 b27) 28 b28) 0 (upd (σ 0) 9 (nI d))) := by
  refine MV.mk (by decide +kernel) (Nat.le_of_ble_eq_true rfl) ?_
  intro p e s m args below meth c ls A Q hret hC hw hl
  have hC : Cxt E p s m args meth c cX8_noteSteps 7 none RX8 A := hC
  have hl : lv_has ls 7 [(0, .ref (a 69)), (1, .int (nI goal)), (2, .int (nI d))] := hl
  have hp10 := pow10 (show fm < 5 by omega)
  refine lv_aload_n hC.1 hC.2.1 dX8_noteSteps_0 rfl (lv_at hl 0 rfl) ?_
  refine lv_iload_n hC.1 hC.2.1 dX8_noteSteps_1 rfl (lv_at hl 2 rfl) ?_
  refine pf_X8_101 hC hw dX8_noteSteps_2 (fun H locs hw => ?_)
  have hw : Wst E (XW E a) (sr σ 0 (upd (σ 0) 9 (nI d))) A s.heap H locs := hw
  refine lv_iload_n hC.1 hC.2.1 dX8_noteSteps_5 rfl (lv_at hl 1 rfl) ?_
  refine lv_istore_n (lv' := [(3, .int (nI goal)), (0, .ref (a 69)), (1, .int (nI goal)), (2, .int (nI d))]) hC.1 hC.2.1 dX8_noteSteps_6 rfl hl (by decide) rfl (fun ls hl => ?_)
  refine lv_iload_n hC.1 hC.2.1 dX8_noteSteps_7 rfl (lv_at hl 3 rfl) ?_
  refine lv_iconst (v := nI 1) hC.1 hC.2.1 dX8_noteSteps_8 (by decide) ?_
  refine lv_isub hC.1 hC.2.1 dX8_noteSteps_9 ?_
  refine lv_istore (lv' := [(4, .int ((nI d) - 1)), (3, .int (nI goal)), (0, .ref (a 69)), (1, .int (nI goal)), (2, .int (nI d))]) hC.1 hC.2.1 dX8_noteSteps_10 hl (by decide) rfl (fun ls hl => ?_)
  have L12_0 : ∀ (n : Nat), ∀ (j : Nat), ∀ (cd : Nat), ∀ (kk : Int32), ∀ (e27 : Nat → Int32), ∀ (e28 : Nat → Int32), (cd = (rc fm (gt (vPl v F fm nh nj d).2 (anc (vPl v F fm nh nj d).2 s0 j)).1)) → (kk = (nI (d - j) - 1)) → (j ≤ d) → (NS (vPl v F fm nh nj d).2 s0 d j e27 e28) → (d + 1 - j) < n → ∀ (H : Heap) (locs : List Loc) (ls : Array Slot), Wst E (XW E a) (sr (sr (sr σ 27 (e27)) 28 (e28)) 0 (upd (σ 0) 9 (nI d))) A s.heap H locs → lv_has ls 7 [(0, .ref (a 69)), (1, .int (nI goal)), (2, .int (nI d)), (3, .int (nI cd)), (4, .int (kk))] → W p l e ({ frames := 2, cells := 0, slots := 0, locals := 42 }) s m args below meth c H locs 0 0 Q (F0 m 12 ls []) := by
    intro n
    induction n with
    | zero => intro j cd kk e27 e28 q_cd q_kk hj hNS hn; exact absurd hn (Nat.not_lt_zero _)
    | succ n ih12 =>
      intro j cd kk e27 e28 q_cd q_kk hj hNS hn12 H locs ls hw hl
      subst q_cd
      subst q_kk
      refine lv_iload hC.1 hC.2.1 dX8_noteSteps_12 (lv_at hl 4 rfl) ?_
      refine q_iflt hC 115 cI dX8_noteSteps_14 (by decide) (fun (c2 : (nI (d - j) - 1) < 0) => ?_) (fun (c2 : ¬ ((nI (d - j) - 1) < 0)) => ?_)
      · have hjd : j = d := nI_neg hj (by omega) c2
        refine hret _ _ _ _ _ hw ?_ dX8_noteSteps_115
        rw [hjd] at hNS
        exact ⟨e27, e28, hNS, rfl⟩
      · have hjd : j < d := nI_nneg hj (by omega) c2
        obtain ⟨hanc0, hanc1, hanc2, k0, x0, hk0, hx0n, hdj, hne0, hb0⟩ := nst (F := F) (nj := nj) hnh hV0 hs1 hs2 hjd
        have hvj : Vd fm nh (gt (vPl v F fm nh nj d).2 (anc (vPl v F fm nh nj d).2 s0 j)).1 := Vd.all hnh (vPl_GL d) hV0 _ hanc1
        have hvb : Vd fm nh (gt (vPl v F fm nh nj d).2 (anc (vPl v F fm nh nj d).2 s0 (j + 1))).1 := Vd.all hnh (vPl_GL d) hV0 _ hanc2
        have hrj := rc_lt hnh hvj
        have hrb := rc_lt hnh hvb
        refine lv_aload_n hC.1 hC.2.1 dX8_noteSteps_17 rfl (lv_at hl 0 rfl) ?_
        refine gf_X8_29 hC hw dX8_noteSteps_18 ?_
        refine lv_iload_n hC.1 hC.2.1 dX8_noteSteps_21 rfl (lv_at hl 3 rfl) ?_
        refine q_callVp (As := [.int (nI (rc fm (gt (vPl v F fm nh nj d).2 (anc (vPl v F fm nh nj d).2 s0 j)).1))]) (rest := []) (q0 := 3) hC hw hl (tX2_before l E a (sr (sr (sr σ 27 (e27)) 28 (e28)) 0 (upd (σ 0) 9 (nI d))) (rc fm (gt (vPl v F fm nh nj d).2 (anc (vPl v F fm nh nj d).2 s0 j)).1) (by omega)) (q_cwV hC.2.2.2.2.1 ⟨rfl, rfl⟩ wk4_4 wk4_5 wk4_6 wk1_7 wk4_7 hd_X2_before ⟨Nat.le_of_ble_eq_true rfl, Nat.le_of_ble_eq_true rfl⟩) rfl rfl rfl rfl rfl (Nat.le_of_ble_eq_true rfl) dX8_noteSteps_22 (fun H locs hw => ?_)
        refine q_top (y := nI (rc fm (gt (vPl v F fm nh nj d).2 (anc (vPl v F fm nh nj d).2 s0 (j + 1))).1)) (hCR.2.2.2 _ hanc0 hanc1) ?_
        refine lv_istore (lv' := [(5, .int (nI (rc fm (gt (vPl v F fm nh nj d).2 (anc (vPl v F fm nh nj d).2 s0 (j + 1))).1))), (0, .ref (a 69)), (1, .int (nI goal)), (2, .int (nI d)), (3, .int (nI (rc fm (gt (vPl v F fm nh nj d).2 (anc (vPl v F fm nh nj d).2 s0 j)).1))), (4, .int (nI (d - j) - 1))]) hC.1 hC.2.1 dX8_noteSteps_25 hl (by decide) rfl (fun ls hl => ?_)
        refine lv_iconst (v := nI 0) hC.1 hC.2.1 dX8_noteSteps_27 (by decide) ?_
        refine lv_istore (lv' := [(6, .int (nI 0)), (5, .int (nI (rc fm (gt (vPl v F fm nh nj d).2 (anc (vPl v F fm nh nj d).2 s0 (j + 1))).1))), (0, .ref (a 69)), (1, .int (nI goal)), (2, .int (nI d)), (3, .int (nI (rc fm (gt (vPl v F fm nh nj d).2 (anc (vPl v F fm nh nj d).2 s0 j)).1))), (4, .int (nI (d - j) - 1))]) hC.1 hC.2.1 dX8_noteSteps_28 hl (by decide) rfl (fun ls hl => ?_)
        have L30_5 : ∀ (n : Nat), ∀ (k : Nat), ∀ (x27 : Nat → Int32), ∀ (x28 : Nat → Int32), (k ≤ fm) → ((k ≤ k0 ∧ x27 = e27 ∧ x28 = e28) ∨ (k0 < k ∧ x27 = upd e27 (d - j - 1) (nI (F k0)) ∧ x28 = upd e28 (d - j - 1) (nI x0))) → (fm - k) < n → ∀ (H : Heap) (locs : List Loc) (ls : Array Slot), Wst E (XW E a) (sr (sr (sr σ 27 (x27)) 28 (x28)) 0 (upd (σ 0) 9 (nI d))) A s.heap H locs → lv_has ls 7 [(0, .ref (a 69)), (1, .int (nI goal)), (2, .int (nI d)), (3, .int (nI (rc fm (gt (vPl v F fm nh nj d).2 (anc (vPl v F fm nh nj d).2 s0 j)).1))), (4, .int (nI (d - j) - 1)), (5, .int (nI (rc fm (gt (vPl v F fm nh nj d).2 (anc (vPl v F fm nh nj d).2 s0 (j + 1))).1))), (6, .int (nI k))] → W p l e ({ frames := 2, cells := 0, slots := 0, locals := 42 }) s m args below meth c H locs 0 0 Q (F0 m 30 ls []) := by
          intro n
          induction n with
          | zero => intro k x27 x28 hk hX hn; exact absurd hn (Nat.not_lt_zero _)
          | succ n ih30 =>
            intro k x27 x28 hk hX hn30 H locs ls hw hl
            refine lv_iload hC.1 hC.2.1 dX8_noteSteps_30 (lv_at hl 6 rfl) ?_
            refine lv_aload_n hC.1 hC.2.1 dX8_noteSteps_32 rfl (lv_at hl 0 rfl) ?_
            refine gf_X8_29 hC hw dX8_noteSteps_33 ?_
            refine gf_X8_59 (v := nI fm) hC hw hm dX8_noteSteps_36 ?_
            refine q_cmpge hC 106 (cNle (by omega) (by omega)) dX8_noteSteps_39 (by decide) (fun (c7 : fm ≤ k) => ?_) (fun (c7 : k < fm) => ?_)
            · refine lv_iload hC.1 hC.2.1 dX8_noteSteps_106 (lv_at hl 5 rfl) ?_
              refine lv_istore_n (lv' := [(3, .int (nI (rc fm (gt (vPl v F fm nh nj d).2 (anc (vPl v F fm nh nj d).2 s0 (j + 1))).1))), (0, .ref (a 69)), (1, .int (nI goal)), (2, .int (nI d)), (4, .int (nI (d - j) - 1)), (5, .int (nI (rc fm (gt (vPl v F fm nh nj d).2 (anc (vPl v F fm nh nj d).2 s0 (j + 1))).1))), (6, .int (nI k))]) hC.1 hC.2.1 dX8_noteSteps_108 rfl hl (by decide) rfl (fun ls hl => ?_)
              refine lv_iinc (v := (nI (d - j) - 1) + (-1)) (lv' := [(4, .int ((nI (d - j) - 1) + (-1))), (3, .int (nI (rc fm (gt (vPl v F fm nh nj d).2 (anc (vPl v F fm nh nj d).2 s0 (j + 1))).1))), (0, .ref (a 69)), (1, .int (nI goal)), (2, .int (nI d)), (5, .int (nI (rc fm (gt (vPl v F fm nh nj d).2 (anc (vPl v F fm nh nj d).2 s0 (j + 1))).1))), (6, .int (nI k))]) hC.1 hC.2.1 dX8_noteSteps_109 hl (k := 4) rfl rfl (by decide) rfl (fun ls hl => ?_)
              refine lv_goto (tgt := 12) hC.1 hC.2.1 dX8_noteSteps_112 (by decide) ?_
              have hk9 : k = fm := by omega
              have hX3 := (hX.resolve_left (fun q => by omega)).2
              have hNS2 := hNS.step hjd hb0 (show x0 < 10 by omega)
              rw [← hX3.1, ← hX3.2] at hNS2
              exact ih12 (j + 1) (rc fm (gt (vPl v F fm nh nj d).2 (anc (vPl v F fm nh nj d).2 s0 (j + 1))).1) ((nI (d - j) - 1) + (-1)) x27 x28 rfl (nI_dn hjd) (by omega) hNS2 (by omega) _ _ _ hw (lv_sub hl [2, 3, 4, 1, 0] rfl)
            · have hd1 := hvb.d10 hnh k (by omega)
              have hd2 := hvj.d10 hnh k (by omega)
              refine lv_aload_n hC.1 hC.2.1 dX8_noteSteps_42 rfl (lv_at hl 0 rfl) ?_
              refine gf_X8_29 hC hw dX8_noteSteps_43 ?_
              refine lv_iload hC.1 hC.2.1 dX8_noteSteps_46 (lv_at hl 5 rfl) ?_
              refine lv_iload hC.1 hC.2.1 dX8_noteSteps_48 (lv_at hl 6 rfl) ?_
              refine q_callVp (As := [.int (nI (rc fm (gt (vPl v F fm nh nj d).2 (anc (vPl v F fm nh nj d).2 s0 (j + 1))).1)), .int (nI k)]) (rest := []) (q0 := 3) hC hw hl (tX2_hostIn l E a (sr (sr (sr σ 27 (x27)) 28 (x28)) 0 (upd (σ 0) 9 (nI d))) (rc fm (gt (vPl v F fm nh nj d).2 (anc (vPl v F fm nh nj d).2 s0 (j + 1))).1) k (by omega) (by omega)) (q_cwV hC.2.2.2.2.1 ⟨rfl, rfl⟩ wk4_8 wk3_188 wk3_189 wk1_7 wk3_190 hd_X2_hostIn ⟨Nat.le_of_ble_eq_true rfl, Nat.le_of_ble_eq_true rfl⟩) rfl rfl rfl rfl rfl (Nat.le_of_ble_eq_true rfl) dX8_noteSteps_50 (fun H locs hw => ?_)
              refine q_top (y := nI (dig 11 fm (gt (vPl v F fm nh nj d).2 (anc (vPl v F fm nh nj d).2 s0 (j + 1))).1 k)) (congrArg nI (rc_dig hnh hvb (by omega))) ?_
              refine lv_aload_n hC.1 hC.2.1 dX8_noteSteps_53 rfl (lv_at hl 0 rfl) ?_
              refine gf_X8_29 hC hw dX8_noteSteps_54 ?_
              refine lv_iload_n hC.1 hC.2.1 dX8_noteSteps_57 rfl (lv_at hl 3 rfl) ?_
              refine lv_iload hC.1 hC.2.1 dX8_noteSteps_58 (lv_at hl 6 rfl) ?_
              refine q_callVp (As := [.int (nI (rc fm (gt (vPl v F fm nh nj d).2 (anc (vPl v F fm nh nj d).2 s0 j)).1)), .int (nI k)]) (rest := [.int (nI (dig 11 fm (gt (vPl v F fm nh nj d).2 (anc (vPl v F fm nh nj d).2 s0 (j + 1))).1 k))]) (q0 := 3) hC hw hl (tX2_hostIn l E a (sr (sr (sr σ 27 (x27)) 28 (x28)) 0 (upd (σ 0) 9 (nI d))) (rc fm (gt (vPl v F fm nh nj d).2 (anc (vPl v F fm nh nj d).2 s0 j)).1) k (by omega) (by omega)) (q_cwV hC.2.2.2.2.1 ⟨rfl, rfl⟩ wk4_8 wk3_188 wk3_189 wk1_7 wk3_190 hd_X2_hostIn ⟨Nat.le_of_ble_eq_true rfl, Nat.le_of_ble_eq_true rfl⟩) rfl rfl rfl rfl rfl (Nat.le_of_ble_eq_true rfl) dX8_noteSteps_60 (fun H locs hw => ?_)
              refine q_top (y := nI (dig 11 fm (gt (vPl v F fm nh nj d).2 (anc (vPl v F fm nh nj d).2 s0 j)).1 k)) (congrArg nI (rc_dig hnh hvj (by omega))) ?_
              refine q_cmpeq hC 100 (cNeq (by omega) (by omega)) dX8_noteSteps_63 (by decide) (fun (c14 : (dig 11 fm (gt (vPl v F fm nh nj d).2 (anc (vPl v F fm nh nj d).2 s0 (j + 1))).1 k) = (dig 11 fm (gt (vPl v F fm nh nj d).2 (anc (vPl v F fm nh nj d).2 s0 j)).1 k)) => ?_) (fun (c14 : (dig 11 fm (gt (vPl v F fm nh nj d).2 (anc (vPl v F fm nh nj d).2 s0 (j + 1))).1 k) ≠ (dig 11 fm (gt (vPl v F fm nh nj d).2 (anc (vPl v F fm nh nj d).2 s0 j)).1 k)) => ?_)
              · refine lv_iinc (v := nI (k + 1)) (lv' := [(6, .int (nI (k + 1))), (0, .ref (a 69)), (1, .int (nI goal)), (2, .int (nI d)), (3, .int (nI (rc fm (gt (vPl v F fm nh nj d).2 (anc (vPl v F fm nh nj d).2 s0 j)).1))), (4, .int (nI (d - j) - 1)), (5, .int (nI (rc fm (gt (vPl v F fm nh nj d).2 (anc (vPl v F fm nh nj d).2 s0 (j + 1))).1)))]) hC.1 hC.2.1 dX8_noteSteps_100 hl (k := 6) rfl (nI_add _ _) (by decide) rfl (fun ls hl => ?_)
                refine lv_goto (tgt := 30) hC.1 hC.2.1 dX8_noteSteps_103 (by decide) ?_
                have hkk : k ≠ k0 := fun q => hne0 (by have h9 := c14; rw [hdj k (by omega), q, if_pos rfl] at h9; exact h9.symm)
                have hX2 : (k + 1 ≤ k0 ∧ x27 = e27 ∧ x28 = e28) ∨ (k0 < k + 1 ∧ x27 = upd e27 (d - j - 1) (nI (F k0)) ∧ x28 = upd e28 (d - j - 1) (nI x0)) := hX.elim (fun q => Or.inl ⟨by omega, q.2⟩) (fun q => Or.inr ⟨by omega, q.2⟩)
                exact ih30 (k + 1) x27 x28 (by omega) hX2 (by omega) _ _ _ hw (lv_sub hl [1, 2, 3, 4, 5, 6, 0] rfl)
              · refine lv_aload_n hC.1 hC.2.1 dX8_noteSteps_66 rfl (lv_at hl 0 rfl) ?_
                refine gf_X8_9 hC hw dX8_noteSteps_67 ?_
                refine lv_iload hC.1 hC.2.1 dX8_noteSteps_70 (lv_at hl 4 rfl) ?_
                refine q_top (y := nI (d - j - 1)) (nI_m1 hjd) ?_
                refine lv_aload_n hC.1 hC.2.1 dX8_noteSteps_72 rfl (lv_at hl 0 rfl) ?_
                refine gf_X8_29 hC hw dX8_noteSteps_73 ?_
                refine gf_X8_62 hC hw dX8_noteSteps_76 ?_
                refine lv_iload hC.1 hC.2.1 dX8_noteSteps_79 (lv_at hl 6 rfl) ?_
                have hFx := (hF k (by omega)).2
                refine al_X23 (v := nI (F k)) hC hw (by omega) (hF k (by omega)).1 dX8_noteSteps_81 ?_
                refine as_X27 hC hw (by omega) dX8_noteSteps_82 (fun H locs hw => ?_)
                have hw : Wst E (XW E a) (sr (sr (sr (sr σ 27 (x27)) 28 (x28)) 0 (upd (σ 0) 9 (nI d))) 27 (upd (x27) (d - j - 1) (nI (F k)))) A s.heap H locs := hw
                have hst_ : sr (sr (sr (sr σ 27 (x27)) 28 (x28)) 0 (upd (σ 0) 9 (nI d))) 27 (upd (x27) (d - j - 1) (nI (F k))) = sr (sr (sr σ 27 (upd (x27) (d - j - 1) (nI (F k)))) 28 (x28)) 0 (upd (σ 0) 9 (nI d)) := by
                  funext j_ x_
                  by_cases e0 : j_ = 0
                  · subst e0
                    by_cases y9 : x_ = 9
                    · subst y9; rfl
                    · simp [sr, upd, y9]
                  · by_cases e27 : j_ = 27
                    · subst e27; rfl
                    · by_cases e28 : j_ = 28
                      · subst e28; rfl
                      · simp only [sr, e0, e27, e28, if_false]
                rw [hst_] at hw
                refine lv_aload_n hC.1 hC.2.1 dX8_noteSteps_83 rfl (lv_at hl 0 rfl) ?_
                refine gf_X8_15 hC hw dX8_noteSteps_84 ?_
                refine lv_iload hC.1 hC.2.1 dX8_noteSteps_87 (lv_at hl 4 rfl) ?_
                refine q_top (y := nI (d - j - 1)) (nI_m1 hjd) ?_
                refine lv_aload_n hC.1 hC.2.1 dX8_noteSteps_89 rfl (lv_at hl 0 rfl) ?_
                refine gf_X8_29 hC hw dX8_noteSteps_90 ?_
                refine lv_iload_n hC.1 hC.2.1 dX8_noteSteps_93 rfl (lv_at hl 3 rfl) ?_
                refine lv_iload hC.1 hC.2.1 dX8_noteSteps_94 (lv_at hl 6 rfl) ?_
                refine q_callVp (As := [.int (nI (rc fm (gt (vPl v F fm nh nj d).2 (anc (vPl v F fm nh nj d).2 s0 j)).1)), .int (nI k)]) (rest := [.int (nI (d - j - 1)), .ref (a 28)]) (q0 := 3) hC hw hl (tX2_hostIn l E a (sr (sr (sr σ 27 (upd (x27) (d - j - 1) (nI (F k)))) 28 (x28)) 0 (upd (σ 0) 9 (nI d))) (rc fm (gt (vPl v F fm nh nj d).2 (anc (vPl v F fm nh nj d).2 s0 j)).1) k (by omega) (by omega)) (q_cwV hC.2.2.2.2.1 ⟨rfl, rfl⟩ wk4_8 wk3_188 wk3_189 wk1_7 wk3_190 hd_X2_hostIn ⟨Nat.le_of_ble_eq_true rfl, Nat.le_of_ble_eq_true rfl⟩) rfl rfl rfl rfl rfl (Nat.le_of_ble_eq_true rfl) dX8_noteSteps_96 (fun H locs hw => ?_)
                refine q_top (y := nI (dig 11 fm (gt (vPl v F fm nh nj d).2 (anc (vPl v F fm nh nj d).2 s0 j)).1 k)) (congrArg nI (rc_dig hnh hvj (by omega))) ?_
                refine as_X28 hC hw (by omega) dX8_noteSteps_99 (fun H locs hw => ?_)
                have hw : Wst E (XW E a) (sr (sr (sr (sr σ 27 (upd (x27) (d - j - 1) (nI (F k)))) 28 (x28)) 0 (upd (σ 0) 9 (nI d))) 28 (upd (x28) (d - j - 1) (nI (dig 11 fm (gt (vPl v F fm nh nj d).2 (anc (vPl v F fm nh nj d).2 s0 j)).1 k)))) A s.heap H locs := hw
                have hst_ : sr (sr (sr (sr σ 27 (upd (x27) (d - j - 1) (nI (F k)))) 28 (x28)) 0 (upd (σ 0) 9 (nI d))) 28 (upd (x28) (d - j - 1) (nI (dig 11 fm (gt (vPl v F fm nh nj d).2 (anc (vPl v F fm nh nj d).2 s0 j)).1 k))) = sr (sr (sr σ 27 (upd (x27) (d - j - 1) (nI (F k)))) 28 (upd (x28) (d - j - 1) (nI (dig 11 fm (gt (vPl v F fm nh nj d).2 (anc (vPl v F fm nh nj d).2 s0 j)).1 k)))) 0 (upd (σ 0) 9 (nI d)) := by
                  funext j_ x_
                  by_cases e0 : j_ = 0
                  · subst e0
                    by_cases y9 : x_ = 9
                    · subst y9; rfl
                    · simp [sr, upd, y9]
                  · by_cases e27 : j_ = 27
                    · subst e27; rfl
                    · by_cases e28 : j_ = 28
                      · subst e28; rfl
                      · simp only [sr, e0, e27, e28, if_false]
                rw [hst_] at hw
                refine lv_iinc (v := nI (k + 1)) (lv' := [(6, .int (nI (k + 1))), (0, .ref (a 69)), (1, .int (nI goal)), (2, .int (nI d)), (3, .int (nI (rc fm (gt (vPl v F fm nh nj d).2 (anc (vPl v F fm nh nj d).2 s0 j)).1))), (4, .int (nI (d - j) - 1)), (5, .int (nI (rc fm (gt (vPl v F fm nh nj d).2 (anc (vPl v F fm nh nj d).2 s0 (j + 1))).1)))]) hC.1 hC.2.1 dX8_noteSteps_100 hl (k := 6) rfl (nI_add _ _) (by decide) rfl (fun ls hl => ?_)
                refine lv_goto (tgt := 30) hC.1 hC.2.1 dX8_noteSteps_103 (by decide) ?_
                have hkk : k = k0 := Classical.byContradiction fun q => c14 (by rw [hdj k (by omega), if_neg q])
                have hdk : dig 11 fm (gt (vPl v F fm nh nj d).2 (anc (vPl v F fm nh nj d).2 s0 j)).1 k = x0 := by rw [hdj k (by omega), if_pos hkk]
                have hX1 : x27 = e27 ∧ x28 = e28 := (hX.resolve_right (fun q => absurd q.1 (by omega))).2
                have hX2 : (k + 1 ≤ k0 ∧ upd x27 (d - j - 1) (nI (F k)) = e27 ∧ upd x28 (d - j - 1) (nI (dig 11 fm (gt (vPl v F fm nh nj d).2 (anc (vPl v F fm nh nj d).2 s0 j)).1 k)) = e28) ∨ (k0 < k + 1 ∧ upd x27 (d - j - 1) (nI (F k)) = upd e27 (d - j - 1) (nI (F k0)) ∧ upd x28 (d - j - 1) (nI (dig 11 fm (gt (vPl v F fm nh nj d).2 (anc (vPl v F fm nh nj d).2 s0 j)).1 k)) = upd e28 (d - j - 1) (nI x0)) := Or.inr ⟨by omega, by rw [hX1.1, hkk], by rw [hX1.2, hdk]⟩
                exact ih30 (k + 1) (upd (x27) (d - j - 1) (nI (F k))) (upd (x28) (d - j - 1) (nI (dig 11 fm (gt (vPl v F fm nh nj d).2 (anc (vPl v F fm nh nj d).2 s0 j)).1 k))) (by omega) hX2 (by omega) _ _ _ hw (lv_sub hl [1, 2, 3, 4, 5, 6, 0] rfl)
        exact L30_5 _ 0 e27 e28 (Nat.zero_le _) (Or.inl ⟨Nat.zero_le _, rfl, rfl⟩) (Nat.lt_succ_self _) _ _ _ hw (lv_sub hl [2, 3, 4, 5, 6, 1, 0] rfl)
  have hst_ : sr σ 0 (upd (σ 0) 9 (nI d)) = sr (sr (sr σ 27 (σ 27)) 28 (σ 28)) 0 (upd (σ 0) 9 (nI d)) := by
    funext j_ x_
    by_cases e0 : j_ = 0
    · subst e0
      by_cases y9 : x_ = 9
      · subst y9; rfl
      · simp [sr, upd, y9]
    · by_cases e27 : j_ = 27
      · subst e27; rfl
      · by_cases e28 : j_ = 28
        · subst e28; rfl
        · simp only [sr, e0, e27, e28, if_false]
  rw [hst_] at hw
  exact L12_0 _ 0 goal ((nI d) - 1) (σ 27) (σ 28) hgo.symm rfl (Nat.zero_le _) (fun i h1 h2 => by omega) (Nat.lt_succ_self _) _ _ _ hw (lv_sub hl [2, 3, 4, 1, 0] rfl)
