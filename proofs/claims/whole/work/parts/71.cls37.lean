theorem bst_why {E : St} {P : Nat → Int32} {nh nj j : Nat} : ∀ n, n < 2 ^ 31 → ¬ m_bst E P nh nj j n < 0 → m_why E P nh nj j (cN (m_bst E P nh nj j n)) = 0
  | 0, _, h => absurd (show m_bst E P nh nj j 0 < 0 from (by decide : (-3 : Int32) < 0)) h
  | n + 1, hn, h => by
    rw [m_bst] at h ⊢
    by_cases q : m_why E P nh nj j n = 0 ∧ (m_bst E P nh nj j n < 0 ∨ m_pts E P nj j (m_bst E P nh nj j n).toNatClampNeg < m_pts E P nj j n)
    · rw [if_pos q, show cN (nI n) = n from nI_clamp (by omega)]; exact q.1
    · rw [if_neg q] at h ⊢; exact bst_why n (by omega) h
theorem bst_no {E : St} {P : Nat → Int32} {nh nj j : Nat} : ∀ n, n < 2 ^ 31 → m_bst E P nh nj j n < 0 → ∀ x, x < n → ¬ m_why E P nh nj j x = 0
  | 0, _, _, _, hx => absurd hx (Nat.not_lt_zero _)
  | n + 1, hn, h, x, hx => by
    rw [m_bst] at h
    by_cases q : m_why E P nh nj j n = 0 ∧ (m_bst E P nh nj j n < 0 ∨ m_pts E P nj j (m_bst E P nh nj j n).toNatClampNeg < m_pts E P nj j n)
    · rw [if_pos q] at h; exact absurd h (nI_pos (by omega))
    · rw [if_neg q] at h
      by_cases e : x = n
      · subst e; exact fun z => q ⟨z, Or.inl h⟩
      · exact bst_no n (by omega) h x (by omega)
theorem p_b_y {v : Nat → Int32} {nh nj j : Nat} (n : Nat) (hn : n < 2 ^ 31) (h : ¬ (p_b v nh nj j n).1 < 0) : go_y v nh nj j (cN (p_b v nh nj j n).1) (go_T v nh nj j (cN (p_b v nh nj j n).1)) = 0 := by
  induction n with
  | zero => exact absurd (show (p_b v nh nj j 0).1 < 0 by rw [p_b]; decide) h
  | succ n ih =>
    have hc : p_b v nh nj j (n + 1) = p_b v nh nj j n ∨ ((p_b v nh nj j (n + 1)).1 = nI n ∧ go_y v nh nj j n (go_T v nh nj j n) = 0) := by
      rw [p_b]
      split
      · rename_i q; exact Or.inr ⟨rfl, q.1⟩
      · exact Or.inl rfl
    rcases hc with e | ⟨e, q⟩
    · rw [e] at h ⊢; exact ih (by omega) h
    · rw [e, show cN (nI n) = n from nI_clamp (by omega)]; exact q
theorem go_st0 {v : Nat → Int32} {nj j h t k : Nat} (h0 : eM v 11 k = 0) : eM (go_v v nj j h t) 11 k = 0 := by
  rcases go_v_at v nj j h (258 + k) t with ⟨x, x1, x2, x3⟩ | ⟨x1, x2⟩
  · exact x3
  · exact x2.trans h0
theorem go_up {v : Nat → Int32} {nh nj T j h : Nat} (hV : VI v nh nj T) (hh : h < nh) (hy : go_y v nh nj j h (go_T v nh nj j h) = 0) : eM (go_v v nj j h (go_T v nh nj j h)) 4 h = 1 :=
  cS.up1 (hV.go _ (Nat.le_refl _)).2.2.1 hh (why_up hy)
theorem gsz_eq {σ : St} {v : Nat → Int32} {nh nj : Nat} {group : Int32} (hX : JX σ v nj) (hA : agE σ (eM v) nh nj) : c_gsz σ group nj = m_gsz v group nj := sm_congr (fun k hk => by
  rw [(hX k hk).1, (hX k hk).2.2.1, (hA.2 k hk).2.2.1])
theorem CL.g {σ u : St} {v : Nat → Int32} {nh nj T : Nat} {stk : List (Nat → Int32)} (hC : CL σ v nh nj stk T) (ha : aE u σ) (h11 : u 11 = σ 11 ∧ u 12 = σ 12 ∧ u 13 = σ 13) (h02 : u 0 2 = σ 0 2) (hf : fr0 u σ) (h6 : u 16 = σ 16 ∧ u 17 = σ 17 ∧ u 18 = σ 18 ∧ u 19 = σ 19 ∧ u 20 = σ 20 ∧ u 21 = σ 21) : CL u v nh nj stk T :=
  hC.sm ha h11 h02 hf (by rw [h6.1, h6.2.1, h6.2.2.1, h6.2.2.2.1, h6.2.2.2.2.1, h6.2.2.2.2.2]; exact hC.2.2.1)
set_option maxHeartbeats 4000000 in
set_option maxRecDepth 100000 in
theorem tX10_place (l : Launch) (E : EV) (a : Nat → Nat) (σ : St) (nh : Nat) (nj : Nat) (v : Nat → Int32) (stk : List (Nat → Int32)) (T : Nat) (job : Int32) (hCL : CL σ v nh nj stk T) (hT : T < 2 ^ 29) : MI l E (XW E a) yX10_place (Cond.code yX10_place cX10_place 4 (some .int)) ({ frames := 5, cells := 0, slots := 0, locals := 124 }) [.ref (a 71), .int (job)] σ (fun r_ u_ => r_ = (o_place v nh nj job (σ 0 16)).1.1 ∧ CL u_ ((o_place v nh nj job (σ 0 16)).1.2.getD v) nh nj (nxS stk v (o_place v nh nj job (σ 0 16)).1.2) (T + 24) ∧ u_ 0 9 = σ 0 9 ∧ u_ 27 = σ 27 ∧ u_ 28 = σ 28 ∧ u_ 0 16 = (o_place v nh nj job (σ 0 16)).2) := by
  refine MI.mk (by decide +kernel) (Nat.le_of_ble_eq_true rfl) ?_
  intro p e s m args below meth c ls A Q hret hC hw hl
  have hC : Cxt E p s m args meth c cX10_place 4 (some .int) RX10 A := hC
  have hl : lv_has ls 4 [(0, .ref (a 71)), (1, .int (job))] := hl
  have hXR := hCL.1
  have hV := hCL.2.1
  have hFS := hCL.2.2.1
  have hRG := hCL.2.2.2.1
  have hSK := hCL.2.2.2.2
  have hN := hXR.1
  have hA := hXR.2.2.1
  have hX := hXR.2.2.2.1
  have hW := hV.1
  have hS : cS σ nh nj := cS.ag hA hV.2.2.1
  have hE : aE σ σ := aE.rf
  have hnh := hS.1
  have hnj := hS.2.1
  refine lv_aload_n hC.1 hC.2.1 dX10_place_0 rfl (lv_at hl 0 rfl) ?_
  refine gf_X10_19 hC hw dX10_place_1 ?_
  refine lv_iload_n hC.1 hC.2.1 dX10_place_4 rfl (lv_at hl 1 rfl) ?_
  refine q_callVp (As := [.int (job)]) (rest := []) (q0 := 7) hC hw hl (tX6_has l E a σ nh nj job (by first | assumption | omega)) (q_cwV hC.2.2.2.2.1 ⟨rfl, rfl⟩ wk2_232 wk2_205 wk2_206 wk1_3 wk2_207 hd_X6_has ⟨Nat.le_of_ble_eq_true rfl, Nat.le_of_ble_eq_true rfl⟩) rfl rfl rfl rfl rfl (Nat.le_of_ble_eq_true rfl) dX10_place_5 (fun H locs hw => ?_)
  refine q_ifne hC 13 cB dX10_place_8 (by decide) (fun (c4 : ¬ job < 0 ∧ job < nI nj) => ?_) (fun (c4 : ¬ (¬ job < 0 ∧ job < nI nj)) => ?_)
  · obtain ⟨jn, h_jn, rfl⟩ := in_nat (by omega) c4
    have z_jn := nI_clamp (show jn < 2 ^ 31 by omega)
    have y_jn : cN (nI jn) = jn := z_jn
    refine lv_aload_n hC.1 hC.2.1 dX10_place_13 rfl (lv_at hl 0 rfl) ?_
    refine gf_X10_19 hC hw dX10_place_14 ?_
    refine gf_X10_126 hC hw dX10_place_17 ?_
    refine lv_iload_n hC.1 hC.2.1 dX10_place_20 rfl (lv_at hl 1 rfl) ?_
    refine al_X11 (v := σ 11 jn) hC hw (by omega) rfl dX10_place_21 ?_
    refine q_ifne hC 38 cI dX10_place_22 (by decide) (fun (c5 : ¬ (σ 11 jn = 0)) => ?_) (fun (c5 : σ 11 jn = 0) => ?_)
    · refine lv_bipush (v := (-2)) hC.1 hC.2.1 dX10_place_38 (by decide) ?_
      refine hret _ _ _ _ _ _ hw ?_ rfl dX10_place_40
      have ho : o_place v nh nj (nI jn) (σ 0 16) = ((-2, none), σ 0 16) := by rw [o_place, if_pos c4, y_jn, if_neg (fun q => c5 ((hX jn (by omega)).2.2.1.trans q.1))]
      rw [ho]
      exact ⟨rfl, hCL.mono (by omega), rfl, rfl, rfl, rfl⟩
    · refine lv_aload_n hC.1 hC.2.1 dX10_place_25 rfl (lv_at hl 0 rfl) ?_
      refine gf_X10_19 hC hw dX10_place_26 ?_
      refine gf_X10_146 hC hw dX10_place_29 ?_
      refine lv_iload_n hC.1 hC.2.1 dX10_place_32 rfl (lv_at hl 1 rfl) ?_
      refine al_X5 (v := σ 5 jn) hC hw (by omega) rfl dX10_place_33 ?_
      refine lv_iconst (v := nI 2) hC.1 hC.2.1 dX10_place_34 (by decide) ?_
      refine q_cmpne hC 41 cI dX10_place_35 (by decide) (fun (c6 : ¬ (σ 5 jn = 2)) => ?_) (fun (c6 : σ 5 jn = 2) => ?_)
      · have hj0 : eM v 11 jn = 0 := (hX jn (by omega)).2.2.1.symm.trans c5
        have hcb := cb_eq hA hXR.2.2.2.2.2 hW h_jn hj0
        refine lv_aload_n hC.1 hC.2.1 dX10_place_41 rfl (lv_at hl 0 rfl) ?_
        refine gf_X10_32 hC hw dX10_place_42 ?_
        refine lv_iload_n hC.1 hC.2.1 dX10_place_45 rfl (lv_at hl 1 rfl) ?_
        refine q_callVp (As := [.int (nI jn)]) (rest := []) (q0 := 5) hC hw hl (tX4_bestHost l E a σ nh nj σ (pB (eM v) (-1)) jn hN hE hS hFS h_jn) (q_cwV hC.2.2.2.2.1 ⟨rfl, rfl⟩ wk3_32 wk3_33 wk3_34 wk1_4 wk3_35 hd_X4_bestHost ⟨Nat.le_of_ble_eq_true rfl, Nat.le_of_ble_eq_true rfl⟩) rfl rfl rfl rfl rfl (Nat.le_of_ble_eq_true rfl) dX10_place_46 (fun H locs hw => ?_)
        refine lv_istore_n (lv' := [(2, .int (m_cb σ (pB (eM v) (-1)) nh nj jn)), (0, .ref (a 71)), (1, .int (nI jn))]) hC.1 hC.2.1 dX10_place_49 rfl hl (by decide) rfl (fun ls hl => ?_)
        refine lv_iload_n hC.1 hC.2.1 dX10_place_50 rfl (lv_at hl 0 rfl) ?_
        refine lv_iconst (v := (-1)) hC.1 hC.2.1 dX10_place_51 (by decide) ?_
        have J60_11 : ∀ (w10 : Int32), w10 = (if (m_cb σ (pB (eM v) (-1)) nh nj jn) = (-1) then (1 : Int32) else 0) → ∀ (H : Heap) (locs : List Loc) (ls : Array Slot), Wst E (XW E a) (σ) A s.heap H locs → lv_has ls 4 [(0, .ref (a 71)), (1, .int (nI jn)), (2, .int (m_cb σ (pB (eM v) (-1)) nh nj jn))] → W p l e ({ frames := 5, cells := 0, slots := 0, locals := 124 }) s m args below meth c H locs 0 0 Q (F0 m 60 ls [.int (w10)]) := by
          intro w10 e11 H locs ls hw hl
          subst e11
          refine lv_istore_n (lv' := [(3, .int (if (m_cb σ (pB (eM v) (-1)) nh nj jn) = (-1) then (1 : Int32) else 0)), (0, .ref (a 71)), (1, .int (nI jn)), (2, .int (m_cb σ (pB (eM v) (-1)) nh nj jn))]) hC.1 hC.2.1 dX10_place_60 rfl hl (by decide) rfl (fun ls hl => ?_)
          refine lv_iload_n hC.1 hC.2.1 dX10_place_61 rfl (lv_at hl 0 rfl) ?_
          refine q_ifeq hC 74 cB dX10_place_62 (by decide) (fun (c12 : ¬ ((m_cb σ (pB (eM v) (-1)) nh nj jn) = (-1))) => ?_) (fun (c12 : (m_cb σ (pB (eM v) (-1)) nh nj jn) = (-1)) => ?_)
          · refine lv_iload_n hC.1 hC.2.1 dX10_place_74 rfl (lv_at hl 3 rfl) ?_
            refine lv_iconst (v := (-1)) hC.1 hC.2.1 dX10_place_75 (by decide) ?_
            refine q_cmpne hC 82 cI dX10_place_76 (by decide) (fun (c13 : ¬ ((m_cb σ (pB (eM v) (-1)) nh nj jn) = (-1))) => ?_) (fun (c13 : (m_cb σ (pB (eM v) (-1)) nh nj jn) = (-1)) => ?_)
            · have hX0 := hX
              have hV0 := hV
              have hcn := cb_n (E := σ) (P := (pB (eM v) (-1))) (nj := nj) (j := jn) hnh c13
              have hbn : ¬ m_bst (eM v) (pB (eM v) (nI jn)) nh nj jn nh < 0 := by rw [← hcb]; exact hcn.1
              have hcr : m_cb σ (pB (eM v) (-1)) nh nj jn = nI (cN (m_bst (eM v) (pB (eM v) (nI jn)) nh nj jn nh)) := by rw [← hcb]; exact hcn.2.1
              have hlb : cN (m_bst (eM v) (pB (eM v) (nI jn)) nh nj jn nh) < nh := by rw [← hcb]; exact hcn.2.2
              have hbw := bst_why nh (by omega) hbn
              have hCLm := hCL
              refine lv_aload_n hC.1 hC.2.1 dX10_place_82 rfl (lv_at hl 1 rfl) ?_
              refine gf_X10_39 hC hw dX10_place_83 ?_
              obtain ⟨nx9, hnx1, hnx2, hkp9, hk309, -⟩ := hCLm.2.2.2.1
              refine q_callVv (As := []) (rest := []) (q0 := 8) hC hw hl (tX7_keep_all l E a σ stk.length hkp9 hk309 nx9 hnx1 hnx2) (q_cwV hC.2.2.2.2.1 ⟨rfl, rfl⟩ wk2_178 wk2_179 wk2_180 wk1_5 wk2_181 hd_X7_keep ⟨Nat.le_of_ble_eq_true rfl, Nat.le_of_ble_eq_true rfl⟩) rfl rfl rfl rfl rfl (Nat.le_of_ble_eq_true rfl) dX10_place_86 (fun u16 H locs p14 hw => ?_)
              obtain ⟨hCLu16, hku16, hzu16⟩ := keep_CL hCLm hnx1 hnx2 p14
              have hXR := hCLu16.1
              have hV := hCLu16.2.1
              have hFS := hCLu16.2.2.1
              have hRG := hCLu16.2.2.2.1
              have hSK := hCLu16.2.2.2.2
              have hN := hXR.1
              have hA := hXR.2.2.1
              have hX := hXR.2.2.2.1
              have hW := hV.1
              have hS : cS u16 nh nj := cS.ag hA hV.2.2.1
              have hE : aE u16 u16 := aE.rf
              have hnh := hS.1
              have hnj := hS.2.1
              refine lv_aload_n hC.1 hC.2.1 dX10_place_89 rfl (lv_at hl 1 rfl) ?_
              refine lv_iload_n hC.1 hC.2.1 dX10_place_90 rfl (lv_at hl 0 rfl) ?_
              refine q_ifeq hC 103 cB dX10_place_91 (by decide) (fun (c17 : ¬ ((m_cb σ (pB (eM v) (-1)) nh nj jn) = (-1))) => ?_) (fun (c17 : (m_cb σ (pB (eM v) (-1)) nh nj jn) = (-1)) => ?_)
              · refine lv_iconst (v := nI 0) hC.1 hC.2.1 dX10_place_103 (by decide) ?_
                refine pf_X10_163 hC hw dX10_place_104 (fun H locs hw => ?_)
                have hw : Wst E (XW E a) (sr u16 0 (upd (u16 0) 16 (nI 0))) A s.heap H locs := hw
                have hCg := CL.g (u := sr u16 0 (upd (u16 0) 16 (nI 0))) hCLu16 ⟨rfl, rfl, rfl, rfl, rfl, rfl, rfl, rfl, rfl, rfl, rfl⟩ ⟨rfl, rfl, rfl⟩ rfl ⟨rfl, rfl, rfl, rfl, rfl, fun r hr => by rw [sr_n (by omega)]⟩ ⟨rfl, rfl, rfl, rfl, rfl, rfl⟩
                have hXR := hCg.1
                have hV := hCg.2.1
                have hFS := hCg.2.2.1
                have hRG := hCg.2.2.2.1
                have hSK := hCg.2.2.2.2
                have hN := hXR.1
                have hA := hXR.2.2.1
                have hX := hXR.2.2.2.1
                have hW := hV.1
                have hS : cS (sr u16 0 (upd (u16 0) 16 (nI 0))) nh nj := cS.ag hA hV.2.2.1
                have hE : aE (sr u16 0 (upd (u16 0) 16 (nI 0))) (sr u16 0 (upd (u16 0) 16 (nI 0))) := aE.rf
                have hnh := hS.1
                have hnj := hS.2.1
                refine lv_aload_n hC.1 hC.2.1 dX10_place_107 rfl (lv_at hl 1 rfl) ?_
                refine lv_iload_n hC.1 hC.2.1 dX10_place_108 rfl (lv_at hl 2 rfl) ?_
                refine lv_iload_n hC.1 hC.2.1 dX10_place_109 rfl (lv_at hl 3 rfl) ?_
                refine q_top (y := nI (cN (m_bst (eM v) (pB (eM v) (nI jn)) nh nj jn nh))) hcr ?_
                refine q_callVv (As := [.int (nI jn), .int (nI (cN (m_bst (eM v) (pB (eM v) (nI jn)) nh nj jn nh)))]) (rest := []) (q0 := 0) hC hw hl (tX10_seat l E a (sr u16 0 (upd (u16 0) 16 (nI 0))) nh nj (sr u16 0 (upd (u16 0) 16 (nI 0))) (pB (eM v) (-1)) jn (cN (m_bst (eM v) (pB (eM v) (nI jn)) nh nj jn nh)) hN ⟨rfl, rfl, rfl, rfl, rfl, rfl, rfl, rfl, rfl, rfl, rfl⟩ hS hFS h_jn hlb (pB_n1 hj0)) (q_cwV hC.2.2.2.2.1 ⟨rfl, rfl⟩ wk3_82 wk3_84 wks_1_7 wk1_1 wk3_85 hd_X10_seat ⟨Nat.le_of_ble_eq_true rfl, Nat.le_of_ble_eq_true rfl⟩) rfl rfl rfl rfl rfl (Nat.le_of_ble_eq_true rfl) dX10_place_110 (fun u20 H locs p18 hw => ?_)
                obtain ⟨b16_21, b17_22, b18_23, b19_24, b20_25, b21_26, hFu20, huu20⟩ := p18
                subst huu20
                have hst_ : sr (sr (sr (sr (sr (sr (sr (sr (sr (sr (sr u16 0 (upd (u16 0) 16 (nI 0))) 11 (upd ((sr u16 0 (upd (u16 0) 16 (nI 0))) 11) jn 1)) 12 (upd ((sr u16 0 (upd (u16 0) 16 (nI 0))) 12) jn (nI (cN (m_bst (eM v) (pB (eM v) (nI jn)) nh nj jn nh))))) 13 (upd ((sr u16 0 (upd (u16 0) 16 (nI 0))) 13) jn (((sr u16 0 (upd (u16 0) 16 (nI 0))) 0 2) + 1))) 16 b16_21) 17 b17_22) 18 b18_23) 19 b19_24) 20 b20_25) 21 b21_26) 0 (upd ((sr u16 0 (upd (u16 0) 16 (nI 0))) 0) 2 (((sr u16 0 (upd (u16 0) 16 (nI 0))) 0 2) + 1)) = sr (sr (sr (sr (sr (sr (sr (sr (sr (sr u16 11 (upd (u16 11) jn 1)) 12 (upd (u16 12) jn (nI (cN (m_bst (eM v) (pB (eM v) (nI jn)) nh nj jn nh))))) 13 (upd (u16 13) jn ((u16 0 2) + 1))) 16 (b16_21)) 17 (b17_22)) 18 (b18_23)) 19 (b19_24)) 20 (b20_25)) 21 (b21_26)) 0 (upd (upd (u16 0) 2 ((u16 0 2) + 1)) 16 (nI 0)) := by
                  funext j_ x_
                  by_cases e0 : j_ = 0
                  · subst e0
                    by_cases y2 : x_ = 2
                    · subst y2; rfl
                    · by_cases y16 : x_ = 16
                      · subst y16; rfl
                      · simp [sr, upd, y2, y16]
                  · by_cases e11 : j_ = 11
                    · subst e11; rfl
                    · by_cases e12 : j_ = 12
                      · subst e12; rfl
                      · by_cases e13 : j_ = 13
                        · subst e13; rfl
                        · by_cases e16 : j_ = 16
                          · subst e16; rfl
                          · by_cases e17 : j_ = 17
                            · subst e17; rfl
                            · by_cases e18 : j_ = 18
                              · subst e18; rfl
                              · by_cases e19 : j_ = 19
                                · subst e19; rfl
                                · by_cases e20 : j_ = 20
                                  · subst e20; rfl
                                  · by_cases e21 : j_ = 21
                                    · subst e21; rfl
                                    · simp only [sr, e0, e11, e12, e13, e16, e17, e18, e19, e20, e21, if_false]
                rw [hst_] at hw
                refine lv_iload_n hC.1 hC.2.1 dX10_place_113 rfl (lv_at hl 3 rfl) ?_
                refine hret _ _ _ _ _ _ hw ?_ rfl dX10_place_114
                have hCs := CL.std (σ := sr u16 0 (upd (u16 0) 16 (nI 0))) (u := sr (sr (sr (sr (sr (sr (sr (sr (sr (sr u16 11 (upd (u16 11) jn 1)) 12 (upd (u16 12) jn (nI (cN (m_bst (eM v) (pB (eM v) (nI jn)) nh nj jn nh))))) 13 (upd (u16 13) jn ((u16 0 2) + 1))) 16 (b16_21)) 17 (b17_22)) 18 (b18_23)) 19 (b19_24)) 20 (b20_25)) 21 (b21_26)) 0 (upd (upd (u16 0) 2 ((u16 0 2) + 1)) 16 (nI 0))) hCg h_jn hlb (cS.up1 hV0.2.2.1 hlb (why_up hbw)) (by omega) ⟨rfl, rfl, rfl, rfl, rfl, rfl, rfl, rfl, rfl, rfl, rfl⟩ ⟨rfl, rfl, rfl, rfl, rfl, fun r hr => by rw [sr_n (by omega), sr_n (by omega), sr_n (by omega), sr_n (by omega), sr_n (by omega), sr_n (by omega), sr_n (by omega), sr_n (by omega), sr_n (by omega), sr_n (by omega), sr_n (by omega)]⟩ rfl rfl rfl rfl (FSr.aE (σ := sr u16 0 (upd (u16 0) 16 (nI 0))) ⟨rfl, rfl, rfl, rfl, rfl, rfl, rfl, rfl, rfl, rfl, rfl⟩ hFu20)
                have ho : o_place v nh nj (nI jn) (σ 0 16) = ((m_bst (eM v) (pB (eM v) (nI jn)) nh nj jn nh, some (f_std v jn (cN (m_bst (eM v) (pB (eM v) (nI jn)) nh nj jn nh)))), 0) := by rw [o_place, if_pos c4, y_jn, if_pos ⟨hj0, fun q => c6 ((hX0 jn (by omega)).1.trans q)⟩, if_neg hbn]
                rw [ho]
                exact ⟨hcr.trans (m_bst_nat (show nh < 2 ^ 31 by omega) hbn).1.symm, hCs.mono (by omega), ⟨hzu16 9 (by decide) (by decide), hku16 27 (by decide) (by decide), hku16 28 (by decide) (by decide), rfl⟩⟩
              · exact absurd c17 c12
            · exact absurd c13 c12
          · have hcb1 : m_bst (eM v) (pB (eM v) (nI jn)) nh nj jn nh < 0 := by rw [← hcb]; exact cb_1 hnh c12
            have hno : ∀ x, x < nh → ¬ go_y v nh nj jn x 0 = 0 := bst_no nh (by omega) hcb1
            refine lv_aload_n hC.1 hC.2.1 dX10_place_65 rfl (lv_at hl 1 rfl) ?_
            refine gf_X10_48 hC hw dX10_place_66 ?_
            refine lv_iload_n hC.1 hC.2.1 dX10_place_69 rfl (lv_at hl 2 rfl) ?_
            refine q_callV (As := [.int (nI jn)]) (rest := []) (q0 := 2) hC hw hl (tX1_bestHost l E a σ nh nj σ v jn hN hE hS hFS hX hA hW hV.2.2.2.2.2.2.2.1 hV.2.2.2.2.1 h_jn hj0 hno) (q_cwV hC.2.2.2.2.1 ⟨rfl, rfl⟩ wk3_42 wk3_43 wk3_44 wk1_6 wk3_45 hd_X1_bestHost ⟨Nat.le_of_ble_eq_true rfl, Nat.le_of_ble_eq_true rfl⟩) rfl rfl rfl rfl rfl (Nat.le_of_ble_eq_true rfl) dX10_place_70 (fun r28 u29 H locs p27 hw => ?_)
            obtain ⟨b16_30, b17_31, b18_32, b19_33, b20_34, b21_35, b22_36, z5_37, hFu29, hru29, huu29⟩ := p27
            subst huu29
            refine lv_istore_n (lv' := [(2, .int (r28)), (3, .int (if (m_cb σ (pB (eM v) (-1)) nh nj jn) = (-1) then (1 : Int32) else 0)), (0, .ref (a 71)), (1, .int (nI jn))]) hC.1 hC.2.1 dX10_place_73 rfl hl (by decide) rfl (fun ls hl => ?_)
            refine lv_iload_n hC.1 hC.2.1 dX10_place_74 rfl (lv_at hl 0 rfl) ?_
            refine lv_iconst (v := (-1)) hC.1 hC.2.1 dX10_place_75 (by decide) ?_
            refine q_cmpne hC 82 cI dX10_place_76 (by decide) (fun (c38 : ¬ (r28 = (-1))) => ?_) (fun (c38 : r28 = (-1)) => ?_)
            · have hX0 := hX
              have hV0 := hV
              have hk3 : ¬ eM v 5 jn = 3 := fun q => c38 (by rw [hru29, if_pos q])
              have hpn : ¬ (p_b v nh nj jn nh).1 < 0 := fun q => c38 (by rw [hru29, if_neg hk3, if_pos q])
              have hpb := p_b_nat (show nh < 2 ^ 31 by omega) hpn
              have hrb : r28 = nI (cN (p_b v nh nj jn nh).1) := by rw [hru29, if_neg hk3, if_neg hpn]; exact hpb.1
              have hlb : (cN (p_b v nh nj jn nh).1) < nh := hpb.2
              have hgy := p_b_y nh (by omega) hpn
              have hCLm := (CL.sm (u := sr (sr (sr (sr (sr (sr (sr (sr σ 16 (b16_30)) 17 (b17_31)) 18 (b18_32)) 19 (b19_33)) 20 (b20_34)) 21 (b21_35)) 22 (b22_36)) 0 (upd (σ 0) 5 (z5_37))) hCL ⟨rfl, rfl, rfl, rfl, rfl, rfl, rfl, rfl, rfl, rfl, rfl⟩ ⟨rfl, rfl, rfl⟩ rfl ⟨rfl, rfl, rfl, rfl, rfl, (fun r hr => by rw [sr_n (by omega), sr_n (by omega), sr_n (by omega), sr_n (by omega), sr_n (by omega), sr_n (by omega), sr_n (by omega), sr_n (by omega)])⟩ hFu29)
              refine lv_aload_n hC.1 hC.2.1 dX10_place_82 rfl (lv_at hl 2 rfl) ?_
              refine gf_X10_39 hC hw dX10_place_83 ?_
              obtain ⟨nx9, hnx1, hnx2, hkp9, hk309, -⟩ := hCLm.2.2.2.1
              refine q_callVv (As := []) (rest := []) (q0 := 8) hC hw hl (tX7_keep_all l E a (sr (sr (sr (sr (sr (sr (sr (sr σ 16 (b16_30)) 17 (b17_31)) 18 (b18_32)) 19 (b19_33)) 20 (b20_34)) 21 (b21_35)) 22 (b22_36)) 0 (upd (σ 0) 5 (z5_37))) stk.length hkp9 hk309 nx9 hnx1 hnx2) (q_cwV hC.2.2.2.2.1 ⟨rfl, rfl⟩ wk2_178 wk2_179 wk2_180 wk1_5 wk2_181 hd_X7_keep ⟨Nat.le_of_ble_eq_true rfl, Nat.le_of_ble_eq_true rfl⟩) rfl rfl rfl rfl rfl (Nat.le_of_ble_eq_true rfl) dX10_place_86 (fun u41 H locs p39 hw => ?_)
              obtain ⟨hCLu41, hku41, hzu41⟩ := keep_CL hCLm hnx1 hnx2 p39
              have hXR := hCLu41.1
              have hV := hCLu41.2.1
              have hFS := hCLu41.2.2.1
              have hRG := hCLu41.2.2.2.1
              have hSK := hCLu41.2.2.2.2
              have hN := hXR.1
              have hA := hXR.2.2.1
              have hX := hXR.2.2.2.1
              have hW := hV.1
              have hS : cS u41 nh nj := cS.ag hA hV.2.2.1
              have hE : aE u41 u41 := aE.rf
              have hnh := hS.1
              have hnj := hS.2.1
              refine lv_aload_n hC.1 hC.2.1 dX10_place_89 rfl (lv_at hl 2 rfl) ?_
              refine lv_iload_n hC.1 hC.2.1 dX10_place_90 rfl (lv_at hl 1 rfl) ?_
              refine q_ifeq hC 103 cB dX10_place_91 (by decide) (fun (c42 : ¬ ((m_cb σ (pB (eM v) (-1)) nh nj jn) = (-1))) => ?_) (fun (c42 : (m_cb σ (pB (eM v) (-1)) nh nj jn) = (-1)) => ?_)
              · exact absurd c12 c42
              · refine lv_aload_n hC.1 hC.2.1 dX10_place_94 rfl (lv_at hl 2 rfl) ?_
                refine lv_iload_n hC.1 hC.2.1 dX10_place_95 rfl (lv_at hl 3 rfl) ?_
                refine lv_iload_n hC.1 hC.2.1 dX10_place_96 rfl (lv_at hl 0 rfl) ?_
                refine q_top (y := nI (cN (p_b v nh nj jn nh).1)) hrb ?_
                refine q_callV (As := [.int (nI jn), .int (nI (cN (p_b v nh nj jn nh).1))]) (rest := [.ref (a 71)]) (q0 := 0) hC hw hl (tX10_sendAway l E a u41 nh nj v (push30 stk v) T jn (cN (p_b v nh nj jn nh).1) hCLu41 h_jn hlb hj0) (q_cwV hC.2.2.2.2.1 ⟨rfl, rfl⟩ wk3_76 wk3_78 wks_1_6 wk1_1 wk3_79 hd_X10_sendAway ⟨Nat.le_of_ble_eq_true rfl, Nat.le_of_ble_eq_true rfl⟩) rfl rfl rfl rfl rfl (Nat.le_of_ble_eq_true rfl) dX10_place_97 (fun r44 u45 H locs p43 hw => ?_)
                obtain ⟨hru45, hCLu45, hq9u45, hq27u45, hq28u45, hq16u45⟩ := p43
                subst hru45
                refine lv_goto (tgt := 104) hC.1 hC.2.1 dX10_place_100 (by decide) ?_
                refine pf_X10_163 hC hw dX10_place_104 (fun H locs hw => ?_)
                have hw : Wst E (XW E a) (sr u45 0 (upd (u45 0) 16 (nI (go_T v nh nj jn (cN (p_b v nh nj jn nh).1))))) A s.heap H locs := hw
                have hCg := CL.g (u := sr u45 0 (upd (u45 0) 16 (nI (go_T v nh nj jn (cN (p_b v nh nj jn nh).1))))) hCLu45 ⟨rfl, rfl, rfl, rfl, rfl, rfl, rfl, rfl, rfl, rfl, rfl⟩ ⟨rfl, rfl, rfl⟩ rfl ⟨rfl, rfl, rfl, rfl, rfl, fun r hr => by rw [sr_n (by omega)]⟩ ⟨rfl, rfl, rfl, rfl, rfl, rfl⟩
                have hXR := hCg.1
                have hV := hCg.2.1
                have hFS := hCg.2.2.1
                have hRG := hCg.2.2.2.1
                have hSK := hCg.2.2.2.2
                have hN := hXR.1
                have hA := hXR.2.2.1
                have hX := hXR.2.2.2.1
                have hW := hV.1
                have hS : cS (sr u45 0 (upd (u45 0) 16 (nI (go_T v nh nj jn (cN (p_b v nh nj jn nh).1))))) nh nj := cS.ag hA hV.2.2.1
                have hE : aE (sr u45 0 (upd (u45 0) 16 (nI (go_T v nh nj jn (cN (p_b v nh nj jn nh).1))))) (sr u45 0 (upd (u45 0) 16 (nI (go_T v nh nj jn (cN (p_b v nh nj jn nh).1))))) := aE.rf
                have hnh := hS.1
                have hnj := hS.2.1
                refine lv_aload_n hC.1 hC.2.1 dX10_place_107 rfl (lv_at hl 2 rfl) ?_
                refine lv_iload_n hC.1 hC.2.1 dX10_place_108 rfl (lv_at hl 3 rfl) ?_
                refine lv_iload_n hC.1 hC.2.1 dX10_place_109 rfl (lv_at hl 0 rfl) ?_
                refine q_top (y := nI (cN (p_b v nh nj jn nh).1)) hrb ?_
                refine q_callVv (As := [.int (nI jn), .int (nI (cN (p_b v nh nj jn nh).1))]) (rest := []) (q0 := 0) hC hw hl (tX10_seat l E a (sr u45 0 (upd (u45 0) 16 (nI (go_T v nh nj jn (cN (p_b v nh nj jn nh).1))))) nh nj (sr u45 0 (upd (u45 0) 16 (nI (go_T v nh nj jn (cN (p_b v nh nj jn nh).1))))) (pB (eM (go_v v nj jn (cN (p_b v nh nj jn nh).1) (go_T v nh nj jn (cN (p_b v nh nj jn nh).1)))) (-1)) jn (cN (p_b v nh nj jn nh).1) hN ⟨rfl, rfl, rfl, rfl, rfl, rfl, rfl, rfl, rfl, rfl, rfl⟩ hS hFS h_jn hlb (pB_n1 (go_st0 hj0))) (q_cwV hC.2.2.2.2.1 ⟨rfl, rfl⟩ wk3_82 wk3_84 wks_1_7 wk1_1 wk3_85 hd_X10_seat ⟨Nat.le_of_ble_eq_true rfl, Nat.le_of_ble_eq_true rfl⟩) rfl rfl rfl rfl rfl (Nat.le_of_ble_eq_true rfl) dX10_place_110 (fun u48 H locs p46 hw => ?_)
                obtain ⟨b16_49, b17_50, b18_51, b19_52, b20_53, b21_54, hFu48, huu48⟩ := p46
                subst huu48
                have hst_ : sr (sr (sr (sr (sr (sr (sr (sr (sr (sr (sr u45 0 (upd (u45 0) 16 (nI (go_T v nh nj jn (cN (p_b v nh nj jn nh).1))))) 11 (upd ((sr u45 0 (upd (u45 0) 16 (nI (go_T v nh nj jn (cN (p_b v nh nj jn nh).1))))) 11) jn 1)) 12 (upd ((sr u45 0 (upd (u45 0) 16 (nI (go_T v nh nj jn (cN (p_b v nh nj jn nh).1))))) 12) jn (nI (cN (p_b v nh nj jn nh).1)))) 13 (upd ((sr u45 0 (upd (u45 0) 16 (nI (go_T v nh nj jn (cN (p_b v nh nj jn nh).1))))) 13) jn (((sr u45 0 (upd (u45 0) 16 (nI (go_T v nh nj jn (cN (p_b v nh nj jn nh).1))))) 0 2) + 1))) 16 b16_49) 17 b17_50) 18 b18_51) 19 b19_52) 20 b20_53) 21 b21_54) 0 (upd ((sr u45 0 (upd (u45 0) 16 (nI (go_T v nh nj jn (cN (p_b v nh nj jn nh).1))))) 0) 2 (((sr u45 0 (upd (u45 0) 16 (nI (go_T v nh nj jn (cN (p_b v nh nj jn nh).1))))) 0 2) + 1)) = sr (sr (sr (sr (sr (sr (sr (sr (sr (sr u45 11 (upd (u45 11) jn 1)) 12 (upd (u45 12) jn (nI (cN (p_b v nh nj jn nh).1)))) 13 (upd (u45 13) jn ((u45 0 2) + 1))) 16 (b16_49)) 17 (b17_50)) 18 (b18_51)) 19 (b19_52)) 20 (b20_53)) 21 (b21_54)) 0 (upd (upd (u45 0) 2 ((u45 0 2) + 1)) 16 (nI (go_T v nh nj jn (cN (p_b v nh nj jn nh).1)))) := by
                  funext j_ x_
                  by_cases e0 : j_ = 0
                  · subst e0
                    by_cases y2 : x_ = 2
                    · subst y2; rfl
                    · by_cases y16 : x_ = 16
                      · subst y16; rfl
                      · simp [sr, upd, y2, y16]
                  · by_cases e11 : j_ = 11
                    · subst e11; rfl
                    · by_cases e12 : j_ = 12
                      · subst e12; rfl
                      · by_cases e13 : j_ = 13
                        · subst e13; rfl
                        · by_cases e16 : j_ = 16
                          · subst e16; rfl
                          · by_cases e17 : j_ = 17
                            · subst e17; rfl
                            · by_cases e18 : j_ = 18
                              · subst e18; rfl
                              · by_cases e19 : j_ = 19
                                · subst e19; rfl
                                · by_cases e20 : j_ = 20
                                  · subst e20; rfl
                                  · by_cases e21 : j_ = 21
                                    · subst e21; rfl
                                    · simp only [sr, e0, e11, e12, e13, e16, e17, e18, e19, e20, e21, if_false]
                rw [hst_] at hw
                refine lv_iload_n hC.1 hC.2.1 dX10_place_113 rfl (lv_at hl 0 rfl) ?_
                refine hret _ _ _ _ _ _ hw ?_ rfl dX10_place_114
                have hCs := CL.std (σ := sr u45 0 (upd (u45 0) 16 (nI (go_T v nh nj jn (cN (p_b v nh nj jn nh).1))))) (u := sr (sr (sr (sr (sr (sr (sr (sr (sr (sr u45 11 (upd (u45 11) jn 1)) 12 (upd (u45 12) jn (nI (cN (p_b v nh nj jn nh).1)))) 13 (upd (u45 13) jn ((u45 0 2) + 1))) 16 (b16_49)) 17 (b17_50)) 18 (b18_51)) 19 (b19_52)) 20 (b20_53)) 21 (b21_54)) 0 (upd (upd (u45 0) 2 ((u45 0 2) + 1)) 16 (nI (go_T v nh nj jn (cN (p_b v nh nj jn nh).1))))) hCg h_jn hlb (go_up hV0 hlb hgy) (by omega) ⟨rfl, rfl, rfl, rfl, rfl, rfl, rfl, rfl, rfl, rfl, rfl⟩ ⟨rfl, rfl, rfl, rfl, rfl, fun r hr => by rw [sr_n (by omega), sr_n (by omega), sr_n (by omega), sr_n (by omega), sr_n (by omega), sr_n (by omega), sr_n (by omega), sr_n (by omega), sr_n (by omega), sr_n (by omega), sr_n (by omega)]⟩ rfl rfl rfl rfl (FSr.aE (σ := sr u45 0 (upd (u45 0) 16 (nI (go_T v nh nj jn (cN (p_b v nh nj jn nh).1))))) ⟨rfl, rfl, rfl, rfl, rfl, rfl, rfl, rfl, rfl, rfl, rfl⟩ hFu48)
                have ho : o_place v nh nj (nI jn) (σ 0 16) = (((p_b v nh nj jn nh).1, some (f_std (go_v v nj jn (cN (p_b v nh nj jn nh).1) (go_T v nh nj jn (cN (p_b v nh nj jn nh).1))) jn (cN (p_b v nh nj jn nh).1))), nI (go_T v nh nj jn (cN (p_b v nh nj jn nh).1))) := by rw [o_place, if_pos c4, y_jn, if_pos ⟨hj0, fun q => c6 ((hX0 jn (by omega)).1.trans q)⟩, if_pos hcb1, if_neg (fun q => q.elim hk3 hpn)]
                rw [ho]
                exact ⟨hru29.trans (by rw [if_neg hk3, if_neg hpn]), hCs.mono (by omega), ⟨hq9u45.trans (hzu41 9 (by decide) (by decide)), hq27u45.trans (hku41 27 (by decide) (by decide)), hq28u45.trans (hku41 28 (by decide) (by decide)), rfl⟩⟩
            · refine lv_bipush (v := (-3)) hC.1 hC.2.1 dX10_place_79 (by decide) ?_
              refine hret _ _ _ _ _ _ hw ?_ rfl dX10_place_81
              have h3 : eM v 5 jn = 3 ∨ (p_b v nh nj jn nh).1 < 0 := Classical.byContradiction fun z => by
                have hk3 : ¬ eM v 5 jn = 3 := fun q => z (Or.inl q)
                have hpn : ¬ (p_b v nh nj jn nh).1 < 0 := fun q => z (Or.inr q)
                have hpb := p_b_nat (show nh < 2 ^ 31 by omega) hpn
                have e : r28 = nI (cN (p_b v nh nj jn nh).1) := by rw [hru29, if_neg hk3, if_neg hpn]; exact hpb.1
                exact nI_nm1 (show (cN (p_b v nh nj jn nh).1) < 2 ^ 31 from Nat.lt_trans hpb.2 (by omega)) (c38.symm.trans e)
              have ho : o_place v nh nj (nI jn) (σ 0 16) = ((-3, none), σ 0 16) := by rw [o_place, if_pos c4, y_jn, if_pos ⟨hj0, fun q => c6 ((hX jn (by omega)).1.trans q)⟩, if_pos hcb1, if_pos h3]
              rw [ho]
              exact ⟨rfl, (CL.sm (u := sr (sr (sr (sr (sr (sr (sr (sr σ 16 (b16_30)) 17 (b17_31)) 18 (b18_32)) 19 (b19_33)) 20 (b20_34)) 21 (b21_35)) 22 (b22_36)) 0 (upd (σ 0) 5 (z5_37))) hCL ⟨rfl, rfl, rfl, rfl, rfl, rfl, rfl, rfl, rfl, rfl, rfl⟩ ⟨rfl, rfl, rfl⟩ rfl ⟨rfl, rfl, rfl, rfl, rfl, (fun r hr => by rw [sr_n (by omega), sr_n (by omega), sr_n (by omega), sr_n (by omega), sr_n (by omega), sr_n (by omega), sr_n (by omega), sr_n (by omega)])⟩ hFu29).mono (by omega), rfl, rfl, rfl, rfl⟩
        refine q_cmpne hC 59 cI dX10_place_52 (by decide) (fun (c55 : ¬ ((m_cb σ (pB (eM v) (-1)) nh nj jn) = (-1))) => ?_) (fun (c55 : (m_cb σ (pB (eM v) (-1)) nh nj jn) = (-1)) => ?_)
        · refine lv_iconst (v := nI 0) hC.1 hC.2.1 dX10_place_59 (by decide) ?_
          exact J60_11 _ (if_neg c55).symm _ _ _ hw (lv_sub hl [1, 2, 0] rfl)
        · refine lv_iconst (v := nI 1) hC.1 hC.2.1 dX10_place_55 (by decide) ?_
          refine lv_goto (tgt := 60) hC.1 hC.2.1 dX10_place_56 (by decide) ?_
          exact J60_11 _ (if_pos c55).symm _ _ _ hw (lv_sub hl [1, 2, 0] rfl)
      · refine lv_bipush (v := (-2)) hC.1 hC.2.1 dX10_place_38 (by decide) ?_
        refine hret _ _ _ _ _ _ hw ?_ rfl dX10_place_40
        have ho : o_place v nh nj (nI jn) (σ 0 16) = ((-2, none), σ 0 16) := by rw [o_place, if_pos c4, y_jn, if_neg (fun q => q.2 ((hX jn (by omega)).1.symm.trans c6))]
        rw [ho]
        exact ⟨rfl, hCL.mono (by omega), rfl, rfl, rfl, rfl⟩
  · refine lv_iconst (v := (-1)) hC.1 hC.2.1 dX10_place_11 (by decide) ?_
    refine hret _ _ _ _ _ _ hw ?_ rfl dX10_place_12
    have ho : o_place v nh nj job (σ 0 16) = ((-1, none), σ 0 16) := by rw [o_place, if_neg c4]
    rw [ho]
    exact ⟨rfl, hCL.mono (by omega), rfl, rfl, rfl, rfl⟩
set_option maxHeartbeats 4000000 in
set_option maxRecDepth 100000 in
theorem tX10_gang (l : Launch) (E : EV) (a : Nat → Nat) (σ : St) (nh : Nat) (nj : Nat) (v : Nat → Int32) (stk : List (Nat → Int32)) (T : Nat) (group : Int32) (hCL : CL σ v nh nj stk T) (hT : T < 2 ^ 29) : MI l E (XW E a) yX10_gang (Cond.code yX10_gang cX10_gang 5 (some .int)) ({ frames := 5, cells := 0, slots := 0, locals := 121 }) [.ref (a 71), .int (group)] σ (fun r_ u_ => r_ = (o_gang v nh nj group).1 ∧ CL u_ ((o_gang v nh nj group).2.getD v) nh nj (nxS stk v (o_gang v nh nj group).2) (T + 24) ∧ keepX σ u_) := by
  refine MI.mk (by decide +kernel) (Nat.le_of_ble_eq_true rfl) ?_
  intro p e s m args below meth c ls A Q hret hC hw hl
  have hC : Cxt E p s m args meth c cX10_gang 5 (some .int) RX10 A := hC
  have hl : lv_has ls 5 [(0, .ref (a 71)), (1, .int (group))] := hl
  have hXR := hCL.1
  have hV := hCL.2.1
  have hFS := hCL.2.2.1
  have hRG := hCL.2.2.2.1
  have hSK := hCL.2.2.2.2
  have hN := hXR.1
  have hA := hXR.2.2.1
  have hX := hXR.2.2.2.1
  have hW := hV.1
  have hS : cS σ nh nj := cS.ag hA hV.2.2.1
  have hE : aE σ σ := aE.rf
  have hnh := hS.1
  have hnj := hS.2.1
  refine lv_iload_n hC.1 hC.2.1 dX10_gang_0 rfl (lv_at hl 1 rfl) ?_
  refine lv_bipush (v := nI 8) hC.1 hC.2.1 dX10_gang_1 (by decide) ?_
  refine q_callSp (As := [.int (group), .int (nI 8)]) (rest := []) hC hw hl (tX10_isBelow l E a σ group 8) (q_cwS hC.2.2.2.2.1 ⟨rfl, rfl⟩ wk2_175 wk2_176 wk1_1 wk2_177 hd_X10_isBelow.2 ⟨Nat.le_of_ble_eq_true rfl, Nat.le_of_ble_eq_true rfl⟩) rfl rfl (Nat.le_of_ble_eq_true rfl) dX10_gang_3 (fun H locs hw => ?_)
  refine q_ifne hC 11 cB dX10_gang_6 (by decide) (fun (c4 : ¬ group < 0 ∧ group < 8) => ?_) (fun (c4 : ¬ (¬ group < 0 ∧ group < 8)) => ?_)
  · refine lv_aload_n hC.1 hC.2.1 dX10_gang_11 rfl (lv_at hl 0 rfl) ?_
    refine lv_iload_n hC.1 hC.2.1 dX10_gang_12 rfl (lv_at hl 1 rfl) ?_
    refine q_callVp (As := [.int (group)]) (rest := []) (q0 := 0) hC hw hl (tX10_gangSize l E a σ nh nj group hN hnh hnj) (q_cwV hC.2.2.2.2.1 ⟨rfl, rfl⟩ wk3_99 wk3_101 wks_1_8 wk1_1 wk3_102 hd_X10_gangSize ⟨Nat.le_of_ble_eq_true rfl, Nat.le_of_ble_eq_true rfl⟩) rfl rfl rfl rfl rfl (Nat.le_of_ble_eq_true rfl) dX10_gang_13 (fun H locs hw => ?_)
    refine lv_istore_n (lv' := [(2, .int (c_gsz σ group nj)), (0, .ref (a 71)), (1, .int (group))]) hC.1 hC.2.1 dX10_gang_16 rfl hl (by decide) rfl (fun ls hl => ?_)
    refine lv_iload_n hC.1 hC.2.1 dX10_gang_17 rfl (lv_at hl 0 rfl) ?_
    refine q_ifne hC 24 cI dX10_gang_18 (by decide) (fun (c8 : ¬ (c_gsz σ group nj = 0)) => ?_) (fun (c8 : c_gsz σ group nj = 0) => ?_)
    · have hgs := gsz_eq (group := group) hX hA
      refine lv_aload_n hC.1 hC.2.1 dX10_gang_24 rfl (lv_at hl 1 rfl) ?_
      refine lv_iload_n hC.1 hC.2.1 dX10_gang_25 rfl (lv_at hl 2 rfl) ?_
      refine q_callV (As := [.int (group)]) (rest := []) (q0 := 0) hC hw hl (tX10_fitGang l E a σ nh nj v stk T group hCL) (q_cwV hC.2.2.2.2.1 ⟨rfl, rfl⟩ wk3_107 wk3_109 wks_1_10 wk1_1 wk3_110 hd_X10_fitGang ⟨Nat.le_of_ble_eq_true rfl, Nat.le_of_ble_eq_true rfl⟩) rfl rfl rfl rfl rfl (Nat.le_of_ble_eq_true rfl) dX10_gang_26 (fun r10 u11 H locs p9 hw => ?_)
      obtain ⟨b16_12, b17_13, b18_14, b19_15, b20_16, b21_17, hru11, huu11⟩ := p9
      subst huu11 hru11
      refine lv_istore_n (lv' := [(3, .int (if (g_run v group nh nj nj).2 = true then (1 : Int32) else 0)), (2, .int (c_gsz σ group nj)), (0, .ref (a 71)), (1, .int (group))]) hC.1 hC.2.1 dX10_gang_29 rfl hl (by decide) rfl (fun ls hl => ?_)
      refine lv_aload_n hC.1 hC.2.1 dX10_gang_30 rfl (lv_at hl 2 rfl) ?_
      refine gf_X10_32 hC hw dX10_gang_31 ?_
      refine q_callVv (As := []) (rest := []) (q0 := 5) hC hw hl (tX4_recount l E a (sr (sr (sr (sr (sr (sr σ 16 (b16_12)) 17 (b17_13)) 18 (b18_14)) 19 (b19_15)) 20 (b20_16)) 21 (b21_17)) nh nj σ (pB (eM v) (-1)) hN ⟨rfl, rfl, rfl, rfl, rfl, rfl, rfl, rfl, rfl, rfl, rfl⟩ hS (fun x hx => (hX.PL hW) x hx)) (q_cwV hC.2.2.2.2.1 ⟨rfl, rfl⟩ wk2_192 wk2_193 wk2_194 wk1_4 wk2_195 hd_X4_recount ⟨Nat.le_of_ble_eq_true rfl, Nat.le_of_ble_eq_true rfl⟩) rfl rfl rfl rfl rfl (Nat.le_of_ble_eq_true rfl) dX10_gang_34 (fun u20 H locs p18 hw => ?_)
      obtain ⟨b16_21, b17_22, b18_23, b19_24, b20_25, b21_26, hFu20, huu20⟩ := p18
      subst huu20
      have hst_ : sr (sr (sr (sr (sr (sr (sr (sr (sr (sr (sr (sr σ 16 (b16_12)) 17 (b17_13)) 18 (b18_14)) 19 (b19_15)) 20 (b20_16)) 21 (b21_17)) 16 b16_21) 17 b17_22) 18 b18_23) 19 b19_24) 20 b20_25) 21 b21_26 = sr (sr (sr (sr (sr (sr σ 16 (b16_21)) 17 (b17_22)) 18 (b18_23)) 19 (b19_24)) 20 (b20_25)) 21 (b21_26) := by
        funext j_ x_
        by_cases e0 : j_ = 0
        · subst e0
          rfl
        · by_cases e16 : j_ = 16
          · subst e16; rfl
          · by_cases e17 : j_ = 17
            · subst e17; rfl
            · by_cases e18 : j_ = 18
              · subst e18; rfl
              · by_cases e19 : j_ = 19
                · subst e19; rfl
                · by_cases e20 : j_ = 20
                  · subst e20; rfl
                  · by_cases e21 : j_ = 21
                    · subst e21; rfl
                    · simp only [sr, e0, e16, e17, e18, e19, e20, e21, if_false]
      rw [hst_] at hw
      refine lv_iload_n hC.1 hC.2.1 dX10_gang_37 rfl (lv_at hl 0 rfl) ?_
      refine q_ifne hC 44 cB dX10_gang_38 (by decide) (fun (c27 : (g_run v group nh nj nj).2 = true) => ?_) (fun (c27 : ¬ ((g_run v group nh nj nj).2 = true)) => ?_)
      · have hall : (g_run v group nh nj nj).2 = true := c27
        have hCLm := (CL.sm (u := sr (sr (sr (sr (sr (sr σ 16 (b16_21)) 17 (b17_22)) 18 (b18_23)) 19 (b19_24)) 20 (b20_25)) 21 (b21_26)) hCL ⟨rfl, rfl, rfl, rfl, rfl, rfl, rfl, rfl, rfl, rfl, rfl⟩ ⟨rfl, rfl, rfl⟩ rfl ⟨rfl, rfl, rfl, rfl, rfl, (fun r hr => by rw [sr_n (by omega), sr_n (by omega), sr_n (by omega), sr_n (by omega), sr_n (by omega), sr_n (by omega)])⟩ hFu20)
        refine lv_aload_n hC.1 hC.2.1 dX10_gang_44 rfl (lv_at hl 2 rfl) ?_
        refine gf_X10_39 hC hw dX10_gang_45 ?_
        obtain ⟨nx9, hnx1, hnx2, hkp9, hk309, -⟩ := hCLm.2.2.2.1
        refine q_callVv (As := []) (rest := []) (q0 := 8) hC hw hl (tX7_keep_all l E a (sr (sr (sr (sr (sr (sr σ 16 (b16_21)) 17 (b17_22)) 18 (b18_23)) 19 (b19_24)) 20 (b20_25)) 21 (b21_26)) stk.length hkp9 hk309 nx9 hnx1 hnx2) (q_cwV hC.2.2.2.2.1 ⟨rfl, rfl⟩ wk2_178 wk2_179 wk2_180 wk1_5 wk2_181 hd_X7_keep ⟨Nat.le_of_ble_eq_true rfl, Nat.le_of_ble_eq_true rfl⟩) rfl rfl rfl rfl rfl (Nat.le_of_ble_eq_true rfl) dX10_gang_48 (fun u30 H locs p28 hw => ?_)
        obtain ⟨hCLu30, hku30, hzu30⟩ := keep_CL hCLm hnx1 hnx2 p28
        have hXR := hCLu30.1
        have hV := hCLu30.2.1
        have hFS := hCLu30.2.2.1
        have hRG := hCLu30.2.2.2.1
        have hSK := hCLu30.2.2.2.2
        have hN := hXR.1
        have hA := hXR.2.2.1
        have hX := hXR.2.2.2.1
        have hW := hV.1
        have hS : cS u30 nh nj := cS.ag hA hV.2.2.1
        have hE : aE u30 u30 := aE.rf
        have hnh := hS.1
        have hnj := hS.2.1
        refine lv_iconst (v := nI 0) hC.1 hC.2.1 dX10_gang_51 (by decide) ?_
        refine lv_istore (lv' := [(4, .int (nI 0)), (3, .int (if (g_run v group nh nj nj).2 = true then (1 : Int32) else 0)), (2, .int (c_gsz σ group nj)), (0, .ref (a 71)), (1, .int (group))]) hC.1 hC.2.1 dX10_gang_52 hl (by decide) rfl (fun ls hl => ?_)
        have L54_30 : ∀ (n : Nat), ∀ (k : Nat), ∀ (d11 : Nat → Int32), ∀ (d12 : Nat → Int32), ∀ (d13 : Nat → Int32), ∀ (d16 : Nat → Int32), ∀ (d17 : Nat → Int32), ∀ (d18 : Nat → Int32), ∀ (d19 : Nat → Int32), ∀ (d20 : Nat → Int32), ∀ (d21 : Nat → Int32), ∀ (z2 : Int32), (k ≤ nj) → (CL (sr (sr (sr (sr (sr (sr (sr (sr (sr (sr u30 11 (d11)) 12 (d12)) 13 (d13)) 16 (d16)) 17 (d17)) 18 (d18)) 19 (d19)) 20 (d20)) 21 (d21)) 0 (upd (u30 0) 2 (z2))) (g_run v group nh nj k).1 nh nj (push30 stk v) (T + k)) → (nj - k) < n → ∀ (H : Heap) (locs : List Loc) (ls : Array Slot), Wst E (XW E a) (sr (sr (sr (sr (sr (sr (sr (sr (sr (sr u30 11 (d11)) 12 (d12)) 13 (d13)) 16 (d16)) 17 (d17)) 18 (d18)) 19 (d19)) 20 (d20)) 21 (d21)) 0 (upd (u30 0) 2 (z2))) A s.heap H locs → lv_has ls 5 [(0, .ref (a 71)), (1, .int (group)), (2, .int (c_gsz σ group nj)), (3, .int (if (g_run v group nh nj nj).2 = true then (1 : Int32) else 0)), (4, .int (nI k))] → W p l e ({ frames := 5, cells := 0, slots := 0, locals := 121 }) s m args below meth c H locs 0 0 Q (F0 m 54 ls []) := by
          intro n
          induction n with
          | zero => intro k d11 d12 d13 d16 d17 d18 d19 d20 d21 z2 hk hCk hn; exact absurd hn (Nat.not_lt_zero _)
          | succ n ih54 =>
            intro k d11 d12 d13 d16 d17 d18 d19 d20 d21 z2 hk hCk hn54 H locs ls hw hl
            refine lv_iload hC.1 hC.2.1 dX10_gang_54 (lv_at hl 4 rfl) ?_
            refine lv_aload_n hC.1 hC.2.1 dX10_gang_56 rfl (lv_at hl 0 rfl) ?_
            refine gf_X10_19 hC hw dX10_gang_57 ?_
            refine gf_X10_114 (v := nI nj) hC hw hN.2 dX10_gang_60 ?_
            refine q_cmpge hC 97 (cNle (by omega) (by omega)) dX10_gang_63 (by decide) (fun (c32 : nj ≤ k) => ?_) (fun (c32 : k < nj) => ?_)
            · refine lv_iload_n hC.1 hC.2.1 dX10_gang_97 rfl (lv_at hl 2 rfl) ?_
              refine hret _ _ _ _ _ _ hw ?_ rfl dX10_gang_98
              have hk9 : k = nj := by omega
              have hCf := hCk
              rw [hk9] at hCf
              have ho : o_gang v nh nj group = (m_gsz v group nj, some ((g_run v group nh nj nj).1)) := by rw [o_gang, if_pos (show okB group 8 from c4), if_neg (fun q => c8 (hgs.trans q)), if_pos hall]
              rw [ho]
              exact ⟨hgs, (hCf.mono (by omega)), ⟨hzu30 9 (by decide) (by decide), hku30 27 (by decide) (by decide), hku30 28 (by decide) (by decide), hzu30 16 (by decide) (by decide)⟩⟩
            · have hkj : k < nj := by omega
              have gX := hCk.1.2.2.2.1
              have gN : cN2 u30 nh nj := hN
              have gA : agE u30 (eM (g_run v group nh nj k).1) nh nj := agE.aE (σ := sr (sr (sr (sr (sr (sr (sr (sr (sr (sr u30 11 (d11)) 12 (d12)) 13 (d13)) 16 (d16)) 17 (d17)) 18 (d18)) 19 (d19)) 20 (d20)) 21 (d21)) 0 (upd (u30 0) 2 (z2))) ⟨rfl, rfl, rfl, rfl, rfl, rfl, rfl, rfl, rfl, rfl, rfl⟩ hCk.1.2.2.1
              have g15 : ∀ i, i < 3 → u30 15 i = eM (g_run v group nh nj k).1 15 i := fun i hi => hCk.1.2.2.2.2.2 i hi
              have gF : FSr u30 (pB (eM (g_run v group nh nj k).1) (-1)) nh nj d16 d17 d18 d19 d20 d21 := FSr.aE (σ := sr (sr (sr (sr (sr (sr (sr (sr (sr (sr u30 11 (d11)) 12 (d12)) 13 (d13)) 16 (d16)) 17 (d17)) 18 (d18)) 19 (d19)) 20 (d20)) 21 (d21)) 0 (upd (u30 0) 2 (z2))) ⟨rfl, rfl, rfl, rfl, rfl, rfl, rfl, rfl, rfl, rfl, rfl⟩ hCk.2.2.1
              have gG := g_run_G (v := v) (group := group) (nh := nh) hnj hkj
              refine lv_aload_n hC.1 hC.2.1 dX10_gang_66 rfl (lv_at hl 0 rfl) ?_
              refine lv_iload hC.1 hC.2.1 dX10_gang_67 (lv_at hl 4 rfl) ?_
              refine lv_iload_n hC.1 hC.2.1 dX10_gang_69 rfl (lv_at hl 1 rfl) ?_
              refine q_callVp (As := [.int (nI k), .int (group)]) (rest := []) (q0 := 0) hC hw hl (tX10_isInGang l E a (sr (sr (sr (sr (sr (sr (sr (sr (sr (sr u30 11 (d11)) 12 (d12)) 13 (d13)) 16 (d16)) 17 (d17)) 18 (d18)) 19 (d19)) 20 (d20)) 21 (d21)) 0 (upd (u30 0) 2 (z2))) k group (by omega)) (q_cwV hC.2.2.2.2.1 ⟨rfl, rfl⟩ wk3_103 wk3_105 wks_1_9 wk1_1 wk3_106 hd_X10_isInGang ⟨Nat.le_of_ble_eq_true rfl, Nat.le_of_ble_eq_true rfl⟩) rfl rfl rfl rfl rfl (Nat.le_of_ble_eq_true rfl) dX10_gang_70 (fun H locs hw => ?_)
              refine q_ifeq hC 91 cB dX10_gang_73 (by decide) (fun (c36 : ¬ (((u30 5) k = 2 ∧ (u30 8) k = group) ∧ d11 k = 0)) => ?_) (fun (c36 : ((u30 5) k = 2 ∧ (u30 8) k = group) ∧ d11 k = 0) => ?_)
              · refine lv_iinc (v := nI (k + 1)) (lv' := [(4, .int (nI (k + 1))), (0, .ref (a 71)), (1, .int (group)), (2, .int (c_gsz σ group nj)), (3, .int (if (g_run v group nh nj nj).2 = true then (1 : Int32) else 0))]) hC.1 hC.2.1 dX10_gang_91 hl (k := 4) rfl (nI_add _ _) (by decide) rfl (fun ls hl => ?_)
                refine lv_goto (tgt := 54) hC.1 hC.2.1 dX10_gang_94 (by decide) ?_
                have hnG : ¬ isG v group k := fun q => c36 ⟨⟨(gX k hkj).1.trans (gG.mpr q).1.1, (gA.2 k hkj).2.2.1.trans (gG.mpr q).1.2⟩, (gX k hkj).2.2.1.trans (gG.mpr q).2⟩
                have hst9 := g_run_no (nh := nh) hnj hkj hnG
                have hC9 := hCk.mono (show T + k ≤ T + (k + 1) by omega)
                rw [← hst9] at hC9
                exact ih54 (k + 1) d11 d12 d13 d16 d17 d18 d19 d20 d21 z2 (by omega) hC9 (by omega) _ _ _ hw (lv_sub hl [1, 2, 3, 4, 0] rfl)
              · have hG0 : isG (g_run v group nh nj k).1 group k := ⟨⟨(gX k hkj).1.symm.trans c36.1.1, (gA.2 k hkj).2.2.1.symm.trans c36.1.2⟩, (gX k hkj).2.2.1.symm.trans c36.2⟩
                have hG := gG.mp hG0
                have hcb := cb_eq gA g15 hCk.2.1.1 hkj hG0.2
                have gt9 : ∀ d, d ≤ nj → (g_run v group nh nj d).2 = true := fun d hd => Classical.byContradiction fun z => by
                  have h2 := g_run_f z (nj - d)
                  rw [show d + (nj - d) = nj by omega] at h2; exact h2 hall
                have hbn : ¬ m_bst (eM (g_run v group nh nj k).1) (pB (eM (g_run v group nh nj k).1) (nI k)) nh nj k nh < 0 := fun q => by
                  have h1 := gt9 (k + 1) (by omega)
                  rw [g_run_neg hnj hkj (gt9 k (by omega)) hG q] at h1; exact Bool.noConfusion h1
                have hcn : m_cb u30 (pB (eM (g_run v group nh nj k).1) (-1)) nh nj k = nI (cN (m_bst u30 (pB (eM (g_run v group nh nj k).1) (-1)) nh nj k nh)) ∧ cN (m_bst u30 (pB (eM (g_run v group nh nj k).1) (-1)) nh nj k nh) < nh := (cb_n hnh (fun q => hbn (by rw [← hcb]; exact cb_1 hnh q))).2
                have hbw := bst_why nh (by omega) hbn
                refine lv_aload_n hC.1 hC.2.1 dX10_gang_76 rfl (lv_at hl 0 rfl) ?_
                refine lv_iload hC.1 hC.2.1 dX10_gang_77 (lv_at hl 4 rfl) ?_
                refine lv_aload_n hC.1 hC.2.1 dX10_gang_79 rfl (lv_at hl 0 rfl) ?_
                refine gf_X10_32 hC hw dX10_gang_80 ?_
                refine lv_iload hC.1 hC.2.1 dX10_gang_83 (lv_at hl 4 rfl) ?_
                refine q_callVp (As := [.int (nI k)]) (rest := [.int (nI k), .ref (a 71)]) (q0 := 5) hC hw hl (tX4_bestHost l E a (sr (sr (sr (sr (sr (sr (sr (sr (sr (sr u30 11 (d11)) 12 (d12)) 13 (d13)) 16 (d16)) 17 (d17)) 18 (d18)) 19 (d19)) 20 (d20)) 21 (d21)) 0 (upd (u30 0) 2 (z2))) nh nj u30 (pB (eM (g_run v group nh nj k).1) (-1)) k gN ⟨rfl, rfl, rfl, rfl, rfl, rfl, rfl, rfl, rfl, rfl, rfl⟩ hS gF hkj) (q_cwV hC.2.2.2.2.1 ⟨rfl, rfl⟩ wk3_32 wk3_33 wk3_34 wk1_4 wk3_35 hd_X4_bestHost ⟨Nat.le_of_ble_eq_true rfl, Nat.le_of_ble_eq_true rfl⟩) rfl rfl rfl rfl rfl (Nat.le_of_ble_eq_true rfl) dX10_gang_85 (fun H locs hw => ?_)
                refine q_top (y := nI (cN (m_bst u30 (pB (eM (g_run v group nh nj k).1) (-1)) nh nj k nh))) hcn.1 ?_
                refine q_callVv (As := [.int (nI k), .int (nI (cN (m_bst u30 (pB (eM (g_run v group nh nj k).1) (-1)) nh nj k nh)))]) (rest := []) (q0 := 0) hC hw hl (tX10_seat l E a (sr (sr (sr (sr (sr (sr (sr (sr (sr (sr u30 11 (d11)) 12 (d12)) 13 (d13)) 16 (d16)) 17 (d17)) 18 (d18)) 19 (d19)) 20 (d20)) 21 (d21)) 0 (upd (u30 0) 2 (z2))) nh nj u30 (pB (eM (g_run v group nh nj k).1) (-1)) k (cN (m_bst u30 (pB (eM (g_run v group nh nj k).1) (-1)) nh nj k nh)) gN ⟨rfl, rfl, rfl, rfl, rfl, rfl, rfl, rfl, rfl, rfl, rfl⟩ hS gF hkj hcn.2 (pB_n1 hG0.2)) (q_cwV hC.2.2.2.2.1 ⟨rfl, rfl⟩ wk3_82 wk3_84 wks_1_7 wk1_1 wk3_85 hd_X10_seat ⟨Nat.le_of_ble_eq_true rfl, Nat.le_of_ble_eq_true rfl⟩) rfl rfl rfl rfl rfl (Nat.le_of_ble_eq_true rfl) dX10_gang_88 (fun u42 H locs p40 hw => ?_)
                obtain ⟨b16_43, b17_44, b18_45, b19_46, b20_47, b21_48, hFu42, huu42⟩ := p40
                subst huu42
                have hst_ : sr (sr (sr (sr (sr (sr (sr (sr (sr (sr (sr (sr (sr (sr (sr (sr (sr (sr (sr (sr u30 11 (d11)) 12 (d12)) 13 (d13)) 16 (d16)) 17 (d17)) 18 (d18)) 19 (d19)) 20 (d20)) 21 (d21)) 0 (upd (u30 0) 2 (z2))) 11 (upd ((sr (sr (sr (sr (sr (sr (sr (sr (sr (sr u30 11 (d11)) 12 (d12)) 13 (d13)) 16 (d16)) 17 (d17)) 18 (d18)) 19 (d19)) 20 (d20)) 21 (d21)) 0 (upd (u30 0) 2 (z2))) 11) k 1)) 12 (upd ((sr (sr (sr (sr (sr (sr (sr (sr (sr (sr u30 11 (d11)) 12 (d12)) 13 (d13)) 16 (d16)) 17 (d17)) 18 (d18)) 19 (d19)) 20 (d20)) 21 (d21)) 0 (upd (u30 0) 2 (z2))) 12) k (nI (cN (m_bst u30 (pB (eM (g_run v group nh nj k).1) (-1)) nh nj k nh))))) 13 (upd ((sr (sr (sr (sr (sr (sr (sr (sr (sr (sr u30 11 (d11)) 12 (d12)) 13 (d13)) 16 (d16)) 17 (d17)) 18 (d18)) 19 (d19)) 20 (d20)) 21 (d21)) 0 (upd (u30 0) 2 (z2))) 13) k (((sr (sr (sr (sr (sr (sr (sr (sr (sr (sr u30 11 (d11)) 12 (d12)) 13 (d13)) 16 (d16)) 17 (d17)) 18 (d18)) 19 (d19)) 20 (d20)) 21 (d21)) 0 (upd (u30 0) 2 (z2))) 0 2) + 1))) 16 b16_43) 17 b17_44) 18 b18_45) 19 b19_46) 20 b20_47) 21 b21_48) 0 (upd ((sr (sr (sr (sr (sr (sr (sr (sr (sr (sr u30 11 (d11)) 12 (d12)) 13 (d13)) 16 (d16)) 17 (d17)) 18 (d18)) 19 (d19)) 20 (d20)) 21 (d21)) 0 (upd (u30 0) 2 (z2))) 0) 2 (((sr (sr (sr (sr (sr (sr (sr (sr (sr (sr u30 11 (d11)) 12 (d12)) 13 (d13)) 16 (d16)) 17 (d17)) 18 (d18)) 19 (d19)) 20 (d20)) 21 (d21)) 0 (upd (u30 0) 2 (z2))) 0 2) + 1)) = sr (sr (sr (sr (sr (sr (sr (sr (sr (sr u30 11 (upd d11 k 1)) 12 (upd d12 k (nI (cN (m_bst u30 (pB (eM (g_run v group nh nj k).1) (-1)) nh nj k nh))))) 13 (upd d13 k (z2 + 1))) 16 (b16_43)) 17 (b17_44)) 18 (b18_45)) 19 (b19_46)) 20 (b20_47)) 21 (b21_48)) 0 (upd (u30 0) 2 (z2 + 1)) := by
                  funext j_ x_
                  by_cases e0 : j_ = 0
                  · subst e0
                    by_cases y2 : x_ = 2
                    · subst y2; rfl
                    · simp [sr, upd, y2]
                  · by_cases e11 : j_ = 11
                    · subst e11; rfl
                    · by_cases e12 : j_ = 12
                      · subst e12; rfl
                      · by_cases e13 : j_ = 13
                        · subst e13; rfl
                        · by_cases e16 : j_ = 16
                          · subst e16; rfl
                          · by_cases e17 : j_ = 17
                            · subst e17; rfl
                            · by_cases e18 : j_ = 18
                              · subst e18; rfl
                              · by_cases e19 : j_ = 19
                                · subst e19; rfl
                                · by_cases e20 : j_ = 20
                                  · subst e20; rfl
                                  · by_cases e21 : j_ = 21
                                    · subst e21; rfl
                                    · simp only [sr, e0, e11, e12, e13, e16, e17, e18, e19, e20, e21, if_false]
                rw [hst_] at hw
                refine lv_iinc (v := nI (k + 1)) (lv' := [(4, .int (nI (k + 1))), (0, .ref (a 71)), (1, .int (group)), (2, .int (c_gsz σ group nj)), (3, .int (if (g_run v group nh nj nj).2 = true then (1 : Int32) else 0))]) hC.1 hC.2.1 dX10_gang_91 hl (k := 4) rfl (nI_add _ _) (by decide) rfl (fun ls hl => ?_)
                refine lv_goto (tgt := 54) hC.1 hC.2.1 dX10_gang_94 (by decide) ?_
                have hst9 := g_run_yes hnj hkj (gt9 k (by omega)) hG hbn
                rw [← hcb] at hst9 hbw
                have hC9 := CL.std (σ := sr (sr (sr (sr (sr (sr (sr (sr (sr (sr u30 11 (d11)) 12 (d12)) 13 (d13)) 16 (d16)) 17 (d17)) 18 (d18)) 19 (d19)) 20 (d20)) 21 (d21)) 0 (upd (u30 0) 2 (z2))) (u := sr (sr (sr (sr (sr (sr (sr (sr (sr (sr u30 11 (upd d11 k 1)) 12 (upd d12 k (nI (cN (m_bst u30 (pB (eM (g_run v group nh nj k).1) (-1)) nh nj k nh))))) 13 (upd d13 k (z2 + 1))) 16 (b16_43)) 17 (b17_44)) 18 (b18_45)) 19 (b19_46)) 20 (b20_47)) 21 (b21_48)) 0 (upd (u30 0) 2 (z2 + 1))) (h := (cN (m_bst u30 (pB (eM (g_run v group nh nj k).1) (-1)) nh nj k nh))) hCk hkj hcn.2 (cS.up1 hCk.2.1.2.2.1 hcn.2 (why_up hbw)) (by omega) ⟨rfl, rfl, rfl, rfl, rfl, rfl, rfl, rfl, rfl, rfl, rfl⟩ ⟨rfl, rfl, rfl, rfl, rfl, fun r hr => by rw [sr_n (by omega), sr_n (by omega), sr_n (by omega), sr_n (by omega), sr_n (by omega), sr_n (by omega), sr_n (by omega), sr_n (by omega), sr_n (by omega), sr_n (by omega), sr_n (by omega), sr_n (by omega), sr_n (by omega), sr_n (by omega), sr_n (by omega), sr_n (by omega), sr_n (by omega), sr_n (by omega), sr_n (by omega), sr_n (by omega)]⟩ rfl rfl rfl rfl (FSr.aE (σ := u30) ⟨rfl, rfl, rfl, rfl, rfl, rfl, rfl, rfl, rfl, rfl, rfl⟩ hFu42)
                have e9 : f_std (g_run v group nh nj k).1 k (cN (m_bst u30 (pB (eM (g_run v group nh nj k).1) (-1)) nh nj k nh)) = (g_run v group nh nj (k + 1)).1 := by rw [hst9]
                rw [e9] at hC9
                exact ih54 (k + 1) (upd d11 k 1) (upd d12 k (nI (cN (m_bst u30 (pB (eM (g_run v group nh nj k).1) (-1)) nh nj k nh)))) (upd d13 k (z2 + 1)) b16_43 b17_44 b18_45 b19_46 b20_47 b21_48 (z2 + 1) (by omega) hC9 (by omega) _ _ _ hw (lv_sub hl [1, 2, 3, 4, 0] rfl)
        have hst_ : u30 = sr (sr (sr (sr (sr (sr (sr (sr (sr (sr u30 11 (u30 11)) 12 (u30 12)) 13 (u30 13)) 16 (u30 16)) 17 (u30 17)) 18 (u30 18)) 19 (u30 19)) 20 (u30 20)) 21 (u30 21)) 0 (upd (u30 0) 2 (u30 0 2)) := by
          funext j_ x_
          by_cases e0 : j_ = 0
          · subst e0
            by_cases y2 : x_ = 2
            · subst y2; rfl
            · simp [sr, upd, y2]
          · by_cases e11 : j_ = 11
            · subst e11; rfl
            · by_cases e12 : j_ = 12
              · subst e12; rfl
              · by_cases e13 : j_ = 13
                · subst e13; rfl
                · by_cases e16 : j_ = 16
                  · subst e16; rfl
                  · by_cases e17 : j_ = 17
                    · subst e17; rfl
                    · by_cases e18 : j_ = 18
                      · subst e18; rfl
                      · by_cases e19 : j_ = 19
                        · subst e19; rfl
                        · by_cases e20 : j_ = 20
                          · subst e20; rfl
                          · by_cases e21 : j_ = 21
                            · subst e21; rfl
                            · simp only [sr, e0, e11, e12, e13, e16, e17, e18, e19, e20, e21, if_false]
        rw [hst_] at hw
        exact L54_30 _ 0 (u30 11) (u30 12) (u30 13) (u30 16) (u30 17) (u30 18) (u30 19) (u30 20) (u30 21) (u30 0 2) (Nat.zero_le _) (CL.g hCLu30 ⟨rfl, rfl, rfl, rfl, rfl, rfl, rfl, rfl, rfl, rfl, rfl⟩ ⟨rfl, rfl, rfl⟩ rfl ⟨rfl, rfl, rfl, rfl, rfl, fun r hr => by rw [sr_n (by omega), sr_n (by omega), sr_n (by omega), sr_n (by omega), sr_n (by omega), sr_n (by omega), sr_n (by omega), sr_n (by omega), sr_n (by omega), sr_n (by omega)]⟩ ⟨rfl, rfl, rfl, rfl, rfl, rfl⟩) (Nat.lt_succ_self _) _ _ _ hw (lv_sub hl [3, 4, 2, 1, 0] rfl)
      · refine lv_bipush (v := (-3)) hC.1 hC.2.1 dX10_gang_41 (by decide) ?_
        refine hret _ _ _ _ _ _ hw ?_ rfl dX10_gang_43
        have ho : o_gang v nh nj group = (-3, none) := by rw [o_gang, if_pos (show okB group 8 from c4), if_neg (fun q => c8 (hgs.trans q)), if_neg c27]
        rw [ho]
        exact ⟨rfl, (CL.sm (u := sr (sr (sr (sr (sr (sr σ 16 (b16_21)) 17 (b17_22)) 18 (b18_23)) 19 (b19_24)) 20 (b20_25)) 21 (b21_26)) hCL ⟨rfl, rfl, rfl, rfl, rfl, rfl, rfl, rfl, rfl, rfl, rfl⟩ ⟨rfl, rfl, rfl⟩ rfl ⟨rfl, rfl, rfl, rfl, rfl, (fun r hr => by rw [sr_n (by omega), sr_n (by omega), sr_n (by omega), sr_n (by omega), sr_n (by omega), sr_n (by omega)])⟩ hFu20).mono (by omega), rfl, rfl, rfl, rfl⟩
    · refine lv_bipush (v := (-2)) hC.1 hC.2.1 dX10_gang_21 (by decide) ?_
      refine hret _ _ _ _ _ _ hw ?_ rfl dX10_gang_23
      have ho : o_gang v nh nj group = (-2, none) := by rw [o_gang, if_pos (show okB group 8 from c4), if_pos ((gsz_eq hX hA).symm.trans c8)]
      rw [ho]
      exact ⟨rfl, hCL.mono (by omega), rfl, rfl, rfl, rfl⟩
  · refine lv_iconst (v := (-1)) hC.1 hC.2.1 dX10_gang_9 (by decide) ?_
    refine hret _ _ _ _ _ _ hw ?_ rfl dX10_gang_10
    have ho : o_gang v nh nj group = (-1, none) := by rw [o_gang, if_neg (show ¬ okB group 8 from c4)]
    rw [ho]
    exact ⟨rfl, hCL.mono (by omega), rfl, rfl, rfl, rfl⟩
