theorem XR.cg {σ u : St} {v : Nat → Int32} {nh nj : Nat} (hX : XR σ v nh nj) (ha : aE u σ) (h11 : u 11 = σ 11) (h12 : u 12 = σ 12) (h13 : u 13 = σ 13) (h14 : u 14 = σ 14) (h00 : u 0 0 = σ 0 0) (h01 : u 0 1 = σ 0 1) (h02 : u 0 2 = σ 0 2) : XR u v nh nj := by
  obtain ⟨a1, a2, a3, a4, a5, a6⟩ := hX
  have ha' := ha
  obtain ⟨b1, b2, b3, b4, b5, b6, b7, b8, b9, b10, b15⟩ := ha'
  refine ⟨⟨h00.trans a1.1, h01.trans a1.2⟩, h02.trans a2, a3.aE ha, ?_, by rw [h14]; exact a5, by rw [b15]; exact a6⟩
  unfold JX
  rw [b5, b7, h11, h12, h13]
  exact a4
theorem CL.to {σ u : St} {v v' : Nat → Int32} {nh nj T T' : Nat} {stk : List (Nat → Int32)} (hC : CL σ v nh nj stk T) (hX : XR u v' nh nj) (hV : VI v' nh nj T') (hT : T ≤ T') (hF : FSr σ (pB (eM v') (-1)) nh nj (u 16) (u 17) (u 18) (u 19) (u 20) (u 21)) (ha : aE u σ) (h30 : ∀ r, 30 ≤ r → u r = σ r) (h3 : u 0 3 = σ 0 3) (h4 : u 0 4 = σ 0 4) : CL u v' nh nj stk T' :=
  CL.of hX hV (FSr.aE ha hF) hC.2.2.2.1 hC.2.2.2.2 h30 h3 h4 ha.st (Nat.le_refl _) (Nat.le_refl _) hT
theorem VI.go {v : Nat → Int32} {nh nj T j h : Nat} (hV : VI v nh nj T) : ∀ t, t ≤ go_T v nh nj j h → VI (go_v v nj j h t) nh nj T
  | 0, _ => hV
  | t + 1, ht => (VI.go hV t (by omega)).rel (go_w_lt hV.1.2.1 (show t < go_T v nh nj j h by omega)) (by decide)
theorem XR.go {σ : St} {v d11 d12 d13 : Nat → Int32} {nh nj j h k : Nat} (hX : XR (sr (sr (sr σ 11 d11) 12 d12) 13 d13) (go_v v nj j h k) nh nj) (hn : nh ≤ 10) (hjn : nj ≤ 24) (hk : go_w v nj j h k < nj) : XR (sr (sr (sr σ 11 (upd d11 (go_w v nj j h k) 0)) 12 (upd d12 (go_w v nj j h k) (-1))) 13 (upd d13 (go_w v nj j h k) 0)) (go_v v nj j h (k + 1)) nh nj :=
  XR.rel hX hn hjn hk (by decide) ⟨rfl, rfl, rfl, rfl, rfl, rfl, rfl, rfl, rfl, rfl, rfl⟩ ⟨rfl, rfl, rfl, rfl, rfl, fun r hr => by rw [sr_n (by omega), sr_n (by omega), sr_n (by omega), sr_n (by omega), sr_n (by omega), sr_n (by omega)]⟩ rfl rfl (fun k hk => (upn hk : upd d12 _ (-1) k = d12 k)) (fun k hk => (upn hk : upd d13 _ 0 k = d13 k))
theorem m_bst_congr {E E' : St} {P P' : Nat → Int32} {nh nj j : Nat} (hE : agE E E' nh nj) (hw : ∀ i, i < 3 → E 15 i = E' 15 i) (hP : ∀ j, j < nj → P j = P' j) (ho : okP P nh nj) (hn : nh ≤ 10) (hj : j < nj) : ∀ n, n ≤ nh → m_bst E P nh nj j n = m_bst E' P' nh nj j n
  | 0, _ => rfl
  | n + 1, h => by
    have ih := m_bst_congr hE hw hP ho hn hj n (by omega)
    rw [m_bst, m_bst, ih, m_why_congr hE hP ho hn hj (show n < nh by omega), m_pts_congr hE hw hP ho hn hj (show n < nh by omega)]
    by_cases q : m_bst E' P' nh nj j n < 0
    · simp only [q, true_or]
    · have b := (m_bst_nat (show n < 2 ^ 31 by omega) q).2
      rw [m_pts_congr hE hw hP ho hn hj (show (m_bst E' P' nh nj j n).toNatClampNeg < nh by omega)]
theorem cb_eq {σ : St} {v : Nat → Int32} {nh nj j : Nat} (hA : agE σ (eM v) nh nj) (h15 : ∀ i, i < 3 → σ 15 i = eM v 15 i) (hW : mF v nh nj) (hj : j < nj) (hj0 : eM v 11 j = 0) : m_bst σ (pB (eM v) (-1)) nh nj j nh = m_bst (eM v) (pB (eM v) (nI j)) nh nj j nh :=
  m_bst_congr hA h15 (ad_P hW hj hj0) (pB_ok hW) hW.1 hj nh (Nat.le_refl _)
/-- what a gang's placing leaves -/
theorem g_run_at {v : Nat → Int32} {group : Int32} {nh nj : Nat} (hjn : nj ≤ 24) : ∀ n, n ≤ nj → (∀ i, (i < 258 ∨ 330 ≤ i) → i ≠ 5 → (g_run v group nh nj n).1 i = v i) ∧ ∀ k, n ≤ k → k < 24 → (g_run v group nh nj n).1 (258 + k) = v (258 + k)
  | 0, _ => ⟨fun _ _ _ => rfl, fun _ _ _ => rfl⟩
  | n + 1, hn => by
    obtain ⟨a, b⟩ := g_run_at (v := v) (group := group) (nh := nh) hjn n (by omega)
    rw [g_run]
    split
    · split
      · exact ⟨a, fun k hk => b k (by omega)⟩
      · exact ⟨fun i hi h5 => (f_std_o hi h5 (by omega)).trans (a i hi h5), fun k hk h24 => by show f_std _ _ _ (258 + k) = _; rw [f_std_st (by omega) (by omega), if_neg (by omega)]; exact b k (by omega) h24⟩
    · exact ⟨a, fun k hk => b k (by omega)⟩
theorem g_run_f {v : Nat → Int32} {group : Int32} {nh nj n : Nat} (h : ¬ (g_run v group nh nj n).2 = true) : ∀ d, ¬ (g_run v group nh nj (n + d)).2 = true
  | 0 => h
  | d + 1 => by
    have ih := g_run_f h d
    rw [← Nat.add_assoc, g_run, if_neg (fun q => ih q.1)]; exact ih
theorem g_run_ag {v : Nat → Int32} {group : Int32} {nh nj n : Nat} (hn : nh ≤ 10) (hjn : nj ≤ 24) (h : n ≤ nj) : agE (eM v) (eM (g_run v group nh nj n).1) nh nj :=
  agE.of hn hjn (fun i h1 h2 => ((g_run_at hjn n h).1 i (Or.inl h2) (by omega)).symm)
theorem g_run_15 {v : Nat → Int32} {group : Int32} {nh nj n i : Nat} (hjn : nj ≤ 24) (h : n ≤ nj) (hi : i < 3) : eM v 15 i = eM (g_run v group nh nj n).1 15 i := ((g_run_at hjn n h).1 (2 + i) (by omega) (by omega)).symm
theorem g_run_G {v : Nat → Int32} {group : Int32} {nh nj n : Nat} (hjn : nj ≤ 24) (h : n < nj) : isG (g_run v group nh nj n).1 group n ↔ isG v group n := by
  have a := g_run_at (v := v) (group := group) (nh := nh) hjn n (by omega)
  unfold isG
  rw [show eM (g_run v group nh nj n).1 5 n = eM v 5 n from a.1 (66 + n) (by omega) (by omega), show eM (g_run v group nh nj n).1 8 n = eM v 8 n from a.1 (186 + n) (by omega) (by omega), show eM (g_run v group nh nj n).1 11 n = eM v 11 n from a.2 n (Nat.le_refl _) (by omega)]
theorem g_run_no {v : Nat → Int32} {group : Int32} {nh nj n : Nat} (hjn : nj ≤ 24) (h : n < nj) (q : ¬ isG v group n) : g_run v group nh nj (n + 1) = g_run v group nh nj n := by
  rw [g_run, if_neg (fun z => q ((g_run_G hjn h).mp z.2))]
theorem g_run_neg {v : Nat → Int32} {group : Int32} {nh nj n : Nat} (hjn : nj ≤ 24) (h : n < nj) (h2 : (g_run v group nh nj n).2 = true) (q : isG v group n) (hb : m_bst (eM (g_run v group nh nj n).1) (pB (eM (g_run v group nh nj n).1) (nI n)) nh nj n nh < 0) : g_run v group nh nj (n + 1) = ((g_run v group nh nj n).1, false) := by
  rw [g_run, if_pos ⟨h2, (g_run_G hjn h).mpr q⟩, if_pos hb]
theorem g_run_yes {v : Nat → Int32} {group : Int32} {nh nj n : Nat} (hjn : nj ≤ 24) (h : n < nj) (h2 : (g_run v group nh nj n).2 = true) (q : isG v group n) (hb : ¬ m_bst (eM (g_run v group nh nj n).1) (pB (eM (g_run v group nh nj n).1) (nI n)) nh nj n nh < 0) : g_run v group nh nj (n + 1) = (f_std (g_run v group nh nj n).1 n (cN (m_bst (eM (g_run v group nh nj n).1) (pB (eM (g_run v group nh nj n).1) (nI n)) nh nj n nh)), true) := by
  rw [g_run, if_pos ⟨h2, (g_run_G hjn h).mpr q⟩, if_neg hb]
theorem cb_n {E : St} {P : Nat → Int32} {nh nj j : Nat} (hn : nh ≤ 10) (h : ¬ m_cb E P nh nj j = -1) : ¬ m_bst E P nh nj j nh < 0 ∧ m_cb E P nh nj j = nI (cN (m_bst E P nh nj j nh)) ∧ cN (m_bst E P nh nj j nh) < nh := by
  unfold m_cb at h ⊢
  by_cases q : m_bst E P nh nj j nh < 0
  · rw [if_pos q] at h; exact absurd rfl h
  · rw [if_neg q]; exact ⟨q, m_bst_nat (by omega) q⟩
theorem cb_1 {E : St} {P : Nat → Int32} {nh nj j : Nat} (hn : nh ≤ 10) (h : m_cb E P nh nj j = -1) : m_bst E P nh nj j nh < 0 := by
  unfold m_cb at h
  by_cases q : m_bst E P nh nj j nh < 0
  · exact q
  · rw [if_neg q] at h
    rw [(m_bst_nat (show nh < 2 ^ 31 by omega) q).1] at h
    exact absurd h.symm (nI_nm1 (by have := (m_bst_nat (show nh < 2 ^ 31 by omega) q).2; omega))
set_option maxHeartbeats 4000000 in
set_option maxRecDepth 100000 in
theorem tX10_sendAway (l : Launch) (E : EV) (a : Nat → Nat) (σ : St) (nh : Nat) (nj : Nat) (v : Nat → Int32) (stk : List (Nat → Int32)) (T : Nat) (j : Nat) (h : Nat) (hCL : CL σ v nh nj stk T) (hj : j < nj) (hh : h < nh) (hj0 : eM v 11 j = 0) : MI l E (XW E a) yX10_sendAway (Cond.code yX10_sendAway cX10_sendAway 4 (some .int)) ({ frames := 4, cells := 0, slots := 0, locals := 96 }) [.ref (a 71), .int (nI j), .int (nI h)] σ (fun r_ u_ => r_ = nI (go_T v nh nj j h) ∧ CL u_ (go_v v nj j h (go_T v nh nj j h)) nh nj stk T ∧ keepX σ u_) := by
  refine MI.mk (by decide +kernel) (Nat.le_of_ble_eq_true rfl) ?_
  intro p e s m args below meth c ls A Q hret hC hw hl
  have hC : Cxt E p s m args meth c cX10_sendAway 4 (some .int) RX10 A := hC
  have hl : lv_has ls 4 [(0, .ref (a 71)), (1, .int (nI j)), (2, .int (nI h))] := hl
  have hXR := hCL.1
  have hV := hCL.2.1
  have hFS := hCL.2.2.1
  have hRG := hCL.2.2.2.1
  have hSK := hCL.2.2.2.2
  have hN := hXR.1
  have hA := hXR.2.2.1
  have hX := hXR.2.2.2.1
  have hW := hV.1
  have hS : cS σ nh nj := cS.ag hA hV.2.2.1
  have hE : aE σ σ := aE.rf
  have hnh := hS.1
  have hnj := hS.2.1
  have hT24 : go_T v nh nj j h ≤ 24 := go_T_le hnj
  refine lv_aload_n hC.1 hC.2.1 dX10_sendAway_0 rfl (lv_at hl 0 rfl) ?_
  refine gf_X10_48 hC hw dX10_sendAway_1 ?_
  refine lv_iload_n hC.1 hC.2.1 dX10_sendAway_4 rfl (lv_at hl 1 rfl) ?_
  refine lv_iload_n hC.1 hC.2.1 dX10_sendAway_5 rfl (lv_at hl 2 rfl) ?_
  refine q_callV (As := [.int (nI j), .int (nI h)]) (rest := []) (q0 := 2) hC hw hl (tX1_clear l E a σ nh nj σ v j h hN hE hS hFS hX hA hW hV.2.2.2.2.2.2.2.1 hj hh hj0) (q_cwV hC.2.2.2.2.1 ⟨rfl, rfl⟩ wk3_80 wk3_47 wk3_48 wk1_6 wk3_49 hd_X1_clear ⟨Nat.le_of_ble_eq_true rfl, Nat.le_of_ble_eq_true rfl⟩) rfl rfl rfl rfl rfl (Nat.le_of_ble_eq_true rfl) dX10_sendAway_6 (fun r2 u3 H locs p1 hw => ?_)
  obtain ⟨b16_4, b17_5, b18_6, b19_7, b20_8, b21_9, b22_10, hFu3, hgou3, hru3, huu3⟩ := p1
  subst huu3 hru3
  refine lv_pop hC.1 hC.2.1 dX10_sendAway_9 rfl ?_
  refine lv_iconst (v := nI 0) hC.1 hC.2.1 dX10_sendAway_10 (by decide) ?_
  refine lv_istore_n (lv' := [(3, .int (nI 0)), (0, .ref (a 71)), (1, .int (nI j)), (2, .int (nI h))]) hC.1 hC.2.1 dX10_sendAway_11 rfl hl (by decide) rfl (fun ls hl => ?_)
  have L12_10 : ∀ (n : Nat), ∀ (k : Nat), ∀ (d11 : Nat → Int32), ∀ (d12 : Nat → Int32), ∀ (d13 : Nat → Int32), (k ≤ go_T v nh nj j h) → (XR (sr (sr (sr σ 11 d11) 12 d12) 13 d13) (go_v v nj j h k) nh nj) → (go_T v nh nj j h - k) < n → ∀ (H : Heap) (locs : List Loc) (ls : Array Slot), Wst E (XW E a) (sr (sr (sr (sr (sr (sr (sr (sr (sr (sr (sr σ 11 (d11)) 12 (d12)) 13 (d13)) 16 (b16_4)) 17 (b17_5)) 18 (b18_6)) 19 (b19_7)) 20 (b20_8)) 21 (b21_9)) 22 (b22_10)) 0 (upd (σ 0) 5 (nI (go_T v nh nj j h)))) A s.heap H locs → lv_has ls 4 [(0, .ref (a 71)), (1, .int (nI j)), (2, .int (nI h)), (3, .int (nI k))] → W p l e ({ frames := 4, cells := 0, slots := 0, locals := 96 }) s m args below meth c H locs 0 0 Q (F0 m 12 ls []) := by
    intro n
    induction n with
    | zero => intro k d11 d12 d13 hk hXk hn; exact absurd hn (Nat.not_lt_zero _)
    | succ n ih12 =>
      intro k d11 d12 d13 hk hXk hn12 H locs ls hw hl
      refine lv_iload_n hC.1 hC.2.1 dX10_sendAway_12 rfl (lv_at hl 3 rfl) ?_
      refine lv_aload_n hC.1 hC.2.1 dX10_sendAway_13 rfl (lv_at hl 0 rfl) ?_
      refine gf_X10_48 hC hw dX10_sendAway_14 ?_
      refine gf_X10_260 (v := nI (go_T v nh nj j h)) hC hw rfl dX10_sendAway_17 ?_
      refine q_cmpge hC 46 (cNle (by omega) (by omega)) dX10_sendAway_20 (by decide) (fun (c12 : (go_T v nh nj j h) ≤ k) => ?_) (fun (c12 : k < (go_T v nh nj j h)) => ?_)
      · refine lv_aload_n hC.1 hC.2.1 dX10_sendAway_46 rfl (lv_at hl 0 rfl) ?_
        refine gf_X10_48 hC hw dX10_sendAway_47 ?_
        refine gf_X10_260 (v := nI (go_T v nh nj j h)) hC hw rfl dX10_sendAway_50 ?_
        refine hret _ _ _ _ _ _ hw ?_ rfl dX10_sendAway_53
        have hk9 : k = go_T v nh nj j h := by omega
        have hXu := hXk
        rw [hk9] at hXu
        exact ⟨rfl, CL.to (u := sr (sr (sr (sr (sr (sr (sr (sr (sr (sr (sr σ 11 (d11)) 12 (d12)) 13 (d13)) 16 (b16_4)) 17 (b17_5)) 18 (b18_6)) 19 (b19_7)) 20 (b20_8)) 21 (b21_9)) 22 (b22_10)) 0 (upd (σ 0) 5 (nI (go_T v nh nj j h)))) hCL (XR.cg hXu ⟨rfl, rfl, rfl, rfl, rfl, rfl, rfl, rfl, rfl, rfl, rfl⟩ rfl rfl rfl rfl rfl rfl rfl) (hV.go _ (Nat.le_refl _)) (Nat.le_refl _) hFu3 ⟨rfl, rfl, rfl, rfl, rfl, rfl, rfl, rfl, rfl, rfl, rfl⟩ (fun r hr => by rw [sr_n (by omega), sr_n (by omega), sr_n (by omega), sr_n (by omega), sr_n (by omega), sr_n (by omega), sr_n (by omega), sr_n (by omega), sr_n (by omega), sr_n (by omega), sr_n (by omega)]) rfl rfl, rfl, rfl, rfl, rfl⟩
      · have hgw : go_w v nj j h k < nj := go_w_lt hnj (show k < go_T v nh nj j h by omega)
        refine lv_aload_n hC.1 hC.2.1 dX10_sendAway_23 rfl (lv_at hl 0 rfl) ?_
        refine gf_X10_19 hC hw dX10_sendAway_24 ?_
        refine lv_aload_n hC.1 hC.2.1 dX10_sendAway_27 rfl (lv_at hl 0 rfl) ?_
        refine gf_X10_48 hC hw dX10_sendAway_28 ?_
        refine gf_X10_263 hC hw dX10_sendAway_31 ?_
        refine lv_iload_n hC.1 hC.2.1 dX10_sendAway_34 rfl (lv_at hl 3 rfl) ?_
        refine al_X22 (v := nI (go_w v nj j h k)) hC hw (by omega) (hgou3 k (by omega)) dX10_sendAway_35 ?_
        refine lv_iconst (v := nI 0) hC.1 hC.2.1 dX10_sendAway_36 (by decide) ?_
        refine q_callVvp (As := [.int (nI (go_w v nj j h k)), .int (nI 0)]) (rest := []) (q0 := 7) hC hw hl (tX6_leave l E a (sr (sr (sr (sr (sr (sr (sr (sr (sr (sr (sr σ 11 (d11)) 12 (d12)) 13 (d13)) 16 (b16_4)) 17 (b17_5)) 18 (b18_6)) 19 (b19_7)) 20 (b20_8)) 21 (b21_9)) 22 (b22_10)) 0 (upd (σ 0) 5 (nI (go_T v nh nj j h)))) (go_w v nj j h k) 0 (by omega)) (q_cwV hC.2.2.2.2.1 ⟨rfl, rfl⟩ wk3_81 wk2_221 wk2_222 wk1_3 wk2_223 hd_X6_leave ⟨Nat.le_of_ble_eq_true rfl, Nat.le_of_ble_eq_true rfl⟩) rfl rfl rfl rfl rfl (Nat.le_of_ble_eq_true rfl) dX10_sendAway_37 (fun H locs hw => ?_)
        have hw : Wst E (XW E a) (sr (sr (sr (sr (sr (sr (sr (sr (sr (sr (sr σ 11 (upd d11 (go_w v nj j h k) 0)) 12 (upd d12 (go_w v nj j h k) (-1))) 13 (upd d13 (go_w v nj j h k) 0)) 16 (b16_4)) 17 (b17_5)) 18 (b18_6)) 19 (b19_7)) 20 (b20_8)) 21 (b21_9)) 22 (b22_10)) 0 (upd (σ 0) 5 (nI (go_T v nh nj j h)))) A s.heap H locs := hw
        refine lv_iinc (v := nI (k + 1)) (lv' := [(3, .int (nI (k + 1))), (0, .ref (a 71)), (1, .int (nI j)), (2, .int (nI h))]) hC.1 hC.2.1 dX10_sendAway_40 hl (k := 3) rfl (nI_add _ _) (by decide) rfl (fun ls hl => ?_)
        refine lv_goto (tgt := 12) hC.1 hC.2.1 dX10_sendAway_43 (by decide) ?_
        exact ih12 (k + 1) (upd d11 (go_w v nj j h k) 0) (upd d12 (go_w v nj j h k) (-1)) (upd d13 (go_w v nj j h k) 0) (by omega) (XR.go hXk hnh hnj hgw) (by omega) _ _ _ hw (lv_sub hl [1, 2, 3, 0] rfl)
  have hst_ : sr (sr (sr (sr (sr (sr (sr (sr σ 16 (b16_4)) 17 (b17_5)) 18 (b18_6)) 19 (b19_7)) 20 (b20_8)) 21 (b21_9)) 22 (b22_10)) 0 (upd (σ 0) 5 (nI (go_T v nh nj j h))) = sr (sr (sr (sr (sr (sr (sr (sr (sr (sr (sr σ 11 (σ 11)) 12 (σ 12)) 13 (σ 13)) 16 (b16_4)) 17 (b17_5)) 18 (b18_6)) 19 (b19_7)) 20 (b20_8)) 21 (b21_9)) 22 (b22_10)) 0 (upd (σ 0) 5 (nI (go_T v nh nj j h))) := by
    funext j_ x_
    by_cases e0 : j_ = 0
    · subst e0
      by_cases y5 : x_ = 5
      · subst y5; rfl
      · simp [sr, upd, y5]
    · by_cases e11 : j_ = 11
      · subst e11; rfl
      · by_cases e12 : j_ = 12
        · subst e12; rfl
        · by_cases e13 : j_ = 13
          · subst e13; rfl
          · by_cases e16 : j_ = 16
            · subst e16; rfl
            · by_cases e17 : j_ = 17
              · subst e17; rfl
              · by_cases e18 : j_ = 18
                · subst e18; rfl
                · by_cases e19 : j_ = 19
                  · subst e19; rfl
                  · by_cases e20 : j_ = 20
                    · subst e20; rfl
                    · by_cases e21 : j_ = 21
                      · subst e21; rfl
                      · by_cases e22 : j_ = 22
                        · subst e22; rfl
                        · simp only [sr, e0, e11, e12, e13, e16, e17, e18, e19, e20, e21, e22, if_false]
  rw [hst_] at hw
  exact L12_10 _ 0 (σ 11) (σ 12) (σ 13) (Nat.zero_le _) (XR.cg hXR ⟨rfl, rfl, rfl, rfl, rfl, rfl, rfl, rfl, rfl, rfl, rfl⟩ rfl rfl rfl rfl rfl rfl rfl) (Nat.lt_succ_self _) _ _ _ hw (lv_sub hl [1, 2, 3, 0] rfl)
set_option maxHeartbeats 4000000 in
set_option maxRecDepth 100000 in
theorem tX10_fitGang (l : Launch) (E : EV) (a : Nat → Nat) (σ : St) (nh : Nat) (nj : Nat) (v : Nat → Int32) (stk : List (Nat → Int32)) (T : Nat) (group : Int32) (hCL : CL σ v nh nj stk T) : MI l E (XW E a) yX10_fitGang (Cond.code yX10_fitGang cX10_fitGang 4 (some .boolean)) ({ frames := 4, cells := 0, slots := 0, locals := 98 }) [.ref (a 71), .int (group)] σ (fun r_ u_ => ∃ (b16 b17 b18 b19 b20 b21 : Nat → Int32), r_ = (if (g_run v group nh nj nj).2 = true then (1 : Int32) else 0) ∧ u_ = sr (sr (sr (sr (sr (sr σ 16 b16) 17 b17) 18 b18) 19 b19) 20 b20) 21 b21) := by
  refine MI.mk (by decide +kernel) (Nat.le_of_ble_eq_true rfl) ?_
  intro p e s m args below meth c ls A Q hret hC hw hl
  have hC : Cxt E p s m args meth c cX10_fitGang 4 (some .boolean) RX10 A := hC
  have hl : lv_has ls 4 [(0, .ref (a 71)), (1, .int (group))] := hl
  have hXR := hCL.1
  have hV := hCL.2.1
  have hFS := hCL.2.2.1
  have hRG := hCL.2.2.2.1
  have hSK := hCL.2.2.2.2
  have hN := hXR.1
  have hA := hXR.2.2.1
  have hX := hXR.2.2.2.1
  have hW := hV.1
  have hS : cS σ nh nj := cS.ag hA hV.2.2.1
  have hE : aE σ σ := aE.rf
  have hnh := hS.1
  have hnj := hS.2.1
  refine lv_iconst (v := nI 0) hC.1 hC.2.1 dX10_fitGang_0 (by decide) ?_
  refine lv_istore_n (lv' := [(2, .int (nI 0)), (0, .ref (a 71)), (1, .int (group))]) hC.1 hC.2.1 dX10_fitGang_1 rfl hl (by decide) rfl (fun ls hl => ?_)
  have L2_0 : ∀ (n : Nat), ∀ (k : Nat), ∀ (d16 : Nat → Int32), ∀ (d17 : Nat → Int32), ∀ (d18 : Nat → Int32), ∀ (d19 : Nat → Int32), ∀ (d20 : Nat → Int32), ∀ (d21 : Nat → Int32), (k ≤ nj) → (FSr σ (pB (eM (g_run v group nh nj k).1) (-1)) nh nj d16 d17 d18 d19 d20 d21) → ((g_run v group nh nj k).2 = true) → (nj - k) < n → ∀ (H : Heap) (locs : List Loc) (ls : Array Slot), Wst E (XW E a) (sr (sr (sr (sr (sr (sr σ 16 (d16)) 17 (d17)) 18 (d18)) 19 (d19)) 20 (d20)) 21 (d21)) A s.heap H locs → lv_has ls 4 [(0, .ref (a 71)), (1, .int (group)), (2, .int (nI k))] → W p l e ({ frames := 4, cells := 0, slots := 0, locals := 98 }) s m args below meth c H locs 0 0 Q (F0 m 2 ls []) := by
    intro n
    induction n with
    | zero => intro k d16 d17 d18 d19 d20 d21 hk hFk hgk hn; exact absurd hn (Nat.not_lt_zero _)
    | succ n ih2 =>
      intro k d16 d17 d18 d19 d20 d21 hk hFk hgk hn2 H locs ls hw hl
      refine lv_iload_n hC.1 hC.2.1 dX10_fitGang_2 rfl (lv_at hl 2 rfl) ?_
      refine lv_aload_n hC.1 hC.2.1 dX10_fitGang_3 rfl (lv_at hl 0 rfl) ?_
      refine gf_X10_19 hC hw dX10_fitGang_4 ?_
      refine gf_X10_114 (v := nI nj) hC hw hN.2 dX10_fitGang_7 ?_
      refine q_cmpge hC 54 (cNle (by omega) (by omega)) dX10_fitGang_10 (by decide) (fun (c2 : nj ≤ k) => ?_) (fun (c2 : k < nj) => ?_)
      · refine lv_iconst (v := nI 1) hC.1 hC.2.1 dX10_fitGang_54 (by decide) ?_
        refine hret _ _ _ _ _ _ hw ?_ (by decide) dX10_fitGang_55
        have hk9 : k = nj := by omega
        rw [hk9] at hgk
        exact ⟨d16, d17, d18, d19, d20, d21, (if_pos hgk).symm, rfl⟩
      · have hkj : k < nj := by omega
        have gat := g_run_at (v := v) (group := group) (nh := nh) hnj k (by omega)
        have gW := g_run_mF (group := group) hW hV.2.1 (show k ≤ nj by omega)
        have gA := hA.tr (g_run_ag (v := v) (group := group) hnh hnj (show k ≤ nj by omega))
        have g15 : ∀ i, i < 3 → σ 15 i = eM (g_run v group nh nj k).1 15 i := fun i hi => (hXR.2.2.2.2.2 i hi).trans (g_run_15 hnj (show k ≤ nj by omega) hi)
        refine lv_aload_n hC.1 hC.2.1 dX10_fitGang_13 rfl (lv_at hl 0 rfl) ?_
        refine lv_iload_n hC.1 hC.2.1 dX10_fitGang_14 rfl (lv_at hl 2 rfl) ?_
        refine lv_iload_n hC.1 hC.2.1 dX10_fitGang_15 rfl (lv_at hl 1 rfl) ?_
        refine q_callVp (As := [.int (nI k), .int (group)]) (rest := []) (q0 := 0) hC hw hl (tX10_isInGang l E a (sr (sr (sr (sr (sr (sr σ 16 (d16)) 17 (d17)) 18 (d18)) 19 (d19)) 20 (d20)) 21 (d21)) k group (by omega)) (q_cwV hC.2.2.2.2.1 ⟨rfl, rfl⟩ wk3_103 wk3_105 wks_1_9 wk1_1 wk3_106 hd_X10_isInGang ⟨Nat.le_of_ble_eq_true rfl, Nat.le_of_ble_eq_true rfl⟩) rfl rfl rfl rfl rfl (Nat.le_of_ble_eq_true rfl) dX10_fitGang_16 (fun H locs hw => ?_)
        refine q_ifeq hC 48 cB dX10_fitGang_19 (by decide) (fun (c6 : ¬ (((σ 5) k = 2 ∧ (σ 8) k = group) ∧ (σ 11) k = 0)) => ?_) (fun (c6 : ((σ 5) k = 2 ∧ (σ 8) k = group) ∧ (σ 11) k = 0) => ?_)
        · refine lv_iinc (v := nI (k + 1)) (lv' := [(2, .int (nI (k + 1))), (0, .ref (a 71)), (1, .int (group))]) hC.1 hC.2.1 dX10_fitGang_48 hl (k := 2) rfl (nI_add _ _) (by decide) rfl (fun ls hl => ?_)
          refine lv_goto (tgt := 2) hC.1 hC.2.1 dX10_fitGang_51 (by decide) ?_
          have hst9 := g_run_no (group := group) (nh := nh) hnj hkj (fun (q : isG v group k) => c6 ⟨⟨(hX k hkj).1.trans q.1.1, (hA.2 k hkj).2.2.1.trans q.1.2⟩, (hX k hkj).2.2.1.trans q.2⟩)
          have hF9 := hFk
          have hg9 := hgk
          rw [← hst9] at hF9 hg9
          exact ih2 (k + 1) d16 d17 d18 d19 d20 d21 (by omega) hF9 hg9 (by omega) _ _ _ hw (lv_sub hl [1, 2, 0] rfl)
        · have hG := (show isG v group k from ⟨⟨(hX k hkj).1.symm.trans c6.1.1, (hA.2 k hkj).2.2.1.symm.trans c6.1.2⟩, (hX k hkj).2.2.1.symm.trans c6.2⟩)
          have hgj0 : eM (g_run v group nh nj k).1 11 k = 0 := ((g_run_G hnj hkj).mpr hG).2
          have hcb := cb_eq gA g15 gW hkj hgj0
          refine lv_aload_n hC.1 hC.2.1 dX10_fitGang_22 rfl (lv_at hl 0 rfl) ?_
          refine gf_X10_32 hC hw dX10_fitGang_23 ?_
          refine lv_iload_n hC.1 hC.2.1 dX10_fitGang_26 rfl (lv_at hl 2 rfl) ?_
          refine q_callVp (As := [.int (nI k)]) (rest := []) (q0 := 5) hC hw hl (tX4_bestHost l E a (sr (sr (sr (sr (sr (sr σ 16 (d16)) 17 (d17)) 18 (d18)) 19 (d19)) 20 (d20)) 21 (d21)) nh nj σ (pB (eM (g_run v group nh nj k).1) (-1)) k hN ⟨rfl, rfl, rfl, rfl, rfl, rfl, rfl, rfl, rfl, rfl, rfl⟩ hS hFk hkj) (q_cwV hC.2.2.2.2.1 ⟨rfl, rfl⟩ wk3_32 wk3_33 wk3_34 wk1_4 wk3_35 hd_X4_bestHost ⟨Nat.le_of_ble_eq_true rfl, Nat.le_of_ble_eq_true rfl⟩) rfl rfl rfl rfl rfl (Nat.le_of_ble_eq_true rfl) dX10_fitGang_27 (fun H locs hw => ?_)
          refine lv_istore_n (lv' := [(3, .int (m_cb σ (pB (eM (g_run v group nh nj k).1) (-1)) nh nj k)), (0, .ref (a 71)), (1, .int (group)), (2, .int (nI k))]) hC.1 hC.2.1 dX10_fitGang_30 rfl hl (by decide) rfl (fun ls hl => ?_)
          refine lv_iload_n hC.1 hC.2.1 dX10_fitGang_31 rfl (lv_at hl 0 rfl) ?_
          refine lv_iconst (v := (-1)) hC.1 hC.2.1 dX10_fitGang_32 (by decide) ?_
          refine q_cmpne hC 38 cI dX10_fitGang_33 (by decide) (fun (c10 : ¬ ((m_cb σ (pB (eM (g_run v group nh nj k).1) (-1)) nh nj k) = (-1))) => ?_) (fun (c10 : (m_cb σ (pB (eM (g_run v group nh nj k).1) (-1)) nh nj k) = (-1)) => ?_)
          · have hcn := cb_n (E := σ) (P := (pB (eM (g_run v group nh nj k).1) (-1))) (nj := nj) (j := k) hnh c10
            have hTL : TL (pB (eM (g_run v group nh nj k).1) (-1)) (upd (pB (eM (g_run v group nh nj k).1) (-1)) k (nI (cN (m_bst σ (pB (eM (g_run v group nh nj k).1) (-1)) nh nj k nh)))) k (cN (m_bst σ (pB (eM (g_run v group nh nj k).1) (-1)) nh nj k nh)) 1 := Or.inl ⟨rfl, pB_n1 hgj0, rfl⟩
            refine lv_aload_n hC.1 hC.2.1 dX10_fitGang_38 rfl (lv_at hl 1 rfl) ?_
            refine gf_X10_32 hC hw dX10_fitGang_39 ?_
            refine lv_iload_n hC.1 hC.2.1 dX10_fitGang_42 rfl (lv_at hl 3 rfl) ?_
            refine lv_iload_n hC.1 hC.2.1 dX10_fitGang_43 rfl (lv_at hl 0 rfl) ?_
            refine q_top (y := nI (cN (m_bst σ (pB (eM (g_run v group nh nj k).1) (-1)) nh nj k nh))) hcn.2.1 ?_
            refine lv_iconst (v := nI 1) hC.1 hC.2.1 dX10_fitGang_44 (by decide) ?_
            refine q_callVv (As := [.int (nI k), .int (nI (cN (m_bst σ (pB (eM (g_run v group nh nj k).1) (-1)) nh nj k nh))), .int (nI 1)]) (rest := []) (q0 := 5) hC hw hl (tX4_tally l E a (sr (sr (sr (sr (sr (sr σ 16 (d16)) 17 (d17)) 18 (d18)) 19 (d19)) 20 (d20)) 21 (d21)) nh nj σ (pB (eM (g_run v group nh nj k).1) (-1)) (upd (pB (eM (g_run v group nh nj k).1) (-1)) k (nI (cN (m_bst σ (pB (eM (g_run v group nh nj k).1) (-1)) nh nj k nh)))) k (cN (m_bst σ (pB (eM (g_run v group nh nj k).1) (-1)) nh nj k nh)) 1 hN ⟨rfl, rfl, rfl, rfl, rfl, rfl, rfl, rfl, rfl, rfl, rfl⟩ hS hFk hTL hkj hcn.2.2) (q_cwV hC.2.2.2.2.1 ⟨rfl, rfl⟩ wk3_90 wk2_201 wk2_202 wk1_4 wk2_203 hd_X4_tally ⟨Nat.le_of_ble_eq_true rfl, Nat.le_of_ble_eq_true rfl⟩) rfl rfl rfl rfl rfl (Nat.le_of_ble_eq_true rfl) dX10_fitGang_45 (fun u13 H locs p11 hw => ?_)
            obtain ⟨b16_14, b17_15, b18_16, b19_17, b20_18, b21_19, hFu13, huu13⟩ := p11
            subst huu13
            have hst_ : sr (sr (sr (sr (sr (sr (sr (sr (sr (sr (sr (sr σ 16 (d16)) 17 (d17)) 18 (d18)) 19 (d19)) 20 (d20)) 21 (d21)) 16 b16_14) 17 b17_15) 18 b18_16) 19 b19_17) 20 b20_18) 21 b21_19 = sr (sr (sr (sr (sr (sr σ 16 (b16_14)) 17 (b17_15)) 18 (b18_16)) 19 (b19_17)) 20 (b20_18)) 21 (b21_19) := by
              funext j_ x_
              by_cases e0 : j_ = 0
              · subst e0
                rfl
              · by_cases e16 : j_ = 16
                · subst e16; rfl
                · by_cases e17 : j_ = 17
                  · subst e17; rfl
                  · by_cases e18 : j_ = 18
                    · subst e18; rfl
                    · by_cases e19 : j_ = 19
                      · subst e19; rfl
                      · by_cases e20 : j_ = 20
                        · subst e20; rfl
                        · by_cases e21 : j_ = 21
                          · subst e21; rfl
                          · simp only [sr, e0, e16, e17, e18, e19, e20, e21, if_false]
            rw [hst_] at hw
            refine lv_iinc (v := nI (k + 1)) (lv' := [(2, .int (nI (k + 1))), (3, .int (m_cb σ (pB (eM (g_run v group nh nj k).1) (-1)) nh nj k)), (0, .ref (a 71)), (1, .int (group))]) hC.1 hC.2.1 dX10_fitGang_48 hl (k := 3) rfl (nI_add _ _) (by decide) rfl (fun ls hl => ?_)
            refine lv_goto (tgt := 2) hC.1 hC.2.1 dX10_fitGang_51 (by decide) ?_
            have hst9 := g_run_yes hnj hkj hgk hG (by rw [← hcb]; exact hcn.1)
            rw [← hcb] at hst9
            have hg9 : (g_run v group nh nj (k + 1)).2 = true := by rw [hst9]
            have hF9 := hFu13
            have hF9 := FSr.cg (fun x hx => pB_set (v := (g_run v group nh nj k).1) (j := k) (h := (cN (m_bst σ (pB (eM (g_run v group nh nj k).1) (-1)) nh nj k nh))) (by omega) x (by omega)) hF9
            have e9 : f_std (g_run v group nh nj k).1 k (cN (m_bst σ (pB (eM (g_run v group nh nj k).1) (-1)) nh nj k nh)) = (g_run v group nh nj (k + 1)).1 := by rw [hst9]
            rw [e9] at hF9
            exact ih2 (k + 1) b16_14 b17_15 b18_16 b19_17 b20_18 b21_19 (by omega) hF9 hg9 (by omega) _ _ _ hw (lv_sub hl [2, 3, 0] rfl)
          · refine lv_iconst (v := nI 0) hC.1 hC.2.1 dX10_fitGang_36 (by decide) ?_
            refine hret _ _ _ _ _ _ hw ?_ (by decide) dX10_fitGang_37
            have hf : ¬ (g_run v group nh nj nj).2 = true := by
              have h1 : ¬ (g_run v group nh nj (k + 1)).2 = true := by rw [g_run_neg hnj hkj hgk hG (by rw [← hcb]; exact cb_1 hnh c10)]; exact fun q => Bool.noConfusion q
              have h2 := g_run_f h1 (nj - (k + 1))
              rw [show k + 1 + (nj - (k + 1)) = nj by omega] at h2; exact h2
            exact ⟨d16, d17, d18, d19, d20, d21, (if_neg hf).symm, rfl⟩
  have hst_ : σ = sr (sr (sr (sr (sr (sr σ 16 (σ 16)) 17 (σ 17)) 18 (σ 18)) 19 (σ 19)) 20 (σ 20)) 21 (σ 21) := by
    funext j_ x_
    by_cases e0 : j_ = 0
    · subst e0
      rfl
    · by_cases e16 : j_ = 16
      · subst e16; rfl
      · by_cases e17 : j_ = 17
        · subst e17; rfl
        · by_cases e18 : j_ = 18
          · subst e18; rfl
          · by_cases e19 : j_ = 19
            · subst e19; rfl
            · by_cases e20 : j_ = 20
              · subst e20; rfl
              · by_cases e21 : j_ = 21
                · subst e21; rfl
                · simp only [sr, e0, e16, e17, e18, e19, e20, e21, if_false]
  rw [hst_] at hw
  exact L2_0 _ 0 (σ 16) (σ 17) (σ 18) (σ 19) (σ 20) (σ 21) (Nat.zero_le _) hFS rfl (Nat.lt_succ_self _) _ _ _ hw (lv_sub hl [1, 2, 0] rfl)
