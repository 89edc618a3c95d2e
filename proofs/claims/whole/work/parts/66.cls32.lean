theorem CL.sm {σ u : St} {v : Nat → Int32} {nh nj T : Nat} {stk : List (Nat → Int32)} (hC : CL σ v nh nj stk T) (ha : aE u σ) (h11 : u 11 = σ 11 ∧ u 12 = σ 12 ∧ u 13 = σ 13) (h02 : u 0 2 = σ 0 2) (hf : fr0 u σ) (hF : FSr σ (pB (eM v) (-1)) nh nj (u 16) (u 17) (u 18) (u 19) (u 20) (u 21)) : CL u v nh nj stk T := by
  obtain ⟨⟨a1, a2, a3, a4, a5, a6⟩, hV, -, hR, hS⟩ := hC
  obtain ⟨f1, f2, f3, f4, f5, f6⟩ := hf
  have ha' := ha
  obtain ⟨b1, b2, b3, b4, b5, b6, b7, b8, b9, b10, b15⟩ := ha'
  refine CL.of ⟨⟨f2.trans a1.1, f3.trans a1.2⟩, h02.trans a2, a3.aE ha, ?_, by rw [f1]; exact a5, by rw [b15]; exact a6⟩ hV (FSr.aE ha hF) hR hS f6 f4 f5 ha.st (Nat.le_refl _) (Nat.le_refl _) (Nat.le_refl _)
  unfold JX
  rw [b5, b7, h11.1, h11.2.1, h11.2.2]
  exact a4
theorem fwL_sm {σ : St} {v : Nat → Int32} {nj h : Nat} (hX : JX σ v nj) : ∀ n, n ≤ nj → c_mny σ h n = nI (fwL v h n).length
  | 0, _ => rfl
  | n + 1, hn => by
    have ih := fwL_sm (h := h) hX n (by omega)
    obtain ⟨a, b, c, d⟩ := hX n (by omega)
    unfold c_mny at ih ⊢
    rw [sm, ih, fwL]
    have key : ((σ 11 n = 1 ∧ σ 12 n = nI h) ∧ (σ 11 n = 1 ∧ ¬ σ 5 n = 3)) ↔ fwc v h n := by
      unfold fwc; rw [a, c]
      exact ⟨fun q => ⟨⟨q.1.1, (d q.1.1).1.symm.trans q.1.2⟩, q.2.2⟩, fun q => ⟨⟨q.1.1, (d q.1.1).1.trans q.1.2⟩, q.1.1, q.2⟩⟩
    by_cases q : fwc v h n
    · rw [if_pos (key.mpr q), if_pos q, List.length_append]; exact nI_1 _
    · rw [if_neg (fun z => q (key.mp z)), if_neg q, Int32.add_zero]
theorem mny_eq {σ : St} {v : Nat → Int32} {nh nj T h : Nat} (hX : JX σ v nj) (hV : VI v nh nj T) (hh : h < nh) : m_mny v h nj = c_mny σ h nj := by
  rw [fwL_sm hX nj (Nat.le_refl _)]
  rcases (hV.2.2.1.2.2.1 h hh).2.1 with hu | hu
  · have h1 := hV.1.1
    have hz : ∀ n, n ≤ nj → fwL v h n = [] ∧ m_mny v h n = 0 := by
      intro n
      induction n with
      | zero => intro _; exact ⟨rfl, rfl⟩
      | succ n ih =>
        intro hn
        have hnf : ¬ fwc v h n := fun q => by
          have a := hV.2.2.2.2.2.2.1 n (by omega) q.1.1
          have e : hsN v n = h := by unfold hsN hN; rw [show v (282 + n) = nI h from q.1.2]; exact nI_clamp (by omega)
          rw [e, hu] at a; exact absurd a (by decide)
        rw [fwL, if_neg hnf, m_mny, (ih (by omega)).2, if_neg (fun q => hnf q.2)]
        exact ⟨(ih (by omega)).1, rfl⟩
    rw [(hz nj (Nat.le_refl _)).1, (hz nj (Nat.le_refl _)).2]; rfl
  · exact mny_len hu nj
theorem tgs_len {v : Nat → Int32} : ∀ n, m_tgs v n = nI (qL (tgc v) n).length
  | 0 => rfl
  | n + 1 => by
    have ih := tgs_len (v := v) n
    unfold m_tgs at ih ⊢
    rw [sm, ih, qL]
    by_cases q : eM v 14 n < 0
    · rw [if_pos q, if_neg (fun z : tgc v n = true => (of_decide_eq_true (p := ¬ eM v 14 n < 0) z) q), Int32.add_zero]
    · rw [if_neg q, if_pos (show tgc v n = true from decide_eq_true q), List.length_append]; exact nI_1 _
theorem PLc.r {v : Nat → Int32} {nh nj : Nat} {mv : Int32} {mj mh : Nat → Int32} {r mv' : Int32} {mj' mh' : Nat → Int32} (hg : ∀ j, j < nj → ¬ eM v 14 j < 0 → tgo v j) (hle : tgN v nj ≤ 4) (h : PLc v nh nj mv mj mh r mv' mj' mh') : PLr v nh nj mv mj mh r mv' mj' mh' := by
  refine Or.inr ⟨hg, Or.inr ⟨hle, ?_⟩⟩
  rcases h with h | ⟨d, s, h1, h2, h3, h4, h5, h6, h7⟩
  · exact Or.inl h
  · exact Or.inr ⟨d, s, h1, h2, h3, h4, h5, h6, fun i hi => h7 i (by omega) hi⟩
theorem ff_fit {σ : St} {v : Nat → Int32} {nh nj j : Nat} (hA : agE σ (eM v) nh nj) (hW : mF v nh nj) (hj : j < nj) (hj0 : eM v 11 j = 0) : m_ff σ (pB (eM v) (-1)) nh nj j nh = -1 ↔ ¬ m_fit (eM v) (pB (eM v) (nI j)) nh nj j nh = true := by
  have h1 := hW.1
  have hc : ∀ h, h < nh → (m_why σ (pB (eM v) (-1)) nh nj j h = 0 ↔ m_why (eM v) (pB (eM v) (nI j)) nh nj j h = 0) := fun h hh => by rw [m_why_congr hA (ad_P hW hj hj0) (pB_ok hW) h1 hj hh]
  unfold m_fit
  rw [anyB_iff]
  rcases ff_no (E0 := σ) (P := pB (eM v) (-1)) (nh := nh) (nj := nj) (j := j) (n := nh) (by omega) with ⟨a1, a2⟩ | ⟨x, a1, a2, a3, a4⟩
  · exact ⟨fun _ ⟨k, k1, k2⟩ => a2 k k1 ((hc k k1).mpr (of_decide_eq_true k2)), fun _ => a1⟩
  · exact ⟨fun q => absurd (a2.symm.trans q).symm (nI_nm1 (by omega)), fun q => absurd ⟨x, a1, decide_eq_true ((hc x a1).mp a3)⟩ q⟩
abbrev c4f := c4
theorem nI_nk {x : Nat} (hx : x < 2 ^ 30) (k : Nat) (hk : 0 < k ∧ k < 5 := by decide) : ¬ nI x = -(nI k) := fun q => by
  have h := congrArg Int32.toInt q
  rw [nI_toInt (by omega)] at h
  have hk4 : k = 1 ∨ k = 2 ∨ k = 3 ∨ k = 4 := by omega
  rcases hk4 with e | e | e | e <;> subst e
  · have e : Int32.toInt (-(nI 1)) = -1 := by decide
    omega
  · have e : Int32.toInt (-(nI 2)) = -2 := by decide
    omega
  · have e : Int32.toInt (-(nI 3)) = -3 := by decide
    omega
  · have e : Int32.toInt (-(nI 4)) = -4 := by decide
    omega
theorem c4_w {z12 z13 z14 z15 what : Int32} (h : okB what 4) : c4 z12 z13 z14 z15 (if what = 0 then 0 else if what = 1 then 1 else if what = 2 then 2 else 3) = c4 z12 z13 z14 z15 (cN what) := by
  obtain ⟨k, hk, rfl⟩ := in_nat (n := 4) (by decide) h
  rcases (show k = 0 ∨ k = 1 ∨ k = 2 ∨ k = 3 by omega) with e | e | e | e <;> subst e <;> rfl
set_option maxHeartbeats 4000000 in
set_option maxRecDepth 100000 in
theorem tX10_worst (l : Launch) (E : EV) (a : Nat → Nat) (σ : St) (nh : Nat) (nj : Nat) (v : Nat → Int32) (stk : List (Nat → Int32)) (T : Nat) (hCL : CL σ v nh nj stk T) : MI l E (XW E a) yX10_worst (Cond.code yX10_worst cX10_worst 2 (some .int)) ({ frames := 6, cells := 0, slots := 0, locals := 142 }) [.ref (a 71)] σ (fun r_ u_ => FU v nh nj r_ ∧ CL u_ v nh nj stk (T + 24) ∧ keepX σ u_) := by
  refine MI.mk (by decide +kernel) (Nat.le_of_ble_eq_true rfl) ?_
  intro p e s m args below meth c ls A Q hret hC hw hl
  have hC : Cxt E p s m args meth c cX10_worst 2 (some .int) RX10 A := hC
  have hl : lv_has ls 2 [(0, .ref (a 71))] := hl
  have hXR := hCL.1
  have hV := hCL.2.1
  have hFS := hCL.2.2.1
  have hRG := hCL.2.2.2.1
  have hSK := hCL.2.2.2.2
  have hN := hXR.1
  have hA := hXR.2.2.1
  have hX := hXR.2.2.2.1
  have hW := hV.1
  have hS : cS σ nh nj := cS.ag hA hV.2.2.1
  have hE : aE σ σ := aE.rf
  have hnh := hS.1
  have hnj := hS.2.1
  refine lv_aload_n hC.1 hC.2.1 dX10_worst_0 rfl (lv_at hl 0 rfl) ?_
  refine gf_X10_60 hC hw dX10_worst_1 ?_
  refine q_callVp (As := []) (rest := []) (q0 := 4) hC hw hl (tX3_isTooMuch l E a σ nh nj hN hnh hnj) (q_cwV hC.2.2.2.2.1 ⟨rfl, rfl⟩ wk3_137 wk3_138 wk3_139 wk1_8 wk3_140 hd_X3_isTooMuch ⟨Nat.le_of_ble_eq_true rfl, Nat.le_of_ble_eq_true rfl⟩) rfl rfl rfl rfl rfl (Nat.le_of_ble_eq_true rfl) dX10_worst_4 (fun H locs hw => ?_)
  refine q_ifeq hC 13 cB dX10_worst_7 (by decide) (fun (c4 : ¬ (¬ ∀ h, h < nh → c_mny σ h nj ≤ 4)) => ?_) (fun (c4 : ¬ ∀ h, h < nh → c_mny σ h nj ≤ 4) => ?_)
  · have hmn : ∀ h, h < nh → c_mny σ h nj ≤ 4 := Classical.byContradiction c4
    refine lv_aload_n hC.1 hC.2.1 dX10_worst_13 rfl (lv_at hl 0 rfl) ?_
    refine gf_X10_60 hC hw dX10_worst_14 ?_
    refine q_callV (As := []) (rest := []) (q0 := 4) hC hw hl (tX3_firstUnsafe l E a σ nh nj σ v hN hE hS hFS hX hA hW (fun h hh => (nI_leI (a := (fwL v h nj).length) (b := 4) (by have := fwL_len (v := v) (h := h) (n := nj); omega) (by decide)).mp (by rw [← fwL_sm hX nj (Nat.le_refl _)]; exact hmn h hh))) (q_cwV hC.2.2.2.2.1 ⟨rfl, rfl⟩ wk3_143 wk3_144 wk3_145 wk1_8 wk3_146 hd_X3_firstUnsafe ⟨Nat.le_of_ble_eq_true rfl, Nat.le_of_ble_eq_true rfl⟩) rfl rfl rfl rfl rfl (Nat.le_of_ble_eq_true rfl) dX10_worst_17 (fun r6 u7 H locs p5 hw => ?_)
    obtain ⟨hru7, b16_8, b17_9, b18_10, b19_11, b20_12, b21_13, b23_14, b24_15, b25_16, b26_17, z6_18, z7_19, z8_20, hFu7, huu7⟩ := p5
    subst huu7
    refine lv_istore_n (lv' := [(1, .int (r6)), (0, .ref (a 71))]) hC.1 hC.2.1 dX10_worst_20 rfl hl (by decide) rfl (fun ls hl => ?_)
    refine lv_iload_n hC.1 hC.2.1 dX10_worst_21 rfl (lv_at hl 0 rfl) ?_
    refine lv_iconst (v := (-1)) hC.1 hC.2.1 dX10_worst_22 (by decide) ?_
    refine q_cmpne hC 31 cI dX10_worst_23 (by decide) (fun (c21 : ¬ (r6 = (-1))) => ?_) (fun (c21 : r6 = (-1)) => ?_)
    · refine lv_iload_n hC.1 hC.2.1 dX10_worst_31 rfl (lv_at hl 0 rfl) ?_
      refine hret _ _ _ _ _ _ hw ?_ rfl dX10_worst_32
      have hfu : FU v nh nj r6 := Or.inr ⟨(fun h hh => by rw [mny_eq hX hV hh]; exact hmn h hh), Or.inl (hru7.resolve_right (fun q => c21 q.2))⟩
      exact ⟨hfu, (CL.sm (u := sr (sr (sr (sr (sr (sr (sr (sr (sr (sr (sr σ 16 (b16_8)) 17 (b17_9)) 18 (b18_10)) 19 (b19_11)) 20 (b20_12)) 21 (b21_13)) 23 (b23_14)) 24 (b24_15)) 25 (b25_16)) 26 (b26_17)) 0 (upd (upd (upd (σ 0) 6 (z6_18)) 7 (z7_19)) 8 (z8_20))) hCL ⟨rfl, rfl, rfl, rfl, rfl, rfl, rfl, rfl, rfl, rfl, rfl⟩ ⟨rfl, rfl, rfl⟩ rfl ⟨rfl, rfl, rfl, rfl, rfl, (fun r hr => by rw [sr_n (by omega), sr_n (by omega), sr_n (by omega), sr_n (by omega), sr_n (by omega), sr_n (by omega), sr_n (by omega), sr_n (by omega), sr_n (by omega), sr_n (by omega), sr_n (by omega)])⟩ hFu7).mono (by omega), rfl, rfl, rfl, rfl⟩
    · refine lv_bipush (v := (-3)) hC.1 hC.2.1 dX10_worst_26 (by decide) ?_
      refine lv_goto (tgt := 32) hC.1 hC.2.1 dX10_worst_28 (by decide) ?_
      refine hret _ _ _ _ _ _ hw ?_ rfl dX10_worst_32
      have hfu : FU v nh nj (-3) := Or.inr ⟨(fun h hh => by rw [mny_eq hX hV hh]; exact hmn h hh), Or.inr ⟨(hru7.resolve_left (fun ⟨h, h1, _, _, h2⟩ => nI_nm1 (by omega) (c21.symm.trans h2))).1, rfl⟩⟩
      exact ⟨hfu, (CL.sm (u := sr (sr (sr (sr (sr (sr (sr (sr (sr (sr (sr σ 16 (b16_8)) 17 (b17_9)) 18 (b18_10)) 19 (b19_11)) 20 (b20_12)) 21 (b21_13)) 23 (b23_14)) 24 (b24_15)) 25 (b25_16)) 26 (b26_17)) 0 (upd (upd (upd (σ 0) 6 (z6_18)) 7 (z7_19)) 8 (z8_20))) hCL ⟨rfl, rfl, rfl, rfl, rfl, rfl, rfl, rfl, rfl, rfl, rfl⟩ ⟨rfl, rfl, rfl⟩ rfl ⟨rfl, rfl, rfl, rfl, rfl, (fun r hr => by rw [sr_n (by omega), sr_n (by omega), sr_n (by omega), sr_n (by omega), sr_n (by omega), sr_n (by omega), sr_n (by omega), sr_n (by omega), sr_n (by omega), sr_n (by omega), sr_n (by omega)])⟩ hFu7).mono (by omega), rfl, rfl, rfl, rfl⟩
  · refine lv_bipush (v := (-4)) hC.1 hC.2.1 dX10_worst_10 (by decide) ?_
    refine hret _ _ _ _ _ _ hw ?_ rfl dX10_worst_12
    exact ⟨(Or.inl ⟨((Classical.byContradiction fun z => c4 (fun h hh => Classical.byContradiction fun y => z ⟨h, hh, by rw [mny_eq hX hV hh]; exact y⟩)) : ∃ h, h < nh ∧ ¬ m_mny v h nj ≤ 4), rfl⟩ : FU v nh nj (-4)), hCL.mono (by omega), rfl, rfl, rfl, rfl⟩
set_option maxHeartbeats 4000000 in
set_option maxRecDepth 100000 in
theorem tX10_safe (l : Launch) (E : EV) (a : Nat → Nat) (σ : St) (nh : Nat) (nj : Nat) (v : Nat → Int32) (stk : List (Nat → Int32)) (T : Nat) (hCL : CL σ v nh nj stk T) : MI l E (XW E a) yX10_safe (Cond.code yX10_safe cX10_safe 1 (some .int)) ({ frames := 6, cells := 0, slots := 0, locals := 142 }) [.ref (a 71)] σ (fun r_ u_ => (∃ r, FU v nh nj r ∧ r_ = (if r = -4 then -4 else if r = -3 then 1 else 0)) ∧ CL u_ v nh nj stk (T + 24) ∧ keepX σ u_) := by
  refine MI.mk (by decide +kernel) (Nat.le_of_ble_eq_true rfl) ?_
  intro p e s m args below meth c ls A Q hret hC hw hl
  have hC : Cxt E p s m args meth c cX10_safe 1 (some .int) RX10 A := hC
  have hl : lv_has ls 1 [(0, .ref (a 71))] := hl
  have hXR := hCL.1
  have hV := hCL.2.1
  have hFS := hCL.2.2.1
  have hRG := hCL.2.2.2.1
  have hSK := hCL.2.2.2.2
  have hN := hXR.1
  have hA := hXR.2.2.1
  have hX := hXR.2.2.2.1
  have hW := hV.1
  have hS : cS σ nh nj := cS.ag hA hV.2.2.1
  have hE : aE σ σ := aE.rf
  have hnh := hS.1
  have hnj := hS.2.1
  refine lv_aload_n hC.1 hC.2.1 dX10_safe_0 rfl (lv_at hl 0 rfl) ?_
  refine gf_X10_60 hC hw dX10_safe_1 ?_
  refine q_callVp (As := []) (rest := []) (q0 := 4) hC hw hl (tX3_isTooMuch l E a σ nh nj hN hnh hnj) (q_cwV hC.2.2.2.2.1 ⟨rfl, rfl⟩ wk3_137 wk3_138 wk3_139 wk1_8 wk3_140 hd_X3_isTooMuch ⟨Nat.le_of_ble_eq_true rfl, Nat.le_of_ble_eq_true rfl⟩) rfl rfl rfl rfl rfl (Nat.le_of_ble_eq_true rfl) dX10_safe_4 (fun H locs hw => ?_)
  refine q_ifeq hC 13 cB dX10_safe_7 (by decide) (fun (c4 : ¬ (¬ ∀ h, h < nh → c_mny σ h nj ≤ 4)) => ?_) (fun (c4 : ¬ ∀ h, h < nh → c_mny σ h nj ≤ 4) => ?_)
  · have hmn : ∀ h, h < nh → c_mny σ h nj ≤ 4 := Classical.byContradiction c4
    refine lv_aload_n hC.1 hC.2.1 dX10_safe_13 rfl (lv_at hl 0 rfl) ?_
    refine gf_X10_60 hC hw dX10_safe_14 ?_
    refine q_callV (As := []) (rest := []) (q0 := 4) hC hw hl (tX3_firstUnsafe l E a σ nh nj σ v hN hE hS hFS hX hA hW (fun h hh => (nI_leI (a := (fwL v h nj).length) (b := 4) (by have := fwL_len (v := v) (h := h) (n := nj); omega) (by decide)).mp (by rw [← fwL_sm hX nj (Nat.le_refl _)]; exact hmn h hh))) (q_cwV hC.2.2.2.2.1 ⟨rfl, rfl⟩ wk3_143 wk3_144 wk3_145 wk1_8 wk3_146 hd_X3_firstUnsafe ⟨Nat.le_of_ble_eq_true rfl, Nat.le_of_ble_eq_true rfl⟩) rfl rfl rfl rfl rfl (Nat.le_of_ble_eq_true rfl) dX10_safe_17 (fun r6 u7 H locs p5 hw => ?_)
    obtain ⟨hru7, b16_8, b17_9, b18_10, b19_11, b20_12, b21_13, b23_14, b24_15, b25_16, b26_17, z6_18, z7_19, z8_20, hFu7, huu7⟩ := p5
    subst huu7
    refine lv_iconst (v := (-1)) hC.1 hC.2.1 dX10_safe_20 (by decide) ?_
    have J29_22 : ∀ (w21 : Int32), w21 = (if r6 = (-1) then (1 : Int32) else 0) → ∀ (H : Heap) (locs : List Loc) (ls : Array Slot), Wst E (XW E a) (sr (sr (sr (sr (sr (sr (sr (sr (sr (sr (sr σ 16 (b16_8)) 17 (b17_9)) 18 (b18_10)) 19 (b19_11)) 20 (b20_12)) 21 (b21_13)) 23 (b23_14)) 24 (b24_15)) 25 (b25_16)) 26 (b26_17)) 0 (upd (upd (upd (σ 0) 6 (z6_18)) 7 (z7_19)) 8 (z8_20))) A s.heap H locs → lv_has ls 1 [(0, .ref (a 71))] → W p l e ({ frames := 6, cells := 0, slots := 0, locals := 142 }) s m args below meth c H locs 0 0 Q (F0 m 29 ls [.int (w21)]) := by
      intro w21 e22 H locs ls hw hl
      subst e22
      refine hret _ _ _ _ _ _ hw ?_ rfl dX10_safe_29
      rcases hru7 with ⟨h, h1, h2, h3, h4⟩ | ⟨h1, h2⟩
      · exact ⟨⟨nI h, Or.inr ⟨(fun h hh => by rw [mny_eq hX hV hh]; exact hmn h hh), Or.inl ⟨h, h1, h2, h3, rfl⟩⟩, by rw [h4, if_neg (fun q => nI_nm1 (show h < 2 ^ 31 by omega) q.symm), if_neg (show ¬ nI h = (-4 : Int32) from nI_nk (by omega) 4), if_neg (show ¬ nI h = (-3 : Int32) from nI_nk (by omega) 3)]⟩, (CL.sm (u := sr (sr (sr (sr (sr (sr (sr (sr (sr (sr (sr σ 16 (b16_8)) 17 (b17_9)) 18 (b18_10)) 19 (b19_11)) 20 (b20_12)) 21 (b21_13)) 23 (b23_14)) 24 (b24_15)) 25 (b25_16)) 26 (b26_17)) 0 (upd (upd (upd (σ 0) 6 (z6_18)) 7 (z7_19)) 8 (z8_20))) hCL ⟨rfl, rfl, rfl, rfl, rfl, rfl, rfl, rfl, rfl, rfl, rfl⟩ ⟨rfl, rfl, rfl⟩ rfl ⟨rfl, rfl, rfl, rfl, rfl, (fun r hr => by rw [sr_n (by omega), sr_n (by omega), sr_n (by omega), sr_n (by omega), sr_n (by omega), sr_n (by omega), sr_n (by omega), sr_n (by omega), sr_n (by omega), sr_n (by omega), sr_n (by omega)])⟩ hFu7).mono (by omega), rfl, rfl, rfl, rfl⟩
      · exact ⟨⟨-3, Or.inr ⟨(fun h hh => by rw [mny_eq hX hV hh]; exact hmn h hh), Or.inr ⟨h1, rfl⟩⟩, by rw [h2]; decide⟩, (CL.sm (u := sr (sr (sr (sr (sr (sr (sr (sr (sr (sr (sr σ 16 (b16_8)) 17 (b17_9)) 18 (b18_10)) 19 (b19_11)) 20 (b20_12)) 21 (b21_13)) 23 (b23_14)) 24 (b24_15)) 25 (b25_16)) 26 (b26_17)) 0 (upd (upd (upd (σ 0) 6 (z6_18)) 7 (z7_19)) 8 (z8_20))) hCL ⟨rfl, rfl, rfl, rfl, rfl, rfl, rfl, rfl, rfl, rfl, rfl⟩ ⟨rfl, rfl, rfl⟩ rfl ⟨rfl, rfl, rfl, rfl, rfl, (fun r hr => by rw [sr_n (by omega), sr_n (by omega), sr_n (by omega), sr_n (by omega), sr_n (by omega), sr_n (by omega), sr_n (by omega), sr_n (by omega), sr_n (by omega), sr_n (by omega), sr_n (by omega)])⟩ hFu7).mono (by omega), rfl, rfl, rfl, rfl⟩
    refine q_cmpne hC 28 cI dX10_safe_21 (by decide) (fun (c23 : ¬ (r6 = (-1))) => ?_) (fun (c23 : r6 = (-1)) => ?_)
    · refine lv_iconst (v := nI 0) hC.1 hC.2.1 dX10_safe_28 (by decide) ?_
      exact J29_22 _ (if_neg c23).symm _ _ _ hw (lv_sub hl [0] rfl)
    · refine lv_iconst (v := nI 1) hC.1 hC.2.1 dX10_safe_24 (by decide) ?_
      refine lv_goto (tgt := 29) hC.1 hC.2.1 dX10_safe_25 (by decide) ?_
      exact J29_22 _ (if_pos c23).symm _ _ _ hw (lv_sub hl [0] rfl)
  · refine lv_bipush (v := (-4)) hC.1 hC.2.1 dX10_safe_10 (by decide) ?_
    refine hret _ _ _ _ _ _ hw ?_ rfl dX10_safe_12
    exact ⟨⟨-4, (Or.inl ⟨((Classical.byContradiction fun z => c4 (fun h hh => Classical.byContradiction fun y => z ⟨h, hh, by rw [mny_eq hX hV hh]; exact y⟩)) : ∃ h, h < nh ∧ ¬ m_mny v h nj ≤ 4), rfl⟩ : FU v nh nj (-4)), rfl⟩, hCL.mono (by omega), rfl, rfl, rfl, rfl⟩
set_option maxHeartbeats 4000000 in
set_option maxRecDepth 100000 in
theorem tX10_plan (l : Launch) (E : EV) (a : Nat → Nat) (σ : St) (nh : Nat) (nj : Nat) (v : Nat → Int32) (stk : List (Nat → Int32)) (T : Nat) (hCL : CL σ v nh nj stk T) : MI l E (XW E a) yX10_plan (Cond.code yX10_plan cX10_plan 1 (some .int)) ({ frames := 6, cells := 0, slots := 0, locals := 144 }) [.ref (a 71)] σ (fun r_ u_ => ∃ (mv : Int32) (mj mh : Nat → Int32), PLr v nh nj (σ 0 9) (σ 27) (σ 28) r_ mv mj mh ∧ u_ 0 9 = mv ∧ u_ 27 = mj ∧ u_ 28 = mh ∧ CL u_ v nh nj stk (T + 24) ∧ u_ 0 16 = (σ 0 16)) := by
  refine MI.mk (by decide +kernel) (Nat.le_of_ble_eq_true rfl) ?_
  intro p e s m args below meth c ls A Q hret hC hw hl
  have hC : Cxt E p s m args meth c cX10_plan 1 (some .int) RX10 A := hC
  have hl : lv_has ls 1 [(0, .ref (a 71))] := hl
  have hXR := hCL.1
  have hV := hCL.2.1
  have hFS := hCL.2.2.1
  have hRG := hCL.2.2.2.1
  have hSK := hCL.2.2.2.2
  have hN := hXR.1
  have hA := hXR.2.2.1
  have hX := hXR.2.2.2.1
  have hW := hV.1
  have hS : cS σ nh nj := cS.ag hA hV.2.2.1
  have hE : aE σ σ := aE.rf
  have hnh := hS.1
  have hnj := hS.2.1
  refine lv_aload_n hC.1 hC.2.1 dX10_plan_0 rfl (lv_at hl 0 rfl) ?_
  refine gf_X10_67 hC hw dX10_plan_1 ?_
  refine q_callVp (As := []) (rest := []) (q0 := 9) hC hw hl (tX8_canMoveAll l E a σ nh nj hN hnh hnj) (q_cwV hC.2.2.2.2.1 ⟨rfl, rfl⟩ wk3_218 wk3_219 wk3_220 wk1_9 wk3_221 hd_X8_canMoveAll ⟨Nat.le_of_ble_eq_true rfl, Nat.le_of_ble_eq_true rfl⟩) rfl rfl rfl rfl rfl (Nat.le_of_ble_eq_true rfl) dX10_plan_4 (fun H locs hw => ?_)
  refine q_ifne hC 13 cB dX10_plan_7 (by decide) (fun (c4 : ∀ j, j < nj → ¬ (σ 14) j = -1 → ((σ 11) j = 1 ∧ ¬ (σ 5) j = 3)) => ?_) (fun (c4 : ¬ (∀ j, j < nj → ¬ (σ 14) j = -1 → ((σ 11) j = 1 ∧ ¬ (σ 5) j = 3))) => ?_)
  · have hTG : ∀ j, j < nj → ¬ eM v 14 j < 0 → tgo v j := fun j hj q => by
      have h9 := c4 j hj (fun e => q ((hV.2.2.2.2.2.1.neg hnh hj).mp ((hXR.2.2.2.2.1 j hj).symm.trans e)))
      exact ⟨(hX j hj).2.2.1.symm.trans h9.1, fun e => h9.2 ((hX j hj).1.trans e)⟩
    refine lv_aload_n hC.1 hC.2.1 dX10_plan_13 rfl (lv_at hl 0 rfl) ?_
    refine gf_X10_19 hC hw dX10_plan_14 ?_
    refine q_callVp (As := []) (rest := []) (q0 := 7) hC hw hl (tX6_targets l E a σ nh nj hN hnh hnj) (q_cwV hC.2.2.2.2.1 ⟨rfl, rfl⟩ wk3_210 wk3_211 wk3_212 wk1_3 wk3_213 hd_X6_targets ⟨Nat.le_of_ble_eq_true rfl, Nat.le_of_ble_eq_true rfl⟩) rfl rfl rfl rfl rfl (Nat.le_of_ble_eq_true rfl) dX10_plan_17 (fun H locs hw => ?_)
    refine lv_iconst (v := nI 4) hC.1 hC.2.1 dX10_plan_20 (by decide) ?_
    refine q_cmple hC 27 cI dX10_plan_21 (by decide) (fun (c8 : (c_tgs (σ 14) nj) ≤ 4) => ?_) (fun (c8 : ¬ ((c_tgs (σ 14) nj) ≤ 4)) => ?_)
    · have hqn := qL_len (c := tgc v) (n := nj)
      have hle9 : (qL (tgc v) nj).length ≤ 4 := (nI_leI (b := 4) (by omega) (by decide)).mp (by rw [← tgs_len, ← c_tgs_eq hXR.2.2.2.2.1 hV.2.2.2.2.2.1 hnh]; exact c8)
      refine lv_aload_n hC.1 hC.2.1 dX10_plan_27 rfl (lv_at hl 0 rfl) ?_
      refine gf_X10_67 hC hw dX10_plan_28 ?_
      refine q_callV (As := []) (rest := []) (q0 := 9) hC hw hl (tX8_find l E a σ nh nj σ v hN hE hS hFS hX hA hW hXR.2.2.2.2.1 hV.2.2.2.2.2.1 hTG hle9) (q_cwV hC.2.2.2.2.1 ⟨rfl, rfl⟩ wk3_223 wk3_224 wk3_225 wk1_9 wk3_226 hd_X8_find ⟨Nat.le_of_ble_eq_true rfl, Nat.le_of_ble_eq_true rfl⟩) rfl rfl rfl rfl rfl (Nat.le_of_ble_eq_true rfl) dX10_plan_31 (fun r10 u11 H locs p9 hw => ?_)
      obtain ⟨b16_12, b17_13, b18_14, b19_15, b20_16, b21_17, b23_18, b24_19, b25_20, b26_21, b27_22, b28_23, z6_24, z7_25, z8_26, z9_27, hFu11, hru11, huu11⟩ := p9
      subst huu11
      refine hret _ _ _ _ _ _ hw ?_ rfl dX10_plan_34
      exact ⟨z9_27, b27_22, b28_23, hru11.r hTG hle9, rfl, rfl, rfl, (CL.sm (u := sr (sr (sr (sr (sr (sr (sr (sr (sr (sr (sr (sr (sr σ 16 (b16_12)) 17 (b17_13)) 18 (b18_14)) 19 (b19_15)) 20 (b20_16)) 21 (b21_17)) 23 (b23_18)) 24 (b24_19)) 25 (b25_20)) 26 (b26_21)) 27 (b27_22)) 28 (b28_23)) 0 (upd (upd (upd (upd (σ 0) 6 (z6_24)) 7 (z7_25)) 8 (z8_26)) 9 (z9_27))) hCL ⟨rfl, rfl, rfl, rfl, rfl, rfl, rfl, rfl, rfl, rfl, rfl⟩ ⟨rfl, rfl, rfl⟩ rfl ⟨rfl, rfl, rfl, rfl, rfl, (fun r hr => by rw [sr_n (by omega), sr_n (by omega), sr_n (by omega), sr_n (by omega), sr_n (by omega), sr_n (by omega), sr_n (by omega), sr_n (by omega), sr_n (by omega), sr_n (by omega), sr_n (by omega), sr_n (by omega), sr_n (by omega)])⟩ hFu11).mono (by omega), rfl⟩
    · have hqn := qL_len (c := tgc v) (n := nj)
      refine lv_bipush (v := (-4)) hC.1 hC.2.1 dX10_plan_24 (by decide) ?_
      refine hret _ _ _ _ _ _ hw ?_ rfl dX10_plan_26
      exact ⟨σ 0 9, σ 27, σ 28, Or.inr ⟨hTG, Or.inl ⟨fun q => c8 (by rw [c_tgs_eq hXR.2.2.2.2.1 hV.2.2.2.2.2.1 hnh, tgs_len]; exact (nI_leI (b := 4) (by omega) (by decide)).mpr q), rfl, rfl, rfl, rfl⟩⟩, rfl, rfl, rfl, hCL.mono (by omega), rfl⟩
  · refine lv_bipush (v := (-2)) hC.1 hC.2.1 dX10_plan_10 (by decide) ?_
    refine hret _ _ _ _ _ _ hw ?_ rfl dX10_plan_12
    refine ⟨σ 0 9, σ 27, σ 28, Or.inl ⟨Classical.byContradiction fun z => c4 (fun j hj hq => Classical.byContradiction fun y => z ⟨j, hj, fun w => hq ((hXR.2.2.2.2.1 j hj).trans ((hV.2.2.2.2.2.1.neg hnh hj).mpr w)), fun w => y ⟨(hX j hj).2.2.1.trans w.1, fun e => w.2 ((hX j hj).1.symm.trans e)⟩⟩), rfl, rfl, rfl, rfl⟩, rfl, rfl, rfl, hCL.mono (by omega), rfl⟩
set_option maxHeartbeats 4000000 in
set_option maxRecDepth 100000 in
theorem tX10_fewest (l : Launch) (E : EV) (a : Nat → Nat) (σ : St) (nh : Nat) (nj : Nat) (v : Nat → Int32) (stk : List (Nat → Int32)) (T : Nat) (hCL : CL σ v nh nj stk T) : MI l E (XW E a) yX10_fewest (Cond.code yX10_fewest cX10_fewest 1 (some .int)) ({ frames := 10, cells := 0, slots := 0, locals := 244 }) [.ref (a 71)] σ (fun r_ u_ => FWr v nh nj r_ ∧ CL u_ v nh nj stk (T + 24) ∧ keepX σ u_) := by
  refine MI.mk (by decide +kernel) (Nat.le_of_ble_eq_true rfl) ?_
  intro p e s m args below meth c ls A Q hret hC hw hl
  have hC : Cxt E p s m args meth c cX10_fewest 1 (some .int) RX10 A := hC
  have hl : lv_has ls 1 [(0, .ref (a 71))] := hl
  have hXR := hCL.1
  have hV := hCL.2.1
  have hFS := hCL.2.2.1
  have hRG := hCL.2.2.2.1
  have hSK := hCL.2.2.2.2
  have hN := hXR.1
  have hA := hXR.2.2.1
  have hX := hXR.2.2.2.1
  have hW := hV.1
  have hS : cS σ nh nj := cS.ag hA hV.2.2.1
  have hE : aE σ σ := aE.rf
  have hnh := hS.1
  have hnj := hS.2.1
  refine lv_aload_n hC.1 hC.2.1 dX10_fewest_0 rfl (lv_at hl 0 rfl) ?_
  refine gf_X10_74 hC hw dX10_fewest_1 ?_
  refine q_callV (As := []) (rest := []) (q0 := 10) hC hw hl (tX9_gather l E a σ nh nj v hN hnh hnj hX) (q_cwV hC.2.2.2.2.1 ⟨rfl, rfl⟩ wk4_17 wk4_18 wk4_19 wk1_10 wk4_20 hd_X9_gather ⟨Nat.le_of_ble_eq_true rfl, Nat.le_of_ble_eq_true rfl⟩) rfl rfl rfl rfl rfl (Nat.le_of_ble_eq_true rfl) dX10_fewest_4 (fun r2 u3 H locs p1 hw => ?_)
  obtain ⟨hru3, b29_4, hmemu3, huu3⟩ := p1
  subst huu3 hru3
  have hqn := qL_len (c := fwc2 v) (n := nj)
  refine lv_iconst (v := nI 5) hC.1 hC.2.1 dX10_fewest_7 (by decide) ?_
  refine q_cmple hC 14 (cNle (by omega) (by omega)) dX10_fewest_8 (by decide) (fun (c5 : ((qL (fwc2 v) nj).length) ≤ 5) => ?_) (fun (c5 : 5 < ((qL (fwc2 v) nj).length)) => ?_)
  · refine lv_aload_n hC.1 hC.2.1 dX10_fewest_14 rfl (lv_at hl 0 rfl) ?_
    refine gf_X10_74 hC hw dX10_fewest_15 ?_
    refine q_callV (As := []) (rest := []) (q0 := 10) hC hw hl (tX9_fewestHosts l E a (sr (sr σ 29 (b29_4)) 0 (upd (σ 0) 10 (nI (if 5 < (qL (fwc2 v) nj).length then 5 else (qL (fwc2 v) nj).length)))) nh nj σ v hN hE hS hFS hX hA hW (congrArg nI (if_neg (Nat.not_lt.mpr c5))) c5 (fun i hi => hmemu3 i hi (Nat.lt_of_lt_of_le hi c5))) (q_cwV hC.2.2.2.2.1 ⟨rfl, rfl⟩ wk4_25 wk4_26 wk4_27 wk1_10 wk4_28 hd_X9_fewestHosts ⟨Nat.le_of_ble_eq_true rfl, Nat.le_of_ble_eq_true rfl⟩) rfl rfl rfl rfl rfl (Nat.le_of_ble_eq_true rfl) dX10_fewest_18 (fun r7 u8 H locs p6 hw => ?_)
    obtain ⟨hru8, b16_9, b17_10, b18_11, b19_12, b20_13, b21_14, z11_15, hFu8, huu8⟩ := p6
    subst huu8
    have hst_ : sr (sr (sr (sr (sr (sr (sr (sr (sr σ 29 (b29_4)) 0 (upd (σ 0) 10 (nI (if 5 < (qL (fwc2 v) nj).length then 5 else (qL (fwc2 v) nj).length)))) 16 b16_9) 17 b17_10) 18 b18_11) 19 b19_12) 20 b20_13) 21 b21_14) 0 (upd ((sr (sr σ 29 (b29_4)) 0 (upd (σ 0) 10 (nI (if 5 < (qL (fwc2 v) nj).length then 5 else (qL (fwc2 v) nj).length)))) 0) 11 z11_15) = sr (sr (sr (sr (sr (sr (sr (sr σ 16 (b16_9)) 17 (b17_10)) 18 (b18_11)) 19 (b19_12)) 20 (b20_13)) 21 (b21_14)) 29 (b29_4)) 0 (upd (upd (σ 0) 10 (nI (if 5 < (qL (fwc2 v) nj).length then 5 else (qL (fwc2 v) nj).length))) 11 (z11_15)) := by
      funext j_ x_
      by_cases e0 : j_ = 0
      · subst e0
        by_cases y10 : x_ = 10
        · subst y10; rfl
        · by_cases y11 : x_ = 11
          · subst y11; rfl
          · simp [sr, upd, y10, y11]
      · by_cases e16 : j_ = 16
        · subst e16; rfl
        · by_cases e17 : j_ = 17
          · subst e17; rfl
          · by_cases e18 : j_ = 18
            · subst e18; rfl
            · by_cases e19 : j_ = 19
              · subst e19; rfl
              · by_cases e20 : j_ = 20
                · subst e20; rfl
                · by_cases e21 : j_ = 21
                  · subst e21; rfl
                  · by_cases e29 : j_ = 29
                    · subst e29; rfl
                    · simp only [sr, e0, e16, e17, e18, e19, e20, e21, e29, if_false]
    rw [hst_] at hw
    refine hret _ _ _ _ _ _ hw ?_ rfl dX10_fewest_21
    exact ⟨Or.inr ⟨c5, hru8⟩, (CL.sm (u := sr (sr (sr (sr (sr (sr (sr (sr σ 16 (b16_9)) 17 (b17_10)) 18 (b18_11)) 19 (b19_12)) 20 (b20_13)) 21 (b21_14)) 29 (b29_4)) 0 (upd (upd (σ 0) 10 (nI (if 5 < (qL (fwc2 v) nj).length then 5 else (qL (fwc2 v) nj).length))) 11 (z11_15))) hCL ⟨rfl, rfl, rfl, rfl, rfl, rfl, rfl, rfl, rfl, rfl, rfl⟩ ⟨rfl, rfl, rfl⟩ rfl ⟨rfl, rfl, rfl, rfl, rfl, (fun r hr => by rw [sr_n (by omega), sr_n (by omega), sr_n (by omega), sr_n (by omega), sr_n (by omega), sr_n (by omega), sr_n (by omega), sr_n (by omega)])⟩ hFu8).mono (by omega), rfl, rfl, rfl, rfl⟩
  · refine lv_bipush (v := (-4)) hC.1 hC.2.1 dX10_fewest_11 (by decide) ?_
    refine hret _ _ _ _ _ _ hw ?_ rfl dX10_fewest_13
    exact ⟨Or.inl ⟨c5, rfl⟩, (CL.sm (u := sr (sr σ 29 (b29_4)) 0 (upd (σ 0) 10 (nI (if 5 < (qL (fwc2 v) nj).length then 5 else (qL (fwc2 v) nj).length)))) hCL ⟨rfl, rfl, rfl, rfl, rfl, rfl, rfl, rfl, rfl, rfl, rfl⟩ ⟨rfl, rfl, rfl⟩ rfl ⟨rfl, rfl, rfl, rfl, rfl, (fun r hr => by rw [sr_n (by omega), sr_n (by omega)])⟩ hFS).mono (by omega), rfl, rfl, rfl, rfl⟩
set_option maxHeartbeats 4000000 in
set_option maxRecDepth 100000 in
theorem tX10_would (l : Launch) (E : EV) (a : Nat → Nat) (σ : St) (nh : Nat) (nj : Nat) (v : Nat → Int32) (stk : List (Nat → Int32)) (T : Nat) (job : Int32) (what : Int32) (hCL : CL σ v nh nj stk T) : MI l E (XW E a) yX10_would (Cond.code yX10_would cX10_would 3 (some .int)) ({ frames := 6, cells := 0, slots := 0, locals := 144 }) [.ref (a 71), .int (job), .int (what)] σ (fun r_ u_ => WOr v nh nj job what r_ ∧ CL u_ v nh nj stk (T + 24) ∧ keepX σ u_) := by
  refine MI.mk (by decide +kernel) (Nat.le_of_ble_eq_true rfl) ?_
  intro p e s m args below meth c ls A Q hret hC hw hl
  have hC : Cxt E p s m args meth c cX10_would 3 (some .int) RX10 A := hC
  have hl : lv_has ls 3 [(0, .ref (a 71)), (1, .int (job)), (2, .int (what))] := hl
  have hXR := hCL.1
  have hV := hCL.2.1
  have hFS := hCL.2.2.1
  have hRG := hCL.2.2.2.1
  have hSK := hCL.2.2.2.2
  have hN := hXR.1
  have hA := hXR.2.2.1
  have hX := hXR.2.2.2.1
  have hW := hV.1
  have hS : cS σ nh nj := cS.ag hA hV.2.2.1
  have hE : aE σ σ := aE.rf
  have hnh := hS.1
  have hnj := hS.2.1
  refine lv_aload_n hC.1 hC.2.1 dX10_would_0 rfl (lv_at hl 0 rfl) ?_
  refine gf_X10_19 hC hw dX10_would_1 ?_
  refine lv_iload_n hC.1 hC.2.1 dX10_would_4 rfl (lv_at hl 1 rfl) ?_
  refine q_callVp (As := [.int (job)]) (rest := []) (q0 := 7) hC hw hl (tX6_has l E a σ nh nj job (by first | assumption | omega)) (q_cwV hC.2.2.2.2.1 ⟨rfl, rfl⟩ wk2_232 wk2_205 wk2_206 wk1_3 wk2_207 hd_X6_has ⟨Nat.le_of_ble_eq_true rfl, Nat.le_of_ble_eq_true rfl⟩) rfl rfl rfl rfl rfl (Nat.le_of_ble_eq_true rfl) dX10_would_5 (fun H locs hw => ?_)
  refine q_ifeq hC 19 cB dX10_would_8 (by decide) (fun (c4 : ¬ (¬ job < 0 ∧ job < nI nj)) => ?_) (fun (c4 : ¬ job < 0 ∧ job < nI nj) => ?_)
  · refine lv_iconst (v := (-1)) hC.1 hC.2.1 dX10_would_19 (by decide) ?_
    refine hret _ _ _ _ _ _ hw ?_ rfl dX10_would_20
    exact ⟨Or.inl ⟨fun q => c4 q.1, rfl⟩, hCL.mono (by omega), rfl, rfl, rfl, rfl⟩
  · refine lv_iload_n hC.1 hC.2.1 dX10_would_11 rfl (lv_at hl 2 rfl) ?_
    refine lv_iconst (v := nI 4) hC.1 hC.2.1 dX10_would_12 (by decide) ?_
    refine q_callSp (As := [.int (what), .int (nI 4)]) (rest := []) hC hw hl (tX10_isBelow l E a σ what 4) (q_cwS hC.2.2.2.2.1 ⟨rfl, rfl⟩ wk2_175 wk2_176 wk1_1 wk2_177 hd_X10_isBelow.2 ⟨Nat.le_of_ble_eq_true rfl, Nat.le_of_ble_eq_true rfl⟩) rfl rfl (Nat.le_of_ble_eq_true rfl) dX10_would_13 (fun H locs hw => ?_)
    refine q_ifne hC 21 cB dX10_would_16 (by decide) (fun (c8 : ¬ what < 0 ∧ what < 4) => ?_) (fun (c8 : ¬ (¬ what < 0 ∧ what < 4)) => ?_)
    · obtain ⟨jn, h_jn, rfl⟩ := in_nat (by omega) c4
      have z_jn := nI_clamp (show jn < 2 ^ 31 by omega)
      have y_jn : cN (nI jn) = jn := z_jn
      refine lv_aload_n hC.1 hC.2.1 dX10_would_21 rfl (lv_at hl 0 rfl) ?_
      refine gf_X10_19 hC hw dX10_would_22 ?_
      refine gf_X10_126 hC hw dX10_would_25 ?_
      refine lv_iload_n hC.1 hC.2.1 dX10_would_28 rfl (lv_at hl 1 rfl) ?_
      refine al_X11 (v := σ 11 jn) hC hw (by omega) rfl dX10_would_29 ?_
      refine q_ifne hC 45 cI dX10_would_30 (by decide) (fun (c9 : ¬ (σ 11 jn = 0)) => ?_) (fun (c9 : σ 11 jn = 0) => ?_)
      · refine lv_bipush (v := (-2)) hC.1 hC.2.1 dX10_would_45 (by decide) ?_
        refine hret _ _ _ _ _ _ hw ?_ rfl dX10_would_47
        exact ⟨Or.inr ⟨⟨c4, c8⟩, Or.inl ⟨Or.inl (fun q => c9 ((hX jn (by omega)).2.2.1.trans (by rw [← y_jn]; exact q))), rfl⟩⟩, hCL.mono (by omega), rfl, rfl, rfl, rfl⟩
      · refine lv_aload_n hC.1 hC.2.1 dX10_would_33 rfl (lv_at hl 0 rfl) ?_
        refine gf_X10_32 hC hw dX10_would_34 ?_
        refine lv_iload_n hC.1 hC.2.1 dX10_would_37 rfl (lv_at hl 1 rfl) ?_
        refine q_callVp (As := [.int (nI jn)]) (rest := []) (q0 := 5) hC hw hl (tX4_firstFit l E a σ nh nj σ (pB (eM v) (-1)) jn hN hE hS hFS h_jn) (q_cwV hC.2.2.2.2.1 ⟨rfl, rfl⟩ wk4_45 wk4_46 wk4_47 wk1_4 wk4_48 hd_X4_firstFit ⟨Nat.le_of_ble_eq_true rfl, Nat.le_of_ble_eq_true rfl⟩) rfl rfl rfl rfl rfl (Nat.le_of_ble_eq_true rfl) dX10_would_38 (fun H locs hw => ?_)
        refine lv_iconst (v := (-1)) hC.1 hC.2.1 dX10_would_41 (by decide) ?_
        refine q_cmpeq hC 48 cI dX10_would_42 (by decide) (fun (c13 : (m_ff σ (pB (eM v) (-1)) nh nj jn nh) = (-1)) => ?_) (fun (c13 : ¬ ((m_ff σ (pB (eM v) (-1)) nh nj jn nh) = (-1))) => ?_)
        · refine lv_aload_n hC.1 hC.2.1 dX10_would_48 rfl (lv_at hl 0 rfl) ?_
          refine gf_X10_81 hC hw dX10_would_49 ?_
          refine lv_iload_n hC.1 hC.2.1 dX10_would_52 rfl (lv_at hl 1 rfl) ?_
          refine q_callV (As := [.int (nI jn)]) (rest := []) (q0 := 1) hC hw hl (tX0_find l E a σ nh nj σ v jn hN hE hS hFS hX hA hW (cT.ag hA hV.2.2.2.1) h_jn ((hX jn (by omega)).2.2.1.symm.trans c9)) (q_cwV hC.2.2.2.2.1 ⟨rfl, rfl⟩ wk4_49 wk4_50 wk4_51 wk1_11 wk4_52 hd_X0_find ⟨Nat.le_of_ble_eq_true rfl, Nat.le_of_ble_eq_true rfl⟩) rfl rfl rfl rfl rfl (Nat.le_of_ble_eq_true rfl) dX10_would_53 (fun r15 u16 H locs p14 hw => ?_)
          obtain ⟨b16_17, b17_18, b18_19, b19_20, b20_21, b21_22, z12_23, z13_24, z14_25, z15_26, hFu16, hru16, h01u16, huu16⟩ := p14
          subst huu16
          refine q_ifne hC 62 cI dX10_would_56 (by decide) (fun (c27 : ¬ (r15 = 0)) => ?_) (fun (c27 : r15 = 0) => ?_)
          · refine lv_aload_n hC.1 hC.2.1 dX10_would_62 rfl (lv_at hl 0 rfl) ?_
            refine gf_X10_81 hC hw dX10_would_63 ?_
            refine lv_iload_n hC.1 hC.2.1 dX10_would_66 rfl (lv_at hl 2 rfl) ?_
            refine q_callVp (As := [.int (what)]) (rest := []) (q0 := 1) hC hw hl (tX0_part l E a (sr (sr (sr (sr (sr (sr (sr σ 16 (b16_17)) 17 (b17_18)) 18 (b18_19)) 19 (b19_20)) 20 (b20_21)) 21 (b21_22)) 0 (upd (upd (upd (upd (σ 0) 12 (z12_23)) 13 (z13_24)) 14 (z14_25)) 15 (z15_26))) what) (q_cwV hC.2.2.2.2.1 ⟨rfl, rfl⟩ wk4_73 wk4_74 wk4_75 wk1_11 wk4_76 hd_X0_part ⟨Nat.le_of_ble_eq_true rfl, Nat.le_of_ble_eq_true rfl⟩) rfl rfl rfl rfl rfl (Nat.le_of_ble_eq_true rfl) dX10_would_67 (fun H locs hw => ?_)
            refine hret _ _ _ _ _ _ hw ?_ rfl dX10_would_70
            exact ⟨Or.inr ⟨⟨c4, c8⟩, Or.inr ⟨by rw [y_jn]; exact ⟨((hX jn (by omega)).2.2.1.symm.trans c9), (ff_fit hA hW h_jn ((hX jn (by omega)).2.2.1.symm.trans c9)).mp c13⟩, c4f z12_23 z13_24 z14_25 z15_26, r15, by rw [y_jn]; exact hru16, by rw [if_pos (h01u16.resolve_right c27)]; exact c4_w c8⟩⟩, (CL.sm (u := sr (sr (sr (sr (sr (sr (sr σ 16 (b16_17)) 17 (b17_18)) 18 (b18_19)) 19 (b19_20)) 20 (b20_21)) 21 (b21_22)) 0 (upd (upd (upd (upd (σ 0) 12 (z12_23)) 13 (z13_24)) 14 (z14_25)) 15 (z15_26))) hCL ⟨rfl, rfl, rfl, rfl, rfl, rfl, rfl, rfl, rfl, rfl, rfl⟩ ⟨rfl, rfl, rfl⟩ rfl ⟨rfl, rfl, rfl, rfl, rfl, (fun r hr => by rw [sr_n (by omega), sr_n (by omega), sr_n (by omega), sr_n (by omega), sr_n (by omega), sr_n (by omega), sr_n (by omega)])⟩ hFu16).mono (by omega), rfl, rfl, rfl, rfl⟩
          · refine lv_bipush (v := (-3)) hC.1 hC.2.1 dX10_would_59 (by decide) ?_
            refine hret _ _ _ _ _ _ hw ?_ rfl dX10_would_61
            exact ⟨Or.inr ⟨⟨c4, c8⟩, Or.inr ⟨by rw [y_jn]; exact ⟨((hX jn (by omega)).2.2.1.symm.trans c9), (ff_fit hA hW h_jn ((hX jn (by omega)).2.2.1.symm.trans c9)).mp c13⟩, c4f z12_23 z13_24 z14_25 z15_26, r15, by rw [y_jn]; exact hru16, (if_neg (fun q => absurd (c27.symm.trans q) (by decide))).symm⟩⟩, (CL.sm (u := sr (sr (sr (sr (sr (sr (sr σ 16 (b16_17)) 17 (b17_18)) 18 (b18_19)) 19 (b19_20)) 20 (b20_21)) 21 (b21_22)) 0 (upd (upd (upd (upd (σ 0) 12 (z12_23)) 13 (z13_24)) 14 (z14_25)) 15 (z15_26))) hCL ⟨rfl, rfl, rfl, rfl, rfl, rfl, rfl, rfl, rfl, rfl, rfl⟩ ⟨rfl, rfl, rfl⟩ rfl ⟨rfl, rfl, rfl, rfl, rfl, (fun r hr => by rw [sr_n (by omega), sr_n (by omega), sr_n (by omega), sr_n (by omega), sr_n (by omega), sr_n (by omega), sr_n (by omega)])⟩ hFu16).mono (by omega), rfl, rfl, rfl, rfl⟩
        · refine lv_bipush (v := (-2)) hC.1 hC.2.1 dX10_would_45 (by decide) ?_
          refine hret _ _ _ _ _ _ hw ?_ rfl dX10_would_47
          exact ⟨Or.inr ⟨⟨c4, c8⟩, Or.inl ⟨Or.inr (by rw [y_jn]; exact Classical.byContradiction fun q => c13 ((ff_fit hA hW h_jn ((hX jn (by omega)).2.2.1.symm.trans c9)).mpr q)), rfl⟩⟩, hCL.mono (by omega), rfl, rfl, rfl, rfl⟩
    · refine lv_iconst (v := (-1)) hC.1 hC.2.1 dX10_would_19 (by decide) ?_
      refine hret _ _ _ _ _ _ hw ?_ rfl dX10_would_20
      exact ⟨Or.inl ⟨fun q => c8 q.2, rfl⟩, hCL.mono (by omega), rfl, rfl, rfl, rfl⟩
