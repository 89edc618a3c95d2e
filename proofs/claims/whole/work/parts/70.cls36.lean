theorem why_up {E : St} {P : Nat → Int32} {nh nj j h : Nat} (q : m_why E P nh nj j h = 0) : ¬ E 4 h = 0 := fun z => by
  unfold m_why at q; rw [if_pos z] at q; exact absurd q (by decide)
theorem cS.up1 {E : St} {nh nj h : Nat} (hS : cS E nh nj) (hh : h < nh) (q : ¬ E 4 h = 0) : E 4 h = 1 := (hS.2.2.1 h hh).2.1.resolve_left q
theorem fal_s1 {v : Nat → Int32} {h n j : Nat} (hh : h < 10) (hj : j < n) (q : f_fal v h n (258 + j) = 1) : v (258 + j) = 1 ∧ ¬ v (282 + j) = nI h := by
  unfold f_fal at q
  rw [if_neg (by omega)] at q
  by_cases z : (258 ≤ 258 + j ∧ 258 + j < 258 + n) ∧ v (258 + j) = 1 ∧ v (258 + j + 24) = nI h
  · rw [if_pos z] at q
    split at q
    · exact absurd q (by decide)
    · exact absurd q (by decide)
  · rw [if_neg z] at q
    exact ⟨q, fun e => z ⟨⟨by omega, by omega⟩, q, by rw [show 258 + j + 24 = 282 + j by omega]; exact e⟩⟩
theorem fal_4 {v : Nat → Int32} {h n x : Nat} (hx : x < 10) : f_fal v h n (56 + x) = if x = h then 0 else v (56 + x) := by
  unfold f_fal
  by_cases e : x = h
  · rw [if_pos (by omega), if_pos e]
  · rw [if_neg (by omega), if_neg (by omega), if_neg e]
theorem VI.fal {v : Nat → Int32} {nh nj T h : Nat} (hV : VI v nh nj T) (hh : h < nh) : VI (f_fal v h nj) nh nj T := by
  obtain ⟨h1, h2, h3, h4, h5, h6, h7, h8, t, h9, h10, h11⟩ := hV
  have hn := h1.1; have hj := h1.2.1
  have r : ∀ i, (i < 56 ∨ 66 ≤ i) → (i < 258 ∨ 282 ≤ i) → f_fal v h nj i = v i := fun i a b => f_fal_o a (by omega) (by omega)
  have st : ∀ k, k < nj → eM (f_fal v h nj) 11 k = 1 → eM v 11 k = 1 ∧ ¬ eM v 12 k = nI h := fun k hk q => fal_s1 (by omega) hk q
  refine ⟨f_fal_mF h1 hh, fun i hi => by rw [r i (by omega) (by omega)]; exact h2 i hi, ⟨hn, hj, fun x hx => ?_, fun x hx => ?_⟩, ⟨fun x hx i hi => ?_, fun x hx i hi => ?_⟩, fun j hjj => ?_, fun j hjj => ?_, fun j hjj hs => ?_, fun x hx y hy sx sy e => ?_, t, by rw [r 5 (by omega) (by omega)]; exact h9, h10, fun j hjj hs => ?_⟩
  · have q := h3.2.2.1 x hx
    refine ⟨?_, ?_, fun i hi => ?_⟩
    · show ∃ y, y < 5 ∧ f_fal v h nj (36 + x) = nI y; rw [r _ (by omega) (by omega)]; exact q.1
    · show f_fal v h nj (56 + x) = 0 ∨ f_fal v h nj (56 + x) = 1
      rw [fal_4 (by omega)]
      split
      · exact Or.inl rfl
      · exact q.2.1
    · show bd5 (f_fal v h nj (6 + (3 * x + i))); rw [r _ (by omega) (by omega)]; exact q.2.2 i hi
  · have q := h3.2.2.2 x hx
    refine ⟨?_, ?_, fun i hi => ?_⟩
    · show ∃ y, y < 8 ∧ f_fal v h nj (186 + x) = nI y; rw [r _ (by omega) (by omega)]; exact q.1
    · show ∃ y, y < 8 ∧ f_fal v h nj (234 + x) = nI y; rw [r _ (by omega) (by omega)]; exact q.2.1
    · show bd5 (f_fal v h nj (90 + (3 * x + i))); rw [r _ (by omega) (by omega)]; exact q.2.2 i hi
  · show 0 ≤ (f_fal v h nj (6 + (3 * x + i))).toInt ∧ (f_fal v h nj (6 + (3 * x + i))).toInt ≤ 1000
    rw [r _ (by omega) (by omega)]; exact h4.1 x hx i hi
  · show 0 ≤ (f_fal v h nj (90 + (3 * x + i))).toInt ∧ (f_fal v h nj (90 + (3 * x + i))).toInt ≤ 1000
    rw [r _ (by omega) (by omega)]; exact h4.2 x hx i hi
  · show ¬ f_fal v h nj (162 + j) < 0; rw [r _ (by omega) (by omega)]; exact h5 j hjj
  · show f_fal v h nj (330 + j) = -1 ∨ ∃ y, y < nh ∧ f_fal v h nj (330 + j) = nI y
    rw [r _ (by omega) (by omega)]; exact h6 j hjj
  · obtain ⟨s1, s2⟩ := st j hjj hs
    have e : hsN (f_fal v h nj) j = hsN v j := by unfold hsN hN; rw [r _ (by omega) (by omega)]
    have hl := h1.host hjj s1
    have hl2 : hsN v j < nh := hl.2
    have hl1 : v (282 + j) = nI (hsN v j) := hl.1
    rw [e]; show f_fal v h nj (56 + hsN v j) = 1
    rw [fal_4 (by omega), if_neg (fun z => s2 (by show v (282 + j) = nI h; rw [hl1, z]))]; exact h7 j hjj s1
  · have e : f_fal v h nj (306 + x) = f_fal v h nj (306 + y) := e
    rw [r _ (by omega) (by omega), r _ (by omega) (by omega)] at e
    exact h8 x hx y hy (st x hx sx).1 (st y hy sy).1 e
  · obtain ⟨s, s3, s4⟩ := h11 j hjj (st j hjj hs).1
    exact ⟨s, s3, by show f_fal v h nj (306 + j) = nI s; rw [r _ (by omega) (by omega)]; exact s4⟩
theorem XR.dn {σ : St} {v : Nat → Int32} {nh nj h : Nat} (hX : XR σ v nh nj) (hn : nh ≤ 10) (hjn : nj ≤ 24) (hh : h < nh) : XR (sr σ 4 (upd (σ 4) h 0)) (f_fal v h 0) nh nj := by
  obtain ⟨a1, a2, a3, a4, a5, a6⟩ := hX
  have r : ∀ i, (i < 56 ∨ 66 ≤ i) → f_fal v h 0 i = v i := fun i a => f_fal_o a (by omega) (by omega)
  refine ⟨a1, a2.trans (r 5 (by omega)).symm, ⟨fun x hx => ⟨fun i hi => ?_, ?_, ?_, ?_⟩, fun x hx => ⟨fun i hi => ?_, ?_, ?_, ?_, ?_⟩⟩, fun k hk => ⟨?_, ?_, ?_, fun hs => ?_⟩, fun k hk => ?_, fun i hi => ?_⟩
  · exact ((a3.1 x hx).1 i hi).trans (r (6 + (3 * x + i)) (by omega)).symm
  · exact (a3.1 x hx).2.1.trans (r (36 + x) (by omega)).symm
  · exact (a3.1 x hx).2.2.1.trans (r (46 + x) (by omega)).symm
  · show upd (σ 4) h 0 x = f_fal v h 0 (56 + x)
    rw [fal_4 (by omega)]
    by_cases e : x = h
    · subst e; rw [ups, if_pos rfl]
    · rw [upn e, if_neg e]; exact (a3.1 x hx).2.2.2
  · exact ((a3.2 x hx).1 i hi).trans (r (90 + (3 * x + i)) (by omega)).symm
  · exact (a3.2 x hx).2.1.trans (r (66 + x) (by omega)).symm
  · exact (a3.2 x hx).2.2.1.trans (r (186 + x) (by omega)).symm
  · exact (a3.2 x hx).2.2.2.1.trans (r (210 + x) (by omega)).symm
  · exact (a3.2 x hx).2.2.2.2.trans (r (234 + x) (by omega)).symm
  · exact (a4 k hk).1.trans (r (66 + k) (by omega)).symm
  · exact (a4 k hk).2.1.trans (r (162 + k) (by omega)).symm
  · exact (a4 k hk).2.2.1.trans (r (258 + k) (by omega)).symm
  · have hs : f_fal v h 0 (258 + k) = 1 := hs
    rw [r _ (by omega)] at hs
    have q := (a4 k hk).2.2.2 hs
    exact ⟨q.1.trans (r (282 + k) (by omega)).symm, q.2.trans (r (306 + k) (by omega)).symm⟩
  · exact (a5 k hk).trans (r (330 + k) (by omega)).symm
  · exact (a6 i hi).trans (r (2 + i) (by omega)).symm
theorem mfal_s {v : Nat → Int32} {h k : Nat} {p : Prop} [Decidable p] (hs : eM v 11 k = 1 ∧ eM v 12 k = nI h) (hp : p ↔ ¬ eM v 5 k = 3) : m_fal v h k + (if p then (1 : Int32) else 0) = m_fal v h (k + 1) := by
  unfold m_fal; rw [sm]; congr 1; exact ifc ⟨fun q => ⟨hs, hp.mp q⟩, fun q => hp.mpr q.2⟩
theorem mfal_n {v : Nat → Int32} {h k : Nat} (hs : ¬ (eM v 11 k = 1 ∧ eM v 12 k = nI h)) : m_fal v h k = m_fal v h (k + 1) := by
  unfold m_fal; rw [sm, if_neg (fun q => hs q.1), Int32.add_zero]
theorem f_std_out {v : Nat → Int32} {j h : Nat} {x : Int32} (hj : j < 24) : f_std (upd v (258 + j) x) j h = f_std v j h := by
  unfold f_std; rw [upd_upd9, upn (show 5 ≠ 258 + j by omega)]
theorem pB_upd {v : Nat → Int32} {j : Nat} (hj : j < 24) (k : Nat) (hk : k < 24) : upd (pB (eM v) (-1)) j (-1) k = pB (eM v) (nI j) k := by
  by_cases e : k = j
  · subst e; rw [ups]; unfold pB; rw [if_pos rfl]
  · rw [upn e]; unfold pB
    rw [if_neg (fun q => nI_nm1 (show k < 2 ^ 31 by omega) q.symm), if_neg (fun q => e ((nI_eq (by omega) (by omega)).mp q))]
theorem upd_ok {P : Nat → Int32} {nh nj j : Nat} (h : okP P nh nj) : okP (upd P j (-1)) nh nj := fun k hk => by
  by_cases e : k = j
  · subst e; rw [ups]; exact Or.inl rfl
  · rw [upn e]; exact h k hk
set_option maxHeartbeats 4000000 in
set_option maxRecDepth 100000 in
theorem tX10_fall (l : Launch) (E : EV) (a : Nat → Nat) (σ : St) (nh : Nat) (nj : Nat) (v : Nat → Int32) (stk : List (Nat → Int32)) (T : Nat) (host : Int32) (hCL : CL σ v nh nj stk T) : MI l E (XW E a) yX10_fall (Cond.code yX10_fall cX10_fall 5 (some .int)) ({ frames := 3, cells := 0, slots := 0, locals := 68 }) [.ref (a 71), .int (host)] σ (fun r_ u_ => r_ = (o_fall v nh nj host).1 ∧ CL u_ ((o_fall v nh nj host).2.getD v) nh nj (nxS stk v (o_fall v nh nj host).2) (T + 24) ∧ keepX σ u_) := by
  refine MI.mk (by decide +kernel) (Nat.le_of_ble_eq_true rfl) ?_
  intro p e s m args below meth c ls A Q hret hC hw hl
  have hC : Cxt E p s m args meth c cX10_fall 5 (some .int) RX10 A := hC
  have hl : lv_has ls 5 [(0, .ref (a 71)), (1, .int (host))] := hl
  have hXR := hCL.1
  have hV := hCL.2.1
  have hFS := hCL.2.2.1
  have hRG := hCL.2.2.2.1
  have hSK := hCL.2.2.2.2
  have hN := hXR.1
  have hA := hXR.2.2.1
  have hX := hXR.2.2.2.1
  have hW := hV.1
  have hS : cS σ nh nj := cS.ag hA hV.2.2.1
  have hE : aE σ σ := aE.rf
  have hnh := hS.1
  have hnj := hS.2.1
  refine lv_aload_n hC.1 hC.2.1 dX10_fall_0 rfl (lv_at hl 0 rfl) ?_
  refine gf_X10_10 hC hw dX10_fall_1 ?_
  refine lv_iload_n hC.1 hC.2.1 dX10_fall_4 rfl (lv_at hl 1 rfl) ?_
  refine q_callVp (As := [.int (host)]) (rest := []) (q0 := 6) hC hw hl (tX5_has l E a σ nh nj host (by first | assumption | omega)) (q_cwV hC.2.2.2.2.1 ⟨rfl, rfl⟩ wk2_233 wk2_209 wk2_210 wk1_2 wk2_211 hd_X5_has ⟨Nat.le_of_ble_eq_true rfl, Nat.le_of_ble_eq_true rfl⟩) rfl rfl rfl rfl rfl (Nat.le_of_ble_eq_true rfl) dX10_fall_5 (fun H locs hw => ?_)
  refine q_ifne hC 13 cB dX10_fall_8 (by decide) (fun (c4 : ¬ host < 0 ∧ host < nI nh) => ?_) (fun (c4 : ¬ (¬ host < 0 ∧ host < nI nh)) => ?_)
  · obtain ⟨hn, h_hn, rfl⟩ := in_nat (by omega) c4
    have z_hn := nI_clamp (show hn < 2 ^ 31 by omega)
    have y_hn : cN (nI hn) = hn := z_hn
    refine lv_aload_n hC.1 hC.2.1 dX10_fall_13 rfl (lv_at hl 0 rfl) ?_
    refine gf_X10_10 hC hw dX10_fall_14 ?_
    refine gf_X10_182 hC hw dX10_fall_17 ?_
    refine lv_iload_n hC.1 hC.2.1 dX10_fall_20 rfl (lv_at hl 1 rfl) ?_
    refine al_X4 (v := σ 4 hn) hC hw (by omega) rfl dX10_fall_21 ?_
    refine q_ifne hC 28 cI dX10_fall_22 (by decide) (fun (c5 : ¬ (σ 4 hn = 0)) => ?_) (fun (c5 : σ 4 hn = 0) => ?_)
    · have hA0 := hA
      refine lv_aload_n hC.1 hC.2.1 dX10_fall_28 rfl (lv_at hl 0 rfl) ?_
      refine gf_X10_39 hC hw dX10_fall_29 ?_
      obtain ⟨nx9, hnx1, hnx2, hkp9, hk309, -⟩ := hCL.2.2.2.1
      refine q_callVv (As := []) (rest := []) (q0 := 8) hC hw hl (tX7_keep_all l E a σ stk.length hkp9 hk309 nx9 hnx1 hnx2) (q_cwV hC.2.2.2.2.1 ⟨rfl, rfl⟩ wk2_178 wk2_179 wk2_180 wk1_5 wk2_181 hd_X7_keep ⟨Nat.le_of_ble_eq_true rfl, Nat.le_of_ble_eq_true rfl⟩) rfl rfl rfl rfl rfl (Nat.le_of_ble_eq_true rfl) dX10_fall_32 (fun u8 H locs p6 hw => ?_)
      obtain ⟨hCLu8, hku8, hzu8⟩ := keep_CL hCL hnx1 hnx2 p6
      have hXR := hCLu8.1
      have hV := hCLu8.2.1
      have hFS := hCLu8.2.2.1
      have hRG := hCLu8.2.2.2.1
      have hSK := hCLu8.2.2.2.2
      have hN := hXR.1
      have hA := hXR.2.2.1
      have hX := hXR.2.2.2.1
      have hW := hV.1
      have hS : cS u8 nh nj := cS.ag hA hV.2.2.1
      have hE : aE u8 u8 := aE.rf
      have hnh := hS.1
      have hnj := hS.2.1
      refine lv_aload_n hC.1 hC.2.1 dX10_fall_35 rfl (lv_at hl 0 rfl) ?_
      refine gf_X10_10 hC hw dX10_fall_36 ?_
      refine gf_X10_182 hC hw dX10_fall_39 ?_
      refine lv_iload_n hC.1 hC.2.1 dX10_fall_42 rfl (lv_at hl 1 rfl) ?_
      refine lv_iconst (v := nI 0) hC.1 hC.2.1 dX10_fall_43 (by decide) ?_
      refine as_X4 hC hw (by omega) (by decide) dX10_fall_44 (fun H locs hw => ?_)
      have hw : Wst E (XW E a) (sr u8 4 (upd (u8 4) hn (0))) A s.heap H locs := hw
      refine lv_iconst (v := nI 0) hC.1 hC.2.1 dX10_fall_45 (by decide) ?_
      refine lv_istore_n (lv' := [(2, .int (nI 0)), (0, .ref (a 71)), (1, .int (nI hn))]) hC.1 hC.2.1 dX10_fall_46 rfl hl (by decide) rfl (fun ls hl => ?_)
      refine lv_iconst (v := nI 0) hC.1 hC.2.1 dX10_fall_47 (by decide) ?_
      refine lv_istore_n (lv' := [(3, .int (nI 0)), (2, .int (nI 0)), (0, .ref (a 71)), (1, .int (nI hn))]) hC.1 hC.2.1 dX10_fall_48 rfl hl (by decide) rfl (fun ls hl => ?_)
      have L49_8 : ∀ (n : Nat), ∀ (k : Nat), ∀ (sz : Int32), ∀ (d11 : Nat → Int32), ∀ (d12 : Nat → Int32), ∀ (d13 : Nat → Int32), ∀ (d16 : Nat → Int32), ∀ (d17 : Nat → Int32), ∀ (d18 : Nat → Int32), ∀ (d19 : Nat → Int32), ∀ (d20 : Nat → Int32), ∀ (d21 : Nat → Int32), (sz = (m_fal v hn k)) → (k ≤ nj) → (XR (sr (sr (sr (sr u8 4 (upd (u8 4) hn 0)) 11 d11) 12 d12) 13 d13) (f_fal v hn k) nh nj) → (FSr (dn u8 hn) (pB (eM (f_fal v hn k)) (-1)) nh nj d16 d17 d18 d19 d20 d21) → (nj - k) < n → ∀ (H : Heap) (locs : List Loc) (ls : Array Slot), Wst E (XW E a) (sr (sr (sr (sr (sr (sr (sr (sr (sr (sr u8 4 (upd (u8 4) hn (0))) 11 (d11)) 12 (d12)) 13 (d13)) 16 (d16)) 17 (d17)) 18 (d18)) 19 (d19)) 20 (d20)) 21 (d21)) A s.heap H locs → lv_has ls 5 [(0, .ref (a 71)), (1, .int (nI hn)), (2, .int (sz)), (3, .int (nI k))] → W p l e ({ frames := 3, cells := 0, slots := 0, locals := 68 }) s m args below meth c H locs 0 0 Q (F0 m 49 ls []) := by
        intro n
        induction n with
        | zero => intro k sz d11 d12 d13 d16 d17 d18 d19 d20 d21 q_sz hk hXk hFk hn; exact absurd hn (Nat.not_lt_zero _)
        | succ n ih49 =>
          intro k sz d11 d12 d13 d16 d17 d18 d19 d20 d21 q_sz hk hXk hFk hn49 H locs ls hw hl
          subst q_sz
          refine lv_iload_n hC.1 hC.2.1 dX10_fall_49 rfl (lv_at hl 3 rfl) ?_
          refine lv_aload_n hC.1 hC.2.1 dX10_fall_50 rfl (lv_at hl 0 rfl) ?_
          refine gf_X10_19 hC hw dX10_fall_51 ?_
          refine gf_X10_114 (v := nI nj) hC hw hN.2 dX10_fall_54 ?_
          refine q_cmpge hC 126 (cNle (by omega) (by omega)) dX10_fall_57 (by decide) (fun (c10 : nj ≤ k) => ?_) (fun (c10 : k < nj) => ?_)
          · refine lv_iload_n hC.1 hC.2.1 dX10_fall_126 rfl (lv_at hl 2 rfl) ?_
            refine hret _ _ _ _ _ _ hw ?_ rfl dX10_fall_127
            have hk9 : k = nj := by omega
            have hXf := hXk
            have hFf := hFk
            rw [hk9] at hXf hFf
            have ho : o_fall v nh nj (nI hn) = (m_fal v hn nj, some (f_fal v hn nj)) := by rw [o_fall, if_pos c4, y_hn, if_neg (fun q => c5 ((hA0.1 hn (by omega)).2.2.2.trans q))]
            rw [ho]
            exact ⟨by rw [hk9], ((CL.of (u := sr (sr (sr (sr (sr (sr (sr (sr (sr (sr u8 4 (upd (u8 4) hn (0))) 11 (d11)) 12 (d12)) 13 (d13)) 16 (d16)) 17 (d17)) 18 (d18)) 19 (d19)) 20 (d20)) 21 (d21)) (XR.cg hXf ⟨rfl, rfl, rfl, rfl, rfl, rfl, rfl, rfl, rfl, rfl, rfl⟩ rfl rfl rfl rfl rfl rfl rfl) (hV.fal h_hn) (FSr.as ⟨rfl, rfl, rfl, rfl, rfl, rfl⟩ hFf) hRG hSK (fun r hr => by rw [sr_n (by omega), sr_n (by omega), sr_n (by omega), sr_n (by omega), sr_n (by omega), sr_n (by omega), sr_n (by omega), sr_n (by omega), sr_n (by omega), sr_n (by omega)]) rfl rfl (fun r h => by rcases h with h | h | h | h | h | h | h | h | h <;> subst h <;> rfl) (Nat.le_refl _) (Nat.le_refl _) (Nat.le_refl _)).mono (by omega)), ⟨hzu8 9 (by decide) (by decide), hku8 27 (by decide) (by decide), hku8 28 (by decide) (by decide), hzu8 16 (by decide) (by decide)⟩⟩
          · have hkj : k < nj := by omega
            have fe := fal_eq (h := hn) (j := k) hW h_hn hkj
            have qX := hXk.2.2.2.1 k hkj
            refine lv_aload_n hC.1 hC.2.1 dX10_fall_60 rfl (lv_at hl 0 rfl) ?_
            refine gf_X10_19 hC hw dX10_fall_61 ?_
            refine lv_iload_n hC.1 hC.2.1 dX10_fall_64 rfl (lv_at hl 3 rfl) ?_
            refine lv_iload_n hC.1 hC.2.1 dX10_fall_65 rfl (lv_at hl 1 rfl) ?_
            refine q_callVp (As := [.int (nI k), .int (nI hn)]) (rest := []) (q0 := 7) hC hw hl (tX6_standsOn l E a (sr (sr (sr (sr (sr (sr (sr (sr (sr (sr u8 4 (upd (u8 4) hn (0))) 11 (d11)) 12 (d12)) 13 (d13)) 16 (d16)) 17 (d17)) 18 (d18)) 19 (d19)) 20 (d20)) 21 (d21)) k (nI hn) (by omega)) (q_cwV hC.2.2.2.2.1 ⟨rfl, rfl⟩ wk3_123 wk3_56 wk3_57 wk1_3 wk3_58 hd_X6_standsOn ⟨Nat.le_of_ble_eq_true rfl, Nat.le_of_ble_eq_true rfl⟩) rfl rfl rfl rfl rfl (Nat.le_of_ble_eq_true rfl) dX10_fall_66 (fun H locs hw => ?_)
            refine q_ifeq hC 120 cB dX10_fall_69 (by decide) (fun (c14 : ¬ (d11 k = 1 ∧ d12 k = (nI hn))) => ?_) (fun (c14 : d11 k = 1 ∧ d12 k = (nI hn)) => ?_)
            · refine lv_iinc (v := nI (k + 1)) (lv' := [(3, .int (nI (k + 1))), (0, .ref (a 71)), (1, .int (nI hn)), (2, .int (m_fal v hn k))]) hC.1 hC.2.1 dX10_fall_120 hl (k := 3) rfl (nI_add _ _) (by decide) rfl (fun ls hl => ?_)
              refine lv_goto (tgt := 49) hC.1 hC.2.1 dX10_fall_123 (by decide) ?_
              have hs9 : ¬ (eM v 11 k = 1 ∧ eM v 12 k = nI hn) := fun q => c14 ⟨qX.2.2.1.trans (fe.1.trans q.1), (qX.2.2.2 (fe.1.trans q.1)).1.trans (fe.2.1.trans q.2)⟩
              have hst9 := fal_no hW h_hn hkj hs9
              have hX9 := hXk
              have hF9 := hFk
              rw [← hst9] at hX9 hF9
              have hm9 := mfal_n hs9
              exact ih49 (k + 1) (m_fal v hn k) d11 d12 d13 d16 d17 d18 d19 d20 d21 hm9 (by omega) hX9 hF9 (by omega) _ _ _ hw (lv_sub hl [1, 2, 3, 0] rfl)
            · have hs9 : eM v 11 k = 1 ∧ eM v 12 k = nI hn := by
                have e1 : eM (f_fal v hn k) 11 k = 1 := qX.2.2.1.symm.trans c14.1
                exact ⟨fe.1.symm.trans e1, fe.2.1.symm.trans ((qX.2.2.2 e1).1.symm.trans c14.2)⟩
              refine lv_aload_n hC.1 hC.2.1 dX10_fall_72 rfl (lv_at hl 0 rfl) ?_
              refine gf_X10_19 hC hw dX10_fall_73 ?_
              refine gf_X10_146 hC hw dX10_fall_76 ?_
              refine lv_iload_n hC.1 hC.2.1 dX10_fall_79 rfl (lv_at hl 3 rfl) ?_
              refine al_X5 (v := u8 5 k) hC hw (by omega) rfl dX10_fall_80 ?_
              refine lv_iconst (v := nI 3) hC.1 hC.2.1 dX10_fall_81 (by decide) ?_
              have J90_16 : ∀ (w15 : Int32), w15 = (if u8 5 k = 3 then (1 : Int32) else 0) → ∀ (H : Heap) (locs : List Loc) (ls : Array Slot), Wst E (XW E a) (sr (sr (sr (sr (sr (sr (sr (sr (sr (sr u8 4 (upd (u8 4) hn (0))) 11 (d11)) 12 (d12)) 13 (d13)) 16 (d16)) 17 (d17)) 18 (d18)) 19 (d19)) 20 (d20)) 21 (d21)) A s.heap H locs → lv_has ls 5 [(0, .ref (a 71)), (1, .int (nI hn)), (2, .int (m_fal v hn k)), (3, .int (nI k))] → W p l e ({ frames := 3, cells := 0, slots := 0, locals := 68 }) s m args below meth c H locs 0 0 Q (F0 m 90 ls [.int (w15)]) := by
                intro w15 e16 H locs ls hw hl
                subst e16
                refine lv_istore (lv' := [(4, .int (if u8 5 k = 3 then (1 : Int32) else 0)), (0, .ref (a 71)), (1, .int (nI hn)), (2, .int (m_fal v hn k)), (3, .int (nI k))]) hC.1 hC.2.1 dX10_fall_90 hl (by decide) rfl (fun ls hl => ?_)
                refine lv_aload_n hC.1 hC.2.1 dX10_fall_92 rfl (lv_at hl 1 rfl) ?_
                refine lv_iload_n hC.1 hC.2.1 dX10_fall_93 rfl (lv_at hl 4 rfl) ?_
                refine lv_iload hC.1 hC.2.1 dX10_fall_94 (lv_at hl 0 rfl) ?_
                have J104_18 : ∀ (w17 : Int32), w17 = (if u8 5 k = 3 then 2 else 0) → ∀ (H : Heap) (locs : List Loc) (ls : Array Slot), Wst E (XW E a) (sr (sr (sr (sr (sr (sr (sr (sr (sr (sr u8 4 (upd (u8 4) hn (0))) 11 (d11)) 12 (d12)) 13 (d13)) 16 (d16)) 17 (d17)) 18 (d18)) 19 (d19)) 20 (d20)) 21 (d21)) A s.heap H locs → lv_has ls 5 [(0, .ref (a 71)), (1, .int (nI hn)), (2, .int (m_fal v hn k)), (3, .int (nI k)), (4, .int (if u8 5 k = 3 then (1 : Int32) else 0))] → W p l e ({ frames := 3, cells := 0, slots := 0, locals := 68 }) s m args below meth c H locs 0 0 Q (F0 m 104 ls [.int (w17), .int (nI k), .ref (a 71)]) := by
                  intro w17 e18 H locs ls hw hl
                  subst e18
                  refine q_callVv (As := [.int (nI k), .int ((if u8 5 k = 3 then 2 else 0))]) (rest := []) (q0 := 0) hC hw hl (tX10_release l E a (sr (sr (sr (sr (sr (sr (sr (sr (sr (sr u8 4 (upd (u8 4) hn (0))) 11 (d11)) 12 (d12)) 13 (d13)) 16 (d16)) 17 (d17)) 18 (d18)) 19 (d19)) 20 (d20)) 21 (d21)) nh nj (dn u8 hn) (pB (eM (f_fal v hn k)) (-1)) k (if u8 5 k = 3 then 2 else 0) hN ⟨rfl, rfl, rfl, rfl, rfl, rfl, rfl, rfl, rfl, rfl, rfl⟩ hS.dn hFk hkj (fun x hx => (hXk.2.2.2.1.PL (f_fal_mF hW h_hn (by omega))) x hx)) (q_cwV hC.2.2.2.2.1 ⟨rfl, rfl⟩ wk3_115 wk3_117 wks_1_11 wk1_1 wk3_118 hd_X10_release ⟨Nat.le_of_ble_eq_true rfl, Nat.le_of_ble_eq_true rfl⟩) rfl rfl rfl rfl rfl (Nat.le_of_ble_eq_true rfl) dX10_fall_104 (fun u21 H locs p19 hw => ?_)
                  obtain ⟨b16_22, b17_23, b18_24, b19_25, b20_26, b21_27, hFu21, huu21⟩ := p19
                  subst huu21
                  have hst_ : (sr (sr (sr (sr (sr (sr (sr (sr (sr (sr (sr (sr (sr (sr (sr (sr (sr (sr (sr u8 4 (upd (u8 4) hn (0))) 11 (d11)) 12 (d12)) 13 (d13)) 16 (d16)) 17 (d17)) 18 (d18)) 19 (d19)) 20 (d20)) 21 (d21)) 11 (upd ((sr (sr (sr (sr (sr (sr (sr (sr (sr (sr u8 4 (upd (u8 4) hn (0))) 11 (d11)) 12 (d12)) 13 (d13)) 16 (d16)) 17 (d17)) 18 (d18)) 19 (d19)) 20 (d20)) 21 (d21)) 11) k (if u8 5 k = 3 then 2 else 0))) 12 (upd ((sr (sr (sr (sr (sr (sr (sr (sr (sr (sr u8 4 (upd (u8 4) hn (0))) 11 (d11)) 12 (d12)) 13 (d13)) 16 (d16)) 17 (d17)) 18 (d18)) 19 (d19)) 20 (d20)) 21 (d21)) 12) k (-1))) 13 (upd ((sr (sr (sr (sr (sr (sr (sr (sr (sr (sr u8 4 (upd (u8 4) hn (0))) 11 (d11)) 12 (d12)) 13 (d13)) 16 (d16)) 17 (d17)) 18 (d18)) 19 (d19)) 20 (d20)) 21 (d21)) 13) k 0)) 16 b16_22) 17 b17_23) 18 b18_24) 19 b19_25) 20 b20_26) 21 b21_27) = sr (sr (sr (sr (sr (sr (sr (sr (sr (sr u8 4 (upd (u8 4) hn (0))) 11 (upd d11 k (if u8 5 k = 3 then 2 else 0))) 12 (upd d12 k (-1))) 13 (upd d13 k 0)) 16 (b16_22)) 17 (b17_23)) 18 (b18_24)) 19 (b19_25)) 20 (b20_26)) 21 (b21_27) := by
                    funext j_ x_
                    by_cases e0 : j_ = 0
                    · subst e0
                      rfl
                    · by_cases e4 : j_ = 4
                      · subst e4; rfl
                      · by_cases e11 : j_ = 11
                        · subst e11; rfl
                        · by_cases e12 : j_ = 12
                          · subst e12; rfl
                          · by_cases e13 : j_ = 13
                            · subst e13; rfl
                            · by_cases e16 : j_ = 16
                              · subst e16; rfl
                              · by_cases e17 : j_ = 17
                                · subst e17; rfl
                                · by_cases e18 : j_ = 18
                                  · subst e18; rfl
                                  · by_cases e19 : j_ = 19
                                    · subst e19; rfl
                                    · by_cases e20 : j_ = 20
                                      · subst e20; rfl
                                      · by_cases e21 : j_ = 21
                                        · subst e21; rfl
                                        · simp only [sr, e0, e4, e11, e12, e13, e16, e17, e18, e19, e20, e21, if_false]
                  rw [hst_] at hw
                  refine lv_iload_n hC.1 hC.2.1 dX10_fall_107 rfl (lv_at hl 2 rfl) ?_
                  refine lv_iload hC.1 hC.2.1 dX10_fall_108 (lv_at hl 4 rfl) ?_
                  have J118_29 : ∀ (w28 : Int32), w28 = (if ¬ (u8 5 k = 3) then (1 : Int32) else 0) → ∀ (H : Heap) (locs : List Loc) (ls : Array Slot), Wst E (XW E a) (sr (sr (sr (sr (sr (sr (sr (sr (sr (sr u8 4 (upd (u8 4) hn (0))) 11 (upd d11 k (if u8 5 k = 3 then 2 else 0))) 12 (upd d12 k (-1))) 13 (upd d13 k 0)) 16 (b16_22)) 17 (b17_23)) 18 (b18_24)) 19 (b19_25)) 20 (b20_26)) 21 (b21_27)) A s.heap H locs → lv_has ls 5 [(0, .ref (a 71)), (1, .int (nI hn)), (2, .int (m_fal v hn k)), (3, .int (nI k)), (4, .int (if u8 5 k = 3 then (1 : Int32) else 0))] → W p l e ({ frames := 3, cells := 0, slots := 0, locals := 68 }) s m args below meth c H locs 0 0 Q (F0 m 118 ls [.int (w28), .int (m_fal v hn k)]) := by
                    intro w28 e29 H locs ls hw hl
                    subst e29
                    refine lv_iadd hC.1 hC.2.1 dX10_fall_118 ?_
                    refine lv_istore_n (lv' := [(2, .int ((m_fal v hn k) + (if ¬ (u8 5 k = 3) then (1 : Int32) else 0))), (0, .ref (a 71)), (1, .int (nI hn)), (3, .int (nI k)), (4, .int (if u8 5 k = 3 then (1 : Int32) else 0))]) hC.1 hC.2.1 dX10_fall_119 rfl hl (by decide) rfl (fun ls hl => ?_)
                    refine lv_iinc (v := nI (k + 1)) (lv' := [(3, .int (nI (k + 1))), (2, .int ((m_fal v hn k) + (if ¬ (u8 5 k = 3) then (1 : Int32) else 0))), (0, .ref (a 71)), (1, .int (nI hn)), (4, .int (if u8 5 k = 3 then (1 : Int32) else 0))]) hC.1 hC.2.1 dX10_fall_120 hl (k := 3) rfl (nI_add _ _) (by decide) rfl (fun ls hl => ?_)
                    refine lv_goto (tgt := 49) hC.1 hC.2.1 dX10_fall_123 (by decide) ?_
                    have hx9 : ¬ (if u8 5 k = 3 then (2 : Int32) else 0) = (1 : Int32) := by split <;> decide
                    have hst9 : f_fal v hn (k + 1) = upd (f_fal v hn k) (258 + k) (if u8 5 k = 3 then (2 : Int32) else 0) := by rw [(hX k hkj).1]; exact fal_st hW h_hn hkj hs9
                    have hX9 := XR.rel (u := (sr (sr (sr (sr u8 4 (upd (u8 4) hn 0)) 11 (upd d11 k (if u8 5 k = 3 then (2 : Int32) else 0))) 12 (upd d12 k (-1))) 13 (upd d13 k 0))) hXk hnh hnj hkj hx9 ⟨rfl, rfl, rfl, rfl, rfl, rfl, rfl, rfl, rfl, rfl, rfl⟩ ⟨rfl, rfl, rfl, rfl, rfl, fun r hr => by rw [sr_n (by omega), sr_n (by omega), sr_n (by omega), sr_n (by omega), sr_n (by omega), sr_n (by omega), sr_n (by omega), sr_n (by omega)]⟩ rfl rfl (fun x hx => (upn hx : upd d12 k (-1) x = d12 x)) (fun x hx => (upn hx : upd d13 k 0 x = d13 x))
                    have hF9 := hFu21
                    rw [← pB_out (v := (f_fal v hn k)) (w := k) (x := (if u8 5 k = 3 then (2 : Int32) else 0)) (by omega) hx9] at hF9
                    rw [← hst9] at hX9 hF9
                    have hm9 : m_fal v hn k + (if ¬ (u8 5 k = 3) then (1 : Int32) else 0) = m_fal v hn (k + 1) := mfal_s hs9 (by rw [(hX k hkj).1])
                    exact ih49 (k + 1) ((m_fal v hn k) + (if ¬ (u8 5 k = 3) then (1 : Int32) else 0)) (upd d11 k (if u8 5 k = 3 then 2 else 0)) (upd d12 k (-1)) (upd d13 k 0) b16_22 b17_23 b18_24 b19_25 b20_26 b21_27 hm9 (by omega) hX9 hF9 (by omega) _ _ _ hw (lv_sub hl [2, 3, 1, 0] rfl)
                  refine q_ifeq hC 117 cB dX10_fall_110 (by decide) (fun (c30 : ¬ (u8 5 k = 3)) => ?_) (fun (c30 : u8 5 k = 3) => ?_)
                  · refine lv_iconst (v := nI 1) hC.1 hC.2.1 dX10_fall_117 (by decide) ?_
                    exact J118_29 _ (if_pos c30).symm _ _ _ hw (lv_sub hl [0, 1, 2, 3, 4] rfl)
                  · refine lv_iconst (v := nI 0) hC.1 hC.2.1 dX10_fall_113 (by decide) ?_
                    refine lv_goto (tgt := 118) hC.1 hC.2.1 dX10_fall_114 (by decide) ?_
                    exact J118_29 _ (if_neg (fun q => q c30)).symm _ _ _ hw (lv_sub hl [0, 1, 2, 3, 4] rfl)
                refine q_ifeq hC 103 cB dX10_fall_96 (by decide) (fun (c31 : ¬ (u8 5 k = 3)) => ?_) (fun (c31 : u8 5 k = 3) => ?_)
                · refine lv_iconst (v := nI 0) hC.1 hC.2.1 dX10_fall_103 (by decide) ?_
                  exact J104_18 _ (by (rw [if_neg c31]) <;> rfl) _ _ _ hw (lv_sub hl [1, 2, 3, 4, 0] rfl)
                · refine lv_iconst (v := nI 2) hC.1 hC.2.1 dX10_fall_99 (by decide) ?_
                  refine lv_goto (tgt := 104) hC.1 hC.2.1 dX10_fall_100 (by decide) ?_
                  exact J104_18 _ (by (rw [if_pos c31]) <;> rfl) _ _ _ hw (lv_sub hl [1, 2, 3, 4, 0] rfl)
              refine q_cmpne hC 89 cI dX10_fall_82 (by decide) (fun (c32 : ¬ (u8 5 k = 3)) => ?_) (fun (c32 : u8 5 k = 3) => ?_)
              · refine lv_iconst (v := nI 0) hC.1 hC.2.1 dX10_fall_89 (by decide) ?_
                exact J90_16 _ (if_neg c32).symm _ _ _ hw (lv_sub hl [0, 1, 2, 3] rfl)
              · refine lv_iconst (v := nI 1) hC.1 hC.2.1 dX10_fall_85 (by decide) ?_
                refine lv_goto (tgt := 90) hC.1 hC.2.1 dX10_fall_86 (by decide) ?_
                exact J90_16 _ (if_pos c32).symm _ _ _ hw (lv_sub hl [0, 1, 2, 3] rfl)
      have hst_ : sr u8 4 (upd (u8 4) hn (0)) = sr (sr (sr (sr (sr (sr (sr (sr (sr (sr u8 4 (upd (u8 4) hn (0))) 11 (u8 11)) 12 (u8 12)) 13 (u8 13)) 16 (u8 16)) 17 (u8 17)) 18 (u8 18)) 19 (u8 19)) 20 (u8 20)) 21 (u8 21) := by
        funext j_ x_
        by_cases e0 : j_ = 0
        · subst e0
          rfl
        · by_cases e4 : j_ = 4
          · subst e4; rfl
          · by_cases e11 : j_ = 11
            · subst e11; rfl
            · by_cases e12 : j_ = 12
              · subst e12; rfl
              · by_cases e13 : j_ = 13
                · subst e13; rfl
                · by_cases e16 : j_ = 16
                  · subst e16; rfl
                  · by_cases e17 : j_ = 17
                    · subst e17; rfl
                    · by_cases e18 : j_ = 18
                      · subst e18; rfl
                      · by_cases e19 : j_ = 19
                        · subst e19; rfl
                        · by_cases e20 : j_ = 20
                          · subst e20; rfl
                          · by_cases e21 : j_ = 21
                            · subst e21; rfl
                            · simp only [sr, e0, e4, e11, e12, e13, e16, e17, e18, e19, e20, e21, if_false]
      rw [hst_] at hw
      exact L49_8 _ 0 (nI 0) (u8 11) (u8 12) (u8 13) (u8 16) (u8 17) (u8 18) (u8 19) (u8 20) (u8 21) rfl (Nat.zero_le _) (XR.cg (hXR.dn hnh hnj h_hn) ⟨rfl, rfl, rfl, rfl, rfl, rfl, rfl, rfl, rfl, rfl, rfl⟩ rfl rfl rfl rfl rfl rfl rfl) (FSr.cg (fun x _ => fal_0P (by omega) x) (FSr.as ⟨rfl, rfl, rfl, rfl, rfl, rfl⟩ hFS)) (Nat.lt_succ_self _) _ _ _ hw (lv_sub hl [2, 3, 1, 0] rfl)
    · refine lv_bipush (v := (-2)) hC.1 hC.2.1 dX10_fall_25 (by decide) ?_
      refine hret _ _ _ _ _ _ hw ?_ rfl dX10_fall_27
      have ho : o_fall v nh nj (nI hn) = (-2, none) := by rw [o_fall, if_pos c4, y_hn, if_pos ((hA.1 hn (by omega)).2.2.2.symm.trans c5)]
      rw [ho]
      exact ⟨rfl, hCL.mono (by omega), rfl, rfl, rfl, rfl⟩
  · refine lv_iconst (v := (-1)) hC.1 hC.2.1 dX10_fall_11 (by decide) ?_
    refine hret _ _ _ _ _ _ hw ?_ rfl dX10_fall_12
    have ho : o_fall v nh nj host = (-1, none) := by rw [o_fall, if_neg c4]
    rw [ho]
    exact ⟨rfl, hCL.mono (by omega), rfl, rfl, rfl, rfl⟩
set_option maxHeartbeats 4000000 in
set_option maxRecDepth 100000 in
theorem tX10_move (l : Launch) (E : EV) (a : Nat → Nat) (σ : St) (nh : Nat) (nj : Nat) (v : Nat → Int32) (stk : List (Nat → Int32)) (T : Nat) (job : Int32) (host : Int32) (hCL : CL σ v nh nj stk T) (hT : T < 2 ^ 29) : MI l E (XW E a) yX10_move (Cond.code yX10_move cX10_move 5 (some .int)) ({ frames := 3, cells := 0, slots := 0, locals := 73 }) [.ref (a 71), .int (job), .int (host)] σ (fun r_ u_ => r_ = (o_move v nh nj job host).1 ∧ CL u_ ((o_move v nh nj job host).2.getD v) nh nj (nxS stk v (o_move v nh nj job host).2) (T + 24) ∧ keepX σ u_) := by
  refine MI.mk (by decide +kernel) (Nat.le_of_ble_eq_true rfl) ?_
  intro p e s m args below meth c ls A Q hret hC hw hl
  have hC : Cxt E p s m args meth c cX10_move 5 (some .int) RX10 A := hC
  have hl : lv_has ls 5 [(0, .ref (a 71)), (1, .int (job)), (2, .int (host))] := hl
  have hXR := hCL.1
  have hV := hCL.2.1
  have hFS := hCL.2.2.1
  have hRG := hCL.2.2.2.1
  have hSK := hCL.2.2.2.2
  have hN := hXR.1
  have hA := hXR.2.2.1
  have hX := hXR.2.2.2.1
  have hW := hV.1
  have hS : cS σ nh nj := cS.ag hA hV.2.2.1
  have hE : aE σ σ := aE.rf
  have hnh := hS.1
  have hnj := hS.2.1
  refine lv_aload_n hC.1 hC.2.1 dX10_move_0 rfl (lv_at hl 0 rfl) ?_
  refine gf_X10_19 hC hw dX10_move_1 ?_
  refine lv_iload_n hC.1 hC.2.1 dX10_move_4 rfl (lv_at hl 1 rfl) ?_
  refine q_callVp (As := [.int (job)]) (rest := []) (q0 := 7) hC hw hl (tX6_has l E a σ nh nj job (by first | assumption | omega)) (q_cwV hC.2.2.2.2.1 ⟨rfl, rfl⟩ wk2_232 wk2_205 wk2_206 wk1_3 wk2_207 hd_X6_has ⟨Nat.le_of_ble_eq_true rfl, Nat.le_of_ble_eq_true rfl⟩) rfl rfl rfl rfl rfl (Nat.le_of_ble_eq_true rfl) dX10_move_5 (fun H locs hw => ?_)
  refine q_ifeq hC 22 cB dX10_move_8 (by decide) (fun (c4 : ¬ (¬ job < 0 ∧ job < nI nj)) => ?_) (fun (c4 : ¬ job < 0 ∧ job < nI nj) => ?_)
  · refine lv_iconst (v := (-1)) hC.1 hC.2.1 dX10_move_22 (by decide) ?_
    refine hret _ _ _ _ _ _ hw ?_ rfl dX10_move_23
    have ho : o_move v nh nj job host = (-1, none) := by rw [o_move, if_neg (fun q => c4 q.1)]
    rw [ho]
    exact ⟨rfl, hCL.mono (by omega), rfl, rfl, rfl, rfl⟩
  · refine lv_aload_n hC.1 hC.2.1 dX10_move_11 rfl (lv_at hl 0 rfl) ?_
    refine gf_X10_10 hC hw dX10_move_12 ?_
    refine lv_iload_n hC.1 hC.2.1 dX10_move_15 rfl (lv_at hl 2 rfl) ?_
    refine q_callVp (As := [.int (host)]) (rest := []) (q0 := 6) hC hw hl (tX5_has l E a σ nh nj host (by first | assumption | omega)) (q_cwV hC.2.2.2.2.1 ⟨rfl, rfl⟩ wk2_233 wk2_209 wk2_210 wk1_2 wk2_211 hd_X5_has ⟨Nat.le_of_ble_eq_true rfl, Nat.le_of_ble_eq_true rfl⟩) rfl rfl rfl rfl rfl (Nat.le_of_ble_eq_true rfl) dX10_move_16 (fun H locs hw => ?_)
    refine q_ifne hC 24 cB dX10_move_19 (by decide) (fun (c8 : ¬ host < 0 ∧ host < nI nh) => ?_) (fun (c8 : ¬ (¬ host < 0 ∧ host < nI nh)) => ?_)
    · obtain ⟨jn, h_jn, rfl⟩ := in_nat (by omega) c4
      have z_jn := nI_clamp (show jn < 2 ^ 31 by omega)
      have y_jn : cN (nI jn) = jn := z_jn
      obtain ⟨hn, h_hn, rfl⟩ := in_nat (by omega) c8
      have z_hn := nI_clamp (show hn < 2 ^ 31 by omega)
      have y_hn : cN (nI hn) = hn := z_hn
      refine lv_aload_n hC.1 hC.2.1 dX10_move_24 rfl (lv_at hl 0 rfl) ?_
      refine gf_X10_19 hC hw dX10_move_25 ?_
      refine gf_X10_126 hC hw dX10_move_28 ?_
      refine lv_iload_n hC.1 hC.2.1 dX10_move_31 rfl (lv_at hl 1 rfl) ?_
      refine al_X11 (v := σ 11 jn) hC hw (by omega) rfl dX10_move_32 ?_
      refine lv_iconst (v := nI 1) hC.1 hC.2.1 dX10_move_33 (by decide) ?_
      refine q_cmpne hC 63 cI dX10_move_34 (by decide) (fun (c9 : ¬ (σ 11 jn = 1)) => ?_) (fun (c9 : σ 11 jn = 1) => ?_)
      · refine lv_bipush (v := (-2)) hC.1 hC.2.1 dX10_move_63 (by decide) ?_
        refine hret _ _ _ _ _ _ hw ?_ rfl dX10_move_65
        have ho : o_move v nh nj (nI jn) (nI hn) = (-2, none) := by rw [o_move, if_pos ⟨c4, c8⟩, y_jn, y_hn, if_neg (fun q => c9 ((hX jn (by omega)).2.2.1.trans q.1))]
        rw [ho]
        exact ⟨rfl, hCL.mono (by omega), rfl, rfl, rfl, rfl⟩
      · refine lv_aload_n hC.1 hC.2.1 dX10_move_37 rfl (lv_at hl 0 rfl) ?_
        refine gf_X10_19 hC hw dX10_move_38 ?_
        refine gf_X10_146 hC hw dX10_move_41 ?_
        refine lv_iload_n hC.1 hC.2.1 dX10_move_44 rfl (lv_at hl 1 rfl) ?_
        refine al_X5 (v := σ 5 jn) hC hw (by omega) rfl dX10_move_45 ?_
        refine lv_iconst (v := nI 3) hC.1 hC.2.1 dX10_move_46 (by decide) ?_
        refine q_cmpeq hC 63 cI dX10_move_47 (by decide) (fun (c10 : σ 5 jn = 3) => ?_) (fun (c10 : ¬ (σ 5 jn = 3)) => ?_)
        · refine lv_bipush (v := (-2)) hC.1 hC.2.1 dX10_move_63 (by decide) ?_
          refine hret _ _ _ _ _ _ hw ?_ rfl dX10_move_65
          have ho : o_move v nh nj (nI jn) (nI hn) = (-2, none) := by rw [o_move, if_pos ⟨c4, c8⟩, y_jn, y_hn, if_neg (fun q => q.2.1 ((hX jn (by omega)).1.symm.trans c10))]
          rw [ho]
          exact ⟨rfl, hCL.mono (by omega), rfl, rfl, rfl, rfl⟩
        · refine lv_aload_n hC.1 hC.2.1 dX10_move_50 rfl (lv_at hl 0 rfl) ?_
          refine gf_X10_19 hC hw dX10_move_51 ?_
          refine gf_X10_140 hC hw dX10_move_54 ?_
          refine lv_iload_n hC.1 hC.2.1 dX10_move_57 rfl (lv_at hl 1 rfl) ?_
          refine al_X12 (v := σ 12 jn) hC hw (by omega) rfl dX10_move_58 ?_
          refine lv_iload_n hC.1 hC.2.1 dX10_move_59 rfl (lv_at hl 2 rfl) ?_
          refine q_cmpne hC 66 cI dX10_move_60 (by decide) (fun (c11 : ¬ (σ 12 jn = nI hn)) => ?_) (fun (c11 : σ 12 jn = nI hn) => ?_)
          · have hs1 : eM v 11 jn = 1 := (hX jn (by omega)).2.2.1.symm.trans c9
            have hPs := pB_s hW h_jn hs1
            have h12 : σ 12 jn = nI (hsN v jn) := ((hX jn (by omega)).2.2.2 hs1).1.trans (hW.host h_jn hs1).1
            have hsl : hsN v jn < nh := (hW.host h_jn hs1).2
            have h12v : eM v 12 jn = nI (hsN v jn) := (hW.host h_jn hs1).1
            have hwy : m_why σ (upd (pB (eM v) (-1)) jn (-1)) nh nj jn hn = m_why (eM v) (pB (eM v) (nI jn)) nh nj jn hn := m_why_congr hA (fun k hk => pB_upd (by omega) k (by omega)) (upd_ok (pB_ok hW)) hnh h_jn h_hn
            refine lv_aload_n hC.1 hC.2.1 dX10_move_66 rfl (lv_at hl 0 rfl) ?_
            refine gf_X10_19 hC hw dX10_move_67 ?_
            refine gf_X10_140 hC hw dX10_move_70 ?_
            refine lv_iload_n hC.1 hC.2.1 dX10_move_73 rfl (lv_at hl 1 rfl) ?_
            refine al_X12 (v := nI (hsN v jn)) hC hw (by omega) h12 dX10_move_74 ?_
            refine lv_istore_n (lv' := [(3, .int (nI (hsN v jn))), (0, .ref (a 71)), (1, .int (nI jn)), (2, .int (nI hn))]) hC.1 hC.2.1 dX10_move_75 rfl hl (by decide) rfl (fun ls hl => ?_)
            refine lv_aload_n hC.1 hC.2.1 dX10_move_76 rfl (lv_at hl 1 rfl) ?_
            refine gf_X10_32 hC hw dX10_move_77 ?_
            refine lv_iload_n hC.1 hC.2.1 dX10_move_80 rfl (lv_at hl 2 rfl) ?_
            refine lv_iload_n hC.1 hC.2.1 dX10_move_81 rfl (lv_at hl 0 rfl) ?_
            refine lv_iconst (v := (-1)) hC.1 hC.2.1 dX10_move_82 (by decide) ?_
            refine q_callVv (As := [.int (nI jn), .int (nI (hsN v jn)), .int ((-1))]) (rest := []) (q0 := 5) hC hw hl (tX4_tally l E a σ nh nj σ (pB (eM v) (-1)) (upd (pB (eM v) (-1)) jn (-1)) jn (hsN v jn) (-1) hN hE hS hFS (TL_out hPs) h_jn hsl) (q_cwV hC.2.2.2.2.1 ⟨rfl, rfl⟩ wk3_90 wk2_201 wk2_202 wk1_4 wk2_203 hd_X4_tally ⟨Nat.le_of_ble_eq_true rfl, Nat.le_of_ble_eq_true rfl⟩) rfl rfl rfl rfl rfl (Nat.le_of_ble_eq_true rfl) dX10_move_83 (fun u14 H locs p12 hw => ?_)
            obtain ⟨b16_15, b17_16, b18_17, b19_18, b20_19, b21_20, hFu14, huu14⟩ := p12
            subst huu14
            refine lv_aload_n hC.1 hC.2.1 dX10_move_86 rfl (lv_at hl 1 rfl) ?_
            refine gf_X10_32 hC hw dX10_move_87 ?_
            refine lv_iload_n hC.1 hC.2.1 dX10_move_90 rfl (lv_at hl 2 rfl) ?_
            refine lv_iload_n hC.1 hC.2.1 dX10_move_91 rfl (lv_at hl 3 rfl) ?_
            refine q_callVp (As := [.int (nI jn), .int (nI hn)]) (rest := []) (q0 := 5) hC hw hl (tX4_fits l E a (sr (sr (sr (sr (sr (sr σ 16 (b16_15)) 17 (b17_16)) 18 (b18_17)) 19 (b19_18)) 20 (b20_19)) 21 (b21_20)) nh nj σ (upd (pB (eM v) (-1)) jn (-1)) jn hn hN ⟨rfl, rfl, rfl, rfl, rfl, rfl, rfl, rfl, rfl, rfl, rfl⟩ hS hFu14 h_jn h_hn) (q_cwV hC.2.2.2.2.1 ⟨rfl, rfl⟩ wk3_132 wk3_37 wk3_38 wk1_4 wk3_39 hd_X4_fits ⟨Nat.le_of_ble_eq_true rfl, Nat.le_of_ble_eq_true rfl⟩) rfl rfl rfl rfl rfl (Nat.le_of_ble_eq_true rfl) dX10_move_92 (fun H locs hw => ?_)
            refine lv_istore (lv' := [(4, .int (if m_why σ (upd (pB (eM v) (-1)) jn (-1)) nh nj jn hn = 0 then (1 : Int32) else 0)), (3, .int (nI (hsN v jn))), (0, .ref (a 71)), (1, .int (nI jn)), (2, .int (nI hn))]) hC.1 hC.2.1 dX10_move_95 hl (by decide) rfl (fun ls hl => ?_)
            refine lv_aload_n hC.1 hC.2.1 dX10_move_97 rfl (lv_at hl 2 rfl) ?_
            refine gf_X10_32 hC hw dX10_move_98 ?_
            refine lv_iload_n hC.1 hC.2.1 dX10_move_101 rfl (lv_at hl 3 rfl) ?_
            refine lv_iload_n hC.1 hC.2.1 dX10_move_102 rfl (lv_at hl 1 rfl) ?_
            refine lv_iconst (v := nI 1) hC.1 hC.2.1 dX10_move_103 (by decide) ?_
            refine q_callVv (As := [.int (nI jn), .int (nI (hsN v jn)), .int (nI 1)]) (rest := []) (q0 := 5) hC hw hl (tX4_tally l E a (sr (sr (sr (sr (sr (sr σ 16 (b16_15)) 17 (b17_16)) 18 (b18_17)) 19 (b19_18)) 20 (b20_19)) 21 (b21_20)) nh nj σ (upd (pB (eM v) (-1)) jn (-1)) (pB (eM v) (-1)) jn (hsN v jn) 1 hN ⟨rfl, rfl, rfl, rfl, rfl, rfl, rfl, rfl, rfl, rfl, rfl⟩ hS hFu14 (TL_in hPs) h_jn hsl) (q_cwV hC.2.2.2.2.1 ⟨rfl, rfl⟩ wk3_90 wk2_201 wk2_202 wk1_4 wk2_203 hd_X4_tally ⟨Nat.le_of_ble_eq_true rfl, Nat.le_of_ble_eq_true rfl⟩) rfl rfl rfl rfl rfl (Nat.le_of_ble_eq_true rfl) dX10_move_104 (fun u26 H locs p24 hw => ?_)
            obtain ⟨b16_27, b17_28, b18_29, b19_30, b20_31, b21_32, hFu26, huu26⟩ := p24
            subst huu26
            have hst_ : sr (sr (sr (sr (sr (sr (sr (sr (sr (sr (sr (sr σ 16 (b16_15)) 17 (b17_16)) 18 (b18_17)) 19 (b19_18)) 20 (b20_19)) 21 (b21_20)) 16 b16_27) 17 b17_28) 18 b18_29) 19 b19_30) 20 b20_31) 21 b21_32 = sr (sr (sr (sr (sr (sr σ 16 (b16_27)) 17 (b17_28)) 18 (b18_29)) 19 (b19_30)) 20 (b20_31)) 21 (b21_32) := by
              funext j_ x_
              by_cases e0 : j_ = 0
              · subst e0
                rfl
              · by_cases e16 : j_ = 16
                · subst e16; rfl
                · by_cases e17 : j_ = 17
                  · subst e17; rfl
                  · by_cases e18 : j_ = 18
                    · subst e18; rfl
                    · by_cases e19 : j_ = 19
                      · subst e19; rfl
                      · by_cases e20 : j_ = 20
                        · subst e20; rfl
                        · by_cases e21 : j_ = 21
                          · subst e21; rfl
                          · simp only [sr, e0, e16, e17, e18, e19, e20, e21, if_false]
            rw [hst_] at hw
            refine lv_iload hC.1 hC.2.1 dX10_move_107 (lv_at hl 0 rfl) ?_
            refine q_ifne hC 115 cB dX10_move_109 (by decide) (fun (c33 : m_why σ (upd (pB (eM v) (-1)) jn (-1)) nh nj jn hn = 0) => ?_) (fun (c33 : ¬ (m_why σ (upd (pB (eM v) (-1)) jn (-1)) nh nj jn hn = 0)) => ?_)
            · have hfit : m_why (eM v) (pB (eM v) (nI jn)) nh nj jn hn = 0 := hwy.symm.trans c33
              have hCLm := (CL.sm (u := sr (sr (sr (sr (sr (sr σ 16 (b16_27)) 17 (b17_28)) 18 (b18_29)) 19 (b19_30)) 20 (b20_31)) 21 (b21_32)) hCL ⟨rfl, rfl, rfl, rfl, rfl, rfl, rfl, rfl, rfl, rfl, rfl⟩ ⟨rfl, rfl, rfl⟩ rfl ⟨rfl, rfl, rfl, rfl, rfl, (fun r hr => by rw [sr_n (by omega), sr_n (by omega), sr_n (by omega), sr_n (by omega), sr_n (by omega), sr_n (by omega)])⟩ hFu26)
              have hX0 := hX
              refine lv_aload_n hC.1 hC.2.1 dX10_move_115 rfl (lv_at hl 2 rfl) ?_
              refine gf_X10_39 hC hw dX10_move_116 ?_
              obtain ⟨nx9, hnx1, hnx2, hkp9, hk309, -⟩ := hCLm.2.2.2.1
              refine q_callVv (As := []) (rest := []) (q0 := 8) hC hw hl (tX7_keep_all l E a (sr (sr (sr (sr (sr (sr σ 16 (b16_27)) 17 (b17_28)) 18 (b18_29)) 19 (b19_30)) 20 (b20_31)) 21 (b21_32)) stk.length hkp9 hk309 nx9 hnx1 hnx2) (q_cwV hC.2.2.2.2.1 ⟨rfl, rfl⟩ wk2_178 wk2_179 wk2_180 wk1_5 wk2_181 hd_X7_keep ⟨Nat.le_of_ble_eq_true rfl, Nat.le_of_ble_eq_true rfl⟩) rfl rfl rfl rfl rfl (Nat.le_of_ble_eq_true rfl) dX10_move_119 (fun u36 H locs p34 hw => ?_)
              obtain ⟨hCLu36, hku36, hzu36⟩ := keep_CL hCLm hnx1 hnx2 p34
              have hXR := hCLu36.1
              have hV := hCLu36.2.1
              have hFS := hCLu36.2.2.1
              have hRG := hCLu36.2.2.2.1
              have hSK := hCLu36.2.2.2.2
              have hN := hXR.1
              have hA := hXR.2.2.1
              have hX := hXR.2.2.2.1
              have hW := hV.1
              have hS : cS u36 nh nj := cS.ag hA hV.2.2.1
              have hE : aE u36 u36 := aE.rf
              have hnh := hS.1
              have hnj := hS.2.1
              refine lv_aload_n hC.1 hC.2.1 dX10_move_122 rfl (lv_at hl 2 rfl) ?_
              refine lv_iload_n hC.1 hC.2.1 dX10_move_123 rfl (lv_at hl 3 rfl) ?_
              refine lv_iconst (v := nI 0) hC.1 hC.2.1 dX10_move_124 (by decide) ?_
              refine q_callVv (As := [.int (nI jn), .int (nI 0)]) (rest := []) (q0 := 0) hC hw hl (tX10_release l E a u36 nh nj u36 (pB (eM v) (-1)) jn 0 hN hE hS hFS h_jn (hX.PL hW)) (q_cwV hC.2.2.2.2.1 ⟨rfl, rfl⟩ wk3_115 wk3_117 wks_1_11 wk1_1 wk3_118 hd_X10_release ⟨Nat.le_of_ble_eq_true rfl, Nat.le_of_ble_eq_true rfl⟩) rfl rfl rfl rfl rfl (Nat.le_of_ble_eq_true rfl) dX10_move_125 (fun u39 H locs p37 hw => ?_)
              obtain ⟨b16_40, b17_41, b18_42, b19_43, b20_44, b21_45, hFu39, huu39⟩ := p37
              subst huu39
              have hCr : CL (sr (sr (sr (sr (sr (sr (sr (sr (sr u36 11 (upd (u36 11) jn 0)) 12 (upd (u36 12) jn (-1))) 13 (upd (u36 13) jn 0)) 16 (b16_40)) 17 (b17_41)) 18 (b18_42)) 19 (b19_43)) 20 (b20_44)) 21 (b21_45)) (upd v (258 + jn) 0) nh nj (push30 stk v) T := CL.rel (x := 0) hCLu36 h_jn (by decide) ⟨rfl, rfl, rfl, rfl, rfl, rfl, rfl, rfl, rfl, rfl, rfl⟩ ⟨rfl, rfl, rfl, rfl, rfl, (fun r hr => by rw [sr_n (by omega), sr_n (by omega), sr_n (by omega), sr_n (by omega), sr_n (by omega), sr_n (by omega), sr_n (by omega), sr_n (by omega), sr_n (by omega)])⟩ rfl rfl (fun k hk => (upn hk : upd (u36 12) jn (-1) k = u36 12 k)) (fun k hk => (upn hk : upd (u36 13) jn 0 k = u36 13 k)) hFu39
              refine lv_aload_n hC.1 hC.2.1 dX10_move_128 rfl (lv_at hl 2 rfl) ?_
              refine lv_iload_n hC.1 hC.2.1 dX10_move_129 rfl (lv_at hl 3 rfl) ?_
              refine lv_iload_n hC.1 hC.2.1 dX10_move_130 rfl (lv_at hl 4 rfl) ?_
              refine q_callVv (As := [.int (nI jn), .int (nI hn)]) (rest := []) (q0 := 0) hC hw hl (tX10_seat l E a (sr (sr (sr (sr (sr (sr (sr (sr (sr u36 11 (upd (u36 11) jn 0)) 12 (upd (u36 12) jn (-1))) 13 (upd (u36 13) jn 0)) 16 (b16_40)) 17 (b17_41)) 18 (b18_42)) 19 (b19_43)) 20 (b20_44)) 21 (b21_45)) nh nj u36 (upd (pB (eM v) (-1)) jn (-1)) jn hn hN ⟨rfl, rfl, rfl, rfl, rfl, rfl, rfl, rfl, rfl, rfl, rfl⟩ hS hFu39 h_jn h_hn ups) (q_cwV hC.2.2.2.2.1 ⟨rfl, rfl⟩ wk3_82 wk3_84 wks_1_7 wk1_1 wk3_85 hd_X10_seat ⟨Nat.le_of_ble_eq_true rfl, Nat.le_of_ble_eq_true rfl⟩) rfl rfl rfl rfl rfl (Nat.le_of_ble_eq_true rfl) dX10_move_131 (fun u48 H locs p46 hw => ?_)
              obtain ⟨b16_49, b17_50, b18_51, b19_52, b20_53, b21_54, hFu48, huu48⟩ := p46
              subst huu48
              have hst_ : sr (sr (sr (sr (sr (sr (sr (sr (sr (sr (sr (sr (sr (sr (sr (sr (sr (sr (sr u36 11 (upd (u36 11) jn 0)) 12 (upd (u36 12) jn (-1))) 13 (upd (u36 13) jn 0)) 16 (b16_40)) 17 (b17_41)) 18 (b18_42)) 19 (b19_43)) 20 (b20_44)) 21 (b21_45)) 11 (upd ((sr (sr (sr (sr (sr (sr (sr (sr (sr u36 11 (upd (u36 11) jn 0)) 12 (upd (u36 12) jn (-1))) 13 (upd (u36 13) jn 0)) 16 (b16_40)) 17 (b17_41)) 18 (b18_42)) 19 (b19_43)) 20 (b20_44)) 21 (b21_45)) 11) jn 1)) 12 (upd ((sr (sr (sr (sr (sr (sr (sr (sr (sr u36 11 (upd (u36 11) jn 0)) 12 (upd (u36 12) jn (-1))) 13 (upd (u36 13) jn 0)) 16 (b16_40)) 17 (b17_41)) 18 (b18_42)) 19 (b19_43)) 20 (b20_44)) 21 (b21_45)) 12) jn (nI hn))) 13 (upd ((sr (sr (sr (sr (sr (sr (sr (sr (sr u36 11 (upd (u36 11) jn 0)) 12 (upd (u36 12) jn (-1))) 13 (upd (u36 13) jn 0)) 16 (b16_40)) 17 (b17_41)) 18 (b18_42)) 19 (b19_43)) 20 (b20_44)) 21 (b21_45)) 13) jn (((sr (sr (sr (sr (sr (sr (sr (sr (sr u36 11 (upd (u36 11) jn 0)) 12 (upd (u36 12) jn (-1))) 13 (upd (u36 13) jn 0)) 16 (b16_40)) 17 (b17_41)) 18 (b18_42)) 19 (b19_43)) 20 (b20_44)) 21 (b21_45)) 0 2) + 1))) 16 b16_49) 17 b17_50) 18 b18_51) 19 b19_52) 20 b20_53) 21 b21_54) 0 (upd ((sr (sr (sr (sr (sr (sr (sr (sr (sr u36 11 (upd (u36 11) jn 0)) 12 (upd (u36 12) jn (-1))) 13 (upd (u36 13) jn 0)) 16 (b16_40)) 17 (b17_41)) 18 (b18_42)) 19 (b19_43)) 20 (b20_44)) 21 (b21_45)) 0) 2 (((sr (sr (sr (sr (sr (sr (sr (sr (sr u36 11 (upd (u36 11) jn 0)) 12 (upd (u36 12) jn (-1))) 13 (upd (u36 13) jn 0)) 16 (b16_40)) 17 (b17_41)) 18 (b18_42)) 19 (b19_43)) 20 (b20_44)) 21 (b21_45)) 0 2) + 1)) = sr (sr (sr (sr (sr (sr (sr (sr (sr (sr u36 11 (upd (upd (u36 11) jn 0) jn 1)) 12 (upd (upd (u36 12) jn (-1)) jn (nI hn))) 13 (upd (upd (u36 13) jn 0) jn ((u36 0 2) + 1))) 16 (b16_49)) 17 (b17_50)) 18 (b18_51)) 19 (b19_52)) 20 (b20_53)) 21 (b21_54)) 0 (upd (u36 0) 2 ((u36 0 2) + 1)) := by
                funext j_ x_
                by_cases e0 : j_ = 0
                · subst e0
                  by_cases y2 : x_ = 2
                  · subst y2; rfl
                  · simp [sr, upd, y2]
                · by_cases e11 : j_ = 11
                  · subst e11; rfl
                  · by_cases e12 : j_ = 12
                    · subst e12; rfl
                    · by_cases e13 : j_ = 13
                      · subst e13; rfl
                      · by_cases e16 : j_ = 16
                        · subst e16; rfl
                        · by_cases e17 : j_ = 17
                          · subst e17; rfl
                          · by_cases e18 : j_ = 18
                            · subst e18; rfl
                            · by_cases e19 : j_ = 19
                              · subst e19; rfl
                              · by_cases e20 : j_ = 20
                                · subst e20; rfl
                                · by_cases e21 : j_ = 21
                                  · subst e21; rfl
                                  · simp only [sr, e0, e11, e12, e13, e16, e17, e18, e19, e20, e21, if_false]
              rw [hst_] at hw
              refine lv_iload_n hC.1 hC.2.1 dX10_move_134 rfl (lv_at hl 1 rfl) ?_
              refine hret _ _ _ _ _ _ hw ?_ rfl dX10_move_135
              have hup : eM (upd v (258 + jn) 0) 4 hn = 1 := by
                show upd v (258 + jn) 0 (56 + hn) = 1
                rw [upn (by omega)]; exact cS.up1 hV.2.2.1 h_hn (why_up hfit)
              have hCs := CL.std (σ := sr (sr (sr (sr (sr (sr (sr (sr (sr u36 11 (upd (u36 11) jn 0)) 12 (upd (u36 12) jn (-1))) 13 (upd (u36 13) jn 0)) 16 (b16_40)) 17 (b17_41)) 18 (b18_42)) 19 (b19_43)) 20 (b20_44)) 21 (b21_45)) (u := sr (sr (sr (sr (sr (sr (sr (sr (sr (sr u36 11 (upd (upd (u36 11) jn 0) jn 1)) 12 (upd (upd (u36 12) jn (-1)) jn (nI hn))) 13 (upd (upd (u36 13) jn 0) jn ((u36 0 2) + 1))) 16 (b16_49)) 17 (b17_50)) 18 (b18_51)) 19 (b19_52)) 20 (b20_53)) 21 (b21_54)) 0 (upd (u36 0) 2 ((u36 0 2) + 1))) hCr h_jn h_hn hup (by omega) ⟨rfl, rfl, rfl, rfl, rfl, rfl, rfl, rfl, rfl, rfl, rfl⟩ ⟨rfl, rfl, rfl, rfl, rfl, fun r hr => by rw [sr_n (by omega), sr_n (by omega), sr_n (by omega), sr_n (by omega), sr_n (by omega), sr_n (by omega), sr_n (by omega), sr_n (by omega), sr_n (by omega), sr_n (by omega), sr_n (by omega), sr_n (by omega), sr_n (by omega), sr_n (by omega), sr_n (by omega), sr_n (by omega), sr_n (by omega), sr_n (by omega), sr_n (by omega)]⟩ rfl rfl rfl rfl (by rw [pB_out (by omega) (by decide)]; exact FSr.aE (σ := u36) ⟨rfl, rfl, rfl, rfl, rfl, rfl, rfl, rfl, rfl, rfl, rfl⟩ hFu48)
              rw [f_std_out (by omega)] at hCs
              have ho : o_move v nh nj (nI jn) (nI hn) = (eM v 12 jn, some (f_std v jn hn)) := by rw [o_move, if_pos ⟨c4, c8⟩, y_jn, y_hn, if_pos ⟨hs1, fun q => c10 ((hX0 jn (by omega)).1.trans q), fun q => c11 ((h12.trans h12v.symm).trans q)⟩, if_pos hfit]
              rw [ho]
              exact ⟨h12v.symm, (hCs.mono (by omega)), ⟨hzu36 9 (by decide) (by decide), hku36 27 (by decide) (by decide), hku36 28 (by decide) (by decide), hzu36 16 (by decide) (by decide)⟩⟩
            · refine lv_bipush (v := (-3)) hC.1 hC.2.1 dX10_move_112 (by decide) ?_
              refine hret _ _ _ _ _ _ hw ?_ rfl dX10_move_114
              have ho : o_move v nh nj (nI jn) (nI hn) = (-3, none) := by rw [o_move, if_pos ⟨c4, c8⟩, y_jn, y_hn, if_pos ⟨hs1, fun q => c10 ((hX jn (by omega)).1.trans q), fun q => c11 ((h12.trans h12v.symm).trans q)⟩, if_neg (fun q => c33 (hwy.trans q))]
              rw [ho]
              exact ⟨rfl, (CL.sm (u := sr (sr (sr (sr (sr (sr σ 16 (b16_27)) 17 (b17_28)) 18 (b18_29)) 19 (b19_30)) 20 (b20_31)) 21 (b21_32)) hCL ⟨rfl, rfl, rfl, rfl, rfl, rfl, rfl, rfl, rfl, rfl, rfl⟩ ⟨rfl, rfl, rfl⟩ rfl ⟨rfl, rfl, rfl, rfl, rfl, (fun r hr => by rw [sr_n (by omega), sr_n (by omega), sr_n (by omega), sr_n (by omega), sr_n (by omega), sr_n (by omega)])⟩ hFu26).mono (by omega), rfl, rfl, rfl, rfl⟩
          · refine lv_bipush (v := (-2)) hC.1 hC.2.1 dX10_move_63 (by decide) ?_
            refine hret _ _ _ _ _ _ hw ?_ rfl dX10_move_65
            have ho : o_move v nh nj (nI jn) (nI hn) = (-2, none) := by rw [o_move, if_pos ⟨c4, c8⟩, y_jn, y_hn, if_neg (fun q => q.2.2 (((hX jn (by omega)).2.2.2 q.1).1.symm.trans c11))]
            rw [ho]
            exact ⟨rfl, hCL.mono (by omega), rfl, rfl, rfl, rfl⟩
    · refine lv_iconst (v := (-1)) hC.1 hC.2.1 dX10_move_22 (by decide) ?_
      refine hret _ _ _ _ _ _ hw ?_ rfl dX10_move_23
      have ho : o_move v nh nj job host = (-1, none) := by rw [o_move, if_neg (fun q => c8 q.2)]
      rw [ho]
      exact ⟨rfl, hCL.mono (by omega), rfl, rfl, rfl, rfl⟩
