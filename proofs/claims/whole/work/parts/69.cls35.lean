/-- undo: the row comes back -/
theorem rs_CL {σ u : St} {v : Nat → Int32} {nh nj T nx : Nat} {stk : List (Nat → Int32)} (hC : CL σ v nh nj stk T) (hl : stk.length ≠ 0) (hnx : σ 0 3 = nI nx) (hn30 : nx < 30)
    (hu : u = sr (sr (sr (sr (sr (sr (sr σ 4 (upr (σ (30 + (if nx ≠ 0 then nx - 1 else 29))) 10 (σ 4))) 11 (va_cpy (σ (30 + (if nx ≠ 0 then nx - 1 else 29))) (σ 11) 16 0 24)) 12 (va_cpy (σ (30 + (if nx ≠ 0 then nx - 1 else 29))) (σ 12) 40 0 24)) 13 (va_cpy (σ (30 + (if nx ≠ 0 then nx - 1 else 29))) (σ 13) 64 0 24)) 14 (va_cpy (σ (30 + (if nx ≠ 0 then nx - 1 else 29))) (σ 14) 88 0 24)) 15 (va_cpy (σ (30 + (if nx ≠ 0 then nx - 1 else 29))) (σ 15) 3 0 3)) 0 (upd (upd (upd (upd (upd (σ 0) 0 ((σ (30 + (if nx ≠ 0 then nx - 1 else 29))) 0)) 1 ((σ (30 + (if nx ≠ 0 then nx - 1 else 29))) 1)) 2 ((σ (30 + (if nx ≠ 0 then nx - 1 else 29))) 2)) 3 (nI (if nx ≠ 0 then nx - 1 else 29))) 4 (nI (stk.length - 1)))) :
    ∃ w, stk.getLastD v = w ∧ XR u w (nhW w) (njW w) ∧ VI w (nhW w) (njW w) T ∧ RG u stk.dropLast ∧ STK u stk.dropLast (nhW w) (njW w) T ∧ u 0 4 = nI (stk.length - 1) ∧ keepX σ u := by
  obtain ⟨hX, hV, hF, ⟨nx', g1, g2, g3, g4, g5⟩, hS⟩ := hC
  obtain rfl : nx' = nx := (nI_eq (by omega) (by omega)).mp (g2.symm.trans hnx)
  obtain ⟨ini, w, rfl⟩ : ∃ ini w, stk = ini ++ [w] := ⟨stk.dropLast, stk.getLast (fun q => hl (by rw [q]; rfl)), (List.dropLast_concat_getLast _).symm⟩
  have hlen : (ini ++ [w]).length = ini.length + 1 := by rw [List.length_append]; rfl
  rw [hlen] at g3 g4 g5 hu
  have hwm : w ∈ ini ++ [w] := List.mem_append_right _ (List.mem_singleton.mpr rfl)
  obtain ⟨hVw, hSA, hn1, hj1⟩ := hS.1 w hwm
  have h10 := hVw.1.1; have h24 := hVw.1.2.1
  have hR := g5 ini.length w (by rw [List.getElem?_append_right (Nat.le_refl _), Nat.sub_self]; rfl)
  have e30 : 30 + rgi nx' (ini.length + 1) ini.length = 30 + (if nx' ≠ 0 then nx' - 1 else 29) := by unfold rgi; split <;> omega
  rw [e30] at hR
  generalize hk0 : (if nx' ≠ 0 then nx' - 1 else 29) = k0 at hR hu e30
  have hk30 : k0 < 30 := by rw [← hk0]; split <;> omega
  obtain ⟨r0, r1, r2, r3, r4, r5⟩ := hR
  have hrr : ∀ r, r ≠ 0 → r ≠ 4 → r ≠ 11 → r ≠ 12 → r ≠ 13 → r ≠ 14 → r ≠ 15 → u r = σ r := fun r a0 a4 a1 a2 a3 a5 a6 => by rw [hu, sr_n a0, sr_n a6, sr_n a5, sr_n a3, sr_n a2, sr_n a1, sr_n a4]
  have hsa : ∀ r, (r = 1 ∨ r = 2 ∨ r = 3 ∨ r = 5 ∨ r = 6 ∨ r = 7 ∨ r = 8 ∨ r = 9 ∨ r = 10) → u r = σ r := fun r h => hrr r (by omega) (by omega) (by omega) (by omega) (by omega) (by omega) (by omega)
  refine ⟨w, by rw [List.getLastD_eq_getLast?, List.getLast?_concat]; rfl, ?_, hVw, ?_, ?_, ?_, ?_⟩
  · have hSu := hSA.of hsa
    have u4 : u 4 = upr (σ (30 + k0)) 10 (σ 4) := by rw [hu]; rfl
    have u11 : u 11 = va_cpy (σ (30 + k0)) (σ 11) 16 0 24 := by rw [hu]; rfl
    have u12 : u 12 = va_cpy (σ (30 + k0)) (σ 12) 40 0 24 := by rw [hu]; rfl
    have u13 : u 13 = va_cpy (σ (30 + k0)) (σ 13) 64 0 24 := by rw [hu]; rfl
    have u14 : u 14 = va_cpy (σ (30 + k0)) (σ 14) 88 0 24 := by rw [hu]; rfl
    have u15 : u 15 = va_cpy (σ (30 + k0)) (σ 15) 3 0 3 := by rw [hu]; rfl
    have cp : ∀ (s d : Nat → Int32) (p n j : Nat), j < n → va_cpy s d p 0 n j = s (p + j) := fun s d p n j hj => by
      unfold va_cpy; rw [if_pos (by omega), Nat.sub_zero]
    refine ⟨⟨?_, ?_⟩, ?_, ⟨fun x hx => ⟨(hSu.1 x hx).1, (hSu.1 x hx).2.1, (hSu.1 x hx).2.2, ?_⟩, fun x hx => ⟨(hSu.2 x hx).1, (hSu.2 x hx).2.1, (hSu.2 x hx).2.2.2.1, (hSu.2 x hx).2.2.2.2.1, (hSu.2 x hx).2.2.2.2.2⟩⟩, fun x hx => ⟨(hSu.2 x hx).2.1, (hSu.2 x hx).2.2.1, ?_, fun hs => ⟨?_, ?_⟩⟩, fun x hx => ?_, fun i hi => ?_⟩
    · rw [hu]; exact r0.trans hVw.1.2.2.1
    · rw [hu]; exact r1.trans hVw.1.2.2.2.1
    · rw [hu]; exact r2
    · rw [u4]; unfold upr
      rw [if_pos (by omega), show 3 + 3 + x = 6 + x by omega, r4 x hx]
      rcases (hVw.2.2.1.2.2.1 x hx).2.1 with e | e <;> rw [e] <;> decide
    · rw [u11, cp _ _ _ _ _ (by omega)]; exact (r5 x hx).1
    · rw [u12, cp _ _ _ _ _ (by omega)]; exact ((r5 x hx).2.1 hs).1
    · rw [u13, cp _ _ _ _ _ (by omega)]; exact ((r5 x hx).2.1 hs).2
    · rw [u14, cp _ _ _ _ _ (by omega)]; exact (r5 x hx).2.2
    · rw [u15, cp _ _ _ _ _ (by omega)]; exact r3 i hi
  · rw [List.dropLast_concat]
    refine ⟨k0, hk30, by rw [hu]; rfl, by rw [hu]; rfl, by omega, fun i x hi => ?_⟩
    have hil := (List.getElem?_eq_some_iff.mp hi).1
    have := g5 i x (by rw [List.getElem?_append_left hil]; exact hi)
    have e : 30 + rgi k0 ini.length i = 30 + rgi nx' (ini.length + 1) i := by unfold rgi; rw [← hk0]; split <;> omega
    rw [e, hrr _ (by omega) (by omega) (by omega) (by omega) (by omega) (by omega) (by omega)]; exact this
  · rw [List.dropLast_concat]
    have hp := List.pairwise_append.mp hS.2
    refine ⟨fun x hx => ?_, hp.1⟩
    obtain ⟨p1, p2, p3, p4⟩ := hS.1 x (List.mem_append_left _ hx)
    have hq := hp.2.2 x hx w (List.mem_singleton.mpr rfl)
    exact ⟨p1, p2.of hsa, hq.1, hq.2⟩
  · rw [hu, hlen]; rfl
  · refine ⟨?_, hrr 27 (by omega) (by omega) (by omega) (by omega) (by omega) (by omega) (by omega), hrr 28 (by omega) (by omega) (by omega) (by omega) (by omega) (by omega) (by omega), ?_⟩
    · rw [hu]; rfl
    · rw [hu]; rfl
set_option maxHeartbeats 4000000 in
set_option maxRecDepth 100000 in
theorem tX10_putThree_1 (l : Launch) (E : EV) (a : Nat → Nat) (σ : St) (x : Nat) (a1 : Int32) (b1 : Int32) (c1 : Int32) (hx : x < 10) : MV l E (XW E a) yX10_putThree (Cond.code yX10_putThree cX10_putThree 5 none) ({ frames := 0, cells := 0, slots := 0, locals := 0 }) [.ref (a 1), .int (nI x), .int (a1), .int (b1), .int (c1)] σ (fun u_ => u_ = sr σ 1 (upd (upd (upd (σ 1) (x * 3) a1) (x * 3 + 1) b1) (x * 3 + 2) c1)) := by
  refine MV.mk (by decide +kernel) (Nat.le_of_ble_eq_true rfl) ?_
  intro p e s m args below meth c ls A Q hret hC hw hl
  have hC : Cxt E p s m args meth c cX10_putThree 5 none RX10 A := hC
  have hl : lv_has ls 5 [(0, .ref (a 1)), (1, .int (nI x)), (2, .int (a1)), (3, .int (b1)), (4, .int (c1))] := hl
  refine lv_aload_n hC.1 hC.2.1 dX10_putThree_0 rfl (lv_at hl 0 rfl) ?_
  refine lv_iload_n hC.1 hC.2.1 dX10_putThree_1 rfl (lv_at hl 1 rfl) ?_
  refine lv_iconst (v := nI 3) hC.1 hC.2.1 dX10_putThree_2 (by decide) ?_
  refine q_mulN hC dX10_putThree_3 ?_
  refine lv_iload_n hC.1 hC.2.1 dX10_putThree_4 rfl (lv_at hl 2 rfl) ?_
  refine as_X1 hC hw (by omega) dX10_putThree_5 (fun H locs hw => ?_)
  have hw : Wst E (XW E a) (sr σ 1 (upd (σ 1) (x * 3) (a1))) A s.heap H locs := hw
  refine lv_aload_n hC.1 hC.2.1 dX10_putThree_6 rfl (lv_at hl 0 rfl) ?_
  refine lv_iload_n hC.1 hC.2.1 dX10_putThree_7 rfl (lv_at hl 1 rfl) ?_
  refine lv_iconst (v := nI 3) hC.1 hC.2.1 dX10_putThree_8 (by decide) ?_
  refine q_mulN hC dX10_putThree_9 ?_
  refine lv_iconst (v := nI 1) hC.1 hC.2.1 dX10_putThree_10 (by decide) ?_
  refine q_addN hC dX10_putThree_11 ?_
  refine lv_iload_n hC.1 hC.2.1 dX10_putThree_12 rfl (lv_at hl 3 rfl) ?_
  refine as_X1 hC hw (by omega) dX10_putThree_13 (fun H locs hw => ?_)
  have hw : Wst E (XW E a) (sr (sr σ 1 (upd (σ 1) (x * 3) (a1))) 1 (upd (upd (σ 1) (x * 3) (a1)) ((x * 3) + 1) (b1))) A s.heap H locs := hw
  have hst_ : sr (sr σ 1 (upd (σ 1) (x * 3) (a1))) 1 (upd (upd (σ 1) (x * 3) (a1)) ((x * 3) + 1) (b1)) = sr σ 1 (upd (upd (σ 1) (x * 3) (a1)) ((x * 3) + 1) (b1)) := by
    funext j_ x_
    by_cases e0 : j_ = 0
    · subst e0
      rfl
    · by_cases e1 : j_ = 1
      · subst e1; rfl
      · simp only [sr, e0, e1, if_false]
  rw [hst_] at hw
  refine lv_aload_n hC.1 hC.2.1 dX10_putThree_14 rfl (lv_at hl 0 rfl) ?_
  refine lv_iload_n hC.1 hC.2.1 dX10_putThree_15 rfl (lv_at hl 1 rfl) ?_
  refine lv_iconst (v := nI 3) hC.1 hC.2.1 dX10_putThree_16 (by decide) ?_
  refine q_mulN hC dX10_putThree_17 ?_
  refine lv_iconst (v := nI 2) hC.1 hC.2.1 dX10_putThree_18 (by decide) ?_
  refine q_addN hC dX10_putThree_19 ?_
  refine lv_iload hC.1 hC.2.1 dX10_putThree_20 (lv_at hl 4 rfl) ?_
  refine as_X1 hC hw (by omega) dX10_putThree_22 (fun H locs hw => ?_)
  have hw : Wst E (XW E a) (sr (sr σ 1 (upd (upd (σ 1) (x * 3) (a1)) ((x * 3) + 1) (b1))) 1 (upd (upd (upd (σ 1) (x * 3) (a1)) ((x * 3) + 1) (b1)) ((x * 3) + 2) (c1))) A s.heap H locs := hw
  have hst_ : sr (sr σ 1 (upd (upd (σ 1) (x * 3) (a1)) ((x * 3) + 1) (b1))) 1 (upd (upd (upd (σ 1) (x * 3) (a1)) ((x * 3) + 1) (b1)) ((x * 3) + 2) (c1)) = sr σ 1 (upd (upd (upd (σ 1) (x * 3) (a1)) ((x * 3) + 1) (b1)) ((x * 3) + 2) (c1)) := by
    funext j_ x_
    by_cases e0 : j_ = 0
    · subst e0
      rfl
    · by_cases e1 : j_ = 1
      · subst e1; rfl
      · simp only [sr, e0, e1, if_false]
  rw [hst_] at hw
  refine hret _ _ _ _ _ hw ?_ dX10_putThree_23
  exact rfl
set_option maxHeartbeats 4000000 in
set_option maxRecDepth 100000 in
theorem tX10_putThree_6 (l : Launch) (E : EV) (a : Nat → Nat) (σ : St) (x : Nat) (a1 : Int32) (b1 : Int32) (c1 : Int32) (hx : x < 24) : MV l E (XW E a) yX10_putThree (Cond.code yX10_putThree cX10_putThree 5 none) ({ frames := 0, cells := 0, slots := 0, locals := 0 }) [.ref (a 6), .int (nI x), .int (a1), .int (b1), .int (c1)] σ (fun u_ => u_ = sr σ 6 (upd (upd (upd (σ 6) (x * 3) a1) (x * 3 + 1) b1) (x * 3 + 2) c1)) := by
  refine MV.mk (by decide +kernel) (Nat.le_of_ble_eq_true rfl) ?_
  intro p e s m args below meth c ls A Q hret hC hw hl
  have hC : Cxt E p s m args meth c cX10_putThree 5 none RX10 A := hC
  have hl : lv_has ls 5 [(0, .ref (a 6)), (1, .int (nI x)), (2, .int (a1)), (3, .int (b1)), (4, .int (c1))] := hl
  refine lv_aload_n hC.1 hC.2.1 dX10_putThree_0 rfl (lv_at hl 0 rfl) ?_
  refine lv_iload_n hC.1 hC.2.1 dX10_putThree_1 rfl (lv_at hl 1 rfl) ?_
  refine lv_iconst (v := nI 3) hC.1 hC.2.1 dX10_putThree_2 (by decide) ?_
  refine q_mulN hC dX10_putThree_3 ?_
  refine lv_iload_n hC.1 hC.2.1 dX10_putThree_4 rfl (lv_at hl 2 rfl) ?_
  refine as_X6 hC hw (by omega) dX10_putThree_5 (fun H locs hw => ?_)
  have hw : Wst E (XW E a) (sr σ 6 (upd (σ 6) (x * 3) (a1))) A s.heap H locs := hw
  refine lv_aload_n hC.1 hC.2.1 dX10_putThree_6 rfl (lv_at hl 0 rfl) ?_
  refine lv_iload_n hC.1 hC.2.1 dX10_putThree_7 rfl (lv_at hl 1 rfl) ?_
  refine lv_iconst (v := nI 3) hC.1 hC.2.1 dX10_putThree_8 (by decide) ?_
  refine q_mulN hC dX10_putThree_9 ?_
  refine lv_iconst (v := nI 1) hC.1 hC.2.1 dX10_putThree_10 (by decide) ?_
  refine q_addN hC dX10_putThree_11 ?_
  refine lv_iload_n hC.1 hC.2.1 dX10_putThree_12 rfl (lv_at hl 3 rfl) ?_
  refine as_X6 hC hw (by omega) dX10_putThree_13 (fun H locs hw => ?_)
  have hw : Wst E (XW E a) (sr (sr σ 6 (upd (σ 6) (x * 3) (a1))) 6 (upd (upd (σ 6) (x * 3) (a1)) ((x * 3) + 1) (b1))) A s.heap H locs := hw
  have hst_ : sr (sr σ 6 (upd (σ 6) (x * 3) (a1))) 6 (upd (upd (σ 6) (x * 3) (a1)) ((x * 3) + 1) (b1)) = sr σ 6 (upd (upd (σ 6) (x * 3) (a1)) ((x * 3) + 1) (b1)) := by
    funext j_ x_
    by_cases e0 : j_ = 0
    · subst e0
      rfl
    · by_cases e6 : j_ = 6
      · subst e6; rfl
      · simp only [sr, e0, e6, if_false]
  rw [hst_] at hw
  refine lv_aload_n hC.1 hC.2.1 dX10_putThree_14 rfl (lv_at hl 0 rfl) ?_
  refine lv_iload_n hC.1 hC.2.1 dX10_putThree_15 rfl (lv_at hl 1 rfl) ?_
  refine lv_iconst (v := nI 3) hC.1 hC.2.1 dX10_putThree_16 (by decide) ?_
  refine q_mulN hC dX10_putThree_17 ?_
  refine lv_iconst (v := nI 2) hC.1 hC.2.1 dX10_putThree_18 (by decide) ?_
  refine q_addN hC dX10_putThree_19 ?_
  refine lv_iload hC.1 hC.2.1 dX10_putThree_20 (lv_at hl 4 rfl) ?_
  refine as_X6 hC hw (by omega) dX10_putThree_22 (fun H locs hw => ?_)
  have hw : Wst E (XW E a) (sr (sr σ 6 (upd (upd (σ 6) (x * 3) (a1)) ((x * 3) + 1) (b1))) 6 (upd (upd (upd (σ 6) (x * 3) (a1)) ((x * 3) + 1) (b1)) ((x * 3) + 2) (c1))) A s.heap H locs := hw
  have hst_ : sr (sr σ 6 (upd (upd (σ 6) (x * 3) (a1)) ((x * 3) + 1) (b1))) 6 (upd (upd (upd (σ 6) (x * 3) (a1)) ((x * 3) + 1) (b1)) ((x * 3) + 2) (c1)) = sr σ 6 (upd (upd (upd (σ 6) (x * 3) (a1)) ((x * 3) + 1) (b1)) ((x * 3) + 2) (c1)) := by
    funext j_ x_
    by_cases e0 : j_ = 0
    · subst e0
      rfl
    · by_cases e6 : j_ = 6
      · subst e6; rfl
      · simp only [sr, e0, e6, if_false]
  rw [hst_] at hw
  refine hret _ _ _ _ _ hw ?_ dX10_putThree_23
  exact rfl
set_option maxHeartbeats 4000000 in
set_option maxRecDepth 100000 in
theorem tX10_host (l : Launch) (E : EV) (a : Nat → Nat) (σ : St) (nh : Nat) (nj : Nat) (v : Nat → Int32) (stk : List (Nat → Int32)) (T : Nat) (a1 : Int32) (b1 : Int32) (c1 : Int32) (hall : Int32) (tn : Int32) (hCL : CL σ v nh nj stk T) : MI l E (XW E a) yX10_host (Cond.code yX10_host cX10_host 7 (some .int)) ({ frames := 3, cells := 0, slots := 0, locals := 67 }) [.ref (a 71), .int (a1), .int (b1), .int (c1), .int (hall), .int (tn)] σ (fun r_ u_ => r_ = (o_host v nh a1 b1 c1 hall tn).1 ∧ CL u_ ((o_host v nh a1 b1 c1 hall tn).2.getD v) (nhW ((o_host v nh a1 b1 c1 hall tn).2.getD v)) (njW ((o_host v nh a1 b1 c1 hall tn).2.getD v)) (nxS stk v (o_host v nh a1 b1 c1 hall tn).2) (T + 24) ∧ keepX σ u_) := by
  refine MI.mk (by decide +kernel) (Nat.le_of_ble_eq_true rfl) ?_
  intro p e s m args below meth c ls A Q hret hC hw hl
  have hC : Cxt E p s m args meth c cX10_host 7 (some .int) RX10 A := hC
  have hl : lv_has ls 7 [(0, .ref (a 71)), (1, .int (a1)), (2, .int (b1)), (3, .int (c1)), (4, .int (hall)), (5, .int (tn))] := hl
  have hXR := hCL.1
  have hV := hCL.2.1
  have hFS := hCL.2.2.1
  have hRG := hCL.2.2.2.1
  have hSK := hCL.2.2.2.2
  have hN := hXR.1
  have hA := hXR.2.2.1
  have hX := hXR.2.2.2.1
  have hW := hV.1
  have hS : cS σ nh nj := cS.ag hA hV.2.2.1
  have hE : aE σ σ := aE.rf
  have hnh := hS.1
  have hnj := hS.2.1
  refine lv_iload_n hC.1 hC.2.1 dX10_host_0 rfl (lv_at hl 1 rfl) ?_
  refine lv_iload_n hC.1 hC.2.1 dX10_host_1 rfl (lv_at hl 2 rfl) ?_
  refine lv_iload_n hC.1 hC.2.1 dX10_host_2 rfl (lv_at hl 3 rfl) ?_
  refine q_callSp (As := [.int (a1), .int (b1), .int (c1)]) (rest := []) hC hw hl (tX10_areAmounts l E a σ a1 b1 c1) (q_cwS hC.2.2.2.2.1 ⟨rfl, rfl⟩ wk2_172 wk2_173 wk1_1 wk2_174 hd_X10_areAmounts.2 ⟨Nat.le_of_ble_eq_true rfl, Nat.le_of_ble_eq_true rfl⟩) rfl rfl (Nat.le_of_ble_eq_true rfl) dX10_host_3 (fun H locs hw => ?_)
  refine q_ifeq hC 29 cB dX10_host_6 (by decide) (fun (c4 : ¬ (okA a1 b1 c1)) => ?_) (fun (c4 : okA a1 b1 c1) => ?_)
  · refine lv_iconst (v := (-1)) hC.1 hC.2.1 dX10_host_29 (by decide) ?_
    refine hret _ _ _ _ _ _ hw ?_ rfl dX10_host_30
    have ho : o_host v nh a1 b1 c1 hall tn = (-1, none) := by rw [o_host, if_neg (fun q => c4 q.1)]
    rw [ho]
    show _ ∧ CL _ v (nhW v) (njW v) _ _ ∧ _
    rw [hV.nW.1, hV.nW.2]
    exact ⟨rfl, hCL.mono (by omega), rfl, rfl, rfl, rfl⟩
  · refine lv_iload hC.1 hC.2.1 dX10_host_9 (lv_at hl 4 rfl) ?_
    refine lv_iconst (v := nI 5) hC.1 hC.2.1 dX10_host_11 (by decide) ?_
    refine q_callSp (As := [.int (hall), .int (nI 5)]) (rest := []) hC hw hl (tX10_isBelow l E a σ hall 5) (q_cwS hC.2.2.2.2.1 ⟨rfl, rfl⟩ wk2_175 wk2_176 wk1_1 wk2_177 hd_X10_isBelow.2 ⟨Nat.le_of_ble_eq_true rfl, Nat.le_of_ble_eq_true rfl⟩) rfl rfl (Nat.le_of_ble_eq_true rfl) dX10_host_12 (fun H locs hw => ?_)
    refine q_ifeq hC 29 cB dX10_host_15 (by decide) (fun (c8 : ¬ (¬ hall < 0 ∧ hall < 5)) => ?_) (fun (c8 : ¬ hall < 0 ∧ hall < 5) => ?_)
    · refine lv_iconst (v := (-1)) hC.1 hC.2.1 dX10_host_29 (by decide) ?_
      refine hret _ _ _ _ _ _ hw ?_ rfl dX10_host_30
      have ho : o_host v nh a1 b1 c1 hall tn = (-1, none) := by rw [o_host, if_neg (fun q => c8 q.2.1)]
      rw [ho]
      show _ ∧ CL _ v (nhW v) (njW v) _ _ ∧ _
      rw [hV.nW.1, hV.nW.2]
      exact ⟨rfl, hCL.mono (by omega), rfl, rfl, rfl, rfl⟩
    · refine lv_iload hC.1 hC.2.1 dX10_host_18 (lv_at hl 5 rfl) ?_
      refine lv_sipush (v := nI 256) hC.1 hC.2.1 dX10_host_20 (by decide) ?_
      refine q_callSp (As := [.int (tn), .int (nI 256)]) (rest := []) hC hw hl (tX10_isBelow l E a σ tn 256) (q_cwS hC.2.2.2.2.1 ⟨rfl, rfl⟩ wk2_175 wk2_176 wk1_1 wk2_177 hd_X10_isBelow.2 ⟨Nat.le_of_ble_eq_true rfl, Nat.le_of_ble_eq_true rfl⟩) rfl rfl (Nat.le_of_ble_eq_true rfl) dX10_host_23 (fun H locs hw => ?_)
      refine q_ifne hC 31 cB dX10_host_26 (by decide) (fun (c12 : ¬ tn < 0 ∧ tn < 256) => ?_) (fun (c12 : ¬ (¬ tn < 0 ∧ tn < 256)) => ?_)
      · refine lv_aload_n hC.1 hC.2.1 dX10_host_31 rfl (lv_at hl 0 rfl) ?_
        refine gf_X10_10 hC hw dX10_host_32 ?_
        refine gf_X10_93 (v := nI nh) hC hw hN.1 dX10_host_35 ?_
        refine lv_bipush (v := nI 10) hC.1 hC.2.1 dX10_host_38 (by decide) ?_
        refine q_cmplt hC 46 (cNlt (by omega) (by omega)) dX10_host_40 (by decide) (fun (c13 : nh < 10) => ?_) (fun (c13 : 10 ≤ nh) => ?_)
        · refine lv_aload_n hC.1 hC.2.1 dX10_host_46 rfl (lv_at hl 0 rfl) ?_
          refine gf_X10_39 hC hw dX10_host_47 ?_
          obtain ⟨nx9, hnx1, hnx2, hkp9, hk309, -⟩ := hCL.2.2.2.1
          refine q_callVv (As := []) (rest := []) (q0 := 8) hC hw hl (tX7_keep_all l E a σ stk.length hkp9 hk309 nx9 hnx1 hnx2) (q_cwV hC.2.2.2.2.1 ⟨rfl, rfl⟩ wk2_178 wk2_179 wk2_180 wk1_5 wk2_181 hd_X7_keep ⟨Nat.le_of_ble_eq_true rfl, Nat.le_of_ble_eq_true rfl⟩) rfl rfl rfl rfl rfl (Nat.le_of_ble_eq_true rfl) dX10_host_50 (fun u16 H locs p14 hw => ?_)
          obtain ⟨hCLu16, hku16, hzu16⟩ := keep_CL hCL hnx1 hnx2 p14
          have hXR := hCLu16.1
          have hV := hCLu16.2.1
          have hFS := hCLu16.2.2.1
          have hRG := hCLu16.2.2.2.1
          have hSK := hCLu16.2.2.2.2
          have hN := hXR.1
          have hA := hXR.2.2.1
          have hX := hXR.2.2.2.1
          have hW := hV.1
          have hS : cS u16 nh nj := cS.ag hA hV.2.2.1
          have hE : aE u16 u16 := aE.rf
          have hnh := hS.1
          have hnj := hS.2.1
          refine lv_aload_n hC.1 hC.2.1 dX10_host_53 rfl (lv_at hl 0 rfl) ?_
          refine gf_X10_10 hC hw dX10_host_54 ?_
          refine lv_iload hC.1 hC.2.1 dX10_host_57 (lv_at hl 4 rfl) ?_
          refine lv_iload hC.1 hC.2.1 dX10_host_59 (lv_at hl 5 rfl) ?_
          refine q_callVp (As := [.int (hall), .int (tn)]) (rest := []) (q0 := 6) hC hw hl (tX5_add l E a u16 nh nj hall tn hN (by omega)) (q_cwV hC.2.2.2.2.1 ⟨rfl, rfl⟩ wk2_185 wk2_186 wk2_187 wk1_2 wk2_188 hd_X5_add ⟨Nat.le_of_ble_eq_true rfl, Nat.le_of_ble_eq_true rfl⟩) rfl rfl rfl rfl rfl (Nat.le_of_ble_eq_true rfl) dX10_host_61 (fun H locs hw => ?_)
          have hw : Wst E (XW E a) (sr (sr (sr (sr u16 2 (upd (u16 2) nh hall)) 3 (upd (u16 3) nh tn)) 4 (upd (u16 4) nh 1)) 0 (upd (u16 0) 0 (nI (nh + 1)))) A s.heap H locs := hw
          refine lv_istore (lv' := [(6, .int (nI nh)), (0, .ref (a 71)), (1, .int (a1)), (2, .int (b1)), (3, .int (c1)), (4, .int (hall)), (5, .int (tn))]) hC.1 hC.2.1 dX10_host_64 hl (by decide) rfl (fun ls hl => ?_)
          refine lv_aload_n hC.1 hC.2.1 dX10_host_66 rfl (lv_at hl 1 rfl) ?_
          refine gf_X10_10 hC hw dX10_host_67 ?_
          refine gf_X10_104 hC hw dX10_host_70 ?_
          refine lv_iload hC.1 hC.2.1 dX10_host_73 (lv_at hl 0 rfl) ?_
          refine lv_iload_n hC.1 hC.2.1 dX10_host_75 rfl (lv_at hl 2 rfl) ?_
          refine lv_iload_n hC.1 hC.2.1 dX10_host_76 rfl (lv_at hl 3 rfl) ?_
          refine lv_iload_n hC.1 hC.2.1 dX10_host_77 rfl (lv_at hl 4 rfl) ?_
          refine q_callSvp (As := [.ref (a 1), .int (nI nh), .int (a1), .int (b1), .int (c1)]) (rest := []) hC hw hl (tX10_putThree_1 l E a (sr (sr (sr (sr u16 2 (upd (u16 2) nh hall)) 3 (upd (u16 3) nh tn)) 4 (upd (u16 4) nh 1)) 0 (upd (u16 0) 0 (nI (nh + 1)))) nh a1 b1 c1 (by omega)) (q_cwS hC.2.2.2.2.1 ⟨rfl, rfl⟩ wk2_189 wk2_190 wk1_1 wk2_191 hd_X10_putThree.2 ⟨Nat.le_of_ble_eq_true rfl, Nat.le_of_ble_eq_true rfl⟩) rfl rfl (Nat.le_of_ble_eq_true rfl) dX10_host_78 (fun H locs hw => ?_)
          have hw : Wst E (XW E a) (sr (sr (sr (sr (sr u16 1 (upd (upd (upd (u16 1) (nh * 3) a1) (nh * 3 + 1) b1) (nh * 3 + 2) c1)) 2 (upd (u16 2) nh hall)) 3 (upd (u16 3) nh tn)) 4 (upd (u16 4) nh 1)) 0 (upd (u16 0) 0 (nI (nh + 1)))) A s.heap H locs := hw
          have hrr : ∀ r, 5 ≤ r → r < 16 → (sr (sr (sr (sr (sr u16 1 (upd (upd (upd (u16 1) (nh * 3) a1) (nh * 3 + 1) b1) (nh * 3 + 2) c1)) 2 (upd (u16 2) nh hall)) 3 (upd (u16 3) nh tn)) 4 (upd (u16 4) nh 1)) 0 (upd (u16 0) 0 (nI (nh + 1)))) r = u16 r := (fun r h5 h16 => by rw [sr_n (by omega), sr_n (by omega), sr_n (by omega), sr_n (by omega), sr_n (by omega)])
          have hXf : XR (sr (sr (sr (sr (sr u16 1 (upd (upd (upd (u16 1) (nh * 3) a1) (nh * 3 + 1) b1) (nh * 3 + 2) c1)) 2 (upd (u16 2) nh hall)) 3 (upd (u16 3) nh tn)) 4 (upd (u16 4) nh 1)) 0 (upd (u16 0) 0 (nI (nh + 1)))) (f_host v nh a1 b1 c1 hall tn) (nh + 1) nj := XR.host hXR c13 hnj rfl rfl rfl rfl hrr rfl rfl rfl
          have hVf : VI (f_host v nh a1 b1 c1 hall tn) (nh + 1) nj T := hV.host c13 c4 c8
          have hSf : STK (sr (sr (sr (sr (sr u16 1 (upd (upd (upd (u16 1) (nh * 3) a1) (nh * 3 + 1) b1) (nh * 3 + 2) c1)) 2 (upd (u16 2) nh hall)) 3 (upd (u16 3) nh tn)) 4 (upd (u16 4) nh 1)) 0 (upd (u16 0) 0 (nI (nh + 1)))) (push30 stk v) (nh + 1) nj T := hSK.host rfl rfl rfl hrr
          refine lv_aload_n hC.1 hC.2.1 dX10_host_81 rfl (lv_at hl 1 rfl) ?_
          refine gf_X10_32 hC hw dX10_host_82 ?_
          refine q_callVv (As := []) (rest := []) (q0 := 5) hC hw hl (tX4_recount l E a (sr (sr (sr (sr (sr u16 1 (upd (upd (upd (u16 1) (nh * 3) a1) (nh * 3 + 1) b1) (nh * 3 + 2) c1)) 2 (upd (u16 2) nh hall)) 3 (upd (u16 3) nh tn)) 4 (upd (u16 4) nh 1)) 0 (upd (u16 0) 0 (nI (nh + 1)))) (nh + 1) nj (sr (sr (sr (sr (sr u16 1 (upd (upd (upd (u16 1) (nh * 3) a1) (nh * 3 + 1) b1) (nh * 3 + 2) c1)) 2 (upd (u16 2) nh hall)) 3 (upd (u16 3) nh tn)) 4 (upd (u16 4) nh 1)) 0 (upd (u16 0) 0 (nI (nh + 1)))) (pB (eM (f_host v nh a1 b1 c1 hall tn)) (-1)) hXf.1 ⟨rfl, rfl, rfl, rfl, rfl, rfl, rfl, rfl, rfl, rfl, rfl⟩ (cS.ag hXf.2.2.1 hVf.2.2.1) (hXf.2.2.2.1.PL hVf.1)) (q_cwV hC.2.2.2.2.1 ⟨rfl, rfl⟩ wk2_192 wk2_193 wk2_194 wk1_4 wk2_195 hd_X4_recount ⟨Nat.le_of_ble_eq_true rfl, Nat.le_of_ble_eq_true rfl⟩) rfl rfl rfl rfl rfl (Nat.le_of_ble_eq_true rfl) dX10_host_85 (fun u25 H locs p23 hw => ?_)
          obtain ⟨b16_26, b17_27, b18_28, b19_29, b20_30, b21_31, hFu25, huu25⟩ := p23
          subst huu25
          have hst_ : sr (sr (sr (sr (sr (sr (sr (sr (sr (sr (sr u16 1 (upd (upd (upd (u16 1) (nh * 3) a1) (nh * 3 + 1) b1) (nh * 3 + 2) c1)) 2 (upd (u16 2) nh hall)) 3 (upd (u16 3) nh tn)) 4 (upd (u16 4) nh 1)) 0 (upd (u16 0) 0 (nI (nh + 1)))) 16 b16_26) 17 b17_27) 18 b18_28) 19 b19_29) 20 b20_30) 21 b21_31 = sr (sr (sr (sr (sr (sr (sr (sr (sr (sr (sr u16 1 (upd (upd (upd (u16 1) (nh * 3) a1) (nh * 3 + 1) b1) (nh * 3 + 2) c1)) 2 (upd (u16 2) nh hall)) 3 (upd (u16 3) nh tn)) 4 (upd (u16 4) nh 1)) 16 (b16_26)) 17 (b17_27)) 18 (b18_28)) 19 (b19_29)) 20 (b20_30)) 21 (b21_31)) 0 (upd (u16 0) 0 (nI (nh + 1))) := by
            funext j_ x_
            by_cases e0 : j_ = 0
            · subst e0
              by_cases y0 : x_ = 0
              · subst y0; rfl
              · simp [sr, upd, y0]
            · by_cases e1 : j_ = 1
              · subst e1; rfl
              · by_cases e2 : j_ = 2
                · subst e2; rfl
                · by_cases e3 : j_ = 3
                  · subst e3; rfl
                  · by_cases e4 : j_ = 4
                    · subst e4; rfl
                    · by_cases e16 : j_ = 16
                      · subst e16; rfl
                      · by_cases e17 : j_ = 17
                        · subst e17; rfl
                        · by_cases e18 : j_ = 18
                          · subst e18; rfl
                          · by_cases e19 : j_ = 19
                            · subst e19; rfl
                            · by_cases e20 : j_ = 20
                              · subst e20; rfl
                              · by_cases e21 : j_ = 21
                                · subst e21; rfl
                                · simp only [sr, e0, e1, e2, e3, e4, e16, e17, e18, e19, e20, e21, if_false]
          rw [hst_] at hw
          refine lv_iload hC.1 hC.2.1 dX10_host_88 (lv_at hl 0 rfl) ?_
          refine hret _ _ _ _ _ _ hw ?_ rfl dX10_host_90
          have ho : o_host v nh a1 b1 c1 hall tn = (nI nh, some (f_host v nh a1 b1 c1 hall tn)) := by rw [o_host, if_pos ⟨c4, c8, c12⟩, if_neg (show ¬ nh = 10 by omega)]
          rw [ho]
          show _ ∧ CL _ (f_host v nh a1 b1 c1 hall tn) (nhW (f_host v nh a1 b1 c1 hall tn)) (njW (f_host v nh a1 b1 c1 hall tn)) _ _ ∧ _
          rw [hVf.nW.1, hVf.nW.2]
          exact ⟨rfl, ((CL.mk (u := sr (sr (sr (sr (sr (sr (sr (sr (sr (sr (sr u16 1 (upd (upd (upd (u16 1) (nh * 3) a1) (nh * 3 + 1) b1) (nh * 3 + 2) c1)) 2 (upd (u16 2) nh hall)) 3 (upd (u16 3) nh tn)) 4 (upd (u16 4) nh 1)) 16 (b16_26)) 17 (b17_27)) 18 (b18_28)) 19 (b19_29)) 20 (b20_30)) 21 (b21_31)) 0 (upd (u16 0) 0 (nI (nh + 1)))) (XR.cg hXf ⟨rfl, rfl, rfl, rfl, rfl, rfl, rfl, rfl, rfl, rfl, rfl⟩ rfl rfl rfl rfl rfl rfl rfl) hVf (FSr.aE (σ := sr (sr (sr (sr (sr u16 1 (upd (upd (upd (u16 1) (nh * 3) a1) (nh * 3 + 1) b1) (nh * 3 + 2) c1)) 2 (upd (u16 2) nh hall)) 3 (upd (u16 3) nh tn)) 4 (upd (u16 4) nh 1)) 0 (upd (u16 0) 0 (nI (nh + 1)))) ⟨rfl, rfl, rfl, rfl, rfl, rfl, rfl, rfl, rfl, rfl, rfl⟩ hFu25) hRG (hSf.of (fun r h => by rcases h with h | h | h | h | h | h | h | h | h <;> subst h <;> rfl)) (fun r hr => by rw [sr_n (by omega), sr_n (by omega), sr_n (by omega), sr_n (by omega), sr_n (by omega), sr_n (by omega), sr_n (by omega), sr_n (by omega), sr_n (by omega), sr_n (by omega), sr_n (by omega)]) rfl rfl).mono (by omega)), ⟨hzu16 9 (by decide) (by decide), hku16 27 (by decide) (by decide), hku16 28 (by decide) (by decide), hzu16 16 (by decide) (by decide)⟩⟩
        · refine lv_bipush (v := (-2)) hC.1 hC.2.1 dX10_host_43 (by decide) ?_
          refine hret _ _ _ _ _ _ hw ?_ rfl dX10_host_45
          have ho : o_host v nh a1 b1 c1 hall tn = (-2, none) := by rw [o_host, if_pos ⟨c4, c8, c12⟩, if_pos (show nh = 10 by omega)]
          rw [ho]
          show _ ∧ CL _ v (nhW v) (njW v) _ _ ∧ _
          rw [hV.nW.1, hV.nW.2]
          exact ⟨rfl, hCL.mono (by omega), rfl, rfl, rfl, rfl⟩
      · refine lv_iconst (v := (-1)) hC.1 hC.2.1 dX10_host_29 (by decide) ?_
        refine hret _ _ _ _ _ _ hw ?_ rfl dX10_host_30
        have ho : o_host v nh a1 b1 c1 hall tn = (-1, none) := by rw [o_host, if_neg (fun q => c12 q.2.2)]
        rw [ho]
        show _ ∧ CL _ v (nhW v) (njW v) _ _ ∧ _
        rw [hV.nW.1, hV.nW.2]
        exact ⟨rfl, hCL.mono (by omega), rfl, rfl, rfl, rfl⟩
set_option maxHeartbeats 4000000 in
set_option maxRecDepth 100000 in
theorem tX10_job (l : Launch) (E : EV) (a : Nat → Nat) (σ : St) (nh : Nat) (nj : Nat) (v : Nat → Int32) (stk : List (Nat → Int32)) (T : Nat) (kind : Int32) (a1 : Int32) (b1 : Int32) (c1 : Int32) (pr : Int32) (gr : Int32) (tol : Int32) (oth : Int32) (hCL : CL σ v nh nj stk T) : MI l E (XW E a) yX10_job (Cond.code yX10_job cX10_job 10 (some .int)) ({ frames := 2, cells := 0, slots := 0, locals := 48 }) [.ref (a 71), .int (kind), .int (a1), .int (b1), .int (c1), .int (pr), .int (gr), .int (tol), .int (oth)] σ (fun r_ u_ => r_ = (o_job v nj kind a1 b1 c1 pr gr tol oth).1 ∧ CL u_ ((o_job v nj kind a1 b1 c1 pr gr tol oth).2.getD v) (nhW ((o_job v nj kind a1 b1 c1 pr gr tol oth).2.getD v)) (njW ((o_job v nj kind a1 b1 c1 pr gr tol oth).2.getD v)) (nxS stk v (o_job v nj kind a1 b1 c1 pr gr tol oth).2) (T + 24) ∧ keepX σ u_) := by
  refine MI.mk (by decide +kernel) (Nat.le_of_ble_eq_true rfl) ?_
  intro p e s m args below meth c ls A Q hret hC hw hl
  have hC : Cxt E p s m args meth c cX10_job 10 (some .int) RX10 A := hC
  have hl : lv_has ls 10 [(0, .ref (a 71)), (1, .int (kind)), (2, .int (a1)), (3, .int (b1)), (4, .int (c1)), (5, .int (pr)), (6, .int (gr)), (7, .int (tol)), (8, .int (oth))] := hl
  have hXR := hCL.1
  have hV := hCL.2.1
  have hFS := hCL.2.2.1
  have hRG := hCL.2.2.2.1
  have hSK := hCL.2.2.2.2
  have hN := hXR.1
  have hA := hXR.2.2.1
  have hX := hXR.2.2.2.1
  have hW := hV.1
  have hS : cS σ nh nj := cS.ag hA hV.2.2.1
  have hE : aE σ σ := aE.rf
  have hnh := hS.1
  have hnj := hS.2.1
  refine lv_iload_n hC.1 hC.2.1 dX10_job_0 rfl (lv_at hl 1 rfl) ?_
  refine lv_bipush (v := nI 6) hC.1 hC.2.1 dX10_job_1 (by decide) ?_
  refine q_callSp (As := [.int (kind), .int (nI 6)]) (rest := []) hC hw hl (tX10_isBelow l E a σ kind 6) (q_cwS hC.2.2.2.2.1 ⟨rfl, rfl⟩ wk2_175 wk2_176 wk1_1 wk2_177 hd_X10_isBelow.2 ⟨Nat.le_of_ble_eq_true rfl, Nat.le_of_ble_eq_true rfl⟩) rfl rfl (Nat.le_of_ble_eq_true rfl) dX10_job_3 (fun H locs hw => ?_)
  refine q_ifeq hC 29 cB dX10_job_6 (by decide) (fun (c4 : ¬ (¬ kind < 0 ∧ kind < 6)) => ?_) (fun (c4 : ¬ kind < 0 ∧ kind < 6) => ?_)
  · refine lv_iconst (v := (-1)) hC.1 hC.2.1 dX10_job_29 (by decide) ?_
    refine hret _ _ _ _ _ _ hw ?_ rfl dX10_job_30
    have ho : o_job v nj kind a1 b1 c1 pr gr tol oth = (-1, none) := by rw [o_job, if_neg (fun q => c4 q.1)]
    rw [ho]
    show _ ∧ CL _ v (nhW v) (njW v) _ _ ∧ _
    rw [hV.nW.1, hV.nW.2]
    exact ⟨rfl, hCL.mono (by omega), rfl, rfl, rfl, rfl⟩
  · refine lv_iload_n hC.1 hC.2.1 dX10_job_9 rfl (lv_at hl 2 rfl) ?_
    refine lv_iload_n hC.1 hC.2.1 dX10_job_10 rfl (lv_at hl 3 rfl) ?_
    refine lv_iload hC.1 hC.2.1 dX10_job_11 (lv_at hl 4 rfl) ?_
    refine q_callSp (As := [.int (a1), .int (b1), .int (c1)]) (rest := []) hC hw hl (tX10_areAmounts l E a σ a1 b1 c1) (q_cwS hC.2.2.2.2.1 ⟨rfl, rfl⟩ wk2_172 wk2_173 wk1_1 wk2_174 hd_X10_areAmounts.2 ⟨Nat.le_of_ble_eq_true rfl, Nat.le_of_ble_eq_true rfl⟩) rfl rfl (Nat.le_of_ble_eq_true rfl) dX10_job_13 (fun H locs hw => ?_)
    refine q_ifeq hC 29 cB dX10_job_16 (by decide) (fun (c8 : ¬ (okA a1 b1 c1)) => ?_) (fun (c8 : okA a1 b1 c1) => ?_)
    · refine lv_iconst (v := (-1)) hC.1 hC.2.1 dX10_job_29 (by decide) ?_
      refine hret _ _ _ _ _ _ hw ?_ rfl dX10_job_30
      have ho : o_job v nj kind a1 b1 c1 pr gr tol oth = (-1, none) := by rw [o_job, if_neg (fun q => c8 q.2.1)]
      rw [ho]
      show _ ∧ CL _ v (nhW v) (njW v) _ _ ∧ _
      rw [hV.nW.1, hV.nW.2]
      exact ⟨rfl, hCL.mono (by omega), rfl, rfl, rfl, rfl⟩
    · refine lv_iload hC.1 hC.2.1 dX10_job_19 (lv_at hl 5 rfl) ?_
      refine lv_bipush (v := nI 10) hC.1 hC.2.1 dX10_job_21 (by decide) ?_
      refine q_callSp (As := [.int (pr), .int (nI 10)]) (rest := []) hC hw hl (tX10_isBelow l E a σ pr 10) (q_cwS hC.2.2.2.2.1 ⟨rfl, rfl⟩ wk2_175 wk2_176 wk1_1 wk2_177 hd_X10_isBelow.2 ⟨Nat.le_of_ble_eq_true rfl, Nat.le_of_ble_eq_true rfl⟩) rfl rfl (Nat.le_of_ble_eq_true rfl) dX10_job_23 (fun H locs hw => ?_)
      refine q_ifne hC 31 cB dX10_job_26 (by decide) (fun (c12 : ¬ pr < 0 ∧ pr < 10) => ?_) (fun (c12 : ¬ (¬ pr < 0 ∧ pr < 10)) => ?_)
      · refine lv_iload hC.1 hC.2.1 dX10_job_31 (lv_at hl 6 rfl) ?_
        refine lv_bipush (v := nI 8) hC.1 hC.2.1 dX10_job_33 (by decide) ?_
        refine q_callSp (As := [.int (gr), .int (nI 8)]) (rest := []) hC hw hl (tX10_isBelow l E a σ gr 8) (q_cwS hC.2.2.2.2.1 ⟨rfl, rfl⟩ wk2_175 wk2_176 wk1_1 wk2_177 hd_X10_isBelow.2 ⟨Nat.le_of_ble_eq_true rfl, Nat.le_of_ble_eq_true rfl⟩) rfl rfl (Nat.le_of_ble_eq_true rfl) dX10_job_35 (fun H locs hw => ?_)
        refine q_ifeq hC 62 cB dX10_job_38 (by decide) (fun (c16 : ¬ (¬ gr < 0 ∧ gr < 8)) => ?_) (fun (c16 : ¬ gr < 0 ∧ gr < 8) => ?_)
        · refine lv_iconst (v := (-1)) hC.1 hC.2.1 dX10_job_62 (by decide) ?_
          refine hret _ _ _ _ _ _ hw ?_ rfl dX10_job_63
          have ho : o_job v nj kind a1 b1 c1 pr gr tol oth = (-1, none) := by rw [o_job, if_neg (fun q => c16 q.2.2.2.1)]
          rw [ho]
          show _ ∧ CL _ v (nhW v) (njW v) _ _ ∧ _
          rw [hV.nW.1, hV.nW.2]
          exact ⟨rfl, hCL.mono (by omega), rfl, rfl, rfl, rfl⟩
        · refine lv_iload hC.1 hC.2.1 dX10_job_41 (lv_at hl 7 rfl) ?_
          refine lv_sipush (v := nI 256) hC.1 hC.2.1 dX10_job_43 (by decide) ?_
          refine q_callSp (As := [.int (tol), .int (nI 256)]) (rest := []) hC hw hl (tX10_isBelow l E a σ tol 256) (q_cwS hC.2.2.2.2.1 ⟨rfl, rfl⟩ wk2_175 wk2_176 wk1_1 wk2_177 hd_X10_isBelow.2 ⟨Nat.le_of_ble_eq_true rfl, Nat.le_of_ble_eq_true rfl⟩) rfl rfl (Nat.le_of_ble_eq_true rfl) dX10_job_46 (fun H locs hw => ?_)
          refine q_ifeq hC 62 cB dX10_job_49 (by decide) (fun (c20 : ¬ (¬ tol < 0 ∧ tol < 256)) => ?_) (fun (c20 : ¬ tol < 0 ∧ tol < 256) => ?_)
          · refine lv_iconst (v := (-1)) hC.1 hC.2.1 dX10_job_62 (by decide) ?_
            refine hret _ _ _ _ _ _ hw ?_ rfl dX10_job_63
            have ho : o_job v nj kind a1 b1 c1 pr gr tol oth = (-1, none) := by rw [o_job, if_neg (fun q => c20 q.2.2.2.2.1)]
            rw [ho]
            show _ ∧ CL _ v (nhW v) (njW v) _ _ ∧ _
            rw [hV.nW.1, hV.nW.2]
            exact ⟨rfl, hCL.mono (by omega), rfl, rfl, rfl, rfl⟩
          · refine lv_iload hC.1 hC.2.1 dX10_job_52 (lv_at hl 8 rfl) ?_
            refine lv_bipush (v := nI 8) hC.1 hC.2.1 dX10_job_54 (by decide) ?_
            refine q_callSp (As := [.int (oth), .int (nI 8)]) (rest := []) hC hw hl (tX10_isBelow l E a σ oth 8) (q_cwS hC.2.2.2.2.1 ⟨rfl, rfl⟩ wk2_175 wk2_176 wk1_1 wk2_177 hd_X10_isBelow.2 ⟨Nat.le_of_ble_eq_true rfl, Nat.le_of_ble_eq_true rfl⟩) rfl rfl (Nat.le_of_ble_eq_true rfl) dX10_job_56 (fun H locs hw => ?_)
            refine q_ifne hC 64 cB dX10_job_59 (by decide) (fun (c24 : ¬ oth < 0 ∧ oth < 8) => ?_) (fun (c24 : ¬ (¬ oth < 0 ∧ oth < 8)) => ?_)
            · refine lv_aload_n hC.1 hC.2.1 dX10_job_64 rfl (lv_at hl 0 rfl) ?_
              refine gf_X10_19 hC hw dX10_job_65 ?_
              refine gf_X10_114 (v := nI nj) hC hw hN.2 dX10_job_68 ?_
              refine lv_bipush (v := nI 24) hC.1 hC.2.1 dX10_job_71 (by decide) ?_
              refine q_cmplt hC 79 (cNlt (by omega) (by omega)) dX10_job_73 (by decide) (fun (c25 : nj < 24) => ?_) (fun (c25 : 24 ≤ nj) => ?_)
              · refine lv_aload_n hC.1 hC.2.1 dX10_job_79 rfl (lv_at hl 0 rfl) ?_
                refine gf_X10_39 hC hw dX10_job_80 ?_
                obtain ⟨nx9, hnx1, hnx2, hkp9, hk309, -⟩ := hCL.2.2.2.1
                refine q_callVv (As := []) (rest := []) (q0 := 8) hC hw hl (tX7_keep_all l E a σ stk.length hkp9 hk309 nx9 hnx1 hnx2) (q_cwV hC.2.2.2.2.1 ⟨rfl, rfl⟩ wk2_178 wk2_179 wk2_180 wk1_5 wk2_181 hd_X7_keep ⟨Nat.le_of_ble_eq_true rfl, Nat.le_of_ble_eq_true rfl⟩) rfl rfl rfl rfl rfl (Nat.le_of_ble_eq_true rfl) dX10_job_83 (fun u28 H locs p26 hw => ?_)
                obtain ⟨hCLu28, hku28, hzu28⟩ := keep_CL hCL hnx1 hnx2 p26
                have hXR := hCLu28.1
                have hV := hCLu28.2.1
                have hFS := hCLu28.2.2.1
                have hRG := hCLu28.2.2.2.1
                have hSK := hCLu28.2.2.2.2
                have hN := hXR.1
                have hA := hXR.2.2.1
                have hX := hXR.2.2.2.1
                have hW := hV.1
                have hS : cS u28 nh nj := cS.ag hA hV.2.2.1
                have hE : aE u28 u28 := aE.rf
                have hnh := hS.1
                have hnj := hS.2.1
                refine lv_aload_n hC.1 hC.2.1 dX10_job_86 rfl (lv_at hl 0 rfl) ?_
                refine gf_X10_19 hC hw dX10_job_87 ?_
                refine lv_iload_n hC.1 hC.2.1 dX10_job_90 rfl (lv_at hl 1 rfl) ?_
                refine lv_iload hC.1 hC.2.1 dX10_job_91 (lv_at hl 5 rfl) ?_
                refine lv_iload hC.1 hC.2.1 dX10_job_93 (lv_at hl 6 rfl) ?_
                refine lv_iload hC.1 hC.2.1 dX10_job_95 (lv_at hl 7 rfl) ?_
                refine lv_iload hC.1 hC.2.1 dX10_job_97 (lv_at hl 8 rfl) ?_
                refine q_callVp (As := [.int (kind), .int (pr), .int (gr), .int (tol), .int (oth)]) (rest := []) (q0 := 7) hC hw hl (tX6_add l E a u28 nh nj kind pr gr tol oth hN (by omega)) (q_cwV hC.2.2.2.2.1 ⟨rfl, rfl⟩ wk2_216 wk2_217 wk2_218 wk1_3 wk2_219 hd_X6_add ⟨Nat.le_of_ble_eq_true rfl, Nat.le_of_ble_eq_true rfl⟩) rfl rfl rfl rfl rfl (Nat.le_of_ble_eq_true rfl) dX10_job_99 (fun H locs hw => ?_)
                have hw : Wst E (XW E a) (sr (sr (sr (sr (sr (sr (sr (sr (sr (sr u28 5 (upd (u28 5) nj kind)) 7 (upd (u28 7) nj pr)) 8 (upd (u28 8) nj gr)) 9 (upd (u28 9) nj tol)) 10 (upd (u28 10) nj oth)) 11 (upd (u28 11) nj 0)) 12 (upd (u28 12) nj (-1))) 13 (upd (u28 13) nj 0)) 14 (upd (u28 14) nj (-1))) 0 (upd (u28 0) 1 (nI (nj + 1)))) A s.heap H locs := hw
                refine lv_istore (lv' := [(9, .int (nI nj)), (0, .ref (a 71)), (1, .int (kind)), (2, .int (a1)), (3, .int (b1)), (4, .int (c1)), (5, .int (pr)), (6, .int (gr)), (7, .int (tol)), (8, .int (oth))]) hC.1 hC.2.1 dX10_job_102 hl (by decide) rfl (fun ls hl => ?_)
                refine lv_aload_n hC.1 hC.2.1 dX10_job_104 rfl (lv_at hl 1 rfl) ?_
                refine gf_X10_19 hC hw dX10_job_105 ?_
                refine gf_X10_118 hC hw dX10_job_108 ?_
                refine lv_iload hC.1 hC.2.1 dX10_job_111 (lv_at hl 0 rfl) ?_
                refine lv_iload_n hC.1 hC.2.1 dX10_job_113 rfl (lv_at hl 3 rfl) ?_
                refine lv_iload_n hC.1 hC.2.1 dX10_job_114 rfl (lv_at hl 4 rfl) ?_
                refine lv_iload hC.1 hC.2.1 dX10_job_115 (lv_at hl 5 rfl) ?_
                refine q_callSvp (As := [.ref (a 6), .int (nI nj), .int (a1), .int (b1), .int (c1)]) (rest := []) hC hw hl (tX10_putThree_6 l E a (sr (sr (sr (sr (sr (sr (sr (sr (sr (sr u28 5 (upd (u28 5) nj kind)) 7 (upd (u28 7) nj pr)) 8 (upd (u28 8) nj gr)) 9 (upd (u28 9) nj tol)) 10 (upd (u28 10) nj oth)) 11 (upd (u28 11) nj 0)) 12 (upd (u28 12) nj (-1))) 13 (upd (u28 13) nj 0)) 14 (upd (u28 14) nj (-1))) 0 (upd (u28 0) 1 (nI (nj + 1)))) nj a1 b1 c1 (by omega)) (q_cwS hC.2.2.2.2.1 ⟨rfl, rfl⟩ wk2_189 wk2_190 wk1_1 wk2_191 hd_X10_putThree.2 ⟨Nat.le_of_ble_eq_true rfl, Nat.le_of_ble_eq_true rfl⟩) rfl rfl (Nat.le_of_ble_eq_true rfl) dX10_job_117 (fun H locs hw => ?_)
                have hw : Wst E (XW E a) (sr (sr (sr (sr (sr (sr (sr (sr (sr (sr (sr u28 5 (upd (u28 5) nj kind)) 6 (upd (upd (upd (u28 6) (nj * 3) a1) (nj * 3 + 1) b1) (nj * 3 + 2) c1)) 7 (upd (u28 7) nj pr)) 8 (upd (u28 8) nj gr)) 9 (upd (u28 9) nj tol)) 10 (upd (u28 10) nj oth)) 11 (upd (u28 11) nj 0)) 12 (upd (u28 12) nj (-1))) 13 (upd (u28 13) nj 0)) 14 (upd (u28 14) nj (-1))) 0 (upd (u28 0) 1 (nI (nj + 1)))) A s.heap H locs := hw
                refine lv_iload hC.1 hC.2.1 dX10_job_120 (lv_at hl 0 rfl) ?_
                refine hret _ _ _ _ _ _ hw ?_ rfl dX10_job_122
                have hrr : ∀ r, (1 ≤ r ∧ r < 5) ∨ r = 15 → (sr (sr (sr (sr (sr (sr (sr (sr (sr (sr (sr u28 5 (upd (u28 5) nj kind)) 6 (upd (upd (upd (u28 6) (nj * 3) a1) (nj * 3 + 1) b1) (nj * 3 + 2) c1)) 7 (upd (u28 7) nj pr)) 8 (upd (u28 8) nj gr)) 9 (upd (u28 9) nj tol)) 10 (upd (u28 10) nj oth)) 11 (upd (u28 11) nj 0)) 12 (upd (u28 12) nj (-1))) 13 (upd (u28 13) nj 0)) 14 (upd (u28 14) nj (-1))) 0 (upd (u28 0) 1 (nI (nj + 1)))) r = u28 r := (fun r h => by rw [sr_n (by omega), sr_n (by omega), sr_n (by omega), sr_n (by omega), sr_n (by omega), sr_n (by omega), sr_n (by omega), sr_n (by omega), sr_n (by omega), sr_n (by omega), sr_n (by omega)])
                have hXf : XR (sr (sr (sr (sr (sr (sr (sr (sr (sr (sr (sr u28 5 (upd (u28 5) nj kind)) 6 (upd (upd (upd (u28 6) (nj * 3) a1) (nj * 3 + 1) b1) (nj * 3 + 2) c1)) 7 (upd (u28 7) nj pr)) 8 (upd (u28 8) nj gr)) 9 (upd (u28 9) nj tol)) 10 (upd (u28 10) nj oth)) 11 (upd (u28 11) nj 0)) 12 (upd (u28 12) nj (-1))) 13 (upd (u28 13) nj 0)) 14 (upd (u28 14) nj (-1))) 0 (upd (u28 0) 1 (nI (nj + 1)))) (f_job v nj kind a1 b1 c1 pr gr tol oth) nh (nj + 1) := XR.job hXR hnh c25 rfl rfl rfl rfl rfl rfl rfl rfl rfl rfl hrr rfl rfl rfl
                have hVf : VI (f_job v nj kind a1 b1 c1 pr gr tol oth) nh (nj + 1) T := hV.job c25 c8 c12 c16 c24
                have hSf : STK (sr (sr (sr (sr (sr (sr (sr (sr (sr (sr (sr u28 5 (upd (u28 5) nj kind)) 6 (upd (upd (upd (u28 6) (nj * 3) a1) (nj * 3 + 1) b1) (nj * 3 + 2) c1)) 7 (upd (u28 7) nj pr)) 8 (upd (u28 8) nj gr)) 9 (upd (u28 9) nj tol)) 10 (upd (u28 10) nj oth)) 11 (upd (u28 11) nj 0)) 12 (upd (u28 12) nj (-1))) 13 (upd (u28 13) nj 0)) 14 (upd (u28 14) nj (-1))) 0 (upd (u28 0) 1 (nI (nj + 1)))) (push30 stk v) nh (nj + 1) T := hSK.job rfl rfl rfl rfl rfl rfl hrr
                have hFf : FSr (sr (sr (sr (sr (sr (sr (sr (sr (sr (sr (sr u28 5 (upd (u28 5) nj kind)) 6 (upd (upd (upd (u28 6) (nj * 3) a1) (nj * 3 + 1) b1) (nj * 3 + 2) c1)) 7 (upd (u28 7) nj pr)) 8 (upd (u28 8) nj gr)) 9 (upd (u28 9) nj tol)) 10 (upd (u28 10) nj oth)) 11 (upd (u28 11) nj 0)) 12 (upd (u28 12) nj (-1))) 13 (upd (u28 13) nj 0)) 14 (upd (u28 14) nj (-1))) 0 (upd (u28 0) 1 (nI (nj + 1)))) (pB (eM (f_job v nj kind a1 b1 c1 pr gr tol oth)) (-1)) nh (nj + 1) (u28 16) (u28 17) (u28 18) (u28 19) (u28 20) (u28 21) := FSr.job hFS hnh (pB_job c25).1 (pB_job c25).2 rfl rfl rfl rfl rfl rfl
                have ho : o_job v nj kind a1 b1 c1 pr gr tol oth = (nI nj, some (f_job v nj kind a1 b1 c1 pr gr tol oth)) := by rw [o_job, if_pos ⟨c4, c8, c12, c16, c20, c24⟩, if_neg (show ¬ nj = 24 by omega)]
                rw [ho]
                show _ ∧ CL _ (f_job v nj kind a1 b1 c1 pr gr tol oth) (nhW (f_job v nj kind a1 b1 c1 pr gr tol oth)) (njW (f_job v nj kind a1 b1 c1 pr gr tol oth)) _ _ ∧ _
                rw [hVf.nW.1, hVf.nW.2]
                exact ⟨rfl, ((CL.mk (u := sr (sr (sr (sr (sr (sr (sr (sr (sr (sr (sr u28 5 (upd (u28 5) nj kind)) 6 (upd (upd (upd (u28 6) (nj * 3) a1) (nj * 3 + 1) b1) (nj * 3 + 2) c1)) 7 (upd (u28 7) nj pr)) 8 (upd (u28 8) nj gr)) 9 (upd (u28 9) nj tol)) 10 (upd (u28 10) nj oth)) 11 (upd (u28 11) nj 0)) 12 (upd (u28 12) nj (-1))) 13 (upd (u28 13) nj 0)) 14 (upd (u28 14) nj (-1))) 0 (upd (u28 0) 1 (nI (nj + 1)))) hXf hVf hFf hRG hSf (fun r hr => by rw [sr_n (by omega), sr_n (by omega), sr_n (by omega), sr_n (by omega), sr_n (by omega), sr_n (by omega), sr_n (by omega), sr_n (by omega), sr_n (by omega), sr_n (by omega), sr_n (by omega)]) rfl rfl).mono (by omega)), ⟨hzu28 9 (by decide) (by decide), hku28 27 (by decide) (by decide), hku28 28 (by decide) (by decide), hzu28 16 (by decide) (by decide)⟩⟩
              · refine lv_bipush (v := (-2)) hC.1 hC.2.1 dX10_job_76 (by decide) ?_
                refine hret _ _ _ _ _ _ hw ?_ rfl dX10_job_78
                have ho : o_job v nj kind a1 b1 c1 pr gr tol oth = (-2, none) := by rw [o_job, if_pos ⟨c4, c8, c12, c16, c20, c24⟩, if_pos (show nj = 24 by omega)]
                rw [ho]
                show _ ∧ CL _ v (nhW v) (njW v) _ _ ∧ _
                rw [hV.nW.1, hV.nW.2]
                exact ⟨rfl, hCL.mono (by omega), rfl, rfl, rfl, rfl⟩
            · refine lv_iconst (v := (-1)) hC.1 hC.2.1 dX10_job_62 (by decide) ?_
              refine hret _ _ _ _ _ _ hw ?_ rfl dX10_job_63
              have ho : o_job v nj kind a1 b1 c1 pr gr tol oth = (-1, none) := by rw [o_job, if_neg (fun q => c24 q.2.2.2.2.2)]
              rw [ho]
              show _ ∧ CL _ v (nhW v) (njW v) _ _ ∧ _
              rw [hV.nW.1, hV.nW.2]
              exact ⟨rfl, hCL.mono (by omega), rfl, rfl, rfl, rfl⟩
      · refine lv_iconst (v := (-1)) hC.1 hC.2.1 dX10_job_29 (by decide) ?_
        refine hret _ _ _ _ _ _ hw ?_ rfl dX10_job_30
        have ho : o_job v nj kind a1 b1 c1 pr gr tol oth = (-1, none) := by rw [o_job, if_neg (fun q => c12 q.2.2.1)]
        rw [ho]
        show _ ∧ CL _ v (nhW v) (njW v) _ _ ∧ _
        rw [hV.nW.1, hV.nW.2]
        exact ⟨rfl, hCL.mono (by omega), rfl, rfl, rfl, rfl⟩
set_option maxHeartbeats 4000000 in
set_option maxRecDepth 100000 in
theorem tX10_undo (l : Launch) (E : EV) (a : Nat → Nat) (σ : St) (nh : Nat) (nj : Nat) (v : Nat → Int32) (stk : List (Nat → Int32)) (T : Nat) (hCL : CL σ v nh nj stk T) : MI l E (XW E a) yX10_undo (Cond.code yX10_undo cX10_undo 1 (some .int)) ({ frames := 3, cells := 0, slots := 0, locals := 67 }) [.ref (a 71)] σ (fun r_ u_ => if stk.length = 0 then r_ = -2 ∧ CL u_ v nh nj stk (T + 24) ∧ keepX σ u_ else r_ = nI (stk.length - 1) ∧ CL u_ (stk.getLastD v) (nhW (stk.getLastD v)) (njW (stk.getLastD v)) stk.dropLast (T + 24) ∧ keepX σ u_) := by
  refine MI.mk (by decide +kernel) (Nat.le_of_ble_eq_true rfl) ?_
  intro p e s m args below meth c ls A Q hret hC hw hl
  have hC : Cxt E p s m args meth c cX10_undo 1 (some .int) RX10 A := hC
  have hl : lv_has ls 1 [(0, .ref (a 71))] := hl
  have hXR := hCL.1
  have hV := hCL.2.1
  have hFS := hCL.2.2.1
  have hRG := hCL.2.2.2.1
  have hSK := hCL.2.2.2.2
  have hN := hXR.1
  have hA := hXR.2.2.1
  have hX := hXR.2.2.2.1
  have hW := hV.1
  have hS : cS σ nh nj := cS.ag hA hV.2.2.1
  have hE : aE σ σ := aE.rf
  have hnh := hS.1
  have hnj := hS.2.1
  obtain ⟨nx9, hnx1, hnx2, hk4, hk309, -⟩ := hCL.2.2.2.1
  refine lv_aload_n hC.1 hC.2.1 dX10_undo_0 rfl (lv_at hl 0 rfl) ?_
  refine gf_X10_39 hC hw dX10_undo_1 ?_
  refine gf_X10_239 (v := nI stk.length) hC hw hk4 dX10_undo_4 ?_
  refine q_ifne hC 13 (cN0 (by omega)) dX10_undo_7 (by decide) (fun (c1 : stk.length ≠ 0) => ?_) (fun (c1 : stk.length = 0) => ?_)
  · have hne9 : stk.length ≠ 0 := c1
    refine lv_aload_n hC.1 hC.2.1 dX10_undo_13 rfl (lv_at hl 0 rfl) ?_
    refine gf_X10_39 hC hw dX10_undo_14 ?_
    refine q_callVv (As := []) (rest := []) (q0 := 8) hC hw hl (tX7_restore_all l E a σ stk.length hk4 hk309 (by omega) nx9 hnx1 hnx2) (q_cwV hC.2.2.2.2.1 ⟨rfl, rfl⟩ wk4_81 wk4_82 wk4_83 wk1_5 wk4_84 hd_X7_restore ⟨Nat.le_of_ble_eq_true rfl, Nat.le_of_ble_eq_true rfl⟩) rfl rfl rfl rfl rfl (Nat.le_of_ble_eq_true rfl) dX10_undo_17 (fun u4 H locs p2 hw => ?_)
    obtain ⟨w9, hgl9, hXf, hVf, hRf, hSf, hk9, hke9⟩ := rs_CL hCL hne9 hnx2 hnx1 p2
    refine lv_aload_n hC.1 hC.2.1 dX10_undo_20 rfl (lv_at hl 0 rfl) ?_
    refine gf_X10_32 hC hw dX10_undo_21 ?_
    refine q_callVv (As := []) (rest := []) (q0 := 5) hC hw hl (tX4_recount l E a u4 (nhW w9) (njW w9) u4 (pB (eM w9) (-1)) hXf.1 ⟨rfl, rfl, rfl, rfl, rfl, rfl, rfl, rfl, rfl, rfl, rfl⟩ (cS.ag hXf.2.2.1 hVf.2.2.1) (hXf.2.2.2.1.PL hVf.1)) (q_cwV hC.2.2.2.2.1 ⟨rfl, rfl⟩ wk2_192 wk2_193 wk2_194 wk1_4 wk2_195 hd_X4_recount ⟨Nat.le_of_ble_eq_true rfl, Nat.le_of_ble_eq_true rfl⟩) rfl rfl rfl rfl rfl (Nat.le_of_ble_eq_true rfl) dX10_undo_24 (fun u7 H locs p5 hw => ?_)
    obtain ⟨b16_8, b17_9, b18_10, b19_11, b20_12, b21_13, hFu7, huu7⟩ := p5
    subst huu7
    refine lv_aload_n hC.1 hC.2.1 dX10_undo_27 rfl (lv_at hl 0 rfl) ?_
    refine gf_X10_39 hC hw dX10_undo_28 ?_
    refine gf_X10_239 (v := nI (stk.length - 1)) hC hw hk9 dX10_undo_31 ?_
    refine hret _ _ _ _ _ _ hw ?_ rfl dX10_undo_34
    rw [if_neg hne9, hgl9]
    exact ⟨rfl, (CL.mk (u := sr (sr (sr (sr (sr (sr u4 16 (b16_8)) 17 (b17_9)) 18 (b18_10)) 19 (b19_11)) 20 (b20_12)) 21 (b21_13)) (XR.cg hXf ⟨rfl, rfl, rfl, rfl, rfl, rfl, rfl, rfl, rfl, rfl, rfl⟩ rfl rfl rfl rfl rfl rfl rfl) hVf (FSr.aE (σ := u4) ⟨rfl, rfl, rfl, rfl, rfl, rfl, rfl, rfl, rfl, rfl, rfl⟩ hFu7) hRf (hSf.of (fun r h => by rcases h with h | h | h | h | h | h | h | h | h <;> subst h <;> rfl)) (fun r hr => by rw [sr_n (by omega), sr_n (by omega), sr_n (by omega), sr_n (by omega), sr_n (by omega), sr_n (by omega)]) rfl rfl).mono (by omega), hke9⟩
  · refine lv_bipush (v := (-2)) hC.1 hC.2.1 dX10_undo_10 (by decide) ?_
    refine hret _ _ _ _ _ _ hw ?_ rfl dX10_undo_12
    rw [if_pos c1]
    exact ⟨rfl, hCL.mono (by omega), rfl, rfl, rfl, rfl⟩
