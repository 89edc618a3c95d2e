theorem FSr.r6 {E0 : St} {P : Nat → Int32} {nh nj j i : Nat} {x : Int32} {b16 b17 b18 b19 b20 b21 : Nat → Int32} (hn : nh ≤ 10) (hi : i < 3) (hP : P j = -1) (hF : FSr E0 P nh nj b16 b17 b18 b19 b20 b21) : FSr (sr E0 6 (upd (E0 6) (3 * j + i) x)) P nh nj b16 b17 b18 b19 b20 b21 := by
  refine ⟨fun h hh => ⟨fun y hy => ((hF.1 h hh).1 y hy).trans ?_, (hF.1 h hh).2⟩, hF.2⟩
  refine congrArg (E0 1 (3 * h + y) - ·) (sm_congr (fun k hk => ?_))
  show (if P k = nI h then E0 6 (3 * k + y) else 0) = (if P k = nI h then upd (E0 6) (3 * j + i) x (3 * k + y) else 0)
  by_cases e : P k = nI h
  · rw [if_pos e, if_pos e, upn (fun q => nI_nm1 (show h < 2 ^ 31 by omega) (by rw [← hP, show j = k by omega]; exact e))]
  · rw [if_neg e, if_neg e]
theorem aE.r9' {σ E0 : St} {j : Nat} {x : Int32} {f : Nat → Int32} (hE : aE σ E0) (e : f = upd (σ 9) j x) : aE (sr σ 9 f) (sr E0 9 (upd (E0 9) j x)) := by rw [e]; exact hE.r9
def TI (v : Nat → Int32) (nh nj j b : Nat) (z13 z14 : Int32) : Prop := (z14 = -1 ∧ ∀ y, y < b → ∀ h, h < nh → ¬ ftT v nh nj j y h) ∨ ∃ y h, y < b ∧ Fst 8 nh (ftT v nh nj j) y h ∧ z13 = nI y ∧ z14 = nI h
theorem TI.s {E0 : St} {v : Nat → Int32} {nh nj j b : Nat} {z13 z14 : Int32} (h : TI v nh nj j b z13 z14) (hz : z14 = -1) (hb : b < 8) (hA : agE E0 (eM v) nh nj) (hW : mF v nh nj) (hj : j < nj) (hj0 : eM v 11 j = 0) : TI v nh nj j (b + 1) (nI b) (m_ff (sr E0 9 (upd (E0 9) j (E0 9 j ||| (1 <<< (nI b &&& 31))))) (pB (eM v) (-1)) nh nj j nh) := by
  have h1 := hW.1
  have hno : ∀ y, y < b → ∀ x, x < nh → ¬ ftT v nh nj j y x := by
    rcases h with ⟨-, q⟩ | ⟨y, x, -, y2, -, y3⟩
    · exact q
    · have := y2.2.1
      exact absurd (hz.symm.trans y3) (nI_nm1 (by omega))
  rcases ff_no (E0 := sr E0 9 (upd (E0 9) j (E0 9 j ||| (1 <<< (nI b &&& 31))))) (P := pB (eM v) (-1)) (nh := nh) (nj := nj) (j := j) (n := nh) (by omega) with ⟨a1, a2⟩ | ⟨x, a1, a2, a3, a4⟩
  · exact Or.inl ⟨a1, ball_s.mpr ⟨hno, fun x hx q => a2 x hx ((ftT_iff hA hW hj hj0 hx).mpr q)⟩⟩
  · exact Or.inr ⟨b, x, Nat.lt_succ_self b, ⟨hb, a1, (ftT_iff hA hW hj hj0 a1).mp a3, hno, fun y hy q => a4 y hy ((ftT_iff hA hW hj hj0 (by omega)).mpr q)⟩, rfl, a2⟩
theorem TI.fin {v : Nat → Int32} {nh nj j b : Nat} {z13 z14 : Int32} (h : TI v nh nj j b z13 z14) (hn : nh ≤ 10) (hb : b ≤ 8) (hc : 8 ≤ b ∨ ¬ z14 = -1) : (∃ y x, Fst 8 nh (ftT v nh nj j) y x ∧ (if ¬ z14 = -1 then (1 : Int32) else 0) = 1 ∧ z13 = nI y ∧ z14 = nI x) ∨ ((∀ y x, y < 8 → x < nh → ¬ ftT v nh nj j y x) ∧ (if ¬ z14 = -1 then (1 : Int32) else 0) = 0 ∧ z14 = -1) := by
  rcases h with ⟨h1, h2⟩ | ⟨y, x, y1, y2, y3, y4⟩
  · exact Or.inr ⟨fun y x hy hx => h2 y (by have := hc.resolve_right (fun q => q h1); omega) x hx, if_neg (fun q => q h1), h1⟩
  · have := y2.2.1
    exact Or.inl ⟨y, x, y2, if_pos (fun q => nI_nm1 (show x < 2 ^ 31 by omega) (y4.symm.trans q).symm), y3, y4⟩
def GI (v : Nat → Int32) (nh nj j b : Nat) (z13 z14 : Int32) : Prop := (z14 = -1 ∧ ∀ y, y < b → ∀ h, h < nh → ¬ ftG v nh nj j y h) ∨ ∃ y h, y < b ∧ Fst nj nh (ftG v nh nj j) y h ∧ z13 = nI y ∧ z14 = nI h
theorem GI.no {v : Nat → Int32} {nh nj j b : Nat} {z13 z14 : Int32} (h : GI v nh nj j b z13 z14) (hs : ¬ eM v 11 b = 1) : GI v nh nj j (b + 1) z13 z14 := by
  rcases h with ⟨h1, h2⟩ | ⟨y, x, y1, y2, y3⟩
  · exact Or.inl ⟨h1, ball_s.mpr ⟨h2, fun x _ q => hs q.1⟩⟩
  · exact Or.inr ⟨y, x, by omega, y2, y3⟩
theorem GI.s {E0 : St} {v : Nat → Int32} {nh nj j b : Nat} {z13 z14 : Int32} (h : GI v nh nj j b z13 z14) (hz : z14 = -1) (hb : b < nj) (hs : eM v 11 b = 1) (hA : agE E0 (eM v) nh nj) (hW : mF v nh nj) (hj : j < nj) (hj0 : eM v 11 j = 0) : GI v nh nj j (b + 1) (nI b) (m_ff E0 (upd (pB (eM v) (-1)) b (-1)) nh nj j nh) := by
  have h1 := hW.1
  have hno : ∀ y, y < b → ∀ x, x < nh → ¬ ftG v nh nj j y x := by
    rcases h with ⟨-, q⟩ | ⟨y, x, -, y2, -, y3⟩
    · exact q
    · have := y2.2.1
      exact absurd (hz.symm.trans y3) (nI_nm1 (by omega))
  rcases ff_no (E0 := E0) (P := upd (pB (eM v) (-1)) b (-1)) (nh := nh) (nj := nj) (j := j) (n := nh) (by omega) with ⟨a1, a2⟩ | ⟨x, a1, a2, a3, a4⟩
  · exact Or.inl ⟨a1, ball_s.mpr ⟨hno, fun x hx q => a2 x hx ((ftG_iff hA hW hj hj0 hx hs).mpr q)⟩⟩
  · exact Or.inr ⟨b, x, Nat.lt_succ_self b, ⟨hb, a1, (ftG_iff hA hW hj hj0 a1 hs).mp a3, hno, fun y hy q => a4 y hy ((ftG_iff hA hW hj hj0 (by omega) hs).mpr q)⟩, rfl, a2⟩
theorem GI.fin {v : Nat → Int32} {nh nj j b : Nat} {z13 z14 : Int32} (h : GI v nh nj j b z13 z14) (hn : nh ≤ 10) (hb : b ≤ nj) (hc : nj ≤ b ∨ ¬ z14 = -1) : (∃ y x, Fst nj nh (ftG v nh nj j) y x ∧ (if ¬ z14 = -1 then (1 : Int32) else 0) = 1 ∧ z13 = nI y ∧ z14 = nI x) ∨ ((∀ y x, y < nj → x < nh → ¬ ftG v nh nj j y x) ∧ (if ¬ z14 = -1 then (1 : Int32) else 0) = 0 ∧ z14 = -1) := by
  rcases h with ⟨h1, h2⟩ | ⟨y, x, y1, y2, y3, y4⟩
  · exact Or.inr ⟨fun y x hy hx => h2 y (by have := hc.resolve_right (fun q => q h1); omega) x hx, if_neg (fun q => q h1), h1⟩
  · have := y2.2.1
    exact Or.inl ⟨y, x, y2, if_pos (fun q => nI_nm1 (show x < 2 ^ 31 by omega) (y4.symm.trans q).symm), y3, y4⟩
theorem BA.z {v : Nat → Int32} {nh nj j : Nat} {z13 : Int32} : BA v nh nj j 0 0 z13 (-1) 0 := Or.inl ⟨rfl, rfl, fun h y q => by unfold scn at q; omega⟩
theorem BA.nx {v : Nat → Int32} {nh nj j x : Nat} {z13 z14 z15 : Int32} (h : BA v nh nj j x 3 z13 z14 z15) : BA v nh nj j (x + 1) 0 z13 z14 z15 := by
  rcases h with ⟨h1, h2, h3⟩ | ⟨a, b, h1, h2, h3, h4, h5, h6⟩
  · exact Or.inl ⟨h1, h2, fun h y q => h3 h y (scn_3.mpr q)⟩
  · exact Or.inr ⟨a, b, scn_3.mp h1, h2, h3, h4, h5, fun h y q => h6 h y (scn_3.mpr q)⟩
def c4 (z12 z13 z14 z15 : Int32) : Nat → Int32 := fun i => if i = 0 then z12 else if i = 1 then z13 else if i = 2 then z14 else z15
theorem c4_t (z12 z13 z14 z15 : Int32) : ch4 (c4 z12 z13 z14 z15) z12 z13 z14 z15 := ⟨rfl, rfl, rfl, rfl⟩
theorem TL_out {P : Nat → Int32} {k h : Nat} (e : P k = nI h) : TL P (upd P k (-1)) k h (-1) := Or.inr ⟨rfl, e, rfl⟩
theorem TL_in {P : Nat → Int32} {k h : Nat} (e : P k = nI h) : TL (upd P k (-1)) P k h 1 := Or.inl ⟨rfl, ups, by rw [upd_upd9, upd_same e]⟩
theorem sub_sub9 {a b : Int32} : a - (a - b) = b := by grind
theorem pB_n1 {v : Nat → Int32} {j : Nat} (h : eM v 11 j = 0) : pB (eM v) (-1) j = -1 := by
  unfold pB; rw [h]; split
  · rfl
  · exact if_neg (by decide)
theorem pB_s {v : Nat → Int32} {nh nj k : Nat} (hW : mF v nh nj) (hk : k < nj) (h : eM v 11 k = 1) : pB (eM v) (-1) k = nI (hsN v k) := by
  have h2 := hW.2.1
  unfold pB
  rw [if_neg (fun q => nI_nm1 (by omega) q.symm), if_pos h]
  exact (mF.host hW hk h).1
theorem BA.fin2 {v : Nat → Int32} {nh nj j : Nat} {z13 z14 z15 : Int32} (h : BA v nh nj j nh 0 z13 z14 z15) (hn : nh ≤ 10) : (∃ h y, BsA v nj j nh (ftA v nh nj j) h y ∧ (if ¬ z14 = -1 then (1 : Int32) else 0) = 1 ∧ z13 = nI y ∧ z14 = nI h ∧ z15 = lsA v nj j h y) ∨ ((∀ h y, h < nh → y < 3 → ¬ ftA v nh nj j h y) ∧ (if ¬ z14 = -1 then (1 : Int32) else 0) = 0 ∧ z14 = -1 ∧ z15 = 0) := by
  rcases h.fin with ⟨a, b, h1, h2, h3, h4⟩ | ⟨h1, h2, h3⟩
  · have := h1.1
    exact Or.inl ⟨a, b, h1, if_pos (fun q => nI_nm1 (show a < 2 ^ 31 by omega) (h3.symm.trans q).symm), h2, h3, h4⟩
  · exact Or.inr ⟨h1, if_neg (fun q => q h2), h2, h3⟩
set_option maxHeartbeats 4000000 in
set_option maxRecDepth 100000 in
theorem tX0_fitsWithLess (l : Launch) (E : EV) (a : Nat → Nat) (σ : St) (nh : Nat) (nj : Nat) (E0 : St) (P : Nat → Int32) (j : Nat) (h : Nat) (i : Nat) (less : Int32) (hN : cN2 σ nh nj) (hE : aE σ E0) (hS : cS E0 nh nj) (hFS : FSr E0 P nh nj (σ 16) (σ 17) (σ 18) (σ 19) (σ 20) (σ 21)) (hj : j < nj) (hh : h < nh) (hi : i < 3) (hPj : P j = -1) (hbd : bd5 (E0 6 (3 * j + i) - less)) : MI l E (XW E a) yX0_fitsWithLess (Cond.code yX0_fitsWithLess cX0_fitsWithLess 6 (some .boolean)) ({ frames := 3, cells := 0, slots := 0, locals := 73 }) [.ref (a 61), .int (nI j), .int (nI h), .int (nI i), .int (less)] σ (fun r_ u_ => r_ = (if m_why (sr E0 6 (upd (E0 6) (3 * j + i) (E0 6 (3 * j + i) - less))) P nh nj j h = 0 then (1 : Int32) else 0) ∧ u_ = σ) := by
  refine MI.mk (by decide +kernel) (Nat.le_of_ble_eq_true rfl) ?_
  intro p e s m args below meth c ls A Q hret hC hw hl
  have hC : Cxt E p s m args meth c cX0_fitsWithLess 6 (some .boolean) RX0 A := hC
  have hl : lv_has ls 6 [(0, .ref (a 61)), (1, .int (nI j)), (2, .int (nI h)), (3, .int (nI i)), (4, .int (less))] := hl
  have hnh := hS.1
  have hnj := hS.2.1
  refine lv_aload_n hC.1 hC.2.1 dX0_fitsWithLess_0 rfl (lv_at hl 0 rfl) ?_
  refine gf_X0_26 hC hw dX0_fitsWithLess_1 ?_
  refine gf_X0_73 hC hw dX0_fitsWithLess_4 ?_
  refine lv_iload_n hC.1 hC.2.1 dX0_fitsWithLess_7 rfl (lv_at hl 1 rfl) ?_
  refine lv_iconst (v := nI 3) hC.1 hC.2.1 dX0_fitsWithLess_8 (by decide) ?_
  refine q_mulN hC dX0_fitsWithLess_9 ?_
  refine lv_iload_n hC.1 hC.2.1 dX0_fitsWithLess_10 rfl (lv_at hl 3 rfl) ?_
  refine q_addN hC dX0_fitsWithLess_11 ?_
  refine lv_dup2_11 hC.1 hC.2.1 dX0_fitsWithLess_12 rfl rfl ?_
  refine al_X6 (v := E0 6 (3 * j + i)) hC hw (by omega) ((congrFun hE.2.2.2.2.2.1 _).trans (congrArg (E0 6) (by omega))) dX0_fitsWithLess_13 ?_
  refine lv_iload hC.1 hC.2.1 dX0_fitsWithLess_14 (lv_at hl 4 rfl) ?_
  refine lv_isub hC.1 hC.2.1 dX0_fitsWithLess_16 ?_
  refine as_X6 hC hw (by omega) dX0_fitsWithLess_17 (fun H locs hw => ?_)
  have hw : Wst E (XW E a) (sr σ 6 (upd (σ 6) ((j * 3) + i) ((E0 6 (3 * j + i)) - less))) A s.heap H locs := hw
  refine lv_aload_n hC.1 hC.2.1 dX0_fitsWithLess_18 rfl (lv_at hl 0 rfl) ?_
  refine gf_X0_9 hC hw dX0_fitsWithLess_19 ?_
  refine lv_iload_n hC.1 hC.2.1 dX0_fitsWithLess_22 rfl (lv_at hl 1 rfl) ?_
  refine lv_iload_n hC.1 hC.2.1 dX0_fitsWithLess_23 rfl (lv_at hl 2 rfl) ?_
  refine q_callVp (As := [.int (nI j), .int (nI h)]) (rest := []) (q0 := 5) hC hw hl (tX4_fits l E a (sr σ 6 (upd (σ 6) ((j * 3) + i) ((E0 6 (3 * j + i)) - less))) nh nj (sr E0 6 (upd (E0 6) (3 * j + i) (E0 6 (3 * j + i) - less))) P j h hN (by rw [Nat.mul_comm j 3]; exact hE.r6) (hS.r6 hbd) (hFS.r6 hnh hi hPj) hj hh) (q_cwV hC.2.2.2.2.1 ⟨rfl, rfl⟩ wk4_67 wk3_37 wk3_38 wk1_4 wk3_39 hd_X4_fits ⟨Nat.le_of_ble_eq_true rfl, Nat.le_of_ble_eq_true rfl⟩) rfl rfl rfl rfl rfl (Nat.le_of_ble_eq_true rfl) dX0_fitsWithLess_24 (fun H locs hw => ?_)
  refine lv_istore (lv' := [(5, .int (if m_why (sr E0 6 (upd (E0 6) (3 * j + i) (E0 6 (3 * j + i) - less))) P nh nj j h = 0 then (1 : Int32) else 0)), (0, .ref (a 61)), (1, .int (nI j)), (2, .int (nI h)), (3, .int (nI i)), (4, .int (less))]) hC.1 hC.2.1 dX0_fitsWithLess_27 hl (by decide) rfl (fun ls hl => ?_)
  refine lv_aload_n hC.1 hC.2.1 dX0_fitsWithLess_29 rfl (lv_at hl 1 rfl) ?_
  refine gf_X0_26 hC hw dX0_fitsWithLess_30 ?_
  refine gf_X0_73 hC hw dX0_fitsWithLess_33 ?_
  refine lv_iload_n hC.1 hC.2.1 dX0_fitsWithLess_36 rfl (lv_at hl 2 rfl) ?_
  refine lv_iconst (v := nI 3) hC.1 hC.2.1 dX0_fitsWithLess_37 (by decide) ?_
  refine q_mulN hC dX0_fitsWithLess_38 ?_
  refine lv_iload_n hC.1 hC.2.1 dX0_fitsWithLess_39 rfl (lv_at hl 4 rfl) ?_
  refine q_addN hC dX0_fitsWithLess_40 ?_
  refine lv_dup2_11 hC.1 hC.2.1 dX0_fitsWithLess_41 rfl rfl ?_
  refine al_X6 (v := (upd (σ 6) ((j * 3) + i) ((E0 6 (3 * j + i)) - less)) ((j * 3) + i)) hC hw (by omega) rfl dX0_fitsWithLess_42 ?_
  refine lv_iload hC.1 hC.2.1 dX0_fitsWithLess_43 (lv_at hl 5 rfl) ?_
  refine lv_iadd hC.1 hC.2.1 dX0_fitsWithLess_45 ?_
  refine as_X6 hC hw (by omega) dX0_fitsWithLess_46 (fun H locs hw => ?_)
  have hw : Wst E (XW E a) (sr (sr σ 6 (upd (σ 6) ((j * 3) + i) ((E0 6 (3 * j + i)) - less))) 6 (upd (upd (σ 6) ((j * 3) + i) ((E0 6 (3 * j + i)) - less)) ((j * 3) + i) (((upd (σ 6) ((j * 3) + i) ((E0 6 (3 * j + i)) - less)) ((j * 3) + i)) + less))) A s.heap H locs := hw
  have hst_ : sr (sr σ 6 (upd (σ 6) ((j * 3) + i) ((E0 6 (3 * j + i)) - less))) 6 (upd (upd (σ 6) ((j * 3) + i) ((E0 6 (3 * j + i)) - less)) ((j * 3) + i) (((upd (σ 6) ((j * 3) + i) ((E0 6 (3 * j + i)) - less)) ((j * 3) + i)) + less)) = sr σ 6 (upd (upd (σ 6) ((j * 3) + i) ((E0 6 (3 * j + i)) - less)) ((j * 3) + i) (((upd (σ 6) ((j * 3) + i) ((E0 6 (3 * j + i)) - less)) ((j * 3) + i)) + less)) := by
    funext j_ x_
    by_cases e0 : j_ = 0
    · subst e0
      rfl
    · by_cases e6 : j_ = 6
      · subst e6; rfl
      · simp only [sr, e0, e6, if_false]
  rw [hst_] at hw
  have e6 : upd (upd (σ 6) ((j * 3) + i) ((E0 6 (3 * j + i)) - less)) ((j * 3) + i) (((upd (σ 6) ((j * 3) + i) ((E0 6 (3 * j + i)) - less)) ((j * 3) + i)) + less) = σ 6 := by
    rw [upd_upd9, ups]
    refine upd_same ?_
    rw [show σ 6 ((j * 3) + i) = E0 6 (3 * j + i) from (congrFun hE.2.2.2.2.2.1 _).trans (congrArg (E0 6) (by omega))]
    generalize E0 6 (3 * j + i) = x9; grind
  rw [e6, sr_id] at hw
  refine lv_iload hC.1 hC.2.1 dX0_fitsWithLess_47 (lv_at hl 0 rfl) ?_
  refine hret _ _ _ _ _ _ hw ?_ nz_B dX0_fitsWithLess_49
  exact ⟨rfl, rfl⟩
set_option maxHeartbeats 4000000 in
set_option maxRecDepth 100000 in
theorem tX0_byTaint (l : Launch) (E : EV) (a : Nat → Nat) (σ : St) (nh : Nat) (nj : Nat) (E0 : St) (v : Nat → Int32) (j : Nat) (hN : cN2 σ nh nj) (hE : aE σ E0) (hS : cS E0 nh nj) (hFS : FSr E0 (pB (eM v) (-1)) nh nj (σ 16) (σ 17) (σ 18) (σ 19) (σ 20) (σ 21)) (hA : agE E0 (eM v) nh nj) (hW : mF v nh nj) (hj : j < nj) (hj0 : eM v 11 j = 0) (h14 : σ 0 14 = -1) : MI l E (XW E a) yX0_byTaint (Cond.code yX0_byTaint cX0_byTaint 4 (some .boolean)) ({ frames := 4, cells := 0, slots := 0, locals := 95 }) [.ref (a 61), .int (nI j)] σ (fun r_ u_ => ∃ z13 z14 : Int32, ((∃ y x, Fst 8 nh (ftT v nh nj j) y x ∧ r_ = 1 ∧ z13 = nI y ∧ z14 = nI x) ∨ ((∀ y x, y < 8 → x < nh → ¬ ftT v nh nj j y x) ∧ r_ = 0 ∧ z14 = -1)) ∧ u_ = sr σ 0 (upd (upd (upd (σ 0) 12 (nI 1)) 13 z13) 14 z14)) := by
  refine MI.mk (by decide +kernel) (Nat.le_of_ble_eq_true rfl) ?_
  intro p e s m args below meth c ls A Q hret hC hw hl
  have hC : Cxt E p s m args meth c cX0_byTaint 4 (some .boolean) RX0 A := hC
  have hl : lv_has ls 4 [(0, .ref (a 61)), (1, .int (nI j))] := hl
  have hnh := hS.1
  have hnj := hS.2.1
  refine lv_aload_n hC.1 hC.2.1 dX0_byTaint_0 rfl (lv_at hl 0 rfl) ?_
  refine lv_iconst (v := nI 1) hC.1 hC.2.1 dX0_byTaint_1 (by decide) ?_
  refine pf_X0_27 hC hw dX0_byTaint_2 (fun H locs hw => ?_)
  have hw : Wst E (XW E a) (sr σ 0 (upd (σ 0) 12 (nI 1))) A s.heap H locs := hw
  refine lv_aload_n hC.1 hC.2.1 dX0_byTaint_5 rfl (lv_at hl 0 rfl) ?_
  refine gf_X0_26 hC hw dX0_byTaint_6 ?_
  refine gf_X0_50 hC hw dX0_byTaint_9 ?_
  refine lv_iload_n hC.1 hC.2.1 dX0_byTaint_12 rfl (lv_at hl 1 rfl) ?_
  refine al_X9 (v := E0 9 j) hC hw (by omega) (congrFun hE.2.2.2.2.2.2.2.2.1 _) dX0_byTaint_13 ?_
  refine lv_istore_n (lv' := [(2, .int (E0 9 j)), (0, .ref (a 61)), (1, .int (nI j))]) hC.1 hC.2.1 dX0_byTaint_14 rfl hl (by decide) rfl (fun ls hl => ?_)
  refine lv_iconst (v := nI 0) hC.1 hC.2.1 dX0_byTaint_15 (by decide) ?_
  refine lv_istore_n (lv' := [(3, .int (nI 0)), (2, .int (E0 9 j)), (0, .ref (a 61)), (1, .int (nI j))]) hC.1 hC.2.1 dX0_byTaint_16 rfl hl (by decide) rfl (fun ls hl => ?_)
  have L17_0 : ∀ (n : Nat), ∀ (b : Nat), ∀ (d9 : Nat → Int32), ∀ (z13 : Int32), ∀ (z14 : Int32), (b ≤ 8) → (d9 = upd (σ 9) j (d9 j)) → (TI v nh nj j b z13 z14) → (8 - b) < n → ∀ (H : Heap) (locs : List Loc) (ls : Array Slot), Wst E (XW E a) (sr (sr σ 9 (d9)) 0 (upd (upd (upd (σ 0) 12 (nI 1)) 13 (z13)) 14 (z14))) A s.heap H locs → lv_has ls 4 [(0, .ref (a 61)), (1, .int (nI j)), (2, .int (E0 9 j)), (3, .int (nI b))] → W p l e ({ frames := 4, cells := 0, slots := 0, locals := 95 }) s m args below meth c H locs 0 0 Q (F0 m 17 ls []) := by
    intro n
    induction n with
    | zero => intro b d9 z13 z14 hb hd9 hTI hn; exact absurd hn (Nat.not_lt_zero _)
    | succ n ih17 =>
      intro b d9 z13 z14 hb hd9 hTI hn17 H locs ls hw hl
      refine lv_iload_n hC.1 hC.2.1 dX0_byTaint_17 rfl (lv_at hl 3 rfl) ?_
      refine lv_bipush (v := nI 8) hC.1 hC.2.1 dX0_byTaint_18 (by decide) ?_
      refine q_cmpge hC 68 (cNle (by omega) (by omega)) dX0_byTaint_20 (by decide) (fun (c2 : 8 ≤ b) => ?_) (fun (c2 : b < 8) => ?_)
      · refine lv_aload_n hC.1 hC.2.1 dX0_byTaint_68 rfl (lv_at hl 0 rfl) ?_
        refine gf_X0_26 hC hw dX0_byTaint_69 ?_
        refine gf_X0_50 hC hw dX0_byTaint_72 ?_
        refine lv_iload_n hC.1 hC.2.1 dX0_byTaint_75 rfl (lv_at hl 1 rfl) ?_
        refine lv_iload_n hC.1 hC.2.1 dX0_byTaint_76 rfl (lv_at hl 2 rfl) ?_
        refine as_X9 hC hw (by omega) dX0_byTaint_77 (fun H locs hw => ?_)
        have hw : Wst E (XW E a) (sr (sr (sr σ 9 (d9)) 0 (upd (upd (upd (σ 0) 12 (nI 1)) 13 (z13)) 14 (z14))) 9 (upd (d9) j (E0 9 j))) A s.heap H locs := hw
        have hst_ : sr (sr (sr σ 9 (d9)) 0 (upd (upd (upd (σ 0) 12 (nI 1)) 13 (z13)) 14 (z14))) 9 (upd (d9) j (E0 9 j)) = sr (sr σ 9 (upd (d9) j (E0 9 j))) 0 (upd (upd (upd (σ 0) 12 (nI 1)) 13 (z13)) 14 (z14)) := by
          funext j_ x_
          by_cases e0 : j_ = 0
          · subst e0
            by_cases y12 : x_ = 12
            · subst y12; rfl
            · by_cases y13 : x_ = 13
              · subst y13; rfl
              · by_cases y14 : x_ = 14
                · subst y14; rfl
                · simp [sr, upd, y12, y13, y14]
          · by_cases e9 : j_ = 9
            · subst e9; rfl
            · simp only [sr, e0, e9, if_false]
        rw [hst_] at hw
        have e9 : upd (d9) j (E0 9 j) = σ 9 := by rw [hd9, upd_upd9]; exact upd_same (congrFun hE.2.2.2.2.2.2.2.2.1 j)
        rw [e9] at hw
        have hst_ : sr (sr σ 9 (σ 9)) 0 (upd (upd (upd (σ 0) 12 (nI 1)) 13 (z13)) 14 (z14)) = sr σ 0 (upd (upd (upd (σ 0) 12 (nI 1)) 13 (z13)) 14 (z14)) := by
          funext j_ x_
          by_cases e0 : j_ = 0
          · subst e0
            by_cases y12 : x_ = 12
            · subst y12; rfl
            · by_cases y13 : x_ = 13
              · subst y13; rfl
              · by_cases y14 : x_ = 14
                · subst y14; rfl
                · simp [sr, upd, y12, y13, y14]
          · by_cases e9 : j_ = 9
            · subst e9; rfl
            · simp only [sr, e0, e9, if_false]
        rw [hst_] at hw
        refine lv_aload_n hC.1 hC.2.1 dX0_byTaint_78 rfl (lv_at hl 0 rfl) ?_
        refine gf_X0_34 (v := z14) hC hw rfl dX0_byTaint_79 ?_
        refine lv_iconst (v := (-1)) hC.1 hC.2.1 dX0_byTaint_82 (by decide) ?_
        have J91_4 : ∀ (w3 : Int32), w3 = (if ¬ (z14 = (-1)) then (1 : Int32) else 0) → ∀ (H : Heap) (locs : List Loc) (ls : Array Slot), Wst E (XW E a) (sr σ 0 (upd (upd (upd (σ 0) 12 (nI 1)) 13 (z13)) 14 (z14))) A s.heap H locs → lv_has ls 4 [(0, .ref (a 61)), (1, .int (nI j)), (2, .int (E0 9 j)), (3, .int (nI b))] → W p l e ({ frames := 4, cells := 0, slots := 0, locals := 95 }) s m args below meth c H locs 0 0 Q (F0 m 91 ls [.int (w3)]) := by
          intro w3 e4 H locs ls hw hl
          subst e4
          refine hret _ _ _ _ _ _ hw ?_ nz_B dX0_byTaint_91
          exact ⟨z13, z14, hTI.fin hnh hb (Or.inl c2), rfl⟩
        refine q_cmpeq hC 90 cI dX0_byTaint_83 (by decide) (fun (c5 : z14 = (-1)) => ?_) (fun (c5 : ¬ (z14 = (-1))) => ?_)
        · refine lv_iconst (v := nI 0) hC.1 hC.2.1 dX0_byTaint_90 (by decide) ?_
          exact J91_4 _ (if_neg (fun q => q c5)).symm _ _ _ hw (lv_sub hl [0, 1, 2, 3] rfl)
        · refine lv_iconst (v := nI 1) hC.1 hC.2.1 dX0_byTaint_86 (by decide) ?_
          refine lv_goto (tgt := 91) hC.1 hC.2.1 dX0_byTaint_87 (by decide) ?_
          exact J91_4 _ (if_pos c5).symm _ _ _ hw (lv_sub hl [0, 1, 2, 3] rfl)
      · refine lv_aload_n hC.1 hC.2.1 dX0_byTaint_23 rfl (lv_at hl 0 rfl) ?_
        refine gf_X0_34 (v := z14) hC hw rfl dX0_byTaint_24 ?_
        refine lv_iconst (v := (-1)) hC.1 hC.2.1 dX0_byTaint_27 (by decide) ?_
        refine q_cmpne hC 68 cI dX0_byTaint_28 (by decide) (fun (c6 : ¬ (z14 = (-1))) => ?_) (fun (c6 : z14 = (-1)) => ?_)
        · refine lv_aload_n hC.1 hC.2.1 dX0_byTaint_68 rfl (lv_at hl 0 rfl) ?_
          refine gf_X0_26 hC hw dX0_byTaint_69 ?_
          refine gf_X0_50 hC hw dX0_byTaint_72 ?_
          refine lv_iload_n hC.1 hC.2.1 dX0_byTaint_75 rfl (lv_at hl 1 rfl) ?_
          refine lv_iload_n hC.1 hC.2.1 dX0_byTaint_76 rfl (lv_at hl 2 rfl) ?_
          refine as_X9 hC hw (by omega) dX0_byTaint_77 (fun H locs hw => ?_)
          have hw : Wst E (XW E a) (sr (sr (sr σ 9 (d9)) 0 (upd (upd (upd (σ 0) 12 (nI 1)) 13 (z13)) 14 (z14))) 9 (upd (d9) j (E0 9 j))) A s.heap H locs := hw
          have hst_ : sr (sr (sr σ 9 (d9)) 0 (upd (upd (upd (σ 0) 12 (nI 1)) 13 (z13)) 14 (z14))) 9 (upd (d9) j (E0 9 j)) = sr (sr σ 9 (upd (d9) j (E0 9 j))) 0 (upd (upd (upd (σ 0) 12 (nI 1)) 13 (z13)) 14 (z14)) := by
            funext j_ x_
            by_cases e0 : j_ = 0
            · subst e0
              by_cases y12 : x_ = 12
              · subst y12; rfl
              · by_cases y13 : x_ = 13
                · subst y13; rfl
                · by_cases y14 : x_ = 14
                  · subst y14; rfl
                  · simp [sr, upd, y12, y13, y14]
            · by_cases e9 : j_ = 9
              · subst e9; rfl
              · simp only [sr, e0, e9, if_false]
          rw [hst_] at hw
          have e9 : upd (d9) j (E0 9 j) = σ 9 := by rw [hd9, upd_upd9]; exact upd_same (congrFun hE.2.2.2.2.2.2.2.2.1 j)
          rw [e9] at hw
          have hst_ : sr (sr σ 9 (σ 9)) 0 (upd (upd (upd (σ 0) 12 (nI 1)) 13 (z13)) 14 (z14)) = sr σ 0 (upd (upd (upd (σ 0) 12 (nI 1)) 13 (z13)) 14 (z14)) := by
            funext j_ x_
            by_cases e0 : j_ = 0
            · subst e0
              by_cases y12 : x_ = 12
              · subst y12; rfl
              · by_cases y13 : x_ = 13
                · subst y13; rfl
                · by_cases y14 : x_ = 14
                  · subst y14; rfl
                  · simp [sr, upd, y12, y13, y14]
            · by_cases e9 : j_ = 9
              · subst e9; rfl
              · simp only [sr, e0, e9, if_false]
          rw [hst_] at hw
          refine lv_aload_n hC.1 hC.2.1 dX0_byTaint_78 rfl (lv_at hl 0 rfl) ?_
          refine gf_X0_34 (v := z14) hC hw rfl dX0_byTaint_79 ?_
          refine lv_iconst (v := (-1)) hC.1 hC.2.1 dX0_byTaint_82 (by decide) ?_
          have J91_8 : ∀ (w7 : Int32), w7 = (if ¬ (z14 = (-1)) then (1 : Int32) else 0) → ∀ (H : Heap) (locs : List Loc) (ls : Array Slot), Wst E (XW E a) (sr σ 0 (upd (upd (upd (σ 0) 12 (nI 1)) 13 (z13)) 14 (z14))) A s.heap H locs → lv_has ls 4 [(0, .ref (a 61)), (1, .int (nI j)), (2, .int (E0 9 j)), (3, .int (nI b))] → W p l e ({ frames := 4, cells := 0, slots := 0, locals := 95 }) s m args below meth c H locs 0 0 Q (F0 m 91 ls [.int (w7)]) := by
            intro w7 e8 H locs ls hw hl
            subst e8
            refine hret _ _ _ _ _ _ hw ?_ nz_B dX0_byTaint_91
            exact ⟨z13, z14, hTI.fin hnh hb (Or.inr c6), rfl⟩
          refine q_cmpeq hC 90 cI dX0_byTaint_83 (by decide) (fun (c9 : z14 = (-1)) => ?_) (fun (c9 : ¬ (z14 = (-1))) => ?_)
          · refine lv_iconst (v := nI 0) hC.1 hC.2.1 dX0_byTaint_90 (by decide) ?_
            exact J91_8 _ (if_neg (fun q => q c9)).symm _ _ _ hw (lv_sub hl [0, 1, 2, 3] rfl)
          · refine lv_iconst (v := nI 1) hC.1 hC.2.1 dX0_byTaint_86 (by decide) ?_
            refine lv_goto (tgt := 91) hC.1 hC.2.1 dX0_byTaint_87 (by decide) ?_
            exact J91_8 _ (if_pos c9).symm _ _ _ hw (lv_sub hl [0, 1, 2, 3] rfl)
        · refine lv_aload_n hC.1 hC.2.1 dX0_byTaint_31 rfl (lv_at hl 0 rfl) ?_
          refine gf_X0_26 hC hw dX0_byTaint_32 ?_
          refine gf_X0_50 hC hw dX0_byTaint_35 ?_
          refine lv_iload_n hC.1 hC.2.1 dX0_byTaint_38 rfl (lv_at hl 1 rfl) ?_
          refine lv_iload_n hC.1 hC.2.1 dX0_byTaint_39 rfl (lv_at hl 2 rfl) ?_
          refine lv_iconst (v := nI 1) hC.1 hC.2.1 dX0_byTaint_40 (by decide) ?_
          refine lv_iload_n hC.1 hC.2.1 dX0_byTaint_41 rfl (lv_at hl 3 rfl) ?_
          refine lv_ishl hC.1 hC.2.1 dX0_byTaint_42 ?_
          refine lv_ior hC.1 hC.2.1 dX0_byTaint_43 ?_
          refine as_X9 hC hw (by omega) dX0_byTaint_44 (fun H locs hw => ?_)
          have hw : Wst E (XW E a) (sr (sr (sr σ 9 (d9)) 0 (upd (upd (upd (σ 0) 12 (nI 1)) 13 (z13)) 14 (z14))) 9 (upd (d9) j ((E0 9 j) ||| (1 <<< ((nI b) &&& 31))))) A s.heap H locs := hw
          have hst_ : sr (sr (sr σ 9 (d9)) 0 (upd (upd (upd (σ 0) 12 (nI 1)) 13 (z13)) 14 (z14))) 9 (upd (d9) j ((E0 9 j) ||| (1 <<< ((nI b) &&& 31)))) = sr (sr σ 9 (upd (d9) j ((E0 9 j) ||| (1 <<< ((nI b) &&& 31))))) 0 (upd (upd (upd (σ 0) 12 (nI 1)) 13 (z13)) 14 (z14)) := by
            funext j_ x_
            by_cases e0 : j_ = 0
            · subst e0
              by_cases y12 : x_ = 12
              · subst y12; rfl
              · by_cases y13 : x_ = 13
                · subst y13; rfl
                · by_cases y14 : x_ = 14
                  · subst y14; rfl
                  · simp [sr, upd, y12, y13, y14]
            · by_cases e9 : j_ = 9
              · subst e9; rfl
              · simp only [sr, e0, e9, if_false]
          rw [hst_] at hw
          refine lv_aload_n hC.1 hC.2.1 dX0_byTaint_45 rfl (lv_at hl 0 rfl) ?_
          refine lv_iload_n hC.1 hC.2.1 dX0_byTaint_46 rfl (lv_at hl 3 rfl) ?_
          refine pf_X0_31 hC hw dX0_byTaint_47 (fun H locs hw => ?_)
          have hw : Wst E (XW E a) (sr (sr (sr σ 9 (upd (d9) j ((E0 9 j) ||| (1 <<< ((nI b) &&& 31))))) 0 (upd (upd (upd (σ 0) 12 (nI 1)) 13 (z13)) 14 (z14))) 0 (upd (upd (upd (upd (σ 0) 12 (nI 1)) 13 (z13)) 14 (z14)) 13 (nI b))) A s.heap H locs := hw
          have hst_ : sr (sr (sr σ 9 (upd (d9) j ((E0 9 j) ||| (1 <<< ((nI b) &&& 31))))) 0 (upd (upd (upd (σ 0) 12 (nI 1)) 13 (z13)) 14 (z14))) 0 (upd (upd (upd (upd (σ 0) 12 (nI 1)) 13 (z13)) 14 (z14)) 13 (nI b)) = sr (sr σ 9 (upd (d9) j ((E0 9 j) ||| (1 <<< ((nI b) &&& 31))))) 0 (upd (upd (upd (σ 0) 12 (nI 1)) 13 (nI b)) 14 (z14)) := by
            funext j_ x_
            by_cases e0 : j_ = 0
            · subst e0
              by_cases y12 : x_ = 12
              · subst y12; rfl
              · by_cases y13 : x_ = 13
                · subst y13; rfl
                · by_cases y14 : x_ = 14
                  · subst y14; rfl
                  · simp [sr, upd, y12, y13, y14]
            · by_cases e9 : j_ = 9
              · subst e9; rfl
              · simp only [sr, e0, e9, if_false]
          rw [hst_] at hw
          refine lv_aload_n hC.1 hC.2.1 dX0_byTaint_50 rfl (lv_at hl 0 rfl) ?_
          refine lv_aload_n hC.1 hC.2.1 dX0_byTaint_51 rfl (lv_at hl 0 rfl) ?_
          refine gf_X0_9 hC hw dX0_byTaint_52 ?_
          refine lv_iload_n hC.1 hC.2.1 dX0_byTaint_55 rfl (lv_at hl 1 rfl) ?_
          refine q_callVp (As := [.int (nI j)]) (rest := [.ref (a 61)]) (q0 := 5) hC hw hl (tX4_firstFit l E a (sr (sr σ 9 (upd (d9) j ((E0 9 j) ||| (1 <<< ((nI b) &&& 31))))) 0 (upd (upd (upd (σ 0) 12 (nI 1)) 13 (nI b)) 14 (z14))) nh nj (sr E0 9 (upd (E0 9) j (E0 9 j ||| (1 <<< (nI b &&& 31))))) (pB (eM v) (-1)) j hN (show aE (sr σ 9 (upd d9 j (E0 9 j ||| (1 <<< (nI b &&& 31))))) (sr E0 9 (upd (E0 9) j (E0 9 j ||| (1 <<< (nI b &&& 31))))) from hE.r9' (by rw [hd9, upd_upd9])) (show cS (sr E0 9 (upd (E0 9) j (E0 9 j ||| (1 <<< (nI b &&& 31))))) nh nj from hS) (show FSr (sr E0 9 (upd (E0 9) j (E0 9 j ||| (1 <<< (nI b &&& 31))))) _ nh nj _ _ _ _ _ _ from hFS) hj) (q_cwV hC.2.2.2.2.1 ⟨rfl, rfl⟩ wk4_57 wk4_46 wk4_47 wk1_4 wk4_48 hd_X4_firstFit ⟨Nat.le_of_ble_eq_true rfl, Nat.le_of_ble_eq_true rfl⟩) rfl rfl rfl rfl rfl (Nat.le_of_ble_eq_true rfl) dX0_byTaint_56 (fun H locs hw => ?_)
          refine pf_X0_34 hC hw dX0_byTaint_59 (fun H locs hw => ?_)
          have hw : Wst E (XW E a) (sr (sr (sr σ 9 (upd (d9) j ((E0 9 j) ||| (1 <<< ((nI b) &&& 31))))) 0 (upd (upd (upd (σ 0) 12 (nI 1)) 13 (nI b)) 14 (z14))) 0 (upd (upd (upd (upd (σ 0) 12 (nI 1)) 13 (nI b)) 14 (z14)) 14 (m_ff (sr E0 9 (upd (E0 9) j (E0 9 j ||| (1 <<< (nI b &&& 31))))) (pB (eM v) (-1)) nh nj j nh))) A s.heap H locs := hw
          have hst_ : sr (sr (sr σ 9 (upd (d9) j ((E0 9 j) ||| (1 <<< ((nI b) &&& 31))))) 0 (upd (upd (upd (σ 0) 12 (nI 1)) 13 (nI b)) 14 (z14))) 0 (upd (upd (upd (upd (σ 0) 12 (nI 1)) 13 (nI b)) 14 (z14)) 14 (m_ff (sr E0 9 (upd (E0 9) j (E0 9 j ||| (1 <<< (nI b &&& 31))))) (pB (eM v) (-1)) nh nj j nh)) = sr (sr σ 9 (upd (d9) j ((E0 9 j) ||| (1 <<< ((nI b) &&& 31))))) 0 (upd (upd (upd (σ 0) 12 (nI 1)) 13 (nI b)) 14 (m_ff (sr E0 9 (upd (E0 9) j (E0 9 j ||| (1 <<< (nI b &&& 31))))) (pB (eM v) (-1)) nh nj j nh)) := by
            funext j_ x_
            by_cases e0 : j_ = 0
            · subst e0
              by_cases y12 : x_ = 12
              · subst y12; rfl
              · by_cases y13 : x_ = 13
                · subst y13; rfl
                · by_cases y14 : x_ = 14
                  · subst y14; rfl
                  · simp [sr, upd, y12, y13, y14]
            · by_cases e9 : j_ = 9
              · subst e9; rfl
              · simp only [sr, e0, e9, if_false]
          rw [hst_] at hw
          refine lv_iinc (v := nI (b + 1)) (lv' := [(3, .int (nI (b + 1))), (0, .ref (a 61)), (1, .int (nI j)), (2, .int (E0 9 j))]) hC.1 hC.2.1 dX0_byTaint_62 hl (k := 3) rfl (nI_add _ _) (by decide) rfl (fun ls hl => ?_)
          refine lv_goto (tgt := 17) hC.1 hC.2.1 dX0_byTaint_65 (by decide) ?_
          have hTI2 := hTI.s (E0 := E0) c6 (show b < 8 by omega) hA hW hj hj0
          have hd92 : upd d9 j (E0 9 j ||| (1 <<< (nI b &&& 31))) = upd (σ 9) j (E0 9 j ||| (1 <<< (nI b &&& 31))) := by rw [hd9, upd_upd9]
          exact ih17 (b + 1) (upd (d9) j ((E0 9 j) ||| (1 <<< ((nI b) &&& 31)))) (nI b) (m_ff (sr E0 9 (upd (E0 9) j (E0 9 j ||| (1 <<< (nI b &&& 31))))) (pB (eM v) (-1)) nh nj j nh) (by omega) (by rw [ups]; exact hd92) hTI2 (by omega) _ _ _ hw (lv_sub hl [1, 2, 3, 0] rfl)
  have hst_ : sr σ 0 (upd (σ 0) 12 (nI 1)) = sr (sr σ 9 (σ 9)) 0 (upd (upd (upd (σ 0) 12 (nI 1)) 13 (σ 0 13)) 14 (σ 0 14)) := by
    funext j_ x_
    by_cases e0 : j_ = 0
    · subst e0
      by_cases y12 : x_ = 12
      · subst y12; rfl
      · by_cases y13 : x_ = 13
        · subst y13; rfl
        · by_cases y14 : x_ = 14
          · subst y14; rfl
          · simp [sr, upd, y12, y13, y14]
    · by_cases e9 : j_ = 9
      · subst e9; rfl
      · simp only [sr, e0, e9, if_false]
  rw [hst_] at hw
  exact L17_0 _ 0 (σ 9) (σ 0 13) (σ 0 14) (by omega) (upd_same rfl).symm (Or.inl ⟨h14, fun y q => absurd q (Nat.not_lt_zero _)⟩) (Nat.lt_succ_self _) _ _ _ hw (lv_sub hl [2, 3, 1, 0] rfl)
set_option maxHeartbeats 4000000 in
set_option maxRecDepth 100000 in
theorem tX0_byAmount (l : Launch) (E : EV) (a : Nat → Nat) (σ : St) (nh : Nat) (nj : Nat) (E0 : St) (v : Nat → Int32) (j : Nat) (hN : cN2 σ nh nj) (hE : aE σ E0) (hS : cS E0 nh nj) (hFS : FSr E0 (pB (eM v) (-1)) nh nj (σ 16) (σ 17) (σ 18) (σ 19) (σ 20) (σ 21)) (hA : agE E0 (eM v) nh nj) (hW : mF v nh nj) (hT : cT E0 nh nj) (hj : j < nj) (hj0 : eM v 11 j = 0) (h14 : σ 0 14 = -1) (h15 : σ 0 15 = 0) : MI l E (XW E a) yX0_byAmount (Cond.code yX0_byAmount cX0_byAmount 6 (some .boolean)) ({ frames := 4, cells := 0, slots := 0, locals := 98 }) [.ref (a 61), .int (nI j)] σ (fun r_ u_ => ∃ z13 z14 z15 : Int32, ((∃ h y, BsA v nj j nh (ftA v nh nj j) h y ∧ r_ = 1 ∧ z13 = nI y ∧ z14 = nI h ∧ z15 = lsA v nj j h y) ∨ ((∀ h y, h < nh → y < 3 → ¬ ftA v nh nj j h y) ∧ r_ = 0 ∧ z14 = -1 ∧ z15 = 0)) ∧ u_ = sr σ 0 (upd (upd (upd (upd (σ 0) 12 (nI 2)) 13 z13) 14 z14) 15 z15)) := by
  refine MI.mk (by decide +kernel) (Nat.le_of_ble_eq_true rfl) ?_
  intro p e s m args below meth c ls A Q hret hC hw hl
  have hC : Cxt E p s m args meth c cX0_byAmount 6 (some .boolean) RX0 A := hC
  have hl : lv_has ls 6 [(0, .ref (a 61)), (1, .int (nI j))] := hl
  have hnh := hS.1
  have hnj := hS.2.1
  have hPj9 : pB (eM v) (-1) j = -1 := pB_n1 hj0
  refine lv_aload_n hC.1 hC.2.1 dX0_byAmount_0 rfl (lv_at hl 0 rfl) ?_
  refine lv_iconst (v := nI 2) hC.1 hC.2.1 dX0_byAmount_1 (by decide) ?_
  refine pf_X0_27 hC hw dX0_byAmount_2 (fun H locs hw => ?_)
  have hw : Wst E (XW E a) (sr σ 0 (upd (σ 0) 12 (nI 2))) A s.heap H locs := hw
  refine lv_iconst (v := nI 0) hC.1 hC.2.1 dX0_byAmount_5 (by decide) ?_
  refine lv_istore_n (lv' := [(2, .int (nI 0)), (0, .ref (a 61)), (1, .int (nI j))]) hC.1 hC.2.1 dX0_byAmount_6 rfl hl (by decide) rfl (fun ls hl => ?_)
  have L7_0 : ∀ (n : Nat), ∀ (x : Nat), ∀ (z13 : Int32), ∀ (z14 : Int32), ∀ (z15 : Int32), (x ≤ nh) → (BA v nh nj j x 0 z13 z14 z15) → (nh - x) < n → ∀ (H : Heap) (locs : List Loc) (ls : Array Slot), Wst E (XW E a) (sr σ 0 (upd (upd (upd (upd (σ 0) 12 (nI 2)) 13 (z13)) 14 (z14)) 15 (z15))) A s.heap H locs → lv_has ls 6 [(0, .ref (a 61)), (1, .int (nI j)), (2, .int (nI x))] → W p l e ({ frames := 4, cells := 0, slots := 0, locals := 98 }) s m args below meth c H locs 0 0 Q (F0 m 7 ls []) := by
    intro n
    induction n with
    | zero => intro x z13 z14 z15 hx hBA hn; exact absurd hn (Nat.not_lt_zero _)
    | succ n ih7 =>
      intro x z13 z14 z15 hx hBA hn7 H locs ls hw hl
      refine lv_iload_n hC.1 hC.2.1 dX0_byAmount_7 rfl (lv_at hl 2 rfl) ?_
      refine lv_aload_n hC.1 hC.2.1 dX0_byAmount_8 rfl (lv_at hl 0 rfl) ?_
      refine gf_X0_21 hC hw dX0_byAmount_9 ?_
      refine gf_X0_60 (v := nI nh) hC hw hN.1 dX0_byAmount_12 ?_
      refine q_cmpge hC 111 (cNle (by omega) (by omega)) dX0_byAmount_15 (by decide) (fun (c2 : nh ≤ x) => ?_) (fun (c2 : x < nh) => ?_)
      · refine lv_aload_n hC.1 hC.2.1 dX0_byAmount_111 rfl (lv_at hl 0 rfl) ?_
        refine gf_X0_34 (v := z14) hC hw rfl dX0_byAmount_112 ?_
        refine lv_iconst (v := (-1)) hC.1 hC.2.1 dX0_byAmount_115 (by decide) ?_
        have J124_4 : ∀ (w3 : Int32), w3 = (if ¬ (z14 = (-1)) then (1 : Int32) else 0) → ∀ (H : Heap) (locs : List Loc) (ls : Array Slot), Wst E (XW E a) (sr σ 0 (upd (upd (upd (upd (σ 0) 12 (nI 2)) 13 (z13)) 14 (z14)) 15 (z15))) A s.heap H locs → lv_has ls 6 [(0, .ref (a 61)), (1, .int (nI j)), (2, .int (nI x))] → W p l e ({ frames := 4, cells := 0, slots := 0, locals := 98 }) s m args below meth c H locs 0 0 Q (F0 m 124 ls [.int (w3)]) := by
          intro w3 e4 H locs ls hw hl
          subst e4
          refine hret _ _ _ _ _ _ hw ?_ nz_B dX0_byAmount_124
          have hx9 : x = nh := by omega
          rw [hx9] at hBA
          exact ⟨z13, z14, z15, hBA.fin2 hnh, rfl⟩
        refine q_cmpeq hC 123 cI dX0_byAmount_116 (by decide) (fun (c5 : z14 = (-1)) => ?_) (fun (c5 : ¬ (z14 = (-1))) => ?_)
        · refine lv_iconst (v := nI 0) hC.1 hC.2.1 dX0_byAmount_123 (by decide) ?_
          exact J124_4 _ (if_neg (fun q => q c5)).symm _ _ _ hw (lv_sub hl [0, 1, 2] rfl)
        · refine lv_iconst (v := nI 1) hC.1 hC.2.1 dX0_byAmount_119 (by decide) ?_
          refine lv_goto (tgt := 124) hC.1 hC.2.1 dX0_byAmount_120 (by decide) ?_
          exact J124_4 _ (if_pos c5).symm _ _ _ hw (lv_sub hl [0, 1, 2] rfl)
      · refine lv_iconst (v := nI 0) hC.1 hC.2.1 dX0_byAmount_18 (by decide) ?_
        refine lv_istore_n (lv' := [(3, .int (nI 0)), (0, .ref (a 61)), (1, .int (nI j)), (2, .int (nI x))]) hC.1 hC.2.1 dX0_byAmount_19 rfl hl (by decide) rfl (fun ls hl => ?_)
        have L20_5 : ∀ (n : Nat), ∀ (i : Nat), ∀ (z13 : Int32), ∀ (z14 : Int32), ∀ (z15 : Int32), (i ≤ 3) → (BA v nh nj j x i z13 z14 z15) → (3 - i) < n → ∀ (H : Heap) (locs : List Loc) (ls : Array Slot), Wst E (XW E a) (sr σ 0 (upd (upd (upd (upd (σ 0) 12 (nI 2)) 13 (z13)) 14 (z14)) 15 (z15))) A s.heap H locs → lv_has ls 6 [(0, .ref (a 61)), (1, .int (nI j)), (2, .int (nI x)), (3, .int (nI i))] → W p l e ({ frames := 4, cells := 0, slots := 0, locals := 98 }) s m args below meth c H locs 0 0 Q (F0 m 20 ls []) := by
          intro n
          induction n with
          | zero => intro i z13 z14 z15 hi hBA hn; exact absurd hn (Nat.not_lt_zero _)
          | succ n ih20 =>
            intro i z13 z14 z15 hi hBA hn20 H locs ls hw hl
            refine lv_iload_n hC.1 hC.2.1 dX0_byAmount_20 rfl (lv_at hl 3 rfl) ?_
            refine lv_iconst (v := nI 3) hC.1 hC.2.1 dX0_byAmount_21 (by decide) ?_
            refine q_cmpge hC 105 (cNle (by omega) (by omega)) dX0_byAmount_22 (by decide) (fun (c7 : 3 ≤ i) => ?_) (fun (c7 : i < 3) => ?_)
            · refine lv_iinc (v := nI (x + 1)) (lv' := [(2, .int (nI (x + 1))), (0, .ref (a 61)), (1, .int (nI j)), (3, .int (nI i))]) hC.1 hC.2.1 dX0_byAmount_105 hl (k := 2) rfl (nI_add _ _) (by decide) rfl (fun ls hl => ?_)
              refine lv_goto (tgt := 7) hC.1 hC.2.1 dX0_byAmount_108 (by decide) ?_
              have hi3 : i = 3 := by omega
              rw [hi3] at hBA
              exact ih7 (x + 1) z13 z14 z15 (by omega) hBA.nx (by omega) _ _ _ hw (lv_sub hl [1, 2, 0] rfl)
            · refine lv_aload_n hC.1 hC.2.1 dX0_byAmount_25 rfl (lv_at hl 0 rfl) ?_
              refine gf_X0_9 hC hw dX0_byAmount_26 ?_
              refine lv_iload_n hC.1 hC.2.1 dX0_byAmount_29 rfl (lv_at hl 1 rfl) ?_
              refine lv_iload_n hC.1 hC.2.1 dX0_byAmount_30 rfl (lv_at hl 2 rfl) ?_
              refine lv_iload_n hC.1 hC.2.1 dX0_byAmount_31 rfl (lv_at hl 3 rfl) ?_
              refine q_callVp (As := [.int (nI j), .int (nI x), .int (nI i)]) (rest := []) (q0 := 5) hC hw hl (tX4_tooMuch l E a (sr σ 0 (upd (upd (upd (upd (σ 0) 12 (nI 2)) 13 (z13)) 14 (z14)) 15 (z15))) nh nj E0 (pB (eM v) (-1)) j x i hN hE hS hFS hj (show x < nh by omega) (show i < 3 by omega)) (q_cwV hC.2.2.2.2.1 ⟨rfl, rfl⟩ wk4_62 wk2_239 wk3_0 wk1_4 wk3_1 hd_X4_tooMuch ⟨Nat.le_of_ble_eq_true rfl, Nat.le_of_ble_eq_true rfl⟩) rfl rfl rfl rfl rfl (Nat.le_of_ble_eq_true rfl) dX0_byAmount_32 (fun H locs hw => ?_)
              refine lv_istore (lv' := [(4, .int (E0 6 (3 * j + i) - m_left E0 (pB (eM v) (-1)) nj x i)), (0, .ref (a 61)), (1, .int (nI j)), (2, .int (nI x)), (3, .int (nI i))]) hC.1 hC.2.1 dX0_byAmount_35 hl (by decide) rfl (fun ls hl => ?_)
              refine lv_aload_n hC.1 hC.2.1 dX0_byAmount_37 rfl (lv_at hl 1 rfl) ?_
              refine gf_X0_34 (v := z14) hC hw rfl dX0_byAmount_38 ?_
              refine lv_iconst (v := (-1)) hC.1 hC.2.1 dX0_byAmount_41 (by decide) ?_
              have J59_12 : ∀ (w11 : Int32), w11 = (if (z14 = (-1)) ∨ (¬ (z15 ≤ (E0 6 (3 * j + i) - m_left E0 (pB (eM v) (-1)) nj x i))) then (1 : Int32) else 0) → ∀ (H : Heap) (locs : List Loc) (ls : Array Slot), Wst E (XW E a) (sr σ 0 (upd (upd (upd (upd (σ 0) 12 (nI 2)) 13 (z13)) 14 (z14)) 15 (z15))) A s.heap H locs → lv_has ls 6 [(0, .ref (a 61)), (1, .int (nI j)), (2, .int (nI x)), (3, .int (nI i)), (4, .int (E0 6 (3 * j + i) - m_left E0 (pB (eM v) (-1)) nj x i))] → W p l e ({ frames := 4, cells := 0, slots := 0, locals := 98 }) s m args below meth c H locs 0 0 Q (F0 m 59 ls [.int (w11)]) := by
                intro w11 e12 H locs ls hw hl
                subst e12
                refine lv_istore (lv' := [(5, .int (if (z14 = (-1)) ∨ (¬ (z15 ≤ (E0 6 (3 * j + i) - m_left E0 (pB (eM v) (-1)) nj x i))) then (1 : Int32) else 0)), (0, .ref (a 61)), (1, .int (nI j)), (2, .int (nI x)), (3, .int (nI i)), (4, .int (E0 6 (3 * j + i) - m_left E0 (pB (eM v) (-1)) nj x i))]) hC.1 hC.2.1 dX0_byAmount_59 hl (by decide) rfl (fun ls hl => ?_)
                refine lv_iload hC.1 hC.2.1 dX0_byAmount_61 (lv_at hl 5 rfl) ?_
                refine q_ifle hC 99 cI dX0_byAmount_63 (by decide) (fun (c13 : (E0 6 (3 * j + i) - m_left E0 (pB (eM v) (-1)) nj x i) ≤ 0) => ?_) (fun (c13 : ¬ ((E0 6 (3 * j + i) - m_left E0 (pB (eM v) (-1)) nj x i) ≤ 0)) => ?_)
                · refine lv_iinc (v := nI (i + 1)) (lv' := [(3, .int (nI (i + 1))), (5, .int (if (z14 = (-1)) ∨ (¬ (z15 ≤ (E0 6 (3 * j + i) - m_left E0 (pB (eM v) (-1)) nj x i))) then (1 : Int32) else 0)), (0, .ref (a 61)), (1, .int (nI j)), (2, .int (nI x)), (4, .int (E0 6 (3 * j + i) - m_left E0 (pB (eM v) (-1)) nj x i))]) hC.1 hC.2.1 dX0_byAmount_99 hl (k := 4) rfl (nI_add _ _) (by decide) rfl (fun ls hl => ?_)
                  refine lv_goto (tgt := 20) hC.1 hC.2.1 dX0_byAmount_102 (by decide) ?_
                  have hls := ls_eq (h := x) (i := i) hA hW hj hj0 (by omega) (by omega)
                  have hBA2 : BA v nh nj j x (i + 1) z13 z14 z15 := hBA.no (by omega) (fun q => (fun z => (tm_iff hS hj (show x < nh by omega) (show i < 3 by omega)).mpr z c13) ((ftA_iff hA hW hj hj0 (show x < nh by omega) (show i < 3 by omega)).mpr q).1)
                  exact ih20 (i + 1) z13 z14 z15 (by omega) hBA2 (by omega) _ _ _ hw (lv_sub hl [2, 3, 4, 0] rfl)
                · refine lv_iload hC.1 hC.2.1 dX0_byAmount_66 (lv_at hl 0 rfl) ?_
                  refine q_ifeq hC 99 cB dX0_byAmount_68 (by decide) (fun (c14 : ¬ ((z14 = (-1)) ∨ (¬ (z15 ≤ (E0 6 (3 * j + i) - m_left E0 (pB (eM v) (-1)) nj x i))))) => ?_) (fun (c14 : (z14 = (-1)) ∨ (¬ (z15 ≤ (E0 6 (3 * j + i) - m_left E0 (pB (eM v) (-1)) nj x i)))) => ?_)
                  · refine lv_iinc (v := nI (i + 1)) (lv' := [(3, .int (nI (i + 1))), (5, .int (if (z14 = (-1)) ∨ (¬ (z15 ≤ (E0 6 (3 * j + i) - m_left E0 (pB (eM v) (-1)) nj x i))) then (1 : Int32) else 0)), (0, .ref (a 61)), (1, .int (nI j)), (2, .int (nI x)), (4, .int (E0 6 (3 * j + i) - m_left E0 (pB (eM v) (-1)) nj x i))]) hC.1 hC.2.1 dX0_byAmount_99 hl (k := 4) rfl (nI_add _ _) (by decide) rfl (fun ls hl => ?_)
                    refine lv_goto (tgt := 20) hC.1 hC.2.1 dX0_byAmount_102 (by decide) ?_
                    have hls := ls_eq (h := x) (i := i) hA hW hj hj0 (by omega) (by omega)
                    have hBA2 : BA v nh nj j x (i + 1) z13 z14 z15 := hBA.keep (by omega) (fun q => c14 (Or.inl q)) (by rw [← hls.2]; exact Classical.byContradiction (fun q => c14 (Or.inr q)))
                    exact ih20 (i + 1) z13 z14 z15 (by omega) hBA2 (by omega) _ _ _ hw (lv_sub hl [2, 3, 4, 0] rfl)
                  · refine lv_aload_n hC.1 hC.2.1 dX0_byAmount_71 rfl (lv_at hl 1 rfl) ?_
                    refine lv_iload_n hC.1 hC.2.1 dX0_byAmount_72 rfl (lv_at hl 2 rfl) ?_
                    refine lv_iload_n hC.1 hC.2.1 dX0_byAmount_73 rfl (lv_at hl 3 rfl) ?_
                    refine lv_iload_n hC.1 hC.2.1 dX0_byAmount_74 rfl (lv_at hl 4 rfl) ?_
                    refine lv_iload hC.1 hC.2.1 dX0_byAmount_75 (lv_at hl 5 rfl) ?_
                    refine q_callVp (As := [.int (nI j), .int (nI x), .int (nI i), .int (E0 6 (3 * j + i) - m_left E0 (pB (eM v) (-1)) nj x i)]) (rest := []) (q0 := 1) hC hw hl (tX0_fitsWithLess l E a (sr σ 0 (upd (upd (upd (upd (σ 0) 12 (nI 2)) 13 (z13)) 14 (z14)) 15 (z15))) nh nj E0 (pB (eM v) (-1)) j x i (E0 6 (3 * j + i) - m_left E0 (pB (eM v) (-1)) nj x i) hN hE hS hFS hj (show x < nh by omega) (show i < 3 by omega) hPj9 (by rw [sub_sub9]; exact hT.left hnj (by omega) (by omega))) (q_cwV hC.2.2.2.2.1 ⟨rfl, rfl⟩ wk4_63 wk4_65 wks_2_4 wk1_11 wk4_66 hd_X0_fitsWithLess ⟨Nat.le_of_ble_eq_true rfl, Nat.le_of_ble_eq_true rfl⟩) rfl rfl rfl rfl rfl (Nat.le_of_ble_eq_true rfl) dX0_byAmount_77 (fun H locs hw => ?_)
                    refine q_ifeq hC 99 cB dX0_byAmount_80 (by decide) (fun (c18 : ¬ (m_why (sr E0 6 (upd (E0 6) (3 * j + i) (E0 6 (3 * j + i) - (E0 6 (3 * j + i) - m_left E0 (pB (eM v) (-1)) nj x i)))) (pB (eM v) (-1)) nh nj j x = 0)) => ?_) (fun (c18 : m_why (sr E0 6 (upd (E0 6) (3 * j + i) (E0 6 (3 * j + i) - (E0 6 (3 * j + i) - m_left E0 (pB (eM v) (-1)) nj x i)))) (pB (eM v) (-1)) nh nj j x = 0) => ?_)
                    · refine lv_iinc (v := nI (i + 1)) (lv' := [(3, .int (nI (i + 1))), (5, .int (if (z14 = (-1)) ∨ (¬ (z15 ≤ (E0 6 (3 * j + i) - m_left E0 (pB (eM v) (-1)) nj x i))) then (1 : Int32) else 0)), (0, .ref (a 61)), (1, .int (nI j)), (2, .int (nI x)), (4, .int (E0 6 (3 * j + i) - m_left E0 (pB (eM v) (-1)) nj x i))]) hC.1 hC.2.1 dX0_byAmount_99 hl (k := 4) rfl (nI_add _ _) (by decide) rfl (fun ls hl => ?_)
                      refine lv_goto (tgt := 20) hC.1 hC.2.1 dX0_byAmount_102 (by decide) ?_
                      have hls := ls_eq (h := x) (i := i) hA hW hj hj0 (by omega) (by omega)
                      have hBA2 : BA v nh nj j x (i + 1) z13 z14 z15 := hBA.no (by omega) (fun q => c18 (by rw [show E0 6 (3 * j + i) - (E0 6 (3 * j + i) - m_left E0 (pB (eM v) (-1)) nj x i) = m_left E0 (pB (eM v) (-1)) nj x i from sub_sub9]; exact ((ftA_iff hA hW hj hj0 (show x < nh by omega) (show i < 3 by omega)).mpr q).2))
                      exact ih20 (i + 1) z13 z14 z15 (by omega) hBA2 (by omega) _ _ _ hw (lv_sub hl [2, 3, 4, 0] rfl)
                    · refine lv_aload_n hC.1 hC.2.1 dX0_byAmount_83 rfl (lv_at hl 1 rfl) ?_
                      refine lv_iload_n hC.1 hC.2.1 dX0_byAmount_84 rfl (lv_at hl 4 rfl) ?_
                      refine pf_X0_31 hC hw dX0_byAmount_85 (fun H locs hw => ?_)
                      have hw : Wst E (XW E a) (sr (sr σ 0 (upd (upd (upd (upd (σ 0) 12 (nI 2)) 13 (z13)) 14 (z14)) 15 (z15))) 0 (upd (upd (upd (upd (upd (σ 0) 12 (nI 2)) 13 (z13)) 14 (z14)) 15 (z15)) 13 (nI i))) A s.heap H locs := hw
                      have hst_ : sr (sr σ 0 (upd (upd (upd (upd (σ 0) 12 (nI 2)) 13 (z13)) 14 (z14)) 15 (z15))) 0 (upd (upd (upd (upd (upd (σ 0) 12 (nI 2)) 13 (z13)) 14 (z14)) 15 (z15)) 13 (nI i)) = sr σ 0 (upd (upd (upd (upd (σ 0) 12 (nI 2)) 13 (nI i)) 14 (z14)) 15 (z15)) := by
                        funext j_ x_
                        by_cases e0 : j_ = 0
                        · subst e0
                          by_cases y12 : x_ = 12
                          · subst y12; rfl
                          · by_cases y13 : x_ = 13
                            · subst y13; rfl
                            · by_cases y14 : x_ = 14
                              · subst y14; rfl
                              · by_cases y15 : x_ = 15
                                · subst y15; rfl
                                · simp [sr, upd, y12, y13, y14, y15]
                        · simp only [sr, e0, if_false]
                      rw [hst_] at hw
                      refine lv_aload_n hC.1 hC.2.1 dX0_byAmount_88 rfl (lv_at hl 1 rfl) ?_
                      refine lv_iload_n hC.1 hC.2.1 dX0_byAmount_89 rfl (lv_at hl 3 rfl) ?_
                      refine pf_X0_34 hC hw dX0_byAmount_90 (fun H locs hw => ?_)
                      have hw : Wst E (XW E a) (sr (sr σ 0 (upd (upd (upd (upd (σ 0) 12 (nI 2)) 13 (nI i)) 14 (z14)) 15 (z15))) 0 (upd (upd (upd (upd (upd (σ 0) 12 (nI 2)) 13 (nI i)) 14 (z14)) 15 (z15)) 14 (nI x))) A s.heap H locs := hw
                      have hst_ : sr (sr σ 0 (upd (upd (upd (upd (σ 0) 12 (nI 2)) 13 (nI i)) 14 (z14)) 15 (z15))) 0 (upd (upd (upd (upd (upd (σ 0) 12 (nI 2)) 13 (nI i)) 14 (z14)) 15 (z15)) 14 (nI x)) = sr σ 0 (upd (upd (upd (upd (σ 0) 12 (nI 2)) 13 (nI i)) 14 (nI x)) 15 (z15)) := by
                        funext j_ x_
                        by_cases e0 : j_ = 0
                        · subst e0
                          by_cases y12 : x_ = 12
                          · subst y12; rfl
                          · by_cases y13 : x_ = 13
                            · subst y13; rfl
                            · by_cases y14 : x_ = 14
                              · subst y14; rfl
                              · by_cases y15 : x_ = 15
                                · subst y15; rfl
                                · simp [sr, upd, y12, y13, y14, y15]
                        · simp only [sr, e0, if_false]
                      rw [hst_] at hw
                      refine lv_aload_n hC.1 hC.2.1 dX0_byAmount_93 rfl (lv_at hl 1 rfl) ?_
                      refine lv_iload hC.1 hC.2.1 dX0_byAmount_94 (lv_at hl 5 rfl) ?_
                      refine pf_X0_37 hC hw dX0_byAmount_96 (fun H locs hw => ?_)
                      have hw : Wst E (XW E a) (sr (sr σ 0 (upd (upd (upd (upd (σ 0) 12 (nI 2)) 13 (nI i)) 14 (nI x)) 15 (z15))) 0 (upd (upd (upd (upd (upd (σ 0) 12 (nI 2)) 13 (nI i)) 14 (nI x)) 15 (z15)) 15 (E0 6 (3 * j + i) - m_left E0 (pB (eM v) (-1)) nj x i))) A s.heap H locs := hw
                      have hst_ : sr (sr σ 0 (upd (upd (upd (upd (σ 0) 12 (nI 2)) 13 (nI i)) 14 (nI x)) 15 (z15))) 0 (upd (upd (upd (upd (upd (σ 0) 12 (nI 2)) 13 (nI i)) 14 (nI x)) 15 (z15)) 15 (E0 6 (3 * j + i) - m_left E0 (pB (eM v) (-1)) nj x i)) = sr σ 0 (upd (upd (upd (upd (σ 0) 12 (nI 2)) 13 (nI i)) 14 (nI x)) 15 (E0 6 (3 * j + i) - m_left E0 (pB (eM v) (-1)) nj x i)) := by
                        funext j_ x_
                        by_cases e0 : j_ = 0
                        · subst e0
                          by_cases y12 : x_ = 12
                          · subst y12; rfl
                          · by_cases y13 : x_ = 13
                            · subst y13; rfl
                            · by_cases y14 : x_ = 14
                              · subst y14; rfl
                              · by_cases y15 : x_ = 15
                                · subst y15; rfl
                                · simp [sr, upd, y12, y13, y14, y15]
                        · simp only [sr, e0, if_false]
                      rw [hst_] at hw
                      refine lv_iinc (v := nI (i + 1)) (lv' := [(3, .int (nI (i + 1))), (5, .int (if (z14 = (-1)) ∨ (¬ (z15 ≤ (E0 6 (3 * j + i) - m_left E0 (pB (eM v) (-1)) nj x i))) then (1 : Int32) else 0)), (0, .ref (a 61)), (1, .int (nI j)), (2, .int (nI x)), (4, .int (E0 6 (3 * j + i) - m_left E0 (pB (eM v) (-1)) nj x i))]) hC.1 hC.2.1 dX0_byAmount_99 hl (k := 4) rfl (nI_add _ _) (by decide) rfl (fun ls hl => ?_)
                      refine lv_goto (tgt := 20) hC.1 hC.2.1 dX0_byAmount_102 (by decide) ?_
                      have hls := ls_eq (h := x) (i := i) hA hW hj hj0 (by omega) (by omega)
                      have hft : ftA v nh nj j x i := (ftA_iff hA hW hj hj0 (show x < nh by omega) (show i < 3 by omega)).mp ⟨(tm_iff hS hj (show x < nh by omega) (show i < 3 by omega)).mp c13, by have h9 := c18; rw [show E0 6 (3 * j + i) - (E0 6 (3 * j + i) - m_left E0 (pB (eM v) (-1)) nj x i) = m_left E0 (pB (eM v) (-1)) nj x i from sub_sub9] at h9; exact h9⟩
                      have hBA2 : BA v nh nj j x (i + 1) (nI i) (nI x) (E0 6 (3 * j + i) - m_left E0 (pB (eM v) (-1)) nj x i) := by rw [hls.2]; exact hBA.new (by omega) (by omega) hft (by rw [← hls.2, ← Int32.not_le]; exact c14)
                      exact ih20 (i + 1) (nI i) (nI x) (E0 6 (3 * j + i) - m_left E0 (pB (eM v) (-1)) nj x i) (by omega) hBA2 (by omega) _ _ _ hw (lv_sub hl [2, 3, 4, 0] rfl)
              refine q_cmpeq hC 54 cI dX0_byAmount_42 (by decide) (fun (c19 : z14 = (-1)) => ?_) (fun (c19 : ¬ (z14 = (-1))) => ?_)
              · refine lv_iconst (v := nI 1) hC.1 hC.2.1 dX0_byAmount_54 (by decide) ?_
                refine lv_goto (tgt := 59) hC.1 hC.2.1 dX0_byAmount_55 (by decide) ?_
                exact J59_12 _ (if_pos (Or.inl c19)).symm _ _ _ hw (lv_sub hl [1, 2, 3, 4, 0] rfl)
              · refine lv_iload hC.1 hC.2.1 dX0_byAmount_45 (lv_at hl 0 rfl) ?_
                refine lv_aload_n hC.1 hC.2.1 dX0_byAmount_47 rfl (lv_at hl 1 rfl) ?_
                refine gf_X0_37 (v := z15) hC hw rfl dX0_byAmount_48 ?_
                refine q_cmpge hC 58 cI dX0_byAmount_51 (by decide) (fun (c20 : z15 ≤ (E0 6 (3 * j + i) - m_left E0 (pB (eM v) (-1)) nj x i)) => ?_) (fun (c20 : ¬ (z15 ≤ (E0 6 (3 * j + i) - m_left E0 (pB (eM v) (-1)) nj x i))) => ?_)
                · refine lv_iconst (v := nI 0) hC.1 hC.2.1 dX0_byAmount_58 (by decide) ?_
                  exact J59_12 _ (if_neg (fun q => q.elim c19 (fun q => q c20))).symm _ _ _ hw (lv_sub hl [1, 2, 3, 4, 0] rfl)
                · refine lv_iconst (v := nI 1) hC.1 hC.2.1 dX0_byAmount_54 (by decide) ?_
                  refine lv_goto (tgt := 59) hC.1 hC.2.1 dX0_byAmount_55 (by decide) ?_
                  exact J59_12 _ (if_pos (Or.inr c20)).symm _ _ _ hw (lv_sub hl [1, 2, 3, 4, 0] rfl)
        exact L20_5 _ 0 z13 z14 z15 (Nat.zero_le _) hBA (Nat.lt_succ_self _) _ _ _ hw (lv_sub hl [1, 2, 3, 0] rfl)
  have hst_ : sr σ 0 (upd (σ 0) 12 (nI 2)) = sr σ 0 (upd (upd (upd (upd (σ 0) 12 (nI 2)) 13 (σ 0 13)) 14 (σ 0 14)) 15 (σ 0 15)) := by
    funext j_ x_
    by_cases e0 : j_ = 0
    · subst e0
      by_cases y12 : x_ = 12
      · subst y12; rfl
      · by_cases y13 : x_ = 13
        · subst y13; rfl
        · by_cases y14 : x_ = 14
          · subst y14; rfl
          · by_cases y15 : x_ = 15
            · subst y15; rfl
            · simp [sr, upd, y12, y13, y14, y15]
    · simp only [sr, e0, if_false]
  rw [hst_] at hw
  exact L7_0 _ 0 (σ 0 13) (σ 0 14) (σ 0 15) (Nat.zero_le _) (by rw [h14, h15]; exact BA.z) (Nat.lt_succ_self _) _ _ _ hw (lv_sub hl [1, 2, 0] rfl)
set_option maxHeartbeats 4000000 in
set_option maxRecDepth 100000 in
theorem tX0_byGoing (l : Launch) (E : EV) (a : Nat → Nat) (σ : St) (nh : Nat) (nj : Nat) (E0 : St) (v : Nat → Int32) (j : Nat) (hN : cN2 σ nh nj) (hE : aE σ E0) (hS : cS E0 nh nj) (hFS : FSr E0 (pB (eM v) (-1)) nh nj (σ 16) (σ 17) (σ 18) (σ 19) (σ 20) (σ 21)) (hX : JX σ v nj) (hA : agE E0 (eM v) nh nj) (hW : mF v nh nj) (hj : j < nj) (hj0 : eM v 11 j = 0) (h14 : σ 0 14 = -1) : MI l E (XW E a) yX0_byGoing (Cond.code yX0_byGoing cX0_byGoing 3 (some .boolean)) ({ frames := 4, cells := 0, slots := 0, locals := 95 }) [.ref (a 61), .int (nI j)] σ (fun r_ u_ => ∃ (b16 b17 b18 b19 b20 b21 : Nat → Int32) (z13 z14 : Int32), FSr E0 (pB (eM v) (-1)) nh nj b16 b17 b18 b19 b20 b21 ∧ ((∃ y x, Fst nj nh (ftG v nh nj j) y x ∧ r_ = 1 ∧ z13 = nI y ∧ z14 = nI x) ∨ ((∀ y x, y < nj → x < nh → ¬ ftG v nh nj j y x) ∧ r_ = 0 ∧ z14 = -1)) ∧ u_ = sr (sr (sr (sr (sr (sr (sr σ 16 b16) 17 b17) 18 b18) 19 b19) 20 b20) 21 b21) 0 (upd (upd (upd (σ 0) 12 (nI 3)) 13 z13) 14 z14)) := by
  refine MI.mk (by decide +kernel) (Nat.le_of_ble_eq_true rfl) ?_
  intro p e s m args below meth c ls A Q hret hC hw hl
  have hC : Cxt E p s m args meth c cX0_byGoing 3 (some .boolean) RX0 A := hC
  have hl : lv_has ls 3 [(0, .ref (a 61)), (1, .int (nI j))] := hl
  have hnh := hS.1
  have hnj := hS.2.1
  refine lv_aload_n hC.1 hC.2.1 dX0_byGoing_0 rfl (lv_at hl 0 rfl) ?_
  refine lv_iconst (v := nI 3) hC.1 hC.2.1 dX0_byGoing_1 (by decide) ?_
  refine pf_X0_27 hC hw dX0_byGoing_2 (fun H locs hw => ?_)
  have hw : Wst E (XW E a) (sr σ 0 (upd (σ 0) 12 (nI 3))) A s.heap H locs := hw
  refine lv_iconst (v := nI 0) hC.1 hC.2.1 dX0_byGoing_5 (by decide) ?_
  refine lv_istore_n (lv' := [(2, .int (nI 0)), (0, .ref (a 61)), (1, .int (nI j))]) hC.1 hC.2.1 dX0_byGoing_6 rfl hl (by decide) rfl (fun ls hl => ?_)
  have L7_0 : ∀ (n : Nat), ∀ (k : Nat), ∀ (d16 : Nat → Int32), ∀ (d17 : Nat → Int32), ∀ (d18 : Nat → Int32), ∀ (d19 : Nat → Int32), ∀ (d20 : Nat → Int32), ∀ (d21 : Nat → Int32), ∀ (z13 : Int32), ∀ (z14 : Int32), (k ≤ nj) → (FSr E0 (pB (eM v) (-1)) nh nj d16 d17 d18 d19 d20 d21) → (GI v nh nj j k z13 z14) → (nj - k) < n → ∀ (H : Heap) (locs : List Loc) (ls : Array Slot), Wst E (XW E a) (sr (sr (sr (sr (sr (sr (sr σ 16 (d16)) 17 (d17)) 18 (d18)) 19 (d19)) 20 (d20)) 21 (d21)) 0 (upd (upd (upd (σ 0) 12 (nI 3)) 13 (z13)) 14 (z14))) A s.heap H locs → lv_has ls 3 [(0, .ref (a 61)), (1, .int (nI j)), (2, .int (nI k))] → W p l e ({ frames := 4, cells := 0, slots := 0, locals := 95 }) s m args below meth c H locs 0 0 Q (F0 m 7 ls []) := by
    intro n
    induction n with
    | zero => intro k d16 d17 d18 d19 d20 d21 z13 z14 hk hF0 hGI hn; exact absurd hn (Nat.not_lt_zero _)
    | succ n ih7 =>
      intro k d16 d17 d18 d19 d20 d21 z13 z14 hk hF0 hGI hn7 H locs ls hw hl
      refine lv_iload_n hC.1 hC.2.1 dX0_byGoing_7 rfl (lv_at hl 2 rfl) ?_
      refine lv_aload_n hC.1 hC.2.1 dX0_byGoing_8 rfl (lv_at hl 0 rfl) ?_
      refine gf_X0_26 hC hw dX0_byGoing_9 ?_
      refine gf_X0_80 (v := nI nj) hC hw hN.2 dX0_byGoing_12 ?_
      refine q_cmpge hC 98 (cNle (by omega) (by omega)) dX0_byGoing_15 (by decide) (fun (c2 : nj ≤ k) => ?_) (fun (c2 : k < nj) => ?_)
      · refine lv_aload_n hC.1 hC.2.1 dX0_byGoing_98 rfl (lv_at hl 0 rfl) ?_
        refine gf_X0_34 (v := z14) hC hw rfl dX0_byGoing_99 ?_
        refine lv_iconst (v := (-1)) hC.1 hC.2.1 dX0_byGoing_102 (by decide) ?_
        have J111_4 : ∀ (w3 : Int32), w3 = (if ¬ (z14 = (-1)) then (1 : Int32) else 0) → ∀ (H : Heap) (locs : List Loc) (ls : Array Slot), Wst E (XW E a) (sr (sr (sr (sr (sr (sr (sr σ 16 (d16)) 17 (d17)) 18 (d18)) 19 (d19)) 20 (d20)) 21 (d21)) 0 (upd (upd (upd (σ 0) 12 (nI 3)) 13 (z13)) 14 (z14))) A s.heap H locs → lv_has ls 3 [(0, .ref (a 61)), (1, .int (nI j)), (2, .int (nI k))] → W p l e ({ frames := 4, cells := 0, slots := 0, locals := 95 }) s m args below meth c H locs 0 0 Q (F0 m 111 ls [.int (w3)]) := by
          intro w3 e4 H locs ls hw hl
          subst e4
          refine hret _ _ _ _ _ _ hw ?_ nz_B dX0_byGoing_111
          exact ⟨d16, d17, d18, d19, d20, d21, z13, z14, hF0, hGI.fin hnh hk (Or.inl c2), rfl⟩
        refine q_cmpeq hC 110 cI dX0_byGoing_103 (by decide) (fun (c5 : z14 = (-1)) => ?_) (fun (c5 : ¬ (z14 = (-1))) => ?_)
        · refine lv_iconst (v := nI 0) hC.1 hC.2.1 dX0_byGoing_110 (by decide) ?_
          exact J111_4 _ (if_neg (fun q => q c5)).symm _ _ _ hw (lv_sub hl [0, 1, 2] rfl)
        · refine lv_iconst (v := nI 1) hC.1 hC.2.1 dX0_byGoing_106 (by decide) ?_
          refine lv_goto (tgt := 111) hC.1 hC.2.1 dX0_byGoing_107 (by decide) ?_
          exact J111_4 _ (if_pos c5).symm _ _ _ hw (lv_sub hl [0, 1, 2] rfl)
      · refine lv_aload_n hC.1 hC.2.1 dX0_byGoing_18 rfl (lv_at hl 0 rfl) ?_
        refine gf_X0_34 (v := z14) hC hw rfl dX0_byGoing_19 ?_
        refine lv_iconst (v := (-1)) hC.1 hC.2.1 dX0_byGoing_22 (by decide) ?_
        refine q_cmpne hC 98 cI dX0_byGoing_23 (by decide) (fun (c6 : ¬ (z14 = (-1))) => ?_) (fun (c6 : z14 = (-1)) => ?_)
        · refine lv_aload_n hC.1 hC.2.1 dX0_byGoing_98 rfl (lv_at hl 0 rfl) ?_
          refine gf_X0_34 (v := z14) hC hw rfl dX0_byGoing_99 ?_
          refine lv_iconst (v := (-1)) hC.1 hC.2.1 dX0_byGoing_102 (by decide) ?_
          have J111_8 : ∀ (w7 : Int32), w7 = (if ¬ (z14 = (-1)) then (1 : Int32) else 0) → ∀ (H : Heap) (locs : List Loc) (ls : Array Slot), Wst E (XW E a) (sr (sr (sr (sr (sr (sr (sr σ 16 (d16)) 17 (d17)) 18 (d18)) 19 (d19)) 20 (d20)) 21 (d21)) 0 (upd (upd (upd (σ 0) 12 (nI 3)) 13 (z13)) 14 (z14))) A s.heap H locs → lv_has ls 3 [(0, .ref (a 61)), (1, .int (nI j)), (2, .int (nI k))] → W p l e ({ frames := 4, cells := 0, slots := 0, locals := 95 }) s m args below meth c H locs 0 0 Q (F0 m 111 ls [.int (w7)]) := by
            intro w7 e8 H locs ls hw hl
            subst e8
            refine hret _ _ _ _ _ _ hw ?_ nz_B dX0_byGoing_111
            exact ⟨d16, d17, d18, d19, d20, d21, z13, z14, hF0, hGI.fin hnh hk (Or.inr c6), rfl⟩
          refine q_cmpeq hC 110 cI dX0_byGoing_103 (by decide) (fun (c9 : z14 = (-1)) => ?_) (fun (c9 : ¬ (z14 = (-1))) => ?_)
          · refine lv_iconst (v := nI 0) hC.1 hC.2.1 dX0_byGoing_110 (by decide) ?_
            exact J111_8 _ (if_neg (fun q => q c9)).symm _ _ _ hw (lv_sub hl [0, 1, 2] rfl)
          · refine lv_iconst (v := nI 1) hC.1 hC.2.1 dX0_byGoing_106 (by decide) ?_
            refine lv_goto (tgt := 111) hC.1 hC.2.1 dX0_byGoing_107 (by decide) ?_
            exact J111_8 _ (if_pos c9).symm _ _ _ hw (lv_sub hl [0, 1, 2] rfl)
        · refine lv_aload_n hC.1 hC.2.1 dX0_byGoing_26 rfl (lv_at hl 0 rfl) ?_
          refine gf_X0_26 hC hw dX0_byGoing_27 ?_
          refine gf_X0_81 hC hw dX0_byGoing_30 ?_
          refine lv_iload_n hC.1 hC.2.1 dX0_byGoing_33 rfl (lv_at hl 2 rfl) ?_
          refine al_X11 (v := σ 11 k) hC hw (by omega) rfl dX0_byGoing_34 ?_
          refine lv_iconst (v := nI 1) hC.1 hC.2.1 dX0_byGoing_35 (by decide) ?_
          refine q_cmpne hC 92 cI dX0_byGoing_36 (by decide) (fun (c10 : ¬ (σ 11 k = 1)) => ?_) (fun (c10 : σ 11 k = 1) => ?_)
          · refine lv_iinc (v := nI (k + 1)) (lv' := [(2, .int (nI (k + 1))), (0, .ref (a 61)), (1, .int (nI j))]) hC.1 hC.2.1 dX0_byGoing_92 hl (k := 2) rfl (nI_add _ _) (by decide) rfl (fun ls hl => ?_)
            refine lv_goto (tgt := 7) hC.1 hC.2.1 dX0_byGoing_95 (by decide) ?_
            have hGI2 : GI v nh nj j (k + 1) z13 z14 := hGI.no (fun q => c10 ((hX k (by omega)).2.2.1.trans q))
            exact ih7 (k + 1) d16 d17 d18 d19 d20 d21 z13 z14 (by omega) hF0 hGI2 (by omega) _ _ _ hw (lv_sub hl [1, 2, 0] rfl)
          · have hs9 : eM v 11 k = 1 := (hX k (by omega)).2.2.1.symm.trans c10
            have hh9 := mF.host hW (show k < nj by omega) hs9
            have hP9 : (pB (eM v) (-1)) k = nI (hsN v k) := pB_s hW (by omega) hs9
            refine lv_aload_n hC.1 hC.2.1 dX0_byGoing_39 rfl (lv_at hl 0 rfl) ?_
            refine gf_X0_9 hC hw dX0_byGoing_40 ?_
            refine lv_iload_n hC.1 hC.2.1 dX0_byGoing_43 rfl (lv_at hl 2 rfl) ?_
            refine lv_aload_n hC.1 hC.2.1 dX0_byGoing_44 rfl (lv_at hl 0 rfl) ?_
            refine gf_X0_26 hC hw dX0_byGoing_45 ?_
            refine gf_X0_84 hC hw dX0_byGoing_48 ?_
            refine lv_iload_n hC.1 hC.2.1 dX0_byGoing_51 rfl (lv_at hl 2 rfl) ?_
            have hhl : hsN v k < nh := hh9.2
            refine al_X12 (v := nI (hsN v k)) hC hw (by omega) (((hX k (by omega)).2.2.2 hs9).1.trans hh9.1) dX0_byGoing_52 ?_
            refine lv_iconst (v := (-1)) hC.1 hC.2.1 dX0_byGoing_53 (by decide) ?_
            refine q_callVv (As := [.int (nI k), .int (nI (hsN v k)), .int ((-1))]) (rest := []) (q0 := 5) hC hw hl (tX4_tally l E a (sr (sr (sr (sr (sr (sr (sr σ 16 (d16)) 17 (d17)) 18 (d18)) 19 (d19)) 20 (d20)) 21 (d21)) 0 (upd (upd (upd (σ 0) 12 (nI 3)) 13 (z13)) 14 (z14))) nh nj E0 (pB (eM v) (-1)) (upd (pB (eM v) (-1)) k (-1)) k (hsN v k) (-1) hN hE hS hF0 (TL_out hP9) (show k < nj by omega) hhl) (q_cwV hC.2.2.2.2.1 ⟨rfl, rfl⟩ wk4_72 wk2_201 wk2_202 wk1_4 wk2_203 hd_X4_tally ⟨Nat.le_of_ble_eq_true rfl, Nat.le_of_ble_eq_true rfl⟩) rfl rfl rfl rfl rfl (Nat.le_of_ble_eq_true rfl) dX0_byGoing_54 (fun u13 H locs p11 hw => ?_)
            obtain ⟨b16_14, b17_15, b18_16, b19_17, b20_18, b21_19, hFu13, huu13⟩ := p11
            subst huu13
            have hst_ : sr (sr (sr (sr (sr (sr (sr (sr (sr (sr (sr (sr (sr σ 16 (d16)) 17 (d17)) 18 (d18)) 19 (d19)) 20 (d20)) 21 (d21)) 0 (upd (upd (upd (σ 0) 12 (nI 3)) 13 (z13)) 14 (z14))) 16 b16_14) 17 b17_15) 18 b18_16) 19 b19_17) 20 b20_18) 21 b21_19 = sr (sr (sr (sr (sr (sr (sr σ 16 (b16_14)) 17 (b17_15)) 18 (b18_16)) 19 (b19_17)) 20 (b20_18)) 21 (b21_19)) 0 (upd (upd (upd (σ 0) 12 (nI 3)) 13 (z13)) 14 (z14)) := by
              funext j_ x_
              by_cases e0 : j_ = 0
              · subst e0
                by_cases y12 : x_ = 12
                · subst y12; rfl
                · by_cases y13 : x_ = 13
                  · subst y13; rfl
                  · by_cases y14 : x_ = 14
                    · subst y14; rfl
                    · simp [sr, upd, y12, y13, y14]
              · by_cases e16 : j_ = 16
                · subst e16; rfl
                · by_cases e17 : j_ = 17
                  · subst e17; rfl
                  · by_cases e18 : j_ = 18
                    · subst e18; rfl
                    · by_cases e19 : j_ = 19
                      · subst e19; rfl
                      · by_cases e20 : j_ = 20
                        · subst e20; rfl
                        · by_cases e21 : j_ = 21
                          · subst e21; rfl
                          · simp only [sr, e0, e16, e17, e18, e19, e20, e21, if_false]
            rw [hst_] at hw
            refine lv_aload_n hC.1 hC.2.1 dX0_byGoing_57 rfl (lv_at hl 0 rfl) ?_
            refine lv_iload_n hC.1 hC.2.1 dX0_byGoing_58 rfl (lv_at hl 2 rfl) ?_
            refine pf_X0_31 hC hw dX0_byGoing_59 (fun H locs hw => ?_)
            have hw : Wst E (XW E a) (sr (sr (sr (sr (sr (sr (sr (sr σ 16 (b16_14)) 17 (b17_15)) 18 (b18_16)) 19 (b19_17)) 20 (b20_18)) 21 (b21_19)) 0 (upd (upd (upd (σ 0) 12 (nI 3)) 13 (z13)) 14 (z14))) 0 (upd (upd (upd (upd (σ 0) 12 (nI 3)) 13 (z13)) 14 (z14)) 13 (nI k))) A s.heap H locs := hw
            have hst_ : sr (sr (sr (sr (sr (sr (sr (sr σ 16 (b16_14)) 17 (b17_15)) 18 (b18_16)) 19 (b19_17)) 20 (b20_18)) 21 (b21_19)) 0 (upd (upd (upd (σ 0) 12 (nI 3)) 13 (z13)) 14 (z14))) 0 (upd (upd (upd (upd (σ 0) 12 (nI 3)) 13 (z13)) 14 (z14)) 13 (nI k)) = sr (sr (sr (sr (sr (sr (sr σ 16 (b16_14)) 17 (b17_15)) 18 (b18_16)) 19 (b19_17)) 20 (b20_18)) 21 (b21_19)) 0 (upd (upd (upd (σ 0) 12 (nI 3)) 13 (nI k)) 14 (z14)) := by
              funext j_ x_
              by_cases e0 : j_ = 0
              · subst e0
                by_cases y12 : x_ = 12
                · subst y12; rfl
                · by_cases y13 : x_ = 13
                  · subst y13; rfl
                  · by_cases y14 : x_ = 14
                    · subst y14; rfl
                    · simp [sr, upd, y12, y13, y14]
              · by_cases e16 : j_ = 16
                · subst e16; rfl
                · by_cases e17 : j_ = 17
                  · subst e17; rfl
                  · by_cases e18 : j_ = 18
                    · subst e18; rfl
                    · by_cases e19 : j_ = 19
                      · subst e19; rfl
                      · by_cases e20 : j_ = 20
                        · subst e20; rfl
                        · by_cases e21 : j_ = 21
                          · subst e21; rfl
                          · simp only [sr, e0, e16, e17, e18, e19, e20, e21, if_false]
            rw [hst_] at hw
            refine lv_aload_n hC.1 hC.2.1 dX0_byGoing_62 rfl (lv_at hl 0 rfl) ?_
            refine lv_aload_n hC.1 hC.2.1 dX0_byGoing_63 rfl (lv_at hl 0 rfl) ?_
            refine gf_X0_9 hC hw dX0_byGoing_64 ?_
            refine lv_iload_n hC.1 hC.2.1 dX0_byGoing_67 rfl (lv_at hl 1 rfl) ?_
            refine q_callVp (As := [.int (nI j)]) (rest := [.ref (a 61)]) (q0 := 5) hC hw hl (tX4_firstFit l E a (sr (sr (sr (sr (sr (sr (sr σ 16 (b16_14)) 17 (b17_15)) 18 (b18_16)) 19 (b19_17)) 20 (b20_18)) 21 (b21_19)) 0 (upd (upd (upd (σ 0) 12 (nI 3)) 13 (nI k)) 14 (z14))) nh nj E0 (upd (pB (eM v) (-1)) k (-1)) j hN hE hS hFu13 hj) (q_cwV hC.2.2.2.2.1 ⟨rfl, rfl⟩ wk4_57 wk4_46 wk4_47 wk1_4 wk4_48 hd_X4_firstFit ⟨Nat.le_of_ble_eq_true rfl, Nat.le_of_ble_eq_true rfl⟩) rfl rfl rfl rfl rfl (Nat.le_of_ble_eq_true rfl) dX0_byGoing_68 (fun H locs hw => ?_)
            refine pf_X0_34 hC hw dX0_byGoing_71 (fun H locs hw => ?_)
            have hw : Wst E (XW E a) (sr (sr (sr (sr (sr (sr (sr (sr σ 16 (b16_14)) 17 (b17_15)) 18 (b18_16)) 19 (b19_17)) 20 (b20_18)) 21 (b21_19)) 0 (upd (upd (upd (σ 0) 12 (nI 3)) 13 (nI k)) 14 (z14))) 0 (upd (upd (upd (upd (σ 0) 12 (nI 3)) 13 (nI k)) 14 (z14)) 14 (m_ff E0 (upd (pB (eM v) (-1)) k (-1)) nh nj j nh))) A s.heap H locs := hw
            have hst_ : sr (sr (sr (sr (sr (sr (sr (sr σ 16 (b16_14)) 17 (b17_15)) 18 (b18_16)) 19 (b19_17)) 20 (b20_18)) 21 (b21_19)) 0 (upd (upd (upd (σ 0) 12 (nI 3)) 13 (nI k)) 14 (z14))) 0 (upd (upd (upd (upd (σ 0) 12 (nI 3)) 13 (nI k)) 14 (z14)) 14 (m_ff E0 (upd (pB (eM v) (-1)) k (-1)) nh nj j nh)) = sr (sr (sr (sr (sr (sr (sr σ 16 (b16_14)) 17 (b17_15)) 18 (b18_16)) 19 (b19_17)) 20 (b20_18)) 21 (b21_19)) 0 (upd (upd (upd (σ 0) 12 (nI 3)) 13 (nI k)) 14 (m_ff E0 (upd (pB (eM v) (-1)) k (-1)) nh nj j nh)) := by
              funext j_ x_
              by_cases e0 : j_ = 0
              · subst e0
                by_cases y12 : x_ = 12
                · subst y12; rfl
                · by_cases y13 : x_ = 13
                  · subst y13; rfl
                  · by_cases y14 : x_ = 14
                    · subst y14; rfl
                    · simp [sr, upd, y12, y13, y14]
              · by_cases e16 : j_ = 16
                · subst e16; rfl
                · by_cases e17 : j_ = 17
                  · subst e17; rfl
                  · by_cases e18 : j_ = 18
                    · subst e18; rfl
                    · by_cases e19 : j_ = 19
                      · subst e19; rfl
                      · by_cases e20 : j_ = 20
                        · subst e20; rfl
                        · by_cases e21 : j_ = 21
                          · subst e21; rfl
                          · simp only [sr, e0, e16, e17, e18, e19, e20, e21, if_false]
            rw [hst_] at hw
            refine lv_aload_n hC.1 hC.2.1 dX0_byGoing_74 rfl (lv_at hl 0 rfl) ?_
            refine gf_X0_9 hC hw dX0_byGoing_75 ?_
            refine lv_iload_n hC.1 hC.2.1 dX0_byGoing_78 rfl (lv_at hl 2 rfl) ?_
            refine lv_aload_n hC.1 hC.2.1 dX0_byGoing_79 rfl (lv_at hl 0 rfl) ?_
            refine gf_X0_26 hC hw dX0_byGoing_80 ?_
            refine gf_X0_84 hC hw dX0_byGoing_83 ?_
            refine lv_iload_n hC.1 hC.2.1 dX0_byGoing_86 rfl (lv_at hl 2 rfl) ?_
            have hhl : hsN v k < nh := hh9.2
            refine al_X12 (v := nI (hsN v k)) hC hw (by omega) (((hX k (by omega)).2.2.2 hs9).1.trans hh9.1) dX0_byGoing_87 ?_
            refine lv_iconst (v := nI 1) hC.1 hC.2.1 dX0_byGoing_88 (by decide) ?_
            refine q_callVv (As := [.int (nI k), .int (nI (hsN v k)), .int (nI 1)]) (rest := []) (q0 := 5) hC hw hl (tX4_tally l E a (sr (sr (sr (sr (sr (sr (sr σ 16 (b16_14)) 17 (b17_15)) 18 (b18_16)) 19 (b19_17)) 20 (b20_18)) 21 (b21_19)) 0 (upd (upd (upd (σ 0) 12 (nI 3)) 13 (nI k)) 14 (m_ff E0 (upd (pB (eM v) (-1)) k (-1)) nh nj j nh))) nh nj E0 (upd (pB (eM v) (-1)) k (-1)) (pB (eM v) (-1)) k (hsN v k) 1 hN hE hS hFu13 (TL_in hP9) (show k < nj by omega) hhl) (q_cwV hC.2.2.2.2.1 ⟨rfl, rfl⟩ wk4_72 wk2_201 wk2_202 wk1_4 wk2_203 hd_X4_tally ⟨Nat.le_of_ble_eq_true rfl, Nat.le_of_ble_eq_true rfl⟩) rfl rfl rfl rfl rfl (Nat.le_of_ble_eq_true rfl) dX0_byGoing_89 (fun u25 H locs p23 hw => ?_)
            obtain ⟨b16_26, b17_27, b18_28, b19_29, b20_30, b21_31, hFu25, huu25⟩ := p23
            subst huu25
            have hst_ : sr (sr (sr (sr (sr (sr (sr (sr (sr (sr (sr (sr (sr σ 16 (b16_14)) 17 (b17_15)) 18 (b18_16)) 19 (b19_17)) 20 (b20_18)) 21 (b21_19)) 0 (upd (upd (upd (σ 0) 12 (nI 3)) 13 (nI k)) 14 (m_ff E0 (upd (pB (eM v) (-1)) k (-1)) nh nj j nh))) 16 b16_26) 17 b17_27) 18 b18_28) 19 b19_29) 20 b20_30) 21 b21_31 = sr (sr (sr (sr (sr (sr (sr σ 16 (b16_26)) 17 (b17_27)) 18 (b18_28)) 19 (b19_29)) 20 (b20_30)) 21 (b21_31)) 0 (upd (upd (upd (σ 0) 12 (nI 3)) 13 (nI k)) 14 (m_ff E0 (upd (pB (eM v) (-1)) k (-1)) nh nj j nh)) := by
              funext j_ x_
              by_cases e0 : j_ = 0
              · subst e0
                by_cases y12 : x_ = 12
                · subst y12; rfl
                · by_cases y13 : x_ = 13
                  · subst y13; rfl
                  · by_cases y14 : x_ = 14
                    · subst y14; rfl
                    · simp [sr, upd, y12, y13, y14]
              · by_cases e16 : j_ = 16
                · subst e16; rfl
                · by_cases e17 : j_ = 17
                  · subst e17; rfl
                  · by_cases e18 : j_ = 18
                    · subst e18; rfl
                    · by_cases e19 : j_ = 19
                      · subst e19; rfl
                      · by_cases e20 : j_ = 20
                        · subst e20; rfl
                        · by_cases e21 : j_ = 21
                          · subst e21; rfl
                          · simp only [sr, e0, e16, e17, e18, e19, e20, e21, if_false]
            rw [hst_] at hw
            refine lv_iinc (v := nI (k + 1)) (lv' := [(2, .int (nI (k + 1))), (0, .ref (a 61)), (1, .int (nI j))]) hC.1 hC.2.1 dX0_byGoing_92 hl (k := 2) rfl (nI_add _ _) (by decide) rfl (fun ls hl => ?_)
            refine lv_goto (tgt := 7) hC.1 hC.2.1 dX0_byGoing_95 (by decide) ?_
            have hGI2 := hGI.s (E0 := E0) c6 (show k < nj by omega) hs9 hA hW hj hj0
            exact ih7 (k + 1) b16_26 b17_27 b18_28 b19_29 b20_30 b21_31 (nI k) (m_ff E0 (upd (pB (eM v) (-1)) k (-1)) nh nj j nh) (by omega) hFu25 hGI2 (by omega) _ _ _ hw (lv_sub hl [1, 2, 0] rfl)
  have hst_ : sr σ 0 (upd (σ 0) 12 (nI 3)) = sr (sr (sr (sr (sr (sr (sr σ 16 (σ 16)) 17 (σ 17)) 18 (σ 18)) 19 (σ 19)) 20 (σ 20)) 21 (σ 21)) 0 (upd (upd (upd (σ 0) 12 (nI 3)) 13 (σ 0 13)) 14 (σ 0 14)) := by
    funext j_ x_
    by_cases e0 : j_ = 0
    · subst e0
      by_cases y12 : x_ = 12
      · subst y12; rfl
      · by_cases y13 : x_ = 13
        · subst y13; rfl
        · by_cases y14 : x_ = 14
          · subst y14; rfl
          · simp [sr, upd, y12, y13, y14]
    · by_cases e16 : j_ = 16
      · subst e16; rfl
      · by_cases e17 : j_ = 17
        · subst e17; rfl
        · by_cases e18 : j_ = 18
          · subst e18; rfl
          · by_cases e19 : j_ = 19
            · subst e19; rfl
            · by_cases e20 : j_ = 20
              · subst e20; rfl
              · by_cases e21 : j_ = 21
                · subst e21; rfl
                · simp only [sr, e0, e16, e17, e18, e19, e20, e21, if_false]
  rw [hst_] at hw
  exact L7_0 _ 0 (σ 16) (σ 17) (σ 18) (σ 19) (σ 20) (σ 21) (σ 0 13) (σ 0 14) (Nat.zero_le _) hFS (Or.inl ⟨h14, fun y q => absurd q (Nat.not_lt_zero _)⟩) (Nat.lt_succ_self _) _ _ _ hw (lv_sub hl [1, 2, 0] rfl)
