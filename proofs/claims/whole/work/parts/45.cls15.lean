theorem dz10 {x : Nat} : dz 10 x = x := by unfold dz; split <;> simp_all
theorem Vd.okp {fm nh x : Nat} (hn : nh ≤ 10) (h : Vd fm nh x) : OKP nh fm 10 (dig 11 fm x) := fun k hk => Or.inr ⟨h.2 k hk, by have := h.2 k hk; omega⟩
section PLN
variable {v : Nat → Int32} {F : Nat → Nat} {fm nh nj : Nat}
theorem vPl_GL (d : Nat) : GLp v F fm nh nj (vPl v F fm nh nj d).2 := (bfV_all d).1
theorem vPl_le (d : Nat) : (vPl v F fm nh nj d).1 ≤ (vPl v F fm nh nj d).2.length := (bfV_all d).2
theorem dg_Vd (hW : mF v nh nj) (hF : Fok F fm nj) (hs : ∀ k, k < fm → v (258 + F k) = 1) : Vd fm nh (enc 11 (dg v F) fm) := Vd.of hW.1 (fun k hk => by
  have := mF.host hW (hF.1 k hk) (hs k hk)
  rw [show dg v F k = hN v (F k) from if_pos (hs k hk)]; exact this.2)
theorem dg_lt (hW : mF v nh nj) (hF : Fok F fm nj) (hs : ∀ k, k < fm → v (258 + F k) = 1) : ∀ k, k < fm → dg v F k < nh := fun k hk => by
  rw [show dg v F k = hN v (F k) from if_pos (hs k hk)]; exact (mF.host hW (hF.1 k hk) (hs k hk)).2
/-- partial levels -/
abbrev lvl (v : Nat → Int32) (F : Nat → Nat) (fm nh nj d n : Nat) : List (Nat × Nat × Nat) := bfS (gPl v F fm nh nj) (cPl fm) (bPl F) fm nh (vPl v F fm nh nj d).2 (vPl v F fm nh nj d).1 n
theorem lvl_s (d n : Nat) : lvl v F fm nh nj d (n + 1) = bfK (gPl v F fm nh nj) (cPl fm) (bPl F) nh (lvl v F fm nh nj d n) ((vPl v F fm nh nj d).1 + n) (gt (lvl v F fm nh nj d n) ((vPl v F fm nh nj d).1 + n)).1 fm := rfl
theorem lvl_all {d n : Nat} (hn : (vPl v F fm nh nj d).1 + n ≤ (vPl v F fm nh nj d).2.length) : GLp v F fm nh nj (lvl v F fm nh nj d n) ∧ Pre (vPl v F fm nh nj d).2 (lvl v F fm nh nj d n) := by
  have := bfS_all (lo := (vPl v F fm nh nj d).1) (n := n) (vPl_GL (v := v) (F := F) (fm := fm) (nh := nh) (nj := nj) d) hn
  exact ⟨this.1, this.2.1⟩
theorem lvl_end (d : Nat) : lvl v F fm nh nj d ((vPl v F fm nh nj d).2.length - (vPl v F fm nh nj d).1) = (vPl v F fm nh nj (d + 1)).2 := rfl
/-- the level at which the goal is found -/
theorem lev_at {d s : Nat} (hs : s < (vPl v F fm nh nj d).2.length) (hg : gl v F fm (gt (vPl v F fm nh nj d).2 s).1) (hno : ∀ e, e < d → ∀ i, i < (vPl v F fm nh nj e).2.length → ¬ gl v F fm (gt (vPl v F fm nh nj e).2 i).1) : (vPl v F fm nh nj d).1 ≤ s := by
  cases d with
  | zero => exact Nat.zero_le _
  | succ d =>
    show (vPl v F fm nh nj d).2.length ≤ s
    refine Nat.not_lt.mp fun q => hno d (Nat.lt_succ_self d) s q ?_
    have := (bfV_pre (g := gPl v F fm nh nj) (cd := cPl fm) (b := bPl F) (m := fm) (nh := nh) (r0 := enc 11 (dg v F) fm) d).2 s q
    rw [← show gt (vPl v F fm nh nj (d + 1)).2 s = gt (vPl v F fm nh nj d).2 s from this]; exact hg
theorem anc_lev {d s : Nat} (h1 : (vPl v F fm nh nj d).1 ≤ s) (h2 : s < (vPl v F fm nh nj d).2.length) : ∀ j, j ≤ d → (vPl v F fm nh nj (d - j)).1 ≤ anc (vPl v F fm nh nj d).2 s j ∧ anc (vPl v F fm nh nj d).2 s j < (vPl v F fm nh nj (d - j)).2.length
  | 0, _ => ⟨h1, h2⟩
  | j + 1, hj => by
    obtain ⟨a, b⟩ := anc_lev h1 h2 j (by omega)
    have h0 : anc (vPl v F fm nh nj d).2 s j ≠ 0 := fun q => by have := vPl_0 a q; omega
    have := vPl_up (d := d) (by omega) a b h0
    rw [show d - (j + 1) = d - j - 1 by omega]
    exact ⟨this.2.2.1, this.2.2.2⟩
theorem nst {d s j : Nat} (hn : nh ≤ 10) (h0 : Vd fm nh (enc 11 (dg v F) fm)) (h1 : (vPl v F fm nh nj d).1 ≤ s) (h2 : s < (vPl v F fm nh nj d).2.length) (hj : j < d) :
    0 < anc (vPl v F fm nh nj d).2 s j ∧ anc (vPl v F fm nh nj d).2 s j < (vPl v F fm nh nj d).2.length ∧ anc (vPl v F fm nh nj d).2 s (j + 1) < (vPl v F fm nh nj d).2.length ∧ ∃ k0 x0, k0 < fm ∧ x0 < nh ∧ (∀ k, k < fm → dig 11 fm (gt (vPl v F fm nh nj d).2 (anc (vPl v F fm nh nj d).2 s j)).1 k = if k = k0 then x0 else dig 11 fm (gt (vPl v F fm nh nj d).2 (anc (vPl v F fm nh nj d).2 s (j + 1))).1 k) ∧ x0 ≠ dig 11 fm (gt (vPl v F fm nh nj d).2 (anc (vPl v F fm nh nj d).2 s (j + 1))).1 k0 ∧ (gt (vPl v F fm nh nj d).2 (anc (vPl v F fm nh nj d).2 s j)).2.2 = 16 * F k0 + x0 := by
  obtain ⟨a, b⟩ := anc_lev h1 h2 j (by omega)
  obtain ⟨a2, b2⟩ := anc_lev h1 h2 (j + 1) (by omega)
  have hz : anc (vPl v F fm nh nj d).2 s j ≠ 0 := fun q => by have := vPl_0 a q; omega
  have hm := vPl_mono (v := v) (F := F) (fm := fm) (nh := nh) (nj := nj) (show d - j ≤ d by omega)
  have hm2 := vPl_mono (v := v) (F := F) (fm := fm) (nh := nh) (nj := nj) (show d - (j + 1) ≤ d by omega)
  have hG := vPl_GL (v := v) (F := F) (fm := fm) (nh := nh) (nj := nj) d
  obtain ⟨-, k0, x0, hk, hx, hg, hc, hb⟩ := hG.2.2.2 _ (Nat.pos_of_ne_zero hz) (Nat.lt_of_lt_of_le b hm)
  have hv := Vd.all hn hG h0 _ (Nat.lt_of_lt_of_le b2 hm2)
  refine ⟨Nat.pos_of_ne_zero hz, Nat.lt_of_lt_of_le b hm, Nat.lt_of_lt_of_le b2 hm2, k0, x0, hk, hx, fun k hkk => ?_, (of_decide_eq_true hg).1, hb⟩
  rw [hc]
  show dig 11 fm (enc 11 (pu (dig 11 fm _) k0 x0) fm) k = _
  rw [dig_enc (by decide) (fun i hi => ?_) hkk]
  · rfl
  · unfold pu; split
    · omega
    · have := hv.2 i hi
      have this : dig 11 fm (gt (vPl v F fm nh nj d).2 (gt (vPl v F fm nh nj d).2 (anc (vPl v F fm nh nj d).2 s j)).2.1).1 i < nh := this
      omega
end PLN
/-- steps noted so far -/
def NS (L : List (Nat × Nat × Nat)) (s d j : Nat) (e27 e28 : Nat → Int32) : Prop := ∀ i, d - j ≤ i → i < d → e27 i = nI ((gt L (anc L s (d - 1 - i))).2.2 / 16) ∧ e28 i = nI ((gt L (anc L s (d - 1 - i))).2.2 % 16)
theorem NS.step {L : List (Nat × Nat × Nat)} {s d j f0 x0 : Nat} {e27 e28 : Nat → Int32} (h : NS L s d j e27 e28) (hj : j < d) (hb : (gt L (anc L s j)).2.2 = 16 * f0 + x0) (hx : x0 < 10) : NS L s d (j + 1) (upd e27 (d - j - 1) (nI f0)) (upd e28 (d - j - 1) (nI x0)) := fun i h1 h2 => by
  by_cases e : i = d - j - 1
  · rw [show d - 1 - i = j by omega, hb, e, ups, ups]
    exact ⟨congrArg nI (by omega), congrArg nI (by omega)⟩
  · rw [upn e, upn e]; exact h i (by omega) h2
theorem pP_self {F : Nat → Nat} {P0 : Nat → Int32} {p : Nat → Nat} {k : Nat} : ∀ {m : Nat}, (∀ i, i < m → P0 (F i) = plc (p i)) → pP F P0 p m k = P0 k
  | 0, _ => rfl
  | m + 1, h => by
    rw [pP]
    by_cases e : k = F m
    · rw [e, ups, h m (by omega)]
    · rw [upn e]; exact pP_self (fun i hi => h i (by omega))
set_option maxHeartbeats 4000000 in
set_option maxRecDepth 100000 in
theorem tX8_canMoveAll (l : Launch) (E : EV) (a : Nat → Nat) (σ : St) (nh : Nat) (nj : Nat) (hN : cN2 σ nh nj) (h10 : nh ≤ 10) (h24 : nj ≤ 24) : MI l E (XW E a) yX8_canMoveAll (Cond.code yX8_canMoveAll cX8_canMoveAll 2 (some .boolean)) ({ frames := 1, cells := 0, slots := 0, locals := 21 }) [.ref (a 69)] σ (fun r_ u_ => r_ = (if ∀ j, j < nj → ¬ (σ 14) j = -1 → ((σ 11) j = 1 ∧ ¬ (σ 5) j = 3) then (1 : Int32) else 0) ∧ u_ = σ) := by
  refine MI.mk (by decide +kernel) (Nat.le_of_ble_eq_true rfl) ?_
  intro p e s m args below meth c ls A Q hret hC hw hl
  have hC : Cxt E p s m args meth c cX8_canMoveAll 2 (some .boolean) RX8 A := hC
  have hl : lv_has ls 2 [(0, .ref (a 69))] := hl
  refine lv_iconst (v := nI 0) hC.1 hC.2.1 dX8_canMoveAll_0 (by decide) ?_
  refine lv_istore_n (lv' := [(1, .int (nI 0)), (0, .ref (a 69))]) hC.1 hC.2.1 dX8_canMoveAll_1 rfl hl (by decide) rfl (fun ls hl => ?_)
  have L2_0 : ∀ (n : Nat), ∀ (k : Nat), (k ≤ nj) → (∀ j, j < k → ¬ σ 14 j = -1 → (σ 11 j = 1 ∧ ¬ σ 5 j = 3)) → (nj - k) < n → ∀ (H : Heap) (locs : List Loc) (ls : Array Slot), Wst E (XW E a) (σ) A s.heap H locs → lv_has ls 2 [(0, .ref (a 69)), (1, .int (nI k))] → W p l e ({ frames := 1, cells := 0, slots := 0, locals := 21 }) s m args below meth c H locs 0 0 Q (F0 m 2 ls []) := by
    intro n
    induction n with
    | zero => intro k hk hno hn; exact absurd hn (Nat.not_lt_zero _)
    | succ n ih2 =>
      intro k hk hno hn2 H locs ls hw hl
      refine lv_iload_n hC.1 hC.2.1 dX8_canMoveAll_2 rfl (lv_at hl 1 rfl) ?_
      refine lv_aload_n hC.1 hC.2.1 dX8_canMoveAll_3 rfl (lv_at hl 0 rfl) ?_
      refine gf_X8_28 hC hw dX8_canMoveAll_4 ?_
      refine gf_X8_33 (v := nI nj) hC hw hN.2 dX8_canMoveAll_7 ?_
      refine q_cmpge hC 45 (cNle (by omega) (by omega)) dX8_canMoveAll_10 (by decide) (fun (c2 : nj ≤ k) => ?_) (fun (c2 : k < nj) => ?_)
      · refine lv_iconst (v := nI 1) hC.1 hC.2.1 dX8_canMoveAll_45 (by decide) ?_
        refine hret _ _ _ _ _ _ hw ?_ (by decide) dX8_canMoveAll_46
        exact ⟨(if_pos (fun j hj => hno j (by omega))).symm, rfl⟩
      · refine lv_aload_n hC.1 hC.2.1 dX8_canMoveAll_13 rfl (lv_at hl 0 rfl) ?_
        refine gf_X8_28 hC hw dX8_canMoveAll_14 ?_
        refine gf_X8_39 hC hw dX8_canMoveAll_17 ?_
        refine lv_iload_n hC.1 hC.2.1 dX8_canMoveAll_20 rfl (lv_at hl 1 rfl) ?_
        refine al_X14 (v := σ 14 k) hC hw (by omega) rfl dX8_canMoveAll_21 ?_
        refine lv_iconst (v := (-1)) hC.1 hC.2.1 dX8_canMoveAll_22 (by decide) ?_
        refine q_cmpeq hC 39 cI dX8_canMoveAll_23 (by decide) (fun (c3 : σ 14 k = (-1)) => ?_) (fun (c3 : ¬ (σ 14 k = (-1))) => ?_)
        · refine lv_iinc (v := nI (k + 1)) (lv' := [(1, .int (nI (k + 1))), (0, .ref (a 69))]) hC.1 hC.2.1 dX8_canMoveAll_39 hl (k := 1) rfl (nI_add _ _) (by decide) rfl (fun ls hl => ?_)
          refine lv_goto (tgt := 2) hC.1 hC.2.1 dX8_canMoveAll_42 (by decide) ?_
          exact ih2 (k + 1) (by omega) (ball_s.mpr ⟨hno, fun z => absurd c3 z⟩) (by omega) _ _ _ hw (lv_sub hl [1, 0] rfl)
        · refine lv_aload_n hC.1 hC.2.1 dX8_canMoveAll_26 rfl (lv_at hl 0 rfl) ?_
          refine gf_X8_28 hC hw dX8_canMoveAll_27 ?_
          refine lv_iload_n hC.1 hC.2.1 dX8_canMoveAll_30 rfl (lv_at hl 1 rfl) ?_
          refine q_callVp (As := [.int (nI k)]) (rest := []) (q0 := 7) hC hw hl (tX6_canLeave l E a σ k (by first | assumption | omega)) (q_cwV hC.2.2.2.2.1 ⟨rfl, rfl⟩ wk3_222 wk3_60 wk3_61 wk1_3 wk3_62 hd_X6_canLeave ⟨Nat.le_of_ble_eq_true rfl, Nat.le_of_ble_eq_true rfl⟩) rfl rfl rfl rfl rfl (Nat.le_of_ble_eq_true rfl) dX8_canMoveAll_31 (fun H locs hw => ?_)
          refine q_ifne hC 39 cB dX8_canMoveAll_34 (by decide) (fun (c7 : (σ 11) k = 1 ∧ ¬ (σ 5) k = 3) => ?_) (fun (c7 : ¬ ((σ 11) k = 1 ∧ ¬ (σ 5) k = 3)) => ?_)
          · refine lv_iinc (v := nI (k + 1)) (lv' := [(1, .int (nI (k + 1))), (0, .ref (a 69))]) hC.1 hC.2.1 dX8_canMoveAll_39 hl (k := 1) rfl (nI_add _ _) (by decide) rfl (fun ls hl => ?_)
            refine lv_goto (tgt := 2) hC.1 hC.2.1 dX8_canMoveAll_42 (by decide) ?_
            exact ih2 (k + 1) (by omega) (ball_s.mpr ⟨hno, fun z => c7⟩) (by omega) _ _ _ hw (lv_sub hl [1, 0] rfl)
          · refine lv_iconst (v := nI 0) hC.1 hC.2.1 dX8_canMoveAll_37 (by decide) ?_
            refine hret _ _ _ _ _ _ hw ?_ (by decide) dX8_canMoveAll_38
            exact ⟨(if_neg (fun q => c7 (q k (by omega) c3))).symm, rfl⟩
  exact L2_0 _ 0 (Nat.zero_le _) (fun x q => absurd q (Nat.not_lt_zero _)) (Nat.lt_succ_self _) _ _ _ hw (lv_sub hl [1, 0] rfl)
set_option maxHeartbeats 4000000 in
set_option maxRecDepth 100000 in
theorem tX8_movesTo (l : Launch) (E : EV) (a : Nat → Nat) (σ : St) (nh : Nat) (nj : Nat) (E0 : St) (fm : Nat) (F : Nat → Nat) (v : Nat → Int32) (goal : Nat) (hN : cN2 σ nh nj) (hE : aE σ E0) (hS : cS E0 nh nj) (hFS : FSr E0 (pP F (pB (eM v) (-1)) (dg v F) fm) nh nj (σ 16) (σ 17) (σ 18) (σ 19) (σ 20) (σ 21)) (hm : σ 0 6 = nI fm) (hm4 : fm ≤ 4) (h8 : σ 0 8 = plc 10) (hF : ∀ i, i < fm → σ 23 i = nI (F i) ∧ F i < nj) (hFk : Fok F fm nj) (hat : ∀ i, i < fm → σ 24 i = atI 10 (dg v F i)) (hA : agE E0 (eM v) nh nj) (hW : mF v nh nj) (hs1 : ∀ k, k < fm → v (258 + F k) = 1) (htg : ∀ k, k < fm → eM v 14 (F k) = nI (tgD v F k) ∧ tgD v F k < nh) (hg : enc 10 (tgD v F) fm = goal) : MI l E (XW E a) yX8_movesTo (Cond.code yX8_movesTo cX8_movesTo 5 (some .int)) ({ frames := 4, cells := 0, slots := 0, locals := 98 }) [.ref (a 69), .int (nI goal)] σ (fun r_ u_ => ∃ (b16 b17 b18 b19 b20 b21 b24 b25 b26 : Nat → Int32) (z7 : Int32), ((∃ d s, d ≤ 8 ∧ (vPl v F fm nh nj d).1 ≤ s ∧ s < (vPl v F fm nh nj d).2.length ∧ gl v F fm (gt (vPl v F fm nh nj d).2 s).1 ∧ rc fm (gt (vPl v F fm nh nj d).2 s).1 = goal ∧ r_ = nI d ∧ CR fm (vPl v F fm nh nj d).2 (b25, b26, (vPl v F fm nh nj d).2.length)) ∨ ((∀ i, i < (vPl v F fm nh nj 8).2.length → ¬ gl v F fm (gt (vPl v F fm nh nj 8).2 i).1) ∧ r_ = -3)) ∧ u_ = sr (sr (sr (sr (sr (sr (sr (sr (sr (sr σ 16 b16) 17 b17) 18 b18) 19 b19) 20 b20) 21 b21) 24 b24) 25 b25) 26 b26) 0 (upd (σ 0) 7 z7)) := by
  refine MI.mk (by decide +kernel) (Nat.le_of_ble_eq_true rfl) ?_
  intro p e s m args below meth c ls A Q hret hC hw hl
  have hC : Cxt E p s m args meth c cX8_movesTo 5 (some .int) RX8 A := hC
  have hl : lv_has ls 5 [(0, .ref (a 69)), (1, .int (nI goal))] := hl
  have hnh := hS.1
  have hnj := hS.2.1
  have hp10 := pow10 (show fm < 5 by omega)
  have hV0 := dg_Vd hW hFk hs1
  have hgl : goal < 10 ^ fm := by rw [← hg]; exact enc_lt (by decide) (fun k hk => by have := (htg k hk).2; omega)
  have hx0 := rc_lt hnh hV0
  have hdg1 := dg_lt hW hFk hs1
  refine lv_iload_n hC.1 hC.2.1 dX8_movesTo_0 rfl (lv_at hl 1 rfl) ?_
  refine lv_sipush (v := nI 10000) hC.1 hC.2.1 dX8_movesTo_1 (by decide) ?_
  refine q_callSNp (As := [.int (nI goal), .int (nI 10000)]) (rest := []) hC hw hl (tX10_isBelow l E a σ (nI goal) 10000) ⟨rfl, rfl⟩ hC.2.2.2.2.2.1.2.2.1 wk2_176 wk1_1 wk2_177 hd_X10_isBelow.2 ⟨Nat.le_of_ble_eq_true rfl, Nat.le_of_ble_eq_true rfl⟩ rfl rfl (Nat.le_of_ble_eq_true rfl) dX8_movesTo_4 (fun H locs hw => ?_)
  refine q_ifne hC 13 cB dX8_movesTo_7 (by decide) (fun (c4 : ¬ (nI goal) < 0 ∧ (nI goal) < 10000) => ?_) (fun (c4 : ¬ (¬ (nI goal) < 0 ∧ (nI goal) < 10000)) => ?_)
  · refine lv_aload_n hC.1 hC.2.1 dX8_movesTo_13 rfl (lv_at hl 0 rfl) ?_
    refine gf_X8_29 hC hw dX8_movesTo_14 ?_
    refine lv_aload_n hC.1 hC.2.1 dX8_movesTo_17 rfl (lv_at hl 0 rfl) ?_
    refine gf_X8_29 hC hw dX8_movesTo_18 ?_
    refine q_callVp (As := []) (rest := [.ref (a 63)]) (q0 := 3) hC hw hl (tX2_code l E a σ fm (dg v F) (by first | assumption | omega) (by first | assumption | omega) (fun i hi => ⟨(hat i hi).trans (atI_n (by have := hdg1 i hi; omega)), by have := hdg1 i hi; omega⟩)) (q_cwV hC.2.2.2.2.1 ⟨rfl, rfl⟩ wk3_235 wk3_166 wk3_167 wk1_7 wk3_168 hd_X2_code ⟨Nat.le_of_ble_eq_true rfl, Nat.le_of_ble_eq_true rfl⟩) rfl rfl rfl rfl rfl (Nat.le_of_ble_eq_true rfl) dX8_movesTo_21 (fun H locs hw => ?_)
    refine q_top (y := nI (rc fm (enc 11 (dg v F) fm))) (congrArg nI (enc_congr (fun k hk => (dig_enc (by decide) (fun i hi => by have := hdg1 i hi; omega) hk).symm))) ?_
    refine q_callVvp (As := [.int (nI (rc fm (enc 11 (dg v F) fm)))]) (rest := []) (q0 := 3) hC hw hl (tX2_lookFrom l E a σ fm (rc fm (enc 11 (dg v F) fm)) (by first | assumption | omega) (by first | assumption | omega) hx0) (q_cwV hC.2.2.2.2.1 ⟨rfl, rfl⟩ wk3_236 wk3_172 wk3_173 wk1_7 wk3_174 hd_X2_lookFrom ⟨Nat.le_of_ble_eq_true rfl, Nat.le_of_ble_eq_true rfl⟩) rfl rfl rfl rfl rfl (Nat.le_of_ble_eq_true rfl) dX8_movesTo_24 (fun H locs hw => ?_)
    have hw : Wst E (XW E a) (sr (sr (sr σ 25 (upd (σ 25) 0 (nI (rc fm (enc 11 (dg v F) fm))))) 26 (upd (fil (10 ^ fm) (-1) (σ 26)) (rc fm (enc 11 (dg v F) fm)) (nI (rc fm (enc 11 (dg v F) fm))))) 0 (upd (σ 0) 7 (nI 1))) A s.heap H locs := hw
    refine lv_iconst (v := nI 0) hC.1 hC.2.1 dX8_movesTo_27 (by decide) ?_
    refine lv_istore_n (lv' := [(2, .int (nI 0)), (0, .ref (a 69)), (1, .int (nI goal))]) hC.1 hC.2.1 dX8_movesTo_28 rfl hl (by decide) rfl (fun ls hl => ?_)
    refine lv_iconst (v := nI 0) hC.1 hC.2.1 dX8_movesTo_29 (by decide) ?_
    refine lv_istore_n (lv' := [(3, .int (nI 0)), (2, .int (nI 0)), (0, .ref (a 69)), (1, .int (nI goal))]) hC.1 hC.2.1 dX8_movesTo_30 rfl hl (by decide) rfl (fun ls hl => ?_)
    have L31_10 : ∀ (n : Nat), ∀ (lk : Nat), ∀ (d : Nat), ∀ (d16 : Nat → Int32), ∀ (d17 : Nat → Int32), ∀ (d18 : Nat → Int32), ∀ (d19 : Nat → Int32), ∀ (d20 : Nat → Int32), ∀ (d21 : Nat → Int32), ∀ (d24 : Nat → Int32), ∀ (d25 : Nat → Int32), ∀ (d26 : Nat → Int32), ∀ (pz : Nat → Nat), (lk = ((vPl v F fm nh nj d).1)) → (d ≤ 8) → (FSr E0 (pP F (pB (eM v) (-1)) pz fm) nh nj d16 d17 d18 d19 d20 d21) → (∀ i, i < fm → d24 i = atI 10 (pz i)) → (OKP nh fm 10 pz) → (CR fm (vPl v F fm nh nj d).2 (d25, d26, (vPl v F fm nh nj d).2.length)) → (∀ e, e < d → ∀ i, i < (vPl v F fm nh nj e).2.length → ¬ gl v F fm (gt (vPl v F fm nh nj e).2 i).1) → (8 - d) < n → ∀ (H : Heap) (locs : List Loc) (ls : Array Slot), Wst E (XW E a) (sr (sr (sr (sr (sr (sr (sr (sr (sr (sr σ 16 (d16)) 17 (d17)) 18 (d18)) 19 (d19)) 20 (d20)) 21 (d21)) 24 (d24)) 25 (d25)) 26 (d26)) 0 (upd (σ 0) 7 (nI (vPl v F fm nh nj d).2.length))) A s.heap H locs → lv_has ls 5 [(0, .ref (a 69)), (1, .int (nI goal)), (2, .int (nI lk)), (3, .int (nI d))] → W p l e ({ frames := 4, cells := 0, slots := 0, locals := 98 }) s m args below meth c H locs 0 0 Q (F0 m 31 ls []) := by
      intro n
      induction n with
      | zero => intro lk d d16 d17 d18 d19 d20 d21 d24 d25 d26 pz q_lk hd hF0 hat0 hpz hCR hno hn; exact absurd hn (Nat.not_lt_zero _)
      | succ n ih31 =>
        intro lk d d16 d17 d18 d19 d20 d21 d24 d25 d26 pz q_lk hd hF0 hat0 hpz hCR hno hn31 H locs ls hw hl
        subst q_lk
        have hcl := CR.len hnh (Vd.all hnh (vPl_GL d) hV0) (vPl_GL (v := v) (F := F) (fm := fm) (nh := nh) (nj := nj) d).PI
        have hvle := vPl_le (v := v) (F := F) (fm := fm) (nh := nh) (nj := nj) d
        refine lv_iload_n hC.1 hC.2.1 dX8_movesTo_31 rfl (lv_at hl 3 rfl) ?_
        refine lv_bipush (v := nI 8) hC.1 hC.2.1 dX8_movesTo_32 (by decide) ?_
        refine q_cmpge hC 93 (cNle (by omega) (by omega)) dX8_movesTo_34 (by decide) (fun (c12 : 8 ≤ d) => ?_) (fun (c12 : d < 8) => ?_)
        · refine lv_aload_n hC.1 hC.2.1 dX8_movesTo_93 rfl (lv_at hl 0 rfl) ?_
          refine gf_X8_29 hC hw dX8_movesTo_94 ?_
          refine lv_iload_n hC.1 hC.2.1 dX8_movesTo_97 rfl (lv_at hl 1 rfl) ?_
          refine q_callVp (As := [.int (nI goal)]) (rest := []) (q0 := 3) hC hw hl (tX2_isUnseen l E a (sr (sr (sr (sr (sr (sr (sr (sr (sr (sr σ 16 (d16)) 17 (d17)) 18 (d18)) 19 (d19)) 20 (d20)) 21 (d21)) 24 (d24)) 25 (d25)) 26 (d26)) 0 (upd (σ 0) 7 (nI (vPl v F fm nh nj d).2.length))) goal (by omega)) (q_cwV hC.2.2.2.2.1 ⟨rfl, rfl⟩ wk3_237 wk3_180 wk3_181 wk1_7 wk3_182 hd_X2_isUnseen ⟨Nat.le_of_ble_eq_true rfl, Nat.le_of_ble_eq_true rfl⟩) rfl rfl rfl rfl rfl (Nat.le_of_ble_eq_true rfl) dX8_movesTo_98 (fun H locs hw => ?_)
          refine q_ifeq hC 109 cB dX8_movesTo_101 (by decide) (fun (c16 : ¬ (d26 goal = -1)) => ?_) (fun (c16 : d26 goal = -1) => ?_)
          · refine lv_bipush (v := nI 8) hC.1 hC.2.1 dX8_movesTo_109 (by decide) ?_
            refine hret _ _ _ _ _ _ hw ?_ rfl dX8_movesTo_111
            have hd8 : d = 8 := by omega
            obtain ⟨i9, i91, i92⟩ := (hCR.2.2.1 goal hgl).mp c16
            have hgo := (gl_iff hnh (Vd.all hnh (vPl_GL d) hV0 i9 i91) htg).mp (i92.trans hg.symm)
            exact ⟨d16, d17, d18, d19, d20, d21, d24, d25, d26, nI (vPl v F fm nh nj d).2.length, Or.inl ⟨d, i9, by omega, lev_at i91 hgo hno, i91, hgo, i92, by rw [hd8], hCR⟩, rfl⟩
          · refine lv_bipush (v := (-3)) hC.1 hC.2.1 dX8_movesTo_104 (by decide) ?_
            refine lv_goto (tgt := 111) hC.1 hC.2.1 dX8_movesTo_106 (by decide) ?_
            refine hret _ _ _ _ _ _ hw ?_ rfl dX8_movesTo_111
            have hd8 : d = 8 := by omega
            exact ⟨d16, d17, d18, d19, d20, d21, d24, d25, d26, nI (vPl v F fm nh nj d).2.length, Or.inr ⟨by rw [← hd8]; exact fun i hi q => (hCR.2.2.1 goal hgl).mpr ⟨i, hi, ((gl_iff hnh (Vd.all hnh (vPl_GL d) hV0 i hi) htg).mpr q).trans hg⟩ c16, rfl⟩, rfl⟩
        · refine lv_aload_n hC.1 hC.2.1 dX8_movesTo_37 rfl (lv_at hl 0 rfl) ?_
          refine gf_X8_29 hC hw dX8_movesTo_38 ?_
          refine lv_iload_n hC.1 hC.2.1 dX8_movesTo_41 rfl (lv_at hl 1 rfl) ?_
          refine q_callVp (As := [.int (nI goal)]) (rest := []) (q0 := 3) hC hw hl (tX2_isUnseen l E a (sr (sr (sr (sr (sr (sr (sr (sr (sr (sr σ 16 (d16)) 17 (d17)) 18 (d18)) 19 (d19)) 20 (d20)) 21 (d21)) 24 (d24)) 25 (d25)) 26 (d26)) 0 (upd (σ 0) 7 (nI (vPl v F fm nh nj d).2.length))) goal (by omega)) (q_cwV hC.2.2.2.2.1 ⟨rfl, rfl⟩ wk3_237 wk3_180 wk3_181 wk1_7 wk3_182 hd_X2_isUnseen ⟨Nat.le_of_ble_eq_true rfl, Nat.le_of_ble_eq_true rfl⟩) rfl rfl rfl rfl rfl (Nat.le_of_ble_eq_true rfl) dX8_movesTo_42 (fun H locs hw => ?_)
          refine q_ifne hC 50 cB dX8_movesTo_45 (by decide) (fun (c20 : d26 goal = -1) => ?_) (fun (c20 : ¬ (d26 goal = -1)) => ?_)
          · refine lv_aload_n hC.1 hC.2.1 dX8_movesTo_50 rfl (lv_at hl 0 rfl) ?_
            refine gf_X8_29 hC hw dX8_movesTo_51 ?_
            refine gf_X8_92 (v := nI ((vPl v F fm nh nj d).2.length)) hC hw rfl dX8_movesTo_54 ?_
            refine lv_istore (lv' := [(4, .int (nI ((vPl v F fm nh nj d).2.length))), (0, .ref (a 69)), (1, .int (nI goal)), (2, .int (nI ((vPl v F fm nh nj d).1))), (3, .int (nI d))]) hC.1 hC.2.1 dX8_movesTo_57 hl (by decide) rfl (fun ls hl => ?_)
            have L59_20 : ∀ (n : Nat), ∀ (lk : Nat), ∀ (e16 : Nat → Int32), ∀ (e17 : Nat → Int32), ∀ (e18 : Nat → Int32), ∀ (e19 : Nat → Int32), ∀ (e20 : Nat → Int32), ∀ (e21 : Nat → Int32), ∀ (e24 : Nat → Int32), ∀ (e25 : Nat → Int32), ∀ (e26 : Nat → Int32), ∀ (pz2 : Nat → Nat), ((vPl v F fm nh nj d).1 ≤ lk) → (lk ≤ (vPl v F fm nh nj d).2.length) → (FSr E0 (pP F (pB (eM v) (-1)) pz2 fm) nh nj e16 e17 e18 e19 e20 e21) → (∀ i, i < fm → e24 i = atI 10 (pz2 i)) → (OKP nh fm 10 pz2) → (CR fm (lvl v F fm nh nj d (lk - (vPl v F fm nh nj d).1)) (e25, e26, (lvl v F fm nh nj d (lk - (vPl v F fm nh nj d).1)).length)) → ((vPl v F fm nh nj d).2.length - lk) < n → ∀ (H : Heap) (locs : List Loc) (ls : Array Slot), Wst E (XW E a) (sr (sr (sr (sr (sr (sr (sr (sr (sr (sr σ 16 (e16)) 17 (e17)) 18 (e18)) 19 (e19)) 20 (e20)) 21 (e21)) 24 (e24)) 25 (e25)) 26 (e26)) 0 (upd (σ 0) 7 (nI (lvl v F fm nh nj d (lk - (vPl v F fm nh nj d).1)).length))) A s.heap H locs → lv_has ls 5 [(0, .ref (a 69)), (1, .int (nI goal)), (2, .int (nI lk)), (3, .int (nI d)), (4, .int (nI ((vPl v F fm nh nj d).2.length)))] → W p l e ({ frames := 4, cells := 0, slots := 0, locals := 98 }) s m args below meth c H locs 0 0 Q (F0 m 59 ls []) := by
              intro n
              induction n with
              | zero => intro lk e16 e17 e18 e19 e20 e21 e24 e25 e26 pz2 hlk1 hlk2 hF2 hat2 hpz2 hCL hn; exact absurd hn (Nat.not_lt_zero _)
              | succ n ih59 =>
                intro lk e16 e17 e18 e19 e20 e21 e24 e25 e26 pz2 hlk1 hlk2 hF2 hat2 hpz2 hCL hn59 H locs ls hw hl
                have hlA := lvl_all (v := v) (F := F) (fm := fm) (nh := nh) (nj := nj) (d := d) (n := lk - (vPl v F fm nh nj d).1) (by omega)
                have hcl2 := CR.len hnh (Vd.all hnh hlA.1 hV0) hlA.1.PI
                have hlP := hlA.2.1
                refine lv_iload_n hC.1 hC.2.1 dX8_movesTo_59 rfl (lv_at hl 2 rfl) ?_
                refine lv_iload hC.1 hC.2.1 dX8_movesTo_60 (lv_at hl 4 rfl) ?_
                refine q_cmpge hC 87 (cNle (by omega) (by omega)) dX8_movesTo_62 (by decide) (fun (c22 : ((vPl v F fm nh nj d).2.length) ≤ lk) => ?_) (fun (c22 : lk < ((vPl v F fm nh nj d).2.length)) => ?_)
                · refine lv_iinc (v := nI (d + 1)) (lv' := [(3, .int (nI (d + 1))), (0, .ref (a 69)), (1, .int (nI goal)), (2, .int (nI lk)), (4, .int (nI ((vPl v F fm nh nj d).2.length)))]) hC.1 hC.2.1 dX8_movesTo_87 hl (k := 3) rfl (nI_add _ _) (by decide) rfl (fun ls hl => ?_)
                  refine lv_goto (tgt := 31) hC.1 hC.2.1 dX8_movesTo_90 (by decide) ?_
                  have hlk9 : lk = (vPl v F fm nh nj (d + 1)).1 := by show lk = (vPl v F fm nh nj d).2.length; omega
                  have hle9 : lvl v F fm nh nj d (lk - (vPl v F fm nh nj d).1) = (vPl v F fm nh nj (d + 1)).2 := by rw [show lk - (vPl v F fm nh nj d).1 = (vPl v F fm nh nj d).2.length - (vPl v F fm nh nj d).1 by omega]; exact lvl_end d
                  rw [hle9] at hCL hw
                  have hno2 : ∀ e, e < d + 1 → ∀ i, i < (vPl v F fm nh nj e).2.length → ¬ gl v F fm (gt (vPl v F fm nh nj e).2 i).1 := ball_s.mpr ⟨hno, fun i hi q => (hCR.2.2.1 goal hgl).mpr ⟨i, hi, ((gl_iff hnh (Vd.all hnh (vPl_GL d) hV0 i hi) htg).mpr q).trans hg⟩ c20⟩
                  exact ih31 lk (d + 1) e16 e17 e18 e19 e20 e21 e24 e25 e26 pz2 hlk9 (by omega) hF2 hat2 hpz2 hCL hno2 (by omega) _ _ _ hw (lv_sub hl [1, 2, 3, 0] rfl)
                · have hlL : lk < (lvl v F fm nh nj d (lk - (vPl v F fm nh nj d).1)).length := Nat.lt_of_lt_of_le (show lk < (vPl v F fm nh nj d).2.length by omega) hlP
                  have hvx : Vd fm nh (gt (lvl v F fm nh nj d (lk - (vPl v F fm nh nj d).1)) lk).1 := Vd.all hnh hlA.1 hV0 lk hlL
                  refine lv_aload_n hC.1 hC.2.1 dX8_movesTo_65 rfl (lv_at hl 0 rfl) ?_
                  refine gf_X8_29 hC hw dX8_movesTo_66 ?_
                  refine lv_aload_n hC.1 hC.2.1 dX8_movesTo_69 rfl (lv_at hl 0 rfl) ?_
                  refine gf_X8_29 hC hw dX8_movesTo_70 ?_
                  refine gf_X8_95 hC hw dX8_movesTo_73 ?_
                  refine lv_iload_n hC.1 hC.2.1 dX8_movesTo_76 rfl (lv_at hl 2 rfl) ?_
                  refine al_X25 (v := nI (rc fm (gt (lvl v F fm nh nj d (lk - (vPl v F fm nh nj d).1)) lk).1)) hC hw (by omega) (hCL.2.1 lk hlL) dX8_movesTo_77 ?_
                  refine q_callVv (As := [.int (nI (rc fm (gt (lvl v F fm nh nj d (lk - (vPl v F fm nh nj d).1)) lk).1))]) (rest := []) (q0 := 3) hC hw hl (tX2_lineUpNext l E a (sr (sr (sr (sr (sr (sr (sr (sr (sr (sr σ 16 (e16)) 17 (e17)) 18 (e18)) 19 (e19)) 20 (e20)) 21 (e21)) 24 (e24)) 25 (e25)) 26 (e26)) 0 (upd (σ 0) 7 (nI (lvl v F fm nh nj d (lk - (vPl v F fm nh nj d).1)).length))) nh nj E0 fm 10 F (pB (eM v) (-1)) pz2 (dig 11 fm (gt (lvl v F fm nh nj d (lk - (vPl v F fm nh nj d).1)) lk).1) ((lvl v F fm nh nj d (lk - (vPl v F fm nh nj d).1)).length) (rc fm (gt (lvl v F fm nh nj d (lk - (vPl v F fm nh nj d).1)) lk).1) hN hE hS hF2 hm hm4 h8 (by omega) hF hFk hat2 hpz2 (hvx.okp hnh) (fun k hk e => by have := hvx.2 k hk; omega) (rc_lt hnh hvx) (fun k hk => by rw [dz10]; exact rc_dig hnh hvx hk) rfl (by omega) (pB_ok hW)) (q_cwV hC.2.2.2.2.1 ⟨rfl, rfl⟩ wk3_238 wk3_192 wk3_193 wk1_7 wk3_194 hd_X2_lineUpNext ⟨Nat.le_of_ble_eq_true rfl, Nat.le_of_ble_eq_true rfl⟩) rfl rfl rfl rfl rfl (Nat.le_of_ble_eq_true rfl) dX8_movesTo_78 (fun u25 H locs p23 hw => ?_)
                  obtain ⟨b16_26, b17_27, b18_28, b19_29, b20_30, b21_31, b24_32, hFu25, hatu25, huu25⟩ := p23
                  subst huu25
                  have hst_ : sr (sr (sr (sr (sr (sr (sr (sr (sr (sr (sr (sr (sr (sr (sr (sr (sr (sr (sr (sr σ 16 (e16)) 17 (e17)) 18 (e18)) 19 (e19)) 20 (e20)) 21 (e21)) 24 (e24)) 25 (e25)) 26 (e26)) 0 (upd (σ 0) 7 (nI (lvl v F fm nh nj d (lk - (vPl v F fm nh nj d).1)).length))) 16 b16_26) 17 b17_27) 18 b18_28) 19 b19_29) 20 b20_30) 21 b21_31) 24 b24_32) 25 ((lnK (gC E0 F fm (pB (eM v) (-1)) nh nj (dig 11 fm (gt (lvl v F fm nh nj d (lk - (vPl v F fm nh nj d).1)) lk).1)) (aC 10 (dig 11 fm (gt (lvl v F fm nh nj d (lk - (vPl v F fm nh nj d).1)) lk).1)) (rc fm (gt (lvl v F fm nh nj d (lk - (vPl v F fm nh nj d).1)) lk).1) nh ((sr (sr (sr (sr (sr (sr (sr (sr (sr (sr σ 16 (e16)) 17 (e17)) 18 (e18)) 19 (e19)) 20 (e20)) 21 (e21)) 24 (e24)) 25 (e25)) 26 (e26)) 0 (upd (σ 0) 7 (nI (lvl v F fm nh nj d (lk - (vPl v F fm nh nj d).1)).length))) 25, (sr (sr (sr (sr (sr (sr (sr (sr (sr (sr σ 16 (e16)) 17 (e17)) 18 (e18)) 19 (e19)) 20 (e20)) 21 (e21)) 24 (e24)) 25 (e25)) 26 (e26)) 0 (upd (σ 0) 7 (nI (lvl v F fm nh nj d (lk - (vPl v F fm nh nj d).1)).length))) 26, ((lvl v F fm nh nj d (lk - (vPl v F fm nh nj d).1)).length)) fm).1)) 26 ((lnK (gC E0 F fm (pB (eM v) (-1)) nh nj (dig 11 fm (gt (lvl v F fm nh nj d (lk - (vPl v F fm nh nj d).1)) lk).1)) (aC 10 (dig 11 fm (gt (lvl v F fm nh nj d (lk - (vPl v F fm nh nj d).1)) lk).1)) (rc fm (gt (lvl v F fm nh nj d (lk - (vPl v F fm nh nj d).1)) lk).1) nh ((sr (sr (sr (sr (sr (sr (sr (sr (sr (sr σ 16 (e16)) 17 (e17)) 18 (e18)) 19 (e19)) 20 (e20)) 21 (e21)) 24 (e24)) 25 (e25)) 26 (e26)) 0 (upd (σ 0) 7 (nI (lvl v F fm nh nj d (lk - (vPl v F fm nh nj d).1)).length))) 25, (sr (sr (sr (sr (sr (sr (sr (sr (sr (sr σ 16 (e16)) 17 (e17)) 18 (e18)) 19 (e19)) 20 (e20)) 21 (e21)) 24 (e24)) 25 (e25)) 26 (e26)) 0 (upd (σ 0) 7 (nI (lvl v F fm nh nj d (lk - (vPl v F fm nh nj d).1)).length))) 26, ((lvl v F fm nh nj d (lk - (vPl v F fm nh nj d).1)).length)) fm).2.1)) 0 (upd ((sr (sr (sr (sr (sr (sr (sr (sr (sr (sr σ 16 (e16)) 17 (e17)) 18 (e18)) 19 (e19)) 20 (e20)) 21 (e21)) 24 (e24)) 25 (e25)) 26 (e26)) 0 (upd (σ 0) 7 (nI (lvl v F fm nh nj d (lk - (vPl v F fm nh nj d).1)).length))) 0) 7 (nI ((lnK (gC E0 F fm (pB (eM v) (-1)) nh nj (dig 11 fm (gt (lvl v F fm nh nj d (lk - (vPl v F fm nh nj d).1)) lk).1)) (aC 10 (dig 11 fm (gt (lvl v F fm nh nj d (lk - (vPl v F fm nh nj d).1)) lk).1)) (rc fm (gt (lvl v F fm nh nj d (lk - (vPl v F fm nh nj d).1)) lk).1) nh ((sr (sr (sr (sr (sr (sr (sr (sr (sr (sr σ 16 (e16)) 17 (e17)) 18 (e18)) 19 (e19)) 20 (e20)) 21 (e21)) 24 (e24)) 25 (e25)) 26 (e26)) 0 (upd (σ 0) 7 (nI (lvl v F fm nh nj d (lk - (vPl v F fm nh nj d).1)).length))) 25, (sr (sr (sr (sr (sr (sr (sr (sr (sr (sr σ 16 (e16)) 17 (e17)) 18 (e18)) 19 (e19)) 20 (e20)) 21 (e21)) 24 (e24)) 25 (e25)) 26 (e26)) 0 (upd (σ 0) 7 (nI (lvl v F fm nh nj d (lk - (vPl v F fm nh nj d).1)).length))) 26, ((lvl v F fm nh nj d (lk - (vPl v F fm nh nj d).1)).length)) fm).2.2))) = sr (sr (sr (sr (sr (sr (sr (sr (sr (sr σ 16 (b16_26)) 17 (b17_27)) 18 (b18_28)) 19 (b19_29)) 20 (b20_30)) 21 (b21_31)) 24 (b24_32)) 25 ((lnK (gC E0 F fm (pB (eM v) (-1)) nh nj (dig 11 fm (gt (lvl v F fm nh nj d (lk - (vPl v F fm nh nj d).1)) lk).1)) (aC 10 (dig 11 fm (gt (lvl v F fm nh nj d (lk - (vPl v F fm nh nj d).1)) lk).1)) (rc fm (gt (lvl v F fm nh nj d (lk - (vPl v F fm nh nj d).1)) lk).1) nh (e25, e26, ((lvl v F fm nh nj d (lk - (vPl v F fm nh nj d).1)).length)) fm).1)) 26 ((lnK (gC E0 F fm (pB (eM v) (-1)) nh nj (dig 11 fm (gt (lvl v F fm nh nj d (lk - (vPl v F fm nh nj d).1)) lk).1)) (aC 10 (dig 11 fm (gt (lvl v F fm nh nj d (lk - (vPl v F fm nh nj d).1)) lk).1)) (rc fm (gt (lvl v F fm nh nj d (lk - (vPl v F fm nh nj d).1)) lk).1) nh (e25, e26, ((lvl v F fm nh nj d (lk - (vPl v F fm nh nj d).1)).length)) fm).2.1)) 0 (upd (σ 0) 7 (nI (lnK (gC E0 F fm (pB (eM v) (-1)) nh nj (dig 11 fm (gt (lvl v F fm nh nj d (lk - (vPl v F fm nh nj d).1)) lk).1)) (aC 10 (dig 11 fm (gt (lvl v F fm nh nj d (lk - (vPl v F fm nh nj d).1)) lk).1)) (rc fm (gt (lvl v F fm nh nj d (lk - (vPl v F fm nh nj d).1)) lk).1) nh (e25, e26, ((lvl v F fm nh nj d (lk - (vPl v F fm nh nj d).1)).length)) fm).2.2)) := by
                    funext j_ x_
                    by_cases e0 : j_ = 0
                    · subst e0
                      by_cases y7 : x_ = 7
                      · subst y7; rfl
                      · simp [sr, upd, y7]
                    · by_cases e16 : j_ = 16
                      · subst e16; rfl
                      · by_cases e17 : j_ = 17
                        · subst e17; rfl
                        · by_cases e18 : j_ = 18
                          · subst e18; rfl
                          · by_cases e19 : j_ = 19
                            · subst e19; rfl
                            · by_cases e20 : j_ = 20
                              · subst e20; rfl
                              · by_cases e21 : j_ = 21
                                · subst e21; rfl
                                · by_cases e24 : j_ = 24
                                  · subst e24; rfl
                                  · by_cases e25 : j_ = 25
                                    · subst e25; rfl
                                    · by_cases e26 : j_ = 26
                                      · subst e26; rfl
                                      · simp only [sr, e0, e16, e17, e18, e19, e20, e21, e24, e25, e26, if_false]
                  rw [hst_] at hw
                  refine lv_iinc (v := nI (lk + 1)) (lv' := [(2, .int (nI (lk + 1))), (0, .ref (a 69)), (1, .int (nI goal)), (3, .int (nI d)), (4, .int (nI ((vPl v F fm nh nj d).2.length)))]) hC.1 hC.2.1 dX8_movesTo_81 hl (k := 2) rfl (nI_add _ _) (by decide) rfl (fun ls hl => ?_)
                  refine lv_goto (tgt := 59) hC.1 hC.2.1 dX8_movesTo_84 (by decide) ?_
                  have hCn := CR.goK hA hW hFk hm4 hV0 hlA.1 hCL hlL rfl (Nat.le_refl fm)
                  have hLe : bfK (gPl v F fm nh nj) (cPl fm) (bPl F) nh (lvl v F fm nh nj d (lk - (vPl v F fm nh nj d).1)) lk (gt (lvl v F fm nh nj d (lk - (vPl v F fm nh nj d).1)) lk).1 fm = lvl v F fm nh nj d (lk + 1 - (vPl v F fm nh nj d).1) := by rw [show lk + 1 - (vPl v F fm nh nj d).1 = (lk - (vPl v F fm nh nj d).1) + 1 by omega, lvl_s, show (vPl v F fm nh nj d).1 + (lk - (vPl v F fm nh nj d).1) = lk by omega]
                  rw [hLe] at hCn
                  rw [hCn.1] at hw
                  exact ih59 (lk + 1) b16_26 b17_27 b18_28 b19_29 b20_30 b21_31 b24_32 ((lnK (gC E0 F fm (pB (eM v) (-1)) nh nj (dig 11 fm (gt (lvl v F fm nh nj d (lk - (vPl v F fm nh nj d).1)) lk).1)) (aC 10 (dig 11 fm (gt (lvl v F fm nh nj d (lk - (vPl v F fm nh nj d).1)) lk).1)) (rc fm (gt (lvl v F fm nh nj d (lk - (vPl v F fm nh nj d).1)) lk).1) nh (e25, e26, ((lvl v F fm nh nj d (lk - (vPl v F fm nh nj d).1)).length)) fm).1) ((lnK (gC E0 F fm (pB (eM v) (-1)) nh nj (dig 11 fm (gt (lvl v F fm nh nj d (lk - (vPl v F fm nh nj d).1)) lk).1)) (aC 10 (dig 11 fm (gt (lvl v F fm nh nj d (lk - (vPl v F fm nh nj d).1)) lk).1)) (rc fm (gt (lvl v F fm nh nj d (lk - (vPl v F fm nh nj d).1)) lk).1) nh (e25, e26, ((lvl v F fm nh nj d (lk - (vPl v F fm nh nj d).1)).length)) fm).2.1) (dig 11 fm (gt (lvl v F fm nh nj d (lk - (vPl v F fm nh nj d).1)) lk).1) (by omega) (by omega) hFu25 hatu25 (hvx.okp hnh) ⟨rfl, hCn.2⟩ (by omega) _ _ _ hw (lv_sub hl [1, 2, 0, 3, 4] rfl)
            have hl00 : lvl v F fm nh nj d ((vPl v F fm nh nj d).1 - (vPl v F fm nh nj d).1) = (vPl v F fm nh nj d).2 := by rw [Nat.sub_self]; rfl
            rw [← hl00] at hw
            exact L59_20 _ ((vPl v F fm nh nj d).1) d16 d17 d18 d19 d20 d21 d24 d25 d26 pz (Nat.le_refl _) hvle hF0 hat0 hpz (by rw [hl00]; exact hCR) (Nat.lt_succ_self _) _ _ _ hw (lv_sub hl [1, 2, 3, 4, 0] rfl)
          · refine lv_iload_n hC.1 hC.2.1 dX8_movesTo_48 rfl (lv_at hl 3 rfl) ?_
            refine hret _ _ _ _ _ _ hw ?_ rfl dX8_movesTo_49
            obtain ⟨i9, i91, i92⟩ := (hCR.2.2.1 goal hgl).mp c20
            have hgo := (gl_iff hnh (Vd.all hnh (vPl_GL d) hV0 i9 i91) htg).mp (i92.trans hg.symm)
            exact ⟨d16, d17, d18, d19, d20, d21, d24, d25, d26, nI (vPl v F fm nh nj d).2.length, Or.inl ⟨d, i9, by omega, lev_at i91 hgo hno, i91, hgo, i92, rfl, hCR⟩, rfl⟩
    have hst_ : sr (sr (sr σ 25 (upd (σ 25) 0 (nI (rc fm (enc 11 (dg v F) fm))))) 26 (upd (fil (10 ^ fm) (-1) (σ 26)) (rc fm (enc 11 (dg v F) fm)) (nI (rc fm (enc 11 (dg v F) fm))))) 0 (upd (σ 0) 7 (nI 1)) = sr (sr (sr (sr (sr (sr (sr (sr (sr (sr σ 16 (σ 16)) 17 (σ 17)) 18 (σ 18)) 19 (σ 19)) 20 (σ 20)) 21 (σ 21)) 24 (σ 24)) 25 (upd (σ 25) 0 (nI (rc fm (enc 11 (dg v F) fm))))) 26 (upd (fil (10 ^ fm) (-1) (σ 26)) (rc fm (enc 11 (dg v F) fm)) (nI (rc fm (enc 11 (dg v F) fm))))) 0 (upd (σ 0) 7 (nI 1)) := by
      funext j_ x_
      by_cases e0 : j_ = 0
      · subst e0
        by_cases y7 : x_ = 7
        · subst y7; rfl
        · simp [sr, upd, y7]
      · by_cases e16 : j_ = 16
        · subst e16; rfl
        · by_cases e17 : j_ = 17
          · subst e17; rfl
          · by_cases e18 : j_ = 18
            · subst e18; rfl
            · by_cases e19 : j_ = 19
              · subst e19; rfl
              · by_cases e20 : j_ = 20
                · subst e20; rfl
                · by_cases e21 : j_ = 21
                  · subst e21; rfl
                  · by_cases e24 : j_ = 24
                    · subst e24; rfl
                    · by_cases e25 : j_ = 25
                      · subst e25; rfl
                      · by_cases e26 : j_ = 26
                        · subst e26; rfl
                        · simp only [sr, e0, e16, e17, e18, e19, e20, e21, e24, e25, e26, if_false]
    rw [hst_] at hw
    exact L31_10 _ 0 0 (σ 16) (σ 17) (σ 18) (σ 19) (σ 20) (σ 21) (σ 24) (upd (σ 25) 0 (nI (rc fm (enc 11 (dg v F) fm)))) (upd (fil (10 ^ fm) (-1) (σ 26)) (rc fm (enc 11 (dg v F) fm)) (nI (rc fm (enc 11 (dg v F) fm)))) (dg v F) rfl (by omega) hFS hat (fun k hk => Or.inr ⟨hdg1 k hk, by have := hdg1 k hk; omega⟩) (CR.start hnh hm4 hV0) (fun e q => absurd q (Nat.not_lt_zero _)) (Nat.lt_succ_self _) _ _ _ hw (lv_sub hl [2, 3, 1, 0] rfl)
  · exact absurd ⟨nI_pos (by omega), (nI_ltI (b := 10000) (by omega) (by decide)).mpr (by omega)⟩ c4
