theorem Fea.ag {E0 E1 : St} {F : Nat → Nat} {fm nh nj n : Nat} {P0 : Nat → Int32} {p : Nat → Nat} (hE : agE E0 E1 nh nj) (hn : nh ≤ 10) (h0 : okP P0 nh nj) (hF : Fok F fm nj) (hm : n ≤ fm) (h : Fea E0 F fm P0 nh nj p n) : Fea E1 F fm P0 nh nj p n := fun k hk => by
  refine ⟨(h k hk).1, (fitC_ag hE hn h0 hF (fun i _ => ?_) (by omega) (h k hk).1).mp (h k hk).2⟩
  by_cases z : i < k
  · show (if i < k then p i else 10) = 10 ∨ _
    rw [if_pos z]; exact Or.inr (h i (by omega)).1
  · exact Or.inl (if_neg z)
def cutd (d : Nat → Nat) (k : Nat) : Nat → Nat := fun i => if i < k then 10 else d i
theorem cutd_s {d : Nat → Nat} {k : Nat} : cutd d (k + 1) = pu (cutd d k) k 10 := funext fun i => by
  show (if i < k + 1 then 10 else d i) = (if i = k then 10 else (if i < k then 10 else d i))
  by_cases e : i = k
  · subst e; rw [if_pos (by omega), if_pos rfl]
  · by_cases z : i < k
    · rw [if_pos (by omega), if_neg e, if_pos z]
    · rw [if_neg (by omega), if_neg e, if_neg z]
theorem cutd_TL {F : Nat → Nat} {d : Nat → Nat} {P0 : Nat → Int32} {fm nj k h : Nat} (hF : Fok F fm nj) (hk : k < fm) (hd : d k = h) (hh : h < 10) : TL (pP F P0 (cutd d k) fm) (pP F P0 (cutd d (k + 1)) fm) (F k) h (-1) :=
  Or.inr ⟨rfl, (pP_at hF.2 hk).trans (by rw [show cutd d k k = d k from if_neg (Nat.lt_irrefl _), hd]; exact if_neg (by omega)), funext fun j => by rw [cutd_s, pP_pu hF hk j]; rfl⟩
theorem fwc2_iff {σ : St} {v : Nat → Int32} {nj k : Nat} (hX : JX σ v nj) (hk : k < nj) : (σ 11 k = 1 ∧ ¬ σ 5 k = 3) ↔ fwc2 v k = true := by
  unfold fwc2
  rw [decide_eq_true_iff, (hX k hk).1, (hX k hk).2.2.1]
theorem mem2_app {l : List Nat} {j : Nat} {d : Nat → Int32} (hm : ∀ i, i < l.length → i < 5 → d i = nI (gd l i)) : ∀ i, i < (l ++ [j]).length → i < 5 → upd d l.length (nI j) i = nI (gd (l ++ [j]) i) := fun i hi h5 => by
  rw [List.length_append] at hi
  simp only [List.length_singleton] at hi
  by_cases e : i = l.length
  · rw [gd_r e, e, ups]
  · rw [gd_l (by omega), upn e]; exact hm i (by omega) h5
theorem mem2_app5 {l : List Nat} {j : Nat} {d : Nat → Int32} (h5 : 5 ≤ l.length) (hm : ∀ i, i < l.length → i < 5 → d i = nI (gd l i)) : ∀ i, i < (l ++ [j]).length → i < 5 → d i = nI (gd (l ++ [j]) i) := fun i hi hi5 => by
  rw [gd_l (by omega)]; exact hm i (by omega) hi5
theorem min5 {n : Nat} (h : n < 2 ^ 31) : (if (nI 5) < (nI n) then (nI 5) else (nI n)) = nI (if 5 < n then 5 else n) := by
  by_cases z : 5 < n
  · rw [if_pos z, if_pos ((nI_ltI (a := 5) (by decide) h).mpr z)]
  · rw [if_neg z, if_neg (fun q => z ((nI_ltI (a := 5) (by decide) h).mp q))]
set_option maxHeartbeats 4000000 in
set_option maxRecDepth 100000 in
theorem tX9_gather (l : Launch) (E : EV) (a : Nat → Nat) (σ : St) (nh : Nat) (nj : Nat) (v : Nat → Int32) (hN : cN2 σ nh nj) (h10 : nh ≤ 10) (h24 : nj ≤ 24) (hX : JX σ v nj) : MI l E (XW E a) yX9_gather (Cond.code yX9_gather cX9_gather 3 (some .int)) ({ frames := 1, cells := 0, slots := 0, locals := 24 }) [.ref (a 70)] σ (fun r_ u_ => r_ = nI (qL (fwc2 v) nj).length ∧ ∃ b29 : Nat → Int32, (∀ i, i < (qL (fwc2 v) nj).length → i < 5 → b29 i = nI (gd (qL (fwc2 v) nj) i)) ∧ u_ = sr (sr σ 29 b29) 0 (upd (σ 0) 10 (nI (if 5 < (qL (fwc2 v) nj).length then 5 else (qL (fwc2 v) nj).length)))) := by
  refine MI.mk (by decide +kernel) (Nat.le_of_ble_eq_true rfl) ?_
  intro p e s m args below meth c ls A Q hret hC hw hl
  have hC : Cxt E p s m args meth c cX9_gather 3 (some .int) RX9 A := hC
  have hl : lv_has ls 3 [(0, .ref (a 70))] := hl
  refine lv_iconst (v := nI 0) hC.1 hC.2.1 dX9_gather_0 (by decide) ?_
  refine lv_istore_n (lv' := [(1, .int (nI 0)), (0, .ref (a 70))]) hC.1 hC.2.1 dX9_gather_1 rfl hl (by decide) rfl (fun ls hl => ?_)
  refine lv_iconst (v := nI 0) hC.1 hC.2.1 dX9_gather_2 (by decide) ?_
  refine lv_istore_n (lv' := [(2, .int (nI 0)), (1, .int (nI 0)), (0, .ref (a 70))]) hC.1 hC.2.1 dX9_gather_3 rfl hl (by decide) rfl (fun ls hl => ?_)
  have L4_0 : ∀ (n : Nat), ∀ (k : Nat), ∀ (mn : Nat), ∀ (d29 : Nat → Int32), (mn = ((qL (fwc2 v) k).length)) → (k ≤ nj) → (∀ i, i < (qL (fwc2 v) k).length → i < 5 → d29 i = nI (gd (qL (fwc2 v) k) i)) → (nj - k) < n → ∀ (H : Heap) (locs : List Loc) (ls : Array Slot), Wst E (XW E a) (sr σ 29 (d29)) A s.heap H locs → lv_has ls 3 [(0, .ref (a 70)), (1, .int (nI mn)), (2, .int (nI k))] → W p l e ({ frames := 1, cells := 0, slots := 0, locals := 24 }) s m args below meth c H locs 0 0 Q (F0 m 4 ls []) := by
    intro n
    induction n with
    | zero => intro k mn d29 q_mn hk hmem hn; exact absurd hn (Nat.not_lt_zero _)
    | succ n ih4 =>
      intro k mn d29 q_mn hk hmem hn4 H locs ls hw hl
      subst q_mn
      have hqll := qL_len (c := fwc2 v) (n := k)
      refine lv_iload_n hC.1 hC.2.1 dX9_gather_4 rfl (lv_at hl 2 rfl) ?_
      refine lv_aload_n hC.1 hC.2.1 dX9_gather_5 rfl (lv_at hl 0 rfl) ?_
      refine gf_X9_25 hC hw dX9_gather_6 ?_
      refine gf_X9_26 (v := nI nj) hC hw hN.2 dX9_gather_9 ?_
      refine q_cmpge hC 47 (cNle (by omega) (by omega)) dX9_gather_12 (by decide) (fun (c2 : nj ≤ k) => ?_) (fun (c2 : k < nj) => ?_)
      · refine lv_aload_n hC.1 hC.2.1 dX9_gather_47 rfl (lv_at hl 0 rfl) ?_
        refine lv_iload_n hC.1 hC.2.1 dX9_gather_48 rfl (lv_at hl 1 rfl) ?_
        refine lv_iconst (v := nI 5) hC.1 hC.2.1 dX9_gather_49 (by decide) ?_
        refine q_min (x := nI ((qL (fwc2 v) k).length)) (y := nI 5) hC hl ⟨Nat.le_of_ble_eq_true rfl, Nat.le_of_ble_eq_true rfl⟩ wk4_22 dX9_gather_50 ?_
        refine pf_X9_42 hC hw dX9_gather_53 (fun H locs hw => ?_)
        have hw : Wst E (XW E a) (sr (sr σ 29 (d29)) 0 (upd (σ 0) 10 ((if (nI 5) < (nI ((qL (fwc2 v) k).length)) then (nI 5) else (nI ((qL (fwc2 v) k).length)))))) A s.heap H locs := hw
        refine lv_iload_n hC.1 hC.2.1 dX9_gather_56 rfl (lv_at hl 1 rfl) ?_
        refine hret _ _ _ _ _ _ hw ?_ rfl dX9_gather_57
        have hk9 : k = nj := by omega
        rw [hk9] at hmem hqll ⊢
        exact ⟨rfl, d29, hmem, by rw [min5 (by omega)]⟩
      · refine lv_aload_n hC.1 hC.2.1 dX9_gather_15 rfl (lv_at hl 0 rfl) ?_
        refine gf_X9_25 hC hw dX9_gather_16 ?_
        refine lv_iload_n hC.1 hC.2.1 dX9_gather_19 rfl (lv_at hl 2 rfl) ?_
        refine q_callVp (As := [.int (nI k)]) (rest := []) (q0 := 7) hC hw hl (tX6_canLeave l E a (sr σ 29 (d29)) k (by first | assumption | omega)) (q_cwV hC.2.2.2.2.1 ⟨rfl, rfl⟩ wk4_21 wk3_60 wk3_61 wk1_3 wk3_62 hd_X6_canLeave ⟨Nat.le_of_ble_eq_true rfl, Nat.le_of_ble_eq_true rfl⟩) rfl rfl rfl rfl rfl (Nat.le_of_ble_eq_true rfl) dX9_gather_20 (fun H locs hw => ?_)
        refine q_ifeq hC 41 cB dX9_gather_23 (by decide) (fun (c6 : ¬ ((σ 11) k = 1 ∧ ¬ (σ 5) k = 3)) => ?_) (fun (c6 : (σ 11) k = 1 ∧ ¬ (σ 5) k = 3) => ?_)
        · refine lv_iinc (v := nI (k + 1)) (lv' := [(2, .int (nI (k + 1))), (0, .ref (a 70)), (1, .int (nI ((qL (fwc2 v) k).length)))]) hC.1 hC.2.1 dX9_gather_41 hl (k := 2) rfl (nI_add _ _) (by decide) rfl (fun ls hl => ?_)
          refine lv_goto (tgt := 4) hC.1 hC.2.1 dX9_gather_44 (by decide) ?_
          have hl9 : qL (fwc2 v) (k + 1) = (qL (fwc2 v) k) := by rw [qL, if_neg (fun q => c6 ((fwc2_iff hX (by omega)).mpr q))]
          have hmn9 : (qL (fwc2 v) k).length = (qL (fwc2 v) (k + 1)).length := by rw [hl9]
          exact ih4 (k + 1) ((qL (fwc2 v) k).length) d29 hmn9 (by omega) (by rw [hl9]; exact hmem) (by omega) _ _ _ hw (lv_sub hl [1, 2, 0] rfl)
        · refine lv_iload_n hC.1 hC.2.1 dX9_gather_26 rfl (lv_at hl 1 rfl) ?_
          refine lv_iconst (v := nI 5) hC.1 hC.2.1 dX9_gather_27 (by decide) ?_
          refine q_cmpge hC 38 (cNle (by omega) (by omega)) dX9_gather_28 (by decide) (fun (c7 : 5 ≤ ((qL (fwc2 v) k).length)) => ?_) (fun (c7 : ((qL (fwc2 v) k).length) < 5) => ?_)
          · refine lv_iinc (v := nI ((qL (fwc2 v) k).length + 1)) (lv' := [(1, .int (nI ((qL (fwc2 v) k).length + 1))), (0, .ref (a 70)), (2, .int (nI k))]) hC.1 hC.2.1 dX9_gather_38 hl (k := 1) rfl (nI_add _ _) (by decide) rfl (fun ls hl => ?_)
            refine lv_iinc (v := nI (k + 1)) (lv' := [(2, .int (nI (k + 1))), (1, .int (nI ((qL (fwc2 v) k).length + 1))), (0, .ref (a 70))]) hC.1 hC.2.1 dX9_gather_41 hl (k := 2) rfl (nI_add _ _) (by decide) rfl (fun ls hl => ?_)
            refine lv_goto (tgt := 4) hC.1 hC.2.1 dX9_gather_44 (by decide) ?_
            have hl9 : qL (fwc2 v) (k + 1) = (qL (fwc2 v) k) ++ [k] := by rw [qL, if_pos ((fwc2_iff hX (by omega)).mp c6)]
            have hl8 : (qL (fwc2 v) (k + 1)).length = (qL (fwc2 v) k).length + 1 := by rw [hl9, List.length_append]; rfl
            have hmn9 : (qL (fwc2 v) k).length + 1 = (qL (fwc2 v) (k + 1)).length := hl8.symm
            exact ih4 (k + 1) ((qL (fwc2 v) k).length + 1) d29 hmn9 (by omega) (by rw [hl9]; exact mem2_app5 c7 hmem) (by omega) _ _ _ hw (lv_sub hl [2, 1, 0] rfl)
          · refine lv_aload_n hC.1 hC.2.1 dX9_gather_31 rfl (lv_at hl 0 rfl) ?_
            refine gf_X9_9 hC hw dX9_gather_32 ?_
            refine lv_iload_n hC.1 hC.2.1 dX9_gather_35 rfl (lv_at hl 1 rfl) ?_
            refine lv_iload_n hC.1 hC.2.1 dX9_gather_36 rfl (lv_at hl 2 rfl) ?_
            refine as_X29 hC hw (by omega) dX9_gather_37 (fun H locs hw => ?_)
            have hw : Wst E (XW E a) (sr (sr σ 29 (d29)) 29 (upd (d29) ((qL (fwc2 v) k).length) (nI k))) A s.heap H locs := hw
            have hst_ : sr (sr σ 29 (d29)) 29 (upd (d29) ((qL (fwc2 v) k).length) (nI k)) = sr σ 29 (upd (d29) ((qL (fwc2 v) k).length) (nI k)) := by
              funext j_ x_
              by_cases e0 : j_ = 0
              · subst e0
                rfl
              · by_cases e29 : j_ = 29
                · subst e29; rfl
                · simp only [sr, e0, e29, if_false]
            rw [hst_] at hw
            refine lv_iinc (v := nI ((qL (fwc2 v) k).length + 1)) (lv' := [(1, .int (nI ((qL (fwc2 v) k).length + 1))), (0, .ref (a 70)), (2, .int (nI k))]) hC.1 hC.2.1 dX9_gather_38 hl (k := 1) rfl (nI_add _ _) (by decide) rfl (fun ls hl => ?_)
            refine lv_iinc (v := nI (k + 1)) (lv' := [(2, .int (nI (k + 1))), (1, .int (nI ((qL (fwc2 v) k).length + 1))), (0, .ref (a 70))]) hC.1 hC.2.1 dX9_gather_41 hl (k := 2) rfl (nI_add _ _) (by decide) rfl (fun ls hl => ?_)
            refine lv_goto (tgt := 4) hC.1 hC.2.1 dX9_gather_44 (by decide) ?_
            have hl9 : qL (fwc2 v) (k + 1) = (qL (fwc2 v) k) ++ [k] := by rw [qL, if_pos ((fwc2_iff hX (by omega)).mp c6)]
            have hl8 : (qL (fwc2 v) (k + 1)).length = (qL (fwc2 v) k).length + 1 := by rw [hl9, List.length_append]; rfl
            have hmn9 : (qL (fwc2 v) k).length + 1 = (qL (fwc2 v) (k + 1)).length := hl8.symm
            exact ih4 (k + 1) ((qL (fwc2 v) k).length + 1) (upd (d29) ((qL (fwc2 v) k).length) (nI k)) hmn9 (by omega) (by rw [hl9]; exact mem2_app hmem) (by omega) _ _ _ hw (lv_sub hl [2, 1, 0] rfl)
  have hw : Wst E (XW E a) (sr σ 29 (σ 29)) A s.heap s.heap [] := by rw [sr_id]; exact hw
  exact L4_0 _ 0 0 (σ 29) rfl (Nat.zero_le _) (fun i q => absurd q (Nat.not_lt_zero _)) (Nat.lt_succ_self _) _ _ _ hw (lv_sub hl [2, 1, 0] rfl)
set_option maxHeartbeats 4000000 in
set_option maxRecDepth 100000 in
theorem tX9_fewestHosts (l : Launch) (E : EV) (a : Nat → Nat) (σ : St) (nh : Nat) (nj : Nat) (E0 : St) (v : Nat → Int32) (hN : cN2 σ nh nj) (hE : aE σ E0) (hS : cS E0 nh nj) (hFS : FSr E0 (pB (eM v) (-1)) nh nj (σ 16) (σ 17) (σ 18) (σ 19) (σ 20) (σ 21)) (hX : JX σ v nj) (hA : agE E0 (eM v) nh nj) (hW : mF v nh nj) (hm : σ 0 10 = nI (qL (fwc2 v) nj).length) (hm5 : (qL (fwc2 v) nj).length ≤ 5) (hmem : ∀ i, i < (qL (fwc2 v) nj).length → σ 29 i = nI (gd (qL (fwc2 v) nj) i)) : MI l E (XW E a) yX9_fewestHosts (Cond.code yX9_fewestHosts cX9_fewestHosts 2 (some .int)) ({ frames := 9, cells := 0, slots := 0, locals := 223 }) [.ref (a 70)] σ (fun r_ u_ => ((∃ q, FeaV v nh nj q ∧ r_ = cnC q (fwN2 v nj) ∧ ∀ q9, FeaV v nh nj q9 → cnC q (fwN2 v nj) ≤ cnC q9 (fwN2 v nj)) ∨ ((∀ q, ¬ FeaV v nh nj q) ∧ r_ = -3)) ∧ ∃ (b16 b17 b18 b19 b20 b21 : Nat → Int32) (z11 : Int32), FSr E0 (pB (eM v) (-1)) nh nj b16 b17 b18 b19 b20 b21 ∧ u_ = sr (sr (sr (sr (sr (sr (sr σ 16 b16) 17 b17) 18 b18) 19 b19) 20 b20) 21 b21) 0 (upd (σ 0) 11 z11)) := by
  refine MI.mk (by decide +kernel) (Nat.le_of_ble_eq_true rfl) ?_
  intro p e s m args below meth c ls A Q hret hC hw hl
  have hC : Cxt E p s m args meth c cX9_fewestHosts 2 (some .int) RX9 A := hC
  have hl : lv_has ls 2 [(0, .ref (a 70))] := hl
  have hnh := hS.1
  have hnj := hS.2.1
  have hs1 : ∀ i, i < (qL (fwc2 v) nj).length → v (258 + (gd (qL (fwc2 v) nj)) i) = 1 := fun i hi => (of_decide_eq_true (qL_at (c := fwc2 v) (n := nj) hi).2).1
  have hdgl := dg_lt (fm := (qL (fwc2 v) nj).length) hW qL_ok hs1
  refine lv_iconst (v := nI 0) hC.1 hC.2.1 dX9_fewestHosts_0 (by decide) ?_
  refine lv_istore_n (lv' := [(1, .int (nI 0)), (0, .ref (a 70))]) hC.1 hC.2.1 dX9_fewestHosts_1 rfl hl (by decide) rfl (fun ls hl => ?_)
  have L2_0 : ∀ (n : Nat), ∀ (k : Nat), ∀ (d16 : Nat → Int32), ∀ (d17 : Nat → Int32), ∀ (d18 : Nat → Int32), ∀ (d19 : Nat → Int32), ∀ (d20 : Nat → Int32), ∀ (d21 : Nat → Int32), (k ≤ (qL (fwc2 v) nj).length) → (FSr E0 (pP (gd (qL (fwc2 v) nj)) (pB (eM v) (-1)) (cutd (dg v (gd (qL (fwc2 v) nj))) k) (qL (fwc2 v) nj).length) nh nj d16 d17 d18 d19 d20 d21) → ((qL (fwc2 v) nj).length - k) < n → ∀ (H : Heap) (locs : List Loc) (ls : Array Slot), Wst E (XW E a) (sr (sr (sr (sr (sr (sr σ 16 (d16)) 17 (d17)) 18 (d18)) 19 (d19)) 20 (d20)) 21 (d21)) A s.heap H locs → lv_has ls 2 [(0, .ref (a 70)), (1, .int (nI k))] → W p l e ({ frames := 9, cells := 0, slots := 0, locals := 223 }) s m args below meth c H locs 0 0 Q (F0 m 2 ls []) := by
    intro n
    induction n with
    | zero => intro k d16 d17 d18 d19 d20 d21 hk hF0 hn; exact absurd hn (Nat.not_lt_zero _)
    | succ n ih2 =>
      intro k d16 d17 d18 d19 d20 d21 hk hF0 hn2 H locs ls hw hl
      refine lv_iload_n hC.1 hC.2.1 dX9_fewestHosts_2 rfl (lv_at hl 1 rfl) ?_
      refine lv_aload_n hC.1 hC.2.1 dX9_fewestHosts_3 rfl (lv_at hl 0 rfl) ?_
      refine gf_X9_42 (v := nI ((qL (fwc2 v) nj).length)) hC hw hm dX9_fewestHosts_4 ?_
      refine q_cmpge hC 44 (cNle (by omega) (by omega)) dX9_fewestHosts_7 (by decide) (fun (c2 : ((qL (fwc2 v) nj).length) ≤ k) => ?_) (fun (c2 : k < ((qL (fwc2 v) nj).length)) => ?_)
      · refine lv_aload_n hC.1 hC.2.1 dX9_fewestHosts_44 rfl (lv_at hl 0 rfl) ?_
        refine lv_bipush (v := nI 11) hC.1 hC.2.1 dX9_fewestHosts_45 (by decide) ?_
        refine pf_X9_52 hC hw dX9_fewestHosts_47 (fun H locs hw => ?_)
        have hw : Wst E (XW E a) (sr (sr (sr (sr (sr (sr (sr σ 16 (d16)) 17 (d17)) 18 (d18)) 19 (d19)) 20 (d20)) 21 (d21)) 0 (upd (σ 0) 11 (nI 11))) A s.heap H locs := hw
        refine lv_aload_n hC.1 hC.2.1 dX9_fewestHosts_50 rfl (lv_at hl 0 rfl) ?_
        refine lv_iconst (v := nI 0) hC.1 hC.2.1 dX9_fewestHosts_51 (by decide) ?_
        refine lv_iconst (v := nI 0) hC.1 hC.2.1 dX9_fewestHosts_52 (by decide) ?_
        have hk9 : k = (qL (fwc2 v) nj).length := by omega
        rw [hk9] at hF0
        refine q_callSv (As := [.ref (a 70), .int (nI 0), .int (nI 0)]) (rest := []) hC hw hl (tX9_placeFrom_k0 l E a (sr (sr (sr (sr (sr (sr (sr σ 16 (d16)) 17 (d17)) 18 (d18)) 19 (d19)) 20 (d20)) 21 (d21)) 0 (upd (σ 0) 11 (nI 11))) nh nj E0 ((qL (fwc2 v) nj).length) (gd (qL (fwc2 v) nj)) (pB (eM v) (-1)) (fun _ => 0) 11 0 hN hE hS (FSr.cg (fun j _ => by rw [pP_congr (fun i hi => show cutd _ _ i = cut (fun _ => 0) 0 i from (if_pos hi).trans (if_neg (Nat.not_lt_zero _)).symm)]) hF0) hm hm5 (Nat.zero_le _) (fun i hi => ⟨hmem i hi, (qL_at (c := fwc2 v) (n := nj) hi).1⟩) qL_ok (fun i hi => absurd hi (Nat.not_lt_zero _)) rfl (Nat.le_refl _) rfl) (q_cwS hC.2.2.2.2.1 ⟨rfl, rfl⟩ wk4_30 wk4_31 wk1_10 wk4_32 hd_X9_placeFrom.2 ⟨Nat.le_of_ble_eq_true rfl, Nat.le_of_ble_eq_true rfl⟩) rfl rfl (Nat.le_of_ble_eq_true rfl) dX9_fewestHosts_53 (fun u5 H locs p3 hw => ?_)
        obtain ⟨b16_6, b17_7, b18_8, b19_9, b20_10, b21_11, bq12, hFu5, hLu5, hBu5, huu5⟩ := p3
        subst huu5
        have hst_ : sr (sr (sr (sr (sr (sr (sr (sr (sr (sr (sr (sr (sr (sr σ 16 (d16)) 17 (d17)) 18 (d18)) 19 (d19)) 20 (d20)) 21 (d21)) 0 (upd (σ 0) 11 (nI 11))) 16 b16_6) 17 b17_7) 18 b18_8) 19 b19_9) 20 b20_10) 21 b21_11) 0 (upd ((sr (sr (sr (sr (sr (sr (sr σ 16 (d16)) 17 (d17)) 18 (d18)) 19 (d19)) 20 (d20)) 21 (d21)) 0 (upd (σ 0) 11 (nI 11))) 0) 11 (nI bq12)) = sr (sr (sr (sr (sr (sr (sr σ 16 (b16_6)) 17 (b17_7)) 18 (b18_8)) 19 (b19_9)) 20 (b20_10)) 21 (b21_11)) 0 (upd (σ 0) 11 (nI bq12)) := by
          funext j_ x_
          by_cases e0 : j_ = 0
          · subst e0
            by_cases y11 : x_ = 11
            · subst y11; rfl
            · simp [sr, upd, y11]
          · by_cases e16 : j_ = 16
            · subst e16; rfl
            · by_cases e17 : j_ = 17
              · subst e17; rfl
              · by_cases e18 : j_ = 18
                · subst e18; rfl
                · by_cases e19 : j_ = 19
                  · subst e19; rfl
                  · by_cases e20 : j_ = 20
                    · subst e20; rfl
                    · by_cases e21 : j_ = 21
                      · subst e21; rfl
                      · simp only [sr, e0, e16, e17, e18, e19, e20, e21, if_false]
        rw [hst_] at hw
        refine lv_aload_n hC.1 hC.2.1 dX9_fewestHosts_56 rfl (lv_at hl 0 rfl) ?_
        refine gf_X9_15 hC hw dX9_fewestHosts_57 ?_
        have hbq9 := hLu5.1
        refine q_callVv (As := []) (rest := []) (q0 := 5) hC hw hl (tX4_recount l E a (sr (sr (sr (sr (sr (sr (sr σ 16 (b16_6)) 17 (b17_7)) 18 (b18_8)) 19 (b19_9)) 20 (b20_10)) 21 (b21_11)) 0 (upd (σ 0) 11 (nI bq12))) nh nj E0 (pB (eM v) (-1)) hN hE hS ((show JX _ v nj from fun k hk => hX k hk).PL hW)) (q_cwV hC.2.2.2.2.1 ⟨rfl, rfl⟩ wk4_40 wk2_193 wk2_194 wk1_4 wk2_195 hd_X4_recount ⟨Nat.le_of_ble_eq_true rfl, Nat.le_of_ble_eq_true rfl⟩) rfl rfl rfl rfl rfl (Nat.le_of_ble_eq_true rfl) dX9_fewestHosts_60 (fun u15 H locs p13 hw => ?_)
        obtain ⟨b16_16, b17_17, b18_18, b19_19, b20_20, b21_21, hFu15, huu15⟩ := p13
        subst huu15
        have hst_ : sr (sr (sr (sr (sr (sr (sr (sr (sr (sr (sr (sr (sr σ 16 (b16_6)) 17 (b17_7)) 18 (b18_8)) 19 (b19_9)) 20 (b20_10)) 21 (b21_11)) 0 (upd (σ 0) 11 (nI bq12))) 16 b16_16) 17 b17_17) 18 b18_18) 19 b19_19) 20 b20_20) 21 b21_21 = sr (sr (sr (sr (sr (sr (sr σ 16 (b16_16)) 17 (b17_17)) 18 (b18_18)) 19 (b19_19)) 20 (b20_20)) 21 (b21_21)) 0 (upd (σ 0) 11 (nI bq12)) := by
          funext j_ x_
          by_cases e0 : j_ = 0
          · subst e0
            by_cases y11 : x_ = 11
            · subst y11; rfl
            · simp [sr, upd, y11]
          · by_cases e16 : j_ = 16
            · subst e16; rfl
            · by_cases e17 : j_ = 17
              · subst e17; rfl
              · by_cases e18 : j_ = 18
                · subst e18; rfl
                · by_cases e19 : j_ = 19
                  · subst e19; rfl
                  · by_cases e20 : j_ = 20
                    · subst e20; rfl
                    · by_cases e21 : j_ = 21
                      · subst e21; rfl
                      · simp only [sr, e0, e16, e17, e18, e19, e20, e21, if_false]
        rw [hst_] at hw
        refine lv_aload_n hC.1 hC.2.1 dX9_fewestHosts_63 rfl (lv_at hl 0 rfl) ?_
        refine gf_X9_52 (v := nI bq12) hC hw rfl dX9_fewestHosts_64 ?_
        refine lv_bipush (v := nI 10) hC.1 hC.2.1 dX9_fewestHosts_67 (by decide) ?_
        refine q_cmple hC 77 (cNle (by omega) (by omega)) dX9_fewestHosts_69 (by decide) (fun (c22 : bq12 ≤ 10) => ?_) (fun (c22 : 10 < bq12) => ?_)
        · refine lv_aload_n hC.1 hC.2.1 dX9_fewestHosts_77 rfl (lv_at hl 0 rfl) ?_
          refine gf_X9_52 (v := nI bq12) hC hw rfl dX9_fewestHosts_78 ?_
          refine hret _ _ _ _ _ _ hw ?_ rfl dX9_fewestHosts_81
          obtain ⟨q9, hq9, hq8⟩ := (hLu5.2).resolve_left (fun e => by omega)
          have hql := hq9.lt hnh
          refine ⟨Or.inl ⟨q9, hq9.ag hA hnh (pB_ok hW) qL_ok (Nat.le_refl _), by rw [pcq_cn hql, hq8], fun q2 hq2 => ?_⟩, b16_16, b17_17, b18_18, b19_19, b20_20, b21_21, nI bq12, hFu15, rfl⟩
          have hq3 := hq2.ag hA.sy hnh (pB_ok hW) qL_ok (Nat.le_refl _)
          rw [pcq_cn hql, pcq_cn (hq3.lt hnh), ← hq8]
          have h1 : pcq q2 (qL (fwc2 v) nj).length ≤ 10 := pcn_le 10
          exact (nI_leI (by omega) (by omega)).mpr (hBu5 q2 hq3 (fun i q => absurd q (Nat.not_lt_zero _)))
        · refine lv_bipush (v := (-3)) hC.1 hC.2.1 dX9_fewestHosts_72 (by decide) ?_
          refine lv_goto (tgt := 81) hC.1 hC.2.1 dX9_fewestHosts_74 (by decide) ?_
          refine hret _ _ _ _ _ _ hw ?_ rfl dX9_fewestHosts_81
          refine ⟨Or.inr ⟨fun q2 hq2 => ?_, rfl⟩, b16_16, b17_17, b18_18, b19_19, b20_20, b21_21, nI bq12, hFu15, rfl⟩
          have hq3 := hq2.ag hA.sy hnh (pB_ok hW) qL_ok (Nat.le_refl _)
          have h1 : pcq q2 (qL (fwc2 v) nj).length ≤ 10 := pcn_le 10
          have h2 := hBu5 q2 hq3 (fun i q => absurd q (Nat.not_lt_zero _))
          omega
      · refine lv_aload_n hC.1 hC.2.1 dX9_fewestHosts_10 rfl (lv_at hl 0 rfl) ?_
        refine gf_X9_15 hC hw dX9_fewestHosts_11 ?_
        refine lv_aload_n hC.1 hC.2.1 dX9_fewestHosts_14 rfl (lv_at hl 0 rfl) ?_
        refine gf_X9_9 hC hw dX9_fewestHosts_15 ?_
        refine lv_iload_n hC.1 hC.2.1 dX9_fewestHosts_18 rfl (lv_at hl 1 rfl) ?_
        have hFx := (qL_at (c := fwc2 v) (n := nj) (show k < (qL (fwc2 v) nj).length by omega)).1
        refine al_X29 (v := nI ((gd (qL (fwc2 v) nj)) k)) hC hw (by omega) (hmem k (by omega)) dX9_fewestHosts_19 ?_
        refine lv_aload_n hC.1 hC.2.1 dX9_fewestHosts_20 rfl (lv_at hl 0 rfl) ?_
        refine gf_X9_25 hC hw dX9_fewestHosts_21 ?_
        refine gf_X9_45 hC hw dX9_fewestHosts_24 ?_
        refine lv_aload_n hC.1 hC.2.1 dX9_fewestHosts_27 rfl (lv_at hl 0 rfl) ?_
        refine gf_X9_9 hC hw dX9_fewestHosts_28 ?_
        refine lv_iload_n hC.1 hC.2.1 dX9_fewestHosts_31 rfl (lv_at hl 1 rfl) ?_
        have hFx := (qL_at (c := fwc2 v) (n := nj) (show k < (qL (fwc2 v) nj).length by omega)).1
        refine al_X29 (v := nI ((gd (qL (fwc2 v) nj)) k)) hC hw (by omega) (hmem k (by omega)) dX9_fewestHosts_32 ?_
        have hhl : hsN v ((gd (qL (fwc2 v) nj)) k) < nh := (mF.host hW hFx (hs1 k (by omega))).2
        refine al_X12 (v := nI (hsN v ((gd (qL (fwc2 v) nj)) k))) hC hw (by omega) (((hX _ hFx).2.2.2 (hs1 k (by omega))).1.trans (mF.host hW hFx (hs1 k (by omega))).1) dX9_fewestHosts_33 ?_
        refine lv_iconst (v := (-1)) hC.1 hC.2.1 dX9_fewestHosts_34 (by decide) ?_
        refine q_callVv (As := [.int (nI ((gd (qL (fwc2 v) nj)) k)), .int (nI (hsN v ((gd (qL (fwc2 v) nj)) k))), .int ((-1))]) (rest := []) (q0 := 5) hC hw hl (tX4_tally l E a (sr (sr (sr (sr (sr (sr σ 16 (d16)) 17 (d17)) 18 (d18)) 19 (d19)) 20 (d20)) 21 (d21)) nh nj E0 (pP (gd (qL (fwc2 v) nj)) (pB (eM v) (-1)) (cutd (dg v (gd (qL (fwc2 v) nj))) k) (qL (fwc2 v) nj).length) (pP (gd (qL (fwc2 v) nj)) (pB (eM v) (-1)) (cutd (dg v (gd (qL (fwc2 v) nj))) (k + 1)) (qL (fwc2 v) nj).length) ((gd (qL (fwc2 v) nj)) k) (hsN v ((gd (qL (fwc2 v) nj)) k)) (-1) hN hE hS hF0 (cutd_TL qL_ok (show k < (qL (fwc2 v) nj).length by omega) (if_pos (hs1 k (by omega))) (show hsN v ((gd (qL (fwc2 v) nj)) k) < 10 by omega)) hFx hhl) (q_cwV hC.2.2.2.2.1 ⟨rfl, rfl⟩ wk4_29 wk2_201 wk2_202 wk1_4 wk2_203 hd_X4_tally ⟨Nat.le_of_ble_eq_true rfl, Nat.le_of_ble_eq_true rfl⟩) rfl rfl rfl rfl rfl (Nat.le_of_ble_eq_true rfl) dX9_fewestHosts_35 (fun u25 H locs p23 hw => ?_)
        obtain ⟨b16_26, b17_27, b18_28, b19_29, b20_30, b21_31, hFu25, huu25⟩ := p23
        subst huu25
        have hst_ : sr (sr (sr (sr (sr (sr (sr (sr (sr (sr (sr (sr σ 16 (d16)) 17 (d17)) 18 (d18)) 19 (d19)) 20 (d20)) 21 (d21)) 16 b16_26) 17 b17_27) 18 b18_28) 19 b19_29) 20 b20_30) 21 b21_31 = sr (sr (sr (sr (sr (sr σ 16 (b16_26)) 17 (b17_27)) 18 (b18_28)) 19 (b19_29)) 20 (b20_30)) 21 (b21_31) := by
          funext j_ x_
          by_cases e0 : j_ = 0
          · subst e0
            rfl
          · by_cases e16 : j_ = 16
            · subst e16; rfl
            · by_cases e17 : j_ = 17
              · subst e17; rfl
              · by_cases e18 : j_ = 18
                · subst e18; rfl
                · by_cases e19 : j_ = 19
                  · subst e19; rfl
                  · by_cases e20 : j_ = 20
                    · subst e20; rfl
                    · by_cases e21 : j_ = 21
                      · subst e21; rfl
                      · simp only [sr, e0, e16, e17, e18, e19, e20, e21, if_false]
        rw [hst_] at hw
        refine lv_iinc (v := nI (k + 1)) (lv' := [(1, .int (nI (k + 1))), (0, .ref (a 70))]) hC.1 hC.2.1 dX9_fewestHosts_38 hl (k := 1) rfl (nI_add _ _) (by decide) rfl (fun ls hl => ?_)
        refine lv_goto (tgt := 2) hC.1 hC.2.1 dX9_fewestHosts_41 (by decide) ?_
        exact ih2 (k + 1) b16_26 b17_27 b18_28 b19_29 b20_30 b21_31 (by omega) hFu25 (by omega) _ _ _ hw (lv_sub hl [1, 0] rfl)
  have hst_ : σ = sr (sr (sr (sr (sr (sr σ 16 (σ 16)) 17 (σ 17)) 18 (σ 18)) 19 (σ 19)) 20 (σ 20)) 21 (σ 21) := by
    funext j_ x_
    by_cases e0 : j_ = 0
    · subst e0
      rfl
    · by_cases e16 : j_ = 16
      · subst e16; rfl
      · by_cases e17 : j_ = 17
        · subst e17; rfl
        · by_cases e18 : j_ = 18
          · subst e18; rfl
          · by_cases e19 : j_ = 19
            · subst e19; rfl
            · by_cases e20 : j_ = 20
              · subst e20; rfl
              · by_cases e21 : j_ = 21
                · subst e21; rfl
                · simp only [sr, e0, e16, e17, e18, e19, e20, e21, if_false]
  rw [hst_] at hw
  exact L2_0 _ 0 (σ 16) (σ 17) (σ 18) (σ 19) (σ 20) (σ 21) (Nat.zero_le _) (FSr.cg (fun j _ => (pP_self (k := j) (fun i hi => by rw [show cutd (dg v (gd (qL (fwc2 v) nj))) 0 i = dg v (gd (qL (fwc2 v) nj)) i from if_neg (Nat.not_lt_zero _)]; exact pB_dg hW (qL_at (c := fwc2 v) (n := nj) hi).1 (hs1 i hi))).symm) hFS) (Nat.lt_succ_self _) _ _ _ hw (lv_sub hl [1, 0] rfl)
