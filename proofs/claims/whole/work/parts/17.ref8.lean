theorem nI_m1 {a b : Nat} (h : b < a) : nI (a - b) - 1 = nI (a - b - 1) := pk_sub (b := 1) (by omega)
theorem nI_dn {a b : Nat} (h : b < a) : nI (a - b) - 1 + -1 = nI (a - (b + 1)) - 1 := by
  rw [nI_m1 h, show a - (b + 1) = a - b - 1 by omega]; grind
theorem nI_neg {a b : Nat} (h : b ≤ a) (ha : a < 2 ^ 30) (q : nI (a - b) - 1 < 0) : b = a := by
  refine Classical.byContradiction fun z => ?_
  rw [nI_m1 (by omega)] at q
  exact absurd q (nI_pos (by omega))
theorem nI_nneg {a b : Nat} (h : b ≤ a) (ha : a < 2 ^ 30) (q : ¬ nI (a - b) - 1 < 0) : b < a := by
  refine Classical.byContradiction fun z => q ?_
  rw [show a - b = 0 by omega]; decide
set_option maxHeartbeats 4000000 in
set_option maxRecDepth 100000 in
theorem tX11_forget (l : Launch) (E : EV) (a : Nat → Nat) (τ : St)  : MV l E (MW E a) yX11_forget (Cond.code yX11_forget cX11_forget 2 none) ({ frames := 0, cells := 0, slots := 0, locals := 0 }) [.ref (a 70)] τ (fun u_ => u_ = sr τ 6 (zer 14641 (τ 6))) := by
  refine MV.mk (by decide +kernel) (Nat.le_of_ble_eq_true rfl) ?_
  intro p e s m args below meth c ls A Q hret hC hw hl
  have hC : Cxt E p s m args meth c cX11_forget 2 none RX11 A := hC
  have hl : lv_has ls 2 [(0, .ref (a 70))] := hl
  refine lv_iconst (v := nI 0) hC.1 hC.2.1 dX11_forget_0 (by decide) ?_
  refine lv_istore_n (lv' := [(1, .int (nI 0)), (0, .ref (a 70))]) hC.1 hC.2.1 dX11_forget_1 rfl hl (by decide) rfl (fun ls hl => ?_)
  have L2_0 : ∀ (n : Nat), ∀ (k : Nat), (k ≤ 14641) → (14641 - k) < n → ∀ (H : Heap) (locs : List Loc) (ls : Array Slot), Wst E (MW E a) (sr τ 6 (zer k (τ 6))) A s.heap H locs → lv_has ls 2 [(0, .ref (a 70)), (1, .int (nI k))] → W p l e ({ frames := 0, cells := 0, slots := 0, locals := 0 }) s m args below meth c H locs 0 0 Q (F0 m 2 ls []) := by
    intro n
    induction n with
    | zero => intro k hk hn; exact absurd hn (Nat.not_lt_zero _)
    | succ n ih2 =>
      intro k hk hn2 H locs ls hw hl
      refine lv_iload_n hC.1 hC.2.1 dX11_forget_2 rfl (lv_at hl 1 rfl) ?_
      refine lv_sipush (v := nI 14641) hC.1 hC.2.1 dX11_forget_3 (by decide) ?_
      refine q_cmpge hC 22 (cNle (by omega) (by omega)) dX11_forget_6 (by decide) (fun (c2 : 14641 ≤ k) => ?_) (fun (c2 : k < 14641) => ?_)
      · refine hret _ _ _ _ _ hw ?_ dX11_forget_22
        exact by rw [show k = 14641 by omega]
      · refine lv_aload_n hC.1 hC.2.1 dX11_forget_9 rfl (lv_at hl 0 rfl) ?_
        refine gf_X11_25 hC hw dX11_forget_10 ?_
        refine lv_iload_n hC.1 hC.2.1 dX11_forget_13 rfl (lv_at hl 1 rfl) ?_
        refine lv_iconst (v := nI 0) hC.1 hC.2.1 dX11_forget_14 (by decide) ?_
        refine as_M6 hC hw (by omega) (by decide) dX11_forget_15 (fun H locs hw => ?_)
        have hw : Wst E (MW E a) (sr τ 6 (upd (zer k (τ 6)) k (0))) A s.heap H locs := hw
        refine lv_iinc (v := nI (k + 1)) (lv' := [(1, .int (nI (k + 1))), (0, .ref (a 70))]) hC.1 hC.2.1 dX11_forget_16 hl (k := 1) rfl (nI_add _ _) (by decide) rfl (fun ls hl => ?_)
        refine lv_goto (tgt := 2) hC.1 hC.2.1 dX11_forget_19 (by decide) ?_
        rw [zer_s] at hw
        exact ih2 (k + 1) (by omega) (by omega) _ _ _ hw (lv_sub hl [1, 0] rfl)
  have hw : Wst E (MW E a) (sr τ 6 (zer 0 (τ 6))) A s.heap s.heap [] := by rw [zer_0]; exact hw
  exact L2_0 _ 0 (by omega) (Nat.lt_succ_self _) _ _ _ hw (lv_sub hl [1, 0] rfl)
set_option maxHeartbeats 4000000 in
set_option maxRecDepth 100000 in
theorem tX11_codeOf (l : Launch) (E : EV) (a : Nat → Nat) (τ : St) (nh : Nat) (nj : Nat) (fm : Nat) (F : Nat → Nat) (hW : mF (τ 1) nh nj) (hm : τ 0 4 = nI fm) (hm4 : fm ≤ 4) (hF : ∀ k, k < fm → τ 5 k = nI (F k) ∧ F k < nj) : MI l E (MW E a) yX11_codeOf (Cond.code yX11_codeOf cX11_codeOf 3 (some .int)) ({ frames := 0, cells := 0, slots := 0, locals := 0 }) [.ref (a 70)] τ (fun r_ u_ => r_ = (nI (enc 11 (dg (τ 1) F) fm)) ∧ u_ = τ) := by
  refine MI.mk (by decide +kernel) (Nat.le_of_ble_eq_true rfl) ?_
  intro p e s m args below meth c ls A Q hret hC hw hl
  have hC : Cxt E p s m args meth c cX11_codeOf 3 (some .int) RX11 A := hC
  have hl : lv_has ls 3 [(0, .ref (a 70))] := hl
  have ⟨hnh, hnj, hW0, hW1, hWh⟩ := id hW
  refine lv_iconst (v := nI 0) hC.1 hC.2.1 dX11_codeOf_0 (by decide) ?_
  refine lv_istore_n (lv' := [(1, .int (nI 0)), (0, .ref (a 70))]) hC.1 hC.2.1 dX11_codeOf_1 rfl hl (by decide) rfl (fun ls hl => ?_)
  refine lv_aload_n hC.1 hC.2.1 dX11_codeOf_2 rfl (lv_at hl 1 rfl) ?_
  refine gf_X11_138 (v := nI fm) hC hw hm dX11_codeOf_3 ?_
  refine lv_iconst (v := nI 1) hC.1 hC.2.1 dX11_codeOf_6 (by decide) ?_
  refine lv_isub hC.1 hC.2.1 dX11_codeOf_7 ?_
  refine lv_istore_n (lv' := [(2, .int ((nI fm) - 1)), (1, .int (nI 0)), (0, .ref (a 70))]) hC.1 hC.2.1 dX11_codeOf_8 rfl hl (by decide) rfl (fun ls hl => ?_)
  have L9_0 : ∀ (n : Nat), ∀ (j : Nat), ∀ (co : Nat), ∀ (kk : Int32), (co = (encR 11 (dg (τ 1) F) fm j)) → (kk = (nI (fm - j) - 1)) → (j ≤ fm) → (fm - j) < n → ∀ (H : Heap) (locs : List Loc) (ls : Array Slot), Wst E (MW E a) (τ) A s.heap H locs → lv_has ls 3 [(0, .ref (a 70)), (1, .int (nI co)), (2, .int (kk))] → W p l e ({ frames := 0, cells := 0, slots := 0, locals := 0 }) s m args below meth c H locs 0 0 Q (F0 m 9 ls []) := by
    intro n
    induction n with
    | zero => intro j co kk q_co q_kk hj hn; exact absurd hn (Nat.not_lt_zero _)
    | succ n ih9 =>
      intro j co kk q_co q_kk hj hn9 H locs ls hw hl
      subst q_co
      subst q_kk
      refine lv_iload_n hC.1 hC.2.1 dX11_codeOf_9 rfl (lv_at hl 2 rfl) ?_
      refine q_iflt hC 64 cI dX11_codeOf_10 (by decide) (fun (c2 : (nI (fm - j) - 1) < 0) => ?_) (fun (c2 : ¬ ((nI (fm - j) - 1) < 0)) => ?_)
      · have hjm : j = fm := nI_neg hj (by omega) c2
        refine lv_iload_n hC.1 hC.2.1 dX11_codeOf_64 rfl (lv_at hl 1 rfl) ?_
        refine hret _ _ _ _ _ _ hw ?_ rfl dX11_codeOf_65
        exact ⟨by rw [hjm, encR_all], rfl⟩
      · have hjm : j < fm := nI_nneg hj (by omega) c2
        refine lv_bipush (v := nI 11) hC.1 hC.2.1 dX11_codeOf_13 (by decide) ?_
        refine lv_iload_n hC.1 hC.2.1 dX11_codeOf_15 rfl (lv_at hl 1 rfl) ?_
        refine q_mulN hC dX11_codeOf_16 ?_
        refine lv_aload_n hC.1 hC.2.1 dX11_codeOf_17 rfl (lv_at hl 0 rfl) ?_
        refine gf_X11_7 hC hw dX11_codeOf_18 ?_
        refine lv_sipush (v := nI 258) hC.1 hC.2.1 dX11_codeOf_21 (by decide) ?_
        refine lv_aload_n hC.1 hC.2.1 dX11_codeOf_24 rfl (lv_at hl 0 rfl) ?_
        refine gf_X11_22 hC hw dX11_codeOf_25 ?_
        refine lv_iload_n hC.1 hC.2.1 dX11_codeOf_28 rfl (lv_at hl 2 rfl) ?_
        refine q_top (y := nI (fm - j - 1)) (nI_m1 (by omega)) ?_
        have hFx := (hF (fm - j - 1) (by omega)).2
        refine al_M5 (v := nI (F (fm - j - 1))) hC hw (by omega) (hF (fm - j - 1) (by omega)).1 dX11_codeOf_29 ?_
        refine q_addN hC dX11_codeOf_30 ?_
        refine al_M1 (v := eM (τ 1) 11 (F (fm - j - 1))) hC hw (by omega) (show _ = eM (τ 1) 11 (F (fm - j - 1)) from congrArg (τ 1) (by omega)) dX11_codeOf_31 ?_
        refine lv_iconst (v := nI 1) hC.1 hC.2.1 dX11_codeOf_32 (by decide) ?_
        have J56_4 : ∀ (w3 : Nat), w3 = (if (eM (τ 1) 11 (F (fm - j - 1))) = 1 then (hN (τ 1) (F (fm - j - 1))) else 10) → ∀ (H : Heap) (locs : List Loc) (ls : Array Slot), Wst E (MW E a) (τ) A s.heap H locs → lv_has ls 3 [(0, .ref (a 70)), (1, .int (nI (encR 11 (dg (τ 1) F) fm j))), (2, .int (nI (fm - j) - 1))] → W p l e ({ frames := 0, cells := 0, slots := 0, locals := 0 }) s m args below meth c H locs 0 0 Q (F0 m 56 ls [.int (nI w3), .int (nI (11 * (encR 11 (dg (τ 1) F) fm j)))]) := by
          intro w3 e4 H locs ls hw hl
          subst e4
          refine q_addN hC dX11_codeOf_56 ?_
          refine lv_istore_n (lv' := [(1, .int (nI ((11 * (encR 11 (dg (τ 1) F) fm j)) + (if (eM (τ 1) 11 (F (fm - j - 1))) = 1 then (hN (τ 1) (F (fm - j - 1))) else 10)))), (0, .ref (a 70)), (2, .int (nI (fm - j) - 1))]) hC.1 hC.2.1 dX11_codeOf_57 rfl hl (by decide) rfl (fun ls hl => ?_)
          refine lv_iinc (v := (nI (fm - j) - 1) + (-1)) (lv' := [(2, .int ((nI (fm - j) - 1) + (-1))), (1, .int (nI ((11 * (encR 11 (dg (τ 1) F) fm j)) + (if (eM (τ 1) 11 (F (fm - j - 1))) = 1 then (hN (τ 1) (F (fm - j - 1))) else 10)))), (0, .ref (a 70))]) hC.1 hC.2.1 dX11_codeOf_58 hl (k := 2) rfl rfl (by decide) rfl (fun ls hl => ?_)
          refine lv_goto (tgt := 9) hC.1 hC.2.1 dX11_codeOf_61 (by decide) ?_
          exact ih9 (j + 1) ((11 * (encR 11 (dg (τ 1) F) fm j)) + (if (eM (τ 1) 11 (F (fm - j - 1))) = 1 then (hN (τ 1) (F (fm - j - 1))) else 10)) ((nI (fm - j) - 1) + (-1)) rfl (nI_dn (by omega)) (by omega) (by omega) _ _ _ hw (lv_sub hl [2, 1, 0] rfl)
        refine q_cmpne hC 54 cI dX11_codeOf_33 (by decide) (fun (c5 : ¬ ((eM (τ 1) 11 (F (fm - j - 1))) = 1)) => ?_) (fun (c5 : (eM (τ 1) 11 (F (fm - j - 1))) = 1) => ?_)
        · refine lv_bipush (v := nI 10) hC.1 hC.2.1 dX11_codeOf_54 (by decide) ?_
          exact J56_4 _ (by (rw [if_neg c5]) <;> rfl) _ _ _ hw (lv_sub hl [0, 1, 2] rfl)
        · refine lv_aload_n hC.1 hC.2.1 dX11_codeOf_36 rfl (lv_at hl 0 rfl) ?_
          refine gf_X11_7 hC hw dX11_codeOf_37 ?_
          refine lv_sipush (v := nI 282) hC.1 hC.2.1 dX11_codeOf_40 (by decide) ?_
          refine lv_aload_n hC.1 hC.2.1 dX11_codeOf_43 rfl (lv_at hl 0 rfl) ?_
          refine gf_X11_22 hC hw dX11_codeOf_44 ?_
          refine lv_iload_n hC.1 hC.2.1 dX11_codeOf_47 rfl (lv_at hl 2 rfl) ?_
          refine q_top (y := nI (fm - j - 1)) (nI_m1 (by omega)) ?_
          have hFx := (hF (fm - j - 1) (by omega)).2
          refine al_M5 (v := nI (F (fm - j - 1))) hC hw (by omega) (hF (fm - j - 1) (by omega)).1 dX11_codeOf_48 ?_
          refine q_addN hC dX11_codeOf_49 ?_
          have hhc5 := mF.host hW hFx c5
          refine al_M1 (v := nI (hN (τ 1) (F (fm - j - 1)))) hC hw (by omega) hhc5.1 dX11_codeOf_50 ?_
          refine lv_goto (tgt := 56) hC.1 hC.2.1 dX11_codeOf_51 (by decide) ?_
          exact J56_4 _ (by (rw [if_pos c5]) <;> rfl) _ _ _ hw (lv_sub hl [0, 1, 2] rfl)
  exact L9_0 _ 0 0 ((nI fm) - 1) rfl rfl (Nat.zero_le _) (Nat.lt_succ_self _) _ _ _ hw (lv_sub hl [2, 1, 0] rfl)
set_option maxHeartbeats 4000000 in
set_option maxRecDepth 100000 in
theorem tX11_setFew (l : Launch) (E : EV) (a : Nat → Nat) (τ : St) (nh : Nat) (nj : Nat) (fm : Nat) (F : Nat → Nat) (cd : Nat) (hW : mF (τ 1) nh nj) (hm : τ 0 4 = nI fm) (hm4 : fm ≤ 4) (hF : ∀ k, k < fm → τ 5 k = nI (F k) ∧ F k < nj) (hc : cd < 14641) : MV l E (MW E a) yX11_setFew (Cond.code yX11_setFew cX11_setFew 4 none) ({ frames := 0, cells := 0, slots := 0, locals := 0 }) [.ref (a 70), .int (nI cd)] τ (fun u_ => u_ = sr τ 1 (f_set (τ 1) F cd fm)) := by
  refine MV.mk (by decide +kernel) (Nat.le_of_ble_eq_true rfl) ?_
  intro p e s m args below meth c ls A Q hret hC hw hl
  have hC : Cxt E p s m args meth c cX11_setFew 4 none RX11 A := hC
  have hl : lv_has ls 4 [(0, .ref (a 70)), (1, .int (nI cd))] := hl
  have ⟨hnh, hnj, hW0, hW1, hWh⟩ := id hW
  refine lv_iload_n hC.1 hC.2.1 dX11_setFew_0 rfl (lv_at hl 1 rfl) ?_
  refine lv_istore_n (lv' := [(2, .int (nI cd)), (0, .ref (a 70)), (1, .int (nI cd))]) hC.1 hC.2.1 dX11_setFew_1 rfl hl (by decide) rfl (fun ls hl => ?_)
  refine lv_iconst (v := nI 0) hC.1 hC.2.1 dX11_setFew_2 (by decide) ?_
  refine lv_istore_n (lv' := [(3, .int (nI 0)), (2, .int (nI cd)), (0, .ref (a 70)), (1, .int (nI cd))]) hC.1 hC.2.1 dX11_setFew_3 rfl hl (by decide) rfl (fun ls hl => ?_)
  have L4_0 : ∀ (n : Nat), ∀ (k : Nat), ∀ (le : Nat), (le = (cd / 11 ^ k)) → (k ≤ fm) → (fm - k) < n → ∀ (H : Heap) (locs : List Loc) (ls : Array Slot), Wst E (MW E a) (sr τ 1 (f_set (τ 1) F cd k)) A s.heap H locs → lv_has ls 4 [(0, .ref (a 70)), (1, .int (nI cd)), (2, .int (nI le)), (3, .int (nI k))] → W p l e ({ frames := 0, cells := 0, slots := 0, locals := 0 }) s m args below meth c H locs 0 0 Q (F0 m 4 ls []) := by
    intro n
    induction n with
    | zero => intro k le q_le hk hn; exact absurd hn (Nat.not_lt_zero _)
    | succ n ih4 =>
      intro k le q_le hk hn4 H locs ls hw hl
      subst q_le
      have hcl : cd / 11 ^ k ≤ cd := Nat.div_le_self _ _
      refine lv_iload_n hC.1 hC.2.1 dX11_setFew_4 rfl (lv_at hl 3 rfl) ?_
      refine lv_aload_n hC.1 hC.2.1 dX11_setFew_5 rfl (lv_at hl 0 rfl) ?_
      refine gf_X11_138 (v := nI fm) hC hw hm dX11_setFew_6 ?_
      refine q_cmpge hC 98 (cNle (by omega) (by omega)) dX11_setFew_9 (by decide) (fun (c2 : fm ≤ k) => ?_) (fun (c2 : k < fm) => ?_)
      · refine hret _ _ _ _ _ hw ?_ dX11_setFew_98
        exact by rw [show k = fm by omega]
      · refine lv_aload_n hC.1 hC.2.1 dX11_setFew_12 rfl (lv_at hl 0 rfl) ?_
        refine gf_X11_7 hC hw dX11_setFew_13 ?_
        refine lv_sipush (v := nI 258) hC.1 hC.2.1 dX11_setFew_16 (by decide) ?_
        refine lv_aload_n hC.1 hC.2.1 dX11_setFew_19 rfl (lv_at hl 0 rfl) ?_
        refine gf_X11_22 hC hw dX11_setFew_20 ?_
        refine lv_iload_n hC.1 hC.2.1 dX11_setFew_23 rfl (lv_at hl 3 rfl) ?_
        have hFx := (hF k (by omega)).2
        refine al_M5 (v := nI (F k)) hC hw (by omega) (hF k (by omega)).1 dX11_setFew_24 ?_
        refine q_addN hC dX11_setFew_25 ?_
        refine lv_iload_n hC.1 hC.2.1 dX11_setFew_26 rfl (lv_at hl 2 rfl) ?_
        refine lv_bipush (v := nI 11) hC.1 hC.2.1 dX11_setFew_27 (by decide) ?_
        refine q_remN hC (by omega) (by omega) (by omega) dX11_setFew_29 ?_
        refine lv_bipush (v := nI 10) hC.1 hC.2.1 dX11_setFew_30 (by decide) ?_
        have J40_4 : ∀ (w3 : Int32), w3 = (if ((cd / 11 ^ k) % 11) ≠ 10 then (1 : Int32) else 0) → ∀ (H : Heap) (locs : List Loc) (ls : Array Slot), Wst E (MW E a) (sr τ 1 (f_set (τ 1) F cd k)) A s.heap H locs → lv_has ls 4 [(0, .ref (a 70)), (1, .int (nI cd)), (2, .int (nI (cd / 11 ^ k))), (3, .int (nI k))] → W p l e ({ frames := 0, cells := 0, slots := 0, locals := 0 }) s m args below meth c H locs 0 0 Q (F0 m 40 ls [.int (w3), .int (nI (258 + (F k))), .ref (a 1)]) := by
          intro w3 e4 H locs ls hw hl
          subst e4
          refine as_M1 hC hw (by omega) dX11_setFew_40 (fun H locs hw => ?_)
          have hw : Wst E (MW E a) (sr τ 1 (upd (f_set (τ 1) F cd k) (258 + (F k)) (if ((cd / 11 ^ k) % 11) ≠ 10 then (1 : Int32) else 0))) A s.heap H locs := hw
          refine lv_aload_n hC.1 hC.2.1 dX11_setFew_41 rfl (lv_at hl 0 rfl) ?_
          refine gf_X11_7 hC hw dX11_setFew_42 ?_
          refine lv_sipush (v := nI 282) hC.1 hC.2.1 dX11_setFew_45 (by decide) ?_
          refine lv_aload_n hC.1 hC.2.1 dX11_setFew_48 rfl (lv_at hl 0 rfl) ?_
          refine gf_X11_22 hC hw dX11_setFew_49 ?_
          refine lv_iload_n hC.1 hC.2.1 dX11_setFew_52 rfl (lv_at hl 3 rfl) ?_
          have hFx := (hF k (by omega)).2
          refine al_M5 (v := nI (F k)) hC hw (by omega) (hF k (by omega)).1 dX11_setFew_53 ?_
          refine q_addN hC dX11_setFew_54 ?_
          refine lv_iload_n hC.1 hC.2.1 dX11_setFew_55 rfl (lv_at hl 2 rfl) ?_
          refine lv_bipush (v := nI 11) hC.1 hC.2.1 dX11_setFew_56 (by decide) ?_
          refine q_remN hC (by omega) (by omega) (by omega) dX11_setFew_58 ?_
          refine lv_bipush (v := nI 10) hC.1 hC.2.1 dX11_setFew_59 (by decide) ?_
          have J86_6 : ∀ (w5 : Int32), w5 = (if ((cd / 11 ^ k) % 11) = 10 then (eM (upd (f_set (τ 1) F cd k) (258 + (F k)) (if ((cd / 11 ^ k) % 11) ≠ 10 then (1 : Int32) else 0)) 12 (F k)) else (nI ((cd / 11 ^ k) % 11))) → ∀ (H : Heap) (locs : List Loc) (ls : Array Slot), Wst E (MW E a) (sr τ 1 (upd (f_set (τ 1) F cd k) (258 + (F k)) (if ((cd / 11 ^ k) % 11) ≠ 10 then (1 : Int32) else 0))) A s.heap H locs → lv_has ls 4 [(0, .ref (a 70)), (1, .int (nI cd)), (2, .int (nI (cd / 11 ^ k))), (3, .int (nI k))] → W p l e ({ frames := 0, cells := 0, slots := 0, locals := 0 }) s m args below meth c H locs 0 0 Q (F0 m 86 ls [.int (w5), .int (nI (282 + (F k))), .ref (a 1)]) := by
            intro w5 e6 H locs ls hw hl
            subst e6
            refine as_M1 hC hw (by omega) dX11_setFew_86 (fun H locs hw => ?_)
            have hw : Wst E (MW E a) (sr τ 1 (upd (upd (f_set (τ 1) F cd k) (258 + (F k)) (if ((cd / 11 ^ k) % 11) ≠ 10 then (1 : Int32) else 0)) (282 + (F k)) ((if ((cd / 11 ^ k) % 11) = 10 then (eM (upd (f_set (τ 1) F cd k) (258 + (F k)) (if ((cd / 11 ^ k) % 11) ≠ 10 then (1 : Int32) else 0)) 12 (F k)) else (nI ((cd / 11 ^ k) % 11)))))) A s.heap H locs := hw
            refine lv_iload_n hC.1 hC.2.1 dX11_setFew_87 rfl (lv_at hl 2 rfl) ?_
            refine lv_bipush (v := nI 11) hC.1 hC.2.1 dX11_setFew_88 (by decide) ?_
            refine q_divN hC (by omega) (by omega) (by omega) dX11_setFew_90 ?_
            refine lv_istore_n (lv' := [(2, .int (nI ((cd / 11 ^ k) / 11))), (0, .ref (a 70)), (1, .int (nI cd)), (3, .int (nI k))]) hC.1 hC.2.1 dX11_setFew_91 rfl hl (by decide) rfl (fun ls hl => ?_)
            refine lv_iinc (v := nI (k + 1)) (lv' := [(3, .int (nI (k + 1))), (2, .int (nI ((cd / 11 ^ k) / 11))), (0, .ref (a 70)), (1, .int (nI cd))]) hC.1 hC.2.1 dX11_setFew_92 hl (k := 3) rfl (nI_add _ _) (by decide) rfl (fun ls hl => ?_)
            refine lv_goto (tgt := 4) hC.1 hC.2.1 dX11_setFew_95 (by decide) ?_
            have hw : Wst E (MW E a) (sr τ 1 (f_set (τ 1) F cd (k + 1))) A s.heap H locs := hw
            exact ih4 (k + 1) ((cd / 11 ^ k) / 11) (by rw [Nat.div_div_eq_div_mul, Nat.pow_succ]) (by omega) (by omega) _ _ _ hw (lv_sub hl [2, 3, 1, 0] rfl)
          refine q_cmpne hC 82 (cNeq (by omega) (by omega)) dX11_setFew_61 (by decide) (fun (c7 : ((cd / 11 ^ k) % 11) ≠ 10) => ?_) (fun (c7 : ((cd / 11 ^ k) % 11) = 10) => ?_)
          · refine lv_iload_n hC.1 hC.2.1 dX11_setFew_82 rfl (lv_at hl 2 rfl) ?_
            refine lv_bipush (v := nI 11) hC.1 hC.2.1 dX11_setFew_83 (by decide) ?_
            refine q_remN hC (by omega) (by omega) (by omega) dX11_setFew_85 ?_
            exact J86_6 _ (by (rw [if_neg c7]) <;> rfl) _ _ _ hw (lv_sub hl [0, 1, 2, 3] rfl)
          · refine lv_aload_n hC.1 hC.2.1 dX11_setFew_64 rfl (lv_at hl 0 rfl) ?_
            refine gf_X11_7 hC hw dX11_setFew_65 ?_
            refine lv_sipush (v := nI 282) hC.1 hC.2.1 dX11_setFew_68 (by decide) ?_
            refine lv_aload_n hC.1 hC.2.1 dX11_setFew_71 rfl (lv_at hl 0 rfl) ?_
            refine gf_X11_22 hC hw dX11_setFew_72 ?_
            refine lv_iload_n hC.1 hC.2.1 dX11_setFew_75 rfl (lv_at hl 3 rfl) ?_
            have hFx := (hF k (by omega)).2
            refine al_M5 (v := nI (F k)) hC hw (by omega) (hF k (by omega)).1 dX11_setFew_76 ?_
            refine q_addN hC dX11_setFew_77 ?_
            refine al_M1 (v := eM (upd (f_set (τ 1) F cd k) (258 + (F k)) (if ((cd / 11 ^ k) % 11) ≠ 10 then (1 : Int32) else 0)) 12 (F k)) hC hw (by omega) (show _ = eM (upd (f_set (τ 1) F cd k) (258 + (F k)) (if ((cd / 11 ^ k) % 11) ≠ 10 then (1 : Int32) else 0)) 12 (F k) from congrArg (upd (f_set (τ 1) F cd k) (258 + (F k)) (if ((cd / 11 ^ k) % 11) ≠ 10 then (1 : Int32) else 0)) (by omega)) dX11_setFew_78 ?_
            refine lv_goto (tgt := 86) hC.1 hC.2.1 dX11_setFew_79 (by decide) ?_
            exact J86_6 _ (by (rw [if_pos c7]) <;> rfl) _ _ _ hw (lv_sub hl [0, 1, 2, 3] rfl)
        refine q_cmpne hC 39 (cNeq (by omega) (by omega)) dX11_setFew_32 (by decide) (fun (c8 : ((cd / 11 ^ k) % 11) ≠ 10) => ?_) (fun (c8 : ((cd / 11 ^ k) % 11) = 10) => ?_)
        · refine lv_iconst (v := nI 1) hC.1 hC.2.1 dX11_setFew_39 (by decide) ?_
          exact J40_4 _ (if_pos c8).symm _ _ _ hw (lv_sub hl [0, 1, 2, 3] rfl)
        · refine lv_iconst (v := nI 0) hC.1 hC.2.1 dX11_setFew_35 (by decide) ?_
          refine lv_goto (tgt := 40) hC.1 hC.2.1 dX11_setFew_36 (by decide) ?_
          exact J40_4 _ (if_neg (fun q => q c8)).symm _ _ _ hw (lv_sub hl [0, 1, 2, 3] rfl)
  have hw : Wst E (MW E a) (sr τ 1 (f_set (τ 1) F cd 0)) A s.heap s.heap [] := hw
  exact L4_0 _ 0 cd (by simp) (Nat.zero_le _) (Nat.lt_succ_self _) _ _ _ hw (lv_sub hl [2, 3, 1, 0] rfl)
set_option maxHeartbeats 4000000 in
set_option maxRecDepth 100000 in
theorem tX11_meet (l : Launch) (E : EV) (a : Nat → Nat) (τ : St) (M : Nat) (cd : Nat) (fr : Int32) (by1 : Int32) (hM : τ 0 5 = nI M) (hc : cd < 14641) (hMl : τ 6 cd = 0 → M < 14641) : MV l E (MW E a) yX11_meet (Cond.code yX11_meet cX11_meet 4 none) ({ frames := 0, cells := 0, slots := 0, locals := 0 }) [.ref (a 70), .int (nI cd), .int (fr), .int (by1)] τ (fun u_ => u_ = sr (sr (sr (sr (sr τ 6 ((if (τ 6) cd = 0 then upd (τ 6) cd 1 else (τ 6)))) 7 ((if (τ 6) cd = 0 then upd (τ 7) M (nI cd) else (τ 7)))) 8 ((if (τ 6) cd = 0 then upd (τ 8) M fr else (τ 8)))) 9 ((if (τ 6) cd = 0 then upd (τ 9) M by1 else (τ 9)))) 0 (upd (τ 0) 5 ((if (τ 6) cd = 0 then nI (M + 1) else (τ 0 5))))) := by
  refine MV.mk (by decide +kernel) (Nat.le_of_ble_eq_true rfl) ?_
  intro p e s m args below meth c ls A Q hret hC hw hl
  have hC : Cxt E p s m args meth c cX11_meet 4 none RX11 A := hC
  have hl : lv_has ls 4 [(0, .ref (a 70)), (1, .int (nI cd)), (2, .int (fr)), (3, .int (by1))] := hl
  refine lv_aload_n hC.1 hC.2.1 dX11_meet_0 rfl (lv_at hl 0 rfl) ?_
  refine gf_X11_25 hC hw dX11_meet_1 ?_
  refine lv_iload_n hC.1 hC.2.1 dX11_meet_4 rfl (lv_at hl 1 rfl) ?_
  refine al_M6 (v := τ 6 cd) hC hw (by omega) rfl dX11_meet_5 ?_
  have J56_10 : ∀ (w1 : Nat → Int32), w1 = (if τ 6 cd = 0 then (upd (τ 6) cd (1)) else (τ 6)) → ∀ (w3 : Nat → Int32), w3 = (if τ 6 cd = 0 then (upd (τ 7) M (nI cd)) else (τ 7)) → ∀ (w5 : Nat → Int32), w5 = (if τ 6 cd = 0 then (upd (τ 8) M (fr)) else (τ 8)) → ∀ (w7 : Nat → Int32), w7 = (if τ 6 cd = 0 then (upd (τ 9) M (by1)) else (τ 9)) → ∀ (w9 : Int32), w9 = (if τ 6 cd = 0 then (nI (M + 1)) else (τ 0 5)) → ∀ (H : Heap) (locs : List Loc) (ls : Array Slot), Wst E (MW E a) (sr (sr (sr (sr (sr τ 6 (w1)) 7 (w3)) 8 (w5)) 9 (w7)) 0 (upd (τ 0) 5 (w9))) A s.heap H locs → lv_has ls 4 [(0, .ref (a 70)), (1, .int (nI cd)), (2, .int (fr)), (3, .int (by1))] → W p l e ({ frames := 0, cells := 0, slots := 0, locals := 0 }) s m args below meth c H locs 0 0 Q (F0 m 56 ls []) := by
    intro w1 e2 w3 e4 w5 e6 w7 e8 w9 e10 H locs ls hw hl
    subst e2
    subst e4
    subst e6
    subst e8
    subst e10
    refine hret _ _ _ _ _ hw ?_ dX11_meet_56
    exact rfl
  refine q_ifne hC 56 cI dX11_meet_6 (by decide) (fun (c11 : ¬ (τ 6 cd = 0)) => ?_) (fun (c11 : τ 6 cd = 0) => ?_)
  · exact J56_10 _ (by (rw [if_neg c11]) <;> rfl) _ (by (rw [if_neg c11]) <;> rfl) _ (by (rw [if_neg c11]) <;> rfl) _ (by (rw [if_neg c11]) <;> rfl) _ (by (rw [if_neg c11]) <;> rfl) _ _ _ hw (lv_sub hl [0, 1, 2, 3] rfl)
  · have hMl := hMl c11
    refine lv_aload_n hC.1 hC.2.1 dX11_meet_9 rfl (lv_at hl 0 rfl) ?_
    refine gf_X11_25 hC hw dX11_meet_10 ?_
    refine lv_iload_n hC.1 hC.2.1 dX11_meet_13 rfl (lv_at hl 1 rfl) ?_
    refine lv_iconst (v := nI 1) hC.1 hC.2.1 dX11_meet_14 (by decide) ?_
    refine as_M6 hC hw (by omega) (by decide) dX11_meet_15 (fun H locs hw => ?_)
    have hw : Wst E (MW E a) (sr τ 6 (upd (τ 6) cd (1))) A s.heap H locs := hw
    refine lv_aload_n hC.1 hC.2.1 dX11_meet_16 rfl (lv_at hl 0 rfl) ?_
    refine gf_X11_29 hC hw dX11_meet_17 ?_
    refine lv_aload_n hC.1 hC.2.1 dX11_meet_20 rfl (lv_at hl 0 rfl) ?_
    refine gf_X11_141 (v := nI M) hC hw hM dX11_meet_21 ?_
    refine lv_iload_n hC.1 hC.2.1 dX11_meet_24 rfl (lv_at hl 1 rfl) ?_
    refine as_M7 hC hw (by omega) dX11_meet_25 (fun H locs hw => ?_)
    have hw : Wst E (MW E a) (sr (sr τ 6 (upd (τ 6) cd (1))) 7 (upd (τ 7) M (nI cd))) A s.heap H locs := hw
    refine lv_aload_n hC.1 hC.2.1 dX11_meet_26 rfl (lv_at hl 0 rfl) ?_
    refine gf_X11_32 hC hw dX11_meet_27 ?_
    refine lv_aload_n hC.1 hC.2.1 dX11_meet_30 rfl (lv_at hl 0 rfl) ?_
    refine gf_X11_141 (v := nI M) hC hw hM dX11_meet_31 ?_
    refine lv_iload_n hC.1 hC.2.1 dX11_meet_34 rfl (lv_at hl 2 rfl) ?_
    refine as_M8 hC hw (by omega) dX11_meet_35 (fun H locs hw => ?_)
    have hw : Wst E (MW E a) (sr (sr (sr τ 6 (upd (τ 6) cd (1))) 7 (upd (τ 7) M (nI cd))) 8 (upd (τ 8) M (fr))) A s.heap H locs := hw
    refine lv_aload_n hC.1 hC.2.1 dX11_meet_36 rfl (lv_at hl 0 rfl) ?_
    refine gf_X11_35 hC hw dX11_meet_37 ?_
    refine lv_aload_n hC.1 hC.2.1 dX11_meet_40 rfl (lv_at hl 0 rfl) ?_
    refine gf_X11_141 (v := nI M) hC hw hM dX11_meet_41 ?_
    refine lv_iload_n hC.1 hC.2.1 dX11_meet_44 rfl (lv_at hl 3 rfl) ?_
    refine as_M9 hC hw (by omega) dX11_meet_45 (fun H locs hw => ?_)
    have hw : Wst E (MW E a) (sr (sr (sr (sr τ 6 (upd (τ 6) cd (1))) 7 (upd (τ 7) M (nI cd))) 8 (upd (τ 8) M (fr))) 9 (upd (τ 9) M (by1))) A s.heap H locs := hw
    refine lv_aload_n hC.1 hC.2.1 dX11_meet_46 rfl (lv_at hl 0 rfl) ?_
    refine lv_dup hC.1 hC.2.1 dX11_meet_47 rfl ?_
    refine gf_X11_141 (v := nI M) hC hw hM dX11_meet_48 ?_
    refine lv_iconst (v := nI 1) hC.1 hC.2.1 dX11_meet_51 (by decide) ?_
    refine q_addN hC dX11_meet_52 ?_
    refine pf_X11_141 hC hw dX11_meet_53 (fun H locs hw => ?_)
    have hw : Wst E (MW E a) (sr (sr (sr (sr (sr τ 6 (upd (τ 6) cd (1))) 7 (upd (τ 7) M (nI cd))) 8 (upd (τ 8) M (fr))) 9 (upd (τ 9) M (by1))) 0 (upd (τ 0) 5 (nI (M + 1)))) A s.heap H locs := hw
    exact J56_10 _ (by (rw [if_pos c11]) <;> rfl) _ (by (rw [if_pos c11]) <;> rfl) _ (by (rw [if_pos c11]) <;> rfl) _ (by (rw [if_pos c11]) <;> rfl) _ (by (rw [if_pos c11]) <;> rfl) _ _ _ hw (lv_sub hl [0, 1, 2, 3] rfl)
