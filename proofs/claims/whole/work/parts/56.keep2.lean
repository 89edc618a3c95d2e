set_option maxHeartbeats 4000000 in
set_option maxRecDepth 100000 in
theorem tX7_keep_k15 (l : Launch) (E : EV) (a : Nat → Nat) (σ : St) (kp : Nat) (hnx : σ 0 3 = nI 15) (hkp : σ 0 4 = nI kp) (hk30 : kp ≤ 30) : MV l E (XW E a) yX7_keep (Cond.code yX7_keep cX7_keep 4 none) ({ frames := 1, cells := 0, slots := 0, locals := 24 }) [.ref (a 68)] σ (fun u_ => u_ = sr (sr σ 45 (kpr σ (σ 45))) 0 (upd (upd (σ 0) 3 (nI (if 15 ≠ 29 then 15 + 1 else 0))) 4 (nI (if kp ≠ 30 then kp + 1 else kp)))) := by
  refine MV.mk (by decide +kernel) (Nat.le_of_ble_eq_true rfl) ?_
  intro p e s m args below meth c ls A Q hret hC hw hl
  have hC : Cxt E p s m args meth c cX7_keep 4 none RX7 A := hC
  have hl : lv_has ls 4 [(0, .ref (a 68))] := hl
  refine lv_aload_n hC.1 hC.2.1 dX7_keep_0 rfl (lv_at hl 0 rfl) ?_
  refine gf_X7_13 hC hw dX7_keep_1 ?_
  refine lv_aload_n hC.1 hC.2.1 dX7_keep_4 rfl (lv_at hl 0 rfl) ?_
  refine gf_X7_28 (v := nI 15) hC hw hnx dX7_keep_5 ?_
  refine q_aald hC hw (i := 15) (by decide) dX7_keep_8 ?_
  refine lv_astore_n (lv' := [(1, .ref (a 45)), (0, .ref (a 68))]) hC.1 hC.2.1 dX7_keep_9 rfl hl (by decide) rfl (fun ls hl => ?_)
  refine lv_aload_n hC.1 hC.2.1 dX7_keep_10 rfl (lv_at hl 0 rfl) ?_
  refine lv_iconst (v := nI 0) hC.1 hC.2.1 dX7_keep_11 (by decide) ?_
  refine lv_aload_n hC.1 hC.2.1 dX7_keep_12 rfl (lv_at hl 1 rfl) ?_
  refine gf_X7_16 hC hw dX7_keep_13 ?_
  refine gf_X7_32 (v := σ 0 0) hC hw rfl dX7_keep_16 ?_
  refine q_ast (Wf := XW E a) 55 rfl (by decide) (XW_s45 _) hC hw (by omega) dX7_keep_19 (fun H locs hw => ?_)
  have hw : Wst E (XW E a) (sr σ 45 (upd (σ 45) 0 (σ 0 0))) A s.heap H locs := hw
  refine lv_aload_n hC.1 hC.2.1 dX7_keep_20 rfl (lv_at hl 0 rfl) ?_
  refine lv_iconst (v := nI 1) hC.1 hC.2.1 dX7_keep_21 (by decide) ?_
  refine lv_aload_n hC.1 hC.2.1 dX7_keep_22 rfl (lv_at hl 1 rfl) ?_
  refine gf_X7_20 hC hw dX7_keep_23 ?_
  refine gf_X7_37 (v := σ 0 1) hC hw rfl dX7_keep_26 ?_
  refine q_ast (Wf := XW E a) 55 rfl (by decide) (XW_s45 _) hC hw (by omega) dX7_keep_29 (fun H locs hw => ?_)
  have hw : Wst E (XW E a) (sr (sr σ 45 (upd (σ 45) 0 (σ 0 0))) 45 (upd (upd (σ 45) 0 (σ 0 0)) 1 (σ 0 1))) A s.heap H locs := hw
  have hst_ : sr (sr σ 45 (upd (σ 45) 0 (σ 0 0))) 45 (upd (upd (σ 45) 0 (σ 0 0)) 1 (σ 0 1)) = sr σ 45 (upd (upd (σ 45) 0 (σ 0 0)) 1 (σ 0 1)) := by
    funext j_ x_
    by_cases e0 : j_ = 0
    · subst e0
      rfl
    · by_cases e45 : j_ = 45
      · subst e45; rfl
      · simp only [sr, e0, e45, if_false]
  rw [hst_] at hw
  refine lv_aload_n hC.1 hC.2.1 dX7_keep_30 rfl (lv_at hl 0 rfl) ?_
  refine lv_iconst (v := nI 2) hC.1 hC.2.1 dX7_keep_31 (by decide) ?_
  refine lv_aload_n hC.1 hC.2.1 dX7_keep_32 rfl (lv_at hl 1 rfl) ?_
  refine gf_X7_20 hC hw dX7_keep_33 ?_
  refine gf_X7_40 (v := σ 0 2) hC hw rfl dX7_keep_36 ?_
  refine q_ast (Wf := XW E a) 55 rfl (by decide) (XW_s45 _) hC hw (by omega) dX7_keep_39 (fun H locs hw => ?_)
  have hw : Wst E (XW E a) (sr (sr σ 45 (upd (upd (σ 45) 0 (σ 0 0)) 1 (σ 0 1))) 45 (upd (upd (upd (σ 45) 0 (σ 0 0)) 1 (σ 0 1)) 2 (σ 0 2))) A s.heap H locs := hw
  have hst_ : sr (sr σ 45 (upd (upd (σ 45) 0 (σ 0 0)) 1 (σ 0 1))) 45 (upd (upd (upd (σ 45) 0 (σ 0 0)) 1 (σ 0 1)) 2 (σ 0 2)) = sr σ 45 (upd (upd (upd (σ 45) 0 (σ 0 0)) 1 (σ 0 1)) 2 (σ 0 2)) := by
    funext j_ x_
    by_cases e0 : j_ = 0
    · subst e0
      rfl
    · by_cases e45 : j_ = 45
      · subst e45; rfl
      · simp only [sr, e0, e45, if_false]
  rw [hst_] at hw
  refine lv_iconst (v := nI 3) hC.1 hC.2.1 dX7_keep_40 (by decide) ?_
  refine lv_istore_n (lv' := [(2, .int (nI 3)), (1, .ref (a 45)), (0, .ref (a 68))]) hC.1 hC.2.1 dX7_keep_41 rfl hl (by decide) rfl (fun ls hl => ?_)
  refine lv_aload_n hC.1 hC.2.1 dX7_keep_42 rfl (lv_at hl 2 rfl) ?_
  refine gf_X7_24 hC hw dX7_keep_43 ?_
  refine lv_iconst (v := nI 0) hC.1 hC.2.1 dX7_keep_46 (by decide) ?_
  refine lv_aload_n hC.1 hC.2.1 dX7_keep_47 rfl (lv_at hl 1 rfl) ?_
  refine lv_iload_n hC.1 hC.2.1 dX7_keep_48 rfl (lv_at hl 0 rfl) ?_
  refine lv_iconst (v := nI 3) hC.1 hC.2.1 dX7_keep_49 (by decide) ?_
  refine q_cpy (sp := 0) (dp := 3) (n := 3) 25 rfl 55 rfl (XW_s45 _) hC hw hl (by omega) (by omega) (by decide) (by decide) ⟨Nat.le_of_ble_eq_true rfl, Nat.le_of_ble_eq_true rfl⟩ wk2_182 dX7_keep_50 (fun H locs hw => ?_)
  have hw : Wst E (XW E a) (sr (sr σ 45 (upd (upd (upd (σ 45) 0 (σ 0 0)) 1 (σ 0 1)) 2 (σ 0 2))) 45 (va_cpy (σ 15) (upd (upd (upd (σ 45) 0 (σ 0 0)) 1 (σ 0 1)) 2 (σ 0 2)) 0 3 3)) A s.heap H locs := hw
  have hst_ : sr (sr σ 45 (upd (upd (upd (σ 45) 0 (σ 0 0)) 1 (σ 0 1)) 2 (σ 0 2))) 45 (va_cpy (σ 15) (upd (upd (upd (σ 45) 0 (σ 0 0)) 1 (σ 0 1)) 2 (σ 0 2)) 0 3 3) = sr σ 45 (va_cpy (σ 15) (upd (upd (upd (σ 45) 0 (σ 0 0)) 1 (σ 0 1)) 2 (σ 0 2)) 0 3 3) := by
    funext j_ x_
    by_cases e0 : j_ = 0
    · subst e0
      rfl
    · by_cases e45 : j_ = 45
      · subst e45; rfl
      · simp only [sr, e0, e45, if_false]
  rw [hst_] at hw
  refine lv_iinc (v := nI (3 + 3)) (lv' := [(2, .int (nI (3 + 3))), (1, .ref (a 45)), (0, .ref (a 68))]) hC.1 hC.2.1 dX7_keep_53 hl (k := 0) rfl (nI_add _ _) (by decide) rfl (fun ls hl => ?_)
  refine lv_iconst (v := nI 0) hC.1 hC.2.1 dX7_keep_56 (by decide) ?_
  refine lv_istore_n (lv' := [(3, .int (nI 0)), (2, .int (nI (3 + 3))), (1, .ref (a 45)), (0, .ref (a 68))]) hC.1 hC.2.1 dX7_keep_57 rfl hl (by decide) rfl (fun ls hl => ?_)
  have L58_0 : ∀ (n : Nat), ∀ (h : Nat), (h ≤ 10) → (10 - h) < n → ∀ (H : Heap) (locs : List Loc) (ls : Array Slot), Wst E (XW E a) (sr σ 45 (upc (σ 4) h (va_cpy (σ 15) (upd (upd (upd (σ 45) 0 (σ 0 0)) 1 (σ 0 1)) 2 (σ 0 2)) 0 3 3))) A s.heap H locs → lv_has ls 4 [(0, .ref (a 68)), (1, .ref (a 45)), (2, .int (nI (3 + 3))), (3, .int (nI h))] → W p l e ({ frames := 1, cells := 0, slots := 0, locals := 24 }) s m args below meth c H locs 0 0 Q (F0 m 58 ls []) := by
    intro n
    induction n with
    | zero => intro h hh hn; exact absurd hn (Nat.not_lt_zero _)
    | succ n ih58 =>
      intro h hh hn58 H locs ls hw hl
      refine lv_iload_n hC.1 hC.2.1 dX7_keep_58 rfl (lv_at hl 3 rfl) ?_
      refine lv_bipush (v := nI 10) hC.1 hC.2.1 dX7_keep_59 (by decide) ?_
      refine q_cmpge hC 92 (cNle (by omega) (by omega)) dX7_keep_61 (by decide) (fun (c2 : 10 ≤ h) => ?_) (fun (c2 : h < 10) => ?_)
      · have hh9 : h = 10 := by omega
        rw [hh9] at hw
        refine lv_iinc (v := nI (3 + 3 + 10)) (lv' := [(2, .int (nI (3 + 3 + 10))), (0, .ref (a 68)), (1, .ref (a 45)), (3, .int (nI h))]) hC.1 hC.2.1 dX7_keep_92 hl (k := 2) rfl (nI_add _ _) (by decide) rfl (fun ls hl => ?_)
        refine lv_aload_n hC.1 hC.2.1 dX7_keep_95 rfl (lv_at hl 1 rfl) ?_
        refine gf_X7_20 hC hw dX7_keep_96 ?_
        refine gf_X7_53 hC hw dX7_keep_99 ?_
        refine lv_iconst (v := nI 0) hC.1 hC.2.1 dX7_keep_102 (by decide) ?_
        refine lv_aload_n hC.1 hC.2.1 dX7_keep_103 rfl (lv_at hl 2 rfl) ?_
        refine lv_iload_n hC.1 hC.2.1 dX7_keep_104 rfl (lv_at hl 0 rfl) ?_
        refine lv_bipush (v := nI 24) hC.1 hC.2.1 dX7_keep_105 (by decide) ?_
        refine q_cpy (sp := 0) (dp := (3 + 3 + 10)) (n := 24) 21 rfl 55 rfl (XW_s45 _) hC hw hl (by omega) (by omega) (by decide) (by decide) ⟨Nat.le_of_ble_eq_true rfl, Nat.le_of_ble_eq_true rfl⟩ wk2_182 dX7_keep_107 (fun H locs hw => ?_)
        have hw : Wst E (XW E a) (sr (sr σ 45 (upc (σ 4) 10 (va_cpy (σ 15) (upd (upd (upd (σ 45) 0 (σ 0 0)) 1 (σ 0 1)) 2 (σ 0 2)) 0 3 3))) 45 (va_cpy (σ 11) (upc (σ 4) 10 (va_cpy (σ 15) (upd (upd (upd (σ 45) 0 (σ 0 0)) 1 (σ 0 1)) 2 (σ 0 2)) 0 3 3)) 0 (3 + 3 + 10) 24)) A s.heap H locs := hw
        have hst_ : sr (sr σ 45 (upc (σ 4) 10 (va_cpy (σ 15) (upd (upd (upd (σ 45) 0 (σ 0 0)) 1 (σ 0 1)) 2 (σ 0 2)) 0 3 3))) 45 (va_cpy (σ 11) (upc (σ 4) 10 (va_cpy (σ 15) (upd (upd (upd (σ 45) 0 (σ 0 0)) 1 (σ 0 1)) 2 (σ 0 2)) 0 3 3)) 0 (3 + 3 + 10) 24) = sr σ 45 (va_cpy (σ 11) (upc (σ 4) 10 (va_cpy (σ 15) (upd (upd (upd (σ 45) 0 (σ 0 0)) 1 (σ 0 1)) 2 (σ 0 2)) 0 3 3)) 0 (3 + 3 + 10) 24) := by
          funext j_ x_
          by_cases e0 : j_ = 0
          · subst e0
            rfl
          · by_cases e45 : j_ = 45
            · subst e45; rfl
            · simp only [sr, e0, e45, if_false]
        rw [hst_] at hw
        refine lv_aload_n hC.1 hC.2.1 dX7_keep_110 rfl (lv_at hl 1 rfl) ?_
        refine gf_X7_20 hC hw dX7_keep_111 ?_
        refine gf_X7_56 hC hw dX7_keep_114 ?_
        refine lv_iconst (v := nI 0) hC.1 hC.2.1 dX7_keep_117 (by decide) ?_
        refine lv_aload_n hC.1 hC.2.1 dX7_keep_118 rfl (lv_at hl 2 rfl) ?_
        refine lv_iload_n hC.1 hC.2.1 dX7_keep_119 rfl (lv_at hl 0 rfl) ?_
        refine lv_bipush (v := nI 24) hC.1 hC.2.1 dX7_keep_120 (by decide) ?_
        refine q_addN hC dX7_keep_122 ?_
        refine lv_bipush (v := nI 24) hC.1 hC.2.1 dX7_keep_123 (by decide) ?_
        refine q_cpy (sp := 0) (dp := ((3 + 3 + 10) + 24)) (n := 24) 22 rfl 55 rfl (XW_s45 _) hC hw hl (by omega) (by omega) (by decide) (by decide) ⟨Nat.le_of_ble_eq_true rfl, Nat.le_of_ble_eq_true rfl⟩ wk2_182 dX7_keep_125 (fun H locs hw => ?_)
        have hw : Wst E (XW E a) (sr (sr σ 45 (va_cpy (σ 11) (upc (σ 4) 10 (va_cpy (σ 15) (upd (upd (upd (σ 45) 0 (σ 0 0)) 1 (σ 0 1)) 2 (σ 0 2)) 0 3 3)) 0 (3 + 3 + 10) 24)) 45 (va_cpy (σ 12) (va_cpy (σ 11) (upc (σ 4) 10 (va_cpy (σ 15) (upd (upd (upd (σ 45) 0 (σ 0 0)) 1 (σ 0 1)) 2 (σ 0 2)) 0 3 3)) 0 (3 + 3 + 10) 24) 0 ((3 + 3 + 10) + 24) 24)) A s.heap H locs := hw
        have hst_ : sr (sr σ 45 (va_cpy (σ 11) (upc (σ 4) 10 (va_cpy (σ 15) (upd (upd (upd (σ 45) 0 (σ 0 0)) 1 (σ 0 1)) 2 (σ 0 2)) 0 3 3)) 0 (3 + 3 + 10) 24)) 45 (va_cpy (σ 12) (va_cpy (σ 11) (upc (σ 4) 10 (va_cpy (σ 15) (upd (upd (upd (σ 45) 0 (σ 0 0)) 1 (σ 0 1)) 2 (σ 0 2)) 0 3 3)) 0 (3 + 3 + 10) 24) 0 ((3 + 3 + 10) + 24) 24) = sr σ 45 (va_cpy (σ 12) (va_cpy (σ 11) (upc (σ 4) 10 (va_cpy (σ 15) (upd (upd (upd (σ 45) 0 (σ 0 0)) 1 (σ 0 1)) 2 (σ 0 2)) 0 3 3)) 0 (3 + 3 + 10) 24) 0 ((3 + 3 + 10) + 24) 24) := by
          funext j_ x_
          by_cases e0 : j_ = 0
          · subst e0
            rfl
          · by_cases e45 : j_ = 45
            · subst e45; rfl
            · simp only [sr, e0, e45, if_false]
        rw [hst_] at hw
        refine lv_aload_n hC.1 hC.2.1 dX7_keep_128 rfl (lv_at hl 1 rfl) ?_
        refine gf_X7_20 hC hw dX7_keep_129 ?_
        refine gf_X7_59 hC hw dX7_keep_132 ?_
        refine lv_iconst (v := nI 0) hC.1 hC.2.1 dX7_keep_135 (by decide) ?_
        refine lv_aload_n hC.1 hC.2.1 dX7_keep_136 rfl (lv_at hl 2 rfl) ?_
        refine lv_iload_n hC.1 hC.2.1 dX7_keep_137 rfl (lv_at hl 0 rfl) ?_
        refine lv_bipush (v := nI 48) hC.1 hC.2.1 dX7_keep_138 (by decide) ?_
        refine q_addN hC dX7_keep_140 ?_
        refine lv_bipush (v := nI 24) hC.1 hC.2.1 dX7_keep_141 (by decide) ?_
        refine q_cpy (sp := 0) (dp := ((3 + 3 + 10) + 48)) (n := 24) 23 rfl 55 rfl (XW_s45 _) hC hw hl (by omega) (by omega) (by decide) (by decide) ⟨Nat.le_of_ble_eq_true rfl, Nat.le_of_ble_eq_true rfl⟩ wk2_182 dX7_keep_143 (fun H locs hw => ?_)
        have hw : Wst E (XW E a) (sr (sr σ 45 (va_cpy (σ 12) (va_cpy (σ 11) (upc (σ 4) 10 (va_cpy (σ 15) (upd (upd (upd (σ 45) 0 (σ 0 0)) 1 (σ 0 1)) 2 (σ 0 2)) 0 3 3)) 0 (3 + 3 + 10) 24) 0 ((3 + 3 + 10) + 24) 24)) 45 (va_cpy (σ 13) (va_cpy (σ 12) (va_cpy (σ 11) (upc (σ 4) 10 (va_cpy (σ 15) (upd (upd (upd (σ 45) 0 (σ 0 0)) 1 (σ 0 1)) 2 (σ 0 2)) 0 3 3)) 0 (3 + 3 + 10) 24) 0 ((3 + 3 + 10) + 24) 24) 0 ((3 + 3 + 10) + 48) 24)) A s.heap H locs := hw
        have hst_ : sr (sr σ 45 (va_cpy (σ 12) (va_cpy (σ 11) (upc (σ 4) 10 (va_cpy (σ 15) (upd (upd (upd (σ 45) 0 (σ 0 0)) 1 (σ 0 1)) 2 (σ 0 2)) 0 3 3)) 0 (3 + 3 + 10) 24) 0 ((3 + 3 + 10) + 24) 24)) 45 (va_cpy (σ 13) (va_cpy (σ 12) (va_cpy (σ 11) (upc (σ 4) 10 (va_cpy (σ 15) (upd (upd (upd (σ 45) 0 (σ 0 0)) 1 (σ 0 1)) 2 (σ 0 2)) 0 3 3)) 0 (3 + 3 + 10) 24) 0 ((3 + 3 + 10) + 24) 24) 0 ((3 + 3 + 10) + 48) 24) = sr σ 45 (va_cpy (σ 13) (va_cpy (σ 12) (va_cpy (σ 11) (upc (σ 4) 10 (va_cpy (σ 15) (upd (upd (upd (σ 45) 0 (σ 0 0)) 1 (σ 0 1)) 2 (σ 0 2)) 0 3 3)) 0 (3 + 3 + 10) 24) 0 ((3 + 3 + 10) + 24) 24) 0 ((3 + 3 + 10) + 48) 24) := by
          funext j_ x_
          by_cases e0 : j_ = 0
          · subst e0
            rfl
          · by_cases e45 : j_ = 45
            · subst e45; rfl
            · simp only [sr, e0, e45, if_false]
        rw [hst_] at hw
        refine lv_aload_n hC.1 hC.2.1 dX7_keep_146 rfl (lv_at hl 1 rfl) ?_
        refine gf_X7_20 hC hw dX7_keep_147 ?_
        refine gf_X7_62 hC hw dX7_keep_150 ?_
        refine lv_iconst (v := nI 0) hC.1 hC.2.1 dX7_keep_153 (by decide) ?_
        refine lv_aload_n hC.1 hC.2.1 dX7_keep_154 rfl (lv_at hl 2 rfl) ?_
        refine lv_iload_n hC.1 hC.2.1 dX7_keep_155 rfl (lv_at hl 0 rfl) ?_
        refine lv_bipush (v := nI 72) hC.1 hC.2.1 dX7_keep_156 (by decide) ?_
        refine q_addN hC dX7_keep_158 ?_
        refine lv_bipush (v := nI 24) hC.1 hC.2.1 dX7_keep_159 (by decide) ?_
        refine q_cpy (sp := 0) (dp := ((3 + 3 + 10) + 72)) (n := 24) 24 rfl 55 rfl (XW_s45 _) hC hw hl (by omega) (by omega) (by decide) (by decide) ⟨Nat.le_of_ble_eq_true rfl, Nat.le_of_ble_eq_true rfl⟩ wk2_182 dX7_keep_161 (fun H locs hw => ?_)
        have hw : Wst E (XW E a) (sr (sr σ 45 (va_cpy (σ 13) (va_cpy (σ 12) (va_cpy (σ 11) (upc (σ 4) 10 (va_cpy (σ 15) (upd (upd (upd (σ 45) 0 (σ 0 0)) 1 (σ 0 1)) 2 (σ 0 2)) 0 3 3)) 0 (3 + 3 + 10) 24) 0 ((3 + 3 + 10) + 24) 24) 0 ((3 + 3 + 10) + 48) 24)) 45 (va_cpy (σ 14) (va_cpy (σ 13) (va_cpy (σ 12) (va_cpy (σ 11) (upc (σ 4) 10 (va_cpy (σ 15) (upd (upd (upd (σ 45) 0 (σ 0 0)) 1 (σ 0 1)) 2 (σ 0 2)) 0 3 3)) 0 (3 + 3 + 10) 24) 0 ((3 + 3 + 10) + 24) 24) 0 ((3 + 3 + 10) + 48) 24) 0 ((3 + 3 + 10) + 72) 24)) A s.heap H locs := hw
        have hst_ : sr (sr σ 45 (va_cpy (σ 13) (va_cpy (σ 12) (va_cpy (σ 11) (upc (σ 4) 10 (va_cpy (σ 15) (upd (upd (upd (σ 45) 0 (σ 0 0)) 1 (σ 0 1)) 2 (σ 0 2)) 0 3 3)) 0 (3 + 3 + 10) 24) 0 ((3 + 3 + 10) + 24) 24) 0 ((3 + 3 + 10) + 48) 24)) 45 (va_cpy (σ 14) (va_cpy (σ 13) (va_cpy (σ 12) (va_cpy (σ 11) (upc (σ 4) 10 (va_cpy (σ 15) (upd (upd (upd (σ 45) 0 (σ 0 0)) 1 (σ 0 1)) 2 (σ 0 2)) 0 3 3)) 0 (3 + 3 + 10) 24) 0 ((3 + 3 + 10) + 24) 24) 0 ((3 + 3 + 10) + 48) 24) 0 ((3 + 3 + 10) + 72) 24) = sr σ 45 (va_cpy (σ 14) (va_cpy (σ 13) (va_cpy (σ 12) (va_cpy (σ 11) (upc (σ 4) 10 (va_cpy (σ 15) (upd (upd (upd (σ 45) 0 (σ 0 0)) 1 (σ 0 1)) 2 (σ 0 2)) 0 3 3)) 0 (3 + 3 + 10) 24) 0 ((3 + 3 + 10) + 24) 24) 0 ((3 + 3 + 10) + 48) 24) 0 ((3 + 3 + 10) + 72) 24) := by
          funext j_ x_
          by_cases e0 : j_ = 0
          · subst e0
            rfl
          · by_cases e45 : j_ = 45
            · subst e45; rfl
            · simp only [sr, e0, e45, if_false]
        rw [hst_] at hw
        refine lv_aload_n hC.1 hC.2.1 dX7_keep_164 rfl (lv_at hl 1 rfl) ?_
        refine lv_aload_n hC.1 hC.2.1 dX7_keep_165 rfl (lv_at hl 1 rfl) ?_
        refine gf_X7_28 (v := nI 15) hC hw hnx dX7_keep_166 ?_
        refine lv_bipush (v := nI 29) hC.1 hC.2.1 dX7_keep_169 (by decide) ?_
        have J184_4 : ∀ (w3 : Nat), w3 = (if 15 ≠ 29 then (15 + 1) else 0) → ∀ (H : Heap) (locs : List Loc) (ls : Array Slot), Wst E (XW E a) (sr σ 45 (va_cpy (σ 14) (va_cpy (σ 13) (va_cpy (σ 12) (va_cpy (σ 11) (upc (σ 4) 10 (va_cpy (σ 15) (upd (upd (upd (σ 45) 0 (σ 0 0)) 1 (σ 0 1)) 2 (σ 0 2)) 0 3 3)) 0 (3 + 3 + 10) 24) 0 ((3 + 3 + 10) + 24) 24) 0 ((3 + 3 + 10) + 48) 24) 0 ((3 + 3 + 10) + 72) 24)) A s.heap H locs → lv_has ls 4 [(0, .ref (a 68)), (1, .ref (a 45)), (2, .int (nI (3 + 3 + 10))), (3, .int (nI h))] → W p l e ({ frames := 1, cells := 0, slots := 0, locals := 24 }) s m args below meth c H locs 0 0 Q (F0 m 184 ls [.int (nI w3), .ref (a 68)]) := by
          intro w3 e4 H locs ls hw hl
          subst e4
          refine pf_X7_28 hC hw dX7_keep_184 (fun H locs hw => ?_)
          have hw : Wst E (XW E a) (sr (sr σ 45 (va_cpy (σ 14) (va_cpy (σ 13) (va_cpy (σ 12) (va_cpy (σ 11) (upc (σ 4) 10 (va_cpy (σ 15) (upd (upd (upd (σ 45) 0 (σ 0 0)) 1 (σ 0 1)) 2 (σ 0 2)) 0 3 3)) 0 (3 + 3 + 10) 24) 0 ((3 + 3 + 10) + 24) 24) 0 ((3 + 3 + 10) + 48) 24) 0 ((3 + 3 + 10) + 72) 24)) 0 (upd (σ 0) 3 (nI (if 15 ≠ 29 then (15 + 1) else 0)))) A s.heap H locs := hw
          refine lv_aload_n hC.1 hC.2.1 dX7_keep_187 rfl (lv_at hl 0 rfl) ?_
          refine lv_aload_n hC.1 hC.2.1 dX7_keep_188 rfl (lv_at hl 0 rfl) ?_
          refine gf_X7_65 (v := nI kp) hC hw hkp dX7_keep_189 ?_
          refine lv_bipush (v := nI 30) hC.1 hC.2.1 dX7_keep_192 (by decide) ?_
          have J210_6 : ∀ (w5 : Nat), w5 = (if kp ≠ 30 then (kp + 1) else kp) → ∀ (H : Heap) (locs : List Loc) (ls : Array Slot), Wst E (XW E a) (sr (sr σ 45 (va_cpy (σ 14) (va_cpy (σ 13) (va_cpy (σ 12) (va_cpy (σ 11) (upc (σ 4) 10 (va_cpy (σ 15) (upd (upd (upd (σ 45) 0 (σ 0 0)) 1 (σ 0 1)) 2 (σ 0 2)) 0 3 3)) 0 (3 + 3 + 10) 24) 0 ((3 + 3 + 10) + 24) 24) 0 ((3 + 3 + 10) + 48) 24) 0 ((3 + 3 + 10) + 72) 24)) 0 (upd (σ 0) 3 (nI (if 15 ≠ 29 then (15 + 1) else 0)))) A s.heap H locs → lv_has ls 4 [(0, .ref (a 68)), (1, .ref (a 45)), (2, .int (nI (3 + 3 + 10))), (3, .int (nI h))] → W p l e ({ frames := 1, cells := 0, slots := 0, locals := 24 }) s m args below meth c H locs 0 0 Q (F0 m 210 ls [.int (nI w5), .ref (a 68)]) := by
            intro w5 e6 H locs ls hw hl
            subst e6
            refine pf_X7_65 hC hw dX7_keep_210 (fun H locs hw => ?_)
            have hw : Wst E (XW E a) (sr (sr (sr σ 45 (va_cpy (σ 14) (va_cpy (σ 13) (va_cpy (σ 12) (va_cpy (σ 11) (upc (σ 4) 10 (va_cpy (σ 15) (upd (upd (upd (σ 45) 0 (σ 0 0)) 1 (σ 0 1)) 2 (σ 0 2)) 0 3 3)) 0 (3 + 3 + 10) 24) 0 ((3 + 3 + 10) + 24) 24) 0 ((3 + 3 + 10) + 48) 24) 0 ((3 + 3 + 10) + 72) 24)) 0 (upd (σ 0) 3 (nI (if 15 ≠ 29 then (15 + 1) else 0)))) 0 (upd (upd (σ 0) 3 (nI (if 15 ≠ 29 then (15 + 1) else 0))) 4 (nI (if kp ≠ 30 then (kp + 1) else kp)))) A s.heap H locs := hw
            have hst_ : sr (sr (sr σ 45 (va_cpy (σ 14) (va_cpy (σ 13) (va_cpy (σ 12) (va_cpy (σ 11) (upc (σ 4) 10 (va_cpy (σ 15) (upd (upd (upd (σ 45) 0 (σ 0 0)) 1 (σ 0 1)) 2 (σ 0 2)) 0 3 3)) 0 (3 + 3 + 10) 24) 0 ((3 + 3 + 10) + 24) 24) 0 ((3 + 3 + 10) + 48) 24) 0 ((3 + 3 + 10) + 72) 24)) 0 (upd (σ 0) 3 (nI (if 15 ≠ 29 then (15 + 1) else 0)))) 0 (upd (upd (σ 0) 3 (nI (if 15 ≠ 29 then (15 + 1) else 0))) 4 (nI (if kp ≠ 30 then (kp + 1) else kp))) = sr (sr σ 45 (va_cpy (σ 14) (va_cpy (σ 13) (va_cpy (σ 12) (va_cpy (σ 11) (upc (σ 4) 10 (va_cpy (σ 15) (upd (upd (upd (σ 45) 0 (σ 0 0)) 1 (σ 0 1)) 2 (σ 0 2)) 0 3 3)) 0 (3 + 3 + 10) 24) 0 ((3 + 3 + 10) + 24) 24) 0 ((3 + 3 + 10) + 48) 24) 0 ((3 + 3 + 10) + 72) 24)) 0 (upd (upd (σ 0) 3 (nI (if 15 ≠ 29 then (15 + 1) else 0))) 4 (nI (if kp ≠ 30 then (kp + 1) else kp))) := by
              funext j_ x_
              by_cases e0 : j_ = 0
              · subst e0
                by_cases y3 : x_ = 3
                · subst y3; rfl
                · by_cases y4 : x_ = 4
                  · subst y4; rfl
                  · simp [sr, upd, y3, y4]
              · by_cases e45 : j_ = 45
                · subst e45; rfl
                · simp only [sr, e0, e45, if_false]
            rw [hst_] at hw
            refine hret _ _ _ _ _ hw ?_ dX7_keep_213
            exact rfl
          refine q_cmpne hC 204 (cNeq (by omega) (by omega)) dX7_keep_194 (by decide) (fun (c7 : kp ≠ 30) => ?_) (fun (c7 : kp = 30) => ?_)
          · refine lv_aload_n hC.1 hC.2.1 dX7_keep_204 rfl (lv_at hl 0 rfl) ?_
            refine gf_X7_65 (v := nI kp) hC hw hkp dX7_keep_205 ?_
            refine lv_iconst (v := nI 1) hC.1 hC.2.1 dX7_keep_208 (by decide) ?_
            refine q_addN hC dX7_keep_209 ?_
            exact J210_6 _ (by (rw [if_pos c7]) <;> rfl) _ _ _ hw (lv_sub hl [0, 1, 2, 3] rfl)
          · refine lv_aload_n hC.1 hC.2.1 dX7_keep_197 rfl (lv_at hl 0 rfl) ?_
            refine gf_X7_65 (v := nI kp) hC hw hkp dX7_keep_198 ?_
            refine lv_goto (tgt := 210) hC.1 hC.2.1 dX7_keep_201 (by decide) ?_
            exact J210_6 _ (by (rw [if_neg (fun q => q c7)]) <;> rfl) _ _ _ hw (lv_sub hl [0, 1, 2, 3] rfl)
        refine q_cmpne hC 178 (cNeq (by omega) (by omega)) dX7_keep_171 (by decide) (fun (c8 : 15 ≠ 29) => ?_) (fun (c8 : 15 = 29) => ?_)
        · refine lv_aload_n hC.1 hC.2.1 dX7_keep_178 rfl (lv_at hl 1 rfl) ?_
          refine gf_X7_28 (v := nI 15) hC hw hnx dX7_keep_179 ?_
          refine lv_iconst (v := nI 1) hC.1 hC.2.1 dX7_keep_182 (by decide) ?_
          refine q_addN hC dX7_keep_183 ?_
          exact J184_4 _ (by (rw [if_pos c8]) <;> rfl) _ _ _ hw (lv_sub hl [1, 2, 0, 3] rfl)
        · refine lv_iconst (v := nI 0) hC.1 hC.2.1 dX7_keep_174 (by decide) ?_
          refine lv_goto (tgt := 184) hC.1 hC.2.1 dX7_keep_175 (by decide) ?_
          exact J184_4 _ (by (rw [if_neg (fun q => q c8)]) <;> rfl) _ _ _ hw (lv_sub hl [1, 2, 0, 3] rfl)
      · refine lv_aload_n hC.1 hC.2.1 dX7_keep_64 rfl (lv_at hl 1 rfl) ?_
        refine lv_iload_n hC.1 hC.2.1 dX7_keep_65 rfl (lv_at hl 2 rfl) ?_
        refine lv_iload_n hC.1 hC.2.1 dX7_keep_66 rfl (lv_at hl 3 rfl) ?_
        refine q_addN hC dX7_keep_67 ?_
        refine lv_aload_n hC.1 hC.2.1 dX7_keep_68 rfl (lv_at hl 0 rfl) ?_
        refine gf_X7_16 hC hw dX7_keep_69 ?_
        refine gf_X7_49 hC hw dX7_keep_72 ?_
        refine lv_iload_n hC.1 hC.2.1 dX7_keep_75 rfl (lv_at hl 3 rfl) ?_
        refine al_X4 (v := σ 4 h) hC hw (by omega) rfl dX7_keep_76 ?_
        have J85_10 : ∀ (w9 : Int32), w9 = (if ¬ (σ 4 h = 0) then (1 : Int32) else 0) → ∀ (H : Heap) (locs : List Loc) (ls : Array Slot), Wst E (XW E a) (sr σ 45 (upc (σ 4) h (va_cpy (σ 15) (upd (upd (upd (σ 45) 0 (σ 0 0)) 1 (σ 0 1)) 2 (σ 0 2)) 0 3 3))) A s.heap H locs → lv_has ls 4 [(0, .ref (a 68)), (1, .ref (a 45)), (2, .int (nI (3 + 3))), (3, .int (nI h))] → W p l e ({ frames := 1, cells := 0, slots := 0, locals := 24 }) s m args below meth c H locs 0 0 Q (F0 m 85 ls [.int (w9), .int (nI ((3 + 3) + h)), .ref (a 45)]) := by
          intro w9 e10 H locs ls hw hl
          subst e10
          refine q_ast (Wf := XW E a) 55 rfl (by decide) (XW_s45 _) hC hw (by omega) dX7_keep_85 (fun H locs hw => ?_)
          have hw : Wst E (XW E a) (sr (sr σ 45 (upc (σ 4) h (va_cpy (σ 15) (upd (upd (upd (σ 45) 0 (σ 0 0)) 1 (σ 0 1)) 2 (σ 0 2)) 0 3 3))) 45 (upd (upc (σ 4) h (va_cpy (σ 15) (upd (upd (upd (σ 45) 0 (σ 0 0)) 1 (σ 0 1)) 2 (σ 0 2)) 0 3 3)) ((3 + 3) + h) (if ¬ (σ 4 h = 0) then (1 : Int32) else 0))) A s.heap H locs := hw
          have hst_ : sr (sr σ 45 (upc (σ 4) h (va_cpy (σ 15) (upd (upd (upd (σ 45) 0 (σ 0 0)) 1 (σ 0 1)) 2 (σ 0 2)) 0 3 3))) 45 (upd (upc (σ 4) h (va_cpy (σ 15) (upd (upd (upd (σ 45) 0 (σ 0 0)) 1 (σ 0 1)) 2 (σ 0 2)) 0 3 3)) ((3 + 3) + h) (if ¬ (σ 4 h = 0) then (1 : Int32) else 0)) = sr σ 45 (upd (upc (σ 4) h (va_cpy (σ 15) (upd (upd (upd (σ 45) 0 (σ 0 0)) 1 (σ 0 1)) 2 (σ 0 2)) 0 3 3)) ((3 + 3) + h) (if ¬ (σ 4 h = 0) then (1 : Int32) else 0)) := by
            funext j_ x_
            by_cases e0 : j_ = 0
            · subst e0
              rfl
            · by_cases e45 : j_ = 45
              · subst e45; rfl
              · simp only [sr, e0, e45, if_false]
          rw [hst_] at hw
          refine lv_iinc (v := nI (h + 1)) (lv' := [(3, .int (nI (h + 1))), (0, .ref (a 68)), (1, .ref (a 45)), (2, .int (nI (3 + 3)))]) hC.1 hC.2.1 dX7_keep_86 hl (k := 3) rfl (nI_add _ _) (by decide) rfl (fun ls hl => ?_)
          refine lv_goto (tgt := 58) hC.1 hC.2.1 dX7_keep_89 (by decide) ?_
          rw [upc_s] at hw
          exact ih58 (h + 1) (by omega) (by omega) _ _ _ hw (lv_sub hl [1, 2, 3, 0] rfl)
        refine q_ifeq hC 84 cI dX7_keep_77 (by decide) (fun (c11 : σ 4 h = 0) => ?_) (fun (c11 : ¬ (σ 4 h = 0)) => ?_)
        · refine lv_iconst (v := nI 0) hC.1 hC.2.1 dX7_keep_84 (by decide) ?_
          exact J85_10 _ (if_neg (fun q => q c11)).symm _ _ _ hw (lv_sub hl [0, 1, 2, 3] rfl)
        · refine lv_iconst (v := nI 1) hC.1 hC.2.1 dX7_keep_80 (by decide) ?_
          refine lv_goto (tgt := 85) hC.1 hC.2.1 dX7_keep_81 (by decide) ?_
          exact J85_10 _ (if_pos c11).symm _ _ _ hw (lv_sub hl [0, 1, 2, 3] rfl)
  rw [← upc_0 (σ 4) (va_cpy (σ 15) (upd (upd (upd (σ 45) 0 (σ 0 0)) 1 (σ 0 1)) 2 (σ 0 2)) 0 3 3)] at hw
  exact L58_0 _ 0 (by omega) (Nat.lt_succ_self _) _ _ _ hw (lv_sub hl [3, 2, 1, 0] rfl)
set_option maxHeartbeats 4000000 in
set_option maxRecDepth 100000 in
theorem tX7_keep_k16 (l : Launch) (E : EV) (a : Nat → Nat) (σ : St) (kp : Nat) (hnx : σ 0 3 = nI 16) (hkp : σ 0 4 = nI kp) (hk30 : kp ≤ 30) : MV l E (XW E a) yX7_keep (Cond.code yX7_keep cX7_keep 4 none) ({ frames := 1, cells := 0, slots := 0, locals := 24 }) [.ref (a 68)] σ (fun u_ => u_ = sr (sr σ 46 (kpr σ (σ 46))) 0 (upd (upd (σ 0) 3 (nI (if 16 ≠ 29 then 16 + 1 else 0))) 4 (nI (if kp ≠ 30 then kp + 1 else kp)))) := by
  refine MV.mk (by decide +kernel) (Nat.le_of_ble_eq_true rfl) ?_
  intro p e s m args below meth c ls A Q hret hC hw hl
  have hC : Cxt E p s m args meth c cX7_keep 4 none RX7 A := hC
  have hl : lv_has ls 4 [(0, .ref (a 68))] := hl
  refine lv_aload_n hC.1 hC.2.1 dX7_keep_0 rfl (lv_at hl 0 rfl) ?_
  refine gf_X7_13 hC hw dX7_keep_1 ?_
  refine lv_aload_n hC.1 hC.2.1 dX7_keep_4 rfl (lv_at hl 0 rfl) ?_
  refine gf_X7_28 (v := nI 16) hC hw hnx dX7_keep_5 ?_
  refine q_aald hC hw (i := 16) (by decide) dX7_keep_8 ?_
  refine lv_astore_n (lv' := [(1, .ref (a 46)), (0, .ref (a 68))]) hC.1 hC.2.1 dX7_keep_9 rfl hl (by decide) rfl (fun ls hl => ?_)
  refine lv_aload_n hC.1 hC.2.1 dX7_keep_10 rfl (lv_at hl 0 rfl) ?_
  refine lv_iconst (v := nI 0) hC.1 hC.2.1 dX7_keep_11 (by decide) ?_
  refine lv_aload_n hC.1 hC.2.1 dX7_keep_12 rfl (lv_at hl 1 rfl) ?_
  refine gf_X7_16 hC hw dX7_keep_13 ?_
  refine gf_X7_32 (v := σ 0 0) hC hw rfl dX7_keep_16 ?_
  refine q_ast (Wf := XW E a) 56 rfl (by decide) (XW_s46 _) hC hw (by omega) dX7_keep_19 (fun H locs hw => ?_)
  have hw : Wst E (XW E a) (sr σ 46 (upd (σ 46) 0 (σ 0 0))) A s.heap H locs := hw
  refine lv_aload_n hC.1 hC.2.1 dX7_keep_20 rfl (lv_at hl 0 rfl) ?_
  refine lv_iconst (v := nI 1) hC.1 hC.2.1 dX7_keep_21 (by decide) ?_
  refine lv_aload_n hC.1 hC.2.1 dX7_keep_22 rfl (lv_at hl 1 rfl) ?_
  refine gf_X7_20 hC hw dX7_keep_23 ?_
  refine gf_X7_37 (v := σ 0 1) hC hw rfl dX7_keep_26 ?_
  refine q_ast (Wf := XW E a) 56 rfl (by decide) (XW_s46 _) hC hw (by omega) dX7_keep_29 (fun H locs hw => ?_)
  have hw : Wst E (XW E a) (sr (sr σ 46 (upd (σ 46) 0 (σ 0 0))) 46 (upd (upd (σ 46) 0 (σ 0 0)) 1 (σ 0 1))) A s.heap H locs := hw
  have hst_ : sr (sr σ 46 (upd (σ 46) 0 (σ 0 0))) 46 (upd (upd (σ 46) 0 (σ 0 0)) 1 (σ 0 1)) = sr σ 46 (upd (upd (σ 46) 0 (σ 0 0)) 1 (σ 0 1)) := by
    funext j_ x_
    by_cases e0 : j_ = 0
    · subst e0
      rfl
    · by_cases e46 : j_ = 46
      · subst e46; rfl
      · simp only [sr, e0, e46, if_false]
  rw [hst_] at hw
  refine lv_aload_n hC.1 hC.2.1 dX7_keep_30 rfl (lv_at hl 0 rfl) ?_
  refine lv_iconst (v := nI 2) hC.1 hC.2.1 dX7_keep_31 (by decide) ?_
  refine lv_aload_n hC.1 hC.2.1 dX7_keep_32 rfl (lv_at hl 1 rfl) ?_
  refine gf_X7_20 hC hw dX7_keep_33 ?_
  refine gf_X7_40 (v := σ 0 2) hC hw rfl dX7_keep_36 ?_
  refine q_ast (Wf := XW E a) 56 rfl (by decide) (XW_s46 _) hC hw (by omega) dX7_keep_39 (fun H locs hw => ?_)
  have hw : Wst E (XW E a) (sr (sr σ 46 (upd (upd (σ 46) 0 (σ 0 0)) 1 (σ 0 1))) 46 (upd (upd (upd (σ 46) 0 (σ 0 0)) 1 (σ 0 1)) 2 (σ 0 2))) A s.heap H locs := hw
  have hst_ : sr (sr σ 46 (upd (upd (σ 46) 0 (σ 0 0)) 1 (σ 0 1))) 46 (upd (upd (upd (σ 46) 0 (σ 0 0)) 1 (σ 0 1)) 2 (σ 0 2)) = sr σ 46 (upd (upd (upd (σ 46) 0 (σ 0 0)) 1 (σ 0 1)) 2 (σ 0 2)) := by
    funext j_ x_
    by_cases e0 : j_ = 0
    · subst e0
      rfl
    · by_cases e46 : j_ = 46
      · subst e46; rfl
      · simp only [sr, e0, e46, if_false]
  rw [hst_] at hw
  refine lv_iconst (v := nI 3) hC.1 hC.2.1 dX7_keep_40 (by decide) ?_
  refine lv_istore_n (lv' := [(2, .int (nI 3)), (1, .ref (a 46)), (0, .ref (a 68))]) hC.1 hC.2.1 dX7_keep_41 rfl hl (by decide) rfl (fun ls hl => ?_)
  refine lv_aload_n hC.1 hC.2.1 dX7_keep_42 rfl (lv_at hl 2 rfl) ?_
  refine gf_X7_24 hC hw dX7_keep_43 ?_
  refine lv_iconst (v := nI 0) hC.1 hC.2.1 dX7_keep_46 (by decide) ?_
  refine lv_aload_n hC.1 hC.2.1 dX7_keep_47 rfl (lv_at hl 1 rfl) ?_
  refine lv_iload_n hC.1 hC.2.1 dX7_keep_48 rfl (lv_at hl 0 rfl) ?_
  refine lv_iconst (v := nI 3) hC.1 hC.2.1 dX7_keep_49 (by decide) ?_
  refine q_cpy (sp := 0) (dp := 3) (n := 3) 25 rfl 56 rfl (XW_s46 _) hC hw hl (by omega) (by omega) (by decide) (by decide) ⟨Nat.le_of_ble_eq_true rfl, Nat.le_of_ble_eq_true rfl⟩ wk2_182 dX7_keep_50 (fun H locs hw => ?_)
  have hw : Wst E (XW E a) (sr (sr σ 46 (upd (upd (upd (σ 46) 0 (σ 0 0)) 1 (σ 0 1)) 2 (σ 0 2))) 46 (va_cpy (σ 15) (upd (upd (upd (σ 46) 0 (σ 0 0)) 1 (σ 0 1)) 2 (σ 0 2)) 0 3 3)) A s.heap H locs := hw
  have hst_ : sr (sr σ 46 (upd (upd (upd (σ 46) 0 (σ 0 0)) 1 (σ 0 1)) 2 (σ 0 2))) 46 (va_cpy (σ 15) (upd (upd (upd (σ 46) 0 (σ 0 0)) 1 (σ 0 1)) 2 (σ 0 2)) 0 3 3) = sr σ 46 (va_cpy (σ 15) (upd (upd (upd (σ 46) 0 (σ 0 0)) 1 (σ 0 1)) 2 (σ 0 2)) 0 3 3) := by
    funext j_ x_
    by_cases e0 : j_ = 0
    · subst e0
      rfl
    · by_cases e46 : j_ = 46
      · subst e46; rfl
      · simp only [sr, e0, e46, if_false]
  rw [hst_] at hw
  refine lv_iinc (v := nI (3 + 3)) (lv' := [(2, .int (nI (3 + 3))), (1, .ref (a 46)), (0, .ref (a 68))]) hC.1 hC.2.1 dX7_keep_53 hl (k := 0) rfl (nI_add _ _) (by decide) rfl (fun ls hl => ?_)
  refine lv_iconst (v := nI 0) hC.1 hC.2.1 dX7_keep_56 (by decide) ?_
  refine lv_istore_n (lv' := [(3, .int (nI 0)), (2, .int (nI (3 + 3))), (1, .ref (a 46)), (0, .ref (a 68))]) hC.1 hC.2.1 dX7_keep_57 rfl hl (by decide) rfl (fun ls hl => ?_)
  have L58_0 : ∀ (n : Nat), ∀ (h : Nat), (h ≤ 10) → (10 - h) < n → ∀ (H : Heap) (locs : List Loc) (ls : Array Slot), Wst E (XW E a) (sr σ 46 (upc (σ 4) h (va_cpy (σ 15) (upd (upd (upd (σ 46) 0 (σ 0 0)) 1 (σ 0 1)) 2 (σ 0 2)) 0 3 3))) A s.heap H locs → lv_has ls 4 [(0, .ref (a 68)), (1, .ref (a 46)), (2, .int (nI (3 + 3))), (3, .int (nI h))] → W p l e ({ frames := 1, cells := 0, slots := 0, locals := 24 }) s m args below meth c H locs 0 0 Q (F0 m 58 ls []) := by
    intro n
    induction n with
    | zero => intro h hh hn; exact absurd hn (Nat.not_lt_zero _)
    | succ n ih58 =>
      intro h hh hn58 H locs ls hw hl
      refine lv_iload_n hC.1 hC.2.1 dX7_keep_58 rfl (lv_at hl 3 rfl) ?_
      refine lv_bipush (v := nI 10) hC.1 hC.2.1 dX7_keep_59 (by decide) ?_
      refine q_cmpge hC 92 (cNle (by omega) (by omega)) dX7_keep_61 (by decide) (fun (c2 : 10 ≤ h) => ?_) (fun (c2 : h < 10) => ?_)
      · have hh9 : h = 10 := by omega
        rw [hh9] at hw
        refine lv_iinc (v := nI (3 + 3 + 10)) (lv' := [(2, .int (nI (3 + 3 + 10))), (0, .ref (a 68)), (1, .ref (a 46)), (3, .int (nI h))]) hC.1 hC.2.1 dX7_keep_92 hl (k := 2) rfl (nI_add _ _) (by decide) rfl (fun ls hl => ?_)
        refine lv_aload_n hC.1 hC.2.1 dX7_keep_95 rfl (lv_at hl 1 rfl) ?_
        refine gf_X7_20 hC hw dX7_keep_96 ?_
        refine gf_X7_53 hC hw dX7_keep_99 ?_
        refine lv_iconst (v := nI 0) hC.1 hC.2.1 dX7_keep_102 (by decide) ?_
        refine lv_aload_n hC.1 hC.2.1 dX7_keep_103 rfl (lv_at hl 2 rfl) ?_
        refine lv_iload_n hC.1 hC.2.1 dX7_keep_104 rfl (lv_at hl 0 rfl) ?_
        refine lv_bipush (v := nI 24) hC.1 hC.2.1 dX7_keep_105 (by decide) ?_
        refine q_cpy (sp := 0) (dp := (3 + 3 + 10)) (n := 24) 21 rfl 56 rfl (XW_s46 _) hC hw hl (by omega) (by omega) (by decide) (by decide) ⟨Nat.le_of_ble_eq_true rfl, Nat.le_of_ble_eq_true rfl⟩ wk2_182 dX7_keep_107 (fun H locs hw => ?_)
        have hw : Wst E (XW E a) (sr (sr σ 46 (upc (σ 4) 10 (va_cpy (σ 15) (upd (upd (upd (σ 46) 0 (σ 0 0)) 1 (σ 0 1)) 2 (σ 0 2)) 0 3 3))) 46 (va_cpy (σ 11) (upc (σ 4) 10 (va_cpy (σ 15) (upd (upd (upd (σ 46) 0 (σ 0 0)) 1 (σ 0 1)) 2 (σ 0 2)) 0 3 3)) 0 (3 + 3 + 10) 24)) A s.heap H locs := hw
        have hst_ : sr (sr σ 46 (upc (σ 4) 10 (va_cpy (σ 15) (upd (upd (upd (σ 46) 0 (σ 0 0)) 1 (σ 0 1)) 2 (σ 0 2)) 0 3 3))) 46 (va_cpy (σ 11) (upc (σ 4) 10 (va_cpy (σ 15) (upd (upd (upd (σ 46) 0 (σ 0 0)) 1 (σ 0 1)) 2 (σ 0 2)) 0 3 3)) 0 (3 + 3 + 10) 24) = sr σ 46 (va_cpy (σ 11) (upc (σ 4) 10 (va_cpy (σ 15) (upd (upd (upd (σ 46) 0 (σ 0 0)) 1 (σ 0 1)) 2 (σ 0 2)) 0 3 3)) 0 (3 + 3 + 10) 24) := by
          funext j_ x_
          by_cases e0 : j_ = 0
          · subst e0
            rfl
          · by_cases e46 : j_ = 46
            · subst e46; rfl
            · simp only [sr, e0, e46, if_false]
        rw [hst_] at hw
        refine lv_aload_n hC.1 hC.2.1 dX7_keep_110 rfl (lv_at hl 1 rfl) ?_
        refine gf_X7_20 hC hw dX7_keep_111 ?_
        refine gf_X7_56 hC hw dX7_keep_114 ?_
        refine lv_iconst (v := nI 0) hC.1 hC.2.1 dX7_keep_117 (by decide) ?_
        refine lv_aload_n hC.1 hC.2.1 dX7_keep_118 rfl (lv_at hl 2 rfl) ?_
        refine lv_iload_n hC.1 hC.2.1 dX7_keep_119 rfl (lv_at hl 0 rfl) ?_
        refine lv_bipush (v := nI 24) hC.1 hC.2.1 dX7_keep_120 (by decide) ?_
        refine q_addN hC dX7_keep_122 ?_
        refine lv_bipush (v := nI 24) hC.1 hC.2.1 dX7_keep_123 (by decide) ?_
        refine q_cpy (sp := 0) (dp := ((3 + 3 + 10) + 24)) (n := 24) 22 rfl 56 rfl (XW_s46 _) hC hw hl (by omega) (by omega) (by decide) (by decide) ⟨Nat.le_of_ble_eq_true rfl, Nat.le_of_ble_eq_true rfl⟩ wk2_182 dX7_keep_125 (fun H locs hw => ?_)
        have hw : Wst E (XW E a) (sr (sr σ 46 (va_cpy (σ 11) (upc (σ 4) 10 (va_cpy (σ 15) (upd (upd (upd (σ 46) 0 (σ 0 0)) 1 (σ 0 1)) 2 (σ 0 2)) 0 3 3)) 0 (3 + 3 + 10) 24)) 46 (va_cpy (σ 12) (va_cpy (σ 11) (upc (σ 4) 10 (va_cpy (σ 15) (upd (upd (upd (σ 46) 0 (σ 0 0)) 1 (σ 0 1)) 2 (σ 0 2)) 0 3 3)) 0 (3 + 3 + 10) 24) 0 ((3 + 3 + 10) + 24) 24)) A s.heap H locs := hw
        have hst_ : sr (sr σ 46 (va_cpy (σ 11) (upc (σ 4) 10 (va_cpy (σ 15) (upd (upd (upd (σ 46) 0 (σ 0 0)) 1 (σ 0 1)) 2 (σ 0 2)) 0 3 3)) 0 (3 + 3 + 10) 24)) 46 (va_cpy (σ 12) (va_cpy (σ 11) (upc (σ 4) 10 (va_cpy (σ 15) (upd (upd (upd (σ 46) 0 (σ 0 0)) 1 (σ 0 1)) 2 (σ 0 2)) 0 3 3)) 0 (3 + 3 + 10) 24) 0 ((3 + 3 + 10) + 24) 24) = sr σ 46 (va_cpy (σ 12) (va_cpy (σ 11) (upc (σ 4) 10 (va_cpy (σ 15) (upd (upd (upd (σ 46) 0 (σ 0 0)) 1 (σ 0 1)) 2 (σ 0 2)) 0 3 3)) 0 (3 + 3 + 10) 24) 0 ((3 + 3 + 10) + 24) 24) := by
          funext j_ x_
          by_cases e0 : j_ = 0
          · subst e0
            rfl
          · by_cases e46 : j_ = 46
            · subst e46; rfl
            · simp only [sr, e0, e46, if_false]
        rw [hst_] at hw
        refine lv_aload_n hC.1 hC.2.1 dX7_keep_128 rfl (lv_at hl 1 rfl) ?_
        refine gf_X7_20 hC hw dX7_keep_129 ?_
        refine gf_X7_59 hC hw dX7_keep_132 ?_
        refine lv_iconst (v := nI 0) hC.1 hC.2.1 dX7_keep_135 (by decide) ?_
        refine lv_aload_n hC.1 hC.2.1 dX7_keep_136 rfl (lv_at hl 2 rfl) ?_
        refine lv_iload_n hC.1 hC.2.1 dX7_keep_137 rfl (lv_at hl 0 rfl) ?_
        refine lv_bipush (v := nI 48) hC.1 hC.2.1 dX7_keep_138 (by decide) ?_
        refine q_addN hC dX7_keep_140 ?_
        refine lv_bipush (v := nI 24) hC.1 hC.2.1 dX7_keep_141 (by decide) ?_
        refine q_cpy (sp := 0) (dp := ((3 + 3 + 10) + 48)) (n := 24) 23 rfl 56 rfl (XW_s46 _) hC hw hl (by omega) (by omega) (by decide) (by decide) ⟨Nat.le_of_ble_eq_true rfl, Nat.le_of_ble_eq_true rfl⟩ wk2_182 dX7_keep_143 (fun H locs hw => ?_)
        have hw : Wst E (XW E a) (sr (sr σ 46 (va_cpy (σ 12) (va_cpy (σ 11) (upc (σ 4) 10 (va_cpy (σ 15) (upd (upd (upd (σ 46) 0 (σ 0 0)) 1 (σ 0 1)) 2 (σ 0 2)) 0 3 3)) 0 (3 + 3 + 10) 24) 0 ((3 + 3 + 10) + 24) 24)) 46 (va_cpy (σ 13) (va_cpy (σ 12) (va_cpy (σ 11) (upc (σ 4) 10 (va_cpy (σ 15) (upd (upd (upd (σ 46) 0 (σ 0 0)) 1 (σ 0 1)) 2 (σ 0 2)) 0 3 3)) 0 (3 + 3 + 10) 24) 0 ((3 + 3 + 10) + 24) 24) 0 ((3 + 3 + 10) + 48) 24)) A s.heap H locs := hw
        have hst_ : sr (sr σ 46 (va_cpy (σ 12) (va_cpy (σ 11) (upc (σ 4) 10 (va_cpy (σ 15) (upd (upd (upd (σ 46) 0 (σ 0 0)) 1 (σ 0 1)) 2 (σ 0 2)) 0 3 3)) 0 (3 + 3 + 10) 24) 0 ((3 + 3 + 10) + 24) 24)) 46 (va_cpy (σ 13) (va_cpy (σ 12) (va_cpy (σ 11) (upc (σ 4) 10 (va_cpy (σ 15) (upd (upd (upd (σ 46) 0 (σ 0 0)) 1 (σ 0 1)) 2 (σ 0 2)) 0 3 3)) 0 (3 + 3 + 10) 24) 0 ((3 + 3 + 10) + 24) 24) 0 ((3 + 3 + 10) + 48) 24) = sr σ 46 (va_cpy (σ 13) (va_cpy (σ 12) (va_cpy (σ 11) (upc (σ 4) 10 (va_cpy (σ 15) (upd (upd (upd (σ 46) 0 (σ 0 0)) 1 (σ 0 1)) 2 (σ 0 2)) 0 3 3)) 0 (3 + 3 + 10) 24) 0 ((3 + 3 + 10) + 24) 24) 0 ((3 + 3 + 10) + 48) 24) := by
          funext j_ x_
          by_cases e0 : j_ = 0
          · subst e0
            rfl
          · by_cases e46 : j_ = 46
            · subst e46; rfl
            · simp only [sr, e0, e46, if_false]
        rw [hst_] at hw
        refine lv_aload_n hC.1 hC.2.1 dX7_keep_146 rfl (lv_at hl 1 rfl) ?_
        refine gf_X7_20 hC hw dX7_keep_147 ?_
        refine gf_X7_62 hC hw dX7_keep_150 ?_
        refine lv_iconst (v := nI 0) hC.1 hC.2.1 dX7_keep_153 (by decide) ?_
        refine lv_aload_n hC.1 hC.2.1 dX7_keep_154 rfl (lv_at hl 2 rfl) ?_
        refine lv_iload_n hC.1 hC.2.1 dX7_keep_155 rfl (lv_at hl 0 rfl) ?_
        refine lv_bipush (v := nI 72) hC.1 hC.2.1 dX7_keep_156 (by decide) ?_
        refine q_addN hC dX7_keep_158 ?_
        refine lv_bipush (v := nI 24) hC.1 hC.2.1 dX7_keep_159 (by decide) ?_
        refine q_cpy (sp := 0) (dp := ((3 + 3 + 10) + 72)) (n := 24) 24 rfl 56 rfl (XW_s46 _) hC hw hl (by omega) (by omega) (by decide) (by decide) ⟨Nat.le_of_ble_eq_true rfl, Nat.le_of_ble_eq_true rfl⟩ wk2_182 dX7_keep_161 (fun H locs hw => ?_)
        have hw : Wst E (XW E a) (sr (sr σ 46 (va_cpy (σ 13) (va_cpy (σ 12) (va_cpy (σ 11) (upc (σ 4) 10 (va_cpy (σ 15) (upd (upd (upd (σ 46) 0 (σ 0 0)) 1 (σ 0 1)) 2 (σ 0 2)) 0 3 3)) 0 (3 + 3 + 10) 24) 0 ((3 + 3 + 10) + 24) 24) 0 ((3 + 3 + 10) + 48) 24)) 46 (va_cpy (σ 14) (va_cpy (σ 13) (va_cpy (σ 12) (va_cpy (σ 11) (upc (σ 4) 10 (va_cpy (σ 15) (upd (upd (upd (σ 46) 0 (σ 0 0)) 1 (σ 0 1)) 2 (σ 0 2)) 0 3 3)) 0 (3 + 3 + 10) 24) 0 ((3 + 3 + 10) + 24) 24) 0 ((3 + 3 + 10) + 48) 24) 0 ((3 + 3 + 10) + 72) 24)) A s.heap H locs := hw
        have hst_ : sr (sr σ 46 (va_cpy (σ 13) (va_cpy (σ 12) (va_cpy (σ 11) (upc (σ 4) 10 (va_cpy (σ 15) (upd (upd (upd (σ 46) 0 (σ 0 0)) 1 (σ 0 1)) 2 (σ 0 2)) 0 3 3)) 0 (3 + 3 + 10) 24) 0 ((3 + 3 + 10) + 24) 24) 0 ((3 + 3 + 10) + 48) 24)) 46 (va_cpy (σ 14) (va_cpy (σ 13) (va_cpy (σ 12) (va_cpy (σ 11) (upc (σ 4) 10 (va_cpy (σ 15) (upd (upd (upd (σ 46) 0 (σ 0 0)) 1 (σ 0 1)) 2 (σ 0 2)) 0 3 3)) 0 (3 + 3 + 10) 24) 0 ((3 + 3 + 10) + 24) 24) 0 ((3 + 3 + 10) + 48) 24) 0 ((3 + 3 + 10) + 72) 24) = sr σ 46 (va_cpy (σ 14) (va_cpy (σ 13) (va_cpy (σ 12) (va_cpy (σ 11) (upc (σ 4) 10 (va_cpy (σ 15) (upd (upd (upd (σ 46) 0 (σ 0 0)) 1 (σ 0 1)) 2 (σ 0 2)) 0 3 3)) 0 (3 + 3 + 10) 24) 0 ((3 + 3 + 10) + 24) 24) 0 ((3 + 3 + 10) + 48) 24) 0 ((3 + 3 + 10) + 72) 24) := by
          funext j_ x_
          by_cases e0 : j_ = 0
          · subst e0
            rfl
          · by_cases e46 : j_ = 46
            · subst e46; rfl
            · simp only [sr, e0, e46, if_false]
        rw [hst_] at hw
        refine lv_aload_n hC.1 hC.2.1 dX7_keep_164 rfl (lv_at hl 1 rfl) ?_
        refine lv_aload_n hC.1 hC.2.1 dX7_keep_165 rfl (lv_at hl 1 rfl) ?_
        refine gf_X7_28 (v := nI 16) hC hw hnx dX7_keep_166 ?_
        refine lv_bipush (v := nI 29) hC.1 hC.2.1 dX7_keep_169 (by decide) ?_
        have J184_4 : ∀ (w3 : Nat), w3 = (if 16 ≠ 29 then (16 + 1) else 0) → ∀ (H : Heap) (locs : List Loc) (ls : Array Slot), Wst E (XW E a) (sr σ 46 (va_cpy (σ 14) (va_cpy (σ 13) (va_cpy (σ 12) (va_cpy (σ 11) (upc (σ 4) 10 (va_cpy (σ 15) (upd (upd (upd (σ 46) 0 (σ 0 0)) 1 (σ 0 1)) 2 (σ 0 2)) 0 3 3)) 0 (3 + 3 + 10) 24) 0 ((3 + 3 + 10) + 24) 24) 0 ((3 + 3 + 10) + 48) 24) 0 ((3 + 3 + 10) + 72) 24)) A s.heap H locs → lv_has ls 4 [(0, .ref (a 68)), (1, .ref (a 46)), (2, .int (nI (3 + 3 + 10))), (3, .int (nI h))] → W p l e ({ frames := 1, cells := 0, slots := 0, locals := 24 }) s m args below meth c H locs 0 0 Q (F0 m 184 ls [.int (nI w3), .ref (a 68)]) := by
          intro w3 e4 H locs ls hw hl
          subst e4
          refine pf_X7_28 hC hw dX7_keep_184 (fun H locs hw => ?_)
          have hw : Wst E (XW E a) (sr (sr σ 46 (va_cpy (σ 14) (va_cpy (σ 13) (va_cpy (σ 12) (va_cpy (σ 11) (upc (σ 4) 10 (va_cpy (σ 15) (upd (upd (upd (σ 46) 0 (σ 0 0)) 1 (σ 0 1)) 2 (σ 0 2)) 0 3 3)) 0 (3 + 3 + 10) 24) 0 ((3 + 3 + 10) + 24) 24) 0 ((3 + 3 + 10) + 48) 24) 0 ((3 + 3 + 10) + 72) 24)) 0 (upd (σ 0) 3 (nI (if 16 ≠ 29 then (16 + 1) else 0)))) A s.heap H locs := hw
          refine lv_aload_n hC.1 hC.2.1 dX7_keep_187 rfl (lv_at hl 0 rfl) ?_
          refine lv_aload_n hC.1 hC.2.1 dX7_keep_188 rfl (lv_at hl 0 rfl) ?_
          refine gf_X7_65 (v := nI kp) hC hw hkp dX7_keep_189 ?_
          refine lv_bipush (v := nI 30) hC.1 hC.2.1 dX7_keep_192 (by decide) ?_
          have J210_6 : ∀ (w5 : Nat), w5 = (if kp ≠ 30 then (kp + 1) else kp) → ∀ (H : Heap) (locs : List Loc) (ls : Array Slot), Wst E (XW E a) (sr (sr σ 46 (va_cpy (σ 14) (va_cpy (σ 13) (va_cpy (σ 12) (va_cpy (σ 11) (upc (σ 4) 10 (va_cpy (σ 15) (upd (upd (upd (σ 46) 0 (σ 0 0)) 1 (σ 0 1)) 2 (σ 0 2)) 0 3 3)) 0 (3 + 3 + 10) 24) 0 ((3 + 3 + 10) + 24) 24) 0 ((3 + 3 + 10) + 48) 24) 0 ((3 + 3 + 10) + 72) 24)) 0 (upd (σ 0) 3 (nI (if 16 ≠ 29 then (16 + 1) else 0)))) A s.heap H locs → lv_has ls 4 [(0, .ref (a 68)), (1, .ref (a 46)), (2, .int (nI (3 + 3 + 10))), (3, .int (nI h))] → W p l e ({ frames := 1, cells := 0, slots := 0, locals := 24 }) s m args below meth c H locs 0 0 Q (F0 m 210 ls [.int (nI w5), .ref (a 68)]) := by
            intro w5 e6 H locs ls hw hl
            subst e6
            refine pf_X7_65 hC hw dX7_keep_210 (fun H locs hw => ?_)
            have hw : Wst E (XW E a) (sr (sr (sr σ 46 (va_cpy (σ 14) (va_cpy (σ 13) (va_cpy (σ 12) (va_cpy (σ 11) (upc (σ 4) 10 (va_cpy (σ 15) (upd (upd (upd (σ 46) 0 (σ 0 0)) 1 (σ 0 1)) 2 (σ 0 2)) 0 3 3)) 0 (3 + 3 + 10) 24) 0 ((3 + 3 + 10) + 24) 24) 0 ((3 + 3 + 10) + 48) 24) 0 ((3 + 3 + 10) + 72) 24)) 0 (upd (σ 0) 3 (nI (if 16 ≠ 29 then (16 + 1) else 0)))) 0 (upd (upd (σ 0) 3 (nI (if 16 ≠ 29 then (16 + 1) else 0))) 4 (nI (if kp ≠ 30 then (kp + 1) else kp)))) A s.heap H locs := hw
            have hst_ : sr (sr (sr σ 46 (va_cpy (σ 14) (va_cpy (σ 13) (va_cpy (σ 12) (va_cpy (σ 11) (upc (σ 4) 10 (va_cpy (σ 15) (upd (upd (upd (σ 46) 0 (σ 0 0)) 1 (σ 0 1)) 2 (σ 0 2)) 0 3 3)) 0 (3 + 3 + 10) 24) 0 ((3 + 3 + 10) + 24) 24) 0 ((3 + 3 + 10) + 48) 24) 0 ((3 + 3 + 10) + 72) 24)) 0 (upd (σ 0) 3 (nI (if 16 ≠ 29 then (16 + 1) else 0)))) 0 (upd (upd (σ 0) 3 (nI (if 16 ≠ 29 then (16 + 1) else 0))) 4 (nI (if kp ≠ 30 then (kp + 1) else kp))) = sr (sr σ 46 (va_cpy (σ 14) (va_cpy (σ 13) (va_cpy (σ 12) (va_cpy (σ 11) (upc (σ 4) 10 (va_cpy (σ 15) (upd (upd (upd (σ 46) 0 (σ 0 0)) 1 (σ 0 1)) 2 (σ 0 2)) 0 3 3)) 0 (3 + 3 + 10) 24) 0 ((3 + 3 + 10) + 24) 24) 0 ((3 + 3 + 10) + 48) 24) 0 ((3 + 3 + 10) + 72) 24)) 0 (upd (upd (σ 0) 3 (nI (if 16 ≠ 29 then (16 + 1) else 0))) 4 (nI (if kp ≠ 30 then (kp + 1) else kp))) := by
              funext j_ x_
              by_cases e0 : j_ = 0
              · subst e0
                by_cases y3 : x_ = 3
                · subst y3; rfl
                · by_cases y4 : x_ = 4
                  · subst y4; rfl
                  · simp [sr, upd, y3, y4]
              · by_cases e46 : j_ = 46
                · subst e46; rfl
                · simp only [sr, e0, e46, if_false]
            rw [hst_] at hw
            refine hret _ _ _ _ _ hw ?_ dX7_keep_213
            exact rfl
          refine q_cmpne hC 204 (cNeq (by omega) (by omega)) dX7_keep_194 (by decide) (fun (c7 : kp ≠ 30) => ?_) (fun (c7 : kp = 30) => ?_)
          · refine lv_aload_n hC.1 hC.2.1 dX7_keep_204 rfl (lv_at hl 0 rfl) ?_
            refine gf_X7_65 (v := nI kp) hC hw hkp dX7_keep_205 ?_
            refine lv_iconst (v := nI 1) hC.1 hC.2.1 dX7_keep_208 (by decide) ?_
            refine q_addN hC dX7_keep_209 ?_
            exact J210_6 _ (by (rw [if_pos c7]) <;> rfl) _ _ _ hw (lv_sub hl [0, 1, 2, 3] rfl)
          · refine lv_aload_n hC.1 hC.2.1 dX7_keep_197 rfl (lv_at hl 0 rfl) ?_
            refine gf_X7_65 (v := nI kp) hC hw hkp dX7_keep_198 ?_
            refine lv_goto (tgt := 210) hC.1 hC.2.1 dX7_keep_201 (by decide) ?_
            exact J210_6 _ (by (rw [if_neg (fun q => q c7)]) <;> rfl) _ _ _ hw (lv_sub hl [0, 1, 2, 3] rfl)
        refine q_cmpne hC 178 (cNeq (by omega) (by omega)) dX7_keep_171 (by decide) (fun (c8 : 16 ≠ 29) => ?_) (fun (c8 : 16 = 29) => ?_)
        · refine lv_aload_n hC.1 hC.2.1 dX7_keep_178 rfl (lv_at hl 1 rfl) ?_
          refine gf_X7_28 (v := nI 16) hC hw hnx dX7_keep_179 ?_
          refine lv_iconst (v := nI 1) hC.1 hC.2.1 dX7_keep_182 (by decide) ?_
          refine q_addN hC dX7_keep_183 ?_
          exact J184_4 _ (by (rw [if_pos c8]) <;> rfl) _ _ _ hw (lv_sub hl [1, 2, 0, 3] rfl)
        · refine lv_iconst (v := nI 0) hC.1 hC.2.1 dX7_keep_174 (by decide) ?_
          refine lv_goto (tgt := 184) hC.1 hC.2.1 dX7_keep_175 (by decide) ?_
          exact J184_4 _ (by (rw [if_neg (fun q => q c8)]) <;> rfl) _ _ _ hw (lv_sub hl [1, 2, 0, 3] rfl)
      · refine lv_aload_n hC.1 hC.2.1 dX7_keep_64 rfl (lv_at hl 1 rfl) ?_
        refine lv_iload_n hC.1 hC.2.1 dX7_keep_65 rfl (lv_at hl 2 rfl) ?_
        refine lv_iload_n hC.1 hC.2.1 dX7_keep_66 rfl (lv_at hl 3 rfl) ?_
        refine q_addN hC dX7_keep_67 ?_
        refine lv_aload_n hC.1 hC.2.1 dX7_keep_68 rfl (lv_at hl 0 rfl) ?_
        refine gf_X7_16 hC hw dX7_keep_69 ?_
        refine gf_X7_49 hC hw dX7_keep_72 ?_
        refine lv_iload_n hC.1 hC.2.1 dX7_keep_75 rfl (lv_at hl 3 rfl) ?_
        refine al_X4 (v := σ 4 h) hC hw (by omega) rfl dX7_keep_76 ?_
        have J85_10 : ∀ (w9 : Int32), w9 = (if ¬ (σ 4 h = 0) then (1 : Int32) else 0) → ∀ (H : Heap) (locs : List Loc) (ls : Array Slot), Wst E (XW E a) (sr σ 46 (upc (σ 4) h (va_cpy (σ 15) (upd (upd (upd (σ 46) 0 (σ 0 0)) 1 (σ 0 1)) 2 (σ 0 2)) 0 3 3))) A s.heap H locs → lv_has ls 4 [(0, .ref (a 68)), (1, .ref (a 46)), (2, .int (nI (3 + 3))), (3, .int (nI h))] → W p l e ({ frames := 1, cells := 0, slots := 0, locals := 24 }) s m args below meth c H locs 0 0 Q (F0 m 85 ls [.int (w9), .int (nI ((3 + 3) + h)), .ref (a 46)]) := by
          intro w9 e10 H locs ls hw hl
          subst e10
          refine q_ast (Wf := XW E a) 56 rfl (by decide) (XW_s46 _) hC hw (by omega) dX7_keep_85 (fun H locs hw => ?_)
          have hw : Wst E (XW E a) (sr (sr σ 46 (upc (σ 4) h (va_cpy (σ 15) (upd (upd (upd (σ 46) 0 (σ 0 0)) 1 (σ 0 1)) 2 (σ 0 2)) 0 3 3))) 46 (upd (upc (σ 4) h (va_cpy (σ 15) (upd (upd (upd (σ 46) 0 (σ 0 0)) 1 (σ 0 1)) 2 (σ 0 2)) 0 3 3)) ((3 + 3) + h) (if ¬ (σ 4 h = 0) then (1 : Int32) else 0))) A s.heap H locs := hw
          have hst_ : sr (sr σ 46 (upc (σ 4) h (va_cpy (σ 15) (upd (upd (upd (σ 46) 0 (σ 0 0)) 1 (σ 0 1)) 2 (σ 0 2)) 0 3 3))) 46 (upd (upc (σ 4) h (va_cpy (σ 15) (upd (upd (upd (σ 46) 0 (σ 0 0)) 1 (σ 0 1)) 2 (σ 0 2)) 0 3 3)) ((3 + 3) + h) (if ¬ (σ 4 h = 0) then (1 : Int32) else 0)) = sr σ 46 (upd (upc (σ 4) h (va_cpy (σ 15) (upd (upd (upd (σ 46) 0 (σ 0 0)) 1 (σ 0 1)) 2 (σ 0 2)) 0 3 3)) ((3 + 3) + h) (if ¬ (σ 4 h = 0) then (1 : Int32) else 0)) := by
            funext j_ x_
            by_cases e0 : j_ = 0
            · subst e0
              rfl
            · by_cases e46 : j_ = 46
              · subst e46; rfl
              · simp only [sr, e0, e46, if_false]
          rw [hst_] at hw
          refine lv_iinc (v := nI (h + 1)) (lv' := [(3, .int (nI (h + 1))), (0, .ref (a 68)), (1, .ref (a 46)), (2, .int (nI (3 + 3)))]) hC.1 hC.2.1 dX7_keep_86 hl (k := 3) rfl (nI_add _ _) (by decide) rfl (fun ls hl => ?_)
          refine lv_goto (tgt := 58) hC.1 hC.2.1 dX7_keep_89 (by decide) ?_
          rw [upc_s] at hw
          exact ih58 (h + 1) (by omega) (by omega) _ _ _ hw (lv_sub hl [1, 2, 3, 0] rfl)
        refine q_ifeq hC 84 cI dX7_keep_77 (by decide) (fun (c11 : σ 4 h = 0) => ?_) (fun (c11 : ¬ (σ 4 h = 0)) => ?_)
        · refine lv_iconst (v := nI 0) hC.1 hC.2.1 dX7_keep_84 (by decide) ?_
          exact J85_10 _ (if_neg (fun q => q c11)).symm _ _ _ hw (lv_sub hl [0, 1, 2, 3] rfl)
        · refine lv_iconst (v := nI 1) hC.1 hC.2.1 dX7_keep_80 (by decide) ?_
          refine lv_goto (tgt := 85) hC.1 hC.2.1 dX7_keep_81 (by decide) ?_
          exact J85_10 _ (if_pos c11).symm _ _ _ hw (lv_sub hl [0, 1, 2, 3] rfl)
  rw [← upc_0 (σ 4) (va_cpy (σ 15) (upd (upd (upd (σ 46) 0 (σ 0 0)) 1 (σ 0 1)) 2 (σ 0 2)) 0 3 3)] at hw
  exact L58_0 _ 0 (by omega) (Nat.lt_succ_self _) _ _ _ hw (lv_sub hl [3, 2, 1, 0] rfl)
set_option maxHeartbeats 4000000 in
set_option maxRecDepth 100000 in
theorem tX7_keep_k17 (l : Launch) (E : EV) (a : Nat → Nat) (σ : St) (kp : Nat) (hnx : σ 0 3 = nI 17) (hkp : σ 0 4 = nI kp) (hk30 : kp ≤ 30) : MV l E (XW E a) yX7_keep (Cond.code yX7_keep cX7_keep 4 none) ({ frames := 1, cells := 0, slots := 0, locals := 24 }) [.ref (a 68)] σ (fun u_ => u_ = sr (sr σ 47 (kpr σ (σ 47))) 0 (upd (upd (σ 0) 3 (nI (if 17 ≠ 29 then 17 + 1 else 0))) 4 (nI (if kp ≠ 30 then kp + 1 else kp)))) := by
  refine MV.mk (by decide +kernel) (Nat.le_of_ble_eq_true rfl) ?_
  intro p e s m args below meth c ls A Q hret hC hw hl
  have hC : Cxt E p s m args meth c cX7_keep 4 none RX7 A := hC
  have hl : lv_has ls 4 [(0, .ref (a 68))] := hl
  refine lv_aload_n hC.1 hC.2.1 dX7_keep_0 rfl (lv_at hl 0 rfl) ?_
  refine gf_X7_13 hC hw dX7_keep_1 ?_
  refine lv_aload_n hC.1 hC.2.1 dX7_keep_4 rfl (lv_at hl 0 rfl) ?_
  refine gf_X7_28 (v := nI 17) hC hw hnx dX7_keep_5 ?_
  refine q_aald hC hw (i := 17) (by decide) dX7_keep_8 ?_
  refine lv_astore_n (lv' := [(1, .ref (a 47)), (0, .ref (a 68))]) hC.1 hC.2.1 dX7_keep_9 rfl hl (by decide) rfl (fun ls hl => ?_)
  refine lv_aload_n hC.1 hC.2.1 dX7_keep_10 rfl (lv_at hl 0 rfl) ?_
  refine lv_iconst (v := nI 0) hC.1 hC.2.1 dX7_keep_11 (by decide) ?_
  refine lv_aload_n hC.1 hC.2.1 dX7_keep_12 rfl (lv_at hl 1 rfl) ?_
  refine gf_X7_16 hC hw dX7_keep_13 ?_
  refine gf_X7_32 (v := σ 0 0) hC hw rfl dX7_keep_16 ?_
  refine q_ast (Wf := XW E a) 57 rfl (by decide) (XW_s47 _) hC hw (by omega) dX7_keep_19 (fun H locs hw => ?_)
  have hw : Wst E (XW E a) (sr σ 47 (upd (σ 47) 0 (σ 0 0))) A s.heap H locs := hw
  refine lv_aload_n hC.1 hC.2.1 dX7_keep_20 rfl (lv_at hl 0 rfl) ?_
  refine lv_iconst (v := nI 1) hC.1 hC.2.1 dX7_keep_21 (by decide) ?_
  refine lv_aload_n hC.1 hC.2.1 dX7_keep_22 rfl (lv_at hl 1 rfl) ?_
  refine gf_X7_20 hC hw dX7_keep_23 ?_
  refine gf_X7_37 (v := σ 0 1) hC hw rfl dX7_keep_26 ?_
  refine q_ast (Wf := XW E a) 57 rfl (by decide) (XW_s47 _) hC hw (by omega) dX7_keep_29 (fun H locs hw => ?_)
  have hw : Wst E (XW E a) (sr (sr σ 47 (upd (σ 47) 0 (σ 0 0))) 47 (upd (upd (σ 47) 0 (σ 0 0)) 1 (σ 0 1))) A s.heap H locs := hw
  have hst_ : sr (sr σ 47 (upd (σ 47) 0 (σ 0 0))) 47 (upd (upd (σ 47) 0 (σ 0 0)) 1 (σ 0 1)) = sr σ 47 (upd (upd (σ 47) 0 (σ 0 0)) 1 (σ 0 1)) := by
    funext j_ x_
    by_cases e0 : j_ = 0
    · subst e0
      rfl
    · by_cases e47 : j_ = 47
      · subst e47; rfl
      · simp only [sr, e0, e47, if_false]
  rw [hst_] at hw
  refine lv_aload_n hC.1 hC.2.1 dX7_keep_30 rfl (lv_at hl 0 rfl) ?_
  refine lv_iconst (v := nI 2) hC.1 hC.2.1 dX7_keep_31 (by decide) ?_
  refine lv_aload_n hC.1 hC.2.1 dX7_keep_32 rfl (lv_at hl 1 rfl) ?_
  refine gf_X7_20 hC hw dX7_keep_33 ?_
  refine gf_X7_40 (v := σ 0 2) hC hw rfl dX7_keep_36 ?_
  refine q_ast (Wf := XW E a) 57 rfl (by decide) (XW_s47 _) hC hw (by omega) dX7_keep_39 (fun H locs hw => ?_)
  have hw : Wst E (XW E a) (sr (sr σ 47 (upd (upd (σ 47) 0 (σ 0 0)) 1 (σ 0 1))) 47 (upd (upd (upd (σ 47) 0 (σ 0 0)) 1 (σ 0 1)) 2 (σ 0 2))) A s.heap H locs := hw
  have hst_ : sr (sr σ 47 (upd (upd (σ 47) 0 (σ 0 0)) 1 (σ 0 1))) 47 (upd (upd (upd (σ 47) 0 (σ 0 0)) 1 (σ 0 1)) 2 (σ 0 2)) = sr σ 47 (upd (upd (upd (σ 47) 0 (σ 0 0)) 1 (σ 0 1)) 2 (σ 0 2)) := by
    funext j_ x_
    by_cases e0 : j_ = 0
    · subst e0
      rfl
    · by_cases e47 : j_ = 47
      · subst e47; rfl
      · simp only [sr, e0, e47, if_false]
  rw [hst_] at hw
  refine lv_iconst (v := nI 3) hC.1 hC.2.1 dX7_keep_40 (by decide) ?_
  refine lv_istore_n (lv' := [(2, .int (nI 3)), (1, .ref (a 47)), (0, .ref (a 68))]) hC.1 hC.2.1 dX7_keep_41 rfl hl (by decide) rfl (fun ls hl => ?_)
  refine lv_aload_n hC.1 hC.2.1 dX7_keep_42 rfl (lv_at hl 2 rfl) ?_
  refine gf_X7_24 hC hw dX7_keep_43 ?_
  refine lv_iconst (v := nI 0) hC.1 hC.2.1 dX7_keep_46 (by decide) ?_
  refine lv_aload_n hC.1 hC.2.1 dX7_keep_47 rfl (lv_at hl 1 rfl) ?_
  refine lv_iload_n hC.1 hC.2.1 dX7_keep_48 rfl (lv_at hl 0 rfl) ?_
  refine lv_iconst (v := nI 3) hC.1 hC.2.1 dX7_keep_49 (by decide) ?_
  refine q_cpy (sp := 0) (dp := 3) (n := 3) 25 rfl 57 rfl (XW_s47 _) hC hw hl (by omega) (by omega) (by decide) (by decide) ⟨Nat.le_of_ble_eq_true rfl, Nat.le_of_ble_eq_true rfl⟩ wk2_182 dX7_keep_50 (fun H locs hw => ?_)
  have hw : Wst E (XW E a) (sr (sr σ 47 (upd (upd (upd (σ 47) 0 (σ 0 0)) 1 (σ 0 1)) 2 (σ 0 2))) 47 (va_cpy (σ 15) (upd (upd (upd (σ 47) 0 (σ 0 0)) 1 (σ 0 1)) 2 (σ 0 2)) 0 3 3)) A s.heap H locs := hw
  have hst_ : sr (sr σ 47 (upd (upd (upd (σ 47) 0 (σ 0 0)) 1 (σ 0 1)) 2 (σ 0 2))) 47 (va_cpy (σ 15) (upd (upd (upd (σ 47) 0 (σ 0 0)) 1 (σ 0 1)) 2 (σ 0 2)) 0 3 3) = sr σ 47 (va_cpy (σ 15) (upd (upd (upd (σ 47) 0 (σ 0 0)) 1 (σ 0 1)) 2 (σ 0 2)) 0 3 3) := by
    funext j_ x_
    by_cases e0 : j_ = 0
    · subst e0
      rfl
    · by_cases e47 : j_ = 47
      · subst e47; rfl
      · simp only [sr, e0, e47, if_false]
  rw [hst_] at hw
  refine lv_iinc (v := nI (3 + 3)) (lv' := [(2, .int (nI (3 + 3))), (1, .ref (a 47)), (0, .ref (a 68))]) hC.1 hC.2.1 dX7_keep_53 hl (k := 0) rfl (nI_add _ _) (by decide) rfl (fun ls hl => ?_)
  refine lv_iconst (v := nI 0) hC.1 hC.2.1 dX7_keep_56 (by decide) ?_
  refine lv_istore_n (lv' := [(3, .int (nI 0)), (2, .int (nI (3 + 3))), (1, .ref (a 47)), (0, .ref (a 68))]) hC.1 hC.2.1 dX7_keep_57 rfl hl (by decide) rfl (fun ls hl => ?_)
  have L58_0 : ∀ (n : Nat), ∀ (h : Nat), (h ≤ 10) → (10 - h) < n → ∀ (H : Heap) (locs : List Loc) (ls : Array Slot), Wst E (XW E a) (sr σ 47 (upc (σ 4) h (va_cpy (σ 15) (upd (upd (upd (σ 47) 0 (σ 0 0)) 1 (σ 0 1)) 2 (σ 0 2)) 0 3 3))) A s.heap H locs → lv_has ls 4 [(0, .ref (a 68)), (1, .ref (a 47)), (2, .int (nI (3 + 3))), (3, .int (nI h))] → W p l e ({ frames := 1, cells := 0, slots := 0, locals := 24 }) s m args below meth c H locs 0 0 Q (F0 m 58 ls []) := by
    intro n
    induction n with
    | zero => intro h hh hn; exact absurd hn (Nat.not_lt_zero _)
    | succ n ih58 =>
      intro h hh hn58 H locs ls hw hl
      refine lv_iload_n hC.1 hC.2.1 dX7_keep_58 rfl (lv_at hl 3 rfl) ?_
      refine lv_bipush (v := nI 10) hC.1 hC.2.1 dX7_keep_59 (by decide) ?_
      refine q_cmpge hC 92 (cNle (by omega) (by omega)) dX7_keep_61 (by decide) (fun (c2 : 10 ≤ h) => ?_) (fun (c2 : h < 10) => ?_)
      · have hh9 : h = 10 := by omega
        rw [hh9] at hw
        refine lv_iinc (v := nI (3 + 3 + 10)) (lv' := [(2, .int (nI (3 + 3 + 10))), (0, .ref (a 68)), (1, .ref (a 47)), (3, .int (nI h))]) hC.1 hC.2.1 dX7_keep_92 hl (k := 2) rfl (nI_add _ _) (by decide) rfl (fun ls hl => ?_)
        refine lv_aload_n hC.1 hC.2.1 dX7_keep_95 rfl (lv_at hl 1 rfl) ?_
        refine gf_X7_20 hC hw dX7_keep_96 ?_
        refine gf_X7_53 hC hw dX7_keep_99 ?_
        refine lv_iconst (v := nI 0) hC.1 hC.2.1 dX7_keep_102 (by decide) ?_
        refine lv_aload_n hC.1 hC.2.1 dX7_keep_103 rfl (lv_at hl 2 rfl) ?_
        refine lv_iload_n hC.1 hC.2.1 dX7_keep_104 rfl (lv_at hl 0 rfl) ?_
        refine lv_bipush (v := nI 24) hC.1 hC.2.1 dX7_keep_105 (by decide) ?_
        refine q_cpy (sp := 0) (dp := (3 + 3 + 10)) (n := 24) 21 rfl 57 rfl (XW_s47 _) hC hw hl (by omega) (by omega) (by decide) (by decide) ⟨Nat.le_of_ble_eq_true rfl, Nat.le_of_ble_eq_true rfl⟩ wk2_182 dX7_keep_107 (fun H locs hw => ?_)
        have hw : Wst E (XW E a) (sr (sr σ 47 (upc (σ 4) 10 (va_cpy (σ 15) (upd (upd (upd (σ 47) 0 (σ 0 0)) 1 (σ 0 1)) 2 (σ 0 2)) 0 3 3))) 47 (va_cpy (σ 11) (upc (σ 4) 10 (va_cpy (σ 15) (upd (upd (upd (σ 47) 0 (σ 0 0)) 1 (σ 0 1)) 2 (σ 0 2)) 0 3 3)) 0 (3 + 3 + 10) 24)) A s.heap H locs := hw
        have hst_ : sr (sr σ 47 (upc (σ 4) 10 (va_cpy (σ 15) (upd (upd (upd (σ 47) 0 (σ 0 0)) 1 (σ 0 1)) 2 (σ 0 2)) 0 3 3))) 47 (va_cpy (σ 11) (upc (σ 4) 10 (va_cpy (σ 15) (upd (upd (upd (σ 47) 0 (σ 0 0)) 1 (σ 0 1)) 2 (σ 0 2)) 0 3 3)) 0 (3 + 3 + 10) 24) = sr σ 47 (va_cpy (σ 11) (upc (σ 4) 10 (va_cpy (σ 15) (upd (upd (upd (σ 47) 0 (σ 0 0)) 1 (σ 0 1)) 2 (σ 0 2)) 0 3 3)) 0 (3 + 3 + 10) 24) := by
          funext j_ x_
          by_cases e0 : j_ = 0
          · subst e0
            rfl
          · by_cases e47 : j_ = 47
            · subst e47; rfl
            · simp only [sr, e0, e47, if_false]
        rw [hst_] at hw
        refine lv_aload_n hC.1 hC.2.1 dX7_keep_110 rfl (lv_at hl 1 rfl) ?_
        refine gf_X7_20 hC hw dX7_keep_111 ?_
        refine gf_X7_56 hC hw dX7_keep_114 ?_
        refine lv_iconst (v := nI 0) hC.1 hC.2.1 dX7_keep_117 (by decide) ?_
        refine lv_aload_n hC.1 hC.2.1 dX7_keep_118 rfl (lv_at hl 2 rfl) ?_
        refine lv_iload_n hC.1 hC.2.1 dX7_keep_119 rfl (lv_at hl 0 rfl) ?_
        refine lv_bipush (v := nI 24) hC.1 hC.2.1 dX7_keep_120 (by decide) ?_
        refine q_addN hC dX7_keep_122 ?_
        refine lv_bipush (v := nI 24) hC.1 hC.2.1 dX7_keep_123 (by decide) ?_
        refine q_cpy (sp := 0) (dp := ((3 + 3 + 10) + 24)) (n := 24) 22 rfl 57 rfl (XW_s47 _) hC hw hl (by omega) (by omega) (by decide) (by decide) ⟨Nat.le_of_ble_eq_true rfl, Nat.le_of_ble_eq_true rfl⟩ wk2_182 dX7_keep_125 (fun H locs hw => ?_)
        have hw : Wst E (XW E a) (sr (sr σ 47 (va_cpy (σ 11) (upc (σ 4) 10 (va_cpy (σ 15) (upd (upd (upd (σ 47) 0 (σ 0 0)) 1 (σ 0 1)) 2 (σ 0 2)) 0 3 3)) 0 (3 + 3 + 10) 24)) 47 (va_cpy (σ 12) (va_cpy (σ 11) (upc (σ 4) 10 (va_cpy (σ 15) (upd (upd (upd (σ 47) 0 (σ 0 0)) 1 (σ 0 1)) 2 (σ 0 2)) 0 3 3)) 0 (3 + 3 + 10) 24) 0 ((3 + 3 + 10) + 24) 24)) A s.heap H locs := hw
        have hst_ : sr (sr σ 47 (va_cpy (σ 11) (upc (σ 4) 10 (va_cpy (σ 15) (upd (upd (upd (σ 47) 0 (σ 0 0)) 1 (σ 0 1)) 2 (σ 0 2)) 0 3 3)) 0 (3 + 3 + 10) 24)) 47 (va_cpy (σ 12) (va_cpy (σ 11) (upc (σ 4) 10 (va_cpy (σ 15) (upd (upd (upd (σ 47) 0 (σ 0 0)) 1 (σ 0 1)) 2 (σ 0 2)) 0 3 3)) 0 (3 + 3 + 10) 24) 0 ((3 + 3 + 10) + 24) 24) = sr σ 47 (va_cpy (σ 12) (va_cpy (σ 11) (upc (σ 4) 10 (va_cpy (σ 15) (upd (upd (upd (σ 47) 0 (σ 0 0)) 1 (σ 0 1)) 2 (σ 0 2)) 0 3 3)) 0 (3 + 3 + 10) 24) 0 ((3 + 3 + 10) + 24) 24) := by
          funext j_ x_
          by_cases e0 : j_ = 0
          · subst e0
            rfl
          · by_cases e47 : j_ = 47
            · subst e47; rfl
            · simp only [sr, e0, e47, if_false]
        rw [hst_] at hw
        refine lv_aload_n hC.1 hC.2.1 dX7_keep_128 rfl (lv_at hl 1 rfl) ?_
        refine gf_X7_20 hC hw dX7_keep_129 ?_
        refine gf_X7_59 hC hw dX7_keep_132 ?_
        refine lv_iconst (v := nI 0) hC.1 hC.2.1 dX7_keep_135 (by decide) ?_
        refine lv_aload_n hC.1 hC.2.1 dX7_keep_136 rfl (lv_at hl 2 rfl) ?_
        refine lv_iload_n hC.1 hC.2.1 dX7_keep_137 rfl (lv_at hl 0 rfl) ?_
        refine lv_bipush (v := nI 48) hC.1 hC.2.1 dX7_keep_138 (by decide) ?_
        refine q_addN hC dX7_keep_140 ?_
        refine lv_bipush (v := nI 24) hC.1 hC.2.1 dX7_keep_141 (by decide) ?_
        refine q_cpy (sp := 0) (dp := ((3 + 3 + 10) + 48)) (n := 24) 23 rfl 57 rfl (XW_s47 _) hC hw hl (by omega) (by omega) (by decide) (by decide) ⟨Nat.le_of_ble_eq_true rfl, Nat.le_of_ble_eq_true rfl⟩ wk2_182 dX7_keep_143 (fun H locs hw => ?_)
        have hw : Wst E (XW E a) (sr (sr σ 47 (va_cpy (σ 12) (va_cpy (σ 11) (upc (σ 4) 10 (va_cpy (σ 15) (upd (upd (upd (σ 47) 0 (σ 0 0)) 1 (σ 0 1)) 2 (σ 0 2)) 0 3 3)) 0 (3 + 3 + 10) 24) 0 ((3 + 3 + 10) + 24) 24)) 47 (va_cpy (σ 13) (va_cpy (σ 12) (va_cpy (σ 11) (upc (σ 4) 10 (va_cpy (σ 15) (upd (upd (upd (σ 47) 0 (σ 0 0)) 1 (σ 0 1)) 2 (σ 0 2)) 0 3 3)) 0 (3 + 3 + 10) 24) 0 ((3 + 3 + 10) + 24) 24) 0 ((3 + 3 + 10) + 48) 24)) A s.heap H locs := hw
        have hst_ : sr (sr σ 47 (va_cpy (σ 12) (va_cpy (σ 11) (upc (σ 4) 10 (va_cpy (σ 15) (upd (upd (upd (σ 47) 0 (σ 0 0)) 1 (σ 0 1)) 2 (σ 0 2)) 0 3 3)) 0 (3 + 3 + 10) 24) 0 ((3 + 3 + 10) + 24) 24)) 47 (va_cpy (σ 13) (va_cpy (σ 12) (va_cpy (σ 11) (upc (σ 4) 10 (va_cpy (σ 15) (upd (upd (upd (σ 47) 0 (σ 0 0)) 1 (σ 0 1)) 2 (σ 0 2)) 0 3 3)) 0 (3 + 3 + 10) 24) 0 ((3 + 3 + 10) + 24) 24) 0 ((3 + 3 + 10) + 48) 24) = sr σ 47 (va_cpy (σ 13) (va_cpy (σ 12) (va_cpy (σ 11) (upc (σ 4) 10 (va_cpy (σ 15) (upd (upd (upd (σ 47) 0 (σ 0 0)) 1 (σ 0 1)) 2 (σ 0 2)) 0 3 3)) 0 (3 + 3 + 10) 24) 0 ((3 + 3 + 10) + 24) 24) 0 ((3 + 3 + 10) + 48) 24) := by
          funext j_ x_
          by_cases e0 : j_ = 0
          · subst e0
            rfl
          · by_cases e47 : j_ = 47
            · subst e47; rfl
            · simp only [sr, e0, e47, if_false]
        rw [hst_] at hw
        refine lv_aload_n hC.1 hC.2.1 dX7_keep_146 rfl (lv_at hl 1 rfl) ?_
        refine gf_X7_20 hC hw dX7_keep_147 ?_
        refine gf_X7_62 hC hw dX7_keep_150 ?_
        refine lv_iconst (v := nI 0) hC.1 hC.2.1 dX7_keep_153 (by decide) ?_
        refine lv_aload_n hC.1 hC.2.1 dX7_keep_154 rfl (lv_at hl 2 rfl) ?_
        refine lv_iload_n hC.1 hC.2.1 dX7_keep_155 rfl (lv_at hl 0 rfl) ?_
        refine lv_bipush (v := nI 72) hC.1 hC.2.1 dX7_keep_156 (by decide) ?_
        refine q_addN hC dX7_keep_158 ?_
        refine lv_bipush (v := nI 24) hC.1 hC.2.1 dX7_keep_159 (by decide) ?_
        refine q_cpy (sp := 0) (dp := ((3 + 3 + 10) + 72)) (n := 24) 24 rfl 57 rfl (XW_s47 _) hC hw hl (by omega) (by omega) (by decide) (by decide) ⟨Nat.le_of_ble_eq_true rfl, Nat.le_of_ble_eq_true rfl⟩ wk2_182 dX7_keep_161 (fun H locs hw => ?_)
        have hw : Wst E (XW E a) (sr (sr σ 47 (va_cpy (σ 13) (va_cpy (σ 12) (va_cpy (σ 11) (upc (σ 4) 10 (va_cpy (σ 15) (upd (upd (upd (σ 47) 0 (σ 0 0)) 1 (σ 0 1)) 2 (σ 0 2)) 0 3 3)) 0 (3 + 3 + 10) 24) 0 ((3 + 3 + 10) + 24) 24) 0 ((3 + 3 + 10) + 48) 24)) 47 (va_cpy (σ 14) (va_cpy (σ 13) (va_cpy (σ 12) (va_cpy (σ 11) (upc (σ 4) 10 (va_cpy (σ 15) (upd (upd (upd (σ 47) 0 (σ 0 0)) 1 (σ 0 1)) 2 (σ 0 2)) 0 3 3)) 0 (3 + 3 + 10) 24) 0 ((3 + 3 + 10) + 24) 24) 0 ((3 + 3 + 10) + 48) 24) 0 ((3 + 3 + 10) + 72) 24)) A s.heap H locs := hw
        have hst_ : sr (sr σ 47 (va_cpy (σ 13) (va_cpy (σ 12) (va_cpy (σ 11) (upc (σ 4) 10 (va_cpy (σ 15) (upd (upd (upd (σ 47) 0 (σ 0 0)) 1 (σ 0 1)) 2 (σ 0 2)) 0 3 3)) 0 (3 + 3 + 10) 24) 0 ((3 + 3 + 10) + 24) 24) 0 ((3 + 3 + 10) + 48) 24)) 47 (va_cpy (σ 14) (va_cpy (σ 13) (va_cpy (σ 12) (va_cpy (σ 11) (upc (σ 4) 10 (va_cpy (σ 15) (upd (upd (upd (σ 47) 0 (σ 0 0)) 1 (σ 0 1)) 2 (σ 0 2)) 0 3 3)) 0 (3 + 3 + 10) 24) 0 ((3 + 3 + 10) + 24) 24) 0 ((3 + 3 + 10) + 48) 24) 0 ((3 + 3 + 10) + 72) 24) = sr σ 47 (va_cpy (σ 14) (va_cpy (σ 13) (va_cpy (σ 12) (va_cpy (σ 11) (upc (σ 4) 10 (va_cpy (σ 15) (upd (upd (upd (σ 47) 0 (σ 0 0)) 1 (σ 0 1)) 2 (σ 0 2)) 0 3 3)) 0 (3 + 3 + 10) 24) 0 ((3 + 3 + 10) + 24) 24) 0 ((3 + 3 + 10) + 48) 24) 0 ((3 + 3 + 10) + 72) 24) := by
          funext j_ x_
          by_cases e0 : j_ = 0
          · subst e0
            rfl
          · by_cases e47 : j_ = 47
            · subst e47; rfl
            · simp only [sr, e0, e47, if_false]
        rw [hst_] at hw
        refine lv_aload_n hC.1 hC.2.1 dX7_keep_164 rfl (lv_at hl 1 rfl) ?_
        refine lv_aload_n hC.1 hC.2.1 dX7_keep_165 rfl (lv_at hl 1 rfl) ?_
        refine gf_X7_28 (v := nI 17) hC hw hnx dX7_keep_166 ?_
        refine lv_bipush (v := nI 29) hC.1 hC.2.1 dX7_keep_169 (by decide) ?_
        have J184_4 : ∀ (w3 : Nat), w3 = (if 17 ≠ 29 then (17 + 1) else 0) → ∀ (H : Heap) (locs : List Loc) (ls : Array Slot), Wst E (XW E a) (sr σ 47 (va_cpy (σ 14) (va_cpy (σ 13) (va_cpy (σ 12) (va_cpy (σ 11) (upc (σ 4) 10 (va_cpy (σ 15) (upd (upd (upd (σ 47) 0 (σ 0 0)) 1 (σ 0 1)) 2 (σ 0 2)) 0 3 3)) 0 (3 + 3 + 10) 24) 0 ((3 + 3 + 10) + 24) 24) 0 ((3 + 3 + 10) + 48) 24) 0 ((3 + 3 + 10) + 72) 24)) A s.heap H locs → lv_has ls 4 [(0, .ref (a 68)), (1, .ref (a 47)), (2, .int (nI (3 + 3 + 10))), (3, .int (nI h))] → W p l e ({ frames := 1, cells := 0, slots := 0, locals := 24 }) s m args below meth c H locs 0 0 Q (F0 m 184 ls [.int (nI w3), .ref (a 68)]) := by
          intro w3 e4 H locs ls hw hl
          subst e4
          refine pf_X7_28 hC hw dX7_keep_184 (fun H locs hw => ?_)
          have hw : Wst E (XW E a) (sr (sr σ 47 (va_cpy (σ 14) (va_cpy (σ 13) (va_cpy (σ 12) (va_cpy (σ 11) (upc (σ 4) 10 (va_cpy (σ 15) (upd (upd (upd (σ 47) 0 (σ 0 0)) 1 (σ 0 1)) 2 (σ 0 2)) 0 3 3)) 0 (3 + 3 + 10) 24) 0 ((3 + 3 + 10) + 24) 24) 0 ((3 + 3 + 10) + 48) 24) 0 ((3 + 3 + 10) + 72) 24)) 0 (upd (σ 0) 3 (nI (if 17 ≠ 29 then (17 + 1) else 0)))) A s.heap H locs := hw
          refine lv_aload_n hC.1 hC.2.1 dX7_keep_187 rfl (lv_at hl 0 rfl) ?_
          refine lv_aload_n hC.1 hC.2.1 dX7_keep_188 rfl (lv_at hl 0 rfl) ?_
          refine gf_X7_65 (v := nI kp) hC hw hkp dX7_keep_189 ?_
          refine lv_bipush (v := nI 30) hC.1 hC.2.1 dX7_keep_192 (by decide) ?_
          have J210_6 : ∀ (w5 : Nat), w5 = (if kp ≠ 30 then (kp + 1) else kp) → ∀ (H : Heap) (locs : List Loc) (ls : Array Slot), Wst E (XW E a) (sr (sr σ 47 (va_cpy (σ 14) (va_cpy (σ 13) (va_cpy (σ 12) (va_cpy (σ 11) (upc (σ 4) 10 (va_cpy (σ 15) (upd (upd (upd (σ 47) 0 (σ 0 0)) 1 (σ 0 1)) 2 (σ 0 2)) 0 3 3)) 0 (3 + 3 + 10) 24) 0 ((3 + 3 + 10) + 24) 24) 0 ((3 + 3 + 10) + 48) 24) 0 ((3 + 3 + 10) + 72) 24)) 0 (upd (σ 0) 3 (nI (if 17 ≠ 29 then (17 + 1) else 0)))) A s.heap H locs → lv_has ls 4 [(0, .ref (a 68)), (1, .ref (a 47)), (2, .int (nI (3 + 3 + 10))), (3, .int (nI h))] → W p l e ({ frames := 1, cells := 0, slots := 0, locals := 24 }) s m args below meth c H locs 0 0 Q (F0 m 210 ls [.int (nI w5), .ref (a 68)]) := by
            intro w5 e6 H locs ls hw hl
            subst e6
            refine pf_X7_65 hC hw dX7_keep_210 (fun H locs hw => ?_)
            have hw : Wst E (XW E a) (sr (sr (sr σ 47 (va_cpy (σ 14) (va_cpy (σ 13) (va_cpy (σ 12) (va_cpy (σ 11) (upc (σ 4) 10 (va_cpy (σ 15) (upd (upd (upd (σ 47) 0 (σ 0 0)) 1 (σ 0 1)) 2 (σ 0 2)) 0 3 3)) 0 (3 + 3 + 10) 24) 0 ((3 + 3 + 10) + 24) 24) 0 ((3 + 3 + 10) + 48) 24) 0 ((3 + 3 + 10) + 72) 24)) 0 (upd (σ 0) 3 (nI (if 17 ≠ 29 then (17 + 1) else 0)))) 0 (upd (upd (σ 0) 3 (nI (if 17 ≠ 29 then (17 + 1) else 0))) 4 (nI (if kp ≠ 30 then (kp + 1) else kp)))) A s.heap H locs := hw
            have hst_ : sr (sr (sr σ 47 (va_cpy (σ 14) (va_cpy (σ 13) (va_cpy (σ 12) (va_cpy (σ 11) (upc (σ 4) 10 (va_cpy (σ 15) (upd (upd (upd (σ 47) 0 (σ 0 0)) 1 (σ 0 1)) 2 (σ 0 2)) 0 3 3)) 0 (3 + 3 + 10) 24) 0 ((3 + 3 + 10) + 24) 24) 0 ((3 + 3 + 10) + 48) 24) 0 ((3 + 3 + 10) + 72) 24)) 0 (upd (σ 0) 3 (nI (if 17 ≠ 29 then (17 + 1) else 0)))) 0 (upd (upd (σ 0) 3 (nI (if 17 ≠ 29 then (17 + 1) else 0))) 4 (nI (if kp ≠ 30 then (kp + 1) else kp))) = sr (sr σ 47 (va_cpy (σ 14) (va_cpy (σ 13) (va_cpy (σ 12) (va_cpy (σ 11) (upc (σ 4) 10 (va_cpy (σ 15) (upd (upd (upd (σ 47) 0 (σ 0 0)) 1 (σ 0 1)) 2 (σ 0 2)) 0 3 3)) 0 (3 + 3 + 10) 24) 0 ((3 + 3 + 10) + 24) 24) 0 ((3 + 3 + 10) + 48) 24) 0 ((3 + 3 + 10) + 72) 24)) 0 (upd (upd (σ 0) 3 (nI (if 17 ≠ 29 then (17 + 1) else 0))) 4 (nI (if kp ≠ 30 then (kp + 1) else kp))) := by
              funext j_ x_
              by_cases e0 : j_ = 0
              · subst e0
                by_cases y3 : x_ = 3
                · subst y3; rfl
                · by_cases y4 : x_ = 4
                  · subst y4; rfl
                  · simp [sr, upd, y3, y4]
              · by_cases e47 : j_ = 47
                · subst e47; rfl
                · simp only [sr, e0, e47, if_false]
            rw [hst_] at hw
            refine hret _ _ _ _ _ hw ?_ dX7_keep_213
            exact rfl
          refine q_cmpne hC 204 (cNeq (by omega) (by omega)) dX7_keep_194 (by decide) (fun (c7 : kp ≠ 30) => ?_) (fun (c7 : kp = 30) => ?_)
          · refine lv_aload_n hC.1 hC.2.1 dX7_keep_204 rfl (lv_at hl 0 rfl) ?_
            refine gf_X7_65 (v := nI kp) hC hw hkp dX7_keep_205 ?_
            refine lv_iconst (v := nI 1) hC.1 hC.2.1 dX7_keep_208 (by decide) ?_
            refine q_addN hC dX7_keep_209 ?_
            exact J210_6 _ (by (rw [if_pos c7]) <;> rfl) _ _ _ hw (lv_sub hl [0, 1, 2, 3] rfl)
          · refine lv_aload_n hC.1 hC.2.1 dX7_keep_197 rfl (lv_at hl 0 rfl) ?_
            refine gf_X7_65 (v := nI kp) hC hw hkp dX7_keep_198 ?_
            refine lv_goto (tgt := 210) hC.1 hC.2.1 dX7_keep_201 (by decide) ?_
            exact J210_6 _ (by (rw [if_neg (fun q => q c7)]) <;> rfl) _ _ _ hw (lv_sub hl [0, 1, 2, 3] rfl)
        refine q_cmpne hC 178 (cNeq (by omega) (by omega)) dX7_keep_171 (by decide) (fun (c8 : 17 ≠ 29) => ?_) (fun (c8 : 17 = 29) => ?_)
        · refine lv_aload_n hC.1 hC.2.1 dX7_keep_178 rfl (lv_at hl 1 rfl) ?_
          refine gf_X7_28 (v := nI 17) hC hw hnx dX7_keep_179 ?_
          refine lv_iconst (v := nI 1) hC.1 hC.2.1 dX7_keep_182 (by decide) ?_
          refine q_addN hC dX7_keep_183 ?_
          exact J184_4 _ (by (rw [if_pos c8]) <;> rfl) _ _ _ hw (lv_sub hl [1, 2, 0, 3] rfl)
        · refine lv_iconst (v := nI 0) hC.1 hC.2.1 dX7_keep_174 (by decide) ?_
          refine lv_goto (tgt := 184) hC.1 hC.2.1 dX7_keep_175 (by decide) ?_
          exact J184_4 _ (by (rw [if_neg (fun q => q c8)]) <;> rfl) _ _ _ hw (lv_sub hl [1, 2, 0, 3] rfl)
      · refine lv_aload_n hC.1 hC.2.1 dX7_keep_64 rfl (lv_at hl 1 rfl) ?_
        refine lv_iload_n hC.1 hC.2.1 dX7_keep_65 rfl (lv_at hl 2 rfl) ?_
        refine lv_iload_n hC.1 hC.2.1 dX7_keep_66 rfl (lv_at hl 3 rfl) ?_
        refine q_addN hC dX7_keep_67 ?_
        refine lv_aload_n hC.1 hC.2.1 dX7_keep_68 rfl (lv_at hl 0 rfl) ?_
        refine gf_X7_16 hC hw dX7_keep_69 ?_
        refine gf_X7_49 hC hw dX7_keep_72 ?_
        refine lv_iload_n hC.1 hC.2.1 dX7_keep_75 rfl (lv_at hl 3 rfl) ?_
        refine al_X4 (v := σ 4 h) hC hw (by omega) rfl dX7_keep_76 ?_
        have J85_10 : ∀ (w9 : Int32), w9 = (if ¬ (σ 4 h = 0) then (1 : Int32) else 0) → ∀ (H : Heap) (locs : List Loc) (ls : Array Slot), Wst E (XW E a) (sr σ 47 (upc (σ 4) h (va_cpy (σ 15) (upd (upd (upd (σ 47) 0 (σ 0 0)) 1 (σ 0 1)) 2 (σ 0 2)) 0 3 3))) A s.heap H locs → lv_has ls 4 [(0, .ref (a 68)), (1, .ref (a 47)), (2, .int (nI (3 + 3))), (3, .int (nI h))] → W p l e ({ frames := 1, cells := 0, slots := 0, locals := 24 }) s m args below meth c H locs 0 0 Q (F0 m 85 ls [.int (w9), .int (nI ((3 + 3) + h)), .ref (a 47)]) := by
          intro w9 e10 H locs ls hw hl
          subst e10
          refine q_ast (Wf := XW E a) 57 rfl (by decide) (XW_s47 _) hC hw (by omega) dX7_keep_85 (fun H locs hw => ?_)
          have hw : Wst E (XW E a) (sr (sr σ 47 (upc (σ 4) h (va_cpy (σ 15) (upd (upd (upd (σ 47) 0 (σ 0 0)) 1 (σ 0 1)) 2 (σ 0 2)) 0 3 3))) 47 (upd (upc (σ 4) h (va_cpy (σ 15) (upd (upd (upd (σ 47) 0 (σ 0 0)) 1 (σ 0 1)) 2 (σ 0 2)) 0 3 3)) ((3 + 3) + h) (if ¬ (σ 4 h = 0) then (1 : Int32) else 0))) A s.heap H locs := hw
          have hst_ : sr (sr σ 47 (upc (σ 4) h (va_cpy (σ 15) (upd (upd (upd (σ 47) 0 (σ 0 0)) 1 (σ 0 1)) 2 (σ 0 2)) 0 3 3))) 47 (upd (upc (σ 4) h (va_cpy (σ 15) (upd (upd (upd (σ 47) 0 (σ 0 0)) 1 (σ 0 1)) 2 (σ 0 2)) 0 3 3)) ((3 + 3) + h) (if ¬ (σ 4 h = 0) then (1 : Int32) else 0)) = sr σ 47 (upd (upc (σ 4) h (va_cpy (σ 15) (upd (upd (upd (σ 47) 0 (σ 0 0)) 1 (σ 0 1)) 2 (σ 0 2)) 0 3 3)) ((3 + 3) + h) (if ¬ (σ 4 h = 0) then (1 : Int32) else 0)) := by
            funext j_ x_
            by_cases e0 : j_ = 0
            · subst e0
              rfl
            · by_cases e47 : j_ = 47
              · subst e47; rfl
              · simp only [sr, e0, e47, if_false]
          rw [hst_] at hw
          refine lv_iinc (v := nI (h + 1)) (lv' := [(3, .int (nI (h + 1))), (0, .ref (a 68)), (1, .ref (a 47)), (2, .int (nI (3 + 3)))]) hC.1 hC.2.1 dX7_keep_86 hl (k := 3) rfl (nI_add _ _) (by decide) rfl (fun ls hl => ?_)
          refine lv_goto (tgt := 58) hC.1 hC.2.1 dX7_keep_89 (by decide) ?_
          rw [upc_s] at hw
          exact ih58 (h + 1) (by omega) (by omega) _ _ _ hw (lv_sub hl [1, 2, 3, 0] rfl)
        refine q_ifeq hC 84 cI dX7_keep_77 (by decide) (fun (c11 : σ 4 h = 0) => ?_) (fun (c11 : ¬ (σ 4 h = 0)) => ?_)
        · refine lv_iconst (v := nI 0) hC.1 hC.2.1 dX7_keep_84 (by decide) ?_
          exact J85_10 _ (if_neg (fun q => q c11)).symm _ _ _ hw (lv_sub hl [0, 1, 2, 3] rfl)
        · refine lv_iconst (v := nI 1) hC.1 hC.2.1 dX7_keep_80 (by decide) ?_
          refine lv_goto (tgt := 85) hC.1 hC.2.1 dX7_keep_81 (by decide) ?_
          exact J85_10 _ (if_pos c11).symm _ _ _ hw (lv_sub hl [0, 1, 2, 3] rfl)
  rw [← upc_0 (σ 4) (va_cpy (σ 15) (upd (upd (upd (σ 47) 0 (σ 0 0)) 1 (σ 0 1)) 2 (σ 0 2)) 0 3 3)] at hw
  exact L58_0 _ 0 (by omega) (Nat.lt_succ_self _) _ _ _ hw (lv_sub hl [3, 2, 1, 0] rfl)
set_option maxHeartbeats 4000000 in
set_option maxRecDepth 100000 in
theorem tX7_keep_k18 (l : Launch) (E : EV) (a : Nat → Nat) (σ : St) (kp : Nat) (hnx : σ 0 3 = nI 18) (hkp : σ 0 4 = nI kp) (hk30 : kp ≤ 30) : MV l E (XW E a) yX7_keep (Cond.code yX7_keep cX7_keep 4 none) ({ frames := 1, cells := 0, slots := 0, locals := 24 }) [.ref (a 68)] σ (fun u_ => u_ = sr (sr σ 48 (kpr σ (σ 48))) 0 (upd (upd (σ 0) 3 (nI (if 18 ≠ 29 then 18 + 1 else 0))) 4 (nI (if kp ≠ 30 then kp + 1 else kp)))) := by
  refine MV.mk (by decide +kernel) (Nat.le_of_ble_eq_true rfl) ?_
  intro p e s m args below meth c ls A Q hret hC hw hl
  have hC : Cxt E p s m args meth c cX7_keep 4 none RX7 A := hC
  have hl : lv_has ls 4 [(0, .ref (a 68))] := hl
  refine lv_aload_n hC.1 hC.2.1 dX7_keep_0 rfl (lv_at hl 0 rfl) ?_
  refine gf_X7_13 hC hw dX7_keep_1 ?_
  refine lv_aload_n hC.1 hC.2.1 dX7_keep_4 rfl (lv_at hl 0 rfl) ?_
  refine gf_X7_28 (v := nI 18) hC hw hnx dX7_keep_5 ?_
  refine q_aald hC hw (i := 18) (by decide) dX7_keep_8 ?_
  refine lv_astore_n (lv' := [(1, .ref (a 48)), (0, .ref (a 68))]) hC.1 hC.2.1 dX7_keep_9 rfl hl (by decide) rfl (fun ls hl => ?_)
  refine lv_aload_n hC.1 hC.2.1 dX7_keep_10 rfl (lv_at hl 0 rfl) ?_
  refine lv_iconst (v := nI 0) hC.1 hC.2.1 dX7_keep_11 (by decide) ?_
  refine lv_aload_n hC.1 hC.2.1 dX7_keep_12 rfl (lv_at hl 1 rfl) ?_
  refine gf_X7_16 hC hw dX7_keep_13 ?_
  refine gf_X7_32 (v := σ 0 0) hC hw rfl dX7_keep_16 ?_
  refine q_ast (Wf := XW E a) 58 rfl (by decide) (XW_s48 _) hC hw (by omega) dX7_keep_19 (fun H locs hw => ?_)
  have hw : Wst E (XW E a) (sr σ 48 (upd (σ 48) 0 (σ 0 0))) A s.heap H locs := hw
  refine lv_aload_n hC.1 hC.2.1 dX7_keep_20 rfl (lv_at hl 0 rfl) ?_
  refine lv_iconst (v := nI 1) hC.1 hC.2.1 dX7_keep_21 (by decide) ?_
  refine lv_aload_n hC.1 hC.2.1 dX7_keep_22 rfl (lv_at hl 1 rfl) ?_
  refine gf_X7_20 hC hw dX7_keep_23 ?_
  refine gf_X7_37 (v := σ 0 1) hC hw rfl dX7_keep_26 ?_
  refine q_ast (Wf := XW E a) 58 rfl (by decide) (XW_s48 _) hC hw (by omega) dX7_keep_29 (fun H locs hw => ?_)
  have hw : Wst E (XW E a) (sr (sr σ 48 (upd (σ 48) 0 (σ 0 0))) 48 (upd (upd (σ 48) 0 (σ 0 0)) 1 (σ 0 1))) A s.heap H locs := hw
  have hst_ : sr (sr σ 48 (upd (σ 48) 0 (σ 0 0))) 48 (upd (upd (σ 48) 0 (σ 0 0)) 1 (σ 0 1)) = sr σ 48 (upd (upd (σ 48) 0 (σ 0 0)) 1 (σ 0 1)) := by
    funext j_ x_
    by_cases e0 : j_ = 0
    · subst e0
      rfl
    · by_cases e48 : j_ = 48
      · subst e48; rfl
      · simp only [sr, e0, e48, if_false]
  rw [hst_] at hw
  refine lv_aload_n hC.1 hC.2.1 dX7_keep_30 rfl (lv_at hl 0 rfl) ?_
  refine lv_iconst (v := nI 2) hC.1 hC.2.1 dX7_keep_31 (by decide) ?_
  refine lv_aload_n hC.1 hC.2.1 dX7_keep_32 rfl (lv_at hl 1 rfl) ?_
  refine gf_X7_20 hC hw dX7_keep_33 ?_
  refine gf_X7_40 (v := σ 0 2) hC hw rfl dX7_keep_36 ?_
  refine q_ast (Wf := XW E a) 58 rfl (by decide) (XW_s48 _) hC hw (by omega) dX7_keep_39 (fun H locs hw => ?_)
  have hw : Wst E (XW E a) (sr (sr σ 48 (upd (upd (σ 48) 0 (σ 0 0)) 1 (σ 0 1))) 48 (upd (upd (upd (σ 48) 0 (σ 0 0)) 1 (σ 0 1)) 2 (σ 0 2))) A s.heap H locs := hw
  have hst_ : sr (sr σ 48 (upd (upd (σ 48) 0 (σ 0 0)) 1 (σ 0 1))) 48 (upd (upd (upd (σ 48) 0 (σ 0 0)) 1 (σ 0 1)) 2 (σ 0 2)) = sr σ 48 (upd (upd (upd (σ 48) 0 (σ 0 0)) 1 (σ 0 1)) 2 (σ 0 2)) := by
    funext j_ x_
    by_cases e0 : j_ = 0
    · subst e0
      rfl
    · by_cases e48 : j_ = 48
      · subst e48; rfl
      · simp only [sr, e0, e48, if_false]
  rw [hst_] at hw
  refine lv_iconst (v := nI 3) hC.1 hC.2.1 dX7_keep_40 (by decide) ?_
  refine lv_istore_n (lv' := [(2, .int (nI 3)), (1, .ref (a 48)), (0, .ref (a 68))]) hC.1 hC.2.1 dX7_keep_41 rfl hl (by decide) rfl (fun ls hl => ?_)
  refine lv_aload_n hC.1 hC.2.1 dX7_keep_42 rfl (lv_at hl 2 rfl) ?_
  refine gf_X7_24 hC hw dX7_keep_43 ?_
  refine lv_iconst (v := nI 0) hC.1 hC.2.1 dX7_keep_46 (by decide) ?_
  refine lv_aload_n hC.1 hC.2.1 dX7_keep_47 rfl (lv_at hl 1 rfl) ?_
  refine lv_iload_n hC.1 hC.2.1 dX7_keep_48 rfl (lv_at hl 0 rfl) ?_
  refine lv_iconst (v := nI 3) hC.1 hC.2.1 dX7_keep_49 (by decide) ?_
  refine q_cpy (sp := 0) (dp := 3) (n := 3) 25 rfl 58 rfl (XW_s48 _) hC hw hl (by omega) (by omega) (by decide) (by decide) ⟨Nat.le_of_ble_eq_true rfl, Nat.le_of_ble_eq_true rfl⟩ wk2_182 dX7_keep_50 (fun H locs hw => ?_)
  have hw : Wst E (XW E a) (sr (sr σ 48 (upd (upd (upd (σ 48) 0 (σ 0 0)) 1 (σ 0 1)) 2 (σ 0 2))) 48 (va_cpy (σ 15) (upd (upd (upd (σ 48) 0 (σ 0 0)) 1 (σ 0 1)) 2 (σ 0 2)) 0 3 3)) A s.heap H locs := hw
  have hst_ : sr (sr σ 48 (upd (upd (upd (σ 48) 0 (σ 0 0)) 1 (σ 0 1)) 2 (σ 0 2))) 48 (va_cpy (σ 15) (upd (upd (upd (σ 48) 0 (σ 0 0)) 1 (σ 0 1)) 2 (σ 0 2)) 0 3 3) = sr σ 48 (va_cpy (σ 15) (upd (upd (upd (σ 48) 0 (σ 0 0)) 1 (σ 0 1)) 2 (σ 0 2)) 0 3 3) := by
    funext j_ x_
    by_cases e0 : j_ = 0
    · subst e0
      rfl
    · by_cases e48 : j_ = 48
      · subst e48; rfl
      · simp only [sr, e0, e48, if_false]
  rw [hst_] at hw
  refine lv_iinc (v := nI (3 + 3)) (lv' := [(2, .int (nI (3 + 3))), (1, .ref (a 48)), (0, .ref (a 68))]) hC.1 hC.2.1 dX7_keep_53 hl (k := 0) rfl (nI_add _ _) (by decide) rfl (fun ls hl => ?_)
  refine lv_iconst (v := nI 0) hC.1 hC.2.1 dX7_keep_56 (by decide) ?_
  refine lv_istore_n (lv' := [(3, .int (nI 0)), (2, .int (nI (3 + 3))), (1, .ref (a 48)), (0, .ref (a 68))]) hC.1 hC.2.1 dX7_keep_57 rfl hl (by decide) rfl (fun ls hl => ?_)
  have L58_0 : ∀ (n : Nat), ∀ (h : Nat), (h ≤ 10) → (10 - h) < n → ∀ (H : Heap) (locs : List Loc) (ls : Array Slot), Wst E (XW E a) (sr σ 48 (upc (σ 4) h (va_cpy (σ 15) (upd (upd (upd (σ 48) 0 (σ 0 0)) 1 (σ 0 1)) 2 (σ 0 2)) 0 3 3))) A s.heap H locs → lv_has ls 4 [(0, .ref (a 68)), (1, .ref (a 48)), (2, .int (nI (3 + 3))), (3, .int (nI h))] → W p l e ({ frames := 1, cells := 0, slots := 0, locals := 24 }) s m args below meth c H locs 0 0 Q (F0 m 58 ls []) := by
    intro n
    induction n with
    | zero => intro h hh hn; exact absurd hn (Nat.not_lt_zero _)
    | succ n ih58 =>
      intro h hh hn58 H locs ls hw hl
      refine lv_iload_n hC.1 hC.2.1 dX7_keep_58 rfl (lv_at hl 3 rfl) ?_
      refine lv_bipush (v := nI 10) hC.1 hC.2.1 dX7_keep_59 (by decide) ?_
      refine q_cmpge hC 92 (cNle (by omega) (by omega)) dX7_keep_61 (by decide) (fun (c2 : 10 ≤ h) => ?_) (fun (c2 : h < 10) => ?_)
      · have hh9 : h = 10 := by omega
        rw [hh9] at hw
        refine lv_iinc (v := nI (3 + 3 + 10)) (lv' := [(2, .int (nI (3 + 3 + 10))), (0, .ref (a 68)), (1, .ref (a 48)), (3, .int (nI h))]) hC.1 hC.2.1 dX7_keep_92 hl (k := 2) rfl (nI_add _ _) (by decide) rfl (fun ls hl => ?_)
        refine lv_aload_n hC.1 hC.2.1 dX7_keep_95 rfl (lv_at hl 1 rfl) ?_
        refine gf_X7_20 hC hw dX7_keep_96 ?_
        refine gf_X7_53 hC hw dX7_keep_99 ?_
        refine lv_iconst (v := nI 0) hC.1 hC.2.1 dX7_keep_102 (by decide) ?_
        refine lv_aload_n hC.1 hC.2.1 dX7_keep_103 rfl (lv_at hl 2 rfl) ?_
        refine lv_iload_n hC.1 hC.2.1 dX7_keep_104 rfl (lv_at hl 0 rfl) ?_
        refine lv_bipush (v := nI 24) hC.1 hC.2.1 dX7_keep_105 (by decide) ?_
        refine q_cpy (sp := 0) (dp := (3 + 3 + 10)) (n := 24) 21 rfl 58 rfl (XW_s48 _) hC hw hl (by omega) (by omega) (by decide) (by decide) ⟨Nat.le_of_ble_eq_true rfl, Nat.le_of_ble_eq_true rfl⟩ wk2_182 dX7_keep_107 (fun H locs hw => ?_)
        have hw : Wst E (XW E a) (sr (sr σ 48 (upc (σ 4) 10 (va_cpy (σ 15) (upd (upd (upd (σ 48) 0 (σ 0 0)) 1 (σ 0 1)) 2 (σ 0 2)) 0 3 3))) 48 (va_cpy (σ 11) (upc (σ 4) 10 (va_cpy (σ 15) (upd (upd (upd (σ 48) 0 (σ 0 0)) 1 (σ 0 1)) 2 (σ 0 2)) 0 3 3)) 0 (3 + 3 + 10) 24)) A s.heap H locs := hw
        have hst_ : sr (sr σ 48 (upc (σ 4) 10 (va_cpy (σ 15) (upd (upd (upd (σ 48) 0 (σ 0 0)) 1 (σ 0 1)) 2 (σ 0 2)) 0 3 3))) 48 (va_cpy (σ 11) (upc (σ 4) 10 (va_cpy (σ 15) (upd (upd (upd (σ 48) 0 (σ 0 0)) 1 (σ 0 1)) 2 (σ 0 2)) 0 3 3)) 0 (3 + 3 + 10) 24) = sr σ 48 (va_cpy (σ 11) (upc (σ 4) 10 (va_cpy (σ 15) (upd (upd (upd (σ 48) 0 (σ 0 0)) 1 (σ 0 1)) 2 (σ 0 2)) 0 3 3)) 0 (3 + 3 + 10) 24) := by
          funext j_ x_
          by_cases e0 : j_ = 0
          · subst e0
            rfl
          · by_cases e48 : j_ = 48
            · subst e48; rfl
            · simp only [sr, e0, e48, if_false]
        rw [hst_] at hw
        refine lv_aload_n hC.1 hC.2.1 dX7_keep_110 rfl (lv_at hl 1 rfl) ?_
        refine gf_X7_20 hC hw dX7_keep_111 ?_
        refine gf_X7_56 hC hw dX7_keep_114 ?_
        refine lv_iconst (v := nI 0) hC.1 hC.2.1 dX7_keep_117 (by decide) ?_
        refine lv_aload_n hC.1 hC.2.1 dX7_keep_118 rfl (lv_at hl 2 rfl) ?_
        refine lv_iload_n hC.1 hC.2.1 dX7_keep_119 rfl (lv_at hl 0 rfl) ?_
        refine lv_bipush (v := nI 24) hC.1 hC.2.1 dX7_keep_120 (by decide) ?_
        refine q_addN hC dX7_keep_122 ?_
        refine lv_bipush (v := nI 24) hC.1 hC.2.1 dX7_keep_123 (by decide) ?_
        refine q_cpy (sp := 0) (dp := ((3 + 3 + 10) + 24)) (n := 24) 22 rfl 58 rfl (XW_s48 _) hC hw hl (by omega) (by omega) (by decide) (by decide) ⟨Nat.le_of_ble_eq_true rfl, Nat.le_of_ble_eq_true rfl⟩ wk2_182 dX7_keep_125 (fun H locs hw => ?_)
        have hw : Wst E (XW E a) (sr (sr σ 48 (va_cpy (σ 11) (upc (σ 4) 10 (va_cpy (σ 15) (upd (upd (upd (σ 48) 0 (σ 0 0)) 1 (σ 0 1)) 2 (σ 0 2)) 0 3 3)) 0 (3 + 3 + 10) 24)) 48 (va_cpy (σ 12) (va_cpy (σ 11) (upc (σ 4) 10 (va_cpy (σ 15) (upd (upd (upd (σ 48) 0 (σ 0 0)) 1 (σ 0 1)) 2 (σ 0 2)) 0 3 3)) 0 (3 + 3 + 10) 24) 0 ((3 + 3 + 10) + 24) 24)) A s.heap H locs := hw
        have hst_ : sr (sr σ 48 (va_cpy (σ 11) (upc (σ 4) 10 (va_cpy (σ 15) (upd (upd (upd (σ 48) 0 (σ 0 0)) 1 (σ 0 1)) 2 (σ 0 2)) 0 3 3)) 0 (3 + 3 + 10) 24)) 48 (va_cpy (σ 12) (va_cpy (σ 11) (upc (σ 4) 10 (va_cpy (σ 15) (upd (upd (upd (σ 48) 0 (σ 0 0)) 1 (σ 0 1)) 2 (σ 0 2)) 0 3 3)) 0 (3 + 3 + 10) 24) 0 ((3 + 3 + 10) + 24) 24) = sr σ 48 (va_cpy (σ 12) (va_cpy (σ 11) (upc (σ 4) 10 (va_cpy (σ 15) (upd (upd (upd (σ 48) 0 (σ 0 0)) 1 (σ 0 1)) 2 (σ 0 2)) 0 3 3)) 0 (3 + 3 + 10) 24) 0 ((3 + 3 + 10) + 24) 24) := by
          funext j_ x_
          by_cases e0 : j_ = 0
          · subst e0
            rfl
          · by_cases e48 : j_ = 48
            · subst e48; rfl
            · simp only [sr, e0, e48, if_false]
        rw [hst_] at hw
        refine lv_aload_n hC.1 hC.2.1 dX7_keep_128 rfl (lv_at hl 1 rfl) ?_
        refine gf_X7_20 hC hw dX7_keep_129 ?_
        refine gf_X7_59 hC hw dX7_keep_132 ?_
        refine lv_iconst (v := nI 0) hC.1 hC.2.1 dX7_keep_135 (by decide) ?_
        refine lv_aload_n hC.1 hC.2.1 dX7_keep_136 rfl (lv_at hl 2 rfl) ?_
        refine lv_iload_n hC.1 hC.2.1 dX7_keep_137 rfl (lv_at hl 0 rfl) ?_
        refine lv_bipush (v := nI 48) hC.1 hC.2.1 dX7_keep_138 (by decide) ?_
        refine q_addN hC dX7_keep_140 ?_
        refine lv_bipush (v := nI 24) hC.1 hC.2.1 dX7_keep_141 (by decide) ?_
        refine q_cpy (sp := 0) (dp := ((3 + 3 + 10) + 48)) (n := 24) 23 rfl 58 rfl (XW_s48 _) hC hw hl (by omega) (by omega) (by decide) (by decide) ⟨Nat.le_of_ble_eq_true rfl, Nat.le_of_ble_eq_true rfl⟩ wk2_182 dX7_keep_143 (fun H locs hw => ?_)
        have hw : Wst E (XW E a) (sr (sr σ 48 (va_cpy (σ 12) (va_cpy (σ 11) (upc (σ 4) 10 (va_cpy (σ 15) (upd (upd (upd (σ 48) 0 (σ 0 0)) 1 (σ 0 1)) 2 (σ 0 2)) 0 3 3)) 0 (3 + 3 + 10) 24) 0 ((3 + 3 + 10) + 24) 24)) 48 (va_cpy (σ 13) (va_cpy (σ 12) (va_cpy (σ 11) (upc (σ 4) 10 (va_cpy (σ 15) (upd (upd (upd (σ 48) 0 (σ 0 0)) 1 (σ 0 1)) 2 (σ 0 2)) 0 3 3)) 0 (3 + 3 + 10) 24) 0 ((3 + 3 + 10) + 24) 24) 0 ((3 + 3 + 10) + 48) 24)) A s.heap H locs := hw
        have hst_ : sr (sr σ 48 (va_cpy (σ 12) (va_cpy (σ 11) (upc (σ 4) 10 (va_cpy (σ 15) (upd (upd (upd (σ 48) 0 (σ 0 0)) 1 (σ 0 1)) 2 (σ 0 2)) 0 3 3)) 0 (3 + 3 + 10) 24) 0 ((3 + 3 + 10) + 24) 24)) 48 (va_cpy (σ 13) (va_cpy (σ 12) (va_cpy (σ 11) (upc (σ 4) 10 (va_cpy (σ 15) (upd (upd (upd (σ 48) 0 (σ 0 0)) 1 (σ 0 1)) 2 (σ 0 2)) 0 3 3)) 0 (3 + 3 + 10) 24) 0 ((3 + 3 + 10) + 24) 24) 0 ((3 + 3 + 10) + 48) 24) = sr σ 48 (va_cpy (σ 13) (va_cpy (σ 12) (va_cpy (σ 11) (upc (σ 4) 10 (va_cpy (σ 15) (upd (upd (upd (σ 48) 0 (σ 0 0)) 1 (σ 0 1)) 2 (σ 0 2)) 0 3 3)) 0 (3 + 3 + 10) 24) 0 ((3 + 3 + 10) + 24) 24) 0 ((3 + 3 + 10) + 48) 24) := by
          funext j_ x_
          by_cases e0 : j_ = 0
          · subst e0
            rfl
          · by_cases e48 : j_ = 48
            · subst e48; rfl
            · simp only [sr, e0, e48, if_false]
        rw [hst_] at hw
        refine lv_aload_n hC.1 hC.2.1 dX7_keep_146 rfl (lv_at hl 1 rfl) ?_
        refine gf_X7_20 hC hw dX7_keep_147 ?_
        refine gf_X7_62 hC hw dX7_keep_150 ?_
        refine lv_iconst (v := nI 0) hC.1 hC.2.1 dX7_keep_153 (by decide) ?_
        refine lv_aload_n hC.1 hC.2.1 dX7_keep_154 rfl (lv_at hl 2 rfl) ?_
        refine lv_iload_n hC.1 hC.2.1 dX7_keep_155 rfl (lv_at hl 0 rfl) ?_
        refine lv_bipush (v := nI 72) hC.1 hC.2.1 dX7_keep_156 (by decide) ?_
        refine q_addN hC dX7_keep_158 ?_
        refine lv_bipush (v := nI 24) hC.1 hC.2.1 dX7_keep_159 (by decide) ?_
        refine q_cpy (sp := 0) (dp := ((3 + 3 + 10) + 72)) (n := 24) 24 rfl 58 rfl (XW_s48 _) hC hw hl (by omega) (by omega) (by decide) (by decide) ⟨Nat.le_of_ble_eq_true rfl, Nat.le_of_ble_eq_true rfl⟩ wk2_182 dX7_keep_161 (fun H locs hw => ?_)
        have hw : Wst E (XW E a) (sr (sr σ 48 (va_cpy (σ 13) (va_cpy (σ 12) (va_cpy (σ 11) (upc (σ 4) 10 (va_cpy (σ 15) (upd (upd (upd (σ 48) 0 (σ 0 0)) 1 (σ 0 1)) 2 (σ 0 2)) 0 3 3)) 0 (3 + 3 + 10) 24) 0 ((3 + 3 + 10) + 24) 24) 0 ((3 + 3 + 10) + 48) 24)) 48 (va_cpy (σ 14) (va_cpy (σ 13) (va_cpy (σ 12) (va_cpy (σ 11) (upc (σ 4) 10 (va_cpy (σ 15) (upd (upd (upd (σ 48) 0 (σ 0 0)) 1 (σ 0 1)) 2 (σ 0 2)) 0 3 3)) 0 (3 + 3 + 10) 24) 0 ((3 + 3 + 10) + 24) 24) 0 ((3 + 3 + 10) + 48) 24) 0 ((3 + 3 + 10) + 72) 24)) A s.heap H locs := hw
        have hst_ : sr (sr σ 48 (va_cpy (σ 13) (va_cpy (σ 12) (va_cpy (σ 11) (upc (σ 4) 10 (va_cpy (σ 15) (upd (upd (upd (σ 48) 0 (σ 0 0)) 1 (σ 0 1)) 2 (σ 0 2)) 0 3 3)) 0 (3 + 3 + 10) 24) 0 ((3 + 3 + 10) + 24) 24) 0 ((3 + 3 + 10) + 48) 24)) 48 (va_cpy (σ 14) (va_cpy (σ 13) (va_cpy (σ 12) (va_cpy (σ 11) (upc (σ 4) 10 (va_cpy (σ 15) (upd (upd (upd (σ 48) 0 (σ 0 0)) 1 (σ 0 1)) 2 (σ 0 2)) 0 3 3)) 0 (3 + 3 + 10) 24) 0 ((3 + 3 + 10) + 24) 24) 0 ((3 + 3 + 10) + 48) 24) 0 ((3 + 3 + 10) + 72) 24) = sr σ 48 (va_cpy (σ 14) (va_cpy (σ 13) (va_cpy (σ 12) (va_cpy (σ 11) (upc (σ 4) 10 (va_cpy (σ 15) (upd (upd (upd (σ 48) 0 (σ 0 0)) 1 (σ 0 1)) 2 (σ 0 2)) 0 3 3)) 0 (3 + 3 + 10) 24) 0 ((3 + 3 + 10) + 24) 24) 0 ((3 + 3 + 10) + 48) 24) 0 ((3 + 3 + 10) + 72) 24) := by
          funext j_ x_
          by_cases e0 : j_ = 0
          · subst e0
            rfl
          · by_cases e48 : j_ = 48
            · subst e48; rfl
            · simp only [sr, e0, e48, if_false]
        rw [hst_] at hw
        refine lv_aload_n hC.1 hC.2.1 dX7_keep_164 rfl (lv_at hl 1 rfl) ?_
        refine lv_aload_n hC.1 hC.2.1 dX7_keep_165 rfl (lv_at hl 1 rfl) ?_
        refine gf_X7_28 (v := nI 18) hC hw hnx dX7_keep_166 ?_
        refine lv_bipush (v := nI 29) hC.1 hC.2.1 dX7_keep_169 (by decide) ?_
        have J184_4 : ∀ (w3 : Nat), w3 = (if 18 ≠ 29 then (18 + 1) else 0) → ∀ (H : Heap) (locs : List Loc) (ls : Array Slot), Wst E (XW E a) (sr σ 48 (va_cpy (σ 14) (va_cpy (σ 13) (va_cpy (σ 12) (va_cpy (σ 11) (upc (σ 4) 10 (va_cpy (σ 15) (upd (upd (upd (σ 48) 0 (σ 0 0)) 1 (σ 0 1)) 2 (σ 0 2)) 0 3 3)) 0 (3 + 3 + 10) 24) 0 ((3 + 3 + 10) + 24) 24) 0 ((3 + 3 + 10) + 48) 24) 0 ((3 + 3 + 10) + 72) 24)) A s.heap H locs → lv_has ls 4 [(0, .ref (a 68)), (1, .ref (a 48)), (2, .int (nI (3 + 3 + 10))), (3, .int (nI h))] → W p l e ({ frames := 1, cells := 0, slots := 0, locals := 24 }) s m args below meth c H locs 0 0 Q (F0 m 184 ls [.int (nI w3), .ref (a 68)]) := by
          intro w3 e4 H locs ls hw hl
          subst e4
          refine pf_X7_28 hC hw dX7_keep_184 (fun H locs hw => ?_)
          have hw : Wst E (XW E a) (sr (sr σ 48 (va_cpy (σ 14) (va_cpy (σ 13) (va_cpy (σ 12) (va_cpy (σ 11) (upc (σ 4) 10 (va_cpy (σ 15) (upd (upd (upd (σ 48) 0 (σ 0 0)) 1 (σ 0 1)) 2 (σ 0 2)) 0 3 3)) 0 (3 + 3 + 10) 24) 0 ((3 + 3 + 10) + 24) 24) 0 ((3 + 3 + 10) + 48) 24) 0 ((3 + 3 + 10) + 72) 24)) 0 (upd (σ 0) 3 (nI (if 18 ≠ 29 then (18 + 1) else 0)))) A s.heap H locs := hw
          refine lv_aload_n hC.1 hC.2.1 dX7_keep_187 rfl (lv_at hl 0 rfl) ?_
          refine lv_aload_n hC.1 hC.2.1 dX7_keep_188 rfl (lv_at hl 0 rfl) ?_
          refine gf_X7_65 (v := nI kp) hC hw hkp dX7_keep_189 ?_
          refine lv_bipush (v := nI 30) hC.1 hC.2.1 dX7_keep_192 (by decide) ?_
          have J210_6 : ∀ (w5 : Nat), w5 = (if kp ≠ 30 then (kp + 1) else kp) → ∀ (H : Heap) (locs : List Loc) (ls : Array Slot), Wst E (XW E a) (sr (sr σ 48 (va_cpy (σ 14) (va_cpy (σ 13) (va_cpy (σ 12) (va_cpy (σ 11) (upc (σ 4) 10 (va_cpy (σ 15) (upd (upd (upd (σ 48) 0 (σ 0 0)) 1 (σ 0 1)) 2 (σ 0 2)) 0 3 3)) 0 (3 + 3 + 10) 24) 0 ((3 + 3 + 10) + 24) 24) 0 ((3 + 3 + 10) + 48) 24) 0 ((3 + 3 + 10) + 72) 24)) 0 (upd (σ 0) 3 (nI (if 18 ≠ 29 then (18 + 1) else 0)))) A s.heap H locs → lv_has ls 4 [(0, .ref (a 68)), (1, .ref (a 48)), (2, .int (nI (3 + 3 + 10))), (3, .int (nI h))] → W p l e ({ frames := 1, cells := 0, slots := 0, locals := 24 }) s m args below meth c H locs 0 0 Q (F0 m 210 ls [.int (nI w5), .ref (a 68)]) := by
            intro w5 e6 H locs ls hw hl
            subst e6
            refine pf_X7_65 hC hw dX7_keep_210 (fun H locs hw => ?_)
            have hw : Wst E (XW E a) (sr (sr (sr σ 48 (va_cpy (σ 14) (va_cpy (σ 13) (va_cpy (σ 12) (va_cpy (σ 11) (upc (σ 4) 10 (va_cpy (σ 15) (upd (upd (upd (σ 48) 0 (σ 0 0)) 1 (σ 0 1)) 2 (σ 0 2)) 0 3 3)) 0 (3 + 3 + 10) 24) 0 ((3 + 3 + 10) + 24) 24) 0 ((3 + 3 + 10) + 48) 24) 0 ((3 + 3 + 10) + 72) 24)) 0 (upd (σ 0) 3 (nI (if 18 ≠ 29 then (18 + 1) else 0)))) 0 (upd (upd (σ 0) 3 (nI (if 18 ≠ 29 then (18 + 1) else 0))) 4 (nI (if kp ≠ 30 then (kp + 1) else kp)))) A s.heap H locs := hw
            have hst_ : sr (sr (sr σ 48 (va_cpy (σ 14) (va_cpy (σ 13) (va_cpy (σ 12) (va_cpy (σ 11) (upc (σ 4) 10 (va_cpy (σ 15) (upd (upd (upd (σ 48) 0 (σ 0 0)) 1 (σ 0 1)) 2 (σ 0 2)) 0 3 3)) 0 (3 + 3 + 10) 24) 0 ((3 + 3 + 10) + 24) 24) 0 ((3 + 3 + 10) + 48) 24) 0 ((3 + 3 + 10) + 72) 24)) 0 (upd (σ 0) 3 (nI (if 18 ≠ 29 then (18 + 1) else 0)))) 0 (upd (upd (σ 0) 3 (nI (if 18 ≠ 29 then (18 + 1) else 0))) 4 (nI (if kp ≠ 30 then (kp + 1) else kp))) = sr (sr σ 48 (va_cpy (σ 14) (va_cpy (σ 13) (va_cpy (σ 12) (va_cpy (σ 11) (upc (σ 4) 10 (va_cpy (σ 15) (upd (upd (upd (σ 48) 0 (σ 0 0)) 1 (σ 0 1)) 2 (σ 0 2)) 0 3 3)) 0 (3 + 3 + 10) 24) 0 ((3 + 3 + 10) + 24) 24) 0 ((3 + 3 + 10) + 48) 24) 0 ((3 + 3 + 10) + 72) 24)) 0 (upd (upd (σ 0) 3 (nI (if 18 ≠ 29 then (18 + 1) else 0))) 4 (nI (if kp ≠ 30 then (kp + 1) else kp))) := by
              funext j_ x_
              by_cases e0 : j_ = 0
              · subst e0
                by_cases y3 : x_ = 3
                · subst y3; rfl
                · by_cases y4 : x_ = 4
                  · subst y4; rfl
                  · simp [sr, upd, y3, y4]
              · by_cases e48 : j_ = 48
                · subst e48; rfl
                · simp only [sr, e0, e48, if_false]
            rw [hst_] at hw
            refine hret _ _ _ _ _ hw ?_ dX7_keep_213
            exact rfl
          refine q_cmpne hC 204 (cNeq (by omega) (by omega)) dX7_keep_194 (by decide) (fun (c7 : kp ≠ 30) => ?_) (fun (c7 : kp = 30) => ?_)
          · refine lv_aload_n hC.1 hC.2.1 dX7_keep_204 rfl (lv_at hl 0 rfl) ?_
            refine gf_X7_65 (v := nI kp) hC hw hkp dX7_keep_205 ?_
            refine lv_iconst (v := nI 1) hC.1 hC.2.1 dX7_keep_208 (by decide) ?_
            refine q_addN hC dX7_keep_209 ?_
            exact J210_6 _ (by (rw [if_pos c7]) <;> rfl) _ _ _ hw (lv_sub hl [0, 1, 2, 3] rfl)
          · refine lv_aload_n hC.1 hC.2.1 dX7_keep_197 rfl (lv_at hl 0 rfl) ?_
            refine gf_X7_65 (v := nI kp) hC hw hkp dX7_keep_198 ?_
            refine lv_goto (tgt := 210) hC.1 hC.2.1 dX7_keep_201 (by decide) ?_
            exact J210_6 _ (by (rw [if_neg (fun q => q c7)]) <;> rfl) _ _ _ hw (lv_sub hl [0, 1, 2, 3] rfl)
        refine q_cmpne hC 178 (cNeq (by omega) (by omega)) dX7_keep_171 (by decide) (fun (c8 : 18 ≠ 29) => ?_) (fun (c8 : 18 = 29) => ?_)
        · refine lv_aload_n hC.1 hC.2.1 dX7_keep_178 rfl (lv_at hl 1 rfl) ?_
          refine gf_X7_28 (v := nI 18) hC hw hnx dX7_keep_179 ?_
          refine lv_iconst (v := nI 1) hC.1 hC.2.1 dX7_keep_182 (by decide) ?_
          refine q_addN hC dX7_keep_183 ?_
          exact J184_4 _ (by (rw [if_pos c8]) <;> rfl) _ _ _ hw (lv_sub hl [1, 2, 0, 3] rfl)
        · refine lv_iconst (v := nI 0) hC.1 hC.2.1 dX7_keep_174 (by decide) ?_
          refine lv_goto (tgt := 184) hC.1 hC.2.1 dX7_keep_175 (by decide) ?_
          exact J184_4 _ (by (rw [if_neg (fun q => q c8)]) <;> rfl) _ _ _ hw (lv_sub hl [1, 2, 0, 3] rfl)
      · refine lv_aload_n hC.1 hC.2.1 dX7_keep_64 rfl (lv_at hl 1 rfl) ?_
        refine lv_iload_n hC.1 hC.2.1 dX7_keep_65 rfl (lv_at hl 2 rfl) ?_
        refine lv_iload_n hC.1 hC.2.1 dX7_keep_66 rfl (lv_at hl 3 rfl) ?_
        refine q_addN hC dX7_keep_67 ?_
        refine lv_aload_n hC.1 hC.2.1 dX7_keep_68 rfl (lv_at hl 0 rfl) ?_
        refine gf_X7_16 hC hw dX7_keep_69 ?_
        refine gf_X7_49 hC hw dX7_keep_72 ?_
        refine lv_iload_n hC.1 hC.2.1 dX7_keep_75 rfl (lv_at hl 3 rfl) ?_
        refine al_X4 (v := σ 4 h) hC hw (by omega) rfl dX7_keep_76 ?_
        have J85_10 : ∀ (w9 : Int32), w9 = (if ¬ (σ 4 h = 0) then (1 : Int32) else 0) → ∀ (H : Heap) (locs : List Loc) (ls : Array Slot), Wst E (XW E a) (sr σ 48 (upc (σ 4) h (va_cpy (σ 15) (upd (upd (upd (σ 48) 0 (σ 0 0)) 1 (σ 0 1)) 2 (σ 0 2)) 0 3 3))) A s.heap H locs → lv_has ls 4 [(0, .ref (a 68)), (1, .ref (a 48)), (2, .int (nI (3 + 3))), (3, .int (nI h))] → W p l e ({ frames := 1, cells := 0, slots := 0, locals := 24 }) s m args below meth c H locs 0 0 Q (F0 m 85 ls [.int (w9), .int (nI ((3 + 3) + h)), .ref (a 48)]) := by
          intro w9 e10 H locs ls hw hl
          subst e10
          refine q_ast (Wf := XW E a) 58 rfl (by decide) (XW_s48 _) hC hw (by omega) dX7_keep_85 (fun H locs hw => ?_)
          have hw : Wst E (XW E a) (sr (sr σ 48 (upc (σ 4) h (va_cpy (σ 15) (upd (upd (upd (σ 48) 0 (σ 0 0)) 1 (σ 0 1)) 2 (σ 0 2)) 0 3 3))) 48 (upd (upc (σ 4) h (va_cpy (σ 15) (upd (upd (upd (σ 48) 0 (σ 0 0)) 1 (σ 0 1)) 2 (σ 0 2)) 0 3 3)) ((3 + 3) + h) (if ¬ (σ 4 h = 0) then (1 : Int32) else 0))) A s.heap H locs := hw
          have hst_ : sr (sr σ 48 (upc (σ 4) h (va_cpy (σ 15) (upd (upd (upd (σ 48) 0 (σ 0 0)) 1 (σ 0 1)) 2 (σ 0 2)) 0 3 3))) 48 (upd (upc (σ 4) h (va_cpy (σ 15) (upd (upd (upd (σ 48) 0 (σ 0 0)) 1 (σ 0 1)) 2 (σ 0 2)) 0 3 3)) ((3 + 3) + h) (if ¬ (σ 4 h = 0) then (1 : Int32) else 0)) = sr σ 48 (upd (upc (σ 4) h (va_cpy (σ 15) (upd (upd (upd (σ 48) 0 (σ 0 0)) 1 (σ 0 1)) 2 (σ 0 2)) 0 3 3)) ((3 + 3) + h) (if ¬ (σ 4 h = 0) then (1 : Int32) else 0)) := by
            funext j_ x_
            by_cases e0 : j_ = 0
            · subst e0
              rfl
            · by_cases e48 : j_ = 48
              · subst e48; rfl
              · simp only [sr, e0, e48, if_false]
          rw [hst_] at hw
          refine lv_iinc (v := nI (h + 1)) (lv' := [(3, .int (nI (h + 1))), (0, .ref (a 68)), (1, .ref (a 48)), (2, .int (nI (3 + 3)))]) hC.1 hC.2.1 dX7_keep_86 hl (k := 3) rfl (nI_add _ _) (by decide) rfl (fun ls hl => ?_)
          refine lv_goto (tgt := 58) hC.1 hC.2.1 dX7_keep_89 (by decide) ?_
          rw [upc_s] at hw
          exact ih58 (h + 1) (by omega) (by omega) _ _ _ hw (lv_sub hl [1, 2, 3, 0] rfl)
        refine q_ifeq hC 84 cI dX7_keep_77 (by decide) (fun (c11 : σ 4 h = 0) => ?_) (fun (c11 : ¬ (σ 4 h = 0)) => ?_)
        · refine lv_iconst (v := nI 0) hC.1 hC.2.1 dX7_keep_84 (by decide) ?_
          exact J85_10 _ (if_neg (fun q => q c11)).symm _ _ _ hw (lv_sub hl [0, 1, 2, 3] rfl)
        · refine lv_iconst (v := nI 1) hC.1 hC.2.1 dX7_keep_80 (by decide) ?_
          refine lv_goto (tgt := 85) hC.1 hC.2.1 dX7_keep_81 (by decide) ?_
          exact J85_10 _ (if_pos c11).symm _ _ _ hw (lv_sub hl [0, 1, 2, 3] rfl)
  rw [← upc_0 (σ 4) (va_cpy (σ 15) (upd (upd (upd (σ 48) 0 (σ 0 0)) 1 (σ 0 1)) 2 (σ 0 2)) 0 3 3)] at hw
  exact L58_0 _ 0 (by omega) (Nat.lt_succ_self _) _ _ _ hw (lv_sub hl [3, 2, 1, 0] rfl)
set_option maxHeartbeats 4000000 in
set_option maxRecDepth 100000 in
theorem tX7_keep_k19 (l : Launch) (E : EV) (a : Nat → Nat) (σ : St) (kp : Nat) (hnx : σ 0 3 = nI 19) (hkp : σ 0 4 = nI kp) (hk30 : kp ≤ 30) : MV l E (XW E a) yX7_keep (Cond.code yX7_keep cX7_keep 4 none) ({ frames := 1, cells := 0, slots := 0, locals := 24 }) [.ref (a 68)] σ (fun u_ => u_ = sr (sr σ 49 (kpr σ (σ 49))) 0 (upd (upd (σ 0) 3 (nI (if 19 ≠ 29 then 19 + 1 else 0))) 4 (nI (if kp ≠ 30 then kp + 1 else kp)))) := by
  refine MV.mk (by decide +kernel) (Nat.le_of_ble_eq_true rfl) ?_
  intro p e s m args below meth c ls A Q hret hC hw hl
  have hC : Cxt E p s m args meth c cX7_keep 4 none RX7 A := hC
  have hl : lv_has ls 4 [(0, .ref (a 68))] := hl
  refine lv_aload_n hC.1 hC.2.1 dX7_keep_0 rfl (lv_at hl 0 rfl) ?_
  refine gf_X7_13 hC hw dX7_keep_1 ?_
  refine lv_aload_n hC.1 hC.2.1 dX7_keep_4 rfl (lv_at hl 0 rfl) ?_
  refine gf_X7_28 (v := nI 19) hC hw hnx dX7_keep_5 ?_
  refine q_aald hC hw (i := 19) (by decide) dX7_keep_8 ?_
  refine lv_astore_n (lv' := [(1, .ref (a 49)), (0, .ref (a 68))]) hC.1 hC.2.1 dX7_keep_9 rfl hl (by decide) rfl (fun ls hl => ?_)
  refine lv_aload_n hC.1 hC.2.1 dX7_keep_10 rfl (lv_at hl 0 rfl) ?_
  refine lv_iconst (v := nI 0) hC.1 hC.2.1 dX7_keep_11 (by decide) ?_
  refine lv_aload_n hC.1 hC.2.1 dX7_keep_12 rfl (lv_at hl 1 rfl) ?_
  refine gf_X7_16 hC hw dX7_keep_13 ?_
  refine gf_X7_32 (v := σ 0 0) hC hw rfl dX7_keep_16 ?_
  refine q_ast (Wf := XW E a) 59 rfl (by decide) (XW_s49 _) hC hw (by omega) dX7_keep_19 (fun H locs hw => ?_)
  have hw : Wst E (XW E a) (sr σ 49 (upd (σ 49) 0 (σ 0 0))) A s.heap H locs := hw
  refine lv_aload_n hC.1 hC.2.1 dX7_keep_20 rfl (lv_at hl 0 rfl) ?_
  refine lv_iconst (v := nI 1) hC.1 hC.2.1 dX7_keep_21 (by decide) ?_
  refine lv_aload_n hC.1 hC.2.1 dX7_keep_22 rfl (lv_at hl 1 rfl) ?_
  refine gf_X7_20 hC hw dX7_keep_23 ?_
  refine gf_X7_37 (v := σ 0 1) hC hw rfl dX7_keep_26 ?_
  refine q_ast (Wf := XW E a) 59 rfl (by decide) (XW_s49 _) hC hw (by omega) dX7_keep_29 (fun H locs hw => ?_)
  have hw : Wst E (XW E a) (sr (sr σ 49 (upd (σ 49) 0 (σ 0 0))) 49 (upd (upd (σ 49) 0 (σ 0 0)) 1 (σ 0 1))) A s.heap H locs := hw
  have hst_ : sr (sr σ 49 (upd (σ 49) 0 (σ 0 0))) 49 (upd (upd (σ 49) 0 (σ 0 0)) 1 (σ 0 1)) = sr σ 49 (upd (upd (σ 49) 0 (σ 0 0)) 1 (σ 0 1)) := by
    funext j_ x_
    by_cases e0 : j_ = 0
    · subst e0
      rfl
    · by_cases e49 : j_ = 49
      · subst e49; rfl
      · simp only [sr, e0, e49, if_false]
  rw [hst_] at hw
  refine lv_aload_n hC.1 hC.2.1 dX7_keep_30 rfl (lv_at hl 0 rfl) ?_
  refine lv_iconst (v := nI 2) hC.1 hC.2.1 dX7_keep_31 (by decide) ?_
  refine lv_aload_n hC.1 hC.2.1 dX7_keep_32 rfl (lv_at hl 1 rfl) ?_
  refine gf_X7_20 hC hw dX7_keep_33 ?_
  refine gf_X7_40 (v := σ 0 2) hC hw rfl dX7_keep_36 ?_
  refine q_ast (Wf := XW E a) 59 rfl (by decide) (XW_s49 _) hC hw (by omega) dX7_keep_39 (fun H locs hw => ?_)
  have hw : Wst E (XW E a) (sr (sr σ 49 (upd (upd (σ 49) 0 (σ 0 0)) 1 (σ 0 1))) 49 (upd (upd (upd (σ 49) 0 (σ 0 0)) 1 (σ 0 1)) 2 (σ 0 2))) A s.heap H locs := hw
  have hst_ : sr (sr σ 49 (upd (upd (σ 49) 0 (σ 0 0)) 1 (σ 0 1))) 49 (upd (upd (upd (σ 49) 0 (σ 0 0)) 1 (σ 0 1)) 2 (σ 0 2)) = sr σ 49 (upd (upd (upd (σ 49) 0 (σ 0 0)) 1 (σ 0 1)) 2 (σ 0 2)) := by
    funext j_ x_
    by_cases e0 : j_ = 0
    · subst e0
      rfl
    · by_cases e49 : j_ = 49
      · subst e49; rfl
      · simp only [sr, e0, e49, if_false]
  rw [hst_] at hw
  refine lv_iconst (v := nI 3) hC.1 hC.2.1 dX7_keep_40 (by decide) ?_
  refine lv_istore_n (lv' := [(2, .int (nI 3)), (1, .ref (a 49)), (0, .ref (a 68))]) hC.1 hC.2.1 dX7_keep_41 rfl hl (by decide) rfl (fun ls hl => ?_)
  refine lv_aload_n hC.1 hC.2.1 dX7_keep_42 rfl (lv_at hl 2 rfl) ?_
  refine gf_X7_24 hC hw dX7_keep_43 ?_
  refine lv_iconst (v := nI 0) hC.1 hC.2.1 dX7_keep_46 (by decide) ?_
  refine lv_aload_n hC.1 hC.2.1 dX7_keep_47 rfl (lv_at hl 1 rfl) ?_
  refine lv_iload_n hC.1 hC.2.1 dX7_keep_48 rfl (lv_at hl 0 rfl) ?_
  refine lv_iconst (v := nI 3) hC.1 hC.2.1 dX7_keep_49 (by decide) ?_
  refine q_cpy (sp := 0) (dp := 3) (n := 3) 25 rfl 59 rfl (XW_s49 _) hC hw hl (by omega) (by omega) (by decide) (by decide) ⟨Nat.le_of_ble_eq_true rfl, Nat.le_of_ble_eq_true rfl⟩ wk2_182 dX7_keep_50 (fun H locs hw => ?_)
  have hw : Wst E (XW E a) (sr (sr σ 49 (upd (upd (upd (σ 49) 0 (σ 0 0)) 1 (σ 0 1)) 2 (σ 0 2))) 49 (va_cpy (σ 15) (upd (upd (upd (σ 49) 0 (σ 0 0)) 1 (σ 0 1)) 2 (σ 0 2)) 0 3 3)) A s.heap H locs := hw
  have hst_ : sr (sr σ 49 (upd (upd (upd (σ 49) 0 (σ 0 0)) 1 (σ 0 1)) 2 (σ 0 2))) 49 (va_cpy (σ 15) (upd (upd (upd (σ 49) 0 (σ 0 0)) 1 (σ 0 1)) 2 (σ 0 2)) 0 3 3) = sr σ 49 (va_cpy (σ 15) (upd (upd (upd (σ 49) 0 (σ 0 0)) 1 (σ 0 1)) 2 (σ 0 2)) 0 3 3) := by
    funext j_ x_
    by_cases e0 : j_ = 0
    · subst e0
      rfl
    · by_cases e49 : j_ = 49
      · subst e49; rfl
      · simp only [sr, e0, e49, if_false]
  rw [hst_] at hw
  refine lv_iinc (v := nI (3 + 3)) (lv' := [(2, .int (nI (3 + 3))), (1, .ref (a 49)), (0, .ref (a 68))]) hC.1 hC.2.1 dX7_keep_53 hl (k := 0) rfl (nI_add _ _) (by decide) rfl (fun ls hl => ?_)
  refine lv_iconst (v := nI 0) hC.1 hC.2.1 dX7_keep_56 (by decide) ?_
  refine lv_istore_n (lv' := [(3, .int (nI 0)), (2, .int (nI (3 + 3))), (1, .ref (a 49)), (0, .ref (a 68))]) hC.1 hC.2.1 dX7_keep_57 rfl hl (by decide) rfl (fun ls hl => ?_)
  have L58_0 : ∀ (n : Nat), ∀ (h : Nat), (h ≤ 10) → (10 - h) < n → ∀ (H : Heap) (locs : List Loc) (ls : Array Slot), Wst E (XW E a) (sr σ 49 (upc (σ 4) h (va_cpy (σ 15) (upd (upd (upd (σ 49) 0 (σ 0 0)) 1 (σ 0 1)) 2 (σ 0 2)) 0 3 3))) A s.heap H locs → lv_has ls 4 [(0, .ref (a 68)), (1, .ref (a 49)), (2, .int (nI (3 + 3))), (3, .int (nI h))] → W p l e ({ frames := 1, cells := 0, slots := 0, locals := 24 }) s m args below meth c H locs 0 0 Q (F0 m 58 ls []) := by
    intro n
    induction n with
    | zero => intro h hh hn; exact absurd hn (Nat.not_lt_zero _)
    | succ n ih58 =>
      intro h hh hn58 H locs ls hw hl
      refine lv_iload_n hC.1 hC.2.1 dX7_keep_58 rfl (lv_at hl 3 rfl) ?_
      refine lv_bipush (v := nI 10) hC.1 hC.2.1 dX7_keep_59 (by decide) ?_
      refine q_cmpge hC 92 (cNle (by omega) (by omega)) dX7_keep_61 (by decide) (fun (c2 : 10 ≤ h) => ?_) (fun (c2 : h < 10) => ?_)
      · have hh9 : h = 10 := by omega
        rw [hh9] at hw
        refine lv_iinc (v := nI (3 + 3 + 10)) (lv' := [(2, .int (nI (3 + 3 + 10))), (0, .ref (a 68)), (1, .ref (a 49)), (3, .int (nI h))]) hC.1 hC.2.1 dX7_keep_92 hl (k := 2) rfl (nI_add _ _) (by decide) rfl (fun ls hl => ?_)
        refine lv_aload_n hC.1 hC.2.1 dX7_keep_95 rfl (lv_at hl 1 rfl) ?_
        refine gf_X7_20 hC hw dX7_keep_96 ?_
        refine gf_X7_53 hC hw dX7_keep_99 ?_
        refine lv_iconst (v := nI 0) hC.1 hC.2.1 dX7_keep_102 (by decide) ?_
        refine lv_aload_n hC.1 hC.2.1 dX7_keep_103 rfl (lv_at hl 2 rfl) ?_
        refine lv_iload_n hC.1 hC.2.1 dX7_keep_104 rfl (lv_at hl 0 rfl) ?_
        refine lv_bipush (v := nI 24) hC.1 hC.2.1 dX7_keep_105 (by decide) ?_
        refine q_cpy (sp := 0) (dp := (3 + 3 + 10)) (n := 24) 21 rfl 59 rfl (XW_s49 _) hC hw hl (by omega) (by omega) (by decide) (by decide) ⟨Nat.le_of_ble_eq_true rfl, Nat.le_of_ble_eq_true rfl⟩ wk2_182 dX7_keep_107 (fun H locs hw => ?_)
        have hw : Wst E (XW E a) (sr (sr σ 49 (upc (σ 4) 10 (va_cpy (σ 15) (upd (upd (upd (σ 49) 0 (σ 0 0)) 1 (σ 0 1)) 2 (σ 0 2)) 0 3 3))) 49 (va_cpy (σ 11) (upc (σ 4) 10 (va_cpy (σ 15) (upd (upd (upd (σ 49) 0 (σ 0 0)) 1 (σ 0 1)) 2 (σ 0 2)) 0 3 3)) 0 (3 + 3 + 10) 24)) A s.heap H locs := hw
        have hst_ : sr (sr σ 49 (upc (σ 4) 10 (va_cpy (σ 15) (upd (upd (upd (σ 49) 0 (σ 0 0)) 1 (σ 0 1)) 2 (σ 0 2)) 0 3 3))) 49 (va_cpy (σ 11) (upc (σ 4) 10 (va_cpy (σ 15) (upd (upd (upd (σ 49) 0 (σ 0 0)) 1 (σ 0 1)) 2 (σ 0 2)) 0 3 3)) 0 (3 + 3 + 10) 24) = sr σ 49 (va_cpy (σ 11) (upc (σ 4) 10 (va_cpy (σ 15) (upd (upd (upd (σ 49) 0 (σ 0 0)) 1 (σ 0 1)) 2 (σ 0 2)) 0 3 3)) 0 (3 + 3 + 10) 24) := by
          funext j_ x_
          by_cases e0 : j_ = 0
          · subst e0
            rfl
          · by_cases e49 : j_ = 49
            · subst e49; rfl
            · simp only [sr, e0, e49, if_false]
        rw [hst_] at hw
        refine lv_aload_n hC.1 hC.2.1 dX7_keep_110 rfl (lv_at hl 1 rfl) ?_
        refine gf_X7_20 hC hw dX7_keep_111 ?_
        refine gf_X7_56 hC hw dX7_keep_114 ?_
        refine lv_iconst (v := nI 0) hC.1 hC.2.1 dX7_keep_117 (by decide) ?_
        refine lv_aload_n hC.1 hC.2.1 dX7_keep_118 rfl (lv_at hl 2 rfl) ?_
        refine lv_iload_n hC.1 hC.2.1 dX7_keep_119 rfl (lv_at hl 0 rfl) ?_
        refine lv_bipush (v := nI 24) hC.1 hC.2.1 dX7_keep_120 (by decide) ?_
        refine q_addN hC dX7_keep_122 ?_
        refine lv_bipush (v := nI 24) hC.1 hC.2.1 dX7_keep_123 (by decide) ?_
        refine q_cpy (sp := 0) (dp := ((3 + 3 + 10) + 24)) (n := 24) 22 rfl 59 rfl (XW_s49 _) hC hw hl (by omega) (by omega) (by decide) (by decide) ⟨Nat.le_of_ble_eq_true rfl, Nat.le_of_ble_eq_true rfl⟩ wk2_182 dX7_keep_125 (fun H locs hw => ?_)
        have hw : Wst E (XW E a) (sr (sr σ 49 (va_cpy (σ 11) (upc (σ 4) 10 (va_cpy (σ 15) (upd (upd (upd (σ 49) 0 (σ 0 0)) 1 (σ 0 1)) 2 (σ 0 2)) 0 3 3)) 0 (3 + 3 + 10) 24)) 49 (va_cpy (σ 12) (va_cpy (σ 11) (upc (σ 4) 10 (va_cpy (σ 15) (upd (upd (upd (σ 49) 0 (σ 0 0)) 1 (σ 0 1)) 2 (σ 0 2)) 0 3 3)) 0 (3 + 3 + 10) 24) 0 ((3 + 3 + 10) + 24) 24)) A s.heap H locs := hw
        have hst_ : sr (sr σ 49 (va_cpy (σ 11) (upc (σ 4) 10 (va_cpy (σ 15) (upd (upd (upd (σ 49) 0 (σ 0 0)) 1 (σ 0 1)) 2 (σ 0 2)) 0 3 3)) 0 (3 + 3 + 10) 24)) 49 (va_cpy (σ 12) (va_cpy (σ 11) (upc (σ 4) 10 (va_cpy (σ 15) (upd (upd (upd (σ 49) 0 (σ 0 0)) 1 (σ 0 1)) 2 (σ 0 2)) 0 3 3)) 0 (3 + 3 + 10) 24) 0 ((3 + 3 + 10) + 24) 24) = sr σ 49 (va_cpy (σ 12) (va_cpy (σ 11) (upc (σ 4) 10 (va_cpy (σ 15) (upd (upd (upd (σ 49) 0 (σ 0 0)) 1 (σ 0 1)) 2 (σ 0 2)) 0 3 3)) 0 (3 + 3 + 10) 24) 0 ((3 + 3 + 10) + 24) 24) := by
          funext j_ x_
          by_cases e0 : j_ = 0
          · subst e0
            rfl
          · by_cases e49 : j_ = 49
            · subst e49; rfl
            · simp only [sr, e0, e49, if_false]
        rw [hst_] at hw
        refine lv_aload_n hC.1 hC.2.1 dX7_keep_128 rfl (lv_at hl 1 rfl) ?_
        refine gf_X7_20 hC hw dX7_keep_129 ?_
        refine gf_X7_59 hC hw dX7_keep_132 ?_
        refine lv_iconst (v := nI 0) hC.1 hC.2.1 dX7_keep_135 (by decide) ?_
        refine lv_aload_n hC.1 hC.2.1 dX7_keep_136 rfl (lv_at hl 2 rfl) ?_
        refine lv_iload_n hC.1 hC.2.1 dX7_keep_137 rfl (lv_at hl 0 rfl) ?_
        refine lv_bipush (v := nI 48) hC.1 hC.2.1 dX7_keep_138 (by decide) ?_
        refine q_addN hC dX7_keep_140 ?_
        refine lv_bipush (v := nI 24) hC.1 hC.2.1 dX7_keep_141 (by decide) ?_
        refine q_cpy (sp := 0) (dp := ((3 + 3 + 10) + 48)) (n := 24) 23 rfl 59 rfl (XW_s49 _) hC hw hl (by omega) (by omega) (by decide) (by decide) ⟨Nat.le_of_ble_eq_true rfl, Nat.le_of_ble_eq_true rfl⟩ wk2_182 dX7_keep_143 (fun H locs hw => ?_)
        have hw : Wst E (XW E a) (sr (sr σ 49 (va_cpy (σ 12) (va_cpy (σ 11) (upc (σ 4) 10 (va_cpy (σ 15) (upd (upd (upd (σ 49) 0 (σ 0 0)) 1 (σ 0 1)) 2 (σ 0 2)) 0 3 3)) 0 (3 + 3 + 10) 24) 0 ((3 + 3 + 10) + 24) 24)) 49 (va_cpy (σ 13) (va_cpy (σ 12) (va_cpy (σ 11) (upc (σ 4) 10 (va_cpy (σ 15) (upd (upd (upd (σ 49) 0 (σ 0 0)) 1 (σ 0 1)) 2 (σ 0 2)) 0 3 3)) 0 (3 + 3 + 10) 24) 0 ((3 + 3 + 10) + 24) 24) 0 ((3 + 3 + 10) + 48) 24)) A s.heap H locs := hw
        have hst_ : sr (sr σ 49 (va_cpy (σ 12) (va_cpy (σ 11) (upc (σ 4) 10 (va_cpy (σ 15) (upd (upd (upd (σ 49) 0 (σ 0 0)) 1 (σ 0 1)) 2 (σ 0 2)) 0 3 3)) 0 (3 + 3 + 10) 24) 0 ((3 + 3 + 10) + 24) 24)) 49 (va_cpy (σ 13) (va_cpy (σ 12) (va_cpy (σ 11) (upc (σ 4) 10 (va_cpy (σ 15) (upd (upd (upd (σ 49) 0 (σ 0 0)) 1 (σ 0 1)) 2 (σ 0 2)) 0 3 3)) 0 (3 + 3 + 10) 24) 0 ((3 + 3 + 10) + 24) 24) 0 ((3 + 3 + 10) + 48) 24) = sr σ 49 (va_cpy (σ 13) (va_cpy (σ 12) (va_cpy (σ 11) (upc (σ 4) 10 (va_cpy (σ 15) (upd (upd (upd (σ 49) 0 (σ 0 0)) 1 (σ 0 1)) 2 (σ 0 2)) 0 3 3)) 0 (3 + 3 + 10) 24) 0 ((3 + 3 + 10) + 24) 24) 0 ((3 + 3 + 10) + 48) 24) := by
          funext j_ x_
          by_cases e0 : j_ = 0
          · subst e0
            rfl
          · by_cases e49 : j_ = 49
            · subst e49; rfl
            · simp only [sr, e0, e49, if_false]
        rw [hst_] at hw
        refine lv_aload_n hC.1 hC.2.1 dX7_keep_146 rfl (lv_at hl 1 rfl) ?_
        refine gf_X7_20 hC hw dX7_keep_147 ?_
        refine gf_X7_62 hC hw dX7_keep_150 ?_
        refine lv_iconst (v := nI 0) hC.1 hC.2.1 dX7_keep_153 (by decide) ?_
        refine lv_aload_n hC.1 hC.2.1 dX7_keep_154 rfl (lv_at hl 2 rfl) ?_
        refine lv_iload_n hC.1 hC.2.1 dX7_keep_155 rfl (lv_at hl 0 rfl) ?_
        refine lv_bipush (v := nI 72) hC.1 hC.2.1 dX7_keep_156 (by decide) ?_
        refine q_addN hC dX7_keep_158 ?_
        refine lv_bipush (v := nI 24) hC.1 hC.2.1 dX7_keep_159 (by decide) ?_
        refine q_cpy (sp := 0) (dp := ((3 + 3 + 10) + 72)) (n := 24) 24 rfl 59 rfl (XW_s49 _) hC hw hl (by omega) (by omega) (by decide) (by decide) ⟨Nat.le_of_ble_eq_true rfl, Nat.le_of_ble_eq_true rfl⟩ wk2_182 dX7_keep_161 (fun H locs hw => ?_)
        have hw : Wst E (XW E a) (sr (sr σ 49 (va_cpy (σ 13) (va_cpy (σ 12) (va_cpy (σ 11) (upc (σ 4) 10 (va_cpy (σ 15) (upd (upd (upd (σ 49) 0 (σ 0 0)) 1 (σ 0 1)) 2 (σ 0 2)) 0 3 3)) 0 (3 + 3 + 10) 24) 0 ((3 + 3 + 10) + 24) 24) 0 ((3 + 3 + 10) + 48) 24)) 49 (va_cpy (σ 14) (va_cpy (σ 13) (va_cpy (σ 12) (va_cpy (σ 11) (upc (σ 4) 10 (va_cpy (σ 15) (upd (upd (upd (σ 49) 0 (σ 0 0)) 1 (σ 0 1)) 2 (σ 0 2)) 0 3 3)) 0 (3 + 3 + 10) 24) 0 ((3 + 3 + 10) + 24) 24) 0 ((3 + 3 + 10) + 48) 24) 0 ((3 + 3 + 10) + 72) 24)) A s.heap H locs := hw
        have hst_ : sr (sr σ 49 (va_cpy (σ 13) (va_cpy (σ 12) (va_cpy (σ 11) (upc (σ 4) 10 (va_cpy (σ 15) (upd (upd (upd (σ 49) 0 (σ 0 0)) 1 (σ 0 1)) 2 (σ 0 2)) 0 3 3)) 0 (3 + 3 + 10) 24) 0 ((3 + 3 + 10) + 24) 24) 0 ((3 + 3 + 10) + 48) 24)) 49 (va_cpy (σ 14) (va_cpy (σ 13) (va_cpy (σ 12) (va_cpy (σ 11) (upc (σ 4) 10 (va_cpy (σ 15) (upd (upd (upd (σ 49) 0 (σ 0 0)) 1 (σ 0 1)) 2 (σ 0 2)) 0 3 3)) 0 (3 + 3 + 10) 24) 0 ((3 + 3 + 10) + 24) 24) 0 ((3 + 3 + 10) + 48) 24) 0 ((3 + 3 + 10) + 72) 24) = sr σ 49 (va_cpy (σ 14) (va_cpy (σ 13) (va_cpy (σ 12) (va_cpy (σ 11) (upc (σ 4) 10 (va_cpy (σ 15) (upd (upd (upd (σ 49) 0 (σ 0 0)) 1 (σ 0 1)) 2 (σ 0 2)) 0 3 3)) 0 (3 + 3 + 10) 24) 0 ((3 + 3 + 10) + 24) 24) 0 ((3 + 3 + 10) + 48) 24) 0 ((3 + 3 + 10) + 72) 24) := by
          funext j_ x_
          by_cases e0 : j_ = 0
          · subst e0
            rfl
          · by_cases e49 : j_ = 49
            · subst e49; rfl
            · simp only [sr, e0, e49, if_false]
        rw [hst_] at hw
        refine lv_aload_n hC.1 hC.2.1 dX7_keep_164 rfl (lv_at hl 1 rfl) ?_
        refine lv_aload_n hC.1 hC.2.1 dX7_keep_165 rfl (lv_at hl 1 rfl) ?_
        refine gf_X7_28 (v := nI 19) hC hw hnx dX7_keep_166 ?_
        refine lv_bipush (v := nI 29) hC.1 hC.2.1 dX7_keep_169 (by decide) ?_
        have J184_4 : ∀ (w3 : Nat), w3 = (if 19 ≠ 29 then (19 + 1) else 0) → ∀ (H : Heap) (locs : List Loc) (ls : Array Slot), Wst E (XW E a) (sr σ 49 (va_cpy (σ 14) (va_cpy (σ 13) (va_cpy (σ 12) (va_cpy (σ 11) (upc (σ 4) 10 (va_cpy (σ 15) (upd (upd (upd (σ 49) 0 (σ 0 0)) 1 (σ 0 1)) 2 (σ 0 2)) 0 3 3)) 0 (3 + 3 + 10) 24) 0 ((3 + 3 + 10) + 24) 24) 0 ((3 + 3 + 10) + 48) 24) 0 ((3 + 3 + 10) + 72) 24)) A s.heap H locs → lv_has ls 4 [(0, .ref (a 68)), (1, .ref (a 49)), (2, .int (nI (3 + 3 + 10))), (3, .int (nI h))] → W p l e ({ frames := 1, cells := 0, slots := 0, locals := 24 }) s m args below meth c H locs 0 0 Q (F0 m 184 ls [.int (nI w3), .ref (a 68)]) := by
          intro w3 e4 H locs ls hw hl
          subst e4
          refine pf_X7_28 hC hw dX7_keep_184 (fun H locs hw => ?_)
          have hw : Wst E (XW E a) (sr (sr σ 49 (va_cpy (σ 14) (va_cpy (σ 13) (va_cpy (σ 12) (va_cpy (σ 11) (upc (σ 4) 10 (va_cpy (σ 15) (upd (upd (upd (σ 49) 0 (σ 0 0)) 1 (σ 0 1)) 2 (σ 0 2)) 0 3 3)) 0 (3 + 3 + 10) 24) 0 ((3 + 3 + 10) + 24) 24) 0 ((3 + 3 + 10) + 48) 24) 0 ((3 + 3 + 10) + 72) 24)) 0 (upd (σ 0) 3 (nI (if 19 ≠ 29 then (19 + 1) else 0)))) A s.heap H locs := hw
          refine lv_aload_n hC.1 hC.2.1 dX7_keep_187 rfl (lv_at hl 0 rfl) ?_
          refine lv_aload_n hC.1 hC.2.1 dX7_keep_188 rfl (lv_at hl 0 rfl) ?_
          refine gf_X7_65 (v := nI kp) hC hw hkp dX7_keep_189 ?_
          refine lv_bipush (v := nI 30) hC.1 hC.2.1 dX7_keep_192 (by decide) ?_
          have J210_6 : ∀ (w5 : Nat), w5 = (if kp ≠ 30 then (kp + 1) else kp) → ∀ (H : Heap) (locs : List Loc) (ls : Array Slot), Wst E (XW E a) (sr (sr σ 49 (va_cpy (σ 14) (va_cpy (σ 13) (va_cpy (σ 12) (va_cpy (σ 11) (upc (σ 4) 10 (va_cpy (σ 15) (upd (upd (upd (σ 49) 0 (σ 0 0)) 1 (σ 0 1)) 2 (σ 0 2)) 0 3 3)) 0 (3 + 3 + 10) 24) 0 ((3 + 3 + 10) + 24) 24) 0 ((3 + 3 + 10) + 48) 24) 0 ((3 + 3 + 10) + 72) 24)) 0 (upd (σ 0) 3 (nI (if 19 ≠ 29 then (19 + 1) else 0)))) A s.heap H locs → lv_has ls 4 [(0, .ref (a 68)), (1, .ref (a 49)), (2, .int (nI (3 + 3 + 10))), (3, .int (nI h))] → W p l e ({ frames := 1, cells := 0, slots := 0, locals := 24 }) s m args below meth c H locs 0 0 Q (F0 m 210 ls [.int (nI w5), .ref (a 68)]) := by
            intro w5 e6 H locs ls hw hl
            subst e6
            refine pf_X7_65 hC hw dX7_keep_210 (fun H locs hw => ?_)
            have hw : Wst E (XW E a) (sr (sr (sr σ 49 (va_cpy (σ 14) (va_cpy (σ 13) (va_cpy (σ 12) (va_cpy (σ 11) (upc (σ 4) 10 (va_cpy (σ 15) (upd (upd (upd (σ 49) 0 (σ 0 0)) 1 (σ 0 1)) 2 (σ 0 2)) 0 3 3)) 0 (3 + 3 + 10) 24) 0 ((3 + 3 + 10) + 24) 24) 0 ((3 + 3 + 10) + 48) 24) 0 ((3 + 3 + 10) + 72) 24)) 0 (upd (σ 0) 3 (nI (if 19 ≠ 29 then (19 + 1) else 0)))) 0 (upd (upd (σ 0) 3 (nI (if 19 ≠ 29 then (19 + 1) else 0))) 4 (nI (if kp ≠ 30 then (kp + 1) else kp)))) A s.heap H locs := hw
            have hst_ : sr (sr (sr σ 49 (va_cpy (σ 14) (va_cpy (σ 13) (va_cpy (σ 12) (va_cpy (σ 11) (upc (σ 4) 10 (va_cpy (σ 15) (upd (upd (upd (σ 49) 0 (σ 0 0)) 1 (σ 0 1)) 2 (σ 0 2)) 0 3 3)) 0 (3 + 3 + 10) 24) 0 ((3 + 3 + 10) + 24) 24) 0 ((3 + 3 + 10) + 48) 24) 0 ((3 + 3 + 10) + 72) 24)) 0 (upd (σ 0) 3 (nI (if 19 ≠ 29 then (19 + 1) else 0)))) 0 (upd (upd (σ 0) 3 (nI (if 19 ≠ 29 then (19 + 1) else 0))) 4 (nI (if kp ≠ 30 then (kp + 1) else kp))) = sr (sr σ 49 (va_cpy (σ 14) (va_cpy (σ 13) (va_cpy (σ 12) (va_cpy (σ 11) (upc (σ 4) 10 (va_cpy (σ 15) (upd (upd (upd (σ 49) 0 (σ 0 0)) 1 (σ 0 1)) 2 (σ 0 2)) 0 3 3)) 0 (3 + 3 + 10) 24) 0 ((3 + 3 + 10) + 24) 24) 0 ((3 + 3 + 10) + 48) 24) 0 ((3 + 3 + 10) + 72) 24)) 0 (upd (upd (σ 0) 3 (nI (if 19 ≠ 29 then (19 + 1) else 0))) 4 (nI (if kp ≠ 30 then (kp + 1) else kp))) := by
              funext j_ x_
              by_cases e0 : j_ = 0
              · subst e0
                by_cases y3 : x_ = 3
                · subst y3; rfl
                · by_cases y4 : x_ = 4
                  · subst y4; rfl
                  · simp [sr, upd, y3, y4]
              · by_cases e49 : j_ = 49
                · subst e49; rfl
                · simp only [sr, e0, e49, if_false]
            rw [hst_] at hw
            refine hret _ _ _ _ _ hw ?_ dX7_keep_213
            exact rfl
          refine q_cmpne hC 204 (cNeq (by omega) (by omega)) dX7_keep_194 (by decide) (fun (c7 : kp ≠ 30) => ?_) (fun (c7 : kp = 30) => ?_)
          · refine lv_aload_n hC.1 hC.2.1 dX7_keep_204 rfl (lv_at hl 0 rfl) ?_
            refine gf_X7_65 (v := nI kp) hC hw hkp dX7_keep_205 ?_
            refine lv_iconst (v := nI 1) hC.1 hC.2.1 dX7_keep_208 (by decide) ?_
            refine q_addN hC dX7_keep_209 ?_
            exact J210_6 _ (by (rw [if_pos c7]) <;> rfl) _ _ _ hw (lv_sub hl [0, 1, 2, 3] rfl)
          · refine lv_aload_n hC.1 hC.2.1 dX7_keep_197 rfl (lv_at hl 0 rfl) ?_
            refine gf_X7_65 (v := nI kp) hC hw hkp dX7_keep_198 ?_
            refine lv_goto (tgt := 210) hC.1 hC.2.1 dX7_keep_201 (by decide) ?_
            exact J210_6 _ (by (rw [if_neg (fun q => q c7)]) <;> rfl) _ _ _ hw (lv_sub hl [0, 1, 2, 3] rfl)
        refine q_cmpne hC 178 (cNeq (by omega) (by omega)) dX7_keep_171 (by decide) (fun (c8 : 19 ≠ 29) => ?_) (fun (c8 : 19 = 29) => ?_)
        · refine lv_aload_n hC.1 hC.2.1 dX7_keep_178 rfl (lv_at hl 1 rfl) ?_
          refine gf_X7_28 (v := nI 19) hC hw hnx dX7_keep_179 ?_
          refine lv_iconst (v := nI 1) hC.1 hC.2.1 dX7_keep_182 (by decide) ?_
          refine q_addN hC dX7_keep_183 ?_
          exact J184_4 _ (by (rw [if_pos c8]) <;> rfl) _ _ _ hw (lv_sub hl [1, 2, 0, 3] rfl)
        · refine lv_iconst (v := nI 0) hC.1 hC.2.1 dX7_keep_174 (by decide) ?_
          refine lv_goto (tgt := 184) hC.1 hC.2.1 dX7_keep_175 (by decide) ?_
          exact J184_4 _ (by (rw [if_neg (fun q => q c8)]) <;> rfl) _ _ _ hw (lv_sub hl [1, 2, 0, 3] rfl)
      · refine lv_aload_n hC.1 hC.2.1 dX7_keep_64 rfl (lv_at hl 1 rfl) ?_
        refine lv_iload_n hC.1 hC.2.1 dX7_keep_65 rfl (lv_at hl 2 rfl) ?_
        refine lv_iload_n hC.1 hC.2.1 dX7_keep_66 rfl (lv_at hl 3 rfl) ?_
        refine q_addN hC dX7_keep_67 ?_
        refine lv_aload_n hC.1 hC.2.1 dX7_keep_68 rfl (lv_at hl 0 rfl) ?_
        refine gf_X7_16 hC hw dX7_keep_69 ?_
        refine gf_X7_49 hC hw dX7_keep_72 ?_
        refine lv_iload_n hC.1 hC.2.1 dX7_keep_75 rfl (lv_at hl 3 rfl) ?_
        refine al_X4 (v := σ 4 h) hC hw (by omega) rfl dX7_keep_76 ?_
        have J85_10 : ∀ (w9 : Int32), w9 = (if ¬ (σ 4 h = 0) then (1 : Int32) else 0) → ∀ (H : Heap) (locs : List Loc) (ls : Array Slot), Wst E (XW E a) (sr σ 49 (upc (σ 4) h (va_cpy (σ 15) (upd (upd (upd (σ 49) 0 (σ 0 0)) 1 (σ 0 1)) 2 (σ 0 2)) 0 3 3))) A s.heap H locs → lv_has ls 4 [(0, .ref (a 68)), (1, .ref (a 49)), (2, .int (nI (3 + 3))), (3, .int (nI h))] → W p l e ({ frames := 1, cells := 0, slots := 0, locals := 24 }) s m args below meth c H locs 0 0 Q (F0 m 85 ls [.int (w9), .int (nI ((3 + 3) + h)), .ref (a 49)]) := by
          intro w9 e10 H locs ls hw hl
          subst e10
          refine q_ast (Wf := XW E a) 59 rfl (by decide) (XW_s49 _) hC hw (by omega) dX7_keep_85 (fun H locs hw => ?_)
          have hw : Wst E (XW E a) (sr (sr σ 49 (upc (σ 4) h (va_cpy (σ 15) (upd (upd (upd (σ 49) 0 (σ 0 0)) 1 (σ 0 1)) 2 (σ 0 2)) 0 3 3))) 49 (upd (upc (σ 4) h (va_cpy (σ 15) (upd (upd (upd (σ 49) 0 (σ 0 0)) 1 (σ 0 1)) 2 (σ 0 2)) 0 3 3)) ((3 + 3) + h) (if ¬ (σ 4 h = 0) then (1 : Int32) else 0))) A s.heap H locs := hw
          have hst_ : sr (sr σ 49 (upc (σ 4) h (va_cpy (σ 15) (upd (upd (upd (σ 49) 0 (σ 0 0)) 1 (σ 0 1)) 2 (σ 0 2)) 0 3 3))) 49 (upd (upc (σ 4) h (va_cpy (σ 15) (upd (upd (upd (σ 49) 0 (σ 0 0)) 1 (σ 0 1)) 2 (σ 0 2)) 0 3 3)) ((3 + 3) + h) (if ¬ (σ 4 h = 0) then (1 : Int32) else 0)) = sr σ 49 (upd (upc (σ 4) h (va_cpy (σ 15) (upd (upd (upd (σ 49) 0 (σ 0 0)) 1 (σ 0 1)) 2 (σ 0 2)) 0 3 3)) ((3 + 3) + h) (if ¬ (σ 4 h = 0) then (1 : Int32) else 0)) := by
            funext j_ x_
            by_cases e0 : j_ = 0
            · subst e0
              rfl
            · by_cases e49 : j_ = 49
              · subst e49; rfl
              · simp only [sr, e0, e49, if_false]
          rw [hst_] at hw
          refine lv_iinc (v := nI (h + 1)) (lv' := [(3, .int (nI (h + 1))), (0, .ref (a 68)), (1, .ref (a 49)), (2, .int (nI (3 + 3)))]) hC.1 hC.2.1 dX7_keep_86 hl (k := 3) rfl (nI_add _ _) (by decide) rfl (fun ls hl => ?_)
          refine lv_goto (tgt := 58) hC.1 hC.2.1 dX7_keep_89 (by decide) ?_
          rw [upc_s] at hw
          exact ih58 (h + 1) (by omega) (by omega) _ _ _ hw (lv_sub hl [1, 2, 3, 0] rfl)
        refine q_ifeq hC 84 cI dX7_keep_77 (by decide) (fun (c11 : σ 4 h = 0) => ?_) (fun (c11 : ¬ (σ 4 h = 0)) => ?_)
        · refine lv_iconst (v := nI 0) hC.1 hC.2.1 dX7_keep_84 (by decide) ?_
          exact J85_10 _ (if_neg (fun q => q c11)).symm _ _ _ hw (lv_sub hl [0, 1, 2, 3] rfl)
        · refine lv_iconst (v := nI 1) hC.1 hC.2.1 dX7_keep_80 (by decide) ?_
          refine lv_goto (tgt := 85) hC.1 hC.2.1 dX7_keep_81 (by decide) ?_
          exact J85_10 _ (if_pos c11).symm _ _ _ hw (lv_sub hl [0, 1, 2, 3] rfl)
  rw [← upc_0 (σ 4) (va_cpy (σ 15) (upd (upd (upd (σ 49) 0 (σ 0 0)) 1 (σ 0 1)) 2 (σ 0 2)) 0 3 3)] at hw
  exact L58_0 _ 0 (by omega) (Nat.lt_succ_self _) _ _ _ hw (lv_sub hl [3, 2, 1, 0] rfl)
set_option maxHeartbeats 4000000 in
set_option maxRecDepth 100000 in
theorem tX7_keep_k20 (l : Launch) (E : EV) (a : Nat → Nat) (σ : St) (kp : Nat) (hnx : σ 0 3 = nI 20) (hkp : σ 0 4 = nI kp) (hk30 : kp ≤ 30) : MV l E (XW E a) yX7_keep (Cond.code yX7_keep cX7_keep 4 none) ({ frames := 1, cells := 0, slots := 0, locals := 24 }) [.ref (a 68)] σ (fun u_ => u_ = sr (sr σ 50 (kpr σ (σ 50))) 0 (upd (upd (σ 0) 3 (nI (if 20 ≠ 29 then 20 + 1 else 0))) 4 (nI (if kp ≠ 30 then kp + 1 else kp)))) := by
  refine MV.mk (by decide +kernel) (Nat.le_of_ble_eq_true rfl) ?_
  intro p e s m args below meth c ls A Q hret hC hw hl
  have hC : Cxt E p s m args meth c cX7_keep 4 none RX7 A := hC
  have hl : lv_has ls 4 [(0, .ref (a 68))] := hl
  refine lv_aload_n hC.1 hC.2.1 dX7_keep_0 rfl (lv_at hl 0 rfl) ?_
  refine gf_X7_13 hC hw dX7_keep_1 ?_
  refine lv_aload_n hC.1 hC.2.1 dX7_keep_4 rfl (lv_at hl 0 rfl) ?_
  refine gf_X7_28 (v := nI 20) hC hw hnx dX7_keep_5 ?_
  refine q_aald hC hw (i := 20) (by decide) dX7_keep_8 ?_
  refine lv_astore_n (lv' := [(1, .ref (a 50)), (0, .ref (a 68))]) hC.1 hC.2.1 dX7_keep_9 rfl hl (by decide) rfl (fun ls hl => ?_)
  refine lv_aload_n hC.1 hC.2.1 dX7_keep_10 rfl (lv_at hl 0 rfl) ?_
  refine lv_iconst (v := nI 0) hC.1 hC.2.1 dX7_keep_11 (by decide) ?_
  refine lv_aload_n hC.1 hC.2.1 dX7_keep_12 rfl (lv_at hl 1 rfl) ?_
  refine gf_X7_16 hC hw dX7_keep_13 ?_
  refine gf_X7_32 (v := σ 0 0) hC hw rfl dX7_keep_16 ?_
  refine q_ast (Wf := XW E a) 60 rfl (by decide) (XW_s50 _) hC hw (by omega) dX7_keep_19 (fun H locs hw => ?_)
  have hw : Wst E (XW E a) (sr σ 50 (upd (σ 50) 0 (σ 0 0))) A s.heap H locs := hw
  refine lv_aload_n hC.1 hC.2.1 dX7_keep_20 rfl (lv_at hl 0 rfl) ?_
  refine lv_iconst (v := nI 1) hC.1 hC.2.1 dX7_keep_21 (by decide) ?_
  refine lv_aload_n hC.1 hC.2.1 dX7_keep_22 rfl (lv_at hl 1 rfl) ?_
  refine gf_X7_20 hC hw dX7_keep_23 ?_
  refine gf_X7_37 (v := σ 0 1) hC hw rfl dX7_keep_26 ?_
  refine q_ast (Wf := XW E a) 60 rfl (by decide) (XW_s50 _) hC hw (by omega) dX7_keep_29 (fun H locs hw => ?_)
  have hw : Wst E (XW E a) (sr (sr σ 50 (upd (σ 50) 0 (σ 0 0))) 50 (upd (upd (σ 50) 0 (σ 0 0)) 1 (σ 0 1))) A s.heap H locs := hw
  have hst_ : sr (sr σ 50 (upd (σ 50) 0 (σ 0 0))) 50 (upd (upd (σ 50) 0 (σ 0 0)) 1 (σ 0 1)) = sr σ 50 (upd (upd (σ 50) 0 (σ 0 0)) 1 (σ 0 1)) := by
    funext j_ x_
    by_cases e0 : j_ = 0
    · subst e0
      rfl
    · by_cases e50 : j_ = 50
      · subst e50; rfl
      · simp only [sr, e0, e50, if_false]
  rw [hst_] at hw
  refine lv_aload_n hC.1 hC.2.1 dX7_keep_30 rfl (lv_at hl 0 rfl) ?_
  refine lv_iconst (v := nI 2) hC.1 hC.2.1 dX7_keep_31 (by decide) ?_
  refine lv_aload_n hC.1 hC.2.1 dX7_keep_32 rfl (lv_at hl 1 rfl) ?_
  refine gf_X7_20 hC hw dX7_keep_33 ?_
  refine gf_X7_40 (v := σ 0 2) hC hw rfl dX7_keep_36 ?_
  refine q_ast (Wf := XW E a) 60 rfl (by decide) (XW_s50 _) hC hw (by omega) dX7_keep_39 (fun H locs hw => ?_)
  have hw : Wst E (XW E a) (sr (sr σ 50 (upd (upd (σ 50) 0 (σ 0 0)) 1 (σ 0 1))) 50 (upd (upd (upd (σ 50) 0 (σ 0 0)) 1 (σ 0 1)) 2 (σ 0 2))) A s.heap H locs := hw
  have hst_ : sr (sr σ 50 (upd (upd (σ 50) 0 (σ 0 0)) 1 (σ 0 1))) 50 (upd (upd (upd (σ 50) 0 (σ 0 0)) 1 (σ 0 1)) 2 (σ 0 2)) = sr σ 50 (upd (upd (upd (σ 50) 0 (σ 0 0)) 1 (σ 0 1)) 2 (σ 0 2)) := by
    funext j_ x_
    by_cases e0 : j_ = 0
    · subst e0
      rfl
    · by_cases e50 : j_ = 50
      · subst e50; rfl
      · simp only [sr, e0, e50, if_false]
  rw [hst_] at hw
  refine lv_iconst (v := nI 3) hC.1 hC.2.1 dX7_keep_40 (by decide) ?_
  refine lv_istore_n (lv' := [(2, .int (nI 3)), (1, .ref (a 50)), (0, .ref (a 68))]) hC.1 hC.2.1 dX7_keep_41 rfl hl (by decide) rfl (fun ls hl => ?_)
  refine lv_aload_n hC.1 hC.2.1 dX7_keep_42 rfl (lv_at hl 2 rfl) ?_
  refine gf_X7_24 hC hw dX7_keep_43 ?_
  refine lv_iconst (v := nI 0) hC.1 hC.2.1 dX7_keep_46 (by decide) ?_
  refine lv_aload_n hC.1 hC.2.1 dX7_keep_47 rfl (lv_at hl 1 rfl) ?_
  refine lv_iload_n hC.1 hC.2.1 dX7_keep_48 rfl (lv_at hl 0 rfl) ?_
  refine lv_iconst (v := nI 3) hC.1 hC.2.1 dX7_keep_49 (by decide) ?_
  refine q_cpy (sp := 0) (dp := 3) (n := 3) 25 rfl 60 rfl (XW_s50 _) hC hw hl (by omega) (by omega) (by decide) (by decide) ⟨Nat.le_of_ble_eq_true rfl, Nat.le_of_ble_eq_true rfl⟩ wk2_182 dX7_keep_50 (fun H locs hw => ?_)
  have hw : Wst E (XW E a) (sr (sr σ 50 (upd (upd (upd (σ 50) 0 (σ 0 0)) 1 (σ 0 1)) 2 (σ 0 2))) 50 (va_cpy (σ 15) (upd (upd (upd (σ 50) 0 (σ 0 0)) 1 (σ 0 1)) 2 (σ 0 2)) 0 3 3)) A s.heap H locs := hw
  have hst_ : sr (sr σ 50 (upd (upd (upd (σ 50) 0 (σ 0 0)) 1 (σ 0 1)) 2 (σ 0 2))) 50 (va_cpy (σ 15) (upd (upd (upd (σ 50) 0 (σ 0 0)) 1 (σ 0 1)) 2 (σ 0 2)) 0 3 3) = sr σ 50 (va_cpy (σ 15) (upd (upd (upd (σ 50) 0 (σ 0 0)) 1 (σ 0 1)) 2 (σ 0 2)) 0 3 3) := by
    funext j_ x_
    by_cases e0 : j_ = 0
    · subst e0
      rfl
    · by_cases e50 : j_ = 50
      · subst e50; rfl
      · simp only [sr, e0, e50, if_false]
  rw [hst_] at hw
  refine lv_iinc (v := nI (3 + 3)) (lv' := [(2, .int (nI (3 + 3))), (1, .ref (a 50)), (0, .ref (a 68))]) hC.1 hC.2.1 dX7_keep_53 hl (k := 0) rfl (nI_add _ _) (by decide) rfl (fun ls hl => ?_)
  refine lv_iconst (v := nI 0) hC.1 hC.2.1 dX7_keep_56 (by decide) ?_
  refine lv_istore_n (lv' := [(3, .int (nI 0)), (2, .int (nI (3 + 3))), (1, .ref (a 50)), (0, .ref (a 68))]) hC.1 hC.2.1 dX7_keep_57 rfl hl (by decide) rfl (fun ls hl => ?_)
  have L58_0 : ∀ (n : Nat), ∀ (h : Nat), (h ≤ 10) → (10 - h) < n → ∀ (H : Heap) (locs : List Loc) (ls : Array Slot), Wst E (XW E a) (sr σ 50 (upc (σ 4) h (va_cpy (σ 15) (upd (upd (upd (σ 50) 0 (σ 0 0)) 1 (σ 0 1)) 2 (σ 0 2)) 0 3 3))) A s.heap H locs → lv_has ls 4 [(0, .ref (a 68)), (1, .ref (a 50)), (2, .int (nI (3 + 3))), (3, .int (nI h))] → W p l e ({ frames := 1, cells := 0, slots := 0, locals := 24 }) s m args below meth c H locs 0 0 Q (F0 m 58 ls []) := by
    intro n
    induction n with
    | zero => intro h hh hn; exact absurd hn (Nat.not_lt_zero _)
    | succ n ih58 =>
      intro h hh hn58 H locs ls hw hl
      refine lv_iload_n hC.1 hC.2.1 dX7_keep_58 rfl (lv_at hl 3 rfl) ?_
      refine lv_bipush (v := nI 10) hC.1 hC.2.1 dX7_keep_59 (by decide) ?_
      refine q_cmpge hC 92 (cNle (by omega) (by omega)) dX7_keep_61 (by decide) (fun (c2 : 10 ≤ h) => ?_) (fun (c2 : h < 10) => ?_)
      · have hh9 : h = 10 := by omega
        rw [hh9] at hw
        refine lv_iinc (v := nI (3 + 3 + 10)) (lv' := [(2, .int (nI (3 + 3 + 10))), (0, .ref (a 68)), (1, .ref (a 50)), (3, .int (nI h))]) hC.1 hC.2.1 dX7_keep_92 hl (k := 2) rfl (nI_add _ _) (by decide) rfl (fun ls hl => ?_)
        refine lv_aload_n hC.1 hC.2.1 dX7_keep_95 rfl (lv_at hl 1 rfl) ?_
        refine gf_X7_20 hC hw dX7_keep_96 ?_
        refine gf_X7_53 hC hw dX7_keep_99 ?_
        refine lv_iconst (v := nI 0) hC.1 hC.2.1 dX7_keep_102 (by decide) ?_
        refine lv_aload_n hC.1 hC.2.1 dX7_keep_103 rfl (lv_at hl 2 rfl) ?_
        refine lv_iload_n hC.1 hC.2.1 dX7_keep_104 rfl (lv_at hl 0 rfl) ?_
        refine lv_bipush (v := nI 24) hC.1 hC.2.1 dX7_keep_105 (by decide) ?_
        refine q_cpy (sp := 0) (dp := (3 + 3 + 10)) (n := 24) 21 rfl 60 rfl (XW_s50 _) hC hw hl (by omega) (by omega) (by decide) (by decide) ⟨Nat.le_of_ble_eq_true rfl, Nat.le_of_ble_eq_true rfl⟩ wk2_182 dX7_keep_107 (fun H locs hw => ?_)
        have hw : Wst E (XW E a) (sr (sr σ 50 (upc (σ 4) 10 (va_cpy (σ 15) (upd (upd (upd (σ 50) 0 (σ 0 0)) 1 (σ 0 1)) 2 (σ 0 2)) 0 3 3))) 50 (va_cpy (σ 11) (upc (σ 4) 10 (va_cpy (σ 15) (upd (upd (upd (σ 50) 0 (σ 0 0)) 1 (σ 0 1)) 2 (σ 0 2)) 0 3 3)) 0 (3 + 3 + 10) 24)) A s.heap H locs := hw
        have hst_ : sr (sr σ 50 (upc (σ 4) 10 (va_cpy (σ 15) (upd (upd (upd (σ 50) 0 (σ 0 0)) 1 (σ 0 1)) 2 (σ 0 2)) 0 3 3))) 50 (va_cpy (σ 11) (upc (σ 4) 10 (va_cpy (σ 15) (upd (upd (upd (σ 50) 0 (σ 0 0)) 1 (σ 0 1)) 2 (σ 0 2)) 0 3 3)) 0 (3 + 3 + 10) 24) = sr σ 50 (va_cpy (σ 11) (upc (σ 4) 10 (va_cpy (σ 15) (upd (upd (upd (σ 50) 0 (σ 0 0)) 1 (σ 0 1)) 2 (σ 0 2)) 0 3 3)) 0 (3 + 3 + 10) 24) := by
          funext j_ x_
          by_cases e0 : j_ = 0
          · subst e0
            rfl
          · by_cases e50 : j_ = 50
            · subst e50; rfl
            · simp only [sr, e0, e50, if_false]
        rw [hst_] at hw
        refine lv_aload_n hC.1 hC.2.1 dX7_keep_110 rfl (lv_at hl 1 rfl) ?_
        refine gf_X7_20 hC hw dX7_keep_111 ?_
        refine gf_X7_56 hC hw dX7_keep_114 ?_
        refine lv_iconst (v := nI 0) hC.1 hC.2.1 dX7_keep_117 (by decide) ?_
        refine lv_aload_n hC.1 hC.2.1 dX7_keep_118 rfl (lv_at hl 2 rfl) ?_
        refine lv_iload_n hC.1 hC.2.1 dX7_keep_119 rfl (lv_at hl 0 rfl) ?_
        refine lv_bipush (v := nI 24) hC.1 hC.2.1 dX7_keep_120 (by decide) ?_
        refine q_addN hC dX7_keep_122 ?_
        refine lv_bipush (v := nI 24) hC.1 hC.2.1 dX7_keep_123 (by decide) ?_
        refine q_cpy (sp := 0) (dp := ((3 + 3 + 10) + 24)) (n := 24) 22 rfl 60 rfl (XW_s50 _) hC hw hl (by omega) (by omega) (by decide) (by decide) ⟨Nat.le_of_ble_eq_true rfl, Nat.le_of_ble_eq_true rfl⟩ wk2_182 dX7_keep_125 (fun H locs hw => ?_)
        have hw : Wst E (XW E a) (sr (sr σ 50 (va_cpy (σ 11) (upc (σ 4) 10 (va_cpy (σ 15) (upd (upd (upd (σ 50) 0 (σ 0 0)) 1 (σ 0 1)) 2 (σ 0 2)) 0 3 3)) 0 (3 + 3 + 10) 24)) 50 (va_cpy (σ 12) (va_cpy (σ 11) (upc (σ 4) 10 (va_cpy (σ 15) (upd (upd (upd (σ 50) 0 (σ 0 0)) 1 (σ 0 1)) 2 (σ 0 2)) 0 3 3)) 0 (3 + 3 + 10) 24) 0 ((3 + 3 + 10) + 24) 24)) A s.heap H locs := hw
        have hst_ : sr (sr σ 50 (va_cpy (σ 11) (upc (σ 4) 10 (va_cpy (σ 15) (upd (upd (upd (σ 50) 0 (σ 0 0)) 1 (σ 0 1)) 2 (σ 0 2)) 0 3 3)) 0 (3 + 3 + 10) 24)) 50 (va_cpy (σ 12) (va_cpy (σ 11) (upc (σ 4) 10 (va_cpy (σ 15) (upd (upd (upd (σ 50) 0 (σ 0 0)) 1 (σ 0 1)) 2 (σ 0 2)) 0 3 3)) 0 (3 + 3 + 10) 24) 0 ((3 + 3 + 10) + 24) 24) = sr σ 50 (va_cpy (σ 12) (va_cpy (σ 11) (upc (σ 4) 10 (va_cpy (σ 15) (upd (upd (upd (σ 50) 0 (σ 0 0)) 1 (σ 0 1)) 2 (σ 0 2)) 0 3 3)) 0 (3 + 3 + 10) 24) 0 ((3 + 3 + 10) + 24) 24) := by
          funext j_ x_
          by_cases e0 : j_ = 0
          · subst e0
            rfl
          · by_cases e50 : j_ = 50
            · subst e50; rfl
            · simp only [sr, e0, e50, if_false]
        rw [hst_] at hw
        refine lv_aload_n hC.1 hC.2.1 dX7_keep_128 rfl (lv_at hl 1 rfl) ?_
        refine gf_X7_20 hC hw dX7_keep_129 ?_
        refine gf_X7_59 hC hw dX7_keep_132 ?_
        refine lv_iconst (v := nI 0) hC.1 hC.2.1 dX7_keep_135 (by decide) ?_
        refine lv_aload_n hC.1 hC.2.1 dX7_keep_136 rfl (lv_at hl 2 rfl) ?_
        refine lv_iload_n hC.1 hC.2.1 dX7_keep_137 rfl (lv_at hl 0 rfl) ?_
        refine lv_bipush (v := nI 48) hC.1 hC.2.1 dX7_keep_138 (by decide) ?_
        refine q_addN hC dX7_keep_140 ?_
        refine lv_bipush (v := nI 24) hC.1 hC.2.1 dX7_keep_141 (by decide) ?_
        refine q_cpy (sp := 0) (dp := ((3 + 3 + 10) + 48)) (n := 24) 23 rfl 60 rfl (XW_s50 _) hC hw hl (by omega) (by omega) (by decide) (by decide) ⟨Nat.le_of_ble_eq_true rfl, Nat.le_of_ble_eq_true rfl⟩ wk2_182 dX7_keep_143 (fun H locs hw => ?_)
        have hw : Wst E (XW E a) (sr (sr σ 50 (va_cpy (σ 12) (va_cpy (σ 11) (upc (σ 4) 10 (va_cpy (σ 15) (upd (upd (upd (σ 50) 0 (σ 0 0)) 1 (σ 0 1)) 2 (σ 0 2)) 0 3 3)) 0 (3 + 3 + 10) 24) 0 ((3 + 3 + 10) + 24) 24)) 50 (va_cpy (σ 13) (va_cpy (σ 12) (va_cpy (σ 11) (upc (σ 4) 10 (va_cpy (σ 15) (upd (upd (upd (σ 50) 0 (σ 0 0)) 1 (σ 0 1)) 2 (σ 0 2)) 0 3 3)) 0 (3 + 3 + 10) 24) 0 ((3 + 3 + 10) + 24) 24) 0 ((3 + 3 + 10) + 48) 24)) A s.heap H locs := hw
        have hst_ : sr (sr σ 50 (va_cpy (σ 12) (va_cpy (σ 11) (upc (σ 4) 10 (va_cpy (σ 15) (upd (upd (upd (σ 50) 0 (σ 0 0)) 1 (σ 0 1)) 2 (σ 0 2)) 0 3 3)) 0 (3 + 3 + 10) 24) 0 ((3 + 3 + 10) + 24) 24)) 50 (va_cpy (σ 13) (va_cpy (σ 12) (va_cpy (σ 11) (upc (σ 4) 10 (va_cpy (σ 15) (upd (upd (upd (σ 50) 0 (σ 0 0)) 1 (σ 0 1)) 2 (σ 0 2)) 0 3 3)) 0 (3 + 3 + 10) 24) 0 ((3 + 3 + 10) + 24) 24) 0 ((3 + 3 + 10) + 48) 24) = sr σ 50 (va_cpy (σ 13) (va_cpy (σ 12) (va_cpy (σ 11) (upc (σ 4) 10 (va_cpy (σ 15) (upd (upd (upd (σ 50) 0 (σ 0 0)) 1 (σ 0 1)) 2 (σ 0 2)) 0 3 3)) 0 (3 + 3 + 10) 24) 0 ((3 + 3 + 10) + 24) 24) 0 ((3 + 3 + 10) + 48) 24) := by
          funext j_ x_
          by_cases e0 : j_ = 0
          · subst e0
            rfl
          · by_cases e50 : j_ = 50
            · subst e50; rfl
            · simp only [sr, e0, e50, if_false]
        rw [hst_] at hw
        refine lv_aload_n hC.1 hC.2.1 dX7_keep_146 rfl (lv_at hl 1 rfl) ?_
        refine gf_X7_20 hC hw dX7_keep_147 ?_
        refine gf_X7_62 hC hw dX7_keep_150 ?_
        refine lv_iconst (v := nI 0) hC.1 hC.2.1 dX7_keep_153 (by decide) ?_
        refine lv_aload_n hC.1 hC.2.1 dX7_keep_154 rfl (lv_at hl 2 rfl) ?_
        refine lv_iload_n hC.1 hC.2.1 dX7_keep_155 rfl (lv_at hl 0 rfl) ?_
        refine lv_bipush (v := nI 72) hC.1 hC.2.1 dX7_keep_156 (by decide) ?_
        refine q_addN hC dX7_keep_158 ?_
        refine lv_bipush (v := nI 24) hC.1 hC.2.1 dX7_keep_159 (by decide) ?_
        refine q_cpy (sp := 0) (dp := ((3 + 3 + 10) + 72)) (n := 24) 24 rfl 60 rfl (XW_s50 _) hC hw hl (by omega) (by omega) (by decide) (by decide) ⟨Nat.le_of_ble_eq_true rfl, Nat.le_of_ble_eq_true rfl⟩ wk2_182 dX7_keep_161 (fun H locs hw => ?_)
        have hw : Wst E (XW E a) (sr (sr σ 50 (va_cpy (σ 13) (va_cpy (σ 12) (va_cpy (σ 11) (upc (σ 4) 10 (va_cpy (σ 15) (upd (upd (upd (σ 50) 0 (σ 0 0)) 1 (σ 0 1)) 2 (σ 0 2)) 0 3 3)) 0 (3 + 3 + 10) 24) 0 ((3 + 3 + 10) + 24) 24) 0 ((3 + 3 + 10) + 48) 24)) 50 (va_cpy (σ 14) (va_cpy (σ 13) (va_cpy (σ 12) (va_cpy (σ 11) (upc (σ 4) 10 (va_cpy (σ 15) (upd (upd (upd (σ 50) 0 (σ 0 0)) 1 (σ 0 1)) 2 (σ 0 2)) 0 3 3)) 0 (3 + 3 + 10) 24) 0 ((3 + 3 + 10) + 24) 24) 0 ((3 + 3 + 10) + 48) 24) 0 ((3 + 3 + 10) + 72) 24)) A s.heap H locs := hw
        have hst_ : sr (sr σ 50 (va_cpy (σ 13) (va_cpy (σ 12) (va_cpy (σ 11) (upc (σ 4) 10 (va_cpy (σ 15) (upd (upd (upd (σ 50) 0 (σ 0 0)) 1 (σ 0 1)) 2 (σ 0 2)) 0 3 3)) 0 (3 + 3 + 10) 24) 0 ((3 + 3 + 10) + 24) 24) 0 ((3 + 3 + 10) + 48) 24)) 50 (va_cpy (σ 14) (va_cpy (σ 13) (va_cpy (σ 12) (va_cpy (σ 11) (upc (σ 4) 10 (va_cpy (σ 15) (upd (upd (upd (σ 50) 0 (σ 0 0)) 1 (σ 0 1)) 2 (σ 0 2)) 0 3 3)) 0 (3 + 3 + 10) 24) 0 ((3 + 3 + 10) + 24) 24) 0 ((3 + 3 + 10) + 48) 24) 0 ((3 + 3 + 10) + 72) 24) = sr σ 50 (va_cpy (σ 14) (va_cpy (σ 13) (va_cpy (σ 12) (va_cpy (σ 11) (upc (σ 4) 10 (va_cpy (σ 15) (upd (upd (upd (σ 50) 0 (σ 0 0)) 1 (σ 0 1)) 2 (σ 0 2)) 0 3 3)) 0 (3 + 3 + 10) 24) 0 ((3 + 3 + 10) + 24) 24) 0 ((3 + 3 + 10) + 48) 24) 0 ((3 + 3 + 10) + 72) 24) := by
          funext j_ x_
          by_cases e0 : j_ = 0
          · subst e0
            rfl
          · by_cases e50 : j_ = 50
            · subst e50; rfl
            · simp only [sr, e0, e50, if_false]
        rw [hst_] at hw
        refine lv_aload_n hC.1 hC.2.1 dX7_keep_164 rfl (lv_at hl 1 rfl) ?_
        refine lv_aload_n hC.1 hC.2.1 dX7_keep_165 rfl (lv_at hl 1 rfl) ?_
        refine gf_X7_28 (v := nI 20) hC hw hnx dX7_keep_166 ?_
        refine lv_bipush (v := nI 29) hC.1 hC.2.1 dX7_keep_169 (by decide) ?_
        have J184_4 : ∀ (w3 : Nat), w3 = (if 20 ≠ 29 then (20 + 1) else 0) → ∀ (H : Heap) (locs : List Loc) (ls : Array Slot), Wst E (XW E a) (sr σ 50 (va_cpy (σ 14) (va_cpy (σ 13) (va_cpy (σ 12) (va_cpy (σ 11) (upc (σ 4) 10 (va_cpy (σ 15) (upd (upd (upd (σ 50) 0 (σ 0 0)) 1 (σ 0 1)) 2 (σ 0 2)) 0 3 3)) 0 (3 + 3 + 10) 24) 0 ((3 + 3 + 10) + 24) 24) 0 ((3 + 3 + 10) + 48) 24) 0 ((3 + 3 + 10) + 72) 24)) A s.heap H locs → lv_has ls 4 [(0, .ref (a 68)), (1, .ref (a 50)), (2, .int (nI (3 + 3 + 10))), (3, .int (nI h))] → W p l e ({ frames := 1, cells := 0, slots := 0, locals := 24 }) s m args below meth c H locs 0 0 Q (F0 m 184 ls [.int (nI w3), .ref (a 68)]) := by
          intro w3 e4 H locs ls hw hl
          subst e4
          refine pf_X7_28 hC hw dX7_keep_184 (fun H locs hw => ?_)
          have hw : Wst E (XW E a) (sr (sr σ 50 (va_cpy (σ 14) (va_cpy (σ 13) (va_cpy (σ 12) (va_cpy (σ 11) (upc (σ 4) 10 (va_cpy (σ 15) (upd (upd (upd (σ 50) 0 (σ 0 0)) 1 (σ 0 1)) 2 (σ 0 2)) 0 3 3)) 0 (3 + 3 + 10) 24) 0 ((3 + 3 + 10) + 24) 24) 0 ((3 + 3 + 10) + 48) 24) 0 ((3 + 3 + 10) + 72) 24)) 0 (upd (σ 0) 3 (nI (if 20 ≠ 29 then (20 + 1) else 0)))) A s.heap H locs := hw
          refine lv_aload_n hC.1 hC.2.1 dX7_keep_187 rfl (lv_at hl 0 rfl) ?_
          refine lv_aload_n hC.1 hC.2.1 dX7_keep_188 rfl (lv_at hl 0 rfl) ?_
          refine gf_X7_65 (v := nI kp) hC hw hkp dX7_keep_189 ?_
          refine lv_bipush (v := nI 30) hC.1 hC.2.1 dX7_keep_192 (by decide) ?_
          have J210_6 : ∀ (w5 : Nat), w5 = (if kp ≠ 30 then (kp + 1) else kp) → ∀ (H : Heap) (locs : List Loc) (ls : Array Slot), Wst E (XW E a) (sr (sr σ 50 (va_cpy (σ 14) (va_cpy (σ 13) (va_cpy (σ 12) (va_cpy (σ 11) (upc (σ 4) 10 (va_cpy (σ 15) (upd (upd (upd (σ 50) 0 (σ 0 0)) 1 (σ 0 1)) 2 (σ 0 2)) 0 3 3)) 0 (3 + 3 + 10) 24) 0 ((3 + 3 + 10) + 24) 24) 0 ((3 + 3 + 10) + 48) 24) 0 ((3 + 3 + 10) + 72) 24)) 0 (upd (σ 0) 3 (nI (if 20 ≠ 29 then (20 + 1) else 0)))) A s.heap H locs → lv_has ls 4 [(0, .ref (a 68)), (1, .ref (a 50)), (2, .int (nI (3 + 3 + 10))), (3, .int (nI h))] → W p l e ({ frames := 1, cells := 0, slots := 0, locals := 24 }) s m args below meth c H locs 0 0 Q (F0 m 210 ls [.int (nI w5), .ref (a 68)]) := by
            intro w5 e6 H locs ls hw hl
            subst e6
            refine pf_X7_65 hC hw dX7_keep_210 (fun H locs hw => ?_)
            have hw : Wst E (XW E a) (sr (sr (sr σ 50 (va_cpy (σ 14) (va_cpy (σ 13) (va_cpy (σ 12) (va_cpy (σ 11) (upc (σ 4) 10 (va_cpy (σ 15) (upd (upd (upd (σ 50) 0 (σ 0 0)) 1 (σ 0 1)) 2 (σ 0 2)) 0 3 3)) 0 (3 + 3 + 10) 24) 0 ((3 + 3 + 10) + 24) 24) 0 ((3 + 3 + 10) + 48) 24) 0 ((3 + 3 + 10) + 72) 24)) 0 (upd (σ 0) 3 (nI (if 20 ≠ 29 then (20 + 1) else 0)))) 0 (upd (upd (σ 0) 3 (nI (if 20 ≠ 29 then (20 + 1) else 0))) 4 (nI (if kp ≠ 30 then (kp + 1) else kp)))) A s.heap H locs := hw
            have hst_ : sr (sr (sr σ 50 (va_cpy (σ 14) (va_cpy (σ 13) (va_cpy (σ 12) (va_cpy (σ 11) (upc (σ 4) 10 (va_cpy (σ 15) (upd (upd (upd (σ 50) 0 (σ 0 0)) 1 (σ 0 1)) 2 (σ 0 2)) 0 3 3)) 0 (3 + 3 + 10) 24) 0 ((3 + 3 + 10) + 24) 24) 0 ((3 + 3 + 10) + 48) 24) 0 ((3 + 3 + 10) + 72) 24)) 0 (upd (σ 0) 3 (nI (if 20 ≠ 29 then (20 + 1) else 0)))) 0 (upd (upd (σ 0) 3 (nI (if 20 ≠ 29 then (20 + 1) else 0))) 4 (nI (if kp ≠ 30 then (kp + 1) else kp))) = sr (sr σ 50 (va_cpy (σ 14) (va_cpy (σ 13) (va_cpy (σ 12) (va_cpy (σ 11) (upc (σ 4) 10 (va_cpy (σ 15) (upd (upd (upd (σ 50) 0 (σ 0 0)) 1 (σ 0 1)) 2 (σ 0 2)) 0 3 3)) 0 (3 + 3 + 10) 24) 0 ((3 + 3 + 10) + 24) 24) 0 ((3 + 3 + 10) + 48) 24) 0 ((3 + 3 + 10) + 72) 24)) 0 (upd (upd (σ 0) 3 (nI (if 20 ≠ 29 then (20 + 1) else 0))) 4 (nI (if kp ≠ 30 then (kp + 1) else kp))) := by
              funext j_ x_
              by_cases e0 : j_ = 0
              · subst e0
                by_cases y3 : x_ = 3
                · subst y3; rfl
                · by_cases y4 : x_ = 4
                  · subst y4; rfl
                  · simp [sr, upd, y3, y4]
              · by_cases e50 : j_ = 50
                · subst e50; rfl
                · simp only [sr, e0, e50, if_false]
            rw [hst_] at hw
            refine hret _ _ _ _ _ hw ?_ dX7_keep_213
            exact rfl
          refine q_cmpne hC 204 (cNeq (by omega) (by omega)) dX7_keep_194 (by decide) (fun (c7 : kp ≠ 30) => ?_) (fun (c7 : kp = 30) => ?_)
          · refine lv_aload_n hC.1 hC.2.1 dX7_keep_204 rfl (lv_at hl 0 rfl) ?_
            refine gf_X7_65 (v := nI kp) hC hw hkp dX7_keep_205 ?_
            refine lv_iconst (v := nI 1) hC.1 hC.2.1 dX7_keep_208 (by decide) ?_
            refine q_addN hC dX7_keep_209 ?_
            exact J210_6 _ (by (rw [if_pos c7]) <;> rfl) _ _ _ hw (lv_sub hl [0, 1, 2, 3] rfl)
          · refine lv_aload_n hC.1 hC.2.1 dX7_keep_197 rfl (lv_at hl 0 rfl) ?_
            refine gf_X7_65 (v := nI kp) hC hw hkp dX7_keep_198 ?_
            refine lv_goto (tgt := 210) hC.1 hC.2.1 dX7_keep_201 (by decide) ?_
            exact J210_6 _ (by (rw [if_neg (fun q => q c7)]) <;> rfl) _ _ _ hw (lv_sub hl [0, 1, 2, 3] rfl)
        refine q_cmpne hC 178 (cNeq (by omega) (by omega)) dX7_keep_171 (by decide) (fun (c8 : 20 ≠ 29) => ?_) (fun (c8 : 20 = 29) => ?_)
        · refine lv_aload_n hC.1 hC.2.1 dX7_keep_178 rfl (lv_at hl 1 rfl) ?_
          refine gf_X7_28 (v := nI 20) hC hw hnx dX7_keep_179 ?_
          refine lv_iconst (v := nI 1) hC.1 hC.2.1 dX7_keep_182 (by decide) ?_
          refine q_addN hC dX7_keep_183 ?_
          exact J184_4 _ (by (rw [if_pos c8]) <;> rfl) _ _ _ hw (lv_sub hl [1, 2, 0, 3] rfl)
        · refine lv_iconst (v := nI 0) hC.1 hC.2.1 dX7_keep_174 (by decide) ?_
          refine lv_goto (tgt := 184) hC.1 hC.2.1 dX7_keep_175 (by decide) ?_
          exact J184_4 _ (by (rw [if_neg (fun q => q c8)]) <;> rfl) _ _ _ hw (lv_sub hl [1, 2, 0, 3] rfl)
      · refine lv_aload_n hC.1 hC.2.1 dX7_keep_64 rfl (lv_at hl 1 rfl) ?_
        refine lv_iload_n hC.1 hC.2.1 dX7_keep_65 rfl (lv_at hl 2 rfl) ?_
        refine lv_iload_n hC.1 hC.2.1 dX7_keep_66 rfl (lv_at hl 3 rfl) ?_
        refine q_addN hC dX7_keep_67 ?_
        refine lv_aload_n hC.1 hC.2.1 dX7_keep_68 rfl (lv_at hl 0 rfl) ?_
        refine gf_X7_16 hC hw dX7_keep_69 ?_
        refine gf_X7_49 hC hw dX7_keep_72 ?_
        refine lv_iload_n hC.1 hC.2.1 dX7_keep_75 rfl (lv_at hl 3 rfl) ?_
        refine al_X4 (v := σ 4 h) hC hw (by omega) rfl dX7_keep_76 ?_
        have J85_10 : ∀ (w9 : Int32), w9 = (if ¬ (σ 4 h = 0) then (1 : Int32) else 0) → ∀ (H : Heap) (locs : List Loc) (ls : Array Slot), Wst E (XW E a) (sr σ 50 (upc (σ 4) h (va_cpy (σ 15) (upd (upd (upd (σ 50) 0 (σ 0 0)) 1 (σ 0 1)) 2 (σ 0 2)) 0 3 3))) A s.heap H locs → lv_has ls 4 [(0, .ref (a 68)), (1, .ref (a 50)), (2, .int (nI (3 + 3))), (3, .int (nI h))] → W p l e ({ frames := 1, cells := 0, slots := 0, locals := 24 }) s m args below meth c H locs 0 0 Q (F0 m 85 ls [.int (w9), .int (nI ((3 + 3) + h)), .ref (a 50)]) := by
          intro w9 e10 H locs ls hw hl
          subst e10
          refine q_ast (Wf := XW E a) 60 rfl (by decide) (XW_s50 _) hC hw (by omega) dX7_keep_85 (fun H locs hw => ?_)
          have hw : Wst E (XW E a) (sr (sr σ 50 (upc (σ 4) h (va_cpy (σ 15) (upd (upd (upd (σ 50) 0 (σ 0 0)) 1 (σ 0 1)) 2 (σ 0 2)) 0 3 3))) 50 (upd (upc (σ 4) h (va_cpy (σ 15) (upd (upd (upd (σ 50) 0 (σ 0 0)) 1 (σ 0 1)) 2 (σ 0 2)) 0 3 3)) ((3 + 3) + h) (if ¬ (σ 4 h = 0) then (1 : Int32) else 0))) A s.heap H locs := hw
          have hst_ : sr (sr σ 50 (upc (σ 4) h (va_cpy (σ 15) (upd (upd (upd (σ 50) 0 (σ 0 0)) 1 (σ 0 1)) 2 (σ 0 2)) 0 3 3))) 50 (upd (upc (σ 4) h (va_cpy (σ 15) (upd (upd (upd (σ 50) 0 (σ 0 0)) 1 (σ 0 1)) 2 (σ 0 2)) 0 3 3)) ((3 + 3) + h) (if ¬ (σ 4 h = 0) then (1 : Int32) else 0)) = sr σ 50 (upd (upc (σ 4) h (va_cpy (σ 15) (upd (upd (upd (σ 50) 0 (σ 0 0)) 1 (σ 0 1)) 2 (σ 0 2)) 0 3 3)) ((3 + 3) + h) (if ¬ (σ 4 h = 0) then (1 : Int32) else 0)) := by
            funext j_ x_
            by_cases e0 : j_ = 0
            · subst e0
              rfl
            · by_cases e50 : j_ = 50
              · subst e50; rfl
              · simp only [sr, e0, e50, if_false]
          rw [hst_] at hw
          refine lv_iinc (v := nI (h + 1)) (lv' := [(3, .int (nI (h + 1))), (0, .ref (a 68)), (1, .ref (a 50)), (2, .int (nI (3 + 3)))]) hC.1 hC.2.1 dX7_keep_86 hl (k := 3) rfl (nI_add _ _) (by decide) rfl (fun ls hl => ?_)
          refine lv_goto (tgt := 58) hC.1 hC.2.1 dX7_keep_89 (by decide) ?_
          rw [upc_s] at hw
          exact ih58 (h + 1) (by omega) (by omega) _ _ _ hw (lv_sub hl [1, 2, 3, 0] rfl)
        refine q_ifeq hC 84 cI dX7_keep_77 (by decide) (fun (c11 : σ 4 h = 0) => ?_) (fun (c11 : ¬ (σ 4 h = 0)) => ?_)
        · refine lv_iconst (v := nI 0) hC.1 hC.2.1 dX7_keep_84 (by decide) ?_
          exact J85_10 _ (if_neg (fun q => q c11)).symm _ _ _ hw (lv_sub hl [0, 1, 2, 3] rfl)
        · refine lv_iconst (v := nI 1) hC.1 hC.2.1 dX7_keep_80 (by decide) ?_
          refine lv_goto (tgt := 85) hC.1 hC.2.1 dX7_keep_81 (by decide) ?_
          exact J85_10 _ (if_pos c11).symm _ _ _ hw (lv_sub hl [0, 1, 2, 3] rfl)
  rw [← upc_0 (σ 4) (va_cpy (σ 15) (upd (upd (upd (σ 50) 0 (σ 0 0)) 1 (σ 0 1)) 2 (σ 0 2)) 0 3 3)] at hw
  exact L58_0 _ 0 (by omega) (Nat.lt_succ_self _) _ _ _ hw (lv_sub hl [3, 2, 1, 0] rfl)
set_option maxHeartbeats 4000000 in
set_option maxRecDepth 100000 in
theorem tX7_keep_k21 (l : Launch) (E : EV) (a : Nat → Nat) (σ : St) (kp : Nat) (hnx : σ 0 3 = nI 21) (hkp : σ 0 4 = nI kp) (hk30 : kp ≤ 30) : MV l E (XW E a) yX7_keep (Cond.code yX7_keep cX7_keep 4 none) ({ frames := 1, cells := 0, slots := 0, locals := 24 }) [.ref (a 68)] σ (fun u_ => u_ = sr (sr σ 51 (kpr σ (σ 51))) 0 (upd (upd (σ 0) 3 (nI (if 21 ≠ 29 then 21 + 1 else 0))) 4 (nI (if kp ≠ 30 then kp + 1 else kp)))) := by
  refine MV.mk (by decide +kernel) (Nat.le_of_ble_eq_true rfl) ?_
  intro p e s m args below meth c ls A Q hret hC hw hl
  have hC : Cxt E p s m args meth c cX7_keep 4 none RX7 A := hC
  have hl : lv_has ls 4 [(0, .ref (a 68))] := hl
  refine lv_aload_n hC.1 hC.2.1 dX7_keep_0 rfl (lv_at hl 0 rfl) ?_
  refine gf_X7_13 hC hw dX7_keep_1 ?_
  refine lv_aload_n hC.1 hC.2.1 dX7_keep_4 rfl (lv_at hl 0 rfl) ?_
  refine gf_X7_28 (v := nI 21) hC hw hnx dX7_keep_5 ?_
  refine q_aald hC hw (i := 21) (by decide) dX7_keep_8 ?_
  refine lv_astore_n (lv' := [(1, .ref (a 51)), (0, .ref (a 68))]) hC.1 hC.2.1 dX7_keep_9 rfl hl (by decide) rfl (fun ls hl => ?_)
  refine lv_aload_n hC.1 hC.2.1 dX7_keep_10 rfl (lv_at hl 0 rfl) ?_
  refine lv_iconst (v := nI 0) hC.1 hC.2.1 dX7_keep_11 (by decide) ?_
  refine lv_aload_n hC.1 hC.2.1 dX7_keep_12 rfl (lv_at hl 1 rfl) ?_
  refine gf_X7_16 hC hw dX7_keep_13 ?_
  refine gf_X7_32 (v := σ 0 0) hC hw rfl dX7_keep_16 ?_
  refine q_ast (Wf := XW E a) 61 rfl (by decide) (XW_s51 _) hC hw (by omega) dX7_keep_19 (fun H locs hw => ?_)
  have hw : Wst E (XW E a) (sr σ 51 (upd (σ 51) 0 (σ 0 0))) A s.heap H locs := hw
  refine lv_aload_n hC.1 hC.2.1 dX7_keep_20 rfl (lv_at hl 0 rfl) ?_
  refine lv_iconst (v := nI 1) hC.1 hC.2.1 dX7_keep_21 (by decide) ?_
  refine lv_aload_n hC.1 hC.2.1 dX7_keep_22 rfl (lv_at hl 1 rfl) ?_
  refine gf_X7_20 hC hw dX7_keep_23 ?_
  refine gf_X7_37 (v := σ 0 1) hC hw rfl dX7_keep_26 ?_
  refine q_ast (Wf := XW E a) 61 rfl (by decide) (XW_s51 _) hC hw (by omega) dX7_keep_29 (fun H locs hw => ?_)
  have hw : Wst E (XW E a) (sr (sr σ 51 (upd (σ 51) 0 (σ 0 0))) 51 (upd (upd (σ 51) 0 (σ 0 0)) 1 (σ 0 1))) A s.heap H locs := hw
  have hst_ : sr (sr σ 51 (upd (σ 51) 0 (σ 0 0))) 51 (upd (upd (σ 51) 0 (σ 0 0)) 1 (σ 0 1)) = sr σ 51 (upd (upd (σ 51) 0 (σ 0 0)) 1 (σ 0 1)) := by
    funext j_ x_
    by_cases e0 : j_ = 0
    · subst e0
      rfl
    · by_cases e51 : j_ = 51
      · subst e51; rfl
      · simp only [sr, e0, e51, if_false]
  rw [hst_] at hw
  refine lv_aload_n hC.1 hC.2.1 dX7_keep_30 rfl (lv_at hl 0 rfl) ?_
  refine lv_iconst (v := nI 2) hC.1 hC.2.1 dX7_keep_31 (by decide) ?_
  refine lv_aload_n hC.1 hC.2.1 dX7_keep_32 rfl (lv_at hl 1 rfl) ?_
  refine gf_X7_20 hC hw dX7_keep_33 ?_
  refine gf_X7_40 (v := σ 0 2) hC hw rfl dX7_keep_36 ?_
  refine q_ast (Wf := XW E a) 61 rfl (by decide) (XW_s51 _) hC hw (by omega) dX7_keep_39 (fun H locs hw => ?_)
  have hw : Wst E (XW E a) (sr (sr σ 51 (upd (upd (σ 51) 0 (σ 0 0)) 1 (σ 0 1))) 51 (upd (upd (upd (σ 51) 0 (σ 0 0)) 1 (σ 0 1)) 2 (σ 0 2))) A s.heap H locs := hw
  have hst_ : sr (sr σ 51 (upd (upd (σ 51) 0 (σ 0 0)) 1 (σ 0 1))) 51 (upd (upd (upd (σ 51) 0 (σ 0 0)) 1 (σ 0 1)) 2 (σ 0 2)) = sr σ 51 (upd (upd (upd (σ 51) 0 (σ 0 0)) 1 (σ 0 1)) 2 (σ 0 2)) := by
    funext j_ x_
    by_cases e0 : j_ = 0
    · subst e0
      rfl
    · by_cases e51 : j_ = 51
      · subst e51; rfl
      · simp only [sr, e0, e51, if_false]
  rw [hst_] at hw
  refine lv_iconst (v := nI 3) hC.1 hC.2.1 dX7_keep_40 (by decide) ?_
  refine lv_istore_n (lv' := [(2, .int (nI 3)), (1, .ref (a 51)), (0, .ref (a 68))]) hC.1 hC.2.1 dX7_keep_41 rfl hl (by decide) rfl (fun ls hl => ?_)
  refine lv_aload_n hC.1 hC.2.1 dX7_keep_42 rfl (lv_at hl 2 rfl) ?_
  refine gf_X7_24 hC hw dX7_keep_43 ?_
  refine lv_iconst (v := nI 0) hC.1 hC.2.1 dX7_keep_46 (by decide) ?_
  refine lv_aload_n hC.1 hC.2.1 dX7_keep_47 rfl (lv_at hl 1 rfl) ?_
  refine lv_iload_n hC.1 hC.2.1 dX7_keep_48 rfl (lv_at hl 0 rfl) ?_
  refine lv_iconst (v := nI 3) hC.1 hC.2.1 dX7_keep_49 (by decide) ?_
  refine q_cpy (sp := 0) (dp := 3) (n := 3) 25 rfl 61 rfl (XW_s51 _) hC hw hl (by omega) (by omega) (by decide) (by decide) ⟨Nat.le_of_ble_eq_true rfl, Nat.le_of_ble_eq_true rfl⟩ wk2_182 dX7_keep_50 (fun H locs hw => ?_)
  have hw : Wst E (XW E a) (sr (sr σ 51 (upd (upd (upd (σ 51) 0 (σ 0 0)) 1 (σ 0 1)) 2 (σ 0 2))) 51 (va_cpy (σ 15) (upd (upd (upd (σ 51) 0 (σ 0 0)) 1 (σ 0 1)) 2 (σ 0 2)) 0 3 3)) A s.heap H locs := hw
  have hst_ : sr (sr σ 51 (upd (upd (upd (σ 51) 0 (σ 0 0)) 1 (σ 0 1)) 2 (σ 0 2))) 51 (va_cpy (σ 15) (upd (upd (upd (σ 51) 0 (σ 0 0)) 1 (σ 0 1)) 2 (σ 0 2)) 0 3 3) = sr σ 51 (va_cpy (σ 15) (upd (upd (upd (σ 51) 0 (σ 0 0)) 1 (σ 0 1)) 2 (σ 0 2)) 0 3 3) := by
    funext j_ x_
    by_cases e0 : j_ = 0
    · subst e0
      rfl
    · by_cases e51 : j_ = 51
      · subst e51; rfl
      · simp only [sr, e0, e51, if_false]
  rw [hst_] at hw
  refine lv_iinc (v := nI (3 + 3)) (lv' := [(2, .int (nI (3 + 3))), (1, .ref (a 51)), (0, .ref (a 68))]) hC.1 hC.2.1 dX7_keep_53 hl (k := 0) rfl (nI_add _ _) (by decide) rfl (fun ls hl => ?_)
  refine lv_iconst (v := nI 0) hC.1 hC.2.1 dX7_keep_56 (by decide) ?_
  refine lv_istore_n (lv' := [(3, .int (nI 0)), (2, .int (nI (3 + 3))), (1, .ref (a 51)), (0, .ref (a 68))]) hC.1 hC.2.1 dX7_keep_57 rfl hl (by decide) rfl (fun ls hl => ?_)
  have L58_0 : ∀ (n : Nat), ∀ (h : Nat), (h ≤ 10) → (10 - h) < n → ∀ (H : Heap) (locs : List Loc) (ls : Array Slot), Wst E (XW E a) (sr σ 51 (upc (σ 4) h (va_cpy (σ 15) (upd (upd (upd (σ 51) 0 (σ 0 0)) 1 (σ 0 1)) 2 (σ 0 2)) 0 3 3))) A s.heap H locs → lv_has ls 4 [(0, .ref (a 68)), (1, .ref (a 51)), (2, .int (nI (3 + 3))), (3, .int (nI h))] → W p l e ({ frames := 1, cells := 0, slots := 0, locals := 24 }) s m args below meth c H locs 0 0 Q (F0 m 58 ls []) := by
    intro n
    induction n with
    | zero => intro h hh hn; exact absurd hn (Nat.not_lt_zero _)
    | succ n ih58 =>
      intro h hh hn58 H locs ls hw hl
      refine lv_iload_n hC.1 hC.2.1 dX7_keep_58 rfl (lv_at hl 3 rfl) ?_
      refine lv_bipush (v := nI 10) hC.1 hC.2.1 dX7_keep_59 (by decide) ?_
      refine q_cmpge hC 92 (cNle (by omega) (by omega)) dX7_keep_61 (by decide) (fun (c2 : 10 ≤ h) => ?_) (fun (c2 : h < 10) => ?_)
      · have hh9 : h = 10 := by omega
        rw [hh9] at hw
        refine lv_iinc (v := nI (3 + 3 + 10)) (lv' := [(2, .int (nI (3 + 3 + 10))), (0, .ref (a 68)), (1, .ref (a 51)), (3, .int (nI h))]) hC.1 hC.2.1 dX7_keep_92 hl (k := 2) rfl (nI_add _ _) (by decide) rfl (fun ls hl => ?_)
        refine lv_aload_n hC.1 hC.2.1 dX7_keep_95 rfl (lv_at hl 1 rfl) ?_
        refine gf_X7_20 hC hw dX7_keep_96 ?_
        refine gf_X7_53 hC hw dX7_keep_99 ?_
        refine lv_iconst (v := nI 0) hC.1 hC.2.1 dX7_keep_102 (by decide) ?_
        refine lv_aload_n hC.1 hC.2.1 dX7_keep_103 rfl (lv_at hl 2 rfl) ?_
        refine lv_iload_n hC.1 hC.2.1 dX7_keep_104 rfl (lv_at hl 0 rfl) ?_
        refine lv_bipush (v := nI 24) hC.1 hC.2.1 dX7_keep_105 (by decide) ?_
        refine q_cpy (sp := 0) (dp := (3 + 3 + 10)) (n := 24) 21 rfl 61 rfl (XW_s51 _) hC hw hl (by omega) (by omega) (by decide) (by decide) ⟨Nat.le_of_ble_eq_true rfl, Nat.le_of_ble_eq_true rfl⟩ wk2_182 dX7_keep_107 (fun H locs hw => ?_)
        have hw : Wst E (XW E a) (sr (sr σ 51 (upc (σ 4) 10 (va_cpy (σ 15) (upd (upd (upd (σ 51) 0 (σ 0 0)) 1 (σ 0 1)) 2 (σ 0 2)) 0 3 3))) 51 (va_cpy (σ 11) (upc (σ 4) 10 (va_cpy (σ 15) (upd (upd (upd (σ 51) 0 (σ 0 0)) 1 (σ 0 1)) 2 (σ 0 2)) 0 3 3)) 0 (3 + 3 + 10) 24)) A s.heap H locs := hw
        have hst_ : sr (sr σ 51 (upc (σ 4) 10 (va_cpy (σ 15) (upd (upd (upd (σ 51) 0 (σ 0 0)) 1 (σ 0 1)) 2 (σ 0 2)) 0 3 3))) 51 (va_cpy (σ 11) (upc (σ 4) 10 (va_cpy (σ 15) (upd (upd (upd (σ 51) 0 (σ 0 0)) 1 (σ 0 1)) 2 (σ 0 2)) 0 3 3)) 0 (3 + 3 + 10) 24) = sr σ 51 (va_cpy (σ 11) (upc (σ 4) 10 (va_cpy (σ 15) (upd (upd (upd (σ 51) 0 (σ 0 0)) 1 (σ 0 1)) 2 (σ 0 2)) 0 3 3)) 0 (3 + 3 + 10) 24) := by
          funext j_ x_
          by_cases e0 : j_ = 0
          · subst e0
            rfl
          · by_cases e51 : j_ = 51
            · subst e51; rfl
            · simp only [sr, e0, e51, if_false]
        rw [hst_] at hw
        refine lv_aload_n hC.1 hC.2.1 dX7_keep_110 rfl (lv_at hl 1 rfl) ?_
        refine gf_X7_20 hC hw dX7_keep_111 ?_
        refine gf_X7_56 hC hw dX7_keep_114 ?_
        refine lv_iconst (v := nI 0) hC.1 hC.2.1 dX7_keep_117 (by decide) ?_
        refine lv_aload_n hC.1 hC.2.1 dX7_keep_118 rfl (lv_at hl 2 rfl) ?_
        refine lv_iload_n hC.1 hC.2.1 dX7_keep_119 rfl (lv_at hl 0 rfl) ?_
        refine lv_bipush (v := nI 24) hC.1 hC.2.1 dX7_keep_120 (by decide) ?_
        refine q_addN hC dX7_keep_122 ?_
        refine lv_bipush (v := nI 24) hC.1 hC.2.1 dX7_keep_123 (by decide) ?_
        refine q_cpy (sp := 0) (dp := ((3 + 3 + 10) + 24)) (n := 24) 22 rfl 61 rfl (XW_s51 _) hC hw hl (by omega) (by omega) (by decide) (by decide) ⟨Nat.le_of_ble_eq_true rfl, Nat.le_of_ble_eq_true rfl⟩ wk2_182 dX7_keep_125 (fun H locs hw => ?_)
        have hw : Wst E (XW E a) (sr (sr σ 51 (va_cpy (σ 11) (upc (σ 4) 10 (va_cpy (σ 15) (upd (upd (upd (σ 51) 0 (σ 0 0)) 1 (σ 0 1)) 2 (σ 0 2)) 0 3 3)) 0 (3 + 3 + 10) 24)) 51 (va_cpy (σ 12) (va_cpy (σ 11) (upc (σ 4) 10 (va_cpy (σ 15) (upd (upd (upd (σ 51) 0 (σ 0 0)) 1 (σ 0 1)) 2 (σ 0 2)) 0 3 3)) 0 (3 + 3 + 10) 24) 0 ((3 + 3 + 10) + 24) 24)) A s.heap H locs := hw
        have hst_ : sr (sr σ 51 (va_cpy (σ 11) (upc (σ 4) 10 (va_cpy (σ 15) (upd (upd (upd (σ 51) 0 (σ 0 0)) 1 (σ 0 1)) 2 (σ 0 2)) 0 3 3)) 0 (3 + 3 + 10) 24)) 51 (va_cpy (σ 12) (va_cpy (σ 11) (upc (σ 4) 10 (va_cpy (σ 15) (upd (upd (upd (σ 51) 0 (σ 0 0)) 1 (σ 0 1)) 2 (σ 0 2)) 0 3 3)) 0 (3 + 3 + 10) 24) 0 ((3 + 3 + 10) + 24) 24) = sr σ 51 (va_cpy (σ 12) (va_cpy (σ 11) (upc (σ 4) 10 (va_cpy (σ 15) (upd (upd (upd (σ 51) 0 (σ 0 0)) 1 (σ 0 1)) 2 (σ 0 2)) 0 3 3)) 0 (3 + 3 + 10) 24) 0 ((3 + 3 + 10) + 24) 24) := by
          funext j_ x_
          by_cases e0 : j_ = 0
          · subst e0
            rfl
          · by_cases e51 : j_ = 51
            · subst e51; rfl
            · simp only [sr, e0, e51, if_false]
        rw [hst_] at hw
        refine lv_aload_n hC.1 hC.2.1 dX7_keep_128 rfl (lv_at hl 1 rfl) ?_
        refine gf_X7_20 hC hw dX7_keep_129 ?_
        refine gf_X7_59 hC hw dX7_keep_132 ?_
        refine lv_iconst (v := nI 0) hC.1 hC.2.1 dX7_keep_135 (by decide) ?_
        refine lv_aload_n hC.1 hC.2.1 dX7_keep_136 rfl (lv_at hl 2 rfl) ?_
        refine lv_iload_n hC.1 hC.2.1 dX7_keep_137 rfl (lv_at hl 0 rfl) ?_
        refine lv_bipush (v := nI 48) hC.1 hC.2.1 dX7_keep_138 (by decide) ?_
        refine q_addN hC dX7_keep_140 ?_
        refine lv_bipush (v := nI 24) hC.1 hC.2.1 dX7_keep_141 (by decide) ?_
        refine q_cpy (sp := 0) (dp := ((3 + 3 + 10) + 48)) (n := 24) 23 rfl 61 rfl (XW_s51 _) hC hw hl (by omega) (by omega) (by decide) (by decide) ⟨Nat.le_of_ble_eq_true rfl, Nat.le_of_ble_eq_true rfl⟩ wk2_182 dX7_keep_143 (fun H locs hw => ?_)
        have hw : Wst E (XW E a) (sr (sr σ 51 (va_cpy (σ 12) (va_cpy (σ 11) (upc (σ 4) 10 (va_cpy (σ 15) (upd (upd (upd (σ 51) 0 (σ 0 0)) 1 (σ 0 1)) 2 (σ 0 2)) 0 3 3)) 0 (3 + 3 + 10) 24) 0 ((3 + 3 + 10) + 24) 24)) 51 (va_cpy (σ 13) (va_cpy (σ 12) (va_cpy (σ 11) (upc (σ 4) 10 (va_cpy (σ 15) (upd (upd (upd (σ 51) 0 (σ 0 0)) 1 (σ 0 1)) 2 (σ 0 2)) 0 3 3)) 0 (3 + 3 + 10) 24) 0 ((3 + 3 + 10) + 24) 24) 0 ((3 + 3 + 10) + 48) 24)) A s.heap H locs := hw
        have hst_ : sr (sr σ 51 (va_cpy (σ 12) (va_cpy (σ 11) (upc (σ 4) 10 (va_cpy (σ 15) (upd (upd (upd (σ 51) 0 (σ 0 0)) 1 (σ 0 1)) 2 (σ 0 2)) 0 3 3)) 0 (3 + 3 + 10) 24) 0 ((3 + 3 + 10) + 24) 24)) 51 (va_cpy (σ 13) (va_cpy (σ 12) (va_cpy (σ 11) (upc (σ 4) 10 (va_cpy (σ 15) (upd (upd (upd (σ 51) 0 (σ 0 0)) 1 (σ 0 1)) 2 (σ 0 2)) 0 3 3)) 0 (3 + 3 + 10) 24) 0 ((3 + 3 + 10) + 24) 24) 0 ((3 + 3 + 10) + 48) 24) = sr σ 51 (va_cpy (σ 13) (va_cpy (σ 12) (va_cpy (σ 11) (upc (σ 4) 10 (va_cpy (σ 15) (upd (upd (upd (σ 51) 0 (σ 0 0)) 1 (σ 0 1)) 2 (σ 0 2)) 0 3 3)) 0 (3 + 3 + 10) 24) 0 ((3 + 3 + 10) + 24) 24) 0 ((3 + 3 + 10) + 48) 24) := by
          funext j_ x_
          by_cases e0 : j_ = 0
          · subst e0
            rfl
          · by_cases e51 : j_ = 51
            · subst e51; rfl
            · simp only [sr, e0, e51, if_false]
        rw [hst_] at hw
        refine lv_aload_n hC.1 hC.2.1 dX7_keep_146 rfl (lv_at hl 1 rfl) ?_
        refine gf_X7_20 hC hw dX7_keep_147 ?_
        refine gf_X7_62 hC hw dX7_keep_150 ?_
        refine lv_iconst (v := nI 0) hC.1 hC.2.1 dX7_keep_153 (by decide) ?_
        refine lv_aload_n hC.1 hC.2.1 dX7_keep_154 rfl (lv_at hl 2 rfl) ?_
        refine lv_iload_n hC.1 hC.2.1 dX7_keep_155 rfl (lv_at hl 0 rfl) ?_
        refine lv_bipush (v := nI 72) hC.1 hC.2.1 dX7_keep_156 (by decide) ?_
        refine q_addN hC dX7_keep_158 ?_
        refine lv_bipush (v := nI 24) hC.1 hC.2.1 dX7_keep_159 (by decide) ?_
        refine q_cpy (sp := 0) (dp := ((3 + 3 + 10) + 72)) (n := 24) 24 rfl 61 rfl (XW_s51 _) hC hw hl (by omega) (by omega) (by decide) (by decide) ⟨Nat.le_of_ble_eq_true rfl, Nat.le_of_ble_eq_true rfl⟩ wk2_182 dX7_keep_161 (fun H locs hw => ?_)
        have hw : Wst E (XW E a) (sr (sr σ 51 (va_cpy (σ 13) (va_cpy (σ 12) (va_cpy (σ 11) (upc (σ 4) 10 (va_cpy (σ 15) (upd (upd (upd (σ 51) 0 (σ 0 0)) 1 (σ 0 1)) 2 (σ 0 2)) 0 3 3)) 0 (3 + 3 + 10) 24) 0 ((3 + 3 + 10) + 24) 24) 0 ((3 + 3 + 10) + 48) 24)) 51 (va_cpy (σ 14) (va_cpy (σ 13) (va_cpy (σ 12) (va_cpy (σ 11) (upc (σ 4) 10 (va_cpy (σ 15) (upd (upd (upd (σ 51) 0 (σ 0 0)) 1 (σ 0 1)) 2 (σ 0 2)) 0 3 3)) 0 (3 + 3 + 10) 24) 0 ((3 + 3 + 10) + 24) 24) 0 ((3 + 3 + 10) + 48) 24) 0 ((3 + 3 + 10) + 72) 24)) A s.heap H locs := hw
        have hst_ : sr (sr σ 51 (va_cpy (σ 13) (va_cpy (σ 12) (va_cpy (σ 11) (upc (σ 4) 10 (va_cpy (σ 15) (upd (upd (upd (σ 51) 0 (σ 0 0)) 1 (σ 0 1)) 2 (σ 0 2)) 0 3 3)) 0 (3 + 3 + 10) 24) 0 ((3 + 3 + 10) + 24) 24) 0 ((3 + 3 + 10) + 48) 24)) 51 (va_cpy (σ 14) (va_cpy (σ 13) (va_cpy (σ 12) (va_cpy (σ 11) (upc (σ 4) 10 (va_cpy (σ 15) (upd (upd (upd (σ 51) 0 (σ 0 0)) 1 (σ 0 1)) 2 (σ 0 2)) 0 3 3)) 0 (3 + 3 + 10) 24) 0 ((3 + 3 + 10) + 24) 24) 0 ((3 + 3 + 10) + 48) 24) 0 ((3 + 3 + 10) + 72) 24) = sr σ 51 (va_cpy (σ 14) (va_cpy (σ 13) (va_cpy (σ 12) (va_cpy (σ 11) (upc (σ 4) 10 (va_cpy (σ 15) (upd (upd (upd (σ 51) 0 (σ 0 0)) 1 (σ 0 1)) 2 (σ 0 2)) 0 3 3)) 0 (3 + 3 + 10) 24) 0 ((3 + 3 + 10) + 24) 24) 0 ((3 + 3 + 10) + 48) 24) 0 ((3 + 3 + 10) + 72) 24) := by
          funext j_ x_
          by_cases e0 : j_ = 0
          · subst e0
            rfl
          · by_cases e51 : j_ = 51
            · subst e51; rfl
            · simp only [sr, e0, e51, if_false]
        rw [hst_] at hw
        refine lv_aload_n hC.1 hC.2.1 dX7_keep_164 rfl (lv_at hl 1 rfl) ?_
        refine lv_aload_n hC.1 hC.2.1 dX7_keep_165 rfl (lv_at hl 1 rfl) ?_
        refine gf_X7_28 (v := nI 21) hC hw hnx dX7_keep_166 ?_
        refine lv_bipush (v := nI 29) hC.1 hC.2.1 dX7_keep_169 (by decide) ?_
        have J184_4 : ∀ (w3 : Nat), w3 = (if 21 ≠ 29 then (21 + 1) else 0) → ∀ (H : Heap) (locs : List Loc) (ls : Array Slot), Wst E (XW E a) (sr σ 51 (va_cpy (σ 14) (va_cpy (σ 13) (va_cpy (σ 12) (va_cpy (σ 11) (upc (σ 4) 10 (va_cpy (σ 15) (upd (upd (upd (σ 51) 0 (σ 0 0)) 1 (σ 0 1)) 2 (σ 0 2)) 0 3 3)) 0 (3 + 3 + 10) 24) 0 ((3 + 3 + 10) + 24) 24) 0 ((3 + 3 + 10) + 48) 24) 0 ((3 + 3 + 10) + 72) 24)) A s.heap H locs → lv_has ls 4 [(0, .ref (a 68)), (1, .ref (a 51)), (2, .int (nI (3 + 3 + 10))), (3, .int (nI h))] → W p l e ({ frames := 1, cells := 0, slots := 0, locals := 24 }) s m args below meth c H locs 0 0 Q (F0 m 184 ls [.int (nI w3), .ref (a 68)]) := by
          intro w3 e4 H locs ls hw hl
          subst e4
          refine pf_X7_28 hC hw dX7_keep_184 (fun H locs hw => ?_)
          have hw : Wst E (XW E a) (sr (sr σ 51 (va_cpy (σ 14) (va_cpy (σ 13) (va_cpy (σ 12) (va_cpy (σ 11) (upc (σ 4) 10 (va_cpy (σ 15) (upd (upd (upd (σ 51) 0 (σ 0 0)) 1 (σ 0 1)) 2 (σ 0 2)) 0 3 3)) 0 (3 + 3 + 10) 24) 0 ((3 + 3 + 10) + 24) 24) 0 ((3 + 3 + 10) + 48) 24) 0 ((3 + 3 + 10) + 72) 24)) 0 (upd (σ 0) 3 (nI (if 21 ≠ 29 then (21 + 1) else 0)))) A s.heap H locs := hw
          refine lv_aload_n hC.1 hC.2.1 dX7_keep_187 rfl (lv_at hl 0 rfl) ?_
          refine lv_aload_n hC.1 hC.2.1 dX7_keep_188 rfl (lv_at hl 0 rfl) ?_
          refine gf_X7_65 (v := nI kp) hC hw hkp dX7_keep_189 ?_
          refine lv_bipush (v := nI 30) hC.1 hC.2.1 dX7_keep_192 (by decide) ?_
          have J210_6 : ∀ (w5 : Nat), w5 = (if kp ≠ 30 then (kp + 1) else kp) → ∀ (H : Heap) (locs : List Loc) (ls : Array Slot), Wst E (XW E a) (sr (sr σ 51 (va_cpy (σ 14) (va_cpy (σ 13) (va_cpy (σ 12) (va_cpy (σ 11) (upc (σ 4) 10 (va_cpy (σ 15) (upd (upd (upd (σ 51) 0 (σ 0 0)) 1 (σ 0 1)) 2 (σ 0 2)) 0 3 3)) 0 (3 + 3 + 10) 24) 0 ((3 + 3 + 10) + 24) 24) 0 ((3 + 3 + 10) + 48) 24) 0 ((3 + 3 + 10) + 72) 24)) 0 (upd (σ 0) 3 (nI (if 21 ≠ 29 then (21 + 1) else 0)))) A s.heap H locs → lv_has ls 4 [(0, .ref (a 68)), (1, .ref (a 51)), (2, .int (nI (3 + 3 + 10))), (3, .int (nI h))] → W p l e ({ frames := 1, cells := 0, slots := 0, locals := 24 }) s m args below meth c H locs 0 0 Q (F0 m 210 ls [.int (nI w5), .ref (a 68)]) := by
            intro w5 e6 H locs ls hw hl
            subst e6
            refine pf_X7_65 hC hw dX7_keep_210 (fun H locs hw => ?_)
            have hw : Wst E (XW E a) (sr (sr (sr σ 51 (va_cpy (σ 14) (va_cpy (σ 13) (va_cpy (σ 12) (va_cpy (σ 11) (upc (σ 4) 10 (va_cpy (σ 15) (upd (upd (upd (σ 51) 0 (σ 0 0)) 1 (σ 0 1)) 2 (σ 0 2)) 0 3 3)) 0 (3 + 3 + 10) 24) 0 ((3 + 3 + 10) + 24) 24) 0 ((3 + 3 + 10) + 48) 24) 0 ((3 + 3 + 10) + 72) 24)) 0 (upd (σ 0) 3 (nI (if 21 ≠ 29 then (21 + 1) else 0)))) 0 (upd (upd (σ 0) 3 (nI (if 21 ≠ 29 then (21 + 1) else 0))) 4 (nI (if kp ≠ 30 then (kp + 1) else kp)))) A s.heap H locs := hw
            have hst_ : sr (sr (sr σ 51 (va_cpy (σ 14) (va_cpy (σ 13) (va_cpy (σ 12) (va_cpy (σ 11) (upc (σ 4) 10 (va_cpy (σ 15) (upd (upd (upd (σ 51) 0 (σ 0 0)) 1 (σ 0 1)) 2 (σ 0 2)) 0 3 3)) 0 (3 + 3 + 10) 24) 0 ((3 + 3 + 10) + 24) 24) 0 ((3 + 3 + 10) + 48) 24) 0 ((3 + 3 + 10) + 72) 24)) 0 (upd (σ 0) 3 (nI (if 21 ≠ 29 then (21 + 1) else 0)))) 0 (upd (upd (σ 0) 3 (nI (if 21 ≠ 29 then (21 + 1) else 0))) 4 (nI (if kp ≠ 30 then (kp + 1) else kp))) = sr (sr σ 51 (va_cpy (σ 14) (va_cpy (σ 13) (va_cpy (σ 12) (va_cpy (σ 11) (upc (σ 4) 10 (va_cpy (σ 15) (upd (upd (upd (σ 51) 0 (σ 0 0)) 1 (σ 0 1)) 2 (σ 0 2)) 0 3 3)) 0 (3 + 3 + 10) 24) 0 ((3 + 3 + 10) + 24) 24) 0 ((3 + 3 + 10) + 48) 24) 0 ((3 + 3 + 10) + 72) 24)) 0 (upd (upd (σ 0) 3 (nI (if 21 ≠ 29 then (21 + 1) else 0))) 4 (nI (if kp ≠ 30 then (kp + 1) else kp))) := by
              funext j_ x_
              by_cases e0 : j_ = 0
              · subst e0
                by_cases y3 : x_ = 3
                · subst y3; rfl
                · by_cases y4 : x_ = 4
                  · subst y4; rfl
                  · simp [sr, upd, y3, y4]
              · by_cases e51 : j_ = 51
                · subst e51; rfl
                · simp only [sr, e0, e51, if_false]
            rw [hst_] at hw
            refine hret _ _ _ _ _ hw ?_ dX7_keep_213
            exact rfl
          refine q_cmpne hC 204 (cNeq (by omega) (by omega)) dX7_keep_194 (by decide) (fun (c7 : kp ≠ 30) => ?_) (fun (c7 : kp = 30) => ?_)
          · refine lv_aload_n hC.1 hC.2.1 dX7_keep_204 rfl (lv_at hl 0 rfl) ?_
            refine gf_X7_65 (v := nI kp) hC hw hkp dX7_keep_205 ?_
            refine lv_iconst (v := nI 1) hC.1 hC.2.1 dX7_keep_208 (by decide) ?_
            refine q_addN hC dX7_keep_209 ?_
            exact J210_6 _ (by (rw [if_pos c7]) <;> rfl) _ _ _ hw (lv_sub hl [0, 1, 2, 3] rfl)
          · refine lv_aload_n hC.1 hC.2.1 dX7_keep_197 rfl (lv_at hl 0 rfl) ?_
            refine gf_X7_65 (v := nI kp) hC hw hkp dX7_keep_198 ?_
            refine lv_goto (tgt := 210) hC.1 hC.2.1 dX7_keep_201 (by decide) ?_
            exact J210_6 _ (by (rw [if_neg (fun q => q c7)]) <;> rfl) _ _ _ hw (lv_sub hl [0, 1, 2, 3] rfl)
        refine q_cmpne hC 178 (cNeq (by omega) (by omega)) dX7_keep_171 (by decide) (fun (c8 : 21 ≠ 29) => ?_) (fun (c8 : 21 = 29) => ?_)
        · refine lv_aload_n hC.1 hC.2.1 dX7_keep_178 rfl (lv_at hl 1 rfl) ?_
          refine gf_X7_28 (v := nI 21) hC hw hnx dX7_keep_179 ?_
          refine lv_iconst (v := nI 1) hC.1 hC.2.1 dX7_keep_182 (by decide) ?_
          refine q_addN hC dX7_keep_183 ?_
          exact J184_4 _ (by (rw [if_pos c8]) <;> rfl) _ _ _ hw (lv_sub hl [1, 2, 0, 3] rfl)
        · refine lv_iconst (v := nI 0) hC.1 hC.2.1 dX7_keep_174 (by decide) ?_
          refine lv_goto (tgt := 184) hC.1 hC.2.1 dX7_keep_175 (by decide) ?_
          exact J184_4 _ (by (rw [if_neg (fun q => q c8)]) <;> rfl) _ _ _ hw (lv_sub hl [1, 2, 0, 3] rfl)
      · refine lv_aload_n hC.1 hC.2.1 dX7_keep_64 rfl (lv_at hl 1 rfl) ?_
        refine lv_iload_n hC.1 hC.2.1 dX7_keep_65 rfl (lv_at hl 2 rfl) ?_
        refine lv_iload_n hC.1 hC.2.1 dX7_keep_66 rfl (lv_at hl 3 rfl) ?_
        refine q_addN hC dX7_keep_67 ?_
        refine lv_aload_n hC.1 hC.2.1 dX7_keep_68 rfl (lv_at hl 0 rfl) ?_
        refine gf_X7_16 hC hw dX7_keep_69 ?_
        refine gf_X7_49 hC hw dX7_keep_72 ?_
        refine lv_iload_n hC.1 hC.2.1 dX7_keep_75 rfl (lv_at hl 3 rfl) ?_
        refine al_X4 (v := σ 4 h) hC hw (by omega) rfl dX7_keep_76 ?_
        have J85_10 : ∀ (w9 : Int32), w9 = (if ¬ (σ 4 h = 0) then (1 : Int32) else 0) → ∀ (H : Heap) (locs : List Loc) (ls : Array Slot), Wst E (XW E a) (sr σ 51 (upc (σ 4) h (va_cpy (σ 15) (upd (upd (upd (σ 51) 0 (σ 0 0)) 1 (σ 0 1)) 2 (σ 0 2)) 0 3 3))) A s.heap H locs → lv_has ls 4 [(0, .ref (a 68)), (1, .ref (a 51)), (2, .int (nI (3 + 3))), (3, .int (nI h))] → W p l e ({ frames := 1, cells := 0, slots := 0, locals := 24 }) s m args below meth c H locs 0 0 Q (F0 m 85 ls [.int (w9), .int (nI ((3 + 3) + h)), .ref (a 51)]) := by
          intro w9 e10 H locs ls hw hl
          subst e10
          refine q_ast (Wf := XW E a) 61 rfl (by decide) (XW_s51 _) hC hw (by omega) dX7_keep_85 (fun H locs hw => ?_)
          have hw : Wst E (XW E a) (sr (sr σ 51 (upc (σ 4) h (va_cpy (σ 15) (upd (upd (upd (σ 51) 0 (σ 0 0)) 1 (σ 0 1)) 2 (σ 0 2)) 0 3 3))) 51 (upd (upc (σ 4) h (va_cpy (σ 15) (upd (upd (upd (σ 51) 0 (σ 0 0)) 1 (σ 0 1)) 2 (σ 0 2)) 0 3 3)) ((3 + 3) + h) (if ¬ (σ 4 h = 0) then (1 : Int32) else 0))) A s.heap H locs := hw
          have hst_ : sr (sr σ 51 (upc (σ 4) h (va_cpy (σ 15) (upd (upd (upd (σ 51) 0 (σ 0 0)) 1 (σ 0 1)) 2 (σ 0 2)) 0 3 3))) 51 (upd (upc (σ 4) h (va_cpy (σ 15) (upd (upd (upd (σ 51) 0 (σ 0 0)) 1 (σ 0 1)) 2 (σ 0 2)) 0 3 3)) ((3 + 3) + h) (if ¬ (σ 4 h = 0) then (1 : Int32) else 0)) = sr σ 51 (upd (upc (σ 4) h (va_cpy (σ 15) (upd (upd (upd (σ 51) 0 (σ 0 0)) 1 (σ 0 1)) 2 (σ 0 2)) 0 3 3)) ((3 + 3) + h) (if ¬ (σ 4 h = 0) then (1 : Int32) else 0)) := by
            funext j_ x_
            by_cases e0 : j_ = 0
            · subst e0
              rfl
            · by_cases e51 : j_ = 51
              · subst e51; rfl
              · simp only [sr, e0, e51, if_false]
          rw [hst_] at hw
          refine lv_iinc (v := nI (h + 1)) (lv' := [(3, .int (nI (h + 1))), (0, .ref (a 68)), (1, .ref (a 51)), (2, .int (nI (3 + 3)))]) hC.1 hC.2.1 dX7_keep_86 hl (k := 3) rfl (nI_add _ _) (by decide) rfl (fun ls hl => ?_)
          refine lv_goto (tgt := 58) hC.1 hC.2.1 dX7_keep_89 (by decide) ?_
          rw [upc_s] at hw
          exact ih58 (h + 1) (by omega) (by omega) _ _ _ hw (lv_sub hl [1, 2, 3, 0] rfl)
        refine q_ifeq hC 84 cI dX7_keep_77 (by decide) (fun (c11 : σ 4 h = 0) => ?_) (fun (c11 : ¬ (σ 4 h = 0)) => ?_)
        · refine lv_iconst (v := nI 0) hC.1 hC.2.1 dX7_keep_84 (by decide) ?_
          exact J85_10 _ (if_neg (fun q => q c11)).symm _ _ _ hw (lv_sub hl [0, 1, 2, 3] rfl)
        · refine lv_iconst (v := nI 1) hC.1 hC.2.1 dX7_keep_80 (by decide) ?_
          refine lv_goto (tgt := 85) hC.1 hC.2.1 dX7_keep_81 (by decide) ?_
          exact J85_10 _ (if_pos c11).symm _ _ _ hw (lv_sub hl [0, 1, 2, 3] rfl)
  rw [← upc_0 (σ 4) (va_cpy (σ 15) (upd (upd (upd (σ 51) 0 (σ 0 0)) 1 (σ 0 1)) 2 (σ 0 2)) 0 3 3)] at hw
  exact L58_0 _ 0 (by omega) (Nat.lt_succ_self _) _ _ _ hw (lv_sub hl [3, 2, 1, 0] rfl)
set_option maxHeartbeats 4000000 in
set_option maxRecDepth 100000 in
theorem tX7_keep_k22 (l : Launch) (E : EV) (a : Nat → Nat) (σ : St) (kp : Nat) (hnx : σ 0 3 = nI 22) (hkp : σ 0 4 = nI kp) (hk30 : kp ≤ 30) : MV l E (XW E a) yX7_keep (Cond.code yX7_keep cX7_keep 4 none) ({ frames := 1, cells := 0, slots := 0, locals := 24 }) [.ref (a 68)] σ (fun u_ => u_ = sr (sr σ 52 (kpr σ (σ 52))) 0 (upd (upd (σ 0) 3 (nI (if 22 ≠ 29 then 22 + 1 else 0))) 4 (nI (if kp ≠ 30 then kp + 1 else kp)))) := by
  refine MV.mk (by decide +kernel) (Nat.le_of_ble_eq_true rfl) ?_
  intro p e s m args below meth c ls A Q hret hC hw hl
  have hC : Cxt E p s m args meth c cX7_keep 4 none RX7 A := hC
  have hl : lv_has ls 4 [(0, .ref (a 68))] := hl
  refine lv_aload_n hC.1 hC.2.1 dX7_keep_0 rfl (lv_at hl 0 rfl) ?_
  refine gf_X7_13 hC hw dX7_keep_1 ?_
  refine lv_aload_n hC.1 hC.2.1 dX7_keep_4 rfl (lv_at hl 0 rfl) ?_
  refine gf_X7_28 (v := nI 22) hC hw hnx dX7_keep_5 ?_
  refine q_aald hC hw (i := 22) (by decide) dX7_keep_8 ?_
  refine lv_astore_n (lv' := [(1, .ref (a 52)), (0, .ref (a 68))]) hC.1 hC.2.1 dX7_keep_9 rfl hl (by decide) rfl (fun ls hl => ?_)
  refine lv_aload_n hC.1 hC.2.1 dX7_keep_10 rfl (lv_at hl 0 rfl) ?_
  refine lv_iconst (v := nI 0) hC.1 hC.2.1 dX7_keep_11 (by decide) ?_
  refine lv_aload_n hC.1 hC.2.1 dX7_keep_12 rfl (lv_at hl 1 rfl) ?_
  refine gf_X7_16 hC hw dX7_keep_13 ?_
  refine gf_X7_32 (v := σ 0 0) hC hw rfl dX7_keep_16 ?_
  refine q_ast (Wf := XW E a) 62 rfl (by decide) (XW_s52 _) hC hw (by omega) dX7_keep_19 (fun H locs hw => ?_)
  have hw : Wst E (XW E a) (sr σ 52 (upd (σ 52) 0 (σ 0 0))) A s.heap H locs := hw
  refine lv_aload_n hC.1 hC.2.1 dX7_keep_20 rfl (lv_at hl 0 rfl) ?_
  refine lv_iconst (v := nI 1) hC.1 hC.2.1 dX7_keep_21 (by decide) ?_
  refine lv_aload_n hC.1 hC.2.1 dX7_keep_22 rfl (lv_at hl 1 rfl) ?_
  refine gf_X7_20 hC hw dX7_keep_23 ?_
  refine gf_X7_37 (v := σ 0 1) hC hw rfl dX7_keep_26 ?_
  refine q_ast (Wf := XW E a) 62 rfl (by decide) (XW_s52 _) hC hw (by omega) dX7_keep_29 (fun H locs hw => ?_)
  have hw : Wst E (XW E a) (sr (sr σ 52 (upd (σ 52) 0 (σ 0 0))) 52 (upd (upd (σ 52) 0 (σ 0 0)) 1 (σ 0 1))) A s.heap H locs := hw
  have hst_ : sr (sr σ 52 (upd (σ 52) 0 (σ 0 0))) 52 (upd (upd (σ 52) 0 (σ 0 0)) 1 (σ 0 1)) = sr σ 52 (upd (upd (σ 52) 0 (σ 0 0)) 1 (σ 0 1)) := by
    funext j_ x_
    by_cases e0 : j_ = 0
    · subst e0
      rfl
    · by_cases e52 : j_ = 52
      · subst e52; rfl
      · simp only [sr, e0, e52, if_false]
  rw [hst_] at hw
  refine lv_aload_n hC.1 hC.2.1 dX7_keep_30 rfl (lv_at hl 0 rfl) ?_
  refine lv_iconst (v := nI 2) hC.1 hC.2.1 dX7_keep_31 (by decide) ?_
  refine lv_aload_n hC.1 hC.2.1 dX7_keep_32 rfl (lv_at hl 1 rfl) ?_
  refine gf_X7_20 hC hw dX7_keep_33 ?_
  refine gf_X7_40 (v := σ 0 2) hC hw rfl dX7_keep_36 ?_
  refine q_ast (Wf := XW E a) 62 rfl (by decide) (XW_s52 _) hC hw (by omega) dX7_keep_39 (fun H locs hw => ?_)
  have hw : Wst E (XW E a) (sr (sr σ 52 (upd (upd (σ 52) 0 (σ 0 0)) 1 (σ 0 1))) 52 (upd (upd (upd (σ 52) 0 (σ 0 0)) 1 (σ 0 1)) 2 (σ 0 2))) A s.heap H locs := hw
  have hst_ : sr (sr σ 52 (upd (upd (σ 52) 0 (σ 0 0)) 1 (σ 0 1))) 52 (upd (upd (upd (σ 52) 0 (σ 0 0)) 1 (σ 0 1)) 2 (σ 0 2)) = sr σ 52 (upd (upd (upd (σ 52) 0 (σ 0 0)) 1 (σ 0 1)) 2 (σ 0 2)) := by
    funext j_ x_
    by_cases e0 : j_ = 0
    · subst e0
      rfl
    · by_cases e52 : j_ = 52
      · subst e52; rfl
      · simp only [sr, e0, e52, if_false]
  rw [hst_] at hw
  refine lv_iconst (v := nI 3) hC.1 hC.2.1 dX7_keep_40 (by decide) ?_
  refine lv_istore_n (lv' := [(2, .int (nI 3)), (1, .ref (a 52)), (0, .ref (a 68))]) hC.1 hC.2.1 dX7_keep_41 rfl hl (by decide) rfl (fun ls hl => ?_)
  refine lv_aload_n hC.1 hC.2.1 dX7_keep_42 rfl (lv_at hl 2 rfl) ?_
  refine gf_X7_24 hC hw dX7_keep_43 ?_
  refine lv_iconst (v := nI 0) hC.1 hC.2.1 dX7_keep_46 (by decide) ?_
  refine lv_aload_n hC.1 hC.2.1 dX7_keep_47 rfl (lv_at hl 1 rfl) ?_
  refine lv_iload_n hC.1 hC.2.1 dX7_keep_48 rfl (lv_at hl 0 rfl) ?_
  refine lv_iconst (v := nI 3) hC.1 hC.2.1 dX7_keep_49 (by decide) ?_
  refine q_cpy (sp := 0) (dp := 3) (n := 3) 25 rfl 62 rfl (XW_s52 _) hC hw hl (by omega) (by omega) (by decide) (by decide) ⟨Nat.le_of_ble_eq_true rfl, Nat.le_of_ble_eq_true rfl⟩ wk2_182 dX7_keep_50 (fun H locs hw => ?_)
  have hw : Wst E (XW E a) (sr (sr σ 52 (upd (upd (upd (σ 52) 0 (σ 0 0)) 1 (σ 0 1)) 2 (σ 0 2))) 52 (va_cpy (σ 15) (upd (upd (upd (σ 52) 0 (σ 0 0)) 1 (σ 0 1)) 2 (σ 0 2)) 0 3 3)) A s.heap H locs := hw
  have hst_ : sr (sr σ 52 (upd (upd (upd (σ 52) 0 (σ 0 0)) 1 (σ 0 1)) 2 (σ 0 2))) 52 (va_cpy (σ 15) (upd (upd (upd (σ 52) 0 (σ 0 0)) 1 (σ 0 1)) 2 (σ 0 2)) 0 3 3) = sr σ 52 (va_cpy (σ 15) (upd (upd (upd (σ 52) 0 (σ 0 0)) 1 (σ 0 1)) 2 (σ 0 2)) 0 3 3) := by
    funext j_ x_
    by_cases e0 : j_ = 0
    · subst e0
      rfl
    · by_cases e52 : j_ = 52
      · subst e52; rfl
      · simp only [sr, e0, e52, if_false]
  rw [hst_] at hw
  refine lv_iinc (v := nI (3 + 3)) (lv' := [(2, .int (nI (3 + 3))), (1, .ref (a 52)), (0, .ref (a 68))]) hC.1 hC.2.1 dX7_keep_53 hl (k := 0) rfl (nI_add _ _) (by decide) rfl (fun ls hl => ?_)
  refine lv_iconst (v := nI 0) hC.1 hC.2.1 dX7_keep_56 (by decide) ?_
  refine lv_istore_n (lv' := [(3, .int (nI 0)), (2, .int (nI (3 + 3))), (1, .ref (a 52)), (0, .ref (a 68))]) hC.1 hC.2.1 dX7_keep_57 rfl hl (by decide) rfl (fun ls hl => ?_)
  have L58_0 : ∀ (n : Nat), ∀ (h : Nat), (h ≤ 10) → (10 - h) < n → ∀ (H : Heap) (locs : List Loc) (ls : Array Slot), Wst E (XW E a) (sr σ 52 (upc (σ 4) h (va_cpy (σ 15) (upd (upd (upd (σ 52) 0 (σ 0 0)) 1 (σ 0 1)) 2 (σ 0 2)) 0 3 3))) A s.heap H locs → lv_has ls 4 [(0, .ref (a 68)), (1, .ref (a 52)), (2, .int (nI (3 + 3))), (3, .int (nI h))] → W p l e ({ frames := 1, cells := 0, slots := 0, locals := 24 }) s m args below meth c H locs 0 0 Q (F0 m 58 ls []) := by
    intro n
    induction n with
    | zero => intro h hh hn; exact absurd hn (Nat.not_lt_zero _)
    | succ n ih58 =>
      intro h hh hn58 H locs ls hw hl
      refine lv_iload_n hC.1 hC.2.1 dX7_keep_58 rfl (lv_at hl 3 rfl) ?_
      refine lv_bipush (v := nI 10) hC.1 hC.2.1 dX7_keep_59 (by decide) ?_
      refine q_cmpge hC 92 (cNle (by omega) (by omega)) dX7_keep_61 (by decide) (fun (c2 : 10 ≤ h) => ?_) (fun (c2 : h < 10) => ?_)
      · have hh9 : h = 10 := by omega
        rw [hh9] at hw
        refine lv_iinc (v := nI (3 + 3 + 10)) (lv' := [(2, .int (nI (3 + 3 + 10))), (0, .ref (a 68)), (1, .ref (a 52)), (3, .int (nI h))]) hC.1 hC.2.1 dX7_keep_92 hl (k := 2) rfl (nI_add _ _) (by decide) rfl (fun ls hl => ?_)
        refine lv_aload_n hC.1 hC.2.1 dX7_keep_95 rfl (lv_at hl 1 rfl) ?_
        refine gf_X7_20 hC hw dX7_keep_96 ?_
        refine gf_X7_53 hC hw dX7_keep_99 ?_
        refine lv_iconst (v := nI 0) hC.1 hC.2.1 dX7_keep_102 (by decide) ?_
        refine lv_aload_n hC.1 hC.2.1 dX7_keep_103 rfl (lv_at hl 2 rfl) ?_
        refine lv_iload_n hC.1 hC.2.1 dX7_keep_104 rfl (lv_at hl 0 rfl) ?_
        refine lv_bipush (v := nI 24) hC.1 hC.2.1 dX7_keep_105 (by decide) ?_
        refine q_cpy (sp := 0) (dp := (3 + 3 + 10)) (n := 24) 21 rfl 62 rfl (XW_s52 _) hC hw hl (by omega) (by omega) (by decide) (by decide) ⟨Nat.le_of_ble_eq_true rfl, Nat.le_of_ble_eq_true rfl⟩ wk2_182 dX7_keep_107 (fun H locs hw => ?_)
        have hw : Wst E (XW E a) (sr (sr σ 52 (upc (σ 4) 10 (va_cpy (σ 15) (upd (upd (upd (σ 52) 0 (σ 0 0)) 1 (σ 0 1)) 2 (σ 0 2)) 0 3 3))) 52 (va_cpy (σ 11) (upc (σ 4) 10 (va_cpy (σ 15) (upd (upd (upd (σ 52) 0 (σ 0 0)) 1 (σ 0 1)) 2 (σ 0 2)) 0 3 3)) 0 (3 + 3 + 10) 24)) A s.heap H locs := hw
        have hst_ : sr (sr σ 52 (upc (σ 4) 10 (va_cpy (σ 15) (upd (upd (upd (σ 52) 0 (σ 0 0)) 1 (σ 0 1)) 2 (σ 0 2)) 0 3 3))) 52 (va_cpy (σ 11) (upc (σ 4) 10 (va_cpy (σ 15) (upd (upd (upd (σ 52) 0 (σ 0 0)) 1 (σ 0 1)) 2 (σ 0 2)) 0 3 3)) 0 (3 + 3 + 10) 24) = sr σ 52 (va_cpy (σ 11) (upc (σ 4) 10 (va_cpy (σ 15) (upd (upd (upd (σ 52) 0 (σ 0 0)) 1 (σ 0 1)) 2 (σ 0 2)) 0 3 3)) 0 (3 + 3 + 10) 24) := by
          funext j_ x_
          by_cases e0 : j_ = 0
          · subst e0
            rfl
          · by_cases e52 : j_ = 52
            · subst e52; rfl
            · simp only [sr, e0, e52, if_false]
        rw [hst_] at hw
        refine lv_aload_n hC.1 hC.2.1 dX7_keep_110 rfl (lv_at hl 1 rfl) ?_
        refine gf_X7_20 hC hw dX7_keep_111 ?_
        refine gf_X7_56 hC hw dX7_keep_114 ?_
        refine lv_iconst (v := nI 0) hC.1 hC.2.1 dX7_keep_117 (by decide) ?_
        refine lv_aload_n hC.1 hC.2.1 dX7_keep_118 rfl (lv_at hl 2 rfl) ?_
        refine lv_iload_n hC.1 hC.2.1 dX7_keep_119 rfl (lv_at hl 0 rfl) ?_
        refine lv_bipush (v := nI 24) hC.1 hC.2.1 dX7_keep_120 (by decide) ?_
        refine q_addN hC dX7_keep_122 ?_
        refine lv_bipush (v := nI 24) hC.1 hC.2.1 dX7_keep_123 (by decide) ?_
        refine q_cpy (sp := 0) (dp := ((3 + 3 + 10) + 24)) (n := 24) 22 rfl 62 rfl (XW_s52 _) hC hw hl (by omega) (by omega) (by decide) (by decide) ⟨Nat.le_of_ble_eq_true rfl, Nat.le_of_ble_eq_true rfl⟩ wk2_182 dX7_keep_125 (fun H locs hw => ?_)
        have hw : Wst E (XW E a) (sr (sr σ 52 (va_cpy (σ 11) (upc (σ 4) 10 (va_cpy (σ 15) (upd (upd (upd (σ 52) 0 (σ 0 0)) 1 (σ 0 1)) 2 (σ 0 2)) 0 3 3)) 0 (3 + 3 + 10) 24)) 52 (va_cpy (σ 12) (va_cpy (σ 11) (upc (σ 4) 10 (va_cpy (σ 15) (upd (upd (upd (σ 52) 0 (σ 0 0)) 1 (σ 0 1)) 2 (σ 0 2)) 0 3 3)) 0 (3 + 3 + 10) 24) 0 ((3 + 3 + 10) + 24) 24)) A s.heap H locs := hw
        have hst_ : sr (sr σ 52 (va_cpy (σ 11) (upc (σ 4) 10 (va_cpy (σ 15) (upd (upd (upd (σ 52) 0 (σ 0 0)) 1 (σ 0 1)) 2 (σ 0 2)) 0 3 3)) 0 (3 + 3 + 10) 24)) 52 (va_cpy (σ 12) (va_cpy (σ 11) (upc (σ 4) 10 (va_cpy (σ 15) (upd (upd (upd (σ 52) 0 (σ 0 0)) 1 (σ 0 1)) 2 (σ 0 2)) 0 3 3)) 0 (3 + 3 + 10) 24) 0 ((3 + 3 + 10) + 24) 24) = sr σ 52 (va_cpy (σ 12) (va_cpy (σ 11) (upc (σ 4) 10 (va_cpy (σ 15) (upd (upd (upd (σ 52) 0 (σ 0 0)) 1 (σ 0 1)) 2 (σ 0 2)) 0 3 3)) 0 (3 + 3 + 10) 24) 0 ((3 + 3 + 10) + 24) 24) := by
          funext j_ x_
          by_cases e0 : j_ = 0
          · subst e0
            rfl
          · by_cases e52 : j_ = 52
            · subst e52; rfl
            · simp only [sr, e0, e52, if_false]
        rw [hst_] at hw
        refine lv_aload_n hC.1 hC.2.1 dX7_keep_128 rfl (lv_at hl 1 rfl) ?_
        refine gf_X7_20 hC hw dX7_keep_129 ?_
        refine gf_X7_59 hC hw dX7_keep_132 ?_
        refine lv_iconst (v := nI 0) hC.1 hC.2.1 dX7_keep_135 (by decide) ?_
        refine lv_aload_n hC.1 hC.2.1 dX7_keep_136 rfl (lv_at hl 2 rfl) ?_
        refine lv_iload_n hC.1 hC.2.1 dX7_keep_137 rfl (lv_at hl 0 rfl) ?_
        refine lv_bipush (v := nI 48) hC.1 hC.2.1 dX7_keep_138 (by decide) ?_
        refine q_addN hC dX7_keep_140 ?_
        refine lv_bipush (v := nI 24) hC.1 hC.2.1 dX7_keep_141 (by decide) ?_
        refine q_cpy (sp := 0) (dp := ((3 + 3 + 10) + 48)) (n := 24) 23 rfl 62 rfl (XW_s52 _) hC hw hl (by omega) (by omega) (by decide) (by decide) ⟨Nat.le_of_ble_eq_true rfl, Nat.le_of_ble_eq_true rfl⟩ wk2_182 dX7_keep_143 (fun H locs hw => ?_)
        have hw : Wst E (XW E a) (sr (sr σ 52 (va_cpy (σ 12) (va_cpy (σ 11) (upc (σ 4) 10 (va_cpy (σ 15) (upd (upd (upd (σ 52) 0 (σ 0 0)) 1 (σ 0 1)) 2 (σ 0 2)) 0 3 3)) 0 (3 + 3 + 10) 24) 0 ((3 + 3 + 10) + 24) 24)) 52 (va_cpy (σ 13) (va_cpy (σ 12) (va_cpy (σ 11) (upc (σ 4) 10 (va_cpy (σ 15) (upd (upd (upd (σ 52) 0 (σ 0 0)) 1 (σ 0 1)) 2 (σ 0 2)) 0 3 3)) 0 (3 + 3 + 10) 24) 0 ((3 + 3 + 10) + 24) 24) 0 ((3 + 3 + 10) + 48) 24)) A s.heap H locs := hw
        have hst_ : sr (sr σ 52 (va_cpy (σ 12) (va_cpy (σ 11) (upc (σ 4) 10 (va_cpy (σ 15) (upd (upd (upd (σ 52) 0 (σ 0 0)) 1 (σ 0 1)) 2 (σ 0 2)) 0 3 3)) 0 (3 + 3 + 10) 24) 0 ((3 + 3 + 10) + 24) 24)) 52 (va_cpy (σ 13) (va_cpy (σ 12) (va_cpy (σ 11) (upc (σ 4) 10 (va_cpy (σ 15) (upd (upd (upd (σ 52) 0 (σ 0 0)) 1 (σ 0 1)) 2 (σ 0 2)) 0 3 3)) 0 (3 + 3 + 10) 24) 0 ((3 + 3 + 10) + 24) 24) 0 ((3 + 3 + 10) + 48) 24) = sr σ 52 (va_cpy (σ 13) (va_cpy (σ 12) (va_cpy (σ 11) (upc (σ 4) 10 (va_cpy (σ 15) (upd (upd (upd (σ 52) 0 (σ 0 0)) 1 (σ 0 1)) 2 (σ 0 2)) 0 3 3)) 0 (3 + 3 + 10) 24) 0 ((3 + 3 + 10) + 24) 24) 0 ((3 + 3 + 10) + 48) 24) := by
          funext j_ x_
          by_cases e0 : j_ = 0
          · subst e0
            rfl
          · by_cases e52 : j_ = 52
            · subst e52; rfl
            · simp only [sr, e0, e52, if_false]
        rw [hst_] at hw
        refine lv_aload_n hC.1 hC.2.1 dX7_keep_146 rfl (lv_at hl 1 rfl) ?_
        refine gf_X7_20 hC hw dX7_keep_147 ?_
        refine gf_X7_62 hC hw dX7_keep_150 ?_
        refine lv_iconst (v := nI 0) hC.1 hC.2.1 dX7_keep_153 (by decide) ?_
        refine lv_aload_n hC.1 hC.2.1 dX7_keep_154 rfl (lv_at hl 2 rfl) ?_
        refine lv_iload_n hC.1 hC.2.1 dX7_keep_155 rfl (lv_at hl 0 rfl) ?_
        refine lv_bipush (v := nI 72) hC.1 hC.2.1 dX7_keep_156 (by decide) ?_
        refine q_addN hC dX7_keep_158 ?_
        refine lv_bipush (v := nI 24) hC.1 hC.2.1 dX7_keep_159 (by decide) ?_
        refine q_cpy (sp := 0) (dp := ((3 + 3 + 10) + 72)) (n := 24) 24 rfl 62 rfl (XW_s52 _) hC hw hl (by omega) (by omega) (by decide) (by decide) ⟨Nat.le_of_ble_eq_true rfl, Nat.le_of_ble_eq_true rfl⟩ wk2_182 dX7_keep_161 (fun H locs hw => ?_)
        have hw : Wst E (XW E a) (sr (sr σ 52 (va_cpy (σ 13) (va_cpy (σ 12) (va_cpy (σ 11) (upc (σ 4) 10 (va_cpy (σ 15) (upd (upd (upd (σ 52) 0 (σ 0 0)) 1 (σ 0 1)) 2 (σ 0 2)) 0 3 3)) 0 (3 + 3 + 10) 24) 0 ((3 + 3 + 10) + 24) 24) 0 ((3 + 3 + 10) + 48) 24)) 52 (va_cpy (σ 14) (va_cpy (σ 13) (va_cpy (σ 12) (va_cpy (σ 11) (upc (σ 4) 10 (va_cpy (σ 15) (upd (upd (upd (σ 52) 0 (σ 0 0)) 1 (σ 0 1)) 2 (σ 0 2)) 0 3 3)) 0 (3 + 3 + 10) 24) 0 ((3 + 3 + 10) + 24) 24) 0 ((3 + 3 + 10) + 48) 24) 0 ((3 + 3 + 10) + 72) 24)) A s.heap H locs := hw
        have hst_ : sr (sr σ 52 (va_cpy (σ 13) (va_cpy (σ 12) (va_cpy (σ 11) (upc (σ 4) 10 (va_cpy (σ 15) (upd (upd (upd (σ 52) 0 (σ 0 0)) 1 (σ 0 1)) 2 (σ 0 2)) 0 3 3)) 0 (3 + 3 + 10) 24) 0 ((3 + 3 + 10) + 24) 24) 0 ((3 + 3 + 10) + 48) 24)) 52 (va_cpy (σ 14) (va_cpy (σ 13) (va_cpy (σ 12) (va_cpy (σ 11) (upc (σ 4) 10 (va_cpy (σ 15) (upd (upd (upd (σ 52) 0 (σ 0 0)) 1 (σ 0 1)) 2 (σ 0 2)) 0 3 3)) 0 (3 + 3 + 10) 24) 0 ((3 + 3 + 10) + 24) 24) 0 ((3 + 3 + 10) + 48) 24) 0 ((3 + 3 + 10) + 72) 24) = sr σ 52 (va_cpy (σ 14) (va_cpy (σ 13) (va_cpy (σ 12) (va_cpy (σ 11) (upc (σ 4) 10 (va_cpy (σ 15) (upd (upd (upd (σ 52) 0 (σ 0 0)) 1 (σ 0 1)) 2 (σ 0 2)) 0 3 3)) 0 (3 + 3 + 10) 24) 0 ((3 + 3 + 10) + 24) 24) 0 ((3 + 3 + 10) + 48) 24) 0 ((3 + 3 + 10) + 72) 24) := by
          funext j_ x_
          by_cases e0 : j_ = 0
          · subst e0
            rfl
          · by_cases e52 : j_ = 52
            · subst e52; rfl
            · simp only [sr, e0, e52, if_false]
        rw [hst_] at hw
        refine lv_aload_n hC.1 hC.2.1 dX7_keep_164 rfl (lv_at hl 1 rfl) ?_
        refine lv_aload_n hC.1 hC.2.1 dX7_keep_165 rfl (lv_at hl 1 rfl) ?_
        refine gf_X7_28 (v := nI 22) hC hw hnx dX7_keep_166 ?_
        refine lv_bipush (v := nI 29) hC.1 hC.2.1 dX7_keep_169 (by decide) ?_
        have J184_4 : ∀ (w3 : Nat), w3 = (if 22 ≠ 29 then (22 + 1) else 0) → ∀ (H : Heap) (locs : List Loc) (ls : Array Slot), Wst E (XW E a) (sr σ 52 (va_cpy (σ 14) (va_cpy (σ 13) (va_cpy (σ 12) (va_cpy (σ 11) (upc (σ 4) 10 (va_cpy (σ 15) (upd (upd (upd (σ 52) 0 (σ 0 0)) 1 (σ 0 1)) 2 (σ 0 2)) 0 3 3)) 0 (3 + 3 + 10) 24) 0 ((3 + 3 + 10) + 24) 24) 0 ((3 + 3 + 10) + 48) 24) 0 ((3 + 3 + 10) + 72) 24)) A s.heap H locs → lv_has ls 4 [(0, .ref (a 68)), (1, .ref (a 52)), (2, .int (nI (3 + 3 + 10))), (3, .int (nI h))] → W p l e ({ frames := 1, cells := 0, slots := 0, locals := 24 }) s m args below meth c H locs 0 0 Q (F0 m 184 ls [.int (nI w3), .ref (a 68)]) := by
          intro w3 e4 H locs ls hw hl
          subst e4
          refine pf_X7_28 hC hw dX7_keep_184 (fun H locs hw => ?_)
          have hw : Wst E (XW E a) (sr (sr σ 52 (va_cpy (σ 14) (va_cpy (σ 13) (va_cpy (σ 12) (va_cpy (σ 11) (upc (σ 4) 10 (va_cpy (σ 15) (upd (upd (upd (σ 52) 0 (σ 0 0)) 1 (σ 0 1)) 2 (σ 0 2)) 0 3 3)) 0 (3 + 3 + 10) 24) 0 ((3 + 3 + 10) + 24) 24) 0 ((3 + 3 + 10) + 48) 24) 0 ((3 + 3 + 10) + 72) 24)) 0 (upd (σ 0) 3 (nI (if 22 ≠ 29 then (22 + 1) else 0)))) A s.heap H locs := hw
          refine lv_aload_n hC.1 hC.2.1 dX7_keep_187 rfl (lv_at hl 0 rfl) ?_
          refine lv_aload_n hC.1 hC.2.1 dX7_keep_188 rfl (lv_at hl 0 rfl) ?_
          refine gf_X7_65 (v := nI kp) hC hw hkp dX7_keep_189 ?_
          refine lv_bipush (v := nI 30) hC.1 hC.2.1 dX7_keep_192 (by decide) ?_
          have J210_6 : ∀ (w5 : Nat), w5 = (if kp ≠ 30 then (kp + 1) else kp) → ∀ (H : Heap) (locs : List Loc) (ls : Array Slot), Wst E (XW E a) (sr (sr σ 52 (va_cpy (σ 14) (va_cpy (σ 13) (va_cpy (σ 12) (va_cpy (σ 11) (upc (σ 4) 10 (va_cpy (σ 15) (upd (upd (upd (σ 52) 0 (σ 0 0)) 1 (σ 0 1)) 2 (σ 0 2)) 0 3 3)) 0 (3 + 3 + 10) 24) 0 ((3 + 3 + 10) + 24) 24) 0 ((3 + 3 + 10) + 48) 24) 0 ((3 + 3 + 10) + 72) 24)) 0 (upd (σ 0) 3 (nI (if 22 ≠ 29 then (22 + 1) else 0)))) A s.heap H locs → lv_has ls 4 [(0, .ref (a 68)), (1, .ref (a 52)), (2, .int (nI (3 + 3 + 10))), (3, .int (nI h))] → W p l e ({ frames := 1, cells := 0, slots := 0, locals := 24 }) s m args below meth c H locs 0 0 Q (F0 m 210 ls [.int (nI w5), .ref (a 68)]) := by
            intro w5 e6 H locs ls hw hl
            subst e6
            refine pf_X7_65 hC hw dX7_keep_210 (fun H locs hw => ?_)
            have hw : Wst E (XW E a) (sr (sr (sr σ 52 (va_cpy (σ 14) (va_cpy (σ 13) (va_cpy (σ 12) (va_cpy (σ 11) (upc (σ 4) 10 (va_cpy (σ 15) (upd (upd (upd (σ 52) 0 (σ 0 0)) 1 (σ 0 1)) 2 (σ 0 2)) 0 3 3)) 0 (3 + 3 + 10) 24) 0 ((3 + 3 + 10) + 24) 24) 0 ((3 + 3 + 10) + 48) 24) 0 ((3 + 3 + 10) + 72) 24)) 0 (upd (σ 0) 3 (nI (if 22 ≠ 29 then (22 + 1) else 0)))) 0 (upd (upd (σ 0) 3 (nI (if 22 ≠ 29 then (22 + 1) else 0))) 4 (nI (if kp ≠ 30 then (kp + 1) else kp)))) A s.heap H locs := hw
            have hst_ : sr (sr (sr σ 52 (va_cpy (σ 14) (va_cpy (σ 13) (va_cpy (σ 12) (va_cpy (σ 11) (upc (σ 4) 10 (va_cpy (σ 15) (upd (upd (upd (σ 52) 0 (σ 0 0)) 1 (σ 0 1)) 2 (σ 0 2)) 0 3 3)) 0 (3 + 3 + 10) 24) 0 ((3 + 3 + 10) + 24) 24) 0 ((3 + 3 + 10) + 48) 24) 0 ((3 + 3 + 10) + 72) 24)) 0 (upd (σ 0) 3 (nI (if 22 ≠ 29 then (22 + 1) else 0)))) 0 (upd (upd (σ 0) 3 (nI (if 22 ≠ 29 then (22 + 1) else 0))) 4 (nI (if kp ≠ 30 then (kp + 1) else kp))) = sr (sr σ 52 (va_cpy (σ 14) (va_cpy (σ 13) (va_cpy (σ 12) (va_cpy (σ 11) (upc (σ 4) 10 (va_cpy (σ 15) (upd (upd (upd (σ 52) 0 (σ 0 0)) 1 (σ 0 1)) 2 (σ 0 2)) 0 3 3)) 0 (3 + 3 + 10) 24) 0 ((3 + 3 + 10) + 24) 24) 0 ((3 + 3 + 10) + 48) 24) 0 ((3 + 3 + 10) + 72) 24)) 0 (upd (upd (σ 0) 3 (nI (if 22 ≠ 29 then (22 + 1) else 0))) 4 (nI (if kp ≠ 30 then (kp + 1) else kp))) := by
              funext j_ x_
              by_cases e0 : j_ = 0
              · subst e0
                by_cases y3 : x_ = 3
                · subst y3; rfl
                · by_cases y4 : x_ = 4
                  · subst y4; rfl
                  · simp [sr, upd, y3, y4]
              · by_cases e52 : j_ = 52
                · subst e52; rfl
                · simp only [sr, e0, e52, if_false]
            rw [hst_] at hw
            refine hret _ _ _ _ _ hw ?_ dX7_keep_213
            exact rfl
          refine q_cmpne hC 204 (cNeq (by omega) (by omega)) dX7_keep_194 (by decide) (fun (c7 : kp ≠ 30) => ?_) (fun (c7 : kp = 30) => ?_)
          · refine lv_aload_n hC.1 hC.2.1 dX7_keep_204 rfl (lv_at hl 0 rfl) ?_
            refine gf_X7_65 (v := nI kp) hC hw hkp dX7_keep_205 ?_
            refine lv_iconst (v := nI 1) hC.1 hC.2.1 dX7_keep_208 (by decide) ?_
            refine q_addN hC dX7_keep_209 ?_
            exact J210_6 _ (by (rw [if_pos c7]) <;> rfl) _ _ _ hw (lv_sub hl [0, 1, 2, 3] rfl)
          · refine lv_aload_n hC.1 hC.2.1 dX7_keep_197 rfl (lv_at hl 0 rfl) ?_
            refine gf_X7_65 (v := nI kp) hC hw hkp dX7_keep_198 ?_
            refine lv_goto (tgt := 210) hC.1 hC.2.1 dX7_keep_201 (by decide) ?_
            exact J210_6 _ (by (rw [if_neg (fun q => q c7)]) <;> rfl) _ _ _ hw (lv_sub hl [0, 1, 2, 3] rfl)
        refine q_cmpne hC 178 (cNeq (by omega) (by omega)) dX7_keep_171 (by decide) (fun (c8 : 22 ≠ 29) => ?_) (fun (c8 : 22 = 29) => ?_)
        · refine lv_aload_n hC.1 hC.2.1 dX7_keep_178 rfl (lv_at hl 1 rfl) ?_
          refine gf_X7_28 (v := nI 22) hC hw hnx dX7_keep_179 ?_
          refine lv_iconst (v := nI 1) hC.1 hC.2.1 dX7_keep_182 (by decide) ?_
          refine q_addN hC dX7_keep_183 ?_
          exact J184_4 _ (by (rw [if_pos c8]) <;> rfl) _ _ _ hw (lv_sub hl [1, 2, 0, 3] rfl)
        · refine lv_iconst (v := nI 0) hC.1 hC.2.1 dX7_keep_174 (by decide) ?_
          refine lv_goto (tgt := 184) hC.1 hC.2.1 dX7_keep_175 (by decide) ?_
          exact J184_4 _ (by (rw [if_neg (fun q => q c8)]) <;> rfl) _ _ _ hw (lv_sub hl [1, 2, 0, 3] rfl)
      · refine lv_aload_n hC.1 hC.2.1 dX7_keep_64 rfl (lv_at hl 1 rfl) ?_
        refine lv_iload_n hC.1 hC.2.1 dX7_keep_65 rfl (lv_at hl 2 rfl) ?_
        refine lv_iload_n hC.1 hC.2.1 dX7_keep_66 rfl (lv_at hl 3 rfl) ?_
        refine q_addN hC dX7_keep_67 ?_
        refine lv_aload_n hC.1 hC.2.1 dX7_keep_68 rfl (lv_at hl 0 rfl) ?_
        refine gf_X7_16 hC hw dX7_keep_69 ?_
        refine gf_X7_49 hC hw dX7_keep_72 ?_
        refine lv_iload_n hC.1 hC.2.1 dX7_keep_75 rfl (lv_at hl 3 rfl) ?_
        refine al_X4 (v := σ 4 h) hC hw (by omega) rfl dX7_keep_76 ?_
        have J85_10 : ∀ (w9 : Int32), w9 = (if ¬ (σ 4 h = 0) then (1 : Int32) else 0) → ∀ (H : Heap) (locs : List Loc) (ls : Array Slot), Wst E (XW E a) (sr σ 52 (upc (σ 4) h (va_cpy (σ 15) (upd (upd (upd (σ 52) 0 (σ 0 0)) 1 (σ 0 1)) 2 (σ 0 2)) 0 3 3))) A s.heap H locs → lv_has ls 4 [(0, .ref (a 68)), (1, .ref (a 52)), (2, .int (nI (3 + 3))), (3, .int (nI h))] → W p l e ({ frames := 1, cells := 0, slots := 0, locals := 24 }) s m args below meth c H locs 0 0 Q (F0 m 85 ls [.int (w9), .int (nI ((3 + 3) + h)), .ref (a 52)]) := by
          intro w9 e10 H locs ls hw hl
          subst e10
          refine q_ast (Wf := XW E a) 62 rfl (by decide) (XW_s52 _) hC hw (by omega) dX7_keep_85 (fun H locs hw => ?_)
          have hw : Wst E (XW E a) (sr (sr σ 52 (upc (σ 4) h (va_cpy (σ 15) (upd (upd (upd (σ 52) 0 (σ 0 0)) 1 (σ 0 1)) 2 (σ 0 2)) 0 3 3))) 52 (upd (upc (σ 4) h (va_cpy (σ 15) (upd (upd (upd (σ 52) 0 (σ 0 0)) 1 (σ 0 1)) 2 (σ 0 2)) 0 3 3)) ((3 + 3) + h) (if ¬ (σ 4 h = 0) then (1 : Int32) else 0))) A s.heap H locs := hw
          have hst_ : sr (sr σ 52 (upc (σ 4) h (va_cpy (σ 15) (upd (upd (upd (σ 52) 0 (σ 0 0)) 1 (σ 0 1)) 2 (σ 0 2)) 0 3 3))) 52 (upd (upc (σ 4) h (va_cpy (σ 15) (upd (upd (upd (σ 52) 0 (σ 0 0)) 1 (σ 0 1)) 2 (σ 0 2)) 0 3 3)) ((3 + 3) + h) (if ¬ (σ 4 h = 0) then (1 : Int32) else 0)) = sr σ 52 (upd (upc (σ 4) h (va_cpy (σ 15) (upd (upd (upd (σ 52) 0 (σ 0 0)) 1 (σ 0 1)) 2 (σ 0 2)) 0 3 3)) ((3 + 3) + h) (if ¬ (σ 4 h = 0) then (1 : Int32) else 0)) := by
            funext j_ x_
            by_cases e0 : j_ = 0
            · subst e0
              rfl
            · by_cases e52 : j_ = 52
              · subst e52; rfl
              · simp only [sr, e0, e52, if_false]
          rw [hst_] at hw
          refine lv_iinc (v := nI (h + 1)) (lv' := [(3, .int (nI (h + 1))), (0, .ref (a 68)), (1, .ref (a 52)), (2, .int (nI (3 + 3)))]) hC.1 hC.2.1 dX7_keep_86 hl (k := 3) rfl (nI_add _ _) (by decide) rfl (fun ls hl => ?_)
          refine lv_goto (tgt := 58) hC.1 hC.2.1 dX7_keep_89 (by decide) ?_
          rw [upc_s] at hw
          exact ih58 (h + 1) (by omega) (by omega) _ _ _ hw (lv_sub hl [1, 2, 3, 0] rfl)
        refine q_ifeq hC 84 cI dX7_keep_77 (by decide) (fun (c11 : σ 4 h = 0) => ?_) (fun (c11 : ¬ (σ 4 h = 0)) => ?_)
        · refine lv_iconst (v := nI 0) hC.1 hC.2.1 dX7_keep_84 (by decide) ?_
          exact J85_10 _ (if_neg (fun q => q c11)).symm _ _ _ hw (lv_sub hl [0, 1, 2, 3] rfl)
        · refine lv_iconst (v := nI 1) hC.1 hC.2.1 dX7_keep_80 (by decide) ?_
          refine lv_goto (tgt := 85) hC.1 hC.2.1 dX7_keep_81 (by decide) ?_
          exact J85_10 _ (if_pos c11).symm _ _ _ hw (lv_sub hl [0, 1, 2, 3] rfl)
  rw [← upc_0 (σ 4) (va_cpy (σ 15) (upd (upd (upd (σ 52) 0 (σ 0 0)) 1 (σ 0 1)) 2 (σ 0 2)) 0 3 3)] at hw
  exact L58_0 _ 0 (by omega) (Nat.lt_succ_self _) _ _ _ hw (lv_sub hl [3, 2, 1, 0] rfl)
set_option maxHeartbeats 4000000 in
set_option maxRecDepth 100000 in
theorem tX7_keep_k23 (l : Launch) (E : EV) (a : Nat → Nat) (σ : St) (kp : Nat) (hnx : σ 0 3 = nI 23) (hkp : σ 0 4 = nI kp) (hk30 : kp ≤ 30) : MV l E (XW E a) yX7_keep (Cond.code yX7_keep cX7_keep 4 none) ({ frames := 1, cells := 0, slots := 0, locals := 24 }) [.ref (a 68)] σ (fun u_ => u_ = sr (sr σ 53 (kpr σ (σ 53))) 0 (upd (upd (σ 0) 3 (nI (if 23 ≠ 29 then 23 + 1 else 0))) 4 (nI (if kp ≠ 30 then kp + 1 else kp)))) := by
  refine MV.mk (by decide +kernel) (Nat.le_of_ble_eq_true rfl) ?_
  intro p e s m args below meth c ls A Q hret hC hw hl
  have hC : Cxt E p s m args meth c cX7_keep 4 none RX7 A := hC
  have hl : lv_has ls 4 [(0, .ref (a 68))] := hl
  refine lv_aload_n hC.1 hC.2.1 dX7_keep_0 rfl (lv_at hl 0 rfl) ?_
  refine gf_X7_13 hC hw dX7_keep_1 ?_
  refine lv_aload_n hC.1 hC.2.1 dX7_keep_4 rfl (lv_at hl 0 rfl) ?_
  refine gf_X7_28 (v := nI 23) hC hw hnx dX7_keep_5 ?_
  refine q_aald hC hw (i := 23) (by decide) dX7_keep_8 ?_
  refine lv_astore_n (lv' := [(1, .ref (a 53)), (0, .ref (a 68))]) hC.1 hC.2.1 dX7_keep_9 rfl hl (by decide) rfl (fun ls hl => ?_)
  refine lv_aload_n hC.1 hC.2.1 dX7_keep_10 rfl (lv_at hl 0 rfl) ?_
  refine lv_iconst (v := nI 0) hC.1 hC.2.1 dX7_keep_11 (by decide) ?_
  refine lv_aload_n hC.1 hC.2.1 dX7_keep_12 rfl (lv_at hl 1 rfl) ?_
  refine gf_X7_16 hC hw dX7_keep_13 ?_
  refine gf_X7_32 (v := σ 0 0) hC hw rfl dX7_keep_16 ?_
  refine q_ast (Wf := XW E a) 63 rfl (by decide) (XW_s53 _) hC hw (by omega) dX7_keep_19 (fun H locs hw => ?_)
  have hw : Wst E (XW E a) (sr σ 53 (upd (σ 53) 0 (σ 0 0))) A s.heap H locs := hw
  refine lv_aload_n hC.1 hC.2.1 dX7_keep_20 rfl (lv_at hl 0 rfl) ?_
  refine lv_iconst (v := nI 1) hC.1 hC.2.1 dX7_keep_21 (by decide) ?_
  refine lv_aload_n hC.1 hC.2.1 dX7_keep_22 rfl (lv_at hl 1 rfl) ?_
  refine gf_X7_20 hC hw dX7_keep_23 ?_
  refine gf_X7_37 (v := σ 0 1) hC hw rfl dX7_keep_26 ?_
  refine q_ast (Wf := XW E a) 63 rfl (by decide) (XW_s53 _) hC hw (by omega) dX7_keep_29 (fun H locs hw => ?_)
  have hw : Wst E (XW E a) (sr (sr σ 53 (upd (σ 53) 0 (σ 0 0))) 53 (upd (upd (σ 53) 0 (σ 0 0)) 1 (σ 0 1))) A s.heap H locs := hw
  have hst_ : sr (sr σ 53 (upd (σ 53) 0 (σ 0 0))) 53 (upd (upd (σ 53) 0 (σ 0 0)) 1 (σ 0 1)) = sr σ 53 (upd (upd (σ 53) 0 (σ 0 0)) 1 (σ 0 1)) := by
    funext j_ x_
    by_cases e0 : j_ = 0
    · subst e0
      rfl
    · by_cases e53 : j_ = 53
      · subst e53; rfl
      · simp only [sr, e0, e53, if_false]
  rw [hst_] at hw
  refine lv_aload_n hC.1 hC.2.1 dX7_keep_30 rfl (lv_at hl 0 rfl) ?_
  refine lv_iconst (v := nI 2) hC.1 hC.2.1 dX7_keep_31 (by decide) ?_
  refine lv_aload_n hC.1 hC.2.1 dX7_keep_32 rfl (lv_at hl 1 rfl) ?_
  refine gf_X7_20 hC hw dX7_keep_33 ?_
  refine gf_X7_40 (v := σ 0 2) hC hw rfl dX7_keep_36 ?_
  refine q_ast (Wf := XW E a) 63 rfl (by decide) (XW_s53 _) hC hw (by omega) dX7_keep_39 (fun H locs hw => ?_)
  have hw : Wst E (XW E a) (sr (sr σ 53 (upd (upd (σ 53) 0 (σ 0 0)) 1 (σ 0 1))) 53 (upd (upd (upd (σ 53) 0 (σ 0 0)) 1 (σ 0 1)) 2 (σ 0 2))) A s.heap H locs := hw
  have hst_ : sr (sr σ 53 (upd (upd (σ 53) 0 (σ 0 0)) 1 (σ 0 1))) 53 (upd (upd (upd (σ 53) 0 (σ 0 0)) 1 (σ 0 1)) 2 (σ 0 2)) = sr σ 53 (upd (upd (upd (σ 53) 0 (σ 0 0)) 1 (σ 0 1)) 2 (σ 0 2)) := by
    funext j_ x_
    by_cases e0 : j_ = 0
    · subst e0
      rfl
    · by_cases e53 : j_ = 53
      · subst e53; rfl
      · simp only [sr, e0, e53, if_false]
  rw [hst_] at hw
  refine lv_iconst (v := nI 3) hC.1 hC.2.1 dX7_keep_40 (by decide) ?_
  refine lv_istore_n (lv' := [(2, .int (nI 3)), (1, .ref (a 53)), (0, .ref (a 68))]) hC.1 hC.2.1 dX7_keep_41 rfl hl (by decide) rfl (fun ls hl => ?_)
  refine lv_aload_n hC.1 hC.2.1 dX7_keep_42 rfl (lv_at hl 2 rfl) ?_
  refine gf_X7_24 hC hw dX7_keep_43 ?_
  refine lv_iconst (v := nI 0) hC.1 hC.2.1 dX7_keep_46 (by decide) ?_
  refine lv_aload_n hC.1 hC.2.1 dX7_keep_47 rfl (lv_at hl 1 rfl) ?_
  refine lv_iload_n hC.1 hC.2.1 dX7_keep_48 rfl (lv_at hl 0 rfl) ?_
  refine lv_iconst (v := nI 3) hC.1 hC.2.1 dX7_keep_49 (by decide) ?_
  refine q_cpy (sp := 0) (dp := 3) (n := 3) 25 rfl 63 rfl (XW_s53 _) hC hw hl (by omega) (by omega) (by decide) (by decide) ⟨Nat.le_of_ble_eq_true rfl, Nat.le_of_ble_eq_true rfl⟩ wk2_182 dX7_keep_50 (fun H locs hw => ?_)
  have hw : Wst E (XW E a) (sr (sr σ 53 (upd (upd (upd (σ 53) 0 (σ 0 0)) 1 (σ 0 1)) 2 (σ 0 2))) 53 (va_cpy (σ 15) (upd (upd (upd (σ 53) 0 (σ 0 0)) 1 (σ 0 1)) 2 (σ 0 2)) 0 3 3)) A s.heap H locs := hw
  have hst_ : sr (sr σ 53 (upd (upd (upd (σ 53) 0 (σ 0 0)) 1 (σ 0 1)) 2 (σ 0 2))) 53 (va_cpy (σ 15) (upd (upd (upd (σ 53) 0 (σ 0 0)) 1 (σ 0 1)) 2 (σ 0 2)) 0 3 3) = sr σ 53 (va_cpy (σ 15) (upd (upd (upd (σ 53) 0 (σ 0 0)) 1 (σ 0 1)) 2 (σ 0 2)) 0 3 3) := by
    funext j_ x_
    by_cases e0 : j_ = 0
    · subst e0
      rfl
    · by_cases e53 : j_ = 53
      · subst e53; rfl
      · simp only [sr, e0, e53, if_false]
  rw [hst_] at hw
  refine lv_iinc (v := nI (3 + 3)) (lv' := [(2, .int (nI (3 + 3))), (1, .ref (a 53)), (0, .ref (a 68))]) hC.1 hC.2.1 dX7_keep_53 hl (k := 0) rfl (nI_add _ _) (by decide) rfl (fun ls hl => ?_)
  refine lv_iconst (v := nI 0) hC.1 hC.2.1 dX7_keep_56 (by decide) ?_
  refine lv_istore_n (lv' := [(3, .int (nI 0)), (2, .int (nI (3 + 3))), (1, .ref (a 53)), (0, .ref (a 68))]) hC.1 hC.2.1 dX7_keep_57 rfl hl (by decide) rfl (fun ls hl => ?_)
  have L58_0 : ∀ (n : Nat), ∀ (h : Nat), (h ≤ 10) → (10 - h) < n → ∀ (H : Heap) (locs : List Loc) (ls : Array Slot), Wst E (XW E a) (sr σ 53 (upc (σ 4) h (va_cpy (σ 15) (upd (upd (upd (σ 53) 0 (σ 0 0)) 1 (σ 0 1)) 2 (σ 0 2)) 0 3 3))) A s.heap H locs → lv_has ls 4 [(0, .ref (a 68)), (1, .ref (a 53)), (2, .int (nI (3 + 3))), (3, .int (nI h))] → W p l e ({ frames := 1, cells := 0, slots := 0, locals := 24 }) s m args below meth c H locs 0 0 Q (F0 m 58 ls []) := by
    intro n
    induction n with
    | zero => intro h hh hn; exact absurd hn (Nat.not_lt_zero _)
    | succ n ih58 =>
      intro h hh hn58 H locs ls hw hl
      refine lv_iload_n hC.1 hC.2.1 dX7_keep_58 rfl (lv_at hl 3 rfl) ?_
      refine lv_bipush (v := nI 10) hC.1 hC.2.1 dX7_keep_59 (by decide) ?_
      refine q_cmpge hC 92 (cNle (by omega) (by omega)) dX7_keep_61 (by decide) (fun (c2 : 10 ≤ h) => ?_) (fun (c2 : h < 10) => ?_)
      · have hh9 : h = 10 := by omega
        rw [hh9] at hw
        refine lv_iinc (v := nI (3 + 3 + 10)) (lv' := [(2, .int (nI (3 + 3 + 10))), (0, .ref (a 68)), (1, .ref (a 53)), (3, .int (nI h))]) hC.1 hC.2.1 dX7_keep_92 hl (k := 2) rfl (nI_add _ _) (by decide) rfl (fun ls hl => ?_)
        refine lv_aload_n hC.1 hC.2.1 dX7_keep_95 rfl (lv_at hl 1 rfl) ?_
        refine gf_X7_20 hC hw dX7_keep_96 ?_
        refine gf_X7_53 hC hw dX7_keep_99 ?_
        refine lv_iconst (v := nI 0) hC.1 hC.2.1 dX7_keep_102 (by decide) ?_
        refine lv_aload_n hC.1 hC.2.1 dX7_keep_103 rfl (lv_at hl 2 rfl) ?_
        refine lv_iload_n hC.1 hC.2.1 dX7_keep_104 rfl (lv_at hl 0 rfl) ?_
        refine lv_bipush (v := nI 24) hC.1 hC.2.1 dX7_keep_105 (by decide) ?_
        refine q_cpy (sp := 0) (dp := (3 + 3 + 10)) (n := 24) 21 rfl 63 rfl (XW_s53 _) hC hw hl (by omega) (by omega) (by decide) (by decide) ⟨Nat.le_of_ble_eq_true rfl, Nat.le_of_ble_eq_true rfl⟩ wk2_182 dX7_keep_107 (fun H locs hw => ?_)
        have hw : Wst E (XW E a) (sr (sr σ 53 (upc (σ 4) 10 (va_cpy (σ 15) (upd (upd (upd (σ 53) 0 (σ 0 0)) 1 (σ 0 1)) 2 (σ 0 2)) 0 3 3))) 53 (va_cpy (σ 11) (upc (σ 4) 10 (va_cpy (σ 15) (upd (upd (upd (σ 53) 0 (σ 0 0)) 1 (σ 0 1)) 2 (σ 0 2)) 0 3 3)) 0 (3 + 3 + 10) 24)) A s.heap H locs := hw
        have hst_ : sr (sr σ 53 (upc (σ 4) 10 (va_cpy (σ 15) (upd (upd (upd (σ 53) 0 (σ 0 0)) 1 (σ 0 1)) 2 (σ 0 2)) 0 3 3))) 53 (va_cpy (σ 11) (upc (σ 4) 10 (va_cpy (σ 15) (upd (upd (upd (σ 53) 0 (σ 0 0)) 1 (σ 0 1)) 2 (σ 0 2)) 0 3 3)) 0 (3 + 3 + 10) 24) = sr σ 53 (va_cpy (σ 11) (upc (σ 4) 10 (va_cpy (σ 15) (upd (upd (upd (σ 53) 0 (σ 0 0)) 1 (σ 0 1)) 2 (σ 0 2)) 0 3 3)) 0 (3 + 3 + 10) 24) := by
          funext j_ x_
          by_cases e0 : j_ = 0
          · subst e0
            rfl
          · by_cases e53 : j_ = 53
            · subst e53; rfl
            · simp only [sr, e0, e53, if_false]
        rw [hst_] at hw
        refine lv_aload_n hC.1 hC.2.1 dX7_keep_110 rfl (lv_at hl 1 rfl) ?_
        refine gf_X7_20 hC hw dX7_keep_111 ?_
        refine gf_X7_56 hC hw dX7_keep_114 ?_
        refine lv_iconst (v := nI 0) hC.1 hC.2.1 dX7_keep_117 (by decide) ?_
        refine lv_aload_n hC.1 hC.2.1 dX7_keep_118 rfl (lv_at hl 2 rfl) ?_
        refine lv_iload_n hC.1 hC.2.1 dX7_keep_119 rfl (lv_at hl 0 rfl) ?_
        refine lv_bipush (v := nI 24) hC.1 hC.2.1 dX7_keep_120 (by decide) ?_
        refine q_addN hC dX7_keep_122 ?_
        refine lv_bipush (v := nI 24) hC.1 hC.2.1 dX7_keep_123 (by decide) ?_
        refine q_cpy (sp := 0) (dp := ((3 + 3 + 10) + 24)) (n := 24) 22 rfl 63 rfl (XW_s53 _) hC hw hl (by omega) (by omega) (by decide) (by decide) ⟨Nat.le_of_ble_eq_true rfl, Nat.le_of_ble_eq_true rfl⟩ wk2_182 dX7_keep_125 (fun H locs hw => ?_)
        have hw : Wst E (XW E a) (sr (sr σ 53 (va_cpy (σ 11) (upc (σ 4) 10 (va_cpy (σ 15) (upd (upd (upd (σ 53) 0 (σ 0 0)) 1 (σ 0 1)) 2 (σ 0 2)) 0 3 3)) 0 (3 + 3 + 10) 24)) 53 (va_cpy (σ 12) (va_cpy (σ 11) (upc (σ 4) 10 (va_cpy (σ 15) (upd (upd (upd (σ 53) 0 (σ 0 0)) 1 (σ 0 1)) 2 (σ 0 2)) 0 3 3)) 0 (3 + 3 + 10) 24) 0 ((3 + 3 + 10) + 24) 24)) A s.heap H locs := hw
        have hst_ : sr (sr σ 53 (va_cpy (σ 11) (upc (σ 4) 10 (va_cpy (σ 15) (upd (upd (upd (σ 53) 0 (σ 0 0)) 1 (σ 0 1)) 2 (σ 0 2)) 0 3 3)) 0 (3 + 3 + 10) 24)) 53 (va_cpy (σ 12) (va_cpy (σ 11) (upc (σ 4) 10 (va_cpy (σ 15) (upd (upd (upd (σ 53) 0 (σ 0 0)) 1 (σ 0 1)) 2 (σ 0 2)) 0 3 3)) 0 (3 + 3 + 10) 24) 0 ((3 + 3 + 10) + 24) 24) = sr σ 53 (va_cpy (σ 12) (va_cpy (σ 11) (upc (σ 4) 10 (va_cpy (σ 15) (upd (upd (upd (σ 53) 0 (σ 0 0)) 1 (σ 0 1)) 2 (σ 0 2)) 0 3 3)) 0 (3 + 3 + 10) 24) 0 ((3 + 3 + 10) + 24) 24) := by
          funext j_ x_
          by_cases e0 : j_ = 0
          · subst e0
            rfl
          · by_cases e53 : j_ = 53
            · subst e53; rfl
            · simp only [sr, e0, e53, if_false]
        rw [hst_] at hw
        refine lv_aload_n hC.1 hC.2.1 dX7_keep_128 rfl (lv_at hl 1 rfl) ?_
        refine gf_X7_20 hC hw dX7_keep_129 ?_
        refine gf_X7_59 hC hw dX7_keep_132 ?_
        refine lv_iconst (v := nI 0) hC.1 hC.2.1 dX7_keep_135 (by decide) ?_
        refine lv_aload_n hC.1 hC.2.1 dX7_keep_136 rfl (lv_at hl 2 rfl) ?_
        refine lv_iload_n hC.1 hC.2.1 dX7_keep_137 rfl (lv_at hl 0 rfl) ?_
        refine lv_bipush (v := nI 48) hC.1 hC.2.1 dX7_keep_138 (by decide) ?_
        refine q_addN hC dX7_keep_140 ?_
        refine lv_bipush (v := nI 24) hC.1 hC.2.1 dX7_keep_141 (by decide) ?_
        refine q_cpy (sp := 0) (dp := ((3 + 3 + 10) + 48)) (n := 24) 23 rfl 63 rfl (XW_s53 _) hC hw hl (by omega) (by omega) (by decide) (by decide) ⟨Nat.le_of_ble_eq_true rfl, Nat.le_of_ble_eq_true rfl⟩ wk2_182 dX7_keep_143 (fun H locs hw => ?_)
        have hw : Wst E (XW E a) (sr (sr σ 53 (va_cpy (σ 12) (va_cpy (σ 11) (upc (σ 4) 10 (va_cpy (σ 15) (upd (upd (upd (σ 53) 0 (σ 0 0)) 1 (σ 0 1)) 2 (σ 0 2)) 0 3 3)) 0 (3 + 3 + 10) 24) 0 ((3 + 3 + 10) + 24) 24)) 53 (va_cpy (σ 13) (va_cpy (σ 12) (va_cpy (σ 11) (upc (σ 4) 10 (va_cpy (σ 15) (upd (upd (upd (σ 53) 0 (σ 0 0)) 1 (σ 0 1)) 2 (σ 0 2)) 0 3 3)) 0 (3 + 3 + 10) 24) 0 ((3 + 3 + 10) + 24) 24) 0 ((3 + 3 + 10) + 48) 24)) A s.heap H locs := hw
        have hst_ : sr (sr σ 53 (va_cpy (σ 12) (va_cpy (σ 11) (upc (σ 4) 10 (va_cpy (σ 15) (upd (upd (upd (σ 53) 0 (σ 0 0)) 1 (σ 0 1)) 2 (σ 0 2)) 0 3 3)) 0 (3 + 3 + 10) 24) 0 ((3 + 3 + 10) + 24) 24)) 53 (va_cpy (σ 13) (va_cpy (σ 12) (va_cpy (σ 11) (upc (σ 4) 10 (va_cpy (σ 15) (upd (upd (upd (σ 53) 0 (σ 0 0)) 1 (σ 0 1)) 2 (σ 0 2)) 0 3 3)) 0 (3 + 3 + 10) 24) 0 ((3 + 3 + 10) + 24) 24) 0 ((3 + 3 + 10) + 48) 24) = sr σ 53 (va_cpy (σ 13) (va_cpy (σ 12) (va_cpy (σ 11) (upc (σ 4) 10 (va_cpy (σ 15) (upd (upd (upd (σ 53) 0 (σ 0 0)) 1 (σ 0 1)) 2 (σ 0 2)) 0 3 3)) 0 (3 + 3 + 10) 24) 0 ((3 + 3 + 10) + 24) 24) 0 ((3 + 3 + 10) + 48) 24) := by
          funext j_ x_
          by_cases e0 : j_ = 0
          · subst e0
            rfl
          · by_cases e53 : j_ = 53
            · subst e53; rfl
            · simp only [sr, e0, e53, if_false]
        rw [hst_] at hw
        refine lv_aload_n hC.1 hC.2.1 dX7_keep_146 rfl (lv_at hl 1 rfl) ?_
        refine gf_X7_20 hC hw dX7_keep_147 ?_
        refine gf_X7_62 hC hw dX7_keep_150 ?_
        refine lv_iconst (v := nI 0) hC.1 hC.2.1 dX7_keep_153 (by decide) ?_
        refine lv_aload_n hC.1 hC.2.1 dX7_keep_154 rfl (lv_at hl 2 rfl) ?_
        refine lv_iload_n hC.1 hC.2.1 dX7_keep_155 rfl (lv_at hl 0 rfl) ?_
        refine lv_bipush (v := nI 72) hC.1 hC.2.1 dX7_keep_156 (by decide) ?_
        refine q_addN hC dX7_keep_158 ?_
        refine lv_bipush (v := nI 24) hC.1 hC.2.1 dX7_keep_159 (by decide) ?_
        refine q_cpy (sp := 0) (dp := ((3 + 3 + 10) + 72)) (n := 24) 24 rfl 63 rfl (XW_s53 _) hC hw hl (by omega) (by omega) (by decide) (by decide) ⟨Nat.le_of_ble_eq_true rfl, Nat.le_of_ble_eq_true rfl⟩ wk2_182 dX7_keep_161 (fun H locs hw => ?_)
        have hw : Wst E (XW E a) (sr (sr σ 53 (va_cpy (σ 13) (va_cpy (σ 12) (va_cpy (σ 11) (upc (σ 4) 10 (va_cpy (σ 15) (upd (upd (upd (σ 53) 0 (σ 0 0)) 1 (σ 0 1)) 2 (σ 0 2)) 0 3 3)) 0 (3 + 3 + 10) 24) 0 ((3 + 3 + 10) + 24) 24) 0 ((3 + 3 + 10) + 48) 24)) 53 (va_cpy (σ 14) (va_cpy (σ 13) (va_cpy (σ 12) (va_cpy (σ 11) (upc (σ 4) 10 (va_cpy (σ 15) (upd (upd (upd (σ 53) 0 (σ 0 0)) 1 (σ 0 1)) 2 (σ 0 2)) 0 3 3)) 0 (3 + 3 + 10) 24) 0 ((3 + 3 + 10) + 24) 24) 0 ((3 + 3 + 10) + 48) 24) 0 ((3 + 3 + 10) + 72) 24)) A s.heap H locs := hw
        have hst_ : sr (sr σ 53 (va_cpy (σ 13) (va_cpy (σ 12) (va_cpy (σ 11) (upc (σ 4) 10 (va_cpy (σ 15) (upd (upd (upd (σ 53) 0 (σ 0 0)) 1 (σ 0 1)) 2 (σ 0 2)) 0 3 3)) 0 (3 + 3 + 10) 24) 0 ((3 + 3 + 10) + 24) 24) 0 ((3 + 3 + 10) + 48) 24)) 53 (va_cpy (σ 14) (va_cpy (σ 13) (va_cpy (σ 12) (va_cpy (σ 11) (upc (σ 4) 10 (va_cpy (σ 15) (upd (upd (upd (σ 53) 0 (σ 0 0)) 1 (σ 0 1)) 2 (σ 0 2)) 0 3 3)) 0 (3 + 3 + 10) 24) 0 ((3 + 3 + 10) + 24) 24) 0 ((3 + 3 + 10) + 48) 24) 0 ((3 + 3 + 10) + 72) 24) = sr σ 53 (va_cpy (σ 14) (va_cpy (σ 13) (va_cpy (σ 12) (va_cpy (σ 11) (upc (σ 4) 10 (va_cpy (σ 15) (upd (upd (upd (σ 53) 0 (σ 0 0)) 1 (σ 0 1)) 2 (σ 0 2)) 0 3 3)) 0 (3 + 3 + 10) 24) 0 ((3 + 3 + 10) + 24) 24) 0 ((3 + 3 + 10) + 48) 24) 0 ((3 + 3 + 10) + 72) 24) := by
          funext j_ x_
          by_cases e0 : j_ = 0
          · subst e0
            rfl
          · by_cases e53 : j_ = 53
            · subst e53; rfl
            · simp only [sr, e0, e53, if_false]
        rw [hst_] at hw
        refine lv_aload_n hC.1 hC.2.1 dX7_keep_164 rfl (lv_at hl 1 rfl) ?_
        refine lv_aload_n hC.1 hC.2.1 dX7_keep_165 rfl (lv_at hl 1 rfl) ?_
        refine gf_X7_28 (v := nI 23) hC hw hnx dX7_keep_166 ?_
        refine lv_bipush (v := nI 29) hC.1 hC.2.1 dX7_keep_169 (by decide) ?_
        have J184_4 : ∀ (w3 : Nat), w3 = (if 23 ≠ 29 then (23 + 1) else 0) → ∀ (H : Heap) (locs : List Loc) (ls : Array Slot), Wst E (XW E a) (sr σ 53 (va_cpy (σ 14) (va_cpy (σ 13) (va_cpy (σ 12) (va_cpy (σ 11) (upc (σ 4) 10 (va_cpy (σ 15) (upd (upd (upd (σ 53) 0 (σ 0 0)) 1 (σ 0 1)) 2 (σ 0 2)) 0 3 3)) 0 (3 + 3 + 10) 24) 0 ((3 + 3 + 10) + 24) 24) 0 ((3 + 3 + 10) + 48) 24) 0 ((3 + 3 + 10) + 72) 24)) A s.heap H locs → lv_has ls 4 [(0, .ref (a 68)), (1, .ref (a 53)), (2, .int (nI (3 + 3 + 10))), (3, .int (nI h))] → W p l e ({ frames := 1, cells := 0, slots := 0, locals := 24 }) s m args below meth c H locs 0 0 Q (F0 m 184 ls [.int (nI w3), .ref (a 68)]) := by
          intro w3 e4 H locs ls hw hl
          subst e4
          refine pf_X7_28 hC hw dX7_keep_184 (fun H locs hw => ?_)
          have hw : Wst E (XW E a) (sr (sr σ 53 (va_cpy (σ 14) (va_cpy (σ 13) (va_cpy (σ 12) (va_cpy (σ 11) (upc (σ 4) 10 (va_cpy (σ 15) (upd (upd (upd (σ 53) 0 (σ 0 0)) 1 (σ 0 1)) 2 (σ 0 2)) 0 3 3)) 0 (3 + 3 + 10) 24) 0 ((3 + 3 + 10) + 24) 24) 0 ((3 + 3 + 10) + 48) 24) 0 ((3 + 3 + 10) + 72) 24)) 0 (upd (σ 0) 3 (nI (if 23 ≠ 29 then (23 + 1) else 0)))) A s.heap H locs := hw
          refine lv_aload_n hC.1 hC.2.1 dX7_keep_187 rfl (lv_at hl 0 rfl) ?_
          refine lv_aload_n hC.1 hC.2.1 dX7_keep_188 rfl (lv_at hl 0 rfl) ?_
          refine gf_X7_65 (v := nI kp) hC hw hkp dX7_keep_189 ?_
          refine lv_bipush (v := nI 30) hC.1 hC.2.1 dX7_keep_192 (by decide) ?_
          have J210_6 : ∀ (w5 : Nat), w5 = (if kp ≠ 30 then (kp + 1) else kp) → ∀ (H : Heap) (locs : List Loc) (ls : Array Slot), Wst E (XW E a) (sr (sr σ 53 (va_cpy (σ 14) (va_cpy (σ 13) (va_cpy (σ 12) (va_cpy (σ 11) (upc (σ 4) 10 (va_cpy (σ 15) (upd (upd (upd (σ 53) 0 (σ 0 0)) 1 (σ 0 1)) 2 (σ 0 2)) 0 3 3)) 0 (3 + 3 + 10) 24) 0 ((3 + 3 + 10) + 24) 24) 0 ((3 + 3 + 10) + 48) 24) 0 ((3 + 3 + 10) + 72) 24)) 0 (upd (σ 0) 3 (nI (if 23 ≠ 29 then (23 + 1) else 0)))) A s.heap H locs → lv_has ls 4 [(0, .ref (a 68)), (1, .ref (a 53)), (2, .int (nI (3 + 3 + 10))), (3, .int (nI h))] → W p l e ({ frames := 1, cells := 0, slots := 0, locals := 24 }) s m args below meth c H locs 0 0 Q (F0 m 210 ls [.int (nI w5), .ref (a 68)]) := by
            intro w5 e6 H locs ls hw hl
            subst e6
            refine pf_X7_65 hC hw dX7_keep_210 (fun H locs hw => ?_)
            have hw : Wst E (XW E a) (sr (sr (sr σ 53 (va_cpy (σ 14) (va_cpy (σ 13) (va_cpy (σ 12) (va_cpy (σ 11) (upc (σ 4) 10 (va_cpy (σ 15) (upd (upd (upd (σ 53) 0 (σ 0 0)) 1 (σ 0 1)) 2 (σ 0 2)) 0 3 3)) 0 (3 + 3 + 10) 24) 0 ((3 + 3 + 10) + 24) 24) 0 ((3 + 3 + 10) + 48) 24) 0 ((3 + 3 + 10) + 72) 24)) 0 (upd (σ 0) 3 (nI (if 23 ≠ 29 then (23 + 1) else 0)))) 0 (upd (upd (σ 0) 3 (nI (if 23 ≠ 29 then (23 + 1) else 0))) 4 (nI (if kp ≠ 30 then (kp + 1) else kp)))) A s.heap H locs := hw
            have hst_ : sr (sr (sr σ 53 (va_cpy (σ 14) (va_cpy (σ 13) (va_cpy (σ 12) (va_cpy (σ 11) (upc (σ 4) 10 (va_cpy (σ 15) (upd (upd (upd (σ 53) 0 (σ 0 0)) 1 (σ 0 1)) 2 (σ 0 2)) 0 3 3)) 0 (3 + 3 + 10) 24) 0 ((3 + 3 + 10) + 24) 24) 0 ((3 + 3 + 10) + 48) 24) 0 ((3 + 3 + 10) + 72) 24)) 0 (upd (σ 0) 3 (nI (if 23 ≠ 29 then (23 + 1) else 0)))) 0 (upd (upd (σ 0) 3 (nI (if 23 ≠ 29 then (23 + 1) else 0))) 4 (nI (if kp ≠ 30 then (kp + 1) else kp))) = sr (sr σ 53 (va_cpy (σ 14) (va_cpy (σ 13) (va_cpy (σ 12) (va_cpy (σ 11) (upc (σ 4) 10 (va_cpy (σ 15) (upd (upd (upd (σ 53) 0 (σ 0 0)) 1 (σ 0 1)) 2 (σ 0 2)) 0 3 3)) 0 (3 + 3 + 10) 24) 0 ((3 + 3 + 10) + 24) 24) 0 ((3 + 3 + 10) + 48) 24) 0 ((3 + 3 + 10) + 72) 24)) 0 (upd (upd (σ 0) 3 (nI (if 23 ≠ 29 then (23 + 1) else 0))) 4 (nI (if kp ≠ 30 then (kp + 1) else kp))) := by
              funext j_ x_
              by_cases e0 : j_ = 0
              · subst e0
                by_cases y3 : x_ = 3
                · subst y3; rfl
                · by_cases y4 : x_ = 4
                  · subst y4; rfl
                  · simp [sr, upd, y3, y4]
              · by_cases e53 : j_ = 53
                · subst e53; rfl
                · simp only [sr, e0, e53, if_false]
            rw [hst_] at hw
            refine hret _ _ _ _ _ hw ?_ dX7_keep_213
            exact rfl
          refine q_cmpne hC 204 (cNeq (by omega) (by omega)) dX7_keep_194 (by decide) (fun (c7 : kp ≠ 30) => ?_) (fun (c7 : kp = 30) => ?_)
          · refine lv_aload_n hC.1 hC.2.1 dX7_keep_204 rfl (lv_at hl 0 rfl) ?_
            refine gf_X7_65 (v := nI kp) hC hw hkp dX7_keep_205 ?_
            refine lv_iconst (v := nI 1) hC.1 hC.2.1 dX7_keep_208 (by decide) ?_
            refine q_addN hC dX7_keep_209 ?_
            exact J210_6 _ (by (rw [if_pos c7]) <;> rfl) _ _ _ hw (lv_sub hl [0, 1, 2, 3] rfl)
          · refine lv_aload_n hC.1 hC.2.1 dX7_keep_197 rfl (lv_at hl 0 rfl) ?_
            refine gf_X7_65 (v := nI kp) hC hw hkp dX7_keep_198 ?_
            refine lv_goto (tgt := 210) hC.1 hC.2.1 dX7_keep_201 (by decide) ?_
            exact J210_6 _ (by (rw [if_neg (fun q => q c7)]) <;> rfl) _ _ _ hw (lv_sub hl [0, 1, 2, 3] rfl)
        refine q_cmpne hC 178 (cNeq (by omega) (by omega)) dX7_keep_171 (by decide) (fun (c8 : 23 ≠ 29) => ?_) (fun (c8 : 23 = 29) => ?_)
        · refine lv_aload_n hC.1 hC.2.1 dX7_keep_178 rfl (lv_at hl 1 rfl) ?_
          refine gf_X7_28 (v := nI 23) hC hw hnx dX7_keep_179 ?_
          refine lv_iconst (v := nI 1) hC.1 hC.2.1 dX7_keep_182 (by decide) ?_
          refine q_addN hC dX7_keep_183 ?_
          exact J184_4 _ (by (rw [if_pos c8]) <;> rfl) _ _ _ hw (lv_sub hl [1, 2, 0, 3] rfl)
        · refine lv_iconst (v := nI 0) hC.1 hC.2.1 dX7_keep_174 (by decide) ?_
          refine lv_goto (tgt := 184) hC.1 hC.2.1 dX7_keep_175 (by decide) ?_
          exact J184_4 _ (by (rw [if_neg (fun q => q c8)]) <;> rfl) _ _ _ hw (lv_sub hl [1, 2, 0, 3] rfl)
      · refine lv_aload_n hC.1 hC.2.1 dX7_keep_64 rfl (lv_at hl 1 rfl) ?_
        refine lv_iload_n hC.1 hC.2.1 dX7_keep_65 rfl (lv_at hl 2 rfl) ?_
        refine lv_iload_n hC.1 hC.2.1 dX7_keep_66 rfl (lv_at hl 3 rfl) ?_
        refine q_addN hC dX7_keep_67 ?_
        refine lv_aload_n hC.1 hC.2.1 dX7_keep_68 rfl (lv_at hl 0 rfl) ?_
        refine gf_X7_16 hC hw dX7_keep_69 ?_
        refine gf_X7_49 hC hw dX7_keep_72 ?_
        refine lv_iload_n hC.1 hC.2.1 dX7_keep_75 rfl (lv_at hl 3 rfl) ?_
        refine al_X4 (v := σ 4 h) hC hw (by omega) rfl dX7_keep_76 ?_
        have J85_10 : ∀ (w9 : Int32), w9 = (if ¬ (σ 4 h = 0) then (1 : Int32) else 0) → ∀ (H : Heap) (locs : List Loc) (ls : Array Slot), Wst E (XW E a) (sr σ 53 (upc (σ 4) h (va_cpy (σ 15) (upd (upd (upd (σ 53) 0 (σ 0 0)) 1 (σ 0 1)) 2 (σ 0 2)) 0 3 3))) A s.heap H locs → lv_has ls 4 [(0, .ref (a 68)), (1, .ref (a 53)), (2, .int (nI (3 + 3))), (3, .int (nI h))] → W p l e ({ frames := 1, cells := 0, slots := 0, locals := 24 }) s m args below meth c H locs 0 0 Q (F0 m 85 ls [.int (w9), .int (nI ((3 + 3) + h)), .ref (a 53)]) := by
          intro w9 e10 H locs ls hw hl
          subst e10
          refine q_ast (Wf := XW E a) 63 rfl (by decide) (XW_s53 _) hC hw (by omega) dX7_keep_85 (fun H locs hw => ?_)
          have hw : Wst E (XW E a) (sr (sr σ 53 (upc (σ 4) h (va_cpy (σ 15) (upd (upd (upd (σ 53) 0 (σ 0 0)) 1 (σ 0 1)) 2 (σ 0 2)) 0 3 3))) 53 (upd (upc (σ 4) h (va_cpy (σ 15) (upd (upd (upd (σ 53) 0 (σ 0 0)) 1 (σ 0 1)) 2 (σ 0 2)) 0 3 3)) ((3 + 3) + h) (if ¬ (σ 4 h = 0) then (1 : Int32) else 0))) A s.heap H locs := hw
          have hst_ : sr (sr σ 53 (upc (σ 4) h (va_cpy (σ 15) (upd (upd (upd (σ 53) 0 (σ 0 0)) 1 (σ 0 1)) 2 (σ 0 2)) 0 3 3))) 53 (upd (upc (σ 4) h (va_cpy (σ 15) (upd (upd (upd (σ 53) 0 (σ 0 0)) 1 (σ 0 1)) 2 (σ 0 2)) 0 3 3)) ((3 + 3) + h) (if ¬ (σ 4 h = 0) then (1 : Int32) else 0)) = sr σ 53 (upd (upc (σ 4) h (va_cpy (σ 15) (upd (upd (upd (σ 53) 0 (σ 0 0)) 1 (σ 0 1)) 2 (σ 0 2)) 0 3 3)) ((3 + 3) + h) (if ¬ (σ 4 h = 0) then (1 : Int32) else 0)) := by
            funext j_ x_
            by_cases e0 : j_ = 0
            · subst e0
              rfl
            · by_cases e53 : j_ = 53
              · subst e53; rfl
              · simp only [sr, e0, e53, if_false]
          rw [hst_] at hw
          refine lv_iinc (v := nI (h + 1)) (lv' := [(3, .int (nI (h + 1))), (0, .ref (a 68)), (1, .ref (a 53)), (2, .int (nI (3 + 3)))]) hC.1 hC.2.1 dX7_keep_86 hl (k := 3) rfl (nI_add _ _) (by decide) rfl (fun ls hl => ?_)
          refine lv_goto (tgt := 58) hC.1 hC.2.1 dX7_keep_89 (by decide) ?_
          rw [upc_s] at hw
          exact ih58 (h + 1) (by omega) (by omega) _ _ _ hw (lv_sub hl [1, 2, 3, 0] rfl)
        refine q_ifeq hC 84 cI dX7_keep_77 (by decide) (fun (c11 : σ 4 h = 0) => ?_) (fun (c11 : ¬ (σ 4 h = 0)) => ?_)
        · refine lv_iconst (v := nI 0) hC.1 hC.2.1 dX7_keep_84 (by decide) ?_
          exact J85_10 _ (if_neg (fun q => q c11)).symm _ _ _ hw (lv_sub hl [0, 1, 2, 3] rfl)
        · refine lv_iconst (v := nI 1) hC.1 hC.2.1 dX7_keep_80 (by decide) ?_
          refine lv_goto (tgt := 85) hC.1 hC.2.1 dX7_keep_81 (by decide) ?_
          exact J85_10 _ (if_pos c11).symm _ _ _ hw (lv_sub hl [0, 1, 2, 3] rfl)
  rw [← upc_0 (σ 4) (va_cpy (σ 15) (upd (upd (upd (σ 53) 0 (σ 0 0)) 1 (σ 0 1)) 2 (σ 0 2)) 0 3 3)] at hw
  exact L58_0 _ 0 (by omega) (Nat.lt_succ_self _) _ _ _ hw (lv_sub hl [3, 2, 1, 0] rfl)
set_option maxHeartbeats 4000000 in
set_option maxRecDepth 100000 in
theorem tX7_keep_k24 (l : Launch) (E : EV) (a : Nat → Nat) (σ : St) (kp : Nat) (hnx : σ 0 3 = nI 24) (hkp : σ 0 4 = nI kp) (hk30 : kp ≤ 30) : MV l E (XW E a) yX7_keep (Cond.code yX7_keep cX7_keep 4 none) ({ frames := 1, cells := 0, slots := 0, locals := 24 }) [.ref (a 68)] σ (fun u_ => u_ = sr (sr σ 54 (kpr σ (σ 54))) 0 (upd (upd (σ 0) 3 (nI (if 24 ≠ 29 then 24 + 1 else 0))) 4 (nI (if kp ≠ 30 then kp + 1 else kp)))) := by
  refine MV.mk (by decide +kernel) (Nat.le_of_ble_eq_true rfl) ?_
  intro p e s m args below meth c ls A Q hret hC hw hl
  have hC : Cxt E p s m args meth c cX7_keep 4 none RX7 A := hC
  have hl : lv_has ls 4 [(0, .ref (a 68))] := hl
  refine lv_aload_n hC.1 hC.2.1 dX7_keep_0 rfl (lv_at hl 0 rfl) ?_
  refine gf_X7_13 hC hw dX7_keep_1 ?_
  refine lv_aload_n hC.1 hC.2.1 dX7_keep_4 rfl (lv_at hl 0 rfl) ?_
  refine gf_X7_28 (v := nI 24) hC hw hnx dX7_keep_5 ?_
  refine q_aald hC hw (i := 24) (by decide) dX7_keep_8 ?_
  refine lv_astore_n (lv' := [(1, .ref (a 54)), (0, .ref (a 68))]) hC.1 hC.2.1 dX7_keep_9 rfl hl (by decide) rfl (fun ls hl => ?_)
  refine lv_aload_n hC.1 hC.2.1 dX7_keep_10 rfl (lv_at hl 0 rfl) ?_
  refine lv_iconst (v := nI 0) hC.1 hC.2.1 dX7_keep_11 (by decide) ?_
  refine lv_aload_n hC.1 hC.2.1 dX7_keep_12 rfl (lv_at hl 1 rfl) ?_
  refine gf_X7_16 hC hw dX7_keep_13 ?_
  refine gf_X7_32 (v := σ 0 0) hC hw rfl dX7_keep_16 ?_
  refine q_ast (Wf := XW E a) 64 rfl (by decide) (XW_s54 _) hC hw (by omega) dX7_keep_19 (fun H locs hw => ?_)
  have hw : Wst E (XW E a) (sr σ 54 (upd (σ 54) 0 (σ 0 0))) A s.heap H locs := hw
  refine lv_aload_n hC.1 hC.2.1 dX7_keep_20 rfl (lv_at hl 0 rfl) ?_
  refine lv_iconst (v := nI 1) hC.1 hC.2.1 dX7_keep_21 (by decide) ?_
  refine lv_aload_n hC.1 hC.2.1 dX7_keep_22 rfl (lv_at hl 1 rfl) ?_
  refine gf_X7_20 hC hw dX7_keep_23 ?_
  refine gf_X7_37 (v := σ 0 1) hC hw rfl dX7_keep_26 ?_
  refine q_ast (Wf := XW E a) 64 rfl (by decide) (XW_s54 _) hC hw (by omega) dX7_keep_29 (fun H locs hw => ?_)
  have hw : Wst E (XW E a) (sr (sr σ 54 (upd (σ 54) 0 (σ 0 0))) 54 (upd (upd (σ 54) 0 (σ 0 0)) 1 (σ 0 1))) A s.heap H locs := hw
  have hst_ : sr (sr σ 54 (upd (σ 54) 0 (σ 0 0))) 54 (upd (upd (σ 54) 0 (σ 0 0)) 1 (σ 0 1)) = sr σ 54 (upd (upd (σ 54) 0 (σ 0 0)) 1 (σ 0 1)) := by
    funext j_ x_
    by_cases e0 : j_ = 0
    · subst e0
      rfl
    · by_cases e54 : j_ = 54
      · subst e54; rfl
      · simp only [sr, e0, e54, if_false]
  rw [hst_] at hw
  refine lv_aload_n hC.1 hC.2.1 dX7_keep_30 rfl (lv_at hl 0 rfl) ?_
  refine lv_iconst (v := nI 2) hC.1 hC.2.1 dX7_keep_31 (by decide) ?_
  refine lv_aload_n hC.1 hC.2.1 dX7_keep_32 rfl (lv_at hl 1 rfl) ?_
  refine gf_X7_20 hC hw dX7_keep_33 ?_
  refine gf_X7_40 (v := σ 0 2) hC hw rfl dX7_keep_36 ?_
  refine q_ast (Wf := XW E a) 64 rfl (by decide) (XW_s54 _) hC hw (by omega) dX7_keep_39 (fun H locs hw => ?_)
  have hw : Wst E (XW E a) (sr (sr σ 54 (upd (upd (σ 54) 0 (σ 0 0)) 1 (σ 0 1))) 54 (upd (upd (upd (σ 54) 0 (σ 0 0)) 1 (σ 0 1)) 2 (σ 0 2))) A s.heap H locs := hw
  have hst_ : sr (sr σ 54 (upd (upd (σ 54) 0 (σ 0 0)) 1 (σ 0 1))) 54 (upd (upd (upd (σ 54) 0 (σ 0 0)) 1 (σ 0 1)) 2 (σ 0 2)) = sr σ 54 (upd (upd (upd (σ 54) 0 (σ 0 0)) 1 (σ 0 1)) 2 (σ 0 2)) := by
    funext j_ x_
    by_cases e0 : j_ = 0
    · subst e0
      rfl
    · by_cases e54 : j_ = 54
      · subst e54; rfl
      · simp only [sr, e0, e54, if_false]
  rw [hst_] at hw
  refine lv_iconst (v := nI 3) hC.1 hC.2.1 dX7_keep_40 (by decide) ?_
  refine lv_istore_n (lv' := [(2, .int (nI 3)), (1, .ref (a 54)), (0, .ref (a 68))]) hC.1 hC.2.1 dX7_keep_41 rfl hl (by decide) rfl (fun ls hl => ?_)
  refine lv_aload_n hC.1 hC.2.1 dX7_keep_42 rfl (lv_at hl 2 rfl) ?_
  refine gf_X7_24 hC hw dX7_keep_43 ?_
  refine lv_iconst (v := nI 0) hC.1 hC.2.1 dX7_keep_46 (by decide) ?_
  refine lv_aload_n hC.1 hC.2.1 dX7_keep_47 rfl (lv_at hl 1 rfl) ?_
  refine lv_iload_n hC.1 hC.2.1 dX7_keep_48 rfl (lv_at hl 0 rfl) ?_
  refine lv_iconst (v := nI 3) hC.1 hC.2.1 dX7_keep_49 (by decide) ?_
  refine q_cpy (sp := 0) (dp := 3) (n := 3) 25 rfl 64 rfl (XW_s54 _) hC hw hl (by omega) (by omega) (by decide) (by decide) ⟨Nat.le_of_ble_eq_true rfl, Nat.le_of_ble_eq_true rfl⟩ wk2_182 dX7_keep_50 (fun H locs hw => ?_)
  have hw : Wst E (XW E a) (sr (sr σ 54 (upd (upd (upd (σ 54) 0 (σ 0 0)) 1 (σ 0 1)) 2 (σ 0 2))) 54 (va_cpy (σ 15) (upd (upd (upd (σ 54) 0 (σ 0 0)) 1 (σ 0 1)) 2 (σ 0 2)) 0 3 3)) A s.heap H locs := hw
  have hst_ : sr (sr σ 54 (upd (upd (upd (σ 54) 0 (σ 0 0)) 1 (σ 0 1)) 2 (σ 0 2))) 54 (va_cpy (σ 15) (upd (upd (upd (σ 54) 0 (σ 0 0)) 1 (σ 0 1)) 2 (σ 0 2)) 0 3 3) = sr σ 54 (va_cpy (σ 15) (upd (upd (upd (σ 54) 0 (σ 0 0)) 1 (σ 0 1)) 2 (σ 0 2)) 0 3 3) := by
    funext j_ x_
    by_cases e0 : j_ = 0
    · subst e0
      rfl
    · by_cases e54 : j_ = 54
      · subst e54; rfl
      · simp only [sr, e0, e54, if_false]
  rw [hst_] at hw
  refine lv_iinc (v := nI (3 + 3)) (lv' := [(2, .int (nI (3 + 3))), (1, .ref (a 54)), (0, .ref (a 68))]) hC.1 hC.2.1 dX7_keep_53 hl (k := 0) rfl (nI_add _ _) (by decide) rfl (fun ls hl => ?_)
  refine lv_iconst (v := nI 0) hC.1 hC.2.1 dX7_keep_56 (by decide) ?_
  refine lv_istore_n (lv' := [(3, .int (nI 0)), (2, .int (nI (3 + 3))), (1, .ref (a 54)), (0, .ref (a 68))]) hC.1 hC.2.1 dX7_keep_57 rfl hl (by decide) rfl (fun ls hl => ?_)
  have L58_0 : ∀ (n : Nat), ∀ (h : Nat), (h ≤ 10) → (10 - h) < n → ∀ (H : Heap) (locs : List Loc) (ls : Array Slot), Wst E (XW E a) (sr σ 54 (upc (σ 4) h (va_cpy (σ 15) (upd (upd (upd (σ 54) 0 (σ 0 0)) 1 (σ 0 1)) 2 (σ 0 2)) 0 3 3))) A s.heap H locs → lv_has ls 4 [(0, .ref (a 68)), (1, .ref (a 54)), (2, .int (nI (3 + 3))), (3, .int (nI h))] → W p l e ({ frames := 1, cells := 0, slots := 0, locals := 24 }) s m args below meth c H locs 0 0 Q (F0 m 58 ls []) := by
    intro n
    induction n with
    | zero => intro h hh hn; exact absurd hn (Nat.not_lt_zero _)
    | succ n ih58 =>
      intro h hh hn58 H locs ls hw hl
      refine lv_iload_n hC.1 hC.2.1 dX7_keep_58 rfl (lv_at hl 3 rfl) ?_
      refine lv_bipush (v := nI 10) hC.1 hC.2.1 dX7_keep_59 (by decide) ?_
      refine q_cmpge hC 92 (cNle (by omega) (by omega)) dX7_keep_61 (by decide) (fun (c2 : 10 ≤ h) => ?_) (fun (c2 : h < 10) => ?_)
      · have hh9 : h = 10 := by omega
        rw [hh9] at hw
        refine lv_iinc (v := nI (3 + 3 + 10)) (lv' := [(2, .int (nI (3 + 3 + 10))), (0, .ref (a 68)), (1, .ref (a 54)), (3, .int (nI h))]) hC.1 hC.2.1 dX7_keep_92 hl (k := 2) rfl (nI_add _ _) (by decide) rfl (fun ls hl => ?_)
        refine lv_aload_n hC.1 hC.2.1 dX7_keep_95 rfl (lv_at hl 1 rfl) ?_
        refine gf_X7_20 hC hw dX7_keep_96 ?_
        refine gf_X7_53 hC hw dX7_keep_99 ?_
        refine lv_iconst (v := nI 0) hC.1 hC.2.1 dX7_keep_102 (by decide) ?_
        refine lv_aload_n hC.1 hC.2.1 dX7_keep_103 rfl (lv_at hl 2 rfl) ?_
        refine lv_iload_n hC.1 hC.2.1 dX7_keep_104 rfl (lv_at hl 0 rfl) ?_
        refine lv_bipush (v := nI 24) hC.1 hC.2.1 dX7_keep_105 (by decide) ?_
        refine q_cpy (sp := 0) (dp := (3 + 3 + 10)) (n := 24) 21 rfl 64 rfl (XW_s54 _) hC hw hl (by omega) (by omega) (by decide) (by decide) ⟨Nat.le_of_ble_eq_true rfl, Nat.le_of_ble_eq_true rfl⟩ wk2_182 dX7_keep_107 (fun H locs hw => ?_)
        have hw : Wst E (XW E a) (sr (sr σ 54 (upc (σ 4) 10 (va_cpy (σ 15) (upd (upd (upd (σ 54) 0 (σ 0 0)) 1 (σ 0 1)) 2 (σ 0 2)) 0 3 3))) 54 (va_cpy (σ 11) (upc (σ 4) 10 (va_cpy (σ 15) (upd (upd (upd (σ 54) 0 (σ 0 0)) 1 (σ 0 1)) 2 (σ 0 2)) 0 3 3)) 0 (3 + 3 + 10) 24)) A s.heap H locs := hw
        have hst_ : sr (sr σ 54 (upc (σ 4) 10 (va_cpy (σ 15) (upd (upd (upd (σ 54) 0 (σ 0 0)) 1 (σ 0 1)) 2 (σ 0 2)) 0 3 3))) 54 (va_cpy (σ 11) (upc (σ 4) 10 (va_cpy (σ 15) (upd (upd (upd (σ 54) 0 (σ 0 0)) 1 (σ 0 1)) 2 (σ 0 2)) 0 3 3)) 0 (3 + 3 + 10) 24) = sr σ 54 (va_cpy (σ 11) (upc (σ 4) 10 (va_cpy (σ 15) (upd (upd (upd (σ 54) 0 (σ 0 0)) 1 (σ 0 1)) 2 (σ 0 2)) 0 3 3)) 0 (3 + 3 + 10) 24) := by
          funext j_ x_
          by_cases e0 : j_ = 0
          · subst e0
            rfl
          · by_cases e54 : j_ = 54
            · subst e54; rfl
            · simp only [sr, e0, e54, if_false]
        rw [hst_] at hw
        refine lv_aload_n hC.1 hC.2.1 dX7_keep_110 rfl (lv_at hl 1 rfl) ?_
        refine gf_X7_20 hC hw dX7_keep_111 ?_
        refine gf_X7_56 hC hw dX7_keep_114 ?_
        refine lv_iconst (v := nI 0) hC.1 hC.2.1 dX7_keep_117 (by decide) ?_
        refine lv_aload_n hC.1 hC.2.1 dX7_keep_118 rfl (lv_at hl 2 rfl) ?_
        refine lv_iload_n hC.1 hC.2.1 dX7_keep_119 rfl (lv_at hl 0 rfl) ?_
        refine lv_bipush (v := nI 24) hC.1 hC.2.1 dX7_keep_120 (by decide) ?_
        refine q_addN hC dX7_keep_122 ?_
        refine lv_bipush (v := nI 24) hC.1 hC.2.1 dX7_keep_123 (by decide) ?_
        refine q_cpy (sp := 0) (dp := ((3 + 3 + 10) + 24)) (n := 24) 22 rfl 64 rfl (XW_s54 _) hC hw hl (by omega) (by omega) (by decide) (by decide) ⟨Nat.le_of_ble_eq_true rfl, Nat.le_of_ble_eq_true rfl⟩ wk2_182 dX7_keep_125 (fun H locs hw => ?_)
        have hw : Wst E (XW E a) (sr (sr σ 54 (va_cpy (σ 11) (upc (σ 4) 10 (va_cpy (σ 15) (upd (upd (upd (σ 54) 0 (σ 0 0)) 1 (σ 0 1)) 2 (σ 0 2)) 0 3 3)) 0 (3 + 3 + 10) 24)) 54 (va_cpy (σ 12) (va_cpy (σ 11) (upc (σ 4) 10 (va_cpy (σ 15) (upd (upd (upd (σ 54) 0 (σ 0 0)) 1 (σ 0 1)) 2 (σ 0 2)) 0 3 3)) 0 (3 + 3 + 10) 24) 0 ((3 + 3 + 10) + 24) 24)) A s.heap H locs := hw
        have hst_ : sr (sr σ 54 (va_cpy (σ 11) (upc (σ 4) 10 (va_cpy (σ 15) (upd (upd (upd (σ 54) 0 (σ 0 0)) 1 (σ 0 1)) 2 (σ 0 2)) 0 3 3)) 0 (3 + 3 + 10) 24)) 54 (va_cpy (σ 12) (va_cpy (σ 11) (upc (σ 4) 10 (va_cpy (σ 15) (upd (upd (upd (σ 54) 0 (σ 0 0)) 1 (σ 0 1)) 2 (σ 0 2)) 0 3 3)) 0 (3 + 3 + 10) 24) 0 ((3 + 3 + 10) + 24) 24) = sr σ 54 (va_cpy (σ 12) (va_cpy (σ 11) (upc (σ 4) 10 (va_cpy (σ 15) (upd (upd (upd (σ 54) 0 (σ 0 0)) 1 (σ 0 1)) 2 (σ 0 2)) 0 3 3)) 0 (3 + 3 + 10) 24) 0 ((3 + 3 + 10) + 24) 24) := by
          funext j_ x_
          by_cases e0 : j_ = 0
          · subst e0
            rfl
          · by_cases e54 : j_ = 54
            · subst e54; rfl
            · simp only [sr, e0, e54, if_false]
        rw [hst_] at hw
        refine lv_aload_n hC.1 hC.2.1 dX7_keep_128 rfl (lv_at hl 1 rfl) ?_
        refine gf_X7_20 hC hw dX7_keep_129 ?_
        refine gf_X7_59 hC hw dX7_keep_132 ?_
        refine lv_iconst (v := nI 0) hC.1 hC.2.1 dX7_keep_135 (by decide) ?_
        refine lv_aload_n hC.1 hC.2.1 dX7_keep_136 rfl (lv_at hl 2 rfl) ?_
        refine lv_iload_n hC.1 hC.2.1 dX7_keep_137 rfl (lv_at hl 0 rfl) ?_
        refine lv_bipush (v := nI 48) hC.1 hC.2.1 dX7_keep_138 (by decide) ?_
        refine q_addN hC dX7_keep_140 ?_
        refine lv_bipush (v := nI 24) hC.1 hC.2.1 dX7_keep_141 (by decide) ?_
        refine q_cpy (sp := 0) (dp := ((3 + 3 + 10) + 48)) (n := 24) 23 rfl 64 rfl (XW_s54 _) hC hw hl (by omega) (by omega) (by decide) (by decide) ⟨Nat.le_of_ble_eq_true rfl, Nat.le_of_ble_eq_true rfl⟩ wk2_182 dX7_keep_143 (fun H locs hw => ?_)
        have hw : Wst E (XW E a) (sr (sr σ 54 (va_cpy (σ 12) (va_cpy (σ 11) (upc (σ 4) 10 (va_cpy (σ 15) (upd (upd (upd (σ 54) 0 (σ 0 0)) 1 (σ 0 1)) 2 (σ 0 2)) 0 3 3)) 0 (3 + 3 + 10) 24) 0 ((3 + 3 + 10) + 24) 24)) 54 (va_cpy (σ 13) (va_cpy (σ 12) (va_cpy (σ 11) (upc (σ 4) 10 (va_cpy (σ 15) (upd (upd (upd (σ 54) 0 (σ 0 0)) 1 (σ 0 1)) 2 (σ 0 2)) 0 3 3)) 0 (3 + 3 + 10) 24) 0 ((3 + 3 + 10) + 24) 24) 0 ((3 + 3 + 10) + 48) 24)) A s.heap H locs := hw
        have hst_ : sr (sr σ 54 (va_cpy (σ 12) (va_cpy (σ 11) (upc (σ 4) 10 (va_cpy (σ 15) (upd (upd (upd (σ 54) 0 (σ 0 0)) 1 (σ 0 1)) 2 (σ 0 2)) 0 3 3)) 0 (3 + 3 + 10) 24) 0 ((3 + 3 + 10) + 24) 24)) 54 (va_cpy (σ 13) (va_cpy (σ 12) (va_cpy (σ 11) (upc (σ 4) 10 (va_cpy (σ 15) (upd (upd (upd (σ 54) 0 (σ 0 0)) 1 (σ 0 1)) 2 (σ 0 2)) 0 3 3)) 0 (3 + 3 + 10) 24) 0 ((3 + 3 + 10) + 24) 24) 0 ((3 + 3 + 10) + 48) 24) = sr σ 54 (va_cpy (σ 13) (va_cpy (σ 12) (va_cpy (σ 11) (upc (σ 4) 10 (va_cpy (σ 15) (upd (upd (upd (σ 54) 0 (σ 0 0)) 1 (σ 0 1)) 2 (σ 0 2)) 0 3 3)) 0 (3 + 3 + 10) 24) 0 ((3 + 3 + 10) + 24) 24) 0 ((3 + 3 + 10) + 48) 24) := by
          funext j_ x_
          by_cases e0 : j_ = 0
          · subst e0
            rfl
          · by_cases e54 : j_ = 54
            · subst e54; rfl
            · simp only [sr, e0, e54, if_false]
        rw [hst_] at hw
        refine lv_aload_n hC.1 hC.2.1 dX7_keep_146 rfl (lv_at hl 1 rfl) ?_
        refine gf_X7_20 hC hw dX7_keep_147 ?_
        refine gf_X7_62 hC hw dX7_keep_150 ?_
        refine lv_iconst (v := nI 0) hC.1 hC.2.1 dX7_keep_153 (by decide) ?_
        refine lv_aload_n hC.1 hC.2.1 dX7_keep_154 rfl (lv_at hl 2 rfl) ?_
        refine lv_iload_n hC.1 hC.2.1 dX7_keep_155 rfl (lv_at hl 0 rfl) ?_
        refine lv_bipush (v := nI 72) hC.1 hC.2.1 dX7_keep_156 (by decide) ?_
        refine q_addN hC dX7_keep_158 ?_
        refine lv_bipush (v := nI 24) hC.1 hC.2.1 dX7_keep_159 (by decide) ?_
        refine q_cpy (sp := 0) (dp := ((3 + 3 + 10) + 72)) (n := 24) 24 rfl 64 rfl (XW_s54 _) hC hw hl (by omega) (by omega) (by decide) (by decide) ⟨Nat.le_of_ble_eq_true rfl, Nat.le_of_ble_eq_true rfl⟩ wk2_182 dX7_keep_161 (fun H locs hw => ?_)
        have hw : Wst E (XW E a) (sr (sr σ 54 (va_cpy (σ 13) (va_cpy (σ 12) (va_cpy (σ 11) (upc (σ 4) 10 (va_cpy (σ 15) (upd (upd (upd (σ 54) 0 (σ 0 0)) 1 (σ 0 1)) 2 (σ 0 2)) 0 3 3)) 0 (3 + 3 + 10) 24) 0 ((3 + 3 + 10) + 24) 24) 0 ((3 + 3 + 10) + 48) 24)) 54 (va_cpy (σ 14) (va_cpy (σ 13) (va_cpy (σ 12) (va_cpy (σ 11) (upc (σ 4) 10 (va_cpy (σ 15) (upd (upd (upd (σ 54) 0 (σ 0 0)) 1 (σ 0 1)) 2 (σ 0 2)) 0 3 3)) 0 (3 + 3 + 10) 24) 0 ((3 + 3 + 10) + 24) 24) 0 ((3 + 3 + 10) + 48) 24) 0 ((3 + 3 + 10) + 72) 24)) A s.heap H locs := hw
        have hst_ : sr (sr σ 54 (va_cpy (σ 13) (va_cpy (σ 12) (va_cpy (σ 11) (upc (σ 4) 10 (va_cpy (σ 15) (upd (upd (upd (σ 54) 0 (σ 0 0)) 1 (σ 0 1)) 2 (σ 0 2)) 0 3 3)) 0 (3 + 3 + 10) 24) 0 ((3 + 3 + 10) + 24) 24) 0 ((3 + 3 + 10) + 48) 24)) 54 (va_cpy (σ 14) (va_cpy (σ 13) (va_cpy (σ 12) (va_cpy (σ 11) (upc (σ 4) 10 (va_cpy (σ 15) (upd (upd (upd (σ 54) 0 (σ 0 0)) 1 (σ 0 1)) 2 (σ 0 2)) 0 3 3)) 0 (3 + 3 + 10) 24) 0 ((3 + 3 + 10) + 24) 24) 0 ((3 + 3 + 10) + 48) 24) 0 ((3 + 3 + 10) + 72) 24) = sr σ 54 (va_cpy (σ 14) (va_cpy (σ 13) (va_cpy (σ 12) (va_cpy (σ 11) (upc (σ 4) 10 (va_cpy (σ 15) (upd (upd (upd (σ 54) 0 (σ 0 0)) 1 (σ 0 1)) 2 (σ 0 2)) 0 3 3)) 0 (3 + 3 + 10) 24) 0 ((3 + 3 + 10) + 24) 24) 0 ((3 + 3 + 10) + 48) 24) 0 ((3 + 3 + 10) + 72) 24) := by
          funext j_ x_
          by_cases e0 : j_ = 0
          · subst e0
            rfl
          · by_cases e54 : j_ = 54
            · subst e54; rfl
            · simp only [sr, e0, e54, if_false]
        rw [hst_] at hw
        refine lv_aload_n hC.1 hC.2.1 dX7_keep_164 rfl (lv_at hl 1 rfl) ?_
        refine lv_aload_n hC.1 hC.2.1 dX7_keep_165 rfl (lv_at hl 1 rfl) ?_
        refine gf_X7_28 (v := nI 24) hC hw hnx dX7_keep_166 ?_
        refine lv_bipush (v := nI 29) hC.1 hC.2.1 dX7_keep_169 (by decide) ?_
        have J184_4 : ∀ (w3 : Nat), w3 = (if 24 ≠ 29 then (24 + 1) else 0) → ∀ (H : Heap) (locs : List Loc) (ls : Array Slot), Wst E (XW E a) (sr σ 54 (va_cpy (σ 14) (va_cpy (σ 13) (va_cpy (σ 12) (va_cpy (σ 11) (upc (σ 4) 10 (va_cpy (σ 15) (upd (upd (upd (σ 54) 0 (σ 0 0)) 1 (σ 0 1)) 2 (σ 0 2)) 0 3 3)) 0 (3 + 3 + 10) 24) 0 ((3 + 3 + 10) + 24) 24) 0 ((3 + 3 + 10) + 48) 24) 0 ((3 + 3 + 10) + 72) 24)) A s.heap H locs → lv_has ls 4 [(0, .ref (a 68)), (1, .ref (a 54)), (2, .int (nI (3 + 3 + 10))), (3, .int (nI h))] → W p l e ({ frames := 1, cells := 0, slots := 0, locals := 24 }) s m args below meth c H locs 0 0 Q (F0 m 184 ls [.int (nI w3), .ref (a 68)]) := by
          intro w3 e4 H locs ls hw hl
          subst e4
          refine pf_X7_28 hC hw dX7_keep_184 (fun H locs hw => ?_)
          have hw : Wst E (XW E a) (sr (sr σ 54 (va_cpy (σ 14) (va_cpy (σ 13) (va_cpy (σ 12) (va_cpy (σ 11) (upc (σ 4) 10 (va_cpy (σ 15) (upd (upd (upd (σ 54) 0 (σ 0 0)) 1 (σ 0 1)) 2 (σ 0 2)) 0 3 3)) 0 (3 + 3 + 10) 24) 0 ((3 + 3 + 10) + 24) 24) 0 ((3 + 3 + 10) + 48) 24) 0 ((3 + 3 + 10) + 72) 24)) 0 (upd (σ 0) 3 (nI (if 24 ≠ 29 then (24 + 1) else 0)))) A s.heap H locs := hw
          refine lv_aload_n hC.1 hC.2.1 dX7_keep_187 rfl (lv_at hl 0 rfl) ?_
          refine lv_aload_n hC.1 hC.2.1 dX7_keep_188 rfl (lv_at hl 0 rfl) ?_
          refine gf_X7_65 (v := nI kp) hC hw hkp dX7_keep_189 ?_
          refine lv_bipush (v := nI 30) hC.1 hC.2.1 dX7_keep_192 (by decide) ?_
          have J210_6 : ∀ (w5 : Nat), w5 = (if kp ≠ 30 then (kp + 1) else kp) → ∀ (H : Heap) (locs : List Loc) (ls : Array Slot), Wst E (XW E a) (sr (sr σ 54 (va_cpy (σ 14) (va_cpy (σ 13) (va_cpy (σ 12) (va_cpy (σ 11) (upc (σ 4) 10 (va_cpy (σ 15) (upd (upd (upd (σ 54) 0 (σ 0 0)) 1 (σ 0 1)) 2 (σ 0 2)) 0 3 3)) 0 (3 + 3 + 10) 24) 0 ((3 + 3 + 10) + 24) 24) 0 ((3 + 3 + 10) + 48) 24) 0 ((3 + 3 + 10) + 72) 24)) 0 (upd (σ 0) 3 (nI (if 24 ≠ 29 then (24 + 1) else 0)))) A s.heap H locs → lv_has ls 4 [(0, .ref (a 68)), (1, .ref (a 54)), (2, .int (nI (3 + 3 + 10))), (3, .int (nI h))] → W p l e ({ frames := 1, cells := 0, slots := 0, locals := 24 }) s m args below meth c H locs 0 0 Q (F0 m 210 ls [.int (nI w5), .ref (a 68)]) := by
            intro w5 e6 H locs ls hw hl
            subst e6
            refine pf_X7_65 hC hw dX7_keep_210 (fun H locs hw => ?_)
            have hw : Wst E (XW E a) (sr (sr (sr σ 54 (va_cpy (σ 14) (va_cpy (σ 13) (va_cpy (σ 12) (va_cpy (σ 11) (upc (σ 4) 10 (va_cpy (σ 15) (upd (upd (upd (σ 54) 0 (σ 0 0)) 1 (σ 0 1)) 2 (σ 0 2)) 0 3 3)) 0 (3 + 3 + 10) 24) 0 ((3 + 3 + 10) + 24) 24) 0 ((3 + 3 + 10) + 48) 24) 0 ((3 + 3 + 10) + 72) 24)) 0 (upd (σ 0) 3 (nI (if 24 ≠ 29 then (24 + 1) else 0)))) 0 (upd (upd (σ 0) 3 (nI (if 24 ≠ 29 then (24 + 1) else 0))) 4 (nI (if kp ≠ 30 then (kp + 1) else kp)))) A s.heap H locs := hw
            have hst_ : sr (sr (sr σ 54 (va_cpy (σ 14) (va_cpy (σ 13) (va_cpy (σ 12) (va_cpy (σ 11) (upc (σ 4) 10 (va_cpy (σ 15) (upd (upd (upd (σ 54) 0 (σ 0 0)) 1 (σ 0 1)) 2 (σ 0 2)) 0 3 3)) 0 (3 + 3 + 10) 24) 0 ((3 + 3 + 10) + 24) 24) 0 ((3 + 3 + 10) + 48) 24) 0 ((3 + 3 + 10) + 72) 24)) 0 (upd (σ 0) 3 (nI (if 24 ≠ 29 then (24 + 1) else 0)))) 0 (upd (upd (σ 0) 3 (nI (if 24 ≠ 29 then (24 + 1) else 0))) 4 (nI (if kp ≠ 30 then (kp + 1) else kp))) = sr (sr σ 54 (va_cpy (σ 14) (va_cpy (σ 13) (va_cpy (σ 12) (va_cpy (σ 11) (upc (σ 4) 10 (va_cpy (σ 15) (upd (upd (upd (σ 54) 0 (σ 0 0)) 1 (σ 0 1)) 2 (σ 0 2)) 0 3 3)) 0 (3 + 3 + 10) 24) 0 ((3 + 3 + 10) + 24) 24) 0 ((3 + 3 + 10) + 48) 24) 0 ((3 + 3 + 10) + 72) 24)) 0 (upd (upd (σ 0) 3 (nI (if 24 ≠ 29 then (24 + 1) else 0))) 4 (nI (if kp ≠ 30 then (kp + 1) else kp))) := by
              funext j_ x_
              by_cases e0 : j_ = 0
              · subst e0
                by_cases y3 : x_ = 3
                · subst y3; rfl
                · by_cases y4 : x_ = 4
                  · subst y4; rfl
                  · simp [sr, upd, y3, y4]
              · by_cases e54 : j_ = 54
                · subst e54; rfl
                · simp only [sr, e0, e54, if_false]
            rw [hst_] at hw
            refine hret _ _ _ _ _ hw ?_ dX7_keep_213
            exact rfl
          refine q_cmpne hC 204 (cNeq (by omega) (by omega)) dX7_keep_194 (by decide) (fun (c7 : kp ≠ 30) => ?_) (fun (c7 : kp = 30) => ?_)
          · refine lv_aload_n hC.1 hC.2.1 dX7_keep_204 rfl (lv_at hl 0 rfl) ?_
            refine gf_X7_65 (v := nI kp) hC hw hkp dX7_keep_205 ?_
            refine lv_iconst (v := nI 1) hC.1 hC.2.1 dX7_keep_208 (by decide) ?_
            refine q_addN hC dX7_keep_209 ?_
            exact J210_6 _ (by (rw [if_pos c7]) <;> rfl) _ _ _ hw (lv_sub hl [0, 1, 2, 3] rfl)
          · refine lv_aload_n hC.1 hC.2.1 dX7_keep_197 rfl (lv_at hl 0 rfl) ?_
            refine gf_X7_65 (v := nI kp) hC hw hkp dX7_keep_198 ?_
            refine lv_goto (tgt := 210) hC.1 hC.2.1 dX7_keep_201 (by decide) ?_
            exact J210_6 _ (by (rw [if_neg (fun q => q c7)]) <;> rfl) _ _ _ hw (lv_sub hl [0, 1, 2, 3] rfl)
        refine q_cmpne hC 178 (cNeq (by omega) (by omega)) dX7_keep_171 (by decide) (fun (c8 : 24 ≠ 29) => ?_) (fun (c8 : 24 = 29) => ?_)
        · refine lv_aload_n hC.1 hC.2.1 dX7_keep_178 rfl (lv_at hl 1 rfl) ?_
          refine gf_X7_28 (v := nI 24) hC hw hnx dX7_keep_179 ?_
          refine lv_iconst (v := nI 1) hC.1 hC.2.1 dX7_keep_182 (by decide) ?_
          refine q_addN hC dX7_keep_183 ?_
          exact J184_4 _ (by (rw [if_pos c8]) <;> rfl) _ _ _ hw (lv_sub hl [1, 2, 0, 3] rfl)
        · refine lv_iconst (v := nI 0) hC.1 hC.2.1 dX7_keep_174 (by decide) ?_
          refine lv_goto (tgt := 184) hC.1 hC.2.1 dX7_keep_175 (by decide) ?_
          exact J184_4 _ (by (rw [if_neg (fun q => q c8)]) <;> rfl) _ _ _ hw (lv_sub hl [1, 2, 0, 3] rfl)
      · refine lv_aload_n hC.1 hC.2.1 dX7_keep_64 rfl (lv_at hl 1 rfl) ?_
        refine lv_iload_n hC.1 hC.2.1 dX7_keep_65 rfl (lv_at hl 2 rfl) ?_
        refine lv_iload_n hC.1 hC.2.1 dX7_keep_66 rfl (lv_at hl 3 rfl) ?_
        refine q_addN hC dX7_keep_67 ?_
        refine lv_aload_n hC.1 hC.2.1 dX7_keep_68 rfl (lv_at hl 0 rfl) ?_
        refine gf_X7_16 hC hw dX7_keep_69 ?_
        refine gf_X7_49 hC hw dX7_keep_72 ?_
        refine lv_iload_n hC.1 hC.2.1 dX7_keep_75 rfl (lv_at hl 3 rfl) ?_
        refine al_X4 (v := σ 4 h) hC hw (by omega) rfl dX7_keep_76 ?_
        have J85_10 : ∀ (w9 : Int32), w9 = (if ¬ (σ 4 h = 0) then (1 : Int32) else 0) → ∀ (H : Heap) (locs : List Loc) (ls : Array Slot), Wst E (XW E a) (sr σ 54 (upc (σ 4) h (va_cpy (σ 15) (upd (upd (upd (σ 54) 0 (σ 0 0)) 1 (σ 0 1)) 2 (σ 0 2)) 0 3 3))) A s.heap H locs → lv_has ls 4 [(0, .ref (a 68)), (1, .ref (a 54)), (2, .int (nI (3 + 3))), (3, .int (nI h))] → W p l e ({ frames := 1, cells := 0, slots := 0, locals := 24 }) s m args below meth c H locs 0 0 Q (F0 m 85 ls [.int (w9), .int (nI ((3 + 3) + h)), .ref (a 54)]) := by
          intro w9 e10 H locs ls hw hl
          subst e10
          refine q_ast (Wf := XW E a) 64 rfl (by decide) (XW_s54 _) hC hw (by omega) dX7_keep_85 (fun H locs hw => ?_)
          have hw : Wst E (XW E a) (sr (sr σ 54 (upc (σ 4) h (va_cpy (σ 15) (upd (upd (upd (σ 54) 0 (σ 0 0)) 1 (σ 0 1)) 2 (σ 0 2)) 0 3 3))) 54 (upd (upc (σ 4) h (va_cpy (σ 15) (upd (upd (upd (σ 54) 0 (σ 0 0)) 1 (σ 0 1)) 2 (σ 0 2)) 0 3 3)) ((3 + 3) + h) (if ¬ (σ 4 h = 0) then (1 : Int32) else 0))) A s.heap H locs := hw
          have hst_ : sr (sr σ 54 (upc (σ 4) h (va_cpy (σ 15) (upd (upd (upd (σ 54) 0 (σ 0 0)) 1 (σ 0 1)) 2 (σ 0 2)) 0 3 3))) 54 (upd (upc (σ 4) h (va_cpy (σ 15) (upd (upd (upd (σ 54) 0 (σ 0 0)) 1 (σ 0 1)) 2 (σ 0 2)) 0 3 3)) ((3 + 3) + h) (if ¬ (σ 4 h = 0) then (1 : Int32) else 0)) = sr σ 54 (upd (upc (σ 4) h (va_cpy (σ 15) (upd (upd (upd (σ 54) 0 (σ 0 0)) 1 (σ 0 1)) 2 (σ 0 2)) 0 3 3)) ((3 + 3) + h) (if ¬ (σ 4 h = 0) then (1 : Int32) else 0)) := by
            funext j_ x_
            by_cases e0 : j_ = 0
            · subst e0
              rfl
            · by_cases e54 : j_ = 54
              · subst e54; rfl
              · simp only [sr, e0, e54, if_false]
          rw [hst_] at hw
          refine lv_iinc (v := nI (h + 1)) (lv' := [(3, .int (nI (h + 1))), (0, .ref (a 68)), (1, .ref (a 54)), (2, .int (nI (3 + 3)))]) hC.1 hC.2.1 dX7_keep_86 hl (k := 3) rfl (nI_add _ _) (by decide) rfl (fun ls hl => ?_)
          refine lv_goto (tgt := 58) hC.1 hC.2.1 dX7_keep_89 (by decide) ?_
          rw [upc_s] at hw
          exact ih58 (h + 1) (by omega) (by omega) _ _ _ hw (lv_sub hl [1, 2, 3, 0] rfl)
        refine q_ifeq hC 84 cI dX7_keep_77 (by decide) (fun (c11 : σ 4 h = 0) => ?_) (fun (c11 : ¬ (σ 4 h = 0)) => ?_)
        · refine lv_iconst (v := nI 0) hC.1 hC.2.1 dX7_keep_84 (by decide) ?_
          exact J85_10 _ (if_neg (fun q => q c11)).symm _ _ _ hw (lv_sub hl [0, 1, 2, 3] rfl)
        · refine lv_iconst (v := nI 1) hC.1 hC.2.1 dX7_keep_80 (by decide) ?_
          refine lv_goto (tgt := 85) hC.1 hC.2.1 dX7_keep_81 (by decide) ?_
          exact J85_10 _ (if_pos c11).symm _ _ _ hw (lv_sub hl [0, 1, 2, 3] rfl)
  rw [← upc_0 (σ 4) (va_cpy (σ 15) (upd (upd (upd (σ 54) 0 (σ 0 0)) 1 (σ 0 1)) 2 (σ 0 2)) 0 3 3)] at hw
  exact L58_0 _ 0 (by omega) (Nat.lt_succ_self _) _ _ _ hw (lv_sub hl [3, 2, 1, 0] rfl)
set_option maxHeartbeats 4000000 in
set_option maxRecDepth 100000 in
theorem tX7_keep_k25 (l : Launch) (E : EV) (a : Nat → Nat) (σ : St) (kp : Nat) (hnx : σ 0 3 = nI 25) (hkp : σ 0 4 = nI kp) (hk30 : kp ≤ 30) : MV l E (XW E a) yX7_keep (Cond.code yX7_keep cX7_keep 4 none) ({ frames := 1, cells := 0, slots := 0, locals := 24 }) [.ref (a 68)] σ (fun u_ => u_ = sr (sr σ 55 (kpr σ (σ 55))) 0 (upd (upd (σ 0) 3 (nI (if 25 ≠ 29 then 25 + 1 else 0))) 4 (nI (if kp ≠ 30 then kp + 1 else kp)))) := by
  refine MV.mk (by decide +kernel) (Nat.le_of_ble_eq_true rfl) ?_
  intro p e s m args below meth c ls A Q hret hC hw hl
  have hC : Cxt E p s m args meth c cX7_keep 4 none RX7 A := hC
  have hl : lv_has ls 4 [(0, .ref (a 68))] := hl
  refine lv_aload_n hC.1 hC.2.1 dX7_keep_0 rfl (lv_at hl 0 rfl) ?_
  refine gf_X7_13 hC hw dX7_keep_1 ?_
  refine lv_aload_n hC.1 hC.2.1 dX7_keep_4 rfl (lv_at hl 0 rfl) ?_
  refine gf_X7_28 (v := nI 25) hC hw hnx dX7_keep_5 ?_
  refine q_aald hC hw (i := 25) (by decide) dX7_keep_8 ?_
  refine lv_astore_n (lv' := [(1, .ref (a 55)), (0, .ref (a 68))]) hC.1 hC.2.1 dX7_keep_9 rfl hl (by decide) rfl (fun ls hl => ?_)
  refine lv_aload_n hC.1 hC.2.1 dX7_keep_10 rfl (lv_at hl 0 rfl) ?_
  refine lv_iconst (v := nI 0) hC.1 hC.2.1 dX7_keep_11 (by decide) ?_
  refine lv_aload_n hC.1 hC.2.1 dX7_keep_12 rfl (lv_at hl 1 rfl) ?_
  refine gf_X7_16 hC hw dX7_keep_13 ?_
  refine gf_X7_32 (v := σ 0 0) hC hw rfl dX7_keep_16 ?_
  refine q_ast (Wf := XW E a) 65 rfl (by decide) (XW_s55 _) hC hw (by omega) dX7_keep_19 (fun H locs hw => ?_)
  have hw : Wst E (XW E a) (sr σ 55 (upd (σ 55) 0 (σ 0 0))) A s.heap H locs := hw
  refine lv_aload_n hC.1 hC.2.1 dX7_keep_20 rfl (lv_at hl 0 rfl) ?_
  refine lv_iconst (v := nI 1) hC.1 hC.2.1 dX7_keep_21 (by decide) ?_
  refine lv_aload_n hC.1 hC.2.1 dX7_keep_22 rfl (lv_at hl 1 rfl) ?_
  refine gf_X7_20 hC hw dX7_keep_23 ?_
  refine gf_X7_37 (v := σ 0 1) hC hw rfl dX7_keep_26 ?_
  refine q_ast (Wf := XW E a) 65 rfl (by decide) (XW_s55 _) hC hw (by omega) dX7_keep_29 (fun H locs hw => ?_)
  have hw : Wst E (XW E a) (sr (sr σ 55 (upd (σ 55) 0 (σ 0 0))) 55 (upd (upd (σ 55) 0 (σ 0 0)) 1 (σ 0 1))) A s.heap H locs := hw
  have hst_ : sr (sr σ 55 (upd (σ 55) 0 (σ 0 0))) 55 (upd (upd (σ 55) 0 (σ 0 0)) 1 (σ 0 1)) = sr σ 55 (upd (upd (σ 55) 0 (σ 0 0)) 1 (σ 0 1)) := by
    funext j_ x_
    by_cases e0 : j_ = 0
    · subst e0
      rfl
    · by_cases e55 : j_ = 55
      · subst e55; rfl
      · simp only [sr, e0, e55, if_false]
  rw [hst_] at hw
  refine lv_aload_n hC.1 hC.2.1 dX7_keep_30 rfl (lv_at hl 0 rfl) ?_
  refine lv_iconst (v := nI 2) hC.1 hC.2.1 dX7_keep_31 (by decide) ?_
  refine lv_aload_n hC.1 hC.2.1 dX7_keep_32 rfl (lv_at hl 1 rfl) ?_
  refine gf_X7_20 hC hw dX7_keep_33 ?_
  refine gf_X7_40 (v := σ 0 2) hC hw rfl dX7_keep_36 ?_
  refine q_ast (Wf := XW E a) 65 rfl (by decide) (XW_s55 _) hC hw (by omega) dX7_keep_39 (fun H locs hw => ?_)
  have hw : Wst E (XW E a) (sr (sr σ 55 (upd (upd (σ 55) 0 (σ 0 0)) 1 (σ 0 1))) 55 (upd (upd (upd (σ 55) 0 (σ 0 0)) 1 (σ 0 1)) 2 (σ 0 2))) A s.heap H locs := hw
  have hst_ : sr (sr σ 55 (upd (upd (σ 55) 0 (σ 0 0)) 1 (σ 0 1))) 55 (upd (upd (upd (σ 55) 0 (σ 0 0)) 1 (σ 0 1)) 2 (σ 0 2)) = sr σ 55 (upd (upd (upd (σ 55) 0 (σ 0 0)) 1 (σ 0 1)) 2 (σ 0 2)) := by
    funext j_ x_
    by_cases e0 : j_ = 0
    · subst e0
      rfl
    · by_cases e55 : j_ = 55
      · subst e55; rfl
      · simp only [sr, e0, e55, if_false]
  rw [hst_] at hw
  refine lv_iconst (v := nI 3) hC.1 hC.2.1 dX7_keep_40 (by decide) ?_
  refine lv_istore_n (lv' := [(2, .int (nI 3)), (1, .ref (a 55)), (0, .ref (a 68))]) hC.1 hC.2.1 dX7_keep_41 rfl hl (by decide) rfl (fun ls hl => ?_)
  refine lv_aload_n hC.1 hC.2.1 dX7_keep_42 rfl (lv_at hl 2 rfl) ?_
  refine gf_X7_24 hC hw dX7_keep_43 ?_
  refine lv_iconst (v := nI 0) hC.1 hC.2.1 dX7_keep_46 (by decide) ?_
  refine lv_aload_n hC.1 hC.2.1 dX7_keep_47 rfl (lv_at hl 1 rfl) ?_
  refine lv_iload_n hC.1 hC.2.1 dX7_keep_48 rfl (lv_at hl 0 rfl) ?_
  refine lv_iconst (v := nI 3) hC.1 hC.2.1 dX7_keep_49 (by decide) ?_
  refine q_cpy (sp := 0) (dp := 3) (n := 3) 25 rfl 65 rfl (XW_s55 _) hC hw hl (by omega) (by omega) (by decide) (by decide) ⟨Nat.le_of_ble_eq_true rfl, Nat.le_of_ble_eq_true rfl⟩ wk2_182 dX7_keep_50 (fun H locs hw => ?_)
  have hw : Wst E (XW E a) (sr (sr σ 55 (upd (upd (upd (σ 55) 0 (σ 0 0)) 1 (σ 0 1)) 2 (σ 0 2))) 55 (va_cpy (σ 15) (upd (upd (upd (σ 55) 0 (σ 0 0)) 1 (σ 0 1)) 2 (σ 0 2)) 0 3 3)) A s.heap H locs := hw
  have hst_ : sr (sr σ 55 (upd (upd (upd (σ 55) 0 (σ 0 0)) 1 (σ 0 1)) 2 (σ 0 2))) 55 (va_cpy (σ 15) (upd (upd (upd (σ 55) 0 (σ 0 0)) 1 (σ 0 1)) 2 (σ 0 2)) 0 3 3) = sr σ 55 (va_cpy (σ 15) (upd (upd (upd (σ 55) 0 (σ 0 0)) 1 (σ 0 1)) 2 (σ 0 2)) 0 3 3) := by
    funext j_ x_
    by_cases e0 : j_ = 0
    · subst e0
      rfl
    · by_cases e55 : j_ = 55
      · subst e55; rfl
      · simp only [sr, e0, e55, if_false]
  rw [hst_] at hw
  refine lv_iinc (v := nI (3 + 3)) (lv' := [(2, .int (nI (3 + 3))), (1, .ref (a 55)), (0, .ref (a 68))]) hC.1 hC.2.1 dX7_keep_53 hl (k := 0) rfl (nI_add _ _) (by decide) rfl (fun ls hl => ?_)
  refine lv_iconst (v := nI 0) hC.1 hC.2.1 dX7_keep_56 (by decide) ?_
  refine lv_istore_n (lv' := [(3, .int (nI 0)), (2, .int (nI (3 + 3))), (1, .ref (a 55)), (0, .ref (a 68))]) hC.1 hC.2.1 dX7_keep_57 rfl hl (by decide) rfl (fun ls hl => ?_)
  have L58_0 : ∀ (n : Nat), ∀ (h : Nat), (h ≤ 10) → (10 - h) < n → ∀ (H : Heap) (locs : List Loc) (ls : Array Slot), Wst E (XW E a) (sr σ 55 (upc (σ 4) h (va_cpy (σ 15) (upd (upd (upd (σ 55) 0 (σ 0 0)) 1 (σ 0 1)) 2 (σ 0 2)) 0 3 3))) A s.heap H locs → lv_has ls 4 [(0, .ref (a 68)), (1, .ref (a 55)), (2, .int (nI (3 + 3))), (3, .int (nI h))] → W p l e ({ frames := 1, cells := 0, slots := 0, locals := 24 }) s m args below meth c H locs 0 0 Q (F0 m 58 ls []) := by
    intro n
    induction n with
    | zero => intro h hh hn; exact absurd hn (Nat.not_lt_zero _)
    | succ n ih58 =>
      intro h hh hn58 H locs ls hw hl
      refine lv_iload_n hC.1 hC.2.1 dX7_keep_58 rfl (lv_at hl 3 rfl) ?_
      refine lv_bipush (v := nI 10) hC.1 hC.2.1 dX7_keep_59 (by decide) ?_
      refine q_cmpge hC 92 (cNle (by omega) (by omega)) dX7_keep_61 (by decide) (fun (c2 : 10 ≤ h) => ?_) (fun (c2 : h < 10) => ?_)
      · have hh9 : h = 10 := by omega
        rw [hh9] at hw
        refine lv_iinc (v := nI (3 + 3 + 10)) (lv' := [(2, .int (nI (3 + 3 + 10))), (0, .ref (a 68)), (1, .ref (a 55)), (3, .int (nI h))]) hC.1 hC.2.1 dX7_keep_92 hl (k := 2) rfl (nI_add _ _) (by decide) rfl (fun ls hl => ?_)
        refine lv_aload_n hC.1 hC.2.1 dX7_keep_95 rfl (lv_at hl 1 rfl) ?_
        refine gf_X7_20 hC hw dX7_keep_96 ?_
        refine gf_X7_53 hC hw dX7_keep_99 ?_
        refine lv_iconst (v := nI 0) hC.1 hC.2.1 dX7_keep_102 (by decide) ?_
        refine lv_aload_n hC.1 hC.2.1 dX7_keep_103 rfl (lv_at hl 2 rfl) ?_
        refine lv_iload_n hC.1 hC.2.1 dX7_keep_104 rfl (lv_at hl 0 rfl) ?_
        refine lv_bipush (v := nI 24) hC.1 hC.2.1 dX7_keep_105 (by decide) ?_
        refine q_cpy (sp := 0) (dp := (3 + 3 + 10)) (n := 24) 21 rfl 65 rfl (XW_s55 _) hC hw hl (by omega) (by omega) (by decide) (by decide) ⟨Nat.le_of_ble_eq_true rfl, Nat.le_of_ble_eq_true rfl⟩ wk2_182 dX7_keep_107 (fun H locs hw => ?_)
        have hw : Wst E (XW E a) (sr (sr σ 55 (upc (σ 4) 10 (va_cpy (σ 15) (upd (upd (upd (σ 55) 0 (σ 0 0)) 1 (σ 0 1)) 2 (σ 0 2)) 0 3 3))) 55 (va_cpy (σ 11) (upc (σ 4) 10 (va_cpy (σ 15) (upd (upd (upd (σ 55) 0 (σ 0 0)) 1 (σ 0 1)) 2 (σ 0 2)) 0 3 3)) 0 (3 + 3 + 10) 24)) A s.heap H locs := hw
        have hst_ : sr (sr σ 55 (upc (σ 4) 10 (va_cpy (σ 15) (upd (upd (upd (σ 55) 0 (σ 0 0)) 1 (σ 0 1)) 2 (σ 0 2)) 0 3 3))) 55 (va_cpy (σ 11) (upc (σ 4) 10 (va_cpy (σ 15) (upd (upd (upd (σ 55) 0 (σ 0 0)) 1 (σ 0 1)) 2 (σ 0 2)) 0 3 3)) 0 (3 + 3 + 10) 24) = sr σ 55 (va_cpy (σ 11) (upc (σ 4) 10 (va_cpy (σ 15) (upd (upd (upd (σ 55) 0 (σ 0 0)) 1 (σ 0 1)) 2 (σ 0 2)) 0 3 3)) 0 (3 + 3 + 10) 24) := by
          funext j_ x_
          by_cases e0 : j_ = 0
          · subst e0
            rfl
          · by_cases e55 : j_ = 55
            · subst e55; rfl
            · simp only [sr, e0, e55, if_false]
        rw [hst_] at hw
        refine lv_aload_n hC.1 hC.2.1 dX7_keep_110 rfl (lv_at hl 1 rfl) ?_
        refine gf_X7_20 hC hw dX7_keep_111 ?_
        refine gf_X7_56 hC hw dX7_keep_114 ?_
        refine lv_iconst (v := nI 0) hC.1 hC.2.1 dX7_keep_117 (by decide) ?_
        refine lv_aload_n hC.1 hC.2.1 dX7_keep_118 rfl (lv_at hl 2 rfl) ?_
        refine lv_iload_n hC.1 hC.2.1 dX7_keep_119 rfl (lv_at hl 0 rfl) ?_
        refine lv_bipush (v := nI 24) hC.1 hC.2.1 dX7_keep_120 (by decide) ?_
        refine q_addN hC dX7_keep_122 ?_
        refine lv_bipush (v := nI 24) hC.1 hC.2.1 dX7_keep_123 (by decide) ?_
        refine q_cpy (sp := 0) (dp := ((3 + 3 + 10) + 24)) (n := 24) 22 rfl 65 rfl (XW_s55 _) hC hw hl (by omega) (by omega) (by decide) (by decide) ⟨Nat.le_of_ble_eq_true rfl, Nat.le_of_ble_eq_true rfl⟩ wk2_182 dX7_keep_125 (fun H locs hw => ?_)
        have hw : Wst E (XW E a) (sr (sr σ 55 (va_cpy (σ 11) (upc (σ 4) 10 (va_cpy (σ 15) (upd (upd (upd (σ 55) 0 (σ 0 0)) 1 (σ 0 1)) 2 (σ 0 2)) 0 3 3)) 0 (3 + 3 + 10) 24)) 55 (va_cpy (σ 12) (va_cpy (σ 11) (upc (σ 4) 10 (va_cpy (σ 15) (upd (upd (upd (σ 55) 0 (σ 0 0)) 1 (σ 0 1)) 2 (σ 0 2)) 0 3 3)) 0 (3 + 3 + 10) 24) 0 ((3 + 3 + 10) + 24) 24)) A s.heap H locs := hw
        have hst_ : sr (sr σ 55 (va_cpy (σ 11) (upc (σ 4) 10 (va_cpy (σ 15) (upd (upd (upd (σ 55) 0 (σ 0 0)) 1 (σ 0 1)) 2 (σ 0 2)) 0 3 3)) 0 (3 + 3 + 10) 24)) 55 (va_cpy (σ 12) (va_cpy (σ 11) (upc (σ 4) 10 (va_cpy (σ 15) (upd (upd (upd (σ 55) 0 (σ 0 0)) 1 (σ 0 1)) 2 (σ 0 2)) 0 3 3)) 0 (3 + 3 + 10) 24) 0 ((3 + 3 + 10) + 24) 24) = sr σ 55 (va_cpy (σ 12) (va_cpy (σ 11) (upc (σ 4) 10 (va_cpy (σ 15) (upd (upd (upd (σ 55) 0 (σ 0 0)) 1 (σ 0 1)) 2 (σ 0 2)) 0 3 3)) 0 (3 + 3 + 10) 24) 0 ((3 + 3 + 10) + 24) 24) := by
          funext j_ x_
          by_cases e0 : j_ = 0
          · subst e0
            rfl
          · by_cases e55 : j_ = 55
            · subst e55; rfl
            · simp only [sr, e0, e55, if_false]
        rw [hst_] at hw
        refine lv_aload_n hC.1 hC.2.1 dX7_keep_128 rfl (lv_at hl 1 rfl) ?_
        refine gf_X7_20 hC hw dX7_keep_129 ?_
        refine gf_X7_59 hC hw dX7_keep_132 ?_
        refine lv_iconst (v := nI 0) hC.1 hC.2.1 dX7_keep_135 (by decide) ?_
        refine lv_aload_n hC.1 hC.2.1 dX7_keep_136 rfl (lv_at hl 2 rfl) ?_
        refine lv_iload_n hC.1 hC.2.1 dX7_keep_137 rfl (lv_at hl 0 rfl) ?_
        refine lv_bipush (v := nI 48) hC.1 hC.2.1 dX7_keep_138 (by decide) ?_
        refine q_addN hC dX7_keep_140 ?_
        refine lv_bipush (v := nI 24) hC.1 hC.2.1 dX7_keep_141 (by decide) ?_
        refine q_cpy (sp := 0) (dp := ((3 + 3 + 10) + 48)) (n := 24) 23 rfl 65 rfl (XW_s55 _) hC hw hl (by omega) (by omega) (by decide) (by decide) ⟨Nat.le_of_ble_eq_true rfl, Nat.le_of_ble_eq_true rfl⟩ wk2_182 dX7_keep_143 (fun H locs hw => ?_)
        have hw : Wst E (XW E a) (sr (sr σ 55 (va_cpy (σ 12) (va_cpy (σ 11) (upc (σ 4) 10 (va_cpy (σ 15) (upd (upd (upd (σ 55) 0 (σ 0 0)) 1 (σ 0 1)) 2 (σ 0 2)) 0 3 3)) 0 (3 + 3 + 10) 24) 0 ((3 + 3 + 10) + 24) 24)) 55 (va_cpy (σ 13) (va_cpy (σ 12) (va_cpy (σ 11) (upc (σ 4) 10 (va_cpy (σ 15) (upd (upd (upd (σ 55) 0 (σ 0 0)) 1 (σ 0 1)) 2 (σ 0 2)) 0 3 3)) 0 (3 + 3 + 10) 24) 0 ((3 + 3 + 10) + 24) 24) 0 ((3 + 3 + 10) + 48) 24)) A s.heap H locs := hw
        have hst_ : sr (sr σ 55 (va_cpy (σ 12) (va_cpy (σ 11) (upc (σ 4) 10 (va_cpy (σ 15) (upd (upd (upd (σ 55) 0 (σ 0 0)) 1 (σ 0 1)) 2 (σ 0 2)) 0 3 3)) 0 (3 + 3 + 10) 24) 0 ((3 + 3 + 10) + 24) 24)) 55 (va_cpy (σ 13) (va_cpy (σ 12) (va_cpy (σ 11) (upc (σ 4) 10 (va_cpy (σ 15) (upd (upd (upd (σ 55) 0 (σ 0 0)) 1 (σ 0 1)) 2 (σ 0 2)) 0 3 3)) 0 (3 + 3 + 10) 24) 0 ((3 + 3 + 10) + 24) 24) 0 ((3 + 3 + 10) + 48) 24) = sr σ 55 (va_cpy (σ 13) (va_cpy (σ 12) (va_cpy (σ 11) (upc (σ 4) 10 (va_cpy (σ 15) (upd (upd (upd (σ 55) 0 (σ 0 0)) 1 (σ 0 1)) 2 (σ 0 2)) 0 3 3)) 0 (3 + 3 + 10) 24) 0 ((3 + 3 + 10) + 24) 24) 0 ((3 + 3 + 10) + 48) 24) := by
          funext j_ x_
          by_cases e0 : j_ = 0
          · subst e0
            rfl
          · by_cases e55 : j_ = 55
            · subst e55; rfl
            · simp only [sr, e0, e55, if_false]
        rw [hst_] at hw
        refine lv_aload_n hC.1 hC.2.1 dX7_keep_146 rfl (lv_at hl 1 rfl) ?_
        refine gf_X7_20 hC hw dX7_keep_147 ?_
        refine gf_X7_62 hC hw dX7_keep_150 ?_
        refine lv_iconst (v := nI 0) hC.1 hC.2.1 dX7_keep_153 (by decide) ?_
        refine lv_aload_n hC.1 hC.2.1 dX7_keep_154 rfl (lv_at hl 2 rfl) ?_
        refine lv_iload_n hC.1 hC.2.1 dX7_keep_155 rfl (lv_at hl 0 rfl) ?_
        refine lv_bipush (v := nI 72) hC.1 hC.2.1 dX7_keep_156 (by decide) ?_
        refine q_addN hC dX7_keep_158 ?_
        refine lv_bipush (v := nI 24) hC.1 hC.2.1 dX7_keep_159 (by decide) ?_
        refine q_cpy (sp := 0) (dp := ((3 + 3 + 10) + 72)) (n := 24) 24 rfl 65 rfl (XW_s55 _) hC hw hl (by omega) (by omega) (by decide) (by decide) ⟨Nat.le_of_ble_eq_true rfl, Nat.le_of_ble_eq_true rfl⟩ wk2_182 dX7_keep_161 (fun H locs hw => ?_)
        have hw : Wst E (XW E a) (sr (sr σ 55 (va_cpy (σ 13) (va_cpy (σ 12) (va_cpy (σ 11) (upc (σ 4) 10 (va_cpy (σ 15) (upd (upd (upd (σ 55) 0 (σ 0 0)) 1 (σ 0 1)) 2 (σ 0 2)) 0 3 3)) 0 (3 + 3 + 10) 24) 0 ((3 + 3 + 10) + 24) 24) 0 ((3 + 3 + 10) + 48) 24)) 55 (va_cpy (σ 14) (va_cpy (σ 13) (va_cpy (σ 12) (va_cpy (σ 11) (upc (σ 4) 10 (va_cpy (σ 15) (upd (upd (upd (σ 55) 0 (σ 0 0)) 1 (σ 0 1)) 2 (σ 0 2)) 0 3 3)) 0 (3 + 3 + 10) 24) 0 ((3 + 3 + 10) + 24) 24) 0 ((3 + 3 + 10) + 48) 24) 0 ((3 + 3 + 10) + 72) 24)) A s.heap H locs := hw
        have hst_ : sr (sr σ 55 (va_cpy (σ 13) (va_cpy (σ 12) (va_cpy (σ 11) (upc (σ 4) 10 (va_cpy (σ 15) (upd (upd (upd (σ 55) 0 (σ 0 0)) 1 (σ 0 1)) 2 (σ 0 2)) 0 3 3)) 0 (3 + 3 + 10) 24) 0 ((3 + 3 + 10) + 24) 24) 0 ((3 + 3 + 10) + 48) 24)) 55 (va_cpy (σ 14) (va_cpy (σ 13) (va_cpy (σ 12) (va_cpy (σ 11) (upc (σ 4) 10 (va_cpy (σ 15) (upd (upd (upd (σ 55) 0 (σ 0 0)) 1 (σ 0 1)) 2 (σ 0 2)) 0 3 3)) 0 (3 + 3 + 10) 24) 0 ((3 + 3 + 10) + 24) 24) 0 ((3 + 3 + 10) + 48) 24) 0 ((3 + 3 + 10) + 72) 24) = sr σ 55 (va_cpy (σ 14) (va_cpy (σ 13) (va_cpy (σ 12) (va_cpy (σ 11) (upc (σ 4) 10 (va_cpy (σ 15) (upd (upd (upd (σ 55) 0 (σ 0 0)) 1 (σ 0 1)) 2 (σ 0 2)) 0 3 3)) 0 (3 + 3 + 10) 24) 0 ((3 + 3 + 10) + 24) 24) 0 ((3 + 3 + 10) + 48) 24) 0 ((3 + 3 + 10) + 72) 24) := by
          funext j_ x_
          by_cases e0 : j_ = 0
          · subst e0
            rfl
          · by_cases e55 : j_ = 55
            · subst e55; rfl
            · simp only [sr, e0, e55, if_false]
        rw [hst_] at hw
        refine lv_aload_n hC.1 hC.2.1 dX7_keep_164 rfl (lv_at hl 1 rfl) ?_
        refine lv_aload_n hC.1 hC.2.1 dX7_keep_165 rfl (lv_at hl 1 rfl) ?_
        refine gf_X7_28 (v := nI 25) hC hw hnx dX7_keep_166 ?_
        refine lv_bipush (v := nI 29) hC.1 hC.2.1 dX7_keep_169 (by decide) ?_
        have J184_4 : ∀ (w3 : Nat), w3 = (if 25 ≠ 29 then (25 + 1) else 0) → ∀ (H : Heap) (locs : List Loc) (ls : Array Slot), Wst E (XW E a) (sr σ 55 (va_cpy (σ 14) (va_cpy (σ 13) (va_cpy (σ 12) (va_cpy (σ 11) (upc (σ 4) 10 (va_cpy (σ 15) (upd (upd (upd (σ 55) 0 (σ 0 0)) 1 (σ 0 1)) 2 (σ 0 2)) 0 3 3)) 0 (3 + 3 + 10) 24) 0 ((3 + 3 + 10) + 24) 24) 0 ((3 + 3 + 10) + 48) 24) 0 ((3 + 3 + 10) + 72) 24)) A s.heap H locs → lv_has ls 4 [(0, .ref (a 68)), (1, .ref (a 55)), (2, .int (nI (3 + 3 + 10))), (3, .int (nI h))] → W p l e ({ frames := 1, cells := 0, slots := 0, locals := 24 }) s m args below meth c H locs 0 0 Q (F0 m 184 ls [.int (nI w3), .ref (a 68)]) := by
          intro w3 e4 H locs ls hw hl
          subst e4
          refine pf_X7_28 hC hw dX7_keep_184 (fun H locs hw => ?_)
          have hw : Wst E (XW E a) (sr (sr σ 55 (va_cpy (σ 14) (va_cpy (σ 13) (va_cpy (σ 12) (va_cpy (σ 11) (upc (σ 4) 10 (va_cpy (σ 15) (upd (upd (upd (σ 55) 0 (σ 0 0)) 1 (σ 0 1)) 2 (σ 0 2)) 0 3 3)) 0 (3 + 3 + 10) 24) 0 ((3 + 3 + 10) + 24) 24) 0 ((3 + 3 + 10) + 48) 24) 0 ((3 + 3 + 10) + 72) 24)) 0 (upd (σ 0) 3 (nI (if 25 ≠ 29 then (25 + 1) else 0)))) A s.heap H locs := hw
          refine lv_aload_n hC.1 hC.2.1 dX7_keep_187 rfl (lv_at hl 0 rfl) ?_
          refine lv_aload_n hC.1 hC.2.1 dX7_keep_188 rfl (lv_at hl 0 rfl) ?_
          refine gf_X7_65 (v := nI kp) hC hw hkp dX7_keep_189 ?_
          refine lv_bipush (v := nI 30) hC.1 hC.2.1 dX7_keep_192 (by decide) ?_
          have J210_6 : ∀ (w5 : Nat), w5 = (if kp ≠ 30 then (kp + 1) else kp) → ∀ (H : Heap) (locs : List Loc) (ls : Array Slot), Wst E (XW E a) (sr (sr σ 55 (va_cpy (σ 14) (va_cpy (σ 13) (va_cpy (σ 12) (va_cpy (σ 11) (upc (σ 4) 10 (va_cpy (σ 15) (upd (upd (upd (σ 55) 0 (σ 0 0)) 1 (σ 0 1)) 2 (σ 0 2)) 0 3 3)) 0 (3 + 3 + 10) 24) 0 ((3 + 3 + 10) + 24) 24) 0 ((3 + 3 + 10) + 48) 24) 0 ((3 + 3 + 10) + 72) 24)) 0 (upd (σ 0) 3 (nI (if 25 ≠ 29 then (25 + 1) else 0)))) A s.heap H locs → lv_has ls 4 [(0, .ref (a 68)), (1, .ref (a 55)), (2, .int (nI (3 + 3 + 10))), (3, .int (nI h))] → W p l e ({ frames := 1, cells := 0, slots := 0, locals := 24 }) s m args below meth c H locs 0 0 Q (F0 m 210 ls [.int (nI w5), .ref (a 68)]) := by
            intro w5 e6 H locs ls hw hl
            subst e6
            refine pf_X7_65 hC hw dX7_keep_210 (fun H locs hw => ?_)
            have hw : Wst E (XW E a) (sr (sr (sr σ 55 (va_cpy (σ 14) (va_cpy (σ 13) (va_cpy (σ 12) (va_cpy (σ 11) (upc (σ 4) 10 (va_cpy (σ 15) (upd (upd (upd (σ 55) 0 (σ 0 0)) 1 (σ 0 1)) 2 (σ 0 2)) 0 3 3)) 0 (3 + 3 + 10) 24) 0 ((3 + 3 + 10) + 24) 24) 0 ((3 + 3 + 10) + 48) 24) 0 ((3 + 3 + 10) + 72) 24)) 0 (upd (σ 0) 3 (nI (if 25 ≠ 29 then (25 + 1) else 0)))) 0 (upd (upd (σ 0) 3 (nI (if 25 ≠ 29 then (25 + 1) else 0))) 4 (nI (if kp ≠ 30 then (kp + 1) else kp)))) A s.heap H locs := hw
            have hst_ : sr (sr (sr σ 55 (va_cpy (σ 14) (va_cpy (σ 13) (va_cpy (σ 12) (va_cpy (σ 11) (upc (σ 4) 10 (va_cpy (σ 15) (upd (upd (upd (σ 55) 0 (σ 0 0)) 1 (σ 0 1)) 2 (σ 0 2)) 0 3 3)) 0 (3 + 3 + 10) 24) 0 ((3 + 3 + 10) + 24) 24) 0 ((3 + 3 + 10) + 48) 24) 0 ((3 + 3 + 10) + 72) 24)) 0 (upd (σ 0) 3 (nI (if 25 ≠ 29 then (25 + 1) else 0)))) 0 (upd (upd (σ 0) 3 (nI (if 25 ≠ 29 then (25 + 1) else 0))) 4 (nI (if kp ≠ 30 then (kp + 1) else kp))) = sr (sr σ 55 (va_cpy (σ 14) (va_cpy (σ 13) (va_cpy (σ 12) (va_cpy (σ 11) (upc (σ 4) 10 (va_cpy (σ 15) (upd (upd (upd (σ 55) 0 (σ 0 0)) 1 (σ 0 1)) 2 (σ 0 2)) 0 3 3)) 0 (3 + 3 + 10) 24) 0 ((3 + 3 + 10) + 24) 24) 0 ((3 + 3 + 10) + 48) 24) 0 ((3 + 3 + 10) + 72) 24)) 0 (upd (upd (σ 0) 3 (nI (if 25 ≠ 29 then (25 + 1) else 0))) 4 (nI (if kp ≠ 30 then (kp + 1) else kp))) := by
              funext j_ x_
              by_cases e0 : j_ = 0
              · subst e0
                by_cases y3 : x_ = 3
                · subst y3; rfl
                · by_cases y4 : x_ = 4
                  · subst y4; rfl
                  · simp [sr, upd, y3, y4]
              · by_cases e55 : j_ = 55
                · subst e55; rfl
                · simp only [sr, e0, e55, if_false]
            rw [hst_] at hw
            refine hret _ _ _ _ _ hw ?_ dX7_keep_213
            exact rfl
          refine q_cmpne hC 204 (cNeq (by omega) (by omega)) dX7_keep_194 (by decide) (fun (c7 : kp ≠ 30) => ?_) (fun (c7 : kp = 30) => ?_)
          · refine lv_aload_n hC.1 hC.2.1 dX7_keep_204 rfl (lv_at hl 0 rfl) ?_
            refine gf_X7_65 (v := nI kp) hC hw hkp dX7_keep_205 ?_
            refine lv_iconst (v := nI 1) hC.1 hC.2.1 dX7_keep_208 (by decide) ?_
            refine q_addN hC dX7_keep_209 ?_
            exact J210_6 _ (by (rw [if_pos c7]) <;> rfl) _ _ _ hw (lv_sub hl [0, 1, 2, 3] rfl)
          · refine lv_aload_n hC.1 hC.2.1 dX7_keep_197 rfl (lv_at hl 0 rfl) ?_
            refine gf_X7_65 (v := nI kp) hC hw hkp dX7_keep_198 ?_
            refine lv_goto (tgt := 210) hC.1 hC.2.1 dX7_keep_201 (by decide) ?_
            exact J210_6 _ (by (rw [if_neg (fun q => q c7)]) <;> rfl) _ _ _ hw (lv_sub hl [0, 1, 2, 3] rfl)
        refine q_cmpne hC 178 (cNeq (by omega) (by omega)) dX7_keep_171 (by decide) (fun (c8 : 25 ≠ 29) => ?_) (fun (c8 : 25 = 29) => ?_)
        · refine lv_aload_n hC.1 hC.2.1 dX7_keep_178 rfl (lv_at hl 1 rfl) ?_
          refine gf_X7_28 (v := nI 25) hC hw hnx dX7_keep_179 ?_
          refine lv_iconst (v := nI 1) hC.1 hC.2.1 dX7_keep_182 (by decide) ?_
          refine q_addN hC dX7_keep_183 ?_
          exact J184_4 _ (by (rw [if_pos c8]) <;> rfl) _ _ _ hw (lv_sub hl [1, 2, 0, 3] rfl)
        · refine lv_iconst (v := nI 0) hC.1 hC.2.1 dX7_keep_174 (by decide) ?_
          refine lv_goto (tgt := 184) hC.1 hC.2.1 dX7_keep_175 (by decide) ?_
          exact J184_4 _ (by (rw [if_neg (fun q => q c8)]) <;> rfl) _ _ _ hw (lv_sub hl [1, 2, 0, 3] rfl)
      · refine lv_aload_n hC.1 hC.2.1 dX7_keep_64 rfl (lv_at hl 1 rfl) ?_
        refine lv_iload_n hC.1 hC.2.1 dX7_keep_65 rfl (lv_at hl 2 rfl) ?_
        refine lv_iload_n hC.1 hC.2.1 dX7_keep_66 rfl (lv_at hl 3 rfl) ?_
        refine q_addN hC dX7_keep_67 ?_
        refine lv_aload_n hC.1 hC.2.1 dX7_keep_68 rfl (lv_at hl 0 rfl) ?_
        refine gf_X7_16 hC hw dX7_keep_69 ?_
        refine gf_X7_49 hC hw dX7_keep_72 ?_
        refine lv_iload_n hC.1 hC.2.1 dX7_keep_75 rfl (lv_at hl 3 rfl) ?_
        refine al_X4 (v := σ 4 h) hC hw (by omega) rfl dX7_keep_76 ?_
        have J85_10 : ∀ (w9 : Int32), w9 = (if ¬ (σ 4 h = 0) then (1 : Int32) else 0) → ∀ (H : Heap) (locs : List Loc) (ls : Array Slot), Wst E (XW E a) (sr σ 55 (upc (σ 4) h (va_cpy (σ 15) (upd (upd (upd (σ 55) 0 (σ 0 0)) 1 (σ 0 1)) 2 (σ 0 2)) 0 3 3))) A s.heap H locs → lv_has ls 4 [(0, .ref (a 68)), (1, .ref (a 55)), (2, .int (nI (3 + 3))), (3, .int (nI h))] → W p l e ({ frames := 1, cells := 0, slots := 0, locals := 24 }) s m args below meth c H locs 0 0 Q (F0 m 85 ls [.int (w9), .int (nI ((3 + 3) + h)), .ref (a 55)]) := by
          intro w9 e10 H locs ls hw hl
          subst e10
          refine q_ast (Wf := XW E a) 65 rfl (by decide) (XW_s55 _) hC hw (by omega) dX7_keep_85 (fun H locs hw => ?_)
          have hw : Wst E (XW E a) (sr (sr σ 55 (upc (σ 4) h (va_cpy (σ 15) (upd (upd (upd (σ 55) 0 (σ 0 0)) 1 (σ 0 1)) 2 (σ 0 2)) 0 3 3))) 55 (upd (upc (σ 4) h (va_cpy (σ 15) (upd (upd (upd (σ 55) 0 (σ 0 0)) 1 (σ 0 1)) 2 (σ 0 2)) 0 3 3)) ((3 + 3) + h) (if ¬ (σ 4 h = 0) then (1 : Int32) else 0))) A s.heap H locs := hw
          have hst_ : sr (sr σ 55 (upc (σ 4) h (va_cpy (σ 15) (upd (upd (upd (σ 55) 0 (σ 0 0)) 1 (σ 0 1)) 2 (σ 0 2)) 0 3 3))) 55 (upd (upc (σ 4) h (va_cpy (σ 15) (upd (upd (upd (σ 55) 0 (σ 0 0)) 1 (σ 0 1)) 2 (σ 0 2)) 0 3 3)) ((3 + 3) + h) (if ¬ (σ 4 h = 0) then (1 : Int32) else 0)) = sr σ 55 (upd (upc (σ 4) h (va_cpy (σ 15) (upd (upd (upd (σ 55) 0 (σ 0 0)) 1 (σ 0 1)) 2 (σ 0 2)) 0 3 3)) ((3 + 3) + h) (if ¬ (σ 4 h = 0) then (1 : Int32) else 0)) := by
            funext j_ x_
            by_cases e0 : j_ = 0
            · subst e0
              rfl
            · by_cases e55 : j_ = 55
              · subst e55; rfl
              · simp only [sr, e0, e55, if_false]
          rw [hst_] at hw
          refine lv_iinc (v := nI (h + 1)) (lv' := [(3, .int (nI (h + 1))), (0, .ref (a 68)), (1, .ref (a 55)), (2, .int (nI (3 + 3)))]) hC.1 hC.2.1 dX7_keep_86 hl (k := 3) rfl (nI_add _ _) (by decide) rfl (fun ls hl => ?_)
          refine lv_goto (tgt := 58) hC.1 hC.2.1 dX7_keep_89 (by decide) ?_
          rw [upc_s] at hw
          exact ih58 (h + 1) (by omega) (by omega) _ _ _ hw (lv_sub hl [1, 2, 3, 0] rfl)
        refine q_ifeq hC 84 cI dX7_keep_77 (by decide) (fun (c11 : σ 4 h = 0) => ?_) (fun (c11 : ¬ (σ 4 h = 0)) => ?_)
        · refine lv_iconst (v := nI 0) hC.1 hC.2.1 dX7_keep_84 (by decide) ?_
          exact J85_10 _ (if_neg (fun q => q c11)).symm _ _ _ hw (lv_sub hl [0, 1, 2, 3] rfl)
        · refine lv_iconst (v := nI 1) hC.1 hC.2.1 dX7_keep_80 (by decide) ?_
          refine lv_goto (tgt := 85) hC.1 hC.2.1 dX7_keep_81 (by decide) ?_
          exact J85_10 _ (if_pos c11).symm _ _ _ hw (lv_sub hl [0, 1, 2, 3] rfl)
  rw [← upc_0 (σ 4) (va_cpy (σ 15) (upd (upd (upd (σ 55) 0 (σ 0 0)) 1 (σ 0 1)) 2 (σ 0 2)) 0 3 3)] at hw
  exact L58_0 _ 0 (by omega) (Nat.lt_succ_self _) _ _ _ hw (lv_sub hl [3, 2, 1, 0] rfl)
set_option maxHeartbeats 4000000 in
set_option maxRecDepth 100000 in
theorem tX7_keep_k26 (l : Launch) (E : EV) (a : Nat → Nat) (σ : St) (kp : Nat) (hnx : σ 0 3 = nI 26) (hkp : σ 0 4 = nI kp) (hk30 : kp ≤ 30) : MV l E (XW E a) yX7_keep (Cond.code yX7_keep cX7_keep 4 none) ({ frames := 1, cells := 0, slots := 0, locals := 24 }) [.ref (a 68)] σ (fun u_ => u_ = sr (sr σ 56 (kpr σ (σ 56))) 0 (upd (upd (σ 0) 3 (nI (if 26 ≠ 29 then 26 + 1 else 0))) 4 (nI (if kp ≠ 30 then kp + 1 else kp)))) := by
  refine MV.mk (by decide +kernel) (Nat.le_of_ble_eq_true rfl) ?_
  intro p e s m args below meth c ls A Q hret hC hw hl
  have hC : Cxt E p s m args meth c cX7_keep 4 none RX7 A := hC
  have hl : lv_has ls 4 [(0, .ref (a 68))] := hl
  refine lv_aload_n hC.1 hC.2.1 dX7_keep_0 rfl (lv_at hl 0 rfl) ?_
  refine gf_X7_13 hC hw dX7_keep_1 ?_
  refine lv_aload_n hC.1 hC.2.1 dX7_keep_4 rfl (lv_at hl 0 rfl) ?_
  refine gf_X7_28 (v := nI 26) hC hw hnx dX7_keep_5 ?_
  refine q_aald hC hw (i := 26) (by decide) dX7_keep_8 ?_
  refine lv_astore_n (lv' := [(1, .ref (a 56)), (0, .ref (a 68))]) hC.1 hC.2.1 dX7_keep_9 rfl hl (by decide) rfl (fun ls hl => ?_)
  refine lv_aload_n hC.1 hC.2.1 dX7_keep_10 rfl (lv_at hl 0 rfl) ?_
  refine lv_iconst (v := nI 0) hC.1 hC.2.1 dX7_keep_11 (by decide) ?_
  refine lv_aload_n hC.1 hC.2.1 dX7_keep_12 rfl (lv_at hl 1 rfl) ?_
  refine gf_X7_16 hC hw dX7_keep_13 ?_
  refine gf_X7_32 (v := σ 0 0) hC hw rfl dX7_keep_16 ?_
  refine q_ast (Wf := XW E a) 66 rfl (by decide) (XW_s56 _) hC hw (by omega) dX7_keep_19 (fun H locs hw => ?_)
  have hw : Wst E (XW E a) (sr σ 56 (upd (σ 56) 0 (σ 0 0))) A s.heap H locs := hw
  refine lv_aload_n hC.1 hC.2.1 dX7_keep_20 rfl (lv_at hl 0 rfl) ?_
  refine lv_iconst (v := nI 1) hC.1 hC.2.1 dX7_keep_21 (by decide) ?_
  refine lv_aload_n hC.1 hC.2.1 dX7_keep_22 rfl (lv_at hl 1 rfl) ?_
  refine gf_X7_20 hC hw dX7_keep_23 ?_
  refine gf_X7_37 (v := σ 0 1) hC hw rfl dX7_keep_26 ?_
  refine q_ast (Wf := XW E a) 66 rfl (by decide) (XW_s56 _) hC hw (by omega) dX7_keep_29 (fun H locs hw => ?_)
  have hw : Wst E (XW E a) (sr (sr σ 56 (upd (σ 56) 0 (σ 0 0))) 56 (upd (upd (σ 56) 0 (σ 0 0)) 1 (σ 0 1))) A s.heap H locs := hw
  have hst_ : sr (sr σ 56 (upd (σ 56) 0 (σ 0 0))) 56 (upd (upd (σ 56) 0 (σ 0 0)) 1 (σ 0 1)) = sr σ 56 (upd (upd (σ 56) 0 (σ 0 0)) 1 (σ 0 1)) := by
    funext j_ x_
    by_cases e0 : j_ = 0
    · subst e0
      rfl
    · by_cases e56 : j_ = 56
      · subst e56; rfl
      · simp only [sr, e0, e56, if_false]
  rw [hst_] at hw
  refine lv_aload_n hC.1 hC.2.1 dX7_keep_30 rfl (lv_at hl 0 rfl) ?_
  refine lv_iconst (v := nI 2) hC.1 hC.2.1 dX7_keep_31 (by decide) ?_
  refine lv_aload_n hC.1 hC.2.1 dX7_keep_32 rfl (lv_at hl 1 rfl) ?_
  refine gf_X7_20 hC hw dX7_keep_33 ?_
  refine gf_X7_40 (v := σ 0 2) hC hw rfl dX7_keep_36 ?_
  refine q_ast (Wf := XW E a) 66 rfl (by decide) (XW_s56 _) hC hw (by omega) dX7_keep_39 (fun H locs hw => ?_)
  have hw : Wst E (XW E a) (sr (sr σ 56 (upd (upd (σ 56) 0 (σ 0 0)) 1 (σ 0 1))) 56 (upd (upd (upd (σ 56) 0 (σ 0 0)) 1 (σ 0 1)) 2 (σ 0 2))) A s.heap H locs := hw
  have hst_ : sr (sr σ 56 (upd (upd (σ 56) 0 (σ 0 0)) 1 (σ 0 1))) 56 (upd (upd (upd (σ 56) 0 (σ 0 0)) 1 (σ 0 1)) 2 (σ 0 2)) = sr σ 56 (upd (upd (upd (σ 56) 0 (σ 0 0)) 1 (σ 0 1)) 2 (σ 0 2)) := by
    funext j_ x_
    by_cases e0 : j_ = 0
    · subst e0
      rfl
    · by_cases e56 : j_ = 56
      · subst e56; rfl
      · simp only [sr, e0, e56, if_false]
  rw [hst_] at hw
  refine lv_iconst (v := nI 3) hC.1 hC.2.1 dX7_keep_40 (by decide) ?_
  refine lv_istore_n (lv' := [(2, .int (nI 3)), (1, .ref (a 56)), (0, .ref (a 68))]) hC.1 hC.2.1 dX7_keep_41 rfl hl (by decide) rfl (fun ls hl => ?_)
  refine lv_aload_n hC.1 hC.2.1 dX7_keep_42 rfl (lv_at hl 2 rfl) ?_
  refine gf_X7_24 hC hw dX7_keep_43 ?_
  refine lv_iconst (v := nI 0) hC.1 hC.2.1 dX7_keep_46 (by decide) ?_
  refine lv_aload_n hC.1 hC.2.1 dX7_keep_47 rfl (lv_at hl 1 rfl) ?_
  refine lv_iload_n hC.1 hC.2.1 dX7_keep_48 rfl (lv_at hl 0 rfl) ?_
  refine lv_iconst (v := nI 3) hC.1 hC.2.1 dX7_keep_49 (by decide) ?_
  refine q_cpy (sp := 0) (dp := 3) (n := 3) 25 rfl 66 rfl (XW_s56 _) hC hw hl (by omega) (by omega) (by decide) (by decide) ⟨Nat.le_of_ble_eq_true rfl, Nat.le_of_ble_eq_true rfl⟩ wk2_182 dX7_keep_50 (fun H locs hw => ?_)
  have hw : Wst E (XW E a) (sr (sr σ 56 (upd (upd (upd (σ 56) 0 (σ 0 0)) 1 (σ 0 1)) 2 (σ 0 2))) 56 (va_cpy (σ 15) (upd (upd (upd (σ 56) 0 (σ 0 0)) 1 (σ 0 1)) 2 (σ 0 2)) 0 3 3)) A s.heap H locs := hw
  have hst_ : sr (sr σ 56 (upd (upd (upd (σ 56) 0 (σ 0 0)) 1 (σ 0 1)) 2 (σ 0 2))) 56 (va_cpy (σ 15) (upd (upd (upd (σ 56) 0 (σ 0 0)) 1 (σ 0 1)) 2 (σ 0 2)) 0 3 3) = sr σ 56 (va_cpy (σ 15) (upd (upd (upd (σ 56) 0 (σ 0 0)) 1 (σ 0 1)) 2 (σ 0 2)) 0 3 3) := by
    funext j_ x_
    by_cases e0 : j_ = 0
    · subst e0
      rfl
    · by_cases e56 : j_ = 56
      · subst e56; rfl
      · simp only [sr, e0, e56, if_false]
  rw [hst_] at hw
  refine lv_iinc (v := nI (3 + 3)) (lv' := [(2, .int (nI (3 + 3))), (1, .ref (a 56)), (0, .ref (a 68))]) hC.1 hC.2.1 dX7_keep_53 hl (k := 0) rfl (nI_add _ _) (by decide) rfl (fun ls hl => ?_)
  refine lv_iconst (v := nI 0) hC.1 hC.2.1 dX7_keep_56 (by decide) ?_
  refine lv_istore_n (lv' := [(3, .int (nI 0)), (2, .int (nI (3 + 3))), (1, .ref (a 56)), (0, .ref (a 68))]) hC.1 hC.2.1 dX7_keep_57 rfl hl (by decide) rfl (fun ls hl => ?_)
  have L58_0 : ∀ (n : Nat), ∀ (h : Nat), (h ≤ 10) → (10 - h) < n → ∀ (H : Heap) (locs : List Loc) (ls : Array Slot), Wst E (XW E a) (sr σ 56 (upc (σ 4) h (va_cpy (σ 15) (upd (upd (upd (σ 56) 0 (σ 0 0)) 1 (σ 0 1)) 2 (σ 0 2)) 0 3 3))) A s.heap H locs → lv_has ls 4 [(0, .ref (a 68)), (1, .ref (a 56)), (2, .int (nI (3 + 3))), (3, .int (nI h))] → W p l e ({ frames := 1, cells := 0, slots := 0, locals := 24 }) s m args below meth c H locs 0 0 Q (F0 m 58 ls []) := by
    intro n
    induction n with
    | zero => intro h hh hn; exact absurd hn (Nat.not_lt_zero _)
    | succ n ih58 =>
      intro h hh hn58 H locs ls hw hl
      refine lv_iload_n hC.1 hC.2.1 dX7_keep_58 rfl (lv_at hl 3 rfl) ?_
      refine lv_bipush (v := nI 10) hC.1 hC.2.1 dX7_keep_59 (by decide) ?_
      refine q_cmpge hC 92 (cNle (by omega) (by omega)) dX7_keep_61 (by decide) (fun (c2 : 10 ≤ h) => ?_) (fun (c2 : h < 10) => ?_)
      · have hh9 : h = 10 := by omega
        rw [hh9] at hw
        refine lv_iinc (v := nI (3 + 3 + 10)) (lv' := [(2, .int (nI (3 + 3 + 10))), (0, .ref (a 68)), (1, .ref (a 56)), (3, .int (nI h))]) hC.1 hC.2.1 dX7_keep_92 hl (k := 2) rfl (nI_add _ _) (by decide) rfl (fun ls hl => ?_)
        refine lv_aload_n hC.1 hC.2.1 dX7_keep_95 rfl (lv_at hl 1 rfl) ?_
        refine gf_X7_20 hC hw dX7_keep_96 ?_
        refine gf_X7_53 hC hw dX7_keep_99 ?_
        refine lv_iconst (v := nI 0) hC.1 hC.2.1 dX7_keep_102 (by decide) ?_
        refine lv_aload_n hC.1 hC.2.1 dX7_keep_103 rfl (lv_at hl 2 rfl) ?_
        refine lv_iload_n hC.1 hC.2.1 dX7_keep_104 rfl (lv_at hl 0 rfl) ?_
        refine lv_bipush (v := nI 24) hC.1 hC.2.1 dX7_keep_105 (by decide) ?_
        refine q_cpy (sp := 0) (dp := (3 + 3 + 10)) (n := 24) 21 rfl 66 rfl (XW_s56 _) hC hw hl (by omega) (by omega) (by decide) (by decide) ⟨Nat.le_of_ble_eq_true rfl, Nat.le_of_ble_eq_true rfl⟩ wk2_182 dX7_keep_107 (fun H locs hw => ?_)
        have hw : Wst E (XW E a) (sr (sr σ 56 (upc (σ 4) 10 (va_cpy (σ 15) (upd (upd (upd (σ 56) 0 (σ 0 0)) 1 (σ 0 1)) 2 (σ 0 2)) 0 3 3))) 56 (va_cpy (σ 11) (upc (σ 4) 10 (va_cpy (σ 15) (upd (upd (upd (σ 56) 0 (σ 0 0)) 1 (σ 0 1)) 2 (σ 0 2)) 0 3 3)) 0 (3 + 3 + 10) 24)) A s.heap H locs := hw
        have hst_ : sr (sr σ 56 (upc (σ 4) 10 (va_cpy (σ 15) (upd (upd (upd (σ 56) 0 (σ 0 0)) 1 (σ 0 1)) 2 (σ 0 2)) 0 3 3))) 56 (va_cpy (σ 11) (upc (σ 4) 10 (va_cpy (σ 15) (upd (upd (upd (σ 56) 0 (σ 0 0)) 1 (σ 0 1)) 2 (σ 0 2)) 0 3 3)) 0 (3 + 3 + 10) 24) = sr σ 56 (va_cpy (σ 11) (upc (σ 4) 10 (va_cpy (σ 15) (upd (upd (upd (σ 56) 0 (σ 0 0)) 1 (σ 0 1)) 2 (σ 0 2)) 0 3 3)) 0 (3 + 3 + 10) 24) := by
          funext j_ x_
          by_cases e0 : j_ = 0
          · subst e0
            rfl
          · by_cases e56 : j_ = 56
            · subst e56; rfl
            · simp only [sr, e0, e56, if_false]
        rw [hst_] at hw
        refine lv_aload_n hC.1 hC.2.1 dX7_keep_110 rfl (lv_at hl 1 rfl) ?_
        refine gf_X7_20 hC hw dX7_keep_111 ?_
        refine gf_X7_56 hC hw dX7_keep_114 ?_
        refine lv_iconst (v := nI 0) hC.1 hC.2.1 dX7_keep_117 (by decide) ?_
        refine lv_aload_n hC.1 hC.2.1 dX7_keep_118 rfl (lv_at hl 2 rfl) ?_
        refine lv_iload_n hC.1 hC.2.1 dX7_keep_119 rfl (lv_at hl 0 rfl) ?_
        refine lv_bipush (v := nI 24) hC.1 hC.2.1 dX7_keep_120 (by decide) ?_
        refine q_addN hC dX7_keep_122 ?_
        refine lv_bipush (v := nI 24) hC.1 hC.2.1 dX7_keep_123 (by decide) ?_
        refine q_cpy (sp := 0) (dp := ((3 + 3 + 10) + 24)) (n := 24) 22 rfl 66 rfl (XW_s56 _) hC hw hl (by omega) (by omega) (by decide) (by decide) ⟨Nat.le_of_ble_eq_true rfl, Nat.le_of_ble_eq_true rfl⟩ wk2_182 dX7_keep_125 (fun H locs hw => ?_)
        have hw : Wst E (XW E a) (sr (sr σ 56 (va_cpy (σ 11) (upc (σ 4) 10 (va_cpy (σ 15) (upd (upd (upd (σ 56) 0 (σ 0 0)) 1 (σ 0 1)) 2 (σ 0 2)) 0 3 3)) 0 (3 + 3 + 10) 24)) 56 (va_cpy (σ 12) (va_cpy (σ 11) (upc (σ 4) 10 (va_cpy (σ 15) (upd (upd (upd (σ 56) 0 (σ 0 0)) 1 (σ 0 1)) 2 (σ 0 2)) 0 3 3)) 0 (3 + 3 + 10) 24) 0 ((3 + 3 + 10) + 24) 24)) A s.heap H locs := hw
        have hst_ : sr (sr σ 56 (va_cpy (σ 11) (upc (σ 4) 10 (va_cpy (σ 15) (upd (upd (upd (σ 56) 0 (σ 0 0)) 1 (σ 0 1)) 2 (σ 0 2)) 0 3 3)) 0 (3 + 3 + 10) 24)) 56 (va_cpy (σ 12) (va_cpy (σ 11) (upc (σ 4) 10 (va_cpy (σ 15) (upd (upd (upd (σ 56) 0 (σ 0 0)) 1 (σ 0 1)) 2 (σ 0 2)) 0 3 3)) 0 (3 + 3 + 10) 24) 0 ((3 + 3 + 10) + 24) 24) = sr σ 56 (va_cpy (σ 12) (va_cpy (σ 11) (upc (σ 4) 10 (va_cpy (σ 15) (upd (upd (upd (σ 56) 0 (σ 0 0)) 1 (σ 0 1)) 2 (σ 0 2)) 0 3 3)) 0 (3 + 3 + 10) 24) 0 ((3 + 3 + 10) + 24) 24) := by
          funext j_ x_
          by_cases e0 : j_ = 0
          · subst e0
            rfl
          · by_cases e56 : j_ = 56
            · subst e56; rfl
            · simp only [sr, e0, e56, if_false]
        rw [hst_] at hw
        refine lv_aload_n hC.1 hC.2.1 dX7_keep_128 rfl (lv_at hl 1 rfl) ?_
        refine gf_X7_20 hC hw dX7_keep_129 ?_
        refine gf_X7_59 hC hw dX7_keep_132 ?_
        refine lv_iconst (v := nI 0) hC.1 hC.2.1 dX7_keep_135 (by decide) ?_
        refine lv_aload_n hC.1 hC.2.1 dX7_keep_136 rfl (lv_at hl 2 rfl) ?_
        refine lv_iload_n hC.1 hC.2.1 dX7_keep_137 rfl (lv_at hl 0 rfl) ?_
        refine lv_bipush (v := nI 48) hC.1 hC.2.1 dX7_keep_138 (by decide) ?_
        refine q_addN hC dX7_keep_140 ?_
        refine lv_bipush (v := nI 24) hC.1 hC.2.1 dX7_keep_141 (by decide) ?_
        refine q_cpy (sp := 0) (dp := ((3 + 3 + 10) + 48)) (n := 24) 23 rfl 66 rfl (XW_s56 _) hC hw hl (by omega) (by omega) (by decide) (by decide) ⟨Nat.le_of_ble_eq_true rfl, Nat.le_of_ble_eq_true rfl⟩ wk2_182 dX7_keep_143 (fun H locs hw => ?_)
        have hw : Wst E (XW E a) (sr (sr σ 56 (va_cpy (σ 12) (va_cpy (σ 11) (upc (σ 4) 10 (va_cpy (σ 15) (upd (upd (upd (σ 56) 0 (σ 0 0)) 1 (σ 0 1)) 2 (σ 0 2)) 0 3 3)) 0 (3 + 3 + 10) 24) 0 ((3 + 3 + 10) + 24) 24)) 56 (va_cpy (σ 13) (va_cpy (σ 12) (va_cpy (σ 11) (upc (σ 4) 10 (va_cpy (σ 15) (upd (upd (upd (σ 56) 0 (σ 0 0)) 1 (σ 0 1)) 2 (σ 0 2)) 0 3 3)) 0 (3 + 3 + 10) 24) 0 ((3 + 3 + 10) + 24) 24) 0 ((3 + 3 + 10) + 48) 24)) A s.heap H locs := hw
        have hst_ : sr (sr σ 56 (va_cpy (σ 12) (va_cpy (σ 11) (upc (σ 4) 10 (va_cpy (σ 15) (upd (upd (upd (σ 56) 0 (σ 0 0)) 1 (σ 0 1)) 2 (σ 0 2)) 0 3 3)) 0 (3 + 3 + 10) 24) 0 ((3 + 3 + 10) + 24) 24)) 56 (va_cpy (σ 13) (va_cpy (σ 12) (va_cpy (σ 11) (upc (σ 4) 10 (va_cpy (σ 15) (upd (upd (upd (σ 56) 0 (σ 0 0)) 1 (σ 0 1)) 2 (σ 0 2)) 0 3 3)) 0 (3 + 3 + 10) 24) 0 ((3 + 3 + 10) + 24) 24) 0 ((3 + 3 + 10) + 48) 24) = sr σ 56 (va_cpy (σ 13) (va_cpy (σ 12) (va_cpy (σ 11) (upc (σ 4) 10 (va_cpy (σ 15) (upd (upd (upd (σ 56) 0 (σ 0 0)) 1 (σ 0 1)) 2 (σ 0 2)) 0 3 3)) 0 (3 + 3 + 10) 24) 0 ((3 + 3 + 10) + 24) 24) 0 ((3 + 3 + 10) + 48) 24) := by
          funext j_ x_
          by_cases e0 : j_ = 0
          · subst e0
            rfl
          · by_cases e56 : j_ = 56
            · subst e56; rfl
            · simp only [sr, e0, e56, if_false]
        rw [hst_] at hw
        refine lv_aload_n hC.1 hC.2.1 dX7_keep_146 rfl (lv_at hl 1 rfl) ?_
        refine gf_X7_20 hC hw dX7_keep_147 ?_
        refine gf_X7_62 hC hw dX7_keep_150 ?_
        refine lv_iconst (v := nI 0) hC.1 hC.2.1 dX7_keep_153 (by decide) ?_
        refine lv_aload_n hC.1 hC.2.1 dX7_keep_154 rfl (lv_at hl 2 rfl) ?_
        refine lv_iload_n hC.1 hC.2.1 dX7_keep_155 rfl (lv_at hl 0 rfl) ?_
        refine lv_bipush (v := nI 72) hC.1 hC.2.1 dX7_keep_156 (by decide) ?_
        refine q_addN hC dX7_keep_158 ?_
        refine lv_bipush (v := nI 24) hC.1 hC.2.1 dX7_keep_159 (by decide) ?_
        refine q_cpy (sp := 0) (dp := ((3 + 3 + 10) + 72)) (n := 24) 24 rfl 66 rfl (XW_s56 _) hC hw hl (by omega) (by omega) (by decide) (by decide) ⟨Nat.le_of_ble_eq_true rfl, Nat.le_of_ble_eq_true rfl⟩ wk2_182 dX7_keep_161 (fun H locs hw => ?_)
        have hw : Wst E (XW E a) (sr (sr σ 56 (va_cpy (σ 13) (va_cpy (σ 12) (va_cpy (σ 11) (upc (σ 4) 10 (va_cpy (σ 15) (upd (upd (upd (σ 56) 0 (σ 0 0)) 1 (σ 0 1)) 2 (σ 0 2)) 0 3 3)) 0 (3 + 3 + 10) 24) 0 ((3 + 3 + 10) + 24) 24) 0 ((3 + 3 + 10) + 48) 24)) 56 (va_cpy (σ 14) (va_cpy (σ 13) (va_cpy (σ 12) (va_cpy (σ 11) (upc (σ 4) 10 (va_cpy (σ 15) (upd (upd (upd (σ 56) 0 (σ 0 0)) 1 (σ 0 1)) 2 (σ 0 2)) 0 3 3)) 0 (3 + 3 + 10) 24) 0 ((3 + 3 + 10) + 24) 24) 0 ((3 + 3 + 10) + 48) 24) 0 ((3 + 3 + 10) + 72) 24)) A s.heap H locs := hw
        have hst_ : sr (sr σ 56 (va_cpy (σ 13) (va_cpy (σ 12) (va_cpy (σ 11) (upc (σ 4) 10 (va_cpy (σ 15) (upd (upd (upd (σ 56) 0 (σ 0 0)) 1 (σ 0 1)) 2 (σ 0 2)) 0 3 3)) 0 (3 + 3 + 10) 24) 0 ((3 + 3 + 10) + 24) 24) 0 ((3 + 3 + 10) + 48) 24)) 56 (va_cpy (σ 14) (va_cpy (σ 13) (va_cpy (σ 12) (va_cpy (σ 11) (upc (σ 4) 10 (va_cpy (σ 15) (upd (upd (upd (σ 56) 0 (σ 0 0)) 1 (σ 0 1)) 2 (σ 0 2)) 0 3 3)) 0 (3 + 3 + 10) 24) 0 ((3 + 3 + 10) + 24) 24) 0 ((3 + 3 + 10) + 48) 24) 0 ((3 + 3 + 10) + 72) 24) = sr σ 56 (va_cpy (σ 14) (va_cpy (σ 13) (va_cpy (σ 12) (va_cpy (σ 11) (upc (σ 4) 10 (va_cpy (σ 15) (upd (upd (upd (σ 56) 0 (σ 0 0)) 1 (σ 0 1)) 2 (σ 0 2)) 0 3 3)) 0 (3 + 3 + 10) 24) 0 ((3 + 3 + 10) + 24) 24) 0 ((3 + 3 + 10) + 48) 24) 0 ((3 + 3 + 10) + 72) 24) := by
          funext j_ x_
          by_cases e0 : j_ = 0
          · subst e0
            rfl
          · by_cases e56 : j_ = 56
            · subst e56; rfl
            · simp only [sr, e0, e56, if_false]
        rw [hst_] at hw
        refine lv_aload_n hC.1 hC.2.1 dX7_keep_164 rfl (lv_at hl 1 rfl) ?_
        refine lv_aload_n hC.1 hC.2.1 dX7_keep_165 rfl (lv_at hl 1 rfl) ?_
        refine gf_X7_28 (v := nI 26) hC hw hnx dX7_keep_166 ?_
        refine lv_bipush (v := nI 29) hC.1 hC.2.1 dX7_keep_169 (by decide) ?_
        have J184_4 : ∀ (w3 : Nat), w3 = (if 26 ≠ 29 then (26 + 1) else 0) → ∀ (H : Heap) (locs : List Loc) (ls : Array Slot), Wst E (XW E a) (sr σ 56 (va_cpy (σ 14) (va_cpy (σ 13) (va_cpy (σ 12) (va_cpy (σ 11) (upc (σ 4) 10 (va_cpy (σ 15) (upd (upd (upd (σ 56) 0 (σ 0 0)) 1 (σ 0 1)) 2 (σ 0 2)) 0 3 3)) 0 (3 + 3 + 10) 24) 0 ((3 + 3 + 10) + 24) 24) 0 ((3 + 3 + 10) + 48) 24) 0 ((3 + 3 + 10) + 72) 24)) A s.heap H locs → lv_has ls 4 [(0, .ref (a 68)), (1, .ref (a 56)), (2, .int (nI (3 + 3 + 10))), (3, .int (nI h))] → W p l e ({ frames := 1, cells := 0, slots := 0, locals := 24 }) s m args below meth c H locs 0 0 Q (F0 m 184 ls [.int (nI w3), .ref (a 68)]) := by
          intro w3 e4 H locs ls hw hl
          subst e4
          refine pf_X7_28 hC hw dX7_keep_184 (fun H locs hw => ?_)
          have hw : Wst E (XW E a) (sr (sr σ 56 (va_cpy (σ 14) (va_cpy (σ 13) (va_cpy (σ 12) (va_cpy (σ 11) (upc (σ 4) 10 (va_cpy (σ 15) (upd (upd (upd (σ 56) 0 (σ 0 0)) 1 (σ 0 1)) 2 (σ 0 2)) 0 3 3)) 0 (3 + 3 + 10) 24) 0 ((3 + 3 + 10) + 24) 24) 0 ((3 + 3 + 10) + 48) 24) 0 ((3 + 3 + 10) + 72) 24)) 0 (upd (σ 0) 3 (nI (if 26 ≠ 29 then (26 + 1) else 0)))) A s.heap H locs := hw
          refine lv_aload_n hC.1 hC.2.1 dX7_keep_187 rfl (lv_at hl 0 rfl) ?_
          refine lv_aload_n hC.1 hC.2.1 dX7_keep_188 rfl (lv_at hl 0 rfl) ?_
          refine gf_X7_65 (v := nI kp) hC hw hkp dX7_keep_189 ?_
          refine lv_bipush (v := nI 30) hC.1 hC.2.1 dX7_keep_192 (by decide) ?_
          have J210_6 : ∀ (w5 : Nat), w5 = (if kp ≠ 30 then (kp + 1) else kp) → ∀ (H : Heap) (locs : List Loc) (ls : Array Slot), Wst E (XW E a) (sr (sr σ 56 (va_cpy (σ 14) (va_cpy (σ 13) (va_cpy (σ 12) (va_cpy (σ 11) (upc (σ 4) 10 (va_cpy (σ 15) (upd (upd (upd (σ 56) 0 (σ 0 0)) 1 (σ 0 1)) 2 (σ 0 2)) 0 3 3)) 0 (3 + 3 + 10) 24) 0 ((3 + 3 + 10) + 24) 24) 0 ((3 + 3 + 10) + 48) 24) 0 ((3 + 3 + 10) + 72) 24)) 0 (upd (σ 0) 3 (nI (if 26 ≠ 29 then (26 + 1) else 0)))) A s.heap H locs → lv_has ls 4 [(0, .ref (a 68)), (1, .ref (a 56)), (2, .int (nI (3 + 3 + 10))), (3, .int (nI h))] → W p l e ({ frames := 1, cells := 0, slots := 0, locals := 24 }) s m args below meth c H locs 0 0 Q (F0 m 210 ls [.int (nI w5), .ref (a 68)]) := by
            intro w5 e6 H locs ls hw hl
            subst e6
            refine pf_X7_65 hC hw dX7_keep_210 (fun H locs hw => ?_)
            have hw : Wst E (XW E a) (sr (sr (sr σ 56 (va_cpy (σ 14) (va_cpy (σ 13) (va_cpy (σ 12) (va_cpy (σ 11) (upc (σ 4) 10 (va_cpy (σ 15) (upd (upd (upd (σ 56) 0 (σ 0 0)) 1 (σ 0 1)) 2 (σ 0 2)) 0 3 3)) 0 (3 + 3 + 10) 24) 0 ((3 + 3 + 10) + 24) 24) 0 ((3 + 3 + 10) + 48) 24) 0 ((3 + 3 + 10) + 72) 24)) 0 (upd (σ 0) 3 (nI (if 26 ≠ 29 then (26 + 1) else 0)))) 0 (upd (upd (σ 0) 3 (nI (if 26 ≠ 29 then (26 + 1) else 0))) 4 (nI (if kp ≠ 30 then (kp + 1) else kp)))) A s.heap H locs := hw
            have hst_ : sr (sr (sr σ 56 (va_cpy (σ 14) (va_cpy (σ 13) (va_cpy (σ 12) (va_cpy (σ 11) (upc (σ 4) 10 (va_cpy (σ 15) (upd (upd (upd (σ 56) 0 (σ 0 0)) 1 (σ 0 1)) 2 (σ 0 2)) 0 3 3)) 0 (3 + 3 + 10) 24) 0 ((3 + 3 + 10) + 24) 24) 0 ((3 + 3 + 10) + 48) 24) 0 ((3 + 3 + 10) + 72) 24)) 0 (upd (σ 0) 3 (nI (if 26 ≠ 29 then (26 + 1) else 0)))) 0 (upd (upd (σ 0) 3 (nI (if 26 ≠ 29 then (26 + 1) else 0))) 4 (nI (if kp ≠ 30 then (kp + 1) else kp))) = sr (sr σ 56 (va_cpy (σ 14) (va_cpy (σ 13) (va_cpy (σ 12) (va_cpy (σ 11) (upc (σ 4) 10 (va_cpy (σ 15) (upd (upd (upd (σ 56) 0 (σ 0 0)) 1 (σ 0 1)) 2 (σ 0 2)) 0 3 3)) 0 (3 + 3 + 10) 24) 0 ((3 + 3 + 10) + 24) 24) 0 ((3 + 3 + 10) + 48) 24) 0 ((3 + 3 + 10) + 72) 24)) 0 (upd (upd (σ 0) 3 (nI (if 26 ≠ 29 then (26 + 1) else 0))) 4 (nI (if kp ≠ 30 then (kp + 1) else kp))) := by
              funext j_ x_
              by_cases e0 : j_ = 0
              · subst e0
                by_cases y3 : x_ = 3
                · subst y3; rfl
                · by_cases y4 : x_ = 4
                  · subst y4; rfl
                  · simp [sr, upd, y3, y4]
              · by_cases e56 : j_ = 56
                · subst e56; rfl
                · simp only [sr, e0, e56, if_false]
            rw [hst_] at hw
            refine hret _ _ _ _ _ hw ?_ dX7_keep_213
            exact rfl
          refine q_cmpne hC 204 (cNeq (by omega) (by omega)) dX7_keep_194 (by decide) (fun (c7 : kp ≠ 30) => ?_) (fun (c7 : kp = 30) => ?_)
          · refine lv_aload_n hC.1 hC.2.1 dX7_keep_204 rfl (lv_at hl 0 rfl) ?_
            refine gf_X7_65 (v := nI kp) hC hw hkp dX7_keep_205 ?_
            refine lv_iconst (v := nI 1) hC.1 hC.2.1 dX7_keep_208 (by decide) ?_
            refine q_addN hC dX7_keep_209 ?_
            exact J210_6 _ (by (rw [if_pos c7]) <;> rfl) _ _ _ hw (lv_sub hl [0, 1, 2, 3] rfl)
          · refine lv_aload_n hC.1 hC.2.1 dX7_keep_197 rfl (lv_at hl 0 rfl) ?_
            refine gf_X7_65 (v := nI kp) hC hw hkp dX7_keep_198 ?_
            refine lv_goto (tgt := 210) hC.1 hC.2.1 dX7_keep_201 (by decide) ?_
            exact J210_6 _ (by (rw [if_neg (fun q => q c7)]) <;> rfl) _ _ _ hw (lv_sub hl [0, 1, 2, 3] rfl)
        refine q_cmpne hC 178 (cNeq (by omega) (by omega)) dX7_keep_171 (by decide) (fun (c8 : 26 ≠ 29) => ?_) (fun (c8 : 26 = 29) => ?_)
        · refine lv_aload_n hC.1 hC.2.1 dX7_keep_178 rfl (lv_at hl 1 rfl) ?_
          refine gf_X7_28 (v := nI 26) hC hw hnx dX7_keep_179 ?_
          refine lv_iconst (v := nI 1) hC.1 hC.2.1 dX7_keep_182 (by decide) ?_
          refine q_addN hC dX7_keep_183 ?_
          exact J184_4 _ (by (rw [if_pos c8]) <;> rfl) _ _ _ hw (lv_sub hl [1, 2, 0, 3] rfl)
        · refine lv_iconst (v := nI 0) hC.1 hC.2.1 dX7_keep_174 (by decide) ?_
          refine lv_goto (tgt := 184) hC.1 hC.2.1 dX7_keep_175 (by decide) ?_
          exact J184_4 _ (by (rw [if_neg (fun q => q c8)]) <;> rfl) _ _ _ hw (lv_sub hl [1, 2, 0, 3] rfl)
      · refine lv_aload_n hC.1 hC.2.1 dX7_keep_64 rfl (lv_at hl 1 rfl) ?_
        refine lv_iload_n hC.1 hC.2.1 dX7_keep_65 rfl (lv_at hl 2 rfl) ?_
        refine lv_iload_n hC.1 hC.2.1 dX7_keep_66 rfl (lv_at hl 3 rfl) ?_
        refine q_addN hC dX7_keep_67 ?_
        refine lv_aload_n hC.1 hC.2.1 dX7_keep_68 rfl (lv_at hl 0 rfl) ?_
        refine gf_X7_16 hC hw dX7_keep_69 ?_
        refine gf_X7_49 hC hw dX7_keep_72 ?_
        refine lv_iload_n hC.1 hC.2.1 dX7_keep_75 rfl (lv_at hl 3 rfl) ?_
        refine al_X4 (v := σ 4 h) hC hw (by omega) rfl dX7_keep_76 ?_
        have J85_10 : ∀ (w9 : Int32), w9 = (if ¬ (σ 4 h = 0) then (1 : Int32) else 0) → ∀ (H : Heap) (locs : List Loc) (ls : Array Slot), Wst E (XW E a) (sr σ 56 (upc (σ 4) h (va_cpy (σ 15) (upd (upd (upd (σ 56) 0 (σ 0 0)) 1 (σ 0 1)) 2 (σ 0 2)) 0 3 3))) A s.heap H locs → lv_has ls 4 [(0, .ref (a 68)), (1, .ref (a 56)), (2, .int (nI (3 + 3))), (3, .int (nI h))] → W p l e ({ frames := 1, cells := 0, slots := 0, locals := 24 }) s m args below meth c H locs 0 0 Q (F0 m 85 ls [.int (w9), .int (nI ((3 + 3) + h)), .ref (a 56)]) := by
          intro w9 e10 H locs ls hw hl
          subst e10
          refine q_ast (Wf := XW E a) 66 rfl (by decide) (XW_s56 _) hC hw (by omega) dX7_keep_85 (fun H locs hw => ?_)
          have hw : Wst E (XW E a) (sr (sr σ 56 (upc (σ 4) h (va_cpy (σ 15) (upd (upd (upd (σ 56) 0 (σ 0 0)) 1 (σ 0 1)) 2 (σ 0 2)) 0 3 3))) 56 (upd (upc (σ 4) h (va_cpy (σ 15) (upd (upd (upd (σ 56) 0 (σ 0 0)) 1 (σ 0 1)) 2 (σ 0 2)) 0 3 3)) ((3 + 3) + h) (if ¬ (σ 4 h = 0) then (1 : Int32) else 0))) A s.heap H locs := hw
          have hst_ : sr (sr σ 56 (upc (σ 4) h (va_cpy (σ 15) (upd (upd (upd (σ 56) 0 (σ 0 0)) 1 (σ 0 1)) 2 (σ 0 2)) 0 3 3))) 56 (upd (upc (σ 4) h (va_cpy (σ 15) (upd (upd (upd (σ 56) 0 (σ 0 0)) 1 (σ 0 1)) 2 (σ 0 2)) 0 3 3)) ((3 + 3) + h) (if ¬ (σ 4 h = 0) then (1 : Int32) else 0)) = sr σ 56 (upd (upc (σ 4) h (va_cpy (σ 15) (upd (upd (upd (σ 56) 0 (σ 0 0)) 1 (σ 0 1)) 2 (σ 0 2)) 0 3 3)) ((3 + 3) + h) (if ¬ (σ 4 h = 0) then (1 : Int32) else 0)) := by
            funext j_ x_
            by_cases e0 : j_ = 0
            · subst e0
              rfl
            · by_cases e56 : j_ = 56
              · subst e56; rfl
              · simp only [sr, e0, e56, if_false]
          rw [hst_] at hw
          refine lv_iinc (v := nI (h + 1)) (lv' := [(3, .int (nI (h + 1))), (0, .ref (a 68)), (1, .ref (a 56)), (2, .int (nI (3 + 3)))]) hC.1 hC.2.1 dX7_keep_86 hl (k := 3) rfl (nI_add _ _) (by decide) rfl (fun ls hl => ?_)
          refine lv_goto (tgt := 58) hC.1 hC.2.1 dX7_keep_89 (by decide) ?_
          rw [upc_s] at hw
          exact ih58 (h + 1) (by omega) (by omega) _ _ _ hw (lv_sub hl [1, 2, 3, 0] rfl)
        refine q_ifeq hC 84 cI dX7_keep_77 (by decide) (fun (c11 : σ 4 h = 0) => ?_) (fun (c11 : ¬ (σ 4 h = 0)) => ?_)
        · refine lv_iconst (v := nI 0) hC.1 hC.2.1 dX7_keep_84 (by decide) ?_
          exact J85_10 _ (if_neg (fun q => q c11)).symm _ _ _ hw (lv_sub hl [0, 1, 2, 3] rfl)
        · refine lv_iconst (v := nI 1) hC.1 hC.2.1 dX7_keep_80 (by decide) ?_
          refine lv_goto (tgt := 85) hC.1 hC.2.1 dX7_keep_81 (by decide) ?_
          exact J85_10 _ (if_pos c11).symm _ _ _ hw (lv_sub hl [0, 1, 2, 3] rfl)
  rw [← upc_0 (σ 4) (va_cpy (σ 15) (upd (upd (upd (σ 56) 0 (σ 0 0)) 1 (σ 0 1)) 2 (σ 0 2)) 0 3 3)] at hw
  exact L58_0 _ 0 (by omega) (Nat.lt_succ_self _) _ _ _ hw (lv_sub hl [3, 2, 1, 0] rfl)
set_option maxHeartbeats 4000000 in
set_option maxRecDepth 100000 in
theorem tX7_keep_k27 (l : Launch) (E : EV) (a : Nat → Nat) (σ : St) (kp : Nat) (hnx : σ 0 3 = nI 27) (hkp : σ 0 4 = nI kp) (hk30 : kp ≤ 30) : MV l E (XW E a) yX7_keep (Cond.code yX7_keep cX7_keep 4 none) ({ frames := 1, cells := 0, slots := 0, locals := 24 }) [.ref (a 68)] σ (fun u_ => u_ = sr (sr σ 57 (kpr σ (σ 57))) 0 (upd (upd (σ 0) 3 (nI (if 27 ≠ 29 then 27 + 1 else 0))) 4 (nI (if kp ≠ 30 then kp + 1 else kp)))) := by
  refine MV.mk (by decide +kernel) (Nat.le_of_ble_eq_true rfl) ?_
  intro p e s m args below meth c ls A Q hret hC hw hl
  have hC : Cxt E p s m args meth c cX7_keep 4 none RX7 A := hC
  have hl : lv_has ls 4 [(0, .ref (a 68))] := hl
  refine lv_aload_n hC.1 hC.2.1 dX7_keep_0 rfl (lv_at hl 0 rfl) ?_
  refine gf_X7_13 hC hw dX7_keep_1 ?_
  refine lv_aload_n hC.1 hC.2.1 dX7_keep_4 rfl (lv_at hl 0 rfl) ?_
  refine gf_X7_28 (v := nI 27) hC hw hnx dX7_keep_5 ?_
  refine q_aald hC hw (i := 27) (by decide) dX7_keep_8 ?_
  refine lv_astore_n (lv' := [(1, .ref (a 57)), (0, .ref (a 68))]) hC.1 hC.2.1 dX7_keep_9 rfl hl (by decide) rfl (fun ls hl => ?_)
  refine lv_aload_n hC.1 hC.2.1 dX7_keep_10 rfl (lv_at hl 0 rfl) ?_
  refine lv_iconst (v := nI 0) hC.1 hC.2.1 dX7_keep_11 (by decide) ?_
  refine lv_aload_n hC.1 hC.2.1 dX7_keep_12 rfl (lv_at hl 1 rfl) ?_
  refine gf_X7_16 hC hw dX7_keep_13 ?_
  refine gf_X7_32 (v := σ 0 0) hC hw rfl dX7_keep_16 ?_
  refine q_ast (Wf := XW E a) 67 rfl (by decide) (XW_s57 _) hC hw (by omega) dX7_keep_19 (fun H locs hw => ?_)
  have hw : Wst E (XW E a) (sr σ 57 (upd (σ 57) 0 (σ 0 0))) A s.heap H locs := hw
  refine lv_aload_n hC.1 hC.2.1 dX7_keep_20 rfl (lv_at hl 0 rfl) ?_
  refine lv_iconst (v := nI 1) hC.1 hC.2.1 dX7_keep_21 (by decide) ?_
  refine lv_aload_n hC.1 hC.2.1 dX7_keep_22 rfl (lv_at hl 1 rfl) ?_
  refine gf_X7_20 hC hw dX7_keep_23 ?_
  refine gf_X7_37 (v := σ 0 1) hC hw rfl dX7_keep_26 ?_
  refine q_ast (Wf := XW E a) 67 rfl (by decide) (XW_s57 _) hC hw (by omega) dX7_keep_29 (fun H locs hw => ?_)
  have hw : Wst E (XW E a) (sr (sr σ 57 (upd (σ 57) 0 (σ 0 0))) 57 (upd (upd (σ 57) 0 (σ 0 0)) 1 (σ 0 1))) A s.heap H locs := hw
  have hst_ : sr (sr σ 57 (upd (σ 57) 0 (σ 0 0))) 57 (upd (upd (σ 57) 0 (σ 0 0)) 1 (σ 0 1)) = sr σ 57 (upd (upd (σ 57) 0 (σ 0 0)) 1 (σ 0 1)) := by
    funext j_ x_
    by_cases e0 : j_ = 0
    · subst e0
      rfl
    · by_cases e57 : j_ = 57
      · subst e57; rfl
      · simp only [sr, e0, e57, if_false]
  rw [hst_] at hw
  refine lv_aload_n hC.1 hC.2.1 dX7_keep_30 rfl (lv_at hl 0 rfl) ?_
  refine lv_iconst (v := nI 2) hC.1 hC.2.1 dX7_keep_31 (by decide) ?_
  refine lv_aload_n hC.1 hC.2.1 dX7_keep_32 rfl (lv_at hl 1 rfl) ?_
  refine gf_X7_20 hC hw dX7_keep_33 ?_
  refine gf_X7_40 (v := σ 0 2) hC hw rfl dX7_keep_36 ?_
  refine q_ast (Wf := XW E a) 67 rfl (by decide) (XW_s57 _) hC hw (by omega) dX7_keep_39 (fun H locs hw => ?_)
  have hw : Wst E (XW E a) (sr (sr σ 57 (upd (upd (σ 57) 0 (σ 0 0)) 1 (σ 0 1))) 57 (upd (upd (upd (σ 57) 0 (σ 0 0)) 1 (σ 0 1)) 2 (σ 0 2))) A s.heap H locs := hw
  have hst_ : sr (sr σ 57 (upd (upd (σ 57) 0 (σ 0 0)) 1 (σ 0 1))) 57 (upd (upd (upd (σ 57) 0 (σ 0 0)) 1 (σ 0 1)) 2 (σ 0 2)) = sr σ 57 (upd (upd (upd (σ 57) 0 (σ 0 0)) 1 (σ 0 1)) 2 (σ 0 2)) := by
    funext j_ x_
    by_cases e0 : j_ = 0
    · subst e0
      rfl
    · by_cases e57 : j_ = 57
      · subst e57; rfl
      · simp only [sr, e0, e57, if_false]
  rw [hst_] at hw
  refine lv_iconst (v := nI 3) hC.1 hC.2.1 dX7_keep_40 (by decide) ?_
  refine lv_istore_n (lv' := [(2, .int (nI 3)), (1, .ref (a 57)), (0, .ref (a 68))]) hC.1 hC.2.1 dX7_keep_41 rfl hl (by decide) rfl (fun ls hl => ?_)
  refine lv_aload_n hC.1 hC.2.1 dX7_keep_42 rfl (lv_at hl 2 rfl) ?_
  refine gf_X7_24 hC hw dX7_keep_43 ?_
  refine lv_iconst (v := nI 0) hC.1 hC.2.1 dX7_keep_46 (by decide) ?_
  refine lv_aload_n hC.1 hC.2.1 dX7_keep_47 rfl (lv_at hl 1 rfl) ?_
  refine lv_iload_n hC.1 hC.2.1 dX7_keep_48 rfl (lv_at hl 0 rfl) ?_
  refine lv_iconst (v := nI 3) hC.1 hC.2.1 dX7_keep_49 (by decide) ?_
  refine q_cpy (sp := 0) (dp := 3) (n := 3) 25 rfl 67 rfl (XW_s57 _) hC hw hl (by omega) (by omega) (by decide) (by decide) ⟨Nat.le_of_ble_eq_true rfl, Nat.le_of_ble_eq_true rfl⟩ wk2_182 dX7_keep_50 (fun H locs hw => ?_)
  have hw : Wst E (XW E a) (sr (sr σ 57 (upd (upd (upd (σ 57) 0 (σ 0 0)) 1 (σ 0 1)) 2 (σ 0 2))) 57 (va_cpy (σ 15) (upd (upd (upd (σ 57) 0 (σ 0 0)) 1 (σ 0 1)) 2 (σ 0 2)) 0 3 3)) A s.heap H locs := hw
  have hst_ : sr (sr σ 57 (upd (upd (upd (σ 57) 0 (σ 0 0)) 1 (σ 0 1)) 2 (σ 0 2))) 57 (va_cpy (σ 15) (upd (upd (upd (σ 57) 0 (σ 0 0)) 1 (σ 0 1)) 2 (σ 0 2)) 0 3 3) = sr σ 57 (va_cpy (σ 15) (upd (upd (upd (σ 57) 0 (σ 0 0)) 1 (σ 0 1)) 2 (σ 0 2)) 0 3 3) := by
    funext j_ x_
    by_cases e0 : j_ = 0
    · subst e0
      rfl
    · by_cases e57 : j_ = 57
      · subst e57; rfl
      · simp only [sr, e0, e57, if_false]
  rw [hst_] at hw
  refine lv_iinc (v := nI (3 + 3)) (lv' := [(2, .int (nI (3 + 3))), (1, .ref (a 57)), (0, .ref (a 68))]) hC.1 hC.2.1 dX7_keep_53 hl (k := 0) rfl (nI_add _ _) (by decide) rfl (fun ls hl => ?_)
  refine lv_iconst (v := nI 0) hC.1 hC.2.1 dX7_keep_56 (by decide) ?_
  refine lv_istore_n (lv' := [(3, .int (nI 0)), (2, .int (nI (3 + 3))), (1, .ref (a 57)), (0, .ref (a 68))]) hC.1 hC.2.1 dX7_keep_57 rfl hl (by decide) rfl (fun ls hl => ?_)
  have L58_0 : ∀ (n : Nat), ∀ (h : Nat), (h ≤ 10) → (10 - h) < n → ∀ (H : Heap) (locs : List Loc) (ls : Array Slot), Wst E (XW E a) (sr σ 57 (upc (σ 4) h (va_cpy (σ 15) (upd (upd (upd (σ 57) 0 (σ 0 0)) 1 (σ 0 1)) 2 (σ 0 2)) 0 3 3))) A s.heap H locs → lv_has ls 4 [(0, .ref (a 68)), (1, .ref (a 57)), (2, .int (nI (3 + 3))), (3, .int (nI h))] → W p l e ({ frames := 1, cells := 0, slots := 0, locals := 24 }) s m args below meth c H locs 0 0 Q (F0 m 58 ls []) := by
    intro n
    induction n with
    | zero => intro h hh hn; exact absurd hn (Nat.not_lt_zero _)
    | succ n ih58 =>
      intro h hh hn58 H locs ls hw hl
      refine lv_iload_n hC.1 hC.2.1 dX7_keep_58 rfl (lv_at hl 3 rfl) ?_
      refine lv_bipush (v := nI 10) hC.1 hC.2.1 dX7_keep_59 (by decide) ?_
      refine q_cmpge hC 92 (cNle (by omega) (by omega)) dX7_keep_61 (by decide) (fun (c2 : 10 ≤ h) => ?_) (fun (c2 : h < 10) => ?_)
      · have hh9 : h = 10 := by omega
        rw [hh9] at hw
        refine lv_iinc (v := nI (3 + 3 + 10)) (lv' := [(2, .int (nI (3 + 3 + 10))), (0, .ref (a 68)), (1, .ref (a 57)), (3, .int (nI h))]) hC.1 hC.2.1 dX7_keep_92 hl (k := 2) rfl (nI_add _ _) (by decide) rfl (fun ls hl => ?_)
        refine lv_aload_n hC.1 hC.2.1 dX7_keep_95 rfl (lv_at hl 1 rfl) ?_
        refine gf_X7_20 hC hw dX7_keep_96 ?_
        refine gf_X7_53 hC hw dX7_keep_99 ?_
        refine lv_iconst (v := nI 0) hC.1 hC.2.1 dX7_keep_102 (by decide) ?_
        refine lv_aload_n hC.1 hC.2.1 dX7_keep_103 rfl (lv_at hl 2 rfl) ?_
        refine lv_iload_n hC.1 hC.2.1 dX7_keep_104 rfl (lv_at hl 0 rfl) ?_
        refine lv_bipush (v := nI 24) hC.1 hC.2.1 dX7_keep_105 (by decide) ?_
        refine q_cpy (sp := 0) (dp := (3 + 3 + 10)) (n := 24) 21 rfl 67 rfl (XW_s57 _) hC hw hl (by omega) (by omega) (by decide) (by decide) ⟨Nat.le_of_ble_eq_true rfl, Nat.le_of_ble_eq_true rfl⟩ wk2_182 dX7_keep_107 (fun H locs hw => ?_)
        have hw : Wst E (XW E a) (sr (sr σ 57 (upc (σ 4) 10 (va_cpy (σ 15) (upd (upd (upd (σ 57) 0 (σ 0 0)) 1 (σ 0 1)) 2 (σ 0 2)) 0 3 3))) 57 (va_cpy (σ 11) (upc (σ 4) 10 (va_cpy (σ 15) (upd (upd (upd (σ 57) 0 (σ 0 0)) 1 (σ 0 1)) 2 (σ 0 2)) 0 3 3)) 0 (3 + 3 + 10) 24)) A s.heap H locs := hw
        have hst_ : sr (sr σ 57 (upc (σ 4) 10 (va_cpy (σ 15) (upd (upd (upd (σ 57) 0 (σ 0 0)) 1 (σ 0 1)) 2 (σ 0 2)) 0 3 3))) 57 (va_cpy (σ 11) (upc (σ 4) 10 (va_cpy (σ 15) (upd (upd (upd (σ 57) 0 (σ 0 0)) 1 (σ 0 1)) 2 (σ 0 2)) 0 3 3)) 0 (3 + 3 + 10) 24) = sr σ 57 (va_cpy (σ 11) (upc (σ 4) 10 (va_cpy (σ 15) (upd (upd (upd (σ 57) 0 (σ 0 0)) 1 (σ 0 1)) 2 (σ 0 2)) 0 3 3)) 0 (3 + 3 + 10) 24) := by
          funext j_ x_
          by_cases e0 : j_ = 0
          · subst e0
            rfl
          · by_cases e57 : j_ = 57
            · subst e57; rfl
            · simp only [sr, e0, e57, if_false]
        rw [hst_] at hw
        refine lv_aload_n hC.1 hC.2.1 dX7_keep_110 rfl (lv_at hl 1 rfl) ?_
        refine gf_X7_20 hC hw dX7_keep_111 ?_
        refine gf_X7_56 hC hw dX7_keep_114 ?_
        refine lv_iconst (v := nI 0) hC.1 hC.2.1 dX7_keep_117 (by decide) ?_
        refine lv_aload_n hC.1 hC.2.1 dX7_keep_118 rfl (lv_at hl 2 rfl) ?_
        refine lv_iload_n hC.1 hC.2.1 dX7_keep_119 rfl (lv_at hl 0 rfl) ?_
        refine lv_bipush (v := nI 24) hC.1 hC.2.1 dX7_keep_120 (by decide) ?_
        refine q_addN hC dX7_keep_122 ?_
        refine lv_bipush (v := nI 24) hC.1 hC.2.1 dX7_keep_123 (by decide) ?_
        refine q_cpy (sp := 0) (dp := ((3 + 3 + 10) + 24)) (n := 24) 22 rfl 67 rfl (XW_s57 _) hC hw hl (by omega) (by omega) (by decide) (by decide) ⟨Nat.le_of_ble_eq_true rfl, Nat.le_of_ble_eq_true rfl⟩ wk2_182 dX7_keep_125 (fun H locs hw => ?_)
        have hw : Wst E (XW E a) (sr (sr σ 57 (va_cpy (σ 11) (upc (σ 4) 10 (va_cpy (σ 15) (upd (upd (upd (σ 57) 0 (σ 0 0)) 1 (σ 0 1)) 2 (σ 0 2)) 0 3 3)) 0 (3 + 3 + 10) 24)) 57 (va_cpy (σ 12) (va_cpy (σ 11) (upc (σ 4) 10 (va_cpy (σ 15) (upd (upd (upd (σ 57) 0 (σ 0 0)) 1 (σ 0 1)) 2 (σ 0 2)) 0 3 3)) 0 (3 + 3 + 10) 24) 0 ((3 + 3 + 10) + 24) 24)) A s.heap H locs := hw
        have hst_ : sr (sr σ 57 (va_cpy (σ 11) (upc (σ 4) 10 (va_cpy (σ 15) (upd (upd (upd (σ 57) 0 (σ 0 0)) 1 (σ 0 1)) 2 (σ 0 2)) 0 3 3)) 0 (3 + 3 + 10) 24)) 57 (va_cpy (σ 12) (va_cpy (σ 11) (upc (σ 4) 10 (va_cpy (σ 15) (upd (upd (upd (σ 57) 0 (σ 0 0)) 1 (σ 0 1)) 2 (σ 0 2)) 0 3 3)) 0 (3 + 3 + 10) 24) 0 ((3 + 3 + 10) + 24) 24) = sr σ 57 (va_cpy (σ 12) (va_cpy (σ 11) (upc (σ 4) 10 (va_cpy (σ 15) (upd (upd (upd (σ 57) 0 (σ 0 0)) 1 (σ 0 1)) 2 (σ 0 2)) 0 3 3)) 0 (3 + 3 + 10) 24) 0 ((3 + 3 + 10) + 24) 24) := by
          funext j_ x_
          by_cases e0 : j_ = 0
          · subst e0
            rfl
          · by_cases e57 : j_ = 57
            · subst e57; rfl
            · simp only [sr, e0, e57, if_false]
        rw [hst_] at hw
        refine lv_aload_n hC.1 hC.2.1 dX7_keep_128 rfl (lv_at hl 1 rfl) ?_
        refine gf_X7_20 hC hw dX7_keep_129 ?_
        refine gf_X7_59 hC hw dX7_keep_132 ?_
        refine lv_iconst (v := nI 0) hC.1 hC.2.1 dX7_keep_135 (by decide) ?_
        refine lv_aload_n hC.1 hC.2.1 dX7_keep_136 rfl (lv_at hl 2 rfl) ?_
        refine lv_iload_n hC.1 hC.2.1 dX7_keep_137 rfl (lv_at hl 0 rfl) ?_
        refine lv_bipush (v := nI 48) hC.1 hC.2.1 dX7_keep_138 (by decide) ?_
        refine q_addN hC dX7_keep_140 ?_
        refine lv_bipush (v := nI 24) hC.1 hC.2.1 dX7_keep_141 (by decide) ?_
        refine q_cpy (sp := 0) (dp := ((3 + 3 + 10) + 48)) (n := 24) 23 rfl 67 rfl (XW_s57 _) hC hw hl (by omega) (by omega) (by decide) (by decide) ⟨Nat.le_of_ble_eq_true rfl, Nat.le_of_ble_eq_true rfl⟩ wk2_182 dX7_keep_143 (fun H locs hw => ?_)
        have hw : Wst E (XW E a) (sr (sr σ 57 (va_cpy (σ 12) (va_cpy (σ 11) (upc (σ 4) 10 (va_cpy (σ 15) (upd (upd (upd (σ 57) 0 (σ 0 0)) 1 (σ 0 1)) 2 (σ 0 2)) 0 3 3)) 0 (3 + 3 + 10) 24) 0 ((3 + 3 + 10) + 24) 24)) 57 (va_cpy (σ 13) (va_cpy (σ 12) (va_cpy (σ 11) (upc (σ 4) 10 (va_cpy (σ 15) (upd (upd (upd (σ 57) 0 (σ 0 0)) 1 (σ 0 1)) 2 (σ 0 2)) 0 3 3)) 0 (3 + 3 + 10) 24) 0 ((3 + 3 + 10) + 24) 24) 0 ((3 + 3 + 10) + 48) 24)) A s.heap H locs := hw
        have hst_ : sr (sr σ 57 (va_cpy (σ 12) (va_cpy (σ 11) (upc (σ 4) 10 (va_cpy (σ 15) (upd (upd (upd (σ 57) 0 (σ 0 0)) 1 (σ 0 1)) 2 (σ 0 2)) 0 3 3)) 0 (3 + 3 + 10) 24) 0 ((3 + 3 + 10) + 24) 24)) 57 (va_cpy (σ 13) (va_cpy (σ 12) (va_cpy (σ 11) (upc (σ 4) 10 (va_cpy (σ 15) (upd (upd (upd (σ 57) 0 (σ 0 0)) 1 (σ 0 1)) 2 (σ 0 2)) 0 3 3)) 0 (3 + 3 + 10) 24) 0 ((3 + 3 + 10) + 24) 24) 0 ((3 + 3 + 10) + 48) 24) = sr σ 57 (va_cpy (σ 13) (va_cpy (σ 12) (va_cpy (σ 11) (upc (σ 4) 10 (va_cpy (σ 15) (upd (upd (upd (σ 57) 0 (σ 0 0)) 1 (σ 0 1)) 2 (σ 0 2)) 0 3 3)) 0 (3 + 3 + 10) 24) 0 ((3 + 3 + 10) + 24) 24) 0 ((3 + 3 + 10) + 48) 24) := by
          funext j_ x_
          by_cases e0 : j_ = 0
          · subst e0
            rfl
          · by_cases e57 : j_ = 57
            · subst e57; rfl
            · simp only [sr, e0, e57, if_false]
        rw [hst_] at hw
        refine lv_aload_n hC.1 hC.2.1 dX7_keep_146 rfl (lv_at hl 1 rfl) ?_
        refine gf_X7_20 hC hw dX7_keep_147 ?_
        refine gf_X7_62 hC hw dX7_keep_150 ?_
        refine lv_iconst (v := nI 0) hC.1 hC.2.1 dX7_keep_153 (by decide) ?_
        refine lv_aload_n hC.1 hC.2.1 dX7_keep_154 rfl (lv_at hl 2 rfl) ?_
        refine lv_iload_n hC.1 hC.2.1 dX7_keep_155 rfl (lv_at hl 0 rfl) ?_
        refine lv_bipush (v := nI 72) hC.1 hC.2.1 dX7_keep_156 (by decide) ?_
        refine q_addN hC dX7_keep_158 ?_
        refine lv_bipush (v := nI 24) hC.1 hC.2.1 dX7_keep_159 (by decide) ?_
        refine q_cpy (sp := 0) (dp := ((3 + 3 + 10) + 72)) (n := 24) 24 rfl 67 rfl (XW_s57 _) hC hw hl (by omega) (by omega) (by decide) (by decide) ⟨Nat.le_of_ble_eq_true rfl, Nat.le_of_ble_eq_true rfl⟩ wk2_182 dX7_keep_161 (fun H locs hw => ?_)
        have hw : Wst E (XW E a) (sr (sr σ 57 (va_cpy (σ 13) (va_cpy (σ 12) (va_cpy (σ 11) (upc (σ 4) 10 (va_cpy (σ 15) (upd (upd (upd (σ 57) 0 (σ 0 0)) 1 (σ 0 1)) 2 (σ 0 2)) 0 3 3)) 0 (3 + 3 + 10) 24) 0 ((3 + 3 + 10) + 24) 24) 0 ((3 + 3 + 10) + 48) 24)) 57 (va_cpy (σ 14) (va_cpy (σ 13) (va_cpy (σ 12) (va_cpy (σ 11) (upc (σ 4) 10 (va_cpy (σ 15) (upd (upd (upd (σ 57) 0 (σ 0 0)) 1 (σ 0 1)) 2 (σ 0 2)) 0 3 3)) 0 (3 + 3 + 10) 24) 0 ((3 + 3 + 10) + 24) 24) 0 ((3 + 3 + 10) + 48) 24) 0 ((3 + 3 + 10) + 72) 24)) A s.heap H locs := hw
        have hst_ : sr (sr σ 57 (va_cpy (σ 13) (va_cpy (σ 12) (va_cpy (σ 11) (upc (σ 4) 10 (va_cpy (σ 15) (upd (upd (upd (σ 57) 0 (σ 0 0)) 1 (σ 0 1)) 2 (σ 0 2)) 0 3 3)) 0 (3 + 3 + 10) 24) 0 ((3 + 3 + 10) + 24) 24) 0 ((3 + 3 + 10) + 48) 24)) 57 (va_cpy (σ 14) (va_cpy (σ 13) (va_cpy (σ 12) (va_cpy (σ 11) (upc (σ 4) 10 (va_cpy (σ 15) (upd (upd (upd (σ 57) 0 (σ 0 0)) 1 (σ 0 1)) 2 (σ 0 2)) 0 3 3)) 0 (3 + 3 + 10) 24) 0 ((3 + 3 + 10) + 24) 24) 0 ((3 + 3 + 10) + 48) 24) 0 ((3 + 3 + 10) + 72) 24) = sr σ 57 (va_cpy (σ 14) (va_cpy (σ 13) (va_cpy (σ 12) (va_cpy (σ 11) (upc (σ 4) 10 (va_cpy (σ 15) (upd (upd (upd (σ 57) 0 (σ 0 0)) 1 (σ 0 1)) 2 (σ 0 2)) 0 3 3)) 0 (3 + 3 + 10) 24) 0 ((3 + 3 + 10) + 24) 24) 0 ((3 + 3 + 10) + 48) 24) 0 ((3 + 3 + 10) + 72) 24) := by
          funext j_ x_
          by_cases e0 : j_ = 0
          · subst e0
            rfl
          · by_cases e57 : j_ = 57
            · subst e57; rfl
            · simp only [sr, e0, e57, if_false]
        rw [hst_] at hw
        refine lv_aload_n hC.1 hC.2.1 dX7_keep_164 rfl (lv_at hl 1 rfl) ?_
        refine lv_aload_n hC.1 hC.2.1 dX7_keep_165 rfl (lv_at hl 1 rfl) ?_
        refine gf_X7_28 (v := nI 27) hC hw hnx dX7_keep_166 ?_
        refine lv_bipush (v := nI 29) hC.1 hC.2.1 dX7_keep_169 (by decide) ?_
        have J184_4 : ∀ (w3 : Nat), w3 = (if 27 ≠ 29 then (27 + 1) else 0) → ∀ (H : Heap) (locs : List Loc) (ls : Array Slot), Wst E (XW E a) (sr σ 57 (va_cpy (σ 14) (va_cpy (σ 13) (va_cpy (σ 12) (va_cpy (σ 11) (upc (σ 4) 10 (va_cpy (σ 15) (upd (upd (upd (σ 57) 0 (σ 0 0)) 1 (σ 0 1)) 2 (σ 0 2)) 0 3 3)) 0 (3 + 3 + 10) 24) 0 ((3 + 3 + 10) + 24) 24) 0 ((3 + 3 + 10) + 48) 24) 0 ((3 + 3 + 10) + 72) 24)) A s.heap H locs → lv_has ls 4 [(0, .ref (a 68)), (1, .ref (a 57)), (2, .int (nI (3 + 3 + 10))), (3, .int (nI h))] → W p l e ({ frames := 1, cells := 0, slots := 0, locals := 24 }) s m args below meth c H locs 0 0 Q (F0 m 184 ls [.int (nI w3), .ref (a 68)]) := by
          intro w3 e4 H locs ls hw hl
          subst e4
          refine pf_X7_28 hC hw dX7_keep_184 (fun H locs hw => ?_)
          have hw : Wst E (XW E a) (sr (sr σ 57 (va_cpy (σ 14) (va_cpy (σ 13) (va_cpy (σ 12) (va_cpy (σ 11) (upc (σ 4) 10 (va_cpy (σ 15) (upd (upd (upd (σ 57) 0 (σ 0 0)) 1 (σ 0 1)) 2 (σ 0 2)) 0 3 3)) 0 (3 + 3 + 10) 24) 0 ((3 + 3 + 10) + 24) 24) 0 ((3 + 3 + 10) + 48) 24) 0 ((3 + 3 + 10) + 72) 24)) 0 (upd (σ 0) 3 (nI (if 27 ≠ 29 then (27 + 1) else 0)))) A s.heap H locs := hw
          refine lv_aload_n hC.1 hC.2.1 dX7_keep_187 rfl (lv_at hl 0 rfl) ?_
          refine lv_aload_n hC.1 hC.2.1 dX7_keep_188 rfl (lv_at hl 0 rfl) ?_
          refine gf_X7_65 (v := nI kp) hC hw hkp dX7_keep_189 ?_
          refine lv_bipush (v := nI 30) hC.1 hC.2.1 dX7_keep_192 (by decide) ?_
          have J210_6 : ∀ (w5 : Nat), w5 = (if kp ≠ 30 then (kp + 1) else kp) → ∀ (H : Heap) (locs : List Loc) (ls : Array Slot), Wst E (XW E a) (sr (sr σ 57 (va_cpy (σ 14) (va_cpy (σ 13) (va_cpy (σ 12) (va_cpy (σ 11) (upc (σ 4) 10 (va_cpy (σ 15) (upd (upd (upd (σ 57) 0 (σ 0 0)) 1 (σ 0 1)) 2 (σ 0 2)) 0 3 3)) 0 (3 + 3 + 10) 24) 0 ((3 + 3 + 10) + 24) 24) 0 ((3 + 3 + 10) + 48) 24) 0 ((3 + 3 + 10) + 72) 24)) 0 (upd (σ 0) 3 (nI (if 27 ≠ 29 then (27 + 1) else 0)))) A s.heap H locs → lv_has ls 4 [(0, .ref (a 68)), (1, .ref (a 57)), (2, .int (nI (3 + 3 + 10))), (3, .int (nI h))] → W p l e ({ frames := 1, cells := 0, slots := 0, locals := 24 }) s m args below meth c H locs 0 0 Q (F0 m 210 ls [.int (nI w5), .ref (a 68)]) := by
            intro w5 e6 H locs ls hw hl
            subst e6
            refine pf_X7_65 hC hw dX7_keep_210 (fun H locs hw => ?_)
            have hw : Wst E (XW E a) (sr (sr (sr σ 57 (va_cpy (σ 14) (va_cpy (σ 13) (va_cpy (σ 12) (va_cpy (σ 11) (upc (σ 4) 10 (va_cpy (σ 15) (upd (upd (upd (σ 57) 0 (σ 0 0)) 1 (σ 0 1)) 2 (σ 0 2)) 0 3 3)) 0 (3 + 3 + 10) 24) 0 ((3 + 3 + 10) + 24) 24) 0 ((3 + 3 + 10) + 48) 24) 0 ((3 + 3 + 10) + 72) 24)) 0 (upd (σ 0) 3 (nI (if 27 ≠ 29 then (27 + 1) else 0)))) 0 (upd (upd (σ 0) 3 (nI (if 27 ≠ 29 then (27 + 1) else 0))) 4 (nI (if kp ≠ 30 then (kp + 1) else kp)))) A s.heap H locs := hw
            have hst_ : sr (sr (sr σ 57 (va_cpy (σ 14) (va_cpy (σ 13) (va_cpy (σ 12) (va_cpy (σ 11) (upc (σ 4) 10 (va_cpy (σ 15) (upd (upd (upd (σ 57) 0 (σ 0 0)) 1 (σ 0 1)) 2 (σ 0 2)) 0 3 3)) 0 (3 + 3 + 10) 24) 0 ((3 + 3 + 10) + 24) 24) 0 ((3 + 3 + 10) + 48) 24) 0 ((3 + 3 + 10) + 72) 24)) 0 (upd (σ 0) 3 (nI (if 27 ≠ 29 then (27 + 1) else 0)))) 0 (upd (upd (σ 0) 3 (nI (if 27 ≠ 29 then (27 + 1) else 0))) 4 (nI (if kp ≠ 30 then (kp + 1) else kp))) = sr (sr σ 57 (va_cpy (σ 14) (va_cpy (σ 13) (va_cpy (σ 12) (va_cpy (σ 11) (upc (σ 4) 10 (va_cpy (σ 15) (upd (upd (upd (σ 57) 0 (σ 0 0)) 1 (σ 0 1)) 2 (σ 0 2)) 0 3 3)) 0 (3 + 3 + 10) 24) 0 ((3 + 3 + 10) + 24) 24) 0 ((3 + 3 + 10) + 48) 24) 0 ((3 + 3 + 10) + 72) 24)) 0 (upd (upd (σ 0) 3 (nI (if 27 ≠ 29 then (27 + 1) else 0))) 4 (nI (if kp ≠ 30 then (kp + 1) else kp))) := by
              funext j_ x_
              by_cases e0 : j_ = 0
              · subst e0
                by_cases y3 : x_ = 3
                · subst y3; rfl
                · by_cases y4 : x_ = 4
                  · subst y4; rfl
                  · simp [sr, upd, y3, y4]
              · by_cases e57 : j_ = 57
                · subst e57; rfl
                · simp only [sr, e0, e57, if_false]
            rw [hst_] at hw
            refine hret _ _ _ _ _ hw ?_ dX7_keep_213
            exact rfl
          refine q_cmpne hC 204 (cNeq (by omega) (by omega)) dX7_keep_194 (by decide) (fun (c7 : kp ≠ 30) => ?_) (fun (c7 : kp = 30) => ?_)
          · refine lv_aload_n hC.1 hC.2.1 dX7_keep_204 rfl (lv_at hl 0 rfl) ?_
            refine gf_X7_65 (v := nI kp) hC hw hkp dX7_keep_205 ?_
            refine lv_iconst (v := nI 1) hC.1 hC.2.1 dX7_keep_208 (by decide) ?_
            refine q_addN hC dX7_keep_209 ?_
            exact J210_6 _ (by (rw [if_pos c7]) <;> rfl) _ _ _ hw (lv_sub hl [0, 1, 2, 3] rfl)
          · refine lv_aload_n hC.1 hC.2.1 dX7_keep_197 rfl (lv_at hl 0 rfl) ?_
            refine gf_X7_65 (v := nI kp) hC hw hkp dX7_keep_198 ?_
            refine lv_goto (tgt := 210) hC.1 hC.2.1 dX7_keep_201 (by decide) ?_
            exact J210_6 _ (by (rw [if_neg (fun q => q c7)]) <;> rfl) _ _ _ hw (lv_sub hl [0, 1, 2, 3] rfl)
        refine q_cmpne hC 178 (cNeq (by omega) (by omega)) dX7_keep_171 (by decide) (fun (c8 : 27 ≠ 29) => ?_) (fun (c8 : 27 = 29) => ?_)
        · refine lv_aload_n hC.1 hC.2.1 dX7_keep_178 rfl (lv_at hl 1 rfl) ?_
          refine gf_X7_28 (v := nI 27) hC hw hnx dX7_keep_179 ?_
          refine lv_iconst (v := nI 1) hC.1 hC.2.1 dX7_keep_182 (by decide) ?_
          refine q_addN hC dX7_keep_183 ?_
          exact J184_4 _ (by (rw [if_pos c8]) <;> rfl) _ _ _ hw (lv_sub hl [1, 2, 0, 3] rfl)
        · refine lv_iconst (v := nI 0) hC.1 hC.2.1 dX7_keep_174 (by decide) ?_
          refine lv_goto (tgt := 184) hC.1 hC.2.1 dX7_keep_175 (by decide) ?_
          exact J184_4 _ (by (rw [if_neg (fun q => q c8)]) <;> rfl) _ _ _ hw (lv_sub hl [1, 2, 0, 3] rfl)
      · refine lv_aload_n hC.1 hC.2.1 dX7_keep_64 rfl (lv_at hl 1 rfl) ?_
        refine lv_iload_n hC.1 hC.2.1 dX7_keep_65 rfl (lv_at hl 2 rfl) ?_
        refine lv_iload_n hC.1 hC.2.1 dX7_keep_66 rfl (lv_at hl 3 rfl) ?_
        refine q_addN hC dX7_keep_67 ?_
        refine lv_aload_n hC.1 hC.2.1 dX7_keep_68 rfl (lv_at hl 0 rfl) ?_
        refine gf_X7_16 hC hw dX7_keep_69 ?_
        refine gf_X7_49 hC hw dX7_keep_72 ?_
        refine lv_iload_n hC.1 hC.2.1 dX7_keep_75 rfl (lv_at hl 3 rfl) ?_
        refine al_X4 (v := σ 4 h) hC hw (by omega) rfl dX7_keep_76 ?_
        have J85_10 : ∀ (w9 : Int32), w9 = (if ¬ (σ 4 h = 0) then (1 : Int32) else 0) → ∀ (H : Heap) (locs : List Loc) (ls : Array Slot), Wst E (XW E a) (sr σ 57 (upc (σ 4) h (va_cpy (σ 15) (upd (upd (upd (σ 57) 0 (σ 0 0)) 1 (σ 0 1)) 2 (σ 0 2)) 0 3 3))) A s.heap H locs → lv_has ls 4 [(0, .ref (a 68)), (1, .ref (a 57)), (2, .int (nI (3 + 3))), (3, .int (nI h))] → W p l e ({ frames := 1, cells := 0, slots := 0, locals := 24 }) s m args below meth c H locs 0 0 Q (F0 m 85 ls [.int (w9), .int (nI ((3 + 3) + h)), .ref (a 57)]) := by
          intro w9 e10 H locs ls hw hl
          subst e10
          refine q_ast (Wf := XW E a) 67 rfl (by decide) (XW_s57 _) hC hw (by omega) dX7_keep_85 (fun H locs hw => ?_)
          have hw : Wst E (XW E a) (sr (sr σ 57 (upc (σ 4) h (va_cpy (σ 15) (upd (upd (upd (σ 57) 0 (σ 0 0)) 1 (σ 0 1)) 2 (σ 0 2)) 0 3 3))) 57 (upd (upc (σ 4) h (va_cpy (σ 15) (upd (upd (upd (σ 57) 0 (σ 0 0)) 1 (σ 0 1)) 2 (σ 0 2)) 0 3 3)) ((3 + 3) + h) (if ¬ (σ 4 h = 0) then (1 : Int32) else 0))) A s.heap H locs := hw
          have hst_ : sr (sr σ 57 (upc (σ 4) h (va_cpy (σ 15) (upd (upd (upd (σ 57) 0 (σ 0 0)) 1 (σ 0 1)) 2 (σ 0 2)) 0 3 3))) 57 (upd (upc (σ 4) h (va_cpy (σ 15) (upd (upd (upd (σ 57) 0 (σ 0 0)) 1 (σ 0 1)) 2 (σ 0 2)) 0 3 3)) ((3 + 3) + h) (if ¬ (σ 4 h = 0) then (1 : Int32) else 0)) = sr σ 57 (upd (upc (σ 4) h (va_cpy (σ 15) (upd (upd (upd (σ 57) 0 (σ 0 0)) 1 (σ 0 1)) 2 (σ 0 2)) 0 3 3)) ((3 + 3) + h) (if ¬ (σ 4 h = 0) then (1 : Int32) else 0)) := by
            funext j_ x_
            by_cases e0 : j_ = 0
            · subst e0
              rfl
            · by_cases e57 : j_ = 57
              · subst e57; rfl
              · simp only [sr, e0, e57, if_false]
          rw [hst_] at hw
          refine lv_iinc (v := nI (h + 1)) (lv' := [(3, .int (nI (h + 1))), (0, .ref (a 68)), (1, .ref (a 57)), (2, .int (nI (3 + 3)))]) hC.1 hC.2.1 dX7_keep_86 hl (k := 3) rfl (nI_add _ _) (by decide) rfl (fun ls hl => ?_)
          refine lv_goto (tgt := 58) hC.1 hC.2.1 dX7_keep_89 (by decide) ?_
          rw [upc_s] at hw
          exact ih58 (h + 1) (by omega) (by omega) _ _ _ hw (lv_sub hl [1, 2, 3, 0] rfl)
        refine q_ifeq hC 84 cI dX7_keep_77 (by decide) (fun (c11 : σ 4 h = 0) => ?_) (fun (c11 : ¬ (σ 4 h = 0)) => ?_)
        · refine lv_iconst (v := nI 0) hC.1 hC.2.1 dX7_keep_84 (by decide) ?_
          exact J85_10 _ (if_neg (fun q => q c11)).symm _ _ _ hw (lv_sub hl [0, 1, 2, 3] rfl)
        · refine lv_iconst (v := nI 1) hC.1 hC.2.1 dX7_keep_80 (by decide) ?_
          refine lv_goto (tgt := 85) hC.1 hC.2.1 dX7_keep_81 (by decide) ?_
          exact J85_10 _ (if_pos c11).symm _ _ _ hw (lv_sub hl [0, 1, 2, 3] rfl)
  rw [← upc_0 (σ 4) (va_cpy (σ 15) (upd (upd (upd (σ 57) 0 (σ 0 0)) 1 (σ 0 1)) 2 (σ 0 2)) 0 3 3)] at hw
  exact L58_0 _ 0 (by omega) (Nat.lt_succ_self _) _ _ _ hw (lv_sub hl [3, 2, 1, 0] rfl)
set_option maxHeartbeats 4000000 in
set_option maxRecDepth 100000 in
theorem tX7_keep_k28 (l : Launch) (E : EV) (a : Nat → Nat) (σ : St) (kp : Nat) (hnx : σ 0 3 = nI 28) (hkp : σ 0 4 = nI kp) (hk30 : kp ≤ 30) : MV l E (XW E a) yX7_keep (Cond.code yX7_keep cX7_keep 4 none) ({ frames := 1, cells := 0, slots := 0, locals := 24 }) [.ref (a 68)] σ (fun u_ => u_ = sr (sr σ 58 (kpr σ (σ 58))) 0 (upd (upd (σ 0) 3 (nI (if 28 ≠ 29 then 28 + 1 else 0))) 4 (nI (if kp ≠ 30 then kp + 1 else kp)))) := by
  refine MV.mk (by decide +kernel) (Nat.le_of_ble_eq_true rfl) ?_
  intro p e s m args below meth c ls A Q hret hC hw hl
  have hC : Cxt E p s m args meth c cX7_keep 4 none RX7 A := hC
  have hl : lv_has ls 4 [(0, .ref (a 68))] := hl
  refine lv_aload_n hC.1 hC.2.1 dX7_keep_0 rfl (lv_at hl 0 rfl) ?_
  refine gf_X7_13 hC hw dX7_keep_1 ?_
  refine lv_aload_n hC.1 hC.2.1 dX7_keep_4 rfl (lv_at hl 0 rfl) ?_
  refine gf_X7_28 (v := nI 28) hC hw hnx dX7_keep_5 ?_
  refine q_aald hC hw (i := 28) (by decide) dX7_keep_8 ?_
  refine lv_astore_n (lv' := [(1, .ref (a 58)), (0, .ref (a 68))]) hC.1 hC.2.1 dX7_keep_9 rfl hl (by decide) rfl (fun ls hl => ?_)
  refine lv_aload_n hC.1 hC.2.1 dX7_keep_10 rfl (lv_at hl 0 rfl) ?_
  refine lv_iconst (v := nI 0) hC.1 hC.2.1 dX7_keep_11 (by decide) ?_
  refine lv_aload_n hC.1 hC.2.1 dX7_keep_12 rfl (lv_at hl 1 rfl) ?_
  refine gf_X7_16 hC hw dX7_keep_13 ?_
  refine gf_X7_32 (v := σ 0 0) hC hw rfl dX7_keep_16 ?_
  refine q_ast (Wf := XW E a) 68 rfl (by decide) (XW_s58 _) hC hw (by omega) dX7_keep_19 (fun H locs hw => ?_)
  have hw : Wst E (XW E a) (sr σ 58 (upd (σ 58) 0 (σ 0 0))) A s.heap H locs := hw
  refine lv_aload_n hC.1 hC.2.1 dX7_keep_20 rfl (lv_at hl 0 rfl) ?_
  refine lv_iconst (v := nI 1) hC.1 hC.2.1 dX7_keep_21 (by decide) ?_
  refine lv_aload_n hC.1 hC.2.1 dX7_keep_22 rfl (lv_at hl 1 rfl) ?_
  refine gf_X7_20 hC hw dX7_keep_23 ?_
  refine gf_X7_37 (v := σ 0 1) hC hw rfl dX7_keep_26 ?_
  refine q_ast (Wf := XW E a) 68 rfl (by decide) (XW_s58 _) hC hw (by omega) dX7_keep_29 (fun H locs hw => ?_)
  have hw : Wst E (XW E a) (sr (sr σ 58 (upd (σ 58) 0 (σ 0 0))) 58 (upd (upd (σ 58) 0 (σ 0 0)) 1 (σ 0 1))) A s.heap H locs := hw
  have hst_ : sr (sr σ 58 (upd (σ 58) 0 (σ 0 0))) 58 (upd (upd (σ 58) 0 (σ 0 0)) 1 (σ 0 1)) = sr σ 58 (upd (upd (σ 58) 0 (σ 0 0)) 1 (σ 0 1)) := by
    funext j_ x_
    by_cases e0 : j_ = 0
    · subst e0
      rfl
    · by_cases e58 : j_ = 58
      · subst e58; rfl
      · simp only [sr, e0, e58, if_false]
  rw [hst_] at hw
  refine lv_aload_n hC.1 hC.2.1 dX7_keep_30 rfl (lv_at hl 0 rfl) ?_
  refine lv_iconst (v := nI 2) hC.1 hC.2.1 dX7_keep_31 (by decide) ?_
  refine lv_aload_n hC.1 hC.2.1 dX7_keep_32 rfl (lv_at hl 1 rfl) ?_
  refine gf_X7_20 hC hw dX7_keep_33 ?_
  refine gf_X7_40 (v := σ 0 2) hC hw rfl dX7_keep_36 ?_
  refine q_ast (Wf := XW E a) 68 rfl (by decide) (XW_s58 _) hC hw (by omega) dX7_keep_39 (fun H locs hw => ?_)
  have hw : Wst E (XW E a) (sr (sr σ 58 (upd (upd (σ 58) 0 (σ 0 0)) 1 (σ 0 1))) 58 (upd (upd (upd (σ 58) 0 (σ 0 0)) 1 (σ 0 1)) 2 (σ 0 2))) A s.heap H locs := hw
  have hst_ : sr (sr σ 58 (upd (upd (σ 58) 0 (σ 0 0)) 1 (σ 0 1))) 58 (upd (upd (upd (σ 58) 0 (σ 0 0)) 1 (σ 0 1)) 2 (σ 0 2)) = sr σ 58 (upd (upd (upd (σ 58) 0 (σ 0 0)) 1 (σ 0 1)) 2 (σ 0 2)) := by
    funext j_ x_
    by_cases e0 : j_ = 0
    · subst e0
      rfl
    · by_cases e58 : j_ = 58
      · subst e58; rfl
      · simp only [sr, e0, e58, if_false]
  rw [hst_] at hw
  refine lv_iconst (v := nI 3) hC.1 hC.2.1 dX7_keep_40 (by decide) ?_
  refine lv_istore_n (lv' := [(2, .int (nI 3)), (1, .ref (a 58)), (0, .ref (a 68))]) hC.1 hC.2.1 dX7_keep_41 rfl hl (by decide) rfl (fun ls hl => ?_)
  refine lv_aload_n hC.1 hC.2.1 dX7_keep_42 rfl (lv_at hl 2 rfl) ?_
  refine gf_X7_24 hC hw dX7_keep_43 ?_
  refine lv_iconst (v := nI 0) hC.1 hC.2.1 dX7_keep_46 (by decide) ?_
  refine lv_aload_n hC.1 hC.2.1 dX7_keep_47 rfl (lv_at hl 1 rfl) ?_
  refine lv_iload_n hC.1 hC.2.1 dX7_keep_48 rfl (lv_at hl 0 rfl) ?_
  refine lv_iconst (v := nI 3) hC.1 hC.2.1 dX7_keep_49 (by decide) ?_
  refine q_cpy (sp := 0) (dp := 3) (n := 3) 25 rfl 68 rfl (XW_s58 _) hC hw hl (by omega) (by omega) (by decide) (by decide) ⟨Nat.le_of_ble_eq_true rfl, Nat.le_of_ble_eq_true rfl⟩ wk2_182 dX7_keep_50 (fun H locs hw => ?_)
  have hw : Wst E (XW E a) (sr (sr σ 58 (upd (upd (upd (σ 58) 0 (σ 0 0)) 1 (σ 0 1)) 2 (σ 0 2))) 58 (va_cpy (σ 15) (upd (upd (upd (σ 58) 0 (σ 0 0)) 1 (σ 0 1)) 2 (σ 0 2)) 0 3 3)) A s.heap H locs := hw
  have hst_ : sr (sr σ 58 (upd (upd (upd (σ 58) 0 (σ 0 0)) 1 (σ 0 1)) 2 (σ 0 2))) 58 (va_cpy (σ 15) (upd (upd (upd (σ 58) 0 (σ 0 0)) 1 (σ 0 1)) 2 (σ 0 2)) 0 3 3) = sr σ 58 (va_cpy (σ 15) (upd (upd (upd (σ 58) 0 (σ 0 0)) 1 (σ 0 1)) 2 (σ 0 2)) 0 3 3) := by
    funext j_ x_
    by_cases e0 : j_ = 0
    · subst e0
      rfl
    · by_cases e58 : j_ = 58
      · subst e58; rfl
      · simp only [sr, e0, e58, if_false]
  rw [hst_] at hw
  refine lv_iinc (v := nI (3 + 3)) (lv' := [(2, .int (nI (3 + 3))), (1, .ref (a 58)), (0, .ref (a 68))]) hC.1 hC.2.1 dX7_keep_53 hl (k := 0) rfl (nI_add _ _) (by decide) rfl (fun ls hl => ?_)
  refine lv_iconst (v := nI 0) hC.1 hC.2.1 dX7_keep_56 (by decide) ?_
  refine lv_istore_n (lv' := [(3, .int (nI 0)), (2, .int (nI (3 + 3))), (1, .ref (a 58)), (0, .ref (a 68))]) hC.1 hC.2.1 dX7_keep_57 rfl hl (by decide) rfl (fun ls hl => ?_)
  have L58_0 : ∀ (n : Nat), ∀ (h : Nat), (h ≤ 10) → (10 - h) < n → ∀ (H : Heap) (locs : List Loc) (ls : Array Slot), Wst E (XW E a) (sr σ 58 (upc (σ 4) h (va_cpy (σ 15) (upd (upd (upd (σ 58) 0 (σ 0 0)) 1 (σ 0 1)) 2 (σ 0 2)) 0 3 3))) A s.heap H locs → lv_has ls 4 [(0, .ref (a 68)), (1, .ref (a 58)), (2, .int (nI (3 + 3))), (3, .int (nI h))] → W p l e ({ frames := 1, cells := 0, slots := 0, locals := 24 }) s m args below meth c H locs 0 0 Q (F0 m 58 ls []) := by
    intro n
    induction n with
    | zero => intro h hh hn; exact absurd hn (Nat.not_lt_zero _)
    | succ n ih58 =>
      intro h hh hn58 H locs ls hw hl
      refine lv_iload_n hC.1 hC.2.1 dX7_keep_58 rfl (lv_at hl 3 rfl) ?_
      refine lv_bipush (v := nI 10) hC.1 hC.2.1 dX7_keep_59 (by decide) ?_
      refine q_cmpge hC 92 (cNle (by omega) (by omega)) dX7_keep_61 (by decide) (fun (c2 : 10 ≤ h) => ?_) (fun (c2 : h < 10) => ?_)
      · have hh9 : h = 10 := by omega
        rw [hh9] at hw
        refine lv_iinc (v := nI (3 + 3 + 10)) (lv' := [(2, .int (nI (3 + 3 + 10))), (0, .ref (a 68)), (1, .ref (a 58)), (3, .int (nI h))]) hC.1 hC.2.1 dX7_keep_92 hl (k := 2) rfl (nI_add _ _) (by decide) rfl (fun ls hl => ?_)
        refine lv_aload_n hC.1 hC.2.1 dX7_keep_95 rfl (lv_at hl 1 rfl) ?_
        refine gf_X7_20 hC hw dX7_keep_96 ?_
        refine gf_X7_53 hC hw dX7_keep_99 ?_
        refine lv_iconst (v := nI 0) hC.1 hC.2.1 dX7_keep_102 (by decide) ?_
        refine lv_aload_n hC.1 hC.2.1 dX7_keep_103 rfl (lv_at hl 2 rfl) ?_
        refine lv_iload_n hC.1 hC.2.1 dX7_keep_104 rfl (lv_at hl 0 rfl) ?_
        refine lv_bipush (v := nI 24) hC.1 hC.2.1 dX7_keep_105 (by decide) ?_
        refine q_cpy (sp := 0) (dp := (3 + 3 + 10)) (n := 24) 21 rfl 68 rfl (XW_s58 _) hC hw hl (by omega) (by omega) (by decide) (by decide) ⟨Nat.le_of_ble_eq_true rfl, Nat.le_of_ble_eq_true rfl⟩ wk2_182 dX7_keep_107 (fun H locs hw => ?_)
        have hw : Wst E (XW E a) (sr (sr σ 58 (upc (σ 4) 10 (va_cpy (σ 15) (upd (upd (upd (σ 58) 0 (σ 0 0)) 1 (σ 0 1)) 2 (σ 0 2)) 0 3 3))) 58 (va_cpy (σ 11) (upc (σ 4) 10 (va_cpy (σ 15) (upd (upd (upd (σ 58) 0 (σ 0 0)) 1 (σ 0 1)) 2 (σ 0 2)) 0 3 3)) 0 (3 + 3 + 10) 24)) A s.heap H locs := hw
        have hst_ : sr (sr σ 58 (upc (σ 4) 10 (va_cpy (σ 15) (upd (upd (upd (σ 58) 0 (σ 0 0)) 1 (σ 0 1)) 2 (σ 0 2)) 0 3 3))) 58 (va_cpy (σ 11) (upc (σ 4) 10 (va_cpy (σ 15) (upd (upd (upd (σ 58) 0 (σ 0 0)) 1 (σ 0 1)) 2 (σ 0 2)) 0 3 3)) 0 (3 + 3 + 10) 24) = sr σ 58 (va_cpy (σ 11) (upc (σ 4) 10 (va_cpy (σ 15) (upd (upd (upd (σ 58) 0 (σ 0 0)) 1 (σ 0 1)) 2 (σ 0 2)) 0 3 3)) 0 (3 + 3 + 10) 24) := by
          funext j_ x_
          by_cases e0 : j_ = 0
          · subst e0
            rfl
          · by_cases e58 : j_ = 58
            · subst e58; rfl
            · simp only [sr, e0, e58, if_false]
        rw [hst_] at hw
        refine lv_aload_n hC.1 hC.2.1 dX7_keep_110 rfl (lv_at hl 1 rfl) ?_
        refine gf_X7_20 hC hw dX7_keep_111 ?_
        refine gf_X7_56 hC hw dX7_keep_114 ?_
        refine lv_iconst (v := nI 0) hC.1 hC.2.1 dX7_keep_117 (by decide) ?_
        refine lv_aload_n hC.1 hC.2.1 dX7_keep_118 rfl (lv_at hl 2 rfl) ?_
        refine lv_iload_n hC.1 hC.2.1 dX7_keep_119 rfl (lv_at hl 0 rfl) ?_
        refine lv_bipush (v := nI 24) hC.1 hC.2.1 dX7_keep_120 (by decide) ?_
        refine q_addN hC dX7_keep_122 ?_
        refine lv_bipush (v := nI 24) hC.1 hC.2.1 dX7_keep_123 (by decide) ?_
        refine q_cpy (sp := 0) (dp := ((3 + 3 + 10) + 24)) (n := 24) 22 rfl 68 rfl (XW_s58 _) hC hw hl (by omega) (by omega) (by decide) (by decide) ⟨Nat.le_of_ble_eq_true rfl, Nat.le_of_ble_eq_true rfl⟩ wk2_182 dX7_keep_125 (fun H locs hw => ?_)
        have hw : Wst E (XW E a) (sr (sr σ 58 (va_cpy (σ 11) (upc (σ 4) 10 (va_cpy (σ 15) (upd (upd (upd (σ 58) 0 (σ 0 0)) 1 (σ 0 1)) 2 (σ 0 2)) 0 3 3)) 0 (3 + 3 + 10) 24)) 58 (va_cpy (σ 12) (va_cpy (σ 11) (upc (σ 4) 10 (va_cpy (σ 15) (upd (upd (upd (σ 58) 0 (σ 0 0)) 1 (σ 0 1)) 2 (σ 0 2)) 0 3 3)) 0 (3 + 3 + 10) 24) 0 ((3 + 3 + 10) + 24) 24)) A s.heap H locs := hw
        have hst_ : sr (sr σ 58 (va_cpy (σ 11) (upc (σ 4) 10 (va_cpy (σ 15) (upd (upd (upd (σ 58) 0 (σ 0 0)) 1 (σ 0 1)) 2 (σ 0 2)) 0 3 3)) 0 (3 + 3 + 10) 24)) 58 (va_cpy (σ 12) (va_cpy (σ 11) (upc (σ 4) 10 (va_cpy (σ 15) (upd (upd (upd (σ 58) 0 (σ 0 0)) 1 (σ 0 1)) 2 (σ 0 2)) 0 3 3)) 0 (3 + 3 + 10) 24) 0 ((3 + 3 + 10) + 24) 24) = sr σ 58 (va_cpy (σ 12) (va_cpy (σ 11) (upc (σ 4) 10 (va_cpy (σ 15) (upd (upd (upd (σ 58) 0 (σ 0 0)) 1 (σ 0 1)) 2 (σ 0 2)) 0 3 3)) 0 (3 + 3 + 10) 24) 0 ((3 + 3 + 10) + 24) 24) := by
          funext j_ x_
          by_cases e0 : j_ = 0
          · subst e0
            rfl
          · by_cases e58 : j_ = 58
            · subst e58; rfl
            · simp only [sr, e0, e58, if_false]
        rw [hst_] at hw
        refine lv_aload_n hC.1 hC.2.1 dX7_keep_128 rfl (lv_at hl 1 rfl) ?_
        refine gf_X7_20 hC hw dX7_keep_129 ?_
        refine gf_X7_59 hC hw dX7_keep_132 ?_
        refine lv_iconst (v := nI 0) hC.1 hC.2.1 dX7_keep_135 (by decide) ?_
        refine lv_aload_n hC.1 hC.2.1 dX7_keep_136 rfl (lv_at hl 2 rfl) ?_
        refine lv_iload_n hC.1 hC.2.1 dX7_keep_137 rfl (lv_at hl 0 rfl) ?_
        refine lv_bipush (v := nI 48) hC.1 hC.2.1 dX7_keep_138 (by decide) ?_
        refine q_addN hC dX7_keep_140 ?_
        refine lv_bipush (v := nI 24) hC.1 hC.2.1 dX7_keep_141 (by decide) ?_
        refine q_cpy (sp := 0) (dp := ((3 + 3 + 10) + 48)) (n := 24) 23 rfl 68 rfl (XW_s58 _) hC hw hl (by omega) (by omega) (by decide) (by decide) ⟨Nat.le_of_ble_eq_true rfl, Nat.le_of_ble_eq_true rfl⟩ wk2_182 dX7_keep_143 (fun H locs hw => ?_)
        have hw : Wst E (XW E a) (sr (sr σ 58 (va_cpy (σ 12) (va_cpy (σ 11) (upc (σ 4) 10 (va_cpy (σ 15) (upd (upd (upd (σ 58) 0 (σ 0 0)) 1 (σ 0 1)) 2 (σ 0 2)) 0 3 3)) 0 (3 + 3 + 10) 24) 0 ((3 + 3 + 10) + 24) 24)) 58 (va_cpy (σ 13) (va_cpy (σ 12) (va_cpy (σ 11) (upc (σ 4) 10 (va_cpy (σ 15) (upd (upd (upd (σ 58) 0 (σ 0 0)) 1 (σ 0 1)) 2 (σ 0 2)) 0 3 3)) 0 (3 + 3 + 10) 24) 0 ((3 + 3 + 10) + 24) 24) 0 ((3 + 3 + 10) + 48) 24)) A s.heap H locs := hw
        have hst_ : sr (sr σ 58 (va_cpy (σ 12) (va_cpy (σ 11) (upc (σ 4) 10 (va_cpy (σ 15) (upd (upd (upd (σ 58) 0 (σ 0 0)) 1 (σ 0 1)) 2 (σ 0 2)) 0 3 3)) 0 (3 + 3 + 10) 24) 0 ((3 + 3 + 10) + 24) 24)) 58 (va_cpy (σ 13) (va_cpy (σ 12) (va_cpy (σ 11) (upc (σ 4) 10 (va_cpy (σ 15) (upd (upd (upd (σ 58) 0 (σ 0 0)) 1 (σ 0 1)) 2 (σ 0 2)) 0 3 3)) 0 (3 + 3 + 10) 24) 0 ((3 + 3 + 10) + 24) 24) 0 ((3 + 3 + 10) + 48) 24) = sr σ 58 (va_cpy (σ 13) (va_cpy (σ 12) (va_cpy (σ 11) (upc (σ 4) 10 (va_cpy (σ 15) (upd (upd (upd (σ 58) 0 (σ 0 0)) 1 (σ 0 1)) 2 (σ 0 2)) 0 3 3)) 0 (3 + 3 + 10) 24) 0 ((3 + 3 + 10) + 24) 24) 0 ((3 + 3 + 10) + 48) 24) := by
          funext j_ x_
          by_cases e0 : j_ = 0
          · subst e0
            rfl
          · by_cases e58 : j_ = 58
            · subst e58; rfl
            · simp only [sr, e0, e58, if_false]
        rw [hst_] at hw
        refine lv_aload_n hC.1 hC.2.1 dX7_keep_146 rfl (lv_at hl 1 rfl) ?_
        refine gf_X7_20 hC hw dX7_keep_147 ?_
        refine gf_X7_62 hC hw dX7_keep_150 ?_
        refine lv_iconst (v := nI 0) hC.1 hC.2.1 dX7_keep_153 (by decide) ?_
        refine lv_aload_n hC.1 hC.2.1 dX7_keep_154 rfl (lv_at hl 2 rfl) ?_
        refine lv_iload_n hC.1 hC.2.1 dX7_keep_155 rfl (lv_at hl 0 rfl) ?_
        refine lv_bipush (v := nI 72) hC.1 hC.2.1 dX7_keep_156 (by decide) ?_
        refine q_addN hC dX7_keep_158 ?_
        refine lv_bipush (v := nI 24) hC.1 hC.2.1 dX7_keep_159 (by decide) ?_
        refine q_cpy (sp := 0) (dp := ((3 + 3 + 10) + 72)) (n := 24) 24 rfl 68 rfl (XW_s58 _) hC hw hl (by omega) (by omega) (by decide) (by decide) ⟨Nat.le_of_ble_eq_true rfl, Nat.le_of_ble_eq_true rfl⟩ wk2_182 dX7_keep_161 (fun H locs hw => ?_)
        have hw : Wst E (XW E a) (sr (sr σ 58 (va_cpy (σ 13) (va_cpy (σ 12) (va_cpy (σ 11) (upc (σ 4) 10 (va_cpy (σ 15) (upd (upd (upd (σ 58) 0 (σ 0 0)) 1 (σ 0 1)) 2 (σ 0 2)) 0 3 3)) 0 (3 + 3 + 10) 24) 0 ((3 + 3 + 10) + 24) 24) 0 ((3 + 3 + 10) + 48) 24)) 58 (va_cpy (σ 14) (va_cpy (σ 13) (va_cpy (σ 12) (va_cpy (σ 11) (upc (σ 4) 10 (va_cpy (σ 15) (upd (upd (upd (σ 58) 0 (σ 0 0)) 1 (σ 0 1)) 2 (σ 0 2)) 0 3 3)) 0 (3 + 3 + 10) 24) 0 ((3 + 3 + 10) + 24) 24) 0 ((3 + 3 + 10) + 48) 24) 0 ((3 + 3 + 10) + 72) 24)) A s.heap H locs := hw
        have hst_ : sr (sr σ 58 (va_cpy (σ 13) (va_cpy (σ 12) (va_cpy (σ 11) (upc (σ 4) 10 (va_cpy (σ 15) (upd (upd (upd (σ 58) 0 (σ 0 0)) 1 (σ 0 1)) 2 (σ 0 2)) 0 3 3)) 0 (3 + 3 + 10) 24) 0 ((3 + 3 + 10) + 24) 24) 0 ((3 + 3 + 10) + 48) 24)) 58 (va_cpy (σ 14) (va_cpy (σ 13) (va_cpy (σ 12) (va_cpy (σ 11) (upc (σ 4) 10 (va_cpy (σ 15) (upd (upd (upd (σ 58) 0 (σ 0 0)) 1 (σ 0 1)) 2 (σ 0 2)) 0 3 3)) 0 (3 + 3 + 10) 24) 0 ((3 + 3 + 10) + 24) 24) 0 ((3 + 3 + 10) + 48) 24) 0 ((3 + 3 + 10) + 72) 24) = sr σ 58 (va_cpy (σ 14) (va_cpy (σ 13) (va_cpy (σ 12) (va_cpy (σ 11) (upc (σ 4) 10 (va_cpy (σ 15) (upd (upd (upd (σ 58) 0 (σ 0 0)) 1 (σ 0 1)) 2 (σ 0 2)) 0 3 3)) 0 (3 + 3 + 10) 24) 0 ((3 + 3 + 10) + 24) 24) 0 ((3 + 3 + 10) + 48) 24) 0 ((3 + 3 + 10) + 72) 24) := by
          funext j_ x_
          by_cases e0 : j_ = 0
          · subst e0
            rfl
          · by_cases e58 : j_ = 58
            · subst e58; rfl
            · simp only [sr, e0, e58, if_false]
        rw [hst_] at hw
        refine lv_aload_n hC.1 hC.2.1 dX7_keep_164 rfl (lv_at hl 1 rfl) ?_
        refine lv_aload_n hC.1 hC.2.1 dX7_keep_165 rfl (lv_at hl 1 rfl) ?_
        refine gf_X7_28 (v := nI 28) hC hw hnx dX7_keep_166 ?_
        refine lv_bipush (v := nI 29) hC.1 hC.2.1 dX7_keep_169 (by decide) ?_
        have J184_4 : ∀ (w3 : Nat), w3 = (if 28 ≠ 29 then (28 + 1) else 0) → ∀ (H : Heap) (locs : List Loc) (ls : Array Slot), Wst E (XW E a) (sr σ 58 (va_cpy (σ 14) (va_cpy (σ 13) (va_cpy (σ 12) (va_cpy (σ 11) (upc (σ 4) 10 (va_cpy (σ 15) (upd (upd (upd (σ 58) 0 (σ 0 0)) 1 (σ 0 1)) 2 (σ 0 2)) 0 3 3)) 0 (3 + 3 + 10) 24) 0 ((3 + 3 + 10) + 24) 24) 0 ((3 + 3 + 10) + 48) 24) 0 ((3 + 3 + 10) + 72) 24)) A s.heap H locs → lv_has ls 4 [(0, .ref (a 68)), (1, .ref (a 58)), (2, .int (nI (3 + 3 + 10))), (3, .int (nI h))] → W p l e ({ frames := 1, cells := 0, slots := 0, locals := 24 }) s m args below meth c H locs 0 0 Q (F0 m 184 ls [.int (nI w3), .ref (a 68)]) := by
          intro w3 e4 H locs ls hw hl
          subst e4
          refine pf_X7_28 hC hw dX7_keep_184 (fun H locs hw => ?_)
          have hw : Wst E (XW E a) (sr (sr σ 58 (va_cpy (σ 14) (va_cpy (σ 13) (va_cpy (σ 12) (va_cpy (σ 11) (upc (σ 4) 10 (va_cpy (σ 15) (upd (upd (upd (σ 58) 0 (σ 0 0)) 1 (σ 0 1)) 2 (σ 0 2)) 0 3 3)) 0 (3 + 3 + 10) 24) 0 ((3 + 3 + 10) + 24) 24) 0 ((3 + 3 + 10) + 48) 24) 0 ((3 + 3 + 10) + 72) 24)) 0 (upd (σ 0) 3 (nI (if 28 ≠ 29 then (28 + 1) else 0)))) A s.heap H locs := hw
          refine lv_aload_n hC.1 hC.2.1 dX7_keep_187 rfl (lv_at hl 0 rfl) ?_
          refine lv_aload_n hC.1 hC.2.1 dX7_keep_188 rfl (lv_at hl 0 rfl) ?_
          refine gf_X7_65 (v := nI kp) hC hw hkp dX7_keep_189 ?_
          refine lv_bipush (v := nI 30) hC.1 hC.2.1 dX7_keep_192 (by decide) ?_
          have J210_6 : ∀ (w5 : Nat), w5 = (if kp ≠ 30 then (kp + 1) else kp) → ∀ (H : Heap) (locs : List Loc) (ls : Array Slot), Wst E (XW E a) (sr (sr σ 58 (va_cpy (σ 14) (va_cpy (σ 13) (va_cpy (σ 12) (va_cpy (σ 11) (upc (σ 4) 10 (va_cpy (σ 15) (upd (upd (upd (σ 58) 0 (σ 0 0)) 1 (σ 0 1)) 2 (σ 0 2)) 0 3 3)) 0 (3 + 3 + 10) 24) 0 ((3 + 3 + 10) + 24) 24) 0 ((3 + 3 + 10) + 48) 24) 0 ((3 + 3 + 10) + 72) 24)) 0 (upd (σ 0) 3 (nI (if 28 ≠ 29 then (28 + 1) else 0)))) A s.heap H locs → lv_has ls 4 [(0, .ref (a 68)), (1, .ref (a 58)), (2, .int (nI (3 + 3 + 10))), (3, .int (nI h))] → W p l e ({ frames := 1, cells := 0, slots := 0, locals := 24 }) s m args below meth c H locs 0 0 Q (F0 m 210 ls [.int (nI w5), .ref (a 68)]) := by
            intro w5 e6 H locs ls hw hl
            subst e6
            refine pf_X7_65 hC hw dX7_keep_210 (fun H locs hw => ?_)
            have hw : Wst E (XW E a) (sr (sr (sr σ 58 (va_cpy (σ 14) (va_cpy (σ 13) (va_cpy (σ 12) (va_cpy (σ 11) (upc (σ 4) 10 (va_cpy (σ 15) (upd (upd (upd (σ 58) 0 (σ 0 0)) 1 (σ 0 1)) 2 (σ 0 2)) 0 3 3)) 0 (3 + 3 + 10) 24) 0 ((3 + 3 + 10) + 24) 24) 0 ((3 + 3 + 10) + 48) 24) 0 ((3 + 3 + 10) + 72) 24)) 0 (upd (σ 0) 3 (nI (if 28 ≠ 29 then (28 + 1) else 0)))) 0 (upd (upd (σ 0) 3 (nI (if 28 ≠ 29 then (28 + 1) else 0))) 4 (nI (if kp ≠ 30 then (kp + 1) else kp)))) A s.heap H locs := hw
            have hst_ : sr (sr (sr σ 58 (va_cpy (σ 14) (va_cpy (σ 13) (va_cpy (σ 12) (va_cpy (σ 11) (upc (σ 4) 10 (va_cpy (σ 15) (upd (upd (upd (σ 58) 0 (σ 0 0)) 1 (σ 0 1)) 2 (σ 0 2)) 0 3 3)) 0 (3 + 3 + 10) 24) 0 ((3 + 3 + 10) + 24) 24) 0 ((3 + 3 + 10) + 48) 24) 0 ((3 + 3 + 10) + 72) 24)) 0 (upd (σ 0) 3 (nI (if 28 ≠ 29 then (28 + 1) else 0)))) 0 (upd (upd (σ 0) 3 (nI (if 28 ≠ 29 then (28 + 1) else 0))) 4 (nI (if kp ≠ 30 then (kp + 1) else kp))) = sr (sr σ 58 (va_cpy (σ 14) (va_cpy (σ 13) (va_cpy (σ 12) (va_cpy (σ 11) (upc (σ 4) 10 (va_cpy (σ 15) (upd (upd (upd (σ 58) 0 (σ 0 0)) 1 (σ 0 1)) 2 (σ 0 2)) 0 3 3)) 0 (3 + 3 + 10) 24) 0 ((3 + 3 + 10) + 24) 24) 0 ((3 + 3 + 10) + 48) 24) 0 ((3 + 3 + 10) + 72) 24)) 0 (upd (upd (σ 0) 3 (nI (if 28 ≠ 29 then (28 + 1) else 0))) 4 (nI (if kp ≠ 30 then (kp + 1) else kp))) := by
              funext j_ x_
              by_cases e0 : j_ = 0
              · subst e0
                by_cases y3 : x_ = 3
                · subst y3; rfl
                · by_cases y4 : x_ = 4
                  · subst y4; rfl
                  · simp [sr, upd, y3, y4]
              · by_cases e58 : j_ = 58
                · subst e58; rfl
                · simp only [sr, e0, e58, if_false]
            rw [hst_] at hw
            refine hret _ _ _ _ _ hw ?_ dX7_keep_213
            exact rfl
          refine q_cmpne hC 204 (cNeq (by omega) (by omega)) dX7_keep_194 (by decide) (fun (c7 : kp ≠ 30) => ?_) (fun (c7 : kp = 30) => ?_)
          · refine lv_aload_n hC.1 hC.2.1 dX7_keep_204 rfl (lv_at hl 0 rfl) ?_
            refine gf_X7_65 (v := nI kp) hC hw hkp dX7_keep_205 ?_
            refine lv_iconst (v := nI 1) hC.1 hC.2.1 dX7_keep_208 (by decide) ?_
            refine q_addN hC dX7_keep_209 ?_
            exact J210_6 _ (by (rw [if_pos c7]) <;> rfl) _ _ _ hw (lv_sub hl [0, 1, 2, 3] rfl)
          · refine lv_aload_n hC.1 hC.2.1 dX7_keep_197 rfl (lv_at hl 0 rfl) ?_
            refine gf_X7_65 (v := nI kp) hC hw hkp dX7_keep_198 ?_
            refine lv_goto (tgt := 210) hC.1 hC.2.1 dX7_keep_201 (by decide) ?_
            exact J210_6 _ (by (rw [if_neg (fun q => q c7)]) <;> rfl) _ _ _ hw (lv_sub hl [0, 1, 2, 3] rfl)
        refine q_cmpne hC 178 (cNeq (by omega) (by omega)) dX7_keep_171 (by decide) (fun (c8 : 28 ≠ 29) => ?_) (fun (c8 : 28 = 29) => ?_)
        · refine lv_aload_n hC.1 hC.2.1 dX7_keep_178 rfl (lv_at hl 1 rfl) ?_
          refine gf_X7_28 (v := nI 28) hC hw hnx dX7_keep_179 ?_
          refine lv_iconst (v := nI 1) hC.1 hC.2.1 dX7_keep_182 (by decide) ?_
          refine q_addN hC dX7_keep_183 ?_
          exact J184_4 _ (by (rw [if_pos c8]) <;> rfl) _ _ _ hw (lv_sub hl [1, 2, 0, 3] rfl)
        · refine lv_iconst (v := nI 0) hC.1 hC.2.1 dX7_keep_174 (by decide) ?_
          refine lv_goto (tgt := 184) hC.1 hC.2.1 dX7_keep_175 (by decide) ?_
          exact J184_4 _ (by (rw [if_neg (fun q => q c8)]) <;> rfl) _ _ _ hw (lv_sub hl [1, 2, 0, 3] rfl)
      · refine lv_aload_n hC.1 hC.2.1 dX7_keep_64 rfl (lv_at hl 1 rfl) ?_
        refine lv_iload_n hC.1 hC.2.1 dX7_keep_65 rfl (lv_at hl 2 rfl) ?_
        refine lv_iload_n hC.1 hC.2.1 dX7_keep_66 rfl (lv_at hl 3 rfl) ?_
        refine q_addN hC dX7_keep_67 ?_
        refine lv_aload_n hC.1 hC.2.1 dX7_keep_68 rfl (lv_at hl 0 rfl) ?_
        refine gf_X7_16 hC hw dX7_keep_69 ?_
        refine gf_X7_49 hC hw dX7_keep_72 ?_
        refine lv_iload_n hC.1 hC.2.1 dX7_keep_75 rfl (lv_at hl 3 rfl) ?_
        refine al_X4 (v := σ 4 h) hC hw (by omega) rfl dX7_keep_76 ?_
        have J85_10 : ∀ (w9 : Int32), w9 = (if ¬ (σ 4 h = 0) then (1 : Int32) else 0) → ∀ (H : Heap) (locs : List Loc) (ls : Array Slot), Wst E (XW E a) (sr σ 58 (upc (σ 4) h (va_cpy (σ 15) (upd (upd (upd (σ 58) 0 (σ 0 0)) 1 (σ 0 1)) 2 (σ 0 2)) 0 3 3))) A s.heap H locs → lv_has ls 4 [(0, .ref (a 68)), (1, .ref (a 58)), (2, .int (nI (3 + 3))), (3, .int (nI h))] → W p l e ({ frames := 1, cells := 0, slots := 0, locals := 24 }) s m args below meth c H locs 0 0 Q (F0 m 85 ls [.int (w9), .int (nI ((3 + 3) + h)), .ref (a 58)]) := by
          intro w9 e10 H locs ls hw hl
          subst e10
          refine q_ast (Wf := XW E a) 68 rfl (by decide) (XW_s58 _) hC hw (by omega) dX7_keep_85 (fun H locs hw => ?_)
          have hw : Wst E (XW E a) (sr (sr σ 58 (upc (σ 4) h (va_cpy (σ 15) (upd (upd (upd (σ 58) 0 (σ 0 0)) 1 (σ 0 1)) 2 (σ 0 2)) 0 3 3))) 58 (upd (upc (σ 4) h (va_cpy (σ 15) (upd (upd (upd (σ 58) 0 (σ 0 0)) 1 (σ 0 1)) 2 (σ 0 2)) 0 3 3)) ((3 + 3) + h) (if ¬ (σ 4 h = 0) then (1 : Int32) else 0))) A s.heap H locs := hw
          have hst_ : sr (sr σ 58 (upc (σ 4) h (va_cpy (σ 15) (upd (upd (upd (σ 58) 0 (σ 0 0)) 1 (σ 0 1)) 2 (σ 0 2)) 0 3 3))) 58 (upd (upc (σ 4) h (va_cpy (σ 15) (upd (upd (upd (σ 58) 0 (σ 0 0)) 1 (σ 0 1)) 2 (σ 0 2)) 0 3 3)) ((3 + 3) + h) (if ¬ (σ 4 h = 0) then (1 : Int32) else 0)) = sr σ 58 (upd (upc (σ 4) h (va_cpy (σ 15) (upd (upd (upd (σ 58) 0 (σ 0 0)) 1 (σ 0 1)) 2 (σ 0 2)) 0 3 3)) ((3 + 3) + h) (if ¬ (σ 4 h = 0) then (1 : Int32) else 0)) := by
            funext j_ x_
            by_cases e0 : j_ = 0
            · subst e0
              rfl
            · by_cases e58 : j_ = 58
              · subst e58; rfl
              · simp only [sr, e0, e58, if_false]
          rw [hst_] at hw
          refine lv_iinc (v := nI (h + 1)) (lv' := [(3, .int (nI (h + 1))), (0, .ref (a 68)), (1, .ref (a 58)), (2, .int (nI (3 + 3)))]) hC.1 hC.2.1 dX7_keep_86 hl (k := 3) rfl (nI_add _ _) (by decide) rfl (fun ls hl => ?_)
          refine lv_goto (tgt := 58) hC.1 hC.2.1 dX7_keep_89 (by decide) ?_
          rw [upc_s] at hw
          exact ih58 (h + 1) (by omega) (by omega) _ _ _ hw (lv_sub hl [1, 2, 3, 0] rfl)
        refine q_ifeq hC 84 cI dX7_keep_77 (by decide) (fun (c11 : σ 4 h = 0) => ?_) (fun (c11 : ¬ (σ 4 h = 0)) => ?_)
        · refine lv_iconst (v := nI 0) hC.1 hC.2.1 dX7_keep_84 (by decide) ?_
          exact J85_10 _ (if_neg (fun q => q c11)).symm _ _ _ hw (lv_sub hl [0, 1, 2, 3] rfl)
        · refine lv_iconst (v := nI 1) hC.1 hC.2.1 dX7_keep_80 (by decide) ?_
          refine lv_goto (tgt := 85) hC.1 hC.2.1 dX7_keep_81 (by decide) ?_
          exact J85_10 _ (if_pos c11).symm _ _ _ hw (lv_sub hl [0, 1, 2, 3] rfl)
  rw [← upc_0 (σ 4) (va_cpy (σ 15) (upd (upd (upd (σ 58) 0 (σ 0 0)) 1 (σ 0 1)) 2 (σ 0 2)) 0 3 3)] at hw
  exact L58_0 _ 0 (by omega) (Nat.lt_succ_self _) _ _ _ hw (lv_sub hl [3, 2, 1, 0] rfl)
set_option maxHeartbeats 4000000 in
set_option maxRecDepth 100000 in
theorem tX7_keep_k29 (l : Launch) (E : EV) (a : Nat → Nat) (σ : St) (kp : Nat) (hnx : σ 0 3 = nI 29) (hkp : σ 0 4 = nI kp) (hk30 : kp ≤ 30) : MV l E (XW E a) yX7_keep (Cond.code yX7_keep cX7_keep 4 none) ({ frames := 1, cells := 0, slots := 0, locals := 24 }) [.ref (a 68)] σ (fun u_ => u_ = sr (sr σ 59 (kpr σ (σ 59))) 0 (upd (upd (σ 0) 3 (nI (if 29 ≠ 29 then 29 + 1 else 0))) 4 (nI (if kp ≠ 30 then kp + 1 else kp)))) := by
  refine MV.mk (by decide +kernel) (Nat.le_of_ble_eq_true rfl) ?_
  intro p e s m args below meth c ls A Q hret hC hw hl
  have hC : Cxt E p s m args meth c cX7_keep 4 none RX7 A := hC
  have hl : lv_has ls 4 [(0, .ref (a 68))] := hl
  refine lv_aload_n hC.1 hC.2.1 dX7_keep_0 rfl (lv_at hl 0 rfl) ?_
  refine gf_X7_13 hC hw dX7_keep_1 ?_
  refine lv_aload_n hC.1 hC.2.1 dX7_keep_4 rfl (lv_at hl 0 rfl) ?_
  refine gf_X7_28 (v := nI 29) hC hw hnx dX7_keep_5 ?_
  refine q_aald hC hw (i := 29) (by decide) dX7_keep_8 ?_
  refine lv_astore_n (lv' := [(1, .ref (a 59)), (0, .ref (a 68))]) hC.1 hC.2.1 dX7_keep_9 rfl hl (by decide) rfl (fun ls hl => ?_)
  refine lv_aload_n hC.1 hC.2.1 dX7_keep_10 rfl (lv_at hl 0 rfl) ?_
  refine lv_iconst (v := nI 0) hC.1 hC.2.1 dX7_keep_11 (by decide) ?_
  refine lv_aload_n hC.1 hC.2.1 dX7_keep_12 rfl (lv_at hl 1 rfl) ?_
  refine gf_X7_16 hC hw dX7_keep_13 ?_
  refine gf_X7_32 (v := σ 0 0) hC hw rfl dX7_keep_16 ?_
  refine q_ast (Wf := XW E a) 69 rfl (by decide) (XW_s59 _) hC hw (by omega) dX7_keep_19 (fun H locs hw => ?_)
  have hw : Wst E (XW E a) (sr σ 59 (upd (σ 59) 0 (σ 0 0))) A s.heap H locs := hw
  refine lv_aload_n hC.1 hC.2.1 dX7_keep_20 rfl (lv_at hl 0 rfl) ?_
  refine lv_iconst (v := nI 1) hC.1 hC.2.1 dX7_keep_21 (by decide) ?_
  refine lv_aload_n hC.1 hC.2.1 dX7_keep_22 rfl (lv_at hl 1 rfl) ?_
  refine gf_X7_20 hC hw dX7_keep_23 ?_
  refine gf_X7_37 (v := σ 0 1) hC hw rfl dX7_keep_26 ?_
  refine q_ast (Wf := XW E a) 69 rfl (by decide) (XW_s59 _) hC hw (by omega) dX7_keep_29 (fun H locs hw => ?_)
  have hw : Wst E (XW E a) (sr (sr σ 59 (upd (σ 59) 0 (σ 0 0))) 59 (upd (upd (σ 59) 0 (σ 0 0)) 1 (σ 0 1))) A s.heap H locs := hw
  have hst_ : sr (sr σ 59 (upd (σ 59) 0 (σ 0 0))) 59 (upd (upd (σ 59) 0 (σ 0 0)) 1 (σ 0 1)) = sr σ 59 (upd (upd (σ 59) 0 (σ 0 0)) 1 (σ 0 1)) := by
    funext j_ x_
    by_cases e0 : j_ = 0
    · subst e0
      rfl
    · by_cases e59 : j_ = 59
      · subst e59; rfl
      · simp only [sr, e0, e59, if_false]
  rw [hst_] at hw
  refine lv_aload_n hC.1 hC.2.1 dX7_keep_30 rfl (lv_at hl 0 rfl) ?_
  refine lv_iconst (v := nI 2) hC.1 hC.2.1 dX7_keep_31 (by decide) ?_
  refine lv_aload_n hC.1 hC.2.1 dX7_keep_32 rfl (lv_at hl 1 rfl) ?_
  refine gf_X7_20 hC hw dX7_keep_33 ?_
  refine gf_X7_40 (v := σ 0 2) hC hw rfl dX7_keep_36 ?_
  refine q_ast (Wf := XW E a) 69 rfl (by decide) (XW_s59 _) hC hw (by omega) dX7_keep_39 (fun H locs hw => ?_)
  have hw : Wst E (XW E a) (sr (sr σ 59 (upd (upd (σ 59) 0 (σ 0 0)) 1 (σ 0 1))) 59 (upd (upd (upd (σ 59) 0 (σ 0 0)) 1 (σ 0 1)) 2 (σ 0 2))) A s.heap H locs := hw
  have hst_ : sr (sr σ 59 (upd (upd (σ 59) 0 (σ 0 0)) 1 (σ 0 1))) 59 (upd (upd (upd (σ 59) 0 (σ 0 0)) 1 (σ 0 1)) 2 (σ 0 2)) = sr σ 59 (upd (upd (upd (σ 59) 0 (σ 0 0)) 1 (σ 0 1)) 2 (σ 0 2)) := by
    funext j_ x_
    by_cases e0 : j_ = 0
    · subst e0
      rfl
    · by_cases e59 : j_ = 59
      · subst e59; rfl
      · simp only [sr, e0, e59, if_false]
  rw [hst_] at hw
  refine lv_iconst (v := nI 3) hC.1 hC.2.1 dX7_keep_40 (by decide) ?_
  refine lv_istore_n (lv' := [(2, .int (nI 3)), (1, .ref (a 59)), (0, .ref (a 68))]) hC.1 hC.2.1 dX7_keep_41 rfl hl (by decide) rfl (fun ls hl => ?_)
  refine lv_aload_n hC.1 hC.2.1 dX7_keep_42 rfl (lv_at hl 2 rfl) ?_
  refine gf_X7_24 hC hw dX7_keep_43 ?_
  refine lv_iconst (v := nI 0) hC.1 hC.2.1 dX7_keep_46 (by decide) ?_
  refine lv_aload_n hC.1 hC.2.1 dX7_keep_47 rfl (lv_at hl 1 rfl) ?_
  refine lv_iload_n hC.1 hC.2.1 dX7_keep_48 rfl (lv_at hl 0 rfl) ?_
  refine lv_iconst (v := nI 3) hC.1 hC.2.1 dX7_keep_49 (by decide) ?_
  refine q_cpy (sp := 0) (dp := 3) (n := 3) 25 rfl 69 rfl (XW_s59 _) hC hw hl (by omega) (by omega) (by decide) (by decide) ⟨Nat.le_of_ble_eq_true rfl, Nat.le_of_ble_eq_true rfl⟩ wk2_182 dX7_keep_50 (fun H locs hw => ?_)
  have hw : Wst E (XW E a) (sr (sr σ 59 (upd (upd (upd (σ 59) 0 (σ 0 0)) 1 (σ 0 1)) 2 (σ 0 2))) 59 (va_cpy (σ 15) (upd (upd (upd (σ 59) 0 (σ 0 0)) 1 (σ 0 1)) 2 (σ 0 2)) 0 3 3)) A s.heap H locs := hw
  have hst_ : sr (sr σ 59 (upd (upd (upd (σ 59) 0 (σ 0 0)) 1 (σ 0 1)) 2 (σ 0 2))) 59 (va_cpy (σ 15) (upd (upd (upd (σ 59) 0 (σ 0 0)) 1 (σ 0 1)) 2 (σ 0 2)) 0 3 3) = sr σ 59 (va_cpy (σ 15) (upd (upd (upd (σ 59) 0 (σ 0 0)) 1 (σ 0 1)) 2 (σ 0 2)) 0 3 3) := by
    funext j_ x_
    by_cases e0 : j_ = 0
    · subst e0
      rfl
    · by_cases e59 : j_ = 59
      · subst e59; rfl
      · simp only [sr, e0, e59, if_false]
  rw [hst_] at hw
  refine lv_iinc (v := nI (3 + 3)) (lv' := [(2, .int (nI (3 + 3))), (1, .ref (a 59)), (0, .ref (a 68))]) hC.1 hC.2.1 dX7_keep_53 hl (k := 0) rfl (nI_add _ _) (by decide) rfl (fun ls hl => ?_)
  refine lv_iconst (v := nI 0) hC.1 hC.2.1 dX7_keep_56 (by decide) ?_
  refine lv_istore_n (lv' := [(3, .int (nI 0)), (2, .int (nI (3 + 3))), (1, .ref (a 59)), (0, .ref (a 68))]) hC.1 hC.2.1 dX7_keep_57 rfl hl (by decide) rfl (fun ls hl => ?_)
  have L58_0 : ∀ (n : Nat), ∀ (h : Nat), (h ≤ 10) → (10 - h) < n → ∀ (H : Heap) (locs : List Loc) (ls : Array Slot), Wst E (XW E a) (sr σ 59 (upc (σ 4) h (va_cpy (σ 15) (upd (upd (upd (σ 59) 0 (σ 0 0)) 1 (σ 0 1)) 2 (σ 0 2)) 0 3 3))) A s.heap H locs → lv_has ls 4 [(0, .ref (a 68)), (1, .ref (a 59)), (2, .int (nI (3 + 3))), (3, .int (nI h))] → W p l e ({ frames := 1, cells := 0, slots := 0, locals := 24 }) s m args below meth c H locs 0 0 Q (F0 m 58 ls []) := by
    intro n
    induction n with
    | zero => intro h hh hn; exact absurd hn (Nat.not_lt_zero _)
    | succ n ih58 =>
      intro h hh hn58 H locs ls hw hl
      refine lv_iload_n hC.1 hC.2.1 dX7_keep_58 rfl (lv_at hl 3 rfl) ?_
      refine lv_bipush (v := nI 10) hC.1 hC.2.1 dX7_keep_59 (by decide) ?_
      refine q_cmpge hC 92 (cNle (by omega) (by omega)) dX7_keep_61 (by decide) (fun (c2 : 10 ≤ h) => ?_) (fun (c2 : h < 10) => ?_)
      · have hh9 : h = 10 := by omega
        rw [hh9] at hw
        refine lv_iinc (v := nI (3 + 3 + 10)) (lv' := [(2, .int (nI (3 + 3 + 10))), (0, .ref (a 68)), (1, .ref (a 59)), (3, .int (nI h))]) hC.1 hC.2.1 dX7_keep_92 hl (k := 2) rfl (nI_add _ _) (by decide) rfl (fun ls hl => ?_)
        refine lv_aload_n hC.1 hC.2.1 dX7_keep_95 rfl (lv_at hl 1 rfl) ?_
        refine gf_X7_20 hC hw dX7_keep_96 ?_
        refine gf_X7_53 hC hw dX7_keep_99 ?_
        refine lv_iconst (v := nI 0) hC.1 hC.2.1 dX7_keep_102 (by decide) ?_
        refine lv_aload_n hC.1 hC.2.1 dX7_keep_103 rfl (lv_at hl 2 rfl) ?_
        refine lv_iload_n hC.1 hC.2.1 dX7_keep_104 rfl (lv_at hl 0 rfl) ?_
        refine lv_bipush (v := nI 24) hC.1 hC.2.1 dX7_keep_105 (by decide) ?_
        refine q_cpy (sp := 0) (dp := (3 + 3 + 10)) (n := 24) 21 rfl 69 rfl (XW_s59 _) hC hw hl (by omega) (by omega) (by decide) (by decide) ⟨Nat.le_of_ble_eq_true rfl, Nat.le_of_ble_eq_true rfl⟩ wk2_182 dX7_keep_107 (fun H locs hw => ?_)
        have hw : Wst E (XW E a) (sr (sr σ 59 (upc (σ 4) 10 (va_cpy (σ 15) (upd (upd (upd (σ 59) 0 (σ 0 0)) 1 (σ 0 1)) 2 (σ 0 2)) 0 3 3))) 59 (va_cpy (σ 11) (upc (σ 4) 10 (va_cpy (σ 15) (upd (upd (upd (σ 59) 0 (σ 0 0)) 1 (σ 0 1)) 2 (σ 0 2)) 0 3 3)) 0 (3 + 3 + 10) 24)) A s.heap H locs := hw
        have hst_ : sr (sr σ 59 (upc (σ 4) 10 (va_cpy (σ 15) (upd (upd (upd (σ 59) 0 (σ 0 0)) 1 (σ 0 1)) 2 (σ 0 2)) 0 3 3))) 59 (va_cpy (σ 11) (upc (σ 4) 10 (va_cpy (σ 15) (upd (upd (upd (σ 59) 0 (σ 0 0)) 1 (σ 0 1)) 2 (σ 0 2)) 0 3 3)) 0 (3 + 3 + 10) 24) = sr σ 59 (va_cpy (σ 11) (upc (σ 4) 10 (va_cpy (σ 15) (upd (upd (upd (σ 59) 0 (σ 0 0)) 1 (σ 0 1)) 2 (σ 0 2)) 0 3 3)) 0 (3 + 3 + 10) 24) := by
          funext j_ x_
          by_cases e0 : j_ = 0
          · subst e0
            rfl
          · by_cases e59 : j_ = 59
            · subst e59; rfl
            · simp only [sr, e0, e59, if_false]
        rw [hst_] at hw
        refine lv_aload_n hC.1 hC.2.1 dX7_keep_110 rfl (lv_at hl 1 rfl) ?_
        refine gf_X7_20 hC hw dX7_keep_111 ?_
        refine gf_X7_56 hC hw dX7_keep_114 ?_
        refine lv_iconst (v := nI 0) hC.1 hC.2.1 dX7_keep_117 (by decide) ?_
        refine lv_aload_n hC.1 hC.2.1 dX7_keep_118 rfl (lv_at hl 2 rfl) ?_
        refine lv_iload_n hC.1 hC.2.1 dX7_keep_119 rfl (lv_at hl 0 rfl) ?_
        refine lv_bipush (v := nI 24) hC.1 hC.2.1 dX7_keep_120 (by decide) ?_
        refine q_addN hC dX7_keep_122 ?_
        refine lv_bipush (v := nI 24) hC.1 hC.2.1 dX7_keep_123 (by decide) ?_
        refine q_cpy (sp := 0) (dp := ((3 + 3 + 10) + 24)) (n := 24) 22 rfl 69 rfl (XW_s59 _) hC hw hl (by omega) (by omega) (by decide) (by decide) ⟨Nat.le_of_ble_eq_true rfl, Nat.le_of_ble_eq_true rfl⟩ wk2_182 dX7_keep_125 (fun H locs hw => ?_)
        have hw : Wst E (XW E a) (sr (sr σ 59 (va_cpy (σ 11) (upc (σ 4) 10 (va_cpy (σ 15) (upd (upd (upd (σ 59) 0 (σ 0 0)) 1 (σ 0 1)) 2 (σ 0 2)) 0 3 3)) 0 (3 + 3 + 10) 24)) 59 (va_cpy (σ 12) (va_cpy (σ 11) (upc (σ 4) 10 (va_cpy (σ 15) (upd (upd (upd (σ 59) 0 (σ 0 0)) 1 (σ 0 1)) 2 (σ 0 2)) 0 3 3)) 0 (3 + 3 + 10) 24) 0 ((3 + 3 + 10) + 24) 24)) A s.heap H locs := hw
        have hst_ : sr (sr σ 59 (va_cpy (σ 11) (upc (σ 4) 10 (va_cpy (σ 15) (upd (upd (upd (σ 59) 0 (σ 0 0)) 1 (σ 0 1)) 2 (σ 0 2)) 0 3 3)) 0 (3 + 3 + 10) 24)) 59 (va_cpy (σ 12) (va_cpy (σ 11) (upc (σ 4) 10 (va_cpy (σ 15) (upd (upd (upd (σ 59) 0 (σ 0 0)) 1 (σ 0 1)) 2 (σ 0 2)) 0 3 3)) 0 (3 + 3 + 10) 24) 0 ((3 + 3 + 10) + 24) 24) = sr σ 59 (va_cpy (σ 12) (va_cpy (σ 11) (upc (σ 4) 10 (va_cpy (σ 15) (upd (upd (upd (σ 59) 0 (σ 0 0)) 1 (σ 0 1)) 2 (σ 0 2)) 0 3 3)) 0 (3 + 3 + 10) 24) 0 ((3 + 3 + 10) + 24) 24) := by
          funext j_ x_
          by_cases e0 : j_ = 0
          · subst e0
            rfl
          · by_cases e59 : j_ = 59
            · subst e59; rfl
            · simp only [sr, e0, e59, if_false]
        rw [hst_] at hw
        refine lv_aload_n hC.1 hC.2.1 dX7_keep_128 rfl (lv_at hl 1 rfl) ?_
        refine gf_X7_20 hC hw dX7_keep_129 ?_
        refine gf_X7_59 hC hw dX7_keep_132 ?_
        refine lv_iconst (v := nI 0) hC.1 hC.2.1 dX7_keep_135 (by decide) ?_
        refine lv_aload_n hC.1 hC.2.1 dX7_keep_136 rfl (lv_at hl 2 rfl) ?_
        refine lv_iload_n hC.1 hC.2.1 dX7_keep_137 rfl (lv_at hl 0 rfl) ?_
        refine lv_bipush (v := nI 48) hC.1 hC.2.1 dX7_keep_138 (by decide) ?_
        refine q_addN hC dX7_keep_140 ?_
        refine lv_bipush (v := nI 24) hC.1 hC.2.1 dX7_keep_141 (by decide) ?_
        refine q_cpy (sp := 0) (dp := ((3 + 3 + 10) + 48)) (n := 24) 23 rfl 69 rfl (XW_s59 _) hC hw hl (by omega) (by omega) (by decide) (by decide) ⟨Nat.le_of_ble_eq_true rfl, Nat.le_of_ble_eq_true rfl⟩ wk2_182 dX7_keep_143 (fun H locs hw => ?_)
        have hw : Wst E (XW E a) (sr (sr σ 59 (va_cpy (σ 12) (va_cpy (σ 11) (upc (σ 4) 10 (va_cpy (σ 15) (upd (upd (upd (σ 59) 0 (σ 0 0)) 1 (σ 0 1)) 2 (σ 0 2)) 0 3 3)) 0 (3 + 3 + 10) 24) 0 ((3 + 3 + 10) + 24) 24)) 59 (va_cpy (σ 13) (va_cpy (σ 12) (va_cpy (σ 11) (upc (σ 4) 10 (va_cpy (σ 15) (upd (upd (upd (σ 59) 0 (σ 0 0)) 1 (σ 0 1)) 2 (σ 0 2)) 0 3 3)) 0 (3 + 3 + 10) 24) 0 ((3 + 3 + 10) + 24) 24) 0 ((3 + 3 + 10) + 48) 24)) A s.heap H locs := hw
        have hst_ : sr (sr σ 59 (va_cpy (σ 12) (va_cpy (σ 11) (upc (σ 4) 10 (va_cpy (σ 15) (upd (upd (upd (σ 59) 0 (σ 0 0)) 1 (σ 0 1)) 2 (σ 0 2)) 0 3 3)) 0 (3 + 3 + 10) 24) 0 ((3 + 3 + 10) + 24) 24)) 59 (va_cpy (σ 13) (va_cpy (σ 12) (va_cpy (σ 11) (upc (σ 4) 10 (va_cpy (σ 15) (upd (upd (upd (σ 59) 0 (σ 0 0)) 1 (σ 0 1)) 2 (σ 0 2)) 0 3 3)) 0 (3 + 3 + 10) 24) 0 ((3 + 3 + 10) + 24) 24) 0 ((3 + 3 + 10) + 48) 24) = sr σ 59 (va_cpy (σ 13) (va_cpy (σ 12) (va_cpy (σ 11) (upc (σ 4) 10 (va_cpy (σ 15) (upd (upd (upd (σ 59) 0 (σ 0 0)) 1 (σ 0 1)) 2 (σ 0 2)) 0 3 3)) 0 (3 + 3 + 10) 24) 0 ((3 + 3 + 10) + 24) 24) 0 ((3 + 3 + 10) + 48) 24) := by
          funext j_ x_
          by_cases e0 : j_ = 0
          · subst e0
            rfl
          · by_cases e59 : j_ = 59
            · subst e59; rfl
            · simp only [sr, e0, e59, if_false]
        rw [hst_] at hw
        refine lv_aload_n hC.1 hC.2.1 dX7_keep_146 rfl (lv_at hl 1 rfl) ?_
        refine gf_X7_20 hC hw dX7_keep_147 ?_
        refine gf_X7_62 hC hw dX7_keep_150 ?_
        refine lv_iconst (v := nI 0) hC.1 hC.2.1 dX7_keep_153 (by decide) ?_
        refine lv_aload_n hC.1 hC.2.1 dX7_keep_154 rfl (lv_at hl 2 rfl) ?_
        refine lv_iload_n hC.1 hC.2.1 dX7_keep_155 rfl (lv_at hl 0 rfl) ?_
        refine lv_bipush (v := nI 72) hC.1 hC.2.1 dX7_keep_156 (by decide) ?_
        refine q_addN hC dX7_keep_158 ?_
        refine lv_bipush (v := nI 24) hC.1 hC.2.1 dX7_keep_159 (by decide) ?_
        refine q_cpy (sp := 0) (dp := ((3 + 3 + 10) + 72)) (n := 24) 24 rfl 69 rfl (XW_s59 _) hC hw hl (by omega) (by omega) (by decide) (by decide) ⟨Nat.le_of_ble_eq_true rfl, Nat.le_of_ble_eq_true rfl⟩ wk2_182 dX7_keep_161 (fun H locs hw => ?_)
        have hw : Wst E (XW E a) (sr (sr σ 59 (va_cpy (σ 13) (va_cpy (σ 12) (va_cpy (σ 11) (upc (σ 4) 10 (va_cpy (σ 15) (upd (upd (upd (σ 59) 0 (σ 0 0)) 1 (σ 0 1)) 2 (σ 0 2)) 0 3 3)) 0 (3 + 3 + 10) 24) 0 ((3 + 3 + 10) + 24) 24) 0 ((3 + 3 + 10) + 48) 24)) 59 (va_cpy (σ 14) (va_cpy (σ 13) (va_cpy (σ 12) (va_cpy (σ 11) (upc (σ 4) 10 (va_cpy (σ 15) (upd (upd (upd (σ 59) 0 (σ 0 0)) 1 (σ 0 1)) 2 (σ 0 2)) 0 3 3)) 0 (3 + 3 + 10) 24) 0 ((3 + 3 + 10) + 24) 24) 0 ((3 + 3 + 10) + 48) 24) 0 ((3 + 3 + 10) + 72) 24)) A s.heap H locs := hw
        have hst_ : sr (sr σ 59 (va_cpy (σ 13) (va_cpy (σ 12) (va_cpy (σ 11) (upc (σ 4) 10 (va_cpy (σ 15) (upd (upd (upd (σ 59) 0 (σ 0 0)) 1 (σ 0 1)) 2 (σ 0 2)) 0 3 3)) 0 (3 + 3 + 10) 24) 0 ((3 + 3 + 10) + 24) 24) 0 ((3 + 3 + 10) + 48) 24)) 59 (va_cpy (σ 14) (va_cpy (σ 13) (va_cpy (σ 12) (va_cpy (σ 11) (upc (σ 4) 10 (va_cpy (σ 15) (upd (upd (upd (σ 59) 0 (σ 0 0)) 1 (σ 0 1)) 2 (σ 0 2)) 0 3 3)) 0 (3 + 3 + 10) 24) 0 ((3 + 3 + 10) + 24) 24) 0 ((3 + 3 + 10) + 48) 24) 0 ((3 + 3 + 10) + 72) 24) = sr σ 59 (va_cpy (σ 14) (va_cpy (σ 13) (va_cpy (σ 12) (va_cpy (σ 11) (upc (σ 4) 10 (va_cpy (σ 15) (upd (upd (upd (σ 59) 0 (σ 0 0)) 1 (σ 0 1)) 2 (σ 0 2)) 0 3 3)) 0 (3 + 3 + 10) 24) 0 ((3 + 3 + 10) + 24) 24) 0 ((3 + 3 + 10) + 48) 24) 0 ((3 + 3 + 10) + 72) 24) := by
          funext j_ x_
          by_cases e0 : j_ = 0
          · subst e0
            rfl
          · by_cases e59 : j_ = 59
            · subst e59; rfl
            · simp only [sr, e0, e59, if_false]
        rw [hst_] at hw
        refine lv_aload_n hC.1 hC.2.1 dX7_keep_164 rfl (lv_at hl 1 rfl) ?_
        refine lv_aload_n hC.1 hC.2.1 dX7_keep_165 rfl (lv_at hl 1 rfl) ?_
        refine gf_X7_28 (v := nI 29) hC hw hnx dX7_keep_166 ?_
        refine lv_bipush (v := nI 29) hC.1 hC.2.1 dX7_keep_169 (by decide) ?_
        have J184_4 : ∀ (w3 : Nat), w3 = (if 29 ≠ 29 then (29 + 1) else 0) → ∀ (H : Heap) (locs : List Loc) (ls : Array Slot), Wst E (XW E a) (sr σ 59 (va_cpy (σ 14) (va_cpy (σ 13) (va_cpy (σ 12) (va_cpy (σ 11) (upc (σ 4) 10 (va_cpy (σ 15) (upd (upd (upd (σ 59) 0 (σ 0 0)) 1 (σ 0 1)) 2 (σ 0 2)) 0 3 3)) 0 (3 + 3 + 10) 24) 0 ((3 + 3 + 10) + 24) 24) 0 ((3 + 3 + 10) + 48) 24) 0 ((3 + 3 + 10) + 72) 24)) A s.heap H locs → lv_has ls 4 [(0, .ref (a 68)), (1, .ref (a 59)), (2, .int (nI (3 + 3 + 10))), (3, .int (nI h))] → W p l e ({ frames := 1, cells := 0, slots := 0, locals := 24 }) s m args below meth c H locs 0 0 Q (F0 m 184 ls [.int (nI w3), .ref (a 68)]) := by
          intro w3 e4 H locs ls hw hl
          subst e4
          refine pf_X7_28 hC hw dX7_keep_184 (fun H locs hw => ?_)
          have hw : Wst E (XW E a) (sr (sr σ 59 (va_cpy (σ 14) (va_cpy (σ 13) (va_cpy (σ 12) (va_cpy (σ 11) (upc (σ 4) 10 (va_cpy (σ 15) (upd (upd (upd (σ 59) 0 (σ 0 0)) 1 (σ 0 1)) 2 (σ 0 2)) 0 3 3)) 0 (3 + 3 + 10) 24) 0 ((3 + 3 + 10) + 24) 24) 0 ((3 + 3 + 10) + 48) 24) 0 ((3 + 3 + 10) + 72) 24)) 0 (upd (σ 0) 3 (nI (if 29 ≠ 29 then (29 + 1) else 0)))) A s.heap H locs := hw
          refine lv_aload_n hC.1 hC.2.1 dX7_keep_187 rfl (lv_at hl 0 rfl) ?_
          refine lv_aload_n hC.1 hC.2.1 dX7_keep_188 rfl (lv_at hl 0 rfl) ?_
          refine gf_X7_65 (v := nI kp) hC hw hkp dX7_keep_189 ?_
          refine lv_bipush (v := nI 30) hC.1 hC.2.1 dX7_keep_192 (by decide) ?_
          have J210_6 : ∀ (w5 : Nat), w5 = (if kp ≠ 30 then (kp + 1) else kp) → ∀ (H : Heap) (locs : List Loc) (ls : Array Slot), Wst E (XW E a) (sr (sr σ 59 (va_cpy (σ 14) (va_cpy (σ 13) (va_cpy (σ 12) (va_cpy (σ 11) (upc (σ 4) 10 (va_cpy (σ 15) (upd (upd (upd (σ 59) 0 (σ 0 0)) 1 (σ 0 1)) 2 (σ 0 2)) 0 3 3)) 0 (3 + 3 + 10) 24) 0 ((3 + 3 + 10) + 24) 24) 0 ((3 + 3 + 10) + 48) 24) 0 ((3 + 3 + 10) + 72) 24)) 0 (upd (σ 0) 3 (nI (if 29 ≠ 29 then (29 + 1) else 0)))) A s.heap H locs → lv_has ls 4 [(0, .ref (a 68)), (1, .ref (a 59)), (2, .int (nI (3 + 3 + 10))), (3, .int (nI h))] → W p l e ({ frames := 1, cells := 0, slots := 0, locals := 24 }) s m args below meth c H locs 0 0 Q (F0 m 210 ls [.int (nI w5), .ref (a 68)]) := by
            intro w5 e6 H locs ls hw hl
            subst e6
            refine pf_X7_65 hC hw dX7_keep_210 (fun H locs hw => ?_)
            have hw : Wst E (XW E a) (sr (sr (sr σ 59 (va_cpy (σ 14) (va_cpy (σ 13) (va_cpy (σ 12) (va_cpy (σ 11) (upc (σ 4) 10 (va_cpy (σ 15) (upd (upd (upd (σ 59) 0 (σ 0 0)) 1 (σ 0 1)) 2 (σ 0 2)) 0 3 3)) 0 (3 + 3 + 10) 24) 0 ((3 + 3 + 10) + 24) 24) 0 ((3 + 3 + 10) + 48) 24) 0 ((3 + 3 + 10) + 72) 24)) 0 (upd (σ 0) 3 (nI (if 29 ≠ 29 then (29 + 1) else 0)))) 0 (upd (upd (σ 0) 3 (nI (if 29 ≠ 29 then (29 + 1) else 0))) 4 (nI (if kp ≠ 30 then (kp + 1) else kp)))) A s.heap H locs := hw
            have hst_ : sr (sr (sr σ 59 (va_cpy (σ 14) (va_cpy (σ 13) (va_cpy (σ 12) (va_cpy (σ 11) (upc (σ 4) 10 (va_cpy (σ 15) (upd (upd (upd (σ 59) 0 (σ 0 0)) 1 (σ 0 1)) 2 (σ 0 2)) 0 3 3)) 0 (3 + 3 + 10) 24) 0 ((3 + 3 + 10) + 24) 24) 0 ((3 + 3 + 10) + 48) 24) 0 ((3 + 3 + 10) + 72) 24)) 0 (upd (σ 0) 3 (nI (if 29 ≠ 29 then (29 + 1) else 0)))) 0 (upd (upd (σ 0) 3 (nI (if 29 ≠ 29 then (29 + 1) else 0))) 4 (nI (if kp ≠ 30 then (kp + 1) else kp))) = sr (sr σ 59 (va_cpy (σ 14) (va_cpy (σ 13) (va_cpy (σ 12) (va_cpy (σ 11) (upc (σ 4) 10 (va_cpy (σ 15) (upd (upd (upd (σ 59) 0 (σ 0 0)) 1 (σ 0 1)) 2 (σ 0 2)) 0 3 3)) 0 (3 + 3 + 10) 24) 0 ((3 + 3 + 10) + 24) 24) 0 ((3 + 3 + 10) + 48) 24) 0 ((3 + 3 + 10) + 72) 24)) 0 (upd (upd (σ 0) 3 (nI (if 29 ≠ 29 then (29 + 1) else 0))) 4 (nI (if kp ≠ 30 then (kp + 1) else kp))) := by
              funext j_ x_
              by_cases e0 : j_ = 0
              · subst e0
                by_cases y3 : x_ = 3
                · subst y3; rfl
                · by_cases y4 : x_ = 4
                  · subst y4; rfl
                  · simp [sr, upd, y3, y4]
              · by_cases e59 : j_ = 59
                · subst e59; rfl
                · simp only [sr, e0, e59, if_false]
            rw [hst_] at hw
            refine hret _ _ _ _ _ hw ?_ dX7_keep_213
            exact rfl
          refine q_cmpne hC 204 (cNeq (by omega) (by omega)) dX7_keep_194 (by decide) (fun (c7 : kp ≠ 30) => ?_) (fun (c7 : kp = 30) => ?_)
          · refine lv_aload_n hC.1 hC.2.1 dX7_keep_204 rfl (lv_at hl 0 rfl) ?_
            refine gf_X7_65 (v := nI kp) hC hw hkp dX7_keep_205 ?_
            refine lv_iconst (v := nI 1) hC.1 hC.2.1 dX7_keep_208 (by decide) ?_
            refine q_addN hC dX7_keep_209 ?_
            exact J210_6 _ (by (rw [if_pos c7]) <;> rfl) _ _ _ hw (lv_sub hl [0, 1, 2, 3] rfl)
          · refine lv_aload_n hC.1 hC.2.1 dX7_keep_197 rfl (lv_at hl 0 rfl) ?_
            refine gf_X7_65 (v := nI kp) hC hw hkp dX7_keep_198 ?_
            refine lv_goto (tgt := 210) hC.1 hC.2.1 dX7_keep_201 (by decide) ?_
            exact J210_6 _ (by (rw [if_neg (fun q => q c7)]) <;> rfl) _ _ _ hw (lv_sub hl [0, 1, 2, 3] rfl)
        refine q_cmpne hC 178 (cNeq (by omega) (by omega)) dX7_keep_171 (by decide) (fun (c8 : 29 ≠ 29) => ?_) (fun (c8 : 29 = 29) => ?_)
        · refine lv_aload_n hC.1 hC.2.1 dX7_keep_178 rfl (lv_at hl 1 rfl) ?_
          refine gf_X7_28 (v := nI 29) hC hw hnx dX7_keep_179 ?_
          refine lv_iconst (v := nI 1) hC.1 hC.2.1 dX7_keep_182 (by decide) ?_
          refine q_addN hC dX7_keep_183 ?_
          exact J184_4 _ (by (rw [if_pos c8]) <;> rfl) _ _ _ hw (lv_sub hl [1, 2, 0, 3] rfl)
        · refine lv_iconst (v := nI 0) hC.1 hC.2.1 dX7_keep_174 (by decide) ?_
          refine lv_goto (tgt := 184) hC.1 hC.2.1 dX7_keep_175 (by decide) ?_
          exact J184_4 _ (by (rw [if_neg (fun q => q c8)]) <;> rfl) _ _ _ hw (lv_sub hl [1, 2, 0, 3] rfl)
      · refine lv_aload_n hC.1 hC.2.1 dX7_keep_64 rfl (lv_at hl 1 rfl) ?_
        refine lv_iload_n hC.1 hC.2.1 dX7_keep_65 rfl (lv_at hl 2 rfl) ?_
        refine lv_iload_n hC.1 hC.2.1 dX7_keep_66 rfl (lv_at hl 3 rfl) ?_
        refine q_addN hC dX7_keep_67 ?_
        refine lv_aload_n hC.1 hC.2.1 dX7_keep_68 rfl (lv_at hl 0 rfl) ?_
        refine gf_X7_16 hC hw dX7_keep_69 ?_
        refine gf_X7_49 hC hw dX7_keep_72 ?_
        refine lv_iload_n hC.1 hC.2.1 dX7_keep_75 rfl (lv_at hl 3 rfl) ?_
        refine al_X4 (v := σ 4 h) hC hw (by omega) rfl dX7_keep_76 ?_
        have J85_10 : ∀ (w9 : Int32), w9 = (if ¬ (σ 4 h = 0) then (1 : Int32) else 0) → ∀ (H : Heap) (locs : List Loc) (ls : Array Slot), Wst E (XW E a) (sr σ 59 (upc (σ 4) h (va_cpy (σ 15) (upd (upd (upd (σ 59) 0 (σ 0 0)) 1 (σ 0 1)) 2 (σ 0 2)) 0 3 3))) A s.heap H locs → lv_has ls 4 [(0, .ref (a 68)), (1, .ref (a 59)), (2, .int (nI (3 + 3))), (3, .int (nI h))] → W p l e ({ frames := 1, cells := 0, slots := 0, locals := 24 }) s m args below meth c H locs 0 0 Q (F0 m 85 ls [.int (w9), .int (nI ((3 + 3) + h)), .ref (a 59)]) := by
          intro w9 e10 H locs ls hw hl
          subst e10
          refine q_ast (Wf := XW E a) 69 rfl (by decide) (XW_s59 _) hC hw (by omega) dX7_keep_85 (fun H locs hw => ?_)
          have hw : Wst E (XW E a) (sr (sr σ 59 (upc (σ 4) h (va_cpy (σ 15) (upd (upd (upd (σ 59) 0 (σ 0 0)) 1 (σ 0 1)) 2 (σ 0 2)) 0 3 3))) 59 (upd (upc (σ 4) h (va_cpy (σ 15) (upd (upd (upd (σ 59) 0 (σ 0 0)) 1 (σ 0 1)) 2 (σ 0 2)) 0 3 3)) ((3 + 3) + h) (if ¬ (σ 4 h = 0) then (1 : Int32) else 0))) A s.heap H locs := hw
          have hst_ : sr (sr σ 59 (upc (σ 4) h (va_cpy (σ 15) (upd (upd (upd (σ 59) 0 (σ 0 0)) 1 (σ 0 1)) 2 (σ 0 2)) 0 3 3))) 59 (upd (upc (σ 4) h (va_cpy (σ 15) (upd (upd (upd (σ 59) 0 (σ 0 0)) 1 (σ 0 1)) 2 (σ 0 2)) 0 3 3)) ((3 + 3) + h) (if ¬ (σ 4 h = 0) then (1 : Int32) else 0)) = sr σ 59 (upd (upc (σ 4) h (va_cpy (σ 15) (upd (upd (upd (σ 59) 0 (σ 0 0)) 1 (σ 0 1)) 2 (σ 0 2)) 0 3 3)) ((3 + 3) + h) (if ¬ (σ 4 h = 0) then (1 : Int32) else 0)) := by
            funext j_ x_
            by_cases e0 : j_ = 0
            · subst e0
              rfl
            · by_cases e59 : j_ = 59
              · subst e59; rfl
              · simp only [sr, e0, e59, if_false]
          rw [hst_] at hw
          refine lv_iinc (v := nI (h + 1)) (lv' := [(3, .int (nI (h + 1))), (0, .ref (a 68)), (1, .ref (a 59)), (2, .int (nI (3 + 3)))]) hC.1 hC.2.1 dX7_keep_86 hl (k := 3) rfl (nI_add _ _) (by decide) rfl (fun ls hl => ?_)
          refine lv_goto (tgt := 58) hC.1 hC.2.1 dX7_keep_89 (by decide) ?_
          rw [upc_s] at hw
          exact ih58 (h + 1) (by omega) (by omega) _ _ _ hw (lv_sub hl [1, 2, 3, 0] rfl)
        refine q_ifeq hC 84 cI dX7_keep_77 (by decide) (fun (c11 : σ 4 h = 0) => ?_) (fun (c11 : ¬ (σ 4 h = 0)) => ?_)
        · refine lv_iconst (v := nI 0) hC.1 hC.2.1 dX7_keep_84 (by decide) ?_
          exact J85_10 _ (if_neg (fun q => q c11)).symm _ _ _ hw (lv_sub hl [0, 1, 2, 3] rfl)
        · refine lv_iconst (v := nI 1) hC.1 hC.2.1 dX7_keep_80 (by decide) ?_
          refine lv_goto (tgt := 85) hC.1 hC.2.1 dX7_keep_81 (by decide) ?_
          exact J85_10 _ (if_pos c11).symm _ _ _ hw (lv_sub hl [0, 1, 2, 3] rfl)
  rw [← upc_0 (σ 4) (va_cpy (σ 15) (upd (upd (upd (σ 59) 0 (σ 0 0)) 1 (σ 0 1)) 2 (σ 0 2)) 0 3 3)] at hw
  exact L58_0 _ 0 (by omega) (Nat.lt_succ_self _) _ _ _ hw (lv_sub hl [3, 2, 1, 0] rfl)
