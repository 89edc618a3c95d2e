set_option maxHeartbeats 4000000 in
set_option maxRecDepth 100000 in
theorem tX7_keep_k0 (l : Launch) (E : EV) (a : Nat → Nat) (σ : St) (kp : Nat) (hnx : σ 0 3 = nI 0) (hkp : σ 0 4 = nI kp) (hk30 : kp ≤ 30) : MV l E (XW E a) yX7_keep (Cond.code yX7_keep cX7_keep 4 none) ({ frames := 1, cells := 0, slots := 0, locals := 24 }) [.ref (a 68)] σ (fun u_ => u_ = sr (sr σ 30 (kpr σ (σ 30))) 0 (upd (upd (σ 0) 3 (nI (if 0 ≠ 29 then 0 + 1 else 0))) 4 (nI (if kp ≠ 30 then kp + 1 else kp)))) := by
  refine MV.mk (by decide +kernel) (Nat.le_of_ble_eq_true rfl) ?_
  intro p e s m args below meth c ls A Q hret hC hw hl
  have hC : Cxt E p s m args meth c cX7_keep 4 none RX7 A := hC
  have hl : lv_has ls 4 [(0, .ref (a 68))] := hl
  refine lv_aload_n hC.1 hC.2.1 dX7_keep_0 rfl (lv_at hl 0 rfl) ?_
  refine gf_X7_13 hC hw dX7_keep_1 ?_
  refine lv_aload_n hC.1 hC.2.1 dX7_keep_4 rfl (lv_at hl 0 rfl) ?_
  refine gf_X7_28 (v := nI 0) hC hw hnx dX7_keep_5 ?_
  refine q_aald hC hw (i := 0) (by decide) dX7_keep_8 ?_
  refine lv_astore_n (lv' := [(1, .ref (a 30)), (0, .ref (a 68))]) hC.1 hC.2.1 dX7_keep_9 rfl hl (by decide) rfl (fun ls hl => ?_)
  refine lv_aload_n hC.1 hC.2.1 dX7_keep_10 rfl (lv_at hl 0 rfl) ?_
  refine lv_iconst (v := nI 0) hC.1 hC.2.1 dX7_keep_11 (by decide) ?_
  refine lv_aload_n hC.1 hC.2.1 dX7_keep_12 rfl (lv_at hl 1 rfl) ?_
  refine gf_X7_16 hC hw dX7_keep_13 ?_
  refine gf_X7_32 (v := σ 0 0) hC hw rfl dX7_keep_16 ?_
  refine q_ast (Wf := XW E a) 40 rfl (by decide) (XW_s30 _) hC hw (by omega) dX7_keep_19 (fun H locs hw => ?_)
  have hw : Wst E (XW E a) (sr σ 30 (upd (σ 30) 0 (σ 0 0))) A s.heap H locs := hw
  refine lv_aload_n hC.1 hC.2.1 dX7_keep_20 rfl (lv_at hl 0 rfl) ?_
  refine lv_iconst (v := nI 1) hC.1 hC.2.1 dX7_keep_21 (by decide) ?_
  refine lv_aload_n hC.1 hC.2.1 dX7_keep_22 rfl (lv_at hl 1 rfl) ?_
  refine gf_X7_20 hC hw dX7_keep_23 ?_
  refine gf_X7_37 (v := σ 0 1) hC hw rfl dX7_keep_26 ?_
  refine q_ast (Wf := XW E a) 40 rfl (by decide) (XW_s30 _) hC hw (by omega) dX7_keep_29 (fun H locs hw => ?_)
  have hw : Wst E (XW E a) (sr (sr σ 30 (upd (σ 30) 0 (σ 0 0))) 30 (upd (upd (σ 30) 0 (σ 0 0)) 1 (σ 0 1))) A s.heap H locs := hw
  have hst_ : sr (sr σ 30 (upd (σ 30) 0 (σ 0 0))) 30 (upd (upd (σ 30) 0 (σ 0 0)) 1 (σ 0 1)) = sr σ 30 (upd (upd (σ 30) 0 (σ 0 0)) 1 (σ 0 1)) := by
    funext j_ x_
    by_cases e0 : j_ = 0
    · subst e0
      rfl
    · by_cases e30 : j_ = 30
      · subst e30; rfl
      · simp only [sr, e0, e30, if_false]
  rw [hst_] at hw
  refine lv_aload_n hC.1 hC.2.1 dX7_keep_30 rfl (lv_at hl 0 rfl) ?_
  refine lv_iconst (v := nI 2) hC.1 hC.2.1 dX7_keep_31 (by decide) ?_
  refine lv_aload_n hC.1 hC.2.1 dX7_keep_32 rfl (lv_at hl 1 rfl) ?_
  refine gf_X7_20 hC hw dX7_keep_33 ?_
  refine gf_X7_40 (v := σ 0 2) hC hw rfl dX7_keep_36 ?_
  refine q_ast (Wf := XW E a) 40 rfl (by decide) (XW_s30 _) hC hw (by omega) dX7_keep_39 (fun H locs hw => ?_)
  have hw : Wst E (XW E a) (sr (sr σ 30 (upd (upd (σ 30) 0 (σ 0 0)) 1 (σ 0 1))) 30 (upd (upd (upd (σ 30) 0 (σ 0 0)) 1 (σ 0 1)) 2 (σ 0 2))) A s.heap H locs := hw
  have hst_ : sr (sr σ 30 (upd (upd (σ 30) 0 (σ 0 0)) 1 (σ 0 1))) 30 (upd (upd (upd (σ 30) 0 (σ 0 0)) 1 (σ 0 1)) 2 (σ 0 2)) = sr σ 30 (upd (upd (upd (σ 30) 0 (σ 0 0)) 1 (σ 0 1)) 2 (σ 0 2)) := by
    funext j_ x_
    by_cases e0 : j_ = 0
    · subst e0
      rfl
    · by_cases e30 : j_ = 30
      · subst e30; rfl
      · simp only [sr, e0, e30, if_false]
  rw [hst_] at hw
  refine lv_iconst (v := nI 3) hC.1 hC.2.1 dX7_keep_40 (by decide) ?_
  refine lv_istore_n (lv' := [(2, .int (nI 3)), (1, .ref (a 30)), (0, .ref (a 68))]) hC.1 hC.2.1 dX7_keep_41 rfl hl (by decide) rfl (fun ls hl => ?_)
  refine lv_aload_n hC.1 hC.2.1 dX7_keep_42 rfl (lv_at hl 2 rfl) ?_
  refine gf_X7_24 hC hw dX7_keep_43 ?_
  refine lv_iconst (v := nI 0) hC.1 hC.2.1 dX7_keep_46 (by decide) ?_
  refine lv_aload_n hC.1 hC.2.1 dX7_keep_47 rfl (lv_at hl 1 rfl) ?_
  refine lv_iload_n hC.1 hC.2.1 dX7_keep_48 rfl (lv_at hl 0 rfl) ?_
  refine lv_iconst (v := nI 3) hC.1 hC.2.1 dX7_keep_49 (by decide) ?_
  refine q_cpy (sp := 0) (dp := 3) (n := 3) 25 rfl 40 rfl (XW_s30 _) hC hw hl (by omega) (by omega) (by decide) (by decide) ⟨Nat.le_of_ble_eq_true rfl, Nat.le_of_ble_eq_true rfl⟩ wk2_182 dX7_keep_50 (fun H locs hw => ?_)
  have hw : Wst E (XW E a) (sr (sr σ 30 (upd (upd (upd (σ 30) 0 (σ 0 0)) 1 (σ 0 1)) 2 (σ 0 2))) 30 (va_cpy (σ 15) (upd (upd (upd (σ 30) 0 (σ 0 0)) 1 (σ 0 1)) 2 (σ 0 2)) 0 3 3)) A s.heap H locs := hw
  have hst_ : sr (sr σ 30 (upd (upd (upd (σ 30) 0 (σ 0 0)) 1 (σ 0 1)) 2 (σ 0 2))) 30 (va_cpy (σ 15) (upd (upd (upd (σ 30) 0 (σ 0 0)) 1 (σ 0 1)) 2 (σ 0 2)) 0 3 3) = sr σ 30 (va_cpy (σ 15) (upd (upd (upd (σ 30) 0 (σ 0 0)) 1 (σ 0 1)) 2 (σ 0 2)) 0 3 3) := by
    funext j_ x_
    by_cases e0 : j_ = 0
    · subst e0
      rfl
    · by_cases e30 : j_ = 30
      · subst e30; rfl
      · simp only [sr, e0, e30, if_false]
  rw [hst_] at hw
  refine lv_iinc (v := nI (3 + 3)) (lv' := [(2, .int (nI (3 + 3))), (1, .ref (a 30)), (0, .ref (a 68))]) hC.1 hC.2.1 dX7_keep_53 hl (k := 0) rfl (nI_add _ _) (by decide) rfl (fun ls hl => ?_)
  refine lv_iconst (v := nI 0) hC.1 hC.2.1 dX7_keep_56 (by decide) ?_
  refine lv_istore_n (lv' := [(3, .int (nI 0)), (2, .int (nI (3 + 3))), (1, .ref (a 30)), (0, .ref (a 68))]) hC.1 hC.2.1 dX7_keep_57 rfl hl (by decide) rfl (fun ls hl => ?_)
  have L58_0 : ∀ (n : Nat), ∀ (h : Nat), (h ≤ 10) → (10 - h) < n → ∀ (H : Heap) (locs : List Loc) (ls : Array Slot), Wst E (XW E a) (sr σ 30 (upc (σ 4) h (va_cpy (σ 15) (upd (upd (upd (σ 30) 0 (σ 0 0)) 1 (σ 0 1)) 2 (σ 0 2)) 0 3 3))) A s.heap H locs → lv_has ls 4 [(0, .ref (a 68)), (1, .ref (a 30)), (2, .int (nI (3 + 3))), (3, .int (nI h))] → W p l e ({ frames := 1, cells := 0, slots := 0, locals := 24 }) s m args below meth c H locs 0 0 Q (F0 m 58 ls []) := by
    intro n
    induction n with
    | zero => intro h hh hn; exact absurd hn (Nat.not_lt_zero _)
    | succ n ih58 =>
      intro h hh hn58 H locs ls hw hl
      refine lv_iload_n hC.1 hC.2.1 dX7_keep_58 rfl (lv_at hl 3 rfl) ?_
      refine lv_bipush (v := nI 10) hC.1 hC.2.1 dX7_keep_59 (by decide) ?_
      refine q_cmpge hC 92 (cNle (by omega) (by omega)) dX7_keep_61 (by decide) (fun (c2 : 10 ≤ h) => ?_) (fun (c2 : h < 10) => ?_)
      · have hh9 : h = 10 := by omega
        rw [hh9] at hw
        refine lv_iinc (v := nI (3 + 3 + 10)) (lv' := [(2, .int (nI (3 + 3 + 10))), (0, .ref (a 68)), (1, .ref (a 30)), (3, .int (nI h))]) hC.1 hC.2.1 dX7_keep_92 hl (k := 2) rfl (nI_add _ _) (by decide) rfl (fun ls hl => ?_)
        refine lv_aload_n hC.1 hC.2.1 dX7_keep_95 rfl (lv_at hl 1 rfl) ?_
        refine gf_X7_20 hC hw dX7_keep_96 ?_
        refine gf_X7_53 hC hw dX7_keep_99 ?_
        refine lv_iconst (v := nI 0) hC.1 hC.2.1 dX7_keep_102 (by decide) ?_
        refine lv_aload_n hC.1 hC.2.1 dX7_keep_103 rfl (lv_at hl 2 rfl) ?_
        refine lv_iload_n hC.1 hC.2.1 dX7_keep_104 rfl (lv_at hl 0 rfl) ?_
        refine lv_bipush (v := nI 24) hC.1 hC.2.1 dX7_keep_105 (by decide) ?_
        refine q_cpy (sp := 0) (dp := (3 + 3 + 10)) (n := 24) 21 rfl 40 rfl (XW_s30 _) hC hw hl (by omega) (by omega) (by decide) (by decide) ⟨Nat.le_of_ble_eq_true rfl, Nat.le_of_ble_eq_true rfl⟩ wk2_182 dX7_keep_107 (fun H locs hw => ?_)
        have hw : Wst E (XW E a) (sr (sr σ 30 (upc (σ 4) 10 (va_cpy (σ 15) (upd (upd (upd (σ 30) 0 (σ 0 0)) 1 (σ 0 1)) 2 (σ 0 2)) 0 3 3))) 30 (va_cpy (σ 11) (upc (σ 4) 10 (va_cpy (σ 15) (upd (upd (upd (σ 30) 0 (σ 0 0)) 1 (σ 0 1)) 2 (σ 0 2)) 0 3 3)) 0 (3 + 3 + 10) 24)) A s.heap H locs := hw
        have hst_ : sr (sr σ 30 (upc (σ 4) 10 (va_cpy (σ 15) (upd (upd (upd (σ 30) 0 (σ 0 0)) 1 (σ 0 1)) 2 (σ 0 2)) 0 3 3))) 30 (va_cpy (σ 11) (upc (σ 4) 10 (va_cpy (σ 15) (upd (upd (upd (σ 30) 0 (σ 0 0)) 1 (σ 0 1)) 2 (σ 0 2)) 0 3 3)) 0 (3 + 3 + 10) 24) = sr σ 30 (va_cpy (σ 11) (upc (σ 4) 10 (va_cpy (σ 15) (upd (upd (upd (σ 30) 0 (σ 0 0)) 1 (σ 0 1)) 2 (σ 0 2)) 0 3 3)) 0 (3 + 3 + 10) 24) := by
          funext j_ x_
          by_cases e0 : j_ = 0
          · subst e0
            rfl
          · by_cases e30 : j_ = 30
            · subst e30; rfl
            · simp only [sr, e0, e30, if_false]
        rw [hst_] at hw
        refine lv_aload_n hC.1 hC.2.1 dX7_keep_110 rfl (lv_at hl 1 rfl) ?_
        refine gf_X7_20 hC hw dX7_keep_111 ?_
        refine gf_X7_56 hC hw dX7_keep_114 ?_
        refine lv_iconst (v := nI 0) hC.1 hC.2.1 dX7_keep_117 (by decide) ?_
        refine lv_aload_n hC.1 hC.2.1 dX7_keep_118 rfl (lv_at hl 2 rfl) ?_
        refine lv_iload_n hC.1 hC.2.1 dX7_keep_119 rfl (lv_at hl 0 rfl) ?_
        refine lv_bipush (v := nI 24) hC.1 hC.2.1 dX7_keep_120 (by decide) ?_
        refine q_addN hC dX7_keep_122 ?_
        refine lv_bipush (v := nI 24) hC.1 hC.2.1 dX7_keep_123 (by decide) ?_
        refine q_cpy (sp := 0) (dp := ((3 + 3 + 10) + 24)) (n := 24) 22 rfl 40 rfl (XW_s30 _) hC hw hl (by omega) (by omega) (by decide) (by decide) ⟨Nat.le_of_ble_eq_true rfl, Nat.le_of_ble_eq_true rfl⟩ wk2_182 dX7_keep_125 (fun H locs hw => ?_)
        have hw : Wst E (XW E a) (sr (sr σ 30 (va_cpy (σ 11) (upc (σ 4) 10 (va_cpy (σ 15) (upd (upd (upd (σ 30) 0 (σ 0 0)) 1 (σ 0 1)) 2 (σ 0 2)) 0 3 3)) 0 (3 + 3 + 10) 24)) 30 (va_cpy (σ 12) (va_cpy (σ 11) (upc (σ 4) 10 (va_cpy (σ 15) (upd (upd (upd (σ 30) 0 (σ 0 0)) 1 (σ 0 1)) 2 (σ 0 2)) 0 3 3)) 0 (3 + 3 + 10) 24) 0 ((3 + 3 + 10) + 24) 24)) A s.heap H locs := hw
        have hst_ : sr (sr σ 30 (va_cpy (σ 11) (upc (σ 4) 10 (va_cpy (σ 15) (upd (upd (upd (σ 30) 0 (σ 0 0)) 1 (σ 0 1)) 2 (σ 0 2)) 0 3 3)) 0 (3 + 3 + 10) 24)) 30 (va_cpy (σ 12) (va_cpy (σ 11) (upc (σ 4) 10 (va_cpy (σ 15) (upd (upd (upd (σ 30) 0 (σ 0 0)) 1 (σ 0 1)) 2 (σ 0 2)) 0 3 3)) 0 (3 + 3 + 10) 24) 0 ((3 + 3 + 10) + 24) 24) = sr σ 30 (va_cpy (σ 12) (va_cpy (σ 11) (upc (σ 4) 10 (va_cpy (σ 15) (upd (upd (upd (σ 30) 0 (σ 0 0)) 1 (σ 0 1)) 2 (σ 0 2)) 0 3 3)) 0 (3 + 3 + 10) 24) 0 ((3 + 3 + 10) + 24) 24) := by
          funext j_ x_
          by_cases e0 : j_ = 0
          · subst e0
            rfl
          · by_cases e30 : j_ = 30
            · subst e30; rfl
            · simp only [sr, e0, e30, if_false]
        rw [hst_] at hw
        refine lv_aload_n hC.1 hC.2.1 dX7_keep_128 rfl (lv_at hl 1 rfl) ?_
        refine gf_X7_20 hC hw dX7_keep_129 ?_
        refine gf_X7_59 hC hw dX7_keep_132 ?_
        refine lv_iconst (v := nI 0) hC.1 hC.2.1 dX7_keep_135 (by decide) ?_
        refine lv_aload_n hC.1 hC.2.1 dX7_keep_136 rfl (lv_at hl 2 rfl) ?_
        refine lv_iload_n hC.1 hC.2.1 dX7_keep_137 rfl (lv_at hl 0 rfl) ?_
        refine lv_bipush (v := nI 48) hC.1 hC.2.1 dX7_keep_138 (by decide) ?_
        refine q_addN hC dX7_keep_140 ?_
        refine lv_bipush (v := nI 24) hC.1 hC.2.1 dX7_keep_141 (by decide) ?_
        refine q_cpy (sp := 0) (dp := ((3 + 3 + 10) + 48)) (n := 24) 23 rfl 40 rfl (XW_s30 _) hC hw hl (by omega) (by omega) (by decide) (by decide) ⟨Nat.le_of_ble_eq_true rfl, Nat.le_of_ble_eq_true rfl⟩ wk2_182 dX7_keep_143 (fun H locs hw => ?_)
        have hw : Wst E (XW E a) (sr (sr σ 30 (va_cpy (σ 12) (va_cpy (σ 11) (upc (σ 4) 10 (va_cpy (σ 15) (upd (upd (upd (σ 30) 0 (σ 0 0)) 1 (σ 0 1)) 2 (σ 0 2)) 0 3 3)) 0 (3 + 3 + 10) 24) 0 ((3 + 3 + 10) + 24) 24)) 30 (va_cpy (σ 13) (va_cpy (σ 12) (va_cpy (σ 11) (upc (σ 4) 10 (va_cpy (σ 15) (upd (upd (upd (σ 30) 0 (σ 0 0)) 1 (σ 0 1)) 2 (σ 0 2)) 0 3 3)) 0 (3 + 3 + 10) 24) 0 ((3 + 3 + 10) + 24) 24) 0 ((3 + 3 + 10) + 48) 24)) A s.heap H locs := hw
        have hst_ : sr (sr σ 30 (va_cpy (σ 12) (va_cpy (σ 11) (upc (σ 4) 10 (va_cpy (σ 15) (upd (upd (upd (σ 30) 0 (σ 0 0)) 1 (σ 0 1)) 2 (σ 0 2)) 0 3 3)) 0 (3 + 3 + 10) 24) 0 ((3 + 3 + 10) + 24) 24)) 30 (va_cpy (σ 13) (va_cpy (σ 12) (va_cpy (σ 11) (upc (σ 4) 10 (va_cpy (σ 15) (upd (upd (upd (σ 30) 0 (σ 0 0)) 1 (σ 0 1)) 2 (σ 0 2)) 0 3 3)) 0 (3 + 3 + 10) 24) 0 ((3 + 3 + 10) + 24) 24) 0 ((3 + 3 + 10) + 48) 24) = sr σ 30 (va_cpy (σ 13) (va_cpy (σ 12) (va_cpy (σ 11) (upc (σ 4) 10 (va_cpy (σ 15) (upd (upd (upd (σ 30) 0 (σ 0 0)) 1 (σ 0 1)) 2 (σ 0 2)) 0 3 3)) 0 (3 + 3 + 10) 24) 0 ((3 + 3 + 10) + 24) 24) 0 ((3 + 3 + 10) + 48) 24) := by
          funext j_ x_
          by_cases e0 : j_ = 0
          · subst e0
            rfl
          · by_cases e30 : j_ = 30
            · subst e30; rfl
            · simp only [sr, e0, e30, if_false]
        rw [hst_] at hw
        refine lv_aload_n hC.1 hC.2.1 dX7_keep_146 rfl (lv_at hl 1 rfl) ?_
        refine gf_X7_20 hC hw dX7_keep_147 ?_
        refine gf_X7_62 hC hw dX7_keep_150 ?_
        refine lv_iconst (v := nI 0) hC.1 hC.2.1 dX7_keep_153 (by decide) ?_
        refine lv_aload_n hC.1 hC.2.1 dX7_keep_154 rfl (lv_at hl 2 rfl) ?_
        refine lv_iload_n hC.1 hC.2.1 dX7_keep_155 rfl (lv_at hl 0 rfl) ?_
        refine lv_bipush (v := nI 72) hC.1 hC.2.1 dX7_keep_156 (by decide) ?_
        refine q_addN hC dX7_keep_158 ?_
        refine lv_bipush (v := nI 24) hC.1 hC.2.1 dX7_keep_159 (by decide) ?_
        refine q_cpy (sp := 0) (dp := ((3 + 3 + 10) + 72)) (n := 24) 24 rfl 40 rfl (XW_s30 _) hC hw hl (by omega) (by omega) (by decide) (by decide) ⟨Nat.le_of_ble_eq_true rfl, Nat.le_of_ble_eq_true rfl⟩ wk2_182 dX7_keep_161 (fun H locs hw => ?_)
        have hw : Wst E (XW E a) (sr (sr σ 30 (va_cpy (σ 13) (va_cpy (σ 12) (va_cpy (σ 11) (upc (σ 4) 10 (va_cpy (σ 15) (upd (upd (upd (σ 30) 0 (σ 0 0)) 1 (σ 0 1)) 2 (σ 0 2)) 0 3 3)) 0 (3 + 3 + 10) 24) 0 ((3 + 3 + 10) + 24) 24) 0 ((3 + 3 + 10) + 48) 24)) 30 (va_cpy (σ 14) (va_cpy (σ 13) (va_cpy (σ 12) (va_cpy (σ 11) (upc (σ 4) 10 (va_cpy (σ 15) (upd (upd (upd (σ 30) 0 (σ 0 0)) 1 (σ 0 1)) 2 (σ 0 2)) 0 3 3)) 0 (3 + 3 + 10) 24) 0 ((3 + 3 + 10) + 24) 24) 0 ((3 + 3 + 10) + 48) 24) 0 ((3 + 3 + 10) + 72) 24)) A s.heap H locs := hw
        have hst_ : sr (sr σ 30 (va_cpy (σ 13) (va_cpy (σ 12) (va_cpy (σ 11) (upc (σ 4) 10 (va_cpy (σ 15) (upd (upd (upd (σ 30) 0 (σ 0 0)) 1 (σ 0 1)) 2 (σ 0 2)) 0 3 3)) 0 (3 + 3 + 10) 24) 0 ((3 + 3 + 10) + 24) 24) 0 ((3 + 3 + 10) + 48) 24)) 30 (va_cpy (σ 14) (va_cpy (σ 13) (va_cpy (σ 12) (va_cpy (σ 11) (upc (σ 4) 10 (va_cpy (σ 15) (upd (upd (upd (σ 30) 0 (σ 0 0)) 1 (σ 0 1)) 2 (σ 0 2)) 0 3 3)) 0 (3 + 3 + 10) 24) 0 ((3 + 3 + 10) + 24) 24) 0 ((3 + 3 + 10) + 48) 24) 0 ((3 + 3 + 10) + 72) 24) = sr σ 30 (va_cpy (σ 14) (va_cpy (σ 13) (va_cpy (σ 12) (va_cpy (σ 11) (upc (σ 4) 10 (va_cpy (σ 15) (upd (upd (upd (σ 30) 0 (σ 0 0)) 1 (σ 0 1)) 2 (σ 0 2)) 0 3 3)) 0 (3 + 3 + 10) 24) 0 ((3 + 3 + 10) + 24) 24) 0 ((3 + 3 + 10) + 48) 24) 0 ((3 + 3 + 10) + 72) 24) := by
          funext j_ x_
          by_cases e0 : j_ = 0
          · subst e0
            rfl
          · by_cases e30 : j_ = 30
            · subst e30; rfl
            · simp only [sr, e0, e30, if_false]
        rw [hst_] at hw
        refine lv_aload_n hC.1 hC.2.1 dX7_keep_164 rfl (lv_at hl 1 rfl) ?_
        refine lv_aload_n hC.1 hC.2.1 dX7_keep_165 rfl (lv_at hl 1 rfl) ?_
        refine gf_X7_28 (v := nI 0) hC hw hnx dX7_keep_166 ?_
        refine lv_bipush (v := nI 29) hC.1 hC.2.1 dX7_keep_169 (by decide) ?_
        have J184_4 : ∀ (w3 : Nat), w3 = (if 0 ≠ 29 then (0 + 1) else 0) → ∀ (H : Heap) (locs : List Loc) (ls : Array Slot), Wst E (XW E a) (sr σ 30 (va_cpy (σ 14) (va_cpy (σ 13) (va_cpy (σ 12) (va_cpy (σ 11) (upc (σ 4) 10 (va_cpy (σ 15) (upd (upd (upd (σ 30) 0 (σ 0 0)) 1 (σ 0 1)) 2 (σ 0 2)) 0 3 3)) 0 (3 + 3 + 10) 24) 0 ((3 + 3 + 10) + 24) 24) 0 ((3 + 3 + 10) + 48) 24) 0 ((3 + 3 + 10) + 72) 24)) A s.heap H locs → lv_has ls 4 [(0, .ref (a 68)), (1, .ref (a 30)), (2, .int (nI (3 + 3 + 10))), (3, .int (nI h))] → W p l e ({ frames := 1, cells := 0, slots := 0, locals := 24 }) s m args below meth c H locs 0 0 Q (F0 m 184 ls [.int (nI w3), .ref (a 68)]) := by
          intro w3 e4 H locs ls hw hl
          subst e4
          refine pf_X7_28 hC hw dX7_keep_184 (fun H locs hw => ?_)
          have hw : Wst E (XW E a) (sr (sr σ 30 (va_cpy (σ 14) (va_cpy (σ 13) (va_cpy (σ 12) (va_cpy (σ 11) (upc (σ 4) 10 (va_cpy (σ 15) (upd (upd (upd (σ 30) 0 (σ 0 0)) 1 (σ 0 1)) 2 (σ 0 2)) 0 3 3)) 0 (3 + 3 + 10) 24) 0 ((3 + 3 + 10) + 24) 24) 0 ((3 + 3 + 10) + 48) 24) 0 ((3 + 3 + 10) + 72) 24)) 0 (upd (σ 0) 3 (nI (if 0 ≠ 29 then (0 + 1) else 0)))) A s.heap H locs := hw
          refine lv_aload_n hC.1 hC.2.1 dX7_keep_187 rfl (lv_at hl 0 rfl) ?_
          refine lv_aload_n hC.1 hC.2.1 dX7_keep_188 rfl (lv_at hl 0 rfl) ?_
          refine gf_X7_65 (v := nI kp) hC hw hkp dX7_keep_189 ?_
          refine lv_bipush (v := nI 30) hC.1 hC.2.1 dX7_keep_192 (by decide) ?_
          have J210_6 : ∀ (w5 : Nat), w5 = (if kp ≠ 30 then (kp + 1) else kp) → ∀ (H : Heap) (locs : List Loc) (ls : Array Slot), Wst E (XW E a) (sr (sr σ 30 (va_cpy (σ 14) (va_cpy (σ 13) (va_cpy (σ 12) (va_cpy (σ 11) (upc (σ 4) 10 (va_cpy (σ 15) (upd (upd (upd (σ 30) 0 (σ 0 0)) 1 (σ 0 1)) 2 (σ 0 2)) 0 3 3)) 0 (3 + 3 + 10) 24) 0 ((3 + 3 + 10) + 24) 24) 0 ((3 + 3 + 10) + 48) 24) 0 ((3 + 3 + 10) + 72) 24)) 0 (upd (σ 0) 3 (nI (if 0 ≠ 29 then (0 + 1) else 0)))) A s.heap H locs → lv_has ls 4 [(0, .ref (a 68)), (1, .ref (a 30)), (2, .int (nI (3 + 3 + 10))), (3, .int (nI h))] → W p l e ({ frames := 1, cells := 0, slots := 0, locals := 24 }) s m args below meth c H locs 0 0 Q (F0 m 210 ls [.int (nI w5), .ref (a 68)]) := by
            intro w5 e6 H locs ls hw hl
            subst e6
            refine pf_X7_65 hC hw dX7_keep_210 (fun H locs hw => ?_)
            have hw : Wst E (XW E a) (sr (sr (sr σ 30 (va_cpy (σ 14) (va_cpy (σ 13) (va_cpy (σ 12) (va_cpy (σ 11) (upc (σ 4) 10 (va_cpy (σ 15) (upd (upd (upd (σ 30) 0 (σ 0 0)) 1 (σ 0 1)) 2 (σ 0 2)) 0 3 3)) 0 (3 + 3 + 10) 24) 0 ((3 + 3 + 10) + 24) 24) 0 ((3 + 3 + 10) + 48) 24) 0 ((3 + 3 + 10) + 72) 24)) 0 (upd (σ 0) 3 (nI (if 0 ≠ 29 then (0 + 1) else 0)))) 0 (upd (upd (σ 0) 3 (nI (if 0 ≠ 29 then (0 + 1) else 0))) 4 (nI (if kp ≠ 30 then (kp + 1) else kp)))) A s.heap H locs := hw
            have hst_ : sr (sr (sr σ 30 (va_cpy (σ 14) (va_cpy (σ 13) (va_cpy (σ 12) (va_cpy (σ 11) (upc (σ 4) 10 (va_cpy (σ 15) (upd (upd (upd (σ 30) 0 (σ 0 0)) 1 (σ 0 1)) 2 (σ 0 2)) 0 3 3)) 0 (3 + 3 + 10) 24) 0 ((3 + 3 + 10) + 24) 24) 0 ((3 + 3 + 10) + 48) 24) 0 ((3 + 3 + 10) + 72) 24)) 0 (upd (σ 0) 3 (nI (if 0 ≠ 29 then (0 + 1) else 0)))) 0 (upd (upd (σ 0) 3 (nI (if 0 ≠ 29 then (0 + 1) else 0))) 4 (nI (if kp ≠ 30 then (kp + 1) else kp))) = sr (sr σ 30 (va_cpy (σ 14) (va_cpy (σ 13) (va_cpy (σ 12) (va_cpy (σ 11) (upc (σ 4) 10 (va_cpy (σ 15) (upd (upd (upd (σ 30) 0 (σ 0 0)) 1 (σ 0 1)) 2 (σ 0 2)) 0 3 3)) 0 (3 + 3 + 10) 24) 0 ((3 + 3 + 10) + 24) 24) 0 ((3 + 3 + 10) + 48) 24) 0 ((3 + 3 + 10) + 72) 24)) 0 (upd (upd (σ 0) 3 (nI (if 0 ≠ 29 then (0 + 1) else 0))) 4 (nI (if kp ≠ 30 then (kp + 1) else kp))) := by
              funext j_ x_
              by_cases e0 : j_ = 0
              · subst e0
                by_cases y3 : x_ = 3
                · subst y3; rfl
                · by_cases y4 : x_ = 4
                  · subst y4; rfl
                  · simp [sr, upd, y3, y4]
              · by_cases e30 : j_ = 30
                · subst e30; rfl
                · simp only [sr, e0, e30, if_false]
            rw [hst_] at hw
            refine hret _ _ _ _ _ hw ?_ dX7_keep_213
            exact rfl
          refine q_cmpne hC 204 (cNeq (by omega) (by omega)) dX7_keep_194 (by decide) (fun (c7 : kp ≠ 30) => ?_) (fun (c7 : kp = 30) => ?_)
          · refine lv_aload_n hC.1 hC.2.1 dX7_keep_204 rfl (lv_at hl 0 rfl) ?_
            refine gf_X7_65 (v := nI kp) hC hw hkp dX7_keep_205 ?_
            refine lv_iconst (v := nI 1) hC.1 hC.2.1 dX7_keep_208 (by decide) ?_
            refine q_addN hC dX7_keep_209 ?_
            exact J210_6 _ (by (rw [if_pos c7]) <;> rfl) _ _ _ hw (lv_sub hl [0, 1, 2, 3] rfl)
          · refine lv_aload_n hC.1 hC.2.1 dX7_keep_197 rfl (lv_at hl 0 rfl) ?_
            refine gf_X7_65 (v := nI kp) hC hw hkp dX7_keep_198 ?_
            refine lv_goto (tgt := 210) hC.1 hC.2.1 dX7_keep_201 (by decide) ?_
            exact J210_6 _ (by (rw [if_neg (fun q => q c7)]) <;> rfl) _ _ _ hw (lv_sub hl [0, 1, 2, 3] rfl)
        refine q_cmpne hC 178 (cNeq (by omega) (by omega)) dX7_keep_171 (by decide) (fun (c8 : 0 ≠ 29) => ?_) (fun (c8 : 0 = 29) => ?_)
        · refine lv_aload_n hC.1 hC.2.1 dX7_keep_178 rfl (lv_at hl 1 rfl) ?_
          refine gf_X7_28 (v := nI 0) hC hw hnx dX7_keep_179 ?_
          refine lv_iconst (v := nI 1) hC.1 hC.2.1 dX7_keep_182 (by decide) ?_
          refine q_addN hC dX7_keep_183 ?_
          exact J184_4 _ (by (rw [if_pos c8]) <;> rfl) _ _ _ hw (lv_sub hl [1, 2, 0, 3] rfl)
        · refine lv_iconst (v := nI 0) hC.1 hC.2.1 dX7_keep_174 (by decide) ?_
          refine lv_goto (tgt := 184) hC.1 hC.2.1 dX7_keep_175 (by decide) ?_
          exact J184_4 _ (by (rw [if_neg (fun q => q c8)]) <;> rfl) _ _ _ hw (lv_sub hl [1, 2, 0, 3] rfl)
      · refine lv_aload_n hC.1 hC.2.1 dX7_keep_64 rfl (lv_at hl 1 rfl) ?_
        refine lv_iload_n hC.1 hC.2.1 dX7_keep_65 rfl (lv_at hl 2 rfl) ?_
        refine lv_iload_n hC.1 hC.2.1 dX7_keep_66 rfl (lv_at hl 3 rfl) ?_
        refine q_addN hC dX7_keep_67 ?_
        refine lv_aload_n hC.1 hC.2.1 dX7_keep_68 rfl (lv_at hl 0 rfl) ?_
        refine gf_X7_16 hC hw dX7_keep_69 ?_
        refine gf_X7_49 hC hw dX7_keep_72 ?_
        refine lv_iload_n hC.1 hC.2.1 dX7_keep_75 rfl (lv_at hl 3 rfl) ?_
        refine al_X4 (v := σ 4 h) hC hw (by omega) rfl dX7_keep_76 ?_
        have J85_10 : ∀ (w9 : Int32), w9 = (if ¬ (σ 4 h = 0) then (1 : Int32) else 0) → ∀ (H : Heap) (locs : List Loc) (ls : Array Slot), Wst E (XW E a) (sr σ 30 (upc (σ 4) h (va_cpy (σ 15) (upd (upd (upd (σ 30) 0 (σ 0 0)) 1 (σ 0 1)) 2 (σ 0 2)) 0 3 3))) A s.heap H locs → lv_has ls 4 [(0, .ref (a 68)), (1, .ref (a 30)), (2, .int (nI (3 + 3))), (3, .int (nI h))] → W p l e ({ frames := 1, cells := 0, slots := 0, locals := 24 }) s m args below meth c H locs 0 0 Q (F0 m 85 ls [.int (w9), .int (nI ((3 + 3) + h)), .ref (a 30)]) := by
          intro w9 e10 H locs ls hw hl
          subst e10
          refine q_ast (Wf := XW E a) 40 rfl (by decide) (XW_s30 _) hC hw (by omega) dX7_keep_85 (fun H locs hw => ?_)
          have hw : Wst E (XW E a) (sr (sr σ 30 (upc (σ 4) h (va_cpy (σ 15) (upd (upd (upd (σ 30) 0 (σ 0 0)) 1 (σ 0 1)) 2 (σ 0 2)) 0 3 3))) 30 (upd (upc (σ 4) h (va_cpy (σ 15) (upd (upd (upd (σ 30) 0 (σ 0 0)) 1 (σ 0 1)) 2 (σ 0 2)) 0 3 3)) ((3 + 3) + h) (if ¬ (σ 4 h = 0) then (1 : Int32) else 0))) A s.heap H locs := hw
          have hst_ : sr (sr σ 30 (upc (σ 4) h (va_cpy (σ 15) (upd (upd (upd (σ 30) 0 (σ 0 0)) 1 (σ 0 1)) 2 (σ 0 2)) 0 3 3))) 30 (upd (upc (σ 4) h (va_cpy (σ 15) (upd (upd (upd (σ 30) 0 (σ 0 0)) 1 (σ 0 1)) 2 (σ 0 2)) 0 3 3)) ((3 + 3) + h) (if ¬ (σ 4 h = 0) then (1 : Int32) else 0)) = sr σ 30 (upd (upc (σ 4) h (va_cpy (σ 15) (upd (upd (upd (σ 30) 0 (σ 0 0)) 1 (σ 0 1)) 2 (σ 0 2)) 0 3 3)) ((3 + 3) + h) (if ¬ (σ 4 h = 0) then (1 : Int32) else 0)) := by
            funext j_ x_
            by_cases e0 : j_ = 0
            · subst e0
              rfl
            · by_cases e30 : j_ = 30
              · subst e30; rfl
              · simp only [sr, e0, e30, if_false]
          rw [hst_] at hw
          refine lv_iinc (v := nI (h + 1)) (lv' := [(3, .int (nI (h + 1))), (0, .ref (a 68)), (1, .ref (a 30)), (2, .int (nI (3 + 3)))]) hC.1 hC.2.1 dX7_keep_86 hl (k := 3) rfl (nI_add _ _) (by decide) rfl (fun ls hl => ?_)
          refine lv_goto (tgt := 58) hC.1 hC.2.1 dX7_keep_89 (by decide) ?_
          rw [upc_s] at hw
          exact ih58 (h + 1) (by omega) (by omega) _ _ _ hw (lv_sub hl [1, 2, 3, 0] rfl)
        refine q_ifeq hC 84 cI dX7_keep_77 (by decide) (fun (c11 : σ 4 h = 0) => ?_) (fun (c11 : ¬ (σ 4 h = 0)) => ?_)
        · refine lv_iconst (v := nI 0) hC.1 hC.2.1 dX7_keep_84 (by decide) ?_
          exact J85_10 _ (if_neg (fun q => q c11)).symm _ _ _ hw (lv_sub hl [0, 1, 2, 3] rfl)
        · refine lv_iconst (v := nI 1) hC.1 hC.2.1 dX7_keep_80 (by decide) ?_
          refine lv_goto (tgt := 85) hC.1 hC.2.1 dX7_keep_81 (by decide) ?_
          exact J85_10 _ (if_pos c11).symm _ _ _ hw (lv_sub hl [0, 1, 2, 3] rfl)
  rw [← upc_0 (σ 4) (va_cpy (σ 15) (upd (upd (upd (σ 30) 0 (σ 0 0)) 1 (σ 0 1)) 2 (σ 0 2)) 0 3 3)] at hw
  exact L58_0 _ 0 (by omega) (Nat.lt_succ_self _) _ _ _ hw (lv_sub hl [3, 2, 1, 0] rfl)
set_option maxHeartbeats 4000000 in
set_option maxRecDepth 100000 in
theorem tX7_keep_k1 (l : Launch) (E : EV) (a : Nat → Nat) (σ : St) (kp : Nat) (hnx : σ 0 3 = nI 1) (hkp : σ 0 4 = nI kp) (hk30 : kp ≤ 30) : MV l E (XW E a) yX7_keep (Cond.code yX7_keep cX7_keep 4 none) ({ frames := 1, cells := 0, slots := 0, locals := 24 }) [.ref (a 68)] σ (fun u_ => u_ = sr (sr σ 31 (kpr σ (σ 31))) 0 (upd (upd (σ 0) 3 (nI (if 1 ≠ 29 then 1 + 1 else 0))) 4 (nI (if kp ≠ 30 then kp + 1 else kp)))) := by
  refine MV.mk (by decide +kernel) (Nat.le_of_ble_eq_true rfl) ?_
  intro p e s m args below meth c ls A Q hret hC hw hl
  have hC : Cxt E p s m args meth c cX7_keep 4 none RX7 A := hC
  have hl : lv_has ls 4 [(0, .ref (a 68))] := hl
  refine lv_aload_n hC.1 hC.2.1 dX7_keep_0 rfl (lv_at hl 0 rfl) ?_
  refine gf_X7_13 hC hw dX7_keep_1 ?_
  refine lv_aload_n hC.1 hC.2.1 dX7_keep_4 rfl (lv_at hl 0 rfl) ?_
  refine gf_X7_28 (v := nI 1) hC hw hnx dX7_keep_5 ?_
  refine q_aald hC hw (i := 1) (by decide) dX7_keep_8 ?_
  refine lv_astore_n (lv' := [(1, .ref (a 31)), (0, .ref (a 68))]) hC.1 hC.2.1 dX7_keep_9 rfl hl (by decide) rfl (fun ls hl => ?_)
  refine lv_aload_n hC.1 hC.2.1 dX7_keep_10 rfl (lv_at hl 0 rfl) ?_
  refine lv_iconst (v := nI 0) hC.1 hC.2.1 dX7_keep_11 (by decide) ?_
  refine lv_aload_n hC.1 hC.2.1 dX7_keep_12 rfl (lv_at hl 1 rfl) ?_
  refine gf_X7_16 hC hw dX7_keep_13 ?_
  refine gf_X7_32 (v := σ 0 0) hC hw rfl dX7_keep_16 ?_
  refine q_ast (Wf := XW E a) 41 rfl (by decide) (XW_s31 _) hC hw (by omega) dX7_keep_19 (fun H locs hw => ?_)
  have hw : Wst E (XW E a) (sr σ 31 (upd (σ 31) 0 (σ 0 0))) A s.heap H locs := hw
  refine lv_aload_n hC.1 hC.2.1 dX7_keep_20 rfl (lv_at hl 0 rfl) ?_
  refine lv_iconst (v := nI 1) hC.1 hC.2.1 dX7_keep_21 (by decide) ?_
  refine lv_aload_n hC.1 hC.2.1 dX7_keep_22 rfl (lv_at hl 1 rfl) ?_
  refine gf_X7_20 hC hw dX7_keep_23 ?_
  refine gf_X7_37 (v := σ 0 1) hC hw rfl dX7_keep_26 ?_
  refine q_ast (Wf := XW E a) 41 rfl (by decide) (XW_s31 _) hC hw (by omega) dX7_keep_29 (fun H locs hw => ?_)
  have hw : Wst E (XW E a) (sr (sr σ 31 (upd (σ 31) 0 (σ 0 0))) 31 (upd (upd (σ 31) 0 (σ 0 0)) 1 (σ 0 1))) A s.heap H locs := hw
  have hst_ : sr (sr σ 31 (upd (σ 31) 0 (σ 0 0))) 31 (upd (upd (σ 31) 0 (σ 0 0)) 1 (σ 0 1)) = sr σ 31 (upd (upd (σ 31) 0 (σ 0 0)) 1 (σ 0 1)) := by
    funext j_ x_
    by_cases e0 : j_ = 0
    · subst e0
      rfl
    · by_cases e31 : j_ = 31
      · subst e31; rfl
      · simp only [sr, e0, e31, if_false]
  rw [hst_] at hw
  refine lv_aload_n hC.1 hC.2.1 dX7_keep_30 rfl (lv_at hl 0 rfl) ?_
  refine lv_iconst (v := nI 2) hC.1 hC.2.1 dX7_keep_31 (by decide) ?_
  refine lv_aload_n hC.1 hC.2.1 dX7_keep_32 rfl (lv_at hl 1 rfl) ?_
  refine gf_X7_20 hC hw dX7_keep_33 ?_
  refine gf_X7_40 (v := σ 0 2) hC hw rfl dX7_keep_36 ?_
  refine q_ast (Wf := XW E a) 41 rfl (by decide) (XW_s31 _) hC hw (by omega) dX7_keep_39 (fun H locs hw => ?_)
  have hw : Wst E (XW E a) (sr (sr σ 31 (upd (upd (σ 31) 0 (σ 0 0)) 1 (σ 0 1))) 31 (upd (upd (upd (σ 31) 0 (σ 0 0)) 1 (σ 0 1)) 2 (σ 0 2))) A s.heap H locs := hw
  have hst_ : sr (sr σ 31 (upd (upd (σ 31) 0 (σ 0 0)) 1 (σ 0 1))) 31 (upd (upd (upd (σ 31) 0 (σ 0 0)) 1 (σ 0 1)) 2 (σ 0 2)) = sr σ 31 (upd (upd (upd (σ 31) 0 (σ 0 0)) 1 (σ 0 1)) 2 (σ 0 2)) := by
    funext j_ x_
    by_cases e0 : j_ = 0
    · subst e0
      rfl
    · by_cases e31 : j_ = 31
      · subst e31; rfl
      · simp only [sr, e0, e31, if_false]
  rw [hst_] at hw
  refine lv_iconst (v := nI 3) hC.1 hC.2.1 dX7_keep_40 (by decide) ?_
  refine lv_istore_n (lv' := [(2, .int (nI 3)), (1, .ref (a 31)), (0, .ref (a 68))]) hC.1 hC.2.1 dX7_keep_41 rfl hl (by decide) rfl (fun ls hl => ?_)
  refine lv_aload_n hC.1 hC.2.1 dX7_keep_42 rfl (lv_at hl 2 rfl) ?_
  refine gf_X7_24 hC hw dX7_keep_43 ?_
  refine lv_iconst (v := nI 0) hC.1 hC.2.1 dX7_keep_46 (by decide) ?_
  refine lv_aload_n hC.1 hC.2.1 dX7_keep_47 rfl (lv_at hl 1 rfl) ?_
  refine lv_iload_n hC.1 hC.2.1 dX7_keep_48 rfl (lv_at hl 0 rfl) ?_
  refine lv_iconst (v := nI 3) hC.1 hC.2.1 dX7_keep_49 (by decide) ?_
  refine q_cpy (sp := 0) (dp := 3) (n := 3) 25 rfl 41 rfl (XW_s31 _) hC hw hl (by omega) (by omega) (by decide) (by decide) ⟨Nat.le_of_ble_eq_true rfl, Nat.le_of_ble_eq_true rfl⟩ wk2_182 dX7_keep_50 (fun H locs hw => ?_)
  have hw : Wst E (XW E a) (sr (sr σ 31 (upd (upd (upd (σ 31) 0 (σ 0 0)) 1 (σ 0 1)) 2 (σ 0 2))) 31 (va_cpy (σ 15) (upd (upd (upd (σ 31) 0 (σ 0 0)) 1 (σ 0 1)) 2 (σ 0 2)) 0 3 3)) A s.heap H locs := hw
  have hst_ : sr (sr σ 31 (upd (upd (upd (σ 31) 0 (σ 0 0)) 1 (σ 0 1)) 2 (σ 0 2))) 31 (va_cpy (σ 15) (upd (upd (upd (σ 31) 0 (σ 0 0)) 1 (σ 0 1)) 2 (σ 0 2)) 0 3 3) = sr σ 31 (va_cpy (σ 15) (upd (upd (upd (σ 31) 0 (σ 0 0)) 1 (σ 0 1)) 2 (σ 0 2)) 0 3 3) := by
    funext j_ x_
    by_cases e0 : j_ = 0
    · subst e0
      rfl
    · by_cases e31 : j_ = 31
      · subst e31; rfl
      · simp only [sr, e0, e31, if_false]
  rw [hst_] at hw
  refine lv_iinc (v := nI (3 + 3)) (lv' := [(2, .int (nI (3 + 3))), (1, .ref (a 31)), (0, .ref (a 68))]) hC.1 hC.2.1 dX7_keep_53 hl (k := 0) rfl (nI_add _ _) (by decide) rfl (fun ls hl => ?_)
  refine lv_iconst (v := nI 0) hC.1 hC.2.1 dX7_keep_56 (by decide) ?_
  refine lv_istore_n (lv' := [(3, .int (nI 0)), (2, .int (nI (3 + 3))), (1, .ref (a 31)), (0, .ref (a 68))]) hC.1 hC.2.1 dX7_keep_57 rfl hl (by decide) rfl (fun ls hl => ?_)
  have L58_0 : ∀ (n : Nat), ∀ (h : Nat), (h ≤ 10) → (10 - h) < n → ∀ (H : Heap) (locs : List Loc) (ls : Array Slot), Wst E (XW E a) (sr σ 31 (upc (σ 4) h (va_cpy (σ 15) (upd (upd (upd (σ 31) 0 (σ 0 0)) 1 (σ 0 1)) 2 (σ 0 2)) 0 3 3))) A s.heap H locs → lv_has ls 4 [(0, .ref (a 68)), (1, .ref (a 31)), (2, .int (nI (3 + 3))), (3, .int (nI h))] → W p l e ({ frames := 1, cells := 0, slots := 0, locals := 24 }) s m args below meth c H locs 0 0 Q (F0 m 58 ls []) := by
    intro n
    induction n with
    | zero => intro h hh hn; exact absurd hn (Nat.not_lt_zero _)
    | succ n ih58 =>
      intro h hh hn58 H locs ls hw hl
      refine lv_iload_n hC.1 hC.2.1 dX7_keep_58 rfl (lv_at hl 3 rfl) ?_
      refine lv_bipush (v := nI 10) hC.1 hC.2.1 dX7_keep_59 (by decide) ?_
      refine q_cmpge hC 92 (cNle (by omega) (by omega)) dX7_keep_61 (by decide) (fun (c2 : 10 ≤ h) => ?_) (fun (c2 : h < 10) => ?_)
      · have hh9 : h = 10 := by omega
        rw [hh9] at hw
        refine lv_iinc (v := nI (3 + 3 + 10)) (lv' := [(2, .int (nI (3 + 3 + 10))), (0, .ref (a 68)), (1, .ref (a 31)), (3, .int (nI h))]) hC.1 hC.2.1 dX7_keep_92 hl (k := 2) rfl (nI_add _ _) (by decide) rfl (fun ls hl => ?_)
        refine lv_aload_n hC.1 hC.2.1 dX7_keep_95 rfl (lv_at hl 1 rfl) ?_
        refine gf_X7_20 hC hw dX7_keep_96 ?_
        refine gf_X7_53 hC hw dX7_keep_99 ?_
        refine lv_iconst (v := nI 0) hC.1 hC.2.1 dX7_keep_102 (by decide) ?_
        refine lv_aload_n hC.1 hC.2.1 dX7_keep_103 rfl (lv_at hl 2 rfl) ?_
        refine lv_iload_n hC.1 hC.2.1 dX7_keep_104 rfl (lv_at hl 0 rfl) ?_
        refine lv_bipush (v := nI 24) hC.1 hC.2.1 dX7_keep_105 (by decide) ?_
        refine q_cpy (sp := 0) (dp := (3 + 3 + 10)) (n := 24) 21 rfl 41 rfl (XW_s31 _) hC hw hl (by omega) (by omega) (by decide) (by decide) ⟨Nat.le_of_ble_eq_true rfl, Nat.le_of_ble_eq_true rfl⟩ wk2_182 dX7_keep_107 (fun H locs hw => ?_)
        have hw : Wst E (XW E a) (sr (sr σ 31 (upc (σ 4) 10 (va_cpy (σ 15) (upd (upd (upd (σ 31) 0 (σ 0 0)) 1 (σ 0 1)) 2 (σ 0 2)) 0 3 3))) 31 (va_cpy (σ 11) (upc (σ 4) 10 (va_cpy (σ 15) (upd (upd (upd (σ 31) 0 (σ 0 0)) 1 (σ 0 1)) 2 (σ 0 2)) 0 3 3)) 0 (3 + 3 + 10) 24)) A s.heap H locs := hw
        have hst_ : sr (sr σ 31 (upc (σ 4) 10 (va_cpy (σ 15) (upd (upd (upd (σ 31) 0 (σ 0 0)) 1 (σ 0 1)) 2 (σ 0 2)) 0 3 3))) 31 (va_cpy (σ 11) (upc (σ 4) 10 (va_cpy (σ 15) (upd (upd (upd (σ 31) 0 (σ 0 0)) 1 (σ 0 1)) 2 (σ 0 2)) 0 3 3)) 0 (3 + 3 + 10) 24) = sr σ 31 (va_cpy (σ 11) (upc (σ 4) 10 (va_cpy (σ 15) (upd (upd (upd (σ 31) 0 (σ 0 0)) 1 (σ 0 1)) 2 (σ 0 2)) 0 3 3)) 0 (3 + 3 + 10) 24) := by
          funext j_ x_
          by_cases e0 : j_ = 0
          · subst e0
            rfl
          · by_cases e31 : j_ = 31
            · subst e31; rfl
            · simp only [sr, e0, e31, if_false]
        rw [hst_] at hw
        refine lv_aload_n hC.1 hC.2.1 dX7_keep_110 rfl (lv_at hl 1 rfl) ?_
        refine gf_X7_20 hC hw dX7_keep_111 ?_
        refine gf_X7_56 hC hw dX7_keep_114 ?_
        refine lv_iconst (v := nI 0) hC.1 hC.2.1 dX7_keep_117 (by decide) ?_
        refine lv_aload_n hC.1 hC.2.1 dX7_keep_118 rfl (lv_at hl 2 rfl) ?_
        refine lv_iload_n hC.1 hC.2.1 dX7_keep_119 rfl (lv_at hl 0 rfl) ?_
        refine lv_bipush (v := nI 24) hC.1 hC.2.1 dX7_keep_120 (by decide) ?_
        refine q_addN hC dX7_keep_122 ?_
        refine lv_bipush (v := nI 24) hC.1 hC.2.1 dX7_keep_123 (by decide) ?_
        refine q_cpy (sp := 0) (dp := ((3 + 3 + 10) + 24)) (n := 24) 22 rfl 41 rfl (XW_s31 _) hC hw hl (by omega) (by omega) (by decide) (by decide) ⟨Nat.le_of_ble_eq_true rfl, Nat.le_of_ble_eq_true rfl⟩ wk2_182 dX7_keep_125 (fun H locs hw => ?_)
        have hw : Wst E (XW E a) (sr (sr σ 31 (va_cpy (σ 11) (upc (σ 4) 10 (va_cpy (σ 15) (upd (upd (upd (σ 31) 0 (σ 0 0)) 1 (σ 0 1)) 2 (σ 0 2)) 0 3 3)) 0 (3 + 3 + 10) 24)) 31 (va_cpy (σ 12) (va_cpy (σ 11) (upc (σ 4) 10 (va_cpy (σ 15) (upd (upd (upd (σ 31) 0 (σ 0 0)) 1 (σ 0 1)) 2 (σ 0 2)) 0 3 3)) 0 (3 + 3 + 10) 24) 0 ((3 + 3 + 10) + 24) 24)) A s.heap H locs := hw
        have hst_ : sr (sr σ 31 (va_cpy (σ 11) (upc (σ 4) 10 (va_cpy (σ 15) (upd (upd (upd (σ 31) 0 (σ 0 0)) 1 (σ 0 1)) 2 (σ 0 2)) 0 3 3)) 0 (3 + 3 + 10) 24)) 31 (va_cpy (σ 12) (va_cpy (σ 11) (upc (σ 4) 10 (va_cpy (σ 15) (upd (upd (upd (σ 31) 0 (σ 0 0)) 1 (σ 0 1)) 2 (σ 0 2)) 0 3 3)) 0 (3 + 3 + 10) 24) 0 ((3 + 3 + 10) + 24) 24) = sr σ 31 (va_cpy (σ 12) (va_cpy (σ 11) (upc (σ 4) 10 (va_cpy (σ 15) (upd (upd (upd (σ 31) 0 (σ 0 0)) 1 (σ 0 1)) 2 (σ 0 2)) 0 3 3)) 0 (3 + 3 + 10) 24) 0 ((3 + 3 + 10) + 24) 24) := by
          funext j_ x_
          by_cases e0 : j_ = 0
          · subst e0
            rfl
          · by_cases e31 : j_ = 31
            · subst e31; rfl
            · simp only [sr, e0, e31, if_false]
        rw [hst_] at hw
        refine lv_aload_n hC.1 hC.2.1 dX7_keep_128 rfl (lv_at hl 1 rfl) ?_
        refine gf_X7_20 hC hw dX7_keep_129 ?_
        refine gf_X7_59 hC hw dX7_keep_132 ?_
        refine lv_iconst (v := nI 0) hC.1 hC.2.1 dX7_keep_135 (by decide) ?_
        refine lv_aload_n hC.1 hC.2.1 dX7_keep_136 rfl (lv_at hl 2 rfl) ?_
        refine lv_iload_n hC.1 hC.2.1 dX7_keep_137 rfl (lv_at hl 0 rfl) ?_
        refine lv_bipush (v := nI 48) hC.1 hC.2.1 dX7_keep_138 (by decide) ?_
        refine q_addN hC dX7_keep_140 ?_
        refine lv_bipush (v := nI 24) hC.1 hC.2.1 dX7_keep_141 (by decide) ?_
        refine q_cpy (sp := 0) (dp := ((3 + 3 + 10) + 48)) (n := 24) 23 rfl 41 rfl (XW_s31 _) hC hw hl (by omega) (by omega) (by decide) (by decide) ⟨Nat.le_of_ble_eq_true rfl, Nat.le_of_ble_eq_true rfl⟩ wk2_182 dX7_keep_143 (fun H locs hw => ?_)
        have hw : Wst E (XW E a) (sr (sr σ 31 (va_cpy (σ 12) (va_cpy (σ 11) (upc (σ 4) 10 (va_cpy (σ 15) (upd (upd (upd (σ 31) 0 (σ 0 0)) 1 (σ 0 1)) 2 (σ 0 2)) 0 3 3)) 0 (3 + 3 + 10) 24) 0 ((3 + 3 + 10) + 24) 24)) 31 (va_cpy (σ 13) (va_cpy (σ 12) (va_cpy (σ 11) (upc (σ 4) 10 (va_cpy (σ 15) (upd (upd (upd (σ 31) 0 (σ 0 0)) 1 (σ 0 1)) 2 (σ 0 2)) 0 3 3)) 0 (3 + 3 + 10) 24) 0 ((3 + 3 + 10) + 24) 24) 0 ((3 + 3 + 10) + 48) 24)) A s.heap H locs := hw
        have hst_ : sr (sr σ 31 (va_cpy (σ 12) (va_cpy (σ 11) (upc (σ 4) 10 (va_cpy (σ 15) (upd (upd (upd (σ 31) 0 (σ 0 0)) 1 (σ 0 1)) 2 (σ 0 2)) 0 3 3)) 0 (3 + 3 + 10) 24) 0 ((3 + 3 + 10) + 24) 24)) 31 (va_cpy (σ 13) (va_cpy (σ 12) (va_cpy (σ 11) (upc (σ 4) 10 (va_cpy (σ 15) (upd (upd (upd (σ 31) 0 (σ 0 0)) 1 (σ 0 1)) 2 (σ 0 2)) 0 3 3)) 0 (3 + 3 + 10) 24) 0 ((3 + 3 + 10) + 24) 24) 0 ((3 + 3 + 10) + 48) 24) = sr σ 31 (va_cpy (σ 13) (va_cpy (σ 12) (va_cpy (σ 11) (upc (σ 4) 10 (va_cpy (σ 15) (upd (upd (upd (σ 31) 0 (σ 0 0)) 1 (σ 0 1)) 2 (σ 0 2)) 0 3 3)) 0 (3 + 3 + 10) 24) 0 ((3 + 3 + 10) + 24) 24) 0 ((3 + 3 + 10) + 48) 24) := by
          funext j_ x_
          by_cases e0 : j_ = 0
          · subst e0
            rfl
          · by_cases e31 : j_ = 31
            · subst e31; rfl
            · simp only [sr, e0, e31, if_false]
        rw [hst_] at hw
        refine lv_aload_n hC.1 hC.2.1 dX7_keep_146 rfl (lv_at hl 1 rfl) ?_
        refine gf_X7_20 hC hw dX7_keep_147 ?_
        refine gf_X7_62 hC hw dX7_keep_150 ?_
        refine lv_iconst (v := nI 0) hC.1 hC.2.1 dX7_keep_153 (by decide) ?_
        refine lv_aload_n hC.1 hC.2.1 dX7_keep_154 rfl (lv_at hl 2 rfl) ?_
        refine lv_iload_n hC.1 hC.2.1 dX7_keep_155 rfl (lv_at hl 0 rfl) ?_
        refine lv_bipush (v := nI 72) hC.1 hC.2.1 dX7_keep_156 (by decide) ?_
        refine q_addN hC dX7_keep_158 ?_
        refine lv_bipush (v := nI 24) hC.1 hC.2.1 dX7_keep_159 (by decide) ?_
        refine q_cpy (sp := 0) (dp := ((3 + 3 + 10) + 72)) (n := 24) 24 rfl 41 rfl (XW_s31 _) hC hw hl (by omega) (by omega) (by decide) (by decide) ⟨Nat.le_of_ble_eq_true rfl, Nat.le_of_ble_eq_true rfl⟩ wk2_182 dX7_keep_161 (fun H locs hw => ?_)
        have hw : Wst E (XW E a) (sr (sr σ 31 (va_cpy (σ 13) (va_cpy (σ 12) (va_cpy (σ 11) (upc (σ 4) 10 (va_cpy (σ 15) (upd (upd (upd (σ 31) 0 (σ 0 0)) 1 (σ 0 1)) 2 (σ 0 2)) 0 3 3)) 0 (3 + 3 + 10) 24) 0 ((3 + 3 + 10) + 24) 24) 0 ((3 + 3 + 10) + 48) 24)) 31 (va_cpy (σ 14) (va_cpy (σ 13) (va_cpy (σ 12) (va_cpy (σ 11) (upc (σ 4) 10 (va_cpy (σ 15) (upd (upd (upd (σ 31) 0 (σ 0 0)) 1 (σ 0 1)) 2 (σ 0 2)) 0 3 3)) 0 (3 + 3 + 10) 24) 0 ((3 + 3 + 10) + 24) 24) 0 ((3 + 3 + 10) + 48) 24) 0 ((3 + 3 + 10) + 72) 24)) A s.heap H locs := hw
        have hst_ : sr (sr σ 31 (va_cpy (σ 13) (va_cpy (σ 12) (va_cpy (σ 11) (upc (σ 4) 10 (va_cpy (σ 15) (upd (upd (upd (σ 31) 0 (σ 0 0)) 1 (σ 0 1)) 2 (σ 0 2)) 0 3 3)) 0 (3 + 3 + 10) 24) 0 ((3 + 3 + 10) + 24) 24) 0 ((3 + 3 + 10) + 48) 24)) 31 (va_cpy (σ 14) (va_cpy (σ 13) (va_cpy (σ 12) (va_cpy (σ 11) (upc (σ 4) 10 (va_cpy (σ 15) (upd (upd (upd (σ 31) 0 (σ 0 0)) 1 (σ 0 1)) 2 (σ 0 2)) 0 3 3)) 0 (3 + 3 + 10) 24) 0 ((3 + 3 + 10) + 24) 24) 0 ((3 + 3 + 10) + 48) 24) 0 ((3 + 3 + 10) + 72) 24) = sr σ 31 (va_cpy (σ 14) (va_cpy (σ 13) (va_cpy (σ 12) (va_cpy (σ 11) (upc (σ 4) 10 (va_cpy (σ 15) (upd (upd (upd (σ 31) 0 (σ 0 0)) 1 (σ 0 1)) 2 (σ 0 2)) 0 3 3)) 0 (3 + 3 + 10) 24) 0 ((3 + 3 + 10) + 24) 24) 0 ((3 + 3 + 10) + 48) 24) 0 ((3 + 3 + 10) + 72) 24) := by
          funext j_ x_
          by_cases e0 : j_ = 0
          · subst e0
            rfl
          · by_cases e31 : j_ = 31
            · subst e31; rfl
            · simp only [sr, e0, e31, if_false]
        rw [hst_] at hw
        refine lv_aload_n hC.1 hC.2.1 dX7_keep_164 rfl (lv_at hl 1 rfl) ?_
        refine lv_aload_n hC.1 hC.2.1 dX7_keep_165 rfl (lv_at hl 1 rfl) ?_
        refine gf_X7_28 (v := nI 1) hC hw hnx dX7_keep_166 ?_
        refine lv_bipush (v := nI 29) hC.1 hC.2.1 dX7_keep_169 (by decide) ?_
        have J184_4 : ∀ (w3 : Nat), w3 = (if 1 ≠ 29 then (1 + 1) else 0) → ∀ (H : Heap) (locs : List Loc) (ls : Array Slot), Wst E (XW E a) (sr σ 31 (va_cpy (σ 14) (va_cpy (σ 13) (va_cpy (σ 12) (va_cpy (σ 11) (upc (σ 4) 10 (va_cpy (σ 15) (upd (upd (upd (σ 31) 0 (σ 0 0)) 1 (σ 0 1)) 2 (σ 0 2)) 0 3 3)) 0 (3 + 3 + 10) 24) 0 ((3 + 3 + 10) + 24) 24) 0 ((3 + 3 + 10) + 48) 24) 0 ((3 + 3 + 10) + 72) 24)) A s.heap H locs → lv_has ls 4 [(0, .ref (a 68)), (1, .ref (a 31)), (2, .int (nI (3 + 3 + 10))), (3, .int (nI h))] → W p l e ({ frames := 1, cells := 0, slots := 0, locals := 24 }) s m args below meth c H locs 0 0 Q (F0 m 184 ls [.int (nI w3), .ref (a 68)]) := by
          intro w3 e4 H locs ls hw hl
          subst e4
          refine pf_X7_28 hC hw dX7_keep_184 (fun H locs hw => ?_)
          have hw : Wst E (XW E a) (sr (sr σ 31 (va_cpy (σ 14) (va_cpy (σ 13) (va_cpy (σ 12) (va_cpy (σ 11) (upc (σ 4) 10 (va_cpy (σ 15) (upd (upd (upd (σ 31) 0 (σ 0 0)) 1 (σ 0 1)) 2 (σ 0 2)) 0 3 3)) 0 (3 + 3 + 10) 24) 0 ((3 + 3 + 10) + 24) 24) 0 ((3 + 3 + 10) + 48) 24) 0 ((3 + 3 + 10) + 72) 24)) 0 (upd (σ 0) 3 (nI (if 1 ≠ 29 then (1 + 1) else 0)))) A s.heap H locs := hw
          refine lv_aload_n hC.1 hC.2.1 dX7_keep_187 rfl (lv_at hl 0 rfl) ?_
          refine lv_aload_n hC.1 hC.2.1 dX7_keep_188 rfl (lv_at hl 0 rfl) ?_
          refine gf_X7_65 (v := nI kp) hC hw hkp dX7_keep_189 ?_
          refine lv_bipush (v := nI 30) hC.1 hC.2.1 dX7_keep_192 (by decide) ?_
          have J210_6 : ∀ (w5 : Nat), w5 = (if kp ≠ 30 then (kp + 1) else kp) → ∀ (H : Heap) (locs : List Loc) (ls : Array Slot), Wst E (XW E a) (sr (sr σ 31 (va_cpy (σ 14) (va_cpy (σ 13) (va_cpy (σ 12) (va_cpy (σ 11) (upc (σ 4) 10 (va_cpy (σ 15) (upd (upd (upd (σ 31) 0 (σ 0 0)) 1 (σ 0 1)) 2 (σ 0 2)) 0 3 3)) 0 (3 + 3 + 10) 24) 0 ((3 + 3 + 10) + 24) 24) 0 ((3 + 3 + 10) + 48) 24) 0 ((3 + 3 + 10) + 72) 24)) 0 (upd (σ 0) 3 (nI (if 1 ≠ 29 then (1 + 1) else 0)))) A s.heap H locs → lv_has ls 4 [(0, .ref (a 68)), (1, .ref (a 31)), (2, .int (nI (3 + 3 + 10))), (3, .int (nI h))] → W p l e ({ frames := 1, cells := 0, slots := 0, locals := 24 }) s m args below meth c H locs 0 0 Q (F0 m 210 ls [.int (nI w5), .ref (a 68)]) := by
            intro w5 e6 H locs ls hw hl
            subst e6
            refine pf_X7_65 hC hw dX7_keep_210 (fun H locs hw => ?_)
            have hw : Wst E (XW E a) (sr (sr (sr σ 31 (va_cpy (σ 14) (va_cpy (σ 13) (va_cpy (σ 12) (va_cpy (σ 11) (upc (σ 4) 10 (va_cpy (σ 15) (upd (upd (upd (σ 31) 0 (σ 0 0)) 1 (σ 0 1)) 2 (σ 0 2)) 0 3 3)) 0 (3 + 3 + 10) 24) 0 ((3 + 3 + 10) + 24) 24) 0 ((3 + 3 + 10) + 48) 24) 0 ((3 + 3 + 10) + 72) 24)) 0 (upd (σ 0) 3 (nI (if 1 ≠ 29 then (1 + 1) else 0)))) 0 (upd (upd (σ 0) 3 (nI (if 1 ≠ 29 then (1 + 1) else 0))) 4 (nI (if kp ≠ 30 then (kp + 1) else kp)))) A s.heap H locs := hw
            have hst_ : sr (sr (sr σ 31 (va_cpy (σ 14) (va_cpy (σ 13) (va_cpy (σ 12) (va_cpy (σ 11) (upc (σ 4) 10 (va_cpy (σ 15) (upd (upd (upd (σ 31) 0 (σ 0 0)) 1 (σ 0 1)) 2 (σ 0 2)) 0 3 3)) 0 (3 + 3 + 10) 24) 0 ((3 + 3 + 10) + 24) 24) 0 ((3 + 3 + 10) + 48) 24) 0 ((3 + 3 + 10) + 72) 24)) 0 (upd (σ 0) 3 (nI (if 1 ≠ 29 then (1 + 1) else 0)))) 0 (upd (upd (σ 0) 3 (nI (if 1 ≠ 29 then (1 + 1) else 0))) 4 (nI (if kp ≠ 30 then (kp + 1) else kp))) = sr (sr σ 31 (va_cpy (σ 14) (va_cpy (σ 13) (va_cpy (σ 12) (va_cpy (σ 11) (upc (σ 4) 10 (va_cpy (σ 15) (upd (upd (upd (σ 31) 0 (σ 0 0)) 1 (σ 0 1)) 2 (σ 0 2)) 0 3 3)) 0 (3 + 3 + 10) 24) 0 ((3 + 3 + 10) + 24) 24) 0 ((3 + 3 + 10) + 48) 24) 0 ((3 + 3 + 10) + 72) 24)) 0 (upd (upd (σ 0) 3 (nI (if 1 ≠ 29 then (1 + 1) else 0))) 4 (nI (if kp ≠ 30 then (kp + 1) else kp))) := by
              funext j_ x_
              by_cases e0 : j_ = 0
              · subst e0
                by_cases y3 : x_ = 3
                · subst y3; rfl
                · by_cases y4 : x_ = 4
                  · subst y4; rfl
                  · simp [sr, upd, y3, y4]
              · by_cases e31 : j_ = 31
                · subst e31; rfl
                · simp only [sr, e0, e31, if_false]
            rw [hst_] at hw
            refine hret _ _ _ _ _ hw ?_ dX7_keep_213
            exact rfl
          refine q_cmpne hC 204 (cNeq (by omega) (by omega)) dX7_keep_194 (by decide) (fun (c7 : kp ≠ 30) => ?_) (fun (c7 : kp = 30) => ?_)
          · refine lv_aload_n hC.1 hC.2.1 dX7_keep_204 rfl (lv_at hl 0 rfl) ?_
            refine gf_X7_65 (v := nI kp) hC hw hkp dX7_keep_205 ?_
            refine lv_iconst (v := nI 1) hC.1 hC.2.1 dX7_keep_208 (by decide) ?_
            refine q_addN hC dX7_keep_209 ?_
            exact J210_6 _ (by (rw [if_pos c7]) <;> rfl) _ _ _ hw (lv_sub hl [0, 1, 2, 3] rfl)
          · refine lv_aload_n hC.1 hC.2.1 dX7_keep_197 rfl (lv_at hl 0 rfl) ?_
            refine gf_X7_65 (v := nI kp) hC hw hkp dX7_keep_198 ?_
            refine lv_goto (tgt := 210) hC.1 hC.2.1 dX7_keep_201 (by decide) ?_
            exact J210_6 _ (by (rw [if_neg (fun q => q c7)]) <;> rfl) _ _ _ hw (lv_sub hl [0, 1, 2, 3] rfl)
        refine q_cmpne hC 178 (cNeq (by omega) (by omega)) dX7_keep_171 (by decide) (fun (c8 : 1 ≠ 29) => ?_) (fun (c8 : 1 = 29) => ?_)
        · refine lv_aload_n hC.1 hC.2.1 dX7_keep_178 rfl (lv_at hl 1 rfl) ?_
          refine gf_X7_28 (v := nI 1) hC hw hnx dX7_keep_179 ?_
          refine lv_iconst (v := nI 1) hC.1 hC.2.1 dX7_keep_182 (by decide) ?_
          refine q_addN hC dX7_keep_183 ?_
          exact J184_4 _ (by (rw [if_pos c8]) <;> rfl) _ _ _ hw (lv_sub hl [1, 2, 0, 3] rfl)
        · refine lv_iconst (v := nI 0) hC.1 hC.2.1 dX7_keep_174 (by decide) ?_
          refine lv_goto (tgt := 184) hC.1 hC.2.1 dX7_keep_175 (by decide) ?_
          exact J184_4 _ (by (rw [if_neg (fun q => q c8)]) <;> rfl) _ _ _ hw (lv_sub hl [1, 2, 0, 3] rfl)
      · refine lv_aload_n hC.1 hC.2.1 dX7_keep_64 rfl (lv_at hl 1 rfl) ?_
        refine lv_iload_n hC.1 hC.2.1 dX7_keep_65 rfl (lv_at hl 2 rfl) ?_
        refine lv_iload_n hC.1 hC.2.1 dX7_keep_66 rfl (lv_at hl 3 rfl) ?_
        refine q_addN hC dX7_keep_67 ?_
        refine lv_aload_n hC.1 hC.2.1 dX7_keep_68 rfl (lv_at hl 0 rfl) ?_
        refine gf_X7_16 hC hw dX7_keep_69 ?_
        refine gf_X7_49 hC hw dX7_keep_72 ?_
        refine lv_iload_n hC.1 hC.2.1 dX7_keep_75 rfl (lv_at hl 3 rfl) ?_
        refine al_X4 (v := σ 4 h) hC hw (by omega) rfl dX7_keep_76 ?_
        have J85_10 : ∀ (w9 : Int32), w9 = (if ¬ (σ 4 h = 0) then (1 : Int32) else 0) → ∀ (H : Heap) (locs : List Loc) (ls : Array Slot), Wst E (XW E a) (sr σ 31 (upc (σ 4) h (va_cpy (σ 15) (upd (upd (upd (σ 31) 0 (σ 0 0)) 1 (σ 0 1)) 2 (σ 0 2)) 0 3 3))) A s.heap H locs → lv_has ls 4 [(0, .ref (a 68)), (1, .ref (a 31)), (2, .int (nI (3 + 3))), (3, .int (nI h))] → W p l e ({ frames := 1, cells := 0, slots := 0, locals := 24 }) s m args below meth c H locs 0 0 Q (F0 m 85 ls [.int (w9), .int (nI ((3 + 3) + h)), .ref (a 31)]) := by
          intro w9 e10 H locs ls hw hl
          subst e10
          refine q_ast (Wf := XW E a) 41 rfl (by decide) (XW_s31 _) hC hw (by omega) dX7_keep_85 (fun H locs hw => ?_)
          have hw : Wst E (XW E a) (sr (sr σ 31 (upc (σ 4) h (va_cpy (σ 15) (upd (upd (upd (σ 31) 0 (σ 0 0)) 1 (σ 0 1)) 2 (σ 0 2)) 0 3 3))) 31 (upd (upc (σ 4) h (va_cpy (σ 15) (upd (upd (upd (σ 31) 0 (σ 0 0)) 1 (σ 0 1)) 2 (σ 0 2)) 0 3 3)) ((3 + 3) + h) (if ¬ (σ 4 h = 0) then (1 : Int32) else 0))) A s.heap H locs := hw
          have hst_ : sr (sr σ 31 (upc (σ 4) h (va_cpy (σ 15) (upd (upd (upd (σ 31) 0 (σ 0 0)) 1 (σ 0 1)) 2 (σ 0 2)) 0 3 3))) 31 (upd (upc (σ 4) h (va_cpy (σ 15) (upd (upd (upd (σ 31) 0 (σ 0 0)) 1 (σ 0 1)) 2 (σ 0 2)) 0 3 3)) ((3 + 3) + h) (if ¬ (σ 4 h = 0) then (1 : Int32) else 0)) = sr σ 31 (upd (upc (σ 4) h (va_cpy (σ 15) (upd (upd (upd (σ 31) 0 (σ 0 0)) 1 (σ 0 1)) 2 (σ 0 2)) 0 3 3)) ((3 + 3) + h) (if ¬ (σ 4 h = 0) then (1 : Int32) else 0)) := by
            funext j_ x_
            by_cases e0 : j_ = 0
            · subst e0
              rfl
            · by_cases e31 : j_ = 31
              · subst e31; rfl
              · simp only [sr, e0, e31, if_false]
          rw [hst_] at hw
          refine lv_iinc (v := nI (h + 1)) (lv' := [(3, .int (nI (h + 1))), (0, .ref (a 68)), (1, .ref (a 31)), (2, .int (nI (3 + 3)))]) hC.1 hC.2.1 dX7_keep_86 hl (k := 3) rfl (nI_add _ _) (by decide) rfl (fun ls hl => ?_)
          refine lv_goto (tgt := 58) hC.1 hC.2.1 dX7_keep_89 (by decide) ?_
          rw [upc_s] at hw
          exact ih58 (h + 1) (by omega) (by omega) _ _ _ hw (lv_sub hl [1, 2, 3, 0] rfl)
        refine q_ifeq hC 84 cI dX7_keep_77 (by decide) (fun (c11 : σ 4 h = 0) => ?_) (fun (c11 : ¬ (σ 4 h = 0)) => ?_)
        · refine lv_iconst (v := nI 0) hC.1 hC.2.1 dX7_keep_84 (by decide) ?_
          exact J85_10 _ (if_neg (fun q => q c11)).symm _ _ _ hw (lv_sub hl [0, 1, 2, 3] rfl)
        · refine lv_iconst (v := nI 1) hC.1 hC.2.1 dX7_keep_80 (by decide) ?_
          refine lv_goto (tgt := 85) hC.1 hC.2.1 dX7_keep_81 (by decide) ?_
          exact J85_10 _ (if_pos c11).symm _ _ _ hw (lv_sub hl [0, 1, 2, 3] rfl)
  rw [← upc_0 (σ 4) (va_cpy (σ 15) (upd (upd (upd (σ 31) 0 (σ 0 0)) 1 (σ 0 1)) 2 (σ 0 2)) 0 3 3)] at hw
  exact L58_0 _ 0 (by omega) (Nat.lt_succ_self _) _ _ _ hw (lv_sub hl [3, 2, 1, 0] rfl)
set_option maxHeartbeats 4000000 in
set_option maxRecDepth 100000 in
theorem tX7_keep_k2 (l : Launch) (E : EV) (a : Nat → Nat) (σ : St) (kp : Nat) (hnx : σ 0 3 = nI 2) (hkp : σ 0 4 = nI kp) (hk30 : kp ≤ 30) : MV l E (XW E a) yX7_keep (Cond.code yX7_keep cX7_keep 4 none) ({ frames := 1, cells := 0, slots := 0, locals := 24 }) [.ref (a 68)] σ (fun u_ => u_ = sr (sr σ 32 (kpr σ (σ 32))) 0 (upd (upd (σ 0) 3 (nI (if 2 ≠ 29 then 2 + 1 else 0))) 4 (nI (if kp ≠ 30 then kp + 1 else kp)))) := by
  refine MV.mk (by decide +kernel) (Nat.le_of_ble_eq_true rfl) ?_
  intro p e s m args below meth c ls A Q hret hC hw hl
  have hC : Cxt E p s m args meth c cX7_keep 4 none RX7 A := hC
  have hl : lv_has ls 4 [(0, .ref (a 68))] := hl
  refine lv_aload_n hC.1 hC.2.1 dX7_keep_0 rfl (lv_at hl 0 rfl) ?_
  refine gf_X7_13 hC hw dX7_keep_1 ?_
  refine lv_aload_n hC.1 hC.2.1 dX7_keep_4 rfl (lv_at hl 0 rfl) ?_
  refine gf_X7_28 (v := nI 2) hC hw hnx dX7_keep_5 ?_
  refine q_aald hC hw (i := 2) (by decide) dX7_keep_8 ?_
  refine lv_astore_n (lv' := [(1, .ref (a 32)), (0, .ref (a 68))]) hC.1 hC.2.1 dX7_keep_9 rfl hl (by decide) rfl (fun ls hl => ?_)
  refine lv_aload_n hC.1 hC.2.1 dX7_keep_10 rfl (lv_at hl 0 rfl) ?_
  refine lv_iconst (v := nI 0) hC.1 hC.2.1 dX7_keep_11 (by decide) ?_
  refine lv_aload_n hC.1 hC.2.1 dX7_keep_12 rfl (lv_at hl 1 rfl) ?_
  refine gf_X7_16 hC hw dX7_keep_13 ?_
  refine gf_X7_32 (v := σ 0 0) hC hw rfl dX7_keep_16 ?_
  refine q_ast (Wf := XW E a) 42 rfl (by decide) (XW_s32 _) hC hw (by omega) dX7_keep_19 (fun H locs hw => ?_)
  have hw : Wst E (XW E a) (sr σ 32 (upd (σ 32) 0 (σ 0 0))) A s.heap H locs := hw
  refine lv_aload_n hC.1 hC.2.1 dX7_keep_20 rfl (lv_at hl 0 rfl) ?_
  refine lv_iconst (v := nI 1) hC.1 hC.2.1 dX7_keep_21 (by decide) ?_
  refine lv_aload_n hC.1 hC.2.1 dX7_keep_22 rfl (lv_at hl 1 rfl) ?_
  refine gf_X7_20 hC hw dX7_keep_23 ?_
  refine gf_X7_37 (v := σ 0 1) hC hw rfl dX7_keep_26 ?_
  refine q_ast (Wf := XW E a) 42 rfl (by decide) (XW_s32 _) hC hw (by omega) dX7_keep_29 (fun H locs hw => ?_)
  have hw : Wst E (XW E a) (sr (sr σ 32 (upd (σ 32) 0 (σ 0 0))) 32 (upd (upd (σ 32) 0 (σ 0 0)) 1 (σ 0 1))) A s.heap H locs := hw
  have hst_ : sr (sr σ 32 (upd (σ 32) 0 (σ 0 0))) 32 (upd (upd (σ 32) 0 (σ 0 0)) 1 (σ 0 1)) = sr σ 32 (upd (upd (σ 32) 0 (σ 0 0)) 1 (σ 0 1)) := by
    funext j_ x_
    by_cases e0 : j_ = 0
    · subst e0
      rfl
    · by_cases e32 : j_ = 32
      · subst e32; rfl
      · simp only [sr, e0, e32, if_false]
  rw [hst_] at hw
  refine lv_aload_n hC.1 hC.2.1 dX7_keep_30 rfl (lv_at hl 0 rfl) ?_
  refine lv_iconst (v := nI 2) hC.1 hC.2.1 dX7_keep_31 (by decide) ?_
  refine lv_aload_n hC.1 hC.2.1 dX7_keep_32 rfl (lv_at hl 1 rfl) ?_
  refine gf_X7_20 hC hw dX7_keep_33 ?_
  refine gf_X7_40 (v := σ 0 2) hC hw rfl dX7_keep_36 ?_
  refine q_ast (Wf := XW E a) 42 rfl (by decide) (XW_s32 _) hC hw (by omega) dX7_keep_39 (fun H locs hw => ?_)
  have hw : Wst E (XW E a) (sr (sr σ 32 (upd (upd (σ 32) 0 (σ 0 0)) 1 (σ 0 1))) 32 (upd (upd (upd (σ 32) 0 (σ 0 0)) 1 (σ 0 1)) 2 (σ 0 2))) A s.heap H locs := hw
  have hst_ : sr (sr σ 32 (upd (upd (σ 32) 0 (σ 0 0)) 1 (σ 0 1))) 32 (upd (upd (upd (σ 32) 0 (σ 0 0)) 1 (σ 0 1)) 2 (σ 0 2)) = sr σ 32 (upd (upd (upd (σ 32) 0 (σ 0 0)) 1 (σ 0 1)) 2 (σ 0 2)) := by
    funext j_ x_
    by_cases e0 : j_ = 0
    · subst e0
      rfl
    · by_cases e32 : j_ = 32
      · subst e32; rfl
      · simp only [sr, e0, e32, if_false]
  rw [hst_] at hw
  refine lv_iconst (v := nI 3) hC.1 hC.2.1 dX7_keep_40 (by decide) ?_
  refine lv_istore_n (lv' := [(2, .int (nI 3)), (1, .ref (a 32)), (0, .ref (a 68))]) hC.1 hC.2.1 dX7_keep_41 rfl hl (by decide) rfl (fun ls hl => ?_)
  refine lv_aload_n hC.1 hC.2.1 dX7_keep_42 rfl (lv_at hl 2 rfl) ?_
  refine gf_X7_24 hC hw dX7_keep_43 ?_
  refine lv_iconst (v := nI 0) hC.1 hC.2.1 dX7_keep_46 (by decide) ?_
  refine lv_aload_n hC.1 hC.2.1 dX7_keep_47 rfl (lv_at hl 1 rfl) ?_
  refine lv_iload_n hC.1 hC.2.1 dX7_keep_48 rfl (lv_at hl 0 rfl) ?_
  refine lv_iconst (v := nI 3) hC.1 hC.2.1 dX7_keep_49 (by decide) ?_
  refine q_cpy (sp := 0) (dp := 3) (n := 3) 25 rfl 42 rfl (XW_s32 _) hC hw hl (by omega) (by omega) (by decide) (by decide) ⟨Nat.le_of_ble_eq_true rfl, Nat.le_of_ble_eq_true rfl⟩ wk2_182 dX7_keep_50 (fun H locs hw => ?_)
  have hw : Wst E (XW E a) (sr (sr σ 32 (upd (upd (upd (σ 32) 0 (σ 0 0)) 1 (σ 0 1)) 2 (σ 0 2))) 32 (va_cpy (σ 15) (upd (upd (upd (σ 32) 0 (σ 0 0)) 1 (σ 0 1)) 2 (σ 0 2)) 0 3 3)) A s.heap H locs := hw
  have hst_ : sr (sr σ 32 (upd (upd (upd (σ 32) 0 (σ 0 0)) 1 (σ 0 1)) 2 (σ 0 2))) 32 (va_cpy (σ 15) (upd (upd (upd (σ 32) 0 (σ 0 0)) 1 (σ 0 1)) 2 (σ 0 2)) 0 3 3) = sr σ 32 (va_cpy (σ 15) (upd (upd (upd (σ 32) 0 (σ 0 0)) 1 (σ 0 1)) 2 (σ 0 2)) 0 3 3) := by
    funext j_ x_
    by_cases e0 : j_ = 0
    · subst e0
      rfl
    · by_cases e32 : j_ = 32
      · subst e32; rfl
      · simp only [sr, e0, e32, if_false]
  rw [hst_] at hw
  refine lv_iinc (v := nI (3 + 3)) (lv' := [(2, .int (nI (3 + 3))), (1, .ref (a 32)), (0, .ref (a 68))]) hC.1 hC.2.1 dX7_keep_53 hl (k := 0) rfl (nI_add _ _) (by decide) rfl (fun ls hl => ?_)
  refine lv_iconst (v := nI 0) hC.1 hC.2.1 dX7_keep_56 (by decide) ?_
  refine lv_istore_n (lv' := [(3, .int (nI 0)), (2, .int (nI (3 + 3))), (1, .ref (a 32)), (0, .ref (a 68))]) hC.1 hC.2.1 dX7_keep_57 rfl hl (by decide) rfl (fun ls hl => ?_)
  have L58_0 : ∀ (n : Nat), ∀ (h : Nat), (h ≤ 10) → (10 - h) < n → ∀ (H : Heap) (locs : List Loc) (ls : Array Slot), Wst E (XW E a) (sr σ 32 (upc (σ 4) h (va_cpy (σ 15) (upd (upd (upd (σ 32) 0 (σ 0 0)) 1 (σ 0 1)) 2 (σ 0 2)) 0 3 3))) A s.heap H locs → lv_has ls 4 [(0, .ref (a 68)), (1, .ref (a 32)), (2, .int (nI (3 + 3))), (3, .int (nI h))] → W p l e ({ frames := 1, cells := 0, slots := 0, locals := 24 }) s m args below meth c H locs 0 0 Q (F0 m 58 ls []) := by
    intro n
    induction n with
    | zero => intro h hh hn; exact absurd hn (Nat.not_lt_zero _)
    | succ n ih58 =>
      intro h hh hn58 H locs ls hw hl
      refine lv_iload_n hC.1 hC.2.1 dX7_keep_58 rfl (lv_at hl 3 rfl) ?_
      refine lv_bipush (v := nI 10) hC.1 hC.2.1 dX7_keep_59 (by decide) ?_
      refine q_cmpge hC 92 (cNle (by omega) (by omega)) dX7_keep_61 (by decide) (fun (c2 : 10 ≤ h) => ?_) (fun (c2 : h < 10) => ?_)
      · have hh9 : h = 10 := by omega
        rw [hh9] at hw
        refine lv_iinc (v := nI (3 + 3 + 10)) (lv' := [(2, .int (nI (3 + 3 + 10))), (0, .ref (a 68)), (1, .ref (a 32)), (3, .int (nI h))]) hC.1 hC.2.1 dX7_keep_92 hl (k := 2) rfl (nI_add _ _) (by decide) rfl (fun ls hl => ?_)
        refine lv_aload_n hC.1 hC.2.1 dX7_keep_95 rfl (lv_at hl 1 rfl) ?_
        refine gf_X7_20 hC hw dX7_keep_96 ?_
        refine gf_X7_53 hC hw dX7_keep_99 ?_
        refine lv_iconst (v := nI 0) hC.1 hC.2.1 dX7_keep_102 (by decide) ?_
        refine lv_aload_n hC.1 hC.2.1 dX7_keep_103 rfl (lv_at hl 2 rfl) ?_
        refine lv_iload_n hC.1 hC.2.1 dX7_keep_104 rfl (lv_at hl 0 rfl) ?_
        refine lv_bipush (v := nI 24) hC.1 hC.2.1 dX7_keep_105 (by decide) ?_
        refine q_cpy (sp := 0) (dp := (3 + 3 + 10)) (n := 24) 21 rfl 42 rfl (XW_s32 _) hC hw hl (by omega) (by omega) (by decide) (by decide) ⟨Nat.le_of_ble_eq_true rfl, Nat.le_of_ble_eq_true rfl⟩ wk2_182 dX7_keep_107 (fun H locs hw => ?_)
        have hw : Wst E (XW E a) (sr (sr σ 32 (upc (σ 4) 10 (va_cpy (σ 15) (upd (upd (upd (σ 32) 0 (σ 0 0)) 1 (σ 0 1)) 2 (σ 0 2)) 0 3 3))) 32 (va_cpy (σ 11) (upc (σ 4) 10 (va_cpy (σ 15) (upd (upd (upd (σ 32) 0 (σ 0 0)) 1 (σ 0 1)) 2 (σ 0 2)) 0 3 3)) 0 (3 + 3 + 10) 24)) A s.heap H locs := hw
        have hst_ : sr (sr σ 32 (upc (σ 4) 10 (va_cpy (σ 15) (upd (upd (upd (σ 32) 0 (σ 0 0)) 1 (σ 0 1)) 2 (σ 0 2)) 0 3 3))) 32 (va_cpy (σ 11) (upc (σ 4) 10 (va_cpy (σ 15) (upd (upd (upd (σ 32) 0 (σ 0 0)) 1 (σ 0 1)) 2 (σ 0 2)) 0 3 3)) 0 (3 + 3 + 10) 24) = sr σ 32 (va_cpy (σ 11) (upc (σ 4) 10 (va_cpy (σ 15) (upd (upd (upd (σ 32) 0 (σ 0 0)) 1 (σ 0 1)) 2 (σ 0 2)) 0 3 3)) 0 (3 + 3 + 10) 24) := by
          funext j_ x_
          by_cases e0 : j_ = 0
          · subst e0
            rfl
          · by_cases e32 : j_ = 32
            · subst e32; rfl
            · simp only [sr, e0, e32, if_false]
        rw [hst_] at hw
        refine lv_aload_n hC.1 hC.2.1 dX7_keep_110 rfl (lv_at hl 1 rfl) ?_
        refine gf_X7_20 hC hw dX7_keep_111 ?_
        refine gf_X7_56 hC hw dX7_keep_114 ?_
        refine lv_iconst (v := nI 0) hC.1 hC.2.1 dX7_keep_117 (by decide) ?_
        refine lv_aload_n hC.1 hC.2.1 dX7_keep_118 rfl (lv_at hl 2 rfl) ?_
        refine lv_iload_n hC.1 hC.2.1 dX7_keep_119 rfl (lv_at hl 0 rfl) ?_
        refine lv_bipush (v := nI 24) hC.1 hC.2.1 dX7_keep_120 (by decide) ?_
        refine q_addN hC dX7_keep_122 ?_
        refine lv_bipush (v := nI 24) hC.1 hC.2.1 dX7_keep_123 (by decide) ?_
        refine q_cpy (sp := 0) (dp := ((3 + 3 + 10) + 24)) (n := 24) 22 rfl 42 rfl (XW_s32 _) hC hw hl (by omega) (by omega) (by decide) (by decide) ⟨Nat.le_of_ble_eq_true rfl, Nat.le_of_ble_eq_true rfl⟩ wk2_182 dX7_keep_125 (fun H locs hw => ?_)
        have hw : Wst E (XW E a) (sr (sr σ 32 (va_cpy (σ 11) (upc (σ 4) 10 (va_cpy (σ 15) (upd (upd (upd (σ 32) 0 (σ 0 0)) 1 (σ 0 1)) 2 (σ 0 2)) 0 3 3)) 0 (3 + 3 + 10) 24)) 32 (va_cpy (σ 12) (va_cpy (σ 11) (upc (σ 4) 10 (va_cpy (σ 15) (upd (upd (upd (σ 32) 0 (σ 0 0)) 1 (σ 0 1)) 2 (σ 0 2)) 0 3 3)) 0 (3 + 3 + 10) 24) 0 ((3 + 3 + 10) + 24) 24)) A s.heap H locs := hw
        have hst_ : sr (sr σ 32 (va_cpy (σ 11) (upc (σ 4) 10 (va_cpy (σ 15) (upd (upd (upd (σ 32) 0 (σ 0 0)) 1 (σ 0 1)) 2 (σ 0 2)) 0 3 3)) 0 (3 + 3 + 10) 24)) 32 (va_cpy (σ 12) (va_cpy (σ 11) (upc (σ 4) 10 (va_cpy (σ 15) (upd (upd (upd (σ 32) 0 (σ 0 0)) 1 (σ 0 1)) 2 (σ 0 2)) 0 3 3)) 0 (3 + 3 + 10) 24) 0 ((3 + 3 + 10) + 24) 24) = sr σ 32 (va_cpy (σ 12) (va_cpy (σ 11) (upc (σ 4) 10 (va_cpy (σ 15) (upd (upd (upd (σ 32) 0 (σ 0 0)) 1 (σ 0 1)) 2 (σ 0 2)) 0 3 3)) 0 (3 + 3 + 10) 24) 0 ((3 + 3 + 10) + 24) 24) := by
          funext j_ x_
          by_cases e0 : j_ = 0
          · subst e0
            rfl
          · by_cases e32 : j_ = 32
            · subst e32; rfl
            · simp only [sr, e0, e32, if_false]
        rw [hst_] at hw
        refine lv_aload_n hC.1 hC.2.1 dX7_keep_128 rfl (lv_at hl 1 rfl) ?_
        refine gf_X7_20 hC hw dX7_keep_129 ?_
        refine gf_X7_59 hC hw dX7_keep_132 ?_
        refine lv_iconst (v := nI 0) hC.1 hC.2.1 dX7_keep_135 (by decide) ?_
        refine lv_aload_n hC.1 hC.2.1 dX7_keep_136 rfl (lv_at hl 2 rfl) ?_
        refine lv_iload_n hC.1 hC.2.1 dX7_keep_137 rfl (lv_at hl 0 rfl) ?_
        refine lv_bipush (v := nI 48) hC.1 hC.2.1 dX7_keep_138 (by decide) ?_
        refine q_addN hC dX7_keep_140 ?_
        refine lv_bipush (v := nI 24) hC.1 hC.2.1 dX7_keep_141 (by decide) ?_
        refine q_cpy (sp := 0) (dp := ((3 + 3 + 10) + 48)) (n := 24) 23 rfl 42 rfl (XW_s32 _) hC hw hl (by omega) (by omega) (by decide) (by decide) ⟨Nat.le_of_ble_eq_true rfl, Nat.le_of_ble_eq_true rfl⟩ wk2_182 dX7_keep_143 (fun H locs hw => ?_)
        have hw : Wst E (XW E a) (sr (sr σ 32 (va_cpy (σ 12) (va_cpy (σ 11) (upc (σ 4) 10 (va_cpy (σ 15) (upd (upd (upd (σ 32) 0 (σ 0 0)) 1 (σ 0 1)) 2 (σ 0 2)) 0 3 3)) 0 (3 + 3 + 10) 24) 0 ((3 + 3 + 10) + 24) 24)) 32 (va_cpy (σ 13) (va_cpy (σ 12) (va_cpy (σ 11) (upc (σ 4) 10 (va_cpy (σ 15) (upd (upd (upd (σ 32) 0 (σ 0 0)) 1 (σ 0 1)) 2 (σ 0 2)) 0 3 3)) 0 (3 + 3 + 10) 24) 0 ((3 + 3 + 10) + 24) 24) 0 ((3 + 3 + 10) + 48) 24)) A s.heap H locs := hw
        have hst_ : sr (sr σ 32 (va_cpy (σ 12) (va_cpy (σ 11) (upc (σ 4) 10 (va_cpy (σ 15) (upd (upd (upd (σ 32) 0 (σ 0 0)) 1 (σ 0 1)) 2 (σ 0 2)) 0 3 3)) 0 (3 + 3 + 10) 24) 0 ((3 + 3 + 10) + 24) 24)) 32 (va_cpy (σ 13) (va_cpy (σ 12) (va_cpy (σ 11) (upc (σ 4) 10 (va_cpy (σ 15) (upd (upd (upd (σ 32) 0 (σ 0 0)) 1 (σ 0 1)) 2 (σ 0 2)) 0 3 3)) 0 (3 + 3 + 10) 24) 0 ((3 + 3 + 10) + 24) 24) 0 ((3 + 3 + 10) + 48) 24) = sr σ 32 (va_cpy (σ 13) (va_cpy (σ 12) (va_cpy (σ 11) (upc (σ 4) 10 (va_cpy (σ 15) (upd (upd (upd (σ 32) 0 (σ 0 0)) 1 (σ 0 1)) 2 (σ 0 2)) 0 3 3)) 0 (3 + 3 + 10) 24) 0 ((3 + 3 + 10) + 24) 24) 0 ((3 + 3 + 10) + 48) 24) := by
          funext j_ x_
          by_cases e0 : j_ = 0
          · subst e0
            rfl
          · by_cases e32 : j_ = 32
            · subst e32; rfl
            · simp only [sr, e0, e32, if_false]
        rw [hst_] at hw
        refine lv_aload_n hC.1 hC.2.1 dX7_keep_146 rfl (lv_at hl 1 rfl) ?_
        refine gf_X7_20 hC hw dX7_keep_147 ?_
        refine gf_X7_62 hC hw dX7_keep_150 ?_
        refine lv_iconst (v := nI 0) hC.1 hC.2.1 dX7_keep_153 (by decide) ?_
        refine lv_aload_n hC.1 hC.2.1 dX7_keep_154 rfl (lv_at hl 2 rfl) ?_
        refine lv_iload_n hC.1 hC.2.1 dX7_keep_155 rfl (lv_at hl 0 rfl) ?_
        refine lv_bipush (v := nI 72) hC.1 hC.2.1 dX7_keep_156 (by decide) ?_
        refine q_addN hC dX7_keep_158 ?_
        refine lv_bipush (v := nI 24) hC.1 hC.2.1 dX7_keep_159 (by decide) ?_
        refine q_cpy (sp := 0) (dp := ((3 + 3 + 10) + 72)) (n := 24) 24 rfl 42 rfl (XW_s32 _) hC hw hl (by omega) (by omega) (by decide) (by decide) ⟨Nat.le_of_ble_eq_true rfl, Nat.le_of_ble_eq_true rfl⟩ wk2_182 dX7_keep_161 (fun H locs hw => ?_)
        have hw : Wst E (XW E a) (sr (sr σ 32 (va_cpy (σ 13) (va_cpy (σ 12) (va_cpy (σ 11) (upc (σ 4) 10 (va_cpy (σ 15) (upd (upd (upd (σ 32) 0 (σ 0 0)) 1 (σ 0 1)) 2 (σ 0 2)) 0 3 3)) 0 (3 + 3 + 10) 24) 0 ((3 + 3 + 10) + 24) 24) 0 ((3 + 3 + 10) + 48) 24)) 32 (va_cpy (σ 14) (va_cpy (σ 13) (va_cpy (σ 12) (va_cpy (σ 11) (upc (σ 4) 10 (va_cpy (σ 15) (upd (upd (upd (σ 32) 0 (σ 0 0)) 1 (σ 0 1)) 2 (σ 0 2)) 0 3 3)) 0 (3 + 3 + 10) 24) 0 ((3 + 3 + 10) + 24) 24) 0 ((3 + 3 + 10) + 48) 24) 0 ((3 + 3 + 10) + 72) 24)) A s.heap H locs := hw
        have hst_ : sr (sr σ 32 (va_cpy (σ 13) (va_cpy (σ 12) (va_cpy (σ 11) (upc (σ 4) 10 (va_cpy (σ 15) (upd (upd (upd (σ 32) 0 (σ 0 0)) 1 (σ 0 1)) 2 (σ 0 2)) 0 3 3)) 0 (3 + 3 + 10) 24) 0 ((3 + 3 + 10) + 24) 24) 0 ((3 + 3 + 10) + 48) 24)) 32 (va_cpy (σ 14) (va_cpy (σ 13) (va_cpy (σ 12) (va_cpy (σ 11) (upc (σ 4) 10 (va_cpy (σ 15) (upd (upd (upd (σ 32) 0 (σ 0 0)) 1 (σ 0 1)) 2 (σ 0 2)) 0 3 3)) 0 (3 + 3 + 10) 24) 0 ((3 + 3 + 10) + 24) 24) 0 ((3 + 3 + 10) + 48) 24) 0 ((3 + 3 + 10) + 72) 24) = sr σ 32 (va_cpy (σ 14) (va_cpy (σ 13) (va_cpy (σ 12) (va_cpy (σ 11) (upc (σ 4) 10 (va_cpy (σ 15) (upd (upd (upd (σ 32) 0 (σ 0 0)) 1 (σ 0 1)) 2 (σ 0 2)) 0 3 3)) 0 (3 + 3 + 10) 24) 0 ((3 + 3 + 10) + 24) 24) 0 ((3 + 3 + 10) + 48) 24) 0 ((3 + 3 + 10) + 72) 24) := by
          funext j_ x_
          by_cases e0 : j_ = 0
          · subst e0
            rfl
          · by_cases e32 : j_ = 32
            · subst e32; rfl
            · simp only [sr, e0, e32, if_false]
        rw [hst_] at hw
        refine lv_aload_n hC.1 hC.2.1 dX7_keep_164 rfl (lv_at hl 1 rfl) ?_
        refine lv_aload_n hC.1 hC.2.1 dX7_keep_165 rfl (lv_at hl 1 rfl) ?_
        refine gf_X7_28 (v := nI 2) hC hw hnx dX7_keep_166 ?_
        refine lv_bipush (v := nI 29) hC.1 hC.2.1 dX7_keep_169 (by decide) ?_
        have J184_4 : ∀ (w3 : Nat), w3 = (if 2 ≠ 29 then (2 + 1) else 0) → ∀ (H : Heap) (locs : List Loc) (ls : Array Slot), Wst E (XW E a) (sr σ 32 (va_cpy (σ 14) (va_cpy (σ 13) (va_cpy (σ 12) (va_cpy (σ 11) (upc (σ 4) 10 (va_cpy (σ 15) (upd (upd (upd (σ 32) 0 (σ 0 0)) 1 (σ 0 1)) 2 (σ 0 2)) 0 3 3)) 0 (3 + 3 + 10) 24) 0 ((3 + 3 + 10) + 24) 24) 0 ((3 + 3 + 10) + 48) 24) 0 ((3 + 3 + 10) + 72) 24)) A s.heap H locs → lv_has ls 4 [(0, .ref (a 68)), (1, .ref (a 32)), (2, .int (nI (3 + 3 + 10))), (3, .int (nI h))] → W p l e ({ frames := 1, cells := 0, slots := 0, locals := 24 }) s m args below meth c H locs 0 0 Q (F0 m 184 ls [.int (nI w3), .ref (a 68)]) := by
          intro w3 e4 H locs ls hw hl
          subst e4
          refine pf_X7_28 hC hw dX7_keep_184 (fun H locs hw => ?_)
          have hw : Wst E (XW E a) (sr (sr σ 32 (va_cpy (σ 14) (va_cpy (σ 13) (va_cpy (σ 12) (va_cpy (σ 11) (upc (σ 4) 10 (va_cpy (σ 15) (upd (upd (upd (σ 32) 0 (σ 0 0)) 1 (σ 0 1)) 2 (σ 0 2)) 0 3 3)) 0 (3 + 3 + 10) 24) 0 ((3 + 3 + 10) + 24) 24) 0 ((3 + 3 + 10) + 48) 24) 0 ((3 + 3 + 10) + 72) 24)) 0 (upd (σ 0) 3 (nI (if 2 ≠ 29 then (2 + 1) else 0)))) A s.heap H locs := hw
          refine lv_aload_n hC.1 hC.2.1 dX7_keep_187 rfl (lv_at hl 0 rfl) ?_
          refine lv_aload_n hC.1 hC.2.1 dX7_keep_188 rfl (lv_at hl 0 rfl) ?_
          refine gf_X7_65 (v := nI kp) hC hw hkp dX7_keep_189 ?_
          refine lv_bipush (v := nI 30) hC.1 hC.2.1 dX7_keep_192 (by decide) ?_
          have J210_6 : ∀ (w5 : Nat), w5 = (if kp ≠ 30 then (kp + 1) else kp) → ∀ (H : Heap) (locs : List Loc) (ls : Array Slot), Wst E (XW E a) (sr (sr σ 32 (va_cpy (σ 14) (va_cpy (σ 13) (va_cpy (σ 12) (va_cpy (σ 11) (upc (σ 4) 10 (va_cpy (σ 15) (upd (upd (upd (σ 32) 0 (σ 0 0)) 1 (σ 0 1)) 2 (σ 0 2)) 0 3 3)) 0 (3 + 3 + 10) 24) 0 ((3 + 3 + 10) + 24) 24) 0 ((3 + 3 + 10) + 48) 24) 0 ((3 + 3 + 10) + 72) 24)) 0 (upd (σ 0) 3 (nI (if 2 ≠ 29 then (2 + 1) else 0)))) A s.heap H locs → lv_has ls 4 [(0, .ref (a 68)), (1, .ref (a 32)), (2, .int (nI (3 + 3 + 10))), (3, .int (nI h))] → W p l e ({ frames := 1, cells := 0, slots := 0, locals := 24 }) s m args below meth c H locs 0 0 Q (F0 m 210 ls [.int (nI w5), .ref (a 68)]) := by
            intro w5 e6 H locs ls hw hl
            subst e6
            refine pf_X7_65 hC hw dX7_keep_210 (fun H locs hw => ?_)
            have hw : Wst E (XW E a) (sr (sr (sr σ 32 (va_cpy (σ 14) (va_cpy (σ 13) (va_cpy (σ 12) (va_cpy (σ 11) (upc (σ 4) 10 (va_cpy (σ 15) (upd (upd (upd (σ 32) 0 (σ 0 0)) 1 (σ 0 1)) 2 (σ 0 2)) 0 3 3)) 0 (3 + 3 + 10) 24) 0 ((3 + 3 + 10) + 24) 24) 0 ((3 + 3 + 10) + 48) 24) 0 ((3 + 3 + 10) + 72) 24)) 0 (upd (σ 0) 3 (nI (if 2 ≠ 29 then (2 + 1) else 0)))) 0 (upd (upd (σ 0) 3 (nI (if 2 ≠ 29 then (2 + 1) else 0))) 4 (nI (if kp ≠ 30 then (kp + 1) else kp)))) A s.heap H locs := hw
            have hst_ : sr (sr (sr σ 32 (va_cpy (σ 14) (va_cpy (σ 13) (va_cpy (σ 12) (va_cpy (σ 11) (upc (σ 4) 10 (va_cpy (σ 15) (upd (upd (upd (σ 32) 0 (σ 0 0)) 1 (σ 0 1)) 2 (σ 0 2)) 0 3 3)) 0 (3 + 3 + 10) 24) 0 ((3 + 3 + 10) + 24) 24) 0 ((3 + 3 + 10) + 48) 24) 0 ((3 + 3 + 10) + 72) 24)) 0 (upd (σ 0) 3 (nI (if 2 ≠ 29 then (2 + 1) else 0)))) 0 (upd (upd (σ 0) 3 (nI (if 2 ≠ 29 then (2 + 1) else 0))) 4 (nI (if kp ≠ 30 then (kp + 1) else kp))) = sr (sr σ 32 (va_cpy (σ 14) (va_cpy (σ 13) (va_cpy (σ 12) (va_cpy (σ 11) (upc (σ 4) 10 (va_cpy (σ 15) (upd (upd (upd (σ 32) 0 (σ 0 0)) 1 (σ 0 1)) 2 (σ 0 2)) 0 3 3)) 0 (3 + 3 + 10) 24) 0 ((3 + 3 + 10) + 24) 24) 0 ((3 + 3 + 10) + 48) 24) 0 ((3 + 3 + 10) + 72) 24)) 0 (upd (upd (σ 0) 3 (nI (if 2 ≠ 29 then (2 + 1) else 0))) 4 (nI (if kp ≠ 30 then (kp + 1) else kp))) := by
              funext j_ x_
              by_cases e0 : j_ = 0
              · subst e0
                by_cases y3 : x_ = 3
                · subst y3; rfl
                · by_cases y4 : x_ = 4
                  · subst y4; rfl
                  · simp [sr, upd, y3, y4]
              · by_cases e32 : j_ = 32
                · subst e32; rfl
                · simp only [sr, e0, e32, if_false]
            rw [hst_] at hw
            refine hret _ _ _ _ _ hw ?_ dX7_keep_213
            exact rfl
          refine q_cmpne hC 204 (cNeq (by omega) (by omega)) dX7_keep_194 (by decide) (fun (c7 : kp ≠ 30) => ?_) (fun (c7 : kp = 30) => ?_)
          · refine lv_aload_n hC.1 hC.2.1 dX7_keep_204 rfl (lv_at hl 0 rfl) ?_
            refine gf_X7_65 (v := nI kp) hC hw hkp dX7_keep_205 ?_
            refine lv_iconst (v := nI 1) hC.1 hC.2.1 dX7_keep_208 (by decide) ?_
            refine q_addN hC dX7_keep_209 ?_
            exact J210_6 _ (by (rw [if_pos c7]) <;> rfl) _ _ _ hw (lv_sub hl [0, 1, 2, 3] rfl)
          · refine lv_aload_n hC.1 hC.2.1 dX7_keep_197 rfl (lv_at hl 0 rfl) ?_
            refine gf_X7_65 (v := nI kp) hC hw hkp dX7_keep_198 ?_
            refine lv_goto (tgt := 210) hC.1 hC.2.1 dX7_keep_201 (by decide) ?_
            exact J210_6 _ (by (rw [if_neg (fun q => q c7)]) <;> rfl) _ _ _ hw (lv_sub hl [0, 1, 2, 3] rfl)
        refine q_cmpne hC 178 (cNeq (by omega) (by omega)) dX7_keep_171 (by decide) (fun (c8 : 2 ≠ 29) => ?_) (fun (c8 : 2 = 29) => ?_)
        · refine lv_aload_n hC.1 hC.2.1 dX7_keep_178 rfl (lv_at hl 1 rfl) ?_
          refine gf_X7_28 (v := nI 2) hC hw hnx dX7_keep_179 ?_
          refine lv_iconst (v := nI 1) hC.1 hC.2.1 dX7_keep_182 (by decide) ?_
          refine q_addN hC dX7_keep_183 ?_
          exact J184_4 _ (by (rw [if_pos c8]) <;> rfl) _ _ _ hw (lv_sub hl [1, 2, 0, 3] rfl)
        · refine lv_iconst (v := nI 0) hC.1 hC.2.1 dX7_keep_174 (by decide) ?_
          refine lv_goto (tgt := 184) hC.1 hC.2.1 dX7_keep_175 (by decide) ?_
          exact J184_4 _ (by (rw [if_neg (fun q => q c8)]) <;> rfl) _ _ _ hw (lv_sub hl [1, 2, 0, 3] rfl)
      · refine lv_aload_n hC.1 hC.2.1 dX7_keep_64 rfl (lv_at hl 1 rfl) ?_
        refine lv_iload_n hC.1 hC.2.1 dX7_keep_65 rfl (lv_at hl 2 rfl) ?_
        refine lv_iload_n hC.1 hC.2.1 dX7_keep_66 rfl (lv_at hl 3 rfl) ?_
        refine q_addN hC dX7_keep_67 ?_
        refine lv_aload_n hC.1 hC.2.1 dX7_keep_68 rfl (lv_at hl 0 rfl) ?_
        refine gf_X7_16 hC hw dX7_keep_69 ?_
        refine gf_X7_49 hC hw dX7_keep_72 ?_
        refine lv_iload_n hC.1 hC.2.1 dX7_keep_75 rfl (lv_at hl 3 rfl) ?_
        refine al_X4 (v := σ 4 h) hC hw (by omega) rfl dX7_keep_76 ?_
        have J85_10 : ∀ (w9 : Int32), w9 = (if ¬ (σ 4 h = 0) then (1 : Int32) else 0) → ∀ (H : Heap) (locs : List Loc) (ls : Array Slot), Wst E (XW E a) (sr σ 32 (upc (σ 4) h (va_cpy (σ 15) (upd (upd (upd (σ 32) 0 (σ 0 0)) 1 (σ 0 1)) 2 (σ 0 2)) 0 3 3))) A s.heap H locs → lv_has ls 4 [(0, .ref (a 68)), (1, .ref (a 32)), (2, .int (nI (3 + 3))), (3, .int (nI h))] → W p l e ({ frames := 1, cells := 0, slots := 0, locals := 24 }) s m args below meth c H locs 0 0 Q (F0 m 85 ls [.int (w9), .int (nI ((3 + 3) + h)), .ref (a 32)]) := by
          intro w9 e10 H locs ls hw hl
          subst e10
          refine q_ast (Wf := XW E a) 42 rfl (by decide) (XW_s32 _) hC hw (by omega) dX7_keep_85 (fun H locs hw => ?_)
          have hw : Wst E (XW E a) (sr (sr σ 32 (upc (σ 4) h (va_cpy (σ 15) (upd (upd (upd (σ 32) 0 (σ 0 0)) 1 (σ 0 1)) 2 (σ 0 2)) 0 3 3))) 32 (upd (upc (σ 4) h (va_cpy (σ 15) (upd (upd (upd (σ 32) 0 (σ 0 0)) 1 (σ 0 1)) 2 (σ 0 2)) 0 3 3)) ((3 + 3) + h) (if ¬ (σ 4 h = 0) then (1 : Int32) else 0))) A s.heap H locs := hw
          have hst_ : sr (sr σ 32 (upc (σ 4) h (va_cpy (σ 15) (upd (upd (upd (σ 32) 0 (σ 0 0)) 1 (σ 0 1)) 2 (σ 0 2)) 0 3 3))) 32 (upd (upc (σ 4) h (va_cpy (σ 15) (upd (upd (upd (σ 32) 0 (σ 0 0)) 1 (σ 0 1)) 2 (σ 0 2)) 0 3 3)) ((3 + 3) + h) (if ¬ (σ 4 h = 0) then (1 : Int32) else 0)) = sr σ 32 (upd (upc (σ 4) h (va_cpy (σ 15) (upd (upd (upd (σ 32) 0 (σ 0 0)) 1 (σ 0 1)) 2 (σ 0 2)) 0 3 3)) ((3 + 3) + h) (if ¬ (σ 4 h = 0) then (1 : Int32) else 0)) := by
            funext j_ x_
            by_cases e0 : j_ = 0
            · subst e0
              rfl
            · by_cases e32 : j_ = 32
              · subst e32; rfl
              · simp only [sr, e0, e32, if_false]
          rw [hst_] at hw
          refine lv_iinc (v := nI (h + 1)) (lv' := [(3, .int (nI (h + 1))), (0, .ref (a 68)), (1, .ref (a 32)), (2, .int (nI (3 + 3)))]) hC.1 hC.2.1 dX7_keep_86 hl (k := 3) rfl (nI_add _ _) (by decide) rfl (fun ls hl => ?_)
          refine lv_goto (tgt := 58) hC.1 hC.2.1 dX7_keep_89 (by decide) ?_
          rw [upc_s] at hw
          exact ih58 (h + 1) (by omega) (by omega) _ _ _ hw (lv_sub hl [1, 2, 3, 0] rfl)
        refine q_ifeq hC 84 cI dX7_keep_77 (by decide) (fun (c11 : σ 4 h = 0) => ?_) (fun (c11 : ¬ (σ 4 h = 0)) => ?_)
        · refine lv_iconst (v := nI 0) hC.1 hC.2.1 dX7_keep_84 (by decide) ?_
          exact J85_10 _ (if_neg (fun q => q c11)).symm _ _ _ hw (lv_sub hl [0, 1, 2, 3] rfl)
        · refine lv_iconst (v := nI 1) hC.1 hC.2.1 dX7_keep_80 (by decide) ?_
          refine lv_goto (tgt := 85) hC.1 hC.2.1 dX7_keep_81 (by decide) ?_
          exact J85_10 _ (if_pos c11).symm _ _ _ hw (lv_sub hl [0, 1, 2, 3] rfl)
  rw [← upc_0 (σ 4) (va_cpy (σ 15) (upd (upd (upd (σ 32) 0 (σ 0 0)) 1 (σ 0 1)) 2 (σ 0 2)) 0 3 3)] at hw
  exact L58_0 _ 0 (by omega) (Nat.lt_succ_self _) _ _ _ hw (lv_sub hl [3, 2, 1, 0] rfl)
set_option maxHeartbeats 4000000 in
set_option maxRecDepth 100000 in
theorem tX7_keep_k3 (l : Launch) (E : EV) (a : Nat → Nat) (σ : St) (kp : Nat) (hnx : σ 0 3 = nI 3) (hkp : σ 0 4 = nI kp) (hk30 : kp ≤ 30) : MV l E (XW E a) yX7_keep (Cond.code yX7_keep cX7_keep 4 none) ({ frames := 1, cells := 0, slots := 0, locals := 24 }) [.ref (a 68)] σ (fun u_ => u_ = sr (sr σ 33 (kpr σ (σ 33))) 0 (upd (upd (σ 0) 3 (nI (if 3 ≠ 29 then 3 + 1 else 0))) 4 (nI (if kp ≠ 30 then kp + 1 else kp)))) := by
  refine MV.mk (by decide +kernel) (Nat.le_of_ble_eq_true rfl) ?_
  intro p e s m args below meth c ls A Q hret hC hw hl
  have hC : Cxt E p s m args meth c cX7_keep 4 none RX7 A := hC
  have hl : lv_has ls 4 [(0, .ref (a 68))] := hl
  refine lv_aload_n hC.1 hC.2.1 dX7_keep_0 rfl (lv_at hl 0 rfl) ?_
  refine gf_X7_13 hC hw dX7_keep_1 ?_
  refine lv_aload_n hC.1 hC.2.1 dX7_keep_4 rfl (lv_at hl 0 rfl) ?_
  refine gf_X7_28 (v := nI 3) hC hw hnx dX7_keep_5 ?_
  refine q_aald hC hw (i := 3) (by decide) dX7_keep_8 ?_
  refine lv_astore_n (lv' := [(1, .ref (a 33)), (0, .ref (a 68))]) hC.1 hC.2.1 dX7_keep_9 rfl hl (by decide) rfl (fun ls hl => ?_)
  refine lv_aload_n hC.1 hC.2.1 dX7_keep_10 rfl (lv_at hl 0 rfl) ?_
  refine lv_iconst (v := nI 0) hC.1 hC.2.1 dX7_keep_11 (by decide) ?_
  refine lv_aload_n hC.1 hC.2.1 dX7_keep_12 rfl (lv_at hl 1 rfl) ?_
  refine gf_X7_16 hC hw dX7_keep_13 ?_
  refine gf_X7_32 (v := σ 0 0) hC hw rfl dX7_keep_16 ?_
  refine q_ast (Wf := XW E a) 43 rfl (by decide) (XW_s33 _) hC hw (by omega) dX7_keep_19 (fun H locs hw => ?_)
  have hw : Wst E (XW E a) (sr σ 33 (upd (σ 33) 0 (σ 0 0))) A s.heap H locs := hw
  refine lv_aload_n hC.1 hC.2.1 dX7_keep_20 rfl (lv_at hl 0 rfl) ?_
  refine lv_iconst (v := nI 1) hC.1 hC.2.1 dX7_keep_21 (by decide) ?_
  refine lv_aload_n hC.1 hC.2.1 dX7_keep_22 rfl (lv_at hl 1 rfl) ?_
  refine gf_X7_20 hC hw dX7_keep_23 ?_
  refine gf_X7_37 (v := σ 0 1) hC hw rfl dX7_keep_26 ?_
  refine q_ast (Wf := XW E a) 43 rfl (by decide) (XW_s33 _) hC hw (by omega) dX7_keep_29 (fun H locs hw => ?_)
  have hw : Wst E (XW E a) (sr (sr σ 33 (upd (σ 33) 0 (σ 0 0))) 33 (upd (upd (σ 33) 0 (σ 0 0)) 1 (σ 0 1))) A s.heap H locs := hw
  have hst_ : sr (sr σ 33 (upd (σ 33) 0 (σ 0 0))) 33 (upd (upd (σ 33) 0 (σ 0 0)) 1 (σ 0 1)) = sr σ 33 (upd (upd (σ 33) 0 (σ 0 0)) 1 (σ 0 1)) := by
    funext j_ x_
    by_cases e0 : j_ = 0
    · subst e0
      rfl
    · by_cases e33 : j_ = 33
      · subst e33; rfl
      · simp only [sr, e0, e33, if_false]
  rw [hst_] at hw
  refine lv_aload_n hC.1 hC.2.1 dX7_keep_30 rfl (lv_at hl 0 rfl) ?_
  refine lv_iconst (v := nI 2) hC.1 hC.2.1 dX7_keep_31 (by decide) ?_
  refine lv_aload_n hC.1 hC.2.1 dX7_keep_32 rfl (lv_at hl 1 rfl) ?_
  refine gf_X7_20 hC hw dX7_keep_33 ?_
  refine gf_X7_40 (v := σ 0 2) hC hw rfl dX7_keep_36 ?_
  refine q_ast (Wf := XW E a) 43 rfl (by decide) (XW_s33 _) hC hw (by omega) dX7_keep_39 (fun H locs hw => ?_)
  have hw : Wst E (XW E a) (sr (sr σ 33 (upd (upd (σ 33) 0 (σ 0 0)) 1 (σ 0 1))) 33 (upd (upd (upd (σ 33) 0 (σ 0 0)) 1 (σ 0 1)) 2 (σ 0 2))) A s.heap H locs := hw
  have hst_ : sr (sr σ 33 (upd (upd (σ 33) 0 (σ 0 0)) 1 (σ 0 1))) 33 (upd (upd (upd (σ 33) 0 (σ 0 0)) 1 (σ 0 1)) 2 (σ 0 2)) = sr σ 33 (upd (upd (upd (σ 33) 0 (σ 0 0)) 1 (σ 0 1)) 2 (σ 0 2)) := by
    funext j_ x_
    by_cases e0 : j_ = 0
    · subst e0
      rfl
    · by_cases e33 : j_ = 33
      · subst e33; rfl
      · simp only [sr, e0, e33, if_false]
  rw [hst_] at hw
  refine lv_iconst (v := nI 3) hC.1 hC.2.1 dX7_keep_40 (by decide) ?_
  refine lv_istore_n (lv' := [(2, .int (nI 3)), (1, .ref (a 33)), (0, .ref (a 68))]) hC.1 hC.2.1 dX7_keep_41 rfl hl (by decide) rfl (fun ls hl => ?_)
  refine lv_aload_n hC.1 hC.2.1 dX7_keep_42 rfl (lv_at hl 2 rfl) ?_
  refine gf_X7_24 hC hw dX7_keep_43 ?_
  refine lv_iconst (v := nI 0) hC.1 hC.2.1 dX7_keep_46 (by decide) ?_
  refine lv_aload_n hC.1 hC.2.1 dX7_keep_47 rfl (lv_at hl 1 rfl) ?_
  refine lv_iload_n hC.1 hC.2.1 dX7_keep_48 rfl (lv_at hl 0 rfl) ?_
  refine lv_iconst (v := nI 3) hC.1 hC.2.1 dX7_keep_49 (by decide) ?_
  refine q_cpy (sp := 0) (dp := 3) (n := 3) 25 rfl 43 rfl (XW_s33 _) hC hw hl (by omega) (by omega) (by decide) (by decide) ⟨Nat.le_of_ble_eq_true rfl, Nat.le_of_ble_eq_true rfl⟩ wk2_182 dX7_keep_50 (fun H locs hw => ?_)
  have hw : Wst E (XW E a) (sr (sr σ 33 (upd (upd (upd (σ 33) 0 (σ 0 0)) 1 (σ 0 1)) 2 (σ 0 2))) 33 (va_cpy (σ 15) (upd (upd (upd (σ 33) 0 (σ 0 0)) 1 (σ 0 1)) 2 (σ 0 2)) 0 3 3)) A s.heap H locs := hw
  have hst_ : sr (sr σ 33 (upd (upd (upd (σ 33) 0 (σ 0 0)) 1 (σ 0 1)) 2 (σ 0 2))) 33 (va_cpy (σ 15) (upd (upd (upd (σ 33) 0 (σ 0 0)) 1 (σ 0 1)) 2 (σ 0 2)) 0 3 3) = sr σ 33 (va_cpy (σ 15) (upd (upd (upd (σ 33) 0 (σ 0 0)) 1 (σ 0 1)) 2 (σ 0 2)) 0 3 3) := by
    funext j_ x_
    by_cases e0 : j_ = 0
    · subst e0
      rfl
    · by_cases e33 : j_ = 33
      · subst e33; rfl
      · simp only [sr, e0, e33, if_false]
  rw [hst_] at hw
  refine lv_iinc (v := nI (3 + 3)) (lv' := [(2, .int (nI (3 + 3))), (1, .ref (a 33)), (0, .ref (a 68))]) hC.1 hC.2.1 dX7_keep_53 hl (k := 0) rfl (nI_add _ _) (by decide) rfl (fun ls hl => ?_)
  refine lv_iconst (v := nI 0) hC.1 hC.2.1 dX7_keep_56 (by decide) ?_
  refine lv_istore_n (lv' := [(3, .int (nI 0)), (2, .int (nI (3 + 3))), (1, .ref (a 33)), (0, .ref (a 68))]) hC.1 hC.2.1 dX7_keep_57 rfl hl (by decide) rfl (fun ls hl => ?_)
  have L58_0 : ∀ (n : Nat), ∀ (h : Nat), (h ≤ 10) → (10 - h) < n → ∀ (H : Heap) (locs : List Loc) (ls : Array Slot), Wst E (XW E a) (sr σ 33 (upc (σ 4) h (va_cpy (σ 15) (upd (upd (upd (σ 33) 0 (σ 0 0)) 1 (σ 0 1)) 2 (σ 0 2)) 0 3 3))) A s.heap H locs → lv_has ls 4 [(0, .ref (a 68)), (1, .ref (a 33)), (2, .int (nI (3 + 3))), (3, .int (nI h))] → W p l e ({ frames := 1, cells := 0, slots := 0, locals := 24 }) s m args below meth c H locs 0 0 Q (F0 m 58 ls []) := by
    intro n
    induction n with
    | zero => intro h hh hn; exact absurd hn (Nat.not_lt_zero _)
    | succ n ih58 =>
      intro h hh hn58 H locs ls hw hl
      refine lv_iload_n hC.1 hC.2.1 dX7_keep_58 rfl (lv_at hl 3 rfl) ?_
      refine lv_bipush (v := nI 10) hC.1 hC.2.1 dX7_keep_59 (by decide) ?_
      refine q_cmpge hC 92 (cNle (by omega) (by omega)) dX7_keep_61 (by decide) (fun (c2 : 10 ≤ h) => ?_) (fun (c2 : h < 10) => ?_)
      · have hh9 : h = 10 := by omega
        rw [hh9] at hw
        refine lv_iinc (v := nI (3 + 3 + 10)) (lv' := [(2, .int (nI (3 + 3 + 10))), (0, .ref (a 68)), (1, .ref (a 33)), (3, .int (nI h))]) hC.1 hC.2.1 dX7_keep_92 hl (k := 2) rfl (nI_add _ _) (by decide) rfl (fun ls hl => ?_)
        refine lv_aload_n hC.1 hC.2.1 dX7_keep_95 rfl (lv_at hl 1 rfl) ?_
        refine gf_X7_20 hC hw dX7_keep_96 ?_
        refine gf_X7_53 hC hw dX7_keep_99 ?_
        refine lv_iconst (v := nI 0) hC.1 hC.2.1 dX7_keep_102 (by decide) ?_
        refine lv_aload_n hC.1 hC.2.1 dX7_keep_103 rfl (lv_at hl 2 rfl) ?_
        refine lv_iload_n hC.1 hC.2.1 dX7_keep_104 rfl (lv_at hl 0 rfl) ?_
        refine lv_bipush (v := nI 24) hC.1 hC.2.1 dX7_keep_105 (by decide) ?_
        refine q_cpy (sp := 0) (dp := (3 + 3 + 10)) (n := 24) 21 rfl 43 rfl (XW_s33 _) hC hw hl (by omega) (by omega) (by decide) (by decide) ⟨Nat.le_of_ble_eq_true rfl, Nat.le_of_ble_eq_true rfl⟩ wk2_182 dX7_keep_107 (fun H locs hw => ?_)
        have hw : Wst E (XW E a) (sr (sr σ 33 (upc (σ 4) 10 (va_cpy (σ 15) (upd (upd (upd (σ 33) 0 (σ 0 0)) 1 (σ 0 1)) 2 (σ 0 2)) 0 3 3))) 33 (va_cpy (σ 11) (upc (σ 4) 10 (va_cpy (σ 15) (upd (upd (upd (σ 33) 0 (σ 0 0)) 1 (σ 0 1)) 2 (σ 0 2)) 0 3 3)) 0 (3 + 3 + 10) 24)) A s.heap H locs := hw
        have hst_ : sr (sr σ 33 (upc (σ 4) 10 (va_cpy (σ 15) (upd (upd (upd (σ 33) 0 (σ 0 0)) 1 (σ 0 1)) 2 (σ 0 2)) 0 3 3))) 33 (va_cpy (σ 11) (upc (σ 4) 10 (va_cpy (σ 15) (upd (upd (upd (σ 33) 0 (σ 0 0)) 1 (σ 0 1)) 2 (σ 0 2)) 0 3 3)) 0 (3 + 3 + 10) 24) = sr σ 33 (va_cpy (σ 11) (upc (σ 4) 10 (va_cpy (σ 15) (upd (upd (upd (σ 33) 0 (σ 0 0)) 1 (σ 0 1)) 2 (σ 0 2)) 0 3 3)) 0 (3 + 3 + 10) 24) := by
          funext j_ x_
          by_cases e0 : j_ = 0
          · subst e0
            rfl
          · by_cases e33 : j_ = 33
            · subst e33; rfl
            · simp only [sr, e0, e33, if_false]
        rw [hst_] at hw
        refine lv_aload_n hC.1 hC.2.1 dX7_keep_110 rfl (lv_at hl 1 rfl) ?_
        refine gf_X7_20 hC hw dX7_keep_111 ?_
        refine gf_X7_56 hC hw dX7_keep_114 ?_
        refine lv_iconst (v := nI 0) hC.1 hC.2.1 dX7_keep_117 (by decide) ?_
        refine lv_aload_n hC.1 hC.2.1 dX7_keep_118 rfl (lv_at hl 2 rfl) ?_
        refine lv_iload_n hC.1 hC.2.1 dX7_keep_119 rfl (lv_at hl 0 rfl) ?_
        refine lv_bipush (v := nI 24) hC.1 hC.2.1 dX7_keep_120 (by decide) ?_
        refine q_addN hC dX7_keep_122 ?_
        refine lv_bipush (v := nI 24) hC.1 hC.2.1 dX7_keep_123 (by decide) ?_
        refine q_cpy (sp := 0) (dp := ((3 + 3 + 10) + 24)) (n := 24) 22 rfl 43 rfl (XW_s33 _) hC hw hl (by omega) (by omega) (by decide) (by decide) ⟨Nat.le_of_ble_eq_true rfl, Nat.le_of_ble_eq_true rfl⟩ wk2_182 dX7_keep_125 (fun H locs hw => ?_)
        have hw : Wst E (XW E a) (sr (sr σ 33 (va_cpy (σ 11) (upc (σ 4) 10 (va_cpy (σ 15) (upd (upd (upd (σ 33) 0 (σ 0 0)) 1 (σ 0 1)) 2 (σ 0 2)) 0 3 3)) 0 (3 + 3 + 10) 24)) 33 (va_cpy (σ 12) (va_cpy (σ 11) (upc (σ 4) 10 (va_cpy (σ 15) (upd (upd (upd (σ 33) 0 (σ 0 0)) 1 (σ 0 1)) 2 (σ 0 2)) 0 3 3)) 0 (3 + 3 + 10) 24) 0 ((3 + 3 + 10) + 24) 24)) A s.heap H locs := hw
        have hst_ : sr (sr σ 33 (va_cpy (σ 11) (upc (σ 4) 10 (va_cpy (σ 15) (upd (upd (upd (σ 33) 0 (σ 0 0)) 1 (σ 0 1)) 2 (σ 0 2)) 0 3 3)) 0 (3 + 3 + 10) 24)) 33 (va_cpy (σ 12) (va_cpy (σ 11) (upc (σ 4) 10 (va_cpy (σ 15) (upd (upd (upd (σ 33) 0 (σ 0 0)) 1 (σ 0 1)) 2 (σ 0 2)) 0 3 3)) 0 (3 + 3 + 10) 24) 0 ((3 + 3 + 10) + 24) 24) = sr σ 33 (va_cpy (σ 12) (va_cpy (σ 11) (upc (σ 4) 10 (va_cpy (σ 15) (upd (upd (upd (σ 33) 0 (σ 0 0)) 1 (σ 0 1)) 2 (σ 0 2)) 0 3 3)) 0 (3 + 3 + 10) 24) 0 ((3 + 3 + 10) + 24) 24) := by
          funext j_ x_
          by_cases e0 : j_ = 0
          · subst e0
            rfl
          · by_cases e33 : j_ = 33
            · subst e33; rfl
            · simp only [sr, e0, e33, if_false]
        rw [hst_] at hw
        refine lv_aload_n hC.1 hC.2.1 dX7_keep_128 rfl (lv_at hl 1 rfl) ?_
        refine gf_X7_20 hC hw dX7_keep_129 ?_
        refine gf_X7_59 hC hw dX7_keep_132 ?_
        refine lv_iconst (v := nI 0) hC.1 hC.2.1 dX7_keep_135 (by decide) ?_
        refine lv_aload_n hC.1 hC.2.1 dX7_keep_136 rfl (lv_at hl 2 rfl) ?_
        refine lv_iload_n hC.1 hC.2.1 dX7_keep_137 rfl (lv_at hl 0 rfl) ?_
        refine lv_bipush (v := nI 48) hC.1 hC.2.1 dX7_keep_138 (by decide) ?_
        refine q_addN hC dX7_keep_140 ?_
        refine lv_bipush (v := nI 24) hC.1 hC.2.1 dX7_keep_141 (by decide) ?_
        refine q_cpy (sp := 0) (dp := ((3 + 3 + 10) + 48)) (n := 24) 23 rfl 43 rfl (XW_s33 _) hC hw hl (by omega) (by omega) (by decide) (by decide) ⟨Nat.le_of_ble_eq_true rfl, Nat.le_of_ble_eq_true rfl⟩ wk2_182 dX7_keep_143 (fun H locs hw => ?_)
        have hw : Wst E (XW E a) (sr (sr σ 33 (va_cpy (σ 12) (va_cpy (σ 11) (upc (σ 4) 10 (va_cpy (σ 15) (upd (upd (upd (σ 33) 0 (σ 0 0)) 1 (σ 0 1)) 2 (σ 0 2)) 0 3 3)) 0 (3 + 3 + 10) 24) 0 ((3 + 3 + 10) + 24) 24)) 33 (va_cpy (σ 13) (va_cpy (σ 12) (va_cpy (σ 11) (upc (σ 4) 10 (va_cpy (σ 15) (upd (upd (upd (σ 33) 0 (σ 0 0)) 1 (σ 0 1)) 2 (σ 0 2)) 0 3 3)) 0 (3 + 3 + 10) 24) 0 ((3 + 3 + 10) + 24) 24) 0 ((3 + 3 + 10) + 48) 24)) A s.heap H locs := hw
        have hst_ : sr (sr σ 33 (va_cpy (σ 12) (va_cpy (σ 11) (upc (σ 4) 10 (va_cpy (σ 15) (upd (upd (upd (σ 33) 0 (σ 0 0)) 1 (σ 0 1)) 2 (σ 0 2)) 0 3 3)) 0 (3 + 3 + 10) 24) 0 ((3 + 3 + 10) + 24) 24)) 33 (va_cpy (σ 13) (va_cpy (σ 12) (va_cpy (σ 11) (upc (σ 4) 10 (va_cpy (σ 15) (upd (upd (upd (σ 33) 0 (σ 0 0)) 1 (σ 0 1)) 2 (σ 0 2)) 0 3 3)) 0 (3 + 3 + 10) 24) 0 ((3 + 3 + 10) + 24) 24) 0 ((3 + 3 + 10) + 48) 24) = sr σ 33 (va_cpy (σ 13) (va_cpy (σ 12) (va_cpy (σ 11) (upc (σ 4) 10 (va_cpy (σ 15) (upd (upd (upd (σ 33) 0 (σ 0 0)) 1 (σ 0 1)) 2 (σ 0 2)) 0 3 3)) 0 (3 + 3 + 10) 24) 0 ((3 + 3 + 10) + 24) 24) 0 ((3 + 3 + 10) + 48) 24) := by
          funext j_ x_
          by_cases e0 : j_ = 0
          · subst e0
            rfl
          · by_cases e33 : j_ = 33
            · subst e33; rfl
            · simp only [sr, e0, e33, if_false]
        rw [hst_] at hw
        refine lv_aload_n hC.1 hC.2.1 dX7_keep_146 rfl (lv_at hl 1 rfl) ?_
        refine gf_X7_20 hC hw dX7_keep_147 ?_
        refine gf_X7_62 hC hw dX7_keep_150 ?_
        refine lv_iconst (v := nI 0) hC.1 hC.2.1 dX7_keep_153 (by decide) ?_
        refine lv_aload_n hC.1 hC.2.1 dX7_keep_154 rfl (lv_at hl 2 rfl) ?_
        refine lv_iload_n hC.1 hC.2.1 dX7_keep_155 rfl (lv_at hl 0 rfl) ?_
        refine lv_bipush (v := nI 72) hC.1 hC.2.1 dX7_keep_156 (by decide) ?_
        refine q_addN hC dX7_keep_158 ?_
        refine lv_bipush (v := nI 24) hC.1 hC.2.1 dX7_keep_159 (by decide) ?_
        refine q_cpy (sp := 0) (dp := ((3 + 3 + 10) + 72)) (n := 24) 24 rfl 43 rfl (XW_s33 _) hC hw hl (by omega) (by omega) (by decide) (by decide) ⟨Nat.le_of_ble_eq_true rfl, Nat.le_of_ble_eq_true rfl⟩ wk2_182 dX7_keep_161 (fun H locs hw => ?_)
        have hw : Wst E (XW E a) (sr (sr σ 33 (va_cpy (σ 13) (va_cpy (σ 12) (va_cpy (σ 11) (upc (σ 4) 10 (va_cpy (σ 15) (upd (upd (upd (σ 33) 0 (σ 0 0)) 1 (σ 0 1)) 2 (σ 0 2)) 0 3 3)) 0 (3 + 3 + 10) 24) 0 ((3 + 3 + 10) + 24) 24) 0 ((3 + 3 + 10) + 48) 24)) 33 (va_cpy (σ 14) (va_cpy (σ 13) (va_cpy (σ 12) (va_cpy (σ 11) (upc (σ 4) 10 (va_cpy (σ 15) (upd (upd (upd (σ 33) 0 (σ 0 0)) 1 (σ 0 1)) 2 (σ 0 2)) 0 3 3)) 0 (3 + 3 + 10) 24) 0 ((3 + 3 + 10) + 24) 24) 0 ((3 + 3 + 10) + 48) 24) 0 ((3 + 3 + 10) + 72) 24)) A s.heap H locs := hw
        have hst_ : sr (sr σ 33 (va_cpy (σ 13) (va_cpy (σ 12) (va_cpy (σ 11) (upc (σ 4) 10 (va_cpy (σ 15) (upd (upd (upd (σ 33) 0 (σ 0 0)) 1 (σ 0 1)) 2 (σ 0 2)) 0 3 3)) 0 (3 + 3 + 10) 24) 0 ((3 + 3 + 10) + 24) 24) 0 ((3 + 3 + 10) + 48) 24)) 33 (va_cpy (σ 14) (va_cpy (σ 13) (va_cpy (σ 12) (va_cpy (σ 11) (upc (σ 4) 10 (va_cpy (σ 15) (upd (upd (upd (σ 33) 0 (σ 0 0)) 1 (σ 0 1)) 2 (σ 0 2)) 0 3 3)) 0 (3 + 3 + 10) 24) 0 ((3 + 3 + 10) + 24) 24) 0 ((3 + 3 + 10) + 48) 24) 0 ((3 + 3 + 10) + 72) 24) = sr σ 33 (va_cpy (σ 14) (va_cpy (σ 13) (va_cpy (σ 12) (va_cpy (σ 11) (upc (σ 4) 10 (va_cpy (σ 15) (upd (upd (upd (σ 33) 0 (σ 0 0)) 1 (σ 0 1)) 2 (σ 0 2)) 0 3 3)) 0 (3 + 3 + 10) 24) 0 ((3 + 3 + 10) + 24) 24) 0 ((3 + 3 + 10) + 48) 24) 0 ((3 + 3 + 10) + 72) 24) := by
          funext j_ x_
          by_cases e0 : j_ = 0
          · subst e0
            rfl
          · by_cases e33 : j_ = 33
            · subst e33; rfl
            · simp only [sr, e0, e33, if_false]
        rw [hst_] at hw
        refine lv_aload_n hC.1 hC.2.1 dX7_keep_164 rfl (lv_at hl 1 rfl) ?_
        refine lv_aload_n hC.1 hC.2.1 dX7_keep_165 rfl (lv_at hl 1 rfl) ?_
        refine gf_X7_28 (v := nI 3) hC hw hnx dX7_keep_166 ?_
        refine lv_bipush (v := nI 29) hC.1 hC.2.1 dX7_keep_169 (by decide) ?_
        have J184_4 : ∀ (w3 : Nat), w3 = (if 3 ≠ 29 then (3 + 1) else 0) → ∀ (H : Heap) (locs : List Loc) (ls : Array Slot), Wst E (XW E a) (sr σ 33 (va_cpy (σ 14) (va_cpy (σ 13) (va_cpy (σ 12) (va_cpy (σ 11) (upc (σ 4) 10 (va_cpy (σ 15) (upd (upd (upd (σ 33) 0 (σ 0 0)) 1 (σ 0 1)) 2 (σ 0 2)) 0 3 3)) 0 (3 + 3 + 10) 24) 0 ((3 + 3 + 10) + 24) 24) 0 ((3 + 3 + 10) + 48) 24) 0 ((3 + 3 + 10) + 72) 24)) A s.heap H locs → lv_has ls 4 [(0, .ref (a 68)), (1, .ref (a 33)), (2, .int (nI (3 + 3 + 10))), (3, .int (nI h))] → W p l e ({ frames := 1, cells := 0, slots := 0, locals := 24 }) s m args below meth c H locs 0 0 Q (F0 m 184 ls [.int (nI w3), .ref (a 68)]) := by
          intro w3 e4 H locs ls hw hl
          subst e4
          refine pf_X7_28 hC hw dX7_keep_184 (fun H locs hw => ?_)
          have hw : Wst E (XW E a) (sr (sr σ 33 (va_cpy (σ 14) (va_cpy (σ 13) (va_cpy (σ 12) (va_cpy (σ 11) (upc (σ 4) 10 (va_cpy (σ 15) (upd (upd (upd (σ 33) 0 (σ 0 0)) 1 (σ 0 1)) 2 (σ 0 2)) 0 3 3)) 0 (3 + 3 + 10) 24) 0 ((3 + 3 + 10) + 24) 24) 0 ((3 + 3 + 10) + 48) 24) 0 ((3 + 3 + 10) + 72) 24)) 0 (upd (σ 0) 3 (nI (if 3 ≠ 29 then (3 + 1) else 0)))) A s.heap H locs := hw
          refine lv_aload_n hC.1 hC.2.1 dX7_keep_187 rfl (lv_at hl 0 rfl) ?_
          refine lv_aload_n hC.1 hC.2.1 dX7_keep_188 rfl (lv_at hl 0 rfl) ?_
          refine gf_X7_65 (v := nI kp) hC hw hkp dX7_keep_189 ?_
          refine lv_bipush (v := nI 30) hC.1 hC.2.1 dX7_keep_192 (by decide) ?_
          have J210_6 : ∀ (w5 : Nat), w5 = (if kp ≠ 30 then (kp + 1) else kp) → ∀ (H : Heap) (locs : List Loc) (ls : Array Slot), Wst E (XW E a) (sr (sr σ 33 (va_cpy (σ 14) (va_cpy (σ 13) (va_cpy (σ 12) (va_cpy (σ 11) (upc (σ 4) 10 (va_cpy (σ 15) (upd (upd (upd (σ 33) 0 (σ 0 0)) 1 (σ 0 1)) 2 (σ 0 2)) 0 3 3)) 0 (3 + 3 + 10) 24) 0 ((3 + 3 + 10) + 24) 24) 0 ((3 + 3 + 10) + 48) 24) 0 ((3 + 3 + 10) + 72) 24)) 0 (upd (σ 0) 3 (nI (if 3 ≠ 29 then (3 + 1) else 0)))) A s.heap H locs → lv_has ls 4 [(0, .ref (a 68)), (1, .ref (a 33)), (2, .int (nI (3 + 3 + 10))), (3, .int (nI h))] → W p l e ({ frames := 1, cells := 0, slots := 0, locals := 24 }) s m args below meth c H locs 0 0 Q (F0 m 210 ls [.int (nI w5), .ref (a 68)]) := by
            intro w5 e6 H locs ls hw hl
            subst e6
            refine pf_X7_65 hC hw dX7_keep_210 (fun H locs hw => ?_)
            have hw : Wst E (XW E a) (sr (sr (sr σ 33 (va_cpy (σ 14) (va_cpy (σ 13) (va_cpy (σ 12) (va_cpy (σ 11) (upc (σ 4) 10 (va_cpy (σ 15) (upd (upd (upd (σ 33) 0 (σ 0 0)) 1 (σ 0 1)) 2 (σ 0 2)) 0 3 3)) 0 (3 + 3 + 10) 24) 0 ((3 + 3 + 10) + 24) 24) 0 ((3 + 3 + 10) + 48) 24) 0 ((3 + 3 + 10) + 72) 24)) 0 (upd (σ 0) 3 (nI (if 3 ≠ 29 then (3 + 1) else 0)))) 0 (upd (upd (σ 0) 3 (nI (if 3 ≠ 29 then (3 + 1) else 0))) 4 (nI (if kp ≠ 30 then (kp + 1) else kp)))) A s.heap H locs := hw
            have hst_ : sr (sr (sr σ 33 (va_cpy (σ 14) (va_cpy (σ 13) (va_cpy (σ 12) (va_cpy (σ 11) (upc (σ 4) 10 (va_cpy (σ 15) (upd (upd (upd (σ 33) 0 (σ 0 0)) 1 (σ 0 1)) 2 (σ 0 2)) 0 3 3)) 0 (3 + 3 + 10) 24) 0 ((3 + 3 + 10) + 24) 24) 0 ((3 + 3 + 10) + 48) 24) 0 ((3 + 3 + 10) + 72) 24)) 0 (upd (σ 0) 3 (nI (if 3 ≠ 29 then (3 + 1) else 0)))) 0 (upd (upd (σ 0) 3 (nI (if 3 ≠ 29 then (3 + 1) else 0))) 4 (nI (if kp ≠ 30 then (kp + 1) else kp))) = sr (sr σ 33 (va_cpy (σ 14) (va_cpy (σ 13) (va_cpy (σ 12) (va_cpy (σ 11) (upc (σ 4) 10 (va_cpy (σ 15) (upd (upd (upd (σ 33) 0 (σ 0 0)) 1 (σ 0 1)) 2 (σ 0 2)) 0 3 3)) 0 (3 + 3 + 10) 24) 0 ((3 + 3 + 10) + 24) 24) 0 ((3 + 3 + 10) + 48) 24) 0 ((3 + 3 + 10) + 72) 24)) 0 (upd (upd (σ 0) 3 (nI (if 3 ≠ 29 then (3 + 1) else 0))) 4 (nI (if kp ≠ 30 then (kp + 1) else kp))) := by
              funext j_ x_
              by_cases e0 : j_ = 0
              · subst e0
                by_cases y3 : x_ = 3
                · subst y3; rfl
                · by_cases y4 : x_ = 4
                  · subst y4; rfl
                  · simp [sr, upd, y3, y4]
              · by_cases e33 : j_ = 33
                · subst e33; rfl
                · simp only [sr, e0, e33, if_false]
            rw [hst_] at hw
            refine hret _ _ _ _ _ hw ?_ dX7_keep_213
            exact rfl
          refine q_cmpne hC 204 (cNeq (by omega) (by omega)) dX7_keep_194 (by decide) (fun (c7 : kp ≠ 30) => ?_) (fun (c7 : kp = 30) => ?_)
          · refine lv_aload_n hC.1 hC.2.1 dX7_keep_204 rfl (lv_at hl 0 rfl) ?_
            refine gf_X7_65 (v := nI kp) hC hw hkp dX7_keep_205 ?_
            refine lv_iconst (v := nI 1) hC.1 hC.2.1 dX7_keep_208 (by decide) ?_
            refine q_addN hC dX7_keep_209 ?_
            exact J210_6 _ (by (rw [if_pos c7]) <;> rfl) _ _ _ hw (lv_sub hl [0, 1, 2, 3] rfl)
          · refine lv_aload_n hC.1 hC.2.1 dX7_keep_197 rfl (lv_at hl 0 rfl) ?_
            refine gf_X7_65 (v := nI kp) hC hw hkp dX7_keep_198 ?_
            refine lv_goto (tgt := 210) hC.1 hC.2.1 dX7_keep_201 (by decide) ?_
            exact J210_6 _ (by (rw [if_neg (fun q => q c7)]) <;> rfl) _ _ _ hw (lv_sub hl [0, 1, 2, 3] rfl)
        refine q_cmpne hC 178 (cNeq (by omega) (by omega)) dX7_keep_171 (by decide) (fun (c8 : 3 ≠ 29) => ?_) (fun (c8 : 3 = 29) => ?_)
        · refine lv_aload_n hC.1 hC.2.1 dX7_keep_178 rfl (lv_at hl 1 rfl) ?_
          refine gf_X7_28 (v := nI 3) hC hw hnx dX7_keep_179 ?_
          refine lv_iconst (v := nI 1) hC.1 hC.2.1 dX7_keep_182 (by decide) ?_
          refine q_addN hC dX7_keep_183 ?_
          exact J184_4 _ (by (rw [if_pos c8]) <;> rfl) _ _ _ hw (lv_sub hl [1, 2, 0, 3] rfl)
        · refine lv_iconst (v := nI 0) hC.1 hC.2.1 dX7_keep_174 (by decide) ?_
          refine lv_goto (tgt := 184) hC.1 hC.2.1 dX7_keep_175 (by decide) ?_
          exact J184_4 _ (by (rw [if_neg (fun q => q c8)]) <;> rfl) _ _ _ hw (lv_sub hl [1, 2, 0, 3] rfl)
      · refine lv_aload_n hC.1 hC.2.1 dX7_keep_64 rfl (lv_at hl 1 rfl) ?_
        refine lv_iload_n hC.1 hC.2.1 dX7_keep_65 rfl (lv_at hl 2 rfl) ?_
        refine lv_iload_n hC.1 hC.2.1 dX7_keep_66 rfl (lv_at hl 3 rfl) ?_
        refine q_addN hC dX7_keep_67 ?_
        refine lv_aload_n hC.1 hC.2.1 dX7_keep_68 rfl (lv_at hl 0 rfl) ?_
        refine gf_X7_16 hC hw dX7_keep_69 ?_
        refine gf_X7_49 hC hw dX7_keep_72 ?_
        refine lv_iload_n hC.1 hC.2.1 dX7_keep_75 rfl (lv_at hl 3 rfl) ?_
        refine al_X4 (v := σ 4 h) hC hw (by omega) rfl dX7_keep_76 ?_
        have J85_10 : ∀ (w9 : Int32), w9 = (if ¬ (σ 4 h = 0) then (1 : Int32) else 0) → ∀ (H : Heap) (locs : List Loc) (ls : Array Slot), Wst E (XW E a) (sr σ 33 (upc (σ 4) h (va_cpy (σ 15) (upd (upd (upd (σ 33) 0 (σ 0 0)) 1 (σ 0 1)) 2 (σ 0 2)) 0 3 3))) A s.heap H locs → lv_has ls 4 [(0, .ref (a 68)), (1, .ref (a 33)), (2, .int (nI (3 + 3))), (3, .int (nI h))] → W p l e ({ frames := 1, cells := 0, slots := 0, locals := 24 }) s m args below meth c H locs 0 0 Q (F0 m 85 ls [.int (w9), .int (nI ((3 + 3) + h)), .ref (a 33)]) := by
          intro w9 e10 H locs ls hw hl
          subst e10
          refine q_ast (Wf := XW E a) 43 rfl (by decide) (XW_s33 _) hC hw (by omega) dX7_keep_85 (fun H locs hw => ?_)
          have hw : Wst E (XW E a) (sr (sr σ 33 (upc (σ 4) h (va_cpy (σ 15) (upd (upd (upd (σ 33) 0 (σ 0 0)) 1 (σ 0 1)) 2 (σ 0 2)) 0 3 3))) 33 (upd (upc (σ 4) h (va_cpy (σ 15) (upd (upd (upd (σ 33) 0 (σ 0 0)) 1 (σ 0 1)) 2 (σ 0 2)) 0 3 3)) ((3 + 3) + h) (if ¬ (σ 4 h = 0) then (1 : Int32) else 0))) A s.heap H locs := hw
          have hst_ : sr (sr σ 33 (upc (σ 4) h (va_cpy (σ 15) (upd (upd (upd (σ 33) 0 (σ 0 0)) 1 (σ 0 1)) 2 (σ 0 2)) 0 3 3))) 33 (upd (upc (σ 4) h (va_cpy (σ 15) (upd (upd (upd (σ 33) 0 (σ 0 0)) 1 (σ 0 1)) 2 (σ 0 2)) 0 3 3)) ((3 + 3) + h) (if ¬ (σ 4 h = 0) then (1 : Int32) else 0)) = sr σ 33 (upd (upc (σ 4) h (va_cpy (σ 15) (upd (upd (upd (σ 33) 0 (σ 0 0)) 1 (σ 0 1)) 2 (σ 0 2)) 0 3 3)) ((3 + 3) + h) (if ¬ (σ 4 h = 0) then (1 : Int32) else 0)) := by
            funext j_ x_
            by_cases e0 : j_ = 0
            · subst e0
              rfl
            · by_cases e33 : j_ = 33
              · subst e33; rfl
              · simp only [sr, e0, e33, if_false]
          rw [hst_] at hw
          refine lv_iinc (v := nI (h + 1)) (lv' := [(3, .int (nI (h + 1))), (0, .ref (a 68)), (1, .ref (a 33)), (2, .int (nI (3 + 3)))]) hC.1 hC.2.1 dX7_keep_86 hl (k := 3) rfl (nI_add _ _) (by decide) rfl (fun ls hl => ?_)
          refine lv_goto (tgt := 58) hC.1 hC.2.1 dX7_keep_89 (by decide) ?_
          rw [upc_s] at hw
          exact ih58 (h + 1) (by omega) (by omega) _ _ _ hw (lv_sub hl [1, 2, 3, 0] rfl)
        refine q_ifeq hC 84 cI dX7_keep_77 (by decide) (fun (c11 : σ 4 h = 0) => ?_) (fun (c11 : ¬ (σ 4 h = 0)) => ?_)
        · refine lv_iconst (v := nI 0) hC.1 hC.2.1 dX7_keep_84 (by decide) ?_
          exact J85_10 _ (if_neg (fun q => q c11)).symm _ _ _ hw (lv_sub hl [0, 1, 2, 3] rfl)
        · refine lv_iconst (v := nI 1) hC.1 hC.2.1 dX7_keep_80 (by decide) ?_
          refine lv_goto (tgt := 85) hC.1 hC.2.1 dX7_keep_81 (by decide) ?_
          exact J85_10 _ (if_pos c11).symm _ _ _ hw (lv_sub hl [0, 1, 2, 3] rfl)
  rw [← upc_0 (σ 4) (va_cpy (σ 15) (upd (upd (upd (σ 33) 0 (σ 0 0)) 1 (σ 0 1)) 2 (σ 0 2)) 0 3 3)] at hw
  exact L58_0 _ 0 (by omega) (Nat.lt_succ_self _) _ _ _ hw (lv_sub hl [3, 2, 1, 0] rfl)
set_option maxHeartbeats 4000000 in
set_option maxRecDepth 100000 in
theorem tX7_keep_k4 (l : Launch) (E : EV) (a : Nat → Nat) (σ : St) (kp : Nat) (hnx : σ 0 3 = nI 4) (hkp : σ 0 4 = nI kp) (hk30 : kp ≤ 30) : MV l E (XW E a) yX7_keep (Cond.code yX7_keep cX7_keep 4 none) ({ frames := 1, cells := 0, slots := 0, locals := 24 }) [.ref (a 68)] σ (fun u_ => u_ = sr (sr σ 34 (kpr σ (σ 34))) 0 (upd (upd (σ 0) 3 (nI (if 4 ≠ 29 then 4 + 1 else 0))) 4 (nI (if kp ≠ 30 then kp + 1 else kp)))) := by
  refine MV.mk (by decide +kernel) (Nat.le_of_ble_eq_true rfl) ?_
  intro p e s m args below meth c ls A Q hret hC hw hl
  have hC : Cxt E p s m args meth c cX7_keep 4 none RX7 A := hC
  have hl : lv_has ls 4 [(0, .ref (a 68))] := hl
  refine lv_aload_n hC.1 hC.2.1 dX7_keep_0 rfl (lv_at hl 0 rfl) ?_
  refine gf_X7_13 hC hw dX7_keep_1 ?_
  refine lv_aload_n hC.1 hC.2.1 dX7_keep_4 rfl (lv_at hl 0 rfl) ?_
  refine gf_X7_28 (v := nI 4) hC hw hnx dX7_keep_5 ?_
  refine q_aald hC hw (i := 4) (by decide) dX7_keep_8 ?_
  refine lv_astore_n (lv' := [(1, .ref (a 34)), (0, .ref (a 68))]) hC.1 hC.2.1 dX7_keep_9 rfl hl (by decide) rfl (fun ls hl => ?_)
  refine lv_aload_n hC.1 hC.2.1 dX7_keep_10 rfl (lv_at hl 0 rfl) ?_
  refine lv_iconst (v := nI 0) hC.1 hC.2.1 dX7_keep_11 (by decide) ?_
  refine lv_aload_n hC.1 hC.2.1 dX7_keep_12 rfl (lv_at hl 1 rfl) ?_
  refine gf_X7_16 hC hw dX7_keep_13 ?_
  refine gf_X7_32 (v := σ 0 0) hC hw rfl dX7_keep_16 ?_
  refine q_ast (Wf := XW E a) 44 rfl (by decide) (XW_s34 _) hC hw (by omega) dX7_keep_19 (fun H locs hw => ?_)
  have hw : Wst E (XW E a) (sr σ 34 (upd (σ 34) 0 (σ 0 0))) A s.heap H locs := hw
  refine lv_aload_n hC.1 hC.2.1 dX7_keep_20 rfl (lv_at hl 0 rfl) ?_
  refine lv_iconst (v := nI 1) hC.1 hC.2.1 dX7_keep_21 (by decide) ?_
  refine lv_aload_n hC.1 hC.2.1 dX7_keep_22 rfl (lv_at hl 1 rfl) ?_
  refine gf_X7_20 hC hw dX7_keep_23 ?_
  refine gf_X7_37 (v := σ 0 1) hC hw rfl dX7_keep_26 ?_
  refine q_ast (Wf := XW E a) 44 rfl (by decide) (XW_s34 _) hC hw (by omega) dX7_keep_29 (fun H locs hw => ?_)
  have hw : Wst E (XW E a) (sr (sr σ 34 (upd (σ 34) 0 (σ 0 0))) 34 (upd (upd (σ 34) 0 (σ 0 0)) 1 (σ 0 1))) A s.heap H locs := hw
  have hst_ : sr (sr σ 34 (upd (σ 34) 0 (σ 0 0))) 34 (upd (upd (σ 34) 0 (σ 0 0)) 1 (σ 0 1)) = sr σ 34 (upd (upd (σ 34) 0 (σ 0 0)) 1 (σ 0 1)) := by
    funext j_ x_
    by_cases e0 : j_ = 0
    · subst e0
      rfl
    · by_cases e34 : j_ = 34
      · subst e34; rfl
      · simp only [sr, e0, e34, if_false]
  rw [hst_] at hw
  refine lv_aload_n hC.1 hC.2.1 dX7_keep_30 rfl (lv_at hl 0 rfl) ?_
  refine lv_iconst (v := nI 2) hC.1 hC.2.1 dX7_keep_31 (by decide) ?_
  refine lv_aload_n hC.1 hC.2.1 dX7_keep_32 rfl (lv_at hl 1 rfl) ?_
  refine gf_X7_20 hC hw dX7_keep_33 ?_
  refine gf_X7_40 (v := σ 0 2) hC hw rfl dX7_keep_36 ?_
  refine q_ast (Wf := XW E a) 44 rfl (by decide) (XW_s34 _) hC hw (by omega) dX7_keep_39 (fun H locs hw => ?_)
  have hw : Wst E (XW E a) (sr (sr σ 34 (upd (upd (σ 34) 0 (σ 0 0)) 1 (σ 0 1))) 34 (upd (upd (upd (σ 34) 0 (σ 0 0)) 1 (σ 0 1)) 2 (σ 0 2))) A s.heap H locs := hw
  have hst_ : sr (sr σ 34 (upd (upd (σ 34) 0 (σ 0 0)) 1 (σ 0 1))) 34 (upd (upd (upd (σ 34) 0 (σ 0 0)) 1 (σ 0 1)) 2 (σ 0 2)) = sr σ 34 (upd (upd (upd (σ 34) 0 (σ 0 0)) 1 (σ 0 1)) 2 (σ 0 2)) := by
    funext j_ x_
    by_cases e0 : j_ = 0
    · subst e0
      rfl
    · by_cases e34 : j_ = 34
      · subst e34; rfl
      · simp only [sr, e0, e34, if_false]
  rw [hst_] at hw
  refine lv_iconst (v := nI 3) hC.1 hC.2.1 dX7_keep_40 (by decide) ?_
  refine lv_istore_n (lv' := [(2, .int (nI 3)), (1, .ref (a 34)), (0, .ref (a 68))]) hC.1 hC.2.1 dX7_keep_41 rfl hl (by decide) rfl (fun ls hl => ?_)
  refine lv_aload_n hC.1 hC.2.1 dX7_keep_42 rfl (lv_at hl 2 rfl) ?_
  refine gf_X7_24 hC hw dX7_keep_43 ?_
  refine lv_iconst (v := nI 0) hC.1 hC.2.1 dX7_keep_46 (by decide) ?_
  refine lv_aload_n hC.1 hC.2.1 dX7_keep_47 rfl (lv_at hl 1 rfl) ?_
  refine lv_iload_n hC.1 hC.2.1 dX7_keep_48 rfl (lv_at hl 0 rfl) ?_
  refine lv_iconst (v := nI 3) hC.1 hC.2.1 dX7_keep_49 (by decide) ?_
  refine q_cpy (sp := 0) (dp := 3) (n := 3) 25 rfl 44 rfl (XW_s34 _) hC hw hl (by omega) (by omega) (by decide) (by decide) ⟨Nat.le_of_ble_eq_true rfl, Nat.le_of_ble_eq_true rfl⟩ wk2_182 dX7_keep_50 (fun H locs hw => ?_)
  have hw : Wst E (XW E a) (sr (sr σ 34 (upd (upd (upd (σ 34) 0 (σ 0 0)) 1 (σ 0 1)) 2 (σ 0 2))) 34 (va_cpy (σ 15) (upd (upd (upd (σ 34) 0 (σ 0 0)) 1 (σ 0 1)) 2 (σ 0 2)) 0 3 3)) A s.heap H locs := hw
  have hst_ : sr (sr σ 34 (upd (upd (upd (σ 34) 0 (σ 0 0)) 1 (σ 0 1)) 2 (σ 0 2))) 34 (va_cpy (σ 15) (upd (upd (upd (σ 34) 0 (σ 0 0)) 1 (σ 0 1)) 2 (σ 0 2)) 0 3 3) = sr σ 34 (va_cpy (σ 15) (upd (upd (upd (σ 34) 0 (σ 0 0)) 1 (σ 0 1)) 2 (σ 0 2)) 0 3 3) := by
    funext j_ x_
    by_cases e0 : j_ = 0
    · subst e0
      rfl
    · by_cases e34 : j_ = 34
      · subst e34; rfl
      · simp only [sr, e0, e34, if_false]
  rw [hst_] at hw
  refine lv_iinc (v := nI (3 + 3)) (lv' := [(2, .int (nI (3 + 3))), (1, .ref (a 34)), (0, .ref (a 68))]) hC.1 hC.2.1 dX7_keep_53 hl (k := 0) rfl (nI_add _ _) (by decide) rfl (fun ls hl => ?_)
  refine lv_iconst (v := nI 0) hC.1 hC.2.1 dX7_keep_56 (by decide) ?_
  refine lv_istore_n (lv' := [(3, .int (nI 0)), (2, .int (nI (3 + 3))), (1, .ref (a 34)), (0, .ref (a 68))]) hC.1 hC.2.1 dX7_keep_57 rfl hl (by decide) rfl (fun ls hl => ?_)
  have L58_0 : ∀ (n : Nat), ∀ (h : Nat), (h ≤ 10) → (10 - h) < n → ∀ (H : Heap) (locs : List Loc) (ls : Array Slot), Wst E (XW E a) (sr σ 34 (upc (σ 4) h (va_cpy (σ 15) (upd (upd (upd (σ 34) 0 (σ 0 0)) 1 (σ 0 1)) 2 (σ 0 2)) 0 3 3))) A s.heap H locs → lv_has ls 4 [(0, .ref (a 68)), (1, .ref (a 34)), (2, .int (nI (3 + 3))), (3, .int (nI h))] → W p l e ({ frames := 1, cells := 0, slots := 0, locals := 24 }) s m args below meth c H locs 0 0 Q (F0 m 58 ls []) := by
    intro n
    induction n with
    | zero => intro h hh hn; exact absurd hn (Nat.not_lt_zero _)
    | succ n ih58 =>
      intro h hh hn58 H locs ls hw hl
      refine lv_iload_n hC.1 hC.2.1 dX7_keep_58 rfl (lv_at hl 3 rfl) ?_
      refine lv_bipush (v := nI 10) hC.1 hC.2.1 dX7_keep_59 (by decide) ?_
      refine q_cmpge hC 92 (cNle (by omega) (by omega)) dX7_keep_61 (by decide) (fun (c2 : 10 ≤ h) => ?_) (fun (c2 : h < 10) => ?_)
      · have hh9 : h = 10 := by omega
        rw [hh9] at hw
        refine lv_iinc (v := nI (3 + 3 + 10)) (lv' := [(2, .int (nI (3 + 3 + 10))), (0, .ref (a 68)), (1, .ref (a 34)), (3, .int (nI h))]) hC.1 hC.2.1 dX7_keep_92 hl (k := 2) rfl (nI_add _ _) (by decide) rfl (fun ls hl => ?_)
        refine lv_aload_n hC.1 hC.2.1 dX7_keep_95 rfl (lv_at hl 1 rfl) ?_
        refine gf_X7_20 hC hw dX7_keep_96 ?_
        refine gf_X7_53 hC hw dX7_keep_99 ?_
        refine lv_iconst (v := nI 0) hC.1 hC.2.1 dX7_keep_102 (by decide) ?_
        refine lv_aload_n hC.1 hC.2.1 dX7_keep_103 rfl (lv_at hl 2 rfl) ?_
        refine lv_iload_n hC.1 hC.2.1 dX7_keep_104 rfl (lv_at hl 0 rfl) ?_
        refine lv_bipush (v := nI 24) hC.1 hC.2.1 dX7_keep_105 (by decide) ?_
        refine q_cpy (sp := 0) (dp := (3 + 3 + 10)) (n := 24) 21 rfl 44 rfl (XW_s34 _) hC hw hl (by omega) (by omega) (by decide) (by decide) ⟨Nat.le_of_ble_eq_true rfl, Nat.le_of_ble_eq_true rfl⟩ wk2_182 dX7_keep_107 (fun H locs hw => ?_)
        have hw : Wst E (XW E a) (sr (sr σ 34 (upc (σ 4) 10 (va_cpy (σ 15) (upd (upd (upd (σ 34) 0 (σ 0 0)) 1 (σ 0 1)) 2 (σ 0 2)) 0 3 3))) 34 (va_cpy (σ 11) (upc (σ 4) 10 (va_cpy (σ 15) (upd (upd (upd (σ 34) 0 (σ 0 0)) 1 (σ 0 1)) 2 (σ 0 2)) 0 3 3)) 0 (3 + 3 + 10) 24)) A s.heap H locs := hw
        have hst_ : sr (sr σ 34 (upc (σ 4) 10 (va_cpy (σ 15) (upd (upd (upd (σ 34) 0 (σ 0 0)) 1 (σ 0 1)) 2 (σ 0 2)) 0 3 3))) 34 (va_cpy (σ 11) (upc (σ 4) 10 (va_cpy (σ 15) (upd (upd (upd (σ 34) 0 (σ 0 0)) 1 (σ 0 1)) 2 (σ 0 2)) 0 3 3)) 0 (3 + 3 + 10) 24) = sr σ 34 (va_cpy (σ 11) (upc (σ 4) 10 (va_cpy (σ 15) (upd (upd (upd (σ 34) 0 (σ 0 0)) 1 (σ 0 1)) 2 (σ 0 2)) 0 3 3)) 0 (3 + 3 + 10) 24) := by
          funext j_ x_
          by_cases e0 : j_ = 0
          · subst e0
            rfl
          · by_cases e34 : j_ = 34
            · subst e34; rfl
            · simp only [sr, e0, e34, if_false]
        rw [hst_] at hw
        refine lv_aload_n hC.1 hC.2.1 dX7_keep_110 rfl (lv_at hl 1 rfl) ?_
        refine gf_X7_20 hC hw dX7_keep_111 ?_
        refine gf_X7_56 hC hw dX7_keep_114 ?_
        refine lv_iconst (v := nI 0) hC.1 hC.2.1 dX7_keep_117 (by decide) ?_
        refine lv_aload_n hC.1 hC.2.1 dX7_keep_118 rfl (lv_at hl 2 rfl) ?_
        refine lv_iload_n hC.1 hC.2.1 dX7_keep_119 rfl (lv_at hl 0 rfl) ?_
        refine lv_bipush (v := nI 24) hC.1 hC.2.1 dX7_keep_120 (by decide) ?_
        refine q_addN hC dX7_keep_122 ?_
        refine lv_bipush (v := nI 24) hC.1 hC.2.1 dX7_keep_123 (by decide) ?_
        refine q_cpy (sp := 0) (dp := ((3 + 3 + 10) + 24)) (n := 24) 22 rfl 44 rfl (XW_s34 _) hC hw hl (by omega) (by omega) (by decide) (by decide) ⟨Nat.le_of_ble_eq_true rfl, Nat.le_of_ble_eq_true rfl⟩ wk2_182 dX7_keep_125 (fun H locs hw => ?_)
        have hw : Wst E (XW E a) (sr (sr σ 34 (va_cpy (σ 11) (upc (σ 4) 10 (va_cpy (σ 15) (upd (upd (upd (σ 34) 0 (σ 0 0)) 1 (σ 0 1)) 2 (σ 0 2)) 0 3 3)) 0 (3 + 3 + 10) 24)) 34 (va_cpy (σ 12) (va_cpy (σ 11) (upc (σ 4) 10 (va_cpy (σ 15) (upd (upd (upd (σ 34) 0 (σ 0 0)) 1 (σ 0 1)) 2 (σ 0 2)) 0 3 3)) 0 (3 + 3 + 10) 24) 0 ((3 + 3 + 10) + 24) 24)) A s.heap H locs := hw
        have hst_ : sr (sr σ 34 (va_cpy (σ 11) (upc (σ 4) 10 (va_cpy (σ 15) (upd (upd (upd (σ 34) 0 (σ 0 0)) 1 (σ 0 1)) 2 (σ 0 2)) 0 3 3)) 0 (3 + 3 + 10) 24)) 34 (va_cpy (σ 12) (va_cpy (σ 11) (upc (σ 4) 10 (va_cpy (σ 15) (upd (upd (upd (σ 34) 0 (σ 0 0)) 1 (σ 0 1)) 2 (σ 0 2)) 0 3 3)) 0 (3 + 3 + 10) 24) 0 ((3 + 3 + 10) + 24) 24) = sr σ 34 (va_cpy (σ 12) (va_cpy (σ 11) (upc (σ 4) 10 (va_cpy (σ 15) (upd (upd (upd (σ 34) 0 (σ 0 0)) 1 (σ 0 1)) 2 (σ 0 2)) 0 3 3)) 0 (3 + 3 + 10) 24) 0 ((3 + 3 + 10) + 24) 24) := by
          funext j_ x_
          by_cases e0 : j_ = 0
          · subst e0
            rfl
          · by_cases e34 : j_ = 34
            · subst e34; rfl
            · simp only [sr, e0, e34, if_false]
        rw [hst_] at hw
        refine lv_aload_n hC.1 hC.2.1 dX7_keep_128 rfl (lv_at hl 1 rfl) ?_
        refine gf_X7_20 hC hw dX7_keep_129 ?_
        refine gf_X7_59 hC hw dX7_keep_132 ?_
        refine lv_iconst (v := nI 0) hC.1 hC.2.1 dX7_keep_135 (by decide) ?_
        refine lv_aload_n hC.1 hC.2.1 dX7_keep_136 rfl (lv_at hl 2 rfl) ?_
        refine lv_iload_n hC.1 hC.2.1 dX7_keep_137 rfl (lv_at hl 0 rfl) ?_
        refine lv_bipush (v := nI 48) hC.1 hC.2.1 dX7_keep_138 (by decide) ?_
        refine q_addN hC dX7_keep_140 ?_
        refine lv_bipush (v := nI 24) hC.1 hC.2.1 dX7_keep_141 (by decide) ?_
        refine q_cpy (sp := 0) (dp := ((3 + 3 + 10) + 48)) (n := 24) 23 rfl 44 rfl (XW_s34 _) hC hw hl (by omega) (by omega) (by decide) (by decide) ⟨Nat.le_of_ble_eq_true rfl, Nat.le_of_ble_eq_true rfl⟩ wk2_182 dX7_keep_143 (fun H locs hw => ?_)
        have hw : Wst E (XW E a) (sr (sr σ 34 (va_cpy (σ 12) (va_cpy (σ 11) (upc (σ 4) 10 (va_cpy (σ 15) (upd (upd (upd (σ 34) 0 (σ 0 0)) 1 (σ 0 1)) 2 (σ 0 2)) 0 3 3)) 0 (3 + 3 + 10) 24) 0 ((3 + 3 + 10) + 24) 24)) 34 (va_cpy (σ 13) (va_cpy (σ 12) (va_cpy (σ 11) (upc (σ 4) 10 (va_cpy (σ 15) (upd (upd (upd (σ 34) 0 (σ 0 0)) 1 (σ 0 1)) 2 (σ 0 2)) 0 3 3)) 0 (3 + 3 + 10) 24) 0 ((3 + 3 + 10) + 24) 24) 0 ((3 + 3 + 10) + 48) 24)) A s.heap H locs := hw
        have hst_ : sr (sr σ 34 (va_cpy (σ 12) (va_cpy (σ 11) (upc (σ 4) 10 (va_cpy (σ 15) (upd (upd (upd (σ 34) 0 (σ 0 0)) 1 (σ 0 1)) 2 (σ 0 2)) 0 3 3)) 0 (3 + 3 + 10) 24) 0 ((3 + 3 + 10) + 24) 24)) 34 (va_cpy (σ 13) (va_cpy (σ 12) (va_cpy (σ 11) (upc (σ 4) 10 (va_cpy (σ 15) (upd (upd (upd (σ 34) 0 (σ 0 0)) 1 (σ 0 1)) 2 (σ 0 2)) 0 3 3)) 0 (3 + 3 + 10) 24) 0 ((3 + 3 + 10) + 24) 24) 0 ((3 + 3 + 10) + 48) 24) = sr σ 34 (va_cpy (σ 13) (va_cpy (σ 12) (va_cpy (σ 11) (upc (σ 4) 10 (va_cpy (σ 15) (upd (upd (upd (σ 34) 0 (σ 0 0)) 1 (σ 0 1)) 2 (σ 0 2)) 0 3 3)) 0 (3 + 3 + 10) 24) 0 ((3 + 3 + 10) + 24) 24) 0 ((3 + 3 + 10) + 48) 24) := by
          funext j_ x_
          by_cases e0 : j_ = 0
          · subst e0
            rfl
          · by_cases e34 : j_ = 34
            · subst e34; rfl
            · simp only [sr, e0, e34, if_false]
        rw [hst_] at hw
        refine lv_aload_n hC.1 hC.2.1 dX7_keep_146 rfl (lv_at hl 1 rfl) ?_
        refine gf_X7_20 hC hw dX7_keep_147 ?_
        refine gf_X7_62 hC hw dX7_keep_150 ?_
        refine lv_iconst (v := nI 0) hC.1 hC.2.1 dX7_keep_153 (by decide) ?_
        refine lv_aload_n hC.1 hC.2.1 dX7_keep_154 rfl (lv_at hl 2 rfl) ?_
        refine lv_iload_n hC.1 hC.2.1 dX7_keep_155 rfl (lv_at hl 0 rfl) ?_
        refine lv_bipush (v := nI 72) hC.1 hC.2.1 dX7_keep_156 (by decide) ?_
        refine q_addN hC dX7_keep_158 ?_
        refine lv_bipush (v := nI 24) hC.1 hC.2.1 dX7_keep_159 (by decide) ?_
        refine q_cpy (sp := 0) (dp := ((3 + 3 + 10) + 72)) (n := 24) 24 rfl 44 rfl (XW_s34 _) hC hw hl (by omega) (by omega) (by decide) (by decide) ⟨Nat.le_of_ble_eq_true rfl, Nat.le_of_ble_eq_true rfl⟩ wk2_182 dX7_keep_161 (fun H locs hw => ?_)
        have hw : Wst E (XW E a) (sr (sr σ 34 (va_cpy (σ 13) (va_cpy (σ 12) (va_cpy (σ 11) (upc (σ 4) 10 (va_cpy (σ 15) (upd (upd (upd (σ 34) 0 (σ 0 0)) 1 (σ 0 1)) 2 (σ 0 2)) 0 3 3)) 0 (3 + 3 + 10) 24) 0 ((3 + 3 + 10) + 24) 24) 0 ((3 + 3 + 10) + 48) 24)) 34 (va_cpy (σ 14) (va_cpy (σ 13) (va_cpy (σ 12) (va_cpy (σ 11) (upc (σ 4) 10 (va_cpy (σ 15) (upd (upd (upd (σ 34) 0 (σ 0 0)) 1 (σ 0 1)) 2 (σ 0 2)) 0 3 3)) 0 (3 + 3 + 10) 24) 0 ((3 + 3 + 10) + 24) 24) 0 ((3 + 3 + 10) + 48) 24) 0 ((3 + 3 + 10) + 72) 24)) A s.heap H locs := hw
        have hst_ : sr (sr σ 34 (va_cpy (σ 13) (va_cpy (σ 12) (va_cpy (σ 11) (upc (σ 4) 10 (va_cpy (σ 15) (upd (upd (upd (σ 34) 0 (σ 0 0)) 1 (σ 0 1)) 2 (σ 0 2)) 0 3 3)) 0 (3 + 3 + 10) 24) 0 ((3 + 3 + 10) + 24) 24) 0 ((3 + 3 + 10) + 48) 24)) 34 (va_cpy (σ 14) (va_cpy (σ 13) (va_cpy (σ 12) (va_cpy (σ 11) (upc (σ 4) 10 (va_cpy (σ 15) (upd (upd (upd (σ 34) 0 (σ 0 0)) 1 (σ 0 1)) 2 (σ 0 2)) 0 3 3)) 0 (3 + 3 + 10) 24) 0 ((3 + 3 + 10) + 24) 24) 0 ((3 + 3 + 10) + 48) 24) 0 ((3 + 3 + 10) + 72) 24) = sr σ 34 (va_cpy (σ 14) (va_cpy (σ 13) (va_cpy (σ 12) (va_cpy (σ 11) (upc (σ 4) 10 (va_cpy (σ 15) (upd (upd (upd (σ 34) 0 (σ 0 0)) 1 (σ 0 1)) 2 (σ 0 2)) 0 3 3)) 0 (3 + 3 + 10) 24) 0 ((3 + 3 + 10) + 24) 24) 0 ((3 + 3 + 10) + 48) 24) 0 ((3 + 3 + 10) + 72) 24) := by
          funext j_ x_
          by_cases e0 : j_ = 0
          · subst e0
            rfl
          · by_cases e34 : j_ = 34
            · subst e34; rfl
            · simp only [sr, e0, e34, if_false]
        rw [hst_] at hw
        refine lv_aload_n hC.1 hC.2.1 dX7_keep_164 rfl (lv_at hl 1 rfl) ?_
        refine lv_aload_n hC.1 hC.2.1 dX7_keep_165 rfl (lv_at hl 1 rfl) ?_
        refine gf_X7_28 (v := nI 4) hC hw hnx dX7_keep_166 ?_
        refine lv_bipush (v := nI 29) hC.1 hC.2.1 dX7_keep_169 (by decide) ?_
        have J184_4 : ∀ (w3 : Nat), w3 = (if 4 ≠ 29 then (4 + 1) else 0) → ∀ (H : Heap) (locs : List Loc) (ls : Array Slot), Wst E (XW E a) (sr σ 34 (va_cpy (σ 14) (va_cpy (σ 13) (va_cpy (σ 12) (va_cpy (σ 11) (upc (σ 4) 10 (va_cpy (σ 15) (upd (upd (upd (σ 34) 0 (σ 0 0)) 1 (σ 0 1)) 2 (σ 0 2)) 0 3 3)) 0 (3 + 3 + 10) 24) 0 ((3 + 3 + 10) + 24) 24) 0 ((3 + 3 + 10) + 48) 24) 0 ((3 + 3 + 10) + 72) 24)) A s.heap H locs → lv_has ls 4 [(0, .ref (a 68)), (1, .ref (a 34)), (2, .int (nI (3 + 3 + 10))), (3, .int (nI h))] → W p l e ({ frames := 1, cells := 0, slots := 0, locals := 24 }) s m args below meth c H locs 0 0 Q (F0 m 184 ls [.int (nI w3), .ref (a 68)]) := by
          intro w3 e4 H locs ls hw hl
          subst e4
          refine pf_X7_28 hC hw dX7_keep_184 (fun H locs hw => ?_)
          have hw : Wst E (XW E a) (sr (sr σ 34 (va_cpy (σ 14) (va_cpy (σ 13) (va_cpy (σ 12) (va_cpy (σ 11) (upc (σ 4) 10 (va_cpy (σ 15) (upd (upd (upd (σ 34) 0 (σ 0 0)) 1 (σ 0 1)) 2 (σ 0 2)) 0 3 3)) 0 (3 + 3 + 10) 24) 0 ((3 + 3 + 10) + 24) 24) 0 ((3 + 3 + 10) + 48) 24) 0 ((3 + 3 + 10) + 72) 24)) 0 (upd (σ 0) 3 (nI (if 4 ≠ 29 then (4 + 1) else 0)))) A s.heap H locs := hw
          refine lv_aload_n hC.1 hC.2.1 dX7_keep_187 rfl (lv_at hl 0 rfl) ?_
          refine lv_aload_n hC.1 hC.2.1 dX7_keep_188 rfl (lv_at hl 0 rfl) ?_
          refine gf_X7_65 (v := nI kp) hC hw hkp dX7_keep_189 ?_
          refine lv_bipush (v := nI 30) hC.1 hC.2.1 dX7_keep_192 (by decide) ?_
          have J210_6 : ∀ (w5 : Nat), w5 = (if kp ≠ 30 then (kp + 1) else kp) → ∀ (H : Heap) (locs : List Loc) (ls : Array Slot), Wst E (XW E a) (sr (sr σ 34 (va_cpy (σ 14) (va_cpy (σ 13) (va_cpy (σ 12) (va_cpy (σ 11) (upc (σ 4) 10 (va_cpy (σ 15) (upd (upd (upd (σ 34) 0 (σ 0 0)) 1 (σ 0 1)) 2 (σ 0 2)) 0 3 3)) 0 (3 + 3 + 10) 24) 0 ((3 + 3 + 10) + 24) 24) 0 ((3 + 3 + 10) + 48) 24) 0 ((3 + 3 + 10) + 72) 24)) 0 (upd (σ 0) 3 (nI (if 4 ≠ 29 then (4 + 1) else 0)))) A s.heap H locs → lv_has ls 4 [(0, .ref (a 68)), (1, .ref (a 34)), (2, .int (nI (3 + 3 + 10))), (3, .int (nI h))] → W p l e ({ frames := 1, cells := 0, slots := 0, locals := 24 }) s m args below meth c H locs 0 0 Q (F0 m 210 ls [.int (nI w5), .ref (a 68)]) := by
            intro w5 e6 H locs ls hw hl
            subst e6
            refine pf_X7_65 hC hw dX7_keep_210 (fun H locs hw => ?_)
            have hw : Wst E (XW E a) (sr (sr (sr σ 34 (va_cpy (σ 14) (va_cpy (σ 13) (va_cpy (σ 12) (va_cpy (σ 11) (upc (σ 4) 10 (va_cpy (σ 15) (upd (upd (upd (σ 34) 0 (σ 0 0)) 1 (σ 0 1)) 2 (σ 0 2)) 0 3 3)) 0 (3 + 3 + 10) 24) 0 ((3 + 3 + 10) + 24) 24) 0 ((3 + 3 + 10) + 48) 24) 0 ((3 + 3 + 10) + 72) 24)) 0 (upd (σ 0) 3 (nI (if 4 ≠ 29 then (4 + 1) else 0)))) 0 (upd (upd (σ 0) 3 (nI (if 4 ≠ 29 then (4 + 1) else 0))) 4 (nI (if kp ≠ 30 then (kp + 1) else kp)))) A s.heap H locs := hw
            have hst_ : sr (sr (sr σ 34 (va_cpy (σ 14) (va_cpy (σ 13) (va_cpy (σ 12) (va_cpy (σ 11) (upc (σ 4) 10 (va_cpy (σ 15) (upd (upd (upd (σ 34) 0 (σ 0 0)) 1 (σ 0 1)) 2 (σ 0 2)) 0 3 3)) 0 (3 + 3 + 10) 24) 0 ((3 + 3 + 10) + 24) 24) 0 ((3 + 3 + 10) + 48) 24) 0 ((3 + 3 + 10) + 72) 24)) 0 (upd (σ 0) 3 (nI (if 4 ≠ 29 then (4 + 1) else 0)))) 0 (upd (upd (σ 0) 3 (nI (if 4 ≠ 29 then (4 + 1) else 0))) 4 (nI (if kp ≠ 30 then (kp + 1) else kp))) = sr (sr σ 34 (va_cpy (σ 14) (va_cpy (σ 13) (va_cpy (σ 12) (va_cpy (σ 11) (upc (σ 4) 10 (va_cpy (σ 15) (upd (upd (upd (σ 34) 0 (σ 0 0)) 1 (σ 0 1)) 2 (σ 0 2)) 0 3 3)) 0 (3 + 3 + 10) 24) 0 ((3 + 3 + 10) + 24) 24) 0 ((3 + 3 + 10) + 48) 24) 0 ((3 + 3 + 10) + 72) 24)) 0 (upd (upd (σ 0) 3 (nI (if 4 ≠ 29 then (4 + 1) else 0))) 4 (nI (if kp ≠ 30 then (kp + 1) else kp))) := by
              funext j_ x_
              by_cases e0 : j_ = 0
              · subst e0
                by_cases y3 : x_ = 3
                · subst y3; rfl
                · by_cases y4 : x_ = 4
                  · subst y4; rfl
                  · simp [sr, upd, y3, y4]
              · by_cases e34 : j_ = 34
                · subst e34; rfl
                · simp only [sr, e0, e34, if_false]
            rw [hst_] at hw
            refine hret _ _ _ _ _ hw ?_ dX7_keep_213
            exact rfl
          refine q_cmpne hC 204 (cNeq (by omega) (by omega)) dX7_keep_194 (by decide) (fun (c7 : kp ≠ 30) => ?_) (fun (c7 : kp = 30) => ?_)
          · refine lv_aload_n hC.1 hC.2.1 dX7_keep_204 rfl (lv_at hl 0 rfl) ?_
            refine gf_X7_65 (v := nI kp) hC hw hkp dX7_keep_205 ?_
            refine lv_iconst (v := nI 1) hC.1 hC.2.1 dX7_keep_208 (by decide) ?_
            refine q_addN hC dX7_keep_209 ?_
            exact J210_6 _ (by (rw [if_pos c7]) <;> rfl) _ _ _ hw (lv_sub hl [0, 1, 2, 3] rfl)
          · refine lv_aload_n hC.1 hC.2.1 dX7_keep_197 rfl (lv_at hl 0 rfl) ?_
            refine gf_X7_65 (v := nI kp) hC hw hkp dX7_keep_198 ?_
            refine lv_goto (tgt := 210) hC.1 hC.2.1 dX7_keep_201 (by decide) ?_
            exact J210_6 _ (by (rw [if_neg (fun q => q c7)]) <;> rfl) _ _ _ hw (lv_sub hl [0, 1, 2, 3] rfl)
        refine q_cmpne hC 178 (cNeq (by omega) (by omega)) dX7_keep_171 (by decide) (fun (c8 : 4 ≠ 29) => ?_) (fun (c8 : 4 = 29) => ?_)
        · refine lv_aload_n hC.1 hC.2.1 dX7_keep_178 rfl (lv_at hl 1 rfl) ?_
          refine gf_X7_28 (v := nI 4) hC hw hnx dX7_keep_179 ?_
          refine lv_iconst (v := nI 1) hC.1 hC.2.1 dX7_keep_182 (by decide) ?_
          refine q_addN hC dX7_keep_183 ?_
          exact J184_4 _ (by (rw [if_pos c8]) <;> rfl) _ _ _ hw (lv_sub hl [1, 2, 0, 3] rfl)
        · refine lv_iconst (v := nI 0) hC.1 hC.2.1 dX7_keep_174 (by decide) ?_
          refine lv_goto (tgt := 184) hC.1 hC.2.1 dX7_keep_175 (by decide) ?_
          exact J184_4 _ (by (rw [if_neg (fun q => q c8)]) <;> rfl) _ _ _ hw (lv_sub hl [1, 2, 0, 3] rfl)
      · refine lv_aload_n hC.1 hC.2.1 dX7_keep_64 rfl (lv_at hl 1 rfl) ?_
        refine lv_iload_n hC.1 hC.2.1 dX7_keep_65 rfl (lv_at hl 2 rfl) ?_
        refine lv_iload_n hC.1 hC.2.1 dX7_keep_66 rfl (lv_at hl 3 rfl) ?_
        refine q_addN hC dX7_keep_67 ?_
        refine lv_aload_n hC.1 hC.2.1 dX7_keep_68 rfl (lv_at hl 0 rfl) ?_
        refine gf_X7_16 hC hw dX7_keep_69 ?_
        refine gf_X7_49 hC hw dX7_keep_72 ?_
        refine lv_iload_n hC.1 hC.2.1 dX7_keep_75 rfl (lv_at hl 3 rfl) ?_
        refine al_X4 (v := σ 4 h) hC hw (by omega) rfl dX7_keep_76 ?_
        have J85_10 : ∀ (w9 : Int32), w9 = (if ¬ (σ 4 h = 0) then (1 : Int32) else 0) → ∀ (H : Heap) (locs : List Loc) (ls : Array Slot), Wst E (XW E a) (sr σ 34 (upc (σ 4) h (va_cpy (σ 15) (upd (upd (upd (σ 34) 0 (σ 0 0)) 1 (σ 0 1)) 2 (σ 0 2)) 0 3 3))) A s.heap H locs → lv_has ls 4 [(0, .ref (a 68)), (1, .ref (a 34)), (2, .int (nI (3 + 3))), (3, .int (nI h))] → W p l e ({ frames := 1, cells := 0, slots := 0, locals := 24 }) s m args below meth c H locs 0 0 Q (F0 m 85 ls [.int (w9), .int (nI ((3 + 3) + h)), .ref (a 34)]) := by
          intro w9 e10 H locs ls hw hl
          subst e10
          refine q_ast (Wf := XW E a) 44 rfl (by decide) (XW_s34 _) hC hw (by omega) dX7_keep_85 (fun H locs hw => ?_)
          have hw : Wst E (XW E a) (sr (sr σ 34 (upc (σ 4) h (va_cpy (σ 15) (upd (upd (upd (σ 34) 0 (σ 0 0)) 1 (σ 0 1)) 2 (σ 0 2)) 0 3 3))) 34 (upd (upc (σ 4) h (va_cpy (σ 15) (upd (upd (upd (σ 34) 0 (σ 0 0)) 1 (σ 0 1)) 2 (σ 0 2)) 0 3 3)) ((3 + 3) + h) (if ¬ (σ 4 h = 0) then (1 : Int32) else 0))) A s.heap H locs := hw
          have hst_ : sr (sr σ 34 (upc (σ 4) h (va_cpy (σ 15) (upd (upd (upd (σ 34) 0 (σ 0 0)) 1 (σ 0 1)) 2 (σ 0 2)) 0 3 3))) 34 (upd (upc (σ 4) h (va_cpy (σ 15) (upd (upd (upd (σ 34) 0 (σ 0 0)) 1 (σ 0 1)) 2 (σ 0 2)) 0 3 3)) ((3 + 3) + h) (if ¬ (σ 4 h = 0) then (1 : Int32) else 0)) = sr σ 34 (upd (upc (σ 4) h (va_cpy (σ 15) (upd (upd (upd (σ 34) 0 (σ 0 0)) 1 (σ 0 1)) 2 (σ 0 2)) 0 3 3)) ((3 + 3) + h) (if ¬ (σ 4 h = 0) then (1 : Int32) else 0)) := by
            funext j_ x_
            by_cases e0 : j_ = 0
            · subst e0
              rfl
            · by_cases e34 : j_ = 34
              · subst e34; rfl
              · simp only [sr, e0, e34, if_false]
          rw [hst_] at hw
          refine lv_iinc (v := nI (h + 1)) (lv' := [(3, .int (nI (h + 1))), (0, .ref (a 68)), (1, .ref (a 34)), (2, .int (nI (3 + 3)))]) hC.1 hC.2.1 dX7_keep_86 hl (k := 3) rfl (nI_add _ _) (by decide) rfl (fun ls hl => ?_)
          refine lv_goto (tgt := 58) hC.1 hC.2.1 dX7_keep_89 (by decide) ?_
          rw [upc_s] at hw
          exact ih58 (h + 1) (by omega) (by omega) _ _ _ hw (lv_sub hl [1, 2, 3, 0] rfl)
        refine q_ifeq hC 84 cI dX7_keep_77 (by decide) (fun (c11 : σ 4 h = 0) => ?_) (fun (c11 : ¬ (σ 4 h = 0)) => ?_)
        · refine lv_iconst (v := nI 0) hC.1 hC.2.1 dX7_keep_84 (by decide) ?_
          exact J85_10 _ (if_neg (fun q => q c11)).symm _ _ _ hw (lv_sub hl [0, 1, 2, 3] rfl)
        · refine lv_iconst (v := nI 1) hC.1 hC.2.1 dX7_keep_80 (by decide) ?_
          refine lv_goto (tgt := 85) hC.1 hC.2.1 dX7_keep_81 (by decide) ?_
          exact J85_10 _ (if_pos c11).symm _ _ _ hw (lv_sub hl [0, 1, 2, 3] rfl)
  rw [← upc_0 (σ 4) (va_cpy (σ 15) (upd (upd (upd (σ 34) 0 (σ 0 0)) 1 (σ 0 1)) 2 (σ 0 2)) 0 3 3)] at hw
  exact L58_0 _ 0 (by omega) (Nat.lt_succ_self _) _ _ _ hw (lv_sub hl [3, 2, 1, 0] rfl)
set_option maxHeartbeats 4000000 in
set_option maxRecDepth 100000 in
theorem tX7_keep_k5 (l : Launch) (E : EV) (a : Nat → Nat) (σ : St) (kp : Nat) (hnx : σ 0 3 = nI 5) (hkp : σ 0 4 = nI kp) (hk30 : kp ≤ 30) : MV l E (XW E a) yX7_keep (Cond.code yX7_keep cX7_keep 4 none) ({ frames := 1, cells := 0, slots := 0, locals := 24 }) [.ref (a 68)] σ (fun u_ => u_ = sr (sr σ 35 (kpr σ (σ 35))) 0 (upd (upd (σ 0) 3 (nI (if 5 ≠ 29 then 5 + 1 else 0))) 4 (nI (if kp ≠ 30 then kp + 1 else kp)))) := by
  refine MV.mk (by decide +kernel) (Nat.le_of_ble_eq_true rfl) ?_
  intro p e s m args below meth c ls A Q hret hC hw hl
  have hC : Cxt E p s m args meth c cX7_keep 4 none RX7 A := hC
  have hl : lv_has ls 4 [(0, .ref (a 68))] := hl
  refine lv_aload_n hC.1 hC.2.1 dX7_keep_0 rfl (lv_at hl 0 rfl) ?_
  refine gf_X7_13 hC hw dX7_keep_1 ?_
  refine lv_aload_n hC.1 hC.2.1 dX7_keep_4 rfl (lv_at hl 0 rfl) ?_
  refine gf_X7_28 (v := nI 5) hC hw hnx dX7_keep_5 ?_
  refine q_aald hC hw (i := 5) (by decide) dX7_keep_8 ?_
  refine lv_astore_n (lv' := [(1, .ref (a 35)), (0, .ref (a 68))]) hC.1 hC.2.1 dX7_keep_9 rfl hl (by decide) rfl (fun ls hl => ?_)
  refine lv_aload_n hC.1 hC.2.1 dX7_keep_10 rfl (lv_at hl 0 rfl) ?_
  refine lv_iconst (v := nI 0) hC.1 hC.2.1 dX7_keep_11 (by decide) ?_
  refine lv_aload_n hC.1 hC.2.1 dX7_keep_12 rfl (lv_at hl 1 rfl) ?_
  refine gf_X7_16 hC hw dX7_keep_13 ?_
  refine gf_X7_32 (v := σ 0 0) hC hw rfl dX7_keep_16 ?_
  refine q_ast (Wf := XW E a) 45 rfl (by decide) (XW_s35 _) hC hw (by omega) dX7_keep_19 (fun H locs hw => ?_)
  have hw : Wst E (XW E a) (sr σ 35 (upd (σ 35) 0 (σ 0 0))) A s.heap H locs := hw
  refine lv_aload_n hC.1 hC.2.1 dX7_keep_20 rfl (lv_at hl 0 rfl) ?_
  refine lv_iconst (v := nI 1) hC.1 hC.2.1 dX7_keep_21 (by decide) ?_
  refine lv_aload_n hC.1 hC.2.1 dX7_keep_22 rfl (lv_at hl 1 rfl) ?_
  refine gf_X7_20 hC hw dX7_keep_23 ?_
  refine gf_X7_37 (v := σ 0 1) hC hw rfl dX7_keep_26 ?_
  refine q_ast (Wf := XW E a) 45 rfl (by decide) (XW_s35 _) hC hw (by omega) dX7_keep_29 (fun H locs hw => ?_)
  have hw : Wst E (XW E a) (sr (sr σ 35 (upd (σ 35) 0 (σ 0 0))) 35 (upd (upd (σ 35) 0 (σ 0 0)) 1 (σ 0 1))) A s.heap H locs := hw
  have hst_ : sr (sr σ 35 (upd (σ 35) 0 (σ 0 0))) 35 (upd (upd (σ 35) 0 (σ 0 0)) 1 (σ 0 1)) = sr σ 35 (upd (upd (σ 35) 0 (σ 0 0)) 1 (σ 0 1)) := by
    funext j_ x_
    by_cases e0 : j_ = 0
    · subst e0
      rfl
    · by_cases e35 : j_ = 35
      · subst e35; rfl
      · simp only [sr, e0, e35, if_false]
  rw [hst_] at hw
  refine lv_aload_n hC.1 hC.2.1 dX7_keep_30 rfl (lv_at hl 0 rfl) ?_
  refine lv_iconst (v := nI 2) hC.1 hC.2.1 dX7_keep_31 (by decide) ?_
  refine lv_aload_n hC.1 hC.2.1 dX7_keep_32 rfl (lv_at hl 1 rfl) ?_
  refine gf_X7_20 hC hw dX7_keep_33 ?_
  refine gf_X7_40 (v := σ 0 2) hC hw rfl dX7_keep_36 ?_
  refine q_ast (Wf := XW E a) 45 rfl (by decide) (XW_s35 _) hC hw (by omega) dX7_keep_39 (fun H locs hw => ?_)
  have hw : Wst E (XW E a) (sr (sr σ 35 (upd (upd (σ 35) 0 (σ 0 0)) 1 (σ 0 1))) 35 (upd (upd (upd (σ 35) 0 (σ 0 0)) 1 (σ 0 1)) 2 (σ 0 2))) A s.heap H locs := hw
  have hst_ : sr (sr σ 35 (upd (upd (σ 35) 0 (σ 0 0)) 1 (σ 0 1))) 35 (upd (upd (upd (σ 35) 0 (σ 0 0)) 1 (σ 0 1)) 2 (σ 0 2)) = sr σ 35 (upd (upd (upd (σ 35) 0 (σ 0 0)) 1 (σ 0 1)) 2 (σ 0 2)) := by
    funext j_ x_
    by_cases e0 : j_ = 0
    · subst e0
      rfl
    · by_cases e35 : j_ = 35
      · subst e35; rfl
      · simp only [sr, e0, e35, if_false]
  rw [hst_] at hw
  refine lv_iconst (v := nI 3) hC.1 hC.2.1 dX7_keep_40 (by decide) ?_
  refine lv_istore_n (lv' := [(2, .int (nI 3)), (1, .ref (a 35)), (0, .ref (a 68))]) hC.1 hC.2.1 dX7_keep_41 rfl hl (by decide) rfl (fun ls hl => ?_)
  refine lv_aload_n hC.1 hC.2.1 dX7_keep_42 rfl (lv_at hl 2 rfl) ?_
  refine gf_X7_24 hC hw dX7_keep_43 ?_
  refine lv_iconst (v := nI 0) hC.1 hC.2.1 dX7_keep_46 (by decide) ?_
  refine lv_aload_n hC.1 hC.2.1 dX7_keep_47 rfl (lv_at hl 1 rfl) ?_
  refine lv_iload_n hC.1 hC.2.1 dX7_keep_48 rfl (lv_at hl 0 rfl) ?_
  refine lv_iconst (v := nI 3) hC.1 hC.2.1 dX7_keep_49 (by decide) ?_
  refine q_cpy (sp := 0) (dp := 3) (n := 3) 25 rfl 45 rfl (XW_s35 _) hC hw hl (by omega) (by omega) (by decide) (by decide) ⟨Nat.le_of_ble_eq_true rfl, Nat.le_of_ble_eq_true rfl⟩ wk2_182 dX7_keep_50 (fun H locs hw => ?_)
  have hw : Wst E (XW E a) (sr (sr σ 35 (upd (upd (upd (σ 35) 0 (σ 0 0)) 1 (σ 0 1)) 2 (σ 0 2))) 35 (va_cpy (σ 15) (upd (upd (upd (σ 35) 0 (σ 0 0)) 1 (σ 0 1)) 2 (σ 0 2)) 0 3 3)) A s.heap H locs := hw
  have hst_ : sr (sr σ 35 (upd (upd (upd (σ 35) 0 (σ 0 0)) 1 (σ 0 1)) 2 (σ 0 2))) 35 (va_cpy (σ 15) (upd (upd (upd (σ 35) 0 (σ 0 0)) 1 (σ 0 1)) 2 (σ 0 2)) 0 3 3) = sr σ 35 (va_cpy (σ 15) (upd (upd (upd (σ 35) 0 (σ 0 0)) 1 (σ 0 1)) 2 (σ 0 2)) 0 3 3) := by
    funext j_ x_
    by_cases e0 : j_ = 0
    · subst e0
      rfl
    · by_cases e35 : j_ = 35
      · subst e35; rfl
      · simp only [sr, e0, e35, if_false]
  rw [hst_] at hw
  refine lv_iinc (v := nI (3 + 3)) (lv' := [(2, .int (nI (3 + 3))), (1, .ref (a 35)), (0, .ref (a 68))]) hC.1 hC.2.1 dX7_keep_53 hl (k := 0) rfl (nI_add _ _) (by decide) rfl (fun ls hl => ?_)
  refine lv_iconst (v := nI 0) hC.1 hC.2.1 dX7_keep_56 (by decide) ?_
  refine lv_istore_n (lv' := [(3, .int (nI 0)), (2, .int (nI (3 + 3))), (1, .ref (a 35)), (0, .ref (a 68))]) hC.1 hC.2.1 dX7_keep_57 rfl hl (by decide) rfl (fun ls hl => ?_)
  have L58_0 : ∀ (n : Nat), ∀ (h : Nat), (h ≤ 10) → (10 - h) < n → ∀ (H : Heap) (locs : List Loc) (ls : Array Slot), Wst E (XW E a) (sr σ 35 (upc (σ 4) h (va_cpy (σ 15) (upd (upd (upd (σ 35) 0 (σ 0 0)) 1 (σ 0 1)) 2 (σ 0 2)) 0 3 3))) A s.heap H locs → lv_has ls 4 [(0, .ref (a 68)), (1, .ref (a 35)), (2, .int (nI (3 + 3))), (3, .int (nI h))] → W p l e ({ frames := 1, cells := 0, slots := 0, locals := 24 }) s m args below meth c H locs 0 0 Q (F0 m 58 ls []) := by
    intro n
    induction n with
    | zero => intro h hh hn; exact absurd hn (Nat.not_lt_zero _)
    | succ n ih58 =>
      intro h hh hn58 H locs ls hw hl
      refine lv_iload_n hC.1 hC.2.1 dX7_keep_58 rfl (lv_at hl 3 rfl) ?_
      refine lv_bipush (v := nI 10) hC.1 hC.2.1 dX7_keep_59 (by decide) ?_
      refine q_cmpge hC 92 (cNle (by omega) (by omega)) dX7_keep_61 (by decide) (fun (c2 : 10 ≤ h) => ?_) (fun (c2 : h < 10) => ?_)
      · have hh9 : h = 10 := by omega
        rw [hh9] at hw
        refine lv_iinc (v := nI (3 + 3 + 10)) (lv' := [(2, .int (nI (3 + 3 + 10))), (0, .ref (a 68)), (1, .ref (a 35)), (3, .int (nI h))]) hC.1 hC.2.1 dX7_keep_92 hl (k := 2) rfl (nI_add _ _) (by decide) rfl (fun ls hl => ?_)
        refine lv_aload_n hC.1 hC.2.1 dX7_keep_95 rfl (lv_at hl 1 rfl) ?_
        refine gf_X7_20 hC hw dX7_keep_96 ?_
        refine gf_X7_53 hC hw dX7_keep_99 ?_
        refine lv_iconst (v := nI 0) hC.1 hC.2.1 dX7_keep_102 (by decide) ?_
        refine lv_aload_n hC.1 hC.2.1 dX7_keep_103 rfl (lv_at hl 2 rfl) ?_
        refine lv_iload_n hC.1 hC.2.1 dX7_keep_104 rfl (lv_at hl 0 rfl) ?_
        refine lv_bipush (v := nI 24) hC.1 hC.2.1 dX7_keep_105 (by decide) ?_
        refine q_cpy (sp := 0) (dp := (3 + 3 + 10)) (n := 24) 21 rfl 45 rfl (XW_s35 _) hC hw hl (by omega) (by omega) (by decide) (by decide) ⟨Nat.le_of_ble_eq_true rfl, Nat.le_of_ble_eq_true rfl⟩ wk2_182 dX7_keep_107 (fun H locs hw => ?_)
        have hw : Wst E (XW E a) (sr (sr σ 35 (upc (σ 4) 10 (va_cpy (σ 15) (upd (upd (upd (σ 35) 0 (σ 0 0)) 1 (σ 0 1)) 2 (σ 0 2)) 0 3 3))) 35 (va_cpy (σ 11) (upc (σ 4) 10 (va_cpy (σ 15) (upd (upd (upd (σ 35) 0 (σ 0 0)) 1 (σ 0 1)) 2 (σ 0 2)) 0 3 3)) 0 (3 + 3 + 10) 24)) A s.heap H locs := hw
        have hst_ : sr (sr σ 35 (upc (σ 4) 10 (va_cpy (σ 15) (upd (upd (upd (σ 35) 0 (σ 0 0)) 1 (σ 0 1)) 2 (σ 0 2)) 0 3 3))) 35 (va_cpy (σ 11) (upc (σ 4) 10 (va_cpy (σ 15) (upd (upd (upd (σ 35) 0 (σ 0 0)) 1 (σ 0 1)) 2 (σ 0 2)) 0 3 3)) 0 (3 + 3 + 10) 24) = sr σ 35 (va_cpy (σ 11) (upc (σ 4) 10 (va_cpy (σ 15) (upd (upd (upd (σ 35) 0 (σ 0 0)) 1 (σ 0 1)) 2 (σ 0 2)) 0 3 3)) 0 (3 + 3 + 10) 24) := by
          funext j_ x_
          by_cases e0 : j_ = 0
          · subst e0
            rfl
          · by_cases e35 : j_ = 35
            · subst e35; rfl
            · simp only [sr, e0, e35, if_false]
        rw [hst_] at hw
        refine lv_aload_n hC.1 hC.2.1 dX7_keep_110 rfl (lv_at hl 1 rfl) ?_
        refine gf_X7_20 hC hw dX7_keep_111 ?_
        refine gf_X7_56 hC hw dX7_keep_114 ?_
        refine lv_iconst (v := nI 0) hC.1 hC.2.1 dX7_keep_117 (by decide) ?_
        refine lv_aload_n hC.1 hC.2.1 dX7_keep_118 rfl (lv_at hl 2 rfl) ?_
        refine lv_iload_n hC.1 hC.2.1 dX7_keep_119 rfl (lv_at hl 0 rfl) ?_
        refine lv_bipush (v := nI 24) hC.1 hC.2.1 dX7_keep_120 (by decide) ?_
        refine q_addN hC dX7_keep_122 ?_
        refine lv_bipush (v := nI 24) hC.1 hC.2.1 dX7_keep_123 (by decide) ?_
        refine q_cpy (sp := 0) (dp := ((3 + 3 + 10) + 24)) (n := 24) 22 rfl 45 rfl (XW_s35 _) hC hw hl (by omega) (by omega) (by decide) (by decide) ⟨Nat.le_of_ble_eq_true rfl, Nat.le_of_ble_eq_true rfl⟩ wk2_182 dX7_keep_125 (fun H locs hw => ?_)
        have hw : Wst E (XW E a) (sr (sr σ 35 (va_cpy (σ 11) (upc (σ 4) 10 (va_cpy (σ 15) (upd (upd (upd (σ 35) 0 (σ 0 0)) 1 (σ 0 1)) 2 (σ 0 2)) 0 3 3)) 0 (3 + 3 + 10) 24)) 35 (va_cpy (σ 12) (va_cpy (σ 11) (upc (σ 4) 10 (va_cpy (σ 15) (upd (upd (upd (σ 35) 0 (σ 0 0)) 1 (σ 0 1)) 2 (σ 0 2)) 0 3 3)) 0 (3 + 3 + 10) 24) 0 ((3 + 3 + 10) + 24) 24)) A s.heap H locs := hw
        have hst_ : sr (sr σ 35 (va_cpy (σ 11) (upc (σ 4) 10 (va_cpy (σ 15) (upd (upd (upd (σ 35) 0 (σ 0 0)) 1 (σ 0 1)) 2 (σ 0 2)) 0 3 3)) 0 (3 + 3 + 10) 24)) 35 (va_cpy (σ 12) (va_cpy (σ 11) (upc (σ 4) 10 (va_cpy (σ 15) (upd (upd (upd (σ 35) 0 (σ 0 0)) 1 (σ 0 1)) 2 (σ 0 2)) 0 3 3)) 0 (3 + 3 + 10) 24) 0 ((3 + 3 + 10) + 24) 24) = sr σ 35 (va_cpy (σ 12) (va_cpy (σ 11) (upc (σ 4) 10 (va_cpy (σ 15) (upd (upd (upd (σ 35) 0 (σ 0 0)) 1 (σ 0 1)) 2 (σ 0 2)) 0 3 3)) 0 (3 + 3 + 10) 24) 0 ((3 + 3 + 10) + 24) 24) := by
          funext j_ x_
          by_cases e0 : j_ = 0
          · subst e0
            rfl
          · by_cases e35 : j_ = 35
            · subst e35; rfl
            · simp only [sr, e0, e35, if_false]
        rw [hst_] at hw
        refine lv_aload_n hC.1 hC.2.1 dX7_keep_128 rfl (lv_at hl 1 rfl) ?_
        refine gf_X7_20 hC hw dX7_keep_129 ?_
        refine gf_X7_59 hC hw dX7_keep_132 ?_
        refine lv_iconst (v := nI 0) hC.1 hC.2.1 dX7_keep_135 (by decide) ?_
        refine lv_aload_n hC.1 hC.2.1 dX7_keep_136 rfl (lv_at hl 2 rfl) ?_
        refine lv_iload_n hC.1 hC.2.1 dX7_keep_137 rfl (lv_at hl 0 rfl) ?_
        refine lv_bipush (v := nI 48) hC.1 hC.2.1 dX7_keep_138 (by decide) ?_
        refine q_addN hC dX7_keep_140 ?_
        refine lv_bipush (v := nI 24) hC.1 hC.2.1 dX7_keep_141 (by decide) ?_
        refine q_cpy (sp := 0) (dp := ((3 + 3 + 10) + 48)) (n := 24) 23 rfl 45 rfl (XW_s35 _) hC hw hl (by omega) (by omega) (by decide) (by decide) ⟨Nat.le_of_ble_eq_true rfl, Nat.le_of_ble_eq_true rfl⟩ wk2_182 dX7_keep_143 (fun H locs hw => ?_)
        have hw : Wst E (XW E a) (sr (sr σ 35 (va_cpy (σ 12) (va_cpy (σ 11) (upc (σ 4) 10 (va_cpy (σ 15) (upd (upd (upd (σ 35) 0 (σ 0 0)) 1 (σ 0 1)) 2 (σ 0 2)) 0 3 3)) 0 (3 + 3 + 10) 24) 0 ((3 + 3 + 10) + 24) 24)) 35 (va_cpy (σ 13) (va_cpy (σ 12) (va_cpy (σ 11) (upc (σ 4) 10 (va_cpy (σ 15) (upd (upd (upd (σ 35) 0 (σ 0 0)) 1 (σ 0 1)) 2 (σ 0 2)) 0 3 3)) 0 (3 + 3 + 10) 24) 0 ((3 + 3 + 10) + 24) 24) 0 ((3 + 3 + 10) + 48) 24)) A s.heap H locs := hw
        have hst_ : sr (sr σ 35 (va_cpy (σ 12) (va_cpy (σ 11) (upc (σ 4) 10 (va_cpy (σ 15) (upd (upd (upd (σ 35) 0 (σ 0 0)) 1 (σ 0 1)) 2 (σ 0 2)) 0 3 3)) 0 (3 + 3 + 10) 24) 0 ((3 + 3 + 10) + 24) 24)) 35 (va_cpy (σ 13) (va_cpy (σ 12) (va_cpy (σ 11) (upc (σ 4) 10 (va_cpy (σ 15) (upd (upd (upd (σ 35) 0 (σ 0 0)) 1 (σ 0 1)) 2 (σ 0 2)) 0 3 3)) 0 (3 + 3 + 10) 24) 0 ((3 + 3 + 10) + 24) 24) 0 ((3 + 3 + 10) + 48) 24) = sr σ 35 (va_cpy (σ 13) (va_cpy (σ 12) (va_cpy (σ 11) (upc (σ 4) 10 (va_cpy (σ 15) (upd (upd (upd (σ 35) 0 (σ 0 0)) 1 (σ 0 1)) 2 (σ 0 2)) 0 3 3)) 0 (3 + 3 + 10) 24) 0 ((3 + 3 + 10) + 24) 24) 0 ((3 + 3 + 10) + 48) 24) := by
          funext j_ x_
          by_cases e0 : j_ = 0
          · subst e0
            rfl
          · by_cases e35 : j_ = 35
            · subst e35; rfl
            · simp only [sr, e0, e35, if_false]
        rw [hst_] at hw
        refine lv_aload_n hC.1 hC.2.1 dX7_keep_146 rfl (lv_at hl 1 rfl) ?_
        refine gf_X7_20 hC hw dX7_keep_147 ?_
        refine gf_X7_62 hC hw dX7_keep_150 ?_
        refine lv_iconst (v := nI 0) hC.1 hC.2.1 dX7_keep_153 (by decide) ?_
        refine lv_aload_n hC.1 hC.2.1 dX7_keep_154 rfl (lv_at hl 2 rfl) ?_
        refine lv_iload_n hC.1 hC.2.1 dX7_keep_155 rfl (lv_at hl 0 rfl) ?_
        refine lv_bipush (v := nI 72) hC.1 hC.2.1 dX7_keep_156 (by decide) ?_
        refine q_addN hC dX7_keep_158 ?_
        refine lv_bipush (v := nI 24) hC.1 hC.2.1 dX7_keep_159 (by decide) ?_
        refine q_cpy (sp := 0) (dp := ((3 + 3 + 10) + 72)) (n := 24) 24 rfl 45 rfl (XW_s35 _) hC hw hl (by omega) (by omega) (by decide) (by decide) ⟨Nat.le_of_ble_eq_true rfl, Nat.le_of_ble_eq_true rfl⟩ wk2_182 dX7_keep_161 (fun H locs hw => ?_)
        have hw : Wst E (XW E a) (sr (sr σ 35 (va_cpy (σ 13) (va_cpy (σ 12) (va_cpy (σ 11) (upc (σ 4) 10 (va_cpy (σ 15) (upd (upd (upd (σ 35) 0 (σ 0 0)) 1 (σ 0 1)) 2 (σ 0 2)) 0 3 3)) 0 (3 + 3 + 10) 24) 0 ((3 + 3 + 10) + 24) 24) 0 ((3 + 3 + 10) + 48) 24)) 35 (va_cpy (σ 14) (va_cpy (σ 13) (va_cpy (σ 12) (va_cpy (σ 11) (upc (σ 4) 10 (va_cpy (σ 15) (upd (upd (upd (σ 35) 0 (σ 0 0)) 1 (σ 0 1)) 2 (σ 0 2)) 0 3 3)) 0 (3 + 3 + 10) 24) 0 ((3 + 3 + 10) + 24) 24) 0 ((3 + 3 + 10) + 48) 24) 0 ((3 + 3 + 10) + 72) 24)) A s.heap H locs := hw
        have hst_ : sr (sr σ 35 (va_cpy (σ 13) (va_cpy (σ 12) (va_cpy (σ 11) (upc (σ 4) 10 (va_cpy (σ 15) (upd (upd (upd (σ 35) 0 (σ 0 0)) 1 (σ 0 1)) 2 (σ 0 2)) 0 3 3)) 0 (3 + 3 + 10) 24) 0 ((3 + 3 + 10) + 24) 24) 0 ((3 + 3 + 10) + 48) 24)) 35 (va_cpy (σ 14) (va_cpy (σ 13) (va_cpy (σ 12) (va_cpy (σ 11) (upc (σ 4) 10 (va_cpy (σ 15) (upd (upd (upd (σ 35) 0 (σ 0 0)) 1 (σ 0 1)) 2 (σ 0 2)) 0 3 3)) 0 (3 + 3 + 10) 24) 0 ((3 + 3 + 10) + 24) 24) 0 ((3 + 3 + 10) + 48) 24) 0 ((3 + 3 + 10) + 72) 24) = sr σ 35 (va_cpy (σ 14) (va_cpy (σ 13) (va_cpy (σ 12) (va_cpy (σ 11) (upc (σ 4) 10 (va_cpy (σ 15) (upd (upd (upd (σ 35) 0 (σ 0 0)) 1 (σ 0 1)) 2 (σ 0 2)) 0 3 3)) 0 (3 + 3 + 10) 24) 0 ((3 + 3 + 10) + 24) 24) 0 ((3 + 3 + 10) + 48) 24) 0 ((3 + 3 + 10) + 72) 24) := by
          funext j_ x_
          by_cases e0 : j_ = 0
          · subst e0
            rfl
          · by_cases e35 : j_ = 35
            · subst e35; rfl
            · simp only [sr, e0, e35, if_false]
        rw [hst_] at hw
        refine lv_aload_n hC.1 hC.2.1 dX7_keep_164 rfl (lv_at hl 1 rfl) ?_
        refine lv_aload_n hC.1 hC.2.1 dX7_keep_165 rfl (lv_at hl 1 rfl) ?_
        refine gf_X7_28 (v := nI 5) hC hw hnx dX7_keep_166 ?_
        refine lv_bipush (v := nI 29) hC.1 hC.2.1 dX7_keep_169 (by decide) ?_
        have J184_4 : ∀ (w3 : Nat), w3 = (if 5 ≠ 29 then (5 + 1) else 0) → ∀ (H : Heap) (locs : List Loc) (ls : Array Slot), Wst E (XW E a) (sr σ 35 (va_cpy (σ 14) (va_cpy (σ 13) (va_cpy (σ 12) (va_cpy (σ 11) (upc (σ 4) 10 (va_cpy (σ 15) (upd (upd (upd (σ 35) 0 (σ 0 0)) 1 (σ 0 1)) 2 (σ 0 2)) 0 3 3)) 0 (3 + 3 + 10) 24) 0 ((3 + 3 + 10) + 24) 24) 0 ((3 + 3 + 10) + 48) 24) 0 ((3 + 3 + 10) + 72) 24)) A s.heap H locs → lv_has ls 4 [(0, .ref (a 68)), (1, .ref (a 35)), (2, .int (nI (3 + 3 + 10))), (3, .int (nI h))] → W p l e ({ frames := 1, cells := 0, slots := 0, locals := 24 }) s m args below meth c H locs 0 0 Q (F0 m 184 ls [.int (nI w3), .ref (a 68)]) := by
          intro w3 e4 H locs ls hw hl
          subst e4
          refine pf_X7_28 hC hw dX7_keep_184 (fun H locs hw => ?_)
          have hw : Wst E (XW E a) (sr (sr σ 35 (va_cpy (σ 14) (va_cpy (σ 13) (va_cpy (σ 12) (va_cpy (σ 11) (upc (σ 4) 10 (va_cpy (σ 15) (upd (upd (upd (σ 35) 0 (σ 0 0)) 1 (σ 0 1)) 2 (σ 0 2)) 0 3 3)) 0 (3 + 3 + 10) 24) 0 ((3 + 3 + 10) + 24) 24) 0 ((3 + 3 + 10) + 48) 24) 0 ((3 + 3 + 10) + 72) 24)) 0 (upd (σ 0) 3 (nI (if 5 ≠ 29 then (5 + 1) else 0)))) A s.heap H locs := hw
          refine lv_aload_n hC.1 hC.2.1 dX7_keep_187 rfl (lv_at hl 0 rfl) ?_
          refine lv_aload_n hC.1 hC.2.1 dX7_keep_188 rfl (lv_at hl 0 rfl) ?_
          refine gf_X7_65 (v := nI kp) hC hw hkp dX7_keep_189 ?_
          refine lv_bipush (v := nI 30) hC.1 hC.2.1 dX7_keep_192 (by decide) ?_
          have J210_6 : ∀ (w5 : Nat), w5 = (if kp ≠ 30 then (kp + 1) else kp) → ∀ (H : Heap) (locs : List Loc) (ls : Array Slot), Wst E (XW E a) (sr (sr σ 35 (va_cpy (σ 14) (va_cpy (σ 13) (va_cpy (σ 12) (va_cpy (σ 11) (upc (σ 4) 10 (va_cpy (σ 15) (upd (upd (upd (σ 35) 0 (σ 0 0)) 1 (σ 0 1)) 2 (σ 0 2)) 0 3 3)) 0 (3 + 3 + 10) 24) 0 ((3 + 3 + 10) + 24) 24) 0 ((3 + 3 + 10) + 48) 24) 0 ((3 + 3 + 10) + 72) 24)) 0 (upd (σ 0) 3 (nI (if 5 ≠ 29 then (5 + 1) else 0)))) A s.heap H locs → lv_has ls 4 [(0, .ref (a 68)), (1, .ref (a 35)), (2, .int (nI (3 + 3 + 10))), (3, .int (nI h))] → W p l e ({ frames := 1, cells := 0, slots := 0, locals := 24 }) s m args below meth c H locs 0 0 Q (F0 m 210 ls [.int (nI w5), .ref (a 68)]) := by
            intro w5 e6 H locs ls hw hl
            subst e6
            refine pf_X7_65 hC hw dX7_keep_210 (fun H locs hw => ?_)
            have hw : Wst E (XW E a) (sr (sr (sr σ 35 (va_cpy (σ 14) (va_cpy (σ 13) (va_cpy (σ 12) (va_cpy (σ 11) (upc (σ 4) 10 (va_cpy (σ 15) (upd (upd (upd (σ 35) 0 (σ 0 0)) 1 (σ 0 1)) 2 (σ 0 2)) 0 3 3)) 0 (3 + 3 + 10) 24) 0 ((3 + 3 + 10) + 24) 24) 0 ((3 + 3 + 10) + 48) 24) 0 ((3 + 3 + 10) + 72) 24)) 0 (upd (σ 0) 3 (nI (if 5 ≠ 29 then (5 + 1) else 0)))) 0 (upd (upd (σ 0) 3 (nI (if 5 ≠ 29 then (5 + 1) else 0))) 4 (nI (if kp ≠ 30 then (kp + 1) else kp)))) A s.heap H locs := hw
            have hst_ : sr (sr (sr σ 35 (va_cpy (σ 14) (va_cpy (σ 13) (va_cpy (σ 12) (va_cpy (σ 11) (upc (σ 4) 10 (va_cpy (σ 15) (upd (upd (upd (σ 35) 0 (σ 0 0)) 1 (σ 0 1)) 2 (σ 0 2)) 0 3 3)) 0 (3 + 3 + 10) 24) 0 ((3 + 3 + 10) + 24) 24) 0 ((3 + 3 + 10) + 48) 24) 0 ((3 + 3 + 10) + 72) 24)) 0 (upd (σ 0) 3 (nI (if 5 ≠ 29 then (5 + 1) else 0)))) 0 (upd (upd (σ 0) 3 (nI (if 5 ≠ 29 then (5 + 1) else 0))) 4 (nI (if kp ≠ 30 then (kp + 1) else kp))) = sr (sr σ 35 (va_cpy (σ 14) (va_cpy (σ 13) (va_cpy (σ 12) (va_cpy (σ 11) (upc (σ 4) 10 (va_cpy (σ 15) (upd (upd (upd (σ 35) 0 (σ 0 0)) 1 (σ 0 1)) 2 (σ 0 2)) 0 3 3)) 0 (3 + 3 + 10) 24) 0 ((3 + 3 + 10) + 24) 24) 0 ((3 + 3 + 10) + 48) 24) 0 ((3 + 3 + 10) + 72) 24)) 0 (upd (upd (σ 0) 3 (nI (if 5 ≠ 29 then (5 + 1) else 0))) 4 (nI (if kp ≠ 30 then (kp + 1) else kp))) := by
              funext j_ x_
              by_cases e0 : j_ = 0
              · subst e0
                by_cases y3 : x_ = 3
                · subst y3; rfl
                · by_cases y4 : x_ = 4
                  · subst y4; rfl
                  · simp [sr, upd, y3, y4]
              · by_cases e35 : j_ = 35
                · subst e35; rfl
                · simp only [sr, e0, e35, if_false]
            rw [hst_] at hw
            refine hret _ _ _ _ _ hw ?_ dX7_keep_213
            exact rfl
          refine q_cmpne hC 204 (cNeq (by omega) (by omega)) dX7_keep_194 (by decide) (fun (c7 : kp ≠ 30) => ?_) (fun (c7 : kp = 30) => ?_)
          · refine lv_aload_n hC.1 hC.2.1 dX7_keep_204 rfl (lv_at hl 0 rfl) ?_
            refine gf_X7_65 (v := nI kp) hC hw hkp dX7_keep_205 ?_
            refine lv_iconst (v := nI 1) hC.1 hC.2.1 dX7_keep_208 (by decide) ?_
            refine q_addN hC dX7_keep_209 ?_
            exact J210_6 _ (by (rw [if_pos c7]) <;> rfl) _ _ _ hw (lv_sub hl [0, 1, 2, 3] rfl)
          · refine lv_aload_n hC.1 hC.2.1 dX7_keep_197 rfl (lv_at hl 0 rfl) ?_
            refine gf_X7_65 (v := nI kp) hC hw hkp dX7_keep_198 ?_
            refine lv_goto (tgt := 210) hC.1 hC.2.1 dX7_keep_201 (by decide) ?_
            exact J210_6 _ (by (rw [if_neg (fun q => q c7)]) <;> rfl) _ _ _ hw (lv_sub hl [0, 1, 2, 3] rfl)
        refine q_cmpne hC 178 (cNeq (by omega) (by omega)) dX7_keep_171 (by decide) (fun (c8 : 5 ≠ 29) => ?_) (fun (c8 : 5 = 29) => ?_)
        · refine lv_aload_n hC.1 hC.2.1 dX7_keep_178 rfl (lv_at hl 1 rfl) ?_
          refine gf_X7_28 (v := nI 5) hC hw hnx dX7_keep_179 ?_
          refine lv_iconst (v := nI 1) hC.1 hC.2.1 dX7_keep_182 (by decide) ?_
          refine q_addN hC dX7_keep_183 ?_
          exact J184_4 _ (by (rw [if_pos c8]) <;> rfl) _ _ _ hw (lv_sub hl [1, 2, 0, 3] rfl)
        · refine lv_iconst (v := nI 0) hC.1 hC.2.1 dX7_keep_174 (by decide) ?_
          refine lv_goto (tgt := 184) hC.1 hC.2.1 dX7_keep_175 (by decide) ?_
          exact J184_4 _ (by (rw [if_neg (fun q => q c8)]) <;> rfl) _ _ _ hw (lv_sub hl [1, 2, 0, 3] rfl)
      · refine lv_aload_n hC.1 hC.2.1 dX7_keep_64 rfl (lv_at hl 1 rfl) ?_
        refine lv_iload_n hC.1 hC.2.1 dX7_keep_65 rfl (lv_at hl 2 rfl) ?_
        refine lv_iload_n hC.1 hC.2.1 dX7_keep_66 rfl (lv_at hl 3 rfl) ?_
        refine q_addN hC dX7_keep_67 ?_
        refine lv_aload_n hC.1 hC.2.1 dX7_keep_68 rfl (lv_at hl 0 rfl) ?_
        refine gf_X7_16 hC hw dX7_keep_69 ?_
        refine gf_X7_49 hC hw dX7_keep_72 ?_
        refine lv_iload_n hC.1 hC.2.1 dX7_keep_75 rfl (lv_at hl 3 rfl) ?_
        refine al_X4 (v := σ 4 h) hC hw (by omega) rfl dX7_keep_76 ?_
        have J85_10 : ∀ (w9 : Int32), w9 = (if ¬ (σ 4 h = 0) then (1 : Int32) else 0) → ∀ (H : Heap) (locs : List Loc) (ls : Array Slot), Wst E (XW E a) (sr σ 35 (upc (σ 4) h (va_cpy (σ 15) (upd (upd (upd (σ 35) 0 (σ 0 0)) 1 (σ 0 1)) 2 (σ 0 2)) 0 3 3))) A s.heap H locs → lv_has ls 4 [(0, .ref (a 68)), (1, .ref (a 35)), (2, .int (nI (3 + 3))), (3, .int (nI h))] → W p l e ({ frames := 1, cells := 0, slots := 0, locals := 24 }) s m args below meth c H locs 0 0 Q (F0 m 85 ls [.int (w9), .int (nI ((3 + 3) + h)), .ref (a 35)]) := by
          intro w9 e10 H locs ls hw hl
          subst e10
          refine q_ast (Wf := XW E a) 45 rfl (by decide) (XW_s35 _) hC hw (by omega) dX7_keep_85 (fun H locs hw => ?_)
          have hw : Wst E (XW E a) (sr (sr σ 35 (upc (σ 4) h (va_cpy (σ 15) (upd (upd (upd (σ 35) 0 (σ 0 0)) 1 (σ 0 1)) 2 (σ 0 2)) 0 3 3))) 35 (upd (upc (σ 4) h (va_cpy (σ 15) (upd (upd (upd (σ 35) 0 (σ 0 0)) 1 (σ 0 1)) 2 (σ 0 2)) 0 3 3)) ((3 + 3) + h) (if ¬ (σ 4 h = 0) then (1 : Int32) else 0))) A s.heap H locs := hw
          have hst_ : sr (sr σ 35 (upc (σ 4) h (va_cpy (σ 15) (upd (upd (upd (σ 35) 0 (σ 0 0)) 1 (σ 0 1)) 2 (σ 0 2)) 0 3 3))) 35 (upd (upc (σ 4) h (va_cpy (σ 15) (upd (upd (upd (σ 35) 0 (σ 0 0)) 1 (σ 0 1)) 2 (σ 0 2)) 0 3 3)) ((3 + 3) + h) (if ¬ (σ 4 h = 0) then (1 : Int32) else 0)) = sr σ 35 (upd (upc (σ 4) h (va_cpy (σ 15) (upd (upd (upd (σ 35) 0 (σ 0 0)) 1 (σ 0 1)) 2 (σ 0 2)) 0 3 3)) ((3 + 3) + h) (if ¬ (σ 4 h = 0) then (1 : Int32) else 0)) := by
            funext j_ x_
            by_cases e0 : j_ = 0
            · subst e0
              rfl
            · by_cases e35 : j_ = 35
              · subst e35; rfl
              · simp only [sr, e0, e35, if_false]
          rw [hst_] at hw
          refine lv_iinc (v := nI (h + 1)) (lv' := [(3, .int (nI (h + 1))), (0, .ref (a 68)), (1, .ref (a 35)), (2, .int (nI (3 + 3)))]) hC.1 hC.2.1 dX7_keep_86 hl (k := 3) rfl (nI_add _ _) (by decide) rfl (fun ls hl => ?_)
          refine lv_goto (tgt := 58) hC.1 hC.2.1 dX7_keep_89 (by decide) ?_
          rw [upc_s] at hw
          exact ih58 (h + 1) (by omega) (by omega) _ _ _ hw (lv_sub hl [1, 2, 3, 0] rfl)
        refine q_ifeq hC 84 cI dX7_keep_77 (by decide) (fun (c11 : σ 4 h = 0) => ?_) (fun (c11 : ¬ (σ 4 h = 0)) => ?_)
        · refine lv_iconst (v := nI 0) hC.1 hC.2.1 dX7_keep_84 (by decide) ?_
          exact J85_10 _ (if_neg (fun q => q c11)).symm _ _ _ hw (lv_sub hl [0, 1, 2, 3] rfl)
        · refine lv_iconst (v := nI 1) hC.1 hC.2.1 dX7_keep_80 (by decide) ?_
          refine lv_goto (tgt := 85) hC.1 hC.2.1 dX7_keep_81 (by decide) ?_
          exact J85_10 _ (if_pos c11).symm _ _ _ hw (lv_sub hl [0, 1, 2, 3] rfl)
  rw [← upc_0 (σ 4) (va_cpy (σ 15) (upd (upd (upd (σ 35) 0 (σ 0 0)) 1 (σ 0 1)) 2 (σ 0 2)) 0 3 3)] at hw
  exact L58_0 _ 0 (by omega) (Nat.lt_succ_self _) _ _ _ hw (lv_sub hl [3, 2, 1, 0] rfl)
set_option maxHeartbeats 4000000 in
set_option maxRecDepth 100000 in
theorem tX7_keep_k6 (l : Launch) (E : EV) (a : Nat → Nat) (σ : St) (kp : Nat) (hnx : σ 0 3 = nI 6) (hkp : σ 0 4 = nI kp) (hk30 : kp ≤ 30) : MV l E (XW E a) yX7_keep (Cond.code yX7_keep cX7_keep 4 none) ({ frames := 1, cells := 0, slots := 0, locals := 24 }) [.ref (a 68)] σ (fun u_ => u_ = sr (sr σ 36 (kpr σ (σ 36))) 0 (upd (upd (σ 0) 3 (nI (if 6 ≠ 29 then 6 + 1 else 0))) 4 (nI (if kp ≠ 30 then kp + 1 else kp)))) := by
  refine MV.mk (by decide +kernel) (Nat.le_of_ble_eq_true rfl) ?_
  intro p e s m args below meth c ls A Q hret hC hw hl
  have hC : Cxt E p s m args meth c cX7_keep 4 none RX7 A := hC
  have hl : lv_has ls 4 [(0, .ref (a 68))] := hl
  refine lv_aload_n hC.1 hC.2.1 dX7_keep_0 rfl (lv_at hl 0 rfl) ?_
  refine gf_X7_13 hC hw dX7_keep_1 ?_
  refine lv_aload_n hC.1 hC.2.1 dX7_keep_4 rfl (lv_at hl 0 rfl) ?_
  refine gf_X7_28 (v := nI 6) hC hw hnx dX7_keep_5 ?_
  refine q_aald hC hw (i := 6) (by decide) dX7_keep_8 ?_
  refine lv_astore_n (lv' := [(1, .ref (a 36)), (0, .ref (a 68))]) hC.1 hC.2.1 dX7_keep_9 rfl hl (by decide) rfl (fun ls hl => ?_)
  refine lv_aload_n hC.1 hC.2.1 dX7_keep_10 rfl (lv_at hl 0 rfl) ?_
  refine lv_iconst (v := nI 0) hC.1 hC.2.1 dX7_keep_11 (by decide) ?_
  refine lv_aload_n hC.1 hC.2.1 dX7_keep_12 rfl (lv_at hl 1 rfl) ?_
  refine gf_X7_16 hC hw dX7_keep_13 ?_
  refine gf_X7_32 (v := σ 0 0) hC hw rfl dX7_keep_16 ?_
  refine q_ast (Wf := XW E a) 46 rfl (by decide) (XW_s36 _) hC hw (by omega) dX7_keep_19 (fun H locs hw => ?_)
  have hw : Wst E (XW E a) (sr σ 36 (upd (σ 36) 0 (σ 0 0))) A s.heap H locs := hw
  refine lv_aload_n hC.1 hC.2.1 dX7_keep_20 rfl (lv_at hl 0 rfl) ?_
  refine lv_iconst (v := nI 1) hC.1 hC.2.1 dX7_keep_21 (by decide) ?_
  refine lv_aload_n hC.1 hC.2.1 dX7_keep_22 rfl (lv_at hl 1 rfl) ?_
  refine gf_X7_20 hC hw dX7_keep_23 ?_
  refine gf_X7_37 (v := σ 0 1) hC hw rfl dX7_keep_26 ?_
  refine q_ast (Wf := XW E a) 46 rfl (by decide) (XW_s36 _) hC hw (by omega) dX7_keep_29 (fun H locs hw => ?_)
  have hw : Wst E (XW E a) (sr (sr σ 36 (upd (σ 36) 0 (σ 0 0))) 36 (upd (upd (σ 36) 0 (σ 0 0)) 1 (σ 0 1))) A s.heap H locs := hw
  have hst_ : sr (sr σ 36 (upd (σ 36) 0 (σ 0 0))) 36 (upd (upd (σ 36) 0 (σ 0 0)) 1 (σ 0 1)) = sr σ 36 (upd (upd (σ 36) 0 (σ 0 0)) 1 (σ 0 1)) := by
    funext j_ x_
    by_cases e0 : j_ = 0
    · subst e0
      rfl
    · by_cases e36 : j_ = 36
      · subst e36; rfl
      · simp only [sr, e0, e36, if_false]
  rw [hst_] at hw
  refine lv_aload_n hC.1 hC.2.1 dX7_keep_30 rfl (lv_at hl 0 rfl) ?_
  refine lv_iconst (v := nI 2) hC.1 hC.2.1 dX7_keep_31 (by decide) ?_
  refine lv_aload_n hC.1 hC.2.1 dX7_keep_32 rfl (lv_at hl 1 rfl) ?_
  refine gf_X7_20 hC hw dX7_keep_33 ?_
  refine gf_X7_40 (v := σ 0 2) hC hw rfl dX7_keep_36 ?_
  refine q_ast (Wf := XW E a) 46 rfl (by decide) (XW_s36 _) hC hw (by omega) dX7_keep_39 (fun H locs hw => ?_)
  have hw : Wst E (XW E a) (sr (sr σ 36 (upd (upd (σ 36) 0 (σ 0 0)) 1 (σ 0 1))) 36 (upd (upd (upd (σ 36) 0 (σ 0 0)) 1 (σ 0 1)) 2 (σ 0 2))) A s.heap H locs := hw
  have hst_ : sr (sr σ 36 (upd (upd (σ 36) 0 (σ 0 0)) 1 (σ 0 1))) 36 (upd (upd (upd (σ 36) 0 (σ 0 0)) 1 (σ 0 1)) 2 (σ 0 2)) = sr σ 36 (upd (upd (upd (σ 36) 0 (σ 0 0)) 1 (σ 0 1)) 2 (σ 0 2)) := by
    funext j_ x_
    by_cases e0 : j_ = 0
    · subst e0
      rfl
    · by_cases e36 : j_ = 36
      · subst e36; rfl
      · simp only [sr, e0, e36, if_false]
  rw [hst_] at hw
  refine lv_iconst (v := nI 3) hC.1 hC.2.1 dX7_keep_40 (by decide) ?_
  refine lv_istore_n (lv' := [(2, .int (nI 3)), (1, .ref (a 36)), (0, .ref (a 68))]) hC.1 hC.2.1 dX7_keep_41 rfl hl (by decide) rfl (fun ls hl => ?_)
  refine lv_aload_n hC.1 hC.2.1 dX7_keep_42 rfl (lv_at hl 2 rfl) ?_
  refine gf_X7_24 hC hw dX7_keep_43 ?_
  refine lv_iconst (v := nI 0) hC.1 hC.2.1 dX7_keep_46 (by decide) ?_
  refine lv_aload_n hC.1 hC.2.1 dX7_keep_47 rfl (lv_at hl 1 rfl) ?_
  refine lv_iload_n hC.1 hC.2.1 dX7_keep_48 rfl (lv_at hl 0 rfl) ?_
  refine lv_iconst (v := nI 3) hC.1 hC.2.1 dX7_keep_49 (by decide) ?_
  refine q_cpy (sp := 0) (dp := 3) (n := 3) 25 rfl 46 rfl (XW_s36 _) hC hw hl (by omega) (by omega) (by decide) (by decide) ⟨Nat.le_of_ble_eq_true rfl, Nat.le_of_ble_eq_true rfl⟩ wk2_182 dX7_keep_50 (fun H locs hw => ?_)
  have hw : Wst E (XW E a) (sr (sr σ 36 (upd (upd (upd (σ 36) 0 (σ 0 0)) 1 (σ 0 1)) 2 (σ 0 2))) 36 (va_cpy (σ 15) (upd (upd (upd (σ 36) 0 (σ 0 0)) 1 (σ 0 1)) 2 (σ 0 2)) 0 3 3)) A s.heap H locs := hw
  have hst_ : sr (sr σ 36 (upd (upd (upd (σ 36) 0 (σ 0 0)) 1 (σ 0 1)) 2 (σ 0 2))) 36 (va_cpy (σ 15) (upd (upd (upd (σ 36) 0 (σ 0 0)) 1 (σ 0 1)) 2 (σ 0 2)) 0 3 3) = sr σ 36 (va_cpy (σ 15) (upd (upd (upd (σ 36) 0 (σ 0 0)) 1 (σ 0 1)) 2 (σ 0 2)) 0 3 3) := by
    funext j_ x_
    by_cases e0 : j_ = 0
    · subst e0
      rfl
    · by_cases e36 : j_ = 36
      · subst e36; rfl
      · simp only [sr, e0, e36, if_false]
  rw [hst_] at hw
  refine lv_iinc (v := nI (3 + 3)) (lv' := [(2, .int (nI (3 + 3))), (1, .ref (a 36)), (0, .ref (a 68))]) hC.1 hC.2.1 dX7_keep_53 hl (k := 0) rfl (nI_add _ _) (by decide) rfl (fun ls hl => ?_)
  refine lv_iconst (v := nI 0) hC.1 hC.2.1 dX7_keep_56 (by decide) ?_
  refine lv_istore_n (lv' := [(3, .int (nI 0)), (2, .int (nI (3 + 3))), (1, .ref (a 36)), (0, .ref (a 68))]) hC.1 hC.2.1 dX7_keep_57 rfl hl (by decide) rfl (fun ls hl => ?_)
  have L58_0 : ∀ (n : Nat), ∀ (h : Nat), (h ≤ 10) → (10 - h) < n → ∀ (H : Heap) (locs : List Loc) (ls : Array Slot), Wst E (XW E a) (sr σ 36 (upc (σ 4) h (va_cpy (σ 15) (upd (upd (upd (σ 36) 0 (σ 0 0)) 1 (σ 0 1)) 2 (σ 0 2)) 0 3 3))) A s.heap H locs → lv_has ls 4 [(0, .ref (a 68)), (1, .ref (a 36)), (2, .int (nI (3 + 3))), (3, .int (nI h))] → W p l e ({ frames := 1, cells := 0, slots := 0, locals := 24 }) s m args below meth c H locs 0 0 Q (F0 m 58 ls []) := by
    intro n
    induction n with
    | zero => intro h hh hn; exact absurd hn (Nat.not_lt_zero _)
    | succ n ih58 =>
      intro h hh hn58 H locs ls hw hl
      refine lv_iload_n hC.1 hC.2.1 dX7_keep_58 rfl (lv_at hl 3 rfl) ?_
      refine lv_bipush (v := nI 10) hC.1 hC.2.1 dX7_keep_59 (by decide) ?_
      refine q_cmpge hC 92 (cNle (by omega) (by omega)) dX7_keep_61 (by decide) (fun (c2 : 10 ≤ h) => ?_) (fun (c2 : h < 10) => ?_)
      · have hh9 : h = 10 := by omega
        rw [hh9] at hw
        refine lv_iinc (v := nI (3 + 3 + 10)) (lv' := [(2, .int (nI (3 + 3 + 10))), (0, .ref (a 68)), (1, .ref (a 36)), (3, .int (nI h))]) hC.1 hC.2.1 dX7_keep_92 hl (k := 2) rfl (nI_add _ _) (by decide) rfl (fun ls hl => ?_)
        refine lv_aload_n hC.1 hC.2.1 dX7_keep_95 rfl (lv_at hl 1 rfl) ?_
        refine gf_X7_20 hC hw dX7_keep_96 ?_
        refine gf_X7_53 hC hw dX7_keep_99 ?_
        refine lv_iconst (v := nI 0) hC.1 hC.2.1 dX7_keep_102 (by decide) ?_
        refine lv_aload_n hC.1 hC.2.1 dX7_keep_103 rfl (lv_at hl 2 rfl) ?_
        refine lv_iload_n hC.1 hC.2.1 dX7_keep_104 rfl (lv_at hl 0 rfl) ?_
        refine lv_bipush (v := nI 24) hC.1 hC.2.1 dX7_keep_105 (by decide) ?_
        refine q_cpy (sp := 0) (dp := (3 + 3 + 10)) (n := 24) 21 rfl 46 rfl (XW_s36 _) hC hw hl (by omega) (by omega) (by decide) (by decide) ⟨Nat.le_of_ble_eq_true rfl, Nat.le_of_ble_eq_true rfl⟩ wk2_182 dX7_keep_107 (fun H locs hw => ?_)
        have hw : Wst E (XW E a) (sr (sr σ 36 (upc (σ 4) 10 (va_cpy (σ 15) (upd (upd (upd (σ 36) 0 (σ 0 0)) 1 (σ 0 1)) 2 (σ 0 2)) 0 3 3))) 36 (va_cpy (σ 11) (upc (σ 4) 10 (va_cpy (σ 15) (upd (upd (upd (σ 36) 0 (σ 0 0)) 1 (σ 0 1)) 2 (σ 0 2)) 0 3 3)) 0 (3 + 3 + 10) 24)) A s.heap H locs := hw
        have hst_ : sr (sr σ 36 (upc (σ 4) 10 (va_cpy (σ 15) (upd (upd (upd (σ 36) 0 (σ 0 0)) 1 (σ 0 1)) 2 (σ 0 2)) 0 3 3))) 36 (va_cpy (σ 11) (upc (σ 4) 10 (va_cpy (σ 15) (upd (upd (upd (σ 36) 0 (σ 0 0)) 1 (σ 0 1)) 2 (σ 0 2)) 0 3 3)) 0 (3 + 3 + 10) 24) = sr σ 36 (va_cpy (σ 11) (upc (σ 4) 10 (va_cpy (σ 15) (upd (upd (upd (σ 36) 0 (σ 0 0)) 1 (σ 0 1)) 2 (σ 0 2)) 0 3 3)) 0 (3 + 3 + 10) 24) := by
          funext j_ x_
          by_cases e0 : j_ = 0
          · subst e0
            rfl
          · by_cases e36 : j_ = 36
            · subst e36; rfl
            · simp only [sr, e0, e36, if_false]
        rw [hst_] at hw
        refine lv_aload_n hC.1 hC.2.1 dX7_keep_110 rfl (lv_at hl 1 rfl) ?_
        refine gf_X7_20 hC hw dX7_keep_111 ?_
        refine gf_X7_56 hC hw dX7_keep_114 ?_
        refine lv_iconst (v := nI 0) hC.1 hC.2.1 dX7_keep_117 (by decide) ?_
        refine lv_aload_n hC.1 hC.2.1 dX7_keep_118 rfl (lv_at hl 2 rfl) ?_
        refine lv_iload_n hC.1 hC.2.1 dX7_keep_119 rfl (lv_at hl 0 rfl) ?_
        refine lv_bipush (v := nI 24) hC.1 hC.2.1 dX7_keep_120 (by decide) ?_
        refine q_addN hC dX7_keep_122 ?_
        refine lv_bipush (v := nI 24) hC.1 hC.2.1 dX7_keep_123 (by decide) ?_
        refine q_cpy (sp := 0) (dp := ((3 + 3 + 10) + 24)) (n := 24) 22 rfl 46 rfl (XW_s36 _) hC hw hl (by omega) (by omega) (by decide) (by decide) ⟨Nat.le_of_ble_eq_true rfl, Nat.le_of_ble_eq_true rfl⟩ wk2_182 dX7_keep_125 (fun H locs hw => ?_)
        have hw : Wst E (XW E a) (sr (sr σ 36 (va_cpy (σ 11) (upc (σ 4) 10 (va_cpy (σ 15) (upd (upd (upd (σ 36) 0 (σ 0 0)) 1 (σ 0 1)) 2 (σ 0 2)) 0 3 3)) 0 (3 + 3 + 10) 24)) 36 (va_cpy (σ 12) (va_cpy (σ 11) (upc (σ 4) 10 (va_cpy (σ 15) (upd (upd (upd (σ 36) 0 (σ 0 0)) 1 (σ 0 1)) 2 (σ 0 2)) 0 3 3)) 0 (3 + 3 + 10) 24) 0 ((3 + 3 + 10) + 24) 24)) A s.heap H locs := hw
        have hst_ : sr (sr σ 36 (va_cpy (σ 11) (upc (σ 4) 10 (va_cpy (σ 15) (upd (upd (upd (σ 36) 0 (σ 0 0)) 1 (σ 0 1)) 2 (σ 0 2)) 0 3 3)) 0 (3 + 3 + 10) 24)) 36 (va_cpy (σ 12) (va_cpy (σ 11) (upc (σ 4) 10 (va_cpy (σ 15) (upd (upd (upd (σ 36) 0 (σ 0 0)) 1 (σ 0 1)) 2 (σ 0 2)) 0 3 3)) 0 (3 + 3 + 10) 24) 0 ((3 + 3 + 10) + 24) 24) = sr σ 36 (va_cpy (σ 12) (va_cpy (σ 11) (upc (σ 4) 10 (va_cpy (σ 15) (upd (upd (upd (σ 36) 0 (σ 0 0)) 1 (σ 0 1)) 2 (σ 0 2)) 0 3 3)) 0 (3 + 3 + 10) 24) 0 ((3 + 3 + 10) + 24) 24) := by
          funext j_ x_
          by_cases e0 : j_ = 0
          · subst e0
            rfl
          · by_cases e36 : j_ = 36
            · subst e36; rfl
            · simp only [sr, e0, e36, if_false]
        rw [hst_] at hw
        refine lv_aload_n hC.1 hC.2.1 dX7_keep_128 rfl (lv_at hl 1 rfl) ?_
        refine gf_X7_20 hC hw dX7_keep_129 ?_
        refine gf_X7_59 hC hw dX7_keep_132 ?_
        refine lv_iconst (v := nI 0) hC.1 hC.2.1 dX7_keep_135 (by decide) ?_
        refine lv_aload_n hC.1 hC.2.1 dX7_keep_136 rfl (lv_at hl 2 rfl) ?_
        refine lv_iload_n hC.1 hC.2.1 dX7_keep_137 rfl (lv_at hl 0 rfl) ?_
        refine lv_bipush (v := nI 48) hC.1 hC.2.1 dX7_keep_138 (by decide) ?_
        refine q_addN hC dX7_keep_140 ?_
        refine lv_bipush (v := nI 24) hC.1 hC.2.1 dX7_keep_141 (by decide) ?_
        refine q_cpy (sp := 0) (dp := ((3 + 3 + 10) + 48)) (n := 24) 23 rfl 46 rfl (XW_s36 _) hC hw hl (by omega) (by omega) (by decide) (by decide) ⟨Nat.le_of_ble_eq_true rfl, Nat.le_of_ble_eq_true rfl⟩ wk2_182 dX7_keep_143 (fun H locs hw => ?_)
        have hw : Wst E (XW E a) (sr (sr σ 36 (va_cpy (σ 12) (va_cpy (σ 11) (upc (σ 4) 10 (va_cpy (σ 15) (upd (upd (upd (σ 36) 0 (σ 0 0)) 1 (σ 0 1)) 2 (σ 0 2)) 0 3 3)) 0 (3 + 3 + 10) 24) 0 ((3 + 3 + 10) + 24) 24)) 36 (va_cpy (σ 13) (va_cpy (σ 12) (va_cpy (σ 11) (upc (σ 4) 10 (va_cpy (σ 15) (upd (upd (upd (σ 36) 0 (σ 0 0)) 1 (σ 0 1)) 2 (σ 0 2)) 0 3 3)) 0 (3 + 3 + 10) 24) 0 ((3 + 3 + 10) + 24) 24) 0 ((3 + 3 + 10) + 48) 24)) A s.heap H locs := hw
        have hst_ : sr (sr σ 36 (va_cpy (σ 12) (va_cpy (σ 11) (upc (σ 4) 10 (va_cpy (σ 15) (upd (upd (upd (σ 36) 0 (σ 0 0)) 1 (σ 0 1)) 2 (σ 0 2)) 0 3 3)) 0 (3 + 3 + 10) 24) 0 ((3 + 3 + 10) + 24) 24)) 36 (va_cpy (σ 13) (va_cpy (σ 12) (va_cpy (σ 11) (upc (σ 4) 10 (va_cpy (σ 15) (upd (upd (upd (σ 36) 0 (σ 0 0)) 1 (σ 0 1)) 2 (σ 0 2)) 0 3 3)) 0 (3 + 3 + 10) 24) 0 ((3 + 3 + 10) + 24) 24) 0 ((3 + 3 + 10) + 48) 24) = sr σ 36 (va_cpy (σ 13) (va_cpy (σ 12) (va_cpy (σ 11) (upc (σ 4) 10 (va_cpy (σ 15) (upd (upd (upd (σ 36) 0 (σ 0 0)) 1 (σ 0 1)) 2 (σ 0 2)) 0 3 3)) 0 (3 + 3 + 10) 24) 0 ((3 + 3 + 10) + 24) 24) 0 ((3 + 3 + 10) + 48) 24) := by
          funext j_ x_
          by_cases e0 : j_ = 0
          · subst e0
            rfl
          · by_cases e36 : j_ = 36
            · subst e36; rfl
            · simp only [sr, e0, e36, if_false]
        rw [hst_] at hw
        refine lv_aload_n hC.1 hC.2.1 dX7_keep_146 rfl (lv_at hl 1 rfl) ?_
        refine gf_X7_20 hC hw dX7_keep_147 ?_
        refine gf_X7_62 hC hw dX7_keep_150 ?_
        refine lv_iconst (v := nI 0) hC.1 hC.2.1 dX7_keep_153 (by decide) ?_
        refine lv_aload_n hC.1 hC.2.1 dX7_keep_154 rfl (lv_at hl 2 rfl) ?_
        refine lv_iload_n hC.1 hC.2.1 dX7_keep_155 rfl (lv_at hl 0 rfl) ?_
        refine lv_bipush (v := nI 72) hC.1 hC.2.1 dX7_keep_156 (by decide) ?_
        refine q_addN hC dX7_keep_158 ?_
        refine lv_bipush (v := nI 24) hC.1 hC.2.1 dX7_keep_159 (by decide) ?_
        refine q_cpy (sp := 0) (dp := ((3 + 3 + 10) + 72)) (n := 24) 24 rfl 46 rfl (XW_s36 _) hC hw hl (by omega) (by omega) (by decide) (by decide) ⟨Nat.le_of_ble_eq_true rfl, Nat.le_of_ble_eq_true rfl⟩ wk2_182 dX7_keep_161 (fun H locs hw => ?_)
        have hw : Wst E (XW E a) (sr (sr σ 36 (va_cpy (σ 13) (va_cpy (σ 12) (va_cpy (σ 11) (upc (σ 4) 10 (va_cpy (σ 15) (upd (upd (upd (σ 36) 0 (σ 0 0)) 1 (σ 0 1)) 2 (σ 0 2)) 0 3 3)) 0 (3 + 3 + 10) 24) 0 ((3 + 3 + 10) + 24) 24) 0 ((3 + 3 + 10) + 48) 24)) 36 (va_cpy (σ 14) (va_cpy (σ 13) (va_cpy (σ 12) (va_cpy (σ 11) (upc (σ 4) 10 (va_cpy (σ 15) (upd (upd (upd (σ 36) 0 (σ 0 0)) 1 (σ 0 1)) 2 (σ 0 2)) 0 3 3)) 0 (3 + 3 + 10) 24) 0 ((3 + 3 + 10) + 24) 24) 0 ((3 + 3 + 10) + 48) 24) 0 ((3 + 3 + 10) + 72) 24)) A s.heap H locs := hw
        have hst_ : sr (sr σ 36 (va_cpy (σ 13) (va_cpy (σ 12) (va_cpy (σ 11) (upc (σ 4) 10 (va_cpy (σ 15) (upd (upd (upd (σ 36) 0 (σ 0 0)) 1 (σ 0 1)) 2 (σ 0 2)) 0 3 3)) 0 (3 + 3 + 10) 24) 0 ((3 + 3 + 10) + 24) 24) 0 ((3 + 3 + 10) + 48) 24)) 36 (va_cpy (σ 14) (va_cpy (σ 13) (va_cpy (σ 12) (va_cpy (σ 11) (upc (σ 4) 10 (va_cpy (σ 15) (upd (upd (upd (σ 36) 0 (σ 0 0)) 1 (σ 0 1)) 2 (σ 0 2)) 0 3 3)) 0 (3 + 3 + 10) 24) 0 ((3 + 3 + 10) + 24) 24) 0 ((3 + 3 + 10) + 48) 24) 0 ((3 + 3 + 10) + 72) 24) = sr σ 36 (va_cpy (σ 14) (va_cpy (σ 13) (va_cpy (σ 12) (va_cpy (σ 11) (upc (σ 4) 10 (va_cpy (σ 15) (upd (upd (upd (σ 36) 0 (σ 0 0)) 1 (σ 0 1)) 2 (σ 0 2)) 0 3 3)) 0 (3 + 3 + 10) 24) 0 ((3 + 3 + 10) + 24) 24) 0 ((3 + 3 + 10) + 48) 24) 0 ((3 + 3 + 10) + 72) 24) := by
          funext j_ x_
          by_cases e0 : j_ = 0
          · subst e0
            rfl
          · by_cases e36 : j_ = 36
            · subst e36; rfl
            · simp only [sr, e0, e36, if_false]
        rw [hst_] at hw
        refine lv_aload_n hC.1 hC.2.1 dX7_keep_164 rfl (lv_at hl 1 rfl) ?_
        refine lv_aload_n hC.1 hC.2.1 dX7_keep_165 rfl (lv_at hl 1 rfl) ?_
        refine gf_X7_28 (v := nI 6) hC hw hnx dX7_keep_166 ?_
        refine lv_bipush (v := nI 29) hC.1 hC.2.1 dX7_keep_169 (by decide) ?_
        have J184_4 : ∀ (w3 : Nat), w3 = (if 6 ≠ 29 then (6 + 1) else 0) → ∀ (H : Heap) (locs : List Loc) (ls : Array Slot), Wst E (XW E a) (sr σ 36 (va_cpy (σ 14) (va_cpy (σ 13) (va_cpy (σ 12) (va_cpy (σ 11) (upc (σ 4) 10 (va_cpy (σ 15) (upd (upd (upd (σ 36) 0 (σ 0 0)) 1 (σ 0 1)) 2 (σ 0 2)) 0 3 3)) 0 (3 + 3 + 10) 24) 0 ((3 + 3 + 10) + 24) 24) 0 ((3 + 3 + 10) + 48) 24) 0 ((3 + 3 + 10) + 72) 24)) A s.heap H locs → lv_has ls 4 [(0, .ref (a 68)), (1, .ref (a 36)), (2, .int (nI (3 + 3 + 10))), (3, .int (nI h))] → W p l e ({ frames := 1, cells := 0, slots := 0, locals := 24 }) s m args below meth c H locs 0 0 Q (F0 m 184 ls [.int (nI w3), .ref (a 68)]) := by
          intro w3 e4 H locs ls hw hl
          subst e4
          refine pf_X7_28 hC hw dX7_keep_184 (fun H locs hw => ?_)
          have hw : Wst E (XW E a) (sr (sr σ 36 (va_cpy (σ 14) (va_cpy (σ 13) (va_cpy (σ 12) (va_cpy (σ 11) (upc (σ 4) 10 (va_cpy (σ 15) (upd (upd (upd (σ 36) 0 (σ 0 0)) 1 (σ 0 1)) 2 (σ 0 2)) 0 3 3)) 0 (3 + 3 + 10) 24) 0 ((3 + 3 + 10) + 24) 24) 0 ((3 + 3 + 10) + 48) 24) 0 ((3 + 3 + 10) + 72) 24)) 0 (upd (σ 0) 3 (nI (if 6 ≠ 29 then (6 + 1) else 0)))) A s.heap H locs := hw
          refine lv_aload_n hC.1 hC.2.1 dX7_keep_187 rfl (lv_at hl 0 rfl) ?_
          refine lv_aload_n hC.1 hC.2.1 dX7_keep_188 rfl (lv_at hl 0 rfl) ?_
          refine gf_X7_65 (v := nI kp) hC hw hkp dX7_keep_189 ?_
          refine lv_bipush (v := nI 30) hC.1 hC.2.1 dX7_keep_192 (by decide) ?_
          have J210_6 : ∀ (w5 : Nat), w5 = (if kp ≠ 30 then (kp + 1) else kp) → ∀ (H : Heap) (locs : List Loc) (ls : Array Slot), Wst E (XW E a) (sr (sr σ 36 (va_cpy (σ 14) (va_cpy (σ 13) (va_cpy (σ 12) (va_cpy (σ 11) (upc (σ 4) 10 (va_cpy (σ 15) (upd (upd (upd (σ 36) 0 (σ 0 0)) 1 (σ 0 1)) 2 (σ 0 2)) 0 3 3)) 0 (3 + 3 + 10) 24) 0 ((3 + 3 + 10) + 24) 24) 0 ((3 + 3 + 10) + 48) 24) 0 ((3 + 3 + 10) + 72) 24)) 0 (upd (σ 0) 3 (nI (if 6 ≠ 29 then (6 + 1) else 0)))) A s.heap H locs → lv_has ls 4 [(0, .ref (a 68)), (1, .ref (a 36)), (2, .int (nI (3 + 3 + 10))), (3, .int (nI h))] → W p l e ({ frames := 1, cells := 0, slots := 0, locals := 24 }) s m args below meth c H locs 0 0 Q (F0 m 210 ls [.int (nI w5), .ref (a 68)]) := by
            intro w5 e6 H locs ls hw hl
            subst e6
            refine pf_X7_65 hC hw dX7_keep_210 (fun H locs hw => ?_)
            have hw : Wst E (XW E a) (sr (sr (sr σ 36 (va_cpy (σ 14) (va_cpy (σ 13) (va_cpy (σ 12) (va_cpy (σ 11) (upc (σ 4) 10 (va_cpy (σ 15) (upd (upd (upd (σ 36) 0 (σ 0 0)) 1 (σ 0 1)) 2 (σ 0 2)) 0 3 3)) 0 (3 + 3 + 10) 24) 0 ((3 + 3 + 10) + 24) 24) 0 ((3 + 3 + 10) + 48) 24) 0 ((3 + 3 + 10) + 72) 24)) 0 (upd (σ 0) 3 (nI (if 6 ≠ 29 then (6 + 1) else 0)))) 0 (upd (upd (σ 0) 3 (nI (if 6 ≠ 29 then (6 + 1) else 0))) 4 (nI (if kp ≠ 30 then (kp + 1) else kp)))) A s.heap H locs := hw
            have hst_ : sr (sr (sr σ 36 (va_cpy (σ 14) (va_cpy (σ 13) (va_cpy (σ 12) (va_cpy (σ 11) (upc (σ 4) 10 (va_cpy (σ 15) (upd (upd (upd (σ 36) 0 (σ 0 0)) 1 (σ 0 1)) 2 (σ 0 2)) 0 3 3)) 0 (3 + 3 + 10) 24) 0 ((3 + 3 + 10) + 24) 24) 0 ((3 + 3 + 10) + 48) 24) 0 ((3 + 3 + 10) + 72) 24)) 0 (upd (σ 0) 3 (nI (if 6 ≠ 29 then (6 + 1) else 0)))) 0 (upd (upd (σ 0) 3 (nI (if 6 ≠ 29 then (6 + 1) else 0))) 4 (nI (if kp ≠ 30 then (kp + 1) else kp))) = sr (sr σ 36 (va_cpy (σ 14) (va_cpy (σ 13) (va_cpy (σ 12) (va_cpy (σ 11) (upc (σ 4) 10 (va_cpy (σ 15) (upd (upd (upd (σ 36) 0 (σ 0 0)) 1 (σ 0 1)) 2 (σ 0 2)) 0 3 3)) 0 (3 + 3 + 10) 24) 0 ((3 + 3 + 10) + 24) 24) 0 ((3 + 3 + 10) + 48) 24) 0 ((3 + 3 + 10) + 72) 24)) 0 (upd (upd (σ 0) 3 (nI (if 6 ≠ 29 then (6 + 1) else 0))) 4 (nI (if kp ≠ 30 then (kp + 1) else kp))) := by
              funext j_ x_
              by_cases e0 : j_ = 0
              · subst e0
                by_cases y3 : x_ = 3
                · subst y3; rfl
                · by_cases y4 : x_ = 4
                  · subst y4; rfl
                  · simp [sr, upd, y3, y4]
              · by_cases e36 : j_ = 36
                · subst e36; rfl
                · simp only [sr, e0, e36, if_false]
            rw [hst_] at hw
            refine hret _ _ _ _ _ hw ?_ dX7_keep_213
            exact rfl
          refine q_cmpne hC 204 (cNeq (by omega) (by omega)) dX7_keep_194 (by decide) (fun (c7 : kp ≠ 30) => ?_) (fun (c7 : kp = 30) => ?_)
          · refine lv_aload_n hC.1 hC.2.1 dX7_keep_204 rfl (lv_at hl 0 rfl) ?_
            refine gf_X7_65 (v := nI kp) hC hw hkp dX7_keep_205 ?_
            refine lv_iconst (v := nI 1) hC.1 hC.2.1 dX7_keep_208 (by decide) ?_
            refine q_addN hC dX7_keep_209 ?_
            exact J210_6 _ (by (rw [if_pos c7]) <;> rfl) _ _ _ hw (lv_sub hl [0, 1, 2, 3] rfl)
          · refine lv_aload_n hC.1 hC.2.1 dX7_keep_197 rfl (lv_at hl 0 rfl) ?_
            refine gf_X7_65 (v := nI kp) hC hw hkp dX7_keep_198 ?_
            refine lv_goto (tgt := 210) hC.1 hC.2.1 dX7_keep_201 (by decide) ?_
            exact J210_6 _ (by (rw [if_neg (fun q => q c7)]) <;> rfl) _ _ _ hw (lv_sub hl [0, 1, 2, 3] rfl)
        refine q_cmpne hC 178 (cNeq (by omega) (by omega)) dX7_keep_171 (by decide) (fun (c8 : 6 ≠ 29) => ?_) (fun (c8 : 6 = 29) => ?_)
        · refine lv_aload_n hC.1 hC.2.1 dX7_keep_178 rfl (lv_at hl 1 rfl) ?_
          refine gf_X7_28 (v := nI 6) hC hw hnx dX7_keep_179 ?_
          refine lv_iconst (v := nI 1) hC.1 hC.2.1 dX7_keep_182 (by decide) ?_
          refine q_addN hC dX7_keep_183 ?_
          exact J184_4 _ (by (rw [if_pos c8]) <;> rfl) _ _ _ hw (lv_sub hl [1, 2, 0, 3] rfl)
        · refine lv_iconst (v := nI 0) hC.1 hC.2.1 dX7_keep_174 (by decide) ?_
          refine lv_goto (tgt := 184) hC.1 hC.2.1 dX7_keep_175 (by decide) ?_
          exact J184_4 _ (by (rw [if_neg (fun q => q c8)]) <;> rfl) _ _ _ hw (lv_sub hl [1, 2, 0, 3] rfl)
      · refine lv_aload_n hC.1 hC.2.1 dX7_keep_64 rfl (lv_at hl 1 rfl) ?_
        refine lv_iload_n hC.1 hC.2.1 dX7_keep_65 rfl (lv_at hl 2 rfl) ?_
        refine lv_iload_n hC.1 hC.2.1 dX7_keep_66 rfl (lv_at hl 3 rfl) ?_
        refine q_addN hC dX7_keep_67 ?_
        refine lv_aload_n hC.1 hC.2.1 dX7_keep_68 rfl (lv_at hl 0 rfl) ?_
        refine gf_X7_16 hC hw dX7_keep_69 ?_
        refine gf_X7_49 hC hw dX7_keep_72 ?_
        refine lv_iload_n hC.1 hC.2.1 dX7_keep_75 rfl (lv_at hl 3 rfl) ?_
        refine al_X4 (v := σ 4 h) hC hw (by omega) rfl dX7_keep_76 ?_
        have J85_10 : ∀ (w9 : Int32), w9 = (if ¬ (σ 4 h = 0) then (1 : Int32) else 0) → ∀ (H : Heap) (locs : List Loc) (ls : Array Slot), Wst E (XW E a) (sr σ 36 (upc (σ 4) h (va_cpy (σ 15) (upd (upd (upd (σ 36) 0 (σ 0 0)) 1 (σ 0 1)) 2 (σ 0 2)) 0 3 3))) A s.heap H locs → lv_has ls 4 [(0, .ref (a 68)), (1, .ref (a 36)), (2, .int (nI (3 + 3))), (3, .int (nI h))] → W p l e ({ frames := 1, cells := 0, slots := 0, locals := 24 }) s m args below meth c H locs 0 0 Q (F0 m 85 ls [.int (w9), .int (nI ((3 + 3) + h)), .ref (a 36)]) := by
          intro w9 e10 H locs ls hw hl
          subst e10
          refine q_ast (Wf := XW E a) 46 rfl (by decide) (XW_s36 _) hC hw (by omega) dX7_keep_85 (fun H locs hw => ?_)
          have hw : Wst E (XW E a) (sr (sr σ 36 (upc (σ 4) h (va_cpy (σ 15) (upd (upd (upd (σ 36) 0 (σ 0 0)) 1 (σ 0 1)) 2 (σ 0 2)) 0 3 3))) 36 (upd (upc (σ 4) h (va_cpy (σ 15) (upd (upd (upd (σ 36) 0 (σ 0 0)) 1 (σ 0 1)) 2 (σ 0 2)) 0 3 3)) ((3 + 3) + h) (if ¬ (σ 4 h = 0) then (1 : Int32) else 0))) A s.heap H locs := hw
          have hst_ : sr (sr σ 36 (upc (σ 4) h (va_cpy (σ 15) (upd (upd (upd (σ 36) 0 (σ 0 0)) 1 (σ 0 1)) 2 (σ 0 2)) 0 3 3))) 36 (upd (upc (σ 4) h (va_cpy (σ 15) (upd (upd (upd (σ 36) 0 (σ 0 0)) 1 (σ 0 1)) 2 (σ 0 2)) 0 3 3)) ((3 + 3) + h) (if ¬ (σ 4 h = 0) then (1 : Int32) else 0)) = sr σ 36 (upd (upc (σ 4) h (va_cpy (σ 15) (upd (upd (upd (σ 36) 0 (σ 0 0)) 1 (σ 0 1)) 2 (σ 0 2)) 0 3 3)) ((3 + 3) + h) (if ¬ (σ 4 h = 0) then (1 : Int32) else 0)) := by
            funext j_ x_
            by_cases e0 : j_ = 0
            · subst e0
              rfl
            · by_cases e36 : j_ = 36
              · subst e36; rfl
              · simp only [sr, e0, e36, if_false]
          rw [hst_] at hw
          refine lv_iinc (v := nI (h + 1)) (lv' := [(3, .int (nI (h + 1))), (0, .ref (a 68)), (1, .ref (a 36)), (2, .int (nI (3 + 3)))]) hC.1 hC.2.1 dX7_keep_86 hl (k := 3) rfl (nI_add _ _) (by decide) rfl (fun ls hl => ?_)
          refine lv_goto (tgt := 58) hC.1 hC.2.1 dX7_keep_89 (by decide) ?_
          rw [upc_s] at hw
          exact ih58 (h + 1) (by omega) (by omega) _ _ _ hw (lv_sub hl [1, 2, 3, 0] rfl)
        refine q_ifeq hC 84 cI dX7_keep_77 (by decide) (fun (c11 : σ 4 h = 0) => ?_) (fun (c11 : ¬ (σ 4 h = 0)) => ?_)
        · refine lv_iconst (v := nI 0) hC.1 hC.2.1 dX7_keep_84 (by decide) ?_
          exact J85_10 _ (if_neg (fun q => q c11)).symm _ _ _ hw (lv_sub hl [0, 1, 2, 3] rfl)
        · refine lv_iconst (v := nI 1) hC.1 hC.2.1 dX7_keep_80 (by decide) ?_
          refine lv_goto (tgt := 85) hC.1 hC.2.1 dX7_keep_81 (by decide) ?_
          exact J85_10 _ (if_pos c11).symm _ _ _ hw (lv_sub hl [0, 1, 2, 3] rfl)
  rw [← upc_0 (σ 4) (va_cpy (σ 15) (upd (upd (upd (σ 36) 0 (σ 0 0)) 1 (σ 0 1)) 2 (σ 0 2)) 0 3 3)] at hw
  exact L58_0 _ 0 (by omega) (Nat.lt_succ_self _) _ _ _ hw (lv_sub hl [3, 2, 1, 0] rfl)
set_option maxHeartbeats 4000000 in
set_option maxRecDepth 100000 in
theorem tX7_keep_k7 (l : Launch) (E : EV) (a : Nat → Nat) (σ : St) (kp : Nat) (hnx : σ 0 3 = nI 7) (hkp : σ 0 4 = nI kp) (hk30 : kp ≤ 30) : MV l E (XW E a) yX7_keep (Cond.code yX7_keep cX7_keep 4 none) ({ frames := 1, cells := 0, slots := 0, locals := 24 }) [.ref (a 68)] σ (fun u_ => u_ = sr (sr σ 37 (kpr σ (σ 37))) 0 (upd (upd (σ 0) 3 (nI (if 7 ≠ 29 then 7 + 1 else 0))) 4 (nI (if kp ≠ 30 then kp + 1 else kp)))) := by
  refine MV.mk (by decide +kernel) (Nat.le_of_ble_eq_true rfl) ?_
  intro p e s m args below meth c ls A Q hret hC hw hl
  have hC : Cxt E p s m args meth c cX7_keep 4 none RX7 A := hC
  have hl : lv_has ls 4 [(0, .ref (a 68))] := hl
  refine lv_aload_n hC.1 hC.2.1 dX7_keep_0 rfl (lv_at hl 0 rfl) ?_
  refine gf_X7_13 hC hw dX7_keep_1 ?_
  refine lv_aload_n hC.1 hC.2.1 dX7_keep_4 rfl (lv_at hl 0 rfl) ?_
  refine gf_X7_28 (v := nI 7) hC hw hnx dX7_keep_5 ?_
  refine q_aald hC hw (i := 7) (by decide) dX7_keep_8 ?_
  refine lv_astore_n (lv' := [(1, .ref (a 37)), (0, .ref (a 68))]) hC.1 hC.2.1 dX7_keep_9 rfl hl (by decide) rfl (fun ls hl => ?_)
  refine lv_aload_n hC.1 hC.2.1 dX7_keep_10 rfl (lv_at hl 0 rfl) ?_
  refine lv_iconst (v := nI 0) hC.1 hC.2.1 dX7_keep_11 (by decide) ?_
  refine lv_aload_n hC.1 hC.2.1 dX7_keep_12 rfl (lv_at hl 1 rfl) ?_
  refine gf_X7_16 hC hw dX7_keep_13 ?_
  refine gf_X7_32 (v := σ 0 0) hC hw rfl dX7_keep_16 ?_
  refine q_ast (Wf := XW E a) 47 rfl (by decide) (XW_s37 _) hC hw (by omega) dX7_keep_19 (fun H locs hw => ?_)
  have hw : Wst E (XW E a) (sr σ 37 (upd (σ 37) 0 (σ 0 0))) A s.heap H locs := hw
  refine lv_aload_n hC.1 hC.2.1 dX7_keep_20 rfl (lv_at hl 0 rfl) ?_
  refine lv_iconst (v := nI 1) hC.1 hC.2.1 dX7_keep_21 (by decide) ?_
  refine lv_aload_n hC.1 hC.2.1 dX7_keep_22 rfl (lv_at hl 1 rfl) ?_
  refine gf_X7_20 hC hw dX7_keep_23 ?_
  refine gf_X7_37 (v := σ 0 1) hC hw rfl dX7_keep_26 ?_
  refine q_ast (Wf := XW E a) 47 rfl (by decide) (XW_s37 _) hC hw (by omega) dX7_keep_29 (fun H locs hw => ?_)
  have hw : Wst E (XW E a) (sr (sr σ 37 (upd (σ 37) 0 (σ 0 0))) 37 (upd (upd (σ 37) 0 (σ 0 0)) 1 (σ 0 1))) A s.heap H locs := hw
  have hst_ : sr (sr σ 37 (upd (σ 37) 0 (σ 0 0))) 37 (upd (upd (σ 37) 0 (σ 0 0)) 1 (σ 0 1)) = sr σ 37 (upd (upd (σ 37) 0 (σ 0 0)) 1 (σ 0 1)) := by
    funext j_ x_
    by_cases e0 : j_ = 0
    · subst e0
      rfl
    · by_cases e37 : j_ = 37
      · subst e37; rfl
      · simp only [sr, e0, e37, if_false]
  rw [hst_] at hw
  refine lv_aload_n hC.1 hC.2.1 dX7_keep_30 rfl (lv_at hl 0 rfl) ?_
  refine lv_iconst (v := nI 2) hC.1 hC.2.1 dX7_keep_31 (by decide) ?_
  refine lv_aload_n hC.1 hC.2.1 dX7_keep_32 rfl (lv_at hl 1 rfl) ?_
  refine gf_X7_20 hC hw dX7_keep_33 ?_
  refine gf_X7_40 (v := σ 0 2) hC hw rfl dX7_keep_36 ?_
  refine q_ast (Wf := XW E a) 47 rfl (by decide) (XW_s37 _) hC hw (by omega) dX7_keep_39 (fun H locs hw => ?_)
  have hw : Wst E (XW E a) (sr (sr σ 37 (upd (upd (σ 37) 0 (σ 0 0)) 1 (σ 0 1))) 37 (upd (upd (upd (σ 37) 0 (σ 0 0)) 1 (σ 0 1)) 2 (σ 0 2))) A s.heap H locs := hw
  have hst_ : sr (sr σ 37 (upd (upd (σ 37) 0 (σ 0 0)) 1 (σ 0 1))) 37 (upd (upd (upd (σ 37) 0 (σ 0 0)) 1 (σ 0 1)) 2 (σ 0 2)) = sr σ 37 (upd (upd (upd (σ 37) 0 (σ 0 0)) 1 (σ 0 1)) 2 (σ 0 2)) := by
    funext j_ x_
    by_cases e0 : j_ = 0
    · subst e0
      rfl
    · by_cases e37 : j_ = 37
      · subst e37; rfl
      · simp only [sr, e0, e37, if_false]
  rw [hst_] at hw
  refine lv_iconst (v := nI 3) hC.1 hC.2.1 dX7_keep_40 (by decide) ?_
  refine lv_istore_n (lv' := [(2, .int (nI 3)), (1, .ref (a 37)), (0, .ref (a 68))]) hC.1 hC.2.1 dX7_keep_41 rfl hl (by decide) rfl (fun ls hl => ?_)
  refine lv_aload_n hC.1 hC.2.1 dX7_keep_42 rfl (lv_at hl 2 rfl) ?_
  refine gf_X7_24 hC hw dX7_keep_43 ?_
  refine lv_iconst (v := nI 0) hC.1 hC.2.1 dX7_keep_46 (by decide) ?_
  refine lv_aload_n hC.1 hC.2.1 dX7_keep_47 rfl (lv_at hl 1 rfl) ?_
  refine lv_iload_n hC.1 hC.2.1 dX7_keep_48 rfl (lv_at hl 0 rfl) ?_
  refine lv_iconst (v := nI 3) hC.1 hC.2.1 dX7_keep_49 (by decide) ?_
  refine q_cpy (sp := 0) (dp := 3) (n := 3) 25 rfl 47 rfl (XW_s37 _) hC hw hl (by omega) (by omega) (by decide) (by decide) ⟨Nat.le_of_ble_eq_true rfl, Nat.le_of_ble_eq_true rfl⟩ wk2_182 dX7_keep_50 (fun H locs hw => ?_)
  have hw : Wst E (XW E a) (sr (sr σ 37 (upd (upd (upd (σ 37) 0 (σ 0 0)) 1 (σ 0 1)) 2 (σ 0 2))) 37 (va_cpy (σ 15) (upd (upd (upd (σ 37) 0 (σ 0 0)) 1 (σ 0 1)) 2 (σ 0 2)) 0 3 3)) A s.heap H locs := hw
  have hst_ : sr (sr σ 37 (upd (upd (upd (σ 37) 0 (σ 0 0)) 1 (σ 0 1)) 2 (σ 0 2))) 37 (va_cpy (σ 15) (upd (upd (upd (σ 37) 0 (σ 0 0)) 1 (σ 0 1)) 2 (σ 0 2)) 0 3 3) = sr σ 37 (va_cpy (σ 15) (upd (upd (upd (σ 37) 0 (σ 0 0)) 1 (σ 0 1)) 2 (σ 0 2)) 0 3 3) := by
    funext j_ x_
    by_cases e0 : j_ = 0
    · subst e0
      rfl
    · by_cases e37 : j_ = 37
      · subst e37; rfl
      · simp only [sr, e0, e37, if_false]
  rw [hst_] at hw
  refine lv_iinc (v := nI (3 + 3)) (lv' := [(2, .int (nI (3 + 3))), (1, .ref (a 37)), (0, .ref (a 68))]) hC.1 hC.2.1 dX7_keep_53 hl (k := 0) rfl (nI_add _ _) (by decide) rfl (fun ls hl => ?_)
  refine lv_iconst (v := nI 0) hC.1 hC.2.1 dX7_keep_56 (by decide) ?_
  refine lv_istore_n (lv' := [(3, .int (nI 0)), (2, .int (nI (3 + 3))), (1, .ref (a 37)), (0, .ref (a 68))]) hC.1 hC.2.1 dX7_keep_57 rfl hl (by decide) rfl (fun ls hl => ?_)
  have L58_0 : ∀ (n : Nat), ∀ (h : Nat), (h ≤ 10) → (10 - h) < n → ∀ (H : Heap) (locs : List Loc) (ls : Array Slot), Wst E (XW E a) (sr σ 37 (upc (σ 4) h (va_cpy (σ 15) (upd (upd (upd (σ 37) 0 (σ 0 0)) 1 (σ 0 1)) 2 (σ 0 2)) 0 3 3))) A s.heap H locs → lv_has ls 4 [(0, .ref (a 68)), (1, .ref (a 37)), (2, .int (nI (3 + 3))), (3, .int (nI h))] → W p l e ({ frames := 1, cells := 0, slots := 0, locals := 24 }) s m args below meth c H locs 0 0 Q (F0 m 58 ls []) := by
    intro n
    induction n with
    | zero => intro h hh hn; exact absurd hn (Nat.not_lt_zero _)
    | succ n ih58 =>
      intro h hh hn58 H locs ls hw hl
      refine lv_iload_n hC.1 hC.2.1 dX7_keep_58 rfl (lv_at hl 3 rfl) ?_
      refine lv_bipush (v := nI 10) hC.1 hC.2.1 dX7_keep_59 (by decide) ?_
      refine q_cmpge hC 92 (cNle (by omega) (by omega)) dX7_keep_61 (by decide) (fun (c2 : 10 ≤ h) => ?_) (fun (c2 : h < 10) => ?_)
      · have hh9 : h = 10 := by omega
        rw [hh9] at hw
        refine lv_iinc (v := nI (3 + 3 + 10)) (lv' := [(2, .int (nI (3 + 3 + 10))), (0, .ref (a 68)), (1, .ref (a 37)), (3, .int (nI h))]) hC.1 hC.2.1 dX7_keep_92 hl (k := 2) rfl (nI_add _ _) (by decide) rfl (fun ls hl => ?_)
        refine lv_aload_n hC.1 hC.2.1 dX7_keep_95 rfl (lv_at hl 1 rfl) ?_
        refine gf_X7_20 hC hw dX7_keep_96 ?_
        refine gf_X7_53 hC hw dX7_keep_99 ?_
        refine lv_iconst (v := nI 0) hC.1 hC.2.1 dX7_keep_102 (by decide) ?_
        refine lv_aload_n hC.1 hC.2.1 dX7_keep_103 rfl (lv_at hl 2 rfl) ?_
        refine lv_iload_n hC.1 hC.2.1 dX7_keep_104 rfl (lv_at hl 0 rfl) ?_
        refine lv_bipush (v := nI 24) hC.1 hC.2.1 dX7_keep_105 (by decide) ?_
        refine q_cpy (sp := 0) (dp := (3 + 3 + 10)) (n := 24) 21 rfl 47 rfl (XW_s37 _) hC hw hl (by omega) (by omega) (by decide) (by decide) ⟨Nat.le_of_ble_eq_true rfl, Nat.le_of_ble_eq_true rfl⟩ wk2_182 dX7_keep_107 (fun H locs hw => ?_)
        have hw : Wst E (XW E a) (sr (sr σ 37 (upc (σ 4) 10 (va_cpy (σ 15) (upd (upd (upd (σ 37) 0 (σ 0 0)) 1 (σ 0 1)) 2 (σ 0 2)) 0 3 3))) 37 (va_cpy (σ 11) (upc (σ 4) 10 (va_cpy (σ 15) (upd (upd (upd (σ 37) 0 (σ 0 0)) 1 (σ 0 1)) 2 (σ 0 2)) 0 3 3)) 0 (3 + 3 + 10) 24)) A s.heap H locs := hw
        have hst_ : sr (sr σ 37 (upc (σ 4) 10 (va_cpy (σ 15) (upd (upd (upd (σ 37) 0 (σ 0 0)) 1 (σ 0 1)) 2 (σ 0 2)) 0 3 3))) 37 (va_cpy (σ 11) (upc (σ 4) 10 (va_cpy (σ 15) (upd (upd (upd (σ 37) 0 (σ 0 0)) 1 (σ 0 1)) 2 (σ 0 2)) 0 3 3)) 0 (3 + 3 + 10) 24) = sr σ 37 (va_cpy (σ 11) (upc (σ 4) 10 (va_cpy (σ 15) (upd (upd (upd (σ 37) 0 (σ 0 0)) 1 (σ 0 1)) 2 (σ 0 2)) 0 3 3)) 0 (3 + 3 + 10) 24) := by
          funext j_ x_
          by_cases e0 : j_ = 0
          · subst e0
            rfl
          · by_cases e37 : j_ = 37
            · subst e37; rfl
            · simp only [sr, e0, e37, if_false]
        rw [hst_] at hw
        refine lv_aload_n hC.1 hC.2.1 dX7_keep_110 rfl (lv_at hl 1 rfl) ?_
        refine gf_X7_20 hC hw dX7_keep_111 ?_
        refine gf_X7_56 hC hw dX7_keep_114 ?_
        refine lv_iconst (v := nI 0) hC.1 hC.2.1 dX7_keep_117 (by decide) ?_
        refine lv_aload_n hC.1 hC.2.1 dX7_keep_118 rfl (lv_at hl 2 rfl) ?_
        refine lv_iload_n hC.1 hC.2.1 dX7_keep_119 rfl (lv_at hl 0 rfl) ?_
        refine lv_bipush (v := nI 24) hC.1 hC.2.1 dX7_keep_120 (by decide) ?_
        refine q_addN hC dX7_keep_122 ?_
        refine lv_bipush (v := nI 24) hC.1 hC.2.1 dX7_keep_123 (by decide) ?_
        refine q_cpy (sp := 0) (dp := ((3 + 3 + 10) + 24)) (n := 24) 22 rfl 47 rfl (XW_s37 _) hC hw hl (by omega) (by omega) (by decide) (by decide) ⟨Nat.le_of_ble_eq_true rfl, Nat.le_of_ble_eq_true rfl⟩ wk2_182 dX7_keep_125 (fun H locs hw => ?_)
        have hw : Wst E (XW E a) (sr (sr σ 37 (va_cpy (σ 11) (upc (σ 4) 10 (va_cpy (σ 15) (upd (upd (upd (σ 37) 0 (σ 0 0)) 1 (σ 0 1)) 2 (σ 0 2)) 0 3 3)) 0 (3 + 3 + 10) 24)) 37 (va_cpy (σ 12) (va_cpy (σ 11) (upc (σ 4) 10 (va_cpy (σ 15) (upd (upd (upd (σ 37) 0 (σ 0 0)) 1 (σ 0 1)) 2 (σ 0 2)) 0 3 3)) 0 (3 + 3 + 10) 24) 0 ((3 + 3 + 10) + 24) 24)) A s.heap H locs := hw
        have hst_ : sr (sr σ 37 (va_cpy (σ 11) (upc (σ 4) 10 (va_cpy (σ 15) (upd (upd (upd (σ 37) 0 (σ 0 0)) 1 (σ 0 1)) 2 (σ 0 2)) 0 3 3)) 0 (3 + 3 + 10) 24)) 37 (va_cpy (σ 12) (va_cpy (σ 11) (upc (σ 4) 10 (va_cpy (σ 15) (upd (upd (upd (σ 37) 0 (σ 0 0)) 1 (σ 0 1)) 2 (σ 0 2)) 0 3 3)) 0 (3 + 3 + 10) 24) 0 ((3 + 3 + 10) + 24) 24) = sr σ 37 (va_cpy (σ 12) (va_cpy (σ 11) (upc (σ 4) 10 (va_cpy (σ 15) (upd (upd (upd (σ 37) 0 (σ 0 0)) 1 (σ 0 1)) 2 (σ 0 2)) 0 3 3)) 0 (3 + 3 + 10) 24) 0 ((3 + 3 + 10) + 24) 24) := by
          funext j_ x_
          by_cases e0 : j_ = 0
          · subst e0
            rfl
          · by_cases e37 : j_ = 37
            · subst e37; rfl
            · simp only [sr, e0, e37, if_false]
        rw [hst_] at hw
        refine lv_aload_n hC.1 hC.2.1 dX7_keep_128 rfl (lv_at hl 1 rfl) ?_
        refine gf_X7_20 hC hw dX7_keep_129 ?_
        refine gf_X7_59 hC hw dX7_keep_132 ?_
        refine lv_iconst (v := nI 0) hC.1 hC.2.1 dX7_keep_135 (by decide) ?_
        refine lv_aload_n hC.1 hC.2.1 dX7_keep_136 rfl (lv_at hl 2 rfl) ?_
        refine lv_iload_n hC.1 hC.2.1 dX7_keep_137 rfl (lv_at hl 0 rfl) ?_
        refine lv_bipush (v := nI 48) hC.1 hC.2.1 dX7_keep_138 (by decide) ?_
        refine q_addN hC dX7_keep_140 ?_
        refine lv_bipush (v := nI 24) hC.1 hC.2.1 dX7_keep_141 (by decide) ?_
        refine q_cpy (sp := 0) (dp := ((3 + 3 + 10) + 48)) (n := 24) 23 rfl 47 rfl (XW_s37 _) hC hw hl (by omega) (by omega) (by decide) (by decide) ⟨Nat.le_of_ble_eq_true rfl, Nat.le_of_ble_eq_true rfl⟩ wk2_182 dX7_keep_143 (fun H locs hw => ?_)
        have hw : Wst E (XW E a) (sr (sr σ 37 (va_cpy (σ 12) (va_cpy (σ 11) (upc (σ 4) 10 (va_cpy (σ 15) (upd (upd (upd (σ 37) 0 (σ 0 0)) 1 (σ 0 1)) 2 (σ 0 2)) 0 3 3)) 0 (3 + 3 + 10) 24) 0 ((3 + 3 + 10) + 24) 24)) 37 (va_cpy (σ 13) (va_cpy (σ 12) (va_cpy (σ 11) (upc (σ 4) 10 (va_cpy (σ 15) (upd (upd (upd (σ 37) 0 (σ 0 0)) 1 (σ 0 1)) 2 (σ 0 2)) 0 3 3)) 0 (3 + 3 + 10) 24) 0 ((3 + 3 + 10) + 24) 24) 0 ((3 + 3 + 10) + 48) 24)) A s.heap H locs := hw
        have hst_ : sr (sr σ 37 (va_cpy (σ 12) (va_cpy (σ 11) (upc (σ 4) 10 (va_cpy (σ 15) (upd (upd (upd (σ 37) 0 (σ 0 0)) 1 (σ 0 1)) 2 (σ 0 2)) 0 3 3)) 0 (3 + 3 + 10) 24) 0 ((3 + 3 + 10) + 24) 24)) 37 (va_cpy (σ 13) (va_cpy (σ 12) (va_cpy (σ 11) (upc (σ 4) 10 (va_cpy (σ 15) (upd (upd (upd (σ 37) 0 (σ 0 0)) 1 (σ 0 1)) 2 (σ 0 2)) 0 3 3)) 0 (3 + 3 + 10) 24) 0 ((3 + 3 + 10) + 24) 24) 0 ((3 + 3 + 10) + 48) 24) = sr σ 37 (va_cpy (σ 13) (va_cpy (σ 12) (va_cpy (σ 11) (upc (σ 4) 10 (va_cpy (σ 15) (upd (upd (upd (σ 37) 0 (σ 0 0)) 1 (σ 0 1)) 2 (σ 0 2)) 0 3 3)) 0 (3 + 3 + 10) 24) 0 ((3 + 3 + 10) + 24) 24) 0 ((3 + 3 + 10) + 48) 24) := by
          funext j_ x_
          by_cases e0 : j_ = 0
          · subst e0
            rfl
          · by_cases e37 : j_ = 37
            · subst e37; rfl
            · simp only [sr, e0, e37, if_false]
        rw [hst_] at hw
        refine lv_aload_n hC.1 hC.2.1 dX7_keep_146 rfl (lv_at hl 1 rfl) ?_
        refine gf_X7_20 hC hw dX7_keep_147 ?_
        refine gf_X7_62 hC hw dX7_keep_150 ?_
        refine lv_iconst (v := nI 0) hC.1 hC.2.1 dX7_keep_153 (by decide) ?_
        refine lv_aload_n hC.1 hC.2.1 dX7_keep_154 rfl (lv_at hl 2 rfl) ?_
        refine lv_iload_n hC.1 hC.2.1 dX7_keep_155 rfl (lv_at hl 0 rfl) ?_
        refine lv_bipush (v := nI 72) hC.1 hC.2.1 dX7_keep_156 (by decide) ?_
        refine q_addN hC dX7_keep_158 ?_
        refine lv_bipush (v := nI 24) hC.1 hC.2.1 dX7_keep_159 (by decide) ?_
        refine q_cpy (sp := 0) (dp := ((3 + 3 + 10) + 72)) (n := 24) 24 rfl 47 rfl (XW_s37 _) hC hw hl (by omega) (by omega) (by decide) (by decide) ⟨Nat.le_of_ble_eq_true rfl, Nat.le_of_ble_eq_true rfl⟩ wk2_182 dX7_keep_161 (fun H locs hw => ?_)
        have hw : Wst E (XW E a) (sr (sr σ 37 (va_cpy (σ 13) (va_cpy (σ 12) (va_cpy (σ 11) (upc (σ 4) 10 (va_cpy (σ 15) (upd (upd (upd (σ 37) 0 (σ 0 0)) 1 (σ 0 1)) 2 (σ 0 2)) 0 3 3)) 0 (3 + 3 + 10) 24) 0 ((3 + 3 + 10) + 24) 24) 0 ((3 + 3 + 10) + 48) 24)) 37 (va_cpy (σ 14) (va_cpy (σ 13) (va_cpy (σ 12) (va_cpy (σ 11) (upc (σ 4) 10 (va_cpy (σ 15) (upd (upd (upd (σ 37) 0 (σ 0 0)) 1 (σ 0 1)) 2 (σ 0 2)) 0 3 3)) 0 (3 + 3 + 10) 24) 0 ((3 + 3 + 10) + 24) 24) 0 ((3 + 3 + 10) + 48) 24) 0 ((3 + 3 + 10) + 72) 24)) A s.heap H locs := hw
        have hst_ : sr (sr σ 37 (va_cpy (σ 13) (va_cpy (σ 12) (va_cpy (σ 11) (upc (σ 4) 10 (va_cpy (σ 15) (upd (upd (upd (σ 37) 0 (σ 0 0)) 1 (σ 0 1)) 2 (σ 0 2)) 0 3 3)) 0 (3 + 3 + 10) 24) 0 ((3 + 3 + 10) + 24) 24) 0 ((3 + 3 + 10) + 48) 24)) 37 (va_cpy (σ 14) (va_cpy (σ 13) (va_cpy (σ 12) (va_cpy (σ 11) (upc (σ 4) 10 (va_cpy (σ 15) (upd (upd (upd (σ 37) 0 (σ 0 0)) 1 (σ 0 1)) 2 (σ 0 2)) 0 3 3)) 0 (3 + 3 + 10) 24) 0 ((3 + 3 + 10) + 24) 24) 0 ((3 + 3 + 10) + 48) 24) 0 ((3 + 3 + 10) + 72) 24) = sr σ 37 (va_cpy (σ 14) (va_cpy (σ 13) (va_cpy (σ 12) (va_cpy (σ 11) (upc (σ 4) 10 (va_cpy (σ 15) (upd (upd (upd (σ 37) 0 (σ 0 0)) 1 (σ 0 1)) 2 (σ 0 2)) 0 3 3)) 0 (3 + 3 + 10) 24) 0 ((3 + 3 + 10) + 24) 24) 0 ((3 + 3 + 10) + 48) 24) 0 ((3 + 3 + 10) + 72) 24) := by
          funext j_ x_
          by_cases e0 : j_ = 0
          · subst e0
            rfl
          · by_cases e37 : j_ = 37
            · subst e37; rfl
            · simp only [sr, e0, e37, if_false]
        rw [hst_] at hw
        refine lv_aload_n hC.1 hC.2.1 dX7_keep_164 rfl (lv_at hl 1 rfl) ?_
        refine lv_aload_n hC.1 hC.2.1 dX7_keep_165 rfl (lv_at hl 1 rfl) ?_
        refine gf_X7_28 (v := nI 7) hC hw hnx dX7_keep_166 ?_
        refine lv_bipush (v := nI 29) hC.1 hC.2.1 dX7_keep_169 (by decide) ?_
        have J184_4 : ∀ (w3 : Nat), w3 = (if 7 ≠ 29 then (7 + 1) else 0) → ∀ (H : Heap) (locs : List Loc) (ls : Array Slot), Wst E (XW E a) (sr σ 37 (va_cpy (σ 14) (va_cpy (σ 13) (va_cpy (σ 12) (va_cpy (σ 11) (upc (σ 4) 10 (va_cpy (σ 15) (upd (upd (upd (σ 37) 0 (σ 0 0)) 1 (σ 0 1)) 2 (σ 0 2)) 0 3 3)) 0 (3 + 3 + 10) 24) 0 ((3 + 3 + 10) + 24) 24) 0 ((3 + 3 + 10) + 48) 24) 0 ((3 + 3 + 10) + 72) 24)) A s.heap H locs → lv_has ls 4 [(0, .ref (a 68)), (1, .ref (a 37)), (2, .int (nI (3 + 3 + 10))), (3, .int (nI h))] → W p l e ({ frames := 1, cells := 0, slots := 0, locals := 24 }) s m args below meth c H locs 0 0 Q (F0 m 184 ls [.int (nI w3), .ref (a 68)]) := by
          intro w3 e4 H locs ls hw hl
          subst e4
          refine pf_X7_28 hC hw dX7_keep_184 (fun H locs hw => ?_)
          have hw : Wst E (XW E a) (sr (sr σ 37 (va_cpy (σ 14) (va_cpy (σ 13) (va_cpy (σ 12) (va_cpy (σ 11) (upc (σ 4) 10 (va_cpy (σ 15) (upd (upd (upd (σ 37) 0 (σ 0 0)) 1 (σ 0 1)) 2 (σ 0 2)) 0 3 3)) 0 (3 + 3 + 10) 24) 0 ((3 + 3 + 10) + 24) 24) 0 ((3 + 3 + 10) + 48) 24) 0 ((3 + 3 + 10) + 72) 24)) 0 (upd (σ 0) 3 (nI (if 7 ≠ 29 then (7 + 1) else 0)))) A s.heap H locs := hw
          refine lv_aload_n hC.1 hC.2.1 dX7_keep_187 rfl (lv_at hl 0 rfl) ?_
          refine lv_aload_n hC.1 hC.2.1 dX7_keep_188 rfl (lv_at hl 0 rfl) ?_
          refine gf_X7_65 (v := nI kp) hC hw hkp dX7_keep_189 ?_
          refine lv_bipush (v := nI 30) hC.1 hC.2.1 dX7_keep_192 (by decide) ?_
          have J210_6 : ∀ (w5 : Nat), w5 = (if kp ≠ 30 then (kp + 1) else kp) → ∀ (H : Heap) (locs : List Loc) (ls : Array Slot), Wst E (XW E a) (sr (sr σ 37 (va_cpy (σ 14) (va_cpy (σ 13) (va_cpy (σ 12) (va_cpy (σ 11) (upc (σ 4) 10 (va_cpy (σ 15) (upd (upd (upd (σ 37) 0 (σ 0 0)) 1 (σ 0 1)) 2 (σ 0 2)) 0 3 3)) 0 (3 + 3 + 10) 24) 0 ((3 + 3 + 10) + 24) 24) 0 ((3 + 3 + 10) + 48) 24) 0 ((3 + 3 + 10) + 72) 24)) 0 (upd (σ 0) 3 (nI (if 7 ≠ 29 then (7 + 1) else 0)))) A s.heap H locs → lv_has ls 4 [(0, .ref (a 68)), (1, .ref (a 37)), (2, .int (nI (3 + 3 + 10))), (3, .int (nI h))] → W p l e ({ frames := 1, cells := 0, slots := 0, locals := 24 }) s m args below meth c H locs 0 0 Q (F0 m 210 ls [.int (nI w5), .ref (a 68)]) := by
            intro w5 e6 H locs ls hw hl
            subst e6
            refine pf_X7_65 hC hw dX7_keep_210 (fun H locs hw => ?_)
            have hw : Wst E (XW E a) (sr (sr (sr σ 37 (va_cpy (σ 14) (va_cpy (σ 13) (va_cpy (σ 12) (va_cpy (σ 11) (upc (σ 4) 10 (va_cpy (σ 15) (upd (upd (upd (σ 37) 0 (σ 0 0)) 1 (σ 0 1)) 2 (σ 0 2)) 0 3 3)) 0 (3 + 3 + 10) 24) 0 ((3 + 3 + 10) + 24) 24) 0 ((3 + 3 + 10) + 48) 24) 0 ((3 + 3 + 10) + 72) 24)) 0 (upd (σ 0) 3 (nI (if 7 ≠ 29 then (7 + 1) else 0)))) 0 (upd (upd (σ 0) 3 (nI (if 7 ≠ 29 then (7 + 1) else 0))) 4 (nI (if kp ≠ 30 then (kp + 1) else kp)))) A s.heap H locs := hw
            have hst_ : sr (sr (sr σ 37 (va_cpy (σ 14) (va_cpy (σ 13) (va_cpy (σ 12) (va_cpy (σ 11) (upc (σ 4) 10 (va_cpy (σ 15) (upd (upd (upd (σ 37) 0 (σ 0 0)) 1 (σ 0 1)) 2 (σ 0 2)) 0 3 3)) 0 (3 + 3 + 10) 24) 0 ((3 + 3 + 10) + 24) 24) 0 ((3 + 3 + 10) + 48) 24) 0 ((3 + 3 + 10) + 72) 24)) 0 (upd (σ 0) 3 (nI (if 7 ≠ 29 then (7 + 1) else 0)))) 0 (upd (upd (σ 0) 3 (nI (if 7 ≠ 29 then (7 + 1) else 0))) 4 (nI (if kp ≠ 30 then (kp + 1) else kp))) = sr (sr σ 37 (va_cpy (σ 14) (va_cpy (σ 13) (va_cpy (σ 12) (va_cpy (σ 11) (upc (σ 4) 10 (va_cpy (σ 15) (upd (upd (upd (σ 37) 0 (σ 0 0)) 1 (σ 0 1)) 2 (σ 0 2)) 0 3 3)) 0 (3 + 3 + 10) 24) 0 ((3 + 3 + 10) + 24) 24) 0 ((3 + 3 + 10) + 48) 24) 0 ((3 + 3 + 10) + 72) 24)) 0 (upd (upd (σ 0) 3 (nI (if 7 ≠ 29 then (7 + 1) else 0))) 4 (nI (if kp ≠ 30 then (kp + 1) else kp))) := by
              funext j_ x_
              by_cases e0 : j_ = 0
              · subst e0
                by_cases y3 : x_ = 3
                · subst y3; rfl
                · by_cases y4 : x_ = 4
                  · subst y4; rfl
                  · simp [sr, upd, y3, y4]
              · by_cases e37 : j_ = 37
                · subst e37; rfl
                · simp only [sr, e0, e37, if_false]
            rw [hst_] at hw
            refine hret _ _ _ _ _ hw ?_ dX7_keep_213
            exact rfl
          refine q_cmpne hC 204 (cNeq (by omega) (by omega)) dX7_keep_194 (by decide) (fun (c7 : kp ≠ 30) => ?_) (fun (c7 : kp = 30) => ?_)
          · refine lv_aload_n hC.1 hC.2.1 dX7_keep_204 rfl (lv_at hl 0 rfl) ?_
            refine gf_X7_65 (v := nI kp) hC hw hkp dX7_keep_205 ?_
            refine lv_iconst (v := nI 1) hC.1 hC.2.1 dX7_keep_208 (by decide) ?_
            refine q_addN hC dX7_keep_209 ?_
            exact J210_6 _ (by (rw [if_pos c7]) <;> rfl) _ _ _ hw (lv_sub hl [0, 1, 2, 3] rfl)
          · refine lv_aload_n hC.1 hC.2.1 dX7_keep_197 rfl (lv_at hl 0 rfl) ?_
            refine gf_X7_65 (v := nI kp) hC hw hkp dX7_keep_198 ?_
            refine lv_goto (tgt := 210) hC.1 hC.2.1 dX7_keep_201 (by decide) ?_
            exact J210_6 _ (by (rw [if_neg (fun q => q c7)]) <;> rfl) _ _ _ hw (lv_sub hl [0, 1, 2, 3] rfl)
        refine q_cmpne hC 178 (cNeq (by omega) (by omega)) dX7_keep_171 (by decide) (fun (c8 : 7 ≠ 29) => ?_) (fun (c8 : 7 = 29) => ?_)
        · refine lv_aload_n hC.1 hC.2.1 dX7_keep_178 rfl (lv_at hl 1 rfl) ?_
          refine gf_X7_28 (v := nI 7) hC hw hnx dX7_keep_179 ?_
          refine lv_iconst (v := nI 1) hC.1 hC.2.1 dX7_keep_182 (by decide) ?_
          refine q_addN hC dX7_keep_183 ?_
          exact J184_4 _ (by (rw [if_pos c8]) <;> rfl) _ _ _ hw (lv_sub hl [1, 2, 0, 3] rfl)
        · refine lv_iconst (v := nI 0) hC.1 hC.2.1 dX7_keep_174 (by decide) ?_
          refine lv_goto (tgt := 184) hC.1 hC.2.1 dX7_keep_175 (by decide) ?_
          exact J184_4 _ (by (rw [if_neg (fun q => q c8)]) <;> rfl) _ _ _ hw (lv_sub hl [1, 2, 0, 3] rfl)
      · refine lv_aload_n hC.1 hC.2.1 dX7_keep_64 rfl (lv_at hl 1 rfl) ?_
        refine lv_iload_n hC.1 hC.2.1 dX7_keep_65 rfl (lv_at hl 2 rfl) ?_
        refine lv_iload_n hC.1 hC.2.1 dX7_keep_66 rfl (lv_at hl 3 rfl) ?_
        refine q_addN hC dX7_keep_67 ?_
        refine lv_aload_n hC.1 hC.2.1 dX7_keep_68 rfl (lv_at hl 0 rfl) ?_
        refine gf_X7_16 hC hw dX7_keep_69 ?_
        refine gf_X7_49 hC hw dX7_keep_72 ?_
        refine lv_iload_n hC.1 hC.2.1 dX7_keep_75 rfl (lv_at hl 3 rfl) ?_
        refine al_X4 (v := σ 4 h) hC hw (by omega) rfl dX7_keep_76 ?_
        have J85_10 : ∀ (w9 : Int32), w9 = (if ¬ (σ 4 h = 0) then (1 : Int32) else 0) → ∀ (H : Heap) (locs : List Loc) (ls : Array Slot), Wst E (XW E a) (sr σ 37 (upc (σ 4) h (va_cpy (σ 15) (upd (upd (upd (σ 37) 0 (σ 0 0)) 1 (σ 0 1)) 2 (σ 0 2)) 0 3 3))) A s.heap H locs → lv_has ls 4 [(0, .ref (a 68)), (1, .ref (a 37)), (2, .int (nI (3 + 3))), (3, .int (nI h))] → W p l e ({ frames := 1, cells := 0, slots := 0, locals := 24 }) s m args below meth c H locs 0 0 Q (F0 m 85 ls [.int (w9), .int (nI ((3 + 3) + h)), .ref (a 37)]) := by
          intro w9 e10 H locs ls hw hl
          subst e10
          refine q_ast (Wf := XW E a) 47 rfl (by decide) (XW_s37 _) hC hw (by omega) dX7_keep_85 (fun H locs hw => ?_)
          have hw : Wst E (XW E a) (sr (sr σ 37 (upc (σ 4) h (va_cpy (σ 15) (upd (upd (upd (σ 37) 0 (σ 0 0)) 1 (σ 0 1)) 2 (σ 0 2)) 0 3 3))) 37 (upd (upc (σ 4) h (va_cpy (σ 15) (upd (upd (upd (σ 37) 0 (σ 0 0)) 1 (σ 0 1)) 2 (σ 0 2)) 0 3 3)) ((3 + 3) + h) (if ¬ (σ 4 h = 0) then (1 : Int32) else 0))) A s.heap H locs := hw
          have hst_ : sr (sr σ 37 (upc (σ 4) h (va_cpy (σ 15) (upd (upd (upd (σ 37) 0 (σ 0 0)) 1 (σ 0 1)) 2 (σ 0 2)) 0 3 3))) 37 (upd (upc (σ 4) h (va_cpy (σ 15) (upd (upd (upd (σ 37) 0 (σ 0 0)) 1 (σ 0 1)) 2 (σ 0 2)) 0 3 3)) ((3 + 3) + h) (if ¬ (σ 4 h = 0) then (1 : Int32) else 0)) = sr σ 37 (upd (upc (σ 4) h (va_cpy (σ 15) (upd (upd (upd (σ 37) 0 (σ 0 0)) 1 (σ 0 1)) 2 (σ 0 2)) 0 3 3)) ((3 + 3) + h) (if ¬ (σ 4 h = 0) then (1 : Int32) else 0)) := by
            funext j_ x_
            by_cases e0 : j_ = 0
            · subst e0
              rfl
            · by_cases e37 : j_ = 37
              · subst e37; rfl
              · simp only [sr, e0, e37, if_false]
          rw [hst_] at hw
          refine lv_iinc (v := nI (h + 1)) (lv' := [(3, .int (nI (h + 1))), (0, .ref (a 68)), (1, .ref (a 37)), (2, .int (nI (3 + 3)))]) hC.1 hC.2.1 dX7_keep_86 hl (k := 3) rfl (nI_add _ _) (by decide) rfl (fun ls hl => ?_)
          refine lv_goto (tgt := 58) hC.1 hC.2.1 dX7_keep_89 (by decide) ?_
          rw [upc_s] at hw
          exact ih58 (h + 1) (by omega) (by omega) _ _ _ hw (lv_sub hl [1, 2, 3, 0] rfl)
        refine q_ifeq hC 84 cI dX7_keep_77 (by decide) (fun (c11 : σ 4 h = 0) => ?_) (fun (c11 : ¬ (σ 4 h = 0)) => ?_)
        · refine lv_iconst (v := nI 0) hC.1 hC.2.1 dX7_keep_84 (by decide) ?_
          exact J85_10 _ (if_neg (fun q => q c11)).symm _ _ _ hw (lv_sub hl [0, 1, 2, 3] rfl)
        · refine lv_iconst (v := nI 1) hC.1 hC.2.1 dX7_keep_80 (by decide) ?_
          refine lv_goto (tgt := 85) hC.1 hC.2.1 dX7_keep_81 (by decide) ?_
          exact J85_10 _ (if_pos c11).symm _ _ _ hw (lv_sub hl [0, 1, 2, 3] rfl)
  rw [← upc_0 (σ 4) (va_cpy (σ 15) (upd (upd (upd (σ 37) 0 (σ 0 0)) 1 (σ 0 1)) 2 (σ 0 2)) 0 3 3)] at hw
  exact L58_0 _ 0 (by omega) (Nat.lt_succ_self _) _ _ _ hw (lv_sub hl [3, 2, 1, 0] rfl)
set_option maxHeartbeats 4000000 in
set_option maxRecDepth 100000 in
theorem tX7_keep_k8 (l : Launch) (E : EV) (a : Nat → Nat) (σ : St) (kp : Nat) (hnx : σ 0 3 = nI 8) (hkp : σ 0 4 = nI kp) (hk30 : kp ≤ 30) : MV l E (XW E a) yX7_keep (Cond.code yX7_keep cX7_keep 4 none) ({ frames := 1, cells := 0, slots := 0, locals := 24 }) [.ref (a 68)] σ (fun u_ => u_ = sr (sr σ 38 (kpr σ (σ 38))) 0 (upd (upd (σ 0) 3 (nI (if 8 ≠ 29 then 8 + 1 else 0))) 4 (nI (if kp ≠ 30 then kp + 1 else kp)))) := by
  refine MV.mk (by decide +kernel) (Nat.le_of_ble_eq_true rfl) ?_
  intro p e s m args below meth c ls A Q hret hC hw hl
  have hC : Cxt E p s m args meth c cX7_keep 4 none RX7 A := hC
  have hl : lv_has ls 4 [(0, .ref (a 68))] := hl
  refine lv_aload_n hC.1 hC.2.1 dX7_keep_0 rfl (lv_at hl 0 rfl) ?_
  refine gf_X7_13 hC hw dX7_keep_1 ?_
  refine lv_aload_n hC.1 hC.2.1 dX7_keep_4 rfl (lv_at hl 0 rfl) ?_
  refine gf_X7_28 (v := nI 8) hC hw hnx dX7_keep_5 ?_
  refine q_aald hC hw (i := 8) (by decide) dX7_keep_8 ?_
  refine lv_astore_n (lv' := [(1, .ref (a 38)), (0, .ref (a 68))]) hC.1 hC.2.1 dX7_keep_9 rfl hl (by decide) rfl (fun ls hl => ?_)
  refine lv_aload_n hC.1 hC.2.1 dX7_keep_10 rfl (lv_at hl 0 rfl) ?_
  refine lv_iconst (v := nI 0) hC.1 hC.2.1 dX7_keep_11 (by decide) ?_
  refine lv_aload_n hC.1 hC.2.1 dX7_keep_12 rfl (lv_at hl 1 rfl) ?_
  refine gf_X7_16 hC hw dX7_keep_13 ?_
  refine gf_X7_32 (v := σ 0 0) hC hw rfl dX7_keep_16 ?_
  refine q_ast (Wf := XW E a) 48 rfl (by decide) (XW_s38 _) hC hw (by omega) dX7_keep_19 (fun H locs hw => ?_)
  have hw : Wst E (XW E a) (sr σ 38 (upd (σ 38) 0 (σ 0 0))) A s.heap H locs := hw
  refine lv_aload_n hC.1 hC.2.1 dX7_keep_20 rfl (lv_at hl 0 rfl) ?_
  refine lv_iconst (v := nI 1) hC.1 hC.2.1 dX7_keep_21 (by decide) ?_
  refine lv_aload_n hC.1 hC.2.1 dX7_keep_22 rfl (lv_at hl 1 rfl) ?_
  refine gf_X7_20 hC hw dX7_keep_23 ?_
  refine gf_X7_37 (v := σ 0 1) hC hw rfl dX7_keep_26 ?_
  refine q_ast (Wf := XW E a) 48 rfl (by decide) (XW_s38 _) hC hw (by omega) dX7_keep_29 (fun H locs hw => ?_)
  have hw : Wst E (XW E a) (sr (sr σ 38 (upd (σ 38) 0 (σ 0 0))) 38 (upd (upd (σ 38) 0 (σ 0 0)) 1 (σ 0 1))) A s.heap H locs := hw
  have hst_ : sr (sr σ 38 (upd (σ 38) 0 (σ 0 0))) 38 (upd (upd (σ 38) 0 (σ 0 0)) 1 (σ 0 1)) = sr σ 38 (upd (upd (σ 38) 0 (σ 0 0)) 1 (σ 0 1)) := by
    funext j_ x_
    by_cases e0 : j_ = 0
    · subst e0
      rfl
    · by_cases e38 : j_ = 38
      · subst e38; rfl
      · simp only [sr, e0, e38, if_false]
  rw [hst_] at hw
  refine lv_aload_n hC.1 hC.2.1 dX7_keep_30 rfl (lv_at hl 0 rfl) ?_
  refine lv_iconst (v := nI 2) hC.1 hC.2.1 dX7_keep_31 (by decide) ?_
  refine lv_aload_n hC.1 hC.2.1 dX7_keep_32 rfl (lv_at hl 1 rfl) ?_
  refine gf_X7_20 hC hw dX7_keep_33 ?_
  refine gf_X7_40 (v := σ 0 2) hC hw rfl dX7_keep_36 ?_
  refine q_ast (Wf := XW E a) 48 rfl (by decide) (XW_s38 _) hC hw (by omega) dX7_keep_39 (fun H locs hw => ?_)
  have hw : Wst E (XW E a) (sr (sr σ 38 (upd (upd (σ 38) 0 (σ 0 0)) 1 (σ 0 1))) 38 (upd (upd (upd (σ 38) 0 (σ 0 0)) 1 (σ 0 1)) 2 (σ 0 2))) A s.heap H locs := hw
  have hst_ : sr (sr σ 38 (upd (upd (σ 38) 0 (σ 0 0)) 1 (σ 0 1))) 38 (upd (upd (upd (σ 38) 0 (σ 0 0)) 1 (σ 0 1)) 2 (σ 0 2)) = sr σ 38 (upd (upd (upd (σ 38) 0 (σ 0 0)) 1 (σ 0 1)) 2 (σ 0 2)) := by
    funext j_ x_
    by_cases e0 : j_ = 0
    · subst e0
      rfl
    · by_cases e38 : j_ = 38
      · subst e38; rfl
      · simp only [sr, e0, e38, if_false]
  rw [hst_] at hw
  refine lv_iconst (v := nI 3) hC.1 hC.2.1 dX7_keep_40 (by decide) ?_
  refine lv_istore_n (lv' := [(2, .int (nI 3)), (1, .ref (a 38)), (0, .ref (a 68))]) hC.1 hC.2.1 dX7_keep_41 rfl hl (by decide) rfl (fun ls hl => ?_)
  refine lv_aload_n hC.1 hC.2.1 dX7_keep_42 rfl (lv_at hl 2 rfl) ?_
  refine gf_X7_24 hC hw dX7_keep_43 ?_
  refine lv_iconst (v := nI 0) hC.1 hC.2.1 dX7_keep_46 (by decide) ?_
  refine lv_aload_n hC.1 hC.2.1 dX7_keep_47 rfl (lv_at hl 1 rfl) ?_
  refine lv_iload_n hC.1 hC.2.1 dX7_keep_48 rfl (lv_at hl 0 rfl) ?_
  refine lv_iconst (v := nI 3) hC.1 hC.2.1 dX7_keep_49 (by decide) ?_
  refine q_cpy (sp := 0) (dp := 3) (n := 3) 25 rfl 48 rfl (XW_s38 _) hC hw hl (by omega) (by omega) (by decide) (by decide) ⟨Nat.le_of_ble_eq_true rfl, Nat.le_of_ble_eq_true rfl⟩ wk2_182 dX7_keep_50 (fun H locs hw => ?_)
  have hw : Wst E (XW E a) (sr (sr σ 38 (upd (upd (upd (σ 38) 0 (σ 0 0)) 1 (σ 0 1)) 2 (σ 0 2))) 38 (va_cpy (σ 15) (upd (upd (upd (σ 38) 0 (σ 0 0)) 1 (σ 0 1)) 2 (σ 0 2)) 0 3 3)) A s.heap H locs := hw
  have hst_ : sr (sr σ 38 (upd (upd (upd (σ 38) 0 (σ 0 0)) 1 (σ 0 1)) 2 (σ 0 2))) 38 (va_cpy (σ 15) (upd (upd (upd (σ 38) 0 (σ 0 0)) 1 (σ 0 1)) 2 (σ 0 2)) 0 3 3) = sr σ 38 (va_cpy (σ 15) (upd (upd (upd (σ 38) 0 (σ 0 0)) 1 (σ 0 1)) 2 (σ 0 2)) 0 3 3) := by
    funext j_ x_
    by_cases e0 : j_ = 0
    · subst e0
      rfl
    · by_cases e38 : j_ = 38
      · subst e38; rfl
      · simp only [sr, e0, e38, if_false]
  rw [hst_] at hw
  refine lv_iinc (v := nI (3 + 3)) (lv' := [(2, .int (nI (3 + 3))), (1, .ref (a 38)), (0, .ref (a 68))]) hC.1 hC.2.1 dX7_keep_53 hl (k := 0) rfl (nI_add _ _) (by decide) rfl (fun ls hl => ?_)
  refine lv_iconst (v := nI 0) hC.1 hC.2.1 dX7_keep_56 (by decide) ?_
  refine lv_istore_n (lv' := [(3, .int (nI 0)), (2, .int (nI (3 + 3))), (1, .ref (a 38)), (0, .ref (a 68))]) hC.1 hC.2.1 dX7_keep_57 rfl hl (by decide) rfl (fun ls hl => ?_)
  have L58_0 : ∀ (n : Nat), ∀ (h : Nat), (h ≤ 10) → (10 - h) < n → ∀ (H : Heap) (locs : List Loc) (ls : Array Slot), Wst E (XW E a) (sr σ 38 (upc (σ 4) h (va_cpy (σ 15) (upd (upd (upd (σ 38) 0 (σ 0 0)) 1 (σ 0 1)) 2 (σ 0 2)) 0 3 3))) A s.heap H locs → lv_has ls 4 [(0, .ref (a 68)), (1, .ref (a 38)), (2, .int (nI (3 + 3))), (3, .int (nI h))] → W p l e ({ frames := 1, cells := 0, slots := 0, locals := 24 }) s m args below meth c H locs 0 0 Q (F0 m 58 ls []) := by
    intro n
    induction n with
    | zero => intro h hh hn; exact absurd hn (Nat.not_lt_zero _)
    | succ n ih58 =>
      intro h hh hn58 H locs ls hw hl
      refine lv_iload_n hC.1 hC.2.1 dX7_keep_58 rfl (lv_at hl 3 rfl) ?_
      refine lv_bipush (v := nI 10) hC.1 hC.2.1 dX7_keep_59 (by decide) ?_
      refine q_cmpge hC 92 (cNle (by omega) (by omega)) dX7_keep_61 (by decide) (fun (c2 : 10 ≤ h) => ?_) (fun (c2 : h < 10) => ?_)
      · have hh9 : h = 10 := by omega
        rw [hh9] at hw
        refine lv_iinc (v := nI (3 + 3 + 10)) (lv' := [(2, .int (nI (3 + 3 + 10))), (0, .ref (a 68)), (1, .ref (a 38)), (3, .int (nI h))]) hC.1 hC.2.1 dX7_keep_92 hl (k := 2) rfl (nI_add _ _) (by decide) rfl (fun ls hl => ?_)
        refine lv_aload_n hC.1 hC.2.1 dX7_keep_95 rfl (lv_at hl 1 rfl) ?_
        refine gf_X7_20 hC hw dX7_keep_96 ?_
        refine gf_X7_53 hC hw dX7_keep_99 ?_
        refine lv_iconst (v := nI 0) hC.1 hC.2.1 dX7_keep_102 (by decide) ?_
        refine lv_aload_n hC.1 hC.2.1 dX7_keep_103 rfl (lv_at hl 2 rfl) ?_
        refine lv_iload_n hC.1 hC.2.1 dX7_keep_104 rfl (lv_at hl 0 rfl) ?_
        refine lv_bipush (v := nI 24) hC.1 hC.2.1 dX7_keep_105 (by decide) ?_
        refine q_cpy (sp := 0) (dp := (3 + 3 + 10)) (n := 24) 21 rfl 48 rfl (XW_s38 _) hC hw hl (by omega) (by omega) (by decide) (by decide) ⟨Nat.le_of_ble_eq_true rfl, Nat.le_of_ble_eq_true rfl⟩ wk2_182 dX7_keep_107 (fun H locs hw => ?_)
        have hw : Wst E (XW E a) (sr (sr σ 38 (upc (σ 4) 10 (va_cpy (σ 15) (upd (upd (upd (σ 38) 0 (σ 0 0)) 1 (σ 0 1)) 2 (σ 0 2)) 0 3 3))) 38 (va_cpy (σ 11) (upc (σ 4) 10 (va_cpy (σ 15) (upd (upd (upd (σ 38) 0 (σ 0 0)) 1 (σ 0 1)) 2 (σ 0 2)) 0 3 3)) 0 (3 + 3 + 10) 24)) A s.heap H locs := hw
        have hst_ : sr (sr σ 38 (upc (σ 4) 10 (va_cpy (σ 15) (upd (upd (upd (σ 38) 0 (σ 0 0)) 1 (σ 0 1)) 2 (σ 0 2)) 0 3 3))) 38 (va_cpy (σ 11) (upc (σ 4) 10 (va_cpy (σ 15) (upd (upd (upd (σ 38) 0 (σ 0 0)) 1 (σ 0 1)) 2 (σ 0 2)) 0 3 3)) 0 (3 + 3 + 10) 24) = sr σ 38 (va_cpy (σ 11) (upc (σ 4) 10 (va_cpy (σ 15) (upd (upd (upd (σ 38) 0 (σ 0 0)) 1 (σ 0 1)) 2 (σ 0 2)) 0 3 3)) 0 (3 + 3 + 10) 24) := by
          funext j_ x_
          by_cases e0 : j_ = 0
          · subst e0
            rfl
          · by_cases e38 : j_ = 38
            · subst e38; rfl
            · simp only [sr, e0, e38, if_false]
        rw [hst_] at hw
        refine lv_aload_n hC.1 hC.2.1 dX7_keep_110 rfl (lv_at hl 1 rfl) ?_
        refine gf_X7_20 hC hw dX7_keep_111 ?_
        refine gf_X7_56 hC hw dX7_keep_114 ?_
        refine lv_iconst (v := nI 0) hC.1 hC.2.1 dX7_keep_117 (by decide) ?_
        refine lv_aload_n hC.1 hC.2.1 dX7_keep_118 rfl (lv_at hl 2 rfl) ?_
        refine lv_iload_n hC.1 hC.2.1 dX7_keep_119 rfl (lv_at hl 0 rfl) ?_
        refine lv_bipush (v := nI 24) hC.1 hC.2.1 dX7_keep_120 (by decide) ?_
        refine q_addN hC dX7_keep_122 ?_
        refine lv_bipush (v := nI 24) hC.1 hC.2.1 dX7_keep_123 (by decide) ?_
        refine q_cpy (sp := 0) (dp := ((3 + 3 + 10) + 24)) (n := 24) 22 rfl 48 rfl (XW_s38 _) hC hw hl (by omega) (by omega) (by decide) (by decide) ⟨Nat.le_of_ble_eq_true rfl, Nat.le_of_ble_eq_true rfl⟩ wk2_182 dX7_keep_125 (fun H locs hw => ?_)
        have hw : Wst E (XW E a) (sr (sr σ 38 (va_cpy (σ 11) (upc (σ 4) 10 (va_cpy (σ 15) (upd (upd (upd (σ 38) 0 (σ 0 0)) 1 (σ 0 1)) 2 (σ 0 2)) 0 3 3)) 0 (3 + 3 + 10) 24)) 38 (va_cpy (σ 12) (va_cpy (σ 11) (upc (σ 4) 10 (va_cpy (σ 15) (upd (upd (upd (σ 38) 0 (σ 0 0)) 1 (σ 0 1)) 2 (σ 0 2)) 0 3 3)) 0 (3 + 3 + 10) 24) 0 ((3 + 3 + 10) + 24) 24)) A s.heap H locs := hw
        have hst_ : sr (sr σ 38 (va_cpy (σ 11) (upc (σ 4) 10 (va_cpy (σ 15) (upd (upd (upd (σ 38) 0 (σ 0 0)) 1 (σ 0 1)) 2 (σ 0 2)) 0 3 3)) 0 (3 + 3 + 10) 24)) 38 (va_cpy (σ 12) (va_cpy (σ 11) (upc (σ 4) 10 (va_cpy (σ 15) (upd (upd (upd (σ 38) 0 (σ 0 0)) 1 (σ 0 1)) 2 (σ 0 2)) 0 3 3)) 0 (3 + 3 + 10) 24) 0 ((3 + 3 + 10) + 24) 24) = sr σ 38 (va_cpy (σ 12) (va_cpy (σ 11) (upc (σ 4) 10 (va_cpy (σ 15) (upd (upd (upd (σ 38) 0 (σ 0 0)) 1 (σ 0 1)) 2 (σ 0 2)) 0 3 3)) 0 (3 + 3 + 10) 24) 0 ((3 + 3 + 10) + 24) 24) := by
          funext j_ x_
          by_cases e0 : j_ = 0
          · subst e0
            rfl
          · by_cases e38 : j_ = 38
            · subst e38; rfl
            · simp only [sr, e0, e38, if_false]
        rw [hst_] at hw
        refine lv_aload_n hC.1 hC.2.1 dX7_keep_128 rfl (lv_at hl 1 rfl) ?_
        refine gf_X7_20 hC hw dX7_keep_129 ?_
        refine gf_X7_59 hC hw dX7_keep_132 ?_
        refine lv_iconst (v := nI 0) hC.1 hC.2.1 dX7_keep_135 (by decide) ?_
        refine lv_aload_n hC.1 hC.2.1 dX7_keep_136 rfl (lv_at hl 2 rfl) ?_
        refine lv_iload_n hC.1 hC.2.1 dX7_keep_137 rfl (lv_at hl 0 rfl) ?_
        refine lv_bipush (v := nI 48) hC.1 hC.2.1 dX7_keep_138 (by decide) ?_
        refine q_addN hC dX7_keep_140 ?_
        refine lv_bipush (v := nI 24) hC.1 hC.2.1 dX7_keep_141 (by decide) ?_
        refine q_cpy (sp := 0) (dp := ((3 + 3 + 10) + 48)) (n := 24) 23 rfl 48 rfl (XW_s38 _) hC hw hl (by omega) (by omega) (by decide) (by decide) ⟨Nat.le_of_ble_eq_true rfl, Nat.le_of_ble_eq_true rfl⟩ wk2_182 dX7_keep_143 (fun H locs hw => ?_)
        have hw : Wst E (XW E a) (sr (sr σ 38 (va_cpy (σ 12) (va_cpy (σ 11) (upc (σ 4) 10 (va_cpy (σ 15) (upd (upd (upd (σ 38) 0 (σ 0 0)) 1 (σ 0 1)) 2 (σ 0 2)) 0 3 3)) 0 (3 + 3 + 10) 24) 0 ((3 + 3 + 10) + 24) 24)) 38 (va_cpy (σ 13) (va_cpy (σ 12) (va_cpy (σ 11) (upc (σ 4) 10 (va_cpy (σ 15) (upd (upd (upd (σ 38) 0 (σ 0 0)) 1 (σ 0 1)) 2 (σ 0 2)) 0 3 3)) 0 (3 + 3 + 10) 24) 0 ((3 + 3 + 10) + 24) 24) 0 ((3 + 3 + 10) + 48) 24)) A s.heap H locs := hw
        have hst_ : sr (sr σ 38 (va_cpy (σ 12) (va_cpy (σ 11) (upc (σ 4) 10 (va_cpy (σ 15) (upd (upd (upd (σ 38) 0 (σ 0 0)) 1 (σ 0 1)) 2 (σ 0 2)) 0 3 3)) 0 (3 + 3 + 10) 24) 0 ((3 + 3 + 10) + 24) 24)) 38 (va_cpy (σ 13) (va_cpy (σ 12) (va_cpy (σ 11) (upc (σ 4) 10 (va_cpy (σ 15) (upd (upd (upd (σ 38) 0 (σ 0 0)) 1 (σ 0 1)) 2 (σ 0 2)) 0 3 3)) 0 (3 + 3 + 10) 24) 0 ((3 + 3 + 10) + 24) 24) 0 ((3 + 3 + 10) + 48) 24) = sr σ 38 (va_cpy (σ 13) (va_cpy (σ 12) (va_cpy (σ 11) (upc (σ 4) 10 (va_cpy (σ 15) (upd (upd (upd (σ 38) 0 (σ 0 0)) 1 (σ 0 1)) 2 (σ 0 2)) 0 3 3)) 0 (3 + 3 + 10) 24) 0 ((3 + 3 + 10) + 24) 24) 0 ((3 + 3 + 10) + 48) 24) := by
          funext j_ x_
          by_cases e0 : j_ = 0
          · subst e0
            rfl
          · by_cases e38 : j_ = 38
            · subst e38; rfl
            · simp only [sr, e0, e38, if_false]
        rw [hst_] at hw
        refine lv_aload_n hC.1 hC.2.1 dX7_keep_146 rfl (lv_at hl 1 rfl) ?_
        refine gf_X7_20 hC hw dX7_keep_147 ?_
        refine gf_X7_62 hC hw dX7_keep_150 ?_
        refine lv_iconst (v := nI 0) hC.1 hC.2.1 dX7_keep_153 (by decide) ?_
        refine lv_aload_n hC.1 hC.2.1 dX7_keep_154 rfl (lv_at hl 2 rfl) ?_
        refine lv_iload_n hC.1 hC.2.1 dX7_keep_155 rfl (lv_at hl 0 rfl) ?_
        refine lv_bipush (v := nI 72) hC.1 hC.2.1 dX7_keep_156 (by decide) ?_
        refine q_addN hC dX7_keep_158 ?_
        refine lv_bipush (v := nI 24) hC.1 hC.2.1 dX7_keep_159 (by decide) ?_
        refine q_cpy (sp := 0) (dp := ((3 + 3 + 10) + 72)) (n := 24) 24 rfl 48 rfl (XW_s38 _) hC hw hl (by omega) (by omega) (by decide) (by decide) ⟨Nat.le_of_ble_eq_true rfl, Nat.le_of_ble_eq_true rfl⟩ wk2_182 dX7_keep_161 (fun H locs hw => ?_)
        have hw : Wst E (XW E a) (sr (sr σ 38 (va_cpy (σ 13) (va_cpy (σ 12) (va_cpy (σ 11) (upc (σ 4) 10 (va_cpy (σ 15) (upd (upd (upd (σ 38) 0 (σ 0 0)) 1 (σ 0 1)) 2 (σ 0 2)) 0 3 3)) 0 (3 + 3 + 10) 24) 0 ((3 + 3 + 10) + 24) 24) 0 ((3 + 3 + 10) + 48) 24)) 38 (va_cpy (σ 14) (va_cpy (σ 13) (va_cpy (σ 12) (va_cpy (σ 11) (upc (σ 4) 10 (va_cpy (σ 15) (upd (upd (upd (σ 38) 0 (σ 0 0)) 1 (σ 0 1)) 2 (σ 0 2)) 0 3 3)) 0 (3 + 3 + 10) 24) 0 ((3 + 3 + 10) + 24) 24) 0 ((3 + 3 + 10) + 48) 24) 0 ((3 + 3 + 10) + 72) 24)) A s.heap H locs := hw
        have hst_ : sr (sr σ 38 (va_cpy (σ 13) (va_cpy (σ 12) (va_cpy (σ 11) (upc (σ 4) 10 (va_cpy (σ 15) (upd (upd (upd (σ 38) 0 (σ 0 0)) 1 (σ 0 1)) 2 (σ 0 2)) 0 3 3)) 0 (3 + 3 + 10) 24) 0 ((3 + 3 + 10) + 24) 24) 0 ((3 + 3 + 10) + 48) 24)) 38 (va_cpy (σ 14) (va_cpy (σ 13) (va_cpy (σ 12) (va_cpy (σ 11) (upc (σ 4) 10 (va_cpy (σ 15) (upd (upd (upd (σ 38) 0 (σ 0 0)) 1 (σ 0 1)) 2 (σ 0 2)) 0 3 3)) 0 (3 + 3 + 10) 24) 0 ((3 + 3 + 10) + 24) 24) 0 ((3 + 3 + 10) + 48) 24) 0 ((3 + 3 + 10) + 72) 24) = sr σ 38 (va_cpy (σ 14) (va_cpy (σ 13) (va_cpy (σ 12) (va_cpy (σ 11) (upc (σ 4) 10 (va_cpy (σ 15) (upd (upd (upd (σ 38) 0 (σ 0 0)) 1 (σ 0 1)) 2 (σ 0 2)) 0 3 3)) 0 (3 + 3 + 10) 24) 0 ((3 + 3 + 10) + 24) 24) 0 ((3 + 3 + 10) + 48) 24) 0 ((3 + 3 + 10) + 72) 24) := by
          funext j_ x_
          by_cases e0 : j_ = 0
          · subst e0
            rfl
          · by_cases e38 : j_ = 38
            · subst e38; rfl
            · simp only [sr, e0, e38, if_false]
        rw [hst_] at hw
        refine lv_aload_n hC.1 hC.2.1 dX7_keep_164 rfl (lv_at hl 1 rfl) ?_
        refine lv_aload_n hC.1 hC.2.1 dX7_keep_165 rfl (lv_at hl 1 rfl) ?_
        refine gf_X7_28 (v := nI 8) hC hw hnx dX7_keep_166 ?_
        refine lv_bipush (v := nI 29) hC.1 hC.2.1 dX7_keep_169 (by decide) ?_
        have J184_4 : ∀ (w3 : Nat), w3 = (if 8 ≠ 29 then (8 + 1) else 0) → ∀ (H : Heap) (locs : List Loc) (ls : Array Slot), Wst E (XW E a) (sr σ 38 (va_cpy (σ 14) (va_cpy (σ 13) (va_cpy (σ 12) (va_cpy (σ 11) (upc (σ 4) 10 (va_cpy (σ 15) (upd (upd (upd (σ 38) 0 (σ 0 0)) 1 (σ 0 1)) 2 (σ 0 2)) 0 3 3)) 0 (3 + 3 + 10) 24) 0 ((3 + 3 + 10) + 24) 24) 0 ((3 + 3 + 10) + 48) 24) 0 ((3 + 3 + 10) + 72) 24)) A s.heap H locs → lv_has ls 4 [(0, .ref (a 68)), (1, .ref (a 38)), (2, .int (nI (3 + 3 + 10))), (3, .int (nI h))] → W p l e ({ frames := 1, cells := 0, slots := 0, locals := 24 }) s m args below meth c H locs 0 0 Q (F0 m 184 ls [.int (nI w3), .ref (a 68)]) := by
          intro w3 e4 H locs ls hw hl
          subst e4
          refine pf_X7_28 hC hw dX7_keep_184 (fun H locs hw => ?_)
          have hw : Wst E (XW E a) (sr (sr σ 38 (va_cpy (σ 14) (va_cpy (σ 13) (va_cpy (σ 12) (va_cpy (σ 11) (upc (σ 4) 10 (va_cpy (σ 15) (upd (upd (upd (σ 38) 0 (σ 0 0)) 1 (σ 0 1)) 2 (σ 0 2)) 0 3 3)) 0 (3 + 3 + 10) 24) 0 ((3 + 3 + 10) + 24) 24) 0 ((3 + 3 + 10) + 48) 24) 0 ((3 + 3 + 10) + 72) 24)) 0 (upd (σ 0) 3 (nI (if 8 ≠ 29 then (8 + 1) else 0)))) A s.heap H locs := hw
          refine lv_aload_n hC.1 hC.2.1 dX7_keep_187 rfl (lv_at hl 0 rfl) ?_
          refine lv_aload_n hC.1 hC.2.1 dX7_keep_188 rfl (lv_at hl 0 rfl) ?_
          refine gf_X7_65 (v := nI kp) hC hw hkp dX7_keep_189 ?_
          refine lv_bipush (v := nI 30) hC.1 hC.2.1 dX7_keep_192 (by decide) ?_
          have J210_6 : ∀ (w5 : Nat), w5 = (if kp ≠ 30 then (kp + 1) else kp) → ∀ (H : Heap) (locs : List Loc) (ls : Array Slot), Wst E (XW E a) (sr (sr σ 38 (va_cpy (σ 14) (va_cpy (σ 13) (va_cpy (σ 12) (va_cpy (σ 11) (upc (σ 4) 10 (va_cpy (σ 15) (upd (upd (upd (σ 38) 0 (σ 0 0)) 1 (σ 0 1)) 2 (σ 0 2)) 0 3 3)) 0 (3 + 3 + 10) 24) 0 ((3 + 3 + 10) + 24) 24) 0 ((3 + 3 + 10) + 48) 24) 0 ((3 + 3 + 10) + 72) 24)) 0 (upd (σ 0) 3 (nI (if 8 ≠ 29 then (8 + 1) else 0)))) A s.heap H locs → lv_has ls 4 [(0, .ref (a 68)), (1, .ref (a 38)), (2, .int (nI (3 + 3 + 10))), (3, .int (nI h))] → W p l e ({ frames := 1, cells := 0, slots := 0, locals := 24 }) s m args below meth c H locs 0 0 Q (F0 m 210 ls [.int (nI w5), .ref (a 68)]) := by
            intro w5 e6 H locs ls hw hl
            subst e6
            refine pf_X7_65 hC hw dX7_keep_210 (fun H locs hw => ?_)
            have hw : Wst E (XW E a) (sr (sr (sr σ 38 (va_cpy (σ 14) (va_cpy (σ 13) (va_cpy (σ 12) (va_cpy (σ 11) (upc (σ 4) 10 (va_cpy (σ 15) (upd (upd (upd (σ 38) 0 (σ 0 0)) 1 (σ 0 1)) 2 (σ 0 2)) 0 3 3)) 0 (3 + 3 + 10) 24) 0 ((3 + 3 + 10) + 24) 24) 0 ((3 + 3 + 10) + 48) 24) 0 ((3 + 3 + 10) + 72) 24)) 0 (upd (σ 0) 3 (nI (if 8 ≠ 29 then (8 + 1) else 0)))) 0 (upd (upd (σ 0) 3 (nI (if 8 ≠ 29 then (8 + 1) else 0))) 4 (nI (if kp ≠ 30 then (kp + 1) else kp)))) A s.heap H locs := hw
            have hst_ : sr (sr (sr σ 38 (va_cpy (σ 14) (va_cpy (σ 13) (va_cpy (σ 12) (va_cpy (σ 11) (upc (σ 4) 10 (va_cpy (σ 15) (upd (upd (upd (σ 38) 0 (σ 0 0)) 1 (σ 0 1)) 2 (σ 0 2)) 0 3 3)) 0 (3 + 3 + 10) 24) 0 ((3 + 3 + 10) + 24) 24) 0 ((3 + 3 + 10) + 48) 24) 0 ((3 + 3 + 10) + 72) 24)) 0 (upd (σ 0) 3 (nI (if 8 ≠ 29 then (8 + 1) else 0)))) 0 (upd (upd (σ 0) 3 (nI (if 8 ≠ 29 then (8 + 1) else 0))) 4 (nI (if kp ≠ 30 then (kp + 1) else kp))) = sr (sr σ 38 (va_cpy (σ 14) (va_cpy (σ 13) (va_cpy (σ 12) (va_cpy (σ 11) (upc (σ 4) 10 (va_cpy (σ 15) (upd (upd (upd (σ 38) 0 (σ 0 0)) 1 (σ 0 1)) 2 (σ 0 2)) 0 3 3)) 0 (3 + 3 + 10) 24) 0 ((3 + 3 + 10) + 24) 24) 0 ((3 + 3 + 10) + 48) 24) 0 ((3 + 3 + 10) + 72) 24)) 0 (upd (upd (σ 0) 3 (nI (if 8 ≠ 29 then (8 + 1) else 0))) 4 (nI (if kp ≠ 30 then (kp + 1) else kp))) := by
              funext j_ x_
              by_cases e0 : j_ = 0
              · subst e0
                by_cases y3 : x_ = 3
                · subst y3; rfl
                · by_cases y4 : x_ = 4
                  · subst y4; rfl
                  · simp [sr, upd, y3, y4]
              · by_cases e38 : j_ = 38
                · subst e38; rfl
                · simp only [sr, e0, e38, if_false]
            rw [hst_] at hw
            refine hret _ _ _ _ _ hw ?_ dX7_keep_213
            exact rfl
          refine q_cmpne hC 204 (cNeq (by omega) (by omega)) dX7_keep_194 (by decide) (fun (c7 : kp ≠ 30) => ?_) (fun (c7 : kp = 30) => ?_)
          · refine lv_aload_n hC.1 hC.2.1 dX7_keep_204 rfl (lv_at hl 0 rfl) ?_
            refine gf_X7_65 (v := nI kp) hC hw hkp dX7_keep_205 ?_
            refine lv_iconst (v := nI 1) hC.1 hC.2.1 dX7_keep_208 (by decide) ?_
            refine q_addN hC dX7_keep_209 ?_
            exact J210_6 _ (by (rw [if_pos c7]) <;> rfl) _ _ _ hw (lv_sub hl [0, 1, 2, 3] rfl)
          · refine lv_aload_n hC.1 hC.2.1 dX7_keep_197 rfl (lv_at hl 0 rfl) ?_
            refine gf_X7_65 (v := nI kp) hC hw hkp dX7_keep_198 ?_
            refine lv_goto (tgt := 210) hC.1 hC.2.1 dX7_keep_201 (by decide) ?_
            exact J210_6 _ (by (rw [if_neg (fun q => q c7)]) <;> rfl) _ _ _ hw (lv_sub hl [0, 1, 2, 3] rfl)
        refine q_cmpne hC 178 (cNeq (by omega) (by omega)) dX7_keep_171 (by decide) (fun (c8 : 8 ≠ 29) => ?_) (fun (c8 : 8 = 29) => ?_)
        · refine lv_aload_n hC.1 hC.2.1 dX7_keep_178 rfl (lv_at hl 1 rfl) ?_
          refine gf_X7_28 (v := nI 8) hC hw hnx dX7_keep_179 ?_
          refine lv_iconst (v := nI 1) hC.1 hC.2.1 dX7_keep_182 (by decide) ?_
          refine q_addN hC dX7_keep_183 ?_
          exact J184_4 _ (by (rw [if_pos c8]) <;> rfl) _ _ _ hw (lv_sub hl [1, 2, 0, 3] rfl)
        · refine lv_iconst (v := nI 0) hC.1 hC.2.1 dX7_keep_174 (by decide) ?_
          refine lv_goto (tgt := 184) hC.1 hC.2.1 dX7_keep_175 (by decide) ?_
          exact J184_4 _ (by (rw [if_neg (fun q => q c8)]) <;> rfl) _ _ _ hw (lv_sub hl [1, 2, 0, 3] rfl)
      · refine lv_aload_n hC.1 hC.2.1 dX7_keep_64 rfl (lv_at hl 1 rfl) ?_
        refine lv_iload_n hC.1 hC.2.1 dX7_keep_65 rfl (lv_at hl 2 rfl) ?_
        refine lv_iload_n hC.1 hC.2.1 dX7_keep_66 rfl (lv_at hl 3 rfl) ?_
        refine q_addN hC dX7_keep_67 ?_
        refine lv_aload_n hC.1 hC.2.1 dX7_keep_68 rfl (lv_at hl 0 rfl) ?_
        refine gf_X7_16 hC hw dX7_keep_69 ?_
        refine gf_X7_49 hC hw dX7_keep_72 ?_
        refine lv_iload_n hC.1 hC.2.1 dX7_keep_75 rfl (lv_at hl 3 rfl) ?_
        refine al_X4 (v := σ 4 h) hC hw (by omega) rfl dX7_keep_76 ?_
        have J85_10 : ∀ (w9 : Int32), w9 = (if ¬ (σ 4 h = 0) then (1 : Int32) else 0) → ∀ (H : Heap) (locs : List Loc) (ls : Array Slot), Wst E (XW E a) (sr σ 38 (upc (σ 4) h (va_cpy (σ 15) (upd (upd (upd (σ 38) 0 (σ 0 0)) 1 (σ 0 1)) 2 (σ 0 2)) 0 3 3))) A s.heap H locs → lv_has ls 4 [(0, .ref (a 68)), (1, .ref (a 38)), (2, .int (nI (3 + 3))), (3, .int (nI h))] → W p l e ({ frames := 1, cells := 0, slots := 0, locals := 24 }) s m args below meth c H locs 0 0 Q (F0 m 85 ls [.int (w9), .int (nI ((3 + 3) + h)), .ref (a 38)]) := by
          intro w9 e10 H locs ls hw hl
          subst e10
          refine q_ast (Wf := XW E a) 48 rfl (by decide) (XW_s38 _) hC hw (by omega) dX7_keep_85 (fun H locs hw => ?_)
          have hw : Wst E (XW E a) (sr (sr σ 38 (upc (σ 4) h (va_cpy (σ 15) (upd (upd (upd (σ 38) 0 (σ 0 0)) 1 (σ 0 1)) 2 (σ 0 2)) 0 3 3))) 38 (upd (upc (σ 4) h (va_cpy (σ 15) (upd (upd (upd (σ 38) 0 (σ 0 0)) 1 (σ 0 1)) 2 (σ 0 2)) 0 3 3)) ((3 + 3) + h) (if ¬ (σ 4 h = 0) then (1 : Int32) else 0))) A s.heap H locs := hw
          have hst_ : sr (sr σ 38 (upc (σ 4) h (va_cpy (σ 15) (upd (upd (upd (σ 38) 0 (σ 0 0)) 1 (σ 0 1)) 2 (σ 0 2)) 0 3 3))) 38 (upd (upc (σ 4) h (va_cpy (σ 15) (upd (upd (upd (σ 38) 0 (σ 0 0)) 1 (σ 0 1)) 2 (σ 0 2)) 0 3 3)) ((3 + 3) + h) (if ¬ (σ 4 h = 0) then (1 : Int32) else 0)) = sr σ 38 (upd (upc (σ 4) h (va_cpy (σ 15) (upd (upd (upd (σ 38) 0 (σ 0 0)) 1 (σ 0 1)) 2 (σ 0 2)) 0 3 3)) ((3 + 3) + h) (if ¬ (σ 4 h = 0) then (1 : Int32) else 0)) := by
            funext j_ x_
            by_cases e0 : j_ = 0
            · subst e0
              rfl
            · by_cases e38 : j_ = 38
              · subst e38; rfl
              · simp only [sr, e0, e38, if_false]
          rw [hst_] at hw
          refine lv_iinc (v := nI (h + 1)) (lv' := [(3, .int (nI (h + 1))), (0, .ref (a 68)), (1, .ref (a 38)), (2, .int (nI (3 + 3)))]) hC.1 hC.2.1 dX7_keep_86 hl (k := 3) rfl (nI_add _ _) (by decide) rfl (fun ls hl => ?_)
          refine lv_goto (tgt := 58) hC.1 hC.2.1 dX7_keep_89 (by decide) ?_
          rw [upc_s] at hw
          exact ih58 (h + 1) (by omega) (by omega) _ _ _ hw (lv_sub hl [1, 2, 3, 0] rfl)
        refine q_ifeq hC 84 cI dX7_keep_77 (by decide) (fun (c11 : σ 4 h = 0) => ?_) (fun (c11 : ¬ (σ 4 h = 0)) => ?_)
        · refine lv_iconst (v := nI 0) hC.1 hC.2.1 dX7_keep_84 (by decide) ?_
          exact J85_10 _ (if_neg (fun q => q c11)).symm _ _ _ hw (lv_sub hl [0, 1, 2, 3] rfl)
        · refine lv_iconst (v := nI 1) hC.1 hC.2.1 dX7_keep_80 (by decide) ?_
          refine lv_goto (tgt := 85) hC.1 hC.2.1 dX7_keep_81 (by decide) ?_
          exact J85_10 _ (if_pos c11).symm _ _ _ hw (lv_sub hl [0, 1, 2, 3] rfl)
  rw [← upc_0 (σ 4) (va_cpy (σ 15) (upd (upd (upd (σ 38) 0 (σ 0 0)) 1 (σ 0 1)) 2 (σ 0 2)) 0 3 3)] at hw
  exact L58_0 _ 0 (by omega) (Nat.lt_succ_self _) _ _ _ hw (lv_sub hl [3, 2, 1, 0] rfl)
set_option maxHeartbeats 4000000 in
set_option maxRecDepth 100000 in
theorem tX7_keep_k9 (l : Launch) (E : EV) (a : Nat → Nat) (σ : St) (kp : Nat) (hnx : σ 0 3 = nI 9) (hkp : σ 0 4 = nI kp) (hk30 : kp ≤ 30) : MV l E (XW E a) yX7_keep (Cond.code yX7_keep cX7_keep 4 none) ({ frames := 1, cells := 0, slots := 0, locals := 24 }) [.ref (a 68)] σ (fun u_ => u_ = sr (sr σ 39 (kpr σ (σ 39))) 0 (upd (upd (σ 0) 3 (nI (if 9 ≠ 29 then 9 + 1 else 0))) 4 (nI (if kp ≠ 30 then kp + 1 else kp)))) := by
  refine MV.mk (by decide +kernel) (Nat.le_of_ble_eq_true rfl) ?_
  intro p e s m args below meth c ls A Q hret hC hw hl
  have hC : Cxt E p s m args meth c cX7_keep 4 none RX7 A := hC
  have hl : lv_has ls 4 [(0, .ref (a 68))] := hl
  refine lv_aload_n hC.1 hC.2.1 dX7_keep_0 rfl (lv_at hl 0 rfl) ?_
  refine gf_X7_13 hC hw dX7_keep_1 ?_
  refine lv_aload_n hC.1 hC.2.1 dX7_keep_4 rfl (lv_at hl 0 rfl) ?_
  refine gf_X7_28 (v := nI 9) hC hw hnx dX7_keep_5 ?_
  refine q_aald hC hw (i := 9) (by decide) dX7_keep_8 ?_
  refine lv_astore_n (lv' := [(1, .ref (a 39)), (0, .ref (a 68))]) hC.1 hC.2.1 dX7_keep_9 rfl hl (by decide) rfl (fun ls hl => ?_)
  refine lv_aload_n hC.1 hC.2.1 dX7_keep_10 rfl (lv_at hl 0 rfl) ?_
  refine lv_iconst (v := nI 0) hC.1 hC.2.1 dX7_keep_11 (by decide) ?_
  refine lv_aload_n hC.1 hC.2.1 dX7_keep_12 rfl (lv_at hl 1 rfl) ?_
  refine gf_X7_16 hC hw dX7_keep_13 ?_
  refine gf_X7_32 (v := σ 0 0) hC hw rfl dX7_keep_16 ?_
  refine q_ast (Wf := XW E a) 49 rfl (by decide) (XW_s39 _) hC hw (by omega) dX7_keep_19 (fun H locs hw => ?_)
  have hw : Wst E (XW E a) (sr σ 39 (upd (σ 39) 0 (σ 0 0))) A s.heap H locs := hw
  refine lv_aload_n hC.1 hC.2.1 dX7_keep_20 rfl (lv_at hl 0 rfl) ?_
  refine lv_iconst (v := nI 1) hC.1 hC.2.1 dX7_keep_21 (by decide) ?_
  refine lv_aload_n hC.1 hC.2.1 dX7_keep_22 rfl (lv_at hl 1 rfl) ?_
  refine gf_X7_20 hC hw dX7_keep_23 ?_
  refine gf_X7_37 (v := σ 0 1) hC hw rfl dX7_keep_26 ?_
  refine q_ast (Wf := XW E a) 49 rfl (by decide) (XW_s39 _) hC hw (by omega) dX7_keep_29 (fun H locs hw => ?_)
  have hw : Wst E (XW E a) (sr (sr σ 39 (upd (σ 39) 0 (σ 0 0))) 39 (upd (upd (σ 39) 0 (σ 0 0)) 1 (σ 0 1))) A s.heap H locs := hw
  have hst_ : sr (sr σ 39 (upd (σ 39) 0 (σ 0 0))) 39 (upd (upd (σ 39) 0 (σ 0 0)) 1 (σ 0 1)) = sr σ 39 (upd (upd (σ 39) 0 (σ 0 0)) 1 (σ 0 1)) := by
    funext j_ x_
    by_cases e0 : j_ = 0
    · subst e0
      rfl
    · by_cases e39 : j_ = 39
      · subst e39; rfl
      · simp only [sr, e0, e39, if_false]
  rw [hst_] at hw
  refine lv_aload_n hC.1 hC.2.1 dX7_keep_30 rfl (lv_at hl 0 rfl) ?_
  refine lv_iconst (v := nI 2) hC.1 hC.2.1 dX7_keep_31 (by decide) ?_
  refine lv_aload_n hC.1 hC.2.1 dX7_keep_32 rfl (lv_at hl 1 rfl) ?_
  refine gf_X7_20 hC hw dX7_keep_33 ?_
  refine gf_X7_40 (v := σ 0 2) hC hw rfl dX7_keep_36 ?_
  refine q_ast (Wf := XW E a) 49 rfl (by decide) (XW_s39 _) hC hw (by omega) dX7_keep_39 (fun H locs hw => ?_)
  have hw : Wst E (XW E a) (sr (sr σ 39 (upd (upd (σ 39) 0 (σ 0 0)) 1 (σ 0 1))) 39 (upd (upd (upd (σ 39) 0 (σ 0 0)) 1 (σ 0 1)) 2 (σ 0 2))) A s.heap H locs := hw
  have hst_ : sr (sr σ 39 (upd (upd (σ 39) 0 (σ 0 0)) 1 (σ 0 1))) 39 (upd (upd (upd (σ 39) 0 (σ 0 0)) 1 (σ 0 1)) 2 (σ 0 2)) = sr σ 39 (upd (upd (upd (σ 39) 0 (σ 0 0)) 1 (σ 0 1)) 2 (σ 0 2)) := by
    funext j_ x_
    by_cases e0 : j_ = 0
    · subst e0
      rfl
    · by_cases e39 : j_ = 39
      · subst e39; rfl
      · simp only [sr, e0, e39, if_false]
  rw [hst_] at hw
  refine lv_iconst (v := nI 3) hC.1 hC.2.1 dX7_keep_40 (by decide) ?_
  refine lv_istore_n (lv' := [(2, .int (nI 3)), (1, .ref (a 39)), (0, .ref (a 68))]) hC.1 hC.2.1 dX7_keep_41 rfl hl (by decide) rfl (fun ls hl => ?_)
  refine lv_aload_n hC.1 hC.2.1 dX7_keep_42 rfl (lv_at hl 2 rfl) ?_
  refine gf_X7_24 hC hw dX7_keep_43 ?_
  refine lv_iconst (v := nI 0) hC.1 hC.2.1 dX7_keep_46 (by decide) ?_
  refine lv_aload_n hC.1 hC.2.1 dX7_keep_47 rfl (lv_at hl 1 rfl) ?_
  refine lv_iload_n hC.1 hC.2.1 dX7_keep_48 rfl (lv_at hl 0 rfl) ?_
  refine lv_iconst (v := nI 3) hC.1 hC.2.1 dX7_keep_49 (by decide) ?_
  refine q_cpy (sp := 0) (dp := 3) (n := 3) 25 rfl 49 rfl (XW_s39 _) hC hw hl (by omega) (by omega) (by decide) (by decide) ⟨Nat.le_of_ble_eq_true rfl, Nat.le_of_ble_eq_true rfl⟩ wk2_182 dX7_keep_50 (fun H locs hw => ?_)
  have hw : Wst E (XW E a) (sr (sr σ 39 (upd (upd (upd (σ 39) 0 (σ 0 0)) 1 (σ 0 1)) 2 (σ 0 2))) 39 (va_cpy (σ 15) (upd (upd (upd (σ 39) 0 (σ 0 0)) 1 (σ 0 1)) 2 (σ 0 2)) 0 3 3)) A s.heap H locs := hw
  have hst_ : sr (sr σ 39 (upd (upd (upd (σ 39) 0 (σ 0 0)) 1 (σ 0 1)) 2 (σ 0 2))) 39 (va_cpy (σ 15) (upd (upd (upd (σ 39) 0 (σ 0 0)) 1 (σ 0 1)) 2 (σ 0 2)) 0 3 3) = sr σ 39 (va_cpy (σ 15) (upd (upd (upd (σ 39) 0 (σ 0 0)) 1 (σ 0 1)) 2 (σ 0 2)) 0 3 3) := by
    funext j_ x_
    by_cases e0 : j_ = 0
    · subst e0
      rfl
    · by_cases e39 : j_ = 39
      · subst e39; rfl
      · simp only [sr, e0, e39, if_false]
  rw [hst_] at hw
  refine lv_iinc (v := nI (3 + 3)) (lv' := [(2, .int (nI (3 + 3))), (1, .ref (a 39)), (0, .ref (a 68))]) hC.1 hC.2.1 dX7_keep_53 hl (k := 0) rfl (nI_add _ _) (by decide) rfl (fun ls hl => ?_)
  refine lv_iconst (v := nI 0) hC.1 hC.2.1 dX7_keep_56 (by decide) ?_
  refine lv_istore_n (lv' := [(3, .int (nI 0)), (2, .int (nI (3 + 3))), (1, .ref (a 39)), (0, .ref (a 68))]) hC.1 hC.2.1 dX7_keep_57 rfl hl (by decide) rfl (fun ls hl => ?_)
  have L58_0 : ∀ (n : Nat), ∀ (h : Nat), (h ≤ 10) → (10 - h) < n → ∀ (H : Heap) (locs : List Loc) (ls : Array Slot), Wst E (XW E a) (sr σ 39 (upc (σ 4) h (va_cpy (σ 15) (upd (upd (upd (σ 39) 0 (σ 0 0)) 1 (σ 0 1)) 2 (σ 0 2)) 0 3 3))) A s.heap H locs → lv_has ls 4 [(0, .ref (a 68)), (1, .ref (a 39)), (2, .int (nI (3 + 3))), (3, .int (nI h))] → W p l e ({ frames := 1, cells := 0, slots := 0, locals := 24 }) s m args below meth c H locs 0 0 Q (F0 m 58 ls []) := by
    intro n
    induction n with
    | zero => intro h hh hn; exact absurd hn (Nat.not_lt_zero _)
    | succ n ih58 =>
      intro h hh hn58 H locs ls hw hl
      refine lv_iload_n hC.1 hC.2.1 dX7_keep_58 rfl (lv_at hl 3 rfl) ?_
      refine lv_bipush (v := nI 10) hC.1 hC.2.1 dX7_keep_59 (by decide) ?_
      refine q_cmpge hC 92 (cNle (by omega) (by omega)) dX7_keep_61 (by decide) (fun (c2 : 10 ≤ h) => ?_) (fun (c2 : h < 10) => ?_)
      · have hh9 : h = 10 := by omega
        rw [hh9] at hw
        refine lv_iinc (v := nI (3 + 3 + 10)) (lv' := [(2, .int (nI (3 + 3 + 10))), (0, .ref (a 68)), (1, .ref (a 39)), (3, .int (nI h))]) hC.1 hC.2.1 dX7_keep_92 hl (k := 2) rfl (nI_add _ _) (by decide) rfl (fun ls hl => ?_)
        refine lv_aload_n hC.1 hC.2.1 dX7_keep_95 rfl (lv_at hl 1 rfl) ?_
        refine gf_X7_20 hC hw dX7_keep_96 ?_
        refine gf_X7_53 hC hw dX7_keep_99 ?_
        refine lv_iconst (v := nI 0) hC.1 hC.2.1 dX7_keep_102 (by decide) ?_
        refine lv_aload_n hC.1 hC.2.1 dX7_keep_103 rfl (lv_at hl 2 rfl) ?_
        refine lv_iload_n hC.1 hC.2.1 dX7_keep_104 rfl (lv_at hl 0 rfl) ?_
        refine lv_bipush (v := nI 24) hC.1 hC.2.1 dX7_keep_105 (by decide) ?_
        refine q_cpy (sp := 0) (dp := (3 + 3 + 10)) (n := 24) 21 rfl 49 rfl (XW_s39 _) hC hw hl (by omega) (by omega) (by decide) (by decide) ⟨Nat.le_of_ble_eq_true rfl, Nat.le_of_ble_eq_true rfl⟩ wk2_182 dX7_keep_107 (fun H locs hw => ?_)
        have hw : Wst E (XW E a) (sr (sr σ 39 (upc (σ 4) 10 (va_cpy (σ 15) (upd (upd (upd (σ 39) 0 (σ 0 0)) 1 (σ 0 1)) 2 (σ 0 2)) 0 3 3))) 39 (va_cpy (σ 11) (upc (σ 4) 10 (va_cpy (σ 15) (upd (upd (upd (σ 39) 0 (σ 0 0)) 1 (σ 0 1)) 2 (σ 0 2)) 0 3 3)) 0 (3 + 3 + 10) 24)) A s.heap H locs := hw
        have hst_ : sr (sr σ 39 (upc (σ 4) 10 (va_cpy (σ 15) (upd (upd (upd (σ 39) 0 (σ 0 0)) 1 (σ 0 1)) 2 (σ 0 2)) 0 3 3))) 39 (va_cpy (σ 11) (upc (σ 4) 10 (va_cpy (σ 15) (upd (upd (upd (σ 39) 0 (σ 0 0)) 1 (σ 0 1)) 2 (σ 0 2)) 0 3 3)) 0 (3 + 3 + 10) 24) = sr σ 39 (va_cpy (σ 11) (upc (σ 4) 10 (va_cpy (σ 15) (upd (upd (upd (σ 39) 0 (σ 0 0)) 1 (σ 0 1)) 2 (σ 0 2)) 0 3 3)) 0 (3 + 3 + 10) 24) := by
          funext j_ x_
          by_cases e0 : j_ = 0
          · subst e0
            rfl
          · by_cases e39 : j_ = 39
            · subst e39; rfl
            · simp only [sr, e0, e39, if_false]
        rw [hst_] at hw
        refine lv_aload_n hC.1 hC.2.1 dX7_keep_110 rfl (lv_at hl 1 rfl) ?_
        refine gf_X7_20 hC hw dX7_keep_111 ?_
        refine gf_X7_56 hC hw dX7_keep_114 ?_
        refine lv_iconst (v := nI 0) hC.1 hC.2.1 dX7_keep_117 (by decide) ?_
        refine lv_aload_n hC.1 hC.2.1 dX7_keep_118 rfl (lv_at hl 2 rfl) ?_
        refine lv_iload_n hC.1 hC.2.1 dX7_keep_119 rfl (lv_at hl 0 rfl) ?_
        refine lv_bipush (v := nI 24) hC.1 hC.2.1 dX7_keep_120 (by decide) ?_
        refine q_addN hC dX7_keep_122 ?_
        refine lv_bipush (v := nI 24) hC.1 hC.2.1 dX7_keep_123 (by decide) ?_
        refine q_cpy (sp := 0) (dp := ((3 + 3 + 10) + 24)) (n := 24) 22 rfl 49 rfl (XW_s39 _) hC hw hl (by omega) (by omega) (by decide) (by decide) ⟨Nat.le_of_ble_eq_true rfl, Nat.le_of_ble_eq_true rfl⟩ wk2_182 dX7_keep_125 (fun H locs hw => ?_)
        have hw : Wst E (XW E a) (sr (sr σ 39 (va_cpy (σ 11) (upc (σ 4) 10 (va_cpy (σ 15) (upd (upd (upd (σ 39) 0 (σ 0 0)) 1 (σ 0 1)) 2 (σ 0 2)) 0 3 3)) 0 (3 + 3 + 10) 24)) 39 (va_cpy (σ 12) (va_cpy (σ 11) (upc (σ 4) 10 (va_cpy (σ 15) (upd (upd (upd (σ 39) 0 (σ 0 0)) 1 (σ 0 1)) 2 (σ 0 2)) 0 3 3)) 0 (3 + 3 + 10) 24) 0 ((3 + 3 + 10) + 24) 24)) A s.heap H locs := hw
        have hst_ : sr (sr σ 39 (va_cpy (σ 11) (upc (σ 4) 10 (va_cpy (σ 15) (upd (upd (upd (σ 39) 0 (σ 0 0)) 1 (σ 0 1)) 2 (σ 0 2)) 0 3 3)) 0 (3 + 3 + 10) 24)) 39 (va_cpy (σ 12) (va_cpy (σ 11) (upc (σ 4) 10 (va_cpy (σ 15) (upd (upd (upd (σ 39) 0 (σ 0 0)) 1 (σ 0 1)) 2 (σ 0 2)) 0 3 3)) 0 (3 + 3 + 10) 24) 0 ((3 + 3 + 10) + 24) 24) = sr σ 39 (va_cpy (σ 12) (va_cpy (σ 11) (upc (σ 4) 10 (va_cpy (σ 15) (upd (upd (upd (σ 39) 0 (σ 0 0)) 1 (σ 0 1)) 2 (σ 0 2)) 0 3 3)) 0 (3 + 3 + 10) 24) 0 ((3 + 3 + 10) + 24) 24) := by
          funext j_ x_
          by_cases e0 : j_ = 0
          · subst e0
            rfl
          · by_cases e39 : j_ = 39
            · subst e39; rfl
            · simp only [sr, e0, e39, if_false]
        rw [hst_] at hw
        refine lv_aload_n hC.1 hC.2.1 dX7_keep_128 rfl (lv_at hl 1 rfl) ?_
        refine gf_X7_20 hC hw dX7_keep_129 ?_
        refine gf_X7_59 hC hw dX7_keep_132 ?_
        refine lv_iconst (v := nI 0) hC.1 hC.2.1 dX7_keep_135 (by decide) ?_
        refine lv_aload_n hC.1 hC.2.1 dX7_keep_136 rfl (lv_at hl 2 rfl) ?_
        refine lv_iload_n hC.1 hC.2.1 dX7_keep_137 rfl (lv_at hl 0 rfl) ?_
        refine lv_bipush (v := nI 48) hC.1 hC.2.1 dX7_keep_138 (by decide) ?_
        refine q_addN hC dX7_keep_140 ?_
        refine lv_bipush (v := nI 24) hC.1 hC.2.1 dX7_keep_141 (by decide) ?_
        refine q_cpy (sp := 0) (dp := ((3 + 3 + 10) + 48)) (n := 24) 23 rfl 49 rfl (XW_s39 _) hC hw hl (by omega) (by omega) (by decide) (by decide) ⟨Nat.le_of_ble_eq_true rfl, Nat.le_of_ble_eq_true rfl⟩ wk2_182 dX7_keep_143 (fun H locs hw => ?_)
        have hw : Wst E (XW E a) (sr (sr σ 39 (va_cpy (σ 12) (va_cpy (σ 11) (upc (σ 4) 10 (va_cpy (σ 15) (upd (upd (upd (σ 39) 0 (σ 0 0)) 1 (σ 0 1)) 2 (σ 0 2)) 0 3 3)) 0 (3 + 3 + 10) 24) 0 ((3 + 3 + 10) + 24) 24)) 39 (va_cpy (σ 13) (va_cpy (σ 12) (va_cpy (σ 11) (upc (σ 4) 10 (va_cpy (σ 15) (upd (upd (upd (σ 39) 0 (σ 0 0)) 1 (σ 0 1)) 2 (σ 0 2)) 0 3 3)) 0 (3 + 3 + 10) 24) 0 ((3 + 3 + 10) + 24) 24) 0 ((3 + 3 + 10) + 48) 24)) A s.heap H locs := hw
        have hst_ : sr (sr σ 39 (va_cpy (σ 12) (va_cpy (σ 11) (upc (σ 4) 10 (va_cpy (σ 15) (upd (upd (upd (σ 39) 0 (σ 0 0)) 1 (σ 0 1)) 2 (σ 0 2)) 0 3 3)) 0 (3 + 3 + 10) 24) 0 ((3 + 3 + 10) + 24) 24)) 39 (va_cpy (σ 13) (va_cpy (σ 12) (va_cpy (σ 11) (upc (σ 4) 10 (va_cpy (σ 15) (upd (upd (upd (σ 39) 0 (σ 0 0)) 1 (σ 0 1)) 2 (σ 0 2)) 0 3 3)) 0 (3 + 3 + 10) 24) 0 ((3 + 3 + 10) + 24) 24) 0 ((3 + 3 + 10) + 48) 24) = sr σ 39 (va_cpy (σ 13) (va_cpy (σ 12) (va_cpy (σ 11) (upc (σ 4) 10 (va_cpy (σ 15) (upd (upd (upd (σ 39) 0 (σ 0 0)) 1 (σ 0 1)) 2 (σ 0 2)) 0 3 3)) 0 (3 + 3 + 10) 24) 0 ((3 + 3 + 10) + 24) 24) 0 ((3 + 3 + 10) + 48) 24) := by
          funext j_ x_
          by_cases e0 : j_ = 0
          · subst e0
            rfl
          · by_cases e39 : j_ = 39
            · subst e39; rfl
            · simp only [sr, e0, e39, if_false]
        rw [hst_] at hw
        refine lv_aload_n hC.1 hC.2.1 dX7_keep_146 rfl (lv_at hl 1 rfl) ?_
        refine gf_X7_20 hC hw dX7_keep_147 ?_
        refine gf_X7_62 hC hw dX7_keep_150 ?_
        refine lv_iconst (v := nI 0) hC.1 hC.2.1 dX7_keep_153 (by decide) ?_
        refine lv_aload_n hC.1 hC.2.1 dX7_keep_154 rfl (lv_at hl 2 rfl) ?_
        refine lv_iload_n hC.1 hC.2.1 dX7_keep_155 rfl (lv_at hl 0 rfl) ?_
        refine lv_bipush (v := nI 72) hC.1 hC.2.1 dX7_keep_156 (by decide) ?_
        refine q_addN hC dX7_keep_158 ?_
        refine lv_bipush (v := nI 24) hC.1 hC.2.1 dX7_keep_159 (by decide) ?_
        refine q_cpy (sp := 0) (dp := ((3 + 3 + 10) + 72)) (n := 24) 24 rfl 49 rfl (XW_s39 _) hC hw hl (by omega) (by omega) (by decide) (by decide) ⟨Nat.le_of_ble_eq_true rfl, Nat.le_of_ble_eq_true rfl⟩ wk2_182 dX7_keep_161 (fun H locs hw => ?_)
        have hw : Wst E (XW E a) (sr (sr σ 39 (va_cpy (σ 13) (va_cpy (σ 12) (va_cpy (σ 11) (upc (σ 4) 10 (va_cpy (σ 15) (upd (upd (upd (σ 39) 0 (σ 0 0)) 1 (σ 0 1)) 2 (σ 0 2)) 0 3 3)) 0 (3 + 3 + 10) 24) 0 ((3 + 3 + 10) + 24) 24) 0 ((3 + 3 + 10) + 48) 24)) 39 (va_cpy (σ 14) (va_cpy (σ 13) (va_cpy (σ 12) (va_cpy (σ 11) (upc (σ 4) 10 (va_cpy (σ 15) (upd (upd (upd (σ 39) 0 (σ 0 0)) 1 (σ 0 1)) 2 (σ 0 2)) 0 3 3)) 0 (3 + 3 + 10) 24) 0 ((3 + 3 + 10) + 24) 24) 0 ((3 + 3 + 10) + 48) 24) 0 ((3 + 3 + 10) + 72) 24)) A s.heap H locs := hw
        have hst_ : sr (sr σ 39 (va_cpy (σ 13) (va_cpy (σ 12) (va_cpy (σ 11) (upc (σ 4) 10 (va_cpy (σ 15) (upd (upd (upd (σ 39) 0 (σ 0 0)) 1 (σ 0 1)) 2 (σ 0 2)) 0 3 3)) 0 (3 + 3 + 10) 24) 0 ((3 + 3 + 10) + 24) 24) 0 ((3 + 3 + 10) + 48) 24)) 39 (va_cpy (σ 14) (va_cpy (σ 13) (va_cpy (σ 12) (va_cpy (σ 11) (upc (σ 4) 10 (va_cpy (σ 15) (upd (upd (upd (σ 39) 0 (σ 0 0)) 1 (σ 0 1)) 2 (σ 0 2)) 0 3 3)) 0 (3 + 3 + 10) 24) 0 ((3 + 3 + 10) + 24) 24) 0 ((3 + 3 + 10) + 48) 24) 0 ((3 + 3 + 10) + 72) 24) = sr σ 39 (va_cpy (σ 14) (va_cpy (σ 13) (va_cpy (σ 12) (va_cpy (σ 11) (upc (σ 4) 10 (va_cpy (σ 15) (upd (upd (upd (σ 39) 0 (σ 0 0)) 1 (σ 0 1)) 2 (σ 0 2)) 0 3 3)) 0 (3 + 3 + 10) 24) 0 ((3 + 3 + 10) + 24) 24) 0 ((3 + 3 + 10) + 48) 24) 0 ((3 + 3 + 10) + 72) 24) := by
          funext j_ x_
          by_cases e0 : j_ = 0
          · subst e0
            rfl
          · by_cases e39 : j_ = 39
            · subst e39; rfl
            · simp only [sr, e0, e39, if_false]
        rw [hst_] at hw
        refine lv_aload_n hC.1 hC.2.1 dX7_keep_164 rfl (lv_at hl 1 rfl) ?_
        refine lv_aload_n hC.1 hC.2.1 dX7_keep_165 rfl (lv_at hl 1 rfl) ?_
        refine gf_X7_28 (v := nI 9) hC hw hnx dX7_keep_166 ?_
        refine lv_bipush (v := nI 29) hC.1 hC.2.1 dX7_keep_169 (by decide) ?_
        have J184_4 : ∀ (w3 : Nat), w3 = (if 9 ≠ 29 then (9 + 1) else 0) → ∀ (H : Heap) (locs : List Loc) (ls : Array Slot), Wst E (XW E a) (sr σ 39 (va_cpy (σ 14) (va_cpy (σ 13) (va_cpy (σ 12) (va_cpy (σ 11) (upc (σ 4) 10 (va_cpy (σ 15) (upd (upd (upd (σ 39) 0 (σ 0 0)) 1 (σ 0 1)) 2 (σ 0 2)) 0 3 3)) 0 (3 + 3 + 10) 24) 0 ((3 + 3 + 10) + 24) 24) 0 ((3 + 3 + 10) + 48) 24) 0 ((3 + 3 + 10) + 72) 24)) A s.heap H locs → lv_has ls 4 [(0, .ref (a 68)), (1, .ref (a 39)), (2, .int (nI (3 + 3 + 10))), (3, .int (nI h))] → W p l e ({ frames := 1, cells := 0, slots := 0, locals := 24 }) s m args below meth c H locs 0 0 Q (F0 m 184 ls [.int (nI w3), .ref (a 68)]) := by
          intro w3 e4 H locs ls hw hl
          subst e4
          refine pf_X7_28 hC hw dX7_keep_184 (fun H locs hw => ?_)
          have hw : Wst E (XW E a) (sr (sr σ 39 (va_cpy (σ 14) (va_cpy (σ 13) (va_cpy (σ 12) (va_cpy (σ 11) (upc (σ 4) 10 (va_cpy (σ 15) (upd (upd (upd (σ 39) 0 (σ 0 0)) 1 (σ 0 1)) 2 (σ 0 2)) 0 3 3)) 0 (3 + 3 + 10) 24) 0 ((3 + 3 + 10) + 24) 24) 0 ((3 + 3 + 10) + 48) 24) 0 ((3 + 3 + 10) + 72) 24)) 0 (upd (σ 0) 3 (nI (if 9 ≠ 29 then (9 + 1) else 0)))) A s.heap H locs := hw
          refine lv_aload_n hC.1 hC.2.1 dX7_keep_187 rfl (lv_at hl 0 rfl) ?_
          refine lv_aload_n hC.1 hC.2.1 dX7_keep_188 rfl (lv_at hl 0 rfl) ?_
          refine gf_X7_65 (v := nI kp) hC hw hkp dX7_keep_189 ?_
          refine lv_bipush (v := nI 30) hC.1 hC.2.1 dX7_keep_192 (by decide) ?_
          have J210_6 : ∀ (w5 : Nat), w5 = (if kp ≠ 30 then (kp + 1) else kp) → ∀ (H : Heap) (locs : List Loc) (ls : Array Slot), Wst E (XW E a) (sr (sr σ 39 (va_cpy (σ 14) (va_cpy (σ 13) (va_cpy (σ 12) (va_cpy (σ 11) (upc (σ 4) 10 (va_cpy (σ 15) (upd (upd (upd (σ 39) 0 (σ 0 0)) 1 (σ 0 1)) 2 (σ 0 2)) 0 3 3)) 0 (3 + 3 + 10) 24) 0 ((3 + 3 + 10) + 24) 24) 0 ((3 + 3 + 10) + 48) 24) 0 ((3 + 3 + 10) + 72) 24)) 0 (upd (σ 0) 3 (nI (if 9 ≠ 29 then (9 + 1) else 0)))) A s.heap H locs → lv_has ls 4 [(0, .ref (a 68)), (1, .ref (a 39)), (2, .int (nI (3 + 3 + 10))), (3, .int (nI h))] → W p l e ({ frames := 1, cells := 0, slots := 0, locals := 24 }) s m args below meth c H locs 0 0 Q (F0 m 210 ls [.int (nI w5), .ref (a 68)]) := by
            intro w5 e6 H locs ls hw hl
            subst e6
            refine pf_X7_65 hC hw dX7_keep_210 (fun H locs hw => ?_)
            have hw : Wst E (XW E a) (sr (sr (sr σ 39 (va_cpy (σ 14) (va_cpy (σ 13) (va_cpy (σ 12) (va_cpy (σ 11) (upc (σ 4) 10 (va_cpy (σ 15) (upd (upd (upd (σ 39) 0 (σ 0 0)) 1 (σ 0 1)) 2 (σ 0 2)) 0 3 3)) 0 (3 + 3 + 10) 24) 0 ((3 + 3 + 10) + 24) 24) 0 ((3 + 3 + 10) + 48) 24) 0 ((3 + 3 + 10) + 72) 24)) 0 (upd (σ 0) 3 (nI (if 9 ≠ 29 then (9 + 1) else 0)))) 0 (upd (upd (σ 0) 3 (nI (if 9 ≠ 29 then (9 + 1) else 0))) 4 (nI (if kp ≠ 30 then (kp + 1) else kp)))) A s.heap H locs := hw
            have hst_ : sr (sr (sr σ 39 (va_cpy (σ 14) (va_cpy (σ 13) (va_cpy (σ 12) (va_cpy (σ 11) (upc (σ 4) 10 (va_cpy (σ 15) (upd (upd (upd (σ 39) 0 (σ 0 0)) 1 (σ 0 1)) 2 (σ 0 2)) 0 3 3)) 0 (3 + 3 + 10) 24) 0 ((3 + 3 + 10) + 24) 24) 0 ((3 + 3 + 10) + 48) 24) 0 ((3 + 3 + 10) + 72) 24)) 0 (upd (σ 0) 3 (nI (if 9 ≠ 29 then (9 + 1) else 0)))) 0 (upd (upd (σ 0) 3 (nI (if 9 ≠ 29 then (9 + 1) else 0))) 4 (nI (if kp ≠ 30 then (kp + 1) else kp))) = sr (sr σ 39 (va_cpy (σ 14) (va_cpy (σ 13) (va_cpy (σ 12) (va_cpy (σ 11) (upc (σ 4) 10 (va_cpy (σ 15) (upd (upd (upd (σ 39) 0 (σ 0 0)) 1 (σ 0 1)) 2 (σ 0 2)) 0 3 3)) 0 (3 + 3 + 10) 24) 0 ((3 + 3 + 10) + 24) 24) 0 ((3 + 3 + 10) + 48) 24) 0 ((3 + 3 + 10) + 72) 24)) 0 (upd (upd (σ 0) 3 (nI (if 9 ≠ 29 then (9 + 1) else 0))) 4 (nI (if kp ≠ 30 then (kp + 1) else kp))) := by
              funext j_ x_
              by_cases e0 : j_ = 0
              · subst e0
                by_cases y3 : x_ = 3
                · subst y3; rfl
                · by_cases y4 : x_ = 4
                  · subst y4; rfl
                  · simp [sr, upd, y3, y4]
              · by_cases e39 : j_ = 39
                · subst e39; rfl
                · simp only [sr, e0, e39, if_false]
            rw [hst_] at hw
            refine hret _ _ _ _ _ hw ?_ dX7_keep_213
            exact rfl
          refine q_cmpne hC 204 (cNeq (by omega) (by omega)) dX7_keep_194 (by decide) (fun (c7 : kp ≠ 30) => ?_) (fun (c7 : kp = 30) => ?_)
          · refine lv_aload_n hC.1 hC.2.1 dX7_keep_204 rfl (lv_at hl 0 rfl) ?_
            refine gf_X7_65 (v := nI kp) hC hw hkp dX7_keep_205 ?_
            refine lv_iconst (v := nI 1) hC.1 hC.2.1 dX7_keep_208 (by decide) ?_
            refine q_addN hC dX7_keep_209 ?_
            exact J210_6 _ (by (rw [if_pos c7]) <;> rfl) _ _ _ hw (lv_sub hl [0, 1, 2, 3] rfl)
          · refine lv_aload_n hC.1 hC.2.1 dX7_keep_197 rfl (lv_at hl 0 rfl) ?_
            refine gf_X7_65 (v := nI kp) hC hw hkp dX7_keep_198 ?_
            refine lv_goto (tgt := 210) hC.1 hC.2.1 dX7_keep_201 (by decide) ?_
            exact J210_6 _ (by (rw [if_neg (fun q => q c7)]) <;> rfl) _ _ _ hw (lv_sub hl [0, 1, 2, 3] rfl)
        refine q_cmpne hC 178 (cNeq (by omega) (by omega)) dX7_keep_171 (by decide) (fun (c8 : 9 ≠ 29) => ?_) (fun (c8 : 9 = 29) => ?_)
        · refine lv_aload_n hC.1 hC.2.1 dX7_keep_178 rfl (lv_at hl 1 rfl) ?_
          refine gf_X7_28 (v := nI 9) hC hw hnx dX7_keep_179 ?_
          refine lv_iconst (v := nI 1) hC.1 hC.2.1 dX7_keep_182 (by decide) ?_
          refine q_addN hC dX7_keep_183 ?_
          exact J184_4 _ (by (rw [if_pos c8]) <;> rfl) _ _ _ hw (lv_sub hl [1, 2, 0, 3] rfl)
        · refine lv_iconst (v := nI 0) hC.1 hC.2.1 dX7_keep_174 (by decide) ?_
          refine lv_goto (tgt := 184) hC.1 hC.2.1 dX7_keep_175 (by decide) ?_
          exact J184_4 _ (by (rw [if_neg (fun q => q c8)]) <;> rfl) _ _ _ hw (lv_sub hl [1, 2, 0, 3] rfl)
      · refine lv_aload_n hC.1 hC.2.1 dX7_keep_64 rfl (lv_at hl 1 rfl) ?_
        refine lv_iload_n hC.1 hC.2.1 dX7_keep_65 rfl (lv_at hl 2 rfl) ?_
        refine lv_iload_n hC.1 hC.2.1 dX7_keep_66 rfl (lv_at hl 3 rfl) ?_
        refine q_addN hC dX7_keep_67 ?_
        refine lv_aload_n hC.1 hC.2.1 dX7_keep_68 rfl (lv_at hl 0 rfl) ?_
        refine gf_X7_16 hC hw dX7_keep_69 ?_
        refine gf_X7_49 hC hw dX7_keep_72 ?_
        refine lv_iload_n hC.1 hC.2.1 dX7_keep_75 rfl (lv_at hl 3 rfl) ?_
        refine al_X4 (v := σ 4 h) hC hw (by omega) rfl dX7_keep_76 ?_
        have J85_10 : ∀ (w9 : Int32), w9 = (if ¬ (σ 4 h = 0) then (1 : Int32) else 0) → ∀ (H : Heap) (locs : List Loc) (ls : Array Slot), Wst E (XW E a) (sr σ 39 (upc (σ 4) h (va_cpy (σ 15) (upd (upd (upd (σ 39) 0 (σ 0 0)) 1 (σ 0 1)) 2 (σ 0 2)) 0 3 3))) A s.heap H locs → lv_has ls 4 [(0, .ref (a 68)), (1, .ref (a 39)), (2, .int (nI (3 + 3))), (3, .int (nI h))] → W p l e ({ frames := 1, cells := 0, slots := 0, locals := 24 }) s m args below meth c H locs 0 0 Q (F0 m 85 ls [.int (w9), .int (nI ((3 + 3) + h)), .ref (a 39)]) := by
          intro w9 e10 H locs ls hw hl
          subst e10
          refine q_ast (Wf := XW E a) 49 rfl (by decide) (XW_s39 _) hC hw (by omega) dX7_keep_85 (fun H locs hw => ?_)
          have hw : Wst E (XW E a) (sr (sr σ 39 (upc (σ 4) h (va_cpy (σ 15) (upd (upd (upd (σ 39) 0 (σ 0 0)) 1 (σ 0 1)) 2 (σ 0 2)) 0 3 3))) 39 (upd (upc (σ 4) h (va_cpy (σ 15) (upd (upd (upd (σ 39) 0 (σ 0 0)) 1 (σ 0 1)) 2 (σ 0 2)) 0 3 3)) ((3 + 3) + h) (if ¬ (σ 4 h = 0) then (1 : Int32) else 0))) A s.heap H locs := hw
          have hst_ : sr (sr σ 39 (upc (σ 4) h (va_cpy (σ 15) (upd (upd (upd (σ 39) 0 (σ 0 0)) 1 (σ 0 1)) 2 (σ 0 2)) 0 3 3))) 39 (upd (upc (σ 4) h (va_cpy (σ 15) (upd (upd (upd (σ 39) 0 (σ 0 0)) 1 (σ 0 1)) 2 (σ 0 2)) 0 3 3)) ((3 + 3) + h) (if ¬ (σ 4 h = 0) then (1 : Int32) else 0)) = sr σ 39 (upd (upc (σ 4) h (va_cpy (σ 15) (upd (upd (upd (σ 39) 0 (σ 0 0)) 1 (σ 0 1)) 2 (σ 0 2)) 0 3 3)) ((3 + 3) + h) (if ¬ (σ 4 h = 0) then (1 : Int32) else 0)) := by
            funext j_ x_
            by_cases e0 : j_ = 0
            · subst e0
              rfl
            · by_cases e39 : j_ = 39
              · subst e39; rfl
              · simp only [sr, e0, e39, if_false]
          rw [hst_] at hw
          refine lv_iinc (v := nI (h + 1)) (lv' := [(3, .int (nI (h + 1))), (0, .ref (a 68)), (1, .ref (a 39)), (2, .int (nI (3 + 3)))]) hC.1 hC.2.1 dX7_keep_86 hl (k := 3) rfl (nI_add _ _) (by decide) rfl (fun ls hl => ?_)
          refine lv_goto (tgt := 58) hC.1 hC.2.1 dX7_keep_89 (by decide) ?_
          rw [upc_s] at hw
          exact ih58 (h + 1) (by omega) (by omega) _ _ _ hw (lv_sub hl [1, 2, 3, 0] rfl)
        refine q_ifeq hC 84 cI dX7_keep_77 (by decide) (fun (c11 : σ 4 h = 0) => ?_) (fun (c11 : ¬ (σ 4 h = 0)) => ?_)
        · refine lv_iconst (v := nI 0) hC.1 hC.2.1 dX7_keep_84 (by decide) ?_
          exact J85_10 _ (if_neg (fun q => q c11)).symm _ _ _ hw (lv_sub hl [0, 1, 2, 3] rfl)
        · refine lv_iconst (v := nI 1) hC.1 hC.2.1 dX7_keep_80 (by decide) ?_
          refine lv_goto (tgt := 85) hC.1 hC.2.1 dX7_keep_81 (by decide) ?_
          exact J85_10 _ (if_pos c11).symm _ _ _ hw (lv_sub hl [0, 1, 2, 3] rfl)
  rw [← upc_0 (σ 4) (va_cpy (σ 15) (upd (upd (upd (σ 39) 0 (σ 0 0)) 1 (σ 0 1)) 2 (σ 0 2)) 0 3 3)] at hw
  exact L58_0 _ 0 (by omega) (Nat.lt_succ_self _) _ _ _ hw (lv_sub hl [3, 2, 1, 0] rfl)
set_option maxHeartbeats 4000000 in
set_option maxRecDepth 100000 in
theorem tX7_keep_k10 (l : Launch) (E : EV) (a : Nat → Nat) (σ : St) (kp : Nat) (hnx : σ 0 3 = nI 10) (hkp : σ 0 4 = nI kp) (hk30 : kp ≤ 30) : MV l E (XW E a) yX7_keep (Cond.code yX7_keep cX7_keep 4 none) ({ frames := 1, cells := 0, slots := 0, locals := 24 }) [.ref (a 68)] σ (fun u_ => u_ = sr (sr σ 40 (kpr σ (σ 40))) 0 (upd (upd (σ 0) 3 (nI (if 10 ≠ 29 then 10 + 1 else 0))) 4 (nI (if kp ≠ 30 then kp + 1 else kp)))) := by
  refine MV.mk (by decide +kernel) (Nat.le_of_ble_eq_true rfl) ?_
  intro p e s m args below meth c ls A Q hret hC hw hl
  have hC : Cxt E p s m args meth c cX7_keep 4 none RX7 A := hC
  have hl : lv_has ls 4 [(0, .ref (a 68))] := hl
  refine lv_aload_n hC.1 hC.2.1 dX7_keep_0 rfl (lv_at hl 0 rfl) ?_
  refine gf_X7_13 hC hw dX7_keep_1 ?_
  refine lv_aload_n hC.1 hC.2.1 dX7_keep_4 rfl (lv_at hl 0 rfl) ?_
  refine gf_X7_28 (v := nI 10) hC hw hnx dX7_keep_5 ?_
  refine q_aald hC hw (i := 10) (by decide) dX7_keep_8 ?_
  refine lv_astore_n (lv' := [(1, .ref (a 40)), (0, .ref (a 68))]) hC.1 hC.2.1 dX7_keep_9 rfl hl (by decide) rfl (fun ls hl => ?_)
  refine lv_aload_n hC.1 hC.2.1 dX7_keep_10 rfl (lv_at hl 0 rfl) ?_
  refine lv_iconst (v := nI 0) hC.1 hC.2.1 dX7_keep_11 (by decide) ?_
  refine lv_aload_n hC.1 hC.2.1 dX7_keep_12 rfl (lv_at hl 1 rfl) ?_
  refine gf_X7_16 hC hw dX7_keep_13 ?_
  refine gf_X7_32 (v := σ 0 0) hC hw rfl dX7_keep_16 ?_
  refine q_ast (Wf := XW E a) 50 rfl (by decide) (XW_s40 _) hC hw (by omega) dX7_keep_19 (fun H locs hw => ?_)
  have hw : Wst E (XW E a) (sr σ 40 (upd (σ 40) 0 (σ 0 0))) A s.heap H locs := hw
  refine lv_aload_n hC.1 hC.2.1 dX7_keep_20 rfl (lv_at hl 0 rfl) ?_
  refine lv_iconst (v := nI 1) hC.1 hC.2.1 dX7_keep_21 (by decide) ?_
  refine lv_aload_n hC.1 hC.2.1 dX7_keep_22 rfl (lv_at hl 1 rfl) ?_
  refine gf_X7_20 hC hw dX7_keep_23 ?_
  refine gf_X7_37 (v := σ 0 1) hC hw rfl dX7_keep_26 ?_
  refine q_ast (Wf := XW E a) 50 rfl (by decide) (XW_s40 _) hC hw (by omega) dX7_keep_29 (fun H locs hw => ?_)
  have hw : Wst E (XW E a) (sr (sr σ 40 (upd (σ 40) 0 (σ 0 0))) 40 (upd (upd (σ 40) 0 (σ 0 0)) 1 (σ 0 1))) A s.heap H locs := hw
  have hst_ : sr (sr σ 40 (upd (σ 40) 0 (σ 0 0))) 40 (upd (upd (σ 40) 0 (σ 0 0)) 1 (σ 0 1)) = sr σ 40 (upd (upd (σ 40) 0 (σ 0 0)) 1 (σ 0 1)) := by
    funext j_ x_
    by_cases e0 : j_ = 0
    · subst e0
      rfl
    · by_cases e40 : j_ = 40
      · subst e40; rfl
      · simp only [sr, e0, e40, if_false]
  rw [hst_] at hw
  refine lv_aload_n hC.1 hC.2.1 dX7_keep_30 rfl (lv_at hl 0 rfl) ?_
  refine lv_iconst (v := nI 2) hC.1 hC.2.1 dX7_keep_31 (by decide) ?_
  refine lv_aload_n hC.1 hC.2.1 dX7_keep_32 rfl (lv_at hl 1 rfl) ?_
  refine gf_X7_20 hC hw dX7_keep_33 ?_
  refine gf_X7_40 (v := σ 0 2) hC hw rfl dX7_keep_36 ?_
  refine q_ast (Wf := XW E a) 50 rfl (by decide) (XW_s40 _) hC hw (by omega) dX7_keep_39 (fun H locs hw => ?_)
  have hw : Wst E (XW E a) (sr (sr σ 40 (upd (upd (σ 40) 0 (σ 0 0)) 1 (σ 0 1))) 40 (upd (upd (upd (σ 40) 0 (σ 0 0)) 1 (σ 0 1)) 2 (σ 0 2))) A s.heap H locs := hw
  have hst_ : sr (sr σ 40 (upd (upd (σ 40) 0 (σ 0 0)) 1 (σ 0 1))) 40 (upd (upd (upd (σ 40) 0 (σ 0 0)) 1 (σ 0 1)) 2 (σ 0 2)) = sr σ 40 (upd (upd (upd (σ 40) 0 (σ 0 0)) 1 (σ 0 1)) 2 (σ 0 2)) := by
    funext j_ x_
    by_cases e0 : j_ = 0
    · subst e0
      rfl
    · by_cases e40 : j_ = 40
      · subst e40; rfl
      · simp only [sr, e0, e40, if_false]
  rw [hst_] at hw
  refine lv_iconst (v := nI 3) hC.1 hC.2.1 dX7_keep_40 (by decide) ?_
  refine lv_istore_n (lv' := [(2, .int (nI 3)), (1, .ref (a 40)), (0, .ref (a 68))]) hC.1 hC.2.1 dX7_keep_41 rfl hl (by decide) rfl (fun ls hl => ?_)
  refine lv_aload_n hC.1 hC.2.1 dX7_keep_42 rfl (lv_at hl 2 rfl) ?_
  refine gf_X7_24 hC hw dX7_keep_43 ?_
  refine lv_iconst (v := nI 0) hC.1 hC.2.1 dX7_keep_46 (by decide) ?_
  refine lv_aload_n hC.1 hC.2.1 dX7_keep_47 rfl (lv_at hl 1 rfl) ?_
  refine lv_iload_n hC.1 hC.2.1 dX7_keep_48 rfl (lv_at hl 0 rfl) ?_
  refine lv_iconst (v := nI 3) hC.1 hC.2.1 dX7_keep_49 (by decide) ?_
  refine q_cpy (sp := 0) (dp := 3) (n := 3) 25 rfl 50 rfl (XW_s40 _) hC hw hl (by omega) (by omega) (by decide) (by decide) ⟨Nat.le_of_ble_eq_true rfl, Nat.le_of_ble_eq_true rfl⟩ wk2_182 dX7_keep_50 (fun H locs hw => ?_)
  have hw : Wst E (XW E a) (sr (sr σ 40 (upd (upd (upd (σ 40) 0 (σ 0 0)) 1 (σ 0 1)) 2 (σ 0 2))) 40 (va_cpy (σ 15) (upd (upd (upd (σ 40) 0 (σ 0 0)) 1 (σ 0 1)) 2 (σ 0 2)) 0 3 3)) A s.heap H locs := hw
  have hst_ : sr (sr σ 40 (upd (upd (upd (σ 40) 0 (σ 0 0)) 1 (σ 0 1)) 2 (σ 0 2))) 40 (va_cpy (σ 15) (upd (upd (upd (σ 40) 0 (σ 0 0)) 1 (σ 0 1)) 2 (σ 0 2)) 0 3 3) = sr σ 40 (va_cpy (σ 15) (upd (upd (upd (σ 40) 0 (σ 0 0)) 1 (σ 0 1)) 2 (σ 0 2)) 0 3 3) := by
    funext j_ x_
    by_cases e0 : j_ = 0
    · subst e0
      rfl
    · by_cases e40 : j_ = 40
      · subst e40; rfl
      · simp only [sr, e0, e40, if_false]
  rw [hst_] at hw
  refine lv_iinc (v := nI (3 + 3)) (lv' := [(2, .int (nI (3 + 3))), (1, .ref (a 40)), (0, .ref (a 68))]) hC.1 hC.2.1 dX7_keep_53 hl (k := 0) rfl (nI_add _ _) (by decide) rfl (fun ls hl => ?_)
  refine lv_iconst (v := nI 0) hC.1 hC.2.1 dX7_keep_56 (by decide) ?_
  refine lv_istore_n (lv' := [(3, .int (nI 0)), (2, .int (nI (3 + 3))), (1, .ref (a 40)), (0, .ref (a 68))]) hC.1 hC.2.1 dX7_keep_57 rfl hl (by decide) rfl (fun ls hl => ?_)
  have L58_0 : ∀ (n : Nat), ∀ (h : Nat), (h ≤ 10) → (10 - h) < n → ∀ (H : Heap) (locs : List Loc) (ls : Array Slot), Wst E (XW E a) (sr σ 40 (upc (σ 4) h (va_cpy (σ 15) (upd (upd (upd (σ 40) 0 (σ 0 0)) 1 (σ 0 1)) 2 (σ 0 2)) 0 3 3))) A s.heap H locs → lv_has ls 4 [(0, .ref (a 68)), (1, .ref (a 40)), (2, .int (nI (3 + 3))), (3, .int (nI h))] → W p l e ({ frames := 1, cells := 0, slots := 0, locals := 24 }) s m args below meth c H locs 0 0 Q (F0 m 58 ls []) := by
    intro n
    induction n with
    | zero => intro h hh hn; exact absurd hn (Nat.not_lt_zero _)
    | succ n ih58 =>
      intro h hh hn58 H locs ls hw hl
      refine lv_iload_n hC.1 hC.2.1 dX7_keep_58 rfl (lv_at hl 3 rfl) ?_
      refine lv_bipush (v := nI 10) hC.1 hC.2.1 dX7_keep_59 (by decide) ?_
      refine q_cmpge hC 92 (cNle (by omega) (by omega)) dX7_keep_61 (by decide) (fun (c2 : 10 ≤ h) => ?_) (fun (c2 : h < 10) => ?_)
      · have hh9 : h = 10 := by omega
        rw [hh9] at hw
        refine lv_iinc (v := nI (3 + 3 + 10)) (lv' := [(2, .int (nI (3 + 3 + 10))), (0, .ref (a 68)), (1, .ref (a 40)), (3, .int (nI h))]) hC.1 hC.2.1 dX7_keep_92 hl (k := 2) rfl (nI_add _ _) (by decide) rfl (fun ls hl => ?_)
        refine lv_aload_n hC.1 hC.2.1 dX7_keep_95 rfl (lv_at hl 1 rfl) ?_
        refine gf_X7_20 hC hw dX7_keep_96 ?_
        refine gf_X7_53 hC hw dX7_keep_99 ?_
        refine lv_iconst (v := nI 0) hC.1 hC.2.1 dX7_keep_102 (by decide) ?_
        refine lv_aload_n hC.1 hC.2.1 dX7_keep_103 rfl (lv_at hl 2 rfl) ?_
        refine lv_iload_n hC.1 hC.2.1 dX7_keep_104 rfl (lv_at hl 0 rfl) ?_
        refine lv_bipush (v := nI 24) hC.1 hC.2.1 dX7_keep_105 (by decide) ?_
        refine q_cpy (sp := 0) (dp := (3 + 3 + 10)) (n := 24) 21 rfl 50 rfl (XW_s40 _) hC hw hl (by omega) (by omega) (by decide) (by decide) ⟨Nat.le_of_ble_eq_true rfl, Nat.le_of_ble_eq_true rfl⟩ wk2_182 dX7_keep_107 (fun H locs hw => ?_)
        have hw : Wst E (XW E a) (sr (sr σ 40 (upc (σ 4) 10 (va_cpy (σ 15) (upd (upd (upd (σ 40) 0 (σ 0 0)) 1 (σ 0 1)) 2 (σ 0 2)) 0 3 3))) 40 (va_cpy (σ 11) (upc (σ 4) 10 (va_cpy (σ 15) (upd (upd (upd (σ 40) 0 (σ 0 0)) 1 (σ 0 1)) 2 (σ 0 2)) 0 3 3)) 0 (3 + 3 + 10) 24)) A s.heap H locs := hw
        have hst_ : sr (sr σ 40 (upc (σ 4) 10 (va_cpy (σ 15) (upd (upd (upd (σ 40) 0 (σ 0 0)) 1 (σ 0 1)) 2 (σ 0 2)) 0 3 3))) 40 (va_cpy (σ 11) (upc (σ 4) 10 (va_cpy (σ 15) (upd (upd (upd (σ 40) 0 (σ 0 0)) 1 (σ 0 1)) 2 (σ 0 2)) 0 3 3)) 0 (3 + 3 + 10) 24) = sr σ 40 (va_cpy (σ 11) (upc (σ 4) 10 (va_cpy (σ 15) (upd (upd (upd (σ 40) 0 (σ 0 0)) 1 (σ 0 1)) 2 (σ 0 2)) 0 3 3)) 0 (3 + 3 + 10) 24) := by
          funext j_ x_
          by_cases e0 : j_ = 0
          · subst e0
            rfl
          · by_cases e40 : j_ = 40
            · subst e40; rfl
            · simp only [sr, e0, e40, if_false]
        rw [hst_] at hw
        refine lv_aload_n hC.1 hC.2.1 dX7_keep_110 rfl (lv_at hl 1 rfl) ?_
        refine gf_X7_20 hC hw dX7_keep_111 ?_
        refine gf_X7_56 hC hw dX7_keep_114 ?_
        refine lv_iconst (v := nI 0) hC.1 hC.2.1 dX7_keep_117 (by decide) ?_
        refine lv_aload_n hC.1 hC.2.1 dX7_keep_118 rfl (lv_at hl 2 rfl) ?_
        refine lv_iload_n hC.1 hC.2.1 dX7_keep_119 rfl (lv_at hl 0 rfl) ?_
        refine lv_bipush (v := nI 24) hC.1 hC.2.1 dX7_keep_120 (by decide) ?_
        refine q_addN hC dX7_keep_122 ?_
        refine lv_bipush (v := nI 24) hC.1 hC.2.1 dX7_keep_123 (by decide) ?_
        refine q_cpy (sp := 0) (dp := ((3 + 3 + 10) + 24)) (n := 24) 22 rfl 50 rfl (XW_s40 _) hC hw hl (by omega) (by omega) (by decide) (by decide) ⟨Nat.le_of_ble_eq_true rfl, Nat.le_of_ble_eq_true rfl⟩ wk2_182 dX7_keep_125 (fun H locs hw => ?_)
        have hw : Wst E (XW E a) (sr (sr σ 40 (va_cpy (σ 11) (upc (σ 4) 10 (va_cpy (σ 15) (upd (upd (upd (σ 40) 0 (σ 0 0)) 1 (σ 0 1)) 2 (σ 0 2)) 0 3 3)) 0 (3 + 3 + 10) 24)) 40 (va_cpy (σ 12) (va_cpy (σ 11) (upc (σ 4) 10 (va_cpy (σ 15) (upd (upd (upd (σ 40) 0 (σ 0 0)) 1 (σ 0 1)) 2 (σ 0 2)) 0 3 3)) 0 (3 + 3 + 10) 24) 0 ((3 + 3 + 10) + 24) 24)) A s.heap H locs := hw
        have hst_ : sr (sr σ 40 (va_cpy (σ 11) (upc (σ 4) 10 (va_cpy (σ 15) (upd (upd (upd (σ 40) 0 (σ 0 0)) 1 (σ 0 1)) 2 (σ 0 2)) 0 3 3)) 0 (3 + 3 + 10) 24)) 40 (va_cpy (σ 12) (va_cpy (σ 11) (upc (σ 4) 10 (va_cpy (σ 15) (upd (upd (upd (σ 40) 0 (σ 0 0)) 1 (σ 0 1)) 2 (σ 0 2)) 0 3 3)) 0 (3 + 3 + 10) 24) 0 ((3 + 3 + 10) + 24) 24) = sr σ 40 (va_cpy (σ 12) (va_cpy (σ 11) (upc (σ 4) 10 (va_cpy (σ 15) (upd (upd (upd (σ 40) 0 (σ 0 0)) 1 (σ 0 1)) 2 (σ 0 2)) 0 3 3)) 0 (3 + 3 + 10) 24) 0 ((3 + 3 + 10) + 24) 24) := by
          funext j_ x_
          by_cases e0 : j_ = 0
          · subst e0
            rfl
          · by_cases e40 : j_ = 40
            · subst e40; rfl
            · simp only [sr, e0, e40, if_false]
        rw [hst_] at hw
        refine lv_aload_n hC.1 hC.2.1 dX7_keep_128 rfl (lv_at hl 1 rfl) ?_
        refine gf_X7_20 hC hw dX7_keep_129 ?_
        refine gf_X7_59 hC hw dX7_keep_132 ?_
        refine lv_iconst (v := nI 0) hC.1 hC.2.1 dX7_keep_135 (by decide) ?_
        refine lv_aload_n hC.1 hC.2.1 dX7_keep_136 rfl (lv_at hl 2 rfl) ?_
        refine lv_iload_n hC.1 hC.2.1 dX7_keep_137 rfl (lv_at hl 0 rfl) ?_
        refine lv_bipush (v := nI 48) hC.1 hC.2.1 dX7_keep_138 (by decide) ?_
        refine q_addN hC dX7_keep_140 ?_
        refine lv_bipush (v := nI 24) hC.1 hC.2.1 dX7_keep_141 (by decide) ?_
        refine q_cpy (sp := 0) (dp := ((3 + 3 + 10) + 48)) (n := 24) 23 rfl 50 rfl (XW_s40 _) hC hw hl (by omega) (by omega) (by decide) (by decide) ⟨Nat.le_of_ble_eq_true rfl, Nat.le_of_ble_eq_true rfl⟩ wk2_182 dX7_keep_143 (fun H locs hw => ?_)
        have hw : Wst E (XW E a) (sr (sr σ 40 (va_cpy (σ 12) (va_cpy (σ 11) (upc (σ 4) 10 (va_cpy (σ 15) (upd (upd (upd (σ 40) 0 (σ 0 0)) 1 (σ 0 1)) 2 (σ 0 2)) 0 3 3)) 0 (3 + 3 + 10) 24) 0 ((3 + 3 + 10) + 24) 24)) 40 (va_cpy (σ 13) (va_cpy (σ 12) (va_cpy (σ 11) (upc (σ 4) 10 (va_cpy (σ 15) (upd (upd (upd (σ 40) 0 (σ 0 0)) 1 (σ 0 1)) 2 (σ 0 2)) 0 3 3)) 0 (3 + 3 + 10) 24) 0 ((3 + 3 + 10) + 24) 24) 0 ((3 + 3 + 10) + 48) 24)) A s.heap H locs := hw
        have hst_ : sr (sr σ 40 (va_cpy (σ 12) (va_cpy (σ 11) (upc (σ 4) 10 (va_cpy (σ 15) (upd (upd (upd (σ 40) 0 (σ 0 0)) 1 (σ 0 1)) 2 (σ 0 2)) 0 3 3)) 0 (3 + 3 + 10) 24) 0 ((3 + 3 + 10) + 24) 24)) 40 (va_cpy (σ 13) (va_cpy (σ 12) (va_cpy (σ 11) (upc (σ 4) 10 (va_cpy (σ 15) (upd (upd (upd (σ 40) 0 (σ 0 0)) 1 (σ 0 1)) 2 (σ 0 2)) 0 3 3)) 0 (3 + 3 + 10) 24) 0 ((3 + 3 + 10) + 24) 24) 0 ((3 + 3 + 10) + 48) 24) = sr σ 40 (va_cpy (σ 13) (va_cpy (σ 12) (va_cpy (σ 11) (upc (σ 4) 10 (va_cpy (σ 15) (upd (upd (upd (σ 40) 0 (σ 0 0)) 1 (σ 0 1)) 2 (σ 0 2)) 0 3 3)) 0 (3 + 3 + 10) 24) 0 ((3 + 3 + 10) + 24) 24) 0 ((3 + 3 + 10) + 48) 24) := by
          funext j_ x_
          by_cases e0 : j_ = 0
          · subst e0
            rfl
          · by_cases e40 : j_ = 40
            · subst e40; rfl
            · simp only [sr, e0, e40, if_false]
        rw [hst_] at hw
        refine lv_aload_n hC.1 hC.2.1 dX7_keep_146 rfl (lv_at hl 1 rfl) ?_
        refine gf_X7_20 hC hw dX7_keep_147 ?_
        refine gf_X7_62 hC hw dX7_keep_150 ?_
        refine lv_iconst (v := nI 0) hC.1 hC.2.1 dX7_keep_153 (by decide) ?_
        refine lv_aload_n hC.1 hC.2.1 dX7_keep_154 rfl (lv_at hl 2 rfl) ?_
        refine lv_iload_n hC.1 hC.2.1 dX7_keep_155 rfl (lv_at hl 0 rfl) ?_
        refine lv_bipush (v := nI 72) hC.1 hC.2.1 dX7_keep_156 (by decide) ?_
        refine q_addN hC dX7_keep_158 ?_
        refine lv_bipush (v := nI 24) hC.1 hC.2.1 dX7_keep_159 (by decide) ?_
        refine q_cpy (sp := 0) (dp := ((3 + 3 + 10) + 72)) (n := 24) 24 rfl 50 rfl (XW_s40 _) hC hw hl (by omega) (by omega) (by decide) (by decide) ⟨Nat.le_of_ble_eq_true rfl, Nat.le_of_ble_eq_true rfl⟩ wk2_182 dX7_keep_161 (fun H locs hw => ?_)
        have hw : Wst E (XW E a) (sr (sr σ 40 (va_cpy (σ 13) (va_cpy (σ 12) (va_cpy (σ 11) (upc (σ 4) 10 (va_cpy (σ 15) (upd (upd (upd (σ 40) 0 (σ 0 0)) 1 (σ 0 1)) 2 (σ 0 2)) 0 3 3)) 0 (3 + 3 + 10) 24) 0 ((3 + 3 + 10) + 24) 24) 0 ((3 + 3 + 10) + 48) 24)) 40 (va_cpy (σ 14) (va_cpy (σ 13) (va_cpy (σ 12) (va_cpy (σ 11) (upc (σ 4) 10 (va_cpy (σ 15) (upd (upd (upd (σ 40) 0 (σ 0 0)) 1 (σ 0 1)) 2 (σ 0 2)) 0 3 3)) 0 (3 + 3 + 10) 24) 0 ((3 + 3 + 10) + 24) 24) 0 ((3 + 3 + 10) + 48) 24) 0 ((3 + 3 + 10) + 72) 24)) A s.heap H locs := hw
        have hst_ : sr (sr σ 40 (va_cpy (σ 13) (va_cpy (σ 12) (va_cpy (σ 11) (upc (σ 4) 10 (va_cpy (σ 15) (upd (upd (upd (σ 40) 0 (σ 0 0)) 1 (σ 0 1)) 2 (σ 0 2)) 0 3 3)) 0 (3 + 3 + 10) 24) 0 ((3 + 3 + 10) + 24) 24) 0 ((3 + 3 + 10) + 48) 24)) 40 (va_cpy (σ 14) (va_cpy (σ 13) (va_cpy (σ 12) (va_cpy (σ 11) (upc (σ 4) 10 (va_cpy (σ 15) (upd (upd (upd (σ 40) 0 (σ 0 0)) 1 (σ 0 1)) 2 (σ 0 2)) 0 3 3)) 0 (3 + 3 + 10) 24) 0 ((3 + 3 + 10) + 24) 24) 0 ((3 + 3 + 10) + 48) 24) 0 ((3 + 3 + 10) + 72) 24) = sr σ 40 (va_cpy (σ 14) (va_cpy (σ 13) (va_cpy (σ 12) (va_cpy (σ 11) (upc (σ 4) 10 (va_cpy (σ 15) (upd (upd (upd (σ 40) 0 (σ 0 0)) 1 (σ 0 1)) 2 (σ 0 2)) 0 3 3)) 0 (3 + 3 + 10) 24) 0 ((3 + 3 + 10) + 24) 24) 0 ((3 + 3 + 10) + 48) 24) 0 ((3 + 3 + 10) + 72) 24) := by
          funext j_ x_
          by_cases e0 : j_ = 0
          · subst e0
            rfl
          · by_cases e40 : j_ = 40
            · subst e40; rfl
            · simp only [sr, e0, e40, if_false]
        rw [hst_] at hw
        refine lv_aload_n hC.1 hC.2.1 dX7_keep_164 rfl (lv_at hl 1 rfl) ?_
        refine lv_aload_n hC.1 hC.2.1 dX7_keep_165 rfl (lv_at hl 1 rfl) ?_
        refine gf_X7_28 (v := nI 10) hC hw hnx dX7_keep_166 ?_
        refine lv_bipush (v := nI 29) hC.1 hC.2.1 dX7_keep_169 (by decide) ?_
        have J184_4 : ∀ (w3 : Nat), w3 = (if 10 ≠ 29 then (10 + 1) else 0) → ∀ (H : Heap) (locs : List Loc) (ls : Array Slot), Wst E (XW E a) (sr σ 40 (va_cpy (σ 14) (va_cpy (σ 13) (va_cpy (σ 12) (va_cpy (σ 11) (upc (σ 4) 10 (va_cpy (σ 15) (upd (upd (upd (σ 40) 0 (σ 0 0)) 1 (σ 0 1)) 2 (σ 0 2)) 0 3 3)) 0 (3 + 3 + 10) 24) 0 ((3 + 3 + 10) + 24) 24) 0 ((3 + 3 + 10) + 48) 24) 0 ((3 + 3 + 10) + 72) 24)) A s.heap H locs → lv_has ls 4 [(0, .ref (a 68)), (1, .ref (a 40)), (2, .int (nI (3 + 3 + 10))), (3, .int (nI h))] → W p l e ({ frames := 1, cells := 0, slots := 0, locals := 24 }) s m args below meth c H locs 0 0 Q (F0 m 184 ls [.int (nI w3), .ref (a 68)]) := by
          intro w3 e4 H locs ls hw hl
          subst e4
          refine pf_X7_28 hC hw dX7_keep_184 (fun H locs hw => ?_)
          have hw : Wst E (XW E a) (sr (sr σ 40 (va_cpy (σ 14) (va_cpy (σ 13) (va_cpy (σ 12) (va_cpy (σ 11) (upc (σ 4) 10 (va_cpy (σ 15) (upd (upd (upd (σ 40) 0 (σ 0 0)) 1 (σ 0 1)) 2 (σ 0 2)) 0 3 3)) 0 (3 + 3 + 10) 24) 0 ((3 + 3 + 10) + 24) 24) 0 ((3 + 3 + 10) + 48) 24) 0 ((3 + 3 + 10) + 72) 24)) 0 (upd (σ 0) 3 (nI (if 10 ≠ 29 then (10 + 1) else 0)))) A s.heap H locs := hw
          refine lv_aload_n hC.1 hC.2.1 dX7_keep_187 rfl (lv_at hl 0 rfl) ?_
          refine lv_aload_n hC.1 hC.2.1 dX7_keep_188 rfl (lv_at hl 0 rfl) ?_
          refine gf_X7_65 (v := nI kp) hC hw hkp dX7_keep_189 ?_
          refine lv_bipush (v := nI 30) hC.1 hC.2.1 dX7_keep_192 (by decide) ?_
          have J210_6 : ∀ (w5 : Nat), w5 = (if kp ≠ 30 then (kp + 1) else kp) → ∀ (H : Heap) (locs : List Loc) (ls : Array Slot), Wst E (XW E a) (sr (sr σ 40 (va_cpy (σ 14) (va_cpy (σ 13) (va_cpy (σ 12) (va_cpy (σ 11) (upc (σ 4) 10 (va_cpy (σ 15) (upd (upd (upd (σ 40) 0 (σ 0 0)) 1 (σ 0 1)) 2 (σ 0 2)) 0 3 3)) 0 (3 + 3 + 10) 24) 0 ((3 + 3 + 10) + 24) 24) 0 ((3 + 3 + 10) + 48) 24) 0 ((3 + 3 + 10) + 72) 24)) 0 (upd (σ 0) 3 (nI (if 10 ≠ 29 then (10 + 1) else 0)))) A s.heap H locs → lv_has ls 4 [(0, .ref (a 68)), (1, .ref (a 40)), (2, .int (nI (3 + 3 + 10))), (3, .int (nI h))] → W p l e ({ frames := 1, cells := 0, slots := 0, locals := 24 }) s m args below meth c H locs 0 0 Q (F0 m 210 ls [.int (nI w5), .ref (a 68)]) := by
            intro w5 e6 H locs ls hw hl
            subst e6
            refine pf_X7_65 hC hw dX7_keep_210 (fun H locs hw => ?_)
            have hw : Wst E (XW E a) (sr (sr (sr σ 40 (va_cpy (σ 14) (va_cpy (σ 13) (va_cpy (σ 12) (va_cpy (σ 11) (upc (σ 4) 10 (va_cpy (σ 15) (upd (upd (upd (σ 40) 0 (σ 0 0)) 1 (σ 0 1)) 2 (σ 0 2)) 0 3 3)) 0 (3 + 3 + 10) 24) 0 ((3 + 3 + 10) + 24) 24) 0 ((3 + 3 + 10) + 48) 24) 0 ((3 + 3 + 10) + 72) 24)) 0 (upd (σ 0) 3 (nI (if 10 ≠ 29 then (10 + 1) else 0)))) 0 (upd (upd (σ 0) 3 (nI (if 10 ≠ 29 then (10 + 1) else 0))) 4 (nI (if kp ≠ 30 then (kp + 1) else kp)))) A s.heap H locs := hw
            have hst_ : sr (sr (sr σ 40 (va_cpy (σ 14) (va_cpy (σ 13) (va_cpy (σ 12) (va_cpy (σ 11) (upc (σ 4) 10 (va_cpy (σ 15) (upd (upd (upd (σ 40) 0 (σ 0 0)) 1 (σ 0 1)) 2 (σ 0 2)) 0 3 3)) 0 (3 + 3 + 10) 24) 0 ((3 + 3 + 10) + 24) 24) 0 ((3 + 3 + 10) + 48) 24) 0 ((3 + 3 + 10) + 72) 24)) 0 (upd (σ 0) 3 (nI (if 10 ≠ 29 then (10 + 1) else 0)))) 0 (upd (upd (σ 0) 3 (nI (if 10 ≠ 29 then (10 + 1) else 0))) 4 (nI (if kp ≠ 30 then (kp + 1) else kp))) = sr (sr σ 40 (va_cpy (σ 14) (va_cpy (σ 13) (va_cpy (σ 12) (va_cpy (σ 11) (upc (σ 4) 10 (va_cpy (σ 15) (upd (upd (upd (σ 40) 0 (σ 0 0)) 1 (σ 0 1)) 2 (σ 0 2)) 0 3 3)) 0 (3 + 3 + 10) 24) 0 ((3 + 3 + 10) + 24) 24) 0 ((3 + 3 + 10) + 48) 24) 0 ((3 + 3 + 10) + 72) 24)) 0 (upd (upd (σ 0) 3 (nI (if 10 ≠ 29 then (10 + 1) else 0))) 4 (nI (if kp ≠ 30 then (kp + 1) else kp))) := by
              funext j_ x_
              by_cases e0 : j_ = 0
              · subst e0
                by_cases y3 : x_ = 3
                · subst y3; rfl
                · by_cases y4 : x_ = 4
                  · subst y4; rfl
                  · simp [sr, upd, y3, y4]
              · by_cases e40 : j_ = 40
                · subst e40; rfl
                · simp only [sr, e0, e40, if_false]
            rw [hst_] at hw
            refine hret _ _ _ _ _ hw ?_ dX7_keep_213
            exact rfl
          refine q_cmpne hC 204 (cNeq (by omega) (by omega)) dX7_keep_194 (by decide) (fun (c7 : kp ≠ 30) => ?_) (fun (c7 : kp = 30) => ?_)
          · refine lv_aload_n hC.1 hC.2.1 dX7_keep_204 rfl (lv_at hl 0 rfl) ?_
            refine gf_X7_65 (v := nI kp) hC hw hkp dX7_keep_205 ?_
            refine lv_iconst (v := nI 1) hC.1 hC.2.1 dX7_keep_208 (by decide) ?_
            refine q_addN hC dX7_keep_209 ?_
            exact J210_6 _ (by (rw [if_pos c7]) <;> rfl) _ _ _ hw (lv_sub hl [0, 1, 2, 3] rfl)
          · refine lv_aload_n hC.1 hC.2.1 dX7_keep_197 rfl (lv_at hl 0 rfl) ?_
            refine gf_X7_65 (v := nI kp) hC hw hkp dX7_keep_198 ?_
            refine lv_goto (tgt := 210) hC.1 hC.2.1 dX7_keep_201 (by decide) ?_
            exact J210_6 _ (by (rw [if_neg (fun q => q c7)]) <;> rfl) _ _ _ hw (lv_sub hl [0, 1, 2, 3] rfl)
        refine q_cmpne hC 178 (cNeq (by omega) (by omega)) dX7_keep_171 (by decide) (fun (c8 : 10 ≠ 29) => ?_) (fun (c8 : 10 = 29) => ?_)
        · refine lv_aload_n hC.1 hC.2.1 dX7_keep_178 rfl (lv_at hl 1 rfl) ?_
          refine gf_X7_28 (v := nI 10) hC hw hnx dX7_keep_179 ?_
          refine lv_iconst (v := nI 1) hC.1 hC.2.1 dX7_keep_182 (by decide) ?_
          refine q_addN hC dX7_keep_183 ?_
          exact J184_4 _ (by (rw [if_pos c8]) <;> rfl) _ _ _ hw (lv_sub hl [1, 2, 0, 3] rfl)
        · refine lv_iconst (v := nI 0) hC.1 hC.2.1 dX7_keep_174 (by decide) ?_
          refine lv_goto (tgt := 184) hC.1 hC.2.1 dX7_keep_175 (by decide) ?_
          exact J184_4 _ (by (rw [if_neg (fun q => q c8)]) <;> rfl) _ _ _ hw (lv_sub hl [1, 2, 0, 3] rfl)
      · refine lv_aload_n hC.1 hC.2.1 dX7_keep_64 rfl (lv_at hl 1 rfl) ?_
        refine lv_iload_n hC.1 hC.2.1 dX7_keep_65 rfl (lv_at hl 2 rfl) ?_
        refine lv_iload_n hC.1 hC.2.1 dX7_keep_66 rfl (lv_at hl 3 rfl) ?_
        refine q_addN hC dX7_keep_67 ?_
        refine lv_aload_n hC.1 hC.2.1 dX7_keep_68 rfl (lv_at hl 0 rfl) ?_
        refine gf_X7_16 hC hw dX7_keep_69 ?_
        refine gf_X7_49 hC hw dX7_keep_72 ?_
        refine lv_iload_n hC.1 hC.2.1 dX7_keep_75 rfl (lv_at hl 3 rfl) ?_
        refine al_X4 (v := σ 4 h) hC hw (by omega) rfl dX7_keep_76 ?_
        have J85_10 : ∀ (w9 : Int32), w9 = (if ¬ (σ 4 h = 0) then (1 : Int32) else 0) → ∀ (H : Heap) (locs : List Loc) (ls : Array Slot), Wst E (XW E a) (sr σ 40 (upc (σ 4) h (va_cpy (σ 15) (upd (upd (upd (σ 40) 0 (σ 0 0)) 1 (σ 0 1)) 2 (σ 0 2)) 0 3 3))) A s.heap H locs → lv_has ls 4 [(0, .ref (a 68)), (1, .ref (a 40)), (2, .int (nI (3 + 3))), (3, .int (nI h))] → W p l e ({ frames := 1, cells := 0, slots := 0, locals := 24 }) s m args below meth c H locs 0 0 Q (F0 m 85 ls [.int (w9), .int (nI ((3 + 3) + h)), .ref (a 40)]) := by
          intro w9 e10 H locs ls hw hl
          subst e10
          refine q_ast (Wf := XW E a) 50 rfl (by decide) (XW_s40 _) hC hw (by omega) dX7_keep_85 (fun H locs hw => ?_)
          have hw : Wst E (XW E a) (sr (sr σ 40 (upc (σ 4) h (va_cpy (σ 15) (upd (upd (upd (σ 40) 0 (σ 0 0)) 1 (σ 0 1)) 2 (σ 0 2)) 0 3 3))) 40 (upd (upc (σ 4) h (va_cpy (σ 15) (upd (upd (upd (σ 40) 0 (σ 0 0)) 1 (σ 0 1)) 2 (σ 0 2)) 0 3 3)) ((3 + 3) + h) (if ¬ (σ 4 h = 0) then (1 : Int32) else 0))) A s.heap H locs := hw
          have hst_ : sr (sr σ 40 (upc (σ 4) h (va_cpy (σ 15) (upd (upd (upd (σ 40) 0 (σ 0 0)) 1 (σ 0 1)) 2 (σ 0 2)) 0 3 3))) 40 (upd (upc (σ 4) h (va_cpy (σ 15) (upd (upd (upd (σ 40) 0 (σ 0 0)) 1 (σ 0 1)) 2 (σ 0 2)) 0 3 3)) ((3 + 3) + h) (if ¬ (σ 4 h = 0) then (1 : Int32) else 0)) = sr σ 40 (upd (upc (σ 4) h (va_cpy (σ 15) (upd (upd (upd (σ 40) 0 (σ 0 0)) 1 (σ 0 1)) 2 (σ 0 2)) 0 3 3)) ((3 + 3) + h) (if ¬ (σ 4 h = 0) then (1 : Int32) else 0)) := by
            funext j_ x_
            by_cases e0 : j_ = 0
            · subst e0
              rfl
            · by_cases e40 : j_ = 40
              · subst e40; rfl
              · simp only [sr, e0, e40, if_false]
          rw [hst_] at hw
          refine lv_iinc (v := nI (h + 1)) (lv' := [(3, .int (nI (h + 1))), (0, .ref (a 68)), (1, .ref (a 40)), (2, .int (nI (3 + 3)))]) hC.1 hC.2.1 dX7_keep_86 hl (k := 3) rfl (nI_add _ _) (by decide) rfl (fun ls hl => ?_)
          refine lv_goto (tgt := 58) hC.1 hC.2.1 dX7_keep_89 (by decide) ?_
          rw [upc_s] at hw
          exact ih58 (h + 1) (by omega) (by omega) _ _ _ hw (lv_sub hl [1, 2, 3, 0] rfl)
        refine q_ifeq hC 84 cI dX7_keep_77 (by decide) (fun (c11 : σ 4 h = 0) => ?_) (fun (c11 : ¬ (σ 4 h = 0)) => ?_)
        · refine lv_iconst (v := nI 0) hC.1 hC.2.1 dX7_keep_84 (by decide) ?_
          exact J85_10 _ (if_neg (fun q => q c11)).symm _ _ _ hw (lv_sub hl [0, 1, 2, 3] rfl)
        · refine lv_iconst (v := nI 1) hC.1 hC.2.1 dX7_keep_80 (by decide) ?_
          refine lv_goto (tgt := 85) hC.1 hC.2.1 dX7_keep_81 (by decide) ?_
          exact J85_10 _ (if_pos c11).symm _ _ _ hw (lv_sub hl [0, 1, 2, 3] rfl)
  rw [← upc_0 (σ 4) (va_cpy (σ 15) (upd (upd (upd (σ 40) 0 (σ 0 0)) 1 (σ 0 1)) 2 (σ 0 2)) 0 3 3)] at hw
  exact L58_0 _ 0 (by omega) (Nat.lt_succ_self _) _ _ _ hw (lv_sub hl [3, 2, 1, 0] rfl)
set_option maxHeartbeats 4000000 in
set_option maxRecDepth 100000 in
theorem tX7_keep_k11 (l : Launch) (E : EV) (a : Nat → Nat) (σ : St) (kp : Nat) (hnx : σ 0 3 = nI 11) (hkp : σ 0 4 = nI kp) (hk30 : kp ≤ 30) : MV l E (XW E a) yX7_keep (Cond.code yX7_keep cX7_keep 4 none) ({ frames := 1, cells := 0, slots := 0, locals := 24 }) [.ref (a 68)] σ (fun u_ => u_ = sr (sr σ 41 (kpr σ (σ 41))) 0 (upd (upd (σ 0) 3 (nI (if 11 ≠ 29 then 11 + 1 else 0))) 4 (nI (if kp ≠ 30 then kp + 1 else kp)))) := by
  refine MV.mk (by decide +kernel) (Nat.le_of_ble_eq_true rfl) ?_
  intro p e s m args below meth c ls A Q hret hC hw hl
  have hC : Cxt E p s m args meth c cX7_keep 4 none RX7 A := hC
  have hl : lv_has ls 4 [(0, .ref (a 68))] := hl
  refine lv_aload_n hC.1 hC.2.1 dX7_keep_0 rfl (lv_at hl 0 rfl) ?_
  refine gf_X7_13 hC hw dX7_keep_1 ?_
  refine lv_aload_n hC.1 hC.2.1 dX7_keep_4 rfl (lv_at hl 0 rfl) ?_
  refine gf_X7_28 (v := nI 11) hC hw hnx dX7_keep_5 ?_
  refine q_aald hC hw (i := 11) (by decide) dX7_keep_8 ?_
  refine lv_astore_n (lv' := [(1, .ref (a 41)), (0, .ref (a 68))]) hC.1 hC.2.1 dX7_keep_9 rfl hl (by decide) rfl (fun ls hl => ?_)
  refine lv_aload_n hC.1 hC.2.1 dX7_keep_10 rfl (lv_at hl 0 rfl) ?_
  refine lv_iconst (v := nI 0) hC.1 hC.2.1 dX7_keep_11 (by decide) ?_
  refine lv_aload_n hC.1 hC.2.1 dX7_keep_12 rfl (lv_at hl 1 rfl) ?_
  refine gf_X7_16 hC hw dX7_keep_13 ?_
  refine gf_X7_32 (v := σ 0 0) hC hw rfl dX7_keep_16 ?_
  refine q_ast (Wf := XW E a) 51 rfl (by decide) (XW_s41 _) hC hw (by omega) dX7_keep_19 (fun H locs hw => ?_)
  have hw : Wst E (XW E a) (sr σ 41 (upd (σ 41) 0 (σ 0 0))) A s.heap H locs := hw
  refine lv_aload_n hC.1 hC.2.1 dX7_keep_20 rfl (lv_at hl 0 rfl) ?_
  refine lv_iconst (v := nI 1) hC.1 hC.2.1 dX7_keep_21 (by decide) ?_
  refine lv_aload_n hC.1 hC.2.1 dX7_keep_22 rfl (lv_at hl 1 rfl) ?_
  refine gf_X7_20 hC hw dX7_keep_23 ?_
  refine gf_X7_37 (v := σ 0 1) hC hw rfl dX7_keep_26 ?_
  refine q_ast (Wf := XW E a) 51 rfl (by decide) (XW_s41 _) hC hw (by omega) dX7_keep_29 (fun H locs hw => ?_)
  have hw : Wst E (XW E a) (sr (sr σ 41 (upd (σ 41) 0 (σ 0 0))) 41 (upd (upd (σ 41) 0 (σ 0 0)) 1 (σ 0 1))) A s.heap H locs := hw
  have hst_ : sr (sr σ 41 (upd (σ 41) 0 (σ 0 0))) 41 (upd (upd (σ 41) 0 (σ 0 0)) 1 (σ 0 1)) = sr σ 41 (upd (upd (σ 41) 0 (σ 0 0)) 1 (σ 0 1)) := by
    funext j_ x_
    by_cases e0 : j_ = 0
    · subst e0
      rfl
    · by_cases e41 : j_ = 41
      · subst e41; rfl
      · simp only [sr, e0, e41, if_false]
  rw [hst_] at hw
  refine lv_aload_n hC.1 hC.2.1 dX7_keep_30 rfl (lv_at hl 0 rfl) ?_
  refine lv_iconst (v := nI 2) hC.1 hC.2.1 dX7_keep_31 (by decide) ?_
  refine lv_aload_n hC.1 hC.2.1 dX7_keep_32 rfl (lv_at hl 1 rfl) ?_
  refine gf_X7_20 hC hw dX7_keep_33 ?_
  refine gf_X7_40 (v := σ 0 2) hC hw rfl dX7_keep_36 ?_
  refine q_ast (Wf := XW E a) 51 rfl (by decide) (XW_s41 _) hC hw (by omega) dX7_keep_39 (fun H locs hw => ?_)
  have hw : Wst E (XW E a) (sr (sr σ 41 (upd (upd (σ 41) 0 (σ 0 0)) 1 (σ 0 1))) 41 (upd (upd (upd (σ 41) 0 (σ 0 0)) 1 (σ 0 1)) 2 (σ 0 2))) A s.heap H locs := hw
  have hst_ : sr (sr σ 41 (upd (upd (σ 41) 0 (σ 0 0)) 1 (σ 0 1))) 41 (upd (upd (upd (σ 41) 0 (σ 0 0)) 1 (σ 0 1)) 2 (σ 0 2)) = sr σ 41 (upd (upd (upd (σ 41) 0 (σ 0 0)) 1 (σ 0 1)) 2 (σ 0 2)) := by
    funext j_ x_
    by_cases e0 : j_ = 0
    · subst e0
      rfl
    · by_cases e41 : j_ = 41
      · subst e41; rfl
      · simp only [sr, e0, e41, if_false]
  rw [hst_] at hw
  refine lv_iconst (v := nI 3) hC.1 hC.2.1 dX7_keep_40 (by decide) ?_
  refine lv_istore_n (lv' := [(2, .int (nI 3)), (1, .ref (a 41)), (0, .ref (a 68))]) hC.1 hC.2.1 dX7_keep_41 rfl hl (by decide) rfl (fun ls hl => ?_)
  refine lv_aload_n hC.1 hC.2.1 dX7_keep_42 rfl (lv_at hl 2 rfl) ?_
  refine gf_X7_24 hC hw dX7_keep_43 ?_
  refine lv_iconst (v := nI 0) hC.1 hC.2.1 dX7_keep_46 (by decide) ?_
  refine lv_aload_n hC.1 hC.2.1 dX7_keep_47 rfl (lv_at hl 1 rfl) ?_
  refine lv_iload_n hC.1 hC.2.1 dX7_keep_48 rfl (lv_at hl 0 rfl) ?_
  refine lv_iconst (v := nI 3) hC.1 hC.2.1 dX7_keep_49 (by decide) ?_
  refine q_cpy (sp := 0) (dp := 3) (n := 3) 25 rfl 51 rfl (XW_s41 _) hC hw hl (by omega) (by omega) (by decide) (by decide) ⟨Nat.le_of_ble_eq_true rfl, Nat.le_of_ble_eq_true rfl⟩ wk2_182 dX7_keep_50 (fun H locs hw => ?_)
  have hw : Wst E (XW E a) (sr (sr σ 41 (upd (upd (upd (σ 41) 0 (σ 0 0)) 1 (σ 0 1)) 2 (σ 0 2))) 41 (va_cpy (σ 15) (upd (upd (upd (σ 41) 0 (σ 0 0)) 1 (σ 0 1)) 2 (σ 0 2)) 0 3 3)) A s.heap H locs := hw
  have hst_ : sr (sr σ 41 (upd (upd (upd (σ 41) 0 (σ 0 0)) 1 (σ 0 1)) 2 (σ 0 2))) 41 (va_cpy (σ 15) (upd (upd (upd (σ 41) 0 (σ 0 0)) 1 (σ 0 1)) 2 (σ 0 2)) 0 3 3) = sr σ 41 (va_cpy (σ 15) (upd (upd (upd (σ 41) 0 (σ 0 0)) 1 (σ 0 1)) 2 (σ 0 2)) 0 3 3) := by
    funext j_ x_
    by_cases e0 : j_ = 0
    · subst e0
      rfl
    · by_cases e41 : j_ = 41
      · subst e41; rfl
      · simp only [sr, e0, e41, if_false]
  rw [hst_] at hw
  refine lv_iinc (v := nI (3 + 3)) (lv' := [(2, .int (nI (3 + 3))), (1, .ref (a 41)), (0, .ref (a 68))]) hC.1 hC.2.1 dX7_keep_53 hl (k := 0) rfl (nI_add _ _) (by decide) rfl (fun ls hl => ?_)
  refine lv_iconst (v := nI 0) hC.1 hC.2.1 dX7_keep_56 (by decide) ?_
  refine lv_istore_n (lv' := [(3, .int (nI 0)), (2, .int (nI (3 + 3))), (1, .ref (a 41)), (0, .ref (a 68))]) hC.1 hC.2.1 dX7_keep_57 rfl hl (by decide) rfl (fun ls hl => ?_)
  have L58_0 : ∀ (n : Nat), ∀ (h : Nat), (h ≤ 10) → (10 - h) < n → ∀ (H : Heap) (locs : List Loc) (ls : Array Slot), Wst E (XW E a) (sr σ 41 (upc (σ 4) h (va_cpy (σ 15) (upd (upd (upd (σ 41) 0 (σ 0 0)) 1 (σ 0 1)) 2 (σ 0 2)) 0 3 3))) A s.heap H locs → lv_has ls 4 [(0, .ref (a 68)), (1, .ref (a 41)), (2, .int (nI (3 + 3))), (3, .int (nI h))] → W p l e ({ frames := 1, cells := 0, slots := 0, locals := 24 }) s m args below meth c H locs 0 0 Q (F0 m 58 ls []) := by
    intro n
    induction n with
    | zero => intro h hh hn; exact absurd hn (Nat.not_lt_zero _)
    | succ n ih58 =>
      intro h hh hn58 H locs ls hw hl
      refine lv_iload_n hC.1 hC.2.1 dX7_keep_58 rfl (lv_at hl 3 rfl) ?_
      refine lv_bipush (v := nI 10) hC.1 hC.2.1 dX7_keep_59 (by decide) ?_
      refine q_cmpge hC 92 (cNle (by omega) (by omega)) dX7_keep_61 (by decide) (fun (c2 : 10 ≤ h) => ?_) (fun (c2 : h < 10) => ?_)
      · have hh9 : h = 10 := by omega
        rw [hh9] at hw
        refine lv_iinc (v := nI (3 + 3 + 10)) (lv' := [(2, .int (nI (3 + 3 + 10))), (0, .ref (a 68)), (1, .ref (a 41)), (3, .int (nI h))]) hC.1 hC.2.1 dX7_keep_92 hl (k := 2) rfl (nI_add _ _) (by decide) rfl (fun ls hl => ?_)
        refine lv_aload_n hC.1 hC.2.1 dX7_keep_95 rfl (lv_at hl 1 rfl) ?_
        refine gf_X7_20 hC hw dX7_keep_96 ?_
        refine gf_X7_53 hC hw dX7_keep_99 ?_
        refine lv_iconst (v := nI 0) hC.1 hC.2.1 dX7_keep_102 (by decide) ?_
        refine lv_aload_n hC.1 hC.2.1 dX7_keep_103 rfl (lv_at hl 2 rfl) ?_
        refine lv_iload_n hC.1 hC.2.1 dX7_keep_104 rfl (lv_at hl 0 rfl) ?_
        refine lv_bipush (v := nI 24) hC.1 hC.2.1 dX7_keep_105 (by decide) ?_
        refine q_cpy (sp := 0) (dp := (3 + 3 + 10)) (n := 24) 21 rfl 51 rfl (XW_s41 _) hC hw hl (by omega) (by omega) (by decide) (by decide) ⟨Nat.le_of_ble_eq_true rfl, Nat.le_of_ble_eq_true rfl⟩ wk2_182 dX7_keep_107 (fun H locs hw => ?_)
        have hw : Wst E (XW E a) (sr (sr σ 41 (upc (σ 4) 10 (va_cpy (σ 15) (upd (upd (upd (σ 41) 0 (σ 0 0)) 1 (σ 0 1)) 2 (σ 0 2)) 0 3 3))) 41 (va_cpy (σ 11) (upc (σ 4) 10 (va_cpy (σ 15) (upd (upd (upd (σ 41) 0 (σ 0 0)) 1 (σ 0 1)) 2 (σ 0 2)) 0 3 3)) 0 (3 + 3 + 10) 24)) A s.heap H locs := hw
        have hst_ : sr (sr σ 41 (upc (σ 4) 10 (va_cpy (σ 15) (upd (upd (upd (σ 41) 0 (σ 0 0)) 1 (σ 0 1)) 2 (σ 0 2)) 0 3 3))) 41 (va_cpy (σ 11) (upc (σ 4) 10 (va_cpy (σ 15) (upd (upd (upd (σ 41) 0 (σ 0 0)) 1 (σ 0 1)) 2 (σ 0 2)) 0 3 3)) 0 (3 + 3 + 10) 24) = sr σ 41 (va_cpy (σ 11) (upc (σ 4) 10 (va_cpy (σ 15) (upd (upd (upd (σ 41) 0 (σ 0 0)) 1 (σ 0 1)) 2 (σ 0 2)) 0 3 3)) 0 (3 + 3 + 10) 24) := by
          funext j_ x_
          by_cases e0 : j_ = 0
          · subst e0
            rfl
          · by_cases e41 : j_ = 41
            · subst e41; rfl
            · simp only [sr, e0, e41, if_false]
        rw [hst_] at hw
        refine lv_aload_n hC.1 hC.2.1 dX7_keep_110 rfl (lv_at hl 1 rfl) ?_
        refine gf_X7_20 hC hw dX7_keep_111 ?_
        refine gf_X7_56 hC hw dX7_keep_114 ?_
        refine lv_iconst (v := nI 0) hC.1 hC.2.1 dX7_keep_117 (by decide) ?_
        refine lv_aload_n hC.1 hC.2.1 dX7_keep_118 rfl (lv_at hl 2 rfl) ?_
        refine lv_iload_n hC.1 hC.2.1 dX7_keep_119 rfl (lv_at hl 0 rfl) ?_
        refine lv_bipush (v := nI 24) hC.1 hC.2.1 dX7_keep_120 (by decide) ?_
        refine q_addN hC dX7_keep_122 ?_
        refine lv_bipush (v := nI 24) hC.1 hC.2.1 dX7_keep_123 (by decide) ?_
        refine q_cpy (sp := 0) (dp := ((3 + 3 + 10) + 24)) (n := 24) 22 rfl 51 rfl (XW_s41 _) hC hw hl (by omega) (by omega) (by decide) (by decide) ⟨Nat.le_of_ble_eq_true rfl, Nat.le_of_ble_eq_true rfl⟩ wk2_182 dX7_keep_125 (fun H locs hw => ?_)
        have hw : Wst E (XW E a) (sr (sr σ 41 (va_cpy (σ 11) (upc (σ 4) 10 (va_cpy (σ 15) (upd (upd (upd (σ 41) 0 (σ 0 0)) 1 (σ 0 1)) 2 (σ 0 2)) 0 3 3)) 0 (3 + 3 + 10) 24)) 41 (va_cpy (σ 12) (va_cpy (σ 11) (upc (σ 4) 10 (va_cpy (σ 15) (upd (upd (upd (σ 41) 0 (σ 0 0)) 1 (σ 0 1)) 2 (σ 0 2)) 0 3 3)) 0 (3 + 3 + 10) 24) 0 ((3 + 3 + 10) + 24) 24)) A s.heap H locs := hw
        have hst_ : sr (sr σ 41 (va_cpy (σ 11) (upc (σ 4) 10 (va_cpy (σ 15) (upd (upd (upd (σ 41) 0 (σ 0 0)) 1 (σ 0 1)) 2 (σ 0 2)) 0 3 3)) 0 (3 + 3 + 10) 24)) 41 (va_cpy (σ 12) (va_cpy (σ 11) (upc (σ 4) 10 (va_cpy (σ 15) (upd (upd (upd (σ 41) 0 (σ 0 0)) 1 (σ 0 1)) 2 (σ 0 2)) 0 3 3)) 0 (3 + 3 + 10) 24) 0 ((3 + 3 + 10) + 24) 24) = sr σ 41 (va_cpy (σ 12) (va_cpy (σ 11) (upc (σ 4) 10 (va_cpy (σ 15) (upd (upd (upd (σ 41) 0 (σ 0 0)) 1 (σ 0 1)) 2 (σ 0 2)) 0 3 3)) 0 (3 + 3 + 10) 24) 0 ((3 + 3 + 10) + 24) 24) := by
          funext j_ x_
          by_cases e0 : j_ = 0
          · subst e0
            rfl
          · by_cases e41 : j_ = 41
            · subst e41; rfl
            · simp only [sr, e0, e41, if_false]
        rw [hst_] at hw
        refine lv_aload_n hC.1 hC.2.1 dX7_keep_128 rfl (lv_at hl 1 rfl) ?_
        refine gf_X7_20 hC hw dX7_keep_129 ?_
        refine gf_X7_59 hC hw dX7_keep_132 ?_
        refine lv_iconst (v := nI 0) hC.1 hC.2.1 dX7_keep_135 (by decide) ?_
        refine lv_aload_n hC.1 hC.2.1 dX7_keep_136 rfl (lv_at hl 2 rfl) ?_
        refine lv_iload_n hC.1 hC.2.1 dX7_keep_137 rfl (lv_at hl 0 rfl) ?_
        refine lv_bipush (v := nI 48) hC.1 hC.2.1 dX7_keep_138 (by decide) ?_
        refine q_addN hC dX7_keep_140 ?_
        refine lv_bipush (v := nI 24) hC.1 hC.2.1 dX7_keep_141 (by decide) ?_
        refine q_cpy (sp := 0) (dp := ((3 + 3 + 10) + 48)) (n := 24) 23 rfl 51 rfl (XW_s41 _) hC hw hl (by omega) (by omega) (by decide) (by decide) ⟨Nat.le_of_ble_eq_true rfl, Nat.le_of_ble_eq_true rfl⟩ wk2_182 dX7_keep_143 (fun H locs hw => ?_)
        have hw : Wst E (XW E a) (sr (sr σ 41 (va_cpy (σ 12) (va_cpy (σ 11) (upc (σ 4) 10 (va_cpy (σ 15) (upd (upd (upd (σ 41) 0 (σ 0 0)) 1 (σ 0 1)) 2 (σ 0 2)) 0 3 3)) 0 (3 + 3 + 10) 24) 0 ((3 + 3 + 10) + 24) 24)) 41 (va_cpy (σ 13) (va_cpy (σ 12) (va_cpy (σ 11) (upc (σ 4) 10 (va_cpy (σ 15) (upd (upd (upd (σ 41) 0 (σ 0 0)) 1 (σ 0 1)) 2 (σ 0 2)) 0 3 3)) 0 (3 + 3 + 10) 24) 0 ((3 + 3 + 10) + 24) 24) 0 ((3 + 3 + 10) + 48) 24)) A s.heap H locs := hw
        have hst_ : sr (sr σ 41 (va_cpy (σ 12) (va_cpy (σ 11) (upc (σ 4) 10 (va_cpy (σ 15) (upd (upd (upd (σ 41) 0 (σ 0 0)) 1 (σ 0 1)) 2 (σ 0 2)) 0 3 3)) 0 (3 + 3 + 10) 24) 0 ((3 + 3 + 10) + 24) 24)) 41 (va_cpy (σ 13) (va_cpy (σ 12) (va_cpy (σ 11) (upc (σ 4) 10 (va_cpy (σ 15) (upd (upd (upd (σ 41) 0 (σ 0 0)) 1 (σ 0 1)) 2 (σ 0 2)) 0 3 3)) 0 (3 + 3 + 10) 24) 0 ((3 + 3 + 10) + 24) 24) 0 ((3 + 3 + 10) + 48) 24) = sr σ 41 (va_cpy (σ 13) (va_cpy (σ 12) (va_cpy (σ 11) (upc (σ 4) 10 (va_cpy (σ 15) (upd (upd (upd (σ 41) 0 (σ 0 0)) 1 (σ 0 1)) 2 (σ 0 2)) 0 3 3)) 0 (3 + 3 + 10) 24) 0 ((3 + 3 + 10) + 24) 24) 0 ((3 + 3 + 10) + 48) 24) := by
          funext j_ x_
          by_cases e0 : j_ = 0
          · subst e0
            rfl
          · by_cases e41 : j_ = 41
            · subst e41; rfl
            · simp only [sr, e0, e41, if_false]
        rw [hst_] at hw
        refine lv_aload_n hC.1 hC.2.1 dX7_keep_146 rfl (lv_at hl 1 rfl) ?_
        refine gf_X7_20 hC hw dX7_keep_147 ?_
        refine gf_X7_62 hC hw dX7_keep_150 ?_
        refine lv_iconst (v := nI 0) hC.1 hC.2.1 dX7_keep_153 (by decide) ?_
        refine lv_aload_n hC.1 hC.2.1 dX7_keep_154 rfl (lv_at hl 2 rfl) ?_
        refine lv_iload_n hC.1 hC.2.1 dX7_keep_155 rfl (lv_at hl 0 rfl) ?_
        refine lv_bipush (v := nI 72) hC.1 hC.2.1 dX7_keep_156 (by decide) ?_
        refine q_addN hC dX7_keep_158 ?_
        refine lv_bipush (v := nI 24) hC.1 hC.2.1 dX7_keep_159 (by decide) ?_
        refine q_cpy (sp := 0) (dp := ((3 + 3 + 10) + 72)) (n := 24) 24 rfl 51 rfl (XW_s41 _) hC hw hl (by omega) (by omega) (by decide) (by decide) ⟨Nat.le_of_ble_eq_true rfl, Nat.le_of_ble_eq_true rfl⟩ wk2_182 dX7_keep_161 (fun H locs hw => ?_)
        have hw : Wst E (XW E a) (sr (sr σ 41 (va_cpy (σ 13) (va_cpy (σ 12) (va_cpy (σ 11) (upc (σ 4) 10 (va_cpy (σ 15) (upd (upd (upd (σ 41) 0 (σ 0 0)) 1 (σ 0 1)) 2 (σ 0 2)) 0 3 3)) 0 (3 + 3 + 10) 24) 0 ((3 + 3 + 10) + 24) 24) 0 ((3 + 3 + 10) + 48) 24)) 41 (va_cpy (σ 14) (va_cpy (σ 13) (va_cpy (σ 12) (va_cpy (σ 11) (upc (σ 4) 10 (va_cpy (σ 15) (upd (upd (upd (σ 41) 0 (σ 0 0)) 1 (σ 0 1)) 2 (σ 0 2)) 0 3 3)) 0 (3 + 3 + 10) 24) 0 ((3 + 3 + 10) + 24) 24) 0 ((3 + 3 + 10) + 48) 24) 0 ((3 + 3 + 10) + 72) 24)) A s.heap H locs := hw
        have hst_ : sr (sr σ 41 (va_cpy (σ 13) (va_cpy (σ 12) (va_cpy (σ 11) (upc (σ 4) 10 (va_cpy (σ 15) (upd (upd (upd (σ 41) 0 (σ 0 0)) 1 (σ 0 1)) 2 (σ 0 2)) 0 3 3)) 0 (3 + 3 + 10) 24) 0 ((3 + 3 + 10) + 24) 24) 0 ((3 + 3 + 10) + 48) 24)) 41 (va_cpy (σ 14) (va_cpy (σ 13) (va_cpy (σ 12) (va_cpy (σ 11) (upc (σ 4) 10 (va_cpy (σ 15) (upd (upd (upd (σ 41) 0 (σ 0 0)) 1 (σ 0 1)) 2 (σ 0 2)) 0 3 3)) 0 (3 + 3 + 10) 24) 0 ((3 + 3 + 10) + 24) 24) 0 ((3 + 3 + 10) + 48) 24) 0 ((3 + 3 + 10) + 72) 24) = sr σ 41 (va_cpy (σ 14) (va_cpy (σ 13) (va_cpy (σ 12) (va_cpy (σ 11) (upc (σ 4) 10 (va_cpy (σ 15) (upd (upd (upd (σ 41) 0 (σ 0 0)) 1 (σ 0 1)) 2 (σ 0 2)) 0 3 3)) 0 (3 + 3 + 10) 24) 0 ((3 + 3 + 10) + 24) 24) 0 ((3 + 3 + 10) + 48) 24) 0 ((3 + 3 + 10) + 72) 24) := by
          funext j_ x_
          by_cases e0 : j_ = 0
          · subst e0
            rfl
          · by_cases e41 : j_ = 41
            · subst e41; rfl
            · simp only [sr, e0, e41, if_false]
        rw [hst_] at hw
        refine lv_aload_n hC.1 hC.2.1 dX7_keep_164 rfl (lv_at hl 1 rfl) ?_
        refine lv_aload_n hC.1 hC.2.1 dX7_keep_165 rfl (lv_at hl 1 rfl) ?_
        refine gf_X7_28 (v := nI 11) hC hw hnx dX7_keep_166 ?_
        refine lv_bipush (v := nI 29) hC.1 hC.2.1 dX7_keep_169 (by decide) ?_
        have J184_4 : ∀ (w3 : Nat), w3 = (if 11 ≠ 29 then (11 + 1) else 0) → ∀ (H : Heap) (locs : List Loc) (ls : Array Slot), Wst E (XW E a) (sr σ 41 (va_cpy (σ 14) (va_cpy (σ 13) (va_cpy (σ 12) (va_cpy (σ 11) (upc (σ 4) 10 (va_cpy (σ 15) (upd (upd (upd (σ 41) 0 (σ 0 0)) 1 (σ 0 1)) 2 (σ 0 2)) 0 3 3)) 0 (3 + 3 + 10) 24) 0 ((3 + 3 + 10) + 24) 24) 0 ((3 + 3 + 10) + 48) 24) 0 ((3 + 3 + 10) + 72) 24)) A s.heap H locs → lv_has ls 4 [(0, .ref (a 68)), (1, .ref (a 41)), (2, .int (nI (3 + 3 + 10))), (3, .int (nI h))] → W p l e ({ frames := 1, cells := 0, slots := 0, locals := 24 }) s m args below meth c H locs 0 0 Q (F0 m 184 ls [.int (nI w3), .ref (a 68)]) := by
          intro w3 e4 H locs ls hw hl
          subst e4
          refine pf_X7_28 hC hw dX7_keep_184 (fun H locs hw => ?_)
          have hw : Wst E (XW E a) (sr (sr σ 41 (va_cpy (σ 14) (va_cpy (σ 13) (va_cpy (σ 12) (va_cpy (σ 11) (upc (σ 4) 10 (va_cpy (σ 15) (upd (upd (upd (σ 41) 0 (σ 0 0)) 1 (σ 0 1)) 2 (σ 0 2)) 0 3 3)) 0 (3 + 3 + 10) 24) 0 ((3 + 3 + 10) + 24) 24) 0 ((3 + 3 + 10) + 48) 24) 0 ((3 + 3 + 10) + 72) 24)) 0 (upd (σ 0) 3 (nI (if 11 ≠ 29 then (11 + 1) else 0)))) A s.heap H locs := hw
          refine lv_aload_n hC.1 hC.2.1 dX7_keep_187 rfl (lv_at hl 0 rfl) ?_
          refine lv_aload_n hC.1 hC.2.1 dX7_keep_188 rfl (lv_at hl 0 rfl) ?_
          refine gf_X7_65 (v := nI kp) hC hw hkp dX7_keep_189 ?_
          refine lv_bipush (v := nI 30) hC.1 hC.2.1 dX7_keep_192 (by decide) ?_
          have J210_6 : ∀ (w5 : Nat), w5 = (if kp ≠ 30 then (kp + 1) else kp) → ∀ (H : Heap) (locs : List Loc) (ls : Array Slot), Wst E (XW E a) (sr (sr σ 41 (va_cpy (σ 14) (va_cpy (σ 13) (va_cpy (σ 12) (va_cpy (σ 11) (upc (σ 4) 10 (va_cpy (σ 15) (upd (upd (upd (σ 41) 0 (σ 0 0)) 1 (σ 0 1)) 2 (σ 0 2)) 0 3 3)) 0 (3 + 3 + 10) 24) 0 ((3 + 3 + 10) + 24) 24) 0 ((3 + 3 + 10) + 48) 24) 0 ((3 + 3 + 10) + 72) 24)) 0 (upd (σ 0) 3 (nI (if 11 ≠ 29 then (11 + 1) else 0)))) A s.heap H locs → lv_has ls 4 [(0, .ref (a 68)), (1, .ref (a 41)), (2, .int (nI (3 + 3 + 10))), (3, .int (nI h))] → W p l e ({ frames := 1, cells := 0, slots := 0, locals := 24 }) s m args below meth c H locs 0 0 Q (F0 m 210 ls [.int (nI w5), .ref (a 68)]) := by
            intro w5 e6 H locs ls hw hl
            subst e6
            refine pf_X7_65 hC hw dX7_keep_210 (fun H locs hw => ?_)
            have hw : Wst E (XW E a) (sr (sr (sr σ 41 (va_cpy (σ 14) (va_cpy (σ 13) (va_cpy (σ 12) (va_cpy (σ 11) (upc (σ 4) 10 (va_cpy (σ 15) (upd (upd (upd (σ 41) 0 (σ 0 0)) 1 (σ 0 1)) 2 (σ 0 2)) 0 3 3)) 0 (3 + 3 + 10) 24) 0 ((3 + 3 + 10) + 24) 24) 0 ((3 + 3 + 10) + 48) 24) 0 ((3 + 3 + 10) + 72) 24)) 0 (upd (σ 0) 3 (nI (if 11 ≠ 29 then (11 + 1) else 0)))) 0 (upd (upd (σ 0) 3 (nI (if 11 ≠ 29 then (11 + 1) else 0))) 4 (nI (if kp ≠ 30 then (kp + 1) else kp)))) A s.heap H locs := hw
            have hst_ : sr (sr (sr σ 41 (va_cpy (σ 14) (va_cpy (σ 13) (va_cpy (σ 12) (va_cpy (σ 11) (upc (σ 4) 10 (va_cpy (σ 15) (upd (upd (upd (σ 41) 0 (σ 0 0)) 1 (σ 0 1)) 2 (σ 0 2)) 0 3 3)) 0 (3 + 3 + 10) 24) 0 ((3 + 3 + 10) + 24) 24) 0 ((3 + 3 + 10) + 48) 24) 0 ((3 + 3 + 10) + 72) 24)) 0 (upd (σ 0) 3 (nI (if 11 ≠ 29 then (11 + 1) else 0)))) 0 (upd (upd (σ 0) 3 (nI (if 11 ≠ 29 then (11 + 1) else 0))) 4 (nI (if kp ≠ 30 then (kp + 1) else kp))) = sr (sr σ 41 (va_cpy (σ 14) (va_cpy (σ 13) (va_cpy (σ 12) (va_cpy (σ 11) (upc (σ 4) 10 (va_cpy (σ 15) (upd (upd (upd (σ 41) 0 (σ 0 0)) 1 (σ 0 1)) 2 (σ 0 2)) 0 3 3)) 0 (3 + 3 + 10) 24) 0 ((3 + 3 + 10) + 24) 24) 0 ((3 + 3 + 10) + 48) 24) 0 ((3 + 3 + 10) + 72) 24)) 0 (upd (upd (σ 0) 3 (nI (if 11 ≠ 29 then (11 + 1) else 0))) 4 (nI (if kp ≠ 30 then (kp + 1) else kp))) := by
              funext j_ x_
              by_cases e0 : j_ = 0
              · subst e0
                by_cases y3 : x_ = 3
                · subst y3; rfl
                · by_cases y4 : x_ = 4
                  · subst y4; rfl
                  · simp [sr, upd, y3, y4]
              · by_cases e41 : j_ = 41
                · subst e41; rfl
                · simp only [sr, e0, e41, if_false]
            rw [hst_] at hw
            refine hret _ _ _ _ _ hw ?_ dX7_keep_213
            exact rfl
          refine q_cmpne hC 204 (cNeq (by omega) (by omega)) dX7_keep_194 (by decide) (fun (c7 : kp ≠ 30) => ?_) (fun (c7 : kp = 30) => ?_)
          · refine lv_aload_n hC.1 hC.2.1 dX7_keep_204 rfl (lv_at hl 0 rfl) ?_
            refine gf_X7_65 (v := nI kp) hC hw hkp dX7_keep_205 ?_
            refine lv_iconst (v := nI 1) hC.1 hC.2.1 dX7_keep_208 (by decide) ?_
            refine q_addN hC dX7_keep_209 ?_
            exact J210_6 _ (by (rw [if_pos c7]) <;> rfl) _ _ _ hw (lv_sub hl [0, 1, 2, 3] rfl)
          · refine lv_aload_n hC.1 hC.2.1 dX7_keep_197 rfl (lv_at hl 0 rfl) ?_
            refine gf_X7_65 (v := nI kp) hC hw hkp dX7_keep_198 ?_
            refine lv_goto (tgt := 210) hC.1 hC.2.1 dX7_keep_201 (by decide) ?_
            exact J210_6 _ (by (rw [if_neg (fun q => q c7)]) <;> rfl) _ _ _ hw (lv_sub hl [0, 1, 2, 3] rfl)
        refine q_cmpne hC 178 (cNeq (by omega) (by omega)) dX7_keep_171 (by decide) (fun (c8 : 11 ≠ 29) => ?_) (fun (c8 : 11 = 29) => ?_)
        · refine lv_aload_n hC.1 hC.2.1 dX7_keep_178 rfl (lv_at hl 1 rfl) ?_
          refine gf_X7_28 (v := nI 11) hC hw hnx dX7_keep_179 ?_
          refine lv_iconst (v := nI 1) hC.1 hC.2.1 dX7_keep_182 (by decide) ?_
          refine q_addN hC dX7_keep_183 ?_
          exact J184_4 _ (by (rw [if_pos c8]) <;> rfl) _ _ _ hw (lv_sub hl [1, 2, 0, 3] rfl)
        · refine lv_iconst (v := nI 0) hC.1 hC.2.1 dX7_keep_174 (by decide) ?_
          refine lv_goto (tgt := 184) hC.1 hC.2.1 dX7_keep_175 (by decide) ?_
          exact J184_4 _ (by (rw [if_neg (fun q => q c8)]) <;> rfl) _ _ _ hw (lv_sub hl [1, 2, 0, 3] rfl)
      · refine lv_aload_n hC.1 hC.2.1 dX7_keep_64 rfl (lv_at hl 1 rfl) ?_
        refine lv_iload_n hC.1 hC.2.1 dX7_keep_65 rfl (lv_at hl 2 rfl) ?_
        refine lv_iload_n hC.1 hC.2.1 dX7_keep_66 rfl (lv_at hl 3 rfl) ?_
        refine q_addN hC dX7_keep_67 ?_
        refine lv_aload_n hC.1 hC.2.1 dX7_keep_68 rfl (lv_at hl 0 rfl) ?_
        refine gf_X7_16 hC hw dX7_keep_69 ?_
        refine gf_X7_49 hC hw dX7_keep_72 ?_
        refine lv_iload_n hC.1 hC.2.1 dX7_keep_75 rfl (lv_at hl 3 rfl) ?_
        refine al_X4 (v := σ 4 h) hC hw (by omega) rfl dX7_keep_76 ?_
        have J85_10 : ∀ (w9 : Int32), w9 = (if ¬ (σ 4 h = 0) then (1 : Int32) else 0) → ∀ (H : Heap) (locs : List Loc) (ls : Array Slot), Wst E (XW E a) (sr σ 41 (upc (σ 4) h (va_cpy (σ 15) (upd (upd (upd (σ 41) 0 (σ 0 0)) 1 (σ 0 1)) 2 (σ 0 2)) 0 3 3))) A s.heap H locs → lv_has ls 4 [(0, .ref (a 68)), (1, .ref (a 41)), (2, .int (nI (3 + 3))), (3, .int (nI h))] → W p l e ({ frames := 1, cells := 0, slots := 0, locals := 24 }) s m args below meth c H locs 0 0 Q (F0 m 85 ls [.int (w9), .int (nI ((3 + 3) + h)), .ref (a 41)]) := by
          intro w9 e10 H locs ls hw hl
          subst e10
          refine q_ast (Wf := XW E a) 51 rfl (by decide) (XW_s41 _) hC hw (by omega) dX7_keep_85 (fun H locs hw => ?_)
          have hw : Wst E (XW E a) (sr (sr σ 41 (upc (σ 4) h (va_cpy (σ 15) (upd (upd (upd (σ 41) 0 (σ 0 0)) 1 (σ 0 1)) 2 (σ 0 2)) 0 3 3))) 41 (upd (upc (σ 4) h (va_cpy (σ 15) (upd (upd (upd (σ 41) 0 (σ 0 0)) 1 (σ 0 1)) 2 (σ 0 2)) 0 3 3)) ((3 + 3) + h) (if ¬ (σ 4 h = 0) then (1 : Int32) else 0))) A s.heap H locs := hw
          have hst_ : sr (sr σ 41 (upc (σ 4) h (va_cpy (σ 15) (upd (upd (upd (σ 41) 0 (σ 0 0)) 1 (σ 0 1)) 2 (σ 0 2)) 0 3 3))) 41 (upd (upc (σ 4) h (va_cpy (σ 15) (upd (upd (upd (σ 41) 0 (σ 0 0)) 1 (σ 0 1)) 2 (σ 0 2)) 0 3 3)) ((3 + 3) + h) (if ¬ (σ 4 h = 0) then (1 : Int32) else 0)) = sr σ 41 (upd (upc (σ 4) h (va_cpy (σ 15) (upd (upd (upd (σ 41) 0 (σ 0 0)) 1 (σ 0 1)) 2 (σ 0 2)) 0 3 3)) ((3 + 3) + h) (if ¬ (σ 4 h = 0) then (1 : Int32) else 0)) := by
            funext j_ x_
            by_cases e0 : j_ = 0
            · subst e0
              rfl
            · by_cases e41 : j_ = 41
              · subst e41; rfl
              · simp only [sr, e0, e41, if_false]
          rw [hst_] at hw
          refine lv_iinc (v := nI (h + 1)) (lv' := [(3, .int (nI (h + 1))), (0, .ref (a 68)), (1, .ref (a 41)), (2, .int (nI (3 + 3)))]) hC.1 hC.2.1 dX7_keep_86 hl (k := 3) rfl (nI_add _ _) (by decide) rfl (fun ls hl => ?_)
          refine lv_goto (tgt := 58) hC.1 hC.2.1 dX7_keep_89 (by decide) ?_
          rw [upc_s] at hw
          exact ih58 (h + 1) (by omega) (by omega) _ _ _ hw (lv_sub hl [1, 2, 3, 0] rfl)
        refine q_ifeq hC 84 cI dX7_keep_77 (by decide) (fun (c11 : σ 4 h = 0) => ?_) (fun (c11 : ¬ (σ 4 h = 0)) => ?_)
        · refine lv_iconst (v := nI 0) hC.1 hC.2.1 dX7_keep_84 (by decide) ?_
          exact J85_10 _ (if_neg (fun q => q c11)).symm _ _ _ hw (lv_sub hl [0, 1, 2, 3] rfl)
        · refine lv_iconst (v := nI 1) hC.1 hC.2.1 dX7_keep_80 (by decide) ?_
          refine lv_goto (tgt := 85) hC.1 hC.2.1 dX7_keep_81 (by decide) ?_
          exact J85_10 _ (if_pos c11).symm _ _ _ hw (lv_sub hl [0, 1, 2, 3] rfl)
  rw [← upc_0 (σ 4) (va_cpy (σ 15) (upd (upd (upd (σ 41) 0 (σ 0 0)) 1 (σ 0 1)) 2 (σ 0 2)) 0 3 3)] at hw
  exact L58_0 _ 0 (by omega) (Nat.lt_succ_self _) _ _ _ hw (lv_sub hl [3, 2, 1, 0] rfl)
set_option maxHeartbeats 4000000 in
set_option maxRecDepth 100000 in
theorem tX7_keep_k12 (l : Launch) (E : EV) (a : Nat → Nat) (σ : St) (kp : Nat) (hnx : σ 0 3 = nI 12) (hkp : σ 0 4 = nI kp) (hk30 : kp ≤ 30) : MV l E (XW E a) yX7_keep (Cond.code yX7_keep cX7_keep 4 none) ({ frames := 1, cells := 0, slots := 0, locals := 24 }) [.ref (a 68)] σ (fun u_ => u_ = sr (sr σ 42 (kpr σ (σ 42))) 0 (upd (upd (σ 0) 3 (nI (if 12 ≠ 29 then 12 + 1 else 0))) 4 (nI (if kp ≠ 30 then kp + 1 else kp)))) := by
  refine MV.mk (by decide +kernel) (Nat.le_of_ble_eq_true rfl) ?_
  intro p e s m args below meth c ls A Q hret hC hw hl
  have hC : Cxt E p s m args meth c cX7_keep 4 none RX7 A := hC
  have hl : lv_has ls 4 [(0, .ref (a 68))] := hl
  refine lv_aload_n hC.1 hC.2.1 dX7_keep_0 rfl (lv_at hl 0 rfl) ?_
  refine gf_X7_13 hC hw dX7_keep_1 ?_
  refine lv_aload_n hC.1 hC.2.1 dX7_keep_4 rfl (lv_at hl 0 rfl) ?_
  refine gf_X7_28 (v := nI 12) hC hw hnx dX7_keep_5 ?_
  refine q_aald hC hw (i := 12) (by decide) dX7_keep_8 ?_
  refine lv_astore_n (lv' := [(1, .ref (a 42)), (0, .ref (a 68))]) hC.1 hC.2.1 dX7_keep_9 rfl hl (by decide) rfl (fun ls hl => ?_)
  refine lv_aload_n hC.1 hC.2.1 dX7_keep_10 rfl (lv_at hl 0 rfl) ?_
  refine lv_iconst (v := nI 0) hC.1 hC.2.1 dX7_keep_11 (by decide) ?_
  refine lv_aload_n hC.1 hC.2.1 dX7_keep_12 rfl (lv_at hl 1 rfl) ?_
  refine gf_X7_16 hC hw dX7_keep_13 ?_
  refine gf_X7_32 (v := σ 0 0) hC hw rfl dX7_keep_16 ?_
  refine q_ast (Wf := XW E a) 52 rfl (by decide) (XW_s42 _) hC hw (by omega) dX7_keep_19 (fun H locs hw => ?_)
  have hw : Wst E (XW E a) (sr σ 42 (upd (σ 42) 0 (σ 0 0))) A s.heap H locs := hw
  refine lv_aload_n hC.1 hC.2.1 dX7_keep_20 rfl (lv_at hl 0 rfl) ?_
  refine lv_iconst (v := nI 1) hC.1 hC.2.1 dX7_keep_21 (by decide) ?_
  refine lv_aload_n hC.1 hC.2.1 dX7_keep_22 rfl (lv_at hl 1 rfl) ?_
  refine gf_X7_20 hC hw dX7_keep_23 ?_
  refine gf_X7_37 (v := σ 0 1) hC hw rfl dX7_keep_26 ?_
  refine q_ast (Wf := XW E a) 52 rfl (by decide) (XW_s42 _) hC hw (by omega) dX7_keep_29 (fun H locs hw => ?_)
  have hw : Wst E (XW E a) (sr (sr σ 42 (upd (σ 42) 0 (σ 0 0))) 42 (upd (upd (σ 42) 0 (σ 0 0)) 1 (σ 0 1))) A s.heap H locs := hw
  have hst_ : sr (sr σ 42 (upd (σ 42) 0 (σ 0 0))) 42 (upd (upd (σ 42) 0 (σ 0 0)) 1 (σ 0 1)) = sr σ 42 (upd (upd (σ 42) 0 (σ 0 0)) 1 (σ 0 1)) := by
    funext j_ x_
    by_cases e0 : j_ = 0
    · subst e0
      rfl
    · by_cases e42 : j_ = 42
      · subst e42; rfl
      · simp only [sr, e0, e42, if_false]
  rw [hst_] at hw
  refine lv_aload_n hC.1 hC.2.1 dX7_keep_30 rfl (lv_at hl 0 rfl) ?_
  refine lv_iconst (v := nI 2) hC.1 hC.2.1 dX7_keep_31 (by decide) ?_
  refine lv_aload_n hC.1 hC.2.1 dX7_keep_32 rfl (lv_at hl 1 rfl) ?_
  refine gf_X7_20 hC hw dX7_keep_33 ?_
  refine gf_X7_40 (v := σ 0 2) hC hw rfl dX7_keep_36 ?_
  refine q_ast (Wf := XW E a) 52 rfl (by decide) (XW_s42 _) hC hw (by omega) dX7_keep_39 (fun H locs hw => ?_)
  have hw : Wst E (XW E a) (sr (sr σ 42 (upd (upd (σ 42) 0 (σ 0 0)) 1 (σ 0 1))) 42 (upd (upd (upd (σ 42) 0 (σ 0 0)) 1 (σ 0 1)) 2 (σ 0 2))) A s.heap H locs := hw
  have hst_ : sr (sr σ 42 (upd (upd (σ 42) 0 (σ 0 0)) 1 (σ 0 1))) 42 (upd (upd (upd (σ 42) 0 (σ 0 0)) 1 (σ 0 1)) 2 (σ 0 2)) = sr σ 42 (upd (upd (upd (σ 42) 0 (σ 0 0)) 1 (σ 0 1)) 2 (σ 0 2)) := by
    funext j_ x_
    by_cases e0 : j_ = 0
    · subst e0
      rfl
    · by_cases e42 : j_ = 42
      · subst e42; rfl
      · simp only [sr, e0, e42, if_false]
  rw [hst_] at hw
  refine lv_iconst (v := nI 3) hC.1 hC.2.1 dX7_keep_40 (by decide) ?_
  refine lv_istore_n (lv' := [(2, .int (nI 3)), (1, .ref (a 42)), (0, .ref (a 68))]) hC.1 hC.2.1 dX7_keep_41 rfl hl (by decide) rfl (fun ls hl => ?_)
  refine lv_aload_n hC.1 hC.2.1 dX7_keep_42 rfl (lv_at hl 2 rfl) ?_
  refine gf_X7_24 hC hw dX7_keep_43 ?_
  refine lv_iconst (v := nI 0) hC.1 hC.2.1 dX7_keep_46 (by decide) ?_
  refine lv_aload_n hC.1 hC.2.1 dX7_keep_47 rfl (lv_at hl 1 rfl) ?_
  refine lv_iload_n hC.1 hC.2.1 dX7_keep_48 rfl (lv_at hl 0 rfl) ?_
  refine lv_iconst (v := nI 3) hC.1 hC.2.1 dX7_keep_49 (by decide) ?_
  refine q_cpy (sp := 0) (dp := 3) (n := 3) 25 rfl 52 rfl (XW_s42 _) hC hw hl (by omega) (by omega) (by decide) (by decide) ⟨Nat.le_of_ble_eq_true rfl, Nat.le_of_ble_eq_true rfl⟩ wk2_182 dX7_keep_50 (fun H locs hw => ?_)
  have hw : Wst E (XW E a) (sr (sr σ 42 (upd (upd (upd (σ 42) 0 (σ 0 0)) 1 (σ 0 1)) 2 (σ 0 2))) 42 (va_cpy (σ 15) (upd (upd (upd (σ 42) 0 (σ 0 0)) 1 (σ 0 1)) 2 (σ 0 2)) 0 3 3)) A s.heap H locs := hw
  have hst_ : sr (sr σ 42 (upd (upd (upd (σ 42) 0 (σ 0 0)) 1 (σ 0 1)) 2 (σ 0 2))) 42 (va_cpy (σ 15) (upd (upd (upd (σ 42) 0 (σ 0 0)) 1 (σ 0 1)) 2 (σ 0 2)) 0 3 3) = sr σ 42 (va_cpy (σ 15) (upd (upd (upd (σ 42) 0 (σ 0 0)) 1 (σ 0 1)) 2 (σ 0 2)) 0 3 3) := by
    funext j_ x_
    by_cases e0 : j_ = 0
    · subst e0
      rfl
    · by_cases e42 : j_ = 42
      · subst e42; rfl
      · simp only [sr, e0, e42, if_false]
  rw [hst_] at hw
  refine lv_iinc (v := nI (3 + 3)) (lv' := [(2, .int (nI (3 + 3))), (1, .ref (a 42)), (0, .ref (a 68))]) hC.1 hC.2.1 dX7_keep_53 hl (k := 0) rfl (nI_add _ _) (by decide) rfl (fun ls hl => ?_)
  refine lv_iconst (v := nI 0) hC.1 hC.2.1 dX7_keep_56 (by decide) ?_
  refine lv_istore_n (lv' := [(3, .int (nI 0)), (2, .int (nI (3 + 3))), (1, .ref (a 42)), (0, .ref (a 68))]) hC.1 hC.2.1 dX7_keep_57 rfl hl (by decide) rfl (fun ls hl => ?_)
  have L58_0 : ∀ (n : Nat), ∀ (h : Nat), (h ≤ 10) → (10 - h) < n → ∀ (H : Heap) (locs : List Loc) (ls : Array Slot), Wst E (XW E a) (sr σ 42 (upc (σ 4) h (va_cpy (σ 15) (upd (upd (upd (σ 42) 0 (σ 0 0)) 1 (σ 0 1)) 2 (σ 0 2)) 0 3 3))) A s.heap H locs → lv_has ls 4 [(0, .ref (a 68)), (1, .ref (a 42)), (2, .int (nI (3 + 3))), (3, .int (nI h))] → W p l e ({ frames := 1, cells := 0, slots := 0, locals := 24 }) s m args below meth c H locs 0 0 Q (F0 m 58 ls []) := by
    intro n
    induction n with
    | zero => intro h hh hn; exact absurd hn (Nat.not_lt_zero _)
    | succ n ih58 =>
      intro h hh hn58 H locs ls hw hl
      refine lv_iload_n hC.1 hC.2.1 dX7_keep_58 rfl (lv_at hl 3 rfl) ?_
      refine lv_bipush (v := nI 10) hC.1 hC.2.1 dX7_keep_59 (by decide) ?_
      refine q_cmpge hC 92 (cNle (by omega) (by omega)) dX7_keep_61 (by decide) (fun (c2 : 10 ≤ h) => ?_) (fun (c2 : h < 10) => ?_)
      · have hh9 : h = 10 := by omega
        rw [hh9] at hw
        refine lv_iinc (v := nI (3 + 3 + 10)) (lv' := [(2, .int (nI (3 + 3 + 10))), (0, .ref (a 68)), (1, .ref (a 42)), (3, .int (nI h))]) hC.1 hC.2.1 dX7_keep_92 hl (k := 2) rfl (nI_add _ _) (by decide) rfl (fun ls hl => ?_)
        refine lv_aload_n hC.1 hC.2.1 dX7_keep_95 rfl (lv_at hl 1 rfl) ?_
        refine gf_X7_20 hC hw dX7_keep_96 ?_
        refine gf_X7_53 hC hw dX7_keep_99 ?_
        refine lv_iconst (v := nI 0) hC.1 hC.2.1 dX7_keep_102 (by decide) ?_
        refine lv_aload_n hC.1 hC.2.1 dX7_keep_103 rfl (lv_at hl 2 rfl) ?_
        refine lv_iload_n hC.1 hC.2.1 dX7_keep_104 rfl (lv_at hl 0 rfl) ?_
        refine lv_bipush (v := nI 24) hC.1 hC.2.1 dX7_keep_105 (by decide) ?_
        refine q_cpy (sp := 0) (dp := (3 + 3 + 10)) (n := 24) 21 rfl 52 rfl (XW_s42 _) hC hw hl (by omega) (by omega) (by decide) (by decide) ⟨Nat.le_of_ble_eq_true rfl, Nat.le_of_ble_eq_true rfl⟩ wk2_182 dX7_keep_107 (fun H locs hw => ?_)
        have hw : Wst E (XW E a) (sr (sr σ 42 (upc (σ 4) 10 (va_cpy (σ 15) (upd (upd (upd (σ 42) 0 (σ 0 0)) 1 (σ 0 1)) 2 (σ 0 2)) 0 3 3))) 42 (va_cpy (σ 11) (upc (σ 4) 10 (va_cpy (σ 15) (upd (upd (upd (σ 42) 0 (σ 0 0)) 1 (σ 0 1)) 2 (σ 0 2)) 0 3 3)) 0 (3 + 3 + 10) 24)) A s.heap H locs := hw
        have hst_ : sr (sr σ 42 (upc (σ 4) 10 (va_cpy (σ 15) (upd (upd (upd (σ 42) 0 (σ 0 0)) 1 (σ 0 1)) 2 (σ 0 2)) 0 3 3))) 42 (va_cpy (σ 11) (upc (σ 4) 10 (va_cpy (σ 15) (upd (upd (upd (σ 42) 0 (σ 0 0)) 1 (σ 0 1)) 2 (σ 0 2)) 0 3 3)) 0 (3 + 3 + 10) 24) = sr σ 42 (va_cpy (σ 11) (upc (σ 4) 10 (va_cpy (σ 15) (upd (upd (upd (σ 42) 0 (σ 0 0)) 1 (σ 0 1)) 2 (σ 0 2)) 0 3 3)) 0 (3 + 3 + 10) 24) := by
          funext j_ x_
          by_cases e0 : j_ = 0
          · subst e0
            rfl
          · by_cases e42 : j_ = 42
            · subst e42; rfl
            · simp only [sr, e0, e42, if_false]
        rw [hst_] at hw
        refine lv_aload_n hC.1 hC.2.1 dX7_keep_110 rfl (lv_at hl 1 rfl) ?_
        refine gf_X7_20 hC hw dX7_keep_111 ?_
        refine gf_X7_56 hC hw dX7_keep_114 ?_
        refine lv_iconst (v := nI 0) hC.1 hC.2.1 dX7_keep_117 (by decide) ?_
        refine lv_aload_n hC.1 hC.2.1 dX7_keep_118 rfl (lv_at hl 2 rfl) ?_
        refine lv_iload_n hC.1 hC.2.1 dX7_keep_119 rfl (lv_at hl 0 rfl) ?_
        refine lv_bipush (v := nI 24) hC.1 hC.2.1 dX7_keep_120 (by decide) ?_
        refine q_addN hC dX7_keep_122 ?_
        refine lv_bipush (v := nI 24) hC.1 hC.2.1 dX7_keep_123 (by decide) ?_
        refine q_cpy (sp := 0) (dp := ((3 + 3 + 10) + 24)) (n := 24) 22 rfl 52 rfl (XW_s42 _) hC hw hl (by omega) (by omega) (by decide) (by decide) ⟨Nat.le_of_ble_eq_true rfl, Nat.le_of_ble_eq_true rfl⟩ wk2_182 dX7_keep_125 (fun H locs hw => ?_)
        have hw : Wst E (XW E a) (sr (sr σ 42 (va_cpy (σ 11) (upc (σ 4) 10 (va_cpy (σ 15) (upd (upd (upd (σ 42) 0 (σ 0 0)) 1 (σ 0 1)) 2 (σ 0 2)) 0 3 3)) 0 (3 + 3 + 10) 24)) 42 (va_cpy (σ 12) (va_cpy (σ 11) (upc (σ 4) 10 (va_cpy (σ 15) (upd (upd (upd (σ 42) 0 (σ 0 0)) 1 (σ 0 1)) 2 (σ 0 2)) 0 3 3)) 0 (3 + 3 + 10) 24) 0 ((3 + 3 + 10) + 24) 24)) A s.heap H locs := hw
        have hst_ : sr (sr σ 42 (va_cpy (σ 11) (upc (σ 4) 10 (va_cpy (σ 15) (upd (upd (upd (σ 42) 0 (σ 0 0)) 1 (σ 0 1)) 2 (σ 0 2)) 0 3 3)) 0 (3 + 3 + 10) 24)) 42 (va_cpy (σ 12) (va_cpy (σ 11) (upc (σ 4) 10 (va_cpy (σ 15) (upd (upd (upd (σ 42) 0 (σ 0 0)) 1 (σ 0 1)) 2 (σ 0 2)) 0 3 3)) 0 (3 + 3 + 10) 24) 0 ((3 + 3 + 10) + 24) 24) = sr σ 42 (va_cpy (σ 12) (va_cpy (σ 11) (upc (σ 4) 10 (va_cpy (σ 15) (upd (upd (upd (σ 42) 0 (σ 0 0)) 1 (σ 0 1)) 2 (σ 0 2)) 0 3 3)) 0 (3 + 3 + 10) 24) 0 ((3 + 3 + 10) + 24) 24) := by
          funext j_ x_
          by_cases e0 : j_ = 0
          · subst e0
            rfl
          · by_cases e42 : j_ = 42
            · subst e42; rfl
            · simp only [sr, e0, e42, if_false]
        rw [hst_] at hw
        refine lv_aload_n hC.1 hC.2.1 dX7_keep_128 rfl (lv_at hl 1 rfl) ?_
        refine gf_X7_20 hC hw dX7_keep_129 ?_
        refine gf_X7_59 hC hw dX7_keep_132 ?_
        refine lv_iconst (v := nI 0) hC.1 hC.2.1 dX7_keep_135 (by decide) ?_
        refine lv_aload_n hC.1 hC.2.1 dX7_keep_136 rfl (lv_at hl 2 rfl) ?_
        refine lv_iload_n hC.1 hC.2.1 dX7_keep_137 rfl (lv_at hl 0 rfl) ?_
        refine lv_bipush (v := nI 48) hC.1 hC.2.1 dX7_keep_138 (by decide) ?_
        refine q_addN hC dX7_keep_140 ?_
        refine lv_bipush (v := nI 24) hC.1 hC.2.1 dX7_keep_141 (by decide) ?_
        refine q_cpy (sp := 0) (dp := ((3 + 3 + 10) + 48)) (n := 24) 23 rfl 52 rfl (XW_s42 _) hC hw hl (by omega) (by omega) (by decide) (by decide) ⟨Nat.le_of_ble_eq_true rfl, Nat.le_of_ble_eq_true rfl⟩ wk2_182 dX7_keep_143 (fun H locs hw => ?_)
        have hw : Wst E (XW E a) (sr (sr σ 42 (va_cpy (σ 12) (va_cpy (σ 11) (upc (σ 4) 10 (va_cpy (σ 15) (upd (upd (upd (σ 42) 0 (σ 0 0)) 1 (σ 0 1)) 2 (σ 0 2)) 0 3 3)) 0 (3 + 3 + 10) 24) 0 ((3 + 3 + 10) + 24) 24)) 42 (va_cpy (σ 13) (va_cpy (σ 12) (va_cpy (σ 11) (upc (σ 4) 10 (va_cpy (σ 15) (upd (upd (upd (σ 42) 0 (σ 0 0)) 1 (σ 0 1)) 2 (σ 0 2)) 0 3 3)) 0 (3 + 3 + 10) 24) 0 ((3 + 3 + 10) + 24) 24) 0 ((3 + 3 + 10) + 48) 24)) A s.heap H locs := hw
        have hst_ : sr (sr σ 42 (va_cpy (σ 12) (va_cpy (σ 11) (upc (σ 4) 10 (va_cpy (σ 15) (upd (upd (upd (σ 42) 0 (σ 0 0)) 1 (σ 0 1)) 2 (σ 0 2)) 0 3 3)) 0 (3 + 3 + 10) 24) 0 ((3 + 3 + 10) + 24) 24)) 42 (va_cpy (σ 13) (va_cpy (σ 12) (va_cpy (σ 11) (upc (σ 4) 10 (va_cpy (σ 15) (upd (upd (upd (σ 42) 0 (σ 0 0)) 1 (σ 0 1)) 2 (σ 0 2)) 0 3 3)) 0 (3 + 3 + 10) 24) 0 ((3 + 3 + 10) + 24) 24) 0 ((3 + 3 + 10) + 48) 24) = sr σ 42 (va_cpy (σ 13) (va_cpy (σ 12) (va_cpy (σ 11) (upc (σ 4) 10 (va_cpy (σ 15) (upd (upd (upd (σ 42) 0 (σ 0 0)) 1 (σ 0 1)) 2 (σ 0 2)) 0 3 3)) 0 (3 + 3 + 10) 24) 0 ((3 + 3 + 10) + 24) 24) 0 ((3 + 3 + 10) + 48) 24) := by
          funext j_ x_
          by_cases e0 : j_ = 0
          · subst e0
            rfl
          · by_cases e42 : j_ = 42
            · subst e42; rfl
            · simp only [sr, e0, e42, if_false]
        rw [hst_] at hw
        refine lv_aload_n hC.1 hC.2.1 dX7_keep_146 rfl (lv_at hl 1 rfl) ?_
        refine gf_X7_20 hC hw dX7_keep_147 ?_
        refine gf_X7_62 hC hw dX7_keep_150 ?_
        refine lv_iconst (v := nI 0) hC.1 hC.2.1 dX7_keep_153 (by decide) ?_
        refine lv_aload_n hC.1 hC.2.1 dX7_keep_154 rfl (lv_at hl 2 rfl) ?_
        refine lv_iload_n hC.1 hC.2.1 dX7_keep_155 rfl (lv_at hl 0 rfl) ?_
        refine lv_bipush (v := nI 72) hC.1 hC.2.1 dX7_keep_156 (by decide) ?_
        refine q_addN hC dX7_keep_158 ?_
        refine lv_bipush (v := nI 24) hC.1 hC.2.1 dX7_keep_159 (by decide) ?_
        refine q_cpy (sp := 0) (dp := ((3 + 3 + 10) + 72)) (n := 24) 24 rfl 52 rfl (XW_s42 _) hC hw hl (by omega) (by omega) (by decide) (by decide) ⟨Nat.le_of_ble_eq_true rfl, Nat.le_of_ble_eq_true rfl⟩ wk2_182 dX7_keep_161 (fun H locs hw => ?_)
        have hw : Wst E (XW E a) (sr (sr σ 42 (va_cpy (σ 13) (va_cpy (σ 12) (va_cpy (σ 11) (upc (σ 4) 10 (va_cpy (σ 15) (upd (upd (upd (σ 42) 0 (σ 0 0)) 1 (σ 0 1)) 2 (σ 0 2)) 0 3 3)) 0 (3 + 3 + 10) 24) 0 ((3 + 3 + 10) + 24) 24) 0 ((3 + 3 + 10) + 48) 24)) 42 (va_cpy (σ 14) (va_cpy (σ 13) (va_cpy (σ 12) (va_cpy (σ 11) (upc (σ 4) 10 (va_cpy (σ 15) (upd (upd (upd (σ 42) 0 (σ 0 0)) 1 (σ 0 1)) 2 (σ 0 2)) 0 3 3)) 0 (3 + 3 + 10) 24) 0 ((3 + 3 + 10) + 24) 24) 0 ((3 + 3 + 10) + 48) 24) 0 ((3 + 3 + 10) + 72) 24)) A s.heap H locs := hw
        have hst_ : sr (sr σ 42 (va_cpy (σ 13) (va_cpy (σ 12) (va_cpy (σ 11) (upc (σ 4) 10 (va_cpy (σ 15) (upd (upd (upd (σ 42) 0 (σ 0 0)) 1 (σ 0 1)) 2 (σ 0 2)) 0 3 3)) 0 (3 + 3 + 10) 24) 0 ((3 + 3 + 10) + 24) 24) 0 ((3 + 3 + 10) + 48) 24)) 42 (va_cpy (σ 14) (va_cpy (σ 13) (va_cpy (σ 12) (va_cpy (σ 11) (upc (σ 4) 10 (va_cpy (σ 15) (upd (upd (upd (σ 42) 0 (σ 0 0)) 1 (σ 0 1)) 2 (σ 0 2)) 0 3 3)) 0 (3 + 3 + 10) 24) 0 ((3 + 3 + 10) + 24) 24) 0 ((3 + 3 + 10) + 48) 24) 0 ((3 + 3 + 10) + 72) 24) = sr σ 42 (va_cpy (σ 14) (va_cpy (σ 13) (va_cpy (σ 12) (va_cpy (σ 11) (upc (σ 4) 10 (va_cpy (σ 15) (upd (upd (upd (σ 42) 0 (σ 0 0)) 1 (σ 0 1)) 2 (σ 0 2)) 0 3 3)) 0 (3 + 3 + 10) 24) 0 ((3 + 3 + 10) + 24) 24) 0 ((3 + 3 + 10) + 48) 24) 0 ((3 + 3 + 10) + 72) 24) := by
          funext j_ x_
          by_cases e0 : j_ = 0
          · subst e0
            rfl
          · by_cases e42 : j_ = 42
            · subst e42; rfl
            · simp only [sr, e0, e42, if_false]
        rw [hst_] at hw
        refine lv_aload_n hC.1 hC.2.1 dX7_keep_164 rfl (lv_at hl 1 rfl) ?_
        refine lv_aload_n hC.1 hC.2.1 dX7_keep_165 rfl (lv_at hl 1 rfl) ?_
        refine gf_X7_28 (v := nI 12) hC hw hnx dX7_keep_166 ?_
        refine lv_bipush (v := nI 29) hC.1 hC.2.1 dX7_keep_169 (by decide) ?_
        have J184_4 : ∀ (w3 : Nat), w3 = (if 12 ≠ 29 then (12 + 1) else 0) → ∀ (H : Heap) (locs : List Loc) (ls : Array Slot), Wst E (XW E a) (sr σ 42 (va_cpy (σ 14) (va_cpy (σ 13) (va_cpy (σ 12) (va_cpy (σ 11) (upc (σ 4) 10 (va_cpy (σ 15) (upd (upd (upd (σ 42) 0 (σ 0 0)) 1 (σ 0 1)) 2 (σ 0 2)) 0 3 3)) 0 (3 + 3 + 10) 24) 0 ((3 + 3 + 10) + 24) 24) 0 ((3 + 3 + 10) + 48) 24) 0 ((3 + 3 + 10) + 72) 24)) A s.heap H locs → lv_has ls 4 [(0, .ref (a 68)), (1, .ref (a 42)), (2, .int (nI (3 + 3 + 10))), (3, .int (nI h))] → W p l e ({ frames := 1, cells := 0, slots := 0, locals := 24 }) s m args below meth c H locs 0 0 Q (F0 m 184 ls [.int (nI w3), .ref (a 68)]) := by
          intro w3 e4 H locs ls hw hl
          subst e4
          refine pf_X7_28 hC hw dX7_keep_184 (fun H locs hw => ?_)
          have hw : Wst E (XW E a) (sr (sr σ 42 (va_cpy (σ 14) (va_cpy (σ 13) (va_cpy (σ 12) (va_cpy (σ 11) (upc (σ 4) 10 (va_cpy (σ 15) (upd (upd (upd (σ 42) 0 (σ 0 0)) 1 (σ 0 1)) 2 (σ 0 2)) 0 3 3)) 0 (3 + 3 + 10) 24) 0 ((3 + 3 + 10) + 24) 24) 0 ((3 + 3 + 10) + 48) 24) 0 ((3 + 3 + 10) + 72) 24)) 0 (upd (σ 0) 3 (nI (if 12 ≠ 29 then (12 + 1) else 0)))) A s.heap H locs := hw
          refine lv_aload_n hC.1 hC.2.1 dX7_keep_187 rfl (lv_at hl 0 rfl) ?_
          refine lv_aload_n hC.1 hC.2.1 dX7_keep_188 rfl (lv_at hl 0 rfl) ?_
          refine gf_X7_65 (v := nI kp) hC hw hkp dX7_keep_189 ?_
          refine lv_bipush (v := nI 30) hC.1 hC.2.1 dX7_keep_192 (by decide) ?_
          have J210_6 : ∀ (w5 : Nat), w5 = (if kp ≠ 30 then (kp + 1) else kp) → ∀ (H : Heap) (locs : List Loc) (ls : Array Slot), Wst E (XW E a) (sr (sr σ 42 (va_cpy (σ 14) (va_cpy (σ 13) (va_cpy (σ 12) (va_cpy (σ 11) (upc (σ 4) 10 (va_cpy (σ 15) (upd (upd (upd (σ 42) 0 (σ 0 0)) 1 (σ 0 1)) 2 (σ 0 2)) 0 3 3)) 0 (3 + 3 + 10) 24) 0 ((3 + 3 + 10) + 24) 24) 0 ((3 + 3 + 10) + 48) 24) 0 ((3 + 3 + 10) + 72) 24)) 0 (upd (σ 0) 3 (nI (if 12 ≠ 29 then (12 + 1) else 0)))) A s.heap H locs → lv_has ls 4 [(0, .ref (a 68)), (1, .ref (a 42)), (2, .int (nI (3 + 3 + 10))), (3, .int (nI h))] → W p l e ({ frames := 1, cells := 0, slots := 0, locals := 24 }) s m args below meth c H locs 0 0 Q (F0 m 210 ls [.int (nI w5), .ref (a 68)]) := by
            intro w5 e6 H locs ls hw hl
            subst e6
            refine pf_X7_65 hC hw dX7_keep_210 (fun H locs hw => ?_)
            have hw : Wst E (XW E a) (sr (sr (sr σ 42 (va_cpy (σ 14) (va_cpy (σ 13) (va_cpy (σ 12) (va_cpy (σ 11) (upc (σ 4) 10 (va_cpy (σ 15) (upd (upd (upd (σ 42) 0 (σ 0 0)) 1 (σ 0 1)) 2 (σ 0 2)) 0 3 3)) 0 (3 + 3 + 10) 24) 0 ((3 + 3 + 10) + 24) 24) 0 ((3 + 3 + 10) + 48) 24) 0 ((3 + 3 + 10) + 72) 24)) 0 (upd (σ 0) 3 (nI (if 12 ≠ 29 then (12 + 1) else 0)))) 0 (upd (upd (σ 0) 3 (nI (if 12 ≠ 29 then (12 + 1) else 0))) 4 (nI (if kp ≠ 30 then (kp + 1) else kp)))) A s.heap H locs := hw
            have hst_ : sr (sr (sr σ 42 (va_cpy (σ 14) (va_cpy (σ 13) (va_cpy (σ 12) (va_cpy (σ 11) (upc (σ 4) 10 (va_cpy (σ 15) (upd (upd (upd (σ 42) 0 (σ 0 0)) 1 (σ 0 1)) 2 (σ 0 2)) 0 3 3)) 0 (3 + 3 + 10) 24) 0 ((3 + 3 + 10) + 24) 24) 0 ((3 + 3 + 10) + 48) 24) 0 ((3 + 3 + 10) + 72) 24)) 0 (upd (σ 0) 3 (nI (if 12 ≠ 29 then (12 + 1) else 0)))) 0 (upd (upd (σ 0) 3 (nI (if 12 ≠ 29 then (12 + 1) else 0))) 4 (nI (if kp ≠ 30 then (kp + 1) else kp))) = sr (sr σ 42 (va_cpy (σ 14) (va_cpy (σ 13) (va_cpy (σ 12) (va_cpy (σ 11) (upc (σ 4) 10 (va_cpy (σ 15) (upd (upd (upd (σ 42) 0 (σ 0 0)) 1 (σ 0 1)) 2 (σ 0 2)) 0 3 3)) 0 (3 + 3 + 10) 24) 0 ((3 + 3 + 10) + 24) 24) 0 ((3 + 3 + 10) + 48) 24) 0 ((3 + 3 + 10) + 72) 24)) 0 (upd (upd (σ 0) 3 (nI (if 12 ≠ 29 then (12 + 1) else 0))) 4 (nI (if kp ≠ 30 then (kp + 1) else kp))) := by
              funext j_ x_
              by_cases e0 : j_ = 0
              · subst e0
                by_cases y3 : x_ = 3
                · subst y3; rfl
                · by_cases y4 : x_ = 4
                  · subst y4; rfl
                  · simp [sr, upd, y3, y4]
              · by_cases e42 : j_ = 42
                · subst e42; rfl
                · simp only [sr, e0, e42, if_false]
            rw [hst_] at hw
            refine hret _ _ _ _ _ hw ?_ dX7_keep_213
            exact rfl
          refine q_cmpne hC 204 (cNeq (by omega) (by omega)) dX7_keep_194 (by decide) (fun (c7 : kp ≠ 30) => ?_) (fun (c7 : kp = 30) => ?_)
          · refine lv_aload_n hC.1 hC.2.1 dX7_keep_204 rfl (lv_at hl 0 rfl) ?_
            refine gf_X7_65 (v := nI kp) hC hw hkp dX7_keep_205 ?_
            refine lv_iconst (v := nI 1) hC.1 hC.2.1 dX7_keep_208 (by decide) ?_
            refine q_addN hC dX7_keep_209 ?_
            exact J210_6 _ (by (rw [if_pos c7]) <;> rfl) _ _ _ hw (lv_sub hl [0, 1, 2, 3] rfl)
          · refine lv_aload_n hC.1 hC.2.1 dX7_keep_197 rfl (lv_at hl 0 rfl) ?_
            refine gf_X7_65 (v := nI kp) hC hw hkp dX7_keep_198 ?_
            refine lv_goto (tgt := 210) hC.1 hC.2.1 dX7_keep_201 (by decide) ?_
            exact J210_6 _ (by (rw [if_neg (fun q => q c7)]) <;> rfl) _ _ _ hw (lv_sub hl [0, 1, 2, 3] rfl)
        refine q_cmpne hC 178 (cNeq (by omega) (by omega)) dX7_keep_171 (by decide) (fun (c8 : 12 ≠ 29) => ?_) (fun (c8 : 12 = 29) => ?_)
        · refine lv_aload_n hC.1 hC.2.1 dX7_keep_178 rfl (lv_at hl 1 rfl) ?_
          refine gf_X7_28 (v := nI 12) hC hw hnx dX7_keep_179 ?_
          refine lv_iconst (v := nI 1) hC.1 hC.2.1 dX7_keep_182 (by decide) ?_
          refine q_addN hC dX7_keep_183 ?_
          exact J184_4 _ (by (rw [if_pos c8]) <;> rfl) _ _ _ hw (lv_sub hl [1, 2, 0, 3] rfl)
        · refine lv_iconst (v := nI 0) hC.1 hC.2.1 dX7_keep_174 (by decide) ?_
          refine lv_goto (tgt := 184) hC.1 hC.2.1 dX7_keep_175 (by decide) ?_
          exact J184_4 _ (by (rw [if_neg (fun q => q c8)]) <;> rfl) _ _ _ hw (lv_sub hl [1, 2, 0, 3] rfl)
      · refine lv_aload_n hC.1 hC.2.1 dX7_keep_64 rfl (lv_at hl 1 rfl) ?_
        refine lv_iload_n hC.1 hC.2.1 dX7_keep_65 rfl (lv_at hl 2 rfl) ?_
        refine lv_iload_n hC.1 hC.2.1 dX7_keep_66 rfl (lv_at hl 3 rfl) ?_
        refine q_addN hC dX7_keep_67 ?_
        refine lv_aload_n hC.1 hC.2.1 dX7_keep_68 rfl (lv_at hl 0 rfl) ?_
        refine gf_X7_16 hC hw dX7_keep_69 ?_
        refine gf_X7_49 hC hw dX7_keep_72 ?_
        refine lv_iload_n hC.1 hC.2.1 dX7_keep_75 rfl (lv_at hl 3 rfl) ?_
        refine al_X4 (v := σ 4 h) hC hw (by omega) rfl dX7_keep_76 ?_
        have J85_10 : ∀ (w9 : Int32), w9 = (if ¬ (σ 4 h = 0) then (1 : Int32) else 0) → ∀ (H : Heap) (locs : List Loc) (ls : Array Slot), Wst E (XW E a) (sr σ 42 (upc (σ 4) h (va_cpy (σ 15) (upd (upd (upd (σ 42) 0 (σ 0 0)) 1 (σ 0 1)) 2 (σ 0 2)) 0 3 3))) A s.heap H locs → lv_has ls 4 [(0, .ref (a 68)), (1, .ref (a 42)), (2, .int (nI (3 + 3))), (3, .int (nI h))] → W p l e ({ frames := 1, cells := 0, slots := 0, locals := 24 }) s m args below meth c H locs 0 0 Q (F0 m 85 ls [.int (w9), .int (nI ((3 + 3) + h)), .ref (a 42)]) := by
          intro w9 e10 H locs ls hw hl
          subst e10
          refine q_ast (Wf := XW E a) 52 rfl (by decide) (XW_s42 _) hC hw (by omega) dX7_keep_85 (fun H locs hw => ?_)
          have hw : Wst E (XW E a) (sr (sr σ 42 (upc (σ 4) h (va_cpy (σ 15) (upd (upd (upd (σ 42) 0 (σ 0 0)) 1 (σ 0 1)) 2 (σ 0 2)) 0 3 3))) 42 (upd (upc (σ 4) h (va_cpy (σ 15) (upd (upd (upd (σ 42) 0 (σ 0 0)) 1 (σ 0 1)) 2 (σ 0 2)) 0 3 3)) ((3 + 3) + h) (if ¬ (σ 4 h = 0) then (1 : Int32) else 0))) A s.heap H locs := hw
          have hst_ : sr (sr σ 42 (upc (σ 4) h (va_cpy (σ 15) (upd (upd (upd (σ 42) 0 (σ 0 0)) 1 (σ 0 1)) 2 (σ 0 2)) 0 3 3))) 42 (upd (upc (σ 4) h (va_cpy (σ 15) (upd (upd (upd (σ 42) 0 (σ 0 0)) 1 (σ 0 1)) 2 (σ 0 2)) 0 3 3)) ((3 + 3) + h) (if ¬ (σ 4 h = 0) then (1 : Int32) else 0)) = sr σ 42 (upd (upc (σ 4) h (va_cpy (σ 15) (upd (upd (upd (σ 42) 0 (σ 0 0)) 1 (σ 0 1)) 2 (σ 0 2)) 0 3 3)) ((3 + 3) + h) (if ¬ (σ 4 h = 0) then (1 : Int32) else 0)) := by
            funext j_ x_
            by_cases e0 : j_ = 0
            · subst e0
              rfl
            · by_cases e42 : j_ = 42
              · subst e42; rfl
              · simp only [sr, e0, e42, if_false]
          rw [hst_] at hw
          refine lv_iinc (v := nI (h + 1)) (lv' := [(3, .int (nI (h + 1))), (0, .ref (a 68)), (1, .ref (a 42)), (2, .int (nI (3 + 3)))]) hC.1 hC.2.1 dX7_keep_86 hl (k := 3) rfl (nI_add _ _) (by decide) rfl (fun ls hl => ?_)
          refine lv_goto (tgt := 58) hC.1 hC.2.1 dX7_keep_89 (by decide) ?_
          rw [upc_s] at hw
          exact ih58 (h + 1) (by omega) (by omega) _ _ _ hw (lv_sub hl [1, 2, 3, 0] rfl)
        refine q_ifeq hC 84 cI dX7_keep_77 (by decide) (fun (c11 : σ 4 h = 0) => ?_) (fun (c11 : ¬ (σ 4 h = 0)) => ?_)
        · refine lv_iconst (v := nI 0) hC.1 hC.2.1 dX7_keep_84 (by decide) ?_
          exact J85_10 _ (if_neg (fun q => q c11)).symm _ _ _ hw (lv_sub hl [0, 1, 2, 3] rfl)
        · refine lv_iconst (v := nI 1) hC.1 hC.2.1 dX7_keep_80 (by decide) ?_
          refine lv_goto (tgt := 85) hC.1 hC.2.1 dX7_keep_81 (by decide) ?_
          exact J85_10 _ (if_pos c11).symm _ _ _ hw (lv_sub hl [0, 1, 2, 3] rfl)
  rw [← upc_0 (σ 4) (va_cpy (σ 15) (upd (upd (upd (σ 42) 0 (σ 0 0)) 1 (σ 0 1)) 2 (σ 0 2)) 0 3 3)] at hw
  exact L58_0 _ 0 (by omega) (Nat.lt_succ_self _) _ _ _ hw (lv_sub hl [3, 2, 1, 0] rfl)
set_option maxHeartbeats 4000000 in
set_option maxRecDepth 100000 in
theorem tX7_keep_k13 (l : Launch) (E : EV) (a : Nat → Nat) (σ : St) (kp : Nat) (hnx : σ 0 3 = nI 13) (hkp : σ 0 4 = nI kp) (hk30 : kp ≤ 30) : MV l E (XW E a) yX7_keep (Cond.code yX7_keep cX7_keep 4 none) ({ frames := 1, cells := 0, slots := 0, locals := 24 }) [.ref (a 68)] σ (fun u_ => u_ = sr (sr σ 43 (kpr σ (σ 43))) 0 (upd (upd (σ 0) 3 (nI (if 13 ≠ 29 then 13 + 1 else 0))) 4 (nI (if kp ≠ 30 then kp + 1 else kp)))) := by
  refine MV.mk (by decide +kernel) (Nat.le_of_ble_eq_true rfl) ?_
  intro p e s m args below meth c ls A Q hret hC hw hl
  have hC : Cxt E p s m args meth c cX7_keep 4 none RX7 A := hC
  have hl : lv_has ls 4 [(0, .ref (a 68))] := hl
  refine lv_aload_n hC.1 hC.2.1 dX7_keep_0 rfl (lv_at hl 0 rfl) ?_
  refine gf_X7_13 hC hw dX7_keep_1 ?_
  refine lv_aload_n hC.1 hC.2.1 dX7_keep_4 rfl (lv_at hl 0 rfl) ?_
  refine gf_X7_28 (v := nI 13) hC hw hnx dX7_keep_5 ?_
  refine q_aald hC hw (i := 13) (by decide) dX7_keep_8 ?_
  refine lv_astore_n (lv' := [(1, .ref (a 43)), (0, .ref (a 68))]) hC.1 hC.2.1 dX7_keep_9 rfl hl (by decide) rfl (fun ls hl => ?_)
  refine lv_aload_n hC.1 hC.2.1 dX7_keep_10 rfl (lv_at hl 0 rfl) ?_
  refine lv_iconst (v := nI 0) hC.1 hC.2.1 dX7_keep_11 (by decide) ?_
  refine lv_aload_n hC.1 hC.2.1 dX7_keep_12 rfl (lv_at hl 1 rfl) ?_
  refine gf_X7_16 hC hw dX7_keep_13 ?_
  refine gf_X7_32 (v := σ 0 0) hC hw rfl dX7_keep_16 ?_
  refine q_ast (Wf := XW E a) 53 rfl (by decide) (XW_s43 _) hC hw (by omega) dX7_keep_19 (fun H locs hw => ?_)
  have hw : Wst E (XW E a) (sr σ 43 (upd (σ 43) 0 (σ 0 0))) A s.heap H locs := hw
  refine lv_aload_n hC.1 hC.2.1 dX7_keep_20 rfl (lv_at hl 0 rfl) ?_
  refine lv_iconst (v := nI 1) hC.1 hC.2.1 dX7_keep_21 (by decide) ?_
  refine lv_aload_n hC.1 hC.2.1 dX7_keep_22 rfl (lv_at hl 1 rfl) ?_
  refine gf_X7_20 hC hw dX7_keep_23 ?_
  refine gf_X7_37 (v := σ 0 1) hC hw rfl dX7_keep_26 ?_
  refine q_ast (Wf := XW E a) 53 rfl (by decide) (XW_s43 _) hC hw (by omega) dX7_keep_29 (fun H locs hw => ?_)
  have hw : Wst E (XW E a) (sr (sr σ 43 (upd (σ 43) 0 (σ 0 0))) 43 (upd (upd (σ 43) 0 (σ 0 0)) 1 (σ 0 1))) A s.heap H locs := hw
  have hst_ : sr (sr σ 43 (upd (σ 43) 0 (σ 0 0))) 43 (upd (upd (σ 43) 0 (σ 0 0)) 1 (σ 0 1)) = sr σ 43 (upd (upd (σ 43) 0 (σ 0 0)) 1 (σ 0 1)) := by
    funext j_ x_
    by_cases e0 : j_ = 0
    · subst e0
      rfl
    · by_cases e43 : j_ = 43
      · subst e43; rfl
      · simp only [sr, e0, e43, if_false]
  rw [hst_] at hw
  refine lv_aload_n hC.1 hC.2.1 dX7_keep_30 rfl (lv_at hl 0 rfl) ?_
  refine lv_iconst (v := nI 2) hC.1 hC.2.1 dX7_keep_31 (by decide) ?_
  refine lv_aload_n hC.1 hC.2.1 dX7_keep_32 rfl (lv_at hl 1 rfl) ?_
  refine gf_X7_20 hC hw dX7_keep_33 ?_
  refine gf_X7_40 (v := σ 0 2) hC hw rfl dX7_keep_36 ?_
  refine q_ast (Wf := XW E a) 53 rfl (by decide) (XW_s43 _) hC hw (by omega) dX7_keep_39 (fun H locs hw => ?_)
  have hw : Wst E (XW E a) (sr (sr σ 43 (upd (upd (σ 43) 0 (σ 0 0)) 1 (σ 0 1))) 43 (upd (upd (upd (σ 43) 0 (σ 0 0)) 1 (σ 0 1)) 2 (σ 0 2))) A s.heap H locs := hw
  have hst_ : sr (sr σ 43 (upd (upd (σ 43) 0 (σ 0 0)) 1 (σ 0 1))) 43 (upd (upd (upd (σ 43) 0 (σ 0 0)) 1 (σ 0 1)) 2 (σ 0 2)) = sr σ 43 (upd (upd (upd (σ 43) 0 (σ 0 0)) 1 (σ 0 1)) 2 (σ 0 2)) := by
    funext j_ x_
    by_cases e0 : j_ = 0
    · subst e0
      rfl
    · by_cases e43 : j_ = 43
      · subst e43; rfl
      · simp only [sr, e0, e43, if_false]
  rw [hst_] at hw
  refine lv_iconst (v := nI 3) hC.1 hC.2.1 dX7_keep_40 (by decide) ?_
  refine lv_istore_n (lv' := [(2, .int (nI 3)), (1, .ref (a 43)), (0, .ref (a 68))]) hC.1 hC.2.1 dX7_keep_41 rfl hl (by decide) rfl (fun ls hl => ?_)
  refine lv_aload_n hC.1 hC.2.1 dX7_keep_42 rfl (lv_at hl 2 rfl) ?_
  refine gf_X7_24 hC hw dX7_keep_43 ?_
  refine lv_iconst (v := nI 0) hC.1 hC.2.1 dX7_keep_46 (by decide) ?_
  refine lv_aload_n hC.1 hC.2.1 dX7_keep_47 rfl (lv_at hl 1 rfl) ?_
  refine lv_iload_n hC.1 hC.2.1 dX7_keep_48 rfl (lv_at hl 0 rfl) ?_
  refine lv_iconst (v := nI 3) hC.1 hC.2.1 dX7_keep_49 (by decide) ?_
  refine q_cpy (sp := 0) (dp := 3) (n := 3) 25 rfl 53 rfl (XW_s43 _) hC hw hl (by omega) (by omega) (by decide) (by decide) ⟨Nat.le_of_ble_eq_true rfl, Nat.le_of_ble_eq_true rfl⟩ wk2_182 dX7_keep_50 (fun H locs hw => ?_)
  have hw : Wst E (XW E a) (sr (sr σ 43 (upd (upd (upd (σ 43) 0 (σ 0 0)) 1 (σ 0 1)) 2 (σ 0 2))) 43 (va_cpy (σ 15) (upd (upd (upd (σ 43) 0 (σ 0 0)) 1 (σ 0 1)) 2 (σ 0 2)) 0 3 3)) A s.heap H locs := hw
  have hst_ : sr (sr σ 43 (upd (upd (upd (σ 43) 0 (σ 0 0)) 1 (σ 0 1)) 2 (σ 0 2))) 43 (va_cpy (σ 15) (upd (upd (upd (σ 43) 0 (σ 0 0)) 1 (σ 0 1)) 2 (σ 0 2)) 0 3 3) = sr σ 43 (va_cpy (σ 15) (upd (upd (upd (σ 43) 0 (σ 0 0)) 1 (σ 0 1)) 2 (σ 0 2)) 0 3 3) := by
    funext j_ x_
    by_cases e0 : j_ = 0
    · subst e0
      rfl
    · by_cases e43 : j_ = 43
      · subst e43; rfl
      · simp only [sr, e0, e43, if_false]
  rw [hst_] at hw
  refine lv_iinc (v := nI (3 + 3)) (lv' := [(2, .int (nI (3 + 3))), (1, .ref (a 43)), (0, .ref (a 68))]) hC.1 hC.2.1 dX7_keep_53 hl (k := 0) rfl (nI_add _ _) (by decide) rfl (fun ls hl => ?_)
  refine lv_iconst (v := nI 0) hC.1 hC.2.1 dX7_keep_56 (by decide) ?_
  refine lv_istore_n (lv' := [(3, .int (nI 0)), (2, .int (nI (3 + 3))), (1, .ref (a 43)), (0, .ref (a 68))]) hC.1 hC.2.1 dX7_keep_57 rfl hl (by decide) rfl (fun ls hl => ?_)
  have L58_0 : ∀ (n : Nat), ∀ (h : Nat), (h ≤ 10) → (10 - h) < n → ∀ (H : Heap) (locs : List Loc) (ls : Array Slot), Wst E (XW E a) (sr σ 43 (upc (σ 4) h (va_cpy (σ 15) (upd (upd (upd (σ 43) 0 (σ 0 0)) 1 (σ 0 1)) 2 (σ 0 2)) 0 3 3))) A s.heap H locs → lv_has ls 4 [(0, .ref (a 68)), (1, .ref (a 43)), (2, .int (nI (3 + 3))), (3, .int (nI h))] → W p l e ({ frames := 1, cells := 0, slots := 0, locals := 24 }) s m args below meth c H locs 0 0 Q (F0 m 58 ls []) := by
    intro n
    induction n with
    | zero => intro h hh hn; exact absurd hn (Nat.not_lt_zero _)
    | succ n ih58 =>
      intro h hh hn58 H locs ls hw hl
      refine lv_iload_n hC.1 hC.2.1 dX7_keep_58 rfl (lv_at hl 3 rfl) ?_
      refine lv_bipush (v := nI 10) hC.1 hC.2.1 dX7_keep_59 (by decide) ?_
      refine q_cmpge hC 92 (cNle (by omega) (by omega)) dX7_keep_61 (by decide) (fun (c2 : 10 ≤ h) => ?_) (fun (c2 : h < 10) => ?_)
      · have hh9 : h = 10 := by omega
        rw [hh9] at hw
        refine lv_iinc (v := nI (3 + 3 + 10)) (lv' := [(2, .int (nI (3 + 3 + 10))), (0, .ref (a 68)), (1, .ref (a 43)), (3, .int (nI h))]) hC.1 hC.2.1 dX7_keep_92 hl (k := 2) rfl (nI_add _ _) (by decide) rfl (fun ls hl => ?_)
        refine lv_aload_n hC.1 hC.2.1 dX7_keep_95 rfl (lv_at hl 1 rfl) ?_
        refine gf_X7_20 hC hw dX7_keep_96 ?_
        refine gf_X7_53 hC hw dX7_keep_99 ?_
        refine lv_iconst (v := nI 0) hC.1 hC.2.1 dX7_keep_102 (by decide) ?_
        refine lv_aload_n hC.1 hC.2.1 dX7_keep_103 rfl (lv_at hl 2 rfl) ?_
        refine lv_iload_n hC.1 hC.2.1 dX7_keep_104 rfl (lv_at hl 0 rfl) ?_
        refine lv_bipush (v := nI 24) hC.1 hC.2.1 dX7_keep_105 (by decide) ?_
        refine q_cpy (sp := 0) (dp := (3 + 3 + 10)) (n := 24) 21 rfl 53 rfl (XW_s43 _) hC hw hl (by omega) (by omega) (by decide) (by decide) ⟨Nat.le_of_ble_eq_true rfl, Nat.le_of_ble_eq_true rfl⟩ wk2_182 dX7_keep_107 (fun H locs hw => ?_)
        have hw : Wst E (XW E a) (sr (sr σ 43 (upc (σ 4) 10 (va_cpy (σ 15) (upd (upd (upd (σ 43) 0 (σ 0 0)) 1 (σ 0 1)) 2 (σ 0 2)) 0 3 3))) 43 (va_cpy (σ 11) (upc (σ 4) 10 (va_cpy (σ 15) (upd (upd (upd (σ 43) 0 (σ 0 0)) 1 (σ 0 1)) 2 (σ 0 2)) 0 3 3)) 0 (3 + 3 + 10) 24)) A s.heap H locs := hw
        have hst_ : sr (sr σ 43 (upc (σ 4) 10 (va_cpy (σ 15) (upd (upd (upd (σ 43) 0 (σ 0 0)) 1 (σ 0 1)) 2 (σ 0 2)) 0 3 3))) 43 (va_cpy (σ 11) (upc (σ 4) 10 (va_cpy (σ 15) (upd (upd (upd (σ 43) 0 (σ 0 0)) 1 (σ 0 1)) 2 (σ 0 2)) 0 3 3)) 0 (3 + 3 + 10) 24) = sr σ 43 (va_cpy (σ 11) (upc (σ 4) 10 (va_cpy (σ 15) (upd (upd (upd (σ 43) 0 (σ 0 0)) 1 (σ 0 1)) 2 (σ 0 2)) 0 3 3)) 0 (3 + 3 + 10) 24) := by
          funext j_ x_
          by_cases e0 : j_ = 0
          · subst e0
            rfl
          · by_cases e43 : j_ = 43
            · subst e43; rfl
            · simp only [sr, e0, e43, if_false]
        rw [hst_] at hw
        refine lv_aload_n hC.1 hC.2.1 dX7_keep_110 rfl (lv_at hl 1 rfl) ?_
        refine gf_X7_20 hC hw dX7_keep_111 ?_
        refine gf_X7_56 hC hw dX7_keep_114 ?_
        refine lv_iconst (v := nI 0) hC.1 hC.2.1 dX7_keep_117 (by decide) ?_
        refine lv_aload_n hC.1 hC.2.1 dX7_keep_118 rfl (lv_at hl 2 rfl) ?_
        refine lv_iload_n hC.1 hC.2.1 dX7_keep_119 rfl (lv_at hl 0 rfl) ?_
        refine lv_bipush (v := nI 24) hC.1 hC.2.1 dX7_keep_120 (by decide) ?_
        refine q_addN hC dX7_keep_122 ?_
        refine lv_bipush (v := nI 24) hC.1 hC.2.1 dX7_keep_123 (by decide) ?_
        refine q_cpy (sp := 0) (dp := ((3 + 3 + 10) + 24)) (n := 24) 22 rfl 53 rfl (XW_s43 _) hC hw hl (by omega) (by omega) (by decide) (by decide) ⟨Nat.le_of_ble_eq_true rfl, Nat.le_of_ble_eq_true rfl⟩ wk2_182 dX7_keep_125 (fun H locs hw => ?_)
        have hw : Wst E (XW E a) (sr (sr σ 43 (va_cpy (σ 11) (upc (σ 4) 10 (va_cpy (σ 15) (upd (upd (upd (σ 43) 0 (σ 0 0)) 1 (σ 0 1)) 2 (σ 0 2)) 0 3 3)) 0 (3 + 3 + 10) 24)) 43 (va_cpy (σ 12) (va_cpy (σ 11) (upc (σ 4) 10 (va_cpy (σ 15) (upd (upd (upd (σ 43) 0 (σ 0 0)) 1 (σ 0 1)) 2 (σ 0 2)) 0 3 3)) 0 (3 + 3 + 10) 24) 0 ((3 + 3 + 10) + 24) 24)) A s.heap H locs := hw
        have hst_ : sr (sr σ 43 (va_cpy (σ 11) (upc (σ 4) 10 (va_cpy (σ 15) (upd (upd (upd (σ 43) 0 (σ 0 0)) 1 (σ 0 1)) 2 (σ 0 2)) 0 3 3)) 0 (3 + 3 + 10) 24)) 43 (va_cpy (σ 12) (va_cpy (σ 11) (upc (σ 4) 10 (va_cpy (σ 15) (upd (upd (upd (σ 43) 0 (σ 0 0)) 1 (σ 0 1)) 2 (σ 0 2)) 0 3 3)) 0 (3 + 3 + 10) 24) 0 ((3 + 3 + 10) + 24) 24) = sr σ 43 (va_cpy (σ 12) (va_cpy (σ 11) (upc (σ 4) 10 (va_cpy (σ 15) (upd (upd (upd (σ 43) 0 (σ 0 0)) 1 (σ 0 1)) 2 (σ 0 2)) 0 3 3)) 0 (3 + 3 + 10) 24) 0 ((3 + 3 + 10) + 24) 24) := by
          funext j_ x_
          by_cases e0 : j_ = 0
          · subst e0
            rfl
          · by_cases e43 : j_ = 43
            · subst e43; rfl
            · simp only [sr, e0, e43, if_false]
        rw [hst_] at hw
        refine lv_aload_n hC.1 hC.2.1 dX7_keep_128 rfl (lv_at hl 1 rfl) ?_
        refine gf_X7_20 hC hw dX7_keep_129 ?_
        refine gf_X7_59 hC hw dX7_keep_132 ?_
        refine lv_iconst (v := nI 0) hC.1 hC.2.1 dX7_keep_135 (by decide) ?_
        refine lv_aload_n hC.1 hC.2.1 dX7_keep_136 rfl (lv_at hl 2 rfl) ?_
        refine lv_iload_n hC.1 hC.2.1 dX7_keep_137 rfl (lv_at hl 0 rfl) ?_
        refine lv_bipush (v := nI 48) hC.1 hC.2.1 dX7_keep_138 (by decide) ?_
        refine q_addN hC dX7_keep_140 ?_
        refine lv_bipush (v := nI 24) hC.1 hC.2.1 dX7_keep_141 (by decide) ?_
        refine q_cpy (sp := 0) (dp := ((3 + 3 + 10) + 48)) (n := 24) 23 rfl 53 rfl (XW_s43 _) hC hw hl (by omega) (by omega) (by decide) (by decide) ⟨Nat.le_of_ble_eq_true rfl, Nat.le_of_ble_eq_true rfl⟩ wk2_182 dX7_keep_143 (fun H locs hw => ?_)
        have hw : Wst E (XW E a) (sr (sr σ 43 (va_cpy (σ 12) (va_cpy (σ 11) (upc (σ 4) 10 (va_cpy (σ 15) (upd (upd (upd (σ 43) 0 (σ 0 0)) 1 (σ 0 1)) 2 (σ 0 2)) 0 3 3)) 0 (3 + 3 + 10) 24) 0 ((3 + 3 + 10) + 24) 24)) 43 (va_cpy (σ 13) (va_cpy (σ 12) (va_cpy (σ 11) (upc (σ 4) 10 (va_cpy (σ 15) (upd (upd (upd (σ 43) 0 (σ 0 0)) 1 (σ 0 1)) 2 (σ 0 2)) 0 3 3)) 0 (3 + 3 + 10) 24) 0 ((3 + 3 + 10) + 24) 24) 0 ((3 + 3 + 10) + 48) 24)) A s.heap H locs := hw
        have hst_ : sr (sr σ 43 (va_cpy (σ 12) (va_cpy (σ 11) (upc (σ 4) 10 (va_cpy (σ 15) (upd (upd (upd (σ 43) 0 (σ 0 0)) 1 (σ 0 1)) 2 (σ 0 2)) 0 3 3)) 0 (3 + 3 + 10) 24) 0 ((3 + 3 + 10) + 24) 24)) 43 (va_cpy (σ 13) (va_cpy (σ 12) (va_cpy (σ 11) (upc (σ 4) 10 (va_cpy (σ 15) (upd (upd (upd (σ 43) 0 (σ 0 0)) 1 (σ 0 1)) 2 (σ 0 2)) 0 3 3)) 0 (3 + 3 + 10) 24) 0 ((3 + 3 + 10) + 24) 24) 0 ((3 + 3 + 10) + 48) 24) = sr σ 43 (va_cpy (σ 13) (va_cpy (σ 12) (va_cpy (σ 11) (upc (σ 4) 10 (va_cpy (σ 15) (upd (upd (upd (σ 43) 0 (σ 0 0)) 1 (σ 0 1)) 2 (σ 0 2)) 0 3 3)) 0 (3 + 3 + 10) 24) 0 ((3 + 3 + 10) + 24) 24) 0 ((3 + 3 + 10) + 48) 24) := by
          funext j_ x_
          by_cases e0 : j_ = 0
          · subst e0
            rfl
          · by_cases e43 : j_ = 43
            · subst e43; rfl
            · simp only [sr, e0, e43, if_false]
        rw [hst_] at hw
        refine lv_aload_n hC.1 hC.2.1 dX7_keep_146 rfl (lv_at hl 1 rfl) ?_
        refine gf_X7_20 hC hw dX7_keep_147 ?_
        refine gf_X7_62 hC hw dX7_keep_150 ?_
        refine lv_iconst (v := nI 0) hC.1 hC.2.1 dX7_keep_153 (by decide) ?_
        refine lv_aload_n hC.1 hC.2.1 dX7_keep_154 rfl (lv_at hl 2 rfl) ?_
        refine lv_iload_n hC.1 hC.2.1 dX7_keep_155 rfl (lv_at hl 0 rfl) ?_
        refine lv_bipush (v := nI 72) hC.1 hC.2.1 dX7_keep_156 (by decide) ?_
        refine q_addN hC dX7_keep_158 ?_
        refine lv_bipush (v := nI 24) hC.1 hC.2.1 dX7_keep_159 (by decide) ?_
        refine q_cpy (sp := 0) (dp := ((3 + 3 + 10) + 72)) (n := 24) 24 rfl 53 rfl (XW_s43 _) hC hw hl (by omega) (by omega) (by decide) (by decide) ⟨Nat.le_of_ble_eq_true rfl, Nat.le_of_ble_eq_true rfl⟩ wk2_182 dX7_keep_161 (fun H locs hw => ?_)
        have hw : Wst E (XW E a) (sr (sr σ 43 (va_cpy (σ 13) (va_cpy (σ 12) (va_cpy (σ 11) (upc (σ 4) 10 (va_cpy (σ 15) (upd (upd (upd (σ 43) 0 (σ 0 0)) 1 (σ 0 1)) 2 (σ 0 2)) 0 3 3)) 0 (3 + 3 + 10) 24) 0 ((3 + 3 + 10) + 24) 24) 0 ((3 + 3 + 10) + 48) 24)) 43 (va_cpy (σ 14) (va_cpy (σ 13) (va_cpy (σ 12) (va_cpy (σ 11) (upc (σ 4) 10 (va_cpy (σ 15) (upd (upd (upd (σ 43) 0 (σ 0 0)) 1 (σ 0 1)) 2 (σ 0 2)) 0 3 3)) 0 (3 + 3 + 10) 24) 0 ((3 + 3 + 10) + 24) 24) 0 ((3 + 3 + 10) + 48) 24) 0 ((3 + 3 + 10) + 72) 24)) A s.heap H locs := hw
        have hst_ : sr (sr σ 43 (va_cpy (σ 13) (va_cpy (σ 12) (va_cpy (σ 11) (upc (σ 4) 10 (va_cpy (σ 15) (upd (upd (upd (σ 43) 0 (σ 0 0)) 1 (σ 0 1)) 2 (σ 0 2)) 0 3 3)) 0 (3 + 3 + 10) 24) 0 ((3 + 3 + 10) + 24) 24) 0 ((3 + 3 + 10) + 48) 24)) 43 (va_cpy (σ 14) (va_cpy (σ 13) (va_cpy (σ 12) (va_cpy (σ 11) (upc (σ 4) 10 (va_cpy (σ 15) (upd (upd (upd (σ 43) 0 (σ 0 0)) 1 (σ 0 1)) 2 (σ 0 2)) 0 3 3)) 0 (3 + 3 + 10) 24) 0 ((3 + 3 + 10) + 24) 24) 0 ((3 + 3 + 10) + 48) 24) 0 ((3 + 3 + 10) + 72) 24) = sr σ 43 (va_cpy (σ 14) (va_cpy (σ 13) (va_cpy (σ 12) (va_cpy (σ 11) (upc (σ 4) 10 (va_cpy (σ 15) (upd (upd (upd (σ 43) 0 (σ 0 0)) 1 (σ 0 1)) 2 (σ 0 2)) 0 3 3)) 0 (3 + 3 + 10) 24) 0 ((3 + 3 + 10) + 24) 24) 0 ((3 + 3 + 10) + 48) 24) 0 ((3 + 3 + 10) + 72) 24) := by
          funext j_ x_
          by_cases e0 : j_ = 0
          · subst e0
            rfl
          · by_cases e43 : j_ = 43
            · subst e43; rfl
            · simp only [sr, e0, e43, if_false]
        rw [hst_] at hw
        refine lv_aload_n hC.1 hC.2.1 dX7_keep_164 rfl (lv_at hl 1 rfl) ?_
        refine lv_aload_n hC.1 hC.2.1 dX7_keep_165 rfl (lv_at hl 1 rfl) ?_
        refine gf_X7_28 (v := nI 13) hC hw hnx dX7_keep_166 ?_
        refine lv_bipush (v := nI 29) hC.1 hC.2.1 dX7_keep_169 (by decide) ?_
        have J184_4 : ∀ (w3 : Nat), w3 = (if 13 ≠ 29 then (13 + 1) else 0) → ∀ (H : Heap) (locs : List Loc) (ls : Array Slot), Wst E (XW E a) (sr σ 43 (va_cpy (σ 14) (va_cpy (σ 13) (va_cpy (σ 12) (va_cpy (σ 11) (upc (σ 4) 10 (va_cpy (σ 15) (upd (upd (upd (σ 43) 0 (σ 0 0)) 1 (σ 0 1)) 2 (σ 0 2)) 0 3 3)) 0 (3 + 3 + 10) 24) 0 ((3 + 3 + 10) + 24) 24) 0 ((3 + 3 + 10) + 48) 24) 0 ((3 + 3 + 10) + 72) 24)) A s.heap H locs → lv_has ls 4 [(0, .ref (a 68)), (1, .ref (a 43)), (2, .int (nI (3 + 3 + 10))), (3, .int (nI h))] → W p l e ({ frames := 1, cells := 0, slots := 0, locals := 24 }) s m args below meth c H locs 0 0 Q (F0 m 184 ls [.int (nI w3), .ref (a 68)]) := by
          intro w3 e4 H locs ls hw hl
          subst e4
          refine pf_X7_28 hC hw dX7_keep_184 (fun H locs hw => ?_)
          have hw : Wst E (XW E a) (sr (sr σ 43 (va_cpy (σ 14) (va_cpy (σ 13) (va_cpy (σ 12) (va_cpy (σ 11) (upc (σ 4) 10 (va_cpy (σ 15) (upd (upd (upd (σ 43) 0 (σ 0 0)) 1 (σ 0 1)) 2 (σ 0 2)) 0 3 3)) 0 (3 + 3 + 10) 24) 0 ((3 + 3 + 10) + 24) 24) 0 ((3 + 3 + 10) + 48) 24) 0 ((3 + 3 + 10) + 72) 24)) 0 (upd (σ 0) 3 (nI (if 13 ≠ 29 then (13 + 1) else 0)))) A s.heap H locs := hw
          refine lv_aload_n hC.1 hC.2.1 dX7_keep_187 rfl (lv_at hl 0 rfl) ?_
          refine lv_aload_n hC.1 hC.2.1 dX7_keep_188 rfl (lv_at hl 0 rfl) ?_
          refine gf_X7_65 (v := nI kp) hC hw hkp dX7_keep_189 ?_
          refine lv_bipush (v := nI 30) hC.1 hC.2.1 dX7_keep_192 (by decide) ?_
          have J210_6 : ∀ (w5 : Nat), w5 = (if kp ≠ 30 then (kp + 1) else kp) → ∀ (H : Heap) (locs : List Loc) (ls : Array Slot), Wst E (XW E a) (sr (sr σ 43 (va_cpy (σ 14) (va_cpy (σ 13) (va_cpy (σ 12) (va_cpy (σ 11) (upc (σ 4) 10 (va_cpy (σ 15) (upd (upd (upd (σ 43) 0 (σ 0 0)) 1 (σ 0 1)) 2 (σ 0 2)) 0 3 3)) 0 (3 + 3 + 10) 24) 0 ((3 + 3 + 10) + 24) 24) 0 ((3 + 3 + 10) + 48) 24) 0 ((3 + 3 + 10) + 72) 24)) 0 (upd (σ 0) 3 (nI (if 13 ≠ 29 then (13 + 1) else 0)))) A s.heap H locs → lv_has ls 4 [(0, .ref (a 68)), (1, .ref (a 43)), (2, .int (nI (3 + 3 + 10))), (3, .int (nI h))] → W p l e ({ frames := 1, cells := 0, slots := 0, locals := 24 }) s m args below meth c H locs 0 0 Q (F0 m 210 ls [.int (nI w5), .ref (a 68)]) := by
            intro w5 e6 H locs ls hw hl
            subst e6
            refine pf_X7_65 hC hw dX7_keep_210 (fun H locs hw => ?_)
            have hw : Wst E (XW E a) (sr (sr (sr σ 43 (va_cpy (σ 14) (va_cpy (σ 13) (va_cpy (σ 12) (va_cpy (σ 11) (upc (σ 4) 10 (va_cpy (σ 15) (upd (upd (upd (σ 43) 0 (σ 0 0)) 1 (σ 0 1)) 2 (σ 0 2)) 0 3 3)) 0 (3 + 3 + 10) 24) 0 ((3 + 3 + 10) + 24) 24) 0 ((3 + 3 + 10) + 48) 24) 0 ((3 + 3 + 10) + 72) 24)) 0 (upd (σ 0) 3 (nI (if 13 ≠ 29 then (13 + 1) else 0)))) 0 (upd (upd (σ 0) 3 (nI (if 13 ≠ 29 then (13 + 1) else 0))) 4 (nI (if kp ≠ 30 then (kp + 1) else kp)))) A s.heap H locs := hw
            have hst_ : sr (sr (sr σ 43 (va_cpy (σ 14) (va_cpy (σ 13) (va_cpy (σ 12) (va_cpy (σ 11) (upc (σ 4) 10 (va_cpy (σ 15) (upd (upd (upd (σ 43) 0 (σ 0 0)) 1 (σ 0 1)) 2 (σ 0 2)) 0 3 3)) 0 (3 + 3 + 10) 24) 0 ((3 + 3 + 10) + 24) 24) 0 ((3 + 3 + 10) + 48) 24) 0 ((3 + 3 + 10) + 72) 24)) 0 (upd (σ 0) 3 (nI (if 13 ≠ 29 then (13 + 1) else 0)))) 0 (upd (upd (σ 0) 3 (nI (if 13 ≠ 29 then (13 + 1) else 0))) 4 (nI (if kp ≠ 30 then (kp + 1) else kp))) = sr (sr σ 43 (va_cpy (σ 14) (va_cpy (σ 13) (va_cpy (σ 12) (va_cpy (σ 11) (upc (σ 4) 10 (va_cpy (σ 15) (upd (upd (upd (σ 43) 0 (σ 0 0)) 1 (σ 0 1)) 2 (σ 0 2)) 0 3 3)) 0 (3 + 3 + 10) 24) 0 ((3 + 3 + 10) + 24) 24) 0 ((3 + 3 + 10) + 48) 24) 0 ((3 + 3 + 10) + 72) 24)) 0 (upd (upd (σ 0) 3 (nI (if 13 ≠ 29 then (13 + 1) else 0))) 4 (nI (if kp ≠ 30 then (kp + 1) else kp))) := by
              funext j_ x_
              by_cases e0 : j_ = 0
              · subst e0
                by_cases y3 : x_ = 3
                · subst y3; rfl
                · by_cases y4 : x_ = 4
                  · subst y4; rfl
                  · simp [sr, upd, y3, y4]
              · by_cases e43 : j_ = 43
                · subst e43; rfl
                · simp only [sr, e0, e43, if_false]
            rw [hst_] at hw
            refine hret _ _ _ _ _ hw ?_ dX7_keep_213
            exact rfl
          refine q_cmpne hC 204 (cNeq (by omega) (by omega)) dX7_keep_194 (by decide) (fun (c7 : kp ≠ 30) => ?_) (fun (c7 : kp = 30) => ?_)
          · refine lv_aload_n hC.1 hC.2.1 dX7_keep_204 rfl (lv_at hl 0 rfl) ?_
            refine gf_X7_65 (v := nI kp) hC hw hkp dX7_keep_205 ?_
            refine lv_iconst (v := nI 1) hC.1 hC.2.1 dX7_keep_208 (by decide) ?_
            refine q_addN hC dX7_keep_209 ?_
            exact J210_6 _ (by (rw [if_pos c7]) <;> rfl) _ _ _ hw (lv_sub hl [0, 1, 2, 3] rfl)
          · refine lv_aload_n hC.1 hC.2.1 dX7_keep_197 rfl (lv_at hl 0 rfl) ?_
            refine gf_X7_65 (v := nI kp) hC hw hkp dX7_keep_198 ?_
            refine lv_goto (tgt := 210) hC.1 hC.2.1 dX7_keep_201 (by decide) ?_
            exact J210_6 _ (by (rw [if_neg (fun q => q c7)]) <;> rfl) _ _ _ hw (lv_sub hl [0, 1, 2, 3] rfl)
        refine q_cmpne hC 178 (cNeq (by omega) (by omega)) dX7_keep_171 (by decide) (fun (c8 : 13 ≠ 29) => ?_) (fun (c8 : 13 = 29) => ?_)
        · refine lv_aload_n hC.1 hC.2.1 dX7_keep_178 rfl (lv_at hl 1 rfl) ?_
          refine gf_X7_28 (v := nI 13) hC hw hnx dX7_keep_179 ?_
          refine lv_iconst (v := nI 1) hC.1 hC.2.1 dX7_keep_182 (by decide) ?_
          refine q_addN hC dX7_keep_183 ?_
          exact J184_4 _ (by (rw [if_pos c8]) <;> rfl) _ _ _ hw (lv_sub hl [1, 2, 0, 3] rfl)
        · refine lv_iconst (v := nI 0) hC.1 hC.2.1 dX7_keep_174 (by decide) ?_
          refine lv_goto (tgt := 184) hC.1 hC.2.1 dX7_keep_175 (by decide) ?_
          exact J184_4 _ (by (rw [if_neg (fun q => q c8)]) <;> rfl) _ _ _ hw (lv_sub hl [1, 2, 0, 3] rfl)
      · refine lv_aload_n hC.1 hC.2.1 dX7_keep_64 rfl (lv_at hl 1 rfl) ?_
        refine lv_iload_n hC.1 hC.2.1 dX7_keep_65 rfl (lv_at hl 2 rfl) ?_
        refine lv_iload_n hC.1 hC.2.1 dX7_keep_66 rfl (lv_at hl 3 rfl) ?_
        refine q_addN hC dX7_keep_67 ?_
        refine lv_aload_n hC.1 hC.2.1 dX7_keep_68 rfl (lv_at hl 0 rfl) ?_
        refine gf_X7_16 hC hw dX7_keep_69 ?_
        refine gf_X7_49 hC hw dX7_keep_72 ?_
        refine lv_iload_n hC.1 hC.2.1 dX7_keep_75 rfl (lv_at hl 3 rfl) ?_
        refine al_X4 (v := σ 4 h) hC hw (by omega) rfl dX7_keep_76 ?_
        have J85_10 : ∀ (w9 : Int32), w9 = (if ¬ (σ 4 h = 0) then (1 : Int32) else 0) → ∀ (H : Heap) (locs : List Loc) (ls : Array Slot), Wst E (XW E a) (sr σ 43 (upc (σ 4) h (va_cpy (σ 15) (upd (upd (upd (σ 43) 0 (σ 0 0)) 1 (σ 0 1)) 2 (σ 0 2)) 0 3 3))) A s.heap H locs → lv_has ls 4 [(0, .ref (a 68)), (1, .ref (a 43)), (2, .int (nI (3 + 3))), (3, .int (nI h))] → W p l e ({ frames := 1, cells := 0, slots := 0, locals := 24 }) s m args below meth c H locs 0 0 Q (F0 m 85 ls [.int (w9), .int (nI ((3 + 3) + h)), .ref (a 43)]) := by
          intro w9 e10 H locs ls hw hl
          subst e10
          refine q_ast (Wf := XW E a) 53 rfl (by decide) (XW_s43 _) hC hw (by omega) dX7_keep_85 (fun H locs hw => ?_)
          have hw : Wst E (XW E a) (sr (sr σ 43 (upc (σ 4) h (va_cpy (σ 15) (upd (upd (upd (σ 43) 0 (σ 0 0)) 1 (σ 0 1)) 2 (σ 0 2)) 0 3 3))) 43 (upd (upc (σ 4) h (va_cpy (σ 15) (upd (upd (upd (σ 43) 0 (σ 0 0)) 1 (σ 0 1)) 2 (σ 0 2)) 0 3 3)) ((3 + 3) + h) (if ¬ (σ 4 h = 0) then (1 : Int32) else 0))) A s.heap H locs := hw
          have hst_ : sr (sr σ 43 (upc (σ 4) h (va_cpy (σ 15) (upd (upd (upd (σ 43) 0 (σ 0 0)) 1 (σ 0 1)) 2 (σ 0 2)) 0 3 3))) 43 (upd (upc (σ 4) h (va_cpy (σ 15) (upd (upd (upd (σ 43) 0 (σ 0 0)) 1 (σ 0 1)) 2 (σ 0 2)) 0 3 3)) ((3 + 3) + h) (if ¬ (σ 4 h = 0) then (1 : Int32) else 0)) = sr σ 43 (upd (upc (σ 4) h (va_cpy (σ 15) (upd (upd (upd (σ 43) 0 (σ 0 0)) 1 (σ 0 1)) 2 (σ 0 2)) 0 3 3)) ((3 + 3) + h) (if ¬ (σ 4 h = 0) then (1 : Int32) else 0)) := by
            funext j_ x_
            by_cases e0 : j_ = 0
            · subst e0
              rfl
            · by_cases e43 : j_ = 43
              · subst e43; rfl
              · simp only [sr, e0, e43, if_false]
          rw [hst_] at hw
          refine lv_iinc (v := nI (h + 1)) (lv' := [(3, .int (nI (h + 1))), (0, .ref (a 68)), (1, .ref (a 43)), (2, .int (nI (3 + 3)))]) hC.1 hC.2.1 dX7_keep_86 hl (k := 3) rfl (nI_add _ _) (by decide) rfl (fun ls hl => ?_)
          refine lv_goto (tgt := 58) hC.1 hC.2.1 dX7_keep_89 (by decide) ?_
          rw [upc_s] at hw
          exact ih58 (h + 1) (by omega) (by omega) _ _ _ hw (lv_sub hl [1, 2, 3, 0] rfl)
        refine q_ifeq hC 84 cI dX7_keep_77 (by decide) (fun (c11 : σ 4 h = 0) => ?_) (fun (c11 : ¬ (σ 4 h = 0)) => ?_)
        · refine lv_iconst (v := nI 0) hC.1 hC.2.1 dX7_keep_84 (by decide) ?_
          exact J85_10 _ (if_neg (fun q => q c11)).symm _ _ _ hw (lv_sub hl [0, 1, 2, 3] rfl)
        · refine lv_iconst (v := nI 1) hC.1 hC.2.1 dX7_keep_80 (by decide) ?_
          refine lv_goto (tgt := 85) hC.1 hC.2.1 dX7_keep_81 (by decide) ?_
          exact J85_10 _ (if_pos c11).symm _ _ _ hw (lv_sub hl [0, 1, 2, 3] rfl)
  rw [← upc_0 (σ 4) (va_cpy (σ 15) (upd (upd (upd (σ 43) 0 (σ 0 0)) 1 (σ 0 1)) 2 (σ 0 2)) 0 3 3)] at hw
  exact L58_0 _ 0 (by omega) (Nat.lt_succ_self _) _ _ _ hw (lv_sub hl [3, 2, 1, 0] rfl)
set_option maxHeartbeats 4000000 in
set_option maxRecDepth 100000 in
theorem tX7_keep_k14 (l : Launch) (E : EV) (a : Nat → Nat) (σ : St) (kp : Nat) (hnx : σ 0 3 = nI 14) (hkp : σ 0 4 = nI kp) (hk30 : kp ≤ 30) : MV l E (XW E a) yX7_keep (Cond.code yX7_keep cX7_keep 4 none) ({ frames := 1, cells := 0, slots := 0, locals := 24 }) [.ref (a 68)] σ (fun u_ => u_ = sr (sr σ 44 (kpr σ (σ 44))) 0 (upd (upd (σ 0) 3 (nI (if 14 ≠ 29 then 14 + 1 else 0))) 4 (nI (if kp ≠ 30 then kp + 1 else kp)))) := by
  refine MV.mk (by decide +kernel) (Nat.le_of_ble_eq_true rfl) ?_
  intro p e s m args below meth c ls A Q hret hC hw hl
  have hC : Cxt E p s m args meth c cX7_keep 4 none RX7 A := hC
  have hl : lv_has ls 4 [(0, .ref (a 68))] := hl
  refine lv_aload_n hC.1 hC.2.1 dX7_keep_0 rfl (lv_at hl 0 rfl) ?_
  refine gf_X7_13 hC hw dX7_keep_1 ?_
  refine lv_aload_n hC.1 hC.2.1 dX7_keep_4 rfl (lv_at hl 0 rfl) ?_
  refine gf_X7_28 (v := nI 14) hC hw hnx dX7_keep_5 ?_
  refine q_aald hC hw (i := 14) (by decide) dX7_keep_8 ?_
  refine lv_astore_n (lv' := [(1, .ref (a 44)), (0, .ref (a 68))]) hC.1 hC.2.1 dX7_keep_9 rfl hl (by decide) rfl (fun ls hl => ?_)
  refine lv_aload_n hC.1 hC.2.1 dX7_keep_10 rfl (lv_at hl 0 rfl) ?_
  refine lv_iconst (v := nI 0) hC.1 hC.2.1 dX7_keep_11 (by decide) ?_
  refine lv_aload_n hC.1 hC.2.1 dX7_keep_12 rfl (lv_at hl 1 rfl) ?_
  refine gf_X7_16 hC hw dX7_keep_13 ?_
  refine gf_X7_32 (v := σ 0 0) hC hw rfl dX7_keep_16 ?_
  refine q_ast (Wf := XW E a) 54 rfl (by decide) (XW_s44 _) hC hw (by omega) dX7_keep_19 (fun H locs hw => ?_)
  have hw : Wst E (XW E a) (sr σ 44 (upd (σ 44) 0 (σ 0 0))) A s.heap H locs := hw
  refine lv_aload_n hC.1 hC.2.1 dX7_keep_20 rfl (lv_at hl 0 rfl) ?_
  refine lv_iconst (v := nI 1) hC.1 hC.2.1 dX7_keep_21 (by decide) ?_
  refine lv_aload_n hC.1 hC.2.1 dX7_keep_22 rfl (lv_at hl 1 rfl) ?_
  refine gf_X7_20 hC hw dX7_keep_23 ?_
  refine gf_X7_37 (v := σ 0 1) hC hw rfl dX7_keep_26 ?_
  refine q_ast (Wf := XW E a) 54 rfl (by decide) (XW_s44 _) hC hw (by omega) dX7_keep_29 (fun H locs hw => ?_)
  have hw : Wst E (XW E a) (sr (sr σ 44 (upd (σ 44) 0 (σ 0 0))) 44 (upd (upd (σ 44) 0 (σ 0 0)) 1 (σ 0 1))) A s.heap H locs := hw
  have hst_ : sr (sr σ 44 (upd (σ 44) 0 (σ 0 0))) 44 (upd (upd (σ 44) 0 (σ 0 0)) 1 (σ 0 1)) = sr σ 44 (upd (upd (σ 44) 0 (σ 0 0)) 1 (σ 0 1)) := by
    funext j_ x_
    by_cases e0 : j_ = 0
    · subst e0
      rfl
    · by_cases e44 : j_ = 44
      · subst e44; rfl
      · simp only [sr, e0, e44, if_false]
  rw [hst_] at hw
  refine lv_aload_n hC.1 hC.2.1 dX7_keep_30 rfl (lv_at hl 0 rfl) ?_
  refine lv_iconst (v := nI 2) hC.1 hC.2.1 dX7_keep_31 (by decide) ?_
  refine lv_aload_n hC.1 hC.2.1 dX7_keep_32 rfl (lv_at hl 1 rfl) ?_
  refine gf_X7_20 hC hw dX7_keep_33 ?_
  refine gf_X7_40 (v := σ 0 2) hC hw rfl dX7_keep_36 ?_
  refine q_ast (Wf := XW E a) 54 rfl (by decide) (XW_s44 _) hC hw (by omega) dX7_keep_39 (fun H locs hw => ?_)
  have hw : Wst E (XW E a) (sr (sr σ 44 (upd (upd (σ 44) 0 (σ 0 0)) 1 (σ 0 1))) 44 (upd (upd (upd (σ 44) 0 (σ 0 0)) 1 (σ 0 1)) 2 (σ 0 2))) A s.heap H locs := hw
  have hst_ : sr (sr σ 44 (upd (upd (σ 44) 0 (σ 0 0)) 1 (σ 0 1))) 44 (upd (upd (upd (σ 44) 0 (σ 0 0)) 1 (σ 0 1)) 2 (σ 0 2)) = sr σ 44 (upd (upd (upd (σ 44) 0 (σ 0 0)) 1 (σ 0 1)) 2 (σ 0 2)) := by
    funext j_ x_
    by_cases e0 : j_ = 0
    · subst e0
      rfl
    · by_cases e44 : j_ = 44
      · subst e44; rfl
      · simp only [sr, e0, e44, if_false]
  rw [hst_] at hw
  refine lv_iconst (v := nI 3) hC.1 hC.2.1 dX7_keep_40 (by decide) ?_
  refine lv_istore_n (lv' := [(2, .int (nI 3)), (1, .ref (a 44)), (0, .ref (a 68))]) hC.1 hC.2.1 dX7_keep_41 rfl hl (by decide) rfl (fun ls hl => ?_)
  refine lv_aload_n hC.1 hC.2.1 dX7_keep_42 rfl (lv_at hl 2 rfl) ?_
  refine gf_X7_24 hC hw dX7_keep_43 ?_
  refine lv_iconst (v := nI 0) hC.1 hC.2.1 dX7_keep_46 (by decide) ?_
  refine lv_aload_n hC.1 hC.2.1 dX7_keep_47 rfl (lv_at hl 1 rfl) ?_
  refine lv_iload_n hC.1 hC.2.1 dX7_keep_48 rfl (lv_at hl 0 rfl) ?_
  refine lv_iconst (v := nI 3) hC.1 hC.2.1 dX7_keep_49 (by decide) ?_
  refine q_cpy (sp := 0) (dp := 3) (n := 3) 25 rfl 54 rfl (XW_s44 _) hC hw hl (by omega) (by omega) (by decide) (by decide) ⟨Nat.le_of_ble_eq_true rfl, Nat.le_of_ble_eq_true rfl⟩ wk2_182 dX7_keep_50 (fun H locs hw => ?_)
  have hw : Wst E (XW E a) (sr (sr σ 44 (upd (upd (upd (σ 44) 0 (σ 0 0)) 1 (σ 0 1)) 2 (σ 0 2))) 44 (va_cpy (σ 15) (upd (upd (upd (σ 44) 0 (σ 0 0)) 1 (σ 0 1)) 2 (σ 0 2)) 0 3 3)) A s.heap H locs := hw
  have hst_ : sr (sr σ 44 (upd (upd (upd (σ 44) 0 (σ 0 0)) 1 (σ 0 1)) 2 (σ 0 2))) 44 (va_cpy (σ 15) (upd (upd (upd (σ 44) 0 (σ 0 0)) 1 (σ 0 1)) 2 (σ 0 2)) 0 3 3) = sr σ 44 (va_cpy (σ 15) (upd (upd (upd (σ 44) 0 (σ 0 0)) 1 (σ 0 1)) 2 (σ 0 2)) 0 3 3) := by
    funext j_ x_
    by_cases e0 : j_ = 0
    · subst e0
      rfl
    · by_cases e44 : j_ = 44
      · subst e44; rfl
      · simp only [sr, e0, e44, if_false]
  rw [hst_] at hw
  refine lv_iinc (v := nI (3 + 3)) (lv' := [(2, .int (nI (3 + 3))), (1, .ref (a 44)), (0, .ref (a 68))]) hC.1 hC.2.1 dX7_keep_53 hl (k := 0) rfl (nI_add _ _) (by decide) rfl (fun ls hl => ?_)
  refine lv_iconst (v := nI 0) hC.1 hC.2.1 dX7_keep_56 (by decide) ?_
  refine lv_istore_n (lv' := [(3, .int (nI 0)), (2, .int (nI (3 + 3))), (1, .ref (a 44)), (0, .ref (a 68))]) hC.1 hC.2.1 dX7_keep_57 rfl hl (by decide) rfl (fun ls hl => ?_)
  have L58_0 : ∀ (n : Nat), ∀ (h : Nat), (h ≤ 10) → (10 - h) < n → ∀ (H : Heap) (locs : List Loc) (ls : Array Slot), Wst E (XW E a) (sr σ 44 (upc (σ 4) h (va_cpy (σ 15) (upd (upd (upd (σ 44) 0 (σ 0 0)) 1 (σ 0 1)) 2 (σ 0 2)) 0 3 3))) A s.heap H locs → lv_has ls 4 [(0, .ref (a 68)), (1, .ref (a 44)), (2, .int (nI (3 + 3))), (3, .int (nI h))] → W p l e ({ frames := 1, cells := 0, slots := 0, locals := 24 }) s m args below meth c H locs 0 0 Q (F0 m 58 ls []) := by
    intro n
    induction n with
    | zero => intro h hh hn; exact absurd hn (Nat.not_lt_zero _)
    | succ n ih58 =>
      intro h hh hn58 H locs ls hw hl
      refine lv_iload_n hC.1 hC.2.1 dX7_keep_58 rfl (lv_at hl 3 rfl) ?_
      refine lv_bipush (v := nI 10) hC.1 hC.2.1 dX7_keep_59 (by decide) ?_
      refine q_cmpge hC 92 (cNle (by omega) (by omega)) dX7_keep_61 (by decide) (fun (c2 : 10 ≤ h) => ?_) (fun (c2 : h < 10) => ?_)
      · have hh9 : h = 10 := by omega
        rw [hh9] at hw
        refine lv_iinc (v := nI (3 + 3 + 10)) (lv' := [(2, .int (nI (3 + 3 + 10))), (0, .ref (a 68)), (1, .ref (a 44)), (3, .int (nI h))]) hC.1 hC.2.1 dX7_keep_92 hl (k := 2) rfl (nI_add _ _) (by decide) rfl (fun ls hl => ?_)
        refine lv_aload_n hC.1 hC.2.1 dX7_keep_95 rfl (lv_at hl 1 rfl) ?_
        refine gf_X7_20 hC hw dX7_keep_96 ?_
        refine gf_X7_53 hC hw dX7_keep_99 ?_
        refine lv_iconst (v := nI 0) hC.1 hC.2.1 dX7_keep_102 (by decide) ?_
        refine lv_aload_n hC.1 hC.2.1 dX7_keep_103 rfl (lv_at hl 2 rfl) ?_
        refine lv_iload_n hC.1 hC.2.1 dX7_keep_104 rfl (lv_at hl 0 rfl) ?_
        refine lv_bipush (v := nI 24) hC.1 hC.2.1 dX7_keep_105 (by decide) ?_
        refine q_cpy (sp := 0) (dp := (3 + 3 + 10)) (n := 24) 21 rfl 54 rfl (XW_s44 _) hC hw hl (by omega) (by omega) (by decide) (by decide) ⟨Nat.le_of_ble_eq_true rfl, Nat.le_of_ble_eq_true rfl⟩ wk2_182 dX7_keep_107 (fun H locs hw => ?_)
        have hw : Wst E (XW E a) (sr (sr σ 44 (upc (σ 4) 10 (va_cpy (σ 15) (upd (upd (upd (σ 44) 0 (σ 0 0)) 1 (σ 0 1)) 2 (σ 0 2)) 0 3 3))) 44 (va_cpy (σ 11) (upc (σ 4) 10 (va_cpy (σ 15) (upd (upd (upd (σ 44) 0 (σ 0 0)) 1 (σ 0 1)) 2 (σ 0 2)) 0 3 3)) 0 (3 + 3 + 10) 24)) A s.heap H locs := hw
        have hst_ : sr (sr σ 44 (upc (σ 4) 10 (va_cpy (σ 15) (upd (upd (upd (σ 44) 0 (σ 0 0)) 1 (σ 0 1)) 2 (σ 0 2)) 0 3 3))) 44 (va_cpy (σ 11) (upc (σ 4) 10 (va_cpy (σ 15) (upd (upd (upd (σ 44) 0 (σ 0 0)) 1 (σ 0 1)) 2 (σ 0 2)) 0 3 3)) 0 (3 + 3 + 10) 24) = sr σ 44 (va_cpy (σ 11) (upc (σ 4) 10 (va_cpy (σ 15) (upd (upd (upd (σ 44) 0 (σ 0 0)) 1 (σ 0 1)) 2 (σ 0 2)) 0 3 3)) 0 (3 + 3 + 10) 24) := by
          funext j_ x_
          by_cases e0 : j_ = 0
          · subst e0
            rfl
          · by_cases e44 : j_ = 44
            · subst e44; rfl
            · simp only [sr, e0, e44, if_false]
        rw [hst_] at hw
        refine lv_aload_n hC.1 hC.2.1 dX7_keep_110 rfl (lv_at hl 1 rfl) ?_
        refine gf_X7_20 hC hw dX7_keep_111 ?_
        refine gf_X7_56 hC hw dX7_keep_114 ?_
        refine lv_iconst (v := nI 0) hC.1 hC.2.1 dX7_keep_117 (by decide) ?_
        refine lv_aload_n hC.1 hC.2.1 dX7_keep_118 rfl (lv_at hl 2 rfl) ?_
        refine lv_iload_n hC.1 hC.2.1 dX7_keep_119 rfl (lv_at hl 0 rfl) ?_
        refine lv_bipush (v := nI 24) hC.1 hC.2.1 dX7_keep_120 (by decide) ?_
        refine q_addN hC dX7_keep_122 ?_
        refine lv_bipush (v := nI 24) hC.1 hC.2.1 dX7_keep_123 (by decide) ?_
        refine q_cpy (sp := 0) (dp := ((3 + 3 + 10) + 24)) (n := 24) 22 rfl 54 rfl (XW_s44 _) hC hw hl (by omega) (by omega) (by decide) (by decide) ⟨Nat.le_of_ble_eq_true rfl, Nat.le_of_ble_eq_true rfl⟩ wk2_182 dX7_keep_125 (fun H locs hw => ?_)
        have hw : Wst E (XW E a) (sr (sr σ 44 (va_cpy (σ 11) (upc (σ 4) 10 (va_cpy (σ 15) (upd (upd (upd (σ 44) 0 (σ 0 0)) 1 (σ 0 1)) 2 (σ 0 2)) 0 3 3)) 0 (3 + 3 + 10) 24)) 44 (va_cpy (σ 12) (va_cpy (σ 11) (upc (σ 4) 10 (va_cpy (σ 15) (upd (upd (upd (σ 44) 0 (σ 0 0)) 1 (σ 0 1)) 2 (σ 0 2)) 0 3 3)) 0 (3 + 3 + 10) 24) 0 ((3 + 3 + 10) + 24) 24)) A s.heap H locs := hw
        have hst_ : sr (sr σ 44 (va_cpy (σ 11) (upc (σ 4) 10 (va_cpy (σ 15) (upd (upd (upd (σ 44) 0 (σ 0 0)) 1 (σ 0 1)) 2 (σ 0 2)) 0 3 3)) 0 (3 + 3 + 10) 24)) 44 (va_cpy (σ 12) (va_cpy (σ 11) (upc (σ 4) 10 (va_cpy (σ 15) (upd (upd (upd (σ 44) 0 (σ 0 0)) 1 (σ 0 1)) 2 (σ 0 2)) 0 3 3)) 0 (3 + 3 + 10) 24) 0 ((3 + 3 + 10) + 24) 24) = sr σ 44 (va_cpy (σ 12) (va_cpy (σ 11) (upc (σ 4) 10 (va_cpy (σ 15) (upd (upd (upd (σ 44) 0 (σ 0 0)) 1 (σ 0 1)) 2 (σ 0 2)) 0 3 3)) 0 (3 + 3 + 10) 24) 0 ((3 + 3 + 10) + 24) 24) := by
          funext j_ x_
          by_cases e0 : j_ = 0
          · subst e0
            rfl
          · by_cases e44 : j_ = 44
            · subst e44; rfl
            · simp only [sr, e0, e44, if_false]
        rw [hst_] at hw
        refine lv_aload_n hC.1 hC.2.1 dX7_keep_128 rfl (lv_at hl 1 rfl) ?_
        refine gf_X7_20 hC hw dX7_keep_129 ?_
        refine gf_X7_59 hC hw dX7_keep_132 ?_
        refine lv_iconst (v := nI 0) hC.1 hC.2.1 dX7_keep_135 (by decide) ?_
        refine lv_aload_n hC.1 hC.2.1 dX7_keep_136 rfl (lv_at hl 2 rfl) ?_
        refine lv_iload_n hC.1 hC.2.1 dX7_keep_137 rfl (lv_at hl 0 rfl) ?_
        refine lv_bipush (v := nI 48) hC.1 hC.2.1 dX7_keep_138 (by decide) ?_
        refine q_addN hC dX7_keep_140 ?_
        refine lv_bipush (v := nI 24) hC.1 hC.2.1 dX7_keep_141 (by decide) ?_
        refine q_cpy (sp := 0) (dp := ((3 + 3 + 10) + 48)) (n := 24) 23 rfl 54 rfl (XW_s44 _) hC hw hl (by omega) (by omega) (by decide) (by decide) ⟨Nat.le_of_ble_eq_true rfl, Nat.le_of_ble_eq_true rfl⟩ wk2_182 dX7_keep_143 (fun H locs hw => ?_)
        have hw : Wst E (XW E a) (sr (sr σ 44 (va_cpy (σ 12) (va_cpy (σ 11) (upc (σ 4) 10 (va_cpy (σ 15) (upd (upd (upd (σ 44) 0 (σ 0 0)) 1 (σ 0 1)) 2 (σ 0 2)) 0 3 3)) 0 (3 + 3 + 10) 24) 0 ((3 + 3 + 10) + 24) 24)) 44 (va_cpy (σ 13) (va_cpy (σ 12) (va_cpy (σ 11) (upc (σ 4) 10 (va_cpy (σ 15) (upd (upd (upd (σ 44) 0 (σ 0 0)) 1 (σ 0 1)) 2 (σ 0 2)) 0 3 3)) 0 (3 + 3 + 10) 24) 0 ((3 + 3 + 10) + 24) 24) 0 ((3 + 3 + 10) + 48) 24)) A s.heap H locs := hw
        have hst_ : sr (sr σ 44 (va_cpy (σ 12) (va_cpy (σ 11) (upc (σ 4) 10 (va_cpy (σ 15) (upd (upd (upd (σ 44) 0 (σ 0 0)) 1 (σ 0 1)) 2 (σ 0 2)) 0 3 3)) 0 (3 + 3 + 10) 24) 0 ((3 + 3 + 10) + 24) 24)) 44 (va_cpy (σ 13) (va_cpy (σ 12) (va_cpy (σ 11) (upc (σ 4) 10 (va_cpy (σ 15) (upd (upd (upd (σ 44) 0 (σ 0 0)) 1 (σ 0 1)) 2 (σ 0 2)) 0 3 3)) 0 (3 + 3 + 10) 24) 0 ((3 + 3 + 10) + 24) 24) 0 ((3 + 3 + 10) + 48) 24) = sr σ 44 (va_cpy (σ 13) (va_cpy (σ 12) (va_cpy (σ 11) (upc (σ 4) 10 (va_cpy (σ 15) (upd (upd (upd (σ 44) 0 (σ 0 0)) 1 (σ 0 1)) 2 (σ 0 2)) 0 3 3)) 0 (3 + 3 + 10) 24) 0 ((3 + 3 + 10) + 24) 24) 0 ((3 + 3 + 10) + 48) 24) := by
          funext j_ x_
          by_cases e0 : j_ = 0
          · subst e0
            rfl
          · by_cases e44 : j_ = 44
            · subst e44; rfl
            · simp only [sr, e0, e44, if_false]
        rw [hst_] at hw
        refine lv_aload_n hC.1 hC.2.1 dX7_keep_146 rfl (lv_at hl 1 rfl) ?_
        refine gf_X7_20 hC hw dX7_keep_147 ?_
        refine gf_X7_62 hC hw dX7_keep_150 ?_
        refine lv_iconst (v := nI 0) hC.1 hC.2.1 dX7_keep_153 (by decide) ?_
        refine lv_aload_n hC.1 hC.2.1 dX7_keep_154 rfl (lv_at hl 2 rfl) ?_
        refine lv_iload_n hC.1 hC.2.1 dX7_keep_155 rfl (lv_at hl 0 rfl) ?_
        refine lv_bipush (v := nI 72) hC.1 hC.2.1 dX7_keep_156 (by decide) ?_
        refine q_addN hC dX7_keep_158 ?_
        refine lv_bipush (v := nI 24) hC.1 hC.2.1 dX7_keep_159 (by decide) ?_
        refine q_cpy (sp := 0) (dp := ((3 + 3 + 10) + 72)) (n := 24) 24 rfl 54 rfl (XW_s44 _) hC hw hl (by omega) (by omega) (by decide) (by decide) ⟨Nat.le_of_ble_eq_true rfl, Nat.le_of_ble_eq_true rfl⟩ wk2_182 dX7_keep_161 (fun H locs hw => ?_)
        have hw : Wst E (XW E a) (sr (sr σ 44 (va_cpy (σ 13) (va_cpy (σ 12) (va_cpy (σ 11) (upc (σ 4) 10 (va_cpy (σ 15) (upd (upd (upd (σ 44) 0 (σ 0 0)) 1 (σ 0 1)) 2 (σ 0 2)) 0 3 3)) 0 (3 + 3 + 10) 24) 0 ((3 + 3 + 10) + 24) 24) 0 ((3 + 3 + 10) + 48) 24)) 44 (va_cpy (σ 14) (va_cpy (σ 13) (va_cpy (σ 12) (va_cpy (σ 11) (upc (σ 4) 10 (va_cpy (σ 15) (upd (upd (upd (σ 44) 0 (σ 0 0)) 1 (σ 0 1)) 2 (σ 0 2)) 0 3 3)) 0 (3 + 3 + 10) 24) 0 ((3 + 3 + 10) + 24) 24) 0 ((3 + 3 + 10) + 48) 24) 0 ((3 + 3 + 10) + 72) 24)) A s.heap H locs := hw
        have hst_ : sr (sr σ 44 (va_cpy (σ 13) (va_cpy (σ 12) (va_cpy (σ 11) (upc (σ 4) 10 (va_cpy (σ 15) (upd (upd (upd (σ 44) 0 (σ 0 0)) 1 (σ 0 1)) 2 (σ 0 2)) 0 3 3)) 0 (3 + 3 + 10) 24) 0 ((3 + 3 + 10) + 24) 24) 0 ((3 + 3 + 10) + 48) 24)) 44 (va_cpy (σ 14) (va_cpy (σ 13) (va_cpy (σ 12) (va_cpy (σ 11) (upc (σ 4) 10 (va_cpy (σ 15) (upd (upd (upd (σ 44) 0 (σ 0 0)) 1 (σ 0 1)) 2 (σ 0 2)) 0 3 3)) 0 (3 + 3 + 10) 24) 0 ((3 + 3 + 10) + 24) 24) 0 ((3 + 3 + 10) + 48) 24) 0 ((3 + 3 + 10) + 72) 24) = sr σ 44 (va_cpy (σ 14) (va_cpy (σ 13) (va_cpy (σ 12) (va_cpy (σ 11) (upc (σ 4) 10 (va_cpy (σ 15) (upd (upd (upd (σ 44) 0 (σ 0 0)) 1 (σ 0 1)) 2 (σ 0 2)) 0 3 3)) 0 (3 + 3 + 10) 24) 0 ((3 + 3 + 10) + 24) 24) 0 ((3 + 3 + 10) + 48) 24) 0 ((3 + 3 + 10) + 72) 24) := by
          funext j_ x_
          by_cases e0 : j_ = 0
          · subst e0
            rfl
          · by_cases e44 : j_ = 44
            · subst e44; rfl
            · simp only [sr, e0, e44, if_false]
        rw [hst_] at hw
        refine lv_aload_n hC.1 hC.2.1 dX7_keep_164 rfl (lv_at hl 1 rfl) ?_
        refine lv_aload_n hC.1 hC.2.1 dX7_keep_165 rfl (lv_at hl 1 rfl) ?_
        refine gf_X7_28 (v := nI 14) hC hw hnx dX7_keep_166 ?_
        refine lv_bipush (v := nI 29) hC.1 hC.2.1 dX7_keep_169 (by decide) ?_
        have J184_4 : ∀ (w3 : Nat), w3 = (if 14 ≠ 29 then (14 + 1) else 0) → ∀ (H : Heap) (locs : List Loc) (ls : Array Slot), Wst E (XW E a) (sr σ 44 (va_cpy (σ 14) (va_cpy (σ 13) (va_cpy (σ 12) (va_cpy (σ 11) (upc (σ 4) 10 (va_cpy (σ 15) (upd (upd (upd (σ 44) 0 (σ 0 0)) 1 (σ 0 1)) 2 (σ 0 2)) 0 3 3)) 0 (3 + 3 + 10) 24) 0 ((3 + 3 + 10) + 24) 24) 0 ((3 + 3 + 10) + 48) 24) 0 ((3 + 3 + 10) + 72) 24)) A s.heap H locs → lv_has ls 4 [(0, .ref (a 68)), (1, .ref (a 44)), (2, .int (nI (3 + 3 + 10))), (3, .int (nI h))] → W p l e ({ frames := 1, cells := 0, slots := 0, locals := 24 }) s m args below meth c H locs 0 0 Q (F0 m 184 ls [.int (nI w3), .ref (a 68)]) := by
          intro w3 e4 H locs ls hw hl
          subst e4
          refine pf_X7_28 hC hw dX7_keep_184 (fun H locs hw => ?_)
          have hw : Wst E (XW E a) (sr (sr σ 44 (va_cpy (σ 14) (va_cpy (σ 13) (va_cpy (σ 12) (va_cpy (σ 11) (upc (σ 4) 10 (va_cpy (σ 15) (upd (upd (upd (σ 44) 0 (σ 0 0)) 1 (σ 0 1)) 2 (σ 0 2)) 0 3 3)) 0 (3 + 3 + 10) 24) 0 ((3 + 3 + 10) + 24) 24) 0 ((3 + 3 + 10) + 48) 24) 0 ((3 + 3 + 10) + 72) 24)) 0 (upd (σ 0) 3 (nI (if 14 ≠ 29 then (14 + 1) else 0)))) A s.heap H locs := hw
          refine lv_aload_n hC.1 hC.2.1 dX7_keep_187 rfl (lv_at hl 0 rfl) ?_
          refine lv_aload_n hC.1 hC.2.1 dX7_keep_188 rfl (lv_at hl 0 rfl) ?_
          refine gf_X7_65 (v := nI kp) hC hw hkp dX7_keep_189 ?_
          refine lv_bipush (v := nI 30) hC.1 hC.2.1 dX7_keep_192 (by decide) ?_
          have J210_6 : ∀ (w5 : Nat), w5 = (if kp ≠ 30 then (kp + 1) else kp) → ∀ (H : Heap) (locs : List Loc) (ls : Array Slot), Wst E (XW E a) (sr (sr σ 44 (va_cpy (σ 14) (va_cpy (σ 13) (va_cpy (σ 12) (va_cpy (σ 11) (upc (σ 4) 10 (va_cpy (σ 15) (upd (upd (upd (σ 44) 0 (σ 0 0)) 1 (σ 0 1)) 2 (σ 0 2)) 0 3 3)) 0 (3 + 3 + 10) 24) 0 ((3 + 3 + 10) + 24) 24) 0 ((3 + 3 + 10) + 48) 24) 0 ((3 + 3 + 10) + 72) 24)) 0 (upd (σ 0) 3 (nI (if 14 ≠ 29 then (14 + 1) else 0)))) A s.heap H locs → lv_has ls 4 [(0, .ref (a 68)), (1, .ref (a 44)), (2, .int (nI (3 + 3 + 10))), (3, .int (nI h))] → W p l e ({ frames := 1, cells := 0, slots := 0, locals := 24 }) s m args below meth c H locs 0 0 Q (F0 m 210 ls [.int (nI w5), .ref (a 68)]) := by
            intro w5 e6 H locs ls hw hl
            subst e6
            refine pf_X7_65 hC hw dX7_keep_210 (fun H locs hw => ?_)
            have hw : Wst E (XW E a) (sr (sr (sr σ 44 (va_cpy (σ 14) (va_cpy (σ 13) (va_cpy (σ 12) (va_cpy (σ 11) (upc (σ 4) 10 (va_cpy (σ 15) (upd (upd (upd (σ 44) 0 (σ 0 0)) 1 (σ 0 1)) 2 (σ 0 2)) 0 3 3)) 0 (3 + 3 + 10) 24) 0 ((3 + 3 + 10) + 24) 24) 0 ((3 + 3 + 10) + 48) 24) 0 ((3 + 3 + 10) + 72) 24)) 0 (upd (σ 0) 3 (nI (if 14 ≠ 29 then (14 + 1) else 0)))) 0 (upd (upd (σ 0) 3 (nI (if 14 ≠ 29 then (14 + 1) else 0))) 4 (nI (if kp ≠ 30 then (kp + 1) else kp)))) A s.heap H locs := hw
            have hst_ : sr (sr (sr σ 44 (va_cpy (σ 14) (va_cpy (σ 13) (va_cpy (σ 12) (va_cpy (σ 11) (upc (σ 4) 10 (va_cpy (σ 15) (upd (upd (upd (σ 44) 0 (σ 0 0)) 1 (σ 0 1)) 2 (σ 0 2)) 0 3 3)) 0 (3 + 3 + 10) 24) 0 ((3 + 3 + 10) + 24) 24) 0 ((3 + 3 + 10) + 48) 24) 0 ((3 + 3 + 10) + 72) 24)) 0 (upd (σ 0) 3 (nI (if 14 ≠ 29 then (14 + 1) else 0)))) 0 (upd (upd (σ 0) 3 (nI (if 14 ≠ 29 then (14 + 1) else 0))) 4 (nI (if kp ≠ 30 then (kp + 1) else kp))) = sr (sr σ 44 (va_cpy (σ 14) (va_cpy (σ 13) (va_cpy (σ 12) (va_cpy (σ 11) (upc (σ 4) 10 (va_cpy (σ 15) (upd (upd (upd (σ 44) 0 (σ 0 0)) 1 (σ 0 1)) 2 (σ 0 2)) 0 3 3)) 0 (3 + 3 + 10) 24) 0 ((3 + 3 + 10) + 24) 24) 0 ((3 + 3 + 10) + 48) 24) 0 ((3 + 3 + 10) + 72) 24)) 0 (upd (upd (σ 0) 3 (nI (if 14 ≠ 29 then (14 + 1) else 0))) 4 (nI (if kp ≠ 30 then (kp + 1) else kp))) := by
              funext j_ x_
              by_cases e0 : j_ = 0
              · subst e0
                by_cases y3 : x_ = 3
                · subst y3; rfl
                · by_cases y4 : x_ = 4
                  · subst y4; rfl
                  · simp [sr, upd, y3, y4]
              · by_cases e44 : j_ = 44
                · subst e44; rfl
                · simp only [sr, e0, e44, if_false]
            rw [hst_] at hw
            refine hret _ _ _ _ _ hw ?_ dX7_keep_213
            exact rfl
          refine q_cmpne hC 204 (cNeq (by omega) (by omega)) dX7_keep_194 (by decide) (fun (c7 : kp ≠ 30) => ?_) (fun (c7 : kp = 30) => ?_)
          · refine lv_aload_n hC.1 hC.2.1 dX7_keep_204 rfl (lv_at hl 0 rfl) ?_
            refine gf_X7_65 (v := nI kp) hC hw hkp dX7_keep_205 ?_
            refine lv_iconst (v := nI 1) hC.1 hC.2.1 dX7_keep_208 (by decide) ?_
            refine q_addN hC dX7_keep_209 ?_
            exact J210_6 _ (by (rw [if_pos c7]) <;> rfl) _ _ _ hw (lv_sub hl [0, 1, 2, 3] rfl)
          · refine lv_aload_n hC.1 hC.2.1 dX7_keep_197 rfl (lv_at hl 0 rfl) ?_
            refine gf_X7_65 (v := nI kp) hC hw hkp dX7_keep_198 ?_
            refine lv_goto (tgt := 210) hC.1 hC.2.1 dX7_keep_201 (by decide) ?_
            exact J210_6 _ (by (rw [if_neg (fun q => q c7)]) <;> rfl) _ _ _ hw (lv_sub hl [0, 1, 2, 3] rfl)
        refine q_cmpne hC 178 (cNeq (by omega) (by omega)) dX7_keep_171 (by decide) (fun (c8 : 14 ≠ 29) => ?_) (fun (c8 : 14 = 29) => ?_)
        · refine lv_aload_n hC.1 hC.2.1 dX7_keep_178 rfl (lv_at hl 1 rfl) ?_
          refine gf_X7_28 (v := nI 14) hC hw hnx dX7_keep_179 ?_
          refine lv_iconst (v := nI 1) hC.1 hC.2.1 dX7_keep_182 (by decide) ?_
          refine q_addN hC dX7_keep_183 ?_
          exact J184_4 _ (by (rw [if_pos c8]) <;> rfl) _ _ _ hw (lv_sub hl [1, 2, 0, 3] rfl)
        · refine lv_iconst (v := nI 0) hC.1 hC.2.1 dX7_keep_174 (by decide) ?_
          refine lv_goto (tgt := 184) hC.1 hC.2.1 dX7_keep_175 (by decide) ?_
          exact J184_4 _ (by (rw [if_neg (fun q => q c8)]) <;> rfl) _ _ _ hw (lv_sub hl [1, 2, 0, 3] rfl)
      · refine lv_aload_n hC.1 hC.2.1 dX7_keep_64 rfl (lv_at hl 1 rfl) ?_
        refine lv_iload_n hC.1 hC.2.1 dX7_keep_65 rfl (lv_at hl 2 rfl) ?_
        refine lv_iload_n hC.1 hC.2.1 dX7_keep_66 rfl (lv_at hl 3 rfl) ?_
        refine q_addN hC dX7_keep_67 ?_
        refine lv_aload_n hC.1 hC.2.1 dX7_keep_68 rfl (lv_at hl 0 rfl) ?_
        refine gf_X7_16 hC hw dX7_keep_69 ?_
        refine gf_X7_49 hC hw dX7_keep_72 ?_
        refine lv_iload_n hC.1 hC.2.1 dX7_keep_75 rfl (lv_at hl 3 rfl) ?_
        refine al_X4 (v := σ 4 h) hC hw (by omega) rfl dX7_keep_76 ?_
        have J85_10 : ∀ (w9 : Int32), w9 = (if ¬ (σ 4 h = 0) then (1 : Int32) else 0) → ∀ (H : Heap) (locs : List Loc) (ls : Array Slot), Wst E (XW E a) (sr σ 44 (upc (σ 4) h (va_cpy (σ 15) (upd (upd (upd (σ 44) 0 (σ 0 0)) 1 (σ 0 1)) 2 (σ 0 2)) 0 3 3))) A s.heap H locs → lv_has ls 4 [(0, .ref (a 68)), (1, .ref (a 44)), (2, .int (nI (3 + 3))), (3, .int (nI h))] → W p l e ({ frames := 1, cells := 0, slots := 0, locals := 24 }) s m args below meth c H locs 0 0 Q (F0 m 85 ls [.int (w9), .int (nI ((3 + 3) + h)), .ref (a 44)]) := by
          intro w9 e10 H locs ls hw hl
          subst e10
          refine q_ast (Wf := XW E a) 54 rfl (by decide) (XW_s44 _) hC hw (by omega) dX7_keep_85 (fun H locs hw => ?_)
          have hw : Wst E (XW E a) (sr (sr σ 44 (upc (σ 4) h (va_cpy (σ 15) (upd (upd (upd (σ 44) 0 (σ 0 0)) 1 (σ 0 1)) 2 (σ 0 2)) 0 3 3))) 44 (upd (upc (σ 4) h (va_cpy (σ 15) (upd (upd (upd (σ 44) 0 (σ 0 0)) 1 (σ 0 1)) 2 (σ 0 2)) 0 3 3)) ((3 + 3) + h) (if ¬ (σ 4 h = 0) then (1 : Int32) else 0))) A s.heap H locs := hw
          have hst_ : sr (sr σ 44 (upc (σ 4) h (va_cpy (σ 15) (upd (upd (upd (σ 44) 0 (σ 0 0)) 1 (σ 0 1)) 2 (σ 0 2)) 0 3 3))) 44 (upd (upc (σ 4) h (va_cpy (σ 15) (upd (upd (upd (σ 44) 0 (σ 0 0)) 1 (σ 0 1)) 2 (σ 0 2)) 0 3 3)) ((3 + 3) + h) (if ¬ (σ 4 h = 0) then (1 : Int32) else 0)) = sr σ 44 (upd (upc (σ 4) h (va_cpy (σ 15) (upd (upd (upd (σ 44) 0 (σ 0 0)) 1 (σ 0 1)) 2 (σ 0 2)) 0 3 3)) ((3 + 3) + h) (if ¬ (σ 4 h = 0) then (1 : Int32) else 0)) := by
            funext j_ x_
            by_cases e0 : j_ = 0
            · subst e0
              rfl
            · by_cases e44 : j_ = 44
              · subst e44; rfl
              · simp only [sr, e0, e44, if_false]
          rw [hst_] at hw
          refine lv_iinc (v := nI (h + 1)) (lv' := [(3, .int (nI (h + 1))), (0, .ref (a 68)), (1, .ref (a 44)), (2, .int (nI (3 + 3)))]) hC.1 hC.2.1 dX7_keep_86 hl (k := 3) rfl (nI_add _ _) (by decide) rfl (fun ls hl => ?_)
          refine lv_goto (tgt := 58) hC.1 hC.2.1 dX7_keep_89 (by decide) ?_
          rw [upc_s] at hw
          exact ih58 (h + 1) (by omega) (by omega) _ _ _ hw (lv_sub hl [1, 2, 3, 0] rfl)
        refine q_ifeq hC 84 cI dX7_keep_77 (by decide) (fun (c11 : σ 4 h = 0) => ?_) (fun (c11 : ¬ (σ 4 h = 0)) => ?_)
        · refine lv_iconst (v := nI 0) hC.1 hC.2.1 dX7_keep_84 (by decide) ?_
          exact J85_10 _ (if_neg (fun q => q c11)).symm _ _ _ hw (lv_sub hl [0, 1, 2, 3] rfl)
        · refine lv_iconst (v := nI 1) hC.1 hC.2.1 dX7_keep_80 (by decide) ?_
          refine lv_goto (tgt := 85) hC.1 hC.2.1 dX7_keep_81 (by decide) ?_
          exact J85_10 _ (if_pos c11).symm _ _ _ hw (lv_sub hl [0, 1, 2, 3] rfl)
  rw [← upc_0 (σ 4) (va_cpy (σ 15) (upd (upd (upd (σ 44) 0 (σ 0 0)) 1 (σ 0 1)) 2 (σ 0 2)) 0 3 3)] at hw
  exact L58_0 _ 0 (by omega) (Nat.lt_succ_self _) _ _ _ hw (lv_sub hl [3, 2, 1, 0] rfl)
