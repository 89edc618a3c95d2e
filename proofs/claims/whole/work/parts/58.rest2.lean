set_option maxHeartbeats 4000000 in
set_option maxRecDepth 100000 in
theorem tX7_restore_k15 (l : Launch) (E : EV) (a : Nat → Nat) (σ : St) (kp : Nat) (hnx : σ 0 3 = nI 15) (hkp : σ 0 4 = nI kp) (hk30 : kp ≤ 30) (hk1 : 1 ≤ kp) : MV l E (XW E a) yX7_restore (Cond.code yX7_restore cX7_restore 4 none) ({ frames := 1, cells := 0, slots := 0, locals := 24 }) [.ref (a 68)] σ (fun u_ => u_ = sr (sr (sr (sr (sr (sr (sr σ 4 (upr (σ 44) 10 (σ 4))) 11 (va_cpy (σ 44) (σ 11) 16 0 24)) 12 (va_cpy (σ 44) (σ 12) 40 0 24)) 13 (va_cpy (σ 44) (σ 13) 64 0 24)) 14 (va_cpy (σ 44) (σ 14) 88 0 24)) 15 (va_cpy (σ 44) (σ 15) 3 0 3)) 0 (upd (upd (upd (upd (upd (σ 0) 0 ((σ 44) 0)) 1 ((σ 44) 1)) 2 ((σ 44) 2)) 3 (nI (if 15 ≠ 0 then 15 - 1 else 29))) 4 (nI (kp - 1)))) := by
  refine MV.mk (by decide +kernel) (Nat.le_of_ble_eq_true rfl) ?_
  intro p e s m args below meth c ls A Q hret hC hw hl
  have hC : Cxt E p s m args meth c cX7_restore 4 none RX7 A := hC
  have hl : lv_has ls 4 [(0, .ref (a 68))] := hl
  refine lv_aload_n hC.1 hC.2.1 dX7_restore_0 rfl (lv_at hl 0 rfl) ?_
  refine lv_aload_n hC.1 hC.2.1 dX7_restore_1 rfl (lv_at hl 0 rfl) ?_
  refine gf_X7_28 (v := nI 15) hC hw hnx dX7_restore_2 ?_
  have J19_2 : ∀ (w1 : Nat), w1 = (if 15 ≠ 0 then (15 - 1) else 29) → ∀ (H : Heap) (locs : List Loc) (ls : Array Slot), Wst E (XW E a) (σ) A s.heap H locs → lv_has ls 4 [(0, .ref (a 68))] → W p l e ({ frames := 1, cells := 0, slots := 0, locals := 24 }) s m args below meth c H locs 0 0 Q (F0 m 19 ls [.int (nI w1), .ref (a 68)]) := by
    intro w1 e2 H locs ls hw hl
    subst e2
    refine pf_X7_28 hC hw dX7_restore_19 (fun H locs hw => ?_)
    have hw : Wst E (XW E a) (sr σ 0 (upd (σ 0) 3 (nI (if 15 ≠ 0 then (15 - 1) else 29)))) A s.heap H locs := hw
    refine lv_aload_n hC.1 hC.2.1 dX7_restore_22 rfl (lv_at hl 0 rfl) ?_
    refine lv_dup hC.1 hC.2.1 dX7_restore_23 rfl ?_
    refine gf_X7_65 (v := nI kp) hC hw hkp dX7_restore_24 ?_
    refine lv_iconst (v := nI 1) hC.1 hC.2.1 dX7_restore_27 (by decide) ?_
    refine q_subN hC (by omega) dX7_restore_28 ?_
    refine pf_X7_65 hC hw dX7_restore_29 (fun H locs hw => ?_)
    have hw : Wst E (XW E a) (sr (sr σ 0 (upd (σ 0) 3 (nI (if 15 ≠ 0 then (15 - 1) else 29)))) 0 (upd (upd (σ 0) 3 (nI (if 15 ≠ 0 then (15 - 1) else 29))) 4 (nI (kp - 1)))) A s.heap H locs := hw
    have hst_ : sr (sr σ 0 (upd (σ 0) 3 (nI (if 15 ≠ 0 then (15 - 1) else 29)))) 0 (upd (upd (σ 0) 3 (nI (if 15 ≠ 0 then (15 - 1) else 29))) 4 (nI (kp - 1))) = sr σ 0 (upd (upd (σ 0) 3 (nI (if 15 ≠ 0 then (15 - 1) else 29))) 4 (nI (kp - 1))) := by
      funext j_ x_
      by_cases e0 : j_ = 0
      · subst e0
        by_cases y3 : x_ = 3
        · subst y3; rfl
        · by_cases y4 : x_ = 4
          · subst y4; rfl
          · simp [sr, upd, y3, y4]
      · simp only [sr, e0, if_false]
    rw [hst_] at hw
    refine lv_aload_n hC.1 hC.2.1 dX7_restore_32 rfl (lv_at hl 0 rfl) ?_
    refine gf_X7_13 hC hw dX7_restore_33 ?_
    refine lv_aload_n hC.1 hC.2.1 dX7_restore_36 rfl (lv_at hl 0 rfl) ?_
    refine gf_X7_28 (v := nI (if 15 ≠ 0 then (15 - 1) else 29)) hC hw rfl dX7_restore_37 ?_
    refine q_top (y := nI 14) rfl ?_
    refine q_aald hC hw (i := 14) (by decide) dX7_restore_40 ?_
    refine lv_astore_n (lv' := [(1, .ref (a 44)), (0, .ref (a 68))]) hC.1 hC.2.1 dX7_restore_41 rfl hl (by decide) rfl (fun ls hl => ?_)
    refine lv_aload_n hC.1 hC.2.1 dX7_restore_42 rfl (lv_at hl 1 rfl) ?_
    refine gf_X7_16 hC hw dX7_restore_43 ?_
    refine lv_aload_n hC.1 hC.2.1 dX7_restore_46 rfl (lv_at hl 0 rfl) ?_
    refine lv_iconst (v := nI 0) hC.1 hC.2.1 dX7_restore_47 (by decide) ?_
    refine q_ald (Wf := XW E a) (v := σ 44 0) 54 rfl (by decide) hC hw (by omega) rfl dX7_restore_48 ?_
    refine pf_X7_32 hC hw dX7_restore_49 (fun H locs hw => ?_)
    have hw : Wst E (XW E a) (sr (sr σ 0 (upd (upd (σ 0) 3 (nI (if 15 ≠ 0 then (15 - 1) else 29))) 4 (nI (kp - 1)))) 0 (upd (upd (upd (σ 0) 3 (nI (if 15 ≠ 0 then (15 - 1) else 29))) 4 (nI (kp - 1))) 0 (σ 44 0))) A s.heap H locs := hw
    have hst_ : sr (sr σ 0 (upd (upd (σ 0) 3 (nI (if 15 ≠ 0 then (15 - 1) else 29))) 4 (nI (kp - 1)))) 0 (upd (upd (upd (σ 0) 3 (nI (if 15 ≠ 0 then (15 - 1) else 29))) 4 (nI (kp - 1))) 0 (σ 44 0)) = sr σ 0 (upd (upd (upd (σ 0) 0 (σ 44 0)) 3 (nI (if 15 ≠ 0 then (15 - 1) else 29))) 4 (nI (kp - 1))) := by
      funext j_ x_
      by_cases e0 : j_ = 0
      · subst e0
        by_cases y0 : x_ = 0
        · subst y0; rfl
        · by_cases y3 : x_ = 3
          · subst y3; rfl
          · by_cases y4 : x_ = 4
            · subst y4; rfl
            · simp [sr, upd, y0, y3, y4]
      · simp only [sr, e0, if_false]
    rw [hst_] at hw
    refine lv_aload_n hC.1 hC.2.1 dX7_restore_52 rfl (lv_at hl 1 rfl) ?_
    refine gf_X7_20 hC hw dX7_restore_53 ?_
    refine lv_aload_n hC.1 hC.2.1 dX7_restore_56 rfl (lv_at hl 0 rfl) ?_
    refine lv_iconst (v := nI 1) hC.1 hC.2.1 dX7_restore_57 (by decide) ?_
    refine q_ald (Wf := XW E a) (v := σ 44 1) 54 rfl (by decide) hC hw (by omega) rfl dX7_restore_58 ?_
    refine pf_X7_37 hC hw dX7_restore_59 (fun H locs hw => ?_)
    have hw : Wst E (XW E a) (sr (sr σ 0 (upd (upd (upd (σ 0) 0 (σ 44 0)) 3 (nI (if 15 ≠ 0 then (15 - 1) else 29))) 4 (nI (kp - 1)))) 0 (upd (upd (upd (upd (σ 0) 0 (σ 44 0)) 3 (nI (if 15 ≠ 0 then (15 - 1) else 29))) 4 (nI (kp - 1))) 1 (σ 44 1))) A s.heap H locs := hw
    have hst_ : sr (sr σ 0 (upd (upd (upd (σ 0) 0 (σ 44 0)) 3 (nI (if 15 ≠ 0 then (15 - 1) else 29))) 4 (nI (kp - 1)))) 0 (upd (upd (upd (upd (σ 0) 0 (σ 44 0)) 3 (nI (if 15 ≠ 0 then (15 - 1) else 29))) 4 (nI (kp - 1))) 1 (σ 44 1)) = sr σ 0 (upd (upd (upd (upd (σ 0) 0 (σ 44 0)) 1 (σ 44 1)) 3 (nI (if 15 ≠ 0 then (15 - 1) else 29))) 4 (nI (kp - 1))) := by
      funext j_ x_
      by_cases e0 : j_ = 0
      · subst e0
        by_cases y0 : x_ = 0
        · subst y0; rfl
        · by_cases y1 : x_ = 1
          · subst y1; rfl
          · by_cases y3 : x_ = 3
            · subst y3; rfl
            · by_cases y4 : x_ = 4
              · subst y4; rfl
              · simp [sr, upd, y0, y1, y3, y4]
      · simp only [sr, e0, if_false]
    rw [hst_] at hw
    refine lv_aload_n hC.1 hC.2.1 dX7_restore_62 rfl (lv_at hl 1 rfl) ?_
    refine gf_X7_20 hC hw dX7_restore_63 ?_
    refine lv_aload_n hC.1 hC.2.1 dX7_restore_66 rfl (lv_at hl 0 rfl) ?_
    refine lv_iconst (v := nI 2) hC.1 hC.2.1 dX7_restore_67 (by decide) ?_
    refine q_ald (Wf := XW E a) (v := σ 44 2) 54 rfl (by decide) hC hw (by omega) rfl dX7_restore_68 ?_
    refine pf_X7_40 hC hw dX7_restore_69 (fun H locs hw => ?_)
    have hw : Wst E (XW E a) (sr (sr σ 0 (upd (upd (upd (upd (σ 0) 0 (σ 44 0)) 1 (σ 44 1)) 3 (nI (if 15 ≠ 0 then (15 - 1) else 29))) 4 (nI (kp - 1)))) 0 (upd (upd (upd (upd (upd (σ 0) 0 (σ 44 0)) 1 (σ 44 1)) 3 (nI (if 15 ≠ 0 then (15 - 1) else 29))) 4 (nI (kp - 1))) 2 (σ 44 2))) A s.heap H locs := hw
    have hst_ : sr (sr σ 0 (upd (upd (upd (upd (σ 0) 0 (σ 44 0)) 1 (σ 44 1)) 3 (nI (if 15 ≠ 0 then (15 - 1) else 29))) 4 (nI (kp - 1)))) 0 (upd (upd (upd (upd (upd (σ 0) 0 (σ 44 0)) 1 (σ 44 1)) 3 (nI (if 15 ≠ 0 then (15 - 1) else 29))) 4 (nI (kp - 1))) 2 (σ 44 2)) = sr σ 0 (upd (upd (upd (upd (upd (σ 0) 0 (σ 44 0)) 1 (σ 44 1)) 2 (σ 44 2)) 3 (nI (if 15 ≠ 0 then (15 - 1) else 29))) 4 (nI (kp - 1))) := by
      funext j_ x_
      by_cases e0 : j_ = 0
      · subst e0
        by_cases y0 : x_ = 0
        · subst y0; rfl
        · by_cases y1 : x_ = 1
          · subst y1; rfl
          · by_cases y2 : x_ = 2
            · subst y2; rfl
            · by_cases y3 : x_ = 3
              · subst y3; rfl
              · by_cases y4 : x_ = 4
                · subst y4; rfl
                · simp [sr, upd, y0, y1, y2, y3, y4]
      · simp only [sr, e0, if_false]
    rw [hst_] at hw
    refine lv_iconst (v := nI 3) hC.1 hC.2.1 dX7_restore_72 (by decide) ?_
    refine lv_istore_n (lv' := [(2, .int (nI 3)), (1, .ref (a 44)), (0, .ref (a 68))]) hC.1 hC.2.1 dX7_restore_73 rfl hl (by decide) rfl (fun ls hl => ?_)
    refine lv_aload_n hC.1 hC.2.1 dX7_restore_74 rfl (lv_at hl 1 rfl) ?_
    refine lv_iload_n hC.1 hC.2.1 dX7_restore_75 rfl (lv_at hl 0 rfl) ?_
    refine lv_aload_n hC.1 hC.2.1 dX7_restore_76 rfl (lv_at hl 2 rfl) ?_
    refine gf_X7_24 hC hw dX7_restore_77 ?_
    refine lv_iconst (v := nI 0) hC.1 hC.2.1 dX7_restore_80 (by decide) ?_
    refine lv_iconst (v := nI 3) hC.1 hC.2.1 dX7_restore_81 (by decide) ?_
    refine q_cpy (sp := 3) (dp := 0) (n := 3) 54 rfl 25 rfl (XW_s15 _) hC hw hl (by omega) (by omega) (by decide) (by decide) ⟨Nat.le_of_ble_eq_true rfl, Nat.le_of_ble_eq_true rfl⟩ wk2_182 dX7_restore_82 (fun H locs hw => ?_)
    have hw : Wst E (XW E a) (sr (sr σ 0 (upd (upd (upd (upd (upd (σ 0) 0 (σ 44 0)) 1 (σ 44 1)) 2 (σ 44 2)) 3 (nI (if 15 ≠ 0 then (15 - 1) else 29))) 4 (nI (kp - 1)))) 15 (va_cpy (σ 44) (σ 15) 3 0 3)) A s.heap H locs := hw
    have hst_ : sr (sr σ 0 (upd (upd (upd (upd (upd (σ 0) 0 (σ 44 0)) 1 (σ 44 1)) 2 (σ 44 2)) 3 (nI (if 15 ≠ 0 then (15 - 1) else 29))) 4 (nI (kp - 1)))) 15 (va_cpy (σ 44) (σ 15) 3 0 3) = sr (sr σ 15 (va_cpy (σ 44) (σ 15) 3 0 3)) 0 (upd (upd (upd (upd (upd (σ 0) 0 (σ 44 0)) 1 (σ 44 1)) 2 (σ 44 2)) 3 (nI (if 15 ≠ 0 then (15 - 1) else 29))) 4 (nI (kp - 1))) := by
      funext j_ x_
      by_cases e0 : j_ = 0
      · subst e0
        by_cases y0 : x_ = 0
        · subst y0; rfl
        · by_cases y1 : x_ = 1
          · subst y1; rfl
          · by_cases y2 : x_ = 2
            · subst y2; rfl
            · by_cases y3 : x_ = 3
              · subst y3; rfl
              · by_cases y4 : x_ = 4
                · subst y4; rfl
                · simp [sr, upd, y0, y1, y2, y3, y4]
      · by_cases e15 : j_ = 15
        · subst e15; rfl
        · simp only [sr, e0, e15, if_false]
    rw [hst_] at hw
    refine lv_iinc (v := nI (3 + 3)) (lv' := [(2, .int (nI (3 + 3))), (1, .ref (a 44)), (0, .ref (a 68))]) hC.1 hC.2.1 dX7_restore_85 hl (k := 0) rfl (nI_add _ _) (by decide) rfl (fun ls hl => ?_)
    refine lv_iconst (v := nI 0) hC.1 hC.2.1 dX7_restore_88 (by decide) ?_
    refine lv_istore_n (lv' := [(3, .int (nI 0)), (2, .int (nI (3 + 3))), (1, .ref (a 44)), (0, .ref (a 68))]) hC.1 hC.2.1 dX7_restore_89 rfl hl (by decide) rfl (fun ls hl => ?_)
    have L90_2 : ∀ (n : Nat), ∀ (h : Nat), (h ≤ 10) → (10 - h) < n → ∀ (H : Heap) (locs : List Loc) (ls : Array Slot), Wst E (XW E a) (sr (sr (sr σ 4 (upr (σ 44) h (σ 4))) 15 (va_cpy (σ 44) (σ 15) 3 0 3)) 0 (upd (upd (upd (upd (upd (σ 0) 0 (σ 44 0)) 1 (σ 44 1)) 2 (σ 44 2)) 3 (nI (if 15 ≠ 0 then (15 - 1) else 29))) 4 (nI (kp - 1)))) A s.heap H locs → lv_has ls 4 [(0, .ref (a 68)), (1, .ref (a 44)), (2, .int (nI (3 + 3))), (3, .int (nI h))] → W p l e ({ frames := 1, cells := 0, slots := 0, locals := 24 }) s m args below meth c H locs 0 0 Q (F0 m 90 ls []) := by
      intro n
      induction n with
      | zero => intro h hh hn; exact absurd hn (Nat.not_lt_zero _)
      | succ n ih90 =>
        intro h hh hn90 H locs ls hw hl
        refine lv_iload_n hC.1 hC.2.1 dX7_restore_90 rfl (lv_at hl 3 rfl) ?_
        refine lv_bipush (v := nI 10) hC.1 hC.2.1 dX7_restore_91 (by decide) ?_
        refine q_cmpge hC 125 (cNle (by omega) (by omega)) dX7_restore_93 (by decide) (fun (c4 : 10 ≤ h) => ?_) (fun (c4 : h < 10) => ?_)
        · have hh9 : h = 10 := by omega
          rw [hh9] at hw
          refine lv_iinc (v := nI (3 + 3 + 10)) (lv' := [(2, .int (nI (3 + 3 + 10))), (0, .ref (a 68)), (1, .ref (a 44)), (3, .int (nI h))]) hC.1 hC.2.1 dX7_restore_125 hl (k := 2) rfl (nI_add _ _) (by decide) rfl (fun ls hl => ?_)
          refine lv_aload_n hC.1 hC.2.1 dX7_restore_128 rfl (lv_at hl 2 rfl) ?_
          refine lv_iload_n hC.1 hC.2.1 dX7_restore_129 rfl (lv_at hl 0 rfl) ?_
          refine lv_aload_n hC.1 hC.2.1 dX7_restore_130 rfl (lv_at hl 1 rfl) ?_
          refine gf_X7_20 hC hw dX7_restore_131 ?_
          refine gf_X7_53 hC hw dX7_restore_134 ?_
          refine lv_iconst (v := nI 0) hC.1 hC.2.1 dX7_restore_137 (by decide) ?_
          refine lv_bipush (v := nI 24) hC.1 hC.2.1 dX7_restore_138 (by decide) ?_
          refine q_cpy (sp := (3 + 3 + 10)) (dp := 0) (n := 24) 54 rfl 21 rfl (XW_s11 _) hC hw hl (by omega) (by omega) (by decide) (by decide) ⟨Nat.le_of_ble_eq_true rfl, Nat.le_of_ble_eq_true rfl⟩ wk2_182 dX7_restore_140 (fun H locs hw => ?_)
          have hw : Wst E (XW E a) (sr (sr (sr (sr σ 4 (upr (σ 44) 10 (σ 4))) 15 (va_cpy (σ 44) (σ 15) 3 0 3)) 0 (upd (upd (upd (upd (upd (σ 0) 0 (σ 44 0)) 1 (σ 44 1)) 2 (σ 44 2)) 3 (nI (if 15 ≠ 0 then (15 - 1) else 29))) 4 (nI (kp - 1)))) 11 (va_cpy (σ 44) (σ 11) (3 + 3 + 10) 0 24)) A s.heap H locs := hw
          have hst_ : sr (sr (sr (sr σ 4 (upr (σ 44) 10 (σ 4))) 15 (va_cpy (σ 44) (σ 15) 3 0 3)) 0 (upd (upd (upd (upd (upd (σ 0) 0 (σ 44 0)) 1 (σ 44 1)) 2 (σ 44 2)) 3 (nI (if 15 ≠ 0 then (15 - 1) else 29))) 4 (nI (kp - 1)))) 11 (va_cpy (σ 44) (σ 11) (3 + 3 + 10) 0 24) = sr (sr (sr (sr σ 4 (upr (σ 44) 10 (σ 4))) 11 (va_cpy (σ 44) (σ 11) (3 + 3 + 10) 0 24)) 15 (va_cpy (σ 44) (σ 15) 3 0 3)) 0 (upd (upd (upd (upd (upd (σ 0) 0 (σ 44 0)) 1 (σ 44 1)) 2 (σ 44 2)) 3 (nI (if 15 ≠ 0 then (15 - 1) else 29))) 4 (nI (kp - 1))) := by
            funext j_ x_
            by_cases e0 : j_ = 0
            · subst e0
              by_cases y0 : x_ = 0
              · subst y0; rfl
              · by_cases y1 : x_ = 1
                · subst y1; rfl
                · by_cases y2 : x_ = 2
                  · subst y2; rfl
                  · by_cases y3 : x_ = 3
                    · subst y3; rfl
                    · by_cases y4 : x_ = 4
                      · subst y4; rfl
                      · simp [sr, upd, y0, y1, y2, y3, y4]
            · by_cases e4 : j_ = 4
              · subst e4; rfl
              · by_cases e11 : j_ = 11
                · subst e11; rfl
                · by_cases e15 : j_ = 15
                  · subst e15; rfl
                  · simp only [sr, e0, e4, e11, e15, if_false]
          rw [hst_] at hw
          refine lv_aload_n hC.1 hC.2.1 dX7_restore_143 rfl (lv_at hl 2 rfl) ?_
          refine lv_iload_n hC.1 hC.2.1 dX7_restore_144 rfl (lv_at hl 0 rfl) ?_
          refine lv_bipush (v := nI 24) hC.1 hC.2.1 dX7_restore_145 (by decide) ?_
          refine q_addN hC dX7_restore_147 ?_
          refine lv_aload_n hC.1 hC.2.1 dX7_restore_148 rfl (lv_at hl 1 rfl) ?_
          refine gf_X7_20 hC hw dX7_restore_149 ?_
          refine gf_X7_56 hC hw dX7_restore_152 ?_
          refine lv_iconst (v := nI 0) hC.1 hC.2.1 dX7_restore_155 (by decide) ?_
          refine lv_bipush (v := nI 24) hC.1 hC.2.1 dX7_restore_156 (by decide) ?_
          refine q_cpy (sp := ((3 + 3 + 10) + 24)) (dp := 0) (n := 24) 54 rfl 22 rfl (XW_s12 _) hC hw hl (by omega) (by omega) (by decide) (by decide) ⟨Nat.le_of_ble_eq_true rfl, Nat.le_of_ble_eq_true rfl⟩ wk2_182 dX7_restore_158 (fun H locs hw => ?_)
          have hw : Wst E (XW E a) (sr (sr (sr (sr (sr σ 4 (upr (σ 44) 10 (σ 4))) 11 (va_cpy (σ 44) (σ 11) (3 + 3 + 10) 0 24)) 15 (va_cpy (σ 44) (σ 15) 3 0 3)) 0 (upd (upd (upd (upd (upd (σ 0) 0 (σ 44 0)) 1 (σ 44 1)) 2 (σ 44 2)) 3 (nI (if 15 ≠ 0 then (15 - 1) else 29))) 4 (nI (kp - 1)))) 12 (va_cpy (σ 44) (σ 12) ((3 + 3 + 10) + 24) 0 24)) A s.heap H locs := hw
          have hst_ : sr (sr (sr (sr (sr σ 4 (upr (σ 44) 10 (σ 4))) 11 (va_cpy (σ 44) (σ 11) (3 + 3 + 10) 0 24)) 15 (va_cpy (σ 44) (σ 15) 3 0 3)) 0 (upd (upd (upd (upd (upd (σ 0) 0 (σ 44 0)) 1 (σ 44 1)) 2 (σ 44 2)) 3 (nI (if 15 ≠ 0 then (15 - 1) else 29))) 4 (nI (kp - 1)))) 12 (va_cpy (σ 44) (σ 12) ((3 + 3 + 10) + 24) 0 24) = sr (sr (sr (sr (sr σ 4 (upr (σ 44) 10 (σ 4))) 11 (va_cpy (σ 44) (σ 11) (3 + 3 + 10) 0 24)) 12 (va_cpy (σ 44) (σ 12) ((3 + 3 + 10) + 24) 0 24)) 15 (va_cpy (σ 44) (σ 15) 3 0 3)) 0 (upd (upd (upd (upd (upd (σ 0) 0 (σ 44 0)) 1 (σ 44 1)) 2 (σ 44 2)) 3 (nI (if 15 ≠ 0 then (15 - 1) else 29))) 4 (nI (kp - 1))) := by
            funext j_ x_
            by_cases e0 : j_ = 0
            · subst e0
              by_cases y0 : x_ = 0
              · subst y0; rfl
              · by_cases y1 : x_ = 1
                · subst y1; rfl
                · by_cases y2 : x_ = 2
                  · subst y2; rfl
                  · by_cases y3 : x_ = 3
                    · subst y3; rfl
                    · by_cases y4 : x_ = 4
                      · subst y4; rfl
                      · simp [sr, upd, y0, y1, y2, y3, y4]
            · by_cases e4 : j_ = 4
              · subst e4; rfl
              · by_cases e11 : j_ = 11
                · subst e11; rfl
                · by_cases e12 : j_ = 12
                  · subst e12; rfl
                  · by_cases e15 : j_ = 15
                    · subst e15; rfl
                    · simp only [sr, e0, e4, e11, e12, e15, if_false]
          rw [hst_] at hw
          refine lv_aload_n hC.1 hC.2.1 dX7_restore_161 rfl (lv_at hl 2 rfl) ?_
          refine lv_iload_n hC.1 hC.2.1 dX7_restore_162 rfl (lv_at hl 0 rfl) ?_
          refine lv_bipush (v := nI 48) hC.1 hC.2.1 dX7_restore_163 (by decide) ?_
          refine q_addN hC dX7_restore_165 ?_
          refine lv_aload_n hC.1 hC.2.1 dX7_restore_166 rfl (lv_at hl 1 rfl) ?_
          refine gf_X7_20 hC hw dX7_restore_167 ?_
          refine gf_X7_59 hC hw dX7_restore_170 ?_
          refine lv_iconst (v := nI 0) hC.1 hC.2.1 dX7_restore_173 (by decide) ?_
          refine lv_bipush (v := nI 24) hC.1 hC.2.1 dX7_restore_174 (by decide) ?_
          refine q_cpy (sp := ((3 + 3 + 10) + 48)) (dp := 0) (n := 24) 54 rfl 23 rfl (XW_s13 _) hC hw hl (by omega) (by omega) (by decide) (by decide) ⟨Nat.le_of_ble_eq_true rfl, Nat.le_of_ble_eq_true rfl⟩ wk2_182 dX7_restore_176 (fun H locs hw => ?_)
          have hw : Wst E (XW E a) (sr (sr (sr (sr (sr (sr σ 4 (upr (σ 44) 10 (σ 4))) 11 (va_cpy (σ 44) (σ 11) (3 + 3 + 10) 0 24)) 12 (va_cpy (σ 44) (σ 12) ((3 + 3 + 10) + 24) 0 24)) 15 (va_cpy (σ 44) (σ 15) 3 0 3)) 0 (upd (upd (upd (upd (upd (σ 0) 0 (σ 44 0)) 1 (σ 44 1)) 2 (σ 44 2)) 3 (nI (if 15 ≠ 0 then (15 - 1) else 29))) 4 (nI (kp - 1)))) 13 (va_cpy (σ 44) (σ 13) ((3 + 3 + 10) + 48) 0 24)) A s.heap H locs := hw
          have hst_ : sr (sr (sr (sr (sr (sr σ 4 (upr (σ 44) 10 (σ 4))) 11 (va_cpy (σ 44) (σ 11) (3 + 3 + 10) 0 24)) 12 (va_cpy (σ 44) (σ 12) ((3 + 3 + 10) + 24) 0 24)) 15 (va_cpy (σ 44) (σ 15) 3 0 3)) 0 (upd (upd (upd (upd (upd (σ 0) 0 (σ 44 0)) 1 (σ 44 1)) 2 (σ 44 2)) 3 (nI (if 15 ≠ 0 then (15 - 1) else 29))) 4 (nI (kp - 1)))) 13 (va_cpy (σ 44) (σ 13) ((3 + 3 + 10) + 48) 0 24) = sr (sr (sr (sr (sr (sr σ 4 (upr (σ 44) 10 (σ 4))) 11 (va_cpy (σ 44) (σ 11) (3 + 3 + 10) 0 24)) 12 (va_cpy (σ 44) (σ 12) ((3 + 3 + 10) + 24) 0 24)) 13 (va_cpy (σ 44) (σ 13) ((3 + 3 + 10) + 48) 0 24)) 15 (va_cpy (σ 44) (σ 15) 3 0 3)) 0 (upd (upd (upd (upd (upd (σ 0) 0 (σ 44 0)) 1 (σ 44 1)) 2 (σ 44 2)) 3 (nI (if 15 ≠ 0 then (15 - 1) else 29))) 4 (nI (kp - 1))) := by
            funext j_ x_
            by_cases e0 : j_ = 0
            · subst e0
              by_cases y0 : x_ = 0
              · subst y0; rfl
              · by_cases y1 : x_ = 1
                · subst y1; rfl
                · by_cases y2 : x_ = 2
                  · subst y2; rfl
                  · by_cases y3 : x_ = 3
                    · subst y3; rfl
                    · by_cases y4 : x_ = 4
                      · subst y4; rfl
                      · simp [sr, upd, y0, y1, y2, y3, y4]
            · by_cases e4 : j_ = 4
              · subst e4; rfl
              · by_cases e11 : j_ = 11
                · subst e11; rfl
                · by_cases e12 : j_ = 12
                  · subst e12; rfl
                  · by_cases e13 : j_ = 13
                    · subst e13; rfl
                    · by_cases e15 : j_ = 15
                      · subst e15; rfl
                      · simp only [sr, e0, e4, e11, e12, e13, e15, if_false]
          rw [hst_] at hw
          refine lv_aload_n hC.1 hC.2.1 dX7_restore_179 rfl (lv_at hl 2 rfl) ?_
          refine lv_iload_n hC.1 hC.2.1 dX7_restore_180 rfl (lv_at hl 0 rfl) ?_
          refine lv_bipush (v := nI 72) hC.1 hC.2.1 dX7_restore_181 (by decide) ?_
          refine q_addN hC dX7_restore_183 ?_
          refine lv_aload_n hC.1 hC.2.1 dX7_restore_184 rfl (lv_at hl 1 rfl) ?_
          refine gf_X7_20 hC hw dX7_restore_185 ?_
          refine gf_X7_62 hC hw dX7_restore_188 ?_
          refine lv_iconst (v := nI 0) hC.1 hC.2.1 dX7_restore_191 (by decide) ?_
          refine lv_bipush (v := nI 24) hC.1 hC.2.1 dX7_restore_192 (by decide) ?_
          refine q_cpy (sp := ((3 + 3 + 10) + 72)) (dp := 0) (n := 24) 54 rfl 24 rfl (XW_s14 _) hC hw hl (by omega) (by omega) (by decide) (by decide) ⟨Nat.le_of_ble_eq_true rfl, Nat.le_of_ble_eq_true rfl⟩ wk2_182 dX7_restore_194 (fun H locs hw => ?_)
          have hw : Wst E (XW E a) (sr (sr (sr (sr (sr (sr (sr σ 4 (upr (σ 44) 10 (σ 4))) 11 (va_cpy (σ 44) (σ 11) (3 + 3 + 10) 0 24)) 12 (va_cpy (σ 44) (σ 12) ((3 + 3 + 10) + 24) 0 24)) 13 (va_cpy (σ 44) (σ 13) ((3 + 3 + 10) + 48) 0 24)) 15 (va_cpy (σ 44) (σ 15) 3 0 3)) 0 (upd (upd (upd (upd (upd (σ 0) 0 (σ 44 0)) 1 (σ 44 1)) 2 (σ 44 2)) 3 (nI (if 15 ≠ 0 then (15 - 1) else 29))) 4 (nI (kp - 1)))) 14 (va_cpy (σ 44) (σ 14) ((3 + 3 + 10) + 72) 0 24)) A s.heap H locs := hw
          have hst_ : sr (sr (sr (sr (sr (sr (sr σ 4 (upr (σ 44) 10 (σ 4))) 11 (va_cpy (σ 44) (σ 11) (3 + 3 + 10) 0 24)) 12 (va_cpy (σ 44) (σ 12) ((3 + 3 + 10) + 24) 0 24)) 13 (va_cpy (σ 44) (σ 13) ((3 + 3 + 10) + 48) 0 24)) 15 (va_cpy (σ 44) (σ 15) 3 0 3)) 0 (upd (upd (upd (upd (upd (σ 0) 0 (σ 44 0)) 1 (σ 44 1)) 2 (σ 44 2)) 3 (nI (if 15 ≠ 0 then (15 - 1) else 29))) 4 (nI (kp - 1)))) 14 (va_cpy (σ 44) (σ 14) ((3 + 3 + 10) + 72) 0 24) = sr (sr (sr (sr (sr (sr (sr σ 4 (upr (σ 44) 10 (σ 4))) 11 (va_cpy (σ 44) (σ 11) (3 + 3 + 10) 0 24)) 12 (va_cpy (σ 44) (σ 12) ((3 + 3 + 10) + 24) 0 24)) 13 (va_cpy (σ 44) (σ 13) ((3 + 3 + 10) + 48) 0 24)) 14 (va_cpy (σ 44) (σ 14) ((3 + 3 + 10) + 72) 0 24)) 15 (va_cpy (σ 44) (σ 15) 3 0 3)) 0 (upd (upd (upd (upd (upd (σ 0) 0 (σ 44 0)) 1 (σ 44 1)) 2 (σ 44 2)) 3 (nI (if 15 ≠ 0 then (15 - 1) else 29))) 4 (nI (kp - 1))) := by
            funext j_ x_
            by_cases e0 : j_ = 0
            · subst e0
              by_cases y0 : x_ = 0
              · subst y0; rfl
              · by_cases y1 : x_ = 1
                · subst y1; rfl
                · by_cases y2 : x_ = 2
                  · subst y2; rfl
                  · by_cases y3 : x_ = 3
                    · subst y3; rfl
                    · by_cases y4 : x_ = 4
                      · subst y4; rfl
                      · simp [sr, upd, y0, y1, y2, y3, y4]
            · by_cases e4 : j_ = 4
              · subst e4; rfl
              · by_cases e11 : j_ = 11
                · subst e11; rfl
                · by_cases e12 : j_ = 12
                  · subst e12; rfl
                  · by_cases e13 : j_ = 13
                    · subst e13; rfl
                    · by_cases e14 : j_ = 14
                      · subst e14; rfl
                      · by_cases e15 : j_ = 15
                        · subst e15; rfl
                        · simp only [sr, e0, e4, e11, e12, e13, e14, e15, if_false]
          rw [hst_] at hw
          refine hret _ _ _ _ _ hw ?_ dX7_restore_197
          exact rfl
        · refine lv_aload_n hC.1 hC.2.1 dX7_restore_96 rfl (lv_at hl 0 rfl) ?_
          refine gf_X7_16 hC hw dX7_restore_97 ?_
          refine gf_X7_49 hC hw dX7_restore_100 ?_
          refine lv_iload_n hC.1 hC.2.1 dX7_restore_103 rfl (lv_at hl 3 rfl) ?_
          refine lv_aload_n hC.1 hC.2.1 dX7_restore_104 rfl (lv_at hl 1 rfl) ?_
          refine lv_iload_n hC.1 hC.2.1 dX7_restore_105 rfl (lv_at hl 2 rfl) ?_
          refine lv_iload_n hC.1 hC.2.1 dX7_restore_106 rfl (lv_at hl 3 rfl) ?_
          refine q_addN hC dX7_restore_107 ?_
          refine q_ald (Wf := XW E a) (v := σ 44 ((3 + 3) + h)) 54 rfl (by decide) hC hw (by omega) rfl dX7_restore_108 ?_
          refine lv_iconst (v := nI 1) hC.1 hC.2.1 dX7_restore_109 (by decide) ?_
          have J118_6 : ∀ (w5 : Int32), w5 = (if (σ 44 ((3 + 3) + h)) = 1 then (1 : Int32) else 0) → ∀ (H : Heap) (locs : List Loc) (ls : Array Slot), Wst E (XW E a) (sr (sr (sr σ 4 (upr (σ 44) h (σ 4))) 15 (va_cpy (σ 44) (σ 15) 3 0 3)) 0 (upd (upd (upd (upd (upd (σ 0) 0 (σ 44 0)) 1 (σ 44 1)) 2 (σ 44 2)) 3 (nI (if 15 ≠ 0 then (15 - 1) else 29))) 4 (nI (kp - 1)))) A s.heap H locs → lv_has ls 4 [(0, .ref (a 68)), (1, .ref (a 44)), (2, .int (nI (3 + 3))), (3, .int (nI h))] → W p l e ({ frames := 1, cells := 0, slots := 0, locals := 24 }) s m args below meth c H locs 0 0 Q (F0 m 118 ls [.int (w5), .int (nI h), .ref (a 4)]) := by
            intro w5 e6 H locs ls hw hl
            subst e6
            refine as_X4 hC hw (by omega) vz_B dX7_restore_118 (fun H locs hw => ?_)
            have hw : Wst E (XW E a) (sr (sr (sr (sr σ 4 (upr (σ 44) h (σ 4))) 15 (va_cpy (σ 44) (σ 15) 3 0 3)) 0 (upd (upd (upd (upd (upd (σ 0) 0 (σ 44 0)) 1 (σ 44 1)) 2 (σ 44 2)) 3 (nI (if 15 ≠ 0 then (15 - 1) else 29))) 4 (nI (kp - 1)))) 4 (upd (upr (σ 44) h (σ 4)) h (if (σ 44 ((3 + 3) + h)) = 1 then (1 : Int32) else 0))) A s.heap H locs := hw
            have hst_ : sr (sr (sr (sr σ 4 (upr (σ 44) h (σ 4))) 15 (va_cpy (σ 44) (σ 15) 3 0 3)) 0 (upd (upd (upd (upd (upd (σ 0) 0 (σ 44 0)) 1 (σ 44 1)) 2 (σ 44 2)) 3 (nI (if 15 ≠ 0 then (15 - 1) else 29))) 4 (nI (kp - 1)))) 4 (upd (upr (σ 44) h (σ 4)) h (if (σ 44 ((3 + 3) + h)) = 1 then (1 : Int32) else 0)) = sr (sr (sr σ 4 (upd (upr (σ 44) h (σ 4)) h (if (σ 44 ((3 + 3) + h)) = 1 then (1 : Int32) else 0))) 15 (va_cpy (σ 44) (σ 15) 3 0 3)) 0 (upd (upd (upd (upd (upd (σ 0) 0 (σ 44 0)) 1 (σ 44 1)) 2 (σ 44 2)) 3 (nI (if 15 ≠ 0 then (15 - 1) else 29))) 4 (nI (kp - 1))) := by
              funext j_ x_
              by_cases e0 : j_ = 0
              · subst e0
                by_cases y0 : x_ = 0
                · subst y0; rfl
                · by_cases y1 : x_ = 1
                  · subst y1; rfl
                  · by_cases y2 : x_ = 2
                    · subst y2; rfl
                    · by_cases y3 : x_ = 3
                      · subst y3; rfl
                      · by_cases y4 : x_ = 4
                        · subst y4; rfl
                        · simp [sr, upd, y0, y1, y2, y3, y4]
              · by_cases e4 : j_ = 4
                · subst e4; rfl
                · by_cases e15 : j_ = 15
                  · subst e15; rfl
                  · simp only [sr, e0, e4, e15, if_false]
            rw [hst_] at hw
            refine lv_iinc (v := nI (h + 1)) (lv' := [(3, .int (nI (h + 1))), (0, .ref (a 68)), (1, .ref (a 44)), (2, .int (nI (3 + 3)))]) hC.1 hC.2.1 dX7_restore_119 hl (k := 3) rfl (nI_add _ _) (by decide) rfl (fun ls hl => ?_)
            refine lv_goto (tgt := 90) hC.1 hC.2.1 dX7_restore_122 (by decide) ?_
            rw [upr_s] at hw
            exact ih90 (h + 1) (by omega) (by omega) _ _ _ hw (lv_sub hl [1, 2, 3, 0] rfl)
          refine q_cmpne hC 117 cI dX7_restore_110 (by decide) (fun (c7 : ¬ ((σ 44 ((3 + 3) + h)) = 1)) => ?_) (fun (c7 : (σ 44 ((3 + 3) + h)) = 1) => ?_)
          · refine lv_iconst (v := nI 0) hC.1 hC.2.1 dX7_restore_117 (by decide) ?_
            exact J118_6 _ (if_neg c7).symm _ _ _ hw (lv_sub hl [0, 1, 2, 3] rfl)
          · refine lv_iconst (v := nI 1) hC.1 hC.2.1 dX7_restore_113 (by decide) ?_
            refine lv_goto (tgt := 118) hC.1 hC.2.1 dX7_restore_114 (by decide) ?_
            exact J118_6 _ (if_pos c7).symm _ _ _ hw (lv_sub hl [0, 1, 2, 3] rfl)
    have hst_ : sr (sr σ 15 (va_cpy (σ 44) (σ 15) 3 0 3)) 0 (upd (upd (upd (upd (upd (σ 0) 0 (σ 44 0)) 1 (σ 44 1)) 2 (σ 44 2)) 3 (nI (if 15 ≠ 0 then (15 - 1) else 29))) 4 (nI (kp - 1))) = sr (sr (sr σ 4 (upr (σ 44) 0 (σ 4))) 15 (va_cpy (σ 44) (σ 15) 3 0 3)) 0 (upd (upd (upd (upd (upd (σ 0) 0 (σ 44 0)) 1 (σ 44 1)) 2 (σ 44 2)) 3 (nI (if 15 ≠ 0 then (15 - 1) else 29))) 4 (nI (kp - 1))) := by
      funext j_ x_
      by_cases e0 : j_ = 0
      · subst e0
        by_cases y0 : x_ = 0
        · subst y0; rfl
        · by_cases y1 : x_ = 1
          · subst y1; rfl
          · by_cases y2 : x_ = 2
            · subst y2; rfl
            · by_cases y3 : x_ = 3
              · subst y3; rfl
              · by_cases y4 : x_ = 4
                · subst y4; rfl
                · simp [sr, upd, y0, y1, y2, y3, y4]
      · by_cases e4 : j_ = 4
        · subst e4; show σ 4 x_ = upr (σ 44) 0 (σ 4) x_; rw [upr_0]
        · by_cases e15 : j_ = 15
          · subst e15; rfl
          · simp only [sr, e0, e4, e15, if_false]
    rw [hst_] at hw
    exact L90_2 _ 0 (by omega) (Nat.lt_succ_self _) _ _ _ hw (lv_sub hl [3, 2, 1, 0] rfl)
  refine q_ifne hC 13 (cN0 (by omega)) dX7_restore_5 (by decide) (fun (c8 : 15 ≠ 0) => ?_) (fun (c8 : 15 = 0) => ?_)
  · refine lv_aload_n hC.1 hC.2.1 dX7_restore_13 rfl (lv_at hl 0 rfl) ?_
    refine gf_X7_28 (v := nI 15) hC hw hnx dX7_restore_14 ?_
    refine lv_iconst (v := nI 1) hC.1 hC.2.1 dX7_restore_17 (by decide) ?_
    refine q_subN hC (by omega) dX7_restore_18 ?_
    exact J19_2 _ (by (rw [if_pos c8]) <;> rfl) _ _ _ hw (lv_sub hl [0] rfl)
  · refine lv_bipush (v := nI 29) hC.1 hC.2.1 dX7_restore_8 (by decide) ?_
    refine lv_goto (tgt := 19) hC.1 hC.2.1 dX7_restore_10 (by decide) ?_
    exact J19_2 _ (by (rw [if_neg (fun q => q c8)]) <;> rfl) _ _ _ hw (lv_sub hl [0] rfl)
set_option maxHeartbeats 4000000 in
set_option maxRecDepth 100000 in
theorem tX7_restore_k16 (l : Launch) (E : EV) (a : Nat → Nat) (σ : St) (kp : Nat) (hnx : σ 0 3 = nI 16) (hkp : σ 0 4 = nI kp) (hk30 : kp ≤ 30) (hk1 : 1 ≤ kp) : MV l E (XW E a) yX7_restore (Cond.code yX7_restore cX7_restore 4 none) ({ frames := 1, cells := 0, slots := 0, locals := 24 }) [.ref (a 68)] σ (fun u_ => u_ = sr (sr (sr (sr (sr (sr (sr σ 4 (upr (σ 45) 10 (σ 4))) 11 (va_cpy (σ 45) (σ 11) 16 0 24)) 12 (va_cpy (σ 45) (σ 12) 40 0 24)) 13 (va_cpy (σ 45) (σ 13) 64 0 24)) 14 (va_cpy (σ 45) (σ 14) 88 0 24)) 15 (va_cpy (σ 45) (σ 15) 3 0 3)) 0 (upd (upd (upd (upd (upd (σ 0) 0 ((σ 45) 0)) 1 ((σ 45) 1)) 2 ((σ 45) 2)) 3 (nI (if 16 ≠ 0 then 16 - 1 else 29))) 4 (nI (kp - 1)))) := by
  refine MV.mk (by decide +kernel) (Nat.le_of_ble_eq_true rfl) ?_
  intro p e s m args below meth c ls A Q hret hC hw hl
  have hC : Cxt E p s m args meth c cX7_restore 4 none RX7 A := hC
  have hl : lv_has ls 4 [(0, .ref (a 68))] := hl
  refine lv_aload_n hC.1 hC.2.1 dX7_restore_0 rfl (lv_at hl 0 rfl) ?_
  refine lv_aload_n hC.1 hC.2.1 dX7_restore_1 rfl (lv_at hl 0 rfl) ?_
  refine gf_X7_28 (v := nI 16) hC hw hnx dX7_restore_2 ?_
  have J19_2 : ∀ (w1 : Nat), w1 = (if 16 ≠ 0 then (16 - 1) else 29) → ∀ (H : Heap) (locs : List Loc) (ls : Array Slot), Wst E (XW E a) (σ) A s.heap H locs → lv_has ls 4 [(0, .ref (a 68))] → W p l e ({ frames := 1, cells := 0, slots := 0, locals := 24 }) s m args below meth c H locs 0 0 Q (F0 m 19 ls [.int (nI w1), .ref (a 68)]) := by
    intro w1 e2 H locs ls hw hl
    subst e2
    refine pf_X7_28 hC hw dX7_restore_19 (fun H locs hw => ?_)
    have hw : Wst E (XW E a) (sr σ 0 (upd (σ 0) 3 (nI (if 16 ≠ 0 then (16 - 1) else 29)))) A s.heap H locs := hw
    refine lv_aload_n hC.1 hC.2.1 dX7_restore_22 rfl (lv_at hl 0 rfl) ?_
    refine lv_dup hC.1 hC.2.1 dX7_restore_23 rfl ?_
    refine gf_X7_65 (v := nI kp) hC hw hkp dX7_restore_24 ?_
    refine lv_iconst (v := nI 1) hC.1 hC.2.1 dX7_restore_27 (by decide) ?_
    refine q_subN hC (by omega) dX7_restore_28 ?_
    refine pf_X7_65 hC hw dX7_restore_29 (fun H locs hw => ?_)
    have hw : Wst E (XW E a) (sr (sr σ 0 (upd (σ 0) 3 (nI (if 16 ≠ 0 then (16 - 1) else 29)))) 0 (upd (upd (σ 0) 3 (nI (if 16 ≠ 0 then (16 - 1) else 29))) 4 (nI (kp - 1)))) A s.heap H locs := hw
    have hst_ : sr (sr σ 0 (upd (σ 0) 3 (nI (if 16 ≠ 0 then (16 - 1) else 29)))) 0 (upd (upd (σ 0) 3 (nI (if 16 ≠ 0 then (16 - 1) else 29))) 4 (nI (kp - 1))) = sr σ 0 (upd (upd (σ 0) 3 (nI (if 16 ≠ 0 then (16 - 1) else 29))) 4 (nI (kp - 1))) := by
      funext j_ x_
      by_cases e0 : j_ = 0
      · subst e0
        by_cases y3 : x_ = 3
        · subst y3; rfl
        · by_cases y4 : x_ = 4
          · subst y4; rfl
          · simp [sr, upd, y3, y4]
      · simp only [sr, e0, if_false]
    rw [hst_] at hw
    refine lv_aload_n hC.1 hC.2.1 dX7_restore_32 rfl (lv_at hl 0 rfl) ?_
    refine gf_X7_13 hC hw dX7_restore_33 ?_
    refine lv_aload_n hC.1 hC.2.1 dX7_restore_36 rfl (lv_at hl 0 rfl) ?_
    refine gf_X7_28 (v := nI (if 16 ≠ 0 then (16 - 1) else 29)) hC hw rfl dX7_restore_37 ?_
    refine q_top (y := nI 15) rfl ?_
    refine q_aald hC hw (i := 15) (by decide) dX7_restore_40 ?_
    refine lv_astore_n (lv' := [(1, .ref (a 45)), (0, .ref (a 68))]) hC.1 hC.2.1 dX7_restore_41 rfl hl (by decide) rfl (fun ls hl => ?_)
    refine lv_aload_n hC.1 hC.2.1 dX7_restore_42 rfl (lv_at hl 1 rfl) ?_
    refine gf_X7_16 hC hw dX7_restore_43 ?_
    refine lv_aload_n hC.1 hC.2.1 dX7_restore_46 rfl (lv_at hl 0 rfl) ?_
    refine lv_iconst (v := nI 0) hC.1 hC.2.1 dX7_restore_47 (by decide) ?_
    refine q_ald (Wf := XW E a) (v := σ 45 0) 55 rfl (by decide) hC hw (by omega) rfl dX7_restore_48 ?_
    refine pf_X7_32 hC hw dX7_restore_49 (fun H locs hw => ?_)
    have hw : Wst E (XW E a) (sr (sr σ 0 (upd (upd (σ 0) 3 (nI (if 16 ≠ 0 then (16 - 1) else 29))) 4 (nI (kp - 1)))) 0 (upd (upd (upd (σ 0) 3 (nI (if 16 ≠ 0 then (16 - 1) else 29))) 4 (nI (kp - 1))) 0 (σ 45 0))) A s.heap H locs := hw
    have hst_ : sr (sr σ 0 (upd (upd (σ 0) 3 (nI (if 16 ≠ 0 then (16 - 1) else 29))) 4 (nI (kp - 1)))) 0 (upd (upd (upd (σ 0) 3 (nI (if 16 ≠ 0 then (16 - 1) else 29))) 4 (nI (kp - 1))) 0 (σ 45 0)) = sr σ 0 (upd (upd (upd (σ 0) 0 (σ 45 0)) 3 (nI (if 16 ≠ 0 then (16 - 1) else 29))) 4 (nI (kp - 1))) := by
      funext j_ x_
      by_cases e0 : j_ = 0
      · subst e0
        by_cases y0 : x_ = 0
        · subst y0; rfl
        · by_cases y3 : x_ = 3
          · subst y3; rfl
          · by_cases y4 : x_ = 4
            · subst y4; rfl
            · simp [sr, upd, y0, y3, y4]
      · simp only [sr, e0, if_false]
    rw [hst_] at hw
    refine lv_aload_n hC.1 hC.2.1 dX7_restore_52 rfl (lv_at hl 1 rfl) ?_
    refine gf_X7_20 hC hw dX7_restore_53 ?_
    refine lv_aload_n hC.1 hC.2.1 dX7_restore_56 rfl (lv_at hl 0 rfl) ?_
    refine lv_iconst (v := nI 1) hC.1 hC.2.1 dX7_restore_57 (by decide) ?_
    refine q_ald (Wf := XW E a) (v := σ 45 1) 55 rfl (by decide) hC hw (by omega) rfl dX7_restore_58 ?_
    refine pf_X7_37 hC hw dX7_restore_59 (fun H locs hw => ?_)
    have hw : Wst E (XW E a) (sr (sr σ 0 (upd (upd (upd (σ 0) 0 (σ 45 0)) 3 (nI (if 16 ≠ 0 then (16 - 1) else 29))) 4 (nI (kp - 1)))) 0 (upd (upd (upd (upd (σ 0) 0 (σ 45 0)) 3 (nI (if 16 ≠ 0 then (16 - 1) else 29))) 4 (nI (kp - 1))) 1 (σ 45 1))) A s.heap H locs := hw
    have hst_ : sr (sr σ 0 (upd (upd (upd (σ 0) 0 (σ 45 0)) 3 (nI (if 16 ≠ 0 then (16 - 1) else 29))) 4 (nI (kp - 1)))) 0 (upd (upd (upd (upd (σ 0) 0 (σ 45 0)) 3 (nI (if 16 ≠ 0 then (16 - 1) else 29))) 4 (nI (kp - 1))) 1 (σ 45 1)) = sr σ 0 (upd (upd (upd (upd (σ 0) 0 (σ 45 0)) 1 (σ 45 1)) 3 (nI (if 16 ≠ 0 then (16 - 1) else 29))) 4 (nI (kp - 1))) := by
      funext j_ x_
      by_cases e0 : j_ = 0
      · subst e0
        by_cases y0 : x_ = 0
        · subst y0; rfl
        · by_cases y1 : x_ = 1
          · subst y1; rfl
          · by_cases y3 : x_ = 3
            · subst y3; rfl
            · by_cases y4 : x_ = 4
              · subst y4; rfl
              · simp [sr, upd, y0, y1, y3, y4]
      · simp only [sr, e0, if_false]
    rw [hst_] at hw
    refine lv_aload_n hC.1 hC.2.1 dX7_restore_62 rfl (lv_at hl 1 rfl) ?_
    refine gf_X7_20 hC hw dX7_restore_63 ?_
    refine lv_aload_n hC.1 hC.2.1 dX7_restore_66 rfl (lv_at hl 0 rfl) ?_
    refine lv_iconst (v := nI 2) hC.1 hC.2.1 dX7_restore_67 (by decide) ?_
    refine q_ald (Wf := XW E a) (v := σ 45 2) 55 rfl (by decide) hC hw (by omega) rfl dX7_restore_68 ?_
    refine pf_X7_40 hC hw dX7_restore_69 (fun H locs hw => ?_)
    have hw : Wst E (XW E a) (sr (sr σ 0 (upd (upd (upd (upd (σ 0) 0 (σ 45 0)) 1 (σ 45 1)) 3 (nI (if 16 ≠ 0 then (16 - 1) else 29))) 4 (nI (kp - 1)))) 0 (upd (upd (upd (upd (upd (σ 0) 0 (σ 45 0)) 1 (σ 45 1)) 3 (nI (if 16 ≠ 0 then (16 - 1) else 29))) 4 (nI (kp - 1))) 2 (σ 45 2))) A s.heap H locs := hw
    have hst_ : sr (sr σ 0 (upd (upd (upd (upd (σ 0) 0 (σ 45 0)) 1 (σ 45 1)) 3 (nI (if 16 ≠ 0 then (16 - 1) else 29))) 4 (nI (kp - 1)))) 0 (upd (upd (upd (upd (upd (σ 0) 0 (σ 45 0)) 1 (σ 45 1)) 3 (nI (if 16 ≠ 0 then (16 - 1) else 29))) 4 (nI (kp - 1))) 2 (σ 45 2)) = sr σ 0 (upd (upd (upd (upd (upd (σ 0) 0 (σ 45 0)) 1 (σ 45 1)) 2 (σ 45 2)) 3 (nI (if 16 ≠ 0 then (16 - 1) else 29))) 4 (nI (kp - 1))) := by
      funext j_ x_
      by_cases e0 : j_ = 0
      · subst e0
        by_cases y0 : x_ = 0
        · subst y0; rfl
        · by_cases y1 : x_ = 1
          · subst y1; rfl
          · by_cases y2 : x_ = 2
            · subst y2; rfl
            · by_cases y3 : x_ = 3
              · subst y3; rfl
              · by_cases y4 : x_ = 4
                · subst y4; rfl
                · simp [sr, upd, y0, y1, y2, y3, y4]
      · simp only [sr, e0, if_false]
    rw [hst_] at hw
    refine lv_iconst (v := nI 3) hC.1 hC.2.1 dX7_restore_72 (by decide) ?_
    refine lv_istore_n (lv' := [(2, .int (nI 3)), (1, .ref (a 45)), (0, .ref (a 68))]) hC.1 hC.2.1 dX7_restore_73 rfl hl (by decide) rfl (fun ls hl => ?_)
    refine lv_aload_n hC.1 hC.2.1 dX7_restore_74 rfl (lv_at hl 1 rfl) ?_
    refine lv_iload_n hC.1 hC.2.1 dX7_restore_75 rfl (lv_at hl 0 rfl) ?_
    refine lv_aload_n hC.1 hC.2.1 dX7_restore_76 rfl (lv_at hl 2 rfl) ?_
    refine gf_X7_24 hC hw dX7_restore_77 ?_
    refine lv_iconst (v := nI 0) hC.1 hC.2.1 dX7_restore_80 (by decide) ?_
    refine lv_iconst (v := nI 3) hC.1 hC.2.1 dX7_restore_81 (by decide) ?_
    refine q_cpy (sp := 3) (dp := 0) (n := 3) 55 rfl 25 rfl (XW_s15 _) hC hw hl (by omega) (by omega) (by decide) (by decide) ⟨Nat.le_of_ble_eq_true rfl, Nat.le_of_ble_eq_true rfl⟩ wk2_182 dX7_restore_82 (fun H locs hw => ?_)
    have hw : Wst E (XW E a) (sr (sr σ 0 (upd (upd (upd (upd (upd (σ 0) 0 (σ 45 0)) 1 (σ 45 1)) 2 (σ 45 2)) 3 (nI (if 16 ≠ 0 then (16 - 1) else 29))) 4 (nI (kp - 1)))) 15 (va_cpy (σ 45) (σ 15) 3 0 3)) A s.heap H locs := hw
    have hst_ : sr (sr σ 0 (upd (upd (upd (upd (upd (σ 0) 0 (σ 45 0)) 1 (σ 45 1)) 2 (σ 45 2)) 3 (nI (if 16 ≠ 0 then (16 - 1) else 29))) 4 (nI (kp - 1)))) 15 (va_cpy (σ 45) (σ 15) 3 0 3) = sr (sr σ 15 (va_cpy (σ 45) (σ 15) 3 0 3)) 0 (upd (upd (upd (upd (upd (σ 0) 0 (σ 45 0)) 1 (σ 45 1)) 2 (σ 45 2)) 3 (nI (if 16 ≠ 0 then (16 - 1) else 29))) 4 (nI (kp - 1))) := by
      funext j_ x_
      by_cases e0 : j_ = 0
      · subst e0
        by_cases y0 : x_ = 0
        · subst y0; rfl
        · by_cases y1 : x_ = 1
          · subst y1; rfl
          · by_cases y2 : x_ = 2
            · subst y2; rfl
            · by_cases y3 : x_ = 3
              · subst y3; rfl
              · by_cases y4 : x_ = 4
                · subst y4; rfl
                · simp [sr, upd, y0, y1, y2, y3, y4]
      · by_cases e15 : j_ = 15
        · subst e15; rfl
        · simp only [sr, e0, e15, if_false]
    rw [hst_] at hw
    refine lv_iinc (v := nI (3 + 3)) (lv' := [(2, .int (nI (3 + 3))), (1, .ref (a 45)), (0, .ref (a 68))]) hC.1 hC.2.1 dX7_restore_85 hl (k := 0) rfl (nI_add _ _) (by decide) rfl (fun ls hl => ?_)
    refine lv_iconst (v := nI 0) hC.1 hC.2.1 dX7_restore_88 (by decide) ?_
    refine lv_istore_n (lv' := [(3, .int (nI 0)), (2, .int (nI (3 + 3))), (1, .ref (a 45)), (0, .ref (a 68))]) hC.1 hC.2.1 dX7_restore_89 rfl hl (by decide) rfl (fun ls hl => ?_)
    have L90_2 : ∀ (n : Nat), ∀ (h : Nat), (h ≤ 10) → (10 - h) < n → ∀ (H : Heap) (locs : List Loc) (ls : Array Slot), Wst E (XW E a) (sr (sr (sr σ 4 (upr (σ 45) h (σ 4))) 15 (va_cpy (σ 45) (σ 15) 3 0 3)) 0 (upd (upd (upd (upd (upd (σ 0) 0 (σ 45 0)) 1 (σ 45 1)) 2 (σ 45 2)) 3 (nI (if 16 ≠ 0 then (16 - 1) else 29))) 4 (nI (kp - 1)))) A s.heap H locs → lv_has ls 4 [(0, .ref (a 68)), (1, .ref (a 45)), (2, .int (nI (3 + 3))), (3, .int (nI h))] → W p l e ({ frames := 1, cells := 0, slots := 0, locals := 24 }) s m args below meth c H locs 0 0 Q (F0 m 90 ls []) := by
      intro n
      induction n with
      | zero => intro h hh hn; exact absurd hn (Nat.not_lt_zero _)
      | succ n ih90 =>
        intro h hh hn90 H locs ls hw hl
        refine lv_iload_n hC.1 hC.2.1 dX7_restore_90 rfl (lv_at hl 3 rfl) ?_
        refine lv_bipush (v := nI 10) hC.1 hC.2.1 dX7_restore_91 (by decide) ?_
        refine q_cmpge hC 125 (cNle (by omega) (by omega)) dX7_restore_93 (by decide) (fun (c4 : 10 ≤ h) => ?_) (fun (c4 : h < 10) => ?_)
        · have hh9 : h = 10 := by omega
          rw [hh9] at hw
          refine lv_iinc (v := nI (3 + 3 + 10)) (lv' := [(2, .int (nI (3 + 3 + 10))), (0, .ref (a 68)), (1, .ref (a 45)), (3, .int (nI h))]) hC.1 hC.2.1 dX7_restore_125 hl (k := 2) rfl (nI_add _ _) (by decide) rfl (fun ls hl => ?_)
          refine lv_aload_n hC.1 hC.2.1 dX7_restore_128 rfl (lv_at hl 2 rfl) ?_
          refine lv_iload_n hC.1 hC.2.1 dX7_restore_129 rfl (lv_at hl 0 rfl) ?_
          refine lv_aload_n hC.1 hC.2.1 dX7_restore_130 rfl (lv_at hl 1 rfl) ?_
          refine gf_X7_20 hC hw dX7_restore_131 ?_
          refine gf_X7_53 hC hw dX7_restore_134 ?_
          refine lv_iconst (v := nI 0) hC.1 hC.2.1 dX7_restore_137 (by decide) ?_
          refine lv_bipush (v := nI 24) hC.1 hC.2.1 dX7_restore_138 (by decide) ?_
          refine q_cpy (sp := (3 + 3 + 10)) (dp := 0) (n := 24) 55 rfl 21 rfl (XW_s11 _) hC hw hl (by omega) (by omega) (by decide) (by decide) ⟨Nat.le_of_ble_eq_true rfl, Nat.le_of_ble_eq_true rfl⟩ wk2_182 dX7_restore_140 (fun H locs hw => ?_)
          have hw : Wst E (XW E a) (sr (sr (sr (sr σ 4 (upr (σ 45) 10 (σ 4))) 15 (va_cpy (σ 45) (σ 15) 3 0 3)) 0 (upd (upd (upd (upd (upd (σ 0) 0 (σ 45 0)) 1 (σ 45 1)) 2 (σ 45 2)) 3 (nI (if 16 ≠ 0 then (16 - 1) else 29))) 4 (nI (kp - 1)))) 11 (va_cpy (σ 45) (σ 11) (3 + 3 + 10) 0 24)) A s.heap H locs := hw
          have hst_ : sr (sr (sr (sr σ 4 (upr (σ 45) 10 (σ 4))) 15 (va_cpy (σ 45) (σ 15) 3 0 3)) 0 (upd (upd (upd (upd (upd (σ 0) 0 (σ 45 0)) 1 (σ 45 1)) 2 (σ 45 2)) 3 (nI (if 16 ≠ 0 then (16 - 1) else 29))) 4 (nI (kp - 1)))) 11 (va_cpy (σ 45) (σ 11) (3 + 3 + 10) 0 24) = sr (sr (sr (sr σ 4 (upr (σ 45) 10 (σ 4))) 11 (va_cpy (σ 45) (σ 11) (3 + 3 + 10) 0 24)) 15 (va_cpy (σ 45) (σ 15) 3 0 3)) 0 (upd (upd (upd (upd (upd (σ 0) 0 (σ 45 0)) 1 (σ 45 1)) 2 (σ 45 2)) 3 (nI (if 16 ≠ 0 then (16 - 1) else 29))) 4 (nI (kp - 1))) := by
            funext j_ x_
            by_cases e0 : j_ = 0
            · subst e0
              by_cases y0 : x_ = 0
              · subst y0; rfl
              · by_cases y1 : x_ = 1
                · subst y1; rfl
                · by_cases y2 : x_ = 2
                  · subst y2; rfl
                  · by_cases y3 : x_ = 3
                    · subst y3; rfl
                    · by_cases y4 : x_ = 4
                      · subst y4; rfl
                      · simp [sr, upd, y0, y1, y2, y3, y4]
            · by_cases e4 : j_ = 4
              · subst e4; rfl
              · by_cases e11 : j_ = 11
                · subst e11; rfl
                · by_cases e15 : j_ = 15
                  · subst e15; rfl
                  · simp only [sr, e0, e4, e11, e15, if_false]
          rw [hst_] at hw
          refine lv_aload_n hC.1 hC.2.1 dX7_restore_143 rfl (lv_at hl 2 rfl) ?_
          refine lv_iload_n hC.1 hC.2.1 dX7_restore_144 rfl (lv_at hl 0 rfl) ?_
          refine lv_bipush (v := nI 24) hC.1 hC.2.1 dX7_restore_145 (by decide) ?_
          refine q_addN hC dX7_restore_147 ?_
          refine lv_aload_n hC.1 hC.2.1 dX7_restore_148 rfl (lv_at hl 1 rfl) ?_
          refine gf_X7_20 hC hw dX7_restore_149 ?_
          refine gf_X7_56 hC hw dX7_restore_152 ?_
          refine lv_iconst (v := nI 0) hC.1 hC.2.1 dX7_restore_155 (by decide) ?_
          refine lv_bipush (v := nI 24) hC.1 hC.2.1 dX7_restore_156 (by decide) ?_
          refine q_cpy (sp := ((3 + 3 + 10) + 24)) (dp := 0) (n := 24) 55 rfl 22 rfl (XW_s12 _) hC hw hl (by omega) (by omega) (by decide) (by decide) ⟨Nat.le_of_ble_eq_true rfl, Nat.le_of_ble_eq_true rfl⟩ wk2_182 dX7_restore_158 (fun H locs hw => ?_)
          have hw : Wst E (XW E a) (sr (sr (sr (sr (sr σ 4 (upr (σ 45) 10 (σ 4))) 11 (va_cpy (σ 45) (σ 11) (3 + 3 + 10) 0 24)) 15 (va_cpy (σ 45) (σ 15) 3 0 3)) 0 (upd (upd (upd (upd (upd (σ 0) 0 (σ 45 0)) 1 (σ 45 1)) 2 (σ 45 2)) 3 (nI (if 16 ≠ 0 then (16 - 1) else 29))) 4 (nI (kp - 1)))) 12 (va_cpy (σ 45) (σ 12) ((3 + 3 + 10) + 24) 0 24)) A s.heap H locs := hw
          have hst_ : sr (sr (sr (sr (sr σ 4 (upr (σ 45) 10 (σ 4))) 11 (va_cpy (σ 45) (σ 11) (3 + 3 + 10) 0 24)) 15 (va_cpy (σ 45) (σ 15) 3 0 3)) 0 (upd (upd (upd (upd (upd (σ 0) 0 (σ 45 0)) 1 (σ 45 1)) 2 (σ 45 2)) 3 (nI (if 16 ≠ 0 then (16 - 1) else 29))) 4 (nI (kp - 1)))) 12 (va_cpy (σ 45) (σ 12) ((3 + 3 + 10) + 24) 0 24) = sr (sr (sr (sr (sr σ 4 (upr (σ 45) 10 (σ 4))) 11 (va_cpy (σ 45) (σ 11) (3 + 3 + 10) 0 24)) 12 (va_cpy (σ 45) (σ 12) ((3 + 3 + 10) + 24) 0 24)) 15 (va_cpy (σ 45) (σ 15) 3 0 3)) 0 (upd (upd (upd (upd (upd (σ 0) 0 (σ 45 0)) 1 (σ 45 1)) 2 (σ 45 2)) 3 (nI (if 16 ≠ 0 then (16 - 1) else 29))) 4 (nI (kp - 1))) := by
            funext j_ x_
            by_cases e0 : j_ = 0
            · subst e0
              by_cases y0 : x_ = 0
              · subst y0; rfl
              · by_cases y1 : x_ = 1
                · subst y1; rfl
                · by_cases y2 : x_ = 2
                  · subst y2; rfl
                  · by_cases y3 : x_ = 3
                    · subst y3; rfl
                    · by_cases y4 : x_ = 4
                      · subst y4; rfl
                      · simp [sr, upd, y0, y1, y2, y3, y4]
            · by_cases e4 : j_ = 4
              · subst e4; rfl
              · by_cases e11 : j_ = 11
                · subst e11; rfl
                · by_cases e12 : j_ = 12
                  · subst e12; rfl
                  · by_cases e15 : j_ = 15
                    · subst e15; rfl
                    · simp only [sr, e0, e4, e11, e12, e15, if_false]
          rw [hst_] at hw
          refine lv_aload_n hC.1 hC.2.1 dX7_restore_161 rfl (lv_at hl 2 rfl) ?_
          refine lv_iload_n hC.1 hC.2.1 dX7_restore_162 rfl (lv_at hl 0 rfl) ?_
          refine lv_bipush (v := nI 48) hC.1 hC.2.1 dX7_restore_163 (by decide) ?_
          refine q_addN hC dX7_restore_165 ?_
          refine lv_aload_n hC.1 hC.2.1 dX7_restore_166 rfl (lv_at hl 1 rfl) ?_
          refine gf_X7_20 hC hw dX7_restore_167 ?_
          refine gf_X7_59 hC hw dX7_restore_170 ?_
          refine lv_iconst (v := nI 0) hC.1 hC.2.1 dX7_restore_173 (by decide) ?_
          refine lv_bipush (v := nI 24) hC.1 hC.2.1 dX7_restore_174 (by decide) ?_
          refine q_cpy (sp := ((3 + 3 + 10) + 48)) (dp := 0) (n := 24) 55 rfl 23 rfl (XW_s13 _) hC hw hl (by omega) (by omega) (by decide) (by decide) ⟨Nat.le_of_ble_eq_true rfl, Nat.le_of_ble_eq_true rfl⟩ wk2_182 dX7_restore_176 (fun H locs hw => ?_)
          have hw : Wst E (XW E a) (sr (sr (sr (sr (sr (sr σ 4 (upr (σ 45) 10 (σ 4))) 11 (va_cpy (σ 45) (σ 11) (3 + 3 + 10) 0 24)) 12 (va_cpy (σ 45) (σ 12) ((3 + 3 + 10) + 24) 0 24)) 15 (va_cpy (σ 45) (σ 15) 3 0 3)) 0 (upd (upd (upd (upd (upd (σ 0) 0 (σ 45 0)) 1 (σ 45 1)) 2 (σ 45 2)) 3 (nI (if 16 ≠ 0 then (16 - 1) else 29))) 4 (nI (kp - 1)))) 13 (va_cpy (σ 45) (σ 13) ((3 + 3 + 10) + 48) 0 24)) A s.heap H locs := hw
          have hst_ : sr (sr (sr (sr (sr (sr σ 4 (upr (σ 45) 10 (σ 4))) 11 (va_cpy (σ 45) (σ 11) (3 + 3 + 10) 0 24)) 12 (va_cpy (σ 45) (σ 12) ((3 + 3 + 10) + 24) 0 24)) 15 (va_cpy (σ 45) (σ 15) 3 0 3)) 0 (upd (upd (upd (upd (upd (σ 0) 0 (σ 45 0)) 1 (σ 45 1)) 2 (σ 45 2)) 3 (nI (if 16 ≠ 0 then (16 - 1) else 29))) 4 (nI (kp - 1)))) 13 (va_cpy (σ 45) (σ 13) ((3 + 3 + 10) + 48) 0 24) = sr (sr (sr (sr (sr (sr σ 4 (upr (σ 45) 10 (σ 4))) 11 (va_cpy (σ 45) (σ 11) (3 + 3 + 10) 0 24)) 12 (va_cpy (σ 45) (σ 12) ((3 + 3 + 10) + 24) 0 24)) 13 (va_cpy (σ 45) (σ 13) ((3 + 3 + 10) + 48) 0 24)) 15 (va_cpy (σ 45) (σ 15) 3 0 3)) 0 (upd (upd (upd (upd (upd (σ 0) 0 (σ 45 0)) 1 (σ 45 1)) 2 (σ 45 2)) 3 (nI (if 16 ≠ 0 then (16 - 1) else 29))) 4 (nI (kp - 1))) := by
            funext j_ x_
            by_cases e0 : j_ = 0
            · subst e0
              by_cases y0 : x_ = 0
              · subst y0; rfl
              · by_cases y1 : x_ = 1
                · subst y1; rfl
                · by_cases y2 : x_ = 2
                  · subst y2; rfl
                  · by_cases y3 : x_ = 3
                    · subst y3; rfl
                    · by_cases y4 : x_ = 4
                      · subst y4; rfl
                      · simp [sr, upd, y0, y1, y2, y3, y4]
            · by_cases e4 : j_ = 4
              · subst e4; rfl
              · by_cases e11 : j_ = 11
                · subst e11; rfl
                · by_cases e12 : j_ = 12
                  · subst e12; rfl
                  · by_cases e13 : j_ = 13
                    · subst e13; rfl
                    · by_cases e15 : j_ = 15
                      · subst e15; rfl
                      · simp only [sr, e0, e4, e11, e12, e13, e15, if_false]
          rw [hst_] at hw
          refine lv_aload_n hC.1 hC.2.1 dX7_restore_179 rfl (lv_at hl 2 rfl) ?_
          refine lv_iload_n hC.1 hC.2.1 dX7_restore_180 rfl (lv_at hl 0 rfl) ?_
          refine lv_bipush (v := nI 72) hC.1 hC.2.1 dX7_restore_181 (by decide) ?_
          refine q_addN hC dX7_restore_183 ?_
          refine lv_aload_n hC.1 hC.2.1 dX7_restore_184 rfl (lv_at hl 1 rfl) ?_
          refine gf_X7_20 hC hw dX7_restore_185 ?_
          refine gf_X7_62 hC hw dX7_restore_188 ?_
          refine lv_iconst (v := nI 0) hC.1 hC.2.1 dX7_restore_191 (by decide) ?_
          refine lv_bipush (v := nI 24) hC.1 hC.2.1 dX7_restore_192 (by decide) ?_
          refine q_cpy (sp := ((3 + 3 + 10) + 72)) (dp := 0) (n := 24) 55 rfl 24 rfl (XW_s14 _) hC hw hl (by omega) (by omega) (by decide) (by decide) ⟨Nat.le_of_ble_eq_true rfl, Nat.le_of_ble_eq_true rfl⟩ wk2_182 dX7_restore_194 (fun H locs hw => ?_)
          have hw : Wst E (XW E a) (sr (sr (sr (sr (sr (sr (sr σ 4 (upr (σ 45) 10 (σ 4))) 11 (va_cpy (σ 45) (σ 11) (3 + 3 + 10) 0 24)) 12 (va_cpy (σ 45) (σ 12) ((3 + 3 + 10) + 24) 0 24)) 13 (va_cpy (σ 45) (σ 13) ((3 + 3 + 10) + 48) 0 24)) 15 (va_cpy (σ 45) (σ 15) 3 0 3)) 0 (upd (upd (upd (upd (upd (σ 0) 0 (σ 45 0)) 1 (σ 45 1)) 2 (σ 45 2)) 3 (nI (if 16 ≠ 0 then (16 - 1) else 29))) 4 (nI (kp - 1)))) 14 (va_cpy (σ 45) (σ 14) ((3 + 3 + 10) + 72) 0 24)) A s.heap H locs := hw
          have hst_ : sr (sr (sr (sr (sr (sr (sr σ 4 (upr (σ 45) 10 (σ 4))) 11 (va_cpy (σ 45) (σ 11) (3 + 3 + 10) 0 24)) 12 (va_cpy (σ 45) (σ 12) ((3 + 3 + 10) + 24) 0 24)) 13 (va_cpy (σ 45) (σ 13) ((3 + 3 + 10) + 48) 0 24)) 15 (va_cpy (σ 45) (σ 15) 3 0 3)) 0 (upd (upd (upd (upd (upd (σ 0) 0 (σ 45 0)) 1 (σ 45 1)) 2 (σ 45 2)) 3 (nI (if 16 ≠ 0 then (16 - 1) else 29))) 4 (nI (kp - 1)))) 14 (va_cpy (σ 45) (σ 14) ((3 + 3 + 10) + 72) 0 24) = sr (sr (sr (sr (sr (sr (sr σ 4 (upr (σ 45) 10 (σ 4))) 11 (va_cpy (σ 45) (σ 11) (3 + 3 + 10) 0 24)) 12 (va_cpy (σ 45) (σ 12) ((3 + 3 + 10) + 24) 0 24)) 13 (va_cpy (σ 45) (σ 13) ((3 + 3 + 10) + 48) 0 24)) 14 (va_cpy (σ 45) (σ 14) ((3 + 3 + 10) + 72) 0 24)) 15 (va_cpy (σ 45) (σ 15) 3 0 3)) 0 (upd (upd (upd (upd (upd (σ 0) 0 (σ 45 0)) 1 (σ 45 1)) 2 (σ 45 2)) 3 (nI (if 16 ≠ 0 then (16 - 1) else 29))) 4 (nI (kp - 1))) := by
            funext j_ x_
            by_cases e0 : j_ = 0
            · subst e0
              by_cases y0 : x_ = 0
              · subst y0; rfl
              · by_cases y1 : x_ = 1
                · subst y1; rfl
                · by_cases y2 : x_ = 2
                  · subst y2; rfl
                  · by_cases y3 : x_ = 3
                    · subst y3; rfl
                    · by_cases y4 : x_ = 4
                      · subst y4; rfl
                      · simp [sr, upd, y0, y1, y2, y3, y4]
            · by_cases e4 : j_ = 4
              · subst e4; rfl
              · by_cases e11 : j_ = 11
                · subst e11; rfl
                · by_cases e12 : j_ = 12
                  · subst e12; rfl
                  · by_cases e13 : j_ = 13
                    · subst e13; rfl
                    · by_cases e14 : j_ = 14
                      · subst e14; rfl
                      · by_cases e15 : j_ = 15
                        · subst e15; rfl
                        · simp only [sr, e0, e4, e11, e12, e13, e14, e15, if_false]
          rw [hst_] at hw
          refine hret _ _ _ _ _ hw ?_ dX7_restore_197
          exact rfl
        · refine lv_aload_n hC.1 hC.2.1 dX7_restore_96 rfl (lv_at hl 0 rfl) ?_
          refine gf_X7_16 hC hw dX7_restore_97 ?_
          refine gf_X7_49 hC hw dX7_restore_100 ?_
          refine lv_iload_n hC.1 hC.2.1 dX7_restore_103 rfl (lv_at hl 3 rfl) ?_
          refine lv_aload_n hC.1 hC.2.1 dX7_restore_104 rfl (lv_at hl 1 rfl) ?_
          refine lv_iload_n hC.1 hC.2.1 dX7_restore_105 rfl (lv_at hl 2 rfl) ?_
          refine lv_iload_n hC.1 hC.2.1 dX7_restore_106 rfl (lv_at hl 3 rfl) ?_
          refine q_addN hC dX7_restore_107 ?_
          refine q_ald (Wf := XW E a) (v := σ 45 ((3 + 3) + h)) 55 rfl (by decide) hC hw (by omega) rfl dX7_restore_108 ?_
          refine lv_iconst (v := nI 1) hC.1 hC.2.1 dX7_restore_109 (by decide) ?_
          have J118_6 : ∀ (w5 : Int32), w5 = (if (σ 45 ((3 + 3) + h)) = 1 then (1 : Int32) else 0) → ∀ (H : Heap) (locs : List Loc) (ls : Array Slot), Wst E (XW E a) (sr (sr (sr σ 4 (upr (σ 45) h (σ 4))) 15 (va_cpy (σ 45) (σ 15) 3 0 3)) 0 (upd (upd (upd (upd (upd (σ 0) 0 (σ 45 0)) 1 (σ 45 1)) 2 (σ 45 2)) 3 (nI (if 16 ≠ 0 then (16 - 1) else 29))) 4 (nI (kp - 1)))) A s.heap H locs → lv_has ls 4 [(0, .ref (a 68)), (1, .ref (a 45)), (2, .int (nI (3 + 3))), (3, .int (nI h))] → W p l e ({ frames := 1, cells := 0, slots := 0, locals := 24 }) s m args below meth c H locs 0 0 Q (F0 m 118 ls [.int (w5), .int (nI h), .ref (a 4)]) := by
            intro w5 e6 H locs ls hw hl
            subst e6
            refine as_X4 hC hw (by omega) vz_B dX7_restore_118 (fun H locs hw => ?_)
            have hw : Wst E (XW E a) (sr (sr (sr (sr σ 4 (upr (σ 45) h (σ 4))) 15 (va_cpy (σ 45) (σ 15) 3 0 3)) 0 (upd (upd (upd (upd (upd (σ 0) 0 (σ 45 0)) 1 (σ 45 1)) 2 (σ 45 2)) 3 (nI (if 16 ≠ 0 then (16 - 1) else 29))) 4 (nI (kp - 1)))) 4 (upd (upr (σ 45) h (σ 4)) h (if (σ 45 ((3 + 3) + h)) = 1 then (1 : Int32) else 0))) A s.heap H locs := hw
            have hst_ : sr (sr (sr (sr σ 4 (upr (σ 45) h (σ 4))) 15 (va_cpy (σ 45) (σ 15) 3 0 3)) 0 (upd (upd (upd (upd (upd (σ 0) 0 (σ 45 0)) 1 (σ 45 1)) 2 (σ 45 2)) 3 (nI (if 16 ≠ 0 then (16 - 1) else 29))) 4 (nI (kp - 1)))) 4 (upd (upr (σ 45) h (σ 4)) h (if (σ 45 ((3 + 3) + h)) = 1 then (1 : Int32) else 0)) = sr (sr (sr σ 4 (upd (upr (σ 45) h (σ 4)) h (if (σ 45 ((3 + 3) + h)) = 1 then (1 : Int32) else 0))) 15 (va_cpy (σ 45) (σ 15) 3 0 3)) 0 (upd (upd (upd (upd (upd (σ 0) 0 (σ 45 0)) 1 (σ 45 1)) 2 (σ 45 2)) 3 (nI (if 16 ≠ 0 then (16 - 1) else 29))) 4 (nI (kp - 1))) := by
              funext j_ x_
              by_cases e0 : j_ = 0
              · subst e0
                by_cases y0 : x_ = 0
                · subst y0; rfl
                · by_cases y1 : x_ = 1
                  · subst y1; rfl
                  · by_cases y2 : x_ = 2
                    · subst y2; rfl
                    · by_cases y3 : x_ = 3
                      · subst y3; rfl
                      · by_cases y4 : x_ = 4
                        · subst y4; rfl
                        · simp [sr, upd, y0, y1, y2, y3, y4]
              · by_cases e4 : j_ = 4
                · subst e4; rfl
                · by_cases e15 : j_ = 15
                  · subst e15; rfl
                  · simp only [sr, e0, e4, e15, if_false]
            rw [hst_] at hw
            refine lv_iinc (v := nI (h + 1)) (lv' := [(3, .int (nI (h + 1))), (0, .ref (a 68)), (1, .ref (a 45)), (2, .int (nI (3 + 3)))]) hC.1 hC.2.1 dX7_restore_119 hl (k := 3) rfl (nI_add _ _) (by decide) rfl (fun ls hl => ?_)
            refine lv_goto (tgt := 90) hC.1 hC.2.1 dX7_restore_122 (by decide) ?_
            rw [upr_s] at hw
            exact ih90 (h + 1) (by omega) (by omega) _ _ _ hw (lv_sub hl [1, 2, 3, 0] rfl)
          refine q_cmpne hC 117 cI dX7_restore_110 (by decide) (fun (c7 : ¬ ((σ 45 ((3 + 3) + h)) = 1)) => ?_) (fun (c7 : (σ 45 ((3 + 3) + h)) = 1) => ?_)
          · refine lv_iconst (v := nI 0) hC.1 hC.2.1 dX7_restore_117 (by decide) ?_
            exact J118_6 _ (if_neg c7).symm _ _ _ hw (lv_sub hl [0, 1, 2, 3] rfl)
          · refine lv_iconst (v := nI 1) hC.1 hC.2.1 dX7_restore_113 (by decide) ?_
            refine lv_goto (tgt := 118) hC.1 hC.2.1 dX7_restore_114 (by decide) ?_
            exact J118_6 _ (if_pos c7).symm _ _ _ hw (lv_sub hl [0, 1, 2, 3] rfl)
    have hst_ : sr (sr σ 15 (va_cpy (σ 45) (σ 15) 3 0 3)) 0 (upd (upd (upd (upd (upd (σ 0) 0 (σ 45 0)) 1 (σ 45 1)) 2 (σ 45 2)) 3 (nI (if 16 ≠ 0 then (16 - 1) else 29))) 4 (nI (kp - 1))) = sr (sr (sr σ 4 (upr (σ 45) 0 (σ 4))) 15 (va_cpy (σ 45) (σ 15) 3 0 3)) 0 (upd (upd (upd (upd (upd (σ 0) 0 (σ 45 0)) 1 (σ 45 1)) 2 (σ 45 2)) 3 (nI (if 16 ≠ 0 then (16 - 1) else 29))) 4 (nI (kp - 1))) := by
      funext j_ x_
      by_cases e0 : j_ = 0
      · subst e0
        by_cases y0 : x_ = 0
        · subst y0; rfl
        · by_cases y1 : x_ = 1
          · subst y1; rfl
          · by_cases y2 : x_ = 2
            · subst y2; rfl
            · by_cases y3 : x_ = 3
              · subst y3; rfl
              · by_cases y4 : x_ = 4
                · subst y4; rfl
                · simp [sr, upd, y0, y1, y2, y3, y4]
      · by_cases e4 : j_ = 4
        · subst e4; show σ 4 x_ = upr (σ 45) 0 (σ 4) x_; rw [upr_0]
        · by_cases e15 : j_ = 15
          · subst e15; rfl
          · simp only [sr, e0, e4, e15, if_false]
    rw [hst_] at hw
    exact L90_2 _ 0 (by omega) (Nat.lt_succ_self _) _ _ _ hw (lv_sub hl [3, 2, 1, 0] rfl)
  refine q_ifne hC 13 (cN0 (by omega)) dX7_restore_5 (by decide) (fun (c8 : 16 ≠ 0) => ?_) (fun (c8 : 16 = 0) => ?_)
  · refine lv_aload_n hC.1 hC.2.1 dX7_restore_13 rfl (lv_at hl 0 rfl) ?_
    refine gf_X7_28 (v := nI 16) hC hw hnx dX7_restore_14 ?_
    refine lv_iconst (v := nI 1) hC.1 hC.2.1 dX7_restore_17 (by decide) ?_
    refine q_subN hC (by omega) dX7_restore_18 ?_
    exact J19_2 _ (by (rw [if_pos c8]) <;> rfl) _ _ _ hw (lv_sub hl [0] rfl)
  · refine lv_bipush (v := nI 29) hC.1 hC.2.1 dX7_restore_8 (by decide) ?_
    refine lv_goto (tgt := 19) hC.1 hC.2.1 dX7_restore_10 (by decide) ?_
    exact J19_2 _ (by (rw [if_neg (fun q => q c8)]) <;> rfl) _ _ _ hw (lv_sub hl [0] rfl)
set_option maxHeartbeats 4000000 in
set_option maxRecDepth 100000 in
theorem tX7_restore_k17 (l : Launch) (E : EV) (a : Nat → Nat) (σ : St) (kp : Nat) (hnx : σ 0 3 = nI 17) (hkp : σ 0 4 = nI kp) (hk30 : kp ≤ 30) (hk1 : 1 ≤ kp) : MV l E (XW E a) yX7_restore (Cond.code yX7_restore cX7_restore 4 none) ({ frames := 1, cells := 0, slots := 0, locals := 24 }) [.ref (a 68)] σ (fun u_ => u_ = sr (sr (sr (sr (sr (sr (sr σ 4 (upr (σ 46) 10 (σ 4))) 11 (va_cpy (σ 46) (σ 11) 16 0 24)) 12 (va_cpy (σ 46) (σ 12) 40 0 24)) 13 (va_cpy (σ 46) (σ 13) 64 0 24)) 14 (va_cpy (σ 46) (σ 14) 88 0 24)) 15 (va_cpy (σ 46) (σ 15) 3 0 3)) 0 (upd (upd (upd (upd (upd (σ 0) 0 ((σ 46) 0)) 1 ((σ 46) 1)) 2 ((σ 46) 2)) 3 (nI (if 17 ≠ 0 then 17 - 1 else 29))) 4 (nI (kp - 1)))) := by
  refine MV.mk (by decide +kernel) (Nat.le_of_ble_eq_true rfl) ?_
  intro p e s m args below meth c ls A Q hret hC hw hl
  have hC : Cxt E p s m args meth c cX7_restore 4 none RX7 A := hC
  have hl : lv_has ls 4 [(0, .ref (a 68))] := hl
  refine lv_aload_n hC.1 hC.2.1 dX7_restore_0 rfl (lv_at hl 0 rfl) ?_
  refine lv_aload_n hC.1 hC.2.1 dX7_restore_1 rfl (lv_at hl 0 rfl) ?_
  refine gf_X7_28 (v := nI 17) hC hw hnx dX7_restore_2 ?_
  have J19_2 : ∀ (w1 : Nat), w1 = (if 17 ≠ 0 then (17 - 1) else 29) → ∀ (H : Heap) (locs : List Loc) (ls : Array Slot), Wst E (XW E a) (σ) A s.heap H locs → lv_has ls 4 [(0, .ref (a 68))] → W p l e ({ frames := 1, cells := 0, slots := 0, locals := 24 }) s m args below meth c H locs 0 0 Q (F0 m 19 ls [.int (nI w1), .ref (a 68)]) := by
    intro w1 e2 H locs ls hw hl
    subst e2
    refine pf_X7_28 hC hw dX7_restore_19 (fun H locs hw => ?_)
    have hw : Wst E (XW E a) (sr σ 0 (upd (σ 0) 3 (nI (if 17 ≠ 0 then (17 - 1) else 29)))) A s.heap H locs := hw
    refine lv_aload_n hC.1 hC.2.1 dX7_restore_22 rfl (lv_at hl 0 rfl) ?_
    refine lv_dup hC.1 hC.2.1 dX7_restore_23 rfl ?_
    refine gf_X7_65 (v := nI kp) hC hw hkp dX7_restore_24 ?_
    refine lv_iconst (v := nI 1) hC.1 hC.2.1 dX7_restore_27 (by decide) ?_
    refine q_subN hC (by omega) dX7_restore_28 ?_
    refine pf_X7_65 hC hw dX7_restore_29 (fun H locs hw => ?_)
    have hw : Wst E (XW E a) (sr (sr σ 0 (upd (σ 0) 3 (nI (if 17 ≠ 0 then (17 - 1) else 29)))) 0 (upd (upd (σ 0) 3 (nI (if 17 ≠ 0 then (17 - 1) else 29))) 4 (nI (kp - 1)))) A s.heap H locs := hw
    have hst_ : sr (sr σ 0 (upd (σ 0) 3 (nI (if 17 ≠ 0 then (17 - 1) else 29)))) 0 (upd (upd (σ 0) 3 (nI (if 17 ≠ 0 then (17 - 1) else 29))) 4 (nI (kp - 1))) = sr σ 0 (upd (upd (σ 0) 3 (nI (if 17 ≠ 0 then (17 - 1) else 29))) 4 (nI (kp - 1))) := by
      funext j_ x_
      by_cases e0 : j_ = 0
      · subst e0
        by_cases y3 : x_ = 3
        · subst y3; rfl
        · by_cases y4 : x_ = 4
          · subst y4; rfl
          · simp [sr, upd, y3, y4]
      · simp only [sr, e0, if_false]
    rw [hst_] at hw
    refine lv_aload_n hC.1 hC.2.1 dX7_restore_32 rfl (lv_at hl 0 rfl) ?_
    refine gf_X7_13 hC hw dX7_restore_33 ?_
    refine lv_aload_n hC.1 hC.2.1 dX7_restore_36 rfl (lv_at hl 0 rfl) ?_
    refine gf_X7_28 (v := nI (if 17 ≠ 0 then (17 - 1) else 29)) hC hw rfl dX7_restore_37 ?_
    refine q_top (y := nI 16) rfl ?_
    refine q_aald hC hw (i := 16) (by decide) dX7_restore_40 ?_
    refine lv_astore_n (lv' := [(1, .ref (a 46)), (0, .ref (a 68))]) hC.1 hC.2.1 dX7_restore_41 rfl hl (by decide) rfl (fun ls hl => ?_)
    refine lv_aload_n hC.1 hC.2.1 dX7_restore_42 rfl (lv_at hl 1 rfl) ?_
    refine gf_X7_16 hC hw dX7_restore_43 ?_
    refine lv_aload_n hC.1 hC.2.1 dX7_restore_46 rfl (lv_at hl 0 rfl) ?_
    refine lv_iconst (v := nI 0) hC.1 hC.2.1 dX7_restore_47 (by decide) ?_
    refine q_ald (Wf := XW E a) (v := σ 46 0) 56 rfl (by decide) hC hw (by omega) rfl dX7_restore_48 ?_
    refine pf_X7_32 hC hw dX7_restore_49 (fun H locs hw => ?_)
    have hw : Wst E (XW E a) (sr (sr σ 0 (upd (upd (σ 0) 3 (nI (if 17 ≠ 0 then (17 - 1) else 29))) 4 (nI (kp - 1)))) 0 (upd (upd (upd (σ 0) 3 (nI (if 17 ≠ 0 then (17 - 1) else 29))) 4 (nI (kp - 1))) 0 (σ 46 0))) A s.heap H locs := hw
    have hst_ : sr (sr σ 0 (upd (upd (σ 0) 3 (nI (if 17 ≠ 0 then (17 - 1) else 29))) 4 (nI (kp - 1)))) 0 (upd (upd (upd (σ 0) 3 (nI (if 17 ≠ 0 then (17 - 1) else 29))) 4 (nI (kp - 1))) 0 (σ 46 0)) = sr σ 0 (upd (upd (upd (σ 0) 0 (σ 46 0)) 3 (nI (if 17 ≠ 0 then (17 - 1) else 29))) 4 (nI (kp - 1))) := by
      funext j_ x_
      by_cases e0 : j_ = 0
      · subst e0
        by_cases y0 : x_ = 0
        · subst y0; rfl
        · by_cases y3 : x_ = 3
          · subst y3; rfl
          · by_cases y4 : x_ = 4
            · subst y4; rfl
            · simp [sr, upd, y0, y3, y4]
      · simp only [sr, e0, if_false]
    rw [hst_] at hw
    refine lv_aload_n hC.1 hC.2.1 dX7_restore_52 rfl (lv_at hl 1 rfl) ?_
    refine gf_X7_20 hC hw dX7_restore_53 ?_
    refine lv_aload_n hC.1 hC.2.1 dX7_restore_56 rfl (lv_at hl 0 rfl) ?_
    refine lv_iconst (v := nI 1) hC.1 hC.2.1 dX7_restore_57 (by decide) ?_
    refine q_ald (Wf := XW E a) (v := σ 46 1) 56 rfl (by decide) hC hw (by omega) rfl dX7_restore_58 ?_
    refine pf_X7_37 hC hw dX7_restore_59 (fun H locs hw => ?_)
    have hw : Wst E (XW E a) (sr (sr σ 0 (upd (upd (upd (σ 0) 0 (σ 46 0)) 3 (nI (if 17 ≠ 0 then (17 - 1) else 29))) 4 (nI (kp - 1)))) 0 (upd (upd (upd (upd (σ 0) 0 (σ 46 0)) 3 (nI (if 17 ≠ 0 then (17 - 1) else 29))) 4 (nI (kp - 1))) 1 (σ 46 1))) A s.heap H locs := hw
    have hst_ : sr (sr σ 0 (upd (upd (upd (σ 0) 0 (σ 46 0)) 3 (nI (if 17 ≠ 0 then (17 - 1) else 29))) 4 (nI (kp - 1)))) 0 (upd (upd (upd (upd (σ 0) 0 (σ 46 0)) 3 (nI (if 17 ≠ 0 then (17 - 1) else 29))) 4 (nI (kp - 1))) 1 (σ 46 1)) = sr σ 0 (upd (upd (upd (upd (σ 0) 0 (σ 46 0)) 1 (σ 46 1)) 3 (nI (if 17 ≠ 0 then (17 - 1) else 29))) 4 (nI (kp - 1))) := by
      funext j_ x_
      by_cases e0 : j_ = 0
      · subst e0
        by_cases y0 : x_ = 0
        · subst y0; rfl
        · by_cases y1 : x_ = 1
          · subst y1; rfl
          · by_cases y3 : x_ = 3
            · subst y3; rfl
            · by_cases y4 : x_ = 4
              · subst y4; rfl
              · simp [sr, upd, y0, y1, y3, y4]
      · simp only [sr, e0, if_false]
    rw [hst_] at hw
    refine lv_aload_n hC.1 hC.2.1 dX7_restore_62 rfl (lv_at hl 1 rfl) ?_
    refine gf_X7_20 hC hw dX7_restore_63 ?_
    refine lv_aload_n hC.1 hC.2.1 dX7_restore_66 rfl (lv_at hl 0 rfl) ?_
    refine lv_iconst (v := nI 2) hC.1 hC.2.1 dX7_restore_67 (by decide) ?_
    refine q_ald (Wf := XW E a) (v := σ 46 2) 56 rfl (by decide) hC hw (by omega) rfl dX7_restore_68 ?_
    refine pf_X7_40 hC hw dX7_restore_69 (fun H locs hw => ?_)
    have hw : Wst E (XW E a) (sr (sr σ 0 (upd (upd (upd (upd (σ 0) 0 (σ 46 0)) 1 (σ 46 1)) 3 (nI (if 17 ≠ 0 then (17 - 1) else 29))) 4 (nI (kp - 1)))) 0 (upd (upd (upd (upd (upd (σ 0) 0 (σ 46 0)) 1 (σ 46 1)) 3 (nI (if 17 ≠ 0 then (17 - 1) else 29))) 4 (nI (kp - 1))) 2 (σ 46 2))) A s.heap H locs := hw
    have hst_ : sr (sr σ 0 (upd (upd (upd (upd (σ 0) 0 (σ 46 0)) 1 (σ 46 1)) 3 (nI (if 17 ≠ 0 then (17 - 1) else 29))) 4 (nI (kp - 1)))) 0 (upd (upd (upd (upd (upd (σ 0) 0 (σ 46 0)) 1 (σ 46 1)) 3 (nI (if 17 ≠ 0 then (17 - 1) else 29))) 4 (nI (kp - 1))) 2 (σ 46 2)) = sr σ 0 (upd (upd (upd (upd (upd (σ 0) 0 (σ 46 0)) 1 (σ 46 1)) 2 (σ 46 2)) 3 (nI (if 17 ≠ 0 then (17 - 1) else 29))) 4 (nI (kp - 1))) := by
      funext j_ x_
      by_cases e0 : j_ = 0
      · subst e0
        by_cases y0 : x_ = 0
        · subst y0; rfl
        · by_cases y1 : x_ = 1
          · subst y1; rfl
          · by_cases y2 : x_ = 2
            · subst y2; rfl
            · by_cases y3 : x_ = 3
              · subst y3; rfl
              · by_cases y4 : x_ = 4
                · subst y4; rfl
                · simp [sr, upd, y0, y1, y2, y3, y4]
      · simp only [sr, e0, if_false]
    rw [hst_] at hw
    refine lv_iconst (v := nI 3) hC.1 hC.2.1 dX7_restore_72 (by decide) ?_
    refine lv_istore_n (lv' := [(2, .int (nI 3)), (1, .ref (a 46)), (0, .ref (a 68))]) hC.1 hC.2.1 dX7_restore_73 rfl hl (by decide) rfl (fun ls hl => ?_)
    refine lv_aload_n hC.1 hC.2.1 dX7_restore_74 rfl (lv_at hl 1 rfl) ?_
    refine lv_iload_n hC.1 hC.2.1 dX7_restore_75 rfl (lv_at hl 0 rfl) ?_
    refine lv_aload_n hC.1 hC.2.1 dX7_restore_76 rfl (lv_at hl 2 rfl) ?_
    refine gf_X7_24 hC hw dX7_restore_77 ?_
    refine lv_iconst (v := nI 0) hC.1 hC.2.1 dX7_restore_80 (by decide) ?_
    refine lv_iconst (v := nI 3) hC.1 hC.2.1 dX7_restore_81 (by decide) ?_
    refine q_cpy (sp := 3) (dp := 0) (n := 3) 56 rfl 25 rfl (XW_s15 _) hC hw hl (by omega) (by omega) (by decide) (by decide) ⟨Nat.le_of_ble_eq_true rfl, Nat.le_of_ble_eq_true rfl⟩ wk2_182 dX7_restore_82 (fun H locs hw => ?_)
    have hw : Wst E (XW E a) (sr (sr σ 0 (upd (upd (upd (upd (upd (σ 0) 0 (σ 46 0)) 1 (σ 46 1)) 2 (σ 46 2)) 3 (nI (if 17 ≠ 0 then (17 - 1) else 29))) 4 (nI (kp - 1)))) 15 (va_cpy (σ 46) (σ 15) 3 0 3)) A s.heap H locs := hw
    have hst_ : sr (sr σ 0 (upd (upd (upd (upd (upd (σ 0) 0 (σ 46 0)) 1 (σ 46 1)) 2 (σ 46 2)) 3 (nI (if 17 ≠ 0 then (17 - 1) else 29))) 4 (nI (kp - 1)))) 15 (va_cpy (σ 46) (σ 15) 3 0 3) = sr (sr σ 15 (va_cpy (σ 46) (σ 15) 3 0 3)) 0 (upd (upd (upd (upd (upd (σ 0) 0 (σ 46 0)) 1 (σ 46 1)) 2 (σ 46 2)) 3 (nI (if 17 ≠ 0 then (17 - 1) else 29))) 4 (nI (kp - 1))) := by
      funext j_ x_
      by_cases e0 : j_ = 0
      · subst e0
        by_cases y0 : x_ = 0
        · subst y0; rfl
        · by_cases y1 : x_ = 1
          · subst y1; rfl
          · by_cases y2 : x_ = 2
            · subst y2; rfl
            · by_cases y3 : x_ = 3
              · subst y3; rfl
              · by_cases y4 : x_ = 4
                · subst y4; rfl
                · simp [sr, upd, y0, y1, y2, y3, y4]
      · by_cases e15 : j_ = 15
        · subst e15; rfl
        · simp only [sr, e0, e15, if_false]
    rw [hst_] at hw
    refine lv_iinc (v := nI (3 + 3)) (lv' := [(2, .int (nI (3 + 3))), (1, .ref (a 46)), (0, .ref (a 68))]) hC.1 hC.2.1 dX7_restore_85 hl (k := 0) rfl (nI_add _ _) (by decide) rfl (fun ls hl => ?_)
    refine lv_iconst (v := nI 0) hC.1 hC.2.1 dX7_restore_88 (by decide) ?_
    refine lv_istore_n (lv' := [(3, .int (nI 0)), (2, .int (nI (3 + 3))), (1, .ref (a 46)), (0, .ref (a 68))]) hC.1 hC.2.1 dX7_restore_89 rfl hl (by decide) rfl (fun ls hl => ?_)
    have L90_2 : ∀ (n : Nat), ∀ (h : Nat), (h ≤ 10) → (10 - h) < n → ∀ (H : Heap) (locs : List Loc) (ls : Array Slot), Wst E (XW E a) (sr (sr (sr σ 4 (upr (σ 46) h (σ 4))) 15 (va_cpy (σ 46) (σ 15) 3 0 3)) 0 (upd (upd (upd (upd (upd (σ 0) 0 (σ 46 0)) 1 (σ 46 1)) 2 (σ 46 2)) 3 (nI (if 17 ≠ 0 then (17 - 1) else 29))) 4 (nI (kp - 1)))) A s.heap H locs → lv_has ls 4 [(0, .ref (a 68)), (1, .ref (a 46)), (2, .int (nI (3 + 3))), (3, .int (nI h))] → W p l e ({ frames := 1, cells := 0, slots := 0, locals := 24 }) s m args below meth c H locs 0 0 Q (F0 m 90 ls []) := by
      intro n
      induction n with
      | zero => intro h hh hn; exact absurd hn (Nat.not_lt_zero _)
      | succ n ih90 =>
        intro h hh hn90 H locs ls hw hl
        refine lv_iload_n hC.1 hC.2.1 dX7_restore_90 rfl (lv_at hl 3 rfl) ?_
        refine lv_bipush (v := nI 10) hC.1 hC.2.1 dX7_restore_91 (by decide) ?_
        refine q_cmpge hC 125 (cNle (by omega) (by omega)) dX7_restore_93 (by decide) (fun (c4 : 10 ≤ h) => ?_) (fun (c4 : h < 10) => ?_)
        · have hh9 : h = 10 := by omega
          rw [hh9] at hw
          refine lv_iinc (v := nI (3 + 3 + 10)) (lv' := [(2, .int (nI (3 + 3 + 10))), (0, .ref (a 68)), (1, .ref (a 46)), (3, .int (nI h))]) hC.1 hC.2.1 dX7_restore_125 hl (k := 2) rfl (nI_add _ _) (by decide) rfl (fun ls hl => ?_)
          refine lv_aload_n hC.1 hC.2.1 dX7_restore_128 rfl (lv_at hl 2 rfl) ?_
          refine lv_iload_n hC.1 hC.2.1 dX7_restore_129 rfl (lv_at hl 0 rfl) ?_
          refine lv_aload_n hC.1 hC.2.1 dX7_restore_130 rfl (lv_at hl 1 rfl) ?_
          refine gf_X7_20 hC hw dX7_restore_131 ?_
          refine gf_X7_53 hC hw dX7_restore_134 ?_
          refine lv_iconst (v := nI 0) hC.1 hC.2.1 dX7_restore_137 (by decide) ?_
          refine lv_bipush (v := nI 24) hC.1 hC.2.1 dX7_restore_138 (by decide) ?_
          refine q_cpy (sp := (3 + 3 + 10)) (dp := 0) (n := 24) 56 rfl 21 rfl (XW_s11 _) hC hw hl (by omega) (by omega) (by decide) (by decide) ⟨Nat.le_of_ble_eq_true rfl, Nat.le_of_ble_eq_true rfl⟩ wk2_182 dX7_restore_140 (fun H locs hw => ?_)
          have hw : Wst E (XW E a) (sr (sr (sr (sr σ 4 (upr (σ 46) 10 (σ 4))) 15 (va_cpy (σ 46) (σ 15) 3 0 3)) 0 (upd (upd (upd (upd (upd (σ 0) 0 (σ 46 0)) 1 (σ 46 1)) 2 (σ 46 2)) 3 (nI (if 17 ≠ 0 then (17 - 1) else 29))) 4 (nI (kp - 1)))) 11 (va_cpy (σ 46) (σ 11) (3 + 3 + 10) 0 24)) A s.heap H locs := hw
          have hst_ : sr (sr (sr (sr σ 4 (upr (σ 46) 10 (σ 4))) 15 (va_cpy (σ 46) (σ 15) 3 0 3)) 0 (upd (upd (upd (upd (upd (σ 0) 0 (σ 46 0)) 1 (σ 46 1)) 2 (σ 46 2)) 3 (nI (if 17 ≠ 0 then (17 - 1) else 29))) 4 (nI (kp - 1)))) 11 (va_cpy (σ 46) (σ 11) (3 + 3 + 10) 0 24) = sr (sr (sr (sr σ 4 (upr (σ 46) 10 (σ 4))) 11 (va_cpy (σ 46) (σ 11) (3 + 3 + 10) 0 24)) 15 (va_cpy (σ 46) (σ 15) 3 0 3)) 0 (upd (upd (upd (upd (upd (σ 0) 0 (σ 46 0)) 1 (σ 46 1)) 2 (σ 46 2)) 3 (nI (if 17 ≠ 0 then (17 - 1) else 29))) 4 (nI (kp - 1))) := by
            funext j_ x_
            by_cases e0 : j_ = 0
            · subst e0
              by_cases y0 : x_ = 0
              · subst y0; rfl
              · by_cases y1 : x_ = 1
                · subst y1; rfl
                · by_cases y2 : x_ = 2
                  · subst y2; rfl
                  · by_cases y3 : x_ = 3
                    · subst y3; rfl
                    · by_cases y4 : x_ = 4
                      · subst y4; rfl
                      · simp [sr, upd, y0, y1, y2, y3, y4]
            · by_cases e4 : j_ = 4
              · subst e4; rfl
              · by_cases e11 : j_ = 11
                · subst e11; rfl
                · by_cases e15 : j_ = 15
                  · subst e15; rfl
                  · simp only [sr, e0, e4, e11, e15, if_false]
          rw [hst_] at hw
          refine lv_aload_n hC.1 hC.2.1 dX7_restore_143 rfl (lv_at hl 2 rfl) ?_
          refine lv_iload_n hC.1 hC.2.1 dX7_restore_144 rfl (lv_at hl 0 rfl) ?_
          refine lv_bipush (v := nI 24) hC.1 hC.2.1 dX7_restore_145 (by decide) ?_
          refine q_addN hC dX7_restore_147 ?_
          refine lv_aload_n hC.1 hC.2.1 dX7_restore_148 rfl (lv_at hl 1 rfl) ?_
          refine gf_X7_20 hC hw dX7_restore_149 ?_
          refine gf_X7_56 hC hw dX7_restore_152 ?_
          refine lv_iconst (v := nI 0) hC.1 hC.2.1 dX7_restore_155 (by decide) ?_
          refine lv_bipush (v := nI 24) hC.1 hC.2.1 dX7_restore_156 (by decide) ?_
          refine q_cpy (sp := ((3 + 3 + 10) + 24)) (dp := 0) (n := 24) 56 rfl 22 rfl (XW_s12 _) hC hw hl (by omega) (by omega) (by decide) (by decide) ⟨Nat.le_of_ble_eq_true rfl, Nat.le_of_ble_eq_true rfl⟩ wk2_182 dX7_restore_158 (fun H locs hw => ?_)
          have hw : Wst E (XW E a) (sr (sr (sr (sr (sr σ 4 (upr (σ 46) 10 (σ 4))) 11 (va_cpy (σ 46) (σ 11) (3 + 3 + 10) 0 24)) 15 (va_cpy (σ 46) (σ 15) 3 0 3)) 0 (upd (upd (upd (upd (upd (σ 0) 0 (σ 46 0)) 1 (σ 46 1)) 2 (σ 46 2)) 3 (nI (if 17 ≠ 0 then (17 - 1) else 29))) 4 (nI (kp - 1)))) 12 (va_cpy (σ 46) (σ 12) ((3 + 3 + 10) + 24) 0 24)) A s.heap H locs := hw
          have hst_ : sr (sr (sr (sr (sr σ 4 (upr (σ 46) 10 (σ 4))) 11 (va_cpy (σ 46) (σ 11) (3 + 3 + 10) 0 24)) 15 (va_cpy (σ 46) (σ 15) 3 0 3)) 0 (upd (upd (upd (upd (upd (σ 0) 0 (σ 46 0)) 1 (σ 46 1)) 2 (σ 46 2)) 3 (nI (if 17 ≠ 0 then (17 - 1) else 29))) 4 (nI (kp - 1)))) 12 (va_cpy (σ 46) (σ 12) ((3 + 3 + 10) + 24) 0 24) = sr (sr (sr (sr (sr σ 4 (upr (σ 46) 10 (σ 4))) 11 (va_cpy (σ 46) (σ 11) (3 + 3 + 10) 0 24)) 12 (va_cpy (σ 46) (σ 12) ((3 + 3 + 10) + 24) 0 24)) 15 (va_cpy (σ 46) (σ 15) 3 0 3)) 0 (upd (upd (upd (upd (upd (σ 0) 0 (σ 46 0)) 1 (σ 46 1)) 2 (σ 46 2)) 3 (nI (if 17 ≠ 0 then (17 - 1) else 29))) 4 (nI (kp - 1))) := by
            funext j_ x_
            by_cases e0 : j_ = 0
            · subst e0
              by_cases y0 : x_ = 0
              · subst y0; rfl
              · by_cases y1 : x_ = 1
                · subst y1; rfl
                · by_cases y2 : x_ = 2
                  · subst y2; rfl
                  · by_cases y3 : x_ = 3
                    · subst y3; rfl
                    · by_cases y4 : x_ = 4
                      · subst y4; rfl
                      · simp [sr, upd, y0, y1, y2, y3, y4]
            · by_cases e4 : j_ = 4
              · subst e4; rfl
              · by_cases e11 : j_ = 11
                · subst e11; rfl
                · by_cases e12 : j_ = 12
                  · subst e12; rfl
                  · by_cases e15 : j_ = 15
                    · subst e15; rfl
                    · simp only [sr, e0, e4, e11, e12, e15, if_false]
          rw [hst_] at hw
          refine lv_aload_n hC.1 hC.2.1 dX7_restore_161 rfl (lv_at hl 2 rfl) ?_
          refine lv_iload_n hC.1 hC.2.1 dX7_restore_162 rfl (lv_at hl 0 rfl) ?_
          refine lv_bipush (v := nI 48) hC.1 hC.2.1 dX7_restore_163 (by decide) ?_
          refine q_addN hC dX7_restore_165 ?_
          refine lv_aload_n hC.1 hC.2.1 dX7_restore_166 rfl (lv_at hl 1 rfl) ?_
          refine gf_X7_20 hC hw dX7_restore_167 ?_
          refine gf_X7_59 hC hw dX7_restore_170 ?_
          refine lv_iconst (v := nI 0) hC.1 hC.2.1 dX7_restore_173 (by decide) ?_
          refine lv_bipush (v := nI 24) hC.1 hC.2.1 dX7_restore_174 (by decide) ?_
          refine q_cpy (sp := ((3 + 3 + 10) + 48)) (dp := 0) (n := 24) 56 rfl 23 rfl (XW_s13 _) hC hw hl (by omega) (by omega) (by decide) (by decide) ⟨Nat.le_of_ble_eq_true rfl, Nat.le_of_ble_eq_true rfl⟩ wk2_182 dX7_restore_176 (fun H locs hw => ?_)
          have hw : Wst E (XW E a) (sr (sr (sr (sr (sr (sr σ 4 (upr (σ 46) 10 (σ 4))) 11 (va_cpy (σ 46) (σ 11) (3 + 3 + 10) 0 24)) 12 (va_cpy (σ 46) (σ 12) ((3 + 3 + 10) + 24) 0 24)) 15 (va_cpy (σ 46) (σ 15) 3 0 3)) 0 (upd (upd (upd (upd (upd (σ 0) 0 (σ 46 0)) 1 (σ 46 1)) 2 (σ 46 2)) 3 (nI (if 17 ≠ 0 then (17 - 1) else 29))) 4 (nI (kp - 1)))) 13 (va_cpy (σ 46) (σ 13) ((3 + 3 + 10) + 48) 0 24)) A s.heap H locs := hw
          have hst_ : sr (sr (sr (sr (sr (sr σ 4 (upr (σ 46) 10 (σ 4))) 11 (va_cpy (σ 46) (σ 11) (3 + 3 + 10) 0 24)) 12 (va_cpy (σ 46) (σ 12) ((3 + 3 + 10) + 24) 0 24)) 15 (va_cpy (σ 46) (σ 15) 3 0 3)) 0 (upd (upd (upd (upd (upd (σ 0) 0 (σ 46 0)) 1 (σ 46 1)) 2 (σ 46 2)) 3 (nI (if 17 ≠ 0 then (17 - 1) else 29))) 4 (nI (kp - 1)))) 13 (va_cpy (σ 46) (σ 13) ((3 + 3 + 10) + 48) 0 24) = sr (sr (sr (sr (sr (sr σ 4 (upr (σ 46) 10 (σ 4))) 11 (va_cpy (σ 46) (σ 11) (3 + 3 + 10) 0 24)) 12 (va_cpy (σ 46) (σ 12) ((3 + 3 + 10) + 24) 0 24)) 13 (va_cpy (σ 46) (σ 13) ((3 + 3 + 10) + 48) 0 24)) 15 (va_cpy (σ 46) (σ 15) 3 0 3)) 0 (upd (upd (upd (upd (upd (σ 0) 0 (σ 46 0)) 1 (σ 46 1)) 2 (σ 46 2)) 3 (nI (if 17 ≠ 0 then (17 - 1) else 29))) 4 (nI (kp - 1))) := by
            funext j_ x_
            by_cases e0 : j_ = 0
            · subst e0
              by_cases y0 : x_ = 0
              · subst y0; rfl
              · by_cases y1 : x_ = 1
                · subst y1; rfl
                · by_cases y2 : x_ = 2
                  · subst y2; rfl
                  · by_cases y3 : x_ = 3
                    · subst y3; rfl
                    · by_cases y4 : x_ = 4
                      · subst y4; rfl
                      · simp [sr, upd, y0, y1, y2, y3, y4]
            · by_cases e4 : j_ = 4
              · subst e4; rfl
              · by_cases e11 : j_ = 11
                · subst e11; rfl
                · by_cases e12 : j_ = 12
                  · subst e12; rfl
                  · by_cases e13 : j_ = 13
                    · subst e13; rfl
                    · by_cases e15 : j_ = 15
                      · subst e15; rfl
                      · simp only [sr, e0, e4, e11, e12, e13, e15, if_false]
          rw [hst_] at hw
          refine lv_aload_n hC.1 hC.2.1 dX7_restore_179 rfl (lv_at hl 2 rfl) ?_
          refine lv_iload_n hC.1 hC.2.1 dX7_restore_180 rfl (lv_at hl 0 rfl) ?_
          refine lv_bipush (v := nI 72) hC.1 hC.2.1 dX7_restore_181 (by decide) ?_
          refine q_addN hC dX7_restore_183 ?_
          refine lv_aload_n hC.1 hC.2.1 dX7_restore_184 rfl (lv_at hl 1 rfl) ?_
          refine gf_X7_20 hC hw dX7_restore_185 ?_
          refine gf_X7_62 hC hw dX7_restore_188 ?_
          refine lv_iconst (v := nI 0) hC.1 hC.2.1 dX7_restore_191 (by decide) ?_
          refine lv_bipush (v := nI 24) hC.1 hC.2.1 dX7_restore_192 (by decide) ?_
          refine q_cpy (sp := ((3 + 3 + 10) + 72)) (dp := 0) (n := 24) 56 rfl 24 rfl (XW_s14 _) hC hw hl (by omega) (by omega) (by decide) (by decide) ⟨Nat.le_of_ble_eq_true rfl, Nat.le_of_ble_eq_true rfl⟩ wk2_182 dX7_restore_194 (fun H locs hw => ?_)
          have hw : Wst E (XW E a) (sr (sr (sr (sr (sr (sr (sr σ 4 (upr (σ 46) 10 (σ 4))) 11 (va_cpy (σ 46) (σ 11) (3 + 3 + 10) 0 24)) 12 (va_cpy (σ 46) (σ 12) ((3 + 3 + 10) + 24) 0 24)) 13 (va_cpy (σ 46) (σ 13) ((3 + 3 + 10) + 48) 0 24)) 15 (va_cpy (σ 46) (σ 15) 3 0 3)) 0 (upd (upd (upd (upd (upd (σ 0) 0 (σ 46 0)) 1 (σ 46 1)) 2 (σ 46 2)) 3 (nI (if 17 ≠ 0 then (17 - 1) else 29))) 4 (nI (kp - 1)))) 14 (va_cpy (σ 46) (σ 14) ((3 + 3 + 10) + 72) 0 24)) A s.heap H locs := hw
          have hst_ : sr (sr (sr (sr (sr (sr (sr σ 4 (upr (σ 46) 10 (σ 4))) 11 (va_cpy (σ 46) (σ 11) (3 + 3 + 10) 0 24)) 12 (va_cpy (σ 46) (σ 12) ((3 + 3 + 10) + 24) 0 24)) 13 (va_cpy (σ 46) (σ 13) ((3 + 3 + 10) + 48) 0 24)) 15 (va_cpy (σ 46) (σ 15) 3 0 3)) 0 (upd (upd (upd (upd (upd (σ 0) 0 (σ 46 0)) 1 (σ 46 1)) 2 (σ 46 2)) 3 (nI (if 17 ≠ 0 then (17 - 1) else 29))) 4 (nI (kp - 1)))) 14 (va_cpy (σ 46) (σ 14) ((3 + 3 + 10) + 72) 0 24) = sr (sr (sr (sr (sr (sr (sr σ 4 (upr (σ 46) 10 (σ 4))) 11 (va_cpy (σ 46) (σ 11) (3 + 3 + 10) 0 24)) 12 (va_cpy (σ 46) (σ 12) ((3 + 3 + 10) + 24) 0 24)) 13 (va_cpy (σ 46) (σ 13) ((3 + 3 + 10) + 48) 0 24)) 14 (va_cpy (σ 46) (σ 14) ((3 + 3 + 10) + 72) 0 24)) 15 (va_cpy (σ 46) (σ 15) 3 0 3)) 0 (upd (upd (upd (upd (upd (σ 0) 0 (σ 46 0)) 1 (σ 46 1)) 2 (σ 46 2)) 3 (nI (if 17 ≠ 0 then (17 - 1) else 29))) 4 (nI (kp - 1))) := by
            funext j_ x_
            by_cases e0 : j_ = 0
            · subst e0
              by_cases y0 : x_ = 0
              · subst y0; rfl
              · by_cases y1 : x_ = 1
                · subst y1; rfl
                · by_cases y2 : x_ = 2
                  · subst y2; rfl
                  · by_cases y3 : x_ = 3
                    · subst y3; rfl
                    · by_cases y4 : x_ = 4
                      · subst y4; rfl
                      · simp [sr, upd, y0, y1, y2, y3, y4]
            · by_cases e4 : j_ = 4
              · subst e4; rfl
              · by_cases e11 : j_ = 11
                · subst e11; rfl
                · by_cases e12 : j_ = 12
                  · subst e12; rfl
                  · by_cases e13 : j_ = 13
                    · subst e13; rfl
                    · by_cases e14 : j_ = 14
                      · subst e14; rfl
                      · by_cases e15 : j_ = 15
                        · subst e15; rfl
                        · simp only [sr, e0, e4, e11, e12, e13, e14, e15, if_false]
          rw [hst_] at hw
          refine hret _ _ _ _ _ hw ?_ dX7_restore_197
          exact rfl
        · refine lv_aload_n hC.1 hC.2.1 dX7_restore_96 rfl (lv_at hl 0 rfl) ?_
          refine gf_X7_16 hC hw dX7_restore_97 ?_
          refine gf_X7_49 hC hw dX7_restore_100 ?_
          refine lv_iload_n hC.1 hC.2.1 dX7_restore_103 rfl (lv_at hl 3 rfl) ?_
          refine lv_aload_n hC.1 hC.2.1 dX7_restore_104 rfl (lv_at hl 1 rfl) ?_
          refine lv_iload_n hC.1 hC.2.1 dX7_restore_105 rfl (lv_at hl 2 rfl) ?_
          refine lv_iload_n hC.1 hC.2.1 dX7_restore_106 rfl (lv_at hl 3 rfl) ?_
          refine q_addN hC dX7_restore_107 ?_
          refine q_ald (Wf := XW E a) (v := σ 46 ((3 + 3) + h)) 56 rfl (by decide) hC hw (by omega) rfl dX7_restore_108 ?_
          refine lv_iconst (v := nI 1) hC.1 hC.2.1 dX7_restore_109 (by decide) ?_
          have J118_6 : ∀ (w5 : Int32), w5 = (if (σ 46 ((3 + 3) + h)) = 1 then (1 : Int32) else 0) → ∀ (H : Heap) (locs : List Loc) (ls : Array Slot), Wst E (XW E a) (sr (sr (sr σ 4 (upr (σ 46) h (σ 4))) 15 (va_cpy (σ 46) (σ 15) 3 0 3)) 0 (upd (upd (upd (upd (upd (σ 0) 0 (σ 46 0)) 1 (σ 46 1)) 2 (σ 46 2)) 3 (nI (if 17 ≠ 0 then (17 - 1) else 29))) 4 (nI (kp - 1)))) A s.heap H locs → lv_has ls 4 [(0, .ref (a 68)), (1, .ref (a 46)), (2, .int (nI (3 + 3))), (3, .int (nI h))] → W p l e ({ frames := 1, cells := 0, slots := 0, locals := 24 }) s m args below meth c H locs 0 0 Q (F0 m 118 ls [.int (w5), .int (nI h), .ref (a 4)]) := by
            intro w5 e6 H locs ls hw hl
            subst e6
            refine as_X4 hC hw (by omega) vz_B dX7_restore_118 (fun H locs hw => ?_)
            have hw : Wst E (XW E a) (sr (sr (sr (sr σ 4 (upr (σ 46) h (σ 4))) 15 (va_cpy (σ 46) (σ 15) 3 0 3)) 0 (upd (upd (upd (upd (upd (σ 0) 0 (σ 46 0)) 1 (σ 46 1)) 2 (σ 46 2)) 3 (nI (if 17 ≠ 0 then (17 - 1) else 29))) 4 (nI (kp - 1)))) 4 (upd (upr (σ 46) h (σ 4)) h (if (σ 46 ((3 + 3) + h)) = 1 then (1 : Int32) else 0))) A s.heap H locs := hw
            have hst_ : sr (sr (sr (sr σ 4 (upr (σ 46) h (σ 4))) 15 (va_cpy (σ 46) (σ 15) 3 0 3)) 0 (upd (upd (upd (upd (upd (σ 0) 0 (σ 46 0)) 1 (σ 46 1)) 2 (σ 46 2)) 3 (nI (if 17 ≠ 0 then (17 - 1) else 29))) 4 (nI (kp - 1)))) 4 (upd (upr (σ 46) h (σ 4)) h (if (σ 46 ((3 + 3) + h)) = 1 then (1 : Int32) else 0)) = sr (sr (sr σ 4 (upd (upr (σ 46) h (σ 4)) h (if (σ 46 ((3 + 3) + h)) = 1 then (1 : Int32) else 0))) 15 (va_cpy (σ 46) (σ 15) 3 0 3)) 0 (upd (upd (upd (upd (upd (σ 0) 0 (σ 46 0)) 1 (σ 46 1)) 2 (σ 46 2)) 3 (nI (if 17 ≠ 0 then (17 - 1) else 29))) 4 (nI (kp - 1))) := by
              funext j_ x_
              by_cases e0 : j_ = 0
              · subst e0
                by_cases y0 : x_ = 0
                · subst y0; rfl
                · by_cases y1 : x_ = 1
                  · subst y1; rfl
                  · by_cases y2 : x_ = 2
                    · subst y2; rfl
                    · by_cases y3 : x_ = 3
                      · subst y3; rfl
                      · by_cases y4 : x_ = 4
                        · subst y4; rfl
                        · simp [sr, upd, y0, y1, y2, y3, y4]
              · by_cases e4 : j_ = 4
                · subst e4; rfl
                · by_cases e15 : j_ = 15
                  · subst e15; rfl
                  · simp only [sr, e0, e4, e15, if_false]
            rw [hst_] at hw
            refine lv_iinc (v := nI (h + 1)) (lv' := [(3, .int (nI (h + 1))), (0, .ref (a 68)), (1, .ref (a 46)), (2, .int (nI (3 + 3)))]) hC.1 hC.2.1 dX7_restore_119 hl (k := 3) rfl (nI_add _ _) (by decide) rfl (fun ls hl => ?_)
            refine lv_goto (tgt := 90) hC.1 hC.2.1 dX7_restore_122 (by decide) ?_
            rw [upr_s] at hw
            exact ih90 (h + 1) (by omega) (by omega) _ _ _ hw (lv_sub hl [1, 2, 3, 0] rfl)
          refine q_cmpne hC 117 cI dX7_restore_110 (by decide) (fun (c7 : ¬ ((σ 46 ((3 + 3) + h)) = 1)) => ?_) (fun (c7 : (σ 46 ((3 + 3) + h)) = 1) => ?_)
          · refine lv_iconst (v := nI 0) hC.1 hC.2.1 dX7_restore_117 (by decide) ?_
            exact J118_6 _ (if_neg c7).symm _ _ _ hw (lv_sub hl [0, 1, 2, 3] rfl)
          · refine lv_iconst (v := nI 1) hC.1 hC.2.1 dX7_restore_113 (by decide) ?_
            refine lv_goto (tgt := 118) hC.1 hC.2.1 dX7_restore_114 (by decide) ?_
            exact J118_6 _ (if_pos c7).symm _ _ _ hw (lv_sub hl [0, 1, 2, 3] rfl)
    have hst_ : sr (sr σ 15 (va_cpy (σ 46) (σ 15) 3 0 3)) 0 (upd (upd (upd (upd (upd (σ 0) 0 (σ 46 0)) 1 (σ 46 1)) 2 (σ 46 2)) 3 (nI (if 17 ≠ 0 then (17 - 1) else 29))) 4 (nI (kp - 1))) = sr (sr (sr σ 4 (upr (σ 46) 0 (σ 4))) 15 (va_cpy (σ 46) (σ 15) 3 0 3)) 0 (upd (upd (upd (upd (upd (σ 0) 0 (σ 46 0)) 1 (σ 46 1)) 2 (σ 46 2)) 3 (nI (if 17 ≠ 0 then (17 - 1) else 29))) 4 (nI (kp - 1))) := by
      funext j_ x_
      by_cases e0 : j_ = 0
      · subst e0
        by_cases y0 : x_ = 0
        · subst y0; rfl
        · by_cases y1 : x_ = 1
          · subst y1; rfl
          · by_cases y2 : x_ = 2
            · subst y2; rfl
            · by_cases y3 : x_ = 3
              · subst y3; rfl
              · by_cases y4 : x_ = 4
                · subst y4; rfl
                · simp [sr, upd, y0, y1, y2, y3, y4]
      · by_cases e4 : j_ = 4
        · subst e4; show σ 4 x_ = upr (σ 46) 0 (σ 4) x_; rw [upr_0]
        · by_cases e15 : j_ = 15
          · subst e15; rfl
          · simp only [sr, e0, e4, e15, if_false]
    rw [hst_] at hw
    exact L90_2 _ 0 (by omega) (Nat.lt_succ_self _) _ _ _ hw (lv_sub hl [3, 2, 1, 0] rfl)
  refine q_ifne hC 13 (cN0 (by omega)) dX7_restore_5 (by decide) (fun (c8 : 17 ≠ 0) => ?_) (fun (c8 : 17 = 0) => ?_)
  · refine lv_aload_n hC.1 hC.2.1 dX7_restore_13 rfl (lv_at hl 0 rfl) ?_
    refine gf_X7_28 (v := nI 17) hC hw hnx dX7_restore_14 ?_
    refine lv_iconst (v := nI 1) hC.1 hC.2.1 dX7_restore_17 (by decide) ?_
    refine q_subN hC (by omega) dX7_restore_18 ?_
    exact J19_2 _ (by (rw [if_pos c8]) <;> rfl) _ _ _ hw (lv_sub hl [0] rfl)
  · refine lv_bipush (v := nI 29) hC.1 hC.2.1 dX7_restore_8 (by decide) ?_
    refine lv_goto (tgt := 19) hC.1 hC.2.1 dX7_restore_10 (by decide) ?_
    exact J19_2 _ (by (rw [if_neg (fun q => q c8)]) <;> rfl) _ _ _ hw (lv_sub hl [0] rfl)
set_option maxHeartbeats 4000000 in
set_option maxRecDepth 100000 in
theorem tX7_restore_k18 (l : Launch) (E : EV) (a : Nat → Nat) (σ : St) (kp : Nat) (hnx : σ 0 3 = nI 18) (hkp : σ 0 4 = nI kp) (hk30 : kp ≤ 30) (hk1 : 1 ≤ kp) : MV l E (XW E a) yX7_restore (Cond.code yX7_restore cX7_restore 4 none) ({ frames := 1, cells := 0, slots := 0, locals := 24 }) [.ref (a 68)] σ (fun u_ => u_ = sr (sr (sr (sr (sr (sr (sr σ 4 (upr (σ 47) 10 (σ 4))) 11 (va_cpy (σ 47) (σ 11) 16 0 24)) 12 (va_cpy (σ 47) (σ 12) 40 0 24)) 13 (va_cpy (σ 47) (σ 13) 64 0 24)) 14 (va_cpy (σ 47) (σ 14) 88 0 24)) 15 (va_cpy (σ 47) (σ 15) 3 0 3)) 0 (upd (upd (upd (upd (upd (σ 0) 0 ((σ 47) 0)) 1 ((σ 47) 1)) 2 ((σ 47) 2)) 3 (nI (if 18 ≠ 0 then 18 - 1 else 29))) 4 (nI (kp - 1)))) := by
  refine MV.mk (by decide +kernel) (Nat.le_of_ble_eq_true rfl) ?_
  intro p e s m args below meth c ls A Q hret hC hw hl
  have hC : Cxt E p s m args meth c cX7_restore 4 none RX7 A := hC
  have hl : lv_has ls 4 [(0, .ref (a 68))] := hl
  refine lv_aload_n hC.1 hC.2.1 dX7_restore_0 rfl (lv_at hl 0 rfl) ?_
  refine lv_aload_n hC.1 hC.2.1 dX7_restore_1 rfl (lv_at hl 0 rfl) ?_
  refine gf_X7_28 (v := nI 18) hC hw hnx dX7_restore_2 ?_
  have J19_2 : ∀ (w1 : Nat), w1 = (if 18 ≠ 0 then (18 - 1) else 29) → ∀ (H : Heap) (locs : List Loc) (ls : Array Slot), Wst E (XW E a) (σ) A s.heap H locs → lv_has ls 4 [(0, .ref (a 68))] → W p l e ({ frames := 1, cells := 0, slots := 0, locals := 24 }) s m args below meth c H locs 0 0 Q (F0 m 19 ls [.int (nI w1), .ref (a 68)]) := by
    intro w1 e2 H locs ls hw hl
    subst e2
    refine pf_X7_28 hC hw dX7_restore_19 (fun H locs hw => ?_)
    have hw : Wst E (XW E a) (sr σ 0 (upd (σ 0) 3 (nI (if 18 ≠ 0 then (18 - 1) else 29)))) A s.heap H locs := hw
    refine lv_aload_n hC.1 hC.2.1 dX7_restore_22 rfl (lv_at hl 0 rfl) ?_
    refine lv_dup hC.1 hC.2.1 dX7_restore_23 rfl ?_
    refine gf_X7_65 (v := nI kp) hC hw hkp dX7_restore_24 ?_
    refine lv_iconst (v := nI 1) hC.1 hC.2.1 dX7_restore_27 (by decide) ?_
    refine q_subN hC (by omega) dX7_restore_28 ?_
    refine pf_X7_65 hC hw dX7_restore_29 (fun H locs hw => ?_)
    have hw : Wst E (XW E a) (sr (sr σ 0 (upd (σ 0) 3 (nI (if 18 ≠ 0 then (18 - 1) else 29)))) 0 (upd (upd (σ 0) 3 (nI (if 18 ≠ 0 then (18 - 1) else 29))) 4 (nI (kp - 1)))) A s.heap H locs := hw
    have hst_ : sr (sr σ 0 (upd (σ 0) 3 (nI (if 18 ≠ 0 then (18 - 1) else 29)))) 0 (upd (upd (σ 0) 3 (nI (if 18 ≠ 0 then (18 - 1) else 29))) 4 (nI (kp - 1))) = sr σ 0 (upd (upd (σ 0) 3 (nI (if 18 ≠ 0 then (18 - 1) else 29))) 4 (nI (kp - 1))) := by
      funext j_ x_
      by_cases e0 : j_ = 0
      · subst e0
        by_cases y3 : x_ = 3
        · subst y3; rfl
        · by_cases y4 : x_ = 4
          · subst y4; rfl
          · simp [sr, upd, y3, y4]
      · simp only [sr, e0, if_false]
    rw [hst_] at hw
    refine lv_aload_n hC.1 hC.2.1 dX7_restore_32 rfl (lv_at hl 0 rfl) ?_
    refine gf_X7_13 hC hw dX7_restore_33 ?_
    refine lv_aload_n hC.1 hC.2.1 dX7_restore_36 rfl (lv_at hl 0 rfl) ?_
    refine gf_X7_28 (v := nI (if 18 ≠ 0 then (18 - 1) else 29)) hC hw rfl dX7_restore_37 ?_
    refine q_top (y := nI 17) rfl ?_
    refine q_aald hC hw (i := 17) (by decide) dX7_restore_40 ?_
    refine lv_astore_n (lv' := [(1, .ref (a 47)), (0, .ref (a 68))]) hC.1 hC.2.1 dX7_restore_41 rfl hl (by decide) rfl (fun ls hl => ?_)
    refine lv_aload_n hC.1 hC.2.1 dX7_restore_42 rfl (lv_at hl 1 rfl) ?_
    refine gf_X7_16 hC hw dX7_restore_43 ?_
    refine lv_aload_n hC.1 hC.2.1 dX7_restore_46 rfl (lv_at hl 0 rfl) ?_
    refine lv_iconst (v := nI 0) hC.1 hC.2.1 dX7_restore_47 (by decide) ?_
    refine q_ald (Wf := XW E a) (v := σ 47 0) 57 rfl (by decide) hC hw (by omega) rfl dX7_restore_48 ?_
    refine pf_X7_32 hC hw dX7_restore_49 (fun H locs hw => ?_)
    have hw : Wst E (XW E a) (sr (sr σ 0 (upd (upd (σ 0) 3 (nI (if 18 ≠ 0 then (18 - 1) else 29))) 4 (nI (kp - 1)))) 0 (upd (upd (upd (σ 0) 3 (nI (if 18 ≠ 0 then (18 - 1) else 29))) 4 (nI (kp - 1))) 0 (σ 47 0))) A s.heap H locs := hw
    have hst_ : sr (sr σ 0 (upd (upd (σ 0) 3 (nI (if 18 ≠ 0 then (18 - 1) else 29))) 4 (nI (kp - 1)))) 0 (upd (upd (upd (σ 0) 3 (nI (if 18 ≠ 0 then (18 - 1) else 29))) 4 (nI (kp - 1))) 0 (σ 47 0)) = sr σ 0 (upd (upd (upd (σ 0) 0 (σ 47 0)) 3 (nI (if 18 ≠ 0 then (18 - 1) else 29))) 4 (nI (kp - 1))) := by
      funext j_ x_
      by_cases e0 : j_ = 0
      · subst e0
        by_cases y0 : x_ = 0
        · subst y0; rfl
        · by_cases y3 : x_ = 3
          · subst y3; rfl
          · by_cases y4 : x_ = 4
            · subst y4; rfl
            · simp [sr, upd, y0, y3, y4]
      · simp only [sr, e0, if_false]
    rw [hst_] at hw
    refine lv_aload_n hC.1 hC.2.1 dX7_restore_52 rfl (lv_at hl 1 rfl) ?_
    refine gf_X7_20 hC hw dX7_restore_53 ?_
    refine lv_aload_n hC.1 hC.2.1 dX7_restore_56 rfl (lv_at hl 0 rfl) ?_
    refine lv_iconst (v := nI 1) hC.1 hC.2.1 dX7_restore_57 (by decide) ?_
    refine q_ald (Wf := XW E a) (v := σ 47 1) 57 rfl (by decide) hC hw (by omega) rfl dX7_restore_58 ?_
    refine pf_X7_37 hC hw dX7_restore_59 (fun H locs hw => ?_)
    have hw : Wst E (XW E a) (sr (sr σ 0 (upd (upd (upd (σ 0) 0 (σ 47 0)) 3 (nI (if 18 ≠ 0 then (18 - 1) else 29))) 4 (nI (kp - 1)))) 0 (upd (upd (upd (upd (σ 0) 0 (σ 47 0)) 3 (nI (if 18 ≠ 0 then (18 - 1) else 29))) 4 (nI (kp - 1))) 1 (σ 47 1))) A s.heap H locs := hw
    have hst_ : sr (sr σ 0 (upd (upd (upd (σ 0) 0 (σ 47 0)) 3 (nI (if 18 ≠ 0 then (18 - 1) else 29))) 4 (nI (kp - 1)))) 0 (upd (upd (upd (upd (σ 0) 0 (σ 47 0)) 3 (nI (if 18 ≠ 0 then (18 - 1) else 29))) 4 (nI (kp - 1))) 1 (σ 47 1)) = sr σ 0 (upd (upd (upd (upd (σ 0) 0 (σ 47 0)) 1 (σ 47 1)) 3 (nI (if 18 ≠ 0 then (18 - 1) else 29))) 4 (nI (kp - 1))) := by
      funext j_ x_
      by_cases e0 : j_ = 0
      · subst e0
        by_cases y0 : x_ = 0
        · subst y0; rfl
        · by_cases y1 : x_ = 1
          · subst y1; rfl
          · by_cases y3 : x_ = 3
            · subst y3; rfl
            · by_cases y4 : x_ = 4
              · subst y4; rfl
              · simp [sr, upd, y0, y1, y3, y4]
      · simp only [sr, e0, if_false]
    rw [hst_] at hw
    refine lv_aload_n hC.1 hC.2.1 dX7_restore_62 rfl (lv_at hl 1 rfl) ?_
    refine gf_X7_20 hC hw dX7_restore_63 ?_
    refine lv_aload_n hC.1 hC.2.1 dX7_restore_66 rfl (lv_at hl 0 rfl) ?_
    refine lv_iconst (v := nI 2) hC.1 hC.2.1 dX7_restore_67 (by decide) ?_
    refine q_ald (Wf := XW E a) (v := σ 47 2) 57 rfl (by decide) hC hw (by omega) rfl dX7_restore_68 ?_
    refine pf_X7_40 hC hw dX7_restore_69 (fun H locs hw => ?_)
    have hw : Wst E (XW E a) (sr (sr σ 0 (upd (upd (upd (upd (σ 0) 0 (σ 47 0)) 1 (σ 47 1)) 3 (nI (if 18 ≠ 0 then (18 - 1) else 29))) 4 (nI (kp - 1)))) 0 (upd (upd (upd (upd (upd (σ 0) 0 (σ 47 0)) 1 (σ 47 1)) 3 (nI (if 18 ≠ 0 then (18 - 1) else 29))) 4 (nI (kp - 1))) 2 (σ 47 2))) A s.heap H locs := hw
    have hst_ : sr (sr σ 0 (upd (upd (upd (upd (σ 0) 0 (σ 47 0)) 1 (σ 47 1)) 3 (nI (if 18 ≠ 0 then (18 - 1) else 29))) 4 (nI (kp - 1)))) 0 (upd (upd (upd (upd (upd (σ 0) 0 (σ 47 0)) 1 (σ 47 1)) 3 (nI (if 18 ≠ 0 then (18 - 1) else 29))) 4 (nI (kp - 1))) 2 (σ 47 2)) = sr σ 0 (upd (upd (upd (upd (upd (σ 0) 0 (σ 47 0)) 1 (σ 47 1)) 2 (σ 47 2)) 3 (nI (if 18 ≠ 0 then (18 - 1) else 29))) 4 (nI (kp - 1))) := by
      funext j_ x_
      by_cases e0 : j_ = 0
      · subst e0
        by_cases y0 : x_ = 0
        · subst y0; rfl
        · by_cases y1 : x_ = 1
          · subst y1; rfl
          · by_cases y2 : x_ = 2
            · subst y2; rfl
            · by_cases y3 : x_ = 3
              · subst y3; rfl
              · by_cases y4 : x_ = 4
                · subst y4; rfl
                · simp [sr, upd, y0, y1, y2, y3, y4]
      · simp only [sr, e0, if_false]
    rw [hst_] at hw
    refine lv_iconst (v := nI 3) hC.1 hC.2.1 dX7_restore_72 (by decide) ?_
    refine lv_istore_n (lv' := [(2, .int (nI 3)), (1, .ref (a 47)), (0, .ref (a 68))]) hC.1 hC.2.1 dX7_restore_73 rfl hl (by decide) rfl (fun ls hl => ?_)
    refine lv_aload_n hC.1 hC.2.1 dX7_restore_74 rfl (lv_at hl 1 rfl) ?_
    refine lv_iload_n hC.1 hC.2.1 dX7_restore_75 rfl (lv_at hl 0 rfl) ?_
    refine lv_aload_n hC.1 hC.2.1 dX7_restore_76 rfl (lv_at hl 2 rfl) ?_
    refine gf_X7_24 hC hw dX7_restore_77 ?_
    refine lv_iconst (v := nI 0) hC.1 hC.2.1 dX7_restore_80 (by decide) ?_
    refine lv_iconst (v := nI 3) hC.1 hC.2.1 dX7_restore_81 (by decide) ?_
    refine q_cpy (sp := 3) (dp := 0) (n := 3) 57 rfl 25 rfl (XW_s15 _) hC hw hl (by omega) (by omega) (by decide) (by decide) ⟨Nat.le_of_ble_eq_true rfl, Nat.le_of_ble_eq_true rfl⟩ wk2_182 dX7_restore_82 (fun H locs hw => ?_)
    have hw : Wst E (XW E a) (sr (sr σ 0 (upd (upd (upd (upd (upd (σ 0) 0 (σ 47 0)) 1 (σ 47 1)) 2 (σ 47 2)) 3 (nI (if 18 ≠ 0 then (18 - 1) else 29))) 4 (nI (kp - 1)))) 15 (va_cpy (σ 47) (σ 15) 3 0 3)) A s.heap H locs := hw
    have hst_ : sr (sr σ 0 (upd (upd (upd (upd (upd (σ 0) 0 (σ 47 0)) 1 (σ 47 1)) 2 (σ 47 2)) 3 (nI (if 18 ≠ 0 then (18 - 1) else 29))) 4 (nI (kp - 1)))) 15 (va_cpy (σ 47) (σ 15) 3 0 3) = sr (sr σ 15 (va_cpy (σ 47) (σ 15) 3 0 3)) 0 (upd (upd (upd (upd (upd (σ 0) 0 (σ 47 0)) 1 (σ 47 1)) 2 (σ 47 2)) 3 (nI (if 18 ≠ 0 then (18 - 1) else 29))) 4 (nI (kp - 1))) := by
      funext j_ x_
      by_cases e0 : j_ = 0
      · subst e0
        by_cases y0 : x_ = 0
        · subst y0; rfl
        · by_cases y1 : x_ = 1
          · subst y1; rfl
          · by_cases y2 : x_ = 2
            · subst y2; rfl
            · by_cases y3 : x_ = 3
              · subst y3; rfl
              · by_cases y4 : x_ = 4
                · subst y4; rfl
                · simp [sr, upd, y0, y1, y2, y3, y4]
      · by_cases e15 : j_ = 15
        · subst e15; rfl
        · simp only [sr, e0, e15, if_false]
    rw [hst_] at hw
    refine lv_iinc (v := nI (3 + 3)) (lv' := [(2, .int (nI (3 + 3))), (1, .ref (a 47)), (0, .ref (a 68))]) hC.1 hC.2.1 dX7_restore_85 hl (k := 0) rfl (nI_add _ _) (by decide) rfl (fun ls hl => ?_)
    refine lv_iconst (v := nI 0) hC.1 hC.2.1 dX7_restore_88 (by decide) ?_
    refine lv_istore_n (lv' := [(3, .int (nI 0)), (2, .int (nI (3 + 3))), (1, .ref (a 47)), (0, .ref (a 68))]) hC.1 hC.2.1 dX7_restore_89 rfl hl (by decide) rfl (fun ls hl => ?_)
    have L90_2 : ∀ (n : Nat), ∀ (h : Nat), (h ≤ 10) → (10 - h) < n → ∀ (H : Heap) (locs : List Loc) (ls : Array Slot), Wst E (XW E a) (sr (sr (sr σ 4 (upr (σ 47) h (σ 4))) 15 (va_cpy (σ 47) (σ 15) 3 0 3)) 0 (upd (upd (upd (upd (upd (σ 0) 0 (σ 47 0)) 1 (σ 47 1)) 2 (σ 47 2)) 3 (nI (if 18 ≠ 0 then (18 - 1) else 29))) 4 (nI (kp - 1)))) A s.heap H locs → lv_has ls 4 [(0, .ref (a 68)), (1, .ref (a 47)), (2, .int (nI (3 + 3))), (3, .int (nI h))] → W p l e ({ frames := 1, cells := 0, slots := 0, locals := 24 }) s m args below meth c H locs 0 0 Q (F0 m 90 ls []) := by
      intro n
      induction n with
      | zero => intro h hh hn; exact absurd hn (Nat.not_lt_zero _)
      | succ n ih90 =>
        intro h hh hn90 H locs ls hw hl
        refine lv_iload_n hC.1 hC.2.1 dX7_restore_90 rfl (lv_at hl 3 rfl) ?_
        refine lv_bipush (v := nI 10) hC.1 hC.2.1 dX7_restore_91 (by decide) ?_
        refine q_cmpge hC 125 (cNle (by omega) (by omega)) dX7_restore_93 (by decide) (fun (c4 : 10 ≤ h) => ?_) (fun (c4 : h < 10) => ?_)
        · have hh9 : h = 10 := by omega
          rw [hh9] at hw
          refine lv_iinc (v := nI (3 + 3 + 10)) (lv' := [(2, .int (nI (3 + 3 + 10))), (0, .ref (a 68)), (1, .ref (a 47)), (3, .int (nI h))]) hC.1 hC.2.1 dX7_restore_125 hl (k := 2) rfl (nI_add _ _) (by decide) rfl (fun ls hl => ?_)
          refine lv_aload_n hC.1 hC.2.1 dX7_restore_128 rfl (lv_at hl 2 rfl) ?_
          refine lv_iload_n hC.1 hC.2.1 dX7_restore_129 rfl (lv_at hl 0 rfl) ?_
          refine lv_aload_n hC.1 hC.2.1 dX7_restore_130 rfl (lv_at hl 1 rfl) ?_
          refine gf_X7_20 hC hw dX7_restore_131 ?_
          refine gf_X7_53 hC hw dX7_restore_134 ?_
          refine lv_iconst (v := nI 0) hC.1 hC.2.1 dX7_restore_137 (by decide) ?_
          refine lv_bipush (v := nI 24) hC.1 hC.2.1 dX7_restore_138 (by decide) ?_
          refine q_cpy (sp := (3 + 3 + 10)) (dp := 0) (n := 24) 57 rfl 21 rfl (XW_s11 _) hC hw hl (by omega) (by omega) (by decide) (by decide) ⟨Nat.le_of_ble_eq_true rfl, Nat.le_of_ble_eq_true rfl⟩ wk2_182 dX7_restore_140 (fun H locs hw => ?_)
          have hw : Wst E (XW E a) (sr (sr (sr (sr σ 4 (upr (σ 47) 10 (σ 4))) 15 (va_cpy (σ 47) (σ 15) 3 0 3)) 0 (upd (upd (upd (upd (upd (σ 0) 0 (σ 47 0)) 1 (σ 47 1)) 2 (σ 47 2)) 3 (nI (if 18 ≠ 0 then (18 - 1) else 29))) 4 (nI (kp - 1)))) 11 (va_cpy (σ 47) (σ 11) (3 + 3 + 10) 0 24)) A s.heap H locs := hw
          have hst_ : sr (sr (sr (sr σ 4 (upr (σ 47) 10 (σ 4))) 15 (va_cpy (σ 47) (σ 15) 3 0 3)) 0 (upd (upd (upd (upd (upd (σ 0) 0 (σ 47 0)) 1 (σ 47 1)) 2 (σ 47 2)) 3 (nI (if 18 ≠ 0 then (18 - 1) else 29))) 4 (nI (kp - 1)))) 11 (va_cpy (σ 47) (σ 11) (3 + 3 + 10) 0 24) = sr (sr (sr (sr σ 4 (upr (σ 47) 10 (σ 4))) 11 (va_cpy (σ 47) (σ 11) (3 + 3 + 10) 0 24)) 15 (va_cpy (σ 47) (σ 15) 3 0 3)) 0 (upd (upd (upd (upd (upd (σ 0) 0 (σ 47 0)) 1 (σ 47 1)) 2 (σ 47 2)) 3 (nI (if 18 ≠ 0 then (18 - 1) else 29))) 4 (nI (kp - 1))) := by
            funext j_ x_
            by_cases e0 : j_ = 0
            · subst e0
              by_cases y0 : x_ = 0
              · subst y0; rfl
              · by_cases y1 : x_ = 1
                · subst y1; rfl
                · by_cases y2 : x_ = 2
                  · subst y2; rfl
                  · by_cases y3 : x_ = 3
                    · subst y3; rfl
                    · by_cases y4 : x_ = 4
                      · subst y4; rfl
                      · simp [sr, upd, y0, y1, y2, y3, y4]
            · by_cases e4 : j_ = 4
              · subst e4; rfl
              · by_cases e11 : j_ = 11
                · subst e11; rfl
                · by_cases e15 : j_ = 15
                  · subst e15; rfl
                  · simp only [sr, e0, e4, e11, e15, if_false]
          rw [hst_] at hw
          refine lv_aload_n hC.1 hC.2.1 dX7_restore_143 rfl (lv_at hl 2 rfl) ?_
          refine lv_iload_n hC.1 hC.2.1 dX7_restore_144 rfl (lv_at hl 0 rfl) ?_
          refine lv_bipush (v := nI 24) hC.1 hC.2.1 dX7_restore_145 (by decide) ?_
          refine q_addN hC dX7_restore_147 ?_
          refine lv_aload_n hC.1 hC.2.1 dX7_restore_148 rfl (lv_at hl 1 rfl) ?_
          refine gf_X7_20 hC hw dX7_restore_149 ?_
          refine gf_X7_56 hC hw dX7_restore_152 ?_
          refine lv_iconst (v := nI 0) hC.1 hC.2.1 dX7_restore_155 (by decide) ?_
          refine lv_bipush (v := nI 24) hC.1 hC.2.1 dX7_restore_156 (by decide) ?_
          refine q_cpy (sp := ((3 + 3 + 10) + 24)) (dp := 0) (n := 24) 57 rfl 22 rfl (XW_s12 _) hC hw hl (by omega) (by omega) (by decide) (by decide) ⟨Nat.le_of_ble_eq_true rfl, Nat.le_of_ble_eq_true rfl⟩ wk2_182 dX7_restore_158 (fun H locs hw => ?_)
          have hw : Wst E (XW E a) (sr (sr (sr (sr (sr σ 4 (upr (σ 47) 10 (σ 4))) 11 (va_cpy (σ 47) (σ 11) (3 + 3 + 10) 0 24)) 15 (va_cpy (σ 47) (σ 15) 3 0 3)) 0 (upd (upd (upd (upd (upd (σ 0) 0 (σ 47 0)) 1 (σ 47 1)) 2 (σ 47 2)) 3 (nI (if 18 ≠ 0 then (18 - 1) else 29))) 4 (nI (kp - 1)))) 12 (va_cpy (σ 47) (σ 12) ((3 + 3 + 10) + 24) 0 24)) A s.heap H locs := hw
          have hst_ : sr (sr (sr (sr (sr σ 4 (upr (σ 47) 10 (σ 4))) 11 (va_cpy (σ 47) (σ 11) (3 + 3 + 10) 0 24)) 15 (va_cpy (σ 47) (σ 15) 3 0 3)) 0 (upd (upd (upd (upd (upd (σ 0) 0 (σ 47 0)) 1 (σ 47 1)) 2 (σ 47 2)) 3 (nI (if 18 ≠ 0 then (18 - 1) else 29))) 4 (nI (kp - 1)))) 12 (va_cpy (σ 47) (σ 12) ((3 + 3 + 10) + 24) 0 24) = sr (sr (sr (sr (sr σ 4 (upr (σ 47) 10 (σ 4))) 11 (va_cpy (σ 47) (σ 11) (3 + 3 + 10) 0 24)) 12 (va_cpy (σ 47) (σ 12) ((3 + 3 + 10) + 24) 0 24)) 15 (va_cpy (σ 47) (σ 15) 3 0 3)) 0 (upd (upd (upd (upd (upd (σ 0) 0 (σ 47 0)) 1 (σ 47 1)) 2 (σ 47 2)) 3 (nI (if 18 ≠ 0 then (18 - 1) else 29))) 4 (nI (kp - 1))) := by
            funext j_ x_
            by_cases e0 : j_ = 0
            · subst e0
              by_cases y0 : x_ = 0
              · subst y0; rfl
              · by_cases y1 : x_ = 1
                · subst y1; rfl
                · by_cases y2 : x_ = 2
                  · subst y2; rfl
                  · by_cases y3 : x_ = 3
                    · subst y3; rfl
                    · by_cases y4 : x_ = 4
                      · subst y4; rfl
                      · simp [sr, upd, y0, y1, y2, y3, y4]
            · by_cases e4 : j_ = 4
              · subst e4; rfl
              · by_cases e11 : j_ = 11
                · subst e11; rfl
                · by_cases e12 : j_ = 12
                  · subst e12; rfl
                  · by_cases e15 : j_ = 15
                    · subst e15; rfl
                    · simp only [sr, e0, e4, e11, e12, e15, if_false]
          rw [hst_] at hw
          refine lv_aload_n hC.1 hC.2.1 dX7_restore_161 rfl (lv_at hl 2 rfl) ?_
          refine lv_iload_n hC.1 hC.2.1 dX7_restore_162 rfl (lv_at hl 0 rfl) ?_
          refine lv_bipush (v := nI 48) hC.1 hC.2.1 dX7_restore_163 (by decide) ?_
          refine q_addN hC dX7_restore_165 ?_
          refine lv_aload_n hC.1 hC.2.1 dX7_restore_166 rfl (lv_at hl 1 rfl) ?_
          refine gf_X7_20 hC hw dX7_restore_167 ?_
          refine gf_X7_59 hC hw dX7_restore_170 ?_
          refine lv_iconst (v := nI 0) hC.1 hC.2.1 dX7_restore_173 (by decide) ?_
          refine lv_bipush (v := nI 24) hC.1 hC.2.1 dX7_restore_174 (by decide) ?_
          refine q_cpy (sp := ((3 + 3 + 10) + 48)) (dp := 0) (n := 24) 57 rfl 23 rfl (XW_s13 _) hC hw hl (by omega) (by omega) (by decide) (by decide) ⟨Nat.le_of_ble_eq_true rfl, Nat.le_of_ble_eq_true rfl⟩ wk2_182 dX7_restore_176 (fun H locs hw => ?_)
          have hw : Wst E (XW E a) (sr (sr (sr (sr (sr (sr σ 4 (upr (σ 47) 10 (σ 4))) 11 (va_cpy (σ 47) (σ 11) (3 + 3 + 10) 0 24)) 12 (va_cpy (σ 47) (σ 12) ((3 + 3 + 10) + 24) 0 24)) 15 (va_cpy (σ 47) (σ 15) 3 0 3)) 0 (upd (upd (upd (upd (upd (σ 0) 0 (σ 47 0)) 1 (σ 47 1)) 2 (σ 47 2)) 3 (nI (if 18 ≠ 0 then (18 - 1) else 29))) 4 (nI (kp - 1)))) 13 (va_cpy (σ 47) (σ 13) ((3 + 3 + 10) + 48) 0 24)) A s.heap H locs := hw
          have hst_ : sr (sr (sr (sr (sr (sr σ 4 (upr (σ 47) 10 (σ 4))) 11 (va_cpy (σ 47) (σ 11) (3 + 3 + 10) 0 24)) 12 (va_cpy (σ 47) (σ 12) ((3 + 3 + 10) + 24) 0 24)) 15 (va_cpy (σ 47) (σ 15) 3 0 3)) 0 (upd (upd (upd (upd (upd (σ 0) 0 (σ 47 0)) 1 (σ 47 1)) 2 (σ 47 2)) 3 (nI (if 18 ≠ 0 then (18 - 1) else 29))) 4 (nI (kp - 1)))) 13 (va_cpy (σ 47) (σ 13) ((3 + 3 + 10) + 48) 0 24) = sr (sr (sr (sr (sr (sr σ 4 (upr (σ 47) 10 (σ 4))) 11 (va_cpy (σ 47) (σ 11) (3 + 3 + 10) 0 24)) 12 (va_cpy (σ 47) (σ 12) ((3 + 3 + 10) + 24) 0 24)) 13 (va_cpy (σ 47) (σ 13) ((3 + 3 + 10) + 48) 0 24)) 15 (va_cpy (σ 47) (σ 15) 3 0 3)) 0 (upd (upd (upd (upd (upd (σ 0) 0 (σ 47 0)) 1 (σ 47 1)) 2 (σ 47 2)) 3 (nI (if 18 ≠ 0 then (18 - 1) else 29))) 4 (nI (kp - 1))) := by
            funext j_ x_
            by_cases e0 : j_ = 0
            · subst e0
              by_cases y0 : x_ = 0
              · subst y0; rfl
              · by_cases y1 : x_ = 1
                · subst y1; rfl
                · by_cases y2 : x_ = 2
                  · subst y2; rfl
                  · by_cases y3 : x_ = 3
                    · subst y3; rfl
                    · by_cases y4 : x_ = 4
                      · subst y4; rfl
                      · simp [sr, upd, y0, y1, y2, y3, y4]
            · by_cases e4 : j_ = 4
              · subst e4; rfl
              · by_cases e11 : j_ = 11
                · subst e11; rfl
                · by_cases e12 : j_ = 12
                  · subst e12; rfl
                  · by_cases e13 : j_ = 13
                    · subst e13; rfl
                    · by_cases e15 : j_ = 15
                      · subst e15; rfl
                      · simp only [sr, e0, e4, e11, e12, e13, e15, if_false]
          rw [hst_] at hw
          refine lv_aload_n hC.1 hC.2.1 dX7_restore_179 rfl (lv_at hl 2 rfl) ?_
          refine lv_iload_n hC.1 hC.2.1 dX7_restore_180 rfl (lv_at hl 0 rfl) ?_
          refine lv_bipush (v := nI 72) hC.1 hC.2.1 dX7_restore_181 (by decide) ?_
          refine q_addN hC dX7_restore_183 ?_
          refine lv_aload_n hC.1 hC.2.1 dX7_restore_184 rfl (lv_at hl 1 rfl) ?_
          refine gf_X7_20 hC hw dX7_restore_185 ?_
          refine gf_X7_62 hC hw dX7_restore_188 ?_
          refine lv_iconst (v := nI 0) hC.1 hC.2.1 dX7_restore_191 (by decide) ?_
          refine lv_bipush (v := nI 24) hC.1 hC.2.1 dX7_restore_192 (by decide) ?_
          refine q_cpy (sp := ((3 + 3 + 10) + 72)) (dp := 0) (n := 24) 57 rfl 24 rfl (XW_s14 _) hC hw hl (by omega) (by omega) (by decide) (by decide) ⟨Nat.le_of_ble_eq_true rfl, Nat.le_of_ble_eq_true rfl⟩ wk2_182 dX7_restore_194 (fun H locs hw => ?_)
          have hw : Wst E (XW E a) (sr (sr (sr (sr (sr (sr (sr σ 4 (upr (σ 47) 10 (σ 4))) 11 (va_cpy (σ 47) (σ 11) (3 + 3 + 10) 0 24)) 12 (va_cpy (σ 47) (σ 12) ((3 + 3 + 10) + 24) 0 24)) 13 (va_cpy (σ 47) (σ 13) ((3 + 3 + 10) + 48) 0 24)) 15 (va_cpy (σ 47) (σ 15) 3 0 3)) 0 (upd (upd (upd (upd (upd (σ 0) 0 (σ 47 0)) 1 (σ 47 1)) 2 (σ 47 2)) 3 (nI (if 18 ≠ 0 then (18 - 1) else 29))) 4 (nI (kp - 1)))) 14 (va_cpy (σ 47) (σ 14) ((3 + 3 + 10) + 72) 0 24)) A s.heap H locs := hw
          have hst_ : sr (sr (sr (sr (sr (sr (sr σ 4 (upr (σ 47) 10 (σ 4))) 11 (va_cpy (σ 47) (σ 11) (3 + 3 + 10) 0 24)) 12 (va_cpy (σ 47) (σ 12) ((3 + 3 + 10) + 24) 0 24)) 13 (va_cpy (σ 47) (σ 13) ((3 + 3 + 10) + 48) 0 24)) 15 (va_cpy (σ 47) (σ 15) 3 0 3)) 0 (upd (upd (upd (upd (upd (σ 0) 0 (σ 47 0)) 1 (σ 47 1)) 2 (σ 47 2)) 3 (nI (if 18 ≠ 0 then (18 - 1) else 29))) 4 (nI (kp - 1)))) 14 (va_cpy (σ 47) (σ 14) ((3 + 3 + 10) + 72) 0 24) = sr (sr (sr (sr (sr (sr (sr σ 4 (upr (σ 47) 10 (σ 4))) 11 (va_cpy (σ 47) (σ 11) (3 + 3 + 10) 0 24)) 12 (va_cpy (σ 47) (σ 12) ((3 + 3 + 10) + 24) 0 24)) 13 (va_cpy (σ 47) (σ 13) ((3 + 3 + 10) + 48) 0 24)) 14 (va_cpy (σ 47) (σ 14) ((3 + 3 + 10) + 72) 0 24)) 15 (va_cpy (σ 47) (σ 15) 3 0 3)) 0 (upd (upd (upd (upd (upd (σ 0) 0 (σ 47 0)) 1 (σ 47 1)) 2 (σ 47 2)) 3 (nI (if 18 ≠ 0 then (18 - 1) else 29))) 4 (nI (kp - 1))) := by
            funext j_ x_
            by_cases e0 : j_ = 0
            · subst e0
              by_cases y0 : x_ = 0
              · subst y0; rfl
              · by_cases y1 : x_ = 1
                · subst y1; rfl
                · by_cases y2 : x_ = 2
                  · subst y2; rfl
                  · by_cases y3 : x_ = 3
                    · subst y3; rfl
                    · by_cases y4 : x_ = 4
                      · subst y4; rfl
                      · simp [sr, upd, y0, y1, y2, y3, y4]
            · by_cases e4 : j_ = 4
              · subst e4; rfl
              · by_cases e11 : j_ = 11
                · subst e11; rfl
                · by_cases e12 : j_ = 12
                  · subst e12; rfl
                  · by_cases e13 : j_ = 13
                    · subst e13; rfl
                    · by_cases e14 : j_ = 14
                      · subst e14; rfl
                      · by_cases e15 : j_ = 15
                        · subst e15; rfl
                        · simp only [sr, e0, e4, e11, e12, e13, e14, e15, if_false]
          rw [hst_] at hw
          refine hret _ _ _ _ _ hw ?_ dX7_restore_197
          exact rfl
        · refine lv_aload_n hC.1 hC.2.1 dX7_restore_96 rfl (lv_at hl 0 rfl) ?_
          refine gf_X7_16 hC hw dX7_restore_97 ?_
          refine gf_X7_49 hC hw dX7_restore_100 ?_
          refine lv_iload_n hC.1 hC.2.1 dX7_restore_103 rfl (lv_at hl 3 rfl) ?_
          refine lv_aload_n hC.1 hC.2.1 dX7_restore_104 rfl (lv_at hl 1 rfl) ?_
          refine lv_iload_n hC.1 hC.2.1 dX7_restore_105 rfl (lv_at hl 2 rfl) ?_
          refine lv_iload_n hC.1 hC.2.1 dX7_restore_106 rfl (lv_at hl 3 rfl) ?_
          refine q_addN hC dX7_restore_107 ?_
          refine q_ald (Wf := XW E a) (v := σ 47 ((3 + 3) + h)) 57 rfl (by decide) hC hw (by omega) rfl dX7_restore_108 ?_
          refine lv_iconst (v := nI 1) hC.1 hC.2.1 dX7_restore_109 (by decide) ?_
          have J118_6 : ∀ (w5 : Int32), w5 = (if (σ 47 ((3 + 3) + h)) = 1 then (1 : Int32) else 0) → ∀ (H : Heap) (locs : List Loc) (ls : Array Slot), Wst E (XW E a) (sr (sr (sr σ 4 (upr (σ 47) h (σ 4))) 15 (va_cpy (σ 47) (σ 15) 3 0 3)) 0 (upd (upd (upd (upd (upd (σ 0) 0 (σ 47 0)) 1 (σ 47 1)) 2 (σ 47 2)) 3 (nI (if 18 ≠ 0 then (18 - 1) else 29))) 4 (nI (kp - 1)))) A s.heap H locs → lv_has ls 4 [(0, .ref (a 68)), (1, .ref (a 47)), (2, .int (nI (3 + 3))), (3, .int (nI h))] → W p l e ({ frames := 1, cells := 0, slots := 0, locals := 24 }) s m args below meth c H locs 0 0 Q (F0 m 118 ls [.int (w5), .int (nI h), .ref (a 4)]) := by
            intro w5 e6 H locs ls hw hl
            subst e6
            refine as_X4 hC hw (by omega) vz_B dX7_restore_118 (fun H locs hw => ?_)
            have hw : Wst E (XW E a) (sr (sr (sr (sr σ 4 (upr (σ 47) h (σ 4))) 15 (va_cpy (σ 47) (σ 15) 3 0 3)) 0 (upd (upd (upd (upd (upd (σ 0) 0 (σ 47 0)) 1 (σ 47 1)) 2 (σ 47 2)) 3 (nI (if 18 ≠ 0 then (18 - 1) else 29))) 4 (nI (kp - 1)))) 4 (upd (upr (σ 47) h (σ 4)) h (if (σ 47 ((3 + 3) + h)) = 1 then (1 : Int32) else 0))) A s.heap H locs := hw
            have hst_ : sr (sr (sr (sr σ 4 (upr (σ 47) h (σ 4))) 15 (va_cpy (σ 47) (σ 15) 3 0 3)) 0 (upd (upd (upd (upd (upd (σ 0) 0 (σ 47 0)) 1 (σ 47 1)) 2 (σ 47 2)) 3 (nI (if 18 ≠ 0 then (18 - 1) else 29))) 4 (nI (kp - 1)))) 4 (upd (upr (σ 47) h (σ 4)) h (if (σ 47 ((3 + 3) + h)) = 1 then (1 : Int32) else 0)) = sr (sr (sr σ 4 (upd (upr (σ 47) h (σ 4)) h (if (σ 47 ((3 + 3) + h)) = 1 then (1 : Int32) else 0))) 15 (va_cpy (σ 47) (σ 15) 3 0 3)) 0 (upd (upd (upd (upd (upd (σ 0) 0 (σ 47 0)) 1 (σ 47 1)) 2 (σ 47 2)) 3 (nI (if 18 ≠ 0 then (18 - 1) else 29))) 4 (nI (kp - 1))) := by
              funext j_ x_
              by_cases e0 : j_ = 0
              · subst e0
                by_cases y0 : x_ = 0
                · subst y0; rfl
                · by_cases y1 : x_ = 1
                  · subst y1; rfl
                  · by_cases y2 : x_ = 2
                    · subst y2; rfl
                    · by_cases y3 : x_ = 3
                      · subst y3; rfl
                      · by_cases y4 : x_ = 4
                        · subst y4; rfl
                        · simp [sr, upd, y0, y1, y2, y3, y4]
              · by_cases e4 : j_ = 4
                · subst e4; rfl
                · by_cases e15 : j_ = 15
                  · subst e15; rfl
                  · simp only [sr, e0, e4, e15, if_false]
            rw [hst_] at hw
            refine lv_iinc (v := nI (h + 1)) (lv' := [(3, .int (nI (h + 1))), (0, .ref (a 68)), (1, .ref (a 47)), (2, .int (nI (3 + 3)))]) hC.1 hC.2.1 dX7_restore_119 hl (k := 3) rfl (nI_add _ _) (by decide) rfl (fun ls hl => ?_)
            refine lv_goto (tgt := 90) hC.1 hC.2.1 dX7_restore_122 (by decide) ?_
            rw [upr_s] at hw
            exact ih90 (h + 1) (by omega) (by omega) _ _ _ hw (lv_sub hl [1, 2, 3, 0] rfl)
          refine q_cmpne hC 117 cI dX7_restore_110 (by decide) (fun (c7 : ¬ ((σ 47 ((3 + 3) + h)) = 1)) => ?_) (fun (c7 : (σ 47 ((3 + 3) + h)) = 1) => ?_)
          · refine lv_iconst (v := nI 0) hC.1 hC.2.1 dX7_restore_117 (by decide) ?_
            exact J118_6 _ (if_neg c7).symm _ _ _ hw (lv_sub hl [0, 1, 2, 3] rfl)
          · refine lv_iconst (v := nI 1) hC.1 hC.2.1 dX7_restore_113 (by decide) ?_
            refine lv_goto (tgt := 118) hC.1 hC.2.1 dX7_restore_114 (by decide) ?_
            exact J118_6 _ (if_pos c7).symm _ _ _ hw (lv_sub hl [0, 1, 2, 3] rfl)
    have hst_ : sr (sr σ 15 (va_cpy (σ 47) (σ 15) 3 0 3)) 0 (upd (upd (upd (upd (upd (σ 0) 0 (σ 47 0)) 1 (σ 47 1)) 2 (σ 47 2)) 3 (nI (if 18 ≠ 0 then (18 - 1) else 29))) 4 (nI (kp - 1))) = sr (sr (sr σ 4 (upr (σ 47) 0 (σ 4))) 15 (va_cpy (σ 47) (σ 15) 3 0 3)) 0 (upd (upd (upd (upd (upd (σ 0) 0 (σ 47 0)) 1 (σ 47 1)) 2 (σ 47 2)) 3 (nI (if 18 ≠ 0 then (18 - 1) else 29))) 4 (nI (kp - 1))) := by
      funext j_ x_
      by_cases e0 : j_ = 0
      · subst e0
        by_cases y0 : x_ = 0
        · subst y0; rfl
        · by_cases y1 : x_ = 1
          · subst y1; rfl
          · by_cases y2 : x_ = 2
            · subst y2; rfl
            · by_cases y3 : x_ = 3
              · subst y3; rfl
              · by_cases y4 : x_ = 4
                · subst y4; rfl
                · simp [sr, upd, y0, y1, y2, y3, y4]
      · by_cases e4 : j_ = 4
        · subst e4; show σ 4 x_ = upr (σ 47) 0 (σ 4) x_; rw [upr_0]
        · by_cases e15 : j_ = 15
          · subst e15; rfl
          · simp only [sr, e0, e4, e15, if_false]
    rw [hst_] at hw
    exact L90_2 _ 0 (by omega) (Nat.lt_succ_self _) _ _ _ hw (lv_sub hl [3, 2, 1, 0] rfl)
  refine q_ifne hC 13 (cN0 (by omega)) dX7_restore_5 (by decide) (fun (c8 : 18 ≠ 0) => ?_) (fun (c8 : 18 = 0) => ?_)
  · refine lv_aload_n hC.1 hC.2.1 dX7_restore_13 rfl (lv_at hl 0 rfl) ?_
    refine gf_X7_28 (v := nI 18) hC hw hnx dX7_restore_14 ?_
    refine lv_iconst (v := nI 1) hC.1 hC.2.1 dX7_restore_17 (by decide) ?_
    refine q_subN hC (by omega) dX7_restore_18 ?_
    exact J19_2 _ (by (rw [if_pos c8]) <;> rfl) _ _ _ hw (lv_sub hl [0] rfl)
  · refine lv_bipush (v := nI 29) hC.1 hC.2.1 dX7_restore_8 (by decide) ?_
    refine lv_goto (tgt := 19) hC.1 hC.2.1 dX7_restore_10 (by decide) ?_
    exact J19_2 _ (by (rw [if_neg (fun q => q c8)]) <;> rfl) _ _ _ hw (lv_sub hl [0] rfl)
set_option maxHeartbeats 4000000 in
set_option maxRecDepth 100000 in
theorem tX7_restore_k19 (l : Launch) (E : EV) (a : Nat → Nat) (σ : St) (kp : Nat) (hnx : σ 0 3 = nI 19) (hkp : σ 0 4 = nI kp) (hk30 : kp ≤ 30) (hk1 : 1 ≤ kp) : MV l E (XW E a) yX7_restore (Cond.code yX7_restore cX7_restore 4 none) ({ frames := 1, cells := 0, slots := 0, locals := 24 }) [.ref (a 68)] σ (fun u_ => u_ = sr (sr (sr (sr (sr (sr (sr σ 4 (upr (σ 48) 10 (σ 4))) 11 (va_cpy (σ 48) (σ 11) 16 0 24)) 12 (va_cpy (σ 48) (σ 12) 40 0 24)) 13 (va_cpy (σ 48) (σ 13) 64 0 24)) 14 (va_cpy (σ 48) (σ 14) 88 0 24)) 15 (va_cpy (σ 48) (σ 15) 3 0 3)) 0 (upd (upd (upd (upd (upd (σ 0) 0 ((σ 48) 0)) 1 ((σ 48) 1)) 2 ((σ 48) 2)) 3 (nI (if 19 ≠ 0 then 19 - 1 else 29))) 4 (nI (kp - 1)))) := by
  refine MV.mk (by decide +kernel) (Nat.le_of_ble_eq_true rfl) ?_
  intro p e s m args below meth c ls A Q hret hC hw hl
  have hC : Cxt E p s m args meth c cX7_restore 4 none RX7 A := hC
  have hl : lv_has ls 4 [(0, .ref (a 68))] := hl
  refine lv_aload_n hC.1 hC.2.1 dX7_restore_0 rfl (lv_at hl 0 rfl) ?_
  refine lv_aload_n hC.1 hC.2.1 dX7_restore_1 rfl (lv_at hl 0 rfl) ?_
  refine gf_X7_28 (v := nI 19) hC hw hnx dX7_restore_2 ?_
  have J19_2 : ∀ (w1 : Nat), w1 = (if 19 ≠ 0 then (19 - 1) else 29) → ∀ (H : Heap) (locs : List Loc) (ls : Array Slot), Wst E (XW E a) (σ) A s.heap H locs → lv_has ls 4 [(0, .ref (a 68))] → W p l e ({ frames := 1, cells := 0, slots := 0, locals := 24 }) s m args below meth c H locs 0 0 Q (F0 m 19 ls [.int (nI w1), .ref (a 68)]) := by
    intro w1 e2 H locs ls hw hl
    subst e2
    refine pf_X7_28 hC hw dX7_restore_19 (fun H locs hw => ?_)
    have hw : Wst E (XW E a) (sr σ 0 (upd (σ 0) 3 (nI (if 19 ≠ 0 then (19 - 1) else 29)))) A s.heap H locs := hw
    refine lv_aload_n hC.1 hC.2.1 dX7_restore_22 rfl (lv_at hl 0 rfl) ?_
    refine lv_dup hC.1 hC.2.1 dX7_restore_23 rfl ?_
    refine gf_X7_65 (v := nI kp) hC hw hkp dX7_restore_24 ?_
    refine lv_iconst (v := nI 1) hC.1 hC.2.1 dX7_restore_27 (by decide) ?_
    refine q_subN hC (by omega) dX7_restore_28 ?_
    refine pf_X7_65 hC hw dX7_restore_29 (fun H locs hw => ?_)
    have hw : Wst E (XW E a) (sr (sr σ 0 (upd (σ 0) 3 (nI (if 19 ≠ 0 then (19 - 1) else 29)))) 0 (upd (upd (σ 0) 3 (nI (if 19 ≠ 0 then (19 - 1) else 29))) 4 (nI (kp - 1)))) A s.heap H locs := hw
    have hst_ : sr (sr σ 0 (upd (σ 0) 3 (nI (if 19 ≠ 0 then (19 - 1) else 29)))) 0 (upd (upd (σ 0) 3 (nI (if 19 ≠ 0 then (19 - 1) else 29))) 4 (nI (kp - 1))) = sr σ 0 (upd (upd (σ 0) 3 (nI (if 19 ≠ 0 then (19 - 1) else 29))) 4 (nI (kp - 1))) := by
      funext j_ x_
      by_cases e0 : j_ = 0
      · subst e0
        by_cases y3 : x_ = 3
        · subst y3; rfl
        · by_cases y4 : x_ = 4
          · subst y4; rfl
          · simp [sr, upd, y3, y4]
      · simp only [sr, e0, if_false]
    rw [hst_] at hw
    refine lv_aload_n hC.1 hC.2.1 dX7_restore_32 rfl (lv_at hl 0 rfl) ?_
    refine gf_X7_13 hC hw dX7_restore_33 ?_
    refine lv_aload_n hC.1 hC.2.1 dX7_restore_36 rfl (lv_at hl 0 rfl) ?_
    refine gf_X7_28 (v := nI (if 19 ≠ 0 then (19 - 1) else 29)) hC hw rfl dX7_restore_37 ?_
    refine q_top (y := nI 18) rfl ?_
    refine q_aald hC hw (i := 18) (by decide) dX7_restore_40 ?_
    refine lv_astore_n (lv' := [(1, .ref (a 48)), (0, .ref (a 68))]) hC.1 hC.2.1 dX7_restore_41 rfl hl (by decide) rfl (fun ls hl => ?_)
    refine lv_aload_n hC.1 hC.2.1 dX7_restore_42 rfl (lv_at hl 1 rfl) ?_
    refine gf_X7_16 hC hw dX7_restore_43 ?_
    refine lv_aload_n hC.1 hC.2.1 dX7_restore_46 rfl (lv_at hl 0 rfl) ?_
    refine lv_iconst (v := nI 0) hC.1 hC.2.1 dX7_restore_47 (by decide) ?_
    refine q_ald (Wf := XW E a) (v := σ 48 0) 58 rfl (by decide) hC hw (by omega) rfl dX7_restore_48 ?_
    refine pf_X7_32 hC hw dX7_restore_49 (fun H locs hw => ?_)
    have hw : Wst E (XW E a) (sr (sr σ 0 (upd (upd (σ 0) 3 (nI (if 19 ≠ 0 then (19 - 1) else 29))) 4 (nI (kp - 1)))) 0 (upd (upd (upd (σ 0) 3 (nI (if 19 ≠ 0 then (19 - 1) else 29))) 4 (nI (kp - 1))) 0 (σ 48 0))) A s.heap H locs := hw
    have hst_ : sr (sr σ 0 (upd (upd (σ 0) 3 (nI (if 19 ≠ 0 then (19 - 1) else 29))) 4 (nI (kp - 1)))) 0 (upd (upd (upd (σ 0) 3 (nI (if 19 ≠ 0 then (19 - 1) else 29))) 4 (nI (kp - 1))) 0 (σ 48 0)) = sr σ 0 (upd (upd (upd (σ 0) 0 (σ 48 0)) 3 (nI (if 19 ≠ 0 then (19 - 1) else 29))) 4 (nI (kp - 1))) := by
      funext j_ x_
      by_cases e0 : j_ = 0
      · subst e0
        by_cases y0 : x_ = 0
        · subst y0; rfl
        · by_cases y3 : x_ = 3
          · subst y3; rfl
          · by_cases y4 : x_ = 4
            · subst y4; rfl
            · simp [sr, upd, y0, y3, y4]
      · simp only [sr, e0, if_false]
    rw [hst_] at hw
    refine lv_aload_n hC.1 hC.2.1 dX7_restore_52 rfl (lv_at hl 1 rfl) ?_
    refine gf_X7_20 hC hw dX7_restore_53 ?_
    refine lv_aload_n hC.1 hC.2.1 dX7_restore_56 rfl (lv_at hl 0 rfl) ?_
    refine lv_iconst (v := nI 1) hC.1 hC.2.1 dX7_restore_57 (by decide) ?_
    refine q_ald (Wf := XW E a) (v := σ 48 1) 58 rfl (by decide) hC hw (by omega) rfl dX7_restore_58 ?_
    refine pf_X7_37 hC hw dX7_restore_59 (fun H locs hw => ?_)
    have hw : Wst E (XW E a) (sr (sr σ 0 (upd (upd (upd (σ 0) 0 (σ 48 0)) 3 (nI (if 19 ≠ 0 then (19 - 1) else 29))) 4 (nI (kp - 1)))) 0 (upd (upd (upd (upd (σ 0) 0 (σ 48 0)) 3 (nI (if 19 ≠ 0 then (19 - 1) else 29))) 4 (nI (kp - 1))) 1 (σ 48 1))) A s.heap H locs := hw
    have hst_ : sr (sr σ 0 (upd (upd (upd (σ 0) 0 (σ 48 0)) 3 (nI (if 19 ≠ 0 then (19 - 1) else 29))) 4 (nI (kp - 1)))) 0 (upd (upd (upd (upd (σ 0) 0 (σ 48 0)) 3 (nI (if 19 ≠ 0 then (19 - 1) else 29))) 4 (nI (kp - 1))) 1 (σ 48 1)) = sr σ 0 (upd (upd (upd (upd (σ 0) 0 (σ 48 0)) 1 (σ 48 1)) 3 (nI (if 19 ≠ 0 then (19 - 1) else 29))) 4 (nI (kp - 1))) := by
      funext j_ x_
      by_cases e0 : j_ = 0
      · subst e0
        by_cases y0 : x_ = 0
        · subst y0; rfl
        · by_cases y1 : x_ = 1
          · subst y1; rfl
          · by_cases y3 : x_ = 3
            · subst y3; rfl
            · by_cases y4 : x_ = 4
              · subst y4; rfl
              · simp [sr, upd, y0, y1, y3, y4]
      · simp only [sr, e0, if_false]
    rw [hst_] at hw
    refine lv_aload_n hC.1 hC.2.1 dX7_restore_62 rfl (lv_at hl 1 rfl) ?_
    refine gf_X7_20 hC hw dX7_restore_63 ?_
    refine lv_aload_n hC.1 hC.2.1 dX7_restore_66 rfl (lv_at hl 0 rfl) ?_
    refine lv_iconst (v := nI 2) hC.1 hC.2.1 dX7_restore_67 (by decide) ?_
    refine q_ald (Wf := XW E a) (v := σ 48 2) 58 rfl (by decide) hC hw (by omega) rfl dX7_restore_68 ?_
    refine pf_X7_40 hC hw dX7_restore_69 (fun H locs hw => ?_)
    have hw : Wst E (XW E a) (sr (sr σ 0 (upd (upd (upd (upd (σ 0) 0 (σ 48 0)) 1 (σ 48 1)) 3 (nI (if 19 ≠ 0 then (19 - 1) else 29))) 4 (nI (kp - 1)))) 0 (upd (upd (upd (upd (upd (σ 0) 0 (σ 48 0)) 1 (σ 48 1)) 3 (nI (if 19 ≠ 0 then (19 - 1) else 29))) 4 (nI (kp - 1))) 2 (σ 48 2))) A s.heap H locs := hw
    have hst_ : sr (sr σ 0 (upd (upd (upd (upd (σ 0) 0 (σ 48 0)) 1 (σ 48 1)) 3 (nI (if 19 ≠ 0 then (19 - 1) else 29))) 4 (nI (kp - 1)))) 0 (upd (upd (upd (upd (upd (σ 0) 0 (σ 48 0)) 1 (σ 48 1)) 3 (nI (if 19 ≠ 0 then (19 - 1) else 29))) 4 (nI (kp - 1))) 2 (σ 48 2)) = sr σ 0 (upd (upd (upd (upd (upd (σ 0) 0 (σ 48 0)) 1 (σ 48 1)) 2 (σ 48 2)) 3 (nI (if 19 ≠ 0 then (19 - 1) else 29))) 4 (nI (kp - 1))) := by
      funext j_ x_
      by_cases e0 : j_ = 0
      · subst e0
        by_cases y0 : x_ = 0
        · subst y0; rfl
        · by_cases y1 : x_ = 1
          · subst y1; rfl
          · by_cases y2 : x_ = 2
            · subst y2; rfl
            · by_cases y3 : x_ = 3
              · subst y3; rfl
              · by_cases y4 : x_ = 4
                · subst y4; rfl
                · simp [sr, upd, y0, y1, y2, y3, y4]
      · simp only [sr, e0, if_false]
    rw [hst_] at hw
    refine lv_iconst (v := nI 3) hC.1 hC.2.1 dX7_restore_72 (by decide) ?_
    refine lv_istore_n (lv' := [(2, .int (nI 3)), (1, .ref (a 48)), (0, .ref (a 68))]) hC.1 hC.2.1 dX7_restore_73 rfl hl (by decide) rfl (fun ls hl => ?_)
    refine lv_aload_n hC.1 hC.2.1 dX7_restore_74 rfl (lv_at hl 1 rfl) ?_
    refine lv_iload_n hC.1 hC.2.1 dX7_restore_75 rfl (lv_at hl 0 rfl) ?_
    refine lv_aload_n hC.1 hC.2.1 dX7_restore_76 rfl (lv_at hl 2 rfl) ?_
    refine gf_X7_24 hC hw dX7_restore_77 ?_
    refine lv_iconst (v := nI 0) hC.1 hC.2.1 dX7_restore_80 (by decide) ?_
    refine lv_iconst (v := nI 3) hC.1 hC.2.1 dX7_restore_81 (by decide) ?_
    refine q_cpy (sp := 3) (dp := 0) (n := 3) 58 rfl 25 rfl (XW_s15 _) hC hw hl (by omega) (by omega) (by decide) (by decide) ⟨Nat.le_of_ble_eq_true rfl, Nat.le_of_ble_eq_true rfl⟩ wk2_182 dX7_restore_82 (fun H locs hw => ?_)
    have hw : Wst E (XW E a) (sr (sr σ 0 (upd (upd (upd (upd (upd (σ 0) 0 (σ 48 0)) 1 (σ 48 1)) 2 (σ 48 2)) 3 (nI (if 19 ≠ 0 then (19 - 1) else 29))) 4 (nI (kp - 1)))) 15 (va_cpy (σ 48) (σ 15) 3 0 3)) A s.heap H locs := hw
    have hst_ : sr (sr σ 0 (upd (upd (upd (upd (upd (σ 0) 0 (σ 48 0)) 1 (σ 48 1)) 2 (σ 48 2)) 3 (nI (if 19 ≠ 0 then (19 - 1) else 29))) 4 (nI (kp - 1)))) 15 (va_cpy (σ 48) (σ 15) 3 0 3) = sr (sr σ 15 (va_cpy (σ 48) (σ 15) 3 0 3)) 0 (upd (upd (upd (upd (upd (σ 0) 0 (σ 48 0)) 1 (σ 48 1)) 2 (σ 48 2)) 3 (nI (if 19 ≠ 0 then (19 - 1) else 29))) 4 (nI (kp - 1))) := by
      funext j_ x_
      by_cases e0 : j_ = 0
      · subst e0
        by_cases y0 : x_ = 0
        · subst y0; rfl
        · by_cases y1 : x_ = 1
          · subst y1; rfl
          · by_cases y2 : x_ = 2
            · subst y2; rfl
            · by_cases y3 : x_ = 3
              · subst y3; rfl
              · by_cases y4 : x_ = 4
                · subst y4; rfl
                · simp [sr, upd, y0, y1, y2, y3, y4]
      · by_cases e15 : j_ = 15
        · subst e15; rfl
        · simp only [sr, e0, e15, if_false]
    rw [hst_] at hw
    refine lv_iinc (v := nI (3 + 3)) (lv' := [(2, .int (nI (3 + 3))), (1, .ref (a 48)), (0, .ref (a 68))]) hC.1 hC.2.1 dX7_restore_85 hl (k := 0) rfl (nI_add _ _) (by decide) rfl (fun ls hl => ?_)
    refine lv_iconst (v := nI 0) hC.1 hC.2.1 dX7_restore_88 (by decide) ?_
    refine lv_istore_n (lv' := [(3, .int (nI 0)), (2, .int (nI (3 + 3))), (1, .ref (a 48)), (0, .ref (a 68))]) hC.1 hC.2.1 dX7_restore_89 rfl hl (by decide) rfl (fun ls hl => ?_)
    have L90_2 : ∀ (n : Nat), ∀ (h : Nat), (h ≤ 10) → (10 - h) < n → ∀ (H : Heap) (locs : List Loc) (ls : Array Slot), Wst E (XW E a) (sr (sr (sr σ 4 (upr (σ 48) h (σ 4))) 15 (va_cpy (σ 48) (σ 15) 3 0 3)) 0 (upd (upd (upd (upd (upd (σ 0) 0 (σ 48 0)) 1 (σ 48 1)) 2 (σ 48 2)) 3 (nI (if 19 ≠ 0 then (19 - 1) else 29))) 4 (nI (kp - 1)))) A s.heap H locs → lv_has ls 4 [(0, .ref (a 68)), (1, .ref (a 48)), (2, .int (nI (3 + 3))), (3, .int (nI h))] → W p l e ({ frames := 1, cells := 0, slots := 0, locals := 24 }) s m args below meth c H locs 0 0 Q (F0 m 90 ls []) := by
      intro n
      induction n with
      | zero => intro h hh hn; exact absurd hn (Nat.not_lt_zero _)
      | succ n ih90 =>
        intro h hh hn90 H locs ls hw hl
        refine lv_iload_n hC.1 hC.2.1 dX7_restore_90 rfl (lv_at hl 3 rfl) ?_
        refine lv_bipush (v := nI 10) hC.1 hC.2.1 dX7_restore_91 (by decide) ?_
        refine q_cmpge hC 125 (cNle (by omega) (by omega)) dX7_restore_93 (by decide) (fun (c4 : 10 ≤ h) => ?_) (fun (c4 : h < 10) => ?_)
        · have hh9 : h = 10 := by omega
          rw [hh9] at hw
          refine lv_iinc (v := nI (3 + 3 + 10)) (lv' := [(2, .int (nI (3 + 3 + 10))), (0, .ref (a 68)), (1, .ref (a 48)), (3, .int (nI h))]) hC.1 hC.2.1 dX7_restore_125 hl (k := 2) rfl (nI_add _ _) (by decide) rfl (fun ls hl => ?_)
          refine lv_aload_n hC.1 hC.2.1 dX7_restore_128 rfl (lv_at hl 2 rfl) ?_
          refine lv_iload_n hC.1 hC.2.1 dX7_restore_129 rfl (lv_at hl 0 rfl) ?_
          refine lv_aload_n hC.1 hC.2.1 dX7_restore_130 rfl (lv_at hl 1 rfl) ?_
          refine gf_X7_20 hC hw dX7_restore_131 ?_
          refine gf_X7_53 hC hw dX7_restore_134 ?_
          refine lv_iconst (v := nI 0) hC.1 hC.2.1 dX7_restore_137 (by decide) ?_
          refine lv_bipush (v := nI 24) hC.1 hC.2.1 dX7_restore_138 (by decide) ?_
          refine q_cpy (sp := (3 + 3 + 10)) (dp := 0) (n := 24) 58 rfl 21 rfl (XW_s11 _) hC hw hl (by omega) (by omega) (by decide) (by decide) ⟨Nat.le_of_ble_eq_true rfl, Nat.le_of_ble_eq_true rfl⟩ wk2_182 dX7_restore_140 (fun H locs hw => ?_)
          have hw : Wst E (XW E a) (sr (sr (sr (sr σ 4 (upr (σ 48) 10 (σ 4))) 15 (va_cpy (σ 48) (σ 15) 3 0 3)) 0 (upd (upd (upd (upd (upd (σ 0) 0 (σ 48 0)) 1 (σ 48 1)) 2 (σ 48 2)) 3 (nI (if 19 ≠ 0 then (19 - 1) else 29))) 4 (nI (kp - 1)))) 11 (va_cpy (σ 48) (σ 11) (3 + 3 + 10) 0 24)) A s.heap H locs := hw
          have hst_ : sr (sr (sr (sr σ 4 (upr (σ 48) 10 (σ 4))) 15 (va_cpy (σ 48) (σ 15) 3 0 3)) 0 (upd (upd (upd (upd (upd (σ 0) 0 (σ 48 0)) 1 (σ 48 1)) 2 (σ 48 2)) 3 (nI (if 19 ≠ 0 then (19 - 1) else 29))) 4 (nI (kp - 1)))) 11 (va_cpy (σ 48) (σ 11) (3 + 3 + 10) 0 24) = sr (sr (sr (sr σ 4 (upr (σ 48) 10 (σ 4))) 11 (va_cpy (σ 48) (σ 11) (3 + 3 + 10) 0 24)) 15 (va_cpy (σ 48) (σ 15) 3 0 3)) 0 (upd (upd (upd (upd (upd (σ 0) 0 (σ 48 0)) 1 (σ 48 1)) 2 (σ 48 2)) 3 (nI (if 19 ≠ 0 then (19 - 1) else 29))) 4 (nI (kp - 1))) := by
            funext j_ x_
            by_cases e0 : j_ = 0
            · subst e0
              by_cases y0 : x_ = 0
              · subst y0; rfl
              · by_cases y1 : x_ = 1
                · subst y1; rfl
                · by_cases y2 : x_ = 2
                  · subst y2; rfl
                  · by_cases y3 : x_ = 3
                    · subst y3; rfl
                    · by_cases y4 : x_ = 4
                      · subst y4; rfl
                      · simp [sr, upd, y0, y1, y2, y3, y4]
            · by_cases e4 : j_ = 4
              · subst e4; rfl
              · by_cases e11 : j_ = 11
                · subst e11; rfl
                · by_cases e15 : j_ = 15
                  · subst e15; rfl
                  · simp only [sr, e0, e4, e11, e15, if_false]
          rw [hst_] at hw
          refine lv_aload_n hC.1 hC.2.1 dX7_restore_143 rfl (lv_at hl 2 rfl) ?_
          refine lv_iload_n hC.1 hC.2.1 dX7_restore_144 rfl (lv_at hl 0 rfl) ?_
          refine lv_bipush (v := nI 24) hC.1 hC.2.1 dX7_restore_145 (by decide) ?_
          refine q_addN hC dX7_restore_147 ?_
          refine lv_aload_n hC.1 hC.2.1 dX7_restore_148 rfl (lv_at hl 1 rfl) ?_
          refine gf_X7_20 hC hw dX7_restore_149 ?_
          refine gf_X7_56 hC hw dX7_restore_152 ?_
          refine lv_iconst (v := nI 0) hC.1 hC.2.1 dX7_restore_155 (by decide) ?_
          refine lv_bipush (v := nI 24) hC.1 hC.2.1 dX7_restore_156 (by decide) ?_
          refine q_cpy (sp := ((3 + 3 + 10) + 24)) (dp := 0) (n := 24) 58 rfl 22 rfl (XW_s12 _) hC hw hl (by omega) (by omega) (by decide) (by decide) ⟨Nat.le_of_ble_eq_true rfl, Nat.le_of_ble_eq_true rfl⟩ wk2_182 dX7_restore_158 (fun H locs hw => ?_)
          have hw : Wst E (XW E a) (sr (sr (sr (sr (sr σ 4 (upr (σ 48) 10 (σ 4))) 11 (va_cpy (σ 48) (σ 11) (3 + 3 + 10) 0 24)) 15 (va_cpy (σ 48) (σ 15) 3 0 3)) 0 (upd (upd (upd (upd (upd (σ 0) 0 (σ 48 0)) 1 (σ 48 1)) 2 (σ 48 2)) 3 (nI (if 19 ≠ 0 then (19 - 1) else 29))) 4 (nI (kp - 1)))) 12 (va_cpy (σ 48) (σ 12) ((3 + 3 + 10) + 24) 0 24)) A s.heap H locs := hw
          have hst_ : sr (sr (sr (sr (sr σ 4 (upr (σ 48) 10 (σ 4))) 11 (va_cpy (σ 48) (σ 11) (3 + 3 + 10) 0 24)) 15 (va_cpy (σ 48) (σ 15) 3 0 3)) 0 (upd (upd (upd (upd (upd (σ 0) 0 (σ 48 0)) 1 (σ 48 1)) 2 (σ 48 2)) 3 (nI (if 19 ≠ 0 then (19 - 1) else 29))) 4 (nI (kp - 1)))) 12 (va_cpy (σ 48) (σ 12) ((3 + 3 + 10) + 24) 0 24) = sr (sr (sr (sr (sr σ 4 (upr (σ 48) 10 (σ 4))) 11 (va_cpy (σ 48) (σ 11) (3 + 3 + 10) 0 24)) 12 (va_cpy (σ 48) (σ 12) ((3 + 3 + 10) + 24) 0 24)) 15 (va_cpy (σ 48) (σ 15) 3 0 3)) 0 (upd (upd (upd (upd (upd (σ 0) 0 (σ 48 0)) 1 (σ 48 1)) 2 (σ 48 2)) 3 (nI (if 19 ≠ 0 then (19 - 1) else 29))) 4 (nI (kp - 1))) := by
            funext j_ x_
            by_cases e0 : j_ = 0
            · subst e0
              by_cases y0 : x_ = 0
              · subst y0; rfl
              · by_cases y1 : x_ = 1
                · subst y1; rfl
                · by_cases y2 : x_ = 2
                  · subst y2; rfl
                  · by_cases y3 : x_ = 3
                    · subst y3; rfl
                    · by_cases y4 : x_ = 4
                      · subst y4; rfl
                      · simp [sr, upd, y0, y1, y2, y3, y4]
            · by_cases e4 : j_ = 4
              · subst e4; rfl
              · by_cases e11 : j_ = 11
                · subst e11; rfl
                · by_cases e12 : j_ = 12
                  · subst e12; rfl
                  · by_cases e15 : j_ = 15
                    · subst e15; rfl
                    · simp only [sr, e0, e4, e11, e12, e15, if_false]
          rw [hst_] at hw
          refine lv_aload_n hC.1 hC.2.1 dX7_restore_161 rfl (lv_at hl 2 rfl) ?_
          refine lv_iload_n hC.1 hC.2.1 dX7_restore_162 rfl (lv_at hl 0 rfl) ?_
          refine lv_bipush (v := nI 48) hC.1 hC.2.1 dX7_restore_163 (by decide) ?_
          refine q_addN hC dX7_restore_165 ?_
          refine lv_aload_n hC.1 hC.2.1 dX7_restore_166 rfl (lv_at hl 1 rfl) ?_
          refine gf_X7_20 hC hw dX7_restore_167 ?_
          refine gf_X7_59 hC hw dX7_restore_170 ?_
          refine lv_iconst (v := nI 0) hC.1 hC.2.1 dX7_restore_173 (by decide) ?_
          refine lv_bipush (v := nI 24) hC.1 hC.2.1 dX7_restore_174 (by decide) ?_
          refine q_cpy (sp := ((3 + 3 + 10) + 48)) (dp := 0) (n := 24) 58 rfl 23 rfl (XW_s13 _) hC hw hl (by omega) (by omega) (by decide) (by decide) ⟨Nat.le_of_ble_eq_true rfl, Nat.le_of_ble_eq_true rfl⟩ wk2_182 dX7_restore_176 (fun H locs hw => ?_)
          have hw : Wst E (XW E a) (sr (sr (sr (sr (sr (sr σ 4 (upr (σ 48) 10 (σ 4))) 11 (va_cpy (σ 48) (σ 11) (3 + 3 + 10) 0 24)) 12 (va_cpy (σ 48) (σ 12) ((3 + 3 + 10) + 24) 0 24)) 15 (va_cpy (σ 48) (σ 15) 3 0 3)) 0 (upd (upd (upd (upd (upd (σ 0) 0 (σ 48 0)) 1 (σ 48 1)) 2 (σ 48 2)) 3 (nI (if 19 ≠ 0 then (19 - 1) else 29))) 4 (nI (kp - 1)))) 13 (va_cpy (σ 48) (σ 13) ((3 + 3 + 10) + 48) 0 24)) A s.heap H locs := hw
          have hst_ : sr (sr (sr (sr (sr (sr σ 4 (upr (σ 48) 10 (σ 4))) 11 (va_cpy (σ 48) (σ 11) (3 + 3 + 10) 0 24)) 12 (va_cpy (σ 48) (σ 12) ((3 + 3 + 10) + 24) 0 24)) 15 (va_cpy (σ 48) (σ 15) 3 0 3)) 0 (upd (upd (upd (upd (upd (σ 0) 0 (σ 48 0)) 1 (σ 48 1)) 2 (σ 48 2)) 3 (nI (if 19 ≠ 0 then (19 - 1) else 29))) 4 (nI (kp - 1)))) 13 (va_cpy (σ 48) (σ 13) ((3 + 3 + 10) + 48) 0 24) = sr (sr (sr (sr (sr (sr σ 4 (upr (σ 48) 10 (σ 4))) 11 (va_cpy (σ 48) (σ 11) (3 + 3 + 10) 0 24)) 12 (va_cpy (σ 48) (σ 12) ((3 + 3 + 10) + 24) 0 24)) 13 (va_cpy (σ 48) (σ 13) ((3 + 3 + 10) + 48) 0 24)) 15 (va_cpy (σ 48) (σ 15) 3 0 3)) 0 (upd (upd (upd (upd (upd (σ 0) 0 (σ 48 0)) 1 (σ 48 1)) 2 (σ 48 2)) 3 (nI (if 19 ≠ 0 then (19 - 1) else 29))) 4 (nI (kp - 1))) := by
            funext j_ x_
            by_cases e0 : j_ = 0
            · subst e0
              by_cases y0 : x_ = 0
              · subst y0; rfl
              · by_cases y1 : x_ = 1
                · subst y1; rfl
                · by_cases y2 : x_ = 2
                  · subst y2; rfl
                  · by_cases y3 : x_ = 3
                    · subst y3; rfl
                    · by_cases y4 : x_ = 4
                      · subst y4; rfl
                      · simp [sr, upd, y0, y1, y2, y3, y4]
            · by_cases e4 : j_ = 4
              · subst e4; rfl
              · by_cases e11 : j_ = 11
                · subst e11; rfl
                · by_cases e12 : j_ = 12
                  · subst e12; rfl
                  · by_cases e13 : j_ = 13
                    · subst e13; rfl
                    · by_cases e15 : j_ = 15
                      · subst e15; rfl
                      · simp only [sr, e0, e4, e11, e12, e13, e15, if_false]
          rw [hst_] at hw
          refine lv_aload_n hC.1 hC.2.1 dX7_restore_179 rfl (lv_at hl 2 rfl) ?_
          refine lv_iload_n hC.1 hC.2.1 dX7_restore_180 rfl (lv_at hl 0 rfl) ?_
          refine lv_bipush (v := nI 72) hC.1 hC.2.1 dX7_restore_181 (by decide) ?_
          refine q_addN hC dX7_restore_183 ?_
          refine lv_aload_n hC.1 hC.2.1 dX7_restore_184 rfl (lv_at hl 1 rfl) ?_
          refine gf_X7_20 hC hw dX7_restore_185 ?_
          refine gf_X7_62 hC hw dX7_restore_188 ?_
          refine lv_iconst (v := nI 0) hC.1 hC.2.1 dX7_restore_191 (by decide) ?_
          refine lv_bipush (v := nI 24) hC.1 hC.2.1 dX7_restore_192 (by decide) ?_
          refine q_cpy (sp := ((3 + 3 + 10) + 72)) (dp := 0) (n := 24) 58 rfl 24 rfl (XW_s14 _) hC hw hl (by omega) (by omega) (by decide) (by decide) ⟨Nat.le_of_ble_eq_true rfl, Nat.le_of_ble_eq_true rfl⟩ wk2_182 dX7_restore_194 (fun H locs hw => ?_)
          have hw : Wst E (XW E a) (sr (sr (sr (sr (sr (sr (sr σ 4 (upr (σ 48) 10 (σ 4))) 11 (va_cpy (σ 48) (σ 11) (3 + 3 + 10) 0 24)) 12 (va_cpy (σ 48) (σ 12) ((3 + 3 + 10) + 24) 0 24)) 13 (va_cpy (σ 48) (σ 13) ((3 + 3 + 10) + 48) 0 24)) 15 (va_cpy (σ 48) (σ 15) 3 0 3)) 0 (upd (upd (upd (upd (upd (σ 0) 0 (σ 48 0)) 1 (σ 48 1)) 2 (σ 48 2)) 3 (nI (if 19 ≠ 0 then (19 - 1) else 29))) 4 (nI (kp - 1)))) 14 (va_cpy (σ 48) (σ 14) ((3 + 3 + 10) + 72) 0 24)) A s.heap H locs := hw
          have hst_ : sr (sr (sr (sr (sr (sr (sr σ 4 (upr (σ 48) 10 (σ 4))) 11 (va_cpy (σ 48) (σ 11) (3 + 3 + 10) 0 24)) 12 (va_cpy (σ 48) (σ 12) ((3 + 3 + 10) + 24) 0 24)) 13 (va_cpy (σ 48) (σ 13) ((3 + 3 + 10) + 48) 0 24)) 15 (va_cpy (σ 48) (σ 15) 3 0 3)) 0 (upd (upd (upd (upd (upd (σ 0) 0 (σ 48 0)) 1 (σ 48 1)) 2 (σ 48 2)) 3 (nI (if 19 ≠ 0 then (19 - 1) else 29))) 4 (nI (kp - 1)))) 14 (va_cpy (σ 48) (σ 14) ((3 + 3 + 10) + 72) 0 24) = sr (sr (sr (sr (sr (sr (sr σ 4 (upr (σ 48) 10 (σ 4))) 11 (va_cpy (σ 48) (σ 11) (3 + 3 + 10) 0 24)) 12 (va_cpy (σ 48) (σ 12) ((3 + 3 + 10) + 24) 0 24)) 13 (va_cpy (σ 48) (σ 13) ((3 + 3 + 10) + 48) 0 24)) 14 (va_cpy (σ 48) (σ 14) ((3 + 3 + 10) + 72) 0 24)) 15 (va_cpy (σ 48) (σ 15) 3 0 3)) 0 (upd (upd (upd (upd (upd (σ 0) 0 (σ 48 0)) 1 (σ 48 1)) 2 (σ 48 2)) 3 (nI (if 19 ≠ 0 then (19 - 1) else 29))) 4 (nI (kp - 1))) := by
            funext j_ x_
            by_cases e0 : j_ = 0
            · subst e0
              by_cases y0 : x_ = 0
              · subst y0; rfl
              · by_cases y1 : x_ = 1
                · subst y1; rfl
                · by_cases y2 : x_ = 2
                  · subst y2; rfl
                  · by_cases y3 : x_ = 3
                    · subst y3; rfl
                    · by_cases y4 : x_ = 4
                      · subst y4; rfl
                      · simp [sr, upd, y0, y1, y2, y3, y4]
            · by_cases e4 : j_ = 4
              · subst e4; rfl
              · by_cases e11 : j_ = 11
                · subst e11; rfl
                · by_cases e12 : j_ = 12
                  · subst e12; rfl
                  · by_cases e13 : j_ = 13
                    · subst e13; rfl
                    · by_cases e14 : j_ = 14
                      · subst e14; rfl
                      · by_cases e15 : j_ = 15
                        · subst e15; rfl
                        · simp only [sr, e0, e4, e11, e12, e13, e14, e15, if_false]
          rw [hst_] at hw
          refine hret _ _ _ _ _ hw ?_ dX7_restore_197
          exact rfl
        · refine lv_aload_n hC.1 hC.2.1 dX7_restore_96 rfl (lv_at hl 0 rfl) ?_
          refine gf_X7_16 hC hw dX7_restore_97 ?_
          refine gf_X7_49 hC hw dX7_restore_100 ?_
          refine lv_iload_n hC.1 hC.2.1 dX7_restore_103 rfl (lv_at hl 3 rfl) ?_
          refine lv_aload_n hC.1 hC.2.1 dX7_restore_104 rfl (lv_at hl 1 rfl) ?_
          refine lv_iload_n hC.1 hC.2.1 dX7_restore_105 rfl (lv_at hl 2 rfl) ?_
          refine lv_iload_n hC.1 hC.2.1 dX7_restore_106 rfl (lv_at hl 3 rfl) ?_
          refine q_addN hC dX7_restore_107 ?_
          refine q_ald (Wf := XW E a) (v := σ 48 ((3 + 3) + h)) 58 rfl (by decide) hC hw (by omega) rfl dX7_restore_108 ?_
          refine lv_iconst (v := nI 1) hC.1 hC.2.1 dX7_restore_109 (by decide) ?_
          have J118_6 : ∀ (w5 : Int32), w5 = (if (σ 48 ((3 + 3) + h)) = 1 then (1 : Int32) else 0) → ∀ (H : Heap) (locs : List Loc) (ls : Array Slot), Wst E (XW E a) (sr (sr (sr σ 4 (upr (σ 48) h (σ 4))) 15 (va_cpy (σ 48) (σ 15) 3 0 3)) 0 (upd (upd (upd (upd (upd (σ 0) 0 (σ 48 0)) 1 (σ 48 1)) 2 (σ 48 2)) 3 (nI (if 19 ≠ 0 then (19 - 1) else 29))) 4 (nI (kp - 1)))) A s.heap H locs → lv_has ls 4 [(0, .ref (a 68)), (1, .ref (a 48)), (2, .int (nI (3 + 3))), (3, .int (nI h))] → W p l e ({ frames := 1, cells := 0, slots := 0, locals := 24 }) s m args below meth c H locs 0 0 Q (F0 m 118 ls [.int (w5), .int (nI h), .ref (a 4)]) := by
            intro w5 e6 H locs ls hw hl
            subst e6
            refine as_X4 hC hw (by omega) vz_B dX7_restore_118 (fun H locs hw => ?_)
            have hw : Wst E (XW E a) (sr (sr (sr (sr σ 4 (upr (σ 48) h (σ 4))) 15 (va_cpy (σ 48) (σ 15) 3 0 3)) 0 (upd (upd (upd (upd (upd (σ 0) 0 (σ 48 0)) 1 (σ 48 1)) 2 (σ 48 2)) 3 (nI (if 19 ≠ 0 then (19 - 1) else 29))) 4 (nI (kp - 1)))) 4 (upd (upr (σ 48) h (σ 4)) h (if (σ 48 ((3 + 3) + h)) = 1 then (1 : Int32) else 0))) A s.heap H locs := hw
            have hst_ : sr (sr (sr (sr σ 4 (upr (σ 48) h (σ 4))) 15 (va_cpy (σ 48) (σ 15) 3 0 3)) 0 (upd (upd (upd (upd (upd (σ 0) 0 (σ 48 0)) 1 (σ 48 1)) 2 (σ 48 2)) 3 (nI (if 19 ≠ 0 then (19 - 1) else 29))) 4 (nI (kp - 1)))) 4 (upd (upr (σ 48) h (σ 4)) h (if (σ 48 ((3 + 3) + h)) = 1 then (1 : Int32) else 0)) = sr (sr (sr σ 4 (upd (upr (σ 48) h (σ 4)) h (if (σ 48 ((3 + 3) + h)) = 1 then (1 : Int32) else 0))) 15 (va_cpy (σ 48) (σ 15) 3 0 3)) 0 (upd (upd (upd (upd (upd (σ 0) 0 (σ 48 0)) 1 (σ 48 1)) 2 (σ 48 2)) 3 (nI (if 19 ≠ 0 then (19 - 1) else 29))) 4 (nI (kp - 1))) := by
              funext j_ x_
              by_cases e0 : j_ = 0
              · subst e0
                by_cases y0 : x_ = 0
                · subst y0; rfl
                · by_cases y1 : x_ = 1
                  · subst y1; rfl
                  · by_cases y2 : x_ = 2
                    · subst y2; rfl
                    · by_cases y3 : x_ = 3
                      · subst y3; rfl
                      · by_cases y4 : x_ = 4
                        · subst y4; rfl
                        · simp [sr, upd, y0, y1, y2, y3, y4]
              · by_cases e4 : j_ = 4
                · subst e4; rfl
                · by_cases e15 : j_ = 15
                  · subst e15; rfl
                  · simp only [sr, e0, e4, e15, if_false]
            rw [hst_] at hw
            refine lv_iinc (v := nI (h + 1)) (lv' := [(3, .int (nI (h + 1))), (0, .ref (a 68)), (1, .ref (a 48)), (2, .int (nI (3 + 3)))]) hC.1 hC.2.1 dX7_restore_119 hl (k := 3) rfl (nI_add _ _) (by decide) rfl (fun ls hl => ?_)
            refine lv_goto (tgt := 90) hC.1 hC.2.1 dX7_restore_122 (by decide) ?_
            rw [upr_s] at hw
            exact ih90 (h + 1) (by omega) (by omega) _ _ _ hw (lv_sub hl [1, 2, 3, 0] rfl)
          refine q_cmpne hC 117 cI dX7_restore_110 (by decide) (fun (c7 : ¬ ((σ 48 ((3 + 3) + h)) = 1)) => ?_) (fun (c7 : (σ 48 ((3 + 3) + h)) = 1) => ?_)
          · refine lv_iconst (v := nI 0) hC.1 hC.2.1 dX7_restore_117 (by decide) ?_
            exact J118_6 _ (if_neg c7).symm _ _ _ hw (lv_sub hl [0, 1, 2, 3] rfl)
          · refine lv_iconst (v := nI 1) hC.1 hC.2.1 dX7_restore_113 (by decide) ?_
            refine lv_goto (tgt := 118) hC.1 hC.2.1 dX7_restore_114 (by decide) ?_
            exact J118_6 _ (if_pos c7).symm _ _ _ hw (lv_sub hl [0, 1, 2, 3] rfl)
    have hst_ : sr (sr σ 15 (va_cpy (σ 48) (σ 15) 3 0 3)) 0 (upd (upd (upd (upd (upd (σ 0) 0 (σ 48 0)) 1 (σ 48 1)) 2 (σ 48 2)) 3 (nI (if 19 ≠ 0 then (19 - 1) else 29))) 4 (nI (kp - 1))) = sr (sr (sr σ 4 (upr (σ 48) 0 (σ 4))) 15 (va_cpy (σ 48) (σ 15) 3 0 3)) 0 (upd (upd (upd (upd (upd (σ 0) 0 (σ 48 0)) 1 (σ 48 1)) 2 (σ 48 2)) 3 (nI (if 19 ≠ 0 then (19 - 1) else 29))) 4 (nI (kp - 1))) := by
      funext j_ x_
      by_cases e0 : j_ = 0
      · subst e0
        by_cases y0 : x_ = 0
        · subst y0; rfl
        · by_cases y1 : x_ = 1
          · subst y1; rfl
          · by_cases y2 : x_ = 2
            · subst y2; rfl
            · by_cases y3 : x_ = 3
              · subst y3; rfl
              · by_cases y4 : x_ = 4
                · subst y4; rfl
                · simp [sr, upd, y0, y1, y2, y3, y4]
      · by_cases e4 : j_ = 4
        · subst e4; show σ 4 x_ = upr (σ 48) 0 (σ 4) x_; rw [upr_0]
        · by_cases e15 : j_ = 15
          · subst e15; rfl
          · simp only [sr, e0, e4, e15, if_false]
    rw [hst_] at hw
    exact L90_2 _ 0 (by omega) (Nat.lt_succ_self _) _ _ _ hw (lv_sub hl [3, 2, 1, 0] rfl)
  refine q_ifne hC 13 (cN0 (by omega)) dX7_restore_5 (by decide) (fun (c8 : 19 ≠ 0) => ?_) (fun (c8 : 19 = 0) => ?_)
  · refine lv_aload_n hC.1 hC.2.1 dX7_restore_13 rfl (lv_at hl 0 rfl) ?_
    refine gf_X7_28 (v := nI 19) hC hw hnx dX7_restore_14 ?_
    refine lv_iconst (v := nI 1) hC.1 hC.2.1 dX7_restore_17 (by decide) ?_
    refine q_subN hC (by omega) dX7_restore_18 ?_
    exact J19_2 _ (by (rw [if_pos c8]) <;> rfl) _ _ _ hw (lv_sub hl [0] rfl)
  · refine lv_bipush (v := nI 29) hC.1 hC.2.1 dX7_restore_8 (by decide) ?_
    refine lv_goto (tgt := 19) hC.1 hC.2.1 dX7_restore_10 (by decide) ?_
    exact J19_2 _ (by (rw [if_neg (fun q => q c8)]) <;> rfl) _ _ _ hw (lv_sub hl [0] rfl)
set_option maxHeartbeats 4000000 in
set_option maxRecDepth 100000 in
theorem tX7_restore_k20 (l : Launch) (E : EV) (a : Nat → Nat) (σ : St) (kp : Nat) (hnx : σ 0 3 = nI 20) (hkp : σ 0 4 = nI kp) (hk30 : kp ≤ 30) (hk1 : 1 ≤ kp) : MV l E (XW E a) yX7_restore (Cond.code yX7_restore cX7_restore 4 none) ({ frames := 1, cells := 0, slots := 0, locals := 24 }) [.ref (a 68)] σ (fun u_ => u_ = sr (sr (sr (sr (sr (sr (sr σ 4 (upr (σ 49) 10 (σ 4))) 11 (va_cpy (σ 49) (σ 11) 16 0 24)) 12 (va_cpy (σ 49) (σ 12) 40 0 24)) 13 (va_cpy (σ 49) (σ 13) 64 0 24)) 14 (va_cpy (σ 49) (σ 14) 88 0 24)) 15 (va_cpy (σ 49) (σ 15) 3 0 3)) 0 (upd (upd (upd (upd (upd (σ 0) 0 ((σ 49) 0)) 1 ((σ 49) 1)) 2 ((σ 49) 2)) 3 (nI (if 20 ≠ 0 then 20 - 1 else 29))) 4 (nI (kp - 1)))) := by
  refine MV.mk (by decide +kernel) (Nat.le_of_ble_eq_true rfl) ?_
  intro p e s m args below meth c ls A Q hret hC hw hl
  have hC : Cxt E p s m args meth c cX7_restore 4 none RX7 A := hC
  have hl : lv_has ls 4 [(0, .ref (a 68))] := hl
  refine lv_aload_n hC.1 hC.2.1 dX7_restore_0 rfl (lv_at hl 0 rfl) ?_
  refine lv_aload_n hC.1 hC.2.1 dX7_restore_1 rfl (lv_at hl 0 rfl) ?_
  refine gf_X7_28 (v := nI 20) hC hw hnx dX7_restore_2 ?_
  have J19_2 : ∀ (w1 : Nat), w1 = (if 20 ≠ 0 then (20 - 1) else 29) → ∀ (H : Heap) (locs : List Loc) (ls : Array Slot), Wst E (XW E a) (σ) A s.heap H locs → lv_has ls 4 [(0, .ref (a 68))] → W p l e ({ frames := 1, cells := 0, slots := 0, locals := 24 }) s m args below meth c H locs 0 0 Q (F0 m 19 ls [.int (nI w1), .ref (a 68)]) := by
    intro w1 e2 H locs ls hw hl
    subst e2
    refine pf_X7_28 hC hw dX7_restore_19 (fun H locs hw => ?_)
    have hw : Wst E (XW E a) (sr σ 0 (upd (σ 0) 3 (nI (if 20 ≠ 0 then (20 - 1) else 29)))) A s.heap H locs := hw
    refine lv_aload_n hC.1 hC.2.1 dX7_restore_22 rfl (lv_at hl 0 rfl) ?_
    refine lv_dup hC.1 hC.2.1 dX7_restore_23 rfl ?_
    refine gf_X7_65 (v := nI kp) hC hw hkp dX7_restore_24 ?_
    refine lv_iconst (v := nI 1) hC.1 hC.2.1 dX7_restore_27 (by decide) ?_
    refine q_subN hC (by omega) dX7_restore_28 ?_
    refine pf_X7_65 hC hw dX7_restore_29 (fun H locs hw => ?_)
    have hw : Wst E (XW E a) (sr (sr σ 0 (upd (σ 0) 3 (nI (if 20 ≠ 0 then (20 - 1) else 29)))) 0 (upd (upd (σ 0) 3 (nI (if 20 ≠ 0 then (20 - 1) else 29))) 4 (nI (kp - 1)))) A s.heap H locs := hw
    have hst_ : sr (sr σ 0 (upd (σ 0) 3 (nI (if 20 ≠ 0 then (20 - 1) else 29)))) 0 (upd (upd (σ 0) 3 (nI (if 20 ≠ 0 then (20 - 1) else 29))) 4 (nI (kp - 1))) = sr σ 0 (upd (upd (σ 0) 3 (nI (if 20 ≠ 0 then (20 - 1) else 29))) 4 (nI (kp - 1))) := by
      funext j_ x_
      by_cases e0 : j_ = 0
      · subst e0
        by_cases y3 : x_ = 3
        · subst y3; rfl
        · by_cases y4 : x_ = 4
          · subst y4; rfl
          · simp [sr, upd, y3, y4]
      · simp only [sr, e0, if_false]
    rw [hst_] at hw
    refine lv_aload_n hC.1 hC.2.1 dX7_restore_32 rfl (lv_at hl 0 rfl) ?_
    refine gf_X7_13 hC hw dX7_restore_33 ?_
    refine lv_aload_n hC.1 hC.2.1 dX7_restore_36 rfl (lv_at hl 0 rfl) ?_
    refine gf_X7_28 (v := nI (if 20 ≠ 0 then (20 - 1) else 29)) hC hw rfl dX7_restore_37 ?_
    refine q_top (y := nI 19) rfl ?_
    refine q_aald hC hw (i := 19) (by decide) dX7_restore_40 ?_
    refine lv_astore_n (lv' := [(1, .ref (a 49)), (0, .ref (a 68))]) hC.1 hC.2.1 dX7_restore_41 rfl hl (by decide) rfl (fun ls hl => ?_)
    refine lv_aload_n hC.1 hC.2.1 dX7_restore_42 rfl (lv_at hl 1 rfl) ?_
    refine gf_X7_16 hC hw dX7_restore_43 ?_
    refine lv_aload_n hC.1 hC.2.1 dX7_restore_46 rfl (lv_at hl 0 rfl) ?_
    refine lv_iconst (v := nI 0) hC.1 hC.2.1 dX7_restore_47 (by decide) ?_
    refine q_ald (Wf := XW E a) (v := σ 49 0) 59 rfl (by decide) hC hw (by omega) rfl dX7_restore_48 ?_
    refine pf_X7_32 hC hw dX7_restore_49 (fun H locs hw => ?_)
    have hw : Wst E (XW E a) (sr (sr σ 0 (upd (upd (σ 0) 3 (nI (if 20 ≠ 0 then (20 - 1) else 29))) 4 (nI (kp - 1)))) 0 (upd (upd (upd (σ 0) 3 (nI (if 20 ≠ 0 then (20 - 1) else 29))) 4 (nI (kp - 1))) 0 (σ 49 0))) A s.heap H locs := hw
    have hst_ : sr (sr σ 0 (upd (upd (σ 0) 3 (nI (if 20 ≠ 0 then (20 - 1) else 29))) 4 (nI (kp - 1)))) 0 (upd (upd (upd (σ 0) 3 (nI (if 20 ≠ 0 then (20 - 1) else 29))) 4 (nI (kp - 1))) 0 (σ 49 0)) = sr σ 0 (upd (upd (upd (σ 0) 0 (σ 49 0)) 3 (nI (if 20 ≠ 0 then (20 - 1) else 29))) 4 (nI (kp - 1))) := by
      funext j_ x_
      by_cases e0 : j_ = 0
      · subst e0
        by_cases y0 : x_ = 0
        · subst y0; rfl
        · by_cases y3 : x_ = 3
          · subst y3; rfl
          · by_cases y4 : x_ = 4
            · subst y4; rfl
            · simp [sr, upd, y0, y3, y4]
      · simp only [sr, e0, if_false]
    rw [hst_] at hw
    refine lv_aload_n hC.1 hC.2.1 dX7_restore_52 rfl (lv_at hl 1 rfl) ?_
    refine gf_X7_20 hC hw dX7_restore_53 ?_
    refine lv_aload_n hC.1 hC.2.1 dX7_restore_56 rfl (lv_at hl 0 rfl) ?_
    refine lv_iconst (v := nI 1) hC.1 hC.2.1 dX7_restore_57 (by decide) ?_
    refine q_ald (Wf := XW E a) (v := σ 49 1) 59 rfl (by decide) hC hw (by omega) rfl dX7_restore_58 ?_
    refine pf_X7_37 hC hw dX7_restore_59 (fun H locs hw => ?_)
    have hw : Wst E (XW E a) (sr (sr σ 0 (upd (upd (upd (σ 0) 0 (σ 49 0)) 3 (nI (if 20 ≠ 0 then (20 - 1) else 29))) 4 (nI (kp - 1)))) 0 (upd (upd (upd (upd (σ 0) 0 (σ 49 0)) 3 (nI (if 20 ≠ 0 then (20 - 1) else 29))) 4 (nI (kp - 1))) 1 (σ 49 1))) A s.heap H locs := hw
    have hst_ : sr (sr σ 0 (upd (upd (upd (σ 0) 0 (σ 49 0)) 3 (nI (if 20 ≠ 0 then (20 - 1) else 29))) 4 (nI (kp - 1)))) 0 (upd (upd (upd (upd (σ 0) 0 (σ 49 0)) 3 (nI (if 20 ≠ 0 then (20 - 1) else 29))) 4 (nI (kp - 1))) 1 (σ 49 1)) = sr σ 0 (upd (upd (upd (upd (σ 0) 0 (σ 49 0)) 1 (σ 49 1)) 3 (nI (if 20 ≠ 0 then (20 - 1) else 29))) 4 (nI (kp - 1))) := by
      funext j_ x_
      by_cases e0 : j_ = 0
      · subst e0
        by_cases y0 : x_ = 0
        · subst y0; rfl
        · by_cases y1 : x_ = 1
          · subst y1; rfl
          · by_cases y3 : x_ = 3
            · subst y3; rfl
            · by_cases y4 : x_ = 4
              · subst y4; rfl
              · simp [sr, upd, y0, y1, y3, y4]
      · simp only [sr, e0, if_false]
    rw [hst_] at hw
    refine lv_aload_n hC.1 hC.2.1 dX7_restore_62 rfl (lv_at hl 1 rfl) ?_
    refine gf_X7_20 hC hw dX7_restore_63 ?_
    refine lv_aload_n hC.1 hC.2.1 dX7_restore_66 rfl (lv_at hl 0 rfl) ?_
    refine lv_iconst (v := nI 2) hC.1 hC.2.1 dX7_restore_67 (by decide) ?_
    refine q_ald (Wf := XW E a) (v := σ 49 2) 59 rfl (by decide) hC hw (by omega) rfl dX7_restore_68 ?_
    refine pf_X7_40 hC hw dX7_restore_69 (fun H locs hw => ?_)
    have hw : Wst E (XW E a) (sr (sr σ 0 (upd (upd (upd (upd (σ 0) 0 (σ 49 0)) 1 (σ 49 1)) 3 (nI (if 20 ≠ 0 then (20 - 1) else 29))) 4 (nI (kp - 1)))) 0 (upd (upd (upd (upd (upd (σ 0) 0 (σ 49 0)) 1 (σ 49 1)) 3 (nI (if 20 ≠ 0 then (20 - 1) else 29))) 4 (nI (kp - 1))) 2 (σ 49 2))) A s.heap H locs := hw
    have hst_ : sr (sr σ 0 (upd (upd (upd (upd (σ 0) 0 (σ 49 0)) 1 (σ 49 1)) 3 (nI (if 20 ≠ 0 then (20 - 1) else 29))) 4 (nI (kp - 1)))) 0 (upd (upd (upd (upd (upd (σ 0) 0 (σ 49 0)) 1 (σ 49 1)) 3 (nI (if 20 ≠ 0 then (20 - 1) else 29))) 4 (nI (kp - 1))) 2 (σ 49 2)) = sr σ 0 (upd (upd (upd (upd (upd (σ 0) 0 (σ 49 0)) 1 (σ 49 1)) 2 (σ 49 2)) 3 (nI (if 20 ≠ 0 then (20 - 1) else 29))) 4 (nI (kp - 1))) := by
      funext j_ x_
      by_cases e0 : j_ = 0
      · subst e0
        by_cases y0 : x_ = 0
        · subst y0; rfl
        · by_cases y1 : x_ = 1
          · subst y1; rfl
          · by_cases y2 : x_ = 2
            · subst y2; rfl
            · by_cases y3 : x_ = 3
              · subst y3; rfl
              · by_cases y4 : x_ = 4
                · subst y4; rfl
                · simp [sr, upd, y0, y1, y2, y3, y4]
      · simp only [sr, e0, if_false]
    rw [hst_] at hw
    refine lv_iconst (v := nI 3) hC.1 hC.2.1 dX7_restore_72 (by decide) ?_
    refine lv_istore_n (lv' := [(2, .int (nI 3)), (1, .ref (a 49)), (0, .ref (a 68))]) hC.1 hC.2.1 dX7_restore_73 rfl hl (by decide) rfl (fun ls hl => ?_)
    refine lv_aload_n hC.1 hC.2.1 dX7_restore_74 rfl (lv_at hl 1 rfl) ?_
    refine lv_iload_n hC.1 hC.2.1 dX7_restore_75 rfl (lv_at hl 0 rfl) ?_
    refine lv_aload_n hC.1 hC.2.1 dX7_restore_76 rfl (lv_at hl 2 rfl) ?_
    refine gf_X7_24 hC hw dX7_restore_77 ?_
    refine lv_iconst (v := nI 0) hC.1 hC.2.1 dX7_restore_80 (by decide) ?_
    refine lv_iconst (v := nI 3) hC.1 hC.2.1 dX7_restore_81 (by decide) ?_
    refine q_cpy (sp := 3) (dp := 0) (n := 3) 59 rfl 25 rfl (XW_s15 _) hC hw hl (by omega) (by omega) (by decide) (by decide) ⟨Nat.le_of_ble_eq_true rfl, Nat.le_of_ble_eq_true rfl⟩ wk2_182 dX7_restore_82 (fun H locs hw => ?_)
    have hw : Wst E (XW E a) (sr (sr σ 0 (upd (upd (upd (upd (upd (σ 0) 0 (σ 49 0)) 1 (σ 49 1)) 2 (σ 49 2)) 3 (nI (if 20 ≠ 0 then (20 - 1) else 29))) 4 (nI (kp - 1)))) 15 (va_cpy (σ 49) (σ 15) 3 0 3)) A s.heap H locs := hw
    have hst_ : sr (sr σ 0 (upd (upd (upd (upd (upd (σ 0) 0 (σ 49 0)) 1 (σ 49 1)) 2 (σ 49 2)) 3 (nI (if 20 ≠ 0 then (20 - 1) else 29))) 4 (nI (kp - 1)))) 15 (va_cpy (σ 49) (σ 15) 3 0 3) = sr (sr σ 15 (va_cpy (σ 49) (σ 15) 3 0 3)) 0 (upd (upd (upd (upd (upd (σ 0) 0 (σ 49 0)) 1 (σ 49 1)) 2 (σ 49 2)) 3 (nI (if 20 ≠ 0 then (20 - 1) else 29))) 4 (nI (kp - 1))) := by
      funext j_ x_
      by_cases e0 : j_ = 0
      · subst e0
        by_cases y0 : x_ = 0
        · subst y0; rfl
        · by_cases y1 : x_ = 1
          · subst y1; rfl
          · by_cases y2 : x_ = 2
            · subst y2; rfl
            · by_cases y3 : x_ = 3
              · subst y3; rfl
              · by_cases y4 : x_ = 4
                · subst y4; rfl
                · simp [sr, upd, y0, y1, y2, y3, y4]
      · by_cases e15 : j_ = 15
        · subst e15; rfl
        · simp only [sr, e0, e15, if_false]
    rw [hst_] at hw
    refine lv_iinc (v := nI (3 + 3)) (lv' := [(2, .int (nI (3 + 3))), (1, .ref (a 49)), (0, .ref (a 68))]) hC.1 hC.2.1 dX7_restore_85 hl (k := 0) rfl (nI_add _ _) (by decide) rfl (fun ls hl => ?_)
    refine lv_iconst (v := nI 0) hC.1 hC.2.1 dX7_restore_88 (by decide) ?_
    refine lv_istore_n (lv' := [(3, .int (nI 0)), (2, .int (nI (3 + 3))), (1, .ref (a 49)), (0, .ref (a 68))]) hC.1 hC.2.1 dX7_restore_89 rfl hl (by decide) rfl (fun ls hl => ?_)
    have L90_2 : ∀ (n : Nat), ∀ (h : Nat), (h ≤ 10) → (10 - h) < n → ∀ (H : Heap) (locs : List Loc) (ls : Array Slot), Wst E (XW E a) (sr (sr (sr σ 4 (upr (σ 49) h (σ 4))) 15 (va_cpy (σ 49) (σ 15) 3 0 3)) 0 (upd (upd (upd (upd (upd (σ 0) 0 (σ 49 0)) 1 (σ 49 1)) 2 (σ 49 2)) 3 (nI (if 20 ≠ 0 then (20 - 1) else 29))) 4 (nI (kp - 1)))) A s.heap H locs → lv_has ls 4 [(0, .ref (a 68)), (1, .ref (a 49)), (2, .int (nI (3 + 3))), (3, .int (nI h))] → W p l e ({ frames := 1, cells := 0, slots := 0, locals := 24 }) s m args below meth c H locs 0 0 Q (F0 m 90 ls []) := by
      intro n
      induction n with
      | zero => intro h hh hn; exact absurd hn (Nat.not_lt_zero _)
      | succ n ih90 =>
        intro h hh hn90 H locs ls hw hl
        refine lv_iload_n hC.1 hC.2.1 dX7_restore_90 rfl (lv_at hl 3 rfl) ?_
        refine lv_bipush (v := nI 10) hC.1 hC.2.1 dX7_restore_91 (by decide) ?_
        refine q_cmpge hC 125 (cNle (by omega) (by omega)) dX7_restore_93 (by decide) (fun (c4 : 10 ≤ h) => ?_) (fun (c4 : h < 10) => ?_)
        · have hh9 : h = 10 := by omega
          rw [hh9] at hw
          refine lv_iinc (v := nI (3 + 3 + 10)) (lv' := [(2, .int (nI (3 + 3 + 10))), (0, .ref (a 68)), (1, .ref (a 49)), (3, .int (nI h))]) hC.1 hC.2.1 dX7_restore_125 hl (k := 2) rfl (nI_add _ _) (by decide) rfl (fun ls hl => ?_)
          refine lv_aload_n hC.1 hC.2.1 dX7_restore_128 rfl (lv_at hl 2 rfl) ?_
          refine lv_iload_n hC.1 hC.2.1 dX7_restore_129 rfl (lv_at hl 0 rfl) ?_
          refine lv_aload_n hC.1 hC.2.1 dX7_restore_130 rfl (lv_at hl 1 rfl) ?_
          refine gf_X7_20 hC hw dX7_restore_131 ?_
          refine gf_X7_53 hC hw dX7_restore_134 ?_
          refine lv_iconst (v := nI 0) hC.1 hC.2.1 dX7_restore_137 (by decide) ?_
          refine lv_bipush (v := nI 24) hC.1 hC.2.1 dX7_restore_138 (by decide) ?_
          refine q_cpy (sp := (3 + 3 + 10)) (dp := 0) (n := 24) 59 rfl 21 rfl (XW_s11 _) hC hw hl (by omega) (by omega) (by decide) (by decide) ⟨Nat.le_of_ble_eq_true rfl, Nat.le_of_ble_eq_true rfl⟩ wk2_182 dX7_restore_140 (fun H locs hw => ?_)
          have hw : Wst E (XW E a) (sr (sr (sr (sr σ 4 (upr (σ 49) 10 (σ 4))) 15 (va_cpy (σ 49) (σ 15) 3 0 3)) 0 (upd (upd (upd (upd (upd (σ 0) 0 (σ 49 0)) 1 (σ 49 1)) 2 (σ 49 2)) 3 (nI (if 20 ≠ 0 then (20 - 1) else 29))) 4 (nI (kp - 1)))) 11 (va_cpy (σ 49) (σ 11) (3 + 3 + 10) 0 24)) A s.heap H locs := hw
          have hst_ : sr (sr (sr (sr σ 4 (upr (σ 49) 10 (σ 4))) 15 (va_cpy (σ 49) (σ 15) 3 0 3)) 0 (upd (upd (upd (upd (upd (σ 0) 0 (σ 49 0)) 1 (σ 49 1)) 2 (σ 49 2)) 3 (nI (if 20 ≠ 0 then (20 - 1) else 29))) 4 (nI (kp - 1)))) 11 (va_cpy (σ 49) (σ 11) (3 + 3 + 10) 0 24) = sr (sr (sr (sr σ 4 (upr (σ 49) 10 (σ 4))) 11 (va_cpy (σ 49) (σ 11) (3 + 3 + 10) 0 24)) 15 (va_cpy (σ 49) (σ 15) 3 0 3)) 0 (upd (upd (upd (upd (upd (σ 0) 0 (σ 49 0)) 1 (σ 49 1)) 2 (σ 49 2)) 3 (nI (if 20 ≠ 0 then (20 - 1) else 29))) 4 (nI (kp - 1))) := by
            funext j_ x_
            by_cases e0 : j_ = 0
            · subst e0
              by_cases y0 : x_ = 0
              · subst y0; rfl
              · by_cases y1 : x_ = 1
                · subst y1; rfl
                · by_cases y2 : x_ = 2
                  · subst y2; rfl
                  · by_cases y3 : x_ = 3
                    · subst y3; rfl
                    · by_cases y4 : x_ = 4
                      · subst y4; rfl
                      · simp [sr, upd, y0, y1, y2, y3, y4]
            · by_cases e4 : j_ = 4
              · subst e4; rfl
              · by_cases e11 : j_ = 11
                · subst e11; rfl
                · by_cases e15 : j_ = 15
                  · subst e15; rfl
                  · simp only [sr, e0, e4, e11, e15, if_false]
          rw [hst_] at hw
          refine lv_aload_n hC.1 hC.2.1 dX7_restore_143 rfl (lv_at hl 2 rfl) ?_
          refine lv_iload_n hC.1 hC.2.1 dX7_restore_144 rfl (lv_at hl 0 rfl) ?_
          refine lv_bipush (v := nI 24) hC.1 hC.2.1 dX7_restore_145 (by decide) ?_
          refine q_addN hC dX7_restore_147 ?_
          refine lv_aload_n hC.1 hC.2.1 dX7_restore_148 rfl (lv_at hl 1 rfl) ?_
          refine gf_X7_20 hC hw dX7_restore_149 ?_
          refine gf_X7_56 hC hw dX7_restore_152 ?_
          refine lv_iconst (v := nI 0) hC.1 hC.2.1 dX7_restore_155 (by decide) ?_
          refine lv_bipush (v := nI 24) hC.1 hC.2.1 dX7_restore_156 (by decide) ?_
          refine q_cpy (sp := ((3 + 3 + 10) + 24)) (dp := 0) (n := 24) 59 rfl 22 rfl (XW_s12 _) hC hw hl (by omega) (by omega) (by decide) (by decide) ⟨Nat.le_of_ble_eq_true rfl, Nat.le_of_ble_eq_true rfl⟩ wk2_182 dX7_restore_158 (fun H locs hw => ?_)
          have hw : Wst E (XW E a) (sr (sr (sr (sr (sr σ 4 (upr (σ 49) 10 (σ 4))) 11 (va_cpy (σ 49) (σ 11) (3 + 3 + 10) 0 24)) 15 (va_cpy (σ 49) (σ 15) 3 0 3)) 0 (upd (upd (upd (upd (upd (σ 0) 0 (σ 49 0)) 1 (σ 49 1)) 2 (σ 49 2)) 3 (nI (if 20 ≠ 0 then (20 - 1) else 29))) 4 (nI (kp - 1)))) 12 (va_cpy (σ 49) (σ 12) ((3 + 3 + 10) + 24) 0 24)) A s.heap H locs := hw
          have hst_ : sr (sr (sr (sr (sr σ 4 (upr (σ 49) 10 (σ 4))) 11 (va_cpy (σ 49) (σ 11) (3 + 3 + 10) 0 24)) 15 (va_cpy (σ 49) (σ 15) 3 0 3)) 0 (upd (upd (upd (upd (upd (σ 0) 0 (σ 49 0)) 1 (σ 49 1)) 2 (σ 49 2)) 3 (nI (if 20 ≠ 0 then (20 - 1) else 29))) 4 (nI (kp - 1)))) 12 (va_cpy (σ 49) (σ 12) ((3 + 3 + 10) + 24) 0 24) = sr (sr (sr (sr (sr σ 4 (upr (σ 49) 10 (σ 4))) 11 (va_cpy (σ 49) (σ 11) (3 + 3 + 10) 0 24)) 12 (va_cpy (σ 49) (σ 12) ((3 + 3 + 10) + 24) 0 24)) 15 (va_cpy (σ 49) (σ 15) 3 0 3)) 0 (upd (upd (upd (upd (upd (σ 0) 0 (σ 49 0)) 1 (σ 49 1)) 2 (σ 49 2)) 3 (nI (if 20 ≠ 0 then (20 - 1) else 29))) 4 (nI (kp - 1))) := by
            funext j_ x_
            by_cases e0 : j_ = 0
            · subst e0
              by_cases y0 : x_ = 0
              · subst y0; rfl
              · by_cases y1 : x_ = 1
                · subst y1; rfl
                · by_cases y2 : x_ = 2
                  · subst y2; rfl
                  · by_cases y3 : x_ = 3
                    · subst y3; rfl
                    · by_cases y4 : x_ = 4
                      · subst y4; rfl
                      · simp [sr, upd, y0, y1, y2, y3, y4]
            · by_cases e4 : j_ = 4
              · subst e4; rfl
              · by_cases e11 : j_ = 11
                · subst e11; rfl
                · by_cases e12 : j_ = 12
                  · subst e12; rfl
                  · by_cases e15 : j_ = 15
                    · subst e15; rfl
                    · simp only [sr, e0, e4, e11, e12, e15, if_false]
          rw [hst_] at hw
          refine lv_aload_n hC.1 hC.2.1 dX7_restore_161 rfl (lv_at hl 2 rfl) ?_
          refine lv_iload_n hC.1 hC.2.1 dX7_restore_162 rfl (lv_at hl 0 rfl) ?_
          refine lv_bipush (v := nI 48) hC.1 hC.2.1 dX7_restore_163 (by decide) ?_
          refine q_addN hC dX7_restore_165 ?_
          refine lv_aload_n hC.1 hC.2.1 dX7_restore_166 rfl (lv_at hl 1 rfl) ?_
          refine gf_X7_20 hC hw dX7_restore_167 ?_
          refine gf_X7_59 hC hw dX7_restore_170 ?_
          refine lv_iconst (v := nI 0) hC.1 hC.2.1 dX7_restore_173 (by decide) ?_
          refine lv_bipush (v := nI 24) hC.1 hC.2.1 dX7_restore_174 (by decide) ?_
          refine q_cpy (sp := ((3 + 3 + 10) + 48)) (dp := 0) (n := 24) 59 rfl 23 rfl (XW_s13 _) hC hw hl (by omega) (by omega) (by decide) (by decide) ⟨Nat.le_of_ble_eq_true rfl, Nat.le_of_ble_eq_true rfl⟩ wk2_182 dX7_restore_176 (fun H locs hw => ?_)
          have hw : Wst E (XW E a) (sr (sr (sr (sr (sr (sr σ 4 (upr (σ 49) 10 (σ 4))) 11 (va_cpy (σ 49) (σ 11) (3 + 3 + 10) 0 24)) 12 (va_cpy (σ 49) (σ 12) ((3 + 3 + 10) + 24) 0 24)) 15 (va_cpy (σ 49) (σ 15) 3 0 3)) 0 (upd (upd (upd (upd (upd (σ 0) 0 (σ 49 0)) 1 (σ 49 1)) 2 (σ 49 2)) 3 (nI (if 20 ≠ 0 then (20 - 1) else 29))) 4 (nI (kp - 1)))) 13 (va_cpy (σ 49) (σ 13) ((3 + 3 + 10) + 48) 0 24)) A s.heap H locs := hw
          have hst_ : sr (sr (sr (sr (sr (sr σ 4 (upr (σ 49) 10 (σ 4))) 11 (va_cpy (σ 49) (σ 11) (3 + 3 + 10) 0 24)) 12 (va_cpy (σ 49) (σ 12) ((3 + 3 + 10) + 24) 0 24)) 15 (va_cpy (σ 49) (σ 15) 3 0 3)) 0 (upd (upd (upd (upd (upd (σ 0) 0 (σ 49 0)) 1 (σ 49 1)) 2 (σ 49 2)) 3 (nI (if 20 ≠ 0 then (20 - 1) else 29))) 4 (nI (kp - 1)))) 13 (va_cpy (σ 49) (σ 13) ((3 + 3 + 10) + 48) 0 24) = sr (sr (sr (sr (sr (sr σ 4 (upr (σ 49) 10 (σ 4))) 11 (va_cpy (σ 49) (σ 11) (3 + 3 + 10) 0 24)) 12 (va_cpy (σ 49) (σ 12) ((3 + 3 + 10) + 24) 0 24)) 13 (va_cpy (σ 49) (σ 13) ((3 + 3 + 10) + 48) 0 24)) 15 (va_cpy (σ 49) (σ 15) 3 0 3)) 0 (upd (upd (upd (upd (upd (σ 0) 0 (σ 49 0)) 1 (σ 49 1)) 2 (σ 49 2)) 3 (nI (if 20 ≠ 0 then (20 - 1) else 29))) 4 (nI (kp - 1))) := by
            funext j_ x_
            by_cases e0 : j_ = 0
            · subst e0
              by_cases y0 : x_ = 0
              · subst y0; rfl
              · by_cases y1 : x_ = 1
                · subst y1; rfl
                · by_cases y2 : x_ = 2
                  · subst y2; rfl
                  · by_cases y3 : x_ = 3
                    · subst y3; rfl
                    · by_cases y4 : x_ = 4
                      · subst y4; rfl
                      · simp [sr, upd, y0, y1, y2, y3, y4]
            · by_cases e4 : j_ = 4
              · subst e4; rfl
              · by_cases e11 : j_ = 11
                · subst e11; rfl
                · by_cases e12 : j_ = 12
                  · subst e12; rfl
                  · by_cases e13 : j_ = 13
                    · subst e13; rfl
                    · by_cases e15 : j_ = 15
                      · subst e15; rfl
                      · simp only [sr, e0, e4, e11, e12, e13, e15, if_false]
          rw [hst_] at hw
          refine lv_aload_n hC.1 hC.2.1 dX7_restore_179 rfl (lv_at hl 2 rfl) ?_
          refine lv_iload_n hC.1 hC.2.1 dX7_restore_180 rfl (lv_at hl 0 rfl) ?_
          refine lv_bipush (v := nI 72) hC.1 hC.2.1 dX7_restore_181 (by decide) ?_
          refine q_addN hC dX7_restore_183 ?_
          refine lv_aload_n hC.1 hC.2.1 dX7_restore_184 rfl (lv_at hl 1 rfl) ?_
          refine gf_X7_20 hC hw dX7_restore_185 ?_
          refine gf_X7_62 hC hw dX7_restore_188 ?_
          refine lv_iconst (v := nI 0) hC.1 hC.2.1 dX7_restore_191 (by decide) ?_
          refine lv_bipush (v := nI 24) hC.1 hC.2.1 dX7_restore_192 (by decide) ?_
          refine q_cpy (sp := ((3 + 3 + 10) + 72)) (dp := 0) (n := 24) 59 rfl 24 rfl (XW_s14 _) hC hw hl (by omega) (by omega) (by decide) (by decide) ⟨Nat.le_of_ble_eq_true rfl, Nat.le_of_ble_eq_true rfl⟩ wk2_182 dX7_restore_194 (fun H locs hw => ?_)
          have hw : Wst E (XW E a) (sr (sr (sr (sr (sr (sr (sr σ 4 (upr (σ 49) 10 (σ 4))) 11 (va_cpy (σ 49) (σ 11) (3 + 3 + 10) 0 24)) 12 (va_cpy (σ 49) (σ 12) ((3 + 3 + 10) + 24) 0 24)) 13 (va_cpy (σ 49) (σ 13) ((3 + 3 + 10) + 48) 0 24)) 15 (va_cpy (σ 49) (σ 15) 3 0 3)) 0 (upd (upd (upd (upd (upd (σ 0) 0 (σ 49 0)) 1 (σ 49 1)) 2 (σ 49 2)) 3 (nI (if 20 ≠ 0 then (20 - 1) else 29))) 4 (nI (kp - 1)))) 14 (va_cpy (σ 49) (σ 14) ((3 + 3 + 10) + 72) 0 24)) A s.heap H locs := hw
          have hst_ : sr (sr (sr (sr (sr (sr (sr σ 4 (upr (σ 49) 10 (σ 4))) 11 (va_cpy (σ 49) (σ 11) (3 + 3 + 10) 0 24)) 12 (va_cpy (σ 49) (σ 12) ((3 + 3 + 10) + 24) 0 24)) 13 (va_cpy (σ 49) (σ 13) ((3 + 3 + 10) + 48) 0 24)) 15 (va_cpy (σ 49) (σ 15) 3 0 3)) 0 (upd (upd (upd (upd (upd (σ 0) 0 (σ 49 0)) 1 (σ 49 1)) 2 (σ 49 2)) 3 (nI (if 20 ≠ 0 then (20 - 1) else 29))) 4 (nI (kp - 1)))) 14 (va_cpy (σ 49) (σ 14) ((3 + 3 + 10) + 72) 0 24) = sr (sr (sr (sr (sr (sr (sr σ 4 (upr (σ 49) 10 (σ 4))) 11 (va_cpy (σ 49) (σ 11) (3 + 3 + 10) 0 24)) 12 (va_cpy (σ 49) (σ 12) ((3 + 3 + 10) + 24) 0 24)) 13 (va_cpy (σ 49) (σ 13) ((3 + 3 + 10) + 48) 0 24)) 14 (va_cpy (σ 49) (σ 14) ((3 + 3 + 10) + 72) 0 24)) 15 (va_cpy (σ 49) (σ 15) 3 0 3)) 0 (upd (upd (upd (upd (upd (σ 0) 0 (σ 49 0)) 1 (σ 49 1)) 2 (σ 49 2)) 3 (nI (if 20 ≠ 0 then (20 - 1) else 29))) 4 (nI (kp - 1))) := by
            funext j_ x_
            by_cases e0 : j_ = 0
            · subst e0
              by_cases y0 : x_ = 0
              · subst y0; rfl
              · by_cases y1 : x_ = 1
                · subst y1; rfl
                · by_cases y2 : x_ = 2
                  · subst y2; rfl
                  · by_cases y3 : x_ = 3
                    · subst y3; rfl
                    · by_cases y4 : x_ = 4
                      · subst y4; rfl
                      · simp [sr, upd, y0, y1, y2, y3, y4]
            · by_cases e4 : j_ = 4
              · subst e4; rfl
              · by_cases e11 : j_ = 11
                · subst e11; rfl
                · by_cases e12 : j_ = 12
                  · subst e12; rfl
                  · by_cases e13 : j_ = 13
                    · subst e13; rfl
                    · by_cases e14 : j_ = 14
                      · subst e14; rfl
                      · by_cases e15 : j_ = 15
                        · subst e15; rfl
                        · simp only [sr, e0, e4, e11, e12, e13, e14, e15, if_false]
          rw [hst_] at hw
          refine hret _ _ _ _ _ hw ?_ dX7_restore_197
          exact rfl
        · refine lv_aload_n hC.1 hC.2.1 dX7_restore_96 rfl (lv_at hl 0 rfl) ?_
          refine gf_X7_16 hC hw dX7_restore_97 ?_
          refine gf_X7_49 hC hw dX7_restore_100 ?_
          refine lv_iload_n hC.1 hC.2.1 dX7_restore_103 rfl (lv_at hl 3 rfl) ?_
          refine lv_aload_n hC.1 hC.2.1 dX7_restore_104 rfl (lv_at hl 1 rfl) ?_
          refine lv_iload_n hC.1 hC.2.1 dX7_restore_105 rfl (lv_at hl 2 rfl) ?_
          refine lv_iload_n hC.1 hC.2.1 dX7_restore_106 rfl (lv_at hl 3 rfl) ?_
          refine q_addN hC dX7_restore_107 ?_
          refine q_ald (Wf := XW E a) (v := σ 49 ((3 + 3) + h)) 59 rfl (by decide) hC hw (by omega) rfl dX7_restore_108 ?_
          refine lv_iconst (v := nI 1) hC.1 hC.2.1 dX7_restore_109 (by decide) ?_
          have J118_6 : ∀ (w5 : Int32), w5 = (if (σ 49 ((3 + 3) + h)) = 1 then (1 : Int32) else 0) → ∀ (H : Heap) (locs : List Loc) (ls : Array Slot), Wst E (XW E a) (sr (sr (sr σ 4 (upr (σ 49) h (σ 4))) 15 (va_cpy (σ 49) (σ 15) 3 0 3)) 0 (upd (upd (upd (upd (upd (σ 0) 0 (σ 49 0)) 1 (σ 49 1)) 2 (σ 49 2)) 3 (nI (if 20 ≠ 0 then (20 - 1) else 29))) 4 (nI (kp - 1)))) A s.heap H locs → lv_has ls 4 [(0, .ref (a 68)), (1, .ref (a 49)), (2, .int (nI (3 + 3))), (3, .int (nI h))] → W p l e ({ frames := 1, cells := 0, slots := 0, locals := 24 }) s m args below meth c H locs 0 0 Q (F0 m 118 ls [.int (w5), .int (nI h), .ref (a 4)]) := by
            intro w5 e6 H locs ls hw hl
            subst e6
            refine as_X4 hC hw (by omega) vz_B dX7_restore_118 (fun H locs hw => ?_)
            have hw : Wst E (XW E a) (sr (sr (sr (sr σ 4 (upr (σ 49) h (σ 4))) 15 (va_cpy (σ 49) (σ 15) 3 0 3)) 0 (upd (upd (upd (upd (upd (σ 0) 0 (σ 49 0)) 1 (σ 49 1)) 2 (σ 49 2)) 3 (nI (if 20 ≠ 0 then (20 - 1) else 29))) 4 (nI (kp - 1)))) 4 (upd (upr (σ 49) h (σ 4)) h (if (σ 49 ((3 + 3) + h)) = 1 then (1 : Int32) else 0))) A s.heap H locs := hw
            have hst_ : sr (sr (sr (sr σ 4 (upr (σ 49) h (σ 4))) 15 (va_cpy (σ 49) (σ 15) 3 0 3)) 0 (upd (upd (upd (upd (upd (σ 0) 0 (σ 49 0)) 1 (σ 49 1)) 2 (σ 49 2)) 3 (nI (if 20 ≠ 0 then (20 - 1) else 29))) 4 (nI (kp - 1)))) 4 (upd (upr (σ 49) h (σ 4)) h (if (σ 49 ((3 + 3) + h)) = 1 then (1 : Int32) else 0)) = sr (sr (sr σ 4 (upd (upr (σ 49) h (σ 4)) h (if (σ 49 ((3 + 3) + h)) = 1 then (1 : Int32) else 0))) 15 (va_cpy (σ 49) (σ 15) 3 0 3)) 0 (upd (upd (upd (upd (upd (σ 0) 0 (σ 49 0)) 1 (σ 49 1)) 2 (σ 49 2)) 3 (nI (if 20 ≠ 0 then (20 - 1) else 29))) 4 (nI (kp - 1))) := by
              funext j_ x_
              by_cases e0 : j_ = 0
              · subst e0
                by_cases y0 : x_ = 0
                · subst y0; rfl
                · by_cases y1 : x_ = 1
                  · subst y1; rfl
                  · by_cases y2 : x_ = 2
                    · subst y2; rfl
                    · by_cases y3 : x_ = 3
                      · subst y3; rfl
                      · by_cases y4 : x_ = 4
                        · subst y4; rfl
                        · simp [sr, upd, y0, y1, y2, y3, y4]
              · by_cases e4 : j_ = 4
                · subst e4; rfl
                · by_cases e15 : j_ = 15
                  · subst e15; rfl
                  · simp only [sr, e0, e4, e15, if_false]
            rw [hst_] at hw
            refine lv_iinc (v := nI (h + 1)) (lv' := [(3, .int (nI (h + 1))), (0, .ref (a 68)), (1, .ref (a 49)), (2, .int (nI (3 + 3)))]) hC.1 hC.2.1 dX7_restore_119 hl (k := 3) rfl (nI_add _ _) (by decide) rfl (fun ls hl => ?_)
            refine lv_goto (tgt := 90) hC.1 hC.2.1 dX7_restore_122 (by decide) ?_
            rw [upr_s] at hw
            exact ih90 (h + 1) (by omega) (by omega) _ _ _ hw (lv_sub hl [1, 2, 3, 0] rfl)
          refine q_cmpne hC 117 cI dX7_restore_110 (by decide) (fun (c7 : ¬ ((σ 49 ((3 + 3) + h)) = 1)) => ?_) (fun (c7 : (σ 49 ((3 + 3) + h)) = 1) => ?_)
          · refine lv_iconst (v := nI 0) hC.1 hC.2.1 dX7_restore_117 (by decide) ?_
            exact J118_6 _ (if_neg c7).symm _ _ _ hw (lv_sub hl [0, 1, 2, 3] rfl)
          · refine lv_iconst (v := nI 1) hC.1 hC.2.1 dX7_restore_113 (by decide) ?_
            refine lv_goto (tgt := 118) hC.1 hC.2.1 dX7_restore_114 (by decide) ?_
            exact J118_6 _ (if_pos c7).symm _ _ _ hw (lv_sub hl [0, 1, 2, 3] rfl)
    have hst_ : sr (sr σ 15 (va_cpy (σ 49) (σ 15) 3 0 3)) 0 (upd (upd (upd (upd (upd (σ 0) 0 (σ 49 0)) 1 (σ 49 1)) 2 (σ 49 2)) 3 (nI (if 20 ≠ 0 then (20 - 1) else 29))) 4 (nI (kp - 1))) = sr (sr (sr σ 4 (upr (σ 49) 0 (σ 4))) 15 (va_cpy (σ 49) (σ 15) 3 0 3)) 0 (upd (upd (upd (upd (upd (σ 0) 0 (σ 49 0)) 1 (σ 49 1)) 2 (σ 49 2)) 3 (nI (if 20 ≠ 0 then (20 - 1) else 29))) 4 (nI (kp - 1))) := by
      funext j_ x_
      by_cases e0 : j_ = 0
      · subst e0
        by_cases y0 : x_ = 0
        · subst y0; rfl
        · by_cases y1 : x_ = 1
          · subst y1; rfl
          · by_cases y2 : x_ = 2
            · subst y2; rfl
            · by_cases y3 : x_ = 3
              · subst y3; rfl
              · by_cases y4 : x_ = 4
                · subst y4; rfl
                · simp [sr, upd, y0, y1, y2, y3, y4]
      · by_cases e4 : j_ = 4
        · subst e4; show σ 4 x_ = upr (σ 49) 0 (σ 4) x_; rw [upr_0]
        · by_cases e15 : j_ = 15
          · subst e15; rfl
          · simp only [sr, e0, e4, e15, if_false]
    rw [hst_] at hw
    exact L90_2 _ 0 (by omega) (Nat.lt_succ_self _) _ _ _ hw (lv_sub hl [3, 2, 1, 0] rfl)
  refine q_ifne hC 13 (cN0 (by omega)) dX7_restore_5 (by decide) (fun (c8 : 20 ≠ 0) => ?_) (fun (c8 : 20 = 0) => ?_)
  · refine lv_aload_n hC.1 hC.2.1 dX7_restore_13 rfl (lv_at hl 0 rfl) ?_
    refine gf_X7_28 (v := nI 20) hC hw hnx dX7_restore_14 ?_
    refine lv_iconst (v := nI 1) hC.1 hC.2.1 dX7_restore_17 (by decide) ?_
    refine q_subN hC (by omega) dX7_restore_18 ?_
    exact J19_2 _ (by (rw [if_pos c8]) <;> rfl) _ _ _ hw (lv_sub hl [0] rfl)
  · refine lv_bipush (v := nI 29) hC.1 hC.2.1 dX7_restore_8 (by decide) ?_
    refine lv_goto (tgt := 19) hC.1 hC.2.1 dX7_restore_10 (by decide) ?_
    exact J19_2 _ (by (rw [if_neg (fun q => q c8)]) <;> rfl) _ _ _ hw (lv_sub hl [0] rfl)
set_option maxHeartbeats 4000000 in
set_option maxRecDepth 100000 in
theorem tX7_restore_k21 (l : Launch) (E : EV) (a : Nat → Nat) (σ : St) (kp : Nat) (hnx : σ 0 3 = nI 21) (hkp : σ 0 4 = nI kp) (hk30 : kp ≤ 30) (hk1 : 1 ≤ kp) : MV l E (XW E a) yX7_restore (Cond.code yX7_restore cX7_restore 4 none) ({ frames := 1, cells := 0, slots := 0, locals := 24 }) [.ref (a 68)] σ (fun u_ => u_ = sr (sr (sr (sr (sr (sr (sr σ 4 (upr (σ 50) 10 (σ 4))) 11 (va_cpy (σ 50) (σ 11) 16 0 24)) 12 (va_cpy (σ 50) (σ 12) 40 0 24)) 13 (va_cpy (σ 50) (σ 13) 64 0 24)) 14 (va_cpy (σ 50) (σ 14) 88 0 24)) 15 (va_cpy (σ 50) (σ 15) 3 0 3)) 0 (upd (upd (upd (upd (upd (σ 0) 0 ((σ 50) 0)) 1 ((σ 50) 1)) 2 ((σ 50) 2)) 3 (nI (if 21 ≠ 0 then 21 - 1 else 29))) 4 (nI (kp - 1)))) := by
  refine MV.mk (by decide +kernel) (Nat.le_of_ble_eq_true rfl) ?_
  intro p e s m args below meth c ls A Q hret hC hw hl
  have hC : Cxt E p s m args meth c cX7_restore 4 none RX7 A := hC
  have hl : lv_has ls 4 [(0, .ref (a 68))] := hl
  refine lv_aload_n hC.1 hC.2.1 dX7_restore_0 rfl (lv_at hl 0 rfl) ?_
  refine lv_aload_n hC.1 hC.2.1 dX7_restore_1 rfl (lv_at hl 0 rfl) ?_
  refine gf_X7_28 (v := nI 21) hC hw hnx dX7_restore_2 ?_
  have J19_2 : ∀ (w1 : Nat), w1 = (if 21 ≠ 0 then (21 - 1) else 29) → ∀ (H : Heap) (locs : List Loc) (ls : Array Slot), Wst E (XW E a) (σ) A s.heap H locs → lv_has ls 4 [(0, .ref (a 68))] → W p l e ({ frames := 1, cells := 0, slots := 0, locals := 24 }) s m args below meth c H locs 0 0 Q (F0 m 19 ls [.int (nI w1), .ref (a 68)]) := by
    intro w1 e2 H locs ls hw hl
    subst e2
    refine pf_X7_28 hC hw dX7_restore_19 (fun H locs hw => ?_)
    have hw : Wst E (XW E a) (sr σ 0 (upd (σ 0) 3 (nI (if 21 ≠ 0 then (21 - 1) else 29)))) A s.heap H locs := hw
    refine lv_aload_n hC.1 hC.2.1 dX7_restore_22 rfl (lv_at hl 0 rfl) ?_
    refine lv_dup hC.1 hC.2.1 dX7_restore_23 rfl ?_
    refine gf_X7_65 (v := nI kp) hC hw hkp dX7_restore_24 ?_
    refine lv_iconst (v := nI 1) hC.1 hC.2.1 dX7_restore_27 (by decide) ?_
    refine q_subN hC (by omega) dX7_restore_28 ?_
    refine pf_X7_65 hC hw dX7_restore_29 (fun H locs hw => ?_)
    have hw : Wst E (XW E a) (sr (sr σ 0 (upd (σ 0) 3 (nI (if 21 ≠ 0 then (21 - 1) else 29)))) 0 (upd (upd (σ 0) 3 (nI (if 21 ≠ 0 then (21 - 1) else 29))) 4 (nI (kp - 1)))) A s.heap H locs := hw
    have hst_ : sr (sr σ 0 (upd (σ 0) 3 (nI (if 21 ≠ 0 then (21 - 1) else 29)))) 0 (upd (upd (σ 0) 3 (nI (if 21 ≠ 0 then (21 - 1) else 29))) 4 (nI (kp - 1))) = sr σ 0 (upd (upd (σ 0) 3 (nI (if 21 ≠ 0 then (21 - 1) else 29))) 4 (nI (kp - 1))) := by
      funext j_ x_
      by_cases e0 : j_ = 0
      · subst e0
        by_cases y3 : x_ = 3
        · subst y3; rfl
        · by_cases y4 : x_ = 4
          · subst y4; rfl
          · simp [sr, upd, y3, y4]
      · simp only [sr, e0, if_false]
    rw [hst_] at hw
    refine lv_aload_n hC.1 hC.2.1 dX7_restore_32 rfl (lv_at hl 0 rfl) ?_
    refine gf_X7_13 hC hw dX7_restore_33 ?_
    refine lv_aload_n hC.1 hC.2.1 dX7_restore_36 rfl (lv_at hl 0 rfl) ?_
    refine gf_X7_28 (v := nI (if 21 ≠ 0 then (21 - 1) else 29)) hC hw rfl dX7_restore_37 ?_
    refine q_top (y := nI 20) rfl ?_
    refine q_aald hC hw (i := 20) (by decide) dX7_restore_40 ?_
    refine lv_astore_n (lv' := [(1, .ref (a 50)), (0, .ref (a 68))]) hC.1 hC.2.1 dX7_restore_41 rfl hl (by decide) rfl (fun ls hl => ?_)
    refine lv_aload_n hC.1 hC.2.1 dX7_restore_42 rfl (lv_at hl 1 rfl) ?_
    refine gf_X7_16 hC hw dX7_restore_43 ?_
    refine lv_aload_n hC.1 hC.2.1 dX7_restore_46 rfl (lv_at hl 0 rfl) ?_
    refine lv_iconst (v := nI 0) hC.1 hC.2.1 dX7_restore_47 (by decide) ?_
    refine q_ald (Wf := XW E a) (v := σ 50 0) 60 rfl (by decide) hC hw (by omega) rfl dX7_restore_48 ?_
    refine pf_X7_32 hC hw dX7_restore_49 (fun H locs hw => ?_)
    have hw : Wst E (XW E a) (sr (sr σ 0 (upd (upd (σ 0) 3 (nI (if 21 ≠ 0 then (21 - 1) else 29))) 4 (nI (kp - 1)))) 0 (upd (upd (upd (σ 0) 3 (nI (if 21 ≠ 0 then (21 - 1) else 29))) 4 (nI (kp - 1))) 0 (σ 50 0))) A s.heap H locs := hw
    have hst_ : sr (sr σ 0 (upd (upd (σ 0) 3 (nI (if 21 ≠ 0 then (21 - 1) else 29))) 4 (nI (kp - 1)))) 0 (upd (upd (upd (σ 0) 3 (nI (if 21 ≠ 0 then (21 - 1) else 29))) 4 (nI (kp - 1))) 0 (σ 50 0)) = sr σ 0 (upd (upd (upd (σ 0) 0 (σ 50 0)) 3 (nI (if 21 ≠ 0 then (21 - 1) else 29))) 4 (nI (kp - 1))) := by
      funext j_ x_
      by_cases e0 : j_ = 0
      · subst e0
        by_cases y0 : x_ = 0
        · subst y0; rfl
        · by_cases y3 : x_ = 3
          · subst y3; rfl
          · by_cases y4 : x_ = 4
            · subst y4; rfl
            · simp [sr, upd, y0, y3, y4]
      · simp only [sr, e0, if_false]
    rw [hst_] at hw
    refine lv_aload_n hC.1 hC.2.1 dX7_restore_52 rfl (lv_at hl 1 rfl) ?_
    refine gf_X7_20 hC hw dX7_restore_53 ?_
    refine lv_aload_n hC.1 hC.2.1 dX7_restore_56 rfl (lv_at hl 0 rfl) ?_
    refine lv_iconst (v := nI 1) hC.1 hC.2.1 dX7_restore_57 (by decide) ?_
    refine q_ald (Wf := XW E a) (v := σ 50 1) 60 rfl (by decide) hC hw (by omega) rfl dX7_restore_58 ?_
    refine pf_X7_37 hC hw dX7_restore_59 (fun H locs hw => ?_)
    have hw : Wst E (XW E a) (sr (sr σ 0 (upd (upd (upd (σ 0) 0 (σ 50 0)) 3 (nI (if 21 ≠ 0 then (21 - 1) else 29))) 4 (nI (kp - 1)))) 0 (upd (upd (upd (upd (σ 0) 0 (σ 50 0)) 3 (nI (if 21 ≠ 0 then (21 - 1) else 29))) 4 (nI (kp - 1))) 1 (σ 50 1))) A s.heap H locs := hw
    have hst_ : sr (sr σ 0 (upd (upd (upd (σ 0) 0 (σ 50 0)) 3 (nI (if 21 ≠ 0 then (21 - 1) else 29))) 4 (nI (kp - 1)))) 0 (upd (upd (upd (upd (σ 0) 0 (σ 50 0)) 3 (nI (if 21 ≠ 0 then (21 - 1) else 29))) 4 (nI (kp - 1))) 1 (σ 50 1)) = sr σ 0 (upd (upd (upd (upd (σ 0) 0 (σ 50 0)) 1 (σ 50 1)) 3 (nI (if 21 ≠ 0 then (21 - 1) else 29))) 4 (nI (kp - 1))) := by
      funext j_ x_
      by_cases e0 : j_ = 0
      · subst e0
        by_cases y0 : x_ = 0
        · subst y0; rfl
        · by_cases y1 : x_ = 1
          · subst y1; rfl
          · by_cases y3 : x_ = 3
            · subst y3; rfl
            · by_cases y4 : x_ = 4
              · subst y4; rfl
              · simp [sr, upd, y0, y1, y3, y4]
      · simp only [sr, e0, if_false]
    rw [hst_] at hw
    refine lv_aload_n hC.1 hC.2.1 dX7_restore_62 rfl (lv_at hl 1 rfl) ?_
    refine gf_X7_20 hC hw dX7_restore_63 ?_
    refine lv_aload_n hC.1 hC.2.1 dX7_restore_66 rfl (lv_at hl 0 rfl) ?_
    refine lv_iconst (v := nI 2) hC.1 hC.2.1 dX7_restore_67 (by decide) ?_
    refine q_ald (Wf := XW E a) (v := σ 50 2) 60 rfl (by decide) hC hw (by omega) rfl dX7_restore_68 ?_
    refine pf_X7_40 hC hw dX7_restore_69 (fun H locs hw => ?_)
    have hw : Wst E (XW E a) (sr (sr σ 0 (upd (upd (upd (upd (σ 0) 0 (σ 50 0)) 1 (σ 50 1)) 3 (nI (if 21 ≠ 0 then (21 - 1) else 29))) 4 (nI (kp - 1)))) 0 (upd (upd (upd (upd (upd (σ 0) 0 (σ 50 0)) 1 (σ 50 1)) 3 (nI (if 21 ≠ 0 then (21 - 1) else 29))) 4 (nI (kp - 1))) 2 (σ 50 2))) A s.heap H locs := hw
    have hst_ : sr (sr σ 0 (upd (upd (upd (upd (σ 0) 0 (σ 50 0)) 1 (σ 50 1)) 3 (nI (if 21 ≠ 0 then (21 - 1) else 29))) 4 (nI (kp - 1)))) 0 (upd (upd (upd (upd (upd (σ 0) 0 (σ 50 0)) 1 (σ 50 1)) 3 (nI (if 21 ≠ 0 then (21 - 1) else 29))) 4 (nI (kp - 1))) 2 (σ 50 2)) = sr σ 0 (upd (upd (upd (upd (upd (σ 0) 0 (σ 50 0)) 1 (σ 50 1)) 2 (σ 50 2)) 3 (nI (if 21 ≠ 0 then (21 - 1) else 29))) 4 (nI (kp - 1))) := by
      funext j_ x_
      by_cases e0 : j_ = 0
      · subst e0
        by_cases y0 : x_ = 0
        · subst y0; rfl
        · by_cases y1 : x_ = 1
          · subst y1; rfl
          · by_cases y2 : x_ = 2
            · subst y2; rfl
            · by_cases y3 : x_ = 3
              · subst y3; rfl
              · by_cases y4 : x_ = 4
                · subst y4; rfl
                · simp [sr, upd, y0, y1, y2, y3, y4]
      · simp only [sr, e0, if_false]
    rw [hst_] at hw
    refine lv_iconst (v := nI 3) hC.1 hC.2.1 dX7_restore_72 (by decide) ?_
    refine lv_istore_n (lv' := [(2, .int (nI 3)), (1, .ref (a 50)), (0, .ref (a 68))]) hC.1 hC.2.1 dX7_restore_73 rfl hl (by decide) rfl (fun ls hl => ?_)
    refine lv_aload_n hC.1 hC.2.1 dX7_restore_74 rfl (lv_at hl 1 rfl) ?_
    refine lv_iload_n hC.1 hC.2.1 dX7_restore_75 rfl (lv_at hl 0 rfl) ?_
    refine lv_aload_n hC.1 hC.2.1 dX7_restore_76 rfl (lv_at hl 2 rfl) ?_
    refine gf_X7_24 hC hw dX7_restore_77 ?_
    refine lv_iconst (v := nI 0) hC.1 hC.2.1 dX7_restore_80 (by decide) ?_
    refine lv_iconst (v := nI 3) hC.1 hC.2.1 dX7_restore_81 (by decide) ?_
    refine q_cpy (sp := 3) (dp := 0) (n := 3) 60 rfl 25 rfl (XW_s15 _) hC hw hl (by omega) (by omega) (by decide) (by decide) ⟨Nat.le_of_ble_eq_true rfl, Nat.le_of_ble_eq_true rfl⟩ wk2_182 dX7_restore_82 (fun H locs hw => ?_)
    have hw : Wst E (XW E a) (sr (sr σ 0 (upd (upd (upd (upd (upd (σ 0) 0 (σ 50 0)) 1 (σ 50 1)) 2 (σ 50 2)) 3 (nI (if 21 ≠ 0 then (21 - 1) else 29))) 4 (nI (kp - 1)))) 15 (va_cpy (σ 50) (σ 15) 3 0 3)) A s.heap H locs := hw
    have hst_ : sr (sr σ 0 (upd (upd (upd (upd (upd (σ 0) 0 (σ 50 0)) 1 (σ 50 1)) 2 (σ 50 2)) 3 (nI (if 21 ≠ 0 then (21 - 1) else 29))) 4 (nI (kp - 1)))) 15 (va_cpy (σ 50) (σ 15) 3 0 3) = sr (sr σ 15 (va_cpy (σ 50) (σ 15) 3 0 3)) 0 (upd (upd (upd (upd (upd (σ 0) 0 (σ 50 0)) 1 (σ 50 1)) 2 (σ 50 2)) 3 (nI (if 21 ≠ 0 then (21 - 1) else 29))) 4 (nI (kp - 1))) := by
      funext j_ x_
      by_cases e0 : j_ = 0
      · subst e0
        by_cases y0 : x_ = 0
        · subst y0; rfl
        · by_cases y1 : x_ = 1
          · subst y1; rfl
          · by_cases y2 : x_ = 2
            · subst y2; rfl
            · by_cases y3 : x_ = 3
              · subst y3; rfl
              · by_cases y4 : x_ = 4
                · subst y4; rfl
                · simp [sr, upd, y0, y1, y2, y3, y4]
      · by_cases e15 : j_ = 15
        · subst e15; rfl
        · simp only [sr, e0, e15, if_false]
    rw [hst_] at hw
    refine lv_iinc (v := nI (3 + 3)) (lv' := [(2, .int (nI (3 + 3))), (1, .ref (a 50)), (0, .ref (a 68))]) hC.1 hC.2.1 dX7_restore_85 hl (k := 0) rfl (nI_add _ _) (by decide) rfl (fun ls hl => ?_)
    refine lv_iconst (v := nI 0) hC.1 hC.2.1 dX7_restore_88 (by decide) ?_
    refine lv_istore_n (lv' := [(3, .int (nI 0)), (2, .int (nI (3 + 3))), (1, .ref (a 50)), (0, .ref (a 68))]) hC.1 hC.2.1 dX7_restore_89 rfl hl (by decide) rfl (fun ls hl => ?_)
    have L90_2 : ∀ (n : Nat), ∀ (h : Nat), (h ≤ 10) → (10 - h) < n → ∀ (H : Heap) (locs : List Loc) (ls : Array Slot), Wst E (XW E a) (sr (sr (sr σ 4 (upr (σ 50) h (σ 4))) 15 (va_cpy (σ 50) (σ 15) 3 0 3)) 0 (upd (upd (upd (upd (upd (σ 0) 0 (σ 50 0)) 1 (σ 50 1)) 2 (σ 50 2)) 3 (nI (if 21 ≠ 0 then (21 - 1) else 29))) 4 (nI (kp - 1)))) A s.heap H locs → lv_has ls 4 [(0, .ref (a 68)), (1, .ref (a 50)), (2, .int (nI (3 + 3))), (3, .int (nI h))] → W p l e ({ frames := 1, cells := 0, slots := 0, locals := 24 }) s m args below meth c H locs 0 0 Q (F0 m 90 ls []) := by
      intro n
      induction n with
      | zero => intro h hh hn; exact absurd hn (Nat.not_lt_zero _)
      | succ n ih90 =>
        intro h hh hn90 H locs ls hw hl
        refine lv_iload_n hC.1 hC.2.1 dX7_restore_90 rfl (lv_at hl 3 rfl) ?_
        refine lv_bipush (v := nI 10) hC.1 hC.2.1 dX7_restore_91 (by decide) ?_
        refine q_cmpge hC 125 (cNle (by omega) (by omega)) dX7_restore_93 (by decide) (fun (c4 : 10 ≤ h) => ?_) (fun (c4 : h < 10) => ?_)
        · have hh9 : h = 10 := by omega
          rw [hh9] at hw
          refine lv_iinc (v := nI (3 + 3 + 10)) (lv' := [(2, .int (nI (3 + 3 + 10))), (0, .ref (a 68)), (1, .ref (a 50)), (3, .int (nI h))]) hC.1 hC.2.1 dX7_restore_125 hl (k := 2) rfl (nI_add _ _) (by decide) rfl (fun ls hl => ?_)
          refine lv_aload_n hC.1 hC.2.1 dX7_restore_128 rfl (lv_at hl 2 rfl) ?_
          refine lv_iload_n hC.1 hC.2.1 dX7_restore_129 rfl (lv_at hl 0 rfl) ?_
          refine lv_aload_n hC.1 hC.2.1 dX7_restore_130 rfl (lv_at hl 1 rfl) ?_
          refine gf_X7_20 hC hw dX7_restore_131 ?_
          refine gf_X7_53 hC hw dX7_restore_134 ?_
          refine lv_iconst (v := nI 0) hC.1 hC.2.1 dX7_restore_137 (by decide) ?_
          refine lv_bipush (v := nI 24) hC.1 hC.2.1 dX7_restore_138 (by decide) ?_
          refine q_cpy (sp := (3 + 3 + 10)) (dp := 0) (n := 24) 60 rfl 21 rfl (XW_s11 _) hC hw hl (by omega) (by omega) (by decide) (by decide) ⟨Nat.le_of_ble_eq_true rfl, Nat.le_of_ble_eq_true rfl⟩ wk2_182 dX7_restore_140 (fun H locs hw => ?_)
          have hw : Wst E (XW E a) (sr (sr (sr (sr σ 4 (upr (σ 50) 10 (σ 4))) 15 (va_cpy (σ 50) (σ 15) 3 0 3)) 0 (upd (upd (upd (upd (upd (σ 0) 0 (σ 50 0)) 1 (σ 50 1)) 2 (σ 50 2)) 3 (nI (if 21 ≠ 0 then (21 - 1) else 29))) 4 (nI (kp - 1)))) 11 (va_cpy (σ 50) (σ 11) (3 + 3 + 10) 0 24)) A s.heap H locs := hw
          have hst_ : sr (sr (sr (sr σ 4 (upr (σ 50) 10 (σ 4))) 15 (va_cpy (σ 50) (σ 15) 3 0 3)) 0 (upd (upd (upd (upd (upd (σ 0) 0 (σ 50 0)) 1 (σ 50 1)) 2 (σ 50 2)) 3 (nI (if 21 ≠ 0 then (21 - 1) else 29))) 4 (nI (kp - 1)))) 11 (va_cpy (σ 50) (σ 11) (3 + 3 + 10) 0 24) = sr (sr (sr (sr σ 4 (upr (σ 50) 10 (σ 4))) 11 (va_cpy (σ 50) (σ 11) (3 + 3 + 10) 0 24)) 15 (va_cpy (σ 50) (σ 15) 3 0 3)) 0 (upd (upd (upd (upd (upd (σ 0) 0 (σ 50 0)) 1 (σ 50 1)) 2 (σ 50 2)) 3 (nI (if 21 ≠ 0 then (21 - 1) else 29))) 4 (nI (kp - 1))) := by
            funext j_ x_
            by_cases e0 : j_ = 0
            · subst e0
              by_cases y0 : x_ = 0
              · subst y0; rfl
              · by_cases y1 : x_ = 1
                · subst y1; rfl
                · by_cases y2 : x_ = 2
                  · subst y2; rfl
                  · by_cases y3 : x_ = 3
                    · subst y3; rfl
                    · by_cases y4 : x_ = 4
                      · subst y4; rfl
                      · simp [sr, upd, y0, y1, y2, y3, y4]
            · by_cases e4 : j_ = 4
              · subst e4; rfl
              · by_cases e11 : j_ = 11
                · subst e11; rfl
                · by_cases e15 : j_ = 15
                  · subst e15; rfl
                  · simp only [sr, e0, e4, e11, e15, if_false]
          rw [hst_] at hw
          refine lv_aload_n hC.1 hC.2.1 dX7_restore_143 rfl (lv_at hl 2 rfl) ?_
          refine lv_iload_n hC.1 hC.2.1 dX7_restore_144 rfl (lv_at hl 0 rfl) ?_
          refine lv_bipush (v := nI 24) hC.1 hC.2.1 dX7_restore_145 (by decide) ?_
          refine q_addN hC dX7_restore_147 ?_
          refine lv_aload_n hC.1 hC.2.1 dX7_restore_148 rfl (lv_at hl 1 rfl) ?_
          refine gf_X7_20 hC hw dX7_restore_149 ?_
          refine gf_X7_56 hC hw dX7_restore_152 ?_
          refine lv_iconst (v := nI 0) hC.1 hC.2.1 dX7_restore_155 (by decide) ?_
          refine lv_bipush (v := nI 24) hC.1 hC.2.1 dX7_restore_156 (by decide) ?_
          refine q_cpy (sp := ((3 + 3 + 10) + 24)) (dp := 0) (n := 24) 60 rfl 22 rfl (XW_s12 _) hC hw hl (by omega) (by omega) (by decide) (by decide) ⟨Nat.le_of_ble_eq_true rfl, Nat.le_of_ble_eq_true rfl⟩ wk2_182 dX7_restore_158 (fun H locs hw => ?_)
          have hw : Wst E (XW E a) (sr (sr (sr (sr (sr σ 4 (upr (σ 50) 10 (σ 4))) 11 (va_cpy (σ 50) (σ 11) (3 + 3 + 10) 0 24)) 15 (va_cpy (σ 50) (σ 15) 3 0 3)) 0 (upd (upd (upd (upd (upd (σ 0) 0 (σ 50 0)) 1 (σ 50 1)) 2 (σ 50 2)) 3 (nI (if 21 ≠ 0 then (21 - 1) else 29))) 4 (nI (kp - 1)))) 12 (va_cpy (σ 50) (σ 12) ((3 + 3 + 10) + 24) 0 24)) A s.heap H locs := hw
          have hst_ : sr (sr (sr (sr (sr σ 4 (upr (σ 50) 10 (σ 4))) 11 (va_cpy (σ 50) (σ 11) (3 + 3 + 10) 0 24)) 15 (va_cpy (σ 50) (σ 15) 3 0 3)) 0 (upd (upd (upd (upd (upd (σ 0) 0 (σ 50 0)) 1 (σ 50 1)) 2 (σ 50 2)) 3 (nI (if 21 ≠ 0 then (21 - 1) else 29))) 4 (nI (kp - 1)))) 12 (va_cpy (σ 50) (σ 12) ((3 + 3 + 10) + 24) 0 24) = sr (sr (sr (sr (sr σ 4 (upr (σ 50) 10 (σ 4))) 11 (va_cpy (σ 50) (σ 11) (3 + 3 + 10) 0 24)) 12 (va_cpy (σ 50) (σ 12) ((3 + 3 + 10) + 24) 0 24)) 15 (va_cpy (σ 50) (σ 15) 3 0 3)) 0 (upd (upd (upd (upd (upd (σ 0) 0 (σ 50 0)) 1 (σ 50 1)) 2 (σ 50 2)) 3 (nI (if 21 ≠ 0 then (21 - 1) else 29))) 4 (nI (kp - 1))) := by
            funext j_ x_
            by_cases e0 : j_ = 0
            · subst e0
              by_cases y0 : x_ = 0
              · subst y0; rfl
              · by_cases y1 : x_ = 1
                · subst y1; rfl
                · by_cases y2 : x_ = 2
                  · subst y2; rfl
                  · by_cases y3 : x_ = 3
                    · subst y3; rfl
                    · by_cases y4 : x_ = 4
                      · subst y4; rfl
                      · simp [sr, upd, y0, y1, y2, y3, y4]
            · by_cases e4 : j_ = 4
              · subst e4; rfl
              · by_cases e11 : j_ = 11
                · subst e11; rfl
                · by_cases e12 : j_ = 12
                  · subst e12; rfl
                  · by_cases e15 : j_ = 15
                    · subst e15; rfl
                    · simp only [sr, e0, e4, e11, e12, e15, if_false]
          rw [hst_] at hw
          refine lv_aload_n hC.1 hC.2.1 dX7_restore_161 rfl (lv_at hl 2 rfl) ?_
          refine lv_iload_n hC.1 hC.2.1 dX7_restore_162 rfl (lv_at hl 0 rfl) ?_
          refine lv_bipush (v := nI 48) hC.1 hC.2.1 dX7_restore_163 (by decide) ?_
          refine q_addN hC dX7_restore_165 ?_
          refine lv_aload_n hC.1 hC.2.1 dX7_restore_166 rfl (lv_at hl 1 rfl) ?_
          refine gf_X7_20 hC hw dX7_restore_167 ?_
          refine gf_X7_59 hC hw dX7_restore_170 ?_
          refine lv_iconst (v := nI 0) hC.1 hC.2.1 dX7_restore_173 (by decide) ?_
          refine lv_bipush (v := nI 24) hC.1 hC.2.1 dX7_restore_174 (by decide) ?_
          refine q_cpy (sp := ((3 + 3 + 10) + 48)) (dp := 0) (n := 24) 60 rfl 23 rfl (XW_s13 _) hC hw hl (by omega) (by omega) (by decide) (by decide) ⟨Nat.le_of_ble_eq_true rfl, Nat.le_of_ble_eq_true rfl⟩ wk2_182 dX7_restore_176 (fun H locs hw => ?_)
          have hw : Wst E (XW E a) (sr (sr (sr (sr (sr (sr σ 4 (upr (σ 50) 10 (σ 4))) 11 (va_cpy (σ 50) (σ 11) (3 + 3 + 10) 0 24)) 12 (va_cpy (σ 50) (σ 12) ((3 + 3 + 10) + 24) 0 24)) 15 (va_cpy (σ 50) (σ 15) 3 0 3)) 0 (upd (upd (upd (upd (upd (σ 0) 0 (σ 50 0)) 1 (σ 50 1)) 2 (σ 50 2)) 3 (nI (if 21 ≠ 0 then (21 - 1) else 29))) 4 (nI (kp - 1)))) 13 (va_cpy (σ 50) (σ 13) ((3 + 3 + 10) + 48) 0 24)) A s.heap H locs := hw
          have hst_ : sr (sr (sr (sr (sr (sr σ 4 (upr (σ 50) 10 (σ 4))) 11 (va_cpy (σ 50) (σ 11) (3 + 3 + 10) 0 24)) 12 (va_cpy (σ 50) (σ 12) ((3 + 3 + 10) + 24) 0 24)) 15 (va_cpy (σ 50) (σ 15) 3 0 3)) 0 (upd (upd (upd (upd (upd (σ 0) 0 (σ 50 0)) 1 (σ 50 1)) 2 (σ 50 2)) 3 (nI (if 21 ≠ 0 then (21 - 1) else 29))) 4 (nI (kp - 1)))) 13 (va_cpy (σ 50) (σ 13) ((3 + 3 + 10) + 48) 0 24) = sr (sr (sr (sr (sr (sr σ 4 (upr (σ 50) 10 (σ 4))) 11 (va_cpy (σ 50) (σ 11) (3 + 3 + 10) 0 24)) 12 (va_cpy (σ 50) (σ 12) ((3 + 3 + 10) + 24) 0 24)) 13 (va_cpy (σ 50) (σ 13) ((3 + 3 + 10) + 48) 0 24)) 15 (va_cpy (σ 50) (σ 15) 3 0 3)) 0 (upd (upd (upd (upd (upd (σ 0) 0 (σ 50 0)) 1 (σ 50 1)) 2 (σ 50 2)) 3 (nI (if 21 ≠ 0 then (21 - 1) else 29))) 4 (nI (kp - 1))) := by
            funext j_ x_
            by_cases e0 : j_ = 0
            · subst e0
              by_cases y0 : x_ = 0
              · subst y0; rfl
              · by_cases y1 : x_ = 1
                · subst y1; rfl
                · by_cases y2 : x_ = 2
                  · subst y2; rfl
                  · by_cases y3 : x_ = 3
                    · subst y3; rfl
                    · by_cases y4 : x_ = 4
                      · subst y4; rfl
                      · simp [sr, upd, y0, y1, y2, y3, y4]
            · by_cases e4 : j_ = 4
              · subst e4; rfl
              · by_cases e11 : j_ = 11
                · subst e11; rfl
                · by_cases e12 : j_ = 12
                  · subst e12; rfl
                  · by_cases e13 : j_ = 13
                    · subst e13; rfl
                    · by_cases e15 : j_ = 15
                      · subst e15; rfl
                      · simp only [sr, e0, e4, e11, e12, e13, e15, if_false]
          rw [hst_] at hw
          refine lv_aload_n hC.1 hC.2.1 dX7_restore_179 rfl (lv_at hl 2 rfl) ?_
          refine lv_iload_n hC.1 hC.2.1 dX7_restore_180 rfl (lv_at hl 0 rfl) ?_
          refine lv_bipush (v := nI 72) hC.1 hC.2.1 dX7_restore_181 (by decide) ?_
          refine q_addN hC dX7_restore_183 ?_
          refine lv_aload_n hC.1 hC.2.1 dX7_restore_184 rfl (lv_at hl 1 rfl) ?_
          refine gf_X7_20 hC hw dX7_restore_185 ?_
          refine gf_X7_62 hC hw dX7_restore_188 ?_
          refine lv_iconst (v := nI 0) hC.1 hC.2.1 dX7_restore_191 (by decide) ?_
          refine lv_bipush (v := nI 24) hC.1 hC.2.1 dX7_restore_192 (by decide) ?_
          refine q_cpy (sp := ((3 + 3 + 10) + 72)) (dp := 0) (n := 24) 60 rfl 24 rfl (XW_s14 _) hC hw hl (by omega) (by omega) (by decide) (by decide) ⟨Nat.le_of_ble_eq_true rfl, Nat.le_of_ble_eq_true rfl⟩ wk2_182 dX7_restore_194 (fun H locs hw => ?_)
          have hw : Wst E (XW E a) (sr (sr (sr (sr (sr (sr (sr σ 4 (upr (σ 50) 10 (σ 4))) 11 (va_cpy (σ 50) (σ 11) (3 + 3 + 10) 0 24)) 12 (va_cpy (σ 50) (σ 12) ((3 + 3 + 10) + 24) 0 24)) 13 (va_cpy (σ 50) (σ 13) ((3 + 3 + 10) + 48) 0 24)) 15 (va_cpy (σ 50) (σ 15) 3 0 3)) 0 (upd (upd (upd (upd (upd (σ 0) 0 (σ 50 0)) 1 (σ 50 1)) 2 (σ 50 2)) 3 (nI (if 21 ≠ 0 then (21 - 1) else 29))) 4 (nI (kp - 1)))) 14 (va_cpy (σ 50) (σ 14) ((3 + 3 + 10) + 72) 0 24)) A s.heap H locs := hw
          have hst_ : sr (sr (sr (sr (sr (sr (sr σ 4 (upr (σ 50) 10 (σ 4))) 11 (va_cpy (σ 50) (σ 11) (3 + 3 + 10) 0 24)) 12 (va_cpy (σ 50) (σ 12) ((3 + 3 + 10) + 24) 0 24)) 13 (va_cpy (σ 50) (σ 13) ((3 + 3 + 10) + 48) 0 24)) 15 (va_cpy (σ 50) (σ 15) 3 0 3)) 0 (upd (upd (upd (upd (upd (σ 0) 0 (σ 50 0)) 1 (σ 50 1)) 2 (σ 50 2)) 3 (nI (if 21 ≠ 0 then (21 - 1) else 29))) 4 (nI (kp - 1)))) 14 (va_cpy (σ 50) (σ 14) ((3 + 3 + 10) + 72) 0 24) = sr (sr (sr (sr (sr (sr (sr σ 4 (upr (σ 50) 10 (σ 4))) 11 (va_cpy (σ 50) (σ 11) (3 + 3 + 10) 0 24)) 12 (va_cpy (σ 50) (σ 12) ((3 + 3 + 10) + 24) 0 24)) 13 (va_cpy (σ 50) (σ 13) ((3 + 3 + 10) + 48) 0 24)) 14 (va_cpy (σ 50) (σ 14) ((3 + 3 + 10) + 72) 0 24)) 15 (va_cpy (σ 50) (σ 15) 3 0 3)) 0 (upd (upd (upd (upd (upd (σ 0) 0 (σ 50 0)) 1 (σ 50 1)) 2 (σ 50 2)) 3 (nI (if 21 ≠ 0 then (21 - 1) else 29))) 4 (nI (kp - 1))) := by
            funext j_ x_
            by_cases e0 : j_ = 0
            · subst e0
              by_cases y0 : x_ = 0
              · subst y0; rfl
              · by_cases y1 : x_ = 1
                · subst y1; rfl
                · by_cases y2 : x_ = 2
                  · subst y2; rfl
                  · by_cases y3 : x_ = 3
                    · subst y3; rfl
                    · by_cases y4 : x_ = 4
                      · subst y4; rfl
                      · simp [sr, upd, y0, y1, y2, y3, y4]
            · by_cases e4 : j_ = 4
              · subst e4; rfl
              · by_cases e11 : j_ = 11
                · subst e11; rfl
                · by_cases e12 : j_ = 12
                  · subst e12; rfl
                  · by_cases e13 : j_ = 13
                    · subst e13; rfl
                    · by_cases e14 : j_ = 14
                      · subst e14; rfl
                      · by_cases e15 : j_ = 15
                        · subst e15; rfl
                        · simp only [sr, e0, e4, e11, e12, e13, e14, e15, if_false]
          rw [hst_] at hw
          refine hret _ _ _ _ _ hw ?_ dX7_restore_197
          exact rfl
        · refine lv_aload_n hC.1 hC.2.1 dX7_restore_96 rfl (lv_at hl 0 rfl) ?_
          refine gf_X7_16 hC hw dX7_restore_97 ?_
          refine gf_X7_49 hC hw dX7_restore_100 ?_
          refine lv_iload_n hC.1 hC.2.1 dX7_restore_103 rfl (lv_at hl 3 rfl) ?_
          refine lv_aload_n hC.1 hC.2.1 dX7_restore_104 rfl (lv_at hl 1 rfl) ?_
          refine lv_iload_n hC.1 hC.2.1 dX7_restore_105 rfl (lv_at hl 2 rfl) ?_
          refine lv_iload_n hC.1 hC.2.1 dX7_restore_106 rfl (lv_at hl 3 rfl) ?_
          refine q_addN hC dX7_restore_107 ?_
          refine q_ald (Wf := XW E a) (v := σ 50 ((3 + 3) + h)) 60 rfl (by decide) hC hw (by omega) rfl dX7_restore_108 ?_
          refine lv_iconst (v := nI 1) hC.1 hC.2.1 dX7_restore_109 (by decide) ?_
          have J118_6 : ∀ (w5 : Int32), w5 = (if (σ 50 ((3 + 3) + h)) = 1 then (1 : Int32) else 0) → ∀ (H : Heap) (locs : List Loc) (ls : Array Slot), Wst E (XW E a) (sr (sr (sr σ 4 (upr (σ 50) h (σ 4))) 15 (va_cpy (σ 50) (σ 15) 3 0 3)) 0 (upd (upd (upd (upd (upd (σ 0) 0 (σ 50 0)) 1 (σ 50 1)) 2 (σ 50 2)) 3 (nI (if 21 ≠ 0 then (21 - 1) else 29))) 4 (nI (kp - 1)))) A s.heap H locs → lv_has ls 4 [(0, .ref (a 68)), (1, .ref (a 50)), (2, .int (nI (3 + 3))), (3, .int (nI h))] → W p l e ({ frames := 1, cells := 0, slots := 0, locals := 24 }) s m args below meth c H locs 0 0 Q (F0 m 118 ls [.int (w5), .int (nI h), .ref (a 4)]) := by
            intro w5 e6 H locs ls hw hl
            subst e6
            refine as_X4 hC hw (by omega) vz_B dX7_restore_118 (fun H locs hw => ?_)
            have hw : Wst E (XW E a) (sr (sr (sr (sr σ 4 (upr (σ 50) h (σ 4))) 15 (va_cpy (σ 50) (σ 15) 3 0 3)) 0 (upd (upd (upd (upd (upd (σ 0) 0 (σ 50 0)) 1 (σ 50 1)) 2 (σ 50 2)) 3 (nI (if 21 ≠ 0 then (21 - 1) else 29))) 4 (nI (kp - 1)))) 4 (upd (upr (σ 50) h (σ 4)) h (if (σ 50 ((3 + 3) + h)) = 1 then (1 : Int32) else 0))) A s.heap H locs := hw
            have hst_ : sr (sr (sr (sr σ 4 (upr (σ 50) h (σ 4))) 15 (va_cpy (σ 50) (σ 15) 3 0 3)) 0 (upd (upd (upd (upd (upd (σ 0) 0 (σ 50 0)) 1 (σ 50 1)) 2 (σ 50 2)) 3 (nI (if 21 ≠ 0 then (21 - 1) else 29))) 4 (nI (kp - 1)))) 4 (upd (upr (σ 50) h (σ 4)) h (if (σ 50 ((3 + 3) + h)) = 1 then (1 : Int32) else 0)) = sr (sr (sr σ 4 (upd (upr (σ 50) h (σ 4)) h (if (σ 50 ((3 + 3) + h)) = 1 then (1 : Int32) else 0))) 15 (va_cpy (σ 50) (σ 15) 3 0 3)) 0 (upd (upd (upd (upd (upd (σ 0) 0 (σ 50 0)) 1 (σ 50 1)) 2 (σ 50 2)) 3 (nI (if 21 ≠ 0 then (21 - 1) else 29))) 4 (nI (kp - 1))) := by
              funext j_ x_
              by_cases e0 : j_ = 0
              · subst e0
                by_cases y0 : x_ = 0
                · subst y0; rfl
                · by_cases y1 : x_ = 1
                  · subst y1; rfl
                  · by_cases y2 : x_ = 2
                    · subst y2; rfl
                    · by_cases y3 : x_ = 3
                      · subst y3; rfl
                      · by_cases y4 : x_ = 4
                        · subst y4; rfl
                        · simp [sr, upd, y0, y1, y2, y3, y4]
              · by_cases e4 : j_ = 4
                · subst e4; rfl
                · by_cases e15 : j_ = 15
                  · subst e15; rfl
                  · simp only [sr, e0, e4, e15, if_false]
            rw [hst_] at hw
            refine lv_iinc (v := nI (h + 1)) (lv' := [(3, .int (nI (h + 1))), (0, .ref (a 68)), (1, .ref (a 50)), (2, .int (nI (3 + 3)))]) hC.1 hC.2.1 dX7_restore_119 hl (k := 3) rfl (nI_add _ _) (by decide) rfl (fun ls hl => ?_)
            refine lv_goto (tgt := 90) hC.1 hC.2.1 dX7_restore_122 (by decide) ?_
            rw [upr_s] at hw
            exact ih90 (h + 1) (by omega) (by omega) _ _ _ hw (lv_sub hl [1, 2, 3, 0] rfl)
          refine q_cmpne hC 117 cI dX7_restore_110 (by decide) (fun (c7 : ¬ ((σ 50 ((3 + 3) + h)) = 1)) => ?_) (fun (c7 : (σ 50 ((3 + 3) + h)) = 1) => ?_)
          · refine lv_iconst (v := nI 0) hC.1 hC.2.1 dX7_restore_117 (by decide) ?_
            exact J118_6 _ (if_neg c7).symm _ _ _ hw (lv_sub hl [0, 1, 2, 3] rfl)
          · refine lv_iconst (v := nI 1) hC.1 hC.2.1 dX7_restore_113 (by decide) ?_
            refine lv_goto (tgt := 118) hC.1 hC.2.1 dX7_restore_114 (by decide) ?_
            exact J118_6 _ (if_pos c7).symm _ _ _ hw (lv_sub hl [0, 1, 2, 3] rfl)
    have hst_ : sr (sr σ 15 (va_cpy (σ 50) (σ 15) 3 0 3)) 0 (upd (upd (upd (upd (upd (σ 0) 0 (σ 50 0)) 1 (σ 50 1)) 2 (σ 50 2)) 3 (nI (if 21 ≠ 0 then (21 - 1) else 29))) 4 (nI (kp - 1))) = sr (sr (sr σ 4 (upr (σ 50) 0 (σ 4))) 15 (va_cpy (σ 50) (σ 15) 3 0 3)) 0 (upd (upd (upd (upd (upd (σ 0) 0 (σ 50 0)) 1 (σ 50 1)) 2 (σ 50 2)) 3 (nI (if 21 ≠ 0 then (21 - 1) else 29))) 4 (nI (kp - 1))) := by
      funext j_ x_
      by_cases e0 : j_ = 0
      · subst e0
        by_cases y0 : x_ = 0
        · subst y0; rfl
        · by_cases y1 : x_ = 1
          · subst y1; rfl
          · by_cases y2 : x_ = 2
            · subst y2; rfl
            · by_cases y3 : x_ = 3
              · subst y3; rfl
              · by_cases y4 : x_ = 4
                · subst y4; rfl
                · simp [sr, upd, y0, y1, y2, y3, y4]
      · by_cases e4 : j_ = 4
        · subst e4; show σ 4 x_ = upr (σ 50) 0 (σ 4) x_; rw [upr_0]
        · by_cases e15 : j_ = 15
          · subst e15; rfl
          · simp only [sr, e0, e4, e15, if_false]
    rw [hst_] at hw
    exact L90_2 _ 0 (by omega) (Nat.lt_succ_self _) _ _ _ hw (lv_sub hl [3, 2, 1, 0] rfl)
  refine q_ifne hC 13 (cN0 (by omega)) dX7_restore_5 (by decide) (fun (c8 : 21 ≠ 0) => ?_) (fun (c8 : 21 = 0) => ?_)
  · refine lv_aload_n hC.1 hC.2.1 dX7_restore_13 rfl (lv_at hl 0 rfl) ?_
    refine gf_X7_28 (v := nI 21) hC hw hnx dX7_restore_14 ?_
    refine lv_iconst (v := nI 1) hC.1 hC.2.1 dX7_restore_17 (by decide) ?_
    refine q_subN hC (by omega) dX7_restore_18 ?_
    exact J19_2 _ (by (rw [if_pos c8]) <;> rfl) _ _ _ hw (lv_sub hl [0] rfl)
  · refine lv_bipush (v := nI 29) hC.1 hC.2.1 dX7_restore_8 (by decide) ?_
    refine lv_goto (tgt := 19) hC.1 hC.2.1 dX7_restore_10 (by decide) ?_
    exact J19_2 _ (by (rw [if_neg (fun q => q c8)]) <;> rfl) _ _ _ hw (lv_sub hl [0] rfl)
set_option maxHeartbeats 4000000 in
set_option maxRecDepth 100000 in
theorem tX7_restore_k22 (l : Launch) (E : EV) (a : Nat → Nat) (σ : St) (kp : Nat) (hnx : σ 0 3 = nI 22) (hkp : σ 0 4 = nI kp) (hk30 : kp ≤ 30) (hk1 : 1 ≤ kp) : MV l E (XW E a) yX7_restore (Cond.code yX7_restore cX7_restore 4 none) ({ frames := 1, cells := 0, slots := 0, locals := 24 }) [.ref (a 68)] σ (fun u_ => u_ = sr (sr (sr (sr (sr (sr (sr σ 4 (upr (σ 51) 10 (σ 4))) 11 (va_cpy (σ 51) (σ 11) 16 0 24)) 12 (va_cpy (σ 51) (σ 12) 40 0 24)) 13 (va_cpy (σ 51) (σ 13) 64 0 24)) 14 (va_cpy (σ 51) (σ 14) 88 0 24)) 15 (va_cpy (σ 51) (σ 15) 3 0 3)) 0 (upd (upd (upd (upd (upd (σ 0) 0 ((σ 51) 0)) 1 ((σ 51) 1)) 2 ((σ 51) 2)) 3 (nI (if 22 ≠ 0 then 22 - 1 else 29))) 4 (nI (kp - 1)))) := by
  refine MV.mk (by decide +kernel) (Nat.le_of_ble_eq_true rfl) ?_
  intro p e s m args below meth c ls A Q hret hC hw hl
  have hC : Cxt E p s m args meth c cX7_restore 4 none RX7 A := hC
  have hl : lv_has ls 4 [(0, .ref (a 68))] := hl
  refine lv_aload_n hC.1 hC.2.1 dX7_restore_0 rfl (lv_at hl 0 rfl) ?_
  refine lv_aload_n hC.1 hC.2.1 dX7_restore_1 rfl (lv_at hl 0 rfl) ?_
  refine gf_X7_28 (v := nI 22) hC hw hnx dX7_restore_2 ?_
  have J19_2 : ∀ (w1 : Nat), w1 = (if 22 ≠ 0 then (22 - 1) else 29) → ∀ (H : Heap) (locs : List Loc) (ls : Array Slot), Wst E (XW E a) (σ) A s.heap H locs → lv_has ls 4 [(0, .ref (a 68))] → W p l e ({ frames := 1, cells := 0, slots := 0, locals := 24 }) s m args below meth c H locs 0 0 Q (F0 m 19 ls [.int (nI w1), .ref (a 68)]) := by
    intro w1 e2 H locs ls hw hl
    subst e2
    refine pf_X7_28 hC hw dX7_restore_19 (fun H locs hw => ?_)
    have hw : Wst E (XW E a) (sr σ 0 (upd (σ 0) 3 (nI (if 22 ≠ 0 then (22 - 1) else 29)))) A s.heap H locs := hw
    refine lv_aload_n hC.1 hC.2.1 dX7_restore_22 rfl (lv_at hl 0 rfl) ?_
    refine lv_dup hC.1 hC.2.1 dX7_restore_23 rfl ?_
    refine gf_X7_65 (v := nI kp) hC hw hkp dX7_restore_24 ?_
    refine lv_iconst (v := nI 1) hC.1 hC.2.1 dX7_restore_27 (by decide) ?_
    refine q_subN hC (by omega) dX7_restore_28 ?_
    refine pf_X7_65 hC hw dX7_restore_29 (fun H locs hw => ?_)
    have hw : Wst E (XW E a) (sr (sr σ 0 (upd (σ 0) 3 (nI (if 22 ≠ 0 then (22 - 1) else 29)))) 0 (upd (upd (σ 0) 3 (nI (if 22 ≠ 0 then (22 - 1) else 29))) 4 (nI (kp - 1)))) A s.heap H locs := hw
    have hst_ : sr (sr σ 0 (upd (σ 0) 3 (nI (if 22 ≠ 0 then (22 - 1) else 29)))) 0 (upd (upd (σ 0) 3 (nI (if 22 ≠ 0 then (22 - 1) else 29))) 4 (nI (kp - 1))) = sr σ 0 (upd (upd (σ 0) 3 (nI (if 22 ≠ 0 then (22 - 1) else 29))) 4 (nI (kp - 1))) := by
      funext j_ x_
      by_cases e0 : j_ = 0
      · subst e0
        by_cases y3 : x_ = 3
        · subst y3; rfl
        · by_cases y4 : x_ = 4
          · subst y4; rfl
          · simp [sr, upd, y3, y4]
      · simp only [sr, e0, if_false]
    rw [hst_] at hw
    refine lv_aload_n hC.1 hC.2.1 dX7_restore_32 rfl (lv_at hl 0 rfl) ?_
    refine gf_X7_13 hC hw dX7_restore_33 ?_
    refine lv_aload_n hC.1 hC.2.1 dX7_restore_36 rfl (lv_at hl 0 rfl) ?_
    refine gf_X7_28 (v := nI (if 22 ≠ 0 then (22 - 1) else 29)) hC hw rfl dX7_restore_37 ?_
    refine q_top (y := nI 21) rfl ?_
    refine q_aald hC hw (i := 21) (by decide) dX7_restore_40 ?_
    refine lv_astore_n (lv' := [(1, .ref (a 51)), (0, .ref (a 68))]) hC.1 hC.2.1 dX7_restore_41 rfl hl (by decide) rfl (fun ls hl => ?_)
    refine lv_aload_n hC.1 hC.2.1 dX7_restore_42 rfl (lv_at hl 1 rfl) ?_
    refine gf_X7_16 hC hw dX7_restore_43 ?_
    refine lv_aload_n hC.1 hC.2.1 dX7_restore_46 rfl (lv_at hl 0 rfl) ?_
    refine lv_iconst (v := nI 0) hC.1 hC.2.1 dX7_restore_47 (by decide) ?_
    refine q_ald (Wf := XW E a) (v := σ 51 0) 61 rfl (by decide) hC hw (by omega) rfl dX7_restore_48 ?_
    refine pf_X7_32 hC hw dX7_restore_49 (fun H locs hw => ?_)
    have hw : Wst E (XW E a) (sr (sr σ 0 (upd (upd (σ 0) 3 (nI (if 22 ≠ 0 then (22 - 1) else 29))) 4 (nI (kp - 1)))) 0 (upd (upd (upd (σ 0) 3 (nI (if 22 ≠ 0 then (22 - 1) else 29))) 4 (nI (kp - 1))) 0 (σ 51 0))) A s.heap H locs := hw
    have hst_ : sr (sr σ 0 (upd (upd (σ 0) 3 (nI (if 22 ≠ 0 then (22 - 1) else 29))) 4 (nI (kp - 1)))) 0 (upd (upd (upd (σ 0) 3 (nI (if 22 ≠ 0 then (22 - 1) else 29))) 4 (nI (kp - 1))) 0 (σ 51 0)) = sr σ 0 (upd (upd (upd (σ 0) 0 (σ 51 0)) 3 (nI (if 22 ≠ 0 then (22 - 1) else 29))) 4 (nI (kp - 1))) := by
      funext j_ x_
      by_cases e0 : j_ = 0
      · subst e0
        by_cases y0 : x_ = 0
        · subst y0; rfl
        · by_cases y3 : x_ = 3
          · subst y3; rfl
          · by_cases y4 : x_ = 4
            · subst y4; rfl
            · simp [sr, upd, y0, y3, y4]
      · simp only [sr, e0, if_false]
    rw [hst_] at hw
    refine lv_aload_n hC.1 hC.2.1 dX7_restore_52 rfl (lv_at hl 1 rfl) ?_
    refine gf_X7_20 hC hw dX7_restore_53 ?_
    refine lv_aload_n hC.1 hC.2.1 dX7_restore_56 rfl (lv_at hl 0 rfl) ?_
    refine lv_iconst (v := nI 1) hC.1 hC.2.1 dX7_restore_57 (by decide) ?_
    refine q_ald (Wf := XW E a) (v := σ 51 1) 61 rfl (by decide) hC hw (by omega) rfl dX7_restore_58 ?_
    refine pf_X7_37 hC hw dX7_restore_59 (fun H locs hw => ?_)
    have hw : Wst E (XW E a) (sr (sr σ 0 (upd (upd (upd (σ 0) 0 (σ 51 0)) 3 (nI (if 22 ≠ 0 then (22 - 1) else 29))) 4 (nI (kp - 1)))) 0 (upd (upd (upd (upd (σ 0) 0 (σ 51 0)) 3 (nI (if 22 ≠ 0 then (22 - 1) else 29))) 4 (nI (kp - 1))) 1 (σ 51 1))) A s.heap H locs := hw
    have hst_ : sr (sr σ 0 (upd (upd (upd (σ 0) 0 (σ 51 0)) 3 (nI (if 22 ≠ 0 then (22 - 1) else 29))) 4 (nI (kp - 1)))) 0 (upd (upd (upd (upd (σ 0) 0 (σ 51 0)) 3 (nI (if 22 ≠ 0 then (22 - 1) else 29))) 4 (nI (kp - 1))) 1 (σ 51 1)) = sr σ 0 (upd (upd (upd (upd (σ 0) 0 (σ 51 0)) 1 (σ 51 1)) 3 (nI (if 22 ≠ 0 then (22 - 1) else 29))) 4 (nI (kp - 1))) := by
      funext j_ x_
      by_cases e0 : j_ = 0
      · subst e0
        by_cases y0 : x_ = 0
        · subst y0; rfl
        · by_cases y1 : x_ = 1
          · subst y1; rfl
          · by_cases y3 : x_ = 3
            · subst y3; rfl
            · by_cases y4 : x_ = 4
              · subst y4; rfl
              · simp [sr, upd, y0, y1, y3, y4]
      · simp only [sr, e0, if_false]
    rw [hst_] at hw
    refine lv_aload_n hC.1 hC.2.1 dX7_restore_62 rfl (lv_at hl 1 rfl) ?_
    refine gf_X7_20 hC hw dX7_restore_63 ?_
    refine lv_aload_n hC.1 hC.2.1 dX7_restore_66 rfl (lv_at hl 0 rfl) ?_
    refine lv_iconst (v := nI 2) hC.1 hC.2.1 dX7_restore_67 (by decide) ?_
    refine q_ald (Wf := XW E a) (v := σ 51 2) 61 rfl (by decide) hC hw (by omega) rfl dX7_restore_68 ?_
    refine pf_X7_40 hC hw dX7_restore_69 (fun H locs hw => ?_)
    have hw : Wst E (XW E a) (sr (sr σ 0 (upd (upd (upd (upd (σ 0) 0 (σ 51 0)) 1 (σ 51 1)) 3 (nI (if 22 ≠ 0 then (22 - 1) else 29))) 4 (nI (kp - 1)))) 0 (upd (upd (upd (upd (upd (σ 0) 0 (σ 51 0)) 1 (σ 51 1)) 3 (nI (if 22 ≠ 0 then (22 - 1) else 29))) 4 (nI (kp - 1))) 2 (σ 51 2))) A s.heap H locs := hw
    have hst_ : sr (sr σ 0 (upd (upd (upd (upd (σ 0) 0 (σ 51 0)) 1 (σ 51 1)) 3 (nI (if 22 ≠ 0 then (22 - 1) else 29))) 4 (nI (kp - 1)))) 0 (upd (upd (upd (upd (upd (σ 0) 0 (σ 51 0)) 1 (σ 51 1)) 3 (nI (if 22 ≠ 0 then (22 - 1) else 29))) 4 (nI (kp - 1))) 2 (σ 51 2)) = sr σ 0 (upd (upd (upd (upd (upd (σ 0) 0 (σ 51 0)) 1 (σ 51 1)) 2 (σ 51 2)) 3 (nI (if 22 ≠ 0 then (22 - 1) else 29))) 4 (nI (kp - 1))) := by
      funext j_ x_
      by_cases e0 : j_ = 0
      · subst e0
        by_cases y0 : x_ = 0
        · subst y0; rfl
        · by_cases y1 : x_ = 1
          · subst y1; rfl
          · by_cases y2 : x_ = 2
            · subst y2; rfl
            · by_cases y3 : x_ = 3
              · subst y3; rfl
              · by_cases y4 : x_ = 4
                · subst y4; rfl
                · simp [sr, upd, y0, y1, y2, y3, y4]
      · simp only [sr, e0, if_false]
    rw [hst_] at hw
    refine lv_iconst (v := nI 3) hC.1 hC.2.1 dX7_restore_72 (by decide) ?_
    refine lv_istore_n (lv' := [(2, .int (nI 3)), (1, .ref (a 51)), (0, .ref (a 68))]) hC.1 hC.2.1 dX7_restore_73 rfl hl (by decide) rfl (fun ls hl => ?_)
    refine lv_aload_n hC.1 hC.2.1 dX7_restore_74 rfl (lv_at hl 1 rfl) ?_
    refine lv_iload_n hC.1 hC.2.1 dX7_restore_75 rfl (lv_at hl 0 rfl) ?_
    refine lv_aload_n hC.1 hC.2.1 dX7_restore_76 rfl (lv_at hl 2 rfl) ?_
    refine gf_X7_24 hC hw dX7_restore_77 ?_
    refine lv_iconst (v := nI 0) hC.1 hC.2.1 dX7_restore_80 (by decide) ?_
    refine lv_iconst (v := nI 3) hC.1 hC.2.1 dX7_restore_81 (by decide) ?_
    refine q_cpy (sp := 3) (dp := 0) (n := 3) 61 rfl 25 rfl (XW_s15 _) hC hw hl (by omega) (by omega) (by decide) (by decide) ⟨Nat.le_of_ble_eq_true rfl, Nat.le_of_ble_eq_true rfl⟩ wk2_182 dX7_restore_82 (fun H locs hw => ?_)
    have hw : Wst E (XW E a) (sr (sr σ 0 (upd (upd (upd (upd (upd (σ 0) 0 (σ 51 0)) 1 (σ 51 1)) 2 (σ 51 2)) 3 (nI (if 22 ≠ 0 then (22 - 1) else 29))) 4 (nI (kp - 1)))) 15 (va_cpy (σ 51) (σ 15) 3 0 3)) A s.heap H locs := hw
    have hst_ : sr (sr σ 0 (upd (upd (upd (upd (upd (σ 0) 0 (σ 51 0)) 1 (σ 51 1)) 2 (σ 51 2)) 3 (nI (if 22 ≠ 0 then (22 - 1) else 29))) 4 (nI (kp - 1)))) 15 (va_cpy (σ 51) (σ 15) 3 0 3) = sr (sr σ 15 (va_cpy (σ 51) (σ 15) 3 0 3)) 0 (upd (upd (upd (upd (upd (σ 0) 0 (σ 51 0)) 1 (σ 51 1)) 2 (σ 51 2)) 3 (nI (if 22 ≠ 0 then (22 - 1) else 29))) 4 (nI (kp - 1))) := by
      funext j_ x_
      by_cases e0 : j_ = 0
      · subst e0
        by_cases y0 : x_ = 0
        · subst y0; rfl
        · by_cases y1 : x_ = 1
          · subst y1; rfl
          · by_cases y2 : x_ = 2
            · subst y2; rfl
            · by_cases y3 : x_ = 3
              · subst y3; rfl
              · by_cases y4 : x_ = 4
                · subst y4; rfl
                · simp [sr, upd, y0, y1, y2, y3, y4]
      · by_cases e15 : j_ = 15
        · subst e15; rfl
        · simp only [sr, e0, e15, if_false]
    rw [hst_] at hw
    refine lv_iinc (v := nI (3 + 3)) (lv' := [(2, .int (nI (3 + 3))), (1, .ref (a 51)), (0, .ref (a 68))]) hC.1 hC.2.1 dX7_restore_85 hl (k := 0) rfl (nI_add _ _) (by decide) rfl (fun ls hl => ?_)
    refine lv_iconst (v := nI 0) hC.1 hC.2.1 dX7_restore_88 (by decide) ?_
    refine lv_istore_n (lv' := [(3, .int (nI 0)), (2, .int (nI (3 + 3))), (1, .ref (a 51)), (0, .ref (a 68))]) hC.1 hC.2.1 dX7_restore_89 rfl hl (by decide) rfl (fun ls hl => ?_)
    have L90_2 : ∀ (n : Nat), ∀ (h : Nat), (h ≤ 10) → (10 - h) < n → ∀ (H : Heap) (locs : List Loc) (ls : Array Slot), Wst E (XW E a) (sr (sr (sr σ 4 (upr (σ 51) h (σ 4))) 15 (va_cpy (σ 51) (σ 15) 3 0 3)) 0 (upd (upd (upd (upd (upd (σ 0) 0 (σ 51 0)) 1 (σ 51 1)) 2 (σ 51 2)) 3 (nI (if 22 ≠ 0 then (22 - 1) else 29))) 4 (nI (kp - 1)))) A s.heap H locs → lv_has ls 4 [(0, .ref (a 68)), (1, .ref (a 51)), (2, .int (nI (3 + 3))), (3, .int (nI h))] → W p l e ({ frames := 1, cells := 0, slots := 0, locals := 24 }) s m args below meth c H locs 0 0 Q (F0 m 90 ls []) := by
      intro n
      induction n with
      | zero => intro h hh hn; exact absurd hn (Nat.not_lt_zero _)
      | succ n ih90 =>
        intro h hh hn90 H locs ls hw hl
        refine lv_iload_n hC.1 hC.2.1 dX7_restore_90 rfl (lv_at hl 3 rfl) ?_
        refine lv_bipush (v := nI 10) hC.1 hC.2.1 dX7_restore_91 (by decide) ?_
        refine q_cmpge hC 125 (cNle (by omega) (by omega)) dX7_restore_93 (by decide) (fun (c4 : 10 ≤ h) => ?_) (fun (c4 : h < 10) => ?_)
        · have hh9 : h = 10 := by omega
          rw [hh9] at hw
          refine lv_iinc (v := nI (3 + 3 + 10)) (lv' := [(2, .int (nI (3 + 3 + 10))), (0, .ref (a 68)), (1, .ref (a 51)), (3, .int (nI h))]) hC.1 hC.2.1 dX7_restore_125 hl (k := 2) rfl (nI_add _ _) (by decide) rfl (fun ls hl => ?_)
          refine lv_aload_n hC.1 hC.2.1 dX7_restore_128 rfl (lv_at hl 2 rfl) ?_
          refine lv_iload_n hC.1 hC.2.1 dX7_restore_129 rfl (lv_at hl 0 rfl) ?_
          refine lv_aload_n hC.1 hC.2.1 dX7_restore_130 rfl (lv_at hl 1 rfl) ?_
          refine gf_X7_20 hC hw dX7_restore_131 ?_
          refine gf_X7_53 hC hw dX7_restore_134 ?_
          refine lv_iconst (v := nI 0) hC.1 hC.2.1 dX7_restore_137 (by decide) ?_
          refine lv_bipush (v := nI 24) hC.1 hC.2.1 dX7_restore_138 (by decide) ?_
          refine q_cpy (sp := (3 + 3 + 10)) (dp := 0) (n := 24) 61 rfl 21 rfl (XW_s11 _) hC hw hl (by omega) (by omega) (by decide) (by decide) ⟨Nat.le_of_ble_eq_true rfl, Nat.le_of_ble_eq_true rfl⟩ wk2_182 dX7_restore_140 (fun H locs hw => ?_)
          have hw : Wst E (XW E a) (sr (sr (sr (sr σ 4 (upr (σ 51) 10 (σ 4))) 15 (va_cpy (σ 51) (σ 15) 3 0 3)) 0 (upd (upd (upd (upd (upd (σ 0) 0 (σ 51 0)) 1 (σ 51 1)) 2 (σ 51 2)) 3 (nI (if 22 ≠ 0 then (22 - 1) else 29))) 4 (nI (kp - 1)))) 11 (va_cpy (σ 51) (σ 11) (3 + 3 + 10) 0 24)) A s.heap H locs := hw
          have hst_ : sr (sr (sr (sr σ 4 (upr (σ 51) 10 (σ 4))) 15 (va_cpy (σ 51) (σ 15) 3 0 3)) 0 (upd (upd (upd (upd (upd (σ 0) 0 (σ 51 0)) 1 (σ 51 1)) 2 (σ 51 2)) 3 (nI (if 22 ≠ 0 then (22 - 1) else 29))) 4 (nI (kp - 1)))) 11 (va_cpy (σ 51) (σ 11) (3 + 3 + 10) 0 24) = sr (sr (sr (sr σ 4 (upr (σ 51) 10 (σ 4))) 11 (va_cpy (σ 51) (σ 11) (3 + 3 + 10) 0 24)) 15 (va_cpy (σ 51) (σ 15) 3 0 3)) 0 (upd (upd (upd (upd (upd (σ 0) 0 (σ 51 0)) 1 (σ 51 1)) 2 (σ 51 2)) 3 (nI (if 22 ≠ 0 then (22 - 1) else 29))) 4 (nI (kp - 1))) := by
            funext j_ x_
            by_cases e0 : j_ = 0
            · subst e0
              by_cases y0 : x_ = 0
              · subst y0; rfl
              · by_cases y1 : x_ = 1
                · subst y1; rfl
                · by_cases y2 : x_ = 2
                  · subst y2; rfl
                  · by_cases y3 : x_ = 3
                    · subst y3; rfl
                    · by_cases y4 : x_ = 4
                      · subst y4; rfl
                      · simp [sr, upd, y0, y1, y2, y3, y4]
            · by_cases e4 : j_ = 4
              · subst e4; rfl
              · by_cases e11 : j_ = 11
                · subst e11; rfl
                · by_cases e15 : j_ = 15
                  · subst e15; rfl
                  · simp only [sr, e0, e4, e11, e15, if_false]
          rw [hst_] at hw
          refine lv_aload_n hC.1 hC.2.1 dX7_restore_143 rfl (lv_at hl 2 rfl) ?_
          refine lv_iload_n hC.1 hC.2.1 dX7_restore_144 rfl (lv_at hl 0 rfl) ?_
          refine lv_bipush (v := nI 24) hC.1 hC.2.1 dX7_restore_145 (by decide) ?_
          refine q_addN hC dX7_restore_147 ?_
          refine lv_aload_n hC.1 hC.2.1 dX7_restore_148 rfl (lv_at hl 1 rfl) ?_
          refine gf_X7_20 hC hw dX7_restore_149 ?_
          refine gf_X7_56 hC hw dX7_restore_152 ?_
          refine lv_iconst (v := nI 0) hC.1 hC.2.1 dX7_restore_155 (by decide) ?_
          refine lv_bipush (v := nI 24) hC.1 hC.2.1 dX7_restore_156 (by decide) ?_
          refine q_cpy (sp := ((3 + 3 + 10) + 24)) (dp := 0) (n := 24) 61 rfl 22 rfl (XW_s12 _) hC hw hl (by omega) (by omega) (by decide) (by decide) ⟨Nat.le_of_ble_eq_true rfl, Nat.le_of_ble_eq_true rfl⟩ wk2_182 dX7_restore_158 (fun H locs hw => ?_)
          have hw : Wst E (XW E a) (sr (sr (sr (sr (sr σ 4 (upr (σ 51) 10 (σ 4))) 11 (va_cpy (σ 51) (σ 11) (3 + 3 + 10) 0 24)) 15 (va_cpy (σ 51) (σ 15) 3 0 3)) 0 (upd (upd (upd (upd (upd (σ 0) 0 (σ 51 0)) 1 (σ 51 1)) 2 (σ 51 2)) 3 (nI (if 22 ≠ 0 then (22 - 1) else 29))) 4 (nI (kp - 1)))) 12 (va_cpy (σ 51) (σ 12) ((3 + 3 + 10) + 24) 0 24)) A s.heap H locs := hw
          have hst_ : sr (sr (sr (sr (sr σ 4 (upr (σ 51) 10 (σ 4))) 11 (va_cpy (σ 51) (σ 11) (3 + 3 + 10) 0 24)) 15 (va_cpy (σ 51) (σ 15) 3 0 3)) 0 (upd (upd (upd (upd (upd (σ 0) 0 (σ 51 0)) 1 (σ 51 1)) 2 (σ 51 2)) 3 (nI (if 22 ≠ 0 then (22 - 1) else 29))) 4 (nI (kp - 1)))) 12 (va_cpy (σ 51) (σ 12) ((3 + 3 + 10) + 24) 0 24) = sr (sr (sr (sr (sr σ 4 (upr (σ 51) 10 (σ 4))) 11 (va_cpy (σ 51) (σ 11) (3 + 3 + 10) 0 24)) 12 (va_cpy (σ 51) (σ 12) ((3 + 3 + 10) + 24) 0 24)) 15 (va_cpy (σ 51) (σ 15) 3 0 3)) 0 (upd (upd (upd (upd (upd (σ 0) 0 (σ 51 0)) 1 (σ 51 1)) 2 (σ 51 2)) 3 (nI (if 22 ≠ 0 then (22 - 1) else 29))) 4 (nI (kp - 1))) := by
            funext j_ x_
            by_cases e0 : j_ = 0
            · subst e0
              by_cases y0 : x_ = 0
              · subst y0; rfl
              · by_cases y1 : x_ = 1
                · subst y1; rfl
                · by_cases y2 : x_ = 2
                  · subst y2; rfl
                  · by_cases y3 : x_ = 3
                    · subst y3; rfl
                    · by_cases y4 : x_ = 4
                      · subst y4; rfl
                      · simp [sr, upd, y0, y1, y2, y3, y4]
            · by_cases e4 : j_ = 4
              · subst e4; rfl
              · by_cases e11 : j_ = 11
                · subst e11; rfl
                · by_cases e12 : j_ = 12
                  · subst e12; rfl
                  · by_cases e15 : j_ = 15
                    · subst e15; rfl
                    · simp only [sr, e0, e4, e11, e12, e15, if_false]
          rw [hst_] at hw
          refine lv_aload_n hC.1 hC.2.1 dX7_restore_161 rfl (lv_at hl 2 rfl) ?_
          refine lv_iload_n hC.1 hC.2.1 dX7_restore_162 rfl (lv_at hl 0 rfl) ?_
          refine lv_bipush (v := nI 48) hC.1 hC.2.1 dX7_restore_163 (by decide) ?_
          refine q_addN hC dX7_restore_165 ?_
          refine lv_aload_n hC.1 hC.2.1 dX7_restore_166 rfl (lv_at hl 1 rfl) ?_
          refine gf_X7_20 hC hw dX7_restore_167 ?_
          refine gf_X7_59 hC hw dX7_restore_170 ?_
          refine lv_iconst (v := nI 0) hC.1 hC.2.1 dX7_restore_173 (by decide) ?_
          refine lv_bipush (v := nI 24) hC.1 hC.2.1 dX7_restore_174 (by decide) ?_
          refine q_cpy (sp := ((3 + 3 + 10) + 48)) (dp := 0) (n := 24) 61 rfl 23 rfl (XW_s13 _) hC hw hl (by omega) (by omega) (by decide) (by decide) ⟨Nat.le_of_ble_eq_true rfl, Nat.le_of_ble_eq_true rfl⟩ wk2_182 dX7_restore_176 (fun H locs hw => ?_)
          have hw : Wst E (XW E a) (sr (sr (sr (sr (sr (sr σ 4 (upr (σ 51) 10 (σ 4))) 11 (va_cpy (σ 51) (σ 11) (3 + 3 + 10) 0 24)) 12 (va_cpy (σ 51) (σ 12) ((3 + 3 + 10) + 24) 0 24)) 15 (va_cpy (σ 51) (σ 15) 3 0 3)) 0 (upd (upd (upd (upd (upd (σ 0) 0 (σ 51 0)) 1 (σ 51 1)) 2 (σ 51 2)) 3 (nI (if 22 ≠ 0 then (22 - 1) else 29))) 4 (nI (kp - 1)))) 13 (va_cpy (σ 51) (σ 13) ((3 + 3 + 10) + 48) 0 24)) A s.heap H locs := hw
          have hst_ : sr (sr (sr (sr (sr (sr σ 4 (upr (σ 51) 10 (σ 4))) 11 (va_cpy (σ 51) (σ 11) (3 + 3 + 10) 0 24)) 12 (va_cpy (σ 51) (σ 12) ((3 + 3 + 10) + 24) 0 24)) 15 (va_cpy (σ 51) (σ 15) 3 0 3)) 0 (upd (upd (upd (upd (upd (σ 0) 0 (σ 51 0)) 1 (σ 51 1)) 2 (σ 51 2)) 3 (nI (if 22 ≠ 0 then (22 - 1) else 29))) 4 (nI (kp - 1)))) 13 (va_cpy (σ 51) (σ 13) ((3 + 3 + 10) + 48) 0 24) = sr (sr (sr (sr (sr (sr σ 4 (upr (σ 51) 10 (σ 4))) 11 (va_cpy (σ 51) (σ 11) (3 + 3 + 10) 0 24)) 12 (va_cpy (σ 51) (σ 12) ((3 + 3 + 10) + 24) 0 24)) 13 (va_cpy (σ 51) (σ 13) ((3 + 3 + 10) + 48) 0 24)) 15 (va_cpy (σ 51) (σ 15) 3 0 3)) 0 (upd (upd (upd (upd (upd (σ 0) 0 (σ 51 0)) 1 (σ 51 1)) 2 (σ 51 2)) 3 (nI (if 22 ≠ 0 then (22 - 1) else 29))) 4 (nI (kp - 1))) := by
            funext j_ x_
            by_cases e0 : j_ = 0
            · subst e0
              by_cases y0 : x_ = 0
              · subst y0; rfl
              · by_cases y1 : x_ = 1
                · subst y1; rfl
                · by_cases y2 : x_ = 2
                  · subst y2; rfl
                  · by_cases y3 : x_ = 3
                    · subst y3; rfl
                    · by_cases y4 : x_ = 4
                      · subst y4; rfl
                      · simp [sr, upd, y0, y1, y2, y3, y4]
            · by_cases e4 : j_ = 4
              · subst e4; rfl
              · by_cases e11 : j_ = 11
                · subst e11; rfl
                · by_cases e12 : j_ = 12
                  · subst e12; rfl
                  · by_cases e13 : j_ = 13
                    · subst e13; rfl
                    · by_cases e15 : j_ = 15
                      · subst e15; rfl
                      · simp only [sr, e0, e4, e11, e12, e13, e15, if_false]
          rw [hst_] at hw
          refine lv_aload_n hC.1 hC.2.1 dX7_restore_179 rfl (lv_at hl 2 rfl) ?_
          refine lv_iload_n hC.1 hC.2.1 dX7_restore_180 rfl (lv_at hl 0 rfl) ?_
          refine lv_bipush (v := nI 72) hC.1 hC.2.1 dX7_restore_181 (by decide) ?_
          refine q_addN hC dX7_restore_183 ?_
          refine lv_aload_n hC.1 hC.2.1 dX7_restore_184 rfl (lv_at hl 1 rfl) ?_
          refine gf_X7_20 hC hw dX7_restore_185 ?_
          refine gf_X7_62 hC hw dX7_restore_188 ?_
          refine lv_iconst (v := nI 0) hC.1 hC.2.1 dX7_restore_191 (by decide) ?_
          refine lv_bipush (v := nI 24) hC.1 hC.2.1 dX7_restore_192 (by decide) ?_
          refine q_cpy (sp := ((3 + 3 + 10) + 72)) (dp := 0) (n := 24) 61 rfl 24 rfl (XW_s14 _) hC hw hl (by omega) (by omega) (by decide) (by decide) ⟨Nat.le_of_ble_eq_true rfl, Nat.le_of_ble_eq_true rfl⟩ wk2_182 dX7_restore_194 (fun H locs hw => ?_)
          have hw : Wst E (XW E a) (sr (sr (sr (sr (sr (sr (sr σ 4 (upr (σ 51) 10 (σ 4))) 11 (va_cpy (σ 51) (σ 11) (3 + 3 + 10) 0 24)) 12 (va_cpy (σ 51) (σ 12) ((3 + 3 + 10) + 24) 0 24)) 13 (va_cpy (σ 51) (σ 13) ((3 + 3 + 10) + 48) 0 24)) 15 (va_cpy (σ 51) (σ 15) 3 0 3)) 0 (upd (upd (upd (upd (upd (σ 0) 0 (σ 51 0)) 1 (σ 51 1)) 2 (σ 51 2)) 3 (nI (if 22 ≠ 0 then (22 - 1) else 29))) 4 (nI (kp - 1)))) 14 (va_cpy (σ 51) (σ 14) ((3 + 3 + 10) + 72) 0 24)) A s.heap H locs := hw
          have hst_ : sr (sr (sr (sr (sr (sr (sr σ 4 (upr (σ 51) 10 (σ 4))) 11 (va_cpy (σ 51) (σ 11) (3 + 3 + 10) 0 24)) 12 (va_cpy (σ 51) (σ 12) ((3 + 3 + 10) + 24) 0 24)) 13 (va_cpy (σ 51) (σ 13) ((3 + 3 + 10) + 48) 0 24)) 15 (va_cpy (σ 51) (σ 15) 3 0 3)) 0 (upd (upd (upd (upd (upd (σ 0) 0 (σ 51 0)) 1 (σ 51 1)) 2 (σ 51 2)) 3 (nI (if 22 ≠ 0 then (22 - 1) else 29))) 4 (nI (kp - 1)))) 14 (va_cpy (σ 51) (σ 14) ((3 + 3 + 10) + 72) 0 24) = sr (sr (sr (sr (sr (sr (sr σ 4 (upr (σ 51) 10 (σ 4))) 11 (va_cpy (σ 51) (σ 11) (3 + 3 + 10) 0 24)) 12 (va_cpy (σ 51) (σ 12) ((3 + 3 + 10) + 24) 0 24)) 13 (va_cpy (σ 51) (σ 13) ((3 + 3 + 10) + 48) 0 24)) 14 (va_cpy (σ 51) (σ 14) ((3 + 3 + 10) + 72) 0 24)) 15 (va_cpy (σ 51) (σ 15) 3 0 3)) 0 (upd (upd (upd (upd (upd (σ 0) 0 (σ 51 0)) 1 (σ 51 1)) 2 (σ 51 2)) 3 (nI (if 22 ≠ 0 then (22 - 1) else 29))) 4 (nI (kp - 1))) := by
            funext j_ x_
            by_cases e0 : j_ = 0
            · subst e0
              by_cases y0 : x_ = 0
              · subst y0; rfl
              · by_cases y1 : x_ = 1
                · subst y1; rfl
                · by_cases y2 : x_ = 2
                  · subst y2; rfl
                  · by_cases y3 : x_ = 3
                    · subst y3; rfl
                    · by_cases y4 : x_ = 4
                      · subst y4; rfl
                      · simp [sr, upd, y0, y1, y2, y3, y4]
            · by_cases e4 : j_ = 4
              · subst e4; rfl
              · by_cases e11 : j_ = 11
                · subst e11; rfl
                · by_cases e12 : j_ = 12
                  · subst e12; rfl
                  · by_cases e13 : j_ = 13
                    · subst e13; rfl
                    · by_cases e14 : j_ = 14
                      · subst e14; rfl
                      · by_cases e15 : j_ = 15
                        · subst e15; rfl
                        · simp only [sr, e0, e4, e11, e12, e13, e14, e15, if_false]
          rw [hst_] at hw
          refine hret _ _ _ _ _ hw ?_ dX7_restore_197
          exact rfl
        · refine lv_aload_n hC.1 hC.2.1 dX7_restore_96 rfl (lv_at hl 0 rfl) ?_
          refine gf_X7_16 hC hw dX7_restore_97 ?_
          refine gf_X7_49 hC hw dX7_restore_100 ?_
          refine lv_iload_n hC.1 hC.2.1 dX7_restore_103 rfl (lv_at hl 3 rfl) ?_
          refine lv_aload_n hC.1 hC.2.1 dX7_restore_104 rfl (lv_at hl 1 rfl) ?_
          refine lv_iload_n hC.1 hC.2.1 dX7_restore_105 rfl (lv_at hl 2 rfl) ?_
          refine lv_iload_n hC.1 hC.2.1 dX7_restore_106 rfl (lv_at hl 3 rfl) ?_
          refine q_addN hC dX7_restore_107 ?_
          refine q_ald (Wf := XW E a) (v := σ 51 ((3 + 3) + h)) 61 rfl (by decide) hC hw (by omega) rfl dX7_restore_108 ?_
          refine lv_iconst (v := nI 1) hC.1 hC.2.1 dX7_restore_109 (by decide) ?_
          have J118_6 : ∀ (w5 : Int32), w5 = (if (σ 51 ((3 + 3) + h)) = 1 then (1 : Int32) else 0) → ∀ (H : Heap) (locs : List Loc) (ls : Array Slot), Wst E (XW E a) (sr (sr (sr σ 4 (upr (σ 51) h (σ 4))) 15 (va_cpy (σ 51) (σ 15) 3 0 3)) 0 (upd (upd (upd (upd (upd (σ 0) 0 (σ 51 0)) 1 (σ 51 1)) 2 (σ 51 2)) 3 (nI (if 22 ≠ 0 then (22 - 1) else 29))) 4 (nI (kp - 1)))) A s.heap H locs → lv_has ls 4 [(0, .ref (a 68)), (1, .ref (a 51)), (2, .int (nI (3 + 3))), (3, .int (nI h))] → W p l e ({ frames := 1, cells := 0, slots := 0, locals := 24 }) s m args below meth c H locs 0 0 Q (F0 m 118 ls [.int (w5), .int (nI h), .ref (a 4)]) := by
            intro w5 e6 H locs ls hw hl
            subst e6
            refine as_X4 hC hw (by omega) vz_B dX7_restore_118 (fun H locs hw => ?_)
            have hw : Wst E (XW E a) (sr (sr (sr (sr σ 4 (upr (σ 51) h (σ 4))) 15 (va_cpy (σ 51) (σ 15) 3 0 3)) 0 (upd (upd (upd (upd (upd (σ 0) 0 (σ 51 0)) 1 (σ 51 1)) 2 (σ 51 2)) 3 (nI (if 22 ≠ 0 then (22 - 1) else 29))) 4 (nI (kp - 1)))) 4 (upd (upr (σ 51) h (σ 4)) h (if (σ 51 ((3 + 3) + h)) = 1 then (1 : Int32) else 0))) A s.heap H locs := hw
            have hst_ : sr (sr (sr (sr σ 4 (upr (σ 51) h (σ 4))) 15 (va_cpy (σ 51) (σ 15) 3 0 3)) 0 (upd (upd (upd (upd (upd (σ 0) 0 (σ 51 0)) 1 (σ 51 1)) 2 (σ 51 2)) 3 (nI (if 22 ≠ 0 then (22 - 1) else 29))) 4 (nI (kp - 1)))) 4 (upd (upr (σ 51) h (σ 4)) h (if (σ 51 ((3 + 3) + h)) = 1 then (1 : Int32) else 0)) = sr (sr (sr σ 4 (upd (upr (σ 51) h (σ 4)) h (if (σ 51 ((3 + 3) + h)) = 1 then (1 : Int32) else 0))) 15 (va_cpy (σ 51) (σ 15) 3 0 3)) 0 (upd (upd (upd (upd (upd (σ 0) 0 (σ 51 0)) 1 (σ 51 1)) 2 (σ 51 2)) 3 (nI (if 22 ≠ 0 then (22 - 1) else 29))) 4 (nI (kp - 1))) := by
              funext j_ x_
              by_cases e0 : j_ = 0
              · subst e0
                by_cases y0 : x_ = 0
                · subst y0; rfl
                · by_cases y1 : x_ = 1
                  · subst y1; rfl
                  · by_cases y2 : x_ = 2
                    · subst y2; rfl
                    · by_cases y3 : x_ = 3
                      · subst y3; rfl
                      · by_cases y4 : x_ = 4
                        · subst y4; rfl
                        · simp [sr, upd, y0, y1, y2, y3, y4]
              · by_cases e4 : j_ = 4
                · subst e4; rfl
                · by_cases e15 : j_ = 15
                  · subst e15; rfl
                  · simp only [sr, e0, e4, e15, if_false]
            rw [hst_] at hw
            refine lv_iinc (v := nI (h + 1)) (lv' := [(3, .int (nI (h + 1))), (0, .ref (a 68)), (1, .ref (a 51)), (2, .int (nI (3 + 3)))]) hC.1 hC.2.1 dX7_restore_119 hl (k := 3) rfl (nI_add _ _) (by decide) rfl (fun ls hl => ?_)
            refine lv_goto (tgt := 90) hC.1 hC.2.1 dX7_restore_122 (by decide) ?_
            rw [upr_s] at hw
            exact ih90 (h + 1) (by omega) (by omega) _ _ _ hw (lv_sub hl [1, 2, 3, 0] rfl)
          refine q_cmpne hC 117 cI dX7_restore_110 (by decide) (fun (c7 : ¬ ((σ 51 ((3 + 3) + h)) = 1)) => ?_) (fun (c7 : (σ 51 ((3 + 3) + h)) = 1) => ?_)
          · refine lv_iconst (v := nI 0) hC.1 hC.2.1 dX7_restore_117 (by decide) ?_
            exact J118_6 _ (if_neg c7).symm _ _ _ hw (lv_sub hl [0, 1, 2, 3] rfl)
          · refine lv_iconst (v := nI 1) hC.1 hC.2.1 dX7_restore_113 (by decide) ?_
            refine lv_goto (tgt := 118) hC.1 hC.2.1 dX7_restore_114 (by decide) ?_
            exact J118_6 _ (if_pos c7).symm _ _ _ hw (lv_sub hl [0, 1, 2, 3] rfl)
    have hst_ : sr (sr σ 15 (va_cpy (σ 51) (σ 15) 3 0 3)) 0 (upd (upd (upd (upd (upd (σ 0) 0 (σ 51 0)) 1 (σ 51 1)) 2 (σ 51 2)) 3 (nI (if 22 ≠ 0 then (22 - 1) else 29))) 4 (nI (kp - 1))) = sr (sr (sr σ 4 (upr (σ 51) 0 (σ 4))) 15 (va_cpy (σ 51) (σ 15) 3 0 3)) 0 (upd (upd (upd (upd (upd (σ 0) 0 (σ 51 0)) 1 (σ 51 1)) 2 (σ 51 2)) 3 (nI (if 22 ≠ 0 then (22 - 1) else 29))) 4 (nI (kp - 1))) := by
      funext j_ x_
      by_cases e0 : j_ = 0
      · subst e0
        by_cases y0 : x_ = 0
        · subst y0; rfl
        · by_cases y1 : x_ = 1
          · subst y1; rfl
          · by_cases y2 : x_ = 2
            · subst y2; rfl
            · by_cases y3 : x_ = 3
              · subst y3; rfl
              · by_cases y4 : x_ = 4
                · subst y4; rfl
                · simp [sr, upd, y0, y1, y2, y3, y4]
      · by_cases e4 : j_ = 4
        · subst e4; show σ 4 x_ = upr (σ 51) 0 (σ 4) x_; rw [upr_0]
        · by_cases e15 : j_ = 15
          · subst e15; rfl
          · simp only [sr, e0, e4, e15, if_false]
    rw [hst_] at hw
    exact L90_2 _ 0 (by omega) (Nat.lt_succ_self _) _ _ _ hw (lv_sub hl [3, 2, 1, 0] rfl)
  refine q_ifne hC 13 (cN0 (by omega)) dX7_restore_5 (by decide) (fun (c8 : 22 ≠ 0) => ?_) (fun (c8 : 22 = 0) => ?_)
  · refine lv_aload_n hC.1 hC.2.1 dX7_restore_13 rfl (lv_at hl 0 rfl) ?_
    refine gf_X7_28 (v := nI 22) hC hw hnx dX7_restore_14 ?_
    refine lv_iconst (v := nI 1) hC.1 hC.2.1 dX7_restore_17 (by decide) ?_
    refine q_subN hC (by omega) dX7_restore_18 ?_
    exact J19_2 _ (by (rw [if_pos c8]) <;> rfl) _ _ _ hw (lv_sub hl [0] rfl)
  · refine lv_bipush (v := nI 29) hC.1 hC.2.1 dX7_restore_8 (by decide) ?_
    refine lv_goto (tgt := 19) hC.1 hC.2.1 dX7_restore_10 (by decide) ?_
    exact J19_2 _ (by (rw [if_neg (fun q => q c8)]) <;> rfl) _ _ _ hw (lv_sub hl [0] rfl)
set_option maxHeartbeats 4000000 in
set_option maxRecDepth 100000 in
theorem tX7_restore_k23 (l : Launch) (E : EV) (a : Nat → Nat) (σ : St) (kp : Nat) (hnx : σ 0 3 = nI 23) (hkp : σ 0 4 = nI kp) (hk30 : kp ≤ 30) (hk1 : 1 ≤ kp) : MV l E (XW E a) yX7_restore (Cond.code yX7_restore cX7_restore 4 none) ({ frames := 1, cells := 0, slots := 0, locals := 24 }) [.ref (a 68)] σ (fun u_ => u_ = sr (sr (sr (sr (sr (sr (sr σ 4 (upr (σ 52) 10 (σ 4))) 11 (va_cpy (σ 52) (σ 11) 16 0 24)) 12 (va_cpy (σ 52) (σ 12) 40 0 24)) 13 (va_cpy (σ 52) (σ 13) 64 0 24)) 14 (va_cpy (σ 52) (σ 14) 88 0 24)) 15 (va_cpy (σ 52) (σ 15) 3 0 3)) 0 (upd (upd (upd (upd (upd (σ 0) 0 ((σ 52) 0)) 1 ((σ 52) 1)) 2 ((σ 52) 2)) 3 (nI (if 23 ≠ 0 then 23 - 1 else 29))) 4 (nI (kp - 1)))) := by
  refine MV.mk (by decide +kernel) (Nat.le_of_ble_eq_true rfl) ?_
  intro p e s m args below meth c ls A Q hret hC hw hl
  have hC : Cxt E p s m args meth c cX7_restore 4 none RX7 A := hC
  have hl : lv_has ls 4 [(0, .ref (a 68))] := hl
  refine lv_aload_n hC.1 hC.2.1 dX7_restore_0 rfl (lv_at hl 0 rfl) ?_
  refine lv_aload_n hC.1 hC.2.1 dX7_restore_1 rfl (lv_at hl 0 rfl) ?_
  refine gf_X7_28 (v := nI 23) hC hw hnx dX7_restore_2 ?_
  have J19_2 : ∀ (w1 : Nat), w1 = (if 23 ≠ 0 then (23 - 1) else 29) → ∀ (H : Heap) (locs : List Loc) (ls : Array Slot), Wst E (XW E a) (σ) A s.heap H locs → lv_has ls 4 [(0, .ref (a 68))] → W p l e ({ frames := 1, cells := 0, slots := 0, locals := 24 }) s m args below meth c H locs 0 0 Q (F0 m 19 ls [.int (nI w1), .ref (a 68)]) := by
    intro w1 e2 H locs ls hw hl
    subst e2
    refine pf_X7_28 hC hw dX7_restore_19 (fun H locs hw => ?_)
    have hw : Wst E (XW E a) (sr σ 0 (upd (σ 0) 3 (nI (if 23 ≠ 0 then (23 - 1) else 29)))) A s.heap H locs := hw
    refine lv_aload_n hC.1 hC.2.1 dX7_restore_22 rfl (lv_at hl 0 rfl) ?_
    refine lv_dup hC.1 hC.2.1 dX7_restore_23 rfl ?_
    refine gf_X7_65 (v := nI kp) hC hw hkp dX7_restore_24 ?_
    refine lv_iconst (v := nI 1) hC.1 hC.2.1 dX7_restore_27 (by decide) ?_
    refine q_subN hC (by omega) dX7_restore_28 ?_
    refine pf_X7_65 hC hw dX7_restore_29 (fun H locs hw => ?_)
    have hw : Wst E (XW E a) (sr (sr σ 0 (upd (σ 0) 3 (nI (if 23 ≠ 0 then (23 - 1) else 29)))) 0 (upd (upd (σ 0) 3 (nI (if 23 ≠ 0 then (23 - 1) else 29))) 4 (nI (kp - 1)))) A s.heap H locs := hw
    have hst_ : sr (sr σ 0 (upd (σ 0) 3 (nI (if 23 ≠ 0 then (23 - 1) else 29)))) 0 (upd (upd (σ 0) 3 (nI (if 23 ≠ 0 then (23 - 1) else 29))) 4 (nI (kp - 1))) = sr σ 0 (upd (upd (σ 0) 3 (nI (if 23 ≠ 0 then (23 - 1) else 29))) 4 (nI (kp - 1))) := by
      funext j_ x_
      by_cases e0 : j_ = 0
      · subst e0
        by_cases y3 : x_ = 3
        · subst y3; rfl
        · by_cases y4 : x_ = 4
          · subst y4; rfl
          · simp [sr, upd, y3, y4]
      · simp only [sr, e0, if_false]
    rw [hst_] at hw
    refine lv_aload_n hC.1 hC.2.1 dX7_restore_32 rfl (lv_at hl 0 rfl) ?_
    refine gf_X7_13 hC hw dX7_restore_33 ?_
    refine lv_aload_n hC.1 hC.2.1 dX7_restore_36 rfl (lv_at hl 0 rfl) ?_
    refine gf_X7_28 (v := nI (if 23 ≠ 0 then (23 - 1) else 29)) hC hw rfl dX7_restore_37 ?_
    refine q_top (y := nI 22) rfl ?_
    refine q_aald hC hw (i := 22) (by decide) dX7_restore_40 ?_
    refine lv_astore_n (lv' := [(1, .ref (a 52)), (0, .ref (a 68))]) hC.1 hC.2.1 dX7_restore_41 rfl hl (by decide) rfl (fun ls hl => ?_)
    refine lv_aload_n hC.1 hC.2.1 dX7_restore_42 rfl (lv_at hl 1 rfl) ?_
    refine gf_X7_16 hC hw dX7_restore_43 ?_
    refine lv_aload_n hC.1 hC.2.1 dX7_restore_46 rfl (lv_at hl 0 rfl) ?_
    refine lv_iconst (v := nI 0) hC.1 hC.2.1 dX7_restore_47 (by decide) ?_
    refine q_ald (Wf := XW E a) (v := σ 52 0) 62 rfl (by decide) hC hw (by omega) rfl dX7_restore_48 ?_
    refine pf_X7_32 hC hw dX7_restore_49 (fun H locs hw => ?_)
    have hw : Wst E (XW E a) (sr (sr σ 0 (upd (upd (σ 0) 3 (nI (if 23 ≠ 0 then (23 - 1) else 29))) 4 (nI (kp - 1)))) 0 (upd (upd (upd (σ 0) 3 (nI (if 23 ≠ 0 then (23 - 1) else 29))) 4 (nI (kp - 1))) 0 (σ 52 0))) A s.heap H locs := hw
    have hst_ : sr (sr σ 0 (upd (upd (σ 0) 3 (nI (if 23 ≠ 0 then (23 - 1) else 29))) 4 (nI (kp - 1)))) 0 (upd (upd (upd (σ 0) 3 (nI (if 23 ≠ 0 then (23 - 1) else 29))) 4 (nI (kp - 1))) 0 (σ 52 0)) = sr σ 0 (upd (upd (upd (σ 0) 0 (σ 52 0)) 3 (nI (if 23 ≠ 0 then (23 - 1) else 29))) 4 (nI (kp - 1))) := by
      funext j_ x_
      by_cases e0 : j_ = 0
      · subst e0
        by_cases y0 : x_ = 0
        · subst y0; rfl
        · by_cases y3 : x_ = 3
          · subst y3; rfl
          · by_cases y4 : x_ = 4
            · subst y4; rfl
            · simp [sr, upd, y0, y3, y4]
      · simp only [sr, e0, if_false]
    rw [hst_] at hw
    refine lv_aload_n hC.1 hC.2.1 dX7_restore_52 rfl (lv_at hl 1 rfl) ?_
    refine gf_X7_20 hC hw dX7_restore_53 ?_
    refine lv_aload_n hC.1 hC.2.1 dX7_restore_56 rfl (lv_at hl 0 rfl) ?_
    refine lv_iconst (v := nI 1) hC.1 hC.2.1 dX7_restore_57 (by decide) ?_
    refine q_ald (Wf := XW E a) (v := σ 52 1) 62 rfl (by decide) hC hw (by omega) rfl dX7_restore_58 ?_
    refine pf_X7_37 hC hw dX7_restore_59 (fun H locs hw => ?_)
    have hw : Wst E (XW E a) (sr (sr σ 0 (upd (upd (upd (σ 0) 0 (σ 52 0)) 3 (nI (if 23 ≠ 0 then (23 - 1) else 29))) 4 (nI (kp - 1)))) 0 (upd (upd (upd (upd (σ 0) 0 (σ 52 0)) 3 (nI (if 23 ≠ 0 then (23 - 1) else 29))) 4 (nI (kp - 1))) 1 (σ 52 1))) A s.heap H locs := hw
    have hst_ : sr (sr σ 0 (upd (upd (upd (σ 0) 0 (σ 52 0)) 3 (nI (if 23 ≠ 0 then (23 - 1) else 29))) 4 (nI (kp - 1)))) 0 (upd (upd (upd (upd (σ 0) 0 (σ 52 0)) 3 (nI (if 23 ≠ 0 then (23 - 1) else 29))) 4 (nI (kp - 1))) 1 (σ 52 1)) = sr σ 0 (upd (upd (upd (upd (σ 0) 0 (σ 52 0)) 1 (σ 52 1)) 3 (nI (if 23 ≠ 0 then (23 - 1) else 29))) 4 (nI (kp - 1))) := by
      funext j_ x_
      by_cases e0 : j_ = 0
      · subst e0
        by_cases y0 : x_ = 0
        · subst y0; rfl
        · by_cases y1 : x_ = 1
          · subst y1; rfl
          · by_cases y3 : x_ = 3
            · subst y3; rfl
            · by_cases y4 : x_ = 4
              · subst y4; rfl
              · simp [sr, upd, y0, y1, y3, y4]
      · simp only [sr, e0, if_false]
    rw [hst_] at hw
    refine lv_aload_n hC.1 hC.2.1 dX7_restore_62 rfl (lv_at hl 1 rfl) ?_
    refine gf_X7_20 hC hw dX7_restore_63 ?_
    refine lv_aload_n hC.1 hC.2.1 dX7_restore_66 rfl (lv_at hl 0 rfl) ?_
    refine lv_iconst (v := nI 2) hC.1 hC.2.1 dX7_restore_67 (by decide) ?_
    refine q_ald (Wf := XW E a) (v := σ 52 2) 62 rfl (by decide) hC hw (by omega) rfl dX7_restore_68 ?_
    refine pf_X7_40 hC hw dX7_restore_69 (fun H locs hw => ?_)
    have hw : Wst E (XW E a) (sr (sr σ 0 (upd (upd (upd (upd (σ 0) 0 (σ 52 0)) 1 (σ 52 1)) 3 (nI (if 23 ≠ 0 then (23 - 1) else 29))) 4 (nI (kp - 1)))) 0 (upd (upd (upd (upd (upd (σ 0) 0 (σ 52 0)) 1 (σ 52 1)) 3 (nI (if 23 ≠ 0 then (23 - 1) else 29))) 4 (nI (kp - 1))) 2 (σ 52 2))) A s.heap H locs := hw
    have hst_ : sr (sr σ 0 (upd (upd (upd (upd (σ 0) 0 (σ 52 0)) 1 (σ 52 1)) 3 (nI (if 23 ≠ 0 then (23 - 1) else 29))) 4 (nI (kp - 1)))) 0 (upd (upd (upd (upd (upd (σ 0) 0 (σ 52 0)) 1 (σ 52 1)) 3 (nI (if 23 ≠ 0 then (23 - 1) else 29))) 4 (nI (kp - 1))) 2 (σ 52 2)) = sr σ 0 (upd (upd (upd (upd (upd (σ 0) 0 (σ 52 0)) 1 (σ 52 1)) 2 (σ 52 2)) 3 (nI (if 23 ≠ 0 then (23 - 1) else 29))) 4 (nI (kp - 1))) := by
      funext j_ x_
      by_cases e0 : j_ = 0
      · subst e0
        by_cases y0 : x_ = 0
        · subst y0; rfl
        · by_cases y1 : x_ = 1
          · subst y1; rfl
          · by_cases y2 : x_ = 2
            · subst y2; rfl
            · by_cases y3 : x_ = 3
              · subst y3; rfl
              · by_cases y4 : x_ = 4
                · subst y4; rfl
                · simp [sr, upd, y0, y1, y2, y3, y4]
      · simp only [sr, e0, if_false]
    rw [hst_] at hw
    refine lv_iconst (v := nI 3) hC.1 hC.2.1 dX7_restore_72 (by decide) ?_
    refine lv_istore_n (lv' := [(2, .int (nI 3)), (1, .ref (a 52)), (0, .ref (a 68))]) hC.1 hC.2.1 dX7_restore_73 rfl hl (by decide) rfl (fun ls hl => ?_)
    refine lv_aload_n hC.1 hC.2.1 dX7_restore_74 rfl (lv_at hl 1 rfl) ?_
    refine lv_iload_n hC.1 hC.2.1 dX7_restore_75 rfl (lv_at hl 0 rfl) ?_
    refine lv_aload_n hC.1 hC.2.1 dX7_restore_76 rfl (lv_at hl 2 rfl) ?_
    refine gf_X7_24 hC hw dX7_restore_77 ?_
    refine lv_iconst (v := nI 0) hC.1 hC.2.1 dX7_restore_80 (by decide) ?_
    refine lv_iconst (v := nI 3) hC.1 hC.2.1 dX7_restore_81 (by decide) ?_
    refine q_cpy (sp := 3) (dp := 0) (n := 3) 62 rfl 25 rfl (XW_s15 _) hC hw hl (by omega) (by omega) (by decide) (by decide) ⟨Nat.le_of_ble_eq_true rfl, Nat.le_of_ble_eq_true rfl⟩ wk2_182 dX7_restore_82 (fun H locs hw => ?_)
    have hw : Wst E (XW E a) (sr (sr σ 0 (upd (upd (upd (upd (upd (σ 0) 0 (σ 52 0)) 1 (σ 52 1)) 2 (σ 52 2)) 3 (nI (if 23 ≠ 0 then (23 - 1) else 29))) 4 (nI (kp - 1)))) 15 (va_cpy (σ 52) (σ 15) 3 0 3)) A s.heap H locs := hw
    have hst_ : sr (sr σ 0 (upd (upd (upd (upd (upd (σ 0) 0 (σ 52 0)) 1 (σ 52 1)) 2 (σ 52 2)) 3 (nI (if 23 ≠ 0 then (23 - 1) else 29))) 4 (nI (kp - 1)))) 15 (va_cpy (σ 52) (σ 15) 3 0 3) = sr (sr σ 15 (va_cpy (σ 52) (σ 15) 3 0 3)) 0 (upd (upd (upd (upd (upd (σ 0) 0 (σ 52 0)) 1 (σ 52 1)) 2 (σ 52 2)) 3 (nI (if 23 ≠ 0 then (23 - 1) else 29))) 4 (nI (kp - 1))) := by
      funext j_ x_
      by_cases e0 : j_ = 0
      · subst e0
        by_cases y0 : x_ = 0
        · subst y0; rfl
        · by_cases y1 : x_ = 1
          · subst y1; rfl
          · by_cases y2 : x_ = 2
            · subst y2; rfl
            · by_cases y3 : x_ = 3
              · subst y3; rfl
              · by_cases y4 : x_ = 4
                · subst y4; rfl
                · simp [sr, upd, y0, y1, y2, y3, y4]
      · by_cases e15 : j_ = 15
        · subst e15; rfl
        · simp only [sr, e0, e15, if_false]
    rw [hst_] at hw
    refine lv_iinc (v := nI (3 + 3)) (lv' := [(2, .int (nI (3 + 3))), (1, .ref (a 52)), (0, .ref (a 68))]) hC.1 hC.2.1 dX7_restore_85 hl (k := 0) rfl (nI_add _ _) (by decide) rfl (fun ls hl => ?_)
    refine lv_iconst (v := nI 0) hC.1 hC.2.1 dX7_restore_88 (by decide) ?_
    refine lv_istore_n (lv' := [(3, .int (nI 0)), (2, .int (nI (3 + 3))), (1, .ref (a 52)), (0, .ref (a 68))]) hC.1 hC.2.1 dX7_restore_89 rfl hl (by decide) rfl (fun ls hl => ?_)
    have L90_2 : ∀ (n : Nat), ∀ (h : Nat), (h ≤ 10) → (10 - h) < n → ∀ (H : Heap) (locs : List Loc) (ls : Array Slot), Wst E (XW E a) (sr (sr (sr σ 4 (upr (σ 52) h (σ 4))) 15 (va_cpy (σ 52) (σ 15) 3 0 3)) 0 (upd (upd (upd (upd (upd (σ 0) 0 (σ 52 0)) 1 (σ 52 1)) 2 (σ 52 2)) 3 (nI (if 23 ≠ 0 then (23 - 1) else 29))) 4 (nI (kp - 1)))) A s.heap H locs → lv_has ls 4 [(0, .ref (a 68)), (1, .ref (a 52)), (2, .int (nI (3 + 3))), (3, .int (nI h))] → W p l e ({ frames := 1, cells := 0, slots := 0, locals := 24 }) s m args below meth c H locs 0 0 Q (F0 m 90 ls []) := by
      intro n
      induction n with
      | zero => intro h hh hn; exact absurd hn (Nat.not_lt_zero _)
      | succ n ih90 =>
        intro h hh hn90 H locs ls hw hl
        refine lv_iload_n hC.1 hC.2.1 dX7_restore_90 rfl (lv_at hl 3 rfl) ?_
        refine lv_bipush (v := nI 10) hC.1 hC.2.1 dX7_restore_91 (by decide) ?_
        refine q_cmpge hC 125 (cNle (by omega) (by omega)) dX7_restore_93 (by decide) (fun (c4 : 10 ≤ h) => ?_) (fun (c4 : h < 10) => ?_)
        · have hh9 : h = 10 := by omega
          rw [hh9] at hw
          refine lv_iinc (v := nI (3 + 3 + 10)) (lv' := [(2, .int (nI (3 + 3 + 10))), (0, .ref (a 68)), (1, .ref (a 52)), (3, .int (nI h))]) hC.1 hC.2.1 dX7_restore_125 hl (k := 2) rfl (nI_add _ _) (by decide) rfl (fun ls hl => ?_)
          refine lv_aload_n hC.1 hC.2.1 dX7_restore_128 rfl (lv_at hl 2 rfl) ?_
          refine lv_iload_n hC.1 hC.2.1 dX7_restore_129 rfl (lv_at hl 0 rfl) ?_
          refine lv_aload_n hC.1 hC.2.1 dX7_restore_130 rfl (lv_at hl 1 rfl) ?_
          refine gf_X7_20 hC hw dX7_restore_131 ?_
          refine gf_X7_53 hC hw dX7_restore_134 ?_
          refine lv_iconst (v := nI 0) hC.1 hC.2.1 dX7_restore_137 (by decide) ?_
          refine lv_bipush (v := nI 24) hC.1 hC.2.1 dX7_restore_138 (by decide) ?_
          refine q_cpy (sp := (3 + 3 + 10)) (dp := 0) (n := 24) 62 rfl 21 rfl (XW_s11 _) hC hw hl (by omega) (by omega) (by decide) (by decide) ⟨Nat.le_of_ble_eq_true rfl, Nat.le_of_ble_eq_true rfl⟩ wk2_182 dX7_restore_140 (fun H locs hw => ?_)
          have hw : Wst E (XW E a) (sr (sr (sr (sr σ 4 (upr (σ 52) 10 (σ 4))) 15 (va_cpy (σ 52) (σ 15) 3 0 3)) 0 (upd (upd (upd (upd (upd (σ 0) 0 (σ 52 0)) 1 (σ 52 1)) 2 (σ 52 2)) 3 (nI (if 23 ≠ 0 then (23 - 1) else 29))) 4 (nI (kp - 1)))) 11 (va_cpy (σ 52) (σ 11) (3 + 3 + 10) 0 24)) A s.heap H locs := hw
          have hst_ : sr (sr (sr (sr σ 4 (upr (σ 52) 10 (σ 4))) 15 (va_cpy (σ 52) (σ 15) 3 0 3)) 0 (upd (upd (upd (upd (upd (σ 0) 0 (σ 52 0)) 1 (σ 52 1)) 2 (σ 52 2)) 3 (nI (if 23 ≠ 0 then (23 - 1) else 29))) 4 (nI (kp - 1)))) 11 (va_cpy (σ 52) (σ 11) (3 + 3 + 10) 0 24) = sr (sr (sr (sr σ 4 (upr (σ 52) 10 (σ 4))) 11 (va_cpy (σ 52) (σ 11) (3 + 3 + 10) 0 24)) 15 (va_cpy (σ 52) (σ 15) 3 0 3)) 0 (upd (upd (upd (upd (upd (σ 0) 0 (σ 52 0)) 1 (σ 52 1)) 2 (σ 52 2)) 3 (nI (if 23 ≠ 0 then (23 - 1) else 29))) 4 (nI (kp - 1))) := by
            funext j_ x_
            by_cases e0 : j_ = 0
            · subst e0
              by_cases y0 : x_ = 0
              · subst y0; rfl
              · by_cases y1 : x_ = 1
                · subst y1; rfl
                · by_cases y2 : x_ = 2
                  · subst y2; rfl
                  · by_cases y3 : x_ = 3
                    · subst y3; rfl
                    · by_cases y4 : x_ = 4
                      · subst y4; rfl
                      · simp [sr, upd, y0, y1, y2, y3, y4]
            · by_cases e4 : j_ = 4
              · subst e4; rfl
              · by_cases e11 : j_ = 11
                · subst e11; rfl
                · by_cases e15 : j_ = 15
                  · subst e15; rfl
                  · simp only [sr, e0, e4, e11, e15, if_false]
          rw [hst_] at hw
          refine lv_aload_n hC.1 hC.2.1 dX7_restore_143 rfl (lv_at hl 2 rfl) ?_
          refine lv_iload_n hC.1 hC.2.1 dX7_restore_144 rfl (lv_at hl 0 rfl) ?_
          refine lv_bipush (v := nI 24) hC.1 hC.2.1 dX7_restore_145 (by decide) ?_
          refine q_addN hC dX7_restore_147 ?_
          refine lv_aload_n hC.1 hC.2.1 dX7_restore_148 rfl (lv_at hl 1 rfl) ?_
          refine gf_X7_20 hC hw dX7_restore_149 ?_
          refine gf_X7_56 hC hw dX7_restore_152 ?_
          refine lv_iconst (v := nI 0) hC.1 hC.2.1 dX7_restore_155 (by decide) ?_
          refine lv_bipush (v := nI 24) hC.1 hC.2.1 dX7_restore_156 (by decide) ?_
          refine q_cpy (sp := ((3 + 3 + 10) + 24)) (dp := 0) (n := 24) 62 rfl 22 rfl (XW_s12 _) hC hw hl (by omega) (by omega) (by decide) (by decide) ⟨Nat.le_of_ble_eq_true rfl, Nat.le_of_ble_eq_true rfl⟩ wk2_182 dX7_restore_158 (fun H locs hw => ?_)
          have hw : Wst E (XW E a) (sr (sr (sr (sr (sr σ 4 (upr (σ 52) 10 (σ 4))) 11 (va_cpy (σ 52) (σ 11) (3 + 3 + 10) 0 24)) 15 (va_cpy (σ 52) (σ 15) 3 0 3)) 0 (upd (upd (upd (upd (upd (σ 0) 0 (σ 52 0)) 1 (σ 52 1)) 2 (σ 52 2)) 3 (nI (if 23 ≠ 0 then (23 - 1) else 29))) 4 (nI (kp - 1)))) 12 (va_cpy (σ 52) (σ 12) ((3 + 3 + 10) + 24) 0 24)) A s.heap H locs := hw
          have hst_ : sr (sr (sr (sr (sr σ 4 (upr (σ 52) 10 (σ 4))) 11 (va_cpy (σ 52) (σ 11) (3 + 3 + 10) 0 24)) 15 (va_cpy (σ 52) (σ 15) 3 0 3)) 0 (upd (upd (upd (upd (upd (σ 0) 0 (σ 52 0)) 1 (σ 52 1)) 2 (σ 52 2)) 3 (nI (if 23 ≠ 0 then (23 - 1) else 29))) 4 (nI (kp - 1)))) 12 (va_cpy (σ 52) (σ 12) ((3 + 3 + 10) + 24) 0 24) = sr (sr (sr (sr (sr σ 4 (upr (σ 52) 10 (σ 4))) 11 (va_cpy (σ 52) (σ 11) (3 + 3 + 10) 0 24)) 12 (va_cpy (σ 52) (σ 12) ((3 + 3 + 10) + 24) 0 24)) 15 (va_cpy (σ 52) (σ 15) 3 0 3)) 0 (upd (upd (upd (upd (upd (σ 0) 0 (σ 52 0)) 1 (σ 52 1)) 2 (σ 52 2)) 3 (nI (if 23 ≠ 0 then (23 - 1) else 29))) 4 (nI (kp - 1))) := by
            funext j_ x_
            by_cases e0 : j_ = 0
            · subst e0
              by_cases y0 : x_ = 0
              · subst y0; rfl
              · by_cases y1 : x_ = 1
                · subst y1; rfl
                · by_cases y2 : x_ = 2
                  · subst y2; rfl
                  · by_cases y3 : x_ = 3
                    · subst y3; rfl
                    · by_cases y4 : x_ = 4
                      · subst y4; rfl
                      · simp [sr, upd, y0, y1, y2, y3, y4]
            · by_cases e4 : j_ = 4
              · subst e4; rfl
              · by_cases e11 : j_ = 11
                · subst e11; rfl
                · by_cases e12 : j_ = 12
                  · subst e12; rfl
                  · by_cases e15 : j_ = 15
                    · subst e15; rfl
                    · simp only [sr, e0, e4, e11, e12, e15, if_false]
          rw [hst_] at hw
          refine lv_aload_n hC.1 hC.2.1 dX7_restore_161 rfl (lv_at hl 2 rfl) ?_
          refine lv_iload_n hC.1 hC.2.1 dX7_restore_162 rfl (lv_at hl 0 rfl) ?_
          refine lv_bipush (v := nI 48) hC.1 hC.2.1 dX7_restore_163 (by decide) ?_
          refine q_addN hC dX7_restore_165 ?_
          refine lv_aload_n hC.1 hC.2.1 dX7_restore_166 rfl (lv_at hl 1 rfl) ?_
          refine gf_X7_20 hC hw dX7_restore_167 ?_
          refine gf_X7_59 hC hw dX7_restore_170 ?_
          refine lv_iconst (v := nI 0) hC.1 hC.2.1 dX7_restore_173 (by decide) ?_
          refine lv_bipush (v := nI 24) hC.1 hC.2.1 dX7_restore_174 (by decide) ?_
          refine q_cpy (sp := ((3 + 3 + 10) + 48)) (dp := 0) (n := 24) 62 rfl 23 rfl (XW_s13 _) hC hw hl (by omega) (by omega) (by decide) (by decide) ⟨Nat.le_of_ble_eq_true rfl, Nat.le_of_ble_eq_true rfl⟩ wk2_182 dX7_restore_176 (fun H locs hw => ?_)
          have hw : Wst E (XW E a) (sr (sr (sr (sr (sr (sr σ 4 (upr (σ 52) 10 (σ 4))) 11 (va_cpy (σ 52) (σ 11) (3 + 3 + 10) 0 24)) 12 (va_cpy (σ 52) (σ 12) ((3 + 3 + 10) + 24) 0 24)) 15 (va_cpy (σ 52) (σ 15) 3 0 3)) 0 (upd (upd (upd (upd (upd (σ 0) 0 (σ 52 0)) 1 (σ 52 1)) 2 (σ 52 2)) 3 (nI (if 23 ≠ 0 then (23 - 1) else 29))) 4 (nI (kp - 1)))) 13 (va_cpy (σ 52) (σ 13) ((3 + 3 + 10) + 48) 0 24)) A s.heap H locs := hw
          have hst_ : sr (sr (sr (sr (sr (sr σ 4 (upr (σ 52) 10 (σ 4))) 11 (va_cpy (σ 52) (σ 11) (3 + 3 + 10) 0 24)) 12 (va_cpy (σ 52) (σ 12) ((3 + 3 + 10) + 24) 0 24)) 15 (va_cpy (σ 52) (σ 15) 3 0 3)) 0 (upd (upd (upd (upd (upd (σ 0) 0 (σ 52 0)) 1 (σ 52 1)) 2 (σ 52 2)) 3 (nI (if 23 ≠ 0 then (23 - 1) else 29))) 4 (nI (kp - 1)))) 13 (va_cpy (σ 52) (σ 13) ((3 + 3 + 10) + 48) 0 24) = sr (sr (sr (sr (sr (sr σ 4 (upr (σ 52) 10 (σ 4))) 11 (va_cpy (σ 52) (σ 11) (3 + 3 + 10) 0 24)) 12 (va_cpy (σ 52) (σ 12) ((3 + 3 + 10) + 24) 0 24)) 13 (va_cpy (σ 52) (σ 13) ((3 + 3 + 10) + 48) 0 24)) 15 (va_cpy (σ 52) (σ 15) 3 0 3)) 0 (upd (upd (upd (upd (upd (σ 0) 0 (σ 52 0)) 1 (σ 52 1)) 2 (σ 52 2)) 3 (nI (if 23 ≠ 0 then (23 - 1) else 29))) 4 (nI (kp - 1))) := by
            funext j_ x_
            by_cases e0 : j_ = 0
            · subst e0
              by_cases y0 : x_ = 0
              · subst y0; rfl
              · by_cases y1 : x_ = 1
                · subst y1; rfl
                · by_cases y2 : x_ = 2
                  · subst y2; rfl
                  · by_cases y3 : x_ = 3
                    · subst y3; rfl
                    · by_cases y4 : x_ = 4
                      · subst y4; rfl
                      · simp [sr, upd, y0, y1, y2, y3, y4]
            · by_cases e4 : j_ = 4
              · subst e4; rfl
              · by_cases e11 : j_ = 11
                · subst e11; rfl
                · by_cases e12 : j_ = 12
                  · subst e12; rfl
                  · by_cases e13 : j_ = 13
                    · subst e13; rfl
                    · by_cases e15 : j_ = 15
                      · subst e15; rfl
                      · simp only [sr, e0, e4, e11, e12, e13, e15, if_false]
          rw [hst_] at hw
          refine lv_aload_n hC.1 hC.2.1 dX7_restore_179 rfl (lv_at hl 2 rfl) ?_
          refine lv_iload_n hC.1 hC.2.1 dX7_restore_180 rfl (lv_at hl 0 rfl) ?_
          refine lv_bipush (v := nI 72) hC.1 hC.2.1 dX7_restore_181 (by decide) ?_
          refine q_addN hC dX7_restore_183 ?_
          refine lv_aload_n hC.1 hC.2.1 dX7_restore_184 rfl (lv_at hl 1 rfl) ?_
          refine gf_X7_20 hC hw dX7_restore_185 ?_
          refine gf_X7_62 hC hw dX7_restore_188 ?_
          refine lv_iconst (v := nI 0) hC.1 hC.2.1 dX7_restore_191 (by decide) ?_
          refine lv_bipush (v := nI 24) hC.1 hC.2.1 dX7_restore_192 (by decide) ?_
          refine q_cpy (sp := ((3 + 3 + 10) + 72)) (dp := 0) (n := 24) 62 rfl 24 rfl (XW_s14 _) hC hw hl (by omega) (by omega) (by decide) (by decide) ⟨Nat.le_of_ble_eq_true rfl, Nat.le_of_ble_eq_true rfl⟩ wk2_182 dX7_restore_194 (fun H locs hw => ?_)
          have hw : Wst E (XW E a) (sr (sr (sr (sr (sr (sr (sr σ 4 (upr (σ 52) 10 (σ 4))) 11 (va_cpy (σ 52) (σ 11) (3 + 3 + 10) 0 24)) 12 (va_cpy (σ 52) (σ 12) ((3 + 3 + 10) + 24) 0 24)) 13 (va_cpy (σ 52) (σ 13) ((3 + 3 + 10) + 48) 0 24)) 15 (va_cpy (σ 52) (σ 15) 3 0 3)) 0 (upd (upd (upd (upd (upd (σ 0) 0 (σ 52 0)) 1 (σ 52 1)) 2 (σ 52 2)) 3 (nI (if 23 ≠ 0 then (23 - 1) else 29))) 4 (nI (kp - 1)))) 14 (va_cpy (σ 52) (σ 14) ((3 + 3 + 10) + 72) 0 24)) A s.heap H locs := hw
          have hst_ : sr (sr (sr (sr (sr (sr (sr σ 4 (upr (σ 52) 10 (σ 4))) 11 (va_cpy (σ 52) (σ 11) (3 + 3 + 10) 0 24)) 12 (va_cpy (σ 52) (σ 12) ((3 + 3 + 10) + 24) 0 24)) 13 (va_cpy (σ 52) (σ 13) ((3 + 3 + 10) + 48) 0 24)) 15 (va_cpy (σ 52) (σ 15) 3 0 3)) 0 (upd (upd (upd (upd (upd (σ 0) 0 (σ 52 0)) 1 (σ 52 1)) 2 (σ 52 2)) 3 (nI (if 23 ≠ 0 then (23 - 1) else 29))) 4 (nI (kp - 1)))) 14 (va_cpy (σ 52) (σ 14) ((3 + 3 + 10) + 72) 0 24) = sr (sr (sr (sr (sr (sr (sr σ 4 (upr (σ 52) 10 (σ 4))) 11 (va_cpy (σ 52) (σ 11) (3 + 3 + 10) 0 24)) 12 (va_cpy (σ 52) (σ 12) ((3 + 3 + 10) + 24) 0 24)) 13 (va_cpy (σ 52) (σ 13) ((3 + 3 + 10) + 48) 0 24)) 14 (va_cpy (σ 52) (σ 14) ((3 + 3 + 10) + 72) 0 24)) 15 (va_cpy (σ 52) (σ 15) 3 0 3)) 0 (upd (upd (upd (upd (upd (σ 0) 0 (σ 52 0)) 1 (σ 52 1)) 2 (σ 52 2)) 3 (nI (if 23 ≠ 0 then (23 - 1) else 29))) 4 (nI (kp - 1))) := by
            funext j_ x_
            by_cases e0 : j_ = 0
            · subst e0
              by_cases y0 : x_ = 0
              · subst y0; rfl
              · by_cases y1 : x_ = 1
                · subst y1; rfl
                · by_cases y2 : x_ = 2
                  · subst y2; rfl
                  · by_cases y3 : x_ = 3
                    · subst y3; rfl
                    · by_cases y4 : x_ = 4
                      · subst y4; rfl
                      · simp [sr, upd, y0, y1, y2, y3, y4]
            · by_cases e4 : j_ = 4
              · subst e4; rfl
              · by_cases e11 : j_ = 11
                · subst e11; rfl
                · by_cases e12 : j_ = 12
                  · subst e12; rfl
                  · by_cases e13 : j_ = 13
                    · subst e13; rfl
                    · by_cases e14 : j_ = 14
                      · subst e14; rfl
                      · by_cases e15 : j_ = 15
                        · subst e15; rfl
                        · simp only [sr, e0, e4, e11, e12, e13, e14, e15, if_false]
          rw [hst_] at hw
          refine hret _ _ _ _ _ hw ?_ dX7_restore_197
          exact rfl
        · refine lv_aload_n hC.1 hC.2.1 dX7_restore_96 rfl (lv_at hl 0 rfl) ?_
          refine gf_X7_16 hC hw dX7_restore_97 ?_
          refine gf_X7_49 hC hw dX7_restore_100 ?_
          refine lv_iload_n hC.1 hC.2.1 dX7_restore_103 rfl (lv_at hl 3 rfl) ?_
          refine lv_aload_n hC.1 hC.2.1 dX7_restore_104 rfl (lv_at hl 1 rfl) ?_
          refine lv_iload_n hC.1 hC.2.1 dX7_restore_105 rfl (lv_at hl 2 rfl) ?_
          refine lv_iload_n hC.1 hC.2.1 dX7_restore_106 rfl (lv_at hl 3 rfl) ?_
          refine q_addN hC dX7_restore_107 ?_
          refine q_ald (Wf := XW E a) (v := σ 52 ((3 + 3) + h)) 62 rfl (by decide) hC hw (by omega) rfl dX7_restore_108 ?_
          refine lv_iconst (v := nI 1) hC.1 hC.2.1 dX7_restore_109 (by decide) ?_
          have J118_6 : ∀ (w5 : Int32), w5 = (if (σ 52 ((3 + 3) + h)) = 1 then (1 : Int32) else 0) → ∀ (H : Heap) (locs : List Loc) (ls : Array Slot), Wst E (XW E a) (sr (sr (sr σ 4 (upr (σ 52) h (σ 4))) 15 (va_cpy (σ 52) (σ 15) 3 0 3)) 0 (upd (upd (upd (upd (upd (σ 0) 0 (σ 52 0)) 1 (σ 52 1)) 2 (σ 52 2)) 3 (nI (if 23 ≠ 0 then (23 - 1) else 29))) 4 (nI (kp - 1)))) A s.heap H locs → lv_has ls 4 [(0, .ref (a 68)), (1, .ref (a 52)), (2, .int (nI (3 + 3))), (3, .int (nI h))] → W p l e ({ frames := 1, cells := 0, slots := 0, locals := 24 }) s m args below meth c H locs 0 0 Q (F0 m 118 ls [.int (w5), .int (nI h), .ref (a 4)]) := by
            intro w5 e6 H locs ls hw hl
            subst e6
            refine as_X4 hC hw (by omega) vz_B dX7_restore_118 (fun H locs hw => ?_)
            have hw : Wst E (XW E a) (sr (sr (sr (sr σ 4 (upr (σ 52) h (σ 4))) 15 (va_cpy (σ 52) (σ 15) 3 0 3)) 0 (upd (upd (upd (upd (upd (σ 0) 0 (σ 52 0)) 1 (σ 52 1)) 2 (σ 52 2)) 3 (nI (if 23 ≠ 0 then (23 - 1) else 29))) 4 (nI (kp - 1)))) 4 (upd (upr (σ 52) h (σ 4)) h (if (σ 52 ((3 + 3) + h)) = 1 then (1 : Int32) else 0))) A s.heap H locs := hw
            have hst_ : sr (sr (sr (sr σ 4 (upr (σ 52) h (σ 4))) 15 (va_cpy (σ 52) (σ 15) 3 0 3)) 0 (upd (upd (upd (upd (upd (σ 0) 0 (σ 52 0)) 1 (σ 52 1)) 2 (σ 52 2)) 3 (nI (if 23 ≠ 0 then (23 - 1) else 29))) 4 (nI (kp - 1)))) 4 (upd (upr (σ 52) h (σ 4)) h (if (σ 52 ((3 + 3) + h)) = 1 then (1 : Int32) else 0)) = sr (sr (sr σ 4 (upd (upr (σ 52) h (σ 4)) h (if (σ 52 ((3 + 3) + h)) = 1 then (1 : Int32) else 0))) 15 (va_cpy (σ 52) (σ 15) 3 0 3)) 0 (upd (upd (upd (upd (upd (σ 0) 0 (σ 52 0)) 1 (σ 52 1)) 2 (σ 52 2)) 3 (nI (if 23 ≠ 0 then (23 - 1) else 29))) 4 (nI (kp - 1))) := by
              funext j_ x_
              by_cases e0 : j_ = 0
              · subst e0
                by_cases y0 : x_ = 0
                · subst y0; rfl
                · by_cases y1 : x_ = 1
                  · subst y1; rfl
                  · by_cases y2 : x_ = 2
                    · subst y2; rfl
                    · by_cases y3 : x_ = 3
                      · subst y3; rfl
                      · by_cases y4 : x_ = 4
                        · subst y4; rfl
                        · simp [sr, upd, y0, y1, y2, y3, y4]
              · by_cases e4 : j_ = 4
                · subst e4; rfl
                · by_cases e15 : j_ = 15
                  · subst e15; rfl
                  · simp only [sr, e0, e4, e15, if_false]
            rw [hst_] at hw
            refine lv_iinc (v := nI (h + 1)) (lv' := [(3, .int (nI (h + 1))), (0, .ref (a 68)), (1, .ref (a 52)), (2, .int (nI (3 + 3)))]) hC.1 hC.2.1 dX7_restore_119 hl (k := 3) rfl (nI_add _ _) (by decide) rfl (fun ls hl => ?_)
            refine lv_goto (tgt := 90) hC.1 hC.2.1 dX7_restore_122 (by decide) ?_
            rw [upr_s] at hw
            exact ih90 (h + 1) (by omega) (by omega) _ _ _ hw (lv_sub hl [1, 2, 3, 0] rfl)
          refine q_cmpne hC 117 cI dX7_restore_110 (by decide) (fun (c7 : ¬ ((σ 52 ((3 + 3) + h)) = 1)) => ?_) (fun (c7 : (σ 52 ((3 + 3) + h)) = 1) => ?_)
          · refine lv_iconst (v := nI 0) hC.1 hC.2.1 dX7_restore_117 (by decide) ?_
            exact J118_6 _ (if_neg c7).symm _ _ _ hw (lv_sub hl [0, 1, 2, 3] rfl)
          · refine lv_iconst (v := nI 1) hC.1 hC.2.1 dX7_restore_113 (by decide) ?_
            refine lv_goto (tgt := 118) hC.1 hC.2.1 dX7_restore_114 (by decide) ?_
            exact J118_6 _ (if_pos c7).symm _ _ _ hw (lv_sub hl [0, 1, 2, 3] rfl)
    have hst_ : sr (sr σ 15 (va_cpy (σ 52) (σ 15) 3 0 3)) 0 (upd (upd (upd (upd (upd (σ 0) 0 (σ 52 0)) 1 (σ 52 1)) 2 (σ 52 2)) 3 (nI (if 23 ≠ 0 then (23 - 1) else 29))) 4 (nI (kp - 1))) = sr (sr (sr σ 4 (upr (σ 52) 0 (σ 4))) 15 (va_cpy (σ 52) (σ 15) 3 0 3)) 0 (upd (upd (upd (upd (upd (σ 0) 0 (σ 52 0)) 1 (σ 52 1)) 2 (σ 52 2)) 3 (nI (if 23 ≠ 0 then (23 - 1) else 29))) 4 (nI (kp - 1))) := by
      funext j_ x_
      by_cases e0 : j_ = 0
      · subst e0
        by_cases y0 : x_ = 0
        · subst y0; rfl
        · by_cases y1 : x_ = 1
          · subst y1; rfl
          · by_cases y2 : x_ = 2
            · subst y2; rfl
            · by_cases y3 : x_ = 3
              · subst y3; rfl
              · by_cases y4 : x_ = 4
                · subst y4; rfl
                · simp [sr, upd, y0, y1, y2, y3, y4]
      · by_cases e4 : j_ = 4
        · subst e4; show σ 4 x_ = upr (σ 52) 0 (σ 4) x_; rw [upr_0]
        · by_cases e15 : j_ = 15
          · subst e15; rfl
          · simp only [sr, e0, e4, e15, if_false]
    rw [hst_] at hw
    exact L90_2 _ 0 (by omega) (Nat.lt_succ_self _) _ _ _ hw (lv_sub hl [3, 2, 1, 0] rfl)
  refine q_ifne hC 13 (cN0 (by omega)) dX7_restore_5 (by decide) (fun (c8 : 23 ≠ 0) => ?_) (fun (c8 : 23 = 0) => ?_)
  · refine lv_aload_n hC.1 hC.2.1 dX7_restore_13 rfl (lv_at hl 0 rfl) ?_
    refine gf_X7_28 (v := nI 23) hC hw hnx dX7_restore_14 ?_
    refine lv_iconst (v := nI 1) hC.1 hC.2.1 dX7_restore_17 (by decide) ?_
    refine q_subN hC (by omega) dX7_restore_18 ?_
    exact J19_2 _ (by (rw [if_pos c8]) <;> rfl) _ _ _ hw (lv_sub hl [0] rfl)
  · refine lv_bipush (v := nI 29) hC.1 hC.2.1 dX7_restore_8 (by decide) ?_
    refine lv_goto (tgt := 19) hC.1 hC.2.1 dX7_restore_10 (by decide) ?_
    exact J19_2 _ (by (rw [if_neg (fun q => q c8)]) <;> rfl) _ _ _ hw (lv_sub hl [0] rfl)
set_option maxHeartbeats 4000000 in
set_option maxRecDepth 100000 in
theorem tX7_restore_k24 (l : Launch) (E : EV) (a : Nat → Nat) (σ : St) (kp : Nat) (hnx : σ 0 3 = nI 24) (hkp : σ 0 4 = nI kp) (hk30 : kp ≤ 30) (hk1 : 1 ≤ kp) : MV l E (XW E a) yX7_restore (Cond.code yX7_restore cX7_restore 4 none) ({ frames := 1, cells := 0, slots := 0, locals := 24 }) [.ref (a 68)] σ (fun u_ => u_ = sr (sr (sr (sr (sr (sr (sr σ 4 (upr (σ 53) 10 (σ 4))) 11 (va_cpy (σ 53) (σ 11) 16 0 24)) 12 (va_cpy (σ 53) (σ 12) 40 0 24)) 13 (va_cpy (σ 53) (σ 13) 64 0 24)) 14 (va_cpy (σ 53) (σ 14) 88 0 24)) 15 (va_cpy (σ 53) (σ 15) 3 0 3)) 0 (upd (upd (upd (upd (upd (σ 0) 0 ((σ 53) 0)) 1 ((σ 53) 1)) 2 ((σ 53) 2)) 3 (nI (if 24 ≠ 0 then 24 - 1 else 29))) 4 (nI (kp - 1)))) := by
  refine MV.mk (by decide +kernel) (Nat.le_of_ble_eq_true rfl) ?_
  intro p e s m args below meth c ls A Q hret hC hw hl
  have hC : Cxt E p s m args meth c cX7_restore 4 none RX7 A := hC
  have hl : lv_has ls 4 [(0, .ref (a 68))] := hl
  refine lv_aload_n hC.1 hC.2.1 dX7_restore_0 rfl (lv_at hl 0 rfl) ?_
  refine lv_aload_n hC.1 hC.2.1 dX7_restore_1 rfl (lv_at hl 0 rfl) ?_
  refine gf_X7_28 (v := nI 24) hC hw hnx dX7_restore_2 ?_
  have J19_2 : ∀ (w1 : Nat), w1 = (if 24 ≠ 0 then (24 - 1) else 29) → ∀ (H : Heap) (locs : List Loc) (ls : Array Slot), Wst E (XW E a) (σ) A s.heap H locs → lv_has ls 4 [(0, .ref (a 68))] → W p l e ({ frames := 1, cells := 0, slots := 0, locals := 24 }) s m args below meth c H locs 0 0 Q (F0 m 19 ls [.int (nI w1), .ref (a 68)]) := by
    intro w1 e2 H locs ls hw hl
    subst e2
    refine pf_X7_28 hC hw dX7_restore_19 (fun H locs hw => ?_)
    have hw : Wst E (XW E a) (sr σ 0 (upd (σ 0) 3 (nI (if 24 ≠ 0 then (24 - 1) else 29)))) A s.heap H locs := hw
    refine lv_aload_n hC.1 hC.2.1 dX7_restore_22 rfl (lv_at hl 0 rfl) ?_
    refine lv_dup hC.1 hC.2.1 dX7_restore_23 rfl ?_
    refine gf_X7_65 (v := nI kp) hC hw hkp dX7_restore_24 ?_
    refine lv_iconst (v := nI 1) hC.1 hC.2.1 dX7_restore_27 (by decide) ?_
    refine q_subN hC (by omega) dX7_restore_28 ?_
    refine pf_X7_65 hC hw dX7_restore_29 (fun H locs hw => ?_)
    have hw : Wst E (XW E a) (sr (sr σ 0 (upd (σ 0) 3 (nI (if 24 ≠ 0 then (24 - 1) else 29)))) 0 (upd (upd (σ 0) 3 (nI (if 24 ≠ 0 then (24 - 1) else 29))) 4 (nI (kp - 1)))) A s.heap H locs := hw
    have hst_ : sr (sr σ 0 (upd (σ 0) 3 (nI (if 24 ≠ 0 then (24 - 1) else 29)))) 0 (upd (upd (σ 0) 3 (nI (if 24 ≠ 0 then (24 - 1) else 29))) 4 (nI (kp - 1))) = sr σ 0 (upd (upd (σ 0) 3 (nI (if 24 ≠ 0 then (24 - 1) else 29))) 4 (nI (kp - 1))) := by
      funext j_ x_
      by_cases e0 : j_ = 0
      · subst e0
        by_cases y3 : x_ = 3
        · subst y3; rfl
        · by_cases y4 : x_ = 4
          · subst y4; rfl
          · simp [sr, upd, y3, y4]
      · simp only [sr, e0, if_false]
    rw [hst_] at hw
    refine lv_aload_n hC.1 hC.2.1 dX7_restore_32 rfl (lv_at hl 0 rfl) ?_
    refine gf_X7_13 hC hw dX7_restore_33 ?_
    refine lv_aload_n hC.1 hC.2.1 dX7_restore_36 rfl (lv_at hl 0 rfl) ?_
    refine gf_X7_28 (v := nI (if 24 ≠ 0 then (24 - 1) else 29)) hC hw rfl dX7_restore_37 ?_
    refine q_top (y := nI 23) rfl ?_
    refine q_aald hC hw (i := 23) (by decide) dX7_restore_40 ?_
    refine lv_astore_n (lv' := [(1, .ref (a 53)), (0, .ref (a 68))]) hC.1 hC.2.1 dX7_restore_41 rfl hl (by decide) rfl (fun ls hl => ?_)
    refine lv_aload_n hC.1 hC.2.1 dX7_restore_42 rfl (lv_at hl 1 rfl) ?_
    refine gf_X7_16 hC hw dX7_restore_43 ?_
    refine lv_aload_n hC.1 hC.2.1 dX7_restore_46 rfl (lv_at hl 0 rfl) ?_
    refine lv_iconst (v := nI 0) hC.1 hC.2.1 dX7_restore_47 (by decide) ?_
    refine q_ald (Wf := XW E a) (v := σ 53 0) 63 rfl (by decide) hC hw (by omega) rfl dX7_restore_48 ?_
    refine pf_X7_32 hC hw dX7_restore_49 (fun H locs hw => ?_)
    have hw : Wst E (XW E a) (sr (sr σ 0 (upd (upd (σ 0) 3 (nI (if 24 ≠ 0 then (24 - 1) else 29))) 4 (nI (kp - 1)))) 0 (upd (upd (upd (σ 0) 3 (nI (if 24 ≠ 0 then (24 - 1) else 29))) 4 (nI (kp - 1))) 0 (σ 53 0))) A s.heap H locs := hw
    have hst_ : sr (sr σ 0 (upd (upd (σ 0) 3 (nI (if 24 ≠ 0 then (24 - 1) else 29))) 4 (nI (kp - 1)))) 0 (upd (upd (upd (σ 0) 3 (nI (if 24 ≠ 0 then (24 - 1) else 29))) 4 (nI (kp - 1))) 0 (σ 53 0)) = sr σ 0 (upd (upd (upd (σ 0) 0 (σ 53 0)) 3 (nI (if 24 ≠ 0 then (24 - 1) else 29))) 4 (nI (kp - 1))) := by
      funext j_ x_
      by_cases e0 : j_ = 0
      · subst e0
        by_cases y0 : x_ = 0
        · subst y0; rfl
        · by_cases y3 : x_ = 3
          · subst y3; rfl
          · by_cases y4 : x_ = 4
            · subst y4; rfl
            · simp [sr, upd, y0, y3, y4]
      · simp only [sr, e0, if_false]
    rw [hst_] at hw
    refine lv_aload_n hC.1 hC.2.1 dX7_restore_52 rfl (lv_at hl 1 rfl) ?_
    refine gf_X7_20 hC hw dX7_restore_53 ?_
    refine lv_aload_n hC.1 hC.2.1 dX7_restore_56 rfl (lv_at hl 0 rfl) ?_
    refine lv_iconst (v := nI 1) hC.1 hC.2.1 dX7_restore_57 (by decide) ?_
    refine q_ald (Wf := XW E a) (v := σ 53 1) 63 rfl (by decide) hC hw (by omega) rfl dX7_restore_58 ?_
    refine pf_X7_37 hC hw dX7_restore_59 (fun H locs hw => ?_)
    have hw : Wst E (XW E a) (sr (sr σ 0 (upd (upd (upd (σ 0) 0 (σ 53 0)) 3 (nI (if 24 ≠ 0 then (24 - 1) else 29))) 4 (nI (kp - 1)))) 0 (upd (upd (upd (upd (σ 0) 0 (σ 53 0)) 3 (nI (if 24 ≠ 0 then (24 - 1) else 29))) 4 (nI (kp - 1))) 1 (σ 53 1))) A s.heap H locs := hw
    have hst_ : sr (sr σ 0 (upd (upd (upd (σ 0) 0 (σ 53 0)) 3 (nI (if 24 ≠ 0 then (24 - 1) else 29))) 4 (nI (kp - 1)))) 0 (upd (upd (upd (upd (σ 0) 0 (σ 53 0)) 3 (nI (if 24 ≠ 0 then (24 - 1) else 29))) 4 (nI (kp - 1))) 1 (σ 53 1)) = sr σ 0 (upd (upd (upd (upd (σ 0) 0 (σ 53 0)) 1 (σ 53 1)) 3 (nI (if 24 ≠ 0 then (24 - 1) else 29))) 4 (nI (kp - 1))) := by
      funext j_ x_
      by_cases e0 : j_ = 0
      · subst e0
        by_cases y0 : x_ = 0
        · subst y0; rfl
        · by_cases y1 : x_ = 1
          · subst y1; rfl
          · by_cases y3 : x_ = 3
            · subst y3; rfl
            · by_cases y4 : x_ = 4
              · subst y4; rfl
              · simp [sr, upd, y0, y1, y3, y4]
      · simp only [sr, e0, if_false]
    rw [hst_] at hw
    refine lv_aload_n hC.1 hC.2.1 dX7_restore_62 rfl (lv_at hl 1 rfl) ?_
    refine gf_X7_20 hC hw dX7_restore_63 ?_
    refine lv_aload_n hC.1 hC.2.1 dX7_restore_66 rfl (lv_at hl 0 rfl) ?_
    refine lv_iconst (v := nI 2) hC.1 hC.2.1 dX7_restore_67 (by decide) ?_
    refine q_ald (Wf := XW E a) (v := σ 53 2) 63 rfl (by decide) hC hw (by omega) rfl dX7_restore_68 ?_
    refine pf_X7_40 hC hw dX7_restore_69 (fun H locs hw => ?_)
    have hw : Wst E (XW E a) (sr (sr σ 0 (upd (upd (upd (upd (σ 0) 0 (σ 53 0)) 1 (σ 53 1)) 3 (nI (if 24 ≠ 0 then (24 - 1) else 29))) 4 (nI (kp - 1)))) 0 (upd (upd (upd (upd (upd (σ 0) 0 (σ 53 0)) 1 (σ 53 1)) 3 (nI (if 24 ≠ 0 then (24 - 1) else 29))) 4 (nI (kp - 1))) 2 (σ 53 2))) A s.heap H locs := hw
    have hst_ : sr (sr σ 0 (upd (upd (upd (upd (σ 0) 0 (σ 53 0)) 1 (σ 53 1)) 3 (nI (if 24 ≠ 0 then (24 - 1) else 29))) 4 (nI (kp - 1)))) 0 (upd (upd (upd (upd (upd (σ 0) 0 (σ 53 0)) 1 (σ 53 1)) 3 (nI (if 24 ≠ 0 then (24 - 1) else 29))) 4 (nI (kp - 1))) 2 (σ 53 2)) = sr σ 0 (upd (upd (upd (upd (upd (σ 0) 0 (σ 53 0)) 1 (σ 53 1)) 2 (σ 53 2)) 3 (nI (if 24 ≠ 0 then (24 - 1) else 29))) 4 (nI (kp - 1))) := by
      funext j_ x_
      by_cases e0 : j_ = 0
      · subst e0
        by_cases y0 : x_ = 0
        · subst y0; rfl
        · by_cases y1 : x_ = 1
          · subst y1; rfl
          · by_cases y2 : x_ = 2
            · subst y2; rfl
            · by_cases y3 : x_ = 3
              · subst y3; rfl
              · by_cases y4 : x_ = 4
                · subst y4; rfl
                · simp [sr, upd, y0, y1, y2, y3, y4]
      · simp only [sr, e0, if_false]
    rw [hst_] at hw
    refine lv_iconst (v := nI 3) hC.1 hC.2.1 dX7_restore_72 (by decide) ?_
    refine lv_istore_n (lv' := [(2, .int (nI 3)), (1, .ref (a 53)), (0, .ref (a 68))]) hC.1 hC.2.1 dX7_restore_73 rfl hl (by decide) rfl (fun ls hl => ?_)
    refine lv_aload_n hC.1 hC.2.1 dX7_restore_74 rfl (lv_at hl 1 rfl) ?_
    refine lv_iload_n hC.1 hC.2.1 dX7_restore_75 rfl (lv_at hl 0 rfl) ?_
    refine lv_aload_n hC.1 hC.2.1 dX7_restore_76 rfl (lv_at hl 2 rfl) ?_
    refine gf_X7_24 hC hw dX7_restore_77 ?_
    refine lv_iconst (v := nI 0) hC.1 hC.2.1 dX7_restore_80 (by decide) ?_
    refine lv_iconst (v := nI 3) hC.1 hC.2.1 dX7_restore_81 (by decide) ?_
    refine q_cpy (sp := 3) (dp := 0) (n := 3) 63 rfl 25 rfl (XW_s15 _) hC hw hl (by omega) (by omega) (by decide) (by decide) ⟨Nat.le_of_ble_eq_true rfl, Nat.le_of_ble_eq_true rfl⟩ wk2_182 dX7_restore_82 (fun H locs hw => ?_)
    have hw : Wst E (XW E a) (sr (sr σ 0 (upd (upd (upd (upd (upd (σ 0) 0 (σ 53 0)) 1 (σ 53 1)) 2 (σ 53 2)) 3 (nI (if 24 ≠ 0 then (24 - 1) else 29))) 4 (nI (kp - 1)))) 15 (va_cpy (σ 53) (σ 15) 3 0 3)) A s.heap H locs := hw
    have hst_ : sr (sr σ 0 (upd (upd (upd (upd (upd (σ 0) 0 (σ 53 0)) 1 (σ 53 1)) 2 (σ 53 2)) 3 (nI (if 24 ≠ 0 then (24 - 1) else 29))) 4 (nI (kp - 1)))) 15 (va_cpy (σ 53) (σ 15) 3 0 3) = sr (sr σ 15 (va_cpy (σ 53) (σ 15) 3 0 3)) 0 (upd (upd (upd (upd (upd (σ 0) 0 (σ 53 0)) 1 (σ 53 1)) 2 (σ 53 2)) 3 (nI (if 24 ≠ 0 then (24 - 1) else 29))) 4 (nI (kp - 1))) := by
      funext j_ x_
      by_cases e0 : j_ = 0
      · subst e0
        by_cases y0 : x_ = 0
        · subst y0; rfl
        · by_cases y1 : x_ = 1
          · subst y1; rfl
          · by_cases y2 : x_ = 2
            · subst y2; rfl
            · by_cases y3 : x_ = 3
              · subst y3; rfl
              · by_cases y4 : x_ = 4
                · subst y4; rfl
                · simp [sr, upd, y0, y1, y2, y3, y4]
      · by_cases e15 : j_ = 15
        · subst e15; rfl
        · simp only [sr, e0, e15, if_false]
    rw [hst_] at hw
    refine lv_iinc (v := nI (3 + 3)) (lv' := [(2, .int (nI (3 + 3))), (1, .ref (a 53)), (0, .ref (a 68))]) hC.1 hC.2.1 dX7_restore_85 hl (k := 0) rfl (nI_add _ _) (by decide) rfl (fun ls hl => ?_)
    refine lv_iconst (v := nI 0) hC.1 hC.2.1 dX7_restore_88 (by decide) ?_
    refine lv_istore_n (lv' := [(3, .int (nI 0)), (2, .int (nI (3 + 3))), (1, .ref (a 53)), (0, .ref (a 68))]) hC.1 hC.2.1 dX7_restore_89 rfl hl (by decide) rfl (fun ls hl => ?_)
    have L90_2 : ∀ (n : Nat), ∀ (h : Nat), (h ≤ 10) → (10 - h) < n → ∀ (H : Heap) (locs : List Loc) (ls : Array Slot), Wst E (XW E a) (sr (sr (sr σ 4 (upr (σ 53) h (σ 4))) 15 (va_cpy (σ 53) (σ 15) 3 0 3)) 0 (upd (upd (upd (upd (upd (σ 0) 0 (σ 53 0)) 1 (σ 53 1)) 2 (σ 53 2)) 3 (nI (if 24 ≠ 0 then (24 - 1) else 29))) 4 (nI (kp - 1)))) A s.heap H locs → lv_has ls 4 [(0, .ref (a 68)), (1, .ref (a 53)), (2, .int (nI (3 + 3))), (3, .int (nI h))] → W p l e ({ frames := 1, cells := 0, slots := 0, locals := 24 }) s m args below meth c H locs 0 0 Q (F0 m 90 ls []) := by
      intro n
      induction n with
      | zero => intro h hh hn; exact absurd hn (Nat.not_lt_zero _)
      | succ n ih90 =>
        intro h hh hn90 H locs ls hw hl
        refine lv_iload_n hC.1 hC.2.1 dX7_restore_90 rfl (lv_at hl 3 rfl) ?_
        refine lv_bipush (v := nI 10) hC.1 hC.2.1 dX7_restore_91 (by decide) ?_
        refine q_cmpge hC 125 (cNle (by omega) (by omega)) dX7_restore_93 (by decide) (fun (c4 : 10 ≤ h) => ?_) (fun (c4 : h < 10) => ?_)
        · have hh9 : h = 10 := by omega
          rw [hh9] at hw
          refine lv_iinc (v := nI (3 + 3 + 10)) (lv' := [(2, .int (nI (3 + 3 + 10))), (0, .ref (a 68)), (1, .ref (a 53)), (3, .int (nI h))]) hC.1 hC.2.1 dX7_restore_125 hl (k := 2) rfl (nI_add _ _) (by decide) rfl (fun ls hl => ?_)
          refine lv_aload_n hC.1 hC.2.1 dX7_restore_128 rfl (lv_at hl 2 rfl) ?_
          refine lv_iload_n hC.1 hC.2.1 dX7_restore_129 rfl (lv_at hl 0 rfl) ?_
          refine lv_aload_n hC.1 hC.2.1 dX7_restore_130 rfl (lv_at hl 1 rfl) ?_
          refine gf_X7_20 hC hw dX7_restore_131 ?_
          refine gf_X7_53 hC hw dX7_restore_134 ?_
          refine lv_iconst (v := nI 0) hC.1 hC.2.1 dX7_restore_137 (by decide) ?_
          refine lv_bipush (v := nI 24) hC.1 hC.2.1 dX7_restore_138 (by decide) ?_
          refine q_cpy (sp := (3 + 3 + 10)) (dp := 0) (n := 24) 63 rfl 21 rfl (XW_s11 _) hC hw hl (by omega) (by omega) (by decide) (by decide) ⟨Nat.le_of_ble_eq_true rfl, Nat.le_of_ble_eq_true rfl⟩ wk2_182 dX7_restore_140 (fun H locs hw => ?_)
          have hw : Wst E (XW E a) (sr (sr (sr (sr σ 4 (upr (σ 53) 10 (σ 4))) 15 (va_cpy (σ 53) (σ 15) 3 0 3)) 0 (upd (upd (upd (upd (upd (σ 0) 0 (σ 53 0)) 1 (σ 53 1)) 2 (σ 53 2)) 3 (nI (if 24 ≠ 0 then (24 - 1) else 29))) 4 (nI (kp - 1)))) 11 (va_cpy (σ 53) (σ 11) (3 + 3 + 10) 0 24)) A s.heap H locs := hw
          have hst_ : sr (sr (sr (sr σ 4 (upr (σ 53) 10 (σ 4))) 15 (va_cpy (σ 53) (σ 15) 3 0 3)) 0 (upd (upd (upd (upd (upd (σ 0) 0 (σ 53 0)) 1 (σ 53 1)) 2 (σ 53 2)) 3 (nI (if 24 ≠ 0 then (24 - 1) else 29))) 4 (nI (kp - 1)))) 11 (va_cpy (σ 53) (σ 11) (3 + 3 + 10) 0 24) = sr (sr (sr (sr σ 4 (upr (σ 53) 10 (σ 4))) 11 (va_cpy (σ 53) (σ 11) (3 + 3 + 10) 0 24)) 15 (va_cpy (σ 53) (σ 15) 3 0 3)) 0 (upd (upd (upd (upd (upd (σ 0) 0 (σ 53 0)) 1 (σ 53 1)) 2 (σ 53 2)) 3 (nI (if 24 ≠ 0 then (24 - 1) else 29))) 4 (nI (kp - 1))) := by
            funext j_ x_
            by_cases e0 : j_ = 0
            · subst e0
              by_cases y0 : x_ = 0
              · subst y0; rfl
              · by_cases y1 : x_ = 1
                · subst y1; rfl
                · by_cases y2 : x_ = 2
                  · subst y2; rfl
                  · by_cases y3 : x_ = 3
                    · subst y3; rfl
                    · by_cases y4 : x_ = 4
                      · subst y4; rfl
                      · simp [sr, upd, y0, y1, y2, y3, y4]
            · by_cases e4 : j_ = 4
              · subst e4; rfl
              · by_cases e11 : j_ = 11
                · subst e11; rfl
                · by_cases e15 : j_ = 15
                  · subst e15; rfl
                  · simp only [sr, e0, e4, e11, e15, if_false]
          rw [hst_] at hw
          refine lv_aload_n hC.1 hC.2.1 dX7_restore_143 rfl (lv_at hl 2 rfl) ?_
          refine lv_iload_n hC.1 hC.2.1 dX7_restore_144 rfl (lv_at hl 0 rfl) ?_
          refine lv_bipush (v := nI 24) hC.1 hC.2.1 dX7_restore_145 (by decide) ?_
          refine q_addN hC dX7_restore_147 ?_
          refine lv_aload_n hC.1 hC.2.1 dX7_restore_148 rfl (lv_at hl 1 rfl) ?_
          refine gf_X7_20 hC hw dX7_restore_149 ?_
          refine gf_X7_56 hC hw dX7_restore_152 ?_
          refine lv_iconst (v := nI 0) hC.1 hC.2.1 dX7_restore_155 (by decide) ?_
          refine lv_bipush (v := nI 24) hC.1 hC.2.1 dX7_restore_156 (by decide) ?_
          refine q_cpy (sp := ((3 + 3 + 10) + 24)) (dp := 0) (n := 24) 63 rfl 22 rfl (XW_s12 _) hC hw hl (by omega) (by omega) (by decide) (by decide) ⟨Nat.le_of_ble_eq_true rfl, Nat.le_of_ble_eq_true rfl⟩ wk2_182 dX7_restore_158 (fun H locs hw => ?_)
          have hw : Wst E (XW E a) (sr (sr (sr (sr (sr σ 4 (upr (σ 53) 10 (σ 4))) 11 (va_cpy (σ 53) (σ 11) (3 + 3 + 10) 0 24)) 15 (va_cpy (σ 53) (σ 15) 3 0 3)) 0 (upd (upd (upd (upd (upd (σ 0) 0 (σ 53 0)) 1 (σ 53 1)) 2 (σ 53 2)) 3 (nI (if 24 ≠ 0 then (24 - 1) else 29))) 4 (nI (kp - 1)))) 12 (va_cpy (σ 53) (σ 12) ((3 + 3 + 10) + 24) 0 24)) A s.heap H locs := hw
          have hst_ : sr (sr (sr (sr (sr σ 4 (upr (σ 53) 10 (σ 4))) 11 (va_cpy (σ 53) (σ 11) (3 + 3 + 10) 0 24)) 15 (va_cpy (σ 53) (σ 15) 3 0 3)) 0 (upd (upd (upd (upd (upd (σ 0) 0 (σ 53 0)) 1 (σ 53 1)) 2 (σ 53 2)) 3 (nI (if 24 ≠ 0 then (24 - 1) else 29))) 4 (nI (kp - 1)))) 12 (va_cpy (σ 53) (σ 12) ((3 + 3 + 10) + 24) 0 24) = sr (sr (sr (sr (sr σ 4 (upr (σ 53) 10 (σ 4))) 11 (va_cpy (σ 53) (σ 11) (3 + 3 + 10) 0 24)) 12 (va_cpy (σ 53) (σ 12) ((3 + 3 + 10) + 24) 0 24)) 15 (va_cpy (σ 53) (σ 15) 3 0 3)) 0 (upd (upd (upd (upd (upd (σ 0) 0 (σ 53 0)) 1 (σ 53 1)) 2 (σ 53 2)) 3 (nI (if 24 ≠ 0 then (24 - 1) else 29))) 4 (nI (kp - 1))) := by
            funext j_ x_
            by_cases e0 : j_ = 0
            · subst e0
              by_cases y0 : x_ = 0
              · subst y0; rfl
              · by_cases y1 : x_ = 1
                · subst y1; rfl
                · by_cases y2 : x_ = 2
                  · subst y2; rfl
                  · by_cases y3 : x_ = 3
                    · subst y3; rfl
                    · by_cases y4 : x_ = 4
                      · subst y4; rfl
                      · simp [sr, upd, y0, y1, y2, y3, y4]
            · by_cases e4 : j_ = 4
              · subst e4; rfl
              · by_cases e11 : j_ = 11
                · subst e11; rfl
                · by_cases e12 : j_ = 12
                  · subst e12; rfl
                  · by_cases e15 : j_ = 15
                    · subst e15; rfl
                    · simp only [sr, e0, e4, e11, e12, e15, if_false]
          rw [hst_] at hw
          refine lv_aload_n hC.1 hC.2.1 dX7_restore_161 rfl (lv_at hl 2 rfl) ?_
          refine lv_iload_n hC.1 hC.2.1 dX7_restore_162 rfl (lv_at hl 0 rfl) ?_
          refine lv_bipush (v := nI 48) hC.1 hC.2.1 dX7_restore_163 (by decide) ?_
          refine q_addN hC dX7_restore_165 ?_
          refine lv_aload_n hC.1 hC.2.1 dX7_restore_166 rfl (lv_at hl 1 rfl) ?_
          refine gf_X7_20 hC hw dX7_restore_167 ?_
          refine gf_X7_59 hC hw dX7_restore_170 ?_
          refine lv_iconst (v := nI 0) hC.1 hC.2.1 dX7_restore_173 (by decide) ?_
          refine lv_bipush (v := nI 24) hC.1 hC.2.1 dX7_restore_174 (by decide) ?_
          refine q_cpy (sp := ((3 + 3 + 10) + 48)) (dp := 0) (n := 24) 63 rfl 23 rfl (XW_s13 _) hC hw hl (by omega) (by omega) (by decide) (by decide) ⟨Nat.le_of_ble_eq_true rfl, Nat.le_of_ble_eq_true rfl⟩ wk2_182 dX7_restore_176 (fun H locs hw => ?_)
          have hw : Wst E (XW E a) (sr (sr (sr (sr (sr (sr σ 4 (upr (σ 53) 10 (σ 4))) 11 (va_cpy (σ 53) (σ 11) (3 + 3 + 10) 0 24)) 12 (va_cpy (σ 53) (σ 12) ((3 + 3 + 10) + 24) 0 24)) 15 (va_cpy (σ 53) (σ 15) 3 0 3)) 0 (upd (upd (upd (upd (upd (σ 0) 0 (σ 53 0)) 1 (σ 53 1)) 2 (σ 53 2)) 3 (nI (if 24 ≠ 0 then (24 - 1) else 29))) 4 (nI (kp - 1)))) 13 (va_cpy (σ 53) (σ 13) ((3 + 3 + 10) + 48) 0 24)) A s.heap H locs := hw
          have hst_ : sr (sr (sr (sr (sr (sr σ 4 (upr (σ 53) 10 (σ 4))) 11 (va_cpy (σ 53) (σ 11) (3 + 3 + 10) 0 24)) 12 (va_cpy (σ 53) (σ 12) ((3 + 3 + 10) + 24) 0 24)) 15 (va_cpy (σ 53) (σ 15) 3 0 3)) 0 (upd (upd (upd (upd (upd (σ 0) 0 (σ 53 0)) 1 (σ 53 1)) 2 (σ 53 2)) 3 (nI (if 24 ≠ 0 then (24 - 1) else 29))) 4 (nI (kp - 1)))) 13 (va_cpy (σ 53) (σ 13) ((3 + 3 + 10) + 48) 0 24) = sr (sr (sr (sr (sr (sr σ 4 (upr (σ 53) 10 (σ 4))) 11 (va_cpy (σ 53) (σ 11) (3 + 3 + 10) 0 24)) 12 (va_cpy (σ 53) (σ 12) ((3 + 3 + 10) + 24) 0 24)) 13 (va_cpy (σ 53) (σ 13) ((3 + 3 + 10) + 48) 0 24)) 15 (va_cpy (σ 53) (σ 15) 3 0 3)) 0 (upd (upd (upd (upd (upd (σ 0) 0 (σ 53 0)) 1 (σ 53 1)) 2 (σ 53 2)) 3 (nI (if 24 ≠ 0 then (24 - 1) else 29))) 4 (nI (kp - 1))) := by
            funext j_ x_
            by_cases e0 : j_ = 0
            · subst e0
              by_cases y0 : x_ = 0
              · subst y0; rfl
              · by_cases y1 : x_ = 1
                · subst y1; rfl
                · by_cases y2 : x_ = 2
                  · subst y2; rfl
                  · by_cases y3 : x_ = 3
                    · subst y3; rfl
                    · by_cases y4 : x_ = 4
                      · subst y4; rfl
                      · simp [sr, upd, y0, y1, y2, y3, y4]
            · by_cases e4 : j_ = 4
              · subst e4; rfl
              · by_cases e11 : j_ = 11
                · subst e11; rfl
                · by_cases e12 : j_ = 12
                  · subst e12; rfl
                  · by_cases e13 : j_ = 13
                    · subst e13; rfl
                    · by_cases e15 : j_ = 15
                      · subst e15; rfl
                      · simp only [sr, e0, e4, e11, e12, e13, e15, if_false]
          rw [hst_] at hw
          refine lv_aload_n hC.1 hC.2.1 dX7_restore_179 rfl (lv_at hl 2 rfl) ?_
          refine lv_iload_n hC.1 hC.2.1 dX7_restore_180 rfl (lv_at hl 0 rfl) ?_
          refine lv_bipush (v := nI 72) hC.1 hC.2.1 dX7_restore_181 (by decide) ?_
          refine q_addN hC dX7_restore_183 ?_
          refine lv_aload_n hC.1 hC.2.1 dX7_restore_184 rfl (lv_at hl 1 rfl) ?_
          refine gf_X7_20 hC hw dX7_restore_185 ?_
          refine gf_X7_62 hC hw dX7_restore_188 ?_
          refine lv_iconst (v := nI 0) hC.1 hC.2.1 dX7_restore_191 (by decide) ?_
          refine lv_bipush (v := nI 24) hC.1 hC.2.1 dX7_restore_192 (by decide) ?_
          refine q_cpy (sp := ((3 + 3 + 10) + 72)) (dp := 0) (n := 24) 63 rfl 24 rfl (XW_s14 _) hC hw hl (by omega) (by omega) (by decide) (by decide) ⟨Nat.le_of_ble_eq_true rfl, Nat.le_of_ble_eq_true rfl⟩ wk2_182 dX7_restore_194 (fun H locs hw => ?_)
          have hw : Wst E (XW E a) (sr (sr (sr (sr (sr (sr (sr σ 4 (upr (σ 53) 10 (σ 4))) 11 (va_cpy (σ 53) (σ 11) (3 + 3 + 10) 0 24)) 12 (va_cpy (σ 53) (σ 12) ((3 + 3 + 10) + 24) 0 24)) 13 (va_cpy (σ 53) (σ 13) ((3 + 3 + 10) + 48) 0 24)) 15 (va_cpy (σ 53) (σ 15) 3 0 3)) 0 (upd (upd (upd (upd (upd (σ 0) 0 (σ 53 0)) 1 (σ 53 1)) 2 (σ 53 2)) 3 (nI (if 24 ≠ 0 then (24 - 1) else 29))) 4 (nI (kp - 1)))) 14 (va_cpy (σ 53) (σ 14) ((3 + 3 + 10) + 72) 0 24)) A s.heap H locs := hw
          have hst_ : sr (sr (sr (sr (sr (sr (sr σ 4 (upr (σ 53) 10 (σ 4))) 11 (va_cpy (σ 53) (σ 11) (3 + 3 + 10) 0 24)) 12 (va_cpy (σ 53) (σ 12) ((3 + 3 + 10) + 24) 0 24)) 13 (va_cpy (σ 53) (σ 13) ((3 + 3 + 10) + 48) 0 24)) 15 (va_cpy (σ 53) (σ 15) 3 0 3)) 0 (upd (upd (upd (upd (upd (σ 0) 0 (σ 53 0)) 1 (σ 53 1)) 2 (σ 53 2)) 3 (nI (if 24 ≠ 0 then (24 - 1) else 29))) 4 (nI (kp - 1)))) 14 (va_cpy (σ 53) (σ 14) ((3 + 3 + 10) + 72) 0 24) = sr (sr (sr (sr (sr (sr (sr σ 4 (upr (σ 53) 10 (σ 4))) 11 (va_cpy (σ 53) (σ 11) (3 + 3 + 10) 0 24)) 12 (va_cpy (σ 53) (σ 12) ((3 + 3 + 10) + 24) 0 24)) 13 (va_cpy (σ 53) (σ 13) ((3 + 3 + 10) + 48) 0 24)) 14 (va_cpy (σ 53) (σ 14) ((3 + 3 + 10) + 72) 0 24)) 15 (va_cpy (σ 53) (σ 15) 3 0 3)) 0 (upd (upd (upd (upd (upd (σ 0) 0 (σ 53 0)) 1 (σ 53 1)) 2 (σ 53 2)) 3 (nI (if 24 ≠ 0 then (24 - 1) else 29))) 4 (nI (kp - 1))) := by
            funext j_ x_
            by_cases e0 : j_ = 0
            · subst e0
              by_cases y0 : x_ = 0
              · subst y0; rfl
              · by_cases y1 : x_ = 1
                · subst y1; rfl
                · by_cases y2 : x_ = 2
                  · subst y2; rfl
                  · by_cases y3 : x_ = 3
                    · subst y3; rfl
                    · by_cases y4 : x_ = 4
                      · subst y4; rfl
                      · simp [sr, upd, y0, y1, y2, y3, y4]
            · by_cases e4 : j_ = 4
              · subst e4; rfl
              · by_cases e11 : j_ = 11
                · subst e11; rfl
                · by_cases e12 : j_ = 12
                  · subst e12; rfl
                  · by_cases e13 : j_ = 13
                    · subst e13; rfl
                    · by_cases e14 : j_ = 14
                      · subst e14; rfl
                      · by_cases e15 : j_ = 15
                        · subst e15; rfl
                        · simp only [sr, e0, e4, e11, e12, e13, e14, e15, if_false]
          rw [hst_] at hw
          refine hret _ _ _ _ _ hw ?_ dX7_restore_197
          exact rfl
        · refine lv_aload_n hC.1 hC.2.1 dX7_restore_96 rfl (lv_at hl 0 rfl) ?_
          refine gf_X7_16 hC hw dX7_restore_97 ?_
          refine gf_X7_49 hC hw dX7_restore_100 ?_
          refine lv_iload_n hC.1 hC.2.1 dX7_restore_103 rfl (lv_at hl 3 rfl) ?_
          refine lv_aload_n hC.1 hC.2.1 dX7_restore_104 rfl (lv_at hl 1 rfl) ?_
          refine lv_iload_n hC.1 hC.2.1 dX7_restore_105 rfl (lv_at hl 2 rfl) ?_
          refine lv_iload_n hC.1 hC.2.1 dX7_restore_106 rfl (lv_at hl 3 rfl) ?_
          refine q_addN hC dX7_restore_107 ?_
          refine q_ald (Wf := XW E a) (v := σ 53 ((3 + 3) + h)) 63 rfl (by decide) hC hw (by omega) rfl dX7_restore_108 ?_
          refine lv_iconst (v := nI 1) hC.1 hC.2.1 dX7_restore_109 (by decide) ?_
          have J118_6 : ∀ (w5 : Int32), w5 = (if (σ 53 ((3 + 3) + h)) = 1 then (1 : Int32) else 0) → ∀ (H : Heap) (locs : List Loc) (ls : Array Slot), Wst E (XW E a) (sr (sr (sr σ 4 (upr (σ 53) h (σ 4))) 15 (va_cpy (σ 53) (σ 15) 3 0 3)) 0 (upd (upd (upd (upd (upd (σ 0) 0 (σ 53 0)) 1 (σ 53 1)) 2 (σ 53 2)) 3 (nI (if 24 ≠ 0 then (24 - 1) else 29))) 4 (nI (kp - 1)))) A s.heap H locs → lv_has ls 4 [(0, .ref (a 68)), (1, .ref (a 53)), (2, .int (nI (3 + 3))), (3, .int (nI h))] → W p l e ({ frames := 1, cells := 0, slots := 0, locals := 24 }) s m args below meth c H locs 0 0 Q (F0 m 118 ls [.int (w5), .int (nI h), .ref (a 4)]) := by
            intro w5 e6 H locs ls hw hl
            subst e6
            refine as_X4 hC hw (by omega) vz_B dX7_restore_118 (fun H locs hw => ?_)
            have hw : Wst E (XW E a) (sr (sr (sr (sr σ 4 (upr (σ 53) h (σ 4))) 15 (va_cpy (σ 53) (σ 15) 3 0 3)) 0 (upd (upd (upd (upd (upd (σ 0) 0 (σ 53 0)) 1 (σ 53 1)) 2 (σ 53 2)) 3 (nI (if 24 ≠ 0 then (24 - 1) else 29))) 4 (nI (kp - 1)))) 4 (upd (upr (σ 53) h (σ 4)) h (if (σ 53 ((3 + 3) + h)) = 1 then (1 : Int32) else 0))) A s.heap H locs := hw
            have hst_ : sr (sr (sr (sr σ 4 (upr (σ 53) h (σ 4))) 15 (va_cpy (σ 53) (σ 15) 3 0 3)) 0 (upd (upd (upd (upd (upd (σ 0) 0 (σ 53 0)) 1 (σ 53 1)) 2 (σ 53 2)) 3 (nI (if 24 ≠ 0 then (24 - 1) else 29))) 4 (nI (kp - 1)))) 4 (upd (upr (σ 53) h (σ 4)) h (if (σ 53 ((3 + 3) + h)) = 1 then (1 : Int32) else 0)) = sr (sr (sr σ 4 (upd (upr (σ 53) h (σ 4)) h (if (σ 53 ((3 + 3) + h)) = 1 then (1 : Int32) else 0))) 15 (va_cpy (σ 53) (σ 15) 3 0 3)) 0 (upd (upd (upd (upd (upd (σ 0) 0 (σ 53 0)) 1 (σ 53 1)) 2 (σ 53 2)) 3 (nI (if 24 ≠ 0 then (24 - 1) else 29))) 4 (nI (kp - 1))) := by
              funext j_ x_
              by_cases e0 : j_ = 0
              · subst e0
                by_cases y0 : x_ = 0
                · subst y0; rfl
                · by_cases y1 : x_ = 1
                  · subst y1; rfl
                  · by_cases y2 : x_ = 2
                    · subst y2; rfl
                    · by_cases y3 : x_ = 3
                      · subst y3; rfl
                      · by_cases y4 : x_ = 4
                        · subst y4; rfl
                        · simp [sr, upd, y0, y1, y2, y3, y4]
              · by_cases e4 : j_ = 4
                · subst e4; rfl
                · by_cases e15 : j_ = 15
                  · subst e15; rfl
                  · simp only [sr, e0, e4, e15, if_false]
            rw [hst_] at hw
            refine lv_iinc (v := nI (h + 1)) (lv' := [(3, .int (nI (h + 1))), (0, .ref (a 68)), (1, .ref (a 53)), (2, .int (nI (3 + 3)))]) hC.1 hC.2.1 dX7_restore_119 hl (k := 3) rfl (nI_add _ _) (by decide) rfl (fun ls hl => ?_)
            refine lv_goto (tgt := 90) hC.1 hC.2.1 dX7_restore_122 (by decide) ?_
            rw [upr_s] at hw
            exact ih90 (h + 1) (by omega) (by omega) _ _ _ hw (lv_sub hl [1, 2, 3, 0] rfl)
          refine q_cmpne hC 117 cI dX7_restore_110 (by decide) (fun (c7 : ¬ ((σ 53 ((3 + 3) + h)) = 1)) => ?_) (fun (c7 : (σ 53 ((3 + 3) + h)) = 1) => ?_)
          · refine lv_iconst (v := nI 0) hC.1 hC.2.1 dX7_restore_117 (by decide) ?_
            exact J118_6 _ (if_neg c7).symm _ _ _ hw (lv_sub hl [0, 1, 2, 3] rfl)
          · refine lv_iconst (v := nI 1) hC.1 hC.2.1 dX7_restore_113 (by decide) ?_
            refine lv_goto (tgt := 118) hC.1 hC.2.1 dX7_restore_114 (by decide) ?_
            exact J118_6 _ (if_pos c7).symm _ _ _ hw (lv_sub hl [0, 1, 2, 3] rfl)
    have hst_ : sr (sr σ 15 (va_cpy (σ 53) (σ 15) 3 0 3)) 0 (upd (upd (upd (upd (upd (σ 0) 0 (σ 53 0)) 1 (σ 53 1)) 2 (σ 53 2)) 3 (nI (if 24 ≠ 0 then (24 - 1) else 29))) 4 (nI (kp - 1))) = sr (sr (sr σ 4 (upr (σ 53) 0 (σ 4))) 15 (va_cpy (σ 53) (σ 15) 3 0 3)) 0 (upd (upd (upd (upd (upd (σ 0) 0 (σ 53 0)) 1 (σ 53 1)) 2 (σ 53 2)) 3 (nI (if 24 ≠ 0 then (24 - 1) else 29))) 4 (nI (kp - 1))) := by
      funext j_ x_
      by_cases e0 : j_ = 0
      · subst e0
        by_cases y0 : x_ = 0
        · subst y0; rfl
        · by_cases y1 : x_ = 1
          · subst y1; rfl
          · by_cases y2 : x_ = 2
            · subst y2; rfl
            · by_cases y3 : x_ = 3
              · subst y3; rfl
              · by_cases y4 : x_ = 4
                · subst y4; rfl
                · simp [sr, upd, y0, y1, y2, y3, y4]
      · by_cases e4 : j_ = 4
        · subst e4; show σ 4 x_ = upr (σ 53) 0 (σ 4) x_; rw [upr_0]
        · by_cases e15 : j_ = 15
          · subst e15; rfl
          · simp only [sr, e0, e4, e15, if_false]
    rw [hst_] at hw
    exact L90_2 _ 0 (by omega) (Nat.lt_succ_self _) _ _ _ hw (lv_sub hl [3, 2, 1, 0] rfl)
  refine q_ifne hC 13 (cN0 (by omega)) dX7_restore_5 (by decide) (fun (c8 : 24 ≠ 0) => ?_) (fun (c8 : 24 = 0) => ?_)
  · refine lv_aload_n hC.1 hC.2.1 dX7_restore_13 rfl (lv_at hl 0 rfl) ?_
    refine gf_X7_28 (v := nI 24) hC hw hnx dX7_restore_14 ?_
    refine lv_iconst (v := nI 1) hC.1 hC.2.1 dX7_restore_17 (by decide) ?_
    refine q_subN hC (by omega) dX7_restore_18 ?_
    exact J19_2 _ (by (rw [if_pos c8]) <;> rfl) _ _ _ hw (lv_sub hl [0] rfl)
  · refine lv_bipush (v := nI 29) hC.1 hC.2.1 dX7_restore_8 (by decide) ?_
    refine lv_goto (tgt := 19) hC.1 hC.2.1 dX7_restore_10 (by decide) ?_
    exact J19_2 _ (by (rw [if_neg (fun q => q c8)]) <;> rfl) _ _ _ hw (lv_sub hl [0] rfl)
set_option maxHeartbeats 4000000 in
set_option maxRecDepth 100000 in
theorem tX7_restore_k25 (l : Launch) (E : EV) (a : Nat → Nat) (σ : St) (kp : Nat) (hnx : σ 0 3 = nI 25) (hkp : σ 0 4 = nI kp) (hk30 : kp ≤ 30) (hk1 : 1 ≤ kp) : MV l E (XW E a) yX7_restore (Cond.code yX7_restore cX7_restore 4 none) ({ frames := 1, cells := 0, slots := 0, locals := 24 }) [.ref (a 68)] σ (fun u_ => u_ = sr (sr (sr (sr (sr (sr (sr σ 4 (upr (σ 54) 10 (σ 4))) 11 (va_cpy (σ 54) (σ 11) 16 0 24)) 12 (va_cpy (σ 54) (σ 12) 40 0 24)) 13 (va_cpy (σ 54) (σ 13) 64 0 24)) 14 (va_cpy (σ 54) (σ 14) 88 0 24)) 15 (va_cpy (σ 54) (σ 15) 3 0 3)) 0 (upd (upd (upd (upd (upd (σ 0) 0 ((σ 54) 0)) 1 ((σ 54) 1)) 2 ((σ 54) 2)) 3 (nI (if 25 ≠ 0 then 25 - 1 else 29))) 4 (nI (kp - 1)))) := by
  refine MV.mk (by decide +kernel) (Nat.le_of_ble_eq_true rfl) ?_
  intro p e s m args below meth c ls A Q hret hC hw hl
  have hC : Cxt E p s m args meth c cX7_restore 4 none RX7 A := hC
  have hl : lv_has ls 4 [(0, .ref (a 68))] := hl
  refine lv_aload_n hC.1 hC.2.1 dX7_restore_0 rfl (lv_at hl 0 rfl) ?_
  refine lv_aload_n hC.1 hC.2.1 dX7_restore_1 rfl (lv_at hl 0 rfl) ?_
  refine gf_X7_28 (v := nI 25) hC hw hnx dX7_restore_2 ?_
  have J19_2 : ∀ (w1 : Nat), w1 = (if 25 ≠ 0 then (25 - 1) else 29) → ∀ (H : Heap) (locs : List Loc) (ls : Array Slot), Wst E (XW E a) (σ) A s.heap H locs → lv_has ls 4 [(0, .ref (a 68))] → W p l e ({ frames := 1, cells := 0, slots := 0, locals := 24 }) s m args below meth c H locs 0 0 Q (F0 m 19 ls [.int (nI w1), .ref (a 68)]) := by
    intro w1 e2 H locs ls hw hl
    subst e2
    refine pf_X7_28 hC hw dX7_restore_19 (fun H locs hw => ?_)
    have hw : Wst E (XW E a) (sr σ 0 (upd (σ 0) 3 (nI (if 25 ≠ 0 then (25 - 1) else 29)))) A s.heap H locs := hw
    refine lv_aload_n hC.1 hC.2.1 dX7_restore_22 rfl (lv_at hl 0 rfl) ?_
    refine lv_dup hC.1 hC.2.1 dX7_restore_23 rfl ?_
    refine gf_X7_65 (v := nI kp) hC hw hkp dX7_restore_24 ?_
    refine lv_iconst (v := nI 1) hC.1 hC.2.1 dX7_restore_27 (by decide) ?_
    refine q_subN hC (by omega) dX7_restore_28 ?_
    refine pf_X7_65 hC hw dX7_restore_29 (fun H locs hw => ?_)
    have hw : Wst E (XW E a) (sr (sr σ 0 (upd (σ 0) 3 (nI (if 25 ≠ 0 then (25 - 1) else 29)))) 0 (upd (upd (σ 0) 3 (nI (if 25 ≠ 0 then (25 - 1) else 29))) 4 (nI (kp - 1)))) A s.heap H locs := hw
    have hst_ : sr (sr σ 0 (upd (σ 0) 3 (nI (if 25 ≠ 0 then (25 - 1) else 29)))) 0 (upd (upd (σ 0) 3 (nI (if 25 ≠ 0 then (25 - 1) else 29))) 4 (nI (kp - 1))) = sr σ 0 (upd (upd (σ 0) 3 (nI (if 25 ≠ 0 then (25 - 1) else 29))) 4 (nI (kp - 1))) := by
      funext j_ x_
      by_cases e0 : j_ = 0
      · subst e0
        by_cases y3 : x_ = 3
        · subst y3; rfl
        · by_cases y4 : x_ = 4
          · subst y4; rfl
          · simp [sr, upd, y3, y4]
      · simp only [sr, e0, if_false]
    rw [hst_] at hw
    refine lv_aload_n hC.1 hC.2.1 dX7_restore_32 rfl (lv_at hl 0 rfl) ?_
    refine gf_X7_13 hC hw dX7_restore_33 ?_
    refine lv_aload_n hC.1 hC.2.1 dX7_restore_36 rfl (lv_at hl 0 rfl) ?_
    refine gf_X7_28 (v := nI (if 25 ≠ 0 then (25 - 1) else 29)) hC hw rfl dX7_restore_37 ?_
    refine q_top (y := nI 24) rfl ?_
    refine q_aald hC hw (i := 24) (by decide) dX7_restore_40 ?_
    refine lv_astore_n (lv' := [(1, .ref (a 54)), (0, .ref (a 68))]) hC.1 hC.2.1 dX7_restore_41 rfl hl (by decide) rfl (fun ls hl => ?_)
    refine lv_aload_n hC.1 hC.2.1 dX7_restore_42 rfl (lv_at hl 1 rfl) ?_
    refine gf_X7_16 hC hw dX7_restore_43 ?_
    refine lv_aload_n hC.1 hC.2.1 dX7_restore_46 rfl (lv_at hl 0 rfl) ?_
    refine lv_iconst (v := nI 0) hC.1 hC.2.1 dX7_restore_47 (by decide) ?_
    refine q_ald (Wf := XW E a) (v := σ 54 0) 64 rfl (by decide) hC hw (by omega) rfl dX7_restore_48 ?_
    refine pf_X7_32 hC hw dX7_restore_49 (fun H locs hw => ?_)
    have hw : Wst E (XW E a) (sr (sr σ 0 (upd (upd (σ 0) 3 (nI (if 25 ≠ 0 then (25 - 1) else 29))) 4 (nI (kp - 1)))) 0 (upd (upd (upd (σ 0) 3 (nI (if 25 ≠ 0 then (25 - 1) else 29))) 4 (nI (kp - 1))) 0 (σ 54 0))) A s.heap H locs := hw
    have hst_ : sr (sr σ 0 (upd (upd (σ 0) 3 (nI (if 25 ≠ 0 then (25 - 1) else 29))) 4 (nI (kp - 1)))) 0 (upd (upd (upd (σ 0) 3 (nI (if 25 ≠ 0 then (25 - 1) else 29))) 4 (nI (kp - 1))) 0 (σ 54 0)) = sr σ 0 (upd (upd (upd (σ 0) 0 (σ 54 0)) 3 (nI (if 25 ≠ 0 then (25 - 1) else 29))) 4 (nI (kp - 1))) := by
      funext j_ x_
      by_cases e0 : j_ = 0
      · subst e0
        by_cases y0 : x_ = 0
        · subst y0; rfl
        · by_cases y3 : x_ = 3
          · subst y3; rfl
          · by_cases y4 : x_ = 4
            · subst y4; rfl
            · simp [sr, upd, y0, y3, y4]
      · simp only [sr, e0, if_false]
    rw [hst_] at hw
    refine lv_aload_n hC.1 hC.2.1 dX7_restore_52 rfl (lv_at hl 1 rfl) ?_
    refine gf_X7_20 hC hw dX7_restore_53 ?_
    refine lv_aload_n hC.1 hC.2.1 dX7_restore_56 rfl (lv_at hl 0 rfl) ?_
    refine lv_iconst (v := nI 1) hC.1 hC.2.1 dX7_restore_57 (by decide) ?_
    refine q_ald (Wf := XW E a) (v := σ 54 1) 64 rfl (by decide) hC hw (by omega) rfl dX7_restore_58 ?_
    refine pf_X7_37 hC hw dX7_restore_59 (fun H locs hw => ?_)
    have hw : Wst E (XW E a) (sr (sr σ 0 (upd (upd (upd (σ 0) 0 (σ 54 0)) 3 (nI (if 25 ≠ 0 then (25 - 1) else 29))) 4 (nI (kp - 1)))) 0 (upd (upd (upd (upd (σ 0) 0 (σ 54 0)) 3 (nI (if 25 ≠ 0 then (25 - 1) else 29))) 4 (nI (kp - 1))) 1 (σ 54 1))) A s.heap H locs := hw
    have hst_ : sr (sr σ 0 (upd (upd (upd (σ 0) 0 (σ 54 0)) 3 (nI (if 25 ≠ 0 then (25 - 1) else 29))) 4 (nI (kp - 1)))) 0 (upd (upd (upd (upd (σ 0) 0 (σ 54 0)) 3 (nI (if 25 ≠ 0 then (25 - 1) else 29))) 4 (nI (kp - 1))) 1 (σ 54 1)) = sr σ 0 (upd (upd (upd (upd (σ 0) 0 (σ 54 0)) 1 (σ 54 1)) 3 (nI (if 25 ≠ 0 then (25 - 1) else 29))) 4 (nI (kp - 1))) := by
      funext j_ x_
      by_cases e0 : j_ = 0
      · subst e0
        by_cases y0 : x_ = 0
        · subst y0; rfl
        · by_cases y1 : x_ = 1
          · subst y1; rfl
          · by_cases y3 : x_ = 3
            · subst y3; rfl
            · by_cases y4 : x_ = 4
              · subst y4; rfl
              · simp [sr, upd, y0, y1, y3, y4]
      · simp only [sr, e0, if_false]
    rw [hst_] at hw
    refine lv_aload_n hC.1 hC.2.1 dX7_restore_62 rfl (lv_at hl 1 rfl) ?_
    refine gf_X7_20 hC hw dX7_restore_63 ?_
    refine lv_aload_n hC.1 hC.2.1 dX7_restore_66 rfl (lv_at hl 0 rfl) ?_
    refine lv_iconst (v := nI 2) hC.1 hC.2.1 dX7_restore_67 (by decide) ?_
    refine q_ald (Wf := XW E a) (v := σ 54 2) 64 rfl (by decide) hC hw (by omega) rfl dX7_restore_68 ?_
    refine pf_X7_40 hC hw dX7_restore_69 (fun H locs hw => ?_)
    have hw : Wst E (XW E a) (sr (sr σ 0 (upd (upd (upd (upd (σ 0) 0 (σ 54 0)) 1 (σ 54 1)) 3 (nI (if 25 ≠ 0 then (25 - 1) else 29))) 4 (nI (kp - 1)))) 0 (upd (upd (upd (upd (upd (σ 0) 0 (σ 54 0)) 1 (σ 54 1)) 3 (nI (if 25 ≠ 0 then (25 - 1) else 29))) 4 (nI (kp - 1))) 2 (σ 54 2))) A s.heap H locs := hw
    have hst_ : sr (sr σ 0 (upd (upd (upd (upd (σ 0) 0 (σ 54 0)) 1 (σ 54 1)) 3 (nI (if 25 ≠ 0 then (25 - 1) else 29))) 4 (nI (kp - 1)))) 0 (upd (upd (upd (upd (upd (σ 0) 0 (σ 54 0)) 1 (σ 54 1)) 3 (nI (if 25 ≠ 0 then (25 - 1) else 29))) 4 (nI (kp - 1))) 2 (σ 54 2)) = sr σ 0 (upd (upd (upd (upd (upd (σ 0) 0 (σ 54 0)) 1 (σ 54 1)) 2 (σ 54 2)) 3 (nI (if 25 ≠ 0 then (25 - 1) else 29))) 4 (nI (kp - 1))) := by
      funext j_ x_
      by_cases e0 : j_ = 0
      · subst e0
        by_cases y0 : x_ = 0
        · subst y0; rfl
        · by_cases y1 : x_ = 1
          · subst y1; rfl
          · by_cases y2 : x_ = 2
            · subst y2; rfl
            · by_cases y3 : x_ = 3
              · subst y3; rfl
              · by_cases y4 : x_ = 4
                · subst y4; rfl
                · simp [sr, upd, y0, y1, y2, y3, y4]
      · simp only [sr, e0, if_false]
    rw [hst_] at hw
    refine lv_iconst (v := nI 3) hC.1 hC.2.1 dX7_restore_72 (by decide) ?_
    refine lv_istore_n (lv' := [(2, .int (nI 3)), (1, .ref (a 54)), (0, .ref (a 68))]) hC.1 hC.2.1 dX7_restore_73 rfl hl (by decide) rfl (fun ls hl => ?_)
    refine lv_aload_n hC.1 hC.2.1 dX7_restore_74 rfl (lv_at hl 1 rfl) ?_
    refine lv_iload_n hC.1 hC.2.1 dX7_restore_75 rfl (lv_at hl 0 rfl) ?_
    refine lv_aload_n hC.1 hC.2.1 dX7_restore_76 rfl (lv_at hl 2 rfl) ?_
    refine gf_X7_24 hC hw dX7_restore_77 ?_
    refine lv_iconst (v := nI 0) hC.1 hC.2.1 dX7_restore_80 (by decide) ?_
    refine lv_iconst (v := nI 3) hC.1 hC.2.1 dX7_restore_81 (by decide) ?_
    refine q_cpy (sp := 3) (dp := 0) (n := 3) 64 rfl 25 rfl (XW_s15 _) hC hw hl (by omega) (by omega) (by decide) (by decide) ⟨Nat.le_of_ble_eq_true rfl, Nat.le_of_ble_eq_true rfl⟩ wk2_182 dX7_restore_82 (fun H locs hw => ?_)
    have hw : Wst E (XW E a) (sr (sr σ 0 (upd (upd (upd (upd (upd (σ 0) 0 (σ 54 0)) 1 (σ 54 1)) 2 (σ 54 2)) 3 (nI (if 25 ≠ 0 then (25 - 1) else 29))) 4 (nI (kp - 1)))) 15 (va_cpy (σ 54) (σ 15) 3 0 3)) A s.heap H locs := hw
    have hst_ : sr (sr σ 0 (upd (upd (upd (upd (upd (σ 0) 0 (σ 54 0)) 1 (σ 54 1)) 2 (σ 54 2)) 3 (nI (if 25 ≠ 0 then (25 - 1) else 29))) 4 (nI (kp - 1)))) 15 (va_cpy (σ 54) (σ 15) 3 0 3) = sr (sr σ 15 (va_cpy (σ 54) (σ 15) 3 0 3)) 0 (upd (upd (upd (upd (upd (σ 0) 0 (σ 54 0)) 1 (σ 54 1)) 2 (σ 54 2)) 3 (nI (if 25 ≠ 0 then (25 - 1) else 29))) 4 (nI (kp - 1))) := by
      funext j_ x_
      by_cases e0 : j_ = 0
      · subst e0
        by_cases y0 : x_ = 0
        · subst y0; rfl
        · by_cases y1 : x_ = 1
          · subst y1; rfl
          · by_cases y2 : x_ = 2
            · subst y2; rfl
            · by_cases y3 : x_ = 3
              · subst y3; rfl
              · by_cases y4 : x_ = 4
                · subst y4; rfl
                · simp [sr, upd, y0, y1, y2, y3, y4]
      · by_cases e15 : j_ = 15
        · subst e15; rfl
        · simp only [sr, e0, e15, if_false]
    rw [hst_] at hw
    refine lv_iinc (v := nI (3 + 3)) (lv' := [(2, .int (nI (3 + 3))), (1, .ref (a 54)), (0, .ref (a 68))]) hC.1 hC.2.1 dX7_restore_85 hl (k := 0) rfl (nI_add _ _) (by decide) rfl (fun ls hl => ?_)
    refine lv_iconst (v := nI 0) hC.1 hC.2.1 dX7_restore_88 (by decide) ?_
    refine lv_istore_n (lv' := [(3, .int (nI 0)), (2, .int (nI (3 + 3))), (1, .ref (a 54)), (0, .ref (a 68))]) hC.1 hC.2.1 dX7_restore_89 rfl hl (by decide) rfl (fun ls hl => ?_)
    have L90_2 : ∀ (n : Nat), ∀ (h : Nat), (h ≤ 10) → (10 - h) < n → ∀ (H : Heap) (locs : List Loc) (ls : Array Slot), Wst E (XW E a) (sr (sr (sr σ 4 (upr (σ 54) h (σ 4))) 15 (va_cpy (σ 54) (σ 15) 3 0 3)) 0 (upd (upd (upd (upd (upd (σ 0) 0 (σ 54 0)) 1 (σ 54 1)) 2 (σ 54 2)) 3 (nI (if 25 ≠ 0 then (25 - 1) else 29))) 4 (nI (kp - 1)))) A s.heap H locs → lv_has ls 4 [(0, .ref (a 68)), (1, .ref (a 54)), (2, .int (nI (3 + 3))), (3, .int (nI h))] → W p l e ({ frames := 1, cells := 0, slots := 0, locals := 24 }) s m args below meth c H locs 0 0 Q (F0 m 90 ls []) := by
      intro n
      induction n with
      | zero => intro h hh hn; exact absurd hn (Nat.not_lt_zero _)
      | succ n ih90 =>
        intro h hh hn90 H locs ls hw hl
        refine lv_iload_n hC.1 hC.2.1 dX7_restore_90 rfl (lv_at hl 3 rfl) ?_
        refine lv_bipush (v := nI 10) hC.1 hC.2.1 dX7_restore_91 (by decide) ?_
        refine q_cmpge hC 125 (cNle (by omega) (by omega)) dX7_restore_93 (by decide) (fun (c4 : 10 ≤ h) => ?_) (fun (c4 : h < 10) => ?_)
        · have hh9 : h = 10 := by omega
          rw [hh9] at hw
          refine lv_iinc (v := nI (3 + 3 + 10)) (lv' := [(2, .int (nI (3 + 3 + 10))), (0, .ref (a 68)), (1, .ref (a 54)), (3, .int (nI h))]) hC.1 hC.2.1 dX7_restore_125 hl (k := 2) rfl (nI_add _ _) (by decide) rfl (fun ls hl => ?_)
          refine lv_aload_n hC.1 hC.2.1 dX7_restore_128 rfl (lv_at hl 2 rfl) ?_
          refine lv_iload_n hC.1 hC.2.1 dX7_restore_129 rfl (lv_at hl 0 rfl) ?_
          refine lv_aload_n hC.1 hC.2.1 dX7_restore_130 rfl (lv_at hl 1 rfl) ?_
          refine gf_X7_20 hC hw dX7_restore_131 ?_
          refine gf_X7_53 hC hw dX7_restore_134 ?_
          refine lv_iconst (v := nI 0) hC.1 hC.2.1 dX7_restore_137 (by decide) ?_
          refine lv_bipush (v := nI 24) hC.1 hC.2.1 dX7_restore_138 (by decide) ?_
          refine q_cpy (sp := (3 + 3 + 10)) (dp := 0) (n := 24) 64 rfl 21 rfl (XW_s11 _) hC hw hl (by omega) (by omega) (by decide) (by decide) ⟨Nat.le_of_ble_eq_true rfl, Nat.le_of_ble_eq_true rfl⟩ wk2_182 dX7_restore_140 (fun H locs hw => ?_)
          have hw : Wst E (XW E a) (sr (sr (sr (sr σ 4 (upr (σ 54) 10 (σ 4))) 15 (va_cpy (σ 54) (σ 15) 3 0 3)) 0 (upd (upd (upd (upd (upd (σ 0) 0 (σ 54 0)) 1 (σ 54 1)) 2 (σ 54 2)) 3 (nI (if 25 ≠ 0 then (25 - 1) else 29))) 4 (nI (kp - 1)))) 11 (va_cpy (σ 54) (σ 11) (3 + 3 + 10) 0 24)) A s.heap H locs := hw
          have hst_ : sr (sr (sr (sr σ 4 (upr (σ 54) 10 (σ 4))) 15 (va_cpy (σ 54) (σ 15) 3 0 3)) 0 (upd (upd (upd (upd (upd (σ 0) 0 (σ 54 0)) 1 (σ 54 1)) 2 (σ 54 2)) 3 (nI (if 25 ≠ 0 then (25 - 1) else 29))) 4 (nI (kp - 1)))) 11 (va_cpy (σ 54) (σ 11) (3 + 3 + 10) 0 24) = sr (sr (sr (sr σ 4 (upr (σ 54) 10 (σ 4))) 11 (va_cpy (σ 54) (σ 11) (3 + 3 + 10) 0 24)) 15 (va_cpy (σ 54) (σ 15) 3 0 3)) 0 (upd (upd (upd (upd (upd (σ 0) 0 (σ 54 0)) 1 (σ 54 1)) 2 (σ 54 2)) 3 (nI (if 25 ≠ 0 then (25 - 1) else 29))) 4 (nI (kp - 1))) := by
            funext j_ x_
            by_cases e0 : j_ = 0
            · subst e0
              by_cases y0 : x_ = 0
              · subst y0; rfl
              · by_cases y1 : x_ = 1
                · subst y1; rfl
                · by_cases y2 : x_ = 2
                  · subst y2; rfl
                  · by_cases y3 : x_ = 3
                    · subst y3; rfl
                    · by_cases y4 : x_ = 4
                      · subst y4; rfl
                      · simp [sr, upd, y0, y1, y2, y3, y4]
            · by_cases e4 : j_ = 4
              · subst e4; rfl
              · by_cases e11 : j_ = 11
                · subst e11; rfl
                · by_cases e15 : j_ = 15
                  · subst e15; rfl
                  · simp only [sr, e0, e4, e11, e15, if_false]
          rw [hst_] at hw
          refine lv_aload_n hC.1 hC.2.1 dX7_restore_143 rfl (lv_at hl 2 rfl) ?_
          refine lv_iload_n hC.1 hC.2.1 dX7_restore_144 rfl (lv_at hl 0 rfl) ?_
          refine lv_bipush (v := nI 24) hC.1 hC.2.1 dX7_restore_145 (by decide) ?_
          refine q_addN hC dX7_restore_147 ?_
          refine lv_aload_n hC.1 hC.2.1 dX7_restore_148 rfl (lv_at hl 1 rfl) ?_
          refine gf_X7_20 hC hw dX7_restore_149 ?_
          refine gf_X7_56 hC hw dX7_restore_152 ?_
          refine lv_iconst (v := nI 0) hC.1 hC.2.1 dX7_restore_155 (by decide) ?_
          refine lv_bipush (v := nI 24) hC.1 hC.2.1 dX7_restore_156 (by decide) ?_
          refine q_cpy (sp := ((3 + 3 + 10) + 24)) (dp := 0) (n := 24) 64 rfl 22 rfl (XW_s12 _) hC hw hl (by omega) (by omega) (by decide) (by decide) ⟨Nat.le_of_ble_eq_true rfl, Nat.le_of_ble_eq_true rfl⟩ wk2_182 dX7_restore_158 (fun H locs hw => ?_)
          have hw : Wst E (XW E a) (sr (sr (sr (sr (sr σ 4 (upr (σ 54) 10 (σ 4))) 11 (va_cpy (σ 54) (σ 11) (3 + 3 + 10) 0 24)) 15 (va_cpy (σ 54) (σ 15) 3 0 3)) 0 (upd (upd (upd (upd (upd (σ 0) 0 (σ 54 0)) 1 (σ 54 1)) 2 (σ 54 2)) 3 (nI (if 25 ≠ 0 then (25 - 1) else 29))) 4 (nI (kp - 1)))) 12 (va_cpy (σ 54) (σ 12) ((3 + 3 + 10) + 24) 0 24)) A s.heap H locs := hw
          have hst_ : sr (sr (sr (sr (sr σ 4 (upr (σ 54) 10 (σ 4))) 11 (va_cpy (σ 54) (σ 11) (3 + 3 + 10) 0 24)) 15 (va_cpy (σ 54) (σ 15) 3 0 3)) 0 (upd (upd (upd (upd (upd (σ 0) 0 (σ 54 0)) 1 (σ 54 1)) 2 (σ 54 2)) 3 (nI (if 25 ≠ 0 then (25 - 1) else 29))) 4 (nI (kp - 1)))) 12 (va_cpy (σ 54) (σ 12) ((3 + 3 + 10) + 24) 0 24) = sr (sr (sr (sr (sr σ 4 (upr (σ 54) 10 (σ 4))) 11 (va_cpy (σ 54) (σ 11) (3 + 3 + 10) 0 24)) 12 (va_cpy (σ 54) (σ 12) ((3 + 3 + 10) + 24) 0 24)) 15 (va_cpy (σ 54) (σ 15) 3 0 3)) 0 (upd (upd (upd (upd (upd (σ 0) 0 (σ 54 0)) 1 (σ 54 1)) 2 (σ 54 2)) 3 (nI (if 25 ≠ 0 then (25 - 1) else 29))) 4 (nI (kp - 1))) := by
            funext j_ x_
            by_cases e0 : j_ = 0
            · subst e0
              by_cases y0 : x_ = 0
              · subst y0; rfl
              · by_cases y1 : x_ = 1
                · subst y1; rfl
                · by_cases y2 : x_ = 2
                  · subst y2; rfl
                  · by_cases y3 : x_ = 3
                    · subst y3; rfl
                    · by_cases y4 : x_ = 4
                      · subst y4; rfl
                      · simp [sr, upd, y0, y1, y2, y3, y4]
            · by_cases e4 : j_ = 4
              · subst e4; rfl
              · by_cases e11 : j_ = 11
                · subst e11; rfl
                · by_cases e12 : j_ = 12
                  · subst e12; rfl
                  · by_cases e15 : j_ = 15
                    · subst e15; rfl
                    · simp only [sr, e0, e4, e11, e12, e15, if_false]
          rw [hst_] at hw
          refine lv_aload_n hC.1 hC.2.1 dX7_restore_161 rfl (lv_at hl 2 rfl) ?_
          refine lv_iload_n hC.1 hC.2.1 dX7_restore_162 rfl (lv_at hl 0 rfl) ?_
          refine lv_bipush (v := nI 48) hC.1 hC.2.1 dX7_restore_163 (by decide) ?_
          refine q_addN hC dX7_restore_165 ?_
          refine lv_aload_n hC.1 hC.2.1 dX7_restore_166 rfl (lv_at hl 1 rfl) ?_
          refine gf_X7_20 hC hw dX7_restore_167 ?_
          refine gf_X7_59 hC hw dX7_restore_170 ?_
          refine lv_iconst (v := nI 0) hC.1 hC.2.1 dX7_restore_173 (by decide) ?_
          refine lv_bipush (v := nI 24) hC.1 hC.2.1 dX7_restore_174 (by decide) ?_
          refine q_cpy (sp := ((3 + 3 + 10) + 48)) (dp := 0) (n := 24) 64 rfl 23 rfl (XW_s13 _) hC hw hl (by omega) (by omega) (by decide) (by decide) ⟨Nat.le_of_ble_eq_true rfl, Nat.le_of_ble_eq_true rfl⟩ wk2_182 dX7_restore_176 (fun H locs hw => ?_)
          have hw : Wst E (XW E a) (sr (sr (sr (sr (sr (sr σ 4 (upr (σ 54) 10 (σ 4))) 11 (va_cpy (σ 54) (σ 11) (3 + 3 + 10) 0 24)) 12 (va_cpy (σ 54) (σ 12) ((3 + 3 + 10) + 24) 0 24)) 15 (va_cpy (σ 54) (σ 15) 3 0 3)) 0 (upd (upd (upd (upd (upd (σ 0) 0 (σ 54 0)) 1 (σ 54 1)) 2 (σ 54 2)) 3 (nI (if 25 ≠ 0 then (25 - 1) else 29))) 4 (nI (kp - 1)))) 13 (va_cpy (σ 54) (σ 13) ((3 + 3 + 10) + 48) 0 24)) A s.heap H locs := hw
          have hst_ : sr (sr (sr (sr (sr (sr σ 4 (upr (σ 54) 10 (σ 4))) 11 (va_cpy (σ 54) (σ 11) (3 + 3 + 10) 0 24)) 12 (va_cpy (σ 54) (σ 12) ((3 + 3 + 10) + 24) 0 24)) 15 (va_cpy (σ 54) (σ 15) 3 0 3)) 0 (upd (upd (upd (upd (upd (σ 0) 0 (σ 54 0)) 1 (σ 54 1)) 2 (σ 54 2)) 3 (nI (if 25 ≠ 0 then (25 - 1) else 29))) 4 (nI (kp - 1)))) 13 (va_cpy (σ 54) (σ 13) ((3 + 3 + 10) + 48) 0 24) = sr (sr (sr (sr (sr (sr σ 4 (upr (σ 54) 10 (σ 4))) 11 (va_cpy (σ 54) (σ 11) (3 + 3 + 10) 0 24)) 12 (va_cpy (σ 54) (σ 12) ((3 + 3 + 10) + 24) 0 24)) 13 (va_cpy (σ 54) (σ 13) ((3 + 3 + 10) + 48) 0 24)) 15 (va_cpy (σ 54) (σ 15) 3 0 3)) 0 (upd (upd (upd (upd (upd (σ 0) 0 (σ 54 0)) 1 (σ 54 1)) 2 (σ 54 2)) 3 (nI (if 25 ≠ 0 then (25 - 1) else 29))) 4 (nI (kp - 1))) := by
            funext j_ x_
            by_cases e0 : j_ = 0
            · subst e0
              by_cases y0 : x_ = 0
              · subst y0; rfl
              · by_cases y1 : x_ = 1
                · subst y1; rfl
                · by_cases y2 : x_ = 2
                  · subst y2; rfl
                  · by_cases y3 : x_ = 3
                    · subst y3; rfl
                    · by_cases y4 : x_ = 4
                      · subst y4; rfl
                      · simp [sr, upd, y0, y1, y2, y3, y4]
            · by_cases e4 : j_ = 4
              · subst e4; rfl
              · by_cases e11 : j_ = 11
                · subst e11; rfl
                · by_cases e12 : j_ = 12
                  · subst e12; rfl
                  · by_cases e13 : j_ = 13
                    · subst e13; rfl
                    · by_cases e15 : j_ = 15
                      · subst e15; rfl
                      · simp only [sr, e0, e4, e11, e12, e13, e15, if_false]
          rw [hst_] at hw
          refine lv_aload_n hC.1 hC.2.1 dX7_restore_179 rfl (lv_at hl 2 rfl) ?_
          refine lv_iload_n hC.1 hC.2.1 dX7_restore_180 rfl (lv_at hl 0 rfl) ?_
          refine lv_bipush (v := nI 72) hC.1 hC.2.1 dX7_restore_181 (by decide) ?_
          refine q_addN hC dX7_restore_183 ?_
          refine lv_aload_n hC.1 hC.2.1 dX7_restore_184 rfl (lv_at hl 1 rfl) ?_
          refine gf_X7_20 hC hw dX7_restore_185 ?_
          refine gf_X7_62 hC hw dX7_restore_188 ?_
          refine lv_iconst (v := nI 0) hC.1 hC.2.1 dX7_restore_191 (by decide) ?_
          refine lv_bipush (v := nI 24) hC.1 hC.2.1 dX7_restore_192 (by decide) ?_
          refine q_cpy (sp := ((3 + 3 + 10) + 72)) (dp := 0) (n := 24) 64 rfl 24 rfl (XW_s14 _) hC hw hl (by omega) (by omega) (by decide) (by decide) ⟨Nat.le_of_ble_eq_true rfl, Nat.le_of_ble_eq_true rfl⟩ wk2_182 dX7_restore_194 (fun H locs hw => ?_)
          have hw : Wst E (XW E a) (sr (sr (sr (sr (sr (sr (sr σ 4 (upr (σ 54) 10 (σ 4))) 11 (va_cpy (σ 54) (σ 11) (3 + 3 + 10) 0 24)) 12 (va_cpy (σ 54) (σ 12) ((3 + 3 + 10) + 24) 0 24)) 13 (va_cpy (σ 54) (σ 13) ((3 + 3 + 10) + 48) 0 24)) 15 (va_cpy (σ 54) (σ 15) 3 0 3)) 0 (upd (upd (upd (upd (upd (σ 0) 0 (σ 54 0)) 1 (σ 54 1)) 2 (σ 54 2)) 3 (nI (if 25 ≠ 0 then (25 - 1) else 29))) 4 (nI (kp - 1)))) 14 (va_cpy (σ 54) (σ 14) ((3 + 3 + 10) + 72) 0 24)) A s.heap H locs := hw
          have hst_ : sr (sr (sr (sr (sr (sr (sr σ 4 (upr (σ 54) 10 (σ 4))) 11 (va_cpy (σ 54) (σ 11) (3 + 3 + 10) 0 24)) 12 (va_cpy (σ 54) (σ 12) ((3 + 3 + 10) + 24) 0 24)) 13 (va_cpy (σ 54) (σ 13) ((3 + 3 + 10) + 48) 0 24)) 15 (va_cpy (σ 54) (σ 15) 3 0 3)) 0 (upd (upd (upd (upd (upd (σ 0) 0 (σ 54 0)) 1 (σ 54 1)) 2 (σ 54 2)) 3 (nI (if 25 ≠ 0 then (25 - 1) else 29))) 4 (nI (kp - 1)))) 14 (va_cpy (σ 54) (σ 14) ((3 + 3 + 10) + 72) 0 24) = sr (sr (sr (sr (sr (sr (sr σ 4 (upr (σ 54) 10 (σ 4))) 11 (va_cpy (σ 54) (σ 11) (3 + 3 + 10) 0 24)) 12 (va_cpy (σ 54) (σ 12) ((3 + 3 + 10) + 24) 0 24)) 13 (va_cpy (σ 54) (σ 13) ((3 + 3 + 10) + 48) 0 24)) 14 (va_cpy (σ 54) (σ 14) ((3 + 3 + 10) + 72) 0 24)) 15 (va_cpy (σ 54) (σ 15) 3 0 3)) 0 (upd (upd (upd (upd (upd (σ 0) 0 (σ 54 0)) 1 (σ 54 1)) 2 (σ 54 2)) 3 (nI (if 25 ≠ 0 then (25 - 1) else 29))) 4 (nI (kp - 1))) := by
            funext j_ x_
            by_cases e0 : j_ = 0
            · subst e0
              by_cases y0 : x_ = 0
              · subst y0; rfl
              · by_cases y1 : x_ = 1
                · subst y1; rfl
                · by_cases y2 : x_ = 2
                  · subst y2; rfl
                  · by_cases y3 : x_ = 3
                    · subst y3; rfl
                    · by_cases y4 : x_ = 4
                      · subst y4; rfl
                      · simp [sr, upd, y0, y1, y2, y3, y4]
            · by_cases e4 : j_ = 4
              · subst e4; rfl
              · by_cases e11 : j_ = 11
                · subst e11; rfl
                · by_cases e12 : j_ = 12
                  · subst e12; rfl
                  · by_cases e13 : j_ = 13
                    · subst e13; rfl
                    · by_cases e14 : j_ = 14
                      · subst e14; rfl
                      · by_cases e15 : j_ = 15
                        · subst e15; rfl
                        · simp only [sr, e0, e4, e11, e12, e13, e14, e15, if_false]
          rw [hst_] at hw
          refine hret _ _ _ _ _ hw ?_ dX7_restore_197
          exact rfl
        · refine lv_aload_n hC.1 hC.2.1 dX7_restore_96 rfl (lv_at hl 0 rfl) ?_
          refine gf_X7_16 hC hw dX7_restore_97 ?_
          refine gf_X7_49 hC hw dX7_restore_100 ?_
          refine lv_iload_n hC.1 hC.2.1 dX7_restore_103 rfl (lv_at hl 3 rfl) ?_
          refine lv_aload_n hC.1 hC.2.1 dX7_restore_104 rfl (lv_at hl 1 rfl) ?_
          refine lv_iload_n hC.1 hC.2.1 dX7_restore_105 rfl (lv_at hl 2 rfl) ?_
          refine lv_iload_n hC.1 hC.2.1 dX7_restore_106 rfl (lv_at hl 3 rfl) ?_
          refine q_addN hC dX7_restore_107 ?_
          refine q_ald (Wf := XW E a) (v := σ 54 ((3 + 3) + h)) 64 rfl (by decide) hC hw (by omega) rfl dX7_restore_108 ?_
          refine lv_iconst (v := nI 1) hC.1 hC.2.1 dX7_restore_109 (by decide) ?_
          have J118_6 : ∀ (w5 : Int32), w5 = (if (σ 54 ((3 + 3) + h)) = 1 then (1 : Int32) else 0) → ∀ (H : Heap) (locs : List Loc) (ls : Array Slot), Wst E (XW E a) (sr (sr (sr σ 4 (upr (σ 54) h (σ 4))) 15 (va_cpy (σ 54) (σ 15) 3 0 3)) 0 (upd (upd (upd (upd (upd (σ 0) 0 (σ 54 0)) 1 (σ 54 1)) 2 (σ 54 2)) 3 (nI (if 25 ≠ 0 then (25 - 1) else 29))) 4 (nI (kp - 1)))) A s.heap H locs → lv_has ls 4 [(0, .ref (a 68)), (1, .ref (a 54)), (2, .int (nI (3 + 3))), (3, .int (nI h))] → W p l e ({ frames := 1, cells := 0, slots := 0, locals := 24 }) s m args below meth c H locs 0 0 Q (F0 m 118 ls [.int (w5), .int (nI h), .ref (a 4)]) := by
            intro w5 e6 H locs ls hw hl
            subst e6
            refine as_X4 hC hw (by omega) vz_B dX7_restore_118 (fun H locs hw => ?_)
            have hw : Wst E (XW E a) (sr (sr (sr (sr σ 4 (upr (σ 54) h (σ 4))) 15 (va_cpy (σ 54) (σ 15) 3 0 3)) 0 (upd (upd (upd (upd (upd (σ 0) 0 (σ 54 0)) 1 (σ 54 1)) 2 (σ 54 2)) 3 (nI (if 25 ≠ 0 then (25 - 1) else 29))) 4 (nI (kp - 1)))) 4 (upd (upr (σ 54) h (σ 4)) h (if (σ 54 ((3 + 3) + h)) = 1 then (1 : Int32) else 0))) A s.heap H locs := hw
            have hst_ : sr (sr (sr (sr σ 4 (upr (σ 54) h (σ 4))) 15 (va_cpy (σ 54) (σ 15) 3 0 3)) 0 (upd (upd (upd (upd (upd (σ 0) 0 (σ 54 0)) 1 (σ 54 1)) 2 (σ 54 2)) 3 (nI (if 25 ≠ 0 then (25 - 1) else 29))) 4 (nI (kp - 1)))) 4 (upd (upr (σ 54) h (σ 4)) h (if (σ 54 ((3 + 3) + h)) = 1 then (1 : Int32) else 0)) = sr (sr (sr σ 4 (upd (upr (σ 54) h (σ 4)) h (if (σ 54 ((3 + 3) + h)) = 1 then (1 : Int32) else 0))) 15 (va_cpy (σ 54) (σ 15) 3 0 3)) 0 (upd (upd (upd (upd (upd (σ 0) 0 (σ 54 0)) 1 (σ 54 1)) 2 (σ 54 2)) 3 (nI (if 25 ≠ 0 then (25 - 1) else 29))) 4 (nI (kp - 1))) := by
              funext j_ x_
              by_cases e0 : j_ = 0
              · subst e0
                by_cases y0 : x_ = 0
                · subst y0; rfl
                · by_cases y1 : x_ = 1
                  · subst y1; rfl
                  · by_cases y2 : x_ = 2
                    · subst y2; rfl
                    · by_cases y3 : x_ = 3
                      · subst y3; rfl
                      · by_cases y4 : x_ = 4
                        · subst y4; rfl
                        · simp [sr, upd, y0, y1, y2, y3, y4]
              · by_cases e4 : j_ = 4
                · subst e4; rfl
                · by_cases e15 : j_ = 15
                  · subst e15; rfl
                  · simp only [sr, e0, e4, e15, if_false]
            rw [hst_] at hw
            refine lv_iinc (v := nI (h + 1)) (lv' := [(3, .int (nI (h + 1))), (0, .ref (a 68)), (1, .ref (a 54)), (2, .int (nI (3 + 3)))]) hC.1 hC.2.1 dX7_restore_119 hl (k := 3) rfl (nI_add _ _) (by decide) rfl (fun ls hl => ?_)
            refine lv_goto (tgt := 90) hC.1 hC.2.1 dX7_restore_122 (by decide) ?_
            rw [upr_s] at hw
            exact ih90 (h + 1) (by omega) (by omega) _ _ _ hw (lv_sub hl [1, 2, 3, 0] rfl)
          refine q_cmpne hC 117 cI dX7_restore_110 (by decide) (fun (c7 : ¬ ((σ 54 ((3 + 3) + h)) = 1)) => ?_) (fun (c7 : (σ 54 ((3 + 3) + h)) = 1) => ?_)
          · refine lv_iconst (v := nI 0) hC.1 hC.2.1 dX7_restore_117 (by decide) ?_
            exact J118_6 _ (if_neg c7).symm _ _ _ hw (lv_sub hl [0, 1, 2, 3] rfl)
          · refine lv_iconst (v := nI 1) hC.1 hC.2.1 dX7_restore_113 (by decide) ?_
            refine lv_goto (tgt := 118) hC.1 hC.2.1 dX7_restore_114 (by decide) ?_
            exact J118_6 _ (if_pos c7).symm _ _ _ hw (lv_sub hl [0, 1, 2, 3] rfl)
    have hst_ : sr (sr σ 15 (va_cpy (σ 54) (σ 15) 3 0 3)) 0 (upd (upd (upd (upd (upd (σ 0) 0 (σ 54 0)) 1 (σ 54 1)) 2 (σ 54 2)) 3 (nI (if 25 ≠ 0 then (25 - 1) else 29))) 4 (nI (kp - 1))) = sr (sr (sr σ 4 (upr (σ 54) 0 (σ 4))) 15 (va_cpy (σ 54) (σ 15) 3 0 3)) 0 (upd (upd (upd (upd (upd (σ 0) 0 (σ 54 0)) 1 (σ 54 1)) 2 (σ 54 2)) 3 (nI (if 25 ≠ 0 then (25 - 1) else 29))) 4 (nI (kp - 1))) := by
      funext j_ x_
      by_cases e0 : j_ = 0
      · subst e0
        by_cases y0 : x_ = 0
        · subst y0; rfl
        · by_cases y1 : x_ = 1
          · subst y1; rfl
          · by_cases y2 : x_ = 2
            · subst y2; rfl
            · by_cases y3 : x_ = 3
              · subst y3; rfl
              · by_cases y4 : x_ = 4
                · subst y4; rfl
                · simp [sr, upd, y0, y1, y2, y3, y4]
      · by_cases e4 : j_ = 4
        · subst e4; show σ 4 x_ = upr (σ 54) 0 (σ 4) x_; rw [upr_0]
        · by_cases e15 : j_ = 15
          · subst e15; rfl
          · simp only [sr, e0, e4, e15, if_false]
    rw [hst_] at hw
    exact L90_2 _ 0 (by omega) (Nat.lt_succ_self _) _ _ _ hw (lv_sub hl [3, 2, 1, 0] rfl)
  refine q_ifne hC 13 (cN0 (by omega)) dX7_restore_5 (by decide) (fun (c8 : 25 ≠ 0) => ?_) (fun (c8 : 25 = 0) => ?_)
  · refine lv_aload_n hC.1 hC.2.1 dX7_restore_13 rfl (lv_at hl 0 rfl) ?_
    refine gf_X7_28 (v := nI 25) hC hw hnx dX7_restore_14 ?_
    refine lv_iconst (v := nI 1) hC.1 hC.2.1 dX7_restore_17 (by decide) ?_
    refine q_subN hC (by omega) dX7_restore_18 ?_
    exact J19_2 _ (by (rw [if_pos c8]) <;> rfl) _ _ _ hw (lv_sub hl [0] rfl)
  · refine lv_bipush (v := nI 29) hC.1 hC.2.1 dX7_restore_8 (by decide) ?_
    refine lv_goto (tgt := 19) hC.1 hC.2.1 dX7_restore_10 (by decide) ?_
    exact J19_2 _ (by (rw [if_neg (fun q => q c8)]) <;> rfl) _ _ _ hw (lv_sub hl [0] rfl)
set_option maxHeartbeats 4000000 in
set_option maxRecDepth 100000 in
theorem tX7_restore_k26 (l : Launch) (E : EV) (a : Nat → Nat) (σ : St) (kp : Nat) (hnx : σ 0 3 = nI 26) (hkp : σ 0 4 = nI kp) (hk30 : kp ≤ 30) (hk1 : 1 ≤ kp) : MV l E (XW E a) yX7_restore (Cond.code yX7_restore cX7_restore 4 none) ({ frames := 1, cells := 0, slots := 0, locals := 24 }) [.ref (a 68)] σ (fun u_ => u_ = sr (sr (sr (sr (sr (sr (sr σ 4 (upr (σ 55) 10 (σ 4))) 11 (va_cpy (σ 55) (σ 11) 16 0 24)) 12 (va_cpy (σ 55) (σ 12) 40 0 24)) 13 (va_cpy (σ 55) (σ 13) 64 0 24)) 14 (va_cpy (σ 55) (σ 14) 88 0 24)) 15 (va_cpy (σ 55) (σ 15) 3 0 3)) 0 (upd (upd (upd (upd (upd (σ 0) 0 ((σ 55) 0)) 1 ((σ 55) 1)) 2 ((σ 55) 2)) 3 (nI (if 26 ≠ 0 then 26 - 1 else 29))) 4 (nI (kp - 1)))) := by
  refine MV.mk (by decide +kernel) (Nat.le_of_ble_eq_true rfl) ?_
  intro p e s m args below meth c ls A Q hret hC hw hl
  have hC : Cxt E p s m args meth c cX7_restore 4 none RX7 A := hC
  have hl : lv_has ls 4 [(0, .ref (a 68))] := hl
  refine lv_aload_n hC.1 hC.2.1 dX7_restore_0 rfl (lv_at hl 0 rfl) ?_
  refine lv_aload_n hC.1 hC.2.1 dX7_restore_1 rfl (lv_at hl 0 rfl) ?_
  refine gf_X7_28 (v := nI 26) hC hw hnx dX7_restore_2 ?_
  have J19_2 : ∀ (w1 : Nat), w1 = (if 26 ≠ 0 then (26 - 1) else 29) → ∀ (H : Heap) (locs : List Loc) (ls : Array Slot), Wst E (XW E a) (σ) A s.heap H locs → lv_has ls 4 [(0, .ref (a 68))] → W p l e ({ frames := 1, cells := 0, slots := 0, locals := 24 }) s m args below meth c H locs 0 0 Q (F0 m 19 ls [.int (nI w1), .ref (a 68)]) := by
    intro w1 e2 H locs ls hw hl
    subst e2
    refine pf_X7_28 hC hw dX7_restore_19 (fun H locs hw => ?_)
    have hw : Wst E (XW E a) (sr σ 0 (upd (σ 0) 3 (nI (if 26 ≠ 0 then (26 - 1) else 29)))) A s.heap H locs := hw
    refine lv_aload_n hC.1 hC.2.1 dX7_restore_22 rfl (lv_at hl 0 rfl) ?_
    refine lv_dup hC.1 hC.2.1 dX7_restore_23 rfl ?_
    refine gf_X7_65 (v := nI kp) hC hw hkp dX7_restore_24 ?_
    refine lv_iconst (v := nI 1) hC.1 hC.2.1 dX7_restore_27 (by decide) ?_
    refine q_subN hC (by omega) dX7_restore_28 ?_
    refine pf_X7_65 hC hw dX7_restore_29 (fun H locs hw => ?_)
    have hw : Wst E (XW E a) (sr (sr σ 0 (upd (σ 0) 3 (nI (if 26 ≠ 0 then (26 - 1) else 29)))) 0 (upd (upd (σ 0) 3 (nI (if 26 ≠ 0 then (26 - 1) else 29))) 4 (nI (kp - 1)))) A s.heap H locs := hw
    have hst_ : sr (sr σ 0 (upd (σ 0) 3 (nI (if 26 ≠ 0 then (26 - 1) else 29)))) 0 (upd (upd (σ 0) 3 (nI (if 26 ≠ 0 then (26 - 1) else 29))) 4 (nI (kp - 1))) = sr σ 0 (upd (upd (σ 0) 3 (nI (if 26 ≠ 0 then (26 - 1) else 29))) 4 (nI (kp - 1))) := by
      funext j_ x_
      by_cases e0 : j_ = 0
      · subst e0
        by_cases y3 : x_ = 3
        · subst y3; rfl
        · by_cases y4 : x_ = 4
          · subst y4; rfl
          · simp [sr, upd, y3, y4]
      · simp only [sr, e0, if_false]
    rw [hst_] at hw
    refine lv_aload_n hC.1 hC.2.1 dX7_restore_32 rfl (lv_at hl 0 rfl) ?_
    refine gf_X7_13 hC hw dX7_restore_33 ?_
    refine lv_aload_n hC.1 hC.2.1 dX7_restore_36 rfl (lv_at hl 0 rfl) ?_
    refine gf_X7_28 (v := nI (if 26 ≠ 0 then (26 - 1) else 29)) hC hw rfl dX7_restore_37 ?_
    refine q_top (y := nI 25) rfl ?_
    refine q_aald hC hw (i := 25) (by decide) dX7_restore_40 ?_
    refine lv_astore_n (lv' := [(1, .ref (a 55)), (0, .ref (a 68))]) hC.1 hC.2.1 dX7_restore_41 rfl hl (by decide) rfl (fun ls hl => ?_)
    refine lv_aload_n hC.1 hC.2.1 dX7_restore_42 rfl (lv_at hl 1 rfl) ?_
    refine gf_X7_16 hC hw dX7_restore_43 ?_
    refine lv_aload_n hC.1 hC.2.1 dX7_restore_46 rfl (lv_at hl 0 rfl) ?_
    refine lv_iconst (v := nI 0) hC.1 hC.2.1 dX7_restore_47 (by decide) ?_
    refine q_ald (Wf := XW E a) (v := σ 55 0) 65 rfl (by decide) hC hw (by omega) rfl dX7_restore_48 ?_
    refine pf_X7_32 hC hw dX7_restore_49 (fun H locs hw => ?_)
    have hw : Wst E (XW E a) (sr (sr σ 0 (upd (upd (σ 0) 3 (nI (if 26 ≠ 0 then (26 - 1) else 29))) 4 (nI (kp - 1)))) 0 (upd (upd (upd (σ 0) 3 (nI (if 26 ≠ 0 then (26 - 1) else 29))) 4 (nI (kp - 1))) 0 (σ 55 0))) A s.heap H locs := hw
    have hst_ : sr (sr σ 0 (upd (upd (σ 0) 3 (nI (if 26 ≠ 0 then (26 - 1) else 29))) 4 (nI (kp - 1)))) 0 (upd (upd (upd (σ 0) 3 (nI (if 26 ≠ 0 then (26 - 1) else 29))) 4 (nI (kp - 1))) 0 (σ 55 0)) = sr σ 0 (upd (upd (upd (σ 0) 0 (σ 55 0)) 3 (nI (if 26 ≠ 0 then (26 - 1) else 29))) 4 (nI (kp - 1))) := by
      funext j_ x_
      by_cases e0 : j_ = 0
      · subst e0
        by_cases y0 : x_ = 0
        · subst y0; rfl
        · by_cases y3 : x_ = 3
          · subst y3; rfl
          · by_cases y4 : x_ = 4
            · subst y4; rfl
            · simp [sr, upd, y0, y3, y4]
      · simp only [sr, e0, if_false]
    rw [hst_] at hw
    refine lv_aload_n hC.1 hC.2.1 dX7_restore_52 rfl (lv_at hl 1 rfl) ?_
    refine gf_X7_20 hC hw dX7_restore_53 ?_
    refine lv_aload_n hC.1 hC.2.1 dX7_restore_56 rfl (lv_at hl 0 rfl) ?_
    refine lv_iconst (v := nI 1) hC.1 hC.2.1 dX7_restore_57 (by decide) ?_
    refine q_ald (Wf := XW E a) (v := σ 55 1) 65 rfl (by decide) hC hw (by omega) rfl dX7_restore_58 ?_
    refine pf_X7_37 hC hw dX7_restore_59 (fun H locs hw => ?_)
    have hw : Wst E (XW E a) (sr (sr σ 0 (upd (upd (upd (σ 0) 0 (σ 55 0)) 3 (nI (if 26 ≠ 0 then (26 - 1) else 29))) 4 (nI (kp - 1)))) 0 (upd (upd (upd (upd (σ 0) 0 (σ 55 0)) 3 (nI (if 26 ≠ 0 then (26 - 1) else 29))) 4 (nI (kp - 1))) 1 (σ 55 1))) A s.heap H locs := hw
    have hst_ : sr (sr σ 0 (upd (upd (upd (σ 0) 0 (σ 55 0)) 3 (nI (if 26 ≠ 0 then (26 - 1) else 29))) 4 (nI (kp - 1)))) 0 (upd (upd (upd (upd (σ 0) 0 (σ 55 0)) 3 (nI (if 26 ≠ 0 then (26 - 1) else 29))) 4 (nI (kp - 1))) 1 (σ 55 1)) = sr σ 0 (upd (upd (upd (upd (σ 0) 0 (σ 55 0)) 1 (σ 55 1)) 3 (nI (if 26 ≠ 0 then (26 - 1) else 29))) 4 (nI (kp - 1))) := by
      funext j_ x_
      by_cases e0 : j_ = 0
      · subst e0
        by_cases y0 : x_ = 0
        · subst y0; rfl
        · by_cases y1 : x_ = 1
          · subst y1; rfl
          · by_cases y3 : x_ = 3
            · subst y3; rfl
            · by_cases y4 : x_ = 4
              · subst y4; rfl
              · simp [sr, upd, y0, y1, y3, y4]
      · simp only [sr, e0, if_false]
    rw [hst_] at hw
    refine lv_aload_n hC.1 hC.2.1 dX7_restore_62 rfl (lv_at hl 1 rfl) ?_
    refine gf_X7_20 hC hw dX7_restore_63 ?_
    refine lv_aload_n hC.1 hC.2.1 dX7_restore_66 rfl (lv_at hl 0 rfl) ?_
    refine lv_iconst (v := nI 2) hC.1 hC.2.1 dX7_restore_67 (by decide) ?_
    refine q_ald (Wf := XW E a) (v := σ 55 2) 65 rfl (by decide) hC hw (by omega) rfl dX7_restore_68 ?_
    refine pf_X7_40 hC hw dX7_restore_69 (fun H locs hw => ?_)
    have hw : Wst E (XW E a) (sr (sr σ 0 (upd (upd (upd (upd (σ 0) 0 (σ 55 0)) 1 (σ 55 1)) 3 (nI (if 26 ≠ 0 then (26 - 1) else 29))) 4 (nI (kp - 1)))) 0 (upd (upd (upd (upd (upd (σ 0) 0 (σ 55 0)) 1 (σ 55 1)) 3 (nI (if 26 ≠ 0 then (26 - 1) else 29))) 4 (nI (kp - 1))) 2 (σ 55 2))) A s.heap H locs := hw
    have hst_ : sr (sr σ 0 (upd (upd (upd (upd (σ 0) 0 (σ 55 0)) 1 (σ 55 1)) 3 (nI (if 26 ≠ 0 then (26 - 1) else 29))) 4 (nI (kp - 1)))) 0 (upd (upd (upd (upd (upd (σ 0) 0 (σ 55 0)) 1 (σ 55 1)) 3 (nI (if 26 ≠ 0 then (26 - 1) else 29))) 4 (nI (kp - 1))) 2 (σ 55 2)) = sr σ 0 (upd (upd (upd (upd (upd (σ 0) 0 (σ 55 0)) 1 (σ 55 1)) 2 (σ 55 2)) 3 (nI (if 26 ≠ 0 then (26 - 1) else 29))) 4 (nI (kp - 1))) := by
      funext j_ x_
      by_cases e0 : j_ = 0
      · subst e0
        by_cases y0 : x_ = 0
        · subst y0; rfl
        · by_cases y1 : x_ = 1
          · subst y1; rfl
          · by_cases y2 : x_ = 2
            · subst y2; rfl
            · by_cases y3 : x_ = 3
              · subst y3; rfl
              · by_cases y4 : x_ = 4
                · subst y4; rfl
                · simp [sr, upd, y0, y1, y2, y3, y4]
      · simp only [sr, e0, if_false]
    rw [hst_] at hw
    refine lv_iconst (v := nI 3) hC.1 hC.2.1 dX7_restore_72 (by decide) ?_
    refine lv_istore_n (lv' := [(2, .int (nI 3)), (1, .ref (a 55)), (0, .ref (a 68))]) hC.1 hC.2.1 dX7_restore_73 rfl hl (by decide) rfl (fun ls hl => ?_)
    refine lv_aload_n hC.1 hC.2.1 dX7_restore_74 rfl (lv_at hl 1 rfl) ?_
    refine lv_iload_n hC.1 hC.2.1 dX7_restore_75 rfl (lv_at hl 0 rfl) ?_
    refine lv_aload_n hC.1 hC.2.1 dX7_restore_76 rfl (lv_at hl 2 rfl) ?_
    refine gf_X7_24 hC hw dX7_restore_77 ?_
    refine lv_iconst (v := nI 0) hC.1 hC.2.1 dX7_restore_80 (by decide) ?_
    refine lv_iconst (v := nI 3) hC.1 hC.2.1 dX7_restore_81 (by decide) ?_
    refine q_cpy (sp := 3) (dp := 0) (n := 3) 65 rfl 25 rfl (XW_s15 _) hC hw hl (by omega) (by omega) (by decide) (by decide) ⟨Nat.le_of_ble_eq_true rfl, Nat.le_of_ble_eq_true rfl⟩ wk2_182 dX7_restore_82 (fun H locs hw => ?_)
    have hw : Wst E (XW E a) (sr (sr σ 0 (upd (upd (upd (upd (upd (σ 0) 0 (σ 55 0)) 1 (σ 55 1)) 2 (σ 55 2)) 3 (nI (if 26 ≠ 0 then (26 - 1) else 29))) 4 (nI (kp - 1)))) 15 (va_cpy (σ 55) (σ 15) 3 0 3)) A s.heap H locs := hw
    have hst_ : sr (sr σ 0 (upd (upd (upd (upd (upd (σ 0) 0 (σ 55 0)) 1 (σ 55 1)) 2 (σ 55 2)) 3 (nI (if 26 ≠ 0 then (26 - 1) else 29))) 4 (nI (kp - 1)))) 15 (va_cpy (σ 55) (σ 15) 3 0 3) = sr (sr σ 15 (va_cpy (σ 55) (σ 15) 3 0 3)) 0 (upd (upd (upd (upd (upd (σ 0) 0 (σ 55 0)) 1 (σ 55 1)) 2 (σ 55 2)) 3 (nI (if 26 ≠ 0 then (26 - 1) else 29))) 4 (nI (kp - 1))) := by
      funext j_ x_
      by_cases e0 : j_ = 0
      · subst e0
        by_cases y0 : x_ = 0
        · subst y0; rfl
        · by_cases y1 : x_ = 1
          · subst y1; rfl
          · by_cases y2 : x_ = 2
            · subst y2; rfl
            · by_cases y3 : x_ = 3
              · subst y3; rfl
              · by_cases y4 : x_ = 4
                · subst y4; rfl
                · simp [sr, upd, y0, y1, y2, y3, y4]
      · by_cases e15 : j_ = 15
        · subst e15; rfl
        · simp only [sr, e0, e15, if_false]
    rw [hst_] at hw
    refine lv_iinc (v := nI (3 + 3)) (lv' := [(2, .int (nI (3 + 3))), (1, .ref (a 55)), (0, .ref (a 68))]) hC.1 hC.2.1 dX7_restore_85 hl (k := 0) rfl (nI_add _ _) (by decide) rfl (fun ls hl => ?_)
    refine lv_iconst (v := nI 0) hC.1 hC.2.1 dX7_restore_88 (by decide) ?_
    refine lv_istore_n (lv' := [(3, .int (nI 0)), (2, .int (nI (3 + 3))), (1, .ref (a 55)), (0, .ref (a 68))]) hC.1 hC.2.1 dX7_restore_89 rfl hl (by decide) rfl (fun ls hl => ?_)
    have L90_2 : ∀ (n : Nat), ∀ (h : Nat), (h ≤ 10) → (10 - h) < n → ∀ (H : Heap) (locs : List Loc) (ls : Array Slot), Wst E (XW E a) (sr (sr (sr σ 4 (upr (σ 55) h (σ 4))) 15 (va_cpy (σ 55) (σ 15) 3 0 3)) 0 (upd (upd (upd (upd (upd (σ 0) 0 (σ 55 0)) 1 (σ 55 1)) 2 (σ 55 2)) 3 (nI (if 26 ≠ 0 then (26 - 1) else 29))) 4 (nI (kp - 1)))) A s.heap H locs → lv_has ls 4 [(0, .ref (a 68)), (1, .ref (a 55)), (2, .int (nI (3 + 3))), (3, .int (nI h))] → W p l e ({ frames := 1, cells := 0, slots := 0, locals := 24 }) s m args below meth c H locs 0 0 Q (F0 m 90 ls []) := by
      intro n
      induction n with
      | zero => intro h hh hn; exact absurd hn (Nat.not_lt_zero _)
      | succ n ih90 =>
        intro h hh hn90 H locs ls hw hl
        refine lv_iload_n hC.1 hC.2.1 dX7_restore_90 rfl (lv_at hl 3 rfl) ?_
        refine lv_bipush (v := nI 10) hC.1 hC.2.1 dX7_restore_91 (by decide) ?_
        refine q_cmpge hC 125 (cNle (by omega) (by omega)) dX7_restore_93 (by decide) (fun (c4 : 10 ≤ h) => ?_) (fun (c4 : h < 10) => ?_)
        · have hh9 : h = 10 := by omega
          rw [hh9] at hw
          refine lv_iinc (v := nI (3 + 3 + 10)) (lv' := [(2, .int (nI (3 + 3 + 10))), (0, .ref (a 68)), (1, .ref (a 55)), (3, .int (nI h))]) hC.1 hC.2.1 dX7_restore_125 hl (k := 2) rfl (nI_add _ _) (by decide) rfl (fun ls hl => ?_)
          refine lv_aload_n hC.1 hC.2.1 dX7_restore_128 rfl (lv_at hl 2 rfl) ?_
          refine lv_iload_n hC.1 hC.2.1 dX7_restore_129 rfl (lv_at hl 0 rfl) ?_
          refine lv_aload_n hC.1 hC.2.1 dX7_restore_130 rfl (lv_at hl 1 rfl) ?_
          refine gf_X7_20 hC hw dX7_restore_131 ?_
          refine gf_X7_53 hC hw dX7_restore_134 ?_
          refine lv_iconst (v := nI 0) hC.1 hC.2.1 dX7_restore_137 (by decide) ?_
          refine lv_bipush (v := nI 24) hC.1 hC.2.1 dX7_restore_138 (by decide) ?_
          refine q_cpy (sp := (3 + 3 + 10)) (dp := 0) (n := 24) 65 rfl 21 rfl (XW_s11 _) hC hw hl (by omega) (by omega) (by decide) (by decide) ⟨Nat.le_of_ble_eq_true rfl, Nat.le_of_ble_eq_true rfl⟩ wk2_182 dX7_restore_140 (fun H locs hw => ?_)
          have hw : Wst E (XW E a) (sr (sr (sr (sr σ 4 (upr (σ 55) 10 (σ 4))) 15 (va_cpy (σ 55) (σ 15) 3 0 3)) 0 (upd (upd (upd (upd (upd (σ 0) 0 (σ 55 0)) 1 (σ 55 1)) 2 (σ 55 2)) 3 (nI (if 26 ≠ 0 then (26 - 1) else 29))) 4 (nI (kp - 1)))) 11 (va_cpy (σ 55) (σ 11) (3 + 3 + 10) 0 24)) A s.heap H locs := hw
          have hst_ : sr (sr (sr (sr σ 4 (upr (σ 55) 10 (σ 4))) 15 (va_cpy (σ 55) (σ 15) 3 0 3)) 0 (upd (upd (upd (upd (upd (σ 0) 0 (σ 55 0)) 1 (σ 55 1)) 2 (σ 55 2)) 3 (nI (if 26 ≠ 0 then (26 - 1) else 29))) 4 (nI (kp - 1)))) 11 (va_cpy (σ 55) (σ 11) (3 + 3 + 10) 0 24) = sr (sr (sr (sr σ 4 (upr (σ 55) 10 (σ 4))) 11 (va_cpy (σ 55) (σ 11) (3 + 3 + 10) 0 24)) 15 (va_cpy (σ 55) (σ 15) 3 0 3)) 0 (upd (upd (upd (upd (upd (σ 0) 0 (σ 55 0)) 1 (σ 55 1)) 2 (σ 55 2)) 3 (nI (if 26 ≠ 0 then (26 - 1) else 29))) 4 (nI (kp - 1))) := by
            funext j_ x_
            by_cases e0 : j_ = 0
            · subst e0
              by_cases y0 : x_ = 0
              · subst y0; rfl
              · by_cases y1 : x_ = 1
                · subst y1; rfl
                · by_cases y2 : x_ = 2
                  · subst y2; rfl
                  · by_cases y3 : x_ = 3
                    · subst y3; rfl
                    · by_cases y4 : x_ = 4
                      · subst y4; rfl
                      · simp [sr, upd, y0, y1, y2, y3, y4]
            · by_cases e4 : j_ = 4
              · subst e4; rfl
              · by_cases e11 : j_ = 11
                · subst e11; rfl
                · by_cases e15 : j_ = 15
                  · subst e15; rfl
                  · simp only [sr, e0, e4, e11, e15, if_false]
          rw [hst_] at hw
          refine lv_aload_n hC.1 hC.2.1 dX7_restore_143 rfl (lv_at hl 2 rfl) ?_
          refine lv_iload_n hC.1 hC.2.1 dX7_restore_144 rfl (lv_at hl 0 rfl) ?_
          refine lv_bipush (v := nI 24) hC.1 hC.2.1 dX7_restore_145 (by decide) ?_
          refine q_addN hC dX7_restore_147 ?_
          refine lv_aload_n hC.1 hC.2.1 dX7_restore_148 rfl (lv_at hl 1 rfl) ?_
          refine gf_X7_20 hC hw dX7_restore_149 ?_
          refine gf_X7_56 hC hw dX7_restore_152 ?_
          refine lv_iconst (v := nI 0) hC.1 hC.2.1 dX7_restore_155 (by decide) ?_
          refine lv_bipush (v := nI 24) hC.1 hC.2.1 dX7_restore_156 (by decide) ?_
          refine q_cpy (sp := ((3 + 3 + 10) + 24)) (dp := 0) (n := 24) 65 rfl 22 rfl (XW_s12 _) hC hw hl (by omega) (by omega) (by decide) (by decide) ⟨Nat.le_of_ble_eq_true rfl, Nat.le_of_ble_eq_true rfl⟩ wk2_182 dX7_restore_158 (fun H locs hw => ?_)
          have hw : Wst E (XW E a) (sr (sr (sr (sr (sr σ 4 (upr (σ 55) 10 (σ 4))) 11 (va_cpy (σ 55) (σ 11) (3 + 3 + 10) 0 24)) 15 (va_cpy (σ 55) (σ 15) 3 0 3)) 0 (upd (upd (upd (upd (upd (σ 0) 0 (σ 55 0)) 1 (σ 55 1)) 2 (σ 55 2)) 3 (nI (if 26 ≠ 0 then (26 - 1) else 29))) 4 (nI (kp - 1)))) 12 (va_cpy (σ 55) (σ 12) ((3 + 3 + 10) + 24) 0 24)) A s.heap H locs := hw
          have hst_ : sr (sr (sr (sr (sr σ 4 (upr (σ 55) 10 (σ 4))) 11 (va_cpy (σ 55) (σ 11) (3 + 3 + 10) 0 24)) 15 (va_cpy (σ 55) (σ 15) 3 0 3)) 0 (upd (upd (upd (upd (upd (σ 0) 0 (σ 55 0)) 1 (σ 55 1)) 2 (σ 55 2)) 3 (nI (if 26 ≠ 0 then (26 - 1) else 29))) 4 (nI (kp - 1)))) 12 (va_cpy (σ 55) (σ 12) ((3 + 3 + 10) + 24) 0 24) = sr (sr (sr (sr (sr σ 4 (upr (σ 55) 10 (σ 4))) 11 (va_cpy (σ 55) (σ 11) (3 + 3 + 10) 0 24)) 12 (va_cpy (σ 55) (σ 12) ((3 + 3 + 10) + 24) 0 24)) 15 (va_cpy (σ 55) (σ 15) 3 0 3)) 0 (upd (upd (upd (upd (upd (σ 0) 0 (σ 55 0)) 1 (σ 55 1)) 2 (σ 55 2)) 3 (nI (if 26 ≠ 0 then (26 - 1) else 29))) 4 (nI (kp - 1))) := by
            funext j_ x_
            by_cases e0 : j_ = 0
            · subst e0
              by_cases y0 : x_ = 0
              · subst y0; rfl
              · by_cases y1 : x_ = 1
                · subst y1; rfl
                · by_cases y2 : x_ = 2
                  · subst y2; rfl
                  · by_cases y3 : x_ = 3
                    · subst y3; rfl
                    · by_cases y4 : x_ = 4
                      · subst y4; rfl
                      · simp [sr, upd, y0, y1, y2, y3, y4]
            · by_cases e4 : j_ = 4
              · subst e4; rfl
              · by_cases e11 : j_ = 11
                · subst e11; rfl
                · by_cases e12 : j_ = 12
                  · subst e12; rfl
                  · by_cases e15 : j_ = 15
                    · subst e15; rfl
                    · simp only [sr, e0, e4, e11, e12, e15, if_false]
          rw [hst_] at hw
          refine lv_aload_n hC.1 hC.2.1 dX7_restore_161 rfl (lv_at hl 2 rfl) ?_
          refine lv_iload_n hC.1 hC.2.1 dX7_restore_162 rfl (lv_at hl 0 rfl) ?_
          refine lv_bipush (v := nI 48) hC.1 hC.2.1 dX7_restore_163 (by decide) ?_
          refine q_addN hC dX7_restore_165 ?_
          refine lv_aload_n hC.1 hC.2.1 dX7_restore_166 rfl (lv_at hl 1 rfl) ?_
          refine gf_X7_20 hC hw dX7_restore_167 ?_
          refine gf_X7_59 hC hw dX7_restore_170 ?_
          refine lv_iconst (v := nI 0) hC.1 hC.2.1 dX7_restore_173 (by decide) ?_
          refine lv_bipush (v := nI 24) hC.1 hC.2.1 dX7_restore_174 (by decide) ?_
          refine q_cpy (sp := ((3 + 3 + 10) + 48)) (dp := 0) (n := 24) 65 rfl 23 rfl (XW_s13 _) hC hw hl (by omega) (by omega) (by decide) (by decide) ⟨Nat.le_of_ble_eq_true rfl, Nat.le_of_ble_eq_true rfl⟩ wk2_182 dX7_restore_176 (fun H locs hw => ?_)
          have hw : Wst E (XW E a) (sr (sr (sr (sr (sr (sr σ 4 (upr (σ 55) 10 (σ 4))) 11 (va_cpy (σ 55) (σ 11) (3 + 3 + 10) 0 24)) 12 (va_cpy (σ 55) (σ 12) ((3 + 3 + 10) + 24) 0 24)) 15 (va_cpy (σ 55) (σ 15) 3 0 3)) 0 (upd (upd (upd (upd (upd (σ 0) 0 (σ 55 0)) 1 (σ 55 1)) 2 (σ 55 2)) 3 (nI (if 26 ≠ 0 then (26 - 1) else 29))) 4 (nI (kp - 1)))) 13 (va_cpy (σ 55) (σ 13) ((3 + 3 + 10) + 48) 0 24)) A s.heap H locs := hw
          have hst_ : sr (sr (sr (sr (sr (sr σ 4 (upr (σ 55) 10 (σ 4))) 11 (va_cpy (σ 55) (σ 11) (3 + 3 + 10) 0 24)) 12 (va_cpy (σ 55) (σ 12) ((3 + 3 + 10) + 24) 0 24)) 15 (va_cpy (σ 55) (σ 15) 3 0 3)) 0 (upd (upd (upd (upd (upd (σ 0) 0 (σ 55 0)) 1 (σ 55 1)) 2 (σ 55 2)) 3 (nI (if 26 ≠ 0 then (26 - 1) else 29))) 4 (nI (kp - 1)))) 13 (va_cpy (σ 55) (σ 13) ((3 + 3 + 10) + 48) 0 24) = sr (sr (sr (sr (sr (sr σ 4 (upr (σ 55) 10 (σ 4))) 11 (va_cpy (σ 55) (σ 11) (3 + 3 + 10) 0 24)) 12 (va_cpy (σ 55) (σ 12) ((3 + 3 + 10) + 24) 0 24)) 13 (va_cpy (σ 55) (σ 13) ((3 + 3 + 10) + 48) 0 24)) 15 (va_cpy (σ 55) (σ 15) 3 0 3)) 0 (upd (upd (upd (upd (upd (σ 0) 0 (σ 55 0)) 1 (σ 55 1)) 2 (σ 55 2)) 3 (nI (if 26 ≠ 0 then (26 - 1) else 29))) 4 (nI (kp - 1))) := by
            funext j_ x_
            by_cases e0 : j_ = 0
            · subst e0
              by_cases y0 : x_ = 0
              · subst y0; rfl
              · by_cases y1 : x_ = 1
                · subst y1; rfl
                · by_cases y2 : x_ = 2
                  · subst y2; rfl
                  · by_cases y3 : x_ = 3
                    · subst y3; rfl
                    · by_cases y4 : x_ = 4
                      · subst y4; rfl
                      · simp [sr, upd, y0, y1, y2, y3, y4]
            · by_cases e4 : j_ = 4
              · subst e4; rfl
              · by_cases e11 : j_ = 11
                · subst e11; rfl
                · by_cases e12 : j_ = 12
                  · subst e12; rfl
                  · by_cases e13 : j_ = 13
                    · subst e13; rfl
                    · by_cases e15 : j_ = 15
                      · subst e15; rfl
                      · simp only [sr, e0, e4, e11, e12, e13, e15, if_false]
          rw [hst_] at hw
          refine lv_aload_n hC.1 hC.2.1 dX7_restore_179 rfl (lv_at hl 2 rfl) ?_
          refine lv_iload_n hC.1 hC.2.1 dX7_restore_180 rfl (lv_at hl 0 rfl) ?_
          refine lv_bipush (v := nI 72) hC.1 hC.2.1 dX7_restore_181 (by decide) ?_
          refine q_addN hC dX7_restore_183 ?_
          refine lv_aload_n hC.1 hC.2.1 dX7_restore_184 rfl (lv_at hl 1 rfl) ?_
          refine gf_X7_20 hC hw dX7_restore_185 ?_
          refine gf_X7_62 hC hw dX7_restore_188 ?_
          refine lv_iconst (v := nI 0) hC.1 hC.2.1 dX7_restore_191 (by decide) ?_
          refine lv_bipush (v := nI 24) hC.1 hC.2.1 dX7_restore_192 (by decide) ?_
          refine q_cpy (sp := ((3 + 3 + 10) + 72)) (dp := 0) (n := 24) 65 rfl 24 rfl (XW_s14 _) hC hw hl (by omega) (by omega) (by decide) (by decide) ⟨Nat.le_of_ble_eq_true rfl, Nat.le_of_ble_eq_true rfl⟩ wk2_182 dX7_restore_194 (fun H locs hw => ?_)
          have hw : Wst E (XW E a) (sr (sr (sr (sr (sr (sr (sr σ 4 (upr (σ 55) 10 (σ 4))) 11 (va_cpy (σ 55) (σ 11) (3 + 3 + 10) 0 24)) 12 (va_cpy (σ 55) (σ 12) ((3 + 3 + 10) + 24) 0 24)) 13 (va_cpy (σ 55) (σ 13) ((3 + 3 + 10) + 48) 0 24)) 15 (va_cpy (σ 55) (σ 15) 3 0 3)) 0 (upd (upd (upd (upd (upd (σ 0) 0 (σ 55 0)) 1 (σ 55 1)) 2 (σ 55 2)) 3 (nI (if 26 ≠ 0 then (26 - 1) else 29))) 4 (nI (kp - 1)))) 14 (va_cpy (σ 55) (σ 14) ((3 + 3 + 10) + 72) 0 24)) A s.heap H locs := hw
          have hst_ : sr (sr (sr (sr (sr (sr (sr σ 4 (upr (σ 55) 10 (σ 4))) 11 (va_cpy (σ 55) (σ 11) (3 + 3 + 10) 0 24)) 12 (va_cpy (σ 55) (σ 12) ((3 + 3 + 10) + 24) 0 24)) 13 (va_cpy (σ 55) (σ 13) ((3 + 3 + 10) + 48) 0 24)) 15 (va_cpy (σ 55) (σ 15) 3 0 3)) 0 (upd (upd (upd (upd (upd (σ 0) 0 (σ 55 0)) 1 (σ 55 1)) 2 (σ 55 2)) 3 (nI (if 26 ≠ 0 then (26 - 1) else 29))) 4 (nI (kp - 1)))) 14 (va_cpy (σ 55) (σ 14) ((3 + 3 + 10) + 72) 0 24) = sr (sr (sr (sr (sr (sr (sr σ 4 (upr (σ 55) 10 (σ 4))) 11 (va_cpy (σ 55) (σ 11) (3 + 3 + 10) 0 24)) 12 (va_cpy (σ 55) (σ 12) ((3 + 3 + 10) + 24) 0 24)) 13 (va_cpy (σ 55) (σ 13) ((3 + 3 + 10) + 48) 0 24)) 14 (va_cpy (σ 55) (σ 14) ((3 + 3 + 10) + 72) 0 24)) 15 (va_cpy (σ 55) (σ 15) 3 0 3)) 0 (upd (upd (upd (upd (upd (σ 0) 0 (σ 55 0)) 1 (σ 55 1)) 2 (σ 55 2)) 3 (nI (if 26 ≠ 0 then (26 - 1) else 29))) 4 (nI (kp - 1))) := by
            funext j_ x_
            by_cases e0 : j_ = 0
            · subst e0
              by_cases y0 : x_ = 0
              · subst y0; rfl
              · by_cases y1 : x_ = 1
                · subst y1; rfl
                · by_cases y2 : x_ = 2
                  · subst y2; rfl
                  · by_cases y3 : x_ = 3
                    · subst y3; rfl
                    · by_cases y4 : x_ = 4
                      · subst y4; rfl
                      · simp [sr, upd, y0, y1, y2, y3, y4]
            · by_cases e4 : j_ = 4
              · subst e4; rfl
              · by_cases e11 : j_ = 11
                · subst e11; rfl
                · by_cases e12 : j_ = 12
                  · subst e12; rfl
                  · by_cases e13 : j_ = 13
                    · subst e13; rfl
                    · by_cases e14 : j_ = 14
                      · subst e14; rfl
                      · by_cases e15 : j_ = 15
                        · subst e15; rfl
                        · simp only [sr, e0, e4, e11, e12, e13, e14, e15, if_false]
          rw [hst_] at hw
          refine hret _ _ _ _ _ hw ?_ dX7_restore_197
          exact rfl
        · refine lv_aload_n hC.1 hC.2.1 dX7_restore_96 rfl (lv_at hl 0 rfl) ?_
          refine gf_X7_16 hC hw dX7_restore_97 ?_
          refine gf_X7_49 hC hw dX7_restore_100 ?_
          refine lv_iload_n hC.1 hC.2.1 dX7_restore_103 rfl (lv_at hl 3 rfl) ?_
          refine lv_aload_n hC.1 hC.2.1 dX7_restore_104 rfl (lv_at hl 1 rfl) ?_
          refine lv_iload_n hC.1 hC.2.1 dX7_restore_105 rfl (lv_at hl 2 rfl) ?_
          refine lv_iload_n hC.1 hC.2.1 dX7_restore_106 rfl (lv_at hl 3 rfl) ?_
          refine q_addN hC dX7_restore_107 ?_
          refine q_ald (Wf := XW E a) (v := σ 55 ((3 + 3) + h)) 65 rfl (by decide) hC hw (by omega) rfl dX7_restore_108 ?_
          refine lv_iconst (v := nI 1) hC.1 hC.2.1 dX7_restore_109 (by decide) ?_
          have J118_6 : ∀ (w5 : Int32), w5 = (if (σ 55 ((3 + 3) + h)) = 1 then (1 : Int32) else 0) → ∀ (H : Heap) (locs : List Loc) (ls : Array Slot), Wst E (XW E a) (sr (sr (sr σ 4 (upr (σ 55) h (σ 4))) 15 (va_cpy (σ 55) (σ 15) 3 0 3)) 0 (upd (upd (upd (upd (upd (σ 0) 0 (σ 55 0)) 1 (σ 55 1)) 2 (σ 55 2)) 3 (nI (if 26 ≠ 0 then (26 - 1) else 29))) 4 (nI (kp - 1)))) A s.heap H locs → lv_has ls 4 [(0, .ref (a 68)), (1, .ref (a 55)), (2, .int (nI (3 + 3))), (3, .int (nI h))] → W p l e ({ frames := 1, cells := 0, slots := 0, locals := 24 }) s m args below meth c H locs 0 0 Q (F0 m 118 ls [.int (w5), .int (nI h), .ref (a 4)]) := by
            intro w5 e6 H locs ls hw hl
            subst e6
            refine as_X4 hC hw (by omega) vz_B dX7_restore_118 (fun H locs hw => ?_)
            have hw : Wst E (XW E a) (sr (sr (sr (sr σ 4 (upr (σ 55) h (σ 4))) 15 (va_cpy (σ 55) (σ 15) 3 0 3)) 0 (upd (upd (upd (upd (upd (σ 0) 0 (σ 55 0)) 1 (σ 55 1)) 2 (σ 55 2)) 3 (nI (if 26 ≠ 0 then (26 - 1) else 29))) 4 (nI (kp - 1)))) 4 (upd (upr (σ 55) h (σ 4)) h (if (σ 55 ((3 + 3) + h)) = 1 then (1 : Int32) else 0))) A s.heap H locs := hw
            have hst_ : sr (sr (sr (sr σ 4 (upr (σ 55) h (σ 4))) 15 (va_cpy (σ 55) (σ 15) 3 0 3)) 0 (upd (upd (upd (upd (upd (σ 0) 0 (σ 55 0)) 1 (σ 55 1)) 2 (σ 55 2)) 3 (nI (if 26 ≠ 0 then (26 - 1) else 29))) 4 (nI (kp - 1)))) 4 (upd (upr (σ 55) h (σ 4)) h (if (σ 55 ((3 + 3) + h)) = 1 then (1 : Int32) else 0)) = sr (sr (sr σ 4 (upd (upr (σ 55) h (σ 4)) h (if (σ 55 ((3 + 3) + h)) = 1 then (1 : Int32) else 0))) 15 (va_cpy (σ 55) (σ 15) 3 0 3)) 0 (upd (upd (upd (upd (upd (σ 0) 0 (σ 55 0)) 1 (σ 55 1)) 2 (σ 55 2)) 3 (nI (if 26 ≠ 0 then (26 - 1) else 29))) 4 (nI (kp - 1))) := by
              funext j_ x_
              by_cases e0 : j_ = 0
              · subst e0
                by_cases y0 : x_ = 0
                · subst y0; rfl
                · by_cases y1 : x_ = 1
                  · subst y1; rfl
                  · by_cases y2 : x_ = 2
                    · subst y2; rfl
                    · by_cases y3 : x_ = 3
                      · subst y3; rfl
                      · by_cases y4 : x_ = 4
                        · subst y4; rfl
                        · simp [sr, upd, y0, y1, y2, y3, y4]
              · by_cases e4 : j_ = 4
                · subst e4; rfl
                · by_cases e15 : j_ = 15
                  · subst e15; rfl
                  · simp only [sr, e0, e4, e15, if_false]
            rw [hst_] at hw
            refine lv_iinc (v := nI (h + 1)) (lv' := [(3, .int (nI (h + 1))), (0, .ref (a 68)), (1, .ref (a 55)), (2, .int (nI (3 + 3)))]) hC.1 hC.2.1 dX7_restore_119 hl (k := 3) rfl (nI_add _ _) (by decide) rfl (fun ls hl => ?_)
            refine lv_goto (tgt := 90) hC.1 hC.2.1 dX7_restore_122 (by decide) ?_
            rw [upr_s] at hw
            exact ih90 (h + 1) (by omega) (by omega) _ _ _ hw (lv_sub hl [1, 2, 3, 0] rfl)
          refine q_cmpne hC 117 cI dX7_restore_110 (by decide) (fun (c7 : ¬ ((σ 55 ((3 + 3) + h)) = 1)) => ?_) (fun (c7 : (σ 55 ((3 + 3) + h)) = 1) => ?_)
          · refine lv_iconst (v := nI 0) hC.1 hC.2.1 dX7_restore_117 (by decide) ?_
            exact J118_6 _ (if_neg c7).symm _ _ _ hw (lv_sub hl [0, 1, 2, 3] rfl)
          · refine lv_iconst (v := nI 1) hC.1 hC.2.1 dX7_restore_113 (by decide) ?_
            refine lv_goto (tgt := 118) hC.1 hC.2.1 dX7_restore_114 (by decide) ?_
            exact J118_6 _ (if_pos c7).symm _ _ _ hw (lv_sub hl [0, 1, 2, 3] rfl)
    have hst_ : sr (sr σ 15 (va_cpy (σ 55) (σ 15) 3 0 3)) 0 (upd (upd (upd (upd (upd (σ 0) 0 (σ 55 0)) 1 (σ 55 1)) 2 (σ 55 2)) 3 (nI (if 26 ≠ 0 then (26 - 1) else 29))) 4 (nI (kp - 1))) = sr (sr (sr σ 4 (upr (σ 55) 0 (σ 4))) 15 (va_cpy (σ 55) (σ 15) 3 0 3)) 0 (upd (upd (upd (upd (upd (σ 0) 0 (σ 55 0)) 1 (σ 55 1)) 2 (σ 55 2)) 3 (nI (if 26 ≠ 0 then (26 - 1) else 29))) 4 (nI (kp - 1))) := by
      funext j_ x_
      by_cases e0 : j_ = 0
      · subst e0
        by_cases y0 : x_ = 0
        · subst y0; rfl
        · by_cases y1 : x_ = 1
          · subst y1; rfl
          · by_cases y2 : x_ = 2
            · subst y2; rfl
            · by_cases y3 : x_ = 3
              · subst y3; rfl
              · by_cases y4 : x_ = 4
                · subst y4; rfl
                · simp [sr, upd, y0, y1, y2, y3, y4]
      · by_cases e4 : j_ = 4
        · subst e4; show σ 4 x_ = upr (σ 55) 0 (σ 4) x_; rw [upr_0]
        · by_cases e15 : j_ = 15
          · subst e15; rfl
          · simp only [sr, e0, e4, e15, if_false]
    rw [hst_] at hw
    exact L90_2 _ 0 (by omega) (Nat.lt_succ_self _) _ _ _ hw (lv_sub hl [3, 2, 1, 0] rfl)
  refine q_ifne hC 13 (cN0 (by omega)) dX7_restore_5 (by decide) (fun (c8 : 26 ≠ 0) => ?_) (fun (c8 : 26 = 0) => ?_)
  · refine lv_aload_n hC.1 hC.2.1 dX7_restore_13 rfl (lv_at hl 0 rfl) ?_
    refine gf_X7_28 (v := nI 26) hC hw hnx dX7_restore_14 ?_
    refine lv_iconst (v := nI 1) hC.1 hC.2.1 dX7_restore_17 (by decide) ?_
    refine q_subN hC (by omega) dX7_restore_18 ?_
    exact J19_2 _ (by (rw [if_pos c8]) <;> rfl) _ _ _ hw (lv_sub hl [0] rfl)
  · refine lv_bipush (v := nI 29) hC.1 hC.2.1 dX7_restore_8 (by decide) ?_
    refine lv_goto (tgt := 19) hC.1 hC.2.1 dX7_restore_10 (by decide) ?_
    exact J19_2 _ (by (rw [if_neg (fun q => q c8)]) <;> rfl) _ _ _ hw (lv_sub hl [0] rfl)
set_option maxHeartbeats 4000000 in
set_option maxRecDepth 100000 in
theorem tX7_restore_k27 (l : Launch) (E : EV) (a : Nat → Nat) (σ : St) (kp : Nat) (hnx : σ 0 3 = nI 27) (hkp : σ 0 4 = nI kp) (hk30 : kp ≤ 30) (hk1 : 1 ≤ kp) : MV l E (XW E a) yX7_restore (Cond.code yX7_restore cX7_restore 4 none) ({ frames := 1, cells := 0, slots := 0, locals := 24 }) [.ref (a 68)] σ (fun u_ => u_ = sr (sr (sr (sr (sr (sr (sr σ 4 (upr (σ 56) 10 (σ 4))) 11 (va_cpy (σ 56) (σ 11) 16 0 24)) 12 (va_cpy (σ 56) (σ 12) 40 0 24)) 13 (va_cpy (σ 56) (σ 13) 64 0 24)) 14 (va_cpy (σ 56) (σ 14) 88 0 24)) 15 (va_cpy (σ 56) (σ 15) 3 0 3)) 0 (upd (upd (upd (upd (upd (σ 0) 0 ((σ 56) 0)) 1 ((σ 56) 1)) 2 ((σ 56) 2)) 3 (nI (if 27 ≠ 0 then 27 - 1 else 29))) 4 (nI (kp - 1)))) := by
  refine MV.mk (by decide +kernel) (Nat.le_of_ble_eq_true rfl) ?_
  intro p e s m args below meth c ls A Q hret hC hw hl
  have hC : Cxt E p s m args meth c cX7_restore 4 none RX7 A := hC
  have hl : lv_has ls 4 [(0, .ref (a 68))] := hl
  refine lv_aload_n hC.1 hC.2.1 dX7_restore_0 rfl (lv_at hl 0 rfl) ?_
  refine lv_aload_n hC.1 hC.2.1 dX7_restore_1 rfl (lv_at hl 0 rfl) ?_
  refine gf_X7_28 (v := nI 27) hC hw hnx dX7_restore_2 ?_
  have J19_2 : ∀ (w1 : Nat), w1 = (if 27 ≠ 0 then (27 - 1) else 29) → ∀ (H : Heap) (locs : List Loc) (ls : Array Slot), Wst E (XW E a) (σ) A s.heap H locs → lv_has ls 4 [(0, .ref (a 68))] → W p l e ({ frames := 1, cells := 0, slots := 0, locals := 24 }) s m args below meth c H locs 0 0 Q (F0 m 19 ls [.int (nI w1), .ref (a 68)]) := by
    intro w1 e2 H locs ls hw hl
    subst e2
    refine pf_X7_28 hC hw dX7_restore_19 (fun H locs hw => ?_)
    have hw : Wst E (XW E a) (sr σ 0 (upd (σ 0) 3 (nI (if 27 ≠ 0 then (27 - 1) else 29)))) A s.heap H locs := hw
    refine lv_aload_n hC.1 hC.2.1 dX7_restore_22 rfl (lv_at hl 0 rfl) ?_
    refine lv_dup hC.1 hC.2.1 dX7_restore_23 rfl ?_
    refine gf_X7_65 (v := nI kp) hC hw hkp dX7_restore_24 ?_
    refine lv_iconst (v := nI 1) hC.1 hC.2.1 dX7_restore_27 (by decide) ?_
    refine q_subN hC (by omega) dX7_restore_28 ?_
    refine pf_X7_65 hC hw dX7_restore_29 (fun H locs hw => ?_)
    have hw : Wst E (XW E a) (sr (sr σ 0 (upd (σ 0) 3 (nI (if 27 ≠ 0 then (27 - 1) else 29)))) 0 (upd (upd (σ 0) 3 (nI (if 27 ≠ 0 then (27 - 1) else 29))) 4 (nI (kp - 1)))) A s.heap H locs := hw
    have hst_ : sr (sr σ 0 (upd (σ 0) 3 (nI (if 27 ≠ 0 then (27 - 1) else 29)))) 0 (upd (upd (σ 0) 3 (nI (if 27 ≠ 0 then (27 - 1) else 29))) 4 (nI (kp - 1))) = sr σ 0 (upd (upd (σ 0) 3 (nI (if 27 ≠ 0 then (27 - 1) else 29))) 4 (nI (kp - 1))) := by
      funext j_ x_
      by_cases e0 : j_ = 0
      · subst e0
        by_cases y3 : x_ = 3
        · subst y3; rfl
        · by_cases y4 : x_ = 4
          · subst y4; rfl
          · simp [sr, upd, y3, y4]
      · simp only [sr, e0, if_false]
    rw [hst_] at hw
    refine lv_aload_n hC.1 hC.2.1 dX7_restore_32 rfl (lv_at hl 0 rfl) ?_
    refine gf_X7_13 hC hw dX7_restore_33 ?_
    refine lv_aload_n hC.1 hC.2.1 dX7_restore_36 rfl (lv_at hl 0 rfl) ?_
    refine gf_X7_28 (v := nI (if 27 ≠ 0 then (27 - 1) else 29)) hC hw rfl dX7_restore_37 ?_
    refine q_top (y := nI 26) rfl ?_
    refine q_aald hC hw (i := 26) (by decide) dX7_restore_40 ?_
    refine lv_astore_n (lv' := [(1, .ref (a 56)), (0, .ref (a 68))]) hC.1 hC.2.1 dX7_restore_41 rfl hl (by decide) rfl (fun ls hl => ?_)
    refine lv_aload_n hC.1 hC.2.1 dX7_restore_42 rfl (lv_at hl 1 rfl) ?_
    refine gf_X7_16 hC hw dX7_restore_43 ?_
    refine lv_aload_n hC.1 hC.2.1 dX7_restore_46 rfl (lv_at hl 0 rfl) ?_
    refine lv_iconst (v := nI 0) hC.1 hC.2.1 dX7_restore_47 (by decide) ?_
    refine q_ald (Wf := XW E a) (v := σ 56 0) 66 rfl (by decide) hC hw (by omega) rfl dX7_restore_48 ?_
    refine pf_X7_32 hC hw dX7_restore_49 (fun H locs hw => ?_)
    have hw : Wst E (XW E a) (sr (sr σ 0 (upd (upd (σ 0) 3 (nI (if 27 ≠ 0 then (27 - 1) else 29))) 4 (nI (kp - 1)))) 0 (upd (upd (upd (σ 0) 3 (nI (if 27 ≠ 0 then (27 - 1) else 29))) 4 (nI (kp - 1))) 0 (σ 56 0))) A s.heap H locs := hw
    have hst_ : sr (sr σ 0 (upd (upd (σ 0) 3 (nI (if 27 ≠ 0 then (27 - 1) else 29))) 4 (nI (kp - 1)))) 0 (upd (upd (upd (σ 0) 3 (nI (if 27 ≠ 0 then (27 - 1) else 29))) 4 (nI (kp - 1))) 0 (σ 56 0)) = sr σ 0 (upd (upd (upd (σ 0) 0 (σ 56 0)) 3 (nI (if 27 ≠ 0 then (27 - 1) else 29))) 4 (nI (kp - 1))) := by
      funext j_ x_
      by_cases e0 : j_ = 0
      · subst e0
        by_cases y0 : x_ = 0
        · subst y0; rfl
        · by_cases y3 : x_ = 3
          · subst y3; rfl
          · by_cases y4 : x_ = 4
            · subst y4; rfl
            · simp [sr, upd, y0, y3, y4]
      · simp only [sr, e0, if_false]
    rw [hst_] at hw
    refine lv_aload_n hC.1 hC.2.1 dX7_restore_52 rfl (lv_at hl 1 rfl) ?_
    refine gf_X7_20 hC hw dX7_restore_53 ?_
    refine lv_aload_n hC.1 hC.2.1 dX7_restore_56 rfl (lv_at hl 0 rfl) ?_
    refine lv_iconst (v := nI 1) hC.1 hC.2.1 dX7_restore_57 (by decide) ?_
    refine q_ald (Wf := XW E a) (v := σ 56 1) 66 rfl (by decide) hC hw (by omega) rfl dX7_restore_58 ?_
    refine pf_X7_37 hC hw dX7_restore_59 (fun H locs hw => ?_)
    have hw : Wst E (XW E a) (sr (sr σ 0 (upd (upd (upd (σ 0) 0 (σ 56 0)) 3 (nI (if 27 ≠ 0 then (27 - 1) else 29))) 4 (nI (kp - 1)))) 0 (upd (upd (upd (upd (σ 0) 0 (σ 56 0)) 3 (nI (if 27 ≠ 0 then (27 - 1) else 29))) 4 (nI (kp - 1))) 1 (σ 56 1))) A s.heap H locs := hw
    have hst_ : sr (sr σ 0 (upd (upd (upd (σ 0) 0 (σ 56 0)) 3 (nI (if 27 ≠ 0 then (27 - 1) else 29))) 4 (nI (kp - 1)))) 0 (upd (upd (upd (upd (σ 0) 0 (σ 56 0)) 3 (nI (if 27 ≠ 0 then (27 - 1) else 29))) 4 (nI (kp - 1))) 1 (σ 56 1)) = sr σ 0 (upd (upd (upd (upd (σ 0) 0 (σ 56 0)) 1 (σ 56 1)) 3 (nI (if 27 ≠ 0 then (27 - 1) else 29))) 4 (nI (kp - 1))) := by
      funext j_ x_
      by_cases e0 : j_ = 0
      · subst e0
        by_cases y0 : x_ = 0
        · subst y0; rfl
        · by_cases y1 : x_ = 1
          · subst y1; rfl
          · by_cases y3 : x_ = 3
            · subst y3; rfl
            · by_cases y4 : x_ = 4
              · subst y4; rfl
              · simp [sr, upd, y0, y1, y3, y4]
      · simp only [sr, e0, if_false]
    rw [hst_] at hw
    refine lv_aload_n hC.1 hC.2.1 dX7_restore_62 rfl (lv_at hl 1 rfl) ?_
    refine gf_X7_20 hC hw dX7_restore_63 ?_
    refine lv_aload_n hC.1 hC.2.1 dX7_restore_66 rfl (lv_at hl 0 rfl) ?_
    refine lv_iconst (v := nI 2) hC.1 hC.2.1 dX7_restore_67 (by decide) ?_
    refine q_ald (Wf := XW E a) (v := σ 56 2) 66 rfl (by decide) hC hw (by omega) rfl dX7_restore_68 ?_
    refine pf_X7_40 hC hw dX7_restore_69 (fun H locs hw => ?_)
    have hw : Wst E (XW E a) (sr (sr σ 0 (upd (upd (upd (upd (σ 0) 0 (σ 56 0)) 1 (σ 56 1)) 3 (nI (if 27 ≠ 0 then (27 - 1) else 29))) 4 (nI (kp - 1)))) 0 (upd (upd (upd (upd (upd (σ 0) 0 (σ 56 0)) 1 (σ 56 1)) 3 (nI (if 27 ≠ 0 then (27 - 1) else 29))) 4 (nI (kp - 1))) 2 (σ 56 2))) A s.heap H locs := hw
    have hst_ : sr (sr σ 0 (upd (upd (upd (upd (σ 0) 0 (σ 56 0)) 1 (σ 56 1)) 3 (nI (if 27 ≠ 0 then (27 - 1) else 29))) 4 (nI (kp - 1)))) 0 (upd (upd (upd (upd (upd (σ 0) 0 (σ 56 0)) 1 (σ 56 1)) 3 (nI (if 27 ≠ 0 then (27 - 1) else 29))) 4 (nI (kp - 1))) 2 (σ 56 2)) = sr σ 0 (upd (upd (upd (upd (upd (σ 0) 0 (σ 56 0)) 1 (σ 56 1)) 2 (σ 56 2)) 3 (nI (if 27 ≠ 0 then (27 - 1) else 29))) 4 (nI (kp - 1))) := by
      funext j_ x_
      by_cases e0 : j_ = 0
      · subst e0
        by_cases y0 : x_ = 0
        · subst y0; rfl
        · by_cases y1 : x_ = 1
          · subst y1; rfl
          · by_cases y2 : x_ = 2
            · subst y2; rfl
            · by_cases y3 : x_ = 3
              · subst y3; rfl
              · by_cases y4 : x_ = 4
                · subst y4; rfl
                · simp [sr, upd, y0, y1, y2, y3, y4]
      · simp only [sr, e0, if_false]
    rw [hst_] at hw
    refine lv_iconst (v := nI 3) hC.1 hC.2.1 dX7_restore_72 (by decide) ?_
    refine lv_istore_n (lv' := [(2, .int (nI 3)), (1, .ref (a 56)), (0, .ref (a 68))]) hC.1 hC.2.1 dX7_restore_73 rfl hl (by decide) rfl (fun ls hl => ?_)
    refine lv_aload_n hC.1 hC.2.1 dX7_restore_74 rfl (lv_at hl 1 rfl) ?_
    refine lv_iload_n hC.1 hC.2.1 dX7_restore_75 rfl (lv_at hl 0 rfl) ?_
    refine lv_aload_n hC.1 hC.2.1 dX7_restore_76 rfl (lv_at hl 2 rfl) ?_
    refine gf_X7_24 hC hw dX7_restore_77 ?_
    refine lv_iconst (v := nI 0) hC.1 hC.2.1 dX7_restore_80 (by decide) ?_
    refine lv_iconst (v := nI 3) hC.1 hC.2.1 dX7_restore_81 (by decide) ?_
    refine q_cpy (sp := 3) (dp := 0) (n := 3) 66 rfl 25 rfl (XW_s15 _) hC hw hl (by omega) (by omega) (by decide) (by decide) ⟨Nat.le_of_ble_eq_true rfl, Nat.le_of_ble_eq_true rfl⟩ wk2_182 dX7_restore_82 (fun H locs hw => ?_)
    have hw : Wst E (XW E a) (sr (sr σ 0 (upd (upd (upd (upd (upd (σ 0) 0 (σ 56 0)) 1 (σ 56 1)) 2 (σ 56 2)) 3 (nI (if 27 ≠ 0 then (27 - 1) else 29))) 4 (nI (kp - 1)))) 15 (va_cpy (σ 56) (σ 15) 3 0 3)) A s.heap H locs := hw
    have hst_ : sr (sr σ 0 (upd (upd (upd (upd (upd (σ 0) 0 (σ 56 0)) 1 (σ 56 1)) 2 (σ 56 2)) 3 (nI (if 27 ≠ 0 then (27 - 1) else 29))) 4 (nI (kp - 1)))) 15 (va_cpy (σ 56) (σ 15) 3 0 3) = sr (sr σ 15 (va_cpy (σ 56) (σ 15) 3 0 3)) 0 (upd (upd (upd (upd (upd (σ 0) 0 (σ 56 0)) 1 (σ 56 1)) 2 (σ 56 2)) 3 (nI (if 27 ≠ 0 then (27 - 1) else 29))) 4 (nI (kp - 1))) := by
      funext j_ x_
      by_cases e0 : j_ = 0
      · subst e0
        by_cases y0 : x_ = 0
        · subst y0; rfl
        · by_cases y1 : x_ = 1
          · subst y1; rfl
          · by_cases y2 : x_ = 2
            · subst y2; rfl
            · by_cases y3 : x_ = 3
              · subst y3; rfl
              · by_cases y4 : x_ = 4
                · subst y4; rfl
                · simp [sr, upd, y0, y1, y2, y3, y4]
      · by_cases e15 : j_ = 15
        · subst e15; rfl
        · simp only [sr, e0, e15, if_false]
    rw [hst_] at hw
    refine lv_iinc (v := nI (3 + 3)) (lv' := [(2, .int (nI (3 + 3))), (1, .ref (a 56)), (0, .ref (a 68))]) hC.1 hC.2.1 dX7_restore_85 hl (k := 0) rfl (nI_add _ _) (by decide) rfl (fun ls hl => ?_)
    refine lv_iconst (v := nI 0) hC.1 hC.2.1 dX7_restore_88 (by decide) ?_
    refine lv_istore_n (lv' := [(3, .int (nI 0)), (2, .int (nI (3 + 3))), (1, .ref (a 56)), (0, .ref (a 68))]) hC.1 hC.2.1 dX7_restore_89 rfl hl (by decide) rfl (fun ls hl => ?_)
    have L90_2 : ∀ (n : Nat), ∀ (h : Nat), (h ≤ 10) → (10 - h) < n → ∀ (H : Heap) (locs : List Loc) (ls : Array Slot), Wst E (XW E a) (sr (sr (sr σ 4 (upr (σ 56) h (σ 4))) 15 (va_cpy (σ 56) (σ 15) 3 0 3)) 0 (upd (upd (upd (upd (upd (σ 0) 0 (σ 56 0)) 1 (σ 56 1)) 2 (σ 56 2)) 3 (nI (if 27 ≠ 0 then (27 - 1) else 29))) 4 (nI (kp - 1)))) A s.heap H locs → lv_has ls 4 [(0, .ref (a 68)), (1, .ref (a 56)), (2, .int (nI (3 + 3))), (3, .int (nI h))] → W p l e ({ frames := 1, cells := 0, slots := 0, locals := 24 }) s m args below meth c H locs 0 0 Q (F0 m 90 ls []) := by
      intro n
      induction n with
      | zero => intro h hh hn; exact absurd hn (Nat.not_lt_zero _)
      | succ n ih90 =>
        intro h hh hn90 H locs ls hw hl
        refine lv_iload_n hC.1 hC.2.1 dX7_restore_90 rfl (lv_at hl 3 rfl) ?_
        refine lv_bipush (v := nI 10) hC.1 hC.2.1 dX7_restore_91 (by decide) ?_
        refine q_cmpge hC 125 (cNle (by omega) (by omega)) dX7_restore_93 (by decide) (fun (c4 : 10 ≤ h) => ?_) (fun (c4 : h < 10) => ?_)
        · have hh9 : h = 10 := by omega
          rw [hh9] at hw
          refine lv_iinc (v := nI (3 + 3 + 10)) (lv' := [(2, .int (nI (3 + 3 + 10))), (0, .ref (a 68)), (1, .ref (a 56)), (3, .int (nI h))]) hC.1 hC.2.1 dX7_restore_125 hl (k := 2) rfl (nI_add _ _) (by decide) rfl (fun ls hl => ?_)
          refine lv_aload_n hC.1 hC.2.1 dX7_restore_128 rfl (lv_at hl 2 rfl) ?_
          refine lv_iload_n hC.1 hC.2.1 dX7_restore_129 rfl (lv_at hl 0 rfl) ?_
          refine lv_aload_n hC.1 hC.2.1 dX7_restore_130 rfl (lv_at hl 1 rfl) ?_
          refine gf_X7_20 hC hw dX7_restore_131 ?_
          refine gf_X7_53 hC hw dX7_restore_134 ?_
          refine lv_iconst (v := nI 0) hC.1 hC.2.1 dX7_restore_137 (by decide) ?_
          refine lv_bipush (v := nI 24) hC.1 hC.2.1 dX7_restore_138 (by decide) ?_
          refine q_cpy (sp := (3 + 3 + 10)) (dp := 0) (n := 24) 66 rfl 21 rfl (XW_s11 _) hC hw hl (by omega) (by omega) (by decide) (by decide) ⟨Nat.le_of_ble_eq_true rfl, Nat.le_of_ble_eq_true rfl⟩ wk2_182 dX7_restore_140 (fun H locs hw => ?_)
          have hw : Wst E (XW E a) (sr (sr (sr (sr σ 4 (upr (σ 56) 10 (σ 4))) 15 (va_cpy (σ 56) (σ 15) 3 0 3)) 0 (upd (upd (upd (upd (upd (σ 0) 0 (σ 56 0)) 1 (σ 56 1)) 2 (σ 56 2)) 3 (nI (if 27 ≠ 0 then (27 - 1) else 29))) 4 (nI (kp - 1)))) 11 (va_cpy (σ 56) (σ 11) (3 + 3 + 10) 0 24)) A s.heap H locs := hw
          have hst_ : sr (sr (sr (sr σ 4 (upr (σ 56) 10 (σ 4))) 15 (va_cpy (σ 56) (σ 15) 3 0 3)) 0 (upd (upd (upd (upd (upd (σ 0) 0 (σ 56 0)) 1 (σ 56 1)) 2 (σ 56 2)) 3 (nI (if 27 ≠ 0 then (27 - 1) else 29))) 4 (nI (kp - 1)))) 11 (va_cpy (σ 56) (σ 11) (3 + 3 + 10) 0 24) = sr (sr (sr (sr σ 4 (upr (σ 56) 10 (σ 4))) 11 (va_cpy (σ 56) (σ 11) (3 + 3 + 10) 0 24)) 15 (va_cpy (σ 56) (σ 15) 3 0 3)) 0 (upd (upd (upd (upd (upd (σ 0) 0 (σ 56 0)) 1 (σ 56 1)) 2 (σ 56 2)) 3 (nI (if 27 ≠ 0 then (27 - 1) else 29))) 4 (nI (kp - 1))) := by
            funext j_ x_
            by_cases e0 : j_ = 0
            · subst e0
              by_cases y0 : x_ = 0
              · subst y0; rfl
              · by_cases y1 : x_ = 1
                · subst y1; rfl
                · by_cases y2 : x_ = 2
                  · subst y2; rfl
                  · by_cases y3 : x_ = 3
                    · subst y3; rfl
                    · by_cases y4 : x_ = 4
                      · subst y4; rfl
                      · simp [sr, upd, y0, y1, y2, y3, y4]
            · by_cases e4 : j_ = 4
              · subst e4; rfl
              · by_cases e11 : j_ = 11
                · subst e11; rfl
                · by_cases e15 : j_ = 15
                  · subst e15; rfl
                  · simp only [sr, e0, e4, e11, e15, if_false]
          rw [hst_] at hw
          refine lv_aload_n hC.1 hC.2.1 dX7_restore_143 rfl (lv_at hl 2 rfl) ?_
          refine lv_iload_n hC.1 hC.2.1 dX7_restore_144 rfl (lv_at hl 0 rfl) ?_
          refine lv_bipush (v := nI 24) hC.1 hC.2.1 dX7_restore_145 (by decide) ?_
          refine q_addN hC dX7_restore_147 ?_
          refine lv_aload_n hC.1 hC.2.1 dX7_restore_148 rfl (lv_at hl 1 rfl) ?_
          refine gf_X7_20 hC hw dX7_restore_149 ?_
          refine gf_X7_56 hC hw dX7_restore_152 ?_
          refine lv_iconst (v := nI 0) hC.1 hC.2.1 dX7_restore_155 (by decide) ?_
          refine lv_bipush (v := nI 24) hC.1 hC.2.1 dX7_restore_156 (by decide) ?_
          refine q_cpy (sp := ((3 + 3 + 10) + 24)) (dp := 0) (n := 24) 66 rfl 22 rfl (XW_s12 _) hC hw hl (by omega) (by omega) (by decide) (by decide) ⟨Nat.le_of_ble_eq_true rfl, Nat.le_of_ble_eq_true rfl⟩ wk2_182 dX7_restore_158 (fun H locs hw => ?_)
          have hw : Wst E (XW E a) (sr (sr (sr (sr (sr σ 4 (upr (σ 56) 10 (σ 4))) 11 (va_cpy (σ 56) (σ 11) (3 + 3 + 10) 0 24)) 15 (va_cpy (σ 56) (σ 15) 3 0 3)) 0 (upd (upd (upd (upd (upd (σ 0) 0 (σ 56 0)) 1 (σ 56 1)) 2 (σ 56 2)) 3 (nI (if 27 ≠ 0 then (27 - 1) else 29))) 4 (nI (kp - 1)))) 12 (va_cpy (σ 56) (σ 12) ((3 + 3 + 10) + 24) 0 24)) A s.heap H locs := hw
          have hst_ : sr (sr (sr (sr (sr σ 4 (upr (σ 56) 10 (σ 4))) 11 (va_cpy (σ 56) (σ 11) (3 + 3 + 10) 0 24)) 15 (va_cpy (σ 56) (σ 15) 3 0 3)) 0 (upd (upd (upd (upd (upd (σ 0) 0 (σ 56 0)) 1 (σ 56 1)) 2 (σ 56 2)) 3 (nI (if 27 ≠ 0 then (27 - 1) else 29))) 4 (nI (kp - 1)))) 12 (va_cpy (σ 56) (σ 12) ((3 + 3 + 10) + 24) 0 24) = sr (sr (sr (sr (sr σ 4 (upr (σ 56) 10 (σ 4))) 11 (va_cpy (σ 56) (σ 11) (3 + 3 + 10) 0 24)) 12 (va_cpy (σ 56) (σ 12) ((3 + 3 + 10) + 24) 0 24)) 15 (va_cpy (σ 56) (σ 15) 3 0 3)) 0 (upd (upd (upd (upd (upd (σ 0) 0 (σ 56 0)) 1 (σ 56 1)) 2 (σ 56 2)) 3 (nI (if 27 ≠ 0 then (27 - 1) else 29))) 4 (nI (kp - 1))) := by
            funext j_ x_
            by_cases e0 : j_ = 0
            · subst e0
              by_cases y0 : x_ = 0
              · subst y0; rfl
              · by_cases y1 : x_ = 1
                · subst y1; rfl
                · by_cases y2 : x_ = 2
                  · subst y2; rfl
                  · by_cases y3 : x_ = 3
                    · subst y3; rfl
                    · by_cases y4 : x_ = 4
                      · subst y4; rfl
                      · simp [sr, upd, y0, y1, y2, y3, y4]
            · by_cases e4 : j_ = 4
              · subst e4; rfl
              · by_cases e11 : j_ = 11
                · subst e11; rfl
                · by_cases e12 : j_ = 12
                  · subst e12; rfl
                  · by_cases e15 : j_ = 15
                    · subst e15; rfl
                    · simp only [sr, e0, e4, e11, e12, e15, if_false]
          rw [hst_] at hw
          refine lv_aload_n hC.1 hC.2.1 dX7_restore_161 rfl (lv_at hl 2 rfl) ?_
          refine lv_iload_n hC.1 hC.2.1 dX7_restore_162 rfl (lv_at hl 0 rfl) ?_
          refine lv_bipush (v := nI 48) hC.1 hC.2.1 dX7_restore_163 (by decide) ?_
          refine q_addN hC dX7_restore_165 ?_
          refine lv_aload_n hC.1 hC.2.1 dX7_restore_166 rfl (lv_at hl 1 rfl) ?_
          refine gf_X7_20 hC hw dX7_restore_167 ?_
          refine gf_X7_59 hC hw dX7_restore_170 ?_
          refine lv_iconst (v := nI 0) hC.1 hC.2.1 dX7_restore_173 (by decide) ?_
          refine lv_bipush (v := nI 24) hC.1 hC.2.1 dX7_restore_174 (by decide) ?_
          refine q_cpy (sp := ((3 + 3 + 10) + 48)) (dp := 0) (n := 24) 66 rfl 23 rfl (XW_s13 _) hC hw hl (by omega) (by omega) (by decide) (by decide) ⟨Nat.le_of_ble_eq_true rfl, Nat.le_of_ble_eq_true rfl⟩ wk2_182 dX7_restore_176 (fun H locs hw => ?_)
          have hw : Wst E (XW E a) (sr (sr (sr (sr (sr (sr σ 4 (upr (σ 56) 10 (σ 4))) 11 (va_cpy (σ 56) (σ 11) (3 + 3 + 10) 0 24)) 12 (va_cpy (σ 56) (σ 12) ((3 + 3 + 10) + 24) 0 24)) 15 (va_cpy (σ 56) (σ 15) 3 0 3)) 0 (upd (upd (upd (upd (upd (σ 0) 0 (σ 56 0)) 1 (σ 56 1)) 2 (σ 56 2)) 3 (nI (if 27 ≠ 0 then (27 - 1) else 29))) 4 (nI (kp - 1)))) 13 (va_cpy (σ 56) (σ 13) ((3 + 3 + 10) + 48) 0 24)) A s.heap H locs := hw
          have hst_ : sr (sr (sr (sr (sr (sr σ 4 (upr (σ 56) 10 (σ 4))) 11 (va_cpy (σ 56) (σ 11) (3 + 3 + 10) 0 24)) 12 (va_cpy (σ 56) (σ 12) ((3 + 3 + 10) + 24) 0 24)) 15 (va_cpy (σ 56) (σ 15) 3 0 3)) 0 (upd (upd (upd (upd (upd (σ 0) 0 (σ 56 0)) 1 (σ 56 1)) 2 (σ 56 2)) 3 (nI (if 27 ≠ 0 then (27 - 1) else 29))) 4 (nI (kp - 1)))) 13 (va_cpy (σ 56) (σ 13) ((3 + 3 + 10) + 48) 0 24) = sr (sr (sr (sr (sr (sr σ 4 (upr (σ 56) 10 (σ 4))) 11 (va_cpy (σ 56) (σ 11) (3 + 3 + 10) 0 24)) 12 (va_cpy (σ 56) (σ 12) ((3 + 3 + 10) + 24) 0 24)) 13 (va_cpy (σ 56) (σ 13) ((3 + 3 + 10) + 48) 0 24)) 15 (va_cpy (σ 56) (σ 15) 3 0 3)) 0 (upd (upd (upd (upd (upd (σ 0) 0 (σ 56 0)) 1 (σ 56 1)) 2 (σ 56 2)) 3 (nI (if 27 ≠ 0 then (27 - 1) else 29))) 4 (nI (kp - 1))) := by
            funext j_ x_
            by_cases e0 : j_ = 0
            · subst e0
              by_cases y0 : x_ = 0
              · subst y0; rfl
              · by_cases y1 : x_ = 1
                · subst y1; rfl
                · by_cases y2 : x_ = 2
                  · subst y2; rfl
                  · by_cases y3 : x_ = 3
                    · subst y3; rfl
                    · by_cases y4 : x_ = 4
                      · subst y4; rfl
                      · simp [sr, upd, y0, y1, y2, y3, y4]
            · by_cases e4 : j_ = 4
              · subst e4; rfl
              · by_cases e11 : j_ = 11
                · subst e11; rfl
                · by_cases e12 : j_ = 12
                  · subst e12; rfl
                  · by_cases e13 : j_ = 13
                    · subst e13; rfl
                    · by_cases e15 : j_ = 15
                      · subst e15; rfl
                      · simp only [sr, e0, e4, e11, e12, e13, e15, if_false]
          rw [hst_] at hw
          refine lv_aload_n hC.1 hC.2.1 dX7_restore_179 rfl (lv_at hl 2 rfl) ?_
          refine lv_iload_n hC.1 hC.2.1 dX7_restore_180 rfl (lv_at hl 0 rfl) ?_
          refine lv_bipush (v := nI 72) hC.1 hC.2.1 dX7_restore_181 (by decide) ?_
          refine q_addN hC dX7_restore_183 ?_
          refine lv_aload_n hC.1 hC.2.1 dX7_restore_184 rfl (lv_at hl 1 rfl) ?_
          refine gf_X7_20 hC hw dX7_restore_185 ?_
          refine gf_X7_62 hC hw dX7_restore_188 ?_
          refine lv_iconst (v := nI 0) hC.1 hC.2.1 dX7_restore_191 (by decide) ?_
          refine lv_bipush (v := nI 24) hC.1 hC.2.1 dX7_restore_192 (by decide) ?_
          refine q_cpy (sp := ((3 + 3 + 10) + 72)) (dp := 0) (n := 24) 66 rfl 24 rfl (XW_s14 _) hC hw hl (by omega) (by omega) (by decide) (by decide) ⟨Nat.le_of_ble_eq_true rfl, Nat.le_of_ble_eq_true rfl⟩ wk2_182 dX7_restore_194 (fun H locs hw => ?_)
          have hw : Wst E (XW E a) (sr (sr (sr (sr (sr (sr (sr σ 4 (upr (σ 56) 10 (σ 4))) 11 (va_cpy (σ 56) (σ 11) (3 + 3 + 10) 0 24)) 12 (va_cpy (σ 56) (σ 12) ((3 + 3 + 10) + 24) 0 24)) 13 (va_cpy (σ 56) (σ 13) ((3 + 3 + 10) + 48) 0 24)) 15 (va_cpy (σ 56) (σ 15) 3 0 3)) 0 (upd (upd (upd (upd (upd (σ 0) 0 (σ 56 0)) 1 (σ 56 1)) 2 (σ 56 2)) 3 (nI (if 27 ≠ 0 then (27 - 1) else 29))) 4 (nI (kp - 1)))) 14 (va_cpy (σ 56) (σ 14) ((3 + 3 + 10) + 72) 0 24)) A s.heap H locs := hw
          have hst_ : sr (sr (sr (sr (sr (sr (sr σ 4 (upr (σ 56) 10 (σ 4))) 11 (va_cpy (σ 56) (σ 11) (3 + 3 + 10) 0 24)) 12 (va_cpy (σ 56) (σ 12) ((3 + 3 + 10) + 24) 0 24)) 13 (va_cpy (σ 56) (σ 13) ((3 + 3 + 10) + 48) 0 24)) 15 (va_cpy (σ 56) (σ 15) 3 0 3)) 0 (upd (upd (upd (upd (upd (σ 0) 0 (σ 56 0)) 1 (σ 56 1)) 2 (σ 56 2)) 3 (nI (if 27 ≠ 0 then (27 - 1) else 29))) 4 (nI (kp - 1)))) 14 (va_cpy (σ 56) (σ 14) ((3 + 3 + 10) + 72) 0 24) = sr (sr (sr (sr (sr (sr (sr σ 4 (upr (σ 56) 10 (σ 4))) 11 (va_cpy (σ 56) (σ 11) (3 + 3 + 10) 0 24)) 12 (va_cpy (σ 56) (σ 12) ((3 + 3 + 10) + 24) 0 24)) 13 (va_cpy (σ 56) (σ 13) ((3 + 3 + 10) + 48) 0 24)) 14 (va_cpy (σ 56) (σ 14) ((3 + 3 + 10) + 72) 0 24)) 15 (va_cpy (σ 56) (σ 15) 3 0 3)) 0 (upd (upd (upd (upd (upd (σ 0) 0 (σ 56 0)) 1 (σ 56 1)) 2 (σ 56 2)) 3 (nI (if 27 ≠ 0 then (27 - 1) else 29))) 4 (nI (kp - 1))) := by
            funext j_ x_
            by_cases e0 : j_ = 0
            · subst e0
              by_cases y0 : x_ = 0
              · subst y0; rfl
              · by_cases y1 : x_ = 1
                · subst y1; rfl
                · by_cases y2 : x_ = 2
                  · subst y2; rfl
                  · by_cases y3 : x_ = 3
                    · subst y3; rfl
                    · by_cases y4 : x_ = 4
                      · subst y4; rfl
                      · simp [sr, upd, y0, y1, y2, y3, y4]
            · by_cases e4 : j_ = 4
              · subst e4; rfl
              · by_cases e11 : j_ = 11
                · subst e11; rfl
                · by_cases e12 : j_ = 12
                  · subst e12; rfl
                  · by_cases e13 : j_ = 13
                    · subst e13; rfl
                    · by_cases e14 : j_ = 14
                      · subst e14; rfl
                      · by_cases e15 : j_ = 15
                        · subst e15; rfl
                        · simp only [sr, e0, e4, e11, e12, e13, e14, e15, if_false]
          rw [hst_] at hw
          refine hret _ _ _ _ _ hw ?_ dX7_restore_197
          exact rfl
        · refine lv_aload_n hC.1 hC.2.1 dX7_restore_96 rfl (lv_at hl 0 rfl) ?_
          refine gf_X7_16 hC hw dX7_restore_97 ?_
          refine gf_X7_49 hC hw dX7_restore_100 ?_
          refine lv_iload_n hC.1 hC.2.1 dX7_restore_103 rfl (lv_at hl 3 rfl) ?_
          refine lv_aload_n hC.1 hC.2.1 dX7_restore_104 rfl (lv_at hl 1 rfl) ?_
          refine lv_iload_n hC.1 hC.2.1 dX7_restore_105 rfl (lv_at hl 2 rfl) ?_
          refine lv_iload_n hC.1 hC.2.1 dX7_restore_106 rfl (lv_at hl 3 rfl) ?_
          refine q_addN hC dX7_restore_107 ?_
          refine q_ald (Wf := XW E a) (v := σ 56 ((3 + 3) + h)) 66 rfl (by decide) hC hw (by omega) rfl dX7_restore_108 ?_
          refine lv_iconst (v := nI 1) hC.1 hC.2.1 dX7_restore_109 (by decide) ?_
          have J118_6 : ∀ (w5 : Int32), w5 = (if (σ 56 ((3 + 3) + h)) = 1 then (1 : Int32) else 0) → ∀ (H : Heap) (locs : List Loc) (ls : Array Slot), Wst E (XW E a) (sr (sr (sr σ 4 (upr (σ 56) h (σ 4))) 15 (va_cpy (σ 56) (σ 15) 3 0 3)) 0 (upd (upd (upd (upd (upd (σ 0) 0 (σ 56 0)) 1 (σ 56 1)) 2 (σ 56 2)) 3 (nI (if 27 ≠ 0 then (27 - 1) else 29))) 4 (nI (kp - 1)))) A s.heap H locs → lv_has ls 4 [(0, .ref (a 68)), (1, .ref (a 56)), (2, .int (nI (3 + 3))), (3, .int (nI h))] → W p l e ({ frames := 1, cells := 0, slots := 0, locals := 24 }) s m args below meth c H locs 0 0 Q (F0 m 118 ls [.int (w5), .int (nI h), .ref (a 4)]) := by
            intro w5 e6 H locs ls hw hl
            subst e6
            refine as_X4 hC hw (by omega) vz_B dX7_restore_118 (fun H locs hw => ?_)
            have hw : Wst E (XW E a) (sr (sr (sr (sr σ 4 (upr (σ 56) h (σ 4))) 15 (va_cpy (σ 56) (σ 15) 3 0 3)) 0 (upd (upd (upd (upd (upd (σ 0) 0 (σ 56 0)) 1 (σ 56 1)) 2 (σ 56 2)) 3 (nI (if 27 ≠ 0 then (27 - 1) else 29))) 4 (nI (kp - 1)))) 4 (upd (upr (σ 56) h (σ 4)) h (if (σ 56 ((3 + 3) + h)) = 1 then (1 : Int32) else 0))) A s.heap H locs := hw
            have hst_ : sr (sr (sr (sr σ 4 (upr (σ 56) h (σ 4))) 15 (va_cpy (σ 56) (σ 15) 3 0 3)) 0 (upd (upd (upd (upd (upd (σ 0) 0 (σ 56 0)) 1 (σ 56 1)) 2 (σ 56 2)) 3 (nI (if 27 ≠ 0 then (27 - 1) else 29))) 4 (nI (kp - 1)))) 4 (upd (upr (σ 56) h (σ 4)) h (if (σ 56 ((3 + 3) + h)) = 1 then (1 : Int32) else 0)) = sr (sr (sr σ 4 (upd (upr (σ 56) h (σ 4)) h (if (σ 56 ((3 + 3) + h)) = 1 then (1 : Int32) else 0))) 15 (va_cpy (σ 56) (σ 15) 3 0 3)) 0 (upd (upd (upd (upd (upd (σ 0) 0 (σ 56 0)) 1 (σ 56 1)) 2 (σ 56 2)) 3 (nI (if 27 ≠ 0 then (27 - 1) else 29))) 4 (nI (kp - 1))) := by
              funext j_ x_
              by_cases e0 : j_ = 0
              · subst e0
                by_cases y0 : x_ = 0
                · subst y0; rfl
                · by_cases y1 : x_ = 1
                  · subst y1; rfl
                  · by_cases y2 : x_ = 2
                    · subst y2; rfl
                    · by_cases y3 : x_ = 3
                      · subst y3; rfl
                      · by_cases y4 : x_ = 4
                        · subst y4; rfl
                        · simp [sr, upd, y0, y1, y2, y3, y4]
              · by_cases e4 : j_ = 4
                · subst e4; rfl
                · by_cases e15 : j_ = 15
                  · subst e15; rfl
                  · simp only [sr, e0, e4, e15, if_false]
            rw [hst_] at hw
            refine lv_iinc (v := nI (h + 1)) (lv' := [(3, .int (nI (h + 1))), (0, .ref (a 68)), (1, .ref (a 56)), (2, .int (nI (3 + 3)))]) hC.1 hC.2.1 dX7_restore_119 hl (k := 3) rfl (nI_add _ _) (by decide) rfl (fun ls hl => ?_)
            refine lv_goto (tgt := 90) hC.1 hC.2.1 dX7_restore_122 (by decide) ?_
            rw [upr_s] at hw
            exact ih90 (h + 1) (by omega) (by omega) _ _ _ hw (lv_sub hl [1, 2, 3, 0] rfl)
          refine q_cmpne hC 117 cI dX7_restore_110 (by decide) (fun (c7 : ¬ ((σ 56 ((3 + 3) + h)) = 1)) => ?_) (fun (c7 : (σ 56 ((3 + 3) + h)) = 1) => ?_)
          · refine lv_iconst (v := nI 0) hC.1 hC.2.1 dX7_restore_117 (by decide) ?_
            exact J118_6 _ (if_neg c7).symm _ _ _ hw (lv_sub hl [0, 1, 2, 3] rfl)
          · refine lv_iconst (v := nI 1) hC.1 hC.2.1 dX7_restore_113 (by decide) ?_
            refine lv_goto (tgt := 118) hC.1 hC.2.1 dX7_restore_114 (by decide) ?_
            exact J118_6 _ (if_pos c7).symm _ _ _ hw (lv_sub hl [0, 1, 2, 3] rfl)
    have hst_ : sr (sr σ 15 (va_cpy (σ 56) (σ 15) 3 0 3)) 0 (upd (upd (upd (upd (upd (σ 0) 0 (σ 56 0)) 1 (σ 56 1)) 2 (σ 56 2)) 3 (nI (if 27 ≠ 0 then (27 - 1) else 29))) 4 (nI (kp - 1))) = sr (sr (sr σ 4 (upr (σ 56) 0 (σ 4))) 15 (va_cpy (σ 56) (σ 15) 3 0 3)) 0 (upd (upd (upd (upd (upd (σ 0) 0 (σ 56 0)) 1 (σ 56 1)) 2 (σ 56 2)) 3 (nI (if 27 ≠ 0 then (27 - 1) else 29))) 4 (nI (kp - 1))) := by
      funext j_ x_
      by_cases e0 : j_ = 0
      · subst e0
        by_cases y0 : x_ = 0
        · subst y0; rfl
        · by_cases y1 : x_ = 1
          · subst y1; rfl
          · by_cases y2 : x_ = 2
            · subst y2; rfl
            · by_cases y3 : x_ = 3
              · subst y3; rfl
              · by_cases y4 : x_ = 4
                · subst y4; rfl
                · simp [sr, upd, y0, y1, y2, y3, y4]
      · by_cases e4 : j_ = 4
        · subst e4; show σ 4 x_ = upr (σ 56) 0 (σ 4) x_; rw [upr_0]
        · by_cases e15 : j_ = 15
          · subst e15; rfl
          · simp only [sr, e0, e4, e15, if_false]
    rw [hst_] at hw
    exact L90_2 _ 0 (by omega) (Nat.lt_succ_self _) _ _ _ hw (lv_sub hl [3, 2, 1, 0] rfl)
  refine q_ifne hC 13 (cN0 (by omega)) dX7_restore_5 (by decide) (fun (c8 : 27 ≠ 0) => ?_) (fun (c8 : 27 = 0) => ?_)
  · refine lv_aload_n hC.1 hC.2.1 dX7_restore_13 rfl (lv_at hl 0 rfl) ?_
    refine gf_X7_28 (v := nI 27) hC hw hnx dX7_restore_14 ?_
    refine lv_iconst (v := nI 1) hC.1 hC.2.1 dX7_restore_17 (by decide) ?_
    refine q_subN hC (by omega) dX7_restore_18 ?_
    exact J19_2 _ (by (rw [if_pos c8]) <;> rfl) _ _ _ hw (lv_sub hl [0] rfl)
  · refine lv_bipush (v := nI 29) hC.1 hC.2.1 dX7_restore_8 (by decide) ?_
    refine lv_goto (tgt := 19) hC.1 hC.2.1 dX7_restore_10 (by decide) ?_
    exact J19_2 _ (by (rw [if_neg (fun q => q c8)]) <;> rfl) _ _ _ hw (lv_sub hl [0] rfl)
set_option maxHeartbeats 4000000 in
set_option maxRecDepth 100000 in
theorem tX7_restore_k28 (l : Launch) (E : EV) (a : Nat → Nat) (σ : St) (kp : Nat) (hnx : σ 0 3 = nI 28) (hkp : σ 0 4 = nI kp) (hk30 : kp ≤ 30) (hk1 : 1 ≤ kp) : MV l E (XW E a) yX7_restore (Cond.code yX7_restore cX7_restore 4 none) ({ frames := 1, cells := 0, slots := 0, locals := 24 }) [.ref (a 68)] σ (fun u_ => u_ = sr (sr (sr (sr (sr (sr (sr σ 4 (upr (σ 57) 10 (σ 4))) 11 (va_cpy (σ 57) (σ 11) 16 0 24)) 12 (va_cpy (σ 57) (σ 12) 40 0 24)) 13 (va_cpy (σ 57) (σ 13) 64 0 24)) 14 (va_cpy (σ 57) (σ 14) 88 0 24)) 15 (va_cpy (σ 57) (σ 15) 3 0 3)) 0 (upd (upd (upd (upd (upd (σ 0) 0 ((σ 57) 0)) 1 ((σ 57) 1)) 2 ((σ 57) 2)) 3 (nI (if 28 ≠ 0 then 28 - 1 else 29))) 4 (nI (kp - 1)))) := by
  refine MV.mk (by decide +kernel) (Nat.le_of_ble_eq_true rfl) ?_
  intro p e s m args below meth c ls A Q hret hC hw hl
  have hC : Cxt E p s m args meth c cX7_restore 4 none RX7 A := hC
  have hl : lv_has ls 4 [(0, .ref (a 68))] := hl
  refine lv_aload_n hC.1 hC.2.1 dX7_restore_0 rfl (lv_at hl 0 rfl) ?_
  refine lv_aload_n hC.1 hC.2.1 dX7_restore_1 rfl (lv_at hl 0 rfl) ?_
  refine gf_X7_28 (v := nI 28) hC hw hnx dX7_restore_2 ?_
  have J19_2 : ∀ (w1 : Nat), w1 = (if 28 ≠ 0 then (28 - 1) else 29) → ∀ (H : Heap) (locs : List Loc) (ls : Array Slot), Wst E (XW E a) (σ) A s.heap H locs → lv_has ls 4 [(0, .ref (a 68))] → W p l e ({ frames := 1, cells := 0, slots := 0, locals := 24 }) s m args below meth c H locs 0 0 Q (F0 m 19 ls [.int (nI w1), .ref (a 68)]) := by
    intro w1 e2 H locs ls hw hl
    subst e2
    refine pf_X7_28 hC hw dX7_restore_19 (fun H locs hw => ?_)
    have hw : Wst E (XW E a) (sr σ 0 (upd (σ 0) 3 (nI (if 28 ≠ 0 then (28 - 1) else 29)))) A s.heap H locs := hw
    refine lv_aload_n hC.1 hC.2.1 dX7_restore_22 rfl (lv_at hl 0 rfl) ?_
    refine lv_dup hC.1 hC.2.1 dX7_restore_23 rfl ?_
    refine gf_X7_65 (v := nI kp) hC hw hkp dX7_restore_24 ?_
    refine lv_iconst (v := nI 1) hC.1 hC.2.1 dX7_restore_27 (by decide) ?_
    refine q_subN hC (by omega) dX7_restore_28 ?_
    refine pf_X7_65 hC hw dX7_restore_29 (fun H locs hw => ?_)
    have hw : Wst E (XW E a) (sr (sr σ 0 (upd (σ 0) 3 (nI (if 28 ≠ 0 then (28 - 1) else 29)))) 0 (upd (upd (σ 0) 3 (nI (if 28 ≠ 0 then (28 - 1) else 29))) 4 (nI (kp - 1)))) A s.heap H locs := hw
    have hst_ : sr (sr σ 0 (upd (σ 0) 3 (nI (if 28 ≠ 0 then (28 - 1) else 29)))) 0 (upd (upd (σ 0) 3 (nI (if 28 ≠ 0 then (28 - 1) else 29))) 4 (nI (kp - 1))) = sr σ 0 (upd (upd (σ 0) 3 (nI (if 28 ≠ 0 then (28 - 1) else 29))) 4 (nI (kp - 1))) := by
      funext j_ x_
      by_cases e0 : j_ = 0
      · subst e0
        by_cases y3 : x_ = 3
        · subst y3; rfl
        · by_cases y4 : x_ = 4
          · subst y4; rfl
          · simp [sr, upd, y3, y4]
      · simp only [sr, e0, if_false]
    rw [hst_] at hw
    refine lv_aload_n hC.1 hC.2.1 dX7_restore_32 rfl (lv_at hl 0 rfl) ?_
    refine gf_X7_13 hC hw dX7_restore_33 ?_
    refine lv_aload_n hC.1 hC.2.1 dX7_restore_36 rfl (lv_at hl 0 rfl) ?_
    refine gf_X7_28 (v := nI (if 28 ≠ 0 then (28 - 1) else 29)) hC hw rfl dX7_restore_37 ?_
    refine q_top (y := nI 27) rfl ?_
    refine q_aald hC hw (i := 27) (by decide) dX7_restore_40 ?_
    refine lv_astore_n (lv' := [(1, .ref (a 57)), (0, .ref (a 68))]) hC.1 hC.2.1 dX7_restore_41 rfl hl (by decide) rfl (fun ls hl => ?_)
    refine lv_aload_n hC.1 hC.2.1 dX7_restore_42 rfl (lv_at hl 1 rfl) ?_
    refine gf_X7_16 hC hw dX7_restore_43 ?_
    refine lv_aload_n hC.1 hC.2.1 dX7_restore_46 rfl (lv_at hl 0 rfl) ?_
    refine lv_iconst (v := nI 0) hC.1 hC.2.1 dX7_restore_47 (by decide) ?_
    refine q_ald (Wf := XW E a) (v := σ 57 0) 67 rfl (by decide) hC hw (by omega) rfl dX7_restore_48 ?_
    refine pf_X7_32 hC hw dX7_restore_49 (fun H locs hw => ?_)
    have hw : Wst E (XW E a) (sr (sr σ 0 (upd (upd (σ 0) 3 (nI (if 28 ≠ 0 then (28 - 1) else 29))) 4 (nI (kp - 1)))) 0 (upd (upd (upd (σ 0) 3 (nI (if 28 ≠ 0 then (28 - 1) else 29))) 4 (nI (kp - 1))) 0 (σ 57 0))) A s.heap H locs := hw
    have hst_ : sr (sr σ 0 (upd (upd (σ 0) 3 (nI (if 28 ≠ 0 then (28 - 1) else 29))) 4 (nI (kp - 1)))) 0 (upd (upd (upd (σ 0) 3 (nI (if 28 ≠ 0 then (28 - 1) else 29))) 4 (nI (kp - 1))) 0 (σ 57 0)) = sr σ 0 (upd (upd (upd (σ 0) 0 (σ 57 0)) 3 (nI (if 28 ≠ 0 then (28 - 1) else 29))) 4 (nI (kp - 1))) := by
      funext j_ x_
      by_cases e0 : j_ = 0
      · subst e0
        by_cases y0 : x_ = 0
        · subst y0; rfl
        · by_cases y3 : x_ = 3
          · subst y3; rfl
          · by_cases y4 : x_ = 4
            · subst y4; rfl
            · simp [sr, upd, y0, y3, y4]
      · simp only [sr, e0, if_false]
    rw [hst_] at hw
    refine lv_aload_n hC.1 hC.2.1 dX7_restore_52 rfl (lv_at hl 1 rfl) ?_
    refine gf_X7_20 hC hw dX7_restore_53 ?_
    refine lv_aload_n hC.1 hC.2.1 dX7_restore_56 rfl (lv_at hl 0 rfl) ?_
    refine lv_iconst (v := nI 1) hC.1 hC.2.1 dX7_restore_57 (by decide) ?_
    refine q_ald (Wf := XW E a) (v := σ 57 1) 67 rfl (by decide) hC hw (by omega) rfl dX7_restore_58 ?_
    refine pf_X7_37 hC hw dX7_restore_59 (fun H locs hw => ?_)
    have hw : Wst E (XW E a) (sr (sr σ 0 (upd (upd (upd (σ 0) 0 (σ 57 0)) 3 (nI (if 28 ≠ 0 then (28 - 1) else 29))) 4 (nI (kp - 1)))) 0 (upd (upd (upd (upd (σ 0) 0 (σ 57 0)) 3 (nI (if 28 ≠ 0 then (28 - 1) else 29))) 4 (nI (kp - 1))) 1 (σ 57 1))) A s.heap H locs := hw
    have hst_ : sr (sr σ 0 (upd (upd (upd (σ 0) 0 (σ 57 0)) 3 (nI (if 28 ≠ 0 then (28 - 1) else 29))) 4 (nI (kp - 1)))) 0 (upd (upd (upd (upd (σ 0) 0 (σ 57 0)) 3 (nI (if 28 ≠ 0 then (28 - 1) else 29))) 4 (nI (kp - 1))) 1 (σ 57 1)) = sr σ 0 (upd (upd (upd (upd (σ 0) 0 (σ 57 0)) 1 (σ 57 1)) 3 (nI (if 28 ≠ 0 then (28 - 1) else 29))) 4 (nI (kp - 1))) := by
      funext j_ x_
      by_cases e0 : j_ = 0
      · subst e0
        by_cases y0 : x_ = 0
        · subst y0; rfl
        · by_cases y1 : x_ = 1
          · subst y1; rfl
          · by_cases y3 : x_ = 3
            · subst y3; rfl
            · by_cases y4 : x_ = 4
              · subst y4; rfl
              · simp [sr, upd, y0, y1, y3, y4]
      · simp only [sr, e0, if_false]
    rw [hst_] at hw
    refine lv_aload_n hC.1 hC.2.1 dX7_restore_62 rfl (lv_at hl 1 rfl) ?_
    refine gf_X7_20 hC hw dX7_restore_63 ?_
    refine lv_aload_n hC.1 hC.2.1 dX7_restore_66 rfl (lv_at hl 0 rfl) ?_
    refine lv_iconst (v := nI 2) hC.1 hC.2.1 dX7_restore_67 (by decide) ?_
    refine q_ald (Wf := XW E a) (v := σ 57 2) 67 rfl (by decide) hC hw (by omega) rfl dX7_restore_68 ?_
    refine pf_X7_40 hC hw dX7_restore_69 (fun H locs hw => ?_)
    have hw : Wst E (XW E a) (sr (sr σ 0 (upd (upd (upd (upd (σ 0) 0 (σ 57 0)) 1 (σ 57 1)) 3 (nI (if 28 ≠ 0 then (28 - 1) else 29))) 4 (nI (kp - 1)))) 0 (upd (upd (upd (upd (upd (σ 0) 0 (σ 57 0)) 1 (σ 57 1)) 3 (nI (if 28 ≠ 0 then (28 - 1) else 29))) 4 (nI (kp - 1))) 2 (σ 57 2))) A s.heap H locs := hw
    have hst_ : sr (sr σ 0 (upd (upd (upd (upd (σ 0) 0 (σ 57 0)) 1 (σ 57 1)) 3 (nI (if 28 ≠ 0 then (28 - 1) else 29))) 4 (nI (kp - 1)))) 0 (upd (upd (upd (upd (upd (σ 0) 0 (σ 57 0)) 1 (σ 57 1)) 3 (nI (if 28 ≠ 0 then (28 - 1) else 29))) 4 (nI (kp - 1))) 2 (σ 57 2)) = sr σ 0 (upd (upd (upd (upd (upd (σ 0) 0 (σ 57 0)) 1 (σ 57 1)) 2 (σ 57 2)) 3 (nI (if 28 ≠ 0 then (28 - 1) else 29))) 4 (nI (kp - 1))) := by
      funext j_ x_
      by_cases e0 : j_ = 0
      · subst e0
        by_cases y0 : x_ = 0
        · subst y0; rfl
        · by_cases y1 : x_ = 1
          · subst y1; rfl
          · by_cases y2 : x_ = 2
            · subst y2; rfl
            · by_cases y3 : x_ = 3
              · subst y3; rfl
              · by_cases y4 : x_ = 4
                · subst y4; rfl
                · simp [sr, upd, y0, y1, y2, y3, y4]
      · simp only [sr, e0, if_false]
    rw [hst_] at hw
    refine lv_iconst (v := nI 3) hC.1 hC.2.1 dX7_restore_72 (by decide) ?_
    refine lv_istore_n (lv' := [(2, .int (nI 3)), (1, .ref (a 57)), (0, .ref (a 68))]) hC.1 hC.2.1 dX7_restore_73 rfl hl (by decide) rfl (fun ls hl => ?_)
    refine lv_aload_n hC.1 hC.2.1 dX7_restore_74 rfl (lv_at hl 1 rfl) ?_
    refine lv_iload_n hC.1 hC.2.1 dX7_restore_75 rfl (lv_at hl 0 rfl) ?_
    refine lv_aload_n hC.1 hC.2.1 dX7_restore_76 rfl (lv_at hl 2 rfl) ?_
    refine gf_X7_24 hC hw dX7_restore_77 ?_
    refine lv_iconst (v := nI 0) hC.1 hC.2.1 dX7_restore_80 (by decide) ?_
    refine lv_iconst (v := nI 3) hC.1 hC.2.1 dX7_restore_81 (by decide) ?_
    refine q_cpy (sp := 3) (dp := 0) (n := 3) 67 rfl 25 rfl (XW_s15 _) hC hw hl (by omega) (by omega) (by decide) (by decide) ⟨Nat.le_of_ble_eq_true rfl, Nat.le_of_ble_eq_true rfl⟩ wk2_182 dX7_restore_82 (fun H locs hw => ?_)
    have hw : Wst E (XW E a) (sr (sr σ 0 (upd (upd (upd (upd (upd (σ 0) 0 (σ 57 0)) 1 (σ 57 1)) 2 (σ 57 2)) 3 (nI (if 28 ≠ 0 then (28 - 1) else 29))) 4 (nI (kp - 1)))) 15 (va_cpy (σ 57) (σ 15) 3 0 3)) A s.heap H locs := hw
    have hst_ : sr (sr σ 0 (upd (upd (upd (upd (upd (σ 0) 0 (σ 57 0)) 1 (σ 57 1)) 2 (σ 57 2)) 3 (nI (if 28 ≠ 0 then (28 - 1) else 29))) 4 (nI (kp - 1)))) 15 (va_cpy (σ 57) (σ 15) 3 0 3) = sr (sr σ 15 (va_cpy (σ 57) (σ 15) 3 0 3)) 0 (upd (upd (upd (upd (upd (σ 0) 0 (σ 57 0)) 1 (σ 57 1)) 2 (σ 57 2)) 3 (nI (if 28 ≠ 0 then (28 - 1) else 29))) 4 (nI (kp - 1))) := by
      funext j_ x_
      by_cases e0 : j_ = 0
      · subst e0
        by_cases y0 : x_ = 0
        · subst y0; rfl
        · by_cases y1 : x_ = 1
          · subst y1; rfl
          · by_cases y2 : x_ = 2
            · subst y2; rfl
            · by_cases y3 : x_ = 3
              · subst y3; rfl
              · by_cases y4 : x_ = 4
                · subst y4; rfl
                · simp [sr, upd, y0, y1, y2, y3, y4]
      · by_cases e15 : j_ = 15
        · subst e15; rfl
        · simp only [sr, e0, e15, if_false]
    rw [hst_] at hw
    refine lv_iinc (v := nI (3 + 3)) (lv' := [(2, .int (nI (3 + 3))), (1, .ref (a 57)), (0, .ref (a 68))]) hC.1 hC.2.1 dX7_restore_85 hl (k := 0) rfl (nI_add _ _) (by decide) rfl (fun ls hl => ?_)
    refine lv_iconst (v := nI 0) hC.1 hC.2.1 dX7_restore_88 (by decide) ?_
    refine lv_istore_n (lv' := [(3, .int (nI 0)), (2, .int (nI (3 + 3))), (1, .ref (a 57)), (0, .ref (a 68))]) hC.1 hC.2.1 dX7_restore_89 rfl hl (by decide) rfl (fun ls hl => ?_)
    have L90_2 : ∀ (n : Nat), ∀ (h : Nat), (h ≤ 10) → (10 - h) < n → ∀ (H : Heap) (locs : List Loc) (ls : Array Slot), Wst E (XW E a) (sr (sr (sr σ 4 (upr (σ 57) h (σ 4))) 15 (va_cpy (σ 57) (σ 15) 3 0 3)) 0 (upd (upd (upd (upd (upd (σ 0) 0 (σ 57 0)) 1 (σ 57 1)) 2 (σ 57 2)) 3 (nI (if 28 ≠ 0 then (28 - 1) else 29))) 4 (nI (kp - 1)))) A s.heap H locs → lv_has ls 4 [(0, .ref (a 68)), (1, .ref (a 57)), (2, .int (nI (3 + 3))), (3, .int (nI h))] → W p l e ({ frames := 1, cells := 0, slots := 0, locals := 24 }) s m args below meth c H locs 0 0 Q (F0 m 90 ls []) := by
      intro n
      induction n with
      | zero => intro h hh hn; exact absurd hn (Nat.not_lt_zero _)
      | succ n ih90 =>
        intro h hh hn90 H locs ls hw hl
        refine lv_iload_n hC.1 hC.2.1 dX7_restore_90 rfl (lv_at hl 3 rfl) ?_
        refine lv_bipush (v := nI 10) hC.1 hC.2.1 dX7_restore_91 (by decide) ?_
        refine q_cmpge hC 125 (cNle (by omega) (by omega)) dX7_restore_93 (by decide) (fun (c4 : 10 ≤ h) => ?_) (fun (c4 : h < 10) => ?_)
        · have hh9 : h = 10 := by omega
          rw [hh9] at hw
          refine lv_iinc (v := nI (3 + 3 + 10)) (lv' := [(2, .int (nI (3 + 3 + 10))), (0, .ref (a 68)), (1, .ref (a 57)), (3, .int (nI h))]) hC.1 hC.2.1 dX7_restore_125 hl (k := 2) rfl (nI_add _ _) (by decide) rfl (fun ls hl => ?_)
          refine lv_aload_n hC.1 hC.2.1 dX7_restore_128 rfl (lv_at hl 2 rfl) ?_
          refine lv_iload_n hC.1 hC.2.1 dX7_restore_129 rfl (lv_at hl 0 rfl) ?_
          refine lv_aload_n hC.1 hC.2.1 dX7_restore_130 rfl (lv_at hl 1 rfl) ?_
          refine gf_X7_20 hC hw dX7_restore_131 ?_
          refine gf_X7_53 hC hw dX7_restore_134 ?_
          refine lv_iconst (v := nI 0) hC.1 hC.2.1 dX7_restore_137 (by decide) ?_
          refine lv_bipush (v := nI 24) hC.1 hC.2.1 dX7_restore_138 (by decide) ?_
          refine q_cpy (sp := (3 + 3 + 10)) (dp := 0) (n := 24) 67 rfl 21 rfl (XW_s11 _) hC hw hl (by omega) (by omega) (by decide) (by decide) ⟨Nat.le_of_ble_eq_true rfl, Nat.le_of_ble_eq_true rfl⟩ wk2_182 dX7_restore_140 (fun H locs hw => ?_)
          have hw : Wst E (XW E a) (sr (sr (sr (sr σ 4 (upr (σ 57) 10 (σ 4))) 15 (va_cpy (σ 57) (σ 15) 3 0 3)) 0 (upd (upd (upd (upd (upd (σ 0) 0 (σ 57 0)) 1 (σ 57 1)) 2 (σ 57 2)) 3 (nI (if 28 ≠ 0 then (28 - 1) else 29))) 4 (nI (kp - 1)))) 11 (va_cpy (σ 57) (σ 11) (3 + 3 + 10) 0 24)) A s.heap H locs := hw
          have hst_ : sr (sr (sr (sr σ 4 (upr (σ 57) 10 (σ 4))) 15 (va_cpy (σ 57) (σ 15) 3 0 3)) 0 (upd (upd (upd (upd (upd (σ 0) 0 (σ 57 0)) 1 (σ 57 1)) 2 (σ 57 2)) 3 (nI (if 28 ≠ 0 then (28 - 1) else 29))) 4 (nI (kp - 1)))) 11 (va_cpy (σ 57) (σ 11) (3 + 3 + 10) 0 24) = sr (sr (sr (sr σ 4 (upr (σ 57) 10 (σ 4))) 11 (va_cpy (σ 57) (σ 11) (3 + 3 + 10) 0 24)) 15 (va_cpy (σ 57) (σ 15) 3 0 3)) 0 (upd (upd (upd (upd (upd (σ 0) 0 (σ 57 0)) 1 (σ 57 1)) 2 (σ 57 2)) 3 (nI (if 28 ≠ 0 then (28 - 1) else 29))) 4 (nI (kp - 1))) := by
            funext j_ x_
            by_cases e0 : j_ = 0
            · subst e0
              by_cases y0 : x_ = 0
              · subst y0; rfl
              · by_cases y1 : x_ = 1
                · subst y1; rfl
                · by_cases y2 : x_ = 2
                  · subst y2; rfl
                  · by_cases y3 : x_ = 3
                    · subst y3; rfl
                    · by_cases y4 : x_ = 4
                      · subst y4; rfl
                      · simp [sr, upd, y0, y1, y2, y3, y4]
            · by_cases e4 : j_ = 4
              · subst e4; rfl
              · by_cases e11 : j_ = 11
                · subst e11; rfl
                · by_cases e15 : j_ = 15
                  · subst e15; rfl
                  · simp only [sr, e0, e4, e11, e15, if_false]
          rw [hst_] at hw
          refine lv_aload_n hC.1 hC.2.1 dX7_restore_143 rfl (lv_at hl 2 rfl) ?_
          refine lv_iload_n hC.1 hC.2.1 dX7_restore_144 rfl (lv_at hl 0 rfl) ?_
          refine lv_bipush (v := nI 24) hC.1 hC.2.1 dX7_restore_145 (by decide) ?_
          refine q_addN hC dX7_restore_147 ?_
          refine lv_aload_n hC.1 hC.2.1 dX7_restore_148 rfl (lv_at hl 1 rfl) ?_
          refine gf_X7_20 hC hw dX7_restore_149 ?_
          refine gf_X7_56 hC hw dX7_restore_152 ?_
          refine lv_iconst (v := nI 0) hC.1 hC.2.1 dX7_restore_155 (by decide) ?_
          refine lv_bipush (v := nI 24) hC.1 hC.2.1 dX7_restore_156 (by decide) ?_
          refine q_cpy (sp := ((3 + 3 + 10) + 24)) (dp := 0) (n := 24) 67 rfl 22 rfl (XW_s12 _) hC hw hl (by omega) (by omega) (by decide) (by decide) ⟨Nat.le_of_ble_eq_true rfl, Nat.le_of_ble_eq_true rfl⟩ wk2_182 dX7_restore_158 (fun H locs hw => ?_)
          have hw : Wst E (XW E a) (sr (sr (sr (sr (sr σ 4 (upr (σ 57) 10 (σ 4))) 11 (va_cpy (σ 57) (σ 11) (3 + 3 + 10) 0 24)) 15 (va_cpy (σ 57) (σ 15) 3 0 3)) 0 (upd (upd (upd (upd (upd (σ 0) 0 (σ 57 0)) 1 (σ 57 1)) 2 (σ 57 2)) 3 (nI (if 28 ≠ 0 then (28 - 1) else 29))) 4 (nI (kp - 1)))) 12 (va_cpy (σ 57) (σ 12) ((3 + 3 + 10) + 24) 0 24)) A s.heap H locs := hw
          have hst_ : sr (sr (sr (sr (sr σ 4 (upr (σ 57) 10 (σ 4))) 11 (va_cpy (σ 57) (σ 11) (3 + 3 + 10) 0 24)) 15 (va_cpy (σ 57) (σ 15) 3 0 3)) 0 (upd (upd (upd (upd (upd (σ 0) 0 (σ 57 0)) 1 (σ 57 1)) 2 (σ 57 2)) 3 (nI (if 28 ≠ 0 then (28 - 1) else 29))) 4 (nI (kp - 1)))) 12 (va_cpy (σ 57) (σ 12) ((3 + 3 + 10) + 24) 0 24) = sr (sr (sr (sr (sr σ 4 (upr (σ 57) 10 (σ 4))) 11 (va_cpy (σ 57) (σ 11) (3 + 3 + 10) 0 24)) 12 (va_cpy (σ 57) (σ 12) ((3 + 3 + 10) + 24) 0 24)) 15 (va_cpy (σ 57) (σ 15) 3 0 3)) 0 (upd (upd (upd (upd (upd (σ 0) 0 (σ 57 0)) 1 (σ 57 1)) 2 (σ 57 2)) 3 (nI (if 28 ≠ 0 then (28 - 1) else 29))) 4 (nI (kp - 1))) := by
            funext j_ x_
            by_cases e0 : j_ = 0
            · subst e0
              by_cases y0 : x_ = 0
              · subst y0; rfl
              · by_cases y1 : x_ = 1
                · subst y1; rfl
                · by_cases y2 : x_ = 2
                  · subst y2; rfl
                  · by_cases y3 : x_ = 3
                    · subst y3; rfl
                    · by_cases y4 : x_ = 4
                      · subst y4; rfl
                      · simp [sr, upd, y0, y1, y2, y3, y4]
            · by_cases e4 : j_ = 4
              · subst e4; rfl
              · by_cases e11 : j_ = 11
                · subst e11; rfl
                · by_cases e12 : j_ = 12
                  · subst e12; rfl
                  · by_cases e15 : j_ = 15
                    · subst e15; rfl
                    · simp only [sr, e0, e4, e11, e12, e15, if_false]
          rw [hst_] at hw
          refine lv_aload_n hC.1 hC.2.1 dX7_restore_161 rfl (lv_at hl 2 rfl) ?_
          refine lv_iload_n hC.1 hC.2.1 dX7_restore_162 rfl (lv_at hl 0 rfl) ?_
          refine lv_bipush (v := nI 48) hC.1 hC.2.1 dX7_restore_163 (by decide) ?_
          refine q_addN hC dX7_restore_165 ?_
          refine lv_aload_n hC.1 hC.2.1 dX7_restore_166 rfl (lv_at hl 1 rfl) ?_
          refine gf_X7_20 hC hw dX7_restore_167 ?_
          refine gf_X7_59 hC hw dX7_restore_170 ?_
          refine lv_iconst (v := nI 0) hC.1 hC.2.1 dX7_restore_173 (by decide) ?_
          refine lv_bipush (v := nI 24) hC.1 hC.2.1 dX7_restore_174 (by decide) ?_
          refine q_cpy (sp := ((3 + 3 + 10) + 48)) (dp := 0) (n := 24) 67 rfl 23 rfl (XW_s13 _) hC hw hl (by omega) (by omega) (by decide) (by decide) ⟨Nat.le_of_ble_eq_true rfl, Nat.le_of_ble_eq_true rfl⟩ wk2_182 dX7_restore_176 (fun H locs hw => ?_)
          have hw : Wst E (XW E a) (sr (sr (sr (sr (sr (sr σ 4 (upr (σ 57) 10 (σ 4))) 11 (va_cpy (σ 57) (σ 11) (3 + 3 + 10) 0 24)) 12 (va_cpy (σ 57) (σ 12) ((3 + 3 + 10) + 24) 0 24)) 15 (va_cpy (σ 57) (σ 15) 3 0 3)) 0 (upd (upd (upd (upd (upd (σ 0) 0 (σ 57 0)) 1 (σ 57 1)) 2 (σ 57 2)) 3 (nI (if 28 ≠ 0 then (28 - 1) else 29))) 4 (nI (kp - 1)))) 13 (va_cpy (σ 57) (σ 13) ((3 + 3 + 10) + 48) 0 24)) A s.heap H locs := hw
          have hst_ : sr (sr (sr (sr (sr (sr σ 4 (upr (σ 57) 10 (σ 4))) 11 (va_cpy (σ 57) (σ 11) (3 + 3 + 10) 0 24)) 12 (va_cpy (σ 57) (σ 12) ((3 + 3 + 10) + 24) 0 24)) 15 (va_cpy (σ 57) (σ 15) 3 0 3)) 0 (upd (upd (upd (upd (upd (σ 0) 0 (σ 57 0)) 1 (σ 57 1)) 2 (σ 57 2)) 3 (nI (if 28 ≠ 0 then (28 - 1) else 29))) 4 (nI (kp - 1)))) 13 (va_cpy (σ 57) (σ 13) ((3 + 3 + 10) + 48) 0 24) = sr (sr (sr (sr (sr (sr σ 4 (upr (σ 57) 10 (σ 4))) 11 (va_cpy (σ 57) (σ 11) (3 + 3 + 10) 0 24)) 12 (va_cpy (σ 57) (σ 12) ((3 + 3 + 10) + 24) 0 24)) 13 (va_cpy (σ 57) (σ 13) ((3 + 3 + 10) + 48) 0 24)) 15 (va_cpy (σ 57) (σ 15) 3 0 3)) 0 (upd (upd (upd (upd (upd (σ 0) 0 (σ 57 0)) 1 (σ 57 1)) 2 (σ 57 2)) 3 (nI (if 28 ≠ 0 then (28 - 1) else 29))) 4 (nI (kp - 1))) := by
            funext j_ x_
            by_cases e0 : j_ = 0
            · subst e0
              by_cases y0 : x_ = 0
              · subst y0; rfl
              · by_cases y1 : x_ = 1
                · subst y1; rfl
                · by_cases y2 : x_ = 2
                  · subst y2; rfl
                  · by_cases y3 : x_ = 3
                    · subst y3; rfl
                    · by_cases y4 : x_ = 4
                      · subst y4; rfl
                      · simp [sr, upd, y0, y1, y2, y3, y4]
            · by_cases e4 : j_ = 4
              · subst e4; rfl
              · by_cases e11 : j_ = 11
                · subst e11; rfl
                · by_cases e12 : j_ = 12
                  · subst e12; rfl
                  · by_cases e13 : j_ = 13
                    · subst e13; rfl
                    · by_cases e15 : j_ = 15
                      · subst e15; rfl
                      · simp only [sr, e0, e4, e11, e12, e13, e15, if_false]
          rw [hst_] at hw
          refine lv_aload_n hC.1 hC.2.1 dX7_restore_179 rfl (lv_at hl 2 rfl) ?_
          refine lv_iload_n hC.1 hC.2.1 dX7_restore_180 rfl (lv_at hl 0 rfl) ?_
          refine lv_bipush (v := nI 72) hC.1 hC.2.1 dX7_restore_181 (by decide) ?_
          refine q_addN hC dX7_restore_183 ?_
          refine lv_aload_n hC.1 hC.2.1 dX7_restore_184 rfl (lv_at hl 1 rfl) ?_
          refine gf_X7_20 hC hw dX7_restore_185 ?_
          refine gf_X7_62 hC hw dX7_restore_188 ?_
          refine lv_iconst (v := nI 0) hC.1 hC.2.1 dX7_restore_191 (by decide) ?_
          refine lv_bipush (v := nI 24) hC.1 hC.2.1 dX7_restore_192 (by decide) ?_
          refine q_cpy (sp := ((3 + 3 + 10) + 72)) (dp := 0) (n := 24) 67 rfl 24 rfl (XW_s14 _) hC hw hl (by omega) (by omega) (by decide) (by decide) ⟨Nat.le_of_ble_eq_true rfl, Nat.le_of_ble_eq_true rfl⟩ wk2_182 dX7_restore_194 (fun H locs hw => ?_)
          have hw : Wst E (XW E a) (sr (sr (sr (sr (sr (sr (sr σ 4 (upr (σ 57) 10 (σ 4))) 11 (va_cpy (σ 57) (σ 11) (3 + 3 + 10) 0 24)) 12 (va_cpy (σ 57) (σ 12) ((3 + 3 + 10) + 24) 0 24)) 13 (va_cpy (σ 57) (σ 13) ((3 + 3 + 10) + 48) 0 24)) 15 (va_cpy (σ 57) (σ 15) 3 0 3)) 0 (upd (upd (upd (upd (upd (σ 0) 0 (σ 57 0)) 1 (σ 57 1)) 2 (σ 57 2)) 3 (nI (if 28 ≠ 0 then (28 - 1) else 29))) 4 (nI (kp - 1)))) 14 (va_cpy (σ 57) (σ 14) ((3 + 3 + 10) + 72) 0 24)) A s.heap H locs := hw
          have hst_ : sr (sr (sr (sr (sr (sr (sr σ 4 (upr (σ 57) 10 (σ 4))) 11 (va_cpy (σ 57) (σ 11) (3 + 3 + 10) 0 24)) 12 (va_cpy (σ 57) (σ 12) ((3 + 3 + 10) + 24) 0 24)) 13 (va_cpy (σ 57) (σ 13) ((3 + 3 + 10) + 48) 0 24)) 15 (va_cpy (σ 57) (σ 15) 3 0 3)) 0 (upd (upd (upd (upd (upd (σ 0) 0 (σ 57 0)) 1 (σ 57 1)) 2 (σ 57 2)) 3 (nI (if 28 ≠ 0 then (28 - 1) else 29))) 4 (nI (kp - 1)))) 14 (va_cpy (σ 57) (σ 14) ((3 + 3 + 10) + 72) 0 24) = sr (sr (sr (sr (sr (sr (sr σ 4 (upr (σ 57) 10 (σ 4))) 11 (va_cpy (σ 57) (σ 11) (3 + 3 + 10) 0 24)) 12 (va_cpy (σ 57) (σ 12) ((3 + 3 + 10) + 24) 0 24)) 13 (va_cpy (σ 57) (σ 13) ((3 + 3 + 10) + 48) 0 24)) 14 (va_cpy (σ 57) (σ 14) ((3 + 3 + 10) + 72) 0 24)) 15 (va_cpy (σ 57) (σ 15) 3 0 3)) 0 (upd (upd (upd (upd (upd (σ 0) 0 (σ 57 0)) 1 (σ 57 1)) 2 (σ 57 2)) 3 (nI (if 28 ≠ 0 then (28 - 1) else 29))) 4 (nI (kp - 1))) := by
            funext j_ x_
            by_cases e0 : j_ = 0
            · subst e0
              by_cases y0 : x_ = 0
              · subst y0; rfl
              · by_cases y1 : x_ = 1
                · subst y1; rfl
                · by_cases y2 : x_ = 2
                  · subst y2; rfl
                  · by_cases y3 : x_ = 3
                    · subst y3; rfl
                    · by_cases y4 : x_ = 4
                      · subst y4; rfl
                      · simp [sr, upd, y0, y1, y2, y3, y4]
            · by_cases e4 : j_ = 4
              · subst e4; rfl
              · by_cases e11 : j_ = 11
                · subst e11; rfl
                · by_cases e12 : j_ = 12
                  · subst e12; rfl
                  · by_cases e13 : j_ = 13
                    · subst e13; rfl
                    · by_cases e14 : j_ = 14
                      · subst e14; rfl
                      · by_cases e15 : j_ = 15
                        · subst e15; rfl
                        · simp only [sr, e0, e4, e11, e12, e13, e14, e15, if_false]
          rw [hst_] at hw
          refine hret _ _ _ _ _ hw ?_ dX7_restore_197
          exact rfl
        · refine lv_aload_n hC.1 hC.2.1 dX7_restore_96 rfl (lv_at hl 0 rfl) ?_
          refine gf_X7_16 hC hw dX7_restore_97 ?_
          refine gf_X7_49 hC hw dX7_restore_100 ?_
          refine lv_iload_n hC.1 hC.2.1 dX7_restore_103 rfl (lv_at hl 3 rfl) ?_
          refine lv_aload_n hC.1 hC.2.1 dX7_restore_104 rfl (lv_at hl 1 rfl) ?_
          refine lv_iload_n hC.1 hC.2.1 dX7_restore_105 rfl (lv_at hl 2 rfl) ?_
          refine lv_iload_n hC.1 hC.2.1 dX7_restore_106 rfl (lv_at hl 3 rfl) ?_
          refine q_addN hC dX7_restore_107 ?_
          refine q_ald (Wf := XW E a) (v := σ 57 ((3 + 3) + h)) 67 rfl (by decide) hC hw (by omega) rfl dX7_restore_108 ?_
          refine lv_iconst (v := nI 1) hC.1 hC.2.1 dX7_restore_109 (by decide) ?_
          have J118_6 : ∀ (w5 : Int32), w5 = (if (σ 57 ((3 + 3) + h)) = 1 then (1 : Int32) else 0) → ∀ (H : Heap) (locs : List Loc) (ls : Array Slot), Wst E (XW E a) (sr (sr (sr σ 4 (upr (σ 57) h (σ 4))) 15 (va_cpy (σ 57) (σ 15) 3 0 3)) 0 (upd (upd (upd (upd (upd (σ 0) 0 (σ 57 0)) 1 (σ 57 1)) 2 (σ 57 2)) 3 (nI (if 28 ≠ 0 then (28 - 1) else 29))) 4 (nI (kp - 1)))) A s.heap H locs → lv_has ls 4 [(0, .ref (a 68)), (1, .ref (a 57)), (2, .int (nI (3 + 3))), (3, .int (nI h))] → W p l e ({ frames := 1, cells := 0, slots := 0, locals := 24 }) s m args below meth c H locs 0 0 Q (F0 m 118 ls [.int (w5), .int (nI h), .ref (a 4)]) := by
            intro w5 e6 H locs ls hw hl
            subst e6
            refine as_X4 hC hw (by omega) vz_B dX7_restore_118 (fun H locs hw => ?_)
            have hw : Wst E (XW E a) (sr (sr (sr (sr σ 4 (upr (σ 57) h (σ 4))) 15 (va_cpy (σ 57) (σ 15) 3 0 3)) 0 (upd (upd (upd (upd (upd (σ 0) 0 (σ 57 0)) 1 (σ 57 1)) 2 (σ 57 2)) 3 (nI (if 28 ≠ 0 then (28 - 1) else 29))) 4 (nI (kp - 1)))) 4 (upd (upr (σ 57) h (σ 4)) h (if (σ 57 ((3 + 3) + h)) = 1 then (1 : Int32) else 0))) A s.heap H locs := hw
            have hst_ : sr (sr (sr (sr σ 4 (upr (σ 57) h (σ 4))) 15 (va_cpy (σ 57) (σ 15) 3 0 3)) 0 (upd (upd (upd (upd (upd (σ 0) 0 (σ 57 0)) 1 (σ 57 1)) 2 (σ 57 2)) 3 (nI (if 28 ≠ 0 then (28 - 1) else 29))) 4 (nI (kp - 1)))) 4 (upd (upr (σ 57) h (σ 4)) h (if (σ 57 ((3 + 3) + h)) = 1 then (1 : Int32) else 0)) = sr (sr (sr σ 4 (upd (upr (σ 57) h (σ 4)) h (if (σ 57 ((3 + 3) + h)) = 1 then (1 : Int32) else 0))) 15 (va_cpy (σ 57) (σ 15) 3 0 3)) 0 (upd (upd (upd (upd (upd (σ 0) 0 (σ 57 0)) 1 (σ 57 1)) 2 (σ 57 2)) 3 (nI (if 28 ≠ 0 then (28 - 1) else 29))) 4 (nI (kp - 1))) := by
              funext j_ x_
              by_cases e0 : j_ = 0
              · subst e0
                by_cases y0 : x_ = 0
                · subst y0; rfl
                · by_cases y1 : x_ = 1
                  · subst y1; rfl
                  · by_cases y2 : x_ = 2
                    · subst y2; rfl
                    · by_cases y3 : x_ = 3
                      · subst y3; rfl
                      · by_cases y4 : x_ = 4
                        · subst y4; rfl
                        · simp [sr, upd, y0, y1, y2, y3, y4]
              · by_cases e4 : j_ = 4
                · subst e4; rfl
                · by_cases e15 : j_ = 15
                  · subst e15; rfl
                  · simp only [sr, e0, e4, e15, if_false]
            rw [hst_] at hw
            refine lv_iinc (v := nI (h + 1)) (lv' := [(3, .int (nI (h + 1))), (0, .ref (a 68)), (1, .ref (a 57)), (2, .int (nI (3 + 3)))]) hC.1 hC.2.1 dX7_restore_119 hl (k := 3) rfl (nI_add _ _) (by decide) rfl (fun ls hl => ?_)
            refine lv_goto (tgt := 90) hC.1 hC.2.1 dX7_restore_122 (by decide) ?_
            rw [upr_s] at hw
            exact ih90 (h + 1) (by omega) (by omega) _ _ _ hw (lv_sub hl [1, 2, 3, 0] rfl)
          refine q_cmpne hC 117 cI dX7_restore_110 (by decide) (fun (c7 : ¬ ((σ 57 ((3 + 3) + h)) = 1)) => ?_) (fun (c7 : (σ 57 ((3 + 3) + h)) = 1) => ?_)
          · refine lv_iconst (v := nI 0) hC.1 hC.2.1 dX7_restore_117 (by decide) ?_
            exact J118_6 _ (if_neg c7).symm _ _ _ hw (lv_sub hl [0, 1, 2, 3] rfl)
          · refine lv_iconst (v := nI 1) hC.1 hC.2.1 dX7_restore_113 (by decide) ?_
            refine lv_goto (tgt := 118) hC.1 hC.2.1 dX7_restore_114 (by decide) ?_
            exact J118_6 _ (if_pos c7).symm _ _ _ hw (lv_sub hl [0, 1, 2, 3] rfl)
    have hst_ : sr (sr σ 15 (va_cpy (σ 57) (σ 15) 3 0 3)) 0 (upd (upd (upd (upd (upd (σ 0) 0 (σ 57 0)) 1 (σ 57 1)) 2 (σ 57 2)) 3 (nI (if 28 ≠ 0 then (28 - 1) else 29))) 4 (nI (kp - 1))) = sr (sr (sr σ 4 (upr (σ 57) 0 (σ 4))) 15 (va_cpy (σ 57) (σ 15) 3 0 3)) 0 (upd (upd (upd (upd (upd (σ 0) 0 (σ 57 0)) 1 (σ 57 1)) 2 (σ 57 2)) 3 (nI (if 28 ≠ 0 then (28 - 1) else 29))) 4 (nI (kp - 1))) := by
      funext j_ x_
      by_cases e0 : j_ = 0
      · subst e0
        by_cases y0 : x_ = 0
        · subst y0; rfl
        · by_cases y1 : x_ = 1
          · subst y1; rfl
          · by_cases y2 : x_ = 2
            · subst y2; rfl
            · by_cases y3 : x_ = 3
              · subst y3; rfl
              · by_cases y4 : x_ = 4
                · subst y4; rfl
                · simp [sr, upd, y0, y1, y2, y3, y4]
      · by_cases e4 : j_ = 4
        · subst e4; show σ 4 x_ = upr (σ 57) 0 (σ 4) x_; rw [upr_0]
        · by_cases e15 : j_ = 15
          · subst e15; rfl
          · simp only [sr, e0, e4, e15, if_false]
    rw [hst_] at hw
    exact L90_2 _ 0 (by omega) (Nat.lt_succ_self _) _ _ _ hw (lv_sub hl [3, 2, 1, 0] rfl)
  refine q_ifne hC 13 (cN0 (by omega)) dX7_restore_5 (by decide) (fun (c8 : 28 ≠ 0) => ?_) (fun (c8 : 28 = 0) => ?_)
  · refine lv_aload_n hC.1 hC.2.1 dX7_restore_13 rfl (lv_at hl 0 rfl) ?_
    refine gf_X7_28 (v := nI 28) hC hw hnx dX7_restore_14 ?_
    refine lv_iconst (v := nI 1) hC.1 hC.2.1 dX7_restore_17 (by decide) ?_
    refine q_subN hC (by omega) dX7_restore_18 ?_
    exact J19_2 _ (by (rw [if_pos c8]) <;> rfl) _ _ _ hw (lv_sub hl [0] rfl)
  · refine lv_bipush (v := nI 29) hC.1 hC.2.1 dX7_restore_8 (by decide) ?_
    refine lv_goto (tgt := 19) hC.1 hC.2.1 dX7_restore_10 (by decide) ?_
    exact J19_2 _ (by (rw [if_neg (fun q => q c8)]) <;> rfl) _ _ _ hw (lv_sub hl [0] rfl)
set_option maxHeartbeats 4000000 in
set_option maxRecDepth 100000 in
theorem tX7_restore_k29 (l : Launch) (E : EV) (a : Nat → Nat) (σ : St) (kp : Nat) (hnx : σ 0 3 = nI 29) (hkp : σ 0 4 = nI kp) (hk30 : kp ≤ 30) (hk1 : 1 ≤ kp) : MV l E (XW E a) yX7_restore (Cond.code yX7_restore cX7_restore 4 none) ({ frames := 1, cells := 0, slots := 0, locals := 24 }) [.ref (a 68)] σ (fun u_ => u_ = sr (sr (sr (sr (sr (sr (sr σ 4 (upr (σ 58) 10 (σ 4))) 11 (va_cpy (σ 58) (σ 11) 16 0 24)) 12 (va_cpy (σ 58) (σ 12) 40 0 24)) 13 (va_cpy (σ 58) (σ 13) 64 0 24)) 14 (va_cpy (σ 58) (σ 14) 88 0 24)) 15 (va_cpy (σ 58) (σ 15) 3 0 3)) 0 (upd (upd (upd (upd (upd (σ 0) 0 ((σ 58) 0)) 1 ((σ 58) 1)) 2 ((σ 58) 2)) 3 (nI (if 29 ≠ 0 then 29 - 1 else 29))) 4 (nI (kp - 1)))) := by
  refine MV.mk (by decide +kernel) (Nat.le_of_ble_eq_true rfl) ?_
  intro p e s m args below meth c ls A Q hret hC hw hl
  have hC : Cxt E p s m args meth c cX7_restore 4 none RX7 A := hC
  have hl : lv_has ls 4 [(0, .ref (a 68))] := hl
  refine lv_aload_n hC.1 hC.2.1 dX7_restore_0 rfl (lv_at hl 0 rfl) ?_
  refine lv_aload_n hC.1 hC.2.1 dX7_restore_1 rfl (lv_at hl 0 rfl) ?_
  refine gf_X7_28 (v := nI 29) hC hw hnx dX7_restore_2 ?_
  have J19_2 : ∀ (w1 : Nat), w1 = (if 29 ≠ 0 then (29 - 1) else 29) → ∀ (H : Heap) (locs : List Loc) (ls : Array Slot), Wst E (XW E a) (σ) A s.heap H locs → lv_has ls 4 [(0, .ref (a 68))] → W p l e ({ frames := 1, cells := 0, slots := 0, locals := 24 }) s m args below meth c H locs 0 0 Q (F0 m 19 ls [.int (nI w1), .ref (a 68)]) := by
    intro w1 e2 H locs ls hw hl
    subst e2
    refine pf_X7_28 hC hw dX7_restore_19 (fun H locs hw => ?_)
    have hw : Wst E (XW E a) (sr σ 0 (upd (σ 0) 3 (nI (if 29 ≠ 0 then (29 - 1) else 29)))) A s.heap H locs := hw
    refine lv_aload_n hC.1 hC.2.1 dX7_restore_22 rfl (lv_at hl 0 rfl) ?_
    refine lv_dup hC.1 hC.2.1 dX7_restore_23 rfl ?_
    refine gf_X7_65 (v := nI kp) hC hw hkp dX7_restore_24 ?_
    refine lv_iconst (v := nI 1) hC.1 hC.2.1 dX7_restore_27 (by decide) ?_
    refine q_subN hC (by omega) dX7_restore_28 ?_
    refine pf_X7_65 hC hw dX7_restore_29 (fun H locs hw => ?_)
    have hw : Wst E (XW E a) (sr (sr σ 0 (upd (σ 0) 3 (nI (if 29 ≠ 0 then (29 - 1) else 29)))) 0 (upd (upd (σ 0) 3 (nI (if 29 ≠ 0 then (29 - 1) else 29))) 4 (nI (kp - 1)))) A s.heap H locs := hw
    have hst_ : sr (sr σ 0 (upd (σ 0) 3 (nI (if 29 ≠ 0 then (29 - 1) else 29)))) 0 (upd (upd (σ 0) 3 (nI (if 29 ≠ 0 then (29 - 1) else 29))) 4 (nI (kp - 1))) = sr σ 0 (upd (upd (σ 0) 3 (nI (if 29 ≠ 0 then (29 - 1) else 29))) 4 (nI (kp - 1))) := by
      funext j_ x_
      by_cases e0 : j_ = 0
      · subst e0
        by_cases y3 : x_ = 3
        · subst y3; rfl
        · by_cases y4 : x_ = 4
          · subst y4; rfl
          · simp [sr, upd, y3, y4]
      · simp only [sr, e0, if_false]
    rw [hst_] at hw
    refine lv_aload_n hC.1 hC.2.1 dX7_restore_32 rfl (lv_at hl 0 rfl) ?_
    refine gf_X7_13 hC hw dX7_restore_33 ?_
    refine lv_aload_n hC.1 hC.2.1 dX7_restore_36 rfl (lv_at hl 0 rfl) ?_
    refine gf_X7_28 (v := nI (if 29 ≠ 0 then (29 - 1) else 29)) hC hw rfl dX7_restore_37 ?_
    refine q_top (y := nI 28) rfl ?_
    refine q_aald hC hw (i := 28) (by decide) dX7_restore_40 ?_
    refine lv_astore_n (lv' := [(1, .ref (a 58)), (0, .ref (a 68))]) hC.1 hC.2.1 dX7_restore_41 rfl hl (by decide) rfl (fun ls hl => ?_)
    refine lv_aload_n hC.1 hC.2.1 dX7_restore_42 rfl (lv_at hl 1 rfl) ?_
    refine gf_X7_16 hC hw dX7_restore_43 ?_
    refine lv_aload_n hC.1 hC.2.1 dX7_restore_46 rfl (lv_at hl 0 rfl) ?_
    refine lv_iconst (v := nI 0) hC.1 hC.2.1 dX7_restore_47 (by decide) ?_
    refine q_ald (Wf := XW E a) (v := σ 58 0) 68 rfl (by decide) hC hw (by omega) rfl dX7_restore_48 ?_
    refine pf_X7_32 hC hw dX7_restore_49 (fun H locs hw => ?_)
    have hw : Wst E (XW E a) (sr (sr σ 0 (upd (upd (σ 0) 3 (nI (if 29 ≠ 0 then (29 - 1) else 29))) 4 (nI (kp - 1)))) 0 (upd (upd (upd (σ 0) 3 (nI (if 29 ≠ 0 then (29 - 1) else 29))) 4 (nI (kp - 1))) 0 (σ 58 0))) A s.heap H locs := hw
    have hst_ : sr (sr σ 0 (upd (upd (σ 0) 3 (nI (if 29 ≠ 0 then (29 - 1) else 29))) 4 (nI (kp - 1)))) 0 (upd (upd (upd (σ 0) 3 (nI (if 29 ≠ 0 then (29 - 1) else 29))) 4 (nI (kp - 1))) 0 (σ 58 0)) = sr σ 0 (upd (upd (upd (σ 0) 0 (σ 58 0)) 3 (nI (if 29 ≠ 0 then (29 - 1) else 29))) 4 (nI (kp - 1))) := by
      funext j_ x_
      by_cases e0 : j_ = 0
      · subst e0
        by_cases y0 : x_ = 0
        · subst y0; rfl
        · by_cases y3 : x_ = 3
          · subst y3; rfl
          · by_cases y4 : x_ = 4
            · subst y4; rfl
            · simp [sr, upd, y0, y3, y4]
      · simp only [sr, e0, if_false]
    rw [hst_] at hw
    refine lv_aload_n hC.1 hC.2.1 dX7_restore_52 rfl (lv_at hl 1 rfl) ?_
    refine gf_X7_20 hC hw dX7_restore_53 ?_
    refine lv_aload_n hC.1 hC.2.1 dX7_restore_56 rfl (lv_at hl 0 rfl) ?_
    refine lv_iconst (v := nI 1) hC.1 hC.2.1 dX7_restore_57 (by decide) ?_
    refine q_ald (Wf := XW E a) (v := σ 58 1) 68 rfl (by decide) hC hw (by omega) rfl dX7_restore_58 ?_
    refine pf_X7_37 hC hw dX7_restore_59 (fun H locs hw => ?_)
    have hw : Wst E (XW E a) (sr (sr σ 0 (upd (upd (upd (σ 0) 0 (σ 58 0)) 3 (nI (if 29 ≠ 0 then (29 - 1) else 29))) 4 (nI (kp - 1)))) 0 (upd (upd (upd (upd (σ 0) 0 (σ 58 0)) 3 (nI (if 29 ≠ 0 then (29 - 1) else 29))) 4 (nI (kp - 1))) 1 (σ 58 1))) A s.heap H locs := hw
    have hst_ : sr (sr σ 0 (upd (upd (upd (σ 0) 0 (σ 58 0)) 3 (nI (if 29 ≠ 0 then (29 - 1) else 29))) 4 (nI (kp - 1)))) 0 (upd (upd (upd (upd (σ 0) 0 (σ 58 0)) 3 (nI (if 29 ≠ 0 then (29 - 1) else 29))) 4 (nI (kp - 1))) 1 (σ 58 1)) = sr σ 0 (upd (upd (upd (upd (σ 0) 0 (σ 58 0)) 1 (σ 58 1)) 3 (nI (if 29 ≠ 0 then (29 - 1) else 29))) 4 (nI (kp - 1))) := by
      funext j_ x_
      by_cases e0 : j_ = 0
      · subst e0
        by_cases y0 : x_ = 0
        · subst y0; rfl
        · by_cases y1 : x_ = 1
          · subst y1; rfl
          · by_cases y3 : x_ = 3
            · subst y3; rfl
            · by_cases y4 : x_ = 4
              · subst y4; rfl
              · simp [sr, upd, y0, y1, y3, y4]
      · simp only [sr, e0, if_false]
    rw [hst_] at hw
    refine lv_aload_n hC.1 hC.2.1 dX7_restore_62 rfl (lv_at hl 1 rfl) ?_
    refine gf_X7_20 hC hw dX7_restore_63 ?_
    refine lv_aload_n hC.1 hC.2.1 dX7_restore_66 rfl (lv_at hl 0 rfl) ?_
    refine lv_iconst (v := nI 2) hC.1 hC.2.1 dX7_restore_67 (by decide) ?_
    refine q_ald (Wf := XW E a) (v := σ 58 2) 68 rfl (by decide) hC hw (by omega) rfl dX7_restore_68 ?_
    refine pf_X7_40 hC hw dX7_restore_69 (fun H locs hw => ?_)
    have hw : Wst E (XW E a) (sr (sr σ 0 (upd (upd (upd (upd (σ 0) 0 (σ 58 0)) 1 (σ 58 1)) 3 (nI (if 29 ≠ 0 then (29 - 1) else 29))) 4 (nI (kp - 1)))) 0 (upd (upd (upd (upd (upd (σ 0) 0 (σ 58 0)) 1 (σ 58 1)) 3 (nI (if 29 ≠ 0 then (29 - 1) else 29))) 4 (nI (kp - 1))) 2 (σ 58 2))) A s.heap H locs := hw
    have hst_ : sr (sr σ 0 (upd (upd (upd (upd (σ 0) 0 (σ 58 0)) 1 (σ 58 1)) 3 (nI (if 29 ≠ 0 then (29 - 1) else 29))) 4 (nI (kp - 1)))) 0 (upd (upd (upd (upd (upd (σ 0) 0 (σ 58 0)) 1 (σ 58 1)) 3 (nI (if 29 ≠ 0 then (29 - 1) else 29))) 4 (nI (kp - 1))) 2 (σ 58 2)) = sr σ 0 (upd (upd (upd (upd (upd (σ 0) 0 (σ 58 0)) 1 (σ 58 1)) 2 (σ 58 2)) 3 (nI (if 29 ≠ 0 then (29 - 1) else 29))) 4 (nI (kp - 1))) := by
      funext j_ x_
      by_cases e0 : j_ = 0
      · subst e0
        by_cases y0 : x_ = 0
        · subst y0; rfl
        · by_cases y1 : x_ = 1
          · subst y1; rfl
          · by_cases y2 : x_ = 2
            · subst y2; rfl
            · by_cases y3 : x_ = 3
              · subst y3; rfl
              · by_cases y4 : x_ = 4
                · subst y4; rfl
                · simp [sr, upd, y0, y1, y2, y3, y4]
      · simp only [sr, e0, if_false]
    rw [hst_] at hw
    refine lv_iconst (v := nI 3) hC.1 hC.2.1 dX7_restore_72 (by decide) ?_
    refine lv_istore_n (lv' := [(2, .int (nI 3)), (1, .ref (a 58)), (0, .ref (a 68))]) hC.1 hC.2.1 dX7_restore_73 rfl hl (by decide) rfl (fun ls hl => ?_)
    refine lv_aload_n hC.1 hC.2.1 dX7_restore_74 rfl (lv_at hl 1 rfl) ?_
    refine lv_iload_n hC.1 hC.2.1 dX7_restore_75 rfl (lv_at hl 0 rfl) ?_
    refine lv_aload_n hC.1 hC.2.1 dX7_restore_76 rfl (lv_at hl 2 rfl) ?_
    refine gf_X7_24 hC hw dX7_restore_77 ?_
    refine lv_iconst (v := nI 0) hC.1 hC.2.1 dX7_restore_80 (by decide) ?_
    refine lv_iconst (v := nI 3) hC.1 hC.2.1 dX7_restore_81 (by decide) ?_
    refine q_cpy (sp := 3) (dp := 0) (n := 3) 68 rfl 25 rfl (XW_s15 _) hC hw hl (by omega) (by omega) (by decide) (by decide) ⟨Nat.le_of_ble_eq_true rfl, Nat.le_of_ble_eq_true rfl⟩ wk2_182 dX7_restore_82 (fun H locs hw => ?_)
    have hw : Wst E (XW E a) (sr (sr σ 0 (upd (upd (upd (upd (upd (σ 0) 0 (σ 58 0)) 1 (σ 58 1)) 2 (σ 58 2)) 3 (nI (if 29 ≠ 0 then (29 - 1) else 29))) 4 (nI (kp - 1)))) 15 (va_cpy (σ 58) (σ 15) 3 0 3)) A s.heap H locs := hw
    have hst_ : sr (sr σ 0 (upd (upd (upd (upd (upd (σ 0) 0 (σ 58 0)) 1 (σ 58 1)) 2 (σ 58 2)) 3 (nI (if 29 ≠ 0 then (29 - 1) else 29))) 4 (nI (kp - 1)))) 15 (va_cpy (σ 58) (σ 15) 3 0 3) = sr (sr σ 15 (va_cpy (σ 58) (σ 15) 3 0 3)) 0 (upd (upd (upd (upd (upd (σ 0) 0 (σ 58 0)) 1 (σ 58 1)) 2 (σ 58 2)) 3 (nI (if 29 ≠ 0 then (29 - 1) else 29))) 4 (nI (kp - 1))) := by
      funext j_ x_
      by_cases e0 : j_ = 0
      · subst e0
        by_cases y0 : x_ = 0
        · subst y0; rfl
        · by_cases y1 : x_ = 1
          · subst y1; rfl
          · by_cases y2 : x_ = 2
            · subst y2; rfl
            · by_cases y3 : x_ = 3
              · subst y3; rfl
              · by_cases y4 : x_ = 4
                · subst y4; rfl
                · simp [sr, upd, y0, y1, y2, y3, y4]
      · by_cases e15 : j_ = 15
        · subst e15; rfl
        · simp only [sr, e0, e15, if_false]
    rw [hst_] at hw
    refine lv_iinc (v := nI (3 + 3)) (lv' := [(2, .int (nI (3 + 3))), (1, .ref (a 58)), (0, .ref (a 68))]) hC.1 hC.2.1 dX7_restore_85 hl (k := 0) rfl (nI_add _ _) (by decide) rfl (fun ls hl => ?_)
    refine lv_iconst (v := nI 0) hC.1 hC.2.1 dX7_restore_88 (by decide) ?_
    refine lv_istore_n (lv' := [(3, .int (nI 0)), (2, .int (nI (3 + 3))), (1, .ref (a 58)), (0, .ref (a 68))]) hC.1 hC.2.1 dX7_restore_89 rfl hl (by decide) rfl (fun ls hl => ?_)
    have L90_2 : ∀ (n : Nat), ∀ (h : Nat), (h ≤ 10) → (10 - h) < n → ∀ (H : Heap) (locs : List Loc) (ls : Array Slot), Wst E (XW E a) (sr (sr (sr σ 4 (upr (σ 58) h (σ 4))) 15 (va_cpy (σ 58) (σ 15) 3 0 3)) 0 (upd (upd (upd (upd (upd (σ 0) 0 (σ 58 0)) 1 (σ 58 1)) 2 (σ 58 2)) 3 (nI (if 29 ≠ 0 then (29 - 1) else 29))) 4 (nI (kp - 1)))) A s.heap H locs → lv_has ls 4 [(0, .ref (a 68)), (1, .ref (a 58)), (2, .int (nI (3 + 3))), (3, .int (nI h))] → W p l e ({ frames := 1, cells := 0, slots := 0, locals := 24 }) s m args below meth c H locs 0 0 Q (F0 m 90 ls []) := by
      intro n
      induction n with
      | zero => intro h hh hn; exact absurd hn (Nat.not_lt_zero _)
      | succ n ih90 =>
        intro h hh hn90 H locs ls hw hl
        refine lv_iload_n hC.1 hC.2.1 dX7_restore_90 rfl (lv_at hl 3 rfl) ?_
        refine lv_bipush (v := nI 10) hC.1 hC.2.1 dX7_restore_91 (by decide) ?_
        refine q_cmpge hC 125 (cNle (by omega) (by omega)) dX7_restore_93 (by decide) (fun (c4 : 10 ≤ h) => ?_) (fun (c4 : h < 10) => ?_)
        · have hh9 : h = 10 := by omega
          rw [hh9] at hw
          refine lv_iinc (v := nI (3 + 3 + 10)) (lv' := [(2, .int (nI (3 + 3 + 10))), (0, .ref (a 68)), (1, .ref (a 58)), (3, .int (nI h))]) hC.1 hC.2.1 dX7_restore_125 hl (k := 2) rfl (nI_add _ _) (by decide) rfl (fun ls hl => ?_)
          refine lv_aload_n hC.1 hC.2.1 dX7_restore_128 rfl (lv_at hl 2 rfl) ?_
          refine lv_iload_n hC.1 hC.2.1 dX7_restore_129 rfl (lv_at hl 0 rfl) ?_
          refine lv_aload_n hC.1 hC.2.1 dX7_restore_130 rfl (lv_at hl 1 rfl) ?_
          refine gf_X7_20 hC hw dX7_restore_131 ?_
          refine gf_X7_53 hC hw dX7_restore_134 ?_
          refine lv_iconst (v := nI 0) hC.1 hC.2.1 dX7_restore_137 (by decide) ?_
          refine lv_bipush (v := nI 24) hC.1 hC.2.1 dX7_restore_138 (by decide) ?_
          refine q_cpy (sp := (3 + 3 + 10)) (dp := 0) (n := 24) 68 rfl 21 rfl (XW_s11 _) hC hw hl (by omega) (by omega) (by decide) (by decide) ⟨Nat.le_of_ble_eq_true rfl, Nat.le_of_ble_eq_true rfl⟩ wk2_182 dX7_restore_140 (fun H locs hw => ?_)
          have hw : Wst E (XW E a) (sr (sr (sr (sr σ 4 (upr (σ 58) 10 (σ 4))) 15 (va_cpy (σ 58) (σ 15) 3 0 3)) 0 (upd (upd (upd (upd (upd (σ 0) 0 (σ 58 0)) 1 (σ 58 1)) 2 (σ 58 2)) 3 (nI (if 29 ≠ 0 then (29 - 1) else 29))) 4 (nI (kp - 1)))) 11 (va_cpy (σ 58) (σ 11) (3 + 3 + 10) 0 24)) A s.heap H locs := hw
          have hst_ : sr (sr (sr (sr σ 4 (upr (σ 58) 10 (σ 4))) 15 (va_cpy (σ 58) (σ 15) 3 0 3)) 0 (upd (upd (upd (upd (upd (σ 0) 0 (σ 58 0)) 1 (σ 58 1)) 2 (σ 58 2)) 3 (nI (if 29 ≠ 0 then (29 - 1) else 29))) 4 (nI (kp - 1)))) 11 (va_cpy (σ 58) (σ 11) (3 + 3 + 10) 0 24) = sr (sr (sr (sr σ 4 (upr (σ 58) 10 (σ 4))) 11 (va_cpy (σ 58) (σ 11) (3 + 3 + 10) 0 24)) 15 (va_cpy (σ 58) (σ 15) 3 0 3)) 0 (upd (upd (upd (upd (upd (σ 0) 0 (σ 58 0)) 1 (σ 58 1)) 2 (σ 58 2)) 3 (nI (if 29 ≠ 0 then (29 - 1) else 29))) 4 (nI (kp - 1))) := by
            funext j_ x_
            by_cases e0 : j_ = 0
            · subst e0
              by_cases y0 : x_ = 0
              · subst y0; rfl
              · by_cases y1 : x_ = 1
                · subst y1; rfl
                · by_cases y2 : x_ = 2
                  · subst y2; rfl
                  · by_cases y3 : x_ = 3
                    · subst y3; rfl
                    · by_cases y4 : x_ = 4
                      · subst y4; rfl
                      · simp [sr, upd, y0, y1, y2, y3, y4]
            · by_cases e4 : j_ = 4
              · subst e4; rfl
              · by_cases e11 : j_ = 11
                · subst e11; rfl
                · by_cases e15 : j_ = 15
                  · subst e15; rfl
                  · simp only [sr, e0, e4, e11, e15, if_false]
          rw [hst_] at hw
          refine lv_aload_n hC.1 hC.2.1 dX7_restore_143 rfl (lv_at hl 2 rfl) ?_
          refine lv_iload_n hC.1 hC.2.1 dX7_restore_144 rfl (lv_at hl 0 rfl) ?_
          refine lv_bipush (v := nI 24) hC.1 hC.2.1 dX7_restore_145 (by decide) ?_
          refine q_addN hC dX7_restore_147 ?_
          refine lv_aload_n hC.1 hC.2.1 dX7_restore_148 rfl (lv_at hl 1 rfl) ?_
          refine gf_X7_20 hC hw dX7_restore_149 ?_
          refine gf_X7_56 hC hw dX7_restore_152 ?_
          refine lv_iconst (v := nI 0) hC.1 hC.2.1 dX7_restore_155 (by decide) ?_
          refine lv_bipush (v := nI 24) hC.1 hC.2.1 dX7_restore_156 (by decide) ?_
          refine q_cpy (sp := ((3 + 3 + 10) + 24)) (dp := 0) (n := 24) 68 rfl 22 rfl (XW_s12 _) hC hw hl (by omega) (by omega) (by decide) (by decide) ⟨Nat.le_of_ble_eq_true rfl, Nat.le_of_ble_eq_true rfl⟩ wk2_182 dX7_restore_158 (fun H locs hw => ?_)
          have hw : Wst E (XW E a) (sr (sr (sr (sr (sr σ 4 (upr (σ 58) 10 (σ 4))) 11 (va_cpy (σ 58) (σ 11) (3 + 3 + 10) 0 24)) 15 (va_cpy (σ 58) (σ 15) 3 0 3)) 0 (upd (upd (upd (upd (upd (σ 0) 0 (σ 58 0)) 1 (σ 58 1)) 2 (σ 58 2)) 3 (nI (if 29 ≠ 0 then (29 - 1) else 29))) 4 (nI (kp - 1)))) 12 (va_cpy (σ 58) (σ 12) ((3 + 3 + 10) + 24) 0 24)) A s.heap H locs := hw
          have hst_ : sr (sr (sr (sr (sr σ 4 (upr (σ 58) 10 (σ 4))) 11 (va_cpy (σ 58) (σ 11) (3 + 3 + 10) 0 24)) 15 (va_cpy (σ 58) (σ 15) 3 0 3)) 0 (upd (upd (upd (upd (upd (σ 0) 0 (σ 58 0)) 1 (σ 58 1)) 2 (σ 58 2)) 3 (nI (if 29 ≠ 0 then (29 - 1) else 29))) 4 (nI (kp - 1)))) 12 (va_cpy (σ 58) (σ 12) ((3 + 3 + 10) + 24) 0 24) = sr (sr (sr (sr (sr σ 4 (upr (σ 58) 10 (σ 4))) 11 (va_cpy (σ 58) (σ 11) (3 + 3 + 10) 0 24)) 12 (va_cpy (σ 58) (σ 12) ((3 + 3 + 10) + 24) 0 24)) 15 (va_cpy (σ 58) (σ 15) 3 0 3)) 0 (upd (upd (upd (upd (upd (σ 0) 0 (σ 58 0)) 1 (σ 58 1)) 2 (σ 58 2)) 3 (nI (if 29 ≠ 0 then (29 - 1) else 29))) 4 (nI (kp - 1))) := by
            funext j_ x_
            by_cases e0 : j_ = 0
            · subst e0
              by_cases y0 : x_ = 0
              · subst y0; rfl
              · by_cases y1 : x_ = 1
                · subst y1; rfl
                · by_cases y2 : x_ = 2
                  · subst y2; rfl
                  · by_cases y3 : x_ = 3
                    · subst y3; rfl
                    · by_cases y4 : x_ = 4
                      · subst y4; rfl
                      · simp [sr, upd, y0, y1, y2, y3, y4]
            · by_cases e4 : j_ = 4
              · subst e4; rfl
              · by_cases e11 : j_ = 11
                · subst e11; rfl
                · by_cases e12 : j_ = 12
                  · subst e12; rfl
                  · by_cases e15 : j_ = 15
                    · subst e15; rfl
                    · simp only [sr, e0, e4, e11, e12, e15, if_false]
          rw [hst_] at hw
          refine lv_aload_n hC.1 hC.2.1 dX7_restore_161 rfl (lv_at hl 2 rfl) ?_
          refine lv_iload_n hC.1 hC.2.1 dX7_restore_162 rfl (lv_at hl 0 rfl) ?_
          refine lv_bipush (v := nI 48) hC.1 hC.2.1 dX7_restore_163 (by decide) ?_
          refine q_addN hC dX7_restore_165 ?_
          refine lv_aload_n hC.1 hC.2.1 dX7_restore_166 rfl (lv_at hl 1 rfl) ?_
          refine gf_X7_20 hC hw dX7_restore_167 ?_
          refine gf_X7_59 hC hw dX7_restore_170 ?_
          refine lv_iconst (v := nI 0) hC.1 hC.2.1 dX7_restore_173 (by decide) ?_
          refine lv_bipush (v := nI 24) hC.1 hC.2.1 dX7_restore_174 (by decide) ?_
          refine q_cpy (sp := ((3 + 3 + 10) + 48)) (dp := 0) (n := 24) 68 rfl 23 rfl (XW_s13 _) hC hw hl (by omega) (by omega) (by decide) (by decide) ⟨Nat.le_of_ble_eq_true rfl, Nat.le_of_ble_eq_true rfl⟩ wk2_182 dX7_restore_176 (fun H locs hw => ?_)
          have hw : Wst E (XW E a) (sr (sr (sr (sr (sr (sr σ 4 (upr (σ 58) 10 (σ 4))) 11 (va_cpy (σ 58) (σ 11) (3 + 3 + 10) 0 24)) 12 (va_cpy (σ 58) (σ 12) ((3 + 3 + 10) + 24) 0 24)) 15 (va_cpy (σ 58) (σ 15) 3 0 3)) 0 (upd (upd (upd (upd (upd (σ 0) 0 (σ 58 0)) 1 (σ 58 1)) 2 (σ 58 2)) 3 (nI (if 29 ≠ 0 then (29 - 1) else 29))) 4 (nI (kp - 1)))) 13 (va_cpy (σ 58) (σ 13) ((3 + 3 + 10) + 48) 0 24)) A s.heap H locs := hw
          have hst_ : sr (sr (sr (sr (sr (sr σ 4 (upr (σ 58) 10 (σ 4))) 11 (va_cpy (σ 58) (σ 11) (3 + 3 + 10) 0 24)) 12 (va_cpy (σ 58) (σ 12) ((3 + 3 + 10) + 24) 0 24)) 15 (va_cpy (σ 58) (σ 15) 3 0 3)) 0 (upd (upd (upd (upd (upd (σ 0) 0 (σ 58 0)) 1 (σ 58 1)) 2 (σ 58 2)) 3 (nI (if 29 ≠ 0 then (29 - 1) else 29))) 4 (nI (kp - 1)))) 13 (va_cpy (σ 58) (σ 13) ((3 + 3 + 10) + 48) 0 24) = sr (sr (sr (sr (sr (sr σ 4 (upr (σ 58) 10 (σ 4))) 11 (va_cpy (σ 58) (σ 11) (3 + 3 + 10) 0 24)) 12 (va_cpy (σ 58) (σ 12) ((3 + 3 + 10) + 24) 0 24)) 13 (va_cpy (σ 58) (σ 13) ((3 + 3 + 10) + 48) 0 24)) 15 (va_cpy (σ 58) (σ 15) 3 0 3)) 0 (upd (upd (upd (upd (upd (σ 0) 0 (σ 58 0)) 1 (σ 58 1)) 2 (σ 58 2)) 3 (nI (if 29 ≠ 0 then (29 - 1) else 29))) 4 (nI (kp - 1))) := by
            funext j_ x_
            by_cases e0 : j_ = 0
            · subst e0
              by_cases y0 : x_ = 0
              · subst y0; rfl
              · by_cases y1 : x_ = 1
                · subst y1; rfl
                · by_cases y2 : x_ = 2
                  · subst y2; rfl
                  · by_cases y3 : x_ = 3
                    · subst y3; rfl
                    · by_cases y4 : x_ = 4
                      · subst y4; rfl
                      · simp [sr, upd, y0, y1, y2, y3, y4]
            · by_cases e4 : j_ = 4
              · subst e4; rfl
              · by_cases e11 : j_ = 11
                · subst e11; rfl
                · by_cases e12 : j_ = 12
                  · subst e12; rfl
                  · by_cases e13 : j_ = 13
                    · subst e13; rfl
                    · by_cases e15 : j_ = 15
                      · subst e15; rfl
                      · simp only [sr, e0, e4, e11, e12, e13, e15, if_false]
          rw [hst_] at hw
          refine lv_aload_n hC.1 hC.2.1 dX7_restore_179 rfl (lv_at hl 2 rfl) ?_
          refine lv_iload_n hC.1 hC.2.1 dX7_restore_180 rfl (lv_at hl 0 rfl) ?_
          refine lv_bipush (v := nI 72) hC.1 hC.2.1 dX7_restore_181 (by decide) ?_
          refine q_addN hC dX7_restore_183 ?_
          refine lv_aload_n hC.1 hC.2.1 dX7_restore_184 rfl (lv_at hl 1 rfl) ?_
          refine gf_X7_20 hC hw dX7_restore_185 ?_
          refine gf_X7_62 hC hw dX7_restore_188 ?_
          refine lv_iconst (v := nI 0) hC.1 hC.2.1 dX7_restore_191 (by decide) ?_
          refine lv_bipush (v := nI 24) hC.1 hC.2.1 dX7_restore_192 (by decide) ?_
          refine q_cpy (sp := ((3 + 3 + 10) + 72)) (dp := 0) (n := 24) 68 rfl 24 rfl (XW_s14 _) hC hw hl (by omega) (by omega) (by decide) (by decide) ⟨Nat.le_of_ble_eq_true rfl, Nat.le_of_ble_eq_true rfl⟩ wk2_182 dX7_restore_194 (fun H locs hw => ?_)
          have hw : Wst E (XW E a) (sr (sr (sr (sr (sr (sr (sr σ 4 (upr (σ 58) 10 (σ 4))) 11 (va_cpy (σ 58) (σ 11) (3 + 3 + 10) 0 24)) 12 (va_cpy (σ 58) (σ 12) ((3 + 3 + 10) + 24) 0 24)) 13 (va_cpy (σ 58) (σ 13) ((3 + 3 + 10) + 48) 0 24)) 15 (va_cpy (σ 58) (σ 15) 3 0 3)) 0 (upd (upd (upd (upd (upd (σ 0) 0 (σ 58 0)) 1 (σ 58 1)) 2 (σ 58 2)) 3 (nI (if 29 ≠ 0 then (29 - 1) else 29))) 4 (nI (kp - 1)))) 14 (va_cpy (σ 58) (σ 14) ((3 + 3 + 10) + 72) 0 24)) A s.heap H locs := hw
          have hst_ : sr (sr (sr (sr (sr (sr (sr σ 4 (upr (σ 58) 10 (σ 4))) 11 (va_cpy (σ 58) (σ 11) (3 + 3 + 10) 0 24)) 12 (va_cpy (σ 58) (σ 12) ((3 + 3 + 10) + 24) 0 24)) 13 (va_cpy (σ 58) (σ 13) ((3 + 3 + 10) + 48) 0 24)) 15 (va_cpy (σ 58) (σ 15) 3 0 3)) 0 (upd (upd (upd (upd (upd (σ 0) 0 (σ 58 0)) 1 (σ 58 1)) 2 (σ 58 2)) 3 (nI (if 29 ≠ 0 then (29 - 1) else 29))) 4 (nI (kp - 1)))) 14 (va_cpy (σ 58) (σ 14) ((3 + 3 + 10) + 72) 0 24) = sr (sr (sr (sr (sr (sr (sr σ 4 (upr (σ 58) 10 (σ 4))) 11 (va_cpy (σ 58) (σ 11) (3 + 3 + 10) 0 24)) 12 (va_cpy (σ 58) (σ 12) ((3 + 3 + 10) + 24) 0 24)) 13 (va_cpy (σ 58) (σ 13) ((3 + 3 + 10) + 48) 0 24)) 14 (va_cpy (σ 58) (σ 14) ((3 + 3 + 10) + 72) 0 24)) 15 (va_cpy (σ 58) (σ 15) 3 0 3)) 0 (upd (upd (upd (upd (upd (σ 0) 0 (σ 58 0)) 1 (σ 58 1)) 2 (σ 58 2)) 3 (nI (if 29 ≠ 0 then (29 - 1) else 29))) 4 (nI (kp - 1))) := by
            funext j_ x_
            by_cases e0 : j_ = 0
            · subst e0
              by_cases y0 : x_ = 0
              · subst y0; rfl
              · by_cases y1 : x_ = 1
                · subst y1; rfl
                · by_cases y2 : x_ = 2
                  · subst y2; rfl
                  · by_cases y3 : x_ = 3
                    · subst y3; rfl
                    · by_cases y4 : x_ = 4
                      · subst y4; rfl
                      · simp [sr, upd, y0, y1, y2, y3, y4]
            · by_cases e4 : j_ = 4
              · subst e4; rfl
              · by_cases e11 : j_ = 11
                · subst e11; rfl
                · by_cases e12 : j_ = 12
                  · subst e12; rfl
                  · by_cases e13 : j_ = 13
                    · subst e13; rfl
                    · by_cases e14 : j_ = 14
                      · subst e14; rfl
                      · by_cases e15 : j_ = 15
                        · subst e15; rfl
                        · simp only [sr, e0, e4, e11, e12, e13, e14, e15, if_false]
          rw [hst_] at hw
          refine hret _ _ _ _ _ hw ?_ dX7_restore_197
          exact rfl
        · refine lv_aload_n hC.1 hC.2.1 dX7_restore_96 rfl (lv_at hl 0 rfl) ?_
          refine gf_X7_16 hC hw dX7_restore_97 ?_
          refine gf_X7_49 hC hw dX7_restore_100 ?_
          refine lv_iload_n hC.1 hC.2.1 dX7_restore_103 rfl (lv_at hl 3 rfl) ?_
          refine lv_aload_n hC.1 hC.2.1 dX7_restore_104 rfl (lv_at hl 1 rfl) ?_
          refine lv_iload_n hC.1 hC.2.1 dX7_restore_105 rfl (lv_at hl 2 rfl) ?_
          refine lv_iload_n hC.1 hC.2.1 dX7_restore_106 rfl (lv_at hl 3 rfl) ?_
          refine q_addN hC dX7_restore_107 ?_
          refine q_ald (Wf := XW E a) (v := σ 58 ((3 + 3) + h)) 68 rfl (by decide) hC hw (by omega) rfl dX7_restore_108 ?_
          refine lv_iconst (v := nI 1) hC.1 hC.2.1 dX7_restore_109 (by decide) ?_
          have J118_6 : ∀ (w5 : Int32), w5 = (if (σ 58 ((3 + 3) + h)) = 1 then (1 : Int32) else 0) → ∀ (H : Heap) (locs : List Loc) (ls : Array Slot), Wst E (XW E a) (sr (sr (sr σ 4 (upr (σ 58) h (σ 4))) 15 (va_cpy (σ 58) (σ 15) 3 0 3)) 0 (upd (upd (upd (upd (upd (σ 0) 0 (σ 58 0)) 1 (σ 58 1)) 2 (σ 58 2)) 3 (nI (if 29 ≠ 0 then (29 - 1) else 29))) 4 (nI (kp - 1)))) A s.heap H locs → lv_has ls 4 [(0, .ref (a 68)), (1, .ref (a 58)), (2, .int (nI (3 + 3))), (3, .int (nI h))] → W p l e ({ frames := 1, cells := 0, slots := 0, locals := 24 }) s m args below meth c H locs 0 0 Q (F0 m 118 ls [.int (w5), .int (nI h), .ref (a 4)]) := by
            intro w5 e6 H locs ls hw hl
            subst e6
            refine as_X4 hC hw (by omega) vz_B dX7_restore_118 (fun H locs hw => ?_)
            have hw : Wst E (XW E a) (sr (sr (sr (sr σ 4 (upr (σ 58) h (σ 4))) 15 (va_cpy (σ 58) (σ 15) 3 0 3)) 0 (upd (upd (upd (upd (upd (σ 0) 0 (σ 58 0)) 1 (σ 58 1)) 2 (σ 58 2)) 3 (nI (if 29 ≠ 0 then (29 - 1) else 29))) 4 (nI (kp - 1)))) 4 (upd (upr (σ 58) h (σ 4)) h (if (σ 58 ((3 + 3) + h)) = 1 then (1 : Int32) else 0))) A s.heap H locs := hw
            have hst_ : sr (sr (sr (sr σ 4 (upr (σ 58) h (σ 4))) 15 (va_cpy (σ 58) (σ 15) 3 0 3)) 0 (upd (upd (upd (upd (upd (σ 0) 0 (σ 58 0)) 1 (σ 58 1)) 2 (σ 58 2)) 3 (nI (if 29 ≠ 0 then (29 - 1) else 29))) 4 (nI (kp - 1)))) 4 (upd (upr (σ 58) h (σ 4)) h (if (σ 58 ((3 + 3) + h)) = 1 then (1 : Int32) else 0)) = sr (sr (sr σ 4 (upd (upr (σ 58) h (σ 4)) h (if (σ 58 ((3 + 3) + h)) = 1 then (1 : Int32) else 0))) 15 (va_cpy (σ 58) (σ 15) 3 0 3)) 0 (upd (upd (upd (upd (upd (σ 0) 0 (σ 58 0)) 1 (σ 58 1)) 2 (σ 58 2)) 3 (nI (if 29 ≠ 0 then (29 - 1) else 29))) 4 (nI (kp - 1))) := by
              funext j_ x_
              by_cases e0 : j_ = 0
              · subst e0
                by_cases y0 : x_ = 0
                · subst y0; rfl
                · by_cases y1 : x_ = 1
                  · subst y1; rfl
                  · by_cases y2 : x_ = 2
                    · subst y2; rfl
                    · by_cases y3 : x_ = 3
                      · subst y3; rfl
                      · by_cases y4 : x_ = 4
                        · subst y4; rfl
                        · simp [sr, upd, y0, y1, y2, y3, y4]
              · by_cases e4 : j_ = 4
                · subst e4; rfl
                · by_cases e15 : j_ = 15
                  · subst e15; rfl
                  · simp only [sr, e0, e4, e15, if_false]
            rw [hst_] at hw
            refine lv_iinc (v := nI (h + 1)) (lv' := [(3, .int (nI (h + 1))), (0, .ref (a 68)), (1, .ref (a 58)), (2, .int (nI (3 + 3)))]) hC.1 hC.2.1 dX7_restore_119 hl (k := 3) rfl (nI_add _ _) (by decide) rfl (fun ls hl => ?_)
            refine lv_goto (tgt := 90) hC.1 hC.2.1 dX7_restore_122 (by decide) ?_
            rw [upr_s] at hw
            exact ih90 (h + 1) (by omega) (by omega) _ _ _ hw (lv_sub hl [1, 2, 3, 0] rfl)
          refine q_cmpne hC 117 cI dX7_restore_110 (by decide) (fun (c7 : ¬ ((σ 58 ((3 + 3) + h)) = 1)) => ?_) (fun (c7 : (σ 58 ((3 + 3) + h)) = 1) => ?_)
          · refine lv_iconst (v := nI 0) hC.1 hC.2.1 dX7_restore_117 (by decide) ?_
            exact J118_6 _ (if_neg c7).symm _ _ _ hw (lv_sub hl [0, 1, 2, 3] rfl)
          · refine lv_iconst (v := nI 1) hC.1 hC.2.1 dX7_restore_113 (by decide) ?_
            refine lv_goto (tgt := 118) hC.1 hC.2.1 dX7_restore_114 (by decide) ?_
            exact J118_6 _ (if_pos c7).symm _ _ _ hw (lv_sub hl [0, 1, 2, 3] rfl)
    have hst_ : sr (sr σ 15 (va_cpy (σ 58) (σ 15) 3 0 3)) 0 (upd (upd (upd (upd (upd (σ 0) 0 (σ 58 0)) 1 (σ 58 1)) 2 (σ 58 2)) 3 (nI (if 29 ≠ 0 then (29 - 1) else 29))) 4 (nI (kp - 1))) = sr (sr (sr σ 4 (upr (σ 58) 0 (σ 4))) 15 (va_cpy (σ 58) (σ 15) 3 0 3)) 0 (upd (upd (upd (upd (upd (σ 0) 0 (σ 58 0)) 1 (σ 58 1)) 2 (σ 58 2)) 3 (nI (if 29 ≠ 0 then (29 - 1) else 29))) 4 (nI (kp - 1))) := by
      funext j_ x_
      by_cases e0 : j_ = 0
      · subst e0
        by_cases y0 : x_ = 0
        · subst y0; rfl
        · by_cases y1 : x_ = 1
          · subst y1; rfl
          · by_cases y2 : x_ = 2
            · subst y2; rfl
            · by_cases y3 : x_ = 3
              · subst y3; rfl
              · by_cases y4 : x_ = 4
                · subst y4; rfl
                · simp [sr, upd, y0, y1, y2, y3, y4]
      · by_cases e4 : j_ = 4
        · subst e4; show σ 4 x_ = upr (σ 58) 0 (σ 4) x_; rw [upr_0]
        · by_cases e15 : j_ = 15
          · subst e15; rfl
          · simp only [sr, e0, e4, e15, if_false]
    rw [hst_] at hw
    exact L90_2 _ 0 (by omega) (Nat.lt_succ_self _) _ _ _ hw (lv_sub hl [3, 2, 1, 0] rfl)
  refine q_ifne hC 13 (cN0 (by omega)) dX7_restore_5 (by decide) (fun (c8 : 29 ≠ 0) => ?_) (fun (c8 : 29 = 0) => ?_)
  · refine lv_aload_n hC.1 hC.2.1 dX7_restore_13 rfl (lv_at hl 0 rfl) ?_
    refine gf_X7_28 (v := nI 29) hC hw hnx dX7_restore_14 ?_
    refine lv_iconst (v := nI 1) hC.1 hC.2.1 dX7_restore_17 (by decide) ?_
    refine q_subN hC (by omega) dX7_restore_18 ?_
    exact J19_2 _ (by (rw [if_pos c8]) <;> rfl) _ _ _ hw (lv_sub hl [0] rfl)
  · refine lv_bipush (v := nI 29) hC.1 hC.2.1 dX7_restore_8 (by decide) ?_
    refine lv_goto (tgt := 19) hC.1 hC.2.1 dX7_restore_10 (by decide) ?_
    exact J19_2 _ (by (rw [if_neg (fun q => q c8)]) <;> rfl) _ _ _ hw (lv_sub hl [0] rfl)
