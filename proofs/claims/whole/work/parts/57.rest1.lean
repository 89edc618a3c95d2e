set_option maxHeartbeats 4000000 in
set_option maxRecDepth 100000 in
theorem tX7_restore_k0 (l : Launch) (E : EV) (a : Nat → Nat) (σ : St) (kp : Nat) (hnx : σ 0 3 = nI 0) (hkp : σ 0 4 = nI kp) (hk30 : kp ≤ 30) (hk1 : 1 ≤ kp) : MV l E (XW E a) yX7_restore (Cond.code yX7_restore cX7_restore 4 none) ({ frames := 1, cells := 0, slots := 0, locals := 24 }) [.ref (a 68)] σ (fun u_ => u_ = sr (sr (sr (sr (sr (sr (sr σ 4 (upr (σ 59) 10 (σ 4))) 11 (va_cpy (σ 59) (σ 11) 16 0 24)) 12 (va_cpy (σ 59) (σ 12) 40 0 24)) 13 (va_cpy (σ 59) (σ 13) 64 0 24)) 14 (va_cpy (σ 59) (σ 14) 88 0 24)) 15 (va_cpy (σ 59) (σ 15) 3 0 3)) 0 (upd (upd (upd (upd (upd (σ 0) 0 ((σ 59) 0)) 1 ((σ 59) 1)) 2 ((σ 59) 2)) 3 (nI (if 0 ≠ 0 then 0 - 1 else 29))) 4 (nI (kp - 1)))) := by
  refine MV.mk (by decide +kernel) (Nat.le_of_ble_eq_true rfl) ?_
  intro p e s m args below meth c ls A Q hret hC hw hl
  have hC : Cxt E p s m args meth c cX7_restore 4 none RX7 A := hC
  have hl : lv_has ls 4 [(0, .ref (a 68))] := hl
  refine lv_aload_n hC.1 hC.2.1 dX7_restore_0 rfl (lv_at hl 0 rfl) ?_
  refine lv_aload_n hC.1 hC.2.1 dX7_restore_1 rfl (lv_at hl 0 rfl) ?_
  refine gf_X7_28 (v := nI 0) hC hw hnx dX7_restore_2 ?_
  have J19_2 : ∀ (w1 : Nat), w1 = (if 0 ≠ 0 then (0 - 1) else 29) → ∀ (H : Heap) (locs : List Loc) (ls : Array Slot), Wst E (XW E a) (σ) A s.heap H locs → lv_has ls 4 [(0, .ref (a 68))] → W p l e ({ frames := 1, cells := 0, slots := 0, locals := 24 }) s m args below meth c H locs 0 0 Q (F0 m 19 ls [.int (nI w1), .ref (a 68)]) := by
    intro w1 e2 H locs ls hw hl
    subst e2
    refine pf_X7_28 hC hw dX7_restore_19 (fun H locs hw => ?_)
    have hw : Wst E (XW E a) (sr σ 0 (upd (σ 0) 3 (nI (if 0 ≠ 0 then (0 - 1) else 29)))) A s.heap H locs := hw
    refine lv_aload_n hC.1 hC.2.1 dX7_restore_22 rfl (lv_at hl 0 rfl) ?_
    refine lv_dup hC.1 hC.2.1 dX7_restore_23 rfl ?_
    refine gf_X7_65 (v := nI kp) hC hw hkp dX7_restore_24 ?_
    refine lv_iconst (v := nI 1) hC.1 hC.2.1 dX7_restore_27 (by decide) ?_
    refine q_subN hC (by omega) dX7_restore_28 ?_
    refine pf_X7_65 hC hw dX7_restore_29 (fun H locs hw => ?_)
    have hw : Wst E (XW E a) (sr (sr σ 0 (upd (σ 0) 3 (nI (if 0 ≠ 0 then (0 - 1) else 29)))) 0 (upd (upd (σ 0) 3 (nI (if 0 ≠ 0 then (0 - 1) else 29))) 4 (nI (kp - 1)))) A s.heap H locs := hw
    have hst_ : sr (sr σ 0 (upd (σ 0) 3 (nI (if 0 ≠ 0 then (0 - 1) else 29)))) 0 (upd (upd (σ 0) 3 (nI (if 0 ≠ 0 then (0 - 1) else 29))) 4 (nI (kp - 1))) = sr σ 0 (upd (upd (σ 0) 3 (nI (if 0 ≠ 0 then (0 - 1) else 29))) 4 (nI (kp - 1))) := by
      funext j_ x_
      by_cases e0 : j_ = 0
      · subst e0
        by_cases y3 : x_ = 3
        · subst y3; rfl
        · by_cases y4 : x_ = 4
          · subst y4; rfl
          · simp [sr, upd, y3, y4]
      · simp only [sr, e0, if_false]
    rw [hst_] at hw
    refine lv_aload_n hC.1 hC.2.1 dX7_restore_32 rfl (lv_at hl 0 rfl) ?_
    refine gf_X7_13 hC hw dX7_restore_33 ?_
    refine lv_aload_n hC.1 hC.2.1 dX7_restore_36 rfl (lv_at hl 0 rfl) ?_
    refine gf_X7_28 (v := nI (if 0 ≠ 0 then (0 - 1) else 29)) hC hw rfl dX7_restore_37 ?_
    refine q_top (y := nI 29) rfl ?_
    refine q_aald hC hw (i := 29) (by decide) dX7_restore_40 ?_
    refine lv_astore_n (lv' := [(1, .ref (a 59)), (0, .ref (a 68))]) hC.1 hC.2.1 dX7_restore_41 rfl hl (by decide) rfl (fun ls hl => ?_)
    refine lv_aload_n hC.1 hC.2.1 dX7_restore_42 rfl (lv_at hl 1 rfl) ?_
    refine gf_X7_16 hC hw dX7_restore_43 ?_
    refine lv_aload_n hC.1 hC.2.1 dX7_restore_46 rfl (lv_at hl 0 rfl) ?_
    refine lv_iconst (v := nI 0) hC.1 hC.2.1 dX7_restore_47 (by decide) ?_
    refine q_ald (Wf := XW E a) (v := σ 59 0) 69 rfl (by decide) hC hw (by omega) rfl dX7_restore_48 ?_
    refine pf_X7_32 hC hw dX7_restore_49 (fun H locs hw => ?_)
    have hw : Wst E (XW E a) (sr (sr σ 0 (upd (upd (σ 0) 3 (nI (if 0 ≠ 0 then (0 - 1) else 29))) 4 (nI (kp - 1)))) 0 (upd (upd (upd (σ 0) 3 (nI (if 0 ≠ 0 then (0 - 1) else 29))) 4 (nI (kp - 1))) 0 (σ 59 0))) A s.heap H locs := hw
    have hst_ : sr (sr σ 0 (upd (upd (σ 0) 3 (nI (if 0 ≠ 0 then (0 - 1) else 29))) 4 (nI (kp - 1)))) 0 (upd (upd (upd (σ 0) 3 (nI (if 0 ≠ 0 then (0 - 1) else 29))) 4 (nI (kp - 1))) 0 (σ 59 0)) = sr σ 0 (upd (upd (upd (σ 0) 0 (σ 59 0)) 3 (nI (if 0 ≠ 0 then (0 - 1) else 29))) 4 (nI (kp - 1))) := by
      funext j_ x_
      by_cases e0 : j_ = 0
      · subst e0
        by_cases y0 : x_ = 0
        · subst y0; rfl
        · by_cases y3 : x_ = 3
          · subst y3; rfl
          · by_cases y4 : x_ = 4
            · subst y4; rfl
            · simp [sr, upd, y0, y3, y4]
      · simp only [sr, e0, if_false]
    rw [hst_] at hw
    refine lv_aload_n hC.1 hC.2.1 dX7_restore_52 rfl (lv_at hl 1 rfl) ?_
    refine gf_X7_20 hC hw dX7_restore_53 ?_
    refine lv_aload_n hC.1 hC.2.1 dX7_restore_56 rfl (lv_at hl 0 rfl) ?_
    refine lv_iconst (v := nI 1) hC.1 hC.2.1 dX7_restore_57 (by decide) ?_
    refine q_ald (Wf := XW E a) (v := σ 59 1) 69 rfl (by decide) hC hw (by omega) rfl dX7_restore_58 ?_
    refine pf_X7_37 hC hw dX7_restore_59 (fun H locs hw => ?_)
    have hw : Wst E (XW E a) (sr (sr σ 0 (upd (upd (upd (σ 0) 0 (σ 59 0)) 3 (nI (if 0 ≠ 0 then (0 - 1) else 29))) 4 (nI (kp - 1)))) 0 (upd (upd (upd (upd (σ 0) 0 (σ 59 0)) 3 (nI (if 0 ≠ 0 then (0 - 1) else 29))) 4 (nI (kp - 1))) 1 (σ 59 1))) A s.heap H locs := hw
    have hst_ : sr (sr σ 0 (upd (upd (upd (σ 0) 0 (σ 59 0)) 3 (nI (if 0 ≠ 0 then (0 - 1) else 29))) 4 (nI (kp - 1)))) 0 (upd (upd (upd (upd (σ 0) 0 (σ 59 0)) 3 (nI (if 0 ≠ 0 then (0 - 1) else 29))) 4 (nI (kp - 1))) 1 (σ 59 1)) = sr σ 0 (upd (upd (upd (upd (σ 0) 0 (σ 59 0)) 1 (σ 59 1)) 3 (nI (if 0 ≠ 0 then (0 - 1) else 29))) 4 (nI (kp - 1))) := by
      funext j_ x_
      by_cases e0 : j_ = 0
      · subst e0
        by_cases y0 : x_ = 0
        · subst y0; rfl
        · by_cases y1 : x_ = 1
          · subst y1; rfl
          · by_cases y3 : x_ = 3
            · subst y3; rfl
            · by_cases y4 : x_ = 4
              · subst y4; rfl
              · simp [sr, upd, y0, y1, y3, y4]
      · simp only [sr, e0, if_false]
    rw [hst_] at hw
    refine lv_aload_n hC.1 hC.2.1 dX7_restore_62 rfl (lv_at hl 1 rfl) ?_
    refine gf_X7_20 hC hw dX7_restore_63 ?_
    refine lv_aload_n hC.1 hC.2.1 dX7_restore_66 rfl (lv_at hl 0 rfl) ?_
    refine lv_iconst (v := nI 2) hC.1 hC.2.1 dX7_restore_67 (by decide) ?_
    refine q_ald (Wf := XW E a) (v := σ 59 2) 69 rfl (by decide) hC hw (by omega) rfl dX7_restore_68 ?_
    refine pf_X7_40 hC hw dX7_restore_69 (fun H locs hw => ?_)
    have hw : Wst E (XW E a) (sr (sr σ 0 (upd (upd (upd (upd (σ 0) 0 (σ 59 0)) 1 (σ 59 1)) 3 (nI (if 0 ≠ 0 then (0 - 1) else 29))) 4 (nI (kp - 1)))) 0 (upd (upd (upd (upd (upd (σ 0) 0 (σ 59 0)) 1 (σ 59 1)) 3 (nI (if 0 ≠ 0 then (0 - 1) else 29))) 4 (nI (kp - 1))) 2 (σ 59 2))) A s.heap H locs := hw
    have hst_ : sr (sr σ 0 (upd (upd (upd (upd (σ 0) 0 (σ 59 0)) 1 (σ 59 1)) 3 (nI (if 0 ≠ 0 then (0 - 1) else 29))) 4 (nI (kp - 1)))) 0 (upd (upd (upd (upd (upd (σ 0) 0 (σ 59 0)) 1 (σ 59 1)) 3 (nI (if 0 ≠ 0 then (0 - 1) else 29))) 4 (nI (kp - 1))) 2 (σ 59 2)) = sr σ 0 (upd (upd (upd (upd (upd (σ 0) 0 (σ 59 0)) 1 (σ 59 1)) 2 (σ 59 2)) 3 (nI (if 0 ≠ 0 then (0 - 1) else 29))) 4 (nI (kp - 1))) := by
      funext j_ x_
      by_cases e0 : j_ = 0
      · subst e0
        by_cases y0 : x_ = 0
        · subst y0; rfl
        · by_cases y1 : x_ = 1
          · subst y1; rfl
          · by_cases y2 : x_ = 2
            · subst y2; rfl
            · by_cases y3 : x_ = 3
              · subst y3; rfl
              · by_cases y4 : x_ = 4
                · subst y4; rfl
                · simp [sr, upd, y0, y1, y2, y3, y4]
      · simp only [sr, e0, if_false]
    rw [hst_] at hw
    refine lv_iconst (v := nI 3) hC.1 hC.2.1 dX7_restore_72 (by decide) ?_
    refine lv_istore_n (lv' := [(2, .int (nI 3)), (1, .ref (a 59)), (0, .ref (a 68))]) hC.1 hC.2.1 dX7_restore_73 rfl hl (by decide) rfl (fun ls hl => ?_)
    refine lv_aload_n hC.1 hC.2.1 dX7_restore_74 rfl (lv_at hl 1 rfl) ?_
    refine lv_iload_n hC.1 hC.2.1 dX7_restore_75 rfl (lv_at hl 0 rfl) ?_
    refine lv_aload_n hC.1 hC.2.1 dX7_restore_76 rfl (lv_at hl 2 rfl) ?_
    refine gf_X7_24 hC hw dX7_restore_77 ?_
    refine lv_iconst (v := nI 0) hC.1 hC.2.1 dX7_restore_80 (by decide) ?_
    refine lv_iconst (v := nI 3) hC.1 hC.2.1 dX7_restore_81 (by decide) ?_
    refine q_cpy (sp := 3) (dp := 0) (n := 3) 69 rfl 25 rfl (XW_s15 _) hC hw hl (by omega) (by omega) (by decide) (by decide) ⟨Nat.le_of_ble_eq_true rfl, Nat.le_of_ble_eq_true rfl⟩ wk2_182 dX7_restore_82 (fun H locs hw => ?_)
    have hw : Wst E (XW E a) (sr (sr σ 0 (upd (upd (upd (upd (upd (σ 0) 0 (σ 59 0)) 1 (σ 59 1)) 2 (σ 59 2)) 3 (nI (if 0 ≠ 0 then (0 - 1) else 29))) 4 (nI (kp - 1)))) 15 (va_cpy (σ 59) (σ 15) 3 0 3)) A s.heap H locs := hw
    have hst_ : sr (sr σ 0 (upd (upd (upd (upd (upd (σ 0) 0 (σ 59 0)) 1 (σ 59 1)) 2 (σ 59 2)) 3 (nI (if 0 ≠ 0 then (0 - 1) else 29))) 4 (nI (kp - 1)))) 15 (va_cpy (σ 59) (σ 15) 3 0 3) = sr (sr σ 15 (va_cpy (σ 59) (σ 15) 3 0 3)) 0 (upd (upd (upd (upd (upd (σ 0) 0 (σ 59 0)) 1 (σ 59 1)) 2 (σ 59 2)) 3 (nI (if 0 ≠ 0 then (0 - 1) else 29))) 4 (nI (kp - 1))) := by
      funext j_ x_
      by_cases e0 : j_ = 0
      · subst e0
        by_cases y0 : x_ = 0
        · subst y0; rfl
        · by_cases y1 : x_ = 1
          · subst y1; rfl
          · by_cases y2 : x_ = 2
            · subst y2; rfl
            · by_cases y3 : x_ = 3
              · subst y3; rfl
              · by_cases y4 : x_ = 4
                · subst y4; rfl
                · simp [sr, upd, y0, y1, y2, y3, y4]
      · by_cases e15 : j_ = 15
        · subst e15; rfl
        · simp only [sr, e0, e15, if_false]
    rw [hst_] at hw
    refine lv_iinc (v := nI (3 + 3)) (lv' := [(2, .int (nI (3 + 3))), (1, .ref (a 59)), (0, .ref (a 68))]) hC.1 hC.2.1 dX7_restore_85 hl (k := 0) rfl (nI_add _ _) (by decide) rfl (fun ls hl => ?_)
    refine lv_iconst (v := nI 0) hC.1 hC.2.1 dX7_restore_88 (by decide) ?_
    refine lv_istore_n (lv' := [(3, .int (nI 0)), (2, .int (nI (3 + 3))), (1, .ref (a 59)), (0, .ref (a 68))]) hC.1 hC.2.1 dX7_restore_89 rfl hl (by decide) rfl (fun ls hl => ?_)
    have L90_2 : ∀ (n : Nat), ∀ (h : Nat), (h ≤ 10) → (10 - h) < n → ∀ (H : Heap) (locs : List Loc) (ls : Array Slot), Wst E (XW E a) (sr (sr (sr σ 4 (upr (σ 59) h (σ 4))) 15 (va_cpy (σ 59) (σ 15) 3 0 3)) 0 (upd (upd (upd (upd (upd (σ 0) 0 (σ 59 0)) 1 (σ 59 1)) 2 (σ 59 2)) 3 (nI (if 0 ≠ 0 then (0 - 1) else 29))) 4 (nI (kp - 1)))) A s.heap H locs → lv_has ls 4 [(0, .ref (a 68)), (1, .ref (a 59)), (2, .int (nI (3 + 3))), (3, .int (nI h))] → W p l e ({ frames := 1, cells := 0, slots := 0, locals := 24 }) s m args below meth c H locs 0 0 Q (F0 m 90 ls []) := by
      intro n
      induction n with
      | zero => intro h hh hn; exact absurd hn (Nat.not_lt_zero _)
      | succ n ih90 =>
        intro h hh hn90 H locs ls hw hl
        refine lv_iload_n hC.1 hC.2.1 dX7_restore_90 rfl (lv_at hl 3 rfl) ?_
        refine lv_bipush (v := nI 10) hC.1 hC.2.1 dX7_restore_91 (by decide) ?_
        refine q_cmpge hC 125 (cNle (by omega) (by omega)) dX7_restore_93 (by decide) (fun (c4 : 10 ≤ h) => ?_) (fun (c4 : h < 10) => ?_)
        · have hh9 : h = 10 := by omega
          rw [hh9] at hw
          refine lv_iinc (v := nI (3 + 3 + 10)) (lv' := [(2, .int (nI (3 + 3 + 10))), (0, .ref (a 68)), (1, .ref (a 59)), (3, .int (nI h))]) hC.1 hC.2.1 dX7_restore_125 hl (k := 2) rfl (nI_add _ _) (by decide) rfl (fun ls hl => ?_)
          refine lv_aload_n hC.1 hC.2.1 dX7_restore_128 rfl (lv_at hl 2 rfl) ?_
          refine lv_iload_n hC.1 hC.2.1 dX7_restore_129 rfl (lv_at hl 0 rfl) ?_
          refine lv_aload_n hC.1 hC.2.1 dX7_restore_130 rfl (lv_at hl 1 rfl) ?_
          refine gf_X7_20 hC hw dX7_restore_131 ?_
          refine gf_X7_53 hC hw dX7_restore_134 ?_
          refine lv_iconst (v := nI 0) hC.1 hC.2.1 dX7_restore_137 (by decide) ?_
          refine lv_bipush (v := nI 24) hC.1 hC.2.1 dX7_restore_138 (by decide) ?_
          refine q_cpy (sp := (3 + 3 + 10)) (dp := 0) (n := 24) 69 rfl 21 rfl (XW_s11 _) hC hw hl (by omega) (by omega) (by decide) (by decide) ⟨Nat.le_of_ble_eq_true rfl, Nat.le_of_ble_eq_true rfl⟩ wk2_182 dX7_restore_140 (fun H locs hw => ?_)
          have hw : Wst E (XW E a) (sr (sr (sr (sr σ 4 (upr (σ 59) 10 (σ 4))) 15 (va_cpy (σ 59) (σ 15) 3 0 3)) 0 (upd (upd (upd (upd (upd (σ 0) 0 (σ 59 0)) 1 (σ 59 1)) 2 (σ 59 2)) 3 (nI (if 0 ≠ 0 then (0 - 1) else 29))) 4 (nI (kp - 1)))) 11 (va_cpy (σ 59) (σ 11) (3 + 3 + 10) 0 24)) A s.heap H locs := hw
          have hst_ : sr (sr (sr (sr σ 4 (upr (σ 59) 10 (σ 4))) 15 (va_cpy (σ 59) (σ 15) 3 0 3)) 0 (upd (upd (upd (upd (upd (σ 0) 0 (σ 59 0)) 1 (σ 59 1)) 2 (σ 59 2)) 3 (nI (if 0 ≠ 0 then (0 - 1) else 29))) 4 (nI (kp - 1)))) 11 (va_cpy (σ 59) (σ 11) (3 + 3 + 10) 0 24) = sr (sr (sr (sr σ 4 (upr (σ 59) 10 (σ 4))) 11 (va_cpy (σ 59) (σ 11) (3 + 3 + 10) 0 24)) 15 (va_cpy (σ 59) (σ 15) 3 0 3)) 0 (upd (upd (upd (upd (upd (σ 0) 0 (σ 59 0)) 1 (σ 59 1)) 2 (σ 59 2)) 3 (nI (if 0 ≠ 0 then (0 - 1) else 29))) 4 (nI (kp - 1))) := by
            funext j_ x_
            by_cases e0 : j_ = 0
            · subst e0
              by_cases y0 : x_ = 0
              · subst y0; rfl
              · by_cases y1 : x_ = 1
                · subst y1; rfl
                · by_cases y2 : x_ = 2
                  · subst y2; rfl
                  · by_cases y3 : x_ = 3
                    · subst y3; rfl
                    · by_cases y4 : x_ = 4
                      · subst y4; rfl
                      · simp [sr, upd, y0, y1, y2, y3, y4]
            · by_cases e4 : j_ = 4
              · subst e4; rfl
              · by_cases e11 : j_ = 11
                · subst e11; rfl
                · by_cases e15 : j_ = 15
                  · subst e15; rfl
                  · simp only [sr, e0, e4, e11, e15, if_false]
          rw [hst_] at hw
          refine lv_aload_n hC.1 hC.2.1 dX7_restore_143 rfl (lv_at hl 2 rfl) ?_
          refine lv_iload_n hC.1 hC.2.1 dX7_restore_144 rfl (lv_at hl 0 rfl) ?_
          refine lv_bipush (v := nI 24) hC.1 hC.2.1 dX7_restore_145 (by decide) ?_
          refine q_addN hC dX7_restore_147 ?_
          refine lv_aload_n hC.1 hC.2.1 dX7_restore_148 rfl (lv_at hl 1 rfl) ?_
          refine gf_X7_20 hC hw dX7_restore_149 ?_
          refine gf_X7_56 hC hw dX7_restore_152 ?_
          refine lv_iconst (v := nI 0) hC.1 hC.2.1 dX7_restore_155 (by decide) ?_
          refine lv_bipush (v := nI 24) hC.1 hC.2.1 dX7_restore_156 (by decide) ?_
          refine q_cpy (sp := ((3 + 3 + 10) + 24)) (dp := 0) (n := 24) 69 rfl 22 rfl (XW_s12 _) hC hw hl (by omega) (by omega) (by decide) (by decide) ⟨Nat.le_of_ble_eq_true rfl, Nat.le_of_ble_eq_true rfl⟩ wk2_182 dX7_restore_158 (fun H locs hw => ?_)
          have hw : Wst E (XW E a) (sr (sr (sr (sr (sr σ 4 (upr (σ 59) 10 (σ 4))) 11 (va_cpy (σ 59) (σ 11) (3 + 3 + 10) 0 24)) 15 (va_cpy (σ 59) (σ 15) 3 0 3)) 0 (upd (upd (upd (upd (upd (σ 0) 0 (σ 59 0)) 1 (σ 59 1)) 2 (σ 59 2)) 3 (nI (if 0 ≠ 0 then (0 - 1) else 29))) 4 (nI (kp - 1)))) 12 (va_cpy (σ 59) (σ 12) ((3 + 3 + 10) + 24) 0 24)) A s.heap H locs := hw
          have hst_ : sr (sr (sr (sr (sr σ 4 (upr (σ 59) 10 (σ 4))) 11 (va_cpy (σ 59) (σ 11) (3 + 3 + 10) 0 24)) 15 (va_cpy (σ 59) (σ 15) 3 0 3)) 0 (upd (upd (upd (upd (upd (σ 0) 0 (σ 59 0)) 1 (σ 59 1)) 2 (σ 59 2)) 3 (nI (if 0 ≠ 0 then (0 - 1) else 29))) 4 (nI (kp - 1)))) 12 (va_cpy (σ 59) (σ 12) ((3 + 3 + 10) + 24) 0 24) = sr (sr (sr (sr (sr σ 4 (upr (σ 59) 10 (σ 4))) 11 (va_cpy (σ 59) (σ 11) (3 + 3 + 10) 0 24)) 12 (va_cpy (σ 59) (σ 12) ((3 + 3 + 10) + 24) 0 24)) 15 (va_cpy (σ 59) (σ 15) 3 0 3)) 0 (upd (upd (upd (upd (upd (σ 0) 0 (σ 59 0)) 1 (σ 59 1)) 2 (σ 59 2)) 3 (nI (if 0 ≠ 0 then (0 - 1) else 29))) 4 (nI (kp - 1))) := by
            funext j_ x_
            by_cases e0 : j_ = 0
            · subst e0
              by_cases y0 : x_ = 0
              · subst y0; rfl
              · by_cases y1 : x_ = 1
                · subst y1; rfl
                · by_cases y2 : x_ = 2
                  · subst y2; rfl
                  · by_cases y3 : x_ = 3
                    · subst y3; rfl
                    · by_cases y4 : x_ = 4
                      · subst y4; rfl
                      · simp [sr, upd, y0, y1, y2, y3, y4]
            · by_cases e4 : j_ = 4
              · subst e4; rfl
              · by_cases e11 : j_ = 11
                · subst e11; rfl
                · by_cases e12 : j_ = 12
                  · subst e12; rfl
                  · by_cases e15 : j_ = 15
                    · subst e15; rfl
                    · simp only [sr, e0, e4, e11, e12, e15, if_false]
          rw [hst_] at hw
          refine lv_aload_n hC.1 hC.2.1 dX7_restore_161 rfl (lv_at hl 2 rfl) ?_
          refine lv_iload_n hC.1 hC.2.1 dX7_restore_162 rfl (lv_at hl 0 rfl) ?_
          refine lv_bipush (v := nI 48) hC.1 hC.2.1 dX7_restore_163 (by decide) ?_
          refine q_addN hC dX7_restore_165 ?_
          refine lv_aload_n hC.1 hC.2.1 dX7_restore_166 rfl (lv_at hl 1 rfl) ?_
          refine gf_X7_20 hC hw dX7_restore_167 ?_
          refine gf_X7_59 hC hw dX7_restore_170 ?_
          refine lv_iconst (v := nI 0) hC.1 hC.2.1 dX7_restore_173 (by decide) ?_
          refine lv_bipush (v := nI 24) hC.1 hC.2.1 dX7_restore_174 (by decide) ?_
          refine q_cpy (sp := ((3 + 3 + 10) + 48)) (dp := 0) (n := 24) 69 rfl 23 rfl (XW_s13 _) hC hw hl (by omega) (by omega) (by decide) (by decide) ⟨Nat.le_of_ble_eq_true rfl, Nat.le_of_ble_eq_true rfl⟩ wk2_182 dX7_restore_176 (fun H locs hw => ?_)
          have hw : Wst E (XW E a) (sr (sr (sr (sr (sr (sr σ 4 (upr (σ 59) 10 (σ 4))) 11 (va_cpy (σ 59) (σ 11) (3 + 3 + 10) 0 24)) 12 (va_cpy (σ 59) (σ 12) ((3 + 3 + 10) + 24) 0 24)) 15 (va_cpy (σ 59) (σ 15) 3 0 3)) 0 (upd (upd (upd (upd (upd (σ 0) 0 (σ 59 0)) 1 (σ 59 1)) 2 (σ 59 2)) 3 (nI (if 0 ≠ 0 then (0 - 1) else 29))) 4 (nI (kp - 1)))) 13 (va_cpy (σ 59) (σ 13) ((3 + 3 + 10) + 48) 0 24)) A s.heap H locs := hw
          have hst_ : sr (sr (sr (sr (sr (sr σ 4 (upr (σ 59) 10 (σ 4))) 11 (va_cpy (σ 59) (σ 11) (3 + 3 + 10) 0 24)) 12 (va_cpy (σ 59) (σ 12) ((3 + 3 + 10) + 24) 0 24)) 15 (va_cpy (σ 59) (σ 15) 3 0 3)) 0 (upd (upd (upd (upd (upd (σ 0) 0 (σ 59 0)) 1 (σ 59 1)) 2 (σ 59 2)) 3 (nI (if 0 ≠ 0 then (0 - 1) else 29))) 4 (nI (kp - 1)))) 13 (va_cpy (σ 59) (σ 13) ((3 + 3 + 10) + 48) 0 24) = sr (sr (sr (sr (sr (sr σ 4 (upr (σ 59) 10 (σ 4))) 11 (va_cpy (σ 59) (σ 11) (3 + 3 + 10) 0 24)) 12 (va_cpy (σ 59) (σ 12) ((3 + 3 + 10) + 24) 0 24)) 13 (va_cpy (σ 59) (σ 13) ((3 + 3 + 10) + 48) 0 24)) 15 (va_cpy (σ 59) (σ 15) 3 0 3)) 0 (upd (upd (upd (upd (upd (σ 0) 0 (σ 59 0)) 1 (σ 59 1)) 2 (σ 59 2)) 3 (nI (if 0 ≠ 0 then (0 - 1) else 29))) 4 (nI (kp - 1))) := by
            funext j_ x_
            by_cases e0 : j_ = 0
            · subst e0
              by_cases y0 : x_ = 0
              · subst y0; rfl
              · by_cases y1 : x_ = 1
                · subst y1; rfl
                · by_cases y2 : x_ = 2
                  · subst y2; rfl
                  · by_cases y3 : x_ = 3
                    · subst y3; rfl
                    · by_cases y4 : x_ = 4
                      · subst y4; rfl
                      · simp [sr, upd, y0, y1, y2, y3, y4]
            · by_cases e4 : j_ = 4
              · subst e4; rfl
              · by_cases e11 : j_ = 11
                · subst e11; rfl
                · by_cases e12 : j_ = 12
                  · subst e12; rfl
                  · by_cases e13 : j_ = 13
                    · subst e13; rfl
                    · by_cases e15 : j_ = 15
                      · subst e15; rfl
                      · simp only [sr, e0, e4, e11, e12, e13, e15, if_false]
          rw [hst_] at hw
          refine lv_aload_n hC.1 hC.2.1 dX7_restore_179 rfl (lv_at hl 2 rfl) ?_
          refine lv_iload_n hC.1 hC.2.1 dX7_restore_180 rfl (lv_at hl 0 rfl) ?_
          refine lv_bipush (v := nI 72) hC.1 hC.2.1 dX7_restore_181 (by decide) ?_
          refine q_addN hC dX7_restore_183 ?_
          refine lv_aload_n hC.1 hC.2.1 dX7_restore_184 rfl (lv_at hl 1 rfl) ?_
          refine gf_X7_20 hC hw dX7_restore_185 ?_
          refine gf_X7_62 hC hw dX7_restore_188 ?_
          refine lv_iconst (v := nI 0) hC.1 hC.2.1 dX7_restore_191 (by decide) ?_
          refine lv_bipush (v := nI 24) hC.1 hC.2.1 dX7_restore_192 (by decide) ?_
          refine q_cpy (sp := ((3 + 3 + 10) + 72)) (dp := 0) (n := 24) 69 rfl 24 rfl (XW_s14 _) hC hw hl (by omega) (by omega) (by decide) (by decide) ⟨Nat.le_of_ble_eq_true rfl, Nat.le_of_ble_eq_true rfl⟩ wk2_182 dX7_restore_194 (fun H locs hw => ?_)
          have hw : Wst E (XW E a) (sr (sr (sr (sr (sr (sr (sr σ 4 (upr (σ 59) 10 (σ 4))) 11 (va_cpy (σ 59) (σ 11) (3 + 3 + 10) 0 24)) 12 (va_cpy (σ 59) (σ 12) ((3 + 3 + 10) + 24) 0 24)) 13 (va_cpy (σ 59) (σ 13) ((3 + 3 + 10) + 48) 0 24)) 15 (va_cpy (σ 59) (σ 15) 3 0 3)) 0 (upd (upd (upd (upd (upd (σ 0) 0 (σ 59 0)) 1 (σ 59 1)) 2 (σ 59 2)) 3 (nI (if 0 ≠ 0 then (0 - 1) else 29))) 4 (nI (kp - 1)))) 14 (va_cpy (σ 59) (σ 14) ((3 + 3 + 10) + 72) 0 24)) A s.heap H locs := hw
          have hst_ : sr (sr (sr (sr (sr (sr (sr σ 4 (upr (σ 59) 10 (σ 4))) 11 (va_cpy (σ 59) (σ 11) (3 + 3 + 10) 0 24)) 12 (va_cpy (σ 59) (σ 12) ((3 + 3 + 10) + 24) 0 24)) 13 (va_cpy (σ 59) (σ 13) ((3 + 3 + 10) + 48) 0 24)) 15 (va_cpy (σ 59) (σ 15) 3 0 3)) 0 (upd (upd (upd (upd (upd (σ 0) 0 (σ 59 0)) 1 (σ 59 1)) 2 (σ 59 2)) 3 (nI (if 0 ≠ 0 then (0 - 1) else 29))) 4 (nI (kp - 1)))) 14 (va_cpy (σ 59) (σ 14) ((3 + 3 + 10) + 72) 0 24) = sr (sr (sr (sr (sr (sr (sr σ 4 (upr (σ 59) 10 (σ 4))) 11 (va_cpy (σ 59) (σ 11) (3 + 3 + 10) 0 24)) 12 (va_cpy (σ 59) (σ 12) ((3 + 3 + 10) + 24) 0 24)) 13 (va_cpy (σ 59) (σ 13) ((3 + 3 + 10) + 48) 0 24)) 14 (va_cpy (σ 59) (σ 14) ((3 + 3 + 10) + 72) 0 24)) 15 (va_cpy (σ 59) (σ 15) 3 0 3)) 0 (upd (upd (upd (upd (upd (σ 0) 0 (σ 59 0)) 1 (σ 59 1)) 2 (σ 59 2)) 3 (nI (if 0 ≠ 0 then (0 - 1) else 29))) 4 (nI (kp - 1))) := by
            funext j_ x_
            by_cases e0 : j_ = 0
            · subst e0
              by_cases y0 : x_ = 0
              · subst y0; rfl
              · by_cases y1 : x_ = 1
                · subst y1; rfl
                · by_cases y2 : x_ = 2
                  · subst y2; rfl
                  · by_cases y3 : x_ = 3
                    · subst y3; rfl
                    · by_cases y4 : x_ = 4
                      · subst y4; rfl
                      · simp [sr, upd, y0, y1, y2, y3, y4]
            · by_cases e4 : j_ = 4
              · subst e4; rfl
              · by_cases e11 : j_ = 11
                · subst e11; rfl
                · by_cases e12 : j_ = 12
                  · subst e12; rfl
                  · by_cases e13 : j_ = 13
                    · subst e13; rfl
                    · by_cases e14 : j_ = 14
                      · subst e14; rfl
                      · by_cases e15 : j_ = 15
                        · subst e15; rfl
                        · simp only [sr, e0, e4, e11, e12, e13, e14, e15, if_false]
          rw [hst_] at hw
          refine hret _ _ _ _ _ hw ?_ dX7_restore_197
          exact rfl
        · refine lv_aload_n hC.1 hC.2.1 dX7_restore_96 rfl (lv_at hl 0 rfl) ?_
          refine gf_X7_16 hC hw dX7_restore_97 ?_
          refine gf_X7_49 hC hw dX7_restore_100 ?_
          refine lv_iload_n hC.1 hC.2.1 dX7_restore_103 rfl (lv_at hl 3 rfl) ?_
          refine lv_aload_n hC.1 hC.2.1 dX7_restore_104 rfl (lv_at hl 1 rfl) ?_
          refine lv_iload_n hC.1 hC.2.1 dX7_restore_105 rfl (lv_at hl 2 rfl) ?_
          refine lv_iload_n hC.1 hC.2.1 dX7_restore_106 rfl (lv_at hl 3 rfl) ?_
          refine q_addN hC dX7_restore_107 ?_
          refine q_ald (Wf := XW E a) (v := σ 59 ((3 + 3) + h)) 69 rfl (by decide) hC hw (by omega) rfl dX7_restore_108 ?_
          refine lv_iconst (v := nI 1) hC.1 hC.2.1 dX7_restore_109 (by decide) ?_
          have J118_6 : ∀ (w5 : Int32), w5 = (if (σ 59 ((3 + 3) + h)) = 1 then (1 : Int32) else 0) → ∀ (H : Heap) (locs : List Loc) (ls : Array Slot), Wst E (XW E a) (sr (sr (sr σ 4 (upr (σ 59) h (σ 4))) 15 (va_cpy (σ 59) (σ 15) 3 0 3)) 0 (upd (upd (upd (upd (upd (σ 0) 0 (σ 59 0)) 1 (σ 59 1)) 2 (σ 59 2)) 3 (nI (if 0 ≠ 0 then (0 - 1) else 29))) 4 (nI (kp - 1)))) A s.heap H locs → lv_has ls 4 [(0, .ref (a 68)), (1, .ref (a 59)), (2, .int (nI (3 + 3))), (3, .int (nI h))] → W p l e ({ frames := 1, cells := 0, slots := 0, locals := 24 }) s m args below meth c H locs 0 0 Q (F0 m 118 ls [.int (w5), .int (nI h), .ref (a 4)]) := by
            intro w5 e6 H locs ls hw hl
            subst e6
            refine as_X4 hC hw (by omega) vz_B dX7_restore_118 (fun H locs hw => ?_)
            have hw : Wst E (XW E a) (sr (sr (sr (sr σ 4 (upr (σ 59) h (σ 4))) 15 (va_cpy (σ 59) (σ 15) 3 0 3)) 0 (upd (upd (upd (upd (upd (σ 0) 0 (σ 59 0)) 1 (σ 59 1)) 2 (σ 59 2)) 3 (nI (if 0 ≠ 0 then (0 - 1) else 29))) 4 (nI (kp - 1)))) 4 (upd (upr (σ 59) h (σ 4)) h (if (σ 59 ((3 + 3) + h)) = 1 then (1 : Int32) else 0))) A s.heap H locs := hw
            have hst_ : sr (sr (sr (sr σ 4 (upr (σ 59) h (σ 4))) 15 (va_cpy (σ 59) (σ 15) 3 0 3)) 0 (upd (upd (upd (upd (upd (σ 0) 0 (σ 59 0)) 1 (σ 59 1)) 2 (σ 59 2)) 3 (nI (if 0 ≠ 0 then (0 - 1) else 29))) 4 (nI (kp - 1)))) 4 (upd (upr (σ 59) h (σ 4)) h (if (σ 59 ((3 + 3) + h)) = 1 then (1 : Int32) else 0)) = sr (sr (sr σ 4 (upd (upr (σ 59) h (σ 4)) h (if (σ 59 ((3 + 3) + h)) = 1 then (1 : Int32) else 0))) 15 (va_cpy (σ 59) (σ 15) 3 0 3)) 0 (upd (upd (upd (upd (upd (σ 0) 0 (σ 59 0)) 1 (σ 59 1)) 2 (σ 59 2)) 3 (nI (if 0 ≠ 0 then (0 - 1) else 29))) 4 (nI (kp - 1))) := by
              funext j_ x_
              by_cases e0 : j_ = 0
              · subst e0
                by_cases y0 : x_ = 0
                · subst y0; rfl
                · by_cases y1 : x_ = 1
                  · subst y1; rfl
                  · by_cases y2 : x_ = 2
                    · subst y2; rfl
                    · by_cases y3 : x_ = 3
                      · subst y3; rfl
                      · by_cases y4 : x_ = 4
                        · subst y4; rfl
                        · simp [sr, upd, y0, y1, y2, y3, y4]
              · by_cases e4 : j_ = 4
                · subst e4; rfl
                · by_cases e15 : j_ = 15
                  · subst e15; rfl
                  · simp only [sr, e0, e4, e15, if_false]
            rw [hst_] at hw
            refine lv_iinc (v := nI (h + 1)) (lv' := [(3, .int (nI (h + 1))), (0, .ref (a 68)), (1, .ref (a 59)), (2, .int (nI (3 + 3)))]) hC.1 hC.2.1 dX7_restore_119 hl (k := 3) rfl (nI_add _ _) (by decide) rfl (fun ls hl => ?_)
            refine lv_goto (tgt := 90) hC.1 hC.2.1 dX7_restore_122 (by decide) ?_
            rw [upr_s] at hw
            exact ih90 (h + 1) (by omega) (by omega) _ _ _ hw (lv_sub hl [1, 2, 3, 0] rfl)
          refine q_cmpne hC 117 cI dX7_restore_110 (by decide) (fun (c7 : ¬ ((σ 59 ((3 + 3) + h)) = 1)) => ?_) (fun (c7 : (σ 59 ((3 + 3) + h)) = 1) => ?_)
          · refine lv_iconst (v := nI 0) hC.1 hC.2.1 dX7_restore_117 (by decide) ?_
            exact J118_6 _ (if_neg c7).symm _ _ _ hw (lv_sub hl [0, 1, 2, 3] rfl)
          · refine lv_iconst (v := nI 1) hC.1 hC.2.1 dX7_restore_113 (by decide) ?_
            refine lv_goto (tgt := 118) hC.1 hC.2.1 dX7_restore_114 (by decide) ?_
            exact J118_6 _ (if_pos c7).symm _ _ _ hw (lv_sub hl [0, 1, 2, 3] rfl)
    have hst_ : sr (sr σ 15 (va_cpy (σ 59) (σ 15) 3 0 3)) 0 (upd (upd (upd (upd (upd (σ 0) 0 (σ 59 0)) 1 (σ 59 1)) 2 (σ 59 2)) 3 (nI (if 0 ≠ 0 then (0 - 1) else 29))) 4 (nI (kp - 1))) = sr (sr (sr σ 4 (upr (σ 59) 0 (σ 4))) 15 (va_cpy (σ 59) (σ 15) 3 0 3)) 0 (upd (upd (upd (upd (upd (σ 0) 0 (σ 59 0)) 1 (σ 59 1)) 2 (σ 59 2)) 3 (nI (if 0 ≠ 0 then (0 - 1) else 29))) 4 (nI (kp - 1))) := by
      funext j_ x_
      by_cases e0 : j_ = 0
      · subst e0
        by_cases y0 : x_ = 0
        · subst y0; rfl
        · by_cases y1 : x_ = 1
          · subst y1; rfl
          · by_cases y2 : x_ = 2
            · subst y2; rfl
            · by_cases y3 : x_ = 3
              · subst y3; rfl
              · by_cases y4 : x_ = 4
                · subst y4; rfl
                · simp [sr, upd, y0, y1, y2, y3, y4]
      · by_cases e4 : j_ = 4
        · subst e4; show σ 4 x_ = upr (σ 59) 0 (σ 4) x_; rw [upr_0]
        · by_cases e15 : j_ = 15
          · subst e15; rfl
          · simp only [sr, e0, e4, e15, if_false]
    rw [hst_] at hw
    exact L90_2 _ 0 (by omega) (Nat.lt_succ_self _) _ _ _ hw (lv_sub hl [3, 2, 1, 0] rfl)
  refine q_ifne hC 13 (cN0 (by omega)) dX7_restore_5 (by decide) (fun (c8 : 0 ≠ 0) => ?_) (fun (c8 : 0 = 0) => ?_)
  · refine lv_aload_n hC.1 hC.2.1 dX7_restore_13 rfl (lv_at hl 0 rfl) ?_
    refine gf_X7_28 (v := nI 0) hC hw hnx dX7_restore_14 ?_
    refine lv_iconst (v := nI 1) hC.1 hC.2.1 dX7_restore_17 (by decide) ?_
    refine q_subN hC (by omega) dX7_restore_18 ?_
    exact J19_2 _ (by (rw [if_pos c8]) <;> rfl) _ _ _ hw (lv_sub hl [0] rfl)
  · refine lv_bipush (v := nI 29) hC.1 hC.2.1 dX7_restore_8 (by decide) ?_
    refine lv_goto (tgt := 19) hC.1 hC.2.1 dX7_restore_10 (by decide) ?_
    exact J19_2 _ (by (rw [if_neg (fun q => q c8)]) <;> rfl) _ _ _ hw (lv_sub hl [0] rfl)
set_option maxHeartbeats 4000000 in
set_option maxRecDepth 100000 in
theorem tX7_restore_k1 (l : Launch) (E : EV) (a : Nat → Nat) (σ : St) (kp : Nat) (hnx : σ 0 3 = nI 1) (hkp : σ 0 4 = nI kp) (hk30 : kp ≤ 30) (hk1 : 1 ≤ kp) : MV l E (XW E a) yX7_restore (Cond.code yX7_restore cX7_restore 4 none) ({ frames := 1, cells := 0, slots := 0, locals := 24 }) [.ref (a 68)] σ (fun u_ => u_ = sr (sr (sr (sr (sr (sr (sr σ 4 (upr (σ 30) 10 (σ 4))) 11 (va_cpy (σ 30) (σ 11) 16 0 24)) 12 (va_cpy (σ 30) (σ 12) 40 0 24)) 13 (va_cpy (σ 30) (σ 13) 64 0 24)) 14 (va_cpy (σ 30) (σ 14) 88 0 24)) 15 (va_cpy (σ 30) (σ 15) 3 0 3)) 0 (upd (upd (upd (upd (upd (σ 0) 0 ((σ 30) 0)) 1 ((σ 30) 1)) 2 ((σ 30) 2)) 3 (nI (if 1 ≠ 0 then 1 - 1 else 29))) 4 (nI (kp - 1)))) := by
  refine MV.mk (by decide +kernel) (Nat.le_of_ble_eq_true rfl) ?_
  intro p e s m args below meth c ls A Q hret hC hw hl
  have hC : Cxt E p s m args meth c cX7_restore 4 none RX7 A := hC
  have hl : lv_has ls 4 [(0, .ref (a 68))] := hl
  refine lv_aload_n hC.1 hC.2.1 dX7_restore_0 rfl (lv_at hl 0 rfl) ?_
  refine lv_aload_n hC.1 hC.2.1 dX7_restore_1 rfl (lv_at hl 0 rfl) ?_
  refine gf_X7_28 (v := nI 1) hC hw hnx dX7_restore_2 ?_
  have J19_2 : ∀ (w1 : Nat), w1 = (if 1 ≠ 0 then (1 - 1) else 29) → ∀ (H : Heap) (locs : List Loc) (ls : Array Slot), Wst E (XW E a) (σ) A s.heap H locs → lv_has ls 4 [(0, .ref (a 68))] → W p l e ({ frames := 1, cells := 0, slots := 0, locals := 24 }) s m args below meth c H locs 0 0 Q (F0 m 19 ls [.int (nI w1), .ref (a 68)]) := by
    intro w1 e2 H locs ls hw hl
    subst e2
    refine pf_X7_28 hC hw dX7_restore_19 (fun H locs hw => ?_)
    have hw : Wst E (XW E a) (sr σ 0 (upd (σ 0) 3 (nI (if 1 ≠ 0 then (1 - 1) else 29)))) A s.heap H locs := hw
    refine lv_aload_n hC.1 hC.2.1 dX7_restore_22 rfl (lv_at hl 0 rfl) ?_
    refine lv_dup hC.1 hC.2.1 dX7_restore_23 rfl ?_
    refine gf_X7_65 (v := nI kp) hC hw hkp dX7_restore_24 ?_
    refine lv_iconst (v := nI 1) hC.1 hC.2.1 dX7_restore_27 (by decide) ?_
    refine q_subN hC (by omega) dX7_restore_28 ?_
    refine pf_X7_65 hC hw dX7_restore_29 (fun H locs hw => ?_)
    have hw : Wst E (XW E a) (sr (sr σ 0 (upd (σ 0) 3 (nI (if 1 ≠ 0 then (1 - 1) else 29)))) 0 (upd (upd (σ 0) 3 (nI (if 1 ≠ 0 then (1 - 1) else 29))) 4 (nI (kp - 1)))) A s.heap H locs := hw
    have hst_ : sr (sr σ 0 (upd (σ 0) 3 (nI (if 1 ≠ 0 then (1 - 1) else 29)))) 0 (upd (upd (σ 0) 3 (nI (if 1 ≠ 0 then (1 - 1) else 29))) 4 (nI (kp - 1))) = sr σ 0 (upd (upd (σ 0) 3 (nI (if 1 ≠ 0 then (1 - 1) else 29))) 4 (nI (kp - 1))) := by
      funext j_ x_
      by_cases e0 : j_ = 0
      · subst e0
        by_cases y3 : x_ = 3
        · subst y3; rfl
        · by_cases y4 : x_ = 4
          · subst y4; rfl
          · simp [sr, upd, y3, y4]
      · simp only [sr, e0, if_false]
    rw [hst_] at hw
    refine lv_aload_n hC.1 hC.2.1 dX7_restore_32 rfl (lv_at hl 0 rfl) ?_
    refine gf_X7_13 hC hw dX7_restore_33 ?_
    refine lv_aload_n hC.1 hC.2.1 dX7_restore_36 rfl (lv_at hl 0 rfl) ?_
    refine gf_X7_28 (v := nI (if 1 ≠ 0 then (1 - 1) else 29)) hC hw rfl dX7_restore_37 ?_
    refine q_top (y := nI 0) rfl ?_
    refine q_aald hC hw (i := 0) (by decide) dX7_restore_40 ?_
    refine lv_astore_n (lv' := [(1, .ref (a 30)), (0, .ref (a 68))]) hC.1 hC.2.1 dX7_restore_41 rfl hl (by decide) rfl (fun ls hl => ?_)
    refine lv_aload_n hC.1 hC.2.1 dX7_restore_42 rfl (lv_at hl 1 rfl) ?_
    refine gf_X7_16 hC hw dX7_restore_43 ?_
    refine lv_aload_n hC.1 hC.2.1 dX7_restore_46 rfl (lv_at hl 0 rfl) ?_
    refine lv_iconst (v := nI 0) hC.1 hC.2.1 dX7_restore_47 (by decide) ?_
    refine q_ald (Wf := XW E a) (v := σ 30 0) 40 rfl (by decide) hC hw (by omega) rfl dX7_restore_48 ?_
    refine pf_X7_32 hC hw dX7_restore_49 (fun H locs hw => ?_)
    have hw : Wst E (XW E a) (sr (sr σ 0 (upd (upd (σ 0) 3 (nI (if 1 ≠ 0 then (1 - 1) else 29))) 4 (nI (kp - 1)))) 0 (upd (upd (upd (σ 0) 3 (nI (if 1 ≠ 0 then (1 - 1) else 29))) 4 (nI (kp - 1))) 0 (σ 30 0))) A s.heap H locs := hw
    have hst_ : sr (sr σ 0 (upd (upd (σ 0) 3 (nI (if 1 ≠ 0 then (1 - 1) else 29))) 4 (nI (kp - 1)))) 0 (upd (upd (upd (σ 0) 3 (nI (if 1 ≠ 0 then (1 - 1) else 29))) 4 (nI (kp - 1))) 0 (σ 30 0)) = sr σ 0 (upd (upd (upd (σ 0) 0 (σ 30 0)) 3 (nI (if 1 ≠ 0 then (1 - 1) else 29))) 4 (nI (kp - 1))) := by
      funext j_ x_
      by_cases e0 : j_ = 0
      · subst e0
        by_cases y0 : x_ = 0
        · subst y0; rfl
        · by_cases y3 : x_ = 3
          · subst y3; rfl
          · by_cases y4 : x_ = 4
            · subst y4; rfl
            · simp [sr, upd, y0, y3, y4]
      · simp only [sr, e0, if_false]
    rw [hst_] at hw
    refine lv_aload_n hC.1 hC.2.1 dX7_restore_52 rfl (lv_at hl 1 rfl) ?_
    refine gf_X7_20 hC hw dX7_restore_53 ?_
    refine lv_aload_n hC.1 hC.2.1 dX7_restore_56 rfl (lv_at hl 0 rfl) ?_
    refine lv_iconst (v := nI 1) hC.1 hC.2.1 dX7_restore_57 (by decide) ?_
    refine q_ald (Wf := XW E a) (v := σ 30 1) 40 rfl (by decide) hC hw (by omega) rfl dX7_restore_58 ?_
    refine pf_X7_37 hC hw dX7_restore_59 (fun H locs hw => ?_)
    have hw : Wst E (XW E a) (sr (sr σ 0 (upd (upd (upd (σ 0) 0 (σ 30 0)) 3 (nI (if 1 ≠ 0 then (1 - 1) else 29))) 4 (nI (kp - 1)))) 0 (upd (upd (upd (upd (σ 0) 0 (σ 30 0)) 3 (nI (if 1 ≠ 0 then (1 - 1) else 29))) 4 (nI (kp - 1))) 1 (σ 30 1))) A s.heap H locs := hw
    have hst_ : sr (sr σ 0 (upd (upd (upd (σ 0) 0 (σ 30 0)) 3 (nI (if 1 ≠ 0 then (1 - 1) else 29))) 4 (nI (kp - 1)))) 0 (upd (upd (upd (upd (σ 0) 0 (σ 30 0)) 3 (nI (if 1 ≠ 0 then (1 - 1) else 29))) 4 (nI (kp - 1))) 1 (σ 30 1)) = sr σ 0 (upd (upd (upd (upd (σ 0) 0 (σ 30 0)) 1 (σ 30 1)) 3 (nI (if 1 ≠ 0 then (1 - 1) else 29))) 4 (nI (kp - 1))) := by
      funext j_ x_
      by_cases e0 : j_ = 0
      · subst e0
        by_cases y0 : x_ = 0
        · subst y0; rfl
        · by_cases y1 : x_ = 1
          · subst y1; rfl
          · by_cases y3 : x_ = 3
            · subst y3; rfl
            · by_cases y4 : x_ = 4
              · subst y4; rfl
              · simp [sr, upd, y0, y1, y3, y4]
      · simp only [sr, e0, if_false]
    rw [hst_] at hw
    refine lv_aload_n hC.1 hC.2.1 dX7_restore_62 rfl (lv_at hl 1 rfl) ?_
    refine gf_X7_20 hC hw dX7_restore_63 ?_
    refine lv_aload_n hC.1 hC.2.1 dX7_restore_66 rfl (lv_at hl 0 rfl) ?_
    refine lv_iconst (v := nI 2) hC.1 hC.2.1 dX7_restore_67 (by decide) ?_
    refine q_ald (Wf := XW E a) (v := σ 30 2) 40 rfl (by decide) hC hw (by omega) rfl dX7_restore_68 ?_
    refine pf_X7_40 hC hw dX7_restore_69 (fun H locs hw => ?_)
    have hw : Wst E (XW E a) (sr (sr σ 0 (upd (upd (upd (upd (σ 0) 0 (σ 30 0)) 1 (σ 30 1)) 3 (nI (if 1 ≠ 0 then (1 - 1) else 29))) 4 (nI (kp - 1)))) 0 (upd (upd (upd (upd (upd (σ 0) 0 (σ 30 0)) 1 (σ 30 1)) 3 (nI (if 1 ≠ 0 then (1 - 1) else 29))) 4 (nI (kp - 1))) 2 (σ 30 2))) A s.heap H locs := hw
    have hst_ : sr (sr σ 0 (upd (upd (upd (upd (σ 0) 0 (σ 30 0)) 1 (σ 30 1)) 3 (nI (if 1 ≠ 0 then (1 - 1) else 29))) 4 (nI (kp - 1)))) 0 (upd (upd (upd (upd (upd (σ 0) 0 (σ 30 0)) 1 (σ 30 1)) 3 (nI (if 1 ≠ 0 then (1 - 1) else 29))) 4 (nI (kp - 1))) 2 (σ 30 2)) = sr σ 0 (upd (upd (upd (upd (upd (σ 0) 0 (σ 30 0)) 1 (σ 30 1)) 2 (σ 30 2)) 3 (nI (if 1 ≠ 0 then (1 - 1) else 29))) 4 (nI (kp - 1))) := by
      funext j_ x_
      by_cases e0 : j_ = 0
      · subst e0
        by_cases y0 : x_ = 0
        · subst y0; rfl
        · by_cases y1 : x_ = 1
          · subst y1; rfl
          · by_cases y2 : x_ = 2
            · subst y2; rfl
            · by_cases y3 : x_ = 3
              · subst y3; rfl
              · by_cases y4 : x_ = 4
                · subst y4; rfl
                · simp [sr, upd, y0, y1, y2, y3, y4]
      · simp only [sr, e0, if_false]
    rw [hst_] at hw
    refine lv_iconst (v := nI 3) hC.1 hC.2.1 dX7_restore_72 (by decide) ?_
    refine lv_istore_n (lv' := [(2, .int (nI 3)), (1, .ref (a 30)), (0, .ref (a 68))]) hC.1 hC.2.1 dX7_restore_73 rfl hl (by decide) rfl (fun ls hl => ?_)
    refine lv_aload_n hC.1 hC.2.1 dX7_restore_74 rfl (lv_at hl 1 rfl) ?_
    refine lv_iload_n hC.1 hC.2.1 dX7_restore_75 rfl (lv_at hl 0 rfl) ?_
    refine lv_aload_n hC.1 hC.2.1 dX7_restore_76 rfl (lv_at hl 2 rfl) ?_
    refine gf_X7_24 hC hw dX7_restore_77 ?_
    refine lv_iconst (v := nI 0) hC.1 hC.2.1 dX7_restore_80 (by decide) ?_
    refine lv_iconst (v := nI 3) hC.1 hC.2.1 dX7_restore_81 (by decide) ?_
    refine q_cpy (sp := 3) (dp := 0) (n := 3) 40 rfl 25 rfl (XW_s15 _) hC hw hl (by omega) (by omega) (by decide) (by decide) ⟨Nat.le_of_ble_eq_true rfl, Nat.le_of_ble_eq_true rfl⟩ wk2_182 dX7_restore_82 (fun H locs hw => ?_)
    have hw : Wst E (XW E a) (sr (sr σ 0 (upd (upd (upd (upd (upd (σ 0) 0 (σ 30 0)) 1 (σ 30 1)) 2 (σ 30 2)) 3 (nI (if 1 ≠ 0 then (1 - 1) else 29))) 4 (nI (kp - 1)))) 15 (va_cpy (σ 30) (σ 15) 3 0 3)) A s.heap H locs := hw
    have hst_ : sr (sr σ 0 (upd (upd (upd (upd (upd (σ 0) 0 (σ 30 0)) 1 (σ 30 1)) 2 (σ 30 2)) 3 (nI (if 1 ≠ 0 then (1 - 1) else 29))) 4 (nI (kp - 1)))) 15 (va_cpy (σ 30) (σ 15) 3 0 3) = sr (sr σ 15 (va_cpy (σ 30) (σ 15) 3 0 3)) 0 (upd (upd (upd (upd (upd (σ 0) 0 (σ 30 0)) 1 (σ 30 1)) 2 (σ 30 2)) 3 (nI (if 1 ≠ 0 then (1 - 1) else 29))) 4 (nI (kp - 1))) := by
      funext j_ x_
      by_cases e0 : j_ = 0
      · subst e0
        by_cases y0 : x_ = 0
        · subst y0; rfl
        · by_cases y1 : x_ = 1
          · subst y1; rfl
          · by_cases y2 : x_ = 2
            · subst y2; rfl
            · by_cases y3 : x_ = 3
              · subst y3; rfl
              · by_cases y4 : x_ = 4
                · subst y4; rfl
                · simp [sr, upd, y0, y1, y2, y3, y4]
      · by_cases e15 : j_ = 15
        · subst e15; rfl
        · simp only [sr, e0, e15, if_false]
    rw [hst_] at hw
    refine lv_iinc (v := nI (3 + 3)) (lv' := [(2, .int (nI (3 + 3))), (1, .ref (a 30)), (0, .ref (a 68))]) hC.1 hC.2.1 dX7_restore_85 hl (k := 0) rfl (nI_add _ _) (by decide) rfl (fun ls hl => ?_)
    refine lv_iconst (v := nI 0) hC.1 hC.2.1 dX7_restore_88 (by decide) ?_
    refine lv_istore_n (lv' := [(3, .int (nI 0)), (2, .int (nI (3 + 3))), (1, .ref (a 30)), (0, .ref (a 68))]) hC.1 hC.2.1 dX7_restore_89 rfl hl (by decide) rfl (fun ls hl => ?_)
    have L90_2 : ∀ (n : Nat), ∀ (h : Nat), (h ≤ 10) → (10 - h) < n → ∀ (H : Heap) (locs : List Loc) (ls : Array Slot), Wst E (XW E a) (sr (sr (sr σ 4 (upr (σ 30) h (σ 4))) 15 (va_cpy (σ 30) (σ 15) 3 0 3)) 0 (upd (upd (upd (upd (upd (σ 0) 0 (σ 30 0)) 1 (σ 30 1)) 2 (σ 30 2)) 3 (nI (if 1 ≠ 0 then (1 - 1) else 29))) 4 (nI (kp - 1)))) A s.heap H locs → lv_has ls 4 [(0, .ref (a 68)), (1, .ref (a 30)), (2, .int (nI (3 + 3))), (3, .int (nI h))] → W p l e ({ frames := 1, cells := 0, slots := 0, locals := 24 }) s m args below meth c H locs 0 0 Q (F0 m 90 ls []) := by
      intro n
      induction n with
      | zero => intro h hh hn; exact absurd hn (Nat.not_lt_zero _)
      | succ n ih90 =>
        intro h hh hn90 H locs ls hw hl
        refine lv_iload_n hC.1 hC.2.1 dX7_restore_90 rfl (lv_at hl 3 rfl) ?_
        refine lv_bipush (v := nI 10) hC.1 hC.2.1 dX7_restore_91 (by decide) ?_
        refine q_cmpge hC 125 (cNle (by omega) (by omega)) dX7_restore_93 (by decide) (fun (c4 : 10 ≤ h) => ?_) (fun (c4 : h < 10) => ?_)
        · have hh9 : h = 10 := by omega
          rw [hh9] at hw
          refine lv_iinc (v := nI (3 + 3 + 10)) (lv' := [(2, .int (nI (3 + 3 + 10))), (0, .ref (a 68)), (1, .ref (a 30)), (3, .int (nI h))]) hC.1 hC.2.1 dX7_restore_125 hl (k := 2) rfl (nI_add _ _) (by decide) rfl (fun ls hl => ?_)
          refine lv_aload_n hC.1 hC.2.1 dX7_restore_128 rfl (lv_at hl 2 rfl) ?_
          refine lv_iload_n hC.1 hC.2.1 dX7_restore_129 rfl (lv_at hl 0 rfl) ?_
          refine lv_aload_n hC.1 hC.2.1 dX7_restore_130 rfl (lv_at hl 1 rfl) ?_
          refine gf_X7_20 hC hw dX7_restore_131 ?_
          refine gf_X7_53 hC hw dX7_restore_134 ?_
          refine lv_iconst (v := nI 0) hC.1 hC.2.1 dX7_restore_137 (by decide) ?_
          refine lv_bipush (v := nI 24) hC.1 hC.2.1 dX7_restore_138 (by decide) ?_
          refine q_cpy (sp := (3 + 3 + 10)) (dp := 0) (n := 24) 40 rfl 21 rfl (XW_s11 _) hC hw hl (by omega) (by omega) (by decide) (by decide) ⟨Nat.le_of_ble_eq_true rfl, Nat.le_of_ble_eq_true rfl⟩ wk2_182 dX7_restore_140 (fun H locs hw => ?_)
          have hw : Wst E (XW E a) (sr (sr (sr (sr σ 4 (upr (σ 30) 10 (σ 4))) 15 (va_cpy (σ 30) (σ 15) 3 0 3)) 0 (upd (upd (upd (upd (upd (σ 0) 0 (σ 30 0)) 1 (σ 30 1)) 2 (σ 30 2)) 3 (nI (if 1 ≠ 0 then (1 - 1) else 29))) 4 (nI (kp - 1)))) 11 (va_cpy (σ 30) (σ 11) (3 + 3 + 10) 0 24)) A s.heap H locs := hw
          have hst_ : sr (sr (sr (sr σ 4 (upr (σ 30) 10 (σ 4))) 15 (va_cpy (σ 30) (σ 15) 3 0 3)) 0 (upd (upd (upd (upd (upd (σ 0) 0 (σ 30 0)) 1 (σ 30 1)) 2 (σ 30 2)) 3 (nI (if 1 ≠ 0 then (1 - 1) else 29))) 4 (nI (kp - 1)))) 11 (va_cpy (σ 30) (σ 11) (3 + 3 + 10) 0 24) = sr (sr (sr (sr σ 4 (upr (σ 30) 10 (σ 4))) 11 (va_cpy (σ 30) (σ 11) (3 + 3 + 10) 0 24)) 15 (va_cpy (σ 30) (σ 15) 3 0 3)) 0 (upd (upd (upd (upd (upd (σ 0) 0 (σ 30 0)) 1 (σ 30 1)) 2 (σ 30 2)) 3 (nI (if 1 ≠ 0 then (1 - 1) else 29))) 4 (nI (kp - 1))) := by
            funext j_ x_
            by_cases e0 : j_ = 0
            · subst e0
              by_cases y0 : x_ = 0
              · subst y0; rfl
              · by_cases y1 : x_ = 1
                · subst y1; rfl
                · by_cases y2 : x_ = 2
                  · subst y2; rfl
                  · by_cases y3 : x_ = 3
                    · subst y3; rfl
                    · by_cases y4 : x_ = 4
                      · subst y4; rfl
                      · simp [sr, upd, y0, y1, y2, y3, y4]
            · by_cases e4 : j_ = 4
              · subst e4; rfl
              · by_cases e11 : j_ = 11
                · subst e11; rfl
                · by_cases e15 : j_ = 15
                  · subst e15; rfl
                  · simp only [sr, e0, e4, e11, e15, if_false]
          rw [hst_] at hw
          refine lv_aload_n hC.1 hC.2.1 dX7_restore_143 rfl (lv_at hl 2 rfl) ?_
          refine lv_iload_n hC.1 hC.2.1 dX7_restore_144 rfl (lv_at hl 0 rfl) ?_
          refine lv_bipush (v := nI 24) hC.1 hC.2.1 dX7_restore_145 (by decide) ?_
          refine q_addN hC dX7_restore_147 ?_
          refine lv_aload_n hC.1 hC.2.1 dX7_restore_148 rfl (lv_at hl 1 rfl) ?_
          refine gf_X7_20 hC hw dX7_restore_149 ?_
          refine gf_X7_56 hC hw dX7_restore_152 ?_
          refine lv_iconst (v := nI 0) hC.1 hC.2.1 dX7_restore_155 (by decide) ?_
          refine lv_bipush (v := nI 24) hC.1 hC.2.1 dX7_restore_156 (by decide) ?_
          refine q_cpy (sp := ((3 + 3 + 10) + 24)) (dp := 0) (n := 24) 40 rfl 22 rfl (XW_s12 _) hC hw hl (by omega) (by omega) (by decide) (by decide) ⟨Nat.le_of_ble_eq_true rfl, Nat.le_of_ble_eq_true rfl⟩ wk2_182 dX7_restore_158 (fun H locs hw => ?_)
          have hw : Wst E (XW E a) (sr (sr (sr (sr (sr σ 4 (upr (σ 30) 10 (σ 4))) 11 (va_cpy (σ 30) (σ 11) (3 + 3 + 10) 0 24)) 15 (va_cpy (σ 30) (σ 15) 3 0 3)) 0 (upd (upd (upd (upd (upd (σ 0) 0 (σ 30 0)) 1 (σ 30 1)) 2 (σ 30 2)) 3 (nI (if 1 ≠ 0 then (1 - 1) else 29))) 4 (nI (kp - 1)))) 12 (va_cpy (σ 30) (σ 12) ((3 + 3 + 10) + 24) 0 24)) A s.heap H locs := hw
          have hst_ : sr (sr (sr (sr (sr σ 4 (upr (σ 30) 10 (σ 4))) 11 (va_cpy (σ 30) (σ 11) (3 + 3 + 10) 0 24)) 15 (va_cpy (σ 30) (σ 15) 3 0 3)) 0 (upd (upd (upd (upd (upd (σ 0) 0 (σ 30 0)) 1 (σ 30 1)) 2 (σ 30 2)) 3 (nI (if 1 ≠ 0 then (1 - 1) else 29))) 4 (nI (kp - 1)))) 12 (va_cpy (σ 30) (σ 12) ((3 + 3 + 10) + 24) 0 24) = sr (sr (sr (sr (sr σ 4 (upr (σ 30) 10 (σ 4))) 11 (va_cpy (σ 30) (σ 11) (3 + 3 + 10) 0 24)) 12 (va_cpy (σ 30) (σ 12) ((3 + 3 + 10) + 24) 0 24)) 15 (va_cpy (σ 30) (σ 15) 3 0 3)) 0 (upd (upd (upd (upd (upd (σ 0) 0 (σ 30 0)) 1 (σ 30 1)) 2 (σ 30 2)) 3 (nI (if 1 ≠ 0 then (1 - 1) else 29))) 4 (nI (kp - 1))) := by
            funext j_ x_
            by_cases e0 : j_ = 0
            · subst e0
              by_cases y0 : x_ = 0
              · subst y0; rfl
              · by_cases y1 : x_ = 1
                · subst y1; rfl
                · by_cases y2 : x_ = 2
                  · subst y2; rfl
                  · by_cases y3 : x_ = 3
                    · subst y3; rfl
                    · by_cases y4 : x_ = 4
                      · subst y4; rfl
                      · simp [sr, upd, y0, y1, y2, y3, y4]
            · by_cases e4 : j_ = 4
              · subst e4; rfl
              · by_cases e11 : j_ = 11
                · subst e11; rfl
                · by_cases e12 : j_ = 12
                  · subst e12; rfl
                  · by_cases e15 : j_ = 15
                    · subst e15; rfl
                    · simp only [sr, e0, e4, e11, e12, e15, if_false]
          rw [hst_] at hw
          refine lv_aload_n hC.1 hC.2.1 dX7_restore_161 rfl (lv_at hl 2 rfl) ?_
          refine lv_iload_n hC.1 hC.2.1 dX7_restore_162 rfl (lv_at hl 0 rfl) ?_
          refine lv_bipush (v := nI 48) hC.1 hC.2.1 dX7_restore_163 (by decide) ?_
          refine q_addN hC dX7_restore_165 ?_
          refine lv_aload_n hC.1 hC.2.1 dX7_restore_166 rfl (lv_at hl 1 rfl) ?_
          refine gf_X7_20 hC hw dX7_restore_167 ?_
          refine gf_X7_59 hC hw dX7_restore_170 ?_
          refine lv_iconst (v := nI 0) hC.1 hC.2.1 dX7_restore_173 (by decide) ?_
          refine lv_bipush (v := nI 24) hC.1 hC.2.1 dX7_restore_174 (by decide) ?_
          refine q_cpy (sp := ((3 + 3 + 10) + 48)) (dp := 0) (n := 24) 40 rfl 23 rfl (XW_s13 _) hC hw hl (by omega) (by omega) (by decide) (by decide) ⟨Nat.le_of_ble_eq_true rfl, Nat.le_of_ble_eq_true rfl⟩ wk2_182 dX7_restore_176 (fun H locs hw => ?_)
          have hw : Wst E (XW E a) (sr (sr (sr (sr (sr (sr σ 4 (upr (σ 30) 10 (σ 4))) 11 (va_cpy (σ 30) (σ 11) (3 + 3 + 10) 0 24)) 12 (va_cpy (σ 30) (σ 12) ((3 + 3 + 10) + 24) 0 24)) 15 (va_cpy (σ 30) (σ 15) 3 0 3)) 0 (upd (upd (upd (upd (upd (σ 0) 0 (σ 30 0)) 1 (σ 30 1)) 2 (σ 30 2)) 3 (nI (if 1 ≠ 0 then (1 - 1) else 29))) 4 (nI (kp - 1)))) 13 (va_cpy (σ 30) (σ 13) ((3 + 3 + 10) + 48) 0 24)) A s.heap H locs := hw
          have hst_ : sr (sr (sr (sr (sr (sr σ 4 (upr (σ 30) 10 (σ 4))) 11 (va_cpy (σ 30) (σ 11) (3 + 3 + 10) 0 24)) 12 (va_cpy (σ 30) (σ 12) ((3 + 3 + 10) + 24) 0 24)) 15 (va_cpy (σ 30) (σ 15) 3 0 3)) 0 (upd (upd (upd (upd (upd (σ 0) 0 (σ 30 0)) 1 (σ 30 1)) 2 (σ 30 2)) 3 (nI (if 1 ≠ 0 then (1 - 1) else 29))) 4 (nI (kp - 1)))) 13 (va_cpy (σ 30) (σ 13) ((3 + 3 + 10) + 48) 0 24) = sr (sr (sr (sr (sr (sr σ 4 (upr (σ 30) 10 (σ 4))) 11 (va_cpy (σ 30) (σ 11) (3 + 3 + 10) 0 24)) 12 (va_cpy (σ 30) (σ 12) ((3 + 3 + 10) + 24) 0 24)) 13 (va_cpy (σ 30) (σ 13) ((3 + 3 + 10) + 48) 0 24)) 15 (va_cpy (σ 30) (σ 15) 3 0 3)) 0 (upd (upd (upd (upd (upd (σ 0) 0 (σ 30 0)) 1 (σ 30 1)) 2 (σ 30 2)) 3 (nI (if 1 ≠ 0 then (1 - 1) else 29))) 4 (nI (kp - 1))) := by
            funext j_ x_
            by_cases e0 : j_ = 0
            · subst e0
              by_cases y0 : x_ = 0
              · subst y0; rfl
              · by_cases y1 : x_ = 1
                · subst y1; rfl
                · by_cases y2 : x_ = 2
                  · subst y2; rfl
                  · by_cases y3 : x_ = 3
                    · subst y3; rfl
                    · by_cases y4 : x_ = 4
                      · subst y4; rfl
                      · simp [sr, upd, y0, y1, y2, y3, y4]
            · by_cases e4 : j_ = 4
              · subst e4; rfl
              · by_cases e11 : j_ = 11
                · subst e11; rfl
                · by_cases e12 : j_ = 12
                  · subst e12; rfl
                  · by_cases e13 : j_ = 13
                    · subst e13; rfl
                    · by_cases e15 : j_ = 15
                      · subst e15; rfl
                      · simp only [sr, e0, e4, e11, e12, e13, e15, if_false]
          rw [hst_] at hw
          refine lv_aload_n hC.1 hC.2.1 dX7_restore_179 rfl (lv_at hl 2 rfl) ?_
          refine lv_iload_n hC.1 hC.2.1 dX7_restore_180 rfl (lv_at hl 0 rfl) ?_
          refine lv_bipush (v := nI 72) hC.1 hC.2.1 dX7_restore_181 (by decide) ?_
          refine q_addN hC dX7_restore_183 ?_
          refine lv_aload_n hC.1 hC.2.1 dX7_restore_184 rfl (lv_at hl 1 rfl) ?_
          refine gf_X7_20 hC hw dX7_restore_185 ?_
          refine gf_X7_62 hC hw dX7_restore_188 ?_
          refine lv_iconst (v := nI 0) hC.1 hC.2.1 dX7_restore_191 (by decide) ?_
          refine lv_bipush (v := nI 24) hC.1 hC.2.1 dX7_restore_192 (by decide) ?_
          refine q_cpy (sp := ((3 + 3 + 10) + 72)) (dp := 0) (n := 24) 40 rfl 24 rfl (XW_s14 _) hC hw hl (by omega) (by omega) (by decide) (by decide) ⟨Nat.le_of_ble_eq_true rfl, Nat.le_of_ble_eq_true rfl⟩ wk2_182 dX7_restore_194 (fun H locs hw => ?_)
          have hw : Wst E (XW E a) (sr (sr (sr (sr (sr (sr (sr σ 4 (upr (σ 30) 10 (σ 4))) 11 (va_cpy (σ 30) (σ 11) (3 + 3 + 10) 0 24)) 12 (va_cpy (σ 30) (σ 12) ((3 + 3 + 10) + 24) 0 24)) 13 (va_cpy (σ 30) (σ 13) ((3 + 3 + 10) + 48) 0 24)) 15 (va_cpy (σ 30) (σ 15) 3 0 3)) 0 (upd (upd (upd (upd (upd (σ 0) 0 (σ 30 0)) 1 (σ 30 1)) 2 (σ 30 2)) 3 (nI (if 1 ≠ 0 then (1 - 1) else 29))) 4 (nI (kp - 1)))) 14 (va_cpy (σ 30) (σ 14) ((3 + 3 + 10) + 72) 0 24)) A s.heap H locs := hw
          have hst_ : sr (sr (sr (sr (sr (sr (sr σ 4 (upr (σ 30) 10 (σ 4))) 11 (va_cpy (σ 30) (σ 11) (3 + 3 + 10) 0 24)) 12 (va_cpy (σ 30) (σ 12) ((3 + 3 + 10) + 24) 0 24)) 13 (va_cpy (σ 30) (σ 13) ((3 + 3 + 10) + 48) 0 24)) 15 (va_cpy (σ 30) (σ 15) 3 0 3)) 0 (upd (upd (upd (upd (upd (σ 0) 0 (σ 30 0)) 1 (σ 30 1)) 2 (σ 30 2)) 3 (nI (if 1 ≠ 0 then (1 - 1) else 29))) 4 (nI (kp - 1)))) 14 (va_cpy (σ 30) (σ 14) ((3 + 3 + 10) + 72) 0 24) = sr (sr (sr (sr (sr (sr (sr σ 4 (upr (σ 30) 10 (σ 4))) 11 (va_cpy (σ 30) (σ 11) (3 + 3 + 10) 0 24)) 12 (va_cpy (σ 30) (σ 12) ((3 + 3 + 10) + 24) 0 24)) 13 (va_cpy (σ 30) (σ 13) ((3 + 3 + 10) + 48) 0 24)) 14 (va_cpy (σ 30) (σ 14) ((3 + 3 + 10) + 72) 0 24)) 15 (va_cpy (σ 30) (σ 15) 3 0 3)) 0 (upd (upd (upd (upd (upd (σ 0) 0 (σ 30 0)) 1 (σ 30 1)) 2 (σ 30 2)) 3 (nI (if 1 ≠ 0 then (1 - 1) else 29))) 4 (nI (kp - 1))) := by
            funext j_ x_
            by_cases e0 : j_ = 0
            · subst e0
              by_cases y0 : x_ = 0
              · subst y0; rfl
              · by_cases y1 : x_ = 1
                · subst y1; rfl
                · by_cases y2 : x_ = 2
                  · subst y2; rfl
                  · by_cases y3 : x_ = 3
                    · subst y3; rfl
                    · by_cases y4 : x_ = 4
                      · subst y4; rfl
                      · simp [sr, upd, y0, y1, y2, y3, y4]
            · by_cases e4 : j_ = 4
              · subst e4; rfl
              · by_cases e11 : j_ = 11
                · subst e11; rfl
                · by_cases e12 : j_ = 12
                  · subst e12; rfl
                  · by_cases e13 : j_ = 13
                    · subst e13; rfl
                    · by_cases e14 : j_ = 14
                      · subst e14; rfl
                      · by_cases e15 : j_ = 15
                        · subst e15; rfl
                        · simp only [sr, e0, e4, e11, e12, e13, e14, e15, if_false]
          rw [hst_] at hw
          refine hret _ _ _ _ _ hw ?_ dX7_restore_197
          exact rfl
        · refine lv_aload_n hC.1 hC.2.1 dX7_restore_96 rfl (lv_at hl 0 rfl) ?_
          refine gf_X7_16 hC hw dX7_restore_97 ?_
          refine gf_X7_49 hC hw dX7_restore_100 ?_
          refine lv_iload_n hC.1 hC.2.1 dX7_restore_103 rfl (lv_at hl 3 rfl) ?_
          refine lv_aload_n hC.1 hC.2.1 dX7_restore_104 rfl (lv_at hl 1 rfl) ?_
          refine lv_iload_n hC.1 hC.2.1 dX7_restore_105 rfl (lv_at hl 2 rfl) ?_
          refine lv_iload_n hC.1 hC.2.1 dX7_restore_106 rfl (lv_at hl 3 rfl) ?_
          refine q_addN hC dX7_restore_107 ?_
          refine q_ald (Wf := XW E a) (v := σ 30 ((3 + 3) + h)) 40 rfl (by decide) hC hw (by omega) rfl dX7_restore_108 ?_
          refine lv_iconst (v := nI 1) hC.1 hC.2.1 dX7_restore_109 (by decide) ?_
          have J118_6 : ∀ (w5 : Int32), w5 = (if (σ 30 ((3 + 3) + h)) = 1 then (1 : Int32) else 0) → ∀ (H : Heap) (locs : List Loc) (ls : Array Slot), Wst E (XW E a) (sr (sr (sr σ 4 (upr (σ 30) h (σ 4))) 15 (va_cpy (σ 30) (σ 15) 3 0 3)) 0 (upd (upd (upd (upd (upd (σ 0) 0 (σ 30 0)) 1 (σ 30 1)) 2 (σ 30 2)) 3 (nI (if 1 ≠ 0 then (1 - 1) else 29))) 4 (nI (kp - 1)))) A s.heap H locs → lv_has ls 4 [(0, .ref (a 68)), (1, .ref (a 30)), (2, .int (nI (3 + 3))), (3, .int (nI h))] → W p l e ({ frames := 1, cells := 0, slots := 0, locals := 24 }) s m args below meth c H locs 0 0 Q (F0 m 118 ls [.int (w5), .int (nI h), .ref (a 4)]) := by
            intro w5 e6 H locs ls hw hl
            subst e6
            refine as_X4 hC hw (by omega) vz_B dX7_restore_118 (fun H locs hw => ?_)
            have hw : Wst E (XW E a) (sr (sr (sr (sr σ 4 (upr (σ 30) h (σ 4))) 15 (va_cpy (σ 30) (σ 15) 3 0 3)) 0 (upd (upd (upd (upd (upd (σ 0) 0 (σ 30 0)) 1 (σ 30 1)) 2 (σ 30 2)) 3 (nI (if 1 ≠ 0 then (1 - 1) else 29))) 4 (nI (kp - 1)))) 4 (upd (upr (σ 30) h (σ 4)) h (if (σ 30 ((3 + 3) + h)) = 1 then (1 : Int32) else 0))) A s.heap H locs := hw
            have hst_ : sr (sr (sr (sr σ 4 (upr (σ 30) h (σ 4))) 15 (va_cpy (σ 30) (σ 15) 3 0 3)) 0 (upd (upd (upd (upd (upd (σ 0) 0 (σ 30 0)) 1 (σ 30 1)) 2 (σ 30 2)) 3 (nI (if 1 ≠ 0 then (1 - 1) else 29))) 4 (nI (kp - 1)))) 4 (upd (upr (σ 30) h (σ 4)) h (if (σ 30 ((3 + 3) + h)) = 1 then (1 : Int32) else 0)) = sr (sr (sr σ 4 (upd (upr (σ 30) h (σ 4)) h (if (σ 30 ((3 + 3) + h)) = 1 then (1 : Int32) else 0))) 15 (va_cpy (σ 30) (σ 15) 3 0 3)) 0 (upd (upd (upd (upd (upd (σ 0) 0 (σ 30 0)) 1 (σ 30 1)) 2 (σ 30 2)) 3 (nI (if 1 ≠ 0 then (1 - 1) else 29))) 4 (nI (kp - 1))) := by
              funext j_ x_
              by_cases e0 : j_ = 0
              · subst e0
                by_cases y0 : x_ = 0
                · subst y0; rfl
                · by_cases y1 : x_ = 1
                  · subst y1; rfl
                  · by_cases y2 : x_ = 2
                    · subst y2; rfl
                    · by_cases y3 : x_ = 3
                      · subst y3; rfl
                      · by_cases y4 : x_ = 4
                        · subst y4; rfl
                        · simp [sr, upd, y0, y1, y2, y3, y4]
              · by_cases e4 : j_ = 4
                · subst e4; rfl
                · by_cases e15 : j_ = 15
                  · subst e15; rfl
                  · simp only [sr, e0, e4, e15, if_false]
            rw [hst_] at hw
            refine lv_iinc (v := nI (h + 1)) (lv' := [(3, .int (nI (h + 1))), (0, .ref (a 68)), (1, .ref (a 30)), (2, .int (nI (3 + 3)))]) hC.1 hC.2.1 dX7_restore_119 hl (k := 3) rfl (nI_add _ _) (by decide) rfl (fun ls hl => ?_)
            refine lv_goto (tgt := 90) hC.1 hC.2.1 dX7_restore_122 (by decide) ?_
            rw [upr_s] at hw
            exact ih90 (h + 1) (by omega) (by omega) _ _ _ hw (lv_sub hl [1, 2, 3, 0] rfl)
          refine q_cmpne hC 117 cI dX7_restore_110 (by decide) (fun (c7 : ¬ ((σ 30 ((3 + 3) + h)) = 1)) => ?_) (fun (c7 : (σ 30 ((3 + 3) + h)) = 1) => ?_)
          · refine lv_iconst (v := nI 0) hC.1 hC.2.1 dX7_restore_117 (by decide) ?_
            exact J118_6 _ (if_neg c7).symm _ _ _ hw (lv_sub hl [0, 1, 2, 3] rfl)
          · refine lv_iconst (v := nI 1) hC.1 hC.2.1 dX7_restore_113 (by decide) ?_
            refine lv_goto (tgt := 118) hC.1 hC.2.1 dX7_restore_114 (by decide) ?_
            exact J118_6 _ (if_pos c7).symm _ _ _ hw (lv_sub hl [0, 1, 2, 3] rfl)
    have hst_ : sr (sr σ 15 (va_cpy (σ 30) (σ 15) 3 0 3)) 0 (upd (upd (upd (upd (upd (σ 0) 0 (σ 30 0)) 1 (σ 30 1)) 2 (σ 30 2)) 3 (nI (if 1 ≠ 0 then (1 - 1) else 29))) 4 (nI (kp - 1))) = sr (sr (sr σ 4 (upr (σ 30) 0 (σ 4))) 15 (va_cpy (σ 30) (σ 15) 3 0 3)) 0 (upd (upd (upd (upd (upd (σ 0) 0 (σ 30 0)) 1 (σ 30 1)) 2 (σ 30 2)) 3 (nI (if 1 ≠ 0 then (1 - 1) else 29))) 4 (nI (kp - 1))) := by
      funext j_ x_
      by_cases e0 : j_ = 0
      · subst e0
        by_cases y0 : x_ = 0
        · subst y0; rfl
        · by_cases y1 : x_ = 1
          · subst y1; rfl
          · by_cases y2 : x_ = 2
            · subst y2; rfl
            · by_cases y3 : x_ = 3
              · subst y3; rfl
              · by_cases y4 : x_ = 4
                · subst y4; rfl
                · simp [sr, upd, y0, y1, y2, y3, y4]
      · by_cases e4 : j_ = 4
        · subst e4; show σ 4 x_ = upr (σ 30) 0 (σ 4) x_; rw [upr_0]
        · by_cases e15 : j_ = 15
          · subst e15; rfl
          · simp only [sr, e0, e4, e15, if_false]
    rw [hst_] at hw
    exact L90_2 _ 0 (by omega) (Nat.lt_succ_self _) _ _ _ hw (lv_sub hl [3, 2, 1, 0] rfl)
  refine q_ifne hC 13 (cN0 (by omega)) dX7_restore_5 (by decide) (fun (c8 : 1 ≠ 0) => ?_) (fun (c8 : 1 = 0) => ?_)
  · refine lv_aload_n hC.1 hC.2.1 dX7_restore_13 rfl (lv_at hl 0 rfl) ?_
    refine gf_X7_28 (v := nI 1) hC hw hnx dX7_restore_14 ?_
    refine lv_iconst (v := nI 1) hC.1 hC.2.1 dX7_restore_17 (by decide) ?_
    refine q_subN hC (by omega) dX7_restore_18 ?_
    exact J19_2 _ (by (rw [if_pos c8]) <;> rfl) _ _ _ hw (lv_sub hl [0] rfl)
  · refine lv_bipush (v := nI 29) hC.1 hC.2.1 dX7_restore_8 (by decide) ?_
    refine lv_goto (tgt := 19) hC.1 hC.2.1 dX7_restore_10 (by decide) ?_
    exact J19_2 _ (by (rw [if_neg (fun q => q c8)]) <;> rfl) _ _ _ hw (lv_sub hl [0] rfl)
set_option maxHeartbeats 4000000 in
set_option maxRecDepth 100000 in
theorem tX7_restore_k2 (l : Launch) (E : EV) (a : Nat → Nat) (σ : St) (kp : Nat) (hnx : σ 0 3 = nI 2) (hkp : σ 0 4 = nI kp) (hk30 : kp ≤ 30) (hk1 : 1 ≤ kp) : MV l E (XW E a) yX7_restore (Cond.code yX7_restore cX7_restore 4 none) ({ frames := 1, cells := 0, slots := 0, locals := 24 }) [.ref (a 68)] σ (fun u_ => u_ = sr (sr (sr (sr (sr (sr (sr σ 4 (upr (σ 31) 10 (σ 4))) 11 (va_cpy (σ 31) (σ 11) 16 0 24)) 12 (va_cpy (σ 31) (σ 12) 40 0 24)) 13 (va_cpy (σ 31) (σ 13) 64 0 24)) 14 (va_cpy (σ 31) (σ 14) 88 0 24)) 15 (va_cpy (σ 31) (σ 15) 3 0 3)) 0 (upd (upd (upd (upd (upd (σ 0) 0 ((σ 31) 0)) 1 ((σ 31) 1)) 2 ((σ 31) 2)) 3 (nI (if 2 ≠ 0 then 2 - 1 else 29))) 4 (nI (kp - 1)))) := by
  refine MV.mk (by decide +kernel) (Nat.le_of_ble_eq_true rfl) ?_
  intro p e s m args below meth c ls A Q hret hC hw hl
  have hC : Cxt E p s m args meth c cX7_restore 4 none RX7 A := hC
  have hl : lv_has ls 4 [(0, .ref (a 68))] := hl
  refine lv_aload_n hC.1 hC.2.1 dX7_restore_0 rfl (lv_at hl 0 rfl) ?_
  refine lv_aload_n hC.1 hC.2.1 dX7_restore_1 rfl (lv_at hl 0 rfl) ?_
  refine gf_X7_28 (v := nI 2) hC hw hnx dX7_restore_2 ?_
  have J19_2 : ∀ (w1 : Nat), w1 = (if 2 ≠ 0 then (2 - 1) else 29) → ∀ (H : Heap) (locs : List Loc) (ls : Array Slot), Wst E (XW E a) (σ) A s.heap H locs → lv_has ls 4 [(0, .ref (a 68))] → W p l e ({ frames := 1, cells := 0, slots := 0, locals := 24 }) s m args below meth c H locs 0 0 Q (F0 m 19 ls [.int (nI w1), .ref (a 68)]) := by
    intro w1 e2 H locs ls hw hl
    subst e2
    refine pf_X7_28 hC hw dX7_restore_19 (fun H locs hw => ?_)
    have hw : Wst E (XW E a) (sr σ 0 (upd (σ 0) 3 (nI (if 2 ≠ 0 then (2 - 1) else 29)))) A s.heap H locs := hw
    refine lv_aload_n hC.1 hC.2.1 dX7_restore_22 rfl (lv_at hl 0 rfl) ?_
    refine lv_dup hC.1 hC.2.1 dX7_restore_23 rfl ?_
    refine gf_X7_65 (v := nI kp) hC hw hkp dX7_restore_24 ?_
    refine lv_iconst (v := nI 1) hC.1 hC.2.1 dX7_restore_27 (by decide) ?_
    refine q_subN hC (by omega) dX7_restore_28 ?_
    refine pf_X7_65 hC hw dX7_restore_29 (fun H locs hw => ?_)
    have hw : Wst E (XW E a) (sr (sr σ 0 (upd (σ 0) 3 (nI (if 2 ≠ 0 then (2 - 1) else 29)))) 0 (upd (upd (σ 0) 3 (nI (if 2 ≠ 0 then (2 - 1) else 29))) 4 (nI (kp - 1)))) A s.heap H locs := hw
    have hst_ : sr (sr σ 0 (upd (σ 0) 3 (nI (if 2 ≠ 0 then (2 - 1) else 29)))) 0 (upd (upd (σ 0) 3 (nI (if 2 ≠ 0 then (2 - 1) else 29))) 4 (nI (kp - 1))) = sr σ 0 (upd (upd (σ 0) 3 (nI (if 2 ≠ 0 then (2 - 1) else 29))) 4 (nI (kp - 1))) := by
      funext j_ x_
      by_cases e0 : j_ = 0
      · subst e0
        by_cases y3 : x_ = 3
        · subst y3; rfl
        · by_cases y4 : x_ = 4
          · subst y4; rfl
          · simp [sr, upd, y3, y4]
      · simp only [sr, e0, if_false]
    rw [hst_] at hw
    refine lv_aload_n hC.1 hC.2.1 dX7_restore_32 rfl (lv_at hl 0 rfl) ?_
    refine gf_X7_13 hC hw dX7_restore_33 ?_
    refine lv_aload_n hC.1 hC.2.1 dX7_restore_36 rfl (lv_at hl 0 rfl) ?_
    refine gf_X7_28 (v := nI (if 2 ≠ 0 then (2 - 1) else 29)) hC hw rfl dX7_restore_37 ?_
    refine q_top (y := nI 1) rfl ?_
    refine q_aald hC hw (i := 1) (by decide) dX7_restore_40 ?_
    refine lv_astore_n (lv' := [(1, .ref (a 31)), (0, .ref (a 68))]) hC.1 hC.2.1 dX7_restore_41 rfl hl (by decide) rfl (fun ls hl => ?_)
    refine lv_aload_n hC.1 hC.2.1 dX7_restore_42 rfl (lv_at hl 1 rfl) ?_
    refine gf_X7_16 hC hw dX7_restore_43 ?_
    refine lv_aload_n hC.1 hC.2.1 dX7_restore_46 rfl (lv_at hl 0 rfl) ?_
    refine lv_iconst (v := nI 0) hC.1 hC.2.1 dX7_restore_47 (by decide) ?_
    refine q_ald (Wf := XW E a) (v := σ 31 0) 41 rfl (by decide) hC hw (by omega) rfl dX7_restore_48 ?_
    refine pf_X7_32 hC hw dX7_restore_49 (fun H locs hw => ?_)
    have hw : Wst E (XW E a) (sr (sr σ 0 (upd (upd (σ 0) 3 (nI (if 2 ≠ 0 then (2 - 1) else 29))) 4 (nI (kp - 1)))) 0 (upd (upd (upd (σ 0) 3 (nI (if 2 ≠ 0 then (2 - 1) else 29))) 4 (nI (kp - 1))) 0 (σ 31 0))) A s.heap H locs := hw
    have hst_ : sr (sr σ 0 (upd (upd (σ 0) 3 (nI (if 2 ≠ 0 then (2 - 1) else 29))) 4 (nI (kp - 1)))) 0 (upd (upd (upd (σ 0) 3 (nI (if 2 ≠ 0 then (2 - 1) else 29))) 4 (nI (kp - 1))) 0 (σ 31 0)) = sr σ 0 (upd (upd (upd (σ 0) 0 (σ 31 0)) 3 (nI (if 2 ≠ 0 then (2 - 1) else 29))) 4 (nI (kp - 1))) := by
      funext j_ x_
      by_cases e0 : j_ = 0
      · subst e0
        by_cases y0 : x_ = 0
        · subst y0; rfl
        · by_cases y3 : x_ = 3
          · subst y3; rfl
          · by_cases y4 : x_ = 4
            · subst y4; rfl
            · simp [sr, upd, y0, y3, y4]
      · simp only [sr, e0, if_false]
    rw [hst_] at hw
    refine lv_aload_n hC.1 hC.2.1 dX7_restore_52 rfl (lv_at hl 1 rfl) ?_
    refine gf_X7_20 hC hw dX7_restore_53 ?_
    refine lv_aload_n hC.1 hC.2.1 dX7_restore_56 rfl (lv_at hl 0 rfl) ?_
    refine lv_iconst (v := nI 1) hC.1 hC.2.1 dX7_restore_57 (by decide) ?_
    refine q_ald (Wf := XW E a) (v := σ 31 1) 41 rfl (by decide) hC hw (by omega) rfl dX7_restore_58 ?_
    refine pf_X7_37 hC hw dX7_restore_59 (fun H locs hw => ?_)
    have hw : Wst E (XW E a) (sr (sr σ 0 (upd (upd (upd (σ 0) 0 (σ 31 0)) 3 (nI (if 2 ≠ 0 then (2 - 1) else 29))) 4 (nI (kp - 1)))) 0 (upd (upd (upd (upd (σ 0) 0 (σ 31 0)) 3 (nI (if 2 ≠ 0 then (2 - 1) else 29))) 4 (nI (kp - 1))) 1 (σ 31 1))) A s.heap H locs := hw
    have hst_ : sr (sr σ 0 (upd (upd (upd (σ 0) 0 (σ 31 0)) 3 (nI (if 2 ≠ 0 then (2 - 1) else 29))) 4 (nI (kp - 1)))) 0 (upd (upd (upd (upd (σ 0) 0 (σ 31 0)) 3 (nI (if 2 ≠ 0 then (2 - 1) else 29))) 4 (nI (kp - 1))) 1 (σ 31 1)) = sr σ 0 (upd (upd (upd (upd (σ 0) 0 (σ 31 0)) 1 (σ 31 1)) 3 (nI (if 2 ≠ 0 then (2 - 1) else 29))) 4 (nI (kp - 1))) := by
      funext j_ x_
      by_cases e0 : j_ = 0
      · subst e0
        by_cases y0 : x_ = 0
        · subst y0; rfl
        · by_cases y1 : x_ = 1
          · subst y1; rfl
          · by_cases y3 : x_ = 3
            · subst y3; rfl
            · by_cases y4 : x_ = 4
              · subst y4; rfl
              · simp [sr, upd, y0, y1, y3, y4]
      · simp only [sr, e0, if_false]
    rw [hst_] at hw
    refine lv_aload_n hC.1 hC.2.1 dX7_restore_62 rfl (lv_at hl 1 rfl) ?_
    refine gf_X7_20 hC hw dX7_restore_63 ?_
    refine lv_aload_n hC.1 hC.2.1 dX7_restore_66 rfl (lv_at hl 0 rfl) ?_
    refine lv_iconst (v := nI 2) hC.1 hC.2.1 dX7_restore_67 (by decide) ?_
    refine q_ald (Wf := XW E a) (v := σ 31 2) 41 rfl (by decide) hC hw (by omega) rfl dX7_restore_68 ?_
    refine pf_X7_40 hC hw dX7_restore_69 (fun H locs hw => ?_)
    have hw : Wst E (XW E a) (sr (sr σ 0 (upd (upd (upd (upd (σ 0) 0 (σ 31 0)) 1 (σ 31 1)) 3 (nI (if 2 ≠ 0 then (2 - 1) else 29))) 4 (nI (kp - 1)))) 0 (upd (upd (upd (upd (upd (σ 0) 0 (σ 31 0)) 1 (σ 31 1)) 3 (nI (if 2 ≠ 0 then (2 - 1) else 29))) 4 (nI (kp - 1))) 2 (σ 31 2))) A s.heap H locs := hw
    have hst_ : sr (sr σ 0 (upd (upd (upd (upd (σ 0) 0 (σ 31 0)) 1 (σ 31 1)) 3 (nI (if 2 ≠ 0 then (2 - 1) else 29))) 4 (nI (kp - 1)))) 0 (upd (upd (upd (upd (upd (σ 0) 0 (σ 31 0)) 1 (σ 31 1)) 3 (nI (if 2 ≠ 0 then (2 - 1) else 29))) 4 (nI (kp - 1))) 2 (σ 31 2)) = sr σ 0 (upd (upd (upd (upd (upd (σ 0) 0 (σ 31 0)) 1 (σ 31 1)) 2 (σ 31 2)) 3 (nI (if 2 ≠ 0 then (2 - 1) else 29))) 4 (nI (kp - 1))) := by
      funext j_ x_
      by_cases e0 : j_ = 0
      · subst e0
        by_cases y0 : x_ = 0
        · subst y0; rfl
        · by_cases y1 : x_ = 1
          · subst y1; rfl
          · by_cases y2 : x_ = 2
            · subst y2; rfl
            · by_cases y3 : x_ = 3
              · subst y3; rfl
              · by_cases y4 : x_ = 4
                · subst y4; rfl
                · simp [sr, upd, y0, y1, y2, y3, y4]
      · simp only [sr, e0, if_false]
    rw [hst_] at hw
    refine lv_iconst (v := nI 3) hC.1 hC.2.1 dX7_restore_72 (by decide) ?_
    refine lv_istore_n (lv' := [(2, .int (nI 3)), (1, .ref (a 31)), (0, .ref (a 68))]) hC.1 hC.2.1 dX7_restore_73 rfl hl (by decide) rfl (fun ls hl => ?_)
    refine lv_aload_n hC.1 hC.2.1 dX7_restore_74 rfl (lv_at hl 1 rfl) ?_
    refine lv_iload_n hC.1 hC.2.1 dX7_restore_75 rfl (lv_at hl 0 rfl) ?_
    refine lv_aload_n hC.1 hC.2.1 dX7_restore_76 rfl (lv_at hl 2 rfl) ?_
    refine gf_X7_24 hC hw dX7_restore_77 ?_
    refine lv_iconst (v := nI 0) hC.1 hC.2.1 dX7_restore_80 (by decide) ?_
    refine lv_iconst (v := nI 3) hC.1 hC.2.1 dX7_restore_81 (by decide) ?_
    refine q_cpy (sp := 3) (dp := 0) (n := 3) 41 rfl 25 rfl (XW_s15 _) hC hw hl (by omega) (by omega) (by decide) (by decide) ⟨Nat.le_of_ble_eq_true rfl, Nat.le_of_ble_eq_true rfl⟩ wk2_182 dX7_restore_82 (fun H locs hw => ?_)
    have hw : Wst E (XW E a) (sr (sr σ 0 (upd (upd (upd (upd (upd (σ 0) 0 (σ 31 0)) 1 (σ 31 1)) 2 (σ 31 2)) 3 (nI (if 2 ≠ 0 then (2 - 1) else 29))) 4 (nI (kp - 1)))) 15 (va_cpy (σ 31) (σ 15) 3 0 3)) A s.heap H locs := hw
    have hst_ : sr (sr σ 0 (upd (upd (upd (upd (upd (σ 0) 0 (σ 31 0)) 1 (σ 31 1)) 2 (σ 31 2)) 3 (nI (if 2 ≠ 0 then (2 - 1) else 29))) 4 (nI (kp - 1)))) 15 (va_cpy (σ 31) (σ 15) 3 0 3) = sr (sr σ 15 (va_cpy (σ 31) (σ 15) 3 0 3)) 0 (upd (upd (upd (upd (upd (σ 0) 0 (σ 31 0)) 1 (σ 31 1)) 2 (σ 31 2)) 3 (nI (if 2 ≠ 0 then (2 - 1) else 29))) 4 (nI (kp - 1))) := by
      funext j_ x_
      by_cases e0 : j_ = 0
      · subst e0
        by_cases y0 : x_ = 0
        · subst y0; rfl
        · by_cases y1 : x_ = 1
          · subst y1; rfl
          · by_cases y2 : x_ = 2
            · subst y2; rfl
            · by_cases y3 : x_ = 3
              · subst y3; rfl
              · by_cases y4 : x_ = 4
                · subst y4; rfl
                · simp [sr, upd, y0, y1, y2, y3, y4]
      · by_cases e15 : j_ = 15
        · subst e15; rfl
        · simp only [sr, e0, e15, if_false]
    rw [hst_] at hw
    refine lv_iinc (v := nI (3 + 3)) (lv' := [(2, .int (nI (3 + 3))), (1, .ref (a 31)), (0, .ref (a 68))]) hC.1 hC.2.1 dX7_restore_85 hl (k := 0) rfl (nI_add _ _) (by decide) rfl (fun ls hl => ?_)
    refine lv_iconst (v := nI 0) hC.1 hC.2.1 dX7_restore_88 (by decide) ?_
    refine lv_istore_n (lv' := [(3, .int (nI 0)), (2, .int (nI (3 + 3))), (1, .ref (a 31)), (0, .ref (a 68))]) hC.1 hC.2.1 dX7_restore_89 rfl hl (by decide) rfl (fun ls hl => ?_)
    have L90_2 : ∀ (n : Nat), ∀ (h : Nat), (h ≤ 10) → (10 - h) < n → ∀ (H : Heap) (locs : List Loc) (ls : Array Slot), Wst E (XW E a) (sr (sr (sr σ 4 (upr (σ 31) h (σ 4))) 15 (va_cpy (σ 31) (σ 15) 3 0 3)) 0 (upd (upd (upd (upd (upd (σ 0) 0 (σ 31 0)) 1 (σ 31 1)) 2 (σ 31 2)) 3 (nI (if 2 ≠ 0 then (2 - 1) else 29))) 4 (nI (kp - 1)))) A s.heap H locs → lv_has ls 4 [(0, .ref (a 68)), (1, .ref (a 31)), (2, .int (nI (3 + 3))), (3, .int (nI h))] → W p l e ({ frames := 1, cells := 0, slots := 0, locals := 24 }) s m args below meth c H locs 0 0 Q (F0 m 90 ls []) := by
      intro n
      induction n with
      | zero => intro h hh hn; exact absurd hn (Nat.not_lt_zero _)
      | succ n ih90 =>
        intro h hh hn90 H locs ls hw hl
        refine lv_iload_n hC.1 hC.2.1 dX7_restore_90 rfl (lv_at hl 3 rfl) ?_
        refine lv_bipush (v := nI 10) hC.1 hC.2.1 dX7_restore_91 (by decide) ?_
        refine q_cmpge hC 125 (cNle (by omega) (by omega)) dX7_restore_93 (by decide) (fun (c4 : 10 ≤ h) => ?_) (fun (c4 : h < 10) => ?_)
        · have hh9 : h = 10 := by omega
          rw [hh9] at hw
          refine lv_iinc (v := nI (3 + 3 + 10)) (lv' := [(2, .int (nI (3 + 3 + 10))), (0, .ref (a 68)), (1, .ref (a 31)), (3, .int (nI h))]) hC.1 hC.2.1 dX7_restore_125 hl (k := 2) rfl (nI_add _ _) (by decide) rfl (fun ls hl => ?_)
          refine lv_aload_n hC.1 hC.2.1 dX7_restore_128 rfl (lv_at hl 2 rfl) ?_
          refine lv_iload_n hC.1 hC.2.1 dX7_restore_129 rfl (lv_at hl 0 rfl) ?_
          refine lv_aload_n hC.1 hC.2.1 dX7_restore_130 rfl (lv_at hl 1 rfl) ?_
          refine gf_X7_20 hC hw dX7_restore_131 ?_
          refine gf_X7_53 hC hw dX7_restore_134 ?_
          refine lv_iconst (v := nI 0) hC.1 hC.2.1 dX7_restore_137 (by decide) ?_
          refine lv_bipush (v := nI 24) hC.1 hC.2.1 dX7_restore_138 (by decide) ?_
          refine q_cpy (sp := (3 + 3 + 10)) (dp := 0) (n := 24) 41 rfl 21 rfl (XW_s11 _) hC hw hl (by omega) (by omega) (by decide) (by decide) ⟨Nat.le_of_ble_eq_true rfl, Nat.le_of_ble_eq_true rfl⟩ wk2_182 dX7_restore_140 (fun H locs hw => ?_)
          have hw : Wst E (XW E a) (sr (sr (sr (sr σ 4 (upr (σ 31) 10 (σ 4))) 15 (va_cpy (σ 31) (σ 15) 3 0 3)) 0 (upd (upd (upd (upd (upd (σ 0) 0 (σ 31 0)) 1 (σ 31 1)) 2 (σ 31 2)) 3 (nI (if 2 ≠ 0 then (2 - 1) else 29))) 4 (nI (kp - 1)))) 11 (va_cpy (σ 31) (σ 11) (3 + 3 + 10) 0 24)) A s.heap H locs := hw
          have hst_ : sr (sr (sr (sr σ 4 (upr (σ 31) 10 (σ 4))) 15 (va_cpy (σ 31) (σ 15) 3 0 3)) 0 (upd (upd (upd (upd (upd (σ 0) 0 (σ 31 0)) 1 (σ 31 1)) 2 (σ 31 2)) 3 (nI (if 2 ≠ 0 then (2 - 1) else 29))) 4 (nI (kp - 1)))) 11 (va_cpy (σ 31) (σ 11) (3 + 3 + 10) 0 24) = sr (sr (sr (sr σ 4 (upr (σ 31) 10 (σ 4))) 11 (va_cpy (σ 31) (σ 11) (3 + 3 + 10) 0 24)) 15 (va_cpy (σ 31) (σ 15) 3 0 3)) 0 (upd (upd (upd (upd (upd (σ 0) 0 (σ 31 0)) 1 (σ 31 1)) 2 (σ 31 2)) 3 (nI (if 2 ≠ 0 then (2 - 1) else 29))) 4 (nI (kp - 1))) := by
            funext j_ x_
            by_cases e0 : j_ = 0
            · subst e0
              by_cases y0 : x_ = 0
              · subst y0; rfl
              · by_cases y1 : x_ = 1
                · subst y1; rfl
                · by_cases y2 : x_ = 2
                  · subst y2; rfl
                  · by_cases y3 : x_ = 3
                    · subst y3; rfl
                    · by_cases y4 : x_ = 4
                      · subst y4; rfl
                      · simp [sr, upd, y0, y1, y2, y3, y4]
            · by_cases e4 : j_ = 4
              · subst e4; rfl
              · by_cases e11 : j_ = 11
                · subst e11; rfl
                · by_cases e15 : j_ = 15
                  · subst e15; rfl
                  · simp only [sr, e0, e4, e11, e15, if_false]
          rw [hst_] at hw
          refine lv_aload_n hC.1 hC.2.1 dX7_restore_143 rfl (lv_at hl 2 rfl) ?_
          refine lv_iload_n hC.1 hC.2.1 dX7_restore_144 rfl (lv_at hl 0 rfl) ?_
          refine lv_bipush (v := nI 24) hC.1 hC.2.1 dX7_restore_145 (by decide) ?_
          refine q_addN hC dX7_restore_147 ?_
          refine lv_aload_n hC.1 hC.2.1 dX7_restore_148 rfl (lv_at hl 1 rfl) ?_
          refine gf_X7_20 hC hw dX7_restore_149 ?_
          refine gf_X7_56 hC hw dX7_restore_152 ?_
          refine lv_iconst (v := nI 0) hC.1 hC.2.1 dX7_restore_155 (by decide) ?_
          refine lv_bipush (v := nI 24) hC.1 hC.2.1 dX7_restore_156 (by decide) ?_
          refine q_cpy (sp := ((3 + 3 + 10) + 24)) (dp := 0) (n := 24) 41 rfl 22 rfl (XW_s12 _) hC hw hl (by omega) (by omega) (by decide) (by decide) ⟨Nat.le_of_ble_eq_true rfl, Nat.le_of_ble_eq_true rfl⟩ wk2_182 dX7_restore_158 (fun H locs hw => ?_)
          have hw : Wst E (XW E a) (sr (sr (sr (sr (sr σ 4 (upr (σ 31) 10 (σ 4))) 11 (va_cpy (σ 31) (σ 11) (3 + 3 + 10) 0 24)) 15 (va_cpy (σ 31) (σ 15) 3 0 3)) 0 (upd (upd (upd (upd (upd (σ 0) 0 (σ 31 0)) 1 (σ 31 1)) 2 (σ 31 2)) 3 (nI (if 2 ≠ 0 then (2 - 1) else 29))) 4 (nI (kp - 1)))) 12 (va_cpy (σ 31) (σ 12) ((3 + 3 + 10) + 24) 0 24)) A s.heap H locs := hw
          have hst_ : sr (sr (sr (sr (sr σ 4 (upr (σ 31) 10 (σ 4))) 11 (va_cpy (σ 31) (σ 11) (3 + 3 + 10) 0 24)) 15 (va_cpy (σ 31) (σ 15) 3 0 3)) 0 (upd (upd (upd (upd (upd (σ 0) 0 (σ 31 0)) 1 (σ 31 1)) 2 (σ 31 2)) 3 (nI (if 2 ≠ 0 then (2 - 1) else 29))) 4 (nI (kp - 1)))) 12 (va_cpy (σ 31) (σ 12) ((3 + 3 + 10) + 24) 0 24) = sr (sr (sr (sr (sr σ 4 (upr (σ 31) 10 (σ 4))) 11 (va_cpy (σ 31) (σ 11) (3 + 3 + 10) 0 24)) 12 (va_cpy (σ 31) (σ 12) ((3 + 3 + 10) + 24) 0 24)) 15 (va_cpy (σ 31) (σ 15) 3 0 3)) 0 (upd (upd (upd (upd (upd (σ 0) 0 (σ 31 0)) 1 (σ 31 1)) 2 (σ 31 2)) 3 (nI (if 2 ≠ 0 then (2 - 1) else 29))) 4 (nI (kp - 1))) := by
            funext j_ x_
            by_cases e0 : j_ = 0
            · subst e0
              by_cases y0 : x_ = 0
              · subst y0; rfl
              · by_cases y1 : x_ = 1
                · subst y1; rfl
                · by_cases y2 : x_ = 2
                  · subst y2; rfl
                  · by_cases y3 : x_ = 3
                    · subst y3; rfl
                    · by_cases y4 : x_ = 4
                      · subst y4; rfl
                      · simp [sr, upd, y0, y1, y2, y3, y4]
            · by_cases e4 : j_ = 4
              · subst e4; rfl
              · by_cases e11 : j_ = 11
                · subst e11; rfl
                · by_cases e12 : j_ = 12
                  · subst e12; rfl
                  · by_cases e15 : j_ = 15
                    · subst e15; rfl
                    · simp only [sr, e0, e4, e11, e12, e15, if_false]
          rw [hst_] at hw
          refine lv_aload_n hC.1 hC.2.1 dX7_restore_161 rfl (lv_at hl 2 rfl) ?_
          refine lv_iload_n hC.1 hC.2.1 dX7_restore_162 rfl (lv_at hl 0 rfl) ?_
          refine lv_bipush (v := nI 48) hC.1 hC.2.1 dX7_restore_163 (by decide) ?_
          refine q_addN hC dX7_restore_165 ?_
          refine lv_aload_n hC.1 hC.2.1 dX7_restore_166 rfl (lv_at hl 1 rfl) ?_
          refine gf_X7_20 hC hw dX7_restore_167 ?_
          refine gf_X7_59 hC hw dX7_restore_170 ?_
          refine lv_iconst (v := nI 0) hC.1 hC.2.1 dX7_restore_173 (by decide) ?_
          refine lv_bipush (v := nI 24) hC.1 hC.2.1 dX7_restore_174 (by decide) ?_
          refine q_cpy (sp := ((3 + 3 + 10) + 48)) (dp := 0) (n := 24) 41 rfl 23 rfl (XW_s13 _) hC hw hl (by omega) (by omega) (by decide) (by decide) ⟨Nat.le_of_ble_eq_true rfl, Nat.le_of_ble_eq_true rfl⟩ wk2_182 dX7_restore_176 (fun H locs hw => ?_)
          have hw : Wst E (XW E a) (sr (sr (sr (sr (sr (sr σ 4 (upr (σ 31) 10 (σ 4))) 11 (va_cpy (σ 31) (σ 11) (3 + 3 + 10) 0 24)) 12 (va_cpy (σ 31) (σ 12) ((3 + 3 + 10) + 24) 0 24)) 15 (va_cpy (σ 31) (σ 15) 3 0 3)) 0 (upd (upd (upd (upd (upd (σ 0) 0 (σ 31 0)) 1 (σ 31 1)) 2 (σ 31 2)) 3 (nI (if 2 ≠ 0 then (2 - 1) else 29))) 4 (nI (kp - 1)))) 13 (va_cpy (σ 31) (σ 13) ((3 + 3 + 10) + 48) 0 24)) A s.heap H locs := hw
          have hst_ : sr (sr (sr (sr (sr (sr σ 4 (upr (σ 31) 10 (σ 4))) 11 (va_cpy (σ 31) (σ 11) (3 + 3 + 10) 0 24)) 12 (va_cpy (σ 31) (σ 12) ((3 + 3 + 10) + 24) 0 24)) 15 (va_cpy (σ 31) (σ 15) 3 0 3)) 0 (upd (upd (upd (upd (upd (σ 0) 0 (σ 31 0)) 1 (σ 31 1)) 2 (σ 31 2)) 3 (nI (if 2 ≠ 0 then (2 - 1) else 29))) 4 (nI (kp - 1)))) 13 (va_cpy (σ 31) (σ 13) ((3 + 3 + 10) + 48) 0 24) = sr (sr (sr (sr (sr (sr σ 4 (upr (σ 31) 10 (σ 4))) 11 (va_cpy (σ 31) (σ 11) (3 + 3 + 10) 0 24)) 12 (va_cpy (σ 31) (σ 12) ((3 + 3 + 10) + 24) 0 24)) 13 (va_cpy (σ 31) (σ 13) ((3 + 3 + 10) + 48) 0 24)) 15 (va_cpy (σ 31) (σ 15) 3 0 3)) 0 (upd (upd (upd (upd (upd (σ 0) 0 (σ 31 0)) 1 (σ 31 1)) 2 (σ 31 2)) 3 (nI (if 2 ≠ 0 then (2 - 1) else 29))) 4 (nI (kp - 1))) := by
            funext j_ x_
            by_cases e0 : j_ = 0
            · subst e0
              by_cases y0 : x_ = 0
              · subst y0; rfl
              · by_cases y1 : x_ = 1
                · subst y1; rfl
                · by_cases y2 : x_ = 2
                  · subst y2; rfl
                  · by_cases y3 : x_ = 3
                    · subst y3; rfl
                    · by_cases y4 : x_ = 4
                      · subst y4; rfl
                      · simp [sr, upd, y0, y1, y2, y3, y4]
            · by_cases e4 : j_ = 4
              · subst e4; rfl
              · by_cases e11 : j_ = 11
                · subst e11; rfl
                · by_cases e12 : j_ = 12
                  · subst e12; rfl
                  · by_cases e13 : j_ = 13
                    · subst e13; rfl
                    · by_cases e15 : j_ = 15
                      · subst e15; rfl
                      · simp only [sr, e0, e4, e11, e12, e13, e15, if_false]
          rw [hst_] at hw
          refine lv_aload_n hC.1 hC.2.1 dX7_restore_179 rfl (lv_at hl 2 rfl) ?_
          refine lv_iload_n hC.1 hC.2.1 dX7_restore_180 rfl (lv_at hl 0 rfl) ?_
          refine lv_bipush (v := nI 72) hC.1 hC.2.1 dX7_restore_181 (by decide) ?_
          refine q_addN hC dX7_restore_183 ?_
          refine lv_aload_n hC.1 hC.2.1 dX7_restore_184 rfl (lv_at hl 1 rfl) ?_
          refine gf_X7_20 hC hw dX7_restore_185 ?_
          refine gf_X7_62 hC hw dX7_restore_188 ?_
          refine lv_iconst (v := nI 0) hC.1 hC.2.1 dX7_restore_191 (by decide) ?_
          refine lv_bipush (v := nI 24) hC.1 hC.2.1 dX7_restore_192 (by decide) ?_
          refine q_cpy (sp := ((3 + 3 + 10) + 72)) (dp := 0) (n := 24) 41 rfl 24 rfl (XW_s14 _) hC hw hl (by omega) (by omega) (by decide) (by decide) ⟨Nat.le_of_ble_eq_true rfl, Nat.le_of_ble_eq_true rfl⟩ wk2_182 dX7_restore_194 (fun H locs hw => ?_)
          have hw : Wst E (XW E a) (sr (sr (sr (sr (sr (sr (sr σ 4 (upr (σ 31) 10 (σ 4))) 11 (va_cpy (σ 31) (σ 11) (3 + 3 + 10) 0 24)) 12 (va_cpy (σ 31) (σ 12) ((3 + 3 + 10) + 24) 0 24)) 13 (va_cpy (σ 31) (σ 13) ((3 + 3 + 10) + 48) 0 24)) 15 (va_cpy (σ 31) (σ 15) 3 0 3)) 0 (upd (upd (upd (upd (upd (σ 0) 0 (σ 31 0)) 1 (σ 31 1)) 2 (σ 31 2)) 3 (nI (if 2 ≠ 0 then (2 - 1) else 29))) 4 (nI (kp - 1)))) 14 (va_cpy (σ 31) (σ 14) ((3 + 3 + 10) + 72) 0 24)) A s.heap H locs := hw
          have hst_ : sr (sr (sr (sr (sr (sr (sr σ 4 (upr (σ 31) 10 (σ 4))) 11 (va_cpy (σ 31) (σ 11) (3 + 3 + 10) 0 24)) 12 (va_cpy (σ 31) (σ 12) ((3 + 3 + 10) + 24) 0 24)) 13 (va_cpy (σ 31) (σ 13) ((3 + 3 + 10) + 48) 0 24)) 15 (va_cpy (σ 31) (σ 15) 3 0 3)) 0 (upd (upd (upd (upd (upd (σ 0) 0 (σ 31 0)) 1 (σ 31 1)) 2 (σ 31 2)) 3 (nI (if 2 ≠ 0 then (2 - 1) else 29))) 4 (nI (kp - 1)))) 14 (va_cpy (σ 31) (σ 14) ((3 + 3 + 10) + 72) 0 24) = sr (sr (sr (sr (sr (sr (sr σ 4 (upr (σ 31) 10 (σ 4))) 11 (va_cpy (σ 31) (σ 11) (3 + 3 + 10) 0 24)) 12 (va_cpy (σ 31) (σ 12) ((3 + 3 + 10) + 24) 0 24)) 13 (va_cpy (σ 31) (σ 13) ((3 + 3 + 10) + 48) 0 24)) 14 (va_cpy (σ 31) (σ 14) ((3 + 3 + 10) + 72) 0 24)) 15 (va_cpy (σ 31) (σ 15) 3 0 3)) 0 (upd (upd (upd (upd (upd (σ 0) 0 (σ 31 0)) 1 (σ 31 1)) 2 (σ 31 2)) 3 (nI (if 2 ≠ 0 then (2 - 1) else 29))) 4 (nI (kp - 1))) := by
            funext j_ x_
            by_cases e0 : j_ = 0
            · subst e0
              by_cases y0 : x_ = 0
              · subst y0; rfl
              · by_cases y1 : x_ = 1
                · subst y1; rfl
                · by_cases y2 : x_ = 2
                  · subst y2; rfl
                  · by_cases y3 : x_ = 3
                    · subst y3; rfl
                    · by_cases y4 : x_ = 4
                      · subst y4; rfl
                      · simp [sr, upd, y0, y1, y2, y3, y4]
            · by_cases e4 : j_ = 4
              · subst e4; rfl
              · by_cases e11 : j_ = 11
                · subst e11; rfl
                · by_cases e12 : j_ = 12
                  · subst e12; rfl
                  · by_cases e13 : j_ = 13
                    · subst e13; rfl
                    · by_cases e14 : j_ = 14
                      · subst e14; rfl
                      · by_cases e15 : j_ = 15
                        · subst e15; rfl
                        · simp only [sr, e0, e4, e11, e12, e13, e14, e15, if_false]
          rw [hst_] at hw
          refine hret _ _ _ _ _ hw ?_ dX7_restore_197
          exact rfl
        · refine lv_aload_n hC.1 hC.2.1 dX7_restore_96 rfl (lv_at hl 0 rfl) ?_
          refine gf_X7_16 hC hw dX7_restore_97 ?_
          refine gf_X7_49 hC hw dX7_restore_100 ?_
          refine lv_iload_n hC.1 hC.2.1 dX7_restore_103 rfl (lv_at hl 3 rfl) ?_
          refine lv_aload_n hC.1 hC.2.1 dX7_restore_104 rfl (lv_at hl 1 rfl) ?_
          refine lv_iload_n hC.1 hC.2.1 dX7_restore_105 rfl (lv_at hl 2 rfl) ?_
          refine lv_iload_n hC.1 hC.2.1 dX7_restore_106 rfl (lv_at hl 3 rfl) ?_
          refine q_addN hC dX7_restore_107 ?_
          refine q_ald (Wf := XW E a) (v := σ 31 ((3 + 3) + h)) 41 rfl (by decide) hC hw (by omega) rfl dX7_restore_108 ?_
          refine lv_iconst (v := nI 1) hC.1 hC.2.1 dX7_restore_109 (by decide) ?_
          have J118_6 : ∀ (w5 : Int32), w5 = (if (σ 31 ((3 + 3) + h)) = 1 then (1 : Int32) else 0) → ∀ (H : Heap) (locs : List Loc) (ls : Array Slot), Wst E (XW E a) (sr (sr (sr σ 4 (upr (σ 31) h (σ 4))) 15 (va_cpy (σ 31) (σ 15) 3 0 3)) 0 (upd (upd (upd (upd (upd (σ 0) 0 (σ 31 0)) 1 (σ 31 1)) 2 (σ 31 2)) 3 (nI (if 2 ≠ 0 then (2 - 1) else 29))) 4 (nI (kp - 1)))) A s.heap H locs → lv_has ls 4 [(0, .ref (a 68)), (1, .ref (a 31)), (2, .int (nI (3 + 3))), (3, .int (nI h))] → W p l e ({ frames := 1, cells := 0, slots := 0, locals := 24 }) s m args below meth c H locs 0 0 Q (F0 m 118 ls [.int (w5), .int (nI h), .ref (a 4)]) := by
            intro w5 e6 H locs ls hw hl
            subst e6
            refine as_X4 hC hw (by omega) vz_B dX7_restore_118 (fun H locs hw => ?_)
            have hw : Wst E (XW E a) (sr (sr (sr (sr σ 4 (upr (σ 31) h (σ 4))) 15 (va_cpy (σ 31) (σ 15) 3 0 3)) 0 (upd (upd (upd (upd (upd (σ 0) 0 (σ 31 0)) 1 (σ 31 1)) 2 (σ 31 2)) 3 (nI (if 2 ≠ 0 then (2 - 1) else 29))) 4 (nI (kp - 1)))) 4 (upd (upr (σ 31) h (σ 4)) h (if (σ 31 ((3 + 3) + h)) = 1 then (1 : Int32) else 0))) A s.heap H locs := hw
            have hst_ : sr (sr (sr (sr σ 4 (upr (σ 31) h (σ 4))) 15 (va_cpy (σ 31) (σ 15) 3 0 3)) 0 (upd (upd (upd (upd (upd (σ 0) 0 (σ 31 0)) 1 (σ 31 1)) 2 (σ 31 2)) 3 (nI (if 2 ≠ 0 then (2 - 1) else 29))) 4 (nI (kp - 1)))) 4 (upd (upr (σ 31) h (σ 4)) h (if (σ 31 ((3 + 3) + h)) = 1 then (1 : Int32) else 0)) = sr (sr (sr σ 4 (upd (upr (σ 31) h (σ 4)) h (if (σ 31 ((3 + 3) + h)) = 1 then (1 : Int32) else 0))) 15 (va_cpy (σ 31) (σ 15) 3 0 3)) 0 (upd (upd (upd (upd (upd (σ 0) 0 (σ 31 0)) 1 (σ 31 1)) 2 (σ 31 2)) 3 (nI (if 2 ≠ 0 then (2 - 1) else 29))) 4 (nI (kp - 1))) := by
              funext j_ x_
              by_cases e0 : j_ = 0
              · subst e0
                by_cases y0 : x_ = 0
                · subst y0; rfl
                · by_cases y1 : x_ = 1
                  · subst y1; rfl
                  · by_cases y2 : x_ = 2
                    · subst y2; rfl
                    · by_cases y3 : x_ = 3
                      · subst y3; rfl
                      · by_cases y4 : x_ = 4
                        · subst y4; rfl
                        · simp [sr, upd, y0, y1, y2, y3, y4]
              · by_cases e4 : j_ = 4
                · subst e4; rfl
                · by_cases e15 : j_ = 15
                  · subst e15; rfl
                  · simp only [sr, e0, e4, e15, if_false]
            rw [hst_] at hw
            refine lv_iinc (v := nI (h + 1)) (lv' := [(3, .int (nI (h + 1))), (0, .ref (a 68)), (1, .ref (a 31)), (2, .int (nI (3 + 3)))]) hC.1 hC.2.1 dX7_restore_119 hl (k := 3) rfl (nI_add _ _) (by decide) rfl (fun ls hl => ?_)
            refine lv_goto (tgt := 90) hC.1 hC.2.1 dX7_restore_122 (by decide) ?_
            rw [upr_s] at hw
            exact ih90 (h + 1) (by omega) (by omega) _ _ _ hw (lv_sub hl [1, 2, 3, 0] rfl)
          refine q_cmpne hC 117 cI dX7_restore_110 (by decide) (fun (c7 : ¬ ((σ 31 ((3 + 3) + h)) = 1)) => ?_) (fun (c7 : (σ 31 ((3 + 3) + h)) = 1) => ?_)
          · refine lv_iconst (v := nI 0) hC.1 hC.2.1 dX7_restore_117 (by decide) ?_
            exact J118_6 _ (if_neg c7).symm _ _ _ hw (lv_sub hl [0, 1, 2, 3] rfl)
          · refine lv_iconst (v := nI 1) hC.1 hC.2.1 dX7_restore_113 (by decide) ?_
            refine lv_goto (tgt := 118) hC.1 hC.2.1 dX7_restore_114 (by decide) ?_
            exact J118_6 _ (if_pos c7).symm _ _ _ hw (lv_sub hl [0, 1, 2, 3] rfl)
    have hst_ : sr (sr σ 15 (va_cpy (σ 31) (σ 15) 3 0 3)) 0 (upd (upd (upd (upd (upd (σ 0) 0 (σ 31 0)) 1 (σ 31 1)) 2 (σ 31 2)) 3 (nI (if 2 ≠ 0 then (2 - 1) else 29))) 4 (nI (kp - 1))) = sr (sr (sr σ 4 (upr (σ 31) 0 (σ 4))) 15 (va_cpy (σ 31) (σ 15) 3 0 3)) 0 (upd (upd (upd (upd (upd (σ 0) 0 (σ 31 0)) 1 (σ 31 1)) 2 (σ 31 2)) 3 (nI (if 2 ≠ 0 then (2 - 1) else 29))) 4 (nI (kp - 1))) := by
      funext j_ x_
      by_cases e0 : j_ = 0
      · subst e0
        by_cases y0 : x_ = 0
        · subst y0; rfl
        · by_cases y1 : x_ = 1
          · subst y1; rfl
          · by_cases y2 : x_ = 2
            · subst y2; rfl
            · by_cases y3 : x_ = 3
              · subst y3; rfl
              · by_cases y4 : x_ = 4
                · subst y4; rfl
                · simp [sr, upd, y0, y1, y2, y3, y4]
      · by_cases e4 : j_ = 4
        · subst e4; show σ 4 x_ = upr (σ 31) 0 (σ 4) x_; rw [upr_0]
        · by_cases e15 : j_ = 15
          · subst e15; rfl
          · simp only [sr, e0, e4, e15, if_false]
    rw [hst_] at hw
    exact L90_2 _ 0 (by omega) (Nat.lt_succ_self _) _ _ _ hw (lv_sub hl [3, 2, 1, 0] rfl)
  refine q_ifne hC 13 (cN0 (by omega)) dX7_restore_5 (by decide) (fun (c8 : 2 ≠ 0) => ?_) (fun (c8 : 2 = 0) => ?_)
  · refine lv_aload_n hC.1 hC.2.1 dX7_restore_13 rfl (lv_at hl 0 rfl) ?_
    refine gf_X7_28 (v := nI 2) hC hw hnx dX7_restore_14 ?_
    refine lv_iconst (v := nI 1) hC.1 hC.2.1 dX7_restore_17 (by decide) ?_
    refine q_subN hC (by omega) dX7_restore_18 ?_
    exact J19_2 _ (by (rw [if_pos c8]) <;> rfl) _ _ _ hw (lv_sub hl [0] rfl)
  · refine lv_bipush (v := nI 29) hC.1 hC.2.1 dX7_restore_8 (by decide) ?_
    refine lv_goto (tgt := 19) hC.1 hC.2.1 dX7_restore_10 (by decide) ?_
    exact J19_2 _ (by (rw [if_neg (fun q => q c8)]) <;> rfl) _ _ _ hw (lv_sub hl [0] rfl)
set_option maxHeartbeats 4000000 in
set_option maxRecDepth 100000 in
theorem tX7_restore_k3 (l : Launch) (E : EV) (a : Nat → Nat) (σ : St) (kp : Nat) (hnx : σ 0 3 = nI 3) (hkp : σ 0 4 = nI kp) (hk30 : kp ≤ 30) (hk1 : 1 ≤ kp) : MV l E (XW E a) yX7_restore (Cond.code yX7_restore cX7_restore 4 none) ({ frames := 1, cells := 0, slots := 0, locals := 24 }) [.ref (a 68)] σ (fun u_ => u_ = sr (sr (sr (sr (sr (sr (sr σ 4 (upr (σ 32) 10 (σ 4))) 11 (va_cpy (σ 32) (σ 11) 16 0 24)) 12 (va_cpy (σ 32) (σ 12) 40 0 24)) 13 (va_cpy (σ 32) (σ 13) 64 0 24)) 14 (va_cpy (σ 32) (σ 14) 88 0 24)) 15 (va_cpy (σ 32) (σ 15) 3 0 3)) 0 (upd (upd (upd (upd (upd (σ 0) 0 ((σ 32) 0)) 1 ((σ 32) 1)) 2 ((σ 32) 2)) 3 (nI (if 3 ≠ 0 then 3 - 1 else 29))) 4 (nI (kp - 1)))) := by
  refine MV.mk (by decide +kernel) (Nat.le_of_ble_eq_true rfl) ?_
  intro p e s m args below meth c ls A Q hret hC hw hl
  have hC : Cxt E p s m args meth c cX7_restore 4 none RX7 A := hC
  have hl : lv_has ls 4 [(0, .ref (a 68))] := hl
  refine lv_aload_n hC.1 hC.2.1 dX7_restore_0 rfl (lv_at hl 0 rfl) ?_
  refine lv_aload_n hC.1 hC.2.1 dX7_restore_1 rfl (lv_at hl 0 rfl) ?_
  refine gf_X7_28 (v := nI 3) hC hw hnx dX7_restore_2 ?_
  have J19_2 : ∀ (w1 : Nat), w1 = (if 3 ≠ 0 then (3 - 1) else 29) → ∀ (H : Heap) (locs : List Loc) (ls : Array Slot), Wst E (XW E a) (σ) A s.heap H locs → lv_has ls 4 [(0, .ref (a 68))] → W p l e ({ frames := 1, cells := 0, slots := 0, locals := 24 }) s m args below meth c H locs 0 0 Q (F0 m 19 ls [.int (nI w1), .ref (a 68)]) := by
    intro w1 e2 H locs ls hw hl
    subst e2
    refine pf_X7_28 hC hw dX7_restore_19 (fun H locs hw => ?_)
    have hw : Wst E (XW E a) (sr σ 0 (upd (σ 0) 3 (nI (if 3 ≠ 0 then (3 - 1) else 29)))) A s.heap H locs := hw
    refine lv_aload_n hC.1 hC.2.1 dX7_restore_22 rfl (lv_at hl 0 rfl) ?_
    refine lv_dup hC.1 hC.2.1 dX7_restore_23 rfl ?_
    refine gf_X7_65 (v := nI kp) hC hw hkp dX7_restore_24 ?_
    refine lv_iconst (v := nI 1) hC.1 hC.2.1 dX7_restore_27 (by decide) ?_
    refine q_subN hC (by omega) dX7_restore_28 ?_
    refine pf_X7_65 hC hw dX7_restore_29 (fun H locs hw => ?_)
    have hw : Wst E (XW E a) (sr (sr σ 0 (upd (σ 0) 3 (nI (if 3 ≠ 0 then (3 - 1) else 29)))) 0 (upd (upd (σ 0) 3 (nI (if 3 ≠ 0 then (3 - 1) else 29))) 4 (nI (kp - 1)))) A s.heap H locs := hw
    have hst_ : sr (sr σ 0 (upd (σ 0) 3 (nI (if 3 ≠ 0 then (3 - 1) else 29)))) 0 (upd (upd (σ 0) 3 (nI (if 3 ≠ 0 then (3 - 1) else 29))) 4 (nI (kp - 1))) = sr σ 0 (upd (upd (σ 0) 3 (nI (if 3 ≠ 0 then (3 - 1) else 29))) 4 (nI (kp - 1))) := by
      funext j_ x_
      by_cases e0 : j_ = 0
      · subst e0
        by_cases y3 : x_ = 3
        · subst y3; rfl
        · by_cases y4 : x_ = 4
          · subst y4; rfl
          · simp [sr, upd, y3, y4]
      · simp only [sr, e0, if_false]
    rw [hst_] at hw
    refine lv_aload_n hC.1 hC.2.1 dX7_restore_32 rfl (lv_at hl 0 rfl) ?_
    refine gf_X7_13 hC hw dX7_restore_33 ?_
    refine lv_aload_n hC.1 hC.2.1 dX7_restore_36 rfl (lv_at hl 0 rfl) ?_
    refine gf_X7_28 (v := nI (if 3 ≠ 0 then (3 - 1) else 29)) hC hw rfl dX7_restore_37 ?_
    refine q_top (y := nI 2) rfl ?_
    refine q_aald hC hw (i := 2) (by decide) dX7_restore_40 ?_
    refine lv_astore_n (lv' := [(1, .ref (a 32)), (0, .ref (a 68))]) hC.1 hC.2.1 dX7_restore_41 rfl hl (by decide) rfl (fun ls hl => ?_)
    refine lv_aload_n hC.1 hC.2.1 dX7_restore_42 rfl (lv_at hl 1 rfl) ?_
    refine gf_X7_16 hC hw dX7_restore_43 ?_
    refine lv_aload_n hC.1 hC.2.1 dX7_restore_46 rfl (lv_at hl 0 rfl) ?_
    refine lv_iconst (v := nI 0) hC.1 hC.2.1 dX7_restore_47 (by decide) ?_
    refine q_ald (Wf := XW E a) (v := σ 32 0) 42 rfl (by decide) hC hw (by omega) rfl dX7_restore_48 ?_
    refine pf_X7_32 hC hw dX7_restore_49 (fun H locs hw => ?_)
    have hw : Wst E (XW E a) (sr (sr σ 0 (upd (upd (σ 0) 3 (nI (if 3 ≠ 0 then (3 - 1) else 29))) 4 (nI (kp - 1)))) 0 (upd (upd (upd (σ 0) 3 (nI (if 3 ≠ 0 then (3 - 1) else 29))) 4 (nI (kp - 1))) 0 (σ 32 0))) A s.heap H locs := hw
    have hst_ : sr (sr σ 0 (upd (upd (σ 0) 3 (nI (if 3 ≠ 0 then (3 - 1) else 29))) 4 (nI (kp - 1)))) 0 (upd (upd (upd (σ 0) 3 (nI (if 3 ≠ 0 then (3 - 1) else 29))) 4 (nI (kp - 1))) 0 (σ 32 0)) = sr σ 0 (upd (upd (upd (σ 0) 0 (σ 32 0)) 3 (nI (if 3 ≠ 0 then (3 - 1) else 29))) 4 (nI (kp - 1))) := by
      funext j_ x_
      by_cases e0 : j_ = 0
      · subst e0
        by_cases y0 : x_ = 0
        · subst y0; rfl
        · by_cases y3 : x_ = 3
          · subst y3; rfl
          · by_cases y4 : x_ = 4
            · subst y4; rfl
            · simp [sr, upd, y0, y3, y4]
      · simp only [sr, e0, if_false]
    rw [hst_] at hw
    refine lv_aload_n hC.1 hC.2.1 dX7_restore_52 rfl (lv_at hl 1 rfl) ?_
    refine gf_X7_20 hC hw dX7_restore_53 ?_
    refine lv_aload_n hC.1 hC.2.1 dX7_restore_56 rfl (lv_at hl 0 rfl) ?_
    refine lv_iconst (v := nI 1) hC.1 hC.2.1 dX7_restore_57 (by decide) ?_
    refine q_ald (Wf := XW E a) (v := σ 32 1) 42 rfl (by decide) hC hw (by omega) rfl dX7_restore_58 ?_
    refine pf_X7_37 hC hw dX7_restore_59 (fun H locs hw => ?_)
    have hw : Wst E (XW E a) (sr (sr σ 0 (upd (upd (upd (σ 0) 0 (σ 32 0)) 3 (nI (if 3 ≠ 0 then (3 - 1) else 29))) 4 (nI (kp - 1)))) 0 (upd (upd (upd (upd (σ 0) 0 (σ 32 0)) 3 (nI (if 3 ≠ 0 then (3 - 1) else 29))) 4 (nI (kp - 1))) 1 (σ 32 1))) A s.heap H locs := hw
    have hst_ : sr (sr σ 0 (upd (upd (upd (σ 0) 0 (σ 32 0)) 3 (nI (if 3 ≠ 0 then (3 - 1) else 29))) 4 (nI (kp - 1)))) 0 (upd (upd (upd (upd (σ 0) 0 (σ 32 0)) 3 (nI (if 3 ≠ 0 then (3 - 1) else 29))) 4 (nI (kp - 1))) 1 (σ 32 1)) = sr σ 0 (upd (upd (upd (upd (σ 0) 0 (σ 32 0)) 1 (σ 32 1)) 3 (nI (if 3 ≠ 0 then (3 - 1) else 29))) 4 (nI (kp - 1))) := by
      funext j_ x_
      by_cases e0 : j_ = 0
      · subst e0
        by_cases y0 : x_ = 0
        · subst y0; rfl
        · by_cases y1 : x_ = 1
          · subst y1; rfl
          · by_cases y3 : x_ = 3
            · subst y3; rfl
            · by_cases y4 : x_ = 4
              · subst y4; rfl
              · simp [sr, upd, y0, y1, y3, y4]
      · simp only [sr, e0, if_false]
    rw [hst_] at hw
    refine lv_aload_n hC.1 hC.2.1 dX7_restore_62 rfl (lv_at hl 1 rfl) ?_
    refine gf_X7_20 hC hw dX7_restore_63 ?_
    refine lv_aload_n hC.1 hC.2.1 dX7_restore_66 rfl (lv_at hl 0 rfl) ?_
    refine lv_iconst (v := nI 2) hC.1 hC.2.1 dX7_restore_67 (by decide) ?_
    refine q_ald (Wf := XW E a) (v := σ 32 2) 42 rfl (by decide) hC hw (by omega) rfl dX7_restore_68 ?_
    refine pf_X7_40 hC hw dX7_restore_69 (fun H locs hw => ?_)
    have hw : Wst E (XW E a) (sr (sr σ 0 (upd (upd (upd (upd (σ 0) 0 (σ 32 0)) 1 (σ 32 1)) 3 (nI (if 3 ≠ 0 then (3 - 1) else 29))) 4 (nI (kp - 1)))) 0 (upd (upd (upd (upd (upd (σ 0) 0 (σ 32 0)) 1 (σ 32 1)) 3 (nI (if 3 ≠ 0 then (3 - 1) else 29))) 4 (nI (kp - 1))) 2 (σ 32 2))) A s.heap H locs := hw
    have hst_ : sr (sr σ 0 (upd (upd (upd (upd (σ 0) 0 (σ 32 0)) 1 (σ 32 1)) 3 (nI (if 3 ≠ 0 then (3 - 1) else 29))) 4 (nI (kp - 1)))) 0 (upd (upd (upd (upd (upd (σ 0) 0 (σ 32 0)) 1 (σ 32 1)) 3 (nI (if 3 ≠ 0 then (3 - 1) else 29))) 4 (nI (kp - 1))) 2 (σ 32 2)) = sr σ 0 (upd (upd (upd (upd (upd (σ 0) 0 (σ 32 0)) 1 (σ 32 1)) 2 (σ 32 2)) 3 (nI (if 3 ≠ 0 then (3 - 1) else 29))) 4 (nI (kp - 1))) := by
      funext j_ x_
      by_cases e0 : j_ = 0
      · subst e0
        by_cases y0 : x_ = 0
        · subst y0; rfl
        · by_cases y1 : x_ = 1
          · subst y1; rfl
          · by_cases y2 : x_ = 2
            · subst y2; rfl
            · by_cases y3 : x_ = 3
              · subst y3; rfl
              · by_cases y4 : x_ = 4
                · subst y4; rfl
                · simp [sr, upd, y0, y1, y2, y3, y4]
      · simp only [sr, e0, if_false]
    rw [hst_] at hw
    refine lv_iconst (v := nI 3) hC.1 hC.2.1 dX7_restore_72 (by decide) ?_
    refine lv_istore_n (lv' := [(2, .int (nI 3)), (1, .ref (a 32)), (0, .ref (a 68))]) hC.1 hC.2.1 dX7_restore_73 rfl hl (by decide) rfl (fun ls hl => ?_)
    refine lv_aload_n hC.1 hC.2.1 dX7_restore_74 rfl (lv_at hl 1 rfl) ?_
    refine lv_iload_n hC.1 hC.2.1 dX7_restore_75 rfl (lv_at hl 0 rfl) ?_
    refine lv_aload_n hC.1 hC.2.1 dX7_restore_76 rfl (lv_at hl 2 rfl) ?_
    refine gf_X7_24 hC hw dX7_restore_77 ?_
    refine lv_iconst (v := nI 0) hC.1 hC.2.1 dX7_restore_80 (by decide) ?_
    refine lv_iconst (v := nI 3) hC.1 hC.2.1 dX7_restore_81 (by decide) ?_
    refine q_cpy (sp := 3) (dp := 0) (n := 3) 42 rfl 25 rfl (XW_s15 _) hC hw hl (by omega) (by omega) (by decide) (by decide) ⟨Nat.le_of_ble_eq_true rfl, Nat.le_of_ble_eq_true rfl⟩ wk2_182 dX7_restore_82 (fun H locs hw => ?_)
    have hw : Wst E (XW E a) (sr (sr σ 0 (upd (upd (upd (upd (upd (σ 0) 0 (σ 32 0)) 1 (σ 32 1)) 2 (σ 32 2)) 3 (nI (if 3 ≠ 0 then (3 - 1) else 29))) 4 (nI (kp - 1)))) 15 (va_cpy (σ 32) (σ 15) 3 0 3)) A s.heap H locs := hw
    have hst_ : sr (sr σ 0 (upd (upd (upd (upd (upd (σ 0) 0 (σ 32 0)) 1 (σ 32 1)) 2 (σ 32 2)) 3 (nI (if 3 ≠ 0 then (3 - 1) else 29))) 4 (nI (kp - 1)))) 15 (va_cpy (σ 32) (σ 15) 3 0 3) = sr (sr σ 15 (va_cpy (σ 32) (σ 15) 3 0 3)) 0 (upd (upd (upd (upd (upd (σ 0) 0 (σ 32 0)) 1 (σ 32 1)) 2 (σ 32 2)) 3 (nI (if 3 ≠ 0 then (3 - 1) else 29))) 4 (nI (kp - 1))) := by
      funext j_ x_
      by_cases e0 : j_ = 0
      · subst e0
        by_cases y0 : x_ = 0
        · subst y0; rfl
        · by_cases y1 : x_ = 1
          · subst y1; rfl
          · by_cases y2 : x_ = 2
            · subst y2; rfl
            · by_cases y3 : x_ = 3
              · subst y3; rfl
              · by_cases y4 : x_ = 4
                · subst y4; rfl
                · simp [sr, upd, y0, y1, y2, y3, y4]
      · by_cases e15 : j_ = 15
        · subst e15; rfl
        · simp only [sr, e0, e15, if_false]
    rw [hst_] at hw
    refine lv_iinc (v := nI (3 + 3)) (lv' := [(2, .int (nI (3 + 3))), (1, .ref (a 32)), (0, .ref (a 68))]) hC.1 hC.2.1 dX7_restore_85 hl (k := 0) rfl (nI_add _ _) (by decide) rfl (fun ls hl => ?_)
    refine lv_iconst (v := nI 0) hC.1 hC.2.1 dX7_restore_88 (by decide) ?_
    refine lv_istore_n (lv' := [(3, .int (nI 0)), (2, .int (nI (3 + 3))), (1, .ref (a 32)), (0, .ref (a 68))]) hC.1 hC.2.1 dX7_restore_89 rfl hl (by decide) rfl (fun ls hl => ?_)
    have L90_2 : ∀ (n : Nat), ∀ (h : Nat), (h ≤ 10) → (10 - h) < n → ∀ (H : Heap) (locs : List Loc) (ls : Array Slot), Wst E (XW E a) (sr (sr (sr σ 4 (upr (σ 32) h (σ 4))) 15 (va_cpy (σ 32) (σ 15) 3 0 3)) 0 (upd (upd (upd (upd (upd (σ 0) 0 (σ 32 0)) 1 (σ 32 1)) 2 (σ 32 2)) 3 (nI (if 3 ≠ 0 then (3 - 1) else 29))) 4 (nI (kp - 1)))) A s.heap H locs → lv_has ls 4 [(0, .ref (a 68)), (1, .ref (a 32)), (2, .int (nI (3 + 3))), (3, .int (nI h))] → W p l e ({ frames := 1, cells := 0, slots := 0, locals := 24 }) s m args below meth c H locs 0 0 Q (F0 m 90 ls []) := by
      intro n
      induction n with
      | zero => intro h hh hn; exact absurd hn (Nat.not_lt_zero _)
      | succ n ih90 =>
        intro h hh hn90 H locs ls hw hl
        refine lv_iload_n hC.1 hC.2.1 dX7_restore_90 rfl (lv_at hl 3 rfl) ?_
        refine lv_bipush (v := nI 10) hC.1 hC.2.1 dX7_restore_91 (by decide) ?_
        refine q_cmpge hC 125 (cNle (by omega) (by omega)) dX7_restore_93 (by decide) (fun (c4 : 10 ≤ h) => ?_) (fun (c4 : h < 10) => ?_)
        · have hh9 : h = 10 := by omega
          rw [hh9] at hw
          refine lv_iinc (v := nI (3 + 3 + 10)) (lv' := [(2, .int (nI (3 + 3 + 10))), (0, .ref (a 68)), (1, .ref (a 32)), (3, .int (nI h))]) hC.1 hC.2.1 dX7_restore_125 hl (k := 2) rfl (nI_add _ _) (by decide) rfl (fun ls hl => ?_)
          refine lv_aload_n hC.1 hC.2.1 dX7_restore_128 rfl (lv_at hl 2 rfl) ?_
          refine lv_iload_n hC.1 hC.2.1 dX7_restore_129 rfl (lv_at hl 0 rfl) ?_
          refine lv_aload_n hC.1 hC.2.1 dX7_restore_130 rfl (lv_at hl 1 rfl) ?_
          refine gf_X7_20 hC hw dX7_restore_131 ?_
          refine gf_X7_53 hC hw dX7_restore_134 ?_
          refine lv_iconst (v := nI 0) hC.1 hC.2.1 dX7_restore_137 (by decide) ?_
          refine lv_bipush (v := nI 24) hC.1 hC.2.1 dX7_restore_138 (by decide) ?_
          refine q_cpy (sp := (3 + 3 + 10)) (dp := 0) (n := 24) 42 rfl 21 rfl (XW_s11 _) hC hw hl (by omega) (by omega) (by decide) (by decide) ⟨Nat.le_of_ble_eq_true rfl, Nat.le_of_ble_eq_true rfl⟩ wk2_182 dX7_restore_140 (fun H locs hw => ?_)
          have hw : Wst E (XW E a) (sr (sr (sr (sr σ 4 (upr (σ 32) 10 (σ 4))) 15 (va_cpy (σ 32) (σ 15) 3 0 3)) 0 (upd (upd (upd (upd (upd (σ 0) 0 (σ 32 0)) 1 (σ 32 1)) 2 (σ 32 2)) 3 (nI (if 3 ≠ 0 then (3 - 1) else 29))) 4 (nI (kp - 1)))) 11 (va_cpy (σ 32) (σ 11) (3 + 3 + 10) 0 24)) A s.heap H locs := hw
          have hst_ : sr (sr (sr (sr σ 4 (upr (σ 32) 10 (σ 4))) 15 (va_cpy (σ 32) (σ 15) 3 0 3)) 0 (upd (upd (upd (upd (upd (σ 0) 0 (σ 32 0)) 1 (σ 32 1)) 2 (σ 32 2)) 3 (nI (if 3 ≠ 0 then (3 - 1) else 29))) 4 (nI (kp - 1)))) 11 (va_cpy (σ 32) (σ 11) (3 + 3 + 10) 0 24) = sr (sr (sr (sr σ 4 (upr (σ 32) 10 (σ 4))) 11 (va_cpy (σ 32) (σ 11) (3 + 3 + 10) 0 24)) 15 (va_cpy (σ 32) (σ 15) 3 0 3)) 0 (upd (upd (upd (upd (upd (σ 0) 0 (σ 32 0)) 1 (σ 32 1)) 2 (σ 32 2)) 3 (nI (if 3 ≠ 0 then (3 - 1) else 29))) 4 (nI (kp - 1))) := by
            funext j_ x_
            by_cases e0 : j_ = 0
            · subst e0
              by_cases y0 : x_ = 0
              · subst y0; rfl
              · by_cases y1 : x_ = 1
                · subst y1; rfl
                · by_cases y2 : x_ = 2
                  · subst y2; rfl
                  · by_cases y3 : x_ = 3
                    · subst y3; rfl
                    · by_cases y4 : x_ = 4
                      · subst y4; rfl
                      · simp [sr, upd, y0, y1, y2, y3, y4]
            · by_cases e4 : j_ = 4
              · subst e4; rfl
              · by_cases e11 : j_ = 11
                · subst e11; rfl
                · by_cases e15 : j_ = 15
                  · subst e15; rfl
                  · simp only [sr, e0, e4, e11, e15, if_false]
          rw [hst_] at hw
          refine lv_aload_n hC.1 hC.2.1 dX7_restore_143 rfl (lv_at hl 2 rfl) ?_
          refine lv_iload_n hC.1 hC.2.1 dX7_restore_144 rfl (lv_at hl 0 rfl) ?_
          refine lv_bipush (v := nI 24) hC.1 hC.2.1 dX7_restore_145 (by decide) ?_
          refine q_addN hC dX7_restore_147 ?_
          refine lv_aload_n hC.1 hC.2.1 dX7_restore_148 rfl (lv_at hl 1 rfl) ?_
          refine gf_X7_20 hC hw dX7_restore_149 ?_
          refine gf_X7_56 hC hw dX7_restore_152 ?_
          refine lv_iconst (v := nI 0) hC.1 hC.2.1 dX7_restore_155 (by decide) ?_
          refine lv_bipush (v := nI 24) hC.1 hC.2.1 dX7_restore_156 (by decide) ?_
          refine q_cpy (sp := ((3 + 3 + 10) + 24)) (dp := 0) (n := 24) 42 rfl 22 rfl (XW_s12 _) hC hw hl (by omega) (by omega) (by decide) (by decide) ⟨Nat.le_of_ble_eq_true rfl, Nat.le_of_ble_eq_true rfl⟩ wk2_182 dX7_restore_158 (fun H locs hw => ?_)
          have hw : Wst E (XW E a) (sr (sr (sr (sr (sr σ 4 (upr (σ 32) 10 (σ 4))) 11 (va_cpy (σ 32) (σ 11) (3 + 3 + 10) 0 24)) 15 (va_cpy (σ 32) (σ 15) 3 0 3)) 0 (upd (upd (upd (upd (upd (σ 0) 0 (σ 32 0)) 1 (σ 32 1)) 2 (σ 32 2)) 3 (nI (if 3 ≠ 0 then (3 - 1) else 29))) 4 (nI (kp - 1)))) 12 (va_cpy (σ 32) (σ 12) ((3 + 3 + 10) + 24) 0 24)) A s.heap H locs := hw
          have hst_ : sr (sr (sr (sr (sr σ 4 (upr (σ 32) 10 (σ 4))) 11 (va_cpy (σ 32) (σ 11) (3 + 3 + 10) 0 24)) 15 (va_cpy (σ 32) (σ 15) 3 0 3)) 0 (upd (upd (upd (upd (upd (σ 0) 0 (σ 32 0)) 1 (σ 32 1)) 2 (σ 32 2)) 3 (nI (if 3 ≠ 0 then (3 - 1) else 29))) 4 (nI (kp - 1)))) 12 (va_cpy (σ 32) (σ 12) ((3 + 3 + 10) + 24) 0 24) = sr (sr (sr (sr (sr σ 4 (upr (σ 32) 10 (σ 4))) 11 (va_cpy (σ 32) (σ 11) (3 + 3 + 10) 0 24)) 12 (va_cpy (σ 32) (σ 12) ((3 + 3 + 10) + 24) 0 24)) 15 (va_cpy (σ 32) (σ 15) 3 0 3)) 0 (upd (upd (upd (upd (upd (σ 0) 0 (σ 32 0)) 1 (σ 32 1)) 2 (σ 32 2)) 3 (nI (if 3 ≠ 0 then (3 - 1) else 29))) 4 (nI (kp - 1))) := by
            funext j_ x_
            by_cases e0 : j_ = 0
            · subst e0
              by_cases y0 : x_ = 0
              · subst y0; rfl
              · by_cases y1 : x_ = 1
                · subst y1; rfl
                · by_cases y2 : x_ = 2
                  · subst y2; rfl
                  · by_cases y3 : x_ = 3
                    · subst y3; rfl
                    · by_cases y4 : x_ = 4
                      · subst y4; rfl
                      · simp [sr, upd, y0, y1, y2, y3, y4]
            · by_cases e4 : j_ = 4
              · subst e4; rfl
              · by_cases e11 : j_ = 11
                · subst e11; rfl
                · by_cases e12 : j_ = 12
                  · subst e12; rfl
                  · by_cases e15 : j_ = 15
                    · subst e15; rfl
                    · simp only [sr, e0, e4, e11, e12, e15, if_false]
          rw [hst_] at hw
          refine lv_aload_n hC.1 hC.2.1 dX7_restore_161 rfl (lv_at hl 2 rfl) ?_
          refine lv_iload_n hC.1 hC.2.1 dX7_restore_162 rfl (lv_at hl 0 rfl) ?_
          refine lv_bipush (v := nI 48) hC.1 hC.2.1 dX7_restore_163 (by decide) ?_
          refine q_addN hC dX7_restore_165 ?_
          refine lv_aload_n hC.1 hC.2.1 dX7_restore_166 rfl (lv_at hl 1 rfl) ?_
          refine gf_X7_20 hC hw dX7_restore_167 ?_
          refine gf_X7_59 hC hw dX7_restore_170 ?_
          refine lv_iconst (v := nI 0) hC.1 hC.2.1 dX7_restore_173 (by decide) ?_
          refine lv_bipush (v := nI 24) hC.1 hC.2.1 dX7_restore_174 (by decide) ?_
          refine q_cpy (sp := ((3 + 3 + 10) + 48)) (dp := 0) (n := 24) 42 rfl 23 rfl (XW_s13 _) hC hw hl (by omega) (by omega) (by decide) (by decide) ⟨Nat.le_of_ble_eq_true rfl, Nat.le_of_ble_eq_true rfl⟩ wk2_182 dX7_restore_176 (fun H locs hw => ?_)
          have hw : Wst E (XW E a) (sr (sr (sr (sr (sr (sr σ 4 (upr (σ 32) 10 (σ 4))) 11 (va_cpy (σ 32) (σ 11) (3 + 3 + 10) 0 24)) 12 (va_cpy (σ 32) (σ 12) ((3 + 3 + 10) + 24) 0 24)) 15 (va_cpy (σ 32) (σ 15) 3 0 3)) 0 (upd (upd (upd (upd (upd (σ 0) 0 (σ 32 0)) 1 (σ 32 1)) 2 (σ 32 2)) 3 (nI (if 3 ≠ 0 then (3 - 1) else 29))) 4 (nI (kp - 1)))) 13 (va_cpy (σ 32) (σ 13) ((3 + 3 + 10) + 48) 0 24)) A s.heap H locs := hw
          have hst_ : sr (sr (sr (sr (sr (sr σ 4 (upr (σ 32) 10 (σ 4))) 11 (va_cpy (σ 32) (σ 11) (3 + 3 + 10) 0 24)) 12 (va_cpy (σ 32) (σ 12) ((3 + 3 + 10) + 24) 0 24)) 15 (va_cpy (σ 32) (σ 15) 3 0 3)) 0 (upd (upd (upd (upd (upd (σ 0) 0 (σ 32 0)) 1 (σ 32 1)) 2 (σ 32 2)) 3 (nI (if 3 ≠ 0 then (3 - 1) else 29))) 4 (nI (kp - 1)))) 13 (va_cpy (σ 32) (σ 13) ((3 + 3 + 10) + 48) 0 24) = sr (sr (sr (sr (sr (sr σ 4 (upr (σ 32) 10 (σ 4))) 11 (va_cpy (σ 32) (σ 11) (3 + 3 + 10) 0 24)) 12 (va_cpy (σ 32) (σ 12) ((3 + 3 + 10) + 24) 0 24)) 13 (va_cpy (σ 32) (σ 13) ((3 + 3 + 10) + 48) 0 24)) 15 (va_cpy (σ 32) (σ 15) 3 0 3)) 0 (upd (upd (upd (upd (upd (σ 0) 0 (σ 32 0)) 1 (σ 32 1)) 2 (σ 32 2)) 3 (nI (if 3 ≠ 0 then (3 - 1) else 29))) 4 (nI (kp - 1))) := by
            funext j_ x_
            by_cases e0 : j_ = 0
            · subst e0
              by_cases y0 : x_ = 0
              · subst y0; rfl
              · by_cases y1 : x_ = 1
                · subst y1; rfl
                · by_cases y2 : x_ = 2
                  · subst y2; rfl
                  · by_cases y3 : x_ = 3
                    · subst y3; rfl
                    · by_cases y4 : x_ = 4
                      · subst y4; rfl
                      · simp [sr, upd, y0, y1, y2, y3, y4]
            · by_cases e4 : j_ = 4
              · subst e4; rfl
              · by_cases e11 : j_ = 11
                · subst e11; rfl
                · by_cases e12 : j_ = 12
                  · subst e12; rfl
                  · by_cases e13 : j_ = 13
                    · subst e13; rfl
                    · by_cases e15 : j_ = 15
                      · subst e15; rfl
                      · simp only [sr, e0, e4, e11, e12, e13, e15, if_false]
          rw [hst_] at hw
          refine lv_aload_n hC.1 hC.2.1 dX7_restore_179 rfl (lv_at hl 2 rfl) ?_
          refine lv_iload_n hC.1 hC.2.1 dX7_restore_180 rfl (lv_at hl 0 rfl) ?_
          refine lv_bipush (v := nI 72) hC.1 hC.2.1 dX7_restore_181 (by decide) ?_
          refine q_addN hC dX7_restore_183 ?_
          refine lv_aload_n hC.1 hC.2.1 dX7_restore_184 rfl (lv_at hl 1 rfl) ?_
          refine gf_X7_20 hC hw dX7_restore_185 ?_
          refine gf_X7_62 hC hw dX7_restore_188 ?_
          refine lv_iconst (v := nI 0) hC.1 hC.2.1 dX7_restore_191 (by decide) ?_
          refine lv_bipush (v := nI 24) hC.1 hC.2.1 dX7_restore_192 (by decide) ?_
          refine q_cpy (sp := ((3 + 3 + 10) + 72)) (dp := 0) (n := 24) 42 rfl 24 rfl (XW_s14 _) hC hw hl (by omega) (by omega) (by decide) (by decide) ⟨Nat.le_of_ble_eq_true rfl, Nat.le_of_ble_eq_true rfl⟩ wk2_182 dX7_restore_194 (fun H locs hw => ?_)
          have hw : Wst E (XW E a) (sr (sr (sr (sr (sr (sr (sr σ 4 (upr (σ 32) 10 (σ 4))) 11 (va_cpy (σ 32) (σ 11) (3 + 3 + 10) 0 24)) 12 (va_cpy (σ 32) (σ 12) ((3 + 3 + 10) + 24) 0 24)) 13 (va_cpy (σ 32) (σ 13) ((3 + 3 + 10) + 48) 0 24)) 15 (va_cpy (σ 32) (σ 15) 3 0 3)) 0 (upd (upd (upd (upd (upd (σ 0) 0 (σ 32 0)) 1 (σ 32 1)) 2 (σ 32 2)) 3 (nI (if 3 ≠ 0 then (3 - 1) else 29))) 4 (nI (kp - 1)))) 14 (va_cpy (σ 32) (σ 14) ((3 + 3 + 10) + 72) 0 24)) A s.heap H locs := hw
          have hst_ : sr (sr (sr (sr (sr (sr (sr σ 4 (upr (σ 32) 10 (σ 4))) 11 (va_cpy (σ 32) (σ 11) (3 + 3 + 10) 0 24)) 12 (va_cpy (σ 32) (σ 12) ((3 + 3 + 10) + 24) 0 24)) 13 (va_cpy (σ 32) (σ 13) ((3 + 3 + 10) + 48) 0 24)) 15 (va_cpy (σ 32) (σ 15) 3 0 3)) 0 (upd (upd (upd (upd (upd (σ 0) 0 (σ 32 0)) 1 (σ 32 1)) 2 (σ 32 2)) 3 (nI (if 3 ≠ 0 then (3 - 1) else 29))) 4 (nI (kp - 1)))) 14 (va_cpy (σ 32) (σ 14) ((3 + 3 + 10) + 72) 0 24) = sr (sr (sr (sr (sr (sr (sr σ 4 (upr (σ 32) 10 (σ 4))) 11 (va_cpy (σ 32) (σ 11) (3 + 3 + 10) 0 24)) 12 (va_cpy (σ 32) (σ 12) ((3 + 3 + 10) + 24) 0 24)) 13 (va_cpy (σ 32) (σ 13) ((3 + 3 + 10) + 48) 0 24)) 14 (va_cpy (σ 32) (σ 14) ((3 + 3 + 10) + 72) 0 24)) 15 (va_cpy (σ 32) (σ 15) 3 0 3)) 0 (upd (upd (upd (upd (upd (σ 0) 0 (σ 32 0)) 1 (σ 32 1)) 2 (σ 32 2)) 3 (nI (if 3 ≠ 0 then (3 - 1) else 29))) 4 (nI (kp - 1))) := by
            funext j_ x_
            by_cases e0 : j_ = 0
            · subst e0
              by_cases y0 : x_ = 0
              · subst y0; rfl
              · by_cases y1 : x_ = 1
                · subst y1; rfl
                · by_cases y2 : x_ = 2
                  · subst y2; rfl
                  · by_cases y3 : x_ = 3
                    · subst y3; rfl
                    · by_cases y4 : x_ = 4
                      · subst y4; rfl
                      · simp [sr, upd, y0, y1, y2, y3, y4]
            · by_cases e4 : j_ = 4
              · subst e4; rfl
              · by_cases e11 : j_ = 11
                · subst e11; rfl
                · by_cases e12 : j_ = 12
                  · subst e12; rfl
                  · by_cases e13 : j_ = 13
                    · subst e13; rfl
                    · by_cases e14 : j_ = 14
                      · subst e14; rfl
                      · by_cases e15 : j_ = 15
                        · subst e15; rfl
                        · simp only [sr, e0, e4, e11, e12, e13, e14, e15, if_false]
          rw [hst_] at hw
          refine hret _ _ _ _ _ hw ?_ dX7_restore_197
          exact rfl
        · refine lv_aload_n hC.1 hC.2.1 dX7_restore_96 rfl (lv_at hl 0 rfl) ?_
          refine gf_X7_16 hC hw dX7_restore_97 ?_
          refine gf_X7_49 hC hw dX7_restore_100 ?_
          refine lv_iload_n hC.1 hC.2.1 dX7_restore_103 rfl (lv_at hl 3 rfl) ?_
          refine lv_aload_n hC.1 hC.2.1 dX7_restore_104 rfl (lv_at hl 1 rfl) ?_
          refine lv_iload_n hC.1 hC.2.1 dX7_restore_105 rfl (lv_at hl 2 rfl) ?_
          refine lv_iload_n hC.1 hC.2.1 dX7_restore_106 rfl (lv_at hl 3 rfl) ?_
          refine q_addN hC dX7_restore_107 ?_
          refine q_ald (Wf := XW E a) (v := σ 32 ((3 + 3) + h)) 42 rfl (by decide) hC hw (by omega) rfl dX7_restore_108 ?_
          refine lv_iconst (v := nI 1) hC.1 hC.2.1 dX7_restore_109 (by decide) ?_
          have J118_6 : ∀ (w5 : Int32), w5 = (if (σ 32 ((3 + 3) + h)) = 1 then (1 : Int32) else 0) → ∀ (H : Heap) (locs : List Loc) (ls : Array Slot), Wst E (XW E a) (sr (sr (sr σ 4 (upr (σ 32) h (σ 4))) 15 (va_cpy (σ 32) (σ 15) 3 0 3)) 0 (upd (upd (upd (upd (upd (σ 0) 0 (σ 32 0)) 1 (σ 32 1)) 2 (σ 32 2)) 3 (nI (if 3 ≠ 0 then (3 - 1) else 29))) 4 (nI (kp - 1)))) A s.heap H locs → lv_has ls 4 [(0, .ref (a 68)), (1, .ref (a 32)), (2, .int (nI (3 + 3))), (3, .int (nI h))] → W p l e ({ frames := 1, cells := 0, slots := 0, locals := 24 }) s m args below meth c H locs 0 0 Q (F0 m 118 ls [.int (w5), .int (nI h), .ref (a 4)]) := by
            intro w5 e6 H locs ls hw hl
            subst e6
            refine as_X4 hC hw (by omega) vz_B dX7_restore_118 (fun H locs hw => ?_)
            have hw : Wst E (XW E a) (sr (sr (sr (sr σ 4 (upr (σ 32) h (σ 4))) 15 (va_cpy (σ 32) (σ 15) 3 0 3)) 0 (upd (upd (upd (upd (upd (σ 0) 0 (σ 32 0)) 1 (σ 32 1)) 2 (σ 32 2)) 3 (nI (if 3 ≠ 0 then (3 - 1) else 29))) 4 (nI (kp - 1)))) 4 (upd (upr (σ 32) h (σ 4)) h (if (σ 32 ((3 + 3) + h)) = 1 then (1 : Int32) else 0))) A s.heap H locs := hw
            have hst_ : sr (sr (sr (sr σ 4 (upr (σ 32) h (σ 4))) 15 (va_cpy (σ 32) (σ 15) 3 0 3)) 0 (upd (upd (upd (upd (upd (σ 0) 0 (σ 32 0)) 1 (σ 32 1)) 2 (σ 32 2)) 3 (nI (if 3 ≠ 0 then (3 - 1) else 29))) 4 (nI (kp - 1)))) 4 (upd (upr (σ 32) h (σ 4)) h (if (σ 32 ((3 + 3) + h)) = 1 then (1 : Int32) else 0)) = sr (sr (sr σ 4 (upd (upr (σ 32) h (σ 4)) h (if (σ 32 ((3 + 3) + h)) = 1 then (1 : Int32) else 0))) 15 (va_cpy (σ 32) (σ 15) 3 0 3)) 0 (upd (upd (upd (upd (upd (σ 0) 0 (σ 32 0)) 1 (σ 32 1)) 2 (σ 32 2)) 3 (nI (if 3 ≠ 0 then (3 - 1) else 29))) 4 (nI (kp - 1))) := by
              funext j_ x_
              by_cases e0 : j_ = 0
              · subst e0
                by_cases y0 : x_ = 0
                · subst y0; rfl
                · by_cases y1 : x_ = 1
                  · subst y1; rfl
                  · by_cases y2 : x_ = 2
                    · subst y2; rfl
                    · by_cases y3 : x_ = 3
                      · subst y3; rfl
                      · by_cases y4 : x_ = 4
                        · subst y4; rfl
                        · simp [sr, upd, y0, y1, y2, y3, y4]
              · by_cases e4 : j_ = 4
                · subst e4; rfl
                · by_cases e15 : j_ = 15
                  · subst e15; rfl
                  · simp only [sr, e0, e4, e15, if_false]
            rw [hst_] at hw
            refine lv_iinc (v := nI (h + 1)) (lv' := [(3, .int (nI (h + 1))), (0, .ref (a 68)), (1, .ref (a 32)), (2, .int (nI (3 + 3)))]) hC.1 hC.2.1 dX7_restore_119 hl (k := 3) rfl (nI_add _ _) (by decide) rfl (fun ls hl => ?_)
            refine lv_goto (tgt := 90) hC.1 hC.2.1 dX7_restore_122 (by decide) ?_
            rw [upr_s] at hw
            exact ih90 (h + 1) (by omega) (by omega) _ _ _ hw (lv_sub hl [1, 2, 3, 0] rfl)
          refine q_cmpne hC 117 cI dX7_restore_110 (by decide) (fun (c7 : ¬ ((σ 32 ((3 + 3) + h)) = 1)) => ?_) (fun (c7 : (σ 32 ((3 + 3) + h)) = 1) => ?_)
          · refine lv_iconst (v := nI 0) hC.1 hC.2.1 dX7_restore_117 (by decide) ?_
            exact J118_6 _ (if_neg c7).symm _ _ _ hw (lv_sub hl [0, 1, 2, 3] rfl)
          · refine lv_iconst (v := nI 1) hC.1 hC.2.1 dX7_restore_113 (by decide) ?_
            refine lv_goto (tgt := 118) hC.1 hC.2.1 dX7_restore_114 (by decide) ?_
            exact J118_6 _ (if_pos c7).symm _ _ _ hw (lv_sub hl [0, 1, 2, 3] rfl)
    have hst_ : sr (sr σ 15 (va_cpy (σ 32) (σ 15) 3 0 3)) 0 (upd (upd (upd (upd (upd (σ 0) 0 (σ 32 0)) 1 (σ 32 1)) 2 (σ 32 2)) 3 (nI (if 3 ≠ 0 then (3 - 1) else 29))) 4 (nI (kp - 1))) = sr (sr (sr σ 4 (upr (σ 32) 0 (σ 4))) 15 (va_cpy (σ 32) (σ 15) 3 0 3)) 0 (upd (upd (upd (upd (upd (σ 0) 0 (σ 32 0)) 1 (σ 32 1)) 2 (σ 32 2)) 3 (nI (if 3 ≠ 0 then (3 - 1) else 29))) 4 (nI (kp - 1))) := by
      funext j_ x_
      by_cases e0 : j_ = 0
      · subst e0
        by_cases y0 : x_ = 0
        · subst y0; rfl
        · by_cases y1 : x_ = 1
          · subst y1; rfl
          · by_cases y2 : x_ = 2
            · subst y2; rfl
            · by_cases y3 : x_ = 3
              · subst y3; rfl
              · by_cases y4 : x_ = 4
                · subst y4; rfl
                · simp [sr, upd, y0, y1, y2, y3, y4]
      · by_cases e4 : j_ = 4
        · subst e4; show σ 4 x_ = upr (σ 32) 0 (σ 4) x_; rw [upr_0]
        · by_cases e15 : j_ = 15
          · subst e15; rfl
          · simp only [sr, e0, e4, e15, if_false]
    rw [hst_] at hw
    exact L90_2 _ 0 (by omega) (Nat.lt_succ_self _) _ _ _ hw (lv_sub hl [3, 2, 1, 0] rfl)
  refine q_ifne hC 13 (cN0 (by omega)) dX7_restore_5 (by decide) (fun (c8 : 3 ≠ 0) => ?_) (fun (c8 : 3 = 0) => ?_)
  · refine lv_aload_n hC.1 hC.2.1 dX7_restore_13 rfl (lv_at hl 0 rfl) ?_
    refine gf_X7_28 (v := nI 3) hC hw hnx dX7_restore_14 ?_
    refine lv_iconst (v := nI 1) hC.1 hC.2.1 dX7_restore_17 (by decide) ?_
    refine q_subN hC (by omega) dX7_restore_18 ?_
    exact J19_2 _ (by (rw [if_pos c8]) <;> rfl) _ _ _ hw (lv_sub hl [0] rfl)
  · refine lv_bipush (v := nI 29) hC.1 hC.2.1 dX7_restore_8 (by decide) ?_
    refine lv_goto (tgt := 19) hC.1 hC.2.1 dX7_restore_10 (by decide) ?_
    exact J19_2 _ (by (rw [if_neg (fun q => q c8)]) <;> rfl) _ _ _ hw (lv_sub hl [0] rfl)
set_option maxHeartbeats 4000000 in
set_option maxRecDepth 100000 in
theorem tX7_restore_k4 (l : Launch) (E : EV) (a : Nat → Nat) (σ : St) (kp : Nat) (hnx : σ 0 3 = nI 4) (hkp : σ 0 4 = nI kp) (hk30 : kp ≤ 30) (hk1 : 1 ≤ kp) : MV l E (XW E a) yX7_restore (Cond.code yX7_restore cX7_restore 4 none) ({ frames := 1, cells := 0, slots := 0, locals := 24 }) [.ref (a 68)] σ (fun u_ => u_ = sr (sr (sr (sr (sr (sr (sr σ 4 (upr (σ 33) 10 (σ 4))) 11 (va_cpy (σ 33) (σ 11) 16 0 24)) 12 (va_cpy (σ 33) (σ 12) 40 0 24)) 13 (va_cpy (σ 33) (σ 13) 64 0 24)) 14 (va_cpy (σ 33) (σ 14) 88 0 24)) 15 (va_cpy (σ 33) (σ 15) 3 0 3)) 0 (upd (upd (upd (upd (upd (σ 0) 0 ((σ 33) 0)) 1 ((σ 33) 1)) 2 ((σ 33) 2)) 3 (nI (if 4 ≠ 0 then 4 - 1 else 29))) 4 (nI (kp - 1)))) := by
  refine MV.mk (by decide +kernel) (Nat.le_of_ble_eq_true rfl) ?_
  intro p e s m args below meth c ls A Q hret hC hw hl
  have hC : Cxt E p s m args meth c cX7_restore 4 none RX7 A := hC
  have hl : lv_has ls 4 [(0, .ref (a 68))] := hl
  refine lv_aload_n hC.1 hC.2.1 dX7_restore_0 rfl (lv_at hl 0 rfl) ?_
  refine lv_aload_n hC.1 hC.2.1 dX7_restore_1 rfl (lv_at hl 0 rfl) ?_
  refine gf_X7_28 (v := nI 4) hC hw hnx dX7_restore_2 ?_
  have J19_2 : ∀ (w1 : Nat), w1 = (if 4 ≠ 0 then (4 - 1) else 29) → ∀ (H : Heap) (locs : List Loc) (ls : Array Slot), Wst E (XW E a) (σ) A s.heap H locs → lv_has ls 4 [(0, .ref (a 68))] → W p l e ({ frames := 1, cells := 0, slots := 0, locals := 24 }) s m args below meth c H locs 0 0 Q (F0 m 19 ls [.int (nI w1), .ref (a 68)]) := by
    intro w1 e2 H locs ls hw hl
    subst e2
    refine pf_X7_28 hC hw dX7_restore_19 (fun H locs hw => ?_)
    have hw : Wst E (XW E a) (sr σ 0 (upd (σ 0) 3 (nI (if 4 ≠ 0 then (4 - 1) else 29)))) A s.heap H locs := hw
    refine lv_aload_n hC.1 hC.2.1 dX7_restore_22 rfl (lv_at hl 0 rfl) ?_
    refine lv_dup hC.1 hC.2.1 dX7_restore_23 rfl ?_
    refine gf_X7_65 (v := nI kp) hC hw hkp dX7_restore_24 ?_
    refine lv_iconst (v := nI 1) hC.1 hC.2.1 dX7_restore_27 (by decide) ?_
    refine q_subN hC (by omega) dX7_restore_28 ?_
    refine pf_X7_65 hC hw dX7_restore_29 (fun H locs hw => ?_)
    have hw : Wst E (XW E a) (sr (sr σ 0 (upd (σ 0) 3 (nI (if 4 ≠ 0 then (4 - 1) else 29)))) 0 (upd (upd (σ 0) 3 (nI (if 4 ≠ 0 then (4 - 1) else 29))) 4 (nI (kp - 1)))) A s.heap H locs := hw
    have hst_ : sr (sr σ 0 (upd (σ 0) 3 (nI (if 4 ≠ 0 then (4 - 1) else 29)))) 0 (upd (upd (σ 0) 3 (nI (if 4 ≠ 0 then (4 - 1) else 29))) 4 (nI (kp - 1))) = sr σ 0 (upd (upd (σ 0) 3 (nI (if 4 ≠ 0 then (4 - 1) else 29))) 4 (nI (kp - 1))) := by
      funext j_ x_
      by_cases e0 : j_ = 0
      · subst e0
        by_cases y3 : x_ = 3
        · subst y3; rfl
        · by_cases y4 : x_ = 4
          · subst y4; rfl
          · simp [sr, upd, y3, y4]
      · simp only [sr, e0, if_false]
    rw [hst_] at hw
    refine lv_aload_n hC.1 hC.2.1 dX7_restore_32 rfl (lv_at hl 0 rfl) ?_
    refine gf_X7_13 hC hw dX7_restore_33 ?_
    refine lv_aload_n hC.1 hC.2.1 dX7_restore_36 rfl (lv_at hl 0 rfl) ?_
    refine gf_X7_28 (v := nI (if 4 ≠ 0 then (4 - 1) else 29)) hC hw rfl dX7_restore_37 ?_
    refine q_top (y := nI 3) rfl ?_
    refine q_aald hC hw (i := 3) (by decide) dX7_restore_40 ?_
    refine lv_astore_n (lv' := [(1, .ref (a 33)), (0, .ref (a 68))]) hC.1 hC.2.1 dX7_restore_41 rfl hl (by decide) rfl (fun ls hl => ?_)
    refine lv_aload_n hC.1 hC.2.1 dX7_restore_42 rfl (lv_at hl 1 rfl) ?_
    refine gf_X7_16 hC hw dX7_restore_43 ?_
    refine lv_aload_n hC.1 hC.2.1 dX7_restore_46 rfl (lv_at hl 0 rfl) ?_
    refine lv_iconst (v := nI 0) hC.1 hC.2.1 dX7_restore_47 (by decide) ?_
    refine q_ald (Wf := XW E a) (v := σ 33 0) 43 rfl (by decide) hC hw (by omega) rfl dX7_restore_48 ?_
    refine pf_X7_32 hC hw dX7_restore_49 (fun H locs hw => ?_)
    have hw : Wst E (XW E a) (sr (sr σ 0 (upd (upd (σ 0) 3 (nI (if 4 ≠ 0 then (4 - 1) else 29))) 4 (nI (kp - 1)))) 0 (upd (upd (upd (σ 0) 3 (nI (if 4 ≠ 0 then (4 - 1) else 29))) 4 (nI (kp - 1))) 0 (σ 33 0))) A s.heap H locs := hw
    have hst_ : sr (sr σ 0 (upd (upd (σ 0) 3 (nI (if 4 ≠ 0 then (4 - 1) else 29))) 4 (nI (kp - 1)))) 0 (upd (upd (upd (σ 0) 3 (nI (if 4 ≠ 0 then (4 - 1) else 29))) 4 (nI (kp - 1))) 0 (σ 33 0)) = sr σ 0 (upd (upd (upd (σ 0) 0 (σ 33 0)) 3 (nI (if 4 ≠ 0 then (4 - 1) else 29))) 4 (nI (kp - 1))) := by
      funext j_ x_
      by_cases e0 : j_ = 0
      · subst e0
        by_cases y0 : x_ = 0
        · subst y0; rfl
        · by_cases y3 : x_ = 3
          · subst y3; rfl
          · by_cases y4 : x_ = 4
            · subst y4; rfl
            · simp [sr, upd, y0, y3, y4]
      · simp only [sr, e0, if_false]
    rw [hst_] at hw
    refine lv_aload_n hC.1 hC.2.1 dX7_restore_52 rfl (lv_at hl 1 rfl) ?_
    refine gf_X7_20 hC hw dX7_restore_53 ?_
    refine lv_aload_n hC.1 hC.2.1 dX7_restore_56 rfl (lv_at hl 0 rfl) ?_
    refine lv_iconst (v := nI 1) hC.1 hC.2.1 dX7_restore_57 (by decide) ?_
    refine q_ald (Wf := XW E a) (v := σ 33 1) 43 rfl (by decide) hC hw (by omega) rfl dX7_restore_58 ?_
    refine pf_X7_37 hC hw dX7_restore_59 (fun H locs hw => ?_)
    have hw : Wst E (XW E a) (sr (sr σ 0 (upd (upd (upd (σ 0) 0 (σ 33 0)) 3 (nI (if 4 ≠ 0 then (4 - 1) else 29))) 4 (nI (kp - 1)))) 0 (upd (upd (upd (upd (σ 0) 0 (σ 33 0)) 3 (nI (if 4 ≠ 0 then (4 - 1) else 29))) 4 (nI (kp - 1))) 1 (σ 33 1))) A s.heap H locs := hw
    have hst_ : sr (sr σ 0 (upd (upd (upd (σ 0) 0 (σ 33 0)) 3 (nI (if 4 ≠ 0 then (4 - 1) else 29))) 4 (nI (kp - 1)))) 0 (upd (upd (upd (upd (σ 0) 0 (σ 33 0)) 3 (nI (if 4 ≠ 0 then (4 - 1) else 29))) 4 (nI (kp - 1))) 1 (σ 33 1)) = sr σ 0 (upd (upd (upd (upd (σ 0) 0 (σ 33 0)) 1 (σ 33 1)) 3 (nI (if 4 ≠ 0 then (4 - 1) else 29))) 4 (nI (kp - 1))) := by
      funext j_ x_
      by_cases e0 : j_ = 0
      · subst e0
        by_cases y0 : x_ = 0
        · subst y0; rfl
        · by_cases y1 : x_ = 1
          · subst y1; rfl
          · by_cases y3 : x_ = 3
            · subst y3; rfl
            · by_cases y4 : x_ = 4
              · subst y4; rfl
              · simp [sr, upd, y0, y1, y3, y4]
      · simp only [sr, e0, if_false]
    rw [hst_] at hw
    refine lv_aload_n hC.1 hC.2.1 dX7_restore_62 rfl (lv_at hl 1 rfl) ?_
    refine gf_X7_20 hC hw dX7_restore_63 ?_
    refine lv_aload_n hC.1 hC.2.1 dX7_restore_66 rfl (lv_at hl 0 rfl) ?_
    refine lv_iconst (v := nI 2) hC.1 hC.2.1 dX7_restore_67 (by decide) ?_
    refine q_ald (Wf := XW E a) (v := σ 33 2) 43 rfl (by decide) hC hw (by omega) rfl dX7_restore_68 ?_
    refine pf_X7_40 hC hw dX7_restore_69 (fun H locs hw => ?_)
    have hw : Wst E (XW E a) (sr (sr σ 0 (upd (upd (upd (upd (σ 0) 0 (σ 33 0)) 1 (σ 33 1)) 3 (nI (if 4 ≠ 0 then (4 - 1) else 29))) 4 (nI (kp - 1)))) 0 (upd (upd (upd (upd (upd (σ 0) 0 (σ 33 0)) 1 (σ 33 1)) 3 (nI (if 4 ≠ 0 then (4 - 1) else 29))) 4 (nI (kp - 1))) 2 (σ 33 2))) A s.heap H locs := hw
    have hst_ : sr (sr σ 0 (upd (upd (upd (upd (σ 0) 0 (σ 33 0)) 1 (σ 33 1)) 3 (nI (if 4 ≠ 0 then (4 - 1) else 29))) 4 (nI (kp - 1)))) 0 (upd (upd (upd (upd (upd (σ 0) 0 (σ 33 0)) 1 (σ 33 1)) 3 (nI (if 4 ≠ 0 then (4 - 1) else 29))) 4 (nI (kp - 1))) 2 (σ 33 2)) = sr σ 0 (upd (upd (upd (upd (upd (σ 0) 0 (σ 33 0)) 1 (σ 33 1)) 2 (σ 33 2)) 3 (nI (if 4 ≠ 0 then (4 - 1) else 29))) 4 (nI (kp - 1))) := by
      funext j_ x_
      by_cases e0 : j_ = 0
      · subst e0
        by_cases y0 : x_ = 0
        · subst y0; rfl
        · by_cases y1 : x_ = 1
          · subst y1; rfl
          · by_cases y2 : x_ = 2
            · subst y2; rfl
            · by_cases y3 : x_ = 3
              · subst y3; rfl
              · by_cases y4 : x_ = 4
                · subst y4; rfl
                · simp [sr, upd, y0, y1, y2, y3, y4]
      · simp only [sr, e0, if_false]
    rw [hst_] at hw
    refine lv_iconst (v := nI 3) hC.1 hC.2.1 dX7_restore_72 (by decide) ?_
    refine lv_istore_n (lv' := [(2, .int (nI 3)), (1, .ref (a 33)), (0, .ref (a 68))]) hC.1 hC.2.1 dX7_restore_73 rfl hl (by decide) rfl (fun ls hl => ?_)
    refine lv_aload_n hC.1 hC.2.1 dX7_restore_74 rfl (lv_at hl 1 rfl) ?_
    refine lv_iload_n hC.1 hC.2.1 dX7_restore_75 rfl (lv_at hl 0 rfl) ?_
    refine lv_aload_n hC.1 hC.2.1 dX7_restore_76 rfl (lv_at hl 2 rfl) ?_
    refine gf_X7_24 hC hw dX7_restore_77 ?_
    refine lv_iconst (v := nI 0) hC.1 hC.2.1 dX7_restore_80 (by decide) ?_
    refine lv_iconst (v := nI 3) hC.1 hC.2.1 dX7_restore_81 (by decide) ?_
    refine q_cpy (sp := 3) (dp := 0) (n := 3) 43 rfl 25 rfl (XW_s15 _) hC hw hl (by omega) (by omega) (by decide) (by decide) ⟨Nat.le_of_ble_eq_true rfl, Nat.le_of_ble_eq_true rfl⟩ wk2_182 dX7_restore_82 (fun H locs hw => ?_)
    have hw : Wst E (XW E a) (sr (sr σ 0 (upd (upd (upd (upd (upd (σ 0) 0 (σ 33 0)) 1 (σ 33 1)) 2 (σ 33 2)) 3 (nI (if 4 ≠ 0 then (4 - 1) else 29))) 4 (nI (kp - 1)))) 15 (va_cpy (σ 33) (σ 15) 3 0 3)) A s.heap H locs := hw
    have hst_ : sr (sr σ 0 (upd (upd (upd (upd (upd (σ 0) 0 (σ 33 0)) 1 (σ 33 1)) 2 (σ 33 2)) 3 (nI (if 4 ≠ 0 then (4 - 1) else 29))) 4 (nI (kp - 1)))) 15 (va_cpy (σ 33) (σ 15) 3 0 3) = sr (sr σ 15 (va_cpy (σ 33) (σ 15) 3 0 3)) 0 (upd (upd (upd (upd (upd (σ 0) 0 (σ 33 0)) 1 (σ 33 1)) 2 (σ 33 2)) 3 (nI (if 4 ≠ 0 then (4 - 1) else 29))) 4 (nI (kp - 1))) := by
      funext j_ x_
      by_cases e0 : j_ = 0
      · subst e0
        by_cases y0 : x_ = 0
        · subst y0; rfl
        · by_cases y1 : x_ = 1
          · subst y1; rfl
          · by_cases y2 : x_ = 2
            · subst y2; rfl
            · by_cases y3 : x_ = 3
              · subst y3; rfl
              · by_cases y4 : x_ = 4
                · subst y4; rfl
                · simp [sr, upd, y0, y1, y2, y3, y4]
      · by_cases e15 : j_ = 15
        · subst e15; rfl
        · simp only [sr, e0, e15, if_false]
    rw [hst_] at hw
    refine lv_iinc (v := nI (3 + 3)) (lv' := [(2, .int (nI (3 + 3))), (1, .ref (a 33)), (0, .ref (a 68))]) hC.1 hC.2.1 dX7_restore_85 hl (k := 0) rfl (nI_add _ _) (by decide) rfl (fun ls hl => ?_)
    refine lv_iconst (v := nI 0) hC.1 hC.2.1 dX7_restore_88 (by decide) ?_
    refine lv_istore_n (lv' := [(3, .int (nI 0)), (2, .int (nI (3 + 3))), (1, .ref (a 33)), (0, .ref (a 68))]) hC.1 hC.2.1 dX7_restore_89 rfl hl (by decide) rfl (fun ls hl => ?_)
    have L90_2 : ∀ (n : Nat), ∀ (h : Nat), (h ≤ 10) → (10 - h) < n → ∀ (H : Heap) (locs : List Loc) (ls : Array Slot), Wst E (XW E a) (sr (sr (sr σ 4 (upr (σ 33) h (σ 4))) 15 (va_cpy (σ 33) (σ 15) 3 0 3)) 0 (upd (upd (upd (upd (upd (σ 0) 0 (σ 33 0)) 1 (σ 33 1)) 2 (σ 33 2)) 3 (nI (if 4 ≠ 0 then (4 - 1) else 29))) 4 (nI (kp - 1)))) A s.heap H locs → lv_has ls 4 [(0, .ref (a 68)), (1, .ref (a 33)), (2, .int (nI (3 + 3))), (3, .int (nI h))] → W p l e ({ frames := 1, cells := 0, slots := 0, locals := 24 }) s m args below meth c H locs 0 0 Q (F0 m 90 ls []) := by
      intro n
      induction n with
      | zero => intro h hh hn; exact absurd hn (Nat.not_lt_zero _)
      | succ n ih90 =>
        intro h hh hn90 H locs ls hw hl
        refine lv_iload_n hC.1 hC.2.1 dX7_restore_90 rfl (lv_at hl 3 rfl) ?_
        refine lv_bipush (v := nI 10) hC.1 hC.2.1 dX7_restore_91 (by decide) ?_
        refine q_cmpge hC 125 (cNle (by omega) (by omega)) dX7_restore_93 (by decide) (fun (c4 : 10 ≤ h) => ?_) (fun (c4 : h < 10) => ?_)
        · have hh9 : h = 10 := by omega
          rw [hh9] at hw
          refine lv_iinc (v := nI (3 + 3 + 10)) (lv' := [(2, .int (nI (3 + 3 + 10))), (0, .ref (a 68)), (1, .ref (a 33)), (3, .int (nI h))]) hC.1 hC.2.1 dX7_restore_125 hl (k := 2) rfl (nI_add _ _) (by decide) rfl (fun ls hl => ?_)
          refine lv_aload_n hC.1 hC.2.1 dX7_restore_128 rfl (lv_at hl 2 rfl) ?_
          refine lv_iload_n hC.1 hC.2.1 dX7_restore_129 rfl (lv_at hl 0 rfl) ?_
          refine lv_aload_n hC.1 hC.2.1 dX7_restore_130 rfl (lv_at hl 1 rfl) ?_
          refine gf_X7_20 hC hw dX7_restore_131 ?_
          refine gf_X7_53 hC hw dX7_restore_134 ?_
          refine lv_iconst (v := nI 0) hC.1 hC.2.1 dX7_restore_137 (by decide) ?_
          refine lv_bipush (v := nI 24) hC.1 hC.2.1 dX7_restore_138 (by decide) ?_
          refine q_cpy (sp := (3 + 3 + 10)) (dp := 0) (n := 24) 43 rfl 21 rfl (XW_s11 _) hC hw hl (by omega) (by omega) (by decide) (by decide) ⟨Nat.le_of_ble_eq_true rfl, Nat.le_of_ble_eq_true rfl⟩ wk2_182 dX7_restore_140 (fun H locs hw => ?_)
          have hw : Wst E (XW E a) (sr (sr (sr (sr σ 4 (upr (σ 33) 10 (σ 4))) 15 (va_cpy (σ 33) (σ 15) 3 0 3)) 0 (upd (upd (upd (upd (upd (σ 0) 0 (σ 33 0)) 1 (σ 33 1)) 2 (σ 33 2)) 3 (nI (if 4 ≠ 0 then (4 - 1) else 29))) 4 (nI (kp - 1)))) 11 (va_cpy (σ 33) (σ 11) (3 + 3 + 10) 0 24)) A s.heap H locs := hw
          have hst_ : sr (sr (sr (sr σ 4 (upr (σ 33) 10 (σ 4))) 15 (va_cpy (σ 33) (σ 15) 3 0 3)) 0 (upd (upd (upd (upd (upd (σ 0) 0 (σ 33 0)) 1 (σ 33 1)) 2 (σ 33 2)) 3 (nI (if 4 ≠ 0 then (4 - 1) else 29))) 4 (nI (kp - 1)))) 11 (va_cpy (σ 33) (σ 11) (3 + 3 + 10) 0 24) = sr (sr (sr (sr σ 4 (upr (σ 33) 10 (σ 4))) 11 (va_cpy (σ 33) (σ 11) (3 + 3 + 10) 0 24)) 15 (va_cpy (σ 33) (σ 15) 3 0 3)) 0 (upd (upd (upd (upd (upd (σ 0) 0 (σ 33 0)) 1 (σ 33 1)) 2 (σ 33 2)) 3 (nI (if 4 ≠ 0 then (4 - 1) else 29))) 4 (nI (kp - 1))) := by
            funext j_ x_
            by_cases e0 : j_ = 0
            · subst e0
              by_cases y0 : x_ = 0
              · subst y0; rfl
              · by_cases y1 : x_ = 1
                · subst y1; rfl
                · by_cases y2 : x_ = 2
                  · subst y2; rfl
                  · by_cases y3 : x_ = 3
                    · subst y3; rfl
                    · by_cases y4 : x_ = 4
                      · subst y4; rfl
                      · simp [sr, upd, y0, y1, y2, y3, y4]
            · by_cases e4 : j_ = 4
              · subst e4; rfl
              · by_cases e11 : j_ = 11
                · subst e11; rfl
                · by_cases e15 : j_ = 15
                  · subst e15; rfl
                  · simp only [sr, e0, e4, e11, e15, if_false]
          rw [hst_] at hw
          refine lv_aload_n hC.1 hC.2.1 dX7_restore_143 rfl (lv_at hl 2 rfl) ?_
          refine lv_iload_n hC.1 hC.2.1 dX7_restore_144 rfl (lv_at hl 0 rfl) ?_
          refine lv_bipush (v := nI 24) hC.1 hC.2.1 dX7_restore_145 (by decide) ?_
          refine q_addN hC dX7_restore_147 ?_
          refine lv_aload_n hC.1 hC.2.1 dX7_restore_148 rfl (lv_at hl 1 rfl) ?_
          refine gf_X7_20 hC hw dX7_restore_149 ?_
          refine gf_X7_56 hC hw dX7_restore_152 ?_
          refine lv_iconst (v := nI 0) hC.1 hC.2.1 dX7_restore_155 (by decide) ?_
          refine lv_bipush (v := nI 24) hC.1 hC.2.1 dX7_restore_156 (by decide) ?_
          refine q_cpy (sp := ((3 + 3 + 10) + 24)) (dp := 0) (n := 24) 43 rfl 22 rfl (XW_s12 _) hC hw hl (by omega) (by omega) (by decide) (by decide) ⟨Nat.le_of_ble_eq_true rfl, Nat.le_of_ble_eq_true rfl⟩ wk2_182 dX7_restore_158 (fun H locs hw => ?_)
          have hw : Wst E (XW E a) (sr (sr (sr (sr (sr σ 4 (upr (σ 33) 10 (σ 4))) 11 (va_cpy (σ 33) (σ 11) (3 + 3 + 10) 0 24)) 15 (va_cpy (σ 33) (σ 15) 3 0 3)) 0 (upd (upd (upd (upd (upd (σ 0) 0 (σ 33 0)) 1 (σ 33 1)) 2 (σ 33 2)) 3 (nI (if 4 ≠ 0 then (4 - 1) else 29))) 4 (nI (kp - 1)))) 12 (va_cpy (σ 33) (σ 12) ((3 + 3 + 10) + 24) 0 24)) A s.heap H locs := hw
          have hst_ : sr (sr (sr (sr (sr σ 4 (upr (σ 33) 10 (σ 4))) 11 (va_cpy (σ 33) (σ 11) (3 + 3 + 10) 0 24)) 15 (va_cpy (σ 33) (σ 15) 3 0 3)) 0 (upd (upd (upd (upd (upd (σ 0) 0 (σ 33 0)) 1 (σ 33 1)) 2 (σ 33 2)) 3 (nI (if 4 ≠ 0 then (4 - 1) else 29))) 4 (nI (kp - 1)))) 12 (va_cpy (σ 33) (σ 12) ((3 + 3 + 10) + 24) 0 24) = sr (sr (sr (sr (sr σ 4 (upr (σ 33) 10 (σ 4))) 11 (va_cpy (σ 33) (σ 11) (3 + 3 + 10) 0 24)) 12 (va_cpy (σ 33) (σ 12) ((3 + 3 + 10) + 24) 0 24)) 15 (va_cpy (σ 33) (σ 15) 3 0 3)) 0 (upd (upd (upd (upd (upd (σ 0) 0 (σ 33 0)) 1 (σ 33 1)) 2 (σ 33 2)) 3 (nI (if 4 ≠ 0 then (4 - 1) else 29))) 4 (nI (kp - 1))) := by
            funext j_ x_
            by_cases e0 : j_ = 0
            · subst e0
              by_cases y0 : x_ = 0
              · subst y0; rfl
              · by_cases y1 : x_ = 1
                · subst y1; rfl
                · by_cases y2 : x_ = 2
                  · subst y2; rfl
                  · by_cases y3 : x_ = 3
                    · subst y3; rfl
                    · by_cases y4 : x_ = 4
                      · subst y4; rfl
                      · simp [sr, upd, y0, y1, y2, y3, y4]
            · by_cases e4 : j_ = 4
              · subst e4; rfl
              · by_cases e11 : j_ = 11
                · subst e11; rfl
                · by_cases e12 : j_ = 12
                  · subst e12; rfl
                  · by_cases e15 : j_ = 15
                    · subst e15; rfl
                    · simp only [sr, e0, e4, e11, e12, e15, if_false]
          rw [hst_] at hw
          refine lv_aload_n hC.1 hC.2.1 dX7_restore_161 rfl (lv_at hl 2 rfl) ?_
          refine lv_iload_n hC.1 hC.2.1 dX7_restore_162 rfl (lv_at hl 0 rfl) ?_
          refine lv_bipush (v := nI 48) hC.1 hC.2.1 dX7_restore_163 (by decide) ?_
          refine q_addN hC dX7_restore_165 ?_
          refine lv_aload_n hC.1 hC.2.1 dX7_restore_166 rfl (lv_at hl 1 rfl) ?_
          refine gf_X7_20 hC hw dX7_restore_167 ?_
          refine gf_X7_59 hC hw dX7_restore_170 ?_
          refine lv_iconst (v := nI 0) hC.1 hC.2.1 dX7_restore_173 (by decide) ?_
          refine lv_bipush (v := nI 24) hC.1 hC.2.1 dX7_restore_174 (by decide) ?_
          refine q_cpy (sp := ((3 + 3 + 10) + 48)) (dp := 0) (n := 24) 43 rfl 23 rfl (XW_s13 _) hC hw hl (by omega) (by omega) (by decide) (by decide) ⟨Nat.le_of_ble_eq_true rfl, Nat.le_of_ble_eq_true rfl⟩ wk2_182 dX7_restore_176 (fun H locs hw => ?_)
          have hw : Wst E (XW E a) (sr (sr (sr (sr (sr (sr σ 4 (upr (σ 33) 10 (σ 4))) 11 (va_cpy (σ 33) (σ 11) (3 + 3 + 10) 0 24)) 12 (va_cpy (σ 33) (σ 12) ((3 + 3 + 10) + 24) 0 24)) 15 (va_cpy (σ 33) (σ 15) 3 0 3)) 0 (upd (upd (upd (upd (upd (σ 0) 0 (σ 33 0)) 1 (σ 33 1)) 2 (σ 33 2)) 3 (nI (if 4 ≠ 0 then (4 - 1) else 29))) 4 (nI (kp - 1)))) 13 (va_cpy (σ 33) (σ 13) ((3 + 3 + 10) + 48) 0 24)) A s.heap H locs := hw
          have hst_ : sr (sr (sr (sr (sr (sr σ 4 (upr (σ 33) 10 (σ 4))) 11 (va_cpy (σ 33) (σ 11) (3 + 3 + 10) 0 24)) 12 (va_cpy (σ 33) (σ 12) ((3 + 3 + 10) + 24) 0 24)) 15 (va_cpy (σ 33) (σ 15) 3 0 3)) 0 (upd (upd (upd (upd (upd (σ 0) 0 (σ 33 0)) 1 (σ 33 1)) 2 (σ 33 2)) 3 (nI (if 4 ≠ 0 then (4 - 1) else 29))) 4 (nI (kp - 1)))) 13 (va_cpy (σ 33) (σ 13) ((3 + 3 + 10) + 48) 0 24) = sr (sr (sr (sr (sr (sr σ 4 (upr (σ 33) 10 (σ 4))) 11 (va_cpy (σ 33) (σ 11) (3 + 3 + 10) 0 24)) 12 (va_cpy (σ 33) (σ 12) ((3 + 3 + 10) + 24) 0 24)) 13 (va_cpy (σ 33) (σ 13) ((3 + 3 + 10) + 48) 0 24)) 15 (va_cpy (σ 33) (σ 15) 3 0 3)) 0 (upd (upd (upd (upd (upd (σ 0) 0 (σ 33 0)) 1 (σ 33 1)) 2 (σ 33 2)) 3 (nI (if 4 ≠ 0 then (4 - 1) else 29))) 4 (nI (kp - 1))) := by
            funext j_ x_
            by_cases e0 : j_ = 0
            · subst e0
              by_cases y0 : x_ = 0
              · subst y0; rfl
              · by_cases y1 : x_ = 1
                · subst y1; rfl
                · by_cases y2 : x_ = 2
                  · subst y2; rfl
                  · by_cases y3 : x_ = 3
                    · subst y3; rfl
                    · by_cases y4 : x_ = 4
                      · subst y4; rfl
                      · simp [sr, upd, y0, y1, y2, y3, y4]
            · by_cases e4 : j_ = 4
              · subst e4; rfl
              · by_cases e11 : j_ = 11
                · subst e11; rfl
                · by_cases e12 : j_ = 12
                  · subst e12; rfl
                  · by_cases e13 : j_ = 13
                    · subst e13; rfl
                    · by_cases e15 : j_ = 15
                      · subst e15; rfl
                      · simp only [sr, e0, e4, e11, e12, e13, e15, if_false]
          rw [hst_] at hw
          refine lv_aload_n hC.1 hC.2.1 dX7_restore_179 rfl (lv_at hl 2 rfl) ?_
          refine lv_iload_n hC.1 hC.2.1 dX7_restore_180 rfl (lv_at hl 0 rfl) ?_
          refine lv_bipush (v := nI 72) hC.1 hC.2.1 dX7_restore_181 (by decide) ?_
          refine q_addN hC dX7_restore_183 ?_
          refine lv_aload_n hC.1 hC.2.1 dX7_restore_184 rfl (lv_at hl 1 rfl) ?_
          refine gf_X7_20 hC hw dX7_restore_185 ?_
          refine gf_X7_62 hC hw dX7_restore_188 ?_
          refine lv_iconst (v := nI 0) hC.1 hC.2.1 dX7_restore_191 (by decide) ?_
          refine lv_bipush (v := nI 24) hC.1 hC.2.1 dX7_restore_192 (by decide) ?_
          refine q_cpy (sp := ((3 + 3 + 10) + 72)) (dp := 0) (n := 24) 43 rfl 24 rfl (XW_s14 _) hC hw hl (by omega) (by omega) (by decide) (by decide) ⟨Nat.le_of_ble_eq_true rfl, Nat.le_of_ble_eq_true rfl⟩ wk2_182 dX7_restore_194 (fun H locs hw => ?_)
          have hw : Wst E (XW E a) (sr (sr (sr (sr (sr (sr (sr σ 4 (upr (σ 33) 10 (σ 4))) 11 (va_cpy (σ 33) (σ 11) (3 + 3 + 10) 0 24)) 12 (va_cpy (σ 33) (σ 12) ((3 + 3 + 10) + 24) 0 24)) 13 (va_cpy (σ 33) (σ 13) ((3 + 3 + 10) + 48) 0 24)) 15 (va_cpy (σ 33) (σ 15) 3 0 3)) 0 (upd (upd (upd (upd (upd (σ 0) 0 (σ 33 0)) 1 (σ 33 1)) 2 (σ 33 2)) 3 (nI (if 4 ≠ 0 then (4 - 1) else 29))) 4 (nI (kp - 1)))) 14 (va_cpy (σ 33) (σ 14) ((3 + 3 + 10) + 72) 0 24)) A s.heap H locs := hw
          have hst_ : sr (sr (sr (sr (sr (sr (sr σ 4 (upr (σ 33) 10 (σ 4))) 11 (va_cpy (σ 33) (σ 11) (3 + 3 + 10) 0 24)) 12 (va_cpy (σ 33) (σ 12) ((3 + 3 + 10) + 24) 0 24)) 13 (va_cpy (σ 33) (σ 13) ((3 + 3 + 10) + 48) 0 24)) 15 (va_cpy (σ 33) (σ 15) 3 0 3)) 0 (upd (upd (upd (upd (upd (σ 0) 0 (σ 33 0)) 1 (σ 33 1)) 2 (σ 33 2)) 3 (nI (if 4 ≠ 0 then (4 - 1) else 29))) 4 (nI (kp - 1)))) 14 (va_cpy (σ 33) (σ 14) ((3 + 3 + 10) + 72) 0 24) = sr (sr (sr (sr (sr (sr (sr σ 4 (upr (σ 33) 10 (σ 4))) 11 (va_cpy (σ 33) (σ 11) (3 + 3 + 10) 0 24)) 12 (va_cpy (σ 33) (σ 12) ((3 + 3 + 10) + 24) 0 24)) 13 (va_cpy (σ 33) (σ 13) ((3 + 3 + 10) + 48) 0 24)) 14 (va_cpy (σ 33) (σ 14) ((3 + 3 + 10) + 72) 0 24)) 15 (va_cpy (σ 33) (σ 15) 3 0 3)) 0 (upd (upd (upd (upd (upd (σ 0) 0 (σ 33 0)) 1 (σ 33 1)) 2 (σ 33 2)) 3 (nI (if 4 ≠ 0 then (4 - 1) else 29))) 4 (nI (kp - 1))) := by
            funext j_ x_
            by_cases e0 : j_ = 0
            · subst e0
              by_cases y0 : x_ = 0
              · subst y0; rfl
              · by_cases y1 : x_ = 1
                · subst y1; rfl
                · by_cases y2 : x_ = 2
                  · subst y2; rfl
                  · by_cases y3 : x_ = 3
                    · subst y3; rfl
                    · by_cases y4 : x_ = 4
                      · subst y4; rfl
                      · simp [sr, upd, y0, y1, y2, y3, y4]
            · by_cases e4 : j_ = 4
              · subst e4; rfl
              · by_cases e11 : j_ = 11
                · subst e11; rfl
                · by_cases e12 : j_ = 12
                  · subst e12; rfl
                  · by_cases e13 : j_ = 13
                    · subst e13; rfl
                    · by_cases e14 : j_ = 14
                      · subst e14; rfl
                      · by_cases e15 : j_ = 15
                        · subst e15; rfl
                        · simp only [sr, e0, e4, e11, e12, e13, e14, e15, if_false]
          rw [hst_] at hw
          refine hret _ _ _ _ _ hw ?_ dX7_restore_197
          exact rfl
        · refine lv_aload_n hC.1 hC.2.1 dX7_restore_96 rfl (lv_at hl 0 rfl) ?_
          refine gf_X7_16 hC hw dX7_restore_97 ?_
          refine gf_X7_49 hC hw dX7_restore_100 ?_
          refine lv_iload_n hC.1 hC.2.1 dX7_restore_103 rfl (lv_at hl 3 rfl) ?_
          refine lv_aload_n hC.1 hC.2.1 dX7_restore_104 rfl (lv_at hl 1 rfl) ?_
          refine lv_iload_n hC.1 hC.2.1 dX7_restore_105 rfl (lv_at hl 2 rfl) ?_
          refine lv_iload_n hC.1 hC.2.1 dX7_restore_106 rfl (lv_at hl 3 rfl) ?_
          refine q_addN hC dX7_restore_107 ?_
          refine q_ald (Wf := XW E a) (v := σ 33 ((3 + 3) + h)) 43 rfl (by decide) hC hw (by omega) rfl dX7_restore_108 ?_
          refine lv_iconst (v := nI 1) hC.1 hC.2.1 dX7_restore_109 (by decide) ?_
          have J118_6 : ∀ (w5 : Int32), w5 = (if (σ 33 ((3 + 3) + h)) = 1 then (1 : Int32) else 0) → ∀ (H : Heap) (locs : List Loc) (ls : Array Slot), Wst E (XW E a) (sr (sr (sr σ 4 (upr (σ 33) h (σ 4))) 15 (va_cpy (σ 33) (σ 15) 3 0 3)) 0 (upd (upd (upd (upd (upd (σ 0) 0 (σ 33 0)) 1 (σ 33 1)) 2 (σ 33 2)) 3 (nI (if 4 ≠ 0 then (4 - 1) else 29))) 4 (nI (kp - 1)))) A s.heap H locs → lv_has ls 4 [(0, .ref (a 68)), (1, .ref (a 33)), (2, .int (nI (3 + 3))), (3, .int (nI h))] → W p l e ({ frames := 1, cells := 0, slots := 0, locals := 24 }) s m args below meth c H locs 0 0 Q (F0 m 118 ls [.int (w5), .int (nI h), .ref (a 4)]) := by
            intro w5 e6 H locs ls hw hl
            subst e6
            refine as_X4 hC hw (by omega) vz_B dX7_restore_118 (fun H locs hw => ?_)
            have hw : Wst E (XW E a) (sr (sr (sr (sr σ 4 (upr (σ 33) h (σ 4))) 15 (va_cpy (σ 33) (σ 15) 3 0 3)) 0 (upd (upd (upd (upd (upd (σ 0) 0 (σ 33 0)) 1 (σ 33 1)) 2 (σ 33 2)) 3 (nI (if 4 ≠ 0 then (4 - 1) else 29))) 4 (nI (kp - 1)))) 4 (upd (upr (σ 33) h (σ 4)) h (if (σ 33 ((3 + 3) + h)) = 1 then (1 : Int32) else 0))) A s.heap H locs := hw
            have hst_ : sr (sr (sr (sr σ 4 (upr (σ 33) h (σ 4))) 15 (va_cpy (σ 33) (σ 15) 3 0 3)) 0 (upd (upd (upd (upd (upd (σ 0) 0 (σ 33 0)) 1 (σ 33 1)) 2 (σ 33 2)) 3 (nI (if 4 ≠ 0 then (4 - 1) else 29))) 4 (nI (kp - 1)))) 4 (upd (upr (σ 33) h (σ 4)) h (if (σ 33 ((3 + 3) + h)) = 1 then (1 : Int32) else 0)) = sr (sr (sr σ 4 (upd (upr (σ 33) h (σ 4)) h (if (σ 33 ((3 + 3) + h)) = 1 then (1 : Int32) else 0))) 15 (va_cpy (σ 33) (σ 15) 3 0 3)) 0 (upd (upd (upd (upd (upd (σ 0) 0 (σ 33 0)) 1 (σ 33 1)) 2 (σ 33 2)) 3 (nI (if 4 ≠ 0 then (4 - 1) else 29))) 4 (nI (kp - 1))) := by
              funext j_ x_
              by_cases e0 : j_ = 0
              · subst e0
                by_cases y0 : x_ = 0
                · subst y0; rfl
                · by_cases y1 : x_ = 1
                  · subst y1; rfl
                  · by_cases y2 : x_ = 2
                    · subst y2; rfl
                    · by_cases y3 : x_ = 3
                      · subst y3; rfl
                      · by_cases y4 : x_ = 4
                        · subst y4; rfl
                        · simp [sr, upd, y0, y1, y2, y3, y4]
              · by_cases e4 : j_ = 4
                · subst e4; rfl
                · by_cases e15 : j_ = 15
                  · subst e15; rfl
                  · simp only [sr, e0, e4, e15, if_false]
            rw [hst_] at hw
            refine lv_iinc (v := nI (h + 1)) (lv' := [(3, .int (nI (h + 1))), (0, .ref (a 68)), (1, .ref (a 33)), (2, .int (nI (3 + 3)))]) hC.1 hC.2.1 dX7_restore_119 hl (k := 3) rfl (nI_add _ _) (by decide) rfl (fun ls hl => ?_)
            refine lv_goto (tgt := 90) hC.1 hC.2.1 dX7_restore_122 (by decide) ?_
            rw [upr_s] at hw
            exact ih90 (h + 1) (by omega) (by omega) _ _ _ hw (lv_sub hl [1, 2, 3, 0] rfl)
          refine q_cmpne hC 117 cI dX7_restore_110 (by decide) (fun (c7 : ¬ ((σ 33 ((3 + 3) + h)) = 1)) => ?_) (fun (c7 : (σ 33 ((3 + 3) + h)) = 1) => ?_)
          · refine lv_iconst (v := nI 0) hC.1 hC.2.1 dX7_restore_117 (by decide) ?_
            exact J118_6 _ (if_neg c7).symm _ _ _ hw (lv_sub hl [0, 1, 2, 3] rfl)
          · refine lv_iconst (v := nI 1) hC.1 hC.2.1 dX7_restore_113 (by decide) ?_
            refine lv_goto (tgt := 118) hC.1 hC.2.1 dX7_restore_114 (by decide) ?_
            exact J118_6 _ (if_pos c7).symm _ _ _ hw (lv_sub hl [0, 1, 2, 3] rfl)
    have hst_ : sr (sr σ 15 (va_cpy (σ 33) (σ 15) 3 0 3)) 0 (upd (upd (upd (upd (upd (σ 0) 0 (σ 33 0)) 1 (σ 33 1)) 2 (σ 33 2)) 3 (nI (if 4 ≠ 0 then (4 - 1) else 29))) 4 (nI (kp - 1))) = sr (sr (sr σ 4 (upr (σ 33) 0 (σ 4))) 15 (va_cpy (σ 33) (σ 15) 3 0 3)) 0 (upd (upd (upd (upd (upd (σ 0) 0 (σ 33 0)) 1 (σ 33 1)) 2 (σ 33 2)) 3 (nI (if 4 ≠ 0 then (4 - 1) else 29))) 4 (nI (kp - 1))) := by
      funext j_ x_
      by_cases e0 : j_ = 0
      · subst e0
        by_cases y0 : x_ = 0
        · subst y0; rfl
        · by_cases y1 : x_ = 1
          · subst y1; rfl
          · by_cases y2 : x_ = 2
            · subst y2; rfl
            · by_cases y3 : x_ = 3
              · subst y3; rfl
              · by_cases y4 : x_ = 4
                · subst y4; rfl
                · simp [sr, upd, y0, y1, y2, y3, y4]
      · by_cases e4 : j_ = 4
        · subst e4; show σ 4 x_ = upr (σ 33) 0 (σ 4) x_; rw [upr_0]
        · by_cases e15 : j_ = 15
          · subst e15; rfl
          · simp only [sr, e0, e4, e15, if_false]
    rw [hst_] at hw
    exact L90_2 _ 0 (by omega) (Nat.lt_succ_self _) _ _ _ hw (lv_sub hl [3, 2, 1, 0] rfl)
  refine q_ifne hC 13 (cN0 (by omega)) dX7_restore_5 (by decide) (fun (c8 : 4 ≠ 0) => ?_) (fun (c8 : 4 = 0) => ?_)
  · refine lv_aload_n hC.1 hC.2.1 dX7_restore_13 rfl (lv_at hl 0 rfl) ?_
    refine gf_X7_28 (v := nI 4) hC hw hnx dX7_restore_14 ?_
    refine lv_iconst (v := nI 1) hC.1 hC.2.1 dX7_restore_17 (by decide) ?_
    refine q_subN hC (by omega) dX7_restore_18 ?_
    exact J19_2 _ (by (rw [if_pos c8]) <;> rfl) _ _ _ hw (lv_sub hl [0] rfl)
  · refine lv_bipush (v := nI 29) hC.1 hC.2.1 dX7_restore_8 (by decide) ?_
    refine lv_goto (tgt := 19) hC.1 hC.2.1 dX7_restore_10 (by decide) ?_
    exact J19_2 _ (by (rw [if_neg (fun q => q c8)]) <;> rfl) _ _ _ hw (lv_sub hl [0] rfl)
set_option maxHeartbeats 4000000 in
set_option maxRecDepth 100000 in
theorem tX7_restore_k5 (l : Launch) (E : EV) (a : Nat → Nat) (σ : St) (kp : Nat) (hnx : σ 0 3 = nI 5) (hkp : σ 0 4 = nI kp) (hk30 : kp ≤ 30) (hk1 : 1 ≤ kp) : MV l E (XW E a) yX7_restore (Cond.code yX7_restore cX7_restore 4 none) ({ frames := 1, cells := 0, slots := 0, locals := 24 }) [.ref (a 68)] σ (fun u_ => u_ = sr (sr (sr (sr (sr (sr (sr σ 4 (upr (σ 34) 10 (σ 4))) 11 (va_cpy (σ 34) (σ 11) 16 0 24)) 12 (va_cpy (σ 34) (σ 12) 40 0 24)) 13 (va_cpy (σ 34) (σ 13) 64 0 24)) 14 (va_cpy (σ 34) (σ 14) 88 0 24)) 15 (va_cpy (σ 34) (σ 15) 3 0 3)) 0 (upd (upd (upd (upd (upd (σ 0) 0 ((σ 34) 0)) 1 ((σ 34) 1)) 2 ((σ 34) 2)) 3 (nI (if 5 ≠ 0 then 5 - 1 else 29))) 4 (nI (kp - 1)))) := by
  refine MV.mk (by decide +kernel) (Nat.le_of_ble_eq_true rfl) ?_
  intro p e s m args below meth c ls A Q hret hC hw hl
  have hC : Cxt E p s m args meth c cX7_restore 4 none RX7 A := hC
  have hl : lv_has ls 4 [(0, .ref (a 68))] := hl
  refine lv_aload_n hC.1 hC.2.1 dX7_restore_0 rfl (lv_at hl 0 rfl) ?_
  refine lv_aload_n hC.1 hC.2.1 dX7_restore_1 rfl (lv_at hl 0 rfl) ?_
  refine gf_X7_28 (v := nI 5) hC hw hnx dX7_restore_2 ?_
  have J19_2 : ∀ (w1 : Nat), w1 = (if 5 ≠ 0 then (5 - 1) else 29) → ∀ (H : Heap) (locs : List Loc) (ls : Array Slot), Wst E (XW E a) (σ) A s.heap H locs → lv_has ls 4 [(0, .ref (a 68))] → W p l e ({ frames := 1, cells := 0, slots := 0, locals := 24 }) s m args below meth c H locs 0 0 Q (F0 m 19 ls [.int (nI w1), .ref (a 68)]) := by
    intro w1 e2 H locs ls hw hl
    subst e2
    refine pf_X7_28 hC hw dX7_restore_19 (fun H locs hw => ?_)
    have hw : Wst E (XW E a) (sr σ 0 (upd (σ 0) 3 (nI (if 5 ≠ 0 then (5 - 1) else 29)))) A s.heap H locs := hw
    refine lv_aload_n hC.1 hC.2.1 dX7_restore_22 rfl (lv_at hl 0 rfl) ?_
    refine lv_dup hC.1 hC.2.1 dX7_restore_23 rfl ?_
    refine gf_X7_65 (v := nI kp) hC hw hkp dX7_restore_24 ?_
    refine lv_iconst (v := nI 1) hC.1 hC.2.1 dX7_restore_27 (by decide) ?_
    refine q_subN hC (by omega) dX7_restore_28 ?_
    refine pf_X7_65 hC hw dX7_restore_29 (fun H locs hw => ?_)
    have hw : Wst E (XW E a) (sr (sr σ 0 (upd (σ 0) 3 (nI (if 5 ≠ 0 then (5 - 1) else 29)))) 0 (upd (upd (σ 0) 3 (nI (if 5 ≠ 0 then (5 - 1) else 29))) 4 (nI (kp - 1)))) A s.heap H locs := hw
    have hst_ : sr (sr σ 0 (upd (σ 0) 3 (nI (if 5 ≠ 0 then (5 - 1) else 29)))) 0 (upd (upd (σ 0) 3 (nI (if 5 ≠ 0 then (5 - 1) else 29))) 4 (nI (kp - 1))) = sr σ 0 (upd (upd (σ 0) 3 (nI (if 5 ≠ 0 then (5 - 1) else 29))) 4 (nI (kp - 1))) := by
      funext j_ x_
      by_cases e0 : j_ = 0
      · subst e0
        by_cases y3 : x_ = 3
        · subst y3; rfl
        · by_cases y4 : x_ = 4
          · subst y4; rfl
          · simp [sr, upd, y3, y4]
      · simp only [sr, e0, if_false]
    rw [hst_] at hw
    refine lv_aload_n hC.1 hC.2.1 dX7_restore_32 rfl (lv_at hl 0 rfl) ?_
    refine gf_X7_13 hC hw dX7_restore_33 ?_
    refine lv_aload_n hC.1 hC.2.1 dX7_restore_36 rfl (lv_at hl 0 rfl) ?_
    refine gf_X7_28 (v := nI (if 5 ≠ 0 then (5 - 1) else 29)) hC hw rfl dX7_restore_37 ?_
    refine q_top (y := nI 4) rfl ?_
    refine q_aald hC hw (i := 4) (by decide) dX7_restore_40 ?_
    refine lv_astore_n (lv' := [(1, .ref (a 34)), (0, .ref (a 68))]) hC.1 hC.2.1 dX7_restore_41 rfl hl (by decide) rfl (fun ls hl => ?_)
    refine lv_aload_n hC.1 hC.2.1 dX7_restore_42 rfl (lv_at hl 1 rfl) ?_
    refine gf_X7_16 hC hw dX7_restore_43 ?_
    refine lv_aload_n hC.1 hC.2.1 dX7_restore_46 rfl (lv_at hl 0 rfl) ?_
    refine lv_iconst (v := nI 0) hC.1 hC.2.1 dX7_restore_47 (by decide) ?_
    refine q_ald (Wf := XW E a) (v := σ 34 0) 44 rfl (by decide) hC hw (by omega) rfl dX7_restore_48 ?_
    refine pf_X7_32 hC hw dX7_restore_49 (fun H locs hw => ?_)
    have hw : Wst E (XW E a) (sr (sr σ 0 (upd (upd (σ 0) 3 (nI (if 5 ≠ 0 then (5 - 1) else 29))) 4 (nI (kp - 1)))) 0 (upd (upd (upd (σ 0) 3 (nI (if 5 ≠ 0 then (5 - 1) else 29))) 4 (nI (kp - 1))) 0 (σ 34 0))) A s.heap H locs := hw
    have hst_ : sr (sr σ 0 (upd (upd (σ 0) 3 (nI (if 5 ≠ 0 then (5 - 1) else 29))) 4 (nI (kp - 1)))) 0 (upd (upd (upd (σ 0) 3 (nI (if 5 ≠ 0 then (5 - 1) else 29))) 4 (nI (kp - 1))) 0 (σ 34 0)) = sr σ 0 (upd (upd (upd (σ 0) 0 (σ 34 0)) 3 (nI (if 5 ≠ 0 then (5 - 1) else 29))) 4 (nI (kp - 1))) := by
      funext j_ x_
      by_cases e0 : j_ = 0
      · subst e0
        by_cases y0 : x_ = 0
        · subst y0; rfl
        · by_cases y3 : x_ = 3
          · subst y3; rfl
          · by_cases y4 : x_ = 4
            · subst y4; rfl
            · simp [sr, upd, y0, y3, y4]
      · simp only [sr, e0, if_false]
    rw [hst_] at hw
    refine lv_aload_n hC.1 hC.2.1 dX7_restore_52 rfl (lv_at hl 1 rfl) ?_
    refine gf_X7_20 hC hw dX7_restore_53 ?_
    refine lv_aload_n hC.1 hC.2.1 dX7_restore_56 rfl (lv_at hl 0 rfl) ?_
    refine lv_iconst (v := nI 1) hC.1 hC.2.1 dX7_restore_57 (by decide) ?_
    refine q_ald (Wf := XW E a) (v := σ 34 1) 44 rfl (by decide) hC hw (by omega) rfl dX7_restore_58 ?_
    refine pf_X7_37 hC hw dX7_restore_59 (fun H locs hw => ?_)
    have hw : Wst E (XW E a) (sr (sr σ 0 (upd (upd (upd (σ 0) 0 (σ 34 0)) 3 (nI (if 5 ≠ 0 then (5 - 1) else 29))) 4 (nI (kp - 1)))) 0 (upd (upd (upd (upd (σ 0) 0 (σ 34 0)) 3 (nI (if 5 ≠ 0 then (5 - 1) else 29))) 4 (nI (kp - 1))) 1 (σ 34 1))) A s.heap H locs := hw
    have hst_ : sr (sr σ 0 (upd (upd (upd (σ 0) 0 (σ 34 0)) 3 (nI (if 5 ≠ 0 then (5 - 1) else 29))) 4 (nI (kp - 1)))) 0 (upd (upd (upd (upd (σ 0) 0 (σ 34 0)) 3 (nI (if 5 ≠ 0 then (5 - 1) else 29))) 4 (nI (kp - 1))) 1 (σ 34 1)) = sr σ 0 (upd (upd (upd (upd (σ 0) 0 (σ 34 0)) 1 (σ 34 1)) 3 (nI (if 5 ≠ 0 then (5 - 1) else 29))) 4 (nI (kp - 1))) := by
      funext j_ x_
      by_cases e0 : j_ = 0
      · subst e0
        by_cases y0 : x_ = 0
        · subst y0; rfl
        · by_cases y1 : x_ = 1
          · subst y1; rfl
          · by_cases y3 : x_ = 3
            · subst y3; rfl
            · by_cases y4 : x_ = 4
              · subst y4; rfl
              · simp [sr, upd, y0, y1, y3, y4]
      · simp only [sr, e0, if_false]
    rw [hst_] at hw
    refine lv_aload_n hC.1 hC.2.1 dX7_restore_62 rfl (lv_at hl 1 rfl) ?_
    refine gf_X7_20 hC hw dX7_restore_63 ?_
    refine lv_aload_n hC.1 hC.2.1 dX7_restore_66 rfl (lv_at hl 0 rfl) ?_
    refine lv_iconst (v := nI 2) hC.1 hC.2.1 dX7_restore_67 (by decide) ?_
    refine q_ald (Wf := XW E a) (v := σ 34 2) 44 rfl (by decide) hC hw (by omega) rfl dX7_restore_68 ?_
    refine pf_X7_40 hC hw dX7_restore_69 (fun H locs hw => ?_)
    have hw : Wst E (XW E a) (sr (sr σ 0 (upd (upd (upd (upd (σ 0) 0 (σ 34 0)) 1 (σ 34 1)) 3 (nI (if 5 ≠ 0 then (5 - 1) else 29))) 4 (nI (kp - 1)))) 0 (upd (upd (upd (upd (upd (σ 0) 0 (σ 34 0)) 1 (σ 34 1)) 3 (nI (if 5 ≠ 0 then (5 - 1) else 29))) 4 (nI (kp - 1))) 2 (σ 34 2))) A s.heap H locs := hw
    have hst_ : sr (sr σ 0 (upd (upd (upd (upd (σ 0) 0 (σ 34 0)) 1 (σ 34 1)) 3 (nI (if 5 ≠ 0 then (5 - 1) else 29))) 4 (nI (kp - 1)))) 0 (upd (upd (upd (upd (upd (σ 0) 0 (σ 34 0)) 1 (σ 34 1)) 3 (nI (if 5 ≠ 0 then (5 - 1) else 29))) 4 (nI (kp - 1))) 2 (σ 34 2)) = sr σ 0 (upd (upd (upd (upd (upd (σ 0) 0 (σ 34 0)) 1 (σ 34 1)) 2 (σ 34 2)) 3 (nI (if 5 ≠ 0 then (5 - 1) else 29))) 4 (nI (kp - 1))) := by
      funext j_ x_
      by_cases e0 : j_ = 0
      · subst e0
        by_cases y0 : x_ = 0
        · subst y0; rfl
        · by_cases y1 : x_ = 1
          · subst y1; rfl
          · by_cases y2 : x_ = 2
            · subst y2; rfl
            · by_cases y3 : x_ = 3
              · subst y3; rfl
              · by_cases y4 : x_ = 4
                · subst y4; rfl
                · simp [sr, upd, y0, y1, y2, y3, y4]
      · simp only [sr, e0, if_false]
    rw [hst_] at hw
    refine lv_iconst (v := nI 3) hC.1 hC.2.1 dX7_restore_72 (by decide) ?_
    refine lv_istore_n (lv' := [(2, .int (nI 3)), (1, .ref (a 34)), (0, .ref (a 68))]) hC.1 hC.2.1 dX7_restore_73 rfl hl (by decide) rfl (fun ls hl => ?_)
    refine lv_aload_n hC.1 hC.2.1 dX7_restore_74 rfl (lv_at hl 1 rfl) ?_
    refine lv_iload_n hC.1 hC.2.1 dX7_restore_75 rfl (lv_at hl 0 rfl) ?_
    refine lv_aload_n hC.1 hC.2.1 dX7_restore_76 rfl (lv_at hl 2 rfl) ?_
    refine gf_X7_24 hC hw dX7_restore_77 ?_
    refine lv_iconst (v := nI 0) hC.1 hC.2.1 dX7_restore_80 (by decide) ?_
    refine lv_iconst (v := nI 3) hC.1 hC.2.1 dX7_restore_81 (by decide) ?_
    refine q_cpy (sp := 3) (dp := 0) (n := 3) 44 rfl 25 rfl (XW_s15 _) hC hw hl (by omega) (by omega) (by decide) (by decide) ⟨Nat.le_of_ble_eq_true rfl, Nat.le_of_ble_eq_true rfl⟩ wk2_182 dX7_restore_82 (fun H locs hw => ?_)
    have hw : Wst E (XW E a) (sr (sr σ 0 (upd (upd (upd (upd (upd (σ 0) 0 (σ 34 0)) 1 (σ 34 1)) 2 (σ 34 2)) 3 (nI (if 5 ≠ 0 then (5 - 1) else 29))) 4 (nI (kp - 1)))) 15 (va_cpy (σ 34) (σ 15) 3 0 3)) A s.heap H locs := hw
    have hst_ : sr (sr σ 0 (upd (upd (upd (upd (upd (σ 0) 0 (σ 34 0)) 1 (σ 34 1)) 2 (σ 34 2)) 3 (nI (if 5 ≠ 0 then (5 - 1) else 29))) 4 (nI (kp - 1)))) 15 (va_cpy (σ 34) (σ 15) 3 0 3) = sr (sr σ 15 (va_cpy (σ 34) (σ 15) 3 0 3)) 0 (upd (upd (upd (upd (upd (σ 0) 0 (σ 34 0)) 1 (σ 34 1)) 2 (σ 34 2)) 3 (nI (if 5 ≠ 0 then (5 - 1) else 29))) 4 (nI (kp - 1))) := by
      funext j_ x_
      by_cases e0 : j_ = 0
      · subst e0
        by_cases y0 : x_ = 0
        · subst y0; rfl
        · by_cases y1 : x_ = 1
          · subst y1; rfl
          · by_cases y2 : x_ = 2
            · subst y2; rfl
            · by_cases y3 : x_ = 3
              · subst y3; rfl
              · by_cases y4 : x_ = 4
                · subst y4; rfl
                · simp [sr, upd, y0, y1, y2, y3, y4]
      · by_cases e15 : j_ = 15
        · subst e15; rfl
        · simp only [sr, e0, e15, if_false]
    rw [hst_] at hw
    refine lv_iinc (v := nI (3 + 3)) (lv' := [(2, .int (nI (3 + 3))), (1, .ref (a 34)), (0, .ref (a 68))]) hC.1 hC.2.1 dX7_restore_85 hl (k := 0) rfl (nI_add _ _) (by decide) rfl (fun ls hl => ?_)
    refine lv_iconst (v := nI 0) hC.1 hC.2.1 dX7_restore_88 (by decide) ?_
    refine lv_istore_n (lv' := [(3, .int (nI 0)), (2, .int (nI (3 + 3))), (1, .ref (a 34)), (0, .ref (a 68))]) hC.1 hC.2.1 dX7_restore_89 rfl hl (by decide) rfl (fun ls hl => ?_)
    have L90_2 : ∀ (n : Nat), ∀ (h : Nat), (h ≤ 10) → (10 - h) < n → ∀ (H : Heap) (locs : List Loc) (ls : Array Slot), Wst E (XW E a) (sr (sr (sr σ 4 (upr (σ 34) h (σ 4))) 15 (va_cpy (σ 34) (σ 15) 3 0 3)) 0 (upd (upd (upd (upd (upd (σ 0) 0 (σ 34 0)) 1 (σ 34 1)) 2 (σ 34 2)) 3 (nI (if 5 ≠ 0 then (5 - 1) else 29))) 4 (nI (kp - 1)))) A s.heap H locs → lv_has ls 4 [(0, .ref (a 68)), (1, .ref (a 34)), (2, .int (nI (3 + 3))), (3, .int (nI h))] → W p l e ({ frames := 1, cells := 0, slots := 0, locals := 24 }) s m args below meth c H locs 0 0 Q (F0 m 90 ls []) := by
      intro n
      induction n with
      | zero => intro h hh hn; exact absurd hn (Nat.not_lt_zero _)
      | succ n ih90 =>
        intro h hh hn90 H locs ls hw hl
        refine lv_iload_n hC.1 hC.2.1 dX7_restore_90 rfl (lv_at hl 3 rfl) ?_
        refine lv_bipush (v := nI 10) hC.1 hC.2.1 dX7_restore_91 (by decide) ?_
        refine q_cmpge hC 125 (cNle (by omega) (by omega)) dX7_restore_93 (by decide) (fun (c4 : 10 ≤ h) => ?_) (fun (c4 : h < 10) => ?_)
        · have hh9 : h = 10 := by omega
          rw [hh9] at hw
          refine lv_iinc (v := nI (3 + 3 + 10)) (lv' := [(2, .int (nI (3 + 3 + 10))), (0, .ref (a 68)), (1, .ref (a 34)), (3, .int (nI h))]) hC.1 hC.2.1 dX7_restore_125 hl (k := 2) rfl (nI_add _ _) (by decide) rfl (fun ls hl => ?_)
          refine lv_aload_n hC.1 hC.2.1 dX7_restore_128 rfl (lv_at hl 2 rfl) ?_
          refine lv_iload_n hC.1 hC.2.1 dX7_restore_129 rfl (lv_at hl 0 rfl) ?_
          refine lv_aload_n hC.1 hC.2.1 dX7_restore_130 rfl (lv_at hl 1 rfl) ?_
          refine gf_X7_20 hC hw dX7_restore_131 ?_
          refine gf_X7_53 hC hw dX7_restore_134 ?_
          refine lv_iconst (v := nI 0) hC.1 hC.2.1 dX7_restore_137 (by decide) ?_
          refine lv_bipush (v := nI 24) hC.1 hC.2.1 dX7_restore_138 (by decide) ?_
          refine q_cpy (sp := (3 + 3 + 10)) (dp := 0) (n := 24) 44 rfl 21 rfl (XW_s11 _) hC hw hl (by omega) (by omega) (by decide) (by decide) ⟨Nat.le_of_ble_eq_true rfl, Nat.le_of_ble_eq_true rfl⟩ wk2_182 dX7_restore_140 (fun H locs hw => ?_)
          have hw : Wst E (XW E a) (sr (sr (sr (sr σ 4 (upr (σ 34) 10 (σ 4))) 15 (va_cpy (σ 34) (σ 15) 3 0 3)) 0 (upd (upd (upd (upd (upd (σ 0) 0 (σ 34 0)) 1 (σ 34 1)) 2 (σ 34 2)) 3 (nI (if 5 ≠ 0 then (5 - 1) else 29))) 4 (nI (kp - 1)))) 11 (va_cpy (σ 34) (σ 11) (3 + 3 + 10) 0 24)) A s.heap H locs := hw
          have hst_ : sr (sr (sr (sr σ 4 (upr (σ 34) 10 (σ 4))) 15 (va_cpy (σ 34) (σ 15) 3 0 3)) 0 (upd (upd (upd (upd (upd (σ 0) 0 (σ 34 0)) 1 (σ 34 1)) 2 (σ 34 2)) 3 (nI (if 5 ≠ 0 then (5 - 1) else 29))) 4 (nI (kp - 1)))) 11 (va_cpy (σ 34) (σ 11) (3 + 3 + 10) 0 24) = sr (sr (sr (sr σ 4 (upr (σ 34) 10 (σ 4))) 11 (va_cpy (σ 34) (σ 11) (3 + 3 + 10) 0 24)) 15 (va_cpy (σ 34) (σ 15) 3 0 3)) 0 (upd (upd (upd (upd (upd (σ 0) 0 (σ 34 0)) 1 (σ 34 1)) 2 (σ 34 2)) 3 (nI (if 5 ≠ 0 then (5 - 1) else 29))) 4 (nI (kp - 1))) := by
            funext j_ x_
            by_cases e0 : j_ = 0
            · subst e0
              by_cases y0 : x_ = 0
              · subst y0; rfl
              · by_cases y1 : x_ = 1
                · subst y1; rfl
                · by_cases y2 : x_ = 2
                  · subst y2; rfl
                  · by_cases y3 : x_ = 3
                    · subst y3; rfl
                    · by_cases y4 : x_ = 4
                      · subst y4; rfl
                      · simp [sr, upd, y0, y1, y2, y3, y4]
            · by_cases e4 : j_ = 4
              · subst e4; rfl
              · by_cases e11 : j_ = 11
                · subst e11; rfl
                · by_cases e15 : j_ = 15
                  · subst e15; rfl
                  · simp only [sr, e0, e4, e11, e15, if_false]
          rw [hst_] at hw
          refine lv_aload_n hC.1 hC.2.1 dX7_restore_143 rfl (lv_at hl 2 rfl) ?_
          refine lv_iload_n hC.1 hC.2.1 dX7_restore_144 rfl (lv_at hl 0 rfl) ?_
          refine lv_bipush (v := nI 24) hC.1 hC.2.1 dX7_restore_145 (by decide) ?_
          refine q_addN hC dX7_restore_147 ?_
          refine lv_aload_n hC.1 hC.2.1 dX7_restore_148 rfl (lv_at hl 1 rfl) ?_
          refine gf_X7_20 hC hw dX7_restore_149 ?_
          refine gf_X7_56 hC hw dX7_restore_152 ?_
          refine lv_iconst (v := nI 0) hC.1 hC.2.1 dX7_restore_155 (by decide) ?_
          refine lv_bipush (v := nI 24) hC.1 hC.2.1 dX7_restore_156 (by decide) ?_
          refine q_cpy (sp := ((3 + 3 + 10) + 24)) (dp := 0) (n := 24) 44 rfl 22 rfl (XW_s12 _) hC hw hl (by omega) (by omega) (by decide) (by decide) ⟨Nat.le_of_ble_eq_true rfl, Nat.le_of_ble_eq_true rfl⟩ wk2_182 dX7_restore_158 (fun H locs hw => ?_)
          have hw : Wst E (XW E a) (sr (sr (sr (sr (sr σ 4 (upr (σ 34) 10 (σ 4))) 11 (va_cpy (σ 34) (σ 11) (3 + 3 + 10) 0 24)) 15 (va_cpy (σ 34) (σ 15) 3 0 3)) 0 (upd (upd (upd (upd (upd (σ 0) 0 (σ 34 0)) 1 (σ 34 1)) 2 (σ 34 2)) 3 (nI (if 5 ≠ 0 then (5 - 1) else 29))) 4 (nI (kp - 1)))) 12 (va_cpy (σ 34) (σ 12) ((3 + 3 + 10) + 24) 0 24)) A s.heap H locs := hw
          have hst_ : sr (sr (sr (sr (sr σ 4 (upr (σ 34) 10 (σ 4))) 11 (va_cpy (σ 34) (σ 11) (3 + 3 + 10) 0 24)) 15 (va_cpy (σ 34) (σ 15) 3 0 3)) 0 (upd (upd (upd (upd (upd (σ 0) 0 (σ 34 0)) 1 (σ 34 1)) 2 (σ 34 2)) 3 (nI (if 5 ≠ 0 then (5 - 1) else 29))) 4 (nI (kp - 1)))) 12 (va_cpy (σ 34) (σ 12) ((3 + 3 + 10) + 24) 0 24) = sr (sr (sr (sr (sr σ 4 (upr (σ 34) 10 (σ 4))) 11 (va_cpy (σ 34) (σ 11) (3 + 3 + 10) 0 24)) 12 (va_cpy (σ 34) (σ 12) ((3 + 3 + 10) + 24) 0 24)) 15 (va_cpy (σ 34) (σ 15) 3 0 3)) 0 (upd (upd (upd (upd (upd (σ 0) 0 (σ 34 0)) 1 (σ 34 1)) 2 (σ 34 2)) 3 (nI (if 5 ≠ 0 then (5 - 1) else 29))) 4 (nI (kp - 1))) := by
            funext j_ x_
            by_cases e0 : j_ = 0
            · subst e0
              by_cases y0 : x_ = 0
              · subst y0; rfl
              · by_cases y1 : x_ = 1
                · subst y1; rfl
                · by_cases y2 : x_ = 2
                  · subst y2; rfl
                  · by_cases y3 : x_ = 3
                    · subst y3; rfl
                    · by_cases y4 : x_ = 4
                      · subst y4; rfl
                      · simp [sr, upd, y0, y1, y2, y3, y4]
            · by_cases e4 : j_ = 4
              · subst e4; rfl
              · by_cases e11 : j_ = 11
                · subst e11; rfl
                · by_cases e12 : j_ = 12
                  · subst e12; rfl
                  · by_cases e15 : j_ = 15
                    · subst e15; rfl
                    · simp only [sr, e0, e4, e11, e12, e15, if_false]
          rw [hst_] at hw
          refine lv_aload_n hC.1 hC.2.1 dX7_restore_161 rfl (lv_at hl 2 rfl) ?_
          refine lv_iload_n hC.1 hC.2.1 dX7_restore_162 rfl (lv_at hl 0 rfl) ?_
          refine lv_bipush (v := nI 48) hC.1 hC.2.1 dX7_restore_163 (by decide) ?_
          refine q_addN hC dX7_restore_165 ?_
          refine lv_aload_n hC.1 hC.2.1 dX7_restore_166 rfl (lv_at hl 1 rfl) ?_
          refine gf_X7_20 hC hw dX7_restore_167 ?_
          refine gf_X7_59 hC hw dX7_restore_170 ?_
          refine lv_iconst (v := nI 0) hC.1 hC.2.1 dX7_restore_173 (by decide) ?_
          refine lv_bipush (v := nI 24) hC.1 hC.2.1 dX7_restore_174 (by decide) ?_
          refine q_cpy (sp := ((3 + 3 + 10) + 48)) (dp := 0) (n := 24) 44 rfl 23 rfl (XW_s13 _) hC hw hl (by omega) (by omega) (by decide) (by decide) ⟨Nat.le_of_ble_eq_true rfl, Nat.le_of_ble_eq_true rfl⟩ wk2_182 dX7_restore_176 (fun H locs hw => ?_)
          have hw : Wst E (XW E a) (sr (sr (sr (sr (sr (sr σ 4 (upr (σ 34) 10 (σ 4))) 11 (va_cpy (σ 34) (σ 11) (3 + 3 + 10) 0 24)) 12 (va_cpy (σ 34) (σ 12) ((3 + 3 + 10) + 24) 0 24)) 15 (va_cpy (σ 34) (σ 15) 3 0 3)) 0 (upd (upd (upd (upd (upd (σ 0) 0 (σ 34 0)) 1 (σ 34 1)) 2 (σ 34 2)) 3 (nI (if 5 ≠ 0 then (5 - 1) else 29))) 4 (nI (kp - 1)))) 13 (va_cpy (σ 34) (σ 13) ((3 + 3 + 10) + 48) 0 24)) A s.heap H locs := hw
          have hst_ : sr (sr (sr (sr (sr (sr σ 4 (upr (σ 34) 10 (σ 4))) 11 (va_cpy (σ 34) (σ 11) (3 + 3 + 10) 0 24)) 12 (va_cpy (σ 34) (σ 12) ((3 + 3 + 10) + 24) 0 24)) 15 (va_cpy (σ 34) (σ 15) 3 0 3)) 0 (upd (upd (upd (upd (upd (σ 0) 0 (σ 34 0)) 1 (σ 34 1)) 2 (σ 34 2)) 3 (nI (if 5 ≠ 0 then (5 - 1) else 29))) 4 (nI (kp - 1)))) 13 (va_cpy (σ 34) (σ 13) ((3 + 3 + 10) + 48) 0 24) = sr (sr (sr (sr (sr (sr σ 4 (upr (σ 34) 10 (σ 4))) 11 (va_cpy (σ 34) (σ 11) (3 + 3 + 10) 0 24)) 12 (va_cpy (σ 34) (σ 12) ((3 + 3 + 10) + 24) 0 24)) 13 (va_cpy (σ 34) (σ 13) ((3 + 3 + 10) + 48) 0 24)) 15 (va_cpy (σ 34) (σ 15) 3 0 3)) 0 (upd (upd (upd (upd (upd (σ 0) 0 (σ 34 0)) 1 (σ 34 1)) 2 (σ 34 2)) 3 (nI (if 5 ≠ 0 then (5 - 1) else 29))) 4 (nI (kp - 1))) := by
            funext j_ x_
            by_cases e0 : j_ = 0
            · subst e0
              by_cases y0 : x_ = 0
              · subst y0; rfl
              · by_cases y1 : x_ = 1
                · subst y1; rfl
                · by_cases y2 : x_ = 2
                  · subst y2; rfl
                  · by_cases y3 : x_ = 3
                    · subst y3; rfl
                    · by_cases y4 : x_ = 4
                      · subst y4; rfl
                      · simp [sr, upd, y0, y1, y2, y3, y4]
            · by_cases e4 : j_ = 4
              · subst e4; rfl
              · by_cases e11 : j_ = 11
                · subst e11; rfl
                · by_cases e12 : j_ = 12
                  · subst e12; rfl
                  · by_cases e13 : j_ = 13
                    · subst e13; rfl
                    · by_cases e15 : j_ = 15
                      · subst e15; rfl
                      · simp only [sr, e0, e4, e11, e12, e13, e15, if_false]
          rw [hst_] at hw
          refine lv_aload_n hC.1 hC.2.1 dX7_restore_179 rfl (lv_at hl 2 rfl) ?_
          refine lv_iload_n hC.1 hC.2.1 dX7_restore_180 rfl (lv_at hl 0 rfl) ?_
          refine lv_bipush (v := nI 72) hC.1 hC.2.1 dX7_restore_181 (by decide) ?_
          refine q_addN hC dX7_restore_183 ?_
          refine lv_aload_n hC.1 hC.2.1 dX7_restore_184 rfl (lv_at hl 1 rfl) ?_
          refine gf_X7_20 hC hw dX7_restore_185 ?_
          refine gf_X7_62 hC hw dX7_restore_188 ?_
          refine lv_iconst (v := nI 0) hC.1 hC.2.1 dX7_restore_191 (by decide) ?_
          refine lv_bipush (v := nI 24) hC.1 hC.2.1 dX7_restore_192 (by decide) ?_
          refine q_cpy (sp := ((3 + 3 + 10) + 72)) (dp := 0) (n := 24) 44 rfl 24 rfl (XW_s14 _) hC hw hl (by omega) (by omega) (by decide) (by decide) ⟨Nat.le_of_ble_eq_true rfl, Nat.le_of_ble_eq_true rfl⟩ wk2_182 dX7_restore_194 (fun H locs hw => ?_)
          have hw : Wst E (XW E a) (sr (sr (sr (sr (sr (sr (sr σ 4 (upr (σ 34) 10 (σ 4))) 11 (va_cpy (σ 34) (σ 11) (3 + 3 + 10) 0 24)) 12 (va_cpy (σ 34) (σ 12) ((3 + 3 + 10) + 24) 0 24)) 13 (va_cpy (σ 34) (σ 13) ((3 + 3 + 10) + 48) 0 24)) 15 (va_cpy (σ 34) (σ 15) 3 0 3)) 0 (upd (upd (upd (upd (upd (σ 0) 0 (σ 34 0)) 1 (σ 34 1)) 2 (σ 34 2)) 3 (nI (if 5 ≠ 0 then (5 - 1) else 29))) 4 (nI (kp - 1)))) 14 (va_cpy (σ 34) (σ 14) ((3 + 3 + 10) + 72) 0 24)) A s.heap H locs := hw
          have hst_ : sr (sr (sr (sr (sr (sr (sr σ 4 (upr (σ 34) 10 (σ 4))) 11 (va_cpy (σ 34) (σ 11) (3 + 3 + 10) 0 24)) 12 (va_cpy (σ 34) (σ 12) ((3 + 3 + 10) + 24) 0 24)) 13 (va_cpy (σ 34) (σ 13) ((3 + 3 + 10) + 48) 0 24)) 15 (va_cpy (σ 34) (σ 15) 3 0 3)) 0 (upd (upd (upd (upd (upd (σ 0) 0 (σ 34 0)) 1 (σ 34 1)) 2 (σ 34 2)) 3 (nI (if 5 ≠ 0 then (5 - 1) else 29))) 4 (nI (kp - 1)))) 14 (va_cpy (σ 34) (σ 14) ((3 + 3 + 10) + 72) 0 24) = sr (sr (sr (sr (sr (sr (sr σ 4 (upr (σ 34) 10 (σ 4))) 11 (va_cpy (σ 34) (σ 11) (3 + 3 + 10) 0 24)) 12 (va_cpy (σ 34) (σ 12) ((3 + 3 + 10) + 24) 0 24)) 13 (va_cpy (σ 34) (σ 13) ((3 + 3 + 10) + 48) 0 24)) 14 (va_cpy (σ 34) (σ 14) ((3 + 3 + 10) + 72) 0 24)) 15 (va_cpy (σ 34) (σ 15) 3 0 3)) 0 (upd (upd (upd (upd (upd (σ 0) 0 (σ 34 0)) 1 (σ 34 1)) 2 (σ 34 2)) 3 (nI (if 5 ≠ 0 then (5 - 1) else 29))) 4 (nI (kp - 1))) := by
            funext j_ x_
            by_cases e0 : j_ = 0
            · subst e0
              by_cases y0 : x_ = 0
              · subst y0; rfl
              · by_cases y1 : x_ = 1
                · subst y1; rfl
                · by_cases y2 : x_ = 2
                  · subst y2; rfl
                  · by_cases y3 : x_ = 3
                    · subst y3; rfl
                    · by_cases y4 : x_ = 4
                      · subst y4; rfl
                      · simp [sr, upd, y0, y1, y2, y3, y4]
            · by_cases e4 : j_ = 4
              · subst e4; rfl
              · by_cases e11 : j_ = 11
                · subst e11; rfl
                · by_cases e12 : j_ = 12
                  · subst e12; rfl
                  · by_cases e13 : j_ = 13
                    · subst e13; rfl
                    · by_cases e14 : j_ = 14
                      · subst e14; rfl
                      · by_cases e15 : j_ = 15
                        · subst e15; rfl
                        · simp only [sr, e0, e4, e11, e12, e13, e14, e15, if_false]
          rw [hst_] at hw
          refine hret _ _ _ _ _ hw ?_ dX7_restore_197
          exact rfl
        · refine lv_aload_n hC.1 hC.2.1 dX7_restore_96 rfl (lv_at hl 0 rfl) ?_
          refine gf_X7_16 hC hw dX7_restore_97 ?_
          refine gf_X7_49 hC hw dX7_restore_100 ?_
          refine lv_iload_n hC.1 hC.2.1 dX7_restore_103 rfl (lv_at hl 3 rfl) ?_
          refine lv_aload_n hC.1 hC.2.1 dX7_restore_104 rfl (lv_at hl 1 rfl) ?_
          refine lv_iload_n hC.1 hC.2.1 dX7_restore_105 rfl (lv_at hl 2 rfl) ?_
          refine lv_iload_n hC.1 hC.2.1 dX7_restore_106 rfl (lv_at hl 3 rfl) ?_
          refine q_addN hC dX7_restore_107 ?_
          refine q_ald (Wf := XW E a) (v := σ 34 ((3 + 3) + h)) 44 rfl (by decide) hC hw (by omega) rfl dX7_restore_108 ?_
          refine lv_iconst (v := nI 1) hC.1 hC.2.1 dX7_restore_109 (by decide) ?_
          have J118_6 : ∀ (w5 : Int32), w5 = (if (σ 34 ((3 + 3) + h)) = 1 then (1 : Int32) else 0) → ∀ (H : Heap) (locs : List Loc) (ls : Array Slot), Wst E (XW E a) (sr (sr (sr σ 4 (upr (σ 34) h (σ 4))) 15 (va_cpy (σ 34) (σ 15) 3 0 3)) 0 (upd (upd (upd (upd (upd (σ 0) 0 (σ 34 0)) 1 (σ 34 1)) 2 (σ 34 2)) 3 (nI (if 5 ≠ 0 then (5 - 1) else 29))) 4 (nI (kp - 1)))) A s.heap H locs → lv_has ls 4 [(0, .ref (a 68)), (1, .ref (a 34)), (2, .int (nI (3 + 3))), (3, .int (nI h))] → W p l e ({ frames := 1, cells := 0, slots := 0, locals := 24 }) s m args below meth c H locs 0 0 Q (F0 m 118 ls [.int (w5), .int (nI h), .ref (a 4)]) := by
            intro w5 e6 H locs ls hw hl
            subst e6
            refine as_X4 hC hw (by omega) vz_B dX7_restore_118 (fun H locs hw => ?_)
            have hw : Wst E (XW E a) (sr (sr (sr (sr σ 4 (upr (σ 34) h (σ 4))) 15 (va_cpy (σ 34) (σ 15) 3 0 3)) 0 (upd (upd (upd (upd (upd (σ 0) 0 (σ 34 0)) 1 (σ 34 1)) 2 (σ 34 2)) 3 (nI (if 5 ≠ 0 then (5 - 1) else 29))) 4 (nI (kp - 1)))) 4 (upd (upr (σ 34) h (σ 4)) h (if (σ 34 ((3 + 3) + h)) = 1 then (1 : Int32) else 0))) A s.heap H locs := hw
            have hst_ : sr (sr (sr (sr σ 4 (upr (σ 34) h (σ 4))) 15 (va_cpy (σ 34) (σ 15) 3 0 3)) 0 (upd (upd (upd (upd (upd (σ 0) 0 (σ 34 0)) 1 (σ 34 1)) 2 (σ 34 2)) 3 (nI (if 5 ≠ 0 then (5 - 1) else 29))) 4 (nI (kp - 1)))) 4 (upd (upr (σ 34) h (σ 4)) h (if (σ 34 ((3 + 3) + h)) = 1 then (1 : Int32) else 0)) = sr (sr (sr σ 4 (upd (upr (σ 34) h (σ 4)) h (if (σ 34 ((3 + 3) + h)) = 1 then (1 : Int32) else 0))) 15 (va_cpy (σ 34) (σ 15) 3 0 3)) 0 (upd (upd (upd (upd (upd (σ 0) 0 (σ 34 0)) 1 (σ 34 1)) 2 (σ 34 2)) 3 (nI (if 5 ≠ 0 then (5 - 1) else 29))) 4 (nI (kp - 1))) := by
              funext j_ x_
              by_cases e0 : j_ = 0
              · subst e0
                by_cases y0 : x_ = 0
                · subst y0; rfl
                · by_cases y1 : x_ = 1
                  · subst y1; rfl
                  · by_cases y2 : x_ = 2
                    · subst y2; rfl
                    · by_cases y3 : x_ = 3
                      · subst y3; rfl
                      · by_cases y4 : x_ = 4
                        · subst y4; rfl
                        · simp [sr, upd, y0, y1, y2, y3, y4]
              · by_cases e4 : j_ = 4
                · subst e4; rfl
                · by_cases e15 : j_ = 15
                  · subst e15; rfl
                  · simp only [sr, e0, e4, e15, if_false]
            rw [hst_] at hw
            refine lv_iinc (v := nI (h + 1)) (lv' := [(3, .int (nI (h + 1))), (0, .ref (a 68)), (1, .ref (a 34)), (2, .int (nI (3 + 3)))]) hC.1 hC.2.1 dX7_restore_119 hl (k := 3) rfl (nI_add _ _) (by decide) rfl (fun ls hl => ?_)
            refine lv_goto (tgt := 90) hC.1 hC.2.1 dX7_restore_122 (by decide) ?_
            rw [upr_s] at hw
            exact ih90 (h + 1) (by omega) (by omega) _ _ _ hw (lv_sub hl [1, 2, 3, 0] rfl)
          refine q_cmpne hC 117 cI dX7_restore_110 (by decide) (fun (c7 : ¬ ((σ 34 ((3 + 3) + h)) = 1)) => ?_) (fun (c7 : (σ 34 ((3 + 3) + h)) = 1) => ?_)
          · refine lv_iconst (v := nI 0) hC.1 hC.2.1 dX7_restore_117 (by decide) ?_
            exact J118_6 _ (if_neg c7).symm _ _ _ hw (lv_sub hl [0, 1, 2, 3] rfl)
          · refine lv_iconst (v := nI 1) hC.1 hC.2.1 dX7_restore_113 (by decide) ?_
            refine lv_goto (tgt := 118) hC.1 hC.2.1 dX7_restore_114 (by decide) ?_
            exact J118_6 _ (if_pos c7).symm _ _ _ hw (lv_sub hl [0, 1, 2, 3] rfl)
    have hst_ : sr (sr σ 15 (va_cpy (σ 34) (σ 15) 3 0 3)) 0 (upd (upd (upd (upd (upd (σ 0) 0 (σ 34 0)) 1 (σ 34 1)) 2 (σ 34 2)) 3 (nI (if 5 ≠ 0 then (5 - 1) else 29))) 4 (nI (kp - 1))) = sr (sr (sr σ 4 (upr (σ 34) 0 (σ 4))) 15 (va_cpy (σ 34) (σ 15) 3 0 3)) 0 (upd (upd (upd (upd (upd (σ 0) 0 (σ 34 0)) 1 (σ 34 1)) 2 (σ 34 2)) 3 (nI (if 5 ≠ 0 then (5 - 1) else 29))) 4 (nI (kp - 1))) := by
      funext j_ x_
      by_cases e0 : j_ = 0
      · subst e0
        by_cases y0 : x_ = 0
        · subst y0; rfl
        · by_cases y1 : x_ = 1
          · subst y1; rfl
          · by_cases y2 : x_ = 2
            · subst y2; rfl
            · by_cases y3 : x_ = 3
              · subst y3; rfl
              · by_cases y4 : x_ = 4
                · subst y4; rfl
                · simp [sr, upd, y0, y1, y2, y3, y4]
      · by_cases e4 : j_ = 4
        · subst e4; show σ 4 x_ = upr (σ 34) 0 (σ 4) x_; rw [upr_0]
        · by_cases e15 : j_ = 15
          · subst e15; rfl
          · simp only [sr, e0, e4, e15, if_false]
    rw [hst_] at hw
    exact L90_2 _ 0 (by omega) (Nat.lt_succ_self _) _ _ _ hw (lv_sub hl [3, 2, 1, 0] rfl)
  refine q_ifne hC 13 (cN0 (by omega)) dX7_restore_5 (by decide) (fun (c8 : 5 ≠ 0) => ?_) (fun (c8 : 5 = 0) => ?_)
  · refine lv_aload_n hC.1 hC.2.1 dX7_restore_13 rfl (lv_at hl 0 rfl) ?_
    refine gf_X7_28 (v := nI 5) hC hw hnx dX7_restore_14 ?_
    refine lv_iconst (v := nI 1) hC.1 hC.2.1 dX7_restore_17 (by decide) ?_
    refine q_subN hC (by omega) dX7_restore_18 ?_
    exact J19_2 _ (by (rw [if_pos c8]) <;> rfl) _ _ _ hw (lv_sub hl [0] rfl)
  · refine lv_bipush (v := nI 29) hC.1 hC.2.1 dX7_restore_8 (by decide) ?_
    refine lv_goto (tgt := 19) hC.1 hC.2.1 dX7_restore_10 (by decide) ?_
    exact J19_2 _ (by (rw [if_neg (fun q => q c8)]) <;> rfl) _ _ _ hw (lv_sub hl [0] rfl)
set_option maxHeartbeats 4000000 in
set_option maxRecDepth 100000 in
theorem tX7_restore_k6 (l : Launch) (E : EV) (a : Nat → Nat) (σ : St) (kp : Nat) (hnx : σ 0 3 = nI 6) (hkp : σ 0 4 = nI kp) (hk30 : kp ≤ 30) (hk1 : 1 ≤ kp) : MV l E (XW E a) yX7_restore (Cond.code yX7_restore cX7_restore 4 none) ({ frames := 1, cells := 0, slots := 0, locals := 24 }) [.ref (a 68)] σ (fun u_ => u_ = sr (sr (sr (sr (sr (sr (sr σ 4 (upr (σ 35) 10 (σ 4))) 11 (va_cpy (σ 35) (σ 11) 16 0 24)) 12 (va_cpy (σ 35) (σ 12) 40 0 24)) 13 (va_cpy (σ 35) (σ 13) 64 0 24)) 14 (va_cpy (σ 35) (σ 14) 88 0 24)) 15 (va_cpy (σ 35) (σ 15) 3 0 3)) 0 (upd (upd (upd (upd (upd (σ 0) 0 ((σ 35) 0)) 1 ((σ 35) 1)) 2 ((σ 35) 2)) 3 (nI (if 6 ≠ 0 then 6 - 1 else 29))) 4 (nI (kp - 1)))) := by
  refine MV.mk (by decide +kernel) (Nat.le_of_ble_eq_true rfl) ?_
  intro p e s m args below meth c ls A Q hret hC hw hl
  have hC : Cxt E p s m args meth c cX7_restore 4 none RX7 A := hC
  have hl : lv_has ls 4 [(0, .ref (a 68))] := hl
  refine lv_aload_n hC.1 hC.2.1 dX7_restore_0 rfl (lv_at hl 0 rfl) ?_
  refine lv_aload_n hC.1 hC.2.1 dX7_restore_1 rfl (lv_at hl 0 rfl) ?_
  refine gf_X7_28 (v := nI 6) hC hw hnx dX7_restore_2 ?_
  have J19_2 : ∀ (w1 : Nat), w1 = (if 6 ≠ 0 then (6 - 1) else 29) → ∀ (H : Heap) (locs : List Loc) (ls : Array Slot), Wst E (XW E a) (σ) A s.heap H locs → lv_has ls 4 [(0, .ref (a 68))] → W p l e ({ frames := 1, cells := 0, slots := 0, locals := 24 }) s m args below meth c H locs 0 0 Q (F0 m 19 ls [.int (nI w1), .ref (a 68)]) := by
    intro w1 e2 H locs ls hw hl
    subst e2
    refine pf_X7_28 hC hw dX7_restore_19 (fun H locs hw => ?_)
    have hw : Wst E (XW E a) (sr σ 0 (upd (σ 0) 3 (nI (if 6 ≠ 0 then (6 - 1) else 29)))) A s.heap H locs := hw
    refine lv_aload_n hC.1 hC.2.1 dX7_restore_22 rfl (lv_at hl 0 rfl) ?_
    refine lv_dup hC.1 hC.2.1 dX7_restore_23 rfl ?_
    refine gf_X7_65 (v := nI kp) hC hw hkp dX7_restore_24 ?_
    refine lv_iconst (v := nI 1) hC.1 hC.2.1 dX7_restore_27 (by decide) ?_
    refine q_subN hC (by omega) dX7_restore_28 ?_
    refine pf_X7_65 hC hw dX7_restore_29 (fun H locs hw => ?_)
    have hw : Wst E (XW E a) (sr (sr σ 0 (upd (σ 0) 3 (nI (if 6 ≠ 0 then (6 - 1) else 29)))) 0 (upd (upd (σ 0) 3 (nI (if 6 ≠ 0 then (6 - 1) else 29))) 4 (nI (kp - 1)))) A s.heap H locs := hw
    have hst_ : sr (sr σ 0 (upd (σ 0) 3 (nI (if 6 ≠ 0 then (6 - 1) else 29)))) 0 (upd (upd (σ 0) 3 (nI (if 6 ≠ 0 then (6 - 1) else 29))) 4 (nI (kp - 1))) = sr σ 0 (upd (upd (σ 0) 3 (nI (if 6 ≠ 0 then (6 - 1) else 29))) 4 (nI (kp - 1))) := by
      funext j_ x_
      by_cases e0 : j_ = 0
      · subst e0
        by_cases y3 : x_ = 3
        · subst y3; rfl
        · by_cases y4 : x_ = 4
          · subst y4; rfl
          · simp [sr, upd, y3, y4]
      · simp only [sr, e0, if_false]
    rw [hst_] at hw
    refine lv_aload_n hC.1 hC.2.1 dX7_restore_32 rfl (lv_at hl 0 rfl) ?_
    refine gf_X7_13 hC hw dX7_restore_33 ?_
    refine lv_aload_n hC.1 hC.2.1 dX7_restore_36 rfl (lv_at hl 0 rfl) ?_
    refine gf_X7_28 (v := nI (if 6 ≠ 0 then (6 - 1) else 29)) hC hw rfl dX7_restore_37 ?_
    refine q_top (y := nI 5) rfl ?_
    refine q_aald hC hw (i := 5) (by decide) dX7_restore_40 ?_
    refine lv_astore_n (lv' := [(1, .ref (a 35)), (0, .ref (a 68))]) hC.1 hC.2.1 dX7_restore_41 rfl hl (by decide) rfl (fun ls hl => ?_)
    refine lv_aload_n hC.1 hC.2.1 dX7_restore_42 rfl (lv_at hl 1 rfl) ?_
    refine gf_X7_16 hC hw dX7_restore_43 ?_
    refine lv_aload_n hC.1 hC.2.1 dX7_restore_46 rfl (lv_at hl 0 rfl) ?_
    refine lv_iconst (v := nI 0) hC.1 hC.2.1 dX7_restore_47 (by decide) ?_
    refine q_ald (Wf := XW E a) (v := σ 35 0) 45 rfl (by decide) hC hw (by omega) rfl dX7_restore_48 ?_
    refine pf_X7_32 hC hw dX7_restore_49 (fun H locs hw => ?_)
    have hw : Wst E (XW E a) (sr (sr σ 0 (upd (upd (σ 0) 3 (nI (if 6 ≠ 0 then (6 - 1) else 29))) 4 (nI (kp - 1)))) 0 (upd (upd (upd (σ 0) 3 (nI (if 6 ≠ 0 then (6 - 1) else 29))) 4 (nI (kp - 1))) 0 (σ 35 0))) A s.heap H locs := hw
    have hst_ : sr (sr σ 0 (upd (upd (σ 0) 3 (nI (if 6 ≠ 0 then (6 - 1) else 29))) 4 (nI (kp - 1)))) 0 (upd (upd (upd (σ 0) 3 (nI (if 6 ≠ 0 then (6 - 1) else 29))) 4 (nI (kp - 1))) 0 (σ 35 0)) = sr σ 0 (upd (upd (upd (σ 0) 0 (σ 35 0)) 3 (nI (if 6 ≠ 0 then (6 - 1) else 29))) 4 (nI (kp - 1))) := by
      funext j_ x_
      by_cases e0 : j_ = 0
      · subst e0
        by_cases y0 : x_ = 0
        · subst y0; rfl
        · by_cases y3 : x_ = 3
          · subst y3; rfl
          · by_cases y4 : x_ = 4
            · subst y4; rfl
            · simp [sr, upd, y0, y3, y4]
      · simp only [sr, e0, if_false]
    rw [hst_] at hw
    refine lv_aload_n hC.1 hC.2.1 dX7_restore_52 rfl (lv_at hl 1 rfl) ?_
    refine gf_X7_20 hC hw dX7_restore_53 ?_
    refine lv_aload_n hC.1 hC.2.1 dX7_restore_56 rfl (lv_at hl 0 rfl) ?_
    refine lv_iconst (v := nI 1) hC.1 hC.2.1 dX7_restore_57 (by decide) ?_
    refine q_ald (Wf := XW E a) (v := σ 35 1) 45 rfl (by decide) hC hw (by omega) rfl dX7_restore_58 ?_
    refine pf_X7_37 hC hw dX7_restore_59 (fun H locs hw => ?_)
    have hw : Wst E (XW E a) (sr (sr σ 0 (upd (upd (upd (σ 0) 0 (σ 35 0)) 3 (nI (if 6 ≠ 0 then (6 - 1) else 29))) 4 (nI (kp - 1)))) 0 (upd (upd (upd (upd (σ 0) 0 (σ 35 0)) 3 (nI (if 6 ≠ 0 then (6 - 1) else 29))) 4 (nI (kp - 1))) 1 (σ 35 1))) A s.heap H locs := hw
    have hst_ : sr (sr σ 0 (upd (upd (upd (σ 0) 0 (σ 35 0)) 3 (nI (if 6 ≠ 0 then (6 - 1) else 29))) 4 (nI (kp - 1)))) 0 (upd (upd (upd (upd (σ 0) 0 (σ 35 0)) 3 (nI (if 6 ≠ 0 then (6 - 1) else 29))) 4 (nI (kp - 1))) 1 (σ 35 1)) = sr σ 0 (upd (upd (upd (upd (σ 0) 0 (σ 35 0)) 1 (σ 35 1)) 3 (nI (if 6 ≠ 0 then (6 - 1) else 29))) 4 (nI (kp - 1))) := by
      funext j_ x_
      by_cases e0 : j_ = 0
      · subst e0
        by_cases y0 : x_ = 0
        · subst y0; rfl
        · by_cases y1 : x_ = 1
          · subst y1; rfl
          · by_cases y3 : x_ = 3
            · subst y3; rfl
            · by_cases y4 : x_ = 4
              · subst y4; rfl
              · simp [sr, upd, y0, y1, y3, y4]
      · simp only [sr, e0, if_false]
    rw [hst_] at hw
    refine lv_aload_n hC.1 hC.2.1 dX7_restore_62 rfl (lv_at hl 1 rfl) ?_
    refine gf_X7_20 hC hw dX7_restore_63 ?_
    refine lv_aload_n hC.1 hC.2.1 dX7_restore_66 rfl (lv_at hl 0 rfl) ?_
    refine lv_iconst (v := nI 2) hC.1 hC.2.1 dX7_restore_67 (by decide) ?_
    refine q_ald (Wf := XW E a) (v := σ 35 2) 45 rfl (by decide) hC hw (by omega) rfl dX7_restore_68 ?_
    refine pf_X7_40 hC hw dX7_restore_69 (fun H locs hw => ?_)
    have hw : Wst E (XW E a) (sr (sr σ 0 (upd (upd (upd (upd (σ 0) 0 (σ 35 0)) 1 (σ 35 1)) 3 (nI (if 6 ≠ 0 then (6 - 1) else 29))) 4 (nI (kp - 1)))) 0 (upd (upd (upd (upd (upd (σ 0) 0 (σ 35 0)) 1 (σ 35 1)) 3 (nI (if 6 ≠ 0 then (6 - 1) else 29))) 4 (nI (kp - 1))) 2 (σ 35 2))) A s.heap H locs := hw
    have hst_ : sr (sr σ 0 (upd (upd (upd (upd (σ 0) 0 (σ 35 0)) 1 (σ 35 1)) 3 (nI (if 6 ≠ 0 then (6 - 1) else 29))) 4 (nI (kp - 1)))) 0 (upd (upd (upd (upd (upd (σ 0) 0 (σ 35 0)) 1 (σ 35 1)) 3 (nI (if 6 ≠ 0 then (6 - 1) else 29))) 4 (nI (kp - 1))) 2 (σ 35 2)) = sr σ 0 (upd (upd (upd (upd (upd (σ 0) 0 (σ 35 0)) 1 (σ 35 1)) 2 (σ 35 2)) 3 (nI (if 6 ≠ 0 then (6 - 1) else 29))) 4 (nI (kp - 1))) := by
      funext j_ x_
      by_cases e0 : j_ = 0
      · subst e0
        by_cases y0 : x_ = 0
        · subst y0; rfl
        · by_cases y1 : x_ = 1
          · subst y1; rfl
          · by_cases y2 : x_ = 2
            · subst y2; rfl
            · by_cases y3 : x_ = 3
              · subst y3; rfl
              · by_cases y4 : x_ = 4
                · subst y4; rfl
                · simp [sr, upd, y0, y1, y2, y3, y4]
      · simp only [sr, e0, if_false]
    rw [hst_] at hw
    refine lv_iconst (v := nI 3) hC.1 hC.2.1 dX7_restore_72 (by decide) ?_
    refine lv_istore_n (lv' := [(2, .int (nI 3)), (1, .ref (a 35)), (0, .ref (a 68))]) hC.1 hC.2.1 dX7_restore_73 rfl hl (by decide) rfl (fun ls hl => ?_)
    refine lv_aload_n hC.1 hC.2.1 dX7_restore_74 rfl (lv_at hl 1 rfl) ?_
    refine lv_iload_n hC.1 hC.2.1 dX7_restore_75 rfl (lv_at hl 0 rfl) ?_
    refine lv_aload_n hC.1 hC.2.1 dX7_restore_76 rfl (lv_at hl 2 rfl) ?_
    refine gf_X7_24 hC hw dX7_restore_77 ?_
    refine lv_iconst (v := nI 0) hC.1 hC.2.1 dX7_restore_80 (by decide) ?_
    refine lv_iconst (v := nI 3) hC.1 hC.2.1 dX7_restore_81 (by decide) ?_
    refine q_cpy (sp := 3) (dp := 0) (n := 3) 45 rfl 25 rfl (XW_s15 _) hC hw hl (by omega) (by omega) (by decide) (by decide) ⟨Nat.le_of_ble_eq_true rfl, Nat.le_of_ble_eq_true rfl⟩ wk2_182 dX7_restore_82 (fun H locs hw => ?_)
    have hw : Wst E (XW E a) (sr (sr σ 0 (upd (upd (upd (upd (upd (σ 0) 0 (σ 35 0)) 1 (σ 35 1)) 2 (σ 35 2)) 3 (nI (if 6 ≠ 0 then (6 - 1) else 29))) 4 (nI (kp - 1)))) 15 (va_cpy (σ 35) (σ 15) 3 0 3)) A s.heap H locs := hw
    have hst_ : sr (sr σ 0 (upd (upd (upd (upd (upd (σ 0) 0 (σ 35 0)) 1 (σ 35 1)) 2 (σ 35 2)) 3 (nI (if 6 ≠ 0 then (6 - 1) else 29))) 4 (nI (kp - 1)))) 15 (va_cpy (σ 35) (σ 15) 3 0 3) = sr (sr σ 15 (va_cpy (σ 35) (σ 15) 3 0 3)) 0 (upd (upd (upd (upd (upd (σ 0) 0 (σ 35 0)) 1 (σ 35 1)) 2 (σ 35 2)) 3 (nI (if 6 ≠ 0 then (6 - 1) else 29))) 4 (nI (kp - 1))) := by
      funext j_ x_
      by_cases e0 : j_ = 0
      · subst e0
        by_cases y0 : x_ = 0
        · subst y0; rfl
        · by_cases y1 : x_ = 1
          · subst y1; rfl
          · by_cases y2 : x_ = 2
            · subst y2; rfl
            · by_cases y3 : x_ = 3
              · subst y3; rfl
              · by_cases y4 : x_ = 4
                · subst y4; rfl
                · simp [sr, upd, y0, y1, y2, y3, y4]
      · by_cases e15 : j_ = 15
        · subst e15; rfl
        · simp only [sr, e0, e15, if_false]
    rw [hst_] at hw
    refine lv_iinc (v := nI (3 + 3)) (lv' := [(2, .int (nI (3 + 3))), (1, .ref (a 35)), (0, .ref (a 68))]) hC.1 hC.2.1 dX7_restore_85 hl (k := 0) rfl (nI_add _ _) (by decide) rfl (fun ls hl => ?_)
    refine lv_iconst (v := nI 0) hC.1 hC.2.1 dX7_restore_88 (by decide) ?_
    refine lv_istore_n (lv' := [(3, .int (nI 0)), (2, .int (nI (3 + 3))), (1, .ref (a 35)), (0, .ref (a 68))]) hC.1 hC.2.1 dX7_restore_89 rfl hl (by decide) rfl (fun ls hl => ?_)
    have L90_2 : ∀ (n : Nat), ∀ (h : Nat), (h ≤ 10) → (10 - h) < n → ∀ (H : Heap) (locs : List Loc) (ls : Array Slot), Wst E (XW E a) (sr (sr (sr σ 4 (upr (σ 35) h (σ 4))) 15 (va_cpy (σ 35) (σ 15) 3 0 3)) 0 (upd (upd (upd (upd (upd (σ 0) 0 (σ 35 0)) 1 (σ 35 1)) 2 (σ 35 2)) 3 (nI (if 6 ≠ 0 then (6 - 1) else 29))) 4 (nI (kp - 1)))) A s.heap H locs → lv_has ls 4 [(0, .ref (a 68)), (1, .ref (a 35)), (2, .int (nI (3 + 3))), (3, .int (nI h))] → W p l e ({ frames := 1, cells := 0, slots := 0, locals := 24 }) s m args below meth c H locs 0 0 Q (F0 m 90 ls []) := by
      intro n
      induction n with
      | zero => intro h hh hn; exact absurd hn (Nat.not_lt_zero _)
      | succ n ih90 =>
        intro h hh hn90 H locs ls hw hl
        refine lv_iload_n hC.1 hC.2.1 dX7_restore_90 rfl (lv_at hl 3 rfl) ?_
        refine lv_bipush (v := nI 10) hC.1 hC.2.1 dX7_restore_91 (by decide) ?_
        refine q_cmpge hC 125 (cNle (by omega) (by omega)) dX7_restore_93 (by decide) (fun (c4 : 10 ≤ h) => ?_) (fun (c4 : h < 10) => ?_)
        · have hh9 : h = 10 := by omega
          rw [hh9] at hw
          refine lv_iinc (v := nI (3 + 3 + 10)) (lv' := [(2, .int (nI (3 + 3 + 10))), (0, .ref (a 68)), (1, .ref (a 35)), (3, .int (nI h))]) hC.1 hC.2.1 dX7_restore_125 hl (k := 2) rfl (nI_add _ _) (by decide) rfl (fun ls hl => ?_)
          refine lv_aload_n hC.1 hC.2.1 dX7_restore_128 rfl (lv_at hl 2 rfl) ?_
          refine lv_iload_n hC.1 hC.2.1 dX7_restore_129 rfl (lv_at hl 0 rfl) ?_
          refine lv_aload_n hC.1 hC.2.1 dX7_restore_130 rfl (lv_at hl 1 rfl) ?_
          refine gf_X7_20 hC hw dX7_restore_131 ?_
          refine gf_X7_53 hC hw dX7_restore_134 ?_
          refine lv_iconst (v := nI 0) hC.1 hC.2.1 dX7_restore_137 (by decide) ?_
          refine lv_bipush (v := nI 24) hC.1 hC.2.1 dX7_restore_138 (by decide) ?_
          refine q_cpy (sp := (3 + 3 + 10)) (dp := 0) (n := 24) 45 rfl 21 rfl (XW_s11 _) hC hw hl (by omega) (by omega) (by decide) (by decide) ⟨Nat.le_of_ble_eq_true rfl, Nat.le_of_ble_eq_true rfl⟩ wk2_182 dX7_restore_140 (fun H locs hw => ?_)
          have hw : Wst E (XW E a) (sr (sr (sr (sr σ 4 (upr (σ 35) 10 (σ 4))) 15 (va_cpy (σ 35) (σ 15) 3 0 3)) 0 (upd (upd (upd (upd (upd (σ 0) 0 (σ 35 0)) 1 (σ 35 1)) 2 (σ 35 2)) 3 (nI (if 6 ≠ 0 then (6 - 1) else 29))) 4 (nI (kp - 1)))) 11 (va_cpy (σ 35) (σ 11) (3 + 3 + 10) 0 24)) A s.heap H locs := hw
          have hst_ : sr (sr (sr (sr σ 4 (upr (σ 35) 10 (σ 4))) 15 (va_cpy (σ 35) (σ 15) 3 0 3)) 0 (upd (upd (upd (upd (upd (σ 0) 0 (σ 35 0)) 1 (σ 35 1)) 2 (σ 35 2)) 3 (nI (if 6 ≠ 0 then (6 - 1) else 29))) 4 (nI (kp - 1)))) 11 (va_cpy (σ 35) (σ 11) (3 + 3 + 10) 0 24) = sr (sr (sr (sr σ 4 (upr (σ 35) 10 (σ 4))) 11 (va_cpy (σ 35) (σ 11) (3 + 3 + 10) 0 24)) 15 (va_cpy (σ 35) (σ 15) 3 0 3)) 0 (upd (upd (upd (upd (upd (σ 0) 0 (σ 35 0)) 1 (σ 35 1)) 2 (σ 35 2)) 3 (nI (if 6 ≠ 0 then (6 - 1) else 29))) 4 (nI (kp - 1))) := by
            funext j_ x_
            by_cases e0 : j_ = 0
            · subst e0
              by_cases y0 : x_ = 0
              · subst y0; rfl
              · by_cases y1 : x_ = 1
                · subst y1; rfl
                · by_cases y2 : x_ = 2
                  · subst y2; rfl
                  · by_cases y3 : x_ = 3
                    · subst y3; rfl
                    · by_cases y4 : x_ = 4
                      · subst y4; rfl
                      · simp [sr, upd, y0, y1, y2, y3, y4]
            · by_cases e4 : j_ = 4
              · subst e4; rfl
              · by_cases e11 : j_ = 11
                · subst e11; rfl
                · by_cases e15 : j_ = 15
                  · subst e15; rfl
                  · simp only [sr, e0, e4, e11, e15, if_false]
          rw [hst_] at hw
          refine lv_aload_n hC.1 hC.2.1 dX7_restore_143 rfl (lv_at hl 2 rfl) ?_
          refine lv_iload_n hC.1 hC.2.1 dX7_restore_144 rfl (lv_at hl 0 rfl) ?_
          refine lv_bipush (v := nI 24) hC.1 hC.2.1 dX7_restore_145 (by decide) ?_
          refine q_addN hC dX7_restore_147 ?_
          refine lv_aload_n hC.1 hC.2.1 dX7_restore_148 rfl (lv_at hl 1 rfl) ?_
          refine gf_X7_20 hC hw dX7_restore_149 ?_
          refine gf_X7_56 hC hw dX7_restore_152 ?_
          refine lv_iconst (v := nI 0) hC.1 hC.2.1 dX7_restore_155 (by decide) ?_
          refine lv_bipush (v := nI 24) hC.1 hC.2.1 dX7_restore_156 (by decide) ?_
          refine q_cpy (sp := ((3 + 3 + 10) + 24)) (dp := 0) (n := 24) 45 rfl 22 rfl (XW_s12 _) hC hw hl (by omega) (by omega) (by decide) (by decide) ⟨Nat.le_of_ble_eq_true rfl, Nat.le_of_ble_eq_true rfl⟩ wk2_182 dX7_restore_158 (fun H locs hw => ?_)
          have hw : Wst E (XW E a) (sr (sr (sr (sr (sr σ 4 (upr (σ 35) 10 (σ 4))) 11 (va_cpy (σ 35) (σ 11) (3 + 3 + 10) 0 24)) 15 (va_cpy (σ 35) (σ 15) 3 0 3)) 0 (upd (upd (upd (upd (upd (σ 0) 0 (σ 35 0)) 1 (σ 35 1)) 2 (σ 35 2)) 3 (nI (if 6 ≠ 0 then (6 - 1) else 29))) 4 (nI (kp - 1)))) 12 (va_cpy (σ 35) (σ 12) ((3 + 3 + 10) + 24) 0 24)) A s.heap H locs := hw
          have hst_ : sr (sr (sr (sr (sr σ 4 (upr (σ 35) 10 (σ 4))) 11 (va_cpy (σ 35) (σ 11) (3 + 3 + 10) 0 24)) 15 (va_cpy (σ 35) (σ 15) 3 0 3)) 0 (upd (upd (upd (upd (upd (σ 0) 0 (σ 35 0)) 1 (σ 35 1)) 2 (σ 35 2)) 3 (nI (if 6 ≠ 0 then (6 - 1) else 29))) 4 (nI (kp - 1)))) 12 (va_cpy (σ 35) (σ 12) ((3 + 3 + 10) + 24) 0 24) = sr (sr (sr (sr (sr σ 4 (upr (σ 35) 10 (σ 4))) 11 (va_cpy (σ 35) (σ 11) (3 + 3 + 10) 0 24)) 12 (va_cpy (σ 35) (σ 12) ((3 + 3 + 10) + 24) 0 24)) 15 (va_cpy (σ 35) (σ 15) 3 0 3)) 0 (upd (upd (upd (upd (upd (σ 0) 0 (σ 35 0)) 1 (σ 35 1)) 2 (σ 35 2)) 3 (nI (if 6 ≠ 0 then (6 - 1) else 29))) 4 (nI (kp - 1))) := by
            funext j_ x_
            by_cases e0 : j_ = 0
            · subst e0
              by_cases y0 : x_ = 0
              · subst y0; rfl
              · by_cases y1 : x_ = 1
                · subst y1; rfl
                · by_cases y2 : x_ = 2
                  · subst y2; rfl
                  · by_cases y3 : x_ = 3
                    · subst y3; rfl
                    · by_cases y4 : x_ = 4
                      · subst y4; rfl
                      · simp [sr, upd, y0, y1, y2, y3, y4]
            · by_cases e4 : j_ = 4
              · subst e4; rfl
              · by_cases e11 : j_ = 11
                · subst e11; rfl
                · by_cases e12 : j_ = 12
                  · subst e12; rfl
                  · by_cases e15 : j_ = 15
                    · subst e15; rfl
                    · simp only [sr, e0, e4, e11, e12, e15, if_false]
          rw [hst_] at hw
          refine lv_aload_n hC.1 hC.2.1 dX7_restore_161 rfl (lv_at hl 2 rfl) ?_
          refine lv_iload_n hC.1 hC.2.1 dX7_restore_162 rfl (lv_at hl 0 rfl) ?_
          refine lv_bipush (v := nI 48) hC.1 hC.2.1 dX7_restore_163 (by decide) ?_
          refine q_addN hC dX7_restore_165 ?_
          refine lv_aload_n hC.1 hC.2.1 dX7_restore_166 rfl (lv_at hl 1 rfl) ?_
          refine gf_X7_20 hC hw dX7_restore_167 ?_
          refine gf_X7_59 hC hw dX7_restore_170 ?_
          refine lv_iconst (v := nI 0) hC.1 hC.2.1 dX7_restore_173 (by decide) ?_
          refine lv_bipush (v := nI 24) hC.1 hC.2.1 dX7_restore_174 (by decide) ?_
          refine q_cpy (sp := ((3 + 3 + 10) + 48)) (dp := 0) (n := 24) 45 rfl 23 rfl (XW_s13 _) hC hw hl (by omega) (by omega) (by decide) (by decide) ⟨Nat.le_of_ble_eq_true rfl, Nat.le_of_ble_eq_true rfl⟩ wk2_182 dX7_restore_176 (fun H locs hw => ?_)
          have hw : Wst E (XW E a) (sr (sr (sr (sr (sr (sr σ 4 (upr (σ 35) 10 (σ 4))) 11 (va_cpy (σ 35) (σ 11) (3 + 3 + 10) 0 24)) 12 (va_cpy (σ 35) (σ 12) ((3 + 3 + 10) + 24) 0 24)) 15 (va_cpy (σ 35) (σ 15) 3 0 3)) 0 (upd (upd (upd (upd (upd (σ 0) 0 (σ 35 0)) 1 (σ 35 1)) 2 (σ 35 2)) 3 (nI (if 6 ≠ 0 then (6 - 1) else 29))) 4 (nI (kp - 1)))) 13 (va_cpy (σ 35) (σ 13) ((3 + 3 + 10) + 48) 0 24)) A s.heap H locs := hw
          have hst_ : sr (sr (sr (sr (sr (sr σ 4 (upr (σ 35) 10 (σ 4))) 11 (va_cpy (σ 35) (σ 11) (3 + 3 + 10) 0 24)) 12 (va_cpy (σ 35) (σ 12) ((3 + 3 + 10) + 24) 0 24)) 15 (va_cpy (σ 35) (σ 15) 3 0 3)) 0 (upd (upd (upd (upd (upd (σ 0) 0 (σ 35 0)) 1 (σ 35 1)) 2 (σ 35 2)) 3 (nI (if 6 ≠ 0 then (6 - 1) else 29))) 4 (nI (kp - 1)))) 13 (va_cpy (σ 35) (σ 13) ((3 + 3 + 10) + 48) 0 24) = sr (sr (sr (sr (sr (sr σ 4 (upr (σ 35) 10 (σ 4))) 11 (va_cpy (σ 35) (σ 11) (3 + 3 + 10) 0 24)) 12 (va_cpy (σ 35) (σ 12) ((3 + 3 + 10) + 24) 0 24)) 13 (va_cpy (σ 35) (σ 13) ((3 + 3 + 10) + 48) 0 24)) 15 (va_cpy (σ 35) (σ 15) 3 0 3)) 0 (upd (upd (upd (upd (upd (σ 0) 0 (σ 35 0)) 1 (σ 35 1)) 2 (σ 35 2)) 3 (nI (if 6 ≠ 0 then (6 - 1) else 29))) 4 (nI (kp - 1))) := by
            funext j_ x_
            by_cases e0 : j_ = 0
            · subst e0
              by_cases y0 : x_ = 0
              · subst y0; rfl
              · by_cases y1 : x_ = 1
                · subst y1; rfl
                · by_cases y2 : x_ = 2
                  · subst y2; rfl
                  · by_cases y3 : x_ = 3
                    · subst y3; rfl
                    · by_cases y4 : x_ = 4
                      · subst y4; rfl
                      · simp [sr, upd, y0, y1, y2, y3, y4]
            · by_cases e4 : j_ = 4
              · subst e4; rfl
              · by_cases e11 : j_ = 11
                · subst e11; rfl
                · by_cases e12 : j_ = 12
                  · subst e12; rfl
                  · by_cases e13 : j_ = 13
                    · subst e13; rfl
                    · by_cases e15 : j_ = 15
                      · subst e15; rfl
                      · simp only [sr, e0, e4, e11, e12, e13, e15, if_false]
          rw [hst_] at hw
          refine lv_aload_n hC.1 hC.2.1 dX7_restore_179 rfl (lv_at hl 2 rfl) ?_
          refine lv_iload_n hC.1 hC.2.1 dX7_restore_180 rfl (lv_at hl 0 rfl) ?_
          refine lv_bipush (v := nI 72) hC.1 hC.2.1 dX7_restore_181 (by decide) ?_
          refine q_addN hC dX7_restore_183 ?_
          refine lv_aload_n hC.1 hC.2.1 dX7_restore_184 rfl (lv_at hl 1 rfl) ?_
          refine gf_X7_20 hC hw dX7_restore_185 ?_
          refine gf_X7_62 hC hw dX7_restore_188 ?_
          refine lv_iconst (v := nI 0) hC.1 hC.2.1 dX7_restore_191 (by decide) ?_
          refine lv_bipush (v := nI 24) hC.1 hC.2.1 dX7_restore_192 (by decide) ?_
          refine q_cpy (sp := ((3 + 3 + 10) + 72)) (dp := 0) (n := 24) 45 rfl 24 rfl (XW_s14 _) hC hw hl (by omega) (by omega) (by decide) (by decide) ⟨Nat.le_of_ble_eq_true rfl, Nat.le_of_ble_eq_true rfl⟩ wk2_182 dX7_restore_194 (fun H locs hw => ?_)
          have hw : Wst E (XW E a) (sr (sr (sr (sr (sr (sr (sr σ 4 (upr (σ 35) 10 (σ 4))) 11 (va_cpy (σ 35) (σ 11) (3 + 3 + 10) 0 24)) 12 (va_cpy (σ 35) (σ 12) ((3 + 3 + 10) + 24) 0 24)) 13 (va_cpy (σ 35) (σ 13) ((3 + 3 + 10) + 48) 0 24)) 15 (va_cpy (σ 35) (σ 15) 3 0 3)) 0 (upd (upd (upd (upd (upd (σ 0) 0 (σ 35 0)) 1 (σ 35 1)) 2 (σ 35 2)) 3 (nI (if 6 ≠ 0 then (6 - 1) else 29))) 4 (nI (kp - 1)))) 14 (va_cpy (σ 35) (σ 14) ((3 + 3 + 10) + 72) 0 24)) A s.heap H locs := hw
          have hst_ : sr (sr (sr (sr (sr (sr (sr σ 4 (upr (σ 35) 10 (σ 4))) 11 (va_cpy (σ 35) (σ 11) (3 + 3 + 10) 0 24)) 12 (va_cpy (σ 35) (σ 12) ((3 + 3 + 10) + 24) 0 24)) 13 (va_cpy (σ 35) (σ 13) ((3 + 3 + 10) + 48) 0 24)) 15 (va_cpy (σ 35) (σ 15) 3 0 3)) 0 (upd (upd (upd (upd (upd (σ 0) 0 (σ 35 0)) 1 (σ 35 1)) 2 (σ 35 2)) 3 (nI (if 6 ≠ 0 then (6 - 1) else 29))) 4 (nI (kp - 1)))) 14 (va_cpy (σ 35) (σ 14) ((3 + 3 + 10) + 72) 0 24) = sr (sr (sr (sr (sr (sr (sr σ 4 (upr (σ 35) 10 (σ 4))) 11 (va_cpy (σ 35) (σ 11) (3 + 3 + 10) 0 24)) 12 (va_cpy (σ 35) (σ 12) ((3 + 3 + 10) + 24) 0 24)) 13 (va_cpy (σ 35) (σ 13) ((3 + 3 + 10) + 48) 0 24)) 14 (va_cpy (σ 35) (σ 14) ((3 + 3 + 10) + 72) 0 24)) 15 (va_cpy (σ 35) (σ 15) 3 0 3)) 0 (upd (upd (upd (upd (upd (σ 0) 0 (σ 35 0)) 1 (σ 35 1)) 2 (σ 35 2)) 3 (nI (if 6 ≠ 0 then (6 - 1) else 29))) 4 (nI (kp - 1))) := by
            funext j_ x_
            by_cases e0 : j_ = 0
            · subst e0
              by_cases y0 : x_ = 0
              · subst y0; rfl
              · by_cases y1 : x_ = 1
                · subst y1; rfl
                · by_cases y2 : x_ = 2
                  · subst y2; rfl
                  · by_cases y3 : x_ = 3
                    · subst y3; rfl
                    · by_cases y4 : x_ = 4
                      · subst y4; rfl
                      · simp [sr, upd, y0, y1, y2, y3, y4]
            · by_cases e4 : j_ = 4
              · subst e4; rfl
              · by_cases e11 : j_ = 11
                · subst e11; rfl
                · by_cases e12 : j_ = 12
                  · subst e12; rfl
                  · by_cases e13 : j_ = 13
                    · subst e13; rfl
                    · by_cases e14 : j_ = 14
                      · subst e14; rfl
                      · by_cases e15 : j_ = 15
                        · subst e15; rfl
                        · simp only [sr, e0, e4, e11, e12, e13, e14, e15, if_false]
          rw [hst_] at hw
          refine hret _ _ _ _ _ hw ?_ dX7_restore_197
          exact rfl
        · refine lv_aload_n hC.1 hC.2.1 dX7_restore_96 rfl (lv_at hl 0 rfl) ?_
          refine gf_X7_16 hC hw dX7_restore_97 ?_
          refine gf_X7_49 hC hw dX7_restore_100 ?_
          refine lv_iload_n hC.1 hC.2.1 dX7_restore_103 rfl (lv_at hl 3 rfl) ?_
          refine lv_aload_n hC.1 hC.2.1 dX7_restore_104 rfl (lv_at hl 1 rfl) ?_
          refine lv_iload_n hC.1 hC.2.1 dX7_restore_105 rfl (lv_at hl 2 rfl) ?_
          refine lv_iload_n hC.1 hC.2.1 dX7_restore_106 rfl (lv_at hl 3 rfl) ?_
          refine q_addN hC dX7_restore_107 ?_
          refine q_ald (Wf := XW E a) (v := σ 35 ((3 + 3) + h)) 45 rfl (by decide) hC hw (by omega) rfl dX7_restore_108 ?_
          refine lv_iconst (v := nI 1) hC.1 hC.2.1 dX7_restore_109 (by decide) ?_
          have J118_6 : ∀ (w5 : Int32), w5 = (if (σ 35 ((3 + 3) + h)) = 1 then (1 : Int32) else 0) → ∀ (H : Heap) (locs : List Loc) (ls : Array Slot), Wst E (XW E a) (sr (sr (sr σ 4 (upr (σ 35) h (σ 4))) 15 (va_cpy (σ 35) (σ 15) 3 0 3)) 0 (upd (upd (upd (upd (upd (σ 0) 0 (σ 35 0)) 1 (σ 35 1)) 2 (σ 35 2)) 3 (nI (if 6 ≠ 0 then (6 - 1) else 29))) 4 (nI (kp - 1)))) A s.heap H locs → lv_has ls 4 [(0, .ref (a 68)), (1, .ref (a 35)), (2, .int (nI (3 + 3))), (3, .int (nI h))] → W p l e ({ frames := 1, cells := 0, slots := 0, locals := 24 }) s m args below meth c H locs 0 0 Q (F0 m 118 ls [.int (w5), .int (nI h), .ref (a 4)]) := by
            intro w5 e6 H locs ls hw hl
            subst e6
            refine as_X4 hC hw (by omega) vz_B dX7_restore_118 (fun H locs hw => ?_)
            have hw : Wst E (XW E a) (sr (sr (sr (sr σ 4 (upr (σ 35) h (σ 4))) 15 (va_cpy (σ 35) (σ 15) 3 0 3)) 0 (upd (upd (upd (upd (upd (σ 0) 0 (σ 35 0)) 1 (σ 35 1)) 2 (σ 35 2)) 3 (nI (if 6 ≠ 0 then (6 - 1) else 29))) 4 (nI (kp - 1)))) 4 (upd (upr (σ 35) h (σ 4)) h (if (σ 35 ((3 + 3) + h)) = 1 then (1 : Int32) else 0))) A s.heap H locs := hw
            have hst_ : sr (sr (sr (sr σ 4 (upr (σ 35) h (σ 4))) 15 (va_cpy (σ 35) (σ 15) 3 0 3)) 0 (upd (upd (upd (upd (upd (σ 0) 0 (σ 35 0)) 1 (σ 35 1)) 2 (σ 35 2)) 3 (nI (if 6 ≠ 0 then (6 - 1) else 29))) 4 (nI (kp - 1)))) 4 (upd (upr (σ 35) h (σ 4)) h (if (σ 35 ((3 + 3) + h)) = 1 then (1 : Int32) else 0)) = sr (sr (sr σ 4 (upd (upr (σ 35) h (σ 4)) h (if (σ 35 ((3 + 3) + h)) = 1 then (1 : Int32) else 0))) 15 (va_cpy (σ 35) (σ 15) 3 0 3)) 0 (upd (upd (upd (upd (upd (σ 0) 0 (σ 35 0)) 1 (σ 35 1)) 2 (σ 35 2)) 3 (nI (if 6 ≠ 0 then (6 - 1) else 29))) 4 (nI (kp - 1))) := by
              funext j_ x_
              by_cases e0 : j_ = 0
              · subst e0
                by_cases y0 : x_ = 0
                · subst y0; rfl
                · by_cases y1 : x_ = 1
                  · subst y1; rfl
                  · by_cases y2 : x_ = 2
                    · subst y2; rfl
                    · by_cases y3 : x_ = 3
                      · subst y3; rfl
                      · by_cases y4 : x_ = 4
                        · subst y4; rfl
                        · simp [sr, upd, y0, y1, y2, y3, y4]
              · by_cases e4 : j_ = 4
                · subst e4; rfl
                · by_cases e15 : j_ = 15
                  · subst e15; rfl
                  · simp only [sr, e0, e4, e15, if_false]
            rw [hst_] at hw
            refine lv_iinc (v := nI (h + 1)) (lv' := [(3, .int (nI (h + 1))), (0, .ref (a 68)), (1, .ref (a 35)), (2, .int (nI (3 + 3)))]) hC.1 hC.2.1 dX7_restore_119 hl (k := 3) rfl (nI_add _ _) (by decide) rfl (fun ls hl => ?_)
            refine lv_goto (tgt := 90) hC.1 hC.2.1 dX7_restore_122 (by decide) ?_
            rw [upr_s] at hw
            exact ih90 (h + 1) (by omega) (by omega) _ _ _ hw (lv_sub hl [1, 2, 3, 0] rfl)
          refine q_cmpne hC 117 cI dX7_restore_110 (by decide) (fun (c7 : ¬ ((σ 35 ((3 + 3) + h)) = 1)) => ?_) (fun (c7 : (σ 35 ((3 + 3) + h)) = 1) => ?_)
          · refine lv_iconst (v := nI 0) hC.1 hC.2.1 dX7_restore_117 (by decide) ?_
            exact J118_6 _ (if_neg c7).symm _ _ _ hw (lv_sub hl [0, 1, 2, 3] rfl)
          · refine lv_iconst (v := nI 1) hC.1 hC.2.1 dX7_restore_113 (by decide) ?_
            refine lv_goto (tgt := 118) hC.1 hC.2.1 dX7_restore_114 (by decide) ?_
            exact J118_6 _ (if_pos c7).symm _ _ _ hw (lv_sub hl [0, 1, 2, 3] rfl)
    have hst_ : sr (sr σ 15 (va_cpy (σ 35) (σ 15) 3 0 3)) 0 (upd (upd (upd (upd (upd (σ 0) 0 (σ 35 0)) 1 (σ 35 1)) 2 (σ 35 2)) 3 (nI (if 6 ≠ 0 then (6 - 1) else 29))) 4 (nI (kp - 1))) = sr (sr (sr σ 4 (upr (σ 35) 0 (σ 4))) 15 (va_cpy (σ 35) (σ 15) 3 0 3)) 0 (upd (upd (upd (upd (upd (σ 0) 0 (σ 35 0)) 1 (σ 35 1)) 2 (σ 35 2)) 3 (nI (if 6 ≠ 0 then (6 - 1) else 29))) 4 (nI (kp - 1))) := by
      funext j_ x_
      by_cases e0 : j_ = 0
      · subst e0
        by_cases y0 : x_ = 0
        · subst y0; rfl
        · by_cases y1 : x_ = 1
          · subst y1; rfl
          · by_cases y2 : x_ = 2
            · subst y2; rfl
            · by_cases y3 : x_ = 3
              · subst y3; rfl
              · by_cases y4 : x_ = 4
                · subst y4; rfl
                · simp [sr, upd, y0, y1, y2, y3, y4]
      · by_cases e4 : j_ = 4
        · subst e4; show σ 4 x_ = upr (σ 35) 0 (σ 4) x_; rw [upr_0]
        · by_cases e15 : j_ = 15
          · subst e15; rfl
          · simp only [sr, e0, e4, e15, if_false]
    rw [hst_] at hw
    exact L90_2 _ 0 (by omega) (Nat.lt_succ_self _) _ _ _ hw (lv_sub hl [3, 2, 1, 0] rfl)
  refine q_ifne hC 13 (cN0 (by omega)) dX7_restore_5 (by decide) (fun (c8 : 6 ≠ 0) => ?_) (fun (c8 : 6 = 0) => ?_)
  · refine lv_aload_n hC.1 hC.2.1 dX7_restore_13 rfl (lv_at hl 0 rfl) ?_
    refine gf_X7_28 (v := nI 6) hC hw hnx dX7_restore_14 ?_
    refine lv_iconst (v := nI 1) hC.1 hC.2.1 dX7_restore_17 (by decide) ?_
    refine q_subN hC (by omega) dX7_restore_18 ?_
    exact J19_2 _ (by (rw [if_pos c8]) <;> rfl) _ _ _ hw (lv_sub hl [0] rfl)
  · refine lv_bipush (v := nI 29) hC.1 hC.2.1 dX7_restore_8 (by decide) ?_
    refine lv_goto (tgt := 19) hC.1 hC.2.1 dX7_restore_10 (by decide) ?_
    exact J19_2 _ (by (rw [if_neg (fun q => q c8)]) <;> rfl) _ _ _ hw (lv_sub hl [0] rfl)
set_option maxHeartbeats 4000000 in
set_option maxRecDepth 100000 in
theorem tX7_restore_k7 (l : Launch) (E : EV) (a : Nat → Nat) (σ : St) (kp : Nat) (hnx : σ 0 3 = nI 7) (hkp : σ 0 4 = nI kp) (hk30 : kp ≤ 30) (hk1 : 1 ≤ kp) : MV l E (XW E a) yX7_restore (Cond.code yX7_restore cX7_restore 4 none) ({ frames := 1, cells := 0, slots := 0, locals := 24 }) [.ref (a 68)] σ (fun u_ => u_ = sr (sr (sr (sr (sr (sr (sr σ 4 (upr (σ 36) 10 (σ 4))) 11 (va_cpy (σ 36) (σ 11) 16 0 24)) 12 (va_cpy (σ 36) (σ 12) 40 0 24)) 13 (va_cpy (σ 36) (σ 13) 64 0 24)) 14 (va_cpy (σ 36) (σ 14) 88 0 24)) 15 (va_cpy (σ 36) (σ 15) 3 0 3)) 0 (upd (upd (upd (upd (upd (σ 0) 0 ((σ 36) 0)) 1 ((σ 36) 1)) 2 ((σ 36) 2)) 3 (nI (if 7 ≠ 0 then 7 - 1 else 29))) 4 (nI (kp - 1)))) := by
  refine MV.mk (by decide +kernel) (Nat.le_of_ble_eq_true rfl) ?_
  intro p e s m args below meth c ls A Q hret hC hw hl
  have hC : Cxt E p s m args meth c cX7_restore 4 none RX7 A := hC
  have hl : lv_has ls 4 [(0, .ref (a 68))] := hl
  refine lv_aload_n hC.1 hC.2.1 dX7_restore_0 rfl (lv_at hl 0 rfl) ?_
  refine lv_aload_n hC.1 hC.2.1 dX7_restore_1 rfl (lv_at hl 0 rfl) ?_
  refine gf_X7_28 (v := nI 7) hC hw hnx dX7_restore_2 ?_
  have J19_2 : ∀ (w1 : Nat), w1 = (if 7 ≠ 0 then (7 - 1) else 29) → ∀ (H : Heap) (locs : List Loc) (ls : Array Slot), Wst E (XW E a) (σ) A s.heap H locs → lv_has ls 4 [(0, .ref (a 68))] → W p l e ({ frames := 1, cells := 0, slots := 0, locals := 24 }) s m args below meth c H locs 0 0 Q (F0 m 19 ls [.int (nI w1), .ref (a 68)]) := by
    intro w1 e2 H locs ls hw hl
    subst e2
    refine pf_X7_28 hC hw dX7_restore_19 (fun H locs hw => ?_)
    have hw : Wst E (XW E a) (sr σ 0 (upd (σ 0) 3 (nI (if 7 ≠ 0 then (7 - 1) else 29)))) A s.heap H locs := hw
    refine lv_aload_n hC.1 hC.2.1 dX7_restore_22 rfl (lv_at hl 0 rfl) ?_
    refine lv_dup hC.1 hC.2.1 dX7_restore_23 rfl ?_
    refine gf_X7_65 (v := nI kp) hC hw hkp dX7_restore_24 ?_
    refine lv_iconst (v := nI 1) hC.1 hC.2.1 dX7_restore_27 (by decide) ?_
    refine q_subN hC (by omega) dX7_restore_28 ?_
    refine pf_X7_65 hC hw dX7_restore_29 (fun H locs hw => ?_)
    have hw : Wst E (XW E a) (sr (sr σ 0 (upd (σ 0) 3 (nI (if 7 ≠ 0 then (7 - 1) else 29)))) 0 (upd (upd (σ 0) 3 (nI (if 7 ≠ 0 then (7 - 1) else 29))) 4 (nI (kp - 1)))) A s.heap H locs := hw
    have hst_ : sr (sr σ 0 (upd (σ 0) 3 (nI (if 7 ≠ 0 then (7 - 1) else 29)))) 0 (upd (upd (σ 0) 3 (nI (if 7 ≠ 0 then (7 - 1) else 29))) 4 (nI (kp - 1))) = sr σ 0 (upd (upd (σ 0) 3 (nI (if 7 ≠ 0 then (7 - 1) else 29))) 4 (nI (kp - 1))) := by
      funext j_ x_
      by_cases e0 : j_ = 0
      · subst e0
        by_cases y3 : x_ = 3
        · subst y3; rfl
        · by_cases y4 : x_ = 4
          · subst y4; rfl
          · simp [sr, upd, y3, y4]
      · simp only [sr, e0, if_false]
    rw [hst_] at hw
    refine lv_aload_n hC.1 hC.2.1 dX7_restore_32 rfl (lv_at hl 0 rfl) ?_
    refine gf_X7_13 hC hw dX7_restore_33 ?_
    refine lv_aload_n hC.1 hC.2.1 dX7_restore_36 rfl (lv_at hl 0 rfl) ?_
    refine gf_X7_28 (v := nI (if 7 ≠ 0 then (7 - 1) else 29)) hC hw rfl dX7_restore_37 ?_
    refine q_top (y := nI 6) rfl ?_
    refine q_aald hC hw (i := 6) (by decide) dX7_restore_40 ?_
    refine lv_astore_n (lv' := [(1, .ref (a 36)), (0, .ref (a 68))]) hC.1 hC.2.1 dX7_restore_41 rfl hl (by decide) rfl (fun ls hl => ?_)
    refine lv_aload_n hC.1 hC.2.1 dX7_restore_42 rfl (lv_at hl 1 rfl) ?_
    refine gf_X7_16 hC hw dX7_restore_43 ?_
    refine lv_aload_n hC.1 hC.2.1 dX7_restore_46 rfl (lv_at hl 0 rfl) ?_
    refine lv_iconst (v := nI 0) hC.1 hC.2.1 dX7_restore_47 (by decide) ?_
    refine q_ald (Wf := XW E a) (v := σ 36 0) 46 rfl (by decide) hC hw (by omega) rfl dX7_restore_48 ?_
    refine pf_X7_32 hC hw dX7_restore_49 (fun H locs hw => ?_)
    have hw : Wst E (XW E a) (sr (sr σ 0 (upd (upd (σ 0) 3 (nI (if 7 ≠ 0 then (7 - 1) else 29))) 4 (nI (kp - 1)))) 0 (upd (upd (upd (σ 0) 3 (nI (if 7 ≠ 0 then (7 - 1) else 29))) 4 (nI (kp - 1))) 0 (σ 36 0))) A s.heap H locs := hw
    have hst_ : sr (sr σ 0 (upd (upd (σ 0) 3 (nI (if 7 ≠ 0 then (7 - 1) else 29))) 4 (nI (kp - 1)))) 0 (upd (upd (upd (σ 0) 3 (nI (if 7 ≠ 0 then (7 - 1) else 29))) 4 (nI (kp - 1))) 0 (σ 36 0)) = sr σ 0 (upd (upd (upd (σ 0) 0 (σ 36 0)) 3 (nI (if 7 ≠ 0 then (7 - 1) else 29))) 4 (nI (kp - 1))) := by
      funext j_ x_
      by_cases e0 : j_ = 0
      · subst e0
        by_cases y0 : x_ = 0
        · subst y0; rfl
        · by_cases y3 : x_ = 3
          · subst y3; rfl
          · by_cases y4 : x_ = 4
            · subst y4; rfl
            · simp [sr, upd, y0, y3, y4]
      · simp only [sr, e0, if_false]
    rw [hst_] at hw
    refine lv_aload_n hC.1 hC.2.1 dX7_restore_52 rfl (lv_at hl 1 rfl) ?_
    refine gf_X7_20 hC hw dX7_restore_53 ?_
    refine lv_aload_n hC.1 hC.2.1 dX7_restore_56 rfl (lv_at hl 0 rfl) ?_
    refine lv_iconst (v := nI 1) hC.1 hC.2.1 dX7_restore_57 (by decide) ?_
    refine q_ald (Wf := XW E a) (v := σ 36 1) 46 rfl (by decide) hC hw (by omega) rfl dX7_restore_58 ?_
    refine pf_X7_37 hC hw dX7_restore_59 (fun H locs hw => ?_)
    have hw : Wst E (XW E a) (sr (sr σ 0 (upd (upd (upd (σ 0) 0 (σ 36 0)) 3 (nI (if 7 ≠ 0 then (7 - 1) else 29))) 4 (nI (kp - 1)))) 0 (upd (upd (upd (upd (σ 0) 0 (σ 36 0)) 3 (nI (if 7 ≠ 0 then (7 - 1) else 29))) 4 (nI (kp - 1))) 1 (σ 36 1))) A s.heap H locs := hw
    have hst_ : sr (sr σ 0 (upd (upd (upd (σ 0) 0 (σ 36 0)) 3 (nI (if 7 ≠ 0 then (7 - 1) else 29))) 4 (nI (kp - 1)))) 0 (upd (upd (upd (upd (σ 0) 0 (σ 36 0)) 3 (nI (if 7 ≠ 0 then (7 - 1) else 29))) 4 (nI (kp - 1))) 1 (σ 36 1)) = sr σ 0 (upd (upd (upd (upd (σ 0) 0 (σ 36 0)) 1 (σ 36 1)) 3 (nI (if 7 ≠ 0 then (7 - 1) else 29))) 4 (nI (kp - 1))) := by
      funext j_ x_
      by_cases e0 : j_ = 0
      · subst e0
        by_cases y0 : x_ = 0
        · subst y0; rfl
        · by_cases y1 : x_ = 1
          · subst y1; rfl
          · by_cases y3 : x_ = 3
            · subst y3; rfl
            · by_cases y4 : x_ = 4
              · subst y4; rfl
              · simp [sr, upd, y0, y1, y3, y4]
      · simp only [sr, e0, if_false]
    rw [hst_] at hw
    refine lv_aload_n hC.1 hC.2.1 dX7_restore_62 rfl (lv_at hl 1 rfl) ?_
    refine gf_X7_20 hC hw dX7_restore_63 ?_
    refine lv_aload_n hC.1 hC.2.1 dX7_restore_66 rfl (lv_at hl 0 rfl) ?_
    refine lv_iconst (v := nI 2) hC.1 hC.2.1 dX7_restore_67 (by decide) ?_
    refine q_ald (Wf := XW E a) (v := σ 36 2) 46 rfl (by decide) hC hw (by omega) rfl dX7_restore_68 ?_
    refine pf_X7_40 hC hw dX7_restore_69 (fun H locs hw => ?_)
    have hw : Wst E (XW E a) (sr (sr σ 0 (upd (upd (upd (upd (σ 0) 0 (σ 36 0)) 1 (σ 36 1)) 3 (nI (if 7 ≠ 0 then (7 - 1) else 29))) 4 (nI (kp - 1)))) 0 (upd (upd (upd (upd (upd (σ 0) 0 (σ 36 0)) 1 (σ 36 1)) 3 (nI (if 7 ≠ 0 then (7 - 1) else 29))) 4 (nI (kp - 1))) 2 (σ 36 2))) A s.heap H locs := hw
    have hst_ : sr (sr σ 0 (upd (upd (upd (upd (σ 0) 0 (σ 36 0)) 1 (σ 36 1)) 3 (nI (if 7 ≠ 0 then (7 - 1) else 29))) 4 (nI (kp - 1)))) 0 (upd (upd (upd (upd (upd (σ 0) 0 (σ 36 0)) 1 (σ 36 1)) 3 (nI (if 7 ≠ 0 then (7 - 1) else 29))) 4 (nI (kp - 1))) 2 (σ 36 2)) = sr σ 0 (upd (upd (upd (upd (upd (σ 0) 0 (σ 36 0)) 1 (σ 36 1)) 2 (σ 36 2)) 3 (nI (if 7 ≠ 0 then (7 - 1) else 29))) 4 (nI (kp - 1))) := by
      funext j_ x_
      by_cases e0 : j_ = 0
      · subst e0
        by_cases y0 : x_ = 0
        · subst y0; rfl
        · by_cases y1 : x_ = 1
          · subst y1; rfl
          · by_cases y2 : x_ = 2
            · subst y2; rfl
            · by_cases y3 : x_ = 3
              · subst y3; rfl
              · by_cases y4 : x_ = 4
                · subst y4; rfl
                · simp [sr, upd, y0, y1, y2, y3, y4]
      · simp only [sr, e0, if_false]
    rw [hst_] at hw
    refine lv_iconst (v := nI 3) hC.1 hC.2.1 dX7_restore_72 (by decide) ?_
    refine lv_istore_n (lv' := [(2, .int (nI 3)), (1, .ref (a 36)), (0, .ref (a 68))]) hC.1 hC.2.1 dX7_restore_73 rfl hl (by decide) rfl (fun ls hl => ?_)
    refine lv_aload_n hC.1 hC.2.1 dX7_restore_74 rfl (lv_at hl 1 rfl) ?_
    refine lv_iload_n hC.1 hC.2.1 dX7_restore_75 rfl (lv_at hl 0 rfl) ?_
    refine lv_aload_n hC.1 hC.2.1 dX7_restore_76 rfl (lv_at hl 2 rfl) ?_
    refine gf_X7_24 hC hw dX7_restore_77 ?_
    refine lv_iconst (v := nI 0) hC.1 hC.2.1 dX7_restore_80 (by decide) ?_
    refine lv_iconst (v := nI 3) hC.1 hC.2.1 dX7_restore_81 (by decide) ?_
    refine q_cpy (sp := 3) (dp := 0) (n := 3) 46 rfl 25 rfl (XW_s15 _) hC hw hl (by omega) (by omega) (by decide) (by decide) ⟨Nat.le_of_ble_eq_true rfl, Nat.le_of_ble_eq_true rfl⟩ wk2_182 dX7_restore_82 (fun H locs hw => ?_)
    have hw : Wst E (XW E a) (sr (sr σ 0 (upd (upd (upd (upd (upd (σ 0) 0 (σ 36 0)) 1 (σ 36 1)) 2 (σ 36 2)) 3 (nI (if 7 ≠ 0 then (7 - 1) else 29))) 4 (nI (kp - 1)))) 15 (va_cpy (σ 36) (σ 15) 3 0 3)) A s.heap H locs := hw
    have hst_ : sr (sr σ 0 (upd (upd (upd (upd (upd (σ 0) 0 (σ 36 0)) 1 (σ 36 1)) 2 (σ 36 2)) 3 (nI (if 7 ≠ 0 then (7 - 1) else 29))) 4 (nI (kp - 1)))) 15 (va_cpy (σ 36) (σ 15) 3 0 3) = sr (sr σ 15 (va_cpy (σ 36) (σ 15) 3 0 3)) 0 (upd (upd (upd (upd (upd (σ 0) 0 (σ 36 0)) 1 (σ 36 1)) 2 (σ 36 2)) 3 (nI (if 7 ≠ 0 then (7 - 1) else 29))) 4 (nI (kp - 1))) := by
      funext j_ x_
      by_cases e0 : j_ = 0
      · subst e0
        by_cases y0 : x_ = 0
        · subst y0; rfl
        · by_cases y1 : x_ = 1
          · subst y1; rfl
          · by_cases y2 : x_ = 2
            · subst y2; rfl
            · by_cases y3 : x_ = 3
              · subst y3; rfl
              · by_cases y4 : x_ = 4
                · subst y4; rfl
                · simp [sr, upd, y0, y1, y2, y3, y4]
      · by_cases e15 : j_ = 15
        · subst e15; rfl
        · simp only [sr, e0, e15, if_false]
    rw [hst_] at hw
    refine lv_iinc (v := nI (3 + 3)) (lv' := [(2, .int (nI (3 + 3))), (1, .ref (a 36)), (0, .ref (a 68))]) hC.1 hC.2.1 dX7_restore_85 hl (k := 0) rfl (nI_add _ _) (by decide) rfl (fun ls hl => ?_)
    refine lv_iconst (v := nI 0) hC.1 hC.2.1 dX7_restore_88 (by decide) ?_
    refine lv_istore_n (lv' := [(3, .int (nI 0)), (2, .int (nI (3 + 3))), (1, .ref (a 36)), (0, .ref (a 68))]) hC.1 hC.2.1 dX7_restore_89 rfl hl (by decide) rfl (fun ls hl => ?_)
    have L90_2 : ∀ (n : Nat), ∀ (h : Nat), (h ≤ 10) → (10 - h) < n → ∀ (H : Heap) (locs : List Loc) (ls : Array Slot), Wst E (XW E a) (sr (sr (sr σ 4 (upr (σ 36) h (σ 4))) 15 (va_cpy (σ 36) (σ 15) 3 0 3)) 0 (upd (upd (upd (upd (upd (σ 0) 0 (σ 36 0)) 1 (σ 36 1)) 2 (σ 36 2)) 3 (nI (if 7 ≠ 0 then (7 - 1) else 29))) 4 (nI (kp - 1)))) A s.heap H locs → lv_has ls 4 [(0, .ref (a 68)), (1, .ref (a 36)), (2, .int (nI (3 + 3))), (3, .int (nI h))] → W p l e ({ frames := 1, cells := 0, slots := 0, locals := 24 }) s m args below meth c H locs 0 0 Q (F0 m 90 ls []) := by
      intro n
      induction n with
      | zero => intro h hh hn; exact absurd hn (Nat.not_lt_zero _)
      | succ n ih90 =>
        intro h hh hn90 H locs ls hw hl
        refine lv_iload_n hC.1 hC.2.1 dX7_restore_90 rfl (lv_at hl 3 rfl) ?_
        refine lv_bipush (v := nI 10) hC.1 hC.2.1 dX7_restore_91 (by decide) ?_
        refine q_cmpge hC 125 (cNle (by omega) (by omega)) dX7_restore_93 (by decide) (fun (c4 : 10 ≤ h) => ?_) (fun (c4 : h < 10) => ?_)
        · have hh9 : h = 10 := by omega
          rw [hh9] at hw
          refine lv_iinc (v := nI (3 + 3 + 10)) (lv' := [(2, .int (nI (3 + 3 + 10))), (0, .ref (a 68)), (1, .ref (a 36)), (3, .int (nI h))]) hC.1 hC.2.1 dX7_restore_125 hl (k := 2) rfl (nI_add _ _) (by decide) rfl (fun ls hl => ?_)
          refine lv_aload_n hC.1 hC.2.1 dX7_restore_128 rfl (lv_at hl 2 rfl) ?_
          refine lv_iload_n hC.1 hC.2.1 dX7_restore_129 rfl (lv_at hl 0 rfl) ?_
          refine lv_aload_n hC.1 hC.2.1 dX7_restore_130 rfl (lv_at hl 1 rfl) ?_
          refine gf_X7_20 hC hw dX7_restore_131 ?_
          refine gf_X7_53 hC hw dX7_restore_134 ?_
          refine lv_iconst (v := nI 0) hC.1 hC.2.1 dX7_restore_137 (by decide) ?_
          refine lv_bipush (v := nI 24) hC.1 hC.2.1 dX7_restore_138 (by decide) ?_
          refine q_cpy (sp := (3 + 3 + 10)) (dp := 0) (n := 24) 46 rfl 21 rfl (XW_s11 _) hC hw hl (by omega) (by omega) (by decide) (by decide) ⟨Nat.le_of_ble_eq_true rfl, Nat.le_of_ble_eq_true rfl⟩ wk2_182 dX7_restore_140 (fun H locs hw => ?_)
          have hw : Wst E (XW E a) (sr (sr (sr (sr σ 4 (upr (σ 36) 10 (σ 4))) 15 (va_cpy (σ 36) (σ 15) 3 0 3)) 0 (upd (upd (upd (upd (upd (σ 0) 0 (σ 36 0)) 1 (σ 36 1)) 2 (σ 36 2)) 3 (nI (if 7 ≠ 0 then (7 - 1) else 29))) 4 (nI (kp - 1)))) 11 (va_cpy (σ 36) (σ 11) (3 + 3 + 10) 0 24)) A s.heap H locs := hw
          have hst_ : sr (sr (sr (sr σ 4 (upr (σ 36) 10 (σ 4))) 15 (va_cpy (σ 36) (σ 15) 3 0 3)) 0 (upd (upd (upd (upd (upd (σ 0) 0 (σ 36 0)) 1 (σ 36 1)) 2 (σ 36 2)) 3 (nI (if 7 ≠ 0 then (7 - 1) else 29))) 4 (nI (kp - 1)))) 11 (va_cpy (σ 36) (σ 11) (3 + 3 + 10) 0 24) = sr (sr (sr (sr σ 4 (upr (σ 36) 10 (σ 4))) 11 (va_cpy (σ 36) (σ 11) (3 + 3 + 10) 0 24)) 15 (va_cpy (σ 36) (σ 15) 3 0 3)) 0 (upd (upd (upd (upd (upd (σ 0) 0 (σ 36 0)) 1 (σ 36 1)) 2 (σ 36 2)) 3 (nI (if 7 ≠ 0 then (7 - 1) else 29))) 4 (nI (kp - 1))) := by
            funext j_ x_
            by_cases e0 : j_ = 0
            · subst e0
              by_cases y0 : x_ = 0
              · subst y0; rfl
              · by_cases y1 : x_ = 1
                · subst y1; rfl
                · by_cases y2 : x_ = 2
                  · subst y2; rfl
                  · by_cases y3 : x_ = 3
                    · subst y3; rfl
                    · by_cases y4 : x_ = 4
                      · subst y4; rfl
                      · simp [sr, upd, y0, y1, y2, y3, y4]
            · by_cases e4 : j_ = 4
              · subst e4; rfl
              · by_cases e11 : j_ = 11
                · subst e11; rfl
                · by_cases e15 : j_ = 15
                  · subst e15; rfl
                  · simp only [sr, e0, e4, e11, e15, if_false]
          rw [hst_] at hw
          refine lv_aload_n hC.1 hC.2.1 dX7_restore_143 rfl (lv_at hl 2 rfl) ?_
          refine lv_iload_n hC.1 hC.2.1 dX7_restore_144 rfl (lv_at hl 0 rfl) ?_
          refine lv_bipush (v := nI 24) hC.1 hC.2.1 dX7_restore_145 (by decide) ?_
          refine q_addN hC dX7_restore_147 ?_
          refine lv_aload_n hC.1 hC.2.1 dX7_restore_148 rfl (lv_at hl 1 rfl) ?_
          refine gf_X7_20 hC hw dX7_restore_149 ?_
          refine gf_X7_56 hC hw dX7_restore_152 ?_
          refine lv_iconst (v := nI 0) hC.1 hC.2.1 dX7_restore_155 (by decide) ?_
          refine lv_bipush (v := nI 24) hC.1 hC.2.1 dX7_restore_156 (by decide) ?_
          refine q_cpy (sp := ((3 + 3 + 10) + 24)) (dp := 0) (n := 24) 46 rfl 22 rfl (XW_s12 _) hC hw hl (by omega) (by omega) (by decide) (by decide) ⟨Nat.le_of_ble_eq_true rfl, Nat.le_of_ble_eq_true rfl⟩ wk2_182 dX7_restore_158 (fun H locs hw => ?_)
          have hw : Wst E (XW E a) (sr (sr (sr (sr (sr σ 4 (upr (σ 36) 10 (σ 4))) 11 (va_cpy (σ 36) (σ 11) (3 + 3 + 10) 0 24)) 15 (va_cpy (σ 36) (σ 15) 3 0 3)) 0 (upd (upd (upd (upd (upd (σ 0) 0 (σ 36 0)) 1 (σ 36 1)) 2 (σ 36 2)) 3 (nI (if 7 ≠ 0 then (7 - 1) else 29))) 4 (nI (kp - 1)))) 12 (va_cpy (σ 36) (σ 12) ((3 + 3 + 10) + 24) 0 24)) A s.heap H locs := hw
          have hst_ : sr (sr (sr (sr (sr σ 4 (upr (σ 36) 10 (σ 4))) 11 (va_cpy (σ 36) (σ 11) (3 + 3 + 10) 0 24)) 15 (va_cpy (σ 36) (σ 15) 3 0 3)) 0 (upd (upd (upd (upd (upd (σ 0) 0 (σ 36 0)) 1 (σ 36 1)) 2 (σ 36 2)) 3 (nI (if 7 ≠ 0 then (7 - 1) else 29))) 4 (nI (kp - 1)))) 12 (va_cpy (σ 36) (σ 12) ((3 + 3 + 10) + 24) 0 24) = sr (sr (sr (sr (sr σ 4 (upr (σ 36) 10 (σ 4))) 11 (va_cpy (σ 36) (σ 11) (3 + 3 + 10) 0 24)) 12 (va_cpy (σ 36) (σ 12) ((3 + 3 + 10) + 24) 0 24)) 15 (va_cpy (σ 36) (σ 15) 3 0 3)) 0 (upd (upd (upd (upd (upd (σ 0) 0 (σ 36 0)) 1 (σ 36 1)) 2 (σ 36 2)) 3 (nI (if 7 ≠ 0 then (7 - 1) else 29))) 4 (nI (kp - 1))) := by
            funext j_ x_
            by_cases e0 : j_ = 0
            · subst e0
              by_cases y0 : x_ = 0
              · subst y0; rfl
              · by_cases y1 : x_ = 1
                · subst y1; rfl
                · by_cases y2 : x_ = 2
                  · subst y2; rfl
                  · by_cases y3 : x_ = 3
                    · subst y3; rfl
                    · by_cases y4 : x_ = 4
                      · subst y4; rfl
                      · simp [sr, upd, y0, y1, y2, y3, y4]
            · by_cases e4 : j_ = 4
              · subst e4; rfl
              · by_cases e11 : j_ = 11
                · subst e11; rfl
                · by_cases e12 : j_ = 12
                  · subst e12; rfl
                  · by_cases e15 : j_ = 15
                    · subst e15; rfl
                    · simp only [sr, e0, e4, e11, e12, e15, if_false]
          rw [hst_] at hw
          refine lv_aload_n hC.1 hC.2.1 dX7_restore_161 rfl (lv_at hl 2 rfl) ?_
          refine lv_iload_n hC.1 hC.2.1 dX7_restore_162 rfl (lv_at hl 0 rfl) ?_
          refine lv_bipush (v := nI 48) hC.1 hC.2.1 dX7_restore_163 (by decide) ?_
          refine q_addN hC dX7_restore_165 ?_
          refine lv_aload_n hC.1 hC.2.1 dX7_restore_166 rfl (lv_at hl 1 rfl) ?_
          refine gf_X7_20 hC hw dX7_restore_167 ?_
          refine gf_X7_59 hC hw dX7_restore_170 ?_
          refine lv_iconst (v := nI 0) hC.1 hC.2.1 dX7_restore_173 (by decide) ?_
          refine lv_bipush (v := nI 24) hC.1 hC.2.1 dX7_restore_174 (by decide) ?_
          refine q_cpy (sp := ((3 + 3 + 10) + 48)) (dp := 0) (n := 24) 46 rfl 23 rfl (XW_s13 _) hC hw hl (by omega) (by omega) (by decide) (by decide) ⟨Nat.le_of_ble_eq_true rfl, Nat.le_of_ble_eq_true rfl⟩ wk2_182 dX7_restore_176 (fun H locs hw => ?_)
          have hw : Wst E (XW E a) (sr (sr (sr (sr (sr (sr σ 4 (upr (σ 36) 10 (σ 4))) 11 (va_cpy (σ 36) (σ 11) (3 + 3 + 10) 0 24)) 12 (va_cpy (σ 36) (σ 12) ((3 + 3 + 10) + 24) 0 24)) 15 (va_cpy (σ 36) (σ 15) 3 0 3)) 0 (upd (upd (upd (upd (upd (σ 0) 0 (σ 36 0)) 1 (σ 36 1)) 2 (σ 36 2)) 3 (nI (if 7 ≠ 0 then (7 - 1) else 29))) 4 (nI (kp - 1)))) 13 (va_cpy (σ 36) (σ 13) ((3 + 3 + 10) + 48) 0 24)) A s.heap H locs := hw
          have hst_ : sr (sr (sr (sr (sr (sr σ 4 (upr (σ 36) 10 (σ 4))) 11 (va_cpy (σ 36) (σ 11) (3 + 3 + 10) 0 24)) 12 (va_cpy (σ 36) (σ 12) ((3 + 3 + 10) + 24) 0 24)) 15 (va_cpy (σ 36) (σ 15) 3 0 3)) 0 (upd (upd (upd (upd (upd (σ 0) 0 (σ 36 0)) 1 (σ 36 1)) 2 (σ 36 2)) 3 (nI (if 7 ≠ 0 then (7 - 1) else 29))) 4 (nI (kp - 1)))) 13 (va_cpy (σ 36) (σ 13) ((3 + 3 + 10) + 48) 0 24) = sr (sr (sr (sr (sr (sr σ 4 (upr (σ 36) 10 (σ 4))) 11 (va_cpy (σ 36) (σ 11) (3 + 3 + 10) 0 24)) 12 (va_cpy (σ 36) (σ 12) ((3 + 3 + 10) + 24) 0 24)) 13 (va_cpy (σ 36) (σ 13) ((3 + 3 + 10) + 48) 0 24)) 15 (va_cpy (σ 36) (σ 15) 3 0 3)) 0 (upd (upd (upd (upd (upd (σ 0) 0 (σ 36 0)) 1 (σ 36 1)) 2 (σ 36 2)) 3 (nI (if 7 ≠ 0 then (7 - 1) else 29))) 4 (nI (kp - 1))) := by
            funext j_ x_
            by_cases e0 : j_ = 0
            · subst e0
              by_cases y0 : x_ = 0
              · subst y0; rfl
              · by_cases y1 : x_ = 1
                · subst y1; rfl
                · by_cases y2 : x_ = 2
                  · subst y2; rfl
                  · by_cases y3 : x_ = 3
                    · subst y3; rfl
                    · by_cases y4 : x_ = 4
                      · subst y4; rfl
                      · simp [sr, upd, y0, y1, y2, y3, y4]
            · by_cases e4 : j_ = 4
              · subst e4; rfl
              · by_cases e11 : j_ = 11
                · subst e11; rfl
                · by_cases e12 : j_ = 12
                  · subst e12; rfl
                  · by_cases e13 : j_ = 13
                    · subst e13; rfl
                    · by_cases e15 : j_ = 15
                      · subst e15; rfl
                      · simp only [sr, e0, e4, e11, e12, e13, e15, if_false]
          rw [hst_] at hw
          refine lv_aload_n hC.1 hC.2.1 dX7_restore_179 rfl (lv_at hl 2 rfl) ?_
          refine lv_iload_n hC.1 hC.2.1 dX7_restore_180 rfl (lv_at hl 0 rfl) ?_
          refine lv_bipush (v := nI 72) hC.1 hC.2.1 dX7_restore_181 (by decide) ?_
          refine q_addN hC dX7_restore_183 ?_
          refine lv_aload_n hC.1 hC.2.1 dX7_restore_184 rfl (lv_at hl 1 rfl) ?_
          refine gf_X7_20 hC hw dX7_restore_185 ?_
          refine gf_X7_62 hC hw dX7_restore_188 ?_
          refine lv_iconst (v := nI 0) hC.1 hC.2.1 dX7_restore_191 (by decide) ?_
          refine lv_bipush (v := nI 24) hC.1 hC.2.1 dX7_restore_192 (by decide) ?_
          refine q_cpy (sp := ((3 + 3 + 10) + 72)) (dp := 0) (n := 24) 46 rfl 24 rfl (XW_s14 _) hC hw hl (by omega) (by omega) (by decide) (by decide) ⟨Nat.le_of_ble_eq_true rfl, Nat.le_of_ble_eq_true rfl⟩ wk2_182 dX7_restore_194 (fun H locs hw => ?_)
          have hw : Wst E (XW E a) (sr (sr (sr (sr (sr (sr (sr σ 4 (upr (σ 36) 10 (σ 4))) 11 (va_cpy (σ 36) (σ 11) (3 + 3 + 10) 0 24)) 12 (va_cpy (σ 36) (σ 12) ((3 + 3 + 10) + 24) 0 24)) 13 (va_cpy (σ 36) (σ 13) ((3 + 3 + 10) + 48) 0 24)) 15 (va_cpy (σ 36) (σ 15) 3 0 3)) 0 (upd (upd (upd (upd (upd (σ 0) 0 (σ 36 0)) 1 (σ 36 1)) 2 (σ 36 2)) 3 (nI (if 7 ≠ 0 then (7 - 1) else 29))) 4 (nI (kp - 1)))) 14 (va_cpy (σ 36) (σ 14) ((3 + 3 + 10) + 72) 0 24)) A s.heap H locs := hw
          have hst_ : sr (sr (sr (sr (sr (sr (sr σ 4 (upr (σ 36) 10 (σ 4))) 11 (va_cpy (σ 36) (σ 11) (3 + 3 + 10) 0 24)) 12 (va_cpy (σ 36) (σ 12) ((3 + 3 + 10) + 24) 0 24)) 13 (va_cpy (σ 36) (σ 13) ((3 + 3 + 10) + 48) 0 24)) 15 (va_cpy (σ 36) (σ 15) 3 0 3)) 0 (upd (upd (upd (upd (upd (σ 0) 0 (σ 36 0)) 1 (σ 36 1)) 2 (σ 36 2)) 3 (nI (if 7 ≠ 0 then (7 - 1) else 29))) 4 (nI (kp - 1)))) 14 (va_cpy (σ 36) (σ 14) ((3 + 3 + 10) + 72) 0 24) = sr (sr (sr (sr (sr (sr (sr σ 4 (upr (σ 36) 10 (σ 4))) 11 (va_cpy (σ 36) (σ 11) (3 + 3 + 10) 0 24)) 12 (va_cpy (σ 36) (σ 12) ((3 + 3 + 10) + 24) 0 24)) 13 (va_cpy (σ 36) (σ 13) ((3 + 3 + 10) + 48) 0 24)) 14 (va_cpy (σ 36) (σ 14) ((3 + 3 + 10) + 72) 0 24)) 15 (va_cpy (σ 36) (σ 15) 3 0 3)) 0 (upd (upd (upd (upd (upd (σ 0) 0 (σ 36 0)) 1 (σ 36 1)) 2 (σ 36 2)) 3 (nI (if 7 ≠ 0 then (7 - 1) else 29))) 4 (nI (kp - 1))) := by
            funext j_ x_
            by_cases e0 : j_ = 0
            · subst e0
              by_cases y0 : x_ = 0
              · subst y0; rfl
              · by_cases y1 : x_ = 1
                · subst y1; rfl
                · by_cases y2 : x_ = 2
                  · subst y2; rfl
                  · by_cases y3 : x_ = 3
                    · subst y3; rfl
                    · by_cases y4 : x_ = 4
                      · subst y4; rfl
                      · simp [sr, upd, y0, y1, y2, y3, y4]
            · by_cases e4 : j_ = 4
              · subst e4; rfl
              · by_cases e11 : j_ = 11
                · subst e11; rfl
                · by_cases e12 : j_ = 12
                  · subst e12; rfl
                  · by_cases e13 : j_ = 13
                    · subst e13; rfl
                    · by_cases e14 : j_ = 14
                      · subst e14; rfl
                      · by_cases e15 : j_ = 15
                        · subst e15; rfl
                        · simp only [sr, e0, e4, e11, e12, e13, e14, e15, if_false]
          rw [hst_] at hw
          refine hret _ _ _ _ _ hw ?_ dX7_restore_197
          exact rfl
        · refine lv_aload_n hC.1 hC.2.1 dX7_restore_96 rfl (lv_at hl 0 rfl) ?_
          refine gf_X7_16 hC hw dX7_restore_97 ?_
          refine gf_X7_49 hC hw dX7_restore_100 ?_
          refine lv_iload_n hC.1 hC.2.1 dX7_restore_103 rfl (lv_at hl 3 rfl) ?_
          refine lv_aload_n hC.1 hC.2.1 dX7_restore_104 rfl (lv_at hl 1 rfl) ?_
          refine lv_iload_n hC.1 hC.2.1 dX7_restore_105 rfl (lv_at hl 2 rfl) ?_
          refine lv_iload_n hC.1 hC.2.1 dX7_restore_106 rfl (lv_at hl 3 rfl) ?_
          refine q_addN hC dX7_restore_107 ?_
          refine q_ald (Wf := XW E a) (v := σ 36 ((3 + 3) + h)) 46 rfl (by decide) hC hw (by omega) rfl dX7_restore_108 ?_
          refine lv_iconst (v := nI 1) hC.1 hC.2.1 dX7_restore_109 (by decide) ?_
          have J118_6 : ∀ (w5 : Int32), w5 = (if (σ 36 ((3 + 3) + h)) = 1 then (1 : Int32) else 0) → ∀ (H : Heap) (locs : List Loc) (ls : Array Slot), Wst E (XW E a) (sr (sr (sr σ 4 (upr (σ 36) h (σ 4))) 15 (va_cpy (σ 36) (σ 15) 3 0 3)) 0 (upd (upd (upd (upd (upd (σ 0) 0 (σ 36 0)) 1 (σ 36 1)) 2 (σ 36 2)) 3 (nI (if 7 ≠ 0 then (7 - 1) else 29))) 4 (nI (kp - 1)))) A s.heap H locs → lv_has ls 4 [(0, .ref (a 68)), (1, .ref (a 36)), (2, .int (nI (3 + 3))), (3, .int (nI h))] → W p l e ({ frames := 1, cells := 0, slots := 0, locals := 24 }) s m args below meth c H locs 0 0 Q (F0 m 118 ls [.int (w5), .int (nI h), .ref (a 4)]) := by
            intro w5 e6 H locs ls hw hl
            subst e6
            refine as_X4 hC hw (by omega) vz_B dX7_restore_118 (fun H locs hw => ?_)
            have hw : Wst E (XW E a) (sr (sr (sr (sr σ 4 (upr (σ 36) h (σ 4))) 15 (va_cpy (σ 36) (σ 15) 3 0 3)) 0 (upd (upd (upd (upd (upd (σ 0) 0 (σ 36 0)) 1 (σ 36 1)) 2 (σ 36 2)) 3 (nI (if 7 ≠ 0 then (7 - 1) else 29))) 4 (nI (kp - 1)))) 4 (upd (upr (σ 36) h (σ 4)) h (if (σ 36 ((3 + 3) + h)) = 1 then (1 : Int32) else 0))) A s.heap H locs := hw
            have hst_ : sr (sr (sr (sr σ 4 (upr (σ 36) h (σ 4))) 15 (va_cpy (σ 36) (σ 15) 3 0 3)) 0 (upd (upd (upd (upd (upd (σ 0) 0 (σ 36 0)) 1 (σ 36 1)) 2 (σ 36 2)) 3 (nI (if 7 ≠ 0 then (7 - 1) else 29))) 4 (nI (kp - 1)))) 4 (upd (upr (σ 36) h (σ 4)) h (if (σ 36 ((3 + 3) + h)) = 1 then (1 : Int32) else 0)) = sr (sr (sr σ 4 (upd (upr (σ 36) h (σ 4)) h (if (σ 36 ((3 + 3) + h)) = 1 then (1 : Int32) else 0))) 15 (va_cpy (σ 36) (σ 15) 3 0 3)) 0 (upd (upd (upd (upd (upd (σ 0) 0 (σ 36 0)) 1 (σ 36 1)) 2 (σ 36 2)) 3 (nI (if 7 ≠ 0 then (7 - 1) else 29))) 4 (nI (kp - 1))) := by
              funext j_ x_
              by_cases e0 : j_ = 0
              · subst e0
                by_cases y0 : x_ = 0
                · subst y0; rfl
                · by_cases y1 : x_ = 1
                  · subst y1; rfl
                  · by_cases y2 : x_ = 2
                    · subst y2; rfl
                    · by_cases y3 : x_ = 3
                      · subst y3; rfl
                      · by_cases y4 : x_ = 4
                        · subst y4; rfl
                        · simp [sr, upd, y0, y1, y2, y3, y4]
              · by_cases e4 : j_ = 4
                · subst e4; rfl
                · by_cases e15 : j_ = 15
                  · subst e15; rfl
                  · simp only [sr, e0, e4, e15, if_false]
            rw [hst_] at hw
            refine lv_iinc (v := nI (h + 1)) (lv' := [(3, .int (nI (h + 1))), (0, .ref (a 68)), (1, .ref (a 36)), (2, .int (nI (3 + 3)))]) hC.1 hC.2.1 dX7_restore_119 hl (k := 3) rfl (nI_add _ _) (by decide) rfl (fun ls hl => ?_)
            refine lv_goto (tgt := 90) hC.1 hC.2.1 dX7_restore_122 (by decide) ?_
            rw [upr_s] at hw
            exact ih90 (h + 1) (by omega) (by omega) _ _ _ hw (lv_sub hl [1, 2, 3, 0] rfl)
          refine q_cmpne hC 117 cI dX7_restore_110 (by decide) (fun (c7 : ¬ ((σ 36 ((3 + 3) + h)) = 1)) => ?_) (fun (c7 : (σ 36 ((3 + 3) + h)) = 1) => ?_)
          · refine lv_iconst (v := nI 0) hC.1 hC.2.1 dX7_restore_117 (by decide) ?_
            exact J118_6 _ (if_neg c7).symm _ _ _ hw (lv_sub hl [0, 1, 2, 3] rfl)
          · refine lv_iconst (v := nI 1) hC.1 hC.2.1 dX7_restore_113 (by decide) ?_
            refine lv_goto (tgt := 118) hC.1 hC.2.1 dX7_restore_114 (by decide) ?_
            exact J118_6 _ (if_pos c7).symm _ _ _ hw (lv_sub hl [0, 1, 2, 3] rfl)
    have hst_ : sr (sr σ 15 (va_cpy (σ 36) (σ 15) 3 0 3)) 0 (upd (upd (upd (upd (upd (σ 0) 0 (σ 36 0)) 1 (σ 36 1)) 2 (σ 36 2)) 3 (nI (if 7 ≠ 0 then (7 - 1) else 29))) 4 (nI (kp - 1))) = sr (sr (sr σ 4 (upr (σ 36) 0 (σ 4))) 15 (va_cpy (σ 36) (σ 15) 3 0 3)) 0 (upd (upd (upd (upd (upd (σ 0) 0 (σ 36 0)) 1 (σ 36 1)) 2 (σ 36 2)) 3 (nI (if 7 ≠ 0 then (7 - 1) else 29))) 4 (nI (kp - 1))) := by
      funext j_ x_
      by_cases e0 : j_ = 0
      · subst e0
        by_cases y0 : x_ = 0
        · subst y0; rfl
        · by_cases y1 : x_ = 1
          · subst y1; rfl
          · by_cases y2 : x_ = 2
            · subst y2; rfl
            · by_cases y3 : x_ = 3
              · subst y3; rfl
              · by_cases y4 : x_ = 4
                · subst y4; rfl
                · simp [sr, upd, y0, y1, y2, y3, y4]
      · by_cases e4 : j_ = 4
        · subst e4; show σ 4 x_ = upr (σ 36) 0 (σ 4) x_; rw [upr_0]
        · by_cases e15 : j_ = 15
          · subst e15; rfl
          · simp only [sr, e0, e4, e15, if_false]
    rw [hst_] at hw
    exact L90_2 _ 0 (by omega) (Nat.lt_succ_self _) _ _ _ hw (lv_sub hl [3, 2, 1, 0] rfl)
  refine q_ifne hC 13 (cN0 (by omega)) dX7_restore_5 (by decide) (fun (c8 : 7 ≠ 0) => ?_) (fun (c8 : 7 = 0) => ?_)
  · refine lv_aload_n hC.1 hC.2.1 dX7_restore_13 rfl (lv_at hl 0 rfl) ?_
    refine gf_X7_28 (v := nI 7) hC hw hnx dX7_restore_14 ?_
    refine lv_iconst (v := nI 1) hC.1 hC.2.1 dX7_restore_17 (by decide) ?_
    refine q_subN hC (by omega) dX7_restore_18 ?_
    exact J19_2 _ (by (rw [if_pos c8]) <;> rfl) _ _ _ hw (lv_sub hl [0] rfl)
  · refine lv_bipush (v := nI 29) hC.1 hC.2.1 dX7_restore_8 (by decide) ?_
    refine lv_goto (tgt := 19) hC.1 hC.2.1 dX7_restore_10 (by decide) ?_
    exact J19_2 _ (by (rw [if_neg (fun q => q c8)]) <;> rfl) _ _ _ hw (lv_sub hl [0] rfl)
set_option maxHeartbeats 4000000 in
set_option maxRecDepth 100000 in
theorem tX7_restore_k8 (l : Launch) (E : EV) (a : Nat → Nat) (σ : St) (kp : Nat) (hnx : σ 0 3 = nI 8) (hkp : σ 0 4 = nI kp) (hk30 : kp ≤ 30) (hk1 : 1 ≤ kp) : MV l E (XW E a) yX7_restore (Cond.code yX7_restore cX7_restore 4 none) ({ frames := 1, cells := 0, slots := 0, locals := 24 }) [.ref (a 68)] σ (fun u_ => u_ = sr (sr (sr (sr (sr (sr (sr σ 4 (upr (σ 37) 10 (σ 4))) 11 (va_cpy (σ 37) (σ 11) 16 0 24)) 12 (va_cpy (σ 37) (σ 12) 40 0 24)) 13 (va_cpy (σ 37) (σ 13) 64 0 24)) 14 (va_cpy (σ 37) (σ 14) 88 0 24)) 15 (va_cpy (σ 37) (σ 15) 3 0 3)) 0 (upd (upd (upd (upd (upd (σ 0) 0 ((σ 37) 0)) 1 ((σ 37) 1)) 2 ((σ 37) 2)) 3 (nI (if 8 ≠ 0 then 8 - 1 else 29))) 4 (nI (kp - 1)))) := by
  refine MV.mk (by decide +kernel) (Nat.le_of_ble_eq_true rfl) ?_
  intro p e s m args below meth c ls A Q hret hC hw hl
  have hC : Cxt E p s m args meth c cX7_restore 4 none RX7 A := hC
  have hl : lv_has ls 4 [(0, .ref (a 68))] := hl
  refine lv_aload_n hC.1 hC.2.1 dX7_restore_0 rfl (lv_at hl 0 rfl) ?_
  refine lv_aload_n hC.1 hC.2.1 dX7_restore_1 rfl (lv_at hl 0 rfl) ?_
  refine gf_X7_28 (v := nI 8) hC hw hnx dX7_restore_2 ?_
  have J19_2 : ∀ (w1 : Nat), w1 = (if 8 ≠ 0 then (8 - 1) else 29) → ∀ (H : Heap) (locs : List Loc) (ls : Array Slot), Wst E (XW E a) (σ) A s.heap H locs → lv_has ls 4 [(0, .ref (a 68))] → W p l e ({ frames := 1, cells := 0, slots := 0, locals := 24 }) s m args below meth c H locs 0 0 Q (F0 m 19 ls [.int (nI w1), .ref (a 68)]) := by
    intro w1 e2 H locs ls hw hl
    subst e2
    refine pf_X7_28 hC hw dX7_restore_19 (fun H locs hw => ?_)
    have hw : Wst E (XW E a) (sr σ 0 (upd (σ 0) 3 (nI (if 8 ≠ 0 then (8 - 1) else 29)))) A s.heap H locs := hw
    refine lv_aload_n hC.1 hC.2.1 dX7_restore_22 rfl (lv_at hl 0 rfl) ?_
    refine lv_dup hC.1 hC.2.1 dX7_restore_23 rfl ?_
    refine gf_X7_65 (v := nI kp) hC hw hkp dX7_restore_24 ?_
    refine lv_iconst (v := nI 1) hC.1 hC.2.1 dX7_restore_27 (by decide) ?_
    refine q_subN hC (by omega) dX7_restore_28 ?_
    refine pf_X7_65 hC hw dX7_restore_29 (fun H locs hw => ?_)
    have hw : Wst E (XW E a) (sr (sr σ 0 (upd (σ 0) 3 (nI (if 8 ≠ 0 then (8 - 1) else 29)))) 0 (upd (upd (σ 0) 3 (nI (if 8 ≠ 0 then (8 - 1) else 29))) 4 (nI (kp - 1)))) A s.heap H locs := hw
    have hst_ : sr (sr σ 0 (upd (σ 0) 3 (nI (if 8 ≠ 0 then (8 - 1) else 29)))) 0 (upd (upd (σ 0) 3 (nI (if 8 ≠ 0 then (8 - 1) else 29))) 4 (nI (kp - 1))) = sr σ 0 (upd (upd (σ 0) 3 (nI (if 8 ≠ 0 then (8 - 1) else 29))) 4 (nI (kp - 1))) := by
      funext j_ x_
      by_cases e0 : j_ = 0
      · subst e0
        by_cases y3 : x_ = 3
        · subst y3; rfl
        · by_cases y4 : x_ = 4
          · subst y4; rfl
          · simp [sr, upd, y3, y4]
      · simp only [sr, e0, if_false]
    rw [hst_] at hw
    refine lv_aload_n hC.1 hC.2.1 dX7_restore_32 rfl (lv_at hl 0 rfl) ?_
    refine gf_X7_13 hC hw dX7_restore_33 ?_
    refine lv_aload_n hC.1 hC.2.1 dX7_restore_36 rfl (lv_at hl 0 rfl) ?_
    refine gf_X7_28 (v := nI (if 8 ≠ 0 then (8 - 1) else 29)) hC hw rfl dX7_restore_37 ?_
    refine q_top (y := nI 7) rfl ?_
    refine q_aald hC hw (i := 7) (by decide) dX7_restore_40 ?_
    refine lv_astore_n (lv' := [(1, .ref (a 37)), (0, .ref (a 68))]) hC.1 hC.2.1 dX7_restore_41 rfl hl (by decide) rfl (fun ls hl => ?_)
    refine lv_aload_n hC.1 hC.2.1 dX7_restore_42 rfl (lv_at hl 1 rfl) ?_
    refine gf_X7_16 hC hw dX7_restore_43 ?_
    refine lv_aload_n hC.1 hC.2.1 dX7_restore_46 rfl (lv_at hl 0 rfl) ?_
    refine lv_iconst (v := nI 0) hC.1 hC.2.1 dX7_restore_47 (by decide) ?_
    refine q_ald (Wf := XW E a) (v := σ 37 0) 47 rfl (by decide) hC hw (by omega) rfl dX7_restore_48 ?_
    refine pf_X7_32 hC hw dX7_restore_49 (fun H locs hw => ?_)
    have hw : Wst E (XW E a) (sr (sr σ 0 (upd (upd (σ 0) 3 (nI (if 8 ≠ 0 then (8 - 1) else 29))) 4 (nI (kp - 1)))) 0 (upd (upd (upd (σ 0) 3 (nI (if 8 ≠ 0 then (8 - 1) else 29))) 4 (nI (kp - 1))) 0 (σ 37 0))) A s.heap H locs := hw
    have hst_ : sr (sr σ 0 (upd (upd (σ 0) 3 (nI (if 8 ≠ 0 then (8 - 1) else 29))) 4 (nI (kp - 1)))) 0 (upd (upd (upd (σ 0) 3 (nI (if 8 ≠ 0 then (8 - 1) else 29))) 4 (nI (kp - 1))) 0 (σ 37 0)) = sr σ 0 (upd (upd (upd (σ 0) 0 (σ 37 0)) 3 (nI (if 8 ≠ 0 then (8 - 1) else 29))) 4 (nI (kp - 1))) := by
      funext j_ x_
      by_cases e0 : j_ = 0
      · subst e0
        by_cases y0 : x_ = 0
        · subst y0; rfl
        · by_cases y3 : x_ = 3
          · subst y3; rfl
          · by_cases y4 : x_ = 4
            · subst y4; rfl
            · simp [sr, upd, y0, y3, y4]
      · simp only [sr, e0, if_false]
    rw [hst_] at hw
    refine lv_aload_n hC.1 hC.2.1 dX7_restore_52 rfl (lv_at hl 1 rfl) ?_
    refine gf_X7_20 hC hw dX7_restore_53 ?_
    refine lv_aload_n hC.1 hC.2.1 dX7_restore_56 rfl (lv_at hl 0 rfl) ?_
    refine lv_iconst (v := nI 1) hC.1 hC.2.1 dX7_restore_57 (by decide) ?_
    refine q_ald (Wf := XW E a) (v := σ 37 1) 47 rfl (by decide) hC hw (by omega) rfl dX7_restore_58 ?_
    refine pf_X7_37 hC hw dX7_restore_59 (fun H locs hw => ?_)
    have hw : Wst E (XW E a) (sr (sr σ 0 (upd (upd (upd (σ 0) 0 (σ 37 0)) 3 (nI (if 8 ≠ 0 then (8 - 1) else 29))) 4 (nI (kp - 1)))) 0 (upd (upd (upd (upd (σ 0) 0 (σ 37 0)) 3 (nI (if 8 ≠ 0 then (8 - 1) else 29))) 4 (nI (kp - 1))) 1 (σ 37 1))) A s.heap H locs := hw
    have hst_ : sr (sr σ 0 (upd (upd (upd (σ 0) 0 (σ 37 0)) 3 (nI (if 8 ≠ 0 then (8 - 1) else 29))) 4 (nI (kp - 1)))) 0 (upd (upd (upd (upd (σ 0) 0 (σ 37 0)) 3 (nI (if 8 ≠ 0 then (8 - 1) else 29))) 4 (nI (kp - 1))) 1 (σ 37 1)) = sr σ 0 (upd (upd (upd (upd (σ 0) 0 (σ 37 0)) 1 (σ 37 1)) 3 (nI (if 8 ≠ 0 then (8 - 1) else 29))) 4 (nI (kp - 1))) := by
      funext j_ x_
      by_cases e0 : j_ = 0
      · subst e0
        by_cases y0 : x_ = 0
        · subst y0; rfl
        · by_cases y1 : x_ = 1
          · subst y1; rfl
          · by_cases y3 : x_ = 3
            · subst y3; rfl
            · by_cases y4 : x_ = 4
              · subst y4; rfl
              · simp [sr, upd, y0, y1, y3, y4]
      · simp only [sr, e0, if_false]
    rw [hst_] at hw
    refine lv_aload_n hC.1 hC.2.1 dX7_restore_62 rfl (lv_at hl 1 rfl) ?_
    refine gf_X7_20 hC hw dX7_restore_63 ?_
    refine lv_aload_n hC.1 hC.2.1 dX7_restore_66 rfl (lv_at hl 0 rfl) ?_
    refine lv_iconst (v := nI 2) hC.1 hC.2.1 dX7_restore_67 (by decide) ?_
    refine q_ald (Wf := XW E a) (v := σ 37 2) 47 rfl (by decide) hC hw (by omega) rfl dX7_restore_68 ?_
    refine pf_X7_40 hC hw dX7_restore_69 (fun H locs hw => ?_)
    have hw : Wst E (XW E a) (sr (sr σ 0 (upd (upd (upd (upd (σ 0) 0 (σ 37 0)) 1 (σ 37 1)) 3 (nI (if 8 ≠ 0 then (8 - 1) else 29))) 4 (nI (kp - 1)))) 0 (upd (upd (upd (upd (upd (σ 0) 0 (σ 37 0)) 1 (σ 37 1)) 3 (nI (if 8 ≠ 0 then (8 - 1) else 29))) 4 (nI (kp - 1))) 2 (σ 37 2))) A s.heap H locs := hw
    have hst_ : sr (sr σ 0 (upd (upd (upd (upd (σ 0) 0 (σ 37 0)) 1 (σ 37 1)) 3 (nI (if 8 ≠ 0 then (8 - 1) else 29))) 4 (nI (kp - 1)))) 0 (upd (upd (upd (upd (upd (σ 0) 0 (σ 37 0)) 1 (σ 37 1)) 3 (nI (if 8 ≠ 0 then (8 - 1) else 29))) 4 (nI (kp - 1))) 2 (σ 37 2)) = sr σ 0 (upd (upd (upd (upd (upd (σ 0) 0 (σ 37 0)) 1 (σ 37 1)) 2 (σ 37 2)) 3 (nI (if 8 ≠ 0 then (8 - 1) else 29))) 4 (nI (kp - 1))) := by
      funext j_ x_
      by_cases e0 : j_ = 0
      · subst e0
        by_cases y0 : x_ = 0
        · subst y0; rfl
        · by_cases y1 : x_ = 1
          · subst y1; rfl
          · by_cases y2 : x_ = 2
            · subst y2; rfl
            · by_cases y3 : x_ = 3
              · subst y3; rfl
              · by_cases y4 : x_ = 4
                · subst y4; rfl
                · simp [sr, upd, y0, y1, y2, y3, y4]
      · simp only [sr, e0, if_false]
    rw [hst_] at hw
    refine lv_iconst (v := nI 3) hC.1 hC.2.1 dX7_restore_72 (by decide) ?_
    refine lv_istore_n (lv' := [(2, .int (nI 3)), (1, .ref (a 37)), (0, .ref (a 68))]) hC.1 hC.2.1 dX7_restore_73 rfl hl (by decide) rfl (fun ls hl => ?_)
    refine lv_aload_n hC.1 hC.2.1 dX7_restore_74 rfl (lv_at hl 1 rfl) ?_
    refine lv_iload_n hC.1 hC.2.1 dX7_restore_75 rfl (lv_at hl 0 rfl) ?_
    refine lv_aload_n hC.1 hC.2.1 dX7_restore_76 rfl (lv_at hl 2 rfl) ?_
    refine gf_X7_24 hC hw dX7_restore_77 ?_
    refine lv_iconst (v := nI 0) hC.1 hC.2.1 dX7_restore_80 (by decide) ?_
    refine lv_iconst (v := nI 3) hC.1 hC.2.1 dX7_restore_81 (by decide) ?_
    refine q_cpy (sp := 3) (dp := 0) (n := 3) 47 rfl 25 rfl (XW_s15 _) hC hw hl (by omega) (by omega) (by decide) (by decide) ⟨Nat.le_of_ble_eq_true rfl, Nat.le_of_ble_eq_true rfl⟩ wk2_182 dX7_restore_82 (fun H locs hw => ?_)
    have hw : Wst E (XW E a) (sr (sr σ 0 (upd (upd (upd (upd (upd (σ 0) 0 (σ 37 0)) 1 (σ 37 1)) 2 (σ 37 2)) 3 (nI (if 8 ≠ 0 then (8 - 1) else 29))) 4 (nI (kp - 1)))) 15 (va_cpy (σ 37) (σ 15) 3 0 3)) A s.heap H locs := hw
    have hst_ : sr (sr σ 0 (upd (upd (upd (upd (upd (σ 0) 0 (σ 37 0)) 1 (σ 37 1)) 2 (σ 37 2)) 3 (nI (if 8 ≠ 0 then (8 - 1) else 29))) 4 (nI (kp - 1)))) 15 (va_cpy (σ 37) (σ 15) 3 0 3) = sr (sr σ 15 (va_cpy (σ 37) (σ 15) 3 0 3)) 0 (upd (upd (upd (upd (upd (σ 0) 0 (σ 37 0)) 1 (σ 37 1)) 2 (σ 37 2)) 3 (nI (if 8 ≠ 0 then (8 - 1) else 29))) 4 (nI (kp - 1))) := by
      funext j_ x_
      by_cases e0 : j_ = 0
      · subst e0
        by_cases y0 : x_ = 0
        · subst y0; rfl
        · by_cases y1 : x_ = 1
          · subst y1; rfl
          · by_cases y2 : x_ = 2
            · subst y2; rfl
            · by_cases y3 : x_ = 3
              · subst y3; rfl
              · by_cases y4 : x_ = 4
                · subst y4; rfl
                · simp [sr, upd, y0, y1, y2, y3, y4]
      · by_cases e15 : j_ = 15
        · subst e15; rfl
        · simp only [sr, e0, e15, if_false]
    rw [hst_] at hw
    refine lv_iinc (v := nI (3 + 3)) (lv' := [(2, .int (nI (3 + 3))), (1, .ref (a 37)), (0, .ref (a 68))]) hC.1 hC.2.1 dX7_restore_85 hl (k := 0) rfl (nI_add _ _) (by decide) rfl (fun ls hl => ?_)
    refine lv_iconst (v := nI 0) hC.1 hC.2.1 dX7_restore_88 (by decide) ?_
    refine lv_istore_n (lv' := [(3, .int (nI 0)), (2, .int (nI (3 + 3))), (1, .ref (a 37)), (0, .ref (a 68))]) hC.1 hC.2.1 dX7_restore_89 rfl hl (by decide) rfl (fun ls hl => ?_)
    have L90_2 : ∀ (n : Nat), ∀ (h : Nat), (h ≤ 10) → (10 - h) < n → ∀ (H : Heap) (locs : List Loc) (ls : Array Slot), Wst E (XW E a) (sr (sr (sr σ 4 (upr (σ 37) h (σ 4))) 15 (va_cpy (σ 37) (σ 15) 3 0 3)) 0 (upd (upd (upd (upd (upd (σ 0) 0 (σ 37 0)) 1 (σ 37 1)) 2 (σ 37 2)) 3 (nI (if 8 ≠ 0 then (8 - 1) else 29))) 4 (nI (kp - 1)))) A s.heap H locs → lv_has ls 4 [(0, .ref (a 68)), (1, .ref (a 37)), (2, .int (nI (3 + 3))), (3, .int (nI h))] → W p l e ({ frames := 1, cells := 0, slots := 0, locals := 24 }) s m args below meth c H locs 0 0 Q (F0 m 90 ls []) := by
      intro n
      induction n with
      | zero => intro h hh hn; exact absurd hn (Nat.not_lt_zero _)
      | succ n ih90 =>
        intro h hh hn90 H locs ls hw hl
        refine lv_iload_n hC.1 hC.2.1 dX7_restore_90 rfl (lv_at hl 3 rfl) ?_
        refine lv_bipush (v := nI 10) hC.1 hC.2.1 dX7_restore_91 (by decide) ?_
        refine q_cmpge hC 125 (cNle (by omega) (by omega)) dX7_restore_93 (by decide) (fun (c4 : 10 ≤ h) => ?_) (fun (c4 : h < 10) => ?_)
        · have hh9 : h = 10 := by omega
          rw [hh9] at hw
          refine lv_iinc (v := nI (3 + 3 + 10)) (lv' := [(2, .int (nI (3 + 3 + 10))), (0, .ref (a 68)), (1, .ref (a 37)), (3, .int (nI h))]) hC.1 hC.2.1 dX7_restore_125 hl (k := 2) rfl (nI_add _ _) (by decide) rfl (fun ls hl => ?_)
          refine lv_aload_n hC.1 hC.2.1 dX7_restore_128 rfl (lv_at hl 2 rfl) ?_
          refine lv_iload_n hC.1 hC.2.1 dX7_restore_129 rfl (lv_at hl 0 rfl) ?_
          refine lv_aload_n hC.1 hC.2.1 dX7_restore_130 rfl (lv_at hl 1 rfl) ?_
          refine gf_X7_20 hC hw dX7_restore_131 ?_
          refine gf_X7_53 hC hw dX7_restore_134 ?_
          refine lv_iconst (v := nI 0) hC.1 hC.2.1 dX7_restore_137 (by decide) ?_
          refine lv_bipush (v := nI 24) hC.1 hC.2.1 dX7_restore_138 (by decide) ?_
          refine q_cpy (sp := (3 + 3 + 10)) (dp := 0) (n := 24) 47 rfl 21 rfl (XW_s11 _) hC hw hl (by omega) (by omega) (by decide) (by decide) ⟨Nat.le_of_ble_eq_true rfl, Nat.le_of_ble_eq_true rfl⟩ wk2_182 dX7_restore_140 (fun H locs hw => ?_)
          have hw : Wst E (XW E a) (sr (sr (sr (sr σ 4 (upr (σ 37) 10 (σ 4))) 15 (va_cpy (σ 37) (σ 15) 3 0 3)) 0 (upd (upd (upd (upd (upd (σ 0) 0 (σ 37 0)) 1 (σ 37 1)) 2 (σ 37 2)) 3 (nI (if 8 ≠ 0 then (8 - 1) else 29))) 4 (nI (kp - 1)))) 11 (va_cpy (σ 37) (σ 11) (3 + 3 + 10) 0 24)) A s.heap H locs := hw
          have hst_ : sr (sr (sr (sr σ 4 (upr (σ 37) 10 (σ 4))) 15 (va_cpy (σ 37) (σ 15) 3 0 3)) 0 (upd (upd (upd (upd (upd (σ 0) 0 (σ 37 0)) 1 (σ 37 1)) 2 (σ 37 2)) 3 (nI (if 8 ≠ 0 then (8 - 1) else 29))) 4 (nI (kp - 1)))) 11 (va_cpy (σ 37) (σ 11) (3 + 3 + 10) 0 24) = sr (sr (sr (sr σ 4 (upr (σ 37) 10 (σ 4))) 11 (va_cpy (σ 37) (σ 11) (3 + 3 + 10) 0 24)) 15 (va_cpy (σ 37) (σ 15) 3 0 3)) 0 (upd (upd (upd (upd (upd (σ 0) 0 (σ 37 0)) 1 (σ 37 1)) 2 (σ 37 2)) 3 (nI (if 8 ≠ 0 then (8 - 1) else 29))) 4 (nI (kp - 1))) := by
            funext j_ x_
            by_cases e0 : j_ = 0
            · subst e0
              by_cases y0 : x_ = 0
              · subst y0; rfl
              · by_cases y1 : x_ = 1
                · subst y1; rfl
                · by_cases y2 : x_ = 2
                  · subst y2; rfl
                  · by_cases y3 : x_ = 3
                    · subst y3; rfl
                    · by_cases y4 : x_ = 4
                      · subst y4; rfl
                      · simp [sr, upd, y0, y1, y2, y3, y4]
            · by_cases e4 : j_ = 4
              · subst e4; rfl
              · by_cases e11 : j_ = 11
                · subst e11; rfl
                · by_cases e15 : j_ = 15
                  · subst e15; rfl
                  · simp only [sr, e0, e4, e11, e15, if_false]
          rw [hst_] at hw
          refine lv_aload_n hC.1 hC.2.1 dX7_restore_143 rfl (lv_at hl 2 rfl) ?_
          refine lv_iload_n hC.1 hC.2.1 dX7_restore_144 rfl (lv_at hl 0 rfl) ?_
          refine lv_bipush (v := nI 24) hC.1 hC.2.1 dX7_restore_145 (by decide) ?_
          refine q_addN hC dX7_restore_147 ?_
          refine lv_aload_n hC.1 hC.2.1 dX7_restore_148 rfl (lv_at hl 1 rfl) ?_
          refine gf_X7_20 hC hw dX7_restore_149 ?_
          refine gf_X7_56 hC hw dX7_restore_152 ?_
          refine lv_iconst (v := nI 0) hC.1 hC.2.1 dX7_restore_155 (by decide) ?_
          refine lv_bipush (v := nI 24) hC.1 hC.2.1 dX7_restore_156 (by decide) ?_
          refine q_cpy (sp := ((3 + 3 + 10) + 24)) (dp := 0) (n := 24) 47 rfl 22 rfl (XW_s12 _) hC hw hl (by omega) (by omega) (by decide) (by decide) ⟨Nat.le_of_ble_eq_true rfl, Nat.le_of_ble_eq_true rfl⟩ wk2_182 dX7_restore_158 (fun H locs hw => ?_)
          have hw : Wst E (XW E a) (sr (sr (sr (sr (sr σ 4 (upr (σ 37) 10 (σ 4))) 11 (va_cpy (σ 37) (σ 11) (3 + 3 + 10) 0 24)) 15 (va_cpy (σ 37) (σ 15) 3 0 3)) 0 (upd (upd (upd (upd (upd (σ 0) 0 (σ 37 0)) 1 (σ 37 1)) 2 (σ 37 2)) 3 (nI (if 8 ≠ 0 then (8 - 1) else 29))) 4 (nI (kp - 1)))) 12 (va_cpy (σ 37) (σ 12) ((3 + 3 + 10) + 24) 0 24)) A s.heap H locs := hw
          have hst_ : sr (sr (sr (sr (sr σ 4 (upr (σ 37) 10 (σ 4))) 11 (va_cpy (σ 37) (σ 11) (3 + 3 + 10) 0 24)) 15 (va_cpy (σ 37) (σ 15) 3 0 3)) 0 (upd (upd (upd (upd (upd (σ 0) 0 (σ 37 0)) 1 (σ 37 1)) 2 (σ 37 2)) 3 (nI (if 8 ≠ 0 then (8 - 1) else 29))) 4 (nI (kp - 1)))) 12 (va_cpy (σ 37) (σ 12) ((3 + 3 + 10) + 24) 0 24) = sr (sr (sr (sr (sr σ 4 (upr (σ 37) 10 (σ 4))) 11 (va_cpy (σ 37) (σ 11) (3 + 3 + 10) 0 24)) 12 (va_cpy (σ 37) (σ 12) ((3 + 3 + 10) + 24) 0 24)) 15 (va_cpy (σ 37) (σ 15) 3 0 3)) 0 (upd (upd (upd (upd (upd (σ 0) 0 (σ 37 0)) 1 (σ 37 1)) 2 (σ 37 2)) 3 (nI (if 8 ≠ 0 then (8 - 1) else 29))) 4 (nI (kp - 1))) := by
            funext j_ x_
            by_cases e0 : j_ = 0
            · subst e0
              by_cases y0 : x_ = 0
              · subst y0; rfl
              · by_cases y1 : x_ = 1
                · subst y1; rfl
                · by_cases y2 : x_ = 2
                  · subst y2; rfl
                  · by_cases y3 : x_ = 3
                    · subst y3; rfl
                    · by_cases y4 : x_ = 4
                      · subst y4; rfl
                      · simp [sr, upd, y0, y1, y2, y3, y4]
            · by_cases e4 : j_ = 4
              · subst e4; rfl
              · by_cases e11 : j_ = 11
                · subst e11; rfl
                · by_cases e12 : j_ = 12
                  · subst e12; rfl
                  · by_cases e15 : j_ = 15
                    · subst e15; rfl
                    · simp only [sr, e0, e4, e11, e12, e15, if_false]
          rw [hst_] at hw
          refine lv_aload_n hC.1 hC.2.1 dX7_restore_161 rfl (lv_at hl 2 rfl) ?_
          refine lv_iload_n hC.1 hC.2.1 dX7_restore_162 rfl (lv_at hl 0 rfl) ?_
          refine lv_bipush (v := nI 48) hC.1 hC.2.1 dX7_restore_163 (by decide) ?_
          refine q_addN hC dX7_restore_165 ?_
          refine lv_aload_n hC.1 hC.2.1 dX7_restore_166 rfl (lv_at hl 1 rfl) ?_
          refine gf_X7_20 hC hw dX7_restore_167 ?_
          refine gf_X7_59 hC hw dX7_restore_170 ?_
          refine lv_iconst (v := nI 0) hC.1 hC.2.1 dX7_restore_173 (by decide) ?_
          refine lv_bipush (v := nI 24) hC.1 hC.2.1 dX7_restore_174 (by decide) ?_
          refine q_cpy (sp := ((3 + 3 + 10) + 48)) (dp := 0) (n := 24) 47 rfl 23 rfl (XW_s13 _) hC hw hl (by omega) (by omega) (by decide) (by decide) ⟨Nat.le_of_ble_eq_true rfl, Nat.le_of_ble_eq_true rfl⟩ wk2_182 dX7_restore_176 (fun H locs hw => ?_)
          have hw : Wst E (XW E a) (sr (sr (sr (sr (sr (sr σ 4 (upr (σ 37) 10 (σ 4))) 11 (va_cpy (σ 37) (σ 11) (3 + 3 + 10) 0 24)) 12 (va_cpy (σ 37) (σ 12) ((3 + 3 + 10) + 24) 0 24)) 15 (va_cpy (σ 37) (σ 15) 3 0 3)) 0 (upd (upd (upd (upd (upd (σ 0) 0 (σ 37 0)) 1 (σ 37 1)) 2 (σ 37 2)) 3 (nI (if 8 ≠ 0 then (8 - 1) else 29))) 4 (nI (kp - 1)))) 13 (va_cpy (σ 37) (σ 13) ((3 + 3 + 10) + 48) 0 24)) A s.heap H locs := hw
          have hst_ : sr (sr (sr (sr (sr (sr σ 4 (upr (σ 37) 10 (σ 4))) 11 (va_cpy (σ 37) (σ 11) (3 + 3 + 10) 0 24)) 12 (va_cpy (σ 37) (σ 12) ((3 + 3 + 10) + 24) 0 24)) 15 (va_cpy (σ 37) (σ 15) 3 0 3)) 0 (upd (upd (upd (upd (upd (σ 0) 0 (σ 37 0)) 1 (σ 37 1)) 2 (σ 37 2)) 3 (nI (if 8 ≠ 0 then (8 - 1) else 29))) 4 (nI (kp - 1)))) 13 (va_cpy (σ 37) (σ 13) ((3 + 3 + 10) + 48) 0 24) = sr (sr (sr (sr (sr (sr σ 4 (upr (σ 37) 10 (σ 4))) 11 (va_cpy (σ 37) (σ 11) (3 + 3 + 10) 0 24)) 12 (va_cpy (σ 37) (σ 12) ((3 + 3 + 10) + 24) 0 24)) 13 (va_cpy (σ 37) (σ 13) ((3 + 3 + 10) + 48) 0 24)) 15 (va_cpy (σ 37) (σ 15) 3 0 3)) 0 (upd (upd (upd (upd (upd (σ 0) 0 (σ 37 0)) 1 (σ 37 1)) 2 (σ 37 2)) 3 (nI (if 8 ≠ 0 then (8 - 1) else 29))) 4 (nI (kp - 1))) := by
            funext j_ x_
            by_cases e0 : j_ = 0
            · subst e0
              by_cases y0 : x_ = 0
              · subst y0; rfl
              · by_cases y1 : x_ = 1
                · subst y1; rfl
                · by_cases y2 : x_ = 2
                  · subst y2; rfl
                  · by_cases y3 : x_ = 3
                    · subst y3; rfl
                    · by_cases y4 : x_ = 4
                      · subst y4; rfl
                      · simp [sr, upd, y0, y1, y2, y3, y4]
            · by_cases e4 : j_ = 4
              · subst e4; rfl
              · by_cases e11 : j_ = 11
                · subst e11; rfl
                · by_cases e12 : j_ = 12
                  · subst e12; rfl
                  · by_cases e13 : j_ = 13
                    · subst e13; rfl
                    · by_cases e15 : j_ = 15
                      · subst e15; rfl
                      · simp only [sr, e0, e4, e11, e12, e13, e15, if_false]
          rw [hst_] at hw
          refine lv_aload_n hC.1 hC.2.1 dX7_restore_179 rfl (lv_at hl 2 rfl) ?_
          refine lv_iload_n hC.1 hC.2.1 dX7_restore_180 rfl (lv_at hl 0 rfl) ?_
          refine lv_bipush (v := nI 72) hC.1 hC.2.1 dX7_restore_181 (by decide) ?_
          refine q_addN hC dX7_restore_183 ?_
          refine lv_aload_n hC.1 hC.2.1 dX7_restore_184 rfl (lv_at hl 1 rfl) ?_
          refine gf_X7_20 hC hw dX7_restore_185 ?_
          refine gf_X7_62 hC hw dX7_restore_188 ?_
          refine lv_iconst (v := nI 0) hC.1 hC.2.1 dX7_restore_191 (by decide) ?_
          refine lv_bipush (v := nI 24) hC.1 hC.2.1 dX7_restore_192 (by decide) ?_
          refine q_cpy (sp := ((3 + 3 + 10) + 72)) (dp := 0) (n := 24) 47 rfl 24 rfl (XW_s14 _) hC hw hl (by omega) (by omega) (by decide) (by decide) ⟨Nat.le_of_ble_eq_true rfl, Nat.le_of_ble_eq_true rfl⟩ wk2_182 dX7_restore_194 (fun H locs hw => ?_)
          have hw : Wst E (XW E a) (sr (sr (sr (sr (sr (sr (sr σ 4 (upr (σ 37) 10 (σ 4))) 11 (va_cpy (σ 37) (σ 11) (3 + 3 + 10) 0 24)) 12 (va_cpy (σ 37) (σ 12) ((3 + 3 + 10) + 24) 0 24)) 13 (va_cpy (σ 37) (σ 13) ((3 + 3 + 10) + 48) 0 24)) 15 (va_cpy (σ 37) (σ 15) 3 0 3)) 0 (upd (upd (upd (upd (upd (σ 0) 0 (σ 37 0)) 1 (σ 37 1)) 2 (σ 37 2)) 3 (nI (if 8 ≠ 0 then (8 - 1) else 29))) 4 (nI (kp - 1)))) 14 (va_cpy (σ 37) (σ 14) ((3 + 3 + 10) + 72) 0 24)) A s.heap H locs := hw
          have hst_ : sr (sr (sr (sr (sr (sr (sr σ 4 (upr (σ 37) 10 (σ 4))) 11 (va_cpy (σ 37) (σ 11) (3 + 3 + 10) 0 24)) 12 (va_cpy (σ 37) (σ 12) ((3 + 3 + 10) + 24) 0 24)) 13 (va_cpy (σ 37) (σ 13) ((3 + 3 + 10) + 48) 0 24)) 15 (va_cpy (σ 37) (σ 15) 3 0 3)) 0 (upd (upd (upd (upd (upd (σ 0) 0 (σ 37 0)) 1 (σ 37 1)) 2 (σ 37 2)) 3 (nI (if 8 ≠ 0 then (8 - 1) else 29))) 4 (nI (kp - 1)))) 14 (va_cpy (σ 37) (σ 14) ((3 + 3 + 10) + 72) 0 24) = sr (sr (sr (sr (sr (sr (sr σ 4 (upr (σ 37) 10 (σ 4))) 11 (va_cpy (σ 37) (σ 11) (3 + 3 + 10) 0 24)) 12 (va_cpy (σ 37) (σ 12) ((3 + 3 + 10) + 24) 0 24)) 13 (va_cpy (σ 37) (σ 13) ((3 + 3 + 10) + 48) 0 24)) 14 (va_cpy (σ 37) (σ 14) ((3 + 3 + 10) + 72) 0 24)) 15 (va_cpy (σ 37) (σ 15) 3 0 3)) 0 (upd (upd (upd (upd (upd (σ 0) 0 (σ 37 0)) 1 (σ 37 1)) 2 (σ 37 2)) 3 (nI (if 8 ≠ 0 then (8 - 1) else 29))) 4 (nI (kp - 1))) := by
            funext j_ x_
            by_cases e0 : j_ = 0
            · subst e0
              by_cases y0 : x_ = 0
              · subst y0; rfl
              · by_cases y1 : x_ = 1
                · subst y1; rfl
                · by_cases y2 : x_ = 2
                  · subst y2; rfl
                  · by_cases y3 : x_ = 3
                    · subst y3; rfl
                    · by_cases y4 : x_ = 4
                      · subst y4; rfl
                      · simp [sr, upd, y0, y1, y2, y3, y4]
            · by_cases e4 : j_ = 4
              · subst e4; rfl
              · by_cases e11 : j_ = 11
                · subst e11; rfl
                · by_cases e12 : j_ = 12
                  · subst e12; rfl
                  · by_cases e13 : j_ = 13
                    · subst e13; rfl
                    · by_cases e14 : j_ = 14
                      · subst e14; rfl
                      · by_cases e15 : j_ = 15
                        · subst e15; rfl
                        · simp only [sr, e0, e4, e11, e12, e13, e14, e15, if_false]
          rw [hst_] at hw
          refine hret _ _ _ _ _ hw ?_ dX7_restore_197
          exact rfl
        · refine lv_aload_n hC.1 hC.2.1 dX7_restore_96 rfl (lv_at hl 0 rfl) ?_
          refine gf_X7_16 hC hw dX7_restore_97 ?_
          refine gf_X7_49 hC hw dX7_restore_100 ?_
          refine lv_iload_n hC.1 hC.2.1 dX7_restore_103 rfl (lv_at hl 3 rfl) ?_
          refine lv_aload_n hC.1 hC.2.1 dX7_restore_104 rfl (lv_at hl 1 rfl) ?_
          refine lv_iload_n hC.1 hC.2.1 dX7_restore_105 rfl (lv_at hl 2 rfl) ?_
          refine lv_iload_n hC.1 hC.2.1 dX7_restore_106 rfl (lv_at hl 3 rfl) ?_
          refine q_addN hC dX7_restore_107 ?_
          refine q_ald (Wf := XW E a) (v := σ 37 ((3 + 3) + h)) 47 rfl (by decide) hC hw (by omega) rfl dX7_restore_108 ?_
          refine lv_iconst (v := nI 1) hC.1 hC.2.1 dX7_restore_109 (by decide) ?_
          have J118_6 : ∀ (w5 : Int32), w5 = (if (σ 37 ((3 + 3) + h)) = 1 then (1 : Int32) else 0) → ∀ (H : Heap) (locs : List Loc) (ls : Array Slot), Wst E (XW E a) (sr (sr (sr σ 4 (upr (σ 37) h (σ 4))) 15 (va_cpy (σ 37) (σ 15) 3 0 3)) 0 (upd (upd (upd (upd (upd (σ 0) 0 (σ 37 0)) 1 (σ 37 1)) 2 (σ 37 2)) 3 (nI (if 8 ≠ 0 then (8 - 1) else 29))) 4 (nI (kp - 1)))) A s.heap H locs → lv_has ls 4 [(0, .ref (a 68)), (1, .ref (a 37)), (2, .int (nI (3 + 3))), (3, .int (nI h))] → W p l e ({ frames := 1, cells := 0, slots := 0, locals := 24 }) s m args below meth c H locs 0 0 Q (F0 m 118 ls [.int (w5), .int (nI h), .ref (a 4)]) := by
            intro w5 e6 H locs ls hw hl
            subst e6
            refine as_X4 hC hw (by omega) vz_B dX7_restore_118 (fun H locs hw => ?_)
            have hw : Wst E (XW E a) (sr (sr (sr (sr σ 4 (upr (σ 37) h (σ 4))) 15 (va_cpy (σ 37) (σ 15) 3 0 3)) 0 (upd (upd (upd (upd (upd (σ 0) 0 (σ 37 0)) 1 (σ 37 1)) 2 (σ 37 2)) 3 (nI (if 8 ≠ 0 then (8 - 1) else 29))) 4 (nI (kp - 1)))) 4 (upd (upr (σ 37) h (σ 4)) h (if (σ 37 ((3 + 3) + h)) = 1 then (1 : Int32) else 0))) A s.heap H locs := hw
            have hst_ : sr (sr (sr (sr σ 4 (upr (σ 37) h (σ 4))) 15 (va_cpy (σ 37) (σ 15) 3 0 3)) 0 (upd (upd (upd (upd (upd (σ 0) 0 (σ 37 0)) 1 (σ 37 1)) 2 (σ 37 2)) 3 (nI (if 8 ≠ 0 then (8 - 1) else 29))) 4 (nI (kp - 1)))) 4 (upd (upr (σ 37) h (σ 4)) h (if (σ 37 ((3 + 3) + h)) = 1 then (1 : Int32) else 0)) = sr (sr (sr σ 4 (upd (upr (σ 37) h (σ 4)) h (if (σ 37 ((3 + 3) + h)) = 1 then (1 : Int32) else 0))) 15 (va_cpy (σ 37) (σ 15) 3 0 3)) 0 (upd (upd (upd (upd (upd (σ 0) 0 (σ 37 0)) 1 (σ 37 1)) 2 (σ 37 2)) 3 (nI (if 8 ≠ 0 then (8 - 1) else 29))) 4 (nI (kp - 1))) := by
              funext j_ x_
              by_cases e0 : j_ = 0
              · subst e0
                by_cases y0 : x_ = 0
                · subst y0; rfl
                · by_cases y1 : x_ = 1
                  · subst y1; rfl
                  · by_cases y2 : x_ = 2
                    · subst y2; rfl
                    · by_cases y3 : x_ = 3
                      · subst y3; rfl
                      · by_cases y4 : x_ = 4
                        · subst y4; rfl
                        · simp [sr, upd, y0, y1, y2, y3, y4]
              · by_cases e4 : j_ = 4
                · subst e4; rfl
                · by_cases e15 : j_ = 15
                  · subst e15; rfl
                  · simp only [sr, e0, e4, e15, if_false]
            rw [hst_] at hw
            refine lv_iinc (v := nI (h + 1)) (lv' := [(3, .int (nI (h + 1))), (0, .ref (a 68)), (1, .ref (a 37)), (2, .int (nI (3 + 3)))]) hC.1 hC.2.1 dX7_restore_119 hl (k := 3) rfl (nI_add _ _) (by decide) rfl (fun ls hl => ?_)
            refine lv_goto (tgt := 90) hC.1 hC.2.1 dX7_restore_122 (by decide) ?_
            rw [upr_s] at hw
            exact ih90 (h + 1) (by omega) (by omega) _ _ _ hw (lv_sub hl [1, 2, 3, 0] rfl)
          refine q_cmpne hC 117 cI dX7_restore_110 (by decide) (fun (c7 : ¬ ((σ 37 ((3 + 3) + h)) = 1)) => ?_) (fun (c7 : (σ 37 ((3 + 3) + h)) = 1) => ?_)
          · refine lv_iconst (v := nI 0) hC.1 hC.2.1 dX7_restore_117 (by decide) ?_
            exact J118_6 _ (if_neg c7).symm _ _ _ hw (lv_sub hl [0, 1, 2, 3] rfl)
          · refine lv_iconst (v := nI 1) hC.1 hC.2.1 dX7_restore_113 (by decide) ?_
            refine lv_goto (tgt := 118) hC.1 hC.2.1 dX7_restore_114 (by decide) ?_
            exact J118_6 _ (if_pos c7).symm _ _ _ hw (lv_sub hl [0, 1, 2, 3] rfl)
    have hst_ : sr (sr σ 15 (va_cpy (σ 37) (σ 15) 3 0 3)) 0 (upd (upd (upd (upd (upd (σ 0) 0 (σ 37 0)) 1 (σ 37 1)) 2 (σ 37 2)) 3 (nI (if 8 ≠ 0 then (8 - 1) else 29))) 4 (nI (kp - 1))) = sr (sr (sr σ 4 (upr (σ 37) 0 (σ 4))) 15 (va_cpy (σ 37) (σ 15) 3 0 3)) 0 (upd (upd (upd (upd (upd (σ 0) 0 (σ 37 0)) 1 (σ 37 1)) 2 (σ 37 2)) 3 (nI (if 8 ≠ 0 then (8 - 1) else 29))) 4 (nI (kp - 1))) := by
      funext j_ x_
      by_cases e0 : j_ = 0
      · subst e0
        by_cases y0 : x_ = 0
        · subst y0; rfl
        · by_cases y1 : x_ = 1
          · subst y1; rfl
          · by_cases y2 : x_ = 2
            · subst y2; rfl
            · by_cases y3 : x_ = 3
              · subst y3; rfl
              · by_cases y4 : x_ = 4
                · subst y4; rfl
                · simp [sr, upd, y0, y1, y2, y3, y4]
      · by_cases e4 : j_ = 4
        · subst e4; show σ 4 x_ = upr (σ 37) 0 (σ 4) x_; rw [upr_0]
        · by_cases e15 : j_ = 15
          · subst e15; rfl
          · simp only [sr, e0, e4, e15, if_false]
    rw [hst_] at hw
    exact L90_2 _ 0 (by omega) (Nat.lt_succ_self _) _ _ _ hw (lv_sub hl [3, 2, 1, 0] rfl)
  refine q_ifne hC 13 (cN0 (by omega)) dX7_restore_5 (by decide) (fun (c8 : 8 ≠ 0) => ?_) (fun (c8 : 8 = 0) => ?_)
  · refine lv_aload_n hC.1 hC.2.1 dX7_restore_13 rfl (lv_at hl 0 rfl) ?_
    refine gf_X7_28 (v := nI 8) hC hw hnx dX7_restore_14 ?_
    refine lv_iconst (v := nI 1) hC.1 hC.2.1 dX7_restore_17 (by decide) ?_
    refine q_subN hC (by omega) dX7_restore_18 ?_
    exact J19_2 _ (by (rw [if_pos c8]) <;> rfl) _ _ _ hw (lv_sub hl [0] rfl)
  · refine lv_bipush (v := nI 29) hC.1 hC.2.1 dX7_restore_8 (by decide) ?_
    refine lv_goto (tgt := 19) hC.1 hC.2.1 dX7_restore_10 (by decide) ?_
    exact J19_2 _ (by (rw [if_neg (fun q => q c8)]) <;> rfl) _ _ _ hw (lv_sub hl [0] rfl)
set_option maxHeartbeats 4000000 in
set_option maxRecDepth 100000 in
theorem tX7_restore_k9 (l : Launch) (E : EV) (a : Nat → Nat) (σ : St) (kp : Nat) (hnx : σ 0 3 = nI 9) (hkp : σ 0 4 = nI kp) (hk30 : kp ≤ 30) (hk1 : 1 ≤ kp) : MV l E (XW E a) yX7_restore (Cond.code yX7_restore cX7_restore 4 none) ({ frames := 1, cells := 0, slots := 0, locals := 24 }) [.ref (a 68)] σ (fun u_ => u_ = sr (sr (sr (sr (sr (sr (sr σ 4 (upr (σ 38) 10 (σ 4))) 11 (va_cpy (σ 38) (σ 11) 16 0 24)) 12 (va_cpy (σ 38) (σ 12) 40 0 24)) 13 (va_cpy (σ 38) (σ 13) 64 0 24)) 14 (va_cpy (σ 38) (σ 14) 88 0 24)) 15 (va_cpy (σ 38) (σ 15) 3 0 3)) 0 (upd (upd (upd (upd (upd (σ 0) 0 ((σ 38) 0)) 1 ((σ 38) 1)) 2 ((σ 38) 2)) 3 (nI (if 9 ≠ 0 then 9 - 1 else 29))) 4 (nI (kp - 1)))) := by
  refine MV.mk (by decide +kernel) (Nat.le_of_ble_eq_true rfl) ?_
  intro p e s m args below meth c ls A Q hret hC hw hl
  have hC : Cxt E p s m args meth c cX7_restore 4 none RX7 A := hC
  have hl : lv_has ls 4 [(0, .ref (a 68))] := hl
  refine lv_aload_n hC.1 hC.2.1 dX7_restore_0 rfl (lv_at hl 0 rfl) ?_
  refine lv_aload_n hC.1 hC.2.1 dX7_restore_1 rfl (lv_at hl 0 rfl) ?_
  refine gf_X7_28 (v := nI 9) hC hw hnx dX7_restore_2 ?_
  have J19_2 : ∀ (w1 : Nat), w1 = (if 9 ≠ 0 then (9 - 1) else 29) → ∀ (H : Heap) (locs : List Loc) (ls : Array Slot), Wst E (XW E a) (σ) A s.heap H locs → lv_has ls 4 [(0, .ref (a 68))] → W p l e ({ frames := 1, cells := 0, slots := 0, locals := 24 }) s m args below meth c H locs 0 0 Q (F0 m 19 ls [.int (nI w1), .ref (a 68)]) := by
    intro w1 e2 H locs ls hw hl
    subst e2
    refine pf_X7_28 hC hw dX7_restore_19 (fun H locs hw => ?_)
    have hw : Wst E (XW E a) (sr σ 0 (upd (σ 0) 3 (nI (if 9 ≠ 0 then (9 - 1) else 29)))) A s.heap H locs := hw
    refine lv_aload_n hC.1 hC.2.1 dX7_restore_22 rfl (lv_at hl 0 rfl) ?_
    refine lv_dup hC.1 hC.2.1 dX7_restore_23 rfl ?_
    refine gf_X7_65 (v := nI kp) hC hw hkp dX7_restore_24 ?_
    refine lv_iconst (v := nI 1) hC.1 hC.2.1 dX7_restore_27 (by decide) ?_
    refine q_subN hC (by omega) dX7_restore_28 ?_
    refine pf_X7_65 hC hw dX7_restore_29 (fun H locs hw => ?_)
    have hw : Wst E (XW E a) (sr (sr σ 0 (upd (σ 0) 3 (nI (if 9 ≠ 0 then (9 - 1) else 29)))) 0 (upd (upd (σ 0) 3 (nI (if 9 ≠ 0 then (9 - 1) else 29))) 4 (nI (kp - 1)))) A s.heap H locs := hw
    have hst_ : sr (sr σ 0 (upd (σ 0) 3 (nI (if 9 ≠ 0 then (9 - 1) else 29)))) 0 (upd (upd (σ 0) 3 (nI (if 9 ≠ 0 then (9 - 1) else 29))) 4 (nI (kp - 1))) = sr σ 0 (upd (upd (σ 0) 3 (nI (if 9 ≠ 0 then (9 - 1) else 29))) 4 (nI (kp - 1))) := by
      funext j_ x_
      by_cases e0 : j_ = 0
      · subst e0
        by_cases y3 : x_ = 3
        · subst y3; rfl
        · by_cases y4 : x_ = 4
          · subst y4; rfl
          · simp [sr, upd, y3, y4]
      · simp only [sr, e0, if_false]
    rw [hst_] at hw
    refine lv_aload_n hC.1 hC.2.1 dX7_restore_32 rfl (lv_at hl 0 rfl) ?_
    refine gf_X7_13 hC hw dX7_restore_33 ?_
    refine lv_aload_n hC.1 hC.2.1 dX7_restore_36 rfl (lv_at hl 0 rfl) ?_
    refine gf_X7_28 (v := nI (if 9 ≠ 0 then (9 - 1) else 29)) hC hw rfl dX7_restore_37 ?_
    refine q_top (y := nI 8) rfl ?_
    refine q_aald hC hw (i := 8) (by decide) dX7_restore_40 ?_
    refine lv_astore_n (lv' := [(1, .ref (a 38)), (0, .ref (a 68))]) hC.1 hC.2.1 dX7_restore_41 rfl hl (by decide) rfl (fun ls hl => ?_)
    refine lv_aload_n hC.1 hC.2.1 dX7_restore_42 rfl (lv_at hl 1 rfl) ?_
    refine gf_X7_16 hC hw dX7_restore_43 ?_
    refine lv_aload_n hC.1 hC.2.1 dX7_restore_46 rfl (lv_at hl 0 rfl) ?_
    refine lv_iconst (v := nI 0) hC.1 hC.2.1 dX7_restore_47 (by decide) ?_
    refine q_ald (Wf := XW E a) (v := σ 38 0) 48 rfl (by decide) hC hw (by omega) rfl dX7_restore_48 ?_
    refine pf_X7_32 hC hw dX7_restore_49 (fun H locs hw => ?_)
    have hw : Wst E (XW E a) (sr (sr σ 0 (upd (upd (σ 0) 3 (nI (if 9 ≠ 0 then (9 - 1) else 29))) 4 (nI (kp - 1)))) 0 (upd (upd (upd (σ 0) 3 (nI (if 9 ≠ 0 then (9 - 1) else 29))) 4 (nI (kp - 1))) 0 (σ 38 0))) A s.heap H locs := hw
    have hst_ : sr (sr σ 0 (upd (upd (σ 0) 3 (nI (if 9 ≠ 0 then (9 - 1) else 29))) 4 (nI (kp - 1)))) 0 (upd (upd (upd (σ 0) 3 (nI (if 9 ≠ 0 then (9 - 1) else 29))) 4 (nI (kp - 1))) 0 (σ 38 0)) = sr σ 0 (upd (upd (upd (σ 0) 0 (σ 38 0)) 3 (nI (if 9 ≠ 0 then (9 - 1) else 29))) 4 (nI (kp - 1))) := by
      funext j_ x_
      by_cases e0 : j_ = 0
      · subst e0
        by_cases y0 : x_ = 0
        · subst y0; rfl
        · by_cases y3 : x_ = 3
          · subst y3; rfl
          · by_cases y4 : x_ = 4
            · subst y4; rfl
            · simp [sr, upd, y0, y3, y4]
      · simp only [sr, e0, if_false]
    rw [hst_] at hw
    refine lv_aload_n hC.1 hC.2.1 dX7_restore_52 rfl (lv_at hl 1 rfl) ?_
    refine gf_X7_20 hC hw dX7_restore_53 ?_
    refine lv_aload_n hC.1 hC.2.1 dX7_restore_56 rfl (lv_at hl 0 rfl) ?_
    refine lv_iconst (v := nI 1) hC.1 hC.2.1 dX7_restore_57 (by decide) ?_
    refine q_ald (Wf := XW E a) (v := σ 38 1) 48 rfl (by decide) hC hw (by omega) rfl dX7_restore_58 ?_
    refine pf_X7_37 hC hw dX7_restore_59 (fun H locs hw => ?_)
    have hw : Wst E (XW E a) (sr (sr σ 0 (upd (upd (upd (σ 0) 0 (σ 38 0)) 3 (nI (if 9 ≠ 0 then (9 - 1) else 29))) 4 (nI (kp - 1)))) 0 (upd (upd (upd (upd (σ 0) 0 (σ 38 0)) 3 (nI (if 9 ≠ 0 then (9 - 1) else 29))) 4 (nI (kp - 1))) 1 (σ 38 1))) A s.heap H locs := hw
    have hst_ : sr (sr σ 0 (upd (upd (upd (σ 0) 0 (σ 38 0)) 3 (nI (if 9 ≠ 0 then (9 - 1) else 29))) 4 (nI (kp - 1)))) 0 (upd (upd (upd (upd (σ 0) 0 (σ 38 0)) 3 (nI (if 9 ≠ 0 then (9 - 1) else 29))) 4 (nI (kp - 1))) 1 (σ 38 1)) = sr σ 0 (upd (upd (upd (upd (σ 0) 0 (σ 38 0)) 1 (σ 38 1)) 3 (nI (if 9 ≠ 0 then (9 - 1) else 29))) 4 (nI (kp - 1))) := by
      funext j_ x_
      by_cases e0 : j_ = 0
      · subst e0
        by_cases y0 : x_ = 0
        · subst y0; rfl
        · by_cases y1 : x_ = 1
          · subst y1; rfl
          · by_cases y3 : x_ = 3
            · subst y3; rfl
            · by_cases y4 : x_ = 4
              · subst y4; rfl
              · simp [sr, upd, y0, y1, y3, y4]
      · simp only [sr, e0, if_false]
    rw [hst_] at hw
    refine lv_aload_n hC.1 hC.2.1 dX7_restore_62 rfl (lv_at hl 1 rfl) ?_
    refine gf_X7_20 hC hw dX7_restore_63 ?_
    refine lv_aload_n hC.1 hC.2.1 dX7_restore_66 rfl (lv_at hl 0 rfl) ?_
    refine lv_iconst (v := nI 2) hC.1 hC.2.1 dX7_restore_67 (by decide) ?_
    refine q_ald (Wf := XW E a) (v := σ 38 2) 48 rfl (by decide) hC hw (by omega) rfl dX7_restore_68 ?_
    refine pf_X7_40 hC hw dX7_restore_69 (fun H locs hw => ?_)
    have hw : Wst E (XW E a) (sr (sr σ 0 (upd (upd (upd (upd (σ 0) 0 (σ 38 0)) 1 (σ 38 1)) 3 (nI (if 9 ≠ 0 then (9 - 1) else 29))) 4 (nI (kp - 1)))) 0 (upd (upd (upd (upd (upd (σ 0) 0 (σ 38 0)) 1 (σ 38 1)) 3 (nI (if 9 ≠ 0 then (9 - 1) else 29))) 4 (nI (kp - 1))) 2 (σ 38 2))) A s.heap H locs := hw
    have hst_ : sr (sr σ 0 (upd (upd (upd (upd (σ 0) 0 (σ 38 0)) 1 (σ 38 1)) 3 (nI (if 9 ≠ 0 then (9 - 1) else 29))) 4 (nI (kp - 1)))) 0 (upd (upd (upd (upd (upd (σ 0) 0 (σ 38 0)) 1 (σ 38 1)) 3 (nI (if 9 ≠ 0 then (9 - 1) else 29))) 4 (nI (kp - 1))) 2 (σ 38 2)) = sr σ 0 (upd (upd (upd (upd (upd (σ 0) 0 (σ 38 0)) 1 (σ 38 1)) 2 (σ 38 2)) 3 (nI (if 9 ≠ 0 then (9 - 1) else 29))) 4 (nI (kp - 1))) := by
      funext j_ x_
      by_cases e0 : j_ = 0
      · subst e0
        by_cases y0 : x_ = 0
        · subst y0; rfl
        · by_cases y1 : x_ = 1
          · subst y1; rfl
          · by_cases y2 : x_ = 2
            · subst y2; rfl
            · by_cases y3 : x_ = 3
              · subst y3; rfl
              · by_cases y4 : x_ = 4
                · subst y4; rfl
                · simp [sr, upd, y0, y1, y2, y3, y4]
      · simp only [sr, e0, if_false]
    rw [hst_] at hw
    refine lv_iconst (v := nI 3) hC.1 hC.2.1 dX7_restore_72 (by decide) ?_
    refine lv_istore_n (lv' := [(2, .int (nI 3)), (1, .ref (a 38)), (0, .ref (a 68))]) hC.1 hC.2.1 dX7_restore_73 rfl hl (by decide) rfl (fun ls hl => ?_)
    refine lv_aload_n hC.1 hC.2.1 dX7_restore_74 rfl (lv_at hl 1 rfl) ?_
    refine lv_iload_n hC.1 hC.2.1 dX7_restore_75 rfl (lv_at hl 0 rfl) ?_
    refine lv_aload_n hC.1 hC.2.1 dX7_restore_76 rfl (lv_at hl 2 rfl) ?_
    refine gf_X7_24 hC hw dX7_restore_77 ?_
    refine lv_iconst (v := nI 0) hC.1 hC.2.1 dX7_restore_80 (by decide) ?_
    refine lv_iconst (v := nI 3) hC.1 hC.2.1 dX7_restore_81 (by decide) ?_
    refine q_cpy (sp := 3) (dp := 0) (n := 3) 48 rfl 25 rfl (XW_s15 _) hC hw hl (by omega) (by omega) (by decide) (by decide) ⟨Nat.le_of_ble_eq_true rfl, Nat.le_of_ble_eq_true rfl⟩ wk2_182 dX7_restore_82 (fun H locs hw => ?_)
    have hw : Wst E (XW E a) (sr (sr σ 0 (upd (upd (upd (upd (upd (σ 0) 0 (σ 38 0)) 1 (σ 38 1)) 2 (σ 38 2)) 3 (nI (if 9 ≠ 0 then (9 - 1) else 29))) 4 (nI (kp - 1)))) 15 (va_cpy (σ 38) (σ 15) 3 0 3)) A s.heap H locs := hw
    have hst_ : sr (sr σ 0 (upd (upd (upd (upd (upd (σ 0) 0 (σ 38 0)) 1 (σ 38 1)) 2 (σ 38 2)) 3 (nI (if 9 ≠ 0 then (9 - 1) else 29))) 4 (nI (kp - 1)))) 15 (va_cpy (σ 38) (σ 15) 3 0 3) = sr (sr σ 15 (va_cpy (σ 38) (σ 15) 3 0 3)) 0 (upd (upd (upd (upd (upd (σ 0) 0 (σ 38 0)) 1 (σ 38 1)) 2 (σ 38 2)) 3 (nI (if 9 ≠ 0 then (9 - 1) else 29))) 4 (nI (kp - 1))) := by
      funext j_ x_
      by_cases e0 : j_ = 0
      · subst e0
        by_cases y0 : x_ = 0
        · subst y0; rfl
        · by_cases y1 : x_ = 1
          · subst y1; rfl
          · by_cases y2 : x_ = 2
            · subst y2; rfl
            · by_cases y3 : x_ = 3
              · subst y3; rfl
              · by_cases y4 : x_ = 4
                · subst y4; rfl
                · simp [sr, upd, y0, y1, y2, y3, y4]
      · by_cases e15 : j_ = 15
        · subst e15; rfl
        · simp only [sr, e0, e15, if_false]
    rw [hst_] at hw
    refine lv_iinc (v := nI (3 + 3)) (lv' := [(2, .int (nI (3 + 3))), (1, .ref (a 38)), (0, .ref (a 68))]) hC.1 hC.2.1 dX7_restore_85 hl (k := 0) rfl (nI_add _ _) (by decide) rfl (fun ls hl => ?_)
    refine lv_iconst (v := nI 0) hC.1 hC.2.1 dX7_restore_88 (by decide) ?_
    refine lv_istore_n (lv' := [(3, .int (nI 0)), (2, .int (nI (3 + 3))), (1, .ref (a 38)), (0, .ref (a 68))]) hC.1 hC.2.1 dX7_restore_89 rfl hl (by decide) rfl (fun ls hl => ?_)
    have L90_2 : ∀ (n : Nat), ∀ (h : Nat), (h ≤ 10) → (10 - h) < n → ∀ (H : Heap) (locs : List Loc) (ls : Array Slot), Wst E (XW E a) (sr (sr (sr σ 4 (upr (σ 38) h (σ 4))) 15 (va_cpy (σ 38) (σ 15) 3 0 3)) 0 (upd (upd (upd (upd (upd (σ 0) 0 (σ 38 0)) 1 (σ 38 1)) 2 (σ 38 2)) 3 (nI (if 9 ≠ 0 then (9 - 1) else 29))) 4 (nI (kp - 1)))) A s.heap H locs → lv_has ls 4 [(0, .ref (a 68)), (1, .ref (a 38)), (2, .int (nI (3 + 3))), (3, .int (nI h))] → W p l e ({ frames := 1, cells := 0, slots := 0, locals := 24 }) s m args below meth c H locs 0 0 Q (F0 m 90 ls []) := by
      intro n
      induction n with
      | zero => intro h hh hn; exact absurd hn (Nat.not_lt_zero _)
      | succ n ih90 =>
        intro h hh hn90 H locs ls hw hl
        refine lv_iload_n hC.1 hC.2.1 dX7_restore_90 rfl (lv_at hl 3 rfl) ?_
        refine lv_bipush (v := nI 10) hC.1 hC.2.1 dX7_restore_91 (by decide) ?_
        refine q_cmpge hC 125 (cNle (by omega) (by omega)) dX7_restore_93 (by decide) (fun (c4 : 10 ≤ h) => ?_) (fun (c4 : h < 10) => ?_)
        · have hh9 : h = 10 := by omega
          rw [hh9] at hw
          refine lv_iinc (v := nI (3 + 3 + 10)) (lv' := [(2, .int (nI (3 + 3 + 10))), (0, .ref (a 68)), (1, .ref (a 38)), (3, .int (nI h))]) hC.1 hC.2.1 dX7_restore_125 hl (k := 2) rfl (nI_add _ _) (by decide) rfl (fun ls hl => ?_)
          refine lv_aload_n hC.1 hC.2.1 dX7_restore_128 rfl (lv_at hl 2 rfl) ?_
          refine lv_iload_n hC.1 hC.2.1 dX7_restore_129 rfl (lv_at hl 0 rfl) ?_
          refine lv_aload_n hC.1 hC.2.1 dX7_restore_130 rfl (lv_at hl 1 rfl) ?_
          refine gf_X7_20 hC hw dX7_restore_131 ?_
          refine gf_X7_53 hC hw dX7_restore_134 ?_
          refine lv_iconst (v := nI 0) hC.1 hC.2.1 dX7_restore_137 (by decide) ?_
          refine lv_bipush (v := nI 24) hC.1 hC.2.1 dX7_restore_138 (by decide) ?_
          refine q_cpy (sp := (3 + 3 + 10)) (dp := 0) (n := 24) 48 rfl 21 rfl (XW_s11 _) hC hw hl (by omega) (by omega) (by decide) (by decide) ⟨Nat.le_of_ble_eq_true rfl, Nat.le_of_ble_eq_true rfl⟩ wk2_182 dX7_restore_140 (fun H locs hw => ?_)
          have hw : Wst E (XW E a) (sr (sr (sr (sr σ 4 (upr (σ 38) 10 (σ 4))) 15 (va_cpy (σ 38) (σ 15) 3 0 3)) 0 (upd (upd (upd (upd (upd (σ 0) 0 (σ 38 0)) 1 (σ 38 1)) 2 (σ 38 2)) 3 (nI (if 9 ≠ 0 then (9 - 1) else 29))) 4 (nI (kp - 1)))) 11 (va_cpy (σ 38) (σ 11) (3 + 3 + 10) 0 24)) A s.heap H locs := hw
          have hst_ : sr (sr (sr (sr σ 4 (upr (σ 38) 10 (σ 4))) 15 (va_cpy (σ 38) (σ 15) 3 0 3)) 0 (upd (upd (upd (upd (upd (σ 0) 0 (σ 38 0)) 1 (σ 38 1)) 2 (σ 38 2)) 3 (nI (if 9 ≠ 0 then (9 - 1) else 29))) 4 (nI (kp - 1)))) 11 (va_cpy (σ 38) (σ 11) (3 + 3 + 10) 0 24) = sr (sr (sr (sr σ 4 (upr (σ 38) 10 (σ 4))) 11 (va_cpy (σ 38) (σ 11) (3 + 3 + 10) 0 24)) 15 (va_cpy (σ 38) (σ 15) 3 0 3)) 0 (upd (upd (upd (upd (upd (σ 0) 0 (σ 38 0)) 1 (σ 38 1)) 2 (σ 38 2)) 3 (nI (if 9 ≠ 0 then (9 - 1) else 29))) 4 (nI (kp - 1))) := by
            funext j_ x_
            by_cases e0 : j_ = 0
            · subst e0
              by_cases y0 : x_ = 0
              · subst y0; rfl
              · by_cases y1 : x_ = 1
                · subst y1; rfl
                · by_cases y2 : x_ = 2
                  · subst y2; rfl
                  · by_cases y3 : x_ = 3
                    · subst y3; rfl
                    · by_cases y4 : x_ = 4
                      · subst y4; rfl
                      · simp [sr, upd, y0, y1, y2, y3, y4]
            · by_cases e4 : j_ = 4
              · subst e4; rfl
              · by_cases e11 : j_ = 11
                · subst e11; rfl
                · by_cases e15 : j_ = 15
                  · subst e15; rfl
                  · simp only [sr, e0, e4, e11, e15, if_false]
          rw [hst_] at hw
          refine lv_aload_n hC.1 hC.2.1 dX7_restore_143 rfl (lv_at hl 2 rfl) ?_
          refine lv_iload_n hC.1 hC.2.1 dX7_restore_144 rfl (lv_at hl 0 rfl) ?_
          refine lv_bipush (v := nI 24) hC.1 hC.2.1 dX7_restore_145 (by decide) ?_
          refine q_addN hC dX7_restore_147 ?_
          refine lv_aload_n hC.1 hC.2.1 dX7_restore_148 rfl (lv_at hl 1 rfl) ?_
          refine gf_X7_20 hC hw dX7_restore_149 ?_
          refine gf_X7_56 hC hw dX7_restore_152 ?_
          refine lv_iconst (v := nI 0) hC.1 hC.2.1 dX7_restore_155 (by decide) ?_
          refine lv_bipush (v := nI 24) hC.1 hC.2.1 dX7_restore_156 (by decide) ?_
          refine q_cpy (sp := ((3 + 3 + 10) + 24)) (dp := 0) (n := 24) 48 rfl 22 rfl (XW_s12 _) hC hw hl (by omega) (by omega) (by decide) (by decide) ⟨Nat.le_of_ble_eq_true rfl, Nat.le_of_ble_eq_true rfl⟩ wk2_182 dX7_restore_158 (fun H locs hw => ?_)
          have hw : Wst E (XW E a) (sr (sr (sr (sr (sr σ 4 (upr (σ 38) 10 (σ 4))) 11 (va_cpy (σ 38) (σ 11) (3 + 3 + 10) 0 24)) 15 (va_cpy (σ 38) (σ 15) 3 0 3)) 0 (upd (upd (upd (upd (upd (σ 0) 0 (σ 38 0)) 1 (σ 38 1)) 2 (σ 38 2)) 3 (nI (if 9 ≠ 0 then (9 - 1) else 29))) 4 (nI (kp - 1)))) 12 (va_cpy (σ 38) (σ 12) ((3 + 3 + 10) + 24) 0 24)) A s.heap H locs := hw
          have hst_ : sr (sr (sr (sr (sr σ 4 (upr (σ 38) 10 (σ 4))) 11 (va_cpy (σ 38) (σ 11) (3 + 3 + 10) 0 24)) 15 (va_cpy (σ 38) (σ 15) 3 0 3)) 0 (upd (upd (upd (upd (upd (σ 0) 0 (σ 38 0)) 1 (σ 38 1)) 2 (σ 38 2)) 3 (nI (if 9 ≠ 0 then (9 - 1) else 29))) 4 (nI (kp - 1)))) 12 (va_cpy (σ 38) (σ 12) ((3 + 3 + 10) + 24) 0 24) = sr (sr (sr (sr (sr σ 4 (upr (σ 38) 10 (σ 4))) 11 (va_cpy (σ 38) (σ 11) (3 + 3 + 10) 0 24)) 12 (va_cpy (σ 38) (σ 12) ((3 + 3 + 10) + 24) 0 24)) 15 (va_cpy (σ 38) (σ 15) 3 0 3)) 0 (upd (upd (upd (upd (upd (σ 0) 0 (σ 38 0)) 1 (σ 38 1)) 2 (σ 38 2)) 3 (nI (if 9 ≠ 0 then (9 - 1) else 29))) 4 (nI (kp - 1))) := by
            funext j_ x_
            by_cases e0 : j_ = 0
            · subst e0
              by_cases y0 : x_ = 0
              · subst y0; rfl
              · by_cases y1 : x_ = 1
                · subst y1; rfl
                · by_cases y2 : x_ = 2
                  · subst y2; rfl
                  · by_cases y3 : x_ = 3
                    · subst y3; rfl
                    · by_cases y4 : x_ = 4
                      · subst y4; rfl
                      · simp [sr, upd, y0, y1, y2, y3, y4]
            · by_cases e4 : j_ = 4
              · subst e4; rfl
              · by_cases e11 : j_ = 11
                · subst e11; rfl
                · by_cases e12 : j_ = 12
                  · subst e12; rfl
                  · by_cases e15 : j_ = 15
                    · subst e15; rfl
                    · simp only [sr, e0, e4, e11, e12, e15, if_false]
          rw [hst_] at hw
          refine lv_aload_n hC.1 hC.2.1 dX7_restore_161 rfl (lv_at hl 2 rfl) ?_
          refine lv_iload_n hC.1 hC.2.1 dX7_restore_162 rfl (lv_at hl 0 rfl) ?_
          refine lv_bipush (v := nI 48) hC.1 hC.2.1 dX7_restore_163 (by decide) ?_
          refine q_addN hC dX7_restore_165 ?_
          refine lv_aload_n hC.1 hC.2.1 dX7_restore_166 rfl (lv_at hl 1 rfl) ?_
          refine gf_X7_20 hC hw dX7_restore_167 ?_
          refine gf_X7_59 hC hw dX7_restore_170 ?_
          refine lv_iconst (v := nI 0) hC.1 hC.2.1 dX7_restore_173 (by decide) ?_
          refine lv_bipush (v := nI 24) hC.1 hC.2.1 dX7_restore_174 (by decide) ?_
          refine q_cpy (sp := ((3 + 3 + 10) + 48)) (dp := 0) (n := 24) 48 rfl 23 rfl (XW_s13 _) hC hw hl (by omega) (by omega) (by decide) (by decide) ⟨Nat.le_of_ble_eq_true rfl, Nat.le_of_ble_eq_true rfl⟩ wk2_182 dX7_restore_176 (fun H locs hw => ?_)
          have hw : Wst E (XW E a) (sr (sr (sr (sr (sr (sr σ 4 (upr (σ 38) 10 (σ 4))) 11 (va_cpy (σ 38) (σ 11) (3 + 3 + 10) 0 24)) 12 (va_cpy (σ 38) (σ 12) ((3 + 3 + 10) + 24) 0 24)) 15 (va_cpy (σ 38) (σ 15) 3 0 3)) 0 (upd (upd (upd (upd (upd (σ 0) 0 (σ 38 0)) 1 (σ 38 1)) 2 (σ 38 2)) 3 (nI (if 9 ≠ 0 then (9 - 1) else 29))) 4 (nI (kp - 1)))) 13 (va_cpy (σ 38) (σ 13) ((3 + 3 + 10) + 48) 0 24)) A s.heap H locs := hw
          have hst_ : sr (sr (sr (sr (sr (sr σ 4 (upr (σ 38) 10 (σ 4))) 11 (va_cpy (σ 38) (σ 11) (3 + 3 + 10) 0 24)) 12 (va_cpy (σ 38) (σ 12) ((3 + 3 + 10) + 24) 0 24)) 15 (va_cpy (σ 38) (σ 15) 3 0 3)) 0 (upd (upd (upd (upd (upd (σ 0) 0 (σ 38 0)) 1 (σ 38 1)) 2 (σ 38 2)) 3 (nI (if 9 ≠ 0 then (9 - 1) else 29))) 4 (nI (kp - 1)))) 13 (va_cpy (σ 38) (σ 13) ((3 + 3 + 10) + 48) 0 24) = sr (sr (sr (sr (sr (sr σ 4 (upr (σ 38) 10 (σ 4))) 11 (va_cpy (σ 38) (σ 11) (3 + 3 + 10) 0 24)) 12 (va_cpy (σ 38) (σ 12) ((3 + 3 + 10) + 24) 0 24)) 13 (va_cpy (σ 38) (σ 13) ((3 + 3 + 10) + 48) 0 24)) 15 (va_cpy (σ 38) (σ 15) 3 0 3)) 0 (upd (upd (upd (upd (upd (σ 0) 0 (σ 38 0)) 1 (σ 38 1)) 2 (σ 38 2)) 3 (nI (if 9 ≠ 0 then (9 - 1) else 29))) 4 (nI (kp - 1))) := by
            funext j_ x_
            by_cases e0 : j_ = 0
            · subst e0
              by_cases y0 : x_ = 0
              · subst y0; rfl
              · by_cases y1 : x_ = 1
                · subst y1; rfl
                · by_cases y2 : x_ = 2
                  · subst y2; rfl
                  · by_cases y3 : x_ = 3
                    · subst y3; rfl
                    · by_cases y4 : x_ = 4
                      · subst y4; rfl
                      · simp [sr, upd, y0, y1, y2, y3, y4]
            · by_cases e4 : j_ = 4
              · subst e4; rfl
              · by_cases e11 : j_ = 11
                · subst e11; rfl
                · by_cases e12 : j_ = 12
                  · subst e12; rfl
                  · by_cases e13 : j_ = 13
                    · subst e13; rfl
                    · by_cases e15 : j_ = 15
                      · subst e15; rfl
                      · simp only [sr, e0, e4, e11, e12, e13, e15, if_false]
          rw [hst_] at hw
          refine lv_aload_n hC.1 hC.2.1 dX7_restore_179 rfl (lv_at hl 2 rfl) ?_
          refine lv_iload_n hC.1 hC.2.1 dX7_restore_180 rfl (lv_at hl 0 rfl) ?_
          refine lv_bipush (v := nI 72) hC.1 hC.2.1 dX7_restore_181 (by decide) ?_
          refine q_addN hC dX7_restore_183 ?_
          refine lv_aload_n hC.1 hC.2.1 dX7_restore_184 rfl (lv_at hl 1 rfl) ?_
          refine gf_X7_20 hC hw dX7_restore_185 ?_
          refine gf_X7_62 hC hw dX7_restore_188 ?_
          refine lv_iconst (v := nI 0) hC.1 hC.2.1 dX7_restore_191 (by decide) ?_
          refine lv_bipush (v := nI 24) hC.1 hC.2.1 dX7_restore_192 (by decide) ?_
          refine q_cpy (sp := ((3 + 3 + 10) + 72)) (dp := 0) (n := 24) 48 rfl 24 rfl (XW_s14 _) hC hw hl (by omega) (by omega) (by decide) (by decide) ⟨Nat.le_of_ble_eq_true rfl, Nat.le_of_ble_eq_true rfl⟩ wk2_182 dX7_restore_194 (fun H locs hw => ?_)
          have hw : Wst E (XW E a) (sr (sr (sr (sr (sr (sr (sr σ 4 (upr (σ 38) 10 (σ 4))) 11 (va_cpy (σ 38) (σ 11) (3 + 3 + 10) 0 24)) 12 (va_cpy (σ 38) (σ 12) ((3 + 3 + 10) + 24) 0 24)) 13 (va_cpy (σ 38) (σ 13) ((3 + 3 + 10) + 48) 0 24)) 15 (va_cpy (σ 38) (σ 15) 3 0 3)) 0 (upd (upd (upd (upd (upd (σ 0) 0 (σ 38 0)) 1 (σ 38 1)) 2 (σ 38 2)) 3 (nI (if 9 ≠ 0 then (9 - 1) else 29))) 4 (nI (kp - 1)))) 14 (va_cpy (σ 38) (σ 14) ((3 + 3 + 10) + 72) 0 24)) A s.heap H locs := hw
          have hst_ : sr (sr (sr (sr (sr (sr (sr σ 4 (upr (σ 38) 10 (σ 4))) 11 (va_cpy (σ 38) (σ 11) (3 + 3 + 10) 0 24)) 12 (va_cpy (σ 38) (σ 12) ((3 + 3 + 10) + 24) 0 24)) 13 (va_cpy (σ 38) (σ 13) ((3 + 3 + 10) + 48) 0 24)) 15 (va_cpy (σ 38) (σ 15) 3 0 3)) 0 (upd (upd (upd (upd (upd (σ 0) 0 (σ 38 0)) 1 (σ 38 1)) 2 (σ 38 2)) 3 (nI (if 9 ≠ 0 then (9 - 1) else 29))) 4 (nI (kp - 1)))) 14 (va_cpy (σ 38) (σ 14) ((3 + 3 + 10) + 72) 0 24) = sr (sr (sr (sr (sr (sr (sr σ 4 (upr (σ 38) 10 (σ 4))) 11 (va_cpy (σ 38) (σ 11) (3 + 3 + 10) 0 24)) 12 (va_cpy (σ 38) (σ 12) ((3 + 3 + 10) + 24) 0 24)) 13 (va_cpy (σ 38) (σ 13) ((3 + 3 + 10) + 48) 0 24)) 14 (va_cpy (σ 38) (σ 14) ((3 + 3 + 10) + 72) 0 24)) 15 (va_cpy (σ 38) (σ 15) 3 0 3)) 0 (upd (upd (upd (upd (upd (σ 0) 0 (σ 38 0)) 1 (σ 38 1)) 2 (σ 38 2)) 3 (nI (if 9 ≠ 0 then (9 - 1) else 29))) 4 (nI (kp - 1))) := by
            funext j_ x_
            by_cases e0 : j_ = 0
            · subst e0
              by_cases y0 : x_ = 0
              · subst y0; rfl
              · by_cases y1 : x_ = 1
                · subst y1; rfl
                · by_cases y2 : x_ = 2
                  · subst y2; rfl
                  · by_cases y3 : x_ = 3
                    · subst y3; rfl
                    · by_cases y4 : x_ = 4
                      · subst y4; rfl
                      · simp [sr, upd, y0, y1, y2, y3, y4]
            · by_cases e4 : j_ = 4
              · subst e4; rfl
              · by_cases e11 : j_ = 11
                · subst e11; rfl
                · by_cases e12 : j_ = 12
                  · subst e12; rfl
                  · by_cases e13 : j_ = 13
                    · subst e13; rfl
                    · by_cases e14 : j_ = 14
                      · subst e14; rfl
                      · by_cases e15 : j_ = 15
                        · subst e15; rfl
                        · simp only [sr, e0, e4, e11, e12, e13, e14, e15, if_false]
          rw [hst_] at hw
          refine hret _ _ _ _ _ hw ?_ dX7_restore_197
          exact rfl
        · refine lv_aload_n hC.1 hC.2.1 dX7_restore_96 rfl (lv_at hl 0 rfl) ?_
          refine gf_X7_16 hC hw dX7_restore_97 ?_
          refine gf_X7_49 hC hw dX7_restore_100 ?_
          refine lv_iload_n hC.1 hC.2.1 dX7_restore_103 rfl (lv_at hl 3 rfl) ?_
          refine lv_aload_n hC.1 hC.2.1 dX7_restore_104 rfl (lv_at hl 1 rfl) ?_
          refine lv_iload_n hC.1 hC.2.1 dX7_restore_105 rfl (lv_at hl 2 rfl) ?_
          refine lv_iload_n hC.1 hC.2.1 dX7_restore_106 rfl (lv_at hl 3 rfl) ?_
          refine q_addN hC dX7_restore_107 ?_
          refine q_ald (Wf := XW E a) (v := σ 38 ((3 + 3) + h)) 48 rfl (by decide) hC hw (by omega) rfl dX7_restore_108 ?_
          refine lv_iconst (v := nI 1) hC.1 hC.2.1 dX7_restore_109 (by decide) ?_
          have J118_6 : ∀ (w5 : Int32), w5 = (if (σ 38 ((3 + 3) + h)) = 1 then (1 : Int32) else 0) → ∀ (H : Heap) (locs : List Loc) (ls : Array Slot), Wst E (XW E a) (sr (sr (sr σ 4 (upr (σ 38) h (σ 4))) 15 (va_cpy (σ 38) (σ 15) 3 0 3)) 0 (upd (upd (upd (upd (upd (σ 0) 0 (σ 38 0)) 1 (σ 38 1)) 2 (σ 38 2)) 3 (nI (if 9 ≠ 0 then (9 - 1) else 29))) 4 (nI (kp - 1)))) A s.heap H locs → lv_has ls 4 [(0, .ref (a 68)), (1, .ref (a 38)), (2, .int (nI (3 + 3))), (3, .int (nI h))] → W p l e ({ frames := 1, cells := 0, slots := 0, locals := 24 }) s m args below meth c H locs 0 0 Q (F0 m 118 ls [.int (w5), .int (nI h), .ref (a 4)]) := by
            intro w5 e6 H locs ls hw hl
            subst e6
            refine as_X4 hC hw (by omega) vz_B dX7_restore_118 (fun H locs hw => ?_)
            have hw : Wst E (XW E a) (sr (sr (sr (sr σ 4 (upr (σ 38) h (σ 4))) 15 (va_cpy (σ 38) (σ 15) 3 0 3)) 0 (upd (upd (upd (upd (upd (σ 0) 0 (σ 38 0)) 1 (σ 38 1)) 2 (σ 38 2)) 3 (nI (if 9 ≠ 0 then (9 - 1) else 29))) 4 (nI (kp - 1)))) 4 (upd (upr (σ 38) h (σ 4)) h (if (σ 38 ((3 + 3) + h)) = 1 then (1 : Int32) else 0))) A s.heap H locs := hw
            have hst_ : sr (sr (sr (sr σ 4 (upr (σ 38) h (σ 4))) 15 (va_cpy (σ 38) (σ 15) 3 0 3)) 0 (upd (upd (upd (upd (upd (σ 0) 0 (σ 38 0)) 1 (σ 38 1)) 2 (σ 38 2)) 3 (nI (if 9 ≠ 0 then (9 - 1) else 29))) 4 (nI (kp - 1)))) 4 (upd (upr (σ 38) h (σ 4)) h (if (σ 38 ((3 + 3) + h)) = 1 then (1 : Int32) else 0)) = sr (sr (sr σ 4 (upd (upr (σ 38) h (σ 4)) h (if (σ 38 ((3 + 3) + h)) = 1 then (1 : Int32) else 0))) 15 (va_cpy (σ 38) (σ 15) 3 0 3)) 0 (upd (upd (upd (upd (upd (σ 0) 0 (σ 38 0)) 1 (σ 38 1)) 2 (σ 38 2)) 3 (nI (if 9 ≠ 0 then (9 - 1) else 29))) 4 (nI (kp - 1))) := by
              funext j_ x_
              by_cases e0 : j_ = 0
              · subst e0
                by_cases y0 : x_ = 0
                · subst y0; rfl
                · by_cases y1 : x_ = 1
                  · subst y1; rfl
                  · by_cases y2 : x_ = 2
                    · subst y2; rfl
                    · by_cases y3 : x_ = 3
                      · subst y3; rfl
                      · by_cases y4 : x_ = 4
                        · subst y4; rfl
                        · simp [sr, upd, y0, y1, y2, y3, y4]
              · by_cases e4 : j_ = 4
                · subst e4; rfl
                · by_cases e15 : j_ = 15
                  · subst e15; rfl
                  · simp only [sr, e0, e4, e15, if_false]
            rw [hst_] at hw
            refine lv_iinc (v := nI (h + 1)) (lv' := [(3, .int (nI (h + 1))), (0, .ref (a 68)), (1, .ref (a 38)), (2, .int (nI (3 + 3)))]) hC.1 hC.2.1 dX7_restore_119 hl (k := 3) rfl (nI_add _ _) (by decide) rfl (fun ls hl => ?_)
            refine lv_goto (tgt := 90) hC.1 hC.2.1 dX7_restore_122 (by decide) ?_
            rw [upr_s] at hw
            exact ih90 (h + 1) (by omega) (by omega) _ _ _ hw (lv_sub hl [1, 2, 3, 0] rfl)
          refine q_cmpne hC 117 cI dX7_restore_110 (by decide) (fun (c7 : ¬ ((σ 38 ((3 + 3) + h)) = 1)) => ?_) (fun (c7 : (σ 38 ((3 + 3) + h)) = 1) => ?_)
          · refine lv_iconst (v := nI 0) hC.1 hC.2.1 dX7_restore_117 (by decide) ?_
            exact J118_6 _ (if_neg c7).symm _ _ _ hw (lv_sub hl [0, 1, 2, 3] rfl)
          · refine lv_iconst (v := nI 1) hC.1 hC.2.1 dX7_restore_113 (by decide) ?_
            refine lv_goto (tgt := 118) hC.1 hC.2.1 dX7_restore_114 (by decide) ?_
            exact J118_6 _ (if_pos c7).symm _ _ _ hw (lv_sub hl [0, 1, 2, 3] rfl)
    have hst_ : sr (sr σ 15 (va_cpy (σ 38) (σ 15) 3 0 3)) 0 (upd (upd (upd (upd (upd (σ 0) 0 (σ 38 0)) 1 (σ 38 1)) 2 (σ 38 2)) 3 (nI (if 9 ≠ 0 then (9 - 1) else 29))) 4 (nI (kp - 1))) = sr (sr (sr σ 4 (upr (σ 38) 0 (σ 4))) 15 (va_cpy (σ 38) (σ 15) 3 0 3)) 0 (upd (upd (upd (upd (upd (σ 0) 0 (σ 38 0)) 1 (σ 38 1)) 2 (σ 38 2)) 3 (nI (if 9 ≠ 0 then (9 - 1) else 29))) 4 (nI (kp - 1))) := by
      funext j_ x_
      by_cases e0 : j_ = 0
      · subst e0
        by_cases y0 : x_ = 0
        · subst y0; rfl
        · by_cases y1 : x_ = 1
          · subst y1; rfl
          · by_cases y2 : x_ = 2
            · subst y2; rfl
            · by_cases y3 : x_ = 3
              · subst y3; rfl
              · by_cases y4 : x_ = 4
                · subst y4; rfl
                · simp [sr, upd, y0, y1, y2, y3, y4]
      · by_cases e4 : j_ = 4
        · subst e4; show σ 4 x_ = upr (σ 38) 0 (σ 4) x_; rw [upr_0]
        · by_cases e15 : j_ = 15
          · subst e15; rfl
          · simp only [sr, e0, e4, e15, if_false]
    rw [hst_] at hw
    exact L90_2 _ 0 (by omega) (Nat.lt_succ_self _) _ _ _ hw (lv_sub hl [3, 2, 1, 0] rfl)
  refine q_ifne hC 13 (cN0 (by omega)) dX7_restore_5 (by decide) (fun (c8 : 9 ≠ 0) => ?_) (fun (c8 : 9 = 0) => ?_)
  · refine lv_aload_n hC.1 hC.2.1 dX7_restore_13 rfl (lv_at hl 0 rfl) ?_
    refine gf_X7_28 (v := nI 9) hC hw hnx dX7_restore_14 ?_
    refine lv_iconst (v := nI 1) hC.1 hC.2.1 dX7_restore_17 (by decide) ?_
    refine q_subN hC (by omega) dX7_restore_18 ?_
    exact J19_2 _ (by (rw [if_pos c8]) <;> rfl) _ _ _ hw (lv_sub hl [0] rfl)
  · refine lv_bipush (v := nI 29) hC.1 hC.2.1 dX7_restore_8 (by decide) ?_
    refine lv_goto (tgt := 19) hC.1 hC.2.1 dX7_restore_10 (by decide) ?_
    exact J19_2 _ (by (rw [if_neg (fun q => q c8)]) <;> rfl) _ _ _ hw (lv_sub hl [0] rfl)
set_option maxHeartbeats 4000000 in
set_option maxRecDepth 100000 in
theorem tX7_restore_k10 (l : Launch) (E : EV) (a : Nat → Nat) (σ : St) (kp : Nat) (hnx : σ 0 3 = nI 10) (hkp : σ 0 4 = nI kp) (hk30 : kp ≤ 30) (hk1 : 1 ≤ kp) : MV l E (XW E a) yX7_restore (Cond.code yX7_restore cX7_restore 4 none) ({ frames := 1, cells := 0, slots := 0, locals := 24 }) [.ref (a 68)] σ (fun u_ => u_ = sr (sr (sr (sr (sr (sr (sr σ 4 (upr (σ 39) 10 (σ 4))) 11 (va_cpy (σ 39) (σ 11) 16 0 24)) 12 (va_cpy (σ 39) (σ 12) 40 0 24)) 13 (va_cpy (σ 39) (σ 13) 64 0 24)) 14 (va_cpy (σ 39) (σ 14) 88 0 24)) 15 (va_cpy (σ 39) (σ 15) 3 0 3)) 0 (upd (upd (upd (upd (upd (σ 0) 0 ((σ 39) 0)) 1 ((σ 39) 1)) 2 ((σ 39) 2)) 3 (nI (if 10 ≠ 0 then 10 - 1 else 29))) 4 (nI (kp - 1)))) := by
  refine MV.mk (by decide +kernel) (Nat.le_of_ble_eq_true rfl) ?_
  intro p e s m args below meth c ls A Q hret hC hw hl
  have hC : Cxt E p s m args meth c cX7_restore 4 none RX7 A := hC
  have hl : lv_has ls 4 [(0, .ref (a 68))] := hl
  refine lv_aload_n hC.1 hC.2.1 dX7_restore_0 rfl (lv_at hl 0 rfl) ?_
  refine lv_aload_n hC.1 hC.2.1 dX7_restore_1 rfl (lv_at hl 0 rfl) ?_
  refine gf_X7_28 (v := nI 10) hC hw hnx dX7_restore_2 ?_
  have J19_2 : ∀ (w1 : Nat), w1 = (if 10 ≠ 0 then (10 - 1) else 29) → ∀ (H : Heap) (locs : List Loc) (ls : Array Slot), Wst E (XW E a) (σ) A s.heap H locs → lv_has ls 4 [(0, .ref (a 68))] → W p l e ({ frames := 1, cells := 0, slots := 0, locals := 24 }) s m args below meth c H locs 0 0 Q (F0 m 19 ls [.int (nI w1), .ref (a 68)]) := by
    intro w1 e2 H locs ls hw hl
    subst e2
    refine pf_X7_28 hC hw dX7_restore_19 (fun H locs hw => ?_)
    have hw : Wst E (XW E a) (sr σ 0 (upd (σ 0) 3 (nI (if 10 ≠ 0 then (10 - 1) else 29)))) A s.heap H locs := hw
    refine lv_aload_n hC.1 hC.2.1 dX7_restore_22 rfl (lv_at hl 0 rfl) ?_
    refine lv_dup hC.1 hC.2.1 dX7_restore_23 rfl ?_
    refine gf_X7_65 (v := nI kp) hC hw hkp dX7_restore_24 ?_
    refine lv_iconst (v := nI 1) hC.1 hC.2.1 dX7_restore_27 (by decide) ?_
    refine q_subN hC (by omega) dX7_restore_28 ?_
    refine pf_X7_65 hC hw dX7_restore_29 (fun H locs hw => ?_)
    have hw : Wst E (XW E a) (sr (sr σ 0 (upd (σ 0) 3 (nI (if 10 ≠ 0 then (10 - 1) else 29)))) 0 (upd (upd (σ 0) 3 (nI (if 10 ≠ 0 then (10 - 1) else 29))) 4 (nI (kp - 1)))) A s.heap H locs := hw
    have hst_ : sr (sr σ 0 (upd (σ 0) 3 (nI (if 10 ≠ 0 then (10 - 1) else 29)))) 0 (upd (upd (σ 0) 3 (nI (if 10 ≠ 0 then (10 - 1) else 29))) 4 (nI (kp - 1))) = sr σ 0 (upd (upd (σ 0) 3 (nI (if 10 ≠ 0 then (10 - 1) else 29))) 4 (nI (kp - 1))) := by
      funext j_ x_
      by_cases e0 : j_ = 0
      · subst e0
        by_cases y3 : x_ = 3
        · subst y3; rfl
        · by_cases y4 : x_ = 4
          · subst y4; rfl
          · simp [sr, upd, y3, y4]
      · simp only [sr, e0, if_false]
    rw [hst_] at hw
    refine lv_aload_n hC.1 hC.2.1 dX7_restore_32 rfl (lv_at hl 0 rfl) ?_
    refine gf_X7_13 hC hw dX7_restore_33 ?_
    refine lv_aload_n hC.1 hC.2.1 dX7_restore_36 rfl (lv_at hl 0 rfl) ?_
    refine gf_X7_28 (v := nI (if 10 ≠ 0 then (10 - 1) else 29)) hC hw rfl dX7_restore_37 ?_
    refine q_top (y := nI 9) rfl ?_
    refine q_aald hC hw (i := 9) (by decide) dX7_restore_40 ?_
    refine lv_astore_n (lv' := [(1, .ref (a 39)), (0, .ref (a 68))]) hC.1 hC.2.1 dX7_restore_41 rfl hl (by decide) rfl (fun ls hl => ?_)
    refine lv_aload_n hC.1 hC.2.1 dX7_restore_42 rfl (lv_at hl 1 rfl) ?_
    refine gf_X7_16 hC hw dX7_restore_43 ?_
    refine lv_aload_n hC.1 hC.2.1 dX7_restore_46 rfl (lv_at hl 0 rfl) ?_
    refine lv_iconst (v := nI 0) hC.1 hC.2.1 dX7_restore_47 (by decide) ?_
    refine q_ald (Wf := XW E a) (v := σ 39 0) 49 rfl (by decide) hC hw (by omega) rfl dX7_restore_48 ?_
    refine pf_X7_32 hC hw dX7_restore_49 (fun H locs hw => ?_)
    have hw : Wst E (XW E a) (sr (sr σ 0 (upd (upd (σ 0) 3 (nI (if 10 ≠ 0 then (10 - 1) else 29))) 4 (nI (kp - 1)))) 0 (upd (upd (upd (σ 0) 3 (nI (if 10 ≠ 0 then (10 - 1) else 29))) 4 (nI (kp - 1))) 0 (σ 39 0))) A s.heap H locs := hw
    have hst_ : sr (sr σ 0 (upd (upd (σ 0) 3 (nI (if 10 ≠ 0 then (10 - 1) else 29))) 4 (nI (kp - 1)))) 0 (upd (upd (upd (σ 0) 3 (nI (if 10 ≠ 0 then (10 - 1) else 29))) 4 (nI (kp - 1))) 0 (σ 39 0)) = sr σ 0 (upd (upd (upd (σ 0) 0 (σ 39 0)) 3 (nI (if 10 ≠ 0 then (10 - 1) else 29))) 4 (nI (kp - 1))) := by
      funext j_ x_
      by_cases e0 : j_ = 0
      · subst e0
        by_cases y0 : x_ = 0
        · subst y0; rfl
        · by_cases y3 : x_ = 3
          · subst y3; rfl
          · by_cases y4 : x_ = 4
            · subst y4; rfl
            · simp [sr, upd, y0, y3, y4]
      · simp only [sr, e0, if_false]
    rw [hst_] at hw
    refine lv_aload_n hC.1 hC.2.1 dX7_restore_52 rfl (lv_at hl 1 rfl) ?_
    refine gf_X7_20 hC hw dX7_restore_53 ?_
    refine lv_aload_n hC.1 hC.2.1 dX7_restore_56 rfl (lv_at hl 0 rfl) ?_
    refine lv_iconst (v := nI 1) hC.1 hC.2.1 dX7_restore_57 (by decide) ?_
    refine q_ald (Wf := XW E a) (v := σ 39 1) 49 rfl (by decide) hC hw (by omega) rfl dX7_restore_58 ?_
    refine pf_X7_37 hC hw dX7_restore_59 (fun H locs hw => ?_)
    have hw : Wst E (XW E a) (sr (sr σ 0 (upd (upd (upd (σ 0) 0 (σ 39 0)) 3 (nI (if 10 ≠ 0 then (10 - 1) else 29))) 4 (nI (kp - 1)))) 0 (upd (upd (upd (upd (σ 0) 0 (σ 39 0)) 3 (nI (if 10 ≠ 0 then (10 - 1) else 29))) 4 (nI (kp - 1))) 1 (σ 39 1))) A s.heap H locs := hw
    have hst_ : sr (sr σ 0 (upd (upd (upd (σ 0) 0 (σ 39 0)) 3 (nI (if 10 ≠ 0 then (10 - 1) else 29))) 4 (nI (kp - 1)))) 0 (upd (upd (upd (upd (σ 0) 0 (σ 39 0)) 3 (nI (if 10 ≠ 0 then (10 - 1) else 29))) 4 (nI (kp - 1))) 1 (σ 39 1)) = sr σ 0 (upd (upd (upd (upd (σ 0) 0 (σ 39 0)) 1 (σ 39 1)) 3 (nI (if 10 ≠ 0 then (10 - 1) else 29))) 4 (nI (kp - 1))) := by
      funext j_ x_
      by_cases e0 : j_ = 0
      · subst e0
        by_cases y0 : x_ = 0
        · subst y0; rfl
        · by_cases y1 : x_ = 1
          · subst y1; rfl
          · by_cases y3 : x_ = 3
            · subst y3; rfl
            · by_cases y4 : x_ = 4
              · subst y4; rfl
              · simp [sr, upd, y0, y1, y3, y4]
      · simp only [sr, e0, if_false]
    rw [hst_] at hw
    refine lv_aload_n hC.1 hC.2.1 dX7_restore_62 rfl (lv_at hl 1 rfl) ?_
    refine gf_X7_20 hC hw dX7_restore_63 ?_
    refine lv_aload_n hC.1 hC.2.1 dX7_restore_66 rfl (lv_at hl 0 rfl) ?_
    refine lv_iconst (v := nI 2) hC.1 hC.2.1 dX7_restore_67 (by decide) ?_
    refine q_ald (Wf := XW E a) (v := σ 39 2) 49 rfl (by decide) hC hw (by omega) rfl dX7_restore_68 ?_
    refine pf_X7_40 hC hw dX7_restore_69 (fun H locs hw => ?_)
    have hw : Wst E (XW E a) (sr (sr σ 0 (upd (upd (upd (upd (σ 0) 0 (σ 39 0)) 1 (σ 39 1)) 3 (nI (if 10 ≠ 0 then (10 - 1) else 29))) 4 (nI (kp - 1)))) 0 (upd (upd (upd (upd (upd (σ 0) 0 (σ 39 0)) 1 (σ 39 1)) 3 (nI (if 10 ≠ 0 then (10 - 1) else 29))) 4 (nI (kp - 1))) 2 (σ 39 2))) A s.heap H locs := hw
    have hst_ : sr (sr σ 0 (upd (upd (upd (upd (σ 0) 0 (σ 39 0)) 1 (σ 39 1)) 3 (nI (if 10 ≠ 0 then (10 - 1) else 29))) 4 (nI (kp - 1)))) 0 (upd (upd (upd (upd (upd (σ 0) 0 (σ 39 0)) 1 (σ 39 1)) 3 (nI (if 10 ≠ 0 then (10 - 1) else 29))) 4 (nI (kp - 1))) 2 (σ 39 2)) = sr σ 0 (upd (upd (upd (upd (upd (σ 0) 0 (σ 39 0)) 1 (σ 39 1)) 2 (σ 39 2)) 3 (nI (if 10 ≠ 0 then (10 - 1) else 29))) 4 (nI (kp - 1))) := by
      funext j_ x_
      by_cases e0 : j_ = 0
      · subst e0
        by_cases y0 : x_ = 0
        · subst y0; rfl
        · by_cases y1 : x_ = 1
          · subst y1; rfl
          · by_cases y2 : x_ = 2
            · subst y2; rfl
            · by_cases y3 : x_ = 3
              · subst y3; rfl
              · by_cases y4 : x_ = 4
                · subst y4; rfl
                · simp [sr, upd, y0, y1, y2, y3, y4]
      · simp only [sr, e0, if_false]
    rw [hst_] at hw
    refine lv_iconst (v := nI 3) hC.1 hC.2.1 dX7_restore_72 (by decide) ?_
    refine lv_istore_n (lv' := [(2, .int (nI 3)), (1, .ref (a 39)), (0, .ref (a 68))]) hC.1 hC.2.1 dX7_restore_73 rfl hl (by decide) rfl (fun ls hl => ?_)
    refine lv_aload_n hC.1 hC.2.1 dX7_restore_74 rfl (lv_at hl 1 rfl) ?_
    refine lv_iload_n hC.1 hC.2.1 dX7_restore_75 rfl (lv_at hl 0 rfl) ?_
    refine lv_aload_n hC.1 hC.2.1 dX7_restore_76 rfl (lv_at hl 2 rfl) ?_
    refine gf_X7_24 hC hw dX7_restore_77 ?_
    refine lv_iconst (v := nI 0) hC.1 hC.2.1 dX7_restore_80 (by decide) ?_
    refine lv_iconst (v := nI 3) hC.1 hC.2.1 dX7_restore_81 (by decide) ?_
    refine q_cpy (sp := 3) (dp := 0) (n := 3) 49 rfl 25 rfl (XW_s15 _) hC hw hl (by omega) (by omega) (by decide) (by decide) ⟨Nat.le_of_ble_eq_true rfl, Nat.le_of_ble_eq_true rfl⟩ wk2_182 dX7_restore_82 (fun H locs hw => ?_)
    have hw : Wst E (XW E a) (sr (sr σ 0 (upd (upd (upd (upd (upd (σ 0) 0 (σ 39 0)) 1 (σ 39 1)) 2 (σ 39 2)) 3 (nI (if 10 ≠ 0 then (10 - 1) else 29))) 4 (nI (kp - 1)))) 15 (va_cpy (σ 39) (σ 15) 3 0 3)) A s.heap H locs := hw
    have hst_ : sr (sr σ 0 (upd (upd (upd (upd (upd (σ 0) 0 (σ 39 0)) 1 (σ 39 1)) 2 (σ 39 2)) 3 (nI (if 10 ≠ 0 then (10 - 1) else 29))) 4 (nI (kp - 1)))) 15 (va_cpy (σ 39) (σ 15) 3 0 3) = sr (sr σ 15 (va_cpy (σ 39) (σ 15) 3 0 3)) 0 (upd (upd (upd (upd (upd (σ 0) 0 (σ 39 0)) 1 (σ 39 1)) 2 (σ 39 2)) 3 (nI (if 10 ≠ 0 then (10 - 1) else 29))) 4 (nI (kp - 1))) := by
      funext j_ x_
      by_cases e0 : j_ = 0
      · subst e0
        by_cases y0 : x_ = 0
        · subst y0; rfl
        · by_cases y1 : x_ = 1
          · subst y1; rfl
          · by_cases y2 : x_ = 2
            · subst y2; rfl
            · by_cases y3 : x_ = 3
              · subst y3; rfl
              · by_cases y4 : x_ = 4
                · subst y4; rfl
                · simp [sr, upd, y0, y1, y2, y3, y4]
      · by_cases e15 : j_ = 15
        · subst e15; rfl
        · simp only [sr, e0, e15, if_false]
    rw [hst_] at hw
    refine lv_iinc (v := nI (3 + 3)) (lv' := [(2, .int (nI (3 + 3))), (1, .ref (a 39)), (0, .ref (a 68))]) hC.1 hC.2.1 dX7_restore_85 hl (k := 0) rfl (nI_add _ _) (by decide) rfl (fun ls hl => ?_)
    refine lv_iconst (v := nI 0) hC.1 hC.2.1 dX7_restore_88 (by decide) ?_
    refine lv_istore_n (lv' := [(3, .int (nI 0)), (2, .int (nI (3 + 3))), (1, .ref (a 39)), (0, .ref (a 68))]) hC.1 hC.2.1 dX7_restore_89 rfl hl (by decide) rfl (fun ls hl => ?_)
    have L90_2 : ∀ (n : Nat), ∀ (h : Nat), (h ≤ 10) → (10 - h) < n → ∀ (H : Heap) (locs : List Loc) (ls : Array Slot), Wst E (XW E a) (sr (sr (sr σ 4 (upr (σ 39) h (σ 4))) 15 (va_cpy (σ 39) (σ 15) 3 0 3)) 0 (upd (upd (upd (upd (upd (σ 0) 0 (σ 39 0)) 1 (σ 39 1)) 2 (σ 39 2)) 3 (nI (if 10 ≠ 0 then (10 - 1) else 29))) 4 (nI (kp - 1)))) A s.heap H locs → lv_has ls 4 [(0, .ref (a 68)), (1, .ref (a 39)), (2, .int (nI (3 + 3))), (3, .int (nI h))] → W p l e ({ frames := 1, cells := 0, slots := 0, locals := 24 }) s m args below meth c H locs 0 0 Q (F0 m 90 ls []) := by
      intro n
      induction n with
      | zero => intro h hh hn; exact absurd hn (Nat.not_lt_zero _)
      | succ n ih90 =>
        intro h hh hn90 H locs ls hw hl
        refine lv_iload_n hC.1 hC.2.1 dX7_restore_90 rfl (lv_at hl 3 rfl) ?_
        refine lv_bipush (v := nI 10) hC.1 hC.2.1 dX7_restore_91 (by decide) ?_
        refine q_cmpge hC 125 (cNle (by omega) (by omega)) dX7_restore_93 (by decide) (fun (c4 : 10 ≤ h) => ?_) (fun (c4 : h < 10) => ?_)
        · have hh9 : h = 10 := by omega
          rw [hh9] at hw
          refine lv_iinc (v := nI (3 + 3 + 10)) (lv' := [(2, .int (nI (3 + 3 + 10))), (0, .ref (a 68)), (1, .ref (a 39)), (3, .int (nI h))]) hC.1 hC.2.1 dX7_restore_125 hl (k := 2) rfl (nI_add _ _) (by decide) rfl (fun ls hl => ?_)
          refine lv_aload_n hC.1 hC.2.1 dX7_restore_128 rfl (lv_at hl 2 rfl) ?_
          refine lv_iload_n hC.1 hC.2.1 dX7_restore_129 rfl (lv_at hl 0 rfl) ?_
          refine lv_aload_n hC.1 hC.2.1 dX7_restore_130 rfl (lv_at hl 1 rfl) ?_
          refine gf_X7_20 hC hw dX7_restore_131 ?_
          refine gf_X7_53 hC hw dX7_restore_134 ?_
          refine lv_iconst (v := nI 0) hC.1 hC.2.1 dX7_restore_137 (by decide) ?_
          refine lv_bipush (v := nI 24) hC.1 hC.2.1 dX7_restore_138 (by decide) ?_
          refine q_cpy (sp := (3 + 3 + 10)) (dp := 0) (n := 24) 49 rfl 21 rfl (XW_s11 _) hC hw hl (by omega) (by omega) (by decide) (by decide) ⟨Nat.le_of_ble_eq_true rfl, Nat.le_of_ble_eq_true rfl⟩ wk2_182 dX7_restore_140 (fun H locs hw => ?_)
          have hw : Wst E (XW E a) (sr (sr (sr (sr σ 4 (upr (σ 39) 10 (σ 4))) 15 (va_cpy (σ 39) (σ 15) 3 0 3)) 0 (upd (upd (upd (upd (upd (σ 0) 0 (σ 39 0)) 1 (σ 39 1)) 2 (σ 39 2)) 3 (nI (if 10 ≠ 0 then (10 - 1) else 29))) 4 (nI (kp - 1)))) 11 (va_cpy (σ 39) (σ 11) (3 + 3 + 10) 0 24)) A s.heap H locs := hw
          have hst_ : sr (sr (sr (sr σ 4 (upr (σ 39) 10 (σ 4))) 15 (va_cpy (σ 39) (σ 15) 3 0 3)) 0 (upd (upd (upd (upd (upd (σ 0) 0 (σ 39 0)) 1 (σ 39 1)) 2 (σ 39 2)) 3 (nI (if 10 ≠ 0 then (10 - 1) else 29))) 4 (nI (kp - 1)))) 11 (va_cpy (σ 39) (σ 11) (3 + 3 + 10) 0 24) = sr (sr (sr (sr σ 4 (upr (σ 39) 10 (σ 4))) 11 (va_cpy (σ 39) (σ 11) (3 + 3 + 10) 0 24)) 15 (va_cpy (σ 39) (σ 15) 3 0 3)) 0 (upd (upd (upd (upd (upd (σ 0) 0 (σ 39 0)) 1 (σ 39 1)) 2 (σ 39 2)) 3 (nI (if 10 ≠ 0 then (10 - 1) else 29))) 4 (nI (kp - 1))) := by
            funext j_ x_
            by_cases e0 : j_ = 0
            · subst e0
              by_cases y0 : x_ = 0
              · subst y0; rfl
              · by_cases y1 : x_ = 1
                · subst y1; rfl
                · by_cases y2 : x_ = 2
                  · subst y2; rfl
                  · by_cases y3 : x_ = 3
                    · subst y3; rfl
                    · by_cases y4 : x_ = 4
                      · subst y4; rfl
                      · simp [sr, upd, y0, y1, y2, y3, y4]
            · by_cases e4 : j_ = 4
              · subst e4; rfl
              · by_cases e11 : j_ = 11
                · subst e11; rfl
                · by_cases e15 : j_ = 15
                  · subst e15; rfl
                  · simp only [sr, e0, e4, e11, e15, if_false]
          rw [hst_] at hw
          refine lv_aload_n hC.1 hC.2.1 dX7_restore_143 rfl (lv_at hl 2 rfl) ?_
          refine lv_iload_n hC.1 hC.2.1 dX7_restore_144 rfl (lv_at hl 0 rfl) ?_
          refine lv_bipush (v := nI 24) hC.1 hC.2.1 dX7_restore_145 (by decide) ?_
          refine q_addN hC dX7_restore_147 ?_
          refine lv_aload_n hC.1 hC.2.1 dX7_restore_148 rfl (lv_at hl 1 rfl) ?_
          refine gf_X7_20 hC hw dX7_restore_149 ?_
          refine gf_X7_56 hC hw dX7_restore_152 ?_
          refine lv_iconst (v := nI 0) hC.1 hC.2.1 dX7_restore_155 (by decide) ?_
          refine lv_bipush (v := nI 24) hC.1 hC.2.1 dX7_restore_156 (by decide) ?_
          refine q_cpy (sp := ((3 + 3 + 10) + 24)) (dp := 0) (n := 24) 49 rfl 22 rfl (XW_s12 _) hC hw hl (by omega) (by omega) (by decide) (by decide) ⟨Nat.le_of_ble_eq_true rfl, Nat.le_of_ble_eq_true rfl⟩ wk2_182 dX7_restore_158 (fun H locs hw => ?_)
          have hw : Wst E (XW E a) (sr (sr (sr (sr (sr σ 4 (upr (σ 39) 10 (σ 4))) 11 (va_cpy (σ 39) (σ 11) (3 + 3 + 10) 0 24)) 15 (va_cpy (σ 39) (σ 15) 3 0 3)) 0 (upd (upd (upd (upd (upd (σ 0) 0 (σ 39 0)) 1 (σ 39 1)) 2 (σ 39 2)) 3 (nI (if 10 ≠ 0 then (10 - 1) else 29))) 4 (nI (kp - 1)))) 12 (va_cpy (σ 39) (σ 12) ((3 + 3 + 10) + 24) 0 24)) A s.heap H locs := hw
          have hst_ : sr (sr (sr (sr (sr σ 4 (upr (σ 39) 10 (σ 4))) 11 (va_cpy (σ 39) (σ 11) (3 + 3 + 10) 0 24)) 15 (va_cpy (σ 39) (σ 15) 3 0 3)) 0 (upd (upd (upd (upd (upd (σ 0) 0 (σ 39 0)) 1 (σ 39 1)) 2 (σ 39 2)) 3 (nI (if 10 ≠ 0 then (10 - 1) else 29))) 4 (nI (kp - 1)))) 12 (va_cpy (σ 39) (σ 12) ((3 + 3 + 10) + 24) 0 24) = sr (sr (sr (sr (sr σ 4 (upr (σ 39) 10 (σ 4))) 11 (va_cpy (σ 39) (σ 11) (3 + 3 + 10) 0 24)) 12 (va_cpy (σ 39) (σ 12) ((3 + 3 + 10) + 24) 0 24)) 15 (va_cpy (σ 39) (σ 15) 3 0 3)) 0 (upd (upd (upd (upd (upd (σ 0) 0 (σ 39 0)) 1 (σ 39 1)) 2 (σ 39 2)) 3 (nI (if 10 ≠ 0 then (10 - 1) else 29))) 4 (nI (kp - 1))) := by
            funext j_ x_
            by_cases e0 : j_ = 0
            · subst e0
              by_cases y0 : x_ = 0
              · subst y0; rfl
              · by_cases y1 : x_ = 1
                · subst y1; rfl
                · by_cases y2 : x_ = 2
                  · subst y2; rfl
                  · by_cases y3 : x_ = 3
                    · subst y3; rfl
                    · by_cases y4 : x_ = 4
                      · subst y4; rfl
                      · simp [sr, upd, y0, y1, y2, y3, y4]
            · by_cases e4 : j_ = 4
              · subst e4; rfl
              · by_cases e11 : j_ = 11
                · subst e11; rfl
                · by_cases e12 : j_ = 12
                  · subst e12; rfl
                  · by_cases e15 : j_ = 15
                    · subst e15; rfl
                    · simp only [sr, e0, e4, e11, e12, e15, if_false]
          rw [hst_] at hw
          refine lv_aload_n hC.1 hC.2.1 dX7_restore_161 rfl (lv_at hl 2 rfl) ?_
          refine lv_iload_n hC.1 hC.2.1 dX7_restore_162 rfl (lv_at hl 0 rfl) ?_
          refine lv_bipush (v := nI 48) hC.1 hC.2.1 dX7_restore_163 (by decide) ?_
          refine q_addN hC dX7_restore_165 ?_
          refine lv_aload_n hC.1 hC.2.1 dX7_restore_166 rfl (lv_at hl 1 rfl) ?_
          refine gf_X7_20 hC hw dX7_restore_167 ?_
          refine gf_X7_59 hC hw dX7_restore_170 ?_
          refine lv_iconst (v := nI 0) hC.1 hC.2.1 dX7_restore_173 (by decide) ?_
          refine lv_bipush (v := nI 24) hC.1 hC.2.1 dX7_restore_174 (by decide) ?_
          refine q_cpy (sp := ((3 + 3 + 10) + 48)) (dp := 0) (n := 24) 49 rfl 23 rfl (XW_s13 _) hC hw hl (by omega) (by omega) (by decide) (by decide) ⟨Nat.le_of_ble_eq_true rfl, Nat.le_of_ble_eq_true rfl⟩ wk2_182 dX7_restore_176 (fun H locs hw => ?_)
          have hw : Wst E (XW E a) (sr (sr (sr (sr (sr (sr σ 4 (upr (σ 39) 10 (σ 4))) 11 (va_cpy (σ 39) (σ 11) (3 + 3 + 10) 0 24)) 12 (va_cpy (σ 39) (σ 12) ((3 + 3 + 10) + 24) 0 24)) 15 (va_cpy (σ 39) (σ 15) 3 0 3)) 0 (upd (upd (upd (upd (upd (σ 0) 0 (σ 39 0)) 1 (σ 39 1)) 2 (σ 39 2)) 3 (nI (if 10 ≠ 0 then (10 - 1) else 29))) 4 (nI (kp - 1)))) 13 (va_cpy (σ 39) (σ 13) ((3 + 3 + 10) + 48) 0 24)) A s.heap H locs := hw
          have hst_ : sr (sr (sr (sr (sr (sr σ 4 (upr (σ 39) 10 (σ 4))) 11 (va_cpy (σ 39) (σ 11) (3 + 3 + 10) 0 24)) 12 (va_cpy (σ 39) (σ 12) ((3 + 3 + 10) + 24) 0 24)) 15 (va_cpy (σ 39) (σ 15) 3 0 3)) 0 (upd (upd (upd (upd (upd (σ 0) 0 (σ 39 0)) 1 (σ 39 1)) 2 (σ 39 2)) 3 (nI (if 10 ≠ 0 then (10 - 1) else 29))) 4 (nI (kp - 1)))) 13 (va_cpy (σ 39) (σ 13) ((3 + 3 + 10) + 48) 0 24) = sr (sr (sr (sr (sr (sr σ 4 (upr (σ 39) 10 (σ 4))) 11 (va_cpy (σ 39) (σ 11) (3 + 3 + 10) 0 24)) 12 (va_cpy (σ 39) (σ 12) ((3 + 3 + 10) + 24) 0 24)) 13 (va_cpy (σ 39) (σ 13) ((3 + 3 + 10) + 48) 0 24)) 15 (va_cpy (σ 39) (σ 15) 3 0 3)) 0 (upd (upd (upd (upd (upd (σ 0) 0 (σ 39 0)) 1 (σ 39 1)) 2 (σ 39 2)) 3 (nI (if 10 ≠ 0 then (10 - 1) else 29))) 4 (nI (kp - 1))) := by
            funext j_ x_
            by_cases e0 : j_ = 0
            · subst e0
              by_cases y0 : x_ = 0
              · subst y0; rfl
              · by_cases y1 : x_ = 1
                · subst y1; rfl
                · by_cases y2 : x_ = 2
                  · subst y2; rfl
                  · by_cases y3 : x_ = 3
                    · subst y3; rfl
                    · by_cases y4 : x_ = 4
                      · subst y4; rfl
                      · simp [sr, upd, y0, y1, y2, y3, y4]
            · by_cases e4 : j_ = 4
              · subst e4; rfl
              · by_cases e11 : j_ = 11
                · subst e11; rfl
                · by_cases e12 : j_ = 12
                  · subst e12; rfl
                  · by_cases e13 : j_ = 13
                    · subst e13; rfl
                    · by_cases e15 : j_ = 15
                      · subst e15; rfl
                      · simp only [sr, e0, e4, e11, e12, e13, e15, if_false]
          rw [hst_] at hw
          refine lv_aload_n hC.1 hC.2.1 dX7_restore_179 rfl (lv_at hl 2 rfl) ?_
          refine lv_iload_n hC.1 hC.2.1 dX7_restore_180 rfl (lv_at hl 0 rfl) ?_
          refine lv_bipush (v := nI 72) hC.1 hC.2.1 dX7_restore_181 (by decide) ?_
          refine q_addN hC dX7_restore_183 ?_
          refine lv_aload_n hC.1 hC.2.1 dX7_restore_184 rfl (lv_at hl 1 rfl) ?_
          refine gf_X7_20 hC hw dX7_restore_185 ?_
          refine gf_X7_62 hC hw dX7_restore_188 ?_
          refine lv_iconst (v := nI 0) hC.1 hC.2.1 dX7_restore_191 (by decide) ?_
          refine lv_bipush (v := nI 24) hC.1 hC.2.1 dX7_restore_192 (by decide) ?_
          refine q_cpy (sp := ((3 + 3 + 10) + 72)) (dp := 0) (n := 24) 49 rfl 24 rfl (XW_s14 _) hC hw hl (by omega) (by omega) (by decide) (by decide) ⟨Nat.le_of_ble_eq_true rfl, Nat.le_of_ble_eq_true rfl⟩ wk2_182 dX7_restore_194 (fun H locs hw => ?_)
          have hw : Wst E (XW E a) (sr (sr (sr (sr (sr (sr (sr σ 4 (upr (σ 39) 10 (σ 4))) 11 (va_cpy (σ 39) (σ 11) (3 + 3 + 10) 0 24)) 12 (va_cpy (σ 39) (σ 12) ((3 + 3 + 10) + 24) 0 24)) 13 (va_cpy (σ 39) (σ 13) ((3 + 3 + 10) + 48) 0 24)) 15 (va_cpy (σ 39) (σ 15) 3 0 3)) 0 (upd (upd (upd (upd (upd (σ 0) 0 (σ 39 0)) 1 (σ 39 1)) 2 (σ 39 2)) 3 (nI (if 10 ≠ 0 then (10 - 1) else 29))) 4 (nI (kp - 1)))) 14 (va_cpy (σ 39) (σ 14) ((3 + 3 + 10) + 72) 0 24)) A s.heap H locs := hw
          have hst_ : sr (sr (sr (sr (sr (sr (sr σ 4 (upr (σ 39) 10 (σ 4))) 11 (va_cpy (σ 39) (σ 11) (3 + 3 + 10) 0 24)) 12 (va_cpy (σ 39) (σ 12) ((3 + 3 + 10) + 24) 0 24)) 13 (va_cpy (σ 39) (σ 13) ((3 + 3 + 10) + 48) 0 24)) 15 (va_cpy (σ 39) (σ 15) 3 0 3)) 0 (upd (upd (upd (upd (upd (σ 0) 0 (σ 39 0)) 1 (σ 39 1)) 2 (σ 39 2)) 3 (nI (if 10 ≠ 0 then (10 - 1) else 29))) 4 (nI (kp - 1)))) 14 (va_cpy (σ 39) (σ 14) ((3 + 3 + 10) + 72) 0 24) = sr (sr (sr (sr (sr (sr (sr σ 4 (upr (σ 39) 10 (σ 4))) 11 (va_cpy (σ 39) (σ 11) (3 + 3 + 10) 0 24)) 12 (va_cpy (σ 39) (σ 12) ((3 + 3 + 10) + 24) 0 24)) 13 (va_cpy (σ 39) (σ 13) ((3 + 3 + 10) + 48) 0 24)) 14 (va_cpy (σ 39) (σ 14) ((3 + 3 + 10) + 72) 0 24)) 15 (va_cpy (σ 39) (σ 15) 3 0 3)) 0 (upd (upd (upd (upd (upd (σ 0) 0 (σ 39 0)) 1 (σ 39 1)) 2 (σ 39 2)) 3 (nI (if 10 ≠ 0 then (10 - 1) else 29))) 4 (nI (kp - 1))) := by
            funext j_ x_
            by_cases e0 : j_ = 0
            · subst e0
              by_cases y0 : x_ = 0
              · subst y0; rfl
              · by_cases y1 : x_ = 1
                · subst y1; rfl
                · by_cases y2 : x_ = 2
                  · subst y2; rfl
                  · by_cases y3 : x_ = 3
                    · subst y3; rfl
                    · by_cases y4 : x_ = 4
                      · subst y4; rfl
                      · simp [sr, upd, y0, y1, y2, y3, y4]
            · by_cases e4 : j_ = 4
              · subst e4; rfl
              · by_cases e11 : j_ = 11
                · subst e11; rfl
                · by_cases e12 : j_ = 12
                  · subst e12; rfl
                  · by_cases e13 : j_ = 13
                    · subst e13; rfl
                    · by_cases e14 : j_ = 14
                      · subst e14; rfl
                      · by_cases e15 : j_ = 15
                        · subst e15; rfl
                        · simp only [sr, e0, e4, e11, e12, e13, e14, e15, if_false]
          rw [hst_] at hw
          refine hret _ _ _ _ _ hw ?_ dX7_restore_197
          exact rfl
        · refine lv_aload_n hC.1 hC.2.1 dX7_restore_96 rfl (lv_at hl 0 rfl) ?_
          refine gf_X7_16 hC hw dX7_restore_97 ?_
          refine gf_X7_49 hC hw dX7_restore_100 ?_
          refine lv_iload_n hC.1 hC.2.1 dX7_restore_103 rfl (lv_at hl 3 rfl) ?_
          refine lv_aload_n hC.1 hC.2.1 dX7_restore_104 rfl (lv_at hl 1 rfl) ?_
          refine lv_iload_n hC.1 hC.2.1 dX7_restore_105 rfl (lv_at hl 2 rfl) ?_
          refine lv_iload_n hC.1 hC.2.1 dX7_restore_106 rfl (lv_at hl 3 rfl) ?_
          refine q_addN hC dX7_restore_107 ?_
          refine q_ald (Wf := XW E a) (v := σ 39 ((3 + 3) + h)) 49 rfl (by decide) hC hw (by omega) rfl dX7_restore_108 ?_
          refine lv_iconst (v := nI 1) hC.1 hC.2.1 dX7_restore_109 (by decide) ?_
          have J118_6 : ∀ (w5 : Int32), w5 = (if (σ 39 ((3 + 3) + h)) = 1 then (1 : Int32) else 0) → ∀ (H : Heap) (locs : List Loc) (ls : Array Slot), Wst E (XW E a) (sr (sr (sr σ 4 (upr (σ 39) h (σ 4))) 15 (va_cpy (σ 39) (σ 15) 3 0 3)) 0 (upd (upd (upd (upd (upd (σ 0) 0 (σ 39 0)) 1 (σ 39 1)) 2 (σ 39 2)) 3 (nI (if 10 ≠ 0 then (10 - 1) else 29))) 4 (nI (kp - 1)))) A s.heap H locs → lv_has ls 4 [(0, .ref (a 68)), (1, .ref (a 39)), (2, .int (nI (3 + 3))), (3, .int (nI h))] → W p l e ({ frames := 1, cells := 0, slots := 0, locals := 24 }) s m args below meth c H locs 0 0 Q (F0 m 118 ls [.int (w5), .int (nI h), .ref (a 4)]) := by
            intro w5 e6 H locs ls hw hl
            subst e6
            refine as_X4 hC hw (by omega) vz_B dX7_restore_118 (fun H locs hw => ?_)
            have hw : Wst E (XW E a) (sr (sr (sr (sr σ 4 (upr (σ 39) h (σ 4))) 15 (va_cpy (σ 39) (σ 15) 3 0 3)) 0 (upd (upd (upd (upd (upd (σ 0) 0 (σ 39 0)) 1 (σ 39 1)) 2 (σ 39 2)) 3 (nI (if 10 ≠ 0 then (10 - 1) else 29))) 4 (nI (kp - 1)))) 4 (upd (upr (σ 39) h (σ 4)) h (if (σ 39 ((3 + 3) + h)) = 1 then (1 : Int32) else 0))) A s.heap H locs := hw
            have hst_ : sr (sr (sr (sr σ 4 (upr (σ 39) h (σ 4))) 15 (va_cpy (σ 39) (σ 15) 3 0 3)) 0 (upd (upd (upd (upd (upd (σ 0) 0 (σ 39 0)) 1 (σ 39 1)) 2 (σ 39 2)) 3 (nI (if 10 ≠ 0 then (10 - 1) else 29))) 4 (nI (kp - 1)))) 4 (upd (upr (σ 39) h (σ 4)) h (if (σ 39 ((3 + 3) + h)) = 1 then (1 : Int32) else 0)) = sr (sr (sr σ 4 (upd (upr (σ 39) h (σ 4)) h (if (σ 39 ((3 + 3) + h)) = 1 then (1 : Int32) else 0))) 15 (va_cpy (σ 39) (σ 15) 3 0 3)) 0 (upd (upd (upd (upd (upd (σ 0) 0 (σ 39 0)) 1 (σ 39 1)) 2 (σ 39 2)) 3 (nI (if 10 ≠ 0 then (10 - 1) else 29))) 4 (nI (kp - 1))) := by
              funext j_ x_
              by_cases e0 : j_ = 0
              · subst e0
                by_cases y0 : x_ = 0
                · subst y0; rfl
                · by_cases y1 : x_ = 1
                  · subst y1; rfl
                  · by_cases y2 : x_ = 2
                    · subst y2; rfl
                    · by_cases y3 : x_ = 3
                      · subst y3; rfl
                      · by_cases y4 : x_ = 4
                        · subst y4; rfl
                        · simp [sr, upd, y0, y1, y2, y3, y4]
              · by_cases e4 : j_ = 4
                · subst e4; rfl
                · by_cases e15 : j_ = 15
                  · subst e15; rfl
                  · simp only [sr, e0, e4, e15, if_false]
            rw [hst_] at hw
            refine lv_iinc (v := nI (h + 1)) (lv' := [(3, .int (nI (h + 1))), (0, .ref (a 68)), (1, .ref (a 39)), (2, .int (nI (3 + 3)))]) hC.1 hC.2.1 dX7_restore_119 hl (k := 3) rfl (nI_add _ _) (by decide) rfl (fun ls hl => ?_)
            refine lv_goto (tgt := 90) hC.1 hC.2.1 dX7_restore_122 (by decide) ?_
            rw [upr_s] at hw
            exact ih90 (h + 1) (by omega) (by omega) _ _ _ hw (lv_sub hl [1, 2, 3, 0] rfl)
          refine q_cmpne hC 117 cI dX7_restore_110 (by decide) (fun (c7 : ¬ ((σ 39 ((3 + 3) + h)) = 1)) => ?_) (fun (c7 : (σ 39 ((3 + 3) + h)) = 1) => ?_)
          · refine lv_iconst (v := nI 0) hC.1 hC.2.1 dX7_restore_117 (by decide) ?_
            exact J118_6 _ (if_neg c7).symm _ _ _ hw (lv_sub hl [0, 1, 2, 3] rfl)
          · refine lv_iconst (v := nI 1) hC.1 hC.2.1 dX7_restore_113 (by decide) ?_
            refine lv_goto (tgt := 118) hC.1 hC.2.1 dX7_restore_114 (by decide) ?_
            exact J118_6 _ (if_pos c7).symm _ _ _ hw (lv_sub hl [0, 1, 2, 3] rfl)
    have hst_ : sr (sr σ 15 (va_cpy (σ 39) (σ 15) 3 0 3)) 0 (upd (upd (upd (upd (upd (σ 0) 0 (σ 39 0)) 1 (σ 39 1)) 2 (σ 39 2)) 3 (nI (if 10 ≠ 0 then (10 - 1) else 29))) 4 (nI (kp - 1))) = sr (sr (sr σ 4 (upr (σ 39) 0 (σ 4))) 15 (va_cpy (σ 39) (σ 15) 3 0 3)) 0 (upd (upd (upd (upd (upd (σ 0) 0 (σ 39 0)) 1 (σ 39 1)) 2 (σ 39 2)) 3 (nI (if 10 ≠ 0 then (10 - 1) else 29))) 4 (nI (kp - 1))) := by
      funext j_ x_
      by_cases e0 : j_ = 0
      · subst e0
        by_cases y0 : x_ = 0
        · subst y0; rfl
        · by_cases y1 : x_ = 1
          · subst y1; rfl
          · by_cases y2 : x_ = 2
            · subst y2; rfl
            · by_cases y3 : x_ = 3
              · subst y3; rfl
              · by_cases y4 : x_ = 4
                · subst y4; rfl
                · simp [sr, upd, y0, y1, y2, y3, y4]
      · by_cases e4 : j_ = 4
        · subst e4; show σ 4 x_ = upr (σ 39) 0 (σ 4) x_; rw [upr_0]
        · by_cases e15 : j_ = 15
          · subst e15; rfl
          · simp only [sr, e0, e4, e15, if_false]
    rw [hst_] at hw
    exact L90_2 _ 0 (by omega) (Nat.lt_succ_self _) _ _ _ hw (lv_sub hl [3, 2, 1, 0] rfl)
  refine q_ifne hC 13 (cN0 (by omega)) dX7_restore_5 (by decide) (fun (c8 : 10 ≠ 0) => ?_) (fun (c8 : 10 = 0) => ?_)
  · refine lv_aload_n hC.1 hC.2.1 dX7_restore_13 rfl (lv_at hl 0 rfl) ?_
    refine gf_X7_28 (v := nI 10) hC hw hnx dX7_restore_14 ?_
    refine lv_iconst (v := nI 1) hC.1 hC.2.1 dX7_restore_17 (by decide) ?_
    refine q_subN hC (by omega) dX7_restore_18 ?_
    exact J19_2 _ (by (rw [if_pos c8]) <;> rfl) _ _ _ hw (lv_sub hl [0] rfl)
  · refine lv_bipush (v := nI 29) hC.1 hC.2.1 dX7_restore_8 (by decide) ?_
    refine lv_goto (tgt := 19) hC.1 hC.2.1 dX7_restore_10 (by decide) ?_
    exact J19_2 _ (by (rw [if_neg (fun q => q c8)]) <;> rfl) _ _ _ hw (lv_sub hl [0] rfl)
set_option maxHeartbeats 4000000 in
set_option maxRecDepth 100000 in
theorem tX7_restore_k11 (l : Launch) (E : EV) (a : Nat → Nat) (σ : St) (kp : Nat) (hnx : σ 0 3 = nI 11) (hkp : σ 0 4 = nI kp) (hk30 : kp ≤ 30) (hk1 : 1 ≤ kp) : MV l E (XW E a) yX7_restore (Cond.code yX7_restore cX7_restore 4 none) ({ frames := 1, cells := 0, slots := 0, locals := 24 }) [.ref (a 68)] σ (fun u_ => u_ = sr (sr (sr (sr (sr (sr (sr σ 4 (upr (σ 40) 10 (σ 4))) 11 (va_cpy (σ 40) (σ 11) 16 0 24)) 12 (va_cpy (σ 40) (σ 12) 40 0 24)) 13 (va_cpy (σ 40) (σ 13) 64 0 24)) 14 (va_cpy (σ 40) (σ 14) 88 0 24)) 15 (va_cpy (σ 40) (σ 15) 3 0 3)) 0 (upd (upd (upd (upd (upd (σ 0) 0 ((σ 40) 0)) 1 ((σ 40) 1)) 2 ((σ 40) 2)) 3 (nI (if 11 ≠ 0 then 11 - 1 else 29))) 4 (nI (kp - 1)))) := by
  refine MV.mk (by decide +kernel) (Nat.le_of_ble_eq_true rfl) ?_
  intro p e s m args below meth c ls A Q hret hC hw hl
  have hC : Cxt E p s m args meth c cX7_restore 4 none RX7 A := hC
  have hl : lv_has ls 4 [(0, .ref (a 68))] := hl
  refine lv_aload_n hC.1 hC.2.1 dX7_restore_0 rfl (lv_at hl 0 rfl) ?_
  refine lv_aload_n hC.1 hC.2.1 dX7_restore_1 rfl (lv_at hl 0 rfl) ?_
  refine gf_X7_28 (v := nI 11) hC hw hnx dX7_restore_2 ?_
  have J19_2 : ∀ (w1 : Nat), w1 = (if 11 ≠ 0 then (11 - 1) else 29) → ∀ (H : Heap) (locs : List Loc) (ls : Array Slot), Wst E (XW E a) (σ) A s.heap H locs → lv_has ls 4 [(0, .ref (a 68))] → W p l e ({ frames := 1, cells := 0, slots := 0, locals := 24 }) s m args below meth c H locs 0 0 Q (F0 m 19 ls [.int (nI w1), .ref (a 68)]) := by
    intro w1 e2 H locs ls hw hl
    subst e2
    refine pf_X7_28 hC hw dX7_restore_19 (fun H locs hw => ?_)
    have hw : Wst E (XW E a) (sr σ 0 (upd (σ 0) 3 (nI (if 11 ≠ 0 then (11 - 1) else 29)))) A s.heap H locs := hw
    refine lv_aload_n hC.1 hC.2.1 dX7_restore_22 rfl (lv_at hl 0 rfl) ?_
    refine lv_dup hC.1 hC.2.1 dX7_restore_23 rfl ?_
    refine gf_X7_65 (v := nI kp) hC hw hkp dX7_restore_24 ?_
    refine lv_iconst (v := nI 1) hC.1 hC.2.1 dX7_restore_27 (by decide) ?_
    refine q_subN hC (by omega) dX7_restore_28 ?_
    refine pf_X7_65 hC hw dX7_restore_29 (fun H locs hw => ?_)
    have hw : Wst E (XW E a) (sr (sr σ 0 (upd (σ 0) 3 (nI (if 11 ≠ 0 then (11 - 1) else 29)))) 0 (upd (upd (σ 0) 3 (nI (if 11 ≠ 0 then (11 - 1) else 29))) 4 (nI (kp - 1)))) A s.heap H locs := hw
    have hst_ : sr (sr σ 0 (upd (σ 0) 3 (nI (if 11 ≠ 0 then (11 - 1) else 29)))) 0 (upd (upd (σ 0) 3 (nI (if 11 ≠ 0 then (11 - 1) else 29))) 4 (nI (kp - 1))) = sr σ 0 (upd (upd (σ 0) 3 (nI (if 11 ≠ 0 then (11 - 1) else 29))) 4 (nI (kp - 1))) := by
      funext j_ x_
      by_cases e0 : j_ = 0
      · subst e0
        by_cases y3 : x_ = 3
        · subst y3; rfl
        · by_cases y4 : x_ = 4
          · subst y4; rfl
          · simp [sr, upd, y3, y4]
      · simp only [sr, e0, if_false]
    rw [hst_] at hw
    refine lv_aload_n hC.1 hC.2.1 dX7_restore_32 rfl (lv_at hl 0 rfl) ?_
    refine gf_X7_13 hC hw dX7_restore_33 ?_
    refine lv_aload_n hC.1 hC.2.1 dX7_restore_36 rfl (lv_at hl 0 rfl) ?_
    refine gf_X7_28 (v := nI (if 11 ≠ 0 then (11 - 1) else 29)) hC hw rfl dX7_restore_37 ?_
    refine q_top (y := nI 10) rfl ?_
    refine q_aald hC hw (i := 10) (by decide) dX7_restore_40 ?_
    refine lv_astore_n (lv' := [(1, .ref (a 40)), (0, .ref (a 68))]) hC.1 hC.2.1 dX7_restore_41 rfl hl (by decide) rfl (fun ls hl => ?_)
    refine lv_aload_n hC.1 hC.2.1 dX7_restore_42 rfl (lv_at hl 1 rfl) ?_
    refine gf_X7_16 hC hw dX7_restore_43 ?_
    refine lv_aload_n hC.1 hC.2.1 dX7_restore_46 rfl (lv_at hl 0 rfl) ?_
    refine lv_iconst (v := nI 0) hC.1 hC.2.1 dX7_restore_47 (by decide) ?_
    refine q_ald (Wf := XW E a) (v := σ 40 0) 50 rfl (by decide) hC hw (by omega) rfl dX7_restore_48 ?_
    refine pf_X7_32 hC hw dX7_restore_49 (fun H locs hw => ?_)
    have hw : Wst E (XW E a) (sr (sr σ 0 (upd (upd (σ 0) 3 (nI (if 11 ≠ 0 then (11 - 1) else 29))) 4 (nI (kp - 1)))) 0 (upd (upd (upd (σ 0) 3 (nI (if 11 ≠ 0 then (11 - 1) else 29))) 4 (nI (kp - 1))) 0 (σ 40 0))) A s.heap H locs := hw
    have hst_ : sr (sr σ 0 (upd (upd (σ 0) 3 (nI (if 11 ≠ 0 then (11 - 1) else 29))) 4 (nI (kp - 1)))) 0 (upd (upd (upd (σ 0) 3 (nI (if 11 ≠ 0 then (11 - 1) else 29))) 4 (nI (kp - 1))) 0 (σ 40 0)) = sr σ 0 (upd (upd (upd (σ 0) 0 (σ 40 0)) 3 (nI (if 11 ≠ 0 then (11 - 1) else 29))) 4 (nI (kp - 1))) := by
      funext j_ x_
      by_cases e0 : j_ = 0
      · subst e0
        by_cases y0 : x_ = 0
        · subst y0; rfl
        · by_cases y3 : x_ = 3
          · subst y3; rfl
          · by_cases y4 : x_ = 4
            · subst y4; rfl
            · simp [sr, upd, y0, y3, y4]
      · simp only [sr, e0, if_false]
    rw [hst_] at hw
    refine lv_aload_n hC.1 hC.2.1 dX7_restore_52 rfl (lv_at hl 1 rfl) ?_
    refine gf_X7_20 hC hw dX7_restore_53 ?_
    refine lv_aload_n hC.1 hC.2.1 dX7_restore_56 rfl (lv_at hl 0 rfl) ?_
    refine lv_iconst (v := nI 1) hC.1 hC.2.1 dX7_restore_57 (by decide) ?_
    refine q_ald (Wf := XW E a) (v := σ 40 1) 50 rfl (by decide) hC hw (by omega) rfl dX7_restore_58 ?_
    refine pf_X7_37 hC hw dX7_restore_59 (fun H locs hw => ?_)
    have hw : Wst E (XW E a) (sr (sr σ 0 (upd (upd (upd (σ 0) 0 (σ 40 0)) 3 (nI (if 11 ≠ 0 then (11 - 1) else 29))) 4 (nI (kp - 1)))) 0 (upd (upd (upd (upd (σ 0) 0 (σ 40 0)) 3 (nI (if 11 ≠ 0 then (11 - 1) else 29))) 4 (nI (kp - 1))) 1 (σ 40 1))) A s.heap H locs := hw
    have hst_ : sr (sr σ 0 (upd (upd (upd (σ 0) 0 (σ 40 0)) 3 (nI (if 11 ≠ 0 then (11 - 1) else 29))) 4 (nI (kp - 1)))) 0 (upd (upd (upd (upd (σ 0) 0 (σ 40 0)) 3 (nI (if 11 ≠ 0 then (11 - 1) else 29))) 4 (nI (kp - 1))) 1 (σ 40 1)) = sr σ 0 (upd (upd (upd (upd (σ 0) 0 (σ 40 0)) 1 (σ 40 1)) 3 (nI (if 11 ≠ 0 then (11 - 1) else 29))) 4 (nI (kp - 1))) := by
      funext j_ x_
      by_cases e0 : j_ = 0
      · subst e0
        by_cases y0 : x_ = 0
        · subst y0; rfl
        · by_cases y1 : x_ = 1
          · subst y1; rfl
          · by_cases y3 : x_ = 3
            · subst y3; rfl
            · by_cases y4 : x_ = 4
              · subst y4; rfl
              · simp [sr, upd, y0, y1, y3, y4]
      · simp only [sr, e0, if_false]
    rw [hst_] at hw
    refine lv_aload_n hC.1 hC.2.1 dX7_restore_62 rfl (lv_at hl 1 rfl) ?_
    refine gf_X7_20 hC hw dX7_restore_63 ?_
    refine lv_aload_n hC.1 hC.2.1 dX7_restore_66 rfl (lv_at hl 0 rfl) ?_
    refine lv_iconst (v := nI 2) hC.1 hC.2.1 dX7_restore_67 (by decide) ?_
    refine q_ald (Wf := XW E a) (v := σ 40 2) 50 rfl (by decide) hC hw (by omega) rfl dX7_restore_68 ?_
    refine pf_X7_40 hC hw dX7_restore_69 (fun H locs hw => ?_)
    have hw : Wst E (XW E a) (sr (sr σ 0 (upd (upd (upd (upd (σ 0) 0 (σ 40 0)) 1 (σ 40 1)) 3 (nI (if 11 ≠ 0 then (11 - 1) else 29))) 4 (nI (kp - 1)))) 0 (upd (upd (upd (upd (upd (σ 0) 0 (σ 40 0)) 1 (σ 40 1)) 3 (nI (if 11 ≠ 0 then (11 - 1) else 29))) 4 (nI (kp - 1))) 2 (σ 40 2))) A s.heap H locs := hw
    have hst_ : sr (sr σ 0 (upd (upd (upd (upd (σ 0) 0 (σ 40 0)) 1 (σ 40 1)) 3 (nI (if 11 ≠ 0 then (11 - 1) else 29))) 4 (nI (kp - 1)))) 0 (upd (upd (upd (upd (upd (σ 0) 0 (σ 40 0)) 1 (σ 40 1)) 3 (nI (if 11 ≠ 0 then (11 - 1) else 29))) 4 (nI (kp - 1))) 2 (σ 40 2)) = sr σ 0 (upd (upd (upd (upd (upd (σ 0) 0 (σ 40 0)) 1 (σ 40 1)) 2 (σ 40 2)) 3 (nI (if 11 ≠ 0 then (11 - 1) else 29))) 4 (nI (kp - 1))) := by
      funext j_ x_
      by_cases e0 : j_ = 0
      · subst e0
        by_cases y0 : x_ = 0
        · subst y0; rfl
        · by_cases y1 : x_ = 1
          · subst y1; rfl
          · by_cases y2 : x_ = 2
            · subst y2; rfl
            · by_cases y3 : x_ = 3
              · subst y3; rfl
              · by_cases y4 : x_ = 4
                · subst y4; rfl
                · simp [sr, upd, y0, y1, y2, y3, y4]
      · simp only [sr, e0, if_false]
    rw [hst_] at hw
    refine lv_iconst (v := nI 3) hC.1 hC.2.1 dX7_restore_72 (by decide) ?_
    refine lv_istore_n (lv' := [(2, .int (nI 3)), (1, .ref (a 40)), (0, .ref (a 68))]) hC.1 hC.2.1 dX7_restore_73 rfl hl (by decide) rfl (fun ls hl => ?_)
    refine lv_aload_n hC.1 hC.2.1 dX7_restore_74 rfl (lv_at hl 1 rfl) ?_
    refine lv_iload_n hC.1 hC.2.1 dX7_restore_75 rfl (lv_at hl 0 rfl) ?_
    refine lv_aload_n hC.1 hC.2.1 dX7_restore_76 rfl (lv_at hl 2 rfl) ?_
    refine gf_X7_24 hC hw dX7_restore_77 ?_
    refine lv_iconst (v := nI 0) hC.1 hC.2.1 dX7_restore_80 (by decide) ?_
    refine lv_iconst (v := nI 3) hC.1 hC.2.1 dX7_restore_81 (by decide) ?_
    refine q_cpy (sp := 3) (dp := 0) (n := 3) 50 rfl 25 rfl (XW_s15 _) hC hw hl (by omega) (by omega) (by decide) (by decide) ⟨Nat.le_of_ble_eq_true rfl, Nat.le_of_ble_eq_true rfl⟩ wk2_182 dX7_restore_82 (fun H locs hw => ?_)
    have hw : Wst E (XW E a) (sr (sr σ 0 (upd (upd (upd (upd (upd (σ 0) 0 (σ 40 0)) 1 (σ 40 1)) 2 (σ 40 2)) 3 (nI (if 11 ≠ 0 then (11 - 1) else 29))) 4 (nI (kp - 1)))) 15 (va_cpy (σ 40) (σ 15) 3 0 3)) A s.heap H locs := hw
    have hst_ : sr (sr σ 0 (upd (upd (upd (upd (upd (σ 0) 0 (σ 40 0)) 1 (σ 40 1)) 2 (σ 40 2)) 3 (nI (if 11 ≠ 0 then (11 - 1) else 29))) 4 (nI (kp - 1)))) 15 (va_cpy (σ 40) (σ 15) 3 0 3) = sr (sr σ 15 (va_cpy (σ 40) (σ 15) 3 0 3)) 0 (upd (upd (upd (upd (upd (σ 0) 0 (σ 40 0)) 1 (σ 40 1)) 2 (σ 40 2)) 3 (nI (if 11 ≠ 0 then (11 - 1) else 29))) 4 (nI (kp - 1))) := by
      funext j_ x_
      by_cases e0 : j_ = 0
      · subst e0
        by_cases y0 : x_ = 0
        · subst y0; rfl
        · by_cases y1 : x_ = 1
          · subst y1; rfl
          · by_cases y2 : x_ = 2
            · subst y2; rfl
            · by_cases y3 : x_ = 3
              · subst y3; rfl
              · by_cases y4 : x_ = 4
                · subst y4; rfl
                · simp [sr, upd, y0, y1, y2, y3, y4]
      · by_cases e15 : j_ = 15
        · subst e15; rfl
        · simp only [sr, e0, e15, if_false]
    rw [hst_] at hw
    refine lv_iinc (v := nI (3 + 3)) (lv' := [(2, .int (nI (3 + 3))), (1, .ref (a 40)), (0, .ref (a 68))]) hC.1 hC.2.1 dX7_restore_85 hl (k := 0) rfl (nI_add _ _) (by decide) rfl (fun ls hl => ?_)
    refine lv_iconst (v := nI 0) hC.1 hC.2.1 dX7_restore_88 (by decide) ?_
    refine lv_istore_n (lv' := [(3, .int (nI 0)), (2, .int (nI (3 + 3))), (1, .ref (a 40)), (0, .ref (a 68))]) hC.1 hC.2.1 dX7_restore_89 rfl hl (by decide) rfl (fun ls hl => ?_)
    have L90_2 : ∀ (n : Nat), ∀ (h : Nat), (h ≤ 10) → (10 - h) < n → ∀ (H : Heap) (locs : List Loc) (ls : Array Slot), Wst E (XW E a) (sr (sr (sr σ 4 (upr (σ 40) h (σ 4))) 15 (va_cpy (σ 40) (σ 15) 3 0 3)) 0 (upd (upd (upd (upd (upd (σ 0) 0 (σ 40 0)) 1 (σ 40 1)) 2 (σ 40 2)) 3 (nI (if 11 ≠ 0 then (11 - 1) else 29))) 4 (nI (kp - 1)))) A s.heap H locs → lv_has ls 4 [(0, .ref (a 68)), (1, .ref (a 40)), (2, .int (nI (3 + 3))), (3, .int (nI h))] → W p l e ({ frames := 1, cells := 0, slots := 0, locals := 24 }) s m args below meth c H locs 0 0 Q (F0 m 90 ls []) := by
      intro n
      induction n with
      | zero => intro h hh hn; exact absurd hn (Nat.not_lt_zero _)
      | succ n ih90 =>
        intro h hh hn90 H locs ls hw hl
        refine lv_iload_n hC.1 hC.2.1 dX7_restore_90 rfl (lv_at hl 3 rfl) ?_
        refine lv_bipush (v := nI 10) hC.1 hC.2.1 dX7_restore_91 (by decide) ?_
        refine q_cmpge hC 125 (cNle (by omega) (by omega)) dX7_restore_93 (by decide) (fun (c4 : 10 ≤ h) => ?_) (fun (c4 : h < 10) => ?_)
        · have hh9 : h = 10 := by omega
          rw [hh9] at hw
          refine lv_iinc (v := nI (3 + 3 + 10)) (lv' := [(2, .int (nI (3 + 3 + 10))), (0, .ref (a 68)), (1, .ref (a 40)), (3, .int (nI h))]) hC.1 hC.2.1 dX7_restore_125 hl (k := 2) rfl (nI_add _ _) (by decide) rfl (fun ls hl => ?_)
          refine lv_aload_n hC.1 hC.2.1 dX7_restore_128 rfl (lv_at hl 2 rfl) ?_
          refine lv_iload_n hC.1 hC.2.1 dX7_restore_129 rfl (lv_at hl 0 rfl) ?_
          refine lv_aload_n hC.1 hC.2.1 dX7_restore_130 rfl (lv_at hl 1 rfl) ?_
          refine gf_X7_20 hC hw dX7_restore_131 ?_
          refine gf_X7_53 hC hw dX7_restore_134 ?_
          refine lv_iconst (v := nI 0) hC.1 hC.2.1 dX7_restore_137 (by decide) ?_
          refine lv_bipush (v := nI 24) hC.1 hC.2.1 dX7_restore_138 (by decide) ?_
          refine q_cpy (sp := (3 + 3 + 10)) (dp := 0) (n := 24) 50 rfl 21 rfl (XW_s11 _) hC hw hl (by omega) (by omega) (by decide) (by decide) ⟨Nat.le_of_ble_eq_true rfl, Nat.le_of_ble_eq_true rfl⟩ wk2_182 dX7_restore_140 (fun H locs hw => ?_)
          have hw : Wst E (XW E a) (sr (sr (sr (sr σ 4 (upr (σ 40) 10 (σ 4))) 15 (va_cpy (σ 40) (σ 15) 3 0 3)) 0 (upd (upd (upd (upd (upd (σ 0) 0 (σ 40 0)) 1 (σ 40 1)) 2 (σ 40 2)) 3 (nI (if 11 ≠ 0 then (11 - 1) else 29))) 4 (nI (kp - 1)))) 11 (va_cpy (σ 40) (σ 11) (3 + 3 + 10) 0 24)) A s.heap H locs := hw
          have hst_ : sr (sr (sr (sr σ 4 (upr (σ 40) 10 (σ 4))) 15 (va_cpy (σ 40) (σ 15) 3 0 3)) 0 (upd (upd (upd (upd (upd (σ 0) 0 (σ 40 0)) 1 (σ 40 1)) 2 (σ 40 2)) 3 (nI (if 11 ≠ 0 then (11 - 1) else 29))) 4 (nI (kp - 1)))) 11 (va_cpy (σ 40) (σ 11) (3 + 3 + 10) 0 24) = sr (sr (sr (sr σ 4 (upr (σ 40) 10 (σ 4))) 11 (va_cpy (σ 40) (σ 11) (3 + 3 + 10) 0 24)) 15 (va_cpy (σ 40) (σ 15) 3 0 3)) 0 (upd (upd (upd (upd (upd (σ 0) 0 (σ 40 0)) 1 (σ 40 1)) 2 (σ 40 2)) 3 (nI (if 11 ≠ 0 then (11 - 1) else 29))) 4 (nI (kp - 1))) := by
            funext j_ x_
            by_cases e0 : j_ = 0
            · subst e0
              by_cases y0 : x_ = 0
              · subst y0; rfl
              · by_cases y1 : x_ = 1
                · subst y1; rfl
                · by_cases y2 : x_ = 2
                  · subst y2; rfl
                  · by_cases y3 : x_ = 3
                    · subst y3; rfl
                    · by_cases y4 : x_ = 4
                      · subst y4; rfl
                      · simp [sr, upd, y0, y1, y2, y3, y4]
            · by_cases e4 : j_ = 4
              · subst e4; rfl
              · by_cases e11 : j_ = 11
                · subst e11; rfl
                · by_cases e15 : j_ = 15
                  · subst e15; rfl
                  · simp only [sr, e0, e4, e11, e15, if_false]
          rw [hst_] at hw
          refine lv_aload_n hC.1 hC.2.1 dX7_restore_143 rfl (lv_at hl 2 rfl) ?_
          refine lv_iload_n hC.1 hC.2.1 dX7_restore_144 rfl (lv_at hl 0 rfl) ?_
          refine lv_bipush (v := nI 24) hC.1 hC.2.1 dX7_restore_145 (by decide) ?_
          refine q_addN hC dX7_restore_147 ?_
          refine lv_aload_n hC.1 hC.2.1 dX7_restore_148 rfl (lv_at hl 1 rfl) ?_
          refine gf_X7_20 hC hw dX7_restore_149 ?_
          refine gf_X7_56 hC hw dX7_restore_152 ?_
          refine lv_iconst (v := nI 0) hC.1 hC.2.1 dX7_restore_155 (by decide) ?_
          refine lv_bipush (v := nI 24) hC.1 hC.2.1 dX7_restore_156 (by decide) ?_
          refine q_cpy (sp := ((3 + 3 + 10) + 24)) (dp := 0) (n := 24) 50 rfl 22 rfl (XW_s12 _) hC hw hl (by omega) (by omega) (by decide) (by decide) ⟨Nat.le_of_ble_eq_true rfl, Nat.le_of_ble_eq_true rfl⟩ wk2_182 dX7_restore_158 (fun H locs hw => ?_)
          have hw : Wst E (XW E a) (sr (sr (sr (sr (sr σ 4 (upr (σ 40) 10 (σ 4))) 11 (va_cpy (σ 40) (σ 11) (3 + 3 + 10) 0 24)) 15 (va_cpy (σ 40) (σ 15) 3 0 3)) 0 (upd (upd (upd (upd (upd (σ 0) 0 (σ 40 0)) 1 (σ 40 1)) 2 (σ 40 2)) 3 (nI (if 11 ≠ 0 then (11 - 1) else 29))) 4 (nI (kp - 1)))) 12 (va_cpy (σ 40) (σ 12) ((3 + 3 + 10) + 24) 0 24)) A s.heap H locs := hw
          have hst_ : sr (sr (sr (sr (sr σ 4 (upr (σ 40) 10 (σ 4))) 11 (va_cpy (σ 40) (σ 11) (3 + 3 + 10) 0 24)) 15 (va_cpy (σ 40) (σ 15) 3 0 3)) 0 (upd (upd (upd (upd (upd (σ 0) 0 (σ 40 0)) 1 (σ 40 1)) 2 (σ 40 2)) 3 (nI (if 11 ≠ 0 then (11 - 1) else 29))) 4 (nI (kp - 1)))) 12 (va_cpy (σ 40) (σ 12) ((3 + 3 + 10) + 24) 0 24) = sr (sr (sr (sr (sr σ 4 (upr (σ 40) 10 (σ 4))) 11 (va_cpy (σ 40) (σ 11) (3 + 3 + 10) 0 24)) 12 (va_cpy (σ 40) (σ 12) ((3 + 3 + 10) + 24) 0 24)) 15 (va_cpy (σ 40) (σ 15) 3 0 3)) 0 (upd (upd (upd (upd (upd (σ 0) 0 (σ 40 0)) 1 (σ 40 1)) 2 (σ 40 2)) 3 (nI (if 11 ≠ 0 then (11 - 1) else 29))) 4 (nI (kp - 1))) := by
            funext j_ x_
            by_cases e0 : j_ = 0
            · subst e0
              by_cases y0 : x_ = 0
              · subst y0; rfl
              · by_cases y1 : x_ = 1
                · subst y1; rfl
                · by_cases y2 : x_ = 2
                  · subst y2; rfl
                  · by_cases y3 : x_ = 3
                    · subst y3; rfl
                    · by_cases y4 : x_ = 4
                      · subst y4; rfl
                      · simp [sr, upd, y0, y1, y2, y3, y4]
            · by_cases e4 : j_ = 4
              · subst e4; rfl
              · by_cases e11 : j_ = 11
                · subst e11; rfl
                · by_cases e12 : j_ = 12
                  · subst e12; rfl
                  · by_cases e15 : j_ = 15
                    · subst e15; rfl
                    · simp only [sr, e0, e4, e11, e12, e15, if_false]
          rw [hst_] at hw
          refine lv_aload_n hC.1 hC.2.1 dX7_restore_161 rfl (lv_at hl 2 rfl) ?_
          refine lv_iload_n hC.1 hC.2.1 dX7_restore_162 rfl (lv_at hl 0 rfl) ?_
          refine lv_bipush (v := nI 48) hC.1 hC.2.1 dX7_restore_163 (by decide) ?_
          refine q_addN hC dX7_restore_165 ?_
          refine lv_aload_n hC.1 hC.2.1 dX7_restore_166 rfl (lv_at hl 1 rfl) ?_
          refine gf_X7_20 hC hw dX7_restore_167 ?_
          refine gf_X7_59 hC hw dX7_restore_170 ?_
          refine lv_iconst (v := nI 0) hC.1 hC.2.1 dX7_restore_173 (by decide) ?_
          refine lv_bipush (v := nI 24) hC.1 hC.2.1 dX7_restore_174 (by decide) ?_
          refine q_cpy (sp := ((3 + 3 + 10) + 48)) (dp := 0) (n := 24) 50 rfl 23 rfl (XW_s13 _) hC hw hl (by omega) (by omega) (by decide) (by decide) ⟨Nat.le_of_ble_eq_true rfl, Nat.le_of_ble_eq_true rfl⟩ wk2_182 dX7_restore_176 (fun H locs hw => ?_)
          have hw : Wst E (XW E a) (sr (sr (sr (sr (sr (sr σ 4 (upr (σ 40) 10 (σ 4))) 11 (va_cpy (σ 40) (σ 11) (3 + 3 + 10) 0 24)) 12 (va_cpy (σ 40) (σ 12) ((3 + 3 + 10) + 24) 0 24)) 15 (va_cpy (σ 40) (σ 15) 3 0 3)) 0 (upd (upd (upd (upd (upd (σ 0) 0 (σ 40 0)) 1 (σ 40 1)) 2 (σ 40 2)) 3 (nI (if 11 ≠ 0 then (11 - 1) else 29))) 4 (nI (kp - 1)))) 13 (va_cpy (σ 40) (σ 13) ((3 + 3 + 10) + 48) 0 24)) A s.heap H locs := hw
          have hst_ : sr (sr (sr (sr (sr (sr σ 4 (upr (σ 40) 10 (σ 4))) 11 (va_cpy (σ 40) (σ 11) (3 + 3 + 10) 0 24)) 12 (va_cpy (σ 40) (σ 12) ((3 + 3 + 10) + 24) 0 24)) 15 (va_cpy (σ 40) (σ 15) 3 0 3)) 0 (upd (upd (upd (upd (upd (σ 0) 0 (σ 40 0)) 1 (σ 40 1)) 2 (σ 40 2)) 3 (nI (if 11 ≠ 0 then (11 - 1) else 29))) 4 (nI (kp - 1)))) 13 (va_cpy (σ 40) (σ 13) ((3 + 3 + 10) + 48) 0 24) = sr (sr (sr (sr (sr (sr σ 4 (upr (σ 40) 10 (σ 4))) 11 (va_cpy (σ 40) (σ 11) (3 + 3 + 10) 0 24)) 12 (va_cpy (σ 40) (σ 12) ((3 + 3 + 10) + 24) 0 24)) 13 (va_cpy (σ 40) (σ 13) ((3 + 3 + 10) + 48) 0 24)) 15 (va_cpy (σ 40) (σ 15) 3 0 3)) 0 (upd (upd (upd (upd (upd (σ 0) 0 (σ 40 0)) 1 (σ 40 1)) 2 (σ 40 2)) 3 (nI (if 11 ≠ 0 then (11 - 1) else 29))) 4 (nI (kp - 1))) := by
            funext j_ x_
            by_cases e0 : j_ = 0
            · subst e0
              by_cases y0 : x_ = 0
              · subst y0; rfl
              · by_cases y1 : x_ = 1
                · subst y1; rfl
                · by_cases y2 : x_ = 2
                  · subst y2; rfl
                  · by_cases y3 : x_ = 3
                    · subst y3; rfl
                    · by_cases y4 : x_ = 4
                      · subst y4; rfl
                      · simp [sr, upd, y0, y1, y2, y3, y4]
            · by_cases e4 : j_ = 4
              · subst e4; rfl
              · by_cases e11 : j_ = 11
                · subst e11; rfl
                · by_cases e12 : j_ = 12
                  · subst e12; rfl
                  · by_cases e13 : j_ = 13
                    · subst e13; rfl
                    · by_cases e15 : j_ = 15
                      · subst e15; rfl
                      · simp only [sr, e0, e4, e11, e12, e13, e15, if_false]
          rw [hst_] at hw
          refine lv_aload_n hC.1 hC.2.1 dX7_restore_179 rfl (lv_at hl 2 rfl) ?_
          refine lv_iload_n hC.1 hC.2.1 dX7_restore_180 rfl (lv_at hl 0 rfl) ?_
          refine lv_bipush (v := nI 72) hC.1 hC.2.1 dX7_restore_181 (by decide) ?_
          refine q_addN hC dX7_restore_183 ?_
          refine lv_aload_n hC.1 hC.2.1 dX7_restore_184 rfl (lv_at hl 1 rfl) ?_
          refine gf_X7_20 hC hw dX7_restore_185 ?_
          refine gf_X7_62 hC hw dX7_restore_188 ?_
          refine lv_iconst (v := nI 0) hC.1 hC.2.1 dX7_restore_191 (by decide) ?_
          refine lv_bipush (v := nI 24) hC.1 hC.2.1 dX7_restore_192 (by decide) ?_
          refine q_cpy (sp := ((3 + 3 + 10) + 72)) (dp := 0) (n := 24) 50 rfl 24 rfl (XW_s14 _) hC hw hl (by omega) (by omega) (by decide) (by decide) ⟨Nat.le_of_ble_eq_true rfl, Nat.le_of_ble_eq_true rfl⟩ wk2_182 dX7_restore_194 (fun H locs hw => ?_)
          have hw : Wst E (XW E a) (sr (sr (sr (sr (sr (sr (sr σ 4 (upr (σ 40) 10 (σ 4))) 11 (va_cpy (σ 40) (σ 11) (3 + 3 + 10) 0 24)) 12 (va_cpy (σ 40) (σ 12) ((3 + 3 + 10) + 24) 0 24)) 13 (va_cpy (σ 40) (σ 13) ((3 + 3 + 10) + 48) 0 24)) 15 (va_cpy (σ 40) (σ 15) 3 0 3)) 0 (upd (upd (upd (upd (upd (σ 0) 0 (σ 40 0)) 1 (σ 40 1)) 2 (σ 40 2)) 3 (nI (if 11 ≠ 0 then (11 - 1) else 29))) 4 (nI (kp - 1)))) 14 (va_cpy (σ 40) (σ 14) ((3 + 3 + 10) + 72) 0 24)) A s.heap H locs := hw
          have hst_ : sr (sr (sr (sr (sr (sr (sr σ 4 (upr (σ 40) 10 (σ 4))) 11 (va_cpy (σ 40) (σ 11) (3 + 3 + 10) 0 24)) 12 (va_cpy (σ 40) (σ 12) ((3 + 3 + 10) + 24) 0 24)) 13 (va_cpy (σ 40) (σ 13) ((3 + 3 + 10) + 48) 0 24)) 15 (va_cpy (σ 40) (σ 15) 3 0 3)) 0 (upd (upd (upd (upd (upd (σ 0) 0 (σ 40 0)) 1 (σ 40 1)) 2 (σ 40 2)) 3 (nI (if 11 ≠ 0 then (11 - 1) else 29))) 4 (nI (kp - 1)))) 14 (va_cpy (σ 40) (σ 14) ((3 + 3 + 10) + 72) 0 24) = sr (sr (sr (sr (sr (sr (sr σ 4 (upr (σ 40) 10 (σ 4))) 11 (va_cpy (σ 40) (σ 11) (3 + 3 + 10) 0 24)) 12 (va_cpy (σ 40) (σ 12) ((3 + 3 + 10) + 24) 0 24)) 13 (va_cpy (σ 40) (σ 13) ((3 + 3 + 10) + 48) 0 24)) 14 (va_cpy (σ 40) (σ 14) ((3 + 3 + 10) + 72) 0 24)) 15 (va_cpy (σ 40) (σ 15) 3 0 3)) 0 (upd (upd (upd (upd (upd (σ 0) 0 (σ 40 0)) 1 (σ 40 1)) 2 (σ 40 2)) 3 (nI (if 11 ≠ 0 then (11 - 1) else 29))) 4 (nI (kp - 1))) := by
            funext j_ x_
            by_cases e0 : j_ = 0
            · subst e0
              by_cases y0 : x_ = 0
              · subst y0; rfl
              · by_cases y1 : x_ = 1
                · subst y1; rfl
                · by_cases y2 : x_ = 2
                  · subst y2; rfl
                  · by_cases y3 : x_ = 3
                    · subst y3; rfl
                    · by_cases y4 : x_ = 4
                      · subst y4; rfl
                      · simp [sr, upd, y0, y1, y2, y3, y4]
            · by_cases e4 : j_ = 4
              · subst e4; rfl
              · by_cases e11 : j_ = 11
                · subst e11; rfl
                · by_cases e12 : j_ = 12
                  · subst e12; rfl
                  · by_cases e13 : j_ = 13
                    · subst e13; rfl
                    · by_cases e14 : j_ = 14
                      · subst e14; rfl
                      · by_cases e15 : j_ = 15
                        · subst e15; rfl
                        · simp only [sr, e0, e4, e11, e12, e13, e14, e15, if_false]
          rw [hst_] at hw
          refine hret _ _ _ _ _ hw ?_ dX7_restore_197
          exact rfl
        · refine lv_aload_n hC.1 hC.2.1 dX7_restore_96 rfl (lv_at hl 0 rfl) ?_
          refine gf_X7_16 hC hw dX7_restore_97 ?_
          refine gf_X7_49 hC hw dX7_restore_100 ?_
          refine lv_iload_n hC.1 hC.2.1 dX7_restore_103 rfl (lv_at hl 3 rfl) ?_
          refine lv_aload_n hC.1 hC.2.1 dX7_restore_104 rfl (lv_at hl 1 rfl) ?_
          refine lv_iload_n hC.1 hC.2.1 dX7_restore_105 rfl (lv_at hl 2 rfl) ?_
          refine lv_iload_n hC.1 hC.2.1 dX7_restore_106 rfl (lv_at hl 3 rfl) ?_
          refine q_addN hC dX7_restore_107 ?_
          refine q_ald (Wf := XW E a) (v := σ 40 ((3 + 3) + h)) 50 rfl (by decide) hC hw (by omega) rfl dX7_restore_108 ?_
          refine lv_iconst (v := nI 1) hC.1 hC.2.1 dX7_restore_109 (by decide) ?_
          have J118_6 : ∀ (w5 : Int32), w5 = (if (σ 40 ((3 + 3) + h)) = 1 then (1 : Int32) else 0) → ∀ (H : Heap) (locs : List Loc) (ls : Array Slot), Wst E (XW E a) (sr (sr (sr σ 4 (upr (σ 40) h (σ 4))) 15 (va_cpy (σ 40) (σ 15) 3 0 3)) 0 (upd (upd (upd (upd (upd (σ 0) 0 (σ 40 0)) 1 (σ 40 1)) 2 (σ 40 2)) 3 (nI (if 11 ≠ 0 then (11 - 1) else 29))) 4 (nI (kp - 1)))) A s.heap H locs → lv_has ls 4 [(0, .ref (a 68)), (1, .ref (a 40)), (2, .int (nI (3 + 3))), (3, .int (nI h))] → W p l e ({ frames := 1, cells := 0, slots := 0, locals := 24 }) s m args below meth c H locs 0 0 Q (F0 m 118 ls [.int (w5), .int (nI h), .ref (a 4)]) := by
            intro w5 e6 H locs ls hw hl
            subst e6
            refine as_X4 hC hw (by omega) vz_B dX7_restore_118 (fun H locs hw => ?_)
            have hw : Wst E (XW E a) (sr (sr (sr (sr σ 4 (upr (σ 40) h (σ 4))) 15 (va_cpy (σ 40) (σ 15) 3 0 3)) 0 (upd (upd (upd (upd (upd (σ 0) 0 (σ 40 0)) 1 (σ 40 1)) 2 (σ 40 2)) 3 (nI (if 11 ≠ 0 then (11 - 1) else 29))) 4 (nI (kp - 1)))) 4 (upd (upr (σ 40) h (σ 4)) h (if (σ 40 ((3 + 3) + h)) = 1 then (1 : Int32) else 0))) A s.heap H locs := hw
            have hst_ : sr (sr (sr (sr σ 4 (upr (σ 40) h (σ 4))) 15 (va_cpy (σ 40) (σ 15) 3 0 3)) 0 (upd (upd (upd (upd (upd (σ 0) 0 (σ 40 0)) 1 (σ 40 1)) 2 (σ 40 2)) 3 (nI (if 11 ≠ 0 then (11 - 1) else 29))) 4 (nI (kp - 1)))) 4 (upd (upr (σ 40) h (σ 4)) h (if (σ 40 ((3 + 3) + h)) = 1 then (1 : Int32) else 0)) = sr (sr (sr σ 4 (upd (upr (σ 40) h (σ 4)) h (if (σ 40 ((3 + 3) + h)) = 1 then (1 : Int32) else 0))) 15 (va_cpy (σ 40) (σ 15) 3 0 3)) 0 (upd (upd (upd (upd (upd (σ 0) 0 (σ 40 0)) 1 (σ 40 1)) 2 (σ 40 2)) 3 (nI (if 11 ≠ 0 then (11 - 1) else 29))) 4 (nI (kp - 1))) := by
              funext j_ x_
              by_cases e0 : j_ = 0
              · subst e0
                by_cases y0 : x_ = 0
                · subst y0; rfl
                · by_cases y1 : x_ = 1
                  · subst y1; rfl
                  · by_cases y2 : x_ = 2
                    · subst y2; rfl
                    · by_cases y3 : x_ = 3
                      · subst y3; rfl
                      · by_cases y4 : x_ = 4
                        · subst y4; rfl
                        · simp [sr, upd, y0, y1, y2, y3, y4]
              · by_cases e4 : j_ = 4
                · subst e4; rfl
                · by_cases e15 : j_ = 15
                  · subst e15; rfl
                  · simp only [sr, e0, e4, e15, if_false]
            rw [hst_] at hw
            refine lv_iinc (v := nI (h + 1)) (lv' := [(3, .int (nI (h + 1))), (0, .ref (a 68)), (1, .ref (a 40)), (2, .int (nI (3 + 3)))]) hC.1 hC.2.1 dX7_restore_119 hl (k := 3) rfl (nI_add _ _) (by decide) rfl (fun ls hl => ?_)
            refine lv_goto (tgt := 90) hC.1 hC.2.1 dX7_restore_122 (by decide) ?_
            rw [upr_s] at hw
            exact ih90 (h + 1) (by omega) (by omega) _ _ _ hw (lv_sub hl [1, 2, 3, 0] rfl)
          refine q_cmpne hC 117 cI dX7_restore_110 (by decide) (fun (c7 : ¬ ((σ 40 ((3 + 3) + h)) = 1)) => ?_) (fun (c7 : (σ 40 ((3 + 3) + h)) = 1) => ?_)
          · refine lv_iconst (v := nI 0) hC.1 hC.2.1 dX7_restore_117 (by decide) ?_
            exact J118_6 _ (if_neg c7).symm _ _ _ hw (lv_sub hl [0, 1, 2, 3] rfl)
          · refine lv_iconst (v := nI 1) hC.1 hC.2.1 dX7_restore_113 (by decide) ?_
            refine lv_goto (tgt := 118) hC.1 hC.2.1 dX7_restore_114 (by decide) ?_
            exact J118_6 _ (if_pos c7).symm _ _ _ hw (lv_sub hl [0, 1, 2, 3] rfl)
    have hst_ : sr (sr σ 15 (va_cpy (σ 40) (σ 15) 3 0 3)) 0 (upd (upd (upd (upd (upd (σ 0) 0 (σ 40 0)) 1 (σ 40 1)) 2 (σ 40 2)) 3 (nI (if 11 ≠ 0 then (11 - 1) else 29))) 4 (nI (kp - 1))) = sr (sr (sr σ 4 (upr (σ 40) 0 (σ 4))) 15 (va_cpy (σ 40) (σ 15) 3 0 3)) 0 (upd (upd (upd (upd (upd (σ 0) 0 (σ 40 0)) 1 (σ 40 1)) 2 (σ 40 2)) 3 (nI (if 11 ≠ 0 then (11 - 1) else 29))) 4 (nI (kp - 1))) := by
      funext j_ x_
      by_cases e0 : j_ = 0
      · subst e0
        by_cases y0 : x_ = 0
        · subst y0; rfl
        · by_cases y1 : x_ = 1
          · subst y1; rfl
          · by_cases y2 : x_ = 2
            · subst y2; rfl
            · by_cases y3 : x_ = 3
              · subst y3; rfl
              · by_cases y4 : x_ = 4
                · subst y4; rfl
                · simp [sr, upd, y0, y1, y2, y3, y4]
      · by_cases e4 : j_ = 4
        · subst e4; show σ 4 x_ = upr (σ 40) 0 (σ 4) x_; rw [upr_0]
        · by_cases e15 : j_ = 15
          · subst e15; rfl
          · simp only [sr, e0, e4, e15, if_false]
    rw [hst_] at hw
    exact L90_2 _ 0 (by omega) (Nat.lt_succ_self _) _ _ _ hw (lv_sub hl [3, 2, 1, 0] rfl)
  refine q_ifne hC 13 (cN0 (by omega)) dX7_restore_5 (by decide) (fun (c8 : 11 ≠ 0) => ?_) (fun (c8 : 11 = 0) => ?_)
  · refine lv_aload_n hC.1 hC.2.1 dX7_restore_13 rfl (lv_at hl 0 rfl) ?_
    refine gf_X7_28 (v := nI 11) hC hw hnx dX7_restore_14 ?_
    refine lv_iconst (v := nI 1) hC.1 hC.2.1 dX7_restore_17 (by decide) ?_
    refine q_subN hC (by omega) dX7_restore_18 ?_
    exact J19_2 _ (by (rw [if_pos c8]) <;> rfl) _ _ _ hw (lv_sub hl [0] rfl)
  · refine lv_bipush (v := nI 29) hC.1 hC.2.1 dX7_restore_8 (by decide) ?_
    refine lv_goto (tgt := 19) hC.1 hC.2.1 dX7_restore_10 (by decide) ?_
    exact J19_2 _ (by (rw [if_neg (fun q => q c8)]) <;> rfl) _ _ _ hw (lv_sub hl [0] rfl)
set_option maxHeartbeats 4000000 in
set_option maxRecDepth 100000 in
theorem tX7_restore_k12 (l : Launch) (E : EV) (a : Nat → Nat) (σ : St) (kp : Nat) (hnx : σ 0 3 = nI 12) (hkp : σ 0 4 = nI kp) (hk30 : kp ≤ 30) (hk1 : 1 ≤ kp) : MV l E (XW E a) yX7_restore (Cond.code yX7_restore cX7_restore 4 none) ({ frames := 1, cells := 0, slots := 0, locals := 24 }) [.ref (a 68)] σ (fun u_ => u_ = sr (sr (sr (sr (sr (sr (sr σ 4 (upr (σ 41) 10 (σ 4))) 11 (va_cpy (σ 41) (σ 11) 16 0 24)) 12 (va_cpy (σ 41) (σ 12) 40 0 24)) 13 (va_cpy (σ 41) (σ 13) 64 0 24)) 14 (va_cpy (σ 41) (σ 14) 88 0 24)) 15 (va_cpy (σ 41) (σ 15) 3 0 3)) 0 (upd (upd (upd (upd (upd (σ 0) 0 ((σ 41) 0)) 1 ((σ 41) 1)) 2 ((σ 41) 2)) 3 (nI (if 12 ≠ 0 then 12 - 1 else 29))) 4 (nI (kp - 1)))) := by
  refine MV.mk (by decide +kernel) (Nat.le_of_ble_eq_true rfl) ?_
  intro p e s m args below meth c ls A Q hret hC hw hl
  have hC : Cxt E p s m args meth c cX7_restore 4 none RX7 A := hC
  have hl : lv_has ls 4 [(0, .ref (a 68))] := hl
  refine lv_aload_n hC.1 hC.2.1 dX7_restore_0 rfl (lv_at hl 0 rfl) ?_
  refine lv_aload_n hC.1 hC.2.1 dX7_restore_1 rfl (lv_at hl 0 rfl) ?_
  refine gf_X7_28 (v := nI 12) hC hw hnx dX7_restore_2 ?_
  have J19_2 : ∀ (w1 : Nat), w1 = (if 12 ≠ 0 then (12 - 1) else 29) → ∀ (H : Heap) (locs : List Loc) (ls : Array Slot), Wst E (XW E a) (σ) A s.heap H locs → lv_has ls 4 [(0, .ref (a 68))] → W p l e ({ frames := 1, cells := 0, slots := 0, locals := 24 }) s m args below meth c H locs 0 0 Q (F0 m 19 ls [.int (nI w1), .ref (a 68)]) := by
    intro w1 e2 H locs ls hw hl
    subst e2
    refine pf_X7_28 hC hw dX7_restore_19 (fun H locs hw => ?_)
    have hw : Wst E (XW E a) (sr σ 0 (upd (σ 0) 3 (nI (if 12 ≠ 0 then (12 - 1) else 29)))) A s.heap H locs := hw
    refine lv_aload_n hC.1 hC.2.1 dX7_restore_22 rfl (lv_at hl 0 rfl) ?_
    refine lv_dup hC.1 hC.2.1 dX7_restore_23 rfl ?_
    refine gf_X7_65 (v := nI kp) hC hw hkp dX7_restore_24 ?_
    refine lv_iconst (v := nI 1) hC.1 hC.2.1 dX7_restore_27 (by decide) ?_
    refine q_subN hC (by omega) dX7_restore_28 ?_
    refine pf_X7_65 hC hw dX7_restore_29 (fun H locs hw => ?_)
    have hw : Wst E (XW E a) (sr (sr σ 0 (upd (σ 0) 3 (nI (if 12 ≠ 0 then (12 - 1) else 29)))) 0 (upd (upd (σ 0) 3 (nI (if 12 ≠ 0 then (12 - 1) else 29))) 4 (nI (kp - 1)))) A s.heap H locs := hw
    have hst_ : sr (sr σ 0 (upd (σ 0) 3 (nI (if 12 ≠ 0 then (12 - 1) else 29)))) 0 (upd (upd (σ 0) 3 (nI (if 12 ≠ 0 then (12 - 1) else 29))) 4 (nI (kp - 1))) = sr σ 0 (upd (upd (σ 0) 3 (nI (if 12 ≠ 0 then (12 - 1) else 29))) 4 (nI (kp - 1))) := by
      funext j_ x_
      by_cases e0 : j_ = 0
      · subst e0
        by_cases y3 : x_ = 3
        · subst y3; rfl
        · by_cases y4 : x_ = 4
          · subst y4; rfl
          · simp [sr, upd, y3, y4]
      · simp only [sr, e0, if_false]
    rw [hst_] at hw
    refine lv_aload_n hC.1 hC.2.1 dX7_restore_32 rfl (lv_at hl 0 rfl) ?_
    refine gf_X7_13 hC hw dX7_restore_33 ?_
    refine lv_aload_n hC.1 hC.2.1 dX7_restore_36 rfl (lv_at hl 0 rfl) ?_
    refine gf_X7_28 (v := nI (if 12 ≠ 0 then (12 - 1) else 29)) hC hw rfl dX7_restore_37 ?_
    refine q_top (y := nI 11) rfl ?_
    refine q_aald hC hw (i := 11) (by decide) dX7_restore_40 ?_
    refine lv_astore_n (lv' := [(1, .ref (a 41)), (0, .ref (a 68))]) hC.1 hC.2.1 dX7_restore_41 rfl hl (by decide) rfl (fun ls hl => ?_)
    refine lv_aload_n hC.1 hC.2.1 dX7_restore_42 rfl (lv_at hl 1 rfl) ?_
    refine gf_X7_16 hC hw dX7_restore_43 ?_
    refine lv_aload_n hC.1 hC.2.1 dX7_restore_46 rfl (lv_at hl 0 rfl) ?_
    refine lv_iconst (v := nI 0) hC.1 hC.2.1 dX7_restore_47 (by decide) ?_
    refine q_ald (Wf := XW E a) (v := σ 41 0) 51 rfl (by decide) hC hw (by omega) rfl dX7_restore_48 ?_
    refine pf_X7_32 hC hw dX7_restore_49 (fun H locs hw => ?_)
    have hw : Wst E (XW E a) (sr (sr σ 0 (upd (upd (σ 0) 3 (nI (if 12 ≠ 0 then (12 - 1) else 29))) 4 (nI (kp - 1)))) 0 (upd (upd (upd (σ 0) 3 (nI (if 12 ≠ 0 then (12 - 1) else 29))) 4 (nI (kp - 1))) 0 (σ 41 0))) A s.heap H locs := hw
    have hst_ : sr (sr σ 0 (upd (upd (σ 0) 3 (nI (if 12 ≠ 0 then (12 - 1) else 29))) 4 (nI (kp - 1)))) 0 (upd (upd (upd (σ 0) 3 (nI (if 12 ≠ 0 then (12 - 1) else 29))) 4 (nI (kp - 1))) 0 (σ 41 0)) = sr σ 0 (upd (upd (upd (σ 0) 0 (σ 41 0)) 3 (nI (if 12 ≠ 0 then (12 - 1) else 29))) 4 (nI (kp - 1))) := by
      funext j_ x_
      by_cases e0 : j_ = 0
      · subst e0
        by_cases y0 : x_ = 0
        · subst y0; rfl
        · by_cases y3 : x_ = 3
          · subst y3; rfl
          · by_cases y4 : x_ = 4
            · subst y4; rfl
            · simp [sr, upd, y0, y3, y4]
      · simp only [sr, e0, if_false]
    rw [hst_] at hw
    refine lv_aload_n hC.1 hC.2.1 dX7_restore_52 rfl (lv_at hl 1 rfl) ?_
    refine gf_X7_20 hC hw dX7_restore_53 ?_
    refine lv_aload_n hC.1 hC.2.1 dX7_restore_56 rfl (lv_at hl 0 rfl) ?_
    refine lv_iconst (v := nI 1) hC.1 hC.2.1 dX7_restore_57 (by decide) ?_
    refine q_ald (Wf := XW E a) (v := σ 41 1) 51 rfl (by decide) hC hw (by omega) rfl dX7_restore_58 ?_
    refine pf_X7_37 hC hw dX7_restore_59 (fun H locs hw => ?_)
    have hw : Wst E (XW E a) (sr (sr σ 0 (upd (upd (upd (σ 0) 0 (σ 41 0)) 3 (nI (if 12 ≠ 0 then (12 - 1) else 29))) 4 (nI (kp - 1)))) 0 (upd (upd (upd (upd (σ 0) 0 (σ 41 0)) 3 (nI (if 12 ≠ 0 then (12 - 1) else 29))) 4 (nI (kp - 1))) 1 (σ 41 1))) A s.heap H locs := hw
    have hst_ : sr (sr σ 0 (upd (upd (upd (σ 0) 0 (σ 41 0)) 3 (nI (if 12 ≠ 0 then (12 - 1) else 29))) 4 (nI (kp - 1)))) 0 (upd (upd (upd (upd (σ 0) 0 (σ 41 0)) 3 (nI (if 12 ≠ 0 then (12 - 1) else 29))) 4 (nI (kp - 1))) 1 (σ 41 1)) = sr σ 0 (upd (upd (upd (upd (σ 0) 0 (σ 41 0)) 1 (σ 41 1)) 3 (nI (if 12 ≠ 0 then (12 - 1) else 29))) 4 (nI (kp - 1))) := by
      funext j_ x_
      by_cases e0 : j_ = 0
      · subst e0
        by_cases y0 : x_ = 0
        · subst y0; rfl
        · by_cases y1 : x_ = 1
          · subst y1; rfl
          · by_cases y3 : x_ = 3
            · subst y3; rfl
            · by_cases y4 : x_ = 4
              · subst y4; rfl
              · simp [sr, upd, y0, y1, y3, y4]
      · simp only [sr, e0, if_false]
    rw [hst_] at hw
    refine lv_aload_n hC.1 hC.2.1 dX7_restore_62 rfl (lv_at hl 1 rfl) ?_
    refine gf_X7_20 hC hw dX7_restore_63 ?_
    refine lv_aload_n hC.1 hC.2.1 dX7_restore_66 rfl (lv_at hl 0 rfl) ?_
    refine lv_iconst (v := nI 2) hC.1 hC.2.1 dX7_restore_67 (by decide) ?_
    refine q_ald (Wf := XW E a) (v := σ 41 2) 51 rfl (by decide) hC hw (by omega) rfl dX7_restore_68 ?_
    refine pf_X7_40 hC hw dX7_restore_69 (fun H locs hw => ?_)
    have hw : Wst E (XW E a) (sr (sr σ 0 (upd (upd (upd (upd (σ 0) 0 (σ 41 0)) 1 (σ 41 1)) 3 (nI (if 12 ≠ 0 then (12 - 1) else 29))) 4 (nI (kp - 1)))) 0 (upd (upd (upd (upd (upd (σ 0) 0 (σ 41 0)) 1 (σ 41 1)) 3 (nI (if 12 ≠ 0 then (12 - 1) else 29))) 4 (nI (kp - 1))) 2 (σ 41 2))) A s.heap H locs := hw
    have hst_ : sr (sr σ 0 (upd (upd (upd (upd (σ 0) 0 (σ 41 0)) 1 (σ 41 1)) 3 (nI (if 12 ≠ 0 then (12 - 1) else 29))) 4 (nI (kp - 1)))) 0 (upd (upd (upd (upd (upd (σ 0) 0 (σ 41 0)) 1 (σ 41 1)) 3 (nI (if 12 ≠ 0 then (12 - 1) else 29))) 4 (nI (kp - 1))) 2 (σ 41 2)) = sr σ 0 (upd (upd (upd (upd (upd (σ 0) 0 (σ 41 0)) 1 (σ 41 1)) 2 (σ 41 2)) 3 (nI (if 12 ≠ 0 then (12 - 1) else 29))) 4 (nI (kp - 1))) := by
      funext j_ x_
      by_cases e0 : j_ = 0
      · subst e0
        by_cases y0 : x_ = 0
        · subst y0; rfl
        · by_cases y1 : x_ = 1
          · subst y1; rfl
          · by_cases y2 : x_ = 2
            · subst y2; rfl
            · by_cases y3 : x_ = 3
              · subst y3; rfl
              · by_cases y4 : x_ = 4
                · subst y4; rfl
                · simp [sr, upd, y0, y1, y2, y3, y4]
      · simp only [sr, e0, if_false]
    rw [hst_] at hw
    refine lv_iconst (v := nI 3) hC.1 hC.2.1 dX7_restore_72 (by decide) ?_
    refine lv_istore_n (lv' := [(2, .int (nI 3)), (1, .ref (a 41)), (0, .ref (a 68))]) hC.1 hC.2.1 dX7_restore_73 rfl hl (by decide) rfl (fun ls hl => ?_)
    refine lv_aload_n hC.1 hC.2.1 dX7_restore_74 rfl (lv_at hl 1 rfl) ?_
    refine lv_iload_n hC.1 hC.2.1 dX7_restore_75 rfl (lv_at hl 0 rfl) ?_
    refine lv_aload_n hC.1 hC.2.1 dX7_restore_76 rfl (lv_at hl 2 rfl) ?_
    refine gf_X7_24 hC hw dX7_restore_77 ?_
    refine lv_iconst (v := nI 0) hC.1 hC.2.1 dX7_restore_80 (by decide) ?_
    refine lv_iconst (v := nI 3) hC.1 hC.2.1 dX7_restore_81 (by decide) ?_
    refine q_cpy (sp := 3) (dp := 0) (n := 3) 51 rfl 25 rfl (XW_s15 _) hC hw hl (by omega) (by omega) (by decide) (by decide) ⟨Nat.le_of_ble_eq_true rfl, Nat.le_of_ble_eq_true rfl⟩ wk2_182 dX7_restore_82 (fun H locs hw => ?_)
    have hw : Wst E (XW E a) (sr (sr σ 0 (upd (upd (upd (upd (upd (σ 0) 0 (σ 41 0)) 1 (σ 41 1)) 2 (σ 41 2)) 3 (nI (if 12 ≠ 0 then (12 - 1) else 29))) 4 (nI (kp - 1)))) 15 (va_cpy (σ 41) (σ 15) 3 0 3)) A s.heap H locs := hw
    have hst_ : sr (sr σ 0 (upd (upd (upd (upd (upd (σ 0) 0 (σ 41 0)) 1 (σ 41 1)) 2 (σ 41 2)) 3 (nI (if 12 ≠ 0 then (12 - 1) else 29))) 4 (nI (kp - 1)))) 15 (va_cpy (σ 41) (σ 15) 3 0 3) = sr (sr σ 15 (va_cpy (σ 41) (σ 15) 3 0 3)) 0 (upd (upd (upd (upd (upd (σ 0) 0 (σ 41 0)) 1 (σ 41 1)) 2 (σ 41 2)) 3 (nI (if 12 ≠ 0 then (12 - 1) else 29))) 4 (nI (kp - 1))) := by
      funext j_ x_
      by_cases e0 : j_ = 0
      · subst e0
        by_cases y0 : x_ = 0
        · subst y0; rfl
        · by_cases y1 : x_ = 1
          · subst y1; rfl
          · by_cases y2 : x_ = 2
            · subst y2; rfl
            · by_cases y3 : x_ = 3
              · subst y3; rfl
              · by_cases y4 : x_ = 4
                · subst y4; rfl
                · simp [sr, upd, y0, y1, y2, y3, y4]
      · by_cases e15 : j_ = 15
        · subst e15; rfl
        · simp only [sr, e0, e15, if_false]
    rw [hst_] at hw
    refine lv_iinc (v := nI (3 + 3)) (lv' := [(2, .int (nI (3 + 3))), (1, .ref (a 41)), (0, .ref (a 68))]) hC.1 hC.2.1 dX7_restore_85 hl (k := 0) rfl (nI_add _ _) (by decide) rfl (fun ls hl => ?_)
    refine lv_iconst (v := nI 0) hC.1 hC.2.1 dX7_restore_88 (by decide) ?_
    refine lv_istore_n (lv' := [(3, .int (nI 0)), (2, .int (nI (3 + 3))), (1, .ref (a 41)), (0, .ref (a 68))]) hC.1 hC.2.1 dX7_restore_89 rfl hl (by decide) rfl (fun ls hl => ?_)
    have L90_2 : ∀ (n : Nat), ∀ (h : Nat), (h ≤ 10) → (10 - h) < n → ∀ (H : Heap) (locs : List Loc) (ls : Array Slot), Wst E (XW E a) (sr (sr (sr σ 4 (upr (σ 41) h (σ 4))) 15 (va_cpy (σ 41) (σ 15) 3 0 3)) 0 (upd (upd (upd (upd (upd (σ 0) 0 (σ 41 0)) 1 (σ 41 1)) 2 (σ 41 2)) 3 (nI (if 12 ≠ 0 then (12 - 1) else 29))) 4 (nI (kp - 1)))) A s.heap H locs → lv_has ls 4 [(0, .ref (a 68)), (1, .ref (a 41)), (2, .int (nI (3 + 3))), (3, .int (nI h))] → W p l e ({ frames := 1, cells := 0, slots := 0, locals := 24 }) s m args below meth c H locs 0 0 Q (F0 m 90 ls []) := by
      intro n
      induction n with
      | zero => intro h hh hn; exact absurd hn (Nat.not_lt_zero _)
      | succ n ih90 =>
        intro h hh hn90 H locs ls hw hl
        refine lv_iload_n hC.1 hC.2.1 dX7_restore_90 rfl (lv_at hl 3 rfl) ?_
        refine lv_bipush (v := nI 10) hC.1 hC.2.1 dX7_restore_91 (by decide) ?_
        refine q_cmpge hC 125 (cNle (by omega) (by omega)) dX7_restore_93 (by decide) (fun (c4 : 10 ≤ h) => ?_) (fun (c4 : h < 10) => ?_)
        · have hh9 : h = 10 := by omega
          rw [hh9] at hw
          refine lv_iinc (v := nI (3 + 3 + 10)) (lv' := [(2, .int (nI (3 + 3 + 10))), (0, .ref (a 68)), (1, .ref (a 41)), (3, .int (nI h))]) hC.1 hC.2.1 dX7_restore_125 hl (k := 2) rfl (nI_add _ _) (by decide) rfl (fun ls hl => ?_)
          refine lv_aload_n hC.1 hC.2.1 dX7_restore_128 rfl (lv_at hl 2 rfl) ?_
          refine lv_iload_n hC.1 hC.2.1 dX7_restore_129 rfl (lv_at hl 0 rfl) ?_
          refine lv_aload_n hC.1 hC.2.1 dX7_restore_130 rfl (lv_at hl 1 rfl) ?_
          refine gf_X7_20 hC hw dX7_restore_131 ?_
          refine gf_X7_53 hC hw dX7_restore_134 ?_
          refine lv_iconst (v := nI 0) hC.1 hC.2.1 dX7_restore_137 (by decide) ?_
          refine lv_bipush (v := nI 24) hC.1 hC.2.1 dX7_restore_138 (by decide) ?_
          refine q_cpy (sp := (3 + 3 + 10)) (dp := 0) (n := 24) 51 rfl 21 rfl (XW_s11 _) hC hw hl (by omega) (by omega) (by decide) (by decide) ⟨Nat.le_of_ble_eq_true rfl, Nat.le_of_ble_eq_true rfl⟩ wk2_182 dX7_restore_140 (fun H locs hw => ?_)
          have hw : Wst E (XW E a) (sr (sr (sr (sr σ 4 (upr (σ 41) 10 (σ 4))) 15 (va_cpy (σ 41) (σ 15) 3 0 3)) 0 (upd (upd (upd (upd (upd (σ 0) 0 (σ 41 0)) 1 (σ 41 1)) 2 (σ 41 2)) 3 (nI (if 12 ≠ 0 then (12 - 1) else 29))) 4 (nI (kp - 1)))) 11 (va_cpy (σ 41) (σ 11) (3 + 3 + 10) 0 24)) A s.heap H locs := hw
          have hst_ : sr (sr (sr (sr σ 4 (upr (σ 41) 10 (σ 4))) 15 (va_cpy (σ 41) (σ 15) 3 0 3)) 0 (upd (upd (upd (upd (upd (σ 0) 0 (σ 41 0)) 1 (σ 41 1)) 2 (σ 41 2)) 3 (nI (if 12 ≠ 0 then (12 - 1) else 29))) 4 (nI (kp - 1)))) 11 (va_cpy (σ 41) (σ 11) (3 + 3 + 10) 0 24) = sr (sr (sr (sr σ 4 (upr (σ 41) 10 (σ 4))) 11 (va_cpy (σ 41) (σ 11) (3 + 3 + 10) 0 24)) 15 (va_cpy (σ 41) (σ 15) 3 0 3)) 0 (upd (upd (upd (upd (upd (σ 0) 0 (σ 41 0)) 1 (σ 41 1)) 2 (σ 41 2)) 3 (nI (if 12 ≠ 0 then (12 - 1) else 29))) 4 (nI (kp - 1))) := by
            funext j_ x_
            by_cases e0 : j_ = 0
            · subst e0
              by_cases y0 : x_ = 0
              · subst y0; rfl
              · by_cases y1 : x_ = 1
                · subst y1; rfl
                · by_cases y2 : x_ = 2
                  · subst y2; rfl
                  · by_cases y3 : x_ = 3
                    · subst y3; rfl
                    · by_cases y4 : x_ = 4
                      · subst y4; rfl
                      · simp [sr, upd, y0, y1, y2, y3, y4]
            · by_cases e4 : j_ = 4
              · subst e4; rfl
              · by_cases e11 : j_ = 11
                · subst e11; rfl
                · by_cases e15 : j_ = 15
                  · subst e15; rfl
                  · simp only [sr, e0, e4, e11, e15, if_false]
          rw [hst_] at hw
          refine lv_aload_n hC.1 hC.2.1 dX7_restore_143 rfl (lv_at hl 2 rfl) ?_
          refine lv_iload_n hC.1 hC.2.1 dX7_restore_144 rfl (lv_at hl 0 rfl) ?_
          refine lv_bipush (v := nI 24) hC.1 hC.2.1 dX7_restore_145 (by decide) ?_
          refine q_addN hC dX7_restore_147 ?_
          refine lv_aload_n hC.1 hC.2.1 dX7_restore_148 rfl (lv_at hl 1 rfl) ?_
          refine gf_X7_20 hC hw dX7_restore_149 ?_
          refine gf_X7_56 hC hw dX7_restore_152 ?_
          refine lv_iconst (v := nI 0) hC.1 hC.2.1 dX7_restore_155 (by decide) ?_
          refine lv_bipush (v := nI 24) hC.1 hC.2.1 dX7_restore_156 (by decide) ?_
          refine q_cpy (sp := ((3 + 3 + 10) + 24)) (dp := 0) (n := 24) 51 rfl 22 rfl (XW_s12 _) hC hw hl (by omega) (by omega) (by decide) (by decide) ⟨Nat.le_of_ble_eq_true rfl, Nat.le_of_ble_eq_true rfl⟩ wk2_182 dX7_restore_158 (fun H locs hw => ?_)
          have hw : Wst E (XW E a) (sr (sr (sr (sr (sr σ 4 (upr (σ 41) 10 (σ 4))) 11 (va_cpy (σ 41) (σ 11) (3 + 3 + 10) 0 24)) 15 (va_cpy (σ 41) (σ 15) 3 0 3)) 0 (upd (upd (upd (upd (upd (σ 0) 0 (σ 41 0)) 1 (σ 41 1)) 2 (σ 41 2)) 3 (nI (if 12 ≠ 0 then (12 - 1) else 29))) 4 (nI (kp - 1)))) 12 (va_cpy (σ 41) (σ 12) ((3 + 3 + 10) + 24) 0 24)) A s.heap H locs := hw
          have hst_ : sr (sr (sr (sr (sr σ 4 (upr (σ 41) 10 (σ 4))) 11 (va_cpy (σ 41) (σ 11) (3 + 3 + 10) 0 24)) 15 (va_cpy (σ 41) (σ 15) 3 0 3)) 0 (upd (upd (upd (upd (upd (σ 0) 0 (σ 41 0)) 1 (σ 41 1)) 2 (σ 41 2)) 3 (nI (if 12 ≠ 0 then (12 - 1) else 29))) 4 (nI (kp - 1)))) 12 (va_cpy (σ 41) (σ 12) ((3 + 3 + 10) + 24) 0 24) = sr (sr (sr (sr (sr σ 4 (upr (σ 41) 10 (σ 4))) 11 (va_cpy (σ 41) (σ 11) (3 + 3 + 10) 0 24)) 12 (va_cpy (σ 41) (σ 12) ((3 + 3 + 10) + 24) 0 24)) 15 (va_cpy (σ 41) (σ 15) 3 0 3)) 0 (upd (upd (upd (upd (upd (σ 0) 0 (σ 41 0)) 1 (σ 41 1)) 2 (σ 41 2)) 3 (nI (if 12 ≠ 0 then (12 - 1) else 29))) 4 (nI (kp - 1))) := by
            funext j_ x_
            by_cases e0 : j_ = 0
            · subst e0
              by_cases y0 : x_ = 0
              · subst y0; rfl
              · by_cases y1 : x_ = 1
                · subst y1; rfl
                · by_cases y2 : x_ = 2
                  · subst y2; rfl
                  · by_cases y3 : x_ = 3
                    · subst y3; rfl
                    · by_cases y4 : x_ = 4
                      · subst y4; rfl
                      · simp [sr, upd, y0, y1, y2, y3, y4]
            · by_cases e4 : j_ = 4
              · subst e4; rfl
              · by_cases e11 : j_ = 11
                · subst e11; rfl
                · by_cases e12 : j_ = 12
                  · subst e12; rfl
                  · by_cases e15 : j_ = 15
                    · subst e15; rfl
                    · simp only [sr, e0, e4, e11, e12, e15, if_false]
          rw [hst_] at hw
          refine lv_aload_n hC.1 hC.2.1 dX7_restore_161 rfl (lv_at hl 2 rfl) ?_
          refine lv_iload_n hC.1 hC.2.1 dX7_restore_162 rfl (lv_at hl 0 rfl) ?_
          refine lv_bipush (v := nI 48) hC.1 hC.2.1 dX7_restore_163 (by decide) ?_
          refine q_addN hC dX7_restore_165 ?_
          refine lv_aload_n hC.1 hC.2.1 dX7_restore_166 rfl (lv_at hl 1 rfl) ?_
          refine gf_X7_20 hC hw dX7_restore_167 ?_
          refine gf_X7_59 hC hw dX7_restore_170 ?_
          refine lv_iconst (v := nI 0) hC.1 hC.2.1 dX7_restore_173 (by decide) ?_
          refine lv_bipush (v := nI 24) hC.1 hC.2.1 dX7_restore_174 (by decide) ?_
          refine q_cpy (sp := ((3 + 3 + 10) + 48)) (dp := 0) (n := 24) 51 rfl 23 rfl (XW_s13 _) hC hw hl (by omega) (by omega) (by decide) (by decide) ⟨Nat.le_of_ble_eq_true rfl, Nat.le_of_ble_eq_true rfl⟩ wk2_182 dX7_restore_176 (fun H locs hw => ?_)
          have hw : Wst E (XW E a) (sr (sr (sr (sr (sr (sr σ 4 (upr (σ 41) 10 (σ 4))) 11 (va_cpy (σ 41) (σ 11) (3 + 3 + 10) 0 24)) 12 (va_cpy (σ 41) (σ 12) ((3 + 3 + 10) + 24) 0 24)) 15 (va_cpy (σ 41) (σ 15) 3 0 3)) 0 (upd (upd (upd (upd (upd (σ 0) 0 (σ 41 0)) 1 (σ 41 1)) 2 (σ 41 2)) 3 (nI (if 12 ≠ 0 then (12 - 1) else 29))) 4 (nI (kp - 1)))) 13 (va_cpy (σ 41) (σ 13) ((3 + 3 + 10) + 48) 0 24)) A s.heap H locs := hw
          have hst_ : sr (sr (sr (sr (sr (sr σ 4 (upr (σ 41) 10 (σ 4))) 11 (va_cpy (σ 41) (σ 11) (3 + 3 + 10) 0 24)) 12 (va_cpy (σ 41) (σ 12) ((3 + 3 + 10) + 24) 0 24)) 15 (va_cpy (σ 41) (σ 15) 3 0 3)) 0 (upd (upd (upd (upd (upd (σ 0) 0 (σ 41 0)) 1 (σ 41 1)) 2 (σ 41 2)) 3 (nI (if 12 ≠ 0 then (12 - 1) else 29))) 4 (nI (kp - 1)))) 13 (va_cpy (σ 41) (σ 13) ((3 + 3 + 10) + 48) 0 24) = sr (sr (sr (sr (sr (sr σ 4 (upr (σ 41) 10 (σ 4))) 11 (va_cpy (σ 41) (σ 11) (3 + 3 + 10) 0 24)) 12 (va_cpy (σ 41) (σ 12) ((3 + 3 + 10) + 24) 0 24)) 13 (va_cpy (σ 41) (σ 13) ((3 + 3 + 10) + 48) 0 24)) 15 (va_cpy (σ 41) (σ 15) 3 0 3)) 0 (upd (upd (upd (upd (upd (σ 0) 0 (σ 41 0)) 1 (σ 41 1)) 2 (σ 41 2)) 3 (nI (if 12 ≠ 0 then (12 - 1) else 29))) 4 (nI (kp - 1))) := by
            funext j_ x_
            by_cases e0 : j_ = 0
            · subst e0
              by_cases y0 : x_ = 0
              · subst y0; rfl
              · by_cases y1 : x_ = 1
                · subst y1; rfl
                · by_cases y2 : x_ = 2
                  · subst y2; rfl
                  · by_cases y3 : x_ = 3
                    · subst y3; rfl
                    · by_cases y4 : x_ = 4
                      · subst y4; rfl
                      · simp [sr, upd, y0, y1, y2, y3, y4]
            · by_cases e4 : j_ = 4
              · subst e4; rfl
              · by_cases e11 : j_ = 11
                · subst e11; rfl
                · by_cases e12 : j_ = 12
                  · subst e12; rfl
                  · by_cases e13 : j_ = 13
                    · subst e13; rfl
                    · by_cases e15 : j_ = 15
                      · subst e15; rfl
                      · simp only [sr, e0, e4, e11, e12, e13, e15, if_false]
          rw [hst_] at hw
          refine lv_aload_n hC.1 hC.2.1 dX7_restore_179 rfl (lv_at hl 2 rfl) ?_
          refine lv_iload_n hC.1 hC.2.1 dX7_restore_180 rfl (lv_at hl 0 rfl) ?_
          refine lv_bipush (v := nI 72) hC.1 hC.2.1 dX7_restore_181 (by decide) ?_
          refine q_addN hC dX7_restore_183 ?_
          refine lv_aload_n hC.1 hC.2.1 dX7_restore_184 rfl (lv_at hl 1 rfl) ?_
          refine gf_X7_20 hC hw dX7_restore_185 ?_
          refine gf_X7_62 hC hw dX7_restore_188 ?_
          refine lv_iconst (v := nI 0) hC.1 hC.2.1 dX7_restore_191 (by decide) ?_
          refine lv_bipush (v := nI 24) hC.1 hC.2.1 dX7_restore_192 (by decide) ?_
          refine q_cpy (sp := ((3 + 3 + 10) + 72)) (dp := 0) (n := 24) 51 rfl 24 rfl (XW_s14 _) hC hw hl (by omega) (by omega) (by decide) (by decide) ⟨Nat.le_of_ble_eq_true rfl, Nat.le_of_ble_eq_true rfl⟩ wk2_182 dX7_restore_194 (fun H locs hw => ?_)
          have hw : Wst E (XW E a) (sr (sr (sr (sr (sr (sr (sr σ 4 (upr (σ 41) 10 (σ 4))) 11 (va_cpy (σ 41) (σ 11) (3 + 3 + 10) 0 24)) 12 (va_cpy (σ 41) (σ 12) ((3 + 3 + 10) + 24) 0 24)) 13 (va_cpy (σ 41) (σ 13) ((3 + 3 + 10) + 48) 0 24)) 15 (va_cpy (σ 41) (σ 15) 3 0 3)) 0 (upd (upd (upd (upd (upd (σ 0) 0 (σ 41 0)) 1 (σ 41 1)) 2 (σ 41 2)) 3 (nI (if 12 ≠ 0 then (12 - 1) else 29))) 4 (nI (kp - 1)))) 14 (va_cpy (σ 41) (σ 14) ((3 + 3 + 10) + 72) 0 24)) A s.heap H locs := hw
          have hst_ : sr (sr (sr (sr (sr (sr (sr σ 4 (upr (σ 41) 10 (σ 4))) 11 (va_cpy (σ 41) (σ 11) (3 + 3 + 10) 0 24)) 12 (va_cpy (σ 41) (σ 12) ((3 + 3 + 10) + 24) 0 24)) 13 (va_cpy (σ 41) (σ 13) ((3 + 3 + 10) + 48) 0 24)) 15 (va_cpy (σ 41) (σ 15) 3 0 3)) 0 (upd (upd (upd (upd (upd (σ 0) 0 (σ 41 0)) 1 (σ 41 1)) 2 (σ 41 2)) 3 (nI (if 12 ≠ 0 then (12 - 1) else 29))) 4 (nI (kp - 1)))) 14 (va_cpy (σ 41) (σ 14) ((3 + 3 + 10) + 72) 0 24) = sr (sr (sr (sr (sr (sr (sr σ 4 (upr (σ 41) 10 (σ 4))) 11 (va_cpy (σ 41) (σ 11) (3 + 3 + 10) 0 24)) 12 (va_cpy (σ 41) (σ 12) ((3 + 3 + 10) + 24) 0 24)) 13 (va_cpy (σ 41) (σ 13) ((3 + 3 + 10) + 48) 0 24)) 14 (va_cpy (σ 41) (σ 14) ((3 + 3 + 10) + 72) 0 24)) 15 (va_cpy (σ 41) (σ 15) 3 0 3)) 0 (upd (upd (upd (upd (upd (σ 0) 0 (σ 41 0)) 1 (σ 41 1)) 2 (σ 41 2)) 3 (nI (if 12 ≠ 0 then (12 - 1) else 29))) 4 (nI (kp - 1))) := by
            funext j_ x_
            by_cases e0 : j_ = 0
            · subst e0
              by_cases y0 : x_ = 0
              · subst y0; rfl
              · by_cases y1 : x_ = 1
                · subst y1; rfl
                · by_cases y2 : x_ = 2
                  · subst y2; rfl
                  · by_cases y3 : x_ = 3
                    · subst y3; rfl
                    · by_cases y4 : x_ = 4
                      · subst y4; rfl
                      · simp [sr, upd, y0, y1, y2, y3, y4]
            · by_cases e4 : j_ = 4
              · subst e4; rfl
              · by_cases e11 : j_ = 11
                · subst e11; rfl
                · by_cases e12 : j_ = 12
                  · subst e12; rfl
                  · by_cases e13 : j_ = 13
                    · subst e13; rfl
                    · by_cases e14 : j_ = 14
                      · subst e14; rfl
                      · by_cases e15 : j_ = 15
                        · subst e15; rfl
                        · simp only [sr, e0, e4, e11, e12, e13, e14, e15, if_false]
          rw [hst_] at hw
          refine hret _ _ _ _ _ hw ?_ dX7_restore_197
          exact rfl
        · refine lv_aload_n hC.1 hC.2.1 dX7_restore_96 rfl (lv_at hl 0 rfl) ?_
          refine gf_X7_16 hC hw dX7_restore_97 ?_
          refine gf_X7_49 hC hw dX7_restore_100 ?_
          refine lv_iload_n hC.1 hC.2.1 dX7_restore_103 rfl (lv_at hl 3 rfl) ?_
          refine lv_aload_n hC.1 hC.2.1 dX7_restore_104 rfl (lv_at hl 1 rfl) ?_
          refine lv_iload_n hC.1 hC.2.1 dX7_restore_105 rfl (lv_at hl 2 rfl) ?_
          refine lv_iload_n hC.1 hC.2.1 dX7_restore_106 rfl (lv_at hl 3 rfl) ?_
          refine q_addN hC dX7_restore_107 ?_
          refine q_ald (Wf := XW E a) (v := σ 41 ((3 + 3) + h)) 51 rfl (by decide) hC hw (by omega) rfl dX7_restore_108 ?_
          refine lv_iconst (v := nI 1) hC.1 hC.2.1 dX7_restore_109 (by decide) ?_
          have J118_6 : ∀ (w5 : Int32), w5 = (if (σ 41 ((3 + 3) + h)) = 1 then (1 : Int32) else 0) → ∀ (H : Heap) (locs : List Loc) (ls : Array Slot), Wst E (XW E a) (sr (sr (sr σ 4 (upr (σ 41) h (σ 4))) 15 (va_cpy (σ 41) (σ 15) 3 0 3)) 0 (upd (upd (upd (upd (upd (σ 0) 0 (σ 41 0)) 1 (σ 41 1)) 2 (σ 41 2)) 3 (nI (if 12 ≠ 0 then (12 - 1) else 29))) 4 (nI (kp - 1)))) A s.heap H locs → lv_has ls 4 [(0, .ref (a 68)), (1, .ref (a 41)), (2, .int (nI (3 + 3))), (3, .int (nI h))] → W p l e ({ frames := 1, cells := 0, slots := 0, locals := 24 }) s m args below meth c H locs 0 0 Q (F0 m 118 ls [.int (w5), .int (nI h), .ref (a 4)]) := by
            intro w5 e6 H locs ls hw hl
            subst e6
            refine as_X4 hC hw (by omega) vz_B dX7_restore_118 (fun H locs hw => ?_)
            have hw : Wst E (XW E a) (sr (sr (sr (sr σ 4 (upr (σ 41) h (σ 4))) 15 (va_cpy (σ 41) (σ 15) 3 0 3)) 0 (upd (upd (upd (upd (upd (σ 0) 0 (σ 41 0)) 1 (σ 41 1)) 2 (σ 41 2)) 3 (nI (if 12 ≠ 0 then (12 - 1) else 29))) 4 (nI (kp - 1)))) 4 (upd (upr (σ 41) h (σ 4)) h (if (σ 41 ((3 + 3) + h)) = 1 then (1 : Int32) else 0))) A s.heap H locs := hw
            have hst_ : sr (sr (sr (sr σ 4 (upr (σ 41) h (σ 4))) 15 (va_cpy (σ 41) (σ 15) 3 0 3)) 0 (upd (upd (upd (upd (upd (σ 0) 0 (σ 41 0)) 1 (σ 41 1)) 2 (σ 41 2)) 3 (nI (if 12 ≠ 0 then (12 - 1) else 29))) 4 (nI (kp - 1)))) 4 (upd (upr (σ 41) h (σ 4)) h (if (σ 41 ((3 + 3) + h)) = 1 then (1 : Int32) else 0)) = sr (sr (sr σ 4 (upd (upr (σ 41) h (σ 4)) h (if (σ 41 ((3 + 3) + h)) = 1 then (1 : Int32) else 0))) 15 (va_cpy (σ 41) (σ 15) 3 0 3)) 0 (upd (upd (upd (upd (upd (σ 0) 0 (σ 41 0)) 1 (σ 41 1)) 2 (σ 41 2)) 3 (nI (if 12 ≠ 0 then (12 - 1) else 29))) 4 (nI (kp - 1))) := by
              funext j_ x_
              by_cases e0 : j_ = 0
              · subst e0
                by_cases y0 : x_ = 0
                · subst y0; rfl
                · by_cases y1 : x_ = 1
                  · subst y1; rfl
                  · by_cases y2 : x_ = 2
                    · subst y2; rfl
                    · by_cases y3 : x_ = 3
                      · subst y3; rfl
                      · by_cases y4 : x_ = 4
                        · subst y4; rfl
                        · simp [sr, upd, y0, y1, y2, y3, y4]
              · by_cases e4 : j_ = 4
                · subst e4; rfl
                · by_cases e15 : j_ = 15
                  · subst e15; rfl
                  · simp only [sr, e0, e4, e15, if_false]
            rw [hst_] at hw
            refine lv_iinc (v := nI (h + 1)) (lv' := [(3, .int (nI (h + 1))), (0, .ref (a 68)), (1, .ref (a 41)), (2, .int (nI (3 + 3)))]) hC.1 hC.2.1 dX7_restore_119 hl (k := 3) rfl (nI_add _ _) (by decide) rfl (fun ls hl => ?_)
            refine lv_goto (tgt := 90) hC.1 hC.2.1 dX7_restore_122 (by decide) ?_
            rw [upr_s] at hw
            exact ih90 (h + 1) (by omega) (by omega) _ _ _ hw (lv_sub hl [1, 2, 3, 0] rfl)
          refine q_cmpne hC 117 cI dX7_restore_110 (by decide) (fun (c7 : ¬ ((σ 41 ((3 + 3) + h)) = 1)) => ?_) (fun (c7 : (σ 41 ((3 + 3) + h)) = 1) => ?_)
          · refine lv_iconst (v := nI 0) hC.1 hC.2.1 dX7_restore_117 (by decide) ?_
            exact J118_6 _ (if_neg c7).symm _ _ _ hw (lv_sub hl [0, 1, 2, 3] rfl)
          · refine lv_iconst (v := nI 1) hC.1 hC.2.1 dX7_restore_113 (by decide) ?_
            refine lv_goto (tgt := 118) hC.1 hC.2.1 dX7_restore_114 (by decide) ?_
            exact J118_6 _ (if_pos c7).symm _ _ _ hw (lv_sub hl [0, 1, 2, 3] rfl)
    have hst_ : sr (sr σ 15 (va_cpy (σ 41) (σ 15) 3 0 3)) 0 (upd (upd (upd (upd (upd (σ 0) 0 (σ 41 0)) 1 (σ 41 1)) 2 (σ 41 2)) 3 (nI (if 12 ≠ 0 then (12 - 1) else 29))) 4 (nI (kp - 1))) = sr (sr (sr σ 4 (upr (σ 41) 0 (σ 4))) 15 (va_cpy (σ 41) (σ 15) 3 0 3)) 0 (upd (upd (upd (upd (upd (σ 0) 0 (σ 41 0)) 1 (σ 41 1)) 2 (σ 41 2)) 3 (nI (if 12 ≠ 0 then (12 - 1) else 29))) 4 (nI (kp - 1))) := by
      funext j_ x_
      by_cases e0 : j_ = 0
      · subst e0
        by_cases y0 : x_ = 0
        · subst y0; rfl
        · by_cases y1 : x_ = 1
          · subst y1; rfl
          · by_cases y2 : x_ = 2
            · subst y2; rfl
            · by_cases y3 : x_ = 3
              · subst y3; rfl
              · by_cases y4 : x_ = 4
                · subst y4; rfl
                · simp [sr, upd, y0, y1, y2, y3, y4]
      · by_cases e4 : j_ = 4
        · subst e4; show σ 4 x_ = upr (σ 41) 0 (σ 4) x_; rw [upr_0]
        · by_cases e15 : j_ = 15
          · subst e15; rfl
          · simp only [sr, e0, e4, e15, if_false]
    rw [hst_] at hw
    exact L90_2 _ 0 (by omega) (Nat.lt_succ_self _) _ _ _ hw (lv_sub hl [3, 2, 1, 0] rfl)
  refine q_ifne hC 13 (cN0 (by omega)) dX7_restore_5 (by decide) (fun (c8 : 12 ≠ 0) => ?_) (fun (c8 : 12 = 0) => ?_)
  · refine lv_aload_n hC.1 hC.2.1 dX7_restore_13 rfl (lv_at hl 0 rfl) ?_
    refine gf_X7_28 (v := nI 12) hC hw hnx dX7_restore_14 ?_
    refine lv_iconst (v := nI 1) hC.1 hC.2.1 dX7_restore_17 (by decide) ?_
    refine q_subN hC (by omega) dX7_restore_18 ?_
    exact J19_2 _ (by (rw [if_pos c8]) <;> rfl) _ _ _ hw (lv_sub hl [0] rfl)
  · refine lv_bipush (v := nI 29) hC.1 hC.2.1 dX7_restore_8 (by decide) ?_
    refine lv_goto (tgt := 19) hC.1 hC.2.1 dX7_restore_10 (by decide) ?_
    exact J19_2 _ (by (rw [if_neg (fun q => q c8)]) <;> rfl) _ _ _ hw (lv_sub hl [0] rfl)
set_option maxHeartbeats 4000000 in
set_option maxRecDepth 100000 in
theorem tX7_restore_k13 (l : Launch) (E : EV) (a : Nat → Nat) (σ : St) (kp : Nat) (hnx : σ 0 3 = nI 13) (hkp : σ 0 4 = nI kp) (hk30 : kp ≤ 30) (hk1 : 1 ≤ kp) : MV l E (XW E a) yX7_restore (Cond.code yX7_restore cX7_restore 4 none) ({ frames := 1, cells := 0, slots := 0, locals := 24 }) [.ref (a 68)] σ (fun u_ => u_ = sr (sr (sr (sr (sr (sr (sr σ 4 (upr (σ 42) 10 (σ 4))) 11 (va_cpy (σ 42) (σ 11) 16 0 24)) 12 (va_cpy (σ 42) (σ 12) 40 0 24)) 13 (va_cpy (σ 42) (σ 13) 64 0 24)) 14 (va_cpy (σ 42) (σ 14) 88 0 24)) 15 (va_cpy (σ 42) (σ 15) 3 0 3)) 0 (upd (upd (upd (upd (upd (σ 0) 0 ((σ 42) 0)) 1 ((σ 42) 1)) 2 ((σ 42) 2)) 3 (nI (if 13 ≠ 0 then 13 - 1 else 29))) 4 (nI (kp - 1)))) := by
  refine MV.mk (by decide +kernel) (Nat.le_of_ble_eq_true rfl) ?_
  intro p e s m args below meth c ls A Q hret hC hw hl
  have hC : Cxt E p s m args meth c cX7_restore 4 none RX7 A := hC
  have hl : lv_has ls 4 [(0, .ref (a 68))] := hl
  refine lv_aload_n hC.1 hC.2.1 dX7_restore_0 rfl (lv_at hl 0 rfl) ?_
  refine lv_aload_n hC.1 hC.2.1 dX7_restore_1 rfl (lv_at hl 0 rfl) ?_
  refine gf_X7_28 (v := nI 13) hC hw hnx dX7_restore_2 ?_
  have J19_2 : ∀ (w1 : Nat), w1 = (if 13 ≠ 0 then (13 - 1) else 29) → ∀ (H : Heap) (locs : List Loc) (ls : Array Slot), Wst E (XW E a) (σ) A s.heap H locs → lv_has ls 4 [(0, .ref (a 68))] → W p l e ({ frames := 1, cells := 0, slots := 0, locals := 24 }) s m args below meth c H locs 0 0 Q (F0 m 19 ls [.int (nI w1), .ref (a 68)]) := by
    intro w1 e2 H locs ls hw hl
    subst e2
    refine pf_X7_28 hC hw dX7_restore_19 (fun H locs hw => ?_)
    have hw : Wst E (XW E a) (sr σ 0 (upd (σ 0) 3 (nI (if 13 ≠ 0 then (13 - 1) else 29)))) A s.heap H locs := hw
    refine lv_aload_n hC.1 hC.2.1 dX7_restore_22 rfl (lv_at hl 0 rfl) ?_
    refine lv_dup hC.1 hC.2.1 dX7_restore_23 rfl ?_
    refine gf_X7_65 (v := nI kp) hC hw hkp dX7_restore_24 ?_
    refine lv_iconst (v := nI 1) hC.1 hC.2.1 dX7_restore_27 (by decide) ?_
    refine q_subN hC (by omega) dX7_restore_28 ?_
    refine pf_X7_65 hC hw dX7_restore_29 (fun H locs hw => ?_)
    have hw : Wst E (XW E a) (sr (sr σ 0 (upd (σ 0) 3 (nI (if 13 ≠ 0 then (13 - 1) else 29)))) 0 (upd (upd (σ 0) 3 (nI (if 13 ≠ 0 then (13 - 1) else 29))) 4 (nI (kp - 1)))) A s.heap H locs := hw
    have hst_ : sr (sr σ 0 (upd (σ 0) 3 (nI (if 13 ≠ 0 then (13 - 1) else 29)))) 0 (upd (upd (σ 0) 3 (nI (if 13 ≠ 0 then (13 - 1) else 29))) 4 (nI (kp - 1))) = sr σ 0 (upd (upd (σ 0) 3 (nI (if 13 ≠ 0 then (13 - 1) else 29))) 4 (nI (kp - 1))) := by
      funext j_ x_
      by_cases e0 : j_ = 0
      · subst e0
        by_cases y3 : x_ = 3
        · subst y3; rfl
        · by_cases y4 : x_ = 4
          · subst y4; rfl
          · simp [sr, upd, y3, y4]
      · simp only [sr, e0, if_false]
    rw [hst_] at hw
    refine lv_aload_n hC.1 hC.2.1 dX7_restore_32 rfl (lv_at hl 0 rfl) ?_
    refine gf_X7_13 hC hw dX7_restore_33 ?_
    refine lv_aload_n hC.1 hC.2.1 dX7_restore_36 rfl (lv_at hl 0 rfl) ?_
    refine gf_X7_28 (v := nI (if 13 ≠ 0 then (13 - 1) else 29)) hC hw rfl dX7_restore_37 ?_
    refine q_top (y := nI 12) rfl ?_
    refine q_aald hC hw (i := 12) (by decide) dX7_restore_40 ?_
    refine lv_astore_n (lv' := [(1, .ref (a 42)), (0, .ref (a 68))]) hC.1 hC.2.1 dX7_restore_41 rfl hl (by decide) rfl (fun ls hl => ?_)
    refine lv_aload_n hC.1 hC.2.1 dX7_restore_42 rfl (lv_at hl 1 rfl) ?_
    refine gf_X7_16 hC hw dX7_restore_43 ?_
    refine lv_aload_n hC.1 hC.2.1 dX7_restore_46 rfl (lv_at hl 0 rfl) ?_
    refine lv_iconst (v := nI 0) hC.1 hC.2.1 dX7_restore_47 (by decide) ?_
    refine q_ald (Wf := XW E a) (v := σ 42 0) 52 rfl (by decide) hC hw (by omega) rfl dX7_restore_48 ?_
    refine pf_X7_32 hC hw dX7_restore_49 (fun H locs hw => ?_)
    have hw : Wst E (XW E a) (sr (sr σ 0 (upd (upd (σ 0) 3 (nI (if 13 ≠ 0 then (13 - 1) else 29))) 4 (nI (kp - 1)))) 0 (upd (upd (upd (σ 0) 3 (nI (if 13 ≠ 0 then (13 - 1) else 29))) 4 (nI (kp - 1))) 0 (σ 42 0))) A s.heap H locs := hw
    have hst_ : sr (sr σ 0 (upd (upd (σ 0) 3 (nI (if 13 ≠ 0 then (13 - 1) else 29))) 4 (nI (kp - 1)))) 0 (upd (upd (upd (σ 0) 3 (nI (if 13 ≠ 0 then (13 - 1) else 29))) 4 (nI (kp - 1))) 0 (σ 42 0)) = sr σ 0 (upd (upd (upd (σ 0) 0 (σ 42 0)) 3 (nI (if 13 ≠ 0 then (13 - 1) else 29))) 4 (nI (kp - 1))) := by
      funext j_ x_
      by_cases e0 : j_ = 0
      · subst e0
        by_cases y0 : x_ = 0
        · subst y0; rfl
        · by_cases y3 : x_ = 3
          · subst y3; rfl
          · by_cases y4 : x_ = 4
            · subst y4; rfl
            · simp [sr, upd, y0, y3, y4]
      · simp only [sr, e0, if_false]
    rw [hst_] at hw
    refine lv_aload_n hC.1 hC.2.1 dX7_restore_52 rfl (lv_at hl 1 rfl) ?_
    refine gf_X7_20 hC hw dX7_restore_53 ?_
    refine lv_aload_n hC.1 hC.2.1 dX7_restore_56 rfl (lv_at hl 0 rfl) ?_
    refine lv_iconst (v := nI 1) hC.1 hC.2.1 dX7_restore_57 (by decide) ?_
    refine q_ald (Wf := XW E a) (v := σ 42 1) 52 rfl (by decide) hC hw (by omega) rfl dX7_restore_58 ?_
    refine pf_X7_37 hC hw dX7_restore_59 (fun H locs hw => ?_)
    have hw : Wst E (XW E a) (sr (sr σ 0 (upd (upd (upd (σ 0) 0 (σ 42 0)) 3 (nI (if 13 ≠ 0 then (13 - 1) else 29))) 4 (nI (kp - 1)))) 0 (upd (upd (upd (upd (σ 0) 0 (σ 42 0)) 3 (nI (if 13 ≠ 0 then (13 - 1) else 29))) 4 (nI (kp - 1))) 1 (σ 42 1))) A s.heap H locs := hw
    have hst_ : sr (sr σ 0 (upd (upd (upd (σ 0) 0 (σ 42 0)) 3 (nI (if 13 ≠ 0 then (13 - 1) else 29))) 4 (nI (kp - 1)))) 0 (upd (upd (upd (upd (σ 0) 0 (σ 42 0)) 3 (nI (if 13 ≠ 0 then (13 - 1) else 29))) 4 (nI (kp - 1))) 1 (σ 42 1)) = sr σ 0 (upd (upd (upd (upd (σ 0) 0 (σ 42 0)) 1 (σ 42 1)) 3 (nI (if 13 ≠ 0 then (13 - 1) else 29))) 4 (nI (kp - 1))) := by
      funext j_ x_
      by_cases e0 : j_ = 0
      · subst e0
        by_cases y0 : x_ = 0
        · subst y0; rfl
        · by_cases y1 : x_ = 1
          · subst y1; rfl
          · by_cases y3 : x_ = 3
            · subst y3; rfl
            · by_cases y4 : x_ = 4
              · subst y4; rfl
              · simp [sr, upd, y0, y1, y3, y4]
      · simp only [sr, e0, if_false]
    rw [hst_] at hw
    refine lv_aload_n hC.1 hC.2.1 dX7_restore_62 rfl (lv_at hl 1 rfl) ?_
    refine gf_X7_20 hC hw dX7_restore_63 ?_
    refine lv_aload_n hC.1 hC.2.1 dX7_restore_66 rfl (lv_at hl 0 rfl) ?_
    refine lv_iconst (v := nI 2) hC.1 hC.2.1 dX7_restore_67 (by decide) ?_
    refine q_ald (Wf := XW E a) (v := σ 42 2) 52 rfl (by decide) hC hw (by omega) rfl dX7_restore_68 ?_
    refine pf_X7_40 hC hw dX7_restore_69 (fun H locs hw => ?_)
    have hw : Wst E (XW E a) (sr (sr σ 0 (upd (upd (upd (upd (σ 0) 0 (σ 42 0)) 1 (σ 42 1)) 3 (nI (if 13 ≠ 0 then (13 - 1) else 29))) 4 (nI (kp - 1)))) 0 (upd (upd (upd (upd (upd (σ 0) 0 (σ 42 0)) 1 (σ 42 1)) 3 (nI (if 13 ≠ 0 then (13 - 1) else 29))) 4 (nI (kp - 1))) 2 (σ 42 2))) A s.heap H locs := hw
    have hst_ : sr (sr σ 0 (upd (upd (upd (upd (σ 0) 0 (σ 42 0)) 1 (σ 42 1)) 3 (nI (if 13 ≠ 0 then (13 - 1) else 29))) 4 (nI (kp - 1)))) 0 (upd (upd (upd (upd (upd (σ 0) 0 (σ 42 0)) 1 (σ 42 1)) 3 (nI (if 13 ≠ 0 then (13 - 1) else 29))) 4 (nI (kp - 1))) 2 (σ 42 2)) = sr σ 0 (upd (upd (upd (upd (upd (σ 0) 0 (σ 42 0)) 1 (σ 42 1)) 2 (σ 42 2)) 3 (nI (if 13 ≠ 0 then (13 - 1) else 29))) 4 (nI (kp - 1))) := by
      funext j_ x_
      by_cases e0 : j_ = 0
      · subst e0
        by_cases y0 : x_ = 0
        · subst y0; rfl
        · by_cases y1 : x_ = 1
          · subst y1; rfl
          · by_cases y2 : x_ = 2
            · subst y2; rfl
            · by_cases y3 : x_ = 3
              · subst y3; rfl
              · by_cases y4 : x_ = 4
                · subst y4; rfl
                · simp [sr, upd, y0, y1, y2, y3, y4]
      · simp only [sr, e0, if_false]
    rw [hst_] at hw
    refine lv_iconst (v := nI 3) hC.1 hC.2.1 dX7_restore_72 (by decide) ?_
    refine lv_istore_n (lv' := [(2, .int (nI 3)), (1, .ref (a 42)), (0, .ref (a 68))]) hC.1 hC.2.1 dX7_restore_73 rfl hl (by decide) rfl (fun ls hl => ?_)
    refine lv_aload_n hC.1 hC.2.1 dX7_restore_74 rfl (lv_at hl 1 rfl) ?_
    refine lv_iload_n hC.1 hC.2.1 dX7_restore_75 rfl (lv_at hl 0 rfl) ?_
    refine lv_aload_n hC.1 hC.2.1 dX7_restore_76 rfl (lv_at hl 2 rfl) ?_
    refine gf_X7_24 hC hw dX7_restore_77 ?_
    refine lv_iconst (v := nI 0) hC.1 hC.2.1 dX7_restore_80 (by decide) ?_
    refine lv_iconst (v := nI 3) hC.1 hC.2.1 dX7_restore_81 (by decide) ?_
    refine q_cpy (sp := 3) (dp := 0) (n := 3) 52 rfl 25 rfl (XW_s15 _) hC hw hl (by omega) (by omega) (by decide) (by decide) ⟨Nat.le_of_ble_eq_true rfl, Nat.le_of_ble_eq_true rfl⟩ wk2_182 dX7_restore_82 (fun H locs hw => ?_)
    have hw : Wst E (XW E a) (sr (sr σ 0 (upd (upd (upd (upd (upd (σ 0) 0 (σ 42 0)) 1 (σ 42 1)) 2 (σ 42 2)) 3 (nI (if 13 ≠ 0 then (13 - 1) else 29))) 4 (nI (kp - 1)))) 15 (va_cpy (σ 42) (σ 15) 3 0 3)) A s.heap H locs := hw
    have hst_ : sr (sr σ 0 (upd (upd (upd (upd (upd (σ 0) 0 (σ 42 0)) 1 (σ 42 1)) 2 (σ 42 2)) 3 (nI (if 13 ≠ 0 then (13 - 1) else 29))) 4 (nI (kp - 1)))) 15 (va_cpy (σ 42) (σ 15) 3 0 3) = sr (sr σ 15 (va_cpy (σ 42) (σ 15) 3 0 3)) 0 (upd (upd (upd (upd (upd (σ 0) 0 (σ 42 0)) 1 (σ 42 1)) 2 (σ 42 2)) 3 (nI (if 13 ≠ 0 then (13 - 1) else 29))) 4 (nI (kp - 1))) := by
      funext j_ x_
      by_cases e0 : j_ = 0
      · subst e0
        by_cases y0 : x_ = 0
        · subst y0; rfl
        · by_cases y1 : x_ = 1
          · subst y1; rfl
          · by_cases y2 : x_ = 2
            · subst y2; rfl
            · by_cases y3 : x_ = 3
              · subst y3; rfl
              · by_cases y4 : x_ = 4
                · subst y4; rfl
                · simp [sr, upd, y0, y1, y2, y3, y4]
      · by_cases e15 : j_ = 15
        · subst e15; rfl
        · simp only [sr, e0, e15, if_false]
    rw [hst_] at hw
    refine lv_iinc (v := nI (3 + 3)) (lv' := [(2, .int (nI (3 + 3))), (1, .ref (a 42)), (0, .ref (a 68))]) hC.1 hC.2.1 dX7_restore_85 hl (k := 0) rfl (nI_add _ _) (by decide) rfl (fun ls hl => ?_)
    refine lv_iconst (v := nI 0) hC.1 hC.2.1 dX7_restore_88 (by decide) ?_
    refine lv_istore_n (lv' := [(3, .int (nI 0)), (2, .int (nI (3 + 3))), (1, .ref (a 42)), (0, .ref (a 68))]) hC.1 hC.2.1 dX7_restore_89 rfl hl (by decide) rfl (fun ls hl => ?_)
    have L90_2 : ∀ (n : Nat), ∀ (h : Nat), (h ≤ 10) → (10 - h) < n → ∀ (H : Heap) (locs : List Loc) (ls : Array Slot), Wst E (XW E a) (sr (sr (sr σ 4 (upr (σ 42) h (σ 4))) 15 (va_cpy (σ 42) (σ 15) 3 0 3)) 0 (upd (upd (upd (upd (upd (σ 0) 0 (σ 42 0)) 1 (σ 42 1)) 2 (σ 42 2)) 3 (nI (if 13 ≠ 0 then (13 - 1) else 29))) 4 (nI (kp - 1)))) A s.heap H locs → lv_has ls 4 [(0, .ref (a 68)), (1, .ref (a 42)), (2, .int (nI (3 + 3))), (3, .int (nI h))] → W p l e ({ frames := 1, cells := 0, slots := 0, locals := 24 }) s m args below meth c H locs 0 0 Q (F0 m 90 ls []) := by
      intro n
      induction n with
      | zero => intro h hh hn; exact absurd hn (Nat.not_lt_zero _)
      | succ n ih90 =>
        intro h hh hn90 H locs ls hw hl
        refine lv_iload_n hC.1 hC.2.1 dX7_restore_90 rfl (lv_at hl 3 rfl) ?_
        refine lv_bipush (v := nI 10) hC.1 hC.2.1 dX7_restore_91 (by decide) ?_
        refine q_cmpge hC 125 (cNle (by omega) (by omega)) dX7_restore_93 (by decide) (fun (c4 : 10 ≤ h) => ?_) (fun (c4 : h < 10) => ?_)
        · have hh9 : h = 10 := by omega
          rw [hh9] at hw
          refine lv_iinc (v := nI (3 + 3 + 10)) (lv' := [(2, .int (nI (3 + 3 + 10))), (0, .ref (a 68)), (1, .ref (a 42)), (3, .int (nI h))]) hC.1 hC.2.1 dX7_restore_125 hl (k := 2) rfl (nI_add _ _) (by decide) rfl (fun ls hl => ?_)
          refine lv_aload_n hC.1 hC.2.1 dX7_restore_128 rfl (lv_at hl 2 rfl) ?_
          refine lv_iload_n hC.1 hC.2.1 dX7_restore_129 rfl (lv_at hl 0 rfl) ?_
          refine lv_aload_n hC.1 hC.2.1 dX7_restore_130 rfl (lv_at hl 1 rfl) ?_
          refine gf_X7_20 hC hw dX7_restore_131 ?_
          refine gf_X7_53 hC hw dX7_restore_134 ?_
          refine lv_iconst (v := nI 0) hC.1 hC.2.1 dX7_restore_137 (by decide) ?_
          refine lv_bipush (v := nI 24) hC.1 hC.2.1 dX7_restore_138 (by decide) ?_
          refine q_cpy (sp := (3 + 3 + 10)) (dp := 0) (n := 24) 52 rfl 21 rfl (XW_s11 _) hC hw hl (by omega) (by omega) (by decide) (by decide) ⟨Nat.le_of_ble_eq_true rfl, Nat.le_of_ble_eq_true rfl⟩ wk2_182 dX7_restore_140 (fun H locs hw => ?_)
          have hw : Wst E (XW E a) (sr (sr (sr (sr σ 4 (upr (σ 42) 10 (σ 4))) 15 (va_cpy (σ 42) (σ 15) 3 0 3)) 0 (upd (upd (upd (upd (upd (σ 0) 0 (σ 42 0)) 1 (σ 42 1)) 2 (σ 42 2)) 3 (nI (if 13 ≠ 0 then (13 - 1) else 29))) 4 (nI (kp - 1)))) 11 (va_cpy (σ 42) (σ 11) (3 + 3 + 10) 0 24)) A s.heap H locs := hw
          have hst_ : sr (sr (sr (sr σ 4 (upr (σ 42) 10 (σ 4))) 15 (va_cpy (σ 42) (σ 15) 3 0 3)) 0 (upd (upd (upd (upd (upd (σ 0) 0 (σ 42 0)) 1 (σ 42 1)) 2 (σ 42 2)) 3 (nI (if 13 ≠ 0 then (13 - 1) else 29))) 4 (nI (kp - 1)))) 11 (va_cpy (σ 42) (σ 11) (3 + 3 + 10) 0 24) = sr (sr (sr (sr σ 4 (upr (σ 42) 10 (σ 4))) 11 (va_cpy (σ 42) (σ 11) (3 + 3 + 10) 0 24)) 15 (va_cpy (σ 42) (σ 15) 3 0 3)) 0 (upd (upd (upd (upd (upd (σ 0) 0 (σ 42 0)) 1 (σ 42 1)) 2 (σ 42 2)) 3 (nI (if 13 ≠ 0 then (13 - 1) else 29))) 4 (nI (kp - 1))) := by
            funext j_ x_
            by_cases e0 : j_ = 0
            · subst e0
              by_cases y0 : x_ = 0
              · subst y0; rfl
              · by_cases y1 : x_ = 1
                · subst y1; rfl
                · by_cases y2 : x_ = 2
                  · subst y2; rfl
                  · by_cases y3 : x_ = 3
                    · subst y3; rfl
                    · by_cases y4 : x_ = 4
                      · subst y4; rfl
                      · simp [sr, upd, y0, y1, y2, y3, y4]
            · by_cases e4 : j_ = 4
              · subst e4; rfl
              · by_cases e11 : j_ = 11
                · subst e11; rfl
                · by_cases e15 : j_ = 15
                  · subst e15; rfl
                  · simp only [sr, e0, e4, e11, e15, if_false]
          rw [hst_] at hw
          refine lv_aload_n hC.1 hC.2.1 dX7_restore_143 rfl (lv_at hl 2 rfl) ?_
          refine lv_iload_n hC.1 hC.2.1 dX7_restore_144 rfl (lv_at hl 0 rfl) ?_
          refine lv_bipush (v := nI 24) hC.1 hC.2.1 dX7_restore_145 (by decide) ?_
          refine q_addN hC dX7_restore_147 ?_
          refine lv_aload_n hC.1 hC.2.1 dX7_restore_148 rfl (lv_at hl 1 rfl) ?_
          refine gf_X7_20 hC hw dX7_restore_149 ?_
          refine gf_X7_56 hC hw dX7_restore_152 ?_
          refine lv_iconst (v := nI 0) hC.1 hC.2.1 dX7_restore_155 (by decide) ?_
          refine lv_bipush (v := nI 24) hC.1 hC.2.1 dX7_restore_156 (by decide) ?_
          refine q_cpy (sp := ((3 + 3 + 10) + 24)) (dp := 0) (n := 24) 52 rfl 22 rfl (XW_s12 _) hC hw hl (by omega) (by omega) (by decide) (by decide) ⟨Nat.le_of_ble_eq_true rfl, Nat.le_of_ble_eq_true rfl⟩ wk2_182 dX7_restore_158 (fun H locs hw => ?_)
          have hw : Wst E (XW E a) (sr (sr (sr (sr (sr σ 4 (upr (σ 42) 10 (σ 4))) 11 (va_cpy (σ 42) (σ 11) (3 + 3 + 10) 0 24)) 15 (va_cpy (σ 42) (σ 15) 3 0 3)) 0 (upd (upd (upd (upd (upd (σ 0) 0 (σ 42 0)) 1 (σ 42 1)) 2 (σ 42 2)) 3 (nI (if 13 ≠ 0 then (13 - 1) else 29))) 4 (nI (kp - 1)))) 12 (va_cpy (σ 42) (σ 12) ((3 + 3 + 10) + 24) 0 24)) A s.heap H locs := hw
          have hst_ : sr (sr (sr (sr (sr σ 4 (upr (σ 42) 10 (σ 4))) 11 (va_cpy (σ 42) (σ 11) (3 + 3 + 10) 0 24)) 15 (va_cpy (σ 42) (σ 15) 3 0 3)) 0 (upd (upd (upd (upd (upd (σ 0) 0 (σ 42 0)) 1 (σ 42 1)) 2 (σ 42 2)) 3 (nI (if 13 ≠ 0 then (13 - 1) else 29))) 4 (nI (kp - 1)))) 12 (va_cpy (σ 42) (σ 12) ((3 + 3 + 10) + 24) 0 24) = sr (sr (sr (sr (sr σ 4 (upr (σ 42) 10 (σ 4))) 11 (va_cpy (σ 42) (σ 11) (3 + 3 + 10) 0 24)) 12 (va_cpy (σ 42) (σ 12) ((3 + 3 + 10) + 24) 0 24)) 15 (va_cpy (σ 42) (σ 15) 3 0 3)) 0 (upd (upd (upd (upd (upd (σ 0) 0 (σ 42 0)) 1 (σ 42 1)) 2 (σ 42 2)) 3 (nI (if 13 ≠ 0 then (13 - 1) else 29))) 4 (nI (kp - 1))) := by
            funext j_ x_
            by_cases e0 : j_ = 0
            · subst e0
              by_cases y0 : x_ = 0
              · subst y0; rfl
              · by_cases y1 : x_ = 1
                · subst y1; rfl
                · by_cases y2 : x_ = 2
                  · subst y2; rfl
                  · by_cases y3 : x_ = 3
                    · subst y3; rfl
                    · by_cases y4 : x_ = 4
                      · subst y4; rfl
                      · simp [sr, upd, y0, y1, y2, y3, y4]
            · by_cases e4 : j_ = 4
              · subst e4; rfl
              · by_cases e11 : j_ = 11
                · subst e11; rfl
                · by_cases e12 : j_ = 12
                  · subst e12; rfl
                  · by_cases e15 : j_ = 15
                    · subst e15; rfl
                    · simp only [sr, e0, e4, e11, e12, e15, if_false]
          rw [hst_] at hw
          refine lv_aload_n hC.1 hC.2.1 dX7_restore_161 rfl (lv_at hl 2 rfl) ?_
          refine lv_iload_n hC.1 hC.2.1 dX7_restore_162 rfl (lv_at hl 0 rfl) ?_
          refine lv_bipush (v := nI 48) hC.1 hC.2.1 dX7_restore_163 (by decide) ?_
          refine q_addN hC dX7_restore_165 ?_
          refine lv_aload_n hC.1 hC.2.1 dX7_restore_166 rfl (lv_at hl 1 rfl) ?_
          refine gf_X7_20 hC hw dX7_restore_167 ?_
          refine gf_X7_59 hC hw dX7_restore_170 ?_
          refine lv_iconst (v := nI 0) hC.1 hC.2.1 dX7_restore_173 (by decide) ?_
          refine lv_bipush (v := nI 24) hC.1 hC.2.1 dX7_restore_174 (by decide) ?_
          refine q_cpy (sp := ((3 + 3 + 10) + 48)) (dp := 0) (n := 24) 52 rfl 23 rfl (XW_s13 _) hC hw hl (by omega) (by omega) (by decide) (by decide) ⟨Nat.le_of_ble_eq_true rfl, Nat.le_of_ble_eq_true rfl⟩ wk2_182 dX7_restore_176 (fun H locs hw => ?_)
          have hw : Wst E (XW E a) (sr (sr (sr (sr (sr (sr σ 4 (upr (σ 42) 10 (σ 4))) 11 (va_cpy (σ 42) (σ 11) (3 + 3 + 10) 0 24)) 12 (va_cpy (σ 42) (σ 12) ((3 + 3 + 10) + 24) 0 24)) 15 (va_cpy (σ 42) (σ 15) 3 0 3)) 0 (upd (upd (upd (upd (upd (σ 0) 0 (σ 42 0)) 1 (σ 42 1)) 2 (σ 42 2)) 3 (nI (if 13 ≠ 0 then (13 - 1) else 29))) 4 (nI (kp - 1)))) 13 (va_cpy (σ 42) (σ 13) ((3 + 3 + 10) + 48) 0 24)) A s.heap H locs := hw
          have hst_ : sr (sr (sr (sr (sr (sr σ 4 (upr (σ 42) 10 (σ 4))) 11 (va_cpy (σ 42) (σ 11) (3 + 3 + 10) 0 24)) 12 (va_cpy (σ 42) (σ 12) ((3 + 3 + 10) + 24) 0 24)) 15 (va_cpy (σ 42) (σ 15) 3 0 3)) 0 (upd (upd (upd (upd (upd (σ 0) 0 (σ 42 0)) 1 (σ 42 1)) 2 (σ 42 2)) 3 (nI (if 13 ≠ 0 then (13 - 1) else 29))) 4 (nI (kp - 1)))) 13 (va_cpy (σ 42) (σ 13) ((3 + 3 + 10) + 48) 0 24) = sr (sr (sr (sr (sr (sr σ 4 (upr (σ 42) 10 (σ 4))) 11 (va_cpy (σ 42) (σ 11) (3 + 3 + 10) 0 24)) 12 (va_cpy (σ 42) (σ 12) ((3 + 3 + 10) + 24) 0 24)) 13 (va_cpy (σ 42) (σ 13) ((3 + 3 + 10) + 48) 0 24)) 15 (va_cpy (σ 42) (σ 15) 3 0 3)) 0 (upd (upd (upd (upd (upd (σ 0) 0 (σ 42 0)) 1 (σ 42 1)) 2 (σ 42 2)) 3 (nI (if 13 ≠ 0 then (13 - 1) else 29))) 4 (nI (kp - 1))) := by
            funext j_ x_
            by_cases e0 : j_ = 0
            · subst e0
              by_cases y0 : x_ = 0
              · subst y0; rfl
              · by_cases y1 : x_ = 1
                · subst y1; rfl
                · by_cases y2 : x_ = 2
                  · subst y2; rfl
                  · by_cases y3 : x_ = 3
                    · subst y3; rfl
                    · by_cases y4 : x_ = 4
                      · subst y4; rfl
                      · simp [sr, upd, y0, y1, y2, y3, y4]
            · by_cases e4 : j_ = 4
              · subst e4; rfl
              · by_cases e11 : j_ = 11
                · subst e11; rfl
                · by_cases e12 : j_ = 12
                  · subst e12; rfl
                  · by_cases e13 : j_ = 13
                    · subst e13; rfl
                    · by_cases e15 : j_ = 15
                      · subst e15; rfl
                      · simp only [sr, e0, e4, e11, e12, e13, e15, if_false]
          rw [hst_] at hw
          refine lv_aload_n hC.1 hC.2.1 dX7_restore_179 rfl (lv_at hl 2 rfl) ?_
          refine lv_iload_n hC.1 hC.2.1 dX7_restore_180 rfl (lv_at hl 0 rfl) ?_
          refine lv_bipush (v := nI 72) hC.1 hC.2.1 dX7_restore_181 (by decide) ?_
          refine q_addN hC dX7_restore_183 ?_
          refine lv_aload_n hC.1 hC.2.1 dX7_restore_184 rfl (lv_at hl 1 rfl) ?_
          refine gf_X7_20 hC hw dX7_restore_185 ?_
          refine gf_X7_62 hC hw dX7_restore_188 ?_
          refine lv_iconst (v := nI 0) hC.1 hC.2.1 dX7_restore_191 (by decide) ?_
          refine lv_bipush (v := nI 24) hC.1 hC.2.1 dX7_restore_192 (by decide) ?_
          refine q_cpy (sp := ((3 + 3 + 10) + 72)) (dp := 0) (n := 24) 52 rfl 24 rfl (XW_s14 _) hC hw hl (by omega) (by omega) (by decide) (by decide) ⟨Nat.le_of_ble_eq_true rfl, Nat.le_of_ble_eq_true rfl⟩ wk2_182 dX7_restore_194 (fun H locs hw => ?_)
          have hw : Wst E (XW E a) (sr (sr (sr (sr (sr (sr (sr σ 4 (upr (σ 42) 10 (σ 4))) 11 (va_cpy (σ 42) (σ 11) (3 + 3 + 10) 0 24)) 12 (va_cpy (σ 42) (σ 12) ((3 + 3 + 10) + 24) 0 24)) 13 (va_cpy (σ 42) (σ 13) ((3 + 3 + 10) + 48) 0 24)) 15 (va_cpy (σ 42) (σ 15) 3 0 3)) 0 (upd (upd (upd (upd (upd (σ 0) 0 (σ 42 0)) 1 (σ 42 1)) 2 (σ 42 2)) 3 (nI (if 13 ≠ 0 then (13 - 1) else 29))) 4 (nI (kp - 1)))) 14 (va_cpy (σ 42) (σ 14) ((3 + 3 + 10) + 72) 0 24)) A s.heap H locs := hw
          have hst_ : sr (sr (sr (sr (sr (sr (sr σ 4 (upr (σ 42) 10 (σ 4))) 11 (va_cpy (σ 42) (σ 11) (3 + 3 + 10) 0 24)) 12 (va_cpy (σ 42) (σ 12) ((3 + 3 + 10) + 24) 0 24)) 13 (va_cpy (σ 42) (σ 13) ((3 + 3 + 10) + 48) 0 24)) 15 (va_cpy (σ 42) (σ 15) 3 0 3)) 0 (upd (upd (upd (upd (upd (σ 0) 0 (σ 42 0)) 1 (σ 42 1)) 2 (σ 42 2)) 3 (nI (if 13 ≠ 0 then (13 - 1) else 29))) 4 (nI (kp - 1)))) 14 (va_cpy (σ 42) (σ 14) ((3 + 3 + 10) + 72) 0 24) = sr (sr (sr (sr (sr (sr (sr σ 4 (upr (σ 42) 10 (σ 4))) 11 (va_cpy (σ 42) (σ 11) (3 + 3 + 10) 0 24)) 12 (va_cpy (σ 42) (σ 12) ((3 + 3 + 10) + 24) 0 24)) 13 (va_cpy (σ 42) (σ 13) ((3 + 3 + 10) + 48) 0 24)) 14 (va_cpy (σ 42) (σ 14) ((3 + 3 + 10) + 72) 0 24)) 15 (va_cpy (σ 42) (σ 15) 3 0 3)) 0 (upd (upd (upd (upd (upd (σ 0) 0 (σ 42 0)) 1 (σ 42 1)) 2 (σ 42 2)) 3 (nI (if 13 ≠ 0 then (13 - 1) else 29))) 4 (nI (kp - 1))) := by
            funext j_ x_
            by_cases e0 : j_ = 0
            · subst e0
              by_cases y0 : x_ = 0
              · subst y0; rfl
              · by_cases y1 : x_ = 1
                · subst y1; rfl
                · by_cases y2 : x_ = 2
                  · subst y2; rfl
                  · by_cases y3 : x_ = 3
                    · subst y3; rfl
                    · by_cases y4 : x_ = 4
                      · subst y4; rfl
                      · simp [sr, upd, y0, y1, y2, y3, y4]
            · by_cases e4 : j_ = 4
              · subst e4; rfl
              · by_cases e11 : j_ = 11
                · subst e11; rfl
                · by_cases e12 : j_ = 12
                  · subst e12; rfl
                  · by_cases e13 : j_ = 13
                    · subst e13; rfl
                    · by_cases e14 : j_ = 14
                      · subst e14; rfl
                      · by_cases e15 : j_ = 15
                        · subst e15; rfl
                        · simp only [sr, e0, e4, e11, e12, e13, e14, e15, if_false]
          rw [hst_] at hw
          refine hret _ _ _ _ _ hw ?_ dX7_restore_197
          exact rfl
        · refine lv_aload_n hC.1 hC.2.1 dX7_restore_96 rfl (lv_at hl 0 rfl) ?_
          refine gf_X7_16 hC hw dX7_restore_97 ?_
          refine gf_X7_49 hC hw dX7_restore_100 ?_
          refine lv_iload_n hC.1 hC.2.1 dX7_restore_103 rfl (lv_at hl 3 rfl) ?_
          refine lv_aload_n hC.1 hC.2.1 dX7_restore_104 rfl (lv_at hl 1 rfl) ?_
          refine lv_iload_n hC.1 hC.2.1 dX7_restore_105 rfl (lv_at hl 2 rfl) ?_
          refine lv_iload_n hC.1 hC.2.1 dX7_restore_106 rfl (lv_at hl 3 rfl) ?_
          refine q_addN hC dX7_restore_107 ?_
          refine q_ald (Wf := XW E a) (v := σ 42 ((3 + 3) + h)) 52 rfl (by decide) hC hw (by omega) rfl dX7_restore_108 ?_
          refine lv_iconst (v := nI 1) hC.1 hC.2.1 dX7_restore_109 (by decide) ?_
          have J118_6 : ∀ (w5 : Int32), w5 = (if (σ 42 ((3 + 3) + h)) = 1 then (1 : Int32) else 0) → ∀ (H : Heap) (locs : List Loc) (ls : Array Slot), Wst E (XW E a) (sr (sr (sr σ 4 (upr (σ 42) h (σ 4))) 15 (va_cpy (σ 42) (σ 15) 3 0 3)) 0 (upd (upd (upd (upd (upd (σ 0) 0 (σ 42 0)) 1 (σ 42 1)) 2 (σ 42 2)) 3 (nI (if 13 ≠ 0 then (13 - 1) else 29))) 4 (nI (kp - 1)))) A s.heap H locs → lv_has ls 4 [(0, .ref (a 68)), (1, .ref (a 42)), (2, .int (nI (3 + 3))), (3, .int (nI h))] → W p l e ({ frames := 1, cells := 0, slots := 0, locals := 24 }) s m args below meth c H locs 0 0 Q (F0 m 118 ls [.int (w5), .int (nI h), .ref (a 4)]) := by
            intro w5 e6 H locs ls hw hl
            subst e6
            refine as_X4 hC hw (by omega) vz_B dX7_restore_118 (fun H locs hw => ?_)
            have hw : Wst E (XW E a) (sr (sr (sr (sr σ 4 (upr (σ 42) h (σ 4))) 15 (va_cpy (σ 42) (σ 15) 3 0 3)) 0 (upd (upd (upd (upd (upd (σ 0) 0 (σ 42 0)) 1 (σ 42 1)) 2 (σ 42 2)) 3 (nI (if 13 ≠ 0 then (13 - 1) else 29))) 4 (nI (kp - 1)))) 4 (upd (upr (σ 42) h (σ 4)) h (if (σ 42 ((3 + 3) + h)) = 1 then (1 : Int32) else 0))) A s.heap H locs := hw
            have hst_ : sr (sr (sr (sr σ 4 (upr (σ 42) h (σ 4))) 15 (va_cpy (σ 42) (σ 15) 3 0 3)) 0 (upd (upd (upd (upd (upd (σ 0) 0 (σ 42 0)) 1 (σ 42 1)) 2 (σ 42 2)) 3 (nI (if 13 ≠ 0 then (13 - 1) else 29))) 4 (nI (kp - 1)))) 4 (upd (upr (σ 42) h (σ 4)) h (if (σ 42 ((3 + 3) + h)) = 1 then (1 : Int32) else 0)) = sr (sr (sr σ 4 (upd (upr (σ 42) h (σ 4)) h (if (σ 42 ((3 + 3) + h)) = 1 then (1 : Int32) else 0))) 15 (va_cpy (σ 42) (σ 15) 3 0 3)) 0 (upd (upd (upd (upd (upd (σ 0) 0 (σ 42 0)) 1 (σ 42 1)) 2 (σ 42 2)) 3 (nI (if 13 ≠ 0 then (13 - 1) else 29))) 4 (nI (kp - 1))) := by
              funext j_ x_
              by_cases e0 : j_ = 0
              · subst e0
                by_cases y0 : x_ = 0
                · subst y0; rfl
                · by_cases y1 : x_ = 1
                  · subst y1; rfl
                  · by_cases y2 : x_ = 2
                    · subst y2; rfl
                    · by_cases y3 : x_ = 3
                      · subst y3; rfl
                      · by_cases y4 : x_ = 4
                        · subst y4; rfl
                        · simp [sr, upd, y0, y1, y2, y3, y4]
              · by_cases e4 : j_ = 4
                · subst e4; rfl
                · by_cases e15 : j_ = 15
                  · subst e15; rfl
                  · simp only [sr, e0, e4, e15, if_false]
            rw [hst_] at hw
            refine lv_iinc (v := nI (h + 1)) (lv' := [(3, .int (nI (h + 1))), (0, .ref (a 68)), (1, .ref (a 42)), (2, .int (nI (3 + 3)))]) hC.1 hC.2.1 dX7_restore_119 hl (k := 3) rfl (nI_add _ _) (by decide) rfl (fun ls hl => ?_)
            refine lv_goto (tgt := 90) hC.1 hC.2.1 dX7_restore_122 (by decide) ?_
            rw [upr_s] at hw
            exact ih90 (h + 1) (by omega) (by omega) _ _ _ hw (lv_sub hl [1, 2, 3, 0] rfl)
          refine q_cmpne hC 117 cI dX7_restore_110 (by decide) (fun (c7 : ¬ ((σ 42 ((3 + 3) + h)) = 1)) => ?_) (fun (c7 : (σ 42 ((3 + 3) + h)) = 1) => ?_)
          · refine lv_iconst (v := nI 0) hC.1 hC.2.1 dX7_restore_117 (by decide) ?_
            exact J118_6 _ (if_neg c7).symm _ _ _ hw (lv_sub hl [0, 1, 2, 3] rfl)
          · refine lv_iconst (v := nI 1) hC.1 hC.2.1 dX7_restore_113 (by decide) ?_
            refine lv_goto (tgt := 118) hC.1 hC.2.1 dX7_restore_114 (by decide) ?_
            exact J118_6 _ (if_pos c7).symm _ _ _ hw (lv_sub hl [0, 1, 2, 3] rfl)
    have hst_ : sr (sr σ 15 (va_cpy (σ 42) (σ 15) 3 0 3)) 0 (upd (upd (upd (upd (upd (σ 0) 0 (σ 42 0)) 1 (σ 42 1)) 2 (σ 42 2)) 3 (nI (if 13 ≠ 0 then (13 - 1) else 29))) 4 (nI (kp - 1))) = sr (sr (sr σ 4 (upr (σ 42) 0 (σ 4))) 15 (va_cpy (σ 42) (σ 15) 3 0 3)) 0 (upd (upd (upd (upd (upd (σ 0) 0 (σ 42 0)) 1 (σ 42 1)) 2 (σ 42 2)) 3 (nI (if 13 ≠ 0 then (13 - 1) else 29))) 4 (nI (kp - 1))) := by
      funext j_ x_
      by_cases e0 : j_ = 0
      · subst e0
        by_cases y0 : x_ = 0
        · subst y0; rfl
        · by_cases y1 : x_ = 1
          · subst y1; rfl
          · by_cases y2 : x_ = 2
            · subst y2; rfl
            · by_cases y3 : x_ = 3
              · subst y3; rfl
              · by_cases y4 : x_ = 4
                · subst y4; rfl
                · simp [sr, upd, y0, y1, y2, y3, y4]
      · by_cases e4 : j_ = 4
        · subst e4; show σ 4 x_ = upr (σ 42) 0 (σ 4) x_; rw [upr_0]
        · by_cases e15 : j_ = 15
          · subst e15; rfl
          · simp only [sr, e0, e4, e15, if_false]
    rw [hst_] at hw
    exact L90_2 _ 0 (by omega) (Nat.lt_succ_self _) _ _ _ hw (lv_sub hl [3, 2, 1, 0] rfl)
  refine q_ifne hC 13 (cN0 (by omega)) dX7_restore_5 (by decide) (fun (c8 : 13 ≠ 0) => ?_) (fun (c8 : 13 = 0) => ?_)
  · refine lv_aload_n hC.1 hC.2.1 dX7_restore_13 rfl (lv_at hl 0 rfl) ?_
    refine gf_X7_28 (v := nI 13) hC hw hnx dX7_restore_14 ?_
    refine lv_iconst (v := nI 1) hC.1 hC.2.1 dX7_restore_17 (by decide) ?_
    refine q_subN hC (by omega) dX7_restore_18 ?_
    exact J19_2 _ (by (rw [if_pos c8]) <;> rfl) _ _ _ hw (lv_sub hl [0] rfl)
  · refine lv_bipush (v := nI 29) hC.1 hC.2.1 dX7_restore_8 (by decide) ?_
    refine lv_goto (tgt := 19) hC.1 hC.2.1 dX7_restore_10 (by decide) ?_
    exact J19_2 _ (by (rw [if_neg (fun q => q c8)]) <;> rfl) _ _ _ hw (lv_sub hl [0] rfl)
set_option maxHeartbeats 4000000 in
set_option maxRecDepth 100000 in
theorem tX7_restore_k14 (l : Launch) (E : EV) (a : Nat → Nat) (σ : St) (kp : Nat) (hnx : σ 0 3 = nI 14) (hkp : σ 0 4 = nI kp) (hk30 : kp ≤ 30) (hk1 : 1 ≤ kp) : MV l E (XW E a) yX7_restore (Cond.code yX7_restore cX7_restore 4 none) ({ frames := 1, cells := 0, slots := 0, locals := 24 }) [.ref (a 68)] σ (fun u_ => u_ = sr (sr (sr (sr (sr (sr (sr σ 4 (upr (σ 43) 10 (σ 4))) 11 (va_cpy (σ 43) (σ 11) 16 0 24)) 12 (va_cpy (σ 43) (σ 12) 40 0 24)) 13 (va_cpy (σ 43) (σ 13) 64 0 24)) 14 (va_cpy (σ 43) (σ 14) 88 0 24)) 15 (va_cpy (σ 43) (σ 15) 3 0 3)) 0 (upd (upd (upd (upd (upd (σ 0) 0 ((σ 43) 0)) 1 ((σ 43) 1)) 2 ((σ 43) 2)) 3 (nI (if 14 ≠ 0 then 14 - 1 else 29))) 4 (nI (kp - 1)))) := by
  refine MV.mk (by decide +kernel) (Nat.le_of_ble_eq_true rfl) ?_
  intro p e s m args below meth c ls A Q hret hC hw hl
  have hC : Cxt E p s m args meth c cX7_restore 4 none RX7 A := hC
  have hl : lv_has ls 4 [(0, .ref (a 68))] := hl
  refine lv_aload_n hC.1 hC.2.1 dX7_restore_0 rfl (lv_at hl 0 rfl) ?_
  refine lv_aload_n hC.1 hC.2.1 dX7_restore_1 rfl (lv_at hl 0 rfl) ?_
  refine gf_X7_28 (v := nI 14) hC hw hnx dX7_restore_2 ?_
  have J19_2 : ∀ (w1 : Nat), w1 = (if 14 ≠ 0 then (14 - 1) else 29) → ∀ (H : Heap) (locs : List Loc) (ls : Array Slot), Wst E (XW E a) (σ) A s.heap H locs → lv_has ls 4 [(0, .ref (a 68))] → W p l e ({ frames := 1, cells := 0, slots := 0, locals := 24 }) s m args below meth c H locs 0 0 Q (F0 m 19 ls [.int (nI w1), .ref (a 68)]) := by
    intro w1 e2 H locs ls hw hl
    subst e2
    refine pf_X7_28 hC hw dX7_restore_19 (fun H locs hw => ?_)
    have hw : Wst E (XW E a) (sr σ 0 (upd (σ 0) 3 (nI (if 14 ≠ 0 then (14 - 1) else 29)))) A s.heap H locs := hw
    refine lv_aload_n hC.1 hC.2.1 dX7_restore_22 rfl (lv_at hl 0 rfl) ?_
    refine lv_dup hC.1 hC.2.1 dX7_restore_23 rfl ?_
    refine gf_X7_65 (v := nI kp) hC hw hkp dX7_restore_24 ?_
    refine lv_iconst (v := nI 1) hC.1 hC.2.1 dX7_restore_27 (by decide) ?_
    refine q_subN hC (by omega) dX7_restore_28 ?_
    refine pf_X7_65 hC hw dX7_restore_29 (fun H locs hw => ?_)
    have hw : Wst E (XW E a) (sr (sr σ 0 (upd (σ 0) 3 (nI (if 14 ≠ 0 then (14 - 1) else 29)))) 0 (upd (upd (σ 0) 3 (nI (if 14 ≠ 0 then (14 - 1) else 29))) 4 (nI (kp - 1)))) A s.heap H locs := hw
    have hst_ : sr (sr σ 0 (upd (σ 0) 3 (nI (if 14 ≠ 0 then (14 - 1) else 29)))) 0 (upd (upd (σ 0) 3 (nI (if 14 ≠ 0 then (14 - 1) else 29))) 4 (nI (kp - 1))) = sr σ 0 (upd (upd (σ 0) 3 (nI (if 14 ≠ 0 then (14 - 1) else 29))) 4 (nI (kp - 1))) := by
      funext j_ x_
      by_cases e0 : j_ = 0
      · subst e0
        by_cases y3 : x_ = 3
        · subst y3; rfl
        · by_cases y4 : x_ = 4
          · subst y4; rfl
          · simp [sr, upd, y3, y4]
      · simp only [sr, e0, if_false]
    rw [hst_] at hw
    refine lv_aload_n hC.1 hC.2.1 dX7_restore_32 rfl (lv_at hl 0 rfl) ?_
    refine gf_X7_13 hC hw dX7_restore_33 ?_
    refine lv_aload_n hC.1 hC.2.1 dX7_restore_36 rfl (lv_at hl 0 rfl) ?_
    refine gf_X7_28 (v := nI (if 14 ≠ 0 then (14 - 1) else 29)) hC hw rfl dX7_restore_37 ?_
    refine q_top (y := nI 13) rfl ?_
    refine q_aald hC hw (i := 13) (by decide) dX7_restore_40 ?_
    refine lv_astore_n (lv' := [(1, .ref (a 43)), (0, .ref (a 68))]) hC.1 hC.2.1 dX7_restore_41 rfl hl (by decide) rfl (fun ls hl => ?_)
    refine lv_aload_n hC.1 hC.2.1 dX7_restore_42 rfl (lv_at hl 1 rfl) ?_
    refine gf_X7_16 hC hw dX7_restore_43 ?_
    refine lv_aload_n hC.1 hC.2.1 dX7_restore_46 rfl (lv_at hl 0 rfl) ?_
    refine lv_iconst (v := nI 0) hC.1 hC.2.1 dX7_restore_47 (by decide) ?_
    refine q_ald (Wf := XW E a) (v := σ 43 0) 53 rfl (by decide) hC hw (by omega) rfl dX7_restore_48 ?_
    refine pf_X7_32 hC hw dX7_restore_49 (fun H locs hw => ?_)
    have hw : Wst E (XW E a) (sr (sr σ 0 (upd (upd (σ 0) 3 (nI (if 14 ≠ 0 then (14 - 1) else 29))) 4 (nI (kp - 1)))) 0 (upd (upd (upd (σ 0) 3 (nI (if 14 ≠ 0 then (14 - 1) else 29))) 4 (nI (kp - 1))) 0 (σ 43 0))) A s.heap H locs := hw
    have hst_ : sr (sr σ 0 (upd (upd (σ 0) 3 (nI (if 14 ≠ 0 then (14 - 1) else 29))) 4 (nI (kp - 1)))) 0 (upd (upd (upd (σ 0) 3 (nI (if 14 ≠ 0 then (14 - 1) else 29))) 4 (nI (kp - 1))) 0 (σ 43 0)) = sr σ 0 (upd (upd (upd (σ 0) 0 (σ 43 0)) 3 (nI (if 14 ≠ 0 then (14 - 1) else 29))) 4 (nI (kp - 1))) := by
      funext j_ x_
      by_cases e0 : j_ = 0
      · subst e0
        by_cases y0 : x_ = 0
        · subst y0; rfl
        · by_cases y3 : x_ = 3
          · subst y3; rfl
          · by_cases y4 : x_ = 4
            · subst y4; rfl
            · simp [sr, upd, y0, y3, y4]
      · simp only [sr, e0, if_false]
    rw [hst_] at hw
    refine lv_aload_n hC.1 hC.2.1 dX7_restore_52 rfl (lv_at hl 1 rfl) ?_
    refine gf_X7_20 hC hw dX7_restore_53 ?_
    refine lv_aload_n hC.1 hC.2.1 dX7_restore_56 rfl (lv_at hl 0 rfl) ?_
    refine lv_iconst (v := nI 1) hC.1 hC.2.1 dX7_restore_57 (by decide) ?_
    refine q_ald (Wf := XW E a) (v := σ 43 1) 53 rfl (by decide) hC hw (by omega) rfl dX7_restore_58 ?_
    refine pf_X7_37 hC hw dX7_restore_59 (fun H locs hw => ?_)
    have hw : Wst E (XW E a) (sr (sr σ 0 (upd (upd (upd (σ 0) 0 (σ 43 0)) 3 (nI (if 14 ≠ 0 then (14 - 1) else 29))) 4 (nI (kp - 1)))) 0 (upd (upd (upd (upd (σ 0) 0 (σ 43 0)) 3 (nI (if 14 ≠ 0 then (14 - 1) else 29))) 4 (nI (kp - 1))) 1 (σ 43 1))) A s.heap H locs := hw
    have hst_ : sr (sr σ 0 (upd (upd (upd (σ 0) 0 (σ 43 0)) 3 (nI (if 14 ≠ 0 then (14 - 1) else 29))) 4 (nI (kp - 1)))) 0 (upd (upd (upd (upd (σ 0) 0 (σ 43 0)) 3 (nI (if 14 ≠ 0 then (14 - 1) else 29))) 4 (nI (kp - 1))) 1 (σ 43 1)) = sr σ 0 (upd (upd (upd (upd (σ 0) 0 (σ 43 0)) 1 (σ 43 1)) 3 (nI (if 14 ≠ 0 then (14 - 1) else 29))) 4 (nI (kp - 1))) := by
      funext j_ x_
      by_cases e0 : j_ = 0
      · subst e0
        by_cases y0 : x_ = 0
        · subst y0; rfl
        · by_cases y1 : x_ = 1
          · subst y1; rfl
          · by_cases y3 : x_ = 3
            · subst y3; rfl
            · by_cases y4 : x_ = 4
              · subst y4; rfl
              · simp [sr, upd, y0, y1, y3, y4]
      · simp only [sr, e0, if_false]
    rw [hst_] at hw
    refine lv_aload_n hC.1 hC.2.1 dX7_restore_62 rfl (lv_at hl 1 rfl) ?_
    refine gf_X7_20 hC hw dX7_restore_63 ?_
    refine lv_aload_n hC.1 hC.2.1 dX7_restore_66 rfl (lv_at hl 0 rfl) ?_
    refine lv_iconst (v := nI 2) hC.1 hC.2.1 dX7_restore_67 (by decide) ?_
    refine q_ald (Wf := XW E a) (v := σ 43 2) 53 rfl (by decide) hC hw (by omega) rfl dX7_restore_68 ?_
    refine pf_X7_40 hC hw dX7_restore_69 (fun H locs hw => ?_)
    have hw : Wst E (XW E a) (sr (sr σ 0 (upd (upd (upd (upd (σ 0) 0 (σ 43 0)) 1 (σ 43 1)) 3 (nI (if 14 ≠ 0 then (14 - 1) else 29))) 4 (nI (kp - 1)))) 0 (upd (upd (upd (upd (upd (σ 0) 0 (σ 43 0)) 1 (σ 43 1)) 3 (nI (if 14 ≠ 0 then (14 - 1) else 29))) 4 (nI (kp - 1))) 2 (σ 43 2))) A s.heap H locs := hw
    have hst_ : sr (sr σ 0 (upd (upd (upd (upd (σ 0) 0 (σ 43 0)) 1 (σ 43 1)) 3 (nI (if 14 ≠ 0 then (14 - 1) else 29))) 4 (nI (kp - 1)))) 0 (upd (upd (upd (upd (upd (σ 0) 0 (σ 43 0)) 1 (σ 43 1)) 3 (nI (if 14 ≠ 0 then (14 - 1) else 29))) 4 (nI (kp - 1))) 2 (σ 43 2)) = sr σ 0 (upd (upd (upd (upd (upd (σ 0) 0 (σ 43 0)) 1 (σ 43 1)) 2 (σ 43 2)) 3 (nI (if 14 ≠ 0 then (14 - 1) else 29))) 4 (nI (kp - 1))) := by
      funext j_ x_
      by_cases e0 : j_ = 0
      · subst e0
        by_cases y0 : x_ = 0
        · subst y0; rfl
        · by_cases y1 : x_ = 1
          · subst y1; rfl
          · by_cases y2 : x_ = 2
            · subst y2; rfl
            · by_cases y3 : x_ = 3
              · subst y3; rfl
              · by_cases y4 : x_ = 4
                · subst y4; rfl
                · simp [sr, upd, y0, y1, y2, y3, y4]
      · simp only [sr, e0, if_false]
    rw [hst_] at hw
    refine lv_iconst (v := nI 3) hC.1 hC.2.1 dX7_restore_72 (by decide) ?_
    refine lv_istore_n (lv' := [(2, .int (nI 3)), (1, .ref (a 43)), (0, .ref (a 68))]) hC.1 hC.2.1 dX7_restore_73 rfl hl (by decide) rfl (fun ls hl => ?_)
    refine lv_aload_n hC.1 hC.2.1 dX7_restore_74 rfl (lv_at hl 1 rfl) ?_
    refine lv_iload_n hC.1 hC.2.1 dX7_restore_75 rfl (lv_at hl 0 rfl) ?_
    refine lv_aload_n hC.1 hC.2.1 dX7_restore_76 rfl (lv_at hl 2 rfl) ?_
    refine gf_X7_24 hC hw dX7_restore_77 ?_
    refine lv_iconst (v := nI 0) hC.1 hC.2.1 dX7_restore_80 (by decide) ?_
    refine lv_iconst (v := nI 3) hC.1 hC.2.1 dX7_restore_81 (by decide) ?_
    refine q_cpy (sp := 3) (dp := 0) (n := 3) 53 rfl 25 rfl (XW_s15 _) hC hw hl (by omega) (by omega) (by decide) (by decide) ⟨Nat.le_of_ble_eq_true rfl, Nat.le_of_ble_eq_true rfl⟩ wk2_182 dX7_restore_82 (fun H locs hw => ?_)
    have hw : Wst E (XW E a) (sr (sr σ 0 (upd (upd (upd (upd (upd (σ 0) 0 (σ 43 0)) 1 (σ 43 1)) 2 (σ 43 2)) 3 (nI (if 14 ≠ 0 then (14 - 1) else 29))) 4 (nI (kp - 1)))) 15 (va_cpy (σ 43) (σ 15) 3 0 3)) A s.heap H locs := hw
    have hst_ : sr (sr σ 0 (upd (upd (upd (upd (upd (σ 0) 0 (σ 43 0)) 1 (σ 43 1)) 2 (σ 43 2)) 3 (nI (if 14 ≠ 0 then (14 - 1) else 29))) 4 (nI (kp - 1)))) 15 (va_cpy (σ 43) (σ 15) 3 0 3) = sr (sr σ 15 (va_cpy (σ 43) (σ 15) 3 0 3)) 0 (upd (upd (upd (upd (upd (σ 0) 0 (σ 43 0)) 1 (σ 43 1)) 2 (σ 43 2)) 3 (nI (if 14 ≠ 0 then (14 - 1) else 29))) 4 (nI (kp - 1))) := by
      funext j_ x_
      by_cases e0 : j_ = 0
      · subst e0
        by_cases y0 : x_ = 0
        · subst y0; rfl
        · by_cases y1 : x_ = 1
          · subst y1; rfl
          · by_cases y2 : x_ = 2
            · subst y2; rfl
            · by_cases y3 : x_ = 3
              · subst y3; rfl
              · by_cases y4 : x_ = 4
                · subst y4; rfl
                · simp [sr, upd, y0, y1, y2, y3, y4]
      · by_cases e15 : j_ = 15
        · subst e15; rfl
        · simp only [sr, e0, e15, if_false]
    rw [hst_] at hw
    refine lv_iinc (v := nI (3 + 3)) (lv' := [(2, .int (nI (3 + 3))), (1, .ref (a 43)), (0, .ref (a 68))]) hC.1 hC.2.1 dX7_restore_85 hl (k := 0) rfl (nI_add _ _) (by decide) rfl (fun ls hl => ?_)
    refine lv_iconst (v := nI 0) hC.1 hC.2.1 dX7_restore_88 (by decide) ?_
    refine lv_istore_n (lv' := [(3, .int (nI 0)), (2, .int (nI (3 + 3))), (1, .ref (a 43)), (0, .ref (a 68))]) hC.1 hC.2.1 dX7_restore_89 rfl hl (by decide) rfl (fun ls hl => ?_)
    have L90_2 : ∀ (n : Nat), ∀ (h : Nat), (h ≤ 10) → (10 - h) < n → ∀ (H : Heap) (locs : List Loc) (ls : Array Slot), Wst E (XW E a) (sr (sr (sr σ 4 (upr (σ 43) h (σ 4))) 15 (va_cpy (σ 43) (σ 15) 3 0 3)) 0 (upd (upd (upd (upd (upd (σ 0) 0 (σ 43 0)) 1 (σ 43 1)) 2 (σ 43 2)) 3 (nI (if 14 ≠ 0 then (14 - 1) else 29))) 4 (nI (kp - 1)))) A s.heap H locs → lv_has ls 4 [(0, .ref (a 68)), (1, .ref (a 43)), (2, .int (nI (3 + 3))), (3, .int (nI h))] → W p l e ({ frames := 1, cells := 0, slots := 0, locals := 24 }) s m args below meth c H locs 0 0 Q (F0 m 90 ls []) := by
      intro n
      induction n with
      | zero => intro h hh hn; exact absurd hn (Nat.not_lt_zero _)
      | succ n ih90 =>
        intro h hh hn90 H locs ls hw hl
        refine lv_iload_n hC.1 hC.2.1 dX7_restore_90 rfl (lv_at hl 3 rfl) ?_
        refine lv_bipush (v := nI 10) hC.1 hC.2.1 dX7_restore_91 (by decide) ?_
        refine q_cmpge hC 125 (cNle (by omega) (by omega)) dX7_restore_93 (by decide) (fun (c4 : 10 ≤ h) => ?_) (fun (c4 : h < 10) => ?_)
        · have hh9 : h = 10 := by omega
          rw [hh9] at hw
          refine lv_iinc (v := nI (3 + 3 + 10)) (lv' := [(2, .int (nI (3 + 3 + 10))), (0, .ref (a 68)), (1, .ref (a 43)), (3, .int (nI h))]) hC.1 hC.2.1 dX7_restore_125 hl (k := 2) rfl (nI_add _ _) (by decide) rfl (fun ls hl => ?_)
          refine lv_aload_n hC.1 hC.2.1 dX7_restore_128 rfl (lv_at hl 2 rfl) ?_
          refine lv_iload_n hC.1 hC.2.1 dX7_restore_129 rfl (lv_at hl 0 rfl) ?_
          refine lv_aload_n hC.1 hC.2.1 dX7_restore_130 rfl (lv_at hl 1 rfl) ?_
          refine gf_X7_20 hC hw dX7_restore_131 ?_
          refine gf_X7_53 hC hw dX7_restore_134 ?_
          refine lv_iconst (v := nI 0) hC.1 hC.2.1 dX7_restore_137 (by decide) ?_
          refine lv_bipush (v := nI 24) hC.1 hC.2.1 dX7_restore_138 (by decide) ?_
          refine q_cpy (sp := (3 + 3 + 10)) (dp := 0) (n := 24) 53 rfl 21 rfl (XW_s11 _) hC hw hl (by omega) (by omega) (by decide) (by decide) ⟨Nat.le_of_ble_eq_true rfl, Nat.le_of_ble_eq_true rfl⟩ wk2_182 dX7_restore_140 (fun H locs hw => ?_)
          have hw : Wst E (XW E a) (sr (sr (sr (sr σ 4 (upr (σ 43) 10 (σ 4))) 15 (va_cpy (σ 43) (σ 15) 3 0 3)) 0 (upd (upd (upd (upd (upd (σ 0) 0 (σ 43 0)) 1 (σ 43 1)) 2 (σ 43 2)) 3 (nI (if 14 ≠ 0 then (14 - 1) else 29))) 4 (nI (kp - 1)))) 11 (va_cpy (σ 43) (σ 11) (3 + 3 + 10) 0 24)) A s.heap H locs := hw
          have hst_ : sr (sr (sr (sr σ 4 (upr (σ 43) 10 (σ 4))) 15 (va_cpy (σ 43) (σ 15) 3 0 3)) 0 (upd (upd (upd (upd (upd (σ 0) 0 (σ 43 0)) 1 (σ 43 1)) 2 (σ 43 2)) 3 (nI (if 14 ≠ 0 then (14 - 1) else 29))) 4 (nI (kp - 1)))) 11 (va_cpy (σ 43) (σ 11) (3 + 3 + 10) 0 24) = sr (sr (sr (sr σ 4 (upr (σ 43) 10 (σ 4))) 11 (va_cpy (σ 43) (σ 11) (3 + 3 + 10) 0 24)) 15 (va_cpy (σ 43) (σ 15) 3 0 3)) 0 (upd (upd (upd (upd (upd (σ 0) 0 (σ 43 0)) 1 (σ 43 1)) 2 (σ 43 2)) 3 (nI (if 14 ≠ 0 then (14 - 1) else 29))) 4 (nI (kp - 1))) := by
            funext j_ x_
            by_cases e0 : j_ = 0
            · subst e0
              by_cases y0 : x_ = 0
              · subst y0; rfl
              · by_cases y1 : x_ = 1
                · subst y1; rfl
                · by_cases y2 : x_ = 2
                  · subst y2; rfl
                  · by_cases y3 : x_ = 3
                    · subst y3; rfl
                    · by_cases y4 : x_ = 4
                      · subst y4; rfl
                      · simp [sr, upd, y0, y1, y2, y3, y4]
            · by_cases e4 : j_ = 4
              · subst e4; rfl
              · by_cases e11 : j_ = 11
                · subst e11; rfl
                · by_cases e15 : j_ = 15
                  · subst e15; rfl
                  · simp only [sr, e0, e4, e11, e15, if_false]
          rw [hst_] at hw
          refine lv_aload_n hC.1 hC.2.1 dX7_restore_143 rfl (lv_at hl 2 rfl) ?_
          refine lv_iload_n hC.1 hC.2.1 dX7_restore_144 rfl (lv_at hl 0 rfl) ?_
          refine lv_bipush (v := nI 24) hC.1 hC.2.1 dX7_restore_145 (by decide) ?_
          refine q_addN hC dX7_restore_147 ?_
          refine lv_aload_n hC.1 hC.2.1 dX7_restore_148 rfl (lv_at hl 1 rfl) ?_
          refine gf_X7_20 hC hw dX7_restore_149 ?_
          refine gf_X7_56 hC hw dX7_restore_152 ?_
          refine lv_iconst (v := nI 0) hC.1 hC.2.1 dX7_restore_155 (by decide) ?_
          refine lv_bipush (v := nI 24) hC.1 hC.2.1 dX7_restore_156 (by decide) ?_
          refine q_cpy (sp := ((3 + 3 + 10) + 24)) (dp := 0) (n := 24) 53 rfl 22 rfl (XW_s12 _) hC hw hl (by omega) (by omega) (by decide) (by decide) ⟨Nat.le_of_ble_eq_true rfl, Nat.le_of_ble_eq_true rfl⟩ wk2_182 dX7_restore_158 (fun H locs hw => ?_)
          have hw : Wst E (XW E a) (sr (sr (sr (sr (sr σ 4 (upr (σ 43) 10 (σ 4))) 11 (va_cpy (σ 43) (σ 11) (3 + 3 + 10) 0 24)) 15 (va_cpy (σ 43) (σ 15) 3 0 3)) 0 (upd (upd (upd (upd (upd (σ 0) 0 (σ 43 0)) 1 (σ 43 1)) 2 (σ 43 2)) 3 (nI (if 14 ≠ 0 then (14 - 1) else 29))) 4 (nI (kp - 1)))) 12 (va_cpy (σ 43) (σ 12) ((3 + 3 + 10) + 24) 0 24)) A s.heap H locs := hw
          have hst_ : sr (sr (sr (sr (sr σ 4 (upr (σ 43) 10 (σ 4))) 11 (va_cpy (σ 43) (σ 11) (3 + 3 + 10) 0 24)) 15 (va_cpy (σ 43) (σ 15) 3 0 3)) 0 (upd (upd (upd (upd (upd (σ 0) 0 (σ 43 0)) 1 (σ 43 1)) 2 (σ 43 2)) 3 (nI (if 14 ≠ 0 then (14 - 1) else 29))) 4 (nI (kp - 1)))) 12 (va_cpy (σ 43) (σ 12) ((3 + 3 + 10) + 24) 0 24) = sr (sr (sr (sr (sr σ 4 (upr (σ 43) 10 (σ 4))) 11 (va_cpy (σ 43) (σ 11) (3 + 3 + 10) 0 24)) 12 (va_cpy (σ 43) (σ 12) ((3 + 3 + 10) + 24) 0 24)) 15 (va_cpy (σ 43) (σ 15) 3 0 3)) 0 (upd (upd (upd (upd (upd (σ 0) 0 (σ 43 0)) 1 (σ 43 1)) 2 (σ 43 2)) 3 (nI (if 14 ≠ 0 then (14 - 1) else 29))) 4 (nI (kp - 1))) := by
            funext j_ x_
            by_cases e0 : j_ = 0
            · subst e0
              by_cases y0 : x_ = 0
              · subst y0; rfl
              · by_cases y1 : x_ = 1
                · subst y1; rfl
                · by_cases y2 : x_ = 2
                  · subst y2; rfl
                  · by_cases y3 : x_ = 3
                    · subst y3; rfl
                    · by_cases y4 : x_ = 4
                      · subst y4; rfl
                      · simp [sr, upd, y0, y1, y2, y3, y4]
            · by_cases e4 : j_ = 4
              · subst e4; rfl
              · by_cases e11 : j_ = 11
                · subst e11; rfl
                · by_cases e12 : j_ = 12
                  · subst e12; rfl
                  · by_cases e15 : j_ = 15
                    · subst e15; rfl
                    · simp only [sr, e0, e4, e11, e12, e15, if_false]
          rw [hst_] at hw
          refine lv_aload_n hC.1 hC.2.1 dX7_restore_161 rfl (lv_at hl 2 rfl) ?_
          refine lv_iload_n hC.1 hC.2.1 dX7_restore_162 rfl (lv_at hl 0 rfl) ?_
          refine lv_bipush (v := nI 48) hC.1 hC.2.1 dX7_restore_163 (by decide) ?_
          refine q_addN hC dX7_restore_165 ?_
          refine lv_aload_n hC.1 hC.2.1 dX7_restore_166 rfl (lv_at hl 1 rfl) ?_
          refine gf_X7_20 hC hw dX7_restore_167 ?_
          refine gf_X7_59 hC hw dX7_restore_170 ?_
          refine lv_iconst (v := nI 0) hC.1 hC.2.1 dX7_restore_173 (by decide) ?_
          refine lv_bipush (v := nI 24) hC.1 hC.2.1 dX7_restore_174 (by decide) ?_
          refine q_cpy (sp := ((3 + 3 + 10) + 48)) (dp := 0) (n := 24) 53 rfl 23 rfl (XW_s13 _) hC hw hl (by omega) (by omega) (by decide) (by decide) ⟨Nat.le_of_ble_eq_true rfl, Nat.le_of_ble_eq_true rfl⟩ wk2_182 dX7_restore_176 (fun H locs hw => ?_)
          have hw : Wst E (XW E a) (sr (sr (sr (sr (sr (sr σ 4 (upr (σ 43) 10 (σ 4))) 11 (va_cpy (σ 43) (σ 11) (3 + 3 + 10) 0 24)) 12 (va_cpy (σ 43) (σ 12) ((3 + 3 + 10) + 24) 0 24)) 15 (va_cpy (σ 43) (σ 15) 3 0 3)) 0 (upd (upd (upd (upd (upd (σ 0) 0 (σ 43 0)) 1 (σ 43 1)) 2 (σ 43 2)) 3 (nI (if 14 ≠ 0 then (14 - 1) else 29))) 4 (nI (kp - 1)))) 13 (va_cpy (σ 43) (σ 13) ((3 + 3 + 10) + 48) 0 24)) A s.heap H locs := hw
          have hst_ : sr (sr (sr (sr (sr (sr σ 4 (upr (σ 43) 10 (σ 4))) 11 (va_cpy (σ 43) (σ 11) (3 + 3 + 10) 0 24)) 12 (va_cpy (σ 43) (σ 12) ((3 + 3 + 10) + 24) 0 24)) 15 (va_cpy (σ 43) (σ 15) 3 0 3)) 0 (upd (upd (upd (upd (upd (σ 0) 0 (σ 43 0)) 1 (σ 43 1)) 2 (σ 43 2)) 3 (nI (if 14 ≠ 0 then (14 - 1) else 29))) 4 (nI (kp - 1)))) 13 (va_cpy (σ 43) (σ 13) ((3 + 3 + 10) + 48) 0 24) = sr (sr (sr (sr (sr (sr σ 4 (upr (σ 43) 10 (σ 4))) 11 (va_cpy (σ 43) (σ 11) (3 + 3 + 10) 0 24)) 12 (va_cpy (σ 43) (σ 12) ((3 + 3 + 10) + 24) 0 24)) 13 (va_cpy (σ 43) (σ 13) ((3 + 3 + 10) + 48) 0 24)) 15 (va_cpy (σ 43) (σ 15) 3 0 3)) 0 (upd (upd (upd (upd (upd (σ 0) 0 (σ 43 0)) 1 (σ 43 1)) 2 (σ 43 2)) 3 (nI (if 14 ≠ 0 then (14 - 1) else 29))) 4 (nI (kp - 1))) := by
            funext j_ x_
            by_cases e0 : j_ = 0
            · subst e0
              by_cases y0 : x_ = 0
              · subst y0; rfl
              · by_cases y1 : x_ = 1
                · subst y1; rfl
                · by_cases y2 : x_ = 2
                  · subst y2; rfl
                  · by_cases y3 : x_ = 3
                    · subst y3; rfl
                    · by_cases y4 : x_ = 4
                      · subst y4; rfl
                      · simp [sr, upd, y0, y1, y2, y3, y4]
            · by_cases e4 : j_ = 4
              · subst e4; rfl
              · by_cases e11 : j_ = 11
                · subst e11; rfl
                · by_cases e12 : j_ = 12
                  · subst e12; rfl
                  · by_cases e13 : j_ = 13
                    · subst e13; rfl
                    · by_cases e15 : j_ = 15
                      · subst e15; rfl
                      · simp only [sr, e0, e4, e11, e12, e13, e15, if_false]
          rw [hst_] at hw
          refine lv_aload_n hC.1 hC.2.1 dX7_restore_179 rfl (lv_at hl 2 rfl) ?_
          refine lv_iload_n hC.1 hC.2.1 dX7_restore_180 rfl (lv_at hl 0 rfl) ?_
          refine lv_bipush (v := nI 72) hC.1 hC.2.1 dX7_restore_181 (by decide) ?_
          refine q_addN hC dX7_restore_183 ?_
          refine lv_aload_n hC.1 hC.2.1 dX7_restore_184 rfl (lv_at hl 1 rfl) ?_
          refine gf_X7_20 hC hw dX7_restore_185 ?_
          refine gf_X7_62 hC hw dX7_restore_188 ?_
          refine lv_iconst (v := nI 0) hC.1 hC.2.1 dX7_restore_191 (by decide) ?_
          refine lv_bipush (v := nI 24) hC.1 hC.2.1 dX7_restore_192 (by decide) ?_
          refine q_cpy (sp := ((3 + 3 + 10) + 72)) (dp := 0) (n := 24) 53 rfl 24 rfl (XW_s14 _) hC hw hl (by omega) (by omega) (by decide) (by decide) ⟨Nat.le_of_ble_eq_true rfl, Nat.le_of_ble_eq_true rfl⟩ wk2_182 dX7_restore_194 (fun H locs hw => ?_)
          have hw : Wst E (XW E a) (sr (sr (sr (sr (sr (sr (sr σ 4 (upr (σ 43) 10 (σ 4))) 11 (va_cpy (σ 43) (σ 11) (3 + 3 + 10) 0 24)) 12 (va_cpy (σ 43) (σ 12) ((3 + 3 + 10) + 24) 0 24)) 13 (va_cpy (σ 43) (σ 13) ((3 + 3 + 10) + 48) 0 24)) 15 (va_cpy (σ 43) (σ 15) 3 0 3)) 0 (upd (upd (upd (upd (upd (σ 0) 0 (σ 43 0)) 1 (σ 43 1)) 2 (σ 43 2)) 3 (nI (if 14 ≠ 0 then (14 - 1) else 29))) 4 (nI (kp - 1)))) 14 (va_cpy (σ 43) (σ 14) ((3 + 3 + 10) + 72) 0 24)) A s.heap H locs := hw
          have hst_ : sr (sr (sr (sr (sr (sr (sr σ 4 (upr (σ 43) 10 (σ 4))) 11 (va_cpy (σ 43) (σ 11) (3 + 3 + 10) 0 24)) 12 (va_cpy (σ 43) (σ 12) ((3 + 3 + 10) + 24) 0 24)) 13 (va_cpy (σ 43) (σ 13) ((3 + 3 + 10) + 48) 0 24)) 15 (va_cpy (σ 43) (σ 15) 3 0 3)) 0 (upd (upd (upd (upd (upd (σ 0) 0 (σ 43 0)) 1 (σ 43 1)) 2 (σ 43 2)) 3 (nI (if 14 ≠ 0 then (14 - 1) else 29))) 4 (nI (kp - 1)))) 14 (va_cpy (σ 43) (σ 14) ((3 + 3 + 10) + 72) 0 24) = sr (sr (sr (sr (sr (sr (sr σ 4 (upr (σ 43) 10 (σ 4))) 11 (va_cpy (σ 43) (σ 11) (3 + 3 + 10) 0 24)) 12 (va_cpy (σ 43) (σ 12) ((3 + 3 + 10) + 24) 0 24)) 13 (va_cpy (σ 43) (σ 13) ((3 + 3 + 10) + 48) 0 24)) 14 (va_cpy (σ 43) (σ 14) ((3 + 3 + 10) + 72) 0 24)) 15 (va_cpy (σ 43) (σ 15) 3 0 3)) 0 (upd (upd (upd (upd (upd (σ 0) 0 (σ 43 0)) 1 (σ 43 1)) 2 (σ 43 2)) 3 (nI (if 14 ≠ 0 then (14 - 1) else 29))) 4 (nI (kp - 1))) := by
            funext j_ x_
            by_cases e0 : j_ = 0
            · subst e0
              by_cases y0 : x_ = 0
              · subst y0; rfl
              · by_cases y1 : x_ = 1
                · subst y1; rfl
                · by_cases y2 : x_ = 2
                  · subst y2; rfl
                  · by_cases y3 : x_ = 3
                    · subst y3; rfl
                    · by_cases y4 : x_ = 4
                      · subst y4; rfl
                      · simp [sr, upd, y0, y1, y2, y3, y4]
            · by_cases e4 : j_ = 4
              · subst e4; rfl
              · by_cases e11 : j_ = 11
                · subst e11; rfl
                · by_cases e12 : j_ = 12
                  · subst e12; rfl
                  · by_cases e13 : j_ = 13
                    · subst e13; rfl
                    · by_cases e14 : j_ = 14
                      · subst e14; rfl
                      · by_cases e15 : j_ = 15
                        · subst e15; rfl
                        · simp only [sr, e0, e4, e11, e12, e13, e14, e15, if_false]
          rw [hst_] at hw
          refine hret _ _ _ _ _ hw ?_ dX7_restore_197
          exact rfl
        · refine lv_aload_n hC.1 hC.2.1 dX7_restore_96 rfl (lv_at hl 0 rfl) ?_
          refine gf_X7_16 hC hw dX7_restore_97 ?_
          refine gf_X7_49 hC hw dX7_restore_100 ?_
          refine lv_iload_n hC.1 hC.2.1 dX7_restore_103 rfl (lv_at hl 3 rfl) ?_
          refine lv_aload_n hC.1 hC.2.1 dX7_restore_104 rfl (lv_at hl 1 rfl) ?_
          refine lv_iload_n hC.1 hC.2.1 dX7_restore_105 rfl (lv_at hl 2 rfl) ?_
          refine lv_iload_n hC.1 hC.2.1 dX7_restore_106 rfl (lv_at hl 3 rfl) ?_
          refine q_addN hC dX7_restore_107 ?_
          refine q_ald (Wf := XW E a) (v := σ 43 ((3 + 3) + h)) 53 rfl (by decide) hC hw (by omega) rfl dX7_restore_108 ?_
          refine lv_iconst (v := nI 1) hC.1 hC.2.1 dX7_restore_109 (by decide) ?_
          have J118_6 : ∀ (w5 : Int32), w5 = (if (σ 43 ((3 + 3) + h)) = 1 then (1 : Int32) else 0) → ∀ (H : Heap) (locs : List Loc) (ls : Array Slot), Wst E (XW E a) (sr (sr (sr σ 4 (upr (σ 43) h (σ 4))) 15 (va_cpy (σ 43) (σ 15) 3 0 3)) 0 (upd (upd (upd (upd (upd (σ 0) 0 (σ 43 0)) 1 (σ 43 1)) 2 (σ 43 2)) 3 (nI (if 14 ≠ 0 then (14 - 1) else 29))) 4 (nI (kp - 1)))) A s.heap H locs → lv_has ls 4 [(0, .ref (a 68)), (1, .ref (a 43)), (2, .int (nI (3 + 3))), (3, .int (nI h))] → W p l e ({ frames := 1, cells := 0, slots := 0, locals := 24 }) s m args below meth c H locs 0 0 Q (F0 m 118 ls [.int (w5), .int (nI h), .ref (a 4)]) := by
            intro w5 e6 H locs ls hw hl
            subst e6
            refine as_X4 hC hw (by omega) vz_B dX7_restore_118 (fun H locs hw => ?_)
            have hw : Wst E (XW E a) (sr (sr (sr (sr σ 4 (upr (σ 43) h (σ 4))) 15 (va_cpy (σ 43) (σ 15) 3 0 3)) 0 (upd (upd (upd (upd (upd (σ 0) 0 (σ 43 0)) 1 (σ 43 1)) 2 (σ 43 2)) 3 (nI (if 14 ≠ 0 then (14 - 1) else 29))) 4 (nI (kp - 1)))) 4 (upd (upr (σ 43) h (σ 4)) h (if (σ 43 ((3 + 3) + h)) = 1 then (1 : Int32) else 0))) A s.heap H locs := hw
            have hst_ : sr (sr (sr (sr σ 4 (upr (σ 43) h (σ 4))) 15 (va_cpy (σ 43) (σ 15) 3 0 3)) 0 (upd (upd (upd (upd (upd (σ 0) 0 (σ 43 0)) 1 (σ 43 1)) 2 (σ 43 2)) 3 (nI (if 14 ≠ 0 then (14 - 1) else 29))) 4 (nI (kp - 1)))) 4 (upd (upr (σ 43) h (σ 4)) h (if (σ 43 ((3 + 3) + h)) = 1 then (1 : Int32) else 0)) = sr (sr (sr σ 4 (upd (upr (σ 43) h (σ 4)) h (if (σ 43 ((3 + 3) + h)) = 1 then (1 : Int32) else 0))) 15 (va_cpy (σ 43) (σ 15) 3 0 3)) 0 (upd (upd (upd (upd (upd (σ 0) 0 (σ 43 0)) 1 (σ 43 1)) 2 (σ 43 2)) 3 (nI (if 14 ≠ 0 then (14 - 1) else 29))) 4 (nI (kp - 1))) := by
              funext j_ x_
              by_cases e0 : j_ = 0
              · subst e0
                by_cases y0 : x_ = 0
                · subst y0; rfl
                · by_cases y1 : x_ = 1
                  · subst y1; rfl
                  · by_cases y2 : x_ = 2
                    · subst y2; rfl
                    · by_cases y3 : x_ = 3
                      · subst y3; rfl
                      · by_cases y4 : x_ = 4
                        · subst y4; rfl
                        · simp [sr, upd, y0, y1, y2, y3, y4]
              · by_cases e4 : j_ = 4
                · subst e4; rfl
                · by_cases e15 : j_ = 15
                  · subst e15; rfl
                  · simp only [sr, e0, e4, e15, if_false]
            rw [hst_] at hw
            refine lv_iinc (v := nI (h + 1)) (lv' := [(3, .int (nI (h + 1))), (0, .ref (a 68)), (1, .ref (a 43)), (2, .int (nI (3 + 3)))]) hC.1 hC.2.1 dX7_restore_119 hl (k := 3) rfl (nI_add _ _) (by decide) rfl (fun ls hl => ?_)
            refine lv_goto (tgt := 90) hC.1 hC.2.1 dX7_restore_122 (by decide) ?_
            rw [upr_s] at hw
            exact ih90 (h + 1) (by omega) (by omega) _ _ _ hw (lv_sub hl [1, 2, 3, 0] rfl)
          refine q_cmpne hC 117 cI dX7_restore_110 (by decide) (fun (c7 : ¬ ((σ 43 ((3 + 3) + h)) = 1)) => ?_) (fun (c7 : (σ 43 ((3 + 3) + h)) = 1) => ?_)
          · refine lv_iconst (v := nI 0) hC.1 hC.2.1 dX7_restore_117 (by decide) ?_
            exact J118_6 _ (if_neg c7).symm _ _ _ hw (lv_sub hl [0, 1, 2, 3] rfl)
          · refine lv_iconst (v := nI 1) hC.1 hC.2.1 dX7_restore_113 (by decide) ?_
            refine lv_goto (tgt := 118) hC.1 hC.2.1 dX7_restore_114 (by decide) ?_
            exact J118_6 _ (if_pos c7).symm _ _ _ hw (lv_sub hl [0, 1, 2, 3] rfl)
    have hst_ : sr (sr σ 15 (va_cpy (σ 43) (σ 15) 3 0 3)) 0 (upd (upd (upd (upd (upd (σ 0) 0 (σ 43 0)) 1 (σ 43 1)) 2 (σ 43 2)) 3 (nI (if 14 ≠ 0 then (14 - 1) else 29))) 4 (nI (kp - 1))) = sr (sr (sr σ 4 (upr (σ 43) 0 (σ 4))) 15 (va_cpy (σ 43) (σ 15) 3 0 3)) 0 (upd (upd (upd (upd (upd (σ 0) 0 (σ 43 0)) 1 (σ 43 1)) 2 (σ 43 2)) 3 (nI (if 14 ≠ 0 then (14 - 1) else 29))) 4 (nI (kp - 1))) := by
      funext j_ x_
      by_cases e0 : j_ = 0
      · subst e0
        by_cases y0 : x_ = 0
        · subst y0; rfl
        · by_cases y1 : x_ = 1
          · subst y1; rfl
          · by_cases y2 : x_ = 2
            · subst y2; rfl
            · by_cases y3 : x_ = 3
              · subst y3; rfl
              · by_cases y4 : x_ = 4
                · subst y4; rfl
                · simp [sr, upd, y0, y1, y2, y3, y4]
      · by_cases e4 : j_ = 4
        · subst e4; show σ 4 x_ = upr (σ 43) 0 (σ 4) x_; rw [upr_0]
        · by_cases e15 : j_ = 15
          · subst e15; rfl
          · simp only [sr, e0, e4, e15, if_false]
    rw [hst_] at hw
    exact L90_2 _ 0 (by omega) (Nat.lt_succ_self _) _ _ _ hw (lv_sub hl [3, 2, 1, 0] rfl)
  refine q_ifne hC 13 (cN0 (by omega)) dX7_restore_5 (by decide) (fun (c8 : 14 ≠ 0) => ?_) (fun (c8 : 14 = 0) => ?_)
  · refine lv_aload_n hC.1 hC.2.1 dX7_restore_13 rfl (lv_at hl 0 rfl) ?_
    refine gf_X7_28 (v := nI 14) hC hw hnx dX7_restore_14 ?_
    refine lv_iconst (v := nI 1) hC.1 hC.2.1 dX7_restore_17 (by decide) ?_
    refine q_subN hC (by omega) dX7_restore_18 ?_
    exact J19_2 _ (by (rw [if_pos c8]) <;> rfl) _ _ _ hw (lv_sub hl [0] rfl)
  · refine lv_bipush (v := nI 29) hC.1 hC.2.1 dX7_restore_8 (by decide) ?_
    refine lv_goto (tgt := 19) hC.1 hC.2.1 dX7_restore_10 (by decide) ?_
    exact J19_2 _ (by (rw [if_neg (fun q => q c8)]) <;> rfl) _ _ _ hw (lv_sub hl [0] rfl)
