theorem cpy_at {n : Nat} {f g : Nat → Int32} : cpy n f g n = g n := by rw [cpy, if_neg (Nat.lt_irrefl _)]
theorem cpy_back {v V s : Nat → Int32} (hZ : Zr v) (hV : Zr V) : cpy 354 (cpy 354 v s) V = v := funext fun k => by
  unfold cpy
  by_cases h : k < 354
  · rw [if_pos h, if_pos h]
  · rw [if_neg h, hV k (by omega), hZ k (by omega)]
theorem cpy_in {f g h : Nat → Int32} : cpy 354 (cpy 354 f g) (cpy 354 h f) = f := funext fun k => by
  unfold cpy
  by_cases q : k < 354
  · rw [if_pos q, if_pos q]
  · rw [if_neg q, if_neg q]
theorem sr_same {σ : St} {k : Nat} : sr σ k (σ k) = σ := funext fun j => by
  unfold sr
  by_cases h : j = k
  · rw [if_pos h, h]
  · rw [if_neg h]
theorem MP_back {τ : St} {stk : List (Nat → Int32)} {X Y : Nat → Int32} (hKR : KR (τ 2) stk) (hO : τ 0 0 = nI stk.length) (hX : X = τ 1) : MP τ (sr (sr τ 1 X) 4 Y) stk none := ⟨hX, hKR, hO, rfl, rfl, rfl, rfl⟩
theorem gst1 {α : Type} {a b c d ok : Prop} [Decidable a] [Decidable b] [Decidable c] [Decidable d] [Decidable ok] {F : α} {R : α × Bool} (hok : ok) : (if a then (if b then (if c then (if ¬ ¬ d then R.1 else F) else R.1) else R.1) else R.1) = (if ok ∧ ((a ∧ b) ∧ c) then (if d then (R.1, false) else (F, true)) else R).1 := by
  by_cases h1 : a <;> by_cases h2 : b <;> by_cases h3 : c <;> by_cases h4 : d <;> simp [h1, h2, h3, h4, hok]
theorem gst2 {α : Type} {a b c d : Prop} [Decidable a] [Decidable b] [Decidable c] [Decidable d] {F : α} {R : α × Bool} (hok : R.2 = true) : ((¬ a ∧ R.2 = true) ∨ (a ∧ ((¬ b ∧ R.2 = true) ∨ (b ∧ ((¬ c ∧ R.2 = true) ∨ (c ∧ ¬ d)))))) ↔ (if R.2 = true ∧ ((a ∧ b) ∧ c) then (if d then (R.1, false) else (F, true)) else R).2 = true := by
  by_cases h1 : a <;> by_cases h2 : b <;> by_cases h3 : c <;> by_cases h4 : d <;> simp [h1, h2, h3, h4, hok]
theorem f_std_o {v : Nat → Int32} {j h k : Nat} (hk : k < 258 ∨ 330 ≤ k) (hk5 : k ≠ 5) (hj : j < 24) : f_std v j h k = v k := by
  unfold f_std; rw [upn (by omega), upn (by omega), upn (by omega), upn (by omega)]
theorem f_std_Z {v : Nat → Int32} {j h : Nat} (hZ : Zr v) (hj : j < 24) : Zr (f_std v j h) := fun k hk => by rw [f_std_o (by omega) (by omega) hj]; exact hZ k hk
theorem f_std_st {v : Nat → Int32} {j h i : Nat} (hj : j < 24) (hi : i < 24) : f_std v j h (258 + i) = if i = j then 1 else v (258 + i) := by
  unfold f_std
  rw [upn (by omega), upn (by omega), upn (by omega)]
  unfold upd
  by_cases e : i = j
  · rw [if_pos e, if_pos (by omega)]
  · rw [if_neg e, if_neg (by omega)]
theorem f_std_ho {v : Nat → Int32} {j h i : Nat} (hj : j < 24) (hi : i < 24) : f_std v j h (282 + i) = if i = j then nI h else v (282 + i) := by
  unfold f_std
  rw [upn (by omega), upn (by omega)]
  unfold upd
  by_cases e : i = j
  · rw [if_pos e, if_pos (by omega)]
  · rw [if_neg e, if_neg (by omega), if_neg (by omega)]
theorem f_std_mF {v : Nat → Int32} {nh nj j h : Nat} (hW : mF v nh nj) (hj : j < nj) (hh : h < nh) : mF (f_std v j h) nh nj := by
  obtain ⟨h1, h2, h3, h4, h5⟩ := hW
  refine ⟨h1, h2, ?_, ?_, fun i hi hs => ?_⟩
  · rw [f_std_o (by omega) (by omega) (by omega)]; exact h3
  · rw [f_std_o (by omega) (by omega) (by omega)]; exact h4
  · rw [f_std_st (by omega) (by omega)] at hs
    rw [f_std_ho (by omega) (by omega)]
    by_cases e : i = j
    · rw [if_pos e]; exact ⟨h, hh, rfl⟩
    · rw [if_neg e] at hs ⊢; exact h5 i hi hs
theorem g_run_in {v : Nat → Int32} {group : Int32} {nh nj : Nat} (hW : mF v nh nj) (hZ : Zr v) : ∀ n : Nat, n ≤ nj → mF (g_run v group nh nj n).1 nh nj ∧ Zr (g_run v group nh nj n).1
  | 0, _ => ⟨hW, hZ⟩
  | n + 1, hn => by
    have h := g_run_in (group := group) hW hZ n (by omega)
    rw [g_run]
    by_cases c : (g_run v group nh nj n).2 = true ∧ isG (g_run v group nh nj n).1 group n
    · rw [if_pos c]
      by_cases d : m_bst (eM (g_run v group nh nj n).1) (pB (eM (g_run v group nh nj n).1) (nI n)) nh nj n nh < 0
      · rw [if_pos d]; exact h
      · rw [if_neg d]
        have hb := m_bst_nat (show nh < 2 ^ 31 by have := hW.1; omega) d
        exact ⟨f_std_mF h.1 (by omega) hb.2, f_std_Z h.2 (by have := hW.2.1; omega)⟩
    · rw [if_neg c]; exact h
theorem g_run_mF {v : Nat → Int32} {group : Int32} {nh nj n : Nat} (hW : mF v nh nj) (hZ : Zr v) (hn : n ≤ nj) : mF (g_run v group nh nj n).1 nh nj := (g_run_in hW hZ n hn).1
theorem g_run_Z {v : Nat → Int32} {group : Int32} {nh nj n : Nat} (hW : mF v nh nj) (hZ : Zr v) (hn : n ≤ nj) : Zr (g_run v group nh nj n).1 := (g_run_in hW hZ n hn).2
theorem g_stop {v : Nat → Int32} {group : Int32} {nh nj j : Nat} (hj : j ≤ nj) (hc : nj ≤ j ∨ ¬ (g_run v group nh nj j).2 = true) : g_run v group nh nj j = g_run v group nh nj nj := by
  rcases hc with hc | hc
  · rw [show j = nj by omega]
  · have : ∀ d : Nat, g_run v group nh nj (j + d) = g_run v group nh nj j := by
      intro d
      induction d with
      | zero => rfl
      | succ d ih =>
        rw [← Nat.add_assoc, g_run, ih, if_neg (fun q => hc q.1)]
    rw [← this (nj - j)]
    congr 1
    omega
set_option maxHeartbeats 4000000 in
set_option maxRecDepth 100000 in
theorem tX11_swapSpare (l : Launch) (E : EV) (a : Nat → Nat) (τ : St) (stk : List (Nat → Int32)) (hO : τ 0 0 = nI stk.length) (hKR : KR (τ 2) stk) : MV l E (MW E a) yX11_swapSpare (Cond.code yX11_swapSpare cX11_swapSpare 3 none) ({ frames := 1, cells := 0, slots := 0, locals := 21 }) [.ref (a 70)] τ (fun u_ => ∃ K : Nat → Int32, KR K (push30 stk (cpy 354 (τ 4) (τ 1))) ∧ u_ = sr (sr (sr τ 2 K) 4 (cpy 354 (τ 1) (τ 4))) 0 (upd (τ 0) 0 (nI (push30 stk (cpy 354 (τ 4) (τ 1))).length))) := by
  refine MV.mk (by decide +kernel) (Nat.le_of_ble_eq_true rfl) ?_
  intro p e s m args below meth c ls A Q hret hC hw hl
  have hC : Cxt E p s m args meth c cX11_swapSpare 3 none RX11 A := hC
  have hl : lv_has ls 3 [(0, .ref (a 70))] := hl
  refine lv_iconst (v := nI 0) hC.1 hC.2.1 dX11_swapSpare_0 (by decide) ?_
  refine lv_istore_n (lv' := [(1, .int (nI 0)), (0, .ref (a 70))]) hC.1 hC.2.1 dX11_swapSpare_1 rfl hl (by decide) rfl (fun ls hl => ?_)
  have L2_0 : ∀ (n : Nat), ∀ (k : Nat), (k ≤ 354) → (354 - k) < n → ∀ (H : Heap) (locs : List Loc) (ls : Array Slot), Wst E (MW E a) (sr (sr τ 1 (cpy k (τ 4) (τ 1))) 4 (cpy k (τ 1) (τ 4))) A s.heap H locs → lv_has ls 3 [(0, .ref (a 70)), (1, .int (nI k))] → W p l e ({ frames := 1, cells := 0, slots := 0, locals := 21 }) s m args below meth c H locs 0 0 Q (F0 m 2 ls []) := by
    intro n
    induction n with
    | zero => intro k hk hn; exact absurd hn (Nat.not_lt_zero _)
    | succ n ih2 =>
      intro k hk hn2 H locs ls hw hl
      refine lv_iload_n hC.1 hC.2.1 dX11_swapSpare_2 rfl (lv_at hl 1 rfl) ?_
      refine lv_sipush (v := nI 354) hC.1 hC.2.1 dX11_swapSpare_3 (by decide) ?_
      refine q_cmpge hC 41 (cNle (by omega) (by omega)) dX11_swapSpare_6 (by decide) (fun (c2 : 354 ≤ k) => ?_) (fun (c2 : k < 354) => ?_)
      · have hk9 : k = 354 := by omega
        rw [hk9] at hw
        refine lv_aload_n hC.1 hC.2.1 dX11_swapSpare_41 rfl (lv_at hl 0 rfl) ?_
        refine q_callVv (As := []) (rest := []) (q0 := 0) hC hw hl (tX11_keep l E a (sr (sr τ 1 (cpy 354 (τ 4) (τ 1))) 4 (cpy 354 (τ 1) (τ 4))) stk hO hKR) (q_cwV hC.2.2.2.2.1 ⟨rfl, rfl⟩ wk4_178 wk4_180 wks_2_6 wk1_12 wk4_181 hd_X11_keep ⟨Nat.le_of_ble_eq_true rfl, Nat.le_of_ble_eq_true rfl⟩) rfl rfl rfl rfl rfl (Nat.le_of_ble_eq_true rfl) dX11_swapSpare_42 (fun u5 H locs p3 hw => ?_)
        obtain ⟨K6, hRK6, huK6⟩ := p3
        have hw : Wst E (MW E a) (sr (sr (sr (sr τ 1 (cpy 354 (τ 4) (τ 1))) 2 (K6)) 4 (cpy 354 (τ 1) (τ 4))) 0 (upd (τ 0) 0 (nI (push30 stk (cpy 354 (τ 4) (τ 1))).length))) A s.heap H locs := by rw [huK6] at hw; exact hw
        refine lv_aload_n hC.1 hC.2.1 dX11_swapSpare_45 rfl (lv_at hl 0 rfl) ?_
        refine q_callVvp (As := []) (rest := []) (q0 := 0) hC hw hl (tX11_backSpare l E a (sr (sr (sr (sr τ 1 (cpy 354 (τ 4) (τ 1))) 2 (K6)) 4 (cpy 354 (τ 1) (τ 4))) 0 (upd (τ 0) 0 (nI (push30 stk (cpy 354 (τ 4) (τ 1))).length))) ) (q_cwV hC.2.2.2.2.1 ⟨rfl, rfl⟩ wk5_44 wk5_46 wks_3_7 wk1_12 wk5_47 hd_X11_backSpare ⟨Nat.le_of_ble_eq_true rfl, Nat.le_of_ble_eq_true rfl⟩) rfl rfl rfl rfl rfl (Nat.le_of_ble_eq_true rfl) dX11_swapSpare_46 (fun H locs hw => ?_)
        have hw : Wst E (MW E a) (sr (sr (sr (sr τ 1 (cpy 354 (cpy 354 (τ 1) (τ 4)) (cpy 354 (τ 4) (τ 1)))) 2 (K6)) 4 (cpy 354 (τ 1) (τ 4))) 0 (upd (τ 0) 0 (nI (push30 stk (cpy 354 (τ 4) (τ 1))).length))) A s.heap H locs := hw
        refine hret _ _ _ _ _ hw ?_ dX11_swapSpare_49
        exact ⟨K6, hRK6, by rw [cpy_in, sr_same]⟩
      · refine lv_aload_n hC.1 hC.2.1 dX11_swapSpare_9 rfl (lv_at hl 0 rfl) ?_
        refine gf_X11_7 hC hw dX11_swapSpare_10 ?_
        refine lv_iload_n hC.1 hC.2.1 dX11_swapSpare_13 rfl (lv_at hl 1 rfl) ?_
        refine al_M1 (v := (cpy k (τ 4) (τ 1)) k) hC hw (by omega) rfl dX11_swapSpare_14 ?_
        refine lv_istore_n (lv' := [(2, .int ((cpy k (τ 4) (τ 1)) k)), (0, .ref (a 70)), (1, .int (nI k))]) hC.1 hC.2.1 dX11_swapSpare_15 rfl hl (by decide) rfl (fun ls hl => ?_)
        refine lv_aload_n hC.1 hC.2.1 dX11_swapSpare_16 rfl (lv_at hl 1 rfl) ?_
        refine gf_X11_7 hC hw dX11_swapSpare_17 ?_
        refine lv_iload_n hC.1 hC.2.1 dX11_swapSpare_20 rfl (lv_at hl 2 rfl) ?_
        refine lv_aload_n hC.1 hC.2.1 dX11_swapSpare_21 rfl (lv_at hl 1 rfl) ?_
        refine gf_X11_19 hC hw dX11_swapSpare_22 ?_
        refine lv_iload_n hC.1 hC.2.1 dX11_swapSpare_25 rfl (lv_at hl 2 rfl) ?_
        refine al_M4 (v := (cpy k (τ 1) (τ 4)) k) hC hw (by omega) rfl dX11_swapSpare_26 ?_
        refine as_M1 hC hw (by omega) dX11_swapSpare_27 (fun H locs hw => ?_)
        have hw : Wst E (MW E a) (sr (sr τ 1 (upd (cpy k (τ 4) (τ 1)) k ((cpy k (τ 1) (τ 4)) k))) 4 (cpy k (τ 1) (τ 4))) A s.heap H locs := hw
        refine lv_aload_n hC.1 hC.2.1 dX11_swapSpare_28 rfl (lv_at hl 1 rfl) ?_
        refine gf_X11_19 hC hw dX11_swapSpare_29 ?_
        refine lv_iload_n hC.1 hC.2.1 dX11_swapSpare_32 rfl (lv_at hl 2 rfl) ?_
        refine lv_iload_n hC.1 hC.2.1 dX11_swapSpare_33 rfl (lv_at hl 0 rfl) ?_
        refine as_M4 hC hw (by omega) dX11_swapSpare_34 (fun H locs hw => ?_)
        have hw : Wst E (MW E a) (sr (sr τ 1 (upd (cpy k (τ 4) (τ 1)) k ((cpy k (τ 1) (τ 4)) k))) 4 (upd (cpy k (τ 1) (τ 4)) k ((cpy k (τ 4) (τ 1)) k))) A s.heap H locs := hw
        refine lv_iinc (v := nI (k + 1)) (lv' := [(1, .int (nI (k + 1))), (2, .int ((cpy k (τ 4) (τ 1)) k)), (0, .ref (a 70))]) hC.1 hC.2.1 dX11_swapSpare_35 hl (k := 2) rfl (nI_add _ _) (by decide) rfl (fun ls hl => ?_)
        refine lv_goto (tgt := 2) hC.1 hC.2.1 dX11_swapSpare_38 (by decide) ?_
        rw [show cpy k (τ 4) (τ 1) k = τ 1 k from cpy_at, show cpy k (τ 1) (τ 4) k = τ 4 k from cpy_at, cpy_s, cpy_s] at hw
        exact ih2 (k + 1) (by omega) (by omega) _ _ _ hw (lv_sub hl [2, 0] rfl)
  have hw : Wst E (MW E a) (sr (sr τ 1 (cpy 0 (τ 4) (τ 1))) 4 (cpy 0 (τ 1) (τ 4))) A s.heap s.heap [] := by rw [cpy_0, cpy_0]; exact hw
  exact L2_0 _ 0 (by omega) (Nat.lt_succ_self _) _ _ _ hw (lv_sub hl [1, 0] rfl)
set_option maxHeartbeats 4000000 in
set_option maxRecDepth 100000 in
theorem tX11_gang (l : Launch) (E : EV) (a : Nat → Nat) (τ : St) (nh : Nat) (nj : Nat) (stk : List (Nat → Int32)) (group : Int32) (hW : mF (τ 1) nh nj) (hO : τ 0 0 = nI stk.length) (hKR : KR (τ 2) stk) (hZ : Zr (τ 1)) : MI l E (MW E a) yX11_gang (Cond.code yX11_gang cX11_gang 6 (some .int)) ({ frames := 5, cells := 0, slots := 0, locals := 119 }) [.ref (a 70), .int (group)] τ (fun r_ u_ => r_ = (o_gang (τ 1) nh nj group).1 ∧ MP τ u_ stk (o_gang (τ 1) nh nj group).2) := by
  refine MI.mk (by decide +kernel) (Nat.le_of_ble_eq_true rfl) ?_
  intro p e s m args below meth c ls A Q hret hC hw hl
  have hC : Cxt E p s m args meth c cX11_gang 6 (some .int) RX11 A := hC
  have hl : lv_has ls 6 [(0, .ref (a 70)), (1, .int (group))] := hl
  have ⟨hnh, hnj, hW0, hW1, hWh⟩ := id hW
  refine lv_iload_n hC.1 hC.2.1 dX11_gang_0 rfl (lv_at hl 1 rfl) ?_
  refine lv_iconst (v := nI 0) hC.1 hC.2.1 dX11_gang_1 (by decide) ?_
  refine lv_bipush (v := nI 7) hC.1 hC.2.1 dX11_gang_2 (by decide) ?_
  refine q_callSp (As := [.int (group), .int (nI 0), .int (nI 7)]) (rest := []) hC hw hl (tX11_in l E a τ group 0 7) (q_cwS hC.2.2.2.2.1 ⟨rfl, rfl⟩ wk4_175 wk4_176 wk1_12 wk4_177 hd_X11_in.2 ⟨Nat.le_of_ble_eq_true rfl, Nat.le_of_ble_eq_true rfl⟩) rfl rfl (Nat.le_of_ble_eq_true rfl) dX11_gang_4 (fun H locs hw => ?_)
  refine q_ifne hC 12 cB dX11_gang_7 (by decide) (fun (c4 : ¬ group < 0 ∧ ¬ 7 < group) => ?_) (fun (c4 : ¬ (¬ group < 0 ∧ ¬ 7 < group)) => ?_)
  · refine lv_iconst (v := nI 0) hC.1 hC.2.1 dX11_gang_12 (by decide) ?_
    refine lv_istore_n (lv' := [(2, .int (nI 0)), (0, .ref (a 70)), (1, .int (group))]) hC.1 hC.2.1 dX11_gang_13 rfl hl (by decide) rfl (fun ls hl => ?_)
    refine lv_iconst (v := nI 0) hC.1 hC.2.1 dX11_gang_14 (by decide) ?_
    refine lv_istore_n (lv' := [(3, .int (nI 0)), (2, .int (nI 0)), (0, .ref (a 70)), (1, .int (group))]) hC.1 hC.2.1 dX11_gang_15 rfl hl (by decide) rfl (fun ls hl => ?_)
    have L16_4 : ∀ (n : Nat), ∀ (k : Nat), ∀ (v : Int32), (v = (m_gsz (τ 1) group k)) → (k ≤ nj) → (nj - k) < n → ∀ (H : Heap) (locs : List Loc) (ls : Array Slot), Wst E (MW E a) (τ) A s.heap H locs → lv_has ls 6 [(0, .ref (a 70)), (1, .int (group)), (2, .int (v)), (3, .int (nI k))] → W p l e ({ frames := 5, cells := 0, slots := 0, locals := 119 }) s m args below meth c H locs 0 0 Q (F0 m 16 ls []) := by
      intro n
      induction n with
      | zero => intro k v q_v hk hn; exact absurd hn (Nat.not_lt_zero _)
      | succ n ih16 =>
        intro k v q_v hk hn16 H locs ls hw hl
        subst q_v
        refine lv_iload_n hC.1 hC.2.1 dX11_gang_16 rfl (lv_at hl 3 rfl) ?_
        refine lv_aload_n hC.1 hC.2.1 dX11_gang_17 rfl (lv_at hl 0 rfl) ?_
        refine gf_X11_7 hC hw dX11_gang_18 ?_
        refine lv_iconst (v := nI 1) hC.1 hC.2.1 dX11_gang_21 (by decide) ?_
        refine al_M1 (v := nI nj) hC hw (by omega) hW.2.2.2.1 dX11_gang_22 ?_
        refine q_cmpge hC 80 (cNle (by omega) (by omega)) dX11_gang_23 (by decide) (fun (c6 : nj ≤ k) => ?_) (fun (c6 : k < nj) => ?_)
        · refine lv_iload_n hC.1 hC.2.1 dX11_gang_80 rfl (lv_at hl 2 rfl) ?_
          refine q_ifne hC 87 cI dX11_gang_81 (by decide) (fun (c7 : ¬ ((m_gsz (τ 1) group k) = 0)) => ?_) (fun (c7 : (m_gsz (τ 1) group k) = 0) => ?_)
          · have hk9 : k = nj := by omega
            rw [hk9] at hl
            have hmn : ¬ m_gsz (τ 1) group nj = 0 := by rw [← hk9]; exact c7
            refine lv_aload_n hC.1 hC.2.1 dX11_gang_87 rfl (lv_at hl 0 rfl) ?_
            refine q_callVvp (As := []) (rest := []) (q0 := 0) hC hw hl (tX11_keepSpare l E a τ ) (q_cwV hC.2.2.2.2.1 ⟨rfl, rfl⟩ wk5_40 wk5_42 wks_3_6 wk1_12 wk5_43 hd_X11_keepSpare ⟨Nat.le_of_ble_eq_true rfl, Nat.le_of_ble_eq_true rfl⟩) rfl rfl rfl rfl rfl (Nat.le_of_ble_eq_true rfl) dX11_gang_88 (fun H locs hw => ?_)
            have hw : Wst E (MW E a) (sr τ 4 (cpy 354 (τ 1) (τ 4))) A s.heap H locs := hw
            refine lv_iconst (v := nI 1) hC.1 hC.2.1 dX11_gang_91 (by decide) ?_
            refine lv_istore_n (lv' := [(3, .int (nI 1)), (0, .ref (a 70)), (1, .int (group)), (2, .int (m_gsz (τ 1) group nj))]) hC.1 hC.2.1 dX11_gang_92 rfl hl (by decide) rfl (fun ls hl => ?_)
            refine lv_iconst (v := nI 0) hC.1 hC.2.1 dX11_gang_93 (by decide) ?_
            refine lv_istore (lv' := [(4, .int (nI 0)), (3, .int (nI 1)), (0, .ref (a 70)), (1, .int (group)), (2, .int (m_gsz (τ 1) group nj))]) hC.1 hC.2.1 dX11_gang_94 hl (by decide) rfl (fun ls hl => ?_)
            have L96_10 : ∀ (n : Nat), ∀ (j : Nat), ∀ (gd : Int32), (gd = (if (g_run (τ 1) group nh nj j).2 = true then (1 : Int32) else 0)) → (j ≤ nj) → (nj - j) < n → ∀ (H : Heap) (locs : List Loc) (ls : Array Slot), Wst E (MW E a) (sr (sr τ 1 ((g_run (τ 1) group nh nj j).1)) 4 (cpy 354 (τ 1) (τ 4))) A s.heap H locs → lv_has ls 6 [(0, .ref (a 70)), (1, .int (group)), (2, .int (m_gsz (τ 1) group nj)), (3, .int (gd)), (4, .int (nI j))] → W p l e ({ frames := 5, cells := 0, slots := 0, locals := 119 }) s m args below meth c H locs 0 0 Q (F0 m 96 ls []) := by
              intro n
              induction n with
              | zero => intro j gd q_gd hj hn; exact absurd hn (Nat.not_lt_zero _)
              | succ n ih96 =>
                intro j gd q_gd hj hn96 H locs ls hw hl
                subst q_gd
                have hWg := g_run_mF (group := group) (n := j) hW hZ (by omega)
                refine lv_iload hC.1 hC.2.1 dX11_gang_96 (lv_at hl 4 rfl) ?_
                refine lv_aload_n hC.1 hC.2.1 dX11_gang_98 rfl (lv_at hl 0 rfl) ?_
                refine gf_X11_7 hC hw dX11_gang_99 ?_
                refine lv_iconst (v := nI 1) hC.1 hC.2.1 dX11_gang_102 (by decide) ?_
                refine al_M1 (v := nI nj) hC hw (by omega) hWg.2.2.2.1 dX11_gang_103 ?_
                refine q_cmpge hC 191 (cNle (by omega) (by omega)) dX11_gang_104 (by decide) (fun (c12 : nj ≤ j) => ?_) (fun (c12 : j < nj) => ?_)
                · have hge : g_run (τ 1) group nh nj j = g_run (τ 1) group nh nj nj := g_stop (by omega) (Or.inl (by omega))
                  refine lv_iload_n hC.1 hC.2.1 dX11_gang_191 rfl (lv_at hl 3 rfl) ?_
                  refine q_ifne hC 202 cB dX11_gang_192 (by decide) (fun (c13 : (g_run (τ 1) group nh nj j).2 = true) => ?_) (fun (c13 : ¬ ((g_run (τ 1) group nh nj j).2 = true)) => ?_)
                  · refine lv_aload_n hC.1 hC.2.1 dX11_gang_202 rfl (lv_at hl 0 rfl) ?_
                    refine q_callVv (As := []) (rest := []) (q0 := 0) hC hw hl (tX11_swapSpare l E a (sr (sr τ 1 ((g_run (τ 1) group nh nj j).1)) 4 (cpy 354 (τ 1) (τ 4))) stk (by first | assumption | omega) (by first | assumption | omega)) (q_cwV hC.2.2.2.2.1 ⟨rfl, rfl⟩ wk5_48 wk5_50 wks_3_8 wk1_12 wk5_51 hd_X11_swapSpare ⟨Nat.le_of_ble_eq_true rfl, Nat.le_of_ble_eq_true rfl⟩) rfl rfl rfl rfl rfl (Nat.le_of_ble_eq_true rfl) dX11_gang_203 (fun u16 H locs p14 hw => ?_)
                    obtain ⟨K17, hRK17, huK17⟩ := p14
                    have hRK17 : KR K17 (push30 stk (cpy 354 (cpy 354 (τ 1) (τ 4)) ((g_run (τ 1) group nh nj j).1))) := hRK17
                    have hw : Wst E (MW E a) (sr (sr (sr (sr τ 1 ((g_run (τ 1) group nh nj j).1)) 2 (K17)) 4 (cpy 354 ((g_run (τ 1) group nh nj j).1) (cpy 354 (τ 1) (τ 4)))) 0 (upd (τ 0) 0 (nI (push30 stk (cpy 354 (cpy 354 (τ 1) (τ 4)) ((g_run (τ 1) group nh nj j).1))).length))) A s.heap H locs := by rw [huK17] at hw; exact hw
                    refine lv_iload_n hC.1 hC.2.1 dX11_gang_206 rfl (lv_at hl 2 rfl) ?_
                    refine hret _ _ _ _ _ _ hw ?_ rfl dX11_gang_207
                    have ho : o_gang (τ 1) nh nj group = (m_gsz (τ 1) group nj, some (g_run (τ 1) group nh nj nj).1) := by rw [o_gang, if_pos ((le_iff (n := 7) (by decide)).mp c4), if_neg hmn, if_pos (by rw [← hge]; exact c13)]
                    rw [ho]
                    rw [cpy_back hZ (g_run_Z hW hZ (by omega))] at hRK17 ⊢
                    exact ⟨rfl, by rw [hge]; rfl, hRK17, rfl, rfl, rfl, rfl, rfl⟩
                  · refine lv_aload_n hC.1 hC.2.1 dX11_gang_195 rfl (lv_at hl 0 rfl) ?_
                    refine q_callVvp (As := []) (rest := []) (q0 := 0) hC hw hl (tX11_backSpare l E a (sr (sr τ 1 ((g_run (τ 1) group nh nj j).1)) 4 (cpy 354 (τ 1) (τ 4))) ) (q_cwV hC.2.2.2.2.1 ⟨rfl, rfl⟩ wk5_44 wk5_46 wks_3_7 wk1_12 wk5_47 hd_X11_backSpare ⟨Nat.le_of_ble_eq_true rfl, Nat.le_of_ble_eq_true rfl⟩) rfl rfl rfl rfl rfl (Nat.le_of_ble_eq_true rfl) dX11_gang_196 (fun H locs hw => ?_)
                    have hw : Wst E (MW E a) (sr (sr τ 1 (cpy 354 (cpy 354 (τ 1) (τ 4)) ((g_run (τ 1) group nh nj j).1))) 4 (cpy 354 (τ 1) (τ 4))) A s.heap H locs := hw
                    refine lv_bipush (v := (-3)) hC.1 hC.2.1 dX11_gang_199 (by decide) ?_
                    refine hret _ _ _ _ _ _ hw ?_ rfl dX11_gang_201
                    have ho : o_gang (τ 1) nh nj group = (-3, none) := by rw [o_gang, if_pos ((le_iff (n := 7) (by decide)).mp c4), if_neg hmn, if_neg (by rw [← hge]; exact c13)]
                    rw [ho]
                    exact ⟨rfl, MP_back hKR hO (cpy_back hZ (g_run_Z hW hZ (by omega)))⟩
                · refine lv_iload_n hC.1 hC.2.1 dX11_gang_107 rfl (lv_at hl 3 rfl) ?_
                  refine q_ifeq hC 191 cB dX11_gang_108 (by decide) (fun (c21 : ¬ ((g_run (τ 1) group nh nj j).2 = true)) => ?_) (fun (c21 : (g_run (τ 1) group nh nj j).2 = true) => ?_)
                  · have hge : g_run (τ 1) group nh nj j = g_run (τ 1) group nh nj nj := g_stop (by omega) (Or.inr c21)
                    refine lv_iload_n hC.1 hC.2.1 dX11_gang_191 rfl (lv_at hl 3 rfl) ?_
                    refine q_ifne hC 202 cB dX11_gang_192 (by decide) (fun (c22 : (g_run (τ 1) group nh nj j).2 = true) => ?_) (fun (c22 : ¬ ((g_run (τ 1) group nh nj j).2 = true)) => ?_)
                    · refine lv_aload_n hC.1 hC.2.1 dX11_gang_202 rfl (lv_at hl 0 rfl) ?_
                      refine q_callVv (As := []) (rest := []) (q0 := 0) hC hw hl (tX11_swapSpare l E a (sr (sr τ 1 ((g_run (τ 1) group nh nj j).1)) 4 (cpy 354 (τ 1) (τ 4))) stk (by first | assumption | omega) (by first | assumption | omega)) (q_cwV hC.2.2.2.2.1 ⟨rfl, rfl⟩ wk5_48 wk5_50 wks_3_8 wk1_12 wk5_51 hd_X11_swapSpare ⟨Nat.le_of_ble_eq_true rfl, Nat.le_of_ble_eq_true rfl⟩) rfl rfl rfl rfl rfl (Nat.le_of_ble_eq_true rfl) dX11_gang_203 (fun u25 H locs p23 hw => ?_)
                      obtain ⟨K26, hRK26, huK26⟩ := p23
                      have hRK26 : KR K26 (push30 stk (cpy 354 (cpy 354 (τ 1) (τ 4)) ((g_run (τ 1) group nh nj j).1))) := hRK26
                      have hw : Wst E (MW E a) (sr (sr (sr (sr τ 1 ((g_run (τ 1) group nh nj j).1)) 2 (K26)) 4 (cpy 354 ((g_run (τ 1) group nh nj j).1) (cpy 354 (τ 1) (τ 4)))) 0 (upd (τ 0) 0 (nI (push30 stk (cpy 354 (cpy 354 (τ 1) (τ 4)) ((g_run (τ 1) group nh nj j).1))).length))) A s.heap H locs := by rw [huK26] at hw; exact hw
                      refine lv_iload_n hC.1 hC.2.1 dX11_gang_206 rfl (lv_at hl 2 rfl) ?_
                      refine hret _ _ _ _ _ _ hw ?_ rfl dX11_gang_207
                      have ho : o_gang (τ 1) nh nj group = (m_gsz (τ 1) group nj, some (g_run (τ 1) group nh nj nj).1) := by rw [o_gang, if_pos ((le_iff (n := 7) (by decide)).mp c4), if_neg hmn, if_pos (by rw [← hge]; exact c22)]
                      rw [ho]
                      rw [cpy_back hZ (g_run_Z hW hZ (by omega))] at hRK26 ⊢
                      exact ⟨rfl, by rw [hge]; rfl, hRK26, rfl, rfl, rfl, rfl, rfl⟩
                    · refine lv_aload_n hC.1 hC.2.1 dX11_gang_195 rfl (lv_at hl 0 rfl) ?_
                      refine q_callVvp (As := []) (rest := []) (q0 := 0) hC hw hl (tX11_backSpare l E a (sr (sr τ 1 ((g_run (τ 1) group nh nj j).1)) 4 (cpy 354 (τ 1) (τ 4))) ) (q_cwV hC.2.2.2.2.1 ⟨rfl, rfl⟩ wk5_44 wk5_46 wks_3_7 wk1_12 wk5_47 hd_X11_backSpare ⟨Nat.le_of_ble_eq_true rfl, Nat.le_of_ble_eq_true rfl⟩) rfl rfl rfl rfl rfl (Nat.le_of_ble_eq_true rfl) dX11_gang_196 (fun H locs hw => ?_)
                      have hw : Wst E (MW E a) (sr (sr τ 1 (cpy 354 (cpy 354 (τ 1) (τ 4)) ((g_run (τ 1) group nh nj j).1))) 4 (cpy 354 (τ 1) (τ 4))) A s.heap H locs := hw
                      refine lv_bipush (v := (-3)) hC.1 hC.2.1 dX11_gang_199 (by decide) ?_
                      refine hret _ _ _ _ _ _ hw ?_ rfl dX11_gang_201
                      have ho : o_gang (τ 1) nh nj group = (-3, none) := by rw [o_gang, if_pos ((le_iff (n := 7) (by decide)).mp c4), if_neg hmn, if_neg (by rw [← hge]; exact c22)]
                      rw [ho]
                      exact ⟨rfl, MP_back hKR hO (cpy_back hZ (g_run_Z hW hZ (by omega)))⟩
                  · refine lv_aload_n hC.1 hC.2.1 dX11_gang_111 rfl (lv_at hl 0 rfl) ?_
                    refine gf_X11_7 hC hw dX11_gang_112 ?_
                    refine lv_bipush (v := nI 66) hC.1 hC.2.1 dX11_gang_115 (by decide) ?_
                    refine lv_iload hC.1 hC.2.1 dX11_gang_117 (lv_at hl 4 rfl) ?_
                    refine q_addN hC dX11_gang_119 ?_
                    refine al_M1 (v := eM ((g_run (τ 1) group nh nj j).1) 5 j) hC hw (by omega) (show _ = eM ((g_run (τ 1) group nh nj j).1) 5 j from congrArg ((g_run (τ 1) group nh nj j).1) (by omega)) dX11_gang_120 ?_
                    refine lv_iconst (v := nI 2) hC.1 hC.2.1 dX11_gang_121 (by decide) ?_
                    have J185_33 : ∀ (w30 : Int32), w30 = (if ((¬ ((eM ((g_run (τ 1) group nh nj j).1) 5 j) = 2)) ∧ ((g_run (τ 1) group nh nj j).2 = true)) ∨ (((eM ((g_run (τ 1) group nh nj j).1) 5 j) = 2) ∧ (((¬ ((eM ((g_run (τ 1) group nh nj j).1) 8 j) = group)) ∧ ((g_run (τ 1) group nh nj j).2 = true)) ∨ (((eM ((g_run (τ 1) group nh nj j).1) 8 j) = group) ∧ (((¬ ((eM ((g_run (τ 1) group nh nj j).1) 11 j) = 0)) ∧ ((g_run (τ 1) group nh nj j).2 = true)) ∨ (((eM ((g_run (τ 1) group nh nj j).1) 11 j) = 0) ∧ (¬ ((m_bst (eM ((g_run (τ 1) group nh nj j).1)) (pB (eM ((g_run (τ 1) group nh nj j).1)) (nI j)) nh nj j nh) < 0))))))) then (1 : Int32) else 0) → ∀ (w32 : Nat → Int32), w32 = (if (eM ((g_run (τ 1) group nh nj j).1) 5 j) = 2 then (if (eM ((g_run (τ 1) group nh nj j).1) 8 j) = group then (if (eM ((g_run (τ 1) group nh nj j).1) 11 j) = 0 then (if ¬ (¬ ((m_bst (eM ((g_run (τ 1) group nh nj j).1)) (pB (eM ((g_run (τ 1) group nh nj j).1)) (nI j)) nh nj j nh) < 0)) then ((g_run (τ 1) group nh nj j).1) else (f_std ((g_run (τ 1) group nh nj j).1) j ((m_bst (eM (g_run (τ 1) group nh nj j).1) (pB (eM (g_run (τ 1) group nh nj j).1) (nI j)) nh nj j nh).toNatClampNeg))) else ((g_run (τ 1) group nh nj j).1)) else ((g_run (τ 1) group nh nj j).1)) else ((g_run (τ 1) group nh nj j).1)) → ∀ (H : Heap) (locs : List Loc) (ls : Array Slot), Wst E (MW E a) (sr (sr τ 1 (w32)) 4 (cpy 354 (τ 1) (τ 4))) A s.heap H locs → lv_has ls 6 [(0, .ref (a 70)), (1, .int (group)), (2, .int (m_gsz (τ 1) group nj)), (3, .int (w30)), (4, .int (nI j))] → W p l e ({ frames := 5, cells := 0, slots := 0, locals := 119 }) s m args below meth c H locs 0 0 Q (F0 m 185 ls []) := by
                      intro w30 e31 w32 e33 H locs ls hw hl
                      subst e31
                      subst e33
                      refine lv_iinc (v := nI (j + 1)) (lv' := [(4, .int (nI (j + 1))), (0, .ref (a 70)), (1, .int (group)), (2, .int (m_gsz (τ 1) group nj)), (3, .int (if ((¬ ((eM ((g_run (τ 1) group nh nj j).1) 5 j) = 2)) ∧ ((g_run (τ 1) group nh nj j).2 = true)) ∨ (((eM ((g_run (τ 1) group nh nj j).1) 5 j) = 2) ∧ (((¬ ((eM ((g_run (τ 1) group nh nj j).1) 8 j) = group)) ∧ ((g_run (τ 1) group nh nj j).2 = true)) ∨ (((eM ((g_run (τ 1) group nh nj j).1) 8 j) = group) ∧ (((¬ ((eM ((g_run (τ 1) group nh nj j).1) 11 j) = 0)) ∧ ((g_run (τ 1) group nh nj j).2 = true)) ∨ (((eM ((g_run (τ 1) group nh nj j).1) 11 j) = 0) ∧ (¬ ((m_bst (eM ((g_run (τ 1) group nh nj j).1)) (pB (eM ((g_run (τ 1) group nh nj j).1)) (nI j)) nh nj j nh) < 0))))))) then (1 : Int32) else 0))]) hC.1 hC.2.1 dX11_gang_185 hl (k := 4) rfl (nI_add _ _) (by decide) rfl (fun ls hl => ?_)
                      refine lv_goto (tgt := 96) hC.1 hC.2.1 dX11_gang_188 (by decide) ?_
                      have hok9 := c21
                      rw [gst1 hok9] at hw
                      exact ih96 (j + 1) (if ((¬ ((eM ((g_run (τ 1) group nh nj j).1) 5 j) = 2)) ∧ ((g_run (τ 1) group nh nj j).2 = true)) ∨ (((eM ((g_run (τ 1) group nh nj j).1) 5 j) = 2) ∧ (((¬ ((eM ((g_run (τ 1) group nh nj j).1) 8 j) = group)) ∧ ((g_run (τ 1) group nh nj j).2 = true)) ∨ (((eM ((g_run (τ 1) group nh nj j).1) 8 j) = group) ∧ (((¬ ((eM ((g_run (τ 1) group nh nj j).1) 11 j) = 0)) ∧ ((g_run (τ 1) group nh nj j).2 = true)) ∨ (((eM ((g_run (τ 1) group nh nj j).1) 11 j) = 0) ∧ (¬ ((m_bst (eM ((g_run (τ 1) group nh nj j).1)) (pB (eM ((g_run (τ 1) group nh nj j).1)) (nI j)) nh nj j nh) < 0))))))) then (1 : Int32) else 0) (ite_iff (gst2 hok9)) (by omega) (by omega) _ _ _ hw (lv_sub hl [1, 2, 3, 4, 0] rfl)
                    refine q_cmpne hC 185 cI dX11_gang_122 (by decide) (fun (c34 : ¬ ((eM ((g_run (τ 1) group nh nj j).1) 5 j) = 2)) => ?_) (fun (c34 : (eM ((g_run (τ 1) group nh nj j).1) 5 j) = 2) => ?_)
                    · exact J185_33 _ (by simp [c4, c6, c7, c12, c21, c34]) _ (by (rw [if_neg c34]) <;> rfl) _ _ _ hw (lv_sub hl [0, 1, 2, 3, 4] rfl)
                    · refine lv_aload_n hC.1 hC.2.1 dX11_gang_125 rfl (lv_at hl 0 rfl) ?_
                      refine gf_X11_7 hC hw dX11_gang_126 ?_
                      refine lv_sipush (v := nI 186) hC.1 hC.2.1 dX11_gang_129 (by decide) ?_
                      refine lv_iload hC.1 hC.2.1 dX11_gang_132 (lv_at hl 4 rfl) ?_
                      refine q_addN hC dX11_gang_134 ?_
                      refine al_M1 (v := eM ((g_run (τ 1) group nh nj j).1) 8 j) hC hw (by omega) (show _ = eM ((g_run (τ 1) group nh nj j).1) 8 j from congrArg ((g_run (τ 1) group nh nj j).1) (by omega)) dX11_gang_135 ?_
                      refine lv_iload_n hC.1 hC.2.1 dX11_gang_136 rfl (lv_at hl 1 rfl) ?_
                      refine q_cmpne hC 185 cI dX11_gang_137 (by decide) (fun (c35 : ¬ ((eM ((g_run (τ 1) group nh nj j).1) 8 j) = group)) => ?_) (fun (c35 : (eM ((g_run (τ 1) group nh nj j).1) 8 j) = group) => ?_)
                      · exact J185_33 _ (by simp [c4, c6, c7, c12, c21, c34, c35]) _ (by (rw [if_pos c34, if_neg c35]) <;> rfl) _ _ _ hw (lv_sub hl [0, 1, 2, 3, 4] rfl)
                      · refine lv_aload_n hC.1 hC.2.1 dX11_gang_140 rfl (lv_at hl 0 rfl) ?_
                        refine gf_X11_7 hC hw dX11_gang_141 ?_
                        refine lv_sipush (v := nI 258) hC.1 hC.2.1 dX11_gang_144 (by decide) ?_
                        refine lv_iload hC.1 hC.2.1 dX11_gang_147 (lv_at hl 4 rfl) ?_
                        refine q_addN hC dX11_gang_149 ?_
                        refine al_M1 (v := eM ((g_run (τ 1) group nh nj j).1) 11 j) hC hw (by omega) (show _ = eM ((g_run (τ 1) group nh nj j).1) 11 j from congrArg ((g_run (τ 1) group nh nj j).1) (by omega)) dX11_gang_150 ?_
                        refine q_ifne hC 185 cI dX11_gang_151 (by decide) (fun (c36 : ¬ ((eM ((g_run (τ 1) group nh nj j).1) 11 j) = 0)) => ?_) (fun (c36 : (eM ((g_run (τ 1) group nh nj j).1) 11 j) = 0) => ?_)
                        · exact J185_33 _ (by simp [c4, c6, c7, c12, c21, c34, c35, c36]) _ (by (rw [if_pos c34, if_pos c35, if_neg c36]) <;> rfl) _ _ _ hw (lv_sub hl [0, 1, 2, 3, 4] rfl)
                        · refine lv_aload_n hC.1 hC.2.1 dX11_gang_154 rfl (lv_at hl 0 rfl) ?_
                          refine lv_iload hC.1 hC.2.1 dX11_gang_155 (lv_at hl 4 rfl) ?_
                          refine q_callVp (As := [.int (nI j)]) (rest := []) (q0 := 0) hC hw hl (tX11_bestFor l E a (sr (sr τ 1 ((g_run (τ 1) group nh nj j).1)) 4 (cpy 354 (τ 1) (τ 4))) nh nj j hWg (by first | assumption | omega)) (q_cwV hC.2.2.2.2.1 ⟨rfl, rfl⟩ wk5_20 wk5_22 wks_3_3 wk1_12 wk5_23 hd_X11_bestFor ⟨Nat.le_of_ble_eq_true rfl, Nat.le_of_ble_eq_true rfl⟩) rfl rfl rfl rfl rfl (Nat.le_of_ble_eq_true rfl) dX11_gang_157 (fun H locs hw => ?_)
                          refine lv_istore (lv' := [(5, .int (m_bst (eM ((g_run (τ 1) group nh nj j).1)) (pB (eM ((g_run (τ 1) group nh nj j).1)) (nI j)) nh nj j nh)), (0, .ref (a 70)), (1, .int (group)), (2, .int (m_gsz (τ 1) group nj)), (3, .int (if (g_run (τ 1) group nh nj j).2 = true then (1 : Int32) else 0)), (4, .int (nI j))]) hC.1 hC.2.1 dX11_gang_160 hl (by decide) rfl (fun ls hl => ?_)
                          refine lv_iload hC.1 hC.2.1 dX11_gang_162 (lv_at hl 0 rfl) ?_
                          have J172_41 : ∀ (w40 : Int32), w40 = (if ¬ ((m_bst (eM ((g_run (τ 1) group nh nj j).1)) (pB (eM ((g_run (τ 1) group nh nj j).1)) (nI j)) nh nj j nh) < 0) then (1 : Int32) else 0) → ∀ (H : Heap) (locs : List Loc) (ls : Array Slot), Wst E (MW E a) (sr (sr τ 1 ((g_run (τ 1) group nh nj j).1)) 4 (cpy 354 (τ 1) (τ 4))) A s.heap H locs → lv_has ls 6 [(0, .ref (a 70)), (1, .int (group)), (2, .int (m_gsz (τ 1) group nj)), (3, .int (if (g_run (τ 1) group nh nj j).2 = true then (1 : Int32) else 0)), (4, .int (nI j)), (5, .int (m_bst (eM ((g_run (τ 1) group nh nj j).1)) (pB (eM ((g_run (τ 1) group nh nj j).1)) (nI j)) nh nj j nh))] → W p l e ({ frames := 5, cells := 0, slots := 0, locals := 119 }) s m args below meth c H locs 0 0 Q (F0 m 172 ls [.int (w40)]) := by
                            intro w40 e41 H locs ls hw hl
                            subst e41
                            refine lv_istore_n (lv' := [(3, .int (if ¬ ((m_bst (eM ((g_run (τ 1) group nh nj j).1)) (pB (eM ((g_run (τ 1) group nh nj j).1)) (nI j)) nh nj j nh) < 0) then (1 : Int32) else 0)), (0, .ref (a 70)), (1, .int (group)), (2, .int (m_gsz (τ 1) group nj)), (4, .int (nI j)), (5, .int (m_bst (eM ((g_run (τ 1) group nh nj j).1)) (pB (eM ((g_run (τ 1) group nh nj j).1)) (nI j)) nh nj j nh))]) hC.1 hC.2.1 dX11_gang_172 rfl hl (by decide) rfl (fun ls hl => ?_)
                            refine lv_iload_n hC.1 hC.2.1 dX11_gang_173 rfl (lv_at hl 0 rfl) ?_
                            refine q_ifeq hC 185 cB dX11_gang_174 (by decide) (fun (c42 : ¬ (¬ ((m_bst (eM ((g_run (τ 1) group nh nj j).1)) (pB (eM ((g_run (τ 1) group nh nj j).1)) (nI j)) nh nj j nh) < 0))) => ?_) (fun (c42 : ¬ ((m_bst (eM ((g_run (τ 1) group nh nj j).1)) (pB (eM ((g_run (τ 1) group nh nj j).1)) (nI j)) nh nj j nh) < 0)) => ?_)
                            · exact J185_33 _ (by simp [c4, c6, c7, c12, c21, c34, c35, c36, c42]) _ (by (rw [if_pos c34, if_pos c35, if_pos c36, if_pos c42]) <;> rfl) _ _ _ hw (lv_sub hl [1, 2, 3, 0, 4] rfl)
                            · refine lv_aload_n hC.1 hC.2.1 dX11_gang_177 rfl (lv_at hl 1 rfl) ?_
                              refine lv_iload hC.1 hC.2.1 dX11_gang_178 (lv_at hl 4 rfl) ?_
                              refine lv_iload hC.1 hC.2.1 dX11_gang_180 (lv_at hl 5 rfl) ?_
                              have hbc42 := m_bst_nat (show nh < 2 ^ 31 by omega) c42
                              refine q_top (y := nI ((m_bst (eM (g_run (τ 1) group nh nj j).1) (pB (eM (g_run (τ 1) group nh nj j).1) (nI j)) nh nj j nh).toNatClampNeg)) hbc42.1 ?_
                              refine q_callVvp (As := [.int (nI j), .int (nI ((m_bst (eM (g_run (τ 1) group nh nj j).1) (pB (eM (g_run (τ 1) group nh nj j).1) (nI j)) nh nj j nh).toNatClampNeg))]) (rest := []) (q0 := 0) hC hw hl (tX11_stand l E a (sr (sr τ 1 ((g_run (τ 1) group nh nj j).1)) 4 (cpy 354 (τ 1) (τ 4))) j ((m_bst (eM (g_run (τ 1) group nh nj j).1) (pB (eM (g_run (τ 1) group nh nj j).1) (nI j)) nh nj j nh).toNatClampNeg) (by first | assumption | omega)) (q_cwV hC.2.2.2.2.1 ⟨rfl, rfl⟩ wk5_24 wk5_26 wks_3_4 wk1_12 wk5_27 hd_X11_stand ⟨Nat.le_of_ble_eq_true rfl, Nat.le_of_ble_eq_true rfl⟩) rfl rfl rfl rfl rfl (Nat.le_of_ble_eq_true rfl) dX11_gang_182 (fun H locs hw => ?_)
                              have hw : Wst E (MW E a) (sr (sr τ 1 (f_std ((g_run (τ 1) group nh nj j).1) j ((m_bst (eM (g_run (τ 1) group nh nj j).1) (pB (eM (g_run (τ 1) group nh nj j).1) (nI j)) nh nj j nh).toNatClampNeg))) 4 (cpy 354 (τ 1) (τ 4))) A s.heap H locs := hw
                              exact J185_33 _ (by simp [c4, c6, c7, c12, c21, c34, c35, c36, c42]) _ (by (rw [if_pos c34, if_pos c35, if_pos c36, if_neg (fun q => q c42)]) <;> rfl) _ _ _ hw (lv_sub hl [1, 2, 3, 0, 4] rfl)
                          refine q_iflt hC 171 cI dX11_gang_164 (by decide) (fun (c46 : (m_bst (eM ((g_run (τ 1) group nh nj j).1)) (pB (eM ((g_run (τ 1) group nh nj j).1)) (nI j)) nh nj j nh) < 0) => ?_) (fun (c46 : ¬ ((m_bst (eM ((g_run (τ 1) group nh nj j).1)) (pB (eM ((g_run (τ 1) group nh nj j).1)) (nI j)) nh nj j nh) < 0)) => ?_)
                          · refine lv_iconst (v := nI 0) hC.1 hC.2.1 dX11_gang_171 (by decide) ?_
                            exact J172_41 _ (if_neg (fun q => q c46)).symm _ _ _ hw (lv_sub hl [1, 2, 3, 4, 5, 0] rfl)
                          · refine lv_iconst (v := nI 1) hC.1 hC.2.1 dX11_gang_167 (by decide) ?_
                            refine lv_goto (tgt := 172) hC.1 hC.2.1 dX11_gang_168 (by decide) ?_
                            exact J172_41 _ (if_pos c46).symm _ _ _ hw (lv_sub hl [1, 2, 3, 4, 5, 0] rfl)
            exact L96_10 _ 0 (nI 1) rfl (Nat.zero_le _) (Nat.lt_succ_self _) _ _ _ hw (lv_sub hl [2, 3, 4, 1, 0] rfl)
          · refine lv_bipush (v := (-2)) hC.1 hC.2.1 dX11_gang_84 (by decide) ?_
            refine hret _ _ _ _ _ _ hw ?_ rfl dX11_gang_86
            have hk9 : k = nj := by omega
            rw [hk9] at c7
            have ho : o_gang (τ 1) nh nj group = (-2, none) := by rw [o_gang, if_pos ((le_iff (n := 7) (by decide)).mp c4), if_pos c7]
            rw [ho]
            exact ⟨rfl, MP0 hKR hO⟩
        · refine lv_iload_n hC.1 hC.2.1 dX11_gang_26 rfl (lv_at hl 2 rfl) ?_
          refine lv_aload_n hC.1 hC.2.1 dX11_gang_27 rfl (lv_at hl 0 rfl) ?_
          refine gf_X11_7 hC hw dX11_gang_28 ?_
          refine lv_bipush (v := nI 66) hC.1 hC.2.1 dX11_gang_31 (by decide) ?_
          refine lv_iload_n hC.1 hC.2.1 dX11_gang_33 rfl (lv_at hl 3 rfl) ?_
          refine q_addN hC dX11_gang_34 ?_
          refine al_M1 (v := eM (τ 1) 5 k) hC hw (by omega) (show _ = eM (τ 1) 5 k from congrArg (τ 1) (by omega)) dX11_gang_35 ?_
          refine lv_iconst (v := nI 2) hC.1 hC.2.1 dX11_gang_36 (by decide) ?_
          have J72_48 : ∀ (w47 : Int32), w47 = (if ((eM (τ 1) 5 k) = 2) ∧ (((eM (τ 1) 8 k) = group) ∧ ((eM (τ 1) 11 k) = 0)) then (1 : Int32) else 0) → ∀ (H : Heap) (locs : List Loc) (ls : Array Slot), Wst E (MW E a) (τ) A s.heap H locs → lv_has ls 6 [(0, .ref (a 70)), (1, .int (group)), (2, .int (m_gsz (τ 1) group k)), (3, .int (nI k))] → W p l e ({ frames := 5, cells := 0, slots := 0, locals := 119 }) s m args below meth c H locs 0 0 Q (F0 m 72 ls [.int (w47), .int (m_gsz (τ 1) group k)]) := by
            intro w47 e48 H locs ls hw hl
            subst e48
            refine lv_iadd hC.1 hC.2.1 dX11_gang_72 ?_
            refine lv_istore_n (lv' := [(2, .int ((m_gsz (τ 1) group k) + (if ((eM (τ 1) 5 k) = 2) ∧ (((eM (τ 1) 8 k) = group) ∧ ((eM (τ 1) 11 k) = 0)) then (1 : Int32) else 0))), (0, .ref (a 70)), (1, .int (group)), (3, .int (nI k))]) hC.1 hC.2.1 dX11_gang_73 rfl hl (by decide) rfl (fun ls hl => ?_)
            refine lv_iinc (v := nI (k + 1)) (lv' := [(3, .int (nI (k + 1))), (2, .int ((m_gsz (τ 1) group k) + (if ((eM (τ 1) 5 k) = 2) ∧ (((eM (τ 1) 8 k) = group) ∧ ((eM (τ 1) 11 k) = 0)) then (1 : Int32) else 0))), (0, .ref (a 70)), (1, .int (group))]) hC.1 hC.2.1 dX11_gang_74 hl (k := 3) rfl (nI_add _ _) (by decide) rfl (fun ls hl => ?_)
            refine lv_goto (tgt := 16) hC.1 hC.2.1 dX11_gang_77 (by decide) ?_
            exact ih16 (k + 1) ((m_gsz (τ 1) group k) + (if ((eM (τ 1) 5 k) = 2) ∧ (((eM (τ 1) 8 k) = group) ∧ ((eM (τ 1) 11 k) = 0)) then (1 : Int32) else 0)) (by simp only [m_gsz, sm]; grind) (by omega) (by omega) _ _ _ hw (lv_sub hl [2, 3, 1, 0] rfl)
          refine q_cmpne hC 71 cI dX11_gang_37 (by decide) (fun (c49 : ¬ ((eM (τ 1) 5 k) = 2)) => ?_) (fun (c49 : (eM (τ 1) 5 k) = 2) => ?_)
          · refine lv_iconst (v := nI 0) hC.1 hC.2.1 dX11_gang_71 (by decide) ?_
            exact J72_48 _ (if_neg (fun q => c49 q.1)).symm _ _ _ hw (lv_sub hl [0, 1, 2, 3] rfl)
          · refine lv_aload_n hC.1 hC.2.1 dX11_gang_40 rfl (lv_at hl 0 rfl) ?_
            refine gf_X11_7 hC hw dX11_gang_41 ?_
            refine lv_sipush (v := nI 186) hC.1 hC.2.1 dX11_gang_44 (by decide) ?_
            refine lv_iload_n hC.1 hC.2.1 dX11_gang_47 rfl (lv_at hl 3 rfl) ?_
            refine q_addN hC dX11_gang_48 ?_
            refine al_M1 (v := eM (τ 1) 8 k) hC hw (by omega) (show _ = eM (τ 1) 8 k from congrArg (τ 1) (by omega)) dX11_gang_49 ?_
            refine lv_iload_n hC.1 hC.2.1 dX11_gang_50 rfl (lv_at hl 1 rfl) ?_
            refine q_cmpne hC 71 cI dX11_gang_51 (by decide) (fun (c50 : ¬ ((eM (τ 1) 8 k) = group)) => ?_) (fun (c50 : (eM (τ 1) 8 k) = group) => ?_)
            · refine lv_iconst (v := nI 0) hC.1 hC.2.1 dX11_gang_71 (by decide) ?_
              exact J72_48 _ (if_neg (fun q => (fun q => c50 q.1) q.2)).symm _ _ _ hw (lv_sub hl [0, 1, 2, 3] rfl)
            · refine lv_aload_n hC.1 hC.2.1 dX11_gang_54 rfl (lv_at hl 0 rfl) ?_
              refine gf_X11_7 hC hw dX11_gang_55 ?_
              refine lv_sipush (v := nI 258) hC.1 hC.2.1 dX11_gang_58 (by decide) ?_
              refine lv_iload_n hC.1 hC.2.1 dX11_gang_61 rfl (lv_at hl 3 rfl) ?_
              refine q_addN hC dX11_gang_62 ?_
              refine al_M1 (v := eM (τ 1) 11 k) hC hw (by omega) (show _ = eM (τ 1) 11 k from congrArg (τ 1) (by omega)) dX11_gang_63 ?_
              refine q_ifne hC 71 cI dX11_gang_64 (by decide) (fun (c51 : ¬ ((eM (τ 1) 11 k) = 0)) => ?_) (fun (c51 : (eM (τ 1) 11 k) = 0) => ?_)
              · refine lv_iconst (v := nI 0) hC.1 hC.2.1 dX11_gang_71 (by decide) ?_
                exact J72_48 _ (if_neg (fun q => (fun q => c51 q.2) q.2)).symm _ _ _ hw (lv_sub hl [0, 1, 2, 3] rfl)
              · refine lv_iconst (v := nI 1) hC.1 hC.2.1 dX11_gang_67 (by decide) ?_
                refine lv_goto (tgt := 72) hC.1 hC.2.1 dX11_gang_68 (by decide) ?_
                exact J72_48 _ (if_pos ⟨c49, ⟨c50, c51⟩⟩).symm _ _ _ hw (lv_sub hl [0, 1, 2, 3] rfl)
    exact L16_4 _ 0 (nI 0) rfl (Nat.zero_le _) (Nat.lt_succ_self _) _ _ _ hw (lv_sub hl [2, 3, 1, 0] rfl)
  · refine lv_iconst (v := (-1)) hC.1 hC.2.1 dX11_gang_10 (by decide) ?_
    refine hret _ _ _ _ _ _ hw ?_ rfl dX11_gang_11
    have ho : o_gang (τ 1) nh nj group = (-1, none) := by rw [o_gang, if_neg (fun q => c4 ((le_iff (n := 7) (by decide)).mpr q))]
    rw [ho]
    exact ⟨rfl, MP0 hKR hO⟩
