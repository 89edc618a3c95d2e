section LAWC
variable {p : Program} {l : Launch} {e : Env} {s : State} {m : MethodId} {below : List Frame} {meth : Method} {c : Code} {H : Heap} {locs : List Loc} {cells slots : Nat} {Q : State → Prop} {E : EV} {A : Nat → Prop} {ls : Array Slot} {a a' : Nat → Nat} {σ τ : St} {b L i T : Nat} {xs : Nat → Int32}
set_option maxHeartbeats 4000000 in
set_option maxRecDepth 100000 in
theorem law_target (hC : Cxt E p s m #[.ref b] meth c cL_law 4 ret R_law A) (hX : va_X b L xs s s.heap) (hbl : b < s.heap.size) (hbA : ¬ A b) (hL : L ≤ 4608) (hi : i + 9 ≤ L) (hcs : cells ≤ room_1.cells ∧ slots ≤ room_1.slots) (hT : T < 2 ^ 29) (hI : INVx σ τ T) (hw : Wk E (XW E a σ ++ MW E a' τ) A s.heap H locs) (hl : lv_has ls 4 [(0, .ref b), (1, .ref (a 71)), (2, .ref (a' 70)), (3, .int (nI i))])
    (kk : ∀ (σ' τ' : St) (H : Heap) (locs : List Loc), INVx σ' τ' (T + 24) → Wk E (XW E a σ' ++ MW E a' τ') A s.heap H locs → W p l e room_1 s m #[.ref b] below meth c H locs cells slots Q (F0 m 815 ls [])) : W p l e room_1 s m #[.ref b] below meth c H locs cells slots Q (F0 m 654 ls []) := by
  obtain ⟨nh, nj, stk, hI⟩ := hI
  refine lv_aload_n hC.1 hC.2.1 dL_law_654 rfl (lv_at hl 1 rfl) ?_
  refine lv_aload_n hC.1 hC.2.1 dL_law_655 rfl (lv_at hl 0 rfl) ?_
  refine lv_iload_n hC.1 hC.2.1 dL_law_656 rfl (lv_at hl 3 rfl) ?_
  refine lv_iconst (v := nI 1) hC.1 hC.2.1 dL_law_657 (by decide) ?_
  refine l_addN hC dL_law_658 ?_
  refine l_sld hC hX hbl hbA hw.2.2 (by omega) (by omega) dL_law_659 ?_
  refine lv_aload_n hC.1 hC.2.1 dL_law_660 rfl (lv_at hl 0 rfl) ?_
  refine lv_iload_n hC.1 hC.2.1 dL_law_661 rfl (lv_at hl 3 rfl) ?_
  refine lv_iconst (v := nI 2) hC.1 hC.2.1 dL_law_662 (by decide) ?_
  refine l_addN hC dL_law_663 ?_
  refine l_sld hC hX hbl hbA hw.2.2 (by omega) (by omega) dL_law_664 ?_
  refine l_call (Wf := XW E a) (As := [.int (xs (i + 1)), .int (xs (i + 2))]) (rest := []) (q0 := 0) hC hw hl (tX10_target l E a σ nh nj (τ 1) stk T (xs (i + 1)) (xs (i + 2)) hI.1) (q_cwV hC.2.2.2.2.1 ⟨rfl, rfl⟩ wk3_206 wk3_207 wk3_208 wk1_1 wk3_209 hd_X10_target ⟨Nat.le_of_ble_eq_true rfl, Nat.le_of_ble_eq_true rfl⟩) rfl rfl rfl rfl rfl (Nat.le_of_ble_eq_true rfl) dL_law_665 hcs (fun r1 σ1 H locs h1 hw => ?_)
  have hw := hw.swap
  refine lv_aload_n hC.1 hC.2.1 dL_law_668 rfl (lv_at hl 2 rfl) ?_
  refine lv_aload_n hC.1 hC.2.1 dL_law_669 rfl (lv_at hl 0 rfl) ?_
  refine lv_iload_n hC.1 hC.2.1 dL_law_670 rfl (lv_at hl 3 rfl) ?_
  refine lv_iconst (v := nI 1) hC.1 hC.2.1 dL_law_671 (by decide) ?_
  refine l_addN hC dL_law_672 ?_
  refine l_sld hC hX hbl hbA hw.2.2 (by omega) (by omega) dL_law_673 ?_
  refine lv_aload_n hC.1 hC.2.1 dL_law_674 rfl (lv_at hl 0 rfl) ?_
  refine lv_iload_n hC.1 hC.2.1 dL_law_675 rfl (lv_at hl 3 rfl) ?_
  refine lv_iconst (v := nI 2) hC.1 hC.2.1 dL_law_676 (by decide) ?_
  refine l_addN hC dL_law_677 ?_
  refine l_sld hC hX hbl hbA hw.2.2 (by omega) (by omega) dL_law_678 ?_
  refine l_call (Wf := MW E a') (As := [.int (xs (i + 1)), .int (xs (i + 2))]) (rest := [.int r1]) (q0 := 0) hC hw hl (tX11_target l E a' τ nh nj stk (xs (i + 1)) (xs (i + 2)) hI.mf hI.2.2.1 hI.2.1) (q_cwV hC.2.2.2.2.1 ⟨rfl, rfl⟩ wk5_104 wk5_105 wk5_106 wk1_12 wk5_107 hd_X11_target ⟨Nat.le_of_ble_eq_true rfl, Nat.le_of_ble_eq_true rfl⟩) rfl rfl rfl rfl rfl (Nat.le_of_ble_eq_true rfl) dL_law_679 hcs (fun r2 τ1 H locs h2 hw => ?_)
  have hw := hw.swap
  have hS : r1 = r2 ∧ INVx σ1 τ1 (T + 24) := by
    exact ⟨h1.1.trans h2.1.symm, hI.up h1.2.1 h1.2.2 h2.2⟩
  refine lv_icmp_eq (tgt := 815) hC.1 hC.2.1 dL_law_682 (by decide) (fun _ => ?_) (fun c0 => absurd hS.1 c0)
  exact kk σ1 τ1 H locs hS.2 hw
set_option maxHeartbeats 4000000 in
set_option maxRecDepth 100000 in
theorem law_plan (hC : Cxt E p s m #[.ref b] meth c cL_law 4 ret R_law A) (hX : va_X b L xs s s.heap) (hbl : b < s.heap.size) (hbA : ¬ A b) (hL : L ≤ 4608) (hi : i + 9 ≤ L) (hcs : cells ≤ room_1.cells ∧ slots ≤ room_1.slots) (hT : T < 2 ^ 29) (hI : INVx σ τ T) (hw : Wk E (XW E a σ ++ MW E a' τ) A s.heap H locs) (hl : lv_has ls 4 [(0, .ref b), (1, .ref (a 71)), (2, .ref (a' 70)), (3, .int (nI i))])
    (kk : ∀ (σ' τ' : St) (H : Heap) (locs : List Loc), INVx σ' τ' (T + 24) → Wk E (XW E a σ' ++ MW E a' τ') A s.heap H locs → W p l e room_1 s m #[.ref b] below meth c H locs cells slots Q (F0 m 815 ls [])) : W p l e room_1 s m #[.ref b] below meth c H locs cells slots Q (F0 m 687 ls []) := by
  obtain ⟨nh, nj, stk, hI⟩ := hI
  refine lv_aload_n hC.1 hC.2.1 dL_law_687 rfl (lv_at hl 1 rfl) ?_
  refine l_call (Wf := XW E a) (As := []) (rest := []) (q0 := 0) hC hw hl (tX10_plan l E a σ nh nj (τ 1) stk T  hI.1) (q_cwV hC.2.2.2.2.1 ⟨rfl, rfl⟩ wk3_214 wk3_215 wk3_216 wk1_1 wk3_217 hd_X10_plan ⟨Nat.le_of_ble_eq_true rfl, Nat.le_of_ble_eq_true rfl⟩) rfl rfl rfl rfl rfl (Nat.le_of_ble_eq_true rfl) dL_law_688 hcs (fun r1 σ1 H locs h1 hw => ?_)
  have hw := hw.swap
  refine lv_aload_n hC.1 hC.2.1 dL_law_691 rfl (lv_at hl 2 rfl) ?_
  refine l_call (Wf := MW E a') (As := []) (rest := [.int r1]) (q0 := 0) hC hw hl (tX11_plan l E a' τ nh nj  hI.mf) (q_cwV hC.2.2.2.2.1 ⟨rfl, rfl⟩ wk5_112 wk5_113 wk5_114 wk1_12 wk5_115 hd_X11_plan ⟨Nat.le_of_ble_eq_true rfl, Nat.le_of_ble_eq_true rfl⟩) rfl rfl rfl rfl rfl (Nat.le_of_ble_eq_true rfl) dL_law_692 hcs (fun r2 τ1 H locs h2 hw => ?_)
  have hw := hw.swap
  have hS : r1 = r2 ∧ INVx σ1 τ1 (T + 24) := by
    obtain ⟨mv, mj, mh, x1, e1, e2, e3, hcl, e4⟩ := h1; obtain ⟨_, _, _, _, _, _, _, _, z6, mj2, mh2, y1, rfl⟩ := h2; obtain ⟨er, hs⟩ := PLr.uniq hI.mf hI.2.2.2.1 x1 y1; exact ⟨er, nh, nj, stk, hcl, hI.2.1, hI.2.2.1, by rw [e1, e2, e3]; exact hs, by rw [e4]; exact hI.2.2.2.2⟩
  refine lv_icmp_eq (tgt := 815) hC.1 hC.2.1 dL_law_695 (by decide) (fun _ => ?_) (fun c0 => absurd hS.1 c0)
  exact kk σ1 τ1 H locs hS.2 hw
set_option maxHeartbeats 4000000 in
set_option maxRecDepth 100000 in
theorem law_step (hC : Cxt E p s m #[.ref b] meth c cL_law 4 ret R_law A) (hX : va_X b L xs s s.heap) (hbl : b < s.heap.size) (hbA : ¬ A b) (hL : L ≤ 4608) (hi : i + 9 ≤ L) (hcs : cells ≤ room_1.cells ∧ slots ≤ room_1.slots) (hT : T < 2 ^ 29) (hI : INVx σ τ T) (hw : Wk E (XW E a σ ++ MW E a' τ) A s.heap H locs) (hl : lv_has ls 4 [(0, .ref b), (1, .ref (a 71)), (2, .ref (a' 70)), (3, .int (nI i))])
    (kk : ∀ (σ' τ' : St) (H : Heap) (locs : List Loc), INVx σ' τ' (T + 24) → Wk E (XW E a σ' ++ MW E a' τ') A s.heap H locs → W p l e room_1 s m #[.ref b] below meth c H locs cells slots Q (F0 m 815 ls [])) : W p l e room_1 s m #[.ref b] below meth c H locs cells slots Q (F0 m 700 ls []) := by
  obtain ⟨nh, nj, stk, hI⟩ := hI
  obtain ⟨n, hn8, hs1, hs2, hs3⟩ := hI.2.2.2.1
  refine lv_aload_n hC.1 hC.2.1 dL_law_700 rfl (lv_at hl 1 rfl) ?_
  refine lv_aload_n hC.1 hC.2.1 dL_law_701 rfl (lv_at hl 0 rfl) ?_
  refine lv_iload_n hC.1 hC.2.1 dL_law_702 rfl (lv_at hl 3 rfl) ?_
  refine lv_iconst (v := nI 1) hC.1 hC.2.1 dL_law_703 (by decide) ?_
  refine l_addN hC dL_law_704 ?_
  refine l_sld hC hX hbl hbA hw.2.2 (by omega) (by omega) dL_law_705 ?_
  refine lv_aload_n hC.1 hC.2.1 dL_law_706 rfl (lv_at hl 0 rfl) ?_
  refine lv_iload_n hC.1 hC.2.1 dL_law_707 rfl (lv_at hl 3 rfl) ?_
  refine lv_iconst (v := nI 2) hC.1 hC.2.1 dL_law_708 (by decide) ?_
  refine l_addN hC dL_law_709 ?_
  refine l_sld hC hX hbl hbA hw.2.2 (by omega) (by omega) dL_law_710 ?_
  refine l_call (Wf := XW E a) (As := [.int (xs (i + 1)), .int (xs (i + 2))]) (rest := []) (q0 := 0) hC hw hl (tX10_step l E a σ n (xs (i + 1)) (xs (i + 2)) hs1 hn8) (q_cwV hC.2.2.2.2.1 ⟨rfl, rfl⟩ wk4_9 wk4_10 wk4_11 wk1_1 wk4_12 hd_X10_step ⟨Nat.le_of_ble_eq_true rfl, Nat.le_of_ble_eq_true rfl⟩) rfl rfl rfl rfl rfl (Nat.le_of_ble_eq_true rfl) dL_law_711 hcs (fun r1 σ1 H locs h1 hw => ?_)
  have hw := hw.swap
  refine lv_aload_n hC.1 hC.2.1 dL_law_714 rfl (lv_at hl 2 rfl) ?_
  refine lv_aload_n hC.1 hC.2.1 dL_law_715 rfl (lv_at hl 0 rfl) ?_
  refine lv_iload_n hC.1 hC.2.1 dL_law_716 rfl (lv_at hl 3 rfl) ?_
  refine lv_iconst (v := nI 1) hC.1 hC.2.1 dL_law_717 (by decide) ?_
  refine l_addN hC dL_law_718 ?_
  refine l_sld hC hX hbl hbA hw.2.2 (by omega) (by omega) dL_law_719 ?_
  refine lv_aload_n hC.1 hC.2.1 dL_law_720 rfl (lv_at hl 0 rfl) ?_
  refine lv_iload_n hC.1 hC.2.1 dL_law_721 rfl (lv_at hl 3 rfl) ?_
  refine lv_iconst (v := nI 2) hC.1 hC.2.1 dL_law_722 (by decide) ?_
  refine l_addN hC dL_law_723 ?_
  refine l_sld hC hX hbl hbA hw.2.2 (by omega) (by omega) dL_law_724 ?_
  refine l_call (Wf := MW E a') (As := [.int (xs (i + 1)), .int (xs (i + 2))]) (rest := [.int r1]) (q0 := 0) hC hw hl (tX11_step l E a' τ n (xs (i + 1)) (xs (i + 2)) hs2 hn8) (q_cwV hC.2.2.2.2.1 ⟨rfl, rfl⟩ wk5_124 wk5_125 wk5_126 wk1_12 wk5_127 hd_X11_step ⟨Nat.le_of_ble_eq_true rfl, Nat.le_of_ble_eq_true rfl⟩) rfl rfl rfl rfl rfl (Nat.le_of_ble_eq_true rfl) dL_law_725 hcs (fun r2 τ1 H locs h2 hw => ?_)
  have hw := hw.swap
  have hS : r1 = r2 ∧ INVx σ1 τ1 (T + 24) := by
    obtain ⟨e1, rfl⟩ := h1; obtain ⟨e2, rfl⟩ := h2; exact ⟨e1.trans ((o_step_eq hn8 hs3).trans e2.symm), hI.mono⟩
  refine lv_icmp_eq (tgt := 815) hC.1 hC.2.1 dL_law_728 (by decide) (fun _ => ?_) (fun c0 => absurd hS.1 c0)
  exact kk σ1 τ1 H locs hS.2 hw
set_option maxHeartbeats 4000000 in
set_option maxRecDepth 100000 in
theorem law_fewest (hC : Cxt E p s m #[.ref b] meth c cL_law 4 ret R_law A) (hX : va_X b L xs s s.heap) (hbl : b < s.heap.size) (hbA : ¬ A b) (hL : L ≤ 4608) (hi : i + 9 ≤ L) (hcs : cells ≤ room_1.cells ∧ slots ≤ room_1.slots) (hT : T < 2 ^ 29) (hI : INVx σ τ T) (hw : Wk E (XW E a σ ++ MW E a' τ) A s.heap H locs) (hl : lv_has ls 4 [(0, .ref b), (1, .ref (a 71)), (2, .ref (a' 70)), (3, .int (nI i))])
    (kk : ∀ (σ' τ' : St) (H : Heap) (locs : List Loc), INVx σ' τ' (T + 24) → Wk E (XW E a σ' ++ MW E a' τ') A s.heap H locs → W p l e room_1 s m #[.ref b] below meth c H locs cells slots Q (F0 m 815 ls [])) : W p l e room_1 s m #[.ref b] below meth c H locs cells slots Q (F0 m 733 ls []) := by
  obtain ⟨nh, nj, stk, hI⟩ := hI
  refine lv_aload_n hC.1 hC.2.1 dL_law_733 rfl (lv_at hl 1 rfl) ?_
  refine l_call (Wf := XW E a) (As := []) (rest := []) (q0 := 0) hC hw hl (tX10_fewest l E a σ nh nj (τ 1) stk T  hI.1) (q_cwV hC.2.2.2.2.1 ⟨rfl, rfl⟩ wk4_13 wk4_14 wk4_15 wk1_1 wk4_16 hd_X10_fewest ⟨Nat.le_of_ble_eq_true rfl, Nat.le_of_ble_eq_true rfl⟩) rfl rfl rfl rfl rfl (Nat.le_of_ble_eq_true rfl) dL_law_734 hcs (fun r1 σ1 H locs h1 hw => ?_)
  have hw := hw.swap
  refine lv_aload_n hC.1 hC.2.1 dL_law_737 rfl (lv_at hl 2 rfl) ?_
  refine l_call (Wf := MW E a') (As := []) (rest := [.int r1]) (q0 := 0) hC hw hl (tX11_fewest l E a' τ nh nj  hI.mf) (q_cwV hC.2.2.2.2.1 ⟨rfl, rfl⟩ wk5_128 wk5_129 wk5_130 wk1_12 wk5_131 hd_X11_fewest ⟨Nat.le_of_ble_eq_true rfl, Nat.le_of_ble_eq_true rfl⟩) rfl rfl rfl rfl rfl (Nat.le_of_ble_eq_true rfl) dL_law_738 hcs (fun r2 τ1 H locs h2 hw => ?_)
  have hw := hw.swap
  have hS : r1 = r2 ∧ INVx σ1 τ1 (T + 24) := by
    obtain ⟨x1, hcl, hkx⟩ := h1; obtain ⟨_, _, _, _, y1, rfl⟩ := h2; exact ⟨x1.uniq y1, hI.kp hcl hkx rfl hI.2.1 hI.2.2.1 ⟨rfl, rfl, rfl, rfl⟩⟩
  refine lv_icmp_eq (tgt := 815) hC.1 hC.2.1 dL_law_741 (by decide) (fun _ => ?_) (fun c0 => absurd hS.1 c0)
  exact kk σ1 τ1 H locs hS.2 hw
set_option maxHeartbeats 4000000 in
set_option maxRecDepth 100000 in
theorem law_would (hC : Cxt E p s m #[.ref b] meth c cL_law 4 ret R_law A) (hX : va_X b L xs s s.heap) (hbl : b < s.heap.size) (hbA : ¬ A b) (hL : L ≤ 4608) (hi : i + 9 ≤ L) (hcs : cells ≤ room_1.cells ∧ slots ≤ room_1.slots) (hT : T < 2 ^ 29) (hI : INVx σ τ T) (hw : Wk E (XW E a σ ++ MW E a' τ) A s.heap H locs) (hl : lv_has ls 4 [(0, .ref b), (1, .ref (a 71)), (2, .ref (a' 70)), (3, .int (nI i))])
    (kk : ∀ (σ' τ' : St) (H : Heap) (locs : List Loc), INVx σ' τ' (T + 24) → Wk E (XW E a σ' ++ MW E a' τ') A s.heap H locs → W p l e room_1 s m #[.ref b] below meth c H locs cells slots Q (F0 m 815 ls [])) : W p l e room_1 s m #[.ref b] below meth c H locs cells slots Q (F0 m 746 ls []) := by
  obtain ⟨nh, nj, stk, hI⟩ := hI
  refine lv_aload_n hC.1 hC.2.1 dL_law_746 rfl (lv_at hl 1 rfl) ?_
  refine lv_aload_n hC.1 hC.2.1 dL_law_747 rfl (lv_at hl 0 rfl) ?_
  refine lv_iload_n hC.1 hC.2.1 dL_law_748 rfl (lv_at hl 3 rfl) ?_
  refine lv_iconst (v := nI 1) hC.1 hC.2.1 dL_law_749 (by decide) ?_
  refine l_addN hC dL_law_750 ?_
  refine l_sld hC hX hbl hbA hw.2.2 (by omega) (by omega) dL_law_751 ?_
  refine lv_aload_n hC.1 hC.2.1 dL_law_752 rfl (lv_at hl 0 rfl) ?_
  refine lv_iload_n hC.1 hC.2.1 dL_law_753 rfl (lv_at hl 3 rfl) ?_
  refine lv_iconst (v := nI 2) hC.1 hC.2.1 dL_law_754 (by decide) ?_
  refine l_addN hC dL_law_755 ?_
  refine l_sld hC hX hbl hbA hw.2.2 (by omega) (by omega) dL_law_756 ?_
  refine l_call (Wf := XW E a) (As := [.int (xs (i + 1)), .int (xs (i + 2))]) (rest := []) (q0 := 0) hC hw hl (tX10_would l E a σ nh nj (τ 1) stk T (xs (i + 1)) (xs (i + 2)) hI.1) (q_cwV hC.2.2.2.2.1 ⟨rfl, rfl⟩ wk4_41 wk4_42 wk4_43 wk1_1 wk4_44 hd_X10_would ⟨Nat.le_of_ble_eq_true rfl, Nat.le_of_ble_eq_true rfl⟩) rfl rfl rfl rfl rfl (Nat.le_of_ble_eq_true rfl) dL_law_757 hcs (fun r1 σ1 H locs h1 hw => ?_)
  have hw := hw.swap
  refine lv_aload_n hC.1 hC.2.1 dL_law_760 rfl (lv_at hl 2 rfl) ?_
  refine lv_aload_n hC.1 hC.2.1 dL_law_761 rfl (lv_at hl 0 rfl) ?_
  refine lv_iload_n hC.1 hC.2.1 dL_law_762 rfl (lv_at hl 3 rfl) ?_
  refine lv_iconst (v := nI 1) hC.1 hC.2.1 dL_law_763 (by decide) ?_
  refine l_addN hC dL_law_764 ?_
  refine l_sld hC hX hbl hbA hw.2.2 (by omega) (by omega) dL_law_765 ?_
  refine lv_aload_n hC.1 hC.2.1 dL_law_766 rfl (lv_at hl 0 rfl) ?_
  refine lv_iload_n hC.1 hC.2.1 dL_law_767 rfl (lv_at hl 3 rfl) ?_
  refine lv_iconst (v := nI 2) hC.1 hC.2.1 dL_law_768 (by decide) ?_
  refine l_addN hC dL_law_769 ?_
  refine l_sld hC hX hbl hbA hw.2.2 (by omega) (by omega) dL_law_770 ?_
  refine l_call (Wf := MW E a') (As := [.int (xs (i + 1)), .int (xs (i + 2))]) (rest := [.int r1]) (q0 := 0) hC hw hl (tX11_would l E a' τ nh nj (xs (i + 1)) (xs (i + 2)) hI.mf) (q_cwV hC.2.2.2.2.1 ⟨rfl, rfl⟩ wk5_136 wk5_137 wk5_138 wk1_12 wk5_139 hd_X11_would ⟨Nat.le_of_ble_eq_true rfl, Nat.le_of_ble_eq_true rfl⟩) rfl rfl rfl rfl rfl (Nat.le_of_ble_eq_true rfl) dL_law_771 hcs (fun r2 τ1 H locs h2 hw => ?_)
  have hw := hw.swap
  have hS : r1 = r2 ∧ INVx σ1 τ1 (T + 24) := by
    obtain ⟨x1, hcl, hkx⟩ := h1; obtain ⟨_, y1, rfl⟩ := h2; exact ⟨x1.uniq y1, hI.kp hcl hkx rfl hI.2.1 hI.2.2.1 ⟨rfl, rfl, rfl, rfl⟩⟩
  refine lv_icmp_eq (tgt := 815) hC.1 hC.2.1 dL_law_774 (by decide) (fun _ => ?_) (fun c0 => absurd hS.1 c0)
  exact kk σ1 τ1 H locs hS.2 hw
set_option maxHeartbeats 4000000 in
set_option maxRecDepth 100000 in
theorem law_undo (hC : Cxt E p s m #[.ref b] meth c cL_law 4 ret R_law A) (hX : va_X b L xs s s.heap) (hbl : b < s.heap.size) (hbA : ¬ A b) (hL : L ≤ 4608) (hi : i + 9 ≤ L) (hcs : cells ≤ room_1.cells ∧ slots ≤ room_1.slots) (hT : T < 2 ^ 29) (hI : INVx σ τ T) (hw : Wk E (XW E a σ ++ MW E a' τ) A s.heap H locs) (hl : lv_has ls 4 [(0, .ref b), (1, .ref (a 71)), (2, .ref (a' 70)), (3, .int (nI i))])
    (kk : ∀ (σ' τ' : St) (H : Heap) (locs : List Loc), INVx σ' τ' (T + 24) → Wk E (XW E a σ' ++ MW E a' τ') A s.heap H locs → W p l e room_1 s m #[.ref b] below meth c H locs cells slots Q (F0 m 815 ls [])) : W p l e room_1 s m #[.ref b] below meth c H locs cells slots Q (F0 m 779 ls []) := by
  obtain ⟨nh, nj, stk, hI⟩ := hI
  refine lv_aload_n hC.1 hC.2.1 dL_law_779 rfl (lv_at hl 1 rfl) ?_
  refine l_call (Wf := XW E a) (As := []) (rest := []) (q0 := 0) hC hw hl (tX10_undo l E a σ nh nj (τ 1) stk T  hI.1) (q_cwV hC.2.2.2.2.1 ⟨rfl, rfl⟩ wk4_77 wk4_78 wk4_79 wk1_1 wk4_80 hd_X10_undo ⟨Nat.le_of_ble_eq_true rfl, Nat.le_of_ble_eq_true rfl⟩) rfl rfl rfl rfl rfl (Nat.le_of_ble_eq_true rfl) dL_law_780 hcs (fun r1 σ1 H locs h1 hw => ?_)
  have hw := hw.swap
  refine lv_aload_n hC.1 hC.2.1 dL_law_783 rfl (lv_at hl 2 rfl) ?_
  refine l_call (Wf := MW E a') (As := []) (rest := [.int r1]) (q0 := 0) hC hw hl (tX11_undo l E a' τ stk  hI.2.2.1 hI.2.1 hI.zr hI.zs) (q_cwV hC.2.2.2.2.1 ⟨rfl, rfl⟩ wk4_164 wk4_165 wk4_166 wk1_12 wk4_167 hd_X11_undo ⟨Nat.le_of_ble_eq_true rfl, Nat.le_of_ble_eq_true rfl⟩) rfl rfl rfl rfl rfl (Nat.le_of_ble_eq_true rfl) dL_law_784 hcs (fun r2 τ1 H locs h2 hw => ?_)
  have hw := hw.swap
  have hS : r1 = r2 ∧ INVx σ1 τ1 (T + 24) := by
    by_cases q : stk.length = 0
    · rw [if_pos q] at h1 h2; obtain ⟨e1, hcl, hkx⟩ := h1; obtain ⟨e2, rfl⟩ := h2; exact ⟨e1.trans e2.symm, hI.kp hcl hkx rfl hI.2.1 hI.2.2.1 ⟨rfl, rfl, rfl, rfl⟩⟩
    · rw [if_neg q] at h1 h2; obtain ⟨e1, hcl, hkx⟩ := h1; obtain ⟨e2, m1, m2, m3, m4⟩ := h2; exact ⟨e1.trans e2.symm, hI.kp hcl hkx m1 m2 m3 m4⟩
  refine lv_icmp_eq (tgt := 815) hC.1 hC.2.1 dL_law_787 (by decide) (fun _ => ?_) (fun c0 => absurd hS.1 c0)
  exact kk σ1 τ1 H locs hS.2 hw
set_option maxHeartbeats 4000000 in
set_option maxRecDepth 100000 in
theorem law_count (hC : Cxt E p s m #[.ref b] meth c cL_law 4 ret R_law A) (hX : va_X b L xs s s.heap) (hbl : b < s.heap.size) (hbA : ¬ A b) (hL : L ≤ 4608) (hi : i + 9 ≤ L) (hcs : cells ≤ room_1.cells ∧ slots ≤ room_1.slots) (hT : T < 2 ^ 29) (hI : INVx σ τ T) (hw : Wk E (XW E a σ ++ MW E a' τ) A s.heap H locs) (hl : lv_has ls 4 [(0, .ref b), (1, .ref (a 71)), (2, .ref (a' 70)), (3, .int (nI i))])
    (kk : ∀ (σ' τ' : St) (H : Heap) (locs : List Loc), INVx σ' τ' (T + 24) → Wk E (XW E a σ' ++ MW E a' τ') A s.heap H locs → W p l e room_1 s m #[.ref b] below meth c H locs cells slots Q (F0 m 815 ls [])) : W p l e room_1 s m #[.ref b] below meth c H locs cells slots Q (F0 m 792 ls []) := by
  obtain ⟨nh, nj, stk, hI⟩ := hI
  refine lv_aload_n hC.1 hC.2.1 dL_law_792 rfl (lv_at hl 1 rfl) ?_
  refine lv_aload_n hC.1 hC.2.1 dL_law_793 rfl (lv_at hl 0 rfl) ?_
  refine lv_iload_n hC.1 hC.2.1 dL_law_794 rfl (lv_at hl 3 rfl) ?_
  refine lv_iconst (v := nI 1) hC.1 hC.2.1 dL_law_795 (by decide) ?_
  refine l_addN hC dL_law_796 ?_
  refine l_sld hC hX hbl hbA hw.2.2 (by omega) (by omega) dL_law_797 ?_
  refine l_call (Wf := XW E a) (As := [.int (xs (i + 1))]) (rest := []) (q0 := 0) hC hw hl (tX10_count l E a σ nh nj (τ 1) stk T (xs (i + 1)) hI.1) (q_cwV hC.2.2.2.2.1 ⟨rfl, rfl⟩ wk4_85 wk4_86 wk4_87 wk1_1 wk4_88 hd_X10_count ⟨Nat.le_of_ble_eq_true rfl, Nat.le_of_ble_eq_true rfl⟩) rfl rfl rfl rfl rfl (Nat.le_of_ble_eq_true rfl) dL_law_798 hcs (fun r1 σ1 H locs h1 hw => ?_)
  have hw := hw.swap
  refine lv_aload_n hC.1 hC.2.1 dL_law_801 rfl (lv_at hl 2 rfl) ?_
  refine lv_aload_n hC.1 hC.2.1 dL_law_802 rfl (lv_at hl 0 rfl) ?_
  refine lv_iload_n hC.1 hC.2.1 dL_law_803 rfl (lv_at hl 3 rfl) ?_
  refine lv_iconst (v := nI 1) hC.1 hC.2.1 dL_law_804 (by decide) ?_
  refine l_addN hC dL_law_805 ?_
  refine l_sld hC hX hbl hbA hw.2.2 (by omega) (by omega) dL_law_806 ?_
  refine l_call (Wf := MW E a') (As := [.int (xs (i + 1))]) (rest := [.int r1]) (q0 := 0) hC hw hl (tX11_count l E a' τ nh nj stk.length (xs (i + 1)) hI.mf hI.2.2.1) (q_cwV hC.2.2.2.2.1 ⟨rfl, rfl⟩ wk5_160 wk5_161 wk5_162 wk1_12 wk5_163 hd_X11_count ⟨Nat.le_of_ble_eq_true rfl, Nat.le_of_ble_eq_true rfl⟩) rfl rfl rfl rfl rfl (Nat.le_of_ble_eq_true rfl) dL_law_807 hcs (fun r2 τ1 H locs h2 hw => ?_)
  have hw := hw.swap
  have hS : r1 = r2 ∧ INVx σ1 τ1 (T + 24) := by
    obtain ⟨e1, rfl⟩ := h1; obtain ⟨e2, rfl⟩ := h2; exact ⟨e1.trans e2.symm, hI.mono⟩
  refine lv_icmp_eq (tgt := 815) hC.1 hC.2.1 dL_law_810 (by decide) (fun _ => ?_) (fun c0 => absurd hS.1 c0)
  exact kk σ1 τ1 H locs hS.2 hw
end LAWC
