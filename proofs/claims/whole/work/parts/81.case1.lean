section LAWC
variable {p : Program} {l : Launch} {e : Env} {s : State} {m : MethodId} {below : List Frame} {meth : Method} {c : Code} {H : Heap} {locs : List Loc} {cells slots : Nat} {Q : State → Prop} {E : EV} {A : Nat → Prop} {ls : Array Slot} {a a' : Nat → Nat} {σ τ : St} {b L i T : Nat} {xs : Nat → Int32}
set_option maxHeartbeats 4000000 in
set_option maxRecDepth 100000 in
theorem law_gone (hC : Cxt E p s m #[.ref b] meth c cL_law 4 ret R_law A) (hX : va_X b L xs s s.heap) (hbl : b < s.heap.size) (hbA : ¬ A b) (hL : L ≤ 4608) (hi : i + 9 ≤ L) (hcs : cells ≤ room_1.cells ∧ slots ≤ room_1.slots) (hT : T < 2 ^ 29) (hI : INVx σ τ T) (hw : Wk E (XW E a σ ++ MW E a' τ) A s.heap H locs) (hl : lv_has ls 4 [(0, .ref b), (1, .ref (a 71)), (2, .ref (a' 70)), (3, .int (nI i))])
    (kk : ∀ (σ' τ' : St) (H : Heap) (locs : List Loc), INVx σ' τ' (T + 24) → Wk E (XW E a σ' ++ MW E a' τ') A s.heap H locs → W p l e room_1 s m #[.ref b] below meth c H locs cells slots Q (F0 m 815 ls [])) : W p l e room_1 s m #[.ref b] below meth c H locs cells slots Q (F0 m 490 ls []) := by
  obtain ⟨nh, nj, stk, hI⟩ := hI
  refine lv_aload_n hC.1 hC.2.1 dL_law_490 rfl (lv_at hl 1 rfl) ?_
  refine l_call (Wf := XW E a) (As := []) (rest := []) (q0 := 0) hC hw hl (tX10_gone l E a σ) (q_cwV hC.2.2.2.2.1 ⟨rfl, rfl⟩ wk3_91 wk3_92 wk3_93 wk1_1 wk3_94 hd_X10_gone ⟨Nat.le_of_ble_eq_true rfl, Nat.le_of_ble_eq_true rfl⟩) rfl rfl rfl rfl rfl (Nat.le_of_ble_eq_true rfl) dL_law_491 hcs (fun r1 σ1 H locs h1 hw => ?_)
  have hw := hw.swap
  refine lv_aload_n hC.1 hC.2.1 dL_law_494 rfl (lv_at hl 2 rfl) ?_
  refine l_call (Wf := MW E a') (As := []) (rest := [.int r1]) (q0 := 0) hC hw hl (tX11_gone l E a' τ   ) (q_cwV hC.2.2.2.2.1 ⟨rfl, rfl⟩ wk5_32 wk5_33 wk5_34 wk1_12 wk5_35 hd_X11_gone ⟨Nat.le_of_ble_eq_true rfl, Nat.le_of_ble_eq_true rfl⟩) rfl rfl rfl rfl rfl (Nat.le_of_ble_eq_true rfl) dL_law_495 hcs (fun r2 τ1 H locs h2 hw => ?_)
  have hw := hw.swap
  have hS : r1 = r2 ∧ INVx σ1 τ1 (T + 24) := by
    obtain ⟨e1, rfl⟩ := h1; obtain ⟨e2, rfl⟩ := h2; exact ⟨e1.trans (hI.2.2.2.2.trans e2.symm), hI.mono⟩
  refine lv_icmp_eq (tgt := 815) hC.1 hC.2.1 dL_law_498 (by decide) (fun _ => ?_) (fun c0 => absurd hS.1 c0)
  exact kk σ1 τ1 H locs hS.2 hw
set_option maxHeartbeats 4000000 in
set_option maxRecDepth 100000 in
theorem law_gang (hC : Cxt E p s m #[.ref b] meth c cL_law 4 ret R_law A) (hX : va_X b L xs s s.heap) (hbl : b < s.heap.size) (hbA : ¬ A b) (hL : L ≤ 4608) (hi : i + 9 ≤ L) (hcs : cells ≤ room_1.cells ∧ slots ≤ room_1.slots) (hT : T < 2 ^ 29) (hI : INVx σ τ T) (hw : Wk E (XW E a σ ++ MW E a' τ) A s.heap H locs) (hl : lv_has ls 4 [(0, .ref b), (1, .ref (a 71)), (2, .ref (a' 70)), (3, .int (nI i))])
    (kk : ∀ (σ' τ' : St) (H : Heap) (locs : List Loc), INVx σ' τ' (T + 24) → Wk E (XW E a σ' ++ MW E a' τ') A s.heap H locs → W p l e room_1 s m #[.ref b] below meth c H locs cells slots Q (F0 m 815 ls [])) : W p l e room_1 s m #[.ref b] below meth c H locs cells slots Q (F0 m 503 ls []) := by
  obtain ⟨nh, nj, stk, hI⟩ := hI
  refine lv_aload_n hC.1 hC.2.1 dL_law_503 rfl (lv_at hl 1 rfl) ?_
  refine lv_aload_n hC.1 hC.2.1 dL_law_504 rfl (lv_at hl 0 rfl) ?_
  refine lv_iload_n hC.1 hC.2.1 dL_law_505 rfl (lv_at hl 3 rfl) ?_
  refine lv_iconst (v := nI 1) hC.1 hC.2.1 dL_law_506 (by decide) ?_
  refine l_addN hC dL_law_507 ?_
  refine l_sld hC hX hbl hbA hw.2.2 (by omega) (by omega) dL_law_508 ?_
  refine l_call (Wf := XW E a) (As := [.int (xs (i + 1))]) (rest := []) (q0 := 0) hC hw hl (tX10_gang l E a σ nh nj (τ 1) stk T (xs (i + 1)) hI.1 hT) (q_cwV hC.2.2.2.2.1 ⟨rfl, rfl⟩ wk3_95 wk3_96 wk3_97 wk1_1 wk3_98 hd_X10_gang ⟨Nat.le_of_ble_eq_true rfl, Nat.le_of_ble_eq_true rfl⟩) rfl rfl rfl rfl rfl (Nat.le_of_ble_eq_true rfl) dL_law_509 hcs (fun r1 σ1 H locs h1 hw => ?_)
  have hw := hw.swap
  refine lv_aload_n hC.1 hC.2.1 dL_law_512 rfl (lv_at hl 2 rfl) ?_
  refine lv_aload_n hC.1 hC.2.1 dL_law_513 rfl (lv_at hl 0 rfl) ?_
  refine lv_iload_n hC.1 hC.2.1 dL_law_514 rfl (lv_at hl 3 rfl) ?_
  refine lv_iconst (v := nI 1) hC.1 hC.2.1 dL_law_515 (by decide) ?_
  refine l_addN hC dL_law_516 ?_
  refine l_sld hC hX hbl hbA hw.2.2 (by omega) (by omega) dL_law_517 ?_
  refine l_call (Wf := MW E a') (As := [.int (xs (i + 1))]) (rest := [.int r1]) (q0 := 0) hC hw hl (tX11_gang l E a' τ nh nj stk (xs (i + 1)) hI.mf hI.2.2.1 hI.2.1 hI.zr) (q_cwV hC.2.2.2.2.1 ⟨rfl, rfl⟩ wk5_36 wk5_37 wk5_38 wk1_12 wk5_39 hd_X11_gang ⟨Nat.le_of_ble_eq_true rfl, Nat.le_of_ble_eq_true rfl⟩) rfl rfl rfl rfl rfl (Nat.le_of_ble_eq_true rfl) dL_law_518 hcs (fun r2 τ1 H locs h2 hw => ?_)
  have hw := hw.swap
  have hS : r1 = r2 ∧ INVx σ1 τ1 (T + 24) := by
    exact ⟨h1.1.trans h2.1.symm, hI.up h1.2.1 h1.2.2 h2.2⟩
  refine lv_icmp_eq (tgt := 815) hC.1 hC.2.1 dL_law_521 (by decide) (fun _ => ?_) (fun c0 => absurd hS.1 c0)
  exact kk σ1 τ1 H locs hS.2 hw
set_option maxHeartbeats 4000000 in
set_option maxRecDepth 100000 in
theorem law_end (hC : Cxt E p s m #[.ref b] meth c cL_law 4 ret R_law A) (hX : va_X b L xs s s.heap) (hbl : b < s.heap.size) (hbA : ¬ A b) (hL : L ≤ 4608) (hi : i + 9 ≤ L) (hcs : cells ≤ room_1.cells ∧ slots ≤ room_1.slots) (hT : T < 2 ^ 29) (hI : INVx σ τ T) (hw : Wk E (XW E a σ ++ MW E a' τ) A s.heap H locs) (hl : lv_has ls 4 [(0, .ref b), (1, .ref (a 71)), (2, .ref (a' 70)), (3, .int (nI i))])
    (kk : ∀ (σ' τ' : St) (H : Heap) (locs : List Loc), INVx σ' τ' (T + 24) → Wk E (XW E a σ' ++ MW E a' τ') A s.heap H locs → W p l e room_1 s m #[.ref b] below meth c H locs cells slots Q (F0 m 815 ls [])) : W p l e room_1 s m #[.ref b] below meth c H locs cells slots Q (F0 m 526 ls []) := by
  obtain ⟨nh, nj, stk, hI⟩ := hI
  refine lv_aload_n hC.1 hC.2.1 dL_law_526 rfl (lv_at hl 1 rfl) ?_
  refine lv_aload_n hC.1 hC.2.1 dL_law_527 rfl (lv_at hl 0 rfl) ?_
  refine lv_iload_n hC.1 hC.2.1 dL_law_528 rfl (lv_at hl 3 rfl) ?_
  refine lv_iconst (v := nI 1) hC.1 hC.2.1 dL_law_529 (by decide) ?_
  refine l_addN hC dL_law_530 ?_
  refine l_sld hC hX hbl hbA hw.2.2 (by omega) (by omega) dL_law_531 ?_
  refine l_call (Wf := XW E a) (As := [.int (xs (i + 1))]) (rest := []) (q0 := 0) hC hw hl (tX10_end l E a σ nh nj (τ 1) stk T (xs (i + 1)) hI.1) (q_cwV hC.2.2.2.2.1 ⟨rfl, rfl⟩ wk3_111 wk3_112 wk3_113 wk1_1 wk3_114 hd_X10_end ⟨Nat.le_of_ble_eq_true rfl, Nat.le_of_ble_eq_true rfl⟩) rfl rfl rfl rfl rfl (Nat.le_of_ble_eq_true rfl) dL_law_532 hcs (fun r1 σ1 H locs h1 hw => ?_)
  have hw := hw.swap
  refine lv_aload_n hC.1 hC.2.1 dL_law_535 rfl (lv_at hl 2 rfl) ?_
  refine lv_aload_n hC.1 hC.2.1 dL_law_536 rfl (lv_at hl 0 rfl) ?_
  refine lv_iload_n hC.1 hC.2.1 dL_law_537 rfl (lv_at hl 3 rfl) ?_
  refine lv_iconst (v := nI 1) hC.1 hC.2.1 dL_law_538 (by decide) ?_
  refine l_addN hC dL_law_539 ?_
  refine l_sld hC hX hbl hbA hw.2.2 (by omega) (by omega) dL_law_540 ?_
  refine l_call (Wf := MW E a') (As := [.int (xs (i + 1))]) (rest := [.int r1]) (q0 := 0) hC hw hl (tX11_end l E a' τ nh nj stk (xs (i + 1)) hI.mf hI.2.2.1 hI.2.1) (q_cwV hC.2.2.2.2.1 ⟨rfl, rfl⟩ wk5_52 wk5_53 wk5_54 wk1_12 wk5_55 hd_X11_end ⟨Nat.le_of_ble_eq_true rfl, Nat.le_of_ble_eq_true rfl⟩) rfl rfl rfl rfl rfl (Nat.le_of_ble_eq_true rfl) dL_law_541 hcs (fun r2 τ1 H locs h2 hw => ?_)
  have hw := hw.swap
  have hS : r1 = r2 ∧ INVx σ1 τ1 (T + 24) := by
    exact ⟨h1.1.trans h2.1.symm, hI.up h1.2.1 h1.2.2 h2.2⟩
  refine lv_icmp_eq (tgt := 815) hC.1 hC.2.1 dL_law_544 (by decide) (fun _ => ?_) (fun c0 => absurd hS.1 c0)
  exact kk σ1 τ1 H locs hS.2 hw
set_option maxHeartbeats 4000000 in
set_option maxRecDepth 100000 in
theorem law_fall (hC : Cxt E p s m #[.ref b] meth c cL_law 4 ret R_law A) (hX : va_X b L xs s s.heap) (hbl : b < s.heap.size) (hbA : ¬ A b) (hL : L ≤ 4608) (hi : i + 9 ≤ L) (hcs : cells ≤ room_1.cells ∧ slots ≤ room_1.slots) (hT : T < 2 ^ 29) (hI : INVx σ τ T) (hw : Wk E (XW E a σ ++ MW E a' τ) A s.heap H locs) (hl : lv_has ls 4 [(0, .ref b), (1, .ref (a 71)), (2, .ref (a' 70)), (3, .int (nI i))])
    (kk : ∀ (σ' τ' : St) (H : Heap) (locs : List Loc), INVx σ' τ' (T + 24) → Wk E (XW E a σ' ++ MW E a' τ') A s.heap H locs → W p l e room_1 s m #[.ref b] below meth c H locs cells slots Q (F0 m 815 ls [])) : W p l e room_1 s m #[.ref b] below meth c H locs cells slots Q (F0 m 549 ls []) := by
  obtain ⟨nh, nj, stk, hI⟩ := hI
  refine lv_aload_n hC.1 hC.2.1 dL_law_549 rfl (lv_at hl 1 rfl) ?_
  refine lv_aload_n hC.1 hC.2.1 dL_law_550 rfl (lv_at hl 0 rfl) ?_
  refine lv_iload_n hC.1 hC.2.1 dL_law_551 rfl (lv_at hl 3 rfl) ?_
  refine lv_iconst (v := nI 1) hC.1 hC.2.1 dL_law_552 (by decide) ?_
  refine l_addN hC dL_law_553 ?_
  refine l_sld hC hX hbl hbA hw.2.2 (by omega) (by omega) dL_law_554 ?_
  refine l_call (Wf := XW E a) (As := [.int (xs (i + 1))]) (rest := []) (q0 := 0) hC hw hl (tX10_fall l E a σ nh nj (τ 1) stk T (xs (i + 1)) hI.1) (q_cwV hC.2.2.2.2.1 ⟨rfl, rfl⟩ wk3_119 wk3_120 wk3_121 wk1_1 wk3_122 hd_X10_fall ⟨Nat.le_of_ble_eq_true rfl, Nat.le_of_ble_eq_true rfl⟩) rfl rfl rfl rfl rfl (Nat.le_of_ble_eq_true rfl) dL_law_555 hcs (fun r1 σ1 H locs h1 hw => ?_)
  have hw := hw.swap
  refine lv_aload_n hC.1 hC.2.1 dL_law_558 rfl (lv_at hl 2 rfl) ?_
  refine lv_aload_n hC.1 hC.2.1 dL_law_559 rfl (lv_at hl 0 rfl) ?_
  refine lv_iload_n hC.1 hC.2.1 dL_law_560 rfl (lv_at hl 3 rfl) ?_
  refine lv_iconst (v := nI 1) hC.1 hC.2.1 dL_law_561 (by decide) ?_
  refine l_addN hC dL_law_562 ?_
  refine l_sld hC hX hbl hbA hw.2.2 (by omega) (by omega) dL_law_563 ?_
  refine l_call (Wf := MW E a') (As := [.int (xs (i + 1))]) (rest := [.int r1]) (q0 := 0) hC hw hl (tX11_fall l E a' τ nh nj stk (xs (i + 1)) hI.mf hI.2.2.1 hI.2.1) (q_cwV hC.2.2.2.2.1 ⟨rfl, rfl⟩ wk5_56 wk5_57 wk5_58 wk1_12 wk5_59 hd_X11_fall ⟨Nat.le_of_ble_eq_true rfl, Nat.le_of_ble_eq_true rfl⟩) rfl rfl rfl rfl rfl (Nat.le_of_ble_eq_true rfl) dL_law_564 hcs (fun r2 τ1 H locs h2 hw => ?_)
  have hw := hw.swap
  have hS : r1 = r2 ∧ INVx σ1 τ1 (T + 24) := by
    exact ⟨h1.1.trans h2.1.symm, hI.up h1.2.1 h1.2.2 h2.2⟩
  refine lv_icmp_eq (tgt := 815) hC.1 hC.2.1 dL_law_567 (by decide) (fun _ => ?_) (fun c0 => absurd hS.1 c0)
  exact kk σ1 τ1 H locs hS.2 hw
set_option maxHeartbeats 4000000 in
set_option maxRecDepth 100000 in
theorem law_rise (hC : Cxt E p s m #[.ref b] meth c cL_law 4 ret R_law A) (hX : va_X b L xs s s.heap) (hbl : b < s.heap.size) (hbA : ¬ A b) (hL : L ≤ 4608) (hi : i + 9 ≤ L) (hcs : cells ≤ room_1.cells ∧ slots ≤ room_1.slots) (hT : T < 2 ^ 29) (hI : INVx σ τ T) (hw : Wk E (XW E a σ ++ MW E a' τ) A s.heap H locs) (hl : lv_has ls 4 [(0, .ref b), (1, .ref (a 71)), (2, .ref (a' 70)), (3, .int (nI i))])
    (kk : ∀ (σ' τ' : St) (H : Heap) (locs : List Loc), INVx σ' τ' (T + 24) → Wk E (XW E a σ' ++ MW E a' τ') A s.heap H locs → W p l e room_1 s m #[.ref b] below meth c H locs cells slots Q (F0 m 815 ls [])) : W p l e room_1 s m #[.ref b] below meth c H locs cells slots Q (F0 m 572 ls []) := by
  obtain ⟨nh, nj, stk, hI⟩ := hI
  refine lv_aload_n hC.1 hC.2.1 dL_law_572 rfl (lv_at hl 1 rfl) ?_
  refine lv_aload_n hC.1 hC.2.1 dL_law_573 rfl (lv_at hl 0 rfl) ?_
  refine lv_iload_n hC.1 hC.2.1 dL_law_574 rfl (lv_at hl 3 rfl) ?_
  refine lv_iconst (v := nI 1) hC.1 hC.2.1 dL_law_575 (by decide) ?_
  refine l_addN hC dL_law_576 ?_
  refine l_sld hC hX hbl hbA hw.2.2 (by omega) (by omega) dL_law_577 ?_
  refine l_call (Wf := XW E a) (As := [.int (xs (i + 1))]) (rest := []) (q0 := 0) hC hw hl (tX10_rise l E a σ nh nj (τ 1) stk T (xs (i + 1)) hI.1) (q_cwV hC.2.2.2.2.1 ⟨rfl, rfl⟩ wk3_124 wk3_125 wk3_126 wk1_1 wk3_127 hd_X10_rise ⟨Nat.le_of_ble_eq_true rfl, Nat.le_of_ble_eq_true rfl⟩) rfl rfl rfl rfl rfl (Nat.le_of_ble_eq_true rfl) dL_law_578 hcs (fun r1 σ1 H locs h1 hw => ?_)
  have hw := hw.swap
  refine lv_aload_n hC.1 hC.2.1 dL_law_581 rfl (lv_at hl 2 rfl) ?_
  refine lv_aload_n hC.1 hC.2.1 dL_law_582 rfl (lv_at hl 0 rfl) ?_
  refine lv_iload_n hC.1 hC.2.1 dL_law_583 rfl (lv_at hl 3 rfl) ?_
  refine lv_iconst (v := nI 1) hC.1 hC.2.1 dL_law_584 (by decide) ?_
  refine l_addN hC dL_law_585 ?_
  refine l_sld hC hX hbl hbA hw.2.2 (by omega) (by omega) dL_law_586 ?_
  refine l_call (Wf := MW E a') (As := [.int (xs (i + 1))]) (rest := [.int r1]) (q0 := 0) hC hw hl (tX11_rise l E a' τ nh nj stk (xs (i + 1)) hI.mf hI.2.2.1 hI.2.1) (q_cwV hC.2.2.2.2.1 ⟨rfl, rfl⟩ wk5_64 wk5_65 wk5_66 wk1_12 wk5_67 hd_X11_rise ⟨Nat.le_of_ble_eq_true rfl, Nat.le_of_ble_eq_true rfl⟩) rfl rfl rfl rfl rfl (Nat.le_of_ble_eq_true rfl) dL_law_587 hcs (fun r2 τ1 H locs h2 hw => ?_)
  have hw := hw.swap
  have hS : r1 = r2 ∧ INVx σ1 τ1 (T + 24) := by
    exact ⟨h1.1.trans h2.1.symm, hI.up h1.2.1 h1.2.2 h2.2⟩
  refine lv_icmp_eq (tgt := 815) hC.1 hC.2.1 dL_law_590 (by decide) (fun _ => ?_) (fun c0 => absurd hS.1 c0)
  exact kk σ1 τ1 H locs hS.2 hw
set_option maxHeartbeats 4000000 in
set_option maxRecDepth 100000 in
theorem law_move (hC : Cxt E p s m #[.ref b] meth c cL_law 4 ret R_law A) (hX : va_X b L xs s s.heap) (hbl : b < s.heap.size) (hbA : ¬ A b) (hL : L ≤ 4608) (hi : i + 9 ≤ L) (hcs : cells ≤ room_1.cells ∧ slots ≤ room_1.slots) (hT : T < 2 ^ 29) (hI : INVx σ τ T) (hw : Wk E (XW E a σ ++ MW E a' τ) A s.heap H locs) (hl : lv_has ls 4 [(0, .ref b), (1, .ref (a 71)), (2, .ref (a' 70)), (3, .int (nI i))])
    (kk : ∀ (σ' τ' : St) (H : Heap) (locs : List Loc), INVx σ' τ' (T + 24) → Wk E (XW E a σ' ++ MW E a' τ') A s.heap H locs → W p l e room_1 s m #[.ref b] below meth c H locs cells slots Q (F0 m 815 ls [])) : W p l e room_1 s m #[.ref b] below meth c H locs cells slots Q (F0 m 595 ls []) := by
  obtain ⟨nh, nj, stk, hI⟩ := hI
  refine lv_aload_n hC.1 hC.2.1 dL_law_595 rfl (lv_at hl 1 rfl) ?_
  refine lv_aload_n hC.1 hC.2.1 dL_law_596 rfl (lv_at hl 0 rfl) ?_
  refine lv_iload_n hC.1 hC.2.1 dL_law_597 rfl (lv_at hl 3 rfl) ?_
  refine lv_iconst (v := nI 1) hC.1 hC.2.1 dL_law_598 (by decide) ?_
  refine l_addN hC dL_law_599 ?_
  refine l_sld hC hX hbl hbA hw.2.2 (by omega) (by omega) dL_law_600 ?_
  refine lv_aload_n hC.1 hC.2.1 dL_law_601 rfl (lv_at hl 0 rfl) ?_
  refine lv_iload_n hC.1 hC.2.1 dL_law_602 rfl (lv_at hl 3 rfl) ?_
  refine lv_iconst (v := nI 2) hC.1 hC.2.1 dL_law_603 (by decide) ?_
  refine l_addN hC dL_law_604 ?_
  refine l_sld hC hX hbl hbA hw.2.2 (by omega) (by omega) dL_law_605 ?_
  refine l_call (Wf := XW E a) (As := [.int (xs (i + 1)), .int (xs (i + 2))]) (rest := []) (q0 := 0) hC hw hl (tX10_move l E a σ nh nj (τ 1) stk T (xs (i + 1)) (xs (i + 2)) hI.1 hT) (q_cwV hC.2.2.2.2.1 ⟨rfl, rfl⟩ wk3_128 wk3_129 wk3_130 wk1_1 wk3_131 hd_X10_move ⟨Nat.le_of_ble_eq_true rfl, Nat.le_of_ble_eq_true rfl⟩) rfl rfl rfl rfl rfl (Nat.le_of_ble_eq_true rfl) dL_law_606 hcs (fun r1 σ1 H locs h1 hw => ?_)
  have hw := hw.swap
  refine lv_aload_n hC.1 hC.2.1 dL_law_609 rfl (lv_at hl 2 rfl) ?_
  refine lv_aload_n hC.1 hC.2.1 dL_law_610 rfl (lv_at hl 0 rfl) ?_
  refine lv_iload_n hC.1 hC.2.1 dL_law_611 rfl (lv_at hl 3 rfl) ?_
  refine lv_iconst (v := nI 1) hC.1 hC.2.1 dL_law_612 (by decide) ?_
  refine l_addN hC dL_law_613 ?_
  refine l_sld hC hX hbl hbA hw.2.2 (by omega) (by omega) dL_law_614 ?_
  refine lv_aload_n hC.1 hC.2.1 dL_law_615 rfl (lv_at hl 0 rfl) ?_
  refine lv_iload_n hC.1 hC.2.1 dL_law_616 rfl (lv_at hl 3 rfl) ?_
  refine lv_iconst (v := nI 2) hC.1 hC.2.1 dL_law_617 (by decide) ?_
  refine l_addN hC dL_law_618 ?_
  refine l_sld hC hX hbl hbA hw.2.2 (by omega) (by omega) dL_law_619 ?_
  refine l_call (Wf := MW E a') (As := [.int (xs (i + 1)), .int (xs (i + 2))]) (rest := [.int r1]) (q0 := 0) hC hw hl (tX11_move l E a' τ nh nj stk (xs (i + 1)) (xs (i + 2)) hI.mf hI.2.2.1 hI.2.1) (q_cwV hC.2.2.2.2.1 ⟨rfl, rfl⟩ wk5_68 wk5_69 wk5_70 wk1_12 wk5_71 hd_X11_move ⟨Nat.le_of_ble_eq_true rfl, Nat.le_of_ble_eq_true rfl⟩) rfl rfl rfl rfl rfl (Nat.le_of_ble_eq_true rfl) dL_law_620 hcs (fun r2 τ1 H locs h2 hw => ?_)
  have hw := hw.swap
  have hS : r1 = r2 ∧ INVx σ1 τ1 (T + 24) := by
    exact ⟨h1.1.trans h2.1.symm, hI.up h1.2.1 h1.2.2 h2.2⟩
  refine lv_icmp_eq (tgt := 815) hC.1 hC.2.1 dL_law_623 (by decide) (fun _ => ?_) (fun c0 => absurd hS.1 c0)
  exact kk σ1 τ1 H locs hS.2 hw
set_option maxHeartbeats 4000000 in
set_option maxRecDepth 100000 in
theorem law_safe (hC : Cxt E p s m #[.ref b] meth c cL_law 4 ret R_law A) (hX : va_X b L xs s s.heap) (hbl : b < s.heap.size) (hbA : ¬ A b) (hL : L ≤ 4608) (hi : i + 9 ≤ L) (hcs : cells ≤ room_1.cells ∧ slots ≤ room_1.slots) (hT : T < 2 ^ 29) (hI : INVx σ τ T) (hw : Wk E (XW E a σ ++ MW E a' τ) A s.heap H locs) (hl : lv_has ls 4 [(0, .ref b), (1, .ref (a 71)), (2, .ref (a' 70)), (3, .int (nI i))])
    (kk : ∀ (σ' τ' : St) (H : Heap) (locs : List Loc), INVx σ' τ' (T + 24) → Wk E (XW E a σ' ++ MW E a' τ') A s.heap H locs → W p l e room_1 s m #[.ref b] below meth c H locs cells slots Q (F0 m 815 ls [])) : W p l e room_1 s m #[.ref b] below meth c H locs cells slots Q (F0 m 628 ls []) := by
  obtain ⟨nh, nj, stk, hI⟩ := hI
  refine lv_aload_n hC.1 hC.2.1 dL_law_628 rfl (lv_at hl 1 rfl) ?_
  refine l_call (Wf := XW E a) (As := []) (rest := []) (q0 := 0) hC hw hl (tX10_safe l E a σ nh nj (τ 1) stk T  hI.1) (q_cwV hC.2.2.2.2.1 ⟨rfl, rfl⟩ wk3_133 wk3_134 wk3_135 wk1_1 wk3_136 hd_X10_safe ⟨Nat.le_of_ble_eq_true rfl, Nat.le_of_ble_eq_true rfl⟩) rfl rfl rfl rfl rfl (Nat.le_of_ble_eq_true rfl) dL_law_629 hcs (fun r1 σ1 H locs h1 hw => ?_)
  have hw := hw.swap
  refine lv_aload_n hC.1 hC.2.1 dL_law_632 rfl (lv_at hl 2 rfl) ?_
  refine l_call (Wf := MW E a') (As := []) (rest := [.int r1]) (q0 := 0) hC hw hl (tX11_safe l E a' τ nh nj  hI.mf hI.U) (q_cwV hC.2.2.2.2.1 ⟨rfl, rfl⟩ wk5_72 wk5_73 wk5_74 wk1_12 wk5_75 hd_X11_safe ⟨Nat.le_of_ble_eq_true rfl, Nat.le_of_ble_eq_true rfl⟩) rfl rfl rfl rfl rfl (Nat.le_of_ble_eq_true rfl) dL_law_633 hcs (fun r2 τ1 H locs h2 hw => ?_)
  have hw := hw.swap
  have hS : r1 = r2 ∧ INVx σ1 τ1 (T + 24) := by
    obtain ⟨⟨x, x1, x2⟩, hcl, hkx⟩ := h1; obtain ⟨⟨y, y1, y2⟩, _, _, _, _, _, _, _, _, rfl⟩ := h2; obtain rfl := x1.uniq y1; exact ⟨x2.trans y2.symm, hI.kp hcl hkx rfl hI.2.1 hI.2.2.1 ⟨rfl, rfl, rfl, rfl⟩⟩
  refine lv_icmp_eq (tgt := 815) hC.1 hC.2.1 dL_law_636 (by decide) (fun _ => ?_) (fun c0 => absurd hS.1 c0)
  exact kk σ1 τ1 H locs hS.2 hw
set_option maxHeartbeats 4000000 in
set_option maxRecDepth 100000 in
theorem law_worst (hC : Cxt E p s m #[.ref b] meth c cL_law 4 ret R_law A) (hX : va_X b L xs s s.heap) (hbl : b < s.heap.size) (hbA : ¬ A b) (hL : L ≤ 4608) (hi : i + 9 ≤ L) (hcs : cells ≤ room_1.cells ∧ slots ≤ room_1.slots) (hT : T < 2 ^ 29) (hI : INVx σ τ T) (hw : Wk E (XW E a σ ++ MW E a' τ) A s.heap H locs) (hl : lv_has ls 4 [(0, .ref b), (1, .ref (a 71)), (2, .ref (a' 70)), (3, .int (nI i))])
    (kk : ∀ (σ' τ' : St) (H : Heap) (locs : List Loc), INVx σ' τ' (T + 24) → Wk E (XW E a σ' ++ MW E a' τ') A s.heap H locs → W p l e room_1 s m #[.ref b] below meth c H locs cells slots Q (F0 m 815 ls [])) : W p l e room_1 s m #[.ref b] below meth c H locs cells slots Q (F0 m 641 ls []) := by
  obtain ⟨nh, nj, stk, hI⟩ := hI
  refine lv_aload_n hC.1 hC.2.1 dL_law_641 rfl (lv_at hl 1 rfl) ?_
  refine l_call (Wf := XW E a) (As := []) (rest := []) (q0 := 0) hC hw hl (tX10_worst l E a σ nh nj (τ 1) stk T  hI.1) (q_cwV hC.2.2.2.2.1 ⟨rfl, rfl⟩ wk3_202 wk3_203 wk3_204 wk1_1 wk3_205 hd_X10_worst ⟨Nat.le_of_ble_eq_true rfl, Nat.le_of_ble_eq_true rfl⟩) rfl rfl rfl rfl rfl (Nat.le_of_ble_eq_true rfl) dL_law_642 hcs (fun r1 σ1 H locs h1 hw => ?_)
  have hw := hw.swap
  refine lv_aload_n hC.1 hC.2.1 dL_law_645 rfl (lv_at hl 2 rfl) ?_
  refine l_call (Wf := MW E a') (As := []) (rest := [.int r1]) (q0 := 0) hC hw hl (tX11_worst l E a' τ nh nj  hI.mf hI.U) (q_cwV hC.2.2.2.2.1 ⟨rfl, rfl⟩ wk5_100 wk5_101 wk5_102 wk1_12 wk5_103 hd_X11_worst ⟨Nat.le_of_ble_eq_true rfl, Nat.le_of_ble_eq_true rfl⟩) rfl rfl rfl rfl rfl (Nat.le_of_ble_eq_true rfl) dL_law_646 hcs (fun r2 τ1 H locs h2 hw => ?_)
  have hw := hw.swap
  have hS : r1 = r2 ∧ INVx σ1 τ1 (T + 24) := by
    obtain ⟨x1, hcl, hkx⟩ := h1; obtain ⟨y1, _, _, _, _, _, _, _, _, rfl⟩ := h2; exact ⟨x1.uniq y1, hI.kp hcl hkx rfl hI.2.1 hI.2.2.1 ⟨rfl, rfl, rfl, rfl⟩⟩
  refine lv_icmp_eq (tgt := 815) hC.1 hC.2.1 dL_law_649 (by decide) (fun _ => ?_) (fun c0 => absurd hS.1 c0)
  exact kk σ1 τ1 H locs hS.2 hw
end LAWC
