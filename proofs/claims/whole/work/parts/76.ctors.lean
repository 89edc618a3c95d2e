theorem kw_o : Cond.code Lib.objectInit ⟨#[0xb1]⟩ 1 none ∈ tw := wk1_24
def rg (r : Nat) : Nat → Option Nat := fun j => if j < 30 then some (r + 1 + j) else none
def aX (L : List Nat) (r : Nat) : Nat → Nat := fun k => if 30 ≤ k ∧ k < 60 then r + 1 + (k - 30) else L.getD k 0
theorem rg_aX {L : List Nat} {r : Nat} : rg r = fun i => if i < 30 then some (aX L r (30 + i)) else none := funext fun i => by
  unfold rg aX
  by_cases h : i < 30
  · rw [if_pos h, if_pos h, if_pos (by omega), show 30 + i - 30 = i by omega]
  · rw [if_neg h, if_neg h]
/-- the class's rows at its start; the reference's -/
def iX : St := sr (fun _ _ => 0) 15 (upd (upd (upd (fun _ => 0) 0 (nI 1)) 1 (nI 10)) 2 (nI 5))
def iV : Nat → Int32 := upd (upd (upd (fun _ => 0) 2 (nI 1)) 3 (nI 10)) 4 (nI 5)
def iM : St := sr (fun _ _ => 0) 1 iV
set_option maxHeartbeats 4000000 in
set_option maxRecDepth 100000 in
theorem kX5_init (l : Launch) (E : EV) (h : Nat) : MK l E yX5_init (Cond.code yX5_init cX5_init 1 none) ({ frames := 1, cells := 4, slots := 60, locals := 12 }) [.ref h] [(h, .inr (5, [.int 0, .null, .null, .null, .null]))] (fun _ => True) (fun q => [(h, .inr (5, [.int 0, .ref (q 0), .ref (q 1), .ref (q 2), .ref (q 3)])), (q 0, .inl (E.2.1.1, 30, .inl (fun _ => 0))), (q 1, .inl (E.2.1.1, 10, .inl (fun _ => 0))), (q 2, .inl (E.2.1.1, 10, .inl (fun _ => 0))), (q 3, .inl (E.2.1.2.1, 10, .inl (fun _ => 0)))]) 4 60 := by
  refine MK.mk (by decide +kernel) (Nat.le_of_ble_eq_true rfl) rfl ?_
  intro p e s m args below meth c ls A Q hret hC hw hl
  have hC : Ctk E p s m args meth c cX5_init 1 RX5 A := hC
  have hl : lv_has ls 1 [(0, .ref h)] := hl
  have hw : Wk E [(h, .inr (5, [.int 0, .null, .null, .null, .null]))] A s.heap s.heap [] := hw
  refine lv_aload_n hC.1 hC.2.1 dX5_init_0 rfl (lv_at hl 0 rfl) ?_
  refine k_obj hC hl.1 wk1_30 wk1_23 kw_o (Nat.le_of_ble_eq_true rfl) (Nat.le_of_ble_eq_true rfl) dX5_init_1 ?_
  refine lv_aload_n hC.1 hC.2.1 dX5_init_4 rfl (lv_at hl 0 rfl) ?_
  refine lv_bipush (v := nI 30) hC.1 hC.2.1 dX5_init_5 (by decide) ?_
  refine k_newi hC hw wk1_63 (by decide) (Nat.le_of_ble_eq_true rfl) (Nat.le_of_ble_eq_true rfl) (Nat.le_of_ble_eq_true rfl) dX5_init_7 (fun q1 H hw => ?_)
  have hw : Wk E [(h, .inr (5, [.int 0, .null, .null, .null, .null])), (q1, .inl (E.2.1.1, 30, .inl (fun _ => 0)))] A s.heap H [] := hw
  refine W.widen (k := 1) (n := 30) (Nat.le_of_ble_eq_true rfl) (Nat.le_of_ble_eq_true rfl) ?_
  refine k_put (C := RX5) (T := TX5) (N := 5) (ci := 5) 0 1 tyX5 rfl rfl (by decide) wk1_40 inT5 tyX5_ok nmX5 rfl rfl rfl rfl rfl (Nat.le_of_ble_eq_true rfl) (by decide +kernel) hC hw dX5_init_9 (fun H locs hw => ?_)
  have hw : Wk E [(h, .inr (5, [.int 0, .ref q1, .null, .null, .null])), (q1, .inl (E.2.1.1, 30, .inl (fun _ => 0)))] A s.heap H locs := hw
  refine lv_aload_n hC.1 hC.2.1 dX5_init_12 rfl (lv_at hl 0 rfl) ?_
  refine lv_bipush (v := nI 10) hC.1 hC.2.1 dX5_init_13 (by decide) ?_
  refine k_newi hC hw wk1_63 (by decide) (Nat.le_of_ble_eq_true rfl) (Nat.le_of_ble_eq_true rfl) (Nat.le_of_ble_eq_true rfl) dX5_init_15 (fun q2 H hw => ?_)
  have hw : Wk E [(h, .inr (5, [.int 0, .ref q1, .null, .null, .null])), (q1, .inl (E.2.1.1, 30, .inl (fun _ => 0))), (q2, .inl (E.2.1.1, 10, .inl (fun _ => 0)))] A s.heap H locs := hw
  refine W.widen (k := 2) (n := 40) (Nat.le_of_ble_eq_true rfl) (Nat.le_of_ble_eq_true rfl) ?_
  refine k_put (C := RX5) (T := TX5) (N := 5) (ci := 5) 0 2 tyX5 rfl rfl (by decide) wk1_43 inT5 tyX5_ok nmX5 rfl rfl rfl rfl rfl (Nat.le_of_ble_eq_true rfl) (by decide +kernel) hC hw dX5_init_17 (fun H locs hw => ?_)
  have hw : Wk E [(h, .inr (5, [.int 0, .ref q1, .ref q2, .null, .null])), (q1, .inl (E.2.1.1, 30, .inl (fun _ => 0))), (q2, .inl (E.2.1.1, 10, .inl (fun _ => 0)))] A s.heap H locs := hw
  refine lv_aload_n hC.1 hC.2.1 dX5_init_20 rfl (lv_at hl 0 rfl) ?_
  refine lv_bipush (v := nI 10) hC.1 hC.2.1 dX5_init_21 (by decide) ?_
  refine k_newi hC hw wk1_63 (by decide) (Nat.le_of_ble_eq_true rfl) (Nat.le_of_ble_eq_true rfl) (Nat.le_of_ble_eq_true rfl) dX5_init_23 (fun q3 H hw => ?_)
  have hw : Wk E [(h, .inr (5, [.int 0, .ref q1, .ref q2, .null, .null])), (q1, .inl (E.2.1.1, 30, .inl (fun _ => 0))), (q2, .inl (E.2.1.1, 10, .inl (fun _ => 0))), (q3, .inl (E.2.1.1, 10, .inl (fun _ => 0)))] A s.heap H locs := hw
  refine W.widen (k := 3) (n := 50) (Nat.le_of_ble_eq_true rfl) (Nat.le_of_ble_eq_true rfl) ?_
  refine k_put (C := RX5) (T := TX5) (N := 5) (ci := 5) 0 3 tyX5 rfl rfl (by decide) wk1_45 inT5 tyX5_ok nmX5 rfl rfl rfl rfl rfl (Nat.le_of_ble_eq_true rfl) (by decide +kernel) hC hw dX5_init_25 (fun H locs hw => ?_)
  have hw : Wk E [(h, .inr (5, [.int 0, .ref q1, .ref q2, .ref q3, .null])), (q1, .inl (E.2.1.1, 30, .inl (fun _ => 0))), (q2, .inl (E.2.1.1, 10, .inl (fun _ => 0))), (q3, .inl (E.2.1.1, 10, .inl (fun _ => 0)))] A s.heap H locs := hw
  refine lv_aload_n hC.1 hC.2.1 dX5_init_28 rfl (lv_at hl 0 rfl) ?_
  refine lv_bipush (v := nI 10) hC.1 hC.2.1 dX5_init_29 (by decide) ?_
  refine k_newz hC hw wk1_64 (by decide) (Nat.le_of_ble_eq_true rfl) (Nat.le_of_ble_eq_true rfl) (Nat.le_of_ble_eq_true rfl) dX5_init_31 (fun q4 H hw => ?_)
  have hw : Wk E [(h, .inr (5, [.int 0, .ref q1, .ref q2, .ref q3, .null])), (q1, .inl (E.2.1.1, 30, .inl (fun _ => 0))), (q2, .inl (E.2.1.1, 10, .inl (fun _ => 0))), (q3, .inl (E.2.1.1, 10, .inl (fun _ => 0))), (q4, .inl (E.2.1.2.1, 10, .inl (fun _ => 0)))] A s.heap H locs := hw
  refine W.widen (k := 4) (n := 60) (Nat.le_of_ble_eq_true rfl) (Nat.le_of_ble_eq_true rfl) ?_
  refine k_put (C := RX5) (T := TX5) (N := 5) (ci := 5) 0 4 tyX5 rfl rfl (by decide) wk1_47 inT5 tyX5_ok nmX5 rfl rfl rfl rfl rfl (Nat.le_of_ble_eq_true rfl) (by decide +kernel) hC hw dX5_init_33 (fun H locs hw => ?_)
  have hw : Wk E [(h, .inr (5, [.int 0, .ref q1, .ref q2, .ref q3, .ref q4])), (q1, .inl (E.2.1.1, 30, .inl (fun _ => 0))), (q2, .inl (E.2.1.1, 10, .inl (fun _ => 0))), (q3, .inl (E.2.1.1, 10, .inl (fun _ => 0))), (q4, .inl (E.2.1.2.1, 10, .inl (fun _ => 0)))] A s.heap H locs := hw
  exact hret (fun k => [q1, q2, q3, q4].getD k 0) _ _ _ _ _ _ hw trivial (Nat.le_of_ble_eq_true rfl) (Nat.le_of_ble_eq_true rfl) dX5_init_36
set_option maxHeartbeats 4000000 in
set_option maxRecDepth 100000 in
theorem kX6_init (l : Launch) (E : EV) (h : Nat) : MK l E yX6_init (Cond.code yX6_init cX6_init 1 none) ({ frames := 1, cells := 10, slots := 288, locals := 12 }) [.ref h] [(h, .inr (6, [.int 0, .int 0, .null, .null, .null, .null, .null, .null, .null, .null, .null, .null]))] (fun _ => True) (fun q => [(h, .inr (6, [.int 0, .int 0, .ref (q 0), .ref (q 1), .ref (q 2), .ref (q 3), .ref (q 4), .ref (q 5), .ref (q 6), .ref (q 7), .ref (q 8), .ref (q 9)])), (q 0, .inl (E.2.1.1, 24, .inl (fun _ => 0))), (q 1, .inl (E.2.1.1, 72, .inl (fun _ => 0))), (q 2, .inl (E.2.1.1, 24, .inl (fun _ => 0))), (q 3, .inl (E.2.1.1, 24, .inl (fun _ => 0))), (q 4, .inl (E.2.1.1, 24, .inl (fun _ => 0))), (q 5, .inl (E.2.1.1, 24, .inl (fun _ => 0))), (q 6, .inl (E.2.1.1, 24, .inl (fun _ => 0))), (q 7, .inl (E.2.1.1, 24, .inl (fun _ => 0))), (q 8, .inl (E.2.1.1, 24, .inl (fun _ => 0))), (q 9, .inl (E.2.1.1, 24, .inl (fun _ => 0)))]) 10 288 := by
  refine MK.mk (by decide +kernel) (Nat.le_of_ble_eq_true rfl) rfl ?_
  intro p e s m args below meth c ls A Q hret hC hw hl
  have hC : Ctk E p s m args meth c cX6_init 1 RX6 A := hC
  have hl : lv_has ls 1 [(0, .ref h)] := hl
  have hw : Wk E [(h, .inr (6, [.int 0, .int 0, .null, .null, .null, .null, .null, .null, .null, .null, .null, .null]))] A s.heap s.heap [] := hw
  refine lv_aload_n hC.1 hC.2.1 dX6_init_0 rfl (lv_at hl 0 rfl) ?_
  refine k_obj hC hl.1 wk1_70 wk1_23 kw_o (Nat.le_of_ble_eq_true rfl) (Nat.le_of_ble_eq_true rfl) dX6_init_1 ?_
  refine lv_aload_n hC.1 hC.2.1 dX6_init_4 rfl (lv_at hl 0 rfl) ?_
  refine lv_bipush (v := nI 24) hC.1 hC.2.1 dX6_init_5 (by decide) ?_
  refine k_newi hC hw wk1_63 (by decide) (Nat.le_of_ble_eq_true rfl) (Nat.le_of_ble_eq_true rfl) (Nat.le_of_ble_eq_true rfl) dX6_init_7 (fun q1 H hw => ?_)
  have hw : Wk E [(h, .inr (6, [.int 0, .int 0, .null, .null, .null, .null, .null, .null, .null, .null, .null, .null])), (q1, .inl (E.2.1.1, 24, .inl (fun _ => 0)))] A s.heap H [] := hw
  refine W.widen (k := 1) (n := 24) (Nat.le_of_ble_eq_true rfl) (Nat.le_of_ble_eq_true rfl) ?_
  refine k_put (C := RX6) (T := TX6) (N := 12) (ci := 6) 0 2 tyX6 rfl rfl (by decide) wk1_82 inT6 tyX6_ok nmX6 rfl rfl rfl rfl rfl (Nat.le_of_ble_eq_true rfl) (by decide +kernel) hC hw dX6_init_9 (fun H locs hw => ?_)
  have hw : Wk E [(h, .inr (6, [.int 0, .int 0, .ref q1, .null, .null, .null, .null, .null, .null, .null, .null, .null])), (q1, .inl (E.2.1.1, 24, .inl (fun _ => 0)))] A s.heap H locs := hw
  refine lv_aload_n hC.1 hC.2.1 dX6_init_12 rfl (lv_at hl 0 rfl) ?_
  refine lv_bipush (v := nI 72) hC.1 hC.2.1 dX6_init_13 (by decide) ?_
  refine k_newi hC hw wk1_63 (by decide) (Nat.le_of_ble_eq_true rfl) (Nat.le_of_ble_eq_true rfl) (Nat.le_of_ble_eq_true rfl) dX6_init_15 (fun q2 H hw => ?_)
  have hw : Wk E [(h, .inr (6, [.int 0, .int 0, .ref q1, .null, .null, .null, .null, .null, .null, .null, .null, .null])), (q1, .inl (E.2.1.1, 24, .inl (fun _ => 0))), (q2, .inl (E.2.1.1, 72, .inl (fun _ => 0)))] A s.heap H locs := hw
  refine W.widen (k := 2) (n := 96) (Nat.le_of_ble_eq_true rfl) (Nat.le_of_ble_eq_true rfl) ?_
  refine k_put (C := RX6) (T := TX6) (N := 12) (ci := 6) 0 3 tyX6 rfl rfl (by decide) wk1_86 inT6 tyX6_ok nmX6 rfl rfl rfl rfl rfl (Nat.le_of_ble_eq_true rfl) (by decide +kernel) hC hw dX6_init_17 (fun H locs hw => ?_)
  have hw : Wk E [(h, .inr (6, [.int 0, .int 0, .ref q1, .ref q2, .null, .null, .null, .null, .null, .null, .null, .null])), (q1, .inl (E.2.1.1, 24, .inl (fun _ => 0))), (q2, .inl (E.2.1.1, 72, .inl (fun _ => 0)))] A s.heap H locs := hw
  refine lv_aload_n hC.1 hC.2.1 dX6_init_20 rfl (lv_at hl 0 rfl) ?_
  refine lv_bipush (v := nI 24) hC.1 hC.2.1 dX6_init_21 (by decide) ?_
  refine k_newi hC hw wk1_63 (by decide) (Nat.le_of_ble_eq_true rfl) (Nat.le_of_ble_eq_true rfl) (Nat.le_of_ble_eq_true rfl) dX6_init_23 (fun q3 H hw => ?_)
  have hw : Wk E [(h, .inr (6, [.int 0, .int 0, .ref q1, .ref q2, .null, .null, .null, .null, .null, .null, .null, .null])), (q1, .inl (E.2.1.1, 24, .inl (fun _ => 0))), (q2, .inl (E.2.1.1, 72, .inl (fun _ => 0))), (q3, .inl (E.2.1.1, 24, .inl (fun _ => 0)))] A s.heap H locs := hw
  refine W.widen (k := 3) (n := 120) (Nat.le_of_ble_eq_true rfl) (Nat.le_of_ble_eq_true rfl) ?_
  refine k_put (C := RX6) (T := TX6) (N := 12) (ci := 6) 0 4 tyX6 rfl rfl (by decide) wk1_90 inT6 tyX6_ok nmX6 rfl rfl rfl rfl rfl (Nat.le_of_ble_eq_true rfl) (by decide +kernel) hC hw dX6_init_25 (fun H locs hw => ?_)
  have hw : Wk E [(h, .inr (6, [.int 0, .int 0, .ref q1, .ref q2, .ref q3, .null, .null, .null, .null, .null, .null, .null])), (q1, .inl (E.2.1.1, 24, .inl (fun _ => 0))), (q2, .inl (E.2.1.1, 72, .inl (fun _ => 0))), (q3, .inl (E.2.1.1, 24, .inl (fun _ => 0)))] A s.heap H locs := hw
  refine lv_aload_n hC.1 hC.2.1 dX6_init_28 rfl (lv_at hl 0 rfl) ?_
  refine lv_bipush (v := nI 24) hC.1 hC.2.1 dX6_init_29 (by decide) ?_
  refine k_newi hC hw wk1_63 (by decide) (Nat.le_of_ble_eq_true rfl) (Nat.le_of_ble_eq_true rfl) (Nat.le_of_ble_eq_true rfl) dX6_init_31 (fun q4 H hw => ?_)
  have hw : Wk E [(h, .inr (6, [.int 0, .int 0, .ref q1, .ref q2, .ref q3, .null, .null, .null, .null, .null, .null, .null])), (q1, .inl (E.2.1.1, 24, .inl (fun _ => 0))), (q2, .inl (E.2.1.1, 72, .inl (fun _ => 0))), (q3, .inl (E.2.1.1, 24, .inl (fun _ => 0))), (q4, .inl (E.2.1.1, 24, .inl (fun _ => 0)))] A s.heap H locs := hw
  refine W.widen (k := 4) (n := 144) (Nat.le_of_ble_eq_true rfl) (Nat.le_of_ble_eq_true rfl) ?_
  refine k_put (C := RX6) (T := TX6) (N := 12) (ci := 6) 0 5 tyX6 rfl rfl (by decide) wk1_93 inT6 tyX6_ok nmX6 rfl rfl rfl rfl rfl (Nat.le_of_ble_eq_true rfl) (by decide +kernel) hC hw dX6_init_33 (fun H locs hw => ?_)
  have hw : Wk E [(h, .inr (6, [.int 0, .int 0, .ref q1, .ref q2, .ref q3, .ref q4, .null, .null, .null, .null, .null, .null])), (q1, .inl (E.2.1.1, 24, .inl (fun _ => 0))), (q2, .inl (E.2.1.1, 72, .inl (fun _ => 0))), (q3, .inl (E.2.1.1, 24, .inl (fun _ => 0))), (q4, .inl (E.2.1.1, 24, .inl (fun _ => 0)))] A s.heap H locs := hw
  refine lv_aload_n hC.1 hC.2.1 dX6_init_36 rfl (lv_at hl 0 rfl) ?_
  refine lv_bipush (v := nI 24) hC.1 hC.2.1 dX6_init_37 (by decide) ?_
  refine k_newi hC hw wk1_63 (by decide) (Nat.le_of_ble_eq_true rfl) (Nat.le_of_ble_eq_true rfl) (Nat.le_of_ble_eq_true rfl) dX6_init_39 (fun q5 H hw => ?_)
  have hw : Wk E [(h, .inr (6, [.int 0, .int 0, .ref q1, .ref q2, .ref q3, .ref q4, .null, .null, .null, .null, .null, .null])), (q1, .inl (E.2.1.1, 24, .inl (fun _ => 0))), (q2, .inl (E.2.1.1, 72, .inl (fun _ => 0))), (q3, .inl (E.2.1.1, 24, .inl (fun _ => 0))), (q4, .inl (E.2.1.1, 24, .inl (fun _ => 0))), (q5, .inl (E.2.1.1, 24, .inl (fun _ => 0)))] A s.heap H locs := hw
  refine W.widen (k := 5) (n := 168) (Nat.le_of_ble_eq_true rfl) (Nat.le_of_ble_eq_true rfl) ?_
  refine k_put (C := RX6) (T := TX6) (N := 12) (ci := 6) 0 6 tyX6 rfl rfl (by decide) wk1_96 inT6 tyX6_ok nmX6 rfl rfl rfl rfl rfl (Nat.le_of_ble_eq_true rfl) (by decide +kernel) hC hw dX6_init_41 (fun H locs hw => ?_)
  have hw : Wk E [(h, .inr (6, [.int 0, .int 0, .ref q1, .ref q2, .ref q3, .ref q4, .ref q5, .null, .null, .null, .null, .null])), (q1, .inl (E.2.1.1, 24, .inl (fun _ => 0))), (q2, .inl (E.2.1.1, 72, .inl (fun _ => 0))), (q3, .inl (E.2.1.1, 24, .inl (fun _ => 0))), (q4, .inl (E.2.1.1, 24, .inl (fun _ => 0))), (q5, .inl (E.2.1.1, 24, .inl (fun _ => 0)))] A s.heap H locs := hw
  refine lv_aload_n hC.1 hC.2.1 dX6_init_44 rfl (lv_at hl 0 rfl) ?_
  refine lv_bipush (v := nI 24) hC.1 hC.2.1 dX6_init_45 (by decide) ?_
  refine k_newi hC hw wk1_63 (by decide) (Nat.le_of_ble_eq_true rfl) (Nat.le_of_ble_eq_true rfl) (Nat.le_of_ble_eq_true rfl) dX6_init_47 (fun q6 H hw => ?_)
  have hw : Wk E [(h, .inr (6, [.int 0, .int 0, .ref q1, .ref q2, .ref q3, .ref q4, .ref q5, .null, .null, .null, .null, .null])), (q1, .inl (E.2.1.1, 24, .inl (fun _ => 0))), (q2, .inl (E.2.1.1, 72, .inl (fun _ => 0))), (q3, .inl (E.2.1.1, 24, .inl (fun _ => 0))), (q4, .inl (E.2.1.1, 24, .inl (fun _ => 0))), (q5, .inl (E.2.1.1, 24, .inl (fun _ => 0))), (q6, .inl (E.2.1.1, 24, .inl (fun _ => 0)))] A s.heap H locs := hw
  refine W.widen (k := 6) (n := 192) (Nat.le_of_ble_eq_true rfl) (Nat.le_of_ble_eq_true rfl) ?_
  refine k_put (C := RX6) (T := TX6) (N := 12) (ci := 6) 0 7 tyX6 rfl rfl (by decide) wk1_99 inT6 tyX6_ok nmX6 rfl rfl rfl rfl rfl (Nat.le_of_ble_eq_true rfl) (by decide +kernel) hC hw dX6_init_49 (fun H locs hw => ?_)
  have hw : Wk E [(h, .inr (6, [.int 0, .int 0, .ref q1, .ref q2, .ref q3, .ref q4, .ref q5, .ref q6, .null, .null, .null, .null])), (q1, .inl (E.2.1.1, 24, .inl (fun _ => 0))), (q2, .inl (E.2.1.1, 72, .inl (fun _ => 0))), (q3, .inl (E.2.1.1, 24, .inl (fun _ => 0))), (q4, .inl (E.2.1.1, 24, .inl (fun _ => 0))), (q5, .inl (E.2.1.1, 24, .inl (fun _ => 0))), (q6, .inl (E.2.1.1, 24, .inl (fun _ => 0)))] A s.heap H locs := hw
  refine lv_aload_n hC.1 hC.2.1 dX6_init_52 rfl (lv_at hl 0 rfl) ?_
  refine lv_bipush (v := nI 24) hC.1 hC.2.1 dX6_init_53 (by decide) ?_
  refine k_newi hC hw wk1_63 (by decide) (Nat.le_of_ble_eq_true rfl) (Nat.le_of_ble_eq_true rfl) (Nat.le_of_ble_eq_true rfl) dX6_init_55 (fun q7 H hw => ?_)
  have hw : Wk E [(h, .inr (6, [.int 0, .int 0, .ref q1, .ref q2, .ref q3, .ref q4, .ref q5, .ref q6, .null, .null, .null, .null])), (q1, .inl (E.2.1.1, 24, .inl (fun _ => 0))), (q2, .inl (E.2.1.1, 72, .inl (fun _ => 0))), (q3, .inl (E.2.1.1, 24, .inl (fun _ => 0))), (q4, .inl (E.2.1.1, 24, .inl (fun _ => 0))), (q5, .inl (E.2.1.1, 24, .inl (fun _ => 0))), (q6, .inl (E.2.1.1, 24, .inl (fun _ => 0))), (q7, .inl (E.2.1.1, 24, .inl (fun _ => 0)))] A s.heap H locs := hw
  refine W.widen (k := 7) (n := 216) (Nat.le_of_ble_eq_true rfl) (Nat.le_of_ble_eq_true rfl) ?_
  refine k_put (C := RX6) (T := TX6) (N := 12) (ci := 6) 0 8 tyX6 rfl rfl (by decide) wk1_101 inT6 tyX6_ok nmX6 rfl rfl rfl rfl rfl (Nat.le_of_ble_eq_true rfl) (by decide +kernel) hC hw dX6_init_57 (fun H locs hw => ?_)
  have hw : Wk E [(h, .inr (6, [.int 0, .int 0, .ref q1, .ref q2, .ref q3, .ref q4, .ref q5, .ref q6, .ref q7, .null, .null, .null])), (q1, .inl (E.2.1.1, 24, .inl (fun _ => 0))), (q2, .inl (E.2.1.1, 72, .inl (fun _ => 0))), (q3, .inl (E.2.1.1, 24, .inl (fun _ => 0))), (q4, .inl (E.2.1.1, 24, .inl (fun _ => 0))), (q5, .inl (E.2.1.1, 24, .inl (fun _ => 0))), (q6, .inl (E.2.1.1, 24, .inl (fun _ => 0))), (q7, .inl (E.2.1.1, 24, .inl (fun _ => 0)))] A s.heap H locs := hw
  refine lv_aload_n hC.1 hC.2.1 dX6_init_60 rfl (lv_at hl 0 rfl) ?_
  refine lv_bipush (v := nI 24) hC.1 hC.2.1 dX6_init_61 (by decide) ?_
  refine k_newi hC hw wk1_63 (by decide) (Nat.le_of_ble_eq_true rfl) (Nat.le_of_ble_eq_true rfl) (Nat.le_of_ble_eq_true rfl) dX6_init_63 (fun q8 H hw => ?_)
  have hw : Wk E [(h, .inr (6, [.int 0, .int 0, .ref q1, .ref q2, .ref q3, .ref q4, .ref q5, .ref q6, .ref q7, .null, .null, .null])), (q1, .inl (E.2.1.1, 24, .inl (fun _ => 0))), (q2, .inl (E.2.1.1, 72, .inl (fun _ => 0))), (q3, .inl (E.2.1.1, 24, .inl (fun _ => 0))), (q4, .inl (E.2.1.1, 24, .inl (fun _ => 0))), (q5, .inl (E.2.1.1, 24, .inl (fun _ => 0))), (q6, .inl (E.2.1.1, 24, .inl (fun _ => 0))), (q7, .inl (E.2.1.1, 24, .inl (fun _ => 0))), (q8, .inl (E.2.1.1, 24, .inl (fun _ => 0)))] A s.heap H locs := hw
  refine W.widen (k := 8) (n := 240) (Nat.le_of_ble_eq_true rfl) (Nat.le_of_ble_eq_true rfl) ?_
  refine k_put (C := RX6) (T := TX6) (N := 12) (ci := 6) 0 9 tyX6 rfl rfl (by decide) wk1_106 inT6 tyX6_ok nmX6 rfl rfl rfl rfl rfl (Nat.le_of_ble_eq_true rfl) (by decide +kernel) hC hw dX6_init_65 (fun H locs hw => ?_)
  have hw : Wk E [(h, .inr (6, [.int 0, .int 0, .ref q1, .ref q2, .ref q3, .ref q4, .ref q5, .ref q6, .ref q7, .ref q8, .null, .null])), (q1, .inl (E.2.1.1, 24, .inl (fun _ => 0))), (q2, .inl (E.2.1.1, 72, .inl (fun _ => 0))), (q3, .inl (E.2.1.1, 24, .inl (fun _ => 0))), (q4, .inl (E.2.1.1, 24, .inl (fun _ => 0))), (q5, .inl (E.2.1.1, 24, .inl (fun _ => 0))), (q6, .inl (E.2.1.1, 24, .inl (fun _ => 0))), (q7, .inl (E.2.1.1, 24, .inl (fun _ => 0))), (q8, .inl (E.2.1.1, 24, .inl (fun _ => 0)))] A s.heap H locs := hw
  refine lv_aload_n hC.1 hC.2.1 dX6_init_68 rfl (lv_at hl 0 rfl) ?_
  refine lv_bipush (v := nI 24) hC.1 hC.2.1 dX6_init_69 (by decide) ?_
  refine k_newi hC hw wk1_63 (by decide) (Nat.le_of_ble_eq_true rfl) (Nat.le_of_ble_eq_true rfl) (Nat.le_of_ble_eq_true rfl) dX6_init_71 (fun q9 H hw => ?_)
  have hw : Wk E [(h, .inr (6, [.int 0, .int 0, .ref q1, .ref q2, .ref q3, .ref q4, .ref q5, .ref q6, .ref q7, .ref q8, .null, .null])), (q1, .inl (E.2.1.1, 24, .inl (fun _ => 0))), (q2, .inl (E.2.1.1, 72, .inl (fun _ => 0))), (q3, .inl (E.2.1.1, 24, .inl (fun _ => 0))), (q4, .inl (E.2.1.1, 24, .inl (fun _ => 0))), (q5, .inl (E.2.1.1, 24, .inl (fun _ => 0))), (q6, .inl (E.2.1.1, 24, .inl (fun _ => 0))), (q7, .inl (E.2.1.1, 24, .inl (fun _ => 0))), (q8, .inl (E.2.1.1, 24, .inl (fun _ => 0))), (q9, .inl (E.2.1.1, 24, .inl (fun _ => 0)))] A s.heap H locs := hw
  refine W.widen (k := 9) (n := 264) (Nat.le_of_ble_eq_true rfl) (Nat.le_of_ble_eq_true rfl) ?_
  refine k_put (C := RX6) (T := TX6) (N := 12) (ci := 6) 0 10 tyX6 rfl rfl (by decide) wk1_113 inT6 tyX6_ok nmX6 rfl rfl rfl rfl rfl (Nat.le_of_ble_eq_true rfl) (by decide +kernel) hC hw dX6_init_73 (fun H locs hw => ?_)
  have hw : Wk E [(h, .inr (6, [.int 0, .int 0, .ref q1, .ref q2, .ref q3, .ref q4, .ref q5, .ref q6, .ref q7, .ref q8, .ref q9, .null])), (q1, .inl (E.2.1.1, 24, .inl (fun _ => 0))), (q2, .inl (E.2.1.1, 72, .inl (fun _ => 0))), (q3, .inl (E.2.1.1, 24, .inl (fun _ => 0))), (q4, .inl (E.2.1.1, 24, .inl (fun _ => 0))), (q5, .inl (E.2.1.1, 24, .inl (fun _ => 0))), (q6, .inl (E.2.1.1, 24, .inl (fun _ => 0))), (q7, .inl (E.2.1.1, 24, .inl (fun _ => 0))), (q8, .inl (E.2.1.1, 24, .inl (fun _ => 0))), (q9, .inl (E.2.1.1, 24, .inl (fun _ => 0)))] A s.heap H locs := hw
  refine lv_aload_n hC.1 hC.2.1 dX6_init_76 rfl (lv_at hl 0 rfl) ?_
  refine lv_bipush (v := nI 24) hC.1 hC.2.1 dX6_init_77 (by decide) ?_
  refine k_newi hC hw wk1_63 (by decide) (Nat.le_of_ble_eq_true rfl) (Nat.le_of_ble_eq_true rfl) (Nat.le_of_ble_eq_true rfl) dX6_init_79 (fun q10 H hw => ?_)
  have hw : Wk E [(h, .inr (6, [.int 0, .int 0, .ref q1, .ref q2, .ref q3, .ref q4, .ref q5, .ref q6, .ref q7, .ref q8, .ref q9, .null])), (q1, .inl (E.2.1.1, 24, .inl (fun _ => 0))), (q2, .inl (E.2.1.1, 72, .inl (fun _ => 0))), (q3, .inl (E.2.1.1, 24, .inl (fun _ => 0))), (q4, .inl (E.2.1.1, 24, .inl (fun _ => 0))), (q5, .inl (E.2.1.1, 24, .inl (fun _ => 0))), (q6, .inl (E.2.1.1, 24, .inl (fun _ => 0))), (q7, .inl (E.2.1.1, 24, .inl (fun _ => 0))), (q8, .inl (E.2.1.1, 24, .inl (fun _ => 0))), (q9, .inl (E.2.1.1, 24, .inl (fun _ => 0))), (q10, .inl (E.2.1.1, 24, .inl (fun _ => 0)))] A s.heap H locs := hw
  refine W.widen (k := 10) (n := 288) (Nat.le_of_ble_eq_true rfl) (Nat.le_of_ble_eq_true rfl) ?_
  refine k_put (C := RX6) (T := TX6) (N := 12) (ci := 6) 0 11 tyX6 rfl rfl (by decide) wk1_117 inT6 tyX6_ok nmX6 rfl rfl rfl rfl rfl (Nat.le_of_ble_eq_true rfl) (by decide +kernel) hC hw dX6_init_81 (fun H locs hw => ?_)
  have hw : Wk E [(h, .inr (6, [.int 0, .int 0, .ref q1, .ref q2, .ref q3, .ref q4, .ref q5, .ref q6, .ref q7, .ref q8, .ref q9, .ref q10])), (q1, .inl (E.2.1.1, 24, .inl (fun _ => 0))), (q2, .inl (E.2.1.1, 72, .inl (fun _ => 0))), (q3, .inl (E.2.1.1, 24, .inl (fun _ => 0))), (q4, .inl (E.2.1.1, 24, .inl (fun _ => 0))), (q5, .inl (E.2.1.1, 24, .inl (fun _ => 0))), (q6, .inl (E.2.1.1, 24, .inl (fun _ => 0))), (q7, .inl (E.2.1.1, 24, .inl (fun _ => 0))), (q8, .inl (E.2.1.1, 24, .inl (fun _ => 0))), (q9, .inl (E.2.1.1, 24, .inl (fun _ => 0))), (q10, .inl (E.2.1.1, 24, .inl (fun _ => 0)))] A s.heap H locs := hw
  exact hret (fun k => [q1, q2, q3, q4, q5, q6, q7, q8, q9, q10].getD k 0) _ _ _ _ _ _ hw trivial (Nat.le_of_ble_eq_true rfl) (Nat.le_of_ble_eq_true rfl) dX6_init_84
set_option maxHeartbeats 4000000 in
set_option maxRecDepth 100000 in
theorem kX4_init (l : Launch) (E : EV) (h hs jb wt : Nat) : MK l E yX4_init (Cond.code yX4_init cX4_init 4 none) ({ frames := 1, cells := 6, slots := 310, locals := 12 }) [.ref h, .ref hs, .ref jb, .ref wt] [(h, .inr (4, [.null, .null, .null, .null, .null, .null, .null, .null, .null]))] (fun _ => True) (fun q => [(h, .inr (4, [.ref hs, .ref jb, .ref wt, .ref (q 0), .ref (q 1), .ref (q 2), .ref (q 3), .ref (q 4), .ref (q 5)])), (q 0, .inl (E.2.1.1, 30, .inl (fun _ => 0))), (q 1, .inl (E.2.1.1, 80, .inl (fun _ => 0))), (q 2, .inl (E.2.1.1, 40, .inl (fun _ => 0))), (q 3, .inl (E.2.1.1, 80, .inl (fun _ => 0))), (q 4, .inl (E.2.1.1, 40, .inl (fun _ => 0))), (q 5, .inl (E.2.1.1, 40, .inl (fun _ => 0)))]) 6 310 := by
  refine MK.mk (by decide +kernel) (Nat.le_of_ble_eq_true rfl) rfl ?_
  intro p e s m args below meth c ls A Q hret hC hw hl
  have hC : Ctk E p s m args meth c cX4_init 4 RX4 A := hC
  have hl : lv_has ls 4 [(0, .ref h), (1, .ref hs), (2, .ref jb), (3, .ref wt)] := hl
  have hw : Wk E [(h, .inr (4, [.null, .null, .null, .null, .null, .null, .null, .null, .null]))] A s.heap s.heap [] := hw
  refine lv_aload_n hC.1 hC.2.1 dX4_init_0 rfl (lv_at hl 0 rfl) ?_
  refine k_obj hC hl.1 wk1_151 wk1_23 kw_o (Nat.le_of_ble_eq_true rfl) (Nat.le_of_ble_eq_true rfl) dX4_init_1 ?_
  refine lv_aload_n hC.1 hC.2.1 dX4_init_4 rfl (lv_at hl 0 rfl) ?_
  refine lv_bipush (v := nI 30) hC.1 hC.2.1 dX4_init_5 (by decide) ?_
  refine k_newi hC hw wk1_63 (by decide) (Nat.le_of_ble_eq_true rfl) (Nat.le_of_ble_eq_true rfl) (Nat.le_of_ble_eq_true rfl) dX4_init_7 (fun q1 H hw => ?_)
  have hw : Wk E [(h, .inr (4, [.null, .null, .null, .null, .null, .null, .null, .null, .null])), (q1, .inl (E.2.1.1, 30, .inl (fun _ => 0)))] A s.heap H [] := hw
  refine W.widen (k := 1) (n := 30) (Nat.le_of_ble_eq_true rfl) (Nat.le_of_ble_eq_true rfl) ?_
  refine k_put (C := RX4) (T := TX4) (N := 9) (ci := 4) 0 3 tyX4 rfl rfl (by decide) wk1_165 inT4 tyX4_ok nmX4 rfl rfl rfl rfl rfl (Nat.le_of_ble_eq_true rfl) (by decide +kernel) hC hw dX4_init_9 (fun H locs hw => ?_)
  have hw : Wk E [(h, .inr (4, [.null, .null, .null, .ref q1, .null, .null, .null, .null, .null])), (q1, .inl (E.2.1.1, 30, .inl (fun _ => 0)))] A s.heap H locs := hw
  refine lv_aload_n hC.1 hC.2.1 dX4_init_12 rfl (lv_at hl 0 rfl) ?_
  refine lv_bipush (v := nI 80) hC.1 hC.2.1 dX4_init_13 (by decide) ?_
  refine k_newi hC hw wk1_63 (by decide) (Nat.le_of_ble_eq_true rfl) (Nat.le_of_ble_eq_true rfl) (Nat.le_of_ble_eq_true rfl) dX4_init_15 (fun q2 H hw => ?_)
  have hw : Wk E [(h, .inr (4, [.null, .null, .null, .ref q1, .null, .null, .null, .null, .null])), (q1, .inl (E.2.1.1, 30, .inl (fun _ => 0))), (q2, .inl (E.2.1.1, 80, .inl (fun _ => 0)))] A s.heap H locs := hw
  refine W.widen (k := 2) (n := 110) (Nat.le_of_ble_eq_true rfl) (Nat.le_of_ble_eq_true rfl) ?_
  refine k_put (C := RX4) (T := TX4) (N := 9) (ci := 4) 0 4 tyX4 rfl rfl (by decide) wk1_167 inT4 tyX4_ok nmX4 rfl rfl rfl rfl rfl (Nat.le_of_ble_eq_true rfl) (by decide +kernel) hC hw dX4_init_17 (fun H locs hw => ?_)
  have hw : Wk E [(h, .inr (4, [.null, .null, .null, .ref q1, .ref q2, .null, .null, .null, .null])), (q1, .inl (E.2.1.1, 30, .inl (fun _ => 0))), (q2, .inl (E.2.1.1, 80, .inl (fun _ => 0)))] A s.heap H locs := hw
  refine lv_aload_n hC.1 hC.2.1 dX4_init_20 rfl (lv_at hl 0 rfl) ?_
  refine lv_bipush (v := nI 40) hC.1 hC.2.1 dX4_init_21 (by decide) ?_
  refine k_newi hC hw wk1_63 (by decide) (Nat.le_of_ble_eq_true rfl) (Nat.le_of_ble_eq_true rfl) (Nat.le_of_ble_eq_true rfl) dX4_init_23 (fun q3 H hw => ?_)
  have hw : Wk E [(h, .inr (4, [.null, .null, .null, .ref q1, .ref q2, .null, .null, .null, .null])), (q1, .inl (E.2.1.1, 30, .inl (fun _ => 0))), (q2, .inl (E.2.1.1, 80, .inl (fun _ => 0))), (q3, .inl (E.2.1.1, 40, .inl (fun _ => 0)))] A s.heap H locs := hw
  refine W.widen (k := 3) (n := 150) (Nat.le_of_ble_eq_true rfl) (Nat.le_of_ble_eq_true rfl) ?_
  refine k_put (C := RX4) (T := TX4) (N := 9) (ci := 4) 0 5 tyX4 rfl rfl (by decide) wk1_168 inT4 tyX4_ok nmX4 rfl rfl rfl rfl rfl (Nat.le_of_ble_eq_true rfl) (by decide +kernel) hC hw dX4_init_25 (fun H locs hw => ?_)
  have hw : Wk E [(h, .inr (4, [.null, .null, .null, .ref q1, .ref q2, .ref q3, .null, .null, .null])), (q1, .inl (E.2.1.1, 30, .inl (fun _ => 0))), (q2, .inl (E.2.1.1, 80, .inl (fun _ => 0))), (q3, .inl (E.2.1.1, 40, .inl (fun _ => 0)))] A s.heap H locs := hw
  refine lv_aload_n hC.1 hC.2.1 dX4_init_28 rfl (lv_at hl 0 rfl) ?_
  refine lv_bipush (v := nI 80) hC.1 hC.2.1 dX4_init_29 (by decide) ?_
  refine k_newi hC hw wk1_63 (by decide) (Nat.le_of_ble_eq_true rfl) (Nat.le_of_ble_eq_true rfl) (Nat.le_of_ble_eq_true rfl) dX4_init_31 (fun q4 H hw => ?_)
  have hw : Wk E [(h, .inr (4, [.null, .null, .null, .ref q1, .ref q2, .ref q3, .null, .null, .null])), (q1, .inl (E.2.1.1, 30, .inl (fun _ => 0))), (q2, .inl (E.2.1.1, 80, .inl (fun _ => 0))), (q3, .inl (E.2.1.1, 40, .inl (fun _ => 0))), (q4, .inl (E.2.1.1, 80, .inl (fun _ => 0)))] A s.heap H locs := hw
  refine W.widen (k := 4) (n := 230) (Nat.le_of_ble_eq_true rfl) (Nat.le_of_ble_eq_true rfl) ?_
  refine k_put (C := RX4) (T := TX4) (N := 9) (ci := 4) 0 6 tyX4 rfl rfl (by decide) wk1_169 inT4 tyX4_ok nmX4 rfl rfl rfl rfl rfl (Nat.le_of_ble_eq_true rfl) (by decide +kernel) hC hw dX4_init_33 (fun H locs hw => ?_)
  have hw : Wk E [(h, .inr (4, [.null, .null, .null, .ref q1, .ref q2, .ref q3, .ref q4, .null, .null])), (q1, .inl (E.2.1.1, 30, .inl (fun _ => 0))), (q2, .inl (E.2.1.1, 80, .inl (fun _ => 0))), (q3, .inl (E.2.1.1, 40, .inl (fun _ => 0))), (q4, .inl (E.2.1.1, 80, .inl (fun _ => 0)))] A s.heap H locs := hw
  refine lv_aload_n hC.1 hC.2.1 dX4_init_36 rfl (lv_at hl 0 rfl) ?_
  refine lv_bipush (v := nI 40) hC.1 hC.2.1 dX4_init_37 (by decide) ?_
  refine k_newi hC hw wk1_63 (by decide) (Nat.le_of_ble_eq_true rfl) (Nat.le_of_ble_eq_true rfl) (Nat.le_of_ble_eq_true rfl) dX4_init_39 (fun q5 H hw => ?_)
  have hw : Wk E [(h, .inr (4, [.null, .null, .null, .ref q1, .ref q2, .ref q3, .ref q4, .null, .null])), (q1, .inl (E.2.1.1, 30, .inl (fun _ => 0))), (q2, .inl (E.2.1.1, 80, .inl (fun _ => 0))), (q3, .inl (E.2.1.1, 40, .inl (fun _ => 0))), (q4, .inl (E.2.1.1, 80, .inl (fun _ => 0))), (q5, .inl (E.2.1.1, 40, .inl (fun _ => 0)))] A s.heap H locs := hw
  refine W.widen (k := 5) (n := 270) (Nat.le_of_ble_eq_true rfl) (Nat.le_of_ble_eq_true rfl) ?_
  refine k_put (C := RX4) (T := TX4) (N := 9) (ci := 4) 0 7 tyX4 rfl rfl (by decide) wk1_170 inT4 tyX4_ok nmX4 rfl rfl rfl rfl rfl (Nat.le_of_ble_eq_true rfl) (by decide +kernel) hC hw dX4_init_41 (fun H locs hw => ?_)
  have hw : Wk E [(h, .inr (4, [.null, .null, .null, .ref q1, .ref q2, .ref q3, .ref q4, .ref q5, .null])), (q1, .inl (E.2.1.1, 30, .inl (fun _ => 0))), (q2, .inl (E.2.1.1, 80, .inl (fun _ => 0))), (q3, .inl (E.2.1.1, 40, .inl (fun _ => 0))), (q4, .inl (E.2.1.1, 80, .inl (fun _ => 0))), (q5, .inl (E.2.1.1, 40, .inl (fun _ => 0)))] A s.heap H locs := hw
  refine lv_aload_n hC.1 hC.2.1 dX4_init_44 rfl (lv_at hl 0 rfl) ?_
  refine lv_bipush (v := nI 40) hC.1 hC.2.1 dX4_init_45 (by decide) ?_
  refine k_newi hC hw wk1_63 (by decide) (Nat.le_of_ble_eq_true rfl) (Nat.le_of_ble_eq_true rfl) (Nat.le_of_ble_eq_true rfl) dX4_init_47 (fun q6 H hw => ?_)
  have hw : Wk E [(h, .inr (4, [.null, .null, .null, .ref q1, .ref q2, .ref q3, .ref q4, .ref q5, .null])), (q1, .inl (E.2.1.1, 30, .inl (fun _ => 0))), (q2, .inl (E.2.1.1, 80, .inl (fun _ => 0))), (q3, .inl (E.2.1.1, 40, .inl (fun _ => 0))), (q4, .inl (E.2.1.1, 80, .inl (fun _ => 0))), (q5, .inl (E.2.1.1, 40, .inl (fun _ => 0))), (q6, .inl (E.2.1.1, 40, .inl (fun _ => 0)))] A s.heap H locs := hw
  refine W.widen (k := 6) (n := 310) (Nat.le_of_ble_eq_true rfl) (Nat.le_of_ble_eq_true rfl) ?_
  refine k_put (C := RX4) (T := TX4) (N := 9) (ci := 4) 0 8 tyX4 rfl rfl (by decide) wk1_171 inT4 tyX4_ok nmX4 rfl rfl rfl rfl rfl (Nat.le_of_ble_eq_true rfl) (by decide +kernel) hC hw dX4_init_49 (fun H locs hw => ?_)
  have hw : Wk E [(h, .inr (4, [.null, .null, .null, .ref q1, .ref q2, .ref q3, .ref q4, .ref q5, .ref q6])), (q1, .inl (E.2.1.1, 30, .inl (fun _ => 0))), (q2, .inl (E.2.1.1, 80, .inl (fun _ => 0))), (q3, .inl (E.2.1.1, 40, .inl (fun _ => 0))), (q4, .inl (E.2.1.1, 80, .inl (fun _ => 0))), (q5, .inl (E.2.1.1, 40, .inl (fun _ => 0))), (q6, .inl (E.2.1.1, 40, .inl (fun _ => 0)))] A s.heap H locs := hw
  refine lv_aload_n hC.1 hC.2.1 dX4_init_52 rfl (lv_at hl 0 rfl) ?_
  refine lv_aload_n hC.1 hC.2.1 dX4_init_53 rfl (lv_at hl 1 rfl) ?_
  refine k_put (C := RX4) (T := TX4) (N := 9) (ci := 4) 0 0 tyX4 rfl rfl (by decide) wk1_154 inT4 tyX4_ok nmX4 rfl rfl rfl rfl rfl (Nat.le_of_ble_eq_true rfl) (by decide +kernel) hC hw dX4_init_54 (fun H locs hw => ?_)
  have hw : Wk E [(h, .inr (4, [.ref hs, .null, .null, .ref q1, .ref q2, .ref q3, .ref q4, .ref q5, .ref q6])), (q1, .inl (E.2.1.1, 30, .inl (fun _ => 0))), (q2, .inl (E.2.1.1, 80, .inl (fun _ => 0))), (q3, .inl (E.2.1.1, 40, .inl (fun _ => 0))), (q4, .inl (E.2.1.1, 80, .inl (fun _ => 0))), (q5, .inl (E.2.1.1, 40, .inl (fun _ => 0))), (q6, .inl (E.2.1.1, 40, .inl (fun _ => 0)))] A s.heap H locs := hw
  refine lv_aload_n hC.1 hC.2.1 dX4_init_57 rfl (lv_at hl 0 rfl) ?_
  refine lv_aload_n hC.1 hC.2.1 dX4_init_58 rfl (lv_at hl 2 rfl) ?_
  refine k_put (C := RX4) (T := TX4) (N := 9) (ci := 4) 0 1 tyX4 rfl rfl (by decide) wk1_163 inT4 tyX4_ok nmX4 rfl rfl rfl rfl rfl (Nat.le_of_ble_eq_true rfl) (by decide +kernel) hC hw dX4_init_59 (fun H locs hw => ?_)
  have hw : Wk E [(h, .inr (4, [.ref hs, .ref jb, .null, .ref q1, .ref q2, .ref q3, .ref q4, .ref q5, .ref q6])), (q1, .inl (E.2.1.1, 30, .inl (fun _ => 0))), (q2, .inl (E.2.1.1, 80, .inl (fun _ => 0))), (q3, .inl (E.2.1.1, 40, .inl (fun _ => 0))), (q4, .inl (E.2.1.1, 80, .inl (fun _ => 0))), (q5, .inl (E.2.1.1, 40, .inl (fun _ => 0))), (q6, .inl (E.2.1.1, 40, .inl (fun _ => 0)))] A s.heap H locs := hw
  refine lv_aload_n hC.1 hC.2.1 dX4_init_62 rfl (lv_at hl 0 rfl) ?_
  refine lv_aload_n hC.1 hC.2.1 dX4_init_63 rfl (lv_at hl 3 rfl) ?_
  refine k_put (C := RX4) (T := TX4) (N := 9) (ci := 4) 0 2 tyX4 rfl rfl (by decide) wk1_164 inT4 tyX4_ok nmX4 rfl rfl rfl rfl rfl (Nat.le_of_ble_eq_true rfl) (by decide +kernel) hC hw dX4_init_64 (fun H locs hw => ?_)
  have hw : Wk E [(h, .inr (4, [.ref hs, .ref jb, .ref wt, .ref q1, .ref q2, .ref q3, .ref q4, .ref q5, .ref q6])), (q1, .inl (E.2.1.1, 30, .inl (fun _ => 0))), (q2, .inl (E.2.1.1, 80, .inl (fun _ => 0))), (q3, .inl (E.2.1.1, 40, .inl (fun _ => 0))), (q4, .inl (E.2.1.1, 80, .inl (fun _ => 0))), (q5, .inl (E.2.1.1, 40, .inl (fun _ => 0))), (q6, .inl (E.2.1.1, 40, .inl (fun _ => 0)))] A s.heap H locs := hw
  exact hret (fun k => [q1, q2, q3, q4, q5, q6].getD k 0) _ _ _ _ _ _ hw trivial (Nat.le_of_ble_eq_true rfl) (Nat.le_of_ble_eq_true rfl) dX4_init_67
set_option maxHeartbeats 4000000 in
set_option maxRecDepth 100000 in
theorem kX7_init (l : Launch) (E : EV) (h hs jb wt : Nat) : MK l E yX7_init (Cond.code yX7_init cX7_init 4 none) ({ frames := 1, cells := 31, slots := 3390, locals := 12 }) [.ref h, .ref hs, .ref jb, .ref wt] [(h, .inr (7, [.null, .null, .null, .null, .int 0, .int 0]))] (fun _ => True) (fun q => [(h, .inr (7, [.ref hs, .ref jb, .ref wt, .ref (q 0), .int 0, .int 0])), (q 0, .inl (E.2.1.2.2, 30, .inr (.inr (.inr (.inr (rg (q 0))))))), (((q 0) + 1 + 0), .inl (E.2.1.1, 112, .inl (fun _ => 0))), (((q 0) + 1 + 1), .inl (E.2.1.1, 112, .inl (fun _ => 0))), (((q 0) + 1 + 2), .inl (E.2.1.1, 112, .inl (fun _ => 0))), (((q 0) + 1 + 3), .inl (E.2.1.1, 112, .inl (fun _ => 0))), (((q 0) + 1 + 4), .inl (E.2.1.1, 112, .inl (fun _ => 0))), (((q 0) + 1 + 5), .inl (E.2.1.1, 112, .inl (fun _ => 0))), (((q 0) + 1 + 6), .inl (E.2.1.1, 112, .inl (fun _ => 0))), (((q 0) + 1 + 7), .inl (E.2.1.1, 112, .inl (fun _ => 0))), (((q 0) + 1 + 8), .inl (E.2.1.1, 112, .inl (fun _ => 0))), (((q 0) + 1 + 9), .inl (E.2.1.1, 112, .inl (fun _ => 0))), (((q 0) + 1 + 10), .inl (E.2.1.1, 112, .inl (fun _ => 0))), (((q 0) + 1 + 11), .inl (E.2.1.1, 112, .inl (fun _ => 0))), (((q 0) + 1 + 12), .inl (E.2.1.1, 112, .inl (fun _ => 0))), (((q 0) + 1 + 13), .inl (E.2.1.1, 112, .inl (fun _ => 0))), (((q 0) + 1 + 14), .inl (E.2.1.1, 112, .inl (fun _ => 0))), (((q 0) + 1 + 15), .inl (E.2.1.1, 112, .inl (fun _ => 0))), (((q 0) + 1 + 16), .inl (E.2.1.1, 112, .inl (fun _ => 0))), (((q 0) + 1 + 17), .inl (E.2.1.1, 112, .inl (fun _ => 0))), (((q 0) + 1 + 18), .inl (E.2.1.1, 112, .inl (fun _ => 0))), (((q 0) + 1 + 19), .inl (E.2.1.1, 112, .inl (fun _ => 0))), (((q 0) + 1 + 20), .inl (E.2.1.1, 112, .inl (fun _ => 0))), (((q 0) + 1 + 21), .inl (E.2.1.1, 112, .inl (fun _ => 0))), (((q 0) + 1 + 22), .inl (E.2.1.1, 112, .inl (fun _ => 0))), (((q 0) + 1 + 23), .inl (E.2.1.1, 112, .inl (fun _ => 0))), (((q 0) + 1 + 24), .inl (E.2.1.1, 112, .inl (fun _ => 0))), (((q 0) + 1 + 25), .inl (E.2.1.1, 112, .inl (fun _ => 0))), (((q 0) + 1 + 26), .inl (E.2.1.1, 112, .inl (fun _ => 0))), (((q 0) + 1 + 27), .inl (E.2.1.1, 112, .inl (fun _ => 0))), (((q 0) + 1 + 28), .inl (E.2.1.1, 112, .inl (fun _ => 0))), (((q 0) + 1 + 29), .inl (E.2.1.1, 112, .inl (fun _ => 0)))]) 31 3390 := by
  refine MK.mk (by decide +kernel) (Nat.le_of_ble_eq_true rfl) rfl ?_
  intro p e s m args below meth c ls A Q hret hC hw hl
  have hC : Ctk E p s m args meth c cX7_init 4 RX7 A := hC
  have hl : lv_has ls 4 [(0, .ref h), (1, .ref hs), (2, .ref jb), (3, .ref wt)] := hl
  have hw : Wk E [(h, .inr (7, [.null, .null, .null, .null, .int 0, .int 0]))] A s.heap s.heap [] := hw
  refine lv_aload_n hC.1 hC.2.1 dX7_init_0 rfl (lv_at hl 0 rfl) ?_
  refine k_obj hC hl.1 wk1_196 wk1_23 kw_o (Nat.le_of_ble_eq_true rfl) (Nat.le_of_ble_eq_true rfl) dX7_init_1 ?_
  refine lv_aload_n hC.1 hC.2.1 dX7_init_4 rfl (lv_at hl 0 rfl) ?_
  refine lv_bipush (v := nI 30) hC.1 hC.2.1 dX7_init_5 (by decide) ?_
  refine lv_bipush (v := nI 112) hC.1 hC.2.1 dX7_init_7 (by decide) ?_
  refine k_newm hC hw wk1_63 wk1_197 (by decide) (by decide) (Nat.le_of_ble_eq_true rfl) (Nat.le_of_ble_eq_true rfl) (Nat.le_of_ble_eq_true rfl) (Nat.le_of_ble_eq_true rfl) dX7_init_9 (fun q1 H locs hw => ?_)
  have hw : Wk E [(h, .inr (7, [.null, .null, .null, .null, .int 0, .int 0])), (q1, .inl (E.2.1.2.2, 30, .inr (.inr (.inr (.inr (rg q1)))))), ((q1 + 1 + 0), .inl (E.2.1.1, 112, .inl (fun _ => 0))), ((q1 + 1 + 1), .inl (E.2.1.1, 112, .inl (fun _ => 0))), ((q1 + 1 + 2), .inl (E.2.1.1, 112, .inl (fun _ => 0))), ((q1 + 1 + 3), .inl (E.2.1.1, 112, .inl (fun _ => 0))), ((q1 + 1 + 4), .inl (E.2.1.1, 112, .inl (fun _ => 0))), ((q1 + 1 + 5), .inl (E.2.1.1, 112, .inl (fun _ => 0))), ((q1 + 1 + 6), .inl (E.2.1.1, 112, .inl (fun _ => 0))), ((q1 + 1 + 7), .inl (E.2.1.1, 112, .inl (fun _ => 0))), ((q1 + 1 + 8), .inl (E.2.1.1, 112, .inl (fun _ => 0))), ((q1 + 1 + 9), .inl (E.2.1.1, 112, .inl (fun _ => 0))), ((q1 + 1 + 10), .inl (E.2.1.1, 112, .inl (fun _ => 0))), ((q1 + 1 + 11), .inl (E.2.1.1, 112, .inl (fun _ => 0))), ((q1 + 1 + 12), .inl (E.2.1.1, 112, .inl (fun _ => 0))), ((q1 + 1 + 13), .inl (E.2.1.1, 112, .inl (fun _ => 0))), ((q1 + 1 + 14), .inl (E.2.1.1, 112, .inl (fun _ => 0))), ((q1 + 1 + 15), .inl (E.2.1.1, 112, .inl (fun _ => 0))), ((q1 + 1 + 16), .inl (E.2.1.1, 112, .inl (fun _ => 0))), ((q1 + 1 + 17), .inl (E.2.1.1, 112, .inl (fun _ => 0))), ((q1 + 1 + 18), .inl (E.2.1.1, 112, .inl (fun _ => 0))), ((q1 + 1 + 19), .inl (E.2.1.1, 112, .inl (fun _ => 0))), ((q1 + 1 + 20), .inl (E.2.1.1, 112, .inl (fun _ => 0))), ((q1 + 1 + 21), .inl (E.2.1.1, 112, .inl (fun _ => 0))), ((q1 + 1 + 22), .inl (E.2.1.1, 112, .inl (fun _ => 0))), ((q1 + 1 + 23), .inl (E.2.1.1, 112, .inl (fun _ => 0))), ((q1 + 1 + 24), .inl (E.2.1.1, 112, .inl (fun _ => 0))), ((q1 + 1 + 25), .inl (E.2.1.1, 112, .inl (fun _ => 0))), ((q1 + 1 + 26), .inl (E.2.1.1, 112, .inl (fun _ => 0))), ((q1 + 1 + 27), .inl (E.2.1.1, 112, .inl (fun _ => 0))), ((q1 + 1 + 28), .inl (E.2.1.1, 112, .inl (fun _ => 0))), ((q1 + 1 + 29), .inl (E.2.1.1, 112, .inl (fun _ => 0)))] A s.heap H locs := hw
  refine W.widen (k := 31) (n := 3390) (Nat.le_of_ble_eq_true rfl) (Nat.le_of_ble_eq_true rfl) ?_
  refine k_put (C := RX7) (T := TX7) (N := 6) (ci := 7) 0 3 tyX7 rfl rfl (by decide) wk1_202 inT7 tyX7_ok nmX7 rfl rfl rfl rfl rfl (Nat.le_of_ble_eq_true rfl) (by decide +kernel) hC hw dX7_init_13 (fun H locs hw => ?_)
  have hw : Wk E [(h, .inr (7, [.null, .null, .null, .ref q1, .int 0, .int 0])), (q1, .inl (E.2.1.2.2, 30, .inr (.inr (.inr (.inr (rg q1)))))), ((q1 + 1 + 0), .inl (E.2.1.1, 112, .inl (fun _ => 0))), ((q1 + 1 + 1), .inl (E.2.1.1, 112, .inl (fun _ => 0))), ((q1 + 1 + 2), .inl (E.2.1.1, 112, .inl (fun _ => 0))), ((q1 + 1 + 3), .inl (E.2.1.1, 112, .inl (fun _ => 0))), ((q1 + 1 + 4), .inl (E.2.1.1, 112, .inl (fun _ => 0))), ((q1 + 1 + 5), .inl (E.2.1.1, 112, .inl (fun _ => 0))), ((q1 + 1 + 6), .inl (E.2.1.1, 112, .inl (fun _ => 0))), ((q1 + 1 + 7), .inl (E.2.1.1, 112, .inl (fun _ => 0))), ((q1 + 1 + 8), .inl (E.2.1.1, 112, .inl (fun _ => 0))), ((q1 + 1 + 9), .inl (E.2.1.1, 112, .inl (fun _ => 0))), ((q1 + 1 + 10), .inl (E.2.1.1, 112, .inl (fun _ => 0))), ((q1 + 1 + 11), .inl (E.2.1.1, 112, .inl (fun _ => 0))), ((q1 + 1 + 12), .inl (E.2.1.1, 112, .inl (fun _ => 0))), ((q1 + 1 + 13), .inl (E.2.1.1, 112, .inl (fun _ => 0))), ((q1 + 1 + 14), .inl (E.2.1.1, 112, .inl (fun _ => 0))), ((q1 + 1 + 15), .inl (E.2.1.1, 112, .inl (fun _ => 0))), ((q1 + 1 + 16), .inl (E.2.1.1, 112, .inl (fun _ => 0))), ((q1 + 1 + 17), .inl (E.2.1.1, 112, .inl (fun _ => 0))), ((q1 + 1 + 18), .inl (E.2.1.1, 112, .inl (fun _ => 0))), ((q1 + 1 + 19), .inl (E.2.1.1, 112, .inl (fun _ => 0))), ((q1 + 1 + 20), .inl (E.2.1.1, 112, .inl (fun _ => 0))), ((q1 + 1 + 21), .inl (E.2.1.1, 112, .inl (fun _ => 0))), ((q1 + 1 + 22), .inl (E.2.1.1, 112, .inl (fun _ => 0))), ((q1 + 1 + 23), .inl (E.2.1.1, 112, .inl (fun _ => 0))), ((q1 + 1 + 24), .inl (E.2.1.1, 112, .inl (fun _ => 0))), ((q1 + 1 + 25), .inl (E.2.1.1, 112, .inl (fun _ => 0))), ((q1 + 1 + 26), .inl (E.2.1.1, 112, .inl (fun _ => 0))), ((q1 + 1 + 27), .inl (E.2.1.1, 112, .inl (fun _ => 0))), ((q1 + 1 + 28), .inl (E.2.1.1, 112, .inl (fun _ => 0))), ((q1 + 1 + 29), .inl (E.2.1.1, 112, .inl (fun _ => 0)))] A s.heap H locs := hw
  refine lv_aload_n hC.1 hC.2.1 dX7_init_16 rfl (lv_at hl 0 rfl) ?_
  refine lv_aload_n hC.1 hC.2.1 dX7_init_17 rfl (lv_at hl 1 rfl) ?_
  refine k_put (C := RX7) (T := TX7) (N := 6) (ci := 7) 0 0 tyX7 rfl rfl (by decide) wk1_199 inT7 tyX7_ok nmX7 rfl rfl rfl rfl rfl (Nat.le_of_ble_eq_true rfl) (by decide +kernel) hC hw dX7_init_18 (fun H locs hw => ?_)
  have hw : Wk E [(h, .inr (7, [.ref hs, .null, .null, .ref q1, .int 0, .int 0])), (q1, .inl (E.2.1.2.2, 30, .inr (.inr (.inr (.inr (rg q1)))))), ((q1 + 1 + 0), .inl (E.2.1.1, 112, .inl (fun _ => 0))), ((q1 + 1 + 1), .inl (E.2.1.1, 112, .inl (fun _ => 0))), ((q1 + 1 + 2), .inl (E.2.1.1, 112, .inl (fun _ => 0))), ((q1 + 1 + 3), .inl (E.2.1.1, 112, .inl (fun _ => 0))), ((q1 + 1 + 4), .inl (E.2.1.1, 112, .inl (fun _ => 0))), ((q1 + 1 + 5), .inl (E.2.1.1, 112, .inl (fun _ => 0))), ((q1 + 1 + 6), .inl (E.2.1.1, 112, .inl (fun _ => 0))), ((q1 + 1 + 7), .inl (E.2.1.1, 112, .inl (fun _ => 0))), ((q1 + 1 + 8), .inl (E.2.1.1, 112, .inl (fun _ => 0))), ((q1 + 1 + 9), .inl (E.2.1.1, 112, .inl (fun _ => 0))), ((q1 + 1 + 10), .inl (E.2.1.1, 112, .inl (fun _ => 0))), ((q1 + 1 + 11), .inl (E.2.1.1, 112, .inl (fun _ => 0))), ((q1 + 1 + 12), .inl (E.2.1.1, 112, .inl (fun _ => 0))), ((q1 + 1 + 13), .inl (E.2.1.1, 112, .inl (fun _ => 0))), ((q1 + 1 + 14), .inl (E.2.1.1, 112, .inl (fun _ => 0))), ((q1 + 1 + 15), .inl (E.2.1.1, 112, .inl (fun _ => 0))), ((q1 + 1 + 16), .inl (E.2.1.1, 112, .inl (fun _ => 0))), ((q1 + 1 + 17), .inl (E.2.1.1, 112, .inl (fun _ => 0))), ((q1 + 1 + 18), .inl (E.2.1.1, 112, .inl (fun _ => 0))), ((q1 + 1 + 19), .inl (E.2.1.1, 112, .inl (fun _ => 0))), ((q1 + 1 + 20), .inl (E.2.1.1, 112, .inl (fun _ => 0))), ((q1 + 1 + 21), .inl (E.2.1.1, 112, .inl (fun _ => 0))), ((q1 + 1 + 22), .inl (E.2.1.1, 112, .inl (fun _ => 0))), ((q1 + 1 + 23), .inl (E.2.1.1, 112, .inl (fun _ => 0))), ((q1 + 1 + 24), .inl (E.2.1.1, 112, .inl (fun _ => 0))), ((q1 + 1 + 25), .inl (E.2.1.1, 112, .inl (fun _ => 0))), ((q1 + 1 + 26), .inl (E.2.1.1, 112, .inl (fun _ => 0))), ((q1 + 1 + 27), .inl (E.2.1.1, 112, .inl (fun _ => 0))), ((q1 + 1 + 28), .inl (E.2.1.1, 112, .inl (fun _ => 0))), ((q1 + 1 + 29), .inl (E.2.1.1, 112, .inl (fun _ => 0)))] A s.heap H locs := hw
  refine lv_aload_n hC.1 hC.2.1 dX7_init_21 rfl (lv_at hl 0 rfl) ?_
  refine lv_aload_n hC.1 hC.2.1 dX7_init_22 rfl (lv_at hl 2 rfl) ?_
  refine k_put (C := RX7) (T := TX7) (N := 6) (ci := 7) 0 1 tyX7 rfl rfl (by decide) wk1_200 inT7 tyX7_ok nmX7 rfl rfl rfl rfl rfl (Nat.le_of_ble_eq_true rfl) (by decide +kernel) hC hw dX7_init_23 (fun H locs hw => ?_)
  have hw : Wk E [(h, .inr (7, [.ref hs, .ref jb, .null, .ref q1, .int 0, .int 0])), (q1, .inl (E.2.1.2.2, 30, .inr (.inr (.inr (.inr (rg q1)))))), ((q1 + 1 + 0), .inl (E.2.1.1, 112, .inl (fun _ => 0))), ((q1 + 1 + 1), .inl (E.2.1.1, 112, .inl (fun _ => 0))), ((q1 + 1 + 2), .inl (E.2.1.1, 112, .inl (fun _ => 0))), ((q1 + 1 + 3), .inl (E.2.1.1, 112, .inl (fun _ => 0))), ((q1 + 1 + 4), .inl (E.2.1.1, 112, .inl (fun _ => 0))), ((q1 + 1 + 5), .inl (E.2.1.1, 112, .inl (fun _ => 0))), ((q1 + 1 + 6), .inl (E.2.1.1, 112, .inl (fun _ => 0))), ((q1 + 1 + 7), .inl (E.2.1.1, 112, .inl (fun _ => 0))), ((q1 + 1 + 8), .inl (E.2.1.1, 112, .inl (fun _ => 0))), ((q1 + 1 + 9), .inl (E.2.1.1, 112, .inl (fun _ => 0))), ((q1 + 1 + 10), .inl (E.2.1.1, 112, .inl (fun _ => 0))), ((q1 + 1 + 11), .inl (E.2.1.1, 112, .inl (fun _ => 0))), ((q1 + 1 + 12), .inl (E.2.1.1, 112, .inl (fun _ => 0))), ((q1 + 1 + 13), .inl (E.2.1.1, 112, .inl (fun _ => 0))), ((q1 + 1 + 14), .inl (E.2.1.1, 112, .inl (fun _ => 0))), ((q1 + 1 + 15), .inl (E.2.1.1, 112, .inl (fun _ => 0))), ((q1 + 1 + 16), .inl (E.2.1.1, 112, .inl (fun _ => 0))), ((q1 + 1 + 17), .inl (E.2.1.1, 112, .inl (fun _ => 0))), ((q1 + 1 + 18), .inl (E.2.1.1, 112, .inl (fun _ => 0))), ((q1 + 1 + 19), .inl (E.2.1.1, 112, .inl (fun _ => 0))), ((q1 + 1 + 20), .inl (E.2.1.1, 112, .inl (fun _ => 0))), ((q1 + 1 + 21), .inl (E.2.1.1, 112, .inl (fun _ => 0))), ((q1 + 1 + 22), .inl (E.2.1.1, 112, .inl (fun _ => 0))), ((q1 + 1 + 23), .inl (E.2.1.1, 112, .inl (fun _ => 0))), ((q1 + 1 + 24), .inl (E.2.1.1, 112, .inl (fun _ => 0))), ((q1 + 1 + 25), .inl (E.2.1.1, 112, .inl (fun _ => 0))), ((q1 + 1 + 26), .inl (E.2.1.1, 112, .inl (fun _ => 0))), ((q1 + 1 + 27), .inl (E.2.1.1, 112, .inl (fun _ => 0))), ((q1 + 1 + 28), .inl (E.2.1.1, 112, .inl (fun _ => 0))), ((q1 + 1 + 29), .inl (E.2.1.1, 112, .inl (fun _ => 0)))] A s.heap H locs := hw
  refine lv_aload_n hC.1 hC.2.1 dX7_init_26 rfl (lv_at hl 0 rfl) ?_
  refine lv_aload_n hC.1 hC.2.1 dX7_init_27 rfl (lv_at hl 3 rfl) ?_
  refine k_put (C := RX7) (T := TX7) (N := 6) (ci := 7) 0 2 tyX7 rfl rfl (by decide) wk1_201 inT7 tyX7_ok nmX7 rfl rfl rfl rfl rfl (Nat.le_of_ble_eq_true rfl) (by decide +kernel) hC hw dX7_init_28 (fun H locs hw => ?_)
  have hw : Wk E [(h, .inr (7, [.ref hs, .ref jb, .ref wt, .ref q1, .int 0, .int 0])), (q1, .inl (E.2.1.2.2, 30, .inr (.inr (.inr (.inr (rg q1)))))), ((q1 + 1 + 0), .inl (E.2.1.1, 112, .inl (fun _ => 0))), ((q1 + 1 + 1), .inl (E.2.1.1, 112, .inl (fun _ => 0))), ((q1 + 1 + 2), .inl (E.2.1.1, 112, .inl (fun _ => 0))), ((q1 + 1 + 3), .inl (E.2.1.1, 112, .inl (fun _ => 0))), ((q1 + 1 + 4), .inl (E.2.1.1, 112, .inl (fun _ => 0))), ((q1 + 1 + 5), .inl (E.2.1.1, 112, .inl (fun _ => 0))), ((q1 + 1 + 6), .inl (E.2.1.1, 112, .inl (fun _ => 0))), ((q1 + 1 + 7), .inl (E.2.1.1, 112, .inl (fun _ => 0))), ((q1 + 1 + 8), .inl (E.2.1.1, 112, .inl (fun _ => 0))), ((q1 + 1 + 9), .inl (E.2.1.1, 112, .inl (fun _ => 0))), ((q1 + 1 + 10), .inl (E.2.1.1, 112, .inl (fun _ => 0))), ((q1 + 1 + 11), .inl (E.2.1.1, 112, .inl (fun _ => 0))), ((q1 + 1 + 12), .inl (E.2.1.1, 112, .inl (fun _ => 0))), ((q1 + 1 + 13), .inl (E.2.1.1, 112, .inl (fun _ => 0))), ((q1 + 1 + 14), .inl (E.2.1.1, 112, .inl (fun _ => 0))), ((q1 + 1 + 15), .inl (E.2.1.1, 112, .inl (fun _ => 0))), ((q1 + 1 + 16), .inl (E.2.1.1, 112, .inl (fun _ => 0))), ((q1 + 1 + 17), .inl (E.2.1.1, 112, .inl (fun _ => 0))), ((q1 + 1 + 18), .inl (E.2.1.1, 112, .inl (fun _ => 0))), ((q1 + 1 + 19), .inl (E.2.1.1, 112, .inl (fun _ => 0))), ((q1 + 1 + 20), .inl (E.2.1.1, 112, .inl (fun _ => 0))), ((q1 + 1 + 21), .inl (E.2.1.1, 112, .inl (fun _ => 0))), ((q1 + 1 + 22), .inl (E.2.1.1, 112, .inl (fun _ => 0))), ((q1 + 1 + 23), .inl (E.2.1.1, 112, .inl (fun _ => 0))), ((q1 + 1 + 24), .inl (E.2.1.1, 112, .inl (fun _ => 0))), ((q1 + 1 + 25), .inl (E.2.1.1, 112, .inl (fun _ => 0))), ((q1 + 1 + 26), .inl (E.2.1.1, 112, .inl (fun _ => 0))), ((q1 + 1 + 27), .inl (E.2.1.1, 112, .inl (fun _ => 0))), ((q1 + 1 + 28), .inl (E.2.1.1, 112, .inl (fun _ => 0))), ((q1 + 1 + 29), .inl (E.2.1.1, 112, .inl (fun _ => 0)))] A s.heap H locs := hw
  exact hret (fun k => [q1].getD k 0) _ _ _ _ _ _ hw trivial (Nat.le_of_ble_eq_true rfl) (Nat.le_of_ble_eq_true rfl) dX7_init_31
set_option maxHeartbeats 4000000 in
set_option maxRecDepth 100000 in
theorem kX1_init (l : Launch) (E : EV) (h fl hs jb wt g0 g1 g2 g3 g4 g5 : Nat) : MK l E yX1_init (Cond.code yX1_init cX1_init 2 none) ({ frames := 1, cells := 1, slots := 24, locals := 12 }) [.ref h, .ref fl] [(h, .inr (1, [.null, .null, .null, .int 0])), (fl, .inr (4, [.ref hs, .ref jb, .ref wt, .ref g0, .ref g1, .ref g2, .ref g3, .ref g4, .ref g5]))] (fun _ => True) (fun q => [(h, .inr (1, [.ref fl, .ref jb, .ref (q 0), .int 0])), (fl, .inr (4, [.ref hs, .ref jb, .ref wt, .ref g0, .ref g1, .ref g2, .ref g3, .ref g4, .ref g5])), (q 0, .inl (E.2.1.1, 24, .inl (fun _ => 0)))]) 1 24 := by
  refine MK.mk (by decide +kernel) (Nat.le_of_ble_eq_true rfl) rfl ?_
  intro p e s m args below meth c ls A Q hret hC hw hl
  have hC : Ctk E p s m args meth c cX1_init 2 RX1 A := hC
  have hl : lv_has ls 2 [(0, .ref h), (1, .ref fl)] := hl
  have hw : Wk E [(h, .inr (1, [.null, .null, .null, .int 0])), (fl, .inr (4, [.ref hs, .ref jb, .ref wt, .ref g0, .ref g1, .ref g2, .ref g3, .ref g4, .ref g5]))] A s.heap s.heap [] := hw
  refine lv_aload_n hC.1 hC.2.1 dX1_init_0 rfl (lv_at hl 0 rfl) ?_
  refine k_obj hC hl.1 wk1_224 wk1_23 kw_o (Nat.le_of_ble_eq_true rfl) (Nat.le_of_ble_eq_true rfl) dX1_init_1 ?_
  refine lv_aload_n hC.1 hC.2.1 dX1_init_4 rfl (lv_at hl 0 rfl) ?_
  refine lv_bipush (v := nI 24) hC.1 hC.2.1 dX1_init_5 (by decide) ?_
  refine k_newi hC hw wk1_63 (by decide) (Nat.le_of_ble_eq_true rfl) (Nat.le_of_ble_eq_true rfl) (Nat.le_of_ble_eq_true rfl) dX1_init_7 (fun q1 H hw => ?_)
  have hw : Wk E [(h, .inr (1, [.null, .null, .null, .int 0])), (fl, .inr (4, [.ref hs, .ref jb, .ref wt, .ref g0, .ref g1, .ref g2, .ref g3, .ref g4, .ref g5])), (q1, .inl (E.2.1.1, 24, .inl (fun _ => 0)))] A s.heap H [] := hw
  refine W.widen (k := 1) (n := 24) (Nat.le_of_ble_eq_true rfl) (Nat.le_of_ble_eq_true rfl) ?_
  refine k_put (C := RX1) (T := TX1) (N := 4) (ci := 1) 0 2 tyX1 rfl rfl (by decide) wk1_227 inT1 tyX1_ok nmX1 rfl rfl rfl rfl rfl (Nat.le_of_ble_eq_true rfl) (by decide +kernel) hC hw dX1_init_9 (fun H locs hw => ?_)
  have hw : Wk E [(h, .inr (1, [.null, .null, .ref q1, .int 0])), (fl, .inr (4, [.ref hs, .ref jb, .ref wt, .ref g0, .ref g1, .ref g2, .ref g3, .ref g4, .ref g5])), (q1, .inl (E.2.1.1, 24, .inl (fun _ => 0)))] A s.heap H locs := hw
  refine lv_aload_n hC.1 hC.2.1 dX1_init_12 rfl (lv_at hl 0 rfl) ?_
  refine lv_aload_n hC.1 hC.2.1 dX1_init_13 rfl (lv_at hl 1 rfl) ?_
  refine k_put (C := RX1) (T := TX1) (N := 4) (ci := 1) 0 0 tyX1 rfl rfl (by decide) wk1_225 inT1 tyX1_ok nmX1 rfl rfl rfl rfl rfl (Nat.le_of_ble_eq_true rfl) (by decide +kernel) hC hw dX1_init_14 (fun H locs hw => ?_)
  have hw : Wk E [(h, .inr (1, [.ref fl, .null, .ref q1, .int 0])), (fl, .inr (4, [.ref hs, .ref jb, .ref wt, .ref g0, .ref g1, .ref g2, .ref g3, .ref g4, .ref g5])), (q1, .inl (E.2.1.1, 24, .inl (fun _ => 0)))] A s.heap H locs := hw
  refine lv_aload_n hC.1 hC.2.1 dX1_init_17 rfl (lv_at hl 0 rfl) ?_
  refine lv_aload_n hC.1 hC.2.1 dX1_init_18 rfl (lv_at hl 1 rfl) ?_
  refine k_get (C := RX4) (T := TX4) (N := 9) (ci := 4) (v := .ref jb) 1 1 rfl rfl (by decide) wk1_159 inT4 rfl hC hw dX1_init_19 ?_
  refine k_put (C := RX1) (T := TX1) (N := 4) (ci := 1) 0 1 tyX1 rfl rfl (by decide) wk1_226 inT1 tyX1_ok nmX1 rfl rfl rfl rfl rfl (Nat.le_of_ble_eq_true rfl) (by decide +kernel) hC hw dX1_init_22 (fun H locs hw => ?_)
  have hw : Wk E [(h, .inr (1, [.ref fl, .ref jb, .ref q1, .int 0])), (fl, .inr (4, [.ref hs, .ref jb, .ref wt, .ref g0, .ref g1, .ref g2, .ref g3, .ref g4, .ref g5])), (q1, .inl (E.2.1.1, 24, .inl (fun _ => 0)))] A s.heap H locs := hw
  exact hret (fun k => [q1].getD k 0) _ _ _ _ _ _ hw trivial (Nat.le_of_ble_eq_true rfl) (Nat.le_of_ble_eq_true rfl) dX1_init_25
set_option maxHeartbeats 4000000 in
set_option maxRecDepth 100000 in
theorem kX2_init (l : Launch) (E : EV) (h fl : Nat) : MK l E yX2_init (Cond.code yX2_init cX2_init 2 none) ({ frames := 1, cells := 4, slots := 20008, locals := 12 }) [.ref h, .ref fl] [(h, .inr (2, [.null, .null, .null, .null, .null, .int 0, .int 0, .int 0]))] (fun _ => True) (fun q => [(h, .inr (2, [.ref fl, .ref (q 0), .ref (q 1), .ref (q 2), .ref (q 3), .int 0, .int 0, .int 0])), (q 0, .inl (E.2.1.1, 4, .inl (fun _ => 0))), (q 1, .inl (E.2.1.1, 4, .inl (fun _ => 0))), (q 2, .inl (E.2.1.1, 10000, .inl (fun _ => 0))), (q 3, .inl (E.2.1.1, 10000, .inl (fun _ => 0)))]) 4 20008 := by
  refine MK.mk (by decide +kernel) (Nat.le_of_ble_eq_true rfl) rfl ?_
  intro p e s m args below meth c ls A Q hret hC hw hl
  have hC : Ctk E p s m args meth c cX2_init 2 RX2 A := hC
  have hl : lv_has ls 2 [(0, .ref h), (1, .ref fl)] := hl
  have hw : Wk E [(h, .inr (2, [.null, .null, .null, .null, .null, .int 0, .int 0, .int 0]))] A s.heap s.heap [] := hw
  refine lv_aload_n hC.1 hC.2.1 dX2_init_0 rfl (lv_at hl 0 rfl) ?_
  refine k_obj hC hl.1 wk2_5 wk1_23 kw_o (Nat.le_of_ble_eq_true rfl) (Nat.le_of_ble_eq_true rfl) dX2_init_1 ?_
  refine lv_aload_n hC.1 hC.2.1 dX2_init_4 rfl (lv_at hl 0 rfl) ?_
  refine lv_iconst (v := nI 4) hC.1 hC.2.1 dX2_init_5 (by decide) ?_
  refine k_newi hC hw wk1_63 (by decide) (Nat.le_of_ble_eq_true rfl) (Nat.le_of_ble_eq_true rfl) (Nat.le_of_ble_eq_true rfl) dX2_init_6 (fun q1 H hw => ?_)
  have hw : Wk E [(h, .inr (2, [.null, .null, .null, .null, .null, .int 0, .int 0, .int 0])), (q1, .inl (E.2.1.1, 4, .inl (fun _ => 0)))] A s.heap H [] := hw
  refine W.widen (k := 1) (n := 4) (Nat.le_of_ble_eq_true rfl) (Nat.le_of_ble_eq_true rfl) ?_
  refine k_put (C := RX2) (T := TX2) (N := 8) (ci := 2) 0 1 tyX2 rfl rfl (by decide) wk2_7 inT2 tyX2_ok nmX2 rfl rfl rfl rfl rfl (Nat.le_of_ble_eq_true rfl) (by decide +kernel) hC hw dX2_init_8 (fun H locs hw => ?_)
  have hw : Wk E [(h, .inr (2, [.null, .ref q1, .null, .null, .null, .int 0, .int 0, .int 0])), (q1, .inl (E.2.1.1, 4, .inl (fun _ => 0)))] A s.heap H locs := hw
  refine lv_aload_n hC.1 hC.2.1 dX2_init_11 rfl (lv_at hl 0 rfl) ?_
  refine lv_iconst (v := nI 4) hC.1 hC.2.1 dX2_init_12 (by decide) ?_
  refine k_newi hC hw wk1_63 (by decide) (Nat.le_of_ble_eq_true rfl) (Nat.le_of_ble_eq_true rfl) (Nat.le_of_ble_eq_true rfl) dX2_init_13 (fun q2 H hw => ?_)
  have hw : Wk E [(h, .inr (2, [.null, .ref q1, .null, .null, .null, .int 0, .int 0, .int 0])), (q1, .inl (E.2.1.1, 4, .inl (fun _ => 0))), (q2, .inl (E.2.1.1, 4, .inl (fun _ => 0)))] A s.heap H locs := hw
  refine W.widen (k := 2) (n := 8) (Nat.le_of_ble_eq_true rfl) (Nat.le_of_ble_eq_true rfl) ?_
  refine k_put (C := RX2) (T := TX2) (N := 8) (ci := 2) 0 2 tyX2 rfl rfl (by decide) wk2_9 inT2 tyX2_ok nmX2 rfl rfl rfl rfl rfl (Nat.le_of_ble_eq_true rfl) (by decide +kernel) hC hw dX2_init_15 (fun H locs hw => ?_)
  have hw : Wk E [(h, .inr (2, [.null, .ref q1, .ref q2, .null, .null, .int 0, .int 0, .int 0])), (q1, .inl (E.2.1.1, 4, .inl (fun _ => 0))), (q2, .inl (E.2.1.1, 4, .inl (fun _ => 0)))] A s.heap H locs := hw
  refine lv_aload_n hC.1 hC.2.1 dX2_init_18 rfl (lv_at hl 0 rfl) ?_
  refine lv_sipush (v := nI 10000) hC.1 hC.2.1 dX2_init_19 (by decide) ?_
  refine k_newi hC hw wk1_63 (by decide) (Nat.le_of_ble_eq_true rfl) (Nat.le_of_ble_eq_true rfl) (Nat.le_of_ble_eq_true rfl) dX2_init_22 (fun q3 H hw => ?_)
  have hw : Wk E [(h, .inr (2, [.null, .ref q1, .ref q2, .null, .null, .int 0, .int 0, .int 0])), (q1, .inl (E.2.1.1, 4, .inl (fun _ => 0))), (q2, .inl (E.2.1.1, 4, .inl (fun _ => 0))), (q3, .inl (E.2.1.1, 10000, .inl (fun _ => 0)))] A s.heap H locs := hw
  refine W.widen (k := 3) (n := 10008) (Nat.le_of_ble_eq_true rfl) (Nat.le_of_ble_eq_true rfl) ?_
  refine k_put (C := RX2) (T := TX2) (N := 8) (ci := 2) 0 3 tyX2 rfl rfl (by decide) wk2_10 inT2 tyX2_ok nmX2 rfl rfl rfl rfl rfl (Nat.le_of_ble_eq_true rfl) (by decide +kernel) hC hw dX2_init_24 (fun H locs hw => ?_)
  have hw : Wk E [(h, .inr (2, [.null, .ref q1, .ref q2, .ref q3, .null, .int 0, .int 0, .int 0])), (q1, .inl (E.2.1.1, 4, .inl (fun _ => 0))), (q2, .inl (E.2.1.1, 4, .inl (fun _ => 0))), (q3, .inl (E.2.1.1, 10000, .inl (fun _ => 0)))] A s.heap H locs := hw
  refine lv_aload_n hC.1 hC.2.1 dX2_init_27 rfl (lv_at hl 0 rfl) ?_
  refine lv_sipush (v := nI 10000) hC.1 hC.2.1 dX2_init_28 (by decide) ?_
  refine k_newi hC hw wk1_63 (by decide) (Nat.le_of_ble_eq_true rfl) (Nat.le_of_ble_eq_true rfl) (Nat.le_of_ble_eq_true rfl) dX2_init_31 (fun q4 H hw => ?_)
  have hw : Wk E [(h, .inr (2, [.null, .ref q1, .ref q2, .ref q3, .null, .int 0, .int 0, .int 0])), (q1, .inl (E.2.1.1, 4, .inl (fun _ => 0))), (q2, .inl (E.2.1.1, 4, .inl (fun _ => 0))), (q3, .inl (E.2.1.1, 10000, .inl (fun _ => 0))), (q4, .inl (E.2.1.1, 10000, .inl (fun _ => 0)))] A s.heap H locs := hw
  refine W.widen (k := 4) (n := 20008) (Nat.le_of_ble_eq_true rfl) (Nat.le_of_ble_eq_true rfl) ?_
  refine k_put (C := RX2) (T := TX2) (N := 8) (ci := 2) 0 4 tyX2 rfl rfl (by decide) wk2_13 inT2 tyX2_ok nmX2 rfl rfl rfl rfl rfl (Nat.le_of_ble_eq_true rfl) (by decide +kernel) hC hw dX2_init_33 (fun H locs hw => ?_)
  have hw : Wk E [(h, .inr (2, [.null, .ref q1, .ref q2, .ref q3, .ref q4, .int 0, .int 0, .int 0])), (q1, .inl (E.2.1.1, 4, .inl (fun _ => 0))), (q2, .inl (E.2.1.1, 4, .inl (fun _ => 0))), (q3, .inl (E.2.1.1, 10000, .inl (fun _ => 0))), (q4, .inl (E.2.1.1, 10000, .inl (fun _ => 0)))] A s.heap H locs := hw
  refine lv_aload_n hC.1 hC.2.1 dX2_init_36 rfl (lv_at hl 0 rfl) ?_
  refine lv_aload_n hC.1 hC.2.1 dX2_init_37 rfl (lv_at hl 1 rfl) ?_
  refine k_put (C := RX2) (T := TX2) (N := 8) (ci := 2) 0 0 tyX2 rfl rfl (by decide) wk2_6 inT2 tyX2_ok nmX2 rfl rfl rfl rfl rfl (Nat.le_of_ble_eq_true rfl) (by decide +kernel) hC hw dX2_init_38 (fun H locs hw => ?_)
  have hw : Wk E [(h, .inr (2, [.ref fl, .ref q1, .ref q2, .ref q3, .ref q4, .int 0, .int 0, .int 0])), (q1, .inl (E.2.1.1, 4, .inl (fun _ => 0))), (q2, .inl (E.2.1.1, 4, .inl (fun _ => 0))), (q3, .inl (E.2.1.1, 10000, .inl (fun _ => 0))), (q4, .inl (E.2.1.1, 10000, .inl (fun _ => 0)))] A s.heap H locs := hw
  exact hret (fun k => [q1, q2, q3, q4].getD k 0) _ _ _ _ _ _ hw trivial (Nat.le_of_ble_eq_true rfl) (Nat.le_of_ble_eq_true rfl) dX2_init_41
set_option maxHeartbeats 4000000 in
set_option maxRecDepth 100000 in
theorem kX3_init (l : Launch) (E : EV) (h fl hs jb wt g0 g1 g2 g3 g4 g5 cr : Nat) : MK l E yX3_init (Cond.code yX3_init cX3_init 3 none) ({ frames := 1, cells := 0, slots := 0, locals := 12 }) [.ref h, .ref fl, .ref cr] [(h, .inr (3, [.null, .null, .null, .null])), (fl, .inr (4, [.ref hs, .ref jb, .ref wt, .ref g0, .ref g1, .ref g2, .ref g3, .ref g4, .ref g5]))] (fun _ => True) (fun _ => [(h, .inr (3, [.ref fl, .ref hs, .ref jb, .ref cr])), (fl, .inr (4, [.ref hs, .ref jb, .ref wt, .ref g0, .ref g1, .ref g2, .ref g3, .ref g4, .ref g5]))]) 0 0 := by
  refine MK.mk (by decide +kernel) (Nat.le_of_ble_eq_true rfl) rfl ?_
  intro p e s m args below meth c ls A Q hret hC hw hl
  have hC : Ctk E p s m args meth c cX3_init 3 RX3 A := hC
  have hl : lv_has ls 3 [(0, .ref h), (1, .ref fl), (2, .ref cr)] := hl
  have hw : Wk E [(h, .inr (3, [.null, .null, .null, .null])), (fl, .inr (4, [.ref hs, .ref jb, .ref wt, .ref g0, .ref g1, .ref g2, .ref g3, .ref g4, .ref g5]))] A s.heap s.heap [] := hw
  refine lv_aload_n hC.1 hC.2.1 dX3_init_0 rfl (lv_at hl 0 rfl) ?_
  refine k_obj hC hl.1 wk2_42 wk1_23 kw_o (Nat.le_of_ble_eq_true rfl) (Nat.le_of_ble_eq_true rfl) dX3_init_1 ?_
  refine lv_aload_n hC.1 hC.2.1 dX3_init_4 rfl (lv_at hl 0 rfl) ?_
  refine lv_aload_n hC.1 hC.2.1 dX3_init_5 rfl (lv_at hl 1 rfl) ?_
  refine k_put (C := RX3) (T := TX3) (N := 4) (ci := 3) 0 0 tyX3 rfl rfl (by decide) wk2_43 inT3 tyX3_ok nmX3 rfl rfl rfl rfl rfl (Nat.le_of_ble_eq_true rfl) (by decide +kernel) hC hw dX3_init_6 (fun H locs hw => ?_)
  have hw : Wk E [(h, .inr (3, [.ref fl, .null, .null, .null])), (fl, .inr (4, [.ref hs, .ref jb, .ref wt, .ref g0, .ref g1, .ref g2, .ref g3, .ref g4, .ref g5]))] A s.heap H locs := hw
  refine lv_aload_n hC.1 hC.2.1 dX3_init_9 rfl (lv_at hl 0 rfl) ?_
  refine lv_aload_n hC.1 hC.2.1 dX3_init_10 rfl (lv_at hl 1 rfl) ?_
  refine k_get (C := RX4) (T := TX4) (N := 9) (ci := 4) (v := .ref hs) 1 0 rfl rfl (by decide) wk1_152 inT4 rfl hC hw dX3_init_11 ?_
  refine k_put (C := RX3) (T := TX3) (N := 4) (ci := 3) 0 1 tyX3 rfl rfl (by decide) wk2_44 inT3 tyX3_ok nmX3 rfl rfl rfl rfl rfl (Nat.le_of_ble_eq_true rfl) (by decide +kernel) hC hw dX3_init_14 (fun H locs hw => ?_)
  have hw : Wk E [(h, .inr (3, [.ref fl, .ref hs, .null, .null])), (fl, .inr (4, [.ref hs, .ref jb, .ref wt, .ref g0, .ref g1, .ref g2, .ref g3, .ref g4, .ref g5]))] A s.heap H locs := hw
  refine lv_aload_n hC.1 hC.2.1 dX3_init_17 rfl (lv_at hl 0 rfl) ?_
  refine lv_aload_n hC.1 hC.2.1 dX3_init_18 rfl (lv_at hl 1 rfl) ?_
  refine k_get (C := RX4) (T := TX4) (N := 9) (ci := 4) (v := .ref jb) 1 1 rfl rfl (by decide) wk1_160 inT4 rfl hC hw dX3_init_19 ?_
  refine k_put (C := RX3) (T := TX3) (N := 4) (ci := 3) 0 2 tyX3 rfl rfl (by decide) wk2_45 inT3 tyX3_ok nmX3 rfl rfl rfl rfl rfl (Nat.le_of_ble_eq_true rfl) (by decide +kernel) hC hw dX3_init_22 (fun H locs hw => ?_)
  have hw : Wk E [(h, .inr (3, [.ref fl, .ref hs, .ref jb, .null])), (fl, .inr (4, [.ref hs, .ref jb, .ref wt, .ref g0, .ref g1, .ref g2, .ref g3, .ref g4, .ref g5]))] A s.heap H locs := hw
  refine lv_aload_n hC.1 hC.2.1 dX3_init_25 rfl (lv_at hl 0 rfl) ?_
  refine lv_aload_n hC.1 hC.2.1 dX3_init_26 rfl (lv_at hl 2 rfl) ?_
  refine k_put (C := RX3) (T := TX3) (N := 4) (ci := 3) 0 3 tyX3 rfl rfl (by decide) wk2_46 inT3 tyX3_ok nmX3 rfl rfl rfl rfl rfl (Nat.le_of_ble_eq_true rfl) (by decide +kernel) hC hw dX3_init_27 (fun H locs hw => ?_)
  have hw : Wk E [(h, .inr (3, [.ref fl, .ref hs, .ref jb, .ref cr])), (fl, .inr (4, [.ref hs, .ref jb, .ref wt, .ref g0, .ref g1, .ref g2, .ref g3, .ref g4, .ref g5]))] A s.heap H locs := hw
  exact hret (fun k => [0].getD k 0) _ _ _ _ _ _ hw trivial (Nat.le_of_ble_eq_true rfl) (Nat.le_of_ble_eq_true rfl) dX3_init_30
set_option maxHeartbeats 4000000 in
set_option maxRecDepth 100000 in
theorem kX8_init (l : Launch) (E : EV) (h fl hs jb wt g0 g1 g2 g3 g4 g5 cr : Nat) : MK l E yX8_init (Cond.code yX8_init cX8_init 3 none) ({ frames := 1, cells := 2, slots := 16, locals := 12 }) [.ref h, .ref fl, .ref cr] [(h, .inr (8, [.null, .null, .null, .null, .null, .int 0])), (fl, .inr (4, [.ref hs, .ref jb, .ref wt, .ref g0, .ref g1, .ref g2, .ref g3, .ref g4, .ref g5]))] (fun _ => True) (fun q => [(h, .inr (8, [.ref fl, .ref jb, .ref cr, .ref (q 0), .ref (q 1), .int 0])), (fl, .inr (4, [.ref hs, .ref jb, .ref wt, .ref g0, .ref g1, .ref g2, .ref g3, .ref g4, .ref g5])), (q 0, .inl (E.2.1.1, 8, .inl (fun _ => 0))), (q 1, .inl (E.2.1.1, 8, .inl (fun _ => 0)))]) 2 16 := by
  refine MK.mk (by decide +kernel) (Nat.le_of_ble_eq_true rfl) rfl ?_
  intro p e s m args below meth c ls A Q hret hC hw hl
  have hC : Ctk E p s m args meth c cX8_init 3 RX8 A := hC
  have hl : lv_has ls 3 [(0, .ref h), (1, .ref fl), (2, .ref cr)] := hl
  have hw : Wk E [(h, .inr (8, [.null, .null, .null, .null, .null, .int 0])), (fl, .inr (4, [.ref hs, .ref jb, .ref wt, .ref g0, .ref g1, .ref g2, .ref g3, .ref g4, .ref g5]))] A s.heap s.heap [] := hw
  refine lv_aload_n hC.1 hC.2.1 dX8_init_0 rfl (lv_at hl 0 rfl) ?_
  refine k_obj hC hl.1 wk2_61 wk1_23 kw_o (Nat.le_of_ble_eq_true rfl) (Nat.le_of_ble_eq_true rfl) dX8_init_1 ?_
  refine lv_aload_n hC.1 hC.2.1 dX8_init_4 rfl (lv_at hl 0 rfl) ?_
  refine lv_bipush (v := nI 8) hC.1 hC.2.1 dX8_init_5 (by decide) ?_
  refine k_newi hC hw wk1_63 (by decide) (Nat.le_of_ble_eq_true rfl) (Nat.le_of_ble_eq_true rfl) (Nat.le_of_ble_eq_true rfl) dX8_init_7 (fun q1 H hw => ?_)
  have hw : Wk E [(h, .inr (8, [.null, .null, .null, .null, .null, .int 0])), (fl, .inr (4, [.ref hs, .ref jb, .ref wt, .ref g0, .ref g1, .ref g2, .ref g3, .ref g4, .ref g5])), (q1, .inl (E.2.1.1, 8, .inl (fun _ => 0)))] A s.heap H [] := hw
  refine W.widen (k := 1) (n := 8) (Nat.le_of_ble_eq_true rfl) (Nat.le_of_ble_eq_true rfl) ?_
  refine k_put (C := RX8) (T := TX8) (N := 6) (ci := 8) 0 3 tyX8 rfl rfl (by decide) wk2_65 inT8 tyX8_ok nmX8 rfl rfl rfl rfl rfl (Nat.le_of_ble_eq_true rfl) (by decide +kernel) hC hw dX8_init_9 (fun H locs hw => ?_)
  have hw : Wk E [(h, .inr (8, [.null, .null, .null, .ref q1, .null, .int 0])), (fl, .inr (4, [.ref hs, .ref jb, .ref wt, .ref g0, .ref g1, .ref g2, .ref g3, .ref g4, .ref g5])), (q1, .inl (E.2.1.1, 8, .inl (fun _ => 0)))] A s.heap H locs := hw
  refine lv_aload_n hC.1 hC.2.1 dX8_init_12 rfl (lv_at hl 0 rfl) ?_
  refine lv_bipush (v := nI 8) hC.1 hC.2.1 dX8_init_13 (by decide) ?_
  refine k_newi hC hw wk1_63 (by decide) (Nat.le_of_ble_eq_true rfl) (Nat.le_of_ble_eq_true rfl) (Nat.le_of_ble_eq_true rfl) dX8_init_15 (fun q2 H hw => ?_)
  have hw : Wk E [(h, .inr (8, [.null, .null, .null, .ref q1, .null, .int 0])), (fl, .inr (4, [.ref hs, .ref jb, .ref wt, .ref g0, .ref g1, .ref g2, .ref g3, .ref g4, .ref g5])), (q1, .inl (E.2.1.1, 8, .inl (fun _ => 0))), (q2, .inl (E.2.1.1, 8, .inl (fun _ => 0)))] A s.heap H locs := hw
  refine W.widen (k := 2) (n := 16) (Nat.le_of_ble_eq_true rfl) (Nat.le_of_ble_eq_true rfl) ?_
  refine k_put (C := RX8) (T := TX8) (N := 6) (ci := 8) 0 4 tyX8 rfl rfl (by decide) wk2_67 inT8 tyX8_ok nmX8 rfl rfl rfl rfl rfl (Nat.le_of_ble_eq_true rfl) (by decide +kernel) hC hw dX8_init_17 (fun H locs hw => ?_)
  have hw : Wk E [(h, .inr (8, [.null, .null, .null, .ref q1, .ref q2, .int 0])), (fl, .inr (4, [.ref hs, .ref jb, .ref wt, .ref g0, .ref g1, .ref g2, .ref g3, .ref g4, .ref g5])), (q1, .inl (E.2.1.1, 8, .inl (fun _ => 0))), (q2, .inl (E.2.1.1, 8, .inl (fun _ => 0)))] A s.heap H locs := hw
  refine lv_aload_n hC.1 hC.2.1 dX8_init_20 rfl (lv_at hl 0 rfl) ?_
  refine lv_aload_n hC.1 hC.2.1 dX8_init_21 rfl (lv_at hl 1 rfl) ?_
  refine k_put (C := RX8) (T := TX8) (N := 6) (ci := 8) 0 0 tyX8 rfl rfl (by decide) wk2_62 inT8 tyX8_ok nmX8 rfl rfl rfl rfl rfl (Nat.le_of_ble_eq_true rfl) (by decide +kernel) hC hw dX8_init_22 (fun H locs hw => ?_)
  have hw : Wk E [(h, .inr (8, [.ref fl, .null, .null, .ref q1, .ref q2, .int 0])), (fl, .inr (4, [.ref hs, .ref jb, .ref wt, .ref g0, .ref g1, .ref g2, .ref g3, .ref g4, .ref g5])), (q1, .inl (E.2.1.1, 8, .inl (fun _ => 0))), (q2, .inl (E.2.1.1, 8, .inl (fun _ => 0)))] A s.heap H locs := hw
  refine lv_aload_n hC.1 hC.2.1 dX8_init_25 rfl (lv_at hl 0 rfl) ?_
  refine lv_aload_n hC.1 hC.2.1 dX8_init_26 rfl (lv_at hl 1 rfl) ?_
  refine k_get (C := RX4) (T := TX4) (N := 9) (ci := 4) (v := .ref jb) 1 1 rfl rfl (by decide) wk1_162 inT4 rfl hC hw dX8_init_27 ?_
  refine k_put (C := RX8) (T := TX8) (N := 6) (ci := 8) 0 1 tyX8 rfl rfl (by decide) wk2_63 inT8 tyX8_ok nmX8 rfl rfl rfl rfl rfl (Nat.le_of_ble_eq_true rfl) (by decide +kernel) hC hw dX8_init_30 (fun H locs hw => ?_)
  have hw : Wk E [(h, .inr (8, [.ref fl, .ref jb, .null, .ref q1, .ref q2, .int 0])), (fl, .inr (4, [.ref hs, .ref jb, .ref wt, .ref g0, .ref g1, .ref g2, .ref g3, .ref g4, .ref g5])), (q1, .inl (E.2.1.1, 8, .inl (fun _ => 0))), (q2, .inl (E.2.1.1, 8, .inl (fun _ => 0)))] A s.heap H locs := hw
  refine lv_aload_n hC.1 hC.2.1 dX8_init_33 rfl (lv_at hl 0 rfl) ?_
  refine lv_aload_n hC.1 hC.2.1 dX8_init_34 rfl (lv_at hl 2 rfl) ?_
  refine k_put (C := RX8) (T := TX8) (N := 6) (ci := 8) 0 2 tyX8 rfl rfl (by decide) wk2_64 inT8 tyX8_ok nmX8 rfl rfl rfl rfl rfl (Nat.le_of_ble_eq_true rfl) (by decide +kernel) hC hw dX8_init_35 (fun H locs hw => ?_)
  have hw : Wk E [(h, .inr (8, [.ref fl, .ref jb, .ref cr, .ref q1, .ref q2, .int 0])), (fl, .inr (4, [.ref hs, .ref jb, .ref wt, .ref g0, .ref g1, .ref g2, .ref g3, .ref g4, .ref g5])), (q1, .inl (E.2.1.1, 8, .inl (fun _ => 0))), (q2, .inl (E.2.1.1, 8, .inl (fun _ => 0)))] A s.heap H locs := hw
  exact hret (fun k => [q1, q2].getD k 0) _ _ _ _ _ _ hw trivial (Nat.le_of_ble_eq_true rfl) (Nat.le_of_ble_eq_true rfl) dX8_init_38
set_option maxHeartbeats 4000000 in
set_option maxRecDepth 100000 in
theorem kX9_init (l : Launch) (E : EV) (h fl hs jb wt g0 g1 g2 g3 g4 g5 : Nat) : MK l E yX9_init (Cond.code yX9_init cX9_init 2 none) ({ frames := 1, cells := 1, slots := 5, locals := 12 }) [.ref h, .ref fl] [(h, .inr (9, [.null, .null, .null, .int 0, .int 0])), (fl, .inr (4, [.ref hs, .ref jb, .ref wt, .ref g0, .ref g1, .ref g2, .ref g3, .ref g4, .ref g5]))] (fun _ => True) (fun q => [(h, .inr (9, [.ref fl, .ref jb, .ref (q 0), .int 0, .int 0])), (fl, .inr (4, [.ref hs, .ref jb, .ref wt, .ref g0, .ref g1, .ref g2, .ref g3, .ref g4, .ref g5])), (q 0, .inl (E.2.1.1, 5, .inl (fun _ => 0)))]) 1 5 := by
  refine MK.mk (by decide +kernel) (Nat.le_of_ble_eq_true rfl) rfl ?_
  intro p e s m args below meth c ls A Q hret hC hw hl
  have hC : Ctk E p s m args meth c cX9_init 2 RX9 A := hC
  have hl : lv_has ls 2 [(0, .ref h), (1, .ref fl)] := hl
  have hw : Wk E [(h, .inr (9, [.null, .null, .null, .int 0, .int 0])), (fl, .inr (4, [.ref hs, .ref jb, .ref wt, .ref g0, .ref g1, .ref g2, .ref g3, .ref g4, .ref g5]))] A s.heap s.heap [] := hw
  refine lv_aload_n hC.1 hC.2.1 dX9_init_0 rfl (lv_at hl 0 rfl) ?_
  refine k_obj hC hl.1 wk2_89 wk1_23 kw_o (Nat.le_of_ble_eq_true rfl) (Nat.le_of_ble_eq_true rfl) dX9_init_1 ?_
  refine lv_aload_n hC.1 hC.2.1 dX9_init_4 rfl (lv_at hl 0 rfl) ?_
  refine lv_iconst (v := nI 5) hC.1 hC.2.1 dX9_init_5 (by decide) ?_
  refine k_newi hC hw wk1_63 (by decide) (Nat.le_of_ble_eq_true rfl) (Nat.le_of_ble_eq_true rfl) (Nat.le_of_ble_eq_true rfl) dX9_init_6 (fun q1 H hw => ?_)
  have hw : Wk E [(h, .inr (9, [.null, .null, .null, .int 0, .int 0])), (fl, .inr (4, [.ref hs, .ref jb, .ref wt, .ref g0, .ref g1, .ref g2, .ref g3, .ref g4, .ref g5])), (q1, .inl (E.2.1.1, 5, .inl (fun _ => 0)))] A s.heap H [] := hw
  refine W.widen (k := 1) (n := 5) (Nat.le_of_ble_eq_true rfl) (Nat.le_of_ble_eq_true rfl) ?_
  refine k_put (C := RX9) (T := TX9) (N := 5) (ci := 9) 0 2 tyX9 rfl rfl (by decide) wk2_92 inT9 tyX9_ok nmX9 rfl rfl rfl rfl rfl (Nat.le_of_ble_eq_true rfl) (by decide +kernel) hC hw dX9_init_8 (fun H locs hw => ?_)
  have hw : Wk E [(h, .inr (9, [.null, .null, .ref q1, .int 0, .int 0])), (fl, .inr (4, [.ref hs, .ref jb, .ref wt, .ref g0, .ref g1, .ref g2, .ref g3, .ref g4, .ref g5])), (q1, .inl (E.2.1.1, 5, .inl (fun _ => 0)))] A s.heap H locs := hw
  refine lv_aload_n hC.1 hC.2.1 dX9_init_11 rfl (lv_at hl 0 rfl) ?_
  refine lv_aload_n hC.1 hC.2.1 dX9_init_12 rfl (lv_at hl 1 rfl) ?_
  refine k_put (C := RX9) (T := TX9) (N := 5) (ci := 9) 0 0 tyX9 rfl rfl (by decide) wk2_90 inT9 tyX9_ok nmX9 rfl rfl rfl rfl rfl (Nat.le_of_ble_eq_true rfl) (by decide +kernel) hC hw dX9_init_13 (fun H locs hw => ?_)
  have hw : Wk E [(h, .inr (9, [.ref fl, .null, .ref q1, .int 0, .int 0])), (fl, .inr (4, [.ref hs, .ref jb, .ref wt, .ref g0, .ref g1, .ref g2, .ref g3, .ref g4, .ref g5])), (q1, .inl (E.2.1.1, 5, .inl (fun _ => 0)))] A s.heap H locs := hw
  refine lv_aload_n hC.1 hC.2.1 dX9_init_16 rfl (lv_at hl 0 rfl) ?_
  refine lv_aload_n hC.1 hC.2.1 dX9_init_17 rfl (lv_at hl 1 rfl) ?_
  refine k_get (C := RX4) (T := TX4) (N := 9) (ci := 4) (v := .ref jb) 1 1 rfl rfl (by decide) wk1_158 inT4 rfl hC hw dX9_init_18 ?_
  refine k_put (C := RX9) (T := TX9) (N := 5) (ci := 9) 0 1 tyX9 rfl rfl (by decide) wk2_91 inT9 tyX9_ok nmX9 rfl rfl rfl rfl rfl (Nat.le_of_ble_eq_true rfl) (by decide +kernel) hC hw dX9_init_21 (fun H locs hw => ?_)
  have hw : Wk E [(h, .inr (9, [.ref fl, .ref jb, .ref q1, .int 0, .int 0])), (fl, .inr (4, [.ref hs, .ref jb, .ref wt, .ref g0, .ref g1, .ref g2, .ref g3, .ref g4, .ref g5])), (q1, .inl (E.2.1.1, 5, .inl (fun _ => 0)))] A s.heap H locs := hw
  exact hret (fun k => [q1].getD k 0) _ _ _ _ _ _ hw trivial (Nat.le_of_ble_eq_true rfl) (Nat.le_of_ble_eq_true rfl) dX9_init_24
set_option maxHeartbeats 4000000 in
set_option maxRecDepth 100000 in
theorem kX0_init (l : Launch) (E : EV) (h fl hs jb wt g0 g1 g2 g3 g4 g5 : Nat) : MK l E yX0_init (Cond.code yX0_init cX0_init 2 none) ({ frames := 1, cells := 0, slots := 0, locals := 12 }) [.ref h, .ref fl] [(h, .inr (0, [.null, .null, .null, .int 0, .int 0, .int 0, .int 0])), (fl, .inr (4, [.ref hs, .ref jb, .ref wt, .ref g0, .ref g1, .ref g2, .ref g3, .ref g4, .ref g5]))] (fun _ => True) (fun _ => [(h, .inr (0, [.ref fl, .ref hs, .ref jb, .int 0, .int 0, .int 0, .int 0])), (fl, .inr (4, [.ref hs, .ref jb, .ref wt, .ref g0, .ref g1, .ref g2, .ref g3, .ref g4, .ref g5]))]) 0 0 := by
  refine MK.mk (by decide +kernel) (Nat.le_of_ble_eq_true rfl) rfl ?_
  intro p e s m args below meth c ls A Q hret hC hw hl
  have hC : Ctk E p s m args meth c cX0_init 2 RX0 A := hC
  have hl : lv_has ls 2 [(0, .ref h), (1, .ref fl)] := hl
  have hw : Wk E [(h, .inr (0, [.null, .null, .null, .int 0, .int 0, .int 0, .int 0])), (fl, .inr (4, [.ref hs, .ref jb, .ref wt, .ref g0, .ref g1, .ref g2, .ref g3, .ref g4, .ref g5]))] A s.heap s.heap [] := hw
  refine lv_aload_n hC.1 hC.2.1 dX0_init_0 rfl (lv_at hl 0 rfl) ?_
  refine k_obj hC hl.1 wk2_111 wk1_23 kw_o (Nat.le_of_ble_eq_true rfl) (Nat.le_of_ble_eq_true rfl) dX0_init_1 ?_
  refine lv_aload_n hC.1 hC.2.1 dX0_init_4 rfl (lv_at hl 0 rfl) ?_
  refine lv_aload_n hC.1 hC.2.1 dX0_init_5 rfl (lv_at hl 1 rfl) ?_
  refine k_put (C := RX0) (T := TX0) (N := 7) (ci := 0) 0 0 tyX0 rfl rfl (by decide) wk2_112 inT0 tyX0_ok nmX0 rfl rfl rfl rfl rfl (Nat.le_of_ble_eq_true rfl) (by decide +kernel) hC hw dX0_init_6 (fun H locs hw => ?_)
  have hw : Wk E [(h, .inr (0, [.ref fl, .null, .null, .int 0, .int 0, .int 0, .int 0])), (fl, .inr (4, [.ref hs, .ref jb, .ref wt, .ref g0, .ref g1, .ref g2, .ref g3, .ref g4, .ref g5]))] A s.heap H locs := hw
  refine lv_aload_n hC.1 hC.2.1 dX0_init_9 rfl (lv_at hl 0 rfl) ?_
  refine lv_aload_n hC.1 hC.2.1 dX0_init_10 rfl (lv_at hl 1 rfl) ?_
  refine k_get (C := RX4) (T := TX4) (N := 9) (ci := 4) (v := .ref hs) 1 0 rfl rfl (by decide) wk1_153 inT4 rfl hC hw dX0_init_11 ?_
  refine k_put (C := RX0) (T := TX0) (N := 7) (ci := 0) 0 1 tyX0 rfl rfl (by decide) wk2_113 inT0 tyX0_ok nmX0 rfl rfl rfl rfl rfl (Nat.le_of_ble_eq_true rfl) (by decide +kernel) hC hw dX0_init_14 (fun H locs hw => ?_)
  have hw : Wk E [(h, .inr (0, [.ref fl, .ref hs, .null, .int 0, .int 0, .int 0, .int 0])), (fl, .inr (4, [.ref hs, .ref jb, .ref wt, .ref g0, .ref g1, .ref g2, .ref g3, .ref g4, .ref g5]))] A s.heap H locs := hw
  refine lv_aload_n hC.1 hC.2.1 dX0_init_17 rfl (lv_at hl 0 rfl) ?_
  refine lv_aload_n hC.1 hC.2.1 dX0_init_18 rfl (lv_at hl 1 rfl) ?_
  refine k_get (C := RX4) (T := TX4) (N := 9) (ci := 4) (v := .ref jb) 1 1 rfl rfl (by decide) wk1_161 inT4 rfl hC hw dX0_init_19 ?_
  refine k_put (C := RX0) (T := TX0) (N := 7) (ci := 0) 0 2 tyX0 rfl rfl (by decide) wk2_114 inT0 tyX0_ok nmX0 rfl rfl rfl rfl rfl (Nat.le_of_ble_eq_true rfl) (by decide +kernel) hC hw dX0_init_22 (fun H locs hw => ?_)
  have hw : Wk E [(h, .inr (0, [.ref fl, .ref hs, .ref jb, .int 0, .int 0, .int 0, .int 0])), (fl, .inr (4, [.ref hs, .ref jb, .ref wt, .ref g0, .ref g1, .ref g2, .ref g3, .ref g4, .ref g5]))] A s.heap H locs := hw
  exact hret (fun k => [0].getD k 0) _ _ _ _ _ _ hw trivial (Nat.le_of_ble_eq_true rfl) (Nat.le_of_ble_eq_true rfl) dX0_init_25
