set_option maxHeartbeats 4000000 in
set_option maxRecDepth 100000 in
/-- what the Statement gives of classes, arrays, the constant POWERS -/
theorem ev_ex {s : State} {args : Array Value} (hts0 : ∀ w ∈ lw_tbl, w.before args s = true) (hgv : (Cond.and given_1 narrow_1).before args s = true) : ∃ E : EV, ev_C E s ∧ ev_S E (fun q => s.heap.size ≤ q) s s.heap := by
  have hts : ∀ w ∈ tw, w.before args s = true := fun w hw => hts0 w (List.mem_filter.mp hw).1
  obtain ⟨cX0, iX0, hX0⟩ := u_known (C := RX0) (T := TX0) (N := 7) hts inT0 (hts _ wk2_107)
  obtain ⟨cX1, iX1, hX1⟩ := u_known (C := RX1) (T := TX1) (N := 4) hts inT1 (hts _ wk1_220)
  obtain ⟨cX2, iX2, hX2⟩ := u_known (C := RX2) (T := TX2) (N := 8) hts inT2 (hts _ wk2_1)
  obtain ⟨cX3, iX3, hX3⟩ := u_known (C := RX3) (T := TX3) (N := 4) hts inT3 (hts _ wk2_38)
  obtain ⟨cX4, iX4, hX4⟩ := u_known (C := RX4) (T := TX4) (N := 9) hts inT4 (hts _ wk1_147)
  obtain ⟨cX5, iX5, hX5⟩ := u_known (C := RX5) (T := TX5) (N := 5) hts inT5 (hts _ wk1_26)
  obtain ⟨cX6, iX6, hX6⟩ := u_known (C := RX6) (T := TX6) (N := 12) hts inT6 (hts _ wk1_66)
  obtain ⟨cX7, iX7, hX7⟩ := u_known (C := RX7) (T := TX7) (N := 6) hts inT7 (hts _ wk1_192)
  obtain ⟨cX8, iX8, hX8⟩ := u_known (C := RX8) (T := TX8) (N := 6) hts inT8 (hts _ wk2_57)
  obtain ⟨cX9, iX9, hX9⟩ := u_known (C := RX9) (T := TX9) (N := 5) hts inT9 (hts _ wk2_85)
  obtain ⟨cX10, iX10, hX10⟩ := u_known (C := RX10) (T := TX10) (N := 11) hts inT10 (hts _ wk1_18)
  obtain ⟨cX11, iX11, hX11⟩ := u_known (C := RX11) (T := TX11) (N := 20) hts inT11 (hts _ wk4_98)
  have hk : ∀ k : Nat, ∃ z : ClassId × (Nat → Nat), ∀ q, vwCl[k]? = some q → u_Kn s q.1 q.2.1 q.2.2 z.1 z.2 := by
    intro k
    match k with
    | 0 => exact ⟨(cX0, iX0), fun q hq => by cases hq; exact hX0⟩
    | 1 => exact ⟨(cX1, iX1), fun q hq => by cases hq; exact hX1⟩
    | 2 => exact ⟨(cX2, iX2), fun q hq => by cases hq; exact hX2⟩
    | 3 => exact ⟨(cX3, iX3), fun q hq => by cases hq; exact hX3⟩
    | 4 => exact ⟨(cX4, iX4), fun q hq => by cases hq; exact hX4⟩
    | 5 => exact ⟨(cX5, iX5), fun q hq => by cases hq; exact hX5⟩
    | 6 => exact ⟨(cX6, iX6), fun q hq => by cases hq; exact hX6⟩
    | 7 => exact ⟨(cX7, iX7), fun q hq => by cases hq; exact hX7⟩
    | 8 => exact ⟨(cX8, iX8), fun q hq => by cases hq; exact hX8⟩
    | 9 => exact ⟨(cX9, iX9), fun q hq => by cases hq; exact hX9⟩
    | 10 => exact ⟨(cX10, iX10), fun q hq => by cases hq; exact hX10⟩
    | 11 => exact ⟨(cX11, iX11), fun q hq => by cases hq; exact hX11⟩
    | k + 12 => exact ⟨(cX0, iX0), fun q hq => by simp [vwCl] at hq⟩
  obtain ⟨f, hf⟩ := Classical.axiomOfChoice hk
  obtain ⟨cI, kI, ci, hcI, hkI, hkindI⟩ := Cond.arrayClass_spec (hts _ wk1_63)
  obtain ⟨cZ, kZ, cz, hcZ, hkZ, hkindZ⟩ := Cond.arrayClass_spec (hts _ wk1_64)
  have hover : (Cond.arrayOver (.array .int)).before args s = true := hts0 _ (List.mem_append_right _ (show _ ∈ tables_1 from List.mem_append_left _ (List.mem_of_getElem? (i := 198) rfl)))
  obtain ⟨comp, cO, kO, hcomp, -, hkO, hkindO, hnameO⟩ := arrayOverA_spec hover
  have hs := flat_of_before _ hgv
  have hA : ∀ a : Nat, a < s.heap.size → ¬ (fun q : Nat => s.heap.size ≤ q) a := fun a ha => Nat.not_le.mpr ha
  have hel : ∀ j : Nat, j < 5 → (Term.elem (.static "HostPacker$Crew" "POWERS" "[I") (.int (Int32.ofNat j))).eval args s none [] s = some (.int (pwv j)) := by
    intro j hj
    rcases (show j = 0 ∨ j = 1 ∨ j = 2 ∨ j = 3 ∨ j = 4 by omega) with rfl | rfl | rfl | rfl | rfl
    · exact va_eqt (t := .elem (.static "HostPacker$Crew" "POWERS" "[I") (.int 0)) (z := 1) (hs _ (by decide +kernel))
    · exact va_eqt (t := .elem (.static "HostPacker$Crew" "POWERS" "[I") (.int 1)) (z := 10) (hs _ (by decide +kernel))
    · exact va_eqt (t := .elem (.static "HostPacker$Crew" "POWERS" "[I") (.int 2)) (z := 100) (hs _ (by decide +kernel))
    · exact va_eqt (t := .elem (.static "HostPacker$Crew" "POWERS" "[I") (.int 3)) (z := 1000) (hs _ (by decide +kernel))
    · exact va_eqt (t := .elem (.static "HostPacker$Crew" "POWERS" "[I") (.int 4)) (z := 10000) (hs _ (by decide +kernel))
  obtain ⟨t, ht, hT⟩ := va_Tof (args := args) (s := s) (tm := .static "HostPacker$Crew" "POWERS" "[I") (ty := .int) (N := 5) (f := fun j => .int (pwv j)) (A := fun q => s.heap.size ≤ q) (by decide) (hs _ (by decide +kernel)) (va_eqt (t := .length (.static "HostPacker$Crew" "POWERS" "[I")) (z := 5) (hs _ (by decide +kernel))) hel hA
  refine ⟨((fun k => (f k).1, fun k => (f k).2), (cI, cZ, cO), t), ⟨⟨⟨fun c q hq => hf c q hq, fun k q hq => ?_⟩, va_Nw.of rfl (hts0 _ (List.mem_append_right _ (show _ ∈ tables_1 from List.mem_append_right _ (List.mem_append_right _ (List.mem_append_left _ (List.mem_of_getElem? (i := 160) rfl)))))), va_Nw.of rfl (hts0 _ (List.mem_append_right _ (show _ ∈ tables_1 from List.mem_append_right _ (List.mem_append_right _ (List.mem_append_left _ (List.mem_of_getElem? (i := 234) rfl)))))), va_Nw.of rfl (hts0 _ (List.mem_append_right _ (show _ ∈ tables_1 from List.mem_append_right _ (List.mem_append_right _ (List.mem_append_left _ (List.mem_of_getElem? (i := 229) rfl))))))⟩, va_Nw.of rfl (hts0 _ (List.mem_append_right _ (show _ ∈ tables_1 from List.mem_append_left _ (List.mem_of_getElem? (i := 27) rfl)))), va_Nw.of rfl (hts0 _ (List.mem_append_right _ (show _ ∈ tables_1 from List.mem_append_left _ (List.mem_of_getElem? (i := 67) rfl)))), va_AOA.of hover⟩, va_Zref (hts0 _ (List.mem_append_right _ (show _ ∈ tables_1 from List.mem_append_right _ (List.mem_append_right _ (List.mem_append_left _ (List.mem_of_getElem? (i := 170) rfl)))))) (hts _ wk1_7) ht hA, hT⟩
  match k, hq with
  | 0, hq => cases hq; exact ⟨fun n z => ⟨fun q hq => (by cases hq), kI, hkI, ci, hkindI⟩, hcI⟩
  | 1, hq => cases hq; exact ⟨fun n z => ⟨fun q hq => (by cases hq), kZ, hkZ, cz, hkindZ⟩, hcZ⟩
  | 2, hq => cases hq; exact ⟨fun n z => ⟨fun q hq => (by cases hq), kO, hkO, comp, hkindO⟩, hnameO⟩
  | k + 3, hq => simp [ev_t] at hq
theorem law_i9 {i L : Nat} (hL : L ≤ 4608) (hi : i ≤ L) (h : ¬ nI L - nI 9 < nI i) : i + 9 ≤ L := by
  rw [Int32.lt_iff_toInt_lt, pk_sub_toInt (by omega) (by omega), nI_toInt (by omega)] at h
  omega
set_option maxHeartbeats 4000000 in
set_option maxRecDepth 100000 in
theorem law_loop {p : Program} {l : Launch} {e : Env} {s : State} {m : MethodId} {below : List Frame} {meth : Method} {c : Code} {cells slots : Nat} {E : EV} {a a' : Nat → Nat} {b L : Nat} {xs : Nat → Int32} (hC : Cxt E p s m #[.ref b] meth c cL_law 4 ret R_law (fun q => s.heap.size ≤ q)) (hX : va_X b L xs s s.heap) (hbl : b < s.heap.size) (hL : L ≤ 4608) (hcs : cells ≤ room_1.cells ∧ slots ≤ room_1.slots) :
    ∀ (n i : Nat) (σ τ : St) (T : Nat) (H : Heap) (locs : List Loc) (ls : Array Slot), i ≤ L → L + 10 ≤ i + n → T ≤ 24 * i → INVx σ τ T → Wk E (XW E a σ ++ MW E a' τ) (fun q => s.heap.size ≤ q) s.heap H locs → lv_has ls 4 [(0, .ref b), (1, .ref (a 71)), (2, .ref (a' 70)), (3, .int (nI i))] → W p l e room_1 s m #[.ref b] below meth c H locs cells slots (lw_Z below #[Value.ref b] s) (F0 m 18 ls []) := by
  have hbA : ¬ (fun q : Nat => s.heap.size ≤ q) b := Nat.not_le.mpr hbl
  intro n
  induction n with
  | zero => intro i σ τ T H locs ls h1 h2; exact absurd h2 (by omega)
  | succ n ih =>
    intro i σ τ T H locs ls hi hn hT hI hw hl
    refine lv_iload_n hC.1 hC.2.1 dL_law_18 rfl (lv_at hl 3 rfl) ?_
    refine lv_aload_n hC.1 hC.2.1 dL_law_19 rfl (lv_at hl 0 rfl) ?_
    refine va_slen hC.1 hC.2.1 hX hbl hbA hw.2.2 dL_law_20 ?_
    refine lv_bipush (v := nI 9) hC.1 hC.2.1 dL_law_21 (by decide) ?_
    refine lv_isub hC.1 hC.2.1 dL_law_23 ?_
    refine lv_icmp_gt (tgt := 821) hC.1 hC.2.1 dL_law_24 (by decide) (fun _ => ?_) (fun c0 => ?_)
    · refine lv_iconst (v := 1) hC.1 hC.2.1 dL_law_821 (by decide) ?_
      refine va_forget (fun q hq => hw.2.2.2.2 q hq) ?_
      refine W.widen (k := 600000) (n := 7302250) hcs.1 hcs.2 ?_
      exact lw_ret hC.1 hC.2.1 hC.2.2.2.2.2.2.2.2.1 hC.2.2.2.2.2.2.2.2.2 dL_law_822
    · have hi9 : i + 9 ≤ L := law_i9 hL hi c0
      refine lv_aload_n hC.1 hC.2.1 dL_law_27 rfl (lv_at hl 0 rfl) ?_
      refine lv_iload_n hC.1 hC.2.1 dL_law_28 rfl (lv_at hl 3 rfl) ?_
      refine l_sld hC hX hbl hbA hw.2.2 (by omega) (by omega) dL_law_29 ?_
      refine lv_bipush (v := nI 31) hC.1 hC.2.1 dL_law_30 (by decide) ?_
      refine lv_iand hC.1 hC.2.1 dL_law_32 ?_
      have hk : ∀ (σ' τ' : St) (H : Heap) (locs : List Loc), INVx σ' τ' (T + 24) → Wk E (XW E a σ' ++ MW E a' τ') (fun q => s.heap.size ≤ q) s.heap H locs → W p l e room_1 s m #[.ref b] below meth c H locs cells slots (lw_Z below #[Value.ref b] s) (F0 m 815 ls []) := by
        intro σ' τ' H locs hI hw
        refine lv_iinc (v := nI (i + 9)) (lv' := [(3, .int (nI (i + 9))), (0, .ref b), (1, .ref (a 71)), (2, .ref (a' 70))]) hC.1 hC.2.1 dL_law_815 hl (k := 3) rfl (by rw [← nI_add]; rfl) (by decide) rfl (fun ls hl => ?_)
        refine lv_goto (tgt := 18) hC.1 hC.2.1 dL_law_818 (by decide) ?_
        exact ih (i + 9) σ' τ' (T + 24) H locs ls (by omega) (by omega) (by omega) hI hw (lv_sub hl [1, 2, 3, 0] rfl)
      have hI2 : INVx σ τ (T + 24) := by obtain ⟨nh, nj, stk, hI⟩ := hI; exact hI.mono
      have hT2 : T < 2 ^ 29 := by omega
      generalize xs i &&& nI 31 = y
      by_cases h1 : y.toInt < 0
      · exact lv_tableOut (tgt := 815) hC.1 hC.2.1 dL_law_33 (Or.inl h1) (by decide) (hk σ τ H locs hI2 hw)
      by_cases h2 : 22 < y.toInt
      · exact lv_tableOut (tgt := 815) hC.1 hC.2.1 dL_law_33 (Or.inr h2) (by decide) (hk σ τ H locs hI2 hw)
      rcases (show y.toInt = 0 ∨ y.toInt = 1 ∨ y.toInt = 2 ∨ y.toInt = 3 ∨ y.toInt = 4 ∨ y.toInt = 5 ∨ y.toInt = 6 ∨ y.toInt = 7 ∨ y.toInt = 8 ∨ y.toInt = 9 ∨ y.toInt = 10 ∨ y.toInt = 11 ∨ y.toInt = 12 ∨ y.toInt = 13 ∨ y.toInt = 14 ∨ y.toInt = 15 ∨ y.toInt = 16 ∨ y.toInt = 17 ∨ y.toInt = 18 ∨ y.toInt = 19 ∨ y.toInt = 20 ∨ y.toInt = 21 ∨ y.toInt = 22 by omega) with h | h | h | h | h | h | h | h | h | h | h | h | h | h | h | h | h | h | h | h | h | h | h
      · exact lv_tableIn (tgt := 140) hC.1 hC.2.1 dL_law_33 h1 h2 (by rw [h]; rfl) (by decide) (law_host hC hX hbl hbA hL hi9 hcs hT2 hI hw hl hk)
      · exact lv_tableIn (tgt := 203) hC.1 hC.2.1 dL_law_33 h1 h2 (by rw [h]; rfl) (by decide) (law_job hC hX hbl hbA hL hi9 hcs hT2 hI hw hl hk)
      · exact lv_tableIn (tgt := 302) hC.1 hC.2.1 dL_law_33 h1 h2 (by rw [h]; rfl) (by decide) (law_weight hC hX hbl hbA hL hi9 hcs hT2 hI hw hl hk)
      · exact lv_tableIn (tgt := 335) hC.1 hC.2.1 dL_law_33 h1 h2 (by rw [h]; rfl) (by decide) (law_why hC hX hbl hbA hL hi9 hcs hT2 hI hw hl hk)
      · exact lv_tableIn (tgt := 368) hC.1 hC.2.1 dL_law_33 h1 h2 (by rw [h]; rfl) (by decide) (law_points hC hX hbl hbA hL hi9 hcs hT2 hI hw hl hk)
      · exact lv_tableIn (tgt := 401) hC.1 hC.2.1 dL_law_33 h1 h2 (by rw [h]; rfl) (by decide) (law_left hC hX hbl hbA hL hi9 hcs hT2 hI hw hl hk)
      · exact lv_tableIn (tgt := 434) hC.1 hC.2.1 dL_law_33 h1 h2 (by rw [h]; rfl) (by decide) (law_told hC hX hbl hbA hL hi9 hcs hT2 hI hw hl hk)
      · exact lv_tableIn (tgt := 467) hC.1 hC.2.1 dL_law_33 h1 h2 (by rw [h]; rfl) (by decide) (law_place hC hX hbl hbA hL hi9 hcs hT2 hI hw hl hk)
      · exact lv_tableIn (tgt := 490) hC.1 hC.2.1 dL_law_33 h1 h2 (by rw [h]; rfl) (by decide) (law_gone hC hX hbl hbA hL hi9 hcs hT2 hI hw hl hk)
      · exact lv_tableIn (tgt := 503) hC.1 hC.2.1 dL_law_33 h1 h2 (by rw [h]; rfl) (by decide) (law_gang hC hX hbl hbA hL hi9 hcs hT2 hI hw hl hk)
      · exact lv_tableIn (tgt := 526) hC.1 hC.2.1 dL_law_33 h1 h2 (by rw [h]; rfl) (by decide) (law_end hC hX hbl hbA hL hi9 hcs hT2 hI hw hl hk)
      · exact lv_tableIn (tgt := 549) hC.1 hC.2.1 dL_law_33 h1 h2 (by rw [h]; rfl) (by decide) (law_fall hC hX hbl hbA hL hi9 hcs hT2 hI hw hl hk)
      · exact lv_tableIn (tgt := 572) hC.1 hC.2.1 dL_law_33 h1 h2 (by rw [h]; rfl) (by decide) (law_rise hC hX hbl hbA hL hi9 hcs hT2 hI hw hl hk)
      · exact lv_tableIn (tgt := 595) hC.1 hC.2.1 dL_law_33 h1 h2 (by rw [h]; rfl) (by decide) (law_move hC hX hbl hbA hL hi9 hcs hT2 hI hw hl hk)
      · exact lv_tableIn (tgt := 628) hC.1 hC.2.1 dL_law_33 h1 h2 (by rw [h]; rfl) (by decide) (law_safe hC hX hbl hbA hL hi9 hcs hT2 hI hw hl hk)
      · exact lv_tableIn (tgt := 641) hC.1 hC.2.1 dL_law_33 h1 h2 (by rw [h]; rfl) (by decide) (law_worst hC hX hbl hbA hL hi9 hcs hT2 hI hw hl hk)
      · exact lv_tableIn (tgt := 654) hC.1 hC.2.1 dL_law_33 h1 h2 (by rw [h]; rfl) (by decide) (law_target hC hX hbl hbA hL hi9 hcs hT2 hI hw hl hk)
      · exact lv_tableIn (tgt := 687) hC.1 hC.2.1 dL_law_33 h1 h2 (by rw [h]; rfl) (by decide) (law_plan hC hX hbl hbA hL hi9 hcs hT2 hI hw hl hk)
      · exact lv_tableIn (tgt := 700) hC.1 hC.2.1 dL_law_33 h1 h2 (by rw [h]; rfl) (by decide) (law_step hC hX hbl hbA hL hi9 hcs hT2 hI hw hl hk)
      · exact lv_tableIn (tgt := 733) hC.1 hC.2.1 dL_law_33 h1 h2 (by rw [h]; rfl) (by decide) (law_fewest hC hX hbl hbA hL hi9 hcs hT2 hI hw hl hk)
      · exact lv_tableIn (tgt := 746) hC.1 hC.2.1 dL_law_33 h1 h2 (by rw [h]; rfl) (by decide) (law_would hC hX hbl hbA hL hi9 hcs hT2 hI hw hl hk)
      · exact lv_tableIn (tgt := 779) hC.1 hC.2.1 dL_law_33 h1 h2 (by rw [h]; rfl) (by decide) (law_undo hC hX hbl hbA hL hi9 hcs hT2 hI hw hl hk)
      · exact lv_tableIn (tgt := 792) hC.1 hC.2.1 dL_law_33 h1 h2 (by rw [h]; rfl) (by decide) (law_count hC hX hbl hbA hL hi9 hcs hT2 hI hw hl hk)
set_option maxHeartbeats 4000000 in
set_option maxRecDepth 100000 in
/-- THE LAW, from its entry -/
theorem whole_start {p : Program} {e : Env} {s : State} {m : MethodId} {below : List Frame} {meth : Method} {c : Code} (l : Launch) (hflags : l.flags = flags0) {b L : Nat} {xs : Nat → Int32} (hL : L ≤ 4608) (C0 : lw_At p s m meth c b L xs) : W p l e room_1 s m #[Value.ref b] below meth c s.heap [] 0 0 (lw_Z below #[Value.ref b] s) (entryFrame m ([Value.ref b] : List Value).toArray 4) := by
  obtain ⟨hx, hb, hr, hml, hown, hts0, hX, hbl, hlocks, hgv⟩ := C0
  have hts : ∀ w ∈ tw, w.before #[Value.ref b] s = true := fun w hw => hts0 w (List.mem_filter.mp hw).1
  obtain ⟨E, hEC, hES⟩ := ev_ex hts0 hgv
  have hCk : Ctk E p s m #[Value.ref b] meth c cL_law 4 R_law (fun q => s.heap.size ≤ q) := ⟨hx, hb, hml, hown, hts, hEC, fun q h => h, fun h => absurd rfl h⟩
  have hC : Cxt E p s m #[Value.ref b] meth c cL_law 4 ret R_law (fun q => s.heap.size ≤ q) := ⟨hx, hb, hml, hown, hts, hEC.1, hES, fun q h => h, hr, hlocks⟩
  have hw : Wk E [] (fun q => s.heap.size ≤ q) s.heap s.heap [] := ⟨fun k q h => by simp at h, ⟨fun i j p q h => by simp at h, fun k q h => by simp at h⟩, va_S.rf⟩
  have hl := lv_entry ([.ref b]) (n := 4) (Nat.le_of_ble_eq_true rfl)
  rw [lg_entry_eq]
  generalize (lg_sl ([.ref b]) ++ List.replicate (4 - (lg_sl ([.ref b])).length) Slot.unset).toArray = ls at hl ⊢
  have hl : lv_has ls 4 [(0, .ref b)] := hl
  refine k_new (C := RX10) (T := TX10) (N := 11) (ci := 10) (fs := [.null, .null, .null, .null, .null, .null, .null, .null, .null, .null, .int 0]) tyX10 tyX10_ok inT10 rfl wk1_17 wk1_18 wk1_1 (fun j hj => by rcases (show j = 0 ∨ j = 1 ∨ j = 2 ∨ j = 3 ∨ j = 4 ∨ j = 5 ∨ j = 6 ∨ j = 7 ∨ j = 8 ∨ j = 9 ∨ j = 10 by omega) with rfl | rfl | rfl | rfl | rfl | rfl | rfl | rfl | rfl | rfl | rfl <;> rfl) hCk hw (Nat.le_of_ble_eq_true rfl) (Nat.le_of_ble_eq_true rfl) dL_law_0 (fun q1 H hw => ?_)
  have hw : Wk E [(q1, .inr (10, [.null, .null, .null, .null, .null, .null, .null, .null, .null, .null, .int 0]))] (fun q => s.heap.size ≤ q) s.heap H [] := hw
  refine W.widen (k := 1) (n := 11) (Nat.le_of_ble_eq_true rfl) (Nat.le_of_ble_eq_true rfl) ?_
  refine lv_dup hx hb dL_law_3 rfl ?_
  refine k_call (bytes := cX10_init) (As := []) (rest := [.ref q1]) (wr := []) (n := 0) [0] [] hCk hw hl (kX10_init l E q1) rfl rfl (by decide) (by decide) (by decide) ⟨rfl, rfl⟩ wk1_19 wk1_20 wk1_1 wk1_21 rfl hd_X10_init.2 ⟨Nat.le_of_ble_eq_true rfl, Nat.le_of_ble_eq_true rfl⟩ rfl rfl (Nat.le_of_ble_eq_true rfl) ⟨Nat.le_of_ble_eq_true rfl, Nat.le_of_ble_eq_true rfl⟩ dL_law_4 (fun a H locs ha hw2 => ?_)
  have ha : a 71 = q1 := ha
  subst ha
  have hw : Wk E (XW E a iX) (fun q => s.heap.size ≤ q) s.heap H locs := hw2
  refine W.widen (k := 71) (n := 24181) (Nat.le_of_ble_eq_true rfl) (Nat.le_of_ble_eq_true rfl) ?_
  refine lv_astore_n (lv' := [(1, .ref (a 71)), (0, .ref b)]) hx hb dL_law_7 rfl hl (by decide) rfl (fun ls hl => ?_)
  refine k_new (C := RX11) (T := TX11) (N := 20) (ci := 11) (fs := [.null, .null, .int 0, .null, .int 0, .int 0, .int 0, .null, .null, .int 0, .null, .null, .null, .null, .int 0, .int 0, .null, .null, .null, .null]) tyX11 tyX11_ok inT11 rfl wk4_97 wk4_98 wk1_12 (fun j hj => by rcases (show j = 0 ∨ j = 1 ∨ j = 2 ∨ j = 3 ∨ j = 4 ∨ j = 5 ∨ j = 6 ∨ j = 7 ∨ j = 8 ∨ j = 9 ∨ j = 10 ∨ j = 11 ∨ j = 12 ∨ j = 13 ∨ j = 14 ∨ j = 15 ∨ j = 16 ∨ j = 17 ∨ j = 18 ∨ j = 19 by omega) with rfl | rfl | rfl | rfl | rfl | rfl | rfl | rfl | rfl | rfl | rfl | rfl | rfl | rfl | rfl | rfl | rfl | rfl | rfl | rfl <;> rfl) hCk hw (Nat.le_of_ble_eq_true rfl) (Nat.le_of_ble_eq_true rfl) dL_law_8 (fun q2 H hw => ?_)
  have hw : Wk E (XW E a iX ++ [(q2, .inr (11, [.null, .null, .int 0, .null, .int 0, .int 0, .int 0, .null, .null, .int 0, .null, .null, .null, .null, .int 0, .int 0, .null, .null, .null, .null]))]) (fun q => s.heap.size ≤ q) s.heap H locs := hw
  refine W.widen (k := 72) (n := 24201) (Nat.le_of_ble_eq_true rfl) (Nat.le_of_ble_eq_true rfl) ?_
  refine lv_dup hx hb dL_law_11 rfl ?_
  refine k_call (bytes := cX11_init) (As := []) (rest := [.ref q2]) (wr := XW E a iX) (n := 0) [71] [0, 1, 2, 3, 4, 5, 6, 7, 8, 9, 10, 11, 12, 13, 14, 15, 16, 17, 18, 19, 20, 21, 22, 23, 24, 25, 26, 27, 28, 29, 30, 31, 32, 33, 34, 35, 36, 37, 38, 39, 40, 41, 42, 43, 44, 45, 46, 47, 48, 49, 50, 51, 52, 53, 54, 55, 56, 57, 58, 59, 60, 61, 62, 63, 64, 65, 66, 67, 68, 69, 70] hCk hw hl (kX11_init l E q2) rfl rfl (by decide) (by decide) (by decide) ⟨rfl, rfl⟩ wk4_99 wk4_100 wk1_12 wk4_101 rfl hd_X11_init.2 ⟨Nat.le_of_ble_eq_true rfl, Nat.le_of_ble_eq_true rfl⟩ rfl rfl (Nat.le_of_ble_eq_true rfl) ⟨Nat.le_of_ble_eq_true rfl, Nat.le_of_ble_eq_true rfl⟩ dL_law_12 (fun a' H locs ha hw2 => ?_)
  have ha : a' 70 = q2 := ha
  subst ha
  refine W.widen (k := 85) (n := 94169) (Nat.le_of_ble_eq_true rfl) (Nat.le_of_ble_eq_true rfl) ?_
  refine lv_astore_n (lv' := [(2, .ref (a' 70)), (1, .ref (a 71)), (0, .ref b)]) hx hb dL_law_15 rfl hl (by decide) rfl (fun ls hl => ?_)
  refine lv_iconst (v := nI 0) hx hb dL_law_16 (by decide) ?_
  refine lv_istore_n (lv' := [(3, .int (nI 0)), (2, .ref (a' 70)), (1, .ref (a 71)), (0, .ref b)]) hx hb dL_law_17 rfl hl (by decide) rfl (fun ls hl => ?_)
  exact law_loop hC hX hbl hL ⟨Nat.le_of_ble_eq_true rfl, Nat.le_of_ble_eq_true rfl⟩ (L + 10) 0 iX iM 0 H locs ls (Nat.zero_le _) (by omega) (by omega) INV_0 hw2 (lv_sub hl [3, 2, 1, 0] rfl)
