/-! ===== CREW: where the few are: p k (10: on the fallen host, or nowhere); the class says fz for 10 ===== -/
def dz (fz x : Nat) : Nat := if x = 10 then fz else x
def atI (fz x : Nat) : Int32 := if x = 10 then plc fz else nI x
def OKP (nh m fz : Nat) (p : Nat → Nat) : Prop := ∀ k, k < m → p k = 10 ∨ (p k < nh ∧ p k ≠ fz)
theorem OKP.ok {nh m fz : Nat} {p : Nat → Nat} (h : OKP nh m fz p) : okC nh m p := fun k hk => (h k hk).elim Or.inl (fun q => Or.inr q.1)
theorem atI_n {fz x : Nat} (h : x ≠ 10) : atI fz x = nI x := if_neg h
theorem atI_d {fz x : Nat} (h : x = 10 → fz ≠ 10) : atI fz x = nI (dz fz x) := by
  unfold atI dz plc
  by_cases e : x = 10
  · rw [if_pos e, if_pos e, if_neg (h e)]
  · rw [if_neg e, if_neg e]
theorem atI_f {fz x nh : Nat} (hn : nh ≤ 10) (hf : fz ≤ 10) (hx : x = 10 ∨ (x < nh ∧ x ≠ fz)) : atI fz x = plc fz ↔ x = 10 := by
  constructor
  · intro q
    refine Classical.byContradiction fun e => ?_
    have hx := hx.resolve_left e
    rw [atI_n e] at q
    unfold plc at q
    split at q
    · exact nI_nm1 (by omega) q.symm
    · exact hx.2 ((nI_eq (by omega) (by omega)).mp q)
  · intro e; exact if_pos e
theorem atI_inj {fz x y nh : Nat} (hn : nh ≤ 10) (hf : fz ≤ 10) (hx : x = 10 ∨ (x < nh ∧ x ≠ fz)) (hy : y = 10 ∨ (y < nh ∧ y ≠ fz)) (e : atI fz x = atI fz y) : x = y := by
  by_cases z : y = 10
  · rw [(atI_f hn hf hy).mpr z] at e
    rw [z]; exact (atI_f hn hf hx).mp e
  · by_cases w : x = 10
    · rw [(atI_f hn hf hx).mpr w] at e
      exact absurd ((atI_f hn hf hy).mp e.symm) z
    · rw [atI_n z, atI_n w] at e
      exact (nI_eq (by omega) (by omega)).mp e
theorem pP_pu {F : Nat → Nat} {P0 : Nat → Int32} {p : Nat → Nat} {m nj k x : Nat} (hF : Fok F m nj) (hk : k < m) (j : Nat) : pP F P0 (pu p k x) m j = upd (pP F P0 p m) (F k) (plc x) j := by
  by_cases e : ∃ i, i < m ∧ j = F i
  · obtain ⟨i, hi, rfl⟩ := e
    rw [pP_at hF.2 hi]
    by_cases z : i = k
    · subst z; rw [ups]; rw [show pu p i x i = x from if_pos rfl]
    · rw [upn (fun q => z (hF.2 i k hi hk q)), pP_at hF.2 hi, show pu p k x i = p i from if_neg z]
  · have h : ∀ i, i < m → j ≠ F i := fun i hi q => e ⟨i, hi, q⟩
    rw [pP_no h, upn (h k hk), pP_no h]
theorem pow10 {k : Nat} (h : k < 5) : 0 < 10 ^ k ∧ 10 ^ k ≤ 10000 := ⟨Nat.pow_pos (by decide), Nat.le_trans (Nat.pow_le_pow_right (by decide) (show k ≤ 4 by omega)) (by decide)⟩
theorem upd_same {f : Nat → Int32} {k : Nat} {x : Int32} (h : f k = x) : upd f k x = f := funext fun i => by
  by_cases e : i = k
  · subst e; rw [ups, h]
  · rw [upn e]
/-! what is lined up: line, from, how many are lined up -/
abbrev L3 : Type := (Nat → Int32) × (Nat → Int32) × Nat
def seeL (x bf : Nat) (S : L3) : L3 := if S.2.1 x = -1 ∧ S.2.2 < 10000 then (upd S.1 S.2.2 (nI x), upd S.2.1 x (nI bf), S.2.2 + 1) else S
def nxt (x k h : Nat) : Nat := x - (x / 10 ^ k % 10) * 10 ^ k + h * 10 ^ k
def lnH (g : Nat → Nat → Bool) (x k : Nat) (S : L3) : Nat → L3
  | 0 => S
  | h + 1 => if (lnH g x k S h).2.1 (nxt x k h) = -1 ∧ g k h = true then seeL (nxt x k h) x (lnH g x k S h) else lnH g x k S h
def lnK (g : Nat → Nat → Bool) (a : Nat → Bool) (x nh : Nat) (S : L3) : Nat → L3
  | 0 => S
  | k + 1 => if a k = true then lnH g x k (lnK g a x nh S k) nh else lnK g a x nh S k
set_option maxHeartbeats 4000000 in
set_option maxRecDepth 100000 in
theorem tX2_begin (l : Launch) (E : EV) (a : Nat → Nat) (σ : St) (h : Int32) : MV l E (XW E a) yX2_begin (Cond.code yX2_begin cX2_begin 2 none) ({ frames := 0, cells := 0, slots := 0, locals := 0 }) [.ref (a 63), .int (h)] σ (fun u_ => u_ = sr σ 0 (upd (upd (σ 0) 6 (nI 0)) 8 (h))) := by
  refine MV.mk (by decide +kernel) (Nat.le_of_ble_eq_true rfl) ?_
  intro p e s m args below meth c ls A Q hret hC hw hl
  have hC : Cxt E p s m args meth c cX2_begin 2 none RX2 A := hC
  have hl : lv_has ls 2 [(0, .ref (a 63)), (1, .int (h))] := hl
  refine lv_aload_n hC.1 hC.2.1 dX2_begin_0 rfl (lv_at hl 0 rfl) ?_
  refine lv_iconst (v := nI 0) hC.1 hC.2.1 dX2_begin_1 (by decide) ?_
  refine pf_X2_28 hC hw dX2_begin_2 (fun H locs hw => ?_)
  have hw : Wst E (XW E a) (sr σ 0 (upd (σ 0) 6 (nI 0))) A s.heap H locs := hw
  refine lv_aload_n hC.1 hC.2.1 dX2_begin_5 rfl (lv_at hl 0 rfl) ?_
  refine lv_iload_n hC.1 hC.2.1 dX2_begin_6 rfl (lv_at hl 1 rfl) ?_
  refine pf_X2_32 hC hw dX2_begin_7 (fun H locs hw => ?_)
  have hw : Wst E (XW E a) (sr (sr σ 0 (upd (σ 0) 6 (nI 0))) 0 (upd (upd (σ 0) 6 (nI 0)) 8 (h))) A s.heap H locs := hw
  have hst_ : sr (sr σ 0 (upd (σ 0) 6 (nI 0))) 0 (upd (upd (σ 0) 6 (nI 0)) 8 (h)) = sr σ 0 (upd (upd (σ 0) 6 (nI 0)) 8 (h)) := by
    funext j_ x_
    by_cases e0 : j_ = 0
    · subst e0
      by_cases y6 : x_ = 6
      · subst y6; rfl
      · by_cases y8 : x_ = 8
        · subst y8; rfl
        · simp [sr, upd, y6, y8]
    · simp only [sr, e0, if_false]
  rw [hst_] at hw
  refine hret _ _ _ _ _ hw ?_ dX2_begin_10
  exact rfl
set_option maxHeartbeats 4000000 in
set_option maxRecDepth 100000 in
theorem tX2_join (l : Launch) (E : EV) (a : Nat → Nat) (σ : St) (fm : Nat) (j : Nat) (h : Nat) (hm : σ 0 6 = nI fm) (hm4 : fm < 4) (hh : h < 10) : MV l E (XW E a) yX2_join (Cond.code yX2_join cX2_join 3 none) ({ frames := 1, cells := 0, slots := 0, locals := 21 }) [.ref (a 63), .int (nI j), .int (nI h)] σ (fun u_ => u_ = sr (sr (sr σ 23 (upd (σ 23) fm (nI j))) 24 (upd (σ 24) fm (nI h))) 0 (upd (σ 0) 6 (nI (fm + 1)))) := by
  refine MV.mk (by decide +kernel) (Nat.le_of_ble_eq_true rfl) ?_
  intro p e s m args below meth c ls A Q hret hC hw hl
  have hC : Cxt E p s m args meth c cX2_join 3 none RX2 A := hC
  have hl : lv_has ls 3 [(0, .ref (a 63)), (1, .int (nI j)), (2, .int (nI h))] := hl
  refine lv_aload_n hC.1 hC.2.1 dX2_join_0 rfl (lv_at hl 0 rfl) ?_
  refine gf_X2_28 (v := nI fm) hC hw hm dX2_join_1 ?_
  refine lv_iconst (v := nI 4) hC.1 hC.2.1 dX2_join_4 (by decide) ?_
  refine q_cmpge hC 47 (cNle (by omega) (by omega)) dX2_join_5 (by decide) (fun (c1 : 4 ≤ fm) => ?_) (fun (c1 : fm < 4) => ?_)
  · exact absurd c1 (by omega)
  · refine lv_iload_n hC.1 hC.2.1 dX2_join_8 rfl (lv_at hl 2 rfl) ?_
    refine lv_bipush (v := nI 10) hC.1 hC.2.1 dX2_join_9 (by decide) ?_
    refine q_callSNp (As := [.int (nI h), .int (nI 10)]) (rest := []) hC hw hl (tX10_isBelow l E a σ (nI h) 10) ⟨rfl, rfl⟩ hC.2.2.2.2.2.1.2.1 wk2_176 wk1_1 wk2_177 hd_X10_isBelow.2 ⟨Nat.le_of_ble_eq_true rfl, Nat.le_of_ble_eq_true rfl⟩ rfl rfl (Nat.le_of_ble_eq_true rfl) dX2_join_11 (fun H locs hw => ?_)
    refine q_ifeq hC 47 cB dX2_join_14 (by decide) (fun (c5 : ¬ (¬ (nI h) < 0 ∧ (nI h) < 10)) => ?_) (fun (c5 : ¬ (nI h) < 0 ∧ (nI h) < 10) => ?_)
    · exact absurd ⟨nI_pos (by omega), (nI_ltI (by omega) (by decide)).mpr (by omega)⟩ c5
    · refine lv_aload_n hC.1 hC.2.1 dX2_join_17 rfl (lv_at hl 0 rfl) ?_
      refine gf_X2_11 hC hw dX2_join_18 ?_
      refine lv_aload_n hC.1 hC.2.1 dX2_join_21 rfl (lv_at hl 0 rfl) ?_
      refine gf_X2_28 (v := nI fm) hC hw hm dX2_join_22 ?_
      refine lv_iload_n hC.1 hC.2.1 dX2_join_25 rfl (lv_at hl 1 rfl) ?_
      refine as_X23 hC hw (by omega) dX2_join_26 (fun H locs hw => ?_)
      have hw : Wst E (XW E a) (sr σ 23 (upd (σ 23) fm (nI j))) A s.heap H locs := hw
      refine lv_aload_n hC.1 hC.2.1 dX2_join_27 rfl (lv_at hl 0 rfl) ?_
      refine gf_X2_15 hC hw dX2_join_28 ?_
      refine lv_aload_n hC.1 hC.2.1 dX2_join_31 rfl (lv_at hl 0 rfl) ?_
      refine gf_X2_28 (v := nI fm) hC hw hm dX2_join_32 ?_
      refine lv_iload_n hC.1 hC.2.1 dX2_join_35 rfl (lv_at hl 2 rfl) ?_
      refine as_X24 hC hw (by omega) dX2_join_36 (fun H locs hw => ?_)
      have hw : Wst E (XW E a) (sr (sr σ 23 (upd (σ 23) fm (nI j))) 24 (upd (σ 24) fm (nI h))) A s.heap H locs := hw
      refine lv_aload_n hC.1 hC.2.1 dX2_join_37 rfl (lv_at hl 0 rfl) ?_
      refine lv_dup hC.1 hC.2.1 dX2_join_38 rfl ?_
      refine gf_X2_28 (v := nI fm) hC hw hm dX2_join_39 ?_
      refine lv_iconst (v := nI 1) hC.1 hC.2.1 dX2_join_42 (by decide) ?_
      refine q_addN hC dX2_join_43 ?_
      refine pf_X2_28 hC hw dX2_join_44 (fun H locs hw => ?_)
      have hw : Wst E (XW E a) (sr (sr (sr σ 23 (upd (σ 23) fm (nI j))) 24 (upd (σ 24) fm (nI h))) 0 (upd (σ 0) 6 (nI (fm + 1)))) A s.heap H locs := hw
      refine hret _ _ _ _ _ hw ?_ dX2_join_47
      exact rfl
set_option maxHeartbeats 4000000 in
set_option maxRecDepth 100000 in
theorem tX2_code (l : Launch) (E : EV) (a : Nat → Nat) (σ : St) (fm : Nat) (q : Nat → Nat) (hm : σ 0 6 = nI fm) (hm4 : fm ≤ 4) (hat : ∀ k, k < fm → σ 24 k = nI (q k) ∧ q k < 10) : MI l E (XW E a) yX2_code (Cond.code yX2_code cX2_code 3 (some .int)) ({ frames := 0, cells := 0, slots := 0, locals := 0 }) [.ref (a 63)] σ (fun r_ u_ => r_ = (nI (enc 10 q fm)) ∧ u_ = σ) := by
  refine MI.mk (by decide +kernel) (Nat.le_of_ble_eq_true rfl) ?_
  intro p e s m args below meth c ls A Q hret hC hw hl
  have hC : Cxt E p s m args meth c cX2_code 3 (some .int) RX2 A := hC
  have hl : lv_has ls 3 [(0, .ref (a 63))] := hl
  refine lv_iconst (v := nI 0) hC.1 hC.2.1 dX2_code_0 (by decide) ?_
  refine lv_istore_n (lv' := [(1, .int (nI 0)), (0, .ref (a 63))]) hC.1 hC.2.1 dX2_code_1 rfl hl (by decide) rfl (fun ls hl => ?_)
  refine lv_iconst (v := nI 0) hC.1 hC.2.1 dX2_code_2 (by decide) ?_
  refine lv_istore_n (lv' := [(2, .int (nI 0)), (1, .int (nI 0)), (0, .ref (a 63))]) hC.1 hC.2.1 dX2_code_3 rfl hl (by decide) rfl (fun ls hl => ?_)
  have L4_0 : ∀ (n : Nat), ∀ (k : Nat), ∀ (cd : Nat), (cd = (enc 10 q k)) → (k ≤ fm) → (fm - k) < n → ∀ (H : Heap) (locs : List Loc) (ls : Array Slot), Wst E (XW E a) (σ) A s.heap H locs → lv_has ls 3 [(0, .ref (a 63)), (1, .int (nI cd)), (2, .int (nI k))] → W p l e ({ frames := 0, cells := 0, slots := 0, locals := 0 }) s m args below meth c H locs 0 0 Q (F0 m 4 ls []) := by
    intro n
    induction n with
    | zero => intro k cd q_cd hk hn; exact absurd hn (Nat.not_lt_zero _)
    | succ n ih4 =>
      intro k cd q_cd hk hn4 H locs ls hw hl
      subst q_cd
      refine lv_iload_n hC.1 hC.2.1 dX2_code_4 rfl (lv_at hl 2 rfl) ?_
      refine lv_aload_n hC.1 hC.2.1 dX2_code_5 rfl (lv_at hl 0 rfl) ?_
      refine gf_X2_28 (v := nI fm) hC hw hm dX2_code_6 ?_
      refine q_cmpge hC 33 (cNle (by omega) (by omega)) dX2_code_9 (by decide) (fun (c2 : fm ≤ k) => ?_) (fun (c2 : k < fm) => ?_)
      · refine lv_iload_n hC.1 hC.2.1 dX2_code_33 rfl (lv_at hl 1 rfl) ?_
        refine hret _ _ _ _ _ _ hw ?_ rfl dX2_code_34
        have hk9 : k = fm := by omega
        rw [hk9]
        exact ⟨rfl, rfl⟩
      · refine lv_iload_n hC.1 hC.2.1 dX2_code_12 rfl (lv_at hl 1 rfl) ?_
        refine lv_aload_n hC.1 hC.2.1 dX2_code_13 rfl (lv_at hl 0 rfl) ?_
        refine gf_X2_15 hC hw dX2_code_14 ?_
        refine lv_iload_n hC.1 hC.2.1 dX2_code_17 rfl (lv_at hl 2 rfl) ?_
        have hq9 := (hat k (by omega)).2
        refine al_X24 (v := nI (q k)) hC hw (by omega) (hat k (by omega)).1 dX2_code_18 ?_
        refine q_pow wk3_169 hC hw dX2_code_19 ?_
        refine lv_iload_n hC.1 hC.2.1 dX2_code_22 rfl (lv_at hl 2 rfl) ?_
        refine q_powld (v := nI (10 ^ k)) hC hw (by omega) rfl dX2_code_23 ?_
        refine q_mulN hC dX2_code_24 ?_
        refine q_addN hC dX2_code_25 ?_
        refine lv_istore_n (lv' := [(1, .int (nI ((enc 10 q k) + ((q k) * (10 ^ k))))), (0, .ref (a 63)), (2, .int (nI k))]) hC.1 hC.2.1 dX2_code_26 rfl hl (by decide) rfl (fun ls hl => ?_)
        refine lv_iinc (v := nI (k + 1)) (lv' := [(2, .int (nI (k + 1))), (1, .int (nI ((enc 10 q k) + ((q k) * (10 ^ k))))), (0, .ref (a 63))]) hC.1 hC.2.1 dX2_code_27 hl (k := 2) rfl (nI_add _ _) (by decide) rfl (fun ls hl => ?_)
        refine lv_goto (tgt := 4) hC.1 hC.2.1 dX2_code_30 (by decide) ?_
        exact ih4 (k + 1) ((enc 10 q k) + ((q k) * (10 ^ k))) rfl (by omega) (by omega) _ _ _ hw (lv_sub hl [2, 1, 0] rfl)
  exact L4_0 _ 0 0 rfl (Nat.zero_le _) (Nat.lt_succ_self _) _ _ _ hw (lv_sub hl [2, 1, 0] rfl)
set_option maxHeartbeats 4000000 in
set_option maxRecDepth 100000 in
theorem tX2_hostIn (l : Launch) (E : EV) (a : Nat → Nat) (σ : St) (x : Nat) (k : Nat) (hx : x < 10000) (hk : k < 5) : MI l E (XW E a) yX2_hostIn (Cond.code yX2_hostIn cX2_hostIn 5 (some .int)) ({ frames := 0, cells := 0, slots := 0, locals := 0 }) [.ref (a 63), .int (nI x), .int (nI k)] σ (fun r_ u_ => r_ = (nI (x / 10 ^ k % 10)) ∧ u_ = σ) := by
  refine MI.mk (by decide +kernel) (Nat.le_of_ble_eq_true rfl) ?_
  intro p e s m args below meth c ls A Q hret hC hw hl
  have hC : Cxt E p s m args meth c cX2_hostIn 5 (some .int) RX2 A := hC
  have hl : lv_has ls 5 [(0, .ref (a 63)), (1, .int (nI x)), (2, .int (nI k))] := hl
  refine lv_iload_n hC.1 hC.2.1 dX2_hostIn_0 rfl (lv_at hl 1 rfl) ?_
  refine lv_istore_n (lv' := [(3, .int (nI x)), (0, .ref (a 63)), (1, .int (nI x)), (2, .int (nI k))]) hC.1 hC.2.1 dX2_hostIn_1 rfl hl (by decide) rfl (fun ls hl => ?_)
  refine lv_iconst (v := nI 0) hC.1 hC.2.1 dX2_hostIn_2 (by decide) ?_
  refine lv_istore (lv' := [(4, .int (nI 0)), (3, .int (nI x)), (0, .ref (a 63)), (1, .int (nI x)), (2, .int (nI k))]) hC.1 hC.2.1 dX2_hostIn_3 hl (by decide) rfl (fun ls hl => ?_)
  have L5_0 : ∀ (n : Nat), ∀ (i : Nat), ∀ (rr : Nat), (rr = (x / 10 ^ i)) → (i ≤ k) → (k - i) < n → ∀ (H : Heap) (locs : List Loc) (ls : Array Slot), Wst E (XW E a) (σ) A s.heap H locs → lv_has ls 5 [(0, .ref (a 63)), (1, .int (nI x)), (2, .int (nI k)), (3, .int (nI rr)), (4, .int (nI i))] → W p l e ({ frames := 0, cells := 0, slots := 0, locals := 0 }) s m args below meth c H locs 0 0 Q (F0 m 5 ls []) := by
    intro n
    induction n with
    | zero => intro i rr q_rr hi hn; exact absurd hn (Nat.not_lt_zero _)
    | succ n ih5 =>
      intro i rr q_rr hi hn5 H locs ls hw hl
      subst q_rr
      have hdv := Nat.div_le_self x (10 ^ i)
      refine lv_iload hC.1 hC.2.1 dX2_hostIn_5 (lv_at hl 4 rfl) ?_
      refine lv_iload_n hC.1 hC.2.1 dX2_hostIn_7 rfl (lv_at hl 2 rfl) ?_
      refine q_cmpge hC 22 (cNle (by omega) (by omega)) dX2_hostIn_8 (by decide) (fun (c2 : k ≤ i) => ?_) (fun (c2 : i < k) => ?_)
      · refine lv_iload_n hC.1 hC.2.1 dX2_hostIn_22 rfl (lv_at hl 3 rfl) ?_
        refine lv_bipush (v := nI 10) hC.1 hC.2.1 dX2_hostIn_23 (by decide) ?_
        refine q_remN hC (by omega) (by omega) (by omega) dX2_hostIn_25 ?_
        refine hret _ _ _ _ _ _ hw ?_ rfl dX2_hostIn_26
        have hik : i = k := by omega
        rw [hik]
        exact ⟨rfl, rfl⟩
      · refine lv_iload_n hC.1 hC.2.1 dX2_hostIn_11 rfl (lv_at hl 3 rfl) ?_
        refine lv_bipush (v := nI 10) hC.1 hC.2.1 dX2_hostIn_12 (by decide) ?_
        refine q_divN hC (by omega) (by omega) (by omega) dX2_hostIn_14 ?_
        refine lv_istore_n (lv' := [(3, .int (nI ((x / 10 ^ i) / 10))), (0, .ref (a 63)), (1, .int (nI x)), (2, .int (nI k)), (4, .int (nI i))]) hC.1 hC.2.1 dX2_hostIn_15 rfl hl (by decide) rfl (fun ls hl => ?_)
        refine lv_iinc (v := nI (i + 1)) (lv' := [(4, .int (nI (i + 1))), (3, .int (nI ((x / 10 ^ i) / 10))), (0, .ref (a 63)), (1, .int (nI x)), (2, .int (nI k))]) hC.1 hC.2.1 dX2_hostIn_16 hl (k := 4) rfl (nI_add _ _) (by decide) rfl (fun ls hl => ?_)
        refine lv_goto (tgt := 5) hC.1 hC.2.1 dX2_hostIn_19 (by decide) ?_
        exact ih5 (i + 1) ((x / 10 ^ i) / 10) (by rw [Nat.div_div_eq_div_mul, Nat.pow_succ]) (by omega) (by omega) _ _ _ hw (lv_sub hl [2, 3, 4, 1, 0] rfl)
  exact L5_0 _ 0 x (by simp) (Nat.zero_le _) (Nat.lt_succ_self _) _ _ _ hw (lv_sub hl [2, 3, 4, 1, 0] rfl)
set_option maxHeartbeats 4000000 in
set_option maxRecDepth 100000 in
theorem tX2_before (l : Launch) (E : EV) (a : Nat → Nat) (σ : St) (x : Nat) (hx : x < 10000) : MI l E (XW E a) yX2_before (Cond.code yX2_before cX2_before 2 (some .int)) ({ frames := 1, cells := 0, slots := 0, locals := 21 }) [.ref (a 63), .int (nI x)] σ (fun r_ u_ => r_ = ((σ 26) x) ∧ u_ = σ) := by
  refine MI.mk (by decide +kernel) (Nat.le_of_ble_eq_true rfl) ?_
  intro p e s m args below meth c ls A Q hret hC hw hl
  have hC : Cxt E p s m args meth c cX2_before 2 (some .int) RX2 A := hC
  have hl : lv_has ls 2 [(0, .ref (a 63)), (1, .int (nI x))] := hl
  refine lv_iload_n hC.1 hC.2.1 dX2_before_0 rfl (lv_at hl 1 rfl) ?_
  refine lv_sipush (v := nI 10000) hC.1 hC.2.1 dX2_before_1 (by decide) ?_
  refine q_callSNp (As := [.int (nI x), .int (nI 10000)]) (rest := []) hC hw hl (tX10_isBelow l E a σ (nI x) 10000) ⟨rfl, rfl⟩ hC.2.2.2.2.2.1.2.1 wk2_176 wk1_1 wk2_177 hd_X10_isBelow.2 ⟨Nat.le_of_ble_eq_true rfl, Nat.le_of_ble_eq_true rfl⟩ rfl rfl (Nat.le_of_ble_eq_true rfl) dX2_before_4 (fun H locs hw => ?_)
  refine q_ifeq hC 19 cB dX2_before_7 (by decide) (fun (c4 : ¬ (¬ (nI x) < 0 ∧ (nI x) < 10000)) => ?_) (fun (c4 : ¬ (nI x) < 0 ∧ (nI x) < 10000) => ?_)
  · exact absurd ⟨nI_pos (by omega), (nI_ltI (by omega) (by decide)).mpr (by omega)⟩ c4
  · refine lv_aload_n hC.1 hC.2.1 dX2_before_10 rfl (lv_at hl 0 rfl) ?_
    refine gf_X2_21 hC hw dX2_before_11 ?_
    refine lv_iload_n hC.1 hC.2.1 dX2_before_14 rfl (lv_at hl 1 rfl) ?_
    refine al_X26 (v := σ 26 x) hC hw (by omega) rfl dX2_before_15 ?_
    refine lv_goto (tgt := 20) hC.1 hC.2.1 dX2_before_16 (by decide) ?_
    refine hret _ _ _ _ _ _ hw ?_ rfl dX2_before_20
    exact ⟨rfl, rfl⟩
set_option maxHeartbeats 4000000 in
set_option maxRecDepth 100000 in
theorem tX2_isUnseen (l : Launch) (E : EV) (a : Nat → Nat) (σ : St) (x : Nat) (hx : x < 10000) : MI l E (XW E a) yX2_isUnseen (Cond.code yX2_isUnseen cX2_isUnseen 2 (some .boolean)) ({ frames := 1, cells := 0, slots := 0, locals := 21 }) [.ref (a 63), .int (nI x)] σ (fun r_ u_ => r_ = (if (σ 26) x = -1 then (1 : Int32) else 0) ∧ u_ = σ) := by
  refine MI.mk (by decide +kernel) (Nat.le_of_ble_eq_true rfl) ?_
  intro p e s m args below meth c ls A Q hret hC hw hl
  have hC : Cxt E p s m args meth c cX2_isUnseen 2 (some .boolean) RX2 A := hC
  have hl : lv_has ls 2 [(0, .ref (a 63)), (1, .int (nI x))] := hl
  refine lv_iload_n hC.1 hC.2.1 dX2_isUnseen_0 rfl (lv_at hl 1 rfl) ?_
  refine lv_sipush (v := nI 10000) hC.1 hC.2.1 dX2_isUnseen_1 (by decide) ?_
  refine q_callSNp (As := [.int (nI x), .int (nI 10000)]) (rest := []) hC hw hl (tX10_isBelow l E a σ (nI x) 10000) ⟨rfl, rfl⟩ hC.2.2.2.2.2.1.2.1 wk2_176 wk1_1 wk2_177 hd_X10_isBelow.2 ⟨Nat.le_of_ble_eq_true rfl, Nat.le_of_ble_eq_true rfl⟩ rfl rfl (Nat.le_of_ble_eq_true rfl) dX2_isUnseen_4 (fun H locs hw => ?_)
  have J25_5 : ∀ (w4 : Int32), w4 = (if (¬ (nI x) < 0 ∧ (nI x) < 10000) ∧ (σ 26 x = (-1)) then (1 : Int32) else 0) → ∀ (H : Heap) (locs : List Loc) (ls : Array Slot), Wst E (XW E a) (σ) A s.heap H locs → lv_has ls 2 [(0, .ref (a 63)), (1, .int (nI x))] → W p l e ({ frames := 1, cells := 0, slots := 0, locals := 21 }) s m args below meth c H locs 0 0 Q (F0 m 25 ls [.int (w4)]) := by
    intro w4 e5 H locs ls hw hl
    subst e5
    refine hret _ _ _ _ _ _ hw ?_ nz_B dX2_isUnseen_25
    exact ⟨ite_iff ⟨fun q => q.2, fun q => ⟨⟨nI_pos (by omega), (nI_ltI (by omega) (by decide)).mpr (by omega)⟩, q⟩⟩, rfl⟩
  refine q_ifeq hC 24 cB dX2_isUnseen_7 (by decide) (fun (c6 : ¬ (¬ (nI x) < 0 ∧ (nI x) < 10000)) => ?_) (fun (c6 : ¬ (nI x) < 0 ∧ (nI x) < 10000) => ?_)
  · refine lv_iconst (v := nI 0) hC.1 hC.2.1 dX2_isUnseen_24 (by decide) ?_
    exact J25_5 _ (if_neg (fun q => c6 q.1)).symm _ _ _ hw (lv_sub hl [0, 1] rfl)
  · refine lv_aload_n hC.1 hC.2.1 dX2_isUnseen_10 rfl (lv_at hl 0 rfl) ?_
    refine gf_X2_21 hC hw dX2_isUnseen_11 ?_
    refine lv_iload_n hC.1 hC.2.1 dX2_isUnseen_14 rfl (lv_at hl 1 rfl) ?_
    refine al_X26 (v := σ 26 x) hC hw (by omega) rfl dX2_isUnseen_15 ?_
    refine lv_iconst (v := (-1)) hC.1 hC.2.1 dX2_isUnseen_16 (by decide) ?_
    refine q_cmpne hC 24 cI dX2_isUnseen_17 (by decide) (fun (c7 : ¬ (σ 26 x = (-1))) => ?_) (fun (c7 : σ 26 x = (-1)) => ?_)
    · refine lv_iconst (v := nI 0) hC.1 hC.2.1 dX2_isUnseen_24 (by decide) ?_
      exact J25_5 _ (if_neg (fun q => c7 q.2)).symm _ _ _ hw (lv_sub hl [0, 1] rfl)
    · refine lv_iconst (v := nI 1) hC.1 hC.2.1 dX2_isUnseen_20 (by decide) ?_
      refine lv_goto (tgt := 25) hC.1 hC.2.1 dX2_isUnseen_21 (by decide) ?_
      exact J25_5 _ (if_pos ⟨c6, c7⟩).symm _ _ _ hw (lv_sub hl [0, 1] rfl)
set_option maxHeartbeats 4000000 in
set_option maxRecDepth 100000 in
theorem tX2_see (l : Launch) (E : EV) (a : Nat → Nat) (σ : St) (ln : Nat) (x : Nat) (bf : Nat) (hx : x < 10000) (hln : σ 0 7 = nI ln) (hln2 : ln ≤ 10000) : MV l E (XW E a) yX2_see (Cond.code yX2_see cX2_see 3 none) ({ frames := 2, cells := 0, slots := 0, locals := 42 }) [.ref (a 63), .int (nI x), .int (nI bf)] σ (fun u_ => u_ = sr (sr (sr σ 25 ((seeL x bf ((σ 25), (σ 26), ln)).1)) 26 ((seeL x bf ((σ 25), (σ 26), ln)).2.1)) 0 (upd (σ 0) 7 (nI (seeL x bf ((σ 25), (σ 26), ln)).2.2))) := by
  refine MV.mk (by decide +kernel) (Nat.le_of_ble_eq_true rfl) ?_
  intro p e s m args below meth c ls A Q hret hC hw hl
  have hC : Cxt E p s m args meth c cX2_see 3 none RX2 A := hC
  have hl : lv_has ls 3 [(0, .ref (a 63)), (1, .int (nI x)), (2, .int (nI bf))] := hl
  refine lv_aload_n hC.1 hC.2.1 dX2_see_0 rfl (lv_at hl 0 rfl) ?_
  refine lv_iload_n hC.1 hC.2.1 dX2_see_1 rfl (lv_at hl 1 rfl) ?_
  refine q_callVp (As := [.int (nI x)]) (rest := []) (q0 := 3) hC hw hl (tX2_isUnseen l E a σ x (by first | assumption | omega)) (q_cwV hC.2.2.2.2.1 ⟨rfl, rfl⟩ wk3_179 wk3_180 wk3_181 wk1_7 wk3_182 hd_X2_isUnseen ⟨Nat.le_of_ble_eq_true rfl, Nat.le_of_ble_eq_true rfl⟩) rfl rfl rfl rfl rfl (Nat.le_of_ble_eq_true rfl) dX2_see_2 (fun H locs hw => ?_)
  refine q_ifeq hC 45 cB dX2_see_5 (by decide) (fun (c4 : ¬ ((σ 26) x = -1)) => ?_) (fun (c4 : (σ 26) x = -1) => ?_)
  · refine hret _ _ _ _ _ hw ?_ dX2_see_45
    rw [show seeL x bf (σ 25, σ 26, ln) = (σ 25, σ 26, ln) from if_neg (fun q => c4 q.1), ← hln]
    funext j_ x_
    by_cases e0 : j_ = 0
    · subst e0
      by_cases y7 : x_ = 7
      · subst y7; rfl
      · simp [sr, upd, y7]
    · by_cases e25 : j_ = 25
      · subst e25; rfl
      · by_cases e26 : j_ = 26
        · subst e26; rfl
        · simp only [sr, e0, e25, e26, if_false]
  · refine lv_aload_n hC.1 hC.2.1 dX2_see_8 rfl (lv_at hl 0 rfl) ?_
    refine gf_X2_42 (v := nI ln) hC hw hln dX2_see_9 ?_
    refine lv_sipush (v := nI 10000) hC.1 hC.2.1 dX2_see_12 (by decide) ?_
    refine q_cmpge hC 45 (cNle (by omega) (by omega)) dX2_see_15 (by decide) (fun (c5 : 10000 ≤ ln) => ?_) (fun (c5 : ln < 10000) => ?_)
    · refine hret _ _ _ _ _ hw ?_ dX2_see_45
      rw [show seeL x bf (σ 25, σ 26, ln) = (σ 25, σ 26, ln) from if_neg (fun q => absurd q.2 (by have := c5; simpa using this)), ← hln]
      funext j_ x_
      by_cases e0 : j_ = 0
      · subst e0
        by_cases y7 : x_ = 7
        · subst y7; rfl
        · simp [sr, upd, y7]
      · by_cases e25 : j_ = 25
        · subst e25; rfl
        · by_cases e26 : j_ = 26
          · subst e26; rfl
          · simp only [sr, e0, e25, e26, if_false]
    · refine lv_aload_n hC.1 hC.2.1 dX2_see_18 rfl (lv_at hl 0 rfl) ?_
      refine gf_X2_21 hC hw dX2_see_19 ?_
      refine lv_iload_n hC.1 hC.2.1 dX2_see_22 rfl (lv_at hl 1 rfl) ?_
      refine lv_iload_n hC.1 hC.2.1 dX2_see_23 rfl (lv_at hl 2 rfl) ?_
      refine as_X26 hC hw (by omega) dX2_see_24 (fun H locs hw => ?_)
      have hw : Wst E (XW E a) (sr σ 26 (upd (σ 26) x (nI bf))) A s.heap H locs := hw
      refine lv_aload_n hC.1 hC.2.1 dX2_see_25 rfl (lv_at hl 0 rfl) ?_
      refine gf_X2_18 hC hw dX2_see_26 ?_
      refine lv_aload_n hC.1 hC.2.1 dX2_see_29 rfl (lv_at hl 0 rfl) ?_
      refine gf_X2_42 (v := nI ln) hC hw hln dX2_see_30 ?_
      refine lv_iload_n hC.1 hC.2.1 dX2_see_33 rfl (lv_at hl 1 rfl) ?_
      refine as_X25 hC hw (by omega) dX2_see_34 (fun H locs hw => ?_)
      have hw : Wst E (XW E a) (sr (sr σ 26 (upd (σ 26) x (nI bf))) 25 (upd (σ 25) ln (nI x))) A s.heap H locs := hw
      have hst_ : sr (sr σ 26 (upd (σ 26) x (nI bf))) 25 (upd (σ 25) ln (nI x)) = sr (sr σ 25 (upd (σ 25) ln (nI x))) 26 (upd (σ 26) x (nI bf)) := by
        funext j_ x_
        by_cases e0 : j_ = 0
        · subst e0
          rfl
        · by_cases e25 : j_ = 25
          · subst e25; rfl
          · by_cases e26 : j_ = 26
            · subst e26; rfl
            · simp only [sr, e0, e25, e26, if_false]
      rw [hst_] at hw
      refine lv_aload_n hC.1 hC.2.1 dX2_see_35 rfl (lv_at hl 0 rfl) ?_
      refine lv_dup hC.1 hC.2.1 dX2_see_36 rfl ?_
      refine gf_X2_42 (v := nI ln) hC hw hln dX2_see_37 ?_
      refine lv_iconst (v := nI 1) hC.1 hC.2.1 dX2_see_40 (by decide) ?_
      refine q_addN hC dX2_see_41 ?_
      refine pf_X2_42 hC hw dX2_see_42 (fun H locs hw => ?_)
      have hw : Wst E (XW E a) (sr (sr (sr σ 25 (upd (σ 25) ln (nI x))) 26 (upd (σ 26) x (nI bf))) 0 (upd (σ 0) 7 (nI (ln + 1)))) A s.heap H locs := hw
      refine hret _ _ _ _ _ hw ?_ dX2_see_45
      rw [show seeL x bf (σ 25, σ 26, ln) = (upd (σ 25) ln (nI x), upd (σ 26) x (nI bf), ln + 1) from if_pos ⟨c4, c5⟩]
