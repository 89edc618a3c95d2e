def mixp (q pp : Nat → Nat) (k : Nat) : Nat → Nat := fun i => if i < k then q i else pp i
theorem mix_s {q pp : Nat → Nat} {k : Nat} : pu (mixp q pp k) k (q k) = mixp q pp (k + 1) := funext fun i => by
  show (if i = k then q k else (if i < k then q i else pp i)) = (if i < k + 1 then q i else pp i)
  by_cases e : i = k
  · subst e; rw [if_pos rfl, if_pos (by omega)]
  · by_cases z : i < k
    · rw [if_neg e, if_pos z, if_pos (by omega)]
    · rw [if_neg e, if_neg z, if_neg (by omega)]
theorem mix_ok {nh fm fz k : Nat} {q pp : Nat → Nat} (hq : OKP nh fm fz q) (hp : OKP nh fm fz pp) : OKP nh fm fz (mixp q pp k) := fun i hi => by
  unfold mixp; split
  · exact hq i hi
  · exact hp i hi
theorem OKP.put {nh fm fz k x : Nat} {q : Nat → Nat} (hq : OKP nh fm fz q) (hx : x = 10 ∨ (x < nh ∧ x ≠ fz)) : OKP nh fm fz (pu q k x) := fun i hi => by
  unfold pu; split
  · exact hx
  · exact hq i hi
theorem at_upd {fz fm k x : Nat} {q : Nat → Nat} {d : Nat → Int32} {y : Int32} (h : ∀ i, i < fm → d i = atI fz (q i)) (hy : y = atI fz x) : ∀ i, i < fm → upd d k y i = atI fz (pu q k x i) := fun i hi => by
  show (if i = k then y else d i) = atI fz (if i = k then x else q i)
  by_cases e : i = k
  · rw [if_pos e, if_pos e]; exact hy
  · rw [if_neg e, if_neg e]; exact h i hi
theorem pu_back {q : Nat → Nat} {k x : Nat} : pu (pu q k x) k (q k) = q := funext fun i => by
  show (if i = k then q k else (if i = k then x else q i)) = q i
  by_cases e : i = k
  · rw [if_pos e, e]
  · rw [if_neg e, if_neg e]
def gC (E0 : St) (F : Nat → Nat) (fm : Nat) (P0 : Nat → Int32) (nh nj : Nat) (q : Nat → Nat) : Nat → Nat → Bool := fun k h => decide (fitC E0 F fm P0 nh nj q k h)
def aC (fz : Nat) (q : Nat → Nat) : Nat → Bool := fun k => decide (fz = 10 ∨ q k = 10)
theorem okP_pP {F : Nat → Nat} {P0 : Nat → Int32} {p : Nat → Nat} {nh nj m : Nat} (h0 : okP P0 nh nj) (hF : Fok F m nj) (hp : okC nh m p) : okP (pP F P0 p m) nh nj := fun j hj => by
  by_cases e : ∃ i, i < m ∧ j = F i
  · obtain ⟨i, hi, rfl⟩ := e
    rw [pP_at hF.2 hi]
    rcases hp i hi with z | z
    · rw [z]; exact Or.inl rfl
    · unfold plc; split
      · exact Or.inl rfl
      · exact Or.inr ⟨p i, z, rfl⟩
  · rw [pP_no (fun i hi q => e ⟨i, hi, q⟩)]; exact h0 j hj
theorem gC_why {E0 : St} {F : Nat → Nat} {fm nh nj k h : Nat} {P0 : Nat → Int32} {q : Nat → Nat} (hn : nh ≤ 10) (h0 : okP P0 nh nj) (hF : Fok F fm nj) (hq : okC nh fm q) (hk : k < fm) (hh : h < nh) : m_why E0 (pP F P0 (pu q k 10) fm) nh nj (F k) h = 0 ↔ gC E0 F fm P0 nh nj q k h = true := by
  unfold gC
  rw [decide_eq_true_iff]
  unfold fitC
  rw [m_why_congr agE.rf (fun j _ => pP_pu hF hk j) (okP_pP h0 hF (fun i hi => by unfold pu; split; exact Or.inl rfl; exact hq i hi)) hn (hF.1 k hk) hh]
  exact Iff.rfl
theorem seeL_le {x bf : Nat} {S : L3} (h : S.2.2 ≤ 10000) : (seeL x bf S).2.2 ≤ 10000 := by
  unfold seeL; split
  case isTrue q => exact q.2
  case isFalse q => exact h
theorem lnH_le {g : Nat → Nat → Bool} {x k : Nat} {S : L3} (h : S.2.2 ≤ 10000) : ∀ n, (lnH g x k S n).2.2 ≤ 10000
  | 0 => h
  | n + 1 => by
    rw [lnH]; split
    · exact seeL_le (lnH_le h n)
    · exact lnH_le h n
theorem lnK_le {g : Nat → Nat → Bool} {a : Nat → Bool} {x nh : Nat} {S : L3} (h : S.2.2 ≤ 10000) : ∀ n, (lnK g a x nh S n).2.2 ≤ 10000
  | 0 => h
  | n + 1 => by
    rw [lnK]; split
    · exact lnH_le (lnK_le h n) nh
    · exact lnK_le h n
theorem dig_le (x k : Nat) : (x / 10 ^ k % 10) * 10 ^ k ≤ x := by
  have h1 := Nat.div_mul_le_self x (10 ^ k)
  have h2 := Nat.mod_le (x / 10 ^ k) 10
  exact Nat.le_trans (Nat.mul_le_mul_right _ h2) h1
theorem nxt_eq {x k h fz : Nat} {q : Nat → Nat} (e : atI fz (q k) = nI (x / 10 ^ k % 10)) : (nI x) + (((nI h) - (atI fz (q k))) * (nI (10 ^ k))) = nI (nxt x k h) := by
  unfold nxt
  rw [e, ← nI_add, ← pk_sub (dig_le x k), ← pk_mul, ← pk_mul]
  generalize nI x = a; generalize nI h = b; generalize nI (x / 10 ^ k % 10) = c; generalize nI (10 ^ k) = d
  grind
theorem nxt_lt {x k h fm : Nat} (hx : x < 10 ^ fm) (hk : k < fm) (hm : fm ≤ 4) (hh : h < 10) : nxt x k h < 10000 := by
  unfold nxt
  have h0 : 10 ^ fm ≤ 10 ^ 4 := Nat.pow_le_pow_right (by decide) hm
  have h1 := dig_le x k
  rcases (show k = 0 ∨ k = 1 ∨ k = 2 ∨ k = 3 by omega) with e | e | e | e <;> subst e
  · simp only [Nat.pow_zero] at *; omega
  · rcases (show fm = 2 ∨ fm = 3 ∨ fm = 4 by omega) with z | z | z <;> subst z <;> simp only [Nat.reducePow] at * <;> omega
  · rcases (show fm = 3 ∨ fm = 4 by omega) with z | z <;> subst z <;> simp only [Nat.reducePow] at * <;> omega
  · obtain rfl : fm = 4 := by omega
    simp only [Nat.reducePow] at *; omega
theorem plc_10 {fz : Nat} (hf : fz ≤ 10) (h : plc fz = (-1)) : fz = 10 := Classical.byContradiction fun e => by
  unfold plc at h; rw [if_neg e] at h
  exact nI_nm1 (by omega) h.symm
set_option maxHeartbeats 4000000 in
set_option maxRecDepth 100000 in
theorem tX2_lookFrom (l : Launch) (E : EV) (a : Nat → Nat) (σ : St) (fm : Nat) (x : Nat) (hm : σ 0 6 = nI fm) (hm4 : fm ≤ 4) (hx : x < 10 ^ fm) : MV l E (XW E a) yX2_lookFrom (Cond.code yX2_lookFrom cX2_lookFrom 3 none) ({ frames := 3, cells := 0, slots := 0, locals := 64 }) [.ref (a 63), .int (nI x)] σ (fun u_ => u_ = sr (sr (sr σ 25 (upd (σ 25) 0 (nI x))) 26 (upd (fil (10 ^ fm) (-1) (σ 26)) x (nI x))) 0 (upd (σ 0) 7 (nI 1))) := by
  refine MV.mk (by decide +kernel) (Nat.le_of_ble_eq_true rfl) ?_
  intro p e s m args below meth c ls A Q hret hC hw hl
  have hC : Cxt E p s m args meth c cX2_lookFrom 3 none RX2 A := hC
  have hl : lv_has ls 3 [(0, .ref (a 63)), (1, .int (nI x))] := hl
  have hp10 := pow10 (show fm < 5 by omega)
  refine lv_iconst (v := nI 0) hC.1 hC.2.1 dX2_lookFrom_0 (by decide) ?_
  refine lv_istore_n (lv' := [(2, .int (nI 0)), (0, .ref (a 63)), (1, .int (nI x))]) hC.1 hC.2.1 dX2_lookFrom_1 rfl hl (by decide) rfl (fun ls hl => ?_)
  have L2_0 : ∀ (n : Nat), ∀ (k : Nat), (k ≤ 10 ^ fm) → (10 ^ fm - k) < n → ∀ (H : Heap) (locs : List Loc) (ls : Array Slot), Wst E (XW E a) (sr σ 26 (fil k (-1) (σ 26))) A s.heap H locs → lv_has ls 3 [(0, .ref (a 63)), (1, .int (nI x)), (2, .int (nI k))] → W p l e ({ frames := 3, cells := 0, slots := 0, locals := 64 }) s m args below meth c H locs 0 0 Q (F0 m 2 ls []) := by
    intro n
    induction n with
    | zero => intro k hk hn; exact absurd hn (Nat.not_lt_zero _)
    | succ n ih2 =>
      intro k hk hn2 H locs ls hw hl
      refine lv_iload_n hC.1 hC.2.1 dX2_lookFrom_2 rfl (lv_at hl 2 rfl) ?_
      refine q_pow wk3_169 hC hw dX2_lookFrom_3 ?_
      refine lv_aload_n hC.1 hC.2.1 dX2_lookFrom_6 rfl (lv_at hl 0 rfl) ?_
      refine gf_X2_28 (v := nI fm) hC hw hm dX2_lookFrom_7 ?_
      refine q_powld (v := nI (10 ^ fm)) hC hw (by omega) rfl dX2_lookFrom_10 ?_
      refine q_cmpge hC 27 (cNle (by omega) (by omega)) dX2_lookFrom_11 (by decide) (fun (c2 : (10 ^ fm) ≤ k) => ?_) (fun (c2 : k < (10 ^ fm)) => ?_)
      · have hk9 : k = 10 ^ fm := by omega
        rw [hk9] at hw
        refine lv_aload_n hC.1 hC.2.1 dX2_lookFrom_27 rfl (lv_at hl 0 rfl) ?_
        refine lv_iconst (v := nI 0) hC.1 hC.2.1 dX2_lookFrom_28 (by decide) ?_
        refine pf_X2_42 hC hw dX2_lookFrom_29 (fun H locs hw => ?_)
        have hw : Wst E (XW E a) (sr (sr σ 26 (fil (10 ^ fm) (-1) (σ 26))) 0 (upd (σ 0) 7 (nI 0))) A s.heap H locs := hw
        refine lv_aload_n hC.1 hC.2.1 dX2_lookFrom_32 rfl (lv_at hl 0 rfl) ?_
        refine lv_iload_n hC.1 hC.2.1 dX2_lookFrom_33 rfl (lv_at hl 1 rfl) ?_
        refine lv_iload_n hC.1 hC.2.1 dX2_lookFrom_34 rfl (lv_at hl 1 rfl) ?_
        refine q_callVvp (As := [.int (nI x), .int (nI x)]) (rest := []) (q0 := 3) hC hw hl (tX2_see l E a (sr (sr σ 26 (fil (10 ^ fm) (-1) (σ 26))) 0 (upd (σ 0) 7 (nI 0))) 0 x x (by omega) rfl (by omega)) (q_cwV hC.2.2.2.2.1 ⟨rfl, rfl⟩ wk3_175 wk3_177 wks_1_14 wk1_7 wk3_178 hd_X2_see ⟨Nat.le_of_ble_eq_true rfl, Nat.le_of_ble_eq_true rfl⟩) rfl rfl rfl rfl rfl (Nat.le_of_ble_eq_true rfl) dX2_lookFrom_35 (fun H locs hw => ?_)
        have hw : Wst E (XW E a) (sr (sr (sr σ 25 ((seeL x x ((σ 25), (fil (10 ^ fm) (-1) (σ 26)), 0)).1)) 26 ((seeL x x ((σ 25), (fil (10 ^ fm) (-1) (σ 26)), 0)).2.1)) 0 (upd (σ 0) 7 (nI (seeL x x ((σ 25), (fil (10 ^ fm) (-1) (σ 26)), 0)).2.2))) A s.heap H locs := hw
        refine hret _ _ _ _ _ hw ?_ dX2_lookFrom_38
        rw [show seeL x x (σ 25, fil (10 ^ fm) (-1) (σ 26), 0) = (upd (σ 25) 0 (nI x), upd (fil (10 ^ fm) (-1) (σ 26)) x (nI x), 1) from if_pos ⟨if_pos hx, by show 0 < 10000; decide⟩]
      · refine lv_aload_n hC.1 hC.2.1 dX2_lookFrom_14 rfl (lv_at hl 0 rfl) ?_
        refine gf_X2_21 hC hw dX2_lookFrom_15 ?_
        refine lv_iload_n hC.1 hC.2.1 dX2_lookFrom_18 rfl (lv_at hl 2 rfl) ?_
        refine lv_iconst (v := (-1)) hC.1 hC.2.1 dX2_lookFrom_19 (by decide) ?_
        refine as_X26 hC hw (by omega) dX2_lookFrom_20 (fun H locs hw => ?_)
        have hw : Wst E (XW E a) (sr (sr σ 26 (fil k (-1) (σ 26))) 26 (upd (fil k (-1) (σ 26)) k ((-1)))) A s.heap H locs := hw
        have hst_ : sr (sr σ 26 (fil k (-1) (σ 26))) 26 (upd (fil k (-1) (σ 26)) k ((-1))) = sr σ 26 (upd (fil k (-1) (σ 26)) k ((-1))) := by
          funext j_ x_
          by_cases e0 : j_ = 0
          · subst e0
            rfl
          · by_cases e26 : j_ = 26
            · subst e26; rfl
            · simp only [sr, e0, e26, if_false]
        rw [hst_] at hw
        refine lv_iinc (v := nI (k + 1)) (lv' := [(2, .int (nI (k + 1))), (0, .ref (a 63)), (1, .int (nI x))]) hC.1 hC.2.1 dX2_lookFrom_21 hl (k := 2) rfl (nI_add _ _) (by decide) rfl (fun ls hl => ?_)
        refine lv_goto (tgt := 2) hC.1 hC.2.1 dX2_lookFrom_24 (by decide) ?_
        rw [fil_s] at hw
        exact ih2 (k + 1) (by omega) (by omega) _ _ _ hw (lv_sub hl [1, 2, 0] rfl)
  have hw : Wst E (XW E a) (sr σ 26 (fil 0 (-1) (σ 26))) A s.heap s.heap [] := by rw [fil_0, sr_id]; exact hw
  exact L2_0 _ 0 (Nat.zero_le _) (Nat.lt_succ_self _) _ _ _ hw (lv_sub hl [1, 2, 0] rfl)
set_option maxHeartbeats 4000000 in
set_option maxRecDepth 100000 in
theorem tX2_lineUpNext (l : Launch) (E : EV) (a : Nat → Nat) (σ : St) (nh : Nat) (nj : Nat) (E0 : St) (fm : Nat) (fz : Nat) (F : Nat → Nat) (P0 : Nat → Int32) (pp : Nat → Nat) (q : Nat → Nat) (ln : Nat) (x : Nat) (hN : cN2 σ nh nj) (hE : aE σ E0) (hS : cS E0 nh nj) (hFS : FSr E0 (pP F P0 (pp) fm) nh nj (σ 16) (σ 17) (σ 18) (σ 19) (σ 20) (σ 21)) (hm : σ 0 6 = nI fm) (hm4 : fm ≤ 4) (h8 : σ 0 8 = plc fz) (hfz : fz ≤ 10) (hF : ∀ i, i < fm → σ 23 i = nI (F i) ∧ F i < nj) (hFk : Fok F fm nj) (hat : ∀ i, i < fm → σ 24 i = atI fz (pp i)) (hp : OKP nh fm fz pp) (hq : OKP nh fm fz q) (hq10 : ∀ k, k < fm → q k = 10 → fz ≠ 10) (hx : x < 10 ^ fm) (hxd : ∀ k, k < fm → x / 10 ^ k % 10 = dz fz (q k)) (hln : σ 0 7 = nI ln) (hln2 : ln ≤ 10000) (hP0 : okP P0 nh nj) : MV l E (XW E a) yX2_lineUpNext (Cond.code yX2_lineUpNext cX2_lineUpNext 6 none) ({ frames := 3, cells := 0, slots := 0, locals := 73 }) [.ref (a 63), .int (nI x)] σ (fun u_ => ∃ (b16 b17 b18 b19 b20 b21 b24 : Nat → Int32), FSr E0 (pP F P0 q fm) nh nj b16 b17 b18 b19 b20 b21 ∧ (∀ i, i < fm → b24 i = atI fz (q i)) ∧ u_ = sr (sr (sr (sr (sr (sr (sr (sr (sr (sr σ 16 b16) 17 b17) 18 b18) 19 b19) 20 b20) 21 b21) 24 b24) 25 ((lnK (gC E0 F fm P0 nh nj q) (aC fz q) x nh ((σ 25), (σ 26), ln) fm).1)) 26 ((lnK (gC E0 F fm P0 nh nj q) (aC fz q) x nh ((σ 25), (σ 26), ln) fm).2.1)) 0 (upd (σ 0) 7 (nI ((lnK (gC E0 F fm P0 nh nj q) (aC fz q) x nh ((σ 25), (σ 26), ln) fm).2.2)))) := by
  refine MV.mk (by decide +kernel) (Nat.le_of_ble_eq_true rfl) ?_
  intro p e s m args below meth c ls A Q hret hC hw hl
  have hC : Cxt E p s m args meth c cX2_lineUpNext 6 none RX2 A := hC
  have hl : lv_has ls 6 [(0, .ref (a 63)), (1, .int (nI x))] := hl
  have hnh := hS.1
  have hnj := hS.2.1
  have hp10 := pow10 (show fm < 5 by omega)
  have hx4 : x < 10000 := by omega
  refine lv_iconst (v := nI 0) hC.1 hC.2.1 dX2_lineUpNext_0 (by decide) ?_
  refine lv_istore_n (lv' := [(2, .int (nI 0)), (0, .ref (a 63)), (1, .int (nI x))]) hC.1 hC.2.1 dX2_lineUpNext_1 rfl hl (by decide) rfl (fun ls hl => ?_)
  have L2_0 : ∀ (n : Nat), ∀ (k : Nat), ∀ (d16 : Nat → Int32), ∀ (d17 : Nat → Int32), ∀ (d18 : Nat → Int32), ∀ (d19 : Nat → Int32), ∀ (d20 : Nat → Int32), ∀ (d21 : Nat → Int32), ∀ (d24 : Nat → Int32), (k ≤ fm) → (FSr E0 (pP F P0 (mixp q pp k) fm) nh nj d16 d17 d18 d19 d20 d21) → (∀ i, i < fm → d24 i = atI fz (mixp q pp k i)) → (fm - k) < n → ∀ (H : Heap) (locs : List Loc) (ls : Array Slot), Wst E (XW E a) (sr (sr (sr (sr (sr (sr (sr σ 16 (d16)) 17 (d17)) 18 (d18)) 19 (d19)) 20 (d20)) 21 (d21)) 24 (d24)) A s.heap H locs → lv_has ls 6 [(0, .ref (a 63)), (1, .int (nI x)), (2, .int (nI k))] → W p l e ({ frames := 3, cells := 0, slots := 0, locals := 73 }) s m args below meth c H locs 0 0 Q (F0 m 2 ls []) := by
    intro n
    induction n with
    | zero => intro k d16 d17 d18 d19 d20 d21 d24 hk hF0 hat0 hn; exact absurd hn (Nat.not_lt_zero _)
    | succ n ih2 =>
      intro k d16 d17 d18 d19 d20 d21 d24 hk hF0 hat0 hn2 H locs ls hw hl
      refine lv_iload_n hC.1 hC.2.1 dX2_lineUpNext_2 rfl (lv_at hl 2 rfl) ?_
      refine lv_aload_n hC.1 hC.2.1 dX2_lineUpNext_3 rfl (lv_at hl 0 rfl) ?_
      refine gf_X2_28 (v := nI fm) hC hw hm dX2_lineUpNext_4 ?_
      refine q_cmpge hC 27 (cNle (by omega) (by omega)) dX2_lineUpNext_7 (by decide) (fun (c2 : fm ≤ k) => ?_) (fun (c2 : k < fm) => ?_)
      · refine lv_iconst (v := nI 0) hC.1 hC.2.1 dX2_lineUpNext_27 (by decide) ?_
        refine lv_istore_n (lv' := [(2, .int (nI 0)), (0, .ref (a 63)), (1, .int (nI x))]) hC.1 hC.2.1 dX2_lineUpNext_28 rfl hl (by decide) rfl (fun ls hl => ?_)
        have L29_2 : ∀ (n : Nat), ∀ (k : Nat), ∀ (d16 : Nat → Int32), ∀ (d17 : Nat → Int32), ∀ (d18 : Nat → Int32), ∀ (d19 : Nat → Int32), ∀ (d20 : Nat → Int32), ∀ (d21 : Nat → Int32), ∀ (d24 : Nat → Int32), ∀ (d25 : Nat → Int32), ∀ (d26 : Nat → Int32), ∀ (dl : Nat), (k ≤ fm) → (FSr E0 (pP F P0 (q) fm) nh nj d16 d17 d18 d19 d20 d21) → (∀ i, i < fm → d24 i = atI fz (q i)) → ((d25, d26, dl) = lnK (gC E0 F fm P0 nh nj q) (aC fz q) x nh (σ 25, σ 26, ln) k) → (fm - k) < n → ∀ (H : Heap) (locs : List Loc) (ls : Array Slot), Wst E (XW E a) (sr (sr (sr (sr (sr (sr (sr (sr (sr (sr σ 16 (d16)) 17 (d17)) 18 (d18)) 19 (d19)) 20 (d20)) 21 (d21)) 24 (d24)) 25 (d25)) 26 (d26)) 0 (upd (σ 0) 7 (nI dl))) A s.heap H locs → lv_has ls 6 [(0, .ref (a 63)), (1, .int (nI x)), (2, .int (nI k))] → W p l e ({ frames := 3, cells := 0, slots := 0, locals := 73 }) s m args below meth c H locs 0 0 Q (F0 m 29 ls []) := by
          intro n
          induction n with
          | zero => intro k d16 d17 d18 d19 d20 d21 d24 d25 d26 dl hk hF1 hat1 hS7 hn; exact absurd hn (Nat.not_lt_zero _)
          | succ n ih29 =>
            intro k d16 d17 d18 d19 d20 d21 d24 d25 d26 dl hk hF1 hat1 hS7 hn29 H locs ls hw hl
            have hdl : dl ≤ 10000 := by have := lnK_le (g := (gC E0 F fm P0 nh nj q)) (a := (aC fz q)) (x := x) (nh := nh) (S := (σ 25, σ 26, ln)) hln2 k; rw [← hS7] at this; exact this
            refine lv_iload_n hC.1 hC.2.1 dX2_lineUpNext_29 rfl (lv_at hl 2 rfl) ?_
            refine lv_aload_n hC.1 hC.2.1 dX2_lineUpNext_30 rfl (lv_at hl 0 rfl) ?_
            refine gf_X2_28 (v := nI fm) hC hw hm dX2_lineUpNext_31 ?_
            refine q_cmpge hC 153 (cNle (by omega) (by omega)) dX2_lineUpNext_34 (by decide) (fun (c4 : fm ≤ k) => ?_) (fun (c4 : k < fm) => ?_)
            · refine hret _ _ _ _ _ hw ?_ dX2_lineUpNext_153
              have hk9 : k = fm := by omega
              rw [hk9] at hS7
              rw [← hS7]
              exact ⟨d16, d17, d18, d19, d20, d21, d24, hF1, hat1, rfl⟩
            · refine lv_aload_n hC.1 hC.2.1 dX2_lineUpNext_37 rfl (lv_at hl 0 rfl) ?_
              refine gf_X2_15 hC hw dX2_lineUpNext_38 ?_
              refine lv_iload_n hC.1 hC.2.1 dX2_lineUpNext_41 rfl (lv_at hl 2 rfl) ?_
              refine al_X24 (v := atI fz (q k)) hC hw (by omega) (hat1 k (by omega)) dX2_lineUpNext_42 ?_
              refine lv_istore_n (lv' := [(3, .int (atI fz (q k))), (0, .ref (a 63)), (1, .int (nI x)), (2, .int (nI k))]) hC.1 hC.2.1 dX2_lineUpNext_43 rfl hl (by decide) rfl (fun ls hl => ?_)
              refine lv_aload_n hC.1 hC.2.1 dX2_lineUpNext_44 rfl (lv_at hl 1 rfl) ?_
              refine gf_X2_32 (v := plc fz) hC hw h8 dX2_lineUpNext_45 ?_
              refine lv_iconst (v := (-1)) hC.1 hC.2.1 dX2_lineUpNext_48 (by decide) ?_
              refine q_cmpeq hC 60 cI dX2_lineUpNext_49 (by decide) (fun (c5 : plc fz = (-1)) => ?_) (fun (c5 : ¬ (plc fz = (-1))) => ?_)
              · have hak : aC fz q k = true := decide_eq_true (Or.inl (plc_10 hfz c5))
                refine lv_aload_n hC.1 hC.2.1 dX2_lineUpNext_60 rfl (lv_at hl 1 rfl) ?_
                refine lv_iload_n hC.1 hC.2.1 dX2_lineUpNext_61 rfl (lv_at hl 3 rfl) ?_
                refine lv_aload_n hC.1 hC.2.1 dX2_lineUpNext_62 rfl (lv_at hl 1 rfl) ?_
                refine gf_X2_32 (v := plc fz) hC hw h8 dX2_lineUpNext_63 ?_
                refine q_callVv (As := [.int (nI k), .int (plc fz)]) (rest := []) (q0 := 3) hC hw hl (tX2_put l E a (sr (sr (sr (sr (sr (sr (sr (sr (sr (sr σ 16 (d16)) 17 (d17)) 18 (d18)) 19 (d19)) 20 (d20)) 21 (d21)) 24 (d24)) 25 (d25)) 26 (d26)) 0 (upd (σ 0) 7 (nI dl))) nh nj E0 fm fz F P0 q 10 k (plc fz) hN hE hS hF1 hm4 h8 hfz (show k < fm by omega) hF hFk hat1 hq (Or.inl rfl) rfl) (q_cwV hC.2.2.2.2.1 ⟨rfl, rfl⟩ wk3_195 wk3_197 wks_1_15 wk1_7 wk3_198 hd_X2_put ⟨Nat.le_of_ble_eq_true rfl, Nat.le_of_ble_eq_true rfl⟩) rfl rfl rfl rfl rfl (Nat.le_of_ble_eq_true rfl) dX2_lineUpNext_66 (fun u8 H locs p6 hw => ?_)
                obtain ⟨b16_9, b17_10, b18_11, b19_12, b20_13, b21_14, hFu8, huu8⟩ := p6
                subst huu8
                have hst_ : sr (sr (sr (sr (sr (sr (sr (sr (sr (sr (sr (sr (sr (sr (sr (sr (sr σ 16 (d16)) 17 (d17)) 18 (d18)) 19 (d19)) 20 (d20)) 21 (d21)) 24 (d24)) 25 (d25)) 26 (d26)) 0 (upd (σ 0) 7 (nI dl))) 16 b16_9) 17 b17_10) 18 b18_11) 19 b19_12) 20 b20_13) 21 b21_14) 24 (upd ((sr (sr (sr (sr (sr (sr (sr (sr (sr (sr σ 16 (d16)) 17 (d17)) 18 (d18)) 19 (d19)) 20 (d20)) 21 (d21)) 24 (d24)) 25 (d25)) 26 (d26)) 0 (upd (σ 0) 7 (nI dl))) 24) k (plc fz)) = sr (sr (sr (sr (sr (sr (sr (sr (sr (sr σ 16 (b16_9)) 17 (b17_10)) 18 (b18_11)) 19 (b19_12)) 20 (b20_13)) 21 (b21_14)) 24 (upd (d24) k (plc fz))) 25 (d25)) 26 (d26)) 0 (upd (σ 0) 7 (nI dl)) := by
                  funext j_ x_
                  by_cases e0 : j_ = 0
                  · subst e0
                    by_cases y7 : x_ = 7
                    · subst y7; rfl
                    · simp [sr, upd, y7]
                  · by_cases e16 : j_ = 16
                    · subst e16; rfl
                    · by_cases e17 : j_ = 17
                      · subst e17; rfl
                      · by_cases e18 : j_ = 18
                        · subst e18; rfl
                        · by_cases e19 : j_ = 19
                          · subst e19; rfl
                          · by_cases e20 : j_ = 20
                            · subst e20; rfl
                            · by_cases e21 : j_ = 21
                              · subst e21; rfl
                              · by_cases e24 : j_ = 24
                                · subst e24; rfl
                                · by_cases e25 : j_ = 25
                                  · subst e25; rfl
                                  · by_cases e26 : j_ = 26
                                    · subst e26; rfl
                                    · simp only [sr, e0, e16, e17, e18, e19, e20, e21, e24, e25, e26, if_false]
                rw [hst_] at hw
                have hF3 := hFu8
                refine lv_iconst (v := nI 0) hC.1 hC.2.1 dX2_lineUpNext_69 (by decide) ?_
                refine lv_istore (lv' := [(4, .int (nI 0)), (3, .int (atI fz (q k))), (0, .ref (a 63)), (1, .int (nI x)), (2, .int (nI k))]) hC.1 hC.2.1 dX2_lineUpNext_70 hl (by decide) rfl (fun ls hl => ?_)
                have L72_14 : ∀ (n : Nat), ∀ (h : Nat), ∀ (e25 : Nat → Int32), ∀ (e26 : Nat → Int32), ∀ (el : Nat), (h ≤ nh) → ((e25, e26, el) = lnH (gC E0 F fm P0 nh nj q) x k (d25, d26, dl) h) → (nh - h) < n → ∀ (H : Heap) (locs : List Loc) (ls : Array Slot), Wst E (XW E a) (sr (sr (sr (sr (sr (sr (sr (sr (sr (sr σ 16 (b16_9)) 17 (b17_10)) 18 (b18_11)) 19 (b19_12)) 20 (b20_13)) 21 (b21_14)) 24 (upd (d24) k (plc fz))) 25 (e25)) 26 (e26)) 0 (upd (σ 0) 7 (nI el))) A s.heap H locs → lv_has ls 6 [(0, .ref (a 63)), (1, .int (nI x)), (2, .int (nI k)), (3, .int (atI fz (q k))), (4, .int (nI h))] → W p l e ({ frames := 3, cells := 0, slots := 0, locals := 73 }) s m args below meth c H locs 0 0 Q (F0 m 72 ls []) := by
                  intro n
                  induction n with
                  | zero => intro h e25 e26 el hh hE3 hn; exact absurd hn (Nat.not_lt_zero _)
                  | succ n ih72 =>
                    intro h e25 e26 el hh hE3 hn72 H locs ls hw hl
                    have hel : el ≤ 10000 := by have := lnH_le (g := (gC E0 F fm P0 nh nj q)) (x := x) (k := k) (S := (d25, d26, dl)) hdl h; rw [← hE3] at this; exact this
                    refine lv_iload hC.1 hC.2.1 dX2_lineUpNext_72 (lv_at hl 4 rfl) ?_
                    refine lv_aload_n hC.1 hC.2.1 dX2_lineUpNext_74 rfl (lv_at hl 0 rfl) ?_
                    refine gf_X2_24 hC hw dX2_lineUpNext_75 ?_
                    refine gf_X2_60 hC hw dX2_lineUpNext_78 ?_
                    refine gf_X2_66 (v := nI nh) hC hw hN.1 dX2_lineUpNext_81 ?_
                    refine q_cmpge hC 141 (cNle (by omega) (by omega)) dX2_lineUpNext_84 (by decide) (fun (c16 : nh ≤ h) => ?_) (fun (c16 : h < nh) => ?_)
                    · refine lv_aload_n hC.1 hC.2.1 dX2_lineUpNext_141 rfl (lv_at hl 0 rfl) ?_
                      refine lv_iload_n hC.1 hC.2.1 dX2_lineUpNext_142 rfl (lv_at hl 2 rfl) ?_
                      refine lv_iload_n hC.1 hC.2.1 dX2_lineUpNext_143 rfl (lv_at hl 3 rfl) ?_
                      refine q_callVv (As := [.int (nI k), .int (atI fz (q k))]) (rest := []) (q0 := 3) hC hw hl (tX2_put l E a (sr (sr (sr (sr (sr (sr (sr (sr (sr (sr σ 16 (b16_9)) 17 (b17_10)) 18 (b18_11)) 19 (b19_12)) 20 (b20_13)) 21 (b21_14)) 24 (upd (d24) k (plc fz))) 25 (e25)) 26 (e26)) 0 (upd (σ 0) 7 (nI el))) nh nj E0 fm fz F P0 (pu q k 10) (q k) k (atI fz (q k)) hN hE hS hF3 hm4 h8 hfz (show k < fm by omega) hF hFk (at_upd hat1 rfl) (hq.put (Or.inl rfl)) (hq k (by omega)) rfl) (q_cwV hC.2.2.2.2.1 ⟨rfl, rfl⟩ wk3_195 wk3_197 wks_1_15 wk1_7 wk3_198 hd_X2_put ⟨Nat.le_of_ble_eq_true rfl, Nat.le_of_ble_eq_true rfl⟩) rfl rfl rfl rfl rfl (Nat.le_of_ble_eq_true rfl) dX2_lineUpNext_144 (fun u19 H locs p17 hw => ?_)
                      obtain ⟨b16_20, b17_21, b18_22, b19_23, b20_24, b21_25, hFu19, huu19⟩ := p17
                      subst huu19
                      have hst_ : sr (sr (sr (sr (sr (sr (sr (sr (sr (sr (sr (sr (sr (sr (sr (sr (sr σ 16 (b16_9)) 17 (b17_10)) 18 (b18_11)) 19 (b19_12)) 20 (b20_13)) 21 (b21_14)) 24 (upd (d24) k (plc fz))) 25 (e25)) 26 (e26)) 0 (upd (σ 0) 7 (nI el))) 16 b16_20) 17 b17_21) 18 b18_22) 19 b19_23) 20 b20_24) 21 b21_25) 24 (upd ((sr (sr (sr (sr (sr (sr (sr (sr (sr (sr σ 16 (b16_9)) 17 (b17_10)) 18 (b18_11)) 19 (b19_12)) 20 (b20_13)) 21 (b21_14)) 24 (upd (d24) k (plc fz))) 25 (e25)) 26 (e26)) 0 (upd (σ 0) 7 (nI el))) 24) k (atI fz (q k))) = sr (sr (sr (sr (sr (sr (sr (sr (sr (sr σ 16 (b16_20)) 17 (b17_21)) 18 (b18_22)) 19 (b19_23)) 20 (b20_24)) 21 (b21_25)) 24 (upd (upd (d24) k (plc fz)) k (atI fz (q k)))) 25 (e25)) 26 (e26)) 0 (upd (σ 0) 7 (nI el)) := by
                        funext j_ x_
                        by_cases e0 : j_ = 0
                        · subst e0
                          by_cases y7 : x_ = 7
                          · subst y7; rfl
                          · simp [sr, upd, y7]
                        · by_cases e16 : j_ = 16
                          · subst e16; rfl
                          · by_cases e17 : j_ = 17
                            · subst e17; rfl
                            · by_cases e18 : j_ = 18
                              · subst e18; rfl
                              · by_cases e19 : j_ = 19
                                · subst e19; rfl
                                · by_cases e20 : j_ = 20
                                  · subst e20; rfl
                                  · by_cases e21 : j_ = 21
                                    · subst e21; rfl
                                    · by_cases e24 : j_ = 24
                                      · subst e24; rfl
                                      · by_cases e25 : j_ = 25
                                        · subst e25; rfl
                                        · by_cases e26 : j_ = 26
                                          · subst e26; rfl
                                          · simp only [sr, e0, e16, e17, e18, e19, e20, e21, e24, e25, e26, if_false]
                      rw [hst_] at hw
                      refine lv_iinc (v := nI (k + 1)) (lv' := [(2, .int (nI (k + 1))), (0, .ref (a 63)), (1, .int (nI x)), (3, .int (atI fz (q k))), (4, .int (nI h))]) hC.1 hC.2.1 dX2_lineUpNext_147 hl (k := 2) rfl (nI_add _ _) (by decide) rfl (fun ls hl => ?_)
                      refine lv_goto (tgt := 29) hC.1 hC.2.1 dX2_lineUpNext_150 (by decide) ?_
                      have hh9 : h = nh := by omega
                      have hS2 : (e25, e26, el) = lnK (gC E0 F fm P0 nh nj q) (aC fz q) x nh (σ 25, σ 26, ln) (k + 1) := by rw [lnK, if_pos hak, ← hS7]; rw [hh9] at hE3; exact hE3
                      rw [pu_back] at hFu19
                      exact ih29 (k + 1) b16_20 b17_21 b18_22 b19_23 b20_24 b21_25 (upd (upd (d24) k (plc fz)) k (atI fz (q k))) e25 e26 el (by omega) hFu19 (by have := at_upd (k := k) (x := q k) (at_upd (k := k) (x := 10) hat1 rfl) rfl; rw [pu_back] at this; exact this) hS2 (by omega) _ _ _ hw (lv_sub hl [1, 2, 0] rfl)
                    · refine lv_iload_n hC.1 hC.2.1 dX2_lineUpNext_87 rfl (lv_at hl 1 rfl) ?_
                      refine lv_iload hC.1 hC.2.1 dX2_lineUpNext_88 (lv_at hl 4 rfl) ?_
                      refine lv_iload_n hC.1 hC.2.1 dX2_lineUpNext_90 rfl (lv_at hl 3 rfl) ?_
                      refine lv_isub hC.1 hC.2.1 dX2_lineUpNext_91 ?_
                      refine q_pow wk3_169 hC hw dX2_lineUpNext_92 ?_
                      refine lv_iload_n hC.1 hC.2.1 dX2_lineUpNext_95 rfl (lv_at hl 2 rfl) ?_
                      refine q_powld (v := nI (10 ^ k)) hC hw (by omega) rfl dX2_lineUpNext_96 ?_
                      refine lv_imul hC.1 hC.2.1 dX2_lineUpNext_97 ?_
                      refine lv_iadd hC.1 hC.2.1 dX2_lineUpNext_98 ?_
                      have hnx := nxt_lt (k := k) (h := h) hx (by omega) hm4 (by omega)
                      refine q_top (y := nI (nxt x k h)) (nxt_eq ((atI_d (hq10 k (by omega))).trans (congrArg nI (hxd k (by omega)).symm))) ?_
                      refine lv_istore (lv' := [(5, .int (nI (nxt x k h))), (0, .ref (a 63)), (1, .int (nI x)), (2, .int (nI k)), (3, .int (atI fz (q k))), (4, .int (nI h))]) hC.1 hC.2.1 dX2_lineUpNext_99 hl (by decide) rfl (fun ls hl => ?_)
                      refine lv_aload_n hC.1 hC.2.1 dX2_lineUpNext_101 rfl (lv_at hl 1 rfl) ?_
                      refine lv_iload hC.1 hC.2.1 dX2_lineUpNext_102 (lv_at hl 0 rfl) ?_
                      refine q_callVp (As := [.int (nI (nxt x k h))]) (rest := []) (q0 := 3) hC hw hl (tX2_isUnseen l E a (sr (sr (sr (sr (sr (sr (sr (sr (sr (sr σ 16 (b16_9)) 17 (b17_10)) 18 (b18_11)) 19 (b19_12)) 20 (b20_13)) 21 (b21_14)) 24 (upd (d24) k (plc fz))) 25 (e25)) 26 (e26)) 0 (upd (σ 0) 7 (nI el))) (nxt x k h) (by first | assumption | omega)) (q_cwV hC.2.2.2.2.1 ⟨rfl, rfl⟩ wk3_179 wk3_180 wk3_181 wk1_7 wk3_182 hd_X2_isUnseen ⟨Nat.le_of_ble_eq_true rfl, Nat.le_of_ble_eq_true rfl⟩) rfl rfl rfl rfl rfl (Nat.le_of_ble_eq_true rfl) dX2_lineUpNext_104 (fun H locs hw => ?_)
                      refine q_ifeq hC 135 cB dX2_lineUpNext_107 (by decide) (fun (c29 : ¬ (e26 (nxt x k h) = -1)) => ?_) (fun (c29 : e26 (nxt x k h) = -1) => ?_)
                      · refine lv_iinc (v := nI (h + 1)) (lv' := [(4, .int (nI (h + 1))), (5, .int (nI (nxt x k h))), (0, .ref (a 63)), (1, .int (nI x)), (2, .int (nI k)), (3, .int (atI fz (q k)))]) hC.1 hC.2.1 dX2_lineUpNext_135 hl (k := 5) rfl (nI_add _ _) (by decide) rfl (fun ls hl => ?_)
                        refine lv_goto (tgt := 72) hC.1 hC.2.1 dX2_lineUpNext_138 (by decide) ?_
                        have hE2 : (e25, e26, el) = lnH (gC E0 F fm P0 nh nj q) x k (d25, d26, dl) (h + 1) := by rw [lnH, ← hE3, if_neg (fun q => c29 q.1)]
                        exact ih72 (h + 1) e25 e26 el (by omega) hE2 (by omega) _ _ _ hw (lv_sub hl [2, 3, 4, 5, 0] rfl)
                      · refine lv_aload_n hC.1 hC.2.1 dX2_lineUpNext_110 rfl (lv_at hl 1 rfl) ?_
                        refine gf_X2_24 hC hw dX2_lineUpNext_111 ?_
                        refine lv_aload_n hC.1 hC.2.1 dX2_lineUpNext_114 rfl (lv_at hl 1 rfl) ?_
                        refine gf_X2_11 hC hw dX2_lineUpNext_115 ?_
                        refine lv_iload_n hC.1 hC.2.1 dX2_lineUpNext_118 rfl (lv_at hl 3 rfl) ?_
                        have hFx := (hF k (by omega)).2
                        refine al_X23 (v := nI (F k)) hC hw (by omega) (hF k (by omega)).1 dX2_lineUpNext_119 ?_
                        refine lv_iload hC.1 hC.2.1 dX2_lineUpNext_120 (lv_at hl 5 rfl) ?_
                        refine q_callVp (As := [.int (nI (F k)), .int (nI h)]) (rest := []) (q0 := 5) hC hw hl (tX4_fits l E a (sr (sr (sr (sr (sr (sr (sr (sr (sr (sr σ 16 (b16_9)) 17 (b17_10)) 18 (b18_11)) 19 (b19_12)) 20 (b20_13)) 21 (b21_14)) 24 (upd (d24) k (plc fz))) 25 (e25)) 26 (e26)) 0 (upd (σ 0) 7 (nI el))) nh nj E0 (pP F P0 (pu q k 10) fm) (F k) h hN hE hS hF3 hFx (show h < nh by omega)) (q_cwV hC.2.2.2.2.1 ⟨rfl, rfl⟩ wk3_200 wk3_37 wk3_38 wk1_4 wk3_39 hd_X4_fits ⟨Nat.le_of_ble_eq_true rfl, Nat.le_of_ble_eq_true rfl⟩) rfl rfl rfl rfl rfl (Nat.le_of_ble_eq_true rfl) dX2_lineUpNext_122 (fun H locs hw => ?_)
                        refine q_ifeq hC 135 cB dX2_lineUpNext_125 (by decide) (fun (c33 : ¬ (m_why E0 (pP F P0 (pu q k 10) fm) nh nj (F k) h = 0)) => ?_) (fun (c33 : m_why E0 (pP F P0 (pu q k 10) fm) nh nj (F k) h = 0) => ?_)
                        · refine lv_iinc (v := nI (h + 1)) (lv' := [(4, .int (nI (h + 1))), (5, .int (nI (nxt x k h))), (0, .ref (a 63)), (1, .int (nI x)), (2, .int (nI k)), (3, .int (atI fz (q k)))]) hC.1 hC.2.1 dX2_lineUpNext_135 hl (k := 5) rfl (nI_add _ _) (by decide) rfl (fun ls hl => ?_)
                          refine lv_goto (tgt := 72) hC.1 hC.2.1 dX2_lineUpNext_138 (by decide) ?_
                          have hE2 : (e25, e26, el) = lnH (gC E0 F fm P0 nh nj q) x k (d25, d26, dl) (h + 1) := by rw [lnH, ← hE3, if_neg (fun q => c33 ((gC_why hnh hP0 hFk hq.ok (show k < fm by omega) (show h < nh by omega)).mpr q.2))]
                          exact ih72 (h + 1) e25 e26 el (by omega) hE2 (by omega) _ _ _ hw (lv_sub hl [2, 3, 4, 5, 0] rfl)
                        · refine lv_aload_n hC.1 hC.2.1 dX2_lineUpNext_128 rfl (lv_at hl 1 rfl) ?_
                          refine lv_iload hC.1 hC.2.1 dX2_lineUpNext_129 (lv_at hl 0 rfl) ?_
                          refine lv_iload_n hC.1 hC.2.1 dX2_lineUpNext_131 rfl (lv_at hl 2 rfl) ?_
                          refine q_callVvp (As := [.int (nI (nxt x k h)), .int (nI x)]) (rest := []) (q0 := 3) hC hw hl (tX2_see l E a (sr (sr (sr (sr (sr (sr (sr (sr (sr (sr σ 16 (b16_9)) 17 (b17_10)) 18 (b18_11)) 19 (b19_12)) 20 (b20_13)) 21 (b21_14)) 24 (upd (d24) k (plc fz))) 25 (e25)) 26 (e26)) 0 (upd (σ 0) 7 (nI el))) el (nxt x k h) x hnx rfl hel) (q_cwV hC.2.2.2.2.1 ⟨rfl, rfl⟩ wk3_175 wk3_177 wks_1_14 wk1_7 wk3_178 hd_X2_see ⟨Nat.le_of_ble_eq_true rfl, Nat.le_of_ble_eq_true rfl⟩) rfl rfl rfl rfl rfl (Nat.le_of_ble_eq_true rfl) dX2_lineUpNext_132 (fun H locs hw => ?_)
                          have hw : Wst E (XW E a) (sr (sr (sr (sr (sr (sr (sr (sr (sr (sr σ 16 (b16_9)) 17 (b17_10)) 18 (b18_11)) 19 (b19_12)) 20 (b20_13)) 21 (b21_14)) 24 (upd (d24) k (plc fz))) 25 ((seeL (nxt x k h) x (e25, e26, el)).1)) 26 ((seeL (nxt x k h) x (e25, e26, el)).2.1)) 0 (upd (σ 0) 7 (nI (seeL (nxt x k h) x (e25, e26, el)).2.2))) A s.heap H locs := hw
                          refine lv_iinc (v := nI (h + 1)) (lv' := [(4, .int (nI (h + 1))), (5, .int (nI (nxt x k h))), (0, .ref (a 63)), (1, .int (nI x)), (2, .int (nI k)), (3, .int (atI fz (q k)))]) hC.1 hC.2.1 dX2_lineUpNext_135 hl (k := 5) rfl (nI_add _ _) (by decide) rfl (fun ls hl => ?_)
                          refine lv_goto (tgt := 72) hC.1 hC.2.1 dX2_lineUpNext_138 (by decide) ?_
                          have hE2 : seeL (nxt x k h) x (e25, e26, el) = lnH (gC E0 F fm P0 nh nj q) x k (d25, d26, dl) (h + 1) := by rw [lnH, ← hE3, if_pos ⟨c29, (gC_why hnh hP0 hFk hq.ok (show k < fm by omega) (show h < nh by omega)).mp c33⟩]
                          exact ih72 (h + 1) ((seeL (nxt x k h) x (e25, e26, el)).1) ((seeL (nxt x k h) x (e25, e26, el)).2.1) ((seeL (nxt x k h) x (e25, e26, el)).2.2) (by omega) hE2 (by omega) _ _ _ hw (lv_sub hl [2, 3, 4, 5, 0] rfl)
                exact L72_14 _ 0 d25 d26 dl (Nat.zero_le _) rfl (Nat.lt_succ_self _) _ _ _ hw (lv_sub hl [2, 3, 4, 1, 0] rfl)
              · refine lv_iload_n hC.1 hC.2.1 dX2_lineUpNext_52 rfl (lv_at hl 0 rfl) ?_
                refine lv_aload_n hC.1 hC.2.1 dX2_lineUpNext_53 rfl (lv_at hl 1 rfl) ?_
                refine gf_X2_32 (v := plc fz) hC hw h8 dX2_lineUpNext_54 ?_
                refine q_cmpne hC 147 cI dX2_lineUpNext_57 (by decide) (fun (c37 : ¬ ((atI fz (q k)) = plc fz)) => ?_) (fun (c37 : (atI fz (q k)) = plc fz) => ?_)
                · refine lv_iinc (v := nI (k + 1)) (lv' := [(2, .int (nI (k + 1))), (3, .int (atI fz (q k))), (0, .ref (a 63)), (1, .int (nI x))]) hC.1 hC.2.1 dX2_lineUpNext_147 hl (k := 3) rfl (nI_add _ _) (by decide) rfl (fun ls hl => ?_)
                  refine lv_goto (tgt := 29) hC.1 hC.2.1 dX2_lineUpNext_150 (by decide) ?_
                  have hak : ¬ aC fz q k = true := fun z => (of_decide_eq_true z).elim (fun z => c5 (by rw [z]; rfl)) (fun z => c37 ((atI_f hnh hfz (hq k (by omega))).mpr z))
                  have hS2 : (d25, d26, dl) = lnK (gC E0 F fm P0 nh nj q) (aC fz q) x nh (σ 25, σ 26, ln) (k + 1) := by rw [lnK, if_neg hak]; exact hS7
                  exact ih29 (k + 1) d16 d17 d18 d19 d20 d21 d24 d25 d26 dl (by omega) hF1 hat1 hS2 (by omega) _ _ _ hw (lv_sub hl [2, 3, 0] rfl)
                · have hak : aC fz q k = true := decide_eq_true (Or.inr ((atI_f hnh hfz (hq k (by omega))).mp c37))
                  refine lv_aload_n hC.1 hC.2.1 dX2_lineUpNext_60 rfl (lv_at hl 1 rfl) ?_
                  refine lv_iload_n hC.1 hC.2.1 dX2_lineUpNext_61 rfl (lv_at hl 3 rfl) ?_
                  refine lv_aload_n hC.1 hC.2.1 dX2_lineUpNext_62 rfl (lv_at hl 1 rfl) ?_
                  refine gf_X2_32 (v := plc fz) hC hw h8 dX2_lineUpNext_63 ?_
                  refine q_callVv (As := [.int (nI k), .int (plc fz)]) (rest := []) (q0 := 3) hC hw hl (tX2_put l E a (sr (sr (sr (sr (sr (sr (sr (sr (sr (sr σ 16 (d16)) 17 (d17)) 18 (d18)) 19 (d19)) 20 (d20)) 21 (d21)) 24 (d24)) 25 (d25)) 26 (d26)) 0 (upd (σ 0) 7 (nI dl))) nh nj E0 fm fz F P0 q 10 k (plc fz) hN hE hS hF1 hm4 h8 hfz (show k < fm by omega) hF hFk hat1 hq (Or.inl rfl) rfl) (q_cwV hC.2.2.2.2.1 ⟨rfl, rfl⟩ wk3_195 wk3_197 wks_1_15 wk1_7 wk3_198 hd_X2_put ⟨Nat.le_of_ble_eq_true rfl, Nat.le_of_ble_eq_true rfl⟩) rfl rfl rfl rfl rfl (Nat.le_of_ble_eq_true rfl) dX2_lineUpNext_66 (fun u40 H locs p38 hw => ?_)
                  obtain ⟨b16_41, b17_42, b18_43, b19_44, b20_45, b21_46, hFu40, huu40⟩ := p38
                  subst huu40
                  have hst_ : sr (sr (sr (sr (sr (sr (sr (sr (sr (sr (sr (sr (sr (sr (sr (sr (sr σ 16 (d16)) 17 (d17)) 18 (d18)) 19 (d19)) 20 (d20)) 21 (d21)) 24 (d24)) 25 (d25)) 26 (d26)) 0 (upd (σ 0) 7 (nI dl))) 16 b16_41) 17 b17_42) 18 b18_43) 19 b19_44) 20 b20_45) 21 b21_46) 24 (upd ((sr (sr (sr (sr (sr (sr (sr (sr (sr (sr σ 16 (d16)) 17 (d17)) 18 (d18)) 19 (d19)) 20 (d20)) 21 (d21)) 24 (d24)) 25 (d25)) 26 (d26)) 0 (upd (σ 0) 7 (nI dl))) 24) k (plc fz)) = sr (sr (sr (sr (sr (sr (sr (sr (sr (sr σ 16 (b16_41)) 17 (b17_42)) 18 (b18_43)) 19 (b19_44)) 20 (b20_45)) 21 (b21_46)) 24 (upd (d24) k (plc fz))) 25 (d25)) 26 (d26)) 0 (upd (σ 0) 7 (nI dl)) := by
                    funext j_ x_
                    by_cases e0 : j_ = 0
                    · subst e0
                      by_cases y7 : x_ = 7
                      · subst y7; rfl
                      · simp [sr, upd, y7]
                    · by_cases e16 : j_ = 16
                      · subst e16; rfl
                      · by_cases e17 : j_ = 17
                        · subst e17; rfl
                        · by_cases e18 : j_ = 18
                          · subst e18; rfl
                          · by_cases e19 : j_ = 19
                            · subst e19; rfl
                            · by_cases e20 : j_ = 20
                              · subst e20; rfl
                              · by_cases e21 : j_ = 21
                                · subst e21; rfl
                                · by_cases e24 : j_ = 24
                                  · subst e24; rfl
                                  · by_cases e25 : j_ = 25
                                    · subst e25; rfl
                                    · by_cases e26 : j_ = 26
                                      · subst e26; rfl
                                      · simp only [sr, e0, e16, e17, e18, e19, e20, e21, e24, e25, e26, if_false]
                  rw [hst_] at hw
                  have hF3 := hFu40
                  refine lv_iconst (v := nI 0) hC.1 hC.2.1 dX2_lineUpNext_69 (by decide) ?_
                  refine lv_istore (lv' := [(4, .int (nI 0)), (3, .int (atI fz (q k))), (0, .ref (a 63)), (1, .int (nI x)), (2, .int (nI k))]) hC.1 hC.2.1 dX2_lineUpNext_70 hl (by decide) rfl (fun ls hl => ?_)
                  have L72_46 : ∀ (n : Nat), ∀ (h : Nat), ∀ (e25 : Nat → Int32), ∀ (e26 : Nat → Int32), ∀ (el : Nat), (h ≤ nh) → ((e25, e26, el) = lnH (gC E0 F fm P0 nh nj q) x k (d25, d26, dl) h) → (nh - h) < n → ∀ (H : Heap) (locs : List Loc) (ls : Array Slot), Wst E (XW E a) (sr (sr (sr (sr (sr (sr (sr (sr (sr (sr σ 16 (b16_41)) 17 (b17_42)) 18 (b18_43)) 19 (b19_44)) 20 (b20_45)) 21 (b21_46)) 24 (upd (d24) k (plc fz))) 25 (e25)) 26 (e26)) 0 (upd (σ 0) 7 (nI el))) A s.heap H locs → lv_has ls 6 [(0, .ref (a 63)), (1, .int (nI x)), (2, .int (nI k)), (3, .int (atI fz (q k))), (4, .int (nI h))] → W p l e ({ frames := 3, cells := 0, slots := 0, locals := 73 }) s m args below meth c H locs 0 0 Q (F0 m 72 ls []) := by
                    intro n
                    induction n with
                    | zero => intro h e25 e26 el hh hE3 hn; exact absurd hn (Nat.not_lt_zero _)
                    | succ n ih72 =>
                      intro h e25 e26 el hh hE3 hn72 H locs ls hw hl
                      have hel : el ≤ 10000 := by have := lnH_le (g := (gC E0 F fm P0 nh nj q)) (x := x) (k := k) (S := (d25, d26, dl)) hdl h; rw [← hE3] at this; exact this
                      refine lv_iload hC.1 hC.2.1 dX2_lineUpNext_72 (lv_at hl 4 rfl) ?_
                      refine lv_aload_n hC.1 hC.2.1 dX2_lineUpNext_74 rfl (lv_at hl 0 rfl) ?_
                      refine gf_X2_24 hC hw dX2_lineUpNext_75 ?_
                      refine gf_X2_60 hC hw dX2_lineUpNext_78 ?_
                      refine gf_X2_66 (v := nI nh) hC hw hN.1 dX2_lineUpNext_81 ?_
                      refine q_cmpge hC 141 (cNle (by omega) (by omega)) dX2_lineUpNext_84 (by decide) (fun (c48 : nh ≤ h) => ?_) (fun (c48 : h < nh) => ?_)
                      · refine lv_aload_n hC.1 hC.2.1 dX2_lineUpNext_141 rfl (lv_at hl 0 rfl) ?_
                        refine lv_iload_n hC.1 hC.2.1 dX2_lineUpNext_142 rfl (lv_at hl 2 rfl) ?_
                        refine lv_iload_n hC.1 hC.2.1 dX2_lineUpNext_143 rfl (lv_at hl 3 rfl) ?_
                        refine q_callVv (As := [.int (nI k), .int (atI fz (q k))]) (rest := []) (q0 := 3) hC hw hl (tX2_put l E a (sr (sr (sr (sr (sr (sr (sr (sr (sr (sr σ 16 (b16_41)) 17 (b17_42)) 18 (b18_43)) 19 (b19_44)) 20 (b20_45)) 21 (b21_46)) 24 (upd (d24) k (plc fz))) 25 (e25)) 26 (e26)) 0 (upd (σ 0) 7 (nI el))) nh nj E0 fm fz F P0 (pu q k 10) (q k) k (atI fz (q k)) hN hE hS hF3 hm4 h8 hfz (show k < fm by omega) hF hFk (at_upd hat1 rfl) (hq.put (Or.inl rfl)) (hq k (by omega)) rfl) (q_cwV hC.2.2.2.2.1 ⟨rfl, rfl⟩ wk3_195 wk3_197 wks_1_15 wk1_7 wk3_198 hd_X2_put ⟨Nat.le_of_ble_eq_true rfl, Nat.le_of_ble_eq_true rfl⟩) rfl rfl rfl rfl rfl (Nat.le_of_ble_eq_true rfl) dX2_lineUpNext_144 (fun u51 H locs p49 hw => ?_)
                        obtain ⟨b16_52, b17_53, b18_54, b19_55, b20_56, b21_57, hFu51, huu51⟩ := p49
                        subst huu51
                        have hst_ : sr (sr (sr (sr (sr (sr (sr (sr (sr (sr (sr (sr (sr (sr (sr (sr (sr σ 16 (b16_41)) 17 (b17_42)) 18 (b18_43)) 19 (b19_44)) 20 (b20_45)) 21 (b21_46)) 24 (upd (d24) k (plc fz))) 25 (e25)) 26 (e26)) 0 (upd (σ 0) 7 (nI el))) 16 b16_52) 17 b17_53) 18 b18_54) 19 b19_55) 20 b20_56) 21 b21_57) 24 (upd ((sr (sr (sr (sr (sr (sr (sr (sr (sr (sr σ 16 (b16_41)) 17 (b17_42)) 18 (b18_43)) 19 (b19_44)) 20 (b20_45)) 21 (b21_46)) 24 (upd (d24) k (plc fz))) 25 (e25)) 26 (e26)) 0 (upd (σ 0) 7 (nI el))) 24) k (atI fz (q k))) = sr (sr (sr (sr (sr (sr (sr (sr (sr (sr σ 16 (b16_52)) 17 (b17_53)) 18 (b18_54)) 19 (b19_55)) 20 (b20_56)) 21 (b21_57)) 24 (upd (upd (d24) k (plc fz)) k (atI fz (q k)))) 25 (e25)) 26 (e26)) 0 (upd (σ 0) 7 (nI el)) := by
                          funext j_ x_
                          by_cases e0 : j_ = 0
                          · subst e0
                            by_cases y7 : x_ = 7
                            · subst y7; rfl
                            · simp [sr, upd, y7]
                          · by_cases e16 : j_ = 16
                            · subst e16; rfl
                            · by_cases e17 : j_ = 17
                              · subst e17; rfl
                              · by_cases e18 : j_ = 18
                                · subst e18; rfl
                                · by_cases e19 : j_ = 19
                                  · subst e19; rfl
                                  · by_cases e20 : j_ = 20
                                    · subst e20; rfl
                                    · by_cases e21 : j_ = 21
                                      · subst e21; rfl
                                      · by_cases e24 : j_ = 24
                                        · subst e24; rfl
                                        · by_cases e25 : j_ = 25
                                          · subst e25; rfl
                                          · by_cases e26 : j_ = 26
                                            · subst e26; rfl
                                            · simp only [sr, e0, e16, e17, e18, e19, e20, e21, e24, e25, e26, if_false]
                        rw [hst_] at hw
                        refine lv_iinc (v := nI (k + 1)) (lv' := [(2, .int (nI (k + 1))), (0, .ref (a 63)), (1, .int (nI x)), (3, .int (atI fz (q k))), (4, .int (nI h))]) hC.1 hC.2.1 dX2_lineUpNext_147 hl (k := 2) rfl (nI_add _ _) (by decide) rfl (fun ls hl => ?_)
                        refine lv_goto (tgt := 29) hC.1 hC.2.1 dX2_lineUpNext_150 (by decide) ?_
                        have hh9 : h = nh := by omega
                        have hS2 : (e25, e26, el) = lnK (gC E0 F fm P0 nh nj q) (aC fz q) x nh (σ 25, σ 26, ln) (k + 1) := by rw [lnK, if_pos hak, ← hS7]; rw [hh9] at hE3; exact hE3
                        rw [pu_back] at hFu51
                        exact ih29 (k + 1) b16_52 b17_53 b18_54 b19_55 b20_56 b21_57 (upd (upd (d24) k (plc fz)) k (atI fz (q k))) e25 e26 el (by omega) hFu51 (by have := at_upd (k := k) (x := q k) (at_upd (k := k) (x := 10) hat1 rfl) rfl; rw [pu_back] at this; exact this) hS2 (by omega) _ _ _ hw (lv_sub hl [1, 2, 0] rfl)
                      · refine lv_iload_n hC.1 hC.2.1 dX2_lineUpNext_87 rfl (lv_at hl 1 rfl) ?_
                        refine lv_iload hC.1 hC.2.1 dX2_lineUpNext_88 (lv_at hl 4 rfl) ?_
                        refine lv_iload_n hC.1 hC.2.1 dX2_lineUpNext_90 rfl (lv_at hl 3 rfl) ?_
                        refine lv_isub hC.1 hC.2.1 dX2_lineUpNext_91 ?_
                        refine q_pow wk3_169 hC hw dX2_lineUpNext_92 ?_
                        refine lv_iload_n hC.1 hC.2.1 dX2_lineUpNext_95 rfl (lv_at hl 2 rfl) ?_
                        refine q_powld (v := nI (10 ^ k)) hC hw (by omega) rfl dX2_lineUpNext_96 ?_
                        refine lv_imul hC.1 hC.2.1 dX2_lineUpNext_97 ?_
                        refine lv_iadd hC.1 hC.2.1 dX2_lineUpNext_98 ?_
                        have hnx := nxt_lt (k := k) (h := h) hx (by omega) hm4 (by omega)
                        refine q_top (y := nI (nxt x k h)) (nxt_eq ((atI_d (hq10 k (by omega))).trans (congrArg nI (hxd k (by omega)).symm))) ?_
                        refine lv_istore (lv' := [(5, .int (nI (nxt x k h))), (0, .ref (a 63)), (1, .int (nI x)), (2, .int (nI k)), (3, .int (atI fz (q k))), (4, .int (nI h))]) hC.1 hC.2.1 dX2_lineUpNext_99 hl (by decide) rfl (fun ls hl => ?_)
                        refine lv_aload_n hC.1 hC.2.1 dX2_lineUpNext_101 rfl (lv_at hl 1 rfl) ?_
                        refine lv_iload hC.1 hC.2.1 dX2_lineUpNext_102 (lv_at hl 0 rfl) ?_
                        refine q_callVp (As := [.int (nI (nxt x k h))]) (rest := []) (q0 := 3) hC hw hl (tX2_isUnseen l E a (sr (sr (sr (sr (sr (sr (sr (sr (sr (sr σ 16 (b16_41)) 17 (b17_42)) 18 (b18_43)) 19 (b19_44)) 20 (b20_45)) 21 (b21_46)) 24 (upd (d24) k (plc fz))) 25 (e25)) 26 (e26)) 0 (upd (σ 0) 7 (nI el))) (nxt x k h) (by first | assumption | omega)) (q_cwV hC.2.2.2.2.1 ⟨rfl, rfl⟩ wk3_179 wk3_180 wk3_181 wk1_7 wk3_182 hd_X2_isUnseen ⟨Nat.le_of_ble_eq_true rfl, Nat.le_of_ble_eq_true rfl⟩) rfl rfl rfl rfl rfl (Nat.le_of_ble_eq_true rfl) dX2_lineUpNext_104 (fun H locs hw => ?_)
                        refine q_ifeq hC 135 cB dX2_lineUpNext_107 (by decide) (fun (c61 : ¬ (e26 (nxt x k h) = -1)) => ?_) (fun (c61 : e26 (nxt x k h) = -1) => ?_)
                        · refine lv_iinc (v := nI (h + 1)) (lv' := [(4, .int (nI (h + 1))), (5, .int (nI (nxt x k h))), (0, .ref (a 63)), (1, .int (nI x)), (2, .int (nI k)), (3, .int (atI fz (q k)))]) hC.1 hC.2.1 dX2_lineUpNext_135 hl (k := 5) rfl (nI_add _ _) (by decide) rfl (fun ls hl => ?_)
                          refine lv_goto (tgt := 72) hC.1 hC.2.1 dX2_lineUpNext_138 (by decide) ?_
                          have hE2 : (e25, e26, el) = lnH (gC E0 F fm P0 nh nj q) x k (d25, d26, dl) (h + 1) := by rw [lnH, ← hE3, if_neg (fun q => c61 q.1)]
                          exact ih72 (h + 1) e25 e26 el (by omega) hE2 (by omega) _ _ _ hw (lv_sub hl [2, 3, 4, 5, 0] rfl)
                        · refine lv_aload_n hC.1 hC.2.1 dX2_lineUpNext_110 rfl (lv_at hl 1 rfl) ?_
                          refine gf_X2_24 hC hw dX2_lineUpNext_111 ?_
                          refine lv_aload_n hC.1 hC.2.1 dX2_lineUpNext_114 rfl (lv_at hl 1 rfl) ?_
                          refine gf_X2_11 hC hw dX2_lineUpNext_115 ?_
                          refine lv_iload_n hC.1 hC.2.1 dX2_lineUpNext_118 rfl (lv_at hl 3 rfl) ?_
                          have hFx := (hF k (by omega)).2
                          refine al_X23 (v := nI (F k)) hC hw (by omega) (hF k (by omega)).1 dX2_lineUpNext_119 ?_
                          refine lv_iload hC.1 hC.2.1 dX2_lineUpNext_120 (lv_at hl 5 rfl) ?_
                          refine q_callVp (As := [.int (nI (F k)), .int (nI h)]) (rest := []) (q0 := 5) hC hw hl (tX4_fits l E a (sr (sr (sr (sr (sr (sr (sr (sr (sr (sr σ 16 (b16_41)) 17 (b17_42)) 18 (b18_43)) 19 (b19_44)) 20 (b20_45)) 21 (b21_46)) 24 (upd (d24) k (plc fz))) 25 (e25)) 26 (e26)) 0 (upd (σ 0) 7 (nI el))) nh nj E0 (pP F P0 (pu q k 10) fm) (F k) h hN hE hS hF3 hFx (show h < nh by omega)) (q_cwV hC.2.2.2.2.1 ⟨rfl, rfl⟩ wk3_200 wk3_37 wk3_38 wk1_4 wk3_39 hd_X4_fits ⟨Nat.le_of_ble_eq_true rfl, Nat.le_of_ble_eq_true rfl⟩) rfl rfl rfl rfl rfl (Nat.le_of_ble_eq_true rfl) dX2_lineUpNext_122 (fun H locs hw => ?_)
                          refine q_ifeq hC 135 cB dX2_lineUpNext_125 (by decide) (fun (c65 : ¬ (m_why E0 (pP F P0 (pu q k 10) fm) nh nj (F k) h = 0)) => ?_) (fun (c65 : m_why E0 (pP F P0 (pu q k 10) fm) nh nj (F k) h = 0) => ?_)
                          · refine lv_iinc (v := nI (h + 1)) (lv' := [(4, .int (nI (h + 1))), (5, .int (nI (nxt x k h))), (0, .ref (a 63)), (1, .int (nI x)), (2, .int (nI k)), (3, .int (atI fz (q k)))]) hC.1 hC.2.1 dX2_lineUpNext_135 hl (k := 5) rfl (nI_add _ _) (by decide) rfl (fun ls hl => ?_)
                            refine lv_goto (tgt := 72) hC.1 hC.2.1 dX2_lineUpNext_138 (by decide) ?_
                            have hE2 : (e25, e26, el) = lnH (gC E0 F fm P0 nh nj q) x k (d25, d26, dl) (h + 1) := by rw [lnH, ← hE3, if_neg (fun q => c65 ((gC_why hnh hP0 hFk hq.ok (show k < fm by omega) (show h < nh by omega)).mpr q.2))]
                            exact ih72 (h + 1) e25 e26 el (by omega) hE2 (by omega) _ _ _ hw (lv_sub hl [2, 3, 4, 5, 0] rfl)
                          · refine lv_aload_n hC.1 hC.2.1 dX2_lineUpNext_128 rfl (lv_at hl 1 rfl) ?_
                            refine lv_iload hC.1 hC.2.1 dX2_lineUpNext_129 (lv_at hl 0 rfl) ?_
                            refine lv_iload_n hC.1 hC.2.1 dX2_lineUpNext_131 rfl (lv_at hl 2 rfl) ?_
                            refine q_callVvp (As := [.int (nI (nxt x k h)), .int (nI x)]) (rest := []) (q0 := 3) hC hw hl (tX2_see l E a (sr (sr (sr (sr (sr (sr (sr (sr (sr (sr σ 16 (b16_41)) 17 (b17_42)) 18 (b18_43)) 19 (b19_44)) 20 (b20_45)) 21 (b21_46)) 24 (upd (d24) k (plc fz))) 25 (e25)) 26 (e26)) 0 (upd (σ 0) 7 (nI el))) el (nxt x k h) x hnx rfl hel) (q_cwV hC.2.2.2.2.1 ⟨rfl, rfl⟩ wk3_175 wk3_177 wks_1_14 wk1_7 wk3_178 hd_X2_see ⟨Nat.le_of_ble_eq_true rfl, Nat.le_of_ble_eq_true rfl⟩) rfl rfl rfl rfl rfl (Nat.le_of_ble_eq_true rfl) dX2_lineUpNext_132 (fun H locs hw => ?_)
                            have hw : Wst E (XW E a) (sr (sr (sr (sr (sr (sr (sr (sr (sr (sr σ 16 (b16_41)) 17 (b17_42)) 18 (b18_43)) 19 (b19_44)) 20 (b20_45)) 21 (b21_46)) 24 (upd (d24) k (plc fz))) 25 ((seeL (nxt x k h) x (e25, e26, el)).1)) 26 ((seeL (nxt x k h) x (e25, e26, el)).2.1)) 0 (upd (σ 0) 7 (nI (seeL (nxt x k h) x (e25, e26, el)).2.2))) A s.heap H locs := hw
                            refine lv_iinc (v := nI (h + 1)) (lv' := [(4, .int (nI (h + 1))), (5, .int (nI (nxt x k h))), (0, .ref (a 63)), (1, .int (nI x)), (2, .int (nI k)), (3, .int (atI fz (q k)))]) hC.1 hC.2.1 dX2_lineUpNext_135 hl (k := 5) rfl (nI_add _ _) (by decide) rfl (fun ls hl => ?_)
                            refine lv_goto (tgt := 72) hC.1 hC.2.1 dX2_lineUpNext_138 (by decide) ?_
                            have hE2 : seeL (nxt x k h) x (e25, e26, el) = lnH (gC E0 F fm P0 nh nj q) x k (d25, d26, dl) (h + 1) := by rw [lnH, ← hE3, if_pos ⟨c61, (gC_why hnh hP0 hFk hq.ok (show k < fm by omega) (show h < nh by omega)).mp c65⟩]
                            exact ih72 (h + 1) ((seeL (nxt x k h) x (e25, e26, el)).1) ((seeL (nxt x k h) x (e25, e26, el)).2.1) ((seeL (nxt x k h) x (e25, e26, el)).2.2) (by omega) hE2 (by omega) _ _ _ hw (lv_sub hl [2, 3, 4, 5, 0] rfl)
                  exact L72_46 _ 0 d25 d26 dl (Nat.zero_le _) rfl (Nat.lt_succ_self _) _ _ _ hw (lv_sub hl [2, 3, 4, 1, 0] rfl)
        have hk9 : k = fm := by omega
        have hmx : pP F P0 (mixp q pp k) fm = pP F P0 q fm := pP_congr (fun i hi => by unfold mixp; rw [if_pos (by omega)])
        have hat9 : ∀ i, i < fm → d24 i = atI fz (q i) := fun i hi => by have := hat0 i hi; unfold mixp at this; rw [if_pos (by omega)] at this; exact this
        rw [hmx] at hF0
        have hst_ : sr (sr (sr (sr (sr (sr (sr σ 16 (d16)) 17 (d17)) 18 (d18)) 19 (d19)) 20 (d20)) 21 (d21)) 24 (d24) = sr (sr (sr (sr (sr (sr (sr (sr (sr (sr σ 16 (d16)) 17 (d17)) 18 (d18)) 19 (d19)) 20 (d20)) 21 (d21)) 24 (d24)) 25 (σ 25)) 26 (σ 26)) 0 (upd (σ 0) 7 (σ 0 7)) := by
          funext j_ x_
          by_cases e0 : j_ = 0
          · subst e0
            by_cases y7 : x_ = 7
            · subst y7; rfl
            · simp [sr, upd, y7]
          · by_cases e16 : j_ = 16
            · subst e16; rfl
            · by_cases e17 : j_ = 17
              · subst e17; rfl
              · by_cases e18 : j_ = 18
                · subst e18; rfl
                · by_cases e19 : j_ = 19
                  · subst e19; rfl
                  · by_cases e20 : j_ = 20
                    · subst e20; rfl
                    · by_cases e21 : j_ = 21
                      · subst e21; rfl
                      · by_cases e24 : j_ = 24
                        · subst e24; rfl
                        · by_cases e25 : j_ = 25
                          · subst e25; rfl
                          · by_cases e26 : j_ = 26
                            · subst e26; rfl
                            · simp only [sr, e0, e16, e17, e18, e19, e20, e21, e24, e25, e26, if_false]
        rw [hst_] at hw
        rw [hln] at hw
        exact L29_2 _ 0 d16 d17 d18 d19 d20 d21 d24 (σ 25) (σ 26) ln (Nat.zero_le _) hF0 hat9 rfl (Nat.lt_succ_self _) _ _ _ hw (lv_sub hl [1, 2, 0] rfl)
      · refine lv_aload_n hC.1 hC.2.1 dX2_lineUpNext_10 rfl (lv_at hl 0 rfl) ?_
        refine lv_iload_n hC.1 hC.2.1 dX2_lineUpNext_11 rfl (lv_at hl 2 rfl) ?_
        refine lv_aload_n hC.1 hC.2.1 dX2_lineUpNext_12 rfl (lv_at hl 0 rfl) ?_
        refine lv_iload_n hC.1 hC.2.1 dX2_lineUpNext_13 rfl (lv_at hl 1 rfl) ?_
        refine lv_iload_n hC.1 hC.2.1 dX2_lineUpNext_14 rfl (lv_at hl 2 rfl) ?_
        refine q_callVp (As := [.int (nI x), .int (nI k)]) (rest := [.int (nI k), .ref (a 63)]) (q0 := 3) hC hw hl (tX2_hostIn l E a (sr (sr (sr (sr (sr (sr (sr σ 16 (d16)) 17 (d17)) 18 (d18)) 19 (d19)) 20 (d20)) 21 (d21)) 24 (d24)) x k hx4 (by omega)) (q_cwV hC.2.2.2.2.1 ⟨rfl, rfl⟩ wk3_187 wk3_188 wk3_189 wk1_7 wk3_190 hd_X2_hostIn ⟨Nat.le_of_ble_eq_true rfl, Nat.le_of_ble_eq_true rfl⟩) rfl rfl rfl rfl rfl (Nat.le_of_ble_eq_true rfl) dX2_lineUpNext_15 (fun H locs hw => ?_)
        refine q_top (y := nI (dz fz (q k))) (congrArg nI (hxd k (by omega))) ?_
        refine q_callVv (As := [.int (nI k), .int (nI (dz fz (q k)))]) (rest := []) (q0 := 3) hC hw hl (tX2_put l E a (sr (sr (sr (sr (sr (sr (sr σ 16 (d16)) 17 (d17)) 18 (d18)) 19 (d19)) 20 (d20)) 21 (d21)) 24 (d24)) nh nj E0 fm fz F P0 (mixp q pp k) (q k) k (nI (dz fz (q k))) hN hE hS hF0 hm4 h8 hfz (show k < fm by omega) hF hFk hat0 (mix_ok hq hp) (hq k (by omega)) (atI_d (hq10 k (by omega))).symm) (q_cwV hC.2.2.2.2.1 ⟨rfl, rfl⟩ wk3_195 wk3_197 wks_1_15 wk1_7 wk3_198 hd_X2_put ⟨Nat.le_of_ble_eq_true rfl, Nat.le_of_ble_eq_true rfl⟩) rfl rfl rfl rfl rfl (Nat.le_of_ble_eq_true rfl) dX2_lineUpNext_18 (fun u74 H locs p72 hw => ?_)
        obtain ⟨b16_75, b17_76, b18_77, b19_78, b20_79, b21_80, hFu74, huu74⟩ := p72
        subst huu74
        have hst_ : sr (sr (sr (sr (sr (sr (sr (sr (sr (sr (sr (sr (sr (sr σ 16 (d16)) 17 (d17)) 18 (d18)) 19 (d19)) 20 (d20)) 21 (d21)) 24 (d24)) 16 b16_75) 17 b17_76) 18 b18_77) 19 b19_78) 20 b20_79) 21 b21_80) 24 (upd ((sr (sr (sr (sr (sr (sr (sr σ 16 (d16)) 17 (d17)) 18 (d18)) 19 (d19)) 20 (d20)) 21 (d21)) 24 (d24)) 24) k (nI (dz fz (q k)))) = sr (sr (sr (sr (sr (sr (sr σ 16 (b16_75)) 17 (b17_76)) 18 (b18_77)) 19 (b19_78)) 20 (b20_79)) 21 (b21_80)) 24 (upd (d24) k (nI (dz fz (q k)))) := by
          funext j_ x_
          by_cases e0 : j_ = 0
          · subst e0
            rfl
          · by_cases e16 : j_ = 16
            · subst e16; rfl
            · by_cases e17 : j_ = 17
              · subst e17; rfl
              · by_cases e18 : j_ = 18
                · subst e18; rfl
                · by_cases e19 : j_ = 19
                  · subst e19; rfl
                  · by_cases e20 : j_ = 20
                    · subst e20; rfl
                    · by_cases e21 : j_ = 21
                      · subst e21; rfl
                      · by_cases e24 : j_ = 24
                        · subst e24; rfl
                        · simp only [sr, e0, e16, e17, e18, e19, e20, e21, e24, if_false]
        rw [hst_] at hw
        refine lv_iinc (v := nI (k + 1)) (lv' := [(2, .int (nI (k + 1))), (0, .ref (a 63)), (1, .int (nI x))]) hC.1 hC.2.1 dX2_lineUpNext_21 hl (k := 2) rfl (nI_add _ _) (by decide) rfl (fun ls hl => ?_)
        refine lv_goto (tgt := 2) hC.1 hC.2.1 dX2_lineUpNext_24 (by decide) ?_
        exact ih2 (k + 1) b16_75 b17_76 b18_77 b19_78 b20_79 b21_80 (upd (d24) k (nI (dz fz (q k)))) (by omega) (by rw [← mix_s]; exact hFu74) (by rw [← mix_s]; exact at_upd hat0 (atI_d (hq10 k (by omega))).symm) (by omega) _ _ _ hw (lv_sub hl [1, 2, 0] rfl)
  have hst_ : σ = sr (sr (sr (sr (sr (sr (sr σ 16 (σ 16)) 17 (σ 17)) 18 (σ 18)) 19 (σ 19)) 20 (σ 20)) 21 (σ 21)) 24 (σ 24) := by
    funext j_ x_
    by_cases e0 : j_ = 0
    · subst e0
      rfl
    · by_cases e16 : j_ = 16
      · subst e16; rfl
      · by_cases e17 : j_ = 17
        · subst e17; rfl
        · by_cases e18 : j_ = 18
          · subst e18; rfl
          · by_cases e19 : j_ = 19
            · subst e19; rfl
            · by_cases e20 : j_ = 20
              · subst e20; rfl
              · by_cases e21 : j_ = 21
                · subst e21; rfl
                · by_cases e24 : j_ = 24
                  · subst e24; rfl
                  · simp only [sr, e0, e16, e17, e18, e19, e20, e21, e24, if_false]
  rw [hst_] at hw
  exact L2_0 _ 0 (σ 16) (σ 17) (σ 18) (σ 19) (σ 20) (σ 21) (σ 24) (Nat.zero_le _) hFS hat (Nat.lt_succ_self _) _ _ _ hw (lv_sub hl [1, 2, 0] rfl)
set_option maxHeartbeats 4000000 in
set_option maxRecDepth 100000 in
theorem tX2_allLeftFallen (l : Launch) (E : EV) (a : Nat → Nat) (σ : St) (fm : Nat) (x : Nat) (hm : σ 0 6 = nI fm) (hm4 : fm ≤ 4) (hx : x < 10000) : MI l E (XW E a) yX2_allLeftFallen (Cond.code yX2_allLeftFallen cX2_allLeftFallen 3 (some .boolean)) ({ frames := 1, cells := 0, slots := 0, locals := 24 }) [.ref (a 63), .int (nI x)] σ (fun r_ u_ => r_ = (if ∀ k, k < fm → ¬ nI (x / 10 ^ k % 10) = (σ 0 8) then (1 : Int32) else 0) ∧ u_ = σ) := by
  refine MI.mk (by decide +kernel) (Nat.le_of_ble_eq_true rfl) ?_
  intro p e s m args below meth c ls A Q hret hC hw hl
  have hC : Cxt E p s m args meth c cX2_allLeftFallen 3 (some .boolean) RX2 A := hC
  have hl : lv_has ls 3 [(0, .ref (a 63)), (1, .int (nI x))] := hl
  refine lv_iconst (v := nI 0) hC.1 hC.2.1 dX2_allLeftFallen_0 (by decide) ?_
  refine lv_istore_n (lv' := [(2, .int (nI 0)), (0, .ref (a 63)), (1, .int (nI x))]) hC.1 hC.2.1 dX2_allLeftFallen_1 rfl hl (by decide) rfl (fun ls hl => ?_)
  have L2_0 : ∀ (n : Nat), ∀ (k : Nat), (k ≤ fm) → (∀ i, i < k → ¬ nI (x / 10 ^ i % 10) = σ 0 8) → (fm - k) < n → ∀ (H : Heap) (locs : List Loc) (ls : Array Slot), Wst E (XW E a) (σ) A s.heap H locs → lv_has ls 3 [(0, .ref (a 63)), (1, .int (nI x)), (2, .int (nI k))] → W p l e ({ frames := 1, cells := 0, slots := 0, locals := 24 }) s m args below meth c H locs 0 0 Q (F0 m 2 ls []) := by
    intro n
    induction n with
    | zero => intro k hk hno hn; exact absurd hn (Nat.not_lt_zero _)
    | succ n ih2 =>
      intro k hk hno hn2 H locs ls hw hl
      refine lv_iload_n hC.1 hC.2.1 dX2_allLeftFallen_2 rfl (lv_at hl 2 rfl) ?_
      refine lv_aload_n hC.1 hC.2.1 dX2_allLeftFallen_3 rfl (lv_at hl 0 rfl) ?_
      refine gf_X2_28 (v := nI fm) hC hw hm dX2_allLeftFallen_4 ?_
      refine q_cmpge hC 31 (cNle (by omega) (by omega)) dX2_allLeftFallen_7 (by decide) (fun (c2 : fm ≤ k) => ?_) (fun (c2 : k < fm) => ?_)
      · refine lv_iconst (v := nI 1) hC.1 hC.2.1 dX2_allLeftFallen_31 (by decide) ?_
        refine hret _ _ _ _ _ _ hw ?_ (by decide) dX2_allLeftFallen_32
        exact ⟨(if_pos (fun i hi => hno i (by omega))).symm, rfl⟩
      · refine lv_aload_n hC.1 hC.2.1 dX2_allLeftFallen_10 rfl (lv_at hl 0 rfl) ?_
        refine lv_iload_n hC.1 hC.2.1 dX2_allLeftFallen_11 rfl (lv_at hl 1 rfl) ?_
        refine lv_iload_n hC.1 hC.2.1 dX2_allLeftFallen_12 rfl (lv_at hl 2 rfl) ?_
        refine q_callVp (As := [.int (nI x), .int (nI k)]) (rest := []) (q0 := 3) hC hw hl (tX2_hostIn l E a σ x k hx (by omega)) (q_cwV hC.2.2.2.2.1 ⟨rfl, rfl⟩ wk3_187 wk3_188 wk3_189 wk1_7 wk3_190 hd_X2_hostIn ⟨Nat.le_of_ble_eq_true rfl, Nat.le_of_ble_eq_true rfl⟩) rfl rfl rfl rfl rfl (Nat.le_of_ble_eq_true rfl) dX2_allLeftFallen_13 (fun H locs hw => ?_)
        refine lv_aload_n hC.1 hC.2.1 dX2_allLeftFallen_16 rfl (lv_at hl 0 rfl) ?_
        refine gf_X2_32 (v := σ 0 8) hC hw rfl dX2_allLeftFallen_17 ?_
        refine q_cmpne hC 25 cI dX2_allLeftFallen_20 (by decide) (fun (c6 : ¬ ((nI (x / 10 ^ k % 10)) = σ 0 8)) => ?_) (fun (c6 : (nI (x / 10 ^ k % 10)) = σ 0 8) => ?_)
        · refine lv_iinc (v := nI (k + 1)) (lv' := [(2, .int (nI (k + 1))), (0, .ref (a 63)), (1, .int (nI x))]) hC.1 hC.2.1 dX2_allLeftFallen_25 hl (k := 2) rfl (nI_add _ _) (by decide) rfl (fun ls hl => ?_)
          refine lv_goto (tgt := 2) hC.1 hC.2.1 dX2_allLeftFallen_28 (by decide) ?_
          exact ih2 (k + 1) (by omega) (ball_s.mpr ⟨hno, c6⟩) (by omega) _ _ _ hw (lv_sub hl [1, 2, 0] rfl)
        · refine lv_iconst (v := nI 0) hC.1 hC.2.1 dX2_allLeftFallen_23 (by decide) ?_
          refine hret _ _ _ _ _ _ hw ?_ (by decide) dX2_allLeftFallen_24
          exact ⟨(if_neg (fun q => q k (by omega) c6)).symm, rfl⟩
  exact L2_0 _ 0 (Nat.zero_le _) (fun i q => absurd q (Nat.not_lt_zero _)) (Nat.lt_succ_self _) _ _ _ hw (lv_sub hl [1, 2, 0] rfl)
