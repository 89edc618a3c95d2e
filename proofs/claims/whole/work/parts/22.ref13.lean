/-! a list of the numbers below n of which c holds -/
def qL (c : Nat → Bool) : Nat → List Nat
  | 0 => []
  | n + 1 => if c n = true then qL c n ++ [n] else qL c n
theorem qL_mem {c : Nat → Bool} {x : Nat} : ∀ {n : Nat}, x ∈ qL c n ↔ x < n ∧ c x = true
  | 0 => by simp [qL]
  | n + 1 => by
    rw [qL]
    split
    case isTrue q =>
      rw [List.mem_append, qL_mem, List.mem_singleton]
      constructor
      · rintro (⟨a, b⟩ | rfl)
        · exact ⟨by omega, b⟩
        · exact ⟨by omega, q⟩
      · rintro ⟨a, b⟩
        by_cases e : x = n
        · exact Or.inr e
        · exact Or.inl ⟨by omega, b⟩
    case isFalse q =>
      rw [qL_mem]
      constructor
      · rintro ⟨a, b⟩; exact ⟨by omega, b⟩
      · rintro ⟨a, b⟩
        exact ⟨by by_cases e : x = n; subst e; exact absurd b q; omega, b⟩
theorem qL_len {c : Nat → Bool} : ∀ {n : Nat}, (qL c n).length ≤ n
  | 0 => Nat.le_refl _
  | n + 1 => by
    have := qL_len (c := c) (n := n)
    rw [qL]; split
    · rw [List.length_append]; simp; omega
    · omega
theorem qL_inc {c : Nat → Bool} : ∀ {n i j : Nat}, i < j → j < (qL c n).length → gd (qL c n) i < gd (qL c n) j
  | 0, _, _, _, hj => absurd hj (Nat.not_lt_zero _)
  | n + 1, i, j, hij, hj => by
    rw [qL] at hj ⊢
    split at hj
    case isTrue q =>
      rw [if_pos q]
      rw [List.length_append] at hj
      simp only [List.length_singleton] at hj
      rw [gd_l (show i < (qL c n).length by omega)]
      by_cases e : j < (qL c n).length
      · rw [gd_l e]; exact qL_inc hij e
      · rw [gd_r (show j = (qL c n).length by omega)]
        exact (qL_mem.mp (gd_mem (show i < (qL c n).length by omega))).1
    case isFalse q => rw [if_neg q]; exact qL_inc hij hj
theorem qL_at {c : Nat → Bool} {n k : Nat} (hk : k < (qL c n).length) : gd (qL c n) k < n ∧ c (gd (qL c n) k) = true := qL_mem.mp (gd_mem hk)
theorem qL_ok {c : Nat → Bool} {n : Nat} : Fok (gd (qL c n)) (qL c n).length n :=
  ⟨fun k hk => (qL_at hk).1, fun i j hi hj e => by
    rcases Nat.lt_trichotomy i j with q | q | q
    · have := qL_inc q hj; omega
    · exact q
    · have := qL_inc q hi; omega⟩
/-- those with a target -/
def tgc (v : Nat → Int32) : Nat → Bool := fun j => decide (¬ eM v 14 j < 0)
abbrev tgo (v : Nat → Int32) (j : Nat) : Prop := eM v 11 j = 1 ∧ ¬ eM v 5 j = 3
abbrev tgN (v : Nat → Int32) (nj : Nat) : Nat := (qL (tgc v) nj).length
abbrev tgF (v : Nat → Int32) (nj : Nat) : Nat → Nat := gd (qL (tgc v) nj)
/-- what plan answers, and the steps after it -/
def PLr (v : Nat → Int32) (nh nj : Nat) (mv : Int32) (mj mh : Nat → Int32) (r : Int32) (mv' : Int32) (mj' mh' : Nat → Int32) : Prop :=
  ((∃ j, j < nj ∧ ¬ eM v 14 j < 0 ∧ ¬ tgo v j) ∧ r = -2 ∧ mv' = mv ∧ mj' = mj ∧ mh' = mh) ∨ ((∀ j, j < nj → ¬ eM v 14 j < 0 → tgo v j) ∧ ((¬ tgN v nj ≤ 4 ∧ r = -4 ∧ mv' = mv ∧ mj' = mj ∧ mh' = mh) ∨ (tgN v nj ≤ 4 ∧
    (((∀ i, i < (vPl v (tgF v nj) (tgN v nj) nh nj 8).2.length → ¬ gl v (tgF v nj) (tgN v nj) (gt (vPl v (tgF v nj) (tgN v nj) nh nj 8).2 i).1) ∧ r = -3 ∧ mv' = mv ∧ mj' = mj ∧ mh' = mh) ∨
    ∃ d s, d ≤ 8 ∧ (vPl v (tgF v nj) (tgN v nj) nh nj d).1 ≤ s ∧ s < (vPl v (tgF v nj) (tgN v nj) nh nj d).2.length ∧ gl v (tgF v nj) (tgN v nj) (gt (vPl v (tgF v nj) (tgN v nj) nh nj d).2 s).1 ∧ r = nI d ∧ mv' = nI d ∧
      ∀ i, i < d → mj' i = nI ((gt (vPl v (tgF v nj) (tgN v nj) nh nj d).2 (anc (vPl v (tgF v nj) (tgN v nj) nh nj d).2 s (d - 1 - i))).2.2 / 16) ∧ mh' i = nI ((gt (vPl v (tgF v nj) (tgN v nj) nh nj d).2 (anc (vPl v (tgF v nj) (tgN v nj) nh nj d).2 s (d - 1 - i))).2.2 % 16)))))
theorem atP_back {v w g : Nat → Int32} {nh nj fm : Nat} {F p : Nat → Nat} (hW : mF v nh nj) (hF : Fok F fm nj) (ha : atP v F fm nh w p) : cpy 354 (cpy 354 v g) w = v := funext fun i => by
  have h1 := hW.1; have h2 := hW.2.1
  unfold cpy
  by_cases e : i < 354
  · rw [if_pos e, if_pos e]
  · rw [if_neg e, ha.out hF h2 (by omega)]
theorem st_n2 {τ : St} {r4 r5 w t6 t7 t8 t9 f : Nat → Int32} {y : Int32} : sr (sr (sr (sr (sr (sr (sr (sr (sr τ 4 r4) 5 r5) 0 f) 1 w) 6 t6) 7 t7) 8 t8) 9 t9) 0 (upd f 5 y) = sr (sr (sr (sr (sr (sr (sr (sr τ 1 w) 4 r4) 5 r5) 6 t6) 7 t7) 8 t8) 9 t9) 0 (upd f 5 y) := by
  funext j
  unfold sr
  by_cases e0 : j = 0
  · subst e0; rfl
  · by_cases e1 : j = 1
    · subst e1; rfl
    · by_cases e4 : j = 4
      · subst e4; rfl
      · by_cases e5 : j = 5
        · subst e5; rfl
        · simp only [e0, e1, e4, e5, if_false]
theorem par_y {t x : Nat} (hx : t ≠ 0 → x < 2 ^ 31) (h : (if t = 0 then (-1 : Int32) else nI x) < 0) : t = 0 := Classical.byContradiction fun q => by
  rw [if_neg q] at h; exact nI_pos (hx q) h
theorem par_n {t x : Nat} (h : ¬ (if t = 0 then (-1 : Int32) else nI x) < 0) : t ≠ 0 := fun q => by
  rw [if_pos q] at h; exact h (by decide)
/-- one level up, in the list of level d -/
theorem vPl_up {v : Nat → Int32} {F : Nat → Nat} {fm nh nj d q t : Nat} (hq : q ≤ d) (h1 : (vPl v F fm nh nj q).1 ≤ t) (h2 : t < (vPl v F fm nh nj q).2.length) (h0 : t ≠ 0) : 1 ≤ q ∧ t < (vPl v F fm nh nj d).2.length ∧ (vPl v F fm nh nj (q - 1)).1 ≤ (gt (vPl v F fm nh nj d).2 t).2.1 ∧ (gt (vPl v F fm nh nj d).2 t).2.1 < (vPl v F fm nh nj (q - 1)).2.length := by
  obtain ⟨n, rfl⟩ : ∃ n, d = q + n := ⟨d - q, by omega⟩
  have hp : Pre (vPl v F fm nh nj q).2 (vPl v F fm nh nj (q + n)).2 := bfV_pres n
  by_cases e : q = 0
  · subst e
    have h2 : t < 1 := h2
    omega
  · obtain ⟨q', rfl⟩ : ∃ q', q = q' + 1 := ⟨q - 1, by omega⟩
    have := bfV_up h1 h2
    rw [hp.2 t h2]
    exact ⟨by omega, Nat.lt_of_lt_of_le h2 hp.1, this.1, this.2⟩
theorem vPl_0 {v : Nat → Int32} {F : Nat → Nat} {fm nh nj q t : Nat} (h1 : (vPl v F fm nh nj q).1 ≤ t) (h0 : t = 0) : q = 0 := Classical.byContradiction fun e => by
  obtain ⟨q', rfl⟩ : ∃ q', q = q' + 1 := ⟨q - 1, by omega⟩
  have a : 0 < (vPl v F fm nh nj q').2.length := (bfV_all (g := gPl v F fm nh nj) (cd := cPl fm) (b := bPl F) (m := fm) (nh := nh) (r0 := enc 11 (dg v F) fm) q').1.1
  have b : (vPl v F fm nh nj q').2.length ≤ t := h1
  omega
theorem vPl_mono {v : Nat → Int32} {F : Nat → Nat} {fm nh nj q d : Nat} (h : q ≤ d) : (vPl v F fm nh nj q).2.length ≤ (vPl v F fm nh nj d).2.length := by
  obtain ⟨n, rfl⟩ : ∃ n, d = q + n := ⟨d - q, by omega⟩
  exact (bfV_pres n).1
set_option maxHeartbeats 4000000 in
set_option maxRecDepth 100000 in
theorem tX11_plan (l : Launch) (E : EV) (a : Nat → Nat) (τ : St) (nh : Nat) (nj : Nat) (hW : mF (τ 1) nh nj) : MI l E (MW E a) yX11_plan (Cond.code yX11_plan cX11_plan 4 (some .int)) ({ frames := 5, cells := 0, slots := 0, locals := 120 }) [.ref (a 70)] τ (fun r_ u_ => ∃ (r4 r5 s6 s7 s8 s9 : Nat → Int32) (z4 z5 z6 : Int32) (mj mh : Nat → Int32), PLr (τ 1) nh nj (τ 0 6) (τ 10) (τ 11) r_ z6 mj mh ∧ u_ = sr (sr (sr (sr (sr (sr (sr (sr (sr τ 4 r4) 5 r5) 6 s6) 7 s7) 8 s8) 9 s9) 10 mj) 11 mh) 0 (upd (upd (upd (τ 0) 4 z4) 5 z5) 6 z6)) := by
  refine MI.mk (by decide +kernel) (Nat.le_of_ble_eq_true rfl) ?_
  intro p e s m args below meth c ls A Q hret hC hw hl
  have hC : Cxt E p s m args meth c cX11_plan 4 (some .int) RX11 A := hC
  have hl : lv_has ls 4 [(0, .ref (a 70))] := hl
  have ⟨hnh, hnj, hW0, hW1, hWh⟩ := id hW
  refine lv_aload_n hC.1 hC.2.1 dX11_plan_0 rfl (lv_at hl 0 rfl) ?_
  refine lv_iconst (v := nI 0) hC.1 hC.2.1 dX11_plan_1 (by decide) ?_
  refine pf_X11_138 hC hw dX11_plan_2 (fun H locs hw => ?_)
  have hw : Wst E (MW E a) (sr τ 0 (upd (τ 0) 4 (nI 0))) A s.heap H locs := hw
  refine lv_iconst (v := nI 0) hC.1 hC.2.1 dX11_plan_5 (by decide) ?_
  refine lv_istore_n (lv' := [(1, .int (nI 0)), (0, .ref (a 70))]) hC.1 hC.2.1 dX11_plan_6 rfl hl (by decide) rfl (fun ls hl => ?_)
  have L7_0 : ∀ (n : Nat), ∀ (j : Nat), ∀ (r5 : Nat → Int32), (j ≤ nj) → (∀ x, x < (qL (tgc (τ 1)) j).length → r5 x = nI (gd (qL (tgc (τ 1)) j) x)) → (∀ x, x < j → ¬ eM (τ 1) 14 x < 0 → tgo (τ 1) x) → (nj - j) < n → ∀ (H : Heap) (locs : List Loc) (ls : Array Slot), Wst E (MW E a) (sr (sr τ 5 (r5)) 0 (upd (τ 0) 4 (nI (qL (tgc (τ 1)) j).length))) A s.heap H locs → lv_has ls 4 [(0, .ref (a 70)), (1, .int (nI j))] → W p l e ({ frames := 5, cells := 0, slots := 0, locals := 120 }) s m args below meth c H locs 0 0 Q (F0 m 7 ls []) := by
    intro n
    induction n with
    | zero => intro j r5 hj hG hok hn; exact absurd hn (Nat.not_lt_zero _)
    | succ n ih7 =>
      intro j r5 hj hG hok hn7 H locs ls hw hl
      have hLn := qL_len (c := tgc (τ 1)) (n := j)
      refine lv_iload_n hC.1 hC.2.1 dX11_plan_7 rfl (lv_at hl 1 rfl) ?_
      refine lv_aload_n hC.1 hC.2.1 dX11_plan_8 rfl (lv_at hl 0 rfl) ?_
      refine gf_X11_7 hC hw dX11_plan_9 ?_
      refine lv_iconst (v := nI 1) hC.1 hC.2.1 dX11_plan_12 (by decide) ?_
      refine al_M1 (v := nI nj) hC hw (by omega) hW.2.2.2.1 dX11_plan_13 ?_
      refine q_cmpge hC 86 (cNle (by omega) (by omega)) dX11_plan_14 (by decide) (fun (c2 : nj ≤ j) => ?_) (fun (c2 : j < nj) => ?_)
      · have hj9 : j = nj := by omega
        rw [hj9] at hw hl
        rw [hj9] at hG hok hLn
        have hLn : tgN (τ 1) nj ≤ nj := hLn
        have hw : Wst E (MW E a) (sr (sr τ 5 (r5)) 0 (upd (τ 0) 4 (nI (tgN (τ 1) nj)))) A s.heap H locs := hw
        refine lv_aload_n hC.1 hC.2.1 dX11_plan_86 rfl (lv_at hl 0 rfl) ?_
        refine gf_X11_138 (v := nI (tgN (τ 1) nj)) hC hw rfl dX11_plan_87 ?_
        refine lv_iconst (v := nI 4) hC.1 hC.2.1 dX11_plan_90 (by decide) ?_
        refine q_cmple hC 97 (cNle (by omega) (by omega)) dX11_plan_91 (by decide) (fun (c3 : (tgN (τ 1) nj) ≤ 4) => ?_) (fun (c3 : 4 < (tgN (τ 1) nj)) => ?_)
        · refine lv_aload_n hC.1 hC.2.1 dX11_plan_97 rfl (lv_at hl 0 rfl) ?_
          refine q_callVvp (As := []) (rest := []) (q0 := 0) hC hw hl (tX11_keepSpare l E a (sr (sr τ 5 (r5)) 0 (upd (τ 0) 4 (nI (tgN (τ 1) nj)))) ) (q_cwV hC.2.2.2.2.1 ⟨rfl, rfl⟩ wk5_40 wk5_42 wks_3_6 wk1_12 wk5_43 hd_X11_keepSpare ⟨Nat.le_of_ble_eq_true rfl, Nat.le_of_ble_eq_true rfl⟩) rfl rfl rfl rfl rfl (Nat.le_of_ble_eq_true rfl) dX11_plan_98 (fun H locs hw => ?_)
          have hw : Wst E (MW E a) (sr (sr (sr τ 4 (cpy 354 (τ 1) (τ 4))) 5 (r5)) 0 (upd (τ 0) 4 (nI (tgN (τ 1) nj)))) A s.heap H locs := hw
          refine lv_aload_n hC.1 hC.2.1 dX11_plan_101 rfl (lv_at hl 0 rfl) ?_
          refine q_callV (As := []) (rest := []) (q0 := 0) hC hw hl (tX11_findPlan l E a (sr (sr (sr τ 4 (cpy 354 (τ 1) (τ 4))) 5 (r5)) 0 (upd (τ 0) 4 (nI (tgN (τ 1) nj)))) nh nj (tgN (τ 1) nj) (tgF (τ 1) nj) hW rfl c3 (fun k hk => ⟨hG k hk, (qL_at hk).1⟩) qL_ok (fun k hk => (hok _ (qL_at hk).1 (of_decide_eq_true (qL_at hk).2)).1)) (q_cwV hC.2.2.2.2.1 ⟨rfl, rfl⟩ wk5_116 wk5_118 wks_4_1 wk1_12 wk5_119 hd_X11_findPlan ⟨Nat.le_of_ble_eq_true rfl, Nat.le_of_ble_eq_true rfl⟩) rfl rfl rfl rfl rfl (Nat.le_of_ble_eq_true rfl) dX11_plan_102 (fun r8 u9 H locs p7 hw => ?_)
          obtain ⟨L, hPF, w10, sa11, sb12, sc13, sd14, q15, hat, hR, hgL, hur8⟩ := p7
          have hPF : PF (τ 1) (tgF (τ 1) nj) (tgN (τ 1) nj) nh nj L r8 := hPF
          have hgL : GL (gPl (τ 1) (tgF (τ 1) nj) (tgN (τ 1) nj) nh nj) (cPl (tgN (τ 1) nj)) (bPl (tgF (τ 1) nj)) (tgN (τ 1) nj) nh (enc 11 (dg (τ 1) (tgF (τ 1) nj)) (tgN (τ 1) nj)) L := hgL
          have hvL := Vd.all hnh hgL (Vd.of hnh (fun k hk => (hW.host (qL_at hk).1 (hok _ (qL_at hk).1 (of_decide_eq_true (qL_at hk).2)).1 |>.2 |> fun z => by have e : dg (τ 1) (tgF (τ 1) nj) k = hN (τ 1) (tgF (τ 1) nj k) := if_pos (hok _ (qL_at hk).1 (of_decide_eq_true (qL_at hk).2)).1; rw [e]; exact z)))
          have hL14 := hgL.len (fun i hi => (hvL i hi).lt c3)
          have hbk : cpy 354 (cpy 354 (τ 1) (τ 4)) w10 = τ 1 := atP_back hW qL_ok hat
          have hur8 : u9 = sr (sr (sr (sr (sr (sr (sr (sr τ 1 (w10)) 4 (cpy 354 (τ 1) (τ 4))) 5 (r5)) 6 (sa11)) 7 (sb12)) 8 (sc13)) 9 (sd14)) 0 (upd (upd (τ 0) 4 (nI (tgN (τ 1) nj))) 5 (nI L.length)) := by rw [hur8]; exact st_n2
          rw [hur8] at hw
          refine lv_istore_n (lv' := [(1, .int (r8)), (0, .ref (a 70))]) hC.1 hC.2.1 dX11_plan_105 rfl hl (by decide) rfl (fun ls hl => ?_)
          refine lv_aload_n hC.1 hC.2.1 dX11_plan_106 rfl (lv_at hl 1 rfl) ?_
          refine q_callVvp (As := []) (rest := []) (q0 := 0) hC hw hl (tX11_backSpare l E a (sr (sr (sr (sr (sr (sr (sr (sr τ 1 (w10)) 4 (cpy 354 (τ 1) (τ 4))) 5 (r5)) 6 (sa11)) 7 (sb12)) 8 (sc13)) 9 (sd14)) 0 (upd (upd (τ 0) 4 (nI (tgN (τ 1) nj))) 5 (nI L.length))) ) (q_cwV hC.2.2.2.2.1 ⟨rfl, rfl⟩ wk5_44 wk5_46 wks_3_7 wk1_12 wk5_47 hd_X11_backSpare ⟨Nat.le_of_ble_eq_true rfl, Nat.le_of_ble_eq_true rfl⟩) rfl rfl rfl rfl rfl (Nat.le_of_ble_eq_true rfl) dX11_plan_107 (fun H locs hw => ?_)
          have hw : Wst E (MW E a) (sr (sr (sr (sr (sr (sr (sr (sr τ 1 (cpy 354 (cpy 354 (τ 1) (τ 4)) w10)) 4 (cpy 354 (τ 1) (τ 4))) 5 (r5)) 6 (sa11)) 7 (sb12)) 8 (sc13)) 9 (sd14)) 0 (upd (upd (τ 0) 4 (nI (tgN (τ 1) nj))) 5 (nI L.length))) A s.heap H locs := hw
          rw [hbk] at hw
          refine lv_iload_n hC.1 hC.2.1 dX11_plan_110 rfl (lv_at hl 0 rfl) ?_
          refine q_ifge hC 117 cI dX11_plan_111 (by decide) (fun (c19 : 0 ≤ r8) => ?_) (fun (c19 : ¬ (0 ≤ r8)) => ?_)
          · obtain ⟨d, sx, hd8, hs1, hs2, hgs, hrs, hPL⟩ : ∃ d sx, d ≤ 8 ∧ (vPl (τ 1) (tgF (τ 1) nj) (tgN (τ 1) nj) nh nj d).1 ≤ sx ∧ sx < (vPl (τ 1) (tgF (τ 1) nj) (tgN (τ 1) nj) nh nj d).2.length ∧ gl (τ 1) (tgF (τ 1) nj) (tgN (τ 1) nj) (gt (vPl (τ 1) (tgF (τ 1) nj) (tgN (τ 1) nj) nh nj d).2 sx).1 ∧ r8 = nI sx ∧ Pre (vPl (τ 1) (tgF (τ 1) nj) (tgN (τ 1) nj) nh nj d).2 L := by rcases hPF with q | q; exact q; exact absurd c19 (by rw [q.2]; decide)
            subst hrs
            have hPl := hPL.1
            have hby : ∀ t, t < L.length → t ≠ 0 → (gt L t).2.2 < 400 := fun t ht h0 => by
              obtain ⟨-, k, h, hk, hh, -, -, hb⟩ := hgL.2.2.2 t (by omega) ht
              have hb : (gt L t).2.2 = 16 * tgF (τ 1) nj k + h := hb
              have := (qL_at hk).1
              rw [hb]; show 16 * gd (qL (tgc (τ 1)) nj) k + h < 400; omega
            refine lv_aload_n hC.1 hC.2.1 dX11_plan_117 rfl (lv_at hl 1 rfl) ?_
            refine lv_iconst (v := nI 0) hC.1 hC.2.1 dX11_plan_118 (by decide) ?_
            refine pf_X11_175 hC hw dX11_plan_119 (fun H locs hw => ?_)
            have hw : Wst E (MW E a) (sr (sr (sr (sr (sr (sr (sr (sr τ 1 (τ 1)) 4 (cpy 354 (τ 1) (τ 4))) 5 (r5)) 6 (sa11)) 7 (sb12)) 8 (sc13)) 9 (sd14)) 0 (upd (upd (upd (τ 0) 4 (nI (tgN (τ 1) nj))) 5 (nI L.length)) 6 (nI 0))) A s.heap H locs := hw
            refine lv_iload_n hC.1 hC.2.1 dX11_plan_122 rfl (lv_at hl 0 rfl) ?_
            refine lv_istore_n (lv' := [(2, .int (nI sx)), (1, .int (nI sx)), (0, .ref (a 70))]) hC.1 hC.2.1 dX11_plan_123 rfl hl (by decide) rfl (fun ls hl => ?_)
            have L124_19 : ∀ (n : Nat), ∀ (t : Nat), ∀ (mm : Nat), (mm ≤ d) → (t = anc (vPl (τ 1) (tgF (τ 1) nj) (tgN (τ 1) nj) nh nj d).2 sx mm) → ((vPl (τ 1) (tgF (τ 1) nj) (tgN (τ 1) nj) nh nj (d - mm)).1 ≤ t) → (t < (vPl (τ 1) (tgF (τ 1) nj) (tgN (τ 1) nj) nh nj (d - mm)).2.length) → (d - mm) < n → ∀ (H : Heap) (locs : List Loc) (ls : Array Slot), Wst E (MW E a) (sr (sr (sr (sr (sr (sr (sr (sr τ 1 (τ 1)) 4 (cpy 354 (τ 1) (τ 4))) 5 (r5)) 6 (sa11)) 7 (sb12)) 8 (sc13)) 9 (sd14)) 0 (upd (upd (upd (τ 0) 4 (nI (tgN (τ 1) nj))) 5 (nI L.length)) 6 (nI (mm)))) A s.heap H locs → lv_has ls 4 [(0, .ref (a 70)), (1, .int (nI sx)), (2, .int (nI t))] → W p l e ({ frames := 5, cells := 0, slots := 0, locals := 120 }) s m args below meth c H locs 0 0 Q (F0 m 124 ls []) := by
              intro n
              induction n with
              | zero => intro t mm hm hta ht1 ht2 hn; exact absurd hn (Nat.not_lt_zero _)
              | succ n ih124 =>
                intro t mm hm hta ht1 ht2 hn124 H locs ls hw hl
                have htL : t < L.length := Nat.lt_of_lt_of_le ht2 (Nat.le_trans (vPl_mono (by omega)) hPl)
                refine lv_aload_n hC.1 hC.2.1 dX11_plan_124 rfl (lv_at hl 0 rfl) ?_
                refine gf_X11_32 hC hw dX11_plan_125 ?_
                refine lv_iload_n hC.1 hC.2.1 dX11_plan_128 rfl (lv_at hl 2 rfl) ?_
                refine al_M8 (v := (if t = 0 then (-1) else nI (gt L t).2.1)) hC hw (by omega) (hR.1 t (by omega)).2.1 dX11_plan_129 ?_
                refine q_iflt hC 153 cI dX11_plan_130 (by decide) (fun (c21 : (if t = 0 then (-1) else nI (gt L t).2.1) < 0) => ?_) (fun (c21 : ¬ ((if t = 0 then (-1) else nI (gt L t).2.1) < 0)) => ?_)
                · have ht0 : t = 0 := par_y (fun z => by have := (hgL.2.2.2 t (by omega) htL).1; omega) c21
                  have hmd : mm = d := by have := vPl_0 ht1 ht0; omega
                  rw [hmd] at hw
                  have hw : Wst E (MW E a) (sr (sr (sr (sr (sr (sr (sr (sr τ 1 (τ 1)) 4 (cpy 354 (τ 1) (τ 4))) 5 (r5)) 6 (sa11)) 7 (sb12)) 8 (sc13)) 9 (sd14)) 0 (upd (upd (upd (τ 0) 4 (nI (tgN (τ 1) nj))) 5 (nI L.length)) 6 (nI (d)))) A s.heap H locs := hw
                  refine lv_aload_n hC.1 hC.2.1 dX11_plan_153 rfl (lv_at hl 0 rfl) ?_
                  refine gf_X11_175 (v := nI d) hC hw rfl dX11_plan_154 ?_
                  refine lv_istore_n (lv' := [(2, .int (nI d)), (0, .ref (a 70)), (1, .int (nI sx))]) hC.1 hC.2.1 dX11_plan_157 rfl hl (by decide) rfl (fun ls hl => ?_)
                  refine lv_iload_n hC.1 hC.2.1 dX11_plan_158 rfl (lv_at hl 2 rfl) ?_
                  refine lv_istore_n (lv' := [(3, .int (nI sx)), (2, .int (nI d)), (0, .ref (a 70)), (1, .int (nI sx))]) hC.1 hC.2.1 dX11_plan_159 rfl hl (by decide) rfl (fun ls hl => ?_)
                  have L160_21 : ∀ (n : Nat), ∀ (q : Nat), ∀ (t : Nat), ∀ (mj : Nat → Int32), ∀ (mh : Nat → Int32), (q ≤ d) → (t = anc (vPl (τ 1) (tgF (τ 1) nj) (tgN (τ 1) nj) nh nj d).2 sx (d - q)) → ((vPl (τ 1) (tgF (τ 1) nj) (tgN (τ 1) nj) nh nj q).1 ≤ t) → (t < (vPl (τ 1) (tgF (τ 1) nj) (tgN (τ 1) nj) nh nj q).2.length) → (∀ i, q ≤ i → i < d → mj i = nI ((gt (vPl (τ 1) (tgF (τ 1) nj) (tgN (τ 1) nj) nh nj d).2 (anc (vPl (τ 1) (tgF (τ 1) nj) (tgN (τ 1) nj) nh nj d).2 sx (d - 1 - i))).2.2 / 16) ∧ mh i = nI ((gt (vPl (τ 1) (tgF (τ 1) nj) (tgN (τ 1) nj) nh nj d).2 (anc (vPl (τ 1) (tgF (τ 1) nj) (tgN (τ 1) nj) nh nj d).2 sx (d - 1 - i))).2.2 % 16)) → (q) < n → ∀ (H : Heap) (locs : List Loc) (ls : Array Slot), Wst E (MW E a) (sr (sr (sr (sr (sr (sr (sr (sr (sr (sr τ 1 (τ 1)) 4 (cpy 354 (τ 1) (τ 4))) 5 (r5)) 6 (sa11)) 7 (sb12)) 8 (sc13)) 9 (sd14)) 10 (mj)) 11 (mh)) 0 (upd (upd (upd (τ 0) 4 (nI (tgN (τ 1) nj))) 5 (nI L.length)) 6 (nI (d)))) A s.heap H locs → lv_has ls 4 [(0, .ref (a 70)), (1, .int (nI sx)), (2, .int (nI q)), (3, .int (nI t))] → W p l e ({ frames := 5, cells := 0, slots := 0, locals := 120 }) s m args below meth c H locs 0 0 Q (F0 m 160 ls []) := by
                    intro n
                    induction n with
                    | zero => intro q t mj mh hq hta ht1 ht2 hJ hn; exact absurd hn (Nat.not_lt_zero _)
                    | succ n ih160 =>
                      intro q t mj mh hq hta ht1 ht2 hJ hn160 H locs ls hw hl
                      have htL : t < L.length := Nat.lt_of_lt_of_le ht2 (Nat.le_trans (vPl_mono (by omega)) hPl)
                      refine lv_aload_n hC.1 hC.2.1 dX11_plan_160 rfl (lv_at hl 0 rfl) ?_
                      refine gf_X11_32 hC hw dX11_plan_161 ?_
                      refine lv_iload_n hC.1 hC.2.1 dX11_plan_164 rfl (lv_at hl 3 rfl) ?_
                      refine al_M8 (v := (if t = 0 then (-1) else nI (gt L t).2.1)) hC hw (by omega) (hR.1 t (by omega)).2.1 dX11_plan_165 ?_
                      refine q_iflt hC 212 cI dX11_plan_166 (by decide) (fun (c23 : (if t = 0 then (-1) else nI (gt L t).2.1) < 0) => ?_) (fun (c23 : ¬ ((if t = 0 then (-1) else nI (gt L t).2.1) < 0)) => ?_)
                      · refine lv_aload_n hC.1 hC.2.1 dX11_plan_212 rfl (lv_at hl 0 rfl) ?_
                        refine gf_X11_175 (v := nI d) hC hw rfl dX11_plan_213 ?_
                        refine hret _ _ _ _ _ _ hw ?_ rfl dX11_plan_216
                        have ht0 : t = 0 := par_y (fun z => by have := (hgL.2.2.2 t (by omega) htL).1; omega) c23
                        have hq0 : q = 0 := vPl_0 ht1 ht0
                        refine ⟨cpy 354 (τ 1) (τ 4), r5, sa11, sb12, sc13, sd14, nI (tgN (τ 1) nj), nI L.length, nI (d), mj, mh, Or.inr ⟨hok, Or.inr ⟨c3, Or.inr ⟨d, sx, hd8, hs1, hs2, hgs, rfl, rfl, fun i hi => hJ i (by omega) hi⟩⟩⟩, ?_⟩
                        funext j_ x_
                        by_cases e0 : j_ = 0
                        · subst e0
                          by_cases y4 : x_ = 4
                          · subst y4; rfl
                          · by_cases y5 : x_ = 5
                            · subst y5; rfl
                            · by_cases y6 : x_ = 6
                              · subst y6; rfl
                              · simp [sr, upd, y4, y5, y6]
                        · by_cases e1 : j_ = 1
                          · subst e1; rfl
                          · by_cases e4 : j_ = 4
                            · subst e4; rfl
                            · by_cases e5 : j_ = 5
                              · subst e5; rfl
                              · by_cases e6 : j_ = 6
                                · subst e6; rfl
                                · by_cases e7 : j_ = 7
                                  · subst e7; rfl
                                  · by_cases e8 : j_ = 8
                                    · subst e8; rfl
                                    · by_cases e9 : j_ = 9
                                      · subst e9; rfl
                                      · by_cases e10 : j_ = 10
                                        · subst e10; rfl
                                        · by_cases e11 : j_ = 11
                                          · subst e11; rfl
                                          · simp only [sr, e0, e1, e4, e5, e6, e7, e8, e9, e10, e11, if_false]
                      · have ht0 := par_n c23
                        have hup := vPl_up (q := q) (d := d) (by omega) ht1 ht2 ht0
                        have hLt := hPL.2 t hup.2.1
                        have hq1 := hup.1
                        have hbt := hby t htL ht0
                        rw [hLt] at hbt
                        refine lv_iinc (v := nI (q - 1)) (lv' := [(2, .int (nI (q - 1))), (0, .ref (a 70)), (1, .int (nI sx)), (3, .int (nI t))]) hC.1 hC.2.1 dX11_plan_169 hl (k := 2) rfl (by rw [show Int32.ofInt (-1) = - nI 1 from by decide, ← Int32.sub_eq_add_neg]; exact pk_sub (by omega)) (by decide) rfl (fun ls hl => ?_)
                        refine lv_aload_n hC.1 hC.2.1 dX11_plan_172 rfl (lv_at hl 1 rfl) ?_
                        refine gf_X11_38 hC hw dX11_plan_173 ?_
                        refine lv_iload_n hC.1 hC.2.1 dX11_plan_176 rfl (lv_at hl 0 rfl) ?_
                        refine lv_aload_n hC.1 hC.2.1 dX11_plan_177 rfl (lv_at hl 1 rfl) ?_
                        refine gf_X11_35 hC hw dX11_plan_178 ?_
                        refine lv_iload_n hC.1 hC.2.1 dX11_plan_181 rfl (lv_at hl 3 rfl) ?_
                        refine al_M9 (v := nI ((gt (vPl (τ 1) (tgF (τ 1) nj) (tgN (τ 1) nj) nh nj d).2 t).2.2)) hC hw (by omega) ((hR.1 t (by omega)).2.2.trans (congrArg (fun z => nI z.2.2) hLt)) dX11_plan_182 ?_
                        refine lv_bipush (v := nI 16) hC.1 hC.2.1 dX11_plan_183 (by decide) ?_
                        refine q_divN hC (by omega) (by omega) (by omega) dX11_plan_185 ?_
                        refine as_M10 hC hw (by omega) dX11_plan_186 (fun H locs hw => ?_)
                        have hw : Wst E (MW E a) (sr (sr (sr (sr (sr (sr (sr (sr (sr (sr τ 1 (τ 1)) 4 (cpy 354 (τ 1) (τ 4))) 5 (r5)) 6 (sa11)) 7 (sb12)) 8 (sc13)) 9 (sd14)) 10 (upd (mj) (q - 1) (nI (((gt (vPl (τ 1) (tgF (τ 1) nj) (tgN (τ 1) nj) nh nj d).2 t).2.2) / 16)))) 11 (mh)) 0 (upd (upd (upd (τ 0) 4 (nI (tgN (τ 1) nj))) 5 (nI L.length)) 6 (nI (d)))) A s.heap H locs := hw
                        refine lv_aload_n hC.1 hC.2.1 dX11_plan_187 rfl (lv_at hl 1 rfl) ?_
                        refine gf_X11_41 hC hw dX11_plan_188 ?_
                        refine lv_iload_n hC.1 hC.2.1 dX11_plan_191 rfl (lv_at hl 0 rfl) ?_
                        refine lv_aload_n hC.1 hC.2.1 dX11_plan_192 rfl (lv_at hl 1 rfl) ?_
                        refine gf_X11_35 hC hw dX11_plan_193 ?_
                        refine lv_iload_n hC.1 hC.2.1 dX11_plan_196 rfl (lv_at hl 3 rfl) ?_
                        refine al_M9 (v := nI ((gt (vPl (τ 1) (tgF (τ 1) nj) (tgN (τ 1) nj) nh nj d).2 t).2.2)) hC hw (by omega) ((hR.1 t (by omega)).2.2.trans (congrArg (fun z => nI z.2.2) hLt)) dX11_plan_197 ?_
                        refine lv_bipush (v := nI 16) hC.1 hC.2.1 dX11_plan_198 (by decide) ?_
                        refine q_remN hC (by omega) (by omega) (by omega) dX11_plan_200 ?_
                        refine as_M11 hC hw (by omega) dX11_plan_201 (fun H locs hw => ?_)
                        have hw : Wst E (MW E a) (sr (sr (sr (sr (sr (sr (sr (sr (sr (sr τ 1 (τ 1)) 4 (cpy 354 (τ 1) (τ 4))) 5 (r5)) 6 (sa11)) 7 (sb12)) 8 (sc13)) 9 (sd14)) 10 (upd (mj) (q - 1) (nI (((gt (vPl (τ 1) (tgF (τ 1) nj) (tgN (τ 1) nj) nh nj d).2 t).2.2) / 16)))) 11 (upd (mh) (q - 1) (nI (((gt (vPl (τ 1) (tgF (τ 1) nj) (tgN (τ 1) nj) nh nj d).2 t).2.2) % 16)))) 0 (upd (upd (upd (τ 0) 4 (nI (tgN (τ 1) nj))) 5 (nI L.length)) 6 (nI (d)))) A s.heap H locs := hw
                        refine lv_aload_n hC.1 hC.2.1 dX11_plan_202 rfl (lv_at hl 1 rfl) ?_
                        refine gf_X11_32 hC hw dX11_plan_203 ?_
                        refine lv_iload_n hC.1 hC.2.1 dX11_plan_206 rfl (lv_at hl 3 rfl) ?_
                        refine al_M8 (v := nI ((gt (vPl (τ 1) (tgF (τ 1) nj) (tgN (τ 1) nj) nh nj d).2 t).2.1)) hC hw (by omega) ((hR.1 t (by omega)).2.1.trans ((if_neg ht0).trans (congrArg (fun z => nI z.2.1) hLt))) dX11_plan_207 ?_
                        refine lv_istore_n (lv' := [(3, .int (nI ((gt (vPl (τ 1) (tgF (τ 1) nj) (tgN (τ 1) nj) nh nj d).2 t).2.1))), (2, .int (nI (q - 1))), (0, .ref (a 70)), (1, .int (nI sx))]) hC.1 hC.2.1 dX11_plan_208 rfl hl (by decide) rfl (fun ls hl => ?_)
                        refine lv_goto (tgt := 160) hC.1 hC.2.1 dX11_plan_209 (by decide) ?_
                        exact ih160 (q - 1) ((gt (vPl (τ 1) (tgF (τ 1) nj) (tgN (τ 1) nj) nh nj d).2 t).2.1) (upd (mj) (q - 1) (nI (((gt (vPl (τ 1) (tgF (τ 1) nj) (tgN (τ 1) nj) nh nj d).2 t).2.2) / 16))) (upd (mh) (q - 1) (nI (((gt (vPl (τ 1) (tgF (τ 1) nj) (tgN (τ 1) nj) nh nj d).2 t).2.2) % 16))) (by omega) (by rw [show d - (q - 1) = (d - q) + 1 by omega]; rw [hta]; rfl) hup.2.2.1 hup.2.2.2 (fun i i1 i2 => by by_cases z : i = q - 1; (subst z; rw [ups, ups, show d - 1 - (q - 1) = d - q by omega, ← hta]; exact ⟨rfl, rfl⟩); rw [upn z, upn z]; exact hJ i (by omega) i2) (by omega) _ _ _ hw (lv_sub hl [2, 3, 1, 0] rfl)
                  exact L160_21 _ d sx (τ 10) (τ 11) (Nat.le_refl _) (by rw [Nat.sub_self]; rfl) hs1 hs2 (fun i q1 q2 => by omega) (Nat.lt_succ_self _) _ _ _ hw (lv_sub hl [2, 3, 1, 0] rfl)
                · have ht0 := par_n c21
                  have hup := vPl_up (q := d - mm) (d := d) (by omega) ht1 ht2 ht0
                  have hLt := hPL.2 t hup.2.1
                  refine lv_aload_n hC.1 hC.2.1 dX11_plan_133 rfl (lv_at hl 0 rfl) ?_
                  refine lv_dup hC.1 hC.2.1 dX11_plan_134 rfl ?_
                  refine gf_X11_175 (v := nI mm) hC hw rfl dX11_plan_135 ?_
                  refine lv_iconst (v := nI 1) hC.1 hC.2.1 dX11_plan_138 (by decide) ?_
                  refine q_addN hC dX11_plan_139 ?_
                  refine pf_X11_175 hC hw dX11_plan_140 (fun H locs hw => ?_)
                  have hw : Wst E (MW E a) (sr (sr (sr (sr (sr (sr (sr (sr τ 1 (τ 1)) 4 (cpy 354 (τ 1) (τ 4))) 5 (r5)) 6 (sa11)) 7 (sb12)) 8 (sc13)) 9 (sd14)) 0 (upd (upd (upd (τ 0) 4 (nI (tgN (τ 1) nj))) 5 (nI L.length)) 6 (nI (mm + 1)))) A s.heap H locs := hw
                  refine lv_aload_n hC.1 hC.2.1 dX11_plan_143 rfl (lv_at hl 0 rfl) ?_
                  refine gf_X11_32 hC hw dX11_plan_144 ?_
                  refine lv_iload_n hC.1 hC.2.1 dX11_plan_147 rfl (lv_at hl 2 rfl) ?_
                  refine al_M8 (v := nI ((gt (vPl (τ 1) (tgF (τ 1) nj) (tgN (τ 1) nj) nh nj d).2 t).2.1)) hC hw (by omega) ((hR.1 t (by omega)).2.1.trans ((if_neg ht0).trans (congrArg (fun z => nI z.2.1) hLt))) dX11_plan_148 ?_
                  refine lv_istore_n (lv' := [(2, .int (nI ((gt (vPl (τ 1) (tgF (τ 1) nj) (tgN (τ 1) nj) nh nj d).2 t).2.1))), (0, .ref (a 70)), (1, .int (nI sx))]) hC.1 hC.2.1 dX11_plan_149 rfl hl (by decide) rfl (fun ls hl => ?_)
                  refine lv_goto (tgt := 124) hC.1 hC.2.1 dX11_plan_150 (by decide) ?_
                  exact ih124 ((gt (vPl (τ 1) (tgF (τ 1) nj) (tgN (τ 1) nj) nh nj d).2 t).2.1) (mm + 1) (by omega) (by rw [hta]; rfl) (by rw [show d - (mm + 1) = d - mm - 1 by omega]; exact hup.2.2.1) (by rw [show d - (mm + 1) = d - mm - 1 by omega]; exact hup.2.2.2) (by omega) _ _ _ hw (lv_sub hl [1, 2, 0] rfl)
            exact L124_19 _ sx 0 (Nat.zero_le _) rfl hs1 hs2 (Nat.lt_succ_self _) _ _ _ hw (lv_sub hl [2, 1, 0] rfl)
          · refine lv_bipush (v := (-3)) hC.1 hC.2.1 dX11_plan_114 (by decide) ?_
            refine hret _ _ _ _ _ _ hw ?_ rfl dX11_plan_116
            have hno : ∀ i, i < (vPl (τ 1) (tgF (τ 1) nj) (tgN (τ 1) nj) nh nj 8).2.length → ¬ gl (τ 1) (tgF (τ 1) nj) (tgN (τ 1) nj) (gt (vPl (τ 1) (tgF (τ 1) nj) (tgN (τ 1) nj) nh nj 8).2 i).1 := by
              rcases hPF with ⟨d, s1, -, -, hs, -, er, hP⟩ | q
              · have := hP.1
                exact absurd (by rw [er]; exact nI_pos' (by omega)) c19
              · exact q.1
            refine ⟨cpy 354 (τ 1) (τ 4), r5, sa11, sb12, sc13, sd14, nI (tgN (τ 1) nj), nI L.length, τ 0 6, τ 10, τ 11, Or.inr ⟨hok, Or.inr ⟨c3, Or.inl ⟨hno, rfl, rfl, rfl, rfl⟩⟩⟩, ?_⟩
            funext j_ x_
            by_cases e0 : j_ = 0
            · subst e0
              by_cases y4 : x_ = 4
              · subst y4; rfl
              · by_cases y5 : x_ = 5
                · subst y5; rfl
                · by_cases y6 : x_ = 6
                  · subst y6; rfl
                  · simp [sr, upd, y4, y5, y6]
            · by_cases e1 : j_ = 1
              · subst e1; rfl
              · by_cases e4 : j_ = 4
                · subst e4; rfl
                · by_cases e5 : j_ = 5
                  · subst e5; rfl
                  · by_cases e6 : j_ = 6
                    · subst e6; rfl
                    · by_cases e7 : j_ = 7
                      · subst e7; rfl
                      · by_cases e8 : j_ = 8
                        · subst e8; rfl
                        · by_cases e9 : j_ = 9
                          · subst e9; rfl
                          · by_cases e10 : j_ = 10
                            · subst e10; rfl
                            · by_cases e11 : j_ = 11
                              · subst e11; rfl
                              · simp only [sr, e0, e1, e4, e5, e6, e7, e8, e9, e10, e11, if_false]
        · refine lv_bipush (v := (-4)) hC.1 hC.2.1 dX11_plan_94 (by decide) ?_
          refine hret _ _ _ _ _ _ hw ?_ rfl dX11_plan_96
          refine ⟨τ 4, r5, τ 6, τ 7, τ 8, τ 9, nI (tgN (τ 1) nj), τ 0 5, τ 0 6, τ 10, τ 11, Or.inr ⟨hok, Or.inl ⟨by omega, rfl, rfl, rfl, rfl⟩⟩, ?_⟩
          funext j_ x_
          by_cases e0 : j_ = 0
          · subst e0
            by_cases y4 : x_ = 4
            · subst y4; rfl
            · by_cases y5 : x_ = 5
              · subst y5; rfl
              · by_cases y6 : x_ = 6
                · subst y6; rfl
                · simp [sr, upd, y4, y5, y6]
          · by_cases e4 : j_ = 4
            · subst e4; rfl
            · by_cases e5 : j_ = 5
              · subst e5; rfl
              · by_cases e6 : j_ = 6
                · subst e6; rfl
                · by_cases e7 : j_ = 7
                  · subst e7; rfl
                  · by_cases e8 : j_ = 8
                    · subst e8; rfl
                    · by_cases e9 : j_ = 9
                      · subst e9; rfl
                      · by_cases e10 : j_ = 10
                        · subst e10; rfl
                        · by_cases e11 : j_ = 11
                          · subst e11; rfl
                          · simp only [sr, e0, e4, e5, e6, e7, e8, e9, e10, e11, if_false]
      · refine lv_aload_n hC.1 hC.2.1 dX11_plan_17 rfl (lv_at hl 0 rfl) ?_
        refine gf_X11_7 hC hw dX11_plan_18 ?_
        refine lv_sipush (v := nI 330) hC.1 hC.2.1 dX11_plan_21 (by decide) ?_
        refine lv_iload_n hC.1 hC.2.1 dX11_plan_24 rfl (lv_at hl 1 rfl) ?_
        refine q_addN hC dX11_plan_25 ?_
        refine al_M1 (v := eM (τ 1) 14 j) hC hw (by omega) (show _ = eM (τ 1) 14 j from congrArg (τ 1) (by omega)) dX11_plan_26 ?_
        refine q_iflt hC 80 cI dX11_plan_27 (by decide) (fun (c24 : (eM (τ 1) 14 j) < 0) => ?_) (fun (c24 : ¬ ((eM (τ 1) 14 j) < 0)) => ?_)
        · refine lv_iinc (v := nI (j + 1)) (lv' := [(1, .int (nI (j + 1))), (0, .ref (a 70))]) hC.1 hC.2.1 dX11_plan_80 hl (k := 1) rfl (nI_add _ _) (by decide) rfl (fun ls hl => ?_)
          refine lv_goto (tgt := 7) hC.1 hC.2.1 dX11_plan_83 (by decide) ?_
          have hL : qL (tgc (τ 1)) (j + 1) = qL (tgc (τ 1)) j := if_neg (fun q => absurd c24 (of_decide_eq_true q))
          rw [← hL] at hw
          exact ih7 (j + 1) r5 (by omega) (by rw [hL]; exact hG) (fun x hx ht => by by_cases e : x = j; (subst e; exact absurd c24 ht); exact hok x (by omega) ht) (by omega) _ _ _ hw (lv_sub hl [1, 0] rfl)
        · refine lv_aload_n hC.1 hC.2.1 dX11_plan_30 rfl (lv_at hl 0 rfl) ?_
          refine gf_X11_7 hC hw dX11_plan_31 ?_
          refine lv_sipush (v := nI 258) hC.1 hC.2.1 dX11_plan_34 (by decide) ?_
          refine lv_iload_n hC.1 hC.2.1 dX11_plan_37 rfl (lv_at hl 1 rfl) ?_
          refine q_addN hC dX11_plan_38 ?_
          refine al_M1 (v := eM (τ 1) 11 j) hC hw (by omega) (show _ = eM (τ 1) 11 j from congrArg (τ 1) (by omega)) dX11_plan_39 ?_
          refine lv_iconst (v := nI 1) hC.1 hC.2.1 dX11_plan_40 (by decide) ?_
          refine q_cmpne hC 57 cI dX11_plan_41 (by decide) (fun (c25 : ¬ ((eM (τ 1) 11 j) = 1)) => ?_) (fun (c25 : (eM (τ 1) 11 j) = 1) => ?_)
          · refine lv_bipush (v := (-2)) hC.1 hC.2.1 dX11_plan_57 (by decide) ?_
            refine hret _ _ _ _ _ _ hw ?_ rfl dX11_plan_59
            refine ⟨τ 4, r5, τ 6, τ 7, τ 8, τ 9, nI (qL (tgc (τ 1)) j).length, τ 0 5, τ 0 6, τ 10, τ 11, Or.inl ⟨⟨j, by omega, c24, fun q => c25 q.1⟩, rfl, rfl, rfl, rfl⟩, ?_⟩
            funext j_ x_
            by_cases e0 : j_ = 0
            · subst e0
              by_cases y4 : x_ = 4
              · subst y4; rfl
              · by_cases y5 : x_ = 5
                · subst y5; rfl
                · by_cases y6 : x_ = 6
                  · subst y6; rfl
                  · simp [sr, upd, y4, y5, y6]
            · by_cases e4 : j_ = 4
              · subst e4; rfl
              · by_cases e5 : j_ = 5
                · subst e5; rfl
                · by_cases e6 : j_ = 6
                  · subst e6; rfl
                  · by_cases e7 : j_ = 7
                    · subst e7; rfl
                    · by_cases e8 : j_ = 8
                      · subst e8; rfl
                      · by_cases e9 : j_ = 9
                        · subst e9; rfl
                        · by_cases e10 : j_ = 10
                          · subst e10; rfl
                          · by_cases e11 : j_ = 11
                            · subst e11; rfl
                            · simp only [sr, e0, e4, e5, e6, e7, e8, e9, e10, e11, if_false]
          · refine lv_aload_n hC.1 hC.2.1 dX11_plan_44 rfl (lv_at hl 0 rfl) ?_
            refine gf_X11_7 hC hw dX11_plan_45 ?_
            refine lv_bipush (v := nI 66) hC.1 hC.2.1 dX11_plan_48 (by decide) ?_
            refine lv_iload_n hC.1 hC.2.1 dX11_plan_50 rfl (lv_at hl 1 rfl) ?_
            refine q_addN hC dX11_plan_51 ?_
            refine al_M1 (v := eM (τ 1) 5 j) hC hw (by omega) (show _ = eM (τ 1) 5 j from congrArg (τ 1) (by omega)) dX11_plan_52 ?_
            refine lv_iconst (v := nI 3) hC.1 hC.2.1 dX11_plan_53 (by decide) ?_
            refine q_cmpne hC 60 cI dX11_plan_54 (by decide) (fun (c26 : ¬ ((eM (τ 1) 5 j) = 3)) => ?_) (fun (c26 : (eM (τ 1) 5 j) = 3) => ?_)
            · refine lv_aload_n hC.1 hC.2.1 dX11_plan_60 rfl (lv_at hl 0 rfl) ?_
              refine gf_X11_22 hC hw dX11_plan_61 ?_
              refine lv_aload_n hC.1 hC.2.1 dX11_plan_64 rfl (lv_at hl 0 rfl) ?_
              refine gf_X11_138 (v := nI ((qL (tgc (τ 1)) j).length)) hC hw rfl dX11_plan_65 ?_
              refine lv_iload_n hC.1 hC.2.1 dX11_plan_68 rfl (lv_at hl 1 rfl) ?_
              refine as_M5 hC hw (by omega) dX11_plan_69 (fun H locs hw => ?_)
              have hw : Wst E (MW E a) (sr (sr τ 5 (upd (r5) ((qL (tgc (τ 1)) j).length) (nI j))) 0 (upd (τ 0) 4 (nI (qL (tgc (τ 1)) j).length))) A s.heap H locs := hw
              refine lv_aload_n hC.1 hC.2.1 dX11_plan_70 rfl (lv_at hl 0 rfl) ?_
              refine lv_dup hC.1 hC.2.1 dX11_plan_71 rfl ?_
              refine gf_X11_138 (v := nI ((qL (tgc (τ 1)) j).length)) hC hw rfl dX11_plan_72 ?_
              refine lv_iconst (v := nI 1) hC.1 hC.2.1 dX11_plan_75 (by decide) ?_
              refine q_addN hC dX11_plan_76 ?_
              refine pf_X11_138 hC hw dX11_plan_77 (fun H locs hw => ?_)
              have hw : Wst E (MW E a) (sr (sr τ 5 (upd (r5) ((qL (tgc (τ 1)) j).length) (nI j))) 0 (upd (τ 0) 4 (nI (((qL (tgc (τ 1)) j).length) + 1)))) A s.heap H locs := hw
              refine lv_iinc (v := nI (j + 1)) (lv' := [(1, .int (nI (j + 1))), (0, .ref (a 70))]) hC.1 hC.2.1 dX11_plan_80 hl (k := 1) rfl (nI_add _ _) (by decide) rfl (fun ls hl => ?_)
              refine lv_goto (tgt := 7) hC.1 hC.2.1 dX11_plan_83 (by decide) ?_
              have hL : qL (tgc (τ 1)) (j + 1) = qL (tgc (τ 1)) j ++ [j] := if_pos (decide_eq_true c24)
              have hLl : (qL (tgc (τ 1)) j).length + 1 = (qL (tgc (τ 1)) (j + 1)).length := by rw [hL, List.length_append]; rfl
              have hsc : nI (((qL (tgc (τ 1)) j).length) + 1) = nI (qL (tgc (τ 1)) (j + 1)).length := congrArg nI hLl
              rw [hsc] at hw
              exact ih7 (j + 1) (upd (r5) ((qL (tgc (τ 1)) j).length) (nI j)) (by omega) (fun x hx => by rw [hL] at hx ⊢; rw [List.length_append, List.length_singleton] at hx; by_cases e : x = (qL (tgc (τ 1)) j).length; (subst e; rw [ups, gd_r rfl]); rw [upn e, gd_l (by omega)]; exact hG x (by omega)) (fun x hx ht => by by_cases e : x = j; (subst e; exact ⟨c25, c26⟩); exact hok x (by omega) ht) (by omega) _ _ _ hw (lv_sub hl [1, 0] rfl)
            · refine lv_bipush (v := (-2)) hC.1 hC.2.1 dX11_plan_57 (by decide) ?_
              refine hret _ _ _ _ _ _ hw ?_ rfl dX11_plan_59
              refine ⟨τ 4, r5, τ 6, τ 7, τ 8, τ 9, nI (qL (tgc (τ 1)) j).length, τ 0 5, τ 0 6, τ 10, τ 11, Or.inl ⟨⟨j, by omega, c24, fun q => q.2 c26⟩, rfl, rfl, rfl, rfl⟩, ?_⟩
              funext j_ x_
              by_cases e0 : j_ = 0
              · subst e0
                by_cases y4 : x_ = 4
                · subst y4; rfl
                · by_cases y5 : x_ = 5
                  · subst y5; rfl
                  · by_cases y6 : x_ = 6
                    · subst y6; rfl
                    · simp [sr, upd, y4, y5, y6]
              · by_cases e4 : j_ = 4
                · subst e4; rfl
                · by_cases e5 : j_ = 5
                  · subst e5; rfl
                  · by_cases e6 : j_ = 6
                    · subst e6; rfl
                    · by_cases e7 : j_ = 7
                      · subst e7; rfl
                      · by_cases e8 : j_ = 8
                        · subst e8; rfl
                        · by_cases e9 : j_ = 9
                          · subst e9; rfl
                          · by_cases e10 : j_ = 10
                            · subst e10; rfl
                            · by_cases e11 : j_ = 11
                              · subst e11; rfl
                              · simp only [sr, e0, e4, e5, e6, e7, e8, e9, e10, e11, if_false]
  exact L7_0 _ 0 (τ 5) (Nat.zero_le _) (fun x q => absurd q (Nat.not_lt_zero _)) (fun x q => absurd q (Nat.not_lt_zero _)) (Nat.lt_succ_self _) _ _ _ hw (lv_sub hl [1, 0] rfl)
