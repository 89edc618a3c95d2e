/-! one job counted in or out -/
def TL (P P2 : Nat → Int32) (j h : Nat) (one : Int32) : Prop := (one = 1 ∧ P j = -1 ∧ P2 = upd P j (nI h)) ∨ (one = -1 ∧ P j = nI h ∧ P2 = upd P j (-1))
theorem sm_upd {f g : Nat → Int32} {j : Nat} : ∀ {n : Nat}, j < n → (∀ k, k ≠ j → g k = f k) → sm g n = sm f n + (g j - f j)
  | 0, hj, _ => absurd hj (Nat.not_lt_zero _)
  | n + 1, hj, h => by
    rw [sm, sm]
    by_cases e : j = n
    · subst e
      rw [sm_congr (f := g) (g := f) (fun k hk => h k (by omega))]
      generalize sm f j = x; generalize g j = y; generalize f j = z
      grind
    · rw [sm_upd (n := n) (by omega) h, h n (fun q => e q.symm)]
      generalize sm f n = x; generalize g j = y; generalize f j = z; generalize f n = w
      grind
theorem tl_sm {P P2 : Nat → Int32} {nj j h : Nat} {one X : Int32} (F : Int32 → Nat → Int32) (hT : TL P P2 j h one) (hj : j < nj) (h0 : F (-1) j = 0) (hX : F (nI h) j = X) : sm (fun k => F (P2 k) k) nj = sm (fun k => F (P k) k) nj + one * X := by
  rcases hT with ⟨e1, e2, e3⟩ | ⟨e1, e2, e3⟩
  · rw [sm_upd (f := fun k => F (P k) k) hj (fun k hk => by rw [e3, upn hk])]
    show _ + (F (P2 j) j - F (P j) j) = _
    rw [e3, ups, e2, h0, hX, e1]
    generalize sm _ nj = x
    grind
  · rw [sm_upd (f := fun k => F (P k) k) hj (fun k hk => by rw [e3, upn hk])]
    show _ + (F (P2 j) j - F (P j) j) = _
    rw [e3, ups, e2, h0, hX, e1]
    generalize sm _ nj = x
    grind
theorem tl_0 {P P2 : Nat → Int32} {nj j h : Nat} {one : Int32} (F : Int32 → Nat → Int32) (hT : TL P P2 j h one) (hj : j < nj) (h0 : F (-1) j = 0) (hX : F (nI h) j = 0) : sm (fun k => F (P2 k) k) nj = sm (fun k => F (P k) k) nj := by
  rw [tl_sm F hT hj h0 hX]
  generalize sm _ nj = x
  grind
theorem tl_1 {P P2 : Nat → Int32} {nj j h : Nat} {one : Int32} (F : Int32 → Nat → Int32) (hT : TL P P2 j h one) (hj : j < nj) (h0 : F (-1) j = 0) (hX : F (nI h) j = 1) : sm (fun k => F (P2 k) k) nj = sm (fun k => F (P k) k) nj + one := by
  rw [tl_sm F hT hj h0 hX]
  generalize sm _ nj = x
  grind
def L16 (E0 : St) (b c : Nat → Int32) (j h : Nat) (one : Int32) (i : Nat) : Prop := (∀ x, x < i → c (h * 3 + x) = b (h * 3 + x) - one * E0 6 (3 * j + x)) ∧ ∀ y, (∀ x, x < i → y ≠ h * 3 + x) → c y = b y
theorem tl_alk {E0 : St} {P P2 : Nat → Int32} {nh nj j h x g : Nat} {one : Int32} {b : Nat → Int32} (kd : Int32) (hS : cS E0 nh nj) (hT : TL P P2 j h one) (hj : j < nj) (hh : h < nh) (hx : x < 5) (hgg : g < 8) (hb : b (x * 8 + g) = m_alk E0 P nj kd (nI g) (nI x)) :
    (if E0 5 j = kd then upd b (((hlN E0 h) * 8) + (grN E0 j)) (m_alk E0 P nj kd (E0 8 j) (E0 2 h) + one) else b) (x * 8 + g) = m_alk E0 P2 nj kd (nI g) (nI x) := by
  have h10 := hS.1
  have hg := hS.gr j hj; have hl := hS.hl h hh
  have hnm : ¬ nI h = (-1 : Int32) := fun q => nI_nm1 (by omega) q.symm
  have hc : ∀ z : Int32, z = nI h → (z ≠ -1 ∧ E0 2 z.toNatClampNeg = nI x ↔ x = hlN E0 h) := fun z hz => by
    rw [hz, nI_clamp (by omega), hl.1]
    exact ⟨fun q => by have := (nI_eq (by omega) (by omega)).mp q.2; omega, fun q => ⟨hnm, by rw [q]⟩⟩
  have hz : ¬ (x = hlN E0 h ∧ g = grN E0 j ∧ E0 5 j = kd) → b (x * 8 + g) = m_alk E0 P2 nj kd (nI g) (nI x) := fun e => by
    rw [hb]
    unfold m_alk f_alk inH
    rw [tl_0 (fun z k => if (E0 5 k = kd ∧ E0 8 k = nI g) ∧ (z ≠ -1 ∧ E0 2 z.toNatClampNeg = nI x) then 1 else 0) hT hj (if_neg (fun q => q.2.1 rfl)) (if_neg (fun q => e ⟨(hc _ rfl).mp q.2, by have := hg.1.symm.trans q.1.2; have := (nI_eq (by omega) (by omega)).mp this; omega, q.1.1⟩))]
  by_cases ek : E0 5 j = kd
  · rw [if_pos ek]
    by_cases e : x = hlN E0 h ∧ g = grN E0 j
    · obtain ⟨rfl, rfl⟩ := e
      rw [ups, hg.1, hl.1]
      unfold m_alk f_alk inH
      rw [tl_1 (fun z k => if (E0 5 k = kd ∧ E0 8 k = nI (grN E0 j)) ∧ (z ≠ -1 ∧ E0 2 z.toNatClampNeg = nI (hlN E0 h)) then 1 else 0) hT hj (if_neg (fun q => q.2.1 rfl)) (if_pos ⟨⟨ek, hg.1⟩, (hc _ rfl).mpr rfl⟩)]
    · rw [upn (by omega)]; exact hz (fun q => e ⟨q.1, q.2.1⟩)
  · rw [if_neg ek]; exact hz (fun q => ek q.2.2)
theorem tl_FS {E0 : St} {P P2 : Nat → Int32} {nh nj j h : Nat} {one : Int32} {b16 b17 b18 b19 b20 b21 c16 : Nat → Int32} (hS : cS E0 nh nj) (hF : FSr E0 P nh nj b16 b17 b18 b19 b20 b21) (hT : TL P P2 j h one) (hj : j < nj) (hh : h < nh) (hL : L16 E0 b16 c16 j h one 3) :
    FSr E0 P2 nh nj c16 (upd b17 ((h * 8) + (grN E0 j)) (m_gon E0 P nj (E0 8 j) h + one)) (upd b18 (((hlN E0 h) * 8) + (grN E0 j)) (m_gin E0 P nj (E0 8 j) (E0 2 h) + one))
      (if E0 5 j = 4 then upd b19 ((h * 8) + (otN E0 j)) (m_shy E0 P nj (E0 10 j) h + one) else b19) (if E0 5 j = 1 then upd b20 (((hlN E0 h) * 8) + (grN E0 j)) (m_alk E0 P nj 1 (E0 8 j) (E0 2 h) + one) else b20)
      (if E0 5 j = 2 then upd b21 (((hlN E0 h) * 8) + (grN E0 j)) (m_alk E0 P nj 2 (E0 8 j) (E0 2 h) + one) else b21) := by
  have h10 := hS.1
  have hg := hS.gr j hj; have ho := hS.ot j hj; have hl := hS.hl h hh
  have hm1 : ∀ y, y < nh → ¬ (-1 : Int32) = nI y := fun y hy => nI_nm1 (by omega)
  have hne : ∀ y, y < nh → y ≠ h → ¬ nI h = nI y := fun y hy q z => q ((nI_eq (by omega) (by omega)).mp z).symm
  have hnm : ¬ nI h = (-1 : Int32) := fun q => nI_nm1 (by omega) q.symm
  refine ⟨fun y hy => ⟨fun i hi => ?_, fun g hgg => ⟨?_, ?_⟩⟩, fun x hx g hgg => ⟨?_, ?_, ?_⟩⟩
  · by_cases e : y = h
    · subst e
      rw [hL.1 i hi, (hF.1 y hy).1 i hi]
      unfold m_left f_left
      rw [tl_sm (X := E0 6 (3 * j + i)) (fun z k => if z = nI y then E0 6 (3 * k + i) else 0) hT hj (if_neg (hm1 y hy)) (if_pos rfl)]
      generalize sm _ nj = a; generalize E0 6 _ = b; generalize E0 1 _ = d
      grind
    · rw [hL.2 _ (fun x hx => by omega), (hF.1 y hy).1 i hi]
      unfold m_left f_left
      rw [tl_0 (fun z k => if z = nI y then E0 6 (3 * k + i) else 0) hT hj (if_neg (hm1 y hy)) (if_neg (hne y hy e))]
  · unfold m_gon f_gon
    by_cases e : y = h ∧ g = grN E0 j
    · obtain ⟨rfl, rfl⟩ := e
      rw [ups, hg.1]
      rw [tl_1 (fun z k => if E0 8 k = nI (grN E0 j) ∧ z = nI y then 1 else 0) hT hj (if_neg (fun q => hm1 y hy q.2)) (if_pos ⟨hg.1, rfl⟩)]
    · rw [upn (by omega), ((hF.1 y hy).2 g hgg).1]
      unfold m_gon f_gon
      rw [tl_0 (fun z k => if E0 8 k = nI g ∧ z = nI y then 1 else 0) hT hj (if_neg (fun q => hm1 y hy q.2)) (if_neg (fun q => e ⟨by have := (nI_eq (by omega) (by omega)).mp q.2; omega, by have := hg.1.symm.trans q.1; have := (nI_eq (by omega) (by omega)).mp this; omega⟩))]
  · have hz : ∀ (q : ¬ (y = h ∧ g = otN E0 j ∧ E0 5 j = 4)), b19 (y * 8 + g) = m_shy E0 P2 nj (nI g) y := fun e => by
      rw [((hF.1 y hy).2 g hgg).2]
      unfold m_shy f_shy
      rw [tl_0 (fun z k => if z = nI y ∧ E0 5 k = 4 ∧ E0 10 k = nI g then 1 else 0) hT hj (if_neg (fun q => hm1 y hy q.1)) (if_neg (fun q => e ⟨by have := (nI_eq (by omega) (by omega)).mp q.1; omega, by have := ho.1.symm.trans q.2.2; have := (nI_eq (by omega) (by omega)).mp this; omega, q.2.1⟩))]
    by_cases e4 : E0 5 j = 4
    · rw [if_pos e4]
      by_cases e : y = h ∧ g = otN E0 j
      · obtain ⟨rfl, rfl⟩ := e
        rw [ups, ho.1]
        unfold m_shy f_shy
        rw [tl_1 (fun z k => if z = nI y ∧ E0 5 k = 4 ∧ E0 10 k = nI (otN E0 j) then 1 else 0) hT hj (if_neg (fun q => hm1 y hy q.1)) (if_pos ⟨rfl, e4, ho.1⟩)]
      · rw [upn (by omega)]; exact hz (fun q => e ⟨q.1, q.2.1⟩)
    · rw [if_neg e4]; exact hz (fun q => e4 q.2.2)
  · have hc : ∀ z : Int32, z = nI h → (z ≠ -1 ∧ E0 2 z.toNatClampNeg = nI x ↔ x = hlN E0 h) := fun z hz => by
      rw [hz, nI_clamp (by omega), hl.1]
      exact ⟨fun q => by have := (nI_eq (by omega) (by omega)).mp q.2; omega, fun q => ⟨hnm, by rw [q]⟩⟩
    unfold m_gin f_gin inH
    by_cases e : x = hlN E0 h ∧ g = grN E0 j
    · obtain ⟨rfl, rfl⟩ := e
      rw [ups, hg.1, hl.1]
      rw [tl_1 (fun z k => if E0 8 k = nI (grN E0 j) ∧ (z ≠ -1 ∧ E0 2 z.toNatClampNeg = nI (hlN E0 h)) then 1 else 0) hT hj (if_neg (fun q => q.2.1 rfl)) (if_pos ⟨hg.1, (hc _ rfl).mpr rfl⟩)]
    · rw [upn (by omega), (hF.2 x hx g hgg).1]
      unfold m_gin f_gin inH
      rw [tl_0 (fun z k => if E0 8 k = nI g ∧ (z ≠ -1 ∧ E0 2 z.toNatClampNeg = nI x) then 1 else 0) hT hj (if_neg (fun q => q.2.1 rfl)) (if_neg (fun q => e ⟨(hc _ rfl).mp q.2, by have := hg.1.symm.trans q.1; have := (nI_eq (by omega) (by omega)).mp this; omega⟩))]
  · exact tl_alk 1 hS hT hj hh hx hgg (hF.2 x hx g hgg).2.1
  · exact tl_alk 2 hS hT hj hh hx hgg (hF.2 x hx g hgg).2.2
theorem L16_s {E0 : St} {b c : Nat → Int32} {j h i : Nat} {one : Int32} (hL : L16 E0 b c j h one i) : L16 E0 b (upd c ((h * 3) + i) (c ((h * 3) + i) - one * E0 6 (3 * j + i))) j h one (i + 1) := by
  refine ⟨fun x hx => ?_, fun y hy => ?_⟩
  · by_cases e : x = i
    · subst e; rw [ups, hL.2 _ (fun x hx => by omega)]
    · rw [upn (by omega)]; exact hL.1 x (by omega)
  · rw [upn (hy i (by omega))]; exact hL.2 y (fun x hx => hy x (by omega))
set_option maxHeartbeats 4000000 in
set_option maxRecDepth 100000 in
theorem tX4_tally (l : Launch) (E : EV) (a : Nat → Nat) (σ : St) (nh : Nat) (nj : Nat) (E0 : St) (P : Nat → Int32) (P2 : Nat → Int32) (j : Nat) (h : Nat) (one : Int32) (hN : cN2 σ nh nj) (hE : aE σ E0) (hS : cS E0 nh nj) (hFS : FSr E0 P nh nj (σ 16) (σ 17) (σ 18) (σ 19) (σ 20) (σ 21)) (hT : TL P P2 j h one) (hj : j < nj) (hh : h < nh) : MV l E (XW E a) yX4_tally (Cond.code yX4_tally cX4_tally 6 none) ({ frames := 1, cells := 0, slots := 0, locals := 21 }) [.ref (a 65), .int (nI j), .int (nI h), .int (one)] σ (fun u_ => ∃ (b16 b17 b18 b19 b20 b21 : Nat → Int32), FSr E0 P2 nh nj b16 b17 b18 b19 b20 b21 ∧ u_ = sr (sr (sr (sr (sr (sr σ 16 b16) 17 b17) 18 b18) 19 b19) 20 b20) 21 b21) := by
  refine MV.mk (by decide +kernel) (Nat.le_of_ble_eq_true rfl) ?_
  intro p e s m args below meth c ls A Q hret hC hw hl
  have hC : Cxt E p s m args meth c cX4_tally 6 none RX4 A := hC
  have hl : lv_has ls 6 [(0, .ref (a 65)), (1, .int (nI j)), (2, .int (nI h)), (3, .int (one))] := hl
  have hnh := hS.1
  have hnj := hS.2.1
  refine lv_aload_n hC.1 hC.2.1 dX4_tally_0 rfl (lv_at hl 0 rfl) ?_
  refine gf_X4_34 hC hw dX4_tally_1 ?_
  refine lv_iload_n hC.1 hC.2.1 dX4_tally_4 rfl (lv_at hl 1 rfl) ?_
  refine q_callVp (As := [.int (nI j)]) (rest := []) (q0 := 7) hC hw hl (tX6_has l E a σ nh nj (nI j) (by first | assumption | omega)) (q_cwV hC.2.2.2.2.1 ⟨rfl, rfl⟩ wk2_204 wk2_205 wk2_206 wk1_3 wk2_207 hd_X6_has ⟨Nat.le_of_ble_eq_true rfl, Nat.le_of_ble_eq_true rfl⟩) rfl rfl rfl rfl rfl (Nat.le_of_ble_eq_true rfl) dX4_tally_5 (fun H locs hw => ?_)
  refine q_ifeq hC 22 cB dX4_tally_8 (by decide) (fun (c4 : ¬ (¬ (nI j) < 0 ∧ (nI j) < nI nj)) => ?_) (fun (c4 : ¬ (nI j) < 0 ∧ (nI j) < nI nj) => ?_)
  · exact absurd ⟨nI_pos (by omega), (nI_ltI (by omega) (by omega)).mpr (by omega)⟩ c4
  · refine lv_aload_n hC.1 hC.2.1 dX4_tally_11 rfl (lv_at hl 0 rfl) ?_
    refine gf_X4_30 hC hw dX4_tally_12 ?_
    refine lv_iload_n hC.1 hC.2.1 dX4_tally_15 rfl (lv_at hl 2 rfl) ?_
    refine q_callVp (As := [.int (nI h)]) (rest := []) (q0 := 6) hC hw hl (tX5_has l E a σ nh nj (nI h) (by first | assumption | omega)) (q_cwV hC.2.2.2.2.1 ⟨rfl, rfl⟩ wk2_208 wk2_209 wk2_210 wk1_2 wk2_211 hd_X5_has ⟨Nat.le_of_ble_eq_true rfl, Nat.le_of_ble_eq_true rfl⟩) rfl rfl rfl rfl rfl (Nat.le_of_ble_eq_true rfl) dX4_tally_16 (fun H locs hw => ?_)
    refine q_ifne hC 23 cB dX4_tally_19 (by decide) (fun (c8 : ¬ (nI h) < 0 ∧ (nI h) < nI nh) => ?_) (fun (c8 : ¬ (¬ (nI h) < 0 ∧ (nI h) < nI nh)) => ?_)
    · refine lv_iconst (v := nI 0) hC.1 hC.2.1 dX4_tally_23 (by decide) ?_
      refine lv_istore (lv' := [(4, .int (nI 0)), (0, .ref (a 65)), (1, .int (nI j)), (2, .int (nI h)), (3, .int (one))]) hC.1 hC.2.1 dX4_tally_24 hl (by decide) rfl (fun ls hl => ?_)
      have L26_8 : ∀ (n : Nat), ∀ (i : Nat), ∀ (c16 : Nat → Int32), (i ≤ 3) → (L16 E0 (σ 16) c16 j h one i) → (3 - i) < n → ∀ (H : Heap) (locs : List Loc) (ls : Array Slot), Wst E (XW E a) (sr σ 16 (c16)) A s.heap H locs → lv_has ls 6 [(0, .ref (a 65)), (1, .int (nI j)), (2, .int (nI h)), (3, .int (one)), (4, .int (nI i))] → W p l e ({ frames := 1, cells := 0, slots := 0, locals := 21 }) s m args below meth c H locs 0 0 Q (F0 m 26 ls []) := by
        intro n
        induction n with
        | zero => intro i c16 hi hL hn; exact absurd hn (Nat.not_lt_zero _)
        | succ n ih26 =>
          intro i c16 hi hL hn26 H locs ls hw hl
          refine lv_iload hC.1 hC.2.1 dX4_tally_26 (lv_at hl 4 rfl) ?_
          refine lv_iconst (v := nI 3) hC.1 hC.2.1 dX4_tally_28 (by decide) ?_
          refine q_cmpge hC 68 (cNle (by omega) (by omega)) dX4_tally_29 (by decide) (fun (c10 : 3 ≤ i) => ?_) (fun (c10 : i < 3) => ?_)
          · refine lv_aload_n hC.1 hC.2.1 dX4_tally_68 rfl (lv_at hl 0 rfl) ?_
            refine gf_X4_34 hC hw dX4_tally_69 ?_
            refine gf_X4_82 hC hw dX4_tally_72 ?_
            refine lv_iload_n hC.1 hC.2.1 dX4_tally_75 rfl (lv_at hl 1 rfl) ?_
            have hGr := (hS.gr j (by omega)).2
            refine al_X8 (v := nI (grN E0 j)) hC hw (by omega) ((congrFun hE.2.2.2.2.2.2.2.1 _).trans (hS.gr j (by omega)).1) dX4_tally_76 ?_
            refine lv_istore (lv' := [(4, .int (nI (grN E0 j))), (0, .ref (a 65)), (1, .int (nI j)), (2, .int (nI h)), (3, .int (one))]) hC.1 hC.2.1 dX4_tally_77 hl (by decide) rfl (fun ls hl => ?_)
            refine lv_aload_n hC.1 hC.2.1 dX4_tally_79 rfl (lv_at hl 1 rfl) ?_
            refine gf_X4_30 hC hw dX4_tally_80 ?_
            refine gf_X4_85 hC hw dX4_tally_83 ?_
            refine lv_iload_n hC.1 hC.2.1 dX4_tally_86 rfl (lv_at hl 3 rfl) ?_
            have hHl := (hS.hl h (by omega)).2
            refine al_X2 (v := nI (hlN E0 h)) hC hw (by omega) ((congrFun hE.2.1 _).trans (hS.hl h (by omega)).1) dX4_tally_87 ?_
            refine lv_bipush (v := nI 8) hC.1 hC.2.1 dX4_tally_88 (by decide) ?_
            refine q_mulN hC dX4_tally_90 ?_
            refine lv_iload hC.1 hC.2.1 dX4_tally_91 (lv_at hl 0 rfl) ?_
            refine q_addN hC dX4_tally_93 ?_
            refine lv_istore (lv' := [(5, .int (nI (((hlN E0 h) * 8) + (grN E0 j)))), (4, .int (nI (grN E0 j))), (0, .ref (a 65)), (1, .int (nI j)), (2, .int (nI h)), (3, .int (one))]) hC.1 hC.2.1 dX4_tally_94 hl (by decide) rfl (fun ls hl => ?_)
            refine lv_aload_n hC.1 hC.2.1 dX4_tally_96 rfl (lv_at hl 2 rfl) ?_
            refine gf_X4_15 hC hw dX4_tally_97 ?_
            refine lv_iload_n hC.1 hC.2.1 dX4_tally_100 rfl (lv_at hl 4 rfl) ?_
            refine lv_bipush (v := nI 8) hC.1 hC.2.1 dX4_tally_101 (by decide) ?_
            refine q_mulN hC dX4_tally_103 ?_
            refine lv_iload hC.1 hC.2.1 dX4_tally_104 (lv_at hl 1 rfl) ?_
            refine q_addN hC dX4_tally_106 ?_
            refine lv_dup2_11 hC.1 hC.2.1 dX4_tally_107 rfl rfl ?_
            refine al_X17 (v := m_gon E0 P nj (E0 8 j) h) hC hw (by omega) (((hFS.1 h (by omega)).2 _ (by omega)).1.trans (congrArg (fun z => m_gon E0 P nj z h) (hS.gr j (by omega)).1.symm)) dX4_tally_108 ?_
            refine lv_iload_n hC.1 hC.2.1 dX4_tally_109 rfl (lv_at hl 5 rfl) ?_
            refine lv_iadd hC.1 hC.2.1 dX4_tally_110 ?_
            refine as_X17 hC hw (by omega) dX4_tally_111 (fun H locs hw => ?_)
            have hw : Wst E (XW E a) (sr (sr σ 16 (c16)) 17 (upd (σ 17) ((h * 8) + (grN E0 j)) ((m_gon E0 P nj (E0 8 j) h) + one))) A s.heap H locs := hw
            refine lv_aload_n hC.1 hC.2.1 dX4_tally_112 rfl (lv_at hl 2 rfl) ?_
            refine gf_X4_18 hC hw dX4_tally_113 ?_
            refine lv_iload hC.1 hC.2.1 dX4_tally_116 (lv_at hl 0 rfl) ?_
            refine lv_dup2_11 hC.1 hC.2.1 dX4_tally_118 rfl rfl ?_
            refine al_X18 (v := m_gin E0 P nj (E0 8 j) (E0 2 h)) hC hw (by omega) ((hFS.2 _ (by omega) _ (by omega)).1.trans (congr2 (fun z y => m_gin E0 P nj z y) (hS.gr j (by omega)).1.symm (hS.hl h (by omega)).1.symm)) dX4_tally_119 ?_
            refine lv_iload_n hC.1 hC.2.1 dX4_tally_120 rfl (lv_at hl 5 rfl) ?_
            refine lv_iadd hC.1 hC.2.1 dX4_tally_121 ?_
            refine as_X18 hC hw (by omega) dX4_tally_122 (fun H locs hw => ?_)
            have hw : Wst E (XW E a) (sr (sr (sr σ 16 (c16)) 17 (upd (σ 17) ((h * 8) + (grN E0 j)) ((m_gon E0 P nj (E0 8 j) h) + one))) 18 (upd (σ 18) (((hlN E0 h) * 8) + (grN E0 j)) ((m_gin E0 P nj (E0 8 j) (E0 2 h)) + one))) A s.heap H locs := hw
            refine lv_aload_n hC.1 hC.2.1 dX4_tally_123 rfl (lv_at hl 2 rfl) ?_
            refine gf_X4_34 hC hw dX4_tally_124 ?_
            refine gf_X4_88 hC hw dX4_tally_127 ?_
            refine lv_iload_n hC.1 hC.2.1 dX4_tally_130 rfl (lv_at hl 3 rfl) ?_
            refine al_X5 (v := E0 5 j) hC hw (by omega) (congrFun hE.2.2.2.2.1 _) dX4_tally_131 ?_
            refine lv_iconst (v := nI 1) hC.1 hC.2.1 dX4_tally_132 (by decide) ?_
            have J147_12 : ∀ (w11 : Nat → Int32), w11 = (if E0 5 j = 1 then (upd (σ 20) (((hlN E0 h) * 8) + (grN E0 j)) ((m_alk E0 P nj 1 (E0 8 j) (E0 2 h)) + one)) else (σ 20)) → ∀ (H : Heap) (locs : List Loc) (ls : Array Slot), Wst E (XW E a) (sr (sr (sr (sr σ 16 (c16)) 17 (upd (σ 17) ((h * 8) + (grN E0 j)) ((m_gon E0 P nj (E0 8 j) h) + one))) 18 (upd (σ 18) (((hlN E0 h) * 8) + (grN E0 j)) ((m_gin E0 P nj (E0 8 j) (E0 2 h)) + one))) 20 (w11)) A s.heap H locs → lv_has ls 6 [(0, .ref (a 65)), (1, .int (nI j)), (2, .int (nI h)), (3, .int (one)), (4, .int (nI (grN E0 j))), (5, .int (nI (((hlN E0 h) * 8) + (grN E0 j))))] → W p l e ({ frames := 1, cells := 0, slots := 0, locals := 21 }) s m args below meth c H locs 0 0 Q (F0 m 147 ls []) := by
              intro w11 e12 H locs ls hw hl
              refine lv_aload_n hC.1 hC.2.1 dX4_tally_147 rfl (lv_at hl 0 rfl) ?_
              refine gf_X4_34 hC hw dX4_tally_148 ?_
              refine gf_X4_88 hC hw dX4_tally_151 ?_
              refine lv_iload_n hC.1 hC.2.1 dX4_tally_154 rfl (lv_at hl 1 rfl) ?_
              refine al_X5 (v := E0 5 j) hC hw (by omega) (congrFun hE.2.2.2.2.1 _) dX4_tally_155 ?_
              refine lv_iconst (v := nI 2) hC.1 hC.2.1 dX4_tally_156 (by decide) ?_
              have J171_14 : ∀ (w13 : Nat → Int32), w13 = (if E0 5 j = 2 then (upd (σ 21) (((hlN E0 h) * 8) + (grN E0 j)) ((m_alk E0 P nj 2 (E0 8 j) (E0 2 h)) + one)) else (σ 21)) → ∀ (H : Heap) (locs : List Loc) (ls : Array Slot), Wst E (XW E a) (sr (sr (sr (sr (sr σ 16 (c16)) 17 (upd (σ 17) ((h * 8) + (grN E0 j)) ((m_gon E0 P nj (E0 8 j) h) + one))) 18 (upd (σ 18) (((hlN E0 h) * 8) + (grN E0 j)) ((m_gin E0 P nj (E0 8 j) (E0 2 h)) + one))) 20 (w11)) 21 (w13)) A s.heap H locs → lv_has ls 6 [(0, .ref (a 65)), (1, .int (nI j)), (2, .int (nI h)), (3, .int (one)), (4, .int (nI (grN E0 j))), (5, .int (nI (((hlN E0 h) * 8) + (grN E0 j))))] → W p l e ({ frames := 1, cells := 0, slots := 0, locals := 21 }) s m args below meth c H locs 0 0 Q (F0 m 171 ls []) := by
                intro w13 e14 H locs ls hw hl
                refine lv_aload_n hC.1 hC.2.1 dX4_tally_171 rfl (lv_at hl 0 rfl) ?_
                refine gf_X4_34 hC hw dX4_tally_172 ?_
                refine gf_X4_88 hC hw dX4_tally_175 ?_
                refine lv_iload_n hC.1 hC.2.1 dX4_tally_178 rfl (lv_at hl 1 rfl) ?_
                refine al_X5 (v := E0 5 j) hC hw (by omega) (congrFun hE.2.2.2.2.1 _) dX4_tally_179 ?_
                refine lv_iconst (v := nI 4) hC.1 hC.2.1 dX4_tally_180 (by decide) ?_
                have J207_16 : ∀ (w15 : Nat → Int32), w15 = (if E0 5 j = 4 then (upd (σ 19) ((h * 8) + (otN E0 j)) ((m_shy E0 P nj (E0 10 j) h) + one)) else (σ 19)) → ∀ (H : Heap) (locs : List Loc) (ls : Array Slot), Wst E (XW E a) (sr (sr (sr (sr (sr (sr σ 16 (c16)) 17 (upd (σ 17) ((h * 8) + (grN E0 j)) ((m_gon E0 P nj (E0 8 j) h) + one))) 18 (upd (σ 18) (((hlN E0 h) * 8) + (grN E0 j)) ((m_gin E0 P nj (E0 8 j) (E0 2 h)) + one))) 19 (w15)) 20 (w11)) 21 (w13)) A s.heap H locs → lv_has ls 6 [(0, .ref (a 65)), (1, .int (nI j)), (2, .int (nI h)), (3, .int (one)), (4, .int (nI (grN E0 j))), (5, .int (nI (((hlN E0 h) * 8) + (grN E0 j))))] → W p l e ({ frames := 1, cells := 0, slots := 0, locals := 21 }) s m args below meth c H locs 0 0 Q (F0 m 207 ls []) := by
                  intro w15 e16 H locs ls hw hl
                  refine hret _ _ _ _ _ hw ?_ dX4_tally_207
                  have hi3 : i = 3 := by omega
                  rw [hi3] at hL
                  refine ⟨c16, upd (σ 17) ((h * 8) + (grN E0 j)) ((m_gon E0 P nj (E0 8 j) h) + one), upd (σ 18) (((hlN E0 h) * 8) + (grN E0 j)) ((m_gin E0 P nj (E0 8 j) (E0 2 h)) + one), w15, w11, w13, ?_, rfl⟩
                  subst e12
                  subst e14
                  subst e16
                  exact tl_FS hS hFS hT hj hh hL
                refine q_cmpne hC 207 cI dX4_tally_181 (by decide) (fun (c17 : ¬ (E0 5 j = 4)) => ?_) (fun (c17 : E0 5 j = 4) => ?_)
                · have hst_ : sr (sr (sr (sr (sr σ 16 (c16)) 17 (upd (σ 17) ((h * 8) + (grN E0 j)) ((m_gon E0 P nj (E0 8 j) h) + one))) 18 (upd (σ 18) (((hlN E0 h) * 8) + (grN E0 j)) ((m_gin E0 P nj (E0 8 j) (E0 2 h)) + one))) 20 (w11)) 21 (w13) = sr (sr (sr (sr (sr (sr σ 16 (c16)) 17 (upd (σ 17) ((h * 8) + (grN E0 j)) ((m_gon E0 P nj (E0 8 j) h) + one))) 18 (upd (σ 18) (((hlN E0 h) * 8) + (grN E0 j)) ((m_gin E0 P nj (E0 8 j) (E0 2 h)) + one))) 19 (σ 19)) 20 (w11)) 21 (w13) := by
                    funext j_ x_
                    by_cases e0 : j_ = 0
                    · subst e0
                      rfl
                    · by_cases e16 : j_ = 16
                      · subst e16; rfl
                      · by_cases e17 : j_ = 17
                        · subst e17; rfl
                        · by_cases e18 : j_ = 18
                          · subst e18; rfl
                          · by_cases e19 : j_ = 19
                            · subst e19; rfl
                            · by_cases e20 : j_ = 20
                              · subst e20; rfl
                              · by_cases e21 : j_ = 21
                                · subst e21; rfl
                                · simp only [sr, e0, e16, e17, e18, e19, e20, e21, if_false]
                  rw [hst_] at hw
                  exact J207_16 _ (by (rw [if_neg c17]) <;> rfl) _ _ _ hw (lv_sub hl [0, 1, 2, 3, 4, 5] rfl)
                · refine lv_aload_n hC.1 hC.2.1 dX4_tally_184 rfl (lv_at hl 0 rfl) ?_
                  refine gf_X4_21 hC hw dX4_tally_185 ?_
                  refine lv_iload_n hC.1 hC.2.1 dX4_tally_188 rfl (lv_at hl 2 rfl) ?_
                  refine lv_bipush (v := nI 8) hC.1 hC.2.1 dX4_tally_189 (by decide) ?_
                  refine q_mulN hC dX4_tally_191 ?_
                  refine lv_aload_n hC.1 hC.2.1 dX4_tally_192 rfl (lv_at hl 0 rfl) ?_
                  refine gf_X4_34 hC hw dX4_tally_193 ?_
                  refine gf_X4_91 hC hw dX4_tally_196 ?_
                  refine lv_iload_n hC.1 hC.2.1 dX4_tally_199 rfl (lv_at hl 1 rfl) ?_
                  have hOt := (hS.ot j (by omega)).2
                  refine al_X10 (v := nI (otN E0 j)) hC hw (by omega) ((congrFun hE.2.2.2.2.2.2.2.2.2.1 _).trans (hS.ot j (by omega)).1) dX4_tally_200 ?_
                  refine q_addN hC dX4_tally_201 ?_
                  refine lv_dup2_11 hC.1 hC.2.1 dX4_tally_202 rfl rfl ?_
                  refine al_X19 (v := m_shy E0 P nj (E0 10 j) h) hC hw (by omega) (((hFS.1 h (by omega)).2 _ (by omega)).2.trans (congrArg (fun z => m_shy E0 P nj z h) (hS.ot j (by omega)).1.symm)) dX4_tally_203 ?_
                  refine lv_iload_n hC.1 hC.2.1 dX4_tally_204 rfl (lv_at hl 3 rfl) ?_
                  refine lv_iadd hC.1 hC.2.1 dX4_tally_205 ?_
                  refine as_X19 hC hw (by omega) dX4_tally_206 (fun H locs hw => ?_)
                  have hw : Wst E (XW E a) (sr (sr (sr (sr (sr (sr σ 16 (c16)) 17 (upd (σ 17) ((h * 8) + (grN E0 j)) ((m_gon E0 P nj (E0 8 j) h) + one))) 18 (upd (σ 18) (((hlN E0 h) * 8) + (grN E0 j)) ((m_gin E0 P nj (E0 8 j) (E0 2 h)) + one))) 20 (w11)) 21 (w13)) 19 (upd (σ 19) ((h * 8) + (otN E0 j)) ((m_shy E0 P nj (E0 10 j) h) + one))) A s.heap H locs := hw
                  have hst_ : sr (sr (sr (sr (sr (sr σ 16 (c16)) 17 (upd (σ 17) ((h * 8) + (grN E0 j)) ((m_gon E0 P nj (E0 8 j) h) + one))) 18 (upd (σ 18) (((hlN E0 h) * 8) + (grN E0 j)) ((m_gin E0 P nj (E0 8 j) (E0 2 h)) + one))) 20 (w11)) 21 (w13)) 19 (upd (σ 19) ((h * 8) + (otN E0 j)) ((m_shy E0 P nj (E0 10 j) h) + one)) = sr (sr (sr (sr (sr (sr σ 16 (c16)) 17 (upd (σ 17) ((h * 8) + (grN E0 j)) ((m_gon E0 P nj (E0 8 j) h) + one))) 18 (upd (σ 18) (((hlN E0 h) * 8) + (grN E0 j)) ((m_gin E0 P nj (E0 8 j) (E0 2 h)) + one))) 19 (upd (σ 19) ((h * 8) + (otN E0 j)) ((m_shy E0 P nj (E0 10 j) h) + one))) 20 (w11)) 21 (w13) := by
                    funext j_ x_
                    by_cases e0 : j_ = 0
                    · subst e0
                      rfl
                    · by_cases e16 : j_ = 16
                      · subst e16; rfl
                      · by_cases e17 : j_ = 17
                        · subst e17; rfl
                        · by_cases e18 : j_ = 18
                          · subst e18; rfl
                          · by_cases e19 : j_ = 19
                            · subst e19; rfl
                            · by_cases e20 : j_ = 20
                              · subst e20; rfl
                              · by_cases e21 : j_ = 21
                                · subst e21; rfl
                                · simp only [sr, e0, e16, e17, e18, e19, e20, e21, if_false]
                  rw [hst_] at hw
                  exact J207_16 _ (by (rw [if_pos c17]) <;> rfl) _ _ _ hw (lv_sub hl [0, 1, 2, 3, 4, 5] rfl)
              refine q_cmpne hC 171 cI dX4_tally_157 (by decide) (fun (c18 : ¬ (E0 5 j = 2)) => ?_) (fun (c18 : E0 5 j = 2) => ?_)
              · have hst_ : sr (sr (sr (sr σ 16 (c16)) 17 (upd (σ 17) ((h * 8) + (grN E0 j)) ((m_gon E0 P nj (E0 8 j) h) + one))) 18 (upd (σ 18) (((hlN E0 h) * 8) + (grN E0 j)) ((m_gin E0 P nj (E0 8 j) (E0 2 h)) + one))) 20 (w11) = sr (sr (sr (sr (sr σ 16 (c16)) 17 (upd (σ 17) ((h * 8) + (grN E0 j)) ((m_gon E0 P nj (E0 8 j) h) + one))) 18 (upd (σ 18) (((hlN E0 h) * 8) + (grN E0 j)) ((m_gin E0 P nj (E0 8 j) (E0 2 h)) + one))) 20 (w11)) 21 (σ 21) := by
                  funext j_ x_
                  by_cases e0 : j_ = 0
                  · subst e0
                    rfl
                  · by_cases e16 : j_ = 16
                    · subst e16; rfl
                    · by_cases e17 : j_ = 17
                      · subst e17; rfl
                      · by_cases e18 : j_ = 18
                        · subst e18; rfl
                        · by_cases e20 : j_ = 20
                          · subst e20; rfl
                          · by_cases e21 : j_ = 21
                            · subst e21; rfl
                            · simp only [sr, e0, e16, e17, e18, e20, e21, if_false]
                rw [hst_] at hw
                exact J171_14 _ (by (rw [if_neg c18]) <;> rfl) _ _ _ hw (lv_sub hl [0, 1, 2, 3, 4, 5] rfl)
              · refine lv_aload_n hC.1 hC.2.1 dX4_tally_160 rfl (lv_at hl 0 rfl) ?_
                refine gf_X4_27 hC hw dX4_tally_161 ?_
                refine lv_iload hC.1 hC.2.1 dX4_tally_164 (lv_at hl 5 rfl) ?_
                refine lv_dup2_11 hC.1 hC.2.1 dX4_tally_166 rfl rfl ?_
                refine al_X21 (v := m_alk E0 P nj 2 (E0 8 j) (E0 2 h)) hC hw (by omega) ((hFS.2 _ (by omega) _ (by omega)).2.2.trans (congr2 (fun z y => m_alk E0 P nj 2 z y) (hS.gr j (by omega)).1.symm (hS.hl h (by omega)).1.symm)) dX4_tally_167 ?_
                refine lv_iload_n hC.1 hC.2.1 dX4_tally_168 rfl (lv_at hl 3 rfl) ?_
                refine lv_iadd hC.1 hC.2.1 dX4_tally_169 ?_
                refine as_X21 hC hw (by omega) dX4_tally_170 (fun H locs hw => ?_)
                have hw : Wst E (XW E a) (sr (sr (sr (sr (sr σ 16 (c16)) 17 (upd (σ 17) ((h * 8) + (grN E0 j)) ((m_gon E0 P nj (E0 8 j) h) + one))) 18 (upd (σ 18) (((hlN E0 h) * 8) + (grN E0 j)) ((m_gin E0 P nj (E0 8 j) (E0 2 h)) + one))) 20 (w11)) 21 (upd (σ 21) (((hlN E0 h) * 8) + (grN E0 j)) ((m_alk E0 P nj 2 (E0 8 j) (E0 2 h)) + one))) A s.heap H locs := hw
                exact J171_14 _ (by (rw [if_pos c18]) <;> rfl) _ _ _ hw (lv_sub hl [0, 1, 2, 3, 4, 5] rfl)
            refine q_cmpne hC 147 cI dX4_tally_133 (by decide) (fun (c19 : ¬ (E0 5 j = 1)) => ?_) (fun (c19 : E0 5 j = 1) => ?_)
            · have hst_ : sr (sr (sr σ 16 (c16)) 17 (upd (σ 17) ((h * 8) + (grN E0 j)) ((m_gon E0 P nj (E0 8 j) h) + one))) 18 (upd (σ 18) (((hlN E0 h) * 8) + (grN E0 j)) ((m_gin E0 P nj (E0 8 j) (E0 2 h)) + one)) = sr (sr (sr (sr σ 16 (c16)) 17 (upd (σ 17) ((h * 8) + (grN E0 j)) ((m_gon E0 P nj (E0 8 j) h) + one))) 18 (upd (σ 18) (((hlN E0 h) * 8) + (grN E0 j)) ((m_gin E0 P nj (E0 8 j) (E0 2 h)) + one))) 20 (σ 20) := by
                funext j_ x_
                by_cases e0 : j_ = 0
                · subst e0
                  rfl
                · by_cases e16 : j_ = 16
                  · subst e16; rfl
                  · by_cases e17 : j_ = 17
                    · subst e17; rfl
                    · by_cases e18 : j_ = 18
                      · subst e18; rfl
                      · by_cases e20 : j_ = 20
                        · subst e20; rfl
                        · simp only [sr, e0, e16, e17, e18, e20, if_false]
              rw [hst_] at hw
              exact J147_12 _ (by (rw [if_neg c19]) <;> rfl) _ _ _ hw (lv_sub hl [2, 3, 4, 5, 1, 0] rfl)
            · refine lv_aload_n hC.1 hC.2.1 dX4_tally_136 rfl (lv_at hl 2 rfl) ?_
              refine gf_X4_24 hC hw dX4_tally_137 ?_
              refine lv_iload hC.1 hC.2.1 dX4_tally_140 (lv_at hl 0 rfl) ?_
              refine lv_dup2_11 hC.1 hC.2.1 dX4_tally_142 rfl rfl ?_
              refine al_X20 (v := m_alk E0 P nj 1 (E0 8 j) (E0 2 h)) hC hw (by omega) ((hFS.2 _ (by omega) _ (by omega)).2.1.trans (congr2 (fun z y => m_alk E0 P nj 1 z y) (hS.gr j (by omega)).1.symm (hS.hl h (by omega)).1.symm)) dX4_tally_143 ?_
              refine lv_iload_n hC.1 hC.2.1 dX4_tally_144 rfl (lv_at hl 5 rfl) ?_
              refine lv_iadd hC.1 hC.2.1 dX4_tally_145 ?_
              refine as_X20 hC hw (by omega) dX4_tally_146 (fun H locs hw => ?_)
              have hw : Wst E (XW E a) (sr (sr (sr (sr σ 16 (c16)) 17 (upd (σ 17) ((h * 8) + (grN E0 j)) ((m_gon E0 P nj (E0 8 j) h) + one))) 18 (upd (σ 18) (((hlN E0 h) * 8) + (grN E0 j)) ((m_gin E0 P nj (E0 8 j) (E0 2 h)) + one))) 20 (upd (σ 20) (((hlN E0 h) * 8) + (grN E0 j)) ((m_alk E0 P nj 1 (E0 8 j) (E0 2 h)) + one))) A s.heap H locs := hw
              exact J147_12 _ (by (rw [if_pos c19]) <;> rfl) _ _ _ hw (lv_sub hl [2, 3, 4, 5, 1, 0] rfl)
          · refine lv_aload_n hC.1 hC.2.1 dX4_tally_32 rfl (lv_at hl 0 rfl) ?_
            refine gf_X4_9 hC hw dX4_tally_33 ?_
            refine lv_iload_n hC.1 hC.2.1 dX4_tally_36 rfl (lv_at hl 2 rfl) ?_
            refine lv_iconst (v := nI 3) hC.1 hC.2.1 dX4_tally_37 (by decide) ?_
            refine q_mulN hC dX4_tally_38 ?_
            refine lv_iload hC.1 hC.2.1 dX4_tally_39 (lv_at hl 4 rfl) ?_
            refine q_addN hC dX4_tally_41 ?_
            refine lv_dup2_11 hC.1 hC.2.1 dX4_tally_42 rfl rfl ?_
            refine al_X16 (v := (c16) ((h * 3) + i)) hC hw (by omega) rfl dX4_tally_43 ?_
            refine lv_iload_n hC.1 hC.2.1 dX4_tally_44 rfl (lv_at hl 3 rfl) ?_
            refine lv_aload_n hC.1 hC.2.1 dX4_tally_45 rfl (lv_at hl 0 rfl) ?_
            refine gf_X4_34 hC hw dX4_tally_46 ?_
            refine gf_X4_79 hC hw dX4_tally_49 ?_
            refine lv_iload_n hC.1 hC.2.1 dX4_tally_52 rfl (lv_at hl 1 rfl) ?_
            refine lv_iconst (v := nI 3) hC.1 hC.2.1 dX4_tally_53 (by decide) ?_
            refine q_mulN hC dX4_tally_54 ?_
            refine lv_iload hC.1 hC.2.1 dX4_tally_55 (lv_at hl 4 rfl) ?_
            refine q_addN hC dX4_tally_57 ?_
            refine al_X6 (v := E0 6 (3 * j + i)) hC hw (by omega) ((congrFun hE.2.2.2.2.2.1 _).trans (congrArg (E0 6) (by omega))) dX4_tally_58 ?_
            refine lv_imul hC.1 hC.2.1 dX4_tally_59 ?_
            refine lv_isub hC.1 hC.2.1 dX4_tally_60 ?_
            refine as_X16 hC hw (by omega) dX4_tally_61 (fun H locs hw => ?_)
            have hw : Wst E (XW E a) (sr (sr σ 16 (c16)) 16 (upd (c16) ((h * 3) + i) (((c16) ((h * 3) + i)) - (one * (E0 6 (3 * j + i)))))) A s.heap H locs := hw
            have hst_ : sr (sr σ 16 (c16)) 16 (upd (c16) ((h * 3) + i) (((c16) ((h * 3) + i)) - (one * (E0 6 (3 * j + i))))) = sr σ 16 (upd (c16) ((h * 3) + i) (((c16) ((h * 3) + i)) - (one * (E0 6 (3 * j + i))))) := by
              funext j_ x_
              by_cases e0 : j_ = 0
              · subst e0
                rfl
              · by_cases e16 : j_ = 16
                · subst e16; rfl
                · simp only [sr, e0, e16, if_false]
            rw [hst_] at hw
            refine lv_iinc (v := nI (i + 1)) (lv' := [(4, .int (nI (i + 1))), (0, .ref (a 65)), (1, .int (nI j)), (2, .int (nI h)), (3, .int (one))]) hC.1 hC.2.1 dX4_tally_62 hl (k := 4) rfl (nI_add _ _) (by decide) rfl (fun ls hl => ?_)
            refine lv_goto (tgt := 26) hC.1 hC.2.1 dX4_tally_65 (by decide) ?_
            exact ih26 (i + 1) (upd (c16) ((h * 3) + i) (((c16) ((h * 3) + i)) - (one * (E0 6 (3 * j + i))))) (by omega) (L16_s hL) (by omega) _ _ _ hw (lv_sub hl [1, 2, 3, 4, 0] rfl)
      have hw : Wst E (XW E a) (sr σ 16 (σ 16)) A s.heap H locs := by rw [sr_id]; exact hw
      exact L26_8 _ 0 (σ 16) (Nat.zero_le _) ⟨fun x q => absurd q (Nat.not_lt_zero _), fun y _ => rfl⟩ (Nat.lt_succ_self _) _ _ _ hw (lv_sub hl [1, 2, 3, 4, 0] rfl)
    · exact absurd ⟨nI_pos (by omega), (nI_ltI (by omega) (by omega)).mpr (by omega)⟩ c8
