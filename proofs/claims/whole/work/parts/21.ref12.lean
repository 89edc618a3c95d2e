section BF3
variable {g : Nat → Nat → Nat → Bool} {cd : Nat → Nat → Nat → Nat} {b : Nat → Nat → Nat} {m nh r0 : Nat}
/-- a search that's at its state s, of level d; L is what's seen -/
def FI (g : Nat → Nat → Nat → Bool) (cd : Nat → Nat → Nat → Nat) (b : Nat → Nat → Nat) (m nh r0 : Nat) (Gp : Nat → Prop) (d s : Nat) (L : List (Nat × Nat × Nat)) : Prop :=
  (bfV g cd b m nh r0 d).1 ≤ s ∧ s ≤ (bfV g cd b m nh r0 d).2.length ∧ ((d < 8 ∧ L = bfS g cd b m nh (bfV g cd b m nh r0 d).2 (bfV g cd b m nh r0 d).1 (s - (bfV g cd b m nh r0 d).1)) ∨ (d = 8 ∧ L = (bfV g cd b m nh r0 8).2)) ∧ ∀ i, i < s → ¬ Gp (gt L i).1
theorem FI.gl {Gp : Nat → Prop} {d s : Nat} {L : List (Nat × Nat × Nat)} (h : FI g cd b m nh r0 Gp d s L) : GL g cd b m nh r0 L ∧ Pre (bfV g cd b m nh r0 d).2 L := by
  obtain ⟨h1, h2, h3 | h3, -⟩ := h
  · have a := bfS_all (lo := (bfV g cd b m nh r0 d).1) (n := s - (bfV g cd b m nh r0 d).1) (bfV_all (g := g) (cd := cd) (b := b) (m := m) (nh := nh) (r0 := r0) d).1 (by omega)
    rw [h3.2]; exact ⟨a.1, a.2.1⟩
  · rw [h3.2, h3.1]; exact ⟨(bfV_all 8).1, Pre.rf⟩
theorem FI.le {Gp : Nat → Prop} {d s : Nat} {L : List (Nat × Nat × Nat)} (h : FI g cd b m nh r0 Gp d s L) : d ≤ 8 := by
  obtain ⟨h1, h2, h3 | h3, -⟩ := h <;> omega
theorem FI.z {Gp : Nat → Prop} : FI g cd b m nh r0 Gp 0 0 [(r0, 0, 0)] := ⟨Nat.le_refl _, Nat.zero_le _, Or.inl ⟨by omega, rfl⟩, fun i h => absurd h (Nat.not_lt_zero _)⟩
theorem FI.lev {Gp : Nat → Prop} {d s : Nat} {L : List (Nat × Nat × Nat)} (h : FI g cd b m nh r0 Gp d s L) (hs : s = (bfV g cd b m nh r0 d).2.length) (hl : s < L.length) : FI g cd b m nh r0 Gp (d + 1) s L ∧ L.length = (bfV g cd b m nh r0 (d + 1)).2.length := by
  obtain ⟨h1, h2, h3 | h3, h4⟩ := h
  · have e : (bfV g cd b m nh r0 (d + 1)).2 = L := by rw [h3.2, hs]; rfl
    have e1 : (bfV g cd b m nh r0 (d + 1)).1 = s := hs.symm
    refine ⟨⟨by omega, by rw [e]; omega, ?_, h4⟩, by rw [e]⟩
    by_cases q : d = 7
    · subst q; exact Or.inr ⟨rfl, e.symm⟩
    · refine Or.inl ⟨by omega, ?_⟩
      rw [e, e1, Nat.sub_self]; rfl
  · rw [h3.2] at hl; rw [h3.1] at hs; omega
theorem FI.next {Gp : Nat → Prop} {d s : Nat} {L K : List (Nat × Nat × Nat)} (h : FI g cd b m nh r0 Gp d s L) (hs : s < (bfV g cd b m nh r0 d).2.length) (hg : ¬ Gp (gt L s).1) (hK : (d < 8 ∧ K = bfK g cd b nh L s (gt L s).1 m) ∨ (d = 8 ∧ K = L)) : FI g cd b m nh r0 Gp d (s + 1) K := by
  have hgl := h.gl
  obtain ⟨h1, h2, h3, h4⟩ := h
  have hLs : s < L.length := Nat.lt_of_lt_of_le hs hgl.2.1
  refine ⟨by omega, by omega, ?_, ?_⟩
  · rcases hK with hK | hK
    · rcases h3 with h3 | h3
      · refine Or.inl ⟨hK.1, ?_⟩
        rw [show s + 1 - (bfV g cd b m nh r0 d).1 = (s - (bfV g cd b m nh r0 d).1) + 1 by omega, bfS, ← h3.2, show (bfV g cd b m nh r0 d).1 + (s - (bfV g cd b m nh r0 d).1) = s by omega]
        exact hK.2
      · omega
    · rcases h3 with h3 | h3
      · omega
      · exact Or.inr ⟨hK.1, hK.2.trans h3.2⟩
  · have hp : Pre L K := by
      rcases hK with hK | hK
      · rw [hK.2]; exact (bfK_all hgl.1 hLs rfl (Nat.le_refl m)).2.1
      · rw [hK.2]; exact Pre.rf
    intro i hi
    rw [hp.2 i (by omega)]
    by_cases e : i = s
    · rw [e]; exact hg
    · exact h4 i (by omega)
theorem FI.none {Gp : Nat → Prop} {d s : Nat} {L : List (Nat × Nat × Nat)} (h : FI g cd b m nh r0 Gp d s L) (hs : L.length ≤ s) : ∀ i, i < (bfV g cd b m nh r0 8).2.length → ¬ Gp (gt (bfV g cd b m nh r0 8).2 i).1 := by
  have hgl := h.gl
  have hle := h.le
  obtain ⟨h1, h2, h3, h4⟩ := h
  have h5 := hgl.2.1
  have e : (bfV g cd b m nh r0 8).2 = L := by
    rcases h3 with h3 | h3
    · have e : (bfV g cd b m nh r0 (d + 1)).2 = L := by rw [h3.2, show s = (bfV g cd b m nh r0 d).2.length by omega]; rfl
      have e1 : (bfV g cd b m nh r0 (d + 1)).1 = (bfV g cd b m nh r0 (d + 1)).2.length := by rw [e]; show (bfV g cd b m nh r0 d).2.length = _; omega
      have := (bfV_stop e1 (7 - d)).1
      rw [show d + 1 + (7 - d) = 8 by omega] at this
      rw [this, e]
    · exact h3.2.symm
  rw [e]
  intro i hi
  exact h4 i (by omega)
end BF3
/-! the reference's search for moves -/
def gPl (v : Nat → Int32) (F : Nat → Nat) (fm nh nj : Nat) : Nat → Nat → Nat → Bool := fun x k h => decide (h ≠ dig 11 fm x k ∧ fitC (eM v) F fm (pB (eM v) (-1)) nh nj (dig 11 fm x) k h)
def cPl (fm : Nat) : Nat → Nat → Nat → Nat := fun x k h => enc 11 (pu (dig 11 fm x) k h) fm
def bPl (F : Nat → Nat) : Nat → Nat → Nat := fun k h => 16 * F k + h
abbrev gl (v : Nat → Int32) (F : Nat → Nat) (fm x : Nat) : Prop := ∀ k, k < fm → nI (dig 11 fm x k) = eM v 14 (F k)
abbrev vPl (v : Nat → Int32) (F : Nat → Nat) (fm nh nj : Nat) (d : Nat) : Nat × List (Nat × Nat × Nat) := bfV (gPl v F fm nh nj) (cPl fm) (bPl F) fm nh (enc 11 (dg v F) fm) d
abbrev fPl (v : Nat → Int32) (F : Nat → Nat) (fm nh nj : Nat) (d s : Nat) (L : List (Nat × Nat × Nat)) : Prop := FI (gPl v F fm nh nj) (cPl fm) (bPl F) fm nh (enc 11 (dg v F) fm) (gl v F fm) d s L
theorem fPl_lev {v : Nat → Int32} {F : Nat → Nat} {fm nh nj d s : Nat} {L : List (Nat × Nat × Nat)} (h : fPl v F fm nh nj d s L) (hs : s = (vPl v F fm nh nj d).2.length) (hl : s < L.length) : fPl v F fm nh nj (d + 1) s L ∧ L.length = (vPl v F fm nh nj (d + 1)).2.length := FI.lev h hs hl
def Vd (fm nh x : Nat) : Prop := x < 11 ^ fm ∧ ∀ k, k < fm → dig 11 fm x k < nh
theorem Vd.ok {fm nh x : Nat} (h : Vd fm nh x) : okC nh fm (dig 11 fm x) := fun k hk => Or.inr (h.2 k hk)
theorem Vd.lt {fm nh x : Nat} (h : Vd fm nh x) (hm : fm ≤ 4) : x < 14641 := Nat.lt_of_lt_of_le h.1 (Nat.le_trans (Nat.pow_le_pow_right (by decide) hm) (by decide))
theorem Vd.of {fm nh : Nat} {p : Nat → Nat} (hn : nh ≤ 10) (h : ∀ k, k < fm → p k < nh) : Vd fm nh (enc 11 p fm) := by
  have h11 : ∀ k, k < fm → p k < 11 := fun k hk => by have := h k hk; omega
  exact ⟨enc_lt (by decide) h11, fun k hk => by rw [dig_enc (by decide) h11 hk]; exact h k hk⟩
theorem Vd.cd {fm nh x k h : Nat} (hn : nh ≤ 10) (hx : Vd fm nh x) (hh : h < nh) : Vd fm nh (cPl fm x k h) := Vd.of hn (fun i hi => by
  unfold pu; split
  · exact hh
  · exact hx.2 i hi)
theorem Vd.all {v : Nat → Int32} {F : Nat → Nat} {fm nh nj : Nat} {L : List (Nat × Nat × Nat)} (hn : nh ≤ 10) (hL : GL (gPl v F fm nh nj) (cPl fm) (bPl F) fm nh (enc 11 (dg v F) fm) L) (h0 : Vd fm nh (enc 11 (dg v F) fm)) : ∀ i, i < L.length → Vd fm nh (gt L i).1 :=
  hL.ind h0 (fun _ _ _ hx _ hh _ => Vd.cd hn hx hh)
theorem GL.len {g : Nat → Nat → Nat → Bool} {cd : Nat → Nat → Nat → Nat} {b : Nat → Nat → Nat} {m nh r0 : Nat} {L : List (Nat × Nat × Nat)} (hL : GL g cd b m nh r0 L) (h : ∀ i, i < L.length → (gt L i).1 < 14641) : L.length ≤ 14641 := ph 14641 L.length (fun i => (gt L i).1) h hL.2.2.1
theorem GL.len2 {g : Nat → Nat → Nat → Bool} {cd : Nat → Nat → Nat → Nat} {b : Nat → Nat → Nat} {m nh r0 x : Nat} {L : List (Nat × Nat × Nat)} (hL : GL g cd b m nh r0 L) (h : ∀ i, i < L.length → (gt L i).1 < 14641) (hx : x < 14641) (hc : ¬ hasC L x = true) : L.length < 14641 := by
  have : L.length + 1 ≤ 14641 := ph 14641 (L.length + 1) (fun i => if i < L.length then (gt L i).1 else x) (fun i hi => by
      show (if i < L.length then (gt L i).1 else x) < 14641
      split
      case isTrue q => exact h i q
      case isFalse q => exact hx) (fun i j hij hj => by
      show (if i < L.length then (gt L i).1 else x) ≠ (if j < L.length then (gt L j).1 else x)
      rw [if_pos (by omega)]
      split
      case isTrue q => exact hL.2.2.1 i j hij q
      case isFalse q => exact fun z => hc (hasC_iff.mpr ⟨i, by omega, z⟩))
  omega
/-- the reference's arrays hold L -/
def RLs (L : List (Nat × Nat × Nat)) (s6 s7 s8 s9 : Nat → Int32) : Prop := (∀ i, i < L.length → s7 i = nI (gt L i).1 ∧ (s8 i = if i = 0 then -1 else nI (gt L i).2.1) ∧ s9 i = nI (gt L i).2.2) ∧ ∀ x, x < 14641 → (¬ s6 x = 0 ↔ hasC L x = true)
theorem hasC_app {L : List (Nat × Nat × Nat)} {y : Nat × Nat × Nat} {x : Nat} : hasC (L ++ [y]) x = (hasC L x || y.1 == x) := by
  unfold hasC; rw [List.any_append]; simp
theorem RLs.meet {L : List (Nat × Nat × Nat)} {s6 s7 s8 s9 : Nat → Int32} {x fr by1 : Nat} (h : RLs L s6 s7 s8 s9) (h0 : 0 < L.length) (hx : x < 14641) : RLs (mtL L (x, fr, by1)) (if s6 x = 0 then upd s6 x 1 else s6) (if s6 x = 0 then upd s7 L.length (nI x) else s7) (if s6 x = 0 then upd s8 L.length (nI fr) else s8) (if s6 x = 0 then upd s9 L.length (nI by1) else s9) ∧ (if s6 x = 0 then nI (L.length + 1) else nI L.length) = nI (mtL L (x, fr, by1)).length := by
  by_cases e : s6 x = 0
  · have e2 : ¬ hasC L x = true := fun q => (h.2 x hx).mpr q e
    have e3 : mtL L (x, fr, by1) = L ++ [(x, fr, by1)] := if_neg e2
    rw [e3]
    simp only [if_pos e]
    refine ⟨⟨fun i hi => ?_, fun y hy => ?_⟩, by rw [List.length_append]; rfl⟩
    · rw [List.length_append, List.length_singleton] at hi
      by_cases q : i = L.length
      · subst q
        rw [gt_r rfl, ups, ups, ups, if_neg (by omega)]
        exact ⟨rfl, rfl, rfl⟩
      · rw [gt_l (by omega), upn q, upn q, upn q]; exact h.1 i (by omega)
    · rw [hasC_app]
      by_cases q : y = x
      · subst q; rw [ups]; simp
      · rw [upn q, h.2 y hy]
        simp [show ¬ x = y from fun z => q z.symm]
  · have e2 : hasC L x = true := (h.2 x hx).mp e
    have e3 : mtL L (x, fr, by1) = L := if_pos e2
    rw [e3]
    simp only [if_neg e]
    exact ⟨h, trivial⟩
theorem RLs.z {x : Nat} {s6 s7 s8 s9 : Nat → Int32} (hx : x < 14641) (h6 : ∀ y, y < 14641 → s6 y = 0) : RLs [(x, 0, 0)] (upd s6 x 1) (upd s7 0 (nI x)) (upd s8 0 (-1)) (upd s9 0 0) := ⟨fun i hi => by
    have hi : i < 1 := hi
    rw [show i = 0 by omega]
    exact ⟨ups, ups, ups⟩, fun y hy => by
    by_cases q : y = x
    · subst q; rw [ups]; simp [hasC]
    · rw [upn q, h6 y hy]; simp [hasC, show ¬ x = y from fun z => q z.symm]⟩
theorem atP.mv {v0 w : Nat → Int32} {F : Nat → Nat} {fm nh nj k x : Nat} {p : Nat → Nat} (h : atP v0 F fm nh w p) (hF : Fok F fm nj) (hj : nj ≤ 24) (hn : nh ≤ 10) (hk : k < fm) (hp : p k < nh) (hx : x < nh) : atP v0 F fm nh (upd w (282 + F k) (nI x)) (pu p k x) := by
  have := h.put hF hj hk hx
  have e : w (258 + F k) = 1 := by rcases h.2 k hk with z | z; omega; exact z.2.1
  rw [show upd w (258 + F k) 1 = w by rw [← e]; exact upd_id] at this
  exact this
theorem atP.at {v0 w : Nat → Int32} {F : Nat → Nat} {fm nh k : Nat} {p : Nat → Nat} (h : atP v0 F fm nh w p) (hn : nh ≤ 10) (hk : k < fm) (hp : p k < nh) : w (282 + F k) = nI (p k) := by
  rcases h.2 k hk with z | z
  · omega
  · exact z.2.2
/-- what findPlan answers -/
def PF (v : Nat → Int32) (F : Nat → Nat) (fm nh nj : Nat) (L : List (Nat × Nat × Nat)) (r : Int32) : Prop := (∃ d s, d ≤ 8 ∧ (vPl v F fm nh nj d).1 ≤ s ∧ s < (vPl v F fm nh nj d).2.length ∧ gl v F fm (gt (vPl v F fm nh nj d).2 s).1 ∧ r = nI s ∧ Pre (vPl v F fm nh nj d).2 L) ∨ ((∀ i, i < (vPl v F fm nh nj 8).2.length → ¬ gl v F fm (gt (vPl v F fm nh nj 8).2 i).1) ∧ r = -1)
set_option maxHeartbeats 4000000 in
set_option maxRecDepth 100000 in
theorem tX11_findPlan (l : Launch) (E : EV) (a : Nat → Nat) (τ : St) (nh : Nat) (nj : Nat) (fm : Nat) (F : Nat → Nat) (hW : mF (τ 1) nh nj) (hm : τ 0 4 = nI fm) (hm4 : fm ≤ 4) (hF : ∀ k, k < fm → τ 5 k = nI (F k) ∧ F k < nj) (hFk : Fok F fm nj) (h1 : ∀ k, k < fm → τ 1 (258 + F k) = 1) : MI l E (MW E a) yX11_findPlan (Cond.code yX11_findPlan cX11_findPlan 7 (some .int)) ({ frames := 4, cells := 0, slots := 0, locals := 94 }) [.ref (a 70)] τ (fun r_ u_ => ∃ L, PF (τ 1) F fm nh nj L r_ ∧ ∃ (w s6 s7 s8 s9 : Nat → Int32) (q0 : Nat → Nat), atP (τ 1) F fm nh w q0 ∧ RLs L s6 s7 s8 s9 ∧ GL (gPl (τ 1) F fm nh nj) (cPl fm) (bPl F) fm nh (enc 11 (dg (τ 1) F) fm) L ∧ u_ = sr (sr (sr (sr (sr (sr τ 1 w) 6 s6) 7 s7) 8 s8) 9 s9) 0 (upd (τ 0) 5 (nI L.length))) := by
  refine MI.mk (by decide +kernel) (Nat.le_of_ble_eq_true rfl) ?_
  intro p e s m args below meth c ls A Q hret hC hw hl
  have hC : Cxt E p s m args meth c cX11_findPlan 7 (some .int) RX11 A := hC
  have hl : lv_has ls 7 [(0, .ref (a 70))] := hl
  have ⟨hnh, hnj, hW0, hW1, hWh⟩ := id hW
  have hdg0 : ∀ k, k < fm → dg (τ 1) F k < nh ∧ τ 1 (282 + F k) = nI (dg (τ 1) F k) := fun k hk => by
    have e : dg (τ 1) F k = hN (τ 1) (F k) := if_pos (h1 k hk)
    have := hW.host (hFk.1 k hk) (h1 k hk)
    rw [e]; exact ⟨this.2, this.1⟩
  have hat0 : atP (τ 1) F fm nh (τ 1) (dg (τ 1) F) := ⟨fun _ _ => rfl, fun k hk => Or.inr ⟨(hdg0 k hk).1, h1 k hk, (hdg0 k hk).2⟩⟩
  have hv0 : Vd fm nh (enc 11 (dg (τ 1) F) fm) := Vd.of hnh (fun k hk => (hdg0 k hk).1)
  have hcl0 := hv0.lt hm4
  refine lv_aload_n hC.1 hC.2.1 dX11_findPlan_0 rfl (lv_at hl 0 rfl) ?_
  refine q_callVvp (As := []) (rest := []) (q0 := 0) hC hw hl (tX11_forget l E a τ ) (q_cwV hC.2.2.2.2.1 ⟨rfl, rfl⟩ wk5_84 wk5_86 wks_3_12 wk1_12 wk5_87 hd_X11_forget ⟨Nat.le_of_ble_eq_true rfl, Nat.le_of_ble_eq_true rfl⟩) rfl rfl rfl rfl rfl (Nat.le_of_ble_eq_true rfl) dX11_findPlan_1 (fun H locs hw => ?_)
  have hw : Wst E (MW E a) (sr τ 6 (zer 14641 (τ 6))) A s.heap H locs := hw
  refine lv_aload_n hC.1 hC.2.1 dX11_findPlan_4 rfl (lv_at hl 0 rfl) ?_
  refine lv_iconst (v := nI 0) hC.1 hC.2.1 dX11_findPlan_5 (by decide) ?_
  refine pf_X11_141 hC hw dX11_findPlan_6 (fun H locs hw => ?_)
  have hw : Wst E (MW E a) (sr (sr τ 6 (zer 14641 (τ 6))) 0 (upd (τ 0) 5 (nI 0))) A s.heap H locs := hw
  refine lv_aload_n hC.1 hC.2.1 dX11_findPlan_9 rfl (lv_at hl 0 rfl) ?_
  refine lv_aload_n hC.1 hC.2.1 dX11_findPlan_10 rfl (lv_at hl 0 rfl) ?_
  refine q_callVp (As := []) (rest := [.ref (a 70)]) (q0 := 0) hC hw hl (tX11_codeOf l E a (sr (sr τ 6 (zer 14641 (τ 6))) 0 (upd (τ 0) 5 (nI 0))) nh nj fm F hW hm hm4 hF) (q_cwV hC.2.2.2.2.1 ⟨rfl, rfl⟩ wk5_88 wk5_90 wks_3_13 wk1_12 wk5_91 hd_X11_codeOf ⟨Nat.le_of_ble_eq_true rfl, Nat.le_of_ble_eq_true rfl⟩) rfl rfl rfl rfl rfl (Nat.le_of_ble_eq_true rfl) dX11_findPlan_11 (fun H locs hw => ?_)
  refine lv_iconst (v := (-1)) hC.1 hC.2.1 dX11_findPlan_14 (by decide) ?_
  refine lv_iconst (v := nI 0) hC.1 hC.2.1 dX11_findPlan_15 (by decide) ?_
  refine q_callVvp (As := [.int (nI (enc 11 (dg (τ 1) F) fm)), .int ((-1)), .int (nI 0)]) (rest := []) (q0 := 0) hC hw hl (tX11_meet l E a (sr (sr τ 6 (zer 14641 (τ 6))) 0 (upd (τ 0) 5 (nI 0))) 0 (enc 11 (dg (τ 1) F) fm) (-1) 0 rfl hcl0 (fun _ => by decide)) (q_cwV hC.2.2.2.2.1 ⟨rfl, rfl⟩ wk5_92 wk5_94 wks_3_14 wk1_12 wk5_95 hd_X11_meet ⟨Nat.le_of_ble_eq_true rfl, Nat.le_of_ble_eq_true rfl⟩) rfl rfl rfl rfl rfl (Nat.le_of_ble_eq_true rfl) dX11_findPlan_16 (fun H locs hw => ?_)
  have hw : Wst E (MW E a) (sr (sr (sr (sr (sr τ 6 ((if (zer 14641 (τ 6)) (enc 11 (dg (τ 1) F) fm) = 0 then upd (zer 14641 (τ 6)) (enc 11 (dg (τ 1) F) fm) 1 else (zer 14641 (τ 6))))) 7 ((if (zer 14641 (τ 6)) (enc 11 (dg (τ 1) F) fm) = 0 then upd (τ 7) 0 (nI (enc 11 (dg (τ 1) F) fm)) else (τ 7)))) 8 ((if (zer 14641 (τ 6)) (enc 11 (dg (τ 1) F) fm) = 0 then upd (τ 8) 0 (-1) else (τ 8)))) 9 ((if (zer 14641 (τ 6)) (enc 11 (dg (τ 1) F) fm) = 0 then upd (τ 9) 0 0 else (τ 9)))) 0 (upd (τ 0) 5 ((if (zer 14641 (τ 6)) (enc 11 (dg (τ 1) F) fm) = 0 then nI (0 + 1) else (nI 0))))) A s.heap H locs := hw
  refine lv_iconst (v := nI 1) hC.1 hC.2.1 dX11_findPlan_19 (by decide) ?_
  refine lv_istore_n (lv' := [(1, .int (nI 1)), (0, .ref (a 70))]) hC.1 hC.2.1 dX11_findPlan_20 rfl hl (by decide) rfl (fun ls hl => ?_)
  refine lv_iconst (v := nI 0) hC.1 hC.2.1 dX11_findPlan_21 (by decide) ?_
  refine lv_istore_n (lv' := [(2, .int (nI 0)), (1, .int (nI 1)), (0, .ref (a 70))]) hC.1 hC.2.1 dX11_findPlan_22 rfl hl (by decide) rfl (fun ls hl => ?_)
  refine lv_iconst (v := nI 0) hC.1 hC.2.1 dX11_findPlan_23 (by decide) ?_
  refine lv_istore_n (lv' := [(3, .int (nI 0)), (2, .int (nI 0)), (1, .int (nI 1)), (0, .ref (a 70))]) hC.1 hC.2.1 dX11_findPlan_24 rfl hl (by decide) rfl (fun ls hl => ?_)
  have L25_9 : ∀ (n : Nat), ∀ (s0 : Nat), ∀ (d : Nat), ∀ (en : Nat), ∀ (w : Nat → Int32), ∀ (s6 : Nat → Int32), ∀ (s7 : Nat → Int32), ∀ (s8 : Nat → Int32), ∀ (s9 : Nat → Int32), ∀ (L : List (Nat × Nat × Nat)), ∀ (q0 : Nat → Nat), (atP (τ 1) F fm nh w q0) → (RLs L s6 s7 s8 s9) → (fPl (τ 1) F fm nh nj d s0 L) → (en = (vPl (τ 1) F fm nh nj d).2.length) → (14641 - s0) < n → ∀ (H : Heap) (locs : List Loc) (ls : Array Slot), Wst E (MW E a) (sr (sr (sr (sr (sr (sr τ 1 (w)) 6 (s6)) 7 (s7)) 8 (s8)) 9 (s9)) 0 (upd (τ 0) 5 (nI (L.length)))) A s.heap H locs → lv_has ls 7 [(0, .ref (a 70)), (1, .int (nI en)), (2, .int (nI d)), (3, .int (nI s0))] → W p l e ({ frames := 4, cells := 0, slots := 0, locals := 94 }) s m args below meth c H locs 0 0 Q (F0 m 25 ls []) := by
    intro n
    induction n with
    | zero => intro s0 d en w s6 s7 s8 s9 L q0 hat hR hI hen hn; exact absurd hn (Nat.not_lt_zero _)
    | succ n ih25 =>
      intro s0 d en w s6 s7 s8 s9 L q0 hat hR hI hen hn25 H locs ls hw hl
      have hWw := hat.zmF hFk hW
      have hgL := hI.gl
      have hL14 := hgL.1.len (fun i hi => (Vd.all hnh hgL.1 hv0 i hi).lt hm4)
      have hd8 := hI.le
      have hsl : s0 ≤ (vPl (τ 1) F fm nh nj d).2.length := hI.2.1
      have hVL : (vPl (τ 1) F fm nh nj d).2.length ≤ L.length := hgL.2.1
      refine lv_iload_n hC.1 hC.2.1 dX11_findPlan_25 rfl (lv_at hl 3 rfl) ?_
      refine lv_aload_n hC.1 hC.2.1 dX11_findPlan_26 rfl (lv_at hl 0 rfl) ?_
      refine gf_X11_141 (v := nI L.length) hC hw rfl dX11_findPlan_27 ?_
      refine q_cmpge hC 214 (cNle (by omega) (by omega)) dX11_findPlan_30 (by decide) (fun (c11 : L.length ≤ s0) => ?_) (fun (c11 : s0 < L.length) => ?_)
      · refine lv_iconst (v := (-1)) hC.1 hC.2.1 dX11_findPlan_214 (by decide) ?_
        refine hret _ _ _ _ _ _ hw ?_ rfl dX11_findPlan_215
        exact ⟨L, Or.inr ⟨hI.none c11, rfl⟩, _, _, _, _, _, _, hat, hR, hI.gl.1, rfl⟩
      · refine lv_iload_n hC.1 hC.2.1 dX11_findPlan_33 rfl (lv_at hl 3 rfl) ?_
        refine lv_iload_n hC.1 hC.2.1 dX11_findPlan_34 rfl (lv_at hl 1 rfl) ?_
        have J46_11 : ∀ (d2 : Nat), ∀ (en2 : Nat), (fPl (τ 1) F fm nh nj d2 s0 L) → (s0 < (vPl (τ 1) F fm nh nj d2).2.length) → (en2 = (vPl (τ 1) F fm nh nj d2).2.length) → (s0 < L.length) → ∀ (H : Heap) (locs : List Loc) (ls : Array Slot), Wst E (MW E a) (sr (sr (sr (sr (sr (sr τ 1 (w)) 6 (s6)) 7 (s7)) 8 (s8)) 9 (s9)) 0 (upd (τ 0) 5 (nI (L.length)))) A s.heap H locs → lv_has ls 7 [(0, .ref (a 70)), (1, .int (nI en2)), (2, .int (nI d2)), (3, .int (nI s0))] → W p l e ({ frames := 4, cells := 0, slots := 0, locals := 94 }) s m args below meth c H locs 0 0 Q (F0 m 46 ls []) := by
          intro d2 en2 hI2 hsd hen2 hsM H locs ls hw hl
          have hgL := hI2.gl
          have hvL := Vd.all hnh hgL.1 hv0
          obtain ⟨x0, hx0⟩ : ∃ x0, (gt L s0).1 = x0 := ⟨_, rfl⟩
          have hsL : s0 < L.length := by omega
          have hvx := hvL s0 hsL
          rw [hx0] at hvx
          have hclx := hvx.lt hm4
          have hat1 := f_set_at hat hFk hnh hnj hvx.ok
          rw [enc_dig2 (by decide) hvx.1] at hat1
          have hW1 := hat1.zmF hFk hW
          have hglx : (∀ x, x < fm → eM (f_set w F x0 fm) 12 (F x) = eM (f_set w F x0 fm) 14 (F x)) ↔ gl (τ 1) F fm x0 := by
            refine forall_congr' fun x => forall_congr' fun hx => ?_
            have hFx := hFk.1 x hx
            have q1 : eM (f_set w F x0 fm) 12 (F x) = nI (dig 11 fm x0 x) := hat1.at hnh hx (hvx.2 x hx)
            have q2 : eM (f_set w F x0 fm) 14 (F x) = eM (τ 1) 14 (F x) := hat1.out hFk hnj (Or.inr (by omega))
            rw [q1, q2]
          refine lv_aload_n hC.1 hC.2.1 dX11_findPlan_46 rfl (lv_at hl 0 rfl) ?_
          refine lv_aload_n hC.1 hC.2.1 dX11_findPlan_47 rfl (lv_at hl 0 rfl) ?_
          refine gf_X11_29 hC hw dX11_findPlan_48 ?_
          refine lv_iload_n hC.1 hC.2.1 dX11_findPlan_51 rfl (lv_at hl 3 rfl) ?_
          refine al_M7 (v := nI x0) hC hw (by omega) (((hR.1 s0 (by omega)).1).trans (congrArg nI hx0)) dX11_findPlan_52 ?_
          refine q_callVvp (As := [.int (nI x0)]) (rest := []) (q0 := 0) hC hw hl (tX11_setFew l E a (sr (sr (sr (sr (sr (sr τ 1 (w)) 6 (s6)) 7 (s7)) 8 (s8)) 9 (s9)) 0 (upd (τ 0) 5 (nI (L.length)))) nh nj fm F x0 hWw hm hm4 hF hclx) (q_cwV hC.2.2.2.2.1 ⟨rfl, rfl⟩ wk5_96 wk5_98 wks_3_15 wk1_12 wk5_99 hd_X11_setFew ⟨Nat.le_of_ble_eq_true rfl, Nat.le_of_ble_eq_true rfl⟩) rfl rfl rfl rfl rfl (Nat.le_of_ble_eq_true rfl) dX11_findPlan_53 (fun H locs hw => ?_)
          have hw : Wst E (MW E a) (sr (sr (sr (sr (sr (sr τ 1 (f_set w F x0 fm)) 6 (s6)) 7 (s7)) 8 (s8)) 9 (s9)) 0 (upd (τ 0) 5 (nI (L.length)))) A s.heap H locs := hw
          refine lv_aload_n hC.1 hC.2.1 dX11_findPlan_56 rfl (lv_at hl 0 rfl) ?_
          refine q_callVp (As := []) (rest := []) (q0 := 0) hC hw hl (tX11_areThere l E a (sr (sr (sr (sr (sr (sr τ 1 (f_set w F x0 fm)) 6 (s6)) 7 (s7)) 8 (s8)) 9 (s9)) 0 (upd (τ 0) 5 (nI (L.length)))) nh nj fm F hW1 hm hm4 hF) (q_cwV hC.2.2.2.2.1 ⟨rfl, rfl⟩ wk5_120 wk5_122 wks_4_2 wk1_12 wk5_123 hd_X11_areThere ⟨Nat.le_of_ble_eq_true rfl, Nat.le_of_ble_eq_true rfl⟩) rfl rfl rfl rfl rfl (Nat.le_of_ble_eq_true rfl) dX11_findPlan_57 (fun H locs hw => ?_)
          refine q_top (y := if gl (τ 1) F fm x0 then (1 : Int32) else 0) (ite_iff hglx) ?_
          refine q_ifeq hC 65 cB dX11_findPlan_60 (by decide) (fun (c19 : ¬ (gl (τ 1) F fm x0)) => ?_) (fun (c19 : gl (τ 1) F fm x0) => ?_)
          · refine lv_iconst (v := nI 0) hC.1 hC.2.1 dX11_findPlan_65 (by decide) ?_
            refine lv_istore (lv' := [(4, .int (nI 0)), (0, .ref (a 70)), (1, .int (nI en2)), (2, .int (nI d2)), (3, .int (nI s0))]) hC.1 hC.2.1 dX11_findPlan_66 hl (by decide) rfl (fun ls hl => ?_)
            have L68_19 : ∀ (n : Nat), ∀ (k : Nat), ∀ (w : Nat → Int32), ∀ (s6 : Nat → Int32), ∀ (s7 : Nat → Int32), ∀ (s8 : Nat → Int32), ∀ (s9 : Nat → Int32), ∀ (K : List (Nat × Nat × Nat)), (k ≤ fm) → (k = 0 ∨ d2 < 8) → (atP (τ 1) F fm nh w (dig 11 fm x0)) → (RLs K s6 s7 s8 s9) → (K = bfK (gPl (τ 1) F fm nh nj) (cPl fm) (bPl F) nh L s0 x0 k) → (fm - k) < n → ∀ (H : Heap) (locs : List Loc) (ls : Array Slot), Wst E (MW E a) (sr (sr (sr (sr (sr (sr τ 1 (w)) 6 (s6)) 7 (s7)) 8 (s8)) 9 (s9)) 0 (upd (τ 0) 5 (nI (K.length)))) A s.heap H locs → lv_has ls 7 [(0, .ref (a 70)), (1, .int (nI en2)), (2, .int (nI d2)), (3, .int (nI s0)), (4, .int (nI k))] → W p l e ({ frames := 4, cells := 0, slots := 0, locals := 94 }) s m args below meth c H locs 0 0 Q (F0 m 68 ls []) := by
              intro n
              induction n with
              | zero => intro k w s6 s7 s8 s9 K hk hkd hat hR hK hn; exact absurd hn (Nat.not_lt_zero _)
              | succ n ih68 =>
                intro k w s6 s7 s8 s9 K hk hkd hat hR hK hn68 H locs ls hw hl
                have hWw := hat.zmF hFk hW
                have hgK := bfK_all hgL.1 hsL hx0 (k := k) hk
                rw [← hK] at hgK
                have hsK := Nat.lt_of_lt_of_le hsL hgK.2.1.1
                have hK14 := hgK.1.len (fun i hi => (Vd.all hnh hgK.1 hv0 i hi).lt hm4)
                have hd8 := hI2.le
                refine lv_iload hC.1 hC.2.1 dX11_findPlan_68 (lv_at hl 4 rfl) ?_
                refine lv_aload_n hC.1 hC.2.1 dX11_findPlan_70 rfl (lv_at hl 0 rfl) ?_
                refine gf_X11_138 (v := nI fm) hC hw hm dX11_findPlan_71 ?_
                refine q_cmpge hC 208 (cNle (by omega) (by omega)) dX11_findPlan_74 (by decide) (fun (c21 : fm ≤ k) => ?_) (fun (c21 : k < fm) => ?_)
                · refine lv_iinc (v := nI (s0 + 1)) (lv' := [(3, .int (nI (s0 + 1))), (0, .ref (a 70)), (1, .int (nI en2)), (2, .int (nI d2)), (4, .int (nI k))]) hC.1 hC.2.1 dX11_findPlan_208 hl (k := 3) rfl (nI_add _ _) (by decide) rfl (fun ls hl => ?_)
                  refine lv_goto (tgt := 25) hC.1 hC.2.1 dX11_findPlan_211 (by decide) ?_
                  have hKL : (d2 < 8 ∧ K = bfK (gPl (τ 1) F fm nh nj) (cPl fm) (bPl F) nh L s0 (gt L s0).1 fm) ∨ (d2 = 8 ∧ K = L) := by
                    by_cases q : d2 < 8
                    · exact Or.inl ⟨q, by rw [hK, hx0, show k = fm by omega]⟩
                    · exact Or.inr ⟨by have := hI2.le; omega, by rw [hK, show k = 0 by omega]; rfl⟩
                  have hIn := hI2.next hsd (by rw [hx0]; exact c19) hKL
                  exact ih25 (s0 + 1) d2 en2 w s6 s7 s8 s9 K (dig 11 fm x0) hat hR hIn hen2 (by omega) _ _ _ hw (lv_sub hl [1, 2, 3, 0] rfl)
                · refine lv_iload_n hC.1 hC.2.1 dX11_findPlan_77 rfl (lv_at hl 2 rfl) ?_
                  refine lv_bipush (v := nI 8) hC.1 hC.2.1 dX11_findPlan_78 (by decide) ?_
                  refine q_cmpge hC 208 (cNle (by omega) (by omega)) dX11_findPlan_80 (by decide) (fun (c22 : 8 ≤ d2) => ?_) (fun (c22 : d2 < 8) => ?_)
                  · refine lv_iinc (v := nI (s0 + 1)) (lv' := [(3, .int (nI (s0 + 1))), (0, .ref (a 70)), (1, .int (nI en2)), (2, .int (nI d2)), (4, .int (nI k))]) hC.1 hC.2.1 dX11_findPlan_208 hl (k := 3) rfl (nI_add _ _) (by decide) rfl (fun ls hl => ?_)
                    refine lv_goto (tgt := 25) hC.1 hC.2.1 dX11_findPlan_211 (by decide) ?_
                    have hk0 : k = 0 := by omega
                    have hKL : (d2 < 8 ∧ K = bfK (gPl (τ 1) F fm nh nj) (cPl fm) (bPl F) nh L s0 (gt L s0).1 fm) ∨ (d2 = 8 ∧ K = L) := Or.inr ⟨by have := hI2.le; omega, by rw [hK, hk0]; rfl⟩
                    have hIn := hI2.next hsd (by rw [hx0]; exact c19) hKL
                    exact ih25 (s0 + 1) d2 en2 w s6 s7 s8 s9 K (dig 11 fm x0) hat hR hIn hen2 (by omega) _ _ _ hw (lv_sub hl [1, 2, 3, 0] rfl)
                  · refine lv_aload_n hC.1 hC.2.1 dX11_findPlan_83 rfl (lv_at hl 0 rfl) ?_
                    refine gf_X11_7 hC hw dX11_findPlan_84 ?_
                    refine lv_sipush (v := nI 282) hC.1 hC.2.1 dX11_findPlan_87 (by decide) ?_
                    refine lv_aload_n hC.1 hC.2.1 dX11_findPlan_90 rfl (lv_at hl 0 rfl) ?_
                    refine gf_X11_22 hC hw dX11_findPlan_91 ?_
                    refine lv_iload hC.1 hC.2.1 dX11_findPlan_94 (lv_at hl 4 rfl) ?_
                    have hFx := (hF k (by omega)).2
                    refine al_M5 (v := nI (F k)) hC hw (by omega) (hF k (by omega)).1 dX11_findPlan_96 ?_
                    refine q_addN hC dX11_findPlan_97 ?_
                    refine al_M1 (v := eM w 12 (F k)) hC hw (by omega) (show _ = eM w 12 (F k) from congrArg w (by omega)) dX11_findPlan_98 ?_
                    have hdx : dig 11 fm x0 k < nh := hvx.2 k (by omega)
                    refine q_top (y := nI (dig 11 fm x0 k)) (hat.at hnh (show k < fm by omega) (hvx.2 k (by omega))) ?_
                    refine lv_istore (lv' := [(5, .int (nI (dig 11 fm x0 k))), (0, .ref (a 70)), (1, .int (nI en2)), (2, .int (nI d2)), (3, .int (nI s0)), (4, .int (nI k))]) hC.1 hC.2.1 dX11_findPlan_99 hl (by decide) rfl (fun ls hl => ?_)
                    refine lv_iconst (v := nI 0) hC.1 hC.2.1 dX11_findPlan_101 (by decide) ?_
                    refine lv_istore (lv' := [(6, .int (nI 0)), (5, .int (nI (dig 11 fm x0 k))), (0, .ref (a 70)), (1, .int (nI en2)), (2, .int (nI d2)), (3, .int (nI s0)), (4, .int (nI k))]) hC.1 hC.2.1 dX11_findPlan_102 hl (by decide) rfl (fun ls hl => ?_)
                    have L104_22 : ∀ (n : Nat), ∀ (h : Nat), ∀ (w : Nat → Int32), ∀ (s6 : Nat → Int32), ∀ (s7 : Nat → Int32), ∀ (s8 : Nat → Int32), ∀ (s9 : Nat → Int32), ∀ (K : List (Nat × Nat × Nat)), (h ≤ nh) → (atP (τ 1) F fm nh w (dig 11 fm x0)) → (RLs K s6 s7 s8 s9) → (K = bfH (gPl (τ 1) F fm nh nj) (cPl fm) (bPl F) (bfK (gPl (τ 1) F fm nh nj) (cPl fm) (bPl F) nh L s0 x0 k) s0 x0 k h) → (nh - h) < n → ∀ (H : Heap) (locs : List Loc) (ls : Array Slot), Wst E (MW E a) (sr (sr (sr (sr (sr (sr τ 1 (w)) 6 (s6)) 7 (s7)) 8 (s8)) 9 (s9)) 0 (upd (τ 0) 5 (nI (K.length)))) A s.heap H locs → lv_has ls 7 [(0, .ref (a 70)), (1, .int (nI en2)), (2, .int (nI d2)), (3, .int (nI s0)), (4, .int (nI k)), (5, .int (nI (dig 11 fm x0 k))), (6, .int (nI h))] → W p l e ({ frames := 4, cells := 0, slots := 0, locals := 94 }) s m args below meth c H locs 0 0 Q (F0 m 104 ls []) := by
                      intro n
                      induction n with
                      | zero => intro h w s6 s7 s8 s9 K hh hat hR hK hn; exact absurd hn (Nat.not_lt_zero _)
                      | succ n ih104 =>
                        intro h w s6 s7 s8 s9 K hh hat hR hK hn104 H locs ls hw hl
                        have hWw := hat.zmF hFk hW
                        have hgk := bfK_all hgL.1 hsL hx0 (k := k) hk
                        have hgK := bfH_all (k := k) (h := h) hgk.1 (Nat.lt_of_lt_of_le hsL hgk.2.1.1) ((congrArg Prod.fst (hgk.2.1.2 s0 hsL)).trans hx0) (show k < fm by omega) hh
                        rw [← hK] at hgK
                        have hsK := Nat.lt_of_lt_of_le hsL (Nat.le_trans hgk.2.1.1 hgK.2.1.1)
                        have hvK := Vd.all hnh hgK.1 hv0
                        have hK14 := hgK.1.len (fun i hi => (hvK i hi).lt hm4)
                        have hd8 := hI2.le
                        refine lv_iload hC.1 hC.2.1 dX11_findPlan_104 (lv_at hl 6 rfl) ?_
                        refine lv_aload_n hC.1 hC.2.1 dX11_findPlan_106 rfl (lv_at hl 0 rfl) ?_
                        refine gf_X11_7 hC hw dX11_findPlan_107 ?_
                        refine lv_iconst (v := nI 0) hC.1 hC.2.1 dX11_findPlan_110 (by decide) ?_
                        refine al_M1 (v := nI nh) hC hw (by omega) hWw.2.2.1 dX11_findPlan_111 ?_
                        refine q_cmpge hC 202 (cNle (by omega) (by omega)) dX11_findPlan_112 (by decide) (fun (c24 : nh ≤ h) => ?_) (fun (c24 : h < nh) => ?_)
                        · refine lv_iinc (v := nI (k + 1)) (lv' := [(4, .int (nI (k + 1))), (0, .ref (a 70)), (1, .int (nI en2)), (2, .int (nI d2)), (3, .int (nI s0)), (5, .int (nI (dig 11 fm x0 k))), (6, .int (nI h))]) hC.1 hC.2.1 dX11_findPlan_202 hl (k := 4) rfl (nI_add _ _) (by decide) rfl (fun ls hl => ?_)
                          refine lv_goto (tgt := 68) hC.1 hC.2.1 dX11_findPlan_205 (by decide) ?_
                          exact ih68 (k + 1) w s6 s7 s8 s9 K (by omega) (Or.inr (by omega)) hat hR (by rw [hK, show h = nh by omega]; rfl) (by omega) _ _ _ hw (lv_sub hl [1, 2, 3, 4, 0] rfl)
                        · refine lv_iload hC.1 hC.2.1 dX11_findPlan_115 (lv_at hl 6 rfl) ?_
                          refine lv_iload hC.1 hC.2.1 dX11_findPlan_117 (lv_at hl 5 rfl) ?_
                          refine q_cmpeq hC 196 (cNeq (by omega) (by omega)) dX11_findPlan_119 (by decide) (fun (c25 : h = (dig 11 fm x0 k)) => ?_) (fun (c25 : h ≠ (dig 11 fm x0 k)) => ?_)
                          · refine lv_iinc (v := nI (h + 1)) (lv' := [(6, .int (nI (h + 1))), (0, .ref (a 70)), (1, .int (nI en2)), (2, .int (nI d2)), (3, .int (nI s0)), (4, .int (nI k)), (5, .int (nI (dig 11 fm x0 k)))]) hC.1 hC.2.1 dX11_findPlan_196 hl (k := 6) rfl (nI_add _ _) (by decide) rfl (fun ls hl => ?_)
                            refine lv_goto (tgt := 104) hC.1 hC.2.1 dX11_findPlan_199 (by decide) ?_
                            have hgx : ¬ gPl (τ 1) F fm nh nj x0 k h = true := fun q => absurd (of_decide_eq_true q) (fun q => q.1 c25)
                            have hK2 : K = bfH (gPl (τ 1) F fm nh nj) (cPl fm) (bPl F) (bfK (gPl (τ 1) F fm nh nj) (cPl fm) (bPl F) nh L s0 x0 k) s0 x0 k (h + 1) := by rw [bfH, if_neg hgx]; exact hK
                            exact ih104 (h + 1) w s6 s7 s8 s9 K (by omega) hat hR hK2 (by omega) _ _ _ hw (lv_sub hl [1, 2, 3, 4, 5, 6, 0] rfl)
                          · refine lv_aload_n hC.1 hC.2.1 dX11_findPlan_122 rfl (lv_at hl 0 rfl) ?_
                            refine lv_aload_n hC.1 hC.2.1 dX11_findPlan_123 rfl (lv_at hl 0 rfl) ?_
                            refine gf_X11_22 hC hw dX11_findPlan_124 ?_
                            refine lv_iload hC.1 hC.2.1 dX11_findPlan_127 (lv_at hl 4 rfl) ?_
                            have hFx := (hF k (by omega)).2
                            refine al_M5 (v := nI (F k)) hC hw (by omega) (hF k (by omega)).1 dX11_findPlan_129 ?_
                            refine lv_iload hC.1 hC.2.1 dX11_findPlan_130 (lv_at hl 6 rfl) ?_
                            refine q_callVp (As := [.int (nI (F k)), .int (nI h)]) (rest := []) (q0 := 0) hC hw hl (tX11_whyNot l E a (sr (sr (sr (sr (sr (sr τ 1 (w)) 6 (s6)) 7 (s7)) 8 (s8)) 9 (s9)) 0 (upd (τ 0) 5 (nI (K.length)))) nh nj (F k) h hWw (by first | assumption | omega) (by first | assumption | omega)) (q_cwV hC.2.2.2.2.1 ⟨rfl, rfl⟩ wk4_202 wk4_204 wks_2_9 wk1_12 wk4_205 hd_X11_whyNot ⟨Nat.le_of_ble_eq_true rfl, Nat.le_of_ble_eq_true rfl⟩) rfl rfl rfl rfl rfl (Nat.le_of_ble_eq_true rfl) dX11_findPlan_132 (fun H locs hw => ?_)
                            refine q_ifne hC 196 cI dX11_findPlan_135 (by decide) (fun (c29 : ¬ ((m_why (eM w) (pB (eM w) (nI (F k))) nh nj (F k) h) = 0)) => ?_) (fun (c29 : (m_why (eM w) (pB (eM w) (nI (F k))) nh nj (F k) h) = 0) => ?_)
                            · refine lv_iinc (v := nI (h + 1)) (lv' := [(6, .int (nI (h + 1))), (0, .ref (a 70)), (1, .int (nI en2)), (2, .int (nI d2)), (3, .int (nI s0)), (4, .int (nI k)), (5, .int (nI (dig 11 fm x0 k)))]) hC.1 hC.2.1 dX11_findPlan_196 hl (k := 6) rfl (nI_add _ _) (by decide) rfl (fun ls hl => ?_)
                              refine lv_goto (tgt := 104) hC.1 hC.2.1 dX11_findPlan_199 (by decide) ?_
                              have hgx : ¬ gPl (τ 1) F fm nh nj x0 k h = true := fun q => absurd (of_decide_eq_true q) (fun q => c29 ((hat.why hFk hW (show k < fm by omega) (show h < nh by omega)).trans q.2))
                              have hK2 : K = bfH (gPl (τ 1) F fm nh nj) (cPl fm) (bPl F) (bfK (gPl (τ 1) F fm nh nj) (cPl fm) (bPl F) nh L s0 x0 k) s0 x0 k (h + 1) := by rw [bfH, if_neg hgx]; exact hK
                              exact ih104 (h + 1) w s6 s7 s8 s9 K (by omega) hat hR hK2 (by omega) _ _ _ hw (lv_sub hl [1, 2, 3, 4, 5, 6, 0] rfl)
                            · have hkm : k < fm := by omega
                              have hhn : h < nh := by omega
                              have hgx : gPl (τ 1) F fm nh nj x0 k h = true := decide_eq_true ⟨c25, (hat.why hFk hW hkm hhn).symm.trans c29⟩
                              have hvc : Vd fm nh (cPl fm x0 k h) := Vd.cd hnh hvx hhn
                              have hcl := hvc.lt hm4
                              have hat4 := hat.mv hFk hnj hnh hkm (hvx.2 k hkm) hhn
                              have hWu := hat4.zmF hFk hW
                              have hw1 : w (282 + F k) = nI (dig 11 fm x0 k) := hat.at hnh hkm (hvx.2 k hkm)
                              refine lv_aload_n hC.1 hC.2.1 dX11_findPlan_138 rfl (lv_at hl 0 rfl) ?_
                              refine gf_X11_7 hC hw dX11_findPlan_139 ?_
                              refine lv_sipush (v := nI 282) hC.1 hC.2.1 dX11_findPlan_142 (by decide) ?_
                              refine lv_aload_n hC.1 hC.2.1 dX11_findPlan_145 rfl (lv_at hl 0 rfl) ?_
                              refine gf_X11_22 hC hw dX11_findPlan_146 ?_
                              refine lv_iload hC.1 hC.2.1 dX11_findPlan_149 (lv_at hl 4 rfl) ?_
                              have hFx := (hF k (by omega)).2
                              refine al_M5 (v := nI (F k)) hC hw (by omega) (hF k (by omega)).1 dX11_findPlan_151 ?_
                              refine q_addN hC dX11_findPlan_152 ?_
                              refine lv_iload hC.1 hC.2.1 dX11_findPlan_153 (lv_at hl 6 rfl) ?_
                              refine as_M1 hC hw (by omega) dX11_findPlan_155 (fun H locs hw => ?_)
                              have hw : Wst E (MW E a) (sr (sr (sr (sr (sr (sr τ 1 (upd (w) (282 + (F k)) (nI h))) 6 (s6)) 7 (s7)) 8 (s8)) 9 (s9)) 0 (upd (τ 0) 5 (nI (K.length)))) A s.heap H locs := hw
                              refine lv_aload_n hC.1 hC.2.1 dX11_findPlan_156 rfl (lv_at hl 0 rfl) ?_
                              refine lv_aload_n hC.1 hC.2.1 dX11_findPlan_157 rfl (lv_at hl 0 rfl) ?_
                              refine q_callVp (As := []) (rest := [.ref (a 70)]) (q0 := 0) hC hw hl (tX11_codeOf l E a (sr (sr (sr (sr (sr (sr τ 1 (upd (w) (282 + (F k)) (nI h))) 6 (s6)) 7 (s7)) 8 (s8)) 9 (s9)) 0 (upd (τ 0) 5 (nI (K.length)))) nh nj fm F hWu hm hm4 hF) (q_cwV hC.2.2.2.2.1 ⟨rfl, rfl⟩ wk5_88 wk5_90 wks_3_13 wk1_12 wk5_91 hd_X11_codeOf ⟨Nat.le_of_ble_eq_true rfl, Nat.le_of_ble_eq_true rfl⟩) rfl rfl rfl rfl rfl (Nat.le_of_ble_eq_true rfl) dX11_findPlan_158 (fun H locs hw => ?_)
                              refine q_top (y := nI (cPl fm x0 k h)) (congrArg nI (hat4.zenc hnh)) ?_
                              refine lv_iload_n hC.1 hC.2.1 dX11_findPlan_161 rfl (lv_at hl 3 rfl) ?_
                              refine lv_bipush (v := nI 16) hC.1 hC.2.1 dX11_findPlan_162 (by decide) ?_
                              refine lv_aload_n hC.1 hC.2.1 dX11_findPlan_164 rfl (lv_at hl 0 rfl) ?_
                              refine gf_X11_22 hC hw dX11_findPlan_165 ?_
                              refine lv_iload hC.1 hC.2.1 dX11_findPlan_168 (lv_at hl 4 rfl) ?_
                              have hFx := (hF k (by omega)).2
                              refine al_M5 (v := nI (F k)) hC hw (by omega) (hF k (by omega)).1 dX11_findPlan_170 ?_
                              refine q_mulN hC dX11_findPlan_171 ?_
                              refine lv_iload hC.1 hC.2.1 dX11_findPlan_172 (lv_at hl 6 rfl) ?_
                              refine q_addN hC dX11_findPlan_174 ?_
                              refine q_callVvp (As := [.int (nI (cPl fm x0 k h)), .int (nI s0), .int (nI ((16 * (F k)) + h))]) (rest := []) (q0 := 0) hC hw hl (tX11_meet l E a (sr (sr (sr (sr (sr (sr τ 1 (upd (w) (282 + (F k)) (nI h))) 6 (s6)) 7 (s7)) 8 (s8)) 9 (s9)) 0 (upd (τ 0) 5 (nI (K.length)))) K.length (cPl fm x0 k h) (nI s0) (nI ((16 * (F k)) + h)) rfl hcl (fun q => hgK.1.len2 (fun i hi => (hvK i hi).lt hm4) hcl (fun z => (hR.2 _ hcl).mpr z q))) (q_cwV hC.2.2.2.2.1 ⟨rfl, rfl⟩ wk5_92 wk5_94 wks_3_14 wk1_12 wk5_95 hd_X11_meet ⟨Nat.le_of_ble_eq_true rfl, Nat.le_of_ble_eq_true rfl⟩) rfl rfl rfl rfl rfl (Nat.le_of_ble_eq_true rfl) dX11_findPlan_175 (fun H locs hw => ?_)
                              have hw : Wst E (MW E a) (sr (sr (sr (sr (sr (sr τ 1 (upd (w) (282 + (F k)) (nI h))) 6 ((if s6 (cPl fm x0 k h) = 0 then upd s6 (cPl fm x0 k h) 1 else s6))) 7 ((if s6 (cPl fm x0 k h) = 0 then upd s7 K.length (nI (cPl fm x0 k h)) else s7))) 8 ((if s6 (cPl fm x0 k h) = 0 then upd s8 K.length (nI s0) else s8))) 9 ((if s6 (cPl fm x0 k h) = 0 then upd s9 K.length (nI ((16 * (F k)) + h)) else s9))) 0 (upd (τ 0) 5 ((if s6 (cPl fm x0 k h) = 0 then nI (K.length + 1) else (nI (K.length)))))) A s.heap H locs := hw
                              refine lv_aload_n hC.1 hC.2.1 dX11_findPlan_178 rfl (lv_at hl 0 rfl) ?_
                              refine gf_X11_7 hC hw dX11_findPlan_179 ?_
                              refine lv_sipush (v := nI 282) hC.1 hC.2.1 dX11_findPlan_182 (by decide) ?_
                              refine lv_aload_n hC.1 hC.2.1 dX11_findPlan_185 rfl (lv_at hl 0 rfl) ?_
                              refine gf_X11_22 hC hw dX11_findPlan_186 ?_
                              refine lv_iload hC.1 hC.2.1 dX11_findPlan_189 (lv_at hl 4 rfl) ?_
                              have hFx := (hF k (by omega)).2
                              refine al_M5 (v := nI (F k)) hC hw (by omega) (hF k (by omega)).1 dX11_findPlan_191 ?_
                              refine q_addN hC dX11_findPlan_192 ?_
                              refine lv_iload hC.1 hC.2.1 dX11_findPlan_193 (lv_at hl 5 rfl) ?_
                              refine as_M1 hC hw (by omega) dX11_findPlan_195 (fun H locs hw => ?_)
                              have hw : Wst E (MW E a) (sr (sr (sr (sr (sr (sr τ 1 (upd (upd (w) (282 + (F k)) (nI h)) (282 + (F k)) (nI (dig 11 fm x0 k)))) 6 ((if s6 (cPl fm x0 k h) = 0 then upd s6 (cPl fm x0 k h) 1 else s6))) 7 ((if s6 (cPl fm x0 k h) = 0 then upd s7 K.length (nI (cPl fm x0 k h)) else s7))) 8 ((if s6 (cPl fm x0 k h) = 0 then upd s8 K.length (nI s0) else s8))) 9 ((if s6 (cPl fm x0 k h) = 0 then upd s9 K.length (nI ((16 * (F k)) + h)) else s9))) 0 (upd (τ 0) 5 ((if s6 (cPl fm x0 k h) = 0 then nI (K.length + 1) else (nI (K.length)))))) A s.heap H locs := hw
                              refine lv_iinc (v := nI (h + 1)) (lv' := [(6, .int (nI (h + 1))), (0, .ref (a 70)), (1, .int (nI en2)), (2, .int (nI d2)), (3, .int (nI s0)), (4, .int (nI k)), (5, .int (nI (dig 11 fm x0 k)))]) hC.1 hC.2.1 dX11_findPlan_196 hl (k := 6) rfl (nI_add _ _) (by decide) rfl (fun ls hl => ?_)
                              refine lv_goto (tgt := 104) hC.1 hC.2.1 dX11_findPlan_199 (by decide) ?_
                              have hRm := hR.meet (x := (cPl fm x0 k h)) (fr := s0) (by1 := 16 * F k + h) (Nat.lt_of_le_of_lt (Nat.zero_le _) hsK) hcl
                              have hMe : (if s6 (cPl fm x0 k h) = 0 then nI (K.length + 1) else (nI (K.length))) = nI ((mtL K (cPl fm x0 k h, s0, 16 * F k + h))).length := hRm.2
                              have hU : upd (upd (w) (282 + (F k)) (nI h)) (282 + (F k)) (nI (dig 11 fm x0 k)) = w := by rw [upd_upd, ← hw1]; exact upd_id
                              rw [hMe, hU] at hw
                              have hw : Wst E (MW E a) (sr (sr (sr (sr (sr (sr τ 1 (w)) 6 ((if s6 (cPl fm x0 k h) = 0 then upd s6 (cPl fm x0 k h) 1 else s6))) 7 ((if s6 (cPl fm x0 k h) = 0 then upd s7 K.length (nI (cPl fm x0 k h)) else s7))) 8 ((if s6 (cPl fm x0 k h) = 0 then upd s8 K.length (nI s0) else s8))) 9 ((if s6 (cPl fm x0 k h) = 0 then upd s9 K.length (nI ((16 * (F k)) + h)) else s9))) 0 (upd (τ 0) 5 (nI ((mtL K (cPl fm x0 k h, s0, 16 * F k + h)).length)))) A s.heap H locs := hw
                              have hK2 : (mtL K (cPl fm x0 k h, s0, 16 * F k + h)) = bfH (gPl (τ 1) F fm nh nj) (cPl fm) (bPl F) (bfK (gPl (τ 1) F fm nh nj) (cPl fm) (bPl F) nh L s0 x0 k) s0 x0 k (h + 1) := by rw [bfH, if_pos hgx, ← hK]; rfl
                              exact ih104 (h + 1) w (if s6 (cPl fm x0 k h) = 0 then upd s6 (cPl fm x0 k h) 1 else s6) (if s6 (cPl fm x0 k h) = 0 then upd s7 K.length (nI (cPl fm x0 k h)) else s7) (if s6 (cPl fm x0 k h) = 0 then upd s8 K.length (nI s0) else s8) (if s6 (cPl fm x0 k h) = 0 then upd s9 K.length (nI ((16 * (F k)) + h)) else s9) (mtL K (cPl fm x0 k h, s0, 16 * F k + h)) (by omega) hat hRm.1 hK2 (by omega) _ _ _ hw (lv_sub hl [1, 2, 3, 4, 5, 6, 0] rfl)
                    exact L104_22 _ 0 w s6 s7 s8 s9 K (Nat.zero_le _) hat hR hK (Nat.lt_succ_self _) _ _ _ hw (lv_sub hl [2, 3, 4, 5, 6, 1, 0] rfl)
            exact L68_19 _ 0 (f_set w F x0 fm) s6 s7 s8 s9 L (Nat.zero_le _) (Or.inl rfl) hat1 hR rfl (Nat.lt_succ_self _) _ _ _ hw (lv_sub hl [1, 2, 3, 4, 0] rfl)
          · refine lv_iload_n hC.1 hC.2.1 dX11_findPlan_63 rfl (lv_at hl 3 rfl) ?_
            refine hret _ _ _ _ _ _ hw ?_ rfl dX11_findPlan_64
            exact ⟨L, Or.inl ⟨d2, s0, hI2.le, hI2.1, hsd, by rw [← hgL.2.2 s0 hsd] ; rw [hx0]; exact c19, rfl, hgL.2⟩, _, _, _, _, _, _, hat1, hR, hgL.1, rfl⟩
        refine q_cmpne hC 46 (cNeq (by omega) (by omega)) dX11_findPlan_35 (by decide) (fun (c36 : s0 ≠ en) => ?_) (fun (c36 : s0 = en) => ?_)
        · exact J46_11 d en hI (by omega) hen (by omega) _ _ _ hw (lv_sub hl [0, 1, 2, 3] rfl)
        · refine lv_iinc (v := nI (d + 1)) (lv' := [(2, .int (nI (d + 1))), (0, .ref (a 70)), (1, .int (nI en)), (3, .int (nI s0))]) hC.1 hC.2.1 dX11_findPlan_38 hl (k := 2) rfl (nI_add _ _) (by decide) rfl (fun ls hl => ?_)
          refine lv_aload_n hC.1 hC.2.1 dX11_findPlan_41 rfl (lv_at hl 1 rfl) ?_
          refine gf_X11_141 (v := nI L.length) hC hw rfl dX11_findPlan_42 ?_
          refine lv_istore_n (lv' := [(1, .int (nI L.length)), (2, .int (nI (d + 1))), (0, .ref (a 70)), (3, .int (nI s0))]) hC.1 hC.2.1 dX11_findPlan_45 rfl hl (by decide) rfl (fun ls hl => ?_)
          exact J46_11 (d + 1) L.length (fPl_lev hI (by omega) (by omega)).1 (by have := (fPl_lev hI (by omega) (by omega)).2; omega) (fPl_lev hI (by omega) (by omega)).2 (by omega) _ _ _ hw (lv_sub hl [2, 0, 1, 3] rfl)
  have hz0 : (zer 14641 (τ 6)) (enc 11 (dg (τ 1) F) fm) = 0 := if_pos hcl0
  simp only [if_pos hz0] at hw
  have hw : Wst E (MW E a) (sr (sr (sr (sr (sr (sr τ 1 (τ 1)) 6 (upd (zer 14641 (τ 6)) (enc 11 (dg (τ 1) F) fm) 1)) 7 (upd (τ 7) 0 (nI (enc 11 (dg (τ 1) F) fm)))) 8 (upd (τ 8) 0 (-1))) 9 (upd (τ 9) 0 0)) 0 (upd (τ 0) 5 (nI (([((enc 11 (dg (τ 1) F) fm), 0, 0)] : List (Nat × Nat × Nat)).length)))) A s.heap H locs := by rw [sr_id]; exact hw
  exact L25_9 _ 0 0 1 (τ 1) (upd (zer 14641 (τ 6)) (enc 11 (dg (τ 1) F) fm) 1) (upd (τ 7) 0 (nI (enc 11 (dg (τ 1) F) fm))) (upd (τ 8) 0 (-1)) (upd (τ 9) 0 0) ([((enc 11 (dg (τ 1) F) fm), 0, 0)]) (dg (τ 1) F) hat0 (RLs.z hcl0 (fun y hy => if_pos hy)) FI.z rfl (Nat.lt_succ_self _) _ _ _ hw (lv_sub hl [3, 2, 1, 0] rfl)
