section BF3
variable {g : Nat → Nat → Nat → Bool} {cd : Nat → Nat → Nat → Nat} {b : Nat → Nat → Nat} {m nh r0 : Nat}
/-- a search that's at its state s, of level d; L is what's seen -/
def FI (g : Nat → Nat → Nat → Bool) (cd : Nat → Nat → Nat → Nat) (b : Nat → Nat → Nat) (m nh r0 : Nat) (Gp : Nat → Prop) (d s : Nat) (L : List (Nat × Nat × Nat)) : Prop :=
  (bfV g cd b m nh r0 d).1 ≤ s ∧ s ≤ (bfV g cd b m nh r0 d).2.length ∧ ((d < 8 ∧ L = bfS g cd b m nh (bfV g cd b m nh r0 d).2 (bfV g cd b m nh r0 d).1 (s - (bfV g cd b m nh r0 d).1)) ∨ (d = 8 ∧ L = (bfV g cd b m nh r0 8).2)) ∧ ∀ i, i < s → ¬ Gp (gt L i).1
theorem FI.gl {Gp : Nat → Prop} {d s : Nat} {L : List (Nat × Nat × Nat)} (h : FI g cd b m nh r0 Gp d s L) : GL g cd b m nh r0 L ∧ Pre (bfV g cd b m nh r0 d).2 L := by
  obtain ⟨h1, h2, h3 | h3, -⟩ := h
  · have a := bfS_all (lo := (bfV g cd b m nh r0 d).1) (n := s - (bfV g cd b m nh r0 d).1) (bfV_all (g := g) (cd := cd) (b := b) (m := m) (nh := nh) (r0 := r0) d).1 (by omega)
    rw [h3.2]; exact ⟨a.1, a.2.1⟩
  · rw [h3.2, h3.1]; exact ⟨(bfV_all 8).1, Pre.rf⟩
theorem FI.le {Gp : Nat → Prop} {d s : Nat} {L : List (Nat × Nat × Nat)} (h : FI g cd b m nh r0 Gp d s L) : d ≤ 8 := by
  obtain ⟨h1, h2, h3 | h3, -⟩ := h <;> omega
theorem FI.z {Gp : Nat → Prop} : FI g cd b m nh r0 Gp 0 0 [(r0, 0, 0)] := ⟨Nat.le_refl _, Nat.zero_le _, Or.inl ⟨by omega, rfl⟩, fun i h => absurd h (Nat.not_lt_zero _)⟩
theorem FI.lev {Gp : Nat → Prop} {d s : Nat} {L : List (Nat × Nat × Nat)} (h : FI g cd b m nh r0 Gp d s L) (hs : s = (bfV g cd b m nh r0 d).2.length) (hl : s < L.length) : FI g cd b m nh r0 Gp (d + 1) s L ∧ L.length = (bfV g cd b m nh r0 (d + 1)).2.length := by
  obtain ⟨h1, h2, h3 | h3, h4⟩ := h
  · have e : (bfV g cd b m nh r0 (d + 1)).2 = L := by rw [h3.2, hs]; rfl
    have e1 : (bfV g cd b m nh r0 (d + 1)).1 = s := hs.symm
    refine ⟨⟨by omega, by rw [e]; omega, ?_, h4⟩, by rw [e]⟩
    by_cases q : d = 7
    · subst q; exact Or.inr ⟨rfl, e.symm⟩
    · refine Or.inl ⟨by omega, ?_⟩
      rw [e, e1, Nat.sub_self]; rfl
  · rw [h3.2] at hl; rw [h3.1] at hs; omega
theorem FI.next {Gp : Nat → Prop} {d s : Nat} {L K : List (Nat × Nat × Nat)} (h : FI g cd b m nh r0 Gp d s L) (hs : s < (bfV g cd b m nh r0 d).2.length) (hg : ¬ Gp (gt L s).1) (hK : (d < 8 ∧ K = bfK g cd b nh L s (gt L s).1 m) ∨ (d = 8 ∧ K = L)) : FI g cd b m nh r0 Gp d (s + 1) K := by
  have hgl := h.gl
  obtain ⟨h1, h2, h3, h4⟩ := h
  have hLs : s < L.length := Nat.lt_of_lt_of_le hs hgl.2.1
  refine ⟨by omega, by omega, ?_, ?_⟩
  · rcases hK with hK | hK
    · rcases h3 with h3 | h3
      · refine Or.inl ⟨hK.1, ?_⟩
        rw [show s + 1 - (bfV g cd b m nh r0 d).1 = (s - (bfV g cd b m nh r0 d).1) + 1 by omega, bfS, ← h3.2, show (bfV g cd b m nh r0 d).1 + (s - (bfV g cd b m nh r0 d).1) = s by omega]
        exact hK.2
      · omega
    · rcases h3 with h3 | h3
      · omega
      · exact Or.inr ⟨hK.1, hK.2.trans h3.2⟩
  · have hp : Pre L K := by
      rcases hK with hK | hK
      · rw [hK.2]; exact (bfK_all hgl.1 hLs rfl (Nat.le_refl m)).2.1
      · rw [hK.2]; exact Pre.rf
    intro i hi
    rw [hp.2 i (by omega)]
    by_cases e : i = s
    · rw [e]; exact hg
    · exact h4 i (by omega)
theorem FI.none {Gp : Nat → Prop} {d s : Nat} {L : List (Nat × Nat × Nat)} (h : FI g cd b m nh r0 Gp d s L) (hs : L.length ≤ s) : ∀ i, i < (bfV g cd b m nh r0 8).2.length → ¬ Gp (gt (bfV g cd b m nh r0 8).2 i).1 := by
  have hgl := h.gl
  have hle := h.le
  obtain ⟨h1, h2, h3, h4⟩ := h
  have h5 := hgl.2.1
  have e : (bfV g cd b m nh r0 8).2 = L := by
    rcases h3 with h3 | h3
    · have e : (bfV g cd b m nh r0 (d + 1)).2 = L := by rw [h3.2, show s = (bfV g cd b m nh r0 d).2.length by omega]; rfl
      have e1 : (bfV g cd b m nh r0 (d + 1)).1 = (bfV g cd b m nh r0 (d + 1)).2.length := by rw [e]; show (bfV g cd b m nh r0 d).2.length = _; omega
      have := (bfV_stop e1 (7 - d)).1
      rw [show d + 1 + (7 - d) = 8 by omega] at this
      rw [this, e]
    · exact h3.2.symm
  rw [e]
  intro i hi
  exact h4 i (by omega)
end BF3
/-! the reference's search for moves -/
def gPl (v : Nat → Int32) (F : Nat → Nat) (fm nh nj : Nat) : Nat → Nat → Nat → Bool := fun x k h => decide (h ≠ dig 11 fm x k ∧ fitC (eM v) F fm (pB (eM v) (-1)) nh nj (dig 11 fm x) k h)
def cPl (fm : Nat) : Nat → Nat → Nat → Nat := fun x k h => enc 11 (pu (dig 11 fm x) k h) fm
def bPl (F : Nat → Nat) : Nat → Nat → Nat := fun k h => 16 * F k + h
abbrev gl (v : Nat → Int32) (F : Nat → Nat) (fm x : Nat) : Prop := ∀ k, k < fm → nI (dig 11 fm x k) = eM v 14 (F k)
abbrev vPl (v : Nat → Int32) (F : Nat → Nat) (fm nh nj : Nat) (d : Nat) : Nat × List (Nat × Nat × Nat) := bfV (gPl v F fm nh nj) (cPl fm) (bPl F) fm nh (enc 11 (dg v F) fm) d
abbrev fPl (v : Nat → Int32) (F : Nat → Nat) (fm nh nj : Nat) (d s : Nat) (L : List (Nat × Nat × Nat)) : Prop := FI (gPl v F fm nh nj) (cPl fm) (bPl F) fm nh (enc 11 (dg v F) fm) (gl v F fm) d s L
def Vd (fm nh x : Nat) : Prop := x < 11 ^ fm ∧ ∀ k, k < fm → dig 11 fm x k < nh
theorem Vd.ok {fm nh x : Nat} (h : Vd fm nh x) : okC nh fm (dig 11 fm x) := fun k hk => Or.inr (h.2 k hk)
theorem Vd.lt {fm nh x : Nat} (h : Vd fm nh x) (hm : fm ≤ 4) : x < 14641 := Nat.lt_of_lt_of_le h.1 (Nat.le_trans (Nat.pow_le_pow_right (by decide) hm) (by decide))
theorem Vd.of {fm nh : Nat} {p : Nat → Nat} (hn : nh ≤ 10) (h : ∀ k, k < fm → p k < nh) : Vd fm nh (enc 11 p fm) := by
  have h11 : ∀ k, k < fm → p k < 11 := fun k hk => by have := h k hk; omega
  exact ⟨enc_lt (by decide) h11, fun k hk => by rw [dig_enc (by decide) h11 hk]; exact h k hk⟩
theorem Vd.cd {fm nh x k h : Nat} (hn : nh ≤ 10) (hx : Vd fm nh x) (hh : h < nh) : Vd fm nh (cPl fm x k h) := Vd.of hn (fun i hi => by
  unfold pu; split
  · exact hh
  · exact hx.2 i hi)
theorem Vd.all {v : Nat → Int32} {F : Nat → Nat} {fm nh nj : Nat} {L : List (Nat × Nat × Nat)} (hn : nh ≤ 10) (hL : GL (gPl v F fm nh nj) (cPl fm) (bPl F) fm nh (enc 11 (dg v F) fm) L) (h0 : Vd fm nh (enc 11 (dg v F) fm)) : ∀ i, i < L.length → Vd fm nh (gt L i).1 :=
  hL.ind h0 (fun _ _ _ hx _ hh _ => Vd.cd hn hx hh)
theorem GL.len {g : Nat → Nat → Nat → Bool} {cd : Nat → Nat → Nat → Nat} {b : Nat → Nat → Nat} {m nh r0 : Nat} {L : List (Nat × Nat × Nat)} (hL : GL g cd b m nh r0 L) (h : ∀ i, i < L.length → (gt L i).1 < 14641) : L.length ≤ 14641 := ph 14641 L.length (fun i => (gt L i).1) h hL.2.2.1
theorem GL.len2 {g : Nat → Nat → Nat → Bool} {cd : Nat → Nat → Nat → Nat} {b : Nat → Nat → Nat} {m nh r0 x : Nat} {L : List (Nat × Nat × Nat)} (hL : GL g cd b m nh r0 L) (h : ∀ i, i < L.length → (gt L i).1 < 14641) (hx : x < 14641) (hc : ¬ hasC L x = true) : L.length < 14641 := by
  have : L.length + 1 ≤ 14641 := ph 14641 (L.length + 1) (fun i => if i < L.length then (gt L i).1 else x) (fun i hi => by
      show (if i < L.length then (gt L i).1 else x) < 14641
      split
      case isTrue q => exact h i q
      case isFalse q => exact hx) (fun i j hij hj => by
      show (if i < L.length then (gt L i).1 else x) ≠ (if j < L.length then (gt L j).1 else x)
      rw [if_pos (by omega)]
      split
      case isTrue q => exact hL.2.2.1 i j hij q
      case isFalse q => exact fun z => hc (hasC_iff.mpr ⟨i, by omega, z⟩))
  omega
/-- the reference's arrays hold L -/
def RL (L : List (Nat × Nat × Nat)) (s6 s7 s8 s9 : Nat → Int32) : Prop := (∀ i, i < L.length → s7 i = nI (gt L i).1 ∧ (s8 i = if i = 0 then -1 else nI (gt L i).2.1) ∧ s9 i = nI (gt L i).2.2) ∧ ∀ x, x < 14641 → (¬ s6 x = 0 ↔ hasC L x = true)
theorem hasC_app {L : List (Nat × Nat × Nat)} {y : Nat × Nat × Nat} {x : Nat} : hasC (L ++ [y]) x = (hasC L x || y.1 == x) := by
  unfold hasC; rw [List.any_append]; simp
theorem RL.meet {L : List (Nat × Nat × Nat)} {s6 s7 s8 s9 : Nat → Int32} {x fr by1 : Nat} (h : RL L s6 s7 s8 s9) (h0 : 0 < L.length) (hx : x < 14641) : RL (mtL L (x, fr, by1)) (if s6 x = 0 then upd s6 x 1 else s6) (if s6 x = 0 then upd s7 L.length (nI x) else s7) (if s6 x = 0 then upd s8 L.length (nI fr) else s8) (if s6 x = 0 then upd s9 L.length (nI by1) else s9) ∧ (if s6 x = 0 then nI (L.length + 1) else nI L.length) = nI (mtL L (x, fr, by1)).length := by
  by_cases e : s6 x = 0
  · have e2 : ¬ hasC L x = true := fun q => (h.2 x hx).mpr q e
    have e3 : mtL L (x, fr, by1) = L ++ [(x, fr, by1)] := if_neg e2
    rw [e3]
    simp only [if_pos e]
    refine ⟨⟨fun i hi => ?_, fun y hy => ?_⟩, by rw [List.length_append]; rfl⟩
    · rw [List.length_append, List.length_singleton] at hi
      by_cases q : i = L.length
      · subst q
        rw [gt_r rfl, ups, ups, ups, if_neg (by omega)]
        exact ⟨rfl, rfl, rfl⟩
      · rw [gt_l (by omega), upn q, upn q, upn q]; exact h.1 i (by omega)
    · rw [hasC_app]
      by_cases q : y = x
      · subst q; rw [ups]; simp
      · rw [upn q, h.2 y hy]
        simp [show ¬ x = y from fun z => q z.symm]
  · have e2 : hasC L x = true := (h.2 x hx).mp e
    have e3 : mtL L (x, fr, by1) = L := if_pos e2
    rw [e3]
    simp only [if_neg e]
    exact ⟨h, rfl⟩
theorem RL.z {x : Nat} {s6 s7 s8 s9 : Nat → Int32} (hx : x < 14641) (h6 : ∀ y, y < 14641 → s6 y = 0) : RL [(x, 0, 0)] (upd s6 x 1) (upd s7 0 (nI x)) (upd s8 0 (-1)) (upd s9 0 0) := ⟨fun i hi => by
    have hi : i < 1 := hi
    rw [show i = 0 by omega]
    exact ⟨ups, ups, ups⟩, fun y hy => by
    by_cases q : y = x
    · subst q; rw [ups]; simp [hasC]
    · rw [upn q, h6 y hy]; simp [hasC, show ¬ x = y from fun z => q z.symm]⟩
theorem atP.mv {v0 w : Nat → Int32} {F : Nat → Nat} {fm nh nj k x : Nat} {p : Nat → Nat} (h : atP v0 F fm nh w p) (hF : Fok F fm nj) (hj : nj ≤ 24) (hn : nh ≤ 10) (hk : k < fm) (hp : p k < nh) (hx : x < nh) : atP v0 F fm nh (upd w (282 + F k) (nI x)) (pu p k x) := by
  have := h.put hF hj hk hx
  have e : w (258 + F k) = 1 := by rcases h.2 k hk with z | z; omega; exact z.2.1
  rw [show upd w (258 + F k) 1 = w by rw [← e]; exact upd_id] at this
  exact this
theorem atP.at {v0 w : Nat → Int32} {F : Nat → Nat} {fm nh k : Nat} {p : Nat → Nat} (h : atP v0 F fm nh w p) (hn : nh ≤ 10) (hk : k < fm) (hp : p k < nh) : w (282 + F k) = nI (p k) := by
  rcases h.2 k hk with z | z
  · omega
  · exact z.2.2
/-- what findPlan answers -/
def PF (v : Nat → Int32) (F : Nat → Nat) (fm nh nj : Nat) (L : List (Nat × Nat × Nat)) (r : Int32) : Prop := (∃ d s, d ≤ 8 ∧ (vPl v F fm nh nj d).1 ≤ s ∧ s < (vPl v F fm nh nj d).2.length ∧ gl v F fm (gt (vPl v F fm nh nj d).2 s).1 ∧ r = nI s ∧ Pre (vPl v F fm nh nj d).2 L) ∨ ((∀ i, i < (vPl v F fm nh nj 8).2.length → ¬ gl v F fm (gt (vPl v F fm nh nj 8).2 i).1) ∧ r = -1)
