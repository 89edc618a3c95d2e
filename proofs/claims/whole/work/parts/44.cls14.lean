/-! ===== PLANNER: codes of the class are decimal ===== -/
def rc (fm x : Nat) : Nat := enc 10 (dig 11 fm x) fm
theorem Vd.d10 {fm nh x : Nat} (hn : nh ≤ 10) (h : Vd fm nh x) : ∀ k, k < fm → dig 11 fm x k < 10 := fun k hk => Nat.lt_of_lt_of_le (h.2 k hk) hn
theorem rc_lt {fm nh x : Nat} (hn : nh ≤ 10) (h : Vd fm nh x) : rc fm x < 10 ^ fm := enc_lt (by decide) (h.d10 hn)
theorem rc_dig {fm nh x k : Nat} (hn : nh ≤ 10) (h : Vd fm nh x) (hk : k < fm) : rc fm x / 10 ^ k % 10 = dig 11 fm x k := enc_dig (by decide) (h.d10 hn) hk
theorem rc_inj {fm nh x y : Nat} (hn : nh ≤ 10) (hx : Vd fm nh x) (hy : Vd fm nh y) (e : rc fm x = rc fm y) : x = y := by
  rw [← enc_dig2 (b := 11) (m := fm) (by decide) hx.1, ← enc_dig2 (b := 11) (m := fm) (by decide) hy.1]
  exact enc_congr (fun k hk => by rw [← rc_dig hn hx hk, e, rc_dig hn hy hk])
theorem rc_cd {fm nh x k h : Nat} (hn : nh ≤ 10) (hx : Vd fm nh x) (hh : h < nh) : rc fm (cPl fm x k h) = enc 10 (pu (dig 11 fm x) k h) fm := by
  refine enc_congr (fun i hi => dig_enc (by decide) (fun i hi => ?_) hi)
  unfold pu; split
  · omega
  · have := hx.2 i hi; omega
theorem rc_nxt {fm nh x k h : Nat} (hn : nh ≤ 10) (hx : Vd fm nh x) (hk : k < fm) (hh : h < nh) : nxt (rc fm x) k h = rc fm (cPl fm x k h) := by
  rw [rc_cd hn hx hh]; exact nxt_enc (hx.d10 hn) hk
/-- the class's rows say what the list has -/
def CR (fm : Nat) (L : List (Nat × Nat × Nat)) (S : L3) : Prop := S.2.2 = L.length ∧ (∀ i, i < L.length → S.1 i = nI (rc fm (gt L i).1)) ∧ (∀ x, x < 10 ^ fm → (¬ S.2.1 x = -1 ↔ ∃ i, i < L.length ∧ rc fm (gt L i).1 = x)) ∧ ∀ i, 0 < i → i < L.length → S.2.1 (rc fm (gt L i).1) = nI (rc fm (gt L (gt L i).2.1).1)
def VL (fm nh : Nat) (L : List (Nat × Nat × Nat)) : Prop := ∀ i, i < L.length → Vd fm nh (gt L i).1
def PI (L : List (Nat × Nat × Nat)) : Prop := (∀ i j, i < j → j < L.length → (gt L i).1 ≠ (gt L j).1) ∧ ∀ i, 0 < i → i < L.length → (gt L i).2.1 < i
theorem CR.len {fm nh : Nat} {L : List (Nat × Nat × Nat)} (hn : nh ≤ 10) (hV : VL fm nh L) (hP : PI L) : L.length ≤ 10 ^ fm :=
  ph (10 ^ fm) L.length (fun i => rc fm (gt L i).1) (fun i hi => rc_lt hn (hV i hi)) (fun i j hij hj e => hP.1 i j hij hj (rc_inj hn (hV i (by omega)) (hV j hj) e))
theorem CR.room {fm nh y : Nat} {L : List (Nat × Nat × Nat)} {S : L3} (hn : nh ≤ 10) (hV : VL fm nh L) (hP : PI L) (hC : CR fm L S) (hy : Vd fm nh y) (h0 : S.2.1 (rc fm y) = -1) : L.length < 10 ^ fm := by
  have : L.length + 1 ≤ 10 ^ fm := ph (10 ^ fm) (L.length + 1) (fun i => if i < L.length then rc fm (gt L i).1 else rc fm y) (fun i hi => by
      show (if i < L.length then rc fm (gt L i).1 else rc fm y) < 10 ^ fm
      split
      case isTrue q => exact rc_lt hn (hV i q)
      case isFalse q => exact rc_lt hn hy) (fun i j hij hj => by
      show (if i < L.length then rc fm (gt L i).1 else rc fm y) ≠ (if j < L.length then rc fm (gt L j).1 else rc fm y)
      rw [if_pos (by omega)]
      split
      case isTrue q => exact fun e => hP.1 i j hij q (rc_inj hn (hV i (by omega)) (hV j q) e)
      case isFalse q => exact fun e => (hC.2.2.1 _ (rc_lt hn hy)).mpr ⟨i, by omega, e⟩ h0)
  omega
theorem CR.see {fm nh s x y b : Nat} {L : List (Nat × Nat × Nat)} {S : L3} (hn : nh ≤ 10) (hm : fm ≤ 4) (hV : VL fm nh L) (hP : PI L) (hC : CR fm L S) (hs : s < L.length) (hx : (gt L s).1 = x) (hy : Vd fm nh y) (h0 : S.2.1 (rc fm y) = -1) : CR fm (L ++ [(y, s, b)]) (seeL (rc fm y) (rc fm x) S) := by
  have hr := hC.room hn hV hP hy h0
  have h10 := (pow10 (show fm < 5 by omega)).2
  have hvx : Vd fm nh x := hx ▸ hV s hs
  have hlx := rc_lt hn hvx
  obtain ⟨h1, h2, h3, h4⟩ := hC
  have hne : ∀ i, i < L.length → rc fm (gt L i).1 ≠ rc fm y := fun i hi e => (h3 _ (rc_lt hn hy)).mpr ⟨i, hi, e⟩ h0
  rw [seeL_new h0 (by omega)]
  refine ⟨by rw [List.length_append]; show S.2.2 + 1 = _; rw [h1]; rfl, fun i hi => ?_, fun z hz => ?_, fun i hi1 hi => ?_⟩
  · rw [List.length_append, List.length_singleton] at hi
    show upd S.1 S.2.2 (nI (rc fm y)) i = _
    by_cases e : i = L.length
    · rw [gt_r e, e, ← h1, ups]
    · rw [upn (by omega), gt_l (by omega)]; exact h2 i (by omega)
  · show ¬ upd S.2.1 (rc fm y) (nI (rc fm x)) z = -1 ↔ _
    by_cases e : z = rc fm y
    · subst e; rw [ups]
      exact ⟨fun _ => ⟨L.length, by rw [List.length_append]; simp, by rw [gt_r rfl]⟩, fun _ q => nI_nm1 (by omega) q.symm⟩
    · rw [upn e, h3 z hz]
      constructor
      · rintro ⟨i, i1, i2⟩; exact ⟨i, by rw [List.length_append]; omega, by rw [gt_l i1]; exact i2⟩
      · rintro ⟨i, i1, i2⟩
        rw [List.length_append, List.length_singleton] at i1
        by_cases w : i = L.length
        · rw [gt_r w] at i2; exact absurd i2.symm e
        · rw [gt_l (by omega)] at i2; exact ⟨i, by omega, i2⟩
  · rw [List.length_append, List.length_singleton] at hi
    show upd S.2.1 (rc fm y) (nI (rc fm x)) _ = _
    by_cases e : i = L.length
    · rw [gt_r e, ups]; show _ = nI (rc fm (gt (L ++ _) s).1); rw [gt_l hs, hx]
    · have hp := hP.2 i hi1 (by omega)
      rw [gt_l (show i < L.length by omega), upn (hne i (by omega)), gt_l (show (gt L i).2.1 < L.length by omega)]
      exact h4 i hi1 (by omega)
theorem GL.PI {g : Nat → Nat → Nat → Bool} {cd : Nat → Nat → Nat → Nat} {b : Nat → Nat → Nat} {m nh r0 : Nat} {L : List (Nat × Nat × Nat)} (h : GL g cd b m nh r0 L) : PI L := ⟨h.2.2.1, fun i h1 h2 => (h.2.2.2 i h1 h2).1⟩
section CP
variable {E0 : St} {v : Nat → Int32} {F : Nat → Nat} {fm nh nj : Nat}
abbrev GLp (v : Nat → Int32) (F : Nat → Nat) (fm nh nj : Nat) (L : List (Nat × Nat × Nat)) : Prop := GL (gPl v F fm nh nj) (cPl fm) (bPl F) fm nh (enc 11 (dg v F) fm) L
theorem CR.goH {L : List (Nat × Nat × Nat)} {S : L3} {s x k : Nat} (hA : agE E0 (eM v) nh nj) (hW : mF v nh nj) (hF : Fok F fm nj) (hm : fm ≤ 4) (h0 : Vd fm nh (enc 11 (dg v F) fm)) (hG : GLp v F fm nh nj L) (hC : CR fm L S) (hs : s < L.length) (hx : (gt L s).1 = x) (hk : k < fm) : ∀ {h : Nat}, h ≤ nh → CR fm (bfH (gPl v F fm nh nj) (cPl fm) (bPl F) L s x k h) (lnH (gC E0 F fm (pB (eM v) (-1)) nh nj (dig 11 fm x)) (rc fm x) k S h)
  | 0, _ => hC
  | h + 1, hh => by
    have hn := hW.1
    have ih := CR.goH hA hW hF hm h0 hG hC hs hx hk (h := h) (by omega)
    obtain ⟨i1, i2, i3⟩ := bfH_all (k := k) hG hs hx hk (h := h) (by omega)
    have hV : VL fm nh _ := Vd.all hn i1 h0
    have hvx : Vd fm nh x := hx ▸ Vd.all hn hG h0 s hs
    have hy := hvx.cd (k := k) hn (show h < nh by omega)
    have hsx := (congrArg Prod.fst (i2.2 s hs)).trans hx
    have hfg := fitC_ag (P0 := pB (eM v) (-1)) hA hn (pB_ok hW) hF hvx.ok hk (show h < nh by omega)
    rw [bfH, lnH, rc_nxt hn hvx hk (by omega)]
    by_cases e : h = dig 11 fm x k
    · have hself : cPl fm x k h = x := by
        unfold cPl
        rw [e, show pu (dig 11 fm x) k (dig 11 fm x k) = dig 11 fm x from funext fun i => by unfold pu; split <;> simp_all]
        exact enc_dig2 (by decide) hvx.1
      have hg : ¬ gPl v F fm nh nj x k h = true := fun q => (of_decide_eq_true q).1 e
      rw [if_neg hg, if_neg (fun q => (ih.2.2.1 _ (rc_lt hn hy)).mpr ⟨s, Nat.lt_of_lt_of_le hs i2.1, by rw [hsx, hself]⟩ q.1)]
      exact ih
    · have hgg : gPl v F fm nh nj x k h = true ↔ gC E0 F fm (pB (eM v) (-1)) nh nj (dig 11 fm x) k h = true := by
        unfold gPl gC; rw [decide_eq_true_iff, decide_eq_true_iff, hfg]; exact ⟨fun q => q.2, fun q => ⟨e, q⟩⟩
      by_cases z : gPl v F fm nh nj x k h = true
      · rw [if_pos z]
        unfold mtL
        by_cases w : hasC (bfH (gPl v F fm nh nj) (cPl fm) (bPl F) L s x k h) (cPl fm x k h) = true
        · obtain ⟨i, i5, i6⟩ := hasC_iff.mp w
          rw [if_pos w, if_neg (fun q => (ih.2.2.1 _ (rc_lt hn hy)).mpr ⟨i, i5, by rw [i6]⟩ q.1)]
          exact ih
        · have hu : (lnH (gC E0 F fm (pB (eM v) (-1)) nh nj (dig 11 fm x)) (rc fm x) k S h).2.1 (rc fm (cPl fm x k h)) = -1 := Classical.byContradiction fun q => by
            obtain ⟨i, i5, i6⟩ := (ih.2.2.1 _ (rc_lt hn hy)).mp q
            exact w (hasC_iff.mpr ⟨i, i5, rc_inj hn (hV i i5) hy i6⟩)
          rw [if_neg w, if_pos ⟨hu, hgg.mp z⟩]
          exact ih.see hn hm hV i1.PI (Nat.lt_of_lt_of_le hs i2.1) hsx hy hu
      · rw [if_neg z, if_neg (fun q => z (hgg.mpr q.2))]
        exact ih
theorem CR.goK {L : List (Nat × Nat × Nat)} {S : L3} {s x : Nat} (hA : agE E0 (eM v) nh nj) (hW : mF v nh nj) (hF : Fok F fm nj) (hm : fm ≤ 4) (h0 : Vd fm nh (enc 11 (dg v F) fm)) (hG : GLp v F fm nh nj L) (hC : CR fm L S) (hs : s < L.length) (hx : (gt L s).1 = x) : ∀ {k : Nat}, k ≤ fm → CR fm (bfK (gPl v F fm nh nj) (cPl fm) (bPl F) nh L s x k) (lnK (gC E0 F fm (pB (eM v) (-1)) nh nj (dig 11 fm x)) (aC 10 (dig 11 fm x)) (rc fm x) nh S k)
  | 0, _ => hC
  | k + 1, hk => by
    have ih := CR.goK hA hW hF hm h0 hG hC hs hx (k := k) (by omega)
    obtain ⟨i1, i2, i3⟩ := bfK_all (k := k) hG hs hx (by omega)
    rw [bfK, lnK, if_pos (show aC 10 (dig 11 fm x) k = true from decide_eq_true (Or.inl rfl))]
    exact CR.goH hA hW hF hm h0 i1 ih (Nat.lt_of_lt_of_le hs i2.1) ((congrArg Prod.fst (i2.2 s hs)).trans hx) (by omega) (Nat.le_refl nh)
theorem CR.start {l f : Nat → Int32} (hn : nh ≤ 10) (hm : fm ≤ 4) (h0 : Vd fm nh (enc 11 (dg v F) fm)) : CR fm (vPl v F fm nh nj 0).2 (upd l 0 (nI (rc fm (enc 11 (dg v F) fm))), upd (fil (10 ^ fm) (-1) f) (rc fm (enc 11 (dg v F) fm)) (nI (rc fm (enc 11 (dg v F) fm))), 1) := by
  have h10 := (pow10 (show fm < 5 by omega)).2
  have hx := rc_lt hn h0
  refine ⟨rfl, fun i hi => ?_, fun x hx2 => ?_, fun i h1 h2 => ?_⟩
  · have hi : i < 1 := hi
    have e : i = 0 := by omega
    subst e
    show upd l 0 (nI (rc fm (enc 11 (dg v F) fm))) 0 = nI (rc fm (enc 11 (dg v F) fm))
    rw [ups]
  · show ¬ upd _ _ _ x = -1 ↔ _
    by_cases e : x = rc fm (enc 11 (dg v F) fm)
    · rw [e, ups]; exact ⟨fun _ => ⟨0, by show 0 < 1; omega, rfl⟩, fun _ q => nI_nm1 (by omega) q.symm⟩
    · rw [upn e, show fil (10 ^ fm) (-1) f x = -1 from if_pos hx2]
      refine ⟨fun q => absurd rfl q, fun ⟨i, i1, i2⟩ => ?_⟩
      have i1 : i < 1 := i1
      have e0 : i = 0 := by omega
      subst e0
      exact absurd i2.symm e
  · have h2 : i < 1 := h2; omega
/-- the goal -/
def tgD (v : Nat → Int32) (F : Nat → Nat) (k : Nat) : Nat := cN (eM v 14 (F k))
theorem gl_iff {x : Nat} (hn : nh ≤ 10) (hx : Vd fm nh x) (ht : ∀ k, k < fm → eM v 14 (F k) = nI (tgD v F k) ∧ tgD v F k < nh) : rc fm x = enc 10 (tgD v F) fm ↔ gl v F fm x := by
  have h10 : ∀ k, k < fm → tgD v F k < 10 := fun k hk => by have := (ht k hk).2; omega
  constructor
  · intro e k hk
    rw [(ht k hk).1, ← rc_dig hn hx hk, e, enc_dig (by decide) h10 hk]
  · intro h
    refine enc_congr (fun k hk => ?_)
    have a := h k hk
    rw [(ht k hk).1] at a
    have b := hx.2 k hk; have c := (ht k hk).2
    exact (nI_eq (by omega) (by omega)).mp a
end CP
