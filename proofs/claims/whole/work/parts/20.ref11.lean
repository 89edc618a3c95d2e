/-! ===== what's seen, level by level ===== -/
def gt (L : List (Nat × Nat × Nat)) (i : Nat) : Nat × Nat × Nat := (L[i]?).getD (0, 0, 0)
def hasC (L : List (Nat × Nat × Nat)) (x : Nat) : Bool := L.any (fun y => y.1 == x)
def mtL (L : List (Nat × Nat × Nat)) (y : Nat × Nat × Nat) : List (Nat × Nat × Nat) := if hasC L y.1 then L else L ++ [y]
theorem gt_l {l r : List (Nat × Nat × Nat)} {i : Nat} (h : i < l.length) : gt (l ++ r) i = gt l i := by unfold gt; rw [List.getElem?_append_left h]
theorem gt_r {l : List (Nat × Nat × Nat)} {x : Nat × Nat × Nat} {i : Nat} (h : i = l.length) : gt (l ++ [x]) i = x := by subst h; unfold gt; rw [List.getElem?_append_right (Nat.le_refl _), Nat.sub_self]; rfl
theorem hasC_iff {L : List (Nat × Nat × Nat)} {x : Nat} : hasC L x = true ↔ ∃ i, i < L.length ∧ (gt L i).1 = x := by
  unfold hasC
  rw [List.any_eq_true]
  constructor
  · rintro ⟨y, h1, h2⟩
    obtain ⟨i, hi, e⟩ := List.getElem_of_mem h1
    refine ⟨i, hi, ?_⟩
    unfold gt; rw [List.getElem?_eq_getElem hi, e]
    exact eq_of_beq h2
  · rintro ⟨i, hi, e⟩
    refine ⟨L[i], List.getElem_mem hi, ?_⟩
    unfold gt at e; rw [List.getElem?_eq_getElem hi] at e
    exact beq_iff_eq.mpr e
def Pre (L K : List (Nat × Nat × Nat)) : Prop := L.length ≤ K.length ∧ ∀ i, i < L.length → gt K i = gt L i
theorem Pre.rf {L : List (Nat × Nat × Nat)} : Pre L L := ⟨Nat.le_refl _, fun _ _ => rfl⟩
theorem Pre.tr {L K J : List (Nat × Nat × Nat)} (h : Pre L K) (h' : Pre K J) : Pre L J := ⟨Nat.le_trans h.1 h'.1, fun i hi => (h'.2 i (Nat.lt_of_lt_of_le hi h.1)).trans (h.2 i hi)⟩
theorem Pre.mt {L : List (Nat × Nat × Nat)} {y : Nat × Nat × Nat} : Pre L (mtL L y) := by
  unfold mtL; split
  · exact Pre.rf
  · exact ⟨by rw [List.length_append]; omega, fun i hi => gt_l hi⟩
section BF
variable (g : Nat → Nat → Nat → Bool) (cd : Nat → Nat → Nat → Nat) (b : Nat → Nat → Nat) (m nh r0 : Nat)
def bfH (L : List (Nat × Nat × Nat)) (s x k : Nat) : Nat → List (Nat × Nat × Nat)
  | 0 => L
  | h + 1 => if g x k h then mtL (bfH L s x k h) (cd x k h, s, b k h) else bfH L s x k h
def bfK (L : List (Nat × Nat × Nat)) (s x : Nat) : Nat → List (Nat × Nat × Nat)
  | 0 => L
  | k + 1 => bfH g cd b (bfK L s x k) s x k nh
def bfS (L : List (Nat × Nat × Nat)) (lo : Nat) : Nat → List (Nat × Nat × Nat)
  | 0 => L
  | n + 1 => bfK g cd b nh (bfS L lo n) (lo + n) (gt (bfS L lo n) (lo + n)).1 m
def bfV : Nat → Nat × List (Nat × Nat × Nat)
  | 0 => (0, [(r0, 0, 0)])
  | d + 1 => ((bfV d).2.length, bfS g cd b m nh (bfV d).2 (bfV d).1 ((bfV d).2.length - (bfV d).1))
/-- a list of what's seen: none twice, each but the first from an earlier one -/
def GL (L : List (Nat × Nat × Nat)) : Prop := 0 < L.length ∧ (gt L 0).1 = r0 ∧ (∀ i j, i < j → j < L.length → (gt L i).1 ≠ (gt L j).1) ∧ ∀ i, 0 < i → i < L.length → (gt L i).2.1 < i ∧ ∃ k h, k < m ∧ h < nh ∧ g (gt L (gt L i).2.1).1 k h = true ∧ (gt L i).1 = cd (gt L (gt L i).2.1).1 k h ∧ (gt L i).2.2 = b k h
end BF
section BF2
variable {g : Nat → Nat → Nat → Bool} {cd : Nat → Nat → Nat → Nat} {b : Nat → Nat → Nat} {m nh r0 : Nat}
theorem GL.mt {L : List (Nat × Nat × Nat)} {s k h : Nat} (hL : GL g cd b m nh r0 L) (hs : s < L.length) (hk : k < m) (hh : h < nh) (hg : g (gt L s).1 k h = true) : GL g cd b m nh r0 (mtL L (cd (gt L s).1 k h, s, b k h)) := by
  unfold mtL
  split
  case isTrue q => exact hL
  case isFalse q =>
    obtain ⟨h1, h2, h3, h4⟩ := hL
    have q2 : ∀ i, i < L.length → (gt L i).1 ≠ cd (gt L s).1 k h := fun i hi e => q (hasC_iff.mpr ⟨i, hi, e⟩)
    refine ⟨by rw [List.length_append]; omega, by rw [gt_l h1]; exact h2, fun i j hij hj => ?_, fun i hi hl => ?_⟩
    · rw [List.length_append, List.length_singleton] at hj
      rw [gt_l (show i < L.length by omega)]
      by_cases e : j = L.length
      · rw [gt_r e]; exact q2 i (by omega)
      · rw [gt_l (by omega)]; exact h3 i j hij (by omega)
    · rw [List.length_append, List.length_singleton] at hl
      by_cases e : i = L.length
      · rw [gt_r e]
        exact ⟨by show s < i; omega, k, h, hk, hh, by show g (gt (L ++ _) s).1 k h = true; rw [gt_l hs]; exact hg, by show _ = cd (gt (L ++ _) s).1 k h; rw [gt_l hs], rfl⟩
      · rw [gt_l (show i < L.length by omega)]
        have a := h4 i hi (by omega)
        rw [gt_l (show (gt L i).2.1 < L.length by omega)]
        exact a
theorem bfH_all {L : List (Nat × Nat × Nat)} {s x k : Nat} (hL : GL g cd b m nh r0 L) (hs : s < L.length) (hx : (gt L s).1 = x) (hk : k < m) : ∀ {h : Nat}, h ≤ nh → GL g cd b m nh r0 (bfH g cd b L s x k h) ∧ Pre L (bfH g cd b L s x k h) ∧ ∀ i, L.length ≤ i → i < (bfH g cd b L s x k h).length → (gt (bfH g cd b L s x k h) i).2.1 = s
  | 0, _ => ⟨hL, Pre.rf, fun i h1 h2 => absurd h2 (Nat.not_lt.mpr h1)⟩
  | h + 1, hh => by
    obtain ⟨i1, i2, i3⟩ := bfH_all hL hs hx hk (h := h) (by omega)
    rw [bfH]
    split
    case isFalse q => exact ⟨i1, i2, i3⟩
    case isTrue q =>
      have e := (congrArg Prod.fst (i2.2 s hs)).trans hx
      refine ⟨by have := i1.mt (s := s) (k := k) (h := h) (Nat.lt_of_lt_of_le hs i2.1) hk hh (by rw [e]; exact q); rw [e] at this; exact this, i2.tr Pre.mt, fun i h1 h2 => ?_⟩
      unfold mtL at h2 ⊢
      split
      case isTrue z => rw [if_pos z] at h2; exact i3 i h1 h2
      case isFalse z =>
        rw [if_neg z, List.length_append, List.length_singleton] at h2
        by_cases e2 : i = (bfH g cd b L s x k h).length
        · rw [gt_r e2]
        · rw [gt_l (by omega)]; exact i3 i h1 (by omega)
theorem bfK_all {L : List (Nat × Nat × Nat)} {s x : Nat} (hL : GL g cd b m nh r0 L) (hs : s < L.length) (hx : (gt L s).1 = x) : ∀ {k : Nat}, k ≤ m → GL g cd b m nh r0 (bfK g cd b nh L s x k) ∧ Pre L (bfK g cd b nh L s x k) ∧ ∀ i, L.length ≤ i → i < (bfK g cd b nh L s x k).length → (gt (bfK g cd b nh L s x k) i).2.1 = s
  | 0, _ => ⟨hL, Pre.rf, fun i h1 h2 => absurd h2 (Nat.not_lt.mpr h1)⟩
  | k + 1, hk => by
    obtain ⟨i1, i2, i3⟩ := bfK_all hL hs hx (k := k) (by omega)
    obtain ⟨j1, j2, j3⟩ := bfH_all (k := k) i1 (Nat.lt_of_lt_of_le hs i2.1) ((congrArg Prod.fst (i2.2 s hs)).trans hx) (by omega) (Nat.le_refl nh)
    rw [bfK]
    refine ⟨j1, i2.tr j2, fun i h1 h2 => ?_⟩
    rcases Nat.lt_or_ge i (bfK g cd b nh L s x k).length with z | z
    · rw [j2.2 i z]; exact i3 i h1 z
    · exact j3 i z h2
theorem bfS_all {L : List (Nat × Nat × Nat)} {lo : Nat} (hL : GL g cd b m nh r0 L) : ∀ {n : Nat}, lo + n ≤ L.length → GL g cd b m nh r0 (bfS g cd b m nh L lo n) ∧ Pre L (bfS g cd b m nh L lo n) ∧ ∀ i, L.length ≤ i → i < (bfS g cd b m nh L lo n).length → lo ≤ (gt (bfS g cd b m nh L lo n) i).2.1 ∧ (gt (bfS g cd b m nh L lo n) i).2.1 < lo + n
  | 0, _ => ⟨hL, Pre.rf, fun i h1 h2 => absurd h2 (Nat.not_lt.mpr h1)⟩
  | n + 1, hn => by
    obtain ⟨i1, i2, i3⟩ := bfS_all hL (lo := lo) (n := n) (by omega)
    obtain ⟨j1, j2, j3⟩ := bfK_all (s := lo + n) (k := m) i1 (Nat.lt_of_lt_of_le (by omega) i2.1) rfl (Nat.le_refl m)
    rw [bfS]
    refine ⟨j1, i2.tr j2, fun i h1 h2 => ?_⟩
    rcases Nat.lt_or_ge i (bfS g cd b m nh L lo n).length with z | z
    · rw [j2.2 i z]; have := i3 i h1 z; omega
    · rw [j3 i z h2]; omega
theorem bfV_all : ∀ d : Nat, GL g cd b m nh r0 (bfV g cd b m nh r0 d).2 ∧ (bfV g cd b m nh r0 d).1 ≤ (bfV g cd b m nh r0 d).2.length
  | 0 => ⟨⟨by show 0 < 1; omega, rfl, fun i j h1 h2 => absurd h2 (by show ¬ j < 1; omega), fun i h1 h2 => absurd h2 (by show ¬ i < 1; omega)⟩, Nat.zero_le _⟩
  | d + 1 => by
    obtain ⟨i1, i2⟩ := bfV_all d
    obtain ⟨j1, j2, -⟩ := bfS_all (lo := (bfV g cd b m nh r0 d).1) (n := (bfV g cd b m nh r0 d).2.length - (bfV g cd b m nh r0 d).1) i1 (by omega)
    exact ⟨j1, j2.1⟩
theorem bfV_pre (d : Nat) : Pre (bfV g cd b m nh r0 d).2 (bfV g cd b m nh r0 (d + 1)).2 :=
  (bfS_all (lo := (bfV g cd b m nh r0 d).1) (n := (bfV g cd b m nh r0 d).2.length - (bfV g cd b m nh r0 d).1) (bfV_all d).1 (by have := (bfV_all (g := g) (cd := cd) (b := b) (m := m) (nh := nh) (r0 := r0) d).2; omega)).2.1
theorem bfV_pres {d : Nat} : ∀ n : Nat, Pre (bfV g cd b m nh r0 d).2 (bfV g cd b m nh r0 (d + n)).2
  | 0 => Pre.rf
  | n + 1 => (bfV_pres n).tr (bfV_pre (d + n))
/-- the one before is one level lower -/
theorem bfV_up {d i : Nat} (h1 : (bfV g cd b m nh r0 (d + 1)).1 ≤ i) (h2 : i < (bfV g cd b m nh r0 (d + 1)).2.length) : (bfV g cd b m nh r0 d).1 ≤ (gt (bfV g cd b m nh r0 (d + 1)).2 i).2.1 ∧ (gt (bfV g cd b m nh r0 (d + 1)).2 i).2.1 < (bfV g cd b m nh r0 d).2.length := by
  have a := bfV_all (g := g) (cd := cd) (b := b) (m := m) (nh := nh) (r0 := r0) d
  have := (bfS_all (lo := (bfV g cd b m nh r0 d).1) (n := (bfV g cd b m nh r0 d).2.length - (bfV g cd b m nh r0 d).1) a.1 (by omega)).2.2 i h1 h2
  exact ⟨this.1, by have h := this.2; show (gt (bfS _ _ _ _ _ _ _ _) i).2.1 < _; omega⟩
theorem bfV_stop {d : Nat} (h : (bfV g cd b m nh r0 d).1 = (bfV g cd b m nh r0 d).2.length) : ∀ n : Nat, (bfV g cd b m nh r0 (d + n)).2 = (bfV g cd b m nh r0 d).2 ∧ (bfV g cd b m nh r0 (d + n)).1 = (bfV g cd b m nh r0 (d + n)).2.length
  | 0 => ⟨rfl, h⟩
  | n + 1 => by
    obtain ⟨i1, i2⟩ := bfV_stop h n
    have e : bfV g cd b m nh r0 (d + (n + 1)) = ((bfV g cd b m nh r0 (d + n)).2.length, bfS g cd b m nh (bfV g cd b m nh r0 (d + n)).2 (bfV g cd b m nh r0 (d + n)).1 ((bfV g cd b m nh r0 (d + n)).2.length - (bfV g cd b m nh r0 (d + n)).1)) := rfl
    rw [e, i2, Nat.sub_self]
    exact ⟨i1, rfl⟩
/-- what holds of the first and is kept by each step holds of all -/
theorem GL.ind {L : List (Nat × Nat × Nat)} {X : Nat → Prop} (hL : GL g cd b m nh r0 L) (h0 : X r0) (hX : ∀ x k h, X x → k < m → h < nh → g x k h = true → X (cd x k h)) : ∀ i, i < L.length → X (gt L i).1 := by
  intro i
  induction i using Nat.strongRecOn with
  | ind i ih =>
    intro hi
    by_cases e : i = 0
    · subst e; rw [hL.2.1]; exact h0
    · obtain ⟨h1, k, h, hk, hh, hg, he, -⟩ := hL.2.2.2 i (by omega) hi
      rw [he]
      exact hX _ k h (ih _ h1 (by omega)) hk hh hg
end BF2
def anc (L : List (Nat × Nat × Nat)) (s : Nat) : Nat → Nat
  | 0 => s
  | n + 1 => (gt L (anc L s n)).2.1
theorem ball_s {k : Nat} {P : Nat → Prop} : (∀ x, x < k + 1 → P x) ↔ (∀ x, x < k → P x) ∧ P k :=
  ⟨fun h => ⟨fun x q => h x (by omega), h k (by omega)⟩, fun h x q => by
    by_cases e : x = k
    · subst e; exact h.2
    · exact h.1 x (by omega)⟩
set_option maxHeartbeats 4000000 in
set_option maxRecDepth 100000 in
theorem tX11_areThere (l : Launch) (E : EV) (a : Nat → Nat) (τ : St) (nh : Nat) (nj : Nat) (fm : Nat) (F : Nat → Nat) (hW : mF (τ 1) nh nj) (hm : τ 0 4 = nI fm) (hm4 : fm ≤ 4) (hF : ∀ k, k < fm → τ 5 k = nI (F k) ∧ F k < nj) : MI l E (MW E a) yX11_areThere (Cond.code yX11_areThere cX11_areThere 3 (some .boolean)) ({ frames := 0, cells := 0, slots := 0, locals := 0 }) [.ref (a 70)] τ (fun r_ u_ => r_ = (if ∀ x, x < fm → eM (τ 1) 12 (F x) = eM (τ 1) 14 (F x) then (1 : Int32) else 0) ∧ u_ = τ) := by
  refine MI.mk (by decide +kernel) (Nat.le_of_ble_eq_true rfl) ?_
  intro p e s m args below meth c ls A Q hret hC hw hl
  have hC : Cxt E p s m args meth c cX11_areThere 3 (some .boolean) RX11 A := hC
  have hl : lv_has ls 3 [(0, .ref (a 70))] := hl
  have ⟨hnh, hnj, hW0, hW1, hWh⟩ := id hW
  refine lv_iconst (v := nI 1) hC.1 hC.2.1 dX11_areThere_0 (by decide) ?_
  refine lv_istore_n (lv' := [(1, .int (nI 1)), (0, .ref (a 70))]) hC.1 hC.2.1 dX11_areThere_1 rfl hl (by decide) rfl (fun ls hl => ?_)
  refine lv_iconst (v := nI 0) hC.1 hC.2.1 dX11_areThere_2 (by decide) ?_
  refine lv_istore_n (lv' := [(2, .int (nI 0)), (1, .int (nI 1)), (0, .ref (a 70))]) hC.1 hC.2.1 dX11_areThere_3 rfl hl (by decide) rfl (fun ls hl => ?_)
  have L4_0 : ∀ (n : Nat), ∀ (k : Nat), ∀ (al : Int32), (al = (if ∀ x, x < k → eM (τ 1) 12 (F x) = eM (τ 1) 14 (F x) then (1 : Int32) else 0)) → (k ≤ fm) → (fm - k) < n → ∀ (H : Heap) (locs : List Loc) (ls : Array Slot), Wst E (MW E a) (τ) A s.heap H locs → lv_has ls 3 [(0, .ref (a 70)), (1, .int (al)), (2, .int (nI k))] → W p l e ({ frames := 0, cells := 0, slots := 0, locals := 0 }) s m args below meth c H locs 0 0 Q (F0 m 4 ls []) := by
    intro n
    induction n with
    | zero => intro k al q_al hk hn; exact absurd hn (Nat.not_lt_zero _)
    | succ n ih4 =>
      intro k al q_al hk hn4 H locs ls hw hl
      subst q_al
      refine lv_iload_n hC.1 hC.2.1 dX11_areThere_4 rfl (lv_at hl 2 rfl) ?_
      refine lv_aload_n hC.1 hC.2.1 dX11_areThere_5 rfl (lv_at hl 0 rfl) ?_
      refine gf_X11_138 (v := nI fm) hC hw hm dX11_areThere_6 ?_
      refine q_cmpge hC 61 (cNle (by omega) (by omega)) dX11_areThere_9 (by decide) (fun (c2 : fm ≤ k) => ?_) (fun (c2 : k < fm) => ?_)
      · refine lv_iload_n hC.1 hC.2.1 dX11_areThere_61 rfl (lv_at hl 1 rfl) ?_
        refine hret _ _ _ _ _ _ hw ?_ nz_B dX11_areThere_62
        exact ⟨by rw [show k = fm by omega], rfl⟩
      · refine lv_iload_n hC.1 hC.2.1 dX11_areThere_12 rfl (lv_at hl 1 rfl) ?_
        have J54_4 : ∀ (w3 : Int32), w3 = (if (∀ x, x < k → eM (τ 1) 12 (F x) = eM (τ 1) 14 (F x)) ∧ ((eM (τ 1) 12 (F k)) = (eM (τ 1) 14 (F k))) then (1 : Int32) else 0) → ∀ (H : Heap) (locs : List Loc) (ls : Array Slot), Wst E (MW E a) (τ) A s.heap H locs → lv_has ls 3 [(0, .ref (a 70)), (1, .int (if ∀ x, x < k → eM (τ 1) 12 (F x) = eM (τ 1) 14 (F x) then (1 : Int32) else 0)), (2, .int (nI k))] → W p l e ({ frames := 0, cells := 0, slots := 0, locals := 0 }) s m args below meth c H locs 0 0 Q (F0 m 54 ls [.int (w3)]) := by
          intro w3 e4 H locs ls hw hl
          subst e4
          refine lv_istore_n (lv' := [(1, .int (if (∀ x, x < k → eM (τ 1) 12 (F x) = eM (τ 1) 14 (F x)) ∧ ((eM (τ 1) 12 (F k)) = (eM (τ 1) 14 (F k))) then (1 : Int32) else 0)), (0, .ref (a 70)), (2, .int (nI k))]) hC.1 hC.2.1 dX11_areThere_54 rfl hl (by decide) rfl (fun ls hl => ?_)
          refine lv_iinc (v := nI (k + 1)) (lv' := [(2, .int (nI (k + 1))), (1, .int (if (∀ x, x < k → eM (τ 1) 12 (F x) = eM (τ 1) 14 (F x)) ∧ ((eM (τ 1) 12 (F k)) = (eM (τ 1) 14 (F k))) then (1 : Int32) else 0)), (0, .ref (a 70))]) hC.1 hC.2.1 dX11_areThere_55 hl (k := 2) rfl (nI_add _ _) (by decide) rfl (fun ls hl => ?_)
          refine lv_goto (tgt := 4) hC.1 hC.2.1 dX11_areThere_58 (by decide) ?_
          exact ih4 (k + 1) (if (∀ x, x < k → eM (τ 1) 12 (F x) = eM (τ 1) 14 (F x)) ∧ ((eM (τ 1) 12 (F k)) = (eM (τ 1) 14 (F k))) then (1 : Int32) else 0) (by rw [eq_comm]; refine ite_iff ?_; exact ball_s) (by omega) (by omega) _ _ _ hw (lv_sub hl [2, 1, 0] rfl)
        refine q_ifeq hC 53 cB dX11_areThere_13 (by decide) (fun (c5 : ¬ (∀ x, x < k → eM (τ 1) 12 (F x) = eM (τ 1) 14 (F x))) => ?_) (fun (c5 : ∀ x, x < k → eM (τ 1) 12 (F x) = eM (τ 1) 14 (F x)) => ?_)
        · refine lv_iconst (v := nI 0) hC.1 hC.2.1 dX11_areThere_53 (by decide) ?_
          exact J54_4 _ (if_neg (fun q => c5 q.1)).symm _ _ _ hw (lv_sub hl [0, 1, 2] rfl)
        · refine lv_aload_n hC.1 hC.2.1 dX11_areThere_16 rfl (lv_at hl 0 rfl) ?_
          refine gf_X11_7 hC hw dX11_areThere_17 ?_
          refine lv_sipush (v := nI 282) hC.1 hC.2.1 dX11_areThere_20 (by decide) ?_
          refine lv_aload_n hC.1 hC.2.1 dX11_areThere_23 rfl (lv_at hl 0 rfl) ?_
          refine gf_X11_22 hC hw dX11_areThere_24 ?_
          refine lv_iload_n hC.1 hC.2.1 dX11_areThere_27 rfl (lv_at hl 2 rfl) ?_
          have hFx := (hF k (by omega)).2
          refine al_M5 (v := nI (F k)) hC hw (by omega) (hF k (by omega)).1 dX11_areThere_28 ?_
          refine q_addN hC dX11_areThere_29 ?_
          refine al_M1 (v := eM (τ 1) 12 (F k)) hC hw (by omega) (show _ = eM (τ 1) 12 (F k) from congrArg (τ 1) (by omega)) dX11_areThere_30 ?_
          refine lv_aload_n hC.1 hC.2.1 dX11_areThere_31 rfl (lv_at hl 0 rfl) ?_
          refine gf_X11_7 hC hw dX11_areThere_32 ?_
          refine lv_sipush (v := nI 330) hC.1 hC.2.1 dX11_areThere_35 (by decide) ?_
          refine lv_aload_n hC.1 hC.2.1 dX11_areThere_38 rfl (lv_at hl 0 rfl) ?_
          refine gf_X11_22 hC hw dX11_areThere_39 ?_
          refine lv_iload_n hC.1 hC.2.1 dX11_areThere_42 rfl (lv_at hl 2 rfl) ?_
          have hFx := (hF k (by omega)).2
          refine al_M5 (v := nI (F k)) hC hw (by omega) (hF k (by omega)).1 dX11_areThere_43 ?_
          refine q_addN hC dX11_areThere_44 ?_
          refine al_M1 (v := eM (τ 1) 14 (F k)) hC hw (by omega) (show _ = eM (τ 1) 14 (F k) from congrArg (τ 1) (by omega)) dX11_areThere_45 ?_
          refine q_cmpne hC 53 cI dX11_areThere_46 (by decide) (fun (c6 : ¬ ((eM (τ 1) 12 (F k)) = (eM (τ 1) 14 (F k)))) => ?_) (fun (c6 : (eM (τ 1) 12 (F k)) = (eM (τ 1) 14 (F k))) => ?_)
          · refine lv_iconst (v := nI 0) hC.1 hC.2.1 dX11_areThere_53 (by decide) ?_
            exact J54_4 _ (if_neg (fun q => c6 q.2)).symm _ _ _ hw (lv_sub hl [0, 1, 2] rfl)
          · refine lv_iconst (v := nI 1) hC.1 hC.2.1 dX11_areThere_49 (by decide) ?_
            refine lv_goto (tgt := 54) hC.1 hC.2.1 dX11_areThere_50 (by decide) ?_
            exact J54_4 _ (if_pos ⟨c5, c6⟩).symm _ _ _ hw (lv_sub hl [0, 1, 2] rfl)
  exact L4_0 _ 0 (nI 1) (by rw [if_pos (fun x q => absurd q (Nat.not_lt_zero x))]; rfl) (Nat.zero_le _) (Nat.lt_succ_self _) _ _ _ hw (lv_sub hl [2, 1, 0] rfl)
