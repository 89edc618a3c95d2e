/-! ===== FALLOUT: the latest seen is looked at first ===== -/
def cen (fz : Nat) (p : Nat → Nat) (fm : Nat) : Nat := enc 10 (fun k => dz fz (p k)) fm
theorem dz_lt {nh fm fz k : Nat} {p : Nat → Nat} (hn : nh ≤ 10) (hf : fz < 10) (hp : OKP nh fm fz p) (hk : k < fm) : dz fz (p k) < 10 := by
  unfold dz; split
  · exact hf
  · rcases hp k hk with q | q <;> omega
theorem cen_lt {nh fm fz : Nat} {p : Nat → Nat} (hn : nh ≤ 10) (hf : fz < 10) (hp : OKP nh fm fz p) : cen fz p fm < 10 ^ fm := enc_lt (by decide) (fun _ hk => dz_lt hn hf hp hk)
theorem cen_dig {nh fm fz k : Nat} {p : Nat → Nat} (hn : nh ≤ 10) (hf : fz < 10) (hp : OKP nh fm fz p) (hk : k < fm) : cen fz p fm / 10 ^ k % 10 = dz fz (p k) := enc_dig (by decide) (fun _ hk => dz_lt hn hf hp hk) hk
theorem dz_inj {nh fz x y : Nat} (hx : x = 10 ∨ (x < nh ∧ x ≠ fz)) (hy : y = 10 ∨ (y < nh ∧ y ≠ fz)) (hn : nh ≤ 10) (e : dz fz x = dz fz y) : x = y := by
  unfold dz at e
  by_cases a : x = 10 <;> by_cases b : y = 10
  · omega
  · rw [if_pos a, if_neg b] at e; omega
  · rw [if_neg a, if_pos b] at e; omega
  · rw [if_neg a, if_neg b] at e; omega
theorem cen_inj {nh fm fz : Nat} {p q : Nat → Nat} (hn : nh ≤ 10) (hf : fz < 10) (hp : OKP nh fm fz p) (hq : OKP nh fm fz q) (e : cen fz p fm = cen fz q fm) : ∀ k, k < fm → p k = q k := fun k hk =>
  dz_inj (hp k hk) (hq k hk) hn (by rw [← cen_dig hn hf hp hk, e, cen_dig hn hf hq hk])
theorem enc_pu {d : Nat → Nat} {k h : Nat} : ∀ {n : Nat}, k < n → enc 10 (pu d k h) n + d k * 10 ^ k = enc 10 d n + h * 10 ^ k
  | 0, hk => absurd hk (Nat.not_lt_zero _)
  | n + 1, hk => by
    rw [enc, enc]
    by_cases e : k = n
    · subst e
      have e9 : enc 10 (pu d k h) k = enc 10 d k := enc_congr (fun i hi => by unfold pu; rw [if_neg (by omega)])
      rw [show pu d k h k = h from if_pos rfl, e9]
      omega
    · have := enc_pu (d := d) (k := k) (h := h) (n := n) (by omega)
      rw [show pu d k h n = d n from if_neg (fun q => e q.symm)]
      omega
theorem nxt_enc {d : Nat → Nat} {k h n : Nat} (hd : ∀ i, i < n → d i < 10) (hk : k < n) : nxt (enc 10 d n) k h = enc 10 (pu d k h) n := by
  unfold nxt
  have h1 := dig_le (enc 10 d n) k
  rw [enc_dig (by decide) hd hk] at h1 ⊢
  have := enc_pu (d := d) (k := k) (h := h) hk
  omega
theorem nxt_cen {nh fm fz k h : Nat} {p : Nat → Nat} (hn : nh ≤ 10) (hf : fz < 10) (hp : OKP nh fm fz p) (hk : k < fm) (hh : h < nh) : nxt (cen fz p fm) k h = cen fz (pu p k h) fm := by
  unfold cen
  rw [nxt_enc (fun _ hk => dz_lt hn hf hp hk) hk]
  refine enc_congr (fun i hi => ?_)
  unfold pu
  by_cases e : i = k
  · rw [if_pos e, if_pos e]; unfold dz; rw [if_neg (by omega)]
  · rw [if_neg e, if_neg e]
theorem seeL_new {x bf : Nat} {S : L3} (h : S.2.1 x = -1) (hl : S.2.2 < 10000) : seeL x bf S = (upd S.1 S.2.2 (nI x), upd S.2.1 x (nI bf), S.2.2 + 1) := if_pos ⟨h, hl⟩
theorem seeL_mono {x bf y : Nat} {S : L3} (hb : bf < 2 ^ 31) (h : ¬ S.2.1 y = -1) : ¬ (seeL x bf S).2.1 y = -1 := by
  unfold seeL; split
  case isTrue q =>
    show ¬ upd S.2.1 x (nI bf) y = -1
    by_cases e : y = x
    · subst e; exact absurd q.1 h
    · rw [upn e]; exact h
  case isFalse q => exact h
theorem lnH_mono {g : Nat → Nat → Bool} {x k y : Nat} {S : L3} (hx : x < 2 ^ 31) (h : ¬ S.2.1 y = -1) : ∀ n, ¬ (lnH g x k S n).2.1 y = -1
  | 0 => h
  | n + 1 => by
    rw [lnH]; split
    · exact seeL_mono hx (lnH_mono hx h n)
    · exact lnH_mono hx h n
theorem lnK_mono {g : Nat → Nat → Bool} {a : Nat → Bool} {x nh y : Nat} {S : L3} (hx : x < 2 ^ 31) (h : ¬ S.2.1 y = -1) : ∀ n, ¬ (lnK g a x nh S n).2.1 y = -1
  | 0 => h
  | n + 1 => by
    rw [lnK]; split
    · exact lnH_mono hx (lnK_mono hx h n) nh
    · exact lnK_mono hx h n
section DF
variable (E0 : St) (F : Nat → Nat) (fm : Nat) (P0 : Nat → Int32) (nh nj fz : Nat)
/-- what was seen: s 0 .. s (N-1): first those lined up, then the c looked at -/
def DI (s : Nat → Nat) (N c : Nat) (S : L3) : Prop :=
  (∀ i, i < N → ∃ p, Rch E0 F fm P0 nh nj p ∧ OKP nh fm fz p ∧ s i = cen fz p fm) ∧ (∀ x, x < 10 ^ fm → (¬ S.2.1 x = -1 ↔ ∃ i, i < N ∧ s i = x)) ∧ (∀ i j, i < j → j < N → s i ≠ s j) ∧ S.2.2 + c = N ∧ ∀ i, i < S.2.2 → S.1 i = nI (s i)
/-- of those from b on all ways were looked at, and none is the end -/
def DD (s : Nat → Nat) (N b : Nat) (fr : Nat → Int32) : Prop := ∀ i, b ≤ i → i < N → ∀ p, OKP nh fm fz p → s i = cen fz p fm → (∃ k, k < fm ∧ p k = 10) ∧ ∀ k h, k < fm → h < nh → p k = 10 → fitC E0 F fm P0 nh nj p k h → ¬ fr (cen fz (pu p k h) fm) = -1
end DF
def psh (s : Nat → Nat) (l x : Nat) : Nat → Nat := fun i => if i < l then s i else if i = l then x else s (i - 1)
section DF2
variable {E0 : St} {F : Nat → Nat} {fm : Nat} {P0 : Nat → Int32} {nh nj fz : Nat}
theorem DI.le {s : Nat → Nat} {N c : Nat} {S : L3} (h : DI E0 F fm P0 nh nj fz s N c S) (hn : nh ≤ 10) (hf : fz < 10) : N ≤ 10 ^ fm :=
  ph (10 ^ fm) N s (fun i hi => by obtain ⟨p, -, p2, p3⟩ := h.1 i hi; rw [p3]; exact cen_lt hn hf p2) h.2.2.1
theorem DI.lt {s : Nat → Nat} {N c x : Nat} {S : L3} (h : DI E0 F fm P0 nh nj fz s N c S) (hn : nh ≤ 10) (hf : fz < 10) (hx : x < 10 ^ fm) (h0 : S.2.1 x = -1) : N < 10 ^ fm := by
  have : N + 1 ≤ 10 ^ fm := ph (10 ^ fm) (N + 1) (fun i => if i < N then s i else x) (fun i hi => by
      show (if i < N then s i else x) < 10 ^ fm
      split
      case isTrue q => obtain ⟨p, -, p2, p3⟩ := h.1 i q; rw [p3]; exact cen_lt hn hf p2
      case isFalse q => exact hx) (fun i j hij hj => by
      show (if i < N then s i else x) ≠ (if j < N then s j else x)
      rw [if_pos (by omega)]
      split
      case isTrue q => exact h.2.2.1 i j hij q
      case isFalse q => exact fun e => (h.2.1 x hx).mpr ⟨i, by omega, e⟩ h0)
  omega
theorem DI.push {s : Nat → Nat} {N c bf : Nat} {S : L3} {p : Nat → Nat} (h : DI E0 F fm P0 nh nj fz s N c S) (hn : nh ≤ 10) (hf : fz < 10) (hm : fm ≤ 4) (hb : bf < 2 ^ 31) (hp : Rch E0 F fm P0 nh nj p) (ho : OKP nh fm fz p) (h0 : S.2.1 (cen fz p fm) = -1) :
    DI E0 F fm P0 nh nj fz (psh s S.2.2 (cen fz p fm)) (N + 1) c (seeL (cen fz p fm) bf S) := by
  have hx := cen_lt hn hf ho
  have hlt := h.lt hn hf hx h0
  have h4 := (pow10 (show fm < 5 by omega)).2
  obtain ⟨h1, h2, h3, h5, h6⟩ := h
  rw [seeL_new h0 (by omega)]
  refine ⟨fun i hi => ?_, fun y hy => ?_, fun i j hij hj => ?_, ?_, fun i hi => ?_⟩
  · unfold psh
    by_cases a : i < S.2.2
    · rw [if_pos a]; exact h1 i (by omega)
    · rw [if_neg a]
      by_cases b : i = S.2.2
      · rw [if_pos b]; exact ⟨p, hp, ho, rfl⟩
      · rw [if_neg b]; exact h1 (i - 1) (by omega)
  · show ¬ upd S.2.1 (cen fz p fm) (nI bf) y = -1 ↔ _
    by_cases e : y = cen fz p fm
    · subst e; rw [ups]
      refine ⟨fun _ => ⟨S.2.2, by omega, ?_⟩, fun _ q => nI_nm1 hb q.symm⟩
      unfold psh; rw [if_neg (Nat.lt_irrefl _), if_pos rfl]
    · rw [upn e, h2 y hy]
      constructor
      · rintro ⟨i, i1, i2⟩
        by_cases a : i < S.2.2
        · exact ⟨i, by omega, by unfold psh; rw [if_pos a]; exact i2⟩
        · exact ⟨i + 1, by omega, by unfold psh; rw [if_neg (by omega), if_neg (by omega)]; exact i2⟩
      · rintro ⟨i, i1, i2⟩
        unfold psh at i2
        by_cases a : i < S.2.2
        · rw [if_pos a] at i2; exact ⟨i, by omega, i2⟩
        · rw [if_neg a] at i2
          by_cases b : i = S.2.2
          · rw [if_pos b] at i2; exact absurd i2.symm e
          · rw [if_neg b] at i2; exact ⟨i - 1, by omega, i2⟩
  · have hnx : ∀ i, i < N → s i ≠ cen fz p fm := fun i hi e => (h2 _ hx).mpr ⟨i, hi, e⟩ h0
    unfold psh
    by_cases a : i < S.2.2
    · rw [if_pos a]
      by_cases b : j < S.2.2
      · rw [if_pos b]; exact h3 i j hij (by omega)
      · rw [if_neg b]
        by_cases d : j = S.2.2
        · rw [if_pos d]; exact hnx i (by omega)
        · rw [if_neg d]; exact h3 i (j - 1) (by omega) (by omega)
    · rw [if_neg a, if_neg (show ¬ j < S.2.2 by omega), if_neg (show ¬ j = S.2.2 by omega)]
      by_cases d : i = S.2.2
      · rw [if_pos d]; exact fun q => hnx (j - 1) (by omega) q.symm
      · rw [if_neg d]; exact h3 (i - 1) (j - 1) (by omega) (by omega)
  · show S.2.2 + 1 + c = N + 1; omega
  · show upd S.1 S.2.2 (nI (cen fz p fm)) i = _
    have hi : i < S.2.2 + 1 := hi
    unfold psh
    by_cases a : i < S.2.2
    · rw [if_pos a, upn (by omega)]; exact h6 i a
    · have : i = S.2.2 := by omega
      subst this
      rw [ups, if_neg a, if_pos rfl]
theorem DD.push {s : Nat → Nat} {N b bf x : Nat} {S : L3} (h : DD E0 F fm P0 nh nj fz s N b S.2.1) (hb : bf < 2 ^ 31) (hl : S.2.2 ≤ b) : DD E0 F fm P0 nh nj fz (psh s S.2.2 x) (N + 1) (b + 1) (seeL x bf S).2.1 := fun i hi1 hi2 p ho e => by
  unfold psh at e
  rw [if_neg (by omega), if_neg (by omega)] at e
  obtain ⟨a1, a2⟩ := h (i - 1) (by omega) (by omega) p ho e
  exact ⟨a1, fun k x hk hx hpk hf => seeL_mono hb (a2 k x hk hx hpk hf)⟩
/-- while the ways from q are looked at: q is behind those lined up; those behind q are done -/
def DM (E0 : St) (F : Nat → Nat) (fm : Nat) (P0 : Nat → Int32) (nh nj fz : Nat) (q : Nat → Nat) (s : Nat → Nat) (N c : Nat) (S : L3) : Prop :=
  DI E0 F fm P0 nh nj fz s N c S ∧ DD E0 F fm P0 nh nj fz s N (S.2.2 + 1) S.2.1 ∧ s S.2.2 = cen fz q fm ∧ 0 < c
theorem DM.see {q s : Nat → Nat} {N c k h : Nat} {S : L3} (hM : DM E0 F fm P0 nh nj fz q s N c S) (hn : nh ≤ 10) (hf : fz < 10) (hm : fm ≤ 4) (hd : E0 4 fz = 0) (hq : Rch E0 F fm P0 nh nj q) (ho : OKP nh fm fz q) (hk : k < fm) (hh : h < nh) (hqk : q k = 10) (hg : gC E0 F fm P0 nh nj q k h = true) (h0 : S.2.1 (nxt (cen fz q fm) k h) = -1) :
    ∃ s' N', DM E0 F fm P0 nh nj fz q s' N' c (seeL (nxt (cen fz q fm) k h) (cen fz q fm) S) := by
  obtain ⟨h1, h2, h3, h4⟩ := hM
  have hfit : fitC E0 F fm P0 nh nj q k h := of_decide_eq_true hg
  have hne : h ≠ fz := fun e => by
    subst e
    unfold fitC m_why at hfit
    rw [if_pos hd] at hfit
    exact absurd hfit (by decide)
  have hx := cen_lt hn hf ho
  have h10 := (pow10 (show fm < 5 by omega)).2
  have ho2 : OKP nh fm fz (pu q k h) := ho.put (Or.inr ⟨hh, hne⟩)
  rw [nxt_cen hn hf ho hk hh] at h0 ⊢
  have hlt := h1.lt hn hf (cen_lt hn hf ho2) h0
  have h5 := h1.2.2.2.1
  refine ⟨_, _, h1.push hn hf hm (by omega) (hq.n hk hh hqk hfit) ho2 h0, ?_, ?_, h4⟩
  · have := h2.push (bf := cen fz q fm) (x := cen fz (pu q k h) fm) (by omega) (Nat.le_succ _)
    rw [seeL_new h0 (by omega)] at this ⊢
    exact this
  · rw [seeL_new h0 (by omega)]
    show psh s S.2.2 _ (S.2.2 + 1) = _
    unfold psh; rw [if_neg (by omega), if_neg (by omega), Nat.add_sub_cancel]; exact h3
theorem DM.goH {q s : Nat → Nat} {N c k : Nat} {S : L3} (hM : DM E0 F fm P0 nh nj fz q s N c S) (hn : nh ≤ 10) (hf : fz < 10) (hm : fm ≤ 4) (hd : E0 4 fz = 0) (hq : Rch E0 F fm P0 nh nj q) (ho : OKP nh fm fz q) (hk : k < fm) (hqk : q k = 10) : ∀ n, n ≤ nh → ∃ s' N', DM E0 F fm P0 nh nj fz q s' N' c (lnH (gC E0 F fm P0 nh nj q) (cen fz q fm) k S n)
  | 0, _ => ⟨s, N, hM⟩
  | n + 1, hl => by
    obtain ⟨s', N', h'⟩ := DM.goH hM hn hf hm hd hq ho hk hqk n (by omega)
    rw [lnH]
    split
    case isTrue z => exact h'.see hn hf hm hd hq ho hk (by omega) hqk z.2 z.1
    case isFalse z => exact ⟨s', N', h'⟩
theorem DM.goK {q s : Nat → Nat} {N c : Nat} {S : L3} (hM : DM E0 F fm P0 nh nj fz q s N c S) (hn : nh ≤ 10) (hf : fz < 10) (hm : fm ≤ 4) (hd : E0 4 fz = 0) (hq : Rch E0 F fm P0 nh nj q) (ho : OKP nh fm fz q) : ∀ n, n ≤ fm → ∃ s' N', DM E0 F fm P0 nh nj fz q s' N' c (lnK (gC E0 F fm P0 nh nj q) (aC fz q) (cen fz q fm) nh S n)
  | 0, _ => ⟨s, N, hM⟩
  | n + 1, hl => by
    obtain ⟨s', N', h'⟩ := DM.goK hM hn hf hm hd hq ho n (by omega)
    rw [lnK]
    split
    case isTrue z => exact h'.goH hn hf hm hd hq ho (by omega) ((of_decide_eq_true z).resolve_left (by omega)) nh (Nat.le_refl _)
    case isFalse z => exact ⟨s', N', h'⟩
end DF2
theorem lnH_seen' {g : Nat → Nat → Bool} {x k h nh : Nat} {S : L3} (hx : x < 2 ^ 31) (hg : g k h = true) (hl : ∀ n, n ≤ nh → ((lnH g x k S n).2.2 < 10000 ∨ ¬ (lnH g x k S n).2.1 (nxt x k h) = -1)) : ∀ n, h < n → n ≤ nh → ¬ (lnH g x k S n).2.1 (nxt x k h) = -1
  | 0, hn, _ => absurd hn (Nat.not_lt_zero _)
  | n + 1, hn, hl2 => by
    by_cases e : h = n
    · subst e
      rw [lnH]
      by_cases q : (lnH g x k S h).2.1 (nxt x k h) = -1
      · rw [if_pos ⟨q, hg⟩, seeL_new q ((hl h (by omega)).resolve_right (fun z => z q))]
        show ¬ upd _ _ _ _ = -1
        rw [ups]; exact fun z => nI_nm1 hx z.symm
      · rw [if_neg (fun z => q z.1)]; exact q
    · have ih := lnH_seen' hx hg hl n (by omega) (by omega)
      rw [lnH]; split
      · exact seeL_mono hx ih
      · exact ih
section DF3
variable {E0 : St} {F : Nat → Nat} {fm : Nat} {P0 : Nat → Int32} {nh nj fz : Nat}
theorem fit_ne {q : Nat → Nat} {k h : Nat} (hd : E0 4 fz = 0) (hf : fitC E0 F fm P0 nh nj q k h) : h ≠ fz := fun e => by
  subst e
  unfold fitC m_why at hf
  rw [if_pos hd] at hf
  exact absurd hf (by decide)
theorem Rch.okp {p : Nat → Nat} (hd : E0 4 fz = 0) (h : Rch E0 F fm P0 nh nj p) : OKP nh fm fz p := h (OKP nh fm fz) (fun _ _ => Or.inl rfl) (fun _ _ _ hq _ hh _ hf => hq.put (Or.inr ⟨hh, fit_ne hd hf⟩))
theorem DM.room {q s : Nat → Nat} {N c x : Nat} {S : L3} (hM : DM E0 F fm P0 nh nj fz q s N c S) (hn : nh ≤ 10) (hf : fz < 10) (hm : fm ≤ 4) (hx : x < 10 ^ fm) : S.2.2 < 10000 ∨ ¬ S.2.1 x = -1 := by
  by_cases e : S.2.1 x = -1
  · have := hM.1.lt hn hf hx e
    have h5 := hM.1.2.2.2.1
    have h10 := (pow10 (show fm < 5 by omega)).2
    exact Or.inl (by omega)
  · exact Or.inr e
theorem DM.seen {q s : Nat → Nat} {N c k h : Nat} {S : L3} (hM : DM E0 F fm P0 nh nj fz q s N c S) (hn : nh ≤ 10) (hf : fz < 10) (hm : fm ≤ 4) (hd : E0 4 fz = 0) (hq : Rch E0 F fm P0 nh nj q) (ho : OKP nh fm fz q) (hk : k < fm) (hh : h < nh) (hqk : q k = 10) (hg : fitC E0 F fm P0 nh nj q k h) : ∀ n, n ≤ fm → k < n → ¬ (lnK (gC E0 F fm P0 nh nj q) (aC fz q) (cen fz q fm) nh S n).2.1 (cen fz (pu q k h) fm) = -1
  | 0, _, hn => absurd hn (Nat.not_lt_zero _)
  | n + 1, hl, hkn => by
    have hx := cen_lt hn hf ho
    have h10 := (pow10 (show fm < 5 by omega)).2
    have hne := fit_ne hd hg
    by_cases e : k = n
    · subst e
      rw [lnK, if_pos (show aC fz q k = true from decide_eq_true (Or.inr hqk))]
      obtain ⟨s', N', h'⟩ := DM.goK hM hn hf hm hd hq ho k (by omega)
      rw [← nxt_cen hn hf ho hk hh]
      refine lnH_seen' (by omega) (decide_eq_true hg) (fun j hj => ?_) nh hh (Nat.le_refl _)
      obtain ⟨s2, N2, h2⟩ := h'.goH hn hf hm hd hq ho hk hqk j hj
      exact h2.room hn hf hm (by rw [nxt_cen hn hf ho hk hh]; exact cen_lt hn hf (ho.put (Or.inr ⟨hh, hne⟩)))
    · have ih := DM.seen hM hn hf hm hd hq ho hk hh hqk hg n (by omega) (by omega)
      rw [lnK]; split
      · exact lnH_mono (by omega) ih nh
      · exact ih
theorem cen_congr {p q : Nat → Nat} (e : ∀ k, k < fm → p k = q k) : cen fz p fm = cen fz q fm := enc_congr (fun k hk => by rw [e k hk])
/-- one is looked at: what is lined up behind it -/
theorem DI.look {q s : Nat → Nat} {N c n : Nat} {l f : Nat → Int32} (h : DI E0 F fm P0 nh nj fz s N c (l, f, n + 1)) (hD : DD E0 F fm P0 nh nj fz s N (n + 1) f) (hn : nh ≤ 10) (hf : fz < 10) (hm : fm ≤ 4) (hd : E0 4 fz = 0) (hq : Rch E0 F fm P0 nh nj q) (ho : OKP nh fm fz q) (hs : s n = cen fz q fm) (hz : ∃ k, k < fm ∧ q k = 10) :
    ∃ s' N', DI E0 F fm P0 nh nj fz s' N' (c + 1) (lnK (gC E0 F fm P0 nh nj q) (aC fz q) (cen fz q fm) nh (l, f, n) fm) ∧ DD E0 F fm P0 nh nj fz s' N' (lnK (gC E0 F fm P0 nh nj q) (aC fz q) (cen fz q fm) nh (l, f, n) fm).2.2 (lnK (gC E0 F fm P0 nh nj q) (aC fz q) (cen fz q fm) nh (l, f, n) fm).2.1 := by
  obtain ⟨h1, h2, h3, h5, h6⟩ := h
  have hM : DM E0 F fm P0 nh nj fz q s N (c + 1) (l, f, n) := ⟨⟨h1, h2, h3, by have : n + 1 + c = N := h5; show n + (c + 1) = N; omega, fun i hi => h6 i (Nat.lt_succ_of_lt hi)⟩, hD, hs, Nat.succ_pos c⟩
  obtain ⟨s', N', hM'⟩ := DM.goK hM hn hf hm hd hq ho fm (Nat.le_refl _)
  refine ⟨s', N', hM'.1, fun i hi1 hi2 p hp e => ?_⟩
  by_cases z : i = (lnK (gC E0 F fm P0 nh nj q) (aC fz q) (cen fz q fm) nh (l, f, n) fm).2.2
  · subst z
    have e2 := cen_inj hn hf ho hp (hM'.2.2.1.symm.trans e)
    obtain ⟨k, k1, k2⟩ := hz
    refine ⟨⟨k, k1, by rw [← e2 k k1]; exact k2⟩, fun k x hk hx hpk hfit => ?_⟩
    rw [cen_congr (p := pu p k x) (q := pu q k x) (fun i hi => by unfold pu; rw [e2 i hi])]
    exact DM.seen hM hn hf hm hd hq ho hk hx (by rw [e2 k hk]; exact hpk) ((fitC_congr e2).mpr hfit) fm (Nat.le_refl _) hk
  · exact hM'.2.1 i (by omega) hi2 p hp e
theorem DI.no {s : Nat → Nat} {N c : Nat} {S : L3} (h : DI E0 F fm P0 nh nj fz s N c S) (hD : DD E0 F fm P0 nh nj fz s N S.2.2 S.2.1) (hl : S.2.2 = 0) (hn : nh ≤ 10) (hf : fz < 10) (hd : E0 4 fz = 0) (h0 : ¬ S.2.1 (cen fz (fun _ => 10) fm) = -1) : ¬ Saf E0 F fm P0 nh nj := by
  rintro ⟨p, hp, hall⟩
  have key := hp (fun q => OKP nh fm fz q ∧ ¬ S.2.1 (cen fz q fm) = -1) ⟨fun _ _ => Or.inl rfl, h0⟩ (fun q k x hq hk hx hqk hfit => by
    obtain ⟨i, i1, i2⟩ := (h.2.1 _ (cen_lt hn hf hq.1)).mp hq.2
    exact ⟨hq.1.put (Or.inr ⟨hx, fit_ne hd hfit⟩), (hD i (by omega) i1 q hq.1 i2).2 k x hk hx hqk hfit⟩)
  obtain ⟨i, i1, i2⟩ := (h.2.1 _ (cen_lt hn hf key.1)).mp key.2
  obtain ⟨k, k1, k2⟩ := (hD i (by omega) i1 p key.1 i2).1
  exact hall k k1 k2
theorem DI.start {l f : Nat → Int32} (hn : nh ≤ 10) (hf : fz < 10) (hm : fm ≤ 4) : DI E0 F fm P0 nh nj fz (fun _ => cen fz (fun _ => 10) fm) 1 0 (upd l 0 (nI (cen fz (fun _ => 10) fm)), upd (fil (10 ^ fm) (-1) f) (cen fz (fun _ => 10) fm) (nI (cen fz (fun _ => 10) fm)), 1) := by
  have h10 := (pow10 (show fm < 5 by omega)).2
  have hx := cen_lt (fz := fz) (p := fun _ => 10) (fm := fm) hn hf (fun _ _ => Or.inl rfl)
  refine ⟨fun i hi => ⟨_, Rch.z, fun _ _ => Or.inl rfl, rfl⟩, fun x hx2 => ?_, fun i j h1 h2 => by omega, rfl, fun i hi => ?_⟩
  · show ¬ upd _ _ _ x = -1 ↔ _
    by_cases e : x = cen fz (fun _ => 10) fm
    · rw [e, ups]; exact ⟨fun _ => ⟨0, by omega, rfl⟩, fun _ q => nI_nm1 (by omega) q.symm⟩
    · rw [upn e, show fil (10 ^ fm) (-1) f x = -1 from if_pos hx2]
      exact ⟨fun q => absurd rfl q, fun ⟨i, _, i2⟩ => absurd i2.symm e⟩
  · have hi : i < 1 := hi
    have e : i = 0 := by omega
    subst e
    show upd l 0 (nI (cen fz (fun _ => 10) fm)) 0 = nI (cen fz (fun _ => 10) fm)
    rw [ups]
end DF3
theorem fz_dig {nh fz x : Nat} (hn : nh ≤ 10) (hf : fz < 10) (hx : x = 10 ∨ (x < nh ∧ x ≠ fz)) (e : nI (dz fz x) = plc fz) : x = 10 := by
  refine Classical.byContradiction fun q => ?_
  have hx := hx.resolve_left q
  unfold dz plc at e
  rw [if_neg q, if_neg (by omega)] at e
  exact hx.2 ((nI_eq (by omega) (by omega)).mp e)
