/-! ===== UNIQUENESS: both sides' answers are the same ===== -/
theorem le_as {a b : Int32} (h : a ≤ b) (h' : b ≤ a) : a = b := by
  rw [Int32.le_iff_toInt_le] at h h'
  exact Int32.toInt_inj.mp (by omega)
theorem FWr.uniq {v : Nat → Int32} {nh nj : Nat} {r r' : Int32} (h : FWr v nh nj r) (h' : FWr v nh nj r') : r = r' := by
  rcases h with ⟨g, e⟩ | ⟨g, h⟩ <;> rcases h' with ⟨g', e'⟩ | ⟨g', h'⟩
  · rw [e, e']
  · omega
  · omega
  · rcases h with ⟨q, a1, a2, a3⟩ | ⟨a1, a2⟩ <;> rcases h' with ⟨q', b1, b2, b3⟩ | ⟨b1, b2⟩
    · rw [a2, b2]; exact le_as (a3 q' b1) (b3 q a1)
    · exact absurd a1 (b1 q)
    · exact absurd b1 (a1 q')
    · rw [a2, b2]
theorem ftA_one {v : Nat → Int32} {nh nj j h i i' : Nat} (hi : i < 3) (hi' : i' < 3) (a : ftA v nh nj j h i) (b : ftA v nh nj j h i') : i = i' := by
  have e := a.1.symm.trans b.1
  have := (nI_eq (by omega) (by omega)).mp e
  omega
theorem BsA.uniq {v : Nat → Int32} {nh nj j n h i h' i' : Nat} (a : BsA v nj j n (ftA v nh nj j) h i) (b : BsA v nj j n (ftA v nh nj j) h' i') : h = h' ∧ i = i' := by
  obtain ⟨a1, a2, a3, a4, a5⟩ := a
  obtain ⟨b1, b2, b3, b4, b5⟩ := b
  have e : h = h' := by
    rcases Nat.lt_trichotomy h h' with q | q | q
    · have x := b5 h q i a2 a3; have y := a4 h' b1 i' b2 b3
      rw [Int32.lt_iff_toInt_lt] at x; rw [Int32.le_iff_toInt_le] at y; omega
    · exact q
    · have x := a5 h' q i' b2 b3; have y := b4 h a1 i a2 a3
      rw [Int32.lt_iff_toInt_lt] at x; rw [Int32.le_iff_toInt_le] at y; omega
  subst e
  exact ⟨rfl, ftA_one a2 b2 a3 b3⟩
theorem ch4.at {c : Nat → Int32} {x0 x1 x2 x3 : Int32} {c' : Nat → Int32} (h : ch4 c x0 x1 x2 x3) (h' : ch4 c' x0 x1 x2 x3) {k : Nat} (hk : k < 4) : c k = c' k := by
  obtain ⟨a0, a1, a2, a3⟩ := h
  obtain ⟨b0, b1, b2, b3⟩ := h'
  rcases (show k = 0 ∨ k = 1 ∨ k = 2 ∨ k = 3 by omega) with rfl | rfl | rfl | rfl
  · rw [a0, b0]
  · rw [a1, b1]
  · rw [a2, b2]
  · rw [a3, b3]
theorem WDr.uniq {v : Nat → Int32} {nh nj j : Nat} {f f' : Int32} {c c' : Nat → Int32} (h : WDr v nh nj j f c) (h' : WDr v nh nj j f' c') : f = f' ∧ (f = 1 → ∀ k, k < 4 → c k = c' k) := by
  rcases h with ⟨b, x, a1, a2, a3⟩ | ⟨a0, h⟩ <;> rcases h' with ⟨b', x', b1, b2, b3⟩ | ⟨b0, h'⟩
  · obtain ⟨rfl, rfl⟩ := a1.uniq b1
    exact ⟨by rw [a2, b2], fun _ k hk => a3.at b3 hk⟩
  · exact absurd a1.2.2.1 (b0 b x a1.1 a1.2.1)
  · exact absurd b1.2.2.1 (a0 b' x' b1.1 b1.2.1)
  · rcases h with ⟨y, i, a1, a2, a3⟩ | ⟨a4, h⟩ <;> rcases h' with ⟨y', i', b1, b2, b3⟩ | ⟨b4, h'⟩
    · obtain ⟨rfl, rfl⟩ := a1.uniq b1
      exact ⟨by rw [a2, b2], fun _ k hk => a3.at b3 hk⟩
    · exact absurd a1.2.2.1 (b4 y i a1.1 a1.2.1)
    · exact absurd b1.2.2.1 (a4 y' i' b1.1 b1.2.1)
    · rcases h with ⟨k, x, a1, a2, a3⟩ | ⟨a5, a2⟩ <;> rcases h' with ⟨k', x', b1, b2, b3⟩ | ⟨b5, b2⟩
      · obtain ⟨rfl, rfl⟩ := a1.uniq b1
        exact ⟨by rw [a2, b2], fun _ k hk => a3.at b3 hk⟩
      · exact absurd a1.2.2.1 (b5 k x a1.1 a1.2.1)
      · exact absurd b1.2.2.1 (a5 k' x' b1.1 b1.2.1)
      · exact ⟨by rw [a2, b2], fun q => absurd (a2.symm.trans q) (by decide)⟩
theorem WOr.uniq {v : Nat → Int32} {nh nj : Nat} {job what r r' : Int32} (h : WOr v nh nj job what r) (h' : WOr v nh nj job what r') : r = r' := by
  rcases h with ⟨g, e⟩ | ⟨g, h⟩ <;> rcases h' with ⟨g', e'⟩ | ⟨g', h'⟩
  · rw [e, e']
  · exact absurd g' g
  · exact absurd g g'
  · rcases h with ⟨a1, a2⟩ | ⟨a1, c, f, a2, a3⟩ <;> rcases h' with ⟨b1, b2⟩ | ⟨b1, c', f', b2, b3⟩
    · rw [a2, b2]
    · rcases a1 with q | q
      · exact absurd b1.1 q
      · exact absurd q b1.2
    · rcases b1 with q | q
      · exact absurd a1.1 q
      · exact absurd q a1.2
    · obtain ⟨rfl, hc⟩ := a2.uniq b2
      rw [a3, b3]
      by_cases q : f = 1
      · rw [if_pos q, if_pos q]
        obtain ⟨k, hk, ek⟩ := okB_n g.2 (by decide)
        refine hc q _ ?_
        rw [ek]; show (nI k).toNatClampNeg < 4
        rw [nI_clamp (by omega)]; exact hk
      · rw [if_neg q, if_neg q]
/-- the steps on both sides -/
def STP (mv : Int32) (mj mh : Nat → Int32) (mv2 : Int32) (mj2 mh2 : Nat → Int32) : Prop := ∃ n, n ≤ 8 ∧ mv = nI n ∧ mv2 = nI n ∧ ∀ i, i < n → mj i = mj2 i ∧ mh i = mh2 i
theorem vPl_lt11 {v : Nat → Int32} {F : Nat → Nat} {fm nh nj : Nat} (hW : mF v nh nj) (hF : Fok F fm nj) (d i : Nat) (hi : i < (vPl v F fm nh nj d).2.length) : (gt (vPl v F fm nh nj d).2 i).1 < 11 ^ fm := by
  refine GL.ind (X := fun x => x < 11 ^ fm) (bfV_all (g := gPl v F fm nh nj) (cd := cPl fm) (b := bPl F) (m := fm) (nh := nh) (r0 := enc 11 (dg v F) fm) d).1 ?_ ?_ i hi
  · refine enc_lt (by decide) (fun k hk => ?_)
    unfold dg
    split
    case isTrue q =>
      have := (hW.host (hF.1 k hk) q).2
      have := hW.1
      omega
    case isFalse => omega
  · intro x k h _ _ hh _
    refine enc_lt (by decide) (fun k' hk' => ?_)
    have h10 := hW.1
    show (if k' = k then h else dig 11 fm x k') < 11
    split
    · omega
    · unfold dig; rw [if_pos hk']; exact Nat.mod_lt _ (by decide)
theorem gl_one {v : Nat → Int32} {F : Nat → Nat} {fm x y : Nat} (hx : x < 11 ^ fm) (hy : y < 11 ^ fm) (a : gl v F fm x) (b : gl v F fm y) : x = y := by
  rw [← enc_dig2 (b := 11) (by decide) hx, ← enc_dig2 (b := 11) (by decide) hy]
  refine enc_congr (fun k hk => ?_)
  have l : ∀ z, dig 11 fm z k < 11 := fun z => by unfold dig; rw [if_pos hk]; exact Nat.mod_lt _ (by decide)
  exact (nI_eq (Nat.lt_trans (l x) (by decide)) (Nat.lt_trans (l y) (by decide))).mp ((a k hk).trans (b k hk).symm)
theorem goal_s {v : Nat → Int32} {F : Nat → Nat} {fm nh nj d s d' s' : Nat} (hW : mF v nh nj) (hF : Fok F fm nj) (h2 : s < (vPl v F fm nh nj d).2.length) (h3 : gl v F fm (gt (vPl v F fm nh nj d).2 s).1) (h2' : s' < (vPl v F fm nh nj d').2.length) (h3' : gl v F fm (gt (vPl v F fm nh nj d').2 s').1) (hd : d ≤ d') : s = s' := by
  obtain ⟨n, rfl⟩ : ∃ n, d' = d + n := ⟨d' - d, by omega⟩
  have hp : Pre (vPl v F fm nh nj d).2 (vPl v F fm nh nj (d + n)).2 := bfV_pres n
  have hl : s < (vPl v F fm nh nj (d + n)).2.length := Nat.lt_of_lt_of_le h2 hp.1
  have e := gl_one (vPl_lt11 hW hF _ _ h2) (vPl_lt11 hW hF _ _ h2') h3 h3'
  rw [← hp.2 s h2] at e
  have hg := (bfV_all (g := gPl v F fm nh nj) (cd := cPl fm) (b := bPl F) (m := fm) (nh := nh) (r0 := enc 11 (dg v F) fm) (d + n)).1.2.2.1
  rcases Nat.lt_trichotomy s s' with q | q | q
  · exact absurd e (hg s s' q h2')
  · exact q
  · exact absurd e.symm (hg s' s q hl)
theorem goal_d {v : Nat → Int32} {F : Nat → Nat} {fm nh nj d s d' : Nat} (h2 : s < (vPl v F fm nh nj d).2.length) (h1' : (vPl v F fm nh nj d').1 ≤ s) : d' ≤ d := by
  rcases Nat.lt_or_ge d d' with q | q
  · obtain ⟨n, rfl⟩ : ∃ n, d' = n + 1 := ⟨d' - 1, by omega⟩
    have := vPl_mono (v := v) (F := F) (fm := fm) (nh := nh) (nj := nj) (show d ≤ n by omega)
    have h1' : (vPl v F fm nh nj n).2.length ≤ s := h1'
    omega
  · exact q
theorem PLr.uniq {v : Nat → Int32} {nh nj : Nat} {mv mv2 mv' mv2' r r' : Int32} {mj mh mj2 mh2 mj' mh' mj2' mh2' : Nat → Int32} (hW : mF v nh nj) (hs : STP mv mj mh mv2 mj2 mh2) (h : PLr v nh nj mv mj mh r mv' mj' mh') (h' : PLr v nh nj mv2 mj2 mh2 r' mv2' mj2' mh2') : r = r' ∧ STP mv' mj' mh' mv2' mj2' mh2' := by
  have hF : Fok (tgF v nj) (tgN v nj) nj := qL_ok
  rcases h with ⟨⟨j, j1, j2, j3⟩, e1, e2, e3, e4⟩ | ⟨g, h⟩ <;> rcases h' with ⟨⟨j', j1', j2', j3'⟩, e1', e2', e3', e4'⟩ | ⟨g', h'⟩
  · exact ⟨by rw [e1, e1'], by rw [e2, e3, e4, e2', e3', e4']; exact hs⟩
  · exact absurd (g' j j1 j2) j3
  · exact absurd (g j' j1' j2') j3'
  · rcases h with ⟨a0, e1, e2, e3, e4⟩ | ⟨a0, h⟩ <;> rcases h' with ⟨b0, e1', e2', e3', e4'⟩ | ⟨b0, h'⟩
    · exact ⟨by rw [e1, e1'], by rw [e2, e3, e4, e2', e3', e4']; exact hs⟩
    · exact absurd b0 a0
    · exact absurd a0 b0
    · rcases h with ⟨a1, e1, e2, e3, e4⟩ | ⟨d, s, d8, p1, p2, p3, e1, e2, e3⟩ <;> rcases h' with ⟨b1, e1', e2', e3', e4'⟩ | ⟨d', s', d8', p1', p2', p3', e1', e2', e3'⟩
      · exact ⟨by rw [e1, e1'], by rw [e2, e3, e4, e2', e3', e4']; exact hs⟩
      · have hp := vPl_mono (v := v) (F := tgF v nj) (fm := tgN v nj) (nh := nh) (nj := nj) d8'
        obtain ⟨n, hn⟩ : ∃ n, 8 = d' + n := ⟨8 - d', by omega⟩
        have hq : Pre (vPl v (tgF v nj) (tgN v nj) nh nj d').2 (vPl v (tgF v nj) (tgN v nj) nh nj (d' + n)).2 := bfV_pres n
        rw [← hn] at hq
        exact absurd (by rw [hq.2 s' p2']; exact p3') (a1 s' (by omega))
      · have hp := vPl_mono (v := v) (F := tgF v nj) (fm := tgN v nj) (nh := nh) (nj := nj) d8
        obtain ⟨n, hn⟩ : ∃ n, 8 = d + n := ⟨8 - d, by omega⟩
        have hq : Pre (vPl v (tgF v nj) (tgN v nj) nh nj d).2 (vPl v (tgF v nj) (tgN v nj) nh nj (d + n)).2 := bfV_pres n
        rw [← hn] at hq
        exact absurd (by rw [hq.2 s p2]; exact p3) (b1 s (by omega))
      · have es : s = s' := by
          rcases Nat.le_total d d' with q | q
          · exact goal_s hW hF p2 p3 p2' p3' q
          · exact (goal_s hW hF p2' p3' p2 p3 q).symm
        subst es
        have ed : d = d' := Nat.le_antisymm (goal_d p2' p1) (goal_d p2 p1')
        subst ed
        exact ⟨by rw [e1, e1'], d, d8, e2, e2', fun i hi => ⟨by rw [(e3 i hi).1, (e3' i hi).1], by rw [(e3 i hi).2, (e3' i hi).2]⟩⟩
