def gd (l : List Nat) (k : Nat) : Nat := (l[k]?).getD 0
theorem gd_l {l r : List Nat} {i : Nat} (h : i < l.length) : gd (l ++ r) i = gd l i := by unfold gd; rw [List.getElem?_append_left h]
theorem gd_r {l : List Nat} {x i : Nat} (h : i = l.length) : gd (l ++ [x]) i = x := by subst h; unfold gd; rw [List.getElem?_append_right (Nat.le_refl _), Nat.sub_self]; rfl
theorem gd_mem {l : List Nat} {i : Nat} (h : i < l.length) : gd l i ∈ l := by unfold gd; rw [List.getElem?_eq_getElem h]; exact List.getElem_mem h
/-! the jobs of a host that would wait if it fell -/
abbrev fwc (v : Nat → Int32) (h j : Nat) : Prop := (eM v 11 j = 1 ∧ eM v 12 j = nI h) ∧ ¬ eM v 5 j = 3
def fwL (v : Nat → Int32) (h : Nat) : Nat → List Nat
  | 0 => []
  | n + 1 => if fwc v h n then fwL v h n ++ [n] else fwL v h n
def fwF (v : Nat → Int32) (h n : Nat) : Nat → Nat := fun k => gd (fwL v h n) k
def m_mny (v : Nat → Int32) (h : Nat) : Nat → Int32
  | 0 => 0
  | n + 1 => m_mny v h n + if eM v 4 h = 1 ∧ ((eM v 11 n = 1 ∧ eM v 12 n = nI h) ∧ ¬ eM v 5 n = 3) then 1 else 0
/-- not safe for h -/
def Sf (v : Nat → Int32) (nh nj h : Nat) : Prop := Saf (eM (f_fal v h nj)) (fwF v h nj) (fwL v h nj).length (pB (eM (f_fal v h nj)) (-1)) nh nj
/-- what's asked of the first host for which it's not safe -/
def FU (v : Nat → Int32) (nh nj : Nat) (r : Int32) : Prop :=
  ((∃ h, h < nh ∧ ¬ m_mny v h nj ≤ 4) ∧ r = -4) ∨ ((∀ h, h < nh → m_mny v h nj ≤ 4) ∧ ((∃ h, h < nh ∧ (¬ eM v 4 h = 0 ∧ ¬ Sf v nh nj h) ∧ (∀ x, x < h → ¬ eM v 4 x = 0 → Sf v nh nj x) ∧ r = nI h) ∨ ((∀ x, x < nh → ¬ eM v 4 x = 0 → Sf v nh nj x) ∧ r = -3)))
theorem FU.uniq {v : Nat → Int32} {nh nj : Nat} {r r' : Int32} (h : FU v nh nj r) (h' : FU v nh nj r') : r = r' := by
  rcases h with ⟨⟨x, x1, x2⟩, e⟩ | ⟨g, h⟩ <;> rcases h' with ⟨⟨y, y1, y2⟩, e'⟩ | ⟨g', h'⟩
  · rw [e, e']
  · exact absurd (g' x x1) x2
  · exact absurd (g y y1) y2
  · rcases h with ⟨x, x1, x2, x3, e⟩ | ⟨x1, e⟩ <;> rcases h' with ⟨y, y1, y2, y3, e'⟩ | ⟨y1, e'⟩
    · rcases Nat.lt_trichotomy x y with q | q | q
      · exact absurd (y3 x q x2.1) x2.2
      · rw [e, e', q]
      · exact absurd (x3 y q y2.1) y2.2
    · exact absurd (y1 x x1 x2.1) x2.2
    · exact absurd (x1 y y1 y2.1) y2.2
    · rw [e, e']
theorem fwL_mem {v : Nat → Int32} {h x : Nat} : ∀ {n : Nat}, x ∈ fwL v h n ↔ x < n ∧ fwc v h x
  | 0 => by simp [fwL]
  | n + 1 => by
    rw [fwL]
    split
    case isTrue q =>
      rw [List.mem_append, fwL_mem, List.mem_singleton]
      constructor
      · rintro (⟨a, b⟩ | rfl)
        · exact ⟨by omega, b⟩
        · exact ⟨by omega, q⟩
      · rintro ⟨a, b⟩
        by_cases e : x = n
        · exact Or.inr e
        · exact Or.inl ⟨by omega, b⟩
    case isFalse q =>
      rw [fwL_mem]
      constructor
      · rintro ⟨a, b⟩; exact ⟨by omega, b⟩
      · rintro ⟨a, b⟩
        exact ⟨by by_cases e : x = n; subst e; exact absurd b q; omega, b⟩
theorem fwL_len {v : Nat → Int32} {h : Nat} : ∀ {n : Nat}, (fwL v h n).length ≤ n
  | 0 => Nat.le_refl _
  | n + 1 => by
    have := fwL_len (v := v) (h := h) (n := n)
    rw [fwL]; split
    · rw [List.length_append]; simp; omega
    · omega
theorem fwL_inc {v : Nat → Int32} {h : Nat} : ∀ {n i j : Nat}, i < j → j < (fwL v h n).length → gd (fwL v h n) i < gd (fwL v h n) j
  | 0, _, _, _, hj => absurd hj (Nat.not_lt_zero _)
  | n + 1, i, j, hij, hj => by
    rw [fwL] at hj ⊢
    split at hj
    case isTrue q =>
      rw [if_pos q]
      rw [List.length_append] at hj
      simp only [List.length_singleton] at hj
      rw [gd_l (show i < (fwL v h n).length by omega)]
      by_cases e : j < (fwL v h n).length
      · rw [gd_l e]; exact fwL_inc hij e
      · rw [gd_r (show j = (fwL v h n).length by omega)]
        exact (fwL_mem.mp (gd_mem (show i < (fwL v h n).length by omega))).1
    case isFalse q => rw [if_neg q]; exact fwL_inc hij hj
theorem fwF_at {v : Nat → Int32} {h n k : Nat} (hk : k < (fwL v h n).length) : fwF v h n k < n ∧ fwc v h (fwF v h n k) := by
  exact fwL_mem.mp (gd_mem hk)
theorem fwF_ok {v : Nat → Int32} {h n : Nat} : Fok (fwF v h n) (fwL v h n).length n :=
  ⟨fun k hk => (fwF_at hk).1, fun i j hi hj e => by
    rcases Nat.lt_trichotomy i j with q | q | q
    · have := fwL_inc (v := v) (h := h) (n := n) q hj
      have e : gd (fwL v h n) i = gd (fwL v h n) j := e
      omega
    · exact q
    · have := fwL_inc (v := v) (h := h) (n := n) q hi
      have e : gd (fwL v h n) i = gd (fwL v h n) j := e
      omega⟩
theorem mny_len {v : Nat → Int32} {h : Nat} (hu : eM v 4 h = 1) : ∀ n : Nat, m_mny v h n = nI (fwL v h n).length
  | 0 => rfl
  | n + 1 => by
    rw [m_mny, fwL, mny_len hu n]
    by_cases q : fwc v h n
    · rw [if_pos ⟨hu, q⟩, if_pos q, List.length_append, nI_1]; rfl
    · rw [if_neg (fun z => q z.2), if_neg q, Int32.add_zero]
theorem mny_le {v : Nat → Int32} {h n : Nat} (hu : eM v 4 h = 1) (hn : n ≤ 24) (q : m_mny v h n ≤ 4) : (fwL v h n).length ≤ 4 := by
  rw [mny_len hu] at q
  have := fwL_len (v := v) (h := h) (n := n)
  exact (nI_leI (by omega) (by decide : 4 < 2 ^ 31)).mp q
theorem fwF_0 {v : Nat → Int32} {nj h k : Nat} (hn : nj ≤ 24) (hh : h < 10) (hk : k < (fwL v h nj).length) : f_fal v h nj (258 + fwF v h nj k) = 0 := by
  obtain ⟨a, ⟨b1, b2⟩, b3⟩ := fwF_at hk
  have b1 : v (258 + fwF v h nj k) = 1 := b1
  have b2 : v (282 + fwF v h nj k) = nI h := b2
  have b3 : ¬ v (66 + fwF v h nj k) = 3 := b3
  unfold f_fal
  rw [if_neg (by omega), if_pos ⟨by omega, b1, by rw [show 258 + fwF v h nj k + 24 = 282 + fwF v h nj k by omega]; exact b2⟩, show 258 + fwF v h nj k - 192 = 66 + fwF v h nj k by omega, if_neg b3]
theorem fal_back {v w g : Nat → Int32} {nh nj h fm : Nat} {F p : Nat → Nat} (hW : mF v nh nj) (hh : h < nh) (hF : Fok F fm nj) (ha : atP (f_fal v h nj) F fm nh w p) : cpy 354 (cpy 354 v g) w = v := funext fun i => by
  have h1 := hW.1; have h2 := hW.2.1
  unfold cpy
  by_cases e : i < 354
  · rw [if_pos e, if_pos e]
  · rw [if_neg e, ha.out hF h2 (by omega), f_fal_o (by omega) (by omega) (by omega)]
theorem upd_id {f : Nat → Int32} {k : Nat} : upd f k (f k) = f := funext fun i => by
  by_cases e : i = k
  · subst e; exact ups
  · exact upn e
theorem upd_upd {f : Nat → Int32} {k : Nat} {x y : Int32} : upd (upd f k x) k y = upd f k y := funext fun i => by
  by_cases e : i = k
  · subst e; rw [ups, ups]
  · rw [upn e, upn e, upn e]
theorem st_n1 {τ : St} {q1 r4 r5 r6 r7 r8 r9 w t6 t7 t8 t9 f : Nat → Int32} {z y : Int32} : sr (sr (sr (sr (sr (sr (sr (sr (sr (sr (sr (sr (sr (sr τ 1 q1) 4 r4) 5 r5) 6 r6) 7 r7) 8 r8) 9 r9) 0 (upd f 5 z)) 1 w) 6 t6) 7 t7) 8 t8) 9 t9) 0 (upd (upd f 5 z) 5 y) = sr (sr (sr (sr (sr (sr (sr (sr τ 1 w) 4 r4) 5 r5) 6 t6) 7 t7) 8 t8) 9 t9) 0 (upd f 5 y) := by
  rw [upd_upd]
  funext j
  unfold sr
  by_cases e0 : j = 0
  · subst e0; rfl
  · by_cases e1 : j = 1
    · subst e1; rfl
    · by_cases e4 : j = 4
      · subst e4; rfl
      · by_cases e5 : j = 5
        · subst e5; rfl
        · by_cases e6 : j = 6
          · subst e6; rfl
          · by_cases e7 : j = 7
            · subst e7; rfl
            · by_cases e8 : j = 8
              · subst e8; rfl
              · by_cases e9 : j = 9
                · subst e9; rfl
                · simp only [e0, e1, e4, e5, e6, e7, e8, e9, if_false]
set_option maxHeartbeats 4000000 in
set_option maxRecDepth 100000 in
theorem tX11_firstUnsafe (l : Launch) (E : EV) (a : Nat → Nat) (τ : St) (nh : Nat) (nj : Nat) (hW : mF (τ 1) nh nj) (hU : ∀ h, h < nh → eM (τ 1) 4 h = 0 ∨ eM (τ 1) 4 h = 1) : MI l E (MW E a) yX11_firstUnsafe (Cond.code yX11_firstUnsafe cX11_firstUnsafe 4 (some .int)) ({ frames := 5, cells := 0, slots := 0, locals := 119 }) [.ref (a 70)] τ (fun r_ u_ => FU (τ 1) nh nj r_ ∧ ∃ (r4 r5 s6 s7 s8 s9 : Nat → Int32) (z4 z5 : Int32), u_ = sr (sr (sr (sr (sr (sr (sr (sr τ 1 (τ 1)) 4 r4) 5 r5) 6 s6) 7 s7) 8 s8) 9 s9) 0 (upd (upd (τ 0) 4 z4) 5 z5)) := by
  refine MI.mk (by decide +kernel) (Nat.le_of_ble_eq_true rfl) ?_
  intro p e s m args below meth c ls A Q hret hC hw hl
  have hC : Cxt E p s m args meth c cX11_firstUnsafe 4 (some .int) RX11 A := hC
  have hl : lv_has ls 4 [(0, .ref (a 70))] := hl
  have ⟨hnh, hnj, hW0, hW1, hWh⟩ := id hW
  refine lv_iconst (v := nI 0) hC.1 hC.2.1 dX11_firstUnsafe_0 (by decide) ?_
  refine lv_istore_n (lv' := [(1, .int (nI 0)), (0, .ref (a 70))]) hC.1 hC.2.1 dX11_firstUnsafe_1 rfl hl (by decide) rfl (fun ls hl => ?_)
  have L2_0 : ∀ (n : Nat), ∀ (h : Nat), (h ≤ nh) → (∀ x, x < h → m_mny (τ 1) x nj ≤ 4) → (nh - h) < n → ∀ (H : Heap) (locs : List Loc) (ls : Array Slot), Wst E (MW E a) (τ) A s.heap H locs → lv_has ls 4 [(0, .ref (a 70)), (1, .int (nI h))] → W p l e ({ frames := 5, cells := 0, slots := 0, locals := 119 }) s m args below meth c H locs 0 0 Q (F0 m 2 ls []) := by
    intro n
    induction n with
    | zero => intro h hh hNG hn; exact absurd hn (Nat.not_lt_zero _)
    | succ n ih2 =>
      intro h hh hNG hn2 H locs ls hw hl
      refine lv_iload_n hC.1 hC.2.1 dX11_firstUnsafe_2 rfl (lv_at hl 1 rfl) ?_
      refine lv_aload_n hC.1 hC.2.1 dX11_firstUnsafe_3 rfl (lv_at hl 0 rfl) ?_
      refine gf_X11_7 hC hw dX11_firstUnsafe_4 ?_
      refine lv_iconst (v := nI 0) hC.1 hC.2.1 dX11_firstUnsafe_7 (by decide) ?_
      refine al_M1 (v := nI nh) hC hw (by omega) hW.2.2.1 dX11_firstUnsafe_8 ?_
      refine q_cmpge hC 89 (cNle (by omega) (by omega)) dX11_firstUnsafe_9 (by decide) (fun (c2 : nh ≤ h) => ?_) (fun (c2 : h < nh) => ?_)
      · have hNG : ∀ x, x < nh → m_mny (τ 1) x nj ≤ 4 := by rw [show nh = h by omega]; exact hNG
        refine lv_iconst (v := nI 0) hC.1 hC.2.1 dX11_firstUnsafe_89 (by decide) ?_
        refine lv_istore_n (lv' := [(1, .int (nI 0)), (0, .ref (a 70))]) hC.1 hC.2.1 dX11_firstUnsafe_90 rfl hl (by decide) rfl (fun ls hl => ?_)
        have L91_2 : ∀ (n : Nat), ∀ (h : Nat), ∀ (r4 : Nat → Int32), ∀ (r5 : Nat → Int32), ∀ (s6 : Nat → Int32), ∀ (s7 : Nat → Int32), ∀ (s8 : Nat → Int32), ∀ (s9 : Nat → Int32), ∀ (z4 : Int32), ∀ (z5 : Int32), (h ≤ nh) → (∀ x, x < h → ¬ eM (τ 1) 4 x = 0 → Sf (τ 1) nh nj x) → (nh - h) < n → ∀ (H : Heap) (locs : List Loc) (ls : Array Slot), Wst E (MW E a) (sr (sr (sr (sr (sr (sr (sr (sr τ 1 (τ 1)) 4 (r4)) 5 (r5)) 6 (s6)) 7 (s7)) 8 (s8)) 9 (s9)) 0 (upd (upd (τ 0) 4 (z4)) 5 (z5))) A s.heap H locs → lv_has ls 4 [(0, .ref (a 70)), (1, .int (nI h))] → W p l e ({ frames := 5, cells := 0, slots := 0, locals := 119 }) s m args below meth c H locs 0 0 Q (F0 m 91 ls []) := by
          intro n
          induction n with
          | zero => intro h r4 r5 s6 s7 s8 s9 z4 z5 hh hS hn; exact absurd hn (Nat.not_lt_zero _)
          | succ n ih91 =>
            intro h r4 r5 s6 s7 s8 s9 z4 z5 hh hS hn91 H locs ls hw hl
            refine lv_iload_n hC.1 hC.2.1 dX11_firstUnsafe_91 rfl (lv_at hl 1 rfl) ?_
            refine lv_aload_n hC.1 hC.2.1 dX11_firstUnsafe_92 rfl (lv_at hl 0 rfl) ?_
            refine gf_X11_7 hC hw dX11_firstUnsafe_93 ?_
            refine lv_iconst (v := nI 0) hC.1 hC.2.1 dX11_firstUnsafe_96 (by decide) ?_
            refine al_M1 (v := nI nh) hC hw (by omega) hW.2.2.1 dX11_firstUnsafe_97 ?_
            refine q_cmpge hC 212 (cNle (by omega) (by omega)) dX11_firstUnsafe_98 (by decide) (fun (c4 : nh ≤ h) => ?_) (fun (c4 : h < nh) => ?_)
            · refine lv_bipush (v := (-3)) hC.1 hC.2.1 dX11_firstUnsafe_212 (by decide) ?_
              refine hret _ _ _ _ _ _ hw ?_ rfl dX11_firstUnsafe_214
              have hh9 : h = nh := by omega
              rw [hh9] at hS
              exact ⟨Or.inr ⟨hNG, Or.inr ⟨hS, rfl⟩⟩, r4, r5, s6, s7, s8, s9, z4, z5, rfl⟩
            · refine lv_aload_n hC.1 hC.2.1 dX11_firstUnsafe_101 rfl (lv_at hl 0 rfl) ?_
              refine gf_X11_7 hC hw dX11_firstUnsafe_102 ?_
              refine lv_bipush (v := nI 56) hC.1 hC.2.1 dX11_firstUnsafe_105 (by decide) ?_
              refine lv_iload_n hC.1 hC.2.1 dX11_firstUnsafe_107 rfl (lv_at hl 1 rfl) ?_
              refine q_addN hC dX11_firstUnsafe_108 ?_
              refine al_M1 (v := eM (τ 1) 4 h) hC hw (by omega) (show _ = eM (τ 1) 4 h from congrArg (τ 1) (by omega)) dX11_firstUnsafe_109 ?_
              refine q_ifne hC 116 cI dX11_firstUnsafe_110 (by decide) (fun (c5 : ¬ ((eM (τ 1) 4 h) = 0)) => ?_) (fun (c5 : (eM (τ 1) 4 h) = 0) => ?_)
              · refine lv_aload_n hC.1 hC.2.1 dX11_firstUnsafe_116 rfl (lv_at hl 0 rfl) ?_
                refine lv_iconst (v := nI 0) hC.1 hC.2.1 dX11_firstUnsafe_117 (by decide) ?_
                refine pf_X11_138 hC hw dX11_firstUnsafe_118 (fun H locs hw => ?_)
                have hw : Wst E (MW E a) (sr (sr (sr (sr (sr (sr (sr (sr τ 1 (τ 1)) 4 (r4)) 5 (r5)) 6 (s6)) 7 (s7)) 8 (s8)) 9 (s9)) 0 (upd (upd (τ 0) 4 (nI 0)) 5 (z5))) A s.heap H locs := hw
                refine lv_iconst (v := nI 0) hC.1 hC.2.1 dX11_firstUnsafe_121 (by decide) ?_
                refine lv_istore_n (lv' := [(2, .int (nI 0)), (0, .ref (a 70)), (1, .int (nI h))]) hC.1 hC.2.1 dX11_firstUnsafe_122 rfl hl (by decide) rfl (fun ls hl => ?_)
                have L123_5 : ∀ (n : Nat), ∀ (j : Nat), ∀ (r5 : Nat → Int32), (j ≤ nj) → (∀ x, x < (fwL (τ 1) h j).length → r5 x = nI (gd (fwL (τ 1) h j) x)) → (nj - j) < n → ∀ (H : Heap) (locs : List Loc) (ls : Array Slot), Wst E (MW E a) (sr (sr (sr (sr (sr (sr (sr (sr τ 1 (τ 1)) 4 (r4)) 5 (r5)) 6 (s6)) 7 (s7)) 8 (s8)) 9 (s9)) 0 (upd (upd (τ 0) 4 (nI (fwL (τ 1) h j).length)) 5 (z5))) A s.heap H locs → lv_has ls 4 [(0, .ref (a 70)), (1, .int (nI h)), (2, .int (nI j))] → W p l e ({ frames := 5, cells := 0, slots := 0, locals := 119 }) s m args below meth c H locs 0 0 Q (F0 m 123 ls []) := by
                  intro n
                  induction n with
                  | zero => intro j r5 hj hG hn; exact absurd hn (Nat.not_lt_zero _)
                  | succ n ih123 =>
                    intro j r5 hj hG hn123 H locs ls hw hl
                    have hLn := fwL_len (v := τ 1) (h := h) (n := j)
                    refine lv_iload_n hC.1 hC.2.1 dX11_firstUnsafe_123 rfl (lv_at hl 2 rfl) ?_
                    refine lv_aload_n hC.1 hC.2.1 dX11_firstUnsafe_124 rfl (lv_at hl 0 rfl) ?_
                    refine gf_X11_7 hC hw dX11_firstUnsafe_125 ?_
                    refine lv_iconst (v := nI 1) hC.1 hC.2.1 dX11_firstUnsafe_128 (by decide) ?_
                    refine al_M1 (v := nI nj) hC hw (by omega) hW.2.2.2.1 dX11_firstUnsafe_129 ?_
                    refine q_cmpge hC 181 (cNle (by omega) (by omega)) dX11_firstUnsafe_130 (by decide) (fun (c7 : nj ≤ j) => ?_) (fun (c7 : j < nj) => ?_)
                    · have hj9 : j = nj := by omega
                      rw [hj9] at hw hl
                      rw [hj9] at hG
                      have hu1 : eM (τ 1) 4 h = 1 := (hU h (by omega)).resolve_left c5
                      have hm4 := mny_le hu1 hnj (hNG h (by omega))
                      have hWf := f_fal_mF (n := nj) hW (show h < nh by omega)
                      have hw : Wst E (MW E a) (sr (sr (sr (sr (sr (sr (sr (sr τ 1 (τ 1)) 4 (r4)) 5 (r5)) 6 (s6)) 7 (s7)) 8 (s8)) 9 (s9)) 0 (upd (upd (τ 0) 4 (nI (fwL (τ 1) h nj).length)) 5 (z5))) A s.heap H locs := hw
                      refine lv_aload_n hC.1 hC.2.1 dX11_firstUnsafe_181 rfl (lv_at hl 0 rfl) ?_
                      refine q_callVvp (As := []) (rest := []) (q0 := 0) hC hw hl (tX11_keepSpare l E a (sr (sr (sr (sr (sr (sr (sr (sr τ 1 (τ 1)) 4 (r4)) 5 (r5)) 6 (s6)) 7 (s7)) 8 (s8)) 9 (s9)) 0 (upd (upd (τ 0) 4 (nI (fwL (τ 1) h nj).length)) 5 (z5))) ) (q_cwV hC.2.2.2.2.1 ⟨rfl, rfl⟩ wk5_40 wk5_42 wks_3_6 wk1_12 wk5_43 hd_X11_keepSpare ⟨Nat.le_of_ble_eq_true rfl, Nat.le_of_ble_eq_true rfl⟩) rfl rfl rfl rfl rfl (Nat.le_of_ble_eq_true rfl) dX11_firstUnsafe_182 (fun H locs hw => ?_)
                      have hw : Wst E (MW E a) (sr (sr (sr (sr (sr (sr (sr (sr τ 1 (τ 1)) 4 (cpy 354 (τ 1) r4)) 5 (r5)) 6 (s6)) 7 (s7)) 8 (s8)) 9 (s9)) 0 (upd (upd (τ 0) 4 (nI (fwL (τ 1) h nj).length)) 5 (z5))) A s.heap H locs := hw
                      refine lv_aload_n hC.1 hC.2.1 dX11_firstUnsafe_185 rfl (lv_at hl 0 rfl) ?_
                      refine lv_iload_n hC.1 hC.2.1 dX11_firstUnsafe_186 rfl (lv_at hl 1 rfl) ?_
                      refine q_callVp (As := [.int (nI h)]) (rest := []) (q0 := 0) hC hw hl (tX11_letFall l E a (sr (sr (sr (sr (sr (sr (sr (sr τ 1 (τ 1)) 4 (cpy 354 (τ 1) r4)) 5 (r5)) 6 (s6)) 7 (s7)) 8 (s8)) 9 (s9)) 0 (upd (upd (τ 0) 4 (nI (fwL (τ 1) h nj).length)) 5 (z5))) nh nj h (by first | assumption | omega) (by first | assumption | omega)) (q_cwV hC.2.2.2.2.1 ⟨rfl, rfl⟩ wk5_60 wk5_62 wks_3_9 wk1_12 wk5_63 hd_X11_letFall ⟨Nat.le_of_ble_eq_true rfl, Nat.le_of_ble_eq_true rfl⟩) rfl rfl rfl rfl rfl (Nat.le_of_ble_eq_true rfl) dX11_firstUnsafe_187 (fun H locs hw => ?_)
                      have hw : Wst E (MW E a) (sr (sr (sr (sr (sr (sr (sr (sr τ 1 (f_fal (τ 1) h nj)) 4 (cpy 354 (τ 1) r4)) 5 (r5)) 6 (s6)) 7 (s7)) 8 (s8)) 9 (s9)) 0 (upd (upd (τ 0) 4 (nI (fwL (τ 1) h nj).length)) 5 (z5))) A s.heap H locs := hw
                      refine lv_istore_n (lv' := [(2, .int (m_fal (τ 1) h nj)), (0, .ref (a 70)), (1, .int (nI h))]) hC.1 hC.2.1 dX11_firstUnsafe_190 rfl hl (by decide) rfl (fun ls hl => ?_)
                      refine lv_aload_n hC.1 hC.2.1 dX11_firstUnsafe_191 rfl (lv_at hl 1 rfl) ?_
                      refine q_callV (As := []) (rest := []) (q0 := 0) hC hw hl (tX11_canAll l E a (sr (sr (sr (sr (sr (sr (sr (sr τ 1 (f_fal (τ 1) h nj)) 4 (cpy 354 (τ 1) r4)) 5 (r5)) 6 (s6)) 7 (s7)) 8 (s8)) 9 (s9)) 0 (upd (upd (τ 0) 4 (nI (fwL (τ 1) h nj).length)) 5 (z5))) nh nj ((fwL (τ 1) h nj).length) (fwF (τ 1) h nj) hWf rfl hm4 (fun k hk => ⟨hG k hk, (fwF_at hk).1⟩) fwF_ok (fun k hk => fwF_0 hnj (show h < 10 by omega) hk)) (q_cwV hC.2.2.2.2.1 ⟨rfl, rfl⟩ wk5_80 wk5_82 wks_3_11 wk1_12 wk5_83 hd_X11_canAll ⟨Nat.le_of_ble_eq_true rfl, Nat.le_of_ble_eq_true rfl⟩) rfl rfl rfl rfl rfl (Nat.le_of_ble_eq_true rfl) dX11_firstUnsafe_192 (fun r15 u16 H locs p14 hw => ?_)
                      obtain ⟨hrr15, w17, sa18, sb19, sc20, sd21, M22, q23, hatr15, hur15⟩ := p14
                      have hatr15 : atP (f_fal (τ 1) h nj) (fwF (τ 1) h nj) (fwL (τ 1) h nj).length nh w17 q23 := hatr15
                      have hrr15 : (r15 = 1 ∧ Sf (τ 1) nh nj h) ∨ (r15 = 0 ∧ ¬ Sf (τ 1) nh nj h) := hrr15
                      have hbkr15 : cpy 354 (cpy 354 (τ 1) r4) w17 = τ 1 := fal_back hW (show h < nh by omega) fwF_ok hatr15
                      have hur15 : u16 = sr (sr (sr (sr (sr (sr (sr (sr τ 1 (w17)) 4 (cpy 354 (τ 1) r4)) 5 (r5)) 6 (sa18)) 7 (sb19)) 8 (sc20)) 9 (sd21)) 0 (upd (upd (τ 0) 4 (nI (fwL (τ 1) h nj).length)) 5 (nI (M22))) := by rw [hur15]; exact st_n1
                      rw [hur15] at hw
                      refine lv_istore_n (lv' := [(3, .int (r15)), (2, .int (m_fal (τ 1) h nj)), (0, .ref (a 70)), (1, .int (nI h))]) hC.1 hC.2.1 dX11_firstUnsafe_195 rfl hl (by decide) rfl (fun ls hl => ?_)
                      refine lv_aload_n hC.1 hC.2.1 dX11_firstUnsafe_196 rfl (lv_at hl 2 rfl) ?_
                      refine q_callVvp (As := []) (rest := []) (q0 := 0) hC hw hl (tX11_backSpare l E a (sr (sr (sr (sr (sr (sr (sr (sr τ 1 (w17)) 4 (cpy 354 (τ 1) r4)) 5 (r5)) 6 (sa18)) 7 (sb19)) 8 (sc20)) 9 (sd21)) 0 (upd (upd (τ 0) 4 (nI (fwL (τ 1) h nj).length)) 5 (nI (M22)))) ) (q_cwV hC.2.2.2.2.1 ⟨rfl, rfl⟩ wk5_44 wk5_46 wks_3_7 wk1_12 wk5_47 hd_X11_backSpare ⟨Nat.le_of_ble_eq_true rfl, Nat.le_of_ble_eq_true rfl⟩) rfl rfl rfl rfl rfl (Nat.le_of_ble_eq_true rfl) dX11_firstUnsafe_197 (fun H locs hw => ?_)
                      have hw : Wst E (MW E a) (sr (sr (sr (sr (sr (sr (sr (sr τ 1 (cpy 354 (cpy 354 (τ 1) r4) w17)) 4 (cpy 354 (τ 1) r4)) 5 (r5)) 6 (sa18)) 7 (sb19)) 8 (sc20)) 9 (sd21)) 0 (upd (upd (τ 0) 4 (nI (fwL (τ 1) h nj).length)) 5 (nI (M22)))) A s.heap H locs := hw
                      rw [hbkr15] at hw
                      refine lv_iload_n hC.1 hC.2.1 dX11_firstUnsafe_200 rfl (lv_at hl 0 rfl) ?_
                      refine q_ifne hC 206 cI dX11_firstUnsafe_201 (by decide) (fun (c27 : ¬ (r15 = 0)) => ?_) (fun (c27 : r15 = 0) => ?_)
                      · refine lv_iinc (v := nI (h + 1)) (lv' := [(1, .int (nI (h + 1))), (3, .int (r15)), (2, .int (m_fal (τ 1) h nj)), (0, .ref (a 70))]) hC.1 hC.2.1 dX11_firstUnsafe_206 hl (k := 3) rfl (nI_add _ _) (by decide) rfl (fun ls hl => ?_)
                        refine lv_goto (tgt := 91) hC.1 hC.2.1 dX11_firstUnsafe_209 (by decide) ?_
                        have hS2 : ∀ x, x < h + 1 → ¬ eM (τ 1) 4 x = 0 → Sf (τ 1) nh nj x := fun x hx hux => by
                          by_cases e : x = h
                          · subst e; rcases hrr15 with z | z
                            · exact z.2
                            · exact absurd z.1 c27
                          · exact hS x (by omega) hux
                        exact ih91 (h + 1) (cpy 354 (τ 1) r4) r5 sa18 sb19 sc20 sd21 (nI (fwL (τ 1) h nj).length) (nI (M22)) (by omega) hS2 (by omega) _ _ _ hw (lv_sub hl [3, 0] rfl)
                      · refine lv_iload_n hC.1 hC.2.1 dX11_firstUnsafe_204 rfl (lv_at hl 3 rfl) ?_
                        refine hret _ _ _ _ _ _ hw ?_ rfl dX11_firstUnsafe_205
                        exact ⟨Or.inr ⟨hNG, Or.inl ⟨h, by omega, ⟨c5, fun z => by rcases hrr15 with q | q; exact absurd (q.1.symm.trans c27) (by decide); exact q.2 z⟩, hS, rfl⟩⟩, cpy 354 (τ 1) r4, r5, sa18, sb19, sc20, sd21, nI (fwL (τ 1) h nj).length, nI (M22), rfl⟩
                    · refine lv_aload_n hC.1 hC.2.1 dX11_firstUnsafe_133 rfl (lv_at hl 0 rfl) ?_
                      refine lv_iload_n hC.1 hC.2.1 dX11_firstUnsafe_134 rfl (lv_at hl 2 rfl) ?_
                      refine lv_iload_n hC.1 hC.2.1 dX11_firstUnsafe_135 rfl (lv_at hl 1 rfl) ?_
                      refine q_callVp (As := [.int (nI j), .int (nI h)]) (rest := []) (q0 := 0) hC hw hl (tX11_standsOn l E a (sr (sr (sr (sr (sr (sr (sr (sr τ 1 (τ 1)) 4 (r4)) 5 (r5)) 6 (s6)) 7 (s7)) 8 (s8)) 9 (s9)) 0 (upd (upd (τ 0) 4 (nI (fwL (τ 1) h j).length)) 5 (z5))) nh nj j h (by first | assumption | omega) (by first | assumption | omega) (by first | assumption | omega)) (q_cwV hC.2.2.2.2.1 ⟨rfl, rfl⟩ wk4_210 wk4_212 wks_2_11 wk1_12 wk4_213 hd_X11_standsOn ⟨Nat.le_of_ble_eq_true rfl, Nat.le_of_ble_eq_true rfl⟩) rfl rfl rfl rfl rfl (Nat.le_of_ble_eq_true rfl) dX11_firstUnsafe_136 (fun H locs hw => ?_)
                      refine q_ifeq hC 175 cB dX11_firstUnsafe_139 (by decide) (fun (c31 : ¬ (eM (τ 1) 11 j = 1 ∧ eM (τ 1) 12 j = nI h)) => ?_) (fun (c31 : eM (τ 1) 11 j = 1 ∧ eM (τ 1) 12 j = nI h) => ?_)
                      · refine lv_iinc (v := nI (j + 1)) (lv' := [(2, .int (nI (j + 1))), (0, .ref (a 70)), (1, .int (nI h))]) hC.1 hC.2.1 dX11_firstUnsafe_175 hl (k := 2) rfl (nI_add _ _) (by decide) rfl (fun ls hl => ?_)
                        refine lv_goto (tgt := 123) hC.1 hC.2.1 dX11_firstUnsafe_178 (by decide) ?_
                        have hL : fwL (τ 1) h (j + 1) = fwL (τ 1) h j := if_neg (fun q => c31 q.1)
                        rw [← hL] at hw
                        exact ih123 (j + 1) r5 (by omega) (by rw [hL]; exact hG) (by omega) _ _ _ hw (lv_sub hl [1, 2, 0] rfl)
                      · refine lv_aload_n hC.1 hC.2.1 dX11_firstUnsafe_142 rfl (lv_at hl 0 rfl) ?_
                        refine gf_X11_7 hC hw dX11_firstUnsafe_143 ?_
                        refine lv_bipush (v := nI 66) hC.1 hC.2.1 dX11_firstUnsafe_146 (by decide) ?_
                        refine lv_iload_n hC.1 hC.2.1 dX11_firstUnsafe_148 rfl (lv_at hl 2 rfl) ?_
                        refine q_addN hC dX11_firstUnsafe_149 ?_
                        refine al_M1 (v := eM (τ 1) 5 j) hC hw (by omega) (show _ = eM (τ 1) 5 j from congrArg (τ 1) (by omega)) dX11_firstUnsafe_150 ?_
                        refine lv_iconst (v := nI 3) hC.1 hC.2.1 dX11_firstUnsafe_151 (by decide) ?_
                        refine q_cmpeq hC 175 cI dX11_firstUnsafe_152 (by decide) (fun (c32 : (eM (τ 1) 5 j) = 3) => ?_) (fun (c32 : ¬ ((eM (τ 1) 5 j) = 3)) => ?_)
                        · refine lv_iinc (v := nI (j + 1)) (lv' := [(2, .int (nI (j + 1))), (0, .ref (a 70)), (1, .int (nI h))]) hC.1 hC.2.1 dX11_firstUnsafe_175 hl (k := 2) rfl (nI_add _ _) (by decide) rfl (fun ls hl => ?_)
                          refine lv_goto (tgt := 123) hC.1 hC.2.1 dX11_firstUnsafe_178 (by decide) ?_
                          have hL : fwL (τ 1) h (j + 1) = fwL (τ 1) h j := if_neg (fun q => q.2 c32)
                          rw [← hL] at hw
                          exact ih123 (j + 1) r5 (by omega) (by rw [hL]; exact hG) (by omega) _ _ _ hw (lv_sub hl [1, 2, 0] rfl)
                        · refine lv_aload_n hC.1 hC.2.1 dX11_firstUnsafe_155 rfl (lv_at hl 0 rfl) ?_
                          refine gf_X11_22 hC hw dX11_firstUnsafe_156 ?_
                          refine lv_aload_n hC.1 hC.2.1 dX11_firstUnsafe_159 rfl (lv_at hl 0 rfl) ?_
                          refine gf_X11_138 (v := nI ((fwL (τ 1) h j).length)) hC hw rfl dX11_firstUnsafe_160 ?_
                          refine lv_iload_n hC.1 hC.2.1 dX11_firstUnsafe_163 rfl (lv_at hl 2 rfl) ?_
                          refine as_M5 hC hw (by omega) dX11_firstUnsafe_164 (fun H locs hw => ?_)
                          have hw : Wst E (MW E a) (sr (sr (sr (sr (sr (sr (sr (sr τ 1 (τ 1)) 4 (r4)) 5 (upd (r5) ((fwL (τ 1) h j).length) (nI j))) 6 (s6)) 7 (s7)) 8 (s8)) 9 (s9)) 0 (upd (upd (τ 0) 4 (nI (fwL (τ 1) h j).length)) 5 (z5))) A s.heap H locs := hw
                          refine lv_aload_n hC.1 hC.2.1 dX11_firstUnsafe_165 rfl (lv_at hl 0 rfl) ?_
                          refine lv_dup hC.1 hC.2.1 dX11_firstUnsafe_166 rfl ?_
                          refine gf_X11_138 (v := nI ((fwL (τ 1) h j).length)) hC hw rfl dX11_firstUnsafe_167 ?_
                          refine lv_iconst (v := nI 1) hC.1 hC.2.1 dX11_firstUnsafe_170 (by decide) ?_
                          refine q_addN hC dX11_firstUnsafe_171 ?_
                          refine pf_X11_138 hC hw dX11_firstUnsafe_172 (fun H locs hw => ?_)
                          have hw : Wst E (MW E a) (sr (sr (sr (sr (sr (sr (sr (sr τ 1 (τ 1)) 4 (r4)) 5 (upd (r5) ((fwL (τ 1) h j).length) (nI j))) 6 (s6)) 7 (s7)) 8 (s8)) 9 (s9)) 0 (upd (upd (τ 0) 4 (nI (((fwL (τ 1) h j).length) + 1))) 5 (z5))) A s.heap H locs := hw
                          refine lv_iinc (v := nI (j + 1)) (lv' := [(2, .int (nI (j + 1))), (0, .ref (a 70)), (1, .int (nI h))]) hC.1 hC.2.1 dX11_firstUnsafe_175 hl (k := 2) rfl (nI_add _ _) (by decide) rfl (fun ls hl => ?_)
                          refine lv_goto (tgt := 123) hC.1 hC.2.1 dX11_firstUnsafe_178 (by decide) ?_
                          have hL : fwL (τ 1) h (j + 1) = fwL (τ 1) h j ++ [j] := if_pos ⟨c31, c32⟩
                          have hLl : (fwL (τ 1) h j).length + 1 = (fwL (τ 1) h (j + 1)).length := by rw [hL, List.length_append]; rfl
                          have hsc : nI (((fwL (τ 1) h j).length) + 1) = nI (fwL (τ 1) h (j + 1)).length := congrArg nI hLl
                          rw [hsc] at hw
                          exact ih123 (j + 1) (upd (r5) ((fwL (τ 1) h j).length) (nI j)) (by omega) (fun x hx => by rw [hL] at hx ⊢; rw [List.length_append, List.length_singleton] at hx; by_cases e : x = (fwL (τ 1) h j).length; (subst e; rw [ups, gd_r rfl]); rw [upn e, gd_l (by omega)]; exact hG x (by omega)) (by omega) _ _ _ hw (lv_sub hl [1, 2, 0] rfl)
                exact L123_5 _ 0 r5 (Nat.zero_le _) (fun x q => absurd q (Nat.not_lt_zero _)) (Nat.lt_succ_self _) _ _ _ hw (lv_sub hl [1, 2, 0] rfl)
              · refine lv_goto (tgt := 206) hC.1 hC.2.1 dX11_firstUnsafe_113 (by decide) ?_
                refine lv_iinc (v := nI (h + 1)) (lv' := [(1, .int (nI (h + 1))), (0, .ref (a 70))]) hC.1 hC.2.1 dX11_firstUnsafe_206 hl (k := 1) rfl (nI_add _ _) (by decide) rfl (fun ls hl => ?_)
                refine lv_goto (tgt := 91) hC.1 hC.2.1 dX11_firstUnsafe_209 (by decide) ?_
                have hS2 : ∀ x, x < h + 1 → ¬ eM (τ 1) 4 x = 0 → Sf (τ 1) nh nj x := fun x hx hux => by
                  by_cases e : x = h
                  · subst e; exact absurd c5 hux
                  · exact hS x (by omega) hux
                exact ih91 (h + 1) r4 r5 s6 s7 s8 s9 z4 z5 (by omega) hS2 (by omega) _ _ _ hw (lv_sub hl [1, 0] rfl)
        have hw : Wst E (MW E a) (sr (sr (sr (sr (sr (sr (sr (sr τ 1 (τ 1)) 4 (τ 4)) 5 (τ 5)) 6 (τ 6)) 7 (τ 7)) 8 (τ 8)) 9 (τ 9)) 0 (upd (upd (τ 0) 4 (τ 0 4)) 5 (τ 0 5))) A s.heap H locs := by simp only [sr_id, upd_id]; exact hw
        exact L91_2 _ 0 (τ 4) (τ 5) (τ 6) (τ 7) (τ 8) (τ 9) (τ 0 4) (τ 0 5) (Nat.zero_le _) (fun x q => absurd q (Nat.not_lt_zero _)) (Nat.lt_succ_self _) _ _ _ hw (lv_sub hl [1, 0] rfl)
      · refine lv_iconst (v := nI 0) hC.1 hC.2.1 dX11_firstUnsafe_12 (by decide) ?_
        refine lv_istore_n (lv' := [(2, .int (nI 0)), (0, .ref (a 70)), (1, .int (nI h))]) hC.1 hC.2.1 dX11_firstUnsafe_13 rfl hl (by decide) rfl (fun ls hl => ?_)
        refine lv_iconst (v := nI 0) hC.1 hC.2.1 dX11_firstUnsafe_14 (by decide) ?_
        refine lv_istore_n (lv' := [(3, .int (nI 0)), (2, .int (nI 0)), (0, .ref (a 70)), (1, .int (nI h))]) hC.1 hC.2.1 dX11_firstUnsafe_15 rfl hl (by decide) rfl (fun ls hl => ?_)
        have L16_32 : ∀ (n : Nat), ∀ (j : Nat), ∀ (n2 : Int32), (n2 = (m_mny (τ 1) h j)) → (j ≤ nj) → (nj - j) < n → ∀ (H : Heap) (locs : List Loc) (ls : Array Slot), Wst E (MW E a) (τ) A s.heap H locs → lv_has ls 4 [(0, .ref (a 70)), (1, .int (nI h)), (2, .int (n2)), (3, .int (nI j))] → W p l e ({ frames := 5, cells := 0, slots := 0, locals := 119 }) s m args below meth c H locs 0 0 Q (F0 m 16 ls []) := by
          intro n
          induction n with
          | zero => intro j n2 q_n2 hj hn; exact absurd hn (Nat.not_lt_zero _)
          | succ n ih16 =>
            intro j n2 q_n2 hj hn16 H locs ls hw hl
            subst q_n2
            refine lv_iload_n hC.1 hC.2.1 dX11_firstUnsafe_16 rfl (lv_at hl 3 rfl) ?_
            refine lv_aload_n hC.1 hC.2.1 dX11_firstUnsafe_17 rfl (lv_at hl 0 rfl) ?_
            refine gf_X11_7 hC hw dX11_firstUnsafe_18 ?_
            refine lv_iconst (v := nI 1) hC.1 hC.2.1 dX11_firstUnsafe_21 (by decide) ?_
            refine al_M1 (v := nI nj) hC hw (by omega) hW.2.2.2.1 dX11_firstUnsafe_22 ?_
            refine q_cmpge hC 75 (cNle (by omega) (by omega)) dX11_firstUnsafe_23 (by decide) (fun (c34 : nj ≤ j) => ?_) (fun (c34 : j < nj) => ?_)
            · refine lv_iload_n hC.1 hC.2.1 dX11_firstUnsafe_75 rfl (lv_at hl 2 rfl) ?_
              refine lv_iconst (v := nI 4) hC.1 hC.2.1 dX11_firstUnsafe_76 (by decide) ?_
              refine q_cmple hC 83 cI dX11_firstUnsafe_77 (by decide) (fun (c35 : (m_mny (τ 1) h j) ≤ 4) => ?_) (fun (c35 : ¬ ((m_mny (τ 1) h j) ≤ 4)) => ?_)
              · refine lv_iinc (v := nI (h + 1)) (lv' := [(1, .int (nI (h + 1))), (0, .ref (a 70)), (2, .int (m_mny (τ 1) h j)), (3, .int (nI j))]) hC.1 hC.2.1 dX11_firstUnsafe_83 hl (k := 1) rfl (nI_add _ _) (by decide) rfl (fun ls hl => ?_)
                refine lv_goto (tgt := 2) hC.1 hC.2.1 dX11_firstUnsafe_86 (by decide) ?_
                exact ih2 (h + 1) (by omega) (fun x q => by by_cases e : x = h; (subst e; rw [show nj = j by omega]; exact c35); exact hNG x (by omega)) (by omega) _ _ _ hw (lv_sub hl [1, 0] rfl)
              · refine lv_bipush (v := (-4)) hC.1 hC.2.1 dX11_firstUnsafe_80 (by decide) ?_
                refine hret _ _ _ _ _ _ hw ?_ rfl dX11_firstUnsafe_82
                exact ⟨Or.inl ⟨⟨h, by omega, by rw [show nj = j by omega]; exact c35⟩, rfl⟩, τ 4, τ 5, τ 6, τ 7, τ 8, τ 9, τ 0 4, τ 0 5, by simp only [sr_id, upd_id]⟩
            · refine lv_iload_n hC.1 hC.2.1 dX11_firstUnsafe_26 rfl (lv_at hl 2 rfl) ?_
              refine lv_aload_n hC.1 hC.2.1 dX11_firstUnsafe_27 rfl (lv_at hl 0 rfl) ?_
              refine gf_X11_7 hC hw dX11_firstUnsafe_28 ?_
              refine lv_bipush (v := nI 56) hC.1 hC.2.1 dX11_firstUnsafe_31 (by decide) ?_
              refine lv_iload_n hC.1 hC.2.1 dX11_firstUnsafe_33 rfl (lv_at hl 1 rfl) ?_
              refine q_addN hC dX11_firstUnsafe_34 ?_
              refine al_M1 (v := eM (τ 1) 4 h) hC hw (by omega) (show _ = eM (τ 1) 4 h from congrArg (τ 1) (by omega)) dX11_firstUnsafe_35 ?_
              refine lv_iconst (v := nI 1) hC.1 hC.2.1 dX11_firstUnsafe_36 (by decide) ?_
              have J67_37 : ∀ (w36 : Int32), w36 = (if ((eM (τ 1) 4 h) = 1) ∧ ((eM (τ 1) 11 j = 1 ∧ eM (τ 1) 12 j = nI h) ∧ (¬ ((eM (τ 1) 5 j) = 3))) then (1 : Int32) else 0) → ∀ (H : Heap) (locs : List Loc) (ls : Array Slot), Wst E (MW E a) (τ) A s.heap H locs → lv_has ls 4 [(0, .ref (a 70)), (1, .int (nI h)), (2, .int (m_mny (τ 1) h j)), (3, .int (nI j))] → W p l e ({ frames := 5, cells := 0, slots := 0, locals := 119 }) s m args below meth c H locs 0 0 Q (F0 m 67 ls [.int (w36), .int (m_mny (τ 1) h j)]) := by
                intro w36 e37 H locs ls hw hl
                subst e37
                refine lv_iadd hC.1 hC.2.1 dX11_firstUnsafe_67 ?_
                refine lv_istore_n (lv' := [(2, .int ((m_mny (τ 1) h j) + (if ((eM (τ 1) 4 h) = 1) ∧ ((eM (τ 1) 11 j = 1 ∧ eM (τ 1) 12 j = nI h) ∧ (¬ ((eM (τ 1) 5 j) = 3))) then (1 : Int32) else 0))), (0, .ref (a 70)), (1, .int (nI h)), (3, .int (nI j))]) hC.1 hC.2.1 dX11_firstUnsafe_68 rfl hl (by decide) rfl (fun ls hl => ?_)
                refine lv_iinc (v := nI (j + 1)) (lv' := [(3, .int (nI (j + 1))), (2, .int ((m_mny (τ 1) h j) + (if ((eM (τ 1) 4 h) = 1) ∧ ((eM (τ 1) 11 j = 1 ∧ eM (τ 1) 12 j = nI h) ∧ (¬ ((eM (τ 1) 5 j) = 3))) then (1 : Int32) else 0))), (0, .ref (a 70)), (1, .int (nI h))]) hC.1 hC.2.1 dX11_firstUnsafe_69 hl (k := 3) rfl (nI_add _ _) (by decide) rfl (fun ls hl => ?_)
                refine lv_goto (tgt := 16) hC.1 hC.2.1 dX11_firstUnsafe_72 (by decide) ?_
                exact ih16 (j + 1) ((m_mny (τ 1) h j) + (if ((eM (τ 1) 4 h) = 1) ∧ ((eM (τ 1) 11 j = 1 ∧ eM (τ 1) 12 j = nI h) ∧ (¬ ((eM (τ 1) 5 j) = 3))) then (1 : Int32) else 0)) rfl (by omega) (by omega) _ _ _ hw (lv_sub hl [2, 3, 1, 0] rfl)
              refine q_cmpne hC 66 cI dX11_firstUnsafe_37 (by decide) (fun (c38 : ¬ ((eM (τ 1) 4 h) = 1)) => ?_) (fun (c38 : (eM (τ 1) 4 h) = 1) => ?_)
              · refine lv_iconst (v := nI 0) hC.1 hC.2.1 dX11_firstUnsafe_66 (by decide) ?_
                exact J67_37 _ (if_neg (fun q => c38 q.1)).symm _ _ _ hw (lv_sub hl [0, 1, 2, 3] rfl)
              · refine lv_aload_n hC.1 hC.2.1 dX11_firstUnsafe_40 rfl (lv_at hl 0 rfl) ?_
                refine lv_iload_n hC.1 hC.2.1 dX11_firstUnsafe_41 rfl (lv_at hl 3 rfl) ?_
                refine lv_iload_n hC.1 hC.2.1 dX11_firstUnsafe_42 rfl (lv_at hl 1 rfl) ?_
                refine q_callVp (As := [.int (nI j), .int (nI h)]) (rest := [.int (m_mny (τ 1) h j)]) (q0 := 0) hC hw hl (tX11_standsOn l E a τ nh nj j h (by first | assumption | omega) (by first | assumption | omega) (by first | assumption | omega)) (q_cwV hC.2.2.2.2.1 ⟨rfl, rfl⟩ wk4_210 wk4_212 wks_2_11 wk1_12 wk4_213 hd_X11_standsOn ⟨Nat.le_of_ble_eq_true rfl, Nat.le_of_ble_eq_true rfl⟩) rfl rfl rfl rfl rfl (Nat.le_of_ble_eq_true rfl) dX11_firstUnsafe_43 (fun H locs hw => ?_)
                refine q_ifeq hC 66 cB dX11_firstUnsafe_46 (by decide) (fun (c42 : ¬ (eM (τ 1) 11 j = 1 ∧ eM (τ 1) 12 j = nI h)) => ?_) (fun (c42 : eM (τ 1) 11 j = 1 ∧ eM (τ 1) 12 j = nI h) => ?_)
                · refine lv_iconst (v := nI 0) hC.1 hC.2.1 dX11_firstUnsafe_66 (by decide) ?_
                  exact J67_37 _ (if_neg (fun q => (fun q => c42 q.1) q.2)).symm _ _ _ hw (lv_sub hl [0, 1, 2, 3] rfl)
                · refine lv_aload_n hC.1 hC.2.1 dX11_firstUnsafe_49 rfl (lv_at hl 0 rfl) ?_
                  refine gf_X11_7 hC hw dX11_firstUnsafe_50 ?_
                  refine lv_bipush (v := nI 66) hC.1 hC.2.1 dX11_firstUnsafe_53 (by decide) ?_
                  refine lv_iload_n hC.1 hC.2.1 dX11_firstUnsafe_55 rfl (lv_at hl 3 rfl) ?_
                  refine q_addN hC dX11_firstUnsafe_56 ?_
                  refine al_M1 (v := eM (τ 1) 5 j) hC hw (by omega) (show _ = eM (τ 1) 5 j from congrArg (τ 1) (by omega)) dX11_firstUnsafe_57 ?_
                  refine lv_iconst (v := nI 3) hC.1 hC.2.1 dX11_firstUnsafe_58 (by decide) ?_
                  refine q_cmpeq hC 66 cI dX11_firstUnsafe_59 (by decide) (fun (c43 : (eM (τ 1) 5 j) = 3) => ?_) (fun (c43 : ¬ ((eM (τ 1) 5 j) = 3)) => ?_)
                  · refine lv_iconst (v := nI 0) hC.1 hC.2.1 dX11_firstUnsafe_66 (by decide) ?_
                    exact J67_37 _ (if_neg (fun q => (fun q => (fun q => q c43) q.2) q.2)).symm _ _ _ hw (lv_sub hl [0, 1, 2, 3] rfl)
                  · refine lv_iconst (v := nI 1) hC.1 hC.2.1 dX11_firstUnsafe_62 (by decide) ?_
                    refine lv_goto (tgt := 67) hC.1 hC.2.1 dX11_firstUnsafe_63 (by decide) ?_
                    exact J67_37 _ (if_pos ⟨c38, ⟨c42, c43⟩⟩).symm _ _ _ hw (lv_sub hl [0, 1, 2, 3] rfl)
        exact L16_32 _ 0 (nI 0) rfl (Nat.zero_le _) (Nat.lt_succ_self _) _ _ _ hw (lv_sub hl [2, 3, 1, 0] rfl)
  exact L2_0 _ 0 (Nat.zero_le _) (fun x q => absurd q (Nat.not_lt_zero _)) (Nat.lt_succ_self _) _ _ _ hw (lv_sub hl [1, 0] rfl)
set_option maxHeartbeats 4000000 in
set_option maxRecDepth 100000 in
theorem tX11_worst (l : Launch) (E : EV) (a : Nat → Nat) (τ : St) (nh : Nat) (nj : Nat) (hW : mF (τ 1) nh nj) (hU : ∀ h, h < nh → eM (τ 1) 4 h = 0 ∨ eM (τ 1) 4 h = 1) : MI l E (MW E a) yX11_worst (Cond.code yX11_worst cX11_worst 1 (some .int)) ({ frames := 6, cells := 0, slots := 0, locals := 142 }) [.ref (a 70)] τ (fun r_ u_ => FU (τ 1) nh nj r_ ∧ ∃ (r4 r5 s6 s7 s8 s9 : Nat → Int32) (z4 z5 : Int32), u_ = sr (sr (sr (sr (sr (sr (sr τ 4 r4) 5 r5) 6 s6) 7 s7) 8 s8) 9 s9) 0 (upd (upd (τ 0) 4 z4) 5 z5)) := by
  refine MI.mk (by decide +kernel) (Nat.le_of_ble_eq_true rfl) ?_
  intro p e s m args below meth c ls A Q hret hC hw hl
  have hC : Cxt E p s m args meth c cX11_worst 1 (some .int) RX11 A := hC
  have hl : lv_has ls 1 [(0, .ref (a 70))] := hl
  have ⟨hnh, hnj, hW0, hW1, hWh⟩ := id hW
  refine lv_aload_n hC.1 hC.2.1 dX11_worst_0 rfl (lv_at hl 0 rfl) ?_
  refine q_callV (As := []) (rest := []) (q0 := 0) hC hw hl (tX11_firstUnsafe l E a τ nh nj hW hU) (q_cwV hC.2.2.2.2.1 ⟨rfl, rfl⟩ wk5_76 wk5_78 wks_3_10 wk1_12 wk5_79 hd_X11_firstUnsafe ⟨Nat.le_of_ble_eq_true rfl, Nat.le_of_ble_eq_true rfl⟩) rfl rfl rfl rfl rfl (Nat.le_of_ble_eq_true rfl) dX11_worst_1 (fun r2 u3 H locs p1 hw => ?_)
  obtain ⟨hrr2, x4, x5, x6, x7, x8, x9, x10, x11, hur2⟩ := p1
  rw [sr_id] at hur2
  rw [hur2] at hw
  refine hret _ _ _ _ _ _ hw ?_ rfl dX11_worst_4
  exact ⟨hrr2, x4, x5, x6, x7, x8, x9, x10, x11, rfl⟩
set_option maxHeartbeats 4000000 in
set_option maxRecDepth 100000 in
theorem tX11_safe (l : Launch) (E : EV) (a : Nat → Nat) (τ : St) (nh : Nat) (nj : Nat) (hW : mF (τ 1) nh nj) (hU : ∀ h, h < nh → eM (τ 1) 4 h = 0 ∨ eM (τ 1) 4 h = 1) : MI l E (MW E a) yX11_safe (Cond.code yX11_safe cX11_safe 2 (some .int)) ({ frames := 6, cells := 0, slots := 0, locals := 142 }) [.ref (a 70)] τ (fun r_ u_ => (∃ r, FU (τ 1) nh nj r ∧ r_ = (if r = -4 then -4 else if r = -3 then 1 else 0)) ∧ ∃ (r4 r5 s6 s7 s8 s9 : Nat → Int32) (z4 z5 : Int32), u_ = sr (sr (sr (sr (sr (sr (sr τ 4 r4) 5 r5) 6 s6) 7 s7) 8 s8) 9 s9) 0 (upd (upd (τ 0) 4 z4) 5 z5)) := by
  refine MI.mk (by decide +kernel) (Nat.le_of_ble_eq_true rfl) ?_
  intro p e s m args below meth c ls A Q hret hC hw hl
  have hC : Cxt E p s m args meth c cX11_safe 2 (some .int) RX11 A := hC
  have hl : lv_has ls 2 [(0, .ref (a 70))] := hl
  have ⟨hnh, hnj, hW0, hW1, hWh⟩ := id hW
  refine lv_aload_n hC.1 hC.2.1 dX11_safe_0 rfl (lv_at hl 0 rfl) ?_
  refine q_callV (As := []) (rest := []) (q0 := 0) hC hw hl (tX11_firstUnsafe l E a τ nh nj hW hU) (q_cwV hC.2.2.2.2.1 ⟨rfl, rfl⟩ wk5_76 wk5_78 wks_3_10 wk1_12 wk5_79 hd_X11_firstUnsafe ⟨Nat.le_of_ble_eq_true rfl, Nat.le_of_ble_eq_true rfl⟩) rfl rfl rfl rfl rfl (Nat.le_of_ble_eq_true rfl) dX11_safe_1 (fun r2 u3 H locs p1 hw => ?_)
  obtain ⟨hrr2, x4, x5, x6, x7, x8, x9, x10, x11, hur2⟩ := p1
  rw [sr_id] at hur2
  rw [hur2] at hw
  refine lv_istore_n (lv' := [(1, .int (r2)), (0, .ref (a 70))]) hC.1 hC.2.1 dX11_safe_4 rfl hl (by decide) rfl (fun ls hl => ?_)
  refine lv_iload_n hC.1 hC.2.1 dX11_safe_5 rfl (lv_at hl 0 rfl) ?_
  refine lv_bipush (v := (-4)) hC.1 hC.2.1 dX11_safe_6 (by decide) ?_
  have J27_13 : ∀ (w12 : Int32), w12 = (if r2 = (-4) then (-4) else (if r2 = (-3) then 1 else 0)) → ∀ (H : Heap) (locs : List Loc) (ls : Array Slot), Wst E (MW E a) (sr (sr (sr (sr (sr (sr (sr τ 4 (x4)) 5 (x5)) 6 (x6)) 7 (x7)) 8 (x8)) 9 (x9)) 0 (upd (upd (τ 0) 4 (x10)) 5 (x11))) A s.heap H locs → lv_has ls 2 [(0, .ref (a 70)), (1, .int (r2))] → W p l e ({ frames := 6, cells := 0, slots := 0, locals := 142 }) s m args below meth c H locs 0 0 Q (F0 m 27 ls [.int (w12)]) := by
    intro w12 e13 H locs ls hw hl
    subst e13
    refine hret _ _ _ _ _ _ hw ?_ rfl dX11_safe_27
    exact ⟨⟨_, hrr2, by first | rfl | simp⟩, x4, x5, x6, x7, x8, x9, x10, x11, rfl⟩
  refine q_cmpne hC 16 cI dX11_safe_8 (by decide) (fun (c14 : ¬ (r2 = (-4))) => ?_) (fun (c14 : r2 = (-4)) => ?_)
  · refine lv_iload_n hC.1 hC.2.1 dX11_safe_16 rfl (lv_at hl 0 rfl) ?_
    refine lv_bipush (v := (-3)) hC.1 hC.2.1 dX11_safe_17 (by decide) ?_
    refine q_cmpne hC 26 cI dX11_safe_19 (by decide) (fun (c15 : ¬ (r2 = (-3))) => ?_) (fun (c15 : r2 = (-3)) => ?_)
    · refine lv_iconst (v := nI 0) hC.1 hC.2.1 dX11_safe_26 (by decide) ?_
      exact J27_13 _ (by (rw [if_neg c14, if_neg c15]) <;> rfl) _ _ _ hw (lv_sub hl [1, 0] rfl)
    · refine lv_iconst (v := nI 1) hC.1 hC.2.1 dX11_safe_22 (by decide) ?_
      refine lv_goto (tgt := 27) hC.1 hC.2.1 dX11_safe_23 (by decide) ?_
      exact J27_13 _ (by (rw [if_neg c14, if_pos c15]) <;> rfl) _ _ _ hw (lv_sub hl [1, 0] rfl)
  · refine lv_bipush (v := (-4)) hC.1 hC.2.1 dX11_safe_11 (by decide) ?_
    refine lv_goto (tgt := 27) hC.1 hC.2.1 dX11_safe_13 (by decide) ?_
    exact J27_13 _ (by (rw [if_pos c14]) <;> rfl) _ _ _ hw (lv_sub hl [1, 0] rfl)
