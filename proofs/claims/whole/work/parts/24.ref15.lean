/-! ===== what would make a no a yes ===== -/
abbrev Pj (v : Nat → Int32) (j : Nat) : Nat → Int32 := pB (eM v) (nI j)
/-- j tolerates one more taint -/
abbrev tnE (v : Nat → Int32) (j b : Nat) : St := sr (eM v) 9 (upd (eM v 9) j (eM v 9 j ||| (1 <<< (nI b &&& 31))))
/-- j asks for no more than is left -/
abbrev amE (v : Nat → Int32) (nj j h i : Nat) : St := sr (eM v) 6 (upd (eM v 6) (3 * j + i) (m_left (eM v) (Pj v j) nj h i))
def ftT (v : Nat → Int32) (nh nj j b h : Nat) : Prop := m_why (tnE v j b) (Pj v j) nh nj j h = 0
def ftA (v : Nat → Int32) (nh nj j h i : Nat) : Prop := m_why (eM v) (Pj v j) nh nj j h = nI (3 + i) ∧ m_why (amE v nj j h i) (Pj v j) nh nj j h = 0
def lsA (v : Nat → Int32) (nj j h i : Nat) : Int32 := eM v 6 (3 * j + i) - m_left (eM v) (Pj v j) nj h i
def ftG (v : Nat → Int32) (nh nj j k h : Nat) : Prop := eM v 11 k = 1 ∧ m_why (eM v) (upd (Pj v j) k (-1)) nh nj j h = 0
/-- the first of two numbers -/
def Fst (m n : Nat) (P : Nat → Nat → Prop) (x y : Nat) : Prop := x < m ∧ y < n ∧ P x y ∧ (∀ x', x' < x → ∀ y', y' < n → ¬ P x' y') ∧ ∀ y', y' < y → ¬ P x y'
theorem Fst.uniq {m n : Nat} {P : Nat → Nat → Prop} {x y x' y' : Nat} (h : Fst m n P x y) (h' : Fst m n P x' y') : x = x' ∧ y = y' := by
  obtain ⟨a1, a2, a3, a4, a5⟩ := h
  obtain ⟨b1, b2, b3, b4, b5⟩ := h'
  have e : x = x' := by
    rcases Nat.lt_trichotomy x x' with q | q | q
    · exact absurd a3 (b4 x q y a2)
    · exact q
    · exact absurd b3 (a4 x' q y' b2)
  subst e
  refine ⟨rfl, ?_⟩
  rcases Nat.lt_trichotomy y y' with q | q | q
  · exact absurd a3 (b5 y q)
  · exact q
  · exact absurd b3 (a5 y' q)
/-- the least change of an amount, of the first host -/
def BsA (v : Nat → Int32) (nj j n : Nat) (A : Nat → Nat → Prop) (h i : Nat) : Prop := h < n ∧ i < 3 ∧ A h i ∧ (∀ h', h' < n → ∀ i', i' < 3 → A h' i' → lsA v nj j h i ≤ lsA v nj j h' i') ∧ ∀ h', h' < h → ∀ i', i' < 3 → A h' i' → lsA v nj j h i < lsA v nj j h' i'
def ch4 (c : Nat → Int32) (x0 x1 x2 x3 : Int32) : Prop := c 0 = x0 ∧ c 1 = x1 ∧ c 2 = x2 ∧ c 3 = x3
/-- what would answers, and tells -/
def WDr (v : Nat → Int32) (nh nj j : Nat) (r : Int32) (c : Nat → Int32) : Prop :=
  (∃ b h, Fst 8 nh (ftT v nh nj j) b h ∧ r = 1 ∧ ch4 c 1 (nI b) (nI h) 0) ∨ ((∀ b h, b < 8 → h < nh → ¬ ftT v nh nj j b h) ∧
    ((∃ h i, BsA v nj j nh (ftA v nh nj j) h i ∧ r = 1 ∧ ch4 c 2 (nI i) (nI h) (lsA v nj j h i)) ∨ ((∀ h i, h < nh → i < 3 → ¬ ftA v nh nj j h i) ∧
      ((∃ k h, Fst nj nh (ftG v nh nj j) k h ∧ r = 1 ∧ ch4 c 3 (nI k) (nI h) 0) ∨ ((∀ k h, k < nj → h < nh → ¬ ftG v nh nj j k h) ∧ r = 0)))))
theorem ch4_t {f : Nat → Int32} {x0 x1 x2 x3 : Int32} : ch4 (upd (upd (upd (upd f 0 x0) 1 x1) 2 x2) 3 x3) x0 x1 x2 x3 := ⟨rfl, rfl, rfl, rfl⟩
theorem tn_why {v : Nat → Int32} {nh nj j h : Nat} {x : Int32} (hW : mF v nh nj) (hj : j < nj) (hh : h < nh) : m_why (eM (upd v (210 + j) x)) (pB (eM (upd v (210 + j) x)) (nI j)) nh nj j h = m_why (sr (eM v) 9 (upd (eM v 9) j x)) (Pj v j) nh nj j h := by
  have h24 := hW.2.1; have h10 := hW.1
  refine m_why_congr ⟨fun y hy => ?_, fun y hy => ?_⟩ (fun y hy => ?_) (pB_ok (hW.put (by omega) (by omega))) h10 hj hh
  · exact ⟨fun i hi => upn (by omega), upn (by omega), upn (by omega), upn (by omega)⟩
  · refine ⟨fun i hi => upn (by omega), upn (by omega), upn (by omega), ?_, upn (by omega)⟩
    show upd v (210 + j) x (210 + y) = upd (eM v 9) j x y
    by_cases e : y = j
    · subst e; rw [ups, ups]
    · rw [upn (by omega), upn e]; rfl
  · have e1 : eM (upd v (210 + j) x) 11 y = eM v 11 y := upn (by omega)
    have e2 : eM (upd v (210 + j) x) 12 y = eM v 12 y := upn (by omega)
    show pB _ _ y = pB _ _ y
    unfold pB; rw [e1, e2]
theorem am_why {v : Nat → Int32} {nh nj j h i : Nat} {x : Int32} (hW : mF v nh nj) (hj : j < nj) (hh : h < nh) (hi : i < 3) : m_why (eM (upd v (90 + (3 * j + i)) x)) (pB (eM (upd v (90 + (3 * j + i)) x)) (nI j)) nh nj j h = m_why (sr (eM v) 6 (upd (eM v 6) (3 * j + i) x)) (Pj v j) nh nj j h := by
  have h24 := hW.2.1; have h10 := hW.1
  refine m_why_congr ⟨fun y hy => ?_, fun y hy => ?_⟩ (fun y hy => ?_) (pB_ok (hW.put (by omega) (by omega))) h10 hj hh
  · exact ⟨fun i hi => upn (by omega), upn (by omega), upn (by omega), upn (by omega)⟩
  · refine ⟨fun i' hi' => ?_, upn (by omega), upn (by omega), upn (by omega), upn (by omega)⟩
    show upd v (90 + (3 * j + i)) x (90 + (3 * y + i')) = upd (eM v 6) (3 * j + i) x (3 * y + i')
    by_cases e : 3 * y + i' = 3 * j + i
    · rw [e, ups, ups]
    · rw [upn (by omega), upn e]; rfl
  · have e1 : eM (upd v (90 + (3 * j + i)) x) 11 y = eM v 11 y := upn (by omega)
    have e2 : eM (upd v (90 + (3 * j + i)) x) 12 y = eM v 12 y := upn (by omega)
    show pB _ _ y = pB _ _ y
    unfold pB; rw [e1, e2]
theorem mF.off {v : Nat → Int32} {nh nj k : Nat} {x : Int32} (hW : mF v nh nj) (hk : k < nj) (hx : x ≠ 1) : mF (upd v (258 + k) x) nh nj := by
  obtain ⟨h1, h2, h3, h4, h5⟩ := hW
  refine ⟨h1, h2, (upn (by omega)).trans h3, (upn (by omega)).trans h4, fun y hy hs => ?_⟩
  by_cases e : y = k
  · subst e; rw [ups] at hs; exact absurd hs hx
  · rw [upn (by omega)] at hs; rw [upn (by omega)]; exact h5 y hy hs
theorem g_why {v : Nat → Int32} {nh nj j h k : Nat} (hW : mF v nh nj) (hj : j < nj) (hk : k < nj) (hh : h < nh) : m_why (eM (upd v (258 + k) 2)) (pB (eM (upd v (258 + k) 2)) (nI j)) nh nj j h = m_why (eM v) (upd (Pj v j) k (-1)) nh nj j h := by
  have h24 := hW.2.1; have h10 := hW.1
  refine m_why_congr ⟨fun y hy => ?_, fun y hy => ?_⟩ (fun y hy => ?_) (pB_ok (hW.off hk (by decide))) h10 hj hh
  · exact ⟨fun i hi => upn (by omega), upn (by omega), upn (by omega), upn (by omega)⟩
  · exact ⟨fun i hi => upn (by omega), upn (by omega), upn (by omega), upn (by omega), upn (by omega)⟩
  · have e2 : eM (upd v (258 + k) 2) 12 y = eM v 12 y := upn (by omega)
    show pB _ _ y = upd (pB _ _) k (-1) y
    by_cases e : y = k
    · subst e
      have e1 : eM (upd v (258 + y) 2) 11 y = 2 := ups
      rw [ups]; unfold pB; rw [e1]
      split
      · rfl
      · exact if_neg (by decide)
    · have e1 : eM (upd v (258 + k) 2) 11 y = eM v 11 y := upn (by omega)
      rw [upn e]; unfold pB; rw [e1, e2]
theorem why_35 {x : Int32} (h : ¬ x < 3 ∧ ¬ 5 < x) : ∃ i, i < 3 ∧ x = nI (3 + i) := by
  obtain ⟨i, hi, rfl⟩ := nI_of2 (x := x) (M := 5) (n := 5) (by decide) (fun z => h.1 (Int32.lt_of_lt_of_le z (by decide))) (Int32.not_lt.mp h.2)
  have : ¬ i < 3 := fun z => h.1 ((nI_ltI (by omega) (by decide : 3 < 2 ^ 31)).mpr z)
  exact ⟨i - 3, by omega, by rw [show 3 + (i - 3) = i by omega]⟩
theorem why_in {i : Nat} (hi : i < 3) : ¬ nI (3 + i) < 3 ∧ ¬ 5 < nI (3 + i) :=
  ⟨fun z => by have := (nI_ltI (by omega) (by decide : 3 < 2 ^ 31)).mp z; omega, fun z => by have := (nI_ltI (by decide : 5 < 2 ^ 31) (by omega)).mp z; omega⟩
section AM
variable {v c : Nat → Int32} {nh nj j h i : Nat} {al : Int32}
def AMi (v c : Nat → Int32) (nh nj j h : Nat) (al : Int32) : Prop := (al = 0 ∧ ∀ h' i, h' < h → i < 3 → ¬ ftA v nh nj j h' i) ∨ (al = 1 ∧ ∃ h0 i, BsA v nj j h (ftA v nh nj j) h0 i ∧ ch4 c 2 (nI i) (nI h0) (lsA v nj j h0 i))
theorem am_no (hal : AMi v c nh nj j h al) (hno : ∀ i', i' < 3 → ¬ ftA v nh nj j h i') : AMi v c nh nj j (h + 1) al := by
  rcases hal with ⟨a1, a2⟩ | ⟨a1, h0, i0, ⟨b1, b2, b3, b4, b5⟩, a3⟩
  · refine Or.inl ⟨a1, fun h' i' q1 q2 => ?_⟩
    by_cases e : h' = h
    · rw [e]; exact hno i' q2
    · exact a2 h' i' (by omega) q2
  · refine Or.inr ⟨a1, h0, i0, ⟨by omega, b2, b3, fun h' q1 i' q2 z => ?_, b5⟩, a3⟩
    by_cases e : h' = h
    · rw [e] at z; exact absurd z (hno i' q2)
    · exact b4 h' (by omega) i' q2 z
theorem am_keep (hal : AMi v c nh nj j h al) (h1 : ¬ al = 0) (hone : ∀ i', i' < 3 → ftA v nh nj j h i' → i' = i) (hle : c 3 ≤ lsA v nj j h i) : AMi v c nh nj j (h + 1) al := by
  rcases hal with ⟨a1, a2⟩ | ⟨a1, h0, i0, ⟨b1, b2, b3, b4, b5⟩, a3⟩
  · exact absurd a1 h1
  · refine Or.inr ⟨a1, h0, i0, ⟨by omega, b2, b3, fun h' q1 i' q2 z => ?_, b5⟩, a3⟩
    by_cases e : h' = h
    · rw [e] at z ⊢; rw [hone i' q2 z, ← a3.2.2.2]; exact hle
    · exact b4 h' (by omega) i' q2 z
theorem am_first (hal : AMi v c nh nj j h al) (h1 : al = 0) (hone : ∀ i', i' < 3 → ftA v nh nj j h i' → i' = i) (hi : i < 3) (hy : ftA v nh nj j h i) : AMi v (upd (upd (upd (upd c 0 2) 1 (nI i)) 2 (nI h)) 3 (lsA v nj j h i)) nh nj j (h + 1) 1 := by
  rcases hal with ⟨a1, a2⟩ | ⟨a1, -⟩
  · refine Or.inr ⟨rfl, h, i, ⟨by omega, hi, hy, fun h' q1 i' q2 z => ?_, fun h' q1 i' q2 z => absurd z (a2 h' i' q1 q2)⟩, ch4_t⟩
    by_cases e : h' = h
    · rw [e] at z ⊢; rw [hone i' q2 z]; exact Int32.le_refl _
    · exact absurd z (a2 h' i' (by omega) q2)
  · rw [h1] at a1; exact absurd a1 (by decide)
theorem am_less (hal : AMi v c nh nj j h al) (h1 : ¬ al = 0) (hone : ∀ i', i' < 3 → ftA v nh nj j h i' → i' = i) (hi : i < 3) (hy : ftA v nh nj j h i) (hlt : ¬ c 3 ≤ lsA v nj j h i) : AMi v (upd (upd (upd (upd c 0 2) 1 (nI i)) 2 (nI h)) 3 (lsA v nj j h i)) nh nj j (h + 1) 1 := by
  rcases hal with ⟨a1, a2⟩ | ⟨a1, h0, i0, ⟨b1, b2, b3, b4, b5⟩, a3⟩
  · exact absurd a1 h1
  · rw [a3.2.2.2] at hlt
    have hlt := Int32.not_le.mp hlt
    refine Or.inr ⟨rfl, h, i, ⟨by omega, hi, hy, fun h' q1 i' q2 z => ?_, fun h' q1 i' q2 z => Int32.lt_of_lt_of_le hlt (b4 h' q1 i' q2 z)⟩, ch4_t⟩
    by_cases e : h' = h
    · rw [e] at z ⊢; rw [hone i' q2 z]; exact Int32.le_refl _
    · exact Int32.le_of_lt (Int32.lt_of_lt_of_le hlt (b4 h' (by omega) i' q2 z))
end AM
set_option maxHeartbeats 4000000 in
set_option maxRecDepth 100000 in
theorem tX11_byTaint (l : Launch) (E : EV) (a : Nat → Nat) (τ : St) (nh : Nat) (nj : Nat) (j : Nat) (hW : mF (τ 1) nh nj) (hj : j < nj) : MI l E (MW E a) yX11_byTaint (Cond.code yX11_byTaint cX11_byTaint 6 (some .boolean)) ({ frames := 4, cells := 0, slots := 0, locals := 94 }) [.ref (a 70), .int (nI j)] τ (fun r_ u_ => ∃ c13 : Nat → Int32, ((∃ b h, Fst 8 nh (ftT (τ 1) nh nj j) b h ∧ r_ = 1 ∧ ch4 c13 1 (nI b) (nI h) 0) ∨ ((∀ b h, b < 8 → h < nh → ¬ ftT (τ 1) nh nj j b h) ∧ r_ = 0)) ∧ u_ = sr τ 13 c13) := by
  refine MI.mk (by decide +kernel) (Nat.le_of_ble_eq_true rfl) ?_
  intro p e s m args below meth c ls A Q hret hC hw hl
  have hC : Cxt E p s m args meth c cX11_byTaint 6 (some .boolean) RX11 A := hC
  have hl : lv_has ls 6 [(0, .ref (a 70)), (1, .int (nI j))] := hl
  have ⟨hnh, hnj, hW0, hW1, hWh⟩ := id hW
  refine lv_aload_n hC.1 hC.2.1 dX11_byTaint_0 rfl (lv_at hl 0 rfl) ?_
  refine gf_X11_7 hC hw dX11_byTaint_1 ?_
  refine lv_sipush (v := nI 210) hC.1 hC.2.1 dX11_byTaint_4 (by decide) ?_
  refine lv_iload_n hC.1 hC.2.1 dX11_byTaint_7 rfl (lv_at hl 1 rfl) ?_
  refine q_addN hC dX11_byTaint_8 ?_
  refine al_M1 (v := eM (τ 1) 9 j) hC hw (by omega) (show _ = eM (τ 1) 9 j from congrArg (τ 1) (by omega)) dX11_byTaint_9 ?_
  refine lv_istore_n (lv' := [(2, .int (eM (τ 1) 9 j)), (0, .ref (a 70)), (1, .int (nI j))]) hC.1 hC.2.1 dX11_byTaint_10 rfl hl (by decide) rfl (fun ls hl => ?_)
  refine lv_iconst (v := nI 0) hC.1 hC.2.1 dX11_byTaint_11 (by decide) ?_
  refine lv_istore_n (lv' := [(3, .int (nI 0)), (2, .int (eM (τ 1) 9 j)), (0, .ref (a 70)), (1, .int (nI j))]) hC.1 hC.2.1 dX11_byTaint_12 rfl hl (by decide) rfl (fun ls hl => ?_)
  have L13_0 : ∀ (n : Nat), ∀ (b : Nat), (b ≤ 8) → (∀ b' h', b' < b → h' < nh → ¬ ftT (τ 1) nh nj j b' h') → (8 - b) < n → ∀ (H : Heap) (locs : List Loc) (ls : Array Slot), Wst E (MW E a) (sr τ 1 (τ 1)) A s.heap H locs → lv_has ls 6 [(0, .ref (a 70)), (1, .int (nI j)), (2, .int (eM (τ 1) 9 j)), (3, .int (nI b))] → W p l e ({ frames := 4, cells := 0, slots := 0, locals := 94 }) s m args below meth c H locs 0 0 Q (F0 m 13 ls []) := by
    intro n
    induction n with
    | zero => intro b hb hnb hn; exact absurd hn (Nat.not_lt_zero _)
    | succ n ih13 =>
      intro b hb hnb hn13 H locs ls hw hl
      refine lv_iload_n hC.1 hC.2.1 dX11_byTaint_13 rfl (lv_at hl 3 rfl) ?_
      refine lv_bipush (v := nI 8) hC.1 hC.2.1 dX11_byTaint_14 (by decide) ?_
      refine q_cmpge hC 103 (cNle (by omega) (by omega)) dX11_byTaint_16 (by decide) (fun (c2 : 8 ≤ b) => ?_) (fun (c2 : b < 8) => ?_)
      · refine lv_iconst (v := nI 0) hC.1 hC.2.1 dX11_byTaint_103 (by decide) ?_
        refine hret _ _ _ _ _ _ hw ?_ (by decide) dX11_byTaint_104
        refine ⟨τ 13, Or.inr ⟨fun b' h' hb hh => hnb b' h' (by omega) hh, rfl⟩, ?_⟩
        funext j_ x_
        by_cases e0 : j_ = 0
        · subst e0
          rfl
        · by_cases e1 : j_ = 1
          · subst e1; rfl
          · by_cases e13 : j_ = 13
            · subst e13; rfl
            · simp only [sr, e0, e1, e13, if_false]
      · refine lv_iconst (v := nI 0) hC.1 hC.2.1 dX11_byTaint_19 (by decide) ?_
        refine lv_istore (lv' := [(4, .int (nI 0)), (0, .ref (a 70)), (1, .int (nI j)), (2, .int (eM (τ 1) 9 j)), (3, .int (nI b))]) hC.1 hC.2.1 dX11_byTaint_20 hl (by decide) rfl (fun ls hl => ?_)
        have L22_2 : ∀ (n : Nat), ∀ (h : Nat), (h ≤ nh) → (∀ h', h' < h → ¬ ftT (τ 1) nh nj j b h') → (nh - h) < n → ∀ (H : Heap) (locs : List Loc) (ls : Array Slot), Wst E (MW E a) (sr τ 1 (τ 1)) A s.heap H locs → lv_has ls 6 [(0, .ref (a 70)), (1, .int (nI j)), (2, .int (eM (τ 1) 9 j)), (3, .int (nI b)), (4, .int (nI h))] → W p l e ({ frames := 4, cells := 0, slots := 0, locals := 94 }) s m args below meth c H locs 0 0 Q (F0 m 22 ls []) := by
          intro n
          induction n with
          | zero => intro h hh hnh2 hn; exact absurd hn (Nat.not_lt_zero _)
          | succ n ih22 =>
            intro h hh hnh2 hn22 H locs ls hw hl
            refine lv_iload hC.1 hC.2.1 dX11_byTaint_22 (lv_at hl 4 rfl) ?_
            refine lv_aload_n hC.1 hC.2.1 dX11_byTaint_24 rfl (lv_at hl 0 rfl) ?_
            refine gf_X11_7 hC hw dX11_byTaint_25 ?_
            refine lv_iconst (v := nI 0) hC.1 hC.2.1 dX11_byTaint_28 (by decide) ?_
            refine al_M1 (v := nI nh) hC hw (by omega) hW.2.2.1 dX11_byTaint_29 ?_
            refine q_cmpge hC 97 (cNle (by omega) (by omega)) dX11_byTaint_30 (by decide) (fun (c4 : nh ≤ h) => ?_) (fun (c4 : h < nh) => ?_)
            · refine lv_iinc (v := nI (b + 1)) (lv' := [(3, .int (nI (b + 1))), (0, .ref (a 70)), (1, .int (nI j)), (2, .int (eM (τ 1) 9 j)), (4, .int (nI h))]) hC.1 hC.2.1 dX11_byTaint_97 hl (k := 3) rfl (nI_add _ _) (by decide) rfl (fun ls hl => ?_)
              refine lv_goto (tgt := 13) hC.1 hC.2.1 dX11_byTaint_100 (by decide) ?_
              exact ih13 (b + 1) (by omega) (fun x y q1 q2 => by by_cases e : x = b; (subst e; exact hnh2 y (by omega)); exact hnb x y (by omega) q2) (by omega) _ _ _ hw (lv_sub hl [1, 2, 3, 0] rfl)
            · refine lv_aload_n hC.1 hC.2.1 dX11_byTaint_33 rfl (lv_at hl 0 rfl) ?_
              refine gf_X11_7 hC hw dX11_byTaint_34 ?_
              refine lv_sipush (v := nI 210) hC.1 hC.2.1 dX11_byTaint_37 (by decide) ?_
              refine lv_iload_n hC.1 hC.2.1 dX11_byTaint_40 rfl (lv_at hl 1 rfl) ?_
              refine q_addN hC dX11_byTaint_41 ?_
              refine lv_iload_n hC.1 hC.2.1 dX11_byTaint_42 rfl (lv_at hl 2 rfl) ?_
              refine lv_iconst (v := nI 1) hC.1 hC.2.1 dX11_byTaint_43 (by decide) ?_
              refine lv_iload_n hC.1 hC.2.1 dX11_byTaint_44 rfl (lv_at hl 3 rfl) ?_
              refine lv_ishl hC.1 hC.2.1 dX11_byTaint_45 ?_
              refine lv_ior hC.1 hC.2.1 dX11_byTaint_46 ?_
              refine as_M1 hC hw (by omega) dX11_byTaint_47 (fun H locs hw => ?_)
              have hw : Wst E (MW E a) (sr τ 1 (upd (τ 1) (210 + j) ((eM (τ 1) 9 j) ||| (1 <<< ((nI b) &&& 31))))) A s.heap H locs := hw
              refine lv_aload_n hC.1 hC.2.1 dX11_byTaint_48 rfl (lv_at hl 0 rfl) ?_
              refine lv_iload_n hC.1 hC.2.1 dX11_byTaint_49 rfl (lv_at hl 1 rfl) ?_
              refine lv_iload hC.1 hC.2.1 dX11_byTaint_50 (lv_at hl 4 rfl) ?_
              have hW9 := hW.put (k := 210 + j) (x := (eM (τ 1) 9 j ||| (1 <<< (nI b &&& 31)))) (by omega) (by omega)
              refine q_callVp (As := [.int (nI j), .int (nI h)]) (rest := []) (q0 := 0) hC hw hl (tX11_whyNot l E a (sr τ 1 (upd (τ 1) (210 + j) ((eM (τ 1) 9 j) ||| (1 <<< ((nI b) &&& 31))))) nh nj j h hW9 (by first | assumption | omega) (by first | assumption | omega)) (q_cwV hC.2.2.2.2.1 ⟨rfl, rfl⟩ wk4_202 wk4_204 wks_2_9 wk1_12 wk4_205 hd_X11_whyNot ⟨Nat.le_of_ble_eq_true rfl, Nat.le_of_ble_eq_true rfl⟩) rfl rfl rfl rfl rfl (Nat.le_of_ble_eq_true rfl) dX11_byTaint_52 (fun H locs hw => ?_)
              have J63_9 : ∀ (w8 : Int32), w8 = (if (m_why (eM (upd (τ 1) (210 + j) ((eM (τ 1) 9 j) ||| (1 <<< ((nI b) &&& 31))))) (pB (eM (upd (τ 1) (210 + j) ((eM (τ 1) 9 j) ||| (1 <<< ((nI b) &&& 31))))) (nI j)) nh nj j h) = 0 then (1 : Int32) else 0) → ∀ (H : Heap) (locs : List Loc) (ls : Array Slot), Wst E (MW E a) (sr τ 1 (upd (τ 1) (210 + j) ((eM (τ 1) 9 j) ||| (1 <<< ((nI b) &&& 31))))) A s.heap H locs → lv_has ls 6 [(0, .ref (a 70)), (1, .int (nI j)), (2, .int (eM (τ 1) 9 j)), (3, .int (nI b)), (4, .int (nI h))] → W p l e ({ frames := 4, cells := 0, slots := 0, locals := 94 }) s m args below meth c H locs 0 0 Q (F0 m 63 ls [.int (w8)]) := by
                intro w8 e9 H locs ls hw hl
                subst e9
                refine lv_istore (lv' := [(5, .int (if (m_why (eM (upd (τ 1) (210 + j) ((eM (τ 1) 9 j) ||| (1 <<< ((nI b) &&& 31))))) (pB (eM (upd (τ 1) (210 + j) ((eM (τ 1) 9 j) ||| (1 <<< ((nI b) &&& 31))))) (nI j)) nh nj j h) = 0 then (1 : Int32) else 0)), (0, .ref (a 70)), (1, .int (nI j)), (2, .int (eM (τ 1) 9 j)), (3, .int (nI b)), (4, .int (nI h))]) hC.1 hC.2.1 dX11_byTaint_63 hl (by decide) rfl (fun ls hl => ?_)
                refine lv_aload_n hC.1 hC.2.1 dX11_byTaint_65 rfl (lv_at hl 1 rfl) ?_
                refine gf_X11_7 hC hw dX11_byTaint_66 ?_
                refine lv_sipush (v := nI 210) hC.1 hC.2.1 dX11_byTaint_69 (by decide) ?_
                refine lv_iload_n hC.1 hC.2.1 dX11_byTaint_72 rfl (lv_at hl 2 rfl) ?_
                refine q_addN hC dX11_byTaint_73 ?_
                refine lv_iload_n hC.1 hC.2.1 dX11_byTaint_74 rfl (lv_at hl 3 rfl) ?_
                refine as_M1 hC hw (by omega) dX11_byTaint_75 (fun H locs hw => ?_)
                have hw : Wst E (MW E a) (sr τ 1 (upd (upd (τ 1) (210 + j) ((eM (τ 1) 9 j) ||| (1 <<< ((nI b) &&& 31)))) (210 + j) (eM (τ 1) 9 j))) A s.heap H locs := hw
                have hU : upd (upd (τ 1) (210 + j) ((eM (τ 1) 9 j) ||| (1 <<< ((nI b) &&& 31)))) (210 + j) (eM (τ 1) 9 j) = τ 1 := by rw [upd_upd]; exact upd_id
                rw [hU] at hw
                refine lv_iload hC.1 hC.2.1 dX11_byTaint_76 (lv_at hl 0 rfl) ?_
                refine q_ifeq hC 91 cB dX11_byTaint_78 (by decide) (fun (c10 : ¬ ((m_why (eM (upd (τ 1) (210 + j) ((eM (τ 1) 9 j) ||| (1 <<< ((nI b) &&& 31))))) (pB (eM (upd (τ 1) (210 + j) ((eM (τ 1) 9 j) ||| (1 <<< ((nI b) &&& 31))))) (nI j)) nh nj j h) = 0)) => ?_) (fun (c10 : (m_why (eM (upd (τ 1) (210 + j) ((eM (τ 1) 9 j) ||| (1 <<< ((nI b) &&& 31))))) (pB (eM (upd (τ 1) (210 + j) ((eM (τ 1) 9 j) ||| (1 <<< ((nI b) &&& 31))))) (nI j)) nh nj j h) = 0) => ?_)
                · refine lv_iinc (v := nI (h + 1)) (lv' := [(4, .int (nI (h + 1))), (5, .int (if (m_why (eM (upd (τ 1) (210 + j) ((eM (τ 1) 9 j) ||| (1 <<< ((nI b) &&& 31))))) (pB (eM (upd (τ 1) (210 + j) ((eM (τ 1) 9 j) ||| (1 <<< ((nI b) &&& 31))))) (nI j)) nh nj j h) = 0 then (1 : Int32) else 0)), (0, .ref (a 70)), (1, .int (nI j)), (2, .int (eM (τ 1) 9 j)), (3, .int (nI b))]) hC.1 hC.2.1 dX11_byTaint_91 hl (k := 5) rfl (nI_add _ _) (by decide) rfl (fun ls hl => ?_)
                  refine lv_goto (tgt := 22) hC.1 hC.2.1 dX11_byTaint_94 (by decide) ?_
                  exact ih22 (h + 1) (by omega) (fun x q => by by_cases e : x = h; (subst e; exact fun z => c10 ((tn_why hW hj (show x < nh by omega)).trans z)); exact hnh2 x (by omega)) (by omega) _ _ _ hw (lv_sub hl [2, 3, 4, 5, 0] rfl)
                · refine lv_aload_n hC.1 hC.2.1 dX11_byTaint_81 rfl (lv_at hl 1 rfl) ?_
                  refine lv_iconst (v := nI 1) hC.1 hC.2.1 dX11_byTaint_82 (by decide) ?_
                  refine lv_iload_n hC.1 hC.2.1 dX11_byTaint_83 rfl (lv_at hl 4 rfl) ?_
                  refine lv_iload hC.1 hC.2.1 dX11_byTaint_84 (lv_at hl 5 rfl) ?_
                  refine lv_iconst (v := nI 0) hC.1 hC.2.1 dX11_byTaint_86 (by decide) ?_
                  refine q_callVp (As := [.int (nI 1), .int (nI b), .int (nI h), .int (nI 0)]) (rest := []) (q0 := 0) hC hw hl (tX11_tell l E a (sr τ 1 (τ 1)) 1 (nI b) (nI h) 0) (q_cwV hC.2.2.2.2.1 ⟨rfl, rfl⟩ wk5_148 wk5_150 wks_4_6 wk1_12 wk5_151 hd_X11_tell ⟨Nat.le_of_ble_eq_true rfl, Nat.le_of_ble_eq_true rfl⟩) rfl rfl rfl rfl rfl (Nat.le_of_ble_eq_true rfl) dX11_byTaint_87 (fun H locs hw => ?_)
                  have hw : Wst E (MW E a) (sr (sr τ 1 (τ 1)) 13 (upd (upd (upd (upd (τ 13) 0 1) 1 (nI b)) 2 (nI h)) 3 0)) A s.heap H locs := hw
                  refine hret _ _ _ _ _ _ hw ?_ nz_B dX11_byTaint_90
                  refine ⟨upd (upd (upd (upd (τ 13) 0 1) 1 (nI b)) 2 (nI h)) 3 0, Or.inl ⟨b, h, ⟨by omega, by omega, (tn_why hW hj (show h < nh by omega)).symm.trans c10, fun b' hb h' hh z => hnb b' h' hb hh z, hnh2⟩, rfl, ch4_t⟩, ?_⟩
                  funext j_ x_
                  by_cases e0 : j_ = 0
                  · subst e0
                    rfl
                  · by_cases e1 : j_ = 1
                    · subst e1; rfl
                    · by_cases e13 : j_ = 13
                      · subst e13; rfl
                      · simp only [sr, e0, e1, e13, if_false]
              refine q_ifne hC 62 cI dX11_byTaint_55 (by decide) (fun (c14 : ¬ ((m_why (eM (upd (τ 1) (210 + j) ((eM (τ 1) 9 j) ||| (1 <<< ((nI b) &&& 31))))) (pB (eM (upd (τ 1) (210 + j) ((eM (τ 1) 9 j) ||| (1 <<< ((nI b) &&& 31))))) (nI j)) nh nj j h) = 0)) => ?_) (fun (c14 : (m_why (eM (upd (τ 1) (210 + j) ((eM (τ 1) 9 j) ||| (1 <<< ((nI b) &&& 31))))) (pB (eM (upd (τ 1) (210 + j) ((eM (τ 1) 9 j) ||| (1 <<< ((nI b) &&& 31))))) (nI j)) nh nj j h) = 0) => ?_)
              · refine lv_iconst (v := nI 0) hC.1 hC.2.1 dX11_byTaint_62 (by decide) ?_
                exact J63_9 _ (if_neg c14).symm _ _ _ hw (lv_sub hl [0, 1, 2, 3, 4] rfl)
              · refine lv_iconst (v := nI 1) hC.1 hC.2.1 dX11_byTaint_58 (by decide) ?_
                refine lv_goto (tgt := 63) hC.1 hC.2.1 dX11_byTaint_59 (by decide) ?_
                exact J63_9 _ (if_pos c14).symm _ _ _ hw (lv_sub hl [0, 1, 2, 3, 4] rfl)
        exact L22_2 _ 0 (Nat.zero_le _) (fun x q => absurd q (Nat.not_lt_zero _)) (Nat.lt_succ_self _) _ _ _ hw (lv_sub hl [1, 2, 3, 4, 0] rfl)
  have hw : Wst E (MW E a) (sr τ 1 (τ 1)) A s.heap s.heap [] := by rw [sr_id]; exact hw
  exact L13_0 _ 0 (Nat.zero_le _) (fun x y q => absurd q (Nat.not_lt_zero _)) (Nat.lt_succ_self _) _ _ _ hw (lv_sub hl [2, 3, 1, 0] rfl)
set_option maxHeartbeats 4000000 in
set_option maxRecDepth 100000 in
theorem tX11_byEnd (l : Launch) (E : EV) (a : Nat → Nat) (τ : St) (nh : Nat) (nj : Nat) (j : Nat) (hW : mF (τ 1) nh nj) (hj : j < nj) : MI l E (MW E a) yX11_byEnd (Cond.code yX11_byEnd cX11_byEnd 5 (some .boolean)) ({ frames := 4, cells := 0, slots := 0, locals := 94 }) [.ref (a 70), .int (nI j)] τ (fun r_ u_ => ∃ c13 : Nat → Int32, ((∃ k h, Fst nj nh (ftG (τ 1) nh nj j) k h ∧ r_ = 1 ∧ ch4 c13 3 (nI k) (nI h) 0) ∨ ((∀ k h, k < nj → h < nh → ¬ ftG (τ 1) nh nj j k h) ∧ r_ = 0)) ∧ u_ = sr τ 13 c13) := by
  refine MI.mk (by decide +kernel) (Nat.le_of_ble_eq_true rfl) ?_
  intro p e s m args below meth c ls A Q hret hC hw hl
  have hC : Cxt E p s m args meth c cX11_byEnd 5 (some .boolean) RX11 A := hC
  have hl : lv_has ls 5 [(0, .ref (a 70)), (1, .int (nI j))] := hl
  have ⟨hnh, hnj, hW0, hW1, hWh⟩ := id hW
  refine lv_iconst (v := nI 0) hC.1 hC.2.1 dX11_byEnd_0 (by decide) ?_
  refine lv_istore_n (lv' := [(2, .int (nI 0)), (0, .ref (a 70)), (1, .int (nI j))]) hC.1 hC.2.1 dX11_byEnd_1 rfl hl (by decide) rfl (fun ls hl => ?_)
  have L2_0 : ∀ (n : Nat), ∀ (k : Nat), (k ≤ nj) → (∀ b' h', b' < k → h' < nh → ¬ ftG (τ 1) nh nj j b' h') → (nj - k) < n → ∀ (H : Heap) (locs : List Loc) (ls : Array Slot), Wst E (MW E a) (sr τ 1 (τ 1)) A s.heap H locs → lv_has ls 5 [(0, .ref (a 70)), (1, .int (nI j)), (2, .int (nI k))] → W p l e ({ frames := 4, cells := 0, slots := 0, locals := 94 }) s m args below meth c H locs 0 0 Q (F0 m 2 ls []) := by
    intro n
    induction n with
    | zero => intro k hk hnb hn; exact absurd hn (Nat.not_lt_zero _)
    | succ n ih2 =>
      intro k hk hnb hn2 H locs ls hw hl
      refine lv_iload_n hC.1 hC.2.1 dX11_byEnd_2 rfl (lv_at hl 2 rfl) ?_
      refine lv_aload_n hC.1 hC.2.1 dX11_byEnd_3 rfl (lv_at hl 0 rfl) ?_
      refine gf_X11_7 hC hw dX11_byEnd_4 ?_
      refine lv_iconst (v := nI 1) hC.1 hC.2.1 dX11_byEnd_7 (by decide) ?_
      refine al_M1 (v := nI nj) hC hw (by omega) hW.2.2.2.1 dX11_byEnd_8 ?_
      refine q_cmpge hC 105 (cNle (by omega) (by omega)) dX11_byEnd_9 (by decide) (fun (c2 : nj ≤ k) => ?_) (fun (c2 : k < nj) => ?_)
      · refine lv_iconst (v := nI 0) hC.1 hC.2.1 dX11_byEnd_105 (by decide) ?_
        refine hret _ _ _ _ _ _ hw ?_ (by decide) dX11_byEnd_106
        refine ⟨τ 13, Or.inr ⟨fun b' h' hb hh => hnb b' h' (by omega) hh, rfl⟩, ?_⟩
        funext j_ x_
        by_cases e0 : j_ = 0
        · subst e0
          rfl
        · by_cases e1 : j_ = 1
          · subst e1; rfl
          · by_cases e13 : j_ = 13
            · subst e13; rfl
            · simp only [sr, e0, e1, e13, if_false]
      · refine lv_aload_n hC.1 hC.2.1 dX11_byEnd_12 rfl (lv_at hl 0 rfl) ?_
        refine gf_X11_7 hC hw dX11_byEnd_13 ?_
        refine lv_sipush (v := nI 258) hC.1 hC.2.1 dX11_byEnd_16 (by decide) ?_
        refine lv_iload_n hC.1 hC.2.1 dX11_byEnd_19 rfl (lv_at hl 2 rfl) ?_
        refine q_addN hC dX11_byEnd_20 ?_
        refine al_M1 (v := eM (τ 1) 11 k) hC hw (by omega) (show _ = eM (τ 1) 11 k from congrArg (τ 1) (by omega)) dX11_byEnd_21 ?_
        refine lv_iconst (v := nI 1) hC.1 hC.2.1 dX11_byEnd_22 (by decide) ?_
        refine q_cmpeq hC 29 cI dX11_byEnd_23 (by decide) (fun (c3 : (eM (τ 1) 11 k) = 1) => ?_) (fun (c3 : ¬ ((eM (τ 1) 11 k) = 1)) => ?_)
        · refine lv_iconst (v := nI 0) hC.1 hC.2.1 dX11_byEnd_29 (by decide) ?_
          refine lv_istore_n (lv' := [(3, .int (nI 0)), (0, .ref (a 70)), (1, .int (nI j)), (2, .int (nI k))]) hC.1 hC.2.1 dX11_byEnd_30 rfl hl (by decide) rfl (fun ls hl => ?_)
          have L31_3 : ∀ (n : Nat), ∀ (h : Nat), (h ≤ nh) → (∀ h', h' < h → ¬ ftG (τ 1) nh nj j k h') → (nh - h) < n → ∀ (H : Heap) (locs : List Loc) (ls : Array Slot), Wst E (MW E a) (sr τ 1 (τ 1)) A s.heap H locs → lv_has ls 5 [(0, .ref (a 70)), (1, .int (nI j)), (2, .int (nI k)), (3, .int (nI h))] → W p l e ({ frames := 4, cells := 0, slots := 0, locals := 94 }) s m args below meth c H locs 0 0 Q (F0 m 31 ls []) := by
            intro n
            induction n with
            | zero => intro h hh hnh2 hn; exact absurd hn (Nat.not_lt_zero _)
            | succ n ih31 =>
              intro h hh hnh2 hn31 H locs ls hw hl
              refine lv_iload_n hC.1 hC.2.1 dX11_byEnd_31 rfl (lv_at hl 3 rfl) ?_
              refine lv_aload_n hC.1 hC.2.1 dX11_byEnd_32 rfl (lv_at hl 0 rfl) ?_
              refine gf_X11_7 hC hw dX11_byEnd_33 ?_
              refine lv_iconst (v := nI 0) hC.1 hC.2.1 dX11_byEnd_36 (by decide) ?_
              refine al_M1 (v := nI nh) hC hw (by omega) hW.2.2.1 dX11_byEnd_37 ?_
              refine q_cmpge hC 99 (cNle (by omega) (by omega)) dX11_byEnd_38 (by decide) (fun (c5 : nh ≤ h) => ?_) (fun (c5 : h < nh) => ?_)
              · refine lv_iinc (v := nI (k + 1)) (lv' := [(2, .int (nI (k + 1))), (0, .ref (a 70)), (1, .int (nI j)), (3, .int (nI h))]) hC.1 hC.2.1 dX11_byEnd_99 hl (k := 2) rfl (nI_add _ _) (by decide) rfl (fun ls hl => ?_)
                refine lv_goto (tgt := 2) hC.1 hC.2.1 dX11_byEnd_102 (by decide) ?_
                exact ih2 (k + 1) (by omega) (fun x y q1 q2 => by by_cases e : x = k; (subst e; exact hnh2 y (by omega)); exact hnb x y (by omega) q2) (by omega) _ _ _ hw (lv_sub hl [1, 2, 0] rfl)
              · refine lv_aload_n hC.1 hC.2.1 dX11_byEnd_41 rfl (lv_at hl 0 rfl) ?_
                refine gf_X11_7 hC hw dX11_byEnd_42 ?_
                refine lv_sipush (v := nI 258) hC.1 hC.2.1 dX11_byEnd_45 (by decide) ?_
                refine lv_iload_n hC.1 hC.2.1 dX11_byEnd_48 rfl (lv_at hl 2 rfl) ?_
                refine q_addN hC dX11_byEnd_49 ?_
                refine lv_iconst (v := nI 2) hC.1 hC.2.1 dX11_byEnd_50 (by decide) ?_
                refine as_M1 hC hw (by omega) dX11_byEnd_51 (fun H locs hw => ?_)
                have hw : Wst E (MW E a) (sr τ 1 (upd (τ 1) (258 + k) (2))) A s.heap H locs := hw
                refine lv_aload_n hC.1 hC.2.1 dX11_byEnd_52 rfl (lv_at hl 0 rfl) ?_
                refine lv_iload_n hC.1 hC.2.1 dX11_byEnd_53 rfl (lv_at hl 1 rfl) ?_
                refine lv_iload_n hC.1 hC.2.1 dX11_byEnd_54 rfl (lv_at hl 3 rfl) ?_
                have hW9 := hW.off (k := k) (x := 2) (by omega) (by decide)
                refine q_callVp (As := [.int (nI j), .int (nI h)]) (rest := []) (q0 := 0) hC hw hl (tX11_whyNot l E a (sr τ 1 (upd (τ 1) (258 + k) (2))) nh nj j h hW9 (by first | assumption | omega) (by first | assumption | omega)) (q_cwV hC.2.2.2.2.1 ⟨rfl, rfl⟩ wk4_202 wk4_204 wks_2_9 wk1_12 wk4_205 hd_X11_whyNot ⟨Nat.le_of_ble_eq_true rfl, Nat.le_of_ble_eq_true rfl⟩) rfl rfl rfl rfl rfl (Nat.le_of_ble_eq_true rfl) dX11_byEnd_55 (fun H locs hw => ?_)
                have J66_10 : ∀ (w9 : Int32), w9 = (if (m_why (eM (upd (τ 1) (258 + k) (2))) (pB (eM (upd (τ 1) (258 + k) (2))) (nI j)) nh nj j h) = 0 then (1 : Int32) else 0) → ∀ (H : Heap) (locs : List Loc) (ls : Array Slot), Wst E (MW E a) (sr τ 1 (upd (τ 1) (258 + k) (2))) A s.heap H locs → lv_has ls 5 [(0, .ref (a 70)), (1, .int (nI j)), (2, .int (nI k)), (3, .int (nI h))] → W p l e ({ frames := 4, cells := 0, slots := 0, locals := 94 }) s m args below meth c H locs 0 0 Q (F0 m 66 ls [.int (w9)]) := by
                  intro w9 e10 H locs ls hw hl
                  subst e10
                  refine lv_istore (lv' := [(4, .int (if (m_why (eM (upd (τ 1) (258 + k) (2))) (pB (eM (upd (τ 1) (258 + k) (2))) (nI j)) nh nj j h) = 0 then (1 : Int32) else 0)), (0, .ref (a 70)), (1, .int (nI j)), (2, .int (nI k)), (3, .int (nI h))]) hC.1 hC.2.1 dX11_byEnd_66 hl (by decide) rfl (fun ls hl => ?_)
                  refine lv_aload_n hC.1 hC.2.1 dX11_byEnd_68 rfl (lv_at hl 1 rfl) ?_
                  refine gf_X11_7 hC hw dX11_byEnd_69 ?_
                  refine lv_sipush (v := nI 258) hC.1 hC.2.1 dX11_byEnd_72 (by decide) ?_
                  refine lv_iload_n hC.1 hC.2.1 dX11_byEnd_75 rfl (lv_at hl 3 rfl) ?_
                  refine q_addN hC dX11_byEnd_76 ?_
                  refine lv_iconst (v := nI 1) hC.1 hC.2.1 dX11_byEnd_77 (by decide) ?_
                  refine as_M1 hC hw (by omega) dX11_byEnd_78 (fun H locs hw => ?_)
                  have hw : Wst E (MW E a) (sr τ 1 (upd (upd (τ 1) (258 + k) (2)) (258 + k) (1))) A s.heap H locs := hw
                  have hU : upd (upd (τ 1) (258 + k) (2)) (258 + k) (1) = τ 1 := by rw [upd_upd]; refine Eq.trans (congrArg (upd (τ 1) (258 + k)) ?_) upd_id; exact (Eq.symm c3)
                  rw [hU] at hw
                  refine lv_iload hC.1 hC.2.1 dX11_byEnd_79 (lv_at hl 0 rfl) ?_
                  refine q_ifeq hC 93 cB dX11_byEnd_81 (by decide) (fun (c11 : ¬ ((m_why (eM (upd (τ 1) (258 + k) (2))) (pB (eM (upd (τ 1) (258 + k) (2))) (nI j)) nh nj j h) = 0)) => ?_) (fun (c11 : (m_why (eM (upd (τ 1) (258 + k) (2))) (pB (eM (upd (τ 1) (258 + k) (2))) (nI j)) nh nj j h) = 0) => ?_)
                  · refine lv_iinc (v := nI (h + 1)) (lv' := [(3, .int (nI (h + 1))), (4, .int (if (m_why (eM (upd (τ 1) (258 + k) (2))) (pB (eM (upd (τ 1) (258 + k) (2))) (nI j)) nh nj j h) = 0 then (1 : Int32) else 0)), (0, .ref (a 70)), (1, .int (nI j)), (2, .int (nI k))]) hC.1 hC.2.1 dX11_byEnd_93 hl (k := 4) rfl (nI_add _ _) (by decide) rfl (fun ls hl => ?_)
                    refine lv_goto (tgt := 31) hC.1 hC.2.1 dX11_byEnd_96 (by decide) ?_
                    exact ih31 (h + 1) (by omega) (fun x q => by by_cases e : x = h; (subst e; exact fun z => c11 ((g_why hW hj (show k < nj by omega) (show x < nh by omega)).trans z.2)); exact hnh2 x (by omega)) (by omega) _ _ _ hw (lv_sub hl [2, 3, 4, 0] rfl)
                  · refine lv_aload_n hC.1 hC.2.1 dX11_byEnd_84 rfl (lv_at hl 1 rfl) ?_
                    refine lv_iconst (v := nI 3) hC.1 hC.2.1 dX11_byEnd_85 (by decide) ?_
                    refine lv_iload_n hC.1 hC.2.1 dX11_byEnd_86 rfl (lv_at hl 3 rfl) ?_
                    refine lv_iload_n hC.1 hC.2.1 dX11_byEnd_87 rfl (lv_at hl 4 rfl) ?_
                    refine lv_iconst (v := nI 0) hC.1 hC.2.1 dX11_byEnd_88 (by decide) ?_
                    refine q_callVp (As := [.int (nI 3), .int (nI k), .int (nI h), .int (nI 0)]) (rest := []) (q0 := 0) hC hw hl (tX11_tell l E a (sr τ 1 (τ 1)) 3 (nI k) (nI h) 0) (q_cwV hC.2.2.2.2.1 ⟨rfl, rfl⟩ wk5_148 wk5_150 wks_4_6 wk1_12 wk5_151 hd_X11_tell ⟨Nat.le_of_ble_eq_true rfl, Nat.le_of_ble_eq_true rfl⟩) rfl rfl rfl rfl rfl (Nat.le_of_ble_eq_true rfl) dX11_byEnd_89 (fun H locs hw => ?_)
                    have hw : Wst E (MW E a) (sr (sr τ 1 (τ 1)) 13 (upd (upd (upd (upd (τ 13) 0 3) 1 (nI k)) 2 (nI h)) 3 0)) A s.heap H locs := hw
                    refine hret _ _ _ _ _ _ hw ?_ nz_B dX11_byEnd_92
                    refine ⟨upd (upd (upd (upd (τ 13) 0 3) 1 (nI k)) 2 (nI h)) 3 0, Or.inl ⟨k, h, ⟨by omega, by omega, ⟨c3, (g_why hW hj (show k < nj by omega) (show h < nh by omega)).symm.trans c11⟩, fun b' hb h' hh z => hnb b' h' hb hh z, hnh2⟩, rfl, ch4_t⟩, ?_⟩
                    funext j_ x_
                    by_cases e0 : j_ = 0
                    · subst e0
                      rfl
                    · by_cases e1 : j_ = 1
                      · subst e1; rfl
                      · by_cases e13 : j_ = 13
                        · subst e13; rfl
                        · simp only [sr, e0, e1, e13, if_false]
                refine q_ifne hC 65 cI dX11_byEnd_58 (by decide) (fun (c15 : ¬ ((m_why (eM (upd (τ 1) (258 + k) (2))) (pB (eM (upd (τ 1) (258 + k) (2))) (nI j)) nh nj j h) = 0)) => ?_) (fun (c15 : (m_why (eM (upd (τ 1) (258 + k) (2))) (pB (eM (upd (τ 1) (258 + k) (2))) (nI j)) nh nj j h) = 0) => ?_)
                · refine lv_iconst (v := nI 0) hC.1 hC.2.1 dX11_byEnd_65 (by decide) ?_
                  exact J66_10 _ (if_neg c15).symm _ _ _ hw (lv_sub hl [0, 1, 2, 3] rfl)
                · refine lv_iconst (v := nI 1) hC.1 hC.2.1 dX11_byEnd_61 (by decide) ?_
                  refine lv_goto (tgt := 66) hC.1 hC.2.1 dX11_byEnd_62 (by decide) ?_
                  exact J66_10 _ (if_pos c15).symm _ _ _ hw (lv_sub hl [0, 1, 2, 3] rfl)
          exact L31_3 _ 0 (Nat.zero_le _) (fun x q => absurd q (Nat.not_lt_zero _)) (Nat.lt_succ_self _) _ _ _ hw (lv_sub hl [1, 2, 3, 0] rfl)
        · refine lv_goto (tgt := 99) hC.1 hC.2.1 dX11_byEnd_26 (by decide) ?_
          refine lv_iinc (v := nI (k + 1)) (lv' := [(2, .int (nI (k + 1))), (0, .ref (a 70)), (1, .int (nI j))]) hC.1 hC.2.1 dX11_byEnd_99 hl (k := 2) rfl (nI_add _ _) (by decide) rfl (fun ls hl => ?_)
          refine lv_goto (tgt := 2) hC.1 hC.2.1 dX11_byEnd_102 (by decide) ?_
          exact ih2 (k + 1) (by omega) (fun x y q1 q2 => by by_cases e : x = k; (subst e; exact fun z => c3 z.1); exact hnb x y (by omega) q2) (by omega) _ _ _ hw (lv_sub hl [1, 2, 0] rfl)
  have hw : Wst E (MW E a) (sr τ 1 (τ 1)) A s.heap s.heap [] := by rw [sr_id]; exact hw
  exact L2_0 _ 0 (Nat.zero_le _) (fun x y q => absurd q (Nat.not_lt_zero _)) (Nat.lt_succ_self _) _ _ _ hw (lv_sub hl [1, 2, 0] rfl)
set_option maxHeartbeats 4000000 in
set_option maxRecDepth 100000 in
theorem tX11_byAmount (l : Launch) (E : EV) (a : Nat → Nat) (τ : St) (nh : Nat) (nj : Nat) (j : Nat) (hW : mF (τ 1) nh nj) (hj : j < nj) : MI l E (MW E a) yX11_byAmount (Cond.code yX11_byAmount cX11_byAmount 9 (some .boolean)) ({ frames := 4, cells := 0, slots := 0, locals := 94 }) [.ref (a 70), .int (nI j)] τ (fun r_ u_ => ∃ c13 : Nat → Int32, ((∃ h i, BsA (τ 1) nj j nh (ftA (τ 1) nh nj j) h i ∧ r_ = 1 ∧ ch4 c13 2 (nI i) (nI h) (lsA (τ 1) nj j h i)) ∨ ((∀ h i, h < nh → i < 3 → ¬ ftA (τ 1) nh nj j h i) ∧ r_ = 0)) ∧ u_ = sr τ 13 c13) := by
  refine MI.mk (by decide +kernel) (Nat.le_of_ble_eq_true rfl) ?_
  intro p e s m args below meth c ls A Q hret hC hw hl
  have hC : Cxt E p s m args meth c cX11_byAmount 9 (some .boolean) RX11 A := hC
  have hl : lv_has ls 9 [(0, .ref (a 70)), (1, .int (nI j))] := hl
  have ⟨hnh, hnj, hW0, hW1, hWh⟩ := id hW
  refine lv_iconst (v := nI 0) hC.1 hC.2.1 dX11_byAmount_0 (by decide) ?_
  refine lv_istore_n (lv' := [(2, .int (nI 0)), (0, .ref (a 70)), (1, .int (nI j))]) hC.1 hC.2.1 dX11_byAmount_1 rfl hl (by decide) rfl (fun ls hl => ?_)
  refine lv_iconst (v := nI 0) hC.1 hC.2.1 dX11_byAmount_2 (by decide) ?_
  refine lv_istore_n (lv' := [(3, .int (nI 0)), (2, .int (nI 0)), (0, .ref (a 70)), (1, .int (nI j))]) hC.1 hC.2.1 dX11_byAmount_3 rfl hl (by decide) rfl (fun ls hl => ?_)
  have L4_0 : ∀ (n : Nat), ∀ (h : Nat), ∀ (al : Int32), ∀ (c13 : Nat → Int32), (h ≤ nh) → ((al = 0 ∧ ∀ h' i, h' < h → i < 3 → ¬ ftA (τ 1) nh nj j h' i) ∨ (al = 1 ∧ ∃ h0 i, BsA (τ 1) nj j h (ftA (τ 1) nh nj j) h0 i ∧ ch4 c13 2 (nI i) (nI h0) (lsA (τ 1) nj j h0 i))) → (nh - h) < n → ∀ (H : Heap) (locs : List Loc) (ls : Array Slot), Wst E (MW E a) (sr (sr τ 1 (τ 1)) 13 (c13)) A s.heap H locs → lv_has ls 9 [(0, .ref (a 70)), (1, .int (nI j)), (2, .int (al)), (3, .int (nI h))] → W p l e ({ frames := 4, cells := 0, slots := 0, locals := 94 }) s m args below meth c H locs 0 0 Q (F0 m 4 ls []) := by
    intro n
    induction n with
    | zero => intro h al c13 hh hal hn; exact absurd hn (Nat.not_lt_zero _)
    | succ n ih4 =>
      intro h al c13 hh hal hn4 H locs ls hw hl
      refine lv_iload_n hC.1 hC.2.1 dX11_byAmount_4 rfl (lv_at hl 3 rfl) ?_
      refine lv_aload_n hC.1 hC.2.1 dX11_byAmount_5 rfl (lv_at hl 0 rfl) ?_
      refine gf_X11_7 hC hw dX11_byAmount_6 ?_
      refine lv_iconst (v := nI 0) hC.1 hC.2.1 dX11_byAmount_9 (by decide) ?_
      refine al_M1 (v := nI nh) hC hw (by omega) hW.2.2.1 dX11_byAmount_10 ?_
      refine q_cmpge hC 148 (cNle (by omega) (by omega)) dX11_byAmount_11 (by decide) (fun (c2 : nh ≤ h) => ?_) (fun (c2 : h < nh) => ?_)
      · refine lv_iload_n hC.1 hC.2.1 dX11_byAmount_148 rfl (lv_at hl 2 rfl) ?_
        refine hret _ _ _ _ _ _ hw ?_ (by rcases hal with z | z <;> rw [z.1] <;> rfl) dX11_byAmount_149
        rw [show h = nh by omega] at hal
        refine ⟨c13, by
          rcases hal with ⟨a1, a2⟩ | ⟨a1, h0, i, a2, a3⟩
          · exact Or.inr ⟨a2, a1⟩
          · exact Or.inl ⟨h0, i, a2, a1, a3⟩, ?_⟩
        funext j_ x_
        by_cases e0 : j_ = 0
        · subst e0
          rfl
        · by_cases e1 : j_ = 1
          · subst e1; rfl
          · by_cases e13 : j_ = 13
            · subst e13; rfl
            · simp only [sr, e0, e1, e13, if_false]
      · refine lv_aload_n hC.1 hC.2.1 dX11_byAmount_14 rfl (lv_at hl 0 rfl) ?_
        refine lv_iload_n hC.1 hC.2.1 dX11_byAmount_15 rfl (lv_at hl 1 rfl) ?_
        refine lv_iload_n hC.1 hC.2.1 dX11_byAmount_16 rfl (lv_at hl 3 rfl) ?_
        refine q_callVp (As := [.int (nI j), .int (nI h)]) (rest := []) (q0 := 0) hC hw hl (tX11_whyNot l E a (sr (sr τ 1 (τ 1)) 13 (c13)) nh nj j h hW (by first | assumption | omega) (by first | assumption | omega)) (q_cwV hC.2.2.2.2.1 ⟨rfl, rfl⟩ wk4_202 wk4_204 wks_2_9 wk1_12 wk4_205 hd_X11_whyNot ⟨Nat.le_of_ble_eq_true rfl, Nat.le_of_ble_eq_true rfl⟩) rfl rfl rfl rfl rfl (Nat.le_of_ble_eq_true rfl) dX11_byAmount_17 (fun H locs hw => ?_)
        refine lv_istore (lv' := [(4, .int (m_why (eM (τ 1)) (pB (eM (τ 1)) (nI j)) nh nj j h)), (0, .ref (a 70)), (1, .int (nI j)), (2, .int (al)), (3, .int (nI h))]) hC.1 hC.2.1 dX11_byAmount_20 hl (by decide) rfl (fun ls hl => ?_)
        refine lv_iload hC.1 hC.2.1 dX11_byAmount_22 (lv_at hl 0 rfl) ?_
        refine lv_iconst (v := nI 3) hC.1 hC.2.1 dX11_byAmount_24 (by decide) ?_
        refine lv_iconst (v := nI 5) hC.1 hC.2.1 dX11_byAmount_25 (by decide) ?_
        refine q_callSp (As := [.int (m_why (eM (τ 1)) (pB (eM (τ 1)) (nI j)) nh nj j h), .int (nI 3), .int (nI 5)]) (rest := []) hC hw hl (tX11_in l E a (sr (sr τ 1 (τ 1)) 13 (c13)) (m_why (eM (τ 1)) (pB (eM (τ 1)) (nI j)) nh nj j h) 3 5) (q_cwS hC.2.2.2.2.1 ⟨rfl, rfl⟩ wk4_175 wk4_176 wk1_12 wk4_177 hd_X11_in.2 ⟨Nat.le_of_ble_eq_true rfl, Nat.le_of_ble_eq_true rfl⟩) rfl rfl (Nat.le_of_ble_eq_true rfl) dX11_byAmount_26 (fun H locs hw => ?_)
        refine q_ifne hC 35 cB dX11_byAmount_29 (by decide) (fun (c9 : ¬ (m_why (eM (τ 1)) (pB (eM (τ 1)) (nI j)) nh nj j h) < 3 ∧ ¬ 5 < (m_why (eM (τ 1)) (pB (eM (τ 1)) (nI j)) nh nj j h)) => ?_) (fun (c9 : ¬ (¬ (m_why (eM (τ 1)) (pB (eM (τ 1)) (nI j)) nh nj j h) < 3 ∧ ¬ 5 < (m_why (eM (τ 1)) (pB (eM (τ 1)) (nI j)) nh nj j h))) => ?_)
        · obtain ⟨i, hi3, hwy⟩ := why_35 c9
          rw [hwy] at hl
          have hlx : m_left (eM (τ 1)) (pB (eM (τ 1)) (nI j)) nj h i = m_left (eM (τ 1)) (Pj (τ 1) j) nj h i := rfl
          refine lv_bipush (v := nI 90) hC.1 hC.2.1 dX11_byAmount_35 (by decide) ?_
          refine lv_iconst (v := nI 3) hC.1 hC.2.1 dX11_byAmount_37 (by decide) ?_
          refine lv_iload_n hC.1 hC.2.1 dX11_byAmount_38 rfl (lv_at hl 2 rfl) ?_
          refine q_mulN hC dX11_byAmount_39 ?_
          refine q_addN hC dX11_byAmount_40 ?_
          refine lv_iload hC.1 hC.2.1 dX11_byAmount_41 (lv_at hl 0 rfl) ?_
          refine q_addN hC dX11_byAmount_43 ?_
          refine lv_iconst (v := nI 3) hC.1 hC.2.1 dX11_byAmount_44 (by decide) ?_
          refine q_subN hC (by omega) dX11_byAmount_45 ?_
          refine q_top (y := nI (90 + (3 * j + i))) (congrArg nI (by omega)) ?_
          refine lv_istore (lv' := [(5, .int (nI (90 + (3 * j + i)))), (4, .int (nI (3 + i))), (0, .ref (a 70)), (1, .int (nI j)), (2, .int (al)), (3, .int (nI h))]) hC.1 hC.2.1 dX11_byAmount_46 hl (by decide) rfl (fun ls hl => ?_)
          refine lv_aload_n hC.1 hC.2.1 dX11_byAmount_48 rfl (lv_at hl 2 rfl) ?_
          refine gf_X11_7 hC hw dX11_byAmount_49 ?_
          refine lv_iload hC.1 hC.2.1 dX11_byAmount_52 (lv_at hl 0 rfl) ?_
          refine al_M1 (v := eM (τ 1) 6 (3 * j + i)) hC hw (by omega) (show _ = eM (τ 1) 6 (3 * j + i) from congrArg (τ 1) (by omega)) dX11_byAmount_54 ?_
          refine lv_istore (lv' := [(6, .int (eM (τ 1) 6 (3 * j + i))), (5, .int (nI (90 + (3 * j + i)))), (4, .int (nI (3 + i))), (0, .ref (a 70)), (1, .int (nI j)), (2, .int (al)), (3, .int (nI h))]) hC.1 hC.2.1 dX11_byAmount_55 hl (by decide) rfl (fun ls hl => ?_)
          refine lv_aload_n hC.1 hC.2.1 dX11_byAmount_57 rfl (lv_at hl 3 rfl) ?_
          refine lv_iload_n hC.1 hC.2.1 dX11_byAmount_58 rfl (lv_at hl 6 rfl) ?_
          refine lv_iload hC.1 hC.2.1 dX11_byAmount_59 (lv_at hl 2 rfl) ?_
          refine lv_iconst (v := nI 3) hC.1 hC.2.1 dX11_byAmount_61 (by decide) ?_
          refine q_subN hC (by omega) dX11_byAmount_62 ?_
          refine q_top (y := nI i) (congrArg nI (by omega)) ?_
          refine lv_iload_n hC.1 hC.2.1 dX11_byAmount_63 rfl (lv_at hl 4 rfl) ?_
          refine q_callVp (As := [.int (nI h), .int (nI i), .int (nI j)]) (rest := []) (q0 := 0) hC hw hl (tX11_leftOf l E a (sr (sr τ 1 (τ 1)) 13 (c13)) nh nj h i (nI j) hW (by first | assumption | omega) hi3) (q_cwV hC.2.2.2.2.1 ⟨rfl, rfl⟩ wk4_206 wk4_208 wks_2_10 wk1_12 wk4_209 hd_X11_leftOf ⟨Nat.le_of_ble_eq_true rfl, Nat.le_of_ble_eq_true rfl⟩) rfl rfl rfl rfl rfl (Nat.le_of_ble_eq_true rfl) dX11_byAmount_64 (fun H locs hw => ?_)
          refine lv_istore (lv' := [(7, .int (m_left (eM (τ 1)) (pB (eM (τ 1)) (nI j)) nj h i)), (6, .int (eM (τ 1) 6 (3 * j + i))), (5, .int (nI (90 + (3 * j + i)))), (4, .int (nI (3 + i))), (0, .ref (a 70)), (1, .int (nI j)), (2, .int (al)), (3, .int (nI h))]) hC.1 hC.2.1 dX11_byAmount_67 hl (by decide) rfl (fun ls hl => ?_)
          refine lv_aload_n hC.1 hC.2.1 dX11_byAmount_69 rfl (lv_at hl 4 rfl) ?_
          refine gf_X11_7 hC hw dX11_byAmount_70 ?_
          refine lv_iload hC.1 hC.2.1 dX11_byAmount_73 (lv_at hl 2 rfl) ?_
          refine lv_iload hC.1 hC.2.1 dX11_byAmount_75 (lv_at hl 0 rfl) ?_
          refine as_M1 hC hw (by omega) dX11_byAmount_77 (fun H locs hw => ?_)
          have hw : Wst E (MW E a) (sr (sr τ 1 (upd (τ 1) (90 + (3 * j + i)) (m_left (eM (τ 1)) (pB (eM (τ 1)) (nI j)) nj h i))) 13 (c13)) A s.heap H locs := hw
          refine lv_aload_n hC.1 hC.2.1 dX11_byAmount_78 rfl (lv_at hl 4 rfl) ?_
          refine lv_iload_n hC.1 hC.2.1 dX11_byAmount_79 rfl (lv_at hl 5 rfl) ?_
          refine lv_iload_n hC.1 hC.2.1 dX11_byAmount_80 rfl (lv_at hl 7 rfl) ?_
          have hW9 := hW.put (k := 90 + (3 * j + i)) (x := m_left (eM (τ 1)) (pB (eM (τ 1)) (nI j)) nj h i) (by omega) (by omega)
          refine q_callVp (As := [.int (nI j), .int (nI h)]) (rest := []) (q0 := 0) hC hw hl (tX11_whyNot l E a (sr (sr τ 1 (upd (τ 1) (90 + (3 * j + i)) (m_left (eM (τ 1)) (pB (eM (τ 1)) (nI j)) nj h i))) 13 (c13)) nh nj j h hW9 (by first | assumption | omega) (by first | assumption | omega)) (q_cwV hC.2.2.2.2.1 ⟨rfl, rfl⟩ wk4_202 wk4_204 wks_2_9 wk1_12 wk4_205 hd_X11_whyNot ⟨Nat.le_of_ble_eq_true rfl, Nat.le_of_ble_eq_true rfl⟩) rfl rfl rfl rfl rfl (Nat.le_of_ble_eq_true rfl) dX11_byAmount_81 (fun H locs hw => ?_)
          have J92_17 : ∀ (w16 : Int32), w16 = (if (m_why (eM (upd (τ 1) (90 + (3 * j + i)) (m_left (eM (τ 1)) (pB (eM (τ 1)) (nI j)) nj h i))) (pB (eM (upd (τ 1) (90 + (3 * j + i)) (m_left (eM (τ 1)) (pB (eM (τ 1)) (nI j)) nj h i))) (nI j)) nh nj j h) = 0 then (1 : Int32) else 0) → ∀ (H : Heap) (locs : List Loc) (ls : Array Slot), Wst E (MW E a) (sr (sr τ 1 (upd (τ 1) (90 + (3 * j + i)) (m_left (eM (τ 1)) (pB (eM (τ 1)) (nI j)) nj h i))) 13 (c13)) A s.heap H locs → lv_has ls 9 [(0, .ref (a 70)), (1, .int (nI j)), (2, .int (al)), (3, .int (nI h)), (4, .int (nI (3 + i))), (5, .int (nI (90 + (3 * j + i)))), (6, .int (eM (τ 1) 6 (3 * j + i))), (7, .int (m_left (eM (τ 1)) (pB (eM (τ 1)) (nI j)) nj h i))] → W p l e ({ frames := 4, cells := 0, slots := 0, locals := 94 }) s m args below meth c H locs 0 0 Q (F0 m 92 ls [.int (w16)]) := by
            intro w16 e17 H locs ls hw hl
            subst e17
            refine lv_istore (lv' := [(8, .int (if (m_why (eM (upd (τ 1) (90 + (3 * j + i)) (m_left (eM (τ 1)) (pB (eM (τ 1)) (nI j)) nj h i))) (pB (eM (upd (τ 1) (90 + (3 * j + i)) (m_left (eM (τ 1)) (pB (eM (τ 1)) (nI j)) nj h i))) (nI j)) nh nj j h) = 0 then (1 : Int32) else 0)), (0, .ref (a 70)), (1, .int (nI j)), (2, .int (al)), (3, .int (nI h)), (4, .int (nI (3 + i))), (5, .int (nI (90 + (3 * j + i)))), (6, .int (eM (τ 1) 6 (3 * j + i))), (7, .int (m_left (eM (τ 1)) (pB (eM (τ 1)) (nI j)) nj h i))]) hC.1 hC.2.1 dX11_byAmount_92 hl (by decide) rfl (fun ls hl => ?_)
            refine lv_aload_n hC.1 hC.2.1 dX11_byAmount_94 rfl (lv_at hl 1 rfl) ?_
            refine gf_X11_7 hC hw dX11_byAmount_95 ?_
            refine lv_iload hC.1 hC.2.1 dX11_byAmount_98 (lv_at hl 6 rfl) ?_
            refine lv_iload hC.1 hC.2.1 dX11_byAmount_100 (lv_at hl 7 rfl) ?_
            refine as_M1 hC hw (by omega) dX11_byAmount_102 (fun H locs hw => ?_)
            have hw : Wst E (MW E a) (sr (sr τ 1 (upd (upd (τ 1) (90 + (3 * j + i)) (m_left (eM (τ 1)) (pB (eM (τ 1)) (nI j)) nj h i)) (90 + (3 * j + i)) (eM (τ 1) 6 (3 * j + i)))) 13 (c13)) A s.heap H locs := hw
            have hU : upd (upd (τ 1) (90 + (3 * j + i)) (m_left (eM (τ 1)) (pB (eM (τ 1)) (nI j)) nj h i)) (90 + (3 * j + i)) (eM (τ 1) 6 (3 * j + i)) = τ 1 := by rw [upd_upd]; exact upd_id
            rw [hU] at hw
            refine lv_iload hC.1 hC.2.1 dX11_byAmount_103 (lv_at hl 0 rfl) ?_
            refine q_ifeq hC 142 cB dX11_byAmount_105 (by decide) (fun (c18 : ¬ ((m_why (eM (upd (τ 1) (90 + (3 * j + i)) (m_left (eM (τ 1)) (pB (eM (τ 1)) (nI j)) nj h i))) (pB (eM (upd (τ 1) (90 + (3 * j + i)) (m_left (eM (τ 1)) (pB (eM (τ 1)) (nI j)) nj h i))) (nI j)) nh nj j h) = 0)) => ?_) (fun (c18 : (m_why (eM (upd (τ 1) (90 + (3 * j + i)) (m_left (eM (τ 1)) (pB (eM (τ 1)) (nI j)) nj h i))) (pB (eM (upd (τ 1) (90 + (3 * j + i)) (m_left (eM (τ 1)) (pB (eM (τ 1)) (nI j)) nj h i))) (nI j)) nh nj j h) = 0) => ?_)
            · refine lv_iinc (v := nI (h + 1)) (lv' := [(3, .int (nI (h + 1))), (8, .int (if (m_why (eM (upd (τ 1) (90 + (3 * j + i)) (m_left (eM (τ 1)) (pB (eM (τ 1)) (nI j)) nj h i))) (pB (eM (upd (τ 1) (90 + (3 * j + i)) (m_left (eM (τ 1)) (pB (eM (τ 1)) (nI j)) nj h i))) (nI j)) nh nj j h) = 0 then (1 : Int32) else 0)), (0, .ref (a 70)), (1, .int (nI j)), (2, .int (al)), (4, .int (nI (3 + i))), (5, .int (nI (90 + (3 * j + i)))), (6, .int (eM (τ 1) 6 (3 * j + i))), (7, .int (m_left (eM (τ 1)) (pB (eM (τ 1)) (nI j)) nj h i))]) hC.1 hC.2.1 dX11_byAmount_142 hl (k := 4) rfl (nI_add _ _) (by decide) rfl (fun ls hl => ?_)
              refine lv_goto (tgt := 4) hC.1 hC.2.1 dX11_byAmount_145 (by decide) ?_
              have hone : ∀ i', i' < 3 → ftA (τ 1) nh nj j h i' → i' = i := fun i' hi' z => by
                have := (hwy.symm.trans z.1)
                have := (nI_eq (by omega) (by omega)).mp this
                omega
              have hno : ∀ i', i' < 3 → ¬ ftA (τ 1) nh nj j h i' := fun i' hi' z => by
                have := hone i' hi' z; subst this; exact c18 ((am_why hW hj (show h < nh by omega) hi').trans z.2)
              have hal2 : (al = (0 : Int32) ∧ ∀ h' i, h' < h + 1 → i < 3 → ¬ ftA (τ 1) nh nj j h' i) ∨ (al = (1 : Int32) ∧ ∃ h0 i, BsA (τ 1) nj j (h + 1) (ftA (τ 1) nh nj j) h0 i ∧ ch4 c13 2 (nI i) (nI h0) (lsA (τ 1) nj j h0 i)) := am_no hal hno
              exact ih4 (h + 1) al c13 (by omega) hal2 (by omega) _ _ _ hw (lv_sub hl [2, 3, 4, 0] rfl)
            · refine lv_iload_n hC.1 hC.2.1 dX11_byAmount_108 rfl (lv_at hl 3 rfl) ?_
              refine q_ifeq hC 126 cI dX11_byAmount_109 (by decide) (fun (c19 : al = 0) => ?_) (fun (c19 : ¬ (al = 0)) => ?_)
              · refine lv_aload_n hC.1 hC.2.1 dX11_byAmount_126 rfl (lv_at hl 1 rfl) ?_
                refine lv_iconst (v := nI 2) hC.1 hC.2.1 dX11_byAmount_127 (by decide) ?_
                refine lv_iload hC.1 hC.2.1 dX11_byAmount_128 (lv_at hl 5 rfl) ?_
                refine lv_iconst (v := nI 3) hC.1 hC.2.1 dX11_byAmount_130 (by decide) ?_
                refine q_subN hC (by omega) dX11_byAmount_131 ?_
                refine q_top (y := nI i) (congrArg nI (by omega)) ?_
                refine lv_iload_n hC.1 hC.2.1 dX11_byAmount_132 rfl (lv_at hl 4 rfl) ?_
                refine lv_iload hC.1 hC.2.1 dX11_byAmount_133 (lv_at hl 7 rfl) ?_
                refine lv_iload hC.1 hC.2.1 dX11_byAmount_135 (lv_at hl 8 rfl) ?_
                refine lv_isub hC.1 hC.2.1 dX11_byAmount_137 ?_
                refine q_callVp (As := [.int (nI 2), .int (nI i), .int (nI h), .int ((eM (τ 1) 6 (3 * j + i)) - (m_left (eM (τ 1)) (pB (eM (τ 1)) (nI j)) nj h i))]) (rest := []) (q0 := 0) hC hw hl (tX11_tell l E a (sr (sr τ 1 (τ 1)) 13 (c13)) 2 (nI i) (nI h) ((eM (τ 1) 6 (3 * j + i)) - (m_left (eM (τ 1)) (pB (eM (τ 1)) (nI j)) nj h i))) (q_cwV hC.2.2.2.2.1 ⟨rfl, rfl⟩ wk5_148 wk5_150 wks_4_6 wk1_12 wk5_151 hd_X11_tell ⟨Nat.le_of_ble_eq_true rfl, Nat.le_of_ble_eq_true rfl⟩) rfl rfl rfl rfl rfl (Nat.le_of_ble_eq_true rfl) dX11_byAmount_138 (fun H locs hw => ?_)
                have hw : Wst E (MW E a) (sr (sr τ 1 (τ 1)) 13 (upd (upd (upd (upd c13 0 2) 1 (nI i)) 2 (nI h)) 3 ((eM (τ 1) 6 (3 * j + i)) - (m_left (eM (τ 1)) (pB (eM (τ 1)) (nI j)) nj h i)))) A s.heap H locs := hw
                refine lv_istore_n (lv' := [(2, .int (if True then (1 : Int32) else 0)), (8, .int (if (m_why (eM (upd (τ 1) (90 + (3 * j + i)) (m_left (eM (τ 1)) (pB (eM (τ 1)) (nI j)) nj h i))) (pB (eM (upd (τ 1) (90 + (3 * j + i)) (m_left (eM (τ 1)) (pB (eM (τ 1)) (nI j)) nj h i))) (nI j)) nh nj j h) = 0 then (1 : Int32) else 0)), (0, .ref (a 70)), (1, .int (nI j)), (3, .int (nI h)), (4, .int (nI (3 + i))), (5, .int (nI (90 + (3 * j + i)))), (6, .int (eM (τ 1) 6 (3 * j + i))), (7, .int (m_left (eM (τ 1)) (pB (eM (τ 1)) (nI j)) nj h i))]) hC.1 hC.2.1 dX11_byAmount_141 rfl hl (by decide) rfl (fun ls hl => ?_)
                refine lv_iinc (v := nI (h + 1)) (lv' := [(3, .int (nI (h + 1))), (2, .int (if True then (1 : Int32) else 0)), (8, .int (if (m_why (eM (upd (τ 1) (90 + (3 * j + i)) (m_left (eM (τ 1)) (pB (eM (τ 1)) (nI j)) nj h i))) (pB (eM (upd (τ 1) (90 + (3 * j + i)) (m_left (eM (τ 1)) (pB (eM (τ 1)) (nI j)) nj h i))) (nI j)) nh nj j h) = 0 then (1 : Int32) else 0)), (0, .ref (a 70)), (1, .int (nI j)), (4, .int (nI (3 + i))), (5, .int (nI (90 + (3 * j + i)))), (6, .int (eM (τ 1) 6 (3 * j + i))), (7, .int (m_left (eM (τ 1)) (pB (eM (τ 1)) (nI j)) nj h i))]) hC.1 hC.2.1 dX11_byAmount_142 hl (k := 4) rfl (nI_add _ _) (by decide) rfl (fun ls hl => ?_)
                refine lv_goto (tgt := 4) hC.1 hC.2.1 dX11_byAmount_145 (by decide) ?_
                have hone : ∀ i', i' < 3 → ftA (τ 1) nh nj j h i' → i' = i := fun i' hi' z => by
                  have := (hwy.symm.trans z.1)
                  have := (nI_eq (by omega) (by omega)).mp this
                  omega
                have hyes : ftA (τ 1) nh nj j h i := ⟨hwy, (am_why hW hj (show h < nh by omega) hi3).symm.trans c18⟩
                have hal2 := am_first (c := c13) hal c19 hone hi3 hyes
                exact ih4 (h + 1) (if True then (1 : Int32) else 0) (upd (upd (upd (upd c13 0 2) 1 (nI i)) 2 (nI h)) 3 ((eM (τ 1) 6 (3 * j + i)) - (m_left (eM (τ 1)) (pB (eM (τ 1)) (nI j)) nj h i))) (by omega) hal2 (by omega) _ _ _ hw (lv_sub hl [3, 4, 1, 0] rfl)
              · refine lv_iload hC.1 hC.2.1 dX11_byAmount_112 (lv_at hl 7 rfl) ?_
                refine lv_iload hC.1 hC.2.1 dX11_byAmount_114 (lv_at hl 8 rfl) ?_
                refine lv_isub hC.1 hC.2.1 dX11_byAmount_116 ?_
                refine lv_aload_n hC.1 hC.2.1 dX11_byAmount_117 rfl (lv_at hl 1 rfl) ?_
                refine gf_X11_47 hC hw dX11_byAmount_118 ?_
                refine lv_iconst (v := nI 3) hC.1 hC.2.1 dX11_byAmount_121 (by decide) ?_
                refine al_M13 (v := (c13) 3) hC hw (by omega) rfl dX11_byAmount_122 ?_
                refine q_cmpge hC 142 cI dX11_byAmount_123 (by decide) (fun (c23 : ((c13) 3) ≤ ((eM (τ 1) 6 (3 * j + i)) - (m_left (eM (τ 1)) (pB (eM (τ 1)) (nI j)) nj h i))) => ?_) (fun (c23 : ¬ (((c13) 3) ≤ ((eM (τ 1) 6 (3 * j + i)) - (m_left (eM (τ 1)) (pB (eM (τ 1)) (nI j)) nj h i)))) => ?_)
                · refine lv_iinc (v := nI (h + 1)) (lv' := [(3, .int (nI (h + 1))), (8, .int (if (m_why (eM (upd (τ 1) (90 + (3 * j + i)) (m_left (eM (τ 1)) (pB (eM (τ 1)) (nI j)) nj h i))) (pB (eM (upd (τ 1) (90 + (3 * j + i)) (m_left (eM (τ 1)) (pB (eM (τ 1)) (nI j)) nj h i))) (nI j)) nh nj j h) = 0 then (1 : Int32) else 0)), (0, .ref (a 70)), (1, .int (nI j)), (2, .int (al)), (4, .int (nI (3 + i))), (5, .int (nI (90 + (3 * j + i)))), (6, .int (eM (τ 1) 6 (3 * j + i))), (7, .int (m_left (eM (τ 1)) (pB (eM (τ 1)) (nI j)) nj h i))]) hC.1 hC.2.1 dX11_byAmount_142 hl (k := 4) rfl (nI_add _ _) (by decide) rfl (fun ls hl => ?_)
                  refine lv_goto (tgt := 4) hC.1 hC.2.1 dX11_byAmount_145 (by decide) ?_
                  have hone : ∀ i', i' < 3 → ftA (τ 1) nh nj j h i' → i' = i := fun i' hi' z => by
                    have := (hwy.symm.trans z.1)
                    have := (nI_eq (by omega) (by omega)).mp this
                    omega
                  have hyes : ftA (τ 1) nh nj j h i := ⟨hwy, (am_why hW hj (show h < nh by omega) hi3).symm.trans c18⟩
                  have hal2 := am_keep hal c19 hone c23
                  exact ih4 (h + 1) al c13 (by omega) hal2 (by omega) _ _ _ hw (lv_sub hl [2, 3, 4, 0] rfl)
                · refine lv_aload_n hC.1 hC.2.1 dX11_byAmount_126 rfl (lv_at hl 1 rfl) ?_
                  refine lv_iconst (v := nI 2) hC.1 hC.2.1 dX11_byAmount_127 (by decide) ?_
                  refine lv_iload hC.1 hC.2.1 dX11_byAmount_128 (lv_at hl 5 rfl) ?_
                  refine lv_iconst (v := nI 3) hC.1 hC.2.1 dX11_byAmount_130 (by decide) ?_
                  refine q_subN hC (by omega) dX11_byAmount_131 ?_
                  refine q_top (y := nI i) (congrArg nI (by omega)) ?_
                  refine lv_iload_n hC.1 hC.2.1 dX11_byAmount_132 rfl (lv_at hl 4 rfl) ?_
                  refine lv_iload hC.1 hC.2.1 dX11_byAmount_133 (lv_at hl 7 rfl) ?_
                  refine lv_iload hC.1 hC.2.1 dX11_byAmount_135 (lv_at hl 8 rfl) ?_
                  refine lv_isub hC.1 hC.2.1 dX11_byAmount_137 ?_
                  refine q_callVp (As := [.int (nI 2), .int (nI i), .int (nI h), .int ((eM (τ 1) 6 (3 * j + i)) - (m_left (eM (τ 1)) (pB (eM (τ 1)) (nI j)) nj h i))]) (rest := []) (q0 := 0) hC hw hl (tX11_tell l E a (sr (sr τ 1 (τ 1)) 13 (c13)) 2 (nI i) (nI h) ((eM (τ 1) 6 (3 * j + i)) - (m_left (eM (τ 1)) (pB (eM (τ 1)) (nI j)) nj h i))) (q_cwV hC.2.2.2.2.1 ⟨rfl, rfl⟩ wk5_148 wk5_150 wks_4_6 wk1_12 wk5_151 hd_X11_tell ⟨Nat.le_of_ble_eq_true rfl, Nat.le_of_ble_eq_true rfl⟩) rfl rfl rfl rfl rfl (Nat.le_of_ble_eq_true rfl) dX11_byAmount_138 (fun H locs hw => ?_)
                  have hw : Wst E (MW E a) (sr (sr τ 1 (τ 1)) 13 (upd (upd (upd (upd c13 0 2) 1 (nI i)) 2 (nI h)) 3 ((eM (τ 1) 6 (3 * j + i)) - (m_left (eM (τ 1)) (pB (eM (τ 1)) (nI j)) nj h i)))) A s.heap H locs := hw
                  refine lv_istore_n (lv' := [(2, .int (if True then (1 : Int32) else 0)), (8, .int (if (m_why (eM (upd (τ 1) (90 + (3 * j + i)) (m_left (eM (τ 1)) (pB (eM (τ 1)) (nI j)) nj h i))) (pB (eM (upd (τ 1) (90 + (3 * j + i)) (m_left (eM (τ 1)) (pB (eM (τ 1)) (nI j)) nj h i))) (nI j)) nh nj j h) = 0 then (1 : Int32) else 0)), (0, .ref (a 70)), (1, .int (nI j)), (3, .int (nI h)), (4, .int (nI (3 + i))), (5, .int (nI (90 + (3 * j + i)))), (6, .int (eM (τ 1) 6 (3 * j + i))), (7, .int (m_left (eM (τ 1)) (pB (eM (τ 1)) (nI j)) nj h i))]) hC.1 hC.2.1 dX11_byAmount_141 rfl hl (by decide) rfl (fun ls hl => ?_)
                  refine lv_iinc (v := nI (h + 1)) (lv' := [(3, .int (nI (h + 1))), (2, .int (if True then (1 : Int32) else 0)), (8, .int (if (m_why (eM (upd (τ 1) (90 + (3 * j + i)) (m_left (eM (τ 1)) (pB (eM (τ 1)) (nI j)) nj h i))) (pB (eM (upd (τ 1) (90 + (3 * j + i)) (m_left (eM (τ 1)) (pB (eM (τ 1)) (nI j)) nj h i))) (nI j)) nh nj j h) = 0 then (1 : Int32) else 0)), (0, .ref (a 70)), (1, .int (nI j)), (4, .int (nI (3 + i))), (5, .int (nI (90 + (3 * j + i)))), (6, .int (eM (τ 1) 6 (3 * j + i))), (7, .int (m_left (eM (τ 1)) (pB (eM (τ 1)) (nI j)) nj h i))]) hC.1 hC.2.1 dX11_byAmount_142 hl (k := 4) rfl (nI_add _ _) (by decide) rfl (fun ls hl => ?_)
                  refine lv_goto (tgt := 4) hC.1 hC.2.1 dX11_byAmount_145 (by decide) ?_
                  have hone : ∀ i', i' < 3 → ftA (τ 1) nh nj j h i' → i' = i := fun i' hi' z => by
                    have := (hwy.symm.trans z.1)
                    have := (nI_eq (by omega) (by omega)).mp this
                    omega
                  have hyes : ftA (τ 1) nh nj j h i := ⟨hwy, (am_why hW hj (show h < nh by omega) hi3).symm.trans c18⟩
                  have hal2 := am_less hal c19 hone hi3 hyes c23
                  exact ih4 (h + 1) (if True then (1 : Int32) else 0) (upd (upd (upd (upd c13 0 2) 1 (nI i)) 2 (nI h)) 3 ((eM (τ 1) 6 (3 * j + i)) - (m_left (eM (τ 1)) (pB (eM (τ 1)) (nI j)) nj h i))) (by omega) hal2 (by omega) _ _ _ hw (lv_sub hl [3, 4, 1, 0] rfl)
          refine q_ifne hC 91 cI dX11_byAmount_84 (by decide) (fun (c27 : ¬ ((m_why (eM (upd (τ 1) (90 + (3 * j + i)) (m_left (eM (τ 1)) (pB (eM (τ 1)) (nI j)) nj h i))) (pB (eM (upd (τ 1) (90 + (3 * j + i)) (m_left (eM (τ 1)) (pB (eM (τ 1)) (nI j)) nj h i))) (nI j)) nh nj j h) = 0)) => ?_) (fun (c27 : (m_why (eM (upd (τ 1) (90 + (3 * j + i)) (m_left (eM (τ 1)) (pB (eM (τ 1)) (nI j)) nj h i))) (pB (eM (upd (τ 1) (90 + (3 * j + i)) (m_left (eM (τ 1)) (pB (eM (τ 1)) (nI j)) nj h i))) (nI j)) nh nj j h) = 0) => ?_)
          · refine lv_iconst (v := nI 0) hC.1 hC.2.1 dX11_byAmount_91 (by decide) ?_
            exact J92_17 _ (if_neg c27).symm _ _ _ hw (lv_sub hl [4, 5, 6, 7, 3, 2, 1, 0] rfl)
          · refine lv_iconst (v := nI 1) hC.1 hC.2.1 dX11_byAmount_87 (by decide) ?_
            refine lv_goto (tgt := 92) hC.1 hC.2.1 dX11_byAmount_88 (by decide) ?_
            exact J92_17 _ (if_pos c27).symm _ _ _ hw (lv_sub hl [4, 5, 6, 7, 3, 2, 1, 0] rfl)
        · refine lv_goto (tgt := 142) hC.1 hC.2.1 dX11_byAmount_32 (by decide) ?_
          refine lv_iinc (v := nI (h + 1)) (lv' := [(3, .int (nI (h + 1))), (4, .int (m_why (eM (τ 1)) (pB (eM (τ 1)) (nI j)) nh nj j h)), (0, .ref (a 70)), (1, .int (nI j)), (2, .int (al))]) hC.1 hC.2.1 dX11_byAmount_142 hl (k := 4) rfl (nI_add _ _) (by decide) rfl (fun ls hl => ?_)
          refine lv_goto (tgt := 4) hC.1 hC.2.1 dX11_byAmount_145 (by decide) ?_
          have hno : ∀ i', i' < 3 → ¬ ftA (τ 1) nh nj j h i' := fun i' hi' z => by
            rw [z.1] at c9; exact c9 (why_in hi')
          have hal2 : (al = (0 : Int32) ∧ ∀ h' i, h' < h + 1 → i < 3 → ¬ ftA (τ 1) nh nj j h' i) ∨ (al = (1 : Int32) ∧ ∃ h0 i, BsA (τ 1) nj j (h + 1) (ftA (τ 1) nh nj j) h0 i ∧ ch4 c13 2 (nI i) (nI h0) (lsA (τ 1) nj j h0 i)) := am_no hal hno
          exact ih4 (h + 1) al c13 (by omega) hal2 (by omega) _ _ _ hw (lv_sub hl [2, 3, 4, 0] rfl)
  have hw : Wst E (MW E a) (sr (sr τ 1 (τ 1)) 13 (τ 13)) A s.heap s.heap [] := by simp only [sr_id]; exact hw
  exact L4_0 _ 0 (nI 0) (τ 13) (Nat.zero_le _) (Or.inl ⟨rfl, fun x y q => absurd q (Nat.not_lt_zero _)⟩) (Nat.lt_succ_self _) _ _ _ hw (lv_sub hl [2, 3, 1, 0] rfl)
