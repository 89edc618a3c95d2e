/-! ===== ASKING ===== -/
/-- the order in which they go: x before y -/
abbrev snr (a b : Nat → Int32) (x y : Nat) : Prop := a x < a y ∨ (a x = a y ∧ b y < b x)
abbrev cmay (σ : St) (j h k : Nat) : Prop := (σ 11 k = 1 ∧ σ 12 k = nI h) ∧ ¬ σ 5 k = 3 ∧ σ 7 k < σ 7 j
def c_nx (σ : St) (j h t : Nat) (w : Nat → Nat) : Nat → Int32
  | 0 => -1
  | n + 1 => if cmay σ j h n ∧ (t = 0 ∨ snr (σ 7) (σ 13) (w (t - 1)) n) ∧ (c_nx σ j h t w n = -1 ∨ snr (σ 7) (σ 13) n (cN (c_nx σ j h t w n))) then nI n else c_nx σ j h t w n
theorem c_nx_in (σ : St) (j h t : Nat) (w : Nat → Nat) : ∀ n : Nat, c_nx σ j h t w n = -1 ∨ ∃ b, b < n ∧ c_nx σ j h t w n = nI b
  | 0 => Or.inl rfl
  | n + 1 => by
    rw [c_nx]
    split
    · exact Or.inr ⟨n, Nat.lt_succ_self n, rfl⟩
    · rcases c_nx_in σ j h t w n with h | ⟨b, h1, h2⟩
      · exact Or.inl h
      · exact Or.inr ⟨b, Nat.lt_succ_of_lt h1, h2⟩
theorem c_nx_nat {σ : St} {j h t n : Nat} {w : Nat → Nat} (hn : n < 2 ^ 31) (q : ¬ c_nx σ j h t w n = -1) : c_nx σ j h t w n = nI (cN (c_nx σ j h t w n)) ∧ cN (c_nx σ j h t w n) < n := by
  rcases c_nx_in σ j h t w n with e | ⟨b, h1, h2⟩
  · exact absurd e q
  · rw [h2, show cN (nI b) = b from nI_clamp (by omega)]; exact ⟨rfl, h1⟩
theorem so_iff {v : Nat → Int32} {k w : Nat} : sooner v k w ↔ (eM v 7 k).toInt < (eM v 7 w).toInt ∨ ((eM v 7 k).toInt = (eM v 7 w).toInt ∧ (eM v 13 w).toInt < (eM v 13 k).toInt) := by
  unfold sooner; rw [Int32.lt_iff_toInt_lt, Int32.lt_iff_toInt_lt, ← Int32.toInt_inj]
theorem so_tr {v : Nat → Int32} {x y z : Nat} (h1 : sooner v x y) (h2 : sooner v y z) : sooner v x z := by
  rw [so_iff] at *; omega
theorem so_ir {v : Nat → Int32} {x : Nat} : ¬ sooner v x x := by rw [so_iff]; omega
/-- no two that stand have one turn -/
def TD (v : Nat → Int32) (nj : Nat) : Prop := ∀ x, x < nj → ∀ y, y < nj → eM v 11 x = 1 → eM v 11 y = 1 → eM v 13 x = eM v 13 y → x = y
theorem so_tot {v : Nat → Int32} {nj x y : Nat} (hD : TD v nj) (hx : x < nj) (hy : y < nj) (sx : eM v 11 x = 1) (sy : eM v 11 y = 1) (hne : x ≠ y) (h : ¬ sooner v x y) : sooner v y x := by
  have hd : ¬ (eM v 13 x).toInt = (eM v 13 y).toInt := fun q => hne (hD x hx y hy sx sy (Int32.toInt_inj.mp q))
  rw [so_iff] at *; omega
theorem nx_min {v : Nat → Int32} {j h : Nat} : ∀ {n : Nat}, n < 2 ^ 31 → ∀ k, k < n → mayGo v j h k → ¬ m_nx v j h n < 0 ∧ ¬ sooner v k (cN (m_nx v j h n))
  | 0, _, _, hk, _ => absurd hk (Nat.not_lt_zero _)
  | n + 1, hn, k, hk, hm => by
    rw [m_nx]
    by_cases e : k = n
    · subst e
      by_cases q : mayGo v j h k ∧ (m_nx v j h k < 0 ∨ sooner v k (m_nx v j h k).toNatClampNeg)
      · rw [if_pos q]
        exact ⟨nI_pos (by omega), by rw [show cN (nI k) = k from nI_clamp (by omega)]; exact so_ir⟩
      · rw [if_neg q]
        exact ⟨fun z => q ⟨hm, Or.inl z⟩, fun z => q ⟨hm, Or.inr z⟩⟩
    · obtain ⟨a, b⟩ := nx_min (n := n) (by omega) k (by omega) hm
      by_cases q : mayGo v j h n ∧ (m_nx v j h n < 0 ∨ sooner v n (m_nx v j h n).toNatClampNeg)
      · rw [if_pos q]
        refine ⟨nI_pos (by omega), ?_⟩
        rw [show cN (nI n) = n from nI_clamp (by omega)]
        exact fun z => b (so_tr z (q.2.resolve_left a))
      · rw [if_neg q]; exact ⟨a, b⟩
/-- those that went: as the t-th chosen each was one that may go, and the first of them -/
def GoK (v : Nat → Int32) (nj j h t : Nat) : Prop := ∀ x, x < t → ¬ m_nx (go_v v nj j h x) j h nj < 0
theorem go_11 {v : Nat → Int32} {nj j h t k : Nat} (hk : k < nj) (hn : nj ≤ 24) : (eM (go_v v nj j h t) 11 k = 1 ↔ eM v 11 k = 1 ∧ ∀ x, x < t → k ≠ go_w v nj j h x) ∧ (∀ r, r = 5 ∨ r = 7 ∨ r = 8 ∨ r = 10 ∨ r = 12 ∨ r = 13 → (∀ x, x < t → go_w v nj j h x < nj) → eM (go_v v nj j h t) r k = eM v r k) := by
  constructor
  · rcases go_v_at v nj j h (258 + k) t with ⟨x, x1, x2, x3⟩ | ⟨x1, x2⟩
    · constructor
      · intro q; have q : go_v v nj j h t (258 + k) = 1 := q
        rw [x3] at q; exact absurd q (by decide)
      · intro q; exact absurd (by omega) (q.2 x x1)
    · show go_v v nj j h t (258 + k) = 1 ↔ v (258 + k) = 1 ∧ _
      rw [x2]
      exact ⟨fun q => ⟨q, fun x hx z => x1 x hx (by omega)⟩, fun q => q.1⟩
  · intro r hr hlt
    have hh : ∀ i, (i < 258 ∨ 282 ≤ i) → go_v v nj j h t i = v i := fun i hi => by
      rcases go_v_at v nj j h i t with ⟨x, x1, x2, x3⟩ | ⟨x1, x2⟩
      · have := hlt x x1; omega
      · exact x2
    rcases hr with e | e | e | e | e | e <;> subst e
    · exact hh (66 + k) (by omega)
    · exact hh (162 + k) (by omega)
    · exact hh (186 + k) (by omega)
    · exact hh (234 + k) (by omega)
    · exact hh (282 + k) (by omega)
    · exact hh (306 + k) (by omega)
theorem GoK.lt {v : Nat → Int32} {nj j h t : Nat} (hG : GoK v nj j h t) (hn : nj ≤ 24) : ∀ x, x < t → go_w v nj j h x < nj ∧ mayGo (go_v v nj j h x) j h (go_w v nj j h x) := fun x hx => ⟨(m_nx_nat (by omega) (hG x hx)).2, m_nx_may (by omega) (hG x hx)⟩
theorem go_may {v : Nat → Int32} {nj j h t k : Nat} (hk : k < nj) (hj : j < nj) (hn : nj ≤ 24) (hG : GoK v nj j h t) : mayGo (go_v v nj j h t) j h k ↔ mayGo v j h k ∧ ∀ x, x < t → k ≠ go_w v nj j h x := by
  have g := go_11 (v := v) (j := j) (h := h) (t := t) hk hn
  have g2 := go_11 (v := v) (j := j) (h := h) (t := t) hj hn
  have hlt := fun x hx => (hG.lt hn x hx).1
  unfold mayGo
  rw [g.1, g.2 12 (by simp) hlt, g.2 5 (by simp) hlt, g.2 7 (by simp) hlt, g2.2 7 (by simp) hlt]
  exact ⟨fun ⟨⟨⟨a, b⟩, c⟩, d⟩ => ⟨⟨⟨a, c⟩, d⟩, b⟩, fun ⟨⟨⟨a, c⟩, d⟩, b⟩ => ⟨⟨⟨a, b⟩, c⟩, d⟩⟩
theorem go_soo {v : Nat → Int32} {nj j h t k y : Nat} (hk : k < nj) (hy : y < nj) (hn : nj ≤ 24) (hG : GoK v nj j h t) : sooner (go_v v nj j h t) k y ↔ sooner v k y := by
  have hlt := fun x hx => (hG.lt hn x hx).1
  have g := go_11 (v := v) (j := j) (h := h) (t := t) hk hn
  have g2 := go_11 (v := v) (j := j) (h := h) (t := t) hy hn
  unfold sooner
  rw [g.2 7 (by simp) hlt, g2.2 7 (by simp) hlt, g.2 13 (by simp) hlt, g2.2 13 (by simp) hlt]
/-- those that went went in order -/
theorem go_ord {v : Nat → Int32} {nj j h t : Nat} (hj : j < nj) (hn : nj ≤ 24) (hD : TD v nj) (hG : GoK v nj j h t) : ∀ x y, x < y → y < t → sooner v (go_w v nj j h x) (go_w v nj j h y) := by
  intro x y hxy hy
  have gx := hG.lt hn x (by omega); have gy := hG.lt hn y hy
  have my := (go_may gy.1 hj hn (fun z hz => hG z (by omega))).mp gy.2
  have mx := (go_may gx.1 hj hn (fun z hz => hG z (by omega))).mp gx.2
  have myx : mayGo (go_v v nj j h x) j h (go_w v nj j h y) := (go_may gy.1 hj hn (fun z hz => hG z (by omega))).mpr ⟨my.1, fun z hz => my.2 z (by omega)⟩
  have hmin := (nx_min (v := go_v v nj j h x) (j := j) (h := h) (n := nj) (by omega) _ gy.1 myx).2
  have hmin : ¬ sooner (go_v v nj j h x) (go_w v nj j h y) (go_w v nj j h x) := hmin
  rw [go_soo gy.1 gx.1 hn (fun z hz => hG z (by omega))] at hmin
  exact so_tot hD gy.1 gx.1 my.1.1.1 mx.1.1.1 (my.2 x hxy) hmin
theorem go_cand {v : Nat → Int32} {nj j h t k : Nat} (hk : k < nj) (hj : j < nj) (hn : nj ≤ 24) (hD : TD v nj) (hG : GoK v nj j h t) (hm : mayGo v j h k) : (t = 0 ∨ sooner v (go_w v nj j h (t - 1)) k) ↔ ∀ x, x < t → k ≠ go_w v nj j h x := by
  constructor
  · intro q x hx e
    have q := q.resolve_left (by omega)
    by_cases z : x = t - 1
    · rw [e, z] at q; exact so_ir q
    · have o := go_ord hj hn hD hG x (t - 1) (by omega) (by omega)
      rw [← e] at o
      exact so_ir (so_tr o q)
  · intro q
    by_cases z : t = 0
    · exact Or.inl z
    · refine Or.inr ?_
      have g := hG.lt hn (t - 1) (by omega)
      have mg := (go_may g.1 hj hn (fun z hz => hG z (by omega))).mp g.2
      have mk : mayGo (go_v v nj j h (t - 1)) j h k := (go_may hk hj hn (fun z hz => hG z (by omega))).mpr ⟨hm, fun z hz => q z (by omega)⟩
      have hmin : ¬ sooner (go_v v nj j h (t - 1)) k (go_w v nj j h (t - 1)) := (nx_min (v := go_v v nj j h (t - 1)) (j := j) (h := h) (n := nj) (by omega) _ hk mk).2
      rw [go_soo hk g.1 hn (fun z hz => hG z (by omega))] at hmin
      exact so_tot hD hk g.1 hm.1.1 mg.1.1.1 (q (t - 1) (by omega)) hmin
/-- rows of jobs as the reference has them -/
def JX (σ : St) (v : Nat → Int32) (nj : Nat) : Prop := ∀ k, k < nj → σ 5 k = eM v 5 k ∧ σ 7 k = eM v 7 k ∧ σ 11 k = eM v 11 k ∧ (eM v 11 k = 1 → σ 12 k = eM v 12 k ∧ σ 13 k = eM v 13 k)
theorem cmay_iff {σ : St} {v : Nat → Int32} {nj j h k : Nat} (hX : JX σ v nj) (hk : k < nj) (hj : j < nj) : cmay σ j h k ↔ mayGo v j h k := by
  obtain ⟨a, b, c, d⟩ := hX k hk
  unfold cmay mayGo
  rw [a, b, c, (hX j hj).2.1]
  constructor
  · rintro ⟨⟨x, y⟩, z⟩; exact ⟨⟨x, by rw [← (d x).1]; exact y⟩, z⟩
  · rintro ⟨⟨x, y⟩, z⟩; exact ⟨⟨x, by rw [(d x).1]; exact y⟩, z⟩
theorem snr_iff {σ : St} {v : Nat → Int32} {nj x y : Nat} (hX : JX σ v nj) (hx : x < nj) (hy : y < nj) (sx : eM v 11 x = 1) (sy : eM v 11 y = 1) : snr (σ 7) (σ 13) x y ↔ sooner v x y := by
  unfold snr sooner
  rw [(hX x hx).2.1, (hX y hy).2.1, ((hX x hx).2.2.2 sx).2, ((hX y hy).2.2.2 sy).2]
theorem nx_eq {σ : St} {v : Nat → Int32} {nj j h t : Nat} {w : Nat → Nat} (hX : JX σ v nj) (hj : j < nj) (hn : nj ≤ 24) (hD : TD v nj) (hG : GoK v nj j h t) (hw : ∀ x, x < t → w x = go_w v nj j h x) : ∀ n, n ≤ nj → c_nx σ j h t w n = m_nx (go_v v nj j h t) j h n
  | 0, _ => rfl
  | n + 1, hl => by
    have ih := nx_eq hX hj hn hD hG hw n (by omega)
    rw [c_nx, m_nx, ih]
    have key : (cmay σ j h n ∧ (t = 0 ∨ snr (σ 7) (σ 13) (w (t - 1)) n) ∧ (m_nx (go_v v nj j h t) j h n = -1 ∨ snr (σ 7) (σ 13) n (cN (m_nx (go_v v nj j h t) j h n)))) ↔ (mayGo (go_v v nj j h t) j h n ∧ (m_nx (go_v v nj j h t) j h n < 0 ∨ sooner (go_v v nj j h t) n (m_nx (go_v v nj j h t) j h n).toNatClampNeg)) := by
      rw [go_may (by omega) hj hn hG, cmay_iff hX (by omega) hj]
      have hneg : m_nx (go_v v nj j h t) j h n = -1 ↔ m_nx (go_v v nj j h t) j h n < 0 := by
        rcases m_nx_in (go_v v nj j h t) j h n with e | ⟨b, b1, b2, -⟩
        · rw [e]; exact ⟨fun _ => by decide, fun _ => rfl⟩
        · rw [b2]; exact ⟨fun q => absurd q.symm (nI_nm1 (by omega)), fun q => absurd q (nI_pos (by omega))⟩
      have h1 : mayGo v j h n → ((t = 0 ∨ snr (σ 7) (σ 13) (w (t - 1)) n) ↔ ∀ x, x < t → n ≠ go_w v nj j h x) := fun hm => by
        rw [← go_cand (by omega) hj hn hD hG hm]
        by_cases z : t = 0
        · simp [z]
        · have g := hG.lt hn (t - 1) (by omega)
          have mg := (go_may g.1 hj hn (fun z hz => hG z (by omega))).mp g.2
          rw [hw (t - 1) (by omega), snr_iff hX g.1 (by omega) mg.1.1.1 hm.1.1]
      have h2 : mayGo v j h n → ((m_nx (go_v v nj j h t) j h n = -1 ∨ snr (σ 7) (σ 13) n (cN (m_nx (go_v v nj j h t) j h n))) ↔ (m_nx (go_v v nj j h t) j h n < 0 ∨ sooner (go_v v nj j h t) n (m_nx (go_v v nj j h t) j h n).toNatClampNeg)) := fun hm => by
        by_cases z : m_nx (go_v v nj j h t) j h n < 0
        · rw [hneg]; simp [z]
        · have a := m_nx_nat (show n < 2 ^ 31 by omega) z
          have b := m_nx_may (show n < 2 ^ 31 by omega) z
          have mb := (go_may (by omega) hj hn hG).mp b
          rw [hneg, go_soo (by omega) (by omega) hn hG, snr_iff hX (by omega) (by omega) hm.1.1 mb.1.1.1]
      constructor
      · rintro ⟨a, b, c⟩; exact ⟨⟨a, (h1 a).mp b⟩, (h2 a).mp c⟩
      · rintro ⟨⟨a, b⟩, c⟩; exact ⟨a, (h1 a).mpr b, (h2 a).mpr c⟩
    by_cases q : mayGo (go_v v nj j h t) j h n ∧ (m_nx (go_v v nj j h t) j h n < 0 ∨ sooner (go_v v nj j h t) n (m_nx (go_v v nj j h t) j h n).toNatClampNeg)
    · rw [if_pos q, if_pos (key.mpr q)]
    · rw [if_neg q, if_neg (fun z => q (key.mp z))]
theorem cmay_m {σ : St} {j h k : Nat} : ((σ 11 k = 1 ∧ σ 12 k = nI h) ∧ ((σ 11 k = 1 ∧ ¬ σ 5 k = 3) ∧ ¬ (σ 7 j ≤ σ 7 k))) ↔ cmay σ j h k := by
  unfold cmay; rw [Int32.not_le]; exact ⟨fun q => ⟨q.1, q.2.1.2, q.2.2⟩, fun q => ⟨q.1, ⟨q.1.1, q.2.1⟩, q.2.2⟩⟩
set_option maxHeartbeats 4000000 in
set_option maxRecDepth 100000 in
theorem tX1_goesBefore (l : Launch) (E : EV) (a : Nat → Nat) (σ : St) (x : Nat) (y : Nat) (hx : x < 24) (hy : y < 24) : MI l E (XW E a) yX1_goesBefore (Cond.code yX1_goesBefore cX1_goesBefore 3 (some .boolean)) ({ frames := 0, cells := 0, slots := 0, locals := 0 }) [.ref (a 62), .int (nI x), .int (nI y)] σ (fun r_ u_ => r_ = (if snr (σ 7) (σ 13) x y then (1 : Int32) else 0) ∧ u_ = σ) := by
  refine MI.mk (by decide +kernel) (Nat.le_of_ble_eq_true rfl) ?_
  intro p e s m args below meth c ls A Q hret hC hw hl
  have hC : Cxt E p s m args meth c cX1_goesBefore 3 (some .boolean) RX1 A := hC
  have hl : lv_has ls 3 [(0, .ref (a 62)), (1, .int (nI x)), (2, .int (nI y))] := hl
  refine lv_aload_n hC.1 hC.2.1 dX1_goesBefore_0 rfl (lv_at hl 0 rfl) ?_
  refine gf_X1_25 hC hw dX1_goesBefore_1 ?_
  refine gf_X1_52 hC hw dX1_goesBefore_4 ?_
  refine lv_iload_n hC.1 hC.2.1 dX1_goesBefore_7 rfl (lv_at hl 1 rfl) ?_
  refine al_X7 (v := σ 7 x) hC hw (by omega) rfl dX1_goesBefore_8 ?_
  refine lv_aload_n hC.1 hC.2.1 dX1_goesBefore_9 rfl (lv_at hl 0 rfl) ?_
  refine gf_X1_25 hC hw dX1_goesBefore_10 ?_
  refine gf_X1_52 hC hw dX1_goesBefore_13 ?_
  refine lv_iload_n hC.1 hC.2.1 dX1_goesBefore_16 rfl (lv_at hl 2 rfl) ?_
  refine al_X7 (v := σ 7 y) hC hw (by omega) rfl dX1_goesBefore_17 ?_
  refine q_cmpeq hC 48 cI dX1_goesBefore_18 (by decide) (fun (c1 : σ 7 x = σ 7 y) => ?_) (fun (c1 : ¬ (σ 7 x = σ 7 y)) => ?_)
  · refine lv_aload_n hC.1 hC.2.1 dX1_goesBefore_48 rfl (lv_at hl 0 rfl) ?_
    refine gf_X1_25 hC hw dX1_goesBefore_49 ?_
    refine gf_X1_80 hC hw dX1_goesBefore_52 ?_
    refine lv_iload_n hC.1 hC.2.1 dX1_goesBefore_55 rfl (lv_at hl 1 rfl) ?_
    refine al_X13 (v := σ 13 x) hC hw (by omega) rfl dX1_goesBefore_56 ?_
    refine lv_aload_n hC.1 hC.2.1 dX1_goesBefore_57 rfl (lv_at hl 0 rfl) ?_
    refine gf_X1_25 hC hw dX1_goesBefore_58 ?_
    refine gf_X1_80 hC hw dX1_goesBefore_61 ?_
    refine lv_iload_n hC.1 hC.2.1 dX1_goesBefore_64 rfl (lv_at hl 2 rfl) ?_
    refine al_X13 (v := σ 13 y) hC hw (by omega) rfl dX1_goesBefore_65 ?_
    have J74_3 : ∀ (w2 : Int32), w2 = (if ¬ (σ 13 x ≤ σ 13 y) then (1 : Int32) else 0) → ∀ (H : Heap) (locs : List Loc) (ls : Array Slot), Wst E (XW E a) (σ) A s.heap H locs → lv_has ls 3 [(0, .ref (a 62)), (1, .int (nI x)), (2, .int (nI y))] → W p l e ({ frames := 0, cells := 0, slots := 0, locals := 0 }) s m args below meth c H locs 0 0 Q (F0 m 74 ls [.int (w2)]) := by
      intro w2 e3 H locs ls hw hl
      subst e3
      refine hret _ _ _ _ _ _ hw ?_ nz_B dX1_goesBefore_74
      exact ⟨ite_iff ⟨fun q => Or.inr ⟨c1, Int32.not_le.mp q⟩, fun q => q.elim (fun z => absurd z (by rw [c1]; exact fun y => Int32.lt_irrefl y)) (fun z => Int32.not_le.mpr z.2)⟩, rfl⟩
    refine q_cmple hC 73 cI dX1_goesBefore_66 (by decide) (fun (c4 : σ 13 x ≤ σ 13 y) => ?_) (fun (c4 : ¬ (σ 13 x ≤ σ 13 y)) => ?_)
    · refine lv_iconst (v := nI 0) hC.1 hC.2.1 dX1_goesBefore_73 (by decide) ?_
      exact J74_3 _ (if_neg (fun q => q c4)).symm _ _ _ hw (lv_sub hl [0, 1, 2] rfl)
    · refine lv_iconst (v := nI 1) hC.1 hC.2.1 dX1_goesBefore_69 (by decide) ?_
      refine lv_goto (tgt := 74) hC.1 hC.2.1 dX1_goesBefore_70 (by decide) ?_
      exact J74_3 _ (if_pos c4).symm _ _ _ hw (lv_sub hl [0, 1, 2] rfl)
  · refine lv_aload_n hC.1 hC.2.1 dX1_goesBefore_21 rfl (lv_at hl 0 rfl) ?_
    refine gf_X1_25 hC hw dX1_goesBefore_22 ?_
    refine gf_X1_52 hC hw dX1_goesBefore_25 ?_
    refine lv_iload_n hC.1 hC.2.1 dX1_goesBefore_28 rfl (lv_at hl 1 rfl) ?_
    refine al_X7 (v := σ 7 x) hC hw (by omega) rfl dX1_goesBefore_29 ?_
    refine lv_aload_n hC.1 hC.2.1 dX1_goesBefore_30 rfl (lv_at hl 0 rfl) ?_
    refine gf_X1_25 hC hw dX1_goesBefore_31 ?_
    refine gf_X1_52 hC hw dX1_goesBefore_34 ?_
    refine lv_iload_n hC.1 hC.2.1 dX1_goesBefore_37 rfl (lv_at hl 2 rfl) ?_
    refine al_X7 (v := σ 7 y) hC hw (by omega) rfl dX1_goesBefore_38 ?_
    have J47_6 : ∀ (w5 : Int32), w5 = (if ¬ (σ 7 y ≤ σ 7 x) then (1 : Int32) else 0) → ∀ (H : Heap) (locs : List Loc) (ls : Array Slot), Wst E (XW E a) (σ) A s.heap H locs → lv_has ls 3 [(0, .ref (a 62)), (1, .int (nI x)), (2, .int (nI y))] → W p l e ({ frames := 0, cells := 0, slots := 0, locals := 0 }) s m args below meth c H locs 0 0 Q (F0 m 47 ls [.int (w5)]) := by
      intro w5 e6 H locs ls hw hl
      subst e6
      refine hret _ _ _ _ _ _ hw ?_ nz_B dX1_goesBefore_47
      exact ⟨ite_iff ⟨fun q => Or.inl (Int32.not_le.mp q), fun q => q.elim (fun z => Int32.not_le.mpr z) (fun z => absurd z.1 c1)⟩, rfl⟩
    refine q_cmpge hC 46 cI dX1_goesBefore_39 (by decide) (fun (c7 : σ 7 y ≤ σ 7 x) => ?_) (fun (c7 : ¬ (σ 7 y ≤ σ 7 x)) => ?_)
    · refine lv_iconst (v := nI 0) hC.1 hC.2.1 dX1_goesBefore_46 (by decide) ?_
      exact J47_6 _ (if_neg (fun q => q c7)).symm _ _ _ hw (lv_sub hl [0, 1, 2] rfl)
    · refine lv_iconst (v := nI 1) hC.1 hC.2.1 dX1_goesBefore_42 (by decide) ?_
      refine lv_goto (tgt := 47) hC.1 hC.2.1 dX1_goesBefore_43 (by decide) ?_
      exact J47_6 _ (if_pos c7).symm _ _ _ hw (lv_sub hl [0, 1, 2] rfl)
set_option maxHeartbeats 4000000 in
set_option maxRecDepth 100000 in
theorem tX1_isYetToGo (l : Launch) (E : EV) (a : Nat → Nat) (σ : St) (t : Nat) (w : Nat → Nat) (x : Nat) (ht : σ 0 5 = nI t) (ht24 : t ≤ 24) (hgo : ∀ k, k < t → σ 22 k = nI (w k) ∧ w k < 24) (hx : x < 24) : MI l E (XW E a) yX1_isYetToGo (Cond.code yX1_isYetToGo cX1_isYetToGo 2 (some .boolean)) ({ frames := 1, cells := 0, slots := 0, locals := 22 }) [.ref (a 62), .int (nI x)] σ (fun r_ u_ => r_ = (if t = 0 ∨ snr (σ 7) (σ 13) (w (t - 1)) x then (1 : Int32) else 0) ∧ u_ = σ) := by
  refine MI.mk (by decide +kernel) (Nat.le_of_ble_eq_true rfl) ?_
  intro p e s m args below meth c ls A Q hret hC hw hl
  have hC : Cxt E p s m args meth c cX1_isYetToGo 2 (some .boolean) RX1 A := hC
  have hl : lv_has ls 2 [(0, .ref (a 62)), (1, .int (nI x))] := hl
  refine lv_aload_n hC.1 hC.2.1 dX1_isYetToGo_0 rfl (lv_at hl 0 rfl) ?_
  refine gf_X1_49 (v := nI t) hC hw ht dX1_isYetToGo_1 ?_
  have J31_2 : ∀ (w1 : Int32), w1 = (if (t = 0) ∨ (snr (σ 7) (σ 13) (w (t - 1)) x) then (1 : Int32) else 0) → ∀ (H : Heap) (locs : List Loc) (ls : Array Slot), Wst E (XW E a) (σ) A s.heap H locs → lv_has ls 2 [(0, .ref (a 62)), (1, .int (nI x))] → W p l e ({ frames := 1, cells := 0, slots := 0, locals := 22 }) s m args below meth c H locs 0 0 Q (F0 m 31 ls [.int (w1)]) := by
    intro w1 e2 H locs ls hw hl
    subst e2
    refine hret _ _ _ _ _ _ hw ?_ nz_B dX1_isYetToGo_31
    exact ⟨ite_iff (by simp), rfl⟩
  refine q_ifeq hC 26 (cN0 (by omega)) dX1_isYetToGo_4 (by decide) (fun (c3 : t = 0) => ?_) (fun (c3 : t ≠ 0) => ?_)
  · refine lv_iconst (v := nI 1) hC.1 hC.2.1 dX1_isYetToGo_26 (by decide) ?_
    refine lv_goto (tgt := 31) hC.1 hC.2.1 dX1_isYetToGo_27 (by decide) ?_
    exact J31_2 _ (if_pos (Or.inl c3)).symm _ _ _ hw (lv_sub hl [0, 1] rfl)
  · refine lv_aload_n hC.1 hC.2.1 dX1_isYetToGo_7 rfl (lv_at hl 0 rfl) ?_
    refine lv_aload_n hC.1 hC.2.1 dX1_isYetToGo_8 rfl (lv_at hl 0 rfl) ?_
    refine gf_X1_9 hC hw dX1_isYetToGo_9 ?_
    refine lv_aload_n hC.1 hC.2.1 dX1_isYetToGo_12 rfl (lv_at hl 0 rfl) ?_
    refine gf_X1_49 (v := nI t) hC hw ht dX1_isYetToGo_13 ?_
    refine lv_iconst (v := nI 1) hC.1 hC.2.1 dX1_isYetToGo_16 (by decide) ?_
    refine q_subN hC (by omega) dX1_isYetToGo_17 ?_
    have hgw := (hgo (t - 1) (by omega)).2
    refine al_X22 (v := nI (w (t - 1))) hC hw (by omega) (hgo (t - 1) (by omega)).1 dX1_isYetToGo_18 ?_
    refine lv_iload_n hC.1 hC.2.1 dX1_isYetToGo_19 rfl (lv_at hl 1 rfl) ?_
    refine q_callVp (As := [.int (nI (w (t - 1))), .int (nI x)]) (rest := []) (q0 := 2) hC hw hl (tX1_goesBefore l E a σ (w (t - 1)) x (by first | assumption | omega) (by first | assumption | omega)) (q_cwV hC.2.2.2.2.1 ⟨rfl, rfl⟩ wk3_67 wk3_69 wks_1_4 wk1_6 wk3_70 hd_X1_goesBefore ⟨Nat.le_of_ble_eq_true rfl, Nat.le_of_ble_eq_true rfl⟩) rfl rfl rfl rfl rfl (Nat.le_of_ble_eq_true rfl) dX1_isYetToGo_20 (fun H locs hw => ?_)
    refine q_ifeq hC 30 cB dX1_isYetToGo_23 (by decide) (fun (c7 : ¬ (snr (σ 7) (σ 13) (w (t - 1)) x)) => ?_) (fun (c7 : snr (σ 7) (σ 13) (w (t - 1)) x) => ?_)
    · refine lv_iconst (v := nI 0) hC.1 hC.2.1 dX1_isYetToGo_30 (by decide) ?_
      exact J31_2 _ (if_neg (fun q => q.elim c3 c7)).symm _ _ _ hw (lv_sub hl [0, 1] rfl)
    · refine lv_iconst (v := nI 1) hC.1 hC.2.1 dX1_isYetToGo_26 (by decide) ?_
      refine lv_goto (tgt := 31) hC.1 hC.2.1 dX1_isYetToGo_27 (by decide) ?_
      exact J31_2 _ (if_pos (Or.inr c7)).symm _ _ _ hw (lv_sub hl [0, 1] rfl)
set_option maxHeartbeats 4000000 in
set_option maxRecDepth 100000 in
theorem tX1_nextToGo (l : Launch) (E : EV) (a : Nat → Nat) (σ : St) (nh : Nat) (nj : Nat) (t : Nat) (w : Nat → Nat) (j : Nat) (h : Nat) (hN : cN2 σ nh nj) (ht : σ 0 5 = nI t) (ht24 : t ≤ 24) (hgo : ∀ k, k < t → σ 22 k = nI (w k) ∧ w k < 24) (hj : j < nj) (h24 : nj ≤ 24) (hh : h < 10) : MI l E (XW E a) yX1_nextToGo (Cond.code yX1_nextToGo cX1_nextToGo 6 (some .int)) ({ frames := 2, cells := 0, slots := 0, locals := 43 }) [.ref (a 62), .int (nI j), .int (nI h)] σ (fun r_ u_ => r_ = (c_nx σ j h t w nj) ∧ u_ = σ) := by
  refine MI.mk (by decide +kernel) (Nat.le_of_ble_eq_true rfl) ?_
  intro p e s m args below meth c ls A Q hret hC hw hl
  have hC : Cxt E p s m args meth c cX1_nextToGo 6 (some .int) RX1 A := hC
  have hl : lv_has ls 6 [(0, .ref (a 62)), (1, .int (nI j)), (2, .int (nI h))] := hl
  refine lv_iconst (v := (-1)) hC.1 hC.2.1 dX1_nextToGo_0 (by decide) ?_
  refine lv_istore_n (lv' := [(3, .int ((-1))), (0, .ref (a 62)), (1, .int (nI j)), (2, .int (nI h))]) hC.1 hC.2.1 dX1_nextToGo_1 rfl hl (by decide) rfl (fun ls hl => ?_)
  refine lv_iconst (v := nI 0) hC.1 hC.2.1 dX1_nextToGo_2 (by decide) ?_
  refine lv_istore (lv' := [(4, .int (nI 0)), (3, .int ((-1))), (0, .ref (a 62)), (1, .int (nI j)), (2, .int (nI h))]) hC.1 hC.2.1 dX1_nextToGo_3 hl (by decide) rfl (fun ls hl => ?_)
  have L5_0 : ∀ (n : Nat), ∀ (k : Nat), ∀ (nx : Int32), (nx = (c_nx σ j h t w k)) → (k ≤ nj) → (nj - k) < n → ∀ (H : Heap) (locs : List Loc) (ls : Array Slot), Wst E (XW E a) (σ) A s.heap H locs → lv_has ls 6 [(0, .ref (a 62)), (1, .int (nI j)), (2, .int (nI h)), (3, .int (nx)), (4, .int (nI k))] → W p l e ({ frames := 2, cells := 0, slots := 0, locals := 43 }) s m args below meth c H locs 0 0 Q (F0 m 5 ls []) := by
    intro n
    induction n with
    | zero => intro k nx q_nx hk hn; exact absurd hn (Nat.not_lt_zero _)
    | succ n ih5 =>
      intro k nx q_nx hk hn5 H locs ls hw hl
      subst q_nx
      refine lv_iload hC.1 hC.2.1 dX1_nextToGo_5 (lv_at hl 4 rfl) ?_
      refine lv_aload_n hC.1 hC.2.1 dX1_nextToGo_7 rfl (lv_at hl 0 rfl) ?_
      refine gf_X1_25 hC hw dX1_nextToGo_8 ?_
      refine gf_X1_66 (v := nI nj) hC hw hN.2 dX1_nextToGo_11 ?_
      refine q_cmpge hC 109 (cNle (by omega) (by omega)) dX1_nextToGo_14 (by decide) (fun (c2 : nj ≤ k) => ?_) (fun (c2 : k < nj) => ?_)
      · refine lv_iload_n hC.1 hC.2.1 dX1_nextToGo_109 rfl (lv_at hl 3 rfl) ?_
        refine hret _ _ _ _ _ _ hw ?_ rfl dX1_nextToGo_110
        have hk9 : k = nj := by omega
        rw [hk9]
        exact ⟨rfl, rfl⟩
      · refine lv_aload_n hC.1 hC.2.1 dX1_nextToGo_17 rfl (lv_at hl 0 rfl) ?_
        refine gf_X1_25 hC hw dX1_nextToGo_18 ?_
        refine lv_iload hC.1 hC.2.1 dX1_nextToGo_21 (lv_at hl 4 rfl) ?_
        refine lv_iload_n hC.1 hC.2.1 dX1_nextToGo_23 rfl (lv_at hl 2 rfl) ?_
        refine q_callVp (As := [.int (nI k), .int (nI h)]) (rest := []) (q0 := 7) hC hw hl (tX6_standsOn l E a σ k (nI h) (by first | assumption | omega)) (q_cwV hC.2.2.2.2.1 ⟨rfl, rfl⟩ wk3_55 wk3_56 wk3_57 wk1_3 wk3_58 hd_X6_standsOn ⟨Nat.le_of_ble_eq_true rfl, Nat.le_of_ble_eq_true rfl⟩) rfl rfl rfl rfl rfl (Nat.le_of_ble_eq_true rfl) dX1_nextToGo_24 (fun H locs hw => ?_)
        have J69_7 : ∀ (w6 : Int32), w6 = (if ((σ 11) k = 1 ∧ (σ 12) k = (nI h)) ∧ (((σ 11) k = 1 ∧ ¬ (σ 5) k = 3) ∧ (¬ (σ 7 j ≤ σ 7 k))) then (1 : Int32) else 0) → ∀ (H : Heap) (locs : List Loc) (ls : Array Slot), Wst E (XW E a) (σ) A s.heap H locs → lv_has ls 6 [(0, .ref (a 62)), (1, .int (nI j)), (2, .int (nI h)), (3, .int (c_nx σ j h t w k)), (4, .int (nI k))] → W p l e ({ frames := 2, cells := 0, slots := 0, locals := 43 }) s m args below meth c H locs 0 0 Q (F0 m 69 ls [.int (w6)]) := by
          intro w6 e7 H locs ls hw hl
          subst e7
          refine lv_istore (lv' := [(5, .int (if ((σ 11) k = 1 ∧ (σ 12) k = (nI h)) ∧ (((σ 11) k = 1 ∧ ¬ (σ 5) k = 3) ∧ (¬ (σ 7 j ≤ σ 7 k))) then (1 : Int32) else 0)), (0, .ref (a 62)), (1, .int (nI j)), (2, .int (nI h)), (3, .int (c_nx σ j h t w k)), (4, .int (nI k))]) hC.1 hC.2.1 dX1_nextToGo_69 hl (by decide) rfl (fun ls hl => ?_)
          refine lv_iload hC.1 hC.2.1 dX1_nextToGo_71 (lv_at hl 0 rfl) ?_
          refine q_ifeq hC 103 cB dX1_nextToGo_73 (by decide) (fun (c8 : ¬ (((σ 11) k = 1 ∧ (σ 12) k = (nI h)) ∧ (((σ 11) k = 1 ∧ ¬ (σ 5) k = 3) ∧ (¬ (σ 7 j ≤ σ 7 k))))) => ?_) (fun (c8 : ((σ 11) k = 1 ∧ (σ 12) k = (nI h)) ∧ (((σ 11) k = 1 ∧ ¬ (σ 5) k = 3) ∧ (¬ (σ 7 j ≤ σ 7 k)))) => ?_)
          · refine lv_iinc (v := nI (k + 1)) (lv' := [(4, .int (nI (k + 1))), (5, .int (if ((σ 11) k = 1 ∧ (σ 12) k = (nI h)) ∧ (((σ 11) k = 1 ∧ ¬ (σ 5) k = 3) ∧ (¬ (σ 7 j ≤ σ 7 k))) then (1 : Int32) else 0)), (0, .ref (a 62)), (1, .int (nI j)), (2, .int (nI h)), (3, .int (c_nx σ j h t w k))]) hC.1 hC.2.1 dX1_nextToGo_103 hl (k := 5) rfl (nI_add _ _) (by decide) rfl (fun ls hl => ?_)
            refine lv_goto (tgt := 5) hC.1 hC.2.1 dX1_nextToGo_106 (by decide) ?_
            have heq : c_nx σ j h t w k = c_nx σ j h t w (k + 1) := by rw [c_nx, if_neg (fun q => c8 (cmay_m.mpr q.1))]
            exact ih5 (k + 1) (c_nx σ j h t w k) heq (by omega) (by omega) _ _ _ hw (lv_sub hl [2, 3, 4, 5, 0] rfl)
          · refine lv_aload_n hC.1 hC.2.1 dX1_nextToGo_76 rfl (lv_at hl 1 rfl) ?_
            refine lv_iload hC.1 hC.2.1 dX1_nextToGo_77 (lv_at hl 5 rfl) ?_
            refine q_callVp (As := [.int (nI k)]) (rest := []) (q0 := 2) hC hw hl (tX1_isYetToGo l E a σ t w k ht ht24 hgo (by first | assumption | omega)) (q_cwV hC.2.2.2.2.1 ⟨rfl, rfl⟩ wk3_63 wk3_65 wks_1_3 wk1_6 wk3_66 hd_X1_isYetToGo ⟨Nat.le_of_ble_eq_true rfl, Nat.le_of_ble_eq_true rfl⟩) rfl rfl rfl rfl rfl (Nat.le_of_ble_eq_true rfl) dX1_nextToGo_79 (fun H locs hw => ?_)
            refine q_ifeq hC 103 cB dX1_nextToGo_82 (by decide) (fun (c12 : ¬ (t = 0 ∨ snr (σ 7) (σ 13) (w (t - 1)) k)) => ?_) (fun (c12 : t = 0 ∨ snr (σ 7) (σ 13) (w (t - 1)) k) => ?_)
            · refine lv_iinc (v := nI (k + 1)) (lv' := [(4, .int (nI (k + 1))), (5, .int (if ((σ 11) k = 1 ∧ (σ 12) k = (nI h)) ∧ (((σ 11) k = 1 ∧ ¬ (σ 5) k = 3) ∧ (¬ (σ 7 j ≤ σ 7 k))) then (1 : Int32) else 0)), (0, .ref (a 62)), (1, .int (nI j)), (2, .int (nI h)), (3, .int (c_nx σ j h t w k))]) hC.1 hC.2.1 dX1_nextToGo_103 hl (k := 5) rfl (nI_add _ _) (by decide) rfl (fun ls hl => ?_)
              refine lv_goto (tgt := 5) hC.1 hC.2.1 dX1_nextToGo_106 (by decide) ?_
              have heq : c_nx σ j h t w k = c_nx σ j h t w (k + 1) := by rw [c_nx, if_neg (fun q => c12 q.2.1)]
              exact ih5 (k + 1) (c_nx σ j h t w k) heq (by omega) (by omega) _ _ _ hw (lv_sub hl [2, 3, 4, 5, 0] rfl)
            · refine lv_iload_n hC.1 hC.2.1 dX1_nextToGo_85 rfl (lv_at hl 4 rfl) ?_
              refine lv_iconst (v := (-1)) hC.1 hC.2.1 dX1_nextToGo_86 (by decide) ?_
              refine q_cmpeq hC 100 cI dX1_nextToGo_87 (by decide) (fun (c13 : c_nx σ j h t w k = (-1)) => ?_) (fun (c13 : ¬ (c_nx σ j h t w k = (-1))) => ?_)
              · refine lv_iload hC.1 hC.2.1 dX1_nextToGo_100 (lv_at hl 5 rfl) ?_
                refine lv_istore_n (lv' := [(3, .int (nI k)), (5, .int (if ((σ 11) k = 1 ∧ (σ 12) k = (nI h)) ∧ (((σ 11) k = 1 ∧ ¬ (σ 5) k = 3) ∧ (¬ (σ 7 j ≤ σ 7 k))) then (1 : Int32) else 0)), (0, .ref (a 62)), (1, .int (nI j)), (2, .int (nI h)), (4, .int (nI k))]) hC.1 hC.2.1 dX1_nextToGo_102 rfl hl (by decide) rfl (fun ls hl => ?_)
                refine lv_iinc (v := nI (k + 1)) (lv' := [(4, .int (nI (k + 1))), (3, .int (nI k)), (5, .int (if ((σ 11) k = 1 ∧ (σ 12) k = (nI h)) ∧ (((σ 11) k = 1 ∧ ¬ (σ 5) k = 3) ∧ (¬ (σ 7 j ≤ σ 7 k))) then (1 : Int32) else 0)), (0, .ref (a 62)), (1, .int (nI j)), (2, .int (nI h))]) hC.1 hC.2.1 dX1_nextToGo_103 hl (k := 5) rfl (nI_add _ _) (by decide) rfl (fun ls hl => ?_)
                refine lv_goto (tgt := 5) hC.1 hC.2.1 dX1_nextToGo_106 (by decide) ?_
                have heq : nI k = c_nx σ j h t w (k + 1) := by rw [c_nx, if_pos ⟨cmay_m.mp c8, c12, Or.inl c13⟩]
                exact ih5 (k + 1) (nI k) heq (by omega) (by omega) _ _ _ hw (lv_sub hl [3, 4, 5, 1, 0] rfl)
              · refine lv_aload_n hC.1 hC.2.1 dX1_nextToGo_90 rfl (lv_at hl 1 rfl) ?_
                refine lv_iload hC.1 hC.2.1 dX1_nextToGo_91 (lv_at hl 5 rfl) ?_
                refine lv_iload_n hC.1 hC.2.1 dX1_nextToGo_93 rfl (lv_at hl 4 rfl) ?_
                have hcn := c_nx_nat (show k < 2 ^ 31 by omega) c13
                refine q_top (y := nI (cN (c_nx σ j h t w k))) hcn.1 ?_
                refine q_callVp (As := [.int (nI k), .int (nI (cN (c_nx σ j h t w k)))]) (rest := []) (q0 := 2) hC hw hl (tX1_goesBefore l E a σ k (cN (c_nx σ j h t w k)) (by first | assumption | omega) (by omega)) (q_cwV hC.2.2.2.2.1 ⟨rfl, rfl⟩ wk3_67 wk3_69 wks_1_4 wk1_6 wk3_70 hd_X1_goesBefore ⟨Nat.le_of_ble_eq_true rfl, Nat.le_of_ble_eq_true rfl⟩) rfl rfl rfl rfl rfl (Nat.le_of_ble_eq_true rfl) dX1_nextToGo_94 (fun H locs hw => ?_)
                refine q_ifeq hC 103 cB dX1_nextToGo_97 (by decide) (fun (c17 : ¬ (snr (σ 7) (σ 13) k (cN (c_nx σ j h t w k)))) => ?_) (fun (c17 : snr (σ 7) (σ 13) k (cN (c_nx σ j h t w k))) => ?_)
                · refine lv_iinc (v := nI (k + 1)) (lv' := [(4, .int (nI (k + 1))), (5, .int (if ((σ 11) k = 1 ∧ (σ 12) k = (nI h)) ∧ (((σ 11) k = 1 ∧ ¬ (σ 5) k = 3) ∧ (¬ (σ 7 j ≤ σ 7 k))) then (1 : Int32) else 0)), (0, .ref (a 62)), (1, .int (nI j)), (2, .int (nI h)), (3, .int (c_nx σ j h t w k))]) hC.1 hC.2.1 dX1_nextToGo_103 hl (k := 5) rfl (nI_add _ _) (by decide) rfl (fun ls hl => ?_)
                  refine lv_goto (tgt := 5) hC.1 hC.2.1 dX1_nextToGo_106 (by decide) ?_
                  have heq : c_nx σ j h t w k = c_nx σ j h t w (k + 1) := by rw [c_nx, if_neg (fun q => q.2.2.elim c13 c17)]
                  exact ih5 (k + 1) (c_nx σ j h t w k) heq (by omega) (by omega) _ _ _ hw (lv_sub hl [2, 3, 4, 5, 0] rfl)
                · refine lv_iload hC.1 hC.2.1 dX1_nextToGo_100 (lv_at hl 5 rfl) ?_
                  refine lv_istore_n (lv' := [(3, .int (nI k)), (5, .int (if ((σ 11) k = 1 ∧ (σ 12) k = (nI h)) ∧ (((σ 11) k = 1 ∧ ¬ (σ 5) k = 3) ∧ (¬ (σ 7 j ≤ σ 7 k))) then (1 : Int32) else 0)), (0, .ref (a 62)), (1, .int (nI j)), (2, .int (nI h)), (4, .int (nI k))]) hC.1 hC.2.1 dX1_nextToGo_102 rfl hl (by decide) rfl (fun ls hl => ?_)
                  refine lv_iinc (v := nI (k + 1)) (lv' := [(4, .int (nI (k + 1))), (3, .int (nI k)), (5, .int (if ((σ 11) k = 1 ∧ (σ 12) k = (nI h)) ∧ (((σ 11) k = 1 ∧ ¬ (σ 5) k = 3) ∧ (¬ (σ 7 j ≤ σ 7 k))) then (1 : Int32) else 0)), (0, .ref (a 62)), (1, .int (nI j)), (2, .int (nI h))]) hC.1 hC.2.1 dX1_nextToGo_103 hl (k := 5) rfl (nI_add _ _) (by decide) rfl (fun ls hl => ?_)
                  refine lv_goto (tgt := 5) hC.1 hC.2.1 dX1_nextToGo_106 (by decide) ?_
                  have heq : nI k = c_nx σ j h t w (k + 1) := by rw [c_nx, if_pos ⟨cmay_m.mp c8, c12, Or.inr c17⟩]
                  exact ih5 (k + 1) (nI k) heq (by omega) (by omega) _ _ _ hw (lv_sub hl [3, 4, 5, 1, 0] rfl)
        refine q_ifeq hC 68 cB dX1_nextToGo_27 (by decide) (fun (c18 : ¬ ((σ 11) k = 1 ∧ (σ 12) k = (nI h))) => ?_) (fun (c18 : (σ 11) k = 1 ∧ (σ 12) k = (nI h)) => ?_)
        · refine lv_iconst (v := nI 0) hC.1 hC.2.1 dX1_nextToGo_68 (by decide) ?_
          exact J69_7 _ (if_neg (fun q => c18 q.1)).symm _ _ _ hw (lv_sub hl [0, 1, 2, 3, 4] rfl)
        · refine lv_aload_n hC.1 hC.2.1 dX1_nextToGo_30 rfl (lv_at hl 0 rfl) ?_
          refine gf_X1_25 hC hw dX1_nextToGo_31 ?_
          refine lv_iload hC.1 hC.2.1 dX1_nextToGo_34 (lv_at hl 4 rfl) ?_
          refine q_callVp (As := [.int (nI k)]) (rest := []) (q0 := 7) hC hw hl (tX6_canLeave l E a σ k (by first | assumption | omega)) (q_cwV hC.2.2.2.2.1 ⟨rfl, rfl⟩ wk3_59 wk3_60 wk3_61 wk1_3 wk3_62 hd_X6_canLeave ⟨Nat.le_of_ble_eq_true rfl, Nat.le_of_ble_eq_true rfl⟩) rfl rfl rfl rfl rfl (Nat.le_of_ble_eq_true rfl) dX1_nextToGo_36 (fun H locs hw => ?_)
          refine q_ifeq hC 68 cB dX1_nextToGo_39 (by decide) (fun (c22 : ¬ ((σ 11) k = 1 ∧ ¬ (σ 5) k = 3)) => ?_) (fun (c22 : (σ 11) k = 1 ∧ ¬ (σ 5) k = 3) => ?_)
          · refine lv_iconst (v := nI 0) hC.1 hC.2.1 dX1_nextToGo_68 (by decide) ?_
            exact J69_7 _ (if_neg (fun q => (fun q => c22 q.1) q.2)).symm _ _ _ hw (lv_sub hl [0, 1, 2, 3, 4] rfl)
          · refine lv_aload_n hC.1 hC.2.1 dX1_nextToGo_42 rfl (lv_at hl 0 rfl) ?_
            refine gf_X1_25 hC hw dX1_nextToGo_43 ?_
            refine gf_X1_52 hC hw dX1_nextToGo_46 ?_
            refine lv_iload hC.1 hC.2.1 dX1_nextToGo_49 (lv_at hl 4 rfl) ?_
            refine al_X7 (v := σ 7 k) hC hw (by omega) rfl dX1_nextToGo_51 ?_
            refine lv_aload_n hC.1 hC.2.1 dX1_nextToGo_52 rfl (lv_at hl 0 rfl) ?_
            refine gf_X1_25 hC hw dX1_nextToGo_53 ?_
            refine gf_X1_52 hC hw dX1_nextToGo_56 ?_
            refine lv_iload_n hC.1 hC.2.1 dX1_nextToGo_59 rfl (lv_at hl 1 rfl) ?_
            refine al_X7 (v := σ 7 j) hC hw (by omega) rfl dX1_nextToGo_60 ?_
            refine q_cmpge hC 68 cI dX1_nextToGo_61 (by decide) (fun (c23 : σ 7 j ≤ σ 7 k) => ?_) (fun (c23 : ¬ (σ 7 j ≤ σ 7 k)) => ?_)
            · refine lv_iconst (v := nI 0) hC.1 hC.2.1 dX1_nextToGo_68 (by decide) ?_
              exact J69_7 _ (if_neg (fun q => (fun q => (fun q => q c23) q.2) q.2)).symm _ _ _ hw (lv_sub hl [0, 1, 2, 3, 4] rfl)
            · refine lv_iconst (v := nI 1) hC.1 hC.2.1 dX1_nextToGo_64 (by decide) ?_
              refine lv_goto (tgt := 69) hC.1 hC.2.1 dX1_nextToGo_65 (by decide) ?_
              exact J69_7 _ (if_pos ⟨c18, ⟨c22, c23⟩⟩).symm _ _ _ hw (lv_sub hl [0, 1, 2, 3, 4] rfl)
  exact L5_0 _ 0 (-1) rfl (Nat.zero_le _) (Nat.lt_succ_self _) _ _ _ hw (lv_sub hl [2, 3, 4, 1, 0] rfl)
