/-! ===== SEARCHES: a few jobs F 0 .. F (m-1), where they are: p k (10: nowhere) ===== -/
def plc (x : Nat) : Int32 := if x = 10 then -1 else nI x
/-- all places, the few at p -/
def pP (F : Nat → Nat) (P0 : Nat → Int32) (p : Nat → Nat) : Nat → (Nat → Int32)
  | 0 => P0
  | k + 1 => upd (pP F P0 p k) (F k) (plc (p k))
abbrev fitC (E : St) (F : Nat → Nat) (m : Nat) (P0 : Nat → Int32) (nh nj : Nat) (p : Nat → Nat) (k h : Nat) : Prop := m_why E (upd (pP F P0 p m) (F k) (-1)) nh nj (F k) h = 0
/-- p, but k on h -/
def pu (p : Nat → Nat) (k h : Nat) : Nat → Nat := fun i => if i = k then h else p i
def enc (b : Nat) (p : Nat → Nat) : Nat → Nat
  | 0 => 0
  | k + 1 => enc b p k + p k * b ^ k
def dig (b m c : Nat) : Nat → Nat := fun k => if k < m then c / b ^ k % b else 0
theorem enc_lt {b : Nat} {p : Nat → Nat} (hb : 0 < b) : ∀ {m : Nat}, (∀ k, k < m → p k < b) → enc b p m < b ^ m
  | 0, _ => by simp [enc]
  | m + 1, h => by
    have h1 := enc_lt hb (m := m) (fun k hk => h k (by omega))
    have h2 := h m (by omega)
    rw [enc, Nat.pow_succ]
    have h3 : p m * b ^ m ≤ (b - 1) * b ^ m := Nat.mul_le_mul_right _ (by omega)
    have h4 : (b - 1) * b ^ m + b ^ m = b * b ^ m := by
      rw [← Nat.succ_mul]; congr 1; omega
    rw [Nat.mul_comm (b ^ m) b]
    omega
theorem enc_dig {b : Nat} {p : Nat → Nat} (hb : 0 < b) : ∀ {m k : Nat}, (∀ k, k < m → p k < b) → k < m → enc b p m / b ^ k % b = p k
  | 0, k, _, hk => absurd hk (Nat.not_lt_zero _)
  | m + 1, k, h, hk => by
    rw [enc]
    by_cases e : k = m
    · subst e
      rw [Nat.add_mul_div_right _ _ (Nat.pow_pos hb), Nat.div_eq_of_lt (enc_lt hb (fun i hi => h i (by omega))), Nat.zero_add, Nat.mod_eq_of_lt (h k (by omega))]
    · have h1 := enc_dig hb (m := m) (k := k) (fun i hi => h i (by omega)) (by omega)
      obtain ⟨d, rfl⟩ : ∃ d, m = k + 1 + d := ⟨m - k - 1, by omega⟩
      rw [show p (k + 1 + d) * b ^ (k + 1 + d) = (p (k + 1 + d) * b ^ d * b) * b ^ k by rw [Nat.pow_add, Nat.pow_succ]; simp only [Nat.mul_assoc, Nat.mul_comm, Nat.mul_left_comm], Nat.add_mul_div_right _ _ (Nat.pow_pos hb), Nat.add_mul_mod_self_right, h1]
theorem dig_lt {b m c k : Nat} (hb : 0 < b) : dig b m c k < b := by
  unfold dig; split
  · exact Nat.mod_lt _ hb
  · exact hb
theorem enc_of_dig {b : Nat} (hb : 0 < b) : ∀ {m c : Nat}, enc b (fun k => c / b ^ k % b) m = c % b ^ m
  | 0, c => by simp [enc, Nat.mod_one]
  | m + 1, c => by
    rw [enc, enc_of_dig hb, Nat.pow_succ, Nat.mod_mul, Nat.mul_comm (b ^ m)]
theorem enc_congr {b : Nat} {p q : Nat → Nat} : ∀ {m : Nat}, (∀ k, k < m → p k = q k) → enc b p m = enc b q m
  | 0, _ => rfl
  | m + 1, h => by rw [enc, enc, enc_congr (fun k hk => h k (by omega)), h m (by omega)]
theorem dig_enc {b m : Nat} {p : Nat → Nat} (hb : 0 < b) (h : ∀ k, k < m → p k < b) {k : Nat} (hk : k < m) : dig b m (enc b p m) k = p k := by
  unfold dig; rw [if_pos hk, enc_dig hb h hk]
theorem enc_dig2 {b m c : Nat} (hb : 0 < b) (hc : c < b ^ m) : enc b (dig b m c) m = c := by
  rw [enc_congr (q := fun k => c / b ^ k % b) (fun k hk => by unfold dig; rw [if_pos hk]), enc_of_dig hb, Nat.mod_eq_of_lt hc]
/-- what m_why asks of attributes and places -/
theorem sm_z {f g : Nat → Int32} {n : Nat} (h : ∀ k, k < n → f k = g k) : sm f n = sm g n := sm_congr h
def agE (E E' : St) (nh nj : Nat) : Prop := (∀ h, h < nh → (∀ i, i < 3 → E 1 (3 * h + i) = E' 1 (3 * h + i)) ∧ E 2 h = E' 2 h ∧ E 3 h = E' 3 h ∧ E 4 h = E' 4 h) ∧ ∀ j, j < nj → (∀ i, i < 3 → E 6 (3 * j + i) = E' 6 (3 * j + i)) ∧ E 5 j = E' 5 j ∧ E 8 j = E' 8 j ∧ E 9 j = E' 9 j ∧ E 10 j = E' 10 j
theorem agE.rf {E : St} {nh nj : Nat} : agE E E nh nj := ⟨fun _ _ => ⟨fun _ _ => rfl, rfl, rfl, rfl⟩, fun _ _ => ⟨fun _ _ => rfl, rfl, rfl, rfl, rfl⟩⟩
/-- places that are hosts, or none -/
def okP (P : Nat → Int32) (nh nj : Nat) : Prop := ∀ j, j < nj → P j = -1 ∨ ∃ h, h < nh ∧ P j = nI h
theorem ifc {p q : Prop} [Decidable p] [Decidable q] (h : p ↔ q) : (if p then (1 : Int32) else 0) = if q then (1 : Int32) else 0 := by
  by_cases hq : q
  · rw [if_pos hq, if_pos (h.mpr hq)]
  · rw [if_neg hq, if_neg (fun z => hq (h.mp z))]
theorem inH_congr {E E' : St} {P P' : Nat → Int32} {nh nj j : Nat} {hall : Int32} (hE : agE E E' nh nj) (hP : P j = P' j) (ho : P j = -1 ∨ ∃ h, h < nh ∧ P j = nI h) (hn : nh ≤ 10) : inH E P j hall ↔ inH E' P' j hall := by
  unfold inH
  rw [← hP]
  rcases ho with e | ⟨h, hh, e⟩
  · rw [e]; simp
  · rw [e, nI_clamp (by omega), (hE.1 h hh).2.1]
theorem m_left_congr {E E' : St} {P P' : Nat → Int32} {nh nj h i : Nat} (hE : agE E E' nh nj) (hP : ∀ j, j < nj → P j = P' j) (hh : h < nh) (hi : i < 3) : m_left E P nj h i = m_left E' P' nj h i := by
  unfold m_left
  rw [(hE.1 h hh).1 i hi]
  exact congrArg _ (sm_congr (fun k hk => by unfold f_left; rw [hP k hk, (hE.2 k hk).1 i hi]))
theorem m_alk_congr {E E' : St} {P P' : Nat → Int32} {nh nj : Nat} {k g hall : Int32} (hE : agE E E' nh nj) (hP : ∀ j, j < nj → P j = P' j) (ho : okP P nh nj) (hn : nh ≤ 10) : m_alk E P nj k g hall = m_alk E' P' nj k g hall := by
  unfold m_alk
  refine sm_congr (fun j hj => ?_)
  unfold f_alk
  rw [(hE.2 j hj).2.1, (hE.2 j hj).2.2.1]
  exact ifc (and_congr Iff.rfl (inH_congr hE (hP j hj) (ho j hj) hn))
theorem m_gon_congr {E E' : St} {P P' : Nat → Int32} {nh nj h : Nat} {g : Int32} (hE : agE E E' nh nj) (hP : ∀ j, j < nj → P j = P' j) : m_gon E P nj g h = m_gon E' P' nj g h := by
  unfold m_gon
  exact sm_congr (fun j hj => by unfold f_gon; rw [(hE.2 j hj).2.2.1, hP j hj])
theorem m_gin_congr {E E' : St} {P P' : Nat → Int32} {nh nj : Nat} {g hall : Int32} (hE : agE E E' nh nj) (hP : ∀ j, j < nj → P j = P' j) (ho : okP P nh nj) (hn : nh ≤ 10) : m_gin E P nj g hall = m_gin E' P' nj g hall := by
  unfold m_gin
  refine sm_congr (fun j hj => ?_)
  unfold f_gin
  rw [(hE.2 j hj).2.2.1]
  exact ifc (and_congr Iff.rfl (inH_congr hE (hP j hj) (ho j hj) hn))
theorem m_why_congr {E E' : St} {P P' : Nat → Int32} {nh nj j h : Nat} (hE : agE E E' nh nj) (hP : ∀ j, j < nj → P j = P' j) (ho : okP P nh nj) (hn : nh ≤ 10) (hj : j < nj) (hh : h < nh) : m_why E P nh nj j h = m_why E' P' nh nj j h := by
  have a := hE.1 h hh; have b := hE.2 j hj
  have hc : m_crd E P nh nj j h = m_crd E' P' nh nj j h := by
    unfold m_crd
    refine anyB_congr (fun x hx => ?_)
    unfold f_crd
    rw [(hE.1 x hx).2.2.2, b.2.1, b.2.2.1, a.2.1, (hE.1 x hx).2.1, m_alk_congr hE hP ho hn, m_alk_congr hE hP ho hn]
  have hs : m_scd E P nj j h = m_scd E' P' nj j h := by
    unfold m_scd
    refine anyB_congr (fun x hx => ?_)
    unfold f_scd
    rw [hP x hx, (hE.2 x hx).2.1, (hE.2 x hx).2.2.2.2, b.2.2.1]
  unfold m_why m_wh2
  rw [a.2.2.2, a.2.2.1, b.2.2.2.1, m_left_congr hE hP hh (by decide : 0 < 3), m_left_congr hE hP hh (by decide : 1 < 3), m_left_congr hE hP hh (by decide : 2 < 3), b.1 0 (by decide), b.1 1 (by decide), b.1 2 (by decide), b.2.1, hc, hs, b.2.2.2.2, a.2.1, m_gon_congr hE hP, m_gin_congr hE hP ho hn]
theorem m_pts_congr {E E' : St} {P P' : Nat → Int32} {nh nj j h : Nat} (hE : agE E E' nh nj) (hw : ∀ i, i < 3 → E 15 i = E' 15 i) (hP : ∀ j, j < nj → P j = P' j) (ho : okP P nh nj) (hn : nh ≤ 10) (hj : j < nj) (hh : h < nh) : m_pts E P nj j h = m_pts E' P' nj j h := by
  have a := hE.1 h hh; have b := hE.2 j hj
  have hr : ∀ n, n ≤ 3 → m_room E P nj j h n = m_room E' P' nj j h n := by
    intro n
    induction n with
    | zero => intro _; rfl
    | succ n ih => intro q; rw [m_room, m_room, ih (by omega), m_left_congr hE hP hh (by omega), b.1 n (by omega)]
  unfold m_pts m_oth
  rw [hw 0 (by decide), hw 1 (by decide), hw 2 (by decide), hr 3 (by decide), b.2.2.1, m_gon_congr hE hP, b.2.1, b.2.2.2.2, m_gon_congr hE hP, a.2.1, m_gin_congr hE hP ho hn]
/-! the few, one after another, in the reference's row -/
def dg (v : Nat → Int32) (F : Nat → Nat) (k : Nat) : Nat := if eM v 11 (F k) = 1 then hN v (F k) else 10
def encR (b : Nat) (p : Nat → Nat) (m : Nat) : Nat → Nat
  | 0 => 0
  | j + 1 => b * encR b p m j + p (m - j - 1)
theorem encR_enc {b : Nat} {p : Nat → Nat} {m : Nat} : ∀ {j : Nat}, j ≤ m → encR b p m j * b ^ (m - j) + enc b p (m - j) = enc b p m
  | 0, _ => by simp [encR]
  | j + 1, h => by
    have h1 := encR_enc (b := b) (p := p) (m := m) (j := j) (by omega)
    rw [encR]
    obtain ⟨d, hd⟩ : ∃ d, m - j = d + 1 := ⟨m - j - 1, by omega⟩
    rw [hd, enc, Nat.pow_succ] at h1
    rw [show m - (j + 1) = d by omega, show m - j - 1 = d by omega, ← h1, Nat.add_mul]
    have e : b * encR b p m j * b ^ d = encR b p m j * (b ^ d * b) := by
      simp only [Nat.mul_assoc, Nat.mul_comm, Nat.mul_left_comm]
    omega
theorem encR_all {b : Nat} {p : Nat → Nat} {m : Nat} : encR b p m m = enc b p m := by
  have := encR_enc (b := b) (p := p) (m := m) (j := m) (Nat.le_refl _)
  rw [Nat.sub_self] at this
  simpa [enc] using this
def f_set (v : Nat → Int32) (F : Nat → Nat) (c : Nat) : Nat → (Nat → Int32)
  | 0 => v
  | k + 1 => upd (upd (f_set v F c k) (258 + F k) (if (c / 11 ^ k) % 11 ≠ 10 then 1 else 0)) (282 + F k) (if (c / 11 ^ k) % 11 = 10 then eM (upd (f_set v F c k) (258 + F k) (if (c / 11 ^ k) % 11 ≠ 10 then 1 else 0)) 12 (F k) else nI ((c / 11 ^ k) % 11))
def zer (n : Nat) (f : Nat → Int32) : Nat → Int32 := fun k => if k < n then 0 else f k
theorem zer_0 (f : Nat → Int32) : zer 0 f = f := funext fun k => by simp [zer]
theorem zer_s (n : Nat) (f : Nat → Int32) : upd (zer n f) n 0 = zer (n + 1) f := funext fun k => by
  show (if k = n then 0 else (if k < n then 0 else f k)) = (if k < n + 1 then 0 else f k)
  by_cases h1 : k = n
  · rw [if_pos h1, if_pos (by omega)]
  · by_cases h2 : k < n
    · rw [if_neg h1, if_pos h2, if_pos (by omega)]
    · rw [if_neg h1, if_neg h2, if_neg (by omega)]
