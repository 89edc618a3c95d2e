/-! ===== SPEC: what is asked of attributes E (a table) and of places P (of each job: its host, or -1) ===== -/
def sm (f : Nat → Int32) : Nat → Int32
  | 0 => 0
  | n + 1 => sm f n + f n
def anyB (f : Nat → Bool) : Nat → Bool
  | 0 => false
  | n + 1 => anyB f n || f n
theorem sm_congr {f g : Nat → Int32} : ∀ {n : Nat}, (∀ k, k < n → f k = g k) → sm f n = sm g n
  | 0, _ => rfl
  | n + 1, h => by rw [sm, sm, sm_congr (fun k hk => h k (Nat.lt_succ_of_lt hk)), h n (Nat.lt_succ_self n)]
theorem anyB_iff {f : Nat → Bool} : ∀ {n : Nat}, anyB f n = true ↔ ∃ k, k < n ∧ f k = true
  | 0 => by simp [anyB]
  | n + 1 => by
    rw [anyB, Bool.or_eq_true, anyB_iff]
    constructor
    · rintro (⟨k, h1, h2⟩ | h)
      · exact ⟨k, Nat.lt_succ_of_lt h1, h2⟩
      · exact ⟨n, Nat.lt_succ_self n, h⟩
    · rintro ⟨k, h1, h2⟩
      rcases Nat.lt_or_ge k n with h | h
      · exact Or.inl ⟨k, h, h2⟩
      · rw [show k = n by omega] at h2
        exact Or.inr h2
theorem anyB_congr {f g : Nat → Bool} : ∀ {n : Nat}, (∀ k, k < n → f k = g k) → anyB f n = anyB g n
  | 0, _ => rfl
  | n + 1, h => by rw [anyB, anyB, anyB_congr (fun k hk => h k (Nat.lt_succ_of_lt hk)), h n (Nat.lt_succ_self n)]
/-- the reference's row of what is now, as a table of attributes -/
def eM (v : Nat → Int32) : St := fun k => match k with
  | 0 => fun i => if i = 2 then v 5 else v i
  | 1 => fun i => v (6 + i)
  | 2 => fun i => v (36 + i)
  | 3 => fun i => v (46 + i)
  | 4 => fun i => v (56 + i)
  | 5 => fun i => v (66 + i)
  | 6 => fun i => v (90 + i)
  | 7 => fun i => v (162 + i)
  | 8 => fun i => v (186 + i)
  | 9 => fun i => v (210 + i)
  | 10 => fun i => v (234 + i)
  | 11 => fun i => v (258 + i)
  | 12 => fun i => v (282 + i)
  | 13 => fun i => v (306 + i)
  | 14 => fun i => v (330 + i)
  | 15 => fun i => v (2 + i)
  | _ => fun _ => 0
/-- places: of the jobs that stand, but for one -/
def pB (E : St) (but : Int32) : Nat → Int32 := fun j => if nI j = but then -1 else if E 11 j = 1 then E 12 j else -1
abbrev inH (E : St) (P : Nat → Int32) (j : Nat) (hall : Int32) : Prop := P j ≠ -1 ∧ E 2 (P j).toNatClampNeg = hall
def f_left (E : St) (P : Nat → Int32) (h i : Nat) : Nat → Int32 := fun j => if P j = nI h then E 6 (3 * j + i) else 0
def f_alk (E : St) (P : Nat → Int32) (k g hall : Int32) : Nat → Int32 := fun j => if (E 5 j = k ∧ E 8 j = g) ∧ inH E P j hall then 1 else 0
def f_gon (E : St) (P : Nat → Int32) (g : Int32) (h : Nat) : Nat → Int32 := fun j => if E 8 j = g ∧ P j = nI h then 1 else 0
def f_gin (E : St) (P : Nat → Int32) (g hall : Int32) : Nat → Int32 := fun j => if E 8 j = g ∧ inH E P j hall then 1 else 0
def m_left (E : St) (P : Nat → Int32) (nj h i : Nat) : Int32 := E 1 (3 * h + i) - sm (f_left E P h i) nj
def m_alk (E : St) (P : Nat → Int32) (nj : Nat) (k g hall : Int32) : Int32 := sm (f_alk E P k g hall) nj
def m_gon (E : St) (P : Nat → Int32) (nj : Nat) (g : Int32) (h : Nat) : Int32 := sm (f_gon E P g h) nj
def m_gin (E : St) (P : Nat → Int32) (nj : Nat) (g hall : Int32) : Int32 := sm (f_gin E P g hall) nj
def f_crd (E : St) (P : Nat → Int32) (nj : Nat) (k g hall : Int32) : Nat → Bool := fun x => decide (E 4 x = 1 ∧ m_alk E P nj k g (E 2 x) < m_alk E P nj k g hall)
def m_crd (E : St) (P : Nat → Int32) (nh nj j h : Nat) : Bool := anyB (f_crd E P nj (E 5 j) (E 8 j) (E 2 h)) nh
def f_scd (E : St) (P : Nat → Int32) (g : Int32) (h : Nat) : Nat → Bool := fun k => decide (P k = nI h ∧ E 5 k = 4 ∧ E 10 k = g)
def m_scd (E : St) (P : Nat → Int32) (nj j h : Nat) : Bool := anyB (f_scd E P (E 8 j) h) nj
def m_why (E : St) (P : Nat → Int32) (nh nj j h : Nat) : Int32 :=
  if E 4 h = 0 then 1 else if ¬ (E 3 h &&& (E 9 j ^^^ (-1))) = 0 then 2
  else if m_left E P nj h 0 < E 6 (3 * j + 0) then 3 else if m_left E P nj h 1 < E 6 (3 * j + 1) then 4 else if m_left E P nj h 2 < E 6 (3 * j + 2) then 5
  else if (E 5 j = 1 ∨ E 5 j = 2) ∧ m_crd E P nh nj j h = true then 6
  else if (E 5 j = 4 ∧ 0 < m_gon E P nj (E 10 j) h) ∨ (E 5 j = 5 ∧ m_gin E P nj (E 10 j) (E 2 h) = 0) then 7
  else if m_scd E P nj j h = true then 8 else 0
def m_oth (E : St) (P : Nat → Int32) (nj j h : Nat) : Int32 := if E 5 j = 4 then m_gon E P nj (E 10 j) h else if E 5 j = 5 then m_gin E P nj (E 10 j) (E 2 h) else 0
def m_room (E : St) (P : Nat → Int32) (nj j h : Nat) : Nat → Int32
  | 0 => 0
  | i + 1 => m_room E P nj j h i + (m_left E P nj h i - E 6 (3 * j + i))
def m_pts (E : St) (P : Nat → Int32) (nj j h : Nat) : Int32 := E 15 0 * m_room E P nj j h 3 - E 15 1 * m_gon E P nj (E 8 j) h + E 15 2 * m_oth E P nj j h
/-- what the reference's row needs, that no index be wrong -/
def mF (v : Nat → Int32) (nh nj : Nat) : Prop := nh ≤ 10 ∧ nj ≤ 24 ∧ v 0 = nI nh ∧ v 1 = nI nj ∧ ∀ j, j < nj → v (258 + j) = 1 → ∃ h, h < nh ∧ v (282 + j) = nI h
def hN (v : Nat → Int32) (j : Nat) : Nat := (v (282 + j)).toNatClampNeg
theorem mF.host {v : Nat → Int32} {nh nj j : Nat} (h : mF v nh nj) (hj : j < nj) (hs : v (258 + j) = 1) : v (282 + j) = nI (hN v j) ∧ hN v j < nh := by
  obtain ⟨h10, -, -, -, hh⟩ := h
  obtain ⟨x, hx, e⟩ := hh j hj hs
  have e2 : hN v j = x := by rw [hN, e, nI_clamp (by omega)]
  rw [e2]; exact ⟨e, hx⟩
theorem pB_ne {E : St} {but : Int32} {j h : Nat} (hh : h < 10) : pB E but j = nI h ↔ ¬ nI j = but ∧ E 11 j = 1 ∧ E 12 j = nI h := by
  have hm : ¬ (-1 : Int32) = nI h := by
    intro q
    have := congrArg Int32.toInt q
    rw [nI_toInt (by omega)] at this
    have e : Int32.toInt (-1) = -1 := by decide
    omega
  unfold pB
  by_cases h1 : nI j = but
  · simp [h1, hm]
  · by_cases h2 : E 11 j = 1 <;> simp [h1, h2, hm]
theorem acc_sub {a b c : Int32} : a - b - c = a - (b + c) := by grind
