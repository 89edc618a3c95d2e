/-! ===== SPEC: what is asked of attributes E (a table) and of places P (of each job: its host, or -1) ===== -/
def sm (f : Nat → Int32) : Nat → Int32
  | 0 => 0
  | n + 1 => sm f n + f n
def anyB (f : Nat → Bool) : Nat → Bool
  | 0 => false
  | n + 1 => anyB f n || f n
theorem sm_congr {f g : Nat → Int32} : ∀ {n : Nat}, (∀ k, k < n → f k = g k) → sm f n = sm g n
  | 0, _ => rfl
  | n + 1, h => by rw [sm, sm, sm_congr (fun k hk => h k (Nat.lt_succ_of_lt hk)), h n (Nat.lt_succ_self n)]
theorem anyB_iff {f : Nat → Bool} : ∀ {n : Nat}, anyB f n = true ↔ ∃ k, k < n ∧ f k = true
  | 0 => by simp [anyB]
  | n + 1 => by
    rw [anyB, Bool.or_eq_true, anyB_iff]
    constructor
    · rintro (⟨k, h1, h2⟩ | h)
      · exact ⟨k, Nat.lt_succ_of_lt h1, h2⟩
      · exact ⟨n, Nat.lt_succ_self n, h⟩
    · rintro ⟨k, h1, h2⟩
      rcases Nat.lt_or_ge k n with h | h
      · exact Or.inl ⟨k, h, h2⟩
      · rw [show k = n by omega] at h2
        exact Or.inr h2
theorem anyB_congr {f g : Nat → Bool} : ∀ {n : Nat}, (∀ k, k < n → f k = g k) → anyB f n = anyB g n
  | 0, _ => rfl
  | n + 1, h => by rw [anyB, anyB, anyB_congr (fun k hk => h k (Nat.lt_succ_of_lt hk)), h n (Nat.lt_succ_self n)]
/-- the reference's row of what is now, as a table of attributes -/
def eM (v : Nat → Int32) : St := fun k => match k with
  | 0 => fun i => if i = 2 then v 5 else v i
  | 1 => fun i => v (6 + i)
  | 2 => fun i => v (36 + i)
  | 3 => fun i => v (46 + i)
  | 4 => fun i => v (56 + i)
  | 5 => fun i => v (66 + i)
  | 6 => fun i => v (90 + i)
  | 7 => fun i => v (162 + i)
  | 8 => fun i => v (186 + i)
  | 9 => fun i => v (210 + i)
  | 10 => fun i => v (234 + i)
  | 11 => fun i => v (258 + i)
  | 12 => fun i => v (282 + i)
  | 13 => fun i => v (306 + i)
  | 14 => fun i => v (330 + i)
  | 15 => fun i => v (2 + i)
  | _ => fun _ => 0
/-- places: of the jobs that stand, but for one -/
def pB (E : St) (but : Int32) : Nat → Int32 := fun j => if nI j = but then -1 else if E 11 j = 1 then E 12 j else -1
abbrev inH (E : St) (P : Nat → Int32) (j : Nat) (hall : Int32) : Prop := P j ≠ -1 ∧ E 2 (P j).toNatClampNeg = hall
def f_left (E : St) (P : Nat → Int32) (h i : Nat) : Nat → Int32 := fun j => if P j = nI h then E 6 (3 * j + i) else 0
def f_alk (E : St) (P : Nat → Int32) (k g hall : Int32) : Nat → Int32 := fun j => if (E 5 j = k ∧ E 8 j = g) ∧ inH E P j hall then 1 else 0
def f_gon (E : St) (P : Nat → Int32) (g : Int32) (h : Nat) : Nat → Int32 := fun j => if E 8 j = g ∧ P j = nI h then 1 else 0
def f_gin (E : St) (P : Nat → Int32) (g hall : Int32) : Nat → Int32 := fun j => if E 8 j = g ∧ inH E P j hall then 1 else 0
def m_left (E : St) (P : Nat → Int32) (nj h i : Nat) : Int32 := E 1 (3 * h + i) - sm (f_left E P h i) nj
def m_alk (E : St) (P : Nat → Int32) (nj : Nat) (k g hall : Int32) : Int32 := sm (f_alk E P k g hall) nj
def m_gon (E : St) (P : Nat → Int32) (nj : Nat) (g : Int32) (h : Nat) : Int32 := sm (f_gon E P g h) nj
def m_gin (E : St) (P : Nat → Int32) (nj : Nat) (g hall : Int32) : Int32 := sm (f_gin E P g hall) nj
def f_crd (E : St) (P : Nat → Int32) (nj : Nat) (k g hall : Int32) : Nat → Bool := fun x => decide (E 4 x = 1 ∧ m_alk E P nj k g (E 2 x) < m_alk E P nj k g hall)
def m_crd (E : St) (P : Nat → Int32) (nh nj j h : Nat) : Bool := anyB (f_crd E P nj (E 5 j) (E 8 j) (E 2 h)) nh
def f_scd (E : St) (P : Nat → Int32) (g : Int32) (h : Nat) : Nat → Bool := fun k => decide (P k = nI h ∧ E 5 k = 4 ∧ E 10 k = g)
def m_scd (E : St) (P : Nat → Int32) (nj j h : Nat) : Bool := anyB (f_scd E P (E 8 j) h) nj
def m_wh2 (E : St) (P : Nat → Int32) (nh nj j h : Nat) : Int32 :=
  if (E 5 j = 1 ∨ E 5 j = 2) ∧ m_crd E P nh nj j h = true then 6
  else if (E 5 j = 4 ∧ 0 < m_gon E P nj (E 10 j) h) ∨ (E 5 j = 5 ∧ m_gin E P nj (E 10 j) (E 2 h) = 0) then 7
  else if m_scd E P nj j h = true then 8 else 0
def m_why (E : St) (P : Nat → Int32) (nh nj j h : Nat) : Int32 :=
  if E 4 h = 0 then 1 else if ¬ (E 3 h &&& (E 9 j ^^^ (-1))) = 0 then 2
  else if m_left E P nj h 0 < E 6 (3 * j + 0) then 3 else if m_left E P nj h 1 < E 6 (3 * j + 1) then 4 else if m_left E P nj h 2 < E 6 (3 * j + 2) then 5
  else m_wh2 E P nh nj j h
theorem why_tail {E : St} {P : Nat → Int32} {nh nj j h : Nat} (h1 : ¬ E 4 h = 0) (h2 : E 3 h &&& (E 9 j ^^^ (-1)) = 0) (hlt : ∀ x, x < 3 → ¬ m_left E P nj h x < E 6 (3 * j + x)) : m_why E P nh nj j h = m_wh2 E P nh nj j h := by
  unfold m_why
  rw [if_neg h1, if_neg (fun q => q h2), if_neg (hlt 0 (by omega)), if_neg (hlt 1 (by omega)), if_neg (hlt 2 (by omega))]
def m_oth (E : St) (P : Nat → Int32) (nj j h : Nat) : Int32 := if E 5 j = 4 then m_gon E P nj (E 10 j) h else if E 5 j = 5 then m_gin E P nj (E 10 j) (E 2 h) else 0
def m_room (E : St) (P : Nat → Int32) (nj j h : Nat) : Nat → Int32
  | 0 => 0
  | i + 1 => m_room E P nj j h i + (m_left E P nj h i - E 6 (3 * j + i))
def m_pts (E : St) (P : Nat → Int32) (nj j h : Nat) : Int32 := E 15 0 * m_room E P nj j h 3 - E 15 1 * m_gon E P nj (E 8 j) h + E 15 2 * m_oth E P nj j h
/-- what the reference's row needs, that no index be wrong -/
def mF (v : Nat → Int32) (nh nj : Nat) : Prop := nh ≤ 10 ∧ nj ≤ 24 ∧ v 0 = nI nh ∧ v 1 = nI nj ∧ ∀ j, j < nj → v (258 + j) = 1 → ∃ h, h < nh ∧ v (282 + j) = nI h
def hN (v : Nat → Int32) (j : Nat) : Nat := (v (282 + j)).toNatClampNeg
theorem mF.host {v : Nat → Int32} {nh nj j : Nat} (h : mF v nh nj) (hj : j < nj) (hs : v (258 + j) = 1) : v (282 + j) = nI (hN v j) ∧ hN v j < nh := by
  obtain ⟨h10, -, -, -, hh⟩ := h
  obtain ⟨x, hx, e⟩ := hh j hj hs
  have e2 : hN v j = x := by rw [hN, e, nI_clamp (by omega)]
  rw [e2]; exact ⟨e, hx⟩
theorem pB_ne {E : St} {but : Int32} {j h : Nat} (hh : h < 10) : pB E but j = nI h ↔ ¬ nI j = but ∧ E 11 j = 1 ∧ E 12 j = nI h := by
  have hm : ¬ (-1 : Int32) = nI h := by
    intro q
    have := congrArg Int32.toInt q
    rw [nI_toInt (by omega)] at this
    have e : Int32.toInt (-1) = -1 := by decide
    omega
  unfold pB
  by_cases h1 : nI j = but
  · simp [h1, hm]
  · by_cases h2 : E 11 j = 1 <;> simp [h1, h2, hm]
theorem acc_sub {a b c : Int32} : a - b - c = a - (b + c) := by grind
/-- the host of most points so far (-3: none) -/
def m_bst (E : St) (P : Nat → Int32) (nh nj j : Nat) : Nat → Int32
  | 0 => -3
  | n + 1 => if m_why E P nh nj j n = 0 ∧ (m_bst E P nh nj j n < 0 ∨ m_pts E P nj j (m_bst E P nh nj j n).toNatClampNeg < m_pts E P nj j n) then nI n else m_bst E P nh nj j n
theorem m_bst_in (E : St) (P : Nat → Int32) (nh nj j : Nat) : ∀ n : Nat, m_bst E P nh nj j n = -3 ∨ ∃ b, b < n ∧ m_bst E P nh nj j n = nI b
  | 0 => Or.inl rfl
  | n + 1 => by
    rw [m_bst]
    split
    · exact Or.inr ⟨n, Nat.lt_succ_self n, rfl⟩
    · rcases m_bst_in E P nh nj j n with h | ⟨b, h1, h2⟩
      · exact Or.inl h
      · exact Or.inr ⟨b, Nat.lt_succ_of_lt h1, h2⟩
theorem m_bst_nat {E : St} {P : Nat → Int32} {nh nj j n : Nat} (hn : n < 2 ^ 31) (h : ¬ m_bst E P nh nj j n < 0) : m_bst E P nh nj j n = nI (m_bst E P nh nj j n).toNatClampNeg ∧ (m_bst E P nh nj j n).toNatClampNeg < n := by
  rcases m_bst_in E P nh nj j n with e | ⟨b, h1, h2⟩
  · rw [e] at h; exact absurd (by decide) h
  · rw [h2, nI_clamp (by omega)]; exact ⟨rfl, h1⟩
/-- a copy of the first n -/
def cpy (n : Nat) (f g : Nat → Int32) : Nat → Int32 := fun k => if k < n then f k else g k
theorem cpy_0 (f g : Nat → Int32) : cpy 0 f g = g := funext fun k => by simp [cpy]
theorem cpy_s (n : Nat) (f g : Nat → Int32) : upd (cpy n f g) n (f n) = cpy (n + 1) f g := funext fun k => by
  unfold cpy upd
  by_cases h1 : k = n
  · subst h1; simp
  · by_cases h2 : k < n
    · simp [h1, h2, Nat.lt_succ_of_lt h2]
    · simp [h1, h2, show ¬ k < n + 1 by omega]
def Zr (v : Nat → Int32) : Prop := ∀ k, 354 ≤ k → v k = 0
/-- what can be undone: at most 30 rows, the oldest first -/
def push30 (stk : List (Nat → Int32)) (v : Nat → Int32) : List (Nat → Int32) := (if stk.length = 30 then stk.tail else stk) ++ [v]
def KR (K : Nat → Int32) (stk : List (Nat → Int32)) : Prop := stk.length ≤ 30 ∧ ∀ i w, stk[i]? = some w → ∀ k, k < 354 → K (354 * i + k) = w k
/-- the first rows of K gone, up to k -/
def shf (k : Nat) (K : Nat → Int32) : Nat → Int32 := fun i => if i + 354 < k then K (i + 354) else K i
theorem shf_0 (K : Nat → Int32) : shf 354 K = K := funext fun i => by rw [shf, if_neg (by omega)]
theorem shf_s {k : Nat} (hk : 354 ≤ k) (K : Nat → Int32) : upd (shf k K) (k - 354) (shf k K k) = shf (k + 1) K := funext fun i => by
  have e : shf k K k = K k := by rw [shf, if_neg (by omega)]
  rw [e]
  show (if i = k - 354 then K k else (if i + 354 < k then K (i + 354) else K i)) = (if i + 354 < k + 1 then K (i + 354) else K i)
  by_cases h1 : i = k - 354
  · rw [if_pos h1, if_pos (by omega), show i + 354 = k by omega]
  · by_cases h2 : i + 354 < k
    · rw [if_neg h1, if_pos h2, if_pos (by omega)]
    · rw [if_neg h1, if_neg h2, if_neg (by omega)]
theorem KR.tail {K : Nat → Int32} {stk : List (Nat → Int32)} (h : KR K stk) (h30 : stk.length = 30) : KR (shf 10620 K) stk.tail ∧ stk.tail.length = 29 := by
  obtain ⟨w0, r, rfl⟩ : ∃ w0 r, stk = w0 :: r := by cases stk with | nil => simp at h30 | cons a b => exact ⟨a, b, rfl⟩
  simp at h30
  refine ⟨⟨by simp; omega, fun i w hi k hk => ?_⟩, by simpa using h30⟩
  have hi' : r[i]? = some w := hi
  have hl := (List.getElem?_eq_some_iff.mp hi').1
  have := h.2 (i + 1) w (by simpa using hi) k hk
  rw [← this, shf, if_pos (by omega)]
  congr 1
  omega
/-- a copy behind -/
def cpa (n p : Nat) (f g : Nat → Int32) : Nat → Int32 := fun k => if p ≤ k ∧ k < p + n then f (k - p) else g k
theorem cpa_0 (p : Nat) (f g : Nat → Int32) : cpa 0 p f g = g := funext fun k => by simp [cpa]; omega
theorem cpa_s (n p : Nat) (f g : Nat → Int32) : upd (cpa n p f g) (p + n) (f n) = cpa (n + 1) p f g := funext fun k => by
  show (if k = p + n then f n else (if p ≤ k ∧ k < p + n then f (k - p) else g k)) = (if p ≤ k ∧ k < p + (n + 1) then f (k - p) else g k)
  by_cases h1 : k = p + n
  · rw [if_pos h1, if_pos (by omega), show k - p = n by omega]
  · by_cases h2 : p ≤ k ∧ k < p + n
    · rw [if_neg h1, if_pos h2, if_pos ⟨h2.1, by omega⟩]
    · rw [if_neg h1, if_neg h2, if_neg (by omega)]
theorem KR.push {K : Nat → Int32} {stk : List (Nat → Int32)} {v : Nat → Int32} {n : Nat} (h : KR K stk) (hl : stk.length < 30) (hn : n = stk.length) : KR (cpa 354 (354 * n) v K) (stk ++ [v]) := by
  subst hn
  refine ⟨by simp; omega, fun i w hi k hk => ?_⟩
  rcases Nat.lt_or_ge i stk.length with q | q
  · rw [List.getElem?_append_left q] at hi
    have := h.2 i w hi k hk
    show (if _ then _ else _) = _
    rw [if_neg (by omega), this]
  · rw [List.getElem?_append_right q] at hi
    have h0 : i - stk.length < 1 := (List.getElem?_eq_some_iff.mp hi).1
    rw [show i - stk.length = 0 by omega] at hi
    cases hi
    show (if _ then _ else _) = _
    rw [show i = stk.length by omega, if_pos (by omega)]
    congr 1
    omega
def f_std (v : Nat → Int32) (j h : Nat) : Nat → Int32 := upd (upd (upd (upd v (258 + j) 1) (282 + j) (nI h)) 5 (v 5 + 1)) (306 + j) (v 5 + 1)
