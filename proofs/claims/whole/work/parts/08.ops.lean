/-! ===== OPS: what each call answers, and what is now behind it (none: refused) ===== -/
abbrev okB (x : Int32) (n : Nat) : Prop := ¬ x < 0 ∧ x < nI n
abbrev cN (x : Int32) : Nat := x.toNatClampNeg
abbrev OpT : Type := Int32 × Option (Nat → Int32)
def nxS (stk : List (Nat → Int32)) (v : Nat → Int32) (o : Option (Nat → Int32)) : List (Nat → Int32) := match o with
  | none => stk
  | some _ => push30 stk v
def keepM (τ u : St) : Prop := u 0 3 = τ 0 3 ∧ u 0 6 = τ 0 6 ∧ u 10 = τ 10 ∧ u 11 = τ 11
def MP (τ u : St) (stk : List (Nat → Int32)) (o : Option (Nat → Int32)) : Prop := u 1 = o.getD (τ 1) ∧ KR (u 2) (nxS stk (τ 1) o) ∧ u 0 0 = nI (nxS stk (τ 1) o).length ∧ keepM τ u
theorem MP0 {τ : St} {stk : List (Nat → Int32)} (hKR : KR (τ 2) stk) (hO : τ 0 0 = nI stk.length) : MP τ τ stk none := ⟨rfl, hKR, hO, rfl, rfl, rfl, rfl⟩
theorem MPs {τ : St} {stk : List (Nat → Int32)} {K V : Nat → Int32} (hR : KR K (push30 stk (τ 1))) : MP τ (sr (sr (sr τ 1 V) 2 K) 0 (upd (τ 0) 0 (nI (push30 stk (τ 1)).length))) stk (some V) := ⟨rfl, hR, rfl, rfl, rfl, rfl, rfl⟩
def o_why (v : Nat → Int32) (nh nj : Nat) (job host : Int32) : Int32 :=
  if okB job nj ∧ okB host nh then (if eM v 11 (cN job) = 0 then m_why (eM v) (pB (eM v) job) nh nj (cN job) (cN host) else -2) else -1
def o_points (v : Nat → Int32) (nh nj : Nat) (job host : Int32) : Int32 :=
  if okB job nj ∧ okB host nh then (if eM v 11 (cN job) = 0 then m_pts (eM v) (pB (eM v) job) nj (cN job) (cN host) else -1000002) else -1000001
def o_left (v : Nat → Int32) (nh nj : Nat) (host i : Int32) : Int32 :=
  if okB host nh ∧ okB i 3 then m_left (eM v) (pB (eM v) (-1)) nj (cN host) (cN i) else -1
def o_told (v : Nat → Int32) (nj : Nat) (job what : Int32) : Int32 :=
  if okB job nj then (if what = 0 then eM v 11 (cN job) else if what = 1 then (if eM v 11 (cN job) = 1 then eM v 12 (cN job) else -3) else if what = 2 then (if eM v 11 (cN job) = 1 then eM v 13 (cN job) else -3)
    else if what = 3 then eM v 5 (cN job) else if what = 4 then eM v 7 (cN job) else if what = 5 then eM v 8 (cN job) else -1) else -1
def o_end (v : Nat → Int32) (nj : Nat) (job : Int32) : OpT :=
  if okB job nj then (if eM v 11 (cN job) = 2 then (-2, none) else (1, some (upd v (258 + cN job) 2))) else (-1, none)
def o_rise (v : Nat → Int32) (nh : Nat) (host : Int32) : OpT :=
  if okB host nh then (if eM v 4 (cN host) = 1 then (-2, none) else (1, some (upd v (56 + cN host) 1))) else (-1, none)
def m_tgs (v : Nat → Int32) (n : Nat) : Int32 := sm (fun j => if eM v 14 j < 0 then 0 else 1) n
def o_target (v : Nat → Int32) (nh nj : Nat) (job host : Int32) : OpT :=
  if okB job nj ∧ (host = -1 ∨ okB host nh) then (m_tgs (upd v (330 + cN job) host) nj, some (upd v (330 + cN job) host)) else (-1, none)
def m_sts (v : Nat → Int32) (x : Int32) (n : Nat) : Int32 := sm (fun j => if eM v 11 j = x then 1 else 0) n
def m_ups (v : Nat → Int32) (n : Nat) : Int32 := sm (fun h => eM v 4 h) n
def o_count (v : Nat → Int32) (nh nj olds : Nat) (what : Int32) : Int32 :=
  if what = 0 then nI nh else if what = 1 then nI nj else if what = 2 then m_sts v 0 nj else if what = 3 then m_sts v 1 nj else if what = 4 then m_sts v 2 nj
  else if what = 5 then m_ups v nh else if what = 6 then m_tgs v nj else if what = 7 then nI olds else -1
def o_step (mv : Nat) (mj mh : Nat → Int32) (i what : Int32) : Int32 :=
  if okB i mv ∧ okB what 2 then (if what = 0 then mj (cN i) else mh (cN i)) else -1
def o_weight (v : Nat → Int32) (which w : Int32) : OpT :=
  if okB which 3 ∧ ¬ w < -100 ∧ ¬ 100 < w then (eM v 15 (cN which), some (upd v (2 + cN which) w)) else (-1001, none)
def f_host (v : Nat → Int32) (nh : Nat) (a b c hall tn : Int32) : Nat → Int32 :=
  upd (upd (upd (upd (upd (upd (upd v (6 + 3 * nh) a) (6 + 3 * nh + 1) b) (6 + 3 * nh + 2) c) (36 + nh) hall) (46 + nh) tn) (56 + nh) 1) 0 (nI (nh + 1))
abbrev okA (a b c : Int32) : Prop := okB a 1001 ∧ okB b 1001 ∧ okB c 1001
def o_host (v : Nat → Int32) (nh : Nat) (a b c hall tn : Int32) : OpT :=
  if okA a b c ∧ okB hall 5 ∧ okB tn 256 then (if nh = 10 then (-2, none) else (nI nh, some (f_host v nh a b c hall tn))) else (-1, none)
def f_job (v : Nat → Int32) (nj : Nat) (kind a b c pr gr tol oth : Int32) : Nat → Int32 :=
  upd (upd (upd (upd (upd (upd (upd (upd (upd (upd (upd v (66 + nj) kind) (90 + 3 * nj) a) (90 + 3 * nj + 1) b) (90 + 3 * nj + 2) c) (162 + nj) pr) (186 + nj) gr) (210 + nj) tol) (234 + nj) oth) (258 + nj) 0) (330 + nj) (-1)) 1 (nI (nj + 1))
def o_job (v : Nat → Int32) (nj : Nat) (kind a b c pr gr tol oth : Int32) : OpT :=
  if okB kind 6 ∧ okA a b c ∧ okB pr 10 ∧ okB gr 8 ∧ okB tol 256 ∧ okB oth 8 then (if nj = 24 then (-2, none) else (nI nj, some (f_job v nj kind a b c pr gr tol oth))) else (-1, none)
/-- a host falls, as far as the first n jobs -/
def f_fal (v : Nat → Int32) (h n : Nat) : Nat → Int32 := fun k => if k = 56 + h then 0 else if (258 ≤ k ∧ k < 258 + n) ∧ v k = 1 ∧ v (k + 24) = nI h then (if v (k - 192) = 3 then 2 else 0) else v k
def m_fal (v : Nat → Int32) (h n : Nat) : Int32 := sm (fun j => if (eM v 11 j = 1 ∧ eM v 12 j = nI h) ∧ ¬ eM v 5 j = 3 then 1 else 0) n
def o_fall (v : Nat → Int32) (nh nj : Nat) (host : Int32) : OpT :=
  if okB host nh then (if eM v 4 (cN host) = 0 then (-2, none) else (m_fal v (cN host) nj, some (f_fal v (cN host) nj))) else (-1, none)
def o_move (v : Nat → Int32) (nh nj : Nat) (job host : Int32) : OpT :=
  if okB job nj ∧ okB host nh then (if eM v 11 (cN job) = 1 ∧ ¬ eM v 5 (cN job) = 3 ∧ ¬ eM v 12 (cN job) = host then
    (if m_why (eM v) (pB (eM v) job) nh nj (cN job) (cN host) = 0 then (eM v 12 (cN job), some (f_std v (cN job) (cN host))) else (-3, none)) else (-2, none)) else (-1, none)
def m_fit (E : St) (P : Nat → Int32) (nh nj j n : Nat) : Bool := anyB (fun h => decide (m_why E P nh nj j h = 0)) n
theorem mF.put {v : Nat → Int32} {nh nj k : Nat} {x : Int32} (h : mF v nh nj) (hk : 2 ≤ k) (hk2 : k < 258 ∨ 306 ≤ k) : mF (upd v k x) nh nj := by
  obtain ⟨h1, h2, h3, h4, h5⟩ := h
  have e : ∀ i, i ≠ k → upd v k x i = v i := fun i hi => if_neg hi
  refine ⟨h1, h2, ?_, ?_, fun j hj hs => ?_⟩
  · rw [e 0 (by omega)]; exact h3
  · rw [e 1 (by omega)]; exact h4
  · rw [e (258 + j) (by omega)] at hs
    obtain ⟨y, hy, ey⟩ := h5 j hj hs
    exact ⟨y, hy, by rw [e (282 + j) (by omega)]; exact ey⟩
abbrev isG (v : Nat → Int32) (group : Int32) (j : Nat) : Prop := (eM v 5 j = 2 ∧ eM v 8 j = group) ∧ eM v 11 j = 0
def m_gsz (v : Nat → Int32) (group : Int32) (n : Nat) : Int32 := sm (fun j => if isG v group j then 1 else 0) n
/-- a gang is placed, as far as the first n jobs; whether all had a host -/
def g_run (v : Nat → Int32) (group : Int32) (nh nj : Nat) : Nat → (Nat → Int32) × Bool
  | 0 => (v, true)
  | n + 1 => if (g_run v group nh nj n).2 = true ∧ isG (g_run v group nh nj n).1 group n then
      (if m_bst (eM (g_run v group nh nj n).1) (pB (eM (g_run v group nh nj n).1) (nI n)) nh nj n nh < 0 then ((g_run v group nh nj n).1, false)
       else (f_std (g_run v group nh nj n).1 n (m_bst (eM (g_run v group nh nj n).1) (pB (eM (g_run v group nh nj n).1) (nI n)) nh nj n nh).toNatClampNeg, true))
      else g_run v group nh nj n
def o_gang (v : Nat → Int32) (nh nj : Nat) (group : Int32) : OpT :=
  if okB group 8 then (if m_gsz v group nj = 0 then (-2, none) else if (g_run v group nh nj nj).2 = true then (m_gsz v group nj, some (g_run v group nh nj nj).1) else (-3, none)) else (-1, none)
/-- who goes next from a host: of the first n jobs -/
abbrev mayGo (v : Nat → Int32) (j h k : Nat) : Prop := (eM v 11 k = 1 ∧ eM v 12 k = nI h) ∧ ¬ eM v 5 k = 3 ∧ eM v 7 k < eM v 7 j
abbrev sooner (v : Nat → Int32) (k w : Nat) : Prop := eM v 7 k < eM v 7 w ∨ (eM v 7 k = eM v 7 w ∧ eM v 13 w < eM v 13 k)
def m_nx (v : Nat → Int32) (j h : Nat) : Nat → Int32
  | 0 => -1
  | n + 1 => if mayGo v j h n ∧ (m_nx v j h n < 0 ∨ sooner v n (m_nx v j h n).toNatClampNeg) then nI n else m_nx v j h n
/-- the row after t have gone; who goes as the t-th; the greatest priority of the first t -/
def go_v (v : Nat → Int32) (nj j h : Nat) : Nat → (Nat → Int32)
  | 0 => v
  | t + 1 => upd (go_v v nj j h t) (258 + (m_nx (go_v v nj j h t) j h nj).toNatClampNeg) 0
def go_w (v : Nat → Int32) (nj j h t : Nat) : Nat := (m_nx (go_v v nj j h t) j h nj).toNatClampNeg
def go_g (v : Nat → Int32) (nj j h : Nat) : Nat → Int32
  | 0 => -1
  | t + 1 => if eM (go_v v nj j h (t + 1)) 7 (go_w v nj j h t) ≤ go_g v nj j h t then go_g v nj j h t else eM (go_v v nj j h (t + 1)) 7 (go_w v nj j h t)
abbrev go_y (v : Nat → Int32) (nh nj j h t : Nat) : Int32 := m_why (eM (go_v v nj j h t)) (pB (eM (go_v v nj j h t)) (nI j)) nh nj j h
/-- how many go, when at most f more may -/
def go_n (v : Nat → Int32) (nh nj j h : Nat) : Nat → Nat → Nat
  | 0, t => t
  | f + 1, t => if go_y v nh nj j h t = 0 ∨ m_nx (go_v v nj j h t) j h nj < 0 then t else go_n v nh nj j h f (t + 1)
def go_T (v : Nat → Int32) (nh nj j h : Nat) : Nat := go_n v nh nj j h 25 0
/-- the best host of those where some must go: host, greatest priority, how many -/
def p_b (v : Nat → Int32) (nh nj j : Nat) : Nat → Int32 × Int32 × Int32
  | 0 => (-3, 0, 0)
  | n + 1 => if go_y v nh nj j n (go_T v nh nj j n) = 0 ∧ ((p_b v nh nj j n).1 < 0 ∨ go_g v nj j n (go_T v nh nj j n) < (p_b v nh nj j n).2.1 ∨ (go_g v nj j n (go_T v nh nj j n) = (p_b v nh nj j n).2.1 ∧ ¬ (p_b v nh nj j n).2.2 ≤ nI (go_T v nh nj j n)))
      then (nI n, go_g v nj j n (go_T v nh nj j n), nI (go_T v nh nj j n)) else p_b v nh nj j n
/-- place: the answer, what is now, how many went -/
def o_place (v : Nat → Int32) (nh nj : Nat) (job g : Int32) : OpT × Int32 :=
  if okB job nj then
    (if eM v 11 (cN job) = 0 ∧ ¬ eM v 5 (cN job) = 2 then
      (if m_bst (eM v) (pB (eM v) job) nh nj (cN job) nh < 0 then
        (if eM v 5 (cN job) = 3 ∨ (p_b v nh nj (cN job) nh).1 < 0 then ((-3, none), g)
         else (((p_b v nh nj (cN job) nh).1, some (f_std (go_v v nj (cN job) (cN (p_b v nh nj (cN job) nh).1) (go_T v nh nj (cN job) (cN (p_b v nh nj (cN job) nh).1))) (cN job) (cN (p_b v nh nj (cN job) nh).1))), nI (go_T v nh nj (cN job) (cN (p_b v nh nj (cN job) nh).1))))
       else ((m_bst (eM v) (pB (eM v) job) nh nj (cN job) nh, some (f_std v (cN job) (cN (m_bst (eM v) (pB (eM v) job) nh nj (cN job) nh)))), 0))
     else ((-2, none), g)) else ((-1, none), g)
/-- those that went stand again, as far as the first k -/
def rs_v (v : Nat → Int32) (nj j h t : Nat) : Nat → (Nat → Int32)
  | 0 => go_v v nj j h t
  | k + 1 => upd (rs_v v nj j h t k) (258 + go_w v nj j h k) 1
/-- how many stand on a host -/
def cG (v : Nat → Int32) (h : Nat) : Nat → Nat
  | 0 => 0
  | n + 1 => cG v h n + if eM v 11 n = 1 ∧ eM v 12 n = nI h then 1 else 0
def MPg (τ u : St) (stk : List (Nat → Int32)) (o : Option (Nat → Int32)) (g : Int32) : Prop := u 1 = o.getD (τ 1) ∧ KR (u 2) (nxS stk (τ 1) o) ∧ u 0 0 = nI (nxS stk (τ 1) o).length ∧ u 0 3 = g ∧ u 0 6 = τ 0 6 ∧ u 10 = τ 10 ∧ u 11 = τ 11
theorem p_b_in (v : Nat → Int32) (nh nj j : Nat) : ∀ n : Nat, (p_b v nh nj j n).1 = -3 ∨ ∃ b, b < n ∧ (p_b v nh nj j n).1 = nI b
  | 0 => Or.inl rfl
  | n + 1 => by
    rw [p_b]
    split
    · exact Or.inr ⟨n, Nat.lt_succ_self n, rfl⟩
    · rcases p_b_in v nh nj j n with h | ⟨b, h1, h2⟩
      · exact Or.inl h
      · exact Or.inr ⟨b, Nat.lt_succ_of_lt h1, h2⟩
theorem p_b_nat {v : Nat → Int32} {nh nj j n : Nat} (hn : n < 2 ^ 31) (h : ¬ (p_b v nh nj j n).1 < 0) : (p_b v nh nj j n).1 = nI (p_b v nh nj j n).1.toNatClampNeg ∧ (p_b v nh nj j n).1.toNatClampNeg < n := by
  rcases p_b_in v nh nj j n with e | ⟨b, h1, h2⟩
  · rw [e] at h; exact absurd (by decide) h
  · rw [h2, nI_clamp (by omega)]; exact ⟨rfl, h1⟩
theorem m_bst_neg {E : St} {P : Nat → Int32} {nh nj j n : Nat} (hn : n < 2 ^ 31) (h : m_bst E P nh nj j n < 0) : m_bst E P nh nj j n = -3 := by
  rcases m_bst_in E P nh nj j n with e | ⟨b, h1, h2⟩
  · exact e
  · rw [h2] at h; exact absurd h (nI_pos (by omega))
