/-! ===== OPS: what each call answers, and what is now behind it (none: refused) ===== -/
abbrev okB (x : Int32) (n : Nat) : Prop := ¬ x < 0 ∧ x < nI n
abbrev cN (x : Int32) : Nat := x.toNatClampNeg
abbrev OpT : Type := Int32 × Option (Nat → Int32)
def nxS (stk : List (Nat → Int32)) (v : Nat → Int32) (o : Option (Nat → Int32)) : List (Nat → Int32) := match o with
  | none => stk
  | some _ => push30 stk v
def keepM (τ u : St) : Prop := u 0 3 = τ 0 3 ∧ u 0 6 = τ 0 6 ∧ u 10 = τ 10 ∧ u 11 = τ 11
def MP (τ u : St) (stk : List (Nat → Int32)) (o : Option (Nat → Int32)) : Prop := u 1 = o.getD (τ 1) ∧ KR (u 2) (nxS stk (τ 1) o) ∧ u 0 0 = nI (nxS stk (τ 1) o).length ∧ keepM τ u
theorem MP0 {τ : St} {stk : List (Nat → Int32)} (hKR : KR (τ 2) stk) (hO : τ 0 0 = nI stk.length) : MP τ τ stk none := ⟨rfl, hKR, hO, rfl, rfl, rfl, rfl⟩
theorem MPs {τ : St} {stk : List (Nat → Int32)} {K V : Nat → Int32} (hR : KR K (push30 stk (τ 1))) : MP τ (sr (sr (sr τ 1 V) 2 K) 0 (upd (τ 0) 0 (nI (push30 stk (τ 1)).length))) stk (some V) := ⟨rfl, hR, rfl, rfl, rfl, rfl, rfl⟩
def o_why (v : Nat → Int32) (nh nj : Nat) (job host : Int32) : Int32 :=
  if okB job nj ∧ okB host nh then (if eM v 11 (cN job) = 0 then m_why (eM v) (pB (eM v) job) nh nj (cN job) (cN host) else -2) else -1
def o_points (v : Nat → Int32) (nh nj : Nat) (job host : Int32) : Int32 :=
  if okB job nj ∧ okB host nh then (if eM v 11 (cN job) = 0 then m_pts (eM v) (pB (eM v) job) nj (cN job) (cN host) else -1000002) else -1000001
def o_left (v : Nat → Int32) (nh nj : Nat) (host i : Int32) : Int32 :=
  if okB host nh ∧ okB i 3 then m_left (eM v) (pB (eM v) (-1)) nj (cN host) (cN i) else -1
def o_told (v : Nat → Int32) (nj : Nat) (job what : Int32) : Int32 :=
  if okB job nj then (if what = 0 then eM v 11 (cN job) else if what = 1 then (if eM v 11 (cN job) = 1 then eM v 12 (cN job) else -3) else if what = 2 then (if eM v 11 (cN job) = 1 then eM v 13 (cN job) else -3)
    else if what = 3 then eM v 5 (cN job) else if what = 4 then eM v 7 (cN job) else if what = 5 then eM v 8 (cN job) else -1) else -1
def o_end (v : Nat → Int32) (nj : Nat) (job : Int32) : OpT :=
  if okB job nj then (if eM v 11 (cN job) = 2 then (-2, none) else (1, some (upd v (258 + cN job) 2))) else (-1, none)
def o_rise (v : Nat → Int32) (nh : Nat) (host : Int32) : OpT :=
  if okB host nh then (if eM v 4 (cN host) = 1 then (-2, none) else (1, some (upd v (56 + cN host) 1))) else (-1, none)
def m_tgs (v : Nat → Int32) (n : Nat) : Int32 := sm (fun j => if eM v 14 j < 0 then 0 else 1) n
def o_target (v : Nat → Int32) (nh nj : Nat) (job host : Int32) : OpT :=
  if okB job nj ∧ (host = -1 ∨ okB host nh) then (m_tgs (upd v (330 + cN job) host) nj, some (upd v (330 + cN job) host)) else (-1, none)
def m_sts (v : Nat → Int32) (x : Int32) (n : Nat) : Int32 := sm (fun j => if eM v 11 j = x then 1 else 0) n
def m_ups (v : Nat → Int32) (n : Nat) : Int32 := sm (fun h => eM v 4 h) n
def o_count (v : Nat → Int32) (nh nj olds : Nat) (what : Int32) : Int32 :=
  if what = 0 then nI nh else if what = 1 then nI nj else if what = 2 then m_sts v 0 nj else if what = 3 then m_sts v 1 nj else if what = 4 then m_sts v 2 nj
  else if what = 5 then m_ups v nh else if what = 6 then m_tgs v nj else if what = 7 then nI olds else -1
def o_step (mv : Nat) (mj mh : Nat → Int32) (i what : Int32) : Int32 :=
  if okB i mv ∧ okB what 2 then (if what = 0 then mj (cN i) else mh (cN i)) else -1
def o_weight (v : Nat → Int32) (which w : Int32) : OpT :=
  if okB which 3 ∧ ¬ w < -100 ∧ ¬ 100 < w then (eM v 15 (cN which), some (upd v (2 + cN which) w)) else (-1001, none)
def f_host (v : Nat → Int32) (nh : Nat) (a b c hall tn : Int32) : Nat → Int32 :=
  upd (upd (upd (upd (upd (upd (upd v (6 + 3 * nh) a) (6 + 3 * nh + 1) b) (6 + 3 * nh + 2) c) (36 + nh) hall) (46 + nh) tn) (56 + nh) 1) 0 (nI (nh + 1))
abbrev okA (a b c : Int32) : Prop := okB a 1001 ∧ okB b 1001 ∧ okB c 1001
def o_host (v : Nat → Int32) (nh : Nat) (a b c hall tn : Int32) : OpT :=
  if okA a b c ∧ okB hall 5 ∧ okB tn 256 then (if nh = 10 then (-2, none) else (nI nh, some (f_host v nh a b c hall tn))) else (-1, none)
def f_job (v : Nat → Int32) (nj : Nat) (kind a b c pr gr tol oth : Int32) : Nat → Int32 :=
  upd (upd (upd (upd (upd (upd (upd (upd (upd (upd (upd v (66 + nj) kind) (90 + 3 * nj) a) (90 + 3 * nj + 1) b) (90 + 3 * nj + 2) c) (162 + nj) pr) (186 + nj) gr) (210 + nj) tol) (234 + nj) oth) (258 + nj) 0) (330 + nj) (-1)) 1 (nI (nj + 1))
def o_job (v : Nat → Int32) (nj : Nat) (kind a b c pr gr tol oth : Int32) : OpT :=
  if okB kind 6 ∧ okA a b c ∧ okB pr 10 ∧ okB gr 8 ∧ okB tol 256 ∧ okB oth 8 then (if nj = 24 then (-2, none) else (nI nj, some (f_job v nj kind a b c pr gr tol oth))) else (-1, none)
/-- a host falls, as far as the first n jobs -/
def f_fal (v : Nat → Int32) (h n : Nat) : Nat → Int32 := fun k => if k = 56 + h then 0 else if (258 ≤ k ∧ k < 258 + n) ∧ v k = 1 ∧ v (k + 24) = nI h then (if v (k - 192) = 3 then 2 else 0) else v k
def m_fal (v : Nat → Int32) (h n : Nat) : Int32 := sm (fun j => if (eM v 11 j = 1 ∧ eM v 12 j = nI h) ∧ ¬ eM v 5 j = 3 then 1 else 0) n
def o_fall (v : Nat → Int32) (nh nj : Nat) (host : Int32) : OpT :=
  if okB host nh then (if eM v 4 (cN host) = 0 then (-2, none) else (m_fal v (cN host) nj, some (f_fal v (cN host) nj))) else (-1, none)
def o_move (v : Nat → Int32) (nh nj : Nat) (job host : Int32) : OpT :=
  if okB job nj ∧ okB host nh then (if eM v 11 (cN job) = 1 ∧ ¬ eM v 5 (cN job) = 3 ∧ ¬ eM v 12 (cN job) = host then
    (if m_why (eM v) (pB (eM v) job) nh nj (cN job) (cN host) = 0 then (eM v 12 (cN job), some (f_std v (cN job) (cN host))) else (-3, none)) else (-2, none)) else (-1, none)
def m_fit (E : St) (P : Nat → Int32) (nh nj j n : Nat) : Bool := anyB (fun h => decide (m_why E P nh nj j h = 0)) n
theorem mF.put {v : Nat → Int32} {nh nj k : Nat} {x : Int32} (h : mF v nh nj) (hk : 2 ≤ k) (hk2 : k < 258 ∨ 306 ≤ k) : mF (upd v k x) nh nj := by
  obtain ⟨h1, h2, h3, h4, h5⟩ := h
  have e : ∀ i, i ≠ k → upd v k x i = v i := fun i hi => if_neg hi
  refine ⟨h1, h2, ?_, ?_, fun j hj hs => ?_⟩
  · rw [e 0 (by omega)]; exact h3
  · rw [e 1 (by omega)]; exact h4
  · rw [e (258 + j) (by omega)] at hs
    obtain ⟨y, hy, ey⟩ := h5 j hj hs
    exact ⟨y, hy, by rw [e (282 + j) (by omega)]; exact ey⟩
