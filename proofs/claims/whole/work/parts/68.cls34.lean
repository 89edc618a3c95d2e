theorem th3 {f : Nat → Int32} {p n x i : Nat} {a b c : Int32} (hi : i < 3) : upd (upd (upd f (p + 3 * n) a) (p + 3 * n + 1) b) (p + 3 * n + 2) c (p + (3 * x + i)) = if x = n then (if i = 0 then a else if i = 1 then b else c) else f (p + (3 * x + i)) := by
  by_cases e : x = n
  · subst e
    rw [if_pos rfl]
    rcases (show i = 0 ∨ i = 1 ∨ i = 2 by omega) with z | z | z <;> subst z
    · rw [upn (by omega), upn (by omega), show p + (3 * x + 0) = p + 3 * x by omega, ups]; rfl
    · rw [upn (by omega), show p + (3 * x + 1) = p + 3 * x + 1 by omega, ups]; rfl
    · rw [show p + (3 * x + 2) = p + 3 * x + 2 by omega, ups]; rfl
  · rw [if_neg e, upn (by omega), upn (by omega), upn (by omega)]
theorem th0 {f : Nat → Int32} {n x i : Nat} {a b c : Int32} (hi : i < 3) : upd (upd (upd f (n * 3) a) (n * 3 + 1) b) (n * 3 + 2) c (3 * x + i) = if x = n then (if i = 0 then a else if i = 1 then b else c) else f (3 * x + i) := by
  have h := th3 (f := f) (p := 0) (n := n) (x := x) (a := a) (b := b) (c := c) hi
  rw [Nat.zero_add, Nat.zero_add, Nat.mul_comm 3 n] at h
  exact h
theorem okB_am {x : Int32} (h : okB x 1001) : 0 ≤ x.toInt ∧ x.toInt ≤ 1000 := by
  obtain ⟨k, hk, rfl⟩ := in_nat (n := 1001) (by decide) h
  rw [nI_toInt (by omega)]; omega
theorem okA_at {a b c : Int32} (h : okA a b c) (i : Nat) : 0 ≤ (if i = 0 then a else if i = 1 then b else c).toInt ∧ (if i = 0 then a else if i = 1 then b else c).toInt ≤ 1000 := by
  split
  · exact okB_am h.1
  · split
    · exact okB_am h.2.1
    · exact okB_am h.2.2
theorem am_bd {x : Int32} (h : 0 ≤ x.toInt ∧ x.toInt ≤ 1000) : bd5 x := by unfold bd5; omega
/-! a host more -/
section HOST
variable {v : Nat → Int32} {nh nj T : Nat} {a b c hall tn : Int32}
theorem fh_o {i : Nat} (h0 : i ≠ 0) (h1 : i < 6 + 3 * nh ∨ 6 + 3 * nh + 2 < i) (h2 : i ≠ 36 + nh) (h3 : i ≠ 46 + nh) (h4 : i ≠ 56 + nh) : f_host v nh a b c hall tn i = v i := by
  unfold f_host; rw [upn h0, upn h4, upn h3, upn h2, upn (by omega), upn (by omega), upn (by omega)]
theorem fh_1 {x i : Nat} (hn : nh < 10) (hx : x < 10) (hi : i < 3) : f_host v nh a b c hall tn (6 + (3 * x + i)) = if x = nh then (if i = 0 then a else if i = 1 then b else c) else v (6 + (3 * x + i)) := by
  unfold f_host; rw [upn (by omega), upn (by omega), upn (by omega), upn (by omega)]; exact th3 hi
theorem fh_2 {x : Nat} (hn : nh < 10) (hx : x < 10) : f_host v nh a b c hall tn (36 + x) = if x = nh then hall else v (36 + x) := by
  by_cases e : x = nh
  · subst e; unfold f_host; rw [if_pos rfl, upn (by omega), upn (by omega), upn (by omega), ups]
  · rw [if_neg e, fh_o (by omega) (by omega) (by omega) (by omega) (by omega)]
theorem fh_3 {x : Nat} (hn : nh < 10) (hx : x < 10) : f_host v nh a b c hall tn (46 + x) = if x = nh then tn else v (46 + x) := by
  by_cases e : x = nh
  · subst e; unfold f_host; rw [if_pos rfl, upn (by omega), upn (by omega), ups]
  · rw [if_neg e, fh_o (by omega) (by omega) (by omega) (by omega) (by omega)]
theorem fh_4 {x : Nat} (hn : nh < 10) (hx : x < 10) : f_host v nh a b c hall tn (56 + x) = if x = nh then 1 else v (56 + x) := by
  by_cases e : x = nh
  · subst e; unfold f_host; rw [if_pos rfl, upn (by omega), ups]
  · rw [if_neg e, fh_o (by omega) (by omega) (by omega) (by omega) (by omega)]
theorem fh_r {i : Nat} (hn : nh < 10) (h : 66 ≤ i ∨ (1 ≤ i ∧ i < 6)) : f_host v nh a b c hall tn i = v i := fh_o (by omega) (by omega) (by omega) (by omega) (by omega)
theorem VI.host (hV : VI v nh nj T) (hn : nh < 10) (hA : okA a b c) (hh : okB hall 5) : VI (f_host v nh a b c hall tn) (nh + 1) nj T := by
  obtain ⟨h1, h2, h3, h4, h5, h6, h7, h8, t, h9, h10, h11⟩ := hV
  have hj := h1.2.1
  have r : ∀ i, 66 ≤ i ∨ (1 ≤ i ∧ i < 6) → f_host v nh a b c hall tn i = v i := fun i hi => fh_r hn hi
  refine ⟨⟨by omega, hj, ?_, by rw [r 1 (by omega)]; exact h1.2.2.2.1, fun j hjj hs => ?_⟩, fun i hi => by rw [r i (by omega)]; exact h2 i hi, ⟨by omega, hj, fun x hx => ⟨?_, ?_, fun i hi => ?_⟩, fun x hx => ?_⟩, ⟨fun x hx i hi => ?_, fun x hx i hi => ?_⟩, fun j hjj => ?_, fun j hjj => ?_, fun j hjj hs => ?_, fun x hx y hy sx sy e => ?_, t, by rw [r 5 (by omega)]; exact h9, h10, fun j hjj hs => ?_⟩
  · unfold f_host; rw [ups]
  · rw [r _ (by omega)] at hs
    obtain ⟨y, hy, ey⟩ := h1.2.2.2.2 j hjj hs
    exact ⟨y, by omega, by rw [r _ (by omega)]; exact ey⟩
  · show ∃ y, y < 5 ∧ f_host v nh a b c hall tn (36 + x) = nI y
    rw [fh_2 hn (by omega)]
    split
    · obtain ⟨k, k1, k2⟩ := in_nat (n := 5) (by decide) hh; exact ⟨k, k1, k2⟩
    · exact (h3.2.2.1 x (by omega)).1
  · show f_host v nh a b c hall tn (56 + x) = 0 ∨ f_host v nh a b c hall tn (56 + x) = 1
    rw [fh_4 hn (by omega)]
    split
    · exact Or.inr rfl
    · exact (h3.2.2.1 x (by omega)).2.1
  · show bd5 (f_host v nh a b c hall tn (6 + (3 * x + i)))
    rw [fh_1 hn (by omega) hi]
    by_cases e : x = nh
    · rw [if_pos e]; exact am_bd (okA_at hA i)
    · rw [if_neg e]; exact (h3.2.2.1 x (by omega)).2.2 i hi
  · have q := h3.2.2.2 x hx
    refine ⟨?_, ?_, fun i hi => ?_⟩
    · show ∃ y, y < 8 ∧ f_host v nh a b c hall tn (186 + x) = nI y; rw [r _ (by omega)]; exact q.1
    · show ∃ y, y < 8 ∧ f_host v nh a b c hall tn (234 + x) = nI y; rw [r _ (by omega)]; exact q.2.1
    · show bd5 (f_host v nh a b c hall tn (90 + (3 * x + i))); rw [r _ (by omega)]; exact q.2.2 i hi
  · show 0 ≤ (f_host v nh a b c hall tn (6 + (3 * x + i))).toInt ∧ (f_host v nh a b c hall tn (6 + (3 * x + i))).toInt ≤ 1000
    rw [fh_1 hn (by omega) hi]
    by_cases e : x = nh
    · rw [if_pos e]; exact okA_at hA i
    · rw [if_neg e]; exact h4.1 x (by omega) i hi
  · show 0 ≤ (f_host v nh a b c hall tn (90 + (3 * x + i))).toInt ∧ (f_host v nh a b c hall tn (90 + (3 * x + i))).toInt ≤ 1000
    rw [r _ (by omega)]; exact h4.2 x hx i hi
  · show ¬ f_host v nh a b c hall tn (162 + j) < 0; rw [r _ (by omega)]; exact h5 j hjj
  · show f_host v nh a b c hall tn (330 + j) = -1 ∨ ∃ y, y < nh + 1 ∧ f_host v nh a b c hall tn (330 + j) = nI y
    rw [r _ (by omega)]
    rcases h6 j hjj with e | ⟨y, y1, y2⟩
    · exact Or.inl e
    · exact Or.inr ⟨y, by omega, y2⟩
  · have hs : f_host v nh a b c hall tn (258 + j) = 1 := hs
    rw [r _ (by omega)] at hs
    have e : hsN (f_host v nh a b c hall tn) j = hsN v j := by unfold hsN hN; rw [r _ (by omega)]
    have hl : hsN v j < nh := (h1.host hjj hs).2
    rw [e]; show f_host v nh a b c hall tn (56 + hsN v j) = 1
    rw [fh_4 hn (by omega), if_neg (by omega)]; exact h7 j hjj hs
  · have sx : f_host v nh a b c hall tn (258 + x) = 1 := sx
    have sy : f_host v nh a b c hall tn (258 + y) = 1 := sy
    have e : f_host v nh a b c hall tn (306 + x) = f_host v nh a b c hall tn (306 + y) := e
    rw [r _ (by omega)] at sx sy
    rw [r _ (by omega), r _ (by omega)] at e
    exact h8 x hx y hy sx sy e
  · have hs : f_host v nh a b c hall tn (258 + j) = 1 := hs
    rw [r _ (by omega)] at hs
    obtain ⟨s, s1, s2⟩ := h11 j hjj hs
    exact ⟨s, s1, by show f_host v nh a b c hall tn (306 + j) = nI s; rw [r _ (by omega)]; exact s2⟩
theorem XR.host {σ u : St} (hX : XR σ v nh nj) (hn : nh < 10) (hjn : nj ≤ 24) (h1 : u 1 = upd (upd (upd (σ 1) (nh * 3) a) (nh * 3 + 1) b) (nh * 3 + 2) c) (h2 : u 2 = upd (σ 2) nh hall) (h3 : u 3 = upd (σ 3) nh tn) (h4 : u 4 = upd (σ 4) nh 1) (hr : ∀ r, 5 ≤ r → r < 16 → u r = σ r) (h00 : u 0 0 = nI (nh + 1)) (h01 : u 0 1 = σ 0 1) (h02 : u 0 2 = σ 0 2) : XR u (f_host v nh a b c hall tn) (nh + 1) nj := by
  obtain ⟨a1, a2, a3, a4, a5, a6⟩ := hX
  have r : ∀ i, 66 ≤ i ∨ (1 ≤ i ∧ i < 6) → f_host v nh a b c hall tn i = v i := fun i hi => fh_r hn hi
  refine ⟨⟨h00, h01.trans a1.2⟩, by rw [h02, r 5 (by omega)]; exact a2, ⟨fun x hx => ⟨fun i hi => ?_, ?_, ?_, ?_⟩, fun x hx => ?_⟩, fun k hk => ?_, fun k hk => ?_, fun i hi => ?_⟩
  · show u 1 (3 * x + i) = f_host v nh a b c hall tn (6 + (3 * x + i))
    rw [h1, th0 hi, fh_1 hn (by omega) hi]
    by_cases e : x = nh
    · rw [if_pos e, if_pos e]
    · rw [if_neg e, if_neg e]; exact (a3.1 x (by omega)).1 i hi
  · show u 2 x = f_host v nh a b c hall tn (36 + x)
    rw [h2, fh_2 hn (by omega)]
    by_cases e : x = nh
    · subst e; rw [ups, if_pos rfl]
    · rw [upn e, if_neg e]; exact (a3.1 x (by omega)).2.1
  · show u 3 x = f_host v nh a b c hall tn (46 + x)
    rw [h3, fh_3 hn (by omega)]
    by_cases e : x = nh
    · subst e; rw [ups, if_pos rfl]
    · rw [upn e, if_neg e]; exact (a3.1 x (by omega)).2.2.1
  · show u 4 x = f_host v nh a b c hall tn (56 + x)
    rw [h4, fh_4 hn (by omega)]
    by_cases e : x = nh
    · subst e; rw [ups, if_pos rfl]
    · rw [upn e, if_neg e]; exact (a3.1 x (by omega)).2.2.2
  · obtain ⟨q1, q2, q3, q4, q5⟩ := a3.2 x hx
    refine ⟨fun i hi => ?_, ?_, ?_, ?_, ?_⟩
    · rw [hr 6 (by omega) (by omega)]; exact (q1 i hi).trans (r (90 + (3 * x + i)) (by omega)).symm
    · rw [hr 5 (by omega) (by omega)]; exact q2.trans (r (66 + x) (by omega)).symm
    · rw [hr 8 (by omega) (by omega)]; exact q3.trans (r (186 + x) (by omega)).symm
    · rw [hr 9 (by omega) (by omega)]; exact q4.trans (r (210 + x) (by omega)).symm
    · rw [hr 10 (by omega) (by omega)]; exact q5.trans (r (234 + x) (by omega)).symm
  · obtain ⟨q1, q2, q3, q4⟩ := a4 k hk
    refine ⟨?_, ?_, ?_, fun hs => ?_⟩
    · rw [hr 5 (by omega) (by omega)]; exact q1.trans (r (66 + k) (by omega)).symm
    · rw [hr 7 (by omega) (by omega)]; exact q2.trans (r (162 + k) (by omega)).symm
    · rw [hr 11 (by omega) (by omega)]; exact q3.trans (r (258 + k) (by omega)).symm
    · have hs : f_host v nh a b c hall tn (258 + k) = 1 := hs
      rw [r _ (by omega)] at hs
      rw [hr 12 (by omega) (by omega), hr 13 (by omega) (by omega)]
      exact ⟨(q4 hs).1.trans (r (282 + k) (by omega)).symm, (q4 hs).2.trans (r (306 + k) (by omega)).symm⟩
  · rw [hr 14 (by omega) (by omega)]; exact (a5 k hk).trans (r (330 + k) (by omega)).symm
  · rw [hr 15 (by omega) (by omega)]; exact (a6 i hi).trans (r (2 + i) (by omega)).symm
theorem STK.host {σ u : St} {stk : List (Nat → Int32)} (hS : STK σ stk nh nj T) (h1 : u 1 = upd (upd (upd (σ 1) (nh * 3) a) (nh * 3 + 1) b) (nh * 3 + 2) c) (h2 : u 2 = upd (σ 2) nh hall) (h3 : u 3 = upd (σ 3) nh tn) (hr : ∀ r, 5 ≤ r → r < 16 → u r = σ r) : STK u stk (nh + 1) nj T := by
  refine ⟨fun w hw => ?_, hS.2⟩
  obtain ⟨a0, b0, c0, d0⟩ := hS.1 w hw
  refine ⟨a0, ⟨fun x hx => ⟨fun i hi => ?_, ?_, ?_⟩, fun x hx => ?_⟩, by omega, d0⟩
  · rw [h1, th0 hi, if_neg (by omega)]; exact (b0.1 x hx).1 i hi
  · rw [h2, upn (by omega)]; exact (b0.1 x hx).2.1
  · rw [h3, upn (by omega)]; exact (b0.1 x hx).2.2
  · rw [hr 5 (by omega) (by omega), hr 6 (by omega) (by omega), hr 7 (by omega) (by omega), hr 8 (by omega) (by omega), hr 9 (by omega) (by omega), hr 10 (by omega) (by omega)]; exact b0.2 x hx
end HOST
theorem CL.mk {σ u : St} {v : Nat → Int32} {nh nj T : Nat} {stk : List (Nat → Int32)} (hX : XR u v nh nj) (hV : VI v nh nj T) (hF : FSr u (pB (eM v) (-1)) nh nj (u 16) (u 17) (u 18) (u 19) (u 20) (u 21)) (hR : RG σ stk) (hS : STK u stk nh nj T) (h30 : ∀ r, 30 ≤ r → u r = σ r) (h3 : u 0 3 = σ 0 3) (h4 : u 0 4 = σ 0 4) : CL u v nh nj stk T :=
  ⟨hX, hV, hF, hR.of h30 h3 h4, hS⟩
section JOB
variable {v : Nat → Int32} {nh nj T : Nat} {kind a b c pr gr tol oth : Int32}
theorem fj_o {i : Nat} (h0 : i ≠ 1) (h1 : i < 90 + 3 * nj ∨ 90 + 3 * nj + 2 < i) (h2 : i ≠ 66 + nj) (h3 : i ≠ 162 + nj) (h4 : i ≠ 186 + nj) (h5 : i ≠ 210 + nj) (h6 : i ≠ 234 + nj) (h7 : i ≠ 258 + nj) (h8 : i ≠ 330 + nj) : f_job v nj kind a b c pr gr tol oth i = v i := by
  unfold f_job; rw [upn h0, upn h8, upn h7, upn h6, upn h5, upn h4, upn h3, upn (by omega), upn (by omega), upn (by omega), upn h2]
theorem fj_6 {x i : Nat} (hn : nj < 24) (hx : x < 24) (hi : i < 3) : f_job v nj kind a b c pr gr tol oth (90 + (3 * x + i)) = if x = nj then (if i = 0 then a else if i = 1 then b else c) else v (90 + (3 * x + i)) := by
  unfold f_job; rw [upn (by omega), upn (by omega), upn (by omega), upn (by omega), upn (by omega), upn (by omega), upn (by omega), th3 hi]
  by_cases e : x = nj
  · rw [if_pos e, if_pos e]
  · rw [if_neg e, if_neg e, upn (by omega)]
theorem fj_330 {x : Nat} (hn : nj < 24) (hx : x < 24) : f_job v nj kind a b c pr gr tol oth (330 + x) = if x = nj then -1 else v (330 + x) := by
  by_cases e : x = nj
  · subst e; unfold f_job; rw [if_pos rfl, upn (by omega), ups]
  · rw [if_neg e, fj_o (by omega) (by omega) (by omega) (by omega) (by omega) (by omega) (by omega) (by omega) (by omega)]
theorem fj_258 {x : Nat} (hn : nj < 24) (hx : x < 24) : f_job v nj kind a b c pr gr tol oth (258 + x) = if x = nj then 0 else v (258 + x) := by
  by_cases e : x = nj
  · subst e; unfold f_job; rw [if_pos rfl, upn (by omega), upn (by omega), ups]
  · rw [if_neg e, fj_o (by omega) (by omega) (by omega) (by omega) (by omega) (by omega) (by omega) (by omega) (by omega)]
theorem fj_234 {x : Nat} (hn : nj < 24) (hx : x < 24) : f_job v nj kind a b c pr gr tol oth (234 + x) = if x = nj then oth else v (234 + x) := by
  by_cases e : x = nj
  · subst e; unfold f_job; rw [if_pos rfl, upn (by omega), upn (by omega), upn (by omega), ups]
  · rw [if_neg e, fj_o (by omega) (by omega) (by omega) (by omega) (by omega) (by omega) (by omega) (by omega) (by omega)]
theorem fj_210 {x : Nat} (hn : nj < 24) (hx : x < 24) : f_job v nj kind a b c pr gr tol oth (210 + x) = if x = nj then tol else v (210 + x) := by
  by_cases e : x = nj
  · subst e; unfold f_job; rw [if_pos rfl, upn (by omega), upn (by omega), upn (by omega), upn (by omega), ups]
  · rw [if_neg e, fj_o (by omega) (by omega) (by omega) (by omega) (by omega) (by omega) (by omega) (by omega) (by omega)]
theorem fj_186 {x : Nat} (hn : nj < 24) (hx : x < 24) : f_job v nj kind a b c pr gr tol oth (186 + x) = if x = nj then gr else v (186 + x) := by
  by_cases e : x = nj
  · subst e; unfold f_job; rw [if_pos rfl, upn (by omega), upn (by omega), upn (by omega), upn (by omega), upn (by omega), ups]
  · rw [if_neg e, fj_o (by omega) (by omega) (by omega) (by omega) (by omega) (by omega) (by omega) (by omega) (by omega)]
theorem fj_162 {x : Nat} (hn : nj < 24) (hx : x < 24) : f_job v nj kind a b c pr gr tol oth (162 + x) = if x = nj then pr else v (162 + x) := by
  by_cases e : x = nj
  · subst e; unfold f_job; rw [if_pos rfl, upn (by omega), upn (by omega), upn (by omega), upn (by omega), upn (by omega), upn (by omega), ups]
  · rw [if_neg e, fj_o (by omega) (by omega) (by omega) (by omega) (by omega) (by omega) (by omega) (by omega) (by omega)]
theorem fj_66 {x : Nat} (hn : nj < 24) (hx : x < 24) : f_job v nj kind a b c pr gr tol oth (66 + x) = if x = nj then kind else v (66 + x) := by
  by_cases e : x = nj
  · subst e; unfold f_job; rw [if_pos rfl, upn (by omega), upn (by omega), upn (by omega), upn (by omega), upn (by omega), upn (by omega), upn (by omega), upn (by omega), upn (by omega), upn (by omega), ups]
  · rw [if_neg e, fj_o (by omega) (by omega) (by omega) (by omega) (by omega) (by omega) (by omega) (by omega) (by omega)]
theorem fj_r {i : Nat} (hn : nj < 24) (h : i = 0 ∨ (2 ≤ i ∧ i < 66) ∨ (282 ≤ i ∧ i < 330) ∨ 354 ≤ i) : f_job v nj kind a b c pr gr tol oth i = v i := fj_o (by omega) (by omega) (by omega) (by omega) (by omega) (by omega) (by omega) (by omega) (by omega)
theorem fj_st {x : Nat} (hn : nj < 24) (hx : x < nj + 1) (hs : eM (f_job v nj kind a b c pr gr tol oth) 11 x = 1) : x < nj ∧ eM v 11 x = 1 := by
  have hs : f_job v nj kind a b c pr gr tol oth (258 + x) = 1 := hs
  rw [fj_258 hn (by omega)] at hs
  by_cases e : x = nj
  · rw [if_pos e] at hs; exact absurd hs (by decide)
  · rw [if_neg e] at hs; exact ⟨by omega, hs⟩
theorem VI.job (hV : VI v nh nj T) (hn : nj < 24) (hA : okA a b c) (hp : okB pr 10) (hg : okB gr 8) (ho : okB oth 8) : VI (f_job v nj kind a b c pr gr tol oth) nh (nj + 1) T := by
  obtain ⟨h1, h2, h3, h4, h5, h6, h7, h8, t, h9, h10, h11⟩ := hV
  have hh := h1.1
  have r : ∀ i, i = 0 ∨ (2 ≤ i ∧ i < 66) ∨ (282 ≤ i ∧ i < 330) ∨ 354 ≤ i → f_job v nj kind a b c pr gr tol oth i = v i := fun i hi => fj_r hn hi
  refine ⟨⟨hh, by omega, by rw [r 0 (by omega)]; exact h1.2.2.1, ?_, fun j hjj hs => ?_⟩, fun i hi => by rw [r i (by omega)]; exact h2 i hi, ⟨hh, by omega, fun x hx => ?_, fun x hx => ⟨?_, ?_, fun i hi => ?_⟩⟩, ⟨fun x hx i hi => ?_, fun x hx i hi => ?_⟩, fun j hjj => ?_, fun j hjj => ?_, fun j hjj hs => ?_, fun x hx y hy sx sy e => ?_, t, by rw [r 5 (by omega)]; exact h9, h10, fun j hjj hs => ?_⟩
  · unfold f_job; rw [ups]
  · obtain ⟨s1, s2⟩ := fj_st hn hjj hs
    obtain ⟨y, hy, ey⟩ := h1.2.2.2.2 j s1 s2
    exact ⟨y, hy, by rw [r _ (by omega)]; exact ey⟩
  · have q := h3.2.2.1 x hx
    refine ⟨?_, ?_, fun i hi => ?_⟩
    · show ∃ y, y < 5 ∧ f_job v nj kind a b c pr gr tol oth (36 + x) = nI y; rw [r _ (by omega)]; exact q.1
    · show f_job v nj kind a b c pr gr tol oth (56 + x) = 0 ∨ f_job v nj kind a b c pr gr tol oth (56 + x) = 1; rw [r _ (by omega)]; exact q.2.1
    · show bd5 (f_job v nj kind a b c pr gr tol oth (6 + (3 * x + i))); rw [r _ (by omega)]; exact q.2.2 i hi
  · show ∃ y, y < 8 ∧ f_job v nj kind a b c pr gr tol oth (186 + x) = nI y
    rw [fj_186 hn (by omega)]
    split
    · obtain ⟨k, k1, k2⟩ := in_nat (n := 8) (by decide) hg; exact ⟨k, k1, k2⟩
    · exact (h3.2.2.2 x (by omega)).1
  · show ∃ y, y < 8 ∧ f_job v nj kind a b c pr gr tol oth (234 + x) = nI y
    rw [fj_234 hn (by omega)]
    split
    · obtain ⟨k, k1, k2⟩ := in_nat (n := 8) (by decide) ho; exact ⟨k, k1, k2⟩
    · exact (h3.2.2.2 x (by omega)).2.1
  · show bd5 (f_job v nj kind a b c pr gr tol oth (90 + (3 * x + i)))
    rw [fj_6 hn (by omega) hi]
    by_cases e : x = nj
    · rw [if_pos e]; exact am_bd (okA_at hA i)
    · rw [if_neg e]; exact (h3.2.2.2 x (by omega)).2.2 i hi
  · show 0 ≤ (f_job v nj kind a b c pr gr tol oth (6 + (3 * x + i))).toInt ∧ (f_job v nj kind a b c pr gr tol oth (6 + (3 * x + i))).toInt ≤ 1000
    rw [r _ (by omega)]; exact h4.1 x hx i hi
  · show 0 ≤ (f_job v nj kind a b c pr gr tol oth (90 + (3 * x + i))).toInt ∧ (f_job v nj kind a b c pr gr tol oth (90 + (3 * x + i))).toInt ≤ 1000
    rw [fj_6 hn (by omega) hi]
    by_cases e : x = nj
    · rw [if_pos e]; exact okA_at hA i
    · rw [if_neg e]; exact h4.2 x (by omega) i hi
  · show ¬ f_job v nj kind a b c pr gr tol oth (162 + j) < 0
    rw [fj_162 hn (by omega)]
    split
    · exact hp.1
    · exact h5 j (by omega)
  · show f_job v nj kind a b c pr gr tol oth (330 + j) = -1 ∨ ∃ y, y < nh ∧ f_job v nj kind a b c pr gr tol oth (330 + j) = nI y
    rw [fj_330 hn (by omega)]
    by_cases e : j = nj
    · rw [if_pos e]; exact Or.inl rfl
    · rw [if_neg e]; exact h6 j (by omega)
  · obtain ⟨s1, s2⟩ := fj_st hn hjj hs
    have e : hsN (f_job v nj kind a b c pr gr tol oth) j = hsN v j := by unfold hsN hN; rw [r _ (by omega)]
    have hl : hsN v j < nh := (h1.host s1 s2).2
    rw [e]; show f_job v nj kind a b c pr gr tol oth (56 + hsN v j) = 1
    rw [r _ (by omega)]; exact h7 j s1 s2
  · obtain ⟨x1, x2⟩ := fj_st hn hx sx
    obtain ⟨y1, y2⟩ := fj_st hn hy sy
    have e : f_job v nj kind a b c pr gr tol oth (306 + x) = f_job v nj kind a b c pr gr tol oth (306 + y) := e
    rw [r _ (by omega), r _ (by omega)] at e
    exact h8 x x1 y y1 x2 y2 e
  · obtain ⟨s1, s2⟩ := fj_st hn hjj hs
    obtain ⟨s, s3, s4⟩ := h11 j s1 s2
    exact ⟨s, s3, by show f_job v nj kind a b c pr gr tol oth (306 + j) = nI s; rw [r _ (by omega)]; exact s4⟩
theorem XR.job {σ u : St} (hX : XR σ v nh nj) (hnh : nh ≤ 10) (hn : nj < 24) (h6 : u 6 = upd (upd (upd (σ 6) (nj * 3) a) (nj * 3 + 1) b) (nj * 3 + 2) c) (h5 : u 5 = upd (σ 5) nj kind) (h7 : u 7 = upd (σ 7) nj pr) (h8 : u 8 = upd (σ 8) nj gr) (h9 : u 9 = upd (σ 9) nj tol) (h10 : u 10 = upd (σ 10) nj oth) (h11 : u 11 = upd (σ 11) nj 0) (h12 : u 12 = upd (σ 12) nj (-1)) (h13 : u 13 = upd (σ 13) nj 0) (h14 : u 14 = upd (σ 14) nj (-1)) (hr : ∀ r, (1 ≤ r ∧ r < 5) ∨ r = 15 → u r = σ r) (h00 : u 0 0 = σ 0 0) (h01 : u 0 1 = nI (nj + 1)) (h02 : u 0 2 = σ 0 2) : XR u (f_job v nj kind a b c pr gr tol oth) nh (nj + 1) := by
  obtain ⟨a1, a2, a3, a4, a5, a6⟩ := hX
  have r : ∀ i, i = 0 ∨ (2 ≤ i ∧ i < 66) ∨ (282 ≤ i ∧ i < 330) ∨ 354 ≤ i → f_job v nj kind a b c pr gr tol oth i = v i := fun i hi => fj_r hn hi
  refine ⟨⟨h00.trans a1.1, h01⟩, by rw [h02, r 5 (by omega)]; exact a2, ⟨fun x hx => ?_, fun x hx => ⟨fun i hi => ?_, ?_, ?_, ?_, ?_⟩⟩, fun x hx => ⟨?_, ?_, ?_, fun hs => ?_⟩, fun x hx => ?_, fun i hi => ?_⟩
  · obtain ⟨q1, q2, q3, q4⟩ := a3.1 x hx
    refine ⟨fun i hi => ?_, ?_, ?_, ?_⟩
    · rw [hr 1 (by omega)]; exact (q1 i hi).trans (r (6 + (3 * x + i)) (by omega)).symm
    · rw [hr 2 (by omega)]; exact q2.trans (r (36 + x) (by omega)).symm
    · rw [hr 3 (by omega)]; exact q3.trans (r (46 + x) (by omega)).symm
    · rw [hr 4 (by omega)]; exact q4.trans (r (56 + x) (by omega)).symm
  · show u 6 (3 * x + i) = f_job v nj kind a b c pr gr tol oth (90 + (3 * x + i))
    rw [h6, th0 hi, fj_6 hn (by omega) hi]
    by_cases e : x = nj
    · rw [if_pos e, if_pos e]
    · rw [if_neg e, if_neg e]; exact (a3.2 x (by omega)).1 i hi
  · show u 5 x = f_job v nj kind a b c pr gr tol oth (66 + x)
    rw [h5, fj_66 hn (by omega)]
    by_cases e : x = nj
    · subst e; rw [ups, if_pos rfl]
    · rw [upn e, if_neg e]; exact (a3.2 x (by omega)).2.1
  · show u 8 x = f_job v nj kind a b c pr gr tol oth (186 + x)
    rw [h8, fj_186 hn (by omega)]
    by_cases e : x = nj
    · subst e; rw [ups, if_pos rfl]
    · rw [upn e, if_neg e]; exact (a3.2 x (by omega)).2.2.1
  · show u 9 x = f_job v nj kind a b c pr gr tol oth (210 + x)
    rw [h9, fj_210 hn (by omega)]
    by_cases e : x = nj
    · subst e; rw [ups, if_pos rfl]
    · rw [upn e, if_neg e]; exact (a3.2 x (by omega)).2.2.2.1
  · show u 10 x = f_job v nj kind a b c pr gr tol oth (234 + x)
    rw [h10, fj_234 hn (by omega)]
    by_cases e : x = nj
    · subst e; rw [ups, if_pos rfl]
    · rw [upn e, if_neg e]; exact (a3.2 x (by omega)).2.2.2.2
  · show u 5 x = f_job v nj kind a b c pr gr tol oth (66 + x)
    rw [h5, fj_66 hn (by omega)]
    by_cases e : x = nj
    · subst e; rw [ups, if_pos rfl]
    · rw [upn e, if_neg e]; exact (a4 x (by omega)).1
  · show u 7 x = f_job v nj kind a b c pr gr tol oth (162 + x)
    rw [h7, fj_162 hn (by omega)]
    by_cases e : x = nj
    · subst e; rw [ups, if_pos rfl]
    · rw [upn e, if_neg e]; exact (a4 x (by omega)).2.1
  · show u 11 x = f_job v nj kind a b c pr gr tol oth (258 + x)
    rw [h11, fj_258 hn (by omega)]
    by_cases e : x = nj
    · subst e; rw [ups, if_pos rfl]
    · rw [upn e, if_neg e]; exact (a4 x (by omega)).2.2.1
  · obtain ⟨s1, s2⟩ := fj_st hn hx hs
    rw [h12, h13, upn (by omega), upn (by omega)]
    have q := (a4 x s1).2.2.2 s2
    exact ⟨q.1.trans (r (282 + x) (by omega)).symm, q.2.trans (r (306 + x) (by omega)).symm⟩
  · show u 14 x = f_job v nj kind a b c pr gr tol oth (330 + x)
    rw [h14, fj_330 hn (by omega)]
    by_cases e : x = nj
    · subst e; rw [ups, if_pos rfl]
    · rw [upn e, if_neg e]; exact a5 x (by omega)
  · rw [hr 15 (by omega)]; exact (a6 i hi).trans (r (2 + i) (by omega)).symm
theorem STK.job {σ u : St} {stk : List (Nat → Int32)} (hS : STK σ stk nh nj T) (h6 : u 6 = upd (upd (upd (σ 6) (nj * 3) a) (nj * 3 + 1) b) (nj * 3 + 2) c) (h5 : u 5 = upd (σ 5) nj kind) (h7 : u 7 = upd (σ 7) nj pr) (h8 : u 8 = upd (σ 8) nj gr) (h9 : u 9 = upd (σ 9) nj tol) (h10 : u 10 = upd (σ 10) nj oth) (hr : ∀ r, (1 ≤ r ∧ r < 5) ∨ r = 15 → u r = σ r) : STK u stk nh (nj + 1) T := by
  refine ⟨fun w hw => ?_, hS.2⟩
  obtain ⟨a0, b0, c0, d0⟩ := hS.1 w hw
  refine ⟨a0, ⟨fun x hx => ?_, fun x hx => ⟨fun i hi => ?_, ?_, ?_, ?_, ?_, ?_⟩⟩, c0, by omega⟩
  · rw [hr 1 (by omega), hr 2 (by omega), hr 3 (by omega)]; exact b0.1 x hx
  · rw [h6, th0 hi, if_neg (by omega)]; exact (b0.2 x hx).1 i hi
  · rw [h5, upn (by omega)]; exact (b0.2 x hx).2.1
  · rw [h7, upn (by omega)]; exact (b0.2 x hx).2.2.1
  · rw [h8, upn (by omega)]; exact (b0.2 x hx).2.2.2.1
  · rw [h9, upn (by omega)]; exact (b0.2 x hx).2.2.2.2.1
  · rw [h10, upn (by omega)]; exact (b0.2 x hx).2.2.2.2.2
theorem sm_more {f g : Nat → Int32} {n : Nat} (h : ∀ k, k < n → g k = f k) (h0 : g n = 0) : sm g (n + 1) = sm f n := by
  rw [sm, sm_congr h, h0, Int32.add_zero]
theorem FSr.job {σ u : St} {P P' b16 b17 b18 b19 b20 b21 : Nat → Int32} (hF : FSr σ P nh nj b16 b17 b18 b19 b20 b21) (hnh : nh ≤ 10) (hP : ∀ k, k < nj → P' k = P k) (hPn : P' nj = -1) (h6 : u 6 = upd (upd (upd (σ 6) (nj * 3) a) (nj * 3 + 1) b) (nj * 3 + 2) c) (h5 : u 5 = upd (σ 5) nj kind) (h8 : u 8 = upd (σ 8) nj gr) (h10 : u 10 = upd (σ 10) nj oth) (h1 : u 1 = σ 1) (h2 : u 2 = σ 2) : FSr u P' nh (nj + 1) b16 b17 b18 b19 b20 b21 := by
  have hne : ∀ h, h < nh → ¬ P' nj = nI h := fun h hh q => nI_nm1 (show h < 2 ^ 31 by omega) (hPn.symm.trans q)
  have hne2 : ∀ x, ¬ inH u P' nj x := fun x q => q.1 hPn
  have hin : ∀ k x, k < nj → (inH u P' k x ↔ inH σ P k x) := fun k x hk => by unfold inH; rw [hP k hk, h2]
  refine ⟨fun h hh => ⟨fun i hi => ?_, fun g hg => ⟨?_, ?_⟩⟩, fun x hx g hg => ⟨?_, ?_, ?_⟩⟩
  · rw [(hF.1 h hh).1 i hi]; unfold m_left; rw [h1]; congr 1; refine (sm_more (fun k hk => ?_) ?_).symm
    · unfold f_left; rw [hP k hk, h6, th0 hi, if_neg (show ¬ k = nj by omega)]
    · unfold f_left; rw [if_neg (hne h hh)]
  · rw [((hF.1 h hh).2 g hg).1]; unfold m_gon; refine (sm_more (fun k hk => ?_) ?_).symm
    · unfold f_gon; rw [hP k hk, h8, upn (by omega)]
    · unfold f_gon; rw [if_neg (fun q => hne h hh q.2)]
  · rw [((hF.1 h hh).2 g hg).2]; unfold m_shy; refine (sm_more (fun k hk => ?_) ?_).symm
    · unfold f_shy; rw [hP k hk, h5, h10, upn (by omega), upn (by omega)]
    · unfold f_shy; rw [if_neg (fun q => hne h hh q.1)]
  · rw [(hF.2 x hx g hg).1]; unfold m_gin; refine (sm_more (fun k hk => ?_) ?_).symm
    · unfold f_gin; rw [h8, upn (by omega)]; exact ifc (and_congr Iff.rfl (hin k _ hk))
    · unfold f_gin; rw [if_neg (fun q => hne2 _ q.2)]
  · rw [(hF.2 x hx g hg).2.1]; unfold m_alk; refine (sm_more (fun k hk => ?_) ?_).symm
    · unfold f_alk; rw [h5, h8, upn (by omega), upn (by omega)]; exact ifc (and_congr Iff.rfl (hin k _ hk))
    · unfold f_alk; rw [if_neg (fun q => hne2 _ q.2)]
  · rw [(hF.2 x hx g hg).2.2]; unfold m_alk; refine (sm_more (fun k hk => ?_) ?_).symm
    · unfold f_alk; rw [h5, h8, upn (by omega), upn (by omega)]; exact ifc (and_congr Iff.rfl (hin k _ hk))
    · unfold f_alk; rw [if_neg (fun q => hne2 _ q.2)]
theorem pB_job (hn : nj < 24) : (∀ k, k < nj → pB (eM (f_job v nj kind a b c pr gr tol oth)) (-1) k = pB (eM v) (-1) k) ∧ pB (eM (f_job v nj kind a b c pr gr tol oth)) (-1) nj = -1 := by
  constructor
  · intro k hk
    unfold pB
    rw [show eM (f_job v nj kind a b c pr gr tol oth) 11 k = eM v 11 k from (fj_258 hn (by omega)).trans (if_neg (by omega)), show eM (f_job v nj kind a b c pr gr tol oth) 12 k = eM v 12 k from fj_r (i := 282 + k) hn (by omega)]
  · unfold pB
    rw [show eM (f_job v nj kind a b c pr gr tol oth) 11 nj = 0 from (fj_258 hn (by omega)).trans (if_pos rfl)]
    split
    · rfl
    · exact if_neg (by decide)
end JOB
