/-! ===== int[N][M], all rows at once (multianewarray): no row of the kit ===== -/
section MULTI
variable {p : Program} {l : Launch} {e : Env} {R : Room} {s : State} {m : MethodId} {args : Array Value} {below : List Frame} {meth : Method} {c : Code} {locs : List Loc} {cells slots : Nat}
/-- i rows have been made since T; the outer array stands at T's end -/
def mrJ (p : Program) (l : Launch) (e : Env) (R : Room) (s : State) (m : MethodId) (args : Array Value) (below : List Frame) (meth : Method) (c : Code) (locs : List Loc) (cells slots : Nat) (T : State) (cO cI : ClassId) (N M i : Nat) (u : State) : Prop :=
  (∃ L : List Loc, (∀ q ∈ L, q ∈ locs ∨ q.base = T.heap.size) ∧ Stand p l e R s m args below meth c u L (cells + 1 + i) (slots + N + i * M)) ∧
  u.heap.size = T.heap.size + 1 + i ∧ u.heap[T.heap.size]? = some (arrV cO N (fun j => if j < i then .ref (T.heap.size + 1 + j) else .null)) ∧
  (∀ j, j < i → u.heap[T.heap.size + 1 + j]? = some (arrV cI M (fun _ => .int 0))) ∧ (∀ q : Nat, q < T.heap.size → u.heap[q]? = T.heap[q]?) ∧ u.vm = T.vm ∧ u.slotsUsed = T.slotsUsed + N + i * M
theorem mrJ_0 {T : State} {cO cI : ClassId} {N M : Nat} (X : Stand p l e R s m args below meth c T locs cells slots) : mrJ p l e R s m args below meth c locs cells slots T cO cI N M 0 (T.pushCell { cls := cO, slots := Array.replicate N .null, vm := .none }) := by
  have h := X.pushed { cls := cO, slots := Array.replicate N .null, vm := .none }
  refine ⟨⟨locs, fun q h => Or.inl h, by simpa using h⟩, by simp, ?_, fun j h => absurd h (Nat.not_lt_zero _), fun q hq => State.heap_pushCell_of_lt _ _ hq, rfl, by simp⟩
  rw [State.heap_pushCell_size, arrV_new]
  simp only [Nat.not_lt_zero, if_false]
theorem mrJ_s {T u : State} {cO cI : ClassId} {N M i : Nat} (hi : i < N) (h : mrJ p l e R s m args below meth c locs cells slots T cO cI N M i u) :
    mrJ p l e R s m args below meth c locs cells slots T cO cI N M (i + 1) ((u.pushCell { cls := cI, slots := Array.replicate M (.int 0), vm := .none }).setCell T.heap.size ((arrV cO N (fun j => if j < i then .ref (T.heap.size + 1 + j) else .null)).setSlot i (.ref u.heap.size))) := by
  obtain ⟨⟨L, hL, XL⟩, a1, a2, a3, a4, a5, a6⟩ := h
  have hlt0 : T.heap.size < u.heap.size := by omega
  have hcell : (u.pushCell { cls := cI, slots := Array.replicate M (.int 0), vm := .none }).heap[T.heap.size]? = some (arrV cO N (fun j => if j < i then .ref (T.heap.size + 1 + j) else .null)) := by
    rw [State.heap_pushCell_of_lt (h := hlt0)]; exact a2
  have X2 := (XL.pushed { cls := cI, slots := Array.replicate M (.int 0), vm := .none }).stored hcell i (.ref u.heap.size)
  refine ⟨⟨L ++ [⟨T.heap.size, i⟩], fun q hq => ?_, ?_⟩, ?_, ?_, fun j hj => ?_, fun q hq => ?_, a5, ?_⟩
  · rcases List.mem_append.mp hq with h | h
    · exact hL q h
    · rw [List.mem_singleton] at h; subst h; exact Or.inr rfl
  · have e1 : slots + N + (i + 1) * M = slots + N + i * M + M := by rw [Nat.succ_mul]; omega
    rw [e1, show cells + 1 + (i + 1) = cells + 1 + i + 1 by omega]
    simpa using X2
  · simp [a1]; omega
  · rw [State.heap_setCell_self hcell, arrV_store]
    congr 2
    funext j
    unfold updV
    by_cases e : j = i
    · subst e; rw [if_pos rfl, if_pos (Nat.lt_succ_self _), a1]
    · rw [if_neg e]
      show (if j < i then Value.ref (T.heap.size + 1 + j) else Value.null) = _
      by_cases z : j < i
      · rw [if_pos z, if_pos (by omega)]
      · rw [if_neg z, if_neg (by omega)]
  · rw [State.heap_setCell_other (show T.heap.size ≠ T.heap.size + 1 + j by omega)]
    by_cases z : j < i
    · rw [State.heap_pushCell_of_lt (h := show T.heap.size + 1 + j < u.heap.size by omega)]; exact a3 j z
    · rw [show T.heap.size + 1 + j = u.heap.size by omega, State.heap_pushCell_size, arrV_new]
  · rw [State.heap_setCell_other (show T.heap.size ≠ q by omega), State.heap_pushCell_of_lt (h := show q < u.heap.size by omega)]
    exact a4 q hq
  · show u.slotsUsed + (Array.replicate M (Value.int 0)).size = _
    rw [a6, Array.size_replicate, Nat.succ_mul]; omega
/-- the state itself -/
def mrU (T : State) (cO cI : ClassId) (N M : Nat) : Nat → State
  | 0 => T.pushCell { cls := cO, slots := Array.replicate N .null, vm := .none }
  | i + 1 => ((mrU T cO cI N M i).pushCell { cls := cI, slots := Array.replicate M (.int 0), vm := .none }).setCell T.heap.size ((arrV cO N (fun j => if j < i then .ref (T.heap.size + 1 + j) else .null)).setSlot i (.ref (mrU T cO cI N M i).heap.size))
theorem mrJ_all {T : State} {cO cI : ClassId} {N M : Nat} (X : Stand p l e R s m args below meth c T locs cells slots) : ∀ i, i ≤ N → mrJ p l e R s m args below meth c locs cells slots T cO cI N M i (mrU T cO cI N M i)
  | 0, _ => mrJ_0 X
  | i + 1, h => mrJ_s (by omega) (mrJ_all X i (by omega))
theorem mr_wp {T : State} {cO cI cc : ClassId} {kO kI : Class} {f : JFrame} {n k : Int32} {Q : Addr → Jvm.Pre} {E : CtlPost} {d : Bool} {acts : List Action} (X : Stand p l e R s m args below meth c T locs cells slots)
    (hO : T.vm.classes[cO]? = some kO) (hkO : kO.kind = .array cI (.array .int)) (hI : T.vm.classes[cI]? = some kI) (hkI : kI.kind = .array cc .int) (hn : ¬ n < 0) (hk : ¬ k < 0)
    (hl1 : n.toNatClampNeg * 4 ≤ 536870912) (hl2 : k.toNatClampNeg * 4 ≤ 536870912) (hc : T.heap.size + 1 + n.toNatClampNeg ≤ e.platform.maxCells) (hs : T.slotsUsed + n.toNatClampNeg + n.toNatClampNeg * k.toNatClampNeg ≤ e.platform.maxSlots)
    (hq : ∀ d' acts', Q T.heap.size d' acts' ((mrU T cO cI n.toNatClampNeg k.toNatClampNeg n.toNatClampNeg).setTop f)) :
    wp (multianewarray.make cO [n, k]) Q E e d acts (T.setTop f) := by
  have hA := Launch.admits_arrayLengthLimit X.admits
  have hB := Launch.admits_maxHeapBytes X.admits
  rw [multianewarray.make]
  simp only [wp_bind', W.ite, hn, if_false, wp_pure', W.theClass, State.vm_setTop, hO, hkO, Option.some.injEq, exists_eq_left']
  refine W.newArray_of (s := T.setTop f) hO hkO (by rw [hA]; omega) (by rw [hB]; show ¬ n.toNatClampNeg * 4 > 536870912; omega) (by show T.heap.size < _; omega) (by show T.slotsUsed + _ ≤ _; have := Nat.zero_le (n.toNatClampNeg * k.toNatClampNeg); omega) rfl (fun acts1 => ?_)
  have hfind : ([k].find? (· < 0)) = none := by simp [hk]
  simp only [hfind]
  rw [ite_self, wp_bind', Std.Legacy.Range.forIn_eq_forIn_range']
  have hsz : ([:n.toNatClampNeg] : Std.Legacy.Range).size = n.toNatClampNeg := by simp [Std.Legacy.Range.size]
  rw [hsz]
  show wp (forIn (List.range' 0 n.toNatClampNeg 1) PUnit.unit _) _ E e d acts1 _
  refine wp_forIn_inv (fun rest s' => ∃ i, i ≤ n.toNatClampNeg ∧ rest = List.range' i (n.toNatClampNeg - i) ∧ s' = (mrU T cO cI n.toNatClampNeg k.toNatClampNeg i).setTop f) _ _ ⟨0, Nat.zero_le _, rfl, rfl⟩ ?_ ?_
  · rintro x rest s' d' acts' Q' ⟨i, hi, hl, rfl⟩ hnext
    have hlt : i < n.toNatClampNeg := by
      rcases Nat.lt_or_ge i n.toNatClampNeg with h | h
      · exact h
      · rw [show n.toNatClampNeg - i = 0 from by omega] at hl; simp at hl
    obtain ⟨rfl, hrest⟩ : x = i ∧ rest = List.range' (i + 1) (n.toNatClampNeg - (i + 1)) := by
      rw [show n.toNatClampNeg - i = (n.toNatClampNeg - (i + 1)) + 1 from by omega, List.range'_succ] at hl
      exact ⟨(List.cons.inj hl).1, (List.cons.inj hl).2⟩
    have hJ := mrJ_all (cO := cO) (cI := cI) (M := k.toNatClampNeg) X x hi
    have hU : mrU T cO cI n.toNatClampNeg k.toNatClampNeg (x + 1) = ((mrU T cO cI n.toNatClampNeg k.toNatClampNeg x).pushCell { cls := cI, slots := Array.replicate k.toNatClampNeg (.int 0), vm := .none }).setCell T.heap.size ((arrV cO n.toNatClampNeg (fun j => if j < x then .ref (T.heap.size + 1 + j) else .null)).setSlot x (.ref (mrU T cO cI n.toNatClampNeg k.toNatClampNeg x).heap.size)) := rfl
    generalize hu : mrU T cO cI n.toNatClampNeg k.toNatClampNeg x = u at hJ hU ⊢
    obtain ⟨-, a1, a2, a3, a4, a5, a6⟩ := hJ
    have hmul : x * k.toNatClampNeg + k.toNatClampNeg ≤ n.toNatClampNeg * k.toNatClampNeg := by
      have := Nat.mul_le_mul_right k.toNatClampNeg (show x + 1 ≤ n.toNatClampNeg from hlt)
      rw [Nat.succ_mul] at this; exact this
    have hI' : u.vm.classes[cI]? = some kI := by rw [a5]; exact hI
    have hO' : u.vm.classes[cO]? = some kO := by rw [a5]; exact hO
    simp only [wp_bind']
    rw [multianewarray.make]
    simp only [wp_bind', W.ite, hk, if_false, wp_pure', W.theClass, State.vm_setTop, hI', hkI, Option.some.injEq, exists_eq_left']
    refine W.newArray_of (s := u.setTop f) hI' hkI (by rw [hA]; omega) (by rw [hB]; show ¬ k.toNatClampNeg * 4 > 536870912; omega) (by show u.heap.size < _; omega) (by show u.slotsUsed + _ ≤ _; omega) rfl (fun acts2 => ?_)
    have hlt0 : T.heap.size < u.heap.size := by omega
    simp only [wp_bind', W.writeLoc, wp_pure']
    refine ⟨arrV cO n.toNatClampNeg (fun j => if j < x then .ref (T.heap.size + 1 + j) else .null), ?_, by simp [arrV], by rw [arrV_size]; exact hlt, ?_, hnext _ _ _ ⟨x + 1, hlt, hrest, by rw [hU]; rfl⟩⟩
    · show (u.pushCell _).heap[T.heap.size]? = _
      rw [State.heap_pushCell_of_lt (h := hlt0)]; exact a2
    · show State.fitsSlot _ cO .none x _ = true
      simp [State.fitsSlot, State.slotType?, hO', hkO, fits]
  · rintro s' d' acts' ⟨i, hi, hl, rfl⟩
    have hiN : i = n.toNatClampNeg := by
      rcases Nat.lt_or_ge i n.toNatClampNeg with h | h
      · rw [show n.toNatClampNeg - i = (n.toNatClampNeg - (i + 1)) + 1 from by omega, List.range'_succ] at hl; cases hl
      · omega
    subst hiN
    simp only [wp_pure']
    exact hq _ _
end MULTI
