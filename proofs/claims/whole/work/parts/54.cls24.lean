/-! ===== PAST ===== -/
section QA
variable {p : Program} {l : Launch} {e : Env} {R : Room} {s : State} {m : MethodId} {args : Array Value} {below : List Frame} {meth : Method} {c : Code} {H : Heap} {locs : List Loc} {Q : State → Prop} {E : EV} {A : Nat → Prop} {cc : ByteArray} {nL pc : Nat} {ret : Option FieldType} {own : String} {ls : Array Slot} {rest : List Value} {σ : St} {a : Nat → Nat}
theorem va_aldA {D : va_G} {cl : List vw_C} {ws : va_W} {tys : List (ClassId × FieldType)} {a : Nat} {rest : List Value} {ls : Array Slot} {cells slots : Nat} (hexec : p.tables.exec = Jvm.exec) (hb : c.code = cc) (hK : va_K D cl tys s) (hP : va_P D cl ws H) (q0 t0 : Nat) {cA : ClassId} {n : Nat} {f : Nat → Option Nat} (ha : ws[q0]? = some (a, .inl (cA, n, .inr (.inr (.inr (.inr f)))))) (ht : tys[t0]? = some (cA, .array .int)) {i : Int32} (hin : vp_in i n) (hdg : decode cc pc = .ok (.aaload, 1))
    (kk : W p l e R s m args below meth c H locs cells slots Q (F0 m (pc + 1) ls (va_rf (f i.toNatClampNeg) :: rest))) : W p l e R s m args below meth c H locs cells slots Q (F0 m pc ls (.int i :: .ref a :: rest)) := by
  have hlt : i.toNatClampNeg < n := Nat.not_le.mp fun q => hin (Or.inr q)
  exact W.aald (v := va_rf (f i.toNatClampNeg)) (ty := .array .int) hexec hb (hP q0 _ ha) ((hK.2 t0 _ ht).1 n (fun j => va_rf (f j))) rfl (fun q => by cases q) (by show ¬ (i < 0 ∨ (arrV _ _ _).slots.size ≤ _); rw [arrV_size]; exact hin) (by show (arrV _ _ _).slots[_]? = _; rw [arrV_read _ _ hlt]) rfl rfl hdg kk
theorem q_aald {i : Nat} (hC : Cxt E p s m args meth c cc nL ret own A) (hw : Wst E (XW E a) σ A s.heap H locs) (hi : i < 30) (hdg : decode cc pc = .ok (.aaload, 1))
    (kk : W p l e R s m args below meth c H locs 0 0 Q (F0 m (pc + 1) ls (.ref (a (30 + i)) :: rest))) : W p l e R s m args below meth c H locs 0 0 Q (F0 m pc ls (.int (nI i) :: .ref (a 60) :: rest)) := by
  have hin : vp_in (nI i) 30 := vp_in_nI hi (by decide)
  refine va_aldA hC.1 hC.2.1 hC.2.2.2.2.2.1.1 hw.1 70 2 rfl rfl hin hdg ?_
  have hf : va_rf (if (nI i).toNatClampNeg < 30 then some (a (30 + (nI i).toNatClampNeg)) else none) = .ref (a (30 + i)) := by
    rw [nI_clamp (by omega), if_pos hi]; rfl
  rw [hf]; exact kk
end QA
def upc (u : Nat → Int32) (n : Nat) (f : Nat → Int32) : Nat → Int32 := fun k => if 6 ≤ k ∧ k < 6 + n then (if ¬ u (k - 6) = 0 then 1 else 0) else f k
theorem upc_0 (u f : Nat → Int32) : upc u 0 f = f := funext fun k => by unfold upc; rw [if_neg (by omega)]
theorem upc_s (u : Nat → Int32) (n : Nat) (f : Nat → Int32) : upd (upc u n f) (3 + 3 + n) (if ¬ u n = 0 then 1 else 0) = upc u (n + 1) f := funext fun k => by
  show (if k = 3 + 3 + n then (if ¬ u n = 0 then (1 : Int32) else 0) else (if 6 ≤ k ∧ k < 6 + n then (if ¬ u (k - 6) = 0 then 1 else 0) else f k)) = (if 6 ≤ k ∧ k < 6 + (n + 1) then (if ¬ u (k - 6) = 0 then 1 else 0) else f k)
  by_cases e : k = 3 + 3 + n
  · subst e; rw [if_pos rfl, if_pos (show 6 ≤ 3 + 3 + n ∧ 3 + 3 + n < 6 + (n + 1) by omega), show 3 + 3 + n - 6 = n by omega]
  · by_cases z : 6 ≤ k ∧ k < 6 + n
    · rw [if_neg e, if_pos z, if_pos (show 6 ≤ k ∧ k < 6 + (n + 1) by omega)]
    · rw [if_neg e, if_neg z, if_neg (show ¬ (6 ≤ k ∧ k < 6 + (n + 1)) by omega)]
def kpr (σ : St) (r : Nat → Int32) : Nat → Int32 := va_cpy (σ 14) (va_cpy (σ 13) (va_cpy (σ 12) (va_cpy (σ 11) (upc (σ 4) 10 (va_cpy (σ 15) (upd (upd (upd r 0 (σ 0 0)) 1 (σ 0 1)) 2 (σ 0 2)) 0 3 3)) 0 16 24) 0 40 24) 0 64 24) 0 88 24
/-- up, as the row has it -/
def upr (r : Nat → Int32) (n : Nat) (f : Nat → Int32) : Nat → Int32 := fun k => if k < n then (if r (3 + 3 + k) = 1 then 1 else 0) else f k
theorem upr_0 (r f : Nat → Int32) : upr r 0 f = f := funext fun k => by unfold upr; rw [if_neg (by omega)]
theorem upr_s (r : Nat → Int32) (n : Nat) (f : Nat → Int32) : upd (upr r n f) n (if r (3 + 3 + n) = 1 then 1 else 0) = upr r (n + 1) f := funext fun k => by
  show (if k = n then (if r (3 + 3 + n) = 1 then (1 : Int32) else 0) else (if k < n then (if r (3 + 3 + k) = 1 then 1 else 0) else f k)) = (if k < n + 1 then (if r (3 + 3 + k) = 1 then 1 else 0) else f k)
  by_cases e : k = n
  · subst e; rw [if_pos rfl, if_pos (show k < k + 1 by omega)]
  · by_cases z : k < n
    · rw [if_neg e, if_pos z, if_pos (show k < n + 1 by omega)]
    · rw [if_neg e, if_neg z, if_neg (show ¬ k < n + 1 by omega)]
