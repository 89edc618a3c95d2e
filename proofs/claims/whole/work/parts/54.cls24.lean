/-! ===== PAST ===== -/
section QA
variable {p : Program} {l : Launch} {e : Env} {R : Room} {s : State} {m : MethodId} {args : Array Value} {below : List Frame} {meth : Method} {c : Code} {H : Heap} {locs : List Loc} {Q : State → Prop} {E : EV} {A : Nat → Prop} {cc : ByteArray} {nL pc : Nat} {ret : Option FieldType} {own : String} {ls : Array Slot} {rest : List Value} {σ : St} {a : Nat → Nat}
theorem va_aldA {D : va_G} {cl : List vw_C} {ws : va_W} {tys : List (ClassId × FieldType)} {a : Nat} {rest : List Value} {ls : Array Slot} {cells slots : Nat} (hexec : p.tables.exec = Jvm.exec) (hb : c.code = cc) (hK : va_K D cl tys s) (hP : va_P D cl ws H) (q0 t0 : Nat) {cA : ClassId} {n : Nat} {f : Nat → Option Nat} (ha : ws[q0]? = some (a, .inl (cA, n, .inr (.inr (.inr (.inr f)))))) (ht : tys[t0]? = some (cA, .array .int)) {i : Int32} (hin : vp_in i n) (hdg : decode cc pc = .ok (.aaload, 1))
    (kk : W p l e R s m args below meth c H locs cells slots Q (F0 m (pc + 1) ls (va_rf (f i.toNatClampNeg) :: rest))) : W p l e R s m args below meth c H locs cells slots Q (F0 m pc ls (.int i :: .ref a :: rest)) := by
  have hlt : i.toNatClampNeg < n := Nat.not_le.mp fun q => hin (Or.inr q)
  exact W.aald (v := va_rf (f i.toNatClampNeg)) (ty := .array .int) hexec hb (hP q0 _ ha) ((hK.2 t0 _ ht).1 n (fun j => va_rf (f j))) rfl (fun q => by cases q) (by show ¬ (i < 0 ∨ (arrV _ _ _).slots.size ≤ _); rw [arrV_size]; exact hin) (by show (arrV _ _ _).slots[_]? = _; rw [arrV_read _ _ hlt]) rfl rfl hdg kk
theorem q_aald {i : Nat} (hC : Cxt E p s m args meth c cc nL ret own A) (hw : Wst E (XW E a) σ A s.heap H locs) (hi : i < 30) (hdg : decode cc pc = .ok (.aaload, 1))
    (kk : W p l e R s m args below meth c H locs 0 0 Q (F0 m (pc + 1) ls (.ref (a (30 + i)) :: rest))) : W p l e R s m args below meth c H locs 0 0 Q (F0 m pc ls (.int (nI i) :: .ref (a 60) :: rest)) := by
  have hin : vp_in (nI i) 30 := vp_in_nI hi (by decide)
  refine va_aldA hC.1 hC.2.1 hC.2.2.2.2.2.1.1 hw.1 70 2 rfl rfl hin hdg ?_
  have hf : va_rf (if (nI i).toNatClampNeg < 30 then some (a (30 + (nI i).toNatClampNeg)) else none) = .ref (a (30 + i)) := by
    rw [nI_clamp (by omega), if_pos hi]; rfl
  rw [hf]; exact kk
end QA
def upc (u : Nat → Int32) (n : Nat) (f : Nat → Int32) : Nat → Int32 := fun k => if 6 ≤ k ∧ k < 6 + n then (if ¬ u (k - 6) = 0 then 1 else 0) else f k
theorem upc_0 (u f : Nat → Int32) : upc u 0 f = f := funext fun k => by unfold upc; rw [if_neg (by omega)]
theorem upc_s (u : Nat → Int32) (n : Nat) (f : Nat → Int32) : upd (upc u n f) (3 + 3 + n) (if ¬ u n = 0 then 1 else 0) = upc u (n + 1) f := funext fun k => by
  show (if k = 3 + 3 + n then (if ¬ u n = 0 then (1 : Int32) else 0) else (if 6 ≤ k ∧ k < 6 + n then (if ¬ u (k - 6) = 0 then 1 else 0) else f k)) = (if 6 ≤ k ∧ k < 6 + (n + 1) then (if ¬ u (k - 6) = 0 then 1 else 0) else f k)
  by_cases e : k = 3 + 3 + n
  · subst e; rw [if_pos rfl, if_pos (show 6 ≤ 3 + 3 + n ∧ 3 + 3 + n < 6 + (n + 1) by omega), show 3 + 3 + n - 6 = n by omega]
  · by_cases z : 6 ≤ k ∧ k < 6 + n
    · rw [if_neg e, if_pos z, if_pos (show 6 ≤ k ∧ k < 6 + (n + 1) by omega)]
    · rw [if_neg e, if_neg z, if_neg (show ¬ (6 ≤ k ∧ k < 6 + (n + 1)) by omega)]
def kpr (σ : St) (r : Nat → Int32) : Nat → Int32 := va_cpy (σ 14) (va_cpy (σ 13) (va_cpy (σ 12) (va_cpy (σ 11) (upc (σ 4) 10 (va_cpy (σ 15) (upd (upd (upd r 0 (σ 0 0)) 1 (σ 0 1)) 2 (σ 0 2)) 0 3 3)) 0 16 24) 0 40 24) 0 64 24) 0 88 24
/-- up, as the row has it -/
def upr (r : Nat → Int32) (n : Nat) (f : Nat → Int32) : Nat → Int32 := fun k => if k < n then (if r (3 + 3 + k) = 1 then 1 else 0) else f k
theorem upr_0 (r f : Nat → Int32) : upr r 0 f = f := funext fun k => by unfold upr; rw [if_neg (by omega)]
theorem upr_s (r : Nat → Int32) (n : Nat) (f : Nat → Int32) : upd (upr r n f) n (if r (3 + 3 + n) = 1 then 1 else 0) = upr r (n + 1) f := funext fun k => by
  show (if k = n then (if r (3 + 3 + n) = 1 then (1 : Int32) else 0) else (if k < n then (if r (3 + 3 + k) = 1 then 1 else 0) else f k)) = (if k < n + 1 then (if r (3 + 3 + k) = 1 then 1 else 0) else f k)
  by_cases e : k = n
  · subst e; rw [if_pos rfl, if_pos (show k < k + 1 by omega)]
  · by_cases z : k < n
    · rw [if_neg e, if_pos z, if_pos (show k < n + 1 by omega)]
    · rw [if_neg e, if_neg z, if_neg (show ¬ k < n + 1 by omega)]
set_option maxHeartbeats 4000000 in
set_option maxRecDepth 100000 in
theorem tX7_keep_k3 (l : Launch) (E : EV) (a : Nat → Nat) (σ : St) (kp : Nat) (hnx : σ 0 3 = nI 3) (hkp : σ 0 4 = nI kp) (hk30 : kp ≤ 30) : MV l E (XW E a) yX7_keep (Cond.code yX7_keep cX7_keep 4 none) ({ frames := 1, cells := 0, slots := 0, locals := 24 }) [.ref (a 68)] σ (fun u_ => u_ = sr (sr σ 33 (kpr σ (σ 33))) 0 (upd (upd (σ 0) 3 (nI (if 3 ≠ 29 then 3 + 1 else 0))) 4 (nI (if kp ≠ 30 then kp + 1 else kp)))) := by
  refine MV.mk (by decide +kernel) (Nat.le_of_ble_eq_true rfl) ?_
  intro p e s m args below meth c ls A Q hret hC hw hl
  have hC : Cxt E p s m args meth c cX7_keep 4 none RX7 A := hC
  have hl : lv_has ls 4 [(0, .ref (a 68))] := hl
  refine lv_aload_n hC.1 hC.2.1 dX7_keep_0 rfl (lv_at hl 0 rfl) ?_
  refine gf_X7_13 hC hw dX7_keep_1 ?_
  refine lv_aload_n hC.1 hC.2.1 dX7_keep_4 rfl (lv_at hl 0 rfl) ?_
  refine gf_X7_28 (v := nI 3) hC hw hnx dX7_keep_5 ?_
  refine q_aald hC hw (i := 3) (by decide) dX7_keep_8 ?_
  refine lv_astore_n (lv' := [(1, .ref (a 33)), (0, .ref (a 68))]) hC.1 hC.2.1 dX7_keep_9 rfl hl (by decide) rfl (fun ls hl => ?_)
  refine lv_aload_n hC.1 hC.2.1 dX7_keep_10 rfl (lv_at hl 0 rfl) ?_
  refine lv_iconst (v := nI 0) hC.1 hC.2.1 dX7_keep_11 (by decide) ?_
  refine lv_aload_n hC.1 hC.2.1 dX7_keep_12 rfl (lv_at hl 1 rfl) ?_
  refine gf_X7_16 hC hw dX7_keep_13 ?_
  refine gf_X7_32 (v := σ 0 0) hC hw rfl dX7_keep_16 ?_
  refine q_ast (Wf := XW E a) 43 rfl (by decide) (XW_s33 _) hC hw (by omega) dX7_keep_19 (fun H locs hw => ?_)
  have hw : Wst E (XW E a) (sr σ 33 (upd (σ 33) 0 (σ 0 0))) A s.heap H locs := hw
  refine lv_aload_n hC.1 hC.2.1 dX7_keep_20 rfl (lv_at hl 0 rfl) ?_
  refine lv_iconst (v := nI 1) hC.1 hC.2.1 dX7_keep_21 (by decide) ?_
  refine lv_aload_n hC.1 hC.2.1 dX7_keep_22 rfl (lv_at hl 1 rfl) ?_
  refine gf_X7_20 hC hw dX7_keep_23 ?_
  refine gf_X7_37 (v := σ 0 1) hC hw rfl dX7_keep_26 ?_
  refine q_ast (Wf := XW E a) 43 rfl (by decide) (XW_s33 _) hC hw (by omega) dX7_keep_29 (fun H locs hw => ?_)
  have hw : Wst E (XW E a) (sr (sr σ 33 (upd (σ 33) 0 (σ 0 0))) 33 (upd (upd (σ 33) 0 (σ 0 0)) 1 (σ 0 1))) A s.heap H locs := hw
  have hst_ : sr (sr σ 33 (upd (σ 33) 0 (σ 0 0))) 33 (upd (upd (σ 33) 0 (σ 0 0)) 1 (σ 0 1)) = sr σ 33 (upd (upd (σ 33) 0 (σ 0 0)) 1 (σ 0 1)) := by
    funext j_ x_
    by_cases e0 : j_ = 0
    · subst e0
      rfl
    · by_cases e33 : j_ = 33
      · subst e33; rfl
      · simp only [sr, e0, e33, if_false]
  rw [hst_] at hw
  refine lv_aload_n hC.1 hC.2.1 dX7_keep_30 rfl (lv_at hl 0 rfl) ?_
  refine lv_iconst (v := nI 2) hC.1 hC.2.1 dX7_keep_31 (by decide) ?_
  refine lv_aload_n hC.1 hC.2.1 dX7_keep_32 rfl (lv_at hl 1 rfl) ?_
  refine gf_X7_20 hC hw dX7_keep_33 ?_
  refine gf_X7_40 (v := σ 0 2) hC hw rfl dX7_keep_36 ?_
  refine q_ast (Wf := XW E a) 43 rfl (by decide) (XW_s33 _) hC hw (by omega) dX7_keep_39 (fun H locs hw => ?_)
  have hw : Wst E (XW E a) (sr (sr σ 33 (upd (upd (σ 33) 0 (σ 0 0)) 1 (σ 0 1))) 33 (upd (upd (upd (σ 33) 0 (σ 0 0)) 1 (σ 0 1)) 2 (σ 0 2))) A s.heap H locs := hw
  have hst_ : sr (sr σ 33 (upd (upd (σ 33) 0 (σ 0 0)) 1 (σ 0 1))) 33 (upd (upd (upd (σ 33) 0 (σ 0 0)) 1 (σ 0 1)) 2 (σ 0 2)) = sr σ 33 (upd (upd (upd (σ 33) 0 (σ 0 0)) 1 (σ 0 1)) 2 (σ 0 2)) := by
    funext j_ x_
    by_cases e0 : j_ = 0
    · subst e0
      rfl
    · by_cases e33 : j_ = 33
      · subst e33; rfl
      · simp only [sr, e0, e33, if_false]
  rw [hst_] at hw
  refine lv_iconst (v := nI 3) hC.1 hC.2.1 dX7_keep_40 (by decide) ?_
  refine lv_istore_n (lv' := [(2, .int (nI 3)), (1, .ref (a 33)), (0, .ref (a 68))]) hC.1 hC.2.1 dX7_keep_41 rfl hl (by decide) rfl (fun ls hl => ?_)
  refine lv_aload_n hC.1 hC.2.1 dX7_keep_42 rfl (lv_at hl 2 rfl) ?_
  refine gf_X7_24 hC hw dX7_keep_43 ?_
  refine lv_iconst (v := nI 0) hC.1 hC.2.1 dX7_keep_46 (by decide) ?_
  refine lv_aload_n hC.1 hC.2.1 dX7_keep_47 rfl (lv_at hl 1 rfl) ?_
  refine lv_iload_n hC.1 hC.2.1 dX7_keep_48 rfl (lv_at hl 0 rfl) ?_
  refine lv_iconst (v := nI 3) hC.1 hC.2.1 dX7_keep_49 (by decide) ?_
  refine q_cpy (sp := 0) (dp := 3) (n := 3) 25 rfl 43 rfl (XW_s33 _) hC hw hl (by omega) (by omega) (by decide) (by decide) ⟨Nat.le_of_ble_eq_true rfl, Nat.le_of_ble_eq_true rfl⟩ wk2_183 dX7_keep_50 (fun H locs hw => ?_)
  have hw : Wst E (XW E a) (sr (sr σ 33 (upd (upd (upd (σ 33) 0 (σ 0 0)) 1 (σ 0 1)) 2 (σ 0 2))) 33 (va_cpy (σ 15) (upd (upd (upd (σ 33) 0 (σ 0 0)) 1 (σ 0 1)) 2 (σ 0 2)) 0 3 3)) A s.heap H locs := hw
  have hst_ : sr (sr σ 33 (upd (upd (upd (σ 33) 0 (σ 0 0)) 1 (σ 0 1)) 2 (σ 0 2))) 33 (va_cpy (σ 15) (upd (upd (upd (σ 33) 0 (σ 0 0)) 1 (σ 0 1)) 2 (σ 0 2)) 0 3 3) = sr σ 33 (va_cpy (σ 15) (upd (upd (upd (σ 33) 0 (σ 0 0)) 1 (σ 0 1)) 2 (σ 0 2)) 0 3 3) := by
    funext j_ x_
    by_cases e0 : j_ = 0
    · subst e0
      rfl
    · by_cases e33 : j_ = 33
      · subst e33; rfl
      · simp only [sr, e0, e33, if_false]
  rw [hst_] at hw
  refine lv_iinc (v := nI (3 + 3)) (lv' := [(2, .int (nI (3 + 3))), (1, .ref (a 33)), (0, .ref (a 68))]) hC.1 hC.2.1 dX7_keep_53 hl (k := 0) rfl (nI_add _ _) (by decide) rfl (fun ls hl => ?_)
  refine lv_iconst (v := nI 0) hC.1 hC.2.1 dX7_keep_56 (by decide) ?_
  refine lv_istore_n (lv' := [(3, .int (nI 0)), (2, .int (nI (3 + 3))), (1, .ref (a 33)), (0, .ref (a 68))]) hC.1 hC.2.1 dX7_keep_57 rfl hl (by decide) rfl (fun ls hl => ?_)
  have L58_0 : ∀ (n : Nat), ∀ (h : Nat), (h ≤ 10) → (10 - h) < n → ∀ (H : Heap) (locs : List Loc) (ls : Array Slot), Wst E (XW E a) (sr σ 33 (upc (σ 4) h (va_cpy (σ 15) (upd (upd (upd (σ 33) 0 (σ 0 0)) 1 (σ 0 1)) 2 (σ 0 2)) 0 3 3))) A s.heap H locs → lv_has ls 4 [(0, .ref (a 68)), (1, .ref (a 33)), (2, .int (nI (3 + 3))), (3, .int (nI h))] → W p l e ({ frames := 1, cells := 0, slots := 0, locals := 24 }) s m args below meth c H locs 0 0 Q (F0 m 58 ls []) := by
    intro n
    induction n with
    | zero => intro h hh hn; exact absurd hn (Nat.not_lt_zero _)
    | succ n ih58 =>
      intro h hh hn58 H locs ls hw hl
      refine lv_iload_n hC.1 hC.2.1 dX7_keep_58 rfl (lv_at hl 3 rfl) ?_
      refine lv_bipush (v := nI 10) hC.1 hC.2.1 dX7_keep_59 (by decide) ?_
      refine q_cmpge hC 92 (cNle (by omega) (by omega)) dX7_keep_61 (by decide) (fun (c2 : 10 ≤ h) => ?_) (fun (c2 : h < 10) => ?_)
      · have hh9 : h = 10 := by omega
        rw [hh9] at hw
        refine lv_iinc (v := nI (3 + 3 + 10)) (lv' := [(2, .int (nI (3 + 3 + 10))), (0, .ref (a 68)), (1, .ref (a 33)), (3, .int (nI h))]) hC.1 hC.2.1 dX7_keep_92 hl (k := 2) rfl (nI_add _ _) (by decide) rfl (fun ls hl => ?_)
        refine lv_aload_n hC.1 hC.2.1 dX7_keep_95 rfl (lv_at hl 1 rfl) ?_
        refine gf_X7_20 hC hw dX7_keep_96 ?_
        refine gf_X7_53 hC hw dX7_keep_99 ?_
        refine lv_iconst (v := nI 0) hC.1 hC.2.1 dX7_keep_102 (by decide) ?_
        refine lv_aload_n hC.1 hC.2.1 dX7_keep_103 rfl (lv_at hl 2 rfl) ?_
        refine lv_iload_n hC.1 hC.2.1 dX7_keep_104 rfl (lv_at hl 0 rfl) ?_
        refine lv_bipush (v := nI 24) hC.1 hC.2.1 dX7_keep_105 (by decide) ?_
        refine q_cpy (sp := 0) (dp := (3 + 3 + 10)) (n := 24) 21 rfl 43 rfl (XW_s33 _) hC hw hl (by omega) (by omega) (by decide) (by decide) ⟨Nat.le_of_ble_eq_true rfl, Nat.le_of_ble_eq_true rfl⟩ wk2_183 dX7_keep_107 (fun H locs hw => ?_)
        have hw : Wst E (XW E a) (sr (sr σ 33 (upc (σ 4) 10 (va_cpy (σ 15) (upd (upd (upd (σ 33) 0 (σ 0 0)) 1 (σ 0 1)) 2 (σ 0 2)) 0 3 3))) 33 (va_cpy (σ 11) (upc (σ 4) 10 (va_cpy (σ 15) (upd (upd (upd (σ 33) 0 (σ 0 0)) 1 (σ 0 1)) 2 (σ 0 2)) 0 3 3)) 0 (3 + 3 + 10) 24)) A s.heap H locs := hw
        have hst_ : sr (sr σ 33 (upc (σ 4) 10 (va_cpy (σ 15) (upd (upd (upd (σ 33) 0 (σ 0 0)) 1 (σ 0 1)) 2 (σ 0 2)) 0 3 3))) 33 (va_cpy (σ 11) (upc (σ 4) 10 (va_cpy (σ 15) (upd (upd (upd (σ 33) 0 (σ 0 0)) 1 (σ 0 1)) 2 (σ 0 2)) 0 3 3)) 0 (3 + 3 + 10) 24) = sr σ 33 (va_cpy (σ 11) (upc (σ 4) 10 (va_cpy (σ 15) (upd (upd (upd (σ 33) 0 (σ 0 0)) 1 (σ 0 1)) 2 (σ 0 2)) 0 3 3)) 0 (3 + 3 + 10) 24) := by
          funext j_ x_
          by_cases e0 : j_ = 0
          · subst e0
            rfl
          · by_cases e33 : j_ = 33
            · subst e33; rfl
            · simp only [sr, e0, e33, if_false]
        rw [hst_] at hw
        refine lv_aload_n hC.1 hC.2.1 dX7_keep_110 rfl (lv_at hl 1 rfl) ?_
        refine gf_X7_20 hC hw dX7_keep_111 ?_
        refine gf_X7_56 hC hw dX7_keep_114 ?_
        refine lv_iconst (v := nI 0) hC.1 hC.2.1 dX7_keep_117 (by decide) ?_
        refine lv_aload_n hC.1 hC.2.1 dX7_keep_118 rfl (lv_at hl 2 rfl) ?_
        refine lv_iload_n hC.1 hC.2.1 dX7_keep_119 rfl (lv_at hl 0 rfl) ?_
        refine lv_bipush (v := nI 24) hC.1 hC.2.1 dX7_keep_120 (by decide) ?_
        refine q_addN hC dX7_keep_122 ?_
        refine lv_bipush (v := nI 24) hC.1 hC.2.1 dX7_keep_123 (by decide) ?_
        refine q_cpy (sp := 0) (dp := ((3 + 3 + 10) + 24)) (n := 24) 22 rfl 43 rfl (XW_s33 _) hC hw hl (by omega) (by omega) (by decide) (by decide) ⟨Nat.le_of_ble_eq_true rfl, Nat.le_of_ble_eq_true rfl⟩ wk2_183 dX7_keep_125 (fun H locs hw => ?_)
        have hw : Wst E (XW E a) (sr (sr σ 33 (va_cpy (σ 11) (upc (σ 4) 10 (va_cpy (σ 15) (upd (upd (upd (σ 33) 0 (σ 0 0)) 1 (σ 0 1)) 2 (σ 0 2)) 0 3 3)) 0 (3 + 3 + 10) 24)) 33 (va_cpy (σ 12) (va_cpy (σ 11) (upc (σ 4) 10 (va_cpy (σ 15) (upd (upd (upd (σ 33) 0 (σ 0 0)) 1 (σ 0 1)) 2 (σ 0 2)) 0 3 3)) 0 (3 + 3 + 10) 24) 0 ((3 + 3 + 10) + 24) 24)) A s.heap H locs := hw
        have hst_ : sr (sr σ 33 (va_cpy (σ 11) (upc (σ 4) 10 (va_cpy (σ 15) (upd (upd (upd (σ 33) 0 (σ 0 0)) 1 (σ 0 1)) 2 (σ 0 2)) 0 3 3)) 0 (3 + 3 + 10) 24)) 33 (va_cpy (σ 12) (va_cpy (σ 11) (upc (σ 4) 10 (va_cpy (σ 15) (upd (upd (upd (σ 33) 0 (σ 0 0)) 1 (σ 0 1)) 2 (σ 0 2)) 0 3 3)) 0 (3 + 3 + 10) 24) 0 ((3 + 3 + 10) + 24) 24) = sr σ 33 (va_cpy (σ 12) (va_cpy (σ 11) (upc (σ 4) 10 (va_cpy (σ 15) (upd (upd (upd (σ 33) 0 (σ 0 0)) 1 (σ 0 1)) 2 (σ 0 2)) 0 3 3)) 0 (3 + 3 + 10) 24) 0 ((3 + 3 + 10) + 24) 24) := by
          funext j_ x_
          by_cases e0 : j_ = 0
          · subst e0
            rfl
          · by_cases e33 : j_ = 33
            · subst e33; rfl
            · simp only [sr, e0, e33, if_false]
        rw [hst_] at hw
        refine lv_aload_n hC.1 hC.2.1 dX7_keep_128 rfl (lv_at hl 1 rfl) ?_
        refine gf_X7_20 hC hw dX7_keep_129 ?_
        refine gf_X7_59 hC hw dX7_keep_132 ?_
        refine lv_iconst (v := nI 0) hC.1 hC.2.1 dX7_keep_135 (by decide) ?_
        refine lv_aload_n hC.1 hC.2.1 dX7_keep_136 rfl (lv_at hl 2 rfl) ?_
        refine lv_iload_n hC.1 hC.2.1 dX7_keep_137 rfl (lv_at hl 0 rfl) ?_
        refine lv_bipush (v := nI 48) hC.1 hC.2.1 dX7_keep_138 (by decide) ?_
        refine q_addN hC dX7_keep_140 ?_
        refine lv_bipush (v := nI 24) hC.1 hC.2.1 dX7_keep_141 (by decide) ?_
        refine q_cpy (sp := 0) (dp := ((3 + 3 + 10) + 48)) (n := 24) 23 rfl 43 rfl (XW_s33 _) hC hw hl (by omega) (by omega) (by decide) (by decide) ⟨Nat.le_of_ble_eq_true rfl, Nat.le_of_ble_eq_true rfl⟩ wk2_183 dX7_keep_143 (fun H locs hw => ?_)
        have hw : Wst E (XW E a) (sr (sr σ 33 (va_cpy (σ 12) (va_cpy (σ 11) (upc (σ 4) 10 (va_cpy (σ 15) (upd (upd (upd (σ 33) 0 (σ 0 0)) 1 (σ 0 1)) 2 (σ 0 2)) 0 3 3)) 0 (3 + 3 + 10) 24) 0 ((3 + 3 + 10) + 24) 24)) 33 (va_cpy (σ 13) (va_cpy (σ 12) (va_cpy (σ 11) (upc (σ 4) 10 (va_cpy (σ 15) (upd (upd (upd (σ 33) 0 (σ 0 0)) 1 (σ 0 1)) 2 (σ 0 2)) 0 3 3)) 0 (3 + 3 + 10) 24) 0 ((3 + 3 + 10) + 24) 24) 0 ((3 + 3 + 10) + 48) 24)) A s.heap H locs := hw
        have hst_ : sr (sr σ 33 (va_cpy (σ 12) (va_cpy (σ 11) (upc (σ 4) 10 (va_cpy (σ 15) (upd (upd (upd (σ 33) 0 (σ 0 0)) 1 (σ 0 1)) 2 (σ 0 2)) 0 3 3)) 0 (3 + 3 + 10) 24) 0 ((3 + 3 + 10) + 24) 24)) 33 (va_cpy (σ 13) (va_cpy (σ 12) (va_cpy (σ 11) (upc (σ 4) 10 (va_cpy (σ 15) (upd (upd (upd (σ 33) 0 (σ 0 0)) 1 (σ 0 1)) 2 (σ 0 2)) 0 3 3)) 0 (3 + 3 + 10) 24) 0 ((3 + 3 + 10) + 24) 24) 0 ((3 + 3 + 10) + 48) 24) = sr σ 33 (va_cpy (σ 13) (va_cpy (σ 12) (va_cpy (σ 11) (upc (σ 4) 10 (va_cpy (σ 15) (upd (upd (upd (σ 33) 0 (σ 0 0)) 1 (σ 0 1)) 2 (σ 0 2)) 0 3 3)) 0 (3 + 3 + 10) 24) 0 ((3 + 3 + 10) + 24) 24) 0 ((3 + 3 + 10) + 48) 24) := by
          funext j_ x_
          by_cases e0 : j_ = 0
          · subst e0
            rfl
          · by_cases e33 : j_ = 33
            · subst e33; rfl
            · simp only [sr, e0, e33, if_false]
        rw [hst_] at hw
        refine lv_aload_n hC.1 hC.2.1 dX7_keep_146 rfl (lv_at hl 1 rfl) ?_
        refine gf_X7_20 hC hw dX7_keep_147 ?_
        refine gf_X7_62 hC hw dX7_keep_150 ?_
        refine lv_iconst (v := nI 0) hC.1 hC.2.1 dX7_keep_153 (by decide) ?_
        refine lv_aload_n hC.1 hC.2.1 dX7_keep_154 rfl (lv_at hl 2 rfl) ?_
        refine lv_iload_n hC.1 hC.2.1 dX7_keep_155 rfl (lv_at hl 0 rfl) ?_
        refine lv_bipush (v := nI 72) hC.1 hC.2.1 dX7_keep_156 (by decide) ?_
        refine q_addN hC dX7_keep_158 ?_
        refine lv_bipush (v := nI 24) hC.1 hC.2.1 dX7_keep_159 (by decide) ?_
        refine q_cpy (sp := 0) (dp := ((3 + 3 + 10) + 72)) (n := 24) 24 rfl 43 rfl (XW_s33 _) hC hw hl (by omega) (by omega) (by decide) (by decide) ⟨Nat.le_of_ble_eq_true rfl, Nat.le_of_ble_eq_true rfl⟩ wk2_183 dX7_keep_161 (fun H locs hw => ?_)
        have hw : Wst E (XW E a) (sr (sr σ 33 (va_cpy (σ 13) (va_cpy (σ 12) (va_cpy (σ 11) (upc (σ 4) 10 (va_cpy (σ 15) (upd (upd (upd (σ 33) 0 (σ 0 0)) 1 (σ 0 1)) 2 (σ 0 2)) 0 3 3)) 0 (3 + 3 + 10) 24) 0 ((3 + 3 + 10) + 24) 24) 0 ((3 + 3 + 10) + 48) 24)) 33 (va_cpy (σ 14) (va_cpy (σ 13) (va_cpy (σ 12) (va_cpy (σ 11) (upc (σ 4) 10 (va_cpy (σ 15) (upd (upd (upd (σ 33) 0 (σ 0 0)) 1 (σ 0 1)) 2 (σ 0 2)) 0 3 3)) 0 (3 + 3 + 10) 24) 0 ((3 + 3 + 10) + 24) 24) 0 ((3 + 3 + 10) + 48) 24) 0 ((3 + 3 + 10) + 72) 24)) A s.heap H locs := hw
        have hst_ : sr (sr σ 33 (va_cpy (σ 13) (va_cpy (σ 12) (va_cpy (σ 11) (upc (σ 4) 10 (va_cpy (σ 15) (upd (upd (upd (σ 33) 0 (σ 0 0)) 1 (σ 0 1)) 2 (σ 0 2)) 0 3 3)) 0 (3 + 3 + 10) 24) 0 ((3 + 3 + 10) + 24) 24) 0 ((3 + 3 + 10) + 48) 24)) 33 (va_cpy (σ 14) (va_cpy (σ 13) (va_cpy (σ 12) (va_cpy (σ 11) (upc (σ 4) 10 (va_cpy (σ 15) (upd (upd (upd (σ 33) 0 (σ 0 0)) 1 (σ 0 1)) 2 (σ 0 2)) 0 3 3)) 0 (3 + 3 + 10) 24) 0 ((3 + 3 + 10) + 24) 24) 0 ((3 + 3 + 10) + 48) 24) 0 ((3 + 3 + 10) + 72) 24) = sr σ 33 (va_cpy (σ 14) (va_cpy (σ 13) (va_cpy (σ 12) (va_cpy (σ 11) (upc (σ 4) 10 (va_cpy (σ 15) (upd (upd (upd (σ 33) 0 (σ 0 0)) 1 (σ 0 1)) 2 (σ 0 2)) 0 3 3)) 0 (3 + 3 + 10) 24) 0 ((3 + 3 + 10) + 24) 24) 0 ((3 + 3 + 10) + 48) 24) 0 ((3 + 3 + 10) + 72) 24) := by
          funext j_ x_
          by_cases e0 : j_ = 0
          · subst e0
            rfl
          · by_cases e33 : j_ = 33
            · subst e33; rfl
            · simp only [sr, e0, e33, if_false]
        rw [hst_] at hw
        refine lv_aload_n hC.1 hC.2.1 dX7_keep_164 rfl (lv_at hl 1 rfl) ?_
        refine lv_aload_n hC.1 hC.2.1 dX7_keep_165 rfl (lv_at hl 1 rfl) ?_
        refine gf_X7_28 (v := nI 3) hC hw hnx dX7_keep_166 ?_
        refine lv_bipush (v := nI 29) hC.1 hC.2.1 dX7_keep_169 (by decide) ?_
        have J184_4 : ∀ (w3 : Nat), w3 = (if 3 ≠ 29 then (3 + 1) else 0) → ∀ (H : Heap) (locs : List Loc) (ls : Array Slot), Wst E (XW E a) (sr σ 33 (va_cpy (σ 14) (va_cpy (σ 13) (va_cpy (σ 12) (va_cpy (σ 11) (upc (σ 4) 10 (va_cpy (σ 15) (upd (upd (upd (σ 33) 0 (σ 0 0)) 1 (σ 0 1)) 2 (σ 0 2)) 0 3 3)) 0 (3 + 3 + 10) 24) 0 ((3 + 3 + 10) + 24) 24) 0 ((3 + 3 + 10) + 48) 24) 0 ((3 + 3 + 10) + 72) 24)) A s.heap H locs → lv_has ls 4 [(0, .ref (a 68)), (1, .ref (a 33)), (2, .int (nI (3 + 3 + 10))), (3, .int (nI h))] → W p l e ({ frames := 1, cells := 0, slots := 0, locals := 24 }) s m args below meth c H locs 0 0 Q (F0 m 184 ls [.int (nI w3), .ref (a 68)]) := by
          intro w3 e4 H locs ls hw hl
          subst e4
          refine pf_X7_28 hC hw dX7_keep_184 (fun H locs hw => ?_)
          have hw : Wst E (XW E a) (sr (sr σ 33 (va_cpy (σ 14) (va_cpy (σ 13) (va_cpy (σ 12) (va_cpy (σ 11) (upc (σ 4) 10 (va_cpy (σ 15) (upd (upd (upd (σ 33) 0 (σ 0 0)) 1 (σ 0 1)) 2 (σ 0 2)) 0 3 3)) 0 (3 + 3 + 10) 24) 0 ((3 + 3 + 10) + 24) 24) 0 ((3 + 3 + 10) + 48) 24) 0 ((3 + 3 + 10) + 72) 24)) 0 (upd (σ 0) 3 (nI (if 3 ≠ 29 then (3 + 1) else 0)))) A s.heap H locs := hw
          refine lv_aload_n hC.1 hC.2.1 dX7_keep_187 rfl (lv_at hl 0 rfl) ?_
          refine lv_aload_n hC.1 hC.2.1 dX7_keep_188 rfl (lv_at hl 0 rfl) ?_
          refine gf_X7_65 (v := nI kp) hC hw hkp dX7_keep_189 ?_
          refine lv_bipush (v := nI 30) hC.1 hC.2.1 dX7_keep_192 (by decide) ?_
          have J210_6 : ∀ (w5 : Nat), w5 = (if kp ≠ 30 then (kp + 1) else kp) → ∀ (H : Heap) (locs : List Loc) (ls : Array Slot), Wst E (XW E a) (sr (sr σ 33 (va_cpy (σ 14) (va_cpy (σ 13) (va_cpy (σ 12) (va_cpy (σ 11) (upc (σ 4) 10 (va_cpy (σ 15) (upd (upd (upd (σ 33) 0 (σ 0 0)) 1 (σ 0 1)) 2 (σ 0 2)) 0 3 3)) 0 (3 + 3 + 10) 24) 0 ((3 + 3 + 10) + 24) 24) 0 ((3 + 3 + 10) + 48) 24) 0 ((3 + 3 + 10) + 72) 24)) 0 (upd (σ 0) 3 (nI (if 3 ≠ 29 then (3 + 1) else 0)))) A s.heap H locs → lv_has ls 4 [(0, .ref (a 68)), (1, .ref (a 33)), (2, .int (nI (3 + 3 + 10))), (3, .int (nI h))] → W p l e ({ frames := 1, cells := 0, slots := 0, locals := 24 }) s m args below meth c H locs 0 0 Q (F0 m 210 ls [.int (nI w5), .ref (a 68)]) := by
            intro w5 e6 H locs ls hw hl
            subst e6
            refine pf_X7_65 hC hw dX7_keep_210 (fun H locs hw => ?_)
            have hw : Wst E (XW E a) (sr (sr (sr σ 33 (va_cpy (σ 14) (va_cpy (σ 13) (va_cpy (σ 12) (va_cpy (σ 11) (upc (σ 4) 10 (va_cpy (σ 15) (upd (upd (upd (σ 33) 0 (σ 0 0)) 1 (σ 0 1)) 2 (σ 0 2)) 0 3 3)) 0 (3 + 3 + 10) 24) 0 ((3 + 3 + 10) + 24) 24) 0 ((3 + 3 + 10) + 48) 24) 0 ((3 + 3 + 10) + 72) 24)) 0 (upd (σ 0) 3 (nI (if 3 ≠ 29 then (3 + 1) else 0)))) 0 (upd (upd (σ 0) 3 (nI (if 3 ≠ 29 then (3 + 1) else 0))) 4 (nI (if kp ≠ 30 then (kp + 1) else kp)))) A s.heap H locs := hw
            have hst_ : sr (sr (sr σ 33 (va_cpy (σ 14) (va_cpy (σ 13) (va_cpy (σ 12) (va_cpy (σ 11) (upc (σ 4) 10 (va_cpy (σ 15) (upd (upd (upd (σ 33) 0 (σ 0 0)) 1 (σ 0 1)) 2 (σ 0 2)) 0 3 3)) 0 (3 + 3 + 10) 24) 0 ((3 + 3 + 10) + 24) 24) 0 ((3 + 3 + 10) + 48) 24) 0 ((3 + 3 + 10) + 72) 24)) 0 (upd (σ 0) 3 (nI (if 3 ≠ 29 then (3 + 1) else 0)))) 0 (upd (upd (σ 0) 3 (nI (if 3 ≠ 29 then (3 + 1) else 0))) 4 (nI (if kp ≠ 30 then (kp + 1) else kp))) = sr (sr σ 33 (va_cpy (σ 14) (va_cpy (σ 13) (va_cpy (σ 12) (va_cpy (σ 11) (upc (σ 4) 10 (va_cpy (σ 15) (upd (upd (upd (σ 33) 0 (σ 0 0)) 1 (σ 0 1)) 2 (σ 0 2)) 0 3 3)) 0 (3 + 3 + 10) 24) 0 ((3 + 3 + 10) + 24) 24) 0 ((3 + 3 + 10) + 48) 24) 0 ((3 + 3 + 10) + 72) 24)) 0 (upd (upd (σ 0) 3 (nI (if 3 ≠ 29 then (3 + 1) else 0))) 4 (nI (if kp ≠ 30 then (kp + 1) else kp))) := by
              funext j_ x_
              by_cases e0 : j_ = 0
              · subst e0
                by_cases y3 : x_ = 3
                · subst y3; rfl
                · by_cases y4 : x_ = 4
                  · subst y4; rfl
                  · simp [sr, upd, y3, y4]
              · by_cases e33 : j_ = 33
                · subst e33; rfl
                · simp only [sr, e0, e33, if_false]
            rw [hst_] at hw
            refine hret _ _ _ _ _ hw ?_ dX7_keep_213
            exact rfl
          refine q_cmpne hC 204 (cNeq (by omega) (by omega)) dX7_keep_194 (by decide) (fun (c7 : kp ≠ 30) => ?_) (fun (c7 : kp = 30) => ?_)
          · refine lv_aload_n hC.1 hC.2.1 dX7_keep_204 rfl (lv_at hl 0 rfl) ?_
            refine gf_X7_65 (v := nI kp) hC hw hkp dX7_keep_205 ?_
            refine lv_iconst (v := nI 1) hC.1 hC.2.1 dX7_keep_208 (by decide) ?_
            refine q_addN hC dX7_keep_209 ?_
            exact J210_6 _ (by (rw [if_pos c7]) <;> rfl) _ _ _ hw (lv_sub hl [0, 1, 2, 3] rfl)
          · refine lv_aload_n hC.1 hC.2.1 dX7_keep_197 rfl (lv_at hl 0 rfl) ?_
            refine gf_X7_65 (v := nI kp) hC hw hkp dX7_keep_198 ?_
            refine lv_goto (tgt := 210) hC.1 hC.2.1 dX7_keep_201 (by decide) ?_
            exact J210_6 _ (by (rw [if_neg (fun q => q c7)]) <;> rfl) _ _ _ hw (lv_sub hl [0, 1, 2, 3] rfl)
        refine q_cmpne hC 178 (cNeq (by omega) (by omega)) dX7_keep_171 (by decide) (fun (c8 : 3 ≠ 29) => ?_) (fun (c8 : 3 = 29) => ?_)
        · refine lv_aload_n hC.1 hC.2.1 dX7_keep_178 rfl (lv_at hl 1 rfl) ?_
          refine gf_X7_28 (v := nI 3) hC hw hnx dX7_keep_179 ?_
          refine lv_iconst (v := nI 1) hC.1 hC.2.1 dX7_keep_182 (by decide) ?_
          refine q_addN hC dX7_keep_183 ?_
          exact J184_4 _ (by (rw [if_pos c8]) <;> rfl) _ _ _ hw (lv_sub hl [1, 2, 0, 3] rfl)
        · refine lv_iconst (v := nI 0) hC.1 hC.2.1 dX7_keep_174 (by decide) ?_
          refine lv_goto (tgt := 184) hC.1 hC.2.1 dX7_keep_175 (by decide) ?_
          exact J184_4 _ (by (rw [if_neg (fun q => q c8)]) <;> rfl) _ _ _ hw (lv_sub hl [1, 2, 0, 3] rfl)
      · refine lv_aload_n hC.1 hC.2.1 dX7_keep_64 rfl (lv_at hl 1 rfl) ?_
        refine lv_iload_n hC.1 hC.2.1 dX7_keep_65 rfl (lv_at hl 2 rfl) ?_
        refine lv_iload_n hC.1 hC.2.1 dX7_keep_66 rfl (lv_at hl 3 rfl) ?_
        refine q_addN hC dX7_keep_67 ?_
        refine lv_aload_n hC.1 hC.2.1 dX7_keep_68 rfl (lv_at hl 0 rfl) ?_
        refine gf_X7_16 hC hw dX7_keep_69 ?_
        refine gf_X7_49 hC hw dX7_keep_72 ?_
        refine lv_iload_n hC.1 hC.2.1 dX7_keep_75 rfl (lv_at hl 3 rfl) ?_
        refine al_X4 (v := σ 4 h) hC hw (by omega) rfl dX7_keep_76 ?_
        have J85_10 : ∀ (w9 : Int32), w9 = (if ¬ (σ 4 h = 0) then (1 : Int32) else 0) → ∀ (H : Heap) (locs : List Loc) (ls : Array Slot), Wst E (XW E a) (sr σ 33 (upc (σ 4) h (va_cpy (σ 15) (upd (upd (upd (σ 33) 0 (σ 0 0)) 1 (σ 0 1)) 2 (σ 0 2)) 0 3 3))) A s.heap H locs → lv_has ls 4 [(0, .ref (a 68)), (1, .ref (a 33)), (2, .int (nI (3 + 3))), (3, .int (nI h))] → W p l e ({ frames := 1, cells := 0, slots := 0, locals := 24 }) s m args below meth c H locs 0 0 Q (F0 m 85 ls [.int (w9), .int (nI ((3 + 3) + h)), .ref (a 33)]) := by
          intro w9 e10 H locs ls hw hl
          subst e10
          refine q_ast (Wf := XW E a) 43 rfl (by decide) (XW_s33 _) hC hw (by omega) dX7_keep_85 (fun H locs hw => ?_)
          have hw : Wst E (XW E a) (sr (sr σ 33 (upc (σ 4) h (va_cpy (σ 15) (upd (upd (upd (σ 33) 0 (σ 0 0)) 1 (σ 0 1)) 2 (σ 0 2)) 0 3 3))) 33 (upd (upc (σ 4) h (va_cpy (σ 15) (upd (upd (upd (σ 33) 0 (σ 0 0)) 1 (σ 0 1)) 2 (σ 0 2)) 0 3 3)) ((3 + 3) + h) (if ¬ (σ 4 h = 0) then (1 : Int32) else 0))) A s.heap H locs := hw
          have hst_ : sr (sr σ 33 (upc (σ 4) h (va_cpy (σ 15) (upd (upd (upd (σ 33) 0 (σ 0 0)) 1 (σ 0 1)) 2 (σ 0 2)) 0 3 3))) 33 (upd (upc (σ 4) h (va_cpy (σ 15) (upd (upd (upd (σ 33) 0 (σ 0 0)) 1 (σ 0 1)) 2 (σ 0 2)) 0 3 3)) ((3 + 3) + h) (if ¬ (σ 4 h = 0) then (1 : Int32) else 0)) = sr σ 33 (upd (upc (σ 4) h (va_cpy (σ 15) (upd (upd (upd (σ 33) 0 (σ 0 0)) 1 (σ 0 1)) 2 (σ 0 2)) 0 3 3)) ((3 + 3) + h) (if ¬ (σ 4 h = 0) then (1 : Int32) else 0)) := by
            funext j_ x_
            by_cases e0 : j_ = 0
            · subst e0
              rfl
            · by_cases e33 : j_ = 33
              · subst e33; rfl
              · simp only [sr, e0, e33, if_false]
          rw [hst_] at hw
          refine lv_iinc (v := nI (h + 1)) (lv' := [(3, .int (nI (h + 1))), (0, .ref (a 68)), (1, .ref (a 33)), (2, .int (nI (3 + 3)))]) hC.1 hC.2.1 dX7_keep_86 hl (k := 3) rfl (nI_add _ _) (by decide) rfl (fun ls hl => ?_)
          refine lv_goto (tgt := 58) hC.1 hC.2.1 dX7_keep_89 (by decide) ?_
          rw [upc_s] at hw
          exact ih58 (h + 1) (by omega) (by omega) _ _ _ hw (lv_sub hl [1, 2, 3, 0] rfl)
        refine q_ifeq hC 84 cI dX7_keep_77 (by decide) (fun (c11 : σ 4 h = 0) => ?_) (fun (c11 : ¬ (σ 4 h = 0)) => ?_)
        · refine lv_iconst (v := nI 0) hC.1 hC.2.1 dX7_keep_84 (by decide) ?_
          exact J85_10 _ (if_neg (fun q => q c11)).symm _ _ _ hw (lv_sub hl [0, 1, 2, 3] rfl)
        · refine lv_iconst (v := nI 1) hC.1 hC.2.1 dX7_keep_80 (by decide) ?_
          refine lv_goto (tgt := 85) hC.1 hC.2.1 dX7_keep_81 (by decide) ?_
          exact J85_10 _ (if_pos c11).symm _ _ _ hw (lv_sub hl [0, 1, 2, 3] rfl)
  rw [← upc_0 (σ 4) (va_cpy (σ 15) (upd (upd (upd (σ 33) 0 (σ 0 0)) 1 (σ 0 1)) 2 (σ 0 2)) 0 3 3)] at hw
  exact L58_0 _ 0 (by omega) (Nat.lt_succ_self _) _ _ _ hw (lv_sub hl [3, 2, 1, 0] rfl)
set_option maxHeartbeats 4000000 in
set_option maxRecDepth 100000 in
theorem tX7_keep_k29 (l : Launch) (E : EV) (a : Nat → Nat) (σ : St) (kp : Nat) (hnx : σ 0 3 = nI 29) (hkp : σ 0 4 = nI kp) (hk30 : kp ≤ 30) : MV l E (XW E a) yX7_keep (Cond.code yX7_keep cX7_keep 4 none) ({ frames := 1, cells := 0, slots := 0, locals := 24 }) [.ref (a 68)] σ (fun u_ => u_ = sr (sr σ 59 (kpr σ (σ 59))) 0 (upd (upd (σ 0) 3 (nI (if 29 ≠ 29 then 29 + 1 else 0))) 4 (nI (if kp ≠ 30 then kp + 1 else kp)))) := by
  refine MV.mk (by decide +kernel) (Nat.le_of_ble_eq_true rfl) ?_
  intro p e s m args below meth c ls A Q hret hC hw hl
  have hC : Cxt E p s m args meth c cX7_keep 4 none RX7 A := hC
  have hl : lv_has ls 4 [(0, .ref (a 68))] := hl
  refine lv_aload_n hC.1 hC.2.1 dX7_keep_0 rfl (lv_at hl 0 rfl) ?_
  refine gf_X7_13 hC hw dX7_keep_1 ?_
  refine lv_aload_n hC.1 hC.2.1 dX7_keep_4 rfl (lv_at hl 0 rfl) ?_
  refine gf_X7_28 (v := nI 29) hC hw hnx dX7_keep_5 ?_
  refine q_aald hC hw (i := 29) (by decide) dX7_keep_8 ?_
  refine lv_astore_n (lv' := [(1, .ref (a 59)), (0, .ref (a 68))]) hC.1 hC.2.1 dX7_keep_9 rfl hl (by decide) rfl (fun ls hl => ?_)
  refine lv_aload_n hC.1 hC.2.1 dX7_keep_10 rfl (lv_at hl 0 rfl) ?_
  refine lv_iconst (v := nI 0) hC.1 hC.2.1 dX7_keep_11 (by decide) ?_
  refine lv_aload_n hC.1 hC.2.1 dX7_keep_12 rfl (lv_at hl 1 rfl) ?_
  refine gf_X7_16 hC hw dX7_keep_13 ?_
  refine gf_X7_32 (v := σ 0 0) hC hw rfl dX7_keep_16 ?_
  refine q_ast (Wf := XW E a) 69 rfl (by decide) (XW_s59 _) hC hw (by omega) dX7_keep_19 (fun H locs hw => ?_)
  have hw : Wst E (XW E a) (sr σ 59 (upd (σ 59) 0 (σ 0 0))) A s.heap H locs := hw
  refine lv_aload_n hC.1 hC.2.1 dX7_keep_20 rfl (lv_at hl 0 rfl) ?_
  refine lv_iconst (v := nI 1) hC.1 hC.2.1 dX7_keep_21 (by decide) ?_
  refine lv_aload_n hC.1 hC.2.1 dX7_keep_22 rfl (lv_at hl 1 rfl) ?_
  refine gf_X7_20 hC hw dX7_keep_23 ?_
  refine gf_X7_37 (v := σ 0 1) hC hw rfl dX7_keep_26 ?_
  refine q_ast (Wf := XW E a) 69 rfl (by decide) (XW_s59 _) hC hw (by omega) dX7_keep_29 (fun H locs hw => ?_)
  have hw : Wst E (XW E a) (sr (sr σ 59 (upd (σ 59) 0 (σ 0 0))) 59 (upd (upd (σ 59) 0 (σ 0 0)) 1 (σ 0 1))) A s.heap H locs := hw
  have hst_ : sr (sr σ 59 (upd (σ 59) 0 (σ 0 0))) 59 (upd (upd (σ 59) 0 (σ 0 0)) 1 (σ 0 1)) = sr σ 59 (upd (upd (σ 59) 0 (σ 0 0)) 1 (σ 0 1)) := by
    funext j_ x_
    by_cases e0 : j_ = 0
    · subst e0
      rfl
    · by_cases e59 : j_ = 59
      · subst e59; rfl
      · simp only [sr, e0, e59, if_false]
  rw [hst_] at hw
  refine lv_aload_n hC.1 hC.2.1 dX7_keep_30 rfl (lv_at hl 0 rfl) ?_
  refine lv_iconst (v := nI 2) hC.1 hC.2.1 dX7_keep_31 (by decide) ?_
  refine lv_aload_n hC.1 hC.2.1 dX7_keep_32 rfl (lv_at hl 1 rfl) ?_
  refine gf_X7_20 hC hw dX7_keep_33 ?_
  refine gf_X7_40 (v := σ 0 2) hC hw rfl dX7_keep_36 ?_
  refine q_ast (Wf := XW E a) 69 rfl (by decide) (XW_s59 _) hC hw (by omega) dX7_keep_39 (fun H locs hw => ?_)
  have hw : Wst E (XW E a) (sr (sr σ 59 (upd (upd (σ 59) 0 (σ 0 0)) 1 (σ 0 1))) 59 (upd (upd (upd (σ 59) 0 (σ 0 0)) 1 (σ 0 1)) 2 (σ 0 2))) A s.heap H locs := hw
  have hst_ : sr (sr σ 59 (upd (upd (σ 59) 0 (σ 0 0)) 1 (σ 0 1))) 59 (upd (upd (upd (σ 59) 0 (σ 0 0)) 1 (σ 0 1)) 2 (σ 0 2)) = sr σ 59 (upd (upd (upd (σ 59) 0 (σ 0 0)) 1 (σ 0 1)) 2 (σ 0 2)) := by
    funext j_ x_
    by_cases e0 : j_ = 0
    · subst e0
      rfl
    · by_cases e59 : j_ = 59
      · subst e59; rfl
      · simp only [sr, e0, e59, if_false]
  rw [hst_] at hw
  refine lv_iconst (v := nI 3) hC.1 hC.2.1 dX7_keep_40 (by decide) ?_
  refine lv_istore_n (lv' := [(2, .int (nI 3)), (1, .ref (a 59)), (0, .ref (a 68))]) hC.1 hC.2.1 dX7_keep_41 rfl hl (by decide) rfl (fun ls hl => ?_)
  refine lv_aload_n hC.1 hC.2.1 dX7_keep_42 rfl (lv_at hl 2 rfl) ?_
  refine gf_X7_24 hC hw dX7_keep_43 ?_
  refine lv_iconst (v := nI 0) hC.1 hC.2.1 dX7_keep_46 (by decide) ?_
  refine lv_aload_n hC.1 hC.2.1 dX7_keep_47 rfl (lv_at hl 1 rfl) ?_
  refine lv_iload_n hC.1 hC.2.1 dX7_keep_48 rfl (lv_at hl 0 rfl) ?_
  refine lv_iconst (v := nI 3) hC.1 hC.2.1 dX7_keep_49 (by decide) ?_
  refine q_cpy (sp := 0) (dp := 3) (n := 3) 25 rfl 69 rfl (XW_s59 _) hC hw hl (by omega) (by omega) (by decide) (by decide) ⟨Nat.le_of_ble_eq_true rfl, Nat.le_of_ble_eq_true rfl⟩ wk2_183 dX7_keep_50 (fun H locs hw => ?_)
  have hw : Wst E (XW E a) (sr (sr σ 59 (upd (upd (upd (σ 59) 0 (σ 0 0)) 1 (σ 0 1)) 2 (σ 0 2))) 59 (va_cpy (σ 15) (upd (upd (upd (σ 59) 0 (σ 0 0)) 1 (σ 0 1)) 2 (σ 0 2)) 0 3 3)) A s.heap H locs := hw
  have hst_ : sr (sr σ 59 (upd (upd (upd (σ 59) 0 (σ 0 0)) 1 (σ 0 1)) 2 (σ 0 2))) 59 (va_cpy (σ 15) (upd (upd (upd (σ 59) 0 (σ 0 0)) 1 (σ 0 1)) 2 (σ 0 2)) 0 3 3) = sr σ 59 (va_cpy (σ 15) (upd (upd (upd (σ 59) 0 (σ 0 0)) 1 (σ 0 1)) 2 (σ 0 2)) 0 3 3) := by
    funext j_ x_
    by_cases e0 : j_ = 0
    · subst e0
      rfl
    · by_cases e59 : j_ = 59
      · subst e59; rfl
      · simp only [sr, e0, e59, if_false]
  rw [hst_] at hw
  refine lv_iinc (v := nI (3 + 3)) (lv' := [(2, .int (nI (3 + 3))), (1, .ref (a 59)), (0, .ref (a 68))]) hC.1 hC.2.1 dX7_keep_53 hl (k := 0) rfl (nI_add _ _) (by decide) rfl (fun ls hl => ?_)
  refine lv_iconst (v := nI 0) hC.1 hC.2.1 dX7_keep_56 (by decide) ?_
  refine lv_istore_n (lv' := [(3, .int (nI 0)), (2, .int (nI (3 + 3))), (1, .ref (a 59)), (0, .ref (a 68))]) hC.1 hC.2.1 dX7_keep_57 rfl hl (by decide) rfl (fun ls hl => ?_)
  have L58_0 : ∀ (n : Nat), ∀ (h : Nat), (h ≤ 10) → (10 - h) < n → ∀ (H : Heap) (locs : List Loc) (ls : Array Slot), Wst E (XW E a) (sr σ 59 (upc (σ 4) h (va_cpy (σ 15) (upd (upd (upd (σ 59) 0 (σ 0 0)) 1 (σ 0 1)) 2 (σ 0 2)) 0 3 3))) A s.heap H locs → lv_has ls 4 [(0, .ref (a 68)), (1, .ref (a 59)), (2, .int (nI (3 + 3))), (3, .int (nI h))] → W p l e ({ frames := 1, cells := 0, slots := 0, locals := 24 }) s m args below meth c H locs 0 0 Q (F0 m 58 ls []) := by
    intro n
    induction n with
    | zero => intro h hh hn; exact absurd hn (Nat.not_lt_zero _)
    | succ n ih58 =>
      intro h hh hn58 H locs ls hw hl
      refine lv_iload_n hC.1 hC.2.1 dX7_keep_58 rfl (lv_at hl 3 rfl) ?_
      refine lv_bipush (v := nI 10) hC.1 hC.2.1 dX7_keep_59 (by decide) ?_
      refine q_cmpge hC 92 (cNle (by omega) (by omega)) dX7_keep_61 (by decide) (fun (c2 : 10 ≤ h) => ?_) (fun (c2 : h < 10) => ?_)
      · have hh9 : h = 10 := by omega
        rw [hh9] at hw
        refine lv_iinc (v := nI (3 + 3 + 10)) (lv' := [(2, .int (nI (3 + 3 + 10))), (0, .ref (a 68)), (1, .ref (a 59)), (3, .int (nI h))]) hC.1 hC.2.1 dX7_keep_92 hl (k := 2) rfl (nI_add _ _) (by decide) rfl (fun ls hl => ?_)
        refine lv_aload_n hC.1 hC.2.1 dX7_keep_95 rfl (lv_at hl 1 rfl) ?_
        refine gf_X7_20 hC hw dX7_keep_96 ?_
        refine gf_X7_53 hC hw dX7_keep_99 ?_
        refine lv_iconst (v := nI 0) hC.1 hC.2.1 dX7_keep_102 (by decide) ?_
        refine lv_aload_n hC.1 hC.2.1 dX7_keep_103 rfl (lv_at hl 2 rfl) ?_
        refine lv_iload_n hC.1 hC.2.1 dX7_keep_104 rfl (lv_at hl 0 rfl) ?_
        refine lv_bipush (v := nI 24) hC.1 hC.2.1 dX7_keep_105 (by decide) ?_
        refine q_cpy (sp := 0) (dp := (3 + 3 + 10)) (n := 24) 21 rfl 69 rfl (XW_s59 _) hC hw hl (by omega) (by omega) (by decide) (by decide) ⟨Nat.le_of_ble_eq_true rfl, Nat.le_of_ble_eq_true rfl⟩ wk2_183 dX7_keep_107 (fun H locs hw => ?_)
        have hw : Wst E (XW E a) (sr (sr σ 59 (upc (σ 4) 10 (va_cpy (σ 15) (upd (upd (upd (σ 59) 0 (σ 0 0)) 1 (σ 0 1)) 2 (σ 0 2)) 0 3 3))) 59 (va_cpy (σ 11) (upc (σ 4) 10 (va_cpy (σ 15) (upd (upd (upd (σ 59) 0 (σ 0 0)) 1 (σ 0 1)) 2 (σ 0 2)) 0 3 3)) 0 (3 + 3 + 10) 24)) A s.heap H locs := hw
        have hst_ : sr (sr σ 59 (upc (σ 4) 10 (va_cpy (σ 15) (upd (upd (upd (σ 59) 0 (σ 0 0)) 1 (σ 0 1)) 2 (σ 0 2)) 0 3 3))) 59 (va_cpy (σ 11) (upc (σ 4) 10 (va_cpy (σ 15) (upd (upd (upd (σ 59) 0 (σ 0 0)) 1 (σ 0 1)) 2 (σ 0 2)) 0 3 3)) 0 (3 + 3 + 10) 24) = sr σ 59 (va_cpy (σ 11) (upc (σ 4) 10 (va_cpy (σ 15) (upd (upd (upd (σ 59) 0 (σ 0 0)) 1 (σ 0 1)) 2 (σ 0 2)) 0 3 3)) 0 (3 + 3 + 10) 24) := by
          funext j_ x_
          by_cases e0 : j_ = 0
          · subst e0
            rfl
          · by_cases e59 : j_ = 59
            · subst e59; rfl
            · simp only [sr, e0, e59, if_false]
        rw [hst_] at hw
        refine lv_aload_n hC.1 hC.2.1 dX7_keep_110 rfl (lv_at hl 1 rfl) ?_
        refine gf_X7_20 hC hw dX7_keep_111 ?_
        refine gf_X7_56 hC hw dX7_keep_114 ?_
        refine lv_iconst (v := nI 0) hC.1 hC.2.1 dX7_keep_117 (by decide) ?_
        refine lv_aload_n hC.1 hC.2.1 dX7_keep_118 rfl (lv_at hl 2 rfl) ?_
        refine lv_iload_n hC.1 hC.2.1 dX7_keep_119 rfl (lv_at hl 0 rfl) ?_
        refine lv_bipush (v := nI 24) hC.1 hC.2.1 dX7_keep_120 (by decide) ?_
        refine q_addN hC dX7_keep_122 ?_
        refine lv_bipush (v := nI 24) hC.1 hC.2.1 dX7_keep_123 (by decide) ?_
        refine q_cpy (sp := 0) (dp := ((3 + 3 + 10) + 24)) (n := 24) 22 rfl 69 rfl (XW_s59 _) hC hw hl (by omega) (by omega) (by decide) (by decide) ⟨Nat.le_of_ble_eq_true rfl, Nat.le_of_ble_eq_true rfl⟩ wk2_183 dX7_keep_125 (fun H locs hw => ?_)
        have hw : Wst E (XW E a) (sr (sr σ 59 (va_cpy (σ 11) (upc (σ 4) 10 (va_cpy (σ 15) (upd (upd (upd (σ 59) 0 (σ 0 0)) 1 (σ 0 1)) 2 (σ 0 2)) 0 3 3)) 0 (3 + 3 + 10) 24)) 59 (va_cpy (σ 12) (va_cpy (σ 11) (upc (σ 4) 10 (va_cpy (σ 15) (upd (upd (upd (σ 59) 0 (σ 0 0)) 1 (σ 0 1)) 2 (σ 0 2)) 0 3 3)) 0 (3 + 3 + 10) 24) 0 ((3 + 3 + 10) + 24) 24)) A s.heap H locs := hw
        have hst_ : sr (sr σ 59 (va_cpy (σ 11) (upc (σ 4) 10 (va_cpy (σ 15) (upd (upd (upd (σ 59) 0 (σ 0 0)) 1 (σ 0 1)) 2 (σ 0 2)) 0 3 3)) 0 (3 + 3 + 10) 24)) 59 (va_cpy (σ 12) (va_cpy (σ 11) (upc (σ 4) 10 (va_cpy (σ 15) (upd (upd (upd (σ 59) 0 (σ 0 0)) 1 (σ 0 1)) 2 (σ 0 2)) 0 3 3)) 0 (3 + 3 + 10) 24) 0 ((3 + 3 + 10) + 24) 24) = sr σ 59 (va_cpy (σ 12) (va_cpy (σ 11) (upc (σ 4) 10 (va_cpy (σ 15) (upd (upd (upd (σ 59) 0 (σ 0 0)) 1 (σ 0 1)) 2 (σ 0 2)) 0 3 3)) 0 (3 + 3 + 10) 24) 0 ((3 + 3 + 10) + 24) 24) := by
          funext j_ x_
          by_cases e0 : j_ = 0
          · subst e0
            rfl
          · by_cases e59 : j_ = 59
            · subst e59; rfl
            · simp only [sr, e0, e59, if_false]
        rw [hst_] at hw
        refine lv_aload_n hC.1 hC.2.1 dX7_keep_128 rfl (lv_at hl 1 rfl) ?_
        refine gf_X7_20 hC hw dX7_keep_129 ?_
        refine gf_X7_59 hC hw dX7_keep_132 ?_
        refine lv_iconst (v := nI 0) hC.1 hC.2.1 dX7_keep_135 (by decide) ?_
        refine lv_aload_n hC.1 hC.2.1 dX7_keep_136 rfl (lv_at hl 2 rfl) ?_
        refine lv_iload_n hC.1 hC.2.1 dX7_keep_137 rfl (lv_at hl 0 rfl) ?_
        refine lv_bipush (v := nI 48) hC.1 hC.2.1 dX7_keep_138 (by decide) ?_
        refine q_addN hC dX7_keep_140 ?_
        refine lv_bipush (v := nI 24) hC.1 hC.2.1 dX7_keep_141 (by decide) ?_
        refine q_cpy (sp := 0) (dp := ((3 + 3 + 10) + 48)) (n := 24) 23 rfl 69 rfl (XW_s59 _) hC hw hl (by omega) (by omega) (by decide) (by decide) ⟨Nat.le_of_ble_eq_true rfl, Nat.le_of_ble_eq_true rfl⟩ wk2_183 dX7_keep_143 (fun H locs hw => ?_)
        have hw : Wst E (XW E a) (sr (sr σ 59 (va_cpy (σ 12) (va_cpy (σ 11) (upc (σ 4) 10 (va_cpy (σ 15) (upd (upd (upd (σ 59) 0 (σ 0 0)) 1 (σ 0 1)) 2 (σ 0 2)) 0 3 3)) 0 (3 + 3 + 10) 24) 0 ((3 + 3 + 10) + 24) 24)) 59 (va_cpy (σ 13) (va_cpy (σ 12) (va_cpy (σ 11) (upc (σ 4) 10 (va_cpy (σ 15) (upd (upd (upd (σ 59) 0 (σ 0 0)) 1 (σ 0 1)) 2 (σ 0 2)) 0 3 3)) 0 (3 + 3 + 10) 24) 0 ((3 + 3 + 10) + 24) 24) 0 ((3 + 3 + 10) + 48) 24)) A s.heap H locs := hw
        have hst_ : sr (sr σ 59 (va_cpy (σ 12) (va_cpy (σ 11) (upc (σ 4) 10 (va_cpy (σ 15) (upd (upd (upd (σ 59) 0 (σ 0 0)) 1 (σ 0 1)) 2 (σ 0 2)) 0 3 3)) 0 (3 + 3 + 10) 24) 0 ((3 + 3 + 10) + 24) 24)) 59 (va_cpy (σ 13) (va_cpy (σ 12) (va_cpy (σ 11) (upc (σ 4) 10 (va_cpy (σ 15) (upd (upd (upd (σ 59) 0 (σ 0 0)) 1 (σ 0 1)) 2 (σ 0 2)) 0 3 3)) 0 (3 + 3 + 10) 24) 0 ((3 + 3 + 10) + 24) 24) 0 ((3 + 3 + 10) + 48) 24) = sr σ 59 (va_cpy (σ 13) (va_cpy (σ 12) (va_cpy (σ 11) (upc (σ 4) 10 (va_cpy (σ 15) (upd (upd (upd (σ 59) 0 (σ 0 0)) 1 (σ 0 1)) 2 (σ 0 2)) 0 3 3)) 0 (3 + 3 + 10) 24) 0 ((3 + 3 + 10) + 24) 24) 0 ((3 + 3 + 10) + 48) 24) := by
          funext j_ x_
          by_cases e0 : j_ = 0
          · subst e0
            rfl
          · by_cases e59 : j_ = 59
            · subst e59; rfl
            · simp only [sr, e0, e59, if_false]
        rw [hst_] at hw
        refine lv_aload_n hC.1 hC.2.1 dX7_keep_146 rfl (lv_at hl 1 rfl) ?_
        refine gf_X7_20 hC hw dX7_keep_147 ?_
        refine gf_X7_62 hC hw dX7_keep_150 ?_
        refine lv_iconst (v := nI 0) hC.1 hC.2.1 dX7_keep_153 (by decide) ?_
        refine lv_aload_n hC.1 hC.2.1 dX7_keep_154 rfl (lv_at hl 2 rfl) ?_
        refine lv_iload_n hC.1 hC.2.1 dX7_keep_155 rfl (lv_at hl 0 rfl) ?_
        refine lv_bipush (v := nI 72) hC.1 hC.2.1 dX7_keep_156 (by decide) ?_
        refine q_addN hC dX7_keep_158 ?_
        refine lv_bipush (v := nI 24) hC.1 hC.2.1 dX7_keep_159 (by decide) ?_
        refine q_cpy (sp := 0) (dp := ((3 + 3 + 10) + 72)) (n := 24) 24 rfl 69 rfl (XW_s59 _) hC hw hl (by omega) (by omega) (by decide) (by decide) ⟨Nat.le_of_ble_eq_true rfl, Nat.le_of_ble_eq_true rfl⟩ wk2_183 dX7_keep_161 (fun H locs hw => ?_)
        have hw : Wst E (XW E a) (sr (sr σ 59 (va_cpy (σ 13) (va_cpy (σ 12) (va_cpy (σ 11) (upc (σ 4) 10 (va_cpy (σ 15) (upd (upd (upd (σ 59) 0 (σ 0 0)) 1 (σ 0 1)) 2 (σ 0 2)) 0 3 3)) 0 (3 + 3 + 10) 24) 0 ((3 + 3 + 10) + 24) 24) 0 ((3 + 3 + 10) + 48) 24)) 59 (va_cpy (σ 14) (va_cpy (σ 13) (va_cpy (σ 12) (va_cpy (σ 11) (upc (σ 4) 10 (va_cpy (σ 15) (upd (upd (upd (σ 59) 0 (σ 0 0)) 1 (σ 0 1)) 2 (σ 0 2)) 0 3 3)) 0 (3 + 3 + 10) 24) 0 ((3 + 3 + 10) + 24) 24) 0 ((3 + 3 + 10) + 48) 24) 0 ((3 + 3 + 10) + 72) 24)) A s.heap H locs := hw
        have hst_ : sr (sr σ 59 (va_cpy (σ 13) (va_cpy (σ 12) (va_cpy (σ 11) (upc (σ 4) 10 (va_cpy (σ 15) (upd (upd (upd (σ 59) 0 (σ 0 0)) 1 (σ 0 1)) 2 (σ 0 2)) 0 3 3)) 0 (3 + 3 + 10) 24) 0 ((3 + 3 + 10) + 24) 24) 0 ((3 + 3 + 10) + 48) 24)) 59 (va_cpy (σ 14) (va_cpy (σ 13) (va_cpy (σ 12) (va_cpy (σ 11) (upc (σ 4) 10 (va_cpy (σ 15) (upd (upd (upd (σ 59) 0 (σ 0 0)) 1 (σ 0 1)) 2 (σ 0 2)) 0 3 3)) 0 (3 + 3 + 10) 24) 0 ((3 + 3 + 10) + 24) 24) 0 ((3 + 3 + 10) + 48) 24) 0 ((3 + 3 + 10) + 72) 24) = sr σ 59 (va_cpy (σ 14) (va_cpy (σ 13) (va_cpy (σ 12) (va_cpy (σ 11) (upc (σ 4) 10 (va_cpy (σ 15) (upd (upd (upd (σ 59) 0 (σ 0 0)) 1 (σ 0 1)) 2 (σ 0 2)) 0 3 3)) 0 (3 + 3 + 10) 24) 0 ((3 + 3 + 10) + 24) 24) 0 ((3 + 3 + 10) + 48) 24) 0 ((3 + 3 + 10) + 72) 24) := by
          funext j_ x_
          by_cases e0 : j_ = 0
          · subst e0
            rfl
          · by_cases e59 : j_ = 59
            · subst e59; rfl
            · simp only [sr, e0, e59, if_false]
        rw [hst_] at hw
        refine lv_aload_n hC.1 hC.2.1 dX7_keep_164 rfl (lv_at hl 1 rfl) ?_
        refine lv_aload_n hC.1 hC.2.1 dX7_keep_165 rfl (lv_at hl 1 rfl) ?_
        refine gf_X7_28 (v := nI 29) hC hw hnx dX7_keep_166 ?_
        refine lv_bipush (v := nI 29) hC.1 hC.2.1 dX7_keep_169 (by decide) ?_
        have J184_4 : ∀ (w3 : Nat), w3 = (if 29 ≠ 29 then (29 + 1) else 0) → ∀ (H : Heap) (locs : List Loc) (ls : Array Slot), Wst E (XW E a) (sr σ 59 (va_cpy (σ 14) (va_cpy (σ 13) (va_cpy (σ 12) (va_cpy (σ 11) (upc (σ 4) 10 (va_cpy (σ 15) (upd (upd (upd (σ 59) 0 (σ 0 0)) 1 (σ 0 1)) 2 (σ 0 2)) 0 3 3)) 0 (3 + 3 + 10) 24) 0 ((3 + 3 + 10) + 24) 24) 0 ((3 + 3 + 10) + 48) 24) 0 ((3 + 3 + 10) + 72) 24)) A s.heap H locs → lv_has ls 4 [(0, .ref (a 68)), (1, .ref (a 59)), (2, .int (nI (3 + 3 + 10))), (3, .int (nI h))] → W p l e ({ frames := 1, cells := 0, slots := 0, locals := 24 }) s m args below meth c H locs 0 0 Q (F0 m 184 ls [.int (nI w3), .ref (a 68)]) := by
          intro w3 e4 H locs ls hw hl
          subst e4
          refine pf_X7_28 hC hw dX7_keep_184 (fun H locs hw => ?_)
          have hw : Wst E (XW E a) (sr (sr σ 59 (va_cpy (σ 14) (va_cpy (σ 13) (va_cpy (σ 12) (va_cpy (σ 11) (upc (σ 4) 10 (va_cpy (σ 15) (upd (upd (upd (σ 59) 0 (σ 0 0)) 1 (σ 0 1)) 2 (σ 0 2)) 0 3 3)) 0 (3 + 3 + 10) 24) 0 ((3 + 3 + 10) + 24) 24) 0 ((3 + 3 + 10) + 48) 24) 0 ((3 + 3 + 10) + 72) 24)) 0 (upd (σ 0) 3 (nI (if 29 ≠ 29 then (29 + 1) else 0)))) A s.heap H locs := hw
          refine lv_aload_n hC.1 hC.2.1 dX7_keep_187 rfl (lv_at hl 0 rfl) ?_
          refine lv_aload_n hC.1 hC.2.1 dX7_keep_188 rfl (lv_at hl 0 rfl) ?_
          refine gf_X7_65 (v := nI kp) hC hw hkp dX7_keep_189 ?_
          refine lv_bipush (v := nI 30) hC.1 hC.2.1 dX7_keep_192 (by decide) ?_
          have J210_6 : ∀ (w5 : Nat), w5 = (if kp ≠ 30 then (kp + 1) else kp) → ∀ (H : Heap) (locs : List Loc) (ls : Array Slot), Wst E (XW E a) (sr (sr σ 59 (va_cpy (σ 14) (va_cpy (σ 13) (va_cpy (σ 12) (va_cpy (σ 11) (upc (σ 4) 10 (va_cpy (σ 15) (upd (upd (upd (σ 59) 0 (σ 0 0)) 1 (σ 0 1)) 2 (σ 0 2)) 0 3 3)) 0 (3 + 3 + 10) 24) 0 ((3 + 3 + 10) + 24) 24) 0 ((3 + 3 + 10) + 48) 24) 0 ((3 + 3 + 10) + 72) 24)) 0 (upd (σ 0) 3 (nI (if 29 ≠ 29 then (29 + 1) else 0)))) A s.heap H locs → lv_has ls 4 [(0, .ref (a 68)), (1, .ref (a 59)), (2, .int (nI (3 + 3 + 10))), (3, .int (nI h))] → W p l e ({ frames := 1, cells := 0, slots := 0, locals := 24 }) s m args below meth c H locs 0 0 Q (F0 m 210 ls [.int (nI w5), .ref (a 68)]) := by
            intro w5 e6 H locs ls hw hl
            subst e6
            refine pf_X7_65 hC hw dX7_keep_210 (fun H locs hw => ?_)
            have hw : Wst E (XW E a) (sr (sr (sr σ 59 (va_cpy (σ 14) (va_cpy (σ 13) (va_cpy (σ 12) (va_cpy (σ 11) (upc (σ 4) 10 (va_cpy (σ 15) (upd (upd (upd (σ 59) 0 (σ 0 0)) 1 (σ 0 1)) 2 (σ 0 2)) 0 3 3)) 0 (3 + 3 + 10) 24) 0 ((3 + 3 + 10) + 24) 24) 0 ((3 + 3 + 10) + 48) 24) 0 ((3 + 3 + 10) + 72) 24)) 0 (upd (σ 0) 3 (nI (if 29 ≠ 29 then (29 + 1) else 0)))) 0 (upd (upd (σ 0) 3 (nI (if 29 ≠ 29 then (29 + 1) else 0))) 4 (nI (if kp ≠ 30 then (kp + 1) else kp)))) A s.heap H locs := hw
            have hst_ : sr (sr (sr σ 59 (va_cpy (σ 14) (va_cpy (σ 13) (va_cpy (σ 12) (va_cpy (σ 11) (upc (σ 4) 10 (va_cpy (σ 15) (upd (upd (upd (σ 59) 0 (σ 0 0)) 1 (σ 0 1)) 2 (σ 0 2)) 0 3 3)) 0 (3 + 3 + 10) 24) 0 ((3 + 3 + 10) + 24) 24) 0 ((3 + 3 + 10) + 48) 24) 0 ((3 + 3 + 10) + 72) 24)) 0 (upd (σ 0) 3 (nI (if 29 ≠ 29 then (29 + 1) else 0)))) 0 (upd (upd (σ 0) 3 (nI (if 29 ≠ 29 then (29 + 1) else 0))) 4 (nI (if kp ≠ 30 then (kp + 1) else kp))) = sr (sr σ 59 (va_cpy (σ 14) (va_cpy (σ 13) (va_cpy (σ 12) (va_cpy (σ 11) (upc (σ 4) 10 (va_cpy (σ 15) (upd (upd (upd (σ 59) 0 (σ 0 0)) 1 (σ 0 1)) 2 (σ 0 2)) 0 3 3)) 0 (3 + 3 + 10) 24) 0 ((3 + 3 + 10) + 24) 24) 0 ((3 + 3 + 10) + 48) 24) 0 ((3 + 3 + 10) + 72) 24)) 0 (upd (upd (σ 0) 3 (nI (if 29 ≠ 29 then (29 + 1) else 0))) 4 (nI (if kp ≠ 30 then (kp + 1) else kp))) := by
              funext j_ x_
              by_cases e0 : j_ = 0
              · subst e0
                by_cases y3 : x_ = 3
                · subst y3; rfl
                · by_cases y4 : x_ = 4
                  · subst y4; rfl
                  · simp [sr, upd, y3, y4]
              · by_cases e59 : j_ = 59
                · subst e59; rfl
                · simp only [sr, e0, e59, if_false]
            rw [hst_] at hw
            refine hret _ _ _ _ _ hw ?_ dX7_keep_213
            exact rfl
          refine q_cmpne hC 204 (cNeq (by omega) (by omega)) dX7_keep_194 (by decide) (fun (c7 : kp ≠ 30) => ?_) (fun (c7 : kp = 30) => ?_)
          · refine lv_aload_n hC.1 hC.2.1 dX7_keep_204 rfl (lv_at hl 0 rfl) ?_
            refine gf_X7_65 (v := nI kp) hC hw hkp dX7_keep_205 ?_
            refine lv_iconst (v := nI 1) hC.1 hC.2.1 dX7_keep_208 (by decide) ?_
            refine q_addN hC dX7_keep_209 ?_
            exact J210_6 _ (by (rw [if_pos c7]) <;> rfl) _ _ _ hw (lv_sub hl [0, 1, 2, 3] rfl)
          · refine lv_aload_n hC.1 hC.2.1 dX7_keep_197 rfl (lv_at hl 0 rfl) ?_
            refine gf_X7_65 (v := nI kp) hC hw hkp dX7_keep_198 ?_
            refine lv_goto (tgt := 210) hC.1 hC.2.1 dX7_keep_201 (by decide) ?_
            exact J210_6 _ (by (rw [if_neg (fun q => q c7)]) <;> rfl) _ _ _ hw (lv_sub hl [0, 1, 2, 3] rfl)
        refine q_cmpne hC 178 (cNeq (by omega) (by omega)) dX7_keep_171 (by decide) (fun (c8 : 29 ≠ 29) => ?_) (fun (c8 : 29 = 29) => ?_)
        · refine lv_aload_n hC.1 hC.2.1 dX7_keep_178 rfl (lv_at hl 1 rfl) ?_
          refine gf_X7_28 (v := nI 29) hC hw hnx dX7_keep_179 ?_
          refine lv_iconst (v := nI 1) hC.1 hC.2.1 dX7_keep_182 (by decide) ?_
          refine q_addN hC dX7_keep_183 ?_
          exact J184_4 _ (by (rw [if_pos c8]) <;> rfl) _ _ _ hw (lv_sub hl [1, 2, 0, 3] rfl)
        · refine lv_iconst (v := nI 0) hC.1 hC.2.1 dX7_keep_174 (by decide) ?_
          refine lv_goto (tgt := 184) hC.1 hC.2.1 dX7_keep_175 (by decide) ?_
          exact J184_4 _ (by (rw [if_neg (fun q => q c8)]) <;> rfl) _ _ _ hw (lv_sub hl [1, 2, 0, 3] rfl)
      · refine lv_aload_n hC.1 hC.2.1 dX7_keep_64 rfl (lv_at hl 1 rfl) ?_
        refine lv_iload_n hC.1 hC.2.1 dX7_keep_65 rfl (lv_at hl 2 rfl) ?_
        refine lv_iload_n hC.1 hC.2.1 dX7_keep_66 rfl (lv_at hl 3 rfl) ?_
        refine q_addN hC dX7_keep_67 ?_
        refine lv_aload_n hC.1 hC.2.1 dX7_keep_68 rfl (lv_at hl 0 rfl) ?_
        refine gf_X7_16 hC hw dX7_keep_69 ?_
        refine gf_X7_49 hC hw dX7_keep_72 ?_
        refine lv_iload_n hC.1 hC.2.1 dX7_keep_75 rfl (lv_at hl 3 rfl) ?_
        refine al_X4 (v := σ 4 h) hC hw (by omega) rfl dX7_keep_76 ?_
        have J85_10 : ∀ (w9 : Int32), w9 = (if ¬ (σ 4 h = 0) then (1 : Int32) else 0) → ∀ (H : Heap) (locs : List Loc) (ls : Array Slot), Wst E (XW E a) (sr σ 59 (upc (σ 4) h (va_cpy (σ 15) (upd (upd (upd (σ 59) 0 (σ 0 0)) 1 (σ 0 1)) 2 (σ 0 2)) 0 3 3))) A s.heap H locs → lv_has ls 4 [(0, .ref (a 68)), (1, .ref (a 59)), (2, .int (nI (3 + 3))), (3, .int (nI h))] → W p l e ({ frames := 1, cells := 0, slots := 0, locals := 24 }) s m args below meth c H locs 0 0 Q (F0 m 85 ls [.int (w9), .int (nI ((3 + 3) + h)), .ref (a 59)]) := by
          intro w9 e10 H locs ls hw hl
          subst e10
          refine q_ast (Wf := XW E a) 69 rfl (by decide) (XW_s59 _) hC hw (by omega) dX7_keep_85 (fun H locs hw => ?_)
          have hw : Wst E (XW E a) (sr (sr σ 59 (upc (σ 4) h (va_cpy (σ 15) (upd (upd (upd (σ 59) 0 (σ 0 0)) 1 (σ 0 1)) 2 (σ 0 2)) 0 3 3))) 59 (upd (upc (σ 4) h (va_cpy (σ 15) (upd (upd (upd (σ 59) 0 (σ 0 0)) 1 (σ 0 1)) 2 (σ 0 2)) 0 3 3)) ((3 + 3) + h) (if ¬ (σ 4 h = 0) then (1 : Int32) else 0))) A s.heap H locs := hw
          have hst_ : sr (sr σ 59 (upc (σ 4) h (va_cpy (σ 15) (upd (upd (upd (σ 59) 0 (σ 0 0)) 1 (σ 0 1)) 2 (σ 0 2)) 0 3 3))) 59 (upd (upc (σ 4) h (va_cpy (σ 15) (upd (upd (upd (σ 59) 0 (σ 0 0)) 1 (σ 0 1)) 2 (σ 0 2)) 0 3 3)) ((3 + 3) + h) (if ¬ (σ 4 h = 0) then (1 : Int32) else 0)) = sr σ 59 (upd (upc (σ 4) h (va_cpy (σ 15) (upd (upd (upd (σ 59) 0 (σ 0 0)) 1 (σ 0 1)) 2 (σ 0 2)) 0 3 3)) ((3 + 3) + h) (if ¬ (σ 4 h = 0) then (1 : Int32) else 0)) := by
            funext j_ x_
            by_cases e0 : j_ = 0
            · subst e0
              rfl
            · by_cases e59 : j_ = 59
              · subst e59; rfl
              · simp only [sr, e0, e59, if_false]
          rw [hst_] at hw
          refine lv_iinc (v := nI (h + 1)) (lv' := [(3, .int (nI (h + 1))), (0, .ref (a 68)), (1, .ref (a 59)), (2, .int (nI (3 + 3)))]) hC.1 hC.2.1 dX7_keep_86 hl (k := 3) rfl (nI_add _ _) (by decide) rfl (fun ls hl => ?_)
          refine lv_goto (tgt := 58) hC.1 hC.2.1 dX7_keep_89 (by decide) ?_
          rw [upc_s] at hw
          exact ih58 (h + 1) (by omega) (by omega) _ _ _ hw (lv_sub hl [1, 2, 3, 0] rfl)
        refine q_ifeq hC 84 cI dX7_keep_77 (by decide) (fun (c11 : σ 4 h = 0) => ?_) (fun (c11 : ¬ (σ 4 h = 0)) => ?_)
        · refine lv_iconst (v := nI 0) hC.1 hC.2.1 dX7_keep_84 (by decide) ?_
          exact J85_10 _ (if_neg (fun q => q c11)).symm _ _ _ hw (lv_sub hl [0, 1, 2, 3] rfl)
        · refine lv_iconst (v := nI 1) hC.1 hC.2.1 dX7_keep_80 (by decide) ?_
          refine lv_goto (tgt := 85) hC.1 hC.2.1 dX7_keep_81 (by decide) ?_
          exact J85_10 _ (if_pos c11).symm _ _ _ hw (lv_sub hl [0, 1, 2, 3] rfl)
  rw [← upc_0 (σ 4) (va_cpy (σ 15) (upd (upd (upd (σ 59) 0 (σ 0 0)) 1 (σ 0 1)) 2 (σ 0 2)) 0 3 3)] at hw
  exact L58_0 _ 0 (by omega) (Nat.lt_succ_self _) _ _ _ hw (lv_sub hl [3, 2, 1, 0] rfl)
set_option maxHeartbeats 4000000 in
set_option maxRecDepth 100000 in
theorem tX7_restore_k3 (l : Launch) (E : EV) (a : Nat → Nat) (σ : St) (kp : Nat) (hnx : σ 0 3 = nI 3) (hkp : σ 0 4 = nI kp) (hk30 : kp ≤ 30) (hk1 : 1 ≤ kp) : MV l E (XW E a) yX7_restore (Cond.code yX7_restore cX7_restore 4 none) ({ frames := 1, cells := 0, slots := 0, locals := 24 }) [.ref (a 68)] σ (fun u_ => u_ = sr (sr (sr (sr (sr (sr (sr σ 4 (upr (σ 32) 10 (σ 4))) 11 (va_cpy (σ 32) (σ 11) 16 0 24)) 12 (va_cpy (σ 32) (σ 12) 40 0 24)) 13 (va_cpy (σ 32) (σ 13) 64 0 24)) 14 (va_cpy (σ 32) (σ 14) 88 0 24)) 15 (va_cpy (σ 32) (σ 15) 3 0 3)) 0 (upd (upd (upd (upd (upd (σ 0) 0 ((σ 32) 0)) 1 ((σ 32) 1)) 2 ((σ 32) 2)) 3 (nI (if 3 ≠ 0 then 3 - 1 else 29))) 4 (nI (kp - 1)))) := by
  refine MV.mk (by decide +kernel) (Nat.le_of_ble_eq_true rfl) ?_
  intro p e s m args below meth c ls A Q hret hC hw hl
  have hC : Cxt E p s m args meth c cX7_restore 4 none RX7 A := hC
  have hl : lv_has ls 4 [(0, .ref (a 68))] := hl
  refine lv_aload_n hC.1 hC.2.1 dX7_restore_0 rfl (lv_at hl 0 rfl) ?_
  refine lv_aload_n hC.1 hC.2.1 dX7_restore_1 rfl (lv_at hl 0 rfl) ?_
  refine gf_X7_28 (v := nI 3) hC hw hnx dX7_restore_2 ?_
  have J19_2 : ∀ (w1 : Nat), w1 = (if 3 ≠ 0 then (3 - 1) else 29) → ∀ (H : Heap) (locs : List Loc) (ls : Array Slot), Wst E (XW E a) (σ) A s.heap H locs → lv_has ls 4 [(0, .ref (a 68))] → W p l e ({ frames := 1, cells := 0, slots := 0, locals := 24 }) s m args below meth c H locs 0 0 Q (F0 m 19 ls [.int (nI w1), .ref (a 68)]) := by
    intro w1 e2 H locs ls hw hl
    subst e2
    refine pf_X7_28 hC hw dX7_restore_19 (fun H locs hw => ?_)
    have hw : Wst E (XW E a) (sr σ 0 (upd (σ 0) 3 (nI (if 3 ≠ 0 then (3 - 1) else 29)))) A s.heap H locs := hw
    refine lv_aload_n hC.1 hC.2.1 dX7_restore_22 rfl (lv_at hl 0 rfl) ?_
    refine lv_dup hC.1 hC.2.1 dX7_restore_23 rfl ?_
    refine gf_X7_65 (v := nI kp) hC hw hkp dX7_restore_24 ?_
    refine lv_iconst (v := nI 1) hC.1 hC.2.1 dX7_restore_27 (by decide) ?_
    refine q_subN hC (by omega) dX7_restore_28 ?_
    refine pf_X7_65 hC hw dX7_restore_29 (fun H locs hw => ?_)
    have hw : Wst E (XW E a) (sr (sr σ 0 (upd (σ 0) 3 (nI (if 3 ≠ 0 then (3 - 1) else 29)))) 0 (upd (upd (σ 0) 3 (nI (if 3 ≠ 0 then (3 - 1) else 29))) 4 (nI (kp - 1)))) A s.heap H locs := hw
    have hst_ : sr (sr σ 0 (upd (σ 0) 3 (nI (if 3 ≠ 0 then (3 - 1) else 29)))) 0 (upd (upd (σ 0) 3 (nI (if 3 ≠ 0 then (3 - 1) else 29))) 4 (nI (kp - 1))) = sr σ 0 (upd (upd (σ 0) 3 (nI (if 3 ≠ 0 then (3 - 1) else 29))) 4 (nI (kp - 1))) := by
      funext j_ x_
      by_cases e0 : j_ = 0
      · subst e0
        by_cases y3 : x_ = 3
        · subst y3; rfl
        · by_cases y4 : x_ = 4
          · subst y4; rfl
          · simp [sr, upd, y3, y4]
      · simp only [sr, e0, if_false]
    rw [hst_] at hw
    refine lv_aload_n hC.1 hC.2.1 dX7_restore_32 rfl (lv_at hl 0 rfl) ?_
    refine gf_X7_13 hC hw dX7_restore_33 ?_
    refine lv_aload_n hC.1 hC.2.1 dX7_restore_36 rfl (lv_at hl 0 rfl) ?_
    refine gf_X7_28 (v := nI (if 3 ≠ 0 then (3 - 1) else 29)) hC hw rfl dX7_restore_37 ?_
    refine q_top (y := nI 2) rfl ?_
    refine q_aald hC hw (i := 2) (by decide) dX7_restore_40 ?_
    refine lv_astore_n (lv' := [(1, .ref (a 32)), (0, .ref (a 68))]) hC.1 hC.2.1 dX7_restore_41 rfl hl (by decide) rfl (fun ls hl => ?_)
    refine lv_aload_n hC.1 hC.2.1 dX7_restore_42 rfl (lv_at hl 1 rfl) ?_
    refine gf_X7_16 hC hw dX7_restore_43 ?_
    refine lv_aload_n hC.1 hC.2.1 dX7_restore_46 rfl (lv_at hl 0 rfl) ?_
    refine lv_iconst (v := nI 0) hC.1 hC.2.1 dX7_restore_47 (by decide) ?_
    refine q_ald (Wf := XW E a) (v := σ 32 0) 42 rfl (by decide) hC hw (by omega) rfl dX7_restore_48 ?_
    refine pf_X7_32 hC hw dX7_restore_49 (fun H locs hw => ?_)
    have hw : Wst E (XW E a) (sr (sr σ 0 (upd (upd (σ 0) 3 (nI (if 3 ≠ 0 then (3 - 1) else 29))) 4 (nI (kp - 1)))) 0 (upd (upd (upd (σ 0) 3 (nI (if 3 ≠ 0 then (3 - 1) else 29))) 4 (nI (kp - 1))) 0 (σ 32 0))) A s.heap H locs := hw
    have hst_ : sr (sr σ 0 (upd (upd (σ 0) 3 (nI (if 3 ≠ 0 then (3 - 1) else 29))) 4 (nI (kp - 1)))) 0 (upd (upd (upd (σ 0) 3 (nI (if 3 ≠ 0 then (3 - 1) else 29))) 4 (nI (kp - 1))) 0 (σ 32 0)) = sr σ 0 (upd (upd (upd (σ 0) 0 (σ 32 0)) 3 (nI (if 3 ≠ 0 then (3 - 1) else 29))) 4 (nI (kp - 1))) := by
      funext j_ x_
      by_cases e0 : j_ = 0
      · subst e0
        by_cases y0 : x_ = 0
        · subst y0; rfl
        · by_cases y3 : x_ = 3
          · subst y3; rfl
          · by_cases y4 : x_ = 4
            · subst y4; rfl
            · simp [sr, upd, y0, y3, y4]
      · simp only [sr, e0, if_false]
    rw [hst_] at hw
    refine lv_aload_n hC.1 hC.2.1 dX7_restore_52 rfl (lv_at hl 1 rfl) ?_
    refine gf_X7_20 hC hw dX7_restore_53 ?_
    refine lv_aload_n hC.1 hC.2.1 dX7_restore_56 rfl (lv_at hl 0 rfl) ?_
    refine lv_iconst (v := nI 1) hC.1 hC.2.1 dX7_restore_57 (by decide) ?_
    refine q_ald (Wf := XW E a) (v := σ 32 1) 42 rfl (by decide) hC hw (by omega) rfl dX7_restore_58 ?_
    refine pf_X7_37 hC hw dX7_restore_59 (fun H locs hw => ?_)
    have hw : Wst E (XW E a) (sr (sr σ 0 (upd (upd (upd (σ 0) 0 (σ 32 0)) 3 (nI (if 3 ≠ 0 then (3 - 1) else 29))) 4 (nI (kp - 1)))) 0 (upd (upd (upd (upd (σ 0) 0 (σ 32 0)) 3 (nI (if 3 ≠ 0 then (3 - 1) else 29))) 4 (nI (kp - 1))) 1 (σ 32 1))) A s.heap H locs := hw
    have hst_ : sr (sr σ 0 (upd (upd (upd (σ 0) 0 (σ 32 0)) 3 (nI (if 3 ≠ 0 then (3 - 1) else 29))) 4 (nI (kp - 1)))) 0 (upd (upd (upd (upd (σ 0) 0 (σ 32 0)) 3 (nI (if 3 ≠ 0 then (3 - 1) else 29))) 4 (nI (kp - 1))) 1 (σ 32 1)) = sr σ 0 (upd (upd (upd (upd (σ 0) 0 (σ 32 0)) 1 (σ 32 1)) 3 (nI (if 3 ≠ 0 then (3 - 1) else 29))) 4 (nI (kp - 1))) := by
      funext j_ x_
      by_cases e0 : j_ = 0
      · subst e0
        by_cases y0 : x_ = 0
        · subst y0; rfl
        · by_cases y1 : x_ = 1
          · subst y1; rfl
          · by_cases y3 : x_ = 3
            · subst y3; rfl
            · by_cases y4 : x_ = 4
              · subst y4; rfl
              · simp [sr, upd, y0, y1, y3, y4]
      · simp only [sr, e0, if_false]
    rw [hst_] at hw
    refine lv_aload_n hC.1 hC.2.1 dX7_restore_62 rfl (lv_at hl 1 rfl) ?_
    refine gf_X7_20 hC hw dX7_restore_63 ?_
    refine lv_aload_n hC.1 hC.2.1 dX7_restore_66 rfl (lv_at hl 0 rfl) ?_
    refine lv_iconst (v := nI 2) hC.1 hC.2.1 dX7_restore_67 (by decide) ?_
    refine q_ald (Wf := XW E a) (v := σ 32 2) 42 rfl (by decide) hC hw (by omega) rfl dX7_restore_68 ?_
    refine pf_X7_40 hC hw dX7_restore_69 (fun H locs hw => ?_)
    have hw : Wst E (XW E a) (sr (sr σ 0 (upd (upd (upd (upd (σ 0) 0 (σ 32 0)) 1 (σ 32 1)) 3 (nI (if 3 ≠ 0 then (3 - 1) else 29))) 4 (nI (kp - 1)))) 0 (upd (upd (upd (upd (upd (σ 0) 0 (σ 32 0)) 1 (σ 32 1)) 3 (nI (if 3 ≠ 0 then (3 - 1) else 29))) 4 (nI (kp - 1))) 2 (σ 32 2))) A s.heap H locs := hw
    have hst_ : sr (sr σ 0 (upd (upd (upd (upd (σ 0) 0 (σ 32 0)) 1 (σ 32 1)) 3 (nI (if 3 ≠ 0 then (3 - 1) else 29))) 4 (nI (kp - 1)))) 0 (upd (upd (upd (upd (upd (σ 0) 0 (σ 32 0)) 1 (σ 32 1)) 3 (nI (if 3 ≠ 0 then (3 - 1) else 29))) 4 (nI (kp - 1))) 2 (σ 32 2)) = sr σ 0 (upd (upd (upd (upd (upd (σ 0) 0 (σ 32 0)) 1 (σ 32 1)) 2 (σ 32 2)) 3 (nI (if 3 ≠ 0 then (3 - 1) else 29))) 4 (nI (kp - 1))) := by
      funext j_ x_
      by_cases e0 : j_ = 0
      · subst e0
        by_cases y0 : x_ = 0
        · subst y0; rfl
        · by_cases y1 : x_ = 1
          · subst y1; rfl
          · by_cases y2 : x_ = 2
            · subst y2; rfl
            · by_cases y3 : x_ = 3
              · subst y3; rfl
              · by_cases y4 : x_ = 4
                · subst y4; rfl
                · simp [sr, upd, y0, y1, y2, y3, y4]
      · simp only [sr, e0, if_false]
    rw [hst_] at hw
    refine lv_iconst (v := nI 3) hC.1 hC.2.1 dX7_restore_72 (by decide) ?_
    refine lv_istore_n (lv' := [(2, .int (nI 3)), (1, .ref (a 32)), (0, .ref (a 68))]) hC.1 hC.2.1 dX7_restore_73 rfl hl (by decide) rfl (fun ls hl => ?_)
    refine lv_aload_n hC.1 hC.2.1 dX7_restore_74 rfl (lv_at hl 1 rfl) ?_
    refine lv_iload_n hC.1 hC.2.1 dX7_restore_75 rfl (lv_at hl 0 rfl) ?_
    refine lv_aload_n hC.1 hC.2.1 dX7_restore_76 rfl (lv_at hl 2 rfl) ?_
    refine gf_X7_24 hC hw dX7_restore_77 ?_
    refine lv_iconst (v := nI 0) hC.1 hC.2.1 dX7_restore_80 (by decide) ?_
    refine lv_iconst (v := nI 3) hC.1 hC.2.1 dX7_restore_81 (by decide) ?_
    refine q_cpy (sp := 3) (dp := 0) (n := 3) 42 rfl 25 rfl (XW_s15 _) hC hw hl (by omega) (by omega) (by decide) (by decide) ⟨Nat.le_of_ble_eq_true rfl, Nat.le_of_ble_eq_true rfl⟩ wk2_183 dX7_restore_82 (fun H locs hw => ?_)
    have hw : Wst E (XW E a) (sr (sr σ 0 (upd (upd (upd (upd (upd (σ 0) 0 (σ 32 0)) 1 (σ 32 1)) 2 (σ 32 2)) 3 (nI (if 3 ≠ 0 then (3 - 1) else 29))) 4 (nI (kp - 1)))) 15 (va_cpy (σ 32) (σ 15) 3 0 3)) A s.heap H locs := hw
    have hst_ : sr (sr σ 0 (upd (upd (upd (upd (upd (σ 0) 0 (σ 32 0)) 1 (σ 32 1)) 2 (σ 32 2)) 3 (nI (if 3 ≠ 0 then (3 - 1) else 29))) 4 (nI (kp - 1)))) 15 (va_cpy (σ 32) (σ 15) 3 0 3) = sr (sr σ 15 (va_cpy (σ 32) (σ 15) 3 0 3)) 0 (upd (upd (upd (upd (upd (σ 0) 0 (σ 32 0)) 1 (σ 32 1)) 2 (σ 32 2)) 3 (nI (if 3 ≠ 0 then (3 - 1) else 29))) 4 (nI (kp - 1))) := by
      funext j_ x_
      by_cases e0 : j_ = 0
      · subst e0
        by_cases y0 : x_ = 0
        · subst y0; rfl
        · by_cases y1 : x_ = 1
          · subst y1; rfl
          · by_cases y2 : x_ = 2
            · subst y2; rfl
            · by_cases y3 : x_ = 3
              · subst y3; rfl
              · by_cases y4 : x_ = 4
                · subst y4; rfl
                · simp [sr, upd, y0, y1, y2, y3, y4]
      · by_cases e15 : j_ = 15
        · subst e15; rfl
        · simp only [sr, e0, e15, if_false]
    rw [hst_] at hw
    refine lv_iinc (v := nI (3 + 3)) (lv' := [(2, .int (nI (3 + 3))), (1, .ref (a 32)), (0, .ref (a 68))]) hC.1 hC.2.1 dX7_restore_85 hl (k := 0) rfl (nI_add _ _) (by decide) rfl (fun ls hl => ?_)
    refine lv_iconst (v := nI 0) hC.1 hC.2.1 dX7_restore_88 (by decide) ?_
    refine lv_istore_n (lv' := [(3, .int (nI 0)), (2, .int (nI (3 + 3))), (1, .ref (a 32)), (0, .ref (a 68))]) hC.1 hC.2.1 dX7_restore_89 rfl hl (by decide) rfl (fun ls hl => ?_)
    have L90_2 : ∀ (n : Nat), ∀ (h : Nat), (h ≤ 10) → (10 - h) < n → ∀ (H : Heap) (locs : List Loc) (ls : Array Slot), Wst E (XW E a) (sr (sr (sr σ 4 (upr (σ 32) h (σ 4))) 15 (va_cpy (σ 32) (σ 15) 3 0 3)) 0 (upd (upd (upd (upd (upd (σ 0) 0 (σ 32 0)) 1 (σ 32 1)) 2 (σ 32 2)) 3 (nI (if 3 ≠ 0 then (3 - 1) else 29))) 4 (nI (kp - 1)))) A s.heap H locs → lv_has ls 4 [(0, .ref (a 68)), (1, .ref (a 32)), (2, .int (nI (3 + 3))), (3, .int (nI h))] → W p l e ({ frames := 1, cells := 0, slots := 0, locals := 24 }) s m args below meth c H locs 0 0 Q (F0 m 90 ls []) := by
      intro n
      induction n with
      | zero => intro h hh hn; exact absurd hn (Nat.not_lt_zero _)
      | succ n ih90 =>
        intro h hh hn90 H locs ls hw hl
        refine lv_iload_n hC.1 hC.2.1 dX7_restore_90 rfl (lv_at hl 3 rfl) ?_
        refine lv_bipush (v := nI 10) hC.1 hC.2.1 dX7_restore_91 (by decide) ?_
        refine q_cmpge hC 125 (cNle (by omega) (by omega)) dX7_restore_93 (by decide) (fun (c4 : 10 ≤ h) => ?_) (fun (c4 : h < 10) => ?_)
        · have hh9 : h = 10 := by omega
          rw [hh9] at hw
          refine lv_iinc (v := nI (3 + 3 + 10)) (lv' := [(2, .int (nI (3 + 3 + 10))), (0, .ref (a 68)), (1, .ref (a 32)), (3, .int (nI h))]) hC.1 hC.2.1 dX7_restore_125 hl (k := 2) rfl (nI_add _ _) (by decide) rfl (fun ls hl => ?_)
          refine lv_aload_n hC.1 hC.2.1 dX7_restore_128 rfl (lv_at hl 2 rfl) ?_
          refine lv_iload_n hC.1 hC.2.1 dX7_restore_129 rfl (lv_at hl 0 rfl) ?_
          refine lv_aload_n hC.1 hC.2.1 dX7_restore_130 rfl (lv_at hl 1 rfl) ?_
          refine gf_X7_20 hC hw dX7_restore_131 ?_
          refine gf_X7_53 hC hw dX7_restore_134 ?_
          refine lv_iconst (v := nI 0) hC.1 hC.2.1 dX7_restore_137 (by decide) ?_
          refine lv_bipush (v := nI 24) hC.1 hC.2.1 dX7_restore_138 (by decide) ?_
          refine q_cpy (sp := (3 + 3 + 10)) (dp := 0) (n := 24) 42 rfl 21 rfl (XW_s11 _) hC hw hl (by omega) (by omega) (by decide) (by decide) ⟨Nat.le_of_ble_eq_true rfl, Nat.le_of_ble_eq_true rfl⟩ wk2_183 dX7_restore_140 (fun H locs hw => ?_)
          have hw : Wst E (XW E a) (sr (sr (sr (sr σ 4 (upr (σ 32) 10 (σ 4))) 15 (va_cpy (σ 32) (σ 15) 3 0 3)) 0 (upd (upd (upd (upd (upd (σ 0) 0 (σ 32 0)) 1 (σ 32 1)) 2 (σ 32 2)) 3 (nI (if 3 ≠ 0 then (3 - 1) else 29))) 4 (nI (kp - 1)))) 11 (va_cpy (σ 32) (σ 11) (3 + 3 + 10) 0 24)) A s.heap H locs := hw
          have hst_ : sr (sr (sr (sr σ 4 (upr (σ 32) 10 (σ 4))) 15 (va_cpy (σ 32) (σ 15) 3 0 3)) 0 (upd (upd (upd (upd (upd (σ 0) 0 (σ 32 0)) 1 (σ 32 1)) 2 (σ 32 2)) 3 (nI (if 3 ≠ 0 then (3 - 1) else 29))) 4 (nI (kp - 1)))) 11 (va_cpy (σ 32) (σ 11) (3 + 3 + 10) 0 24) = sr (sr (sr (sr σ 4 (upr (σ 32) 10 (σ 4))) 11 (va_cpy (σ 32) (σ 11) (3 + 3 + 10) 0 24)) 15 (va_cpy (σ 32) (σ 15) 3 0 3)) 0 (upd (upd (upd (upd (upd (σ 0) 0 (σ 32 0)) 1 (σ 32 1)) 2 (σ 32 2)) 3 (nI (if 3 ≠ 0 then (3 - 1) else 29))) 4 (nI (kp - 1))) := by
            funext j_ x_
            by_cases e0 : j_ = 0
            · subst e0
              by_cases y0 : x_ = 0
              · subst y0; rfl
              · by_cases y1 : x_ = 1
                · subst y1; rfl
                · by_cases y2 : x_ = 2
                  · subst y2; rfl
                  · by_cases y3 : x_ = 3
                    · subst y3; rfl
                    · by_cases y4 : x_ = 4
                      · subst y4; rfl
                      · simp [sr, upd, y0, y1, y2, y3, y4]
            · by_cases e4 : j_ = 4
              · subst e4; rfl
              · by_cases e11 : j_ = 11
                · subst e11; rfl
                · by_cases e15 : j_ = 15
                  · subst e15; rfl
                  · simp only [sr, e0, e4, e11, e15, if_false]
          rw [hst_] at hw
          refine lv_aload_n hC.1 hC.2.1 dX7_restore_143 rfl (lv_at hl 2 rfl) ?_
          refine lv_iload_n hC.1 hC.2.1 dX7_restore_144 rfl (lv_at hl 0 rfl) ?_
          refine lv_bipush (v := nI 24) hC.1 hC.2.1 dX7_restore_145 (by decide) ?_
          refine q_addN hC dX7_restore_147 ?_
          refine lv_aload_n hC.1 hC.2.1 dX7_restore_148 rfl (lv_at hl 1 rfl) ?_
          refine gf_X7_20 hC hw dX7_restore_149 ?_
          refine gf_X7_56 hC hw dX7_restore_152 ?_
          refine lv_iconst (v := nI 0) hC.1 hC.2.1 dX7_restore_155 (by decide) ?_
          refine lv_bipush (v := nI 24) hC.1 hC.2.1 dX7_restore_156 (by decide) ?_
          refine q_cpy (sp := ((3 + 3 + 10) + 24)) (dp := 0) (n := 24) 42 rfl 22 rfl (XW_s12 _) hC hw hl (by omega) (by omega) (by decide) (by decide) ⟨Nat.le_of_ble_eq_true rfl, Nat.le_of_ble_eq_true rfl⟩ wk2_183 dX7_restore_158 (fun H locs hw => ?_)
          have hw : Wst E (XW E a) (sr (sr (sr (sr (sr σ 4 (upr (σ 32) 10 (σ 4))) 11 (va_cpy (σ 32) (σ 11) (3 + 3 + 10) 0 24)) 15 (va_cpy (σ 32) (σ 15) 3 0 3)) 0 (upd (upd (upd (upd (upd (σ 0) 0 (σ 32 0)) 1 (σ 32 1)) 2 (σ 32 2)) 3 (nI (if 3 ≠ 0 then (3 - 1) else 29))) 4 (nI (kp - 1)))) 12 (va_cpy (σ 32) (σ 12) ((3 + 3 + 10) + 24) 0 24)) A s.heap H locs := hw
          have hst_ : sr (sr (sr (sr (sr σ 4 (upr (σ 32) 10 (σ 4))) 11 (va_cpy (σ 32) (σ 11) (3 + 3 + 10) 0 24)) 15 (va_cpy (σ 32) (σ 15) 3 0 3)) 0 (upd (upd (upd (upd (upd (σ 0) 0 (σ 32 0)) 1 (σ 32 1)) 2 (σ 32 2)) 3 (nI (if 3 ≠ 0 then (3 - 1) else 29))) 4 (nI (kp - 1)))) 12 (va_cpy (σ 32) (σ 12) ((3 + 3 + 10) + 24) 0 24) = sr (sr (sr (sr (sr σ 4 (upr (σ 32) 10 (σ 4))) 11 (va_cpy (σ 32) (σ 11) (3 + 3 + 10) 0 24)) 12 (va_cpy (σ 32) (σ 12) ((3 + 3 + 10) + 24) 0 24)) 15 (va_cpy (σ 32) (σ 15) 3 0 3)) 0 (upd (upd (upd (upd (upd (σ 0) 0 (σ 32 0)) 1 (σ 32 1)) 2 (σ 32 2)) 3 (nI (if 3 ≠ 0 then (3 - 1) else 29))) 4 (nI (kp - 1))) := by
            funext j_ x_
            by_cases e0 : j_ = 0
            · subst e0
              by_cases y0 : x_ = 0
              · subst y0; rfl
              · by_cases y1 : x_ = 1
                · subst y1; rfl
                · by_cases y2 : x_ = 2
                  · subst y2; rfl
                  · by_cases y3 : x_ = 3
                    · subst y3; rfl
                    · by_cases y4 : x_ = 4
                      · subst y4; rfl
                      · simp [sr, upd, y0, y1, y2, y3, y4]
            · by_cases e4 : j_ = 4
              · subst e4; rfl
              · by_cases e11 : j_ = 11
                · subst e11; rfl
                · by_cases e12 : j_ = 12
                  · subst e12; rfl
                  · by_cases e15 : j_ = 15
                    · subst e15; rfl
                    · simp only [sr, e0, e4, e11, e12, e15, if_false]
          rw [hst_] at hw
          refine lv_aload_n hC.1 hC.2.1 dX7_restore_161 rfl (lv_at hl 2 rfl) ?_
          refine lv_iload_n hC.1 hC.2.1 dX7_restore_162 rfl (lv_at hl 0 rfl) ?_
          refine lv_bipush (v := nI 48) hC.1 hC.2.1 dX7_restore_163 (by decide) ?_
          refine q_addN hC dX7_restore_165 ?_
          refine lv_aload_n hC.1 hC.2.1 dX7_restore_166 rfl (lv_at hl 1 rfl) ?_
          refine gf_X7_20 hC hw dX7_restore_167 ?_
          refine gf_X7_59 hC hw dX7_restore_170 ?_
          refine lv_iconst (v := nI 0) hC.1 hC.2.1 dX7_restore_173 (by decide) ?_
          refine lv_bipush (v := nI 24) hC.1 hC.2.1 dX7_restore_174 (by decide) ?_
          refine q_cpy (sp := ((3 + 3 + 10) + 48)) (dp := 0) (n := 24) 42 rfl 23 rfl (XW_s13 _) hC hw hl (by omega) (by omega) (by decide) (by decide) ⟨Nat.le_of_ble_eq_true rfl, Nat.le_of_ble_eq_true rfl⟩ wk2_183 dX7_restore_176 (fun H locs hw => ?_)
          have hw : Wst E (XW E a) (sr (sr (sr (sr (sr (sr σ 4 (upr (σ 32) 10 (σ 4))) 11 (va_cpy (σ 32) (σ 11) (3 + 3 + 10) 0 24)) 12 (va_cpy (σ 32) (σ 12) ((3 + 3 + 10) + 24) 0 24)) 15 (va_cpy (σ 32) (σ 15) 3 0 3)) 0 (upd (upd (upd (upd (upd (σ 0) 0 (σ 32 0)) 1 (σ 32 1)) 2 (σ 32 2)) 3 (nI (if 3 ≠ 0 then (3 - 1) else 29))) 4 (nI (kp - 1)))) 13 (va_cpy (σ 32) (σ 13) ((3 + 3 + 10) + 48) 0 24)) A s.heap H locs := hw
          have hst_ : sr (sr (sr (sr (sr (sr σ 4 (upr (σ 32) 10 (σ 4))) 11 (va_cpy (σ 32) (σ 11) (3 + 3 + 10) 0 24)) 12 (va_cpy (σ 32) (σ 12) ((3 + 3 + 10) + 24) 0 24)) 15 (va_cpy (σ 32) (σ 15) 3 0 3)) 0 (upd (upd (upd (upd (upd (σ 0) 0 (σ 32 0)) 1 (σ 32 1)) 2 (σ 32 2)) 3 (nI (if 3 ≠ 0 then (3 - 1) else 29))) 4 (nI (kp - 1)))) 13 (va_cpy (σ 32) (σ 13) ((3 + 3 + 10) + 48) 0 24) = sr (sr (sr (sr (sr (sr σ 4 (upr (σ 32) 10 (σ 4))) 11 (va_cpy (σ 32) (σ 11) (3 + 3 + 10) 0 24)) 12 (va_cpy (σ 32) (σ 12) ((3 + 3 + 10) + 24) 0 24)) 13 (va_cpy (σ 32) (σ 13) ((3 + 3 + 10) + 48) 0 24)) 15 (va_cpy (σ 32) (σ 15) 3 0 3)) 0 (upd (upd (upd (upd (upd (σ 0) 0 (σ 32 0)) 1 (σ 32 1)) 2 (σ 32 2)) 3 (nI (if 3 ≠ 0 then (3 - 1) else 29))) 4 (nI (kp - 1))) := by
            funext j_ x_
            by_cases e0 : j_ = 0
            · subst e0
              by_cases y0 : x_ = 0
              · subst y0; rfl
              · by_cases y1 : x_ = 1
                · subst y1; rfl
                · by_cases y2 : x_ = 2
                  · subst y2; rfl
                  · by_cases y3 : x_ = 3
                    · subst y3; rfl
                    · by_cases y4 : x_ = 4
                      · subst y4; rfl
                      · simp [sr, upd, y0, y1, y2, y3, y4]
            · by_cases e4 : j_ = 4
              · subst e4; rfl
              · by_cases e11 : j_ = 11
                · subst e11; rfl
                · by_cases e12 : j_ = 12
                  · subst e12; rfl
                  · by_cases e13 : j_ = 13
                    · subst e13; rfl
                    · by_cases e15 : j_ = 15
                      · subst e15; rfl
                      · simp only [sr, e0, e4, e11, e12, e13, e15, if_false]
          rw [hst_] at hw
          refine lv_aload_n hC.1 hC.2.1 dX7_restore_179 rfl (lv_at hl 2 rfl) ?_
          refine lv_iload_n hC.1 hC.2.1 dX7_restore_180 rfl (lv_at hl 0 rfl) ?_
          refine lv_bipush (v := nI 72) hC.1 hC.2.1 dX7_restore_181 (by decide) ?_
          refine q_addN hC dX7_restore_183 ?_
          refine lv_aload_n hC.1 hC.2.1 dX7_restore_184 rfl (lv_at hl 1 rfl) ?_
          refine gf_X7_20 hC hw dX7_restore_185 ?_
          refine gf_X7_62 hC hw dX7_restore_188 ?_
          refine lv_iconst (v := nI 0) hC.1 hC.2.1 dX7_restore_191 (by decide) ?_
          refine lv_bipush (v := nI 24) hC.1 hC.2.1 dX7_restore_192 (by decide) ?_
          refine q_cpy (sp := ((3 + 3 + 10) + 72)) (dp := 0) (n := 24) 42 rfl 24 rfl (XW_s14 _) hC hw hl (by omega) (by omega) (by decide) (by decide) ⟨Nat.le_of_ble_eq_true rfl, Nat.le_of_ble_eq_true rfl⟩ wk2_183 dX7_restore_194 (fun H locs hw => ?_)
          have hw : Wst E (XW E a) (sr (sr (sr (sr (sr (sr (sr σ 4 (upr (σ 32) 10 (σ 4))) 11 (va_cpy (σ 32) (σ 11) (3 + 3 + 10) 0 24)) 12 (va_cpy (σ 32) (σ 12) ((3 + 3 + 10) + 24) 0 24)) 13 (va_cpy (σ 32) (σ 13) ((3 + 3 + 10) + 48) 0 24)) 15 (va_cpy (σ 32) (σ 15) 3 0 3)) 0 (upd (upd (upd (upd (upd (σ 0) 0 (σ 32 0)) 1 (σ 32 1)) 2 (σ 32 2)) 3 (nI (if 3 ≠ 0 then (3 - 1) else 29))) 4 (nI (kp - 1)))) 14 (va_cpy (σ 32) (σ 14) ((3 + 3 + 10) + 72) 0 24)) A s.heap H locs := hw
          have hst_ : sr (sr (sr (sr (sr (sr (sr σ 4 (upr (σ 32) 10 (σ 4))) 11 (va_cpy (σ 32) (σ 11) (3 + 3 + 10) 0 24)) 12 (va_cpy (σ 32) (σ 12) ((3 + 3 + 10) + 24) 0 24)) 13 (va_cpy (σ 32) (σ 13) ((3 + 3 + 10) + 48) 0 24)) 15 (va_cpy (σ 32) (σ 15) 3 0 3)) 0 (upd (upd (upd (upd (upd (σ 0) 0 (σ 32 0)) 1 (σ 32 1)) 2 (σ 32 2)) 3 (nI (if 3 ≠ 0 then (3 - 1) else 29))) 4 (nI (kp - 1)))) 14 (va_cpy (σ 32) (σ 14) ((3 + 3 + 10) + 72) 0 24) = sr (sr (sr (sr (sr (sr (sr σ 4 (upr (σ 32) 10 (σ 4))) 11 (va_cpy (σ 32) (σ 11) (3 + 3 + 10) 0 24)) 12 (va_cpy (σ 32) (σ 12) ((3 + 3 + 10) + 24) 0 24)) 13 (va_cpy (σ 32) (σ 13) ((3 + 3 + 10) + 48) 0 24)) 14 (va_cpy (σ 32) (σ 14) ((3 + 3 + 10) + 72) 0 24)) 15 (va_cpy (σ 32) (σ 15) 3 0 3)) 0 (upd (upd (upd (upd (upd (σ 0) 0 (σ 32 0)) 1 (σ 32 1)) 2 (σ 32 2)) 3 (nI (if 3 ≠ 0 then (3 - 1) else 29))) 4 (nI (kp - 1))) := by
            funext j_ x_
            by_cases e0 : j_ = 0
            · subst e0
              by_cases y0 : x_ = 0
              · subst y0; rfl
              · by_cases y1 : x_ = 1
                · subst y1; rfl
                · by_cases y2 : x_ = 2
                  · subst y2; rfl
                  · by_cases y3 : x_ = 3
                    · subst y3; rfl
                    · by_cases y4 : x_ = 4
                      · subst y4; rfl
                      · simp [sr, upd, y0, y1, y2, y3, y4]
            · by_cases e4 : j_ = 4
              · subst e4; rfl
              · by_cases e11 : j_ = 11
                · subst e11; rfl
                · by_cases e12 : j_ = 12
                  · subst e12; rfl
                  · by_cases e13 : j_ = 13
                    · subst e13; rfl
                    · by_cases e14 : j_ = 14
                      · subst e14; rfl
                      · by_cases e15 : j_ = 15
                        · subst e15; rfl
                        · simp only [sr, e0, e4, e11, e12, e13, e14, e15, if_false]
          rw [hst_] at hw
          refine hret _ _ _ _ _ hw ?_ dX7_restore_197
          exact rfl
        · refine lv_aload_n hC.1 hC.2.1 dX7_restore_96 rfl (lv_at hl 0 rfl) ?_
          refine gf_X7_16 hC hw dX7_restore_97 ?_
          refine gf_X7_49 hC hw dX7_restore_100 ?_
          refine lv_iload_n hC.1 hC.2.1 dX7_restore_103 rfl (lv_at hl 3 rfl) ?_
          refine lv_aload_n hC.1 hC.2.1 dX7_restore_104 rfl (lv_at hl 1 rfl) ?_
          refine lv_iload_n hC.1 hC.2.1 dX7_restore_105 rfl (lv_at hl 2 rfl) ?_
          refine lv_iload_n hC.1 hC.2.1 dX7_restore_106 rfl (lv_at hl 3 rfl) ?_
          refine q_addN hC dX7_restore_107 ?_
          refine q_ald (Wf := XW E a) (v := σ 32 ((3 + 3) + h)) 42 rfl (by decide) hC hw (by omega) rfl dX7_restore_108 ?_
          refine lv_iconst (v := nI 1) hC.1 hC.2.1 dX7_restore_109 (by decide) ?_
          have J118_6 : ∀ (w5 : Int32), w5 = (if (σ 32 ((3 + 3) + h)) = 1 then (1 : Int32) else 0) → ∀ (H : Heap) (locs : List Loc) (ls : Array Slot), Wst E (XW E a) (sr (sr (sr σ 4 (upr (σ 32) h (σ 4))) 15 (va_cpy (σ 32) (σ 15) 3 0 3)) 0 (upd (upd (upd (upd (upd (σ 0) 0 (σ 32 0)) 1 (σ 32 1)) 2 (σ 32 2)) 3 (nI (if 3 ≠ 0 then (3 - 1) else 29))) 4 (nI (kp - 1)))) A s.heap H locs → lv_has ls 4 [(0, .ref (a 68)), (1, .ref (a 32)), (2, .int (nI (3 + 3))), (3, .int (nI h))] → W p l e ({ frames := 1, cells := 0, slots := 0, locals := 24 }) s m args below meth c H locs 0 0 Q (F0 m 118 ls [.int (w5), .int (nI h), .ref (a 4)]) := by
            intro w5 e6 H locs ls hw hl
            subst e6
            refine as_X4 hC hw (by omega) vz_B dX7_restore_118 (fun H locs hw => ?_)
            have hw : Wst E (XW E a) (sr (sr (sr (sr σ 4 (upr (σ 32) h (σ 4))) 15 (va_cpy (σ 32) (σ 15) 3 0 3)) 0 (upd (upd (upd (upd (upd (σ 0) 0 (σ 32 0)) 1 (σ 32 1)) 2 (σ 32 2)) 3 (nI (if 3 ≠ 0 then (3 - 1) else 29))) 4 (nI (kp - 1)))) 4 (upd (upr (σ 32) h (σ 4)) h (if (σ 32 ((3 + 3) + h)) = 1 then (1 : Int32) else 0))) A s.heap H locs := hw
            have hst_ : sr (sr (sr (sr σ 4 (upr (σ 32) h (σ 4))) 15 (va_cpy (σ 32) (σ 15) 3 0 3)) 0 (upd (upd (upd (upd (upd (σ 0) 0 (σ 32 0)) 1 (σ 32 1)) 2 (σ 32 2)) 3 (nI (if 3 ≠ 0 then (3 - 1) else 29))) 4 (nI (kp - 1)))) 4 (upd (upr (σ 32) h (σ 4)) h (if (σ 32 ((3 + 3) + h)) = 1 then (1 : Int32) else 0)) = sr (sr (sr σ 4 (upd (upr (σ 32) h (σ 4)) h (if (σ 32 ((3 + 3) + h)) = 1 then (1 : Int32) else 0))) 15 (va_cpy (σ 32) (σ 15) 3 0 3)) 0 (upd (upd (upd (upd (upd (σ 0) 0 (σ 32 0)) 1 (σ 32 1)) 2 (σ 32 2)) 3 (nI (if 3 ≠ 0 then (3 - 1) else 29))) 4 (nI (kp - 1))) := by
              funext j_ x_
              by_cases e0 : j_ = 0
              · subst e0
                by_cases y0 : x_ = 0
                · subst y0; rfl
                · by_cases y1 : x_ = 1
                  · subst y1; rfl
                  · by_cases y2 : x_ = 2
                    · subst y2; rfl
                    · by_cases y3 : x_ = 3
                      · subst y3; rfl
                      · by_cases y4 : x_ = 4
                        · subst y4; rfl
                        · simp [sr, upd, y0, y1, y2, y3, y4]
              · by_cases e4 : j_ = 4
                · subst e4; rfl
                · by_cases e15 : j_ = 15
                  · subst e15; rfl
                  · simp only [sr, e0, e4, e15, if_false]
            rw [hst_] at hw
            refine lv_iinc (v := nI (h + 1)) (lv' := [(3, .int (nI (h + 1))), (0, .ref (a 68)), (1, .ref (a 32)), (2, .int (nI (3 + 3)))]) hC.1 hC.2.1 dX7_restore_119 hl (k := 3) rfl (nI_add _ _) (by decide) rfl (fun ls hl => ?_)
            refine lv_goto (tgt := 90) hC.1 hC.2.1 dX7_restore_122 (by decide) ?_
            rw [upr_s] at hw
            exact ih90 (h + 1) (by omega) (by omega) _ _ _ hw (lv_sub hl [1, 2, 3, 0] rfl)
          refine q_cmpne hC 117 cI dX7_restore_110 (by decide) (fun (c7 : ¬ ((σ 32 ((3 + 3) + h)) = 1)) => ?_) (fun (c7 : (σ 32 ((3 + 3) + h)) = 1) => ?_)
          · refine lv_iconst (v := nI 0) hC.1 hC.2.1 dX7_restore_117 (by decide) ?_
            exact J118_6 _ (if_neg c7).symm _ _ _ hw (lv_sub hl [0, 1, 2, 3] rfl)
          · refine lv_iconst (v := nI 1) hC.1 hC.2.1 dX7_restore_113 (by decide) ?_
            refine lv_goto (tgt := 118) hC.1 hC.2.1 dX7_restore_114 (by decide) ?_
            exact J118_6 _ (if_pos c7).symm _ _ _ hw (lv_sub hl [0, 1, 2, 3] rfl)
    have hst_ : sr (sr σ 15 (va_cpy (σ 32) (σ 15) 3 0 3)) 0 (upd (upd (upd (upd (upd (σ 0) 0 (σ 32 0)) 1 (σ 32 1)) 2 (σ 32 2)) 3 (nI (if 3 ≠ 0 then (3 - 1) else 29))) 4 (nI (kp - 1))) = sr (sr (sr σ 4 (upr (σ 32) 0 (σ 4))) 15 (va_cpy (σ 32) (σ 15) 3 0 3)) 0 (upd (upd (upd (upd (upd (σ 0) 0 (σ 32 0)) 1 (σ 32 1)) 2 (σ 32 2)) 3 (nI (if 3 ≠ 0 then (3 - 1) else 29))) 4 (nI (kp - 1))) := by
      funext j_ x_
      by_cases e0 : j_ = 0
      · subst e0
        by_cases y0 : x_ = 0
        · subst y0; rfl
        · by_cases y1 : x_ = 1
          · subst y1; rfl
          · by_cases y2 : x_ = 2
            · subst y2; rfl
            · by_cases y3 : x_ = 3
              · subst y3; rfl
              · by_cases y4 : x_ = 4
                · subst y4; rfl
                · simp [sr, upd, y0, y1, y2, y3, y4]
      · by_cases e4 : j_ = 4
        · subst e4; show σ 4 x_ = upr (σ 32) 0 (σ 4) x_; rw [upr_0]
        · by_cases e15 : j_ = 15
          · subst e15; rfl
          · simp only [sr, e0, e4, e15, if_false]
    rw [hst_] at hw
    exact L90_2 _ 0 (by omega) (Nat.lt_succ_self _) _ _ _ hw (lv_sub hl [3, 2, 1, 0] rfl)
  refine q_ifne hC 13 (cN0 (by omega)) dX7_restore_5 (by decide) (fun (c8 : 3 ≠ 0) => ?_) (fun (c8 : 3 = 0) => ?_)
  · refine lv_aload_n hC.1 hC.2.1 dX7_restore_13 rfl (lv_at hl 0 rfl) ?_
    refine gf_X7_28 (v := nI 3) hC hw hnx dX7_restore_14 ?_
    refine lv_iconst (v := nI 1) hC.1 hC.2.1 dX7_restore_17 (by decide) ?_
    refine q_subN hC (by omega) dX7_restore_18 ?_
    exact J19_2 _ (by (rw [if_pos c8]) <;> rfl) _ _ _ hw (lv_sub hl [0] rfl)
  · refine lv_bipush (v := nI 29) hC.1 hC.2.1 dX7_restore_8 (by decide) ?_
    refine lv_goto (tgt := 19) hC.1 hC.2.1 dX7_restore_10 (by decide) ?_
    exact J19_2 _ (by (rw [if_neg (fun q => q c8)]) <;> rfl) _ _ _ hw (lv_sub hl [0] rfl)
set_option maxHeartbeats 4000000 in
set_option maxRecDepth 100000 in
theorem tX7_restore_k0 (l : Launch) (E : EV) (a : Nat → Nat) (σ : St) (kp : Nat) (hnx : σ 0 3 = nI 0) (hkp : σ 0 4 = nI kp) (hk30 : kp ≤ 30) (hk1 : 1 ≤ kp) : MV l E (XW E a) yX7_restore (Cond.code yX7_restore cX7_restore 4 none) ({ frames := 1, cells := 0, slots := 0, locals := 24 }) [.ref (a 68)] σ (fun u_ => u_ = sr (sr (sr (sr (sr (sr (sr σ 4 (upr (σ 59) 10 (σ 4))) 11 (va_cpy (σ 59) (σ 11) 16 0 24)) 12 (va_cpy (σ 59) (σ 12) 40 0 24)) 13 (va_cpy (σ 59) (σ 13) 64 0 24)) 14 (va_cpy (σ 59) (σ 14) 88 0 24)) 15 (va_cpy (σ 59) (σ 15) 3 0 3)) 0 (upd (upd (upd (upd (upd (σ 0) 0 ((σ 59) 0)) 1 ((σ 59) 1)) 2 ((σ 59) 2)) 3 (nI (if 0 ≠ 0 then 0 - 1 else 29))) 4 (nI (kp - 1)))) := by
  refine MV.mk (by decide +kernel) (Nat.le_of_ble_eq_true rfl) ?_
  intro p e s m args below meth c ls A Q hret hC hw hl
  have hC : Cxt E p s m args meth c cX7_restore 4 none RX7 A := hC
  have hl : lv_has ls 4 [(0, .ref (a 68))] := hl
  refine lv_aload_n hC.1 hC.2.1 dX7_restore_0 rfl (lv_at hl 0 rfl) ?_
  refine lv_aload_n hC.1 hC.2.1 dX7_restore_1 rfl (lv_at hl 0 rfl) ?_
  refine gf_X7_28 (v := nI 0) hC hw hnx dX7_restore_2 ?_
  have J19_2 : ∀ (w1 : Nat), w1 = (if 0 ≠ 0 then (0 - 1) else 29) → ∀ (H : Heap) (locs : List Loc) (ls : Array Slot), Wst E (XW E a) (σ) A s.heap H locs → lv_has ls 4 [(0, .ref (a 68))] → W p l e ({ frames := 1, cells := 0, slots := 0, locals := 24 }) s m args below meth c H locs 0 0 Q (F0 m 19 ls [.int (nI w1), .ref (a 68)]) := by
    intro w1 e2 H locs ls hw hl
    subst e2
    refine pf_X7_28 hC hw dX7_restore_19 (fun H locs hw => ?_)
    have hw : Wst E (XW E a) (sr σ 0 (upd (σ 0) 3 (nI (if 0 ≠ 0 then (0 - 1) else 29)))) A s.heap H locs := hw
    refine lv_aload_n hC.1 hC.2.1 dX7_restore_22 rfl (lv_at hl 0 rfl) ?_
    refine lv_dup hC.1 hC.2.1 dX7_restore_23 rfl ?_
    refine gf_X7_65 (v := nI kp) hC hw hkp dX7_restore_24 ?_
    refine lv_iconst (v := nI 1) hC.1 hC.2.1 dX7_restore_27 (by decide) ?_
    refine q_subN hC (by omega) dX7_restore_28 ?_
    refine pf_X7_65 hC hw dX7_restore_29 (fun H locs hw => ?_)
    have hw : Wst E (XW E a) (sr (sr σ 0 (upd (σ 0) 3 (nI (if 0 ≠ 0 then (0 - 1) else 29)))) 0 (upd (upd (σ 0) 3 (nI (if 0 ≠ 0 then (0 - 1) else 29))) 4 (nI (kp - 1)))) A s.heap H locs := hw
    have hst_ : sr (sr σ 0 (upd (σ 0) 3 (nI (if 0 ≠ 0 then (0 - 1) else 29)))) 0 (upd (upd (σ 0) 3 (nI (if 0 ≠ 0 then (0 - 1) else 29))) 4 (nI (kp - 1))) = sr σ 0 (upd (upd (σ 0) 3 (nI (if 0 ≠ 0 then (0 - 1) else 29))) 4 (nI (kp - 1))) := by
      funext j_ x_
      by_cases e0 : j_ = 0
      · subst e0
        by_cases y3 : x_ = 3
        · subst y3; rfl
        · by_cases y4 : x_ = 4
          · subst y4; rfl
          · simp [sr, upd, y3, y4]
      · simp only [sr, e0, if_false]
    rw [hst_] at hw
    refine lv_aload_n hC.1 hC.2.1 dX7_restore_32 rfl (lv_at hl 0 rfl) ?_
    refine gf_X7_13 hC hw dX7_restore_33 ?_
    refine lv_aload_n hC.1 hC.2.1 dX7_restore_36 rfl (lv_at hl 0 rfl) ?_
    refine gf_X7_28 (v := nI (if 0 ≠ 0 then (0 - 1) else 29)) hC hw rfl dX7_restore_37 ?_
    refine q_top (y := nI 29) rfl ?_
    refine q_aald hC hw (i := 29) (by decide) dX7_restore_40 ?_
    refine lv_astore_n (lv' := [(1, .ref (a 59)), (0, .ref (a 68))]) hC.1 hC.2.1 dX7_restore_41 rfl hl (by decide) rfl (fun ls hl => ?_)
    refine lv_aload_n hC.1 hC.2.1 dX7_restore_42 rfl (lv_at hl 1 rfl) ?_
    refine gf_X7_16 hC hw dX7_restore_43 ?_
    refine lv_aload_n hC.1 hC.2.1 dX7_restore_46 rfl (lv_at hl 0 rfl) ?_
    refine lv_iconst (v := nI 0) hC.1 hC.2.1 dX7_restore_47 (by decide) ?_
    refine q_ald (Wf := XW E a) (v := σ 59 0) 69 rfl (by decide) hC hw (by omega) rfl dX7_restore_48 ?_
    refine pf_X7_32 hC hw dX7_restore_49 (fun H locs hw => ?_)
    have hw : Wst E (XW E a) (sr (sr σ 0 (upd (upd (σ 0) 3 (nI (if 0 ≠ 0 then (0 - 1) else 29))) 4 (nI (kp - 1)))) 0 (upd (upd (upd (σ 0) 3 (nI (if 0 ≠ 0 then (0 - 1) else 29))) 4 (nI (kp - 1))) 0 (σ 59 0))) A s.heap H locs := hw
    have hst_ : sr (sr σ 0 (upd (upd (σ 0) 3 (nI (if 0 ≠ 0 then (0 - 1) else 29))) 4 (nI (kp - 1)))) 0 (upd (upd (upd (σ 0) 3 (nI (if 0 ≠ 0 then (0 - 1) else 29))) 4 (nI (kp - 1))) 0 (σ 59 0)) = sr σ 0 (upd (upd (upd (σ 0) 0 (σ 59 0)) 3 (nI (if 0 ≠ 0 then (0 - 1) else 29))) 4 (nI (kp - 1))) := by
      funext j_ x_
      by_cases e0 : j_ = 0
      · subst e0
        by_cases y0 : x_ = 0
        · subst y0; rfl
        · by_cases y3 : x_ = 3
          · subst y3; rfl
          · by_cases y4 : x_ = 4
            · subst y4; rfl
            · simp [sr, upd, y0, y3, y4]
      · simp only [sr, e0, if_false]
    rw [hst_] at hw
    refine lv_aload_n hC.1 hC.2.1 dX7_restore_52 rfl (lv_at hl 1 rfl) ?_
    refine gf_X7_20 hC hw dX7_restore_53 ?_
    refine lv_aload_n hC.1 hC.2.1 dX7_restore_56 rfl (lv_at hl 0 rfl) ?_
    refine lv_iconst (v := nI 1) hC.1 hC.2.1 dX7_restore_57 (by decide) ?_
    refine q_ald (Wf := XW E a) (v := σ 59 1) 69 rfl (by decide) hC hw (by omega) rfl dX7_restore_58 ?_
    refine pf_X7_37 hC hw dX7_restore_59 (fun H locs hw => ?_)
    have hw : Wst E (XW E a) (sr (sr σ 0 (upd (upd (upd (σ 0) 0 (σ 59 0)) 3 (nI (if 0 ≠ 0 then (0 - 1) else 29))) 4 (nI (kp - 1)))) 0 (upd (upd (upd (upd (σ 0) 0 (σ 59 0)) 3 (nI (if 0 ≠ 0 then (0 - 1) else 29))) 4 (nI (kp - 1))) 1 (σ 59 1))) A s.heap H locs := hw
    have hst_ : sr (sr σ 0 (upd (upd (upd (σ 0) 0 (σ 59 0)) 3 (nI (if 0 ≠ 0 then (0 - 1) else 29))) 4 (nI (kp - 1)))) 0 (upd (upd (upd (upd (σ 0) 0 (σ 59 0)) 3 (nI (if 0 ≠ 0 then (0 - 1) else 29))) 4 (nI (kp - 1))) 1 (σ 59 1)) = sr σ 0 (upd (upd (upd (upd (σ 0) 0 (σ 59 0)) 1 (σ 59 1)) 3 (nI (if 0 ≠ 0 then (0 - 1) else 29))) 4 (nI (kp - 1))) := by
      funext j_ x_
      by_cases e0 : j_ = 0
      · subst e0
        by_cases y0 : x_ = 0
        · subst y0; rfl
        · by_cases y1 : x_ = 1
          · subst y1; rfl
          · by_cases y3 : x_ = 3
            · subst y3; rfl
            · by_cases y4 : x_ = 4
              · subst y4; rfl
              · simp [sr, upd, y0, y1, y3, y4]
      · simp only [sr, e0, if_false]
    rw [hst_] at hw
    refine lv_aload_n hC.1 hC.2.1 dX7_restore_62 rfl (lv_at hl 1 rfl) ?_
    refine gf_X7_20 hC hw dX7_restore_63 ?_
    refine lv_aload_n hC.1 hC.2.1 dX7_restore_66 rfl (lv_at hl 0 rfl) ?_
    refine lv_iconst (v := nI 2) hC.1 hC.2.1 dX7_restore_67 (by decide) ?_
    refine q_ald (Wf := XW E a) (v := σ 59 2) 69 rfl (by decide) hC hw (by omega) rfl dX7_restore_68 ?_
    refine pf_X7_40 hC hw dX7_restore_69 (fun H locs hw => ?_)
    have hw : Wst E (XW E a) (sr (sr σ 0 (upd (upd (upd (upd (σ 0) 0 (σ 59 0)) 1 (σ 59 1)) 3 (nI (if 0 ≠ 0 then (0 - 1) else 29))) 4 (nI (kp - 1)))) 0 (upd (upd (upd (upd (upd (σ 0) 0 (σ 59 0)) 1 (σ 59 1)) 3 (nI (if 0 ≠ 0 then (0 - 1) else 29))) 4 (nI (kp - 1))) 2 (σ 59 2))) A s.heap H locs := hw
    have hst_ : sr (sr σ 0 (upd (upd (upd (upd (σ 0) 0 (σ 59 0)) 1 (σ 59 1)) 3 (nI (if 0 ≠ 0 then (0 - 1) else 29))) 4 (nI (kp - 1)))) 0 (upd (upd (upd (upd (upd (σ 0) 0 (σ 59 0)) 1 (σ 59 1)) 3 (nI (if 0 ≠ 0 then (0 - 1) else 29))) 4 (nI (kp - 1))) 2 (σ 59 2)) = sr σ 0 (upd (upd (upd (upd (upd (σ 0) 0 (σ 59 0)) 1 (σ 59 1)) 2 (σ 59 2)) 3 (nI (if 0 ≠ 0 then (0 - 1) else 29))) 4 (nI (kp - 1))) := by
      funext j_ x_
      by_cases e0 : j_ = 0
      · subst e0
        by_cases y0 : x_ = 0
        · subst y0; rfl
        · by_cases y1 : x_ = 1
          · subst y1; rfl
          · by_cases y2 : x_ = 2
            · subst y2; rfl
            · by_cases y3 : x_ = 3
              · subst y3; rfl
              · by_cases y4 : x_ = 4
                · subst y4; rfl
                · simp [sr, upd, y0, y1, y2, y3, y4]
      · simp only [sr, e0, if_false]
    rw [hst_] at hw
    refine lv_iconst (v := nI 3) hC.1 hC.2.1 dX7_restore_72 (by decide) ?_
    refine lv_istore_n (lv' := [(2, .int (nI 3)), (1, .ref (a 59)), (0, .ref (a 68))]) hC.1 hC.2.1 dX7_restore_73 rfl hl (by decide) rfl (fun ls hl => ?_)
    refine lv_aload_n hC.1 hC.2.1 dX7_restore_74 rfl (lv_at hl 1 rfl) ?_
    refine lv_iload_n hC.1 hC.2.1 dX7_restore_75 rfl (lv_at hl 0 rfl) ?_
    refine lv_aload_n hC.1 hC.2.1 dX7_restore_76 rfl (lv_at hl 2 rfl) ?_
    refine gf_X7_24 hC hw dX7_restore_77 ?_
    refine lv_iconst (v := nI 0) hC.1 hC.2.1 dX7_restore_80 (by decide) ?_
    refine lv_iconst (v := nI 3) hC.1 hC.2.1 dX7_restore_81 (by decide) ?_
    refine q_cpy (sp := 3) (dp := 0) (n := 3) 69 rfl 25 rfl (XW_s15 _) hC hw hl (by omega) (by omega) (by decide) (by decide) ⟨Nat.le_of_ble_eq_true rfl, Nat.le_of_ble_eq_true rfl⟩ wk2_183 dX7_restore_82 (fun H locs hw => ?_)
    have hw : Wst E (XW E a) (sr (sr σ 0 (upd (upd (upd (upd (upd (σ 0) 0 (σ 59 0)) 1 (σ 59 1)) 2 (σ 59 2)) 3 (nI (if 0 ≠ 0 then (0 - 1) else 29))) 4 (nI (kp - 1)))) 15 (va_cpy (σ 59) (σ 15) 3 0 3)) A s.heap H locs := hw
    have hst_ : sr (sr σ 0 (upd (upd (upd (upd (upd (σ 0) 0 (σ 59 0)) 1 (σ 59 1)) 2 (σ 59 2)) 3 (nI (if 0 ≠ 0 then (0 - 1) else 29))) 4 (nI (kp - 1)))) 15 (va_cpy (σ 59) (σ 15) 3 0 3) = sr (sr σ 15 (va_cpy (σ 59) (σ 15) 3 0 3)) 0 (upd (upd (upd (upd (upd (σ 0) 0 (σ 59 0)) 1 (σ 59 1)) 2 (σ 59 2)) 3 (nI (if 0 ≠ 0 then (0 - 1) else 29))) 4 (nI (kp - 1))) := by
      funext j_ x_
      by_cases e0 : j_ = 0
      · subst e0
        by_cases y0 : x_ = 0
        · subst y0; rfl
        · by_cases y1 : x_ = 1
          · subst y1; rfl
          · by_cases y2 : x_ = 2
            · subst y2; rfl
            · by_cases y3 : x_ = 3
              · subst y3; rfl
              · by_cases y4 : x_ = 4
                · subst y4; rfl
                · simp [sr, upd, y0, y1, y2, y3, y4]
      · by_cases e15 : j_ = 15
        · subst e15; rfl
        · simp only [sr, e0, e15, if_false]
    rw [hst_] at hw
    refine lv_iinc (v := nI (3 + 3)) (lv' := [(2, .int (nI (3 + 3))), (1, .ref (a 59)), (0, .ref (a 68))]) hC.1 hC.2.1 dX7_restore_85 hl (k := 0) rfl (nI_add _ _) (by decide) rfl (fun ls hl => ?_)
    refine lv_iconst (v := nI 0) hC.1 hC.2.1 dX7_restore_88 (by decide) ?_
    refine lv_istore_n (lv' := [(3, .int (nI 0)), (2, .int (nI (3 + 3))), (1, .ref (a 59)), (0, .ref (a 68))]) hC.1 hC.2.1 dX7_restore_89 rfl hl (by decide) rfl (fun ls hl => ?_)
    have L90_2 : ∀ (n : Nat), ∀ (h : Nat), (h ≤ 10) → (10 - h) < n → ∀ (H : Heap) (locs : List Loc) (ls : Array Slot), Wst E (XW E a) (sr (sr (sr σ 4 (upr (σ 59) h (σ 4))) 15 (va_cpy (σ 59) (σ 15) 3 0 3)) 0 (upd (upd (upd (upd (upd (σ 0) 0 (σ 59 0)) 1 (σ 59 1)) 2 (σ 59 2)) 3 (nI (if 0 ≠ 0 then (0 - 1) else 29))) 4 (nI (kp - 1)))) A s.heap H locs → lv_has ls 4 [(0, .ref (a 68)), (1, .ref (a 59)), (2, .int (nI (3 + 3))), (3, .int (nI h))] → W p l e ({ frames := 1, cells := 0, slots := 0, locals := 24 }) s m args below meth c H locs 0 0 Q (F0 m 90 ls []) := by
      intro n
      induction n with
      | zero => intro h hh hn; exact absurd hn (Nat.not_lt_zero _)
      | succ n ih90 =>
        intro h hh hn90 H locs ls hw hl
        refine lv_iload_n hC.1 hC.2.1 dX7_restore_90 rfl (lv_at hl 3 rfl) ?_
        refine lv_bipush (v := nI 10) hC.1 hC.2.1 dX7_restore_91 (by decide) ?_
        refine q_cmpge hC 125 (cNle (by omega) (by omega)) dX7_restore_93 (by decide) (fun (c4 : 10 ≤ h) => ?_) (fun (c4 : h < 10) => ?_)
        · have hh9 : h = 10 := by omega
          rw [hh9] at hw
          refine lv_iinc (v := nI (3 + 3 + 10)) (lv' := [(2, .int (nI (3 + 3 + 10))), (0, .ref (a 68)), (1, .ref (a 59)), (3, .int (nI h))]) hC.1 hC.2.1 dX7_restore_125 hl (k := 2) rfl (nI_add _ _) (by decide) rfl (fun ls hl => ?_)
          refine lv_aload_n hC.1 hC.2.1 dX7_restore_128 rfl (lv_at hl 2 rfl) ?_
          refine lv_iload_n hC.1 hC.2.1 dX7_restore_129 rfl (lv_at hl 0 rfl) ?_
          refine lv_aload_n hC.1 hC.2.1 dX7_restore_130 rfl (lv_at hl 1 rfl) ?_
          refine gf_X7_20 hC hw dX7_restore_131 ?_
          refine gf_X7_53 hC hw dX7_restore_134 ?_
          refine lv_iconst (v := nI 0) hC.1 hC.2.1 dX7_restore_137 (by decide) ?_
          refine lv_bipush (v := nI 24) hC.1 hC.2.1 dX7_restore_138 (by decide) ?_
          refine q_cpy (sp := (3 + 3 + 10)) (dp := 0) (n := 24) 69 rfl 21 rfl (XW_s11 _) hC hw hl (by omega) (by omega) (by decide) (by decide) ⟨Nat.le_of_ble_eq_true rfl, Nat.le_of_ble_eq_true rfl⟩ wk2_183 dX7_restore_140 (fun H locs hw => ?_)
          have hw : Wst E (XW E a) (sr (sr (sr (sr σ 4 (upr (σ 59) 10 (σ 4))) 15 (va_cpy (σ 59) (σ 15) 3 0 3)) 0 (upd (upd (upd (upd (upd (σ 0) 0 (σ 59 0)) 1 (σ 59 1)) 2 (σ 59 2)) 3 (nI (if 0 ≠ 0 then (0 - 1) else 29))) 4 (nI (kp - 1)))) 11 (va_cpy (σ 59) (σ 11) (3 + 3 + 10) 0 24)) A s.heap H locs := hw
          have hst_ : sr (sr (sr (sr σ 4 (upr (σ 59) 10 (σ 4))) 15 (va_cpy (σ 59) (σ 15) 3 0 3)) 0 (upd (upd (upd (upd (upd (σ 0) 0 (σ 59 0)) 1 (σ 59 1)) 2 (σ 59 2)) 3 (nI (if 0 ≠ 0 then (0 - 1) else 29))) 4 (nI (kp - 1)))) 11 (va_cpy (σ 59) (σ 11) (3 + 3 + 10) 0 24) = sr (sr (sr (sr σ 4 (upr (σ 59) 10 (σ 4))) 11 (va_cpy (σ 59) (σ 11) (3 + 3 + 10) 0 24)) 15 (va_cpy (σ 59) (σ 15) 3 0 3)) 0 (upd (upd (upd (upd (upd (σ 0) 0 (σ 59 0)) 1 (σ 59 1)) 2 (σ 59 2)) 3 (nI (if 0 ≠ 0 then (0 - 1) else 29))) 4 (nI (kp - 1))) := by
            funext j_ x_
            by_cases e0 : j_ = 0
            · subst e0
              by_cases y0 : x_ = 0
              · subst y0; rfl
              · by_cases y1 : x_ = 1
                · subst y1; rfl
                · by_cases y2 : x_ = 2
                  · subst y2; rfl
                  · by_cases y3 : x_ = 3
                    · subst y3; rfl
                    · by_cases y4 : x_ = 4
                      · subst y4; rfl
                      · simp [sr, upd, y0, y1, y2, y3, y4]
            · by_cases e4 : j_ = 4
              · subst e4; rfl
              · by_cases e11 : j_ = 11
                · subst e11; rfl
                · by_cases e15 : j_ = 15
                  · subst e15; rfl
                  · simp only [sr, e0, e4, e11, e15, if_false]
          rw [hst_] at hw
          refine lv_aload_n hC.1 hC.2.1 dX7_restore_143 rfl (lv_at hl 2 rfl) ?_
          refine lv_iload_n hC.1 hC.2.1 dX7_restore_144 rfl (lv_at hl 0 rfl) ?_
          refine lv_bipush (v := nI 24) hC.1 hC.2.1 dX7_restore_145 (by decide) ?_
          refine q_addN hC dX7_restore_147 ?_
          refine lv_aload_n hC.1 hC.2.1 dX7_restore_148 rfl (lv_at hl 1 rfl) ?_
          refine gf_X7_20 hC hw dX7_restore_149 ?_
          refine gf_X7_56 hC hw dX7_restore_152 ?_
          refine lv_iconst (v := nI 0) hC.1 hC.2.1 dX7_restore_155 (by decide) ?_
          refine lv_bipush (v := nI 24) hC.1 hC.2.1 dX7_restore_156 (by decide) ?_
          refine q_cpy (sp := ((3 + 3 + 10) + 24)) (dp := 0) (n := 24) 69 rfl 22 rfl (XW_s12 _) hC hw hl (by omega) (by omega) (by decide) (by decide) ⟨Nat.le_of_ble_eq_true rfl, Nat.le_of_ble_eq_true rfl⟩ wk2_183 dX7_restore_158 (fun H locs hw => ?_)
          have hw : Wst E (XW E a) (sr (sr (sr (sr (sr σ 4 (upr (σ 59) 10 (σ 4))) 11 (va_cpy (σ 59) (σ 11) (3 + 3 + 10) 0 24)) 15 (va_cpy (σ 59) (σ 15) 3 0 3)) 0 (upd (upd (upd (upd (upd (σ 0) 0 (σ 59 0)) 1 (σ 59 1)) 2 (σ 59 2)) 3 (nI (if 0 ≠ 0 then (0 - 1) else 29))) 4 (nI (kp - 1)))) 12 (va_cpy (σ 59) (σ 12) ((3 + 3 + 10) + 24) 0 24)) A s.heap H locs := hw
          have hst_ : sr (sr (sr (sr (sr σ 4 (upr (σ 59) 10 (σ 4))) 11 (va_cpy (σ 59) (σ 11) (3 + 3 + 10) 0 24)) 15 (va_cpy (σ 59) (σ 15) 3 0 3)) 0 (upd (upd (upd (upd (upd (σ 0) 0 (σ 59 0)) 1 (σ 59 1)) 2 (σ 59 2)) 3 (nI (if 0 ≠ 0 then (0 - 1) else 29))) 4 (nI (kp - 1)))) 12 (va_cpy (σ 59) (σ 12) ((3 + 3 + 10) + 24) 0 24) = sr (sr (sr (sr (sr σ 4 (upr (σ 59) 10 (σ 4))) 11 (va_cpy (σ 59) (σ 11) (3 + 3 + 10) 0 24)) 12 (va_cpy (σ 59) (σ 12) ((3 + 3 + 10) + 24) 0 24)) 15 (va_cpy (σ 59) (σ 15) 3 0 3)) 0 (upd (upd (upd (upd (upd (σ 0) 0 (σ 59 0)) 1 (σ 59 1)) 2 (σ 59 2)) 3 (nI (if 0 ≠ 0 then (0 - 1) else 29))) 4 (nI (kp - 1))) := by
            funext j_ x_
            by_cases e0 : j_ = 0
            · subst e0
              by_cases y0 : x_ = 0
              · subst y0; rfl
              · by_cases y1 : x_ = 1
                · subst y1; rfl
                · by_cases y2 : x_ = 2
                  · subst y2; rfl
                  · by_cases y3 : x_ = 3
                    · subst y3; rfl
                    · by_cases y4 : x_ = 4
                      · subst y4; rfl
                      · simp [sr, upd, y0, y1, y2, y3, y4]
            · by_cases e4 : j_ = 4
              · subst e4; rfl
              · by_cases e11 : j_ = 11
                · subst e11; rfl
                · by_cases e12 : j_ = 12
                  · subst e12; rfl
                  · by_cases e15 : j_ = 15
                    · subst e15; rfl
                    · simp only [sr, e0, e4, e11, e12, e15, if_false]
          rw [hst_] at hw
          refine lv_aload_n hC.1 hC.2.1 dX7_restore_161 rfl (lv_at hl 2 rfl) ?_
          refine lv_iload_n hC.1 hC.2.1 dX7_restore_162 rfl (lv_at hl 0 rfl) ?_
          refine lv_bipush (v := nI 48) hC.1 hC.2.1 dX7_restore_163 (by decide) ?_
          refine q_addN hC dX7_restore_165 ?_
          refine lv_aload_n hC.1 hC.2.1 dX7_restore_166 rfl (lv_at hl 1 rfl) ?_
          refine gf_X7_20 hC hw dX7_restore_167 ?_
          refine gf_X7_59 hC hw dX7_restore_170 ?_
          refine lv_iconst (v := nI 0) hC.1 hC.2.1 dX7_restore_173 (by decide) ?_
          refine lv_bipush (v := nI 24) hC.1 hC.2.1 dX7_restore_174 (by decide) ?_
          refine q_cpy (sp := ((3 + 3 + 10) + 48)) (dp := 0) (n := 24) 69 rfl 23 rfl (XW_s13 _) hC hw hl (by omega) (by omega) (by decide) (by decide) ⟨Nat.le_of_ble_eq_true rfl, Nat.le_of_ble_eq_true rfl⟩ wk2_183 dX7_restore_176 (fun H locs hw => ?_)
          have hw : Wst E (XW E a) (sr (sr (sr (sr (sr (sr σ 4 (upr (σ 59) 10 (σ 4))) 11 (va_cpy (σ 59) (σ 11) (3 + 3 + 10) 0 24)) 12 (va_cpy (σ 59) (σ 12) ((3 + 3 + 10) + 24) 0 24)) 15 (va_cpy (σ 59) (σ 15) 3 0 3)) 0 (upd (upd (upd (upd (upd (σ 0) 0 (σ 59 0)) 1 (σ 59 1)) 2 (σ 59 2)) 3 (nI (if 0 ≠ 0 then (0 - 1) else 29))) 4 (nI (kp - 1)))) 13 (va_cpy (σ 59) (σ 13) ((3 + 3 + 10) + 48) 0 24)) A s.heap H locs := hw
          have hst_ : sr (sr (sr (sr (sr (sr σ 4 (upr (σ 59) 10 (σ 4))) 11 (va_cpy (σ 59) (σ 11) (3 + 3 + 10) 0 24)) 12 (va_cpy (σ 59) (σ 12) ((3 + 3 + 10) + 24) 0 24)) 15 (va_cpy (σ 59) (σ 15) 3 0 3)) 0 (upd (upd (upd (upd (upd (σ 0) 0 (σ 59 0)) 1 (σ 59 1)) 2 (σ 59 2)) 3 (nI (if 0 ≠ 0 then (0 - 1) else 29))) 4 (nI (kp - 1)))) 13 (va_cpy (σ 59) (σ 13) ((3 + 3 + 10) + 48) 0 24) = sr (sr (sr (sr (sr (sr σ 4 (upr (σ 59) 10 (σ 4))) 11 (va_cpy (σ 59) (σ 11) (3 + 3 + 10) 0 24)) 12 (va_cpy (σ 59) (σ 12) ((3 + 3 + 10) + 24) 0 24)) 13 (va_cpy (σ 59) (σ 13) ((3 + 3 + 10) + 48) 0 24)) 15 (va_cpy (σ 59) (σ 15) 3 0 3)) 0 (upd (upd (upd (upd (upd (σ 0) 0 (σ 59 0)) 1 (σ 59 1)) 2 (σ 59 2)) 3 (nI (if 0 ≠ 0 then (0 - 1) else 29))) 4 (nI (kp - 1))) := by
            funext j_ x_
            by_cases e0 : j_ = 0
            · subst e0
              by_cases y0 : x_ = 0
              · subst y0; rfl
              · by_cases y1 : x_ = 1
                · subst y1; rfl
                · by_cases y2 : x_ = 2
                  · subst y2; rfl
                  · by_cases y3 : x_ = 3
                    · subst y3; rfl
                    · by_cases y4 : x_ = 4
                      · subst y4; rfl
                      · simp [sr, upd, y0, y1, y2, y3, y4]
            · by_cases e4 : j_ = 4
              · subst e4; rfl
              · by_cases e11 : j_ = 11
                · subst e11; rfl
                · by_cases e12 : j_ = 12
                  · subst e12; rfl
                  · by_cases e13 : j_ = 13
                    · subst e13; rfl
                    · by_cases e15 : j_ = 15
                      · subst e15; rfl
                      · simp only [sr, e0, e4, e11, e12, e13, e15, if_false]
          rw [hst_] at hw
          refine lv_aload_n hC.1 hC.2.1 dX7_restore_179 rfl (lv_at hl 2 rfl) ?_
          refine lv_iload_n hC.1 hC.2.1 dX7_restore_180 rfl (lv_at hl 0 rfl) ?_
          refine lv_bipush (v := nI 72) hC.1 hC.2.1 dX7_restore_181 (by decide) ?_
          refine q_addN hC dX7_restore_183 ?_
          refine lv_aload_n hC.1 hC.2.1 dX7_restore_184 rfl (lv_at hl 1 rfl) ?_
          refine gf_X7_20 hC hw dX7_restore_185 ?_
          refine gf_X7_62 hC hw dX7_restore_188 ?_
          refine lv_iconst (v := nI 0) hC.1 hC.2.1 dX7_restore_191 (by decide) ?_
          refine lv_bipush (v := nI 24) hC.1 hC.2.1 dX7_restore_192 (by decide) ?_
          refine q_cpy (sp := ((3 + 3 + 10) + 72)) (dp := 0) (n := 24) 69 rfl 24 rfl (XW_s14 _) hC hw hl (by omega) (by omega) (by decide) (by decide) ⟨Nat.le_of_ble_eq_true rfl, Nat.le_of_ble_eq_true rfl⟩ wk2_183 dX7_restore_194 (fun H locs hw => ?_)
          have hw : Wst E (XW E a) (sr (sr (sr (sr (sr (sr (sr σ 4 (upr (σ 59) 10 (σ 4))) 11 (va_cpy (σ 59) (σ 11) (3 + 3 + 10) 0 24)) 12 (va_cpy (σ 59) (σ 12) ((3 + 3 + 10) + 24) 0 24)) 13 (va_cpy (σ 59) (σ 13) ((3 + 3 + 10) + 48) 0 24)) 15 (va_cpy (σ 59) (σ 15) 3 0 3)) 0 (upd (upd (upd (upd (upd (σ 0) 0 (σ 59 0)) 1 (σ 59 1)) 2 (σ 59 2)) 3 (nI (if 0 ≠ 0 then (0 - 1) else 29))) 4 (nI (kp - 1)))) 14 (va_cpy (σ 59) (σ 14) ((3 + 3 + 10) + 72) 0 24)) A s.heap H locs := hw
          have hst_ : sr (sr (sr (sr (sr (sr (sr σ 4 (upr (σ 59) 10 (σ 4))) 11 (va_cpy (σ 59) (σ 11) (3 + 3 + 10) 0 24)) 12 (va_cpy (σ 59) (σ 12) ((3 + 3 + 10) + 24) 0 24)) 13 (va_cpy (σ 59) (σ 13) ((3 + 3 + 10) + 48) 0 24)) 15 (va_cpy (σ 59) (σ 15) 3 0 3)) 0 (upd (upd (upd (upd (upd (σ 0) 0 (σ 59 0)) 1 (σ 59 1)) 2 (σ 59 2)) 3 (nI (if 0 ≠ 0 then (0 - 1) else 29))) 4 (nI (kp - 1)))) 14 (va_cpy (σ 59) (σ 14) ((3 + 3 + 10) + 72) 0 24) = sr (sr (sr (sr (sr (sr (sr σ 4 (upr (σ 59) 10 (σ 4))) 11 (va_cpy (σ 59) (σ 11) (3 + 3 + 10) 0 24)) 12 (va_cpy (σ 59) (σ 12) ((3 + 3 + 10) + 24) 0 24)) 13 (va_cpy (σ 59) (σ 13) ((3 + 3 + 10) + 48) 0 24)) 14 (va_cpy (σ 59) (σ 14) ((3 + 3 + 10) + 72) 0 24)) 15 (va_cpy (σ 59) (σ 15) 3 0 3)) 0 (upd (upd (upd (upd (upd (σ 0) 0 (σ 59 0)) 1 (σ 59 1)) 2 (σ 59 2)) 3 (nI (if 0 ≠ 0 then (0 - 1) else 29))) 4 (nI (kp - 1))) := by
            funext j_ x_
            by_cases e0 : j_ = 0
            · subst e0
              by_cases y0 : x_ = 0
              · subst y0; rfl
              · by_cases y1 : x_ = 1
                · subst y1; rfl
                · by_cases y2 : x_ = 2
                  · subst y2; rfl
                  · by_cases y3 : x_ = 3
                    · subst y3; rfl
                    · by_cases y4 : x_ = 4
                      · subst y4; rfl
                      · simp [sr, upd, y0, y1, y2, y3, y4]
            · by_cases e4 : j_ = 4
              · subst e4; rfl
              · by_cases e11 : j_ = 11
                · subst e11; rfl
                · by_cases e12 : j_ = 12
                  · subst e12; rfl
                  · by_cases e13 : j_ = 13
                    · subst e13; rfl
                    · by_cases e14 : j_ = 14
                      · subst e14; rfl
                      · by_cases e15 : j_ = 15
                        · subst e15; rfl
                        · simp only [sr, e0, e4, e11, e12, e13, e14, e15, if_false]
          rw [hst_] at hw
          refine hret _ _ _ _ _ hw ?_ dX7_restore_197
          exact rfl
        · refine lv_aload_n hC.1 hC.2.1 dX7_restore_96 rfl (lv_at hl 0 rfl) ?_
          refine gf_X7_16 hC hw dX7_restore_97 ?_
          refine gf_X7_49 hC hw dX7_restore_100 ?_
          refine lv_iload_n hC.1 hC.2.1 dX7_restore_103 rfl (lv_at hl 3 rfl) ?_
          refine lv_aload_n hC.1 hC.2.1 dX7_restore_104 rfl (lv_at hl 1 rfl) ?_
          refine lv_iload_n hC.1 hC.2.1 dX7_restore_105 rfl (lv_at hl 2 rfl) ?_
          refine lv_iload_n hC.1 hC.2.1 dX7_restore_106 rfl (lv_at hl 3 rfl) ?_
          refine q_addN hC dX7_restore_107 ?_
          refine q_ald (Wf := XW E a) (v := σ 59 ((3 + 3) + h)) 69 rfl (by decide) hC hw (by omega) rfl dX7_restore_108 ?_
          refine lv_iconst (v := nI 1) hC.1 hC.2.1 dX7_restore_109 (by decide) ?_
          have J118_6 : ∀ (w5 : Int32), w5 = (if (σ 59 ((3 + 3) + h)) = 1 then (1 : Int32) else 0) → ∀ (H : Heap) (locs : List Loc) (ls : Array Slot), Wst E (XW E a) (sr (sr (sr σ 4 (upr (σ 59) h (σ 4))) 15 (va_cpy (σ 59) (σ 15) 3 0 3)) 0 (upd (upd (upd (upd (upd (σ 0) 0 (σ 59 0)) 1 (σ 59 1)) 2 (σ 59 2)) 3 (nI (if 0 ≠ 0 then (0 - 1) else 29))) 4 (nI (kp - 1)))) A s.heap H locs → lv_has ls 4 [(0, .ref (a 68)), (1, .ref (a 59)), (2, .int (nI (3 + 3))), (3, .int (nI h))] → W p l e ({ frames := 1, cells := 0, slots := 0, locals := 24 }) s m args below meth c H locs 0 0 Q (F0 m 118 ls [.int (w5), .int (nI h), .ref (a 4)]) := by
            intro w5 e6 H locs ls hw hl
            subst e6
            refine as_X4 hC hw (by omega) vz_B dX7_restore_118 (fun H locs hw => ?_)
            have hw : Wst E (XW E a) (sr (sr (sr (sr σ 4 (upr (σ 59) h (σ 4))) 15 (va_cpy (σ 59) (σ 15) 3 0 3)) 0 (upd (upd (upd (upd (upd (σ 0) 0 (σ 59 0)) 1 (σ 59 1)) 2 (σ 59 2)) 3 (nI (if 0 ≠ 0 then (0 - 1) else 29))) 4 (nI (kp - 1)))) 4 (upd (upr (σ 59) h (σ 4)) h (if (σ 59 ((3 + 3) + h)) = 1 then (1 : Int32) else 0))) A s.heap H locs := hw
            have hst_ : sr (sr (sr (sr σ 4 (upr (σ 59) h (σ 4))) 15 (va_cpy (σ 59) (σ 15) 3 0 3)) 0 (upd (upd (upd (upd (upd (σ 0) 0 (σ 59 0)) 1 (σ 59 1)) 2 (σ 59 2)) 3 (nI (if 0 ≠ 0 then (0 - 1) else 29))) 4 (nI (kp - 1)))) 4 (upd (upr (σ 59) h (σ 4)) h (if (σ 59 ((3 + 3) + h)) = 1 then (1 : Int32) else 0)) = sr (sr (sr σ 4 (upd (upr (σ 59) h (σ 4)) h (if (σ 59 ((3 + 3) + h)) = 1 then (1 : Int32) else 0))) 15 (va_cpy (σ 59) (σ 15) 3 0 3)) 0 (upd (upd (upd (upd (upd (σ 0) 0 (σ 59 0)) 1 (σ 59 1)) 2 (σ 59 2)) 3 (nI (if 0 ≠ 0 then (0 - 1) else 29))) 4 (nI (kp - 1))) := by
              funext j_ x_
              by_cases e0 : j_ = 0
              · subst e0
                by_cases y0 : x_ = 0
                · subst y0; rfl
                · by_cases y1 : x_ = 1
                  · subst y1; rfl
                  · by_cases y2 : x_ = 2
                    · subst y2; rfl
                    · by_cases y3 : x_ = 3
                      · subst y3; rfl
                      · by_cases y4 : x_ = 4
                        · subst y4; rfl
                        · simp [sr, upd, y0, y1, y2, y3, y4]
              · by_cases e4 : j_ = 4
                · subst e4; rfl
                · by_cases e15 : j_ = 15
                  · subst e15; rfl
                  · simp only [sr, e0, e4, e15, if_false]
            rw [hst_] at hw
            refine lv_iinc (v := nI (h + 1)) (lv' := [(3, .int (nI (h + 1))), (0, .ref (a 68)), (1, .ref (a 59)), (2, .int (nI (3 + 3)))]) hC.1 hC.2.1 dX7_restore_119 hl (k := 3) rfl (nI_add _ _) (by decide) rfl (fun ls hl => ?_)
            refine lv_goto (tgt := 90) hC.1 hC.2.1 dX7_restore_122 (by decide) ?_
            rw [upr_s] at hw
            exact ih90 (h + 1) (by omega) (by omega) _ _ _ hw (lv_sub hl [1, 2, 3, 0] rfl)
          refine q_cmpne hC 117 cI dX7_restore_110 (by decide) (fun (c7 : ¬ ((σ 59 ((3 + 3) + h)) = 1)) => ?_) (fun (c7 : (σ 59 ((3 + 3) + h)) = 1) => ?_)
          · refine lv_iconst (v := nI 0) hC.1 hC.2.1 dX7_restore_117 (by decide) ?_
            exact J118_6 _ (if_neg c7).symm _ _ _ hw (lv_sub hl [0, 1, 2, 3] rfl)
          · refine lv_iconst (v := nI 1) hC.1 hC.2.1 dX7_restore_113 (by decide) ?_
            refine lv_goto (tgt := 118) hC.1 hC.2.1 dX7_restore_114 (by decide) ?_
            exact J118_6 _ (if_pos c7).symm _ _ _ hw (lv_sub hl [0, 1, 2, 3] rfl)
    have hst_ : sr (sr σ 15 (va_cpy (σ 59) (σ 15) 3 0 3)) 0 (upd (upd (upd (upd (upd (σ 0) 0 (σ 59 0)) 1 (σ 59 1)) 2 (σ 59 2)) 3 (nI (if 0 ≠ 0 then (0 - 1) else 29))) 4 (nI (kp - 1))) = sr (sr (sr σ 4 (upr (σ 59) 0 (σ 4))) 15 (va_cpy (σ 59) (σ 15) 3 0 3)) 0 (upd (upd (upd (upd (upd (σ 0) 0 (σ 59 0)) 1 (σ 59 1)) 2 (σ 59 2)) 3 (nI (if 0 ≠ 0 then (0 - 1) else 29))) 4 (nI (kp - 1))) := by
      funext j_ x_
      by_cases e0 : j_ = 0
      · subst e0
        by_cases y0 : x_ = 0
        · subst y0; rfl
        · by_cases y1 : x_ = 1
          · subst y1; rfl
          · by_cases y2 : x_ = 2
            · subst y2; rfl
            · by_cases y3 : x_ = 3
              · subst y3; rfl
              · by_cases y4 : x_ = 4
                · subst y4; rfl
                · simp [sr, upd, y0, y1, y2, y3, y4]
      · by_cases e4 : j_ = 4
        · subst e4; show σ 4 x_ = upr (σ 59) 0 (σ 4) x_; rw [upr_0]
        · by_cases e15 : j_ = 15
          · subst e15; rfl
          · simp only [sr, e0, e4, e15, if_false]
    rw [hst_] at hw
    exact L90_2 _ 0 (by omega) (Nat.lt_succ_self _) _ _ _ hw (lv_sub hl [3, 2, 1, 0] rfl)
  refine q_ifne hC 13 (cN0 (by omega)) dX7_restore_5 (by decide) (fun (c8 : 0 ≠ 0) => ?_) (fun (c8 : 0 = 0) => ?_)
  · refine lv_aload_n hC.1 hC.2.1 dX7_restore_13 rfl (lv_at hl 0 rfl) ?_
    refine gf_X7_28 (v := nI 0) hC hw hnx dX7_restore_14 ?_
    refine lv_iconst (v := nI 1) hC.1 hC.2.1 dX7_restore_17 (by decide) ?_
    refine q_subN hC (by omega) dX7_restore_18 ?_
    exact J19_2 _ (by (rw [if_pos c8]) <;> rfl) _ _ _ hw (lv_sub hl [0] rfl)
  · refine lv_bipush (v := nI 29) hC.1 hC.2.1 dX7_restore_8 (by decide) ?_
    refine lv_goto (tgt := 19) hC.1 hC.2.1 dX7_restore_10 (by decide) ?_
    exact J19_2 _ (by (rw [if_neg (fun q => q c8)]) <;> rfl) _ _ _ hw (lv_sub hl [0] rfl)
