theorem hd_J6_bitCount_0f7a4 : yJ6_bitCount_0f7a4.cls = RJ6 ∧ (yJ6_bitCount_0f7a4.cls ≠ "java/lang/invoke/MethodHandle" ∧ yJ6_bitCount_0f7a4.cls ≠ "java/lang/invoke/VarHandle") ∧ (parseMethodDescriptor yJ6_bitCount_0f7a4.desc).map (fun d => d.parameters.length) = some 1 := by decide +kernel
theorem hd_J7_fill_53178 : yJ7_fill_53178.cls = RJ7 ∧ (yJ7_fill_53178.cls ≠ "java/lang/invoke/MethodHandle" ∧ yJ7_fill_53178.cls ≠ "java/lang/invoke/VarHandle") ∧ (parseMethodDescriptor yJ7_fill_53178.desc).map (fun d => d.parameters.length) = some 2 := by decide +kernel
theorem hd_J9_min_7cf53 : yJ9_min_7cf53.cls = RJ9 ∧ (yJ9_min_7cf53.cls ≠ "java/lang/invoke/MethodHandle" ∧ yJ9_min_7cf53.cls ≠ "java/lang/invoke/VarHandle") ∧ (parseMethodDescriptor yJ9_min_7cf53.desc).map (fun d => d.parameters.length) = some 2 := by decide +kernel
/-! System.arraycopy, Arrays.fill, the ring -/
theorem wk_nat : Cond.native arraycopyName ∈ tw := tw_2 (List.mem_of_getElem? (i := 184) rfl) rfl
section QD
variable {p : Program} {l : Launch} {e : Env} {R : Room} {s : State} {m : MethodId} {args : Array Value} {below : List Frame} {meth : Method} {c : Code} {H : Heap} {locs : List Loc} {Q : State → Prop} {E : EV} {A : Nat → Prop} {cc : ByteArray} {nL pc : Nat} {ret : Option FieldType} {own : String} {ls : Array Slot} {rest : List Value} {Wf : St → va_W} {σ : St} {a : Nat → Nat}
theorem q_cpy {index n0 n1 sp dp n a0 a1 : Nat} {f g : Nat → Int32} {σ' : St} (q0 : Nat) (h0 : (Wf σ)[q0]? = some (a0, .inl (E.2.1.1, n0, .inl f))) (q1 : Nat) (h1 : (Wf σ)[q1]? = some (a1, .inl (E.2.1.1, n1, .inl g))) (hset : (Wf σ).set q1 (a1, .inl (E.2.1.1, n1, .inl (va_cpy f g sp dp n))) = Wf σ') 
    (hC : Cxt E p s m args meth c cc nL ret own A) (hw : Wst E Wf σ A s.heap H locs) {lv : List (Nat × Value)} (hlv : lv_has ls nL lv) (hsp : sp + n ≤ n0) (hdp : dp + n ≤ n1) (hn0 : n0 < 2 ^ 31) (hn1 : n1 < 2 ^ 31) (hR : 1 ≤ R.frames ∧ (rest.map fun v => v.category).sum + (nativeFrameWords "java/lang/System" "arraycopy" 5 + 11) ≤ R.locals) (hlink : Cond.methodLink own index arraycopyName ∈ tw) (hdg : decode cc pc = .ok (.invokestatic index, 3))
    (kk : ∀ (H1 : Heap) (locs1 : List Loc), Wst E Wf σ' A s.heap H1 locs1 → W p l e R s m args below meth c H1 locs1 0 0 Q (F0 m (pc + 3) ls rest)) : W p l e R s m args below meth c H locs 0 0 Q (F0 m pc ls (.int (nI n) :: .int (nI dp) :: .ref a1 :: .int (nI sp) :: .ref a0 :: rest)) := by
  have tn : ∀ {x : Nat}, x < 2 ^ 31 → (nI x).toNatClampNeg = x := fun h => nI_clamp h
  refine va_copyi hC.1 hC.2.1 (hC.2.2.1.trans hlv.1.symm) hC.2.2.2.1 (hC.2.2.2.2.1 _ hlink) (hC.2.2.2.2.1 _ wk_nat) (hC.2.2.2.2.1 _ wk2_183) (hC.2.2.2.2.1 _ wk1_13) hC.2.2.2.2.2.1.1 hw.1 hw.2.1 hw.2.2 q0 q1 0 0 h0 h1 rfl rfl rfl (nI_pos (by omega)) (nI_pos (by omega)) (nI_pos (by omega)) (by rw [tn (by omega), tn (by omega)]; exact hsp) (by rw [tn (by omega), tn (by omega)]; exact hdp) (fun _ _ => rfl) hR.1 hR.2 hdg (fun H1 locs1 g1 g2 g3 => ?_)
  rw [tn (by omega), tn (by omega), tn (by omega), hset] at g1 g2
  exact kk H1 locs1 ⟨g1, g2, g3⟩
end QD
def fil (n : Nat) (x : Int32) (f : Nat → Int32) : Nat → Int32 := fun k => if k < n then x else f k
theorem fil_0 (x : Int32) (f : Nat → Int32) : fil 0 x f = f := funext fun k => by simp [fil]
theorem fil_s (n : Nat) (x : Int32) (f : Nat → Int32) : upd (fil n x f) n x = fil (n + 1) x f := funext fun k => by
  show (if k = n then x else (if k < n then x else f k)) = (if k < n + 1 then x else f k)
  by_cases h1 : k = n
  · rw [if_pos h1, if_pos (by omega)]
  · by_cases h2 : k < n
    · rw [if_neg h1, if_pos h2, if_pos (by omega)]
    · rw [if_neg h1, if_neg h2, if_neg (by omega)]
/-! the sums counted anew -/
def PL (σ : St) (P : Nat → Int32) (nh nj : Nat) : Prop := ∀ j, j < nj → (σ 11 j = 1 → ∃ h, h < nh ∧ σ 12 j = nI h ∧ P j = nI h) ∧ (¬ σ 11 j = 1 → P j = -1)
theorem PL.at {σ : St} {P : Nat → Int32} {nh nj j : Nat} (h : PL σ P nh nj) (h10 : nh ≤ 10) (hj : j < nj) (h1 : σ 11 j = 1) : σ 12 j = nI (cN (σ 12 j)) ∧ cN (σ 12 j) < nh ∧ P j = nI (cN (σ 12 j)) := by
  obtain ⟨x, x1, x2, x3⟩ := (h j hj).1 h1
  have e : cN (σ 12 j) = x := by rw [x2]; exact nI_clamp (by omega)
  rw [e]; exact ⟨x2, x1, x3⟩
def Pfx (P : Nat → Int32) (j : Nat) : Nat → Int32 := fun k => if k < j then P k else -1
theorem Pfx_no {P : Nat → Int32} {j : Nat} (h : P j = -1) : Pfx P (j + 1) = Pfx P j := funext fun k => by
  show (if k < j + 1 then P k else -1) = (if k < j then P k else -1)
  by_cases e : k = j
  · subst e; rw [if_pos (by omega), if_neg (by omega), h]
  · by_cases z : k < j
    · rw [if_pos (by omega), if_pos z]
    · rw [if_neg (by omega), if_neg z]
theorem Pfx_TL {P : Nat → Int32} {j h : Nat} (e : P j = nI h) : TL (Pfx P j) (Pfx P (j + 1)) j h 1 := by
  refine Or.inl ⟨rfl, if_neg (by omega), funext fun k => ?_⟩
  show (if k < j + 1 then P k else -1) = (if k = j then nI h else (if k < j then P k else -1))
  by_cases z : k = j
  · subst z; rw [if_pos (by omega), if_pos rfl, e]
  · by_cases y : k < j
    · rw [if_pos (by omega), if_neg z, if_pos y]
    · rw [if_neg (by omega), if_neg z, if_neg y]
theorem FSr.cg {E0 : St} {P P' : Nat → Int32} {nh nj : Nat} {b16 b17 b18 b19 b20 b21 : Nat → Int32} (h : ∀ k, k < nj → P k = P' k) (hF : FSr E0 P nh nj b16 b17 b18 b19 b20 b21) : FSr E0 P' nh nj b16 b17 b18 b19 b20 b21 := by
  refine ⟨fun x hx => ⟨fun i hi => ((hF.1 x hx).1 i hi).trans ?_, fun g hg => ⟨((hF.1 x hx).2 g hg).1.trans ?_, ((hF.1 x hx).2 g hg).2.trans ?_⟩⟩, fun x hx g hg => ⟨(hF.2 x hx g hg).1.trans ?_, (hF.2 x hx g hg).2.1.trans ?_, (hF.2 x hx g hg).2.2.trans ?_⟩⟩
  · exact congrArg _ (sm_congr (fun k hk => by unfold f_left; rw [h k hk]))
  · exact sm_congr (fun k hk => by unfold f_gon; rw [h k hk])
  · exact sm_congr (fun k hk => by unfold f_shy; rw [h k hk])
  · exact sm_congr (fun k hk => by unfold f_gin inH; rw [h k hk])
  · exact sm_congr (fun k hk => by unfold f_alk inH; rw [h k hk])
  · exact sm_congr (fun k hk => by unfold f_alk inH; rw [h k hk])
theorem sm_zero {f : Nat → Int32} : ∀ {n : Nat}, (∀ k, k < n → f k = 0) → sm f n = 0
  | 0, _ => rfl
  | n + 1, h => by rw [sm, sm_zero (fun k hk => h k (by omega)), h n (by omega)]; rfl
theorem FS0 {E0 : St} {P g16 g17 g18 g19 g20 g21 : Nat → Int32} {nh nj : Nat} (h10 : nh ≤ 10) : FSr E0 (Pfx P 0) nh nj (va_cpy (E0 1) g16 0 0 30) (fil 80 0 g17) (fil 40 0 g18) (fil 80 0 g19) (fil 40 0 g20) (fil 40 0 g21) := by
  have hp : ∀ k, Pfx P 0 k = -1 := fun k => if_neg (Nat.not_lt_zero _)
  have hm : ∀ x, x < 10 → ¬ (-1 : Int32) = nI x := fun x hx => nI_nm1 (by omega)
  refine ⟨fun x hx => ⟨fun i hi => ?_, fun g hg => ⟨?_, ?_⟩⟩, fun x hx g hg => ⟨?_, ?_, ?_⟩⟩
  · unfold m_left
    rw [sm_zero (fun k _ => by unfold f_left; rw [hp k]; exact if_neg (hm x (by omega)))]
    show (if 0 ≤ x * 3 + i ∧ x * 3 + i < 0 + 30 then E0 1 (0 + (x * 3 + i - 0)) else g16 (x * 3 + i)) = _
    rw [if_pos (by omega), show 0 + (x * 3 + i - 0) = 3 * x + i by omega, Int32.sub_zero]
  · rw [show fil 80 0 g17 (x * 8 + g) = 0 from if_pos (by omega)]; exact (sm_zero (fun k _ => by unfold f_gon; rw [hp k]; exact if_neg (fun q => hm x (by omega) q.2))).symm
  · rw [show fil 80 0 g19 (x * 8 + g) = 0 from if_pos (by omega)]; exact (sm_zero (fun k _ => by unfold f_shy; rw [hp k]; exact if_neg (fun q => hm x (by omega) q.1))).symm
  · rw [show fil 40 0 g18 (x * 8 + g) = 0 from if_pos (by omega)]; exact (sm_zero (fun k _ => by unfold f_gin inH; rw [hp k]; exact if_neg (fun q => q.2.1 rfl))).symm
  · rw [show fil 40 0 g20 (x * 8 + g) = 0 from if_pos (by omega)]; exact (sm_zero (fun k _ => by unfold f_alk inH; rw [hp k]; exact if_neg (fun q => q.2.1 rfl))).symm
  · rw [show fil 40 0 g21 (x * 8 + g) = 0 from if_pos (by omega)]; exact (sm_zero (fun k _ => by unfold f_alk inH; rw [hp k]; exact if_neg (fun q => q.2.1 rfl))).symm
set_option maxHeartbeats 4000000 in
set_option maxRecDepth 100000 in
theorem tJ7_fill_53178_17 (l : Launch) (E : EV) (a : Nat → Nat) (σ : St) (x : Int32) : MV l E (XW E a) yJ7_fill_53178 (Cond.code yJ7_fill_53178 cJ7_fill_53178 4 none) ({ frames := 0, cells := 0, slots := 0, locals := 0 }) [.ref (a 17), .int (x)] σ (fun u_ => u_ = sr σ 17 (fil 80 x (σ 17))) := by
  refine MV.mk (by decide +kernel) (Nat.le_of_ble_eq_true rfl) ?_
  intro p e s m args below meth c ls A Q hret hC hw hl
  have hC : Cxt E p s m args meth c cJ7_fill_53178 4 none RJ7 A := hC
  have hl : lv_has ls 4 [(0, .ref (a 17)), (1, .int (x))] := hl
  refine lv_iconst (v := nI 0) hC.1 hC.2.1 dJ7_fill_53178_0 (by decide) ?_
  refine lv_istore_n (lv' := [(2, .int (nI 0)), (0, .ref (a 17)), (1, .int (x))]) hC.1 hC.2.1 dJ7_fill_53178_1 rfl hl (by decide) rfl (fun ls hl => ?_)
  refine lv_aload_n hC.1 hC.2.1 dJ7_fill_53178_2 rfl (lv_at hl 1 rfl) ?_
  refine q_alen (Wf := XW E a) 27 rfl hC hw dJ7_fill_53178_3 ?_
  refine lv_istore_n (lv' := [(3, .int (nI 80)), (2, .int (nI 0)), (0, .ref (a 17)), (1, .int (x))]) hC.1 hC.2.1 dJ7_fill_53178_4 rfl hl (by decide) rfl (fun ls hl => ?_)
  have L5_0 : ∀ (n : Nat), ∀ (k : Nat), (k ≤ 80) → (80 - k) < n → ∀ (H : Heap) (locs : List Loc) (ls : Array Slot), Wst E (XW E a) (sr σ 17 (fil k x (σ 17))) A s.heap H locs → lv_has ls 4 [(0, .ref (a 17)), (1, .int (x)), (2, .int (nI k)), (3, .int (nI 80))] → W p l e ({ frames := 0, cells := 0, slots := 0, locals := 0 }) s m args below meth c H locs 0 0 Q (F0 m 5 ls []) := by
    intro n
    induction n with
    | zero => intro k hk hn; exact absurd hn (Nat.not_lt_zero _)
    | succ n ih5 =>
      intro k hk hn5 H locs ls hw hl
      refine lv_iload_n hC.1 hC.2.1 dJ7_fill_53178_5 rfl (lv_at hl 2 rfl) ?_
      refine lv_iload_n hC.1 hC.2.1 dJ7_fill_53178_6 rfl (lv_at hl 3 rfl) ?_
      refine q_cmpge hC 20 (cNle (by omega) (by omega)) dJ7_fill_53178_7 (by decide) (fun (c2 : 80 ≤ k) => ?_) (fun (c2 : k < 80) => ?_)
      · refine hret _ _ _ _ _ hw ?_ dJ7_fill_53178_20
        have hk9 : k = 80 := by omega
        rw [hk9]
      · refine lv_aload_n hC.1 hC.2.1 dJ7_fill_53178_10 rfl (lv_at hl 0 rfl) ?_
        refine lv_iload_n hC.1 hC.2.1 dJ7_fill_53178_11 rfl (lv_at hl 2 rfl) ?_
        refine lv_iload_n hC.1 hC.2.1 dJ7_fill_53178_12 rfl (lv_at hl 1 rfl) ?_
        refine as_X17 hC hw (by omega) dJ7_fill_53178_13 (fun H locs hw => ?_)
        have hw : Wst E (XW E a) (sr (sr σ 17 (fil k x (σ 17))) 17 (upd (fil k x (σ 17)) k (x))) A s.heap H locs := hw
        have hst_ : sr (sr σ 17 (fil k x (σ 17))) 17 (upd (fil k x (σ 17)) k (x)) = sr σ 17 (upd (fil k x (σ 17)) k (x)) := by
          funext j_ x_
          by_cases e0 : j_ = 0
          · subst e0
            rfl
          · by_cases e17 : j_ = 17
            · subst e17; rfl
            · simp only [sr, e0, e17, if_false]
        rw [hst_] at hw
        refine lv_iinc (v := nI (k + 1)) (lv' := [(2, .int (nI (k + 1))), (0, .ref (a 17)), (1, .int (x)), (3, .int (nI 80))]) hC.1 hC.2.1 dJ7_fill_53178_14 hl (k := 2) rfl (nI_add _ _) (by decide) rfl (fun ls hl => ?_)
        refine lv_goto (tgt := 5) hC.1 hC.2.1 dJ7_fill_53178_17 (by decide) ?_
        rw [fil_s] at hw
        exact ih5 (k + 1) (by omega) (by omega) _ _ _ hw (lv_sub hl [1, 2, 0, 3] rfl)
  have hw : Wst E (XW E a) (sr σ 17 (fil 0 x (σ 17))) A s.heap s.heap [] := by rw [fil_0, sr_id]; exact hw
  exact L5_0 _ 0 (by omega) (Nat.lt_succ_self _) _ _ _ hw (lv_sub hl [2, 3, 1, 0] rfl)
set_option maxHeartbeats 4000000 in
set_option maxRecDepth 100000 in
theorem tJ7_fill_53178_18 (l : Launch) (E : EV) (a : Nat → Nat) (σ : St) (x : Int32) : MV l E (XW E a) yJ7_fill_53178 (Cond.code yJ7_fill_53178 cJ7_fill_53178 4 none) ({ frames := 0, cells := 0, slots := 0, locals := 0 }) [.ref (a 18), .int (x)] σ (fun u_ => u_ = sr σ 18 (fil 40 x (σ 18))) := by
  refine MV.mk (by decide +kernel) (Nat.le_of_ble_eq_true rfl) ?_
  intro p e s m args below meth c ls A Q hret hC hw hl
  have hC : Cxt E p s m args meth c cJ7_fill_53178 4 none RJ7 A := hC
  have hl : lv_has ls 4 [(0, .ref (a 18)), (1, .int (x))] := hl
  refine lv_iconst (v := nI 0) hC.1 hC.2.1 dJ7_fill_53178_0 (by decide) ?_
  refine lv_istore_n (lv' := [(2, .int (nI 0)), (0, .ref (a 18)), (1, .int (x))]) hC.1 hC.2.1 dJ7_fill_53178_1 rfl hl (by decide) rfl (fun ls hl => ?_)
  refine lv_aload_n hC.1 hC.2.1 dJ7_fill_53178_2 rfl (lv_at hl 1 rfl) ?_
  refine q_alen (Wf := XW E a) 28 rfl hC hw dJ7_fill_53178_3 ?_
  refine lv_istore_n (lv' := [(3, .int (nI 40)), (2, .int (nI 0)), (0, .ref (a 18)), (1, .int (x))]) hC.1 hC.2.1 dJ7_fill_53178_4 rfl hl (by decide) rfl (fun ls hl => ?_)
  have L5_0 : ∀ (n : Nat), ∀ (k : Nat), (k ≤ 40) → (40 - k) < n → ∀ (H : Heap) (locs : List Loc) (ls : Array Slot), Wst E (XW E a) (sr σ 18 (fil k x (σ 18))) A s.heap H locs → lv_has ls 4 [(0, .ref (a 18)), (1, .int (x)), (2, .int (nI k)), (3, .int (nI 40))] → W p l e ({ frames := 0, cells := 0, slots := 0, locals := 0 }) s m args below meth c H locs 0 0 Q (F0 m 5 ls []) := by
    intro n
    induction n with
    | zero => intro k hk hn; exact absurd hn (Nat.not_lt_zero _)
    | succ n ih5 =>
      intro k hk hn5 H locs ls hw hl
      refine lv_iload_n hC.1 hC.2.1 dJ7_fill_53178_5 rfl (lv_at hl 2 rfl) ?_
      refine lv_iload_n hC.1 hC.2.1 dJ7_fill_53178_6 rfl (lv_at hl 3 rfl) ?_
      refine q_cmpge hC 20 (cNle (by omega) (by omega)) dJ7_fill_53178_7 (by decide) (fun (c2 : 40 ≤ k) => ?_) (fun (c2 : k < 40) => ?_)
      · refine hret _ _ _ _ _ hw ?_ dJ7_fill_53178_20
        have hk9 : k = 40 := by omega
        rw [hk9]
      · refine lv_aload_n hC.1 hC.2.1 dJ7_fill_53178_10 rfl (lv_at hl 0 rfl) ?_
        refine lv_iload_n hC.1 hC.2.1 dJ7_fill_53178_11 rfl (lv_at hl 2 rfl) ?_
        refine lv_iload_n hC.1 hC.2.1 dJ7_fill_53178_12 rfl (lv_at hl 1 rfl) ?_
        refine as_X18 hC hw (by omega) dJ7_fill_53178_13 (fun H locs hw => ?_)
        have hw : Wst E (XW E a) (sr (sr σ 18 (fil k x (σ 18))) 18 (upd (fil k x (σ 18)) k (x))) A s.heap H locs := hw
        have hst_ : sr (sr σ 18 (fil k x (σ 18))) 18 (upd (fil k x (σ 18)) k (x)) = sr σ 18 (upd (fil k x (σ 18)) k (x)) := by
          funext j_ x_
          by_cases e0 : j_ = 0
          · subst e0
            rfl
          · by_cases e18 : j_ = 18
            · subst e18; rfl
            · simp only [sr, e0, e18, if_false]
        rw [hst_] at hw
        refine lv_iinc (v := nI (k + 1)) (lv' := [(2, .int (nI (k + 1))), (0, .ref (a 18)), (1, .int (x)), (3, .int (nI 40))]) hC.1 hC.2.1 dJ7_fill_53178_14 hl (k := 2) rfl (nI_add _ _) (by decide) rfl (fun ls hl => ?_)
        refine lv_goto (tgt := 5) hC.1 hC.2.1 dJ7_fill_53178_17 (by decide) ?_
        rw [fil_s] at hw
        exact ih5 (k + 1) (by omega) (by omega) _ _ _ hw (lv_sub hl [1, 2, 0, 3] rfl)
  have hw : Wst E (XW E a) (sr σ 18 (fil 0 x (σ 18))) A s.heap s.heap [] := by rw [fil_0, sr_id]; exact hw
  exact L5_0 _ 0 (by omega) (Nat.lt_succ_self _) _ _ _ hw (lv_sub hl [2, 3, 1, 0] rfl)
set_option maxHeartbeats 4000000 in
set_option maxRecDepth 100000 in
theorem tJ7_fill_53178_19 (l : Launch) (E : EV) (a : Nat → Nat) (σ : St) (x : Int32) : MV l E (XW E a) yJ7_fill_53178 (Cond.code yJ7_fill_53178 cJ7_fill_53178 4 none) ({ frames := 0, cells := 0, slots := 0, locals := 0 }) [.ref (a 19), .int (x)] σ (fun u_ => u_ = sr σ 19 (fil 80 x (σ 19))) := by
  refine MV.mk (by decide +kernel) (Nat.le_of_ble_eq_true rfl) ?_
  intro p e s m args below meth c ls A Q hret hC hw hl
  have hC : Cxt E p s m args meth c cJ7_fill_53178 4 none RJ7 A := hC
  have hl : lv_has ls 4 [(0, .ref (a 19)), (1, .int (x))] := hl
  refine lv_iconst (v := nI 0) hC.1 hC.2.1 dJ7_fill_53178_0 (by decide) ?_
  refine lv_istore_n (lv' := [(2, .int (nI 0)), (0, .ref (a 19)), (1, .int (x))]) hC.1 hC.2.1 dJ7_fill_53178_1 rfl hl (by decide) rfl (fun ls hl => ?_)
  refine lv_aload_n hC.1 hC.2.1 dJ7_fill_53178_2 rfl (lv_at hl 1 rfl) ?_
  refine q_alen (Wf := XW E a) 29 rfl hC hw dJ7_fill_53178_3 ?_
  refine lv_istore_n (lv' := [(3, .int (nI 80)), (2, .int (nI 0)), (0, .ref (a 19)), (1, .int (x))]) hC.1 hC.2.1 dJ7_fill_53178_4 rfl hl (by decide) rfl (fun ls hl => ?_)
  have L5_0 : ∀ (n : Nat), ∀ (k : Nat), (k ≤ 80) → (80 - k) < n → ∀ (H : Heap) (locs : List Loc) (ls : Array Slot), Wst E (XW E a) (sr σ 19 (fil k x (σ 19))) A s.heap H locs → lv_has ls 4 [(0, .ref (a 19)), (1, .int (x)), (2, .int (nI k)), (3, .int (nI 80))] → W p l e ({ frames := 0, cells := 0, slots := 0, locals := 0 }) s m args below meth c H locs 0 0 Q (F0 m 5 ls []) := by
    intro n
    induction n with
    | zero => intro k hk hn; exact absurd hn (Nat.not_lt_zero _)
    | succ n ih5 =>
      intro k hk hn5 H locs ls hw hl
      refine lv_iload_n hC.1 hC.2.1 dJ7_fill_53178_5 rfl (lv_at hl 2 rfl) ?_
      refine lv_iload_n hC.1 hC.2.1 dJ7_fill_53178_6 rfl (lv_at hl 3 rfl) ?_
      refine q_cmpge hC 20 (cNle (by omega) (by omega)) dJ7_fill_53178_7 (by decide) (fun (c2 : 80 ≤ k) => ?_) (fun (c2 : k < 80) => ?_)
      · refine hret _ _ _ _ _ hw ?_ dJ7_fill_53178_20
        have hk9 : k = 80 := by omega
        rw [hk9]
      · refine lv_aload_n hC.1 hC.2.1 dJ7_fill_53178_10 rfl (lv_at hl 0 rfl) ?_
        refine lv_iload_n hC.1 hC.2.1 dJ7_fill_53178_11 rfl (lv_at hl 2 rfl) ?_
        refine lv_iload_n hC.1 hC.2.1 dJ7_fill_53178_12 rfl (lv_at hl 1 rfl) ?_
        refine as_X19 hC hw (by omega) dJ7_fill_53178_13 (fun H locs hw => ?_)
        have hw : Wst E (XW E a) (sr (sr σ 19 (fil k x (σ 19))) 19 (upd (fil k x (σ 19)) k (x))) A s.heap H locs := hw
        have hst_ : sr (sr σ 19 (fil k x (σ 19))) 19 (upd (fil k x (σ 19)) k (x)) = sr σ 19 (upd (fil k x (σ 19)) k (x)) := by
          funext j_ x_
          by_cases e0 : j_ = 0
          · subst e0
            rfl
          · by_cases e19 : j_ = 19
            · subst e19; rfl
            · simp only [sr, e0, e19, if_false]
        rw [hst_] at hw
        refine lv_iinc (v := nI (k + 1)) (lv' := [(2, .int (nI (k + 1))), (0, .ref (a 19)), (1, .int (x)), (3, .int (nI 80))]) hC.1 hC.2.1 dJ7_fill_53178_14 hl (k := 2) rfl (nI_add _ _) (by decide) rfl (fun ls hl => ?_)
        refine lv_goto (tgt := 5) hC.1 hC.2.1 dJ7_fill_53178_17 (by decide) ?_
        rw [fil_s] at hw
        exact ih5 (k + 1) (by omega) (by omega) _ _ _ hw (lv_sub hl [1, 2, 0, 3] rfl)
  have hw : Wst E (XW E a) (sr σ 19 (fil 0 x (σ 19))) A s.heap s.heap [] := by rw [fil_0, sr_id]; exact hw
  exact L5_0 _ 0 (by omega) (Nat.lt_succ_self _) _ _ _ hw (lv_sub hl [2, 3, 1, 0] rfl)
set_option maxHeartbeats 4000000 in
set_option maxRecDepth 100000 in
theorem tJ7_fill_53178_20 (l : Launch) (E : EV) (a : Nat → Nat) (σ : St) (x : Int32) : MV l E (XW E a) yJ7_fill_53178 (Cond.code yJ7_fill_53178 cJ7_fill_53178 4 none) ({ frames := 0, cells := 0, slots := 0, locals := 0 }) [.ref (a 20), .int (x)] σ (fun u_ => u_ = sr σ 20 (fil 40 x (σ 20))) := by
  refine MV.mk (by decide +kernel) (Nat.le_of_ble_eq_true rfl) ?_
  intro p e s m args below meth c ls A Q hret hC hw hl
  have hC : Cxt E p s m args meth c cJ7_fill_53178 4 none RJ7 A := hC
  have hl : lv_has ls 4 [(0, .ref (a 20)), (1, .int (x))] := hl
  refine lv_iconst (v := nI 0) hC.1 hC.2.1 dJ7_fill_53178_0 (by decide) ?_
  refine lv_istore_n (lv' := [(2, .int (nI 0)), (0, .ref (a 20)), (1, .int (x))]) hC.1 hC.2.1 dJ7_fill_53178_1 rfl hl (by decide) rfl (fun ls hl => ?_)
  refine lv_aload_n hC.1 hC.2.1 dJ7_fill_53178_2 rfl (lv_at hl 1 rfl) ?_
  refine q_alen (Wf := XW E a) 30 rfl hC hw dJ7_fill_53178_3 ?_
  refine lv_istore_n (lv' := [(3, .int (nI 40)), (2, .int (nI 0)), (0, .ref (a 20)), (1, .int (x))]) hC.1 hC.2.1 dJ7_fill_53178_4 rfl hl (by decide) rfl (fun ls hl => ?_)
  have L5_0 : ∀ (n : Nat), ∀ (k : Nat), (k ≤ 40) → (40 - k) < n → ∀ (H : Heap) (locs : List Loc) (ls : Array Slot), Wst E (XW E a) (sr σ 20 (fil k x (σ 20))) A s.heap H locs → lv_has ls 4 [(0, .ref (a 20)), (1, .int (x)), (2, .int (nI k)), (3, .int (nI 40))] → W p l e ({ frames := 0, cells := 0, slots := 0, locals := 0 }) s m args below meth c H locs 0 0 Q (F0 m 5 ls []) := by
    intro n
    induction n with
    | zero => intro k hk hn; exact absurd hn (Nat.not_lt_zero _)
    | succ n ih5 =>
      intro k hk hn5 H locs ls hw hl
      refine lv_iload_n hC.1 hC.2.1 dJ7_fill_53178_5 rfl (lv_at hl 2 rfl) ?_
      refine lv_iload_n hC.1 hC.2.1 dJ7_fill_53178_6 rfl (lv_at hl 3 rfl) ?_
      refine q_cmpge hC 20 (cNle (by omega) (by omega)) dJ7_fill_53178_7 (by decide) (fun (c2 : 40 ≤ k) => ?_) (fun (c2 : k < 40) => ?_)
      · refine hret _ _ _ _ _ hw ?_ dJ7_fill_53178_20
        have hk9 : k = 40 := by omega
        rw [hk9]
      · refine lv_aload_n hC.1 hC.2.1 dJ7_fill_53178_10 rfl (lv_at hl 0 rfl) ?_
        refine lv_iload_n hC.1 hC.2.1 dJ7_fill_53178_11 rfl (lv_at hl 2 rfl) ?_
        refine lv_iload_n hC.1 hC.2.1 dJ7_fill_53178_12 rfl (lv_at hl 1 rfl) ?_
        refine as_X20 hC hw (by omega) dJ7_fill_53178_13 (fun H locs hw => ?_)
        have hw : Wst E (XW E a) (sr (sr σ 20 (fil k x (σ 20))) 20 (upd (fil k x (σ 20)) k (x))) A s.heap H locs := hw
        have hst_ : sr (sr σ 20 (fil k x (σ 20))) 20 (upd (fil k x (σ 20)) k (x)) = sr σ 20 (upd (fil k x (σ 20)) k (x)) := by
          funext j_ x_
          by_cases e0 : j_ = 0
          · subst e0
            rfl
          · by_cases e20 : j_ = 20
            · subst e20; rfl
            · simp only [sr, e0, e20, if_false]
        rw [hst_] at hw
        refine lv_iinc (v := nI (k + 1)) (lv' := [(2, .int (nI (k + 1))), (0, .ref (a 20)), (1, .int (x)), (3, .int (nI 40))]) hC.1 hC.2.1 dJ7_fill_53178_14 hl (k := 2) rfl (nI_add _ _) (by decide) rfl (fun ls hl => ?_)
        refine lv_goto (tgt := 5) hC.1 hC.2.1 dJ7_fill_53178_17 (by decide) ?_
        rw [fil_s] at hw
        exact ih5 (k + 1) (by omega) (by omega) _ _ _ hw (lv_sub hl [1, 2, 0, 3] rfl)
  have hw : Wst E (XW E a) (sr σ 20 (fil 0 x (σ 20))) A s.heap s.heap [] := by rw [fil_0, sr_id]; exact hw
  exact L5_0 _ 0 (by omega) (Nat.lt_succ_self _) _ _ _ hw (lv_sub hl [2, 3, 1, 0] rfl)
set_option maxHeartbeats 4000000 in
set_option maxRecDepth 100000 in
theorem tJ7_fill_53178_21 (l : Launch) (E : EV) (a : Nat → Nat) (σ : St) (x : Int32) : MV l E (XW E a) yJ7_fill_53178 (Cond.code yJ7_fill_53178 cJ7_fill_53178 4 none) ({ frames := 0, cells := 0, slots := 0, locals := 0 }) [.ref (a 21), .int (x)] σ (fun u_ => u_ = sr σ 21 (fil 40 x (σ 21))) := by
  refine MV.mk (by decide +kernel) (Nat.le_of_ble_eq_true rfl) ?_
  intro p e s m args below meth c ls A Q hret hC hw hl
  have hC : Cxt E p s m args meth c cJ7_fill_53178 4 none RJ7 A := hC
  have hl : lv_has ls 4 [(0, .ref (a 21)), (1, .int (x))] := hl
  refine lv_iconst (v := nI 0) hC.1 hC.2.1 dJ7_fill_53178_0 (by decide) ?_
  refine lv_istore_n (lv' := [(2, .int (nI 0)), (0, .ref (a 21)), (1, .int (x))]) hC.1 hC.2.1 dJ7_fill_53178_1 rfl hl (by decide) rfl (fun ls hl => ?_)
  refine lv_aload_n hC.1 hC.2.1 dJ7_fill_53178_2 rfl (lv_at hl 1 rfl) ?_
  refine q_alen (Wf := XW E a) 31 rfl hC hw dJ7_fill_53178_3 ?_
  refine lv_istore_n (lv' := [(3, .int (nI 40)), (2, .int (nI 0)), (0, .ref (a 21)), (1, .int (x))]) hC.1 hC.2.1 dJ7_fill_53178_4 rfl hl (by decide) rfl (fun ls hl => ?_)
  have L5_0 : ∀ (n : Nat), ∀ (k : Nat), (k ≤ 40) → (40 - k) < n → ∀ (H : Heap) (locs : List Loc) (ls : Array Slot), Wst E (XW E a) (sr σ 21 (fil k x (σ 21))) A s.heap H locs → lv_has ls 4 [(0, .ref (a 21)), (1, .int (x)), (2, .int (nI k)), (3, .int (nI 40))] → W p l e ({ frames := 0, cells := 0, slots := 0, locals := 0 }) s m args below meth c H locs 0 0 Q (F0 m 5 ls []) := by
    intro n
    induction n with
    | zero => intro k hk hn; exact absurd hn (Nat.not_lt_zero _)
    | succ n ih5 =>
      intro k hk hn5 H locs ls hw hl
      refine lv_iload_n hC.1 hC.2.1 dJ7_fill_53178_5 rfl (lv_at hl 2 rfl) ?_
      refine lv_iload_n hC.1 hC.2.1 dJ7_fill_53178_6 rfl (lv_at hl 3 rfl) ?_
      refine q_cmpge hC 20 (cNle (by omega) (by omega)) dJ7_fill_53178_7 (by decide) (fun (c2 : 40 ≤ k) => ?_) (fun (c2 : k < 40) => ?_)
      · refine hret _ _ _ _ _ hw ?_ dJ7_fill_53178_20
        have hk9 : k = 40 := by omega
        rw [hk9]
      · refine lv_aload_n hC.1 hC.2.1 dJ7_fill_53178_10 rfl (lv_at hl 0 rfl) ?_
        refine lv_iload_n hC.1 hC.2.1 dJ7_fill_53178_11 rfl (lv_at hl 2 rfl) ?_
        refine lv_iload_n hC.1 hC.2.1 dJ7_fill_53178_12 rfl (lv_at hl 1 rfl) ?_
        refine as_X21 hC hw (by omega) dJ7_fill_53178_13 (fun H locs hw => ?_)
        have hw : Wst E (XW E a) (sr (sr σ 21 (fil k x (σ 21))) 21 (upd (fil k x (σ 21)) k (x))) A s.heap H locs := hw
        have hst_ : sr (sr σ 21 (fil k x (σ 21))) 21 (upd (fil k x (σ 21)) k (x)) = sr σ 21 (upd (fil k x (σ 21)) k (x)) := by
          funext j_ x_
          by_cases e0 : j_ = 0
          · subst e0
            rfl
          · by_cases e21 : j_ = 21
            · subst e21; rfl
            · simp only [sr, e0, e21, if_false]
        rw [hst_] at hw
        refine lv_iinc (v := nI (k + 1)) (lv' := [(2, .int (nI (k + 1))), (0, .ref (a 21)), (1, .int (x)), (3, .int (nI 40))]) hC.1 hC.2.1 dJ7_fill_53178_14 hl (k := 2) rfl (nI_add _ _) (by decide) rfl (fun ls hl => ?_)
        refine lv_goto (tgt := 5) hC.1 hC.2.1 dJ7_fill_53178_17 (by decide) ?_
        rw [fil_s] at hw
        exact ih5 (k + 1) (by omega) (by omega) _ _ _ hw (lv_sub hl [1, 2, 0, 3] rfl)
  have hw : Wst E (XW E a) (sr σ 21 (fil 0 x (σ 21))) A s.heap s.heap [] := by rw [fil_0, sr_id]; exact hw
  exact L5_0 _ 0 (by omega) (Nat.lt_succ_self _) _ _ _ hw (lv_sub hl [2, 3, 1, 0] rfl)
