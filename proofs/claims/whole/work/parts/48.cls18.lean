/-! ===== REPACKING ===== -/
theorem wk_min1 : (Cond.static Lib.Math.min.name) ∈ tw := wk4_23
theorem wk_min2 : (Cond.code Lib.Math.min.name Lib.Math.min.code 2 (some .int)) ∈ tw := wk4_24
section QM
variable {p : Program} {l : Launch} {e : Env} {R : Room} {s : State} {m : MethodId} {args : Array Value} {below : List Frame} {meth : Method} {c : Code} {H : Heap} {locs : List Loc} {Q : State → Prop} {E : EV} {A : Nat → Prop} {cc : ByteArray} {nL pc : Nat} {ret : Option FieldType} {own : String} {ls : Array Slot} {rest : List Value} {Wf : St → va_W} {σ : St} {a : Nat → Nat}
theorem q_min {index : Nat} {x y : Int32} (hC : Cxt E p s m args meth c cc nL ret own A) {lv : List (Nat × Value)} (hlv : lv_has ls nL lv) (hR : 1 ≤ R.frames ∧ (rest.map fun v => v.category).sum + 13 ≤ R.locals) (hlink : Cond.methodLink own index Lib.Math.min.name ∈ tw) (hdg : decode cc pc = .ok (.invokestatic index, 3))
    (kk : W p l e R s m args below meth c H locs 0 0 Q (F0 m (pc + 3) ls (.int (if y < x then y else x) :: rest))) : W p l e R s m args below meth c H locs 0 0 Q (F0 m pc ls (.int y :: .int x :: rest)) :=
  va_mmin hC.1 hC.2.1 (hC.2.2.1.trans hlv.1.symm) hC.2.2.2.1 (hC.2.2.2.2.1 _ hlink) (hC.2.2.2.2.1 _ wk_min1) (hC.2.2.2.2.1 _ wk1_15) (hC.2.2.2.2.1 _ wk_min2) hR.1 hR.2 (Nat.zero_le _) (Nat.zero_le _) hdg kk
end QM
theorem or_n (a b : Nat) : nI a ||| nI b = nI (a ||| b) := by
  refine Int32.toBitVec_inj.mp (BitVec.eq_of_toNat_eq ?_)
  show (BitVec.ofNat 32 a ||| BitVec.ofNat 32 b).toNat = (BitVec.ofNat 32 (a ||| b)).toNat
  rw [BitVec.toNat_or, BitVec.toNat_ofNat, BitVec.toNat_ofNat, BitVec.toNat_ofNat, Nat.or_mod_two_pow]
/-- how many bits, as the JDK counts them -/
def bc1 (x : Int32) : Int32 := x - ((x.toUInt32 >>> (Int32.toUInt32 (1) &&& Int32.toUInt32 31)).toInt32 &&& 1431655765)
def bc2' (x : Int32) : Int32 := (bc1 x &&& 858993459) + (((bc1 x).toUInt32 >>> (Int32.toUInt32 (2) &&& Int32.toUInt32 31)).toInt32 &&& 858993459)
def bc3 (x : Int32) : Int32 := (bc2' x + ((bc2' x).toUInt32 >>> (Int32.toUInt32 (4) &&& Int32.toUInt32 31)).toInt32) &&& 252645135
def bc4 (x : Int32) : Int32 := bc3 x + ((bc3 x).toUInt32 >>> (Int32.toUInt32 (8) &&& Int32.toUInt32 31)).toInt32
def bc5 (x : Int32) : Int32 := bc4 x + ((bc4 x).toUInt32 >>> (Int32.toUInt32 (16) &&& Int32.toUInt32 31)).toInt32
def bcx (x : Int32) : Int32 := bc5 x &&& 63
def pcn (u : Nat) : Nat → Nat
  | 0 => 0
  | n + 1 => pcn u n + if u.testBit n then 1 else 0
def pcq9 (u : Nat) : Bool := decide (bcx (nI u) = nI (pcn u 10) ∧ m_cnt (nI u) 10 = nI (pcn u 10))
theorem pcq_all : (List.range 1024).all pcq9 = true := by decide +kernel
theorem pc_at {u : Nat} (h : u < 1024) : bcx (nI u) = nI (pcn u 10) ∧ m_cnt (nI u) 10 = nI (pcn u 10) := of_decide_eq_true (List.all_eq_true.mp pcq_all u (List.mem_range.mpr h))
theorem pcn_mono {u w : Nat} (h : ∀ i, u.testBit i = true → w.testBit i = true) : ∀ n, pcn u n ≤ pcn w n
  | 0 => Nat.le_refl _
  | n + 1 => by
    have ih := pcn_mono h n
    rw [pcn, pcn]
    by_cases e : u.testBit n = true
    · rw [if_pos e, if_pos (h n e)]; omega
    · rw [if_neg e]; omega
theorem pcn_le {u : Nat} : ∀ n, pcn u n ≤ n
  | 0 => Nat.le_refl _
  | n + 1 => by rw [pcn]; have := pcn_le (u := u) n; split <;> omega
/-- the hosts of the first n, as bits -/
def ub (q : Nat → Nat) : Nat → Nat
  | 0 => 0
  | n + 1 => ub q n ||| 2 ^ q n
theorem ub_lt {q : Nat → Nat} : ∀ {n : Nat}, (∀ k, k < n → q k < 10) → ub q n < 1024
  | 0, _ => by show 0 < 1024; decide
  | n + 1, h => Nat.or_lt_two_pow (n := 10) (ub_lt (n := n) (fun k hk => h k (by omega))) (Nat.pow_lt_pow_right (by decide) (h n (by omega)))
theorem sh_n {j : Nat} (h : j < 10) : (1 : Int32) <<< (nI j &&& 31) = nI (2 ^ j) := by
  have key : ∀ i, i < 10 → (1 : Int32) <<< (nI i &&& 31) = nI (2 ^ i) := by decide +kernel
  exact key j h
theorem bits_ub {q : Nat → Nat} : ∀ {n : Nat}, (∀ k, k < n → q k < 10) → bitsC q n = nI (ub q n)
  | 0, _ => rfl
  | n + 1, h => by rw [bitsC, ub, bits_ub (n := n) (fun k hk => h k (by omega)), sh_n (h n (by omega)), or_n]
def pcq (q : Nat → Nat) (n : Nat) : Nat := pcn (ub q n) 10
theorem pcq_bc {q : Nat → Nat} {n : Nat} (h : ∀ k, k < n → q k < 10) : bcx (bitsC q n) = nI (pcq q n) := by rw [bits_ub h]; exact (pc_at (ub_lt h)).1
theorem pcq_cn {q : Nat → Nat} {n : Nat} (h : ∀ k, k < n → q k < 10) : cnC q n = nI (pcq q n) := by unfold cnC; rw [bits_ub h]; exact (pc_at (ub_lt h)).2
theorem ub_mono {q : Nat → Nat} {i : Nat} {n : Nat} (h : (ub q n).testBit i = true) : ∀ d, (ub q (n + d)).testBit i = true
  | 0 => h
  | d + 1 => by rw [← Nat.add_assoc, ub, Nat.testBit_or, ub_mono h d, Bool.true_or]
theorem pcq_mono {q : Nat → Nat} {n m : Nat} (h : n ≤ m) : pcq q n ≤ pcq q m := by
  obtain ⟨d, rfl⟩ : ∃ d, m = n + d := ⟨m - n, by omega⟩
  exact pcn_mono (fun i hi => ub_mono hi d) 10
theorem ub_congr {p q : Nat → Nat} : ∀ {n : Nat}, (∀ k, k < n → p k = q k) → ub p n = ub q n
  | 0, _ => rfl
  | n + 1, h => by rw [ub, ub, ub_congr (fun k hk => h k (by omega)), h n (by omega)]
theorem pcq_congr {p q : Nat → Nat} {n : Nat} (h : ∀ k, k < n → p k = q k) : pcq p n = pcq q n := by unfold pcq; rw [ub_congr h]
def cut (p : Nat → Nat) (k : Nat) : Nat → Nat := fun i => if i < k then p i else 10
theorem cut_s {p : Nat → Nat} {k h : Nat} : cut (pu p k h) (k + 1) = pu (cut p k) k h := funext fun i => by
  show (if i < k + 1 then (if i = k then h else p i) else 10) = (if i = k then h else (if i < k then p i else 10))
  by_cases e : i = k
  · subst e; rw [if_pos (by omega), if_pos rfl, if_pos rfl]
  · rw [if_neg e, if_neg e]
    by_cases z : i < k
    · rw [if_pos (by omega), if_pos z]
    · rw [if_neg (by omega), if_neg z]
section RP
variable {E0 : St} {F : Nat → Nat} {fm nh nj : Nat} {P0 : Nat → Int32}
theorem Fea.lt {p : Nat → Nat} {n : Nat} (h : Fea E0 F fm P0 nh nj p n) (hn : nh ≤ 10) : ∀ k, k < n → p k < 10 := fun k hk => by have := (h k hk).1; omega
theorem fit_cut {p : Nat → Nat} {k h : Nat} (hF : Fok F fm nj) (hk : k < fm) : m_why E0 (pP F P0 (cut p k) fm) nh nj (F k) h = 0 ↔ fitC E0 F fm P0 nh nj (cut p k) k h := by
  unfold fitC
  rw [upd_same ((pP_at hF.2 hk).trans (by rw [show cut p k k = 10 from if_neg (Nat.lt_irrefl _)]; rfl))]
theorem Fea.s {p : Nat → Nat} {k h : Nat} (hp : Fea E0 F fm P0 nh nj p k) (hh : h < nh) (hf : fitC E0 F fm P0 nh nj (cut p k) k h) : Fea E0 F fm P0 nh nj (pu p k h) (k + 1) := fun i hi => by
  by_cases e : i = k
  · subst e
    rw [show pu p i h i = h from if_pos rfl]
    refine ⟨hh, (fitC_congr (fun x _ => ?_)).mp hf⟩
    show (if x < i then p x else 10) = (if x < i then (if x = i then h else p x) else 10)
    by_cases z : x < i
    · rw [if_pos z, if_pos z, if_neg (by omega)]
    · rw [if_neg z, if_neg z]
  · have a := hp i (by omega)
    rw [show pu p k h i = p i from if_neg e]
    refine ⟨a.1, (fitC_congr (fun x _ => ?_)).mp a.2⟩
    show (if x < i then p x else 10) = (if x < i then (if x = k then h else p x) else 10)
    by_cases z : x < i
    · rw [if_pos z, if_pos z, if_neg (by omega)]
    · rw [if_neg z, if_neg z]
theorem cut_TL {p : Nat → Nat} {k h : Nat} (hF : Fok F fm nj) (hk : k < fm) (hh : h < 10) : TL (pP F P0 (cut p k) fm) (pP F P0 (cut (pu p k h) (k + 1)) fm) (F k) h 1 :=
  Or.inl ⟨rfl, (pP_at hF.2 hk).trans (by rw [show cut p k k = 10 from if_neg (Nat.lt_irrefl _)]; rfl), funext fun j => by
    rw [cut_s, pP_pu hF hk j, show plc h = nI h from if_neg (by omega)]⟩
theorem cut_TL2 {p : Nat → Nat} {k h : Nat} (hF : Fok F fm nj) (hk : k < fm) (hh : h < 10) : TL (pP F P0 (cut (pu p k h) (k + 1)) fm) (pP F P0 (cut p k) fm) (F k) h (-1) := by
  have h1 := cut_TL (P0 := P0) (p := p) hF hk hh
  rcases h1 with ⟨-, h2, h3⟩ | ⟨h2, -⟩
  · refine Or.inr ⟨rfl, by rw [h3, ups], ?_⟩
    rw [h3, upd_upd9, upd_same h2]
  · exact absurd h2 (by decide)
/-- the least found: b was there before -/
def LB (E0 : St) (F : Nat → Nat) (fm : Nat) (P0 : Nat → Int32) (nh nj b b' : Nat) : Prop := b' ≤ b ∧ (b' = b ∨ ∃ q, Fea E0 F fm P0 nh nj q fm ∧ b' = pcq q fm)
theorem LB.tr {b b' b2 : Nat} (h : LB E0 F fm P0 nh nj b b') (h2 : LB E0 F fm P0 nh nj b' b2) : LB E0 F fm P0 nh nj b b2 :=
  ⟨Nat.le_trans h2.1 h.1, h2.2.elim (fun e => by rw [e]; exact h.2) Or.inr⟩
/-- all that begin so are no better -/
def NB (E0 : St) (F : Nat → Nat) (fm : Nat) (P0 : Nat → Int32) (nh nj : Nat) (p : Nat → Nat) (k b : Nat) : Prop := ∀ q, Fea E0 F fm P0 nh nj q fm → (∀ i, i < k → q i = p i) → b ≤ pcq q fm
def NH (E0 : St) (F : Nat → Nat) (fm : Nat) (P0 : Nat → Int32) (nh nj : Nat) (p : Nat → Nat) (k h b : Nat) : Prop := ∀ q, Fea E0 F fm P0 nh nj q fm → (∀ i, i < k → q i = p i) → q k < h → b ≤ pcq q fm
theorem NH.next {p : Nat → Nat} {k h b : Nat} (hN : NH E0 F fm P0 nh nj p k h b) (hnew : ∀ q, Fea E0 F fm P0 nh nj q fm → (∀ i, i < k → q i = p i) → q k = h → b ≤ pcq q fm) : NH E0 F fm P0 nh nj p k (h + 1) b := fun q hq hp hk => by
  by_cases e : q k = h
  · exact hnew q hq hp e
  · exact hN q hq hp (by omega)
theorem NH.le {p : Nat → Nat} {k h b b' : Nat} (hN : NH E0 F fm P0 nh nj p k h b) (hb : b' ≤ b) : NH E0 F fm P0 nh nj p k h b' := fun q hq hp hk => Nat.le_trans hb (hN q hq hp hk)
theorem NB.of {p : Nat → Nat} {k b : Nat} (hN : NH E0 F fm P0 nh nj p k nh b) (hk : k < fm) : NB E0 F fm P0 nh nj p k b := fun q hq hp => hN q hq hp (hq k hk).1
theorem pre_pu {p q : Nat → Nat} {k h : Nat} (hp : ∀ i, i < k → q i = p i) (hk : q k = h) : ∀ i, i < k + 1 → q i = pu p k h i := fun i hi => by
  show _ = if i = k then h else p i
  by_cases e : i = k
  · rw [if_pos e, e]; exact hk
  · rw [if_neg e]; exact hp i (by omega)
theorem nb_prune {p : Nat → Nat} {k h b : Nat} (hk : k < fm) (hle : b ≤ pcq (pu p k h) (k + 1)) : ∀ q, Fea E0 F fm P0 nh nj q fm → (∀ i, i < k → q i = p i) → q k = h → b ≤ pcq q fm := fun q hq hp he =>
  Nat.le_trans hle (by rw [← pcq_congr (pre_pu hp he)]; exact pcq_mono (by omega))
theorem nb_nofit {p : Nat → Nat} {k h b : Nat} (hk : k < fm) (hf : ¬ fitC E0 F fm P0 nh nj (cut p k) k h) : ∀ q, Fea E0 F fm P0 nh nj q fm → (∀ i, i < k → q i = p i) → q k = h → b ≤ pcq q fm := fun q hq hp he => by
  have a := (hq k hk).2
  rw [he] at a
  refine absurd ((fitC_congr (fun x _ => ?_)).mp a) hf
  unfold cut
  by_cases z : x < k
  · rw [if_pos z, if_pos z, hp x z]
  · rw [if_neg z, if_neg z]
end RP
