theorem o_step_eq {n : Nat} {f g f2 g2 : Nat → Int32} {i w : Int32} (h8 : n ≤ 8) (h : ∀ i, i < n → f i = f2 i ∧ g i = g2 i) : o_step n f g i w = o_step n f2 g2 i w := by
  unfold o_step
  by_cases q : okB i n ∧ okB w 2
  · rw [if_pos q, if_pos q]
    obtain ⟨k, hk, ek⟩ := okB_n q.1
    have e : cN i = k := by rw [ek]; exact nI_clamp (by omega)
    rw [e, (h k hk).1, (h k hk).2]
  · rw [if_neg q, if_neg q]
section LAWC
variable {p : Program} {l : Launch} {e : Env} {s : State} {m : MethodId} {below : List Frame} {meth : Method} {c : Code} {H : Heap} {locs : List Loc} {cells slots : Nat} {Q : State → Prop} {E : EV} {A : Nat → Prop} {ls : Array Slot} {a a' : Nat → Nat} {σ τ : St} {b L i T : Nat} {xs : Nat → Int32}
set_option maxHeartbeats 4000000 in
set_option maxRecDepth 100000 in
theorem law_host (hC : Cxt E p s m #[.ref b] meth c cL_law 4 ret R_law A) (hX : va_X b L xs s s.heap) (hbl : b < s.heap.size) (hbA : ¬ A b) (hL : L ≤ 4608) (hi : i + 9 ≤ L) (hcs : cells ≤ room_1.cells ∧ slots ≤ room_1.slots) (hT : T < 2 ^ 29) (hI : INVx σ τ T) (hw : Wk E (XW E a σ ++ MW E a' τ) A s.heap H locs) (hl : lv_has ls 4 [(0, .ref b), (1, .ref (a 71)), (2, .ref (a' 70)), (3, .int (nI i))])
    (kk : ∀ (σ' τ' : St) (H : Heap) (locs : List Loc), INVx σ' τ' (T + 24) → Wk E (XW E a σ' ++ MW E a' τ') A s.heap H locs → W p l e room_1 s m #[.ref b] below meth c H locs cells slots Q (F0 m 815 ls [])) : W p l e room_1 s m #[.ref b] below meth c H locs cells slots Q (F0 m 140 ls []) := by
  obtain ⟨nh, nj, stk, hI⟩ := hI
  refine lv_aload_n hC.1 hC.2.1 dL_law_140 rfl (lv_at hl 1 rfl) ?_
  refine lv_aload_n hC.1 hC.2.1 dL_law_141 rfl (lv_at hl 0 rfl) ?_
  refine lv_iload_n hC.1 hC.2.1 dL_law_142 rfl (lv_at hl 3 rfl) ?_
  refine lv_iconst (v := nI 1) hC.1 hC.2.1 dL_law_143 (by decide) ?_
  refine l_addN hC dL_law_144 ?_
  refine l_sld hC hX hbl hbA hw.2.2 (by omega) (by omega) dL_law_145 ?_
  refine lv_aload_n hC.1 hC.2.1 dL_law_146 rfl (lv_at hl 0 rfl) ?_
  refine lv_iload_n hC.1 hC.2.1 dL_law_147 rfl (lv_at hl 3 rfl) ?_
  refine lv_iconst (v := nI 2) hC.1 hC.2.1 dL_law_148 (by decide) ?_
  refine l_addN hC dL_law_149 ?_
  refine l_sld hC hX hbl hbA hw.2.2 (by omega) (by omega) dL_law_150 ?_
  refine lv_aload_n hC.1 hC.2.1 dL_law_151 rfl (lv_at hl 0 rfl) ?_
  refine lv_iload_n hC.1 hC.2.1 dL_law_152 rfl (lv_at hl 3 rfl) ?_
  refine lv_iconst (v := nI 3) hC.1 hC.2.1 dL_law_153 (by decide) ?_
  refine l_addN hC dL_law_154 ?_
  refine l_sld hC hX hbl hbA hw.2.2 (by omega) (by omega) dL_law_155 ?_
  refine lv_aload_n hC.1 hC.2.1 dL_law_156 rfl (lv_at hl 0 rfl) ?_
  refine lv_iload_n hC.1 hC.2.1 dL_law_157 rfl (lv_at hl 3 rfl) ?_
  refine lv_iconst (v := nI 4) hC.1 hC.2.1 dL_law_158 (by decide) ?_
  refine l_addN hC dL_law_159 ?_
  refine l_sld hC hX hbl hbA hw.2.2 (by omega) (by omega) dL_law_160 ?_
  refine lv_aload_n hC.1 hC.2.1 dL_law_161 rfl (lv_at hl 0 rfl) ?_
  refine lv_iload_n hC.1 hC.2.1 dL_law_162 rfl (lv_at hl 3 rfl) ?_
  refine lv_iconst (v := nI 5) hC.1 hC.2.1 dL_law_163 (by decide) ?_
  refine l_addN hC dL_law_164 ?_
  refine l_sld hC hX hbl hbA hw.2.2 (by omega) (by omega) dL_law_165 ?_
  refine l_call (Wf := XW E a) (As := [.int (xs (i + 1)), .int (xs (i + 2)), .int (xs (i + 3)), .int (xs (i + 4)), .int (xs (i + 5))]) (rest := []) (q0 := 0) hC hw hl (tX10_host l E a σ nh nj (τ 1) stk T (xs (i + 1)) (xs (i + 2)) (xs (i + 3)) (xs (i + 4)) (xs (i + 5)) hI.1) (q_cwV hC.2.2.2.2.1 ⟨rfl, rfl⟩ wk2_168 wk2_169 wk2_170 wk1_1 wk2_171 hd_X10_host ⟨Nat.le_of_ble_eq_true rfl, Nat.le_of_ble_eq_true rfl⟩) rfl rfl rfl rfl rfl (Nat.le_of_ble_eq_true rfl) dL_law_166 hcs (fun r1 σ1 H locs h1 hw => ?_)
  have hw := hw.swap
  refine lv_aload_n hC.1 hC.2.1 dL_law_169 rfl (lv_at hl 2 rfl) ?_
  refine lv_aload_n hC.1 hC.2.1 dL_law_170 rfl (lv_at hl 0 rfl) ?_
  refine lv_iload_n hC.1 hC.2.1 dL_law_171 rfl (lv_at hl 3 rfl) ?_
  refine lv_iconst (v := nI 1) hC.1 hC.2.1 dL_law_172 (by decide) ?_
  refine l_addN hC dL_law_173 ?_
  refine l_sld hC hX hbl hbA hw.2.2 (by omega) (by omega) dL_law_174 ?_
  refine lv_aload_n hC.1 hC.2.1 dL_law_175 rfl (lv_at hl 0 rfl) ?_
  refine lv_iload_n hC.1 hC.2.1 dL_law_176 rfl (lv_at hl 3 rfl) ?_
  refine lv_iconst (v := nI 2) hC.1 hC.2.1 dL_law_177 (by decide) ?_
  refine l_addN hC dL_law_178 ?_
  refine l_sld hC hX hbl hbA hw.2.2 (by omega) (by omega) dL_law_179 ?_
  refine lv_aload_n hC.1 hC.2.1 dL_law_180 rfl (lv_at hl 0 rfl) ?_
  refine lv_iload_n hC.1 hC.2.1 dL_law_181 rfl (lv_at hl 3 rfl) ?_
  refine lv_iconst (v := nI 3) hC.1 hC.2.1 dL_law_182 (by decide) ?_
  refine l_addN hC dL_law_183 ?_
  refine l_sld hC hX hbl hbA hw.2.2 (by omega) (by omega) dL_law_184 ?_
  refine lv_aload_n hC.1 hC.2.1 dL_law_185 rfl (lv_at hl 0 rfl) ?_
  refine lv_iload_n hC.1 hC.2.1 dL_law_186 rfl (lv_at hl 3 rfl) ?_
  refine lv_iconst (v := nI 4) hC.1 hC.2.1 dL_law_187 (by decide) ?_
  refine l_addN hC dL_law_188 ?_
  refine l_sld hC hX hbl hbA hw.2.2 (by omega) (by omega) dL_law_189 ?_
  refine lv_aload_n hC.1 hC.2.1 dL_law_190 rfl (lv_at hl 0 rfl) ?_
  refine lv_iload_n hC.1 hC.2.1 dL_law_191 rfl (lv_at hl 3 rfl) ?_
  refine lv_iconst (v := nI 5) hC.1 hC.2.1 dL_law_192 (by decide) ?_
  refine l_addN hC dL_law_193 ?_
  refine l_sld hC hX hbl hbA hw.2.2 (by omega) (by omega) dL_law_194 ?_
  refine l_call (Wf := MW E a') (As := [.int (xs (i + 1)), .int (xs (i + 2)), .int (xs (i + 3)), .int (xs (i + 4)), .int (xs (i + 5))]) (rest := [.int r1]) (q0 := 0) hC hw hl (tX11_host l E a' τ nh nj stk (xs (i + 1)) (xs (i + 2)) (xs (i + 3)) (xs (i + 4)) (xs (i + 5)) hI.mf hI.2.2.1 hI.2.1) (q_cwV hC.2.2.2.2.1 ⟨rfl, rfl⟩ wk4_168 wk4_169 wk4_170 wk1_12 wk4_171 hd_X11_host ⟨Nat.le_of_ble_eq_true rfl, Nat.le_of_ble_eq_true rfl⟩) rfl rfl rfl rfl rfl (Nat.le_of_ble_eq_true rfl) dL_law_195 hcs (fun r2 τ1 H locs h2 hw => ?_)
  have hw := hw.swap
  have hS : r1 = r2 ∧ INVx σ1 τ1 (T + 24) := by
    exact ⟨h1.1.trans h2.1.symm, hI.up h1.2.1 h1.2.2 h2.2⟩
  refine lv_icmp_eq (tgt := 815) hC.1 hC.2.1 dL_law_198 (by decide) (fun _ => ?_) (fun c0 => absurd hS.1 c0)
  exact kk σ1 τ1 H locs hS.2 hw
set_option maxHeartbeats 4000000 in
set_option maxRecDepth 100000 in
theorem law_job (hC : Cxt E p s m #[.ref b] meth c cL_law 4 ret R_law A) (hX : va_X b L xs s s.heap) (hbl : b < s.heap.size) (hbA : ¬ A b) (hL : L ≤ 4608) (hi : i + 9 ≤ L) (hcs : cells ≤ room_1.cells ∧ slots ≤ room_1.slots) (hT : T < 2 ^ 29) (hI : INVx σ τ T) (hw : Wk E (XW E a σ ++ MW E a' τ) A s.heap H locs) (hl : lv_has ls 4 [(0, .ref b), (1, .ref (a 71)), (2, .ref (a' 70)), (3, .int (nI i))])
    (kk : ∀ (σ' τ' : St) (H : Heap) (locs : List Loc), INVx σ' τ' (T + 24) → Wk E (XW E a σ' ++ MW E a' τ') A s.heap H locs → W p l e room_1 s m #[.ref b] below meth c H locs cells slots Q (F0 m 815 ls [])) : W p l e room_1 s m #[.ref b] below meth c H locs cells slots Q (F0 m 203 ls []) := by
  obtain ⟨nh, nj, stk, hI⟩ := hI
  refine lv_aload_n hC.1 hC.2.1 dL_law_203 rfl (lv_at hl 1 rfl) ?_
  refine lv_aload_n hC.1 hC.2.1 dL_law_204 rfl (lv_at hl 0 rfl) ?_
  refine lv_iload_n hC.1 hC.2.1 dL_law_205 rfl (lv_at hl 3 rfl) ?_
  refine lv_iconst (v := nI 1) hC.1 hC.2.1 dL_law_206 (by decide) ?_
  refine l_addN hC dL_law_207 ?_
  refine l_sld hC hX hbl hbA hw.2.2 (by omega) (by omega) dL_law_208 ?_
  refine lv_aload_n hC.1 hC.2.1 dL_law_209 rfl (lv_at hl 0 rfl) ?_
  refine lv_iload_n hC.1 hC.2.1 dL_law_210 rfl (lv_at hl 3 rfl) ?_
  refine lv_iconst (v := nI 2) hC.1 hC.2.1 dL_law_211 (by decide) ?_
  refine l_addN hC dL_law_212 ?_
  refine l_sld hC hX hbl hbA hw.2.2 (by omega) (by omega) dL_law_213 ?_
  refine lv_aload_n hC.1 hC.2.1 dL_law_214 rfl (lv_at hl 0 rfl) ?_
  refine lv_iload_n hC.1 hC.2.1 dL_law_215 rfl (lv_at hl 3 rfl) ?_
  refine lv_iconst (v := nI 3) hC.1 hC.2.1 dL_law_216 (by decide) ?_
  refine l_addN hC dL_law_217 ?_
  refine l_sld hC hX hbl hbA hw.2.2 (by omega) (by omega) dL_law_218 ?_
  refine lv_aload_n hC.1 hC.2.1 dL_law_219 rfl (lv_at hl 0 rfl) ?_
  refine lv_iload_n hC.1 hC.2.1 dL_law_220 rfl (lv_at hl 3 rfl) ?_
  refine lv_iconst (v := nI 4) hC.1 hC.2.1 dL_law_221 (by decide) ?_
  refine l_addN hC dL_law_222 ?_
  refine l_sld hC hX hbl hbA hw.2.2 (by omega) (by omega) dL_law_223 ?_
  refine lv_aload_n hC.1 hC.2.1 dL_law_224 rfl (lv_at hl 0 rfl) ?_
  refine lv_iload_n hC.1 hC.2.1 dL_law_225 rfl (lv_at hl 3 rfl) ?_
  refine lv_iconst (v := nI 5) hC.1 hC.2.1 dL_law_226 (by decide) ?_
  refine l_addN hC dL_law_227 ?_
  refine l_sld hC hX hbl hbA hw.2.2 (by omega) (by omega) dL_law_228 ?_
  refine lv_aload_n hC.1 hC.2.1 dL_law_229 rfl (lv_at hl 0 rfl) ?_
  refine lv_iload_n hC.1 hC.2.1 dL_law_230 rfl (lv_at hl 3 rfl) ?_
  refine lv_bipush (v := nI 6) hC.1 hC.2.1 dL_law_231 (by decide) ?_
  refine l_addN hC dL_law_233 ?_
  refine l_sld hC hX hbl hbA hw.2.2 (by omega) (by omega) dL_law_234 ?_
  refine lv_aload_n hC.1 hC.2.1 dL_law_235 rfl (lv_at hl 0 rfl) ?_
  refine lv_iload_n hC.1 hC.2.1 dL_law_236 rfl (lv_at hl 3 rfl) ?_
  refine lv_bipush (v := nI 7) hC.1 hC.2.1 dL_law_237 (by decide) ?_
  refine l_addN hC dL_law_239 ?_
  refine l_sld hC hX hbl hbA hw.2.2 (by omega) (by omega) dL_law_240 ?_
  refine lv_aload_n hC.1 hC.2.1 dL_law_241 rfl (lv_at hl 0 rfl) ?_
  refine lv_iload_n hC.1 hC.2.1 dL_law_242 rfl (lv_at hl 3 rfl) ?_
  refine lv_bipush (v := nI 8) hC.1 hC.2.1 dL_law_243 (by decide) ?_
  refine l_addN hC dL_law_245 ?_
  refine l_sld hC hX hbl hbA hw.2.2 (by omega) (by omega) dL_law_246 ?_
  refine l_call (Wf := XW E a) (As := [.int (xs (i + 1)), .int (xs (i + 2)), .int (xs (i + 3)), .int (xs (i + 4)), .int (xs (i + 5)), .int (xs (i + 6)), .int (xs (i + 7)), .int (xs (i + 8))]) (rest := []) (q0 := 0) hC hw hl (tX10_job l E a σ nh nj (τ 1) stk T (xs (i + 1)) (xs (i + 2)) (xs (i + 3)) (xs (i + 4)) (xs (i + 5)) (xs (i + 6)) (xs (i + 7)) (xs (i + 8)) hI.1) (q_cwV hC.2.2.2.2.1 ⟨rfl, rfl⟩ wk2_212 wk2_213 wk2_214 wk1_1 wk2_215 hd_X10_job ⟨Nat.le_of_ble_eq_true rfl, Nat.le_of_ble_eq_true rfl⟩) rfl rfl rfl rfl rfl (Nat.le_of_ble_eq_true rfl) dL_law_247 hcs (fun r1 σ1 H locs h1 hw => ?_)
  have hw := hw.swap
  refine lv_aload_n hC.1 hC.2.1 dL_law_250 rfl (lv_at hl 2 rfl) ?_
  refine lv_aload_n hC.1 hC.2.1 dL_law_251 rfl (lv_at hl 0 rfl) ?_
  refine lv_iload_n hC.1 hC.2.1 dL_law_252 rfl (lv_at hl 3 rfl) ?_
  refine lv_iconst (v := nI 1) hC.1 hC.2.1 dL_law_253 (by decide) ?_
  refine l_addN hC dL_law_254 ?_
  refine l_sld hC hX hbl hbA hw.2.2 (by omega) (by omega) dL_law_255 ?_
  refine lv_aload_n hC.1 hC.2.1 dL_law_256 rfl (lv_at hl 0 rfl) ?_
  refine lv_iload_n hC.1 hC.2.1 dL_law_257 rfl (lv_at hl 3 rfl) ?_
  refine lv_iconst (v := nI 2) hC.1 hC.2.1 dL_law_258 (by decide) ?_
  refine l_addN hC dL_law_259 ?_
  refine l_sld hC hX hbl hbA hw.2.2 (by omega) (by omega) dL_law_260 ?_
  refine lv_aload_n hC.1 hC.2.1 dL_law_261 rfl (lv_at hl 0 rfl) ?_
  refine lv_iload_n hC.1 hC.2.1 dL_law_262 rfl (lv_at hl 3 rfl) ?_
  refine lv_iconst (v := nI 3) hC.1 hC.2.1 dL_law_263 (by decide) ?_
  refine l_addN hC dL_law_264 ?_
  refine l_sld hC hX hbl hbA hw.2.2 (by omega) (by omega) dL_law_265 ?_
  refine lv_aload_n hC.1 hC.2.1 dL_law_266 rfl (lv_at hl 0 rfl) ?_
  refine lv_iload_n hC.1 hC.2.1 dL_law_267 rfl (lv_at hl 3 rfl) ?_
  refine lv_iconst (v := nI 4) hC.1 hC.2.1 dL_law_268 (by decide) ?_
  refine l_addN hC dL_law_269 ?_
  refine l_sld hC hX hbl hbA hw.2.2 (by omega) (by omega) dL_law_270 ?_
  refine lv_aload_n hC.1 hC.2.1 dL_law_271 rfl (lv_at hl 0 rfl) ?_
  refine lv_iload_n hC.1 hC.2.1 dL_law_272 rfl (lv_at hl 3 rfl) ?_
  refine lv_iconst (v := nI 5) hC.1 hC.2.1 dL_law_273 (by decide) ?_
  refine l_addN hC dL_law_274 ?_
  refine l_sld hC hX hbl hbA hw.2.2 (by omega) (by omega) dL_law_275 ?_
  refine lv_aload_n hC.1 hC.2.1 dL_law_276 rfl (lv_at hl 0 rfl) ?_
  refine lv_iload_n hC.1 hC.2.1 dL_law_277 rfl (lv_at hl 3 rfl) ?_
  refine lv_bipush (v := nI 6) hC.1 hC.2.1 dL_law_278 (by decide) ?_
  refine l_addN hC dL_law_280 ?_
  refine l_sld hC hX hbl hbA hw.2.2 (by omega) (by omega) dL_law_281 ?_
  refine lv_aload_n hC.1 hC.2.1 dL_law_282 rfl (lv_at hl 0 rfl) ?_
  refine lv_iload_n hC.1 hC.2.1 dL_law_283 rfl (lv_at hl 3 rfl) ?_
  refine lv_bipush (v := nI 7) hC.1 hC.2.1 dL_law_284 (by decide) ?_
  refine l_addN hC dL_law_286 ?_
  refine l_sld hC hX hbl hbA hw.2.2 (by omega) (by omega) dL_law_287 ?_
  refine lv_aload_n hC.1 hC.2.1 dL_law_288 rfl (lv_at hl 0 rfl) ?_
  refine lv_iload_n hC.1 hC.2.1 dL_law_289 rfl (lv_at hl 3 rfl) ?_
  refine lv_bipush (v := nI 8) hC.1 hC.2.1 dL_law_290 (by decide) ?_
  refine l_addN hC dL_law_292 ?_
  refine l_sld hC hX hbl hbA hw.2.2 (by omega) (by omega) dL_law_293 ?_
  refine l_call (Wf := MW E a') (As := [.int (xs (i + 1)), .int (xs (i + 2)), .int (xs (i + 3)), .int (xs (i + 4)), .int (xs (i + 5)), .int (xs (i + 6)), .int (xs (i + 7)), .int (xs (i + 8))]) (rest := [.int r1]) (q0 := 0) hC hw hl (tX11_job l E a' τ nh nj stk (xs (i + 1)) (xs (i + 2)) (xs (i + 3)) (xs (i + 4)) (xs (i + 5)) (xs (i + 6)) (xs (i + 7)) (xs (i + 8)) hI.mf hI.2.2.1 hI.2.1) (q_cwV hC.2.2.2.2.1 ⟨rfl, rfl⟩ wk4_182 wk4_183 wk4_184 wk1_12 wk4_185 hd_X11_job ⟨Nat.le_of_ble_eq_true rfl, Nat.le_of_ble_eq_true rfl⟩) rfl rfl rfl rfl rfl (Nat.le_of_ble_eq_true rfl) dL_law_294 hcs (fun r2 τ1 H locs h2 hw => ?_)
  have hw := hw.swap
  have hS : r1 = r2 ∧ INVx σ1 τ1 (T + 24) := by
    exact ⟨h1.1.trans h2.1.symm, hI.up h1.2.1 h1.2.2 h2.2⟩
  refine lv_icmp_eq (tgt := 815) hC.1 hC.2.1 dL_law_297 (by decide) (fun _ => ?_) (fun c0 => absurd hS.1 c0)
  exact kk σ1 τ1 H locs hS.2 hw
set_option maxHeartbeats 4000000 in
set_option maxRecDepth 100000 in
theorem law_weight (hC : Cxt E p s m #[.ref b] meth c cL_law 4 ret R_law A) (hX : va_X b L xs s s.heap) (hbl : b < s.heap.size) (hbA : ¬ A b) (hL : L ≤ 4608) (hi : i + 9 ≤ L) (hcs : cells ≤ room_1.cells ∧ slots ≤ room_1.slots) (hT : T < 2 ^ 29) (hI : INVx σ τ T) (hw : Wk E (XW E a σ ++ MW E a' τ) A s.heap H locs) (hl : lv_has ls 4 [(0, .ref b), (1, .ref (a 71)), (2, .ref (a' 70)), (3, .int (nI i))])
    (kk : ∀ (σ' τ' : St) (H : Heap) (locs : List Loc), INVx σ' τ' (T + 24) → Wk E (XW E a σ' ++ MW E a' τ') A s.heap H locs → W p l e room_1 s m #[.ref b] below meth c H locs cells slots Q (F0 m 815 ls [])) : W p l e room_1 s m #[.ref b] below meth c H locs cells slots Q (F0 m 302 ls []) := by
  obtain ⟨nh, nj, stk, hI⟩ := hI
  refine lv_aload_n hC.1 hC.2.1 dL_law_302 rfl (lv_at hl 1 rfl) ?_
  refine lv_aload_n hC.1 hC.2.1 dL_law_303 rfl (lv_at hl 0 rfl) ?_
  refine lv_iload_n hC.1 hC.2.1 dL_law_304 rfl (lv_at hl 3 rfl) ?_
  refine lv_iconst (v := nI 1) hC.1 hC.2.1 dL_law_305 (by decide) ?_
  refine l_addN hC dL_law_306 ?_
  refine l_sld hC hX hbl hbA hw.2.2 (by omega) (by omega) dL_law_307 ?_
  refine lv_aload_n hC.1 hC.2.1 dL_law_308 rfl (lv_at hl 0 rfl) ?_
  refine lv_iload_n hC.1 hC.2.1 dL_law_309 rfl (lv_at hl 3 rfl) ?_
  refine lv_iconst (v := nI 2) hC.1 hC.2.1 dL_law_310 (by decide) ?_
  refine l_addN hC dL_law_311 ?_
  refine l_sld hC hX hbl hbA hw.2.2 (by omega) (by omega) dL_law_312 ?_
  refine l_call (Wf := XW E a) (As := [.int (xs (i + 1)), .int (xs (i + 2))]) (rest := []) (q0 := 0) hC hw hl (tX10_weight l E a σ nh nj (τ 1) stk T (xs (i + 1)) (xs (i + 2)) hI.1) (q_cwV hC.2.2.2.2.1 ⟨rfl, rfl⟩ wk2_224 wk2_225 wk2_226 wk1_1 wk2_227 hd_X10_weight ⟨Nat.le_of_ble_eq_true rfl, Nat.le_of_ble_eq_true rfl⟩) rfl rfl rfl rfl rfl (Nat.le_of_ble_eq_true rfl) dL_law_313 hcs (fun r1 σ1 H locs h1 hw => ?_)
  have hw := hw.swap
  refine lv_aload_n hC.1 hC.2.1 dL_law_316 rfl (lv_at hl 2 rfl) ?_
  refine lv_aload_n hC.1 hC.2.1 dL_law_317 rfl (lv_at hl 0 rfl) ?_
  refine lv_iload_n hC.1 hC.2.1 dL_law_318 rfl (lv_at hl 3 rfl) ?_
  refine lv_iconst (v := nI 1) hC.1 hC.2.1 dL_law_319 (by decide) ?_
  refine l_addN hC dL_law_320 ?_
  refine l_sld hC hX hbl hbA hw.2.2 (by omega) (by omega) dL_law_321 ?_
  refine lv_aload_n hC.1 hC.2.1 dL_law_322 rfl (lv_at hl 0 rfl) ?_
  refine lv_iload_n hC.1 hC.2.1 dL_law_323 rfl (lv_at hl 3 rfl) ?_
  refine lv_iconst (v := nI 2) hC.1 hC.2.1 dL_law_324 (by decide) ?_
  refine l_addN hC dL_law_325 ?_
  refine l_sld hC hX hbl hbA hw.2.2 (by omega) (by omega) dL_law_326 ?_
  refine l_call (Wf := MW E a') (As := [.int (xs (i + 1)), .int (xs (i + 2))]) (rest := [.int r1]) (q0 := 0) hC hw hl (tX11_weight l E a' τ stk (xs (i + 1)) (xs (i + 2)) hI.2.2.1 hI.2.1) (q_cwV hC.2.2.2.2.1 ⟨rfl, rfl⟩ wk4_186 wk4_187 wk4_188 wk1_12 wk4_189 hd_X11_weight ⟨Nat.le_of_ble_eq_true rfl, Nat.le_of_ble_eq_true rfl⟩) rfl rfl rfl rfl rfl (Nat.le_of_ble_eq_true rfl) dL_law_327 hcs (fun r2 τ1 H locs h2 hw => ?_)
  have hw := hw.swap
  have hS : r1 = r2 ∧ INVx σ1 τ1 (T + 24) := by
    exact ⟨h1.1.trans h2.1.symm, hI.up h1.2.1 h1.2.2 h2.2⟩
  refine lv_icmp_eq (tgt := 815) hC.1 hC.2.1 dL_law_330 (by decide) (fun _ => ?_) (fun c0 => absurd hS.1 c0)
  exact kk σ1 τ1 H locs hS.2 hw
set_option maxHeartbeats 4000000 in
set_option maxRecDepth 100000 in
theorem law_why (hC : Cxt E p s m #[.ref b] meth c cL_law 4 ret R_law A) (hX : va_X b L xs s s.heap) (hbl : b < s.heap.size) (hbA : ¬ A b) (hL : L ≤ 4608) (hi : i + 9 ≤ L) (hcs : cells ≤ room_1.cells ∧ slots ≤ room_1.slots) (hT : T < 2 ^ 29) (hI : INVx σ τ T) (hw : Wk E (XW E a σ ++ MW E a' τ) A s.heap H locs) (hl : lv_has ls 4 [(0, .ref b), (1, .ref (a 71)), (2, .ref (a' 70)), (3, .int (nI i))])
    (kk : ∀ (σ' τ' : St) (H : Heap) (locs : List Loc), INVx σ' τ' (T + 24) → Wk E (XW E a σ' ++ MW E a' τ') A s.heap H locs → W p l e room_1 s m #[.ref b] below meth c H locs cells slots Q (F0 m 815 ls [])) : W p l e room_1 s m #[.ref b] below meth c H locs cells slots Q (F0 m 335 ls []) := by
  obtain ⟨nh, nj, stk, hI⟩ := hI
  refine lv_aload_n hC.1 hC.2.1 dL_law_335 rfl (lv_at hl 1 rfl) ?_
  refine lv_aload_n hC.1 hC.2.1 dL_law_336 rfl (lv_at hl 0 rfl) ?_
  refine lv_iload_n hC.1 hC.2.1 dL_law_337 rfl (lv_at hl 3 rfl) ?_
  refine lv_iconst (v := nI 1) hC.1 hC.2.1 dL_law_338 (by decide) ?_
  refine l_addN hC dL_law_339 ?_
  refine l_sld hC hX hbl hbA hw.2.2 (by omega) (by omega) dL_law_340 ?_
  refine lv_aload_n hC.1 hC.2.1 dL_law_341 rfl (lv_at hl 0 rfl) ?_
  refine lv_iload_n hC.1 hC.2.1 dL_law_342 rfl (lv_at hl 3 rfl) ?_
  refine lv_iconst (v := nI 2) hC.1 hC.2.1 dL_law_343 (by decide) ?_
  refine l_addN hC dL_law_344 ?_
  refine l_sld hC hX hbl hbA hw.2.2 (by omega) (by omega) dL_law_345 ?_
  refine l_call (Wf := XW E a) (As := [.int (xs (i + 1)), .int (xs (i + 2))]) (rest := []) (q0 := 0) hC hw hl (tX10_why l E a σ nh nj (τ 1) stk T (xs (i + 1)) (xs (i + 2)) hI.1) (q_cwV hC.2.2.2.2.1 ⟨rfl, rfl⟩ wk2_228 wk2_229 wk2_230 wk1_1 wk2_231 hd_X10_why ⟨Nat.le_of_ble_eq_true rfl, Nat.le_of_ble_eq_true rfl⟩) rfl rfl rfl rfl rfl (Nat.le_of_ble_eq_true rfl) dL_law_346 hcs (fun r1 σ1 H locs h1 hw => ?_)
  have hw := hw.swap
  refine lv_aload_n hC.1 hC.2.1 dL_law_349 rfl (lv_at hl 2 rfl) ?_
  refine lv_aload_n hC.1 hC.2.1 dL_law_350 rfl (lv_at hl 0 rfl) ?_
  refine lv_iload_n hC.1 hC.2.1 dL_law_351 rfl (lv_at hl 3 rfl) ?_
  refine lv_iconst (v := nI 1) hC.1 hC.2.1 dL_law_352 (by decide) ?_
  refine l_addN hC dL_law_353 ?_
  refine l_sld hC hX hbl hbA hw.2.2 (by omega) (by omega) dL_law_354 ?_
  refine lv_aload_n hC.1 hC.2.1 dL_law_355 rfl (lv_at hl 0 rfl) ?_
  refine lv_iload_n hC.1 hC.2.1 dL_law_356 rfl (lv_at hl 3 rfl) ?_
  refine lv_iconst (v := nI 2) hC.1 hC.2.1 dL_law_357 (by decide) ?_
  refine l_addN hC dL_law_358 ?_
  refine l_sld hC hX hbl hbA hw.2.2 (by omega) (by omega) dL_law_359 ?_
  refine l_call (Wf := MW E a') (As := [.int (xs (i + 1)), .int (xs (i + 2))]) (rest := [.int r1]) (q0 := 0) hC hw hl (tX11_why l E a' τ nh nj (xs (i + 1)) (xs (i + 2)) hI.mf) (q_cwV hC.2.2.2.2.1 ⟨rfl, rfl⟩ wk4_190 wk4_191 wk4_192 wk1_12 wk4_193 hd_X11_why ⟨Nat.le_of_ble_eq_true rfl, Nat.le_of_ble_eq_true rfl⟩) rfl rfl rfl rfl rfl (Nat.le_of_ble_eq_true rfl) dL_law_360 hcs (fun r2 τ1 H locs h2 hw => ?_)
  have hw := hw.swap
  have hS : r1 = r2 ∧ INVx σ1 τ1 (T + 24) := by
    obtain ⟨e1, rfl⟩ := h1; obtain ⟨e2, rfl⟩ := h2; exact ⟨e1.trans e2.symm, hI.mono⟩
  refine lv_icmp_eq (tgt := 815) hC.1 hC.2.1 dL_law_363 (by decide) (fun _ => ?_) (fun c0 => absurd hS.1 c0)
  exact kk σ1 τ1 H locs hS.2 hw
set_option maxHeartbeats 4000000 in
set_option maxRecDepth 100000 in
theorem law_points (hC : Cxt E p s m #[.ref b] meth c cL_law 4 ret R_law A) (hX : va_X b L xs s s.heap) (hbl : b < s.heap.size) (hbA : ¬ A b) (hL : L ≤ 4608) (hi : i + 9 ≤ L) (hcs : cells ≤ room_1.cells ∧ slots ≤ room_1.slots) (hT : T < 2 ^ 29) (hI : INVx σ τ T) (hw : Wk E (XW E a σ ++ MW E a' τ) A s.heap H locs) (hl : lv_has ls 4 [(0, .ref b), (1, .ref (a 71)), (2, .ref (a' 70)), (3, .int (nI i))])
    (kk : ∀ (σ' τ' : St) (H : Heap) (locs : List Loc), INVx σ' τ' (T + 24) → Wk E (XW E a σ' ++ MW E a' τ') A s.heap H locs → W p l e room_1 s m #[.ref b] below meth c H locs cells slots Q (F0 m 815 ls [])) : W p l e room_1 s m #[.ref b] below meth c H locs cells slots Q (F0 m 368 ls []) := by
  obtain ⟨nh, nj, stk, hI⟩ := hI
  refine lv_aload_n hC.1 hC.2.1 dL_law_368 rfl (lv_at hl 1 rfl) ?_
  refine lv_aload_n hC.1 hC.2.1 dL_law_369 rfl (lv_at hl 0 rfl) ?_
  refine lv_iload_n hC.1 hC.2.1 dL_law_370 rfl (lv_at hl 3 rfl) ?_
  refine lv_iconst (v := nI 1) hC.1 hC.2.1 dL_law_371 (by decide) ?_
  refine l_addN hC dL_law_372 ?_
  refine l_sld hC hX hbl hbA hw.2.2 (by omega) (by omega) dL_law_373 ?_
  refine lv_aload_n hC.1 hC.2.1 dL_law_374 rfl (lv_at hl 0 rfl) ?_
  refine lv_iload_n hC.1 hC.2.1 dL_law_375 rfl (lv_at hl 3 rfl) ?_
  refine lv_iconst (v := nI 2) hC.1 hC.2.1 dL_law_376 (by decide) ?_
  refine l_addN hC dL_law_377 ?_
  refine l_sld hC hX hbl hbA hw.2.2 (by omega) (by omega) dL_law_378 ?_
  refine l_call (Wf := XW E a) (As := [.int (xs (i + 1)), .int (xs (i + 2))]) (rest := []) (q0 := 0) hC hw hl (tX10_points l E a σ nh nj (τ 1) stk T (xs (i + 1)) (xs (i + 2)) hI.1) (q_cwV hC.2.2.2.2.1 ⟨rfl, rfl⟩ wk3_10 wk3_11 wk3_12 wk1_1 wk3_13 hd_X10_points ⟨Nat.le_of_ble_eq_true rfl, Nat.le_of_ble_eq_true rfl⟩) rfl rfl rfl rfl rfl (Nat.le_of_ble_eq_true rfl) dL_law_379 hcs (fun r1 σ1 H locs h1 hw => ?_)
  have hw := hw.swap
  refine lv_aload_n hC.1 hC.2.1 dL_law_382 rfl (lv_at hl 2 rfl) ?_
  refine lv_aload_n hC.1 hC.2.1 dL_law_383 rfl (lv_at hl 0 rfl) ?_
  refine lv_iload_n hC.1 hC.2.1 dL_law_384 rfl (lv_at hl 3 rfl) ?_
  refine lv_iconst (v := nI 1) hC.1 hC.2.1 dL_law_385 (by decide) ?_
  refine l_addN hC dL_law_386 ?_
  refine l_sld hC hX hbl hbA hw.2.2 (by omega) (by omega) dL_law_387 ?_
  refine lv_aload_n hC.1 hC.2.1 dL_law_388 rfl (lv_at hl 0 rfl) ?_
  refine lv_iload_n hC.1 hC.2.1 dL_law_389 rfl (lv_at hl 3 rfl) ?_
  refine lv_iconst (v := nI 2) hC.1 hC.2.1 dL_law_390 (by decide) ?_
  refine l_addN hC dL_law_391 ?_
  refine l_sld hC hX hbl hbA hw.2.2 (by omega) (by omega) dL_law_392 ?_
  refine l_call (Wf := MW E a') (As := [.int (xs (i + 1)), .int (xs (i + 2))]) (rest := [.int r1]) (q0 := 0) hC hw hl (tX11_points l E a' τ nh nj (xs (i + 1)) (xs (i + 2)) hI.mf) (q_cwV hC.2.2.2.2.1 ⟨rfl, rfl⟩ wk4_238 wk4_239 wk5_0 wk1_12 wk5_1 hd_X11_points ⟨Nat.le_of_ble_eq_true rfl, Nat.le_of_ble_eq_true rfl⟩) rfl rfl rfl rfl rfl (Nat.le_of_ble_eq_true rfl) dL_law_393 hcs (fun r2 τ1 H locs h2 hw => ?_)
  have hw := hw.swap
  have hS : r1 = r2 ∧ INVx σ1 τ1 (T + 24) := by
    obtain ⟨e1, rfl⟩ := h1; obtain ⟨e2, rfl⟩ := h2; exact ⟨e1.trans e2.symm, hI.mono⟩
  refine lv_icmp_eq (tgt := 815) hC.1 hC.2.1 dL_law_396 (by decide) (fun _ => ?_) (fun c0 => absurd hS.1 c0)
  exact kk σ1 τ1 H locs hS.2 hw
set_option maxHeartbeats 4000000 in
set_option maxRecDepth 100000 in
theorem law_left (hC : Cxt E p s m #[.ref b] meth c cL_law 4 ret R_law A) (hX : va_X b L xs s s.heap) (hbl : b < s.heap.size) (hbA : ¬ A b) (hL : L ≤ 4608) (hi : i + 9 ≤ L) (hcs : cells ≤ room_1.cells ∧ slots ≤ room_1.slots) (hT : T < 2 ^ 29) (hI : INVx σ τ T) (hw : Wk E (XW E a σ ++ MW E a' τ) A s.heap H locs) (hl : lv_has ls 4 [(0, .ref b), (1, .ref (a 71)), (2, .ref (a' 70)), (3, .int (nI i))])
    (kk : ∀ (σ' τ' : St) (H : Heap) (locs : List Loc), INVx σ' τ' (T + 24) → Wk E (XW E a σ' ++ MW E a' τ') A s.heap H locs → W p l e room_1 s m #[.ref b] below meth c H locs cells slots Q (F0 m 815 ls [])) : W p l e room_1 s m #[.ref b] below meth c H locs cells slots Q (F0 m 401 ls []) := by
  obtain ⟨nh, nj, stk, hI⟩ := hI
  refine lv_aload_n hC.1 hC.2.1 dL_law_401 rfl (lv_at hl 1 rfl) ?_
  refine lv_aload_n hC.1 hC.2.1 dL_law_402 rfl (lv_at hl 0 rfl) ?_
  refine lv_iload_n hC.1 hC.2.1 dL_law_403 rfl (lv_at hl 3 rfl) ?_
  refine lv_iconst (v := nI 1) hC.1 hC.2.1 dL_law_404 (by decide) ?_
  refine l_addN hC dL_law_405 ?_
  refine l_sld hC hX hbl hbA hw.2.2 (by omega) (by omega) dL_law_406 ?_
  refine lv_aload_n hC.1 hC.2.1 dL_law_407 rfl (lv_at hl 0 rfl) ?_
  refine lv_iload_n hC.1 hC.2.1 dL_law_408 rfl (lv_at hl 3 rfl) ?_
  refine lv_iconst (v := nI 2) hC.1 hC.2.1 dL_law_409 (by decide) ?_
  refine l_addN hC dL_law_410 ?_
  refine l_sld hC hX hbl hbA hw.2.2 (by omega) (by omega) dL_law_411 ?_
  refine l_call (Wf := XW E a) (As := [.int (xs (i + 1)), .int (xs (i + 2))]) (rest := []) (q0 := 0) hC hw hl (tX10_left l E a σ nh nj (τ 1) stk T (xs (i + 1)) (xs (i + 2)) hI.1) (q_cwV hC.2.2.2.2.1 ⟨rfl, rfl⟩ wk3_20 wk3_21 wk3_22 wk1_1 wk3_23 hd_X10_left ⟨Nat.le_of_ble_eq_true rfl, Nat.le_of_ble_eq_true rfl⟩) rfl rfl rfl rfl rfl (Nat.le_of_ble_eq_true rfl) dL_law_412 hcs (fun r1 σ1 H locs h1 hw => ?_)
  have hw := hw.swap
  refine lv_aload_n hC.1 hC.2.1 dL_law_415 rfl (lv_at hl 2 rfl) ?_
  refine lv_aload_n hC.1 hC.2.1 dL_law_416 rfl (lv_at hl 0 rfl) ?_
  refine lv_iload_n hC.1 hC.2.1 dL_law_417 rfl (lv_at hl 3 rfl) ?_
  refine lv_iconst (v := nI 1) hC.1 hC.2.1 dL_law_418 (by decide) ?_
  refine l_addN hC dL_law_419 ?_
  refine l_sld hC hX hbl hbA hw.2.2 (by omega) (by omega) dL_law_420 ?_
  refine lv_aload_n hC.1 hC.2.1 dL_law_421 rfl (lv_at hl 0 rfl) ?_
  refine lv_iload_n hC.1 hC.2.1 dL_law_422 rfl (lv_at hl 3 rfl) ?_
  refine lv_iconst (v := nI 2) hC.1 hC.2.1 dL_law_423 (by decide) ?_
  refine l_addN hC dL_law_424 ?_
  refine l_sld hC hX hbl hbA hw.2.2 (by omega) (by omega) dL_law_425 ?_
  refine l_call (Wf := MW E a') (As := [.int (xs (i + 1)), .int (xs (i + 2))]) (rest := [.int r1]) (q0 := 0) hC hw hl (tX11_left l E a' τ nh nj (xs (i + 1)) (xs (i + 2)) hI.mf) (q_cwV hC.2.2.2.2.1 ⟨rfl, rfl⟩ wk5_8 wk5_9 wk5_10 wk1_12 wk5_11 hd_X11_left ⟨Nat.le_of_ble_eq_true rfl, Nat.le_of_ble_eq_true rfl⟩) rfl rfl rfl rfl rfl (Nat.le_of_ble_eq_true rfl) dL_law_426 hcs (fun r2 τ1 H locs h2 hw => ?_)
  have hw := hw.swap
  have hS : r1 = r2 ∧ INVx σ1 τ1 (T + 24) := by
    obtain ⟨e1, rfl⟩ := h1; obtain ⟨e2, rfl⟩ := h2; exact ⟨e1.trans e2.symm, hI.mono⟩
  refine lv_icmp_eq (tgt := 815) hC.1 hC.2.1 dL_law_429 (by decide) (fun _ => ?_) (fun c0 => absurd hS.1 c0)
  exact kk σ1 τ1 H locs hS.2 hw
set_option maxHeartbeats 4000000 in
set_option maxRecDepth 100000 in
theorem law_told (hC : Cxt E p s m #[.ref b] meth c cL_law 4 ret R_law A) (hX : va_X b L xs s s.heap) (hbl : b < s.heap.size) (hbA : ¬ A b) (hL : L ≤ 4608) (hi : i + 9 ≤ L) (hcs : cells ≤ room_1.cells ∧ slots ≤ room_1.slots) (hT : T < 2 ^ 29) (hI : INVx σ τ T) (hw : Wk E (XW E a σ ++ MW E a' τ) A s.heap H locs) (hl : lv_has ls 4 [(0, .ref b), (1, .ref (a 71)), (2, .ref (a' 70)), (3, .int (nI i))])
    (kk : ∀ (σ' τ' : St) (H : Heap) (locs : List Loc), INVx σ' τ' (T + 24) → Wk E (XW E a σ' ++ MW E a' τ') A s.heap H locs → W p l e room_1 s m #[.ref b] below meth c H locs cells slots Q (F0 m 815 ls [])) : W p l e room_1 s m #[.ref b] below meth c H locs cells slots Q (F0 m 434 ls []) := by
  obtain ⟨nh, nj, stk, hI⟩ := hI
  refine lv_aload_n hC.1 hC.2.1 dL_law_434 rfl (lv_at hl 1 rfl) ?_
  refine lv_aload_n hC.1 hC.2.1 dL_law_435 rfl (lv_at hl 0 rfl) ?_
  refine lv_iload_n hC.1 hC.2.1 dL_law_436 rfl (lv_at hl 3 rfl) ?_
  refine lv_iconst (v := nI 1) hC.1 hC.2.1 dL_law_437 (by decide) ?_
  refine l_addN hC dL_law_438 ?_
  refine l_sld hC hX hbl hbA hw.2.2 (by omega) (by omega) dL_law_439 ?_
  refine lv_aload_n hC.1 hC.2.1 dL_law_440 rfl (lv_at hl 0 rfl) ?_
  refine lv_iload_n hC.1 hC.2.1 dL_law_441 rfl (lv_at hl 3 rfl) ?_
  refine lv_iconst (v := nI 2) hC.1 hC.2.1 dL_law_442 (by decide) ?_
  refine l_addN hC dL_law_443 ?_
  refine l_sld hC hX hbl hbA hw.2.2 (by omega) (by omega) dL_law_444 ?_
  refine l_call (Wf := XW E a) (As := [.int (xs (i + 1)), .int (xs (i + 2))]) (rest := []) (q0 := 0) hC hw hl (tX10_told l E a σ nh nj (τ 1) stk T (xs (i + 1)) (xs (i + 2)) hI.1) (q_cwV hC.2.2.2.2.1 ⟨rfl, rfl⟩ wk3_24 wk3_25 wk3_26 wk1_1 wk3_27 hd_X10_told ⟨Nat.le_of_ble_eq_true rfl, Nat.le_of_ble_eq_true rfl⟩) rfl rfl rfl rfl rfl (Nat.le_of_ble_eq_true rfl) dL_law_445 hcs (fun r1 σ1 H locs h1 hw => ?_)
  have hw := hw.swap
  refine lv_aload_n hC.1 hC.2.1 dL_law_448 rfl (lv_at hl 2 rfl) ?_
  refine lv_aload_n hC.1 hC.2.1 dL_law_449 rfl (lv_at hl 0 rfl) ?_
  refine lv_iload_n hC.1 hC.2.1 dL_law_450 rfl (lv_at hl 3 rfl) ?_
  refine lv_iconst (v := nI 1) hC.1 hC.2.1 dL_law_451 (by decide) ?_
  refine l_addN hC dL_law_452 ?_
  refine l_sld hC hX hbl hbA hw.2.2 (by omega) (by omega) dL_law_453 ?_
  refine lv_aload_n hC.1 hC.2.1 dL_law_454 rfl (lv_at hl 0 rfl) ?_
  refine lv_iload_n hC.1 hC.2.1 dL_law_455 rfl (lv_at hl 3 rfl) ?_
  refine lv_iconst (v := nI 2) hC.1 hC.2.1 dL_law_456 (by decide) ?_
  refine l_addN hC dL_law_457 ?_
  refine l_sld hC hX hbl hbA hw.2.2 (by omega) (by omega) dL_law_458 ?_
  refine l_call (Wf := MW E a') (As := [.int (xs (i + 1)), .int (xs (i + 2))]) (rest := [.int r1]) (q0 := 0) hC hw hl (tX11_told l E a' τ nh nj (xs (i + 1)) (xs (i + 2)) hI.mf) (q_cwV hC.2.2.2.2.1 ⟨rfl, rfl⟩ wk5_12 wk5_13 wk5_14 wk1_12 wk5_15 hd_X11_told ⟨Nat.le_of_ble_eq_true rfl, Nat.le_of_ble_eq_true rfl⟩) rfl rfl rfl rfl rfl (Nat.le_of_ble_eq_true rfl) dL_law_459 hcs (fun r2 τ1 H locs h2 hw => ?_)
  have hw := hw.swap
  have hS : r1 = r2 ∧ INVx σ1 τ1 (T + 24) := by
    obtain ⟨e1, rfl⟩ := h1; obtain ⟨e2, rfl⟩ := h2; exact ⟨e1.trans e2.symm, hI.mono⟩
  refine lv_icmp_eq (tgt := 815) hC.1 hC.2.1 dL_law_462 (by decide) (fun _ => ?_) (fun c0 => absurd hS.1 c0)
  exact kk σ1 τ1 H locs hS.2 hw
set_option maxHeartbeats 4000000 in
set_option maxRecDepth 100000 in
theorem law_place (hC : Cxt E p s m #[.ref b] meth c cL_law 4 ret R_law A) (hX : va_X b L xs s s.heap) (hbl : b < s.heap.size) (hbA : ¬ A b) (hL : L ≤ 4608) (hi : i + 9 ≤ L) (hcs : cells ≤ room_1.cells ∧ slots ≤ room_1.slots) (hT : T < 2 ^ 29) (hI : INVx σ τ T) (hw : Wk E (XW E a σ ++ MW E a' τ) A s.heap H locs) (hl : lv_has ls 4 [(0, .ref b), (1, .ref (a 71)), (2, .ref (a' 70)), (3, .int (nI i))])
    (kk : ∀ (σ' τ' : St) (H : Heap) (locs : List Loc), INVx σ' τ' (T + 24) → Wk E (XW E a σ' ++ MW E a' τ') A s.heap H locs → W p l e room_1 s m #[.ref b] below meth c H locs cells slots Q (F0 m 815 ls [])) : W p l e room_1 s m #[.ref b] below meth c H locs cells slots Q (F0 m 467 ls []) := by
  obtain ⟨nh, nj, stk, hI⟩ := hI
  refine lv_aload_n hC.1 hC.2.1 dL_law_467 rfl (lv_at hl 1 rfl) ?_
  refine lv_aload_n hC.1 hC.2.1 dL_law_468 rfl (lv_at hl 0 rfl) ?_
  refine lv_iload_n hC.1 hC.2.1 dL_law_469 rfl (lv_at hl 3 rfl) ?_
  refine lv_iconst (v := nI 1) hC.1 hC.2.1 dL_law_470 (by decide) ?_
  refine l_addN hC dL_law_471 ?_
  refine l_sld hC hX hbl hbA hw.2.2 (by omega) (by omega) dL_law_472 ?_
  refine l_call (Wf := XW E a) (As := [.int (xs (i + 1))]) (rest := []) (q0 := 0) hC hw hl (tX10_place l E a σ nh nj (τ 1) stk T (xs (i + 1)) hI.1 hT) (q_cwV hC.2.2.2.2.1 ⟨rfl, rfl⟩ wk3_28 wk3_29 wk3_30 wk1_1 wk3_31 hd_X10_place ⟨Nat.le_of_ble_eq_true rfl, Nat.le_of_ble_eq_true rfl⟩) rfl rfl rfl rfl rfl (Nat.le_of_ble_eq_true rfl) dL_law_473 hcs (fun r1 σ1 H locs h1 hw => ?_)
  have hw := hw.swap
  refine lv_aload_n hC.1 hC.2.1 dL_law_476 rfl (lv_at hl 2 rfl) ?_
  refine lv_aload_n hC.1 hC.2.1 dL_law_477 rfl (lv_at hl 0 rfl) ?_
  refine lv_iload_n hC.1 hC.2.1 dL_law_478 rfl (lv_at hl 3 rfl) ?_
  refine lv_iconst (v := nI 1) hC.1 hC.2.1 dL_law_479 (by decide) ?_
  refine l_addN hC dL_law_480 ?_
  refine l_sld hC hX hbl hbA hw.2.2 (by omega) (by omega) dL_law_481 ?_
  refine l_call (Wf := MW E a') (As := [.int (xs (i + 1))]) (rest := [.int r1]) (q0 := 0) hC hw hl (tX11_place l E a' τ nh nj stk (xs (i + 1)) hI.mf hI.2.2.1 hI.2.1) (q_cwV hC.2.2.2.2.1 ⟨rfl, rfl⟩ wk5_16 wk5_17 wk5_18 wk1_12 wk5_19 hd_X11_place ⟨Nat.le_of_ble_eq_true rfl, Nat.le_of_ble_eq_true rfl⟩) rfl rfl rfl rfl rfl (Nat.le_of_ble_eq_true rfl) dL_law_482 hcs (fun r2 τ1 H locs h2 hw => ?_)
  have hw := hw.swap
  have hS : r1 = r2 ∧ INVx σ1 τ1 (T + 24) := by
    rw [hI.2.2.2.2] at h1; obtain ⟨e1, hcl, k1, k2, k3, k4⟩ := h1; obtain ⟨e2, m1, m2, m3, m4, m5, m6, m7⟩ := h2; exact ⟨e1.trans e2.symm, _, _, _, by rw [m1]; exact hcl, m2, m3, by rw [k1, k2, k3, m5, m6, m7]; exact hI.2.2.2.1, by rw [k4, m4]⟩
  refine lv_icmp_eq (tgt := 815) hC.1 hC.2.1 dL_law_485 (by decide) (fun _ => ?_) (fun c0 => absurd hS.1 c0)
  exact kk σ1 τ1 H locs hS.2 hw
end LAWC
