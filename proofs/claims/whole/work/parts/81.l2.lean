section LW
variable {p : Program} {l : Launch} {e : Env} {s : State} {m : MethodId} {below : List Frame} {meth : Method} {c : Code} {b L a0 m0 n : Nat} {xs : Nat → Int32} {A : Nat → Prop} {G : GG} {H : Heap} {locs : List Loc} {ls : Array Slot}
set_option maxRecDepth 100000 in
theorem la_tick (I : LC G p s m meth c b L xs A m0) (hn : 5 * n + 5 ≤ L) (hJ : IV G A a0 m0 n H) (hS : va_S (NA s) s.heap H locs) (hl : lv_has ls 4 (lls b a0 m0 n)) (K : ∀ (H1 : Heap) (locs1 : List Loc), IV G A a0 m0 (n + 1) H1 → va_S (NA s) s.heap H1 locs1 → W p l e room_1 s m #[Value.ref b] below meth c H1 locs1 (100 + 3 * (n + 1)) (60000 + 619 * (n + 1)) (lw_Z below #[Value.ref b] s) (F0 m 1014 ls [])) : W p l e room_1 s m #[Value.ref b] below meth c H locs (100 + 3 * n) (60000 + 619 * n) (lw_Z below #[Value.ref b] s) (F0 m 160 ls []) := by
  obtain ⟨ad, x, y, z, mm, w, e0, hC, hM, hR, hz⟩ := hJ
  subst e0
  have C := I.C; have hb := I.hL
  have hn2 : n + 1 ≤ 512 := by omega
  refine lv_aload_n C.hx C.hb dL_law_160 rfl (lv_at hl 1 rfl) ?_
  refine la_ld I hn hl hS (k := 1) (rest := [.ref (ad 0 0)]) dL_law_161 dL_law_162 dL_law_163 dL_law_164 dL_law_165 (by decide) rfl ?_
  refine kVW (As := [.int (xs (5 * n + 1))]) (rest := []) C (cC_X7_tick l G A ad x y z (xs (5 * n + 1))) lk_L_13 (g_recv C (hC.1 0 0 rfl).1 rfl) hC rfl rfl hl (Nat.le_of_ble_eq_true rfl) dL_law_166 ⟨⟨by decide, by decide⟩, by show 100 + 3 * n + 0 ≤ 600000; omega, by show 60000 + 619 * n + 0 ≤ 7302250; omega⟩ hS I.a1 (fun H1 locs1 hC1 hz1 hk1 hS1 => ?_)
  have hM1 : MWd G m0 mm w H1 := hM.kept (fun q hq => hk1 q (Nat.lt_of_lt_of_le hq.2 hz) (I.a2 q hq))
  refine lv_aload_n C.hx C.hb dL_law_169 rfl (lv_at hl 2 rfl) ?_
  refine la_ld I hn hl hS1 (k := 1) dL_law_170 dL_law_171 dL_law_172 dL_law_173 dL_law_174 (by decide) rfl ?_
  refine kVW (As := [.int (xs (5 * n + 1))]) (rest := [.int _]) C (cM_tick l G m0 mm w (xs (5 * n + 1))) lk_L_17 (g_recv C hM1.1 rfl) hM1 rfl rfl hl (Nat.le_of_ble_eq_true rfl) dL_law_175 ⟨⟨by decide, by decide⟩, by show 100 + 3 * n + 0 + 0 ≤ 600000; omega, by show 60000 + 619 * n + 0 + 0 ≤ 7302250; omega⟩ hS1 (fun q hq => Nat.le_trans I.m1 hq.1) (fun H2 locs2 hM2 hz2 hk2 hS2 => ?_)
  have eq := e_tick hR (xs (5 * n + 1))
  refine lv_icmp_eq (tgt := 1014) C.hx C.hb dL_law_178 (by decide) (fun _ => ?_) (fun c1 => absurd eq.1 c1)
  refine W.widen (k := 100 + 3 * (n + 1)) (n := 60000 + 619 * (n + 1)) (by omega) (by omega) ?_
  exact K H2 locs2 ⟨ad, _, _, _, _, _, rfl, hC1.kept (fun q hq h => hk2 q hq (I.nm h)), hM2, eq.2.up (Nat.le_succ n) hn2, (Nat.le_trans hz (Nat.le_trans hz1 hz2))⟩ hS2
set_option maxRecDepth 100000 in
theorem la_rule (I : LC G p s m meth c b L xs A m0) (hn : 5 * n + 5 ≤ L) (hJ : IV G A a0 m0 n H) (hS : va_S (NA s) s.heap H locs) (hl : lv_has ls 4 (lls b a0 m0 n)) (K : ∀ (H1 : Heap) (locs1 : List Loc), IV G A a0 m0 (n + 1) H1 → va_S (NA s) s.heap H1 locs1 → W p l e room_1 s m #[Value.ref b] below meth c H1 locs1 (100 + 3 * (n + 1)) (60000 + 619 * (n + 1)) (lw_Z below #[Value.ref b] s) (F0 m 1014 ls [])) : W p l e room_1 s m #[Value.ref b] below meth c H locs (100 + 3 * n) (60000 + 619 * n) (lw_Z below #[Value.ref b] s) (F0 m 183 ls []) := by
  obtain ⟨ad, x, y, z, mm, w, e0, hC, hM, hR, hz⟩ := hJ
  subst e0
  have C := I.C; have hb := I.hL
  have hn2 : n + 1 ≤ 512 := by omega
  refine lv_aload_n C.hx C.hb dL_law_183 rfl (lv_at hl 1 rfl) ?_
  refine la_ld I hn hl hS (k := 1) (rest := [.ref (ad 0 0)]) dL_law_184 dL_law_185 dL_law_186 dL_law_187 dL_law_188 (by decide) rfl ?_
  refine la_ld I hn hl hS (k := 2) (rest := [.int (xs (5 * n + 1)), .ref (ad 0 0)]) dL_law_189 dL_law_190 dL_law_191 dL_law_192 dL_law_193 (by decide) rfl ?_
  refine la_ld I hn hl hS (k := 3) (rest := [.int (xs (5 * n + 2)), .int (xs (5 * n + 1)), .ref (ad 0 0)]) dL_law_194 dL_law_195 dL_law_196 dL_law_197 dL_law_198 (by decide) rfl ?_
  refine la_ld I hn hl hS (k := 4) (rest := [.int (xs (5 * n + 3)), .int (xs (5 * n + 2)), .int (xs (5 * n + 1)), .ref (ad 0 0)]) dL_law_199 dL_law_200 dL_law_201 dL_law_202 dL_law_203 (by decide) rfl ?_
  refine kVW (As := [.int (xs (5 * n + 1)), .int (xs (5 * n + 2)), .int (xs (5 * n + 3)), .int (xs (5 * n + 4))]) (rest := []) C (cC_X7_rule l G A ad x y z (xs (5 * n + 1)) (xs (5 * n + 2)) (xs (5 * n + 3)) (xs (5 * n + 4))) lk_L_18 (g_recv C (hC.1 0 0 rfl).1 rfl) hC rfl rfl hl (Nat.le_of_ble_eq_true rfl) dL_law_204 ⟨⟨by decide, by decide⟩, by show 100 + 3 * n + 0 ≤ 600000; omega, by show 60000 + 619 * n + 0 ≤ 7302250; omega⟩ hS I.a1 (fun H1 locs1 hC1 hz1 hk1 hS1 => ?_)
  have hM1 : MWd G m0 mm w H1 := hM.kept (fun q hq => hk1 q (Nat.lt_of_lt_of_le hq.2 hz) (I.a2 q hq))
  refine lv_aload_n C.hx C.hb dL_law_207 rfl (lv_at hl 2 rfl) ?_
  refine la_ld I hn hl hS1 (k := 1) dL_law_208 dL_law_209 dL_law_210 dL_law_211 dL_law_212 (by decide) rfl ?_
  refine la_ld I hn hl hS1 (k := 2) dL_law_213 dL_law_214 dL_law_215 dL_law_216 dL_law_217 (by decide) rfl ?_
  refine la_ld I hn hl hS1 (k := 3) dL_law_218 dL_law_219 dL_law_220 dL_law_221 dL_law_222 (by decide) rfl ?_
  refine la_ld I hn hl hS1 (k := 4) dL_law_223 dL_law_224 dL_law_225 dL_law_226 dL_law_227 (by decide) rfl ?_
  refine kVW (As := [.int (xs (5 * n + 1)), .int (xs (5 * n + 2)), .int (xs (5 * n + 3)), .int (xs (5 * n + 4))]) (rest := [.int _]) C (cM_rule l G m0 mm w (xs (5 * n + 1)) (xs (5 * n + 2)) (xs (5 * n + 3)) (xs (5 * n + 4))) lk_L_22 (g_recv C hM1.1 rfl) hM1 rfl rfl hl (Nat.le_of_ble_eq_true rfl) dL_law_228 ⟨⟨by decide, by decide⟩, by show 100 + 3 * n + 0 + 0 ≤ 600000; omega, by show 60000 + 619 * n + 0 + 0 ≤ 7302250; omega⟩ hS1 (fun q hq => Nat.le_trans I.m1 hq.1) (fun H2 locs2 hM2 hz2 hk2 hS2 => ?_)
  have eq := e_rule hR (xs (5 * n + 1)) (xs (5 * n + 2)) (xs (5 * n + 3)) (xs (5 * n + 4))
  refine lv_icmp_eq (tgt := 1014) C.hx C.hb dL_law_231 (by decide) (fun _ => ?_) (fun c1 => absurd eq.1 c1)
  refine W.widen (k := 100 + 3 * (n + 1)) (n := 60000 + 619 * (n + 1)) (by omega) (by omega) ?_
  exact K H2 locs2 ⟨ad, _, _, _, _, _, rfl, hC1.kept (fun q hq h => hk2 q hq (I.nm h)), hM2, eq.2.up (Nat.le_succ n) hn2, (Nat.le_trans hz (Nat.le_trans hz1 hz2))⟩ hS2
set_option maxRecDepth 100000 in
theorem la_ladder (I : LC G p s m meth c b L xs A m0) (hn : 5 * n + 5 ≤ L) (hJ : IV G A a0 m0 n H) (hS : va_S (NA s) s.heap H locs) (hl : lv_has ls 4 (lls b a0 m0 n)) (K : ∀ (H1 : Heap) (locs1 : List Loc), IV G A a0 m0 (n + 1) H1 → va_S (NA s) s.heap H1 locs1 → W p l e room_1 s m #[Value.ref b] below meth c H1 locs1 (100 + 3 * (n + 1)) (60000 + 619 * (n + 1)) (lw_Z below #[Value.ref b] s) (F0 m 1014 ls [])) : W p l e room_1 s m #[Value.ref b] below meth c H locs (100 + 3 * n) (60000 + 619 * n) (lw_Z below #[Value.ref b] s) (F0 m 236 ls []) := by
  obtain ⟨ad, x, y, z, mm, w, e0, hC, hM, hR, hz⟩ := hJ
  subst e0
  have C := I.C; have hb := I.hL
  have hn2 : n + 1 ≤ 512 := by omega
  refine lv_aload_n C.hx C.hb dL_law_236 rfl (lv_at hl 1 rfl) ?_
  refine la_ld I hn hl hS (k := 1) (rest := [.ref (ad 0 0)]) dL_law_237 dL_law_238 dL_law_239 dL_law_240 dL_law_241 (by decide) rfl ?_
  refine la_ld I hn hl hS (k := 2) (rest := [.int (xs (5 * n + 1)), .ref (ad 0 0)]) dL_law_242 dL_law_243 dL_law_244 dL_law_245 dL_law_246 (by decide) rfl ?_
  refine kVW (As := [.int (xs (5 * n + 1)), .int (xs (5 * n + 2))]) (rest := []) C (cC_X7_ladder l G A ad x y z (xs (5 * n + 1)) (xs (5 * n + 2))) lk_L_23 (g_recv C (hC.1 0 0 rfl).1 rfl) hC rfl rfl hl (Nat.le_of_ble_eq_true rfl) dL_law_247 ⟨⟨by decide, by decide⟩, by show 100 + 3 * n + 0 ≤ 600000; omega, by show 60000 + 619 * n + 0 ≤ 7302250; omega⟩ hS I.a1 (fun H1 locs1 hC1 hz1 hk1 hS1 => ?_)
  have hM1 : MWd G m0 mm w H1 := hM.kept (fun q hq => hk1 q (Nat.lt_of_lt_of_le hq.2 hz) (I.a2 q hq))
  refine lv_aload_n C.hx C.hb dL_law_250 rfl (lv_at hl 2 rfl) ?_
  refine la_ld I hn hl hS1 (k := 1) dL_law_251 dL_law_252 dL_law_253 dL_law_254 dL_law_255 (by decide) rfl ?_
  refine la_ld I hn hl hS1 (k := 2) dL_law_256 dL_law_257 dL_law_258 dL_law_259 dL_law_260 (by decide) rfl ?_
  refine kVW (As := [.int (xs (5 * n + 1)), .int (xs (5 * n + 2))]) (rest := [.int _]) C (cM_ladder l G m0 mm w (xs (5 * n + 1)) (xs (5 * n + 2))) lk_L_27 (g_recv C hM1.1 rfl) hM1 rfl rfl hl (Nat.le_of_ble_eq_true rfl) dL_law_261 ⟨⟨by decide, by decide⟩, by show 100 + 3 * n + 0 + 0 ≤ 600000; omega, by show 60000 + 619 * n + 0 + 0 ≤ 7302250; omega⟩ hS1 (fun q hq => Nat.le_trans I.m1 hq.1) (fun H2 locs2 hM2 hz2 hk2 hS2 => ?_)
  have eq := e_ladder hR (xs (5 * n + 1)) (xs (5 * n + 2))
  refine lv_icmp_eq (tgt := 1014) C.hx C.hb dL_law_264 (by decide) (fun _ => ?_) (fun c1 => absurd eq.1 c1)
  refine W.widen (k := 100 + 3 * (n + 1)) (n := 60000 + 619 * (n + 1)) (by omega) (by omega) ?_
  exact K H2 locs2 ⟨ad, _, _, _, _, _, rfl, hC1.kept (fun q hq h => hk2 q hq (I.nm h)), hM2, eq.2.up (Nat.le_succ n) hn2, (Nat.le_trans hz (Nat.le_trans hz1 hz2))⟩ hS2
set_option maxRecDepth 100000 in
theorem la_due (I : LC G p s m meth c b L xs A m0) (hn : 5 * n + 5 ≤ L) (hJ : IV G A a0 m0 n H) (hS : va_S (NA s) s.heap H locs) (hl : lv_has ls 4 (lls b a0 m0 n)) (K : ∀ (H1 : Heap) (locs1 : List Loc), IV G A a0 m0 (n + 1) H1 → va_S (NA s) s.heap H1 locs1 → W p l e room_1 s m #[Value.ref b] below meth c H1 locs1 (100 + 3 * (n + 1)) (60000 + 619 * (n + 1)) (lw_Z below #[Value.ref b] s) (F0 m 1014 ls [])) : W p l e room_1 s m #[Value.ref b] below meth c H locs (100 + 3 * n) (60000 + 619 * n) (lw_Z below #[Value.ref b] s) (F0 m 269 ls []) := by
  obtain ⟨ad, x, y, z, mm, w, e0, hC, hM, hR, hz⟩ := hJ
  subst e0
  have C := I.C; have hb := I.hL
  have hn2 : n + 1 ≤ 512 := by omega
  refine lv_aload_n C.hx C.hb dL_law_269 rfl (lv_at hl 1 rfl) ?_
  refine la_ld I hn hl hS (k := 1) (rest := [.ref (ad 0 0)]) dL_law_270 dL_law_271 dL_law_272 dL_law_273 dL_law_274 (by decide) rfl ?_
  refine la_ld I hn hl hS (k := 2) (rest := [.int (xs (5 * n + 1)), .ref (ad 0 0)]) dL_law_275 dL_law_276 dL_law_277 dL_law_278 dL_law_279 (by decide) rfl ?_
  refine kVW (As := [.int (xs (5 * n + 1)), .int (xs (5 * n + 2))]) (rest := []) C (cC_X7_due l G A ad x y z (xs (5 * n + 1)) (xs (5 * n + 2))) lk_L_28 (g_recv C (hC.1 0 0 rfl).1 rfl) hC rfl rfl hl (Nat.le_of_ble_eq_true rfl) dL_law_280 ⟨⟨by decide, by decide⟩, by show 100 + 3 * n + 0 ≤ 600000; omega, by show 60000 + 619 * n + 0 ≤ 7302250; omega⟩ hS I.a1 (fun H1 locs1 hC1 hz1 hk1 hS1 => ?_)
  have hM1 : MWd G m0 mm w H1 := hM.kept (fun q hq => hk1 q (Nat.lt_of_lt_of_le hq.2 hz) (I.a2 q hq))
  refine lv_aload_n C.hx C.hb dL_law_283 rfl (lv_at hl 2 rfl) ?_
  refine la_ld I hn hl hS1 (k := 1) dL_law_284 dL_law_285 dL_law_286 dL_law_287 dL_law_288 (by decide) rfl ?_
  refine la_ld I hn hl hS1 (k := 2) dL_law_289 dL_law_290 dL_law_291 dL_law_292 dL_law_293 (by decide) rfl ?_
  refine kVW (As := [.int (xs (5 * n + 1)), .int (xs (5 * n + 2))]) (rest := [.int _]) C (cM_due l G m0 mm w (xs (5 * n + 1)) (xs (5 * n + 2))) lk_L_31 (g_recv C hM1.1 rfl) hM1 rfl rfl hl (Nat.le_of_ble_eq_true rfl) dL_law_294 ⟨⟨by decide, by decide⟩, by show 100 + 3 * n + 0 + 0 ≤ 600000; omega, by show 60000 + 619 * n + 0 + 0 ≤ 7302250; omega⟩ hS1 (fun q hq => Nat.le_trans I.m1 hq.1) (fun H2 locs2 hM2 hz2 hk2 hS2 => ?_)
  have eq := e_due hR (xs (5 * n + 1)) (xs (5 * n + 2))
  refine lv_icmp_eq (tgt := 1014) C.hx C.hb dL_law_297 (by decide) (fun _ => ?_) (fun c1 => absurd eq.1 c1)
  refine W.widen (k := 100 + 3 * (n + 1)) (n := 60000 + 619 * (n + 1)) (by omega) (by omega) ?_
  exact K H2 locs2 ⟨ad, _, _, _, _, _, rfl, hC1.kept (fun q hq h => hk2 q hq (I.nm h)), hM2, eq.2.up (Nat.le_succ n) hn2, (Nat.le_trans hz (Nat.le_trans hz1 hz2))⟩ hS2
set_option maxRecDepth 100000 in
theorem la_limit (I : LC G p s m meth c b L xs A m0) (hn : 5 * n + 5 ≤ L) (hJ : IV G A a0 m0 n H) (hS : va_S (NA s) s.heap H locs) (hl : lv_has ls 4 (lls b a0 m0 n)) (K : ∀ (H1 : Heap) (locs1 : List Loc), IV G A a0 m0 (n + 1) H1 → va_S (NA s) s.heap H1 locs1 → W p l e room_1 s m #[Value.ref b] below meth c H1 locs1 (100 + 3 * (n + 1)) (60000 + 619 * (n + 1)) (lw_Z below #[Value.ref b] s) (F0 m 1014 ls [])) : W p l e room_1 s m #[Value.ref b] below meth c H locs (100 + 3 * n) (60000 + 619 * n) (lw_Z below #[Value.ref b] s) (F0 m 302 ls []) := by
  obtain ⟨ad, x, y, z, mm, w, e0, hC, hM, hR, hz⟩ := hJ
  subst e0
  have C := I.C; have hb := I.hL
  have hn2 : n + 1 ≤ 512 := by omega
  refine lv_aload_n C.hx C.hb dL_law_302 rfl (lv_at hl 1 rfl) ?_
  refine la_ld I hn hl hS (k := 1) (rest := [.ref (ad 0 0)]) dL_law_303 dL_law_304 dL_law_305 dL_law_306 dL_law_307 (by decide) rfl ?_
  refine kVW (As := [.int (xs (5 * n + 1))]) (rest := []) C (cC_X7_limit l G A ad x y z (xs (5 * n + 1))) lk_L_32 (g_recv C (hC.1 0 0 rfl).1 rfl) hC rfl rfl hl (Nat.le_of_ble_eq_true rfl) dL_law_308 ⟨⟨by decide, by decide⟩, by show 100 + 3 * n + 0 ≤ 600000; omega, by show 60000 + 619 * n + 0 ≤ 7302250; omega⟩ hS I.a1 (fun H1 locs1 hC1 hz1 hk1 hS1 => ?_)
  have hM1 : MWd G m0 mm w H1 := hM.kept (fun q hq => hk1 q (Nat.lt_of_lt_of_le hq.2 hz) (I.a2 q hq))
  refine lv_aload_n C.hx C.hb dL_law_311 rfl (lv_at hl 2 rfl) ?_
  refine la_ld I hn hl hS1 (k := 1) dL_law_312 dL_law_313 dL_law_314 dL_law_315 dL_law_316 (by decide) rfl ?_
  refine kVW (As := [.int (xs (5 * n + 1))]) (rest := [.int _]) C (cM_limit l G m0 mm w (xs (5 * n + 1))) lk_L_35 (g_recv C hM1.1 rfl) hM1 rfl rfl hl (Nat.le_of_ble_eq_true rfl) dL_law_317 ⟨⟨by decide, by decide⟩, by show 100 + 3 * n + 0 + 0 ≤ 600000; omega, by show 60000 + 619 * n + 0 + 0 ≤ 7302250; omega⟩ hS1 (fun q hq => Nat.le_trans I.m1 hq.1) (fun H2 locs2 hM2 hz2 hk2 hS2 => ?_)
  have eq := e_limit hR (xs (5 * n + 1))
  refine lv_icmp_eq (tgt := 1014) C.hx C.hb dL_law_320 (by decide) (fun _ => ?_) (fun c1 => absurd eq.1 c1)
  refine W.widen (k := 100 + 3 * (n + 1)) (n := 60000 + 619 * (n + 1)) (by omega) (by omega) ?_
  exact K H2 locs2 ⟨ad, _, _, _, _, _, rfl, hC1.kept (fun q hq h => hk2 q hq (I.nm h)), hM2, eq.2.up (Nat.le_succ n) hn2, (Nat.le_trans hz (Nat.le_trans hz1 hz2))⟩ hS2
set_option maxRecDepth 100000 in
theorem la_post (I : LC G p s m meth c b L xs A m0) (hn : 5 * n + 5 ≤ L) (hJ : IV G A a0 m0 n H) (hS : va_S (NA s) s.heap H locs) (hl : lv_has ls 4 (lls b a0 m0 n)) (K : ∀ (H1 : Heap) (locs1 : List Loc), IV G A a0 m0 (n + 1) H1 → va_S (NA s) s.heap H1 locs1 → W p l e room_1 s m #[Value.ref b] below meth c H1 locs1 (100 + 3 * (n + 1)) (60000 + 619 * (n + 1)) (lw_Z below #[Value.ref b] s) (F0 m 1014 ls [])) : W p l e room_1 s m #[Value.ref b] below meth c H locs (100 + 3 * n) (60000 + 619 * n) (lw_Z below #[Value.ref b] s) (F0 m 325 ls []) := by
  obtain ⟨ad, x, y, z, mm, w, e0, hC, hM, hR, hz⟩ := hJ
  subst e0
  have C := I.C; have hb := I.hL
  have hn2 : n + 1 ≤ 512 := by omega
  refine lv_aload_n C.hx C.hb dL_law_325 rfl (lv_at hl 1 rfl) ?_
  refine la_ld I hn hl hS (k := 1) (rest := [.ref (ad 0 0)]) dL_law_326 dL_law_327 dL_law_328 dL_law_329 dL_law_330 (by decide) rfl ?_
  refine la_ld I hn hl hS (k := 2) (rest := [.int (xs (5 * n + 1)), .ref (ad 0 0)]) dL_law_331 dL_law_332 dL_law_333 dL_law_334 dL_law_335 (by decide) rfl ?_
  refine la_ld I hn hl hS (k := 3) (rest := [.int (xs (5 * n + 2)), .int (xs (5 * n + 1)), .ref (ad 0 0)]) dL_law_336 dL_law_337 dL_law_338 dL_law_339 dL_law_340 (by decide) rfl ?_
  refine kVW (As := [.int (xs (5 * n + 1)), .int (xs (5 * n + 2)), .int (xs (5 * n + 3))]) (rest := []) C (cC_X7_post l G A ad x y z hR.ci (xs (5 * n + 1)) (xs (5 * n + 2)) (xs (5 * n + 3)) H.size (fun r hr => I.a3 r (Nat.le_trans hz hr))) lk_L_36 (g_recv C (hC.1 0 0 rfl).1 rfl) ⟨hC, rfl⟩ rfl rfl hl (Nat.le_of_ble_eq_true rfl) dL_law_341 ⟨⟨by decide, by decide⟩, by show 100 + 3 * n + 2 ≤ 600000; omega, by show 60000 + 619 * n + 607 ≤ 7302250; omega⟩ hS I.a1 (fun H1 locs1 hC1 hz1 hk1 hS1 => ?_)
  have hM1 : MWd G m0 mm w H1 := hM.kept (fun q hq => hk1 q (Nat.lt_of_lt_of_le hq.2 hz) (I.a2 q hq))
  refine lv_aload_n C.hx C.hb dL_law_344 rfl (lv_at hl 2 rfl) ?_
  refine la_ld I hn hl hS1 (k := 1) dL_law_345 dL_law_346 dL_law_347 dL_law_348 dL_law_349 (by decide) rfl ?_
  refine la_ld I hn hl hS1 (k := 2) dL_law_350 dL_law_351 dL_law_352 dL_law_353 dL_law_354 (by decide) rfl ?_
  refine la_ld I hn hl hS1 (k := 3) dL_law_355 dL_law_356 dL_law_357 dL_law_358 dL_law_359 (by decide) rfl ?_
  refine kVW (As := [.int (xs (5 * n + 1)), .int (xs (5 * n + 2)), .int (xs (5 * n + 3))]) (rest := [.int _]) C (cM_post l G m0 mm w hR.mi (xs (5 * n + 1)) (xs (5 * n + 2)) (xs (5 * n + 3))) lk_L_40 (g_recv C hM1.1 rfl) hM1 rfl rfl hl (Nat.le_of_ble_eq_true rfl) dL_law_360 ⟨⟨by decide, by decide⟩, by show 100 + 3 * n + 2 + 0 ≤ 600000; omega, by show 60000 + 619 * n + 607 + 0 ≤ 7302250; omega⟩ hS1 (fun q hq => Nat.le_trans I.m1 hq.1) (fun H2 locs2 hM2 hz2 hk2 hS2 => ?_)
  have eq := e_post hR (xs (5 * n + 1)) (xs (5 * n + 2)) (xs (5 * n + 3))
  refine lv_icmp_eq (tgt := 1014) C.hx C.hb dL_law_363 (by decide) (fun _ => ?_) (fun c1 => absurd eq.1 c1)
  refine W.widen (k := 100 + 3 * (n + 1)) (n := 60000 + 619 * (n + 1)) (by omega) (by omega) ?_
  obtain ⟨ad1, x1, y1, z1, e1, hC1, hR1⟩ := eq.2 G A ad H1 hC1
  exact K H2 locs2 ⟨ad1, _, _, _, _, _, e1, hC1.kept (fun q hq h => hk2 q hq (I.nm h)), hM2, hR1.up (Nat.le_succ n) hn2, (Nat.le_trans hz (Nat.le_trans hz1 hz2))⟩ hS2
set_option maxRecDepth 100000 in
theorem la_complain (I : LC G p s m meth c b L xs A m0) (hn : 5 * n + 5 ≤ L) (hJ : IV G A a0 m0 n H) (hS : va_S (NA s) s.heap H locs) (hl : lv_has ls 4 (lls b a0 m0 n)) (K : ∀ (H1 : Heap) (locs1 : List Loc), IV G A a0 m0 (n + 1) H1 → va_S (NA s) s.heap H1 locs1 → W p l e room_1 s m #[Value.ref b] below meth c H1 locs1 (100 + 3 * (n + 1)) (60000 + 619 * (n + 1)) (lw_Z below #[Value.ref b] s) (F0 m 1014 ls [])) : W p l e room_1 s m #[Value.ref b] below meth c H locs (100 + 3 * n) (60000 + 619 * n) (lw_Z below #[Value.ref b] s) (F0 m 368 ls []) := by
  obtain ⟨ad, x, y, z, mm, w, e0, hC, hM, hR, hz⟩ := hJ
  subst e0
  have C := I.C; have hb := I.hL
  have hn2 : n + 1 ≤ 512 := by omega
  refine lv_aload_n C.hx C.hb dL_law_368 rfl (lv_at hl 1 rfl) ?_
  refine la_ld I hn hl hS (k := 1) (rest := [.ref (ad 0 0)]) dL_law_369 dL_law_370 dL_law_371 dL_law_372 dL_law_373 (by decide) rfl ?_
  refine la_ld I hn hl hS (k := 2) (rest := [.int (xs (5 * n + 1)), .ref (ad 0 0)]) dL_law_374 dL_law_375 dL_law_376 dL_law_377 dL_law_378 (by decide) rfl ?_
  refine kVW (As := [.int (xs (5 * n + 1)), .int (xs (5 * n + 2))]) (rest := []) C (cC_X7_complain l G A ad x y z hR.ci hR.cl (xs (5 * n + 1)) (xs (5 * n + 2)) H.size (fun r hr => I.a3 r (Nat.le_trans hz hr))) lk_L_41 (g_recv C (hC.1 0 0 rfl).1 rfl) ⟨hC, rfl⟩ rfl rfl hl (Nat.le_of_ble_eq_true rfl) dL_law_379 ⟨⟨by decide, by decide⟩, by show 100 + 3 * n + 3 ≤ 600000; omega, by show 60000 + 619 * n + 619 ≤ 7302250; omega⟩ hS I.a1 (fun H1 locs1 hC1 hz1 hk1 hS1 => ?_)
  have hM1 : MWd G m0 mm w H1 := hM.kept (fun q hq => hk1 q (Nat.lt_of_lt_of_le hq.2 hz) (I.a2 q hq))
  refine lv_aload_n C.hx C.hb dL_law_382 rfl (lv_at hl 2 rfl) ?_
  refine la_ld I hn hl hS1 (k := 1) dL_law_383 dL_law_384 dL_law_385 dL_law_386 dL_law_387 (by decide) rfl ?_
  refine la_ld I hn hl hS1 (k := 2) dL_law_388 dL_law_389 dL_law_390 dL_law_391 dL_law_392 (by decide) rfl ?_
  refine kVW (As := [.int (xs (5 * n + 1)), .int (xs (5 * n + 2))]) (rest := [.int _]) C (cM_complain l G m0 mm w hR.mi (xs (5 * n + 1)) (xs (5 * n + 2))) lk_L_44 (g_recv C hM1.1 rfl) hM1 rfl rfl hl (Nat.le_of_ble_eq_true rfl) dL_law_393 ⟨⟨by decide, by decide⟩, by show 100 + 3 * n + 3 + 0 ≤ 600000; omega, by show 60000 + 619 * n + 619 + 0 ≤ 7302250; omega⟩ hS1 (fun q hq => Nat.le_trans I.m1 hq.1) (fun H2 locs2 hM2 hz2 hk2 hS2 => ?_)
  have eq := e_complain hR (xs (5 * n + 1)) (xs (5 * n + 2))
  refine lv_icmp_eq (tgt := 1014) C.hx C.hb dL_law_396 (by decide) (fun _ => ?_) (fun c1 => absurd eq.1 c1)
  refine W.widen (k := 100 + 3 * (n + 1)) (n := 60000 + 619 * (n + 1)) (by omega) (by omega) ?_
  obtain ⟨ad1, x1, y1, z1, e1, hC1, hR1⟩ := eq.2 G A ad H1 hC1
  exact K H2 locs2 ⟨ad1, _, _, _, _, _, e1, hC1.kept (fun q hq h => hk2 q hq (I.nm h)), hM2, hR1.up (Nat.le_succ n) hn2, (Nat.le_trans hz (Nat.le_trans hz1 hz2))⟩ hS2
set_option maxRecDepth 100000 in
theorem la_judge (I : LC G p s m meth c b L xs A m0) (hn : 5 * n + 5 ≤ L) (hJ : IV G A a0 m0 n H) (hS : va_S (NA s) s.heap H locs) (hl : lv_has ls 4 (lls b a0 m0 n)) (K : ∀ (H1 : Heap) (locs1 : List Loc), IV G A a0 m0 (n + 1) H1 → va_S (NA s) s.heap H1 locs1 → W p l e room_1 s m #[Value.ref b] below meth c H1 locs1 (100 + 3 * (n + 1)) (60000 + 619 * (n + 1)) (lw_Z below #[Value.ref b] s) (F0 m 1014 ls [])) : W p l e room_1 s m #[Value.ref b] below meth c H locs (100 + 3 * n) (60000 + 619 * n) (lw_Z below #[Value.ref b] s) (F0 m 401 ls []) := by
  obtain ⟨ad, x, y, z, mm, w, e0, hC, hM, hR, hz⟩ := hJ
  subst e0
  have C := I.C; have hb := I.hL
  have hn2 : n + 1 ≤ 512 := by omega
  refine lv_aload_n C.hx C.hb dL_law_401 rfl (lv_at hl 1 rfl) ?_
  refine la_ld I hn hl hS (k := 1) (rest := [.ref (ad 0 0)]) dL_law_402 dL_law_403 dL_law_404 dL_law_405 dL_law_406 (by decide) rfl ?_
  refine la_ld I hn hl hS (k := 2) (rest := [.int (xs (5 * n + 1)), .ref (ad 0 0)]) dL_law_407 dL_law_408 dL_law_409 dL_law_410 dL_law_411 (by decide) rfl ?_
  refine la_ld I hn hl hS (k := 3) (rest := [.int (xs (5 * n + 2)), .int (xs (5 * n + 1)), .ref (ad 0 0)]) dL_law_412 dL_law_413 dL_law_414 dL_law_415 dL_law_416 (by decide) rfl ?_
  refine la_ld I hn hl hS (k := 4) (rest := [.int (xs (5 * n + 3)), .int (xs (5 * n + 2)), .int (xs (5 * n + 1)), .ref (ad 0 0)]) dL_law_417 dL_law_418 dL_law_419 dL_law_420 dL_law_421 (by decide) rfl ?_
  refine kVW (As := [.int (xs (5 * n + 1)), .int (xs (5 * n + 2)), .int (xs (5 * n + 3)), .int (xs (5 * n + 4))]) (rest := []) C (cC_X7_judge l G A ad x y z (xs (5 * n + 1)) (xs (5 * n + 2)) (xs (5 * n + 3)) (xs (5 * n + 4))) lk_L_45 (g_recv C (hC.1 0 0 rfl).1 rfl) hC rfl rfl hl (Nat.le_of_ble_eq_true rfl) dL_law_422 ⟨⟨by decide, by decide⟩, by show 100 + 3 * n + 0 ≤ 600000; omega, by show 60000 + 619 * n + 0 ≤ 7302250; omega⟩ hS I.a1 (fun H1 locs1 hC1 hz1 hk1 hS1 => ?_)
  have hM1 : MWd G m0 mm w H1 := hM.kept (fun q hq => hk1 q (Nat.lt_of_lt_of_le hq.2 hz) (I.a2 q hq))
  refine lv_aload_n C.hx C.hb dL_law_425 rfl (lv_at hl 2 rfl) ?_
  refine la_ld I hn hl hS1 (k := 1) dL_law_426 dL_law_427 dL_law_428 dL_law_429 dL_law_430 (by decide) rfl ?_
  refine la_ld I hn hl hS1 (k := 2) dL_law_431 dL_law_432 dL_law_433 dL_law_434 dL_law_435 (by decide) rfl ?_
  refine la_ld I hn hl hS1 (k := 3) dL_law_436 dL_law_437 dL_law_438 dL_law_439 dL_law_440 (by decide) rfl ?_
  refine la_ld I hn hl hS1 (k := 4) dL_law_441 dL_law_442 dL_law_443 dL_law_444 dL_law_445 (by decide) rfl ?_
  refine kVW (As := [.int (xs (5 * n + 1)), .int (xs (5 * n + 2)), .int (xs (5 * n + 3)), .int (xs (5 * n + 4))]) (rest := [.int _]) C (cM_judge l G m0 mm w (xs (5 * n + 1)) (xs (5 * n + 2)) (xs (5 * n + 3)) (xs (5 * n + 4))) lk_L_48 (g_recv C hM1.1 rfl) hM1 rfl rfl hl (Nat.le_of_ble_eq_true rfl) dL_law_446 ⟨⟨by decide, by decide⟩, by show 100 + 3 * n + 0 + 0 ≤ 600000; omega, by show 60000 + 619 * n + 0 + 0 ≤ 7302250; omega⟩ hS1 (fun q hq => Nat.le_trans I.m1 hq.1) (fun H2 locs2 hM2 hz2 hk2 hS2 => ?_)
  have eq := e_judge hR (xs (5 * n + 1)) (xs (5 * n + 2)) (xs (5 * n + 3)) (xs (5 * n + 4))
  refine lv_icmp_eq (tgt := 1014) C.hx C.hb dL_law_449 (by decide) (fun _ => ?_) (fun c1 => absurd eq.1 c1)
  refine W.widen (k := 100 + 3 * (n + 1)) (n := 60000 + 619 * (n + 1)) (by omega) (by omega) ?_
  exact K H2 locs2 ⟨ad, _, _, _, _, _, rfl, hC1.kept (fun q hq h => hk2 q hq (I.nm h)), hM2, eq.2.up (Nat.le_succ n) hn2, (Nat.le_trans hz (Nat.le_trans hz1 hz2))⟩ hS2
set_option maxRecDepth 100000 in
theorem la_kin (I : LC G p s m meth c b L xs A m0) (hn : 5 * n + 5 ≤ L) (hJ : IV G A a0 m0 n H) (hS : va_S (NA s) s.heap H locs) (hl : lv_has ls 4 (lls b a0 m0 n)) (K : ∀ (H1 : Heap) (locs1 : List Loc), IV G A a0 m0 (n + 1) H1 → va_S (NA s) s.heap H1 locs1 → W p l e room_1 s m #[Value.ref b] below meth c H1 locs1 (100 + 3 * (n + 1)) (60000 + 619 * (n + 1)) (lw_Z below #[Value.ref b] s) (F0 m 1014 ls [])) : W p l e room_1 s m #[Value.ref b] below meth c H locs (100 + 3 * n) (60000 + 619 * n) (lw_Z below #[Value.ref b] s) (F0 m 454 ls []) := by
  obtain ⟨ad, x, y, z, mm, w, e0, hC, hM, hR, hz⟩ := hJ
  subst e0
  have C := I.C; have hb := I.hL
  have hn2 : n + 1 ≤ 512 := by omega
  refine lv_aload_n C.hx C.hb dL_law_454 rfl (lv_at hl 1 rfl) ?_
  refine la_ld I hn hl hS (k := 1) (rest := [.ref (ad 0 0)]) dL_law_455 dL_law_456 dL_law_457 dL_law_458 dL_law_459 (by decide) rfl ?_
  refine la_ld I hn hl hS (k := 2) (rest := [.int (xs (5 * n + 1)), .ref (ad 0 0)]) dL_law_460 dL_law_461 dL_law_462 dL_law_463 dL_law_464 (by decide) rfl ?_
  refine la_ld I hn hl hS (k := 3) (rest := [.int (xs (5 * n + 2)), .int (xs (5 * n + 1)), .ref (ad 0 0)]) dL_law_465 dL_law_466 dL_law_467 dL_law_468 dL_law_469 (by decide) rfl ?_
  refine kVW (As := [.int (xs (5 * n + 1)), .int (xs (5 * n + 2)), .int (xs (5 * n + 3))]) (rest := []) C (cC_X7_kin l G A ad x y z (xs (5 * n + 1)) (xs (5 * n + 2)) (xs (5 * n + 3))) lk_L_49 (g_recv C (hC.1 0 0 rfl).1 rfl) hC rfl rfl hl (Nat.le_of_ble_eq_true rfl) dL_law_470 ⟨⟨by decide, by decide⟩, by show 100 + 3 * n + 0 ≤ 600000; omega, by show 60000 + 619 * n + 0 ≤ 7302250; omega⟩ hS I.a1 (fun H1 locs1 hC1 hz1 hk1 hS1 => ?_)
  have hM1 : MWd G m0 mm w H1 := hM.kept (fun q hq => hk1 q (Nat.lt_of_lt_of_le hq.2 hz) (I.a2 q hq))
  refine lv_aload_n C.hx C.hb dL_law_473 rfl (lv_at hl 2 rfl) ?_
  refine la_ld I hn hl hS1 (k := 1) dL_law_474 dL_law_475 dL_law_476 dL_law_477 dL_law_478 (by decide) rfl ?_
  refine la_ld I hn hl hS1 (k := 2) dL_law_479 dL_law_480 dL_law_481 dL_law_482 dL_law_483 (by decide) rfl ?_
  refine la_ld I hn hl hS1 (k := 3) dL_law_484 dL_law_485 dL_law_486 dL_law_487 dL_law_488 (by decide) rfl ?_
  refine kVW (As := [.int (xs (5 * n + 1)), .int (xs (5 * n + 2)), .int (xs (5 * n + 3))]) (rest := [.int _]) C (cM_kin l G m0 mm w (xs (5 * n + 1)) (xs (5 * n + 2)) (xs (5 * n + 3))) lk_L_52 (g_recv C hM1.1 rfl) hM1 rfl rfl hl (Nat.le_of_ble_eq_true rfl) dL_law_489 ⟨⟨by decide, by decide⟩, by show 100 + 3 * n + 0 + 0 ≤ 600000; omega, by show 60000 + 619 * n + 0 + 0 ≤ 7302250; omega⟩ hS1 (fun q hq => Nat.le_trans I.m1 hq.1) (fun H2 locs2 hM2 hz2 hk2 hS2 => ?_)
  have eq := e_kin hR (xs (5 * n + 1)) (xs (5 * n + 2)) (xs (5 * n + 3))
  refine lv_icmp_eq (tgt := 1014) C.hx C.hb dL_law_492 (by decide) (fun _ => ?_) (fun c1 => absurd eq.1 c1)
  refine W.widen (k := 100 + 3 * (n + 1)) (n := 60000 + 619 * (n + 1)) (by omega) (by omega) ?_
  exact K H2 locs2 ⟨ad, _, _, _, _, _, rfl, hC1.kept (fun q hq h => hk2 q hq (I.nm h)), hM2, eq.2.up (Nat.le_succ n) hn2, (Nat.le_trans hz (Nat.le_trans hz1 hz2))⟩ hS2
set_option maxRecDepth 100000 in
theorem la_rest (I : LC G p s m meth c b L xs A m0) (hn : 5 * n + 5 ≤ L) (hJ : IV G A a0 m0 n H) (hS : va_S (NA s) s.heap H locs) (hl : lv_has ls 4 (lls b a0 m0 n)) (K : ∀ (H1 : Heap) (locs1 : List Loc), IV G A a0 m0 (n + 1) H1 → va_S (NA s) s.heap H1 locs1 → W p l e room_1 s m #[Value.ref b] below meth c H1 locs1 (100 + 3 * (n + 1)) (60000 + 619 * (n + 1)) (lw_Z below #[Value.ref b] s) (F0 m 1014 ls [])) : W p l e room_1 s m #[Value.ref b] below meth c H locs (100 + 3 * n) (60000 + 619 * n) (lw_Z below #[Value.ref b] s) (F0 m 497 ls []) := by
  obtain ⟨ad, x, y, z, mm, w, e0, hC, hM, hR, hz⟩ := hJ
  subst e0
  have C := I.C; have hb := I.hL
  have hn2 : n + 1 ≤ 512 := by omega
  refine lv_aload_n C.hx C.hb dL_law_497 rfl (lv_at hl 1 rfl) ?_
  refine la_ld I hn hl hS (k := 1) (rest := [.ref (ad 0 0)]) dL_law_498 dL_law_499 dL_law_500 dL_law_501 dL_law_502 (by decide) rfl ?_
  refine la_ld I hn hl hS (k := 2) (rest := [.int (xs (5 * n + 1)), .ref (ad 0 0)]) dL_law_503 dL_law_504 dL_law_505 dL_law_506 dL_law_507 (by decide) rfl ?_
  refine kVW (As := [.int (xs (5 * n + 1)), .int (xs (5 * n + 2))]) (rest := []) C (cC_X7_rest l G A ad x y z hR.ci (xs (5 * n + 1)) (xs (5 * n + 2))) lk_L_53 (g_recv C (hC.1 0 0 rfl).1 rfl) hC rfl rfl hl (Nat.le_of_ble_eq_true rfl) dL_law_508 ⟨⟨by decide, by decide⟩, by show 100 + 3 * n + 0 ≤ 600000; omega, by show 60000 + 619 * n + 0 ≤ 7302250; omega⟩ hS I.a1 (fun H1 locs1 hC1 hz1 hk1 hS1 => ?_)
  have hM1 : MWd G m0 mm w H1 := hM.kept (fun q hq => hk1 q (Nat.lt_of_lt_of_le hq.2 hz) (I.a2 q hq))
  refine lv_aload_n C.hx C.hb dL_law_511 rfl (lv_at hl 2 rfl) ?_
  refine la_ld I hn hl hS1 (k := 1) dL_law_512 dL_law_513 dL_law_514 dL_law_515 dL_law_516 (by decide) rfl ?_
  refine la_ld I hn hl hS1 (k := 2) dL_law_517 dL_law_518 dL_law_519 dL_law_520 dL_law_521 (by decide) rfl ?_
  refine kVW (As := [.int (xs (5 * n + 1)), .int (xs (5 * n + 2))]) (rest := [.int _]) C (cM_rest l G m0 mm w hR.mi (xs (5 * n + 1)) (xs (5 * n + 2))) lk_L_56 (g_recv C hM1.1 rfl) hM1 rfl rfl hl (Nat.le_of_ble_eq_true rfl) dL_law_522 ⟨⟨by decide, by decide⟩, by show 100 + 3 * n + 0 + 0 ≤ 600000; omega, by show 60000 + 619 * n + 0 + 0 ≤ 7302250; omega⟩ hS1 (fun q hq => Nat.le_trans I.m1 hq.1) (fun H2 locs2 hM2 hz2 hk2 hS2 => ?_)
  have eq := e_rest hR (xs (5 * n + 1)) (xs (5 * n + 2))
  refine lv_icmp_eq (tgt := 1014) C.hx C.hb dL_law_525 (by decide) (fun _ => ?_) (fun c1 => absurd eq.1 c1)
  refine W.widen (k := 100 + 3 * (n + 1)) (n := 60000 + 619 * (n + 1)) (by omega) (by omega) ?_
  obtain ⟨ad1, ka, hC1⟩ := hC1
  exact K H2 locs2 ⟨ad1, _, _, _, _, _, by rw [ka 0 (by decide)], hC1.kept (fun q hq h => hk2 q hq (I.nm h)), hM2, eq.2.up (Nat.le_succ n) hn2, (Nat.le_trans hz (Nat.le_trans hz1 hz2))⟩ hS2
set_option maxRecDepth 100000 in
theorem la_next (I : LC G p s m meth c b L xs A m0) (hn : 5 * n + 5 ≤ L) (hJ : IV G A a0 m0 n H) (hS : va_S (NA s) s.heap H locs) (hl : lv_has ls 4 (lls b a0 m0 n)) (K : ∀ (H1 : Heap) (locs1 : List Loc), IV G A a0 m0 (n + 1) H1 → va_S (NA s) s.heap H1 locs1 → W p l e room_1 s m #[Value.ref b] below meth c H1 locs1 (100 + 3 * (n + 1)) (60000 + 619 * (n + 1)) (lw_Z below #[Value.ref b] s) (F0 m 1014 ls [])) : W p l e room_1 s m #[Value.ref b] below meth c H locs (100 + 3 * n) (60000 + 619 * n) (lw_Z below #[Value.ref b] s) (F0 m 530 ls []) := by
  obtain ⟨ad, x, y, z, mm, w, e0, hC, hM, hR, hz⟩ := hJ
  subst e0
  have C := I.C; have hb := I.hL
  have hn2 : n + 1 ≤ 512 := by omega
  refine lv_aload_n C.hx C.hb dL_law_530 rfl (lv_at hl 1 rfl) ?_
  refine la_ld I hn hl hS (k := 1) (rest := [.ref (ad 0 0)]) dL_law_531 dL_law_532 dL_law_533 dL_law_534 dL_law_535 (by decide) rfl ?_
  refine kVR (As := [.int (xs (5 * n + 1))]) (rest := []) (v := _) C (cC_X7_next l G A ad x y z hR.ci (xs (5 * n + 1))) lk_L_57 (g_recv C (hC.1 0 0 rfl).1 rfl) hC rfl rfl hl (Nat.le_of_ble_eq_true rfl) dL_law_536 ⟨⟨by decide, by decide⟩, by show 100 + 3 * n + 0 ≤ 600000; omega, by show 60000 + 619 * n + 0 ≤ 7302250; omega⟩ ?_
  refine lv_aload_n C.hx C.hb dL_law_539 rfl (lv_at hl 2 rfl) ?_
  refine la_ld I hn hl hS (k := 1) dL_law_540 dL_law_541 dL_law_542 dL_law_543 dL_law_544 (by decide) rfl ?_
  refine kVR (As := [.int (xs (5 * n + 1))]) (rest := [.int _]) (v := _) C (cM_next l G m0 mm w hR.mi (xs (5 * n + 1))) lk_L_60 (g_recv C hM.1 rfl) hM rfl rfl hl (Nat.le_of_ble_eq_true rfl) dL_law_545 ⟨⟨by decide, by decide⟩, by show 100 + 3 * n + 0 ≤ 600000; omega, by show 60000 + 619 * n + 0 ≤ 7302250; omega⟩ ?_
  have eq := e_next hR (xs (5 * n + 1))
  refine lv_icmp_eq (tgt := 1014) C.hx C.hb dL_law_548 (by decide) (fun _ => ?_) (fun c1 => absurd eq c1)
  refine W.widen (k := 100 + 3 * (n + 1)) (n := 60000 + 619 * (n + 1)) (by omega) (by omega) ?_
  exact K H locs ⟨ad, _, _, _, _, _, rfl, hC, hM, hR.up (Nat.le_succ n) hn2, hz⟩ hS
set_option maxRecDepth 100000 in
theorem la_give (I : LC G p s m meth c b L xs A m0) (hn : 5 * n + 5 ≤ L) (hJ : IV G A a0 m0 n H) (hS : va_S (NA s) s.heap H locs) (hl : lv_has ls 4 (lls b a0 m0 n)) (K : ∀ (H1 : Heap) (locs1 : List Loc), IV G A a0 m0 (n + 1) H1 → va_S (NA s) s.heap H1 locs1 → W p l e room_1 s m #[Value.ref b] below meth c H1 locs1 (100 + 3 * (n + 1)) (60000 + 619 * (n + 1)) (lw_Z below #[Value.ref b] s) (F0 m 1014 ls [])) : W p l e room_1 s m #[Value.ref b] below meth c H locs (100 + 3 * n) (60000 + 619 * n) (lw_Z below #[Value.ref b] s) (F0 m 553 ls []) := by
  obtain ⟨ad, x, y, z, mm, w, e0, hC, hM, hR, hz⟩ := hJ
  subst e0
  have C := I.C; have hb := I.hL
  have hn2 : n + 1 ≤ 512 := by omega
  refine lv_aload_n C.hx C.hb dL_law_553 rfl (lv_at hl 1 rfl) ?_
  refine la_ld I hn hl hS (k := 1) (rest := [.ref (ad 0 0)]) dL_law_554 dL_law_555 dL_law_556 dL_law_557 dL_law_558 (by decide) rfl ?_
  refine kVW (As := [.int (xs (5 * n + 1))]) (rest := []) C (cC_X7_give l G A ad x y z hR.ci (xs (5 * n + 1)) H.size (fun r hr => I.a3 r (Nat.le_trans hz hr)) (hg_give hR)) lk_L_61 (g_recv C (hC.1 0 0 rfl).1 rfl) ⟨hC, rfl⟩ rfl rfl hl (Nat.le_of_ble_eq_true rfl) dL_law_559 ⟨⟨by decide, by decide⟩, by show 100 + 3 * n + 2 ≤ 600000; omega, by show 60000 + 619 * n + 602 ≤ 7302250; omega⟩ hS I.a1 (fun H1 locs1 hC1 hz1 hk1 hS1 => ?_)
  have hM1 : MWd G m0 mm w H1 := hM.kept (fun q hq => hk1 q (Nat.lt_of_lt_of_le hq.2 hz) (I.a2 q hq))
  refine lv_aload_n C.hx C.hb dL_law_562 rfl (lv_at hl 2 rfl) ?_
  refine la_ld I hn hl hS1 (k := 1) dL_law_563 dL_law_564 dL_law_565 dL_law_566 dL_law_567 (by decide) rfl ?_
  refine kVW (As := [.int (xs (5 * n + 1))]) (rest := [.int _]) C (cM_give l G m0 mm w hR.mi (xs (5 * n + 1)) (hg_give8 hR)) lk_L_64 (g_recv C hM1.1 rfl) hM1 rfl rfl hl (Nat.le_of_ble_eq_true rfl) dL_law_568 ⟨⟨by decide, by decide⟩, by show 100 + 3 * n + 2 + 0 ≤ 600000; omega, by show 60000 + 619 * n + 602 + 0 ≤ 7302250; omega⟩ hS1 (fun q hq => Nat.le_trans I.m1 hq.1) (fun H2 locs2 hM2 hz2 hk2 hS2 => ?_)
  have eq := e_give hR (xs (5 * n + 1))
  refine lv_icmp_eq (tgt := 1014) C.hx C.hb dL_law_571 (by decide) (fun _ => ?_) (fun c1 => absurd eq.1 c1)
  refine W.widen (k := 100 + 3 * (n + 1)) (n := 60000 + 619 * (n + 1)) (by omega) (by omega) ?_
  obtain ⟨ad1, x1, y1, z1, e1, hC1, hR1⟩ := eq.2 G A ad H1 hC1
  exact K H2 locs2 ⟨ad1, _, _, _, _, _, e1, hC1.kept (fun q hq h => hk2 q hq (I.nm h)), hM2, hR1.up (Nat.le_succ n) hn2, (Nat.le_trans hz (Nat.le_trans hz1 hz2))⟩ hS2
set_option maxRecDepth 100000 in
theorem la_undo (I : LC G p s m meth c b L xs A m0) (hn : 5 * n + 5 ≤ L) (hJ : IV G A a0 m0 n H) (hS : va_S (NA s) s.heap H locs) (hl : lv_has ls 4 (lls b a0 m0 n)) (K : ∀ (H1 : Heap) (locs1 : List Loc), IV G A a0 m0 (n + 1) H1 → va_S (NA s) s.heap H1 locs1 → W p l e room_1 s m #[Value.ref b] below meth c H1 locs1 (100 + 3 * (n + 1)) (60000 + 619 * (n + 1)) (lw_Z below #[Value.ref b] s) (F0 m 1014 ls [])) : W p l e room_1 s m #[Value.ref b] below meth c H locs (100 + 3 * n) (60000 + 619 * n) (lw_Z below #[Value.ref b] s) (F0 m 576 ls []) := by
  obtain ⟨ad, x, y, z, mm, w, e0, hC, hM, hR, hz⟩ := hJ
  subst e0
  have C := I.C; have hb := I.hL
  have hn2 : n + 1 ≤ 512 := by omega
  refine lv_aload_n C.hx C.hb dL_law_576 rfl (lv_at hl 1 rfl) ?_
  refine kVW (As := []) (rest := []) C (cC_X7_undo l G A ad x y z hR.ci) lk_L_65 (g_recv C (hC.1 0 0 rfl).1 rfl) hC rfl rfl hl (Nat.le_of_ble_eq_true rfl) dL_law_577 ⟨⟨by decide, by decide⟩, by show 100 + 3 * n + 0 ≤ 600000; omega, by show 60000 + 619 * n + 0 ≤ 7302250; omega⟩ hS I.a1 (fun H1 locs1 hC1 hz1 hk1 hS1 => ?_)
  have hM1 : MWd G m0 mm w H1 := hM.kept (fun q hq => hk1 q (Nat.lt_of_lt_of_le hq.2 hz) (I.a2 q hq))
  refine lv_aload_n C.hx C.hb dL_law_580 rfl (lv_at hl 2 rfl) ?_
  refine kVW (As := []) (rest := [.int _]) C (cM_undo l G m0 mm w hR.mi) lk_L_69 (g_recv C hM1.1 rfl) hM1 rfl rfl hl (Nat.le_of_ble_eq_true rfl) dL_law_581 ⟨⟨by decide, by decide⟩, by show 100 + 3 * n + 0 + 0 ≤ 600000; omega, by show 60000 + 619 * n + 0 + 0 ≤ 7302250; omega⟩ hS1 (fun q hq => Nat.le_trans I.m1 hq.1) (fun H2 locs2 hM2 hz2 hk2 hS2 => ?_)
  have eq := e_undo hR
  refine lv_icmp_eq (tgt := 1014) C.hx C.hb dL_law_584 (by decide) (fun _ => ?_) (fun c1 => absurd eq.1 c1)
  refine W.widen (k := 100 + 3 * (n + 1)) (n := 60000 + 619 * (n + 1)) (by omega) (by omega) ?_
  obtain ⟨ad1, ka, hC1⟩ := hC1
  exact K H2 locs2 ⟨ad1, _, _, _, _, _, by rw [ka 0 (by decide)], hC1.kept (fun q hq h => hk2 q hq (I.nm h)), hM2, eq.2.up (Nat.le_succ n) hn2, (Nat.le_trans hz (Nat.le_trans hz1 hz2))⟩ hS2
set_option maxRecDepth 100000 in
theorem la_vote (I : LC G p s m meth c b L xs A m0) (hn : 5 * n + 5 ≤ L) (hJ : IV G A a0 m0 n H) (hS : va_S (NA s) s.heap H locs) (hl : lv_has ls 4 (lls b a0 m0 n)) (K : ∀ (H1 : Heap) (locs1 : List Loc), IV G A a0 m0 (n + 1) H1 → va_S (NA s) s.heap H1 locs1 → W p l e room_1 s m #[Value.ref b] below meth c H1 locs1 (100 + 3 * (n + 1)) (60000 + 619 * (n + 1)) (lw_Z below #[Value.ref b] s) (F0 m 1014 ls [])) : W p l e room_1 s m #[Value.ref b] below meth c H locs (100 + 3 * n) (60000 + 619 * n) (lw_Z below #[Value.ref b] s) (F0 m 589 ls []) := by
  obtain ⟨ad, x, y, z, mm, w, e0, hC, hM, hR, hz⟩ := hJ
  subst e0
  have C := I.C; have hb := I.hL
  have hn2 : n + 1 ≤ 512 := by omega
  refine lv_aload_n C.hx C.hb dL_law_589 rfl (lv_at hl 1 rfl) ?_
  refine la_ld I hn hl hS (k := 1) (rest := [.ref (ad 0 0)]) dL_law_590 dL_law_591 dL_law_592 dL_law_593 dL_law_594 (by decide) rfl ?_
  refine la_ld I hn hl hS (k := 2) (rest := [.int (xs (5 * n + 1)), .ref (ad 0 0)]) dL_law_595 dL_law_596 dL_law_597 dL_law_598 dL_law_599 (by decide) rfl ?_
  refine la_ld I hn hl hS (k := 3) (rest := [.int (xs (5 * n + 2)), .int (xs (5 * n + 1)), .ref (ad 0 0)]) dL_law_600 dL_law_601 dL_law_602 dL_law_603 dL_law_604 (by decide) rfl ?_
  refine kVW (As := [.int (xs (5 * n + 1)), .int (xs (5 * n + 2)), .int (xs (5 * n + 3))]) (rest := []) C (cC_X7_vote l G A ad x y z hR.ci (xs (5 * n + 1)) (xs (5 * n + 2)) (xs (5 * n + 3))) lk_L_70 (g_recv C (hC.1 0 0 rfl).1 rfl) hC rfl rfl hl (Nat.le_of_ble_eq_true rfl) dL_law_605 ⟨⟨by decide, by decide⟩, by show 100 + 3 * n + 0 ≤ 600000; omega, by show 60000 + 619 * n + 0 ≤ 7302250; omega⟩ hS I.a1 (fun H1 locs1 hC1 hz1 hk1 hS1 => ?_)
  have hM1 : MWd G m0 mm w H1 := hM.kept (fun q hq => hk1 q (Nat.lt_of_lt_of_le hq.2 hz) (I.a2 q hq))
  refine lv_aload_n C.hx C.hb dL_law_608 rfl (lv_at hl 2 rfl) ?_
  refine la_ld I hn hl hS1 (k := 1) dL_law_609 dL_law_610 dL_law_611 dL_law_612 dL_law_613 (by decide) rfl ?_
  refine la_ld I hn hl hS1 (k := 2) dL_law_614 dL_law_615 dL_law_616 dL_law_617 dL_law_618 (by decide) rfl ?_
  refine la_ld I hn hl hS1 (k := 3) dL_law_619 dL_law_620 dL_law_621 dL_law_622 dL_law_623 (by decide) rfl ?_
  refine kVW (As := [.int (xs (5 * n + 1)), .int (xs (5 * n + 2)), .int (xs (5 * n + 3))]) (rest := [.int _]) C (cM_vote l G m0 mm w hR.mi (xs (5 * n + 1)) (xs (5 * n + 2)) (xs (5 * n + 3)) (by have := hR.bV; omega)) lk_L_73 (g_recv C hM1.1 rfl) hM1 rfl rfl hl (Nat.le_of_ble_eq_true rfl) dL_law_624 ⟨⟨by decide, by decide⟩, by show 100 + 3 * n + 0 + 0 ≤ 600000; omega, by show 60000 + 619 * n + 0 + 0 ≤ 7302250; omega⟩ hS1 (fun q hq => Nat.le_trans I.m1 hq.1) (fun H2 locs2 hM2 hz2 hk2 hS2 => ?_)
  have eq := e_vote hR hn2 (xs (5 * n + 1)) (xs (5 * n + 2)) (xs (5 * n + 3))
  refine lv_icmp_eq (tgt := 1014) C.hx C.hb dL_law_627 (by decide) (fun _ => ?_) (fun c1 => absurd eq.1 c1)
  refine W.widen (k := 100 + 3 * (n + 1)) (n := 60000 + 619 * (n + 1)) (by omega) (by omega) ?_
  obtain ⟨ad1, ka, hC1⟩ := hC1
  exact K H2 locs2 ⟨ad1, _, _, _, _, _, by rw [ka 0 (by decide)], hC1.kept (fun q hq h => hk2 q hq (I.nm h)), hM2, eq.2, (Nat.le_trans hz (Nat.le_trans hz1 hz2))⟩ hS2
set_option maxRecDepth 100000 in
theorem la_may (I : LC G p s m meth c b L xs A m0) (hn : 5 * n + 5 ≤ L) (hJ : IV G A a0 m0 n H) (hS : va_S (NA s) s.heap H locs) (hl : lv_has ls 4 (lls b a0 m0 n)) (K : ∀ (H1 : Heap) (locs1 : List Loc), IV G A a0 m0 (n + 1) H1 → va_S (NA s) s.heap H1 locs1 → W p l e room_1 s m #[Value.ref b] below meth c H1 locs1 (100 + 3 * (n + 1)) (60000 + 619 * (n + 1)) (lw_Z below #[Value.ref b] s) (F0 m 1014 ls [])) : W p l e room_1 s m #[Value.ref b] below meth c H locs (100 + 3 * n) (60000 + 619 * n) (lw_Z below #[Value.ref b] s) (F0 m 632 ls []) := by
  obtain ⟨ad, x, y, z, mm, w, e0, hC, hM, hR, hz⟩ := hJ
  subst e0
  have C := I.C; have hb := I.hL
  have hn2 : n + 1 ≤ 512 := by omega
  refine lv_aload_n C.hx C.hb dL_law_632 rfl (lv_at hl 1 rfl) ?_
  refine la_ld I hn hl hS (k := 1) (rest := [.ref (ad 0 0)]) dL_law_633 dL_law_634 dL_law_635 dL_law_636 dL_law_637 (by decide) rfl ?_
  refine la_ld I hn hl hS (k := 2) (rest := [.int (xs (5 * n + 1)), .ref (ad 0 0)]) dL_law_638 dL_law_639 dL_law_640 dL_law_641 dL_law_642 (by decide) rfl ?_
  refine kVR (As := [.int (xs (5 * n + 1)), .int (xs (5 * n + 2))]) (rest := []) (v := _) C (cC_X7_may l G A ad x y z hR.ci (xs (5 * n + 1)) (xs (5 * n + 2))) lk_L_74 (g_recv C (hC.1 0 0 rfl).1 rfl) hC rfl rfl hl (Nat.le_of_ble_eq_true rfl) dL_law_643 ⟨⟨by decide, by decide⟩, by show 100 + 3 * n + 0 ≤ 600000; omega, by show 60000 + 619 * n + 0 ≤ 7302250; omega⟩ ?_
  refine lv_aload_n C.hx C.hb dL_law_646 rfl (lv_at hl 2 rfl) ?_
  refine la_ld I hn hl hS (k := 1) dL_law_647 dL_law_648 dL_law_649 dL_law_650 dL_law_651 (by decide) rfl ?_
  refine la_ld I hn hl hS (k := 2) dL_law_652 dL_law_653 dL_law_654 dL_law_655 dL_law_656 (by decide) rfl ?_
  refine kVR (As := [.int (xs (5 * n + 1)), .int (xs (5 * n + 2))]) (rest := [.int _]) (v := _) C (cM_may l G m0 mm w hR.mi (xs (5 * n + 1)) (xs (5 * n + 2))) lk_L_77 (g_recv C hM.1 rfl) hM rfl rfl hl (Nat.le_of_ble_eq_true rfl) dL_law_657 ⟨⟨by decide, by decide⟩, by show 100 + 3 * n + 0 ≤ 600000; omega, by show 60000 + 619 * n + 0 ≤ 7302250; omega⟩ ?_
  have eq := e_may hR (xs (5 * n + 1)) (xs (5 * n + 2))
  refine lv_icmp_eq (tgt := 1014) C.hx C.hb dL_law_660 (by decide) (fun _ => ?_) (fun c1 => absurd eq c1)
  refine W.widen (k := 100 + 3 * (n + 1)) (n := 60000 + 619 * (n + 1)) (by omega) (by omega) ?_
  exact K H locs ⟨ad, _, _, _, _, _, rfl, hC, hM, hR.up (Nat.le_succ n) hn2, hz⟩ hS
set_option maxRecDepth 100000 in
theorem la_told (I : LC G p s m meth c b L xs A m0) (hn : 5 * n + 5 ≤ L) (hJ : IV G A a0 m0 n H) (hS : va_S (NA s) s.heap H locs) (hl : lv_has ls 4 (lls b a0 m0 n)) (K : ∀ (H1 : Heap) (locs1 : List Loc), IV G A a0 m0 (n + 1) H1 → va_S (NA s) s.heap H1 locs1 → W p l e room_1 s m #[Value.ref b] below meth c H1 locs1 (100 + 3 * (n + 1)) (60000 + 619 * (n + 1)) (lw_Z below #[Value.ref b] s) (F0 m 1014 ls [])) : W p l e room_1 s m #[Value.ref b] below meth c H locs (100 + 3 * n) (60000 + 619 * n) (lw_Z below #[Value.ref b] s) (F0 m 665 ls []) := by
  obtain ⟨ad, x, y, z, mm, w, e0, hC, hM, hR, hz⟩ := hJ
  subst e0
  have C := I.C; have hb := I.hL
  have hn2 : n + 1 ≤ 512 := by omega
  refine lv_aload_n C.hx C.hb dL_law_665 rfl (lv_at hl 1 rfl) ?_
  refine la_ld I hn hl hS (k := 1) (rest := [.ref (ad 0 0)]) dL_law_666 dL_law_667 dL_law_668 dL_law_669 dL_law_670 (by decide) rfl ?_
  refine la_ld I hn hl hS (k := 2) (rest := [.int (xs (5 * n + 1)), .ref (ad 0 0)]) dL_law_671 dL_law_672 dL_law_673 dL_law_674 dL_law_675 (by decide) rfl ?_
  refine kVR (As := [.int (xs (5 * n + 1)), .int (xs (5 * n + 2))]) (rest := []) (v := _) C (cC_X7_told l G A ad x y z hR.ci (xs (5 * n + 1)) (xs (5 * n + 2))) lk_L_78 (g_recv C (hC.1 0 0 rfl).1 rfl) hC rfl rfl hl (Nat.le_of_ble_eq_true rfl) dL_law_676 ⟨⟨by decide, by decide⟩, by show 100 + 3 * n + 0 ≤ 600000; omega, by show 60000 + 619 * n + 0 ≤ 7302250; omega⟩ ?_
  refine lv_aload_n C.hx C.hb dL_law_679 rfl (lv_at hl 2 rfl) ?_
  refine la_ld I hn hl hS (k := 1) dL_law_680 dL_law_681 dL_law_682 dL_law_683 dL_law_684 (by decide) rfl ?_
  refine la_ld I hn hl hS (k := 2) dL_law_685 dL_law_686 dL_law_687 dL_law_688 dL_law_689 (by decide) rfl ?_
  refine kVR (As := [.int (xs (5 * n + 1)), .int (xs (5 * n + 2))]) (rest := [.int _]) (v := _) C (cM_told l G m0 mm w hR.mi (xs (5 * n + 1)) (xs (5 * n + 2))) lk_L_81 (g_recv C hM.1 rfl) hM rfl rfl hl (Nat.le_of_ble_eq_true rfl) dL_law_690 ⟨⟨by decide, by decide⟩, by show 100 + 3 * n + 0 ≤ 600000; omega, by show 60000 + 619 * n + 0 ≤ 7302250; omega⟩ ?_
  have eq := e_told hR (xs (5 * n + 1)) (xs (5 * n + 2))
  refine lv_icmp_eq (tgt := 1014) C.hx C.hb dL_law_693 (by decide) (fun _ => ?_) (fun c1 => absurd eq c1)
  refine W.widen (k := 100 + 3 * (n + 1)) (n := 60000 + 619 * (n + 1)) (by omega) (by omega) ?_
  exact K H locs ⟨ad, _, _, _, _, _, rfl, hC, hM, hR.up (Nat.le_succ n) hn2, hz⟩ hS
set_option maxRecDepth 100000 in
theorem la_about (I : LC G p s m meth c b L xs A m0) (hn : 5 * n + 5 ≤ L) (hJ : IV G A a0 m0 n H) (hS : va_S (NA s) s.heap H locs) (hl : lv_has ls 4 (lls b a0 m0 n)) (K : ∀ (H1 : Heap) (locs1 : List Loc), IV G A a0 m0 (n + 1) H1 → va_S (NA s) s.heap H1 locs1 → W p l e room_1 s m #[Value.ref b] below meth c H1 locs1 (100 + 3 * (n + 1)) (60000 + 619 * (n + 1)) (lw_Z below #[Value.ref b] s) (F0 m 1014 ls [])) : W p l e room_1 s m #[Value.ref b] below meth c H locs (100 + 3 * n) (60000 + 619 * n) (lw_Z below #[Value.ref b] s) (F0 m 698 ls []) := by
  obtain ⟨ad, x, y, z, mm, w, e0, hC, hM, hR, hz⟩ := hJ
  subst e0
  have C := I.C; have hb := I.hL
  have hn2 : n + 1 ≤ 512 := by omega
  refine lv_aload_n C.hx C.hb dL_law_698 rfl (lv_at hl 1 rfl) ?_
  refine la_ld I hn hl hS (k := 1) (rest := [.ref (ad 0 0)]) dL_law_699 dL_law_700 dL_law_701 dL_law_702 dL_law_703 (by decide) rfl ?_
  refine la_ld I hn hl hS (k := 2) (rest := [.int (xs (5 * n + 1)), .ref (ad 0 0)]) dL_law_704 dL_law_705 dL_law_706 dL_law_707 dL_law_708 (by decide) rfl ?_
  refine kVR (As := [.int (xs (5 * n + 1)), .int (xs (5 * n + 2))]) (rest := []) (v := _) C (cC_X7_about l G A ad x y z hR.ci (xs (5 * n + 1)) (xs (5 * n + 2))) lk_L_82 (g_recv C (hC.1 0 0 rfl).1 rfl) hC rfl rfl hl (Nat.le_of_ble_eq_true rfl) dL_law_709 ⟨⟨by decide, by decide⟩, by show 100 + 3 * n + 0 ≤ 600000; omega, by show 60000 + 619 * n + 0 ≤ 7302250; omega⟩ ?_
  refine lv_aload_n C.hx C.hb dL_law_712 rfl (lv_at hl 2 rfl) ?_
  refine la_ld I hn hl hS (k := 1) dL_law_713 dL_law_714 dL_law_715 dL_law_716 dL_law_717 (by decide) rfl ?_
  refine la_ld I hn hl hS (k := 2) dL_law_718 dL_law_719 dL_law_720 dL_law_721 dL_law_722 (by decide) rfl ?_
  refine kVR (As := [.int (xs (5 * n + 1)), .int (xs (5 * n + 2))]) (rest := [.int _]) (v := _) C (cM_about l G m0 mm w hR.mi (xs (5 * n + 1)) (xs (5 * n + 2))) lk_L_85 (g_recv C hM.1 rfl) hM rfl rfl hl (Nat.le_of_ble_eq_true rfl) dL_law_723 ⟨⟨by decide, by decide⟩, by show 100 + 3 * n + 0 ≤ 600000; omega, by show 60000 + 619 * n + 0 ≤ 7302250; omega⟩ ?_
  have eq := e_about hR (xs (5 * n + 1)) (xs (5 * n + 2))
  refine lv_icmp_eq (tgt := 1014) C.hx C.hb dL_law_726 (by decide) (fun _ => ?_) (fun c1 => absurd eq c1)
  refine W.widen (k := 100 + 3 * (n + 1)) (n := 60000 + 619 * (n + 1)) (by omega) (by omega) ?_
  exact K H locs ⟨ad, _, _, _, _, _, rfl, hC, hM, hR.up (Nat.le_succ n) hn2, hz⟩ hS
set_option maxRecDepth 100000 in
theorem la_judged (I : LC G p s m meth c b L xs A m0) (hn : 5 * n + 5 ≤ L) (hJ : IV G A a0 m0 n H) (hS : va_S (NA s) s.heap H locs) (hl : lv_has ls 4 (lls b a0 m0 n)) (K : ∀ (H1 : Heap) (locs1 : List Loc), IV G A a0 m0 (n + 1) H1 → va_S (NA s) s.heap H1 locs1 → W p l e room_1 s m #[Value.ref b] below meth c H1 locs1 (100 + 3 * (n + 1)) (60000 + 619 * (n + 1)) (lw_Z below #[Value.ref b] s) (F0 m 1014 ls [])) : W p l e room_1 s m #[Value.ref b] below meth c H locs (100 + 3 * n) (60000 + 619 * n) (lw_Z below #[Value.ref b] s) (F0 m 731 ls []) := by
  obtain ⟨ad, x, y, z, mm, w, e0, hC, hM, hR, hz⟩ := hJ
  subst e0
  have C := I.C; have hb := I.hL
  have hn2 : n + 1 ≤ 512 := by omega
  refine lv_aload_n C.hx C.hb dL_law_731 rfl (lv_at hl 1 rfl) ?_
  refine la_ld I hn hl hS (k := 1) (rest := [.ref (ad 0 0)]) dL_law_732 dL_law_733 dL_law_734 dL_law_735 dL_law_736 (by decide) rfl ?_
  refine la_ld I hn hl hS (k := 2) (rest := [.int (xs (5 * n + 1)), .ref (ad 0 0)]) dL_law_737 dL_law_738 dL_law_739 dL_law_740 dL_law_741 (by decide) rfl ?_
  refine kVR (As := [.int (xs (5 * n + 1)), .int (xs (5 * n + 2))]) (rest := []) (v := _) C (cC_X7_judged l G A ad x y z hR.ci (xs (5 * n + 1)) (xs (5 * n + 2))) lk_L_86 (g_recv C (hC.1 0 0 rfl).1 rfl) hC rfl rfl hl (Nat.le_of_ble_eq_true rfl) dL_law_742 ⟨⟨by decide, by decide⟩, by show 100 + 3 * n + 0 ≤ 600000; omega, by show 60000 + 619 * n + 0 ≤ 7302250; omega⟩ ?_
  refine lv_aload_n C.hx C.hb dL_law_745 rfl (lv_at hl 2 rfl) ?_
  refine la_ld I hn hl hS (k := 1) dL_law_746 dL_law_747 dL_law_748 dL_law_749 dL_law_750 (by decide) rfl ?_
  refine la_ld I hn hl hS (k := 2) dL_law_751 dL_law_752 dL_law_753 dL_law_754 dL_law_755 (by decide) rfl ?_
  refine kVR (As := [.int (xs (5 * n + 1)), .int (xs (5 * n + 2))]) (rest := [.int _]) (v := _) C (cM_judged l G m0 mm w hR.mi (xs (5 * n + 1)) (xs (5 * n + 2))) lk_L_89 (g_recv C hM.1 rfl) hM rfl rfl hl (Nat.le_of_ble_eq_true rfl) dL_law_756 ⟨⟨by decide, by decide⟩, by show 100 + 3 * n + 0 ≤ 600000; omega, by show 60000 + 619 * n + 0 ≤ 7302250; omega⟩ ?_
  have eq := e_judged hR (xs (5 * n + 1)) (xs (5 * n + 2))
  refine lv_icmp_eq (tgt := 1014) C.hx C.hb dL_law_759 (by decide) (fun _ => ?_) (fun c1 => absurd eq c1)
  refine W.widen (k := 100 + 3 * (n + 1)) (n := 60000 + 619 * (n + 1)) (by omega) (by omega) ?_
  exact K H locs ⟨ad, _, _, _, _, _, rfl, hC, hM, hR.up (Nat.le_succ n) hn2, hz⟩ hS
set_option maxRecDepth 100000 in
theorem la_appeal (I : LC G p s m meth c b L xs A m0) (hn : 5 * n + 5 ≤ L) (hJ : IV G A a0 m0 n H) (hS : va_S (NA s) s.heap H locs) (hl : lv_has ls 4 (lls b a0 m0 n)) (K : ∀ (H1 : Heap) (locs1 : List Loc), IV G A a0 m0 (n + 1) H1 → va_S (NA s) s.heap H1 locs1 → W p l e room_1 s m #[Value.ref b] below meth c H1 locs1 (100 + 3 * (n + 1)) (60000 + 619 * (n + 1)) (lw_Z below #[Value.ref b] s) (F0 m 1014 ls [])) : W p l e room_1 s m #[Value.ref b] below meth c H locs (100 + 3 * n) (60000 + 619 * n) (lw_Z below #[Value.ref b] s) (F0 m 764 ls []) := by
  obtain ⟨ad, x, y, z, mm, w, e0, hC, hM, hR, hz⟩ := hJ
  subst e0
  have C := I.C; have hb := I.hL
  have hn2 : n + 1 ≤ 512 := by omega
  refine lv_aload_n C.hx C.hb dL_law_764 rfl (lv_at hl 1 rfl) ?_
  refine la_ld I hn hl hS (k := 1) (rest := [.ref (ad 0 0)]) dL_law_765 dL_law_766 dL_law_767 dL_law_768 dL_law_769 (by decide) rfl ?_
  refine kVW (As := [.int (xs (5 * n + 1))]) (rest := []) C (cC_X7_appeal l G A ad x y z hR.ci (xs (5 * n + 1)) (r42 hR) H.size (fun r hr => I.a3 r (Nat.le_trans hz hr))) lk_L_90 (g_recv C (hC.1 0 0 rfl).1 rfl) ⟨hC, rfl⟩ rfl rfl hl (Nat.le_of_ble_eq_true rfl) dL_law_770 ⟨⟨by decide, by decide⟩, by show 100 + 3 * n + 1 ≤ 600000; omega, by show 60000 + 619 * n + 7 ≤ 7302250; omega⟩ hS I.a1 (fun H1 locs1 hC1 hz1 hk1 hS1 => ?_)
  have hM1 : MWd G m0 mm w H1 := hM.kept (fun q hq => hk1 q (Nat.lt_of_lt_of_le hq.2 hz) (I.a2 q hq))
  refine lv_aload_n C.hx C.hb dL_law_773 rfl (lv_at hl 2 rfl) ?_
  refine la_ld I hn hl hS1 (k := 1) dL_law_774 dL_law_775 dL_law_776 dL_law_777 dL_law_778 (by decide) rfl ?_
  refine kVW (As := [.int (xs (5 * n + 1))]) (rest := [.int _]) C (cM_appeal l G m0 mm w hR.mi (xs (5 * n + 1))) lk_L_93 (g_recv C hM1.1 rfl) hM1 rfl rfl hl (Nat.le_of_ble_eq_true rfl) dL_law_779 ⟨⟨by decide, by decide⟩, by show 100 + 3 * n + 1 + 0 ≤ 600000; omega, by show 60000 + 619 * n + 7 + 0 ≤ 7302250; omega⟩ hS1 (fun q hq => Nat.le_trans I.m1 hq.1) (fun H2 locs2 hM2 hz2 hk2 hS2 => ?_)
  have eq := e_appeal hR (xs (5 * n + 1))
  refine lv_icmp_eq (tgt := 1014) C.hx C.hb dL_law_782 (by decide) (fun _ => ?_) (fun c1 => absurd eq.1 c1)
  refine W.widen (k := 100 + 3 * (n + 1)) (n := 60000 + 619 * (n + 1)) (by omega) (by omega) ?_
  obtain ⟨ad1, x1, y1, z1, e1, hC1, hR1⟩ := eq.2 G A ad H1 hC1
  exact K H2 locs2 ⟨ad1, _, _, _, _, _, e1, hC1.kept (fun q hq h => hk2 q hq (I.nm h)), hM2, hR1.up (Nat.le_succ n) hn2, (Nat.le_trans hz (Nat.le_trans hz1 hz2))⟩ hS2
set_option maxRecDepth 100000 in
theorem la_known (I : LC G p s m meth c b L xs A m0) (hn : 5 * n + 5 ≤ L) (hJ : IV G A a0 m0 n H) (hS : va_S (NA s) s.heap H locs) (hl : lv_has ls 4 (lls b a0 m0 n)) (K : ∀ (H1 : Heap) (locs1 : List Loc), IV G A a0 m0 (n + 1) H1 → va_S (NA s) s.heap H1 locs1 → W p l e room_1 s m #[Value.ref b] below meth c H1 locs1 (100 + 3 * (n + 1)) (60000 + 619 * (n + 1)) (lw_Z below #[Value.ref b] s) (F0 m 1014 ls [])) : W p l e room_1 s m #[Value.ref b] below meth c H locs (100 + 3 * n) (60000 + 619 * n) (lw_Z below #[Value.ref b] s) (F0 m 787 ls []) := by
  obtain ⟨ad, x, y, z, mm, w, e0, hC, hM, hR, hz⟩ := hJ
  subst e0
  have C := I.C; have hb := I.hL
  have hn2 : n + 1 ≤ 512 := by omega
  refine lv_aload_n C.hx C.hb dL_law_787 rfl (lv_at hl 1 rfl) ?_
  refine la_ld I hn hl hS (k := 1) (rest := [.ref (ad 0 0)]) dL_law_788 dL_law_789 dL_law_790 dL_law_791 dL_law_792 (by decide) rfl ?_
  refine la_ld I hn hl hS (k := 2) (rest := [.int (xs (5 * n + 1)), .ref (ad 0 0)]) dL_law_793 dL_law_794 dL_law_795 dL_law_796 dL_law_797 (by decide) rfl ?_
  refine kVW (As := [.int (xs (5 * n + 1)), .int (xs (5 * n + 2))]) (rest := []) C (cC_X7_known l G A ad x y z hR.ci (xs (5 * n + 1)) (xs (5 * n + 2))) lk_L_94 (g_recv C (hC.1 0 0 rfl).1 rfl) hC rfl rfl hl (Nat.le_of_ble_eq_true rfl) dL_law_798 ⟨⟨by decide, by decide⟩, by show 100 + 3 * n + 0 ≤ 600000; omega, by show 60000 + 619 * n + 0 ≤ 7302250; omega⟩ hS I.a1 (fun H1 locs1 hC1 hz1 hk1 hS1 => ?_)
  have hM1 : MWd G m0 mm w H1 := hM.kept (fun q hq => hk1 q (Nat.lt_of_lt_of_le hq.2 hz) (I.a2 q hq))
  refine lv_aload_n C.hx C.hb dL_law_801 rfl (lv_at hl 2 rfl) ?_
  refine la_ld I hn hl hS1 (k := 1) dL_law_802 dL_law_803 dL_law_804 dL_law_805 dL_law_806 (by decide) rfl ?_
  refine la_ld I hn hl hS1 (k := 2) dL_law_807 dL_law_808 dL_law_809 dL_law_810 dL_law_811 (by decide) rfl ?_
  refine kVW (As := [.int (xs (5 * n + 1)), .int (xs (5 * n + 2))]) (rest := [.int _]) C (cM_known l G m0 mm w hR.mi (xs (5 * n + 1)) (xs (5 * n + 2))) lk_L_97 (g_recv C hM1.1 rfl) hM1 rfl rfl hl (Nat.le_of_ble_eq_true rfl) dL_law_812 ⟨⟨by decide, by decide⟩, by show 100 + 3 * n + 0 + 0 ≤ 600000; omega, by show 60000 + 619 * n + 0 + 0 ≤ 7302250; omega⟩ hS1 (fun q hq => Nat.le_trans I.m1 hq.1) (fun H2 locs2 hM2 hz2 hk2 hS2 => ?_)
  have eq := e_known hR (xs (5 * n + 1)) (xs (5 * n + 2))
  refine lv_icmp_eq (tgt := 1014) C.hx C.hb dL_law_815 (by decide) (fun _ => ?_) (fun c1 => absurd eq.1 c1)
  refine W.widen (k := 100 + 3 * (n + 1)) (n := 60000 + 619 * (n + 1)) (by omega) (by omega) ?_
  obtain ⟨ad1, ka, hC1⟩ := hC1
  exact K H2 locs2 ⟨ad1, _, _, _, _, _, by rw [ka 0 (by decide)], hC1.kept (fun q hq h => hk2 q hq (I.nm h)), hM2, eq.2.up (Nat.le_succ n) hn2, (Nat.le_trans hz (Nat.le_trans hz1 hz2))⟩ hS2
set_option maxRecDepth 100000 in
theorem la_late (I : LC G p s m meth c b L xs A m0) (hn : 5 * n + 5 ≤ L) (hJ : IV G A a0 m0 n H) (hS : va_S (NA s) s.heap H locs) (hl : lv_has ls 4 (lls b a0 m0 n)) (K : ∀ (H1 : Heap) (locs1 : List Loc), IV G A a0 m0 (n + 1) H1 → va_S (NA s) s.heap H1 locs1 → W p l e room_1 s m #[Value.ref b] below meth c H1 locs1 (100 + 3 * (n + 1)) (60000 + 619 * (n + 1)) (lw_Z below #[Value.ref b] s) (F0 m 1014 ls [])) : W p l e room_1 s m #[Value.ref b] below meth c H locs (100 + 3 * n) (60000 + 619 * n) (lw_Z below #[Value.ref b] s) (F0 m 820 ls []) := by
  obtain ⟨ad, x, y, z, mm, w, e0, hC, hM, hR, hz⟩ := hJ
  subst e0
  have C := I.C; have hb := I.hL
  have hn2 : n + 1 ≤ 512 := by omega
  refine lv_aload_n C.hx C.hb dL_law_820 rfl (lv_at hl 1 rfl) ?_
  refine kVR (As := []) (rest := []) (v := _) C (cC_X7_late l G A ad x y z hR.ci) lk_L_98 (g_recv C (hC.1 0 0 rfl).1 rfl) hC rfl rfl hl (Nat.le_of_ble_eq_true rfl) dL_law_821 ⟨⟨by decide, by decide⟩, by show 100 + 3 * n + 0 ≤ 600000; omega, by show 60000 + 619 * n + 0 ≤ 7302250; omega⟩ ?_
  refine lv_aload_n C.hx C.hb dL_law_824 rfl (lv_at hl 2 rfl) ?_
  refine kVR (As := []) (rest := [.int _]) (v := _) C (cM_late l G m0 mm w hR.mi) lk_L_101 (g_recv C hM.1 rfl) hM rfl rfl hl (Nat.le_of_ble_eq_true rfl) dL_law_825 ⟨⟨by decide, by decide⟩, by show 100 + 3 * n + 0 ≤ 600000; omega, by show 60000 + 619 * n + 0 ≤ 7302250; omega⟩ ?_
  have eq := e_late hR
  refine lv_icmp_eq (tgt := 1014) C.hx C.hb dL_law_828 (by decide) (fun _ => ?_) (fun c1 => absurd eq c1)
  refine W.widen (k := 100 + 3 * (n + 1)) (n := 60000 + 619 * (n + 1)) (by omega) (by omega) ?_
  exact K H locs ⟨ad, _, _, _, _, _, rfl, hC, hM, hR.up (Nat.le_succ n) hn2, hz⟩ hS
set_option maxRecDepth 100000 in
theorem la_like (I : LC G p s m meth c b L xs A m0) (hn : 5 * n + 5 ≤ L) (hJ : IV G A a0 m0 n H) (hS : va_S (NA s) s.heap H locs) (hl : lv_has ls 4 (lls b a0 m0 n)) (K : ∀ (H1 : Heap) (locs1 : List Loc), IV G A a0 m0 (n + 1) H1 → va_S (NA s) s.heap H1 locs1 → W p l e room_1 s m #[Value.ref b] below meth c H1 locs1 (100 + 3 * (n + 1)) (60000 + 619 * (n + 1)) (lw_Z below #[Value.ref b] s) (F0 m 1014 ls [])) : W p l e room_1 s m #[Value.ref b] below meth c H locs (100 + 3 * n) (60000 + 619 * n) (lw_Z below #[Value.ref b] s) (F0 m 833 ls []) := by
  obtain ⟨ad, x, y, z, mm, w, e0, hC, hM, hR, hz⟩ := hJ
  subst e0
  have C := I.C; have hb := I.hL
  have hn2 : n + 1 ≤ 512 := by omega
  refine lv_aload_n C.hx C.hb dL_law_833 rfl (lv_at hl 1 rfl) ?_
  refine la_ld I hn hl hS (k := 1) (rest := [.ref (ad 0 0)]) dL_law_834 dL_law_835 dL_law_836 dL_law_837 dL_law_838 (by decide) rfl ?_
  refine la_ld I hn hl hS (k := 2) (rest := [.int (xs (5 * n + 1)), .ref (ad 0 0)]) dL_law_839 dL_law_840 dL_law_841 dL_law_842 dL_law_843 (by decide) rfl ?_
  refine kVR (As := [.int (xs (5 * n + 1)), .int (xs (5 * n + 2))]) (rest := []) (v := _) C (cC_X7_like l G A ad x y z hR.ci (xs (5 * n + 1)) (xs (5 * n + 2))) lk_L_102 (g_recv C (hC.1 0 0 rfl).1 rfl) hC rfl rfl hl (Nat.le_of_ble_eq_true rfl) dL_law_844 ⟨⟨by decide, by decide⟩, by show 100 + 3 * n + 0 ≤ 600000; omega, by show 60000 + 619 * n + 0 ≤ 7302250; omega⟩ ?_
  refine lv_aload_n C.hx C.hb dL_law_847 rfl (lv_at hl 2 rfl) ?_
  refine la_ld I hn hl hS (k := 1) dL_law_848 dL_law_849 dL_law_850 dL_law_851 dL_law_852 (by decide) rfl ?_
  refine la_ld I hn hl hS (k := 2) dL_law_853 dL_law_854 dL_law_855 dL_law_856 dL_law_857 (by decide) rfl ?_
  refine kVR (As := [.int (xs (5 * n + 1)), .int (xs (5 * n + 2))]) (rest := [.int _]) (v := _) C (cM_like l G m0 mm w hR.mi (xs (5 * n + 1)) (xs (5 * n + 2))) lk_L_105 (g_recv C hM.1 rfl) hM rfl rfl hl (Nat.le_of_ble_eq_true rfl) dL_law_858 ⟨⟨by decide, by decide⟩, by show 100 + 3 * n + 0 ≤ 600000; omega, by show 60000 + 619 * n + 0 ≤ 7302250; omega⟩ ?_
  have eq := e_like hR (xs (5 * n + 1)) (xs (5 * n + 2))
  refine lv_icmp_eq (tgt := 1014) C.hx C.hb dL_law_861 (by decide) (fun _ => ?_) (fun c1 => absurd eq c1)
  refine W.widen (k := 100 + 3 * (n + 1)) (n := 60000 + 619 * (n + 1)) (by omega) (by omega) ?_
  exact K H locs ⟨ad, _, _, _, _, _, rfl, hC, hM, hR.up (Nat.le_succ n) hn2, hz⟩ hS
set_option maxRecDepth 100000 in
theorem la_unlike (I : LC G p s m meth c b L xs A m0) (hn : 5 * n + 5 ≤ L) (hJ : IV G A a0 m0 n H) (hS : va_S (NA s) s.heap H locs) (hl : lv_has ls 4 (lls b a0 m0 n)) (K : ∀ (H1 : Heap) (locs1 : List Loc), IV G A a0 m0 (n + 1) H1 → va_S (NA s) s.heap H1 locs1 → W p l e room_1 s m #[Value.ref b] below meth c H1 locs1 (100 + 3 * (n + 1)) (60000 + 619 * (n + 1)) (lw_Z below #[Value.ref b] s) (F0 m 1014 ls [])) : W p l e room_1 s m #[Value.ref b] below meth c H locs (100 + 3 * n) (60000 + 619 * n) (lw_Z below #[Value.ref b] s) (F0 m 866 ls []) := by
  obtain ⟨ad, x, y, z, mm, w, e0, hC, hM, hR, hz⟩ := hJ
  subst e0
  have C := I.C; have hb := I.hL
  have hn2 : n + 1 ≤ 512 := by omega
  refine lv_aload_n C.hx C.hb dL_law_866 rfl (lv_at hl 1 rfl) ?_
  refine la_ld I hn hl hS (k := 1) (rest := [.ref (ad 0 0)]) dL_law_867 dL_law_868 dL_law_869 dL_law_870 dL_law_871 (by decide) rfl ?_
  refine la_ld I hn hl hS (k := 2) (rest := [.int (xs (5 * n + 1)), .ref (ad 0 0)]) dL_law_872 dL_law_873 dL_law_874 dL_law_875 dL_law_876 (by decide) rfl ?_
  refine kVR (As := [.int (xs (5 * n + 1)), .int (xs (5 * n + 2))]) (rest := []) (v := _) C (cC_X7_unlike l G A ad x y z hR.ci (xs (5 * n + 1)) (xs (5 * n + 2))) lk_L_106 (g_recv C (hC.1 0 0 rfl).1 rfl) hC rfl rfl hl (Nat.le_of_ble_eq_true rfl) dL_law_877 ⟨⟨by decide, by decide⟩, by show 100 + 3 * n + 0 ≤ 600000; omega, by show 60000 + 619 * n + 0 ≤ 7302250; omega⟩ ?_
  refine lv_aload_n C.hx C.hb dL_law_880 rfl (lv_at hl 2 rfl) ?_
  refine la_ld I hn hl hS (k := 1) dL_law_881 dL_law_882 dL_law_883 dL_law_884 dL_law_885 (by decide) rfl ?_
  refine la_ld I hn hl hS (k := 2) dL_law_886 dL_law_887 dL_law_888 dL_law_889 dL_law_890 (by decide) rfl ?_
  refine kVR (As := [.int (xs (5 * n + 1)), .int (xs (5 * n + 2))]) (rest := [.int _]) (v := _) C (cM_unlike l G m0 mm w hR.mi (xs (5 * n + 1)) (xs (5 * n + 2))) lk_L_109 (g_recv C hM.1 rfl) hM rfl rfl hl (Nat.le_of_ble_eq_true rfl) dL_law_891 ⟨⟨by decide, by decide⟩, by show 100 + 3 * n + 0 ≤ 600000; omega, by show 60000 + 619 * n + 0 ≤ 7302250; omega⟩ ?_
  have eq := e_unlike hR (xs (5 * n + 1)) (xs (5 * n + 2))
  refine lv_icmp_eq (tgt := 1014) C.hx C.hb dL_law_894 (by decide) (fun _ => ?_) (fun c1 => absurd eq c1)
  refine W.widen (k := 100 + 3 * (n + 1)) (n := 60000 + 619 * (n + 1)) (by omega) (by omega) ?_
  exact K H locs ⟨ad, _, _, _, _, _, rfl, hC, hM, hR.up (Nat.le_succ n) hn2, hz⟩ hS
set_option maxRecDepth 100000 in
theorem la_writer (I : LC G p s m meth c b L xs A m0) (hn : 5 * n + 5 ≤ L) (hJ : IV G A a0 m0 n H) (hS : va_S (NA s) s.heap H locs) (hl : lv_has ls 4 (lls b a0 m0 n)) (K : ∀ (H1 : Heap) (locs1 : List Loc), IV G A a0 m0 (n + 1) H1 → va_S (NA s) s.heap H1 locs1 → W p l e room_1 s m #[Value.ref b] below meth c H1 locs1 (100 + 3 * (n + 1)) (60000 + 619 * (n + 1)) (lw_Z below #[Value.ref b] s) (F0 m 1014 ls [])) : W p l e room_1 s m #[Value.ref b] below meth c H locs (100 + 3 * n) (60000 + 619 * n) (lw_Z below #[Value.ref b] s) (F0 m 899 ls []) := by
  obtain ⟨ad, x, y, z, mm, w, e0, hC, hM, hR, hz⟩ := hJ
  subst e0
  have C := I.C; have hb := I.hL
  have hn2 : n + 1 ≤ 512 := by omega
  refine lv_aload_n C.hx C.hb dL_law_899 rfl (lv_at hl 1 rfl) ?_
  refine la_ld I hn hl hS (k := 1) (rest := [.ref (ad 0 0)]) dL_law_900 dL_law_901 dL_law_902 dL_law_903 dL_law_904 (by decide) rfl ?_
  refine la_ld I hn hl hS (k := 2) (rest := [.int (xs (5 * n + 1)), .ref (ad 0 0)]) dL_law_905 dL_law_906 dL_law_907 dL_law_908 dL_law_909 (by decide) rfl ?_
  refine kVW (As := [.int (xs (5 * n + 1)), .int (xs (5 * n + 2))]) (rest := []) C (cC_X7_writer l G A ad x y z hR.ci hR.cl (xs (5 * n + 1)) (xs (5 * n + 2))) lk_L_110 (g_recv C (hC.1 0 0 rfl).1 rfl) hC rfl rfl hl (Nat.le_of_ble_eq_true rfl) dL_law_910 ⟨⟨by decide, by decide⟩, by show 100 + 3 * n + 0 ≤ 600000; omega, by show 60000 + 619 * n + 0 ≤ 7302250; omega⟩ hS I.a1 (fun H1 locs1 hC1 hz1 hk1 hS1 => ?_)
  have hM1 : MWd G m0 mm w H1 := hM.kept (fun q hq => hk1 q (Nat.lt_of_lt_of_le hq.2 hz) (I.a2 q hq))
  refine lv_aload_n C.hx C.hb dL_law_913 rfl (lv_at hl 2 rfl) ?_
  refine la_ld I hn hl hS1 (k := 1) dL_law_914 dL_law_915 dL_law_916 dL_law_917 dL_law_918 (by decide) rfl ?_
  refine la_ld I hn hl hS1 (k := 2) dL_law_919 dL_law_920 dL_law_921 dL_law_922 dL_law_923 (by decide) rfl ?_
  refine kVW (As := [.int (xs (5 * n + 1)), .int (xs (5 * n + 2))]) (rest := [.int _]) C (cM_writer l G m0 mm w hR.mi (xs (5 * n + 1)) (xs (5 * n + 2))) lk_L_113 (g_recv C hM1.1 rfl) hM1 rfl rfl hl (Nat.le_of_ble_eq_true rfl) dL_law_924 ⟨⟨by decide, by decide⟩, by show 100 + 3 * n + 0 + 0 ≤ 600000; omega, by show 60000 + 619 * n + 0 + 0 ≤ 7302250; omega⟩ hS1 (fun q hq => Nat.le_trans I.m1 hq.1) (fun H2 locs2 hM2 hz2 hk2 hS2 => ?_)
  have eq := e_writer hR (xs (5 * n + 1)) (xs (5 * n + 2))
  refine lv_icmp_eq (tgt := 1014) C.hx C.hb dL_law_927 (by decide) (fun _ => ?_) (fun c1 => absurd eq.1 c1)
  refine W.widen (k := 100 + 3 * (n + 1)) (n := 60000 + 619 * (n + 1)) (by omega) (by omega) ?_
  exact K H2 locs2 ⟨ad, _, _, _, _, _, rfl, hC1.kept (fun q hq h => hk2 q hq (I.nm h)), hM2, eq.2.up (Nat.le_succ n) hn2, (Nat.le_trans hz (Nat.le_trans hz1 hz2))⟩ hS2
set_option maxRecDepth 100000 in
theorem la_level (I : LC G p s m meth c b L xs A m0) (hn : 5 * n + 5 ≤ L) (hJ : IV G A a0 m0 n H) (hS : va_S (NA s) s.heap H locs) (hl : lv_has ls 4 (lls b a0 m0 n)) (K : ∀ (H1 : Heap) (locs1 : List Loc), IV G A a0 m0 (n + 1) H1 → va_S (NA s) s.heap H1 locs1 → W p l e room_1 s m #[Value.ref b] below meth c H1 locs1 (100 + 3 * (n + 1)) (60000 + 619 * (n + 1)) (lw_Z below #[Value.ref b] s) (F0 m 1014 ls [])) : W p l e room_1 s m #[Value.ref b] below meth c H locs (100 + 3 * n) (60000 + 619 * n) (lw_Z below #[Value.ref b] s) (F0 m 932 ls []) := by
  obtain ⟨ad, x, y, z, mm, w, e0, hC, hM, hR, hz⟩ := hJ
  subst e0
  have C := I.C; have hb := I.hL
  have hn2 : n + 1 ≤ 512 := by omega
  refine lv_aload_n C.hx C.hb dL_law_932 rfl (lv_at hl 1 rfl) ?_
  refine la_ld I hn hl hS (k := 1) (rest := [.ref (ad 0 0)]) dL_law_933 dL_law_934 dL_law_935 dL_law_936 dL_law_937 (by decide) rfl ?_
  refine kVW (As := [.int (xs (5 * n + 1))]) (rest := []) C (cC_X7_level l G A ad x y z hR.ci hR.cl (xs (5 * n + 1))) lk_L_114 (g_recv C (hC.1 0 0 rfl).1 rfl) hC rfl rfl hl (Nat.le_of_ble_eq_true rfl) dL_law_938 ⟨⟨by decide, by decide⟩, by show 100 + 3 * n + 0 ≤ 600000; omega, by show 60000 + 619 * n + 0 ≤ 7302250; omega⟩ hS I.a1 (fun H1 locs1 hC1 hz1 hk1 hS1 => ?_)
  have hM1 : MWd G m0 mm w H1 := hM.kept (fun q hq => hk1 q (Nat.lt_of_lt_of_le hq.2 hz) (I.a2 q hq))
  refine lv_aload_n C.hx C.hb dL_law_941 rfl (lv_at hl 2 rfl) ?_
  refine la_ld I hn hl hS1 (k := 1) dL_law_942 dL_law_943 dL_law_944 dL_law_945 dL_law_946 (by decide) rfl ?_
  refine kVW (As := [.int (xs (5 * n + 1))]) (rest := [.int _]) C (cM_level l G m0 mm w hR.mi (xs (5 * n + 1))) lk_L_117 (g_recv C hM1.1 rfl) hM1 rfl rfl hl (Nat.le_of_ble_eq_true rfl) dL_law_947 ⟨⟨by decide, by decide⟩, by show 100 + 3 * n + 0 + 0 ≤ 600000; omega, by show 60000 + 619 * n + 0 + 0 ≤ 7302250; omega⟩ hS1 (fun q hq => Nat.le_trans I.m1 hq.1) (fun H2 locs2 hM2 hz2 hk2 hS2 => ?_)
  have eq := e_level hR (xs (5 * n + 1))
  refine lv_icmp_eq (tgt := 1014) C.hx C.hb dL_law_950 (by decide) (fun _ => ?_) (fun c1 => absurd eq.1 c1)
  refine W.widen (k := 100 + 3 * (n + 1)) (n := 60000 + 619 * (n + 1)) (by omega) (by omega) ?_
  exact K H2 locs2 ⟨ad, _, _, _, _, _, rfl, hC1.kept (fun q hq h => hk2 q hq (I.nm h)), hM2, eq.2.up (Nat.le_succ n) hn2, (Nat.le_trans hz (Nat.le_trans hz1 hz2))⟩ hS2
set_option maxRecDepth 100000 in
theorem la_hidden (I : LC G p s m meth c b L xs A m0) (hn : 5 * n + 5 ≤ L) (hJ : IV G A a0 m0 n H) (hS : va_S (NA s) s.heap H locs) (hl : lv_has ls 4 (lls b a0 m0 n)) (K : ∀ (H1 : Heap) (locs1 : List Loc), IV G A a0 m0 (n + 1) H1 → va_S (NA s) s.heap H1 locs1 → W p l e room_1 s m #[Value.ref b] below meth c H1 locs1 (100 + 3 * (n + 1)) (60000 + 619 * (n + 1)) (lw_Z below #[Value.ref b] s) (F0 m 1014 ls [])) : W p l e room_1 s m #[Value.ref b] below meth c H locs (100 + 3 * n) (60000 + 619 * n) (lw_Z below #[Value.ref b] s) (F0 m 955 ls []) := by
  obtain ⟨ad, x, y, z, mm, w, e0, hC, hM, hR, hz⟩ := hJ
  subst e0
  have C := I.C; have hb := I.hL
  have hn2 : n + 1 ≤ 512 := by omega
  refine lv_aload_n C.hx C.hb dL_law_955 rfl (lv_at hl 1 rfl) ?_
  refine la_ld I hn hl hS (k := 1) (rest := [.ref (ad 0 0)]) dL_law_956 dL_law_957 dL_law_958 dL_law_959 dL_law_960 (by decide) rfl ?_
  refine kVR (As := [.int (xs (5 * n + 1))]) (rest := []) (v := _) C (cC_X7_hidden l G A ad x y z hR.ci hR.cl (xs (5 * n + 1))) lk_L_118 (g_recv C (hC.1 0 0 rfl).1 rfl) hC rfl rfl hl (Nat.le_of_ble_eq_true rfl) dL_law_961 ⟨⟨by decide, by decide⟩, by show 100 + 3 * n + 0 ≤ 600000; omega, by show 60000 + 619 * n + 0 ≤ 7302250; omega⟩ ?_
  refine lv_aload_n C.hx C.hb dL_law_964 rfl (lv_at hl 2 rfl) ?_
  refine la_ld I hn hl hS (k := 1) dL_law_965 dL_law_966 dL_law_967 dL_law_968 dL_law_969 (by decide) rfl ?_
  refine kVR (As := [.int (xs (5 * n + 1))]) (rest := [.int _]) (v := _) C (cM_hidden l G m0 mm w hR.mi (xs (5 * n + 1))) lk_L_121 (g_recv C hM.1 rfl) hM rfl rfl hl (Nat.le_of_ble_eq_true rfl) dL_law_970 ⟨⟨by decide, by decide⟩, by show 100 + 3 * n + 0 ≤ 600000; omega, by show 60000 + 619 * n + 0 ≤ 7302250; omega⟩ ?_
  have eq := e_hidden hR (xs (5 * n + 1))
  refine lv_icmp_eq (tgt := 1014) C.hx C.hb dL_law_973 (by decide) (fun _ => ?_) (fun c1 => absurd eq c1)
  refine W.widen (k := 100 + 3 * (n + 1)) (n := 60000 + 619 * (n + 1)) (by omega) (by omega) ?_
  exact K H locs ⟨ad, _, _, _, _, _, rfl, hC, hM, hR.up (Nat.le_succ n) hn2, hz⟩ hS
set_option maxRecDepth 100000 in
theorem la_count (I : LC G p s m meth c b L xs A m0) (hn : 5 * n + 5 ≤ L) (hJ : IV G A a0 m0 n H) (hS : va_S (NA s) s.heap H locs) (hl : lv_has ls 4 (lls b a0 m0 n)) (K : ∀ (H1 : Heap) (locs1 : List Loc), IV G A a0 m0 (n + 1) H1 → va_S (NA s) s.heap H1 locs1 → W p l e room_1 s m #[Value.ref b] below meth c H1 locs1 (100 + 3 * (n + 1)) (60000 + 619 * (n + 1)) (lw_Z below #[Value.ref b] s) (F0 m 1014 ls [])) : W p l e room_1 s m #[Value.ref b] below meth c H locs (100 + 3 * n) (60000 + 619 * n) (lw_Z below #[Value.ref b] s) (F0 m 978 ls []) := by
  obtain ⟨ad, x, y, z, mm, w, e0, hC, hM, hR, hz⟩ := hJ
  subst e0
  have C := I.C; have hb := I.hL
  have hn2 : n + 1 ≤ 512 := by omega
  refine lv_aload_n C.hx C.hb dL_law_978 rfl (lv_at hl 1 rfl) ?_
  refine la_ld I hn hl hS (k := 1) (rest := [.ref (ad 0 0)]) dL_law_979 dL_law_980 dL_law_981 dL_law_982 dL_law_983 (by decide) rfl ?_
  refine kVR (As := [.int (xs (5 * n + 1))]) (rest := []) (v := _) C (cC_X7_count l G A ad x y z hR.ci (xs (5 * n + 1))) lk_L_122 (g_recv C (hC.1 0 0 rfl).1 rfl) hC rfl rfl hl (Nat.le_of_ble_eq_true rfl) dL_law_984 ⟨⟨by decide, by decide⟩, by show 100 + 3 * n + 0 ≤ 600000; omega, by show 60000 + 619 * n + 0 ≤ 7302250; omega⟩ ?_
  refine lv_aload_n C.hx C.hb dL_law_987 rfl (lv_at hl 2 rfl) ?_
  refine la_ld I hn hl hS (k := 1) dL_law_988 dL_law_989 dL_law_990 dL_law_991 dL_law_992 (by decide) rfl ?_
  refine kVR (As := [.int (xs (5 * n + 1))]) (rest := [.int _]) (v := _) C (cM_count l G m0 mm w hR.mi (xs (5 * n + 1))) lk_L_125 (g_recv C hM.1 rfl) hM rfl rfl hl (Nat.le_of_ble_eq_true rfl) dL_law_993 ⟨⟨by decide, by decide⟩, by show 100 + 3 * n + 0 ≤ 600000; omega, by show 60000 + 619 * n + 0 ≤ 7302250; omega⟩ ?_
  have eq := e_count hR (xs (5 * n + 1))
  refine lv_icmp_eq (tgt := 1014) C.hx C.hb dL_law_996 (by decide) (fun _ => ?_) (fun c1 => absurd eq c1)
  refine W.widen (k := 100 + 3 * (n + 1)) (n := 60000 + 619 * (n + 1)) (by omega) (by omega) ?_
  exact K H locs ⟨ad, _, _, _, _, _, rfl, hC, hM, hR.up (Nat.le_succ n) hn2, hz⟩ hS
set_option maxRecDepth 100000 in
theorem la_check (I : LC G p s m meth c b L xs A m0) (hn : 5 * n + 5 ≤ L) (hJ : IV G A a0 m0 n H) (hS : va_S (NA s) s.heap H locs) (hl : lv_has ls 4 (lls b a0 m0 n)) (K : ∀ (H1 : Heap) (locs1 : List Loc), IV G A a0 m0 (n + 1) H1 → va_S (NA s) s.heap H1 locs1 → W p l e room_1 s m #[Value.ref b] below meth c H1 locs1 (100 + 3 * (n + 1)) (60000 + 619 * (n + 1)) (lw_Z below #[Value.ref b] s) (F0 m 1014 ls [])) : W p l e room_1 s m #[Value.ref b] below meth c H locs (100 + 3 * n) (60000 + 619 * n) (lw_Z below #[Value.ref b] s) (F0 m 1001 ls []) := by
  obtain ⟨ad, x, y, z, mm, w, e0, hC, hM, hR, hz⟩ := hJ
  subst e0
  have C := I.C; have hb := I.hL
  have hn2 : n + 1 ≤ 512 := by omega
  refine lv_aload_n C.hx C.hb dL_law_1001 rfl (lv_at hl 1 rfl) ?_
  refine kVR (As := []) (rest := []) (v := _) C (cC_X7_check l G A ad x y z hR.ci) lk_L_126 (g_recv C (hC.1 0 0 rfl).1 rfl) hC rfl rfl hl (Nat.le_of_ble_eq_true rfl) dL_law_1002 ⟨⟨by decide, by decide⟩, by show 100 + 3 * n + 0 ≤ 600000; omega, by show 60000 + 619 * n + 0 ≤ 7302250; omega⟩ ?_
  refine lv_aload_n C.hx C.hb dL_law_1005 rfl (lv_at hl 2 rfl) ?_
  refine kVR (As := []) (rest := [.int _]) (v := _) C (cM_check l G m0 mm w hR.mi) lk_L_129 (g_recv C hM.1 rfl) hM rfl rfl hl (Nat.le_of_ble_eq_true rfl) dL_law_1006 ⟨⟨by decide, by decide⟩, by show 100 + 3 * n + 0 ≤ 600000; omega, by show 60000 + 619 * n + 0 ≤ 7302250; omega⟩ ?_
  have eq := e_check hR
  refine lv_icmp_eq (tgt := 1014) C.hx C.hb dL_law_1009 (by decide) (fun _ => ?_) (fun c1 => absurd eq c1)
  refine W.widen (k := 100 + 3 * (n + 1)) (n := 60000 + 619 * (n + 1)) (by omega) (by omega) ?_
  exact K H locs ⟨ad, _, _, _, _, _, rfl, hC, hM, hR.up (Nat.le_succ n) hn2, hz⟩ hS
end LW
