/-! The law's cases: by program (wip/whole/mk_law3.py). -/
section LAW4
variable {p : Program} {l : Launch} {e : Env} {s : State} {m : MethodId} {below : List Frame} {meth : Method} {c : Code} {H : Heap} {locs : List Loc} {Q : State → Prop} {b L : Nat} {xs : Nat → Int32}
variable {ls : Array Slot} {D : va_G} {cyC cyM adC adM : Nat → Nat} {h g : Hp} {i : Nat} {z : St}
theorem law_write (F : LW p s m c D cyC cyM b L xs) (hi : i + 4 ≤ L) (hl : lv_has ls 4 [(3, iv (i : Int)), (2, .ref (adM 0)), (1, .ref (adC 0)), (0, .ref b)]) (hC : CInv h z) (hM : MInv g z) (J : JJ D cyC cyM adC adM s h g H locs) (next : ∀ (h g : Hp) (z : St) (H : Heap) (locs : List Loc), CInv h z → MInv g z → JJ D cyC cyM adC adM s h g H locs → W p l e room_1 s m #[Value.ref b] below meth c H locs 200 40000 Q (F0 m 719 ls [])) : W p l e room_1 s m #[Value.ref b] below meth c H locs 200 40000 Q (F0 m 140 ls []) := by
  have hx := F.1
  have hb := F.2.1
  refine lv_aload_n hx hb dL_law_140 rfl (lv_at hl 2 rfl) ?_
  refine Warg (j := 1) F J hl (by omega) rfl dL_law_141 dL_law_142 dL_law_143 dL_law_144 dL_law_145 ?_
  refine callC (as := [iv (xs (i + 1)).toInt]) (a := (aWrite z (xs (i + 1)).toInt)) (rest := []) F hl.1 cw_L_13 rfl (Nat.le_of_ble_eq_true rfl) (Nat.le_of_ble_eq_true rfl) (Nat.le_of_ble_eq_true rfl) rfl J dL_law_146 (p_write hC xI32) (fun h H locs hC J => ?_)
  refine lv_aload_n hx hb dL_law_149 rfl (lv_at hl 1 rfl) ?_
  refine Warg (j := 1) F J hl (by omega) rfl dL_law_150 dL_law_151 dL_law_152 dL_law_153 dL_law_154 ?_
  refine callMo (as := [iv (xs (i + 1)).toInt]) (a := (aWrite z (xs (i + 1)).toInt)) (rest := [iv (aWrite z (xs (i + 1)).toInt).1]) F hl.1 cw_L_17 rfl (Nat.le_of_ble_eq_true rfl) (Nat.le_of_ble_eq_true rfl) (Nat.le_of_ble_eq_true rfl) rfl J dL_law_155 (m_write hM xI32) (fun g H locs hM J => ?_)
  exact lv_icmp_eq (tgt := 719) hx hb dL_law_158 (by decide) (fun _ => next _ _ _ _ _ hC hM J) (fun q => absurd rfl q)
theorem law_wipe (F : LW p s m c D cyC cyM b L xs) (hi : i + 4 ≤ L) (hl : lv_has ls 4 [(3, iv (i : Int)), (2, .ref (adM 0)), (1, .ref (adC 0)), (0, .ref b)]) (hC : CInv h z) (hM : MInv g z) (J : JJ D cyC cyM adC adM s h g H locs) (next : ∀ (h g : Hp) (z : St) (H : Heap) (locs : List Loc), CInv h z → MInv g z → JJ D cyC cyM adC adM s h g H locs → W p l e room_1 s m #[Value.ref b] below meth c H locs 200 40000 Q (F0 m 719 ls [])) : W p l e room_1 s m #[Value.ref b] below meth c H locs 200 40000 Q (F0 m 163 ls []) := by
  have hx := F.1
  have hb := F.2.1
  refine lv_aload_n hx hb dL_law_163 rfl (lv_at hl 2 rfl) ?_
  refine callC (as := []) (a := (aWipe z)) (rest := []) F hl.1 cw_L_18 rfl (Nat.le_of_ble_eq_true rfl) (Nat.le_of_ble_eq_true rfl) (Nat.le_of_ble_eq_true rfl) rfl J dL_law_164 (p_wipe hC) (fun h H locs hC J => ?_)
  refine lv_aload_n hx hb dL_law_167 rfl (lv_at hl 1 rfl) ?_
  refine callMo (as := []) (a := (aWipe z)) (rest := [iv (aWipe z).1]) F hl.1 cw_L_22 rfl (Nat.le_of_ble_eq_true rfl) (Nat.le_of_ble_eq_true rfl) (Nat.le_of_ble_eq_true rfl) rfl J dL_law_168 (m_wipe hM) (fun g H locs hM J => ?_)
  exact lv_icmp_eq (tgt := 719) hx hb dL_law_171 (by decide) (fun _ => next _ _ _ _ _ hC hM J) (fun q => absurd rfl q)
theorem law_fault (F : LW p s m c D cyC cyM b L xs) (hi : i + 4 ≤ L) (hl : lv_has ls 4 [(3, iv (i : Int)), (2, .ref (adM 0)), (1, .ref (adC 0)), (0, .ref b)]) (hC : CInv h z) (hM : MInv g z) (J : JJ D cyC cyM adC adM s h g H locs) (next : ∀ (h g : Hp) (z : St) (H : Heap) (locs : List Loc), CInv h z → MInv g z → JJ D cyC cyM adC adM s h g H locs → W p l e room_1 s m #[Value.ref b] below meth c H locs 200 40000 Q (F0 m 719 ls [])) : W p l e room_1 s m #[Value.ref b] below meth c H locs 200 40000 Q (F0 m 176 ls []) := by
  have hx := F.1
  have hb := F.2.1
  refine lv_aload_n hx hb dL_law_176 rfl (lv_at hl 2 rfl) ?_
  refine callC (as := []) (a := (aFault z)) (rest := []) F hl.1 cw_L_23 rfl (Nat.le_of_ble_eq_true rfl) (Nat.le_of_ble_eq_true rfl) (Nat.le_of_ble_eq_true rfl) rfl J dL_law_177 (p_fault hC) (fun h H locs hC J => ?_)
  refine lv_aload_n hx hb dL_law_180 rfl (lv_at hl 1 rfl) ?_
  refine callMo (as := []) (a := (aFault z)) (rest := [iv (aFault z).1]) F hl.1 cw_L_26 rfl (Nat.le_of_ble_eq_true rfl) (Nat.le_of_ble_eq_true rfl) (Nat.le_of_ble_eq_true rfl) rfl J dL_law_181 (m_fault hM) (fun g H locs hM J => ?_)
  exact lv_icmp_eq (tgt := 719) hx hb dL_law_184 (by decide) (fun _ => next _ _ _ _ _ hC hM J) (fun q => absurd rfl q)
theorem law_lay (F : LW p s m c D cyC cyM b L xs) (hi : i + 4 ≤ L) (hl : lv_has ls 4 [(3, iv (i : Int)), (2, .ref (adM 0)), (1, .ref (adC 0)), (0, .ref b)]) (hC : CInv h z) (hM : MInv g z) (J : JJ D cyC cyM adC adM s h g H locs) (next : ∀ (h g : Hp) (z : St) (H : Heap) (locs : List Loc), CInv h z → MInv g z → JJ D cyC cyM adC adM s h g H locs → W p l e room_1 s m #[Value.ref b] below meth c H locs 200 40000 Q (F0 m 719 ls [])) : W p l e room_1 s m #[Value.ref b] below meth c H locs 200 40000 Q (F0 m 189 ls []) := by
  have hx := F.1
  have hb := F.2.1
  refine lv_aload_n hx hb dL_law_189 rfl (lv_at hl 2 rfl) ?_
  refine callC (as := []) (a := (aLay z)) (rest := []) F hl.1 cw_L_27 rfl (Nat.le_of_ble_eq_true rfl) (Nat.le_of_ble_eq_true rfl) (Nat.le_of_ble_eq_true rfl) rfl J dL_law_190 (p_lay hC) (fun h H locs hC J => ?_)
  refine lv_aload_n hx hb dL_law_193 rfl (lv_at hl 1 rfl) ?_
  refine callMo (as := []) (a := (aLay z)) (rest := [iv (aLay z).1]) F hl.1 cw_L_30 rfl (Nat.le_of_ble_eq_true rfl) (Nat.le_of_ble_eq_true rfl) (Nat.le_of_ble_eq_true rfl) rfl J dL_law_194 (m_lay hM) (fun g H locs hM J => ?_)
  exact lv_icmp_eq (tgt := 719) hx hb dL_law_197 (by decide) (fun _ => next _ _ _ _ _ hC hM J) (fun q => absurd rfl q)
theorem law_density (F : LW p s m c D cyC cyM b L xs) (hi : i + 4 ≤ L) (hl : lv_has ls 4 [(3, iv (i : Int)), (2, .ref (adM 0)), (1, .ref (adC 0)), (0, .ref b)]) (hC : CInv h z) (hM : MInv g z) (J : JJ D cyC cyM adC adM s h g H locs) (next : ∀ (h g : Hp) (z : St) (H : Heap) (locs : List Loc), CInv h z → MInv g z → JJ D cyC cyM adC adM s h g H locs → W p l e room_1 s m #[Value.ref b] below meth c H locs 200 40000 Q (F0 m 719 ls [])) : W p l e room_1 s m #[Value.ref b] below meth c H locs 200 40000 Q (F0 m 202 ls []) := by
  have hx := F.1
  have hb := F.2.1
  refine lv_aload_n hx hb dL_law_202 rfl (lv_at hl 2 rfl) ?_
  refine Warg (j := 1) F J hl (by omega) rfl dL_law_203 dL_law_204 dL_law_205 dL_law_206 dL_law_207 ?_
  refine Warg (j := 2) F J hl (by omega) rfl dL_law_208 dL_law_209 dL_law_210 dL_law_211 dL_law_212 ?_
  refine callC (as := [iv (xs (i + 1)).toInt, iv (xs (i + 2)).toInt]) (a := (aDens z (xs (i + 1)).toInt (xs (i + 2)).toInt)) (rest := []) F hl.1 cw_L_31 rfl (Nat.le_of_ble_eq_true rfl) (Nat.le_of_ble_eq_true rfl) (Nat.le_of_ble_eq_true rfl) rfl J dL_law_213 (p_density hC xI32 xI32) (fun h H locs hC J => ?_)
  refine lv_aload_n hx hb dL_law_216 rfl (lv_at hl 1 rfl) ?_
  refine Warg (j := 1) F J hl (by omega) rfl dL_law_217 dL_law_218 dL_law_219 dL_law_220 dL_law_221 ?_
  refine Warg (j := 2) F J hl (by omega) rfl dL_law_222 dL_law_223 dL_law_224 dL_law_225 dL_law_226 ?_
  refine callMo (as := [iv (xs (i + 1)).toInt, iv (xs (i + 2)).toInt]) (a := (aDens z (xs (i + 1)).toInt (xs (i + 2)).toInt)) (rest := [iv (aDens z (xs (i + 1)).toInt (xs (i + 2)).toInt).1]) F hl.1 cw_L_35 rfl (Nat.le_of_ble_eq_true rfl) (Nat.le_of_ble_eq_true rfl) (Nat.le_of_ble_eq_true rfl) rfl J dL_law_227 (m_density hM xI32 xI32) (fun g H locs hM J => ?_)
  exact lv_icmp_eq (tgt := 719) hx hb dL_law_230 (by decide) (fun _ => next _ _ _ _ _ hC hM J) (fun q => absurd rfl q)
theorem law_want (F : LW p s m c D cyC cyM b L xs) (hi : i + 4 ≤ L) (hl : lv_has ls 4 [(3, iv (i : Int)), (2, .ref (adM 0)), (1, .ref (adC 0)), (0, .ref b)]) (hC : CInv h z) (hM : MInv g z) (J : JJ D cyC cyM adC adM s h g H locs) (next : ∀ (h g : Hp) (z : St) (H : Heap) (locs : List Loc), CInv h z → MInv g z → JJ D cyC cyM adC adM s h g H locs → W p l e room_1 s m #[Value.ref b] below meth c H locs 200 40000 Q (F0 m 719 ls [])) : W p l e room_1 s m #[Value.ref b] below meth c H locs 200 40000 Q (F0 m 235 ls []) := by
  have hx := F.1
  have hb := F.2.1
  refine lv_aload_n hx hb dL_law_235 rfl (lv_at hl 2 rfl) ?_
  refine Warg (j := 1) F J hl (by omega) rfl dL_law_236 dL_law_237 dL_law_238 dL_law_239 dL_law_240 ?_
  refine Warg (j := 2) F J hl (by omega) rfl dL_law_241 dL_law_242 dL_law_243 dL_law_244 dL_law_245 ?_
  refine callC (as := [iv (xs (i + 1)).toInt, iv (xs (i + 2)).toInt]) (a := (aWant z (xs (i + 1)).toInt (xs (i + 2)).toInt)) (rest := []) F hl.1 cw_L_36 rfl (Nat.le_of_ble_eq_true rfl) (Nat.le_of_ble_eq_true rfl) (Nat.le_of_ble_eq_true rfl) rfl J dL_law_246 (p_want hC xI32 xI32) (fun h H locs hC J => ?_)
  refine lv_aload_n hx hb dL_law_249 rfl (lv_at hl 1 rfl) ?_
  refine Warg (j := 1) F J hl (by omega) rfl dL_law_250 dL_law_251 dL_law_252 dL_law_253 dL_law_254 ?_
  refine Warg (j := 2) F J hl (by omega) rfl dL_law_255 dL_law_256 dL_law_257 dL_law_258 dL_law_259 ?_
  refine callMo (as := [iv (xs (i + 1)).toInt, iv (xs (i + 2)).toInt]) (a := (aWant z (xs (i + 1)).toInt (xs (i + 2)).toInt)) (rest := [iv (aWant z (xs (i + 1)).toInt (xs (i + 2)).toInt).1]) F hl.1 cw_L_39 rfl (Nat.le_of_ble_eq_true rfl) (Nat.le_of_ble_eq_true rfl) (Nat.le_of_ble_eq_true rfl) rfl J dL_law_260 (m_want hM xI32 xI32) (fun g H locs hM J => ?_)
  exact lv_icmp_eq (tgt := 719) hx hb dL_law_263 (by decide) (fun _ => next _ _ _ _ _ hC hM J) (fun q => absurd rfl q)
theorem law_load (F : LW p s m c D cyC cyM b L xs) (hi : i + 4 ≤ L) (hl : lv_has ls 4 [(3, iv (i : Int)), (2, .ref (adM 0)), (1, .ref (adC 0)), (0, .ref b)]) (hC : CInv h z) (hM : MInv g z) (J : JJ D cyC cyM adC adM s h g H locs) (next : ∀ (h g : Hp) (z : St) (H : Heap) (locs : List Loc), CInv h z → MInv g z → JJ D cyC cyM adC adM s h g H locs → W p l e room_1 s m #[Value.ref b] below meth c H locs 200 40000 Q (F0 m 719 ls [])) : W p l e room_1 s m #[Value.ref b] below meth c H locs 200 40000 Q (F0 m 268 ls []) := by
  have hx := F.1
  have hb := F.2.1
  refine lv_aload_n hx hb dL_law_268 rfl (lv_at hl 2 rfl) ?_
  refine Warg (j := 1) F J hl (by omega) rfl dL_law_269 dL_law_270 dL_law_271 dL_law_272 dL_law_273 ?_
  refine Warg (j := 2) F J hl (by omega) rfl dL_law_274 dL_law_275 dL_law_276 dL_law_277 dL_law_278 ?_
  refine callC (as := [iv (xs (i + 1)).toInt, iv (xs (i + 2)).toInt]) (a := (aLoad z (xs (i + 1)).toInt (xs (i + 2)).toInt)) (rest := []) F hl.1 cw_L_40 rfl (Nat.le_of_ble_eq_true rfl) (Nat.le_of_ble_eq_true rfl) (Nat.le_of_ble_eq_true rfl) rfl J dL_law_279 (p_load hC xI32 xI32) (fun h H locs hC J => ?_)
  refine lv_aload_n hx hb dL_law_282 rfl (lv_at hl 1 rfl) ?_
  refine Warg (j := 1) F J hl (by omega) rfl dL_law_283 dL_law_284 dL_law_285 dL_law_286 dL_law_287 ?_
  refine Warg (j := 2) F J hl (by omega) rfl dL_law_288 dL_law_289 dL_law_290 dL_law_291 dL_law_292 ?_
  refine callMo (as := [iv (xs (i + 1)).toInt, iv (xs (i + 2)).toInt]) (a := (aLoad z (xs (i + 1)).toInt (xs (i + 2)).toInt)) (rest := [iv (aLoad z (xs (i + 1)).toInt (xs (i + 2)).toInt).1]) F hl.1 cw_L_43 rfl (Nat.le_of_ble_eq_true rfl) (Nat.le_of_ble_eq_true rfl) (Nat.le_of_ble_eq_true rfl) rfl J dL_law_293 (m_load hM xI32 xI32) (fun g H locs hM J => ?_)
  exact lv_icmp_eq (tgt := 719) hx hb dL_law_296 (by decide) (fun _ => next _ _ _ _ _ hC hM J) (fun q => absurd rfl q)
theorem law_move (F : LW p s m c D cyC cyM b L xs) (hi : i + 4 ≤ L) (hl : lv_has ls 4 [(3, iv (i : Int)), (2, .ref (adM 0)), (1, .ref (adC 0)), (0, .ref b)]) (hC : CInv h z) (hM : MInv g z) (J : JJ D cyC cyM adC adM s h g H locs) (next : ∀ (h g : Hp) (z : St) (H : Heap) (locs : List Loc), CInv h z → MInv g z → JJ D cyC cyM adC adM s h g H locs → W p l e room_1 s m #[Value.ref b] below meth c H locs 200 40000 Q (F0 m 719 ls [])) : W p l e room_1 s m #[Value.ref b] below meth c H locs 200 40000 Q (F0 m 301 ls []) := by
  have hx := F.1
  have hb := F.2.1
  refine lv_aload_n hx hb dL_law_301 rfl (lv_at hl 2 rfl) ?_
  refine Warg (j := 1) F J hl (by omega) rfl dL_law_302 dL_law_303 dL_law_304 dL_law_305 dL_law_306 ?_
  refine Warg (j := 2) F J hl (by omega) rfl dL_law_307 dL_law_308 dL_law_309 dL_law_310 dL_law_311 ?_
  refine Warg (j := 3) F J hl (by omega) rfl dL_law_312 dL_law_313 dL_law_314 dL_law_315 dL_law_316 ?_
  refine callC (as := [iv (xs (i + 1)).toInt, iv (xs (i + 2)).toInt, iv (xs (i + 3)).toInt]) (a := (aMove z (xs (i + 1)).toInt (xs (i + 2)).toInt (xs (i + 3)).toInt)) (rest := []) F hl.1 cw_L_44 rfl (Nat.le_of_ble_eq_true rfl) (Nat.le_of_ble_eq_true rfl) (Nat.le_of_ble_eq_true rfl) rfl J dL_law_317 (p_move hC xI32 xI32 xI32) (fun h H locs hC J => ?_)
  refine lv_aload_n hx hb dL_law_320 rfl (lv_at hl 1 rfl) ?_
  refine Warg (j := 1) F J hl (by omega) rfl dL_law_321 dL_law_322 dL_law_323 dL_law_324 dL_law_325 ?_
  refine Warg (j := 2) F J hl (by omega) rfl dL_law_326 dL_law_327 dL_law_328 dL_law_329 dL_law_330 ?_
  refine Warg (j := 3) F J hl (by omega) rfl dL_law_331 dL_law_332 dL_law_333 dL_law_334 dL_law_335 ?_
  refine callMo (as := [iv (xs (i + 1)).toInt, iv (xs (i + 2)).toInt, iv (xs (i + 3)).toInt]) (a := (aMove z (xs (i + 1)).toInt (xs (i + 2)).toInt (xs (i + 3)).toInt)) (rest := [iv (aMove z (xs (i + 1)).toInt (xs (i + 2)).toInt (xs (i + 3)).toInt).1]) F hl.1 cw_L_48 rfl (Nat.le_of_ble_eq_true rfl) (Nat.le_of_ble_eq_true rfl) (Nat.le_of_ble_eq_true rfl) rfl J dL_law_336 (m_move hM xI32 xI32 xI32) (fun g H locs hM J => ?_)
  exact lv_icmp_eq (tgt := 719) hx hb dL_law_339 (by decide) (fun _ => next _ _ _ _ _ hC hM J) (fun q => absurd rfl q)
theorem law_down (F : LW p s m c D cyC cyM b L xs) (hi : i + 4 ≤ L) (hl : lv_has ls 4 [(3, iv (i : Int)), (2, .ref (adM 0)), (1, .ref (adC 0)), (0, .ref b)]) (hC : CInv h z) (hM : MInv g z) (J : JJ D cyC cyM adC adM s h g H locs) (next : ∀ (h g : Hp) (z : St) (H : Heap) (locs : List Loc), CInv h z → MInv g z → JJ D cyC cyM adC adM s h g H locs → W p l e room_1 s m #[Value.ref b] below meth c H locs 200 40000 Q (F0 m 719 ls [])) : W p l e room_1 s m #[Value.ref b] below meth c H locs 200 40000 Q (F0 m 344 ls []) := by
  have hx := F.1
  have hb := F.2.1
  refine lv_aload_n hx hb dL_law_344 rfl (lv_at hl 2 rfl) ?_
  refine Warg (j := 1) F J hl (by omega) rfl dL_law_345 dL_law_346 dL_law_347 dL_law_348 dL_law_349 ?_
  refine Warg (j := 2) F J hl (by omega) rfl dL_law_350 dL_law_351 dL_law_352 dL_law_353 dL_law_354 ?_
  refine callC (as := [iv (xs (i + 1)).toInt, iv (xs (i + 2)).toInt]) (a := (aDown z (xs (i + 1)).toInt (xs (i + 2)).toInt)) (rest := []) F hl.1 cw_L_49 rfl (Nat.le_of_ble_eq_true rfl) (Nat.le_of_ble_eq_true rfl) (Nat.le_of_ble_eq_true rfl) rfl J dL_law_355 (p_down hC xI32 xI32) (fun h H locs hC J => ?_)
  refine lv_aload_n hx hb dL_law_358 rfl (lv_at hl 1 rfl) ?_
  refine Warg (j := 1) F J hl (by omega) rfl dL_law_359 dL_law_360 dL_law_361 dL_law_362 dL_law_363 ?_
  refine Warg (j := 2) F J hl (by omega) rfl dL_law_364 dL_law_365 dL_law_366 dL_law_367 dL_law_368 ?_
  refine callMo (as := [iv (xs (i + 1)).toInt, iv (xs (i + 2)).toInt]) (a := (aDown z (xs (i + 1)).toInt (xs (i + 2)).toInt)) (rest := [iv (aDown z (xs (i + 1)).toInt (xs (i + 2)).toInt).1]) F hl.1 cw_L_52 rfl (Nat.le_of_ble_eq_true rfl) (Nat.le_of_ble_eq_true rfl) (Nat.le_of_ble_eq_true rfl) rfl J dL_law_369 (m_downP hM xI32 xI32) (fun g H locs hM J => ?_)
  exact lv_icmp_eq (tgt := 719) hx hb dL_law_372 (by decide) (fun _ => next _ _ _ _ _ hC hM J) (fun q => absurd rfl q)
theorem law_round (F : LW p s m c D cyC cyM b L xs) (hi : i + 4 ≤ L) (hl : lv_has ls 4 [(3, iv (i : Int)), (2, .ref (adM 0)), (1, .ref (adC 0)), (0, .ref b)]) (hC : CInv h z) (hM : MInv g z) (J : JJ D cyC cyM adC adM s h g H locs) (next : ∀ (h g : Hp) (z : St) (H : Heap) (locs : List Loc), CInv h z → MInv g z → JJ D cyC cyM adC adM s h g H locs → W p l e room_1 s m #[Value.ref b] below meth c H locs 200 40000 Q (F0 m 719 ls [])) : W p l e room_1 s m #[Value.ref b] below meth c H locs 200 40000 Q (F0 m 377 ls []) := by
  have hx := F.1
  have hb := F.2.1
  refine lv_aload_n hx hb dL_law_377 rfl (lv_at hl 2 rfl) ?_
  refine Warg (j := 1) F J hl (by omega) rfl dL_law_378 dL_law_379 dL_law_380 dL_law_381 dL_law_382 ?_
  refine callC (as := [iv (xs (i + 1)).toInt]) (a := (aRound z (xs (i + 1)).toInt)) (rest := []) F hl.1 cw_L_53 rfl (Nat.le_of_ble_eq_true rfl) (Nat.le_of_ble_eq_true rfl) (Nat.le_of_ble_eq_true rfl) rfl J dL_law_383 (p_round hC xI32) (fun h H locs hC J => ?_)
  refine lv_aload_n hx hb dL_law_386 rfl (lv_at hl 1 rfl) ?_
  refine Warg (j := 1) F J hl (by omega) rfl dL_law_387 dL_law_388 dL_law_389 dL_law_390 dL_law_391 ?_
  refine callMo (as := [iv (xs (i + 1)).toInt]) (a := (aRound z (xs (i + 1)).toInt)) (rest := [iv (aRound z (xs (i + 1)).toInt).1]) F hl.1 cw_L_56 rfl (Nat.le_of_ble_eq_true rfl) (Nat.le_of_ble_eq_true rfl) (Nat.le_of_ble_eq_true rfl) rfl J dL_law_392 (m_round hM xI32) (fun g H locs hM J => ?_)
  exact lv_icmp_eq (tgt := 719) hx hb dL_law_395 (by decide) (fun _ => next _ _ _ _ _ hC hM J) (fun q => absurd rfl q)
theorem law_undo (F : LW p s m c D cyC cyM b L xs) (hi : i + 4 ≤ L) (hl : lv_has ls 4 [(3, iv (i : Int)), (2, .ref (adM 0)), (1, .ref (adC 0)), (0, .ref b)]) (hC : CInv h z) (hM : MInv g z) (J : JJ D cyC cyM adC adM s h g H locs) (next : ∀ (h g : Hp) (z : St) (H : Heap) (locs : List Loc), CInv h z → MInv g z → JJ D cyC cyM adC adM s h g H locs → W p l e room_1 s m #[Value.ref b] below meth c H locs 200 40000 Q (F0 m 719 ls [])) : W p l e room_1 s m #[Value.ref b] below meth c H locs 200 40000 Q (F0 m 400 ls []) := by
  have hx := F.1
  have hb := F.2.1
  refine lv_aload_n hx hb dL_law_400 rfl (lv_at hl 2 rfl) ?_
  refine callC (as := []) (a := (aUndo z)) (rest := []) F hl.1 cw_L_57 rfl (Nat.le_of_ble_eq_true rfl) (Nat.le_of_ble_eq_true rfl) (Nat.le_of_ble_eq_true rfl) rfl J dL_law_401 (p_undo hC) (fun h H locs hC J => ?_)
  refine lv_aload_n hx hb dL_law_404 rfl (lv_at hl 1 rfl) ?_
  refine callMo (as := []) (a := (aUndo z)) (rest := [iv (aUndo z).1]) F hl.1 cw_L_60 rfl (Nat.le_of_ble_eq_true rfl) (Nat.le_of_ble_eq_true rfl) (Nat.le_of_ble_eq_true rfl) rfl J dL_law_405 (m_undo hM) (fun g H locs hM J => ?_)
  exact lv_icmp_eq (tgt := 719) hx hb dL_law_408 (by decide) (fun _ => next _ _ _ _ _ hC hM J) (fun q => absurd rfl q)
theorem law_joint (F : LW p s m c D cyC cyM b L xs) (hi : i + 4 ≤ L) (hl : lv_has ls 4 [(3, iv (i : Int)), (2, .ref (adM 0)), (1, .ref (adC 0)), (0, .ref b)]) (hC : CInv h z) (hM : MInv g z) (J : JJ D cyC cyM adC adM s h g H locs) (next : ∀ (h g : Hp) (z : St) (H : Heap) (locs : List Loc), CInv h z → MInv g z → JJ D cyC cyM adC adM s h g H locs → W p l e room_1 s m #[Value.ref b] below meth c H locs 200 40000 Q (F0 m 719 ls [])) : W p l e room_1 s m #[Value.ref b] below meth c H locs 200 40000 Q (F0 m 413 ls []) := by
  have hx := F.1
  have hb := F.2.1
  refine lv_aload_n hx hb dL_law_413 rfl (lv_at hl 2 rfl) ?_
  refine Warg (j := 1) F J hl (by omega) rfl dL_law_414 dL_law_415 dL_law_416 dL_law_417 dL_law_418 ?_
  refine Warg (j := 2) F J hl (by omega) rfl dL_law_419 dL_law_420 dL_law_421 dL_law_422 dL_law_423 ?_
  refine callC (as := [iv (xs (i + 1)).toInt, iv (xs (i + 2)).toInt]) (a := (aJoint z (xs (i + 1)).toInt (xs (i + 2)).toInt)) (rest := []) F hl.1 cw_L_61 rfl (Nat.le_of_ble_eq_true rfl) (Nat.le_of_ble_eq_true rfl) (Nat.le_of_ble_eq_true rfl) rfl J dL_law_424 (p_joint hC xI32 xI32) (fun h H locs hC J => ?_)
  refine lv_aload_n hx hb dL_law_427 rfl (lv_at hl 1 rfl) ?_
  refine Warg (j := 1) F J hl (by omega) rfl dL_law_428 dL_law_429 dL_law_430 dL_law_431 dL_law_432 ?_
  refine Warg (j := 2) F J hl (by omega) rfl dL_law_433 dL_law_434 dL_law_435 dL_law_436 dL_law_437 ?_
  refine callMo (as := [iv (xs (i + 1)).toInt, iv (xs (i + 2)).toInt]) (a := (aJoint z (xs (i + 1)).toInt (xs (i + 2)).toInt)) (rest := [iv (aJoint z (xs (i + 1)).toInt (xs (i + 2)).toInt).1]) F hl.1 cw_L_64 rfl (Nat.le_of_ble_eq_true rfl) (Nat.le_of_ble_eq_true rfl) (Nat.le_of_ble_eq_true rfl) rfl J dL_law_438 (m_joint hM xI32 xI32) (fun g H locs hM J => ?_)
  exact lv_icmp_eq (tgt := 719) hx hb dL_law_441 (by decide) (fun _ => next _ _ _ _ _ hC hM J) (fun q => absurd rfl q)
theorem law_exact (F : LW p s m c D cyC cyM b L xs) (hi : i + 4 ≤ L) (hl : lv_has ls 4 [(3, iv (i : Int)), (2, .ref (adM 0)), (1, .ref (adC 0)), (0, .ref b)]) (hC : CInv h z) (hM : MInv g z) (J : JJ D cyC cyM adC adM s h g H locs) (next : ∀ (h g : Hp) (z : St) (H : Heap) (locs : List Loc), CInv h z → MInv g z → JJ D cyC cyM adC adM s h g H locs → W p l e room_1 s m #[Value.ref b] below meth c H locs 200 40000 Q (F0 m 719 ls [])) : W p l e room_1 s m #[Value.ref b] below meth c H locs 200 40000 Q (F0 m 446 ls []) := by
  have hx := F.1
  have hb := F.2.1
  refine lv_aload_n hx hb dL_law_446 rfl (lv_at hl 2 rfl) ?_
  refine Warg (j := 1) F J hl (by omega) rfl dL_law_447 dL_law_448 dL_law_449 dL_law_450 dL_law_451 ?_
  refine Warg (j := 2) F J hl (by omega) rfl dL_law_452 dL_law_453 dL_law_454 dL_law_455 dL_law_456 ?_
  refine Warg (j := 3) F J hl (by omega) rfl dL_law_457 dL_law_458 dL_law_459 dL_law_460 dL_law_461 ?_
  refine callC (as := [iv (xs (i + 1)).toInt, iv (xs (i + 2)).toInt, iv (xs (i + 3)).toInt]) (a := (aExact z (xs (i + 1)).toInt (xs (i + 2)).toInt (xs (i + 3)).toInt)) (rest := []) F hl.1 cw_L_65 rfl (Nat.le_of_ble_eq_true rfl) (Nat.le_of_ble_eq_true rfl) (Nat.le_of_ble_eq_true rfl) rfl J dL_law_462 (p_exact hC xI32 xI32 xI32) (fun h H locs hC J => ?_)
  refine lv_aload_n hx hb dL_law_465 rfl (lv_at hl 1 rfl) ?_
  refine Warg (j := 1) F J hl (by omega) rfl dL_law_466 dL_law_467 dL_law_468 dL_law_469 dL_law_470 ?_
  refine Warg (j := 2) F J hl (by omega) rfl dL_law_471 dL_law_472 dL_law_473 dL_law_474 dL_law_475 ?_
  refine Warg (j := 3) F J hl (by omega) rfl dL_law_476 dL_law_477 dL_law_478 dL_law_479 dL_law_480 ?_
  refine callMo (as := [iv (xs (i + 1)).toInt, iv (xs (i + 2)).toInt, iv (xs (i + 3)).toInt]) (a := (aExact z (xs (i + 1)).toInt (xs (i + 2)).toInt (xs (i + 3)).toInt)) (rest := [iv (aExact z (xs (i + 1)).toInt (xs (i + 2)).toInt (xs (i + 3)).toInt).1]) F hl.1 cw_L_68 rfl (Nat.le_of_ble_eq_true rfl) (Nat.le_of_ble_eq_true rfl) (Nat.le_of_ble_eq_true rfl) rfl J dL_law_481 (m_exact hM xI32 xI32 xI32) (fun g H locs hM J => ?_)
  exact lv_icmp_eq (tgt := 719) hx hb dL_law_484 (by decide) (fun _ => next _ _ _ _ _ hC hM J) (fun q => absurd rfl q)
theorem law_bears (F : LW p s m c D cyC cyM b L xs) (hi : i + 4 ≤ L) (hl : lv_has ls 4 [(3, iv (i : Int)), (2, .ref (adM 0)), (1, .ref (adC 0)), (0, .ref b)]) (hC : CInv h z) (hM : MInv g z) (J : JJ D cyC cyM adC adM s h g H locs) (next : ∀ (h g : Hp) (z : St) (H : Heap) (locs : List Loc), CInv h z → MInv g z → JJ D cyC cyM adC adM s h g H locs → W p l e room_1 s m #[Value.ref b] below meth c H locs 200 40000 Q (F0 m 719 ls [])) : W p l e room_1 s m #[Value.ref b] below meth c H locs 200 40000 Q (F0 m 489 ls []) := by
  have hx := F.1
  have hb := F.2.1
  refine lv_aload_n hx hb dL_law_489 rfl (lv_at hl 2 rfl) ?_
  refine Warg (j := 1) F J hl (by omega) rfl dL_law_490 dL_law_491 dL_law_492 dL_law_493 dL_law_494 ?_
  refine Warg (j := 2) F J hl (by omega) rfl dL_law_495 dL_law_496 dL_law_497 dL_law_498 dL_law_499 ?_
  refine callC (as := [iv (xs (i + 1)).toInt, iv (xs (i + 2)).toInt]) (a := (aBears z (xs (i + 1)).toInt (xs (i + 2)).toInt)) (rest := []) F hl.1 cw_L_69 rfl (Nat.le_of_ble_eq_true rfl) (Nat.le_of_ble_eq_true rfl) (Nat.le_of_ble_eq_true rfl) rfl J dL_law_500 (p_bears hC xI32 xI32) (fun h H locs hC J => ?_)
  refine lv_aload_n hx hb dL_law_503 rfl (lv_at hl 1 rfl) ?_
  refine Warg (j := 1) F J hl (by omega) rfl dL_law_504 dL_law_505 dL_law_506 dL_law_507 dL_law_508 ?_
  refine Warg (j := 2) F J hl (by omega) rfl dL_law_509 dL_law_510 dL_law_511 dL_law_512 dL_law_513 ?_
  refine callMo (as := [iv (xs (i + 1)).toInt, iv (xs (i + 2)).toInt]) (a := (aBears z (xs (i + 1)).toInt (xs (i + 2)).toInt)) (rest := [iv (aBears z (xs (i + 1)).toInt (xs (i + 2)).toInt).1]) F hl.1 cw_L_72 rfl (Nat.le_of_ble_eq_true rfl) (Nat.le_of_ble_eq_true rfl) (Nat.le_of_ble_eq_true rfl) rfl J dL_law_514 (m_bears hM xI32 xI32) (fun g H locs hM J => ?_)
  exact lv_icmp_eq (tgt := 719) hx hb dL_law_517 (by decide) (fun _ => next _ _ _ _ _ hC hM J) (fun q => absurd rfl q)
theorem law_strand (F : LW p s m c D cyC cyM b L xs) (hi : i + 4 ≤ L) (hl : lv_has ls 4 [(3, iv (i : Int)), (2, .ref (adM 0)), (1, .ref (adC 0)), (0, .ref b)]) (hC : CInv h z) (hM : MInv g z) (J : JJ D cyC cyM adC adM s h g H locs) (next : ∀ (h g : Hp) (z : St) (H : Heap) (locs : List Loc), CInv h z → MInv g z → JJ D cyC cyM adC adM s h g H locs → W p l e room_1 s m #[Value.ref b] below meth c H locs 200 40000 Q (F0 m 719 ls [])) : W p l e room_1 s m #[Value.ref b] below meth c H locs 200 40000 Q (F0 m 522 ls []) := by
  have hx := F.1
  have hb := F.2.1
  refine lv_aload_n hx hb dL_law_522 rfl (lv_at hl 2 rfl) ?_
  refine Warg (j := 1) F J hl (by omega) rfl dL_law_523 dL_law_524 dL_law_525 dL_law_526 dL_law_527 ?_
  refine Warg (j := 2) F J hl (by omega) rfl dL_law_528 dL_law_529 dL_law_530 dL_law_531 dL_law_532 ?_
  refine callC (as := [iv (xs (i + 1)).toInt, iv (xs (i + 2)).toInt]) (a := (aStrand z (xs (i + 1)).toInt (xs (i + 2)).toInt)) (rest := []) F hl.1 cw_L_73 rfl (Nat.le_of_ble_eq_true rfl) (Nat.le_of_ble_eq_true rfl) (Nat.le_of_ble_eq_true rfl) rfl J dL_law_533 (p_strand hC xI32 xI32) (fun h H locs hC J => ?_)
  refine lv_aload_n hx hb dL_law_536 rfl (lv_at hl 1 rfl) ?_
  refine Warg (j := 1) F J hl (by omega) rfl dL_law_537 dL_law_538 dL_law_539 dL_law_540 dL_law_541 ?_
  refine Warg (j := 2) F J hl (by omega) rfl dL_law_542 dL_law_543 dL_law_544 dL_law_545 dL_law_546 ?_
  refine callMo (as := [iv (xs (i + 1)).toInt, iv (xs (i + 2)).toInt]) (a := (aStrand z (xs (i + 1)).toInt (xs (i + 2)).toInt)) (rest := [iv (aStrand z (xs (i + 1)).toInt (xs (i + 2)).toInt).1]) F hl.1 cw_L_76 rfl (Nat.le_of_ble_eq_true rfl) (Nat.le_of_ble_eq_true rfl) (Nat.le_of_ble_eq_true rfl) rfl J dL_law_547 (m_strand hM xI32 xI32) (fun g H locs hM J => ?_)
  exact lv_icmp_eq (tgt := 719) hx hb dL_law_550 (by decide) (fun _ => next _ _ _ _ _ hC hM J) (fun q => absurd rfl q)
theorem law_slack (F : LW p s m c D cyC cyM b L xs) (hi : i + 4 ≤ L) (hl : lv_has ls 4 [(3, iv (i : Int)), (2, .ref (adM 0)), (1, .ref (adC 0)), (0, .ref b)]) (hC : CInv h z) (hM : MInv g z) (J : JJ D cyC cyM adC adM s h g H locs) (next : ∀ (h g : Hp) (z : St) (H : Heap) (locs : List Loc), CInv h z → MInv g z → JJ D cyC cyM adC adM s h g H locs → W p l e room_1 s m #[Value.ref b] below meth c H locs 200 40000 Q (F0 m 719 ls [])) : W p l e room_1 s m #[Value.ref b] below meth c H locs 200 40000 Q (F0 m 555 ls []) := by
  have hx := F.1
  have hb := F.2.1
  refine lv_aload_n hx hb dL_law_555 rfl (lv_at hl 2 rfl) ?_
  refine callC (as := []) (a := (aSlack z)) (rest := []) F hl.1 cw_L_77 rfl (Nat.le_of_ble_eq_true rfl) (Nat.le_of_ble_eq_true rfl) (Nat.le_of_ble_eq_true rfl) rfl J dL_law_556 (p_slack hC) (fun h H locs hC J => ?_)
  refine lv_aload_n hx hb dL_law_559 rfl (lv_at hl 1 rfl) ?_
  refine callMo (as := []) (a := (aSlack z)) (rest := [iv (aSlack z).1]) F hl.1 cw_L_80 rfl (Nat.le_of_ble_eq_true rfl) (Nat.le_of_ble_eq_true rfl) (Nat.le_of_ble_eq_true rfl) rfl J dL_law_560 (m_slack hM) (fun g H locs hM J => ?_)
  exact lv_icmp_eq (tgt := 719) hx hb dL_law_563 (by decide) (fun _ => next _ _ _ _ _ hC hM J) (fun q => absurd rfl q)
theorem law_miss (F : LW p s m c D cyC cyM b L xs) (hi : i + 4 ≤ L) (hl : lv_has ls 4 [(3, iv (i : Int)), (2, .ref (adM 0)), (1, .ref (adC 0)), (0, .ref b)]) (hC : CInv h z) (hM : MInv g z) (J : JJ D cyC cyM adC adM s h g H locs) (next : ∀ (h g : Hp) (z : St) (H : Heap) (locs : List Loc), CInv h z → MInv g z → JJ D cyC cyM adC adM s h g H locs → W p l e room_1 s m #[Value.ref b] below meth c H locs 200 40000 Q (F0 m 719 ls [])) : W p l e room_1 s m #[Value.ref b] below meth c H locs 200 40000 Q (F0 m 568 ls []) := by
  have hx := F.1
  have hb := F.2.1
  refine lv_aload_n hx hb dL_law_568 rfl (lv_at hl 2 rfl) ?_
  refine callC (as := []) (a := (aMiss z)) (rest := []) F hl.1 cw_L_81 rfl (Nat.le_of_ble_eq_true rfl) (Nat.le_of_ble_eq_true rfl) (Nat.le_of_ble_eq_true rfl) rfl J dL_law_569 (p_miss hC) (fun h H locs hC J => ?_)
  refine lv_aload_n hx hb dL_law_572 rfl (lv_at hl 1 rfl) ?_
  refine callMo (as := []) (a := (aMiss z)) (rest := [iv (aMiss z).1]) F hl.1 cw_L_84 rfl (Nat.le_of_ble_eq_true rfl) (Nat.le_of_ble_eq_true rfl) (Nat.le_of_ble_eq_true rfl) rfl J dL_law_573 (m_miss hM) (fun g H locs hM J => ?_)
  exact lv_icmp_eq (tgt := 719) hx hb dL_law_576 (by decide) (fun _ => next _ _ _ _ _ hC hM J) (fun q => absurd rfl q)
theorem law_settle (F : LW p s m c D cyC cyM b L xs) (hi : i + 4 ≤ L) (hl : lv_has ls 4 [(3, iv (i : Int)), (2, .ref (adM 0)), (1, .ref (adC 0)), (0, .ref b)]) (hC : CInv h z) (hM : MInv g z) (J : JJ D cyC cyM adC adM s h g H locs) (next : ∀ (h g : Hp) (z : St) (H : Heap) (locs : List Loc), CInv h z → MInv g z → JJ D cyC cyM adC adM s h g H locs → W p l e room_1 s m #[Value.ref b] below meth c H locs 200 40000 Q (F0 m 719 ls [])) : W p l e room_1 s m #[Value.ref b] below meth c H locs 200 40000 Q (F0 m 581 ls []) := by
  have hx := F.1
  have hb := F.2.1
  refine lv_aload_n hx hb dL_law_581 rfl (lv_at hl 2 rfl) ?_
  refine Warg (j := 1) F J hl (by omega) rfl dL_law_582 dL_law_583 dL_law_584 dL_law_585 dL_law_586 ?_
  refine callC (as := [iv (xs (i + 1)).toInt]) (a := (aSettle z (xs (i + 1)).toInt)) (rest := []) F hl.1 cw_L_85 rfl (Nat.le_of_ble_eq_true rfl) (Nat.le_of_ble_eq_true rfl) (Nat.le_of_ble_eq_true rfl) rfl J dL_law_587 (p_settle hC xI32) (fun h H locs hC J => ?_)
  refine lv_aload_n hx hb dL_law_590 rfl (lv_at hl 1 rfl) ?_
  refine Warg (j := 1) F J hl (by omega) rfl dL_law_591 dL_law_592 dL_law_593 dL_law_594 dL_law_595 ?_
  refine callMo (as := [iv (xs (i + 1)).toInt]) (a := (aSettle z (xs (i + 1)).toInt)) (rest := [iv (aSettle z (xs (i + 1)).toInt).1]) F hl.1 cw_L_88 rfl (Nat.le_of_ble_eq_true rfl) (Nat.le_of_ble_eq_true rfl) (Nat.le_of_ble_eq_true rfl) rfl J dL_law_596 (m_settle hM xI32) (fun g H locs hM J => ?_)
  exact lv_icmp_eq (tgt := 719) hx hb dL_law_599 (by decide) (fun _ => next _ _ _ _ _ hC hM J) (fun q => absurd rfl q)
theorem law_better (F : LW p s m c D cyC cyM b L xs) (hi : i + 4 ≤ L) (hl : lv_has ls 4 [(3, iv (i : Int)), (2, .ref (adM 0)), (1, .ref (adC 0)), (0, .ref b)]) (hC : CInv h z) (hM : MInv g z) (J : JJ D cyC cyM adC adM s h g H locs) (next : ∀ (h g : Hp) (z : St) (H : Heap) (locs : List Loc), CInv h z → MInv g z → JJ D cyC cyM adC adM s h g H locs → W p l e room_1 s m #[Value.ref b] below meth c H locs 200 40000 Q (F0 m 719 ls [])) : W p l e room_1 s m #[Value.ref b] below meth c H locs 200 40000 Q (F0 m 604 ls []) := by
  have hx := F.1
  have hb := F.2.1
  refine lv_aload_n hx hb dL_law_604 rfl (lv_at hl 2 rfl) ?_
  refine Warg (j := 1) F J hl (by omega) rfl dL_law_605 dL_law_606 dL_law_607 dL_law_608 dL_law_609 ?_
  refine callC (as := [iv (xs (i + 1)).toInt]) (a := (aBetter z (xs (i + 1)).toInt)) (rest := []) F hl.1 cw_L_89 rfl (Nat.le_of_ble_eq_true rfl) (Nat.le_of_ble_eq_true rfl) (Nat.le_of_ble_eq_true rfl) rfl J dL_law_610 (p_better hC xI32) (fun h H locs hC J => ?_)
  refine lv_aload_n hx hb dL_law_613 rfl (lv_at hl 1 rfl) ?_
  refine Warg (j := 1) F J hl (by omega) rfl dL_law_614 dL_law_615 dL_law_616 dL_law_617 dL_law_618 ?_
  refine callMo (as := [iv (xs (i + 1)).toInt]) (a := (aBetter z (xs (i + 1)).toInt)) (rest := [iv (aBetter z (xs (i + 1)).toInt).1]) F hl.1 cw_L_92 rfl (Nat.le_of_ble_eq_true rfl) (Nat.le_of_ble_eq_true rfl) (Nat.le_of_ble_eq_true rfl) rfl J dL_law_619 (m_better hM xI32) (fun g H locs hM J => ?_)
  exact lv_icmp_eq (tgt := 719) hx hb dL_law_622 (by decide) (fun _ => next _ _ _ _ _ hC hM J) (fun q => absurd rfl q)
theorem law_greatest (F : LW p s m c D cyC cyM b L xs) (hi : i + 4 ≤ L) (hl : lv_has ls 4 [(3, iv (i : Int)), (2, .ref (adM 0)), (1, .ref (adC 0)), (0, .ref b)]) (hC : CInv h z) (hM : MInv g z) (J : JJ D cyC cyM adC adM s h g H locs) (next : ∀ (h g : Hp) (z : St) (H : Heap) (locs : List Loc), CInv h z → MInv g z → JJ D cyC cyM adC adM s h g H locs → W p l e room_1 s m #[Value.ref b] below meth c H locs 200 40000 Q (F0 m 719 ls [])) : W p l e room_1 s m #[Value.ref b] below meth c H locs 200 40000 Q (F0 m 627 ls []) := by
  have hx := F.1
  have hb := F.2.1
  refine lv_aload_n hx hb dL_law_627 rfl (lv_at hl 2 rfl) ?_
  refine Warg (j := 1) F J hl (by omega) rfl dL_law_628 dL_law_629 dL_law_630 dL_law_631 dL_law_632 ?_
  refine callC (as := [iv (xs (i + 1)).toInt]) (a := (aGreatest z (xs (i + 1)).toInt)) (rest := []) F hl.1 cw_L_93 rfl (Nat.le_of_ble_eq_true rfl) (Nat.le_of_ble_eq_true rfl) (Nat.le_of_ble_eq_true rfl) rfl J dL_law_633 (p_greatest hC xI32) (fun h H locs hC J => ?_)
  refine lv_aload_n hx hb dL_law_636 rfl (lv_at hl 1 rfl) ?_
  refine Warg (j := 1) F J hl (by omega) rfl dL_law_637 dL_law_638 dL_law_639 dL_law_640 dL_law_641 ?_
  refine callMo (as := [iv (xs (i + 1)).toInt]) (a := (aGreatest z (xs (i + 1)).toInt)) (rest := [iv (aGreatest z (xs (i + 1)).toInt).1]) F hl.1 cw_L_96 rfl (Nat.le_of_ble_eq_true rfl) (Nat.le_of_ble_eq_true rfl) (Nat.le_of_ble_eq_true rfl) rfl J dL_law_642 (m_greatest hM xI32) (fun g H locs hM J => ?_)
  exact lv_icmp_eq (tgt := 719) hx hb dL_law_645 (by decide) (fun _ => next _ _ _ _ _ hC hM J) (fun q => absurd rfl q)
theorem law_rolls (F : LW p s m c D cyC cyM b L xs) (hi : i + 4 ≤ L) (hl : lv_has ls 4 [(3, iv (i : Int)), (2, .ref (adM 0)), (1, .ref (adC 0)), (0, .ref b)]) (hC : CInv h z) (hM : MInv g z) (J : JJ D cyC cyM adC adM s h g H locs) (next : ∀ (h g : Hp) (z : St) (H : Heap) (locs : List Loc), CInv h z → MInv g z → JJ D cyC cyM adC adM s h g H locs → W p l e room_1 s m #[Value.ref b] below meth c H locs 200 40000 Q (F0 m 719 ls [])) : W p l e room_1 s m #[Value.ref b] below meth c H locs 200 40000 Q (F0 m 650 ls []) := by
  have hx := F.1
  have hb := F.2.1
  refine lv_aload_n hx hb dL_law_650 rfl (lv_at hl 2 rfl) ?_
  refine Warg (j := 1) F J hl (by omega) rfl dL_law_651 dL_law_652 dL_law_653 dL_law_654 dL_law_655 ?_
  refine callC (as := [iv (xs (i + 1)).toInt]) (a := (aRolls z (xs (i + 1)).toInt)) (rest := []) F hl.1 cw_L_97 rfl (Nat.le_of_ble_eq_true rfl) (Nat.le_of_ble_eq_true rfl) (Nat.le_of_ble_eq_true rfl) rfl J dL_law_656 (p_rolls hC xI32) (fun h H locs hC J => ?_)
  refine lv_aload_n hx hb dL_law_659 rfl (lv_at hl 1 rfl) ?_
  refine Warg (j := 1) F J hl (by omega) rfl dL_law_660 dL_law_661 dL_law_662 dL_law_663 dL_law_664 ?_
  refine callMo (as := [iv (xs (i + 1)).toInt]) (a := (aRolls z (xs (i + 1)).toInt)) (rest := [iv (aRolls z (xs (i + 1)).toInt).1]) F hl.1 cw_L_100 rfl (Nat.le_of_ble_eq_true rfl) (Nat.le_of_ble_eq_true rfl) (Nat.le_of_ble_eq_true rfl) rfl J dL_law_665 (m_rolls hM xI32) (fun g H locs hM J => ?_)
  exact lv_icmp_eq (tgt := 719) hx hb dL_law_668 (by decide) (fun _ => next _ _ _ _ _ hC hM J) (fun q => absurd rfl q)
theorem law_rollOf (F : LW p s m c D cyC cyM b L xs) (hi : i + 4 ≤ L) (hl : lv_has ls 4 [(3, iv (i : Int)), (2, .ref (adM 0)), (1, .ref (adC 0)), (0, .ref b)]) (hC : CInv h z) (hM : MInv g z) (J : JJ D cyC cyM adC adM s h g H locs) (next : ∀ (h g : Hp) (z : St) (H : Heap) (locs : List Loc), CInv h z → MInv g z → JJ D cyC cyM adC adM s h g H locs → W p l e room_1 s m #[Value.ref b] below meth c H locs 200 40000 Q (F0 m 719 ls [])) : W p l e room_1 s m #[Value.ref b] below meth c H locs 200 40000 Q (F0 m 673 ls []) := by
  have hx := F.1
  have hb := F.2.1
  refine lv_aload_n hx hb dL_law_673 rfl (lv_at hl 2 rfl) ?_
  refine Warg (j := 1) F J hl (by omega) rfl dL_law_674 dL_law_675 dL_law_676 dL_law_677 dL_law_678 ?_
  refine callC (as := [iv (xs (i + 1)).toInt]) (a := (aRollOf z (xs (i + 1)).toInt)) (rest := []) F hl.1 cw_L_101 rfl (Nat.le_of_ble_eq_true rfl) (Nat.le_of_ble_eq_true rfl) (Nat.le_of_ble_eq_true rfl) rfl J dL_law_679 (p_rollOf hC xI32) (fun h H locs hC J => ?_)
  refine lv_aload_n hx hb dL_law_682 rfl (lv_at hl 1 rfl) ?_
  refine Warg (j := 1) F J hl (by omega) rfl dL_law_683 dL_law_684 dL_law_685 dL_law_686 dL_law_687 ?_
  refine callMo (as := [iv (xs (i + 1)).toInt]) (a := (aRollOf z (xs (i + 1)).toInt)) (rest := [iv (aRollOf z (xs (i + 1)).toInt).1]) F hl.1 cw_L_104 rfl (Nat.le_of_ble_eq_true rfl) (Nat.le_of_ble_eq_true rfl) (Nat.le_of_ble_eq_true rfl) rfl J dL_law_688 (m_rollOf hM xI32) (fun g H locs hM J => ?_)
  exact lv_icmp_eq (tgt := 719) hx hb dL_law_691 (by decide) (fun _ => next _ _ _ _ _ hC hM J) (fun q => absurd rfl q)
theorem law_count (F : LW p s m c D cyC cyM b L xs) (hi : i + 4 ≤ L) (hl : lv_has ls 4 [(3, iv (i : Int)), (2, .ref (adM 0)), (1, .ref (adC 0)), (0, .ref b)]) (hC : CInv h z) (hM : MInv g z) (J : JJ D cyC cyM adC adM s h g H locs) (next : ∀ (h g : Hp) (z : St) (H : Heap) (locs : List Loc), CInv h z → MInv g z → JJ D cyC cyM adC adM s h g H locs → W p l e room_1 s m #[Value.ref b] below meth c H locs 200 40000 Q (F0 m 719 ls [])) : W p l e room_1 s m #[Value.ref b] below meth c H locs 200 40000 Q (F0 m 696 ls []) := by
  have hx := F.1
  have hb := F.2.1
  refine lv_aload_n hx hb dL_law_696 rfl (lv_at hl 2 rfl) ?_
  refine Warg (j := 1) F J hl (by omega) rfl dL_law_697 dL_law_698 dL_law_699 dL_law_700 dL_law_701 ?_
  refine callC (as := [iv (xs (i + 1)).toInt]) (a := (aCount z (xs (i + 1)).toInt)) (rest := []) F hl.1 cw_L_105 rfl (Nat.le_of_ble_eq_true rfl) (Nat.le_of_ble_eq_true rfl) (Nat.le_of_ble_eq_true rfl) rfl J dL_law_702 (p_count hC xI32) (fun h H locs hC J => ?_)
  refine lv_aload_n hx hb dL_law_705 rfl (lv_at hl 1 rfl) ?_
  refine Warg (j := 1) F J hl (by omega) rfl dL_law_706 dL_law_707 dL_law_708 dL_law_709 dL_law_710 ?_
  refine callMo (as := [iv (xs (i + 1)).toInt]) (a := (aCount z (xs (i + 1)).toInt)) (rest := [iv (aCount z (xs (i + 1)).toInt).1]) F hl.1 cw_L_108 rfl (Nat.le_of_ble_eq_true rfl) (Nat.le_of_ble_eq_true rfl) (Nat.le_of_ble_eq_true rfl) rfl J dL_law_711 (m_count hM xI32) (fun g H locs hM J => ?_)
  exact lv_icmp_eq (tgt := 719) hx hb dL_law_714 (by decide) (fun _ => next _ _ _ _ _ hC hM J) (fun q => absurd rfl q)
end LAW4
