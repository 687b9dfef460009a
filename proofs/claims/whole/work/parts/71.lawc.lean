/-! the law's calls, case by case -/
set_option maxHeartbeats 4000000 in
set_option maxRecDepth 100000 in
theorem lw_k0 {p : Program} {l : Launch} {e : Env} {s : State} {m : MethodId} {b : Nat} {below : List Frame} {meth : Method} {c0 : Code} {H : Heap} {locs : List Loc} {L : Nat} {xs : Nat → Int32} {D : va_G} {c : CT} {q z : Nat → Nat} {xc : CS} {g : GS} {ls : Array Slot} {i : Nat} (hL : L ≤ 3072) (C0 : lw_At p s m meth c0 b L xs) (hK : KK D c s) (hi : i + 6 ≤ L) (hR : Rel xc g) (hh : LwH s D c q z xc g H locs) (hl : lv_has ls 4 (LwL b i q z))
    (kk : ∀ (xd : CS) (g1 : GS) (H1 : Heap) (locs1 : List Loc), Rel xd g1 → LwH s D c q z xd g1 H1 locs1 → LW p l e s m b below meth c0 H1 locs1 (F0 m 942 ls [])) : LW p l e s m b below meth c0 H locs (F0 m 160 ls []) := by
  obtain ⟨ms, ts, hs, ps, ss⟩ := xc
  obtain ⟨hx, hb, hr, hml, hown, hts, hX, hbl, hlk, hgv⟩ := id C0
  have hown : s.vm.findClass RL = some m.cls := hown
  refine lv_aload_n hx hb dL_law_160 rfl (lv_at hl 1 rfl) ?_
  refine lw_arg C0 hL 1 (by decide) (by omega) hh hl dL_law_161 dL_law_162 dL_law_163 dL_law_164 dL_law_165 ?_
  refine lw_arg C0 hL 2 (by decide) (by omega) hh hl dL_law_166 dL_law_167 dL_law_168 dL_law_169 dL_law_170 ?_
  refine lw_arg C0 hL 3 (by decide) (by omega) hh hl dL_law_171 dL_law_172 dL_law_173 dL_law_174 dL_law_175 ?_
  refine lwXi (As := [.int (xs (i + 1)), .int (xs (i + 2)), .int (xs (i + 3))]) (rest := []) C0 hK hh (c_X4_test l D q c ms ts hs ps ss (xs (i + 1)) (xs (i + 2)) (xs (i + 3)) (rl_T hR)) (cwV 3 hts gL_X4_test rfl rfl rfl (by decide +kernel) ⟨Nat.le_of_ble_eq_true rfl, Nat.le_of_ble_eq_true rfl⟩) rfl hl.1 rfl (Nat.le_of_ble_eq_true rfl) dL_law_176 (fun H locs hh => ?_)
  refine lv_aload_n hx hb dL_law_179 rfl (lv_at hl 2 rfl) ?_
  refine lw_arg C0 hL 1 (by decide) (by omega) hh hl dL_law_180 dL_law_181 dL_law_182 dL_law_183 dL_law_184 ?_
  refine lw_arg C0 hL 2 (by decide) (by omega) hh hl dL_law_185 dL_law_186 dL_law_187 dL_law_188 dL_law_189 ?_
  refine lw_arg C0 hL 3 (by decide) (by omega) hh hl dL_law_190 dL_law_191 dL_law_192 dL_law_193 dL_law_194 ?_
  refine lwGi (As := [.int (xs (i + 1)), .int (xs (i + 2)), .int (xs (i + 3))]) C0 hK hh (c_X5_test l D z c g (xs (i + 1)) (xs (i + 2)) (xs (i + 3)) hR.T20) (cwV 3 hts gL_X5_test rfl rfl rfl (by decide +kernel) ⟨Nat.le_of_ble_eq_true rfl, Nat.le_of_ble_eq_true rfl⟩) rfl hl.1 rfl (Nat.le_of_ble_eq_true rfl) dL_law_195 (fun H locs hh => ?_)
  exact lv_icmp_eq (tgt := 942) hx hb dL_law_198 (by decide) (fun _ => kk _ _ _ _ (st_test hR (xs (i + 1)) (xs (i + 2)) (xs (i + 3))).2 hh) (fun h9 => absurd (st_test hR (xs (i + 1)) (xs (i + 2)) (xs (i + 3))).1 h9)
set_option maxHeartbeats 4000000 in
set_option maxRecDepth 100000 in
theorem lw_k1 {p : Program} {l : Launch} {e : Env} {s : State} {m : MethodId} {b : Nat} {below : List Frame} {meth : Method} {c0 : Code} {H : Heap} {locs : List Loc} {L : Nat} {xs : Nat → Int32} {D : va_G} {c : CT} {q z : Nat → Nat} {xc : CS} {g : GS} {ls : Array Slot} {i : Nat} (hL : L ≤ 3072) (C0 : lw_At p s m meth c0 b L xs) (hK : KK D c s) (hi : i + 6 ≤ L) (hR : Rel xc g) (hh : LwH s D c q z xc g H locs) (hl : lv_has ls 4 (LwL b i q z))
    (kk : ∀ (xd : CS) (g1 : GS) (H1 : Heap) (locs1 : List Loc), Rel xd g1 → LwH s D c q z xd g1 H1 locs1 → LW p l e s m b below meth c0 H1 locs1 (F0 m 942 ls [])) : LW p l e s m b below meth c0 H locs (F0 m 203 ls []) := by
  obtain ⟨ms, ts, hs, ps, ss⟩ := xc
  obtain ⟨hx, hb, hr, hml, hown, hts, hX, hbl, hlk, hgv⟩ := id C0
  have hown : s.vm.findClass RL = some m.cls := hown
  refine lv_aload_n hx hb dL_law_203 rfl (lv_at hl 1 rfl) ?_
  refine lw_arg C0 hL 1 (by decide) (by omega) hh hl dL_law_204 dL_law_205 dL_law_206 dL_law_207 dL_law_208 ?_
  refine lw_arg C0 hL 2 (by decide) (by omega) hh hl dL_law_209 dL_law_210 dL_law_211 dL_law_212 dL_law_213 ?_
  refine lwXi (As := [.int (xs (i + 1)), .int (xs (i + 2))]) (rest := []) C0 hK hh (c_X4_turn l D q c ms ts hs ps ss (xs (i + 1)) (xs (i + 2)) (rl_T hR)) (cwV 2 hts gL_X4_turn rfl rfl rfl (by decide +kernel) ⟨Nat.le_of_ble_eq_true rfl, Nat.le_of_ble_eq_true rfl⟩) rfl hl.1 rfl (Nat.le_of_ble_eq_true rfl) dL_law_214 (fun H locs hh => ?_)
  refine lv_aload_n hx hb dL_law_217 rfl (lv_at hl 2 rfl) ?_
  refine lw_arg C0 hL 1 (by decide) (by omega) hh hl dL_law_218 dL_law_219 dL_law_220 dL_law_221 dL_law_222 ?_
  refine lw_arg C0 hL 2 (by decide) (by omega) hh hl dL_law_223 dL_law_224 dL_law_225 dL_law_226 dL_law_227 ?_
  refine lwGi (As := [.int (xs (i + 1)), .int (xs (i + 2))]) C0 hK hh (c_X5_turn l D z c g (xs (i + 1)) (xs (i + 2)) hR.T20) (cwV 2 hts gL_X5_turn rfl rfl rfl (by decide +kernel) ⟨Nat.le_of_ble_eq_true rfl, Nat.le_of_ble_eq_true rfl⟩) rfl hl.1 rfl (Nat.le_of_ble_eq_true rfl) dL_law_228 (fun H locs hh => ?_)
  exact lv_icmp_eq (tgt := 942) hx hb dL_law_231 (by decide) (fun _ => kk _ _ _ _ (st_turn hR (xs (i + 1)) (xs (i + 2))).2 hh) (fun h9 => absurd (st_turn hR (xs (i + 1)) (xs (i + 2))).1 h9)
set_option maxHeartbeats 4000000 in
set_option maxRecDepth 100000 in
theorem lw_k2 {p : Program} {l : Launch} {e : Env} {s : State} {m : MethodId} {b : Nat} {below : List Frame} {meth : Method} {c0 : Code} {H : Heap} {locs : List Loc} {L : Nat} {xs : Nat → Int32} {D : va_G} {c : CT} {q z : Nat → Nat} {xc : CS} {g : GS} {ls : Array Slot} {i : Nat} (hL : L ≤ 3072) (C0 : lw_At p s m meth c0 b L xs) (hK : KK D c s) (hi : i + 6 ≤ L) (hR : Rel xc g) (hh : LwH s D c q z xc g H locs) (hl : lv_has ls 4 (LwL b i q z))
    (kk : ∀ (xd : CS) (g1 : GS) (H1 : Heap) (locs1 : List Loc), Rel xd g1 → LwH s D c q z xd g1 H1 locs1 → LW p l e s m b below meth c0 H1 locs1 (F0 m 942 ls [])) : LW p l e s m b below meth c0 H locs (F0 m 236 ls []) := by
  obtain ⟨ms, ts, hs, ps, ss⟩ := xc
  obtain ⟨hx, hb, hr, hml, hown, hts, hX, hbl, hlk, hgv⟩ := id C0
  have hown : s.vm.findClass RL = some m.cls := hown
  refine lv_aload_n hx hb dL_law_236 rfl (lv_at hl 1 rfl) ?_
  refine lw_arg C0 hL 1 (by decide) (by omega) hh hl dL_law_237 dL_law_238 dL_law_239 dL_law_240 dL_law_241 ?_
  refine lw_arg C0 hL 2 (by decide) (by omega) hh hl dL_law_242 dL_law_243 dL_law_244 dL_law_245 dL_law_246 ?_
  refine lw_arg C0 hL 3 (by decide) (by omega) hh hl dL_law_247 dL_law_248 dL_law_249 dL_law_250 dL_law_251 ?_
  refine lwXi (As := [.int (xs (i + 1)), .int (xs (i + 2)), .int (xs (i + 3))]) (rest := []) C0 hK hh (c_X4_reach l D q c ms ts hs ps ss (xs (i + 1)) (xs (i + 2)) (xs (i + 3)) (rl_T hR)) (cwV 3 hts gL_X4_reach rfl rfl rfl (by decide +kernel) ⟨Nat.le_of_ble_eq_true rfl, Nat.le_of_ble_eq_true rfl⟩) rfl hl.1 rfl (Nat.le_of_ble_eq_true rfl) dL_law_252 (fun H locs hh => ?_)
  refine lv_aload_n hx hb dL_law_255 rfl (lv_at hl 2 rfl) ?_
  refine lw_arg C0 hL 1 (by decide) (by omega) hh hl dL_law_256 dL_law_257 dL_law_258 dL_law_259 dL_law_260 ?_
  refine lw_arg C0 hL 2 (by decide) (by omega) hh hl dL_law_261 dL_law_262 dL_law_263 dL_law_264 dL_law_265 ?_
  refine lw_arg C0 hL 3 (by decide) (by omega) hh hl dL_law_266 dL_law_267 dL_law_268 dL_law_269 dL_law_270 ?_
  refine lwGi (As := [.int (xs (i + 1)), .int (xs (i + 2)), .int (xs (i + 3))]) C0 hK hh (c_X5_reach l D z c g (xs (i + 1)) (xs (i + 2)) (xs (i + 3)) hR.T20) (cwV 3 hts gL_X5_reach rfl rfl rfl (by decide +kernel) ⟨Nat.le_of_ble_eq_true rfl, Nat.le_of_ble_eq_true rfl⟩) rfl hl.1 rfl (Nat.le_of_ble_eq_true rfl) dL_law_271 (fun H locs hh => ?_)
  exact lv_icmp_eq (tgt := 942) hx hb dL_law_274 (by decide) (fun _ => kk _ _ _ _ (st_reach hR (xs (i + 1)) (xs (i + 2)) (xs (i + 3))).2 hh) (fun h9 => absurd (st_reach hR (xs (i + 1)) (xs (i + 2)) (xs (i + 3))).1 h9)
set_option maxHeartbeats 4000000 in
set_option maxRecDepth 100000 in
theorem lw_k3 {p : Program} {l : Launch} {e : Env} {s : State} {m : MethodId} {b : Nat} {below : List Frame} {meth : Method} {c0 : Code} {H : Heap} {locs : List Loc} {L : Nat} {xs : Nat → Int32} {D : va_G} {c : CT} {q z : Nat → Nat} {xc : CS} {g : GS} {ls : Array Slot} {i : Nat} (hL : L ≤ 3072) (C0 : lw_At p s m meth c0 b L xs) (hK : KK D c s) (hi : i + 6 ≤ L) (hR : Rel xc g) (hh : LwH s D c q z xc g H locs) (hl : lv_has ls 4 (LwL b i q z))
    (kk : ∀ (xd : CS) (g1 : GS) (H1 : Heap) (locs1 : List Loc), Rel xd g1 → LwH s D c q z xd g1 H1 locs1 → LW p l e s m b below meth c0 H1 locs1 (F0 m 942 ls [])) : LW p l e s m b below meth c0 H locs (F0 m 279 ls []) := by
  obtain ⟨ms, ts, hs, ps, ss⟩ := xc
  obtain ⟨hx, hb, hr, hml, hown, hts, hX, hbl, hlk, hgv⟩ := id C0
  have hown : s.vm.findClass RL = some m.cls := hown
  refine lv_aload_n hx hb dL_law_279 rfl (lv_at hl 1 rfl) ?_
  refine lw_arg C0 hL 1 (by decide) (by omega) hh hl dL_law_280 dL_law_281 dL_law_282 dL_law_283 dL_law_284 ?_
  refine lw_arg C0 hL 2 (by decide) (by omega) hh hl dL_law_285 dL_law_286 dL_law_287 dL_law_288 dL_law_289 ?_
  refine lwXi (As := [.int (xs (i + 1)), .int (xs (i + 2))]) (rest := []) C0 hK hh (c_X4_byteOf l D q c ms ts hs ps ss (xs (i + 1)) (xs (i + 2)) (rl_T hR)) (cwV 2 hts gL_X4_byteOf rfl rfl rfl (by decide +kernel) ⟨Nat.le_of_ble_eq_true rfl, Nat.le_of_ble_eq_true rfl⟩) rfl hl.1 rfl (Nat.le_of_ble_eq_true rfl) dL_law_290 (fun H locs hh => ?_)
  refine lv_aload_n hx hb dL_law_293 rfl (lv_at hl 2 rfl) ?_
  refine lw_arg C0 hL 1 (by decide) (by omega) hh hl dL_law_294 dL_law_295 dL_law_296 dL_law_297 dL_law_298 ?_
  refine lw_arg C0 hL 2 (by decide) (by omega) hh hl dL_law_299 dL_law_300 dL_law_301 dL_law_302 dL_law_303 ?_
  refine lwGi (As := [.int (xs (i + 1)), .int (xs (i + 2))]) C0 hK hh (c_X5_byteOf l D z c g (xs (i + 1)) (xs (i + 2)) hR.T20) (cwV 2 hts gL_X5_byteOf rfl rfl rfl (by decide +kernel) ⟨Nat.le_of_ble_eq_true rfl, Nat.le_of_ble_eq_true rfl⟩) rfl hl.1 rfl (Nat.le_of_ble_eq_true rfl) dL_law_304 (fun H locs hh => ?_)
  exact lv_icmp_eq (tgt := 942) hx hb dL_law_307 (by decide) (fun _ => kk _ _ _ _ (st_byteOf hR (xs (i + 1)) (xs (i + 2))).2 hh) (fun h9 => absurd (st_byteOf hR (xs (i + 1)) (xs (i + 2))).1 h9)
set_option maxHeartbeats 4000000 in
set_option maxRecDepth 100000 in
theorem lw_k4 {p : Program} {l : Launch} {e : Env} {s : State} {m : MethodId} {b : Nat} {below : List Frame} {meth : Method} {c0 : Code} {H : Heap} {locs : List Loc} {L : Nat} {xs : Nat → Int32} {D : va_G} {c : CT} {q z : Nat → Nat} {xc : CS} {g : GS} {ls : Array Slot} {i : Nat} (hL : L ≤ 3072) (C0 : lw_At p s m meth c0 b L xs) (hK : KK D c s) (hi : i + 6 ≤ L) (hR : Rel xc g) (hh : LwH s D c q z xc g H locs) (hl : lv_has ls 4 (LwL b i q z))
    (kk : ∀ (xd : CS) (g1 : GS) (H1 : Heap) (locs1 : List Loc), Rel xd g1 → LwH s D c q z xd g1 H1 locs1 → LW p l e s m b below meth c0 H1 locs1 (F0 m 942 ls [])) : LW p l e s m b below meth c0 H locs (F0 m 312 ls []) := by
  obtain ⟨ms, ts, hs, ps, ss⟩ := xc
  obtain ⟨hx, hb, hr, hml, hown, hts, hX, hbl, hlk, hgv⟩ := id C0
  have hown : s.vm.findClass RL = some m.cls := hown
  refine lv_aload_n hx hb dL_law_312 rfl (lv_at hl 1 rfl) ?_
  refine lw_arg C0 hL 1 (by decide) (by omega) hh hl dL_law_313 dL_law_314 dL_law_315 dL_law_316 dL_law_317 ?_
  refine lwXi (As := [.int (xs (i + 1))]) (rest := []) C0 hK hh (c_X4_tear l D q c ms ts hs ps ss (xs (i + 1)) (rl_T hR)) (cwV 1 hts gL_X4_tear rfl rfl rfl (by decide +kernel) ⟨Nat.le_of_ble_eq_true rfl, Nat.le_of_ble_eq_true rfl⟩) rfl hl.1 rfl (Nat.le_of_ble_eq_true rfl) dL_law_318 (fun H locs hh => ?_)
  refine lv_aload_n hx hb dL_law_321 rfl (lv_at hl 2 rfl) ?_
  refine lw_arg C0 hL 1 (by decide) (by omega) hh hl dL_law_322 dL_law_323 dL_law_324 dL_law_325 dL_law_326 ?_
  refine lwGi (As := [.int (xs (i + 1))]) C0 hK hh (c_X5_tear l D z c g (xs (i + 1)) hR.T20) (cwV 1 hts gL_X5_tear rfl rfl rfl (by decide +kernel) ⟨Nat.le_of_ble_eq_true rfl, Nat.le_of_ble_eq_true rfl⟩) rfl hl.1 rfl (Nat.le_of_ble_eq_true rfl) dL_law_327 (fun H locs hh => ?_)
  exact lv_icmp_eq (tgt := 942) hx hb dL_law_330 (by decide) (fun _ => kk _ _ _ _ (st_tear hR (xs (i + 1))).2 hh) (fun h9 => absurd (st_tear hR (xs (i + 1))).1 h9)
set_option maxHeartbeats 4000000 in
set_option maxRecDepth 100000 in
theorem lw_k5 {p : Program} {l : Launch} {e : Env} {s : State} {m : MethodId} {b : Nat} {below : List Frame} {meth : Method} {c0 : Code} {H : Heap} {locs : List Loc} {L : Nat} {xs : Nat → Int32} {D : va_G} {c : CT} {q z : Nat → Nat} {xc : CS} {g : GS} {ls : Array Slot} {i : Nat} (hL : L ≤ 3072) (C0 : lw_At p s m meth c0 b L xs) (hK : KK D c s) (hi : i + 6 ≤ L) (hR : Rel xc g) (hh : LwH s D c q z xc g H locs) (hl : lv_has ls 4 (LwL b i q z))
    (kk : ∀ (xd : CS) (g1 : GS) (H1 : Heap) (locs1 : List Loc), Rel xd g1 → LwH s D c q z xd g1 H1 locs1 → LW p l e s m b below meth c0 H1 locs1 (F0 m 942 ls [])) : LW p l e s m b below meth c0 H locs (F0 m 335 ls []) := by
  obtain ⟨ms, ts, hs, ps, ss⟩ := xc
  obtain ⟨hx, hb, hr, hml, hown, hts, hX, hbl, hlk, hgv⟩ := id C0
  have hown : s.vm.findClass RL = some m.cls := hown
  refine lv_aload_n hx hb dL_law_335 rfl (lv_at hl 1 rfl) ?_
  refine lw_arg C0 hL 1 (by decide) (by omega) hh hl dL_law_336 dL_law_337 dL_law_338 dL_law_339 dL_law_340 ?_
  refine lwXi (As := [.int (xs (i + 1))]) (rest := []) C0 hK hh (c_X4_anew l D q c ms ts hs ps ss (xs (i + 1)) (rl_T hR)) (cwV 1 hts gL_X4_anew rfl rfl rfl (by decide +kernel) ⟨Nat.le_of_ble_eq_true rfl, Nat.le_of_ble_eq_true rfl⟩) rfl hl.1 rfl (Nat.le_of_ble_eq_true rfl) dL_law_341 (fun H locs hh => ?_)
  refine lv_aload_n hx hb dL_law_344 rfl (lv_at hl 2 rfl) ?_
  refine lw_arg C0 hL 1 (by decide) (by omega) hh hl dL_law_345 dL_law_346 dL_law_347 dL_law_348 dL_law_349 ?_
  refine lwGi (As := [.int (xs (i + 1))]) C0 hK hh (c_X5_anew l D z c g (xs (i + 1)) hR.T20) (cwV 1 hts gL_X5_anew rfl rfl rfl (by decide +kernel) ⟨Nat.le_of_ble_eq_true rfl, Nat.le_of_ble_eq_true rfl⟩) rfl hl.1 rfl (Nat.le_of_ble_eq_true rfl) dL_law_350 (fun H locs hh => ?_)
  exact lv_icmp_eq (tgt := 942) hx hb dL_law_353 (by decide) (fun _ => kk _ _ _ _ (st_anew hR (xs (i + 1))).2 hh) (fun h9 => absurd (st_anew hR (xs (i + 1))).1 h9)
set_option maxHeartbeats 4000000 in
set_option maxRecDepth 100000 in
theorem lw_k6 {p : Program} {l : Launch} {e : Env} {s : State} {m : MethodId} {b : Nat} {below : List Frame} {meth : Method} {c0 : Code} {H : Heap} {locs : List Loc} {L : Nat} {xs : Nat → Int32} {D : va_G} {c : CT} {q z : Nat → Nat} {xc : CS} {g : GS} {ls : Array Slot} {i : Nat} (hL : L ≤ 3072) (C0 : lw_At p s m meth c0 b L xs) (hK : KK D c s) (hi : i + 6 ≤ L) (hR : Rel xc g) (hh : LwH s D c q z xc g H locs) (hl : lv_has ls 4 (LwL b i q z))
    (kk : ∀ (xd : CS) (g1 : GS) (H1 : Heap) (locs1 : List Loc), Rel xd g1 → LwH s D c q z xd g1 H1 locs1 → LW p l e s m b below meth c0 H1 locs1 (F0 m 942 ls [])) : LW p l e s m b below meth c0 H locs (F0 m 358 ls []) := by
  obtain ⟨ms, ts, hs, ps, ss⟩ := xc
  obtain ⟨hx, hb, hr, hml, hown, hts, hX, hbl, hlk, hgv⟩ := id C0
  have hown : s.vm.findClass RL = some m.cls := hown
  refine lv_aload_n hx hb dL_law_358 rfl (lv_at hl 1 rfl) ?_
  refine lw_arg C0 hL 1 (by decide) (by omega) hh hl dL_law_359 dL_law_360 dL_law_361 dL_law_362 dL_law_363 ?_
  refine lw_arg C0 hL 2 (by decide) (by omega) hh hl dL_law_364 dL_law_365 dL_law_366 dL_law_367 dL_law_368 ?_
  refine lw_arg C0 hL 3 (by decide) (by omega) hh hl dL_law_369 dL_law_370 dL_law_371 dL_law_372 dL_law_373 ?_
  refine lw_arg C0 hL 4 (by decide) (by omega) hh hl dL_law_374 dL_law_375 dL_law_376 dL_law_377 dL_law_378 ?_
  refine lw_arg C0 hL 5 (by decide) (by omega) hh hl dL_law_379 dL_law_380 dL_law_381 dL_law_382 dL_law_383 ?_
  refine lwXi (As := [.int (xs (i + 1)), .int (xs (i + 2)), .int (xs (i + 3)), .int (xs (i + 4)), .int (xs (i + 5))]) (rest := []) C0 hK hh (c_X4_copy l D q c ms ts hs ps ss (xs (i + 1)) (xs (i + 2)) (xs (i + 3)) (xs (i + 4)) (xs (i + 5)) (rl_T hR)) (cwV 5 hts gL_X4_copy rfl rfl rfl (by decide +kernel) ⟨Nat.le_of_ble_eq_true rfl, Nat.le_of_ble_eq_true rfl⟩) rfl hl.1 rfl (Nat.le_of_ble_eq_true rfl) dL_law_384 (fun H locs hh => ?_)
  refine lv_aload_n hx hb dL_law_387 rfl (lv_at hl 2 rfl) ?_
  refine lw_arg C0 hL 1 (by decide) (by omega) hh hl dL_law_388 dL_law_389 dL_law_390 dL_law_391 dL_law_392 ?_
  refine lw_arg C0 hL 2 (by decide) (by omega) hh hl dL_law_393 dL_law_394 dL_law_395 dL_law_396 dL_law_397 ?_
  refine lw_arg C0 hL 3 (by decide) (by omega) hh hl dL_law_398 dL_law_399 dL_law_400 dL_law_401 dL_law_402 ?_
  refine lw_arg C0 hL 4 (by decide) (by omega) hh hl dL_law_403 dL_law_404 dL_law_405 dL_law_406 dL_law_407 ?_
  refine lw_arg C0 hL 5 (by decide) (by omega) hh hl dL_law_408 dL_law_409 dL_law_410 dL_law_411 dL_law_412 ?_
  refine lwGi (As := [.int (xs (i + 1)), .int (xs (i + 2)), .int (xs (i + 3)), .int (xs (i + 4)), .int (xs (i + 5))]) C0 hK hh (c_X5_copy l D z c g (xs (i + 1)) (xs (i + 2)) (xs (i + 3)) (xs (i + 4)) (xs (i + 5)) hR.T20) (cwV 5 hts gL_X5_copy rfl rfl rfl (by decide +kernel) ⟨Nat.le_of_ble_eq_true rfl, Nat.le_of_ble_eq_true rfl⟩) rfl hl.1 rfl (Nat.le_of_ble_eq_true rfl) dL_law_413 (fun H locs hh => ?_)
  exact lv_icmp_eq (tgt := 942) hx hb dL_law_416 (by decide) (fun _ => kk _ _ _ _ (st_copy hR (xs (i + 1)) (xs (i + 2)) (xs (i + 3)) (xs (i + 4)) (xs (i + 5))).2 hh) (fun h9 => absurd (st_copy hR (xs (i + 1)) (xs (i + 2)) (xs (i + 3)) (xs (i + 4)) (xs (i + 5))).1 h9)
