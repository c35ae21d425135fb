/-! LAW: the methods, one by one (by program: wip/gen/law.py) -/
section LAWC
variable {p : Program} {l : Launch} {e : Env} {s : State} {m : MethodId} {args : Array Value} {below : List Frame} {meth : Method} {c : Code} {Q : State → Prop} {D : va_G} {A : Nat → Prop} {nc ns : Nat} {N : Nm} {b L : Nat} {xs : Nat → Int32} {ax am qo i : Nat} {N1 N2 : Nm} {z w : St} {fo : Nat → Int64}
theorem L_feed (C : LC p s m args c D A N b L xs) (hL : L ≤ 3072) (hi : i + 6 ≤ L) (e1 : N1.2.2 = N.2.2) (e2 : N2.2.2 = N.2.2) (a1 : N1.1 0 = ax) (a2 : N2.1 0 = am) (hI : Inv z w) (hc : nc ≤ 3600) (hs : ns ≤ 8000) (K : ∀ (N1' : Nm) (z' w' : St), N1'.2.2 = N1.2.2 → N1'.1 0 = N1.1 0 → Inv z' w' → Bw p l e room_1 s m args below meth c Q D A 7 nc ns (wC N1' z' ++ (wR N2 w' ++ oCell N qo fo)) 1318 (lvL b ax am qo i) []) : Bw p l e room_1 s m args below meth c Q D A 7 nc ns (wC N1 z ++ (wR N2 w ++ oCell N qo fo)) 164 (lvL b ax am qo i) [] := by
  subst a1 a2
  obtain ⟨r, z1, w1, h1, h2, hI1⟩ := q_feed hI (xs (i + 1)) (xs (i + 2)) (xs (i + 3)) (xs (i + 4)) (xs (i + 5))
  refine bw_aload_n C.1 1 dL_law_164 rfl ?_
  refine bw_arg (k := 1) C hL (by omega) (by decide) dL_law_165 dL_law_166 dL_law_168 dL_law_169 dL_law_170 ?_
  refine bw_arg (k := 2) C hL (by omega) (by decide) dL_law_171 dL_law_172 dL_law_174 dL_law_175 dL_law_176 ?_
  refine bw_arg (k := 3) C hL (by omega) (by decide) dL_law_177 dL_law_178 dL_law_180 dL_law_181 dL_law_182 ?_
  refine bw_arg (k := 4) C hL (by omega) (by decide) dL_law_183 dL_law_184 dL_law_186 dL_law_187 dL_law_188 ?_
  refine bw_arg (k := 5) C hL (by omega) (by decide) dL_law_189 dL_law_190 dL_law_192 dL_law_193 dL_law_194 ?_
  refine bw_frontVi (n := 5) (As := [.int (xs (i + 1)), .int (xs (i + 2)), .int (xs (i + 3)), .int (xs (i + 4)), .int (xs (i + 5))]) (rest := []) (q0 := 0) (ci := 10) (w1 := wC N1 z1) C.1 e1 (c_X11_feed l D N1 z z1 (xs (i + 1)) (xs (i + 2)) (xs (i + 3)) (xs (i + 4)) (xs (i + 5)) r h1) lw_9_17 lw_9_18 lw_9_19 lw_1_2 lw_9_20 rfl rfl (by decide +kernel) ⟨Nat.le_of_ble_eq_true rfl, Nat.le_of_ble_eq_true rfl⟩ rfl rfl rfl rfl rfl (Nat.le_of_ble_eq_true rfl) (Nat.le_trans hc (Nat.le_of_ble_eq_true rfl)) (Nat.le_trans hs (Nat.le_of_ble_eq_true rfl)) dL_law_195 ?_
  refine bw_rot1 ?_
  refine bw_aload_n C.1 2 dL_law_198 rfl ?_
  refine bw_arg (k := 1) C hL (by omega) (by decide) dL_law_199 dL_law_200 dL_law_202 dL_law_203 dL_law_204 ?_
  refine bw_arg (k := 2) C hL (by omega) (by decide) dL_law_205 dL_law_206 dL_law_208 dL_law_209 dL_law_210 ?_
  refine bw_arg (k := 3) C hL (by omega) (by decide) dL_law_211 dL_law_212 dL_law_214 dL_law_215 dL_law_216 ?_
  refine bw_arg (k := 4) C hL (by omega) (by decide) dL_law_217 dL_law_218 dL_law_220 dL_law_221 dL_law_222 ?_
  refine bw_arg (k := 5) C hL (by omega) (by decide) dL_law_223 dL_law_224 dL_law_226 dL_law_227 dL_law_228 ?_
  refine bw_frontVi (n := 5) (As := [.int (xs (i + 1)), .int (xs (i + 2)), .int (xs (i + 3)), .int (xs (i + 4)), .int (xs (i + 5))]) (rest := [.int r]) (q0 := 0) (ci := 11) (w1 := wR N2 w1) C.1 e2 (c_X12_feed l D N2 w w1 (xs (i + 1)) (xs (i + 2)) (xs (i + 3)) (xs (i + 4)) (xs (i + 5)) r h2) lw_10_7 lw_10_8 lw_10_9 lw_1_5 lw_10_10 rfl rfl (by decide +kernel) ⟨Nat.le_of_ble_eq_true rfl, Nat.le_of_ble_eq_true rfl⟩ rfl rfl rfl rfl rfl (Nat.le_of_ble_eq_true rfl) (Nat.le_trans hc (Nat.le_of_ble_eq_true rfl)) (Nat.le_trans hs (Nat.le_of_ble_eq_true rfl)) dL_law_229 ?_
  refine bw_rot2 ?_
  exact bw_icmp_eq (tgt := 1318) C.1 dL_law_232 (by decide) (fun _ => K N1 z1 w1 rfl rfl hI1) (fun q => absurd rfl q)
theorem L_terms (C : LC p s m args c D A N b L xs) (hL : L ≤ 3072) (hi : i + 6 ≤ L) (e1 : N1.2.2 = N.2.2) (e2 : N2.2.2 = N.2.2) (a1 : N1.1 0 = ax) (a2 : N2.1 0 = am) (hI : Inv z w) (hc : nc ≤ 3600) (hs : ns ≤ 8000) (K : ∀ (N1' : Nm) (z' w' : St), N1'.2.2 = N1.2.2 → N1'.1 0 = N1.1 0 → Inv z' w' → Bw p l e room_1 s m args below meth c Q D A 7 nc ns (wC N1' z' ++ (wR N2 w' ++ oCell N qo fo)) 1318 (lvL b ax am qo i) []) : Bw p l e room_1 s m args below meth c Q D A 7 nc ns (wC N1 z ++ (wR N2 w ++ oCell N qo fo)) 237 (lvL b ax am qo i) [] := by
  subst a1 a2
  obtain ⟨r, z1, b0, w1, h1, h2, hI1⟩ := q_terms hI (xs (i + 1))
  refine bw_aload_n C.1 1 dL_law_237 rfl ?_
  refine bw_arg (k := 1) C hL (by omega) (by decide) dL_law_238 dL_law_239 dL_law_241 dL_law_242 dL_law_243 ?_
  refine bw_frontVi (n := 1) (As := [.int (xs (i + 1))]) (rest := []) (q0 := 0) (ci := 10) (w1 := wC (swB b0 N1) z1) C.1 e1 (c_X11_terms l D N1 z z1 (xs (i + 1)) r b0 h1) lw_10_13 lw_10_14 lw_10_15 lw_1_2 lw_10_16 rfl rfl (by decide +kernel) ⟨Nat.le_of_ble_eq_true rfl, Nat.le_of_ble_eq_true rfl⟩ rfl rfl rfl rfl rfl (Nat.le_of_ble_eq_true rfl) (Nat.le_trans hc (Nat.le_of_ble_eq_true rfl)) (Nat.le_trans hs (Nat.le_of_ble_eq_true rfl)) dL_law_244 ?_
  refine bw_rot1 ?_
  refine bw_aload_n C.1 2 dL_law_247 rfl ?_
  refine bw_arg (k := 1) C hL (by omega) (by decide) dL_law_248 dL_law_249 dL_law_251 dL_law_252 dL_law_253 ?_
  refine bw_frontVi (n := 1) (As := [.int (xs (i + 1))]) (rest := [.int r]) (q0 := 0) (ci := 11) (w1 := wR N2 w1) C.1 e2 (c_X12_terms l D N2 w w1 (xs (i + 1)) r h2) lw_17_13 lw_17_14 lw_17_15 lw_1_5 lw_17_16 rfl rfl (by decide +kernel) ⟨Nat.le_of_ble_eq_true rfl, Nat.le_of_ble_eq_true rfl⟩ rfl rfl rfl rfl rfl (Nat.le_of_ble_eq_true rfl) (Nat.le_trans hc (Nat.le_of_ble_eq_true rfl)) (Nat.le_trans hs (Nat.le_of_ble_eq_true rfl)) dL_law_254 ?_
  refine bw_rot2 ?_
  exact bw_icmp_eq (tgt := 1318) C.1 dL_law_257 (by decide) (fun _ => K (swB b0 N1) z1 w1 (swB_2 b0 N1) (swB_1 b0 N1) hI1) (fun q => absurd rfl q)
theorem L_fault (C : LC p s m args c D A N b L xs) (hL : L ≤ 3072) (hi : i + 6 ≤ L) (e1 : N1.2.2 = N.2.2) (e2 : N2.2.2 = N.2.2) (a1 : N1.1 0 = ax) (a2 : N2.1 0 = am) (hI : Inv z w) (hc : nc ≤ 3600) (hs : ns ≤ 8000) (K : ∀ (N1' : Nm) (z' w' : St), N1'.2.2 = N1.2.2 → N1'.1 0 = N1.1 0 → Inv z' w' → Bw p l e room_1 s m args below meth c Q D A 7 nc ns (wC N1' z' ++ (wR N2 w' ++ oCell N qo fo)) 1318 (lvL b ax am qo i) []) : Bw p l e room_1 s m args below meth c Q D A 7 nc ns (wC N1 z ++ (wR N2 w ++ oCell N qo fo)) 262 (lvL b ax am qo i) [] := by
  subst a1 a2
  obtain ⟨r, z1, w1, h1, h2, hI1⟩ := q_fault hI (xs (i + 1))
  refine bw_aload_n C.1 1 dL_law_262 rfl ?_
  refine bw_arg (k := 1) C hL (by omega) (by decide) dL_law_263 dL_law_264 dL_law_266 dL_law_267 dL_law_268 ?_
  refine bw_frontVi (n := 1) (As := [.int (xs (i + 1))]) (rest := []) (q0 := 0) (ci := 10) (w1 := wC N1 z1) C.1 e1 (c_X11_fault l D N1 z z1 (xs (i + 1)) r h1) lw_21_17 lw_21_18 lw_21_19 lw_1_2 lw_21_20 rfl rfl (by decide +kernel) ⟨Nat.le_of_ble_eq_true rfl, Nat.le_of_ble_eq_true rfl⟩ rfl rfl rfl rfl rfl (Nat.le_of_ble_eq_true rfl) (Nat.le_trans hc (Nat.le_of_ble_eq_true rfl)) (Nat.le_trans hs (Nat.le_of_ble_eq_true rfl)) dL_law_269 ?_
  refine bw_rot1 ?_
  refine bw_aload_n C.1 2 dL_law_272 rfl ?_
  refine bw_arg (k := 1) C hL (by omega) (by decide) dL_law_273 dL_law_274 dL_law_276 dL_law_277 dL_law_278 ?_
  refine bw_frontVi (n := 1) (As := [.int (xs (i + 1))]) (rest := [.int r]) (q0 := 0) (ci := 11) (w1 := wR N2 w1) C.1 e2 (c_X12_fault l D N2 w w1 (xs (i + 1)) r h2) lw_21_23 lw_22_0 lw_22_1 lw_1_5 lw_22_2 rfl rfl (by decide +kernel) ⟨Nat.le_of_ble_eq_true rfl, Nat.le_of_ble_eq_true rfl⟩ rfl rfl rfl rfl rfl (Nat.le_of_ble_eq_true rfl) (Nat.le_trans hc (Nat.le_of_ble_eq_true rfl)) (Nat.le_trans hs (Nat.le_of_ble_eq_true rfl)) dL_law_279 ?_
  refine bw_rot2 ?_
  exact bw_icmp_eq (tgt := 1318) C.1 dL_law_282 (by decide) (fun _ => K N1 z1 w1 rfl rfl hI1) (fun q => absurd rfl q)
theorem L_land (C : LC p s m args c D A N b L xs) (hL : L ≤ 3072) (hi : i + 6 ≤ L) (e1 : N1.2.2 = N.2.2) (e2 : N2.2.2 = N.2.2) (a1 : N1.1 0 = ax) (a2 : N2.1 0 = am) (hI : Inv z w) (hc : nc ≤ 3600) (hs : ns ≤ 8000) (K : ∀ (N1' : Nm) (z' w' : St), N1'.2.2 = N1.2.2 → N1'.1 0 = N1.1 0 → Inv z' w' → Bw p l e room_1 s m args below meth c Q D A 7 nc ns (wC N1' z' ++ (wR N2 w' ++ oCell N qo fo)) 1318 (lvL b ax am qo i) []) : Bw p l e room_1 s m args below meth c Q D A 7 nc ns (wC N1 z ++ (wR N2 w ++ oCell N qo fo)) 287 (lvL b ax am qo i) [] := by
  subst a1 a2
  obtain ⟨r, z1, w1, h1, h2, hI1⟩ := q_land hI (xs (i + 1)) (xs (i + 2))
  refine bw_aload_n C.1 1 dL_law_287 rfl ?_
  refine bw_arg (k := 1) C hL (by omega) (by decide) dL_law_288 dL_law_289 dL_law_291 dL_law_292 dL_law_293 ?_
  refine bw_arg (k := 2) C hL (by omega) (by decide) dL_law_294 dL_law_295 dL_law_297 dL_law_298 dL_law_299 ?_
  refine bw_frontVi (n := 2) (As := [.int (xs (i + 1)), .int (xs (i + 2))]) (rest := []) (q0 := 0) (ci := 10) (w1 := wC N1 z1) C.1 e1 (c_X11_land l D N1 z z1 (xs (i + 1)) (xs (i + 2)) r h1) lw_22_3 lw_22_4 lw_22_5 lw_1_2 lw_22_6 rfl rfl (by decide +kernel) ⟨Nat.le_of_ble_eq_true rfl, Nat.le_of_ble_eq_true rfl⟩ rfl rfl rfl rfl rfl (Nat.le_of_ble_eq_true rfl) (Nat.le_trans hc (Nat.le_of_ble_eq_true rfl)) (Nat.le_trans hs (Nat.le_of_ble_eq_true rfl)) dL_law_300 ?_
  refine bw_rot1 ?_
  refine bw_aload_n C.1 2 dL_law_303 rfl ?_
  refine bw_arg (k := 1) C hL (by omega) (by decide) dL_law_304 dL_law_305 dL_law_307 dL_law_308 dL_law_309 ?_
  refine bw_arg (k := 2) C hL (by omega) (by decide) dL_law_310 dL_law_311 dL_law_313 dL_law_314 dL_law_315 ?_
  refine bw_frontVi (n := 2) (As := [.int (xs (i + 1)), .int (xs (i + 2))]) (rest := [.int r]) (q0 := 0) (ci := 11) (w1 := wR N2 w1) C.1 e2 (c_X12_land l D N2 w w1 (xs (i + 1)) (xs (i + 2)) r h2) lw_22_11 lw_22_12 lw_22_13 lw_1_5 lw_22_14 rfl rfl (by decide +kernel) ⟨Nat.le_of_ble_eq_true rfl, Nat.le_of_ble_eq_true rfl⟩ rfl rfl rfl rfl rfl (Nat.le_of_ble_eq_true rfl) (Nat.le_trans hc (Nat.le_of_ble_eq_true rfl)) (Nat.le_trans hs (Nat.le_of_ble_eq_true rfl)) dL_law_316 ?_
  refine bw_rot2 ?_
  exact bw_icmp_eq (tgt := 1318) C.1 dL_law_319 (by decide) (fun _ => K N1 z1 w1 rfl rfl hI1) (fun q => absurd rfl q)
theorem L_days (C : LC p s m args c D A N b L xs) (hL : L ≤ 3072) (hi : i + 6 ≤ L) (e1 : N1.2.2 = N.2.2) (e2 : N2.2.2 = N.2.2) (a1 : N1.1 0 = ax) (a2 : N2.1 0 = am) (hI : Inv z w) (hc : nc ≤ 3600) (hs : ns ≤ 8000) (K : ∀ (N1' : Nm) (z' w' : St), N1'.2.2 = N1.2.2 → N1'.1 0 = N1.1 0 → Inv z' w' → Bw p l e room_1 s m args below meth c Q D A 7 nc ns (wC N1' z' ++ (wR N2 w' ++ oCell N qo fo)) 1318 (lvL b ax am qo i) []) : Bw p l e room_1 s m args below meth c Q D A 7 nc ns (wC N1 z ++ (wR N2 w ++ oCell N qo fo)) 324 (lvL b ax am qo i) [] := by
  subst a1 a2
  obtain ⟨r, z1, w1, h1, h2, hI1⟩ := q_days hI (xs (i + 1))
  refine bw_aload_n C.1 1 dL_law_324 rfl ?_
  refine bw_arg (k := 1) C hL (by omega) (by decide) dL_law_325 dL_law_326 dL_law_328 dL_law_329 dL_law_330 ?_
  refine bw_frontVi (n := 1) (As := [.int (xs (i + 1))]) (rest := []) (q0 := 0) (ci := 10) (w1 := wC N1 z1) C.1 e1 (c_X11_days l D N1 z z1 (xs (i + 1)) r h1) lw_22_15 lw_22_16 lw_22_17 lw_1_2 lw_22_18 rfl rfl (by decide +kernel) ⟨Nat.le_of_ble_eq_true rfl, Nat.le_of_ble_eq_true rfl⟩ rfl rfl rfl rfl rfl (Nat.le_of_ble_eq_true rfl) (Nat.le_trans hc (Nat.le_of_ble_eq_true rfl)) (Nat.le_trans hs (Nat.le_of_ble_eq_true rfl)) dL_law_331 ?_
  refine bw_rot1 ?_
  refine bw_aload_n C.1 2 dL_law_334 rfl ?_
  refine bw_arg (k := 1) C hL (by omega) (by decide) dL_law_335 dL_law_336 dL_law_338 dL_law_339 dL_law_340 ?_
  refine bw_frontVi (n := 1) (As := [.int (xs (i + 1))]) (rest := [.int r]) (q0 := 0) (ci := 11) (w1 := wR N2 w1) C.1 e2 (c_X12_days l D N2 w w1 (xs (i + 1)) r h2) lw_22_19 lw_22_20 lw_22_21 lw_1_5 lw_22_22 rfl rfl (by decide +kernel) ⟨Nat.le_of_ble_eq_true rfl, Nat.le_of_ble_eq_true rfl⟩ rfl rfl rfl rfl rfl (Nat.le_of_ble_eq_true rfl) (Nat.le_trans hc (Nat.le_of_ble_eq_true rfl)) (Nat.le_trans hs (Nat.le_of_ble_eq_true rfl)) dL_law_341 ?_
  refine bw_rot2 ?_
  exact bw_icmp_eq (tgt := 1318) C.1 dL_law_344 (by decide) (fun _ => K N1 z1 w1 rfl rfl hI1) (fun q => absurd rfl q)
theorem L_village (C : LC p s m args c D A N b L xs) (hL : L ≤ 3072) (hi : i + 6 ≤ L) (e1 : N1.2.2 = N.2.2) (e2 : N2.2.2 = N.2.2) (a1 : N1.1 0 = ax) (a2 : N2.1 0 = am) (hI : Inv z w) (hc : nc ≤ 3600) (hs : ns ≤ 8000) (K : ∀ (N1' : Nm) (z' w' : St), N1'.2.2 = N1.2.2 → N1'.1 0 = N1.1 0 → Inv z' w' → Bw p l e room_1 s m args below meth c Q D A 7 nc ns (wC N1' z' ++ (wR N2 w' ++ oCell N qo fo)) 1318 (lvL b ax am qo i) []) : Bw p l e room_1 s m args below meth c Q D A 7 nc ns (wC N1 z ++ (wR N2 w ++ oCell N qo fo)) 349 (lvL b ax am qo i) [] := by
  subst a1 a2
  obtain ⟨r, z1, w1, h1, h2, hI1⟩ := q_village hI (xs (i + 1)) (xs (i + 2)) (xs (i + 3)) (bz (xs (i + 4))) (bz_01 _)
  refine bw_aload_n C.1 1 dL_law_349 rfl ?_
  refine bw_arg (k := 1) C hL (by omega) (by decide) dL_law_350 dL_law_351 dL_law_353 dL_law_354 dL_law_355 ?_
  refine bw_arg (k := 2) C hL (by omega) (by decide) dL_law_356 dL_law_357 dL_law_359 dL_law_360 dL_law_361 ?_
  refine bw_arg (k := 3) C hL (by omega) (by decide) dL_law_362 dL_law_363 dL_law_365 dL_law_366 dL_law_367 ?_
  refine bw_arg (k := 4) C hL (by omega) (by decide) dL_law_368 dL_law_369 dL_law_371 dL_law_372 dL_law_373 ?_
  refine bw_bool C (t7 := 381) (t8 := 382) rfl rfl dL_law_374 dL_law_377 dL_law_378 dL_law_381 ?_
  refine bw_frontVi (n := 4) (As := [.int (xs (i + 1)), .int (xs (i + 2)), .int (xs (i + 3)), .int (bz (xs (i + 4)))]) (rest := []) (q0 := 0) (ci := 10) (w1 := wC N1 z1) C.1 e1 (c_X11_village l D N1 z z1 (xs (i + 1)) (xs (i + 2)) (xs (i + 3)) (bz (xs (i + 4))) r h1) lw_23_0 lw_23_1 lw_23_2 lw_1_2 lw_23_3 rfl rfl (by decide +kernel) ⟨Nat.le_of_ble_eq_true rfl, Nat.le_of_ble_eq_true rfl⟩ rfl rfl rfl rfl rfl (Nat.le_of_ble_eq_true rfl) (Nat.le_trans hc (Nat.le_of_ble_eq_true rfl)) (Nat.le_trans hs (Nat.le_of_ble_eq_true rfl)) dL_law_382 ?_
  refine bw_rot1 ?_
  refine bw_aload_n C.1 2 dL_law_385 rfl ?_
  refine bw_arg (k := 1) C hL (by omega) (by decide) dL_law_386 dL_law_387 dL_law_389 dL_law_390 dL_law_391 ?_
  refine bw_arg (k := 2) C hL (by omega) (by decide) dL_law_392 dL_law_393 dL_law_395 dL_law_396 dL_law_397 ?_
  refine bw_arg (k := 3) C hL (by omega) (by decide) dL_law_398 dL_law_399 dL_law_401 dL_law_402 dL_law_403 ?_
  refine bw_arg (k := 4) C hL (by omega) (by decide) dL_law_404 dL_law_405 dL_law_407 dL_law_408 dL_law_409 ?_
  refine bw_bool C (t7 := 417) (t8 := 418) rfl rfl dL_law_410 dL_law_413 dL_law_414 dL_law_417 ?_
  refine bw_frontVi (n := 4) (As := [.int (xs (i + 1)), .int (xs (i + 2)), .int (xs (i + 3)), .int (bz (xs (i + 4)))]) (rest := [.int r]) (q0 := 0) (ci := 11) (w1 := wR N2 w1) C.1 e2 (c_X12_village l D N2 w w1 (xs (i + 1)) (xs (i + 2)) (xs (i + 3)) (bz (xs (i + 4))) r h2) lw_23_15 lw_23_16 lw_23_17 lw_1_5 lw_23_18 rfl rfl (by decide +kernel) ⟨Nat.le_of_ble_eq_true rfl, Nat.le_of_ble_eq_true rfl⟩ rfl rfl rfl rfl rfl (Nat.le_of_ble_eq_true rfl) (Nat.le_trans hc (Nat.le_of_ble_eq_true rfl)) (Nat.le_trans hs (Nat.le_of_ble_eq_true rfl)) dL_law_418 ?_
  refine bw_rot2 ?_
  exact bw_icmp_eq (tgt := 1318) C.1 dL_law_421 (by decide) (fun _ => K N1 z1 w1 rfl rfl hI1) (fun q => absurd rfl q)
theorem L_errs (C : LC p s m args c D A N b L xs) (hL : L ≤ 3072) (hi : i + 6 ≤ L) (e1 : N1.2.2 = N.2.2) (e2 : N2.2.2 = N.2.2) (a1 : N1.1 0 = ax) (a2 : N2.1 0 = am) (hI : Inv z w) (hc : nc ≤ 3600) (hs : ns ≤ 8000) (K : ∀ (N1' : Nm) (z' w' : St), N1'.2.2 = N1.2.2 → N1'.1 0 = N1.1 0 → Inv z' w' → Bw p l e room_1 s m args below meth c Q D A 7 nc ns (wC N1' z' ++ (wR N2 w' ++ oCell N qo fo)) 1318 (lvL b ax am qo i) []) : Bw p l e room_1 s m args below meth c Q D A 7 nc ns (wC N1 z ++ (wR N2 w ++ oCell N qo fo)) 426 (lvL b ax am qo i) [] := by
  subst a1 a2
  obtain ⟨r, z1, w1, h1, h2, hI1⟩ := q_errs hI (xs (i + 1)) (xs (i + 2))
  refine bw_aload_n C.1 1 dL_law_426 rfl ?_
  refine bw_arg (k := 1) C hL (by omega) (by decide) dL_law_427 dL_law_428 dL_law_430 dL_law_431 dL_law_432 ?_
  refine bw_arg (k := 2) C hL (by omega) (by decide) dL_law_433 dL_law_434 dL_law_436 dL_law_437 dL_law_438 ?_
  refine bw_frontVi (n := 2) (As := [.int (xs (i + 1)), .int (xs (i + 2))]) (rest := []) (q0 := 0) (ci := 10) (w1 := wC N1 z1) C.1 e1 (c_X11_errs l D N1 z z1 (xs (i + 1)) (xs (i + 2)) r h1) lw_24_3 lw_24_4 lw_24_5 lw_1_2 lw_24_6 rfl rfl (by decide +kernel) ⟨Nat.le_of_ble_eq_true rfl, Nat.le_of_ble_eq_true rfl⟩ rfl rfl rfl rfl rfl (Nat.le_of_ble_eq_true rfl) (Nat.le_trans hc (Nat.le_of_ble_eq_true rfl)) (Nat.le_trans hs (Nat.le_of_ble_eq_true rfl)) dL_law_439 ?_
  refine bw_rot1 ?_
  refine bw_aload_n C.1 2 dL_law_442 rfl ?_
  refine bw_arg (k := 1) C hL (by omega) (by decide) dL_law_443 dL_law_444 dL_law_446 dL_law_447 dL_law_448 ?_
  refine bw_arg (k := 2) C hL (by omega) (by decide) dL_law_449 dL_law_450 dL_law_452 dL_law_453 dL_law_454 ?_
  refine bw_frontVi (n := 2) (As := [.int (xs (i + 1)), .int (xs (i + 2))]) (rest := [.int r]) (q0 := 0) (ci := 11) (w1 := wR N2 w1) C.1 e2 (c_X12_errs l D N2 w w1 (xs (i + 1)) (xs (i + 2)) r h2) lw_24_11 lw_24_12 lw_24_13 lw_1_5 lw_24_14 rfl rfl (by decide +kernel) ⟨Nat.le_of_ble_eq_true rfl, Nat.le_of_ble_eq_true rfl⟩ rfl rfl rfl rfl rfl (Nat.le_of_ble_eq_true rfl) (Nat.le_trans hc (Nat.le_of_ble_eq_true rfl)) (Nat.le_trans hs (Nat.le_of_ble_eq_true rfl)) dL_law_455 ?_
  refine bw_rot2 ?_
  exact bw_icmp_eq (tgt := 1318) C.1 dL_law_458 (by decide) (fun _ => K N1 z1 w1 rfl rfl hI1) (fun q => absurd rfl q)
theorem L_count (C : LC p s m args c D A N b L xs) (hL : L ≤ 3072) (hi : i + 6 ≤ L) (e1 : N1.2.2 = N.2.2) (e2 : N2.2.2 = N.2.2) (a1 : N1.1 0 = ax) (a2 : N2.1 0 = am) (hI : Inv z w) (hc : nc ≤ 3600) (hs : ns ≤ 8000) (K : ∀ (N1' : Nm) (z' w' : St), N1'.2.2 = N1.2.2 → N1'.1 0 = N1.1 0 → Inv z' w' → Bw p l e room_1 s m args below meth c Q D A 7 nc ns (wC N1' z' ++ (wR N2 w' ++ oCell N qo fo)) 1318 (lvL b ax am qo i) []) : Bw p l e room_1 s m args below meth c Q D A 7 nc ns (wC N1 z ++ (wR N2 w ++ oCell N qo fo)) 463 (lvL b ax am qo i) [] := by
  subst a1 a2
  obtain ⟨r, z1, w1, h1, h2, hI1⟩ := q_count hI (xs (i + 1)) (xs (i + 2)) (xs (i + 3)) (xs (i + 4))
  refine bw_aload_n C.1 1 dL_law_463 rfl ?_
  refine bw_arg (k := 1) C hL (by omega) (by decide) dL_law_464 dL_law_465 dL_law_467 dL_law_468 dL_law_469 ?_
  refine bw_arg (k := 2) C hL (by omega) (by decide) dL_law_470 dL_law_471 dL_law_473 dL_law_474 dL_law_475 ?_
  refine bw_arg (k := 3) C hL (by omega) (by decide) dL_law_476 dL_law_477 dL_law_479 dL_law_480 dL_law_481 ?_
  refine bw_arg (k := 4) C hL (by omega) (by decide) dL_law_482 dL_law_483 dL_law_485 dL_law_486 dL_law_487 ?_
  refine bw_frontVi (n := 4) (As := [.int (xs (i + 1)), .int (xs (i + 2)), .int (xs (i + 3)), .int (xs (i + 4))]) (rest := []) (q0 := 0) (ci := 10) (w1 := wC N1 z1) C.1 e1 (c_X11_count l D N1 z z1 (xs (i + 1)) (xs (i + 2)) (xs (i + 3)) (xs (i + 4)) r h1) lw_24_15 lw_24_16 lw_24_17 lw_1_2 lw_24_18 rfl rfl (by decide +kernel) ⟨Nat.le_of_ble_eq_true rfl, Nat.le_of_ble_eq_true rfl⟩ rfl rfl rfl rfl rfl (Nat.le_of_ble_eq_true rfl) (Nat.le_trans hc (Nat.le_of_ble_eq_true rfl)) (Nat.le_trans hs (Nat.le_of_ble_eq_true rfl)) dL_law_488 ?_
  refine bw_rot1 ?_
  refine bw_aload_n C.1 2 dL_law_491 rfl ?_
  refine bw_arg (k := 1) C hL (by omega) (by decide) dL_law_492 dL_law_493 dL_law_495 dL_law_496 dL_law_497 ?_
  refine bw_arg (k := 2) C hL (by omega) (by decide) dL_law_498 dL_law_499 dL_law_501 dL_law_502 dL_law_503 ?_
  refine bw_arg (k := 3) C hL (by omega) (by decide) dL_law_504 dL_law_505 dL_law_507 dL_law_508 dL_law_509 ?_
  refine bw_arg (k := 4) C hL (by omega) (by decide) dL_law_510 dL_law_511 dL_law_513 dL_law_514 dL_law_515 ?_
  refine bw_frontVi (n := 4) (As := [.int (xs (i + 1)), .int (xs (i + 2)), .int (xs (i + 3)), .int (xs (i + 4))]) (rest := [.int r]) (q0 := 0) (ci := 11) (w1 := wR N2 w1) C.1 e2 (c_X12_count l D N2 w w1 (xs (i + 1)) (xs (i + 2)) (xs (i + 3)) (xs (i + 4)) r h2) lw_25_3 lw_25_4 lw_25_5 lw_1_5 lw_25_6 rfl rfl (by decide +kernel) ⟨Nat.le_of_ble_eq_true rfl, Nat.le_of_ble_eq_true rfl⟩ rfl rfl rfl rfl rfl (Nat.le_of_ble_eq_true rfl) (Nat.le_trans hc (Nat.le_of_ble_eq_true rfl)) (Nat.le_trans hs (Nat.le_of_ble_eq_true rfl)) dL_law_516 ?_
  refine bw_rot2 ?_
  exact bw_icmp_eq (tgt := 1318) C.1 dL_law_519 (by decide) (fun _ => K N1 z1 w1 rfl rfl hI1) (fun q => absurd rfl q)
theorem L_note (C : LC p s m args c D A N b L xs) (hL : L ≤ 3072) (hi : i + 6 ≤ L) (e1 : N1.2.2 = N.2.2) (e2 : N2.2.2 = N.2.2) (a1 : N1.1 0 = ax) (a2 : N2.1 0 = am) (hI : Inv z w) (hc : nc ≤ 3600) (hs : ns ≤ 8000) (K : ∀ (N1' : Nm) (z' w' : St), N1'.2.2 = N1.2.2 → N1'.1 0 = N1.1 0 → Inv z' w' → Bw p l e room_1 s m args below meth c Q D A 7 nc ns (wC N1' z' ++ (wR N2 w' ++ oCell N qo fo)) 1318 (lvL b ax am qo i) []) : Bw p l e room_1 s m args below meth c Q D A 7 nc ns (wC N1 z ++ (wR N2 w ++ oCell N qo fo)) 524 (lvL b ax am qo i) [] := by
  subst a1 a2
  obtain ⟨r, z1, w1, h1, h2, hI1⟩ := q_note hI (xs (i + 1)) (xs (i + 2)) (xs (i + 3)) (xs (i + 4))
  refine bw_aload_n C.1 1 dL_law_524 rfl ?_
  refine bw_arg (k := 1) C hL (by omega) (by decide) dL_law_525 dL_law_526 dL_law_528 dL_law_529 dL_law_530 ?_
  refine bw_arg (k := 2) C hL (by omega) (by decide) dL_law_531 dL_law_532 dL_law_534 dL_law_535 dL_law_536 ?_
  refine bw_arg (k := 3) C hL (by omega) (by decide) dL_law_537 dL_law_538 dL_law_540 dL_law_541 dL_law_542 ?_
  refine bw_arg (k := 4) C hL (by omega) (by decide) dL_law_543 dL_law_544 dL_law_546 dL_law_547 dL_law_548 ?_
  refine bw_frontVi (n := 4) (As := [.int (xs (i + 1)), .int (xs (i + 2)), .int (xs (i + 3)), .int (xs (i + 4))]) (rest := []) (q0 := 0) (ci := 10) (w1 := wC N1 z1) C.1 e1 (c_X11_note l D N1 z z1 (xs (i + 1)) (xs (i + 2)) (xs (i + 3)) (xs (i + 4)) r h1) lw_25_11 lw_25_12 lw_25_13 lw_1_2 lw_25_14 rfl rfl (by decide +kernel) ⟨Nat.le_of_ble_eq_true rfl, Nat.le_of_ble_eq_true rfl⟩ rfl rfl rfl rfl rfl (Nat.le_of_ble_eq_true rfl) (Nat.le_trans hc (Nat.le_of_ble_eq_true rfl)) (Nat.le_trans hs (Nat.le_of_ble_eq_true rfl)) dL_law_549 ?_
  refine bw_rot1 ?_
  refine bw_aload_n C.1 2 dL_law_552 rfl ?_
  refine bw_arg (k := 1) C hL (by omega) (by decide) dL_law_553 dL_law_554 dL_law_556 dL_law_557 dL_law_558 ?_
  refine bw_arg (k := 2) C hL (by omega) (by decide) dL_law_559 dL_law_560 dL_law_562 dL_law_563 dL_law_564 ?_
  refine bw_arg (k := 3) C hL (by omega) (by decide) dL_law_565 dL_law_566 dL_law_568 dL_law_569 dL_law_570 ?_
  refine bw_arg (k := 4) C hL (by omega) (by decide) dL_law_571 dL_law_572 dL_law_574 dL_law_575 dL_law_576 ?_
  refine bw_frontVi (n := 4) (As := [.int (xs (i + 1)), .int (xs (i + 2)), .int (xs (i + 3)), .int (xs (i + 4))]) (rest := [.int r]) (q0 := 0) (ci := 11) (w1 := wR N2 w1) C.1 e2 (c_X12_note l D N2 w w1 (xs (i + 1)) (xs (i + 2)) (xs (i + 3)) (xs (i + 4)) r h2) lw_26_0 lw_26_1 lw_26_2 lw_1_5 lw_26_3 rfl rfl (by decide +kernel) ⟨Nat.le_of_ble_eq_true rfl, Nat.le_of_ble_eq_true rfl⟩ rfl rfl rfl rfl rfl (Nat.le_of_ble_eq_true rfl) (Nat.le_trans hc (Nat.le_of_ble_eq_true rfl)) (Nat.le_trans hs (Nat.le_of_ble_eq_true rfl)) dL_law_577 ?_
  refine bw_rot2 ?_
  exact bw_icmp_eq (tgt := 1318) C.1 dL_law_580 (by decide) (fun _ => K N1 z1 w1 rfl rfl hI1) (fun q => absurd rfl q)
theorem L_strike (C : LC p s m args c D A N b L xs) (hL : L ≤ 3072) (hi : i + 6 ≤ L) (e1 : N1.2.2 = N.2.2) (e2 : N2.2.2 = N.2.2) (a1 : N1.1 0 = ax) (a2 : N2.1 0 = am) (hI : Inv z w) (hc : nc ≤ 3600) (hs : ns ≤ 8000) (K : ∀ (N1' : Nm) (z' w' : St), N1'.2.2 = N1.2.2 → N1'.1 0 = N1.1 0 → Inv z' w' → Bw p l e room_1 s m args below meth c Q D A 7 nc ns (wC N1' z' ++ (wR N2 w' ++ oCell N qo fo)) 1318 (lvL b ax am qo i) []) : Bw p l e room_1 s m args below meth c Q D A 7 nc ns (wC N1 z ++ (wR N2 w ++ oCell N qo fo)) 585 (lvL b ax am qo i) [] := by
  subst a1 a2
  obtain ⟨r, z1, w1, h1, h2, hI1⟩ := q_strike hI (xs (i + 1))
  refine bw_aload_n C.1 1 dL_law_585 rfl ?_
  refine bw_arg (k := 1) C hL (by omega) (by decide) dL_law_586 dL_law_587 dL_law_589 dL_law_590 dL_law_591 ?_
  refine bw_frontVi (n := 1) (As := [.int (xs (i + 1))]) (rest := []) (q0 := 0) (ci := 10) (w1 := wC N1 z1) C.1 e1 (c_X11_strike l D N1 z z1 (xs (i + 1)) r h1) lw_26_11 lw_26_12 lw_26_13 lw_1_2 lw_26_14 rfl rfl (by decide +kernel) ⟨Nat.le_of_ble_eq_true rfl, Nat.le_of_ble_eq_true rfl⟩ rfl rfl rfl rfl rfl (Nat.le_of_ble_eq_true rfl) (Nat.le_trans hc (Nat.le_of_ble_eq_true rfl)) (Nat.le_trans hs (Nat.le_of_ble_eq_true rfl)) dL_law_592 ?_
  refine bw_rot1 ?_
  refine bw_aload_n C.1 2 dL_law_595 rfl ?_
  refine bw_arg (k := 1) C hL (by omega) (by decide) dL_law_596 dL_law_597 dL_law_599 dL_law_600 dL_law_601 ?_
  refine bw_frontVi (n := 1) (As := [.int (xs (i + 1))]) (rest := [.int r]) (q0 := 0) (ci := 11) (w1 := wR N2 w1) C.1 e2 (c_X12_strike l D N2 w w1 (xs (i + 1)) r h2) lw_26_19 lw_26_20 lw_26_21 lw_1_5 lw_26_22 rfl rfl (by decide +kernel) ⟨Nat.le_of_ble_eq_true rfl, Nat.le_of_ble_eq_true rfl⟩ rfl rfl rfl rfl rfl (Nat.le_of_ble_eq_true rfl) (Nat.le_trans hc (Nat.le_of_ble_eq_true rfl)) (Nat.le_trans hs (Nat.le_of_ble_eq_true rfl)) dL_law_602 ?_
  refine bw_rot2 ?_
  exact bw_icmp_eq (tgt := 1318) C.1 dL_law_605 (by decide) (fun _ => K N1 z1 w1 rfl rfl hI1) (fun q => absurd rfl q)
theorem L_span (C : LC p s m args c D A N b L xs) (hL : L ≤ 3072) (hi : i + 6 ≤ L) (e1 : N1.2.2 = N.2.2) (e2 : N2.2.2 = N.2.2) (a1 : N1.1 0 = ax) (a2 : N2.1 0 = am) (hI : Inv z w) (hc : nc ≤ 3600) (hs : ns ≤ 8000) (K : ∀ (N1' : Nm) (z' w' : St), N1'.2.2 = N1.2.2 → N1'.1 0 = N1.1 0 → Inv z' w' → Bw p l e room_1 s m args below meth c Q D A 7 nc ns (wC N1' z' ++ (wR N2 w' ++ oCell N qo fo)) 1318 (lvL b ax am qo i) []) : Bw p l e room_1 s m args below meth c Q D A 7 nc ns (wC N1 z ++ (wR N2 w ++ oCell N qo fo)) 610 (lvL b ax am qo i) [] := by
  subst a1 a2
  obtain ⟨r, z1, w1, h1, h2, hI1⟩ := q_span hI (xs (i + 1)) (xs (i + 2)) (xs (i + 3)) (xs (i + 4))
  refine bw_aload_n C.1 1 dL_law_610 rfl ?_
  refine bw_arg (k := 1) C hL (by omega) (by decide) dL_law_611 dL_law_612 dL_law_614 dL_law_615 dL_law_616 ?_
  refine bw_arg (k := 2) C hL (by omega) (by decide) dL_law_617 dL_law_618 dL_law_620 dL_law_621 dL_law_622 ?_
  refine bw_arg (k := 3) C hL (by omega) (by decide) dL_law_623 dL_law_624 dL_law_626 dL_law_627 dL_law_628 ?_
  refine bw_arg (k := 4) C hL (by omega) (by decide) dL_law_629 dL_law_630 dL_law_632 dL_law_633 dL_law_634 ?_
  refine bw_frontVi (n := 4) (As := [.int (xs (i + 1)), .int (xs (i + 2)), .int (xs (i + 3)), .int (xs (i + 4))]) (rest := []) (q0 := 0) (ci := 10) (w1 := wC N1 z1) C.1 e1 (c_X11_span l D N1 z z1 (xs (i + 1)) (xs (i + 2)) (xs (i + 3)) (xs (i + 4)) r h1) lw_26_23 lw_27_0 lw_27_1 lw_1_2 lw_27_2 rfl rfl (by decide +kernel) ⟨Nat.le_of_ble_eq_true rfl, Nat.le_of_ble_eq_true rfl⟩ rfl rfl rfl rfl rfl (Nat.le_of_ble_eq_true rfl) (Nat.le_trans hc (Nat.le_of_ble_eq_true rfl)) (Nat.le_trans hs (Nat.le_of_ble_eq_true rfl)) dL_law_635 ?_
  refine bw_rot1 ?_
  refine bw_aload_n C.1 2 dL_law_638 rfl ?_
  refine bw_arg (k := 1) C hL (by omega) (by decide) dL_law_639 dL_law_640 dL_law_642 dL_law_643 dL_law_644 ?_
  refine bw_arg (k := 2) C hL (by omega) (by decide) dL_law_645 dL_law_646 dL_law_648 dL_law_649 dL_law_650 ?_
  refine bw_arg (k := 3) C hL (by omega) (by decide) dL_law_651 dL_law_652 dL_law_654 dL_law_655 dL_law_656 ?_
  refine bw_arg (k := 4) C hL (by omega) (by decide) dL_law_657 dL_law_658 dL_law_660 dL_law_661 dL_law_662 ?_
  refine bw_frontVi (n := 4) (As := [.int (xs (i + 1)), .int (xs (i + 2)), .int (xs (i + 3)), .int (xs (i + 4))]) (rest := [.int r]) (q0 := 0) (ci := 11) (w1 := wR N2 w1) C.1 e2 (c_X12_span l D N2 w w1 (xs (i + 1)) (xs (i + 2)) (xs (i + 3)) (xs (i + 4)) r h2) lw_28_22 lw_28_23 lw_29_0 lw_1_5 lw_29_1 rfl rfl (by decide +kernel) ⟨Nat.le_of_ble_eq_true rfl, Nat.le_of_ble_eq_true rfl⟩ rfl rfl rfl rfl rfl (Nat.le_of_ble_eq_true rfl) (Nat.le_trans hc (Nat.le_of_ble_eq_true rfl)) (Nat.le_trans hs (Nat.le_of_ble_eq_true rfl)) dL_law_663 ?_
  refine bw_rot2 ?_
  exact bw_icmp_eq (tgt := 1318) C.1 dL_law_666 (by decide) (fun _ => K N1 z1 w1 rfl rfl hI1) (fun q => absurd rfl q)
theorem L_canal (C : LC p s m args c D A N b L xs) (hL : L ≤ 3072) (hi : i + 6 ≤ L) (e1 : N1.2.2 = N.2.2) (e2 : N2.2.2 = N.2.2) (a1 : N1.1 0 = ax) (a2 : N2.1 0 = am) (hI : Inv z w) (hc : nc ≤ 3600) (hs : ns ≤ 8000) (K : ∀ (N1' : Nm) (z' w' : St), N1'.2.2 = N1.2.2 → N1'.1 0 = N1.1 0 → Inv z' w' → Bw p l e room_1 s m args below meth c Q D A 7 nc ns (wC N1' z' ++ (wR N2 w' ++ oCell N qo fo)) 1318 (lvL b ax am qo i) []) : Bw p l e room_1 s m args below meth c Q D A 7 nc ns (wC N1 z ++ (wR N2 w ++ oCell N qo fo)) 671 (lvL b ax am qo i) [] := by
  subst a1 a2
  obtain ⟨r, z1, w1, h1, h2, hI1⟩ := q_canal hI (xs (i + 1))
  refine bw_aload_n C.1 1 dL_law_671 rfl ?_
  refine bw_arg (k := 1) C hL (by omega) (by decide) dL_law_672 dL_law_673 dL_law_675 dL_law_676 dL_law_677 ?_
  refine bw_frontVi (n := 1) (As := [.int (xs (i + 1))]) (rest := []) (q0 := 0) (ci := 10) (w1 := wC N1 z1) C.1 e1 (c_X11_canal l D N1 z z1 (xs (i + 1)) r h1) lw_29_17 lw_29_18 lw_29_19 lw_1_2 lw_29_20 rfl rfl (by decide +kernel) ⟨Nat.le_of_ble_eq_true rfl, Nat.le_of_ble_eq_true rfl⟩ rfl rfl rfl rfl rfl (Nat.le_of_ble_eq_true rfl) (Nat.le_trans hc (Nat.le_of_ble_eq_true rfl)) (Nat.le_trans hs (Nat.le_of_ble_eq_true rfl)) dL_law_678 ?_
  refine bw_rot1 ?_
  refine bw_aload_n C.1 2 dL_law_681 rfl ?_
  refine bw_arg (k := 1) C hL (by omega) (by decide) dL_law_682 dL_law_683 dL_law_685 dL_law_686 dL_law_687 ?_
  refine bw_frontVi (n := 1) (As := [.int (xs (i + 1))]) (rest := [.int r]) (q0 := 0) (ci := 11) (w1 := wR N2 w1) C.1 e2 (c_X12_canal l D N2 w w1 (xs (i + 1)) r h2) lw_30_1 lw_30_2 lw_30_3 lw_1_5 lw_30_4 rfl rfl (by decide +kernel) ⟨Nat.le_of_ble_eq_true rfl, Nat.le_of_ble_eq_true rfl⟩ rfl rfl rfl rfl rfl (Nat.le_of_ble_eq_true rfl) (Nat.le_trans hc (Nat.le_of_ble_eq_true rfl)) (Nat.le_trans hs (Nat.le_of_ble_eq_true rfl)) dL_law_688 ?_
  refine bw_rot2 ?_
  exact bw_icmp_eq (tgt := 1318) C.1 dL_law_691 (by decide) (fun _ => K N1 z1 w1 rfl rfl hI1) (fun q => absurd rfl q)
theorem L_drinks (C : LC p s m args c D A N b L xs) (hL : L ≤ 3072) (hi : i + 6 ≤ L) (e1 : N1.2.2 = N.2.2) (e2 : N2.2.2 = N.2.2) (a1 : N1.1 0 = ax) (a2 : N2.1 0 = am) (hI : Inv z w) (hc : nc ≤ 3600) (hs : ns ≤ 8000) (K : ∀ (N1' : Nm) (z' w' : St), N1'.2.2 = N1.2.2 → N1'.1 0 = N1.1 0 → Inv z' w' → Bw p l e room_1 s m args below meth c Q D A 7 nc ns (wC N1' z' ++ (wR N2 w' ++ oCell N qo fo)) 1318 (lvL b ax am qo i) []) : Bw p l e room_1 s m args below meth c Q D A 7 nc ns (wC N1 z ++ (wR N2 w ++ oCell N qo fo)) 696 (lvL b ax am qo i) [] := by
  subst a1 a2
  obtain ⟨r, z1, w1, h1, h2, hI1⟩ := q_drinks hI (xs (i + 1)) (xs (i + 2))
  refine bw_aload_n C.1 1 dL_law_696 rfl ?_
  refine bw_arg (k := 1) C hL (by omega) (by decide) dL_law_697 dL_law_698 dL_law_700 dL_law_701 dL_law_702 ?_
  refine bw_arg (k := 2) C hL (by omega) (by decide) dL_law_703 dL_law_704 dL_law_706 dL_law_707 dL_law_708 ?_
  refine bw_frontVi (n := 2) (As := [.int (xs (i + 1)), .int (xs (i + 2))]) (rest := []) (q0 := 0) (ci := 10) (w1 := wC N1 z1) C.1 e1 (c_X11_drinks l D N1 z z1 (xs (i + 1)) (xs (i + 2)) r h1) lw_30_5 lw_30_6 lw_30_7 lw_1_2 lw_30_8 rfl rfl (by decide +kernel) ⟨Nat.le_of_ble_eq_true rfl, Nat.le_of_ble_eq_true rfl⟩ rfl rfl rfl rfl rfl (Nat.le_of_ble_eq_true rfl) (Nat.le_trans hc (Nat.le_of_ble_eq_true rfl)) (Nat.le_trans hs (Nat.le_of_ble_eq_true rfl)) dL_law_709 ?_
  refine bw_rot1 ?_
  refine bw_aload_n C.1 2 dL_law_712 rfl ?_
  refine bw_arg (k := 1) C hL (by omega) (by decide) dL_law_713 dL_law_714 dL_law_716 dL_law_717 dL_law_718 ?_
  refine bw_arg (k := 2) C hL (by omega) (by decide) dL_law_719 dL_law_720 dL_law_722 dL_law_723 dL_law_724 ?_
  refine bw_frontVi (n := 2) (As := [.int (xs (i + 1)), .int (xs (i + 2))]) (rest := [.int r]) (q0 := 0) (ci := 11) (w1 := wR N2 w1) C.1 e2 (c_X12_drinks l D N2 w w1 (xs (i + 1)) (xs (i + 2)) r h2) lw_30_21 lw_30_22 lw_30_23 lw_1_5 lw_31_0 rfl rfl (by decide +kernel) ⟨Nat.le_of_ble_eq_true rfl, Nat.le_of_ble_eq_true rfl⟩ rfl rfl rfl rfl rfl (Nat.le_of_ble_eq_true rfl) (Nat.le_trans hc (Nat.le_of_ble_eq_true rfl)) (Nat.le_trans hs (Nat.le_of_ble_eq_true rfl)) dL_law_725 ?_
  refine bw_rot2 ?_
  exact bw_icmp_eq (tgt := 1318) C.1 dL_law_728 (by decide) (fun _ => K N1 z1 w1 rfl rfl hI1) (fun q => absurd rfl q)
theorem L_given (C : LC p s m args c D A N b L xs) (hL : L ≤ 3072) (hi : i + 6 ≤ L) (e1 : N1.2.2 = N.2.2) (e2 : N2.2.2 = N.2.2) (a1 : N1.1 0 = ax) (a2 : N2.1 0 = am) (hI : Inv z w) (hc : nc ≤ 3600) (hs : ns ≤ 8000) (K : ∀ (N1' : Nm) (z' w' : St), N1'.2.2 = N1.2.2 → N1'.1 0 = N1.1 0 → Inv z' w' → Bw p l e room_1 s m args below meth c Q D A 7 nc ns (wC N1' z' ++ (wR N2 w' ++ oCell N qo fo)) 1318 (lvL b ax am qo i) []) : Bw p l e room_1 s m args below meth c Q D A 7 nc ns (wC N1 z ++ (wR N2 w ++ oCell N qo fo)) 733 (lvL b ax am qo i) [] := by
  subst a1 a2
  obtain ⟨r, z1, w1, h1, h2, hI1⟩ := q_given hI (xs (i + 1))
  refine bw_aload_n C.1 1 dL_law_733 rfl ?_
  refine bw_arg (k := 1) C hL (by omega) (by decide) dL_law_734 dL_law_735 dL_law_737 dL_law_738 dL_law_739 ?_
  refine bw_frontVi (n := 1) (As := [.int (xs (i + 1))]) (rest := []) (q0 := 0) (ci := 10) (w1 := wC N1 z1) C.1 e1 (c_X11_given l D N1 z z1 (xs (i + 1)) r h1) lw_31_1 lw_31_2 lw_31_3 lw_1_2 lw_31_4 rfl rfl (by decide +kernel) ⟨Nat.le_of_ble_eq_true rfl, Nat.le_of_ble_eq_true rfl⟩ rfl rfl rfl rfl rfl (Nat.le_of_ble_eq_true rfl) (Nat.le_trans hc (Nat.le_of_ble_eq_true rfl)) (Nat.le_trans hs (Nat.le_of_ble_eq_true rfl)) dL_law_740 ?_
  refine bw_rot1 ?_
  refine bw_aload_n C.1 2 dL_law_743 rfl ?_
  refine bw_arg (k := 1) C hL (by omega) (by decide) dL_law_744 dL_law_745 dL_law_747 dL_law_748 dL_law_749 ?_
  refine bw_frontVi (n := 1) (As := [.int (xs (i + 1))]) (rest := [.int r]) (q0 := 0) (ci := 11) (w1 := wR N2 w1) C.1 e2 (c_X12_given l D N2 w w1 (xs (i + 1)) r h2) lw_33_13 lw_33_14 lw_33_15 lw_1_5 lw_33_16 rfl rfl (by decide +kernel) ⟨Nat.le_of_ble_eq_true rfl, Nat.le_of_ble_eq_true rfl⟩ rfl rfl rfl rfl rfl (Nat.le_of_ble_eq_true rfl) (Nat.le_trans hc (Nat.le_of_ble_eq_true rfl)) (Nat.le_trans hs (Nat.le_of_ble_eq_true rfl)) dL_law_750 ?_
  refine bw_rot2 ?_
  exact bw_icmp_eq (tgt := 1318) C.1 dL_law_753 (by decide) (fun _ => K N1 z1 w1 rfl rfl hI1) (fun q => absurd rfl q)
theorem L_turned (C : LC p s m args c D A N b L xs) (hL : L ≤ 3072) (hi : i + 6 ≤ L) (e1 : N1.2.2 = N.2.2) (e2 : N2.2.2 = N.2.2) (a1 : N1.1 0 = ax) (a2 : N2.1 0 = am) (hI : Inv z w) (hc : nc ≤ 3600) (hs : ns ≤ 8000) (K : ∀ (N1' : Nm) (z' w' : St), N1'.2.2 = N1.2.2 → N1'.1 0 = N1.1 0 → Inv z' w' → Bw p l e room_1 s m args below meth c Q D A 7 nc ns (wC N1' z' ++ (wR N2 w' ++ oCell N qo fo)) 1318 (lvL b ax am qo i) []) : Bw p l e room_1 s m args below meth c Q D A 7 nc ns (wC N1 z ++ (wR N2 w ++ oCell N qo fo)) 758 (lvL b ax am qo i) [] := by
  subst a1 a2
  obtain ⟨r, z1, w1, h1, h2, hI1⟩ := q_turned hI (xs (i + 1)) (xs (i + 2))
  refine bw_aload_n C.1 1 dL_law_758 rfl ?_
  refine bw_arg (k := 1) C hL (by omega) (by decide) dL_law_759 dL_law_760 dL_law_762 dL_law_763 dL_law_764 ?_
  refine bw_arg (k := 2) C hL (by omega) (by decide) dL_law_765 dL_law_766 dL_law_768 dL_law_769 dL_law_770 ?_
  refine bw_frontVi (n := 2) (As := [.int (xs (i + 1)), .int (xs (i + 2))]) (rest := []) (q0 := 0) (ci := 10) (w1 := wC N1 z1) C.1 e1 (c_X11_turned l D N1 z z1 (xs (i + 1)) (xs (i + 2)) r h1) lw_35_5 lw_35_6 lw_35_7 lw_1_2 lw_35_8 rfl rfl (by decide +kernel) ⟨Nat.le_of_ble_eq_true rfl, Nat.le_of_ble_eq_true rfl⟩ rfl rfl rfl rfl rfl (Nat.le_of_ble_eq_true rfl) (Nat.le_trans hc (Nat.le_of_ble_eq_true rfl)) (Nat.le_trans hs (Nat.le_of_ble_eq_true rfl)) dL_law_771 ?_
  refine bw_rot1 ?_
  refine bw_aload_n C.1 2 dL_law_774 rfl ?_
  refine bw_arg (k := 1) C hL (by omega) (by decide) dL_law_775 dL_law_776 dL_law_778 dL_law_779 dL_law_780 ?_
  refine bw_arg (k := 2) C hL (by omega) (by decide) dL_law_781 dL_law_782 dL_law_784 dL_law_785 dL_law_786 ?_
  refine bw_frontVi (n := 2) (As := [.int (xs (i + 1)), .int (xs (i + 2))]) (rest := [.int r]) (q0 := 0) (ci := 11) (w1 := wR N2 w1) C.1 e2 (c_X12_turned l D N2 w w1 (xs (i + 1)) (xs (i + 2)) r h2) lw_35_10 lw_35_11 lw_35_12 lw_1_5 lw_35_13 rfl rfl (by decide +kernel) ⟨Nat.le_of_ble_eq_true rfl, Nat.le_of_ble_eq_true rfl⟩ rfl rfl rfl rfl rfl (Nat.le_of_ble_eq_true rfl) (Nat.le_trans hc (Nat.le_of_ble_eq_true rfl)) (Nat.le_trans hs (Nat.le_of_ble_eq_true rfl)) dL_law_787 ?_
  refine bw_rot2 ?_
  exact bw_icmp_eq (tgt := 1318) C.1 dL_law_790 (by decide) (fun _ => K N1 z1 w1 rfl rfl hI1) (fun q => absurd rfl q)
theorem L_draft (C : LC p s m args c D A N b L xs) (hL : L ≤ 3072) (hi : i + 6 ≤ L) (e1 : N1.2.2 = N.2.2) (e2 : N2.2.2 = N.2.2) (a1 : N1.1 0 = ax) (a2 : N2.1 0 = am) (hI : Inv z w) (hc : nc ≤ 3600) (hs : ns ≤ 8000) (K : ∀ (N1' : Nm) (z' w' : St), N1'.2.2 = N1.2.2 → N1'.1 0 = N1.1 0 → Inv z' w' → Bw p l e room_1 s m args below meth c Q D A 7 nc ns (wC N1' z' ++ (wR N2 w' ++ oCell N qo fo)) 1318 (lvL b ax am qo i) []) : Bw p l e room_1 s m args below meth c Q D A 7 nc ns (wC N1 z ++ (wR N2 w ++ oCell N qo fo)) 795 (lvL b ax am qo i) [] := by
  subst a1 a2
  obtain ⟨r, z1, w1, h1, h2, hI1⟩ := q_draft hI (xs (i + 1))
  refine bw_aload_n C.1 1 dL_law_795 rfl ?_
  refine bw_arg (k := 1) C hL (by omega) (by decide) dL_law_796 dL_law_797 dL_law_799 dL_law_800 dL_law_801 ?_
  refine bw_frontVi (n := 1) (As := [.int (xs (i + 1))]) (rest := []) (q0 := 0) (ci := 10) (w1 := wC N1 z1) C.1 e1 (c_X11_draft l D N1 z z1 (xs (i + 1)) r h1) lw_35_17 lw_35_18 lw_35_19 lw_1_2 lw_35_20 rfl rfl (by decide +kernel) ⟨Nat.le_of_ble_eq_true rfl, Nat.le_of_ble_eq_true rfl⟩ rfl rfl rfl rfl rfl (Nat.le_of_ble_eq_true rfl) (Nat.le_trans hc (Nat.le_of_ble_eq_true rfl)) (Nat.le_trans hs (Nat.le_of_ble_eq_true rfl)) dL_law_802 ?_
  refine bw_rot1 ?_
  refine bw_aload_n C.1 2 dL_law_805 rfl ?_
  refine bw_arg (k := 1) C hL (by omega) (by decide) dL_law_806 dL_law_807 dL_law_809 dL_law_810 dL_law_811 ?_
  refine bw_frontVi (n := 1) (As := [.int (xs (i + 1))]) (rest := [.int r]) (q0 := 0) (ci := 11) (w1 := wR N2 w1) C.1 e2 (c_X12_draft l D N2 w w1 (xs (i + 1)) r h2) lw_36_5 lw_36_6 lw_36_7 lw_1_5 lw_36_8 rfl rfl (by decide +kernel) ⟨Nat.le_of_ble_eq_true rfl, Nat.le_of_ble_eq_true rfl⟩ rfl rfl rfl rfl rfl (Nat.le_of_ble_eq_true rfl) (Nat.le_trans hc (Nat.le_of_ble_eq_true rfl)) (Nat.le_trans hs (Nat.le_of_ble_eq_true rfl)) dL_law_812 ?_
  refine bw_rot2 ?_
  exact bw_icmp_eq (tgt := 1318) C.1 dL_law_815 (by decide) (fun _ => K N1 z1 w1 rfl rfl hI1) (fun q => absurd rfl q)
theorem L_does (C : LC p s m args c D A N b L xs) (hL : L ≤ 3072) (hi : i + 6 ≤ L) (e1 : N1.2.2 = N.2.2) (e2 : N2.2.2 = N.2.2) (a1 : N1.1 0 = ax) (a2 : N2.1 0 = am) (hI : Inv z w) (hc : nc ≤ 3600) (hs : ns ≤ 8000) (K : ∀ (N1' : Nm) (z' w' : St), N1'.2.2 = N1.2.2 → N1'.1 0 = N1.1 0 → Inv z' w' → Bw p l e room_1 s m args below meth c Q D A 7 nc ns (wC N1' z' ++ (wR N2 w' ++ oCell N qo fo)) 1318 (lvL b ax am qo i) []) : Bw p l e room_1 s m args below meth c Q D A 7 nc ns (wC N1 z ++ (wR N2 w ++ oCell N qo fo)) 888 (lvL b ax am qo i) [] := by
  subst a1 a2
  obtain ⟨r, z1, w1, h1, h2, hI1⟩ := q_does hI (xs (i + 1)) (xs (i + 2)) (xs (i + 3))
  refine bw_aload_n C.1 1 dL_law_888 rfl ?_
  refine bw_arg (k := 1) C hL (by omega) (by decide) dL_law_889 dL_law_890 dL_law_892 dL_law_893 dL_law_894 ?_
  refine bw_arg (k := 2) C hL (by omega) (by decide) dL_law_895 dL_law_896 dL_law_898 dL_law_899 dL_law_900 ?_
  refine bw_arg (k := 3) C hL (by omega) (by decide) dL_law_901 dL_law_902 dL_law_904 dL_law_905 dL_law_906 ?_
  refine bw_frontVi (n := 3) (As := [.int (xs (i + 1)), .int (xs (i + 2)), .int (xs (i + 3))]) (rest := []) (q0 := 0) (ci := 10) (w1 := wC N1 z1) C.1 e1 (c_X11_does l D N1 z z1 (xs (i + 1)) (xs (i + 2)) (xs (i + 3)) r h1) lw_37_12 lw_37_13 lw_37_14 lw_1_2 lw_37_15 rfl rfl (by decide +kernel) ⟨Nat.le_of_ble_eq_true rfl, Nat.le_of_ble_eq_true rfl⟩ rfl rfl rfl rfl rfl (Nat.le_of_ble_eq_true rfl) (Nat.le_trans hc (Nat.le_of_ble_eq_true rfl)) (Nat.le_trans hs (Nat.le_of_ble_eq_true rfl)) dL_law_907 ?_
  refine bw_rot1 ?_
  refine bw_aload_n C.1 2 dL_law_910 rfl ?_
  refine bw_arg (k := 1) C hL (by omega) (by decide) dL_law_911 dL_law_912 dL_law_914 dL_law_915 dL_law_916 ?_
  refine bw_arg (k := 2) C hL (by omega) (by decide) dL_law_917 dL_law_918 dL_law_920 dL_law_921 dL_law_922 ?_
  refine bw_arg (k := 3) C hL (by omega) (by decide) dL_law_923 dL_law_924 dL_law_926 dL_law_927 dL_law_928 ?_
  refine bw_frontVi (n := 3) (As := [.int (xs (i + 1)), .int (xs (i + 2)), .int (xs (i + 3))]) (rest := [.int r]) (q0 := 0) (ci := 11) (w1 := wR N2 w1) C.1 e2 (c_X12_does_ l D N2 w w1 (xs (i + 1)) (xs (i + 2)) (xs (i + 3)) r h2) lw_39_23 lw_40_0 lw_40_1 lw_1_5 lw_40_2 rfl rfl (by decide +kernel) ⟨Nat.le_of_ble_eq_true rfl, Nat.le_of_ble_eq_true rfl⟩ rfl rfl rfl rfl rfl (Nat.le_of_ble_eq_true rfl) (Nat.le_trans hc (Nat.le_of_ble_eq_true rfl)) (Nat.le_trans hs (Nat.le_of_ble_eq_true rfl)) dL_law_929 ?_
  refine bw_rot2 ?_
  exact bw_icmp_eq (tgt := 1318) C.1 dL_law_932 (by decide) (fun _ => K N1 z1 w1 rfl rfl hI1) (fun q => absurd rfl q)
theorem L_best (C : LC p s m args c D A N b L xs) (hL : L ≤ 3072) (hi : i + 6 ≤ L) (e1 : N1.2.2 = N.2.2) (e2 : N2.2.2 = N.2.2) (a1 : N1.1 0 = ax) (a2 : N2.1 0 = am) (hI : Inv z w) (hc : nc ≤ 3600) (hs : ns ≤ 8000) (K : ∀ (N1' : Nm) (z' w' : St), N1'.2.2 = N1.2.2 → N1'.1 0 = N1.1 0 → Inv z' w' → Bw p l e room_1 s m args below meth c Q D A 7 nc ns (wC N1' z' ++ (wR N2 w' ++ oCell N qo fo)) 1318 (lvL b ax am qo i) []) : Bw p l e room_1 s m args below meth c Q D A 7 nc ns (wC N1 z ++ (wR N2 w ++ oCell N qo fo)) 937 (lvL b ax am qo i) [] := by
  subst a1 a2
  obtain ⟨r, z1, w1, h1, h2, hI1⟩ := q_best hI (xs (i + 1)) (xs (i + 2))
  refine bw_aload_n C.1 1 dL_law_937 rfl ?_
  refine bw_arg (k := 1) C hL (by omega) (by decide) dL_law_938 dL_law_939 dL_law_941 dL_law_942 dL_law_943 ?_
  refine bw_arg (k := 2) C hL (by omega) (by decide) dL_law_944 dL_law_945 dL_law_947 dL_law_948 dL_law_949 ?_
  refine bw_frontVi (n := 2) (As := [.int (xs (i + 1)), .int (xs (i + 2))]) (rest := []) (q0 := 0) (ci := 10) (w1 := wC N1 z1) C.1 e1 (c_X11_best l D N1 z z1 (xs (i + 1)) (xs (i + 2)) r h1) lw_41_14 lw_41_15 lw_41_16 lw_1_2 lw_41_17 rfl rfl (by decide +kernel) ⟨Nat.le_of_ble_eq_true rfl, Nat.le_of_ble_eq_true rfl⟩ rfl rfl rfl rfl rfl (Nat.le_of_ble_eq_true rfl) (Nat.le_trans hc (Nat.le_of_ble_eq_true rfl)) (Nat.le_trans hs (Nat.le_of_ble_eq_true rfl)) dL_law_950 ?_
  refine bw_rot1 ?_
  refine bw_aload_n C.1 2 dL_law_953 rfl ?_
  refine bw_arg (k := 1) C hL (by omega) (by decide) dL_law_954 dL_law_955 dL_law_957 dL_law_958 dL_law_959 ?_
  refine bw_arg (k := 2) C hL (by omega) (by decide) dL_law_960 dL_law_961 dL_law_963 dL_law_964 dL_law_965 ?_
  refine bw_frontVi (n := 2) (As := [.int (xs (i + 1)), .int (xs (i + 2))]) (rest := [.int r]) (q0 := 0) (ci := 11) (w1 := wR N2 w1) C.1 e2 (c_X12_best l D N2 w w1 (xs (i + 1)) (xs (i + 2)) r h2) lw_42_21 lw_42_22 lw_42_23 lw_1_5 lw_43_0 rfl rfl (by decide +kernel) ⟨Nat.le_of_ble_eq_true rfl, Nat.le_of_ble_eq_true rfl⟩ rfl rfl rfl rfl rfl (Nat.le_of_ble_eq_true rfl) (Nat.le_trans hc (Nat.le_of_ble_eq_true rfl)) (Nat.le_trans hs (Nat.le_of_ble_eq_true rfl)) dL_law_966 ?_
  refine bw_rot2 ?_
  exact bw_icmp_eq (tgt := 1318) C.1 dL_law_969 (by decide) (fun _ => K N1 z1 w1 rfl rfl hI1) (fun q => absurd rfl q)
theorem L_weights (C : LC p s m args c D A N b L xs) (hL : L ≤ 3072) (hi : i + 6 ≤ L) (e1 : N1.2.2 = N.2.2) (e2 : N2.2.2 = N.2.2) (a1 : N1.1 0 = ax) (a2 : N2.1 0 = am) (hI : Inv z w) (hc : nc ≤ 3600) (hs : ns ≤ 8000) (K : ∀ (N1' : Nm) (z' w' : St), N1'.2.2 = N1.2.2 → N1'.1 0 = N1.1 0 → Inv z' w' → Bw p l e room_1 s m args below meth c Q D A 7 nc ns (wC N1' z' ++ (wR N2 w' ++ oCell N qo fo)) 1318 (lvL b ax am qo i) []) : Bw p l e room_1 s m args below meth c Q D A 7 nc ns (wC N1 z ++ (wR N2 w ++ oCell N qo fo)) 974 (lvL b ax am qo i) [] := by
  subst a1 a2
  obtain ⟨r, z1, w1, h1, h2, hI1⟩ := q_weights hI (xs (i + 1)) (xs (i + 2))
  refine bw_aload_n C.1 1 dL_law_974 rfl ?_
  refine bw_arg (k := 1) C hL (by omega) (by decide) dL_law_975 dL_law_976 dL_law_978 dL_law_979 dL_law_980 ?_
  refine bw_arg (k := 2) C hL (by omega) (by decide) dL_law_981 dL_law_982 dL_law_984 dL_law_985 dL_law_986 ?_
  refine bw_frontVi (n := 2) (As := [.int (xs (i + 1)), .int (xs (i + 2))]) (rest := []) (q0 := 0) (ci := 10) (w1 := wC N1 z1) C.1 e1 (c_X11_weights l D N1 z z1 (xs (i + 1)) (xs (i + 2)) r h1) lw_43_1 lw_43_2 lw_43_3 lw_1_2 lw_43_4 rfl rfl (by decide +kernel) ⟨Nat.le_of_ble_eq_true rfl, Nat.le_of_ble_eq_true rfl⟩ rfl rfl rfl rfl rfl (Nat.le_of_ble_eq_true rfl) (Nat.le_trans hc (Nat.le_of_ble_eq_true rfl)) (Nat.le_trans hs (Nat.le_of_ble_eq_true rfl)) dL_law_987 ?_
  refine bw_rot1 ?_
  refine bw_aload_n C.1 2 dL_law_990 rfl ?_
  refine bw_arg (k := 1) C hL (by omega) (by decide) dL_law_991 dL_law_992 dL_law_994 dL_law_995 dL_law_996 ?_
  refine bw_arg (k := 2) C hL (by omega) (by decide) dL_law_997 dL_law_998 dL_law_1000 dL_law_1001 dL_law_1002 ?_
  refine bw_frontVi (n := 2) (As := [.int (xs (i + 1)), .int (xs (i + 2))]) (rest := [.int r]) (q0 := 0) (ci := 11) (w1 := wR N2 w1) C.1 e2 (c_X12_weights l D N2 w w1 (xs (i + 1)) (xs (i + 2)) r h2) lw_43_15 lw_43_16 lw_43_17 lw_1_5 lw_43_18 rfl rfl (by decide +kernel) ⟨Nat.le_of_ble_eq_true rfl, Nat.le_of_ble_eq_true rfl⟩ rfl rfl rfl rfl rfl (Nat.le_of_ble_eq_true rfl) (Nat.le_trans hc (Nat.le_of_ble_eq_true rfl)) (Nat.le_trans hs (Nat.le_of_ble_eq_true rfl)) dL_law_1003 ?_
  refine bw_rot2 ?_
  exact bw_icmp_eq (tgt := 1318) C.1 dL_law_1006 (by decide) (fun _ => K N1 z1 w1 rfl rfl hI1) (fun q => absurd rfl q)
theorem L_knows (C : LC p s m args c D A N b L xs) (hL : L ≤ 3072) (hi : i + 6 ≤ L) (e1 : N1.2.2 = N.2.2) (e2 : N2.2.2 = N.2.2) (a1 : N1.1 0 = ax) (a2 : N2.1 0 = am) (hI : Inv z w) (hc : nc ≤ 3600) (hs : ns ≤ 8000) (K : ∀ (N1' : Nm) (z' w' : St), N1'.2.2 = N1.2.2 → N1'.1 0 = N1.1 0 → Inv z' w' → Bw p l e room_1 s m args below meth c Q D A 7 nc ns (wC N1' z' ++ (wR N2 w' ++ oCell N qo fo)) 1318 (lvL b ax am qo i) []) : Bw p l e room_1 s m args below meth c Q D A 7 nc ns (wC N1 z ++ (wR N2 w ++ oCell N qo fo)) 1011 (lvL b ax am qo i) [] := by
  subst a1 a2
  obtain ⟨r, z1, w1, h1, h2, hI1⟩ := q_knows hI (xs (i + 1)) (xs (i + 2)) (xs (i + 3))
  refine bw_aload_n C.1 1 dL_law_1011 rfl ?_
  refine bw_arg (k := 1) C hL (by omega) (by decide) dL_law_1012 dL_law_1013 dL_law_1015 dL_law_1016 dL_law_1017 ?_
  refine bw_arg (k := 2) C hL (by omega) (by decide) dL_law_1018 dL_law_1019 dL_law_1021 dL_law_1022 dL_law_1023 ?_
  refine bw_arg (k := 3) C hL (by omega) (by decide) dL_law_1024 dL_law_1025 dL_law_1027 dL_law_1028 dL_law_1029 ?_
  refine bw_frontVi (n := 3) (As := [.int (xs (i + 1)), .int (xs (i + 2)), .int (xs (i + 3))]) (rest := []) (q0 := 0) (ci := 10) (w1 := wC N1 z1) C.1 e1 (c_X11_knows l D N1 z z1 (xs (i + 1)) (xs (i + 2)) (xs (i + 3)) r h1) lw_43_23 lw_44_0 lw_44_1 lw_1_2 lw_44_2 rfl rfl (by decide +kernel) ⟨Nat.le_of_ble_eq_true rfl, Nat.le_of_ble_eq_true rfl⟩ rfl rfl rfl rfl rfl (Nat.le_of_ble_eq_true rfl) (Nat.le_trans hc (Nat.le_of_ble_eq_true rfl)) (Nat.le_trans hs (Nat.le_of_ble_eq_true rfl)) dL_law_1030 ?_
  refine bw_rot1 ?_
  refine bw_aload_n C.1 2 dL_law_1033 rfl ?_
  refine bw_arg (k := 1) C hL (by omega) (by decide) dL_law_1034 dL_law_1035 dL_law_1037 dL_law_1038 dL_law_1039 ?_
  refine bw_arg (k := 2) C hL (by omega) (by decide) dL_law_1040 dL_law_1041 dL_law_1043 dL_law_1044 dL_law_1045 ?_
  refine bw_arg (k := 3) C hL (by omega) (by decide) dL_law_1046 dL_law_1047 dL_law_1049 dL_law_1050 dL_law_1051 ?_
  refine bw_frontVi (n := 3) (As := [.int (xs (i + 1)), .int (xs (i + 2)), .int (xs (i + 3))]) (rest := [.int r]) (q0 := 0) (ci := 11) (w1 := wR N2 w1) C.1 e2 (c_X12_knows l D N2 w w1 (xs (i + 1)) (xs (i + 2)) (xs (i + 3)) r h2) lw_45_3 lw_45_4 lw_45_5 lw_1_5 lw_45_6 rfl rfl (by decide +kernel) ⟨Nat.le_of_ble_eq_true rfl, Nat.le_of_ble_eq_true rfl⟩ rfl rfl rfl rfl rfl (Nat.le_of_ble_eq_true rfl) (Nat.le_trans hc (Nat.le_of_ble_eq_true rfl)) (Nat.le_trans hs (Nat.le_of_ble_eq_true rfl)) dL_law_1052 ?_
  refine bw_rot2 ?_
  exact bw_icmp_eq (tgt := 1318) C.1 dL_law_1055 (by decide) (fun _ => K N1 z1 w1 rfl rfl hI1) (fun q => absurd rfl q)
theorem L_explained (C : LC p s m args c D A N b L xs) (hL : L ≤ 3072) (hi : i + 6 ≤ L) (e1 : N1.2.2 = N.2.2) (e2 : N2.2.2 = N.2.2) (a1 : N1.1 0 = ax) (a2 : N2.1 0 = am) (hI : Inv z w) (hc : nc ≤ 3600) (hs : ns ≤ 8000) (K : ∀ (N1' : Nm) (z' w' : St), N1'.2.2 = N1.2.2 → N1'.1 0 = N1.1 0 → Inv z' w' → Bw p l e room_1 s m args below meth c Q D A 7 nc ns (wC N1' z' ++ (wR N2 w' ++ oCell N qo fo)) 1318 (lvL b ax am qo i) []) : Bw p l e room_1 s m args below meth c Q D A 7 nc ns (wC N1 z ++ (wR N2 w ++ oCell N qo fo)) 1060 (lvL b ax am qo i) [] := by
  subst a1 a2
  obtain ⟨r, z1, w1, h1, h2, hI1⟩ := q_explained hI (xs (i + 1)) (xs (i + 2))
  refine bw_aload_n C.1 1 dL_law_1060 rfl ?_
  refine bw_arg (k := 1) C hL (by omega) (by decide) dL_law_1061 dL_law_1062 dL_law_1064 dL_law_1065 dL_law_1066 ?_
  refine bw_arg (k := 2) C hL (by omega) (by decide) dL_law_1067 dL_law_1068 dL_law_1070 dL_law_1071 dL_law_1072 ?_
  refine bw_frontVi (n := 2) (As := [.int (xs (i + 1)), .int (xs (i + 2))]) (rest := []) (q0 := 0) (ci := 10) (w1 := wC N1 z1) C.1 e1 (c_X11_explained l D N1 z z1 (xs (i + 1)) (xs (i + 2)) r h1) lw_45_15 lw_45_16 lw_45_17 lw_1_2 lw_45_18 rfl rfl (by decide +kernel) ⟨Nat.le_of_ble_eq_true rfl, Nat.le_of_ble_eq_true rfl⟩ rfl rfl rfl rfl rfl (Nat.le_of_ble_eq_true rfl) (Nat.le_trans hc (Nat.le_of_ble_eq_true rfl)) (Nat.le_trans hs (Nat.le_of_ble_eq_true rfl)) dL_law_1073 ?_
  refine bw_rot1 ?_
  refine bw_aload_n C.1 2 dL_law_1076 rfl ?_
  refine bw_arg (k := 1) C hL (by omega) (by decide) dL_law_1077 dL_law_1078 dL_law_1080 dL_law_1081 dL_law_1082 ?_
  refine bw_arg (k := 2) C hL (by omega) (by decide) dL_law_1083 dL_law_1084 dL_law_1086 dL_law_1087 dL_law_1088 ?_
  refine bw_frontVi (n := 2) (As := [.int (xs (i + 1)), .int (xs (i + 2))]) (rest := [.int r]) (q0 := 0) (ci := 11) (w1 := wR N2 w1) C.1 e2 (c_X12_explained l D N2 w w1 (xs (i + 1)) (xs (i + 2)) r h2) lw_46_1 lw_46_2 lw_46_3 lw_1_5 lw_46_4 rfl rfl (by decide +kernel) ⟨Nat.le_of_ble_eq_true rfl, Nat.le_of_ble_eq_true rfl⟩ rfl rfl rfl rfl rfl (Nat.le_of_ble_eq_true rfl) (Nat.le_trans hc (Nat.le_of_ble_eq_true rfl)) (Nat.le_trans hs (Nat.le_of_ble_eq_true rfl)) dL_law_1089 ?_
  refine bw_rot2 ?_
  exact bw_icmp_eq (tgt := 1318) C.1 dL_law_1092 (by decide) (fun _ => K N1 z1 w1 rfl rfl hI1) (fun q => absurd rfl q)
theorem L_through (C : LC p s m args c D A N b L xs) (hL : L ≤ 3072) (hi : i + 6 ≤ L) (e1 : N1.2.2 = N.2.2) (e2 : N2.2.2 = N.2.2) (a1 : N1.1 0 = ax) (a2 : N2.1 0 = am) (hI : Inv z w) (hc : nc ≤ 3600) (hs : ns ≤ 8000) (K : ∀ (N1' : Nm) (z' w' : St), N1'.2.2 = N1.2.2 → N1'.1 0 = N1.1 0 → Inv z' w' → Bw p l e room_1 s m args below meth c Q D A 7 nc ns (wC N1' z' ++ (wR N2 w' ++ oCell N qo fo)) 1318 (lvL b ax am qo i) []) : Bw p l e room_1 s m args below meth c Q D A 7 nc ns (wC N1 z ++ (wR N2 w ++ oCell N qo fo)) 1097 (lvL b ax am qo i) [] := by
  subst a1 a2
  obtain ⟨r, z1, w1, h1, h2, hI1⟩ := q_through hI (xs (i + 1))
  refine bw_aload_n C.1 1 dL_law_1097 rfl ?_
  refine bw_arg (k := 1) C hL (by omega) (by decide) dL_law_1098 dL_law_1099 dL_law_1101 dL_law_1102 dL_law_1103 ?_
  refine bw_frontVi (n := 1) (As := [.int (xs (i + 1))]) (rest := []) (q0 := 0) (ci := 10) (w1 := wC N1 z1) C.1 e1 (c_X11_through l D N1 z z1 (xs (i + 1)) r h1) lw_46_9 lw_46_10 lw_46_11 lw_1_2 lw_46_12 rfl rfl (by decide +kernel) ⟨Nat.le_of_ble_eq_true rfl, Nat.le_of_ble_eq_true rfl⟩ rfl rfl rfl rfl rfl (Nat.le_of_ble_eq_true rfl) (Nat.le_trans hc (Nat.le_of_ble_eq_true rfl)) (Nat.le_trans hs (Nat.le_of_ble_eq_true rfl)) dL_law_1104 ?_
  refine bw_rot1 ?_
  refine bw_aload_n C.1 2 dL_law_1107 rfl ?_
  refine bw_arg (k := 1) C hL (by omega) (by decide) dL_law_1108 dL_law_1109 dL_law_1111 dL_law_1112 dL_law_1113 ?_
  refine bw_frontVi (n := 1) (As := [.int (xs (i + 1))]) (rest := [.int r]) (q0 := 0) (ci := 11) (w1 := wR N2 w1) C.1 e2 (c_X12_through l D N2 w w1 (xs (i + 1)) r h2) lw_47_9 lw_47_10 lw_47_11 lw_1_5 lw_47_12 rfl rfl (by decide +kernel) ⟨Nat.le_of_ble_eq_true rfl, Nat.le_of_ble_eq_true rfl⟩ rfl rfl rfl rfl rfl (Nat.le_of_ble_eq_true rfl) (Nat.le_trans hc (Nat.le_of_ble_eq_true rfl)) (Nat.le_trans hs (Nat.le_of_ble_eq_true rfl)) dL_law_1114 ?_
  refine bw_rot2 ?_
  exact bw_icmp_eq (tgt := 1318) C.1 dL_law_1117 (by decide) (fun _ => K N1 z1 w1 rfl rfl hI1) (fun q => absurd rfl q)
theorem L_candidate (C : LC p s m args c D A N b L xs) (hL : L ≤ 3072) (hi : i + 6 ≤ L) (e1 : N1.2.2 = N.2.2) (e2 : N2.2.2 = N.2.2) (a1 : N1.1 0 = ax) (a2 : N2.1 0 = am) (hI : Inv z w) (hc : nc ≤ 3600) (hs : ns ≤ 8000) (K : ∀ (N1' : Nm) (z' w' : St), N1'.2.2 = N1.2.2 → N1'.1 0 = N1.1 0 → Inv z' w' → Bw p l e room_1 s m args below meth c Q D A 7 nc ns (wC N1' z' ++ (wR N2 w' ++ oCell N qo fo)) 1318 (lvL b ax am qo i) []) : Bw p l e room_1 s m args below meth c Q D A 7 nc ns (wC N1 z ++ (wR N2 w ++ oCell N qo fo)) 1122 (lvL b ax am qo i) [] := by
  subst a1 a2
  obtain ⟨r, z1, w1, h1, h2, hI1⟩ := q_candidate hI (xs (i + 1))
  refine bw_aload_n C.1 1 dL_law_1122 rfl ?_
  refine bw_arg (k := 1) C hL (by omega) (by decide) dL_law_1123 dL_law_1124 dL_law_1126 dL_law_1127 dL_law_1128 ?_
  refine bw_frontVi (n := 1) (As := [.int (xs (i + 1))]) (rest := []) (q0 := 0) (ci := 10) (w1 := wC N1 z1) C.1 e1 (c_X11_candidate l D N1 z z1 (xs (i + 1)) r h1) lw_47_13 lw_47_14 lw_47_15 lw_1_2 lw_47_16 rfl rfl (by decide +kernel) ⟨Nat.le_of_ble_eq_true rfl, Nat.le_of_ble_eq_true rfl⟩ rfl rfl rfl rfl rfl (Nat.le_of_ble_eq_true rfl) (Nat.le_trans hc (Nat.le_of_ble_eq_true rfl)) (Nat.le_trans hs (Nat.le_of_ble_eq_true rfl)) dL_law_1129 ?_
  refine bw_rot1 ?_
  refine bw_aload_n C.1 2 dL_law_1132 rfl ?_
  refine bw_arg (k := 1) C hL (by omega) (by decide) dL_law_1133 dL_law_1134 dL_law_1136 dL_law_1137 dL_law_1138 ?_
  refine bw_frontVi (n := 1) (As := [.int (xs (i + 1))]) (rest := [.int r]) (q0 := 0) (ci := 11) (w1 := wR N2 w1) C.1 e2 (c_X12_candidate l D N2 w w1 (xs (i + 1)) r h2) lw_47_22 lw_47_23 lw_48_0 lw_1_5 lw_48_1 rfl rfl (by decide +kernel) ⟨Nat.le_of_ble_eq_true rfl, Nat.le_of_ble_eq_true rfl⟩ rfl rfl rfl rfl rfl (Nat.le_of_ble_eq_true rfl) (Nat.le_trans hc (Nat.le_of_ble_eq_true rfl)) (Nat.le_trans hs (Nat.le_of_ble_eq_true rfl)) dL_law_1139 ?_
  refine bw_rot2 ?_
  exact bw_icmp_eq (tgt := 1318) C.1 dL_law_1142 (by decide) (fun _ => K N1 z1 w1 rfl rfl hI1) (fun q => absurd rfl q)
theorem L_flight (C : LC p s m args c D A N b L xs) (hL : L ≤ 3072) (hi : i + 6 ≤ L) (e1 : N1.2.2 = N.2.2) (e2 : N2.2.2 = N.2.2) (a1 : N1.1 0 = ax) (a2 : N2.1 0 = am) (hI : Inv z w) (hc : nc ≤ 3600) (hs : ns ≤ 8000) (K : ∀ (N1' : Nm) (z' w' : St), N1'.2.2 = N1.2.2 → N1'.1 0 = N1.1 0 → Inv z' w' → Bw p l e room_1 s m args below meth c Q D A 7 nc ns (wC N1' z' ++ (wR N2 w' ++ oCell N qo fo)) 1318 (lvL b ax am qo i) []) : Bw p l e room_1 s m args below meth c Q D A 7 nc ns (wC N1 z ++ (wR N2 w ++ oCell N qo fo)) 1147 (lvL b ax am qo i) [] := by
  subst a1 a2
  obtain ⟨r, z1, w1, h1, h2, hI1⟩ := q_flight hI (xs (i + 1)) (xs (i + 2)) (xs (i + 3)) (xs (i + 4)) (xs (i + 5))
  refine bw_aload_n C.1 1 dL_law_1147 rfl ?_
  refine bw_arg (k := 1) C hL (by omega) (by decide) dL_law_1148 dL_law_1149 dL_law_1151 dL_law_1152 dL_law_1153 ?_
  refine bw_arg (k := 2) C hL (by omega) (by decide) dL_law_1154 dL_law_1155 dL_law_1157 dL_law_1158 dL_law_1159 ?_
  refine bw_arg (k := 3) C hL (by omega) (by decide) dL_law_1160 dL_law_1161 dL_law_1163 dL_law_1164 dL_law_1165 ?_
  refine bw_arg (k := 4) C hL (by omega) (by decide) dL_law_1166 dL_law_1167 dL_law_1169 dL_law_1170 dL_law_1171 ?_
  refine bw_arg (k := 5) C hL (by omega) (by decide) dL_law_1172 dL_law_1173 dL_law_1175 dL_law_1176 dL_law_1177 ?_
  refine bw_frontVi (n := 5) (As := [.int (xs (i + 1)), .int (xs (i + 2)), .int (xs (i + 3)), .int (xs (i + 4)), .int (xs (i + 5))]) (rest := []) (q0 := 0) (ci := 10) (w1 := wC N1 z1) C.1 e1 (c_X11_flight l D N1 z z1 (xs (i + 1)) (xs (i + 2)) (xs (i + 3)) (xs (i + 4)) (xs (i + 5)) r h1) lw_48_2 lw_48_3 lw_48_4 lw_1_2 lw_48_5 rfl rfl (by decide +kernel) ⟨Nat.le_of_ble_eq_true rfl, Nat.le_of_ble_eq_true rfl⟩ rfl rfl rfl rfl rfl (Nat.le_of_ble_eq_true rfl) (Nat.le_trans hc (Nat.le_of_ble_eq_true rfl)) (Nat.le_trans hs (Nat.le_of_ble_eq_true rfl)) dL_law_1178 ?_
  refine bw_rot1 ?_
  refine bw_aload_n C.1 2 dL_law_1181 rfl ?_
  refine bw_arg (k := 1) C hL (by omega) (by decide) dL_law_1182 dL_law_1183 dL_law_1185 dL_law_1186 dL_law_1187 ?_
  refine bw_arg (k := 2) C hL (by omega) (by decide) dL_law_1188 dL_law_1189 dL_law_1191 dL_law_1192 dL_law_1193 ?_
  refine bw_arg (k := 3) C hL (by omega) (by decide) dL_law_1194 dL_law_1195 dL_law_1197 dL_law_1198 dL_law_1199 ?_
  refine bw_arg (k := 4) C hL (by omega) (by decide) dL_law_1200 dL_law_1201 dL_law_1203 dL_law_1204 dL_law_1205 ?_
  refine bw_arg (k := 5) C hL (by omega) (by decide) dL_law_1206 dL_law_1207 dL_law_1209 dL_law_1210 dL_law_1211 ?_
  refine bw_frontVi (n := 5) (As := [.int (xs (i + 1)), .int (xs (i + 2)), .int (xs (i + 3)), .int (xs (i + 4)), .int (xs (i + 5))]) (rest := [.int r]) (q0 := 0) (ci := 11) (w1 := wR N2 w1) C.1 e2 (c_X12_flight l D N2 w w1 (xs (i + 1)) (xs (i + 2)) (xs (i + 3)) (xs (i + 4)) (xs (i + 5)) r h2) lw_50_8 lw_50_9 lw_50_10 lw_1_5 lw_50_11 rfl rfl (by decide +kernel) ⟨Nat.le_of_ble_eq_true rfl, Nat.le_of_ble_eq_true rfl⟩ rfl rfl rfl rfl rfl (Nat.le_of_ble_eq_true rfl) (Nat.le_trans hc (Nat.le_of_ble_eq_true rfl)) (Nat.le_trans hs (Nat.le_of_ble_eq_true rfl)) dL_law_1212 ?_
  refine bw_rot2 ?_
  exact bw_icmp_eq (tgt := 1318) C.1 dL_law_1215 (by decide) (fun _ => K N1 z1 w1 rfl rfl hI1) (fun q => absurd rfl q)
theorem L_guards (C : LC p s m args c D A N b L xs) (hL : L ≤ 3072) (hi : i + 6 ≤ L) (e1 : N1.2.2 = N.2.2) (e2 : N2.2.2 = N.2.2) (a1 : N1.1 0 = ax) (a2 : N2.1 0 = am) (hI : Inv z w) (hc : nc ≤ 3600) (hs : ns ≤ 8000) (K : ∀ (N1' : Nm) (z' w' : St), N1'.2.2 = N1.2.2 → N1'.1 0 = N1.1 0 → Inv z' w' → Bw p l e room_1 s m args below meth c Q D A 7 nc ns (wC N1' z' ++ (wR N2 w' ++ oCell N qo fo)) 1318 (lvL b ax am qo i) []) : Bw p l e room_1 s m args below meth c Q D A 7 nc ns (wC N1 z ++ (wR N2 w ++ oCell N qo fo)) 1220 (lvL b ax am qo i) [] := by
  subst a1 a2
  obtain ⟨r, z1, w1, h1, h2, hI1⟩ := q_guards hI (xs (i + 1)) (xs (i + 2)) (xs (i + 3)) (xs (i + 4)) (xs (i + 5))
  refine bw_aload_n C.1 1 dL_law_1220 rfl ?_
  refine bw_arg (k := 1) C hL (by omega) (by decide) dL_law_1221 dL_law_1222 dL_law_1224 dL_law_1225 dL_law_1226 ?_
  refine bw_arg (k := 2) C hL (by omega) (by decide) dL_law_1227 dL_law_1228 dL_law_1230 dL_law_1231 dL_law_1232 ?_
  refine bw_arg (k := 3) C hL (by omega) (by decide) dL_law_1233 dL_law_1234 dL_law_1236 dL_law_1237 dL_law_1238 ?_
  refine bw_arg (k := 4) C hL (by omega) (by decide) dL_law_1239 dL_law_1240 dL_law_1242 dL_law_1243 dL_law_1244 ?_
  refine bw_arg (k := 5) C hL (by omega) (by decide) dL_law_1245 dL_law_1246 dL_law_1248 dL_law_1249 dL_law_1250 ?_
  refine bw_frontVi (n := 5) (As := [.int (xs (i + 1)), .int (xs (i + 2)), .int (xs (i + 3)), .int (xs (i + 4)), .int (xs (i + 5))]) (rest := []) (q0 := 0) (ci := 10) (w1 := wC N1 z1) C.1 e1 (c_X11_guards l D N1 z z1 (xs (i + 1)) (xs (i + 2)) (xs (i + 3)) (xs (i + 4)) (xs (i + 5)) r h1) lw_51_16 lw_51_17 lw_51_18 lw_1_2 lw_51_19 rfl rfl (by decide +kernel) ⟨Nat.le_of_ble_eq_true rfl, Nat.le_of_ble_eq_true rfl⟩ rfl rfl rfl rfl rfl (Nat.le_of_ble_eq_true rfl) (Nat.le_trans hc (Nat.le_of_ble_eq_true rfl)) (Nat.le_trans hs (Nat.le_of_ble_eq_true rfl)) dL_law_1251 ?_
  refine bw_rot1 ?_
  refine bw_aload_n C.1 2 dL_law_1254 rfl ?_
  refine bw_arg (k := 1) C hL (by omega) (by decide) dL_law_1255 dL_law_1256 dL_law_1258 dL_law_1259 dL_law_1260 ?_
  refine bw_arg (k := 2) C hL (by omega) (by decide) dL_law_1261 dL_law_1262 dL_law_1264 dL_law_1265 dL_law_1266 ?_
  refine bw_arg (k := 3) C hL (by omega) (by decide) dL_law_1267 dL_law_1268 dL_law_1270 dL_law_1271 dL_law_1272 ?_
  refine bw_arg (k := 4) C hL (by omega) (by decide) dL_law_1273 dL_law_1274 dL_law_1276 dL_law_1277 dL_law_1278 ?_
  refine bw_arg (k := 5) C hL (by omega) (by decide) dL_law_1279 dL_law_1280 dL_law_1282 dL_law_1283 dL_law_1284 ?_
  refine bw_frontVi (n := 5) (As := [.int (xs (i + 1)), .int (xs (i + 2)), .int (xs (i + 3)), .int (xs (i + 4)), .int (xs (i + 5))]) (rest := [.int r]) (q0 := 0) (ci := 11) (w1 := wR N2 w1) C.1 e2 (c_X12_guards l D N2 w w1 (xs (i + 1)) (xs (i + 2)) (xs (i + 3)) (xs (i + 4)) (xs (i + 5)) r h2) lw_52_11 lw_52_12 lw_52_13 lw_1_5 lw_52_14 rfl rfl (by decide +kernel) ⟨Nat.le_of_ble_eq_true rfl, Nat.le_of_ble_eq_true rfl⟩ rfl rfl rfl rfl rfl (Nat.le_of_ble_eq_true rfl) (Nat.le_trans hc (Nat.le_of_ble_eq_true rfl)) (Nat.le_trans hs (Nat.le_of_ble_eq_true rfl)) dL_law_1285 ?_
  refine bw_rot2 ?_
  exact bw_icmp_eq (tgt := 1318) C.1 dL_law_1288 (by decide) (fun _ => K N1 z1 w1 rfl rfl hI1) (fun q => absurd rfl q)
theorem L_counted (C : LC p s m args c D A N b L xs) (hL : L ≤ 3072) (hi : i + 6 ≤ L) (e1 : N1.2.2 = N.2.2) (e2 : N2.2.2 = N.2.2) (a1 : N1.1 0 = ax) (a2 : N2.1 0 = am) (hI : Inv z w) (hc : nc ≤ 3600) (hs : ns ≤ 8000) (K : ∀ (N1' : Nm) (z' w' : St), N1'.2.2 = N1.2.2 → N1'.1 0 = N1.1 0 → Inv z' w' → Bw p l e room_1 s m args below meth c Q D A 7 nc ns (wC N1' z' ++ (wR N2 w' ++ oCell N qo fo)) 1318 (lvL b ax am qo i) []) : Bw p l e room_1 s m args below meth c Q D A 7 nc ns (wC N1 z ++ (wR N2 w ++ oCell N qo fo)) 1293 (lvL b ax am qo i) [] := by
  subst a1 a2
  obtain ⟨r, z1, w1, h1, h2, hI1⟩ := q_counted hI (xs (i + 1))
  refine bw_aload_n C.1 1 dL_law_1293 rfl ?_
  refine bw_arg (k := 1) C hL (by omega) (by decide) dL_law_1294 dL_law_1295 dL_law_1297 dL_law_1298 dL_law_1299 ?_
  refine bw_frontVi (n := 1) (As := [.int (xs (i + 1))]) (rest := []) (q0 := 0) (ci := 10) (w1 := wC N1 z1) C.1 e1 (c_X11_counted l D N1 z z1 (xs (i + 1)) r h1) lw_52_15 lw_52_16 lw_52_17 lw_1_2 lw_52_18 rfl rfl (by decide +kernel) ⟨Nat.le_of_ble_eq_true rfl, Nat.le_of_ble_eq_true rfl⟩ rfl rfl rfl rfl rfl (Nat.le_of_ble_eq_true rfl) (Nat.le_trans hc (Nat.le_of_ble_eq_true rfl)) (Nat.le_trans hs (Nat.le_of_ble_eq_true rfl)) dL_law_1300 ?_
  refine bw_rot1 ?_
  refine bw_aload_n C.1 2 dL_law_1303 rfl ?_
  refine bw_arg (k := 1) C hL (by omega) (by decide) dL_law_1304 dL_law_1305 dL_law_1307 dL_law_1308 dL_law_1309 ?_
  refine bw_frontVi (n := 1) (As := [.int (xs (i + 1))]) (rest := [.int r]) (q0 := 0) (ci := 11) (w1 := wR N2 w1) C.1 e2 (c_X12_counted l D N2 w w1 (xs (i + 1)) r h2) lw_52_22 lw_52_23 lw_53_0 lw_1_5 lw_53_1 rfl rfl (by decide +kernel) ⟨Nat.le_of_ble_eq_true rfl, Nat.le_of_ble_eq_true rfl⟩ rfl rfl rfl rfl rfl (Nat.le_of_ble_eq_true rfl) (Nat.le_trans hc (Nat.le_of_ble_eq_true rfl)) (Nat.le_trans hs (Nat.le_of_ble_eq_true rfl)) dL_law_1310 ?_
  refine bw_rot2 ?_
  exact bw_icmp_eq (tgt := 1318) C.1 dL_law_1313 (by decide) (fun _ => K N1 z1 w1 rfl rfl hI1) (fun q => absurd rfl q)
end LAWC
