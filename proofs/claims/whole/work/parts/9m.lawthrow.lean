/-! ===== the law's walk: the calls that may throw ===== -/
set_option maxRecDepth 100000 in
set_option maxHeartbeats 4000000 in
theorem k_append {G : ix_G} {xs : Nat → Int32} {sc L x i K : Nat} {h : ix_H} {P : iy_O → ix_H → Prop} {lv : List (Nat × Value)} {S : MS} (hL : L ≤ 3585) (hi : i + 7 ≤ L) (l0 : lv.lookup 0 = some (.ref sc)) (l1 : lv.lookup 1 = some (.ref x)) (l2 : lv.lookup 2 = some (.ref (x + 30))) (l3 : lv.lookup 3 = some (.ref (x + 74))) (l4 : lv.lookup 4 = some (.int (nI i))) (B : LB xs sc L x h) (C : cB h x S) (hS : ms h (x + 30) = S) (J : iJ K S) (kk : LC G xs sc L x i K h P) : iy_E G 0 173 lv [] h P := by
  obtain ⟨k, v, Q, oh, om, h3, J2⟩ := op_append (G := G) J (xs (i + 1)) (xs (i + 2)) (xs (i + 3)) ((xs (i + 4)).toInt64 <<< ((nI 32).toInt64 &&& 63) ||| (xs (i + 5)).toInt64 &&& 4294967295)
  refine iz_aload_n d0_173 l1 ?_
  refine iz_aload_n d0_174 l0 ?_
  refine iz_iload d0_175 l4 ?_
  refine iz_iconst (nI 1) d0_177 (by decide) ?_
  refine iz_iadd d0_178 ?_
  rw [nI_add]
  refine iz_iald d0_179 (Or.inr B.1.1) (by rw [B.1.2.1]; exact vp_nI (by omega) (by omega)) ?_
  rw [nI_clamp (by omega), B.1.2.2]
  refine iz_aload_n d0_180 l0 ?_
  refine iz_iload d0_181 l4 ?_
  refine iz_iconst (nI 2) d0_183 (by decide) ?_
  refine iz_iadd d0_184 ?_
  rw [nI_add]
  refine iz_iald d0_185 (Or.inr B.1.1) (by rw [B.1.2.1]; exact vp_nI (by omega) (by omega)) ?_
  rw [nI_clamp (by omega), B.1.2.2]
  refine iz_aload_n d0_186 l0 ?_
  refine iz_iload d0_187 l4 ?_
  refine iz_iconst (nI 3) d0_189 (by decide) ?_
  refine iz_iadd d0_190 ?_
  rw [nI_add]
  refine iz_iald d0_191 (Or.inr B.1.1) (by rw [B.1.2.1]; exact vp_nI (by omega) (by omega)) ?_
  rw [nI_clamp (by omega), B.1.2.2]
  refine iz_aload_n d0_192 l0 ?_
  refine iz_iload d0_193 l4 ?_
  refine iz_iconst (nI 4) d0_195 (by decide) ?_
  refine iz_iadd d0_196 ?_
  rw [nI_add]
  refine iz_iald d0_197 (Or.inr B.1.1) (by rw [B.1.2.1]; exact vp_nI (by omega) (by omega)) ?_
  rw [nI_clamp (by omega), B.1.2.2]
  refine iz_i2l d0_198 ?_
  refine iz_bipush (nI 32) d0_199 (by decide) ?_
  refine iz_lshl d0_201 ?_
  refine iz_aload_n d0_202 l0 ?_
  refine iz_iload d0_203 l4 ?_
  refine iz_iconst (nI 5) d0_205 (by decide) ?_
  refine iz_iadd d0_206 ?_
  rw [nI_add]
  refine iz_iald d0_207 (Or.inr B.1.1) (by rw [B.1.2.1]; exact vp_nI (by omega) (by omega)) ?_
  rw [nI_clamp (by omega), B.1.2.2]
  refine iz_i2l d0_208 ?_
  refine iz_ldc2 d0_209 wl0_49 ?_
  refine iz_land d0_212 ?_
  refine iz_lor d0_213 ?_
  refine iz_aload_n d0_214 l3 ?_
  refine iz_callSW (P1 := fun rv h1 => rv = some (.int k) ∧ lFo x h h1 20 1000 ∧ cB h1 x Q ∧ (k = 0 → ix_l h1 (x + 74) 0 = _)) [_, _, _, _, _, _] d0_215 yk102 rm0_102 cl0_51 rfl rfl (Nat.le_of_ble_eq_true rfl) (Nat.le_of_ble_eq_true rfl) (iz_mono (oh h x (x + 74) C B.2.2.1.1 B.2.2.1.2 (by have := B.2.2.2.1; omega)) (fun r h1 w => ⟨some (.int k), w.1, rfl, w.2⟩)) ?_
  rintro rv h1 ⟨rfl, p1, p2, p3⟩
  obtain ⟨B1, m1⟩ := B.c p1
  refine iz_istore d0_218 (by decide) ?_
  have a0 := ix_lk3 (i := 5) (v := .int k) (by decide) l0 rfl
  have a1 := ix_lk3 (i := 5) (v := .int k) (by decide) l1 rfl
  have a2 := ix_lk3 (i := 5) (v := .int k) (by decide) l2 rfl
  have a3 := ix_lk3 (i := 5) (v := .int k) (by decide) l3 rfl
  have a4 := ix_lk3 (i := 5) (v := .int k) (by decide) l4 rfl
  have a5 : (ix_set lv 5 (.int k)).lookup 5 = some (.int k) := ix_lk1
  generalize ix_set lv 5 (.int k) = lv1 at *
  refine iz_aload_n d0_220 a2 ?_
  refine iz_aload_n d0_221 a0 ?_
  refine iz_iload d0_222 a4 ?_
  refine iz_iconst (nI 1) d0_224 (by decide) ?_
  refine iz_iadd d0_225 ?_
  rw [nI_add]
  refine iz_iald d0_226 (Or.inr B1.1.1) (by rw [B1.1.2.1]; exact vp_nI (by omega) (by omega)) ?_
  rw [nI_clamp (by omega), B1.1.2.2]
  refine iz_aload_n d0_227 a0 ?_
  refine iz_iload d0_228 a4 ?_
  refine iz_iconst (nI 2) d0_230 (by decide) ?_
  refine iz_iadd d0_231 ?_
  rw [nI_add]
  refine iz_iald d0_232 (Or.inr B1.1.1) (by rw [B1.1.2.1]; exact vp_nI (by omega) (by omega)) ?_
  rw [nI_clamp (by omega), B1.1.2.2]
  refine iz_aload_n d0_233 a0 ?_
  refine iz_iload d0_234 a4 ?_
  refine iz_iconst (nI 3) d0_236 (by decide) ?_
  refine iz_iadd d0_237 ?_
  rw [nI_add]
  refine iz_iald d0_238 (Or.inr B1.1.1) (by rw [B1.1.2.1]; exact vp_nI (by omega) (by omega)) ?_
  rw [nI_clamp (by omega), B1.1.2.2]
  refine iz_aload_n d0_239 a0 ?_
  refine iz_iload d0_240 a4 ?_
  refine iz_iconst (nI 4) d0_242 (by decide) ?_
  refine iz_iadd d0_243 ?_
  rw [nI_add]
  refine iz_iald d0_244 (Or.inr B1.1.1) (by rw [B1.1.2.1]; exact vp_nI (by omega) (by omega)) ?_
  rw [nI_clamp (by omega), B1.1.2.2]
  refine iz_i2l d0_245 ?_
  refine iz_bipush (nI 32) d0_246 (by decide) ?_
  refine iz_lshl d0_248 ?_
  refine iz_aload_n d0_249 a0 ?_
  refine iz_iload d0_250 a4 ?_
  refine iz_iconst (nI 5) d0_252 (by decide) ?_
  refine iz_iadd d0_253 ?_
  rw [nI_add]
  refine iz_iald d0_254 (Or.inr B1.1.1) (by rw [B1.1.2.1]; exact vp_nI (by omega) (by omega)) ?_
  rw [nI_clamp (by omega), B1.1.2.2]
  refine iz_i2l d0_255 ?_
  refine iz_ldc2 d0_256 wl0_49 ?_
  refine iz_land d0_259 ?_
  refine iz_lor d0_260 ?_
  refine iz_callV [_, _, _, _] d0_261 ok119 rm0_119 cl0_54 rfl rfl (Nat.le_of_ble_eq_true rfl) (Nat.le_of_ble_eq_true rfl) B1.2.2.2.2.1 (om h1 (x + 30) B1.2.2.2.2 (m1.trans hS)) ?_
  rintro rv h2 ⟨rfl, q2⟩
  obtain ⟨B2, m2, n2, u2, g2⟩ := B1.m q2
  refine iz_istore d0_264 (by decide) ?_
  have b0 := ix_lk3 (i := 6) (v := .int v) (by decide) a0 rfl
  have b1 := ix_lk3 (i := 6) (v := .int v) (by decide) a1 rfl
  have b2 := ix_lk3 (i := 6) (v := .int v) (by decide) a2 rfl
  have b3 := ix_lk3 (i := 6) (v := .int v) (by decide) a3 rfl
  have b4 := ix_lk3 (i := 6) (v := .int v) (by decide) a4 rfl
  have b5 := ix_lk3 (i := 6) (v := .int v) (by decide) a5 rfl
  have b6 : (ix_set lv1 6 (.int v)).lookup 6 = some (.int v) := ix_lk1
  generalize ix_set lv1 6 (.int v) = lv2 at *
  have fin : iy_E G 0 995 lv2 [] h2 P := kk lv2 h2 Q b0 b1 b2 b3 b4 B2 (cB_mR J2.1.1.1 p2 B1.2.2.2.2 (Nat.le_refl _) q2) m2 J2 (by rw [n2]; exact p1.2.1) (by rw [u2]; exact p1.2.2.2.1)
  refine iz_aload_n d0_266 b2 ?_
  refine iz_callVx [] d0_267 ok115 rm0_115 cl0_55 rfl rfl (Nat.le_of_ble_eq_true rfl) (Nat.le_of_ble_eq_true rfl) B2.2.2.2.2.1 (s115 B2.2.2.2.2) ?_
  rw [m2, h3]
  refine iz_iload d0_270 b5 ?_
  refine iz_icmp_eq 277 d0_272 (by decide) (fun _ => ?_) (fun w => absurd rfl w)
  refine iz_iload d0_277 b5 ?_
  refine iz_if_ne 294 d0_279 (by decide) (fun _ => ?_) (fun z => ?_)
  · exact iz_goto 995 d0_294 (by decide) fin
  refine iz_aload_n d0_282 b3 ?_
  refine iz_iconst (nI 0) d0_283 (by decide) ?_
  refine iz_lald d0_284 B2.2.2.1.1 (by rw [B2.2.2.1.2]; exact vp_nI (by decide) (by decide)) ?_
  rw [show (nI 0).toNatClampNeg = 0 from by decide, g2, p3 z]
  refine iz_iload d0_285 b6 ?_
  refine iz_i2l d0_287 ?_
  refine iz_lcmp d0_288 ?_
  rw [cmp_0]
  refine iz_if_eq 294 d0_289 (by decide) (fun _ => ?_) (fun w => absurd rfl w)
  exact iz_goto 995 d0_294 (by decide) fin
set_option maxRecDepth 100000 in
set_option maxHeartbeats 4000000 in
theorem k_delete {G : ix_G} {xs : Nat → Int32} {sc L x i K : Nat} {h : ix_H} {P : iy_O → ix_H → Prop} {lv : List (Nat × Value)} {S : MS} (hL : L ≤ 3585) (hi : i + 7 ≤ L) (l0 : lv.lookup 0 = some (.ref sc)) (l1 : lv.lookup 1 = some (.ref x)) (l2 : lv.lookup 2 = some (.ref (x + 30))) (l3 : lv.lookup 3 = some (.ref (x + 74))) (l4 : lv.lookup 4 = some (.int (nI i))) (B : LB xs sc L x h) (C : cB h x S) (hS : ms h (x + 30) = S) (J : iJ K S) (kk : LC G xs sc L x i K h P) : iy_E G 0 297 lv [] h P := by
  obtain ⟨k, v, Q, oh, om, h3, J2⟩ := op_delete (G := G) J (xs (i + 1)) (xs (i + 2))
  refine iz_aload_n d0_297 l1 ?_
  refine iz_aload_n d0_298 l0 ?_
  refine iz_iload d0_299 l4 ?_
  refine iz_iconst (nI 1) d0_301 (by decide) ?_
  refine iz_iadd d0_302 ?_
  rw [nI_add]
  refine iz_iald d0_303 (Or.inr B.1.1) (by rw [B.1.2.1]; exact vp_nI (by omega) (by omega)) ?_
  rw [nI_clamp (by omega), B.1.2.2]
  refine iz_aload_n d0_304 l0 ?_
  refine iz_iload d0_305 l4 ?_
  refine iz_iconst (nI 2) d0_307 (by decide) ?_
  refine iz_iadd d0_308 ?_
  rw [nI_add]
  refine iz_iald d0_309 (Or.inr B.1.1) (by rw [B.1.2.1]; exact vp_nI (by omega) (by omega)) ?_
  rw [nI_clamp (by omega), B.1.2.2]
  refine iz_aload_n d0_310 l3 ?_
  refine iz_callSW (P1 := fun rv h1 => rv = some (.int k) ∧ lFo x h h1 20 1000 ∧ cB h1 x Q ∧ (k = 0 → ix_l h1 (x + 74) 0 = _)) [_, _, _, _] d0_311 yk105 rm0_105 cl0_59 rfl rfl (Nat.le_of_ble_eq_true rfl) (Nat.le_of_ble_eq_true rfl) (iz_mono (oh h x (x + 74) C B.2.2.1.1 B.2.2.1.2 (by have := B.2.2.2.1; omega)) (fun r h1 w => ⟨some (.int k), w.1, rfl, w.2⟩)) ?_
  rintro rv h1 ⟨rfl, p1, p2, p3⟩
  obtain ⟨B1, m1⟩ := B.c p1
  refine iz_istore d0_314 (by decide) ?_
  have a0 := ix_lk3 (i := 5) (v := .int k) (by decide) l0 rfl
  have a1 := ix_lk3 (i := 5) (v := .int k) (by decide) l1 rfl
  have a2 := ix_lk3 (i := 5) (v := .int k) (by decide) l2 rfl
  have a3 := ix_lk3 (i := 5) (v := .int k) (by decide) l3 rfl
  have a4 := ix_lk3 (i := 5) (v := .int k) (by decide) l4 rfl
  have a5 : (ix_set lv 5 (.int k)).lookup 5 = some (.int k) := ix_lk1
  generalize ix_set lv 5 (.int k) = lv1 at *
  refine iz_aload_n d0_316 a2 ?_
  refine iz_aload_n d0_317 a0 ?_
  refine iz_iload d0_318 a4 ?_
  refine iz_iconst (nI 1) d0_320 (by decide) ?_
  refine iz_iadd d0_321 ?_
  rw [nI_add]
  refine iz_iald d0_322 (Or.inr B1.1.1) (by rw [B1.1.2.1]; exact vp_nI (by omega) (by omega)) ?_
  rw [nI_clamp (by omega), B1.1.2.2]
  refine iz_aload_n d0_323 a0 ?_
  refine iz_iload d0_324 a4 ?_
  refine iz_iconst (nI 2) d0_326 (by decide) ?_
  refine iz_iadd d0_327 ?_
  rw [nI_add]
  refine iz_iald d0_328 (Or.inr B1.1.1) (by rw [B1.1.2.1]; exact vp_nI (by omega) (by omega)) ?_
  rw [nI_clamp (by omega), B1.1.2.2]
  refine iz_callV [_, _] d0_329 ok122 rm0_122 cl0_62 rfl rfl (Nat.le_of_ble_eq_true rfl) (Nat.le_of_ble_eq_true rfl) B1.2.2.2.2.1 (om h1 (x + 30) B1.2.2.2.2 (m1.trans hS)) ?_
  rintro rv h2 ⟨rfl, q2⟩
  obtain ⟨B2, m2, n2, u2, g2⟩ := B1.m q2
  refine iz_istore d0_332 (by decide) ?_
  have b0 := ix_lk3 (i := 6) (v := .int v) (by decide) a0 rfl
  have b1 := ix_lk3 (i := 6) (v := .int v) (by decide) a1 rfl
  have b2 := ix_lk3 (i := 6) (v := .int v) (by decide) a2 rfl
  have b3 := ix_lk3 (i := 6) (v := .int v) (by decide) a3 rfl
  have b4 := ix_lk3 (i := 6) (v := .int v) (by decide) a4 rfl
  have b5 := ix_lk3 (i := 6) (v := .int v) (by decide) a5 rfl
  have b6 : (ix_set lv1 6 (.int v)).lookup 6 = some (.int v) := ix_lk1
  generalize ix_set lv1 6 (.int v) = lv2 at *
  have fin : iy_E G 0 995 lv2 [] h2 P := kk lv2 h2 Q b0 b1 b2 b3 b4 B2 (cB_mR J2.1.1.1 p2 B1.2.2.2.2 (Nat.le_refl _) q2) m2 J2 (by rw [n2]; exact p1.2.1) (by rw [u2]; exact p1.2.2.2.1)
  refine iz_aload_n d0_334 b2 ?_
  refine iz_callVx [] d0_335 ok115 rm0_115 cl0_55 rfl rfl (Nat.le_of_ble_eq_true rfl) (Nat.le_of_ble_eq_true rfl) B2.2.2.2.2.1 (s115 B2.2.2.2.2) ?_
  rw [m2, h3]
  refine iz_iload d0_338 b5 ?_
  refine iz_icmp_eq 345 d0_340 (by decide) (fun _ => ?_) (fun w => absurd rfl w)
  refine iz_iload d0_345 b5 ?_
  refine iz_if_ne 369 d0_347 (by decide) (fun _ => ?_) (fun z => ?_)
  · exact iz_goto 995 d0_369 (by decide) fin
  refine iz_aload_n d0_350 b3 ?_
  refine iz_iconst (nI 0) d0_351 (by decide) ?_
  refine iz_lald d0_352 B2.2.2.1.1 (by rw [B2.2.2.1.2]; exact vp_nI (by decide) (by decide)) ?_
  rw [show (nI 0).toNatClampNeg = 0 from by decide, g2, p3 z]
  refine iz_iload d0_353 b6 ?_
  refine iz_if_eq 362 d0_355 (by decide) (fun z0 => ?_) (fun z0 => ?_)
  · refine iz_lconst 0 d0_362 (by decide) ?_
    rw [show (fun v : Int32 => if v = 0 then (0 : Int64) else 1) v = 0 from if_pos z0]
    refine iz_lcmp d0_363 ?_
    rw [cmp_0]
    refine iz_if_eq 369 d0_364 (by decide) (fun _ => ?_) (fun w => absurd rfl w)
    exact iz_goto 995 d0_369 (by decide) fin
  · refine iz_lconst 1 d0_358 (by decide) ?_
    refine iz_goto 363 d0_359 (by decide) ?_
    rw [show (fun v : Int32 => if v = 0 then (0 : Int64) else 1) v = 1 from if_neg z0]
    refine iz_lcmp d0_363 ?_
    rw [cmp_0]
    refine iz_if_eq 369 d0_364 (by decide) (fun _ => ?_) (fun w => absurd rfl w)
    exact iz_goto 995 d0_369 (by decide) fin
set_option maxRecDepth 100000 in
set_option maxHeartbeats 4000000 in
theorem k_at {G : ix_G} {xs : Nat → Int32} {sc L x i K : Nat} {h : ix_H} {P : iy_O → ix_H → Prop} {lv : List (Nat × Value)} {S : MS} (hL : L ≤ 3585) (hi : i + 7 ≤ L) (l0 : lv.lookup 0 = some (.ref sc)) (l1 : lv.lookup 1 = some (.ref x)) (l2 : lv.lookup 2 = some (.ref (x + 30))) (l3 : lv.lookup 3 = some (.ref (x + 74))) (l4 : lv.lookup 4 = some (.int (nI i))) (B : LB xs sc L x h) (C : cB h x S) (hS : ms h (x + 30) = S) (J : iJ K S) (kk : LC G xs sc L x i K h P) : iy_E G 0 409 lv [] h P := by
  obtain ⟨k, v, Q, oh, om, h3, J2⟩ := op_at (G := G) J (xs (i + 1)) (xs (i + 2)) (xs (i + 3))
  refine iz_aload_n d0_409 l1 ?_
  refine iz_aload_n d0_410 l0 ?_
  refine iz_iload d0_411 l4 ?_
  refine iz_iconst (nI 1) d0_413 (by decide) ?_
  refine iz_iadd d0_414 ?_
  rw [nI_add]
  refine iz_iald d0_415 (Or.inr B.1.1) (by rw [B.1.2.1]; exact vp_nI (by omega) (by omega)) ?_
  rw [nI_clamp (by omega), B.1.2.2]
  refine iz_aload_n d0_416 l0 ?_
  refine iz_iload d0_417 l4 ?_
  refine iz_iconst (nI 2) d0_419 (by decide) ?_
  refine iz_iadd d0_420 ?_
  rw [nI_add]
  refine iz_iald d0_421 (Or.inr B.1.1) (by rw [B.1.2.1]; exact vp_nI (by omega) (by omega)) ?_
  rw [nI_clamp (by omega), B.1.2.2]
  refine iz_aload_n d0_422 l0 ?_
  refine iz_iload d0_423 l4 ?_
  refine iz_iconst (nI 3) d0_425 (by decide) ?_
  refine iz_iadd d0_426 ?_
  rw [nI_add]
  refine iz_iald d0_427 (Or.inr B.1.1) (by rw [B.1.2.1]; exact vp_nI (by omega) (by omega)) ?_
  rw [nI_clamp (by omega), B.1.2.2]
  refine iz_aload_n d0_428 l3 ?_
  refine iz_callSW (P1 := fun rv h1 => rv = some (.int k) ∧ lFo x h h1 20 1000 ∧ cB h1 x Q ∧ (k = 0 → ix_l h1 (x + 74) 0 = _)) [_, _, _, _, _] d0_429 yk107 rm0_107 cl0_68 rfl rfl (Nat.le_of_ble_eq_true rfl) (Nat.le_of_ble_eq_true rfl) (iz_mono (oh h x (x + 74) C B.2.2.1.1 B.2.2.1.2 (by have := B.2.2.2.1; omega)) (fun r h1 w => ⟨some (.int k), w.1, rfl, w.2⟩)) ?_
  rintro rv h1 ⟨rfl, p1, p2, p3⟩
  obtain ⟨B1, m1⟩ := B.c p1
  refine iz_istore d0_432 (by decide) ?_
  have a0 := ix_lk3 (i := 5) (v := .int k) (by decide) l0 rfl
  have a1 := ix_lk3 (i := 5) (v := .int k) (by decide) l1 rfl
  have a2 := ix_lk3 (i := 5) (v := .int k) (by decide) l2 rfl
  have a3 := ix_lk3 (i := 5) (v := .int k) (by decide) l3 rfl
  have a4 := ix_lk3 (i := 5) (v := .int k) (by decide) l4 rfl
  have a5 : (ix_set lv 5 (.int k)).lookup 5 = some (.int k) := ix_lk1
  generalize ix_set lv 5 (.int k) = lv1 at *
  refine iz_aload_n d0_434 a2 ?_
  refine iz_aload_n d0_435 a0 ?_
  refine iz_iload d0_436 a4 ?_
  refine iz_iconst (nI 1) d0_438 (by decide) ?_
  refine iz_iadd d0_439 ?_
  rw [nI_add]
  refine iz_iald d0_440 (Or.inr B1.1.1) (by rw [B1.1.2.1]; exact vp_nI (by omega) (by omega)) ?_
  rw [nI_clamp (by omega), B1.1.2.2]
  refine iz_aload_n d0_441 a0 ?_
  refine iz_iload d0_442 a4 ?_
  refine iz_iconst (nI 2) d0_444 (by decide) ?_
  refine iz_iadd d0_445 ?_
  rw [nI_add]
  refine iz_iald d0_446 (Or.inr B1.1.1) (by rw [B1.1.2.1]; exact vp_nI (by omega) (by omega)) ?_
  rw [nI_clamp (by omega), B1.1.2.2]
  refine iz_aload_n d0_447 a0 ?_
  refine iz_iload d0_448 a4 ?_
  refine iz_iconst (nI 3) d0_450 (by decide) ?_
  refine iz_iadd d0_451 ?_
  rw [nI_add]
  refine iz_iald d0_452 (Or.inr B1.1.1) (by rw [B1.1.2.1]; exact vp_nI (by omega) (by omega)) ?_
  rw [nI_clamp (by omega), B1.1.2.2]
  refine iz_callV [_, _, _] d0_453 ok124 rm0_124 cl0_71 rfl rfl (Nat.le_of_ble_eq_true rfl) (Nat.le_of_ble_eq_true rfl) B1.2.2.2.2.1 (om h1 (x + 30) B1.2.2.2.2 (m1.trans hS)) ?_
  rintro rv h2 ⟨rfl, q2⟩
  obtain ⟨B2, m2, n2, u2, g2⟩ := B1.m q2
  refine iz_istore d0_456 (by decide) ?_
  have b0 := ix_lk3 (i := 6) (v := .int v) (by decide) a0 rfl
  have b1 := ix_lk3 (i := 6) (v := .int v) (by decide) a1 rfl
  have b2 := ix_lk3 (i := 6) (v := .int v) (by decide) a2 rfl
  have b3 := ix_lk3 (i := 6) (v := .int v) (by decide) a3 rfl
  have b4 := ix_lk3 (i := 6) (v := .int v) (by decide) a4 rfl
  have b5 := ix_lk3 (i := 6) (v := .int v) (by decide) a5 rfl
  have b6 : (ix_set lv1 6 (.int v)).lookup 6 = some (.int v) := ix_lk1
  generalize ix_set lv1 6 (.int v) = lv2 at *
  have fin : iy_E G 0 995 lv2 [] h2 P := kk lv2 h2 Q b0 b1 b2 b3 b4 B2 (cB_mR J2.1.1.1 p2 B1.2.2.2.2 (Nat.le_refl _) q2) m2 J2 (by rw [n2]; exact p1.2.1) (by rw [u2]; exact p1.2.2.2.1)
  refine iz_aload_n d0_458 b2 ?_
  refine iz_callVx [] d0_459 ok115 rm0_115 cl0_55 rfl rfl (Nat.le_of_ble_eq_true rfl) (Nat.le_of_ble_eq_true rfl) B2.2.2.2.2.1 (s115 B2.2.2.2.2) ?_
  rw [m2, h3]
  refine iz_iload d0_462 b5 ?_
  refine iz_icmp_eq 469 d0_464 (by decide) (fun _ => ?_) (fun w => absurd rfl w)
  refine iz_iload d0_469 b5 ?_
  refine iz_if_ne 486 d0_471 (by decide) (fun _ => ?_) (fun z => ?_)
  · exact iz_goto 995 d0_486 (by decide) fin
  refine iz_aload_n d0_474 b3 ?_
  refine iz_iconst (nI 0) d0_475 (by decide) ?_
  refine iz_lald d0_476 B2.2.2.1.1 (by rw [B2.2.2.1.2]; exact vp_nI (by decide) (by decide)) ?_
  rw [show (nI 0).toNatClampNeg = 0 from by decide, g2, p3 z]
  refine iz_iload d0_477 b6 ?_
  refine iz_i2l d0_479 ?_
  refine iz_lcmp d0_480 ?_
  rw [cmp_0]
  refine iz_if_eq 486 d0_481 (by decide) (fun _ => ?_) (fun w => absurd rfl w)
  exact iz_goto 995 d0_486 (by decide) fin
set_option maxRecDepth 100000 in
set_option maxHeartbeats 4000000 in
theorem k_put {G : ix_G} {xs : Nat → Int32} {sc L x i K : Nat} {h : ix_H} {P : iy_O → ix_H → Prop} {lv : List (Nat × Value)} {S : MS} (hL : L ≤ 3585) (hi : i + 7 ≤ L) (l0 : lv.lookup 0 = some (.ref sc)) (l1 : lv.lookup 1 = some (.ref x)) (l2 : lv.lookup 2 = some (.ref (x + 30))) (l3 : lv.lookup 3 = some (.ref (x + 74))) (l4 : lv.lookup 4 = some (.int (nI i))) (B : LB xs sc L x h) (C : cB h x S) (hS : ms h (x + 30) = S) (J : iJ K S) (hK : K ≤ 512) (kk : LC G xs sc L x i K h P) : iy_E G 0 489 lv [] h P := by
  obtain ⟨k, v, Q, oh, om, h3, J2⟩ := op_put (G := G) J hK (xs (i + 1)) (xs (i + 2)) (xs (i + 3)) (xs (i + 4)) (xs (i + 5)) (xs (i + 6))
  refine iz_aload_n d0_489 l1 ?_
  refine iz_aload_n d0_490 l0 ?_
  refine iz_iload d0_491 l4 ?_
  refine iz_iconst (nI 1) d0_493 (by decide) ?_
  refine iz_iadd d0_494 ?_
  rw [nI_add]
  refine iz_iald d0_495 (Or.inr B.1.1) (by rw [B.1.2.1]; exact vp_nI (by omega) (by omega)) ?_
  rw [nI_clamp (by omega), B.1.2.2]
  refine iz_aload_n d0_496 l0 ?_
  refine iz_iload d0_497 l4 ?_
  refine iz_iconst (nI 2) d0_499 (by decide) ?_
  refine iz_iadd d0_500 ?_
  rw [nI_add]
  refine iz_iald d0_501 (Or.inr B.1.1) (by rw [B.1.2.1]; exact vp_nI (by omega) (by omega)) ?_
  rw [nI_clamp (by omega), B.1.2.2]
  refine iz_aload_n d0_502 l0 ?_
  refine iz_iload d0_503 l4 ?_
  refine iz_iconst (nI 3) d0_505 (by decide) ?_
  refine iz_iadd d0_506 ?_
  rw [nI_add]
  refine iz_iald d0_507 (Or.inr B.1.1) (by rw [B.1.2.1]; exact vp_nI (by omega) (by omega)) ?_
  rw [nI_clamp (by omega), B.1.2.2]
  refine iz_aload_n d0_508 l0 ?_
  refine iz_iload d0_509 l4 ?_
  refine iz_iconst (nI 4) d0_511 (by decide) ?_
  refine iz_iadd d0_512 ?_
  rw [nI_add]
  refine iz_iald d0_513 (Or.inr B.1.1) (by rw [B.1.2.1]; exact vp_nI (by omega) (by omega)) ?_
  rw [nI_clamp (by omega), B.1.2.2]
  refine iz_aload_n d0_514 l0 ?_
  refine iz_iload d0_515 l4 ?_
  refine iz_iconst (nI 5) d0_517 (by decide) ?_
  refine iz_iadd d0_518 ?_
  rw [nI_add]
  refine iz_iald d0_519 (Or.inr B.1.1) (by rw [B.1.2.1]; exact vp_nI (by omega) (by omega)) ?_
  rw [nI_clamp (by omega), B.1.2.2]
  refine iz_aload_n d0_520 l0 ?_
  refine iz_iload d0_521 l4 ?_
  refine iz_bipush (nI 6) d0_523 (by decide) ?_
  refine iz_iadd d0_525 ?_
  rw [nI_add]
  refine iz_iald d0_526 (Or.inr B.1.1) (by rw [B.1.2.1]; exact vp_nI (by omega) (by omega)) ?_
  rw [nI_clamp (by omega), B.1.2.2]
  refine iz_aload_n d0_527 l3 ?_
  refine iz_callSW (P1 := fun rv h1 => rv = some (.int k) ∧ lFo x h h1 20 1000 ∧ cB h1 x Q ∧ (k = 0 → ix_l h1 (x + 74) 0 = _)) [_, _, _, _, _, _, _, _] d0_528 yk109 rm0_109 cl0_72 rfl rfl (Nat.le_of_ble_eq_true rfl) (Nat.le_of_ble_eq_true rfl) (iz_mono (oh h x (x + 74) C B.2.2.1.1 B.2.2.1.2 (by have := B.2.2.2.1; omega)) (fun r h1 w => ⟨some (.int k), w.1, rfl, w.2⟩)) ?_
  rintro rv h1 ⟨rfl, p1, p2, p3⟩
  obtain ⟨B1, m1⟩ := B.c p1
  refine iz_istore d0_531 (by decide) ?_
  have a0 := ix_lk3 (i := 5) (v := .int k) (by decide) l0 rfl
  have a1 := ix_lk3 (i := 5) (v := .int k) (by decide) l1 rfl
  have a2 := ix_lk3 (i := 5) (v := .int k) (by decide) l2 rfl
  have a3 := ix_lk3 (i := 5) (v := .int k) (by decide) l3 rfl
  have a4 := ix_lk3 (i := 5) (v := .int k) (by decide) l4 rfl
  have a5 : (ix_set lv 5 (.int k)).lookup 5 = some (.int k) := ix_lk1
  generalize ix_set lv 5 (.int k) = lv1 at *
  refine iz_aload_n d0_533 a2 ?_
  refine iz_aload_n d0_534 a0 ?_
  refine iz_iload d0_535 a4 ?_
  refine iz_iconst (nI 1) d0_537 (by decide) ?_
  refine iz_iadd d0_538 ?_
  rw [nI_add]
  refine iz_iald d0_539 (Or.inr B1.1.1) (by rw [B1.1.2.1]; exact vp_nI (by omega) (by omega)) ?_
  rw [nI_clamp (by omega), B1.1.2.2]
  refine iz_aload_n d0_540 a0 ?_
  refine iz_iload d0_541 a4 ?_
  refine iz_iconst (nI 2) d0_543 (by decide) ?_
  refine iz_iadd d0_544 ?_
  rw [nI_add]
  refine iz_iald d0_545 (Or.inr B1.1.1) (by rw [B1.1.2.1]; exact vp_nI (by omega) (by omega)) ?_
  rw [nI_clamp (by omega), B1.1.2.2]
  refine iz_aload_n d0_546 a0 ?_
  refine iz_iload d0_547 a4 ?_
  refine iz_iconst (nI 3) d0_549 (by decide) ?_
  refine iz_iadd d0_550 ?_
  rw [nI_add]
  refine iz_iald d0_551 (Or.inr B1.1.1) (by rw [B1.1.2.1]; exact vp_nI (by omega) (by omega)) ?_
  rw [nI_clamp (by omega), B1.1.2.2]
  refine iz_aload_n d0_552 a0 ?_
  refine iz_iload d0_553 a4 ?_
  refine iz_iconst (nI 4) d0_555 (by decide) ?_
  refine iz_iadd d0_556 ?_
  rw [nI_add]
  refine iz_iald d0_557 (Or.inr B1.1.1) (by rw [B1.1.2.1]; exact vp_nI (by omega) (by omega)) ?_
  rw [nI_clamp (by omega), B1.1.2.2]
  refine iz_aload_n d0_558 a0 ?_
  refine iz_iload d0_559 a4 ?_
  refine iz_iconst (nI 5) d0_561 (by decide) ?_
  refine iz_iadd d0_562 ?_
  rw [nI_add]
  refine iz_iald d0_563 (Or.inr B1.1.1) (by rw [B1.1.2.1]; exact vp_nI (by omega) (by omega)) ?_
  rw [nI_clamp (by omega), B1.1.2.2]
  refine iz_aload_n d0_564 a0 ?_
  refine iz_iload d0_565 a4 ?_
  refine iz_bipush (nI 6) d0_567 (by decide) ?_
  refine iz_iadd d0_569 ?_
  rw [nI_add]
  refine iz_iald d0_570 (Or.inr B1.1.1) (by rw [B1.1.2.1]; exact vp_nI (by omega) (by omega)) ?_
  rw [nI_clamp (by omega), B1.1.2.2]
  refine iz_callV [_, _, _, _, _, _] d0_571 ok125 rm0_125 cl0_75 rfl rfl (Nat.le_of_ble_eq_true rfl) (Nat.le_of_ble_eq_true rfl) B1.2.2.2.2.1 (om h1 (x + 30) B1.2.2.2.2 (m1.trans hS)) ?_
  rintro rv h2 ⟨rfl, q2⟩
  obtain ⟨B2, m2, n2, u2, g2⟩ := B1.m q2
  refine iz_istore d0_574 (by decide) ?_
  have b0 := ix_lk3 (i := 6) (v := .int v) (by decide) a0 rfl
  have b1 := ix_lk3 (i := 6) (v := .int v) (by decide) a1 rfl
  have b2 := ix_lk3 (i := 6) (v := .int v) (by decide) a2 rfl
  have b3 := ix_lk3 (i := 6) (v := .int v) (by decide) a3 rfl
  have b4 := ix_lk3 (i := 6) (v := .int v) (by decide) a4 rfl
  have b5 := ix_lk3 (i := 6) (v := .int v) (by decide) a5 rfl
  have b6 : (ix_set lv1 6 (.int v)).lookup 6 = some (.int v) := ix_lk1
  generalize ix_set lv1 6 (.int v) = lv2 at *
  have fin : iy_E G 0 995 lv2 [] h2 P := kk lv2 h2 Q b0 b1 b2 b3 b4 B2 (cB_mR J2.1.1.1 p2 B1.2.2.2.2 (Nat.le_refl _) q2) m2 J2 (by rw [n2]; exact p1.2.1) (by rw [u2]; exact p1.2.2.2.1)
  refine iz_aload_n d0_576 b2 ?_
  refine iz_callVx [] d0_577 ok115 rm0_115 cl0_55 rfl rfl (Nat.le_of_ble_eq_true rfl) (Nat.le_of_ble_eq_true rfl) B2.2.2.2.2.1 (s115 B2.2.2.2.2) ?_
  rw [m2, h3]
  refine iz_iload d0_580 b5 ?_
  refine iz_icmp_eq 587 d0_582 (by decide) (fun _ => ?_) (fun w => absurd rfl w)
  refine iz_iload d0_587 b5 ?_
  refine iz_if_ne 604 d0_589 (by decide) (fun _ => ?_) (fun z => ?_)
  · exact iz_goto 995 d0_604 (by decide) fin
  refine iz_aload_n d0_592 b3 ?_
  refine iz_iconst (nI 0) d0_593 (by decide) ?_
  refine iz_lald d0_594 B2.2.2.1.1 (by rw [B2.2.2.1.2]; exact vp_nI (by decide) (by decide)) ?_
  rw [show (nI 0).toNatClampNeg = 0 from by decide, g2, p3 z]
  refine iz_iload d0_595 b6 ?_
  refine iz_i2l d0_597 ?_
  refine iz_lcmp d0_598 ?_
  rw [cmp_0]
  refine iz_if_eq 604 d0_599 (by decide) (fun _ => ?_) (fun w => absurd rfl w)
  exact iz_goto 995 d0_604 (by decide) fin
