/-! ===== FileDelivery.<init> ===== -/
theorem as_side : ix_AS 4 5 := ⟨by decide, by decide, rfl, "FileDelivery$Side", rfl, Or.inl rfl⟩
theorem cFx1_of {h : ix_H} {x e D : Nat} (p : sdF h (cS0 x e) D 3) (r : ix_r h (x + 1) e = some (cS0 x e)) : cFx1 h x e ∧ (∀ f, f < 6 → ix_i h (cSz x e) f = -1 ∧ ∀ j, ix_i h (cBr x e f) j = 0) ∧ ∀ i, i < 3 → ix_r h (cLs x e i) 0 = some D ∧ ix_i h (cLs x e i) 1 = 0 := by
  obtain ⟨p1, p2, ⟨q1, q2, q3, q4, q5, q6, q7, q8⟩, p4⟩ := p
  have e1 : cS0 x e + 1 = cSt x e := by unfold cS0 cSt; omega
  have e2 : cS0 x e + 1 + 1 = cBs x e := by unfold cS0 cBs; omega
  have e3 : cS0 x e + 1 + 8 = cSz x e := by unfold cS0 cSz; omega
  have e4 : ∀ f, cS0 x e + 1 + 2 + f = cBr x e f := fun f => by unfold cS0 cBr; omega
  have e5 : ∀ i, cS0 x e + 10 + i = cLs x e i := fun i => by unfold cS0 cLs; omega
  simp only [e4] at q8
  simp only [e5] at p4
  rw [e2] at q2 q4 q5 q8
  rw [e3] at q3 q6 q7 q8
  rw [e1] at p2 q1 q2 q3
  refine ⟨⟨r, p1, p2, fun i hi => ⟨(p4 i hi).1, (p4 i hi).2.1⟩, q1, q2, q3, q4, q5, q6, q7, fun f hf => ⟨(q8 f hf).1, (q8 f hf).2.1, (q8 f hf).2.2.1⟩⟩, fun f hf => ⟨(q8 f hf).2.2.2.2, (q8 f hf).2.2.2.1⟩, fun i hi => ⟨(p4 i hi).2.2.1, (p4 i hi).2.2.2⟩⟩
/-- the relation at the start -/
theorem cB_new {h : ix_H} {x D : Nat} {y : Int32} (t0 : ix_tg h x = 1) (r1 : ix_r h x 1 = some (x + 1)) (r2 : ix_r h x 2 = some (x + 28)) (i0 : ix_i h x 0 = y) (i3 : ix_i h x 3 = 0) (t1 : ix_tg h (x + 1) = 105) (l1 : ix_ln h (x + 1) = 2) (ra : ix_r h (x + 1) 0 = some (x + 2)) (rb : ix_r h (x + 1) 1 = some (x + 15)) (s0 : sdF h (x + 2) D 3) (s1 : sdF h (x + 15) D 3) (t28 : ix_tg h (x + 28) = 2) (r28 : ix_r h (x + 28) 0 = some (x + 29)) (i28 : ix_i h (x + 28) 1 = 0) (t29 : ix_tg h (x + 29) = 106) (l29 : ix_ln h (x + 29) = 24) (hz : cNx h) (tD : ix_tg h D = 207) (lD : ix_ln h D = 0) : cB h x (mset (fun _ _ => 0) 0 0 y) := by
  have z : ∀ k j, k ≠ 0 → mset (fun _ _ => 0) 0 0 y k j = 0 := fun k j hk => by rw [mset_k hk]
  have nv : ∀ t, ¬ vT (mset (fun _ _ => 0) 0 0 y) t := fun t w => by
    have h2 := w.2.2
    have h1 := w.2.1
    unfold nN at h2
    rw [z _ _ (by decide), show (0 : Int32).toNatClampNeg = 0 from by decide] at h2
    omega
  have A : ∀ e, e < 2 → cFx1 h x e ∧ (∀ f, f < 6 → ix_i h (cSz x e) f = -1 ∧ ∀ j, ix_i h (cBr x e f) j = 0) ∧ ∀ i, i < 3 → ix_r h (cLs x e i) 0 = some D ∧ ix_i h (cLs x e i) 1 = 0 := fun e he => by
    by_cases q : e = 0
    · subst q
      exact cFx1_of (D := D) (by show sdF h (x + 2 + 13 * 0) D 3; exact s0) ra
    · have : e = 1 := by omega
      subst this
      exact cFx1_of (D := D) (by show sdF h (x + 2 + 13 * 1) D 3; rw [show x + 2 + 13 * 1 = x + 15 by omega]; exact s1) (by rw [rb]; congr 1)
  have zc : (0 : Int32).toNatClampNeg = 0 := by decide
  have li : ∀ e i, e < 2 → i < 3 → cLi h (cLs x e i) D [] := fun e i he hi => ⟨((A e he).2.2 i hi).1, by rw [((A e he).2.2 i hi).2]; decide, Nat.zero_le _, by rw [lD]; decide, Or.inr ⟨tD, lD⟩, fun i b hb => by cases hb⟩
  have n0 : ∀ e, nN (mset (fun _ _ => 0) 0 0 y) e = 0 := fun e => by unfold nN; rw [z _ _ (by decide), zc]
  have g0 : gU (mset (fun _ _ => 0) 0 0 y) = 0 := by unfold gU; rw [z _ _ (by decide), zc]
  have w0 : ∀ A B e, B ≠ 0 → rowL (mset (fun _ _ => 0) 0 0 y) A B e = [] := fun A B e hB => by
    unfold rowL cP
    rw [z _ _ hB, zc]
    rfl
  refine ⟨by rw [i3, z _ _ (by decide)], fun _ => 0, fun _ => 0, fun _ => 0, fun _ => 0, fun _ => D, fun _ => [], fun _ => [], ⟨⟨t0, r1, r2, t1, l1, t28, r28, t29, l29, fun e he => (A e he).1⟩, hz, by rw [i0, mset_s], fun e f he hf => ⟨?_, fun i _ => ?_, fun q => absurd (z _ _ (by decide)) q⟩, fun t v => absurd v (nv t), ⟨by show ix_i h (x + 28) 1 = _; rw [i28, z _ _ (by decide)], fun j hj => absurd hj (by rw [g0]; omega), fun j hj => absurd hj (by rw [g0]; omega)⟩, ⟨fun e he => ⟨by rw [n0]; exact li e 0 he (by decide), li e 1 he (by decide), li e 2 he (by decide)⟩, fun i _ k _ _ q => absurd q (by rw [tD]; decide), fun i _ q => absurd q (by rw [tD]; decide)⟩, fun e _ => ⟨fun t q => absurd q List.not_mem_nil, fun t q => absurd q List.not_mem_nil, List.nodup_nil, List.nodup_nil, w0 _ _ _ (by decide), w0 _ _ _ (by decide)⟩⟩, fun e _ => ⟨fun t q => absurd q List.not_mem_nil, fun t q => absurd q List.not_mem_nil⟩⟩
  · rw [((A e he).2.1 f hf).1, if_pos (z _ _ (by decide))]
  · rw [((A e he).2.1 f hf).2]
    unfold b8
    decide
set_option maxRecDepth 100000 in
set_option maxHeartbeats 4000000 in
theorem s1 {G : ix_G} {h : ix_H} {x : Nat} (tx : ix_tg h x = 1) (hn : ix_nx h = x + 1) (hz : cNx h) (tD : ix_tg h G.2.2.2.1 = 207) (lD : ix_ln h G.2.2.2.1 = 0) (hD : G.2.2.2.1 < x) (y : Int32) : iy_E G 1 0 (lv_args 0 [.ref x, .int y]) [] h (fun r h' => r = .inl none ∧ ix_nx h' = x + 30 ∧ ix_us h' = ix_us h + 850 ∧ (∀ b, b < x → ceL h h' b) ∧ cB h' x (mset (fun _ _ => 0) 0 0 (nI 4 + (y &&& nI 7)))) := by
  refine iz_aload_n d1_0 rfl ?_
  refine iz_objI d1_1 oi1_1 oi_I oi_C (by decide) (Nat.le_of_ble_eq_true rfl) ?_
  refine iz_aload_n d1_4 rfl ?_
  refine iz_iconst (nI 4) d1_5 (by decide) ?_
  refine iz_iload_n d1_6 rfl ?_
  refine iz_bipush (nI 7) d1_7 (by decide) ?_
  refine iz_iand d1_9 ?_
  refine iz_iadd d1_10 ?_
  refine iz_puti d1_11 fl1_7 (Or.inr ⟨rfl, rfl, rfl⟩) tx rfl rfl ?_
  refine iz_aload_n d1_14 rfl ?_
  refine iz_iconst (nI 2) d1_15 (by decide) ?_
  refine iz_anew (t := 5) (N := 2) d1_16 (by decide) rfl (Or.inl rfl) an1_13 rfl (by decide) ?_
  show iy_E G 1 19 _ [.ref (ix_nx h), .ref x] (ix_nw (ix_si h x 0 (nI 4 + (y &&& nI 7))) 105 2 2) _
  generalize e2 : ix_nw (ix_si h x 0 (nI 4 + (y &&& nI 7))) 105 2 2 = k2
  rw [hn]
  have n2 : ix_nx k2 = x + 2 := by rw [← e2, ix_nx_nw]; show ix_nx h + 1 = _; omega
  have u2 : ix_us k2 = ix_us h + 2 := by rw [← e2]; rfl
  have c2 : ∀ b, b < x → ceL h k2 b := fun b hb => by
    rw [← e2]
    exact (ceL_si (by omega)).tr (ceL_nw (by show b ≠ ix_nx h; omega))
  have z2 : cNx k2 := fun b hb => by
    rw [n2] at hb
    rw [← e2, ix_tg_nw, if_neg (by show b ≠ ix_nx h; omega)]
    exact hz b (by omega)
  have t2 : ix_tg k2 (x + 1) = 105 ∧ ix_ln k2 (x + 1) = 2 ∧ ix_tg k2 x = 1 ∧ ix_i k2 x 0 = nI 4 + (y &&& nI 7) := by
    rw [← e2]
    refine ⟨by rw [ix_tg_nw, if_pos (by show x + 1 = ix_nx h; omega)], by rw [ix_ln_nw, if_pos (by show x + 1 = ix_nx h; omega)], by rw [ix_tg_nw, if_neg (by show x ≠ ix_nx h; omega)]; exact tx, by rw [ix_i_nw, if_neg (by show x ≠ ix_nx h; omega), ix_i_si, if_pos ⟨rfl, rfl⟩]⟩
  clear e2
  refine iz_dup d1_19 rfl ?_
  refine iz_iconst (nI 0) d1_20 (by decide) ?_
  refine iz_new d1_21 nl1_13 ?_
  refine iz_dup d1_24 rfl ?_
  have nw_z : ∀ (k : ix_H) (t n w : Nat), cNx k → cNx (ix_nw k t n w) := fun k t n w hk b hb => by
    rw [ix_nx_nw] at hb
    rw [ix_tg_nw, if_neg (by omega)]
    exact hk b (by omega)
  refine iz_callIY [] d1_25 ok2 rfl rm1_2 cl1_15 rfl rfl (Nat.le_of_ble_eq_true rfl) (Nat.le_of_ble_eq_true rfl) (s2 (a := ix_nx k2) (by show ix_tg (ix_nw k2 5 0 4) _ = 5; rw [ix_tg_nw, if_pos rfl]) rfl (nw_z _ _ _ _ z2)) ?_
  intro k4 H4
  rw [n2] at H4 ⊢
  obtain ⟨n4, u4, z4, c4, f4⟩ := H4
  have u4' : ix_us k4 = ix_us h + 413 := by rw [u4]; show ix_us k2 + 4 + 407 = _; omega
  have q4 : ∀ b, b < x + 2 → ceL k2 k4 b := fun b hb => (ceL_nw (t := 5) (n := 0) (w := 4) (h := k2) (by omega)).tr (c4 b hb)
  have w4 := q4 (x + 1) (by omega)
  refine iz_aast (t := 5) d1_28 as_side (by rw [w4.1.1]; exact t2.1) f4.1 (by rw [w4.1.2.1, t2.2.1]; exact vp_nI (by decide) (by decide)) ?_
  rw [show (nI 0).toNatClampNeg = 0 from by decide]
  generalize e5 : ix_sr k4 (x + 1) 0 (some (x + 2)) = k5
  have c5 : ∀ b, b ≠ x + 1 → ceL k4 k5 b := fun b hb => by rw [← e5]; exact ceL_sr hb
  have n5 : ix_nx k5 = x + 15 := by rw [← e5]; exact n4
  have u5 : ix_us k5 = ix_us h + 413 := by rw [← e5]; exact u4'
  have z5 : cNx k5 := fun b hb => by
    rw [← e5]
    rw [n5] at hb
    exact z4 b (by omega)
  have t5 : ix_tg k5 (x + 1) = 105 ∧ ix_ln k5 (x + 1) = 2 ∧ ix_r k5 (x + 1) 0 = some (x + 2) := by
    rw [← e5]
    exact ⟨by show ix_tg k4 _ = _; rw [w4.1.1]; exact t2.1, by show ix_ln k4 _ = _; rw [w4.1.2.1]; exact t2.2.1, by rw [ix_r_sr, if_pos ⟨rfl, rfl⟩]⟩
  have f5 : sdF k5 (x + 2) G.2.2.2.1 3 := f4.fr (fun b h1 _ => c5 b (by omega))
  clear e5
  refine iz_dup d1_29 rfl ?_
  refine iz_iconst (nI 1) d1_30 (by decide) ?_
  refine iz_new d1_31 nl1_13 ?_
  refine iz_dup d1_34 rfl ?_
  refine iz_callIY [] d1_35 ok2 rfl rm1_2 cl1_15 rfl rfl (Nat.le_of_ble_eq_true rfl) (Nat.le_of_ble_eq_true rfl) (s2 (a := ix_nx k5) (by show ix_tg (ix_nw k5 5 0 4) _ = 5; rw [ix_tg_nw, if_pos rfl]) rfl (nw_z _ _ _ _ z5)) ?_
  intro k7 H7
  rw [n5] at H7 ⊢
  obtain ⟨n7, u7, z7, c7, f7⟩ := H7
  have u7' : ix_us k7 = ix_us h + 824 := by rw [u7]; show ix_us k5 + 4 + 407 = _; omega
  have q7 : ∀ b, b < x + 15 → ceL k5 k7 b := fun b hb => (ceL_nw (t := 5) (n := 0) (w := 4) (h := k5) (by omega)).tr (c7 b hb)
  have w7 := q7 (x + 1) (by omega)
  refine iz_aast (t := 5) d1_38 as_side (by rw [w7.1.1]; exact t5.1) f7.1 (by rw [w7.1.2.1, t5.2.1]; exact vp_nI (by decide) (by decide)) ?_
  rw [show (nI 1).toNatClampNeg = 1 from by decide]
  generalize e8 : ix_sr k7 (x + 1) 1 (some (x + 15)) = k8
  have c8 : ∀ b, b ≠ x + 1 → ceL k7 k8 b := fun b hb => by rw [← e8]; exact ceL_sr hb
  have n8 : ix_nx k8 = x + 28 := by rw [← e8]; exact n7
  have u8 : ix_us k8 = ix_us h + 824 := by rw [← e8]; exact u7'
  have z8 : cNx k8 := fun b hb => by
    rw [← e8]
    rw [n8] at hb
    exact z7 b (by omega)
  have t8 : ix_tg k8 (x + 1) = 105 ∧ ix_ln k8 (x + 1) = 2 ∧ ix_r k8 (x + 1) 0 = some (x + 2) ∧ ix_r k8 (x + 1) 1 = some (x + 15) := by
    rw [← e8]
    exact ⟨by show ix_tg k7 _ = _; rw [w7.1.1]; exact t5.1, by show ix_ln k7 _ = _; rw [w7.1.2.1]; exact t5.2.1, by rw [ix_r_sr, if_neg (fun z => absurd z.2 (by decide)), w7.1.2.2.2]; exact t5.2.2, by rw [ix_r_sr, if_pos ⟨rfl, rfl⟩]⟩
  have f8 : sdF k8 (x + 2) G.2.2.2.1 3 := f5.fr (fun b h1 h2 => (q7 b (by omega)).tr (c8 b (by omega)))
  have f8' : sdF k8 (x + 15) G.2.2.2.1 3 := f7.fr (fun b h1 _ => c8 b (by omega))
  have x8 : ceL k2 k8 x := ((q4 x (by omega)).tr (c5 x (by omega))).tr ((q7 x (by omega)).tr (c8 x (by omega)))
  have o8 : ∀ b, b < x → ceL h k8 b := fun b hb => (c2 b hb).tr (((q4 b (by omega)).tr (c5 b (by omega))).tr ((q7 b (by omega)).tr (c8 b (by omega))))
  clear e8
  refine iz_putr d1_39 fl1_16 (Or.inr ⟨rfl, rfl, rfl⟩) (by rw [x8.1.1]; exact t2.2.2.1) rfl rfl ?_
  refine iz_aload_n d1_42 rfl ?_
  refine iz_new d1_43 nl1_20 ?_
  refine iz_dup d1_46 rfl ?_
  refine iz_callIx [] d1_47 ok7 rm1_7 cl1_22 rfl rfl (Nat.le_of_ble_eq_true rfl) (Nat.le_of_ble_eq_true rfl) (s7 (by show ix_tg (ix_nw _ 2 0 2) _ = 2; rw [ix_tg_nw, if_pos rfl]) (by rw [ix_nx_nw]; omega)) ?_
  generalize e9 : ix_sr k8 x 1 (some (x + 1)) = k9
  have c9 : ∀ b, b ≠ x → ceL k8 k9 b := fun b hb => by rw [← e9]; exact ceL_sr hb
  have n9 : ix_nx k9 = x + 28 := by rw [← e9]; exact n8
  have t9 : ix_tg k9 x = 1 ∧ ix_r k9 x 1 = some (x + 1) ∧ ix_i k9 x 0 = nI 4 + (y &&& nI 7) := by
    rw [← e9]
    exact ⟨by show ix_tg k8 x = 1; rw [x8.1.1]; exact t2.2.2.1, by rw [ix_r_sr, if_pos ⟨rfl, rfl⟩], by show ix_i k8 x 0 = _; rw [x8.1.2.2.1]; exact t2.2.2.2⟩
  have u9 : ix_us k9 = ix_us h + 824 := by rw [← e9]; exact u8
  have z9 : cNx k9 := fun b hb => by
    rw [← e9]
    rw [n9] at hb
    exact z8 b (by omega)
  clear e9
  show iy_E G 1 50 _ [.ref (ix_nx k9), .ref x] (ix_sr (ix_nw (ix_nw k9 2 0 2) 106 24 24) (ix_nx k9) 0 (some (ix_nx (ix_nw k9 2 0 2)))) _
  rw [ix_nx_nw, n9]
  generalize e10 : ix_nw (ix_nw k9 2 0 2) 106 24 24 = k10
  have n10 : ix_nx k10 = x + 30 := by rw [← e10, ix_nx_nw, ix_nx_nw]; omega
  have u10 : ix_us k10 = ix_us h + 850 := by rw [← e10, ix_us_nw, ix_us_nw]; omega
  have c10 : ∀ b, b < x + 28 → ceL k9 k10 b := fun b hb => by
    rw [← e10]
    exact (ceL_nw (by omega)).tr (ceL_nw (by rw [ix_nx_nw]; omega))
  have t10 : ix_tg k10 (x + 28) = 2 ∧ ix_i k10 (x + 28) 1 = 0 ∧ ix_tg k10 (x + 29) = 106 ∧ ix_ln k10 (x + 29) = 24 := by
    rw [← e10]
    refine ⟨by rw [ix_tg_nw, ix_nx_nw, if_neg (by omega), ix_tg_nw, if_pos (by omega)], by rw [ix_i_nw, ix_nx_nw, if_neg (by omega), ix_i_nw, if_pos (by omega)], by rw [ix_tg_nw, ix_nx_nw, if_pos (by omega)], by rw [ix_ln_nw, ix_nx_nw, if_pos (by omega)]⟩
  have z10 : cNx k10 := by
    rw [← e10]
    exact nw_z _ _ _ _ (nw_z _ _ _ _ z9)
  clear e10
  generalize e11 : ix_sr k10 (x + 28) 0 (some (x + 28 + 1)) = k11
  have c11 : ∀ b, b ≠ x + 28 → ceL k10 k11 b := fun b hb => by rw [← e11]; exact ceL_sr hb
  have t11 : ix_tg k11 (x + 28) = 2 ∧ ix_i k11 (x + 28) 1 = 0 ∧ ix_r k11 (x + 28) 0 = some (x + 29) := by
    rw [← e11]
    exact ⟨t10.1, t10.2.1, by rw [ix_r_sr, if_pos ⟨rfl, rfl⟩]⟩
  have n11 : ix_nx k11 = x + 30 := by rw [← e11]; exact n10
  have u11 : ix_us k11 = ix_us h + 850 := by rw [← e11]; exact u10
  have z11 : cNx k11 := fun b hb => by
    rw [← e11]
    rw [n11] at hb
    exact z10 b (by omega)
  clear e11
  have x11 : ceL k9 k11 x := (c10 x (by omega)).tr (c11 x (by omega))
  refine iz_putr d1_50 fl1_23 (Or.inr ⟨rfl, rfl, rfl⟩) (by rw [x11.1.1]; exact t9.1) rfl rfl ?_
  refine iz_aload_n d1_53 rfl ?_
  refine iz_iconst 0 d1_54 (by decide) ?_
  refine iz_puti d1_55 fl1_27 (Or.inl rfl) (by show ix_tg k11 x = 1; rw [x11.1.1]; exact t9.1) rfl rfl ?_
  have fin : ∀ b, b ≠ x → ceL k11 (ix_si (ix_sr k11 x 2 (some (x + 28))) x 3 0) b := fun b hb => (ceL_sr hb).tr (ceL_si hb)
  have mid : ∀ b, b ≠ x → b < x + 28 → ceL k8 (ix_si (ix_sr k11 x 2 (some (x + 28))) x 3 0) b := fun b h1 h2 => ((c9 b h1).tr (c10 b h2)).tr ((c11 b (by omega)).tr (fin b h1))
  have al : ∀ b, b < x → ceL h (ix_si (ix_sr k11 x 2 (some (x + 28))) x 3 0) b := fun b hb => (o8 b hb).tr (mid b (by omega) (by omega))
  have m1 := (mid (x + 1) (by omega) (by omega)).1
  have m28 := (fin (x + 28) (by omega)).1
  have m29 := ((c11 (x + 29) (by omega)).tr (fin (x + 29) (by omega))).1
  have mD := (al _ hD).1
  refine iz_vret d1_58 rfl ⟨rfl, n11, u11, al, cB_new (D := G.2.2.2.1) ?_ ?_ ?_ ?_ ?_ (by rw [m1.1]; exact t8.1) (by rw [m1.2.1]; exact t8.2.1) (by rw [m1.2.2.2]; exact t8.2.2.1) (by rw [m1.2.2.2]; exact t8.2.2.2) (f8.fr (fun b g1 g2 => mid b (by omega) (by omega))) (f8'.fr (fun b g1 g2 => mid b (by omega) (by omega))) (by rw [m28.1]; exact t11.1) (by rw [m28.2.2.2]; exact t11.2.2) (by rw [m28.2.2.1]; exact t11.2.1) (by rw [m29.1]; exact t10.2.2.1) (by rw [m29.2.1]; exact t10.2.2.2) z11 (by rw [mD.1]; exact tD) (by rw [mD.2.1]; exact lD)⟩
  · show ix_tg k11 x = 1
    rw [x11.1.1]
    exact t9.1
  · show ix_r (ix_sr k11 x 2 (some (x + 28))) x 1 = _
    rw [ix_r_sr, if_neg (fun z => absurd z.2 (by decide)), x11.1.2.2.2]
    exact t9.2.1
  · show ix_r (ix_sr k11 x 2 (some (x + 28))) x 2 = _
    rw [ix_r_sr, if_pos ⟨rfl, rfl⟩]
  · rw [ix_i_si, if_neg (fun z => absurd z.2 (by decide))]
    show ix_i k11 x 0 = _
    rw [x11.1.2.2.1]
    exact t9.2.2
  · rw [ix_i_si, if_pos ⟨rfl, rfl⟩]
