/-! ===== tick ===== -/
theorem okS {G : ix_G} {o e : Nat} (he : e < 2) : tSok G o I3 fW e := by
  intro S I
  obtain ⟨c, h1, h2, h3, h4, h5⟩ := I.1.L e he
  have hc : cP 42 S e = c := by unfold cP; rw [h2, nI_clamp (by omega)]
  refine ⟨c, h1, h2, fun k hk => ?_⟩
  obtain ⟨t, a1, a2, a3, a4⟩ := h3 k hk
  have a2' : t / 320 = e := a2
  have X := wH_of I.1 a3 a4
  obtain ⟨-, -, -, hu, hu24, hf, hn, hn64, hst, hst2, hH, hR⟩ := X
  obtain ⟨f1, f2, f3, f4⟩ := I.1.file a3
  refine ⟨t, a3.1, a1, ⟨fW_inv I.1 a3 a4, iK_work I.2.1 I.1 a3 a4, iE_work I.2.2 I.1 a3 a4⟩, ?_, fun h M hS => ?_⟩
  · have := fW_c I.1 a3 a4
    rw [a2', hc] at this
    exact this
  · exact s130 M hS a3.1 hu hu24 f1 f2 f3 f4 (fun _ => hst) hst2 (fun _ => hH) (fun _ => hH) (fun _ h0 => hR h0)
theorem okR {G : ix_G} {o e : Nat} (he : e < 2) : tRok G o I3 fA e := by
  intro S I
  obtain ⟨c, h1, h2, h3, h4, h5⟩ := I.1.M e he
  have hc : cP 43 S e = c := by unfold cP; rw [h2, nI_clamp (by omega)]
  refine ⟨c, h1, h2, fun k hk => ?_⟩
  obtain ⟨t, a1, a2, a3, a4⟩ := h3 k hk
  have a2' : 1 - t / 320 = e := a2
  obtain ⟨p1, p2, p3, p4⟩ := I.1.sp a3 a4
  refine ⟨t, a3.1, a1, ⟨fA_inv I.1 a3 a4, iK_att I.2.1, iE_c fA_L (by decide) I.2.2⟩, ?_, fun h M hS => ?_⟩
  · have := fA_c I.1 a3 a4
    rw [a2', hc] at this
    exact this
  · exact s141 M hS a3.1 p1 p2 p3 p4 I.1.gu.1 I.1.gu.2 (I.1.hasR a3 a4)
theorem I3_0 {S : MS} {v : Int32} (I : I3 S) : I3 (mset (m0 S) 2 0 v) := by
  have H0 : ∀ k, k ∉ [2, 3] → mset (m0 S) 2 0 v k = S k := fun k hk => by
    unfold m0
    simp only [List.mem_cons, List.not_mem_nil, or_false, not_or] at hk
    rw [mset_kk hk.1, mset_kk hk.2]
  exact ⟨mInv_n I.1 (fun k hk => H0 k (fun z => hk (by revert z; simp only [List.mem_cons, List.not_mem_nil, or_false]; omega))), iK_c H0 (by decide) I.2.1, iE_c H0 (by decide) I.2.2⟩
/-- the reference's tick -/
theorem rTick {G : ix_G} {h : ix_H} {o : Nat} {S : MS} (M : md_ok h o) (hS : ms h o = S) (I : I3 S) : ix_E G 129 0 (lv_args 0 [.ref o]) [] h (fun rv h' => rv = some (.int (mTk fW fA S 2 0)) ∧ mR o h h' (mTick fW fA S)) := s129 M hS (fun e he => okS he) (fun e he => okR he) (I3_0 I)
/-- what an entity's round leaves to the other -/
theorem tS_13o {e : Nat} (he : e < 2) : ∀ (z k : Nat) (S : MS), I3 S → ∀ j, j / 320 ≠ e → tS fW e z k S 13 j = S 13 j := by
  intro z
  induction z with
  | zero => intro k S _ j _; rfl
  | succ z ih =>
    intro k S I j hj
    unfold tS
    split
    · rfl
    · rename_i hk
      have hk2 : k < cP 42 S e := by unfold cP; omega
      obtain ⟨t, a1, a2, a3, a4, a5, a6, a7⟩ := rowS I.1 he hk2
      rw [a2, ih _ _ ⟨fW_inv I.1 a4 a5, iK_work I.2.1 I.1 a4 a5, iE_work I.2.2 I.1 a4 a5⟩ j hj]
      exact (wfr_work : wfr S (fW S t) t).2 13 (by decide) (by decide) j (fun z => hj (by rw [z]; exact a3))
theorem tR_23o {e : Nat} (he : e < 2) : ∀ (z k : Nat) (S : MS), I3 S → ∀ j, 1 - j / 320 ≠ e → tR fA e z k S 23 j = S 23 j := by
  intro z
  induction z with
  | zero => intro k S _ j _; rfl
  | succ z ih =>
    intro k S I j hj
    unfold tR
    split
    · rfl
    · rename_i hk
      have hk2 : k < cP 43 S e := by unfold cP; omega
      obtain ⟨t, a1, a2, a3, a4, a5⟩ := rowR I.1 he hk2
      rw [a2, ih _ _ ⟨fA_inv I.1 a4 a5, iK_att I.2.1, iE_c fA_L (by decide) I.2.2⟩ j hj]
      exact (afr_att (S := S) (u := gU S) (t := t) (p := sP S t) (n := nP S (sP S t)) (k0 := kP 41 S (1 - t / 320) t) (c := cP 43 S (1 - t / 320))).2.1 j (fun z => hj (by rw [z]; exact a3))
/-- one entity's round, for the lists of the other -/
theorem rnd_o {S : MS} {Lo Lr Lo' Lr' : Nat → List Nat} {e d : Nat} (he : e < 2) (hd : d < 2) (hde : d ≠ e) (I : I3 S) (W : cRw S Lo Lr) (L : cAl1 S Lo Lr d) (k1 : Lo' d = Lo d) (k2 : Lr' d = Lr d) : cAl1 (tR fA e 4 0 (tS fW e 4 0 S)) Lo' Lr' d := by
  have I1 := (tS_I he 4 0 S I).1
  have L2 := (tR_I he 4 0 _ I1).2
  refine ⟨fun t ht => ?_, fun t ht => ?_⟩
  · rw [k1] at ht
    rw [L2 13 (by decide), tS_13o he 4 0 S I t (by rw [((W d hd).1 t ht).2]; exact hde)]
    exact L.1 t ht
  · rw [k2] at ht
    have := L.2 t ht
    unfold opR at this ⊢
    rw [tR_23o he 4 0 _ I1 t (by rw [((W d hd).2.1 t ht).2.1]; exact hde), tS_23 he 4 0 S I]
    exact this
/-- the class's object beside the reference's numbers, between two calls -/
def cB (h : ix_H) (x : Nat) (S : MS) : Prop := ix_i h x 3 = S 1 0 ∧ ∃ T A R U D : Nat → Nat, ∃ Lo Lr : Nat → List Nat, cRel h x S T A R U D Lo Lr ∧ ∀ e, e < 2 → cAl1 S Lo Lr e
/-- what of the heap a call leaves alone: the reference, the law's row -/
def cFo (x : Nat) (h h' : ix_H) (a b : Nat) : Prop := ix_nx h ≤ ix_nx h' ∧ ix_nx h' ≤ ix_nx h + a ∧ ix_us h ≤ ix_us h' ∧ ix_us h' ≤ ix_us h + b ∧ ∀ q, q < ix_nx h → (ix_tg h q = 9 ∨ ix_tg h q = 101 ∨ ix_tg h q = 103 ∨ (ix_tg h q = 100 ∧ x + 30 ≤ q) ∨ 200 ≤ ix_tg h q) → ceq h h' q ∧ ∀ j, ix_l h' q j = ix_l h q j
theorem cPo.o {x a b : Nat} {h h' : ix_H} (p : cPo x h h' a b) : cFo x h h' a b := ⟨p.1.1, p.2.1, p.2.2.1, p.2.2.2, fun q hq hm => p.1.2 q hq (Or.inr hm)⟩
theorem cFo.tr {x a b a' b' : Nat} {h h1 h2 : ix_H} (p : cFo x h h1 a b) (q : cFo x h1 h2 a' b') : cFo x h h2 (a + a') (b + b') := by
  obtain ⟨p1, p2, p3, p4, p5⟩ := p
  obtain ⟨q1, q2, q3, q4, q5⟩ := q
  refine ⟨by omega, by omega, by omega, by omega, fun b hb hm => ?_⟩
  obtain ⟨c1, c2⟩ := p5 b hb hm
  obtain ⟨d1, d2⟩ := q5 b (by omega) (by rw [c1.1]; exact hm)
  exact ⟨c1.tr d1, fun j => (d2 j).trans (c2 j)⟩
set_option maxRecDepth 100000 in
set_option maxHeartbeats 4000000 in
/-- FileDelivery.tick -/
theorem s29 {G : ix_G} {h : ix_H} {x : Nat} {S : MS} (I : I3 S) (B : cB h x S) : ix_E G 29 0 (lv_args 0 [.ref x]) [] h (fun rv h' => rv = some (.int (mTk fW fA S 2 0)) ∧ cFo x h h' 12 72 ∧ cB h' x (mTick fW fA S)) := by
  obtain ⟨ht, T, A, R, U, D, Lo, Lr, C, L⟩ := B
  have x1 := C.fx.1
  have I0 := I3_0 (v := S 1 0 + nI 1) I
  have H0 : ∀ k, k ∉ [1, 2, 3, 46, 47] → mset (m0 S) 2 0 (S 1 0 + nI 1) k = S k := fun k hk => by
    unfold m0
    rw [mset_kk (fun z => hk (by rw [z]; decide)), mset_kk (fun z => hk (by rw [z]; decide))]
  have C0 : cRel (ix_si h x 3 (ix_i h x 3 + 1)) x (mset (m0 S) 2 0 (S 1 0 + nI 1)) T A R U D Lo Lr := cRel_irr I.1 (cRel_x3 I.1 C) H0
  have n0 : mset (m0 S) 2 0 (S 1 0 + nI 1) 2 0 = S 1 0 + nI 1 := mset_s
  have L0 : ∀ e, e < 2 → cAl1 (mset (m0 S) 2 0 (S 1 0 + nI 1)) Lo Lr e := fun e he => ⟨fun t ht => by rw [H0 13 (by decide)]; exact (L e he).1 t ht, fun t ht => by have := (L e he).2 t ht; unfold opR at this ⊢; rw [H0 23 (by decide)]; exact this⟩
  have x30 := C.x30
  have P0 : cFo x h (ix_si h x 3 (ix_i h x 3 + 1)) 0 0 := by
    refine ⟨Nat.le_refl _, by show ix_nx h ≤ _; omega, Nat.le_refl _, by show ix_us h ≤ _; omega, fun q _ hm => ⟨(sw.rfl.si).1 q (fun z => ?_), fun _ => rfl⟩⟩
    rw [z, x1] at hm
    omega
  refine ie_aload_n d29_0 rfl ?_
  refine ie_dup d29_1 rfl ?_
  refine ie_geti (k := 0) d29_2 fl1_27 x1 ?_
  refine ie_iconst 1 d29_5 (by decide) ?_
  refine ie_iadd d29_6 ?_
  refine ie_puti (k := 0) d29_7 fl1_27 (Or.inl rfl) x1 rfl rfl ?_
  have t0 : ix_i (ix_si h x 3 (ix_i h x 3 + 1)) x 3 = mset (m0 S) 2 0 (S 1 0 + nI 1) 2 0 := by rw [ix_i_si, if_pos ⟨rfl, rfl⟩, n0, ht]; rfl
  unfold mTick
  have eT : mTk fW fA S = tR fA 1 4 0 (tS fW 1 4 0 (tR fA 0 4 0 (tS fW 0 4 0 (mset (m0 S) 2 0 (S 1 0 + nI 1))))) := rfl
  rw [eT]
  generalize ix_si h x 3 (ix_i h x 3 + 1) = h0 at *
  generalize mset (m0 S) 2 0 (S 1 0 + nI 1) = S0 at *
  refine ie_iconst (nI 0) d29_10 (by decide) ?_
  refine ie_istore_n d29_11 (by decide) ?_
  refine ie_iload_n d29_12 rfl ?_
  refine ie_iconst (nI 2) d29_13 (by decide) ?_
  refine ie_icmp_ge 36 d29_14 (by decide) (fun z => absurd z (by decide)) (fun _ => ?_)
  refine ie_aload_n d29_17 rfl ?_
  refine ie_getr _ d29_18 fl1_16 C0.fx.1 C0.fx.2.1 ?_
  refine ie_iload_n d29_21 rfl ?_
  refine ie_aald (t := 5) d29_22 (by decide) rfl rfl (Or.inl C0.fx.2.2.2.1) (by rw [C0.fx.2.2.2.2.1]; exact vp_nI (by decide) (by decide)) ?_
  rw [nI_clamp (by decide), (C0.fx.2.2.2.2.2.2.2.2.2 0 (by decide)).1]
  refine ie_aload_n d29_23 rfl ?_
  refine ie_geti (k := 0) d29_24 fl1_27 C0.fx.1 ?_
  rw [t0]
  refine ie_callV [_] d29_27 ok30 rm29_30 cl1_141 rfl rfl (Nat.le_of_ble_eq_true rfl) (Nat.le_of_ble_eq_true rfl) (C0.fx.2.2.2.2.2.2.2.2.2 0 (by decide)).2.1 (s30 I0 C0 (L0 0 (by decide)) (by decide)) (fun rv h1 hq => ?_)
  obtain ⟨e1, p1, I1, n1, U1, Lo1, Lr1, C1, g1, g2, g3⟩ := hq
  subst e1
  have L1 : ∀ e, e < 2 → cAl1 (tR fA 0 4 0 (tS fW 0 4 0 S0)) Lo1 Lr1 e := fun e he => by
    by_cases q : e = 0
    · subst q; exact ⟨g1, g2⟩
    · exact rnd_o (by decide) he q I0 C0.rw (L0 e he) (g3 e q).1 (g3 e q).2
  have t1 : ix_i h1 x 3 = tR fA 0 4 0 (tS fW 0 4 0 S0) 2 0 := by
    rw [n1, ← t0]
    exact (p1.1.2 x (C0.lt (by rw [C0.fx.1]; decide)) (Or.inl C0.fx.1)).1.2.2.1 3
  generalize tR fA 0 4 0 (tS fW 0 4 0 S0) = S1 at *
  refine ie_iinc (nI 1) d29_30 rfl (by decide) (by decide) ?_
  refine ie_goto 12 d29_33 (by decide) ?_
  refine ie_iload_n d29_12 rfl ?_
  refine ie_iconst (nI 2) d29_13 (by decide) ?_
  refine ie_icmp_ge 36 d29_14 (by decide) (fun z => absurd z (by decide)) (fun _ => ?_)
  refine ie_aload_n d29_17 rfl ?_
  refine ie_getr _ d29_18 fl1_16 C1.fx.1 C1.fx.2.1 ?_
  refine ie_iload_n d29_21 rfl ?_
  refine ie_aald (t := 5) d29_22 (by decide) rfl rfl (Or.inl C1.fx.2.2.2.1) (by rw [C1.fx.2.2.2.2.1]; exact vp_nI (by decide) (by decide)) ?_
  rw [nI_clamp (by decide), (C1.fx.2.2.2.2.2.2.2.2.2 1 (by decide)).1]
  refine ie_aload_n d29_23 rfl ?_
  refine ie_geti (k := 0) d29_24 fl1_27 C1.fx.1 ?_
  rw [t1]
  refine ie_callV [_] d29_27 ok30 rm29_30 cl1_141 rfl rfl (Nat.le_of_ble_eq_true rfl) (Nat.le_of_ble_eq_true rfl) (C1.fx.2.2.2.2.2.2.2.2.2 1 (by decide)).2.1 (s30 I1 C1 (L1 1 (by decide)) (by decide)) (fun rv h2 hq => ?_)
  obtain ⟨e2, p2, I2, n2, U2, Lo2, Lr2, C2, g4, g5, g6⟩ := hq
  subst e2
  have L2 : ∀ e, e < 2 → cAl1 (tR fA 1 4 0 (tS fW 1 4 0 S1)) Lo2 Lr2 e := fun e he => by
    by_cases q : e = 1
    · subst q; exact ⟨g4, g5⟩
    · exact rnd_o (by decide) he q I1 C1.rw (L1 e he) (g6 e q).1 (g6 e q).2
  have t2 : ix_i h2 x 3 = tR fA 1 4 0 (tS fW 1 4 0 S1) 2 0 := by
    rw [n2, ← t1]
    exact (p2.1.2 x (C1.lt (by rw [C1.fx.1]; decide)) (Or.inl C1.fx.1)).1.2.2.1 3
  generalize tR fA 1 4 0 (tS fW 1 4 0 S1) = S2 at *
  refine ie_iinc (nI 2) d29_30 rfl (by decide) (by decide) ?_
  refine ie_goto 12 d29_33 (by decide) ?_
  refine ie_iload_n d29_12 rfl ?_
  refine ie_iconst (nI 2) d29_13 (by decide) ?_
  refine ie_icmp_ge 36 d29_14 (by decide) (fun _ => ?_) (fun z => absurd (by decide) z)
  refine ie_aload_n d29_36 rfl ?_
  refine ie_geti (k := 0) d29_37 fl1_27 C2.fx.1 ?_
  have H5 : ∀ k, k ∉ [1, 2, 3, 46, 47] → mset S2 1 0 (S2 2 0) k = S2 k := fun k hk => mset_kk (fun z => hk (by rw [z]; decide))
  refine ie_iret d29_40 rfl rfl ⟨by rw [t2], ((P0.tr p1.o).tr p2.o), by rw [t2, mset_s], T, A, R, U2, D, Lo2, Lr2, cRel_irr I2.1 C2 H5, fun e he => ⟨fun t ht => by rw [H5 13 (by decide)]; exact (L2 e he).1 t ht, fun t ht => ?_⟩⟩
  have := (L2 e he).2 t ht
  unfold opR at this ⊢
  rw [H5 23 (by decide)]
  exact this
