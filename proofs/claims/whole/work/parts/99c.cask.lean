/-! ===== the class's calls that ask, and those that change little ===== -/
theorem cFl.has {h : ix_H} {x : Nat} {S : MS} {e f : Nat} (C : cFl h x S e f) (hb : bw (S 5 (6 * e + f)) 0 64) : ix_i h (cSz x e) f = -1 ↔ S 4 (6 * e + f) = 0 := by
  rw [C.1]
  by_cases q : S 4 (6 * e + f) = 0
  · rw [if_pos q]; exact ⟨fun _ => q, fun _ => rfl⟩
  · rw [if_neg q]
    obtain ⟨n, n1, n2, n3⟩ := hb
    rw [n3]
    exact ⟨fun z => absurd z (nI_m1 (by omega)), fun z => absurd z q⟩
theorem cB.m0 {h : ix_H} {x : Nat} {S : MS} {v : Int32} (I : mInv S) (B : cB h x S) : cB h x (mset S 3 0 v) := by
  obtain ⟨ht, T, A, R, U, D, Lo, Lr, C, L⟩ := B
  have H : ∀ k, k ∉ [1, 2, 3, 46, 47] → mset S 3 0 v k = S k := fun k hk => mset_kk (fun z => hk (by rw [z]; decide))
  exact ⟨by rw [mset_k (by decide)]; exact ht, T, A, R, U, D, Lo, Lr, cRel_irr I C H, fun e he => ⟨fun t h1 => by rw [H 13 (by decide)]; exact (L e he).1 t h1, fun t h1 => by have := (L e he).2 t h1; unfold opR at this ⊢; rw [H 23 (by decide)]; exact this⟩⟩
theorem cFo.rfl {x : Nat} {h : ix_H} : cFo x h h 0 0 := cPo.rfl.o
theorem isF_lt {e f : Int32} : ((0 ≤ e ∧ e < 2) ∧ 0 ≤ f ∧ f < 6) ↔ ((0 ≤ e ∧ e ≤ 1) ∧ 0 ≤ f ∧ f ≤ 5) := by
  simp only [Int32.le_iff_toInt_le, Int32.lt_iff_toInt_lt, tI]
  omega
theorem isE_lt {e : Int32} : (0 ≤ e ∧ e < 2) ↔ (0 ≤ e ∧ e ≤ 1) := by
  simp only [Int32.le_iff_toInt_le, Int32.lt_iff_toInt_lt, tI]
  omega
theorem bI_c {c d : Prop} [Decidable c] [Decidable d] (h : c ↔ d) : bI c = bI d := by
  unfold bI
  by_cases q : c
  · rw [if_pos q, if_pos (h.mp q)]
  · rw [if_neg q, if_neg (fun z => q (h.mpr z))]
set_option maxRecDepth 100000 in
set_option maxHeartbeats 4000000 in
/-- isThere, of a place that there is -/
theorem s15y {G : ix_G} {h : ix_H} {x : Nat} {S : MS} {T A R U D : Nat → Nat} {Lo Lr : Nat → List Nat} {e f : Nat} (I : mInv S) (C : cRel h x S T A R U D Lo Lr) (he : e < 2) (hf : f < 6) : ix_Ev G 15 0 (lv_args 0 [.ref x, .int (nI e), .int (nI f)]) [] h (some (.int (bI (¬ S 4 (6 * e + f) = 0)))) h := by
  have F := C.fx.2.2.2.2.2.2.2.2.2 e he
  have hh := (C.fl he hf).has (I.2.1 _ (by omega)).2
  refine ix_ofE ?_
  refine ie_iload_n d15_0 rfl ?_
  refine ie_iload_n d15_1 rfl ?_
  refine ie_callSx [_, _] d15_2 ok9 rm15_9 cl1_30 rfl rfl (Nat.le_of_ble_eq_true rfl) (Nat.le_of_ble_eq_true rfl) (s9 _ _) ?_
  refine ie_if_eq 28 d15_5 (by decide) (fun z => absurd (isF_lt.mpr (isF_y he hf)) (bI_0.mp z)) (fun _ => ?_)
  refine ie_aload_n d15_8 rfl ?_
  refine ie_getr _ d15_9 fl1_16 C.fx.1 C.fx.2.1 ?_
  refine ie_iload_n d15_12 rfl ?_
  refine ie_aald (t := 5) d15_13 (by decide) rfl rfl (Or.inl C.fx.2.2.2.1) (by rw [C.fx.2.2.2.2.1]; exact vp_nI he (by decide)) ?_
  rw [nI_clamp (by omega), (C.fx.2.2.2.2.2.2.2.2.2 e he).1]
  refine ie_getr _ d15_14 fl1_34 F.2.1 F.2.2.1 ?_
  refine ie_iload_n d15_17 rfl ?_
  refine ie_callVx [_] d15_18 ok12 rm15_12 cl1_38 rfl rfl (Nat.le_of_ble_eq_true rfl) (Nat.le_of_ble_eq_true rfl) F.2.2.2.2.1 (s12 F.2.2.2.2.1 F.2.2.2.2.2.2.1 F.2.2.2.2.2.2.2.2.2.1 F.2.2.2.2.2.2.2.2.2.2.1 hf) ?_
  refine ie_if_eq 28 d15_21 (by decide) (fun c => ?_) (fun c => ?_)
  · refine ie_iconst 0 d15_28 (by decide) ?_
    refine ie_iret d15_29 rfl (by decide) ⟨?_, rfl⟩
    rw [bI_f (fun z => z (hh.mp (Classical.byContradiction (bI_0.mp c))))]
  · refine ie_iconst 1 d15_24 (by decide) ?_
    refine ie_goto 29 d15_25 (by decide) ?_
    refine ie_iret d15_29 rfl (by decide) ⟨?_, rfl⟩
    rw [bI_t (show ¬ S 4 (6 * e + f) = 0 from fun z => c (bI_0.mpr (fun y => y (hh.mpr z))))]
set_option maxRecDepth 100000 in
set_option maxHeartbeats 4000000 in
/-- isThere, of none -/
theorem s15n {G : ix_G} {h : ix_H} {x : Nat} {e f : Int32} (hn : ¬ ((0 ≤ e ∧ e ≤ 1) ∧ 0 ≤ f ∧ f ≤ 5)) : ix_Ev G 15 0 (lv_args 0 [.ref x, .int e, .int f]) [] h (some (.int 0)) h := by
  refine ix_ofE ?_
  refine ie_iload_n d15_0 rfl ?_
  refine ie_iload_n d15_1 rfl ?_
  refine ie_callSx [_, _] d15_2 ok9 rm15_9 cl1_30 rfl rfl (Nat.le_of_ble_eq_true rfl) (Nat.le_of_ble_eq_true rfl) (s9 _ _) ?_
  refine ie_if_eq 28 d15_5 (by decide) (fun _ => ?_) (fun z => absurd (bI_0.mpr (fun y => hn (isF_lt.mp y))) z)
  refine ie_iconst 0 d15_28 (by decide) ?_
  exact ie_iret d15_29 rfl (by decide) ⟨rfl, rfl⟩
set_option maxRecDepth 100000 in
set_option maxHeartbeats 4000000 in
/-- create -/
theorem s8 {G : ix_G} {h : ix_H} {x : Nat} {S : MS} (I : mInv S) (B : cB h x S) (e f : Int32) : ix_E G 8 0 (lv_args 0 [.ref x, .int e, .int f]) [] h (fun rv h' => rv = some (.int (bI (((0 ≤ e ∧ e ≤ 1) ∧ 0 ≤ f ∧ f ≤ 5) ∧ S 4 (6 * e.toNatClampNeg + f.toNatClampNeg) = 0))) ∧ cFo x h h' 0 0 ∧ cB h' x (if ((0 ≤ e ∧ e ≤ 1) ∧ 0 ≤ f ∧ f ≤ 5) ∧ S 4 (6 * e.toNatClampNeg + f.toNatClampNeg) = 0 then mset (mset (m0 S) 4 (6 * e.toNatClampNeg + f.toNatClampNeg) 1) 5 (6 * e.toNatClampNeg + f.toNatClampNeg) 0 else m0 S)) := by
  by_cases hi : (0 ≤ e ∧ e ≤ 1) ∧ 0 ≤ f ∧ f ≤ 5
  · obtain ⟨e', f', he, hf, rfl, rfl⟩ := isF2 hi
    rw [nI_clamp (by omega), nI_clamp (by omega)]
    obtain ⟨ht, T, A, R, U, D, Lo, Lr, C, L⟩ := id B
    have F := C.fx.2.2.2.2.2.2.2.2.2 e' he
    have hh := (C.fl he hf).has (I.2.1 _ (by omega)).2
    refine ie_iload_n d8_0 rfl ?_
    refine ie_iload_n d8_1 rfl ?_
    refine ie_callSx [_, _] d8_2 ok9 rm8_9 cl1_30 rfl rfl (Nat.le_of_ble_eq_true rfl) (Nat.le_of_ble_eq_true rfl) (s9 _ _) ?_
    refine ie_if_eq 24 d8_5 (by decide) (fun z => absurd (isF_lt.mpr hi) (bI_0.mp z)) (fun _ => ?_)
    refine ie_aload_n d8_8 rfl ?_
    refine ie_getr _ d8_9 fl1_16 C.fx.1 C.fx.2.1 ?_
    refine ie_iload_n d8_12 rfl ?_
    refine ie_aald (t := 5) d8_13 (by decide) rfl rfl (Or.inl C.fx.2.2.2.1) (by rw [C.fx.2.2.2.2.1]; exact vp_nI he (by decide)) ?_
    rw [nI_clamp (by omega), (C.fx.2.2.2.2.2.2.2.2.2 e' he).1]
    refine ie_getr _ d8_14 fl1_34 F.2.1 F.2.2.1 ?_
    refine ie_iload_n d8_17 rfl ?_
    refine ie_callVx [_] d8_18 ok12 rm8_12 cl1_38 rfl rfl (Nat.le_of_ble_eq_true rfl) (Nat.le_of_ble_eq_true rfl) F.2.2.2.2.1 (s12 F.2.2.2.2.1 F.2.2.2.2.2.2.1 F.2.2.2.2.2.2.2.2.2.1 F.2.2.2.2.2.2.2.2.2.2.1 hf) ?_
    refine ie_if_eq 26 d8_21 (by decide) (fun c => ?_) (fun c => ?_)
    · have z4 : S 4 (6 * e' + f') = 0 := hh.mp (Classical.byContradiction (bI_0.mp c))
      rw [bI_t ⟨hi, z4⟩, if_pos ⟨hi, z4⟩]
      refine ie_aload_n d8_26 rfl ?_
      refine ie_getr _ d8_27 fl1_16 C.fx.1 C.fx.2.1 ?_
      refine ie_iload_n d8_30 rfl ?_
      refine ie_aald (t := 5) d8_31 (by decide) rfl rfl (Or.inl C.fx.2.2.2.1) (by rw [C.fx.2.2.2.2.1]; exact vp_nI he (by decide)) ?_
      rw [nI_clamp (by omega), (C.fx.2.2.2.2.2.2.2.2.2 e' he).1]
      refine ie_getr _ d8_32 fl1_34 F.2.1 F.2.2.1 ?_
      refine ie_iload_n d8_35 rfl ?_
      refine ie_callVx [_] d8_36 ok13 rm8_13 cl1_44 rfl rfl (Nat.le_of_ble_eq_true rfl) (Nat.le_of_ble_eq_true rfl) F.2.2.2.2.1 (s13 F.2.2.2.2.1 F.2.2.2.2.2.2.1 F.2.2.2.2.2.2.2.2.2.1 F.2.2.2.2.2.2.2.2.2.2.1 hf) ?_
      refine ie_iconst 1 d8_39 (by decide) ?_
      have L1 : ∀ k, k ∉ [1, 2, 3, 4, 5, 6, 46, 47] → mset (mset (m0 S) 4 (6 * e' + f') 1) 5 (6 * e' + f') 0 k = S k := fun k hk => by
        unfold m0
        rw [mset_kk (fun z => hk (by rw [z]; decide)), mset_kk (fun z => hk (by rw [z]; decide)), mset_kk (fun z => hk (by rw [z]; decide))]
      have r4 : ∀ j, mset (mset (m0 S) 4 (6 * e' + f') 1) 5 (6 * e' + f') 0 4 j = if j = 6 * e' + f' then 1 else S 4 j := fun j => by
        unfold m0
        rw [mset_k (by decide), mset_if rfl, mset_k (by decide)]
      have r5 : ∀ j, mset (mset (m0 S) 4 (6 * e' + f') 1) 5 (6 * e' + f') 0 5 j = if j = 6 * e' + f' then 0 else S 5 j := fun j => by
        unfold m0
        rw [mset_if rfl, mset_k (by decide), mset_k (by decide)]
      refine ie_iret d8_40 rfl (by decide) ⟨rfl, (cPo.rfl.si (cCl_lo (k := 100) F.2.2.2.2.2.2.2.2.2.1 (by decide) (by unfold cSz; omega))).o, ?_, T, A, R, U, D, Lo, Lr, ?_, fun e he => ⟨fun t h1 => by rw [L1 13 (by decide)]; exact (L e he).1 t h1, fun t h1 => by have := (L e he).2 t h1; unfold opR at this ⊢; rw [L1 23 (by decide)]; exact this⟩⟩
      · rw [ix_i_si, if_neg (by unfold cSz; omega), show mset (mset (m0 S) 4 (6 * e' + f') 1) 5 (6 * e' + f') 0 1 0 = S 1 0 from by unfold m0; rw [mset_k (by decide), mset_k (by decide), mset_k (by decide)]]
        exact ht
      · refine cRel_fl I C he hf (fun b h1 _ => (sw.rfl.si).1 b h1) (fun b => ⟨rfl, rfl, fun _ => rfl⟩) (fun j hj => by rw [ix_i_si, if_neg (fun z => hj z.2)]) rfl L1 (fun j hj => ⟨by rw [r4, if_neg hj], by rw [r5, if_neg hj]⟩) (fun j _ => by unfold m0; rw [mset_k (by decide), mset_k (by decide), mset_k (by decide)]) ⟨?_, fun i hi => ?_, fun _ i hi => ?_⟩ (fun t hv ho q => ?_)
        · rw [ix_i_si, if_pos ⟨rfl, rfl⟩, r4, if_pos rfl, if_neg (by decide), r5, if_pos rfl]
        · rw [ix_i_si, if_neg (by unfold cBr cSz; omega)]
          exact (C.fl he hf).2.1 i hi
        · rw [r5, if_pos rfl, show (0 : Int32).toNatClampNeg = 0 from by decide] at hi
          omega
        · have := (I.S hv ho).1
          rw [q, z4] at this
          exact absurd this (by decide)
    · have z4 : ¬ S 4 (6 * e' + f') = 0 := fun z => c (bI_0.mpr (fun y => y (hh.mpr z)))
      rw [bI_f (fun z => z4 z.2), if_neg (fun z => z4 z.2)]
      refine ie_iconst 0 d8_24 (by decide) ?_
      exact ie_iret d8_25 rfl (by decide) ⟨rfl, cFo.rfl, B.m0 I⟩
  · rw [bI_f (fun z => hi z.1), if_neg (fun z => hi z.1)]
    refine ie_iload_n d8_0 rfl ?_
    refine ie_iload_n d8_1 rfl ?_
    refine ie_callSx [_, _] d8_2 ok9 rm8_9 cl1_30 rfl rfl (Nat.le_of_ble_eq_true rfl) (Nat.le_of_ble_eq_true rfl) (s9 _ _) ?_
    refine ie_if_eq 24 d8_5 (by decide) (fun _ => ?_) (fun z => absurd (bI_0.mpr (fun y => hi (isF_lt.mp y))) z)
    refine ie_iconst 0 d8_24 (by decide) ?_
    exact ie_iret d8_25 rfl (by decide) ⟨rfl, cFo.rfl, B.m0 I⟩
set_option maxRecDepth 100000 in
set_option maxHeartbeats 4000000 in
/-- size -/
theorem s14 {G : ix_G} {h : ix_H} {x : Nat} {S : MS} (I : mInv S) (B : cB h x S) (e f : Int32) : ix_Ev G 14 0 (lv_args 0 [.ref x, .int e, .int f]) [] h (some (.int (if ((0 ≤ e ∧ e ≤ 1) ∧ 0 ≤ f ∧ f ≤ 5) ∧ ¬ S 4 (6 * e.toNatClampNeg + f.toNatClampNeg) = 0 then S 5 (6 * e.toNatClampNeg + f.toNatClampNeg) else -1))) h := by
  obtain ⟨ht, T, A, R, U, D, Lo, Lr, C, L⟩ := id B
  have x1 := C.fx.1
  refine ix_ofE ?_
  refine ie_aload_n d14_0 rfl ?_
  refine ie_iload_n d14_1 rfl ?_
  refine ie_iload_n d14_2 rfl ?_
  by_cases hi : (0 ≤ e ∧ e ≤ 1) ∧ 0 ≤ f ∧ f ≤ 5
  · obtain ⟨e', f', he, hf, rfl, rfl⟩ := isF2 hi
    rw [nI_clamp (by omega), nI_clamp (by omega)]
    have F := C.fx.2.2.2.2.2.2.2.2.2 e' he
    refine ie_callVx [_, _] d14_3 ok15 rm14_15 cl1_76 rfl rfl (Nat.le_of_ble_eq_true rfl) (Nat.le_of_ble_eq_true rfl) x1 (s15y I C he hf) ?_
    refine ie_if_eq 25 d14_6 (by decide) (fun c => ?_) (fun c => ?_)
    · refine ie_iconst (-1) d14_25 (by decide) ?_
      refine ie_iret d14_26 rfl rfl ⟨?_, rfl⟩
      rw [if_neg (fun z => (bI_0.mp c) z.2)]
    · have z4 : ¬ S 4 (6 * e' + f') = 0 := fun z => c (bI_0.mpr (fun y => y z))
      refine ie_aload_n d14_9 rfl ?_
      refine ie_getr _ d14_10 fl1_16 C.fx.1 C.fx.2.1 ?_
      refine ie_iload_n d14_13 rfl ?_
      refine ie_aald (t := 5) d14_14 (by decide) rfl rfl (Or.inl C.fx.2.2.2.1) (by rw [C.fx.2.2.2.2.1]; exact vp_nI he (by decide)) ?_
      rw [nI_clamp (by omega), (C.fx.2.2.2.2.2.2.2.2.2 e' he).1]
      refine ie_getr _ d14_15 fl1_34 F.2.1 F.2.2.1 ?_
      refine ie_iload_n d14_18 rfl ?_
      refine ie_callVx [_] d14_19 ok16 rm14_16 cl1_63 rfl rfl (Nat.le_of_ble_eq_true rfl) (Nat.le_of_ble_eq_true rfl) F.2.2.2.2.1 (s16 F.2.2.2.2.1 F.2.2.2.2.2.2.1 F.2.2.2.2.2.2.2.2.2.1 F.2.2.2.2.2.2.2.2.2.2.1 hf) ?_
      rw [(C.fl he hf).1, if_neg z4]
      refine ie_goto 26 d14_22 (by decide) ?_
      refine ie_iret d14_26 rfl rfl ⟨?_, rfl⟩
      rw [if_pos ⟨hi, z4⟩]
  · refine ie_callVx [_, _] d14_3 ok15 rm14_15 cl1_76 rfl rfl (Nat.le_of_ble_eq_true rfl) (Nat.le_of_ble_eq_true rfl) x1 (s15n hi) ?_
    refine ie_if_eq 25 d14_6 (by decide) (fun _ => ?_) (fun z => absurd rfl z)
    refine ie_iconst (-1) d14_25 (by decide) ?_
    refine ie_iret d14_26 rfl rfl ⟨?_, rfl⟩
    rw [if_neg (fun z => hi z.1)]
set_option maxRecDepth 100000 in
set_option maxHeartbeats 4000000 in
/-- findSender, of one that there is -/
theorem s18y {G : ix_G} {h : ix_H} {x : Nat} {S : MS} {T A R U D : Nat → Nat} {Lo Lr : Nat → List Nat} {e n : Nat} (I : mInv S) (C : cRel h x S T A R U D Lo Lr) (he : e < 2) (h1 : 1 ≤ n) (h2 : n ≤ nN S e) : ix_Ev G 18 0 (lv_args 0 [.ref x, .int (nI e), .int (nI n)]) [] h (some (.ref (A (320 * e + n)))) h := by
  have F := C.fx.2.2.2.2.2.2.2.2.2 e he
  have h9 : nN S e ≤ 319 := ((I.1.2 e he).c (by decide)).2.2
  refine ix_ofE ?_
  refine ie_iload_n d18_0 rfl ?_
  refine ie_callSx [_] d18_1 ok10 rm18_10 cl1_218 rfl rfl (Nat.le_of_ble_eq_true rfl) (Nat.le_of_ble_eq_true rfl) (s10 _) ?_
  refine ie_if_eq 20 d18_4 (by decide) (fun z => absurd (isE_lt.mpr (isF_y he (show 0 < 6 by decide)).1) (bI_0.mp z)) (fun _ => ?_)
  refine ie_aload_n d18_7 rfl ?_
  refine ie_getr _ d18_8 fl1_16 C.fx.1 C.fx.2.1 ?_
  refine ie_iload_n d18_11 rfl ?_
  refine ie_aald (t := 5) d18_12 (by decide) rfl rfl (Or.inl C.fx.2.2.2.1) (by rw [C.fx.2.2.2.2.1]; exact vp_nI he (by decide)) ?_
  rw [nI_clamp (by omega), (C.fx.2.2.2.2.2.2.2.2.2 e he).1]
  refine ie_iload_n d18_13 rfl ?_
  refine ie_callVx [_] d18_14 ok19 rm18_19 cl1_221 rfl rfl (Nat.le_of_ble_eq_true rfl) (Nat.le_of_ble_eq_true rfl) F.2.1 (s19y C he h1 h2 h9) ?_
  refine ie_goto 21 d18_17 (by decide) ?_
  exact ie_aret d18_21 rfl (Or.inl ⟨_, rfl⟩) (Or.inr ⟨_, rfl⟩) ⟨rfl, rfl⟩
set_option maxRecDepth 100000 in
set_option maxHeartbeats 4000000 in
/-- findSender, of none -/
theorem s18n {G : ix_G} {h : ix_H} {x : Nat} {S : MS} {T A R U D : Nat → Nat} {Lo Lr : Nat → List Nat} {e n : Int32} (I : mInv S) (C : cRel h x S T A R U D Lo Lr) (hn : ¬ ((0 ≤ e ∧ e ≤ 1) ∧ 1 ≤ n ∧ n ≤ S 7 e.toNatClampNeg)) : ix_Ev G 18 0 (lv_args 0 [.ref x, .int e, .int n]) [] h (some .null) h := by
  refine ix_ofE ?_
  refine ie_iload_n d18_0 rfl ?_
  refine ie_callSx [_] d18_1 ok10 rm18_10 cl1_218 rfl rfl (Nat.le_of_ble_eq_true rfl) (Nat.le_of_ble_eq_true rfl) (s10 _) ?_
  refine ie_if_eq 20 d18_4 (by decide) (fun _ => ?_) (fun c => ?_)
  · refine ie_null d18_20 ?_
    exact ie_aret d18_21 rfl (Or.inl ⟨_, rfl⟩) (Or.inl rfl) ⟨rfl, rfl⟩
  · have hE : 0 ≤ e ∧ e ≤ 1 := Classical.byContradiction fun z => c (bI_0.mpr (fun y => z (isE_lt.mp y)))
    obtain ⟨e', he, rfl⟩ := isE2 hE
    have F := C.fx.2.2.2.2.2.2.2.2.2 e' he
    rw [nI_clamp (by omega)] at hn
    refine ie_aload_n d18_7 rfl ?_
    refine ie_getr _ d18_8 fl1_16 C.fx.1 C.fx.2.1 ?_
    refine ie_iload_n d18_11 rfl ?_
    refine ie_aald (t := 5) d18_12 (by decide) rfl rfl (Or.inl C.fx.2.2.2.1) (by rw [C.fx.2.2.2.2.1]; exact vp_nI he (by decide)) ?_
    rw [nI_clamp (by omega), (C.fx.2.2.2.2.2.2.2.2.2 e' he).1]
    refine ie_iload_n d18_13 rfl ?_
    refine ie_callVx [_] d18_14 ok19 rm18_19 cl1_221 rfl rfl (Nat.le_of_ble_eq_true rfl) (Nat.le_of_ble_eq_true rfl) F.2.1 (s19n C I he (fun z => hn ⟨hE, z⟩)) ?_
    refine ie_goto 21 d18_17 (by decide) ?_
    exact ie_aret d18_21 rfl (Or.inl ⟨_, rfl⟩) (Or.inl rfl) ⟨rfl, rfl⟩
