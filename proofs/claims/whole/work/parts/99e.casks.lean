/-! ===== the class's calls about transactions ===== -/
theorem mInv.num {S : MS} (I : mInv S) : mNum S := fun e he => by obtain ⟨c, _, a, b⟩ := I.1.2 e he; exact ⟨c, a, b⟩
theorem known_n {S : MS} (I : mInv S) {e n : Int32} (q : ¬ 0 ≤ mKnown S e n) : ¬ ((0 ≤ e ∧ e ≤ 1) ∧ 1 ≤ n ∧ n ≤ S 7 e.toNatClampNeg) := by
  intro z
  obtain ⟨e', he, rfl⟩ := isE2 z.1
  obtain ⟨c, hc, hs⟩ := I.num e' he
  have h2 := z.2.2
  rw [nI_clamp (by omega), hs] at h2
  have h1 : ¬ n < 0 := fun y => by
    have a1 := Int32.le_iff_toInt_le.mp z.2.1
    have a2 := Int32.lt_iff_toInt_lt.mp y
    simp only [tI] at a1 a2
    omega
  obtain ⟨n', hn, rfl⟩ := nI_of h1
  rw [nI_leI hn (by omega)] at h2
  refine q ?_
  unfold mKnown
  rw [if_pos z, show (320 : Int32) = nI 320 from rfl, pk_mul, nI_add]
  exact nI_pos' (by omega)
theorem mAsk_y {S : MS} {k t : Nat} {e n : Int32} (h : mKnown S e n = nI t) (ht : t < 640) : mAsk S k e n = S k t := by
  unfold mAsk
  rw [h, if_pos (nI_pos' (by omega)), nI_clamp (by omega)]
theorem mAsk_n {S : MS} {k : Nat} {e n : Int32} (h : ¬ 0 ≤ mKnown S e n) : mAsk S k e n = 0 := by
  unfold mAsk
  rw [if_neg h]
set_option maxRecDepth 100000 in
set_option maxHeartbeats 4000000 in
/-- findSender, of one that is known -/
theorem s18k {G : ix_G} {h : ix_H} {x : Nat} {S : MS} {T A R U D : Nat → Nat} {Lo Lr : Nat → List Nat} {e n : Int32} {t : Nat} (I : mInv S) (C : cRel h x S T A R U D Lo Lr) (hk : mKnown S e n = nI t) (hv : vT S t) : ix_Ev G 18 0 (lv_args 0 [.ref x, .int e, .int n]) [] h (some (.ref (A t))) h := by
  have t6 := hv.1
  obtain ⟨e', n', c, h1, h2, h3, h4, h5, rfl, rfl, h8⟩ := mKnown_t I.num (show 0 ≤ mKnown S e n by rw [hk]; exact nI_pos' (by omega))
  have e1 : t = 320 * e' + n' := (nI_eq (by omega) (by omega)).mp (hk.symm.trans h8)
  rw [e1]
  exact s18y I C h1 h2 (by unfold nN; rw [h5, nI_clamp (by omega)]; exact h3)
theorem s18z {G : ix_G} {h : ix_H} {x : Nat} {S : MS} {T A R U D : Nat → Nat} {Lo Lr : Nat → List Nat} {e n : Int32} (I : mInv S) (C : cRel h x S T A R U D Lo Lr) (hk : ¬ 0 ≤ mKnown S e n) : ix_Ev G 18 0 (lv_args 0 [.ref x, .int e, .int n]) [] h (some .null) h := s18n I C (known_n I hk)
set_option maxRecDepth 100000 in
set_option maxHeartbeats 4000000 in
/-- sender -/
theorem s97 {G : ix_G} {h : ix_H} {x : Nat} {S : MS} (I : mInv S) (B : cB h x S) (e n : Int32) : ix_Ev G 97 0 (lv_args 0 [.ref x, .int e, .int n]) [] h (some (.int (mAsk S 13 e n))) h := by
  obtain ⟨ht, T, A, R, U, D, Lo, Lr, C, L⟩ := id B
  refine ix_ofE ?_
  refine ie_aload_n d97_0 rfl ?_
  refine ie_iload_n d97_1 rfl ?_
  refine ie_iload_n d97_2 rfl ?_
  by_cases hk : 0 ≤ mKnown S e n
  · obtain ⟨t, h1, hv⟩ := known_v I hk
    rw [mAsk_y h1 hv.1]
    have w := (C.tx hv).2.1
    refine ie_callVx [_, _] d97_3 ok18 rm97_18 cl1_129 rfl rfl (Nat.le_of_ble_eq_true rfl) (Nat.le_of_ble_eq_true rfl) C.fx.1 (s18k I C h1 hv) ?_
    refine ie_astore_n d97_6 (by decide) ?_
    refine ie_aload_n d97_7 rfl ?_
    refine ie_ifnonnull 13 d97_8 (by decide) ?_
    refine ie_aload_n d97_13 rfl ?_
    refine ie_callVx [] d97_14 ok26 rm97_26 cl1_195 rfl rfl (Nat.le_of_ble_eq_true rfl) (Nat.le_of_ble_eq_true rfl) w.2.1 (s26 w.2.1) ?_
    refine ie_if_eq 24 d97_17 (by decide) (fun c => ?_) (fun c => ?_)
    · refine ie_aload_n d97_24 rfl ?_
      refine ie_geti (k := 3) d97_25 fl1_198 w.2.1 ?_
      refine ie_iret d97_28 rfl rfl ⟨?_, rfl⟩
      rw [w.2.2.2.2.2.2.2 (fun o => bI_0.mp c (C.so hv o).1)]
    · refine ie_iconst 5 d97_20 (by decide) ?_
      refine ie_goto 28 d97_21 (by decide) ?_
      refine ie_iret d97_28 rfl rfl ⟨?_, rfl⟩
      have o : S 13 t = nI 5 := Classical.byContradiction fun o => by
        have e1 := w.2.2.2.2.2.2.2 o
        have e2 : ix_i h (A t) 15 = 0 := Classical.byContradiction fun z => c (bI_0.mpr z)
        obtain ⟨m, m1, m2, m3⟩ := (I.T hv).2.2.2.2.2.1
        rw [e2, m3] at e1
        exact nI_ne0 (by omega) (by omega) e1.symm
      rw [o]; rfl
  · rw [mAsk_n hk]
    refine ie_callVx [_, _] d97_3 ok18 rm97_18 cl1_129 rfl rfl (Nat.le_of_ble_eq_true rfl) (Nat.le_of_ble_eq_true rfl) C.fx.1 (s18z I C hk) ?_
    refine ie_astore_nN d97_6 (by decide) ?_
    refine ie_aload_nN d97_7 rfl ?_
    refine ie_ifnonnullN 13 d97_8 (by decide) ?_
    refine ie_iconst 0 d97_11 (by decide) ?_
    exact ie_iret d97_12 rfl rfl ⟨rfl, rfl⟩
set_option maxRecDepth 100000 in
set_option maxHeartbeats 4000000 in
/-- findReceiver -/
theorem s99k {G : ix_G} {h : ix_H} {x : Nat} {S : MS} {T A R U D : Nat → Nat} {Lo Lr : Nat → List Nat} {e n : Int32} {t : Nat} (I : mInv S) (C : cRel h x S T A R U D Lo Lr) (hk : mKnown S e n = nI t) (hv : vT S t) : ix_Ev G 99 0 (lv_args 0 [.ref x, .int e, .int n]) [] h (some (va_rf (if S 23 t = 0 then none else some (R t)))) h := by
  have w := (C.tx hv).2.1
  have w1 := (C.tx hv).1
  refine ix_ofE ?_
  refine ie_aload_n d99_0 rfl ?_
  refine ie_iload_n d99_1 rfl ?_
  refine ie_iload_n d99_2 rfl ?_
  refine ie_callVx [_, _] d99_3 ok18 rm99_18 cl1_129 rfl rfl (Nat.le_of_ble_eq_true rfl) (Nat.le_of_ble_eq_true rfl) C.fx.1 (s18k I C hk hv) ?_
  refine ie_astore_n d99_6 (by decide) ?_
  refine ie_aload_n d99_7 rfl ?_
  refine ie_ifnonnull 15 d99_8 (by decide) ?_
  refine ie_aload_n d99_15 rfl ?_
  refine ie_getr _ d99_16 fl1_225 w.2.1 w.2.2.1 ?_
  have e7 := w1.2.2.2.2.2.2.2.2.2
  by_cases z : S 23 t = 0
  · rw [if_pos z] at e7 ⊢
    refine ie_getn d99_19 fl1_226 w1.2.1 e7 ?_
    exact ie_aret d99_22 rfl (Or.inl ⟨_, rfl⟩) (Or.inl rfl) ⟨rfl, rfl⟩
  · rw [if_neg z] at e7 ⊢
    refine ie_getr _ d99_19 fl1_226 w1.2.1 e7 ?_
    exact ie_aret d99_22 rfl (Or.inl ⟨_, rfl⟩) (Or.inr ⟨_, rfl⟩) ⟨rfl, rfl⟩
theorem s99z {G : ix_G} {h : ix_H} {x : Nat} {S : MS} {T A R U D : Nat → Nat} {Lo Lr : Nat → List Nat} {e n : Int32} (I : mInv S) (C : cRel h x S T A R U D Lo Lr) (hk : ¬ 0 ≤ mKnown S e n) : ix_Ev G 99 0 (lv_args 0 [.ref x, .int e, .int n]) [] h (some .null) h := by
  refine ix_ofE ?_
  refine ie_aload_n d99_0 rfl ?_
  refine ie_iload_n d99_1 rfl ?_
  refine ie_iload_n d99_2 rfl ?_
  refine ie_callVx [_, _] d99_3 ok18 rm99_18 cl1_129 rfl rfl (Nat.le_of_ble_eq_true rfl) (Nat.le_of_ble_eq_true rfl) C.fx.1 (s18z I C hk) ?_
  refine ie_astore_nN d99_6 (by decide) ?_
  refine ie_aload_nN d99_7 rfl ?_
  refine ie_ifnonnullN 15 d99_8 (by decide) ?_
  refine ie_null d99_11 ?_
  refine ie_goto 22 d99_12 (by decide) ?_
  exact ie_aret d99_22 rfl (Or.inl ⟨_, rfl⟩) (Or.inl rfl) ⟨rfl, rfl⟩
/-- findReceiver: none, or one -/
theorem s99 {G : ix_G} {h : ix_H} {x : Nat} {S : MS} {T A R U D : Nat → Nat} {Lo Lr : Nat → List Nat} (e n : Int32) (I : mInv S) (C : cRel h x S T A R U D Lo Lr) : (ix_Ev G 99 0 (lv_args 0 [.ref x, .int e, .int n]) [] h (some .null) h ∧ mAsk S 23 e n = 0 ∧ (mAsk S 24 e n = 0 ∨ ∃ t, vT S t ∧ S 23 t = 0 ∧ mAsk S 24 e n = S 24 t)) ∨ ∃ t, vT S t ∧ ¬ S 23 t = 0 ∧ mAsk S 23 e n = S 23 t ∧ mAsk S 24 e n = S 24 t ∧ ix_Ev G 99 0 (lv_args 0 [.ref x, .int e, .int n]) [] h (some (.ref (R t))) h := by
  by_cases hk : 0 ≤ mKnown S e n
  · obtain ⟨t, h1, hv⟩ := known_v I hk
    have w := s99k (G := G) I C h1 hv
    by_cases z : S 23 t = 0
    · rw [if_pos z] at w
      exact Or.inl ⟨w, by rw [mAsk_y h1 hv.1]; exact z, Or.inr ⟨t, hv, z, mAsk_y h1 hv.1⟩⟩
    · rw [if_neg z] at w
      exact Or.inr ⟨t, hv, z, mAsk_y h1 hv.1, mAsk_y h1 hv.1, w⟩
  · exact Or.inl ⟨s99z I C hk, mAsk_n hk, Or.inl (mAsk_n hk)⟩
set_option maxRecDepth 100000 in
set_option maxHeartbeats 4000000 in
/-- receiver -/
theorem s98 {G : ix_G} {h : ix_H} {x : Nat} {S : MS} (I : mInv S) (B : cB h x S) (e n : Int32) : ix_Ev G 98 0 (lv_args 0 [.ref x, .int e, .int n]) [] h (some (.int (mAsk S 23 e n))) h := by
  obtain ⟨ht, T, A, R, U, D, Lo, Lr, C, L⟩ := id B
  refine ix_ofE ?_
  refine ie_aload_n d98_0 rfl ?_
  refine ie_iload_n d98_1 rfl ?_
  refine ie_iload_n d98_2 rfl ?_
  rcases s99 (G := G) e n I C with ⟨q1, q2, q3⟩ | ⟨t, hv, q1, q2, q3, q4⟩
  · rw [q2]
    refine ie_callVx [_, _] d98_3 ok99 rm98_99 cl1_201 rfl rfl (Nat.le_of_ble_eq_true rfl) (Nat.le_of_ble_eq_true rfl) C.fx.1 q1 ?_
    refine ie_astore_nN d98_6 (by decide) ?_
    refine ie_aload_nN d98_7 rfl ?_
    refine ie_ifnonnullN 13 d98_8 (by decide) ?_
    refine ie_iconst 0 d98_11 (by decide) ?_
    exact ie_iret d98_12 rfl rfl ⟨rfl, rfl⟩
  · rw [q2]
    obtain ⟨r1, r2, -, -, -, -, -, -, -, -, r11, rz, ro, r6, r5⟩ := (C.tx hv).2.2 q1
    refine ie_callVx [_, _] d98_3 ok99 rm98_99 cl1_201 rfl rfl (Nat.le_of_ble_eq_true rfl) (Nat.le_of_ble_eq_true rfl) C.fx.1 q4 ?_
    refine ie_astore_n d98_6 (by decide) ?_
    refine ie_aload_n d98_7 rfl ?_
    refine ie_ifnonnull 13 d98_8 (by decide) ?_
    refine ie_aload_n d98_13 rfl ?_
    refine ie_geti (k := 2) d98_14 fl1_205 r2 ?_
    by_cases o : opR S t
    · rw [ro o]
      refine ie_if_eq 25 d98_17 (by decide) (fun _ => ?_) (fun z => absurd rfl z)
      refine ie_aload_n d98_25 rfl ?_
      refine ie_callVx [] d98_26 ok49 rm98_49 cl1_212 rfl rfl (Nat.le_of_ble_eq_true rfl) (Nat.le_of_ble_eq_true rfl) r2 (s49 r2) ?_
      rcases o with o | o
      · rw [(r5 o).1]
        refine ie_if_eq 37 d98_29 (by decide) (fun _ => ?_) (fun z => absurd (bI_0.mpr (fun y => y rfl)) z)
        refine ie_iconst 5 d98_37 (by decide) ?_
        refine ie_iret d98_38 rfl rfl ⟨?_, rfl⟩
        rw [o]; rfl
      · rw [(r6 o).1]
        have nz : ¬ S 26 (sP S t) = 0 := ?_
        · refine ie_if_eq 37 d98_29 (by decide) (fun z => absurd nz (bI_0.mp z)) (fun _ => ?_)
          refine ie_bipush 6 d98_32 (by decide) ?_
          refine ie_goto 38 d98_34 (by decide) ?_
          refine ie_iret d98_38 rfl rfl ⟨?_, rfl⟩
          rw [o]; rfl
        · have := ((I.R hv).2.2 (Or.inr o))
          obtain ⟨m, m1, m2, m3⟩ := this.2.2.2.2.2.2.2.2.2.2.1 o
          rw [m3]
          exact nI_ne0 (by omega) (by omega)
    · rw [(rz o).1]
      refine ie_if_eq 25 d98_17 (by decide) (fun z => absurd z (by decide)) (fun _ => ?_)
      refine ie_aload_n d98_20 rfl ?_
      refine ie_geti (k := 2) d98_21 fl1_211 r2 ?_
      rw [(rz o).2]
      exact ie_iret d98_24 rfl rfl ⟨rfl, rfl⟩
set_option maxRecDepth 100000 in
set_option maxHeartbeats 4000000 in
/-- request -/
theorem s100 {G : ix_G} {h : ix_H} {x : Nat} {S : MS} (I : mInv S) (B : cB h x S) (W : ∀ t, vT S t → S 23 t = 0 → S 24 t = 0) (e n : Int32) : ix_Ev G 100 0 (lv_args 0 [.ref x, .int e, .int n]) [] h (some (.int (mAsk S 24 e n))) h := by
  obtain ⟨ht, T, A, R, U, D, Lo, Lr, C, L⟩ := id B
  refine ix_ofE ?_
  refine ie_aload_n d100_0 rfl ?_
  refine ie_iload_n d100_1 rfl ?_
  refine ie_iload_n d100_2 rfl ?_
  rcases s99 (G := G) e n I C with ⟨q1, q2, q3⟩ | ⟨t, hv, q1, q2, q3, q4⟩
  · have q4 : mAsk S 24 e n = 0 := by
      rcases q3 with q3 | ⟨t, hv, z, q3⟩
      · exact q3
      · rw [q3]; exact W t hv z
    rw [q4]
    refine ie_callVx [_, _] d100_3 ok99 rm100_99 cl1_201 rfl rfl (Nat.le_of_ble_eq_true rfl) (Nat.le_of_ble_eq_true rfl) C.fx.1 q1 ?_
    refine ie_astore_nN d100_6 (by decide) ?_
    refine ie_aload_nN d100_7 rfl ?_
    refine ie_ifnonnullN 15 d100_8 (by decide) ?_
    refine ie_iconst 0 d100_11 (by decide) ?_
    refine ie_goto 19 d100_12 (by decide) ?_
    exact ie_iret d100_19 rfl rfl ⟨rfl, rfl⟩
  · rw [q3]
    obtain ⟨r1, r2, -, -, -, -, -, -, -, -, r11, -⟩ := (C.tx hv).2.2 q1
    refine ie_callVx [_, _] d100_3 ok99 rm100_99 cl1_201 rfl rfl (Nat.le_of_ble_eq_true rfl) (Nat.le_of_ble_eq_true rfl) C.fx.1 q4 ?_
    refine ie_astore_n d100_6 (by decide) ?_
    refine ie_aload_n d100_7 rfl ?_
    refine ie_ifnonnull 15 d100_8 (by decide) ?_
    refine ie_aload_n d100_15 rfl ?_
    refine ie_geti (k := 2) d100_16 fl1_215 r2 ?_
    rw [r11]
    exact ie_iret d100_19 rfl rfl ⟨rfl, rfl⟩
set_option maxRecDepth 100000 in
set_option maxHeartbeats 4000000 in
/-- unit -/
theorem s96 {G : ix_G} {h : ix_H} {x : Nat} {S : MS} (I : mInv S) (B : cB h x S) (k w : Int32) : ix_Ev G 96 0 (lv_args 0 [.ref x, .int k, .int w]) [] h (some (.int (if (0 ≤ k ∧ k < nI (gU S)) ∧ 0 ≤ w ∧ w ≤ 3 then mUnit S k.toNatClampNeg w.toNatClampNeg else -1))) h := by
  have u24 := I.gu.2
  obtain ⟨ht, T, A, R, U, D, Lo, Lr, C, L⟩ := id B
  refine ix_ofE ?_
  refine ie_aload_n d96_0 rfl ?_
  refine ie_getr _ d96_1 fl1_23 C.fx.1 C.fx.2.2.1 ?_
  refine ie_iload_n d96_4 rfl ?_
  by_cases hk : 0 ≤ k ∧ k < nI (gU S)
  · obtain ⟨k', k1, rfl⟩ := fl_x u24 hk
    obtain ⟨w1, w2, w3, w4, w5, w6, -⟩ := (C.us.2.1 k' k1).2
    refine ie_callVx [_] d96_5 ok62 rm96_62 cl1_167 rfl rfl (Nat.le_of_ble_eq_true rfl) (Nat.le_of_ble_eq_true rfl) C.fx.2.2.2.2.2.1 (s62y I C k1) ?_
    refine ie_astore_n d96_8 (by decide) ?_
    refine ie_aload_n d96_9 rfl ?_
    refine ie_ifnonnull 15 d96_10 (by decide) ?_
    refine ie_iload_n d96_15 rfl ?_
    rw [nI_clamp (by omega)]
    by_cases hw : 0 ≤ w ∧ w ≤ 3
    · rw [if_pos ⟨hk, hw⟩]
      have ha := Int32.le_iff_toInt_le.mp hw.1
      have hb := Int32.le_iff_toInt_le.mp hw.2
      simp only [tI] at ha hb
      have hw4 : w.toNatClampNeg < 4 := by show w.toInt.toNat < 4; omega
      have e4 : w = nI w.toNatClampNeg := Int32.toInt_inj.mp (by rw [nI_toInt (by omega)]; show w.toInt = (w.toInt.toNat : Int); omega)
      generalize w.toNatClampNeg = w' at *
      subst e4
      match w', hw4 with
      | 0, _ =>
        refine ie_tabIn 48 d96_16 (by decide) (by decide) rfl (by decide) ?_
        refine ie_aload_n d96_48 rfl ?_
        refine ie_geti (k := 7) d96_49 fl1_180 w2 ?_
        rw [w4]
        exact ie_iret d96_52 rfl rfl ⟨rfl, rfl⟩
      | 1, _ =>
        refine ie_tabIn 53 d96_16 (by decide) (by decide) rfl (by decide) ?_
        refine ie_aload_n d96_53 rfl ?_
        refine ie_geti (k := 7) d96_54 fl1_148 w2 ?_
        rw [w5]
        exact ie_iret d96_57 rfl rfl ⟨rfl, rfl⟩
      | 2, _ =>
        obtain ⟨t, t1, t2, t3⟩ := I.u I.gu.1 u24 k1
        have t6 := t2.1
        rw [t1, nI_clamp (by omega)] at w3
        have z := (C.tx t2).1
        refine ie_tabIn 58 d96_16 (by decide) (by decide) rfl (by decide) ?_
        refine ie_aload_n d96_58 rfl ?_
        refine ie_getr _ d96_59 fl1_153 w2 w3 ?_
        refine ie_geti (k := 6) d96_62 fl1_189 z.2.1 ?_
        rw [z.2.2.2.1]
        refine ie_iret d96_65 rfl rfl ⟨?_, rfl⟩
        unfold mUnit
        rw [if_neg (by decide), if_pos rfl, t1, pk_rem (by omega) (by decide) (by decide)]
      | 3, _ =>
        refine ie_tabIn 66 d96_16 (by decide) (by decide) rfl (by decide) ?_
        refine ie_aload_n d96_66 rfl ?_
        refine ie_geti (k := 7) d96_67 fl1_192 w2 ?_
        rw [w6]
        exact ie_iret d96_70 rfl rfl ⟨rfl, rfl⟩
    · rw [if_neg (fun z => hw z.2)]
      refine ie_tabOut 71 d96_16 ?_ (by decide) ?_
      · simp only [Int32.le_iff_toInt_le, tI] at hw
        omega
      · refine ie_iconst (-1) d96_71 (by decide) ?_
        exact ie_iret d96_72 rfl rfl ⟨rfl, rfl⟩
  · rw [if_neg (fun z => hk z.1)]
    refine ie_callVx [_] d96_5 ok62 rm96_62 cl1_167 rfl rfl (Nat.le_of_ble_eq_true rfl) (Nat.le_of_ble_eq_true rfl) C.fx.2.2.2.2.2.1 (s62n I C hk) ?_
    refine ie_astore_nN d96_8 (by decide) ?_
    refine ie_aload_nN d96_9 rfl ?_
    refine ie_ifnonnullN 15 d96_10 (by decide) ?_
    refine ie_iconst (-1) d96_13 (by decide) ?_
    exact ie_iret d96_14 rfl rfl ⟨rfl, rfl⟩
