/-! ===== the class's link ===== -/
theorem cB.mk {h : ix_H} {x : Nat} {S S' : MS} {T A R U D : Nat → Nat} {Lo Lr : Nat → List Nat} (ht : ix_i h x 3 = S' 1 0) (C : cRel h x S' T A R U D Lo Lr) (L : ∀ e, e < 2 → cAl1 S Lo Lr e) (h13 : S' 13 = S 13) (h23 : S' 23 = S 23) : cB h x S' :=
  ⟨ht, T, A, R, U, D, Lo, Lr, C, fun e he => ⟨fun t h1 => by rw [h13]; exact (L e he).1 t h1, fun t h1 => by have := (L e he).2 t h1; unfold opR at this ⊢; rw [h23]; exact this⟩⟩
theorem lsO.o {x : Nat} {h h' : ix_H} (p : lsO (cLk x) (cRo x) h h') (h2 : ix_tg h (cLk x) = 2) (h3 : ix_tg h (cRo x) = 106) : cFo x h h' 0 0 := by
  refine ⟨by rw [p.2.2.1]; exact Nat.le_refl _, by rw [p.2.2.1]; exact Nat.le_refl _, by rw [p.2.2.2.1]; exact Nat.le_refl _, by rw [p.2.2.2.1]; exact Nat.le_refl _, fun q _ hm => ⟨p.1 q (fun z => ?_) (fun z => ?_), fun j => p.2.2.2.2 q j⟩⟩
  · rw [z, h2] at hm; omega
  · rw [z, h3] at hm; omega
theorem cRel.gu {h : ix_H} {x : Nat} {S : MS} {T A R U D : Nat → Nat} {Lo Lr : Nat → List Nat} (C : cRel h x S T A R U D Lo Lr) (I : mInv S) : ix_i h (cLk x) 1 = nI (gU S) := by rw [C.us.1]; exact I.gu.1
set_option maxRecDepth 100000 in
set_option maxHeartbeats 4000000 in
/-- Link.look, of one that is there -/
theorem s62y {G : ix_G} {h : ix_H} {x : Nat} {S : MS} {T A R U D : Nat → Nat} {Lo Lr : Nat → List Nat} {k : Nat} (I : mInv S) (C : cRel h x S T A R U D Lo Lr) (hk : k < gU S) : ix_Ev G 62 0 (lv_args 0 [.ref (cLk x), .int (nI k)]) [] h (some (.ref (U k))) h := by
  have u24 := I.gu.2
  have e1 := C.gu I
  have t1 := C.fx.2.2.2.2.2.1
  have t2 := C.fx.2.2.2.2.2.2.1
  have t3 := C.fx.2.2.2.2.2.2.2.1
  have t4 := C.fx.2.2.2.2.2.2.2.2.1
  refine ix_ofE ?_
  refine ie_iload_n d62_0 rfl ?_
  refine ie_if_lt 21 d62_1 (by decide) (fun z => absurd z (nI_pos (by omega))) (fun _ => ?_)
  refine ie_iload_n d62_4 rfl ?_
  first | refine ie_aload_n d62_5 rfl ?_ | refine ie_aload_nN d62_5 rfl ?_
  refine ie_geti d62_6 fl7_17 (by first | assumption | (simp only [ix_tg_si, ix_tg_sr, ix_tg_sl]; assumption)) ?_
  rw [e1]
  refine ie_icmp_ge 21 d62_9 (by decide) (fun z => absurd z (by rw [nI_leI (by omega) (by omega)]; omega)) (fun _ => ?_)
  first | refine ie_aload_n d62_12 rfl ?_ | refine ie_aload_nN d62_12 rfl ?_
  refine ie_getr _ d62_13 fl7_11 (by first | assumption | (simp only [ix_tg_si, ix_tg_sr, ix_tg_sl]; assumption)) (by first | assumption | (simp only [ix_r_si, ix_r_sl]; assumption)) ?_
  refine ie_iload_n d62_16 rfl ?_
  refine ie_aald (t := 6) d62_17 (by decide) rfl rfl (Or.inl t3) (by rw [t4]; exact vp_nI (by omega) (by decide)) ?_
  rw [nI_clamp (by omega), (C.us.2.1 k hk).1]
  refine ie_goto 22 d62_18 (by decide) ?_
  exact ie_aret d62_22 rfl (Or.inl ⟨_, rfl⟩) (by first | exact Or.inl rfl | exact Or.inr ⟨_, rfl⟩) ⟨rfl, rfl⟩
set_option maxRecDepth 100000 in
set_option maxHeartbeats 4000000 in
/-- Link.look, of none -/
theorem s62n {G : ix_G} {h : ix_H} {x : Nat} {S : MS} {T A R U D : Nat → Nat} {Lo Lr : Nat → List Nat} {k : Int32} (I : mInv S) (C : cRel h x S T A R U D Lo Lr) (hk : ¬ (0 ≤ k ∧ k < nI (gU S))) : ix_Ev G 62 0 (lv_args 0 [.ref (cLk x), .int k]) [] h (some .null) h := by
  have e1 := C.gu I
  have t1 := C.fx.2.2.2.2.2.1
  have t2 := C.fx.2.2.2.2.2.2.1
  refine ix_ofE ?_
  refine ie_iload_n d62_0 rfl ?_
  refine ie_if_lt 21 d62_1 (by decide) (fun c1 => ?_) (fun c1 => ?_)
  · skip
    refine ie_null d62_21 ?_
    exact ie_aret d62_22 rfl (Or.inl ⟨_, rfl⟩) (by first | exact Or.inl rfl | exact Or.inr ⟨_, rfl⟩) ⟨rfl, rfl⟩
  · skip
    refine ie_iload_n d62_4 rfl ?_
    first | refine ie_aload_n d62_5 rfl ?_ | refine ie_aload_nN d62_5 rfl ?_
    refine ie_geti d62_6 fl7_17 (by first | assumption | (simp only [ix_tg_si, ix_tg_sr, ix_tg_sl]; assumption)) ?_
    rw [e1]
    refine ie_icmp_ge 21 d62_9 (by decide) (fun _ => ?_) (fun z => absurd ⟨Int32.not_lt.mp c1, Int32.not_le.mp z⟩ hk)
    refine ie_null d62_21 ?_
    exact ie_aret d62_22 rfl (Or.inl ⟨_, rfl⟩) (by first | exact Or.inl rfl | exact Or.inr ⟨_, rfl⟩) ⟨rfl, rfl⟩
set_option maxRecDepth 100000 in
set_option maxHeartbeats 4000000 in
/-- Link.take, its loop: those behind step forward -/
theorem s61_l {G : ix_G} {h : ix_H} {x : Nat} {S : MS} {T A R U D : Nat → Nat} {Lo Lr : Nat → List Nat} {k : Nat} (I : mInv S) (C : cRel h x S T A R U D Lo Lr) (hk : k < gU S) : ∀ (z q : Nat), k ≤ q → q ≤ gU S - 1 → gU S - 1 - q < z → ∀ h1, lsO (cLk x) (cRo x) h h1 → (∀ j, ix_r h1 (cLk x) j = ix_r h (cLk x) j) → ix_i h1 (cLk x) 1 = nI (gU S - 1) → (∀ j, ix_r h1 (cRo x) j = ix_r h (cRo x) (if k ≤ j ∧ j < q then j + 1 else j)) → ∀ (lv : List (Nat × Value)), lv.lookup 0 = some (.ref (cLk x)) → lv.lookup 2 = some (.ref (U k)) → lv.lookup 3 = some (.int (nI q)) → ix_E G 61 22 lv [] h1 (fun rv h' => rv = some (.ref (U k)) ∧ lsO (cLk x) (cRo x) h h' ∧ (∀ j, ix_r h' (cLk x) j = ix_r h (cLk x) j) ∧ ix_i h' (cLk x) 1 = nI (gU S - 1) ∧ ∀ j, j < gU S - 1 → ix_r h' (cRo x) j = ix_r h (cRo x) (if k ≤ j then j + 1 else j)) := by
  have u24 := I.gu.2
  intro z
  induction z with
  | zero => intro q _ _ hz; omega
  | succ z ih =>
    intro q k1 k2 hz h1 P pl pc pr lv l0 l2 l3
    have t1 : ix_tg h1 (cLk x) = 2 := by rw [(P.2.1 _).1]; exact C.fx.2.2.2.2.2.1
    have t2 : ix_r h1 (cLk x) 0 = some (cRo x) := by rw [pl]; exact C.fx.2.2.2.2.2.2.1
    have t3 : ix_tg h1 (cRo x) = 106 := by rw [(P.2.1 _).1]; exact C.fx.2.2.2.2.2.2.2.1
    have t4 : ix_ln h1 (cRo x) = 24 := by rw [(P.2.1 _).2]; exact C.fx.2.2.2.2.2.2.2.2.1
    refine ie_iload_n d61_22 l3 ?_
    refine ie_aload_n d61_23 l0 ?_
    refine ie_geti (k := 1) d61_24 fl7_17 t1 ?_
    rw [pc]
    refine ie_icmp_ge 50 d61_27 (by decide) (fun c => ?_) (fun c => ?_)
    · rw [nI_leI (by omega) (by omega)] at c
      refine ie_aload_n d61_50 l0 ?_
      refine ie_getr _ d61_51 fl7_11 t1 t2 ?_
      refine ie_aload_n d61_54 l0 ?_
      refine ie_geti (k := 1) d61_55 fl7_17 t1 ?_
      rw [pc]
      refine ie_null d61_58 ?_
      refine ie_aastN (t := 6) d61_59 (by decide) rfl t3 (by rw [t4]; exact vp_nI (by omega) (by decide)) ?_
      rw [nI_clamp (by omega)]
      refine ie_aload_n d61_60 l2 ?_
      refine ie_aret d61_61 rfl (Or.inl ⟨_, rfl⟩) (Or.inr ⟨_, rfl⟩) ⟨rfl, P.sr, fun j => ?_, ?_, fun j hj => ?_⟩
      · rw [ix_r_sr, if_neg (by unfold cLk cRo; omega)]; exact pl j
      · rw [ix_i_sr]; exact pc
      · rw [ix_r_sr, if_neg (by omega), pr]
        by_cases y : k ≤ j
        · rw [if_pos ⟨y, by omega⟩, if_pos y]
        · rw [if_neg (fun w => y w.1), if_neg y]
    · rw [nI_leI (by omega) (by omega)] at c
      refine ie_aload_n d61_30 l0 ?_
      refine ie_getr _ d61_31 fl7_11 t1 t2 ?_
      refine ie_iload_n d61_34 l3 ?_
      refine ie_aload_n d61_35 l0 ?_
      refine ie_getr _ d61_36 fl7_11 t1 t2 ?_
      refine ie_iload_n d61_39 l3 ?_
      refine ie_iconst 1 d61_40 (by decide) ?_
      refine ie_iadd d61_41 ?_
      rw [nI_1]
      refine ie_aald (t := 6) d61_42 (by decide) rfl rfl (Or.inl t3) (by rw [t4]; exact vp_nI (by omega) (by decide)) ?_
      have w := C.us.2.1 (q + 1) (by omega)
      have e1 : ix_r h1 (cRo x) (q + 1) = some (U (q + 1)) := by rw [pr, if_neg (by omega)]; exact w.1
      rw [nI_clamp (by omega), e1]
      have t8 : ix_tg h1 (U (q + 1)) = 8 := by rw [(P.2.1 _).1]; exact w.2.2.1
      refine ie_aast (k := 7) (t := 6) d61_43 as_unit t3 t8 (by rw [t4]; exact vp_nI (by omega) (by decide)) ?_
      rw [nI_clamp (by omega)]
      refine ie_iinc (nI (q + 1)) d61_44 l3 (nI_1 q) (by decide) ?_
      refine ie_goto 22 d61_47 (by decide) ?_
      refine ih (q + 1) (by omega) (by omega) (by omega) _ P.sr (fun j => ?_) (by rw [ix_i_sr]; exact pc) (fun j => ?_) _ (ix_lk3 (by decide) l0 rfl) (ix_lk3 (by decide) l2 rfl) ix_lk1
      · rw [ix_r_sr, if_neg (by unfold cLk cRo; omega)]; exact pl j
      · rw [ix_r_sr]
        by_cases y : j = q
        · subst y
          rw [if_pos ⟨rfl, rfl⟩, if_pos ⟨k1, by omega⟩]; exact w.1.symm
        · rw [if_neg (fun w => y w.2), pr]
          by_cases y2 : k ≤ j ∧ j < q
          · rw [if_pos y2, if_pos ⟨y2.1, by omega⟩]
          · rw [if_neg y2, if_neg (fun w => y2 ⟨w.1, by omega⟩)]
set_option maxRecDepth 100000 in
set_option maxHeartbeats 4000000 in
/-- Link.take, of one that is there -/
theorem s61y {G : ix_G} {h : ix_H} {x : Nat} {S : MS} {T A R U D : Nat → Nat} {Lo Lr : Nat → List Nat} {k : Nat} (I : mInv S) (C : cRel h x S T A R U D Lo Lr) (hk : k < gU S) : ix_E G 61 0 (lv_args 0 [.ref (cLk x), .int (nI k)]) [] h (fun rv h' => rv = some (.ref (U k)) ∧ cFo x h h' 0 0 ∧ lsO (cLk x) (cRo x) h h' ∧ cRel h' x (mOut S (gU S) k) T A R (fun j => U (if k ≤ j then j + 1 else j)) D Lo Lr) := by
  have u24 := I.gu.2
  have t1 := C.fx.2.2.2.2.2.1
  have e1 := C.gu I
  refine ie_aload_n d61_0 rfl ?_
  refine ie_iload_n d61_1 rfl ?_
  refine ie_callVx [_] d61_2 ok62 rm61_62 cl7_21 rfl rfl (Nat.le_of_ble_eq_true rfl) (Nat.le_of_ble_eq_true rfl) t1 (s62y I C hk) ?_
  refine ie_astore_n d61_5 (by decide) ?_
  refine ie_aload_n d61_6 rfl ?_
  refine ie_ifnull 60 d61_7 (by decide) ?_
  refine ie_aload_n d61_10 rfl ?_
  refine ie_dup d61_11 rfl ?_
  refine ie_geti (k := 1) d61_12 fl7_17 t1 ?_
  rw [e1]
  refine ie_iconst 1 d61_15 (by decide) ?_
  refine ie_isub d61_16 ?_
  rw [nI_sub1 (by omega)]
  refine ie_puti (k := 1) d61_17 fl7_17 (Or.inl rfl) t1 rfl rfl ?_
  refine ie_iload_n d61_20 rfl ?_
  refine ie_istore_n d61_21 (by decide) ?_
  refine ie_mono (s61_l I C hk 100 k (Nat.le_refl _) (by omega) (by omega) _ lsO.rfl.si (fun j => by rw [ix_r_si]) (by rw [ix_i_si, if_pos ⟨rfl, rfl⟩]) (fun j => by rw [ix_r_si, if_neg (by omega)]) _ rfl rfl rfl) (fun rv h' hq => ?_)
  obtain ⟨q1, q2, q3, q4, q5⟩ := hq
  exact ⟨q1, q2.o t1 C.fx.2.2.2.2.2.2.2.1, q2, L_take I C I.gu.1 u24 hk q2.1 q2.2.1 q3 q2.2.2.1 q4 q5⟩
set_option maxRecDepth 100000 in
set_option maxHeartbeats 4000000 in
/-- Link.take, of none -/
theorem s61n {G : ix_G} {h : ix_H} {x : Nat} {S : MS} {T A R U D : Nat → Nat} {Lo Lr : Nat → List Nat} {k : Int32} (I : mInv S) (C : cRel h x S T A R U D Lo Lr) (hk : ¬ (0 ≤ k ∧ k < nI (gU S))) : ix_Ev G 61 0 (lv_args 0 [.ref (cLk x), .int k]) [] h (some .null) h := by
  have t1 := C.fx.2.2.2.2.2.1
  refine ix_ofE ?_
  refine ie_aload_n d61_0 rfl ?_
  refine ie_iload_n d61_1 rfl ?_
  refine ie_callVx [_] d61_2 ok62 rm61_62 cl7_21 rfl rfl (Nat.le_of_ble_eq_true rfl) (Nat.le_of_ble_eq_true rfl) t1 (s62n I C hk) ?_
  refine ie_astore_nN d61_5 (by decide) ?_
  refine ie_aload_nN d61_6 rfl ?_
  refine ie_ifnullN 60 d61_7 (by decide) ?_
  refine ie_aload_nN d61_60 rfl ?_
  exact ie_aret d61_61 rfl (Or.inl ⟨_, rfl⟩) (Or.inl rfl) ⟨rfl, rfl⟩
set_option maxRecDepth 100000 in
set_option maxHeartbeats 4000000 in
/-- lose -/
theorem s90 {G : ix_G} {h : ix_H} {x : Nat} {S : MS} (I : mInv S) (B : cB h x S) (k : Int32) : ix_E G 90 0 (lv_args 0 [.ref x, .int k]) [] h (fun rv h' => rv = some (.int (bI (0 ≤ k ∧ k < nI (gU S)))) ∧ cFo x h h' 0 0 ∧ cB h' x (if 0 ≤ k ∧ k < nI (gU S) then mOut (m0 S) (gU S) k.toNatClampNeg else m0 S)) := by
  have u24 := I.gu.2
  have B0 : cB h x (m0 S) := B.m0 I
  have I0 := mInv_m0 I
  have g0 : gU (m0 S) = gU S := by unfold gU m0; rw [mset_k (by decide)]
  rw [← g0]
  rw [← g0] at u24
  generalize m0 S = S0 at *
  obtain ⟨ht, T, A, R, U, D, Lo, Lr, C, L⟩ := id B0
  refine ie_aload_n d90_0 rfl ?_
  refine ie_getr _ d90_1 fl1_23 C.fx.1 C.fx.2.2.1 ?_
  refine ie_iload_n d90_4 rfl ?_
  by_cases hk : 0 ≤ k ∧ k < nI (gU S0)
  · rw [bI_t hk, if_pos hk]
    obtain ⟨k', k1, rfl⟩ := fl_x u24 hk
    refine ie_callV [_] d90_5 ok61 rm90_61 cl1_144 rfl rfl (Nat.le_of_ble_eq_true rfl) (Nat.le_of_ble_eq_true rfl) C.fx.2.2.2.2.2.1 (s61y I0 C k1) (fun rv h1 hq => ?_)
    obtain ⟨q1, q2, q3, q4⟩ := hq
    subst q1
    refine ie_ifnull 15 d90_8 (by decide) ?_
    refine ie_iconst 1 d90_11 (by decide) ?_
    refine ie_goto 16 d90_12 (by decide) ?_
    refine ie_iret d90_16 rfl (by decide) ⟨rfl, q2, ?_⟩
    rw [nI_clamp (by omega)]
    refine cB.mk ?_ q4 L (mOut_L 13 (by decide)) (mOut_L 23 (by decide))
    rw [mOut_L 1 (by decide), ← ht]
    exact (q3.1 x (by unfold cLk; omega) (by unfold cRo; omega)).2.2.1 3
  · rw [bI_f hk, if_neg hk]
    refine ie_callVx [_] d90_5 ok61 rm90_61 cl1_144 rfl rfl (Nat.le_of_ble_eq_true rfl) (Nat.le_of_ble_eq_true rfl) C.fx.2.2.2.2.2.1 (s61n I0 C hk) ?_
    refine ie_ifnullN 15 d90_8 (by decide) ?_
    refine ie_iconst 0 d90_15 (by decide) ?_
    exact ie_iret d90_16 rfl (by decide) ⟨rfl, cFo.rfl, B0⟩
set_option maxRecDepth 100000 in
set_option maxHeartbeats 4000000 in
/-- units -/
theorem s95 {G : ix_G} {h : ix_H} {x : Nat} {S : MS} (B : cB h x S) : ix_Ev G 95 0 (lv_args 0 [.ref x]) [] h (some (.int (S 44 0))) h := by
  obtain ⟨ht, T, A, R, U, D, Lo, Lr, C, L⟩ := id B
  refine ix_ofE ?_
  refine ie_aload_n d95_0 rfl ?_
  refine ie_getr _ d95_1 fl1_23 C.fx.1 C.fx.2.2.1 ?_
  refine ie_geti (k := 1) d95_4 fl1_186 C.fx.2.2.2.2.2.1 ?_
  rw [C.us.1]
  exact ie_iret d95_7 rfl rfl ⟨rfl, rfl⟩
/-- Link.isFull -/
theorem s92 {G : ix_G} {h : ix_H} {a : Nat} (ht : ix_tg h a = 2) : ix_Ev G 92 0 (lv_args 0 [.ref a]) [] h (some (.int (bI (¬ ix_i h a 1 < 24)))) h := by
  refine ix_ofE ?_
  refine ie_aload_n d92_0 rfl ?_
  refine ie_geti (k := 1) d92_1 fl7_17 ht ?_
  refine ie_bipush 24 d92_4 (by decide) ?_
  refine ie_icmp_lt 13 d92_6 (by decide) (fun c => ?_) (fun c => ?_)
  · refine ie_iconst 0 d92_13 (by decide) ?_
    refine ie_iret d92_14 rfl (by decide) ⟨?_, rfl⟩
    rw [bI_f (fun z => z c)]
  · refine ie_iconst 1 d92_9 (by decide) ?_
    refine ie_goto 14 d92_10 (by decide) ?_
    refine ie_iret d92_14 rfl (by decide) ⟨?_, rfl⟩
    rw [bI_t (show ¬ ix_i h a 1 < 24 from c)]
/-- Unit.twin -/
theorem s93 {G : ix_G} {h : ix_H} {a tx : Nat} (ht : ix_tg h a = 8) (ha : a < ix_nx h) (hr : ix_r h a 0 = some tx) : ix_Ev G 93 0 (lv_args 0 [.ref a]) [] h (some (.ref (ix_nx h))) (hUn h tx (ix_i h a 1) (ix_i h a 2) (ix_i h a 3) (ix_i h a 4) (ix_i h a 5)) := by
  have en : ix_tg (ix_nw h 8 0 6) a = 8 := by rw [ix_tg_nw, if_neg (by omega)]; exact ht
  have er : ix_r (ix_nw h 8 0 6) a 0 = some tx := by rw [ix_r_nw, if_neg (by omega)]; exact hr
  have ei : ∀ j, ix_i (ix_nw h 8 0 6) a j = ix_i h a j := fun j => by rw [ix_i_nw, if_neg (by omega)]
  have e8 : ix_tg (ix_nw h 8 0 6) (ix_nx h) = 8 := by rw [ix_tg_nw, if_pos rfl]
  refine ix_ofE ?_
  refine ie_new d93_0 nl12_8 ?_
  show ix_E G 93 3 _ _ (ix_nw h 8 0 6) _
  refine ie_dup d93_3 rfl ?_
  refine ie_aload_n d93_4 rfl ?_
  refine ie_getr tx d93_5 fl12_7 en er ?_
  refine ie_aload_n d93_8 rfl ?_
  refine ie_geti (k := 7) d93_9 fl12_13 en ?_
  refine ie_aload_n d93_12 rfl ?_
  refine ie_geti (k := 7) d93_13 fl12_17 en ?_
  refine ie_aload_n d93_16 rfl ?_
  refine ie_geti (k := 7) d93_17 fl12_20 en ?_
  refine ie_aload_n d93_20 rfl ?_
  refine ie_geti (k := 7) d93_21 fl12_23 en ?_
  refine ie_aload_n d93_24 rfl ?_
  refine ie_geti (k := 7) d93_25 fl12_26 en ?_
  rw [ei, ei, ei, ei, ei]
  refine ie_callIx [_, _, _, _, _, _] d93_28 ok36 rm93_36 cl12_29 rfl rfl (Nat.le_of_ble_eq_true rfl) (Nat.le_of_ble_eq_true rfl) (s36 e8) ?_
  exact ie_aret d93_31 rfl (Or.inl ⟨_, rfl⟩) (Or.inr ⟨_, rfl⟩) ⟨rfl, rfl⟩
set_option maxRecDepth 100000 in
set_option maxHeartbeats 4000000 in
/-- copy -/
theorem s91 {G : ix_G} {h : ix_H} {x : Nat} {S : MS} (I : mInv S) (B : cB h x S) (k : Int32) : ix_E G 91 0 (lv_args 0 [.ref x, .int k]) [] h (fun rv h' => rv = some (.int (bI ((0 ≤ k ∧ k < nI (gU S)) ∧ ¬ gU S = 24))) ∧ cFo x h h' 1 6 ∧ cB h' x (if (0 ≤ k ∧ k < nI (gU S)) ∧ ¬ gU S = 24 then mCopy (m0 S) (gU S) k.toNatClampNeg else m0 S)) := by
  have u24 := I.gu.2
  have B0 : cB h x (m0 S) := B.m0 I
  have I0 := mInv_m0 I
  have g0 : gU (m0 S) = gU S := by unfold gU m0; rw [mset_k (by decide)]
  rw [← g0]
  rw [← g0] at u24
  generalize m0 S = S0 at *
  have F0 : cFo x h h 1 6 := (cPo.rfl.m (by decide) (by decide)).o
  obtain ⟨ht, T, A, R, U, D, Lo, Lr, C, L⟩ := id B0
  have e1 := C.gu I0
  refine ie_aload_n d91_0 rfl ?_
  refine ie_getr _ d91_1 fl1_23 C.fx.1 C.fx.2.2.1 ?_
  refine ie_iload_n d91_4 rfl ?_
  by_cases hk : 0 ≤ k ∧ k < nI (gU S0)
  · obtain ⟨k', k1, rfl⟩ := fl_x u24 hk
    have w := (C.us.2.1 k' k1).2
    refine ie_callVx [_] d91_5 ok62 rm91_62 cl1_167 rfl rfl (Nat.le_of_ble_eq_true rfl) (Nat.le_of_ble_eq_true rfl) C.fx.2.2.2.2.2.1 (s62y I0 C k1) ?_
    refine ie_astore_n d91_8 (by decide) ?_
    refine ie_aload_n d91_9 rfl ?_
    refine ie_ifnull 23 d91_10 (by decide) ?_
    refine ie_aload_n d91_13 rfl ?_
    refine ie_getr _ d91_14 fl1_23 C.fx.1 C.fx.2.2.1 ?_
    refine ie_callVx [] d91_17 ok92 rm91_92 cl1_170 rfl rfl (Nat.le_of_ble_eq_true rfl) (Nat.le_of_ble_eq_true rfl) C.fx.2.2.2.2.2.1 (s92 C.fx.2.2.2.2.2.1) ?_
    rw [e1]
    have le : nI (gU S0) < 24 ↔ ¬ gU S0 = 24 := by
      rw [show (24 : Int32) = nI 24 from rfl, nI_ltI (by omega) (by omega)]; omega
    refine ie_if_eq 25 d91_20 (by decide) (fun c => ?_) (fun c => ?_)
    · have hu : ¬ gU S0 = 24 := le.mp (Classical.byContradiction (bI_0.mp c))
      rw [bI_t ⟨hk, hu⟩, if_pos ⟨hk, hu⟩]
      have hlt : U k' < ix_nx h := C.lt (by rw [w.2.1]; decide)
      refine ie_aload_n d91_25 rfl ?_
      refine ie_getr _ d91_26 fl1_23 C.fx.1 C.fx.2.2.1 ?_
      refine ie_aload_n d91_29 rfl ?_
      refine ie_callVx [] d91_30 ok93 rm91_93 cl1_173 rfl rfl (Nat.le_of_ble_eq_true rfl) (Nat.le_of_ble_eq_true rfl) w.2.1 (s93 w.2.1 hlt w.2.2.1) ?_
      obtain ⟨U', C1⟩ := L_copy I0 C I0.gu.1 (by omega) k1
      have lk := lkS_c (C.lk I0) (hUn_o (tx := T (S0 45 (11 * k' + 2)).toNatClampNeg) (w := ix_i h (U k') 1) (to := ix_i h (U k') 2) (d := ix_i h (U k') 3) (l := ix_i h (U k') 4) (c := ix_i h (U k') 5) (by have := C.x30; unfold cLk; omega)) (hUn_o (by have := C.x30; unfold cRo; omega)) (by rw [hUn_x]; omega)
      refine ie_callVx [_] d91_33 ok37 rm91_37 cl1_177 rfl rfl (Nat.le_of_ble_eq_true rfl) (Nat.le_of_ble_eq_true rfl) (by rw [(hUn_o (by have := C.x30; unfold cLk; omega)).1]; exact C.fx.2.2.2.2.2.1) (s37 lk hUn_n.1) ?_
      refine ie_iconst 1 d91_36 (by decide) ?_
      refine ie_iret d91_37 rfl (by decide) ⟨rfl, ?_, ?_⟩
      · exact (cPo.rfl.out (tx := T (S0 45 (11 * k' + 2)).toNatClampNeg) C.fx.2.2.2.2.2.1 C.fx.2.2.2.2.2.2.2.1 C.x30).o
      · rw [nI_clamp (by omega)]
        refine cB.mk ?_ C1 L (mCopy_L 13 (by decide)) (mCopy_L 23 (by decide))
        rw [mCopy_L 1 (by decide), ← ht]
        exact (hOut_s (by unfold cLk; omega) (by unfold cRo; omega) (by have := C.x30; omega)).2.2.1 3
    · have hu : ¬ ¬ gU S0 = 24 := fun z => c (bI_0.mpr (fun y => y (le.mpr z)))
      rw [bI_f (fun z => hu z.2), if_neg (fun z => hu z.2)]
      refine ie_iconst 0 d91_23 (by decide) ?_
      exact ie_iret d91_24 rfl (by decide) ⟨rfl, F0, B0⟩
  · rw [bI_f (fun z => hk z.1), if_neg (fun z => hk z.1)]
    refine ie_callVx [_] d91_5 ok62 rm91_62 cl1_167 rfl rfl (Nat.le_of_ble_eq_true rfl) (Nat.le_of_ble_eq_true rfl) C.fx.2.2.2.2.2.1 (s62n I0 C hk) ?_
    refine ie_astore_nN d91_8 (by decide) ?_
    refine ie_aload_nN d91_9 rfl ?_
    refine ie_ifnullN 23 d91_10 (by decide) ?_
    refine ie_iconst 0 d91_23 (by decide) ?_
    exact ie_iret d91_24 rfl (by decide) ⟨rfl, F0, B0⟩
set_option maxRecDepth 100000 in
set_option maxHeartbeats 4000000 in
/-- spoil -/
theorem s94 {G : ix_G} {h : ix_H} {x : Nat} {S : MS} (I : mInv S) (B : cB h x S) (k b : Int32) : ix_E G 94 0 (lv_args 0 [.ref x, .int k, .int b]) [] h (fun rv h' => rv = some (.int (bI ((0 ≤ k ∧ k < nI (gU S)) ∧ S 45 (11 * k.toNatClampNeg) = nI 2))) ∧ cFo x h h' 0 0 ∧ cB h' x (if (0 ≤ k ∧ k < nI (gU S)) ∧ S 45 (11 * k.toNatClampNeg) = nI 2 then mSpoil (m0 S) k.toNatClampNeg (S 45 (11 * k.toNatClampNeg + 4)).toNatClampNeg b else m0 S)) := by
  have u24 := I.gu.2
  have B0 : cB h x (m0 S) := B.m0 I
  have I0 := mInv_m0 I
  have g0 : gU (m0 S) = gU S := by unfold gU m0; rw [mset_k (by decide)]
  have g45 : m0 S 45 = S 45 := mset_kk (by decide)
  rw [← g0, ← g45]
  rw [← g0] at u24
  generalize m0 S = S0 at *
  obtain ⟨ht, T, A, R, U, D, Lo, Lr, C, L⟩ := id B0
  have e1 := C.gu I0
  refine ie_aload_n d94_0 rfl ?_
  refine ie_getr _ d94_1 fl1_23 C.fx.1 C.fx.2.2.1 ?_
  refine ie_iload_n d94_4 rfl ?_
  by_cases hk : 0 ≤ k ∧ k < nI (gU S0)
  · obtain ⟨k', k1, rfl⟩ := fl_x u24 hk
    have w := (C.us.2.1 k' k1).2
    refine ie_callVx [_] d94_5 ok62 rm94_62 cl1_167 rfl rfl (Nat.le_of_ble_eq_true rfl) (Nat.le_of_ble_eq_true rfl) C.fx.2.2.2.2.2.1 (s62y I0 C k1) ?_
    rw [nI_clamp (by omega)]
    refine ie_astore_n d94_8 (by decide) ?_
    refine ie_aload_n d94_9 rfl ?_
    refine ie_ifnull 21 d94_10 (by decide) ?_
    refine ie_aload_n d94_13 rfl ?_
    refine ie_geti (k := 7) d94_14 fl1_180 w.2.1 ?_
    rw [w.2.2.2.1]
    refine ie_iconst (nI 2) d94_17 (by decide) ?_
    refine ie_icmp_eq 23 d94_18 (by decide) (fun c => ?_) (fun c => ?_)
    · rw [bI_t ⟨hk, c⟩, if_pos ⟨hk, c⟩]
      obtain ⟨n, n1, n2⟩ : ∃ n, n ≤ 4 ∧ S0 45 (11 * k' + 4) = nI n := by
        obtain ⟨t, t1, t2, t3⟩ := I0.u I0.gu.1 u24 k1
        unfold uK at t3
        rw [c] at t3
        rcases t3 with y | y | y | y | y | y
        · exact absurd y.1 (by decide)
        · obtain ⟨n, n1, n2, n3⟩ := y.2.2.2.1
          exact ⟨n, n2, n3⟩
        · exact absurd y.1 (by decide)
        · exact absurd y.1 (by decide)
        · exact absurd y.1 (by decide)
        · exact absurd y.1 (by decide)
      rw [n2, nI_clamp (by omega)]
      refine ie_aload_n d94_23 rfl ?_
      refine ie_dup d94_24 rfl ?_
      refine ie_geti (k := 7) d94_25 fl1_183 w.2.1 ?_
      refine ie_iload_n d94_28 rfl ?_
      refine ie_ixor d94_29 ?_
      refine ie_puti (k := 7) d94_30 fl1_183 (Or.inl rfl) w.2.1 rfl rfl ?_
      refine ie_iconst 1 d94_33 (by decide) ?_
      refine ie_iret d94_34 rfl (by decide) ⟨rfl, (cPo.rfl.si (cCl_of w.2.1 (by decide))).o, ?_⟩
      refine cB.mk ?_ (L_spoil I0 C I0.gu.1 u24 k1 c n2 n1) L (mset_kk (by decide)) (mset_kk (by decide))
      unfold mSpoil
      rw [mset_k (by decide), ← ht, ix_i_si, if_neg (by have := w.1; omega)]
    · rw [bI_f (fun z => c z.2), if_neg (fun z => c z.2)]
      refine ie_iconst 0 d94_21 (by decide) ?_
      exact ie_iret d94_22 rfl (by decide) ⟨rfl, cFo.rfl, B0⟩
  · rw [bI_f (fun z => hk z.1), if_neg (fun z => hk z.1)]
    refine ie_callVx [_] d94_5 ok62 rm94_62 cl1_167 rfl rfl (Nat.le_of_ble_eq_true rfl) (Nat.le_of_ble_eq_true rfl) C.fx.2.2.2.2.2.1 (s62n I0 C hk) ?_
    refine ie_astore_nN d94_8 (by decide) ?_
    refine ie_aload_nN d94_9 rfl ?_
    refine ie_ifnullN 21 d94_10 (by decide) ?_
    refine ie_iconst 0 d94_21 (by decide) ?_
    exact ie_iret d94_22 rfl (by decide) ⟨rfl, cFo.rfl, B0⟩
