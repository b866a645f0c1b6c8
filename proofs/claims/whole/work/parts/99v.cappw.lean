/-! ===== append, delete, at: where they answer ===== -/
def xB (w : Int64) (i : Nat) : Int32 := (w >>> ((nI (8 * i)).toInt64 &&& 63)).toInt32
/-- the bytes are laid behind the file's -/
def hEx (h : ix_H) (b m : Nat) (w : Int64) : Nat → ix_H
  | 0 => h
  | i + 1 => ix_si (hEx h b m w i) b (m + i) (xB w i).toInt8.toInt32
theorem hEx_o {h : ix_H} {b m : Nat} {w : Int64} : ∀ l, (∀ q, q ≠ b → ceq h (hEx h b m w l) q) ∧ ix_nx (hEx h b m w l) = ix_nx h ∧ (∀ q, ix_tg (hEx h b m w l) q = ix_tg h q ∧ ix_ln (hEx h b m w l) q = ix_ln h q ∧ ∀ j, ix_r (hEx h b m w l) q j = ix_r h q j) ∧ ∀ j, ix_i (hEx h b m w l) b j = if m ≤ j ∧ j < m + l then (xB w (j - m)).toInt8.toInt32 else ix_i h b j := by
  intro l
  induction l with
  | zero => exact ⟨fun _ _ => ceq.rfl, rfl, fun _ => ⟨rfl, rfl, fun _ => rfl⟩, fun j => by rw [if_neg (by omega)]; rfl⟩
  | succ l ih =>
    obtain ⟨i1, i2, i3, i4⟩ := ih
    refine ⟨fun q hq => (i1 q hq).tr ((sw.rfl.si).1 q hq), i2, fun q => i3 q, fun j => ?_⟩
    unfold hEx
    rw [ix_i_si]
    by_cases q : j = m + l
    · rw [if_pos ⟨rfl, q⟩, if_pos (by omega), show j - m = l from by omega]
    · rw [if_neg (fun z => q z.2), i4]
      by_cases w : m ≤ j ∧ j < m + l
      · rw [if_pos w, if_pos (by omega)]
      · rw [if_neg w, if_neg (by omega)]
theorem hEx_po {x a0 b0 b m l : Nat} {w : Int64} {h h1 : ix_H} (p : cPo x h h1 a0 b0) (t1 : ix_tg h1 b = 102) : cPo x h (hEx h1 b m w l) a0 b0 := by
  induction l with
  | zero => exact p
  | succ l ih => exact ih.si (cCl_of (k := 102) (by rw [((hEx_o l).2.2.1 _).1]; exact t1) (by decide))
set_option maxRecDepth 100000 in
set_option maxHeartbeats 4000000 in
/-- extend: its loop -/
theorem s104_l {G : ix_G} {h : ix_H} {x e f m n : Nat} {w : Int64} (F : cFx1 h x e) (hf : f < 6) (hm : ix_i h (cSz x e) f = nI m) (hmn : m + n ≤ 64) :
    ∀ (z i : Nat), i ≤ n → n - i < z → ∀ (lv : List (Nat × Value)), lv.lookup 0 = some (.ref (cSt x e)) → lv.lookup 1 = some (.int (nI f)) → lv.lookup 2 = some (.int (nI n)) → lv.lookup 3 = some (.long w) → lv.lookup 5 = some (.int (nI i)) → ix_E G 104 3 lv [] (hEx h (cBr x e f) m w i) (fun rv h' => rv = none ∧ h' = ix_si (hEx h (cBr x e f) m w n) (cSz x e) f (nI (m + n))) := by
  obtain ⟨f1, f2, f3, f4, f5, f6, f7, f8, f9, f10, f11, f12⟩ := F
  obtain ⟨g1, g2, g3⟩ := f12 f hf
  have bs : cSz x e ≠ cBr x e f := by unfold cBr cSz; omega
  intro z
  induction z with
  | zero => intro i _ hz; omega
  | succ z ih =>
    intro i hi hz lv l0 l1 l2 l3 l5
    obtain ⟨b1, b2, b3, b4⟩ := hEx_o (h := h) (b := cBr x e f) (m := m) (w := w) i
    have t : ∀ q, ix_tg (hEx h (cBr x e f) m w i) q = ix_tg h q := fun q => (b3 q).1
    have r : ∀ q j, ix_r (hEx h (cBr x e f) m w i) q j = ix_r h q j := fun q => (b3 q).2.2
    have l : ∀ q, ix_ln (hEx h (cBr x e f) m w i) q = ix_ln h q := fun q => (b3 q).2.1
    refine ie_iload d104_3 l5 ?_
    refine ie_iload_n d104_5 l2 ?_
    refine ie_icmp_ge 40 d104_6 (by decide) (fun q => ?_) (fun q => ?_)
    · rw [nI_leI (by omega) (by omega)] at q
      have e1 : i = n := by omega
      subst e1
      refine ie_aload_n d104_40 l0 ?_
      refine ie_getr (k := 5) _ d104_41 fl3_16 (by rw [t]; exact f5) (by rw [r]; exact f7) ?_
      refine ie_iload_n d104_44 l1 ?_
      refine ie_dup2 d104_45 rfl rfl ?_
      refine ie_iald d104_46 (Or.inl (by rw [t]; exact f10)) (by rw [l, f11]; exact vp_nI hf (by decide)) ?_
      rw [nI_clamp (by omega), (b1 _ bs).2.2.1, hm]
      refine ie_iload_n d104_47 l2 ?_
      refine ie_iadd d104_48 ?_
      rw [nI_add]
      refine ie_iast d104_49 (by rw [t]; exact f10) (by rw [l, f11]; exact vp_nI hf (by decide)) ?_
      rw [nI_clamp (by omega)]
      exact ie_vret d104_50 rfl ⟨rfl, rfl⟩
    · rw [nI_leI (by omega) (by omega)] at q
      refine ie_aload_n d104_9 l0 ?_
      refine ie_getr (k := 5) _ d104_10 fl3_11 (by rw [t]; exact f5) (by rw [r]; exact f6) ?_
      refine ie_iload_n d104_13 l1 ?_
      refine ie_aald (t := 4) d104_14 (by decide) rfl rfl (Or.inl (by rw [t]; exact f8)) (by rw [l, f9]; exact vp_nI hf (by decide)) ?_
      rw [nI_clamp (by omega), r, g1]
      refine ie_aload_n d104_15 l0 ?_
      refine ie_getr (k := 5) _ d104_16 fl3_16 (by rw [t]; exact f5) (by rw [r]; exact f7) ?_
      refine ie_iload_n d104_19 l1 ?_
      refine ie_iald d104_20 (Or.inl (by rw [t]; exact f10)) (by rw [l, f11]; exact vp_nI hf (by decide)) ?_
      rw [nI_clamp (by omega), (b1 _ bs).2.2.1, hm]
      refine ie_iload d104_21 l5 ?_
      refine ie_iadd d104_23 ?_
      rw [nI_add]
      refine ie_lload_n d104_24 l3 ?_
      refine ie_bipush (nI 8) d104_25 (by decide) ?_
      refine ie_iload d104_27 l5 ?_
      refine ie_imul d104_29 ?_
      rw [pk_mul]
      refine ie_lshr d104_30 ?_
      refine ie_l2i d104_31 ?_
      refine ie_i2b d104_32 ?_
      refine ie_bast d104_33 (by rw [t]; exact g2) (by rw [l, g3]; exact vp_nI (by omega) (by decide)) ?_
      rw [nI_clamp (by omega), Int8.toInt8_toInt32]
      refine ie_iinc (nI (i + 1)) d104_34 l5 (nI_1 i) (by decide) ?_
      refine ie_goto 3 d104_37 (by decide) ?_
      exact ih (i + 1) (by omega) (by omega) _ (ix_lk3 (by decide) l0 rfl) (ix_lk3 (by decide) l1 rfl) (ix_lk3 (by decide) l2 rfl) (ix_lk4 (by decide) (by decide) l3) ix_lk1
/-- extend -/
theorem s104 {G : ix_G} {h : ix_H} {x e f m n : Nat} {w : Int64} (F : cFx1 h x e) (hf : f < 6) (hm : ix_i h (cSz x e) f = nI m) (hmn : m + n ≤ 64) : ix_Ev G 104 0 (lv_args 0 [.ref (cSt x e), .int (nI f), .int (nI n), .long w]) [] h none (ix_si (hEx h (cBr x e f) m w n) (cSz x e) f (nI (m + n))) := by
  refine ix_ofE ?_
  refine ie_iconst (nI 0) d104_0 (by decide) ?_
  refine ie_istore d104_1 (by decide) ?_
  exact s104_l F hf hm hmn 100 0 (by omega) (by omega) _ rfl rfl rfl rfl rfl
theorem xB_app {w : Int64} {i : Nat} : (xB w i).toInt8.toInt32 &&& 255 = appB w i := by
  rw [i8_b]
  unfold xB appB
  first | rfl | (rw [Int64.toInt32_and]; rfl)
theorem L_app {h : ix_H} {x : Nat} {S : MS} {T A R U D : Nat → Nat} {Lo Lr : Nat → List Nat} {e f m n : Nat} {w : Int64} (I : mInv S) (C : cRel h x S T A R U D Lo Lr) (he : e < 2) (hf : f < 6) (hth : ¬ S 4 (6 * e + f) = 0) (hm : S 5 (6 * e + f) = nI m) (hmn : m + n ≤ 64) (hno : ∀ t, vT S t → S 13 t = nI 5 → fI S t ≠ 6 * e + f) : cRel (ix_si (hEx h (cBr x e f) m w n) (cSz x e) f (nI (m + n))) x (mApp S (6 * e + f) m n w) T A R U D Lo Lr := by
  have bs : cBr x e f ≠ cSz x e := by unfold cBr cSz; omega
  obtain ⟨b1, b2, b3, b4⟩ := hEx_o (h := h) (b := cBr x e f) (m := m) (w := w) n
  have fl := C.fl he hf
  have r6 : ∀ j, mApp S (6 * e + f) m n w 6 j = if 64 * (6 * e + f) + m ≤ j ∧ j < 64 * (6 * e + f) + m + n then appB w (j - (64 * (6 * e + f) + m)) else S 6 j := fun j => by
    unfold mApp mAp
    rw [mset_k (by decide)]
    by_cases q : 64 * (6 * e + f) + m ≤ j ∧ j < 64 * (6 * e + f) + m + n
    · rw [if_pos ⟨rfl, q⟩, if_pos q]
    · rw [if_neg (fun z => q z.2), if_neg q]
  have r4 : ∀ j, mApp S (6 * e + f) m n w 4 j = S 4 j := fun j => by unfold mApp; rw [mset_k (by decide), mAp_o (by decide)]
  have r5 : ∀ j, mApp S (6 * e + f) m n w 5 j = if j = 6 * e + f then nI (m + n) else S 5 j := fun j => by unfold mApp; rw [mset_if rfl, mAp_o (by decide)]
  refine cRel_fl I C he hf (fun b h1 h2 => (b1 b h2).tr ((sw.rfl.si).1 b h1)) (fun b => b3 b) (fun j hj => by rw [ix_i_si, if_neg (fun z => hj z.2)]; exact (b1 _ (Ne.symm bs)).2.2.1 j) b2 (fun k hk => funext fun j => ?_) (fun j hj => ⟨r4 j, by rw [r5, if_neg hj]⟩) (fun j hj => by rw [r6, if_neg (by omega)]) ⟨?_, fun i hi => ?_, fun _ i hi => ?_⟩ hno
  · simp only [List.mem_cons, List.not_mem_nil, or_false, not_or] at hk
    unfold mApp
    rw [mset_k (by omega), mAp_o (by omega)]
  · rw [ix_i_si, if_pos ⟨rfl, rfl⟩, r4, if_neg hth, r5, if_pos rfl]
  · rw [ix_i_si, if_neg (fun z => bs z.1), b4]
    split
    · exact i8_8 _
    · exact fl.2.1 i hi
  · rw [r5, if_pos rfl, nI_clamp (by omega)] at hi
    rw [ix_i_si, if_neg (fun z => bs z.1), b4, r6]
    by_cases q : m ≤ i
    · rw [if_pos ⟨q, hi⟩, if_pos (by omega), xB_app]
      congr 1
      omega
    · rw [if_neg (by omega), if_neg (by omega)]
      exact fl.2.2 hth i (by rw [hm, nI_clamp (by omega)]; omega)
set_option maxRecDepth 100000 in
set_option maxHeartbeats 4000000 in
/-- append, where it answers -/
theorem s103y {G : ix_G} {h : ix_H} {x : Nat} {S : MS} {e f m n : Nat} {w : Int64} (I : mInv S) (B : cB h x S) (he : e < 2) (hf : f < 6) (hn1 : 1 ≤ n) (hn8 : n ≤ 8) (hth : ¬ S 4 (6 * e + f) = 0) (hm : S 5 (6 * e + f) = nI m) (hL : ¬ mLock S e (nI f) (cP 42 S e)) (hmn : m + n ≤ 64) : ix_E G 103 0 (lv_args 0 [.ref x, .int (nI e), .int (nI f), .int (nI n), .long w]) [] h (fun rv h' => rv = some (.int (nI (m + n))) ∧ cFo x h h' 0 0 ∧ cB h' x (mApp (m0 S) (6 * e + f) m n w)) := by
  have B0 : cB h x (m0 S) := B.m0 I
  have I0 := mInv_m0 I
  have e4 : m0 S 4 = S 4 := mset_kk (by decide)
  have e5 : m0 S 5 = S 5 := mset_kk (by decide)
  have e9 : m0 S 9 = S 9 := mset_kk (by decide)
  have eK : mLock (m0 S) e (nI f) (cP 42 (m0 S) e) ↔ mLock S e (nI f) (cP 42 S e) := by
    unfold mLock cP m0
    rw [mset_kk (by decide), mset_kk (by decide), mset_kk (by decide)]
  rw [← e4] at hth
  rw [← e5] at hm
  rw [← eK] at hL
  generalize m0 S = S0 at *
  obtain ⟨hx3, T, A, R, U, D, Lo, Lr, C, L⟩ := id B0
  have F := C.fx.2.2.2.2.2.2.2.2.2 e he
  have hi := isF_y he hf
  have hh := (C.fl he hf).has (I0.2.1 _ (by omega)).2
  have AL := cAl1.all L
  have esz : ix_i h (cSz x e) f = nI m := by rw [(C.fl he hf).1, if_neg hth, hm]
  obtain ⟨cs, c1, c2, -⟩ := I0.L e he
  have hno := noLock I0 he hf c2 c1 (by have e1 : cP 42 S0 e = cs := by (unfold cP; rw [c2, nI_clamp (by omega)])
                                        rw [← e1]; exact hL)
  refine ie_iload_n d103_0 rfl ?_
  refine ie_iload_n d103_1 rfl ?_
  refine ie_callSx [_, _] d103_2 ok9 rm103_9 cl1_30 rfl rfl (Nat.le_of_ble_eq_true rfl) (Nat.le_of_ble_eq_true rfl) (s9 _ _) ?_
  refine ie_if_eq 19 d103_5 (by decide) (fun z => absurd (isF_lt.mpr hi) (bI_0.mp z)) (fun _ => ?_)
  refine ie_iload_n d103_8 rfl ?_
  refine ie_iconst (nI 1) d103_9 (by decide) ?_
  refine ie_icmp_lt 19 d103_10 (by decide) (fun z => absurd z (by rw [nI_ltI (by omega) (by omega)]; omega)) (fun _ => ?_)
  refine ie_iload_n d103_13 rfl ?_
  refine ie_bipush (nI 8) d103_14 (by decide) ?_
  refine ie_icmp_le 29 d103_16 (by decide) (fun _ => ?_) (fun z => absurd ((nI_leI (by omega) (by omega)).mpr hn8) z)
  refine ie_aload_n d103_29 rfl ?_
  refine ie_getr _ d103_30 fl1_16 C.fx.1 C.fx.2.1 ?_
  refine ie_iload_n d103_33 rfl ?_
  refine ie_aald (t := 5) d103_34 (by decide) rfl rfl (Or.inl C.fx.2.2.2.1) (by rw [C.fx.2.2.2.2.1]; exact vp_nI he (by decide)) ?_
  rw [nI_clamp (by omega), F.1]
  refine ie_astore d103_35 (by decide) ?_
  refine ie_aload d103_37 rfl ?_
  refine ie_getr _ d103_39 fl1_34 F.2.1 F.2.2.1 ?_
  refine ie_iload_n d103_42 rfl ?_
  refine ie_callVx [_] d103_43 ok12 rm103_12 cl1_38 rfl rfl (Nat.le_of_ble_eq_true rfl) (Nat.le_of_ble_eq_true rfl) F.2.2.2.2.1 (s12 F.2.2.2.2.1 F.2.2.2.2.2.2.1 F.2.2.2.2.2.2.2.2.2.1 F.2.2.2.2.2.2.2.2.2.2.1 hf) ?_
  refine ie_if_ne 59 d103_46 (by decide) (fun _ => ?_) (fun z => absurd (show ¬ ix_i h (cSz x e) f = -1 from fun q => hth (hh.mp q)) (bI_0.mp z))
  refine ie_aload d103_59 rfl ?_
  refine ie_iload_n d103_61 rfl ?_
  refine ie_callVx [_] d103_62 ok84 rm103_84 cl1_60 rfl rfl (Nat.le_of_ble_eq_true rfl) (Nat.le_of_ble_eq_true rfl) F.2.1 (s84 C he) ?_
  rw [bP_c (lock_Lo C.rw AL he), bP_f hL]
  refine ie_if_ne 84 d103_65 (by decide) (fun z => absurd rfl z) (fun _ => ?_)
  refine ie_aload d103_68 rfl ?_
  refine ie_getr _ d103_70 fl1_34 F.2.1 F.2.2.1 ?_
  refine ie_iload_n d103_73 rfl ?_
  refine ie_callVx [_] d103_74 ok16 rm103_16 cl1_63 rfl rfl (Nat.le_of_ble_eq_true rfl) (Nat.le_of_ble_eq_true rfl) F.2.2.2.2.1 (s16 F.2.2.2.2.1 F.2.2.2.2.2.2.1 F.2.2.2.2.2.2.2.2.2.1 F.2.2.2.2.2.2.2.2.2.2.1 hf) ?_
  rw [esz]
  refine ie_iload_n d103_77 rfl ?_
  refine ie_iadd d103_78 ?_
  rw [nI_add]
  refine ie_bipush (nI 64) d103_79 (by decide) ?_
  refine ie_icmp_le 94 d103_81 (by decide) (fun _ => ?_) (fun z => absurd ((nI_leI (by omega) (by omega)).mpr hmn) z)
  refine ie_aload d103_94 rfl ?_
  refine ie_getr _ d103_96 fl1_34 F.2.1 F.2.2.1 ?_
  refine ie_iload_n d103_99 rfl ?_
  refine ie_iload_n d103_100 rfl ?_
  refine ie_lload d103_101 rfl ?_
  refine ie_callVx [_, _, _] d103_103 ok104 rm103_104 cl1_72 rfl rfl (Nat.le_of_ble_eq_true rfl) (Nat.le_of_ble_eq_true rfl) F.2.2.2.2.1 (s104 F hf esz hmn) ?_
  have C2 := L_app (w := w) I0 C he hf hth hm hmn hno
  have F2 : cFx1 _ x e := C2.fx.2.2.2.2.2.2.2.2.2 e he
  refine ie_aload d103_106 rfl ?_
  refine ie_getr _ d103_108 fl1_34 F2.2.1 F2.2.2.1 ?_
  refine ie_iload_n d103_111 rfl ?_
  refine ie_callVx [_] d103_112 ok16 rm103_16 cl1_63 rfl rfl (Nat.le_of_ble_eq_true rfl) (Nat.le_of_ble_eq_true rfl) F2.2.2.2.2.1 (s16 F2.2.2.2.2.1 F2.2.2.2.2.2.2.1 F2.2.2.2.2.2.2.2.2.2.1 F2.2.2.2.2.2.2.2.2.2.2.1 hf) ?_
  rw [ix_i_si, if_pos ⟨rfl, rfl⟩]
  obtain ⟨b1, b2, b3, b4⟩ := hEx_o (h := h) (b := cBr x e f) (m := m) (w := w) n
  have xl : x ≠ cBr x e f := by unfold cBr; omega
  have L13 : mApp S0 (6 * e + f) m n w 13 = S0 13 := funext fun j => by unfold mApp; rw [mset_k (by decide), mAp_o (by decide)]
  have L23 : mApp S0 (6 * e + f) m n w 23 = S0 23 := funext fun j => by unfold mApp; rw [mset_k (by decide), mAp_o (by decide)]
  refine ie_iret d103_115 rfl rfl ⟨rfl, ((hEx_po cPo.rfl (F.2.2.2.2.2.2.2.2.2.2.2 f hf).2.1).si (cCl_lo (k := 100) (by rw [(b3 _).1]; exact F.2.2.2.2.2.2.2.2.2.1) (by decide) (by unfold cSz; omega))).o, cB.mk ?_ C2 L L13 L23⟩
  rw [ix_i_si, if_neg (by unfold cSz; omega), (b1 x xl).2.2.1, hx3]
  unfold mApp
  rw [mset_k (by decide), mAp_o (by decide)]
/-- delete, where it answers -/
theorem s106y {G : ix_G} {h : ix_H} {x : Nat} {S : MS} {e f : Nat} (I : mInv S) (B : cB h x S) (he : e < 2) (hf : f < 6) (hth : ¬ S 4 (6 * e + f) = 0) (hL : ¬ mLock S e (nI f) (cP 42 S e)) : ix_E G 106 0 (lv_args 0 [.ref x, .int (nI e), .int (nI f)]) [] h (fun rv h' => rv = some (.int 1) ∧ cFo x h h' 0 0 ∧ cB h' x (mset (m0 S) 4 (6 * e + f) (nI 0))) := by
  have B0 : cB h x (m0 S) := B.m0 I
  have I0 := mInv_m0 I
  have e4 : m0 S 4 = S 4 := mset_kk (by decide)
  have eK : mLock (m0 S) e (nI f) (cP 42 (m0 S) e) ↔ mLock S e (nI f) (cP 42 S e) := by
    unfold mLock cP m0
    rw [mset_kk (by decide), mset_kk (by decide), mset_kk (by decide)]
  rw [← e4] at hth
  rw [← eK] at hL
  generalize m0 S = S0 at *
  obtain ⟨hx3, T, A, R, U, D, Lo, Lr, C, L⟩ := id B0
  have F := C.fx.2.2.2.2.2.2.2.2.2 e he
  have AL := cAl1.all L
  obtain ⟨cs, c1, c2, -⟩ := I0.L e he
  have hno := noLock I0 he hf c2 c1 (by have e1 : cP 42 S0 e = cs := by (unfold cP; rw [c2, nI_clamp (by omega)])
                                        rw [← e1]; exact hL)
  refine ie_aload_n d106_0 rfl ?_
  refine ie_iload_n d106_1 rfl ?_
  refine ie_iload_n d106_2 rfl ?_
  refine ie_callVx [_, _] d106_3 ok15 rm106_15 cl1_76 rfl rfl (Nat.le_of_ble_eq_true rfl) (Nat.le_of_ble_eq_true rfl) C.fx.1 (s15y I0 C he hf) ?_
  refine ie_if_ne 19 d106_6 (by decide) (fun _ => ?_) (fun z => absurd hth (bI_0.mp z))
  refine ie_aload_n d106_19 rfl ?_
  refine ie_getr _ d106_20 fl1_16 C.fx.1 C.fx.2.1 ?_
  refine ie_iload_n d106_23 rfl ?_
  refine ie_aald (t := 5) d106_24 (by decide) rfl rfl (Or.inl C.fx.2.2.2.1) (by rw [C.fx.2.2.2.2.1]; exact vp_nI he (by decide)) ?_
  rw [nI_clamp (by omega), F.1]
  refine ie_iload_n d106_25 rfl ?_
  refine ie_callVx [_] d106_26 ok84 rm106_84 cl1_60 rfl rfl (Nat.le_of_ble_eq_true rfl) (Nat.le_of_ble_eq_true rfl) F.2.1 (s84 C he) ?_
  rw [bP_c (lock_Lo C.rw AL he), bP_f hL]
  refine ie_if_eq 42 d106_29 (by decide) (fun _ => ?_) (fun z => absurd rfl z)
  refine ie_aload_n d106_42 rfl ?_
  refine ie_getr _ d106_43 fl1_16 C.fx.1 C.fx.2.1 ?_
  refine ie_iload_n d106_46 rfl ?_
  refine ie_aald (t := 5) d106_47 (by decide) rfl rfl (Or.inl C.fx.2.2.2.1) (by rw [C.fx.2.2.2.2.1]; exact vp_nI he (by decide)) ?_
  rw [nI_clamp (by omega), F.1]
  refine ie_getr _ d106_48 fl1_34 F.2.1 F.2.2.1 ?_
  refine ie_iload_n d106_51 rfl ?_
  refine ie_callVx [_] d106_52 ok88 rm106_88 cl1_81 rfl rfl (Nat.le_of_ble_eq_true rfl) (Nat.le_of_ble_eq_true rfl) F.2.2.2.2.1 (s88 F hf) ?_
  refine ie_iconst 1 d106_55 (by decide) ?_
  refine ie_iret d106_56 rfl (by decide) ⟨rfl, (cPo.rfl.si (cCl_lo (k := 100) F.2.2.2.2.2.2.2.2.2.1 (by decide) (by unfold cSz; omega))).o, cB.mk ?_ (L_del I0 C he hf hno) L (mset_kk (by decide)) (mset_kk (by decide))⟩
  rw [ix_i_si, if_neg (by unfold cSz; omega), hx3, mset_k (by decide)]
/-- at, where it answers -/
theorem s108y {G : ix_G} {h : ix_H} {x : Nat} {S : MS} {e f i n : Nat} (I : mInv S) (B : cB h x S) (he : e < 2) (hf : f < 6) (hth : ¬ S 4 (6 * e + f) = 0) (hn : S 5 (6 * e + f) = nI n) (hn64 : n ≤ 64) (hi : i < n) : ix_Ev G 108 0 (lv_args 0 [.ref x, .int (nI e), .int (nI f), .int (nI i)]) [] h (some (.int (S 6 (64 * (6 * e + f) + i)))) h := by
  obtain ⟨hx3, T, A, R, U, D, Lo, Lr, C, L⟩ := id B
  have F := C.fx.2.2.2.2.2.2.2.2.2 e he
  have fl := C.fl he hf
  have esz : ix_i h (cSz x e) f = nI n := by rw [fl.1, if_neg hth, hn]
  refine ix_ofE ?_
  refine ie_aload_n d108_0 rfl ?_
  refine ie_iload_n d108_1 rfl ?_
  refine ie_iload_n d108_2 rfl ?_
  refine ie_callVx [_, _] d108_3 ok15 rm108_15 cl1_76 rfl rfl (Nat.le_of_ble_eq_true rfl) (Nat.le_of_ble_eq_true rfl) C.fx.1 (s15y I C he hf) ?_
  refine ie_if_ne 19 d108_6 (by decide) (fun _ => ?_) (fun z => absurd hth (bI_0.mp z))
  refine ie_iload_n d108_19 rfl ?_
  refine ie_if_lt 40 d108_20 (by decide) (fun z => absurd z (nI_pos (by omega))) (fun _ => ?_)
  refine ie_iload_n d108_23 rfl ?_
  refine ie_aload_n d108_24 rfl ?_
  refine ie_getr _ d108_25 fl1_16 C.fx.1 C.fx.2.1 ?_
  refine ie_iload_n d108_28 rfl ?_
  refine ie_aald (t := 5) d108_29 (by decide) rfl rfl (Or.inl C.fx.2.2.2.1) (by rw [C.fx.2.2.2.2.1]; exact vp_nI he (by decide)) ?_
  rw [nI_clamp (by omega), F.1]
  refine ie_getr _ d108_30 fl1_34 F.2.1 F.2.2.1 ?_
  refine ie_iload_n d108_33 rfl ?_
  refine ie_callVx [_] d108_34 ok16 rm108_16 cl1_63 rfl rfl (Nat.le_of_ble_eq_true rfl) (Nat.le_of_ble_eq_true rfl) F.2.2.2.2.1 (s16 F.2.2.2.2.1 F.2.2.2.2.2.2.1 F.2.2.2.2.2.2.2.2.2.1 F.2.2.2.2.2.2.2.2.2.2.1 hf) ?_
  rw [esz]
  refine ie_icmp_lt 50 d108_37 (by decide) (fun _ => ?_) (fun z => absurd ((nI_ltI (by omega) (by omega)).mpr hi) z)
  refine ie_aload_n d108_50 rfl ?_
  refine ie_getr _ d108_51 fl1_16 C.fx.1 C.fx.2.1 ?_
  refine ie_iload_n d108_54 rfl ?_
  refine ie_aald (t := 5) d108_55 (by decide) rfl rfl (Or.inl C.fx.2.2.2.1) (by rw [C.fx.2.2.2.2.1]; exact vp_nI he (by decide)) ?_
  rw [nI_clamp (by omega), F.1]
  refine ie_getr _ d108_56 fl1_34 F.2.1 F.2.2.1 ?_
  refine ie_iload_n d108_59 rfl ?_
  refine ie_iload_n d108_60 rfl ?_
  refine ie_callVx [_, _] d108_61 ok41 rm108_41 cl1_89 rfl rfl (Nat.le_of_ble_eq_true rfl) (Nat.le_of_ble_eq_true rfl) F.2.2.2.2.1 (s41 F hf (by omega)) ?_
  refine ie_iret d108_64 rfl rfl ⟨?_, rfl⟩
  rw [fl.2.2 hth i (by rw [hn, nI_clamp (by omega)]; exact hi)]
