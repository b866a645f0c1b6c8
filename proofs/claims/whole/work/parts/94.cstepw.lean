/-! ===== the class's methods: a sender's step ===== -/
theorem cRel.by {h : ix_H} {x : Nat} {S : MS} {T A R U D : Nat → Nat} {Lo Lr : Nat → List Nat} (C : cRel h x S T A R U D Lo Lr) (I : mInv S) {t : Nat} (hv : vT S t) (ho : S 13 t = nI 5) {i : Nat} (hi : i < fN S t) : ix_i h (cBr x (t / 320) (S 9 t).toNatClampNeg) i &&& 255 = S 6 (64 * fI S t + i) := by
  have t6 := hv.1
  obtain ⟨b1, b2, b3⟩ := (I.T hv).2.1.c (by decide)
  have s4 := (I.S hv ho).1
  have e4 : S 4 (6 * (t / 320) + (S 9 t).toNatClampNeg) = nI 1 := s4
  exact (C.fl (e := t / 320) (f := (S 9 t).toNatClampNeg) (by omega) (by omega)).2.2 (by rw [e4]; decide) i hi
theorem nI_m1 {n : Nat} (hn : n < 1000) : ¬ nI n = -1 := fun z => by
  have := congrArg Int32.toInt z
  rw [nI_toInt (by omega)] at this
  have e : (-1 : Int32).toInt = -1 := by decide
  rw [e] at this
  omega
theorem nI_m0 {n : Nat} (hn : n < 1000) (z : nI n - 1 = -1) : n = 0 := by
  rcases Nat.eq_zero_or_pos n with w | w
  · exact w
  · rw [nI_sub1 w] at z
    exact absurd z (nI_m1 (by omega))
set_option maxRecDepth 100000 in
set_option maxHeartbeats 4000000 in
/-- Sender.sendNext -/
theorem s32 {G : ix_G} {h : ix_H} {x : Nat} {S : MS} {T A R U D : Nat → Nat} {Lo Lr : Nat → List Nat} {u t f n k0 c st s0 : Nat} (X : wH S u t f n k0 c st s0) (C : cRel h x S T A R U D Lo Lr) (h15 : S 15 t = 0) : ix_E G 32 0 (lv_args 0 [.ref (A t)]) [] h (fun r h' => r = none ∧ cPo x h h' 1 6 ∧ ∃ U', cRel h' x (mWk0 S u t f n k0 c st) T A R U' D Lo Lr) := by
  obtain ⟨I, hv, ho, hu, hu24, hf, hn, hn64, hst, hst2, hH, hR⟩ := id X
  obtain ⟨o1, o2, o3, o4, o5, o6, o7, o8, o9, o10, o11, o12⟩ := C.so hv ho
  have Y := C.sh I hv ho
  rw [← hn] at Y o2 o3
  obtain ⟨L, a1, a2, a3, a4, a5, a6, a7, a8, a9, a10, a11, a12, a13, a14, a15⟩ := id Y
  have t6 := hv.1
  obtain ⟨c1, c2, -⟩ := C.tx hv
  have eto : (1 : Int32) - ix_i h (T t) 0 = nI (1 - t / 320) := by rw [c1.2.2.1, show (1 : Int32) = nI 1 from rfl, pk_sub (by omega)]
  have eby : ∀ i, i < n → ix_i h (cBr x (t / 320) (S 9 t).toNatClampNeg) i &&& 255 = S 6 (64 * f + i) := fun i hi => by rw [hf]; exact C.by I hv ho (by rw [← hn]; exact hi)
  have s1 : A t ≠ cLk x := by unfold cLk; omega
  have s2 : A t ≠ cRo x := by unfold cRo; omega
  have stx : A t ≠ T t := fun z => by rw [z, a5] at a1; exact absurd a1 (by decide)
  have cA : cCl h x (A t) := cCl_of a1 (by decide)
  rw [if_pos h15] at o3
  refine ie_aload_n d32_0 rfl ?_
  refine ie_geti (k := 3) d32_1 fl10_11 a1 ?_
  refine ie_iconst (-1) d32_4 (by decide) ?_
  refine ie_icmp_ne 15 d32_5 (by decide) (fun c5 => ?_) (fun c5 => ?_)
  · refine ie_aload_n d32_15 rfl ?_
    refine ie_geti (k := 3) d32_16 fl10_11 a1 ?_
    refine ie_aload_n d32_19 rfl ?_
    refine ie_geti (k := 3) d32_20 fl10_44 a1 ?_
    rw [o2]
    refine ie_icmp_ge 37 d32_23 (by decide) (fun c23 => ?_) (fun c23 => ?_)
    · -- END
      have hE : (¬ S 21 t = 0 ∨ (n + 3) / 4 < st) ∧ ix_i h (A t) 5 + 1 = nI ((n + 3) / 4 + 1) := by
        by_cases q : S 21 t = 0
        · rw [if_pos q, hst] at o3
          have h1 : 1 ≤ st := by
            rcases Nat.eq_zero_or_pos st with w | w
            · exact absurd (by rw [o3, w]; decide) c5
            · exact w
          rw [nI_sub1 h1] at o3
          rw [o3, nI_leI (by omega) (by omega)] at c23
          refine ⟨Or.inr (by omega), ?_⟩
          rw [o3, nI_1]
          congr 1
          omega
        · rw [if_neg q] at o3
          exact ⟨Or.inl q, by rw [o3, nI_1]⟩
      have eS : mWk0 S u t f n k0 c st = mEnd (mset S 18 t (S 16 t)) u t f n k0 c := by unfold mWk0; rw [if_pos hE.1]
      rw [eS]
      refine ie_aload_n d32_37 rfl ?_
      refine ie_callVx [] d32_38 ok42 rm32_42 cl10_95 rfl rfl (Nat.le_of_ble_eq_true rfl) (Nat.le_of_ble_eq_true rfl) a1 (s42 Y) ?_
      generalize hh2 : ix_si (ix_si h (A t) 11 (ix_i h (A t) 11 + 1)) (A t) 13 (ix_i h (A t) 12) = h2
      have a2' : sw (A t) h h2 := by rw [← hh2]; exact sw.rfl.si.si
      have k2 : kpS h h2 (A t) := by rw [← hh2]; exact ((kpS.of ceq.rfl).si (by decide)).si (by decide)
      have i2 : iOf h h2 (A t) [(13, ix_i h (A t) 12), (11, ix_i h (A t) 11 + 1)] := by rw [← hh2]; exact ((iOf.nil (fun _ => rfl)).si).si
      have p2 : cPo x h h2 0 0 := by rw [← hh2]; exact (cPo.rfl.si cA).si cA
      have L2 : lkS h2 x := lkS_c L (a2'.1 _ (Ne.symm s1)) (a2'.1 _ (Ne.symm s2)) (by rw [a2'.2]; exact Nat.le_refl _)
      have n2 : A t < ix_nx h2 := by rw [a2'.2]; exact a7
      rw [eto, show (if ix_i h (A t) 6 = 0 then nI n else -1) = if S 21 t = 0 then nI n else -1 from by rw [o4], show (if ix_i h (A t) 6 = 0 then bSum (fun k => ix_i h (cBr x (t / 320) (S 9 t).toNatClampNeg) k &&& 255) n else 0) = if S 21 t = 0 then mCk S f n ((n + 3) / 4) else nI 0 from by
        rw [o4]
        split
        · rw [ck_all (fun i hi => by rw [← eby i hi]; exact by8_and)]
          exact bSum_e n eby
        · rfl]
      have cO : ceq h2 (hOut x h2 (T t) (nI 3) (nI (1 - t / 320)) (if S 21 t = 0 then nI n else -1) 0 (if S 21 t = 0 then mCk S f n ((n + 3) / 4) else nI 0)) (A t) := hOut_s s1 s2 n2
      have cT : ceq h2 (hOut x h2 (T t) (nI 3) (nI (1 - t / 320)) (if S 21 t = 0 then nI n else -1) 0 (if S 21 t = 0 then mCk S f n ((n + 3) / 4) else nI 0)) (T t) := hOut_s (by unfold cLk; omega) (by unfold cRo; omega) (by rw [a2'.2]; exact a8)
      have pO : cPo x h (hOut x h2 (T t) (nI 3) (nI (1 - t / 320)) (if S 21 t = 0 then nI n else -1) 0 (if S 21 t = 0 then mCk S f n ((n + 3) / 4) else nI 0)) 1 6 := p2.out L2.1 L2.2.2.1 L2.2.2.2.2.2
      generalize hO_ : hOut x h2 (T t) (nI 3) (nI (1 - t / 320)) (if S 21 t = 0 then nI n else -1) 0 (if S 21 t = 0 then mCk S f n ((n + 3) / 4) else nI 0) = hO at cO cT pO
      have i2' : ∀ k, k ≠ 11 → k ≠ 13 → ix_i h2 (A t) k = ix_i h (A t) k := fun k h1 h3 => by rw [← hh2, ix_i_si, if_neg (fun z => h3 z.2), ix_i_si, if_neg (fun z => h1 z.2)]
      have tO : ix_tg hO (A t) = 4 := by rw [cO.1, k2.1]; exact a1
      have cO' : cCl hO x (A t) := cCl_of tO (by decide)
      have tT : ix_tg hO (T t) = 7 := by rw [cT.1, (a2'.1 _ (Ne.symm stx)).1]; exact a5
      have eK : ix_i (ix_si hO (A t) 14 (ix_i h (A t) 12)) (T t) 4 = S 8 t := by rw [ix_i_si, if_neg (fun z => stx z.1.symm), cT.2.2.1, (a2'.1 _ (Ne.symm stx)).2.2.1]; exact c1.2.2.2.2.2.2.1
      have h3 : bw (S 15 t + nI 1) 1 3 := by rw [h15]; exact ⟨1, by decide, by decide, by decide⟩
      have r5 : ∀ v, ix_i (ix_si (ix_si hO (A t) 14 (ix_i h (A t) 12)) (A t) 15 v) (A t) 5 = ix_i h (A t) 5 := fun v => by rw [ix_i_si, if_neg (fun z => absurd z.2 (by decide)), ix_i_si, if_neg (fun z => absurd z.2 (by decide)), cO.2.2.1, i2' 5 (by decide) (by decide)]
      have r5' : ix_i (ix_si hO (A t) 14 (ix_i h (A t) 12)) (A t) 5 = ix_i h (A t) 5 := by rw [ix_i_si, if_neg (fun z => absurd z.2 (by decide)), cO.2.2.1, i2' 5 (by decide) (by decide)]
      have r6 : ix_i (ix_si hO (A t) 14 (ix_i h (A t) 12)) (A t) 6 = S 21 t := by rw [ix_i_si, if_neg (fun z => absurd z.2 (by decide)), cO.2.2.1, i2' 6 (by decide) (by decide)]; exact o4
      refine ie_aload_n d32_41 rfl ?_
      refine ie_getr (T t) d32_42 fl10_15 tO (by rw [ix_r_si, cO.2.2.2, k2.2.1]; exact a2) ?_
      refine ie_callVx [] d32_45 ok45 rm32_45 cl10_98 rfl rfl (Nat.le_of_ble_eq_true rfl) (Nat.le_of_ble_eq_true rfl) tT (s45 tT) ?_
      rw [eK]
      refine ie_if_ne 67 d32_48 (by decide) (fun c48 => ?_) (fun c48 => ?_)
      · have k28 : S 8 t = 2 := Classical.byContradiction fun z => c48 (bI_0.mpr z)
        refine ie_aload_n d32_67 rfl ?_
        refine ie_dup d32_68 rfl ?_
        refine ie_geti (k := 3) d32_69 fl10_11 tO ?_
        rw [r5']
        refine ie_iconst 1 d32_72 (by decide) ?_
        refine ie_iadd d32_73 ?_
        refine ie_puti (k := 3) d32_74 fl10_11 (Or.inl rfl) tO rfl rfl ?_
        refine ie_vret d32_77 rfl ⟨rfl, (pO.si cO').si cO', ?_⟩
        refine W_end X C h3 hE.2 a2' (hO_ ▸ sw.rfl.si.si) (((k2.tr cO).si (by decide)).si (by decide)) (iOf_end0 (((i2.tr cO.2.2.1).si).si) ?_)
        rw [o1, if_neg (by rw [k28]; decide)]
      · have k18 : S 8 t = 1 := by
          obtain ⟨q, q1, q2, q3⟩ := (I.T hv).1
          have : q ≠ 2 := fun z => (bI_0.mp c48) (by rw [q3, z]; rfl)
          rw [q3, show q = 1 from by omega]; rfl
        refine ie_aload_n d32_51 rfl ?_
        refine ie_aload_n d32_52 rfl ?_
        refine ie_geti (k := 3) d32_53 fl10_54 tO ?_
        rw [r6]
        refine ie_if_eq 63 d32_56 (by decide) (fun c56 => ?_) (fun c56 => ?_)
        · refine ie_iconst (nI 1) d32_63 (by decide) ?_
          refine ie_puti (k := 3) d32_64 fl10_47 (Or.inl rfl) tO rfl rfl ?_
          refine ie_aload_n d32_67 rfl ?_
          refine ie_dup d32_68 rfl ?_
          refine ie_geti (k := 3) d32_69 fl10_11 tO ?_
          rw [r5]
          refine ie_iconst 1 d32_72 (by decide) ?_
          refine ie_iadd d32_73 ?_
          refine ie_puti (k := 3) d32_74 fl10_11 (Or.inl rfl) tO rfl rfl ?_
          refine ie_vret d32_77 rfl ⟨rfl, ((pO.si cO').si cO').si cO', ?_⟩
          refine W_end X C h3 hE.2 a2' (hO_ ▸ sw.rfl.si.si.si) ((((k2.tr cO).si (by decide)).si (by decide)).si (by decide)) ?_
          rw [if_pos k18, if_pos c56]
          exact iOf_end ((((i2.tr cO.2.2.1).si).si).si)
        · refine ie_iconst (nI 2) d32_59 (by decide) ?_
          refine ie_goto 64 d32_60 (by decide) ?_
          refine ie_puti (k := 3) d32_64 fl10_47 (Or.inl rfl) tO rfl rfl ?_
          refine ie_aload_n d32_67 rfl ?_
          refine ie_dup d32_68 rfl ?_
          refine ie_geti (k := 3) d32_69 fl10_11 tO ?_
          rw [r5]
          refine ie_iconst 1 d32_72 (by decide) ?_
          refine ie_iadd d32_73 ?_
          refine ie_puti (k := 3) d32_74 fl10_11 (Or.inl rfl) tO rfl rfl ?_
          refine ie_vret d32_77 rfl ⟨rfl, ((pO.si cO').si cO').si cO', ?_⟩
          refine W_end X C h3 hE.2 a2' (hO_ ▸ sw.rfl.si.si.si) ((((k2.tr cO).si (by decide)).si (by decide)).si (by decide)) ?_
          rw [if_pos k18, if_neg c56]
          exact iOf_end ((((i2.tr cO.2.2.1).si).si).si)
    · -- DATA
      have hD : S 21 t = 0 ∧ 1 ≤ st ∧ st ≤ (n + 3) / 4 ∧ ix_i h (A t) 5 = nI (st - 1) := by
        by_cases q : S 21 t = 0
        · rw [if_pos q, hst] at o3
          have h1 : 1 ≤ st := by
            rcases Nat.eq_zero_or_pos st with w | w
            · exact absurd (by rw [o3, w]; decide) c5
            · exact w
          rw [nI_sub1 h1] at o3
          rw [o3, nI_leI (by omega) (by omega)] at c23
          exact ⟨q, h1, by omega, o3⟩
        · rw [if_neg q] at o3
          exact absurd (by rw [o3, nI_leI (by omega) (by omega)]; omega) c23
      obtain ⟨q21, q1, q2, q5⟩ := hD
      refine ie_aload_n d32_26 rfl ?_
      refine ie_aload_n d32_27 rfl ?_
      refine ie_geti (k := 3) d32_28 fl10_11 a1 ?_
      rw [q5]
      refine ie_callVx [_] d32_31 ok38 rm32_38 cl10_91 rfl rfl (Nat.le_of_ble_eq_true rfl) (Nat.le_of_ble_eq_true rfl) a1 (s38 Y (by omega)) ?_
      rw [eto]
      have cO : ceq h (hOut x h (T t) (nI 2) (nI (1 - t / 320)) (nI (st - 1)) (nI (mLen n (st - 1))) (lw (fun k => ix_i h (cBr x (t / 320) (S 9 t).toNatClampNeg) (4 * (st - 1) + k) &&& 255) (mLen n (st - 1)))) (A t) := hOut_s s1 s2 a7
      refine ie_goto 67 d32_34 (by decide) ?_
      refine ie_aload_n d32_67 rfl ?_
      refine ie_dup d32_68 rfl ?_
      refine ie_geti (k := 3) d32_69 fl10_11 (by show ix_tg _ (A t) = 4; rw [ix_tg_si, cO.1]; exact a1) ?_
      rw [ix_i_si, if_neg (fun z => absurd z.2 (by decide)), cO.2.2.1]
      refine ie_iconst 1 d32_72 (by decide) ?_
      refine ie_iadd d32_73 ?_
      refine ie_puti (k := 3) d32_74 fl10_11 (Or.inl rfl) (by show ix_tg _ (A t) = 4; rw [ix_tg_si, cO.1]; exact a1) rfl rfl ?_
      have cO' : cCl (hOut x h (T t) (nI 2) (nI (1 - t / 320)) (nI (st - 1)) (nI (mLen n (st - 1))) (lw (fun k => ix_i h (cBr x (t / 320) (S 9 t).toNatClampNeg) (4 * (st - 1) + k) &&& 255) (mLen n (st - 1)))) x (A t) := cCl_of (k := 4) (by rw [cO.1]; exact a1) (by decide)
      have ml := mLen_b (n := n) (s := st - 1) (by omega)
      have hle : ∀ q, q < mLen n (st - 1) → 4 * (st - 1) + q < n := fun q hq => by unfold mLen at hq; split at hq <;> omega
      refine ie_vret d32_77 rfl ⟨rfl, ((cPo.rfl.out L.1 L.2.2.1 L.2.2.2.2.2).si cO').si cO', ?_⟩
      refine W_data X C h15 q21 q1 q2 (fun i hi hin => ?_) (fun q hq => ?_) sw.rfl.si.si (((kpS.of cO).si (by decide)).si (by decide)) (((iOf.nil cO.2.2.1).si).si)
      · rw [Nat.add_assoc, ← eby _ hin]; exact by8_and
      · rw [lB_lw ml.2 (fun i _ => by8_and) hq, eby _ (hle q hq), ← Nat.add_assoc]
  · -- METADATA
    have hM : S 21 t = 0 ∧ st = 0 := by
      by_cases q : S 21 t = 0
      · rw [if_pos q, hst] at o3
        exact ⟨q, nI_m0 (by omega) (o3.symm.trans c5)⟩
      · rw [if_neg q] at o3
        exact absurd (o3.symm.trans c5) (nI_m1 (by omega))
    refine ie_aload_n d32_8 rfl ?_
    refine ie_callVx [] d32_9 ok33 rm32_33 cl10_88 rfl rfl (Nat.le_of_ble_eq_true rfl) (Nat.le_of_ble_eq_true rfl) a1 (s33 Y) ?_
    rw [eto, c1.2.2.2.2.2.1]
    have cO : ceq h (hOut x h (T t) (nI 1) (nI (1 - t / 320)) (S 10 t) 0 0) (A t) := hOut_s s1 s2 a7
    refine ie_goto 67 d32_12 (by decide) ?_
    refine ie_aload_n d32_67 rfl ?_
    refine ie_dup d32_68 rfl ?_
    refine ie_geti (k := 3) d32_69 fl10_11 (by show ix_tg _ (A t) = 4; rw [ix_tg_si, cO.1]; exact a1) ?_
    rw [ix_i_si, if_neg (fun z => absurd z.2 (by decide)), cO.2.2.1]
    refine ie_iconst 1 d32_72 (by decide) ?_
    refine ie_iadd d32_73 ?_
    refine ie_puti (k := 3) d32_74 fl10_11 (Or.inl rfl) (by show ix_tg _ (A t) = 4; rw [ix_tg_si, cO.1]; exact a1) rfl rfl ?_
    have cO' : cCl (hOut x h (T t) (nI 1) (nI (1 - t / 320)) (S 10 t) 0 0) x (A t) := cCl_of (k := 4) (by rw [cO.1]; exact a1) (by decide)
    refine ie_vret d32_77 rfl ⟨rfl, ((cPo.rfl.out L.1 L.2.2.1 L.2.2.2.2.2).si cO').si cO', ?_⟩
    exact W_meta X C h15 hM.1 hM.2 sw.rfl.si.si (((kpS.of cO).si (by decide)).si (by decide)) (((iOf.nil cO.2.2.1).si).si)
set_option maxRecDepth 100000 in
set_option maxHeartbeats 4000000 in
/-- Sender.sendRepair: its loop -/
theorem s46_l {G : ix_G} {h : ix_H} {x : Nat} {S : MS} {T A R U D : Nat → Nat} {Lo Lr : Nat → List Nat} {u t f n k0 c st s0 : Nat} (X : wH S u t f n k0 c st s0) (C : cRel h x S T A R U D Lo Lr) (h15 : ¬ S 15 t = 0) (h19 : ¬ S 19 t = 0) (h16 : ¬ rb (S 19 t) 16) :
    ∀ (z i : Nat), i ≤ s0 → s0 - i < z → ∀ (lv : List (Nat × Value)), lv.lookup 0 = some (.ref (A t)) → lv.lookup 1 = some (.int (nI i)) → ix_E G 46 19 lv [] h (fun r h' => r = none ∧ cPo x h h' 1 6 ∧ ∃ U', cRel h' x (mRep (mset S 18 t (S 16 t)) u t f n s0) T A R U' D Lo Lr) := by
  obtain ⟨I, hv, ho, hu, hu24, hf, hn, hn64, hst, hst2, hH, hR⟩ := id X
  obtain ⟨o1, o2, o3, o4, o5, o6, o7, o8, o9, o10, o11, o12⟩ := C.so hv ho
  have Y := C.sh I hv ho
  rw [← hn] at Y o2 o3
  obtain ⟨L, a1, a2, a3, a4, a5, a6, a7, a8, a9, a10, a11, a12, a13, a14, a15⟩ := id Y
  have t6 := hv.1
  obtain ⟨c1, c2, -⟩ := C.tx hv
  have eto : (1 : Int32) - ix_i h (T t) 0 = nI (1 - t / 320) := by rw [c1.2.2.1, show (1 : Int32) = nI 1 from rfl, pk_sub (by omega)]
  have eby : ∀ i, i < n → ix_i h (cBr x (t / 320) (S 9 t).toNatClampNeg) i &&& 255 = S 6 (64 * f + i) := fun i hi => by rw [hf]; exact C.by I hv ho (by rw [← hn]; exact hi)
  have s1 : A t ≠ cLk x := by unfold cLk; omega
  have s2 : A t ≠ cRo x := by unfold cRo; omega
  have stx : A t ≠ T t := fun z => by rw [z, a5] at a1; exact absurd a1 (by decide)
  have cA : cCl h x (A t) := cCl_of a1 (by decide)
  obtain ⟨q1, q2, q3⟩ := hR h19 (by rw [rb_16]; exact h16)
  intro z
  induction z with
  | zero => intro i h1 h2; omega
  | succ z ih =>
    intro i hi hz lv l0 l1
    refine ie_iload_n d46_19 l1 ?_
    refine ie_aload_n d46_20 l0 ?_
    refine ie_geti (k := 3) d46_21 fl10_44 a1 ?_
    rw [o2]
    refine ie_icmp_ge 64 d46_24 (by decide) (fun c24 => ?_) (fun c24 => ?_)
    · rw [nI_leI (by omega) (by omega)] at c24
      omega
    · refine ie_iconst (nI 1) d46_27 (by decide) ?_
      refine ie_iload_n d46_28 l1 ?_
      refine ie_ishl d46_29 ?_
      refine ie_istore_n d46_30 (by decide) ?_
      refine ie_aload_n d46_31 (ix_lk3 (by decide) l0 rfl) ?_
      refine ie_geti (k := 3) d46_32 fl10_61 a1 ?_
      refine ie_iload_n d46_35 ix_lk1 ?_
      refine ie_iand d46_36 ?_
      refine ie_if_eq 58 d46_37 (by decide) (fun c37 => ?_) (fun c37 => ?_)
      · rw [rb_tst (by omega)] at c37
        have ne : i ≠ s0 := fun e => by
          subst e
          exact c37 ((o8 i (by omega)).mpr ⟨q1, by omega⟩)
        refine ie_iinc (nI (i + 1)) d46_58 (ix_lk3 (by decide) l1 rfl) (nI_1 _) (by decide) ?_
        refine ie_goto 19 d46_61 (by decide) ?_
        exact ih (i + 1) (by omega) (by omega) _ (ix_lk3 (by decide) (ix_lk3 (by decide) l0 rfl) rfl) ix_lk1
      · have c37' : rb (ix_i h (A t) 10) i := Classical.byContradiction fun y => c37 ((rb_tst (by omega)).mpr y)
        have e : i = s0 := by
          rcases Nat.lt_or_ge i s0 with w | w
          · exact absurd ((o8 i (by omega)).mp c37').1 (q2 i w)
          · omega
        subst e
        refine ie_aload_n d46_40 (ix_lk3 (by decide) l0 rfl) ?_
        refine ie_dup d46_41 rfl ?_
        refine ie_geti (k := 3) d46_42 fl10_61 a1 ?_
        refine ie_iload_n d46_45 ix_lk1 ?_
        refine ie_iconst (-1) d46_46 (by decide) ?_
        refine ie_ixor d46_47 ?_
        refine ie_iand d46_48 ?_
        refine ie_puti (k := 3) d46_49 fl10_61 (Or.inl rfl) a1 rfl rfl ?_
        refine ie_aload_n d46_52 (ix_lk3 (by decide) l0 rfl) ?_
        refine ie_iload_n d46_53 (ix_lk3 (by decide) l1 rfl) ?_
        generalize hh2 : ix_si h (A t) 10 (ix_i h (A t) 10 &&& ((nI 1 <<< (nI i &&& 31)) ^^^ (-1))) = h2
        have Y2 : sSh h2 x (A t) (T t) (t / 320) (S 9 t).toNatClampNeg n := by rw [← hh2]; exact sSh_si Y
        have a2' : sw (A t) h h2 := by rw [← hh2]; exact sw.rfl.si
        have k2 : kpS h h2 (A t) := by rw [← hh2]; exact (kpS.of ceq.rfl).si (by decide)
        have i2 : iOf h h2 (A t) [(10, ix_i h (A t) 10 &&& ((nI 1 <<< (nI i &&& 31)) ^^^ (-1)))] := by rw [← hh2]; exact (iOf.nil (fun _ => rfl)).si
        have p2 : cPo x h h2 0 0 := by rw [← hh2]; exact cPo.rfl.si cA
        have eT : ceq h h2 (T t) := a2'.1 _ (Ne.symm stx)
        have eB : ∀ k, ix_i h2 (cBr x (t / 320) (S 9 t).toNatClampNeg) k = ix_i h (cBr x (t / 320) (S 9 t).toNatClampNeg) k := (a2'.1 _ (by unfold cBr; omega)).2.2.1
        refine ie_callVx [_] d46_54 ok38 rm46_38 cl10_91 rfl rfl (Nat.le_of_ble_eq_true rfl) (Nat.le_of_ble_eq_true rfl) Y2.2.1 (s38 Y2 q3) ?_
        rw [eT.2.2.1, eto, show ix_i h2 (A t) 12 = ix_i h (A t) 12 from i2 12]
        simp only [eB]
        have cO : ceq h2 (hOut x h2 (T t) (nI 2) (nI (1 - t / 320)) (nI i) (nI (mLen n i)) (lw (fun k => ix_i h (cBr x (t / 320) (S 9 t).toNatClampNeg) (4 * i + k) &&& 255) (mLen n i))) (A t) := hOut_s s1 s2 (by rw [a2'.2]; exact a7)
        have pO := p2.out (tx := T t) (w := nI 2) (to := nI (1 - t / 320)) (d := nI i) (l := nI (mLen n i)) (c := lw (fun k => ix_i h (cBr x (t / 320) (S 9 t).toNatClampNeg) (4 * i + k) &&& 255) (mLen n i)) Y2.1.1 Y2.1.2.2.1 Y2.1.2.2.2.2.2
        have ml := mLen_b q3
        have hle : ∀ q, q < mLen n i → 4 * i + q < n := fun q hq => by unfold mLen at hq; split at hq <;> omega
        refine ie_vret d46_57 rfl ⟨rfl, pO.si (cCl_of (k := 4) (by rw [cO.1, k2.1]; exact a1) (by decide)), ?_⟩
        refine W_repD X C h15 h19 h16 (fun j hj hjn => ?_) (fun q hq => ?_) a2' sw.rfl.si ((k2.tr cO).si (by decide)) (((i2.tr cO.2.2.1).si).swap (by decide))
        · rw [Nat.add_assoc, ← eby _ hjn]; exact by8_and
        · rw [lB_lw ml.2 (fun j _ => by8_and) hq, eby _ (hle q hq), ← Nat.add_assoc]
set_option maxRecDepth 100000 in
set_option maxHeartbeats 4000000 in
/-- Sender.sendRepair -/
theorem s46 {G : ix_G} {h : ix_H} {x : Nat} {S : MS} {T A R U D : Nat → Nat} {Lo Lr : Nat → List Nat} {u t f n k0 c st s0 : Nat} (X : wH S u t f n k0 c st s0) (C : cRel h x S T A R U D Lo Lr) (h15 : ¬ S 15 t = 0) (h19 : ¬ S 19 t = 0) : ix_E G 46 0 (lv_args 0 [.ref (A t)]) [] h (fun r h' => r = none ∧ cPo x h h' 1 6 ∧ ∃ U', cRel h' x (mRep (mset S 18 t (S 16 t)) u t f n s0) T A R U' D Lo Lr) := by
  obtain ⟨I, hv, ho, hu, hu24, hf, hn, hn64, hst, hst2, hH, hR⟩ := id X
  obtain ⟨o1, o2, o3, o4, o5, o6, o7, o8, o9, o10, o11, o12⟩ := C.so hv ho
  have Y := C.sh I hv ho
  rw [← hn] at Y o2 o3
  obtain ⟨L, a1, a2, a3, a4, a5, a6, a7, a8, a9, a10, a11, a12, a13, a14, a15⟩ := id Y
  have t6 := hv.1
  obtain ⟨c1, c2, -⟩ := C.tx hv
  have eto : (1 : Int32) - ix_i h (T t) 0 = nI (1 - t / 320) := by rw [c1.2.2.1, show (1 : Int32) = nI 1 from rfl, pk_sub (by omega)]
  have eby : ∀ i, i < n → ix_i h (cBr x (t / 320) (S 9 t).toNatClampNeg) i &&& 255 = S 6 (64 * f + i) := fun i hi => by rw [hf]; exact C.by I hv ho (by rw [← hn]; exact hi)
  have s1 : A t ≠ cLk x := by unfold cLk; omega
  have s2 : A t ≠ cRo x := by unfold cRo; omega
  have stx : A t ≠ T t := fun z => by rw [z, a5] at a1; exact absurd a1 (by decide)
  have cA : cCl h x (A t) := cCl_of a1 (by decide)
  refine ie_aload_n d46_0 rfl ?_
  refine ie_geti (k := 3) d46_1 fl10_58 a1 ?_
  refine ie_if_eq 17 d46_4 (by decide) (fun c4 => ?_) (fun c4 => ?_)
  · have h16 : ¬ rb (S 19 t) 16 := by
      rcases o7 with w | w
      · exact w.2
      · exact absurd (w.1.symm.trans c4) (by decide)
    refine ie_iconst (nI 0) d46_17 (by decide) ?_
    refine ie_istore_n d46_18 (by decide) ?_
    exact s46_l X C h15 h19 h16 (s0 + 1) 0 (by omega) (by omega) _ rfl rfl
  · have h16 : rb (S 19 t) 16 := by
      rcases o7 with w | w
      · exact absurd w.1 c4
      · exact w.2
    refine ie_aload_n d46_7 rfl ?_
    refine ie_iconst 0 d46_8 (by decide) ?_
    refine ie_puti (k := 3) d46_9 fl10_58 (Or.inl rfl) a1 (by decide) (by decide) ?_
    refine ie_aload_n d46_12 rfl ?_
    generalize hh2 : ix_si h (A t) 9 0 = h2
    have Y2 : sSh h2 x (A t) (T t) (t / 320) (S 9 t).toNatClampNeg n := by rw [← hh2]; exact sSh_si Y
    have a2' : sw (A t) h h2 := by rw [← hh2]; exact sw.rfl.si
    have k2 : kpS h h2 (A t) := by rw [← hh2]; exact (kpS.of ceq.rfl).si (by decide)
    have i2 : iOf h h2 (A t) [(9, 0)] := by rw [← hh2]; exact (iOf.nil (fun _ => rfl)).si
    have p2 : cPo x h h2 0 0 := by rw [← hh2]; exact cPo.rfl.si cA
    have eT : ceq h h2 (T t) := a2'.1 _ (Ne.symm stx)
    refine ie_callVx [] d46_13 ok33 rm46_33 cl10_88 rfl rfl (Nat.le_of_ble_eq_true rfl) (Nat.le_of_ble_eq_true rfl) Y2.2.1 (s33 Y2) ?_
    rw [eT.2.2.1, eT.2.2.1, eto, c1.2.2.2.2.2.1, show ix_i h2 (A t) 12 = ix_i h (A t) 12 from i2 12]
    have cO : ceq h2 (hOut x h2 (T t) (nI 1) (nI (1 - t / 320)) (S 10 t) 0 0) (A t) := hOut_s s1 s2 (by rw [a2'.2]; exact a7)
    have pO := p2.out (tx := T t) (w := nI 1) (to := nI (1 - t / 320)) (d := S 10 t) (l := 0) (c := 0) Y2.1.1 Y2.1.2.2.1 Y2.1.2.2.2.2.2
    refine ie_vret d46_16 rfl ⟨rfl, pO.si (cCl_of (k := 4) (by rw [cO.1, k2.1]; exact a1) (by decide)), ?_⟩
    exact W_repM X C h15 h16 a2' sw.rfl.si ((k2.tr cO).si (by decide)) (((i2.tr cO.2.2.1).si).swap (by decide))
set_option maxRecDepth 100000 in
set_option maxHeartbeats 4000000 in
/-- Sender.awaitAckOfEnd -/
theorem s47 {G : ix_G} {h : ix_H} {x : Nat} {S : MS} {T A R U D : Nat → Nat} {Lo Lr : Nat → List Nat} {u t f n k0 c st s0 : Nat} (X : wH S u t f n k0 c st s0) (C : cRel h x S T A R U D Lo Lr) (h15 : ¬ S 15 t = 0) (h8 : ¬ S 8 t = 1) : ix_E G 47 0 (lv_args 0 [.ref (A t)]) [] h (fun r h' => r = none ∧ cPo x h h' 1 6 ∧ ∃ U', cRel h' x (mWk2 S u t f n k0 c) T A R U' D Lo Lr) := by
  obtain ⟨I, hv, ho, hu, hu24, hf, hn, hn64, hst, hst2, hH, hR⟩ := id X
  obtain ⟨o1, o2, o3, o4, o5, o6, o7, o8, o9, o10, o11, o12⟩ := C.so hv ho
  have Y := C.sh I hv ho
  rw [← hn] at Y o2 o3
  obtain ⟨L, a1, a2, a3, a4, a5, a6, a7, a8, a9, a10, a11, a12, a13, a14, a15⟩ := id Y
  have t6 := hv.1
  obtain ⟨c1, c2, -⟩ := C.tx hv
  have eto : (1 : Int32) - ix_i h (T t) 0 = nI (1 - t / 320) := by rw [c1.2.2.1, show (1 : Int32) = nI 1 from rfl, pk_sub (by omega)]
  have eby : ∀ i, i < n → ix_i h (cBr x (t / 320) (S 9 t).toNatClampNeg) i &&& 255 = S 6 (64 * f + i) := fun i hi => by rw [hf]; exact C.by I hv ho (by rw [← hn]; exact hi)
  have s1 : A t ≠ cLk x := by unfold cLk; omega
  have s2 : A t ≠ cRo x := by unfold cRo; omega
  have stx : A t ≠ T t := fun z => by rw [z, a5] at a1; exact absurd a1 (by decide)
  have cA : cCl h x (A t) := cCl_of a1 (by decide)
  rw [if_neg h15] at o3
  have e15 := (I.S hv ho).2.2.1
  unfold mWk2
  refine ie_aload_n d47_0 rfl ?_
  refine ie_geti (k := 3) d47_1 fl10_73 a1 ?_
  refine ie_aload_n d47_4 rfl ?_
  refine ie_geti (k := 3) d47_5 fl10_101 a1 ?_
  refine ie_isub d47_8 ?_
  refine ie_aload_n d47_9 rfl ?_
  refine ie_geti (k := 3) d47_10 fl10_27 a1 ?_
  rw [o10, o11 h15, c2.2.2.2.2.2.1]
  refine ie_icmp_ge 17 d47_13 (by decide) (fun c13 => ?_) (fun c13 => ?_)
  · rw [if_neg (Int32.not_lt.mpr c13)]
    refine ie_aload_n d47_17 rfl ?_
    refine ie_geti (k := 3) d47_18 fl10_64 a1 ?_
    rw [o9]
    refine ie_iconst (nI 3) d47_21 (by decide) ?_
    refine ie_icmp_lt 33 d47_22 (by decide) (fun c22 => ?_) (fun c22 => ?_)
    · have h3 : bw (S 15 t + nI 1) 1 3 ∧ ¬ S 15 t = 3 := by
        obtain ⟨q, q1, q2, q3⟩ := e15
        rw [q3, nI_ltI (by omega) (by omega)] at c22
        rw [q3, nI_add]
        exact ⟨bw.of (by omega) (by omega), by rw [show (3 : Int32) = nI 3 from rfl, nI_eq (by omega) (by decide)]; omega⟩
      rw [if_neg h3.2]
      refine ie_aload_n d47_33 rfl ?_
      refine ie_callVx [] d47_34 ok42 rm47_42 cl10_95 rfl rfl (Nat.le_of_ble_eq_true rfl) (Nat.le_of_ble_eq_true rfl) a1 (s42 Y) ?_
      generalize hh2 : ix_si (ix_si h (A t) 11 (ix_i h (A t) 11 + 1)) (A t) 13 (ix_i h (A t) 12) = h2
      have a2' : sw (A t) h h2 := by rw [← hh2]; exact sw.rfl.si.si
      have k2 : kpS h h2 (A t) := by rw [← hh2]; exact ((kpS.of ceq.rfl).si (by decide)).si (by decide)
      have i2 : iOf h h2 (A t) [(13, ix_i h (A t) 12), (11, ix_i h (A t) 11 + 1)] := by rw [← hh2]; exact ((iOf.nil (fun _ => rfl)).si).si
      have p2 : cPo x h h2 0 0 := by rw [← hh2]; exact (cPo.rfl.si cA).si cA
      have L2 : lkS h2 x := lkS_c L (a2'.1 _ (Ne.symm s1)) (a2'.1 _ (Ne.symm s2)) (by rw [a2'.2]; exact Nat.le_refl _)
      rw [eto, show (if ix_i h (A t) 6 = 0 then nI n else -1) = if S 21 t = 0 then nI n else -1 from by rw [o4], show (if ix_i h (A t) 6 = 0 then bSum (fun k => ix_i h (cBr x (t / 320) (S 9 t).toNatClampNeg) k &&& 255) n else 0) = if S 21 t = 0 then mCk S f n ((n + 3) / 4) else nI 0 from by
        rw [o4]
        split
        · rw [ck_all (fun i hi => by rw [← eby i hi]; exact by8_and)]
          exact bSum_e n eby
        · rfl]
      have cO : ceq h2 (hOut x h2 (T t) (nI 3) (nI (1 - t / 320)) (if S 21 t = 0 then nI n else -1) 0 (if S 21 t = 0 then mCk S f n ((n + 3) / 4) else nI 0)) (A t) := hOut_s s1 s2 (by rw [a2'.2]; exact a7)
      have pO := p2.out (tx := T t) (w := nI 3) (to := nI (1 - t / 320)) (d := if S 21 t = 0 then nI n else -1) (l := 0) (c := if S 21 t = 0 then mCk S f n ((n + 3) / 4) else nI 0) L2.1 L2.2.2.1 L2.2.2.2.2.2
      refine ie_vret d47_37 rfl ⟨rfl, pO.si (cCl_of (k := 4) (by rw [cO.1, k2.1]; exact a1) (by decide)), ?_⟩
      refine W_end X C h3.1 rfl a2' sw.rfl.si ((k2.tr cO).si (by decide)) (iOf_endw ((i2.tr cO.2.2.1).si) o3 ?_)
      rw [o1, if_neg h8]
    · have e3 : S 15 t = 3 := by
        obtain ⟨q, q1, q2, q3⟩ := e15
        rw [q3, nI_ltI (by omega) (by omega)] at c22
        rw [q3, show q = 3 from by omega]; rfl
      rw [if_pos e3]
      refine ie_aload_n d47_25 rfl ?_
      refine ie_iconst (nI 3) d47_26 (by decide) ?_
      refine ie_puti (k := 3) d47_27 fl10_47 (Or.inl rfl) a1 rfl rfl ?_
      refine ie_goto 37 d47_30 (by decide) ?_
      exact ie_vret d47_37 rfl ⟨rfl, (cPo.rfl.si cA).m (by omega) (by omega), U, W_fail X C⟩
  · rw [if_pos (Int32.not_le.mp c13)]
    exact ie_vret d47_16 rfl ⟨rfl, cPo.rfl.m (by omega) (by omega), U, C⟩
set_option maxRecDepth 100000 in
set_option maxHeartbeats 4000000 in
/-- Sender.passTick -/
theorem s31 {G : ix_G} {h : ix_H} {x : Nat} {S : MS} {T A R U D : Nat → Nat} {Lo Lr : Nat → List Nat} {t : Nat} (I : mInv S) (K : iK S) (C : cRel h x S T A R U D Lo Lr) (hv : vT S t) (ho : S 13 t = nI 5) : ix_E G 31 0 (lv_args 0 [.ref (A t)]) [] h (fun r h' => r = none ∧ cPo x h h' 1 6 ∧ ∃ U', cRel h' x (fW S t) T A R U' D Lo Lr) := by
  have X := wH_of I hv ho
  obtain ⟨o1, o2, o3, o4, o5, o6, o7, o8, o9, o10, o11, o12⟩ := C.so hv ho
  have a1 := (C.tx hv).2.1.2.1
  have cA : cCl h x (A t) := cCl_of a1 (by decide)
  unfold fW mWork
  refine ie_aload_n d31_0 rfl ?_
  refine ie_callVx [] d31_1 ok26 rm31_26 cl10_50 rfl rfl (Nat.le_of_ble_eq_true rfl) (Nat.le_of_ble_eq_true rfl) a1 (s26 a1) ?_
  refine ie_if_eq 14 d31_4 (by decide) (fun c4 => absurd o1 (bI_0.mp c4)) (fun c4 => ?_)
  refine ie_aload_n d31_7 rfl ?_
  refine ie_geti (k := 3) d31_8 fl10_70 a1 ?_
  rw [o5]
  refine ie_if_eq 15 d31_11 (by decide) (fun c11 => ?_) (fun c11 => ?_)
  · rw [if_pos c11]
    refine ie_aload_n d31_15 rfl ?_
    refine ie_dup d31_16 rfl ?_
    refine ie_geti (k := 3) d31_17 fl10_73 a1 ?_
    refine ie_iconst 1 d31_20 (by decide) ?_
    refine ie_iadd d31_21 ?_
    refine ie_puti (k := 3) d31_22 fl10_73 (Or.inl rfl) a1 rfl rfl ?_
    have C1 := W_tick I C hv ho
    have X1 := wH_w (k := 16) (x := S 16 t + nI 1) X (Or.inl rfl)
    have P1 : cPo x h (ix_si h (A t) 12 (ix_i h (A t) 12 + 1)) 0 0 := cPo.rfl.si cA
    have K8 : ¬ mset S 16 t (S 16 t + nI 1) 15 t = 0 → ¬ mset S 16 t (S 16 t + nI 1) 8 t = 1 := fun z w => by
      rw [mset_k (by decide)] at z w
      exact z (K t hv ho w)
    have a1' : ix_tg (ix_si h (A t) 12 (ix_i h (A t) 12 + 1)) (A t) = 4 := a1
    generalize ix_si h (A t) 12 (ix_i h (A t) 12 + 1) = h1 at C1 P1 a1' ⊢
    generalize mset S 16 t (S 16 t + nI 1) = S1 at C1 X1 K8 ⊢
    clear o1 o2 o3 o4 o5 o6 o7 o8 o9 o10 o11 o12 c4 c11 a1 cA
    obtain ⟨I1, hv1, ho1, hu1, hu24, hf1, hn1, hn64, hst1, hst2, hH1, hR1⟩ := id X1
    obtain ⟨o1, o2, o3, o4, o5, o6, o7, o8, o9, o10, o11, o12⟩ := C1.so hv1 ho1
    rw [← hn1] at o2 o3
    have c2 := (C1.tx hv1).2.1
    have hnx : (ix_i h1 (A t) 5 ≤ ix_i h1 (A t) 4) ↔ S1 15 t = 0 := by
      rw [o2, o3]
      by_cases q : S1 15 t = 0
      · rw [if_pos q]
        refine ⟨fun _ => q, fun _ => ?_⟩
        by_cases q2 : S1 21 t = 0
        · rw [if_pos q2, hst1]
          rcases Nat.eq_zero_or_pos (S 14 t).toNatClampNeg with w | w
          · rw [w]
            exact Int32.le_trans (show nI 0 - 1 ≤ 0 by decide) (nI_pos' (by omega))
          · rw [nI_sub1 w, nI_leI (by omega) (by omega)]; omega
        · rw [if_neg q2, nI_leI (by omega) (by omega)]; omega
      · rw [if_neg q, nI_leI (by omega) (by omega)]
        exact ⟨fun z => by omega, fun z => absurd z q⟩
    have h19 : (ix_i h1 (A t) 9 = 0 ∧ ix_i h1 (A t) 10 = 0) ↔ S1 19 t = 0 := by
      constructor
      · rintro ⟨z1, z2⟩
        refine Classical.byContradiction fun w => ?_
        obtain ⟨q, hq, hr⟩ := rb_ex w
        by_cases e : q = 16
        · subst e
          rcases o7 with y | y
          · exact y.2 hr
          · exact absurd (y.1.symm.trans z1) (by decide)
        · have := (o8 q hq).mpr ⟨hr, e⟩
          rw [z2] at this
          exact rb_0 hq this
      · intro z
        refine ⟨?_, ?_⟩
        · rcases o7 with y | y
          · exact y.1
          · exact absurd (by rw [← z]; exact y.2) (rb_0 (q := 16) (by decide))
        · refine Classical.byContradiction fun w => ?_
          obtain ⟨q, hq, hr⟩ := rb_ex w
          have := ((o8 q hq).mp hr).1
          rw [z] at this
          exact rb_0 hq this
    unfold mWk
    refine ie_aload_n d31_25 rfl ?_
    refine ie_geti (k := 3) d31_26 fl10_11 a1' ?_
    refine ie_aload_n d31_29 rfl ?_
    refine ie_geti (k := 3) d31_30 fl10_44 a1' ?_
    refine ie_icmp_gt 43 d31_33 (by decide) (fun c33 => ?_) (fun c33 => ?_)
    · have q15 : ¬ S1 15 t = 0 := fun z => absurd c33 (Int32.not_lt.mpr (hnx.mpr z))
      rw [if_neg q15]
      refine ie_aload_n d31_43 rfl ?_
      refine ie_geti (k := 3) d31_44 fl10_58 a1' ?_
      refine ie_if_ne 57 d31_47 (by decide) (fun c47 => ?_) (fun c47 => ?_)
      · have q19 : ¬ S1 19 t = 0 := fun z => c47 (h19.mpr z).1
        rw [if_pos q19]
        refine ie_aload_n d31_57 rfl ?_
        refine ie_callV [] d31_58 ok46 rm31_46 cl10_79 rfl rfl (Nat.le_of_ble_eq_true rfl) (Nat.le_of_ble_eq_true rfl) a1' (s46 X1 C1 q15 q19) (fun rv h2 hq => ?_)
        obtain ⟨e1, p1, C2⟩ := hq
        subst e1
        refine ie_goto 101 d31_61 (by decide) ?_
        exact ie_vret d31_101 rfl ⟨rfl, (P1.tr p1).m (by omega) (by omega), C2⟩
      · refine ie_aload_n d31_50 rfl ?_
        refine ie_geti (k := 3) d31_51 fl10_61 a1' ?_
        refine ie_if_eq 64 d31_54 (by decide) (fun c54 => ?_) (fun c54 => ?_)
        · rw [if_neg (fun z => z (h19.mp ⟨c47, c54⟩))]
          refine ie_aload_n d31_64 rfl ?_
          refine ie_geti (k := 3) d31_65 fl10_67 a1' ?_
          rw [o6]
          refine ie_if_ne 78 d31_68 (by decide) (fun c68 => ?_) (fun c68 => ?_)
          · rw [if_neg c68]
            unfold mWk3
            refine ie_aload_n d31_78 rfl ?_
            refine ie_geti (k := 3) d31_79 fl10_73 a1' ?_
            refine ie_aload_n d31_82 rfl ?_
            refine ie_geti (k := 3) d31_83 fl10_85 a1' ?_
            refine ie_isub d31_86 ?_
            refine ie_iconst (nI 4) d31_87 (by decide) ?_
            refine ie_aload_n d31_88 rfl ?_
            refine ie_geti (k := 3) d31_89 fl10_27 a1' ?_
            refine ie_imul d31_92 ?_
            rw [o10, o12, c2.2.2.2.2.2.1]
            refine ie_icmp_lt 101 d31_93 (by decide) (fun c93 => ?_) (fun c93 => ?_)
            · rw [if_neg (Int32.not_le.mpr c93)]
              exact ie_vret d31_101 rfl ⟨rfl, P1.m (by omega) (by omega), U, C1⟩
            · rw [if_pos (Int32.not_lt.mp c93)]
              refine ie_aload_n d31_96 rfl ?_
              refine ie_iconst (nI 3) d31_97 (by decide) ?_
              refine ie_puti (k := 3) d31_98 fl10_47 (Or.inl rfl) a1' rfl rfl ?_
              exact ie_vret d31_101 rfl ⟨rfl, (P1.si (cCl_of a1' (by decide))).m (by omega) (by omega), U, W_fail X1 C1⟩
          · rw [if_pos c68]
            refine ie_aload_n d31_71 rfl ?_
            refine ie_callV [] d31_72 ok47 rm31_47 cl10_82 rfl rfl (Nat.le_of_ble_eq_true rfl) (Nat.le_of_ble_eq_true rfl) a1' (s47 X1 C1 q15 (K8 q15)) (fun rv h2 hq => ?_)
            obtain ⟨e1, p1, C2⟩ := hq
            subst e1
            refine ie_goto 101 d31_75 (by decide) ?_
            exact ie_vret d31_101 rfl ⟨rfl, (P1.tr p1).m (by omega) (by omega), C2⟩
        · have q19 : ¬ S1 19 t = 0 := fun z => c54 (h19.mpr z).2
          rw [if_pos q19]
          refine ie_aload_n d31_57 rfl ?_
          refine ie_callV [] d31_58 ok46 rm31_46 cl10_79 rfl rfl (Nat.le_of_ble_eq_true rfl) (Nat.le_of_ble_eq_true rfl) a1' (s46 X1 C1 q15 q19) (fun rv h2 hq => ?_)
          obtain ⟨e1, p1, C2⟩ := hq
          subst e1
          refine ie_goto 101 d31_61 (by decide) ?_
          exact ie_vret d31_101 rfl ⟨rfl, (P1.tr p1).m (by omega) (by omega), C2⟩
    · have q15 : S1 15 t = 0 := hnx.mp (Int32.not_lt.mp c33)
      rw [if_pos q15]
      refine ie_aload_n d31_36 rfl ?_
      refine ie_callV [] d31_37 ok32 rm31_32 cl10_76 rfl rfl (Nat.le_of_ble_eq_true rfl) (Nat.le_of_ble_eq_true rfl) a1' (s32 X1 C1 q15) (fun rv h2 hq => ?_)
      obtain ⟨e1, p1, C2⟩ := hq
      subst e1
      refine ie_goto 101 d31_40 (by decide) ?_
      exact ie_vret d31_101 rfl ⟨rfl, (P1.tr p1).m (by omega) (by omega), C2⟩
  · rw [if_neg c11]
    exact ie_vret d31_14 rfl ⟨rfl, cPo.rfl.m (by omega) (by omega), U, C⟩
