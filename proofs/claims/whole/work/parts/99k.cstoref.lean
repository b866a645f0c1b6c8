/-! ===== storeFile ===== -/
theorem cPo.rp {x e f B n a b : Nat} {h h1 : ix_H} (p : cPo x h h1 a b) (t1 : ix_tg h1 (cBr x e f) = 102) (t2 : ix_tg h1 (cSz x e) = 100) (he : e < 2) : cPo x h (hRp x h1 e f B n) a b := by
  have q : cPo x h1 (hRp x h1 e f B n) 0 0 := by
    refine ⟨⟨Nat.le_refl _, fun q _ hm => ⟨hRp_o (fun z => ?_) (fun z => ?_), fun j => Eq.refl _⟩⟩, Nat.le_refl _, Nat.le_refl _, Nat.le_refl _⟩
    · rw [z] at hm
      exact cCl_of t1 (by decide) hm
    · rw [z] at hm
      exact cCl_lo t2 (by decide) (by unfold cSz; omega) hm
  exact (p.tr q).m (by omega) (by omega)
/-- what storeFile leaves: its answer v, the numbers S1 before the receiver ends -/
def cSF (x : Nat) (h : ix_H) (S : MS) (T A R U D : Nat → Nat) (Lo Lr : Nat → List Nat) (u t p d ot n cs k0 c : Nat) (w : Int32) (rv : ix_O) (h' : ix_H) : Prop := ∃ (v : Int32) (S1 : MS), rv = some (.int v) ∧ bw v 1 4 ∧ (∀ y, mCpl S u t p d ot n cs k0 c y = mFin S1 u t p k0 c v y) ∧ mInv S1 ∧ (∀ k, k ∉ [4, 5, 6, 24] → S1 k = S k) ∧ cRel (ix_si h' (R t) 9 w) x S1 T A R U D Lo Lr ∧ cPo x h h' 0 0
section CSf
variable {h : ix_H} {x : Nat} {S : MS} {T A R U D : Nat → Nat} {Lo Lr : Nat → List Nat} {t p d ot n cs e : Nat} {w : Int32}
theorem H_24 {v : Int32} (I : mInv S) (C : cRel (ix_si h (R t) 9 w) x S T A R U D Lo Lr) (hv : vT S t) (ho : opR S t) (hv2 : bw v 0 2) : cRel (ix_si (ix_si h (R t) 13 v) (R t) 9 w) x (mset S 24 t v) T A R U D Lo Lr :=
  cRel_e (mInv_24 I hv hv2) (cRel_24 I C hv ho) (fun b => si_cm (by omega) b) rfl
theorem H_store (I : mInv S) (C : cRel (ix_si h (R t) 9 w) x S T A R U D Lo Lr) (hv : vT S t) (ho : S 23 t = nI 5) (hp : p = sP S t) (he : e < 2) (hd : d < 6) (hn : n ≤ 64) (hno : ∀ t, vT S t → S 13 t = nI 5 → fI S t ≠ 6 * e + d) : cRel (ix_si (hRp x h e d (R t + 1) n) (R t) 9 w) x (mStore S (6 * e + d) p n) T A R U D Lo Lr := by
  have c := C.rv hv (Or.inl ho)
  have R5 := c.2.2.2.2.2.2.2.2.2.2.2.2.2.2 ho
  rw [← hp] at R5
  have r30 := c.1
  have C1 := L_rep (S' := mStore S (6 * e + d) p n) (B := R t + 1) (n := n) I C he hd hn (fun i hi => c.2.2.2.2.2.2.2.2.2.1 i (by omega)) (fun k hk => mStore_L k (fun z => hk (by revert z; simp only [List.mem_cons, List.not_mem_nil, or_false]; omega))) (fun j hj => ?_) (fun j hj => ?_) ?_ ?_ (fun i hi => ?_) hno
  · exact cRel_e (mInv_store I hn hno) C1 (fun b => hRp_cm (by unfold cBr; omega) (by unfold cSz; omega) (by omega) b) rfl
  · unfold mStore
    rw [mCpB_o (by decide), mCpB_o (by decide), mset_k (by decide), mset_j rfl hj, mset_j rfl hj, mset_k (by decide)]
    exact ⟨rfl, rfl⟩
  · unfold mStore mCpB
    rw [if_neg (by omega), mset_k (by decide), mset_k (by decide)]
  · unfold mStore
    rw [mCpB_o (by decide), mset_k (by decide), mset_s]
  · unfold mStore
    rw [mCpB_o (by decide), mset_s]
  · rw [R5.2.2.2.2.2.2.2 i (by omega)]
    unfold mStore mCpB
    rw [if_pos ⟨rfl, by omega, by omega⟩, show 64 * (6 * e + d) + i - 64 * (6 * e + d) = i from by omega]
    exact (mB_o (fun j => by rw [mset_k (by decide), mset_k (by decide)]) (fun j => by rw [mset_k (by decide), mset_k (by decide)])).symm
theorem H_copy (I : mInv S) (C : cRel (ix_si h (R t) 9 w) x S T A R U D Lo Lr) (hv : vT S t) (ho : S 23 t = nI 5) (he : e < 2) (hd : d < 6) (hot : ot < 6) (hn : n ≤ 64) (s4 : S 4 (6 * e + d) = nI 1) (s5 : S 5 (6 * e + d) = nI n) (hno : ∀ t, vT S t → S 13 t = nI 5 → fI S t ≠ 6 * e + ot) (I' : mInv (mCpy (mset (mset (mset S 24 t (nI 1)) 4 (6 * e + ot) (nI 1)) 5 (6 * e + ot) (nI n)) (6 * e + ot) (6 * e + d) n)) : cRel (ix_si (ix_si (hRp x h e ot (cBr x e d) n) (R t) 13 (nI 1)) (R t) 9 w) x (mCpy (mset (mset (mset S 24 t (nI 1)) 4 (6 * e + ot) (nI 1)) 5 (6 * e + ot) (nI n)) (6 * e + ot) (6 * e + d) n) T A R U D Lo Lr := by
  have c := C.rv hv (Or.inl ho)
  have r30 := c.1
  have b1 : bw (nI 1) 0 2 := bw.of (by decide) (by decide)
  have C24 := H_24 (v := nI 1) I C hv (Or.inl ho) b1
  have I24 := mInv_24 (x := nI 1) I hv b1
  have hno' : ∀ t', vT (mset S 24 t (nI 1)) t' → mset S 24 t (nI 1) 13 t' = nI 5 → fI (mset S 24 t (nI 1)) t' ≠ 6 * e + ot := fun t' v o => by
    rw [fI_c mset_L (by decide)]
    exact hno t' ((vT_c mset_L (by decide)).mp v) (by rw [mset_k (by decide)] at o; exact o)
  have q4 : mset S 24 t (nI 1) 4 (6 * e + d) = nI 1 := by rw [mset_k (by decide)]; exact s4
  have q5 : mset S 24 t (nI 1) 5 (6 * e + d) = nI n := by rw [mset_k (by decide)]; exact s5
  generalize mset S 24 t (nI 1) = S0 at *
  have fl := C24.fl he hd
  have C1 := L_rep (S' := mCpy (mset (mset S0 4 (6 * e + ot) (nI 1)) 5 (6 * e + ot) (nI n)) (6 * e + ot) (6 * e + d) n) (B := cBr x e d) (n := n) I24 C24 he hot hn (fun i hi => fl.2.1 i (by omega)) (fun k hk => funext fun j => ?_) (fun j hj => ?_) (fun j hj => ?_) ?_ ?_ (fun i hi => ?_) hno'
  · refine cRel_e I' C1 (fun b => ?_) rfl
    refine (hRp_cm (by unfold cBr; omega) (by unfold cSz; omega) (by unfold cBr; omega) b).tr (ceq_si (fun b => ?_) b)
    exact hRp_cm (by unfold cBr; omega) (by unfold cSz; omega) (by unfold cBr; omega) b
  · simp only [List.mem_cons, List.not_mem_nil, or_false, not_or] at hk
    rw [mCpy_o (by omega), mset_k (by omega), mset_k (by omega)]
  · rw [mCpy_o (by decide), mCpy_o (by decide), mset_k (by decide), mset_j rfl hj, mset_j rfl hj, mset_k (by decide)]
    exact ⟨rfl, rfl⟩
  · unfold mCpy
    rw [if_neg (by omega), mset_k (by decide), mset_k (by decide)]
  · rw [mCpy_o (by decide), mset_k (by decide), mset_s]
  · rw [mCpy_o (by decide), mset_s]
  · have := fl.2.2 (by rw [q4]; decide) i (by rw [q5, nI_clamp (by omega)]; exact hi)
    rw [this]
    unfold mCpy
    rw [if_pos ⟨rfl, by omega, by omega⟩, mset_k (by decide), mset_k (by decide)]
    congr 1
    omega
theorem H_rem (I : mInv S) (C : cRel (ix_si h (R t) 9 w) x S T A R U D Lo Lr) (hv : vT S t) (ho : S 23 t = nI 5) (he : e < 2) (hot : ot < 6) (hno : ∀ t, vT S t → S 13 t = nI 5 → fI S t ≠ 6 * e + ot) (I' : mInv (mset (mset S 24 t (nI 1)) 4 (6 * e + ot) (nI 0))) : cRel (ix_si (ix_si (ix_si h (cSz x e) ot (-1)) (R t) 13 (nI 1)) (R t) 9 w) x (mset (mset S 24 t (nI 1)) 4 (6 * e + ot) (nI 0)) T A R U D Lo Lr := by
  have c := C.rv hv (Or.inl ho)
  have r30 := c.1
  have b1 : bw (nI 1) 0 2 := bw.of (by decide) (by decide)
  have C24 := H_24 (v := nI 1) I C hv (Or.inl ho) b1
  have I24 := mInv_24 (x := nI 1) I hv b1
  have hno' : ∀ t', vT (mset S 24 t (nI 1)) t' → mset S 24 t (nI 1) 13 t' = nI 5 → fI (mset S 24 t (nI 1)) t' ≠ 6 * e + ot := fun t' v o => by
    rw [fI_c mset_L (by decide)]
    exact hno t' ((vT_c mset_L (by decide)).mp v) (by rw [mset_k (by decide)] at o; exact o)
  refine cRel_e I' (L_del I24 C24 he hot hno') (fun b => ?_) rfl
  refine (si_cm (by unfold cSz; omega) b).tr (ceq_si (fun b => ?_) b)
  exact si_cm (by unfold cSz; omega) b
end CSf
set_option maxRecDepth 100000 in
set_option maxHeartbeats 4000000 in
/-- storeFile -/
theorem s83 {G : ix_G} {h : ix_H} {x : Nat} {S : MS} {T A R U D : Nat → Nat} {Lo Lr : Nat → List Nat} {u t p d ot n cs k0 c : Nat} {w : Int32} (I : mInv S) (C : cRel (ix_si h (R t) 9 w) x S T A R U D Lo Lr) (L : cAll S Lo Lr) (hv : vT S t) (ho : S 23 t = nI 5) (X : mTH S u t p d ot n cs k0 c) (h37 : ¬ S 37 p = 0) (h27 : S 27 p = nI n) (h10 : S 10 t = nI d) (h12 : S 12 t = nI ot) (h33 : S 33 p = S 11 t) : ix_E G 83 0 (lv_args 0 [.ref (R t)]) [] h (cSF x h S T A R U D Lo Lr u t p d ot n cs k0 c w) := by
  obtain ⟨t6, hp25, hp6, hn64, hot6, hd6, hcs3, hcs, hsn, hu, hu24, hH⟩ := X
  have hop : opR S t := Or.inl ho
  have hp : p = sP S t := by unfold sP; rw [hp25, nI_clamp (by omega)]
  have he : 1 - t / 320 < 2 := by omega
  have ec : cs = cP 42 S (1 - t / 320) := by unfold cP; rw [hcs, nI_clamp (by omega)]
  have rc := C.rv hv hop
  have zt := (C.tx hv).1
  have R5 := rc.2.2.2.2.2.2.2.2.2.2.2.2.2.2 ho
  rw [← hp] at R5
  have nTR : ¬ T t = R t := fun q => by
    have a1 : ix_tg h (T t) = 7 := zt.2.1
    have a2 : ix_tg h (R t) = 3 := rc.2.1
    rw [q, a2] at a1
    exact absurd a1 (by decide)
  have iT : ∀ j, ix_i (ix_si h (R t) 9 w) (T t) j = ix_i h (T t) j := fun j => by rw [ix_i_si, if_neg (fun z => nTR z.1)]
  have i1 : ∀ j, ix_i (ix_si h (R t) 9 w) (R t + 1) j = ix_i h (R t + 1) j := fun j => by rw [ix_i_si, if_neg (by omega)]
  have tr : ix_tg h (R t) = 3 := rc.2.1
  have r0 : ix_r h (R t) 0 = some (T t) := rc.2.2.1
  have r1 : ix_r h (R t) 1 = some (cS0 x (1 - t / 320)) := rc.2.2.2.1
  have r4 : ix_r h (R t) 4 = some (R t + 1) := rc.2.2.2.2.2.2.1
  have tb : ix_tg h (R t + 1) = 102 := rc.2.2.2.2.2.2.2.1
  have lb : ix_ln h (R t + 1) = 64 := rc.2.2.2.2.2.2.2.2.1
  have tT : ix_tg h (T t) = 7 := zt.2.1
  have F : cFx1 h x (1 - t / 320) := cFx1_fr (C.fx.2.2.2.2.2.2.2.2.2 _ he) (fun b => ⟨rfl, rfl, fun _ => rfl⟩)
  have i3 : ix_i h (T t) 3 = nI d := by rw [← iT, zt.2.2.2.2.2.1, h10]
  have i5 : ix_i h (T t) 5 = S 11 t := by rw [← iT]; exact zt.2.2.2.2.2.2.2.1
  have i6 : ix_i h (T t) 6 = nI ot := by rw [← iT, zt.2.2.2.2.2.2.2.2.1, h12]
  have i7 : ix_i h (R t) 7 = nI n := by
    have := R5.2.2.2.1
    rw [ix_i_si, if_neg (fun z => absurd z.2 (by decide)), if_neg h37, h27] at this
    exact this
  have i8 : ix_i h (R t) 8 = S 28 p := by
    have := R5.2.2.2.2.1 h37
    rw [ix_i_si, if_neg (fun z => absurd z.2 (by decide))] at this
    exact this
  have sm : bSum (fun k => ix_i h (R t + 1) k &&& 255) n = mSm S p n := by
    rw [mSm_sum]
    exact bSum_e n (fun i hi => by rw [← i1]; exact R5.2.2.2.2.2.2.2 i (by omega))
  have b8r : ∀ i, i < n → b8 (ix_i h (R t + 1) i) := fun i hi => by rw [← i1]; exact rc.2.2.2.2.2.2.2.2.2.1 i (by omega)
  have E1 : ix_Ev G 84 0 (lv_args 0 [.ref (cS0 x (1 - t / 320)), .int (nI d)]) [] h (some (.int (bP (mLock S (1 - t / 320) (nI d) cs)))) h := by
    have := s84 (G := G) (f := nI d) (H_un I C hv ho hp h37) he
    rw [show mset S 30 p (ix_i h (R t) 9) 9 = S 9 from mset_kk (by decide), bP_c (lock_Lo C.rw L he), ← ec] at this
    exact this
  have P0 : cPo x h h 0 0 := cPo.rfl
  refine ie_aload_n d83_0 rfl ?_
  refine ie_getr _ d83_1 fl13_9 tr r4 ?_
  refine ie_aload_n d83_4 rfl ?_
  refine ie_geti (k := 2) d83_5 fl13_15 tr ?_
  rw [i7]
  refine ie_callSx [_, _] d83_8 ok44 rm83_44 cl13_121 rfl rfl (Nat.le_of_ble_eq_true rfl) (Nat.le_of_ble_eq_true rfl) (s44 tb lb hn64) ?_
  rw [sm]
  refine ie_aload_n d83_11 rfl ?_
  refine ie_geti (k := 2) d83_12 fl13_105 tr ?_
  rw [i8]
  refine ie_icmp_eq 20 d83_15 (by decide) (fun q1 => ?_) (fun q1 => ?_)
  · refine ie_aload_n d83_20 rfl ?_
    refine ie_getr _ d83_21 fl13_23 tr r1 ?_
    refine ie_aload_n d83_24 rfl ?_
    refine ie_getr _ d83_25 fl13_19 tr r0 ?_
    refine ie_geti (k := 6) d83_28 fl13_125 tT ?_
    rw [i3]
    refine ie_callVx [_] d83_31 ok84 rm83_84 cl13_128 rfl rfl (Nat.le_of_ble_eq_true rfl) (Nat.le_of_ble_eq_true rfl) F.2.1 E1 ?_
    by_cases q2 : mLock S (1 - t / 320) (nI d) cs
    · rw [bP_t q2]
      refine ie_if_eq 39 d83_34 (by decide) (fun z => absurd z (by decide)) (fun _ => ?_)
      refine ie_iconst (nI 4) d83_37 (by decide) ?_
      refine ie_iret d83_38 rfl rfl ⟨nI 4, S, rfl, bw.of (by decide) (by decide), fun y => ?_, I, fun _ _ => rfl, C, P0⟩
      unfold mCpl
      rw [if_pos q1, if_pos q2]
    · rw [bP_f q2]
      refine ie_if_eq 39 d83_34 (by decide) (fun _ => ?_) (fun z => absurd rfl z)
      have hno := noLock I he hd6 hcs hcs3 q2
      refine ie_aload_n d83_39 rfl ?_
      refine ie_getr _ d83_40 fl13_23 tr r1 ?_
      refine ie_getr _ d83_43 fl13_134 F.2.1 F.2.2.1 ?_
      refine ie_aload_n d83_46 rfl ?_
      refine ie_getr _ d83_47 fl13_19 tr r0 ?_
      refine ie_geti (k := 6) d83_50 fl13_125 tT ?_
      rw [i3]
      refine ie_aload_n d83_53 rfl ?_
      refine ie_getr _ d83_54 fl13_9 tr r4 ?_
      refine ie_aload_n d83_57 rfl ?_
      refine ie_geti (k := 2) d83_58 fl13_15 tr ?_
      rw [i7]
      refine ie_callVx [_, _, _] d83_61 ok85 rm83_85 cl13_138 rfl rfl (Nat.le_of_ble_eq_true rfl) (Nat.le_of_ble_eq_true rfl) F.2.2.2.2.1 (s85 F hd6 tb lb hn64 b8r) ?_
      have C0 := H_store I C hv ho hp he hd6 hn64 hno
      have I0 := mInv_store (p := p) I hn64 hno
      have L0 := mStore_L (S := S) (f := 6 * (1 - t / 320) + d) (p := p) (n := n)
      have s4 : mStore S (6 * (1 - t / 320) + d) p n 4 (6 * (1 - t / 320) + d) = nI 1 := by
        unfold mStore
        rw [mCpB_o (by decide), mset_k (by decide), mset_s]
      have s5 : mStore S (6 * (1 - t / 320) + d) p n 5 (6 * (1 - t / 320) + d) = nI n := by
        unfold mStore
        rw [mCpB_o (by decide), mset_s]
      have P1 : cPo x h (hRp x h (1 - t / 320) d (R t + 1) n) 0 0 := P0.rp (F.2.2.2.2.2.2.2.2.2.2.2 d hd6).2.1 F.2.2.2.2.2.2.2.2.2.1 he
      have eC : ∀ y, mCpl S u t p d ot n cs k0 c y = mFin (mGrant (mStore S (6 * (1 - t / 320) + d) p n) t (1 - t / 320) (6 * (1 - t / 320) + d) p ot n cs) u t p k0 c (nI 1) y := fun y => by
        unfold mCpl
        rw [if_pos q1, if_neg q2]
        rfl
      have b1 : bw (nI 1) 1 4 := bw.of (by decide) (by decide)
      have tT1 : ix_i (hRp x h (1 - t / 320) d (R t + 1) n) (T t) 5 = S 11 t := by
        rw [(hRp_o (by have := zt.1; unfold cBr; omega) (by have := zt.1; unfold cSz; omega)).2.2.1]; exact i5
      have Xr : rvS (hRp x h (1 - t / 320) d (R t + 1) n) x (R t) (T t) (1 - t / 320) d ot (S 11 t) := by
        refine rvS_fr ⟨tr, r0, r1, tT, i3, i5, i6, F, hd6, hot6⟩ (fun b => ⟨rfl, rfl, fun _ => rfl⟩) (fun j => ?_)
        exact (hRp_o (by have := zt.1; unfold cBr; omega) (by have := zt.1; unfold cSz; omega)).2.2.1 j
      have sz1 : ix_i (hRp x h (1 - t / 320) d (R t + 1) n) (cSz x (1 - t / 320)) d = nI n := by
        unfold hRp
        rw [ix_i_si, if_pos ⟨rfl, rfl⟩]
      generalize hRp x h (1 - t / 320) d (R t + 1) n = h1 at *
      generalize mStore S (6 * (1 - t / 320) + d) p n = S0 at *
      have hv0 : vT S0 t := (vT_c L0 (by decide)).mpr hv
      have ho0 : S0 23 t = nI 5 := by rw [L0 23 (by decide)]; exact ho
      have hp0 : p = sP S0 t := by unfold sP; rw [L0 25 (by decide)]; exact hp
      have hcs0 : S0 42 (1 - t / 320) = nI cs := by rw [L0 42 (by decide)]; exact hcs
      have L1 : cAll S0 Lo Lr := fun e he => ⟨fun t' m => by rw [L0 13 (by decide)]; exact (L e he).1 t' m, fun t' m => by have := (L e he).2 t' m; unfold opR at this ⊢; rw [L0 23 (by decide)]; exact this⟩
      have E2 : ix_Ev G 84 0 (lv_args 0 [.ref (cS0 x (1 - t / 320)), .int (nI ot)]) [] h1 (some (.int (bP (mLock S0 (1 - t / 320) (nI ot) cs)))) h1 := by
        have := s84 (G := G) (f := nI ot) (H_un I0 C0 hv0 ho0 hp0 (by rw [L0 37 (by decide)]; exact h37)) he
        rw [show mset S0 30 p (ix_i h1 (R t) 9) 9 = S0 9 from mset_kk (by decide), bP_c (lock_Lo C0.rw L1 he), show cP 42 S0 (1 - t / 320) = cs from by rw [ec]; unfold cP; rw [L0 42 (by decide)]] at this
        exact this
      have I1 := mInv_grant (t := t) (f := 6 * (1 - t / 320) + d) (p := p) (n := n) I0 hv0 he hot6 hcs0 hcs3 hn64
      have L2 := mGrant_L (S := S0) (t := t) (e := 1 - t / 320) (f := 6 * (1 - t / 320) + d) (p := p) (ot := ot) (n := n) (cs := cs)
      have L3 : ∀ k, k ∉ [4, 5, 6, 24] → mGrant S0 t (1 - t / 320) (6 * (1 - t / 320) + d) p ot n cs k = S k := fun k hk => by
        rw [L2 k hk, L0 k (fun z => hk (by revert z; simp only [List.mem_cons, List.not_mem_nil, or_false]; omega))]
      have h33' : S0 33 p = S 11 t := by rw [L0 33 (by decide)]; exact h33
      refine ie_aload_n d83_64 rfl ?_
      refine ie_getr _ d83_65 fl13_19 Xr.1 Xr.2.1 ?_
      refine ie_geti (k := 6) d83_68 fl13_144 Xr.2.2.2.1 ?_
      rw [tT1]
      have clR : ∀ h1, ix_tg h1 (R t) = 3 → cCl h1 x (R t) := fun h1 hh => cCl_of hh (by decide)
      have tail : ∀ (h2 : ix_H) (b : Int32), (b = 0 ∨ b = 1) → ix_tg h2 (R t) = 3 → cPo x h h2 0 0 → cRel (ix_si (ix_si h2 (R t) 13 (if b = 0 then nI 2 else nI 1)) (R t) 9 w) x (mGrant S0 t (1 - t / 320) (6 * (1 - t / 320) + d) p ot n cs) T A R U D Lo Lr → ix_E G 83 79 (lv_args 0 [.ref (R t)]) [.int b, .ref (R t)] h2 (cSF x h S T A R U D Lo Lr u t p d ot n cs k0 c w) := by
        intro h2 b hb tg2 p2 c2
        refine ie_if_eq 86 d83_79 (by decide) (fun z => ?_) (fun z => ?_)
        · rw [if_pos z] at c2
          refine ie_iconst (nI 2) d83_86 (by decide) ?_
          refine ie_puti (k := 2) d83_87 fl13_150 (Or.inl rfl) tg2 rfl rfl ?_
          refine ie_iconst (nI 1) d83_90 (by decide) ?_
          exact ie_iret d83_91 rfl rfl ⟨nI 1, _, rfl, b1, eC, I1, L3, c2, p2.si (clR _ tg2)⟩
        · rw [if_neg z] at c2
          refine ie_iconst (nI 1) d83_82 (by decide) ?_
          refine ie_goto 87 d83_83 (by decide) ?_
          refine ie_puti (k := 2) d83_87 fl13_150 (Or.inl rfl) tg2 rfl rfl ?_
          refine ie_iconst (nI 1) d83_90 (by decide) ?_
          exact ie_iret d83_91 rfl rfl ⟨nI 1, _, rfl, b1, eC, I1, L3, c2, p2.si (clR _ tg2)⟩
      refine ie_if_eq 90 d83_71 (by decide) (fun q3 => ?_) (fun q3 => ?_)
      · have eg : mGrant S0 t (1 - t / 320) (6 * (1 - t / 320) + d) p ot n cs = S0 := by
          unfold mGrant
          rw [if_pos (by rw [h33']; exact q3)]
        refine ie_iconst (nI 1) d83_90 (by decide) ?_
        refine ie_iret d83_91 rfl rfl ⟨nI 1, _, rfl, b1, eC, I1, L3, ?_, P1⟩
        rw [eg]; exact C0
      · refine ie_aload_n d83_74 rfl ?_
        refine ie_aload_n d83_75 rfl ?_
        have n33 : ¬ S0 33 p = 0 := by rw [h33']; exact q3
        by_cases q4 : mLock S0 (1 - t / 320) (nI ot) cs
        · rw [bP_t q4] at E2
          refine ie_callVx [] d83_76 ok86 rm83_86 cl13_147 rfl rfl (Nat.le_of_ble_eq_true rfl) (Nat.le_of_ble_eq_true rfl) Xr.1 (s86_l Xr E2) ?_
          refine tail h1 0 (Or.inl rfl) Xr.1 P1 ?_
          rw [if_pos rfl]
          unfold mGrant
          rw [if_neg n33, if_neg (fun z => z.1 q4)]
          exact H_24 I0 C0 hv0 (Or.inl ho0) (bw.of (by decide) (by decide))
        · rw [bP_f q4] at E2
          have hno2 := noLock I0 he hot6 hcs0 hcs3 q4
          obtain ⟨m, m1, m2, m3⟩ := (I.T hv).2.2.2.1
          rcases (by omega : m = 0 ∨ m = 1 ∨ m = 2) with y | y | y
          · exact absurd (by rw [m3, y]; rfl) q3
          · rw [m3, y] at Xr
            have e33 : S0 33 p = nI 1 := by rw [h33', m3, y]
            refine ie_callVx [] d83_76 ok86 rm83_86 cl13_147 rfl rfl (Nat.le_of_ble_eq_true rfl) (Nat.le_of_ble_eq_true rfl) Xr.1 (s86_d Xr E2) ?_
            have hh := (C0.fl he hot6).has (I0.2.1 _ (by omega)).2
            rw [ix_i_si, if_neg (by have := rc.1; unfold cSz; omega)] at hh
            by_cases q5 : ix_i h1 (cSz x (1 - t / 320)) ot = -1
            · rw [bI_f (fun z => z q5), if_pos q5]
              refine tail h1 0 (Or.inl rfl) Xr.1 P1 ?_
              rw [if_pos rfl]
              unfold mGrant
              rw [if_neg n33, if_neg (fun z => z.2.elim (fun y => absurd (e33.symm.trans y) (by decide)) (fun y => y (hh.mp q5)))]
              exact H_24 I0 C0 hv0 (Or.inl ho0) (bw.of (by decide) (by decide))
            · rw [bI_t q5, if_neg q5]
              refine tail _ 1 (Or.inr rfl) Xr.1 (P1.si (cCl_lo (k := 100) Xr.2.2.2.2.2.2.2.1.2.2.2.2.2.2.2.2.2.1 (by decide) (by unfold cSz; omega))) ?_
              rw [if_neg (by decide)]
              have eg : mGrant S0 t (1 - t / 320) (6 * (1 - t / 320) + d) p ot n cs = mset (mset S0 24 t (nI 1)) 4 (6 * (1 - t / 320) + ot) (nI 0) := by
                unfold mGrant
                rw [if_neg n33, if_pos ⟨q4, Or.inr (fun y => q5 (hh.mpr y))⟩]
                unfold mGr1
                rw [if_pos e33]
              rw [eg] at I1 ⊢
              exact H_rem I0 C0 hv0 ho0 he hot6 hno2 I1
          · rw [m3, y] at Xr
            have e33 : S0 33 p = nI 2 := by rw [h33', m3, y]
            have bb : ∀ i, i < n → b8 (ix_i h1 (cBr x (1 - t / 320) d) i) := fun i hi => by
              have := (C0.fl he hd6).2.1 i (by omega)
              rw [ix_i_si, if_neg (by have := rc.1; unfold cBr; omega)] at this
              exact this
            refine ie_callVx [] d83_76 ok86 rm83_86 cl13_147 rfl rfl (Nat.le_of_ble_eq_true rfl) (Nat.le_of_ble_eq_true rfl) Xr.1 (s86_c Xr E2 sz1 hn64 bb) ?_
            refine tail _ 1 (Or.inr rfl) Xr.1 (P1.rp (Xr.2.2.2.2.2.2.2.1.2.2.2.2.2.2.2.2.2.2.2 ot hot6).2.1 Xr.2.2.2.2.2.2.2.1.2.2.2.2.2.2.2.2.2.1 he) ?_
            rw [if_neg (by decide)]
            have eg : mGrant S0 t (1 - t / 320) (6 * (1 - t / 320) + d) p ot n cs = mCpy (mset (mset (mset S0 24 t (nI 1)) 4 (6 * (1 - t / 320) + ot) (nI 1)) 5 (6 * (1 - t / 320) + ot) (nI n)) (6 * (1 - t / 320) + ot) (6 * (1 - t / 320) + d) n := by
              unfold mGrant
              rw [if_neg n33, if_pos ⟨q4, Or.inl e33⟩]
              unfold mGr1
              rw [if_neg (by rw [e33]; decide)]
            rw [eg] at I1 ⊢
            exact H_copy I0 C0 hv0 ho0 he hd6 hot6 hn64 s4 s5 hno2 I1
  · refine ie_iconst (nI 3) d83_18 (by decide) ?_
    refine ie_iret d83_19 rfl rfl ⟨nI 3, S, rfl, bw.of (by decide) (by decide), fun y => ?_, I, fun _ _ => rfl, C, P0⟩
    unfold mCpl
    rw [if_neg q1]
