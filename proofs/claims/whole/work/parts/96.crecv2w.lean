theorem mSend_cg {S S' : MS} {u k : Nat} {kind to t a b c : Int32} (h : S' k = S k) : mSend S' u kind to t a b c k = mSend S u kind to t a b c k := by
  funext j
  unfold mSend
  split
  · rw [h]
  · unfold mset mRow
    rw [h]
/-- a receiver's cell alone differs -/
theorem rSh_sw {h h' : ix_H} {x r tx : Nat} (X : rSh h x r tx) (a : sw r h h') (ht : ix_tg h' r = ix_tg h r) (hr : ∀ j, ix_r h' r j = ix_r h r j) : rSh h' x r tx := by
  obtain ⟨L, a1, a2, a4, a5, a6, a7, a8, a9⟩ := X
  have st : tx ≠ r := fun z => by rw [z, a1] at a5; exact absurd a5 (by decide)
  exact ⟨lkS_c L (a.1 _ (by unfold cLk; omega)) (a.1 _ (by unfold cRo; omega)) (by rw [a.2]; exact Nat.le_refl _), by rw [ht]; exact a1, by rw [hr]; exact a2, by rw [hr]; exact a4, by rw [(a.1 _ st).1]; exact a5, a6, by rw [a.2]; exact a7, by rw [a.2]; exact a8, a9⟩
theorem kpR.of {h h1 : ix_H} {r : Nat} (c : ceq h h1 r) (c2 : ceq h h1 (r + 1)) : kpR h h1 r := ⟨c.1, c.2.2.2, c.2.2.1 3, c.2.2.1 13, c2⟩
theorem kpR.si {h h1 : ix_H} {r k : Nat} {v : Int32} (q : kpR h h1 r) (hk : k ≠ 3 ∧ k ≠ 13) : kpR h (ix_si h1 r k v) r := ⟨q.1, q.2.1, by rw [ix_i_si, if_neg (fun z => hk.1 z.2.symm)]; exact q.2.2.1, by rw [ix_i_si, if_neg (fun z => hk.2 z.2.symm)]; exact q.2.2.2.1, q.2.2.2.2.tr ((sw.rfl.si).1 _ (by omega))⟩
theorem kpR.tr {h h1 h2 : ix_H} {r : Nat} (q : kpR h h1 r) (c : ceq h1 h2 r) (c2 : ceq h1 h2 (r + 1)) : kpR h h2 r := ⟨c.1.trans q.1, fun j => (c.2.2.2 j).trans (q.2.1 j), (c.2.2.1 3).trans q.2.2.1, (c.2.2.1 13).trans q.2.2.2.1, q.2.2.2.2.tr c2⟩
/-- FINISHED, the first one: the state behind it -/
theorem R_fin2 {h h2 h' : ix_H} {x : Nat} {S : MS} {T A R U D : Nat → Nat} {Lo Lr : Nat → List Nat} {u t p : Nat} {v : Int32} (I : mInv S) (C : cRel h x S T A R U D Lo Lr) (hv : vT S t) (ho : opR S t) (hp : p = sP S t) (hv4 : bw v 1 4) (hu : S 44 0 = nI u) (hu24 : u ≤ 24) (a2 : sw (R t) h h2) (a3 : sw (R t) (hOut x h2 (T t) (nI 4) (nI (t / 320)) v 0 0) h') (hk : kpR h h' (R t)) (i12 : ix_i h' (R t) 12 = 0) (i11 : ix_i h' (R t) 11 = v) (i9 : ix_i h' (R t) 9 = S 2 0) (i10 : ix_i h' (R t) 10 = 1) : ∃ U', cRel h' x (mFin2 S u t p v) T A R U' D Lo Lr := by
  have e26 : mset (mset (mset S 26 p v) 23 t (nI 6)) 29 p (nI 0) 26 p = v := by rw [mset_k (by decide), mset_k (by decide), mset_s]
  have L3 : ∀ k, k ∉ [23, 26, 29] → mset (mset (mset S 26 p v) 23 t (nI 6)) 29 p (nI 0) k = S k := fun k hk => by rw [mset_kk (fun z => hk (by rw [z]; decide)), mset_kk (fun z => hk (by rw [z]; decide)), mset_kk (fun z => hk (by rw [z]; decide))]
  have eF : mFin2 S u t p v = mset (mset (mSend (mset (mset (mset S 26 p v) 23 t (nI 6)) 29 p (nI 0)) u (nI 4) (nI (t / 320)) (nI t) v (nI 0) (nI 0)) 29 p (nI 0 + nI 1)) 30 p (S 2 0) := by
    unfold mFin2 mTell
    rw [e26, mset_s, L3 2 (by decide)]
  rw [eF]
  refine R_fin (S0 := S) (tr := 1) I C hv ho hp hv4 hu hu24 ?_ ?_ ?_ ?_ (fun k hk => ?_) (fun j hj => ?_) (fun k hk j hj => ?_) a2 a3 hk i12 i11 i9 i10
  · rw [mset_k (by decide), mset_k (by decide), mSend_o (by decide) (by decide), e26]
  · rw [mset_k (by decide), mset_k (by decide), mSend_o (by decide) (by decide), mset_k (by decide), mset_s]
  · rw [mset_k (by decide), mset_s]; decide
  · rw [mset_s]
  · rw [mset_kk (fun z => hk (by rw [z]; decide)), mset_kk (fun z => hk (by rw [z]; decide))]
    exact mSend_cg (L3 k (fun z => hk (by revert z; simp only [List.mem_cons, List.not_mem_nil, or_false]; omega)))
  · rw [mset_k (by decide), mset_k (by decide), mSend_o (by decide) (by decide), mset_k (by decide), mset_j rfl hj, mset_k (by decide)]
  · have e : ∀ (S : MS) (kk : Nat) (w : Int32), kk ∈ [26, 29, 30] → mset S kk p w k j = S k j := fun S kk w hkk => by
      by_cases y : k = kk
      · subst y; exact mset_j ((by decide : ∀ z ∈ [26, 29, 30], mIs z = true) k hkk) hj
      · exact mset_k y
    have n44 := (by decide : ∀ k ∈ [26, 29, 30], k ≠ 45 ∧ k ≠ 44 ∧ k ≠ 23) k hk
    rw [e _ 30 _ (by decide), e _ 29 _ (by decide), mSend_o n44.1 n44.2.1, e _ 29 _ (by decide), mset_k n44.2.2, e _ 26 _ (by decide)]
/-- FINISHED again -/
theorem R_tell {h h2 h' : ix_H} {x : Nat} {S : MS} {T A R U D : Nat → Nat} {Lo Lr : Nat → List Nat} {u t p : Nat} (I : mInv S) (C : cRel h x S T A R U D Lo Lr) (hv : vT S t) (h6 : S 23 t = nI 6) (hp : p = sP S t) (hu : S 44 0 = nI u) (hu24 : u ≤ 24) (a2 : sw (R t) h h2) (a3 : sw (R t) (hOut x h2 (T t) (nI 4) (nI (t / 320)) (S 26 p) 0 0) h') (hk : kpR h h' (R t)) (i12 : ix_i h' (R t) 12 = 0) (i11 : ix_i h' (R t) 11 = S 26 p) (i9 : ix_i h' (R t) 9 = S 2 0) (i10 : ix_i h' (R t) 10 = S 29 p + 1) : ∃ U', cRel h' x (mTell S u t p) T A R U' D Lo Lr := by
  have ho : opR S t := Or.inr h6
  have hv4 : bw (S 26 p) 1 4 := by rw [hp]; exact ((I.R hv).2.2 ho).2.2.2.2.2.2.2.2.2.2.1 h6
  unfold mTell
  refine R_fin (S0 := S) (tr := S 29 p + 1) I C hv ho hp hv4 hu hu24 ?_ ?_ ?_ ?_ (fun k hk => ?_) (fun j hj => ?_) (fun k hk j hj => ?_) a2 a3 hk i12 i11 i9 i10
  · rw [mset_k (by decide), mset_k (by decide), mSend_o (by decide) (by decide)]
  · rw [mset_k (by decide), mset_k (by decide), mSend_o (by decide) (by decide)]; exact h6
  · rw [mset_k (by decide), mset_s]; rfl
  · rw [mset_s]
  · rw [mset_kk (fun z => hk (by rw [z]; decide)), mset_kk (fun z => hk (by rw [z]; decide))]
  · rw [mset_k (by decide), mset_k (by decide), mSend_o (by decide) (by decide)]
  · have e : ∀ (S : MS) (kk : Nat) (w : Int32), kk ∈ [26, 29, 30] → mset S kk p w k j = S k j := fun S kk w hkk => by
      by_cases y : k = kk
      · subst y; exact mset_j ((by decide : ∀ z ∈ [26, 29, 30], mIs z = true) k hkk) hj
      · exact mset_k y
    have n44 := (by decide : ∀ k ∈ [26, 29, 30], k ≠ 45 ∧ k ≠ 44 ∧ k ≠ 23) k hk
    rw [e _ 30 _ (by decide), e _ 29 _ (by decide), mSend_o n44.1 n44.2.1]
set_option maxRecDepth 100000 in
set_option maxHeartbeats 4000000 in
/-- Receiver.end; hb is the heap that stands beside S (the receiver's own cell may differ from it) -/
theorem s56 {G : ix_G} {h : ix_H} {x : Nat} {S : MS} {T A R U D : Nat → Nat} {Lo Lr : Nat → List Nat} {u t p k0 c : Nat} {hb : ix_H} {v : Int32} (I : mInv S) (C : cRel hb x S T A R U D Lo Lr) (a0 : sw (R t) hb h) (hk : kpR hb h (R t)) (i12 : ix_i h (R t) 12 = 0) (hv : vT S t) (ho : opR S t) (hp : p = sP S t) (hv4 : bw v 1 4) (hu : S 44 0 = nI u) (hu24 : u ≤ 24) (hH : mHas 41 43 S (1 - t / 320) k0 c t) : ix_E G 56 0 (lv_args 0 [.ref (R t), .int v, .int (S 2 0)]) [] h (fun r h' => r = none ∧ cPo x h h' 1 6 ∧ (S 8 t = 1 → ∀ S0 : MS, (∀ k, k ≠ 26 → S0 k = S k) → (∀ j, j ≠ p → S0 26 j = S 26 j) → cRel h' x (mShut S0 t v p k0 c) T A R U D Lo Lr) ∧ (¬ S 8 t = 1 → ∃ U', cRel h' x (mFin2 S u t p v) T A R U' D Lo Lr)) := by
  have X := rSh_sw (C.rsh I hv ho) a0 hk.1 hk.2.1
  obtain ⟨L, a1, a2, a4, a5, a6, a7, a8, a9⟩ := id X
  have stx : T t ≠ R t := fun z => by rw [z, a1] at a5; exact absurd a5 (by decide)
  have s1 : R t ≠ cLk x := by unfold cLk; omega
  have s2 : R t ≠ cRo x := by unfold cRo; omega
  have c1 := (C.tx hv).1
  have cR : cCl h x (R t) := cCl_of a1 (by decide)
  have e8 : ∀ w, ix_i (ix_si h (R t) 11 w) (T t) 4 = S 8 t := fun w => by rw [ix_i_si, if_neg (fun z => stx z.1), (a0.1 _ stx).2.2.1]; exact c1.2.2.2.2.2.2.1
  have b8k := (I.T hv).1
  refine ie_aload_n d56_0 rfl ?_
  refine ie_iload_n d56_1 rfl ?_
  refine ie_puti (k := 2) d56_2 fl13_34 (Or.inl rfl) a1 rfl rfl ?_
  refine ie_aload_n d56_5 rfl ?_
  refine ie_getr (T t) d56_6 fl13_19 a1 a2 ?_
  refine ie_callVx [] d56_9 ok45 rm56_45 cl13_52 rfl rfl (Nat.le_of_ble_eq_true rfl) (Nat.le_of_ble_eq_true rfl) a5 (s45 a5) ?_
  rw [e8]
  refine ie_if_eq 28 d56_12 (by decide) (fun c12 => ?_) (fun c12 => ?_)
  · have k1 : S 8 t = 1 := by
      obtain ⟨q, q1, q2, q3⟩ := b8k
      have : q ≠ 2 := fun z => (bI_0.mp c12) (by rw [q3, z]; rfl)
      rw [q3, show q = 1 from by omega]; rfl
    refine ie_aload_n d56_28 rfl ?_
    refine ie_iconst 1 d56_29 (by decide) ?_
    refine ie_puti (k := 2) d56_30 fl13_37 (Or.inl rfl) a1 (by decide) (by decide) ?_
    refine ie_vret d56_33 rfl ⟨rfl, ((cPo.rfl.si cR).si cR).m (by omega) (by omega), fun _ S0 z0 z1 => ?_, fun z => absurd k1 z⟩
    exact R_shut I C hv ho hp hv4 hH z0 z1 ((a0.si).si) ((hk.si (by decide)).si (by decide)) (by rw [ix_i_si, if_pos ⟨rfl, rfl⟩]) (by rw [ix_i_si, if_neg (fun z => absurd z.2 (by decide)), ix_i_si, if_pos ⟨rfl, rfl⟩])
  · have k2 : ¬ S 8 t = 1 := fun z => by
      rw [z] at c12
      exact c12 (bI_0.mpr (by decide))
    refine ie_aload_n d56_15 rfl ?_
    refine ie_iconst 0 d56_16 (by decide) ?_
    refine ie_puti (k := 2) d56_17 fl13_57 (Or.inl rfl) a1 rfl rfl ?_
    refine ie_aload_n d56_20 rfl ?_
    refine ie_iload_n d56_21 rfl ?_
    have X2 : rSh (ix_si (ix_si h (R t) 11 v) (R t) 10 0) x (R t) (T t) := rSh_si (rSh_si X)
    refine ie_callVx [_] d56_22 ok51 rm56_51 cl13_67 rfl rfl (Nat.le_of_ble_eq_true rfl) (Nat.le_of_ble_eq_true rfl) a1 (s51 X2) ?_
    have e0 : ix_i (ix_si (ix_si h (R t) 11 v) (R t) 10 0) (T t) 0 = nI (t / 320) := by rw [ix_i_si, if_neg (fun z => stx z.1), ix_i_si, if_neg (fun z => stx z.1), (a0.1 _ stx).2.2.1]; exact c1.2.2.1
    have e11 : ix_i (ix_si (ix_si h (R t) 11 v) (R t) 10 0) (R t) 11 = v := by rw [ix_i_si, if_neg (fun z => absurd z.2 (by decide)), ix_i_si, if_pos ⟨rfl, rfl⟩]
    have e10 : ix_i (ix_si (ix_si h (R t) 11 v) (R t) 10 0) (R t) 10 = 0 := by rw [ix_i_si, if_pos ⟨rfl, rfl⟩]
    rw [e0, e11, e10]
    generalize hh2 : ix_si (ix_si (ix_si (ix_si h (R t) 11 v) (R t) 10 0) (R t) 10 (0 + 1)) (R t) 9 (S 2 0) = h2
    have b2 : sw (R t) hb h2 := by rw [← hh2]; exact (((a0.si).si).si).si
    have q2 : kpR hb h2 (R t) := by rw [← hh2]; exact ((((hk.si (by decide)).si (by decide)).si (by decide)).si (by decide))
    have p2 : cPo x h h2 0 0 := by rw [← hh2]; exact ((((cPo.rfl.si cR).si cR).si cR).si cR)
    have L2 : lkS h2 x := lkS_c (C.lk I) (b2.1 _ (Ne.symm s1)) (b2.1 _ (Ne.symm s2)) (by rw [b2.2]; exact Nat.le_refl _)
    have n2 : R t + 1 < ix_nx h2 := by rw [b2.2]; exact C.lt (by rw [(C.rv hv ho).2.2.2.2.2.2.2.1]; decide)
    have cO : ceq h2 (hOut x h2 (T t) (nI 4) (nI (t / 320)) v 0 0) (R t) := hOut_s s1 s2 (by omega)
    have cO1 : ceq h2 (hOut x h2 (T t) (nI 4) (nI (t / 320)) v 0 0) (R t + 1) := hOut_s (by unfold cLk; omega) (by unfold cRo; omega) n2
    have pO := p2.out (tx := T t) (w := nI 4) (to := nI (t / 320)) (d := v) (l := 0) (c := 0) L2.1 L2.2.2.1 L2.2.2.2.2.2
    refine ie_goto 33 d56_25 (by decide) ?_
    refine ie_vret d56_33 rfl ⟨rfl, pO, fun z => absurd z k2, fun _ => ?_⟩
    refine R_fin2 I C hv ho hp hv4 hu hu24 b2 sw.rfl (q2.tr cO cO1) ?_ ?_ ?_ ?_
    · rw [cO.2.2.1, ← hh2, ix_i_si, if_neg (fun z => absurd z.2 (by decide)), ix_i_si, if_neg (fun z => absurd z.2 (by decide)), ix_i_si, if_neg (fun z => absurd z.2 (by decide)), ix_i_si, if_neg (fun z => absurd z.2 (by decide))]; exact i12
    · rw [cO.2.2.1, ← hh2, ix_i_si, if_neg (fun z => absurd z.2 (by decide)), ix_i_si, if_neg (fun z => absurd z.2 (by decide)), ix_i_si, if_neg (fun z => absurd z.2 (by decide)), ix_i_si, if_pos ⟨rfl, rfl⟩]
    · rw [cO.2.2.1, ← hh2, ix_i_si, if_pos ⟨rfl, rfl⟩]
    · rw [cO.2.2.1, ← hh2, ix_i_si, if_neg (fun z => absurd z.2 (by decide)), ix_i_si, if_pos ⟨rfl, rfl⟩]; decide
set_option maxRecDepth 100000 in
set_option maxHeartbeats 4000000 in
/-- Receiver.awaitAckOfFinished -/
theorem s50 {G : ix_G} {h : ix_H} {x : Nat} {S : MS} {T A R U D : Nat → Nat} {Lo Lr : Nat → List Nat} {u t p k0 c : Nat} (I : mInv S) (C : cRel h x S T A R U D Lo Lr) (hv : vT S t) (h6 : S 23 t = nI 6) (hp : p = sP S t) (hu : S 44 0 = nI u) (hu24 : u ≤ 24) (hH : mHas 41 43 S (1 - t / 320) k0 c t) : ix_E G 50 0 (lv_args 0 [.ref (R t), .int (S 2 0 - S 30 p), .int (S 2 0)]) [] h (fun r h' => r = none ∧ cPo x h h' 1 6 ∧ ∃ U', cRel h' x (if S 0 0 ≤ S 2 0 - S 30 p then (if S 29 p = nI 3 then mShut S t (S 26 p) p k0 c else mTell S u t p) else S) T A R U' D Lo Lr) := by
  have ho : opR S t := Or.inr h6
  have X := C.rsh I hv ho
  obtain ⟨L, a1, a2, a4, a5, a6, a7, a8, a9⟩ := id X
  have cv := C.rv hv ho
  have c6 := cv.2.2.2.2.2.2.2.2.2.2.2.2.2.1 h6
  rw [← hp] at c6
  have c12 := cv.2.2.2.2.2.2.2.2.2.2.2.2.1 ho
  have c3 := cv.2.2.2.2.2.1
  have RP := (I.R hv).2.2 ho
  rw [← hp] at RP
  have cR : cCl h x (R t) := cCl_of a1 (by decide)
  have stx : T t ≠ R t := fun z => by rw [z, a1] at a5; exact absurd a5 (by decide)
  have s1 : R t ≠ cLk x := by unfold cLk; omega
  have s2 : R t ≠ cRo x := by unfold cRo; omega
  have c1 := (C.tx hv).1
  refine ie_iload_n d50_0 rfl ?_
  refine ie_aload_n d50_1 rfl ?_
  refine ie_geti (k := 2) d50_2 fl13_31 a1 ?_
  rw [c3]
  refine ie_icmp_ge 9 d50_5 (by decide) (fun c5 => ?_) (fun c5 => ?_)
  · rw [if_pos c5]
    refine ie_aload_n d50_9 rfl ?_
    refine ie_geti (k := 2) d50_10 fl13_57 a1 ?_
    rw [c6.2.2]
    refine ie_iconst (nI 3) d50_13 (by decide) ?_
    refine ie_icmp_ge 25 d50_14 (by decide) (fun c14 => ?_) (fun c14 => ?_)
    · have e3 : S 29 p = nI 3 := by
        obtain ⟨q, q1, q2, q3⟩ := RP.2.2.2.2.2.2.1
        rw [q3, nI_leI (by omega) (by omega)] at c14
        rw [q3, show q = 3 from by omega]
      rw [if_pos e3]
      refine ie_aload_n d50_25 rfl ?_
      refine ie_iconst 1 d50_26 (by decide) ?_
      refine ie_puti (k := 2) d50_27 fl13_37 (Or.inl rfl) a1 (by decide) (by decide) ?_
      refine ie_vret d50_30 rfl ⟨rfl, (cPo.rfl.si cR).m (by omega) (by omega), U, ?_⟩
      exact R_shut I C hv ho hp (RP.2.2.2.2.2.2.2.2.2.2.1 h6) hH (fun _ _ => rfl) (fun _ _ => rfl) sw.rfl.si ((kpR.of ceq.rfl ceq.rfl).si (by decide)) (by rw [ix_i_si, if_pos ⟨rfl, rfl⟩]) (by rw [ix_i_si, if_neg (fun z => absurd z.2 (by decide))]; exact c6.1)
    · have e3 : ¬ S 29 p = nI 3 := fun z => c14 (by rw [z]; exact Int32.le_refl _)
      rw [if_neg e3]
      refine ie_aload_n d50_17 rfl ?_
      refine ie_iload_n d50_18 rfl ?_
      refine ie_callVx [_] d50_19 ok51 rm50_51 cl13_67 rfl rfl (Nat.le_of_ble_eq_true rfl) (Nat.le_of_ble_eq_true rfl) a1 (s51 X) ?_
      rw [c1.2.2.1, c6.1, c6.2.2]
      generalize hh2 : ix_si (ix_si h (R t) 10 (S 29 p + 1)) (R t) 9 (S 2 0) = h2
      have b2 : sw (R t) h h2 := by rw [← hh2]; exact sw.rfl.si.si
      have q2 : kpR h h2 (R t) := by rw [← hh2]; exact ((kpR.of ceq.rfl ceq.rfl).si (by decide)).si (by decide)
      have p2 : cPo x h h2 0 0 := by rw [← hh2]; exact (cPo.rfl.si cR).si cR
      have L2 : lkS h2 x := lkS_c L (b2.1 _ (Ne.symm s1)) (b2.1 _ (Ne.symm s2)) (by rw [b2.2]; exact Nat.le_refl _)
      have n2 : R t + 1 < ix_nx h2 := by rw [b2.2]; exact C.lt (by rw [cv.2.2.2.2.2.2.2.1]; decide)
      have cO : ceq h2 (hOut x h2 (T t) (nI 4) (nI (t / 320)) (S 26 p) 0 0) (R t) := hOut_s s1 s2 (by omega)
      have cO1 : ceq h2 (hOut x h2 (T t) (nI 4) (nI (t / 320)) (S 26 p) 0 0) (R t + 1) := hOut_s (by unfold cLk; omega) (by unfold cRo; omega) n2
      have pO := p2.out (tx := T t) (w := nI 4) (to := nI (t / 320)) (d := S 26 p) (l := 0) (c := 0) L2.1 L2.2.2.1 L2.2.2.2.2.2
      refine ie_goto 30 d50_22 (by decide) ?_
      refine ie_vret d50_30 rfl ⟨rfl, pO, ?_⟩
      refine R_tell I C hv h6 hp hu hu24 b2 sw.rfl (q2.tr cO cO1) ?_ ?_ ?_ ?_
      · rw [cO.2.2.1, ← hh2, ix_i_si, if_neg (fun z => absurd z.2 (by decide)), ix_i_si, if_neg (fun z => absurd z.2 (by decide))]; exact c12
      · rw [cO.2.2.1, ← hh2, ix_i_si, if_neg (fun z => absurd z.2 (by decide)), ix_i_si, if_neg (fun z => absurd z.2 (by decide))]; exact c6.1
      · rw [cO.2.2.1, ← hh2, ix_i_si, if_pos ⟨rfl, rfl⟩]
      · rw [cO.2.2.1, ← hh2, ix_i_si, if_neg (fun z => absurd z.2 (by decide)), ix_i_si, if_pos ⟨rfl, rfl⟩]
  · rw [if_neg c5]
    exact ie_vret d50_8 rfl ⟨rfl, cPo.rfl.m (by omega) (by omega), U, C⟩
set_option maxRecDepth 100000 in
set_option maxHeartbeats 4000000 in
/-- Receiver.passTick -/
theorem s48 {G : ix_G} {h : ix_H} {x : Nat} {S : MS} {T A R U D : Nat → Nat} {Lo Lr : Nat → List Nat} {t : Nat} (I : mInv S) (C : cRel h x S T A R U D Lo Lr) (hv : vT S t) (ho : opR S t) : ix_E G 48 0 (lv_args 0 [.ref (R t), .int (S 2 0)]) [] h (fun r h' => r = none ∧ cPo x h h' 1 6 ∧ ∃ U', cRel h' x (fA S t) T A R U' D Lo Lr) := by
  have X := C.rsh I hv ho
  obtain ⟨L, a1, a2, a4, a5, a6, a7, a8, a9⟩ := id X
  have cv := C.rv hv ho
  have c12 := cv.2.2.2.2.2.2.2.2.2.2.2.2.1 ho
  have c3 := cv.2.2.2.2.2.1
  have RP := (I.R hv).2.2 ho
  have SPp := I.sp hv ho
  have hH := I.hasR hv ho
  have c1 := (C.tx hv).1
  have cR : cCl h x (R t) := cCl_of a1 (by decide)
  have gu := I.gu
  have c6' := cv.2.2.2.2.2.2.2.2.2.2.2.2.2.1
  have c5' := cv.2.2.2.2.2.2.2.2.2.2.2.2.2.2
  have stx : T t ≠ R t := fun z => by rw [z, a1] at a5; exact absurd a5 (by decide)
  have s1 : R t ≠ cLk x := by unfold cLk; omega
  have s2 : R t ≠ cRo x := by unfold cRo; omega
  unfold fA
  generalize hpp : sP S t = p at *
  generalize gU S = u at *
  generalize kP 41 S (1 - t / 320) t = k0 at *
  generalize cP 43 S (1 - t / 320) = c at *
  generalize nP S p = n at *
  unfold mAtt
  refine ie_aload_n d48_0 rfl ?_
  refine ie_geti (k := 2) d48_1 fl13_37 a1 ?_
  rw [c12]
  refine ie_if_eq 8 d48_4 (by decide) (fun _ => ?_) (fun z => absurd rfl z)
  refine ie_iload_n d48_8 rfl ?_
  refine ie_aload_n d48_9 rfl ?_
  refine ie_geti (k := 2) d48_10 fl13_41 a1 ?_
  refine ie_isub d48_13 ?_
  refine ie_istore_n d48_14 (by decide) ?_
  refine ie_aload_n d48_15 rfl ?_
  refine ie_callVx [] d48_16 ok49 rm48_49 cl13_44 rfl rfl (Nat.le_of_ble_eq_true rfl) (Nat.le_of_ble_eq_true rfl) a1 (s49 a1) ?_
  by_cases h6 : S 23 t = nI 6
  · obtain ⟨e11, e9, e10⟩ := c6' h6
    have n0 : ¬ ix_i h (R t) 11 = 0 := by
      obtain ⟨q, q1, q2, q3⟩ := RP.2.2.2.2.2.2.2.2.2.2.1 h6
      rw [e11, q3]; exact nI_ne0 (by omega) (by omega)
    refine ie_if_eq 31 d48_19 (by decide) (fun z => absurd n0 (bI_0.mp z)) (fun _ => ?_)
    rw [if_pos h6, e9]
    refine ie_aload_n d48_22 rfl ?_
    refine ie_iload_n d48_23 rfl ?_
    refine ie_iload_n d48_24 rfl ?_
    refine ie_callV [_, _] d48_25 ok50 rm48_50 cl13_48 rfl rfl (Nat.le_of_ble_eq_true rfl) (Nat.le_of_ble_eq_true rfl) a1 (s50 I C hv h6 hpp.symm gu.1 gu.2 hH) (fun rv h2 hq => ?_)
    obtain ⟨e1, p1, C2⟩ := hq
    subst e1
    refine ie_goto 121 d48_28 (by decide) ?_
    exact ie_vret d48_121 rfl ⟨rfl, p1, C2⟩
  · have h5 : S 23 t = nI 5 := ho.elim id (fun z => absurd z h6)
    obtain ⟨o1, o2, o3, o4, o5, o6, o7, o8⟩ := c5' h5
    refine ie_if_eq 31 d48_19 (by decide) (fun _ => ?_) (fun z => absurd (bI_0.mpr (fun y => y o1)) z)
    rw [if_neg h6]
    refine ie_aload_n d48_31 rfl ?_
    refine ie_geti (k := 2) d48_32 fl13_15 a1 ?_
    rw [o4]
    refine ie_iconst (-1) d48_35 (by decide) ?_
    by_cases h37 : S 37 p = 0
    · rw [if_pos h37] at o6 ⊢
      rw [if_pos h37]
      refine ie_icmp_ne 62 d48_36 (by decide) (fun z => absurd rfl z) (fun _ => ?_)
      rw [o6]
      refine ie_iload_n d48_39 rfl ?_
      refine ie_iconst (nI 4) d48_40 (by decide) ?_
      refine ie_aload_n d48_41 rfl ?_
      refine ie_geti (k := 2) d48_42 fl13_31 a1 ?_
      rw [c3]
      refine ie_imul d48_45 ?_
      refine ie_icmp_lt 121 d48_46 (by decide) (fun c46 => ?_) (fun c46 => ?_)
      · rw [if_pos c46]
        exact ie_vret d48_121 rfl ⟨rfl, cPo.rfl.m (by omega) (by omega), U, C⟩
      · rw [if_neg c46]
        refine ie_aload_n d48_49 rfl ?_
        refine ie_iconst (nI 3) d48_50 (by decide) ?_
        refine ie_puti (k := 2) d48_51 fl13_34 (Or.inl rfl) a1 rfl rfl ?_
        refine ie_aload_n d48_54 rfl ?_
        refine ie_iconst 1 d48_55 (by decide) ?_
        refine ie_puti (k := 2) d48_56 fl13_37 (Or.inl rfl) a1 (by decide) (by decide) ?_
        refine ie_goto 121 d48_59 (by decide) ?_
        refine ie_vret d48_121 rfl ⟨rfl, ((cPo.rfl.si cR).si cR).m (by omega) (by omega), U, ?_⟩
        exact R_shut I C hv ho hpp.symm (bw.of (by decide) (by decide)) hH (fun _ _ => rfl) (fun _ _ => rfl) sw.rfl.si.si (((kpR.of ceq.rfl ceq.rfl).si (by decide)).si (by decide)) (by rw [ix_i_si, if_pos ⟨rfl, rfl⟩]) (by rw [ix_i_si, if_neg (fun z => absurd z.2 (by decide)), ix_i_si, if_pos ⟨rfl, rfl⟩])
    · rw [if_neg h37] at o6 ⊢
      rw [if_neg h37]
      have e27 := SPp.2.2.1 h37
      have e7 : ix_i h (R t) 7 = nI n := by rw [o4, if_neg h37]; exact e27
      have hn64 := SPp.2.2.2
      rw [e27]
      refine ie_icmp_ne 62 d48_36 (by decide) (fun _ => ?_) (fun z => absurd z (nI_m1 (by omega)))
      rw [o6]
      refine ie_iload_n d48_62 rfl ?_
      refine ie_aload_n d48_63 rfl ?_
      refine ie_getr (T t) d48_64 fl13_19 a1 a2 ?_
      refine ie_callVx [] d48_67 ok45 rm48_45 cl13_52 rfl rfl (Nat.le_of_ble_eq_true rfl) (Nat.le_of_ble_eq_true rfl) a5 (s45 a5) ?_
      rw [c1.2.2.2.2.2.2.1]
      by_cases k1 : S 8 t = 1
      · rw [if_pos (show S 8 t = nI 1 from k1)]
        refine ie_if_eq 80 d48_70 (by decide) (fun _ => ?_) (fun z => absurd (bI_0.mpr (by rw [k1]; decide)) z)
        refine ie_iconst (nI 2) d48_80 (by decide) ?_
        refine ie_aload_n d48_81 rfl ?_
        refine ie_geti (k := 2) d48_82 fl13_31 a1 ?_
        rw [c3]
        refine ie_imul d48_85 ?_
        refine ie_icmp_lt 121 d48_86 (by decide) (fun c86 => ?_) (fun c86 => ?_)
        · rw [if_pos c86]
          exact ie_vret d48_121 rfl ⟨rfl, cPo.rfl.m (by omega) (by omega), U, C⟩
        · rw [if_neg c86]
          refine ie_aload_n d48_89 rfl ?_
          refine ie_getr (T t) d48_90 fl13_19 a1 a2 ?_
          refine ie_callVx [] d48_93 ok45 rm48_45 cl13_52 rfl rfl (Nat.le_of_ble_eq_true rfl) (Nat.le_of_ble_eq_true rfl) a5 (s45 a5) ?_
          rw [c1.2.2.2.2.2.2.1]
          refine ie_if_eq 115 d48_96 (by decide) (fun _ => ?_) (fun z => absurd (bI_0.mpr (by rw [k1]; decide)) z)
          refine ie_aload_n d48_115 rfl ?_
          refine ie_iconst (nI 3) d48_116 (by decide) ?_
          refine ie_iload_n d48_117 rfl ?_
          refine ie_callV [_, _] d48_118 ok56 rm48_56 cl13_64 rfl rfl (Nat.le_of_ble_eq_true rfl) (Nat.le_of_ble_eq_true rfl) a1 (s56 (v := nI 3) I C sw.rfl (kpR.of ceq.rfl ceq.rfl) c12 hv ho hpp.symm (bw.of (by decide) (by decide)) gu.1 gu.2 hH) (fun rv h2 hq => ?_)
          obtain ⟨e1, p1, C2, -⟩ := hq
          subst e1
          exact ie_vret d48_121 rfl ⟨rfl, p1, U, C2 k1 S (fun _ _ => rfl) (fun _ _ => rfl)⟩
      · have k2 : S 8 t = 2 := by
          obtain ⟨q, q1, q2, q3⟩ := (I.T hv).1
          have : q ≠ 1 := fun z => k1 (by rw [q3, z]; rfl)
          rw [q3, show q = 2 from by omega]; rfl
        rw [if_neg (show ¬ S 8 t = nI 1 from k1)]
        refine ie_if_eq 80 d48_70 (by decide) (fun z => absurd k2 (bI_0.mp z)) (fun _ => ?_)
        refine ie_aload_n d48_73 rfl ?_
        refine ie_geti (k := 2) d48_74 fl13_31 a1 ?_
        rw [c3]
        refine ie_goto 86 d48_77 (by decide) ?_
        refine ie_icmp_lt 121 d48_86 (by decide) (fun c86 => ?_) (fun c86 => ?_)
        · rw [if_pos c86]
          exact ie_vret d48_121 rfl ⟨rfl, cPo.rfl.m (by omega) (by omega), U, C⟩
        · rw [if_neg c86]
          refine ie_aload_n d48_89 rfl ?_
          refine ie_getr (T t) d48_90 fl13_19 a1 a2 ?_
          refine ie_callVx [] d48_93 ok45 rm48_45 cl13_52 rfl rfl (Nat.le_of_ble_eq_true rfl) (Nat.le_of_ble_eq_true rfl) a5 (s45 a5) ?_
          rw [c1.2.2.2.2.2.2.1]
          refine ie_if_eq 115 d48_96 (by decide) (fun z => absurd k2 (bI_0.mp z)) (fun _ => ?_)
          refine ie_aload_n d48_99 rfl ?_
          refine ie_geti (k := 2) d48_100 fl13_57 a1 ?_
          rw [o7]
          refine ie_iconst (nI 3) d48_103 (by decide) ?_
          refine ie_icmp_ge 115 d48_104 (by decide) (fun c104 => ?_) (fun c104 => ?_)
          · have e3 : S 29 p = nI 3 := by
              obtain ⟨q, q1, q2, q3⟩ := RP.2.2.2.2.2.2.1
              rw [q3, nI_leI (by omega) (by omega)] at c104
              rw [q3, show q = 3 from by omega]
            rw [if_pos e3]
            refine ie_aload_n d48_115 rfl ?_
            refine ie_iconst (nI 3) d48_116 (by decide) ?_
            refine ie_iload_n d48_117 rfl ?_
            refine ie_callV [_, _] d48_118 ok56 rm48_56 cl13_64 rfl rfl (Nat.le_of_ble_eq_true rfl) (Nat.le_of_ble_eq_true rfl) a1 (s56 (v := nI 3) I C sw.rfl (kpR.of ceq.rfl ceq.rfl) c12 hv ho hpp.symm (bw.of (by decide) (by decide)) gu.1 gu.2 hH) (fun rv h2 hq => ?_)
            obtain ⟨e1, p1, -, C2⟩ := hq
            subst e1
            refine ie_vret d48_121 rfl ⟨rfl, p1, ?_⟩
            unfold mFin
            rw [if_neg (by decide)]
            exact C2 k1
          · have e3 : ¬ S 29 p = nI 3 := fun z => c104 (by rw [z]; exact Int32.le_refl _)
            rw [if_neg e3]
            refine ie_aload_n d48_107 rfl ?_
            refine ie_iload_n d48_108 rfl ?_
            refine ie_callVx [_] d48_109 ok53 rm48_53 cl13_60 rfl rfl (Nat.le_of_ble_eq_true rfl) (Nat.le_of_ble_eq_true rfl) a1 (s53 X e7 hn64) ?_
            have NK := nkL_all (S := S) (p := p) (a := (n + 3) / 4) (m := ((nI 1 <<< (nI ((n + 3) / 4) &&& 31)) - 1) &&& (ix_i h (R t) 6 ^^^ (-1))) (by omega) (fun q hq => by
              rw [miss_b (by omega) hq, o3 q hq]
              constructor
              · rintro ⟨w1, w2⟩
                exact ⟨w1, Classical.byContradiction fun y => w2 ⟨by omega, y⟩⟩
              · rintro ⟨w1, w2⟩
                exact ⟨w1, fun y => y.2 w2⟩)
            rw [c1.2.2.1, NK.1, o2]
            generalize hh2 : ix_si (ix_si h (R t) 10 (ix_i h (R t) 10 + 1)) (R t) 9 (S 2 0) = h2
            have b2 : sw (R t) h h2 := by rw [← hh2]; exact sw.rfl.si.si
            have q2 : kpR h h2 (R t) := by rw [← hh2]; exact ((kpR.of ceq.rfl ceq.rfl).si (by decide)).si (by decide)
            have i2 : iOf h h2 (R t) [(9, S 2 0), (10, ix_i h (R t) 10 + 1)] := by rw [← hh2]; exact ((iOf.nil (fun _ => rfl)).si).si
            have p2 : cPo x h h2 0 0 := by rw [← hh2]; exact (cPo.rfl.si cR).si cR
            have L2 : lkS h2 x := lkS_c L (b2.1 _ (Ne.symm s1)) (b2.1 _ (Ne.symm s2)) (by rw [b2.2]; exact Nat.le_refl _)
            have n2 : R t + 1 < ix_nx h2 := by rw [b2.2]; exact C.lt (by rw [cv.2.2.2.2.2.2.2.1]; decide)
            generalize hnm : (nkL (((nI 1 <<< (nI ((n + 3) / 4) &&& 31)) - 1) &&& (ix_i h (R t) 6 ^^^ (-1))) 17 0 0 0).2 = nm2 at NK
            have cO : ceq h2 (hOut x h2 (T t) (nI 6) (nI (t / 320)) (if S 36 p = 0 then nI (gC S p ((n + 3) / 4)) + nI 8 else nI (gC S p ((n + 3) / 4))) 0 nm2) (R t) := hOut_s s1 s2 (by omega)
            have cO1 : ceq h2 (hOut x h2 (T t) (nI 6) (nI (t / 320)) (if S 36 p = 0 then nI (gC S p ((n + 3) / 4)) + nI 8 else nI (gC S p ((n + 3) / 4))) 0 nm2) (R t + 1) := hOut_s (by unfold cLk; omega) (by unfold cRo; omega) n2
            have pO := p2.out (tx := T t) (w := nI 6) (to := nI (t / 320)) (d := if S 36 p = 0 then nI (gC S p ((n + 3) / 4)) + nI 8 else nI (gC S p ((n + 3) / 4))) (l := 0) (c := nm2) L2.1 L2.2.2.1 L2.2.2.2.2.2
            refine ie_goto 121 d48_112 (by decide) ?_
            refine ie_vret d48_121 rfl ⟨rfl, pO, ?_⟩
            exact R_nak I C hv h5 hpp.symm gu.1 gu.2 hn64 h37 (bw_s RP.2.2.2.2.2.2.1 e3) NK.2 b2 sw.rfl (q2.tr cO cO1) (i2.tr cO.2.2.1)
