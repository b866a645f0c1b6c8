section CR9
variable {h h2 h' : ix_H} {x : Nat} {S : MS} {T A R U D : Nat → Nat} {Lo Lr : Nat → List Nat} {u t f n k0 c st s0 : Nat}
/-- METADATA again -/
theorem W_repM (X : wH S u t f n k0 c st s0) (C : cRel h x S T A R U D Lo Lr) (h15 : ¬ S 15 t = 0) (h16 : rb (S 19 t) 16) (a2 : sw (A t) h h2) (a3 : sw (A t) (hOut x h2 (T t) (nI 1) (nI (1 - t / 320)) (S 10 t) 0 0) h') (hc : kpS h h' (A t)) (hi : iOf h h' (A t) [(9, 0), (14, ix_i h (A t) 12)]) : ∃ U', cRel h' x (mRep (mset S 18 t (S 16 t)) u t f n s0) T A R U' D Lo Lr := by
  have Xb := wH_w (k := 18) (x := S 16 t) X (Or.inr (Or.inr rfl))
  obtain ⟨I, hv, ho, hu, hu24, hf, hn, hn64, hst, hst2, hH, hR⟩ := X
  obtain ⟨o1, o2, o3, o4, o5, o6, o7, o8, o9, o10, o11, o12⟩ := C.so hv ho
  have Cb := C.clk I hv ho
  have Ib := Xb.1
  have ub := Xb.2.2.2.1
  have b19 : mset S 18 t (S 16 t) 19 t = S 19 t := mset_k (by decide)
  have e10 : mset S 18 t (S 16 t) 10 t = S 10 t := mset_k (by decide)
  have eS : mRep (mset S 18 t (S 16 t)) u t f n s0 = mset (mMeta (mset S 18 t (S 16 t)) u t) 19 t (S 19 t &&& 65535) := by
    unfold mRep
    rw [if_pos (by rw [b19]; exact rb_16.mpr h16)]
    unfold mRepM
    rw [b19]
    unfold mMeta
    simp only [mset_k (show (10 : Nat) ≠ 19 by decide), mset_k (show (11 : Nat) ≠ 19 by decide), mset_k (show (12 : Nat) ≠ 19 by decide), mset_k (show (8 : Nat) ≠ 19 by decide)]
    funext k j
    unfold mSendT
    split
    · rfl
    · unfold mSend mRow
      rw [if_neg (by assumption), if_neg (by assumption)]
      simp only [mset]
      by_cases q : k = 19
      · subst q; simp [mIs]
      · simp [q]
  rw [eS]
  have L1 := mSendT_L (S := mset S 18 t (S 16 t)) (u := u) (kind := nI 1) (to := nI (1 - t / 320)) (t := nI t) (a := mset S 18 t (S 16 t) 10 t) (b := mset S 18 t (S 16 t) 11 t) (c := mset S 18 t (S 16 t) 12 t) (ty := mset S 18 t (S 16 t) 8 t)
  have rd : ∀ k, k ∉ [18, 19, 44, 45] → mset (mMeta (mset S 18 t (S 16 t)) u t) 19 t (S 19 t &&& 65535) k = S k := fun k hk => by
    simp only [List.mem_cons, List.not_mem_nil, or_false, not_or] at hk
    rw [mset_kk hk.2.1]
    exact (L1 k (by simp only [List.mem_cons, List.not_mem_nil, or_false, not_or]; exact hk.2.2)).trans (mset_kk hk.1)
  have r18 : mset (mMeta (mset S 18 t (S 16 t)) u t) 19 t (S 19 t &&& 65535) 18 t = S 16 t := by rw [mset_k (by decide), mM_o (by decide) (by decide), mset_s]
  have r19 : mset (mMeta (mset S 18 t (S 16 t)) u t) 19 t (S 19 t &&& 65535) 19 t = S 19 t &&& 65535 := mset_s
  refine cRel_ws (w := nI 1) (to := nI (1 - t / 320)) (d := S 10 t) (l := 0) (c := 0) (e := 1 - t / 320) (S' := mset (mMeta (mset S 18 t (S 16 t)) u t) 19 t (S 19 t &&& 65535)) Ib Cb Xb.2.1 ub hu24 (mInv_meta Ib ub hu24 Xb.2.1) (fun hu' => by rw [← e10]; exact uOK_meta hu') ((sw.rfl.si.sy).tr a2) a3 (fun k hk => mset_kk (fun z => hk (by rw [z]; decide))) (fun k h1 h2 j hj => ?_) (cSn_mk (C.tx hv).2.1 hc (by rw [rd 0 (by decide)]) (fun _ => ?_) (fun z => absurd (by rw [rd 13 (by decide)]; exact ho) z)) (cRw_fr C.rw rd (by decide))
  · by_cases q : k = 19
    · subst q; rw [mset_j rfl hj]; exact mM_o (by decide) (by decide)
    · rw [mset_k q]; exact mM_o (by omega) (by omega)
  · have en : fN (mset (mMeta (mset S 18 t (S 16 t)) u t) 19 t (S 19 t &&& 65535)) t = fN S t := fN_c rd (by decide)
    unfold cSo
    rw [en, r19, r18, rd 14 (by decide), rd 15 (by decide), rd 21 (by decide), rd 22 (by decide), rd 20 (by decide), rd 16 (by decide), rd 17 (by decide)]
    refine ⟨(hi 15).trans o1, (hi 4).trans o2, (hi 5).trans o3, (hi 6).trans o4, (hi 7).trans o5, (hi 8).trans o6, Or.inl ⟨hi 9, fun z => ?_⟩, fun q hq => ?_, (hi 11).trans o9, (hi 12).trans o10, fun z => (hi 13).trans (o11 z), (hi 14).trans o10⟩
    · rw [rb_lo (by decide)] at z; omega
    · rw [show ix_i h' (A t) 10 = ix_i h (A t) 10 from hi 10, o8 q hq, rb_lo hq]
      constructor
      · rintro ⟨w1, w2⟩
        refine ⟨⟨w1, ?_⟩, w2⟩
        have := (I.S hv ho).2.2.2 q hq w1
        rcases this with y | y
        · exact absurd y w2
        · rw [← hn] at y; omega
      · rintro ⟨⟨w1, w2⟩, w3⟩
        exact ⟨w1, w3⟩
/-- DATA again -/
theorem W_repD {v : Int32} (X : wH S u t f n k0 c st s0) (C : cRel h x S T A R U D Lo Lr) (h15 : ¬ S 15 t = 0) (h19 : ¬ S 19 t = 0) (h16 : ¬ rb (S 19 t) 16) (hb : ∀ i, i < 4 → 4 * s0 + i < n → by8 (S 6 (64 * f + 4 * s0 + i))) (hvv : ∀ q, q < mLen n s0 → lB v q = S 6 (64 * f + 4 * s0 + q)) (a2 : sw (A t) h h2) (a3 : sw (A t) (hOut x h2 (T t) (nI 2) (nI (1 - t / 320)) (nI s0) (nI (mLen n s0)) v) h') (hc : kpS h h' (A t)) (hi : iOf h h' (A t) [(10, ix_i h (A t) 10 &&& ((nI 1 <<< (nI s0 &&& 31)) ^^^ (-1))), (14, ix_i h (A t) 12)]) : ∃ U', cRel h' x (mRep (mset S 18 t (S 16 t)) u t f n s0) T A R U' D Lo Lr := by
  have Xb := wH_w (k := 18) (x := S 16 t) X (Or.inr (Or.inr rfl))
  obtain ⟨I, hv, ho, hu, hu24, hf, hn, hn64, hst, hst2, hH, hR⟩ := X
  obtain ⟨o1, o2, o3, o4, o5, o6, o7, o8, o9, o10, o11, o12⟩ := C.so hv ho
  obtain ⟨q1, q2, q3⟩ := hR h19 (by rw [rb_16]; exact h16)
  have Cb := C.clk I hv ho
  have Ib := Xb.1
  have ub := Xb.2.2.2.1
  have b19 : mset S 18 t (S 16 t) 19 t = S 19 t := mset_k (by decide)
  have ml := mLen_b q3
  have ew : ∀ (S2 : MS) (w : Int32) (kk : Nat), kk ≠ 6 → mWd (mset S2 kk t w) f n s0 4 = mWd S2 f n s0 4 := by
    intro S2 w kk hkk
    have : ∀ k, mWd (mset S2 kk t w) f n s0 k = mWd S2 f n s0 k := by
      intro k
      induction k with
      | zero => rfl
      | succ k ih => unfold mWd; rw [ih, mset_k (Ne.symm hkk)]
    exact this 4
  have eS : mRep (mset S 18 t (S 16 t)) u t f n s0 = mset (mData (mset S 18 t (S 16 t)) u t f n s0) 19 t (S 19 t &&& ((nI 1 <<< (nI s0 &&& 31)) ^^^ (-1))) := by
    unfold mRep
    rw [if_neg (by rw [b19, rb_16]; exact h16)]
    unfold mRepD
    rw [b19]
    unfold mData
    rw [ew _ _ 19 (by decide)]
    simp only [mset_k (show (8 : Nat) ≠ 19 by decide)]
    funext k j
    unfold mSendT
    split
    · rfl
    · unfold mSend mRow
      rw [if_neg (by assumption), if_neg (by assumption)]
      simp only [mset]
      by_cases q : k = 19
      · subst q; simp [mIs]
      · simp [q]
  rw [eS]
  have L1 := mSendT_L (S := mset S 18 t (S 16 t)) (u := u) (kind := nI 2) (to := nI (1 - t / 320)) (t := nI t) (a := nI s0) (b := nI (mLen n s0)) (c := mWd (mset S 18 t (S 16 t)) f n s0 4) (ty := mset S 18 t (S 16 t) 8 t)
  have rd : ∀ k, k ∉ [18, 19, 44, 45] → mset (mData (mset S 18 t (S 16 t)) u t f n s0) 19 t (S 19 t &&& ((nI 1 <<< (nI s0 &&& 31)) ^^^ (-1))) k = S k := fun k hk => by
    simp only [List.mem_cons, List.not_mem_nil, or_false, not_or] at hk
    rw [mset_kk hk.2.1]
    exact (L1 k (by simp only [List.mem_cons, List.not_mem_nil, or_false, not_or]; exact hk.2.2)).trans (mset_kk hk.1)
  have r18 : mset (mData (mset S 18 t (S 16 t)) u t f n s0) 19 t (S 19 t &&& ((nI 1 <<< (nI s0 &&& 31)) ^^^ (-1))) 18 t = S 16 t := by rw [mset_k (by decide), mD_o (by decide) (by decide), mset_s]
  have r19 : mset (mData (mset S 18 t (S 16 t)) u t f n s0) 19 t (S 19 t &&& ((nI 1 <<< (nI s0 &&& 31)) ^^^ (-1))) 19 t = S 19 t &&& ((nI 1 <<< (nI s0 &&& 31)) ^^^ (-1)) := mset_s
  refine cRel_ws (w := nI 2) (to := nI (1 - t / 320)) (d := nI s0) (l := nI (mLen n s0)) (c := v) (e := 1 - t / 320) (S' := mset (mData (mset S 18 t (S 16 t)) u t f n s0) 19 t (S 19 t &&& ((nI 1 <<< (nI s0 &&& 31)) ^^^ (-1)))) Ib Cb Xb.2.1 ub hu24 (mInv_data Ib ub hu24 Xb.2.1 q3 hn64) (fun hu' => uOK_data hu' (fun q hq => ?_)) ((sw.rfl.si.sy).tr a2) a3 (fun k hk => mset_kk (fun z => hk (by rw [z]; decide))) (fun k h1 h2 j hj => ?_) (cSn_mk (C.tx hv).2.1 hc (by rw [rd 0 (by decide)]) (fun _ => ?_) (fun z => absurd (by rw [rd 13 (by decide)]; exact ho) z)) (cRw_fr C.rw rd (by decide))
  · rw [nI_clamp (by omega)] at hq
    have hl : 4 * s0 + q < n := by
      unfold mLen at hq
      split at hq <;> omega
    rw [hvv q hq, ew _ _ 18 (by decide), hB_wd hb (by omega) hl]
  · by_cases q : k = 19
    · subst q; rw [mset_j rfl hj]; exact mD_o (by decide) (by decide)
    · rw [mset_k q]; exact mD_o (by omega) (by omega)
  · have en : fN (mset (mData (mset S 18 t (S 16 t)) u t f n s0) 19 t (S 19 t &&& ((nI 1 <<< (nI s0 &&& 31)) ^^^ (-1)))) t = fN S t := fN_c rd (by decide)
    unfold cSo
    rw [en, r19, r18, rd 14 (by decide), rd 15 (by decide), rd 21 (by decide), rd 22 (by decide), rd 20 (by decide), rd 16 (by decide), rd 17 (by decide)]
    refine ⟨(hi 15).trans o1, (hi 4).trans o2, (hi 5).trans o3, (hi 6).trans o4, (hi 7).trans o5, (hi 8).trans o6, Or.inl ⟨(hi 9).trans ?_, fun z => ?_⟩, fun q hq => ?_, (hi 11).trans o9, (hi 12).trans o10, fun z => (hi 13).trans (o11 z), (hi 14).trans o10⟩
    · rcases o7 with w | w
      · exact w.1
      · exact absurd w.2 h16
    · rw [rb_clr (by omega) (by decide)] at z; exact h16 z.1
    · rw [show ix_i h' (A t) 10 = ix_i h (A t) 10 &&& ((nI 1 <<< (nI s0 &&& 31)) ^^^ (-1)) from hi 10, rb_clr (by omega) hq, rb_clr (by omega) hq, o8 q hq]
      exact ⟨fun z => ⟨⟨z.1.1, z.2⟩, z.1.2⟩, fun z => ⟨⟨z.1.1, z.2⟩, z.1.2⟩⟩
/-- it has failed -/
theorem W_fail (X : wH S u t f n k0 c st s0) (C : cRel h x S T A R U D Lo Lr) : cRel (ix_si h (A t) 15 (nI 3)) x (mRm 40 42 (mset S 13 t (nI 3)) (t / 320) k0 c (c - 1)) T A R U D Lo Lr := by
  obtain ⟨I, hv, ho, hu, hu24, hf, hn, hn64, hst, hst2, hH, hR⟩ := X
  have rM : ∀ k, k ∉ [13, 40, 42] → mRm 40 42 (mset S 13 t (nI 3)) (t / 320) k0 c (c - 1) k = S k := fun k hk => by
    simp only [List.mem_cons, List.not_mem_nil, or_false, not_or] at hk
    rw [mRm_L k (by simp only [List.mem_cons, List.not_mem_nil, or_false, not_or]; exact hk.2), mset_kk hk.1]
  have r13 : mRm 40 42 (mset S 13 t (nI 3)) (t / 320) k0 c (c - 1) 13 t = nI 3 := by rw [mRm_o (by decide) (by decide), mset_s]
  refine cRel_sn I C hv (sw.rfl.si).1 rfl (fun k hk => rM k (fun z => hk (by revert z; simp only [List.mem_cons, List.not_mem_nil, or_false]; omega))) (fun k h1 h2 j hj => ?_) (cSn_mk (C.tx hv).2.1 ⟨rfl, fun _ => rfl, by rw [ix_i_si, if_neg (fun z => absurd z.2 (by decide))]⟩ (by rw [rM 0 (by decide)]) (fun z => absurd (r13.symm.trans z) (by decide)) (fun _ => ?_)) (cRw_clS (k0 := k0) (c := c) (t := t) I C.rw hv hH (fun k hk => ?_) (fun j hj => ?_) (by rw [r13]; decide) (fun j => ?_) (fun j => ?_))
  · rw [mRm_o (by omega) (by omega)]
    by_cases q : k = 13
    · subst q; rw [mset_j rfl hj]
    · rw [mset_k q]
  · rw [r13, ix_i_si, if_pos ⟨rfl, rfl⟩]
  · rw [rM k ((by decide : ∀ k ∈ [7, 23, 41, 43], k ∉ [13, 40, 42]) k hk)]
  · rw [mRm_o (by decide) (by decide), mset_j rfl hj]
  · unfold mRm
    split
    · rename_i q; rw [if_pos q.2, mset_k (by decide)]
    · rename_i q; rw [if_neg (fun z => q ⟨rfl, z⟩), if_neg (by omega), mset_k (by decide)]
  · unfold mRm
    rw [if_neg (by omega)]
    split
    · rename_i q; rw [if_pos q.2]
    · rename_i q; rw [if_neg (fun z => q ⟨rfl, z⟩), mset_k (by decide)]
/-- its clock goes on -/
theorem W_tick (I : mInv S) (C : cRel h x S T A R U D Lo Lr) (hv : vT S t) (ho : S 13 t = nI 5) : cRel (ix_si h (A t) 12 (ix_i h (A t) 12 + 1)) x (mset S 16 t (S 16 t + nI 1)) T A R U D Lo Lr := by
  have o := C.so hv ho
  have e : ∀ k, k ≠ 16 → mset S 16 t (S 16 t + nI 1) k = S k := fun k hk => mset_kk hk
  refine cRel_sn I C hv (sw.rfl.si).1 rfl (fun k hk => e k (fun z => hk (by rw [z]; decide))) (fun k _ _ j hj => ?_) (cSn_mk (C.tx hv).2.1 ⟨rfl, fun _ => rfl, by rw [ix_i_si, if_neg (fun z => absurd z.2 (by decide))]⟩ (by rw [e 0 (by decide)]) (fun _ => ?_) (fun z => absurd (by rw [e 13 (by decide)]; exact ho) z)) (cRw_fr C.rw (L := [16]) mset_L (by decide))
  · by_cases q : k = 16
    · subst q; exact mset_j rfl hj
    · rw [e k q]
  · obtain ⟨o1, o2, o3, o4, o5, o6, o7, o8, o9, o10, o11, o12⟩ := o
    have en : fN (mset S 16 t (S 16 t + nI 1)) t = fN S t := fN_c mset_L (by decide)
    unfold cSo
    simp only [ix_i_si, true_and, if_neg (show ¬ (15 : Nat) = 12 by decide), if_neg (show ¬ (4 : Nat) = 12 by decide), if_neg (show ¬ (5 : Nat) = 12 by decide), if_neg (show ¬ (6 : Nat) = 12 by decide), if_neg (show ¬ (7 : Nat) = 12 by decide), if_neg (show ¬ (8 : Nat) = 12 by decide), if_neg (show ¬ (9 : Nat) = 12 by decide), if_neg (show ¬ (10 : Nat) = 12 by decide), if_neg (show ¬ (11 : Nat) = 12 by decide), if_neg (show ¬ (14 : Nat) = 12 by decide), if_neg (show ¬ (13 : Nat) = 12 by decide), if_true, en, e 14 (by decide), e 15 (by decide), e 18 (by decide), e 17 (by decide), e 19 (by decide), e 20 (by decide), e 21 (by decide), e 22 (by decide), mset_s]
    exact ⟨o1, o2, o3, o4, o5, o6, o7, o8, o9, by rw [o10]; rfl, o11, o12⟩
end CR9
