section CR8
variable {h h2 h' : ix_H} {x : Nat} {S : MS} {T A R U D : Nat → Nat} {Lo Lr : Nat → List Nat} {u t f n k0 c st s0 : Nat}
theorem nI_sub1 {n : Nat} (h : 1 ≤ n) : nI n - 1 = nI (n - 1) := by
  rw [show (1 : Int32) = nI 1 from rfl, pk_sub h]
theorem W_data {v : Int32} (X : wH S u t f n k0 c st s0) (C : cRel h x S T A R U D Lo Lr) (h15 : S 15 t = 0) (h21 : S 21 t = 0) (hst1 : 1 ≤ st) (hsta : st ≤ (n + 3) / 4) (hb : ∀ i, i < 4 → 4 * (st - 1) + i < n → by8 (S 6 (64 * f + 4 * (st - 1) + i))) (hvv : ∀ q, q < mLen n (st - 1) → lB v q = S 6 (64 * f + 4 * (st - 1) + q)) (a3 : sw (A t) (hOut x h (T t) (nI 2) (nI (1 - t / 320)) (nI (st - 1)) (nI (mLen n (st - 1))) v) h') (hc : kpS h h' (A t)) (hi : iOf h h' (A t) [(5, ix_i h (A t) 5 + 1), (14, ix_i h (A t) 12)]) : ∃ U', cRel h' x (mWk0 S u t f n k0 c st) T A R U' D Lo Lr := by
  have Xb := wH_w (k := 18) (x := S 16 t) X (Or.inr (Or.inr rfl))
  obtain ⟨I, hv, ho, hu, hu24, hf, hn, hn64, hst, hst2, hH, hR⟩ := X
  obtain ⟨o1, o2, o3, o4, o5, o6, o7, o8, o9, o10, o11, o12⟩ := C.so hv ho
  have Cb := C.clk I hv ho
  have Ib := Xb.1
  have ub := Xb.2.2.2.1
  have h4 : 4 * (st - 1) < n := by omega
  have ml := mLen_b h4
  have eS : mWk0 S u t f n k0 c st = mset (mData (mset S 18 t (S 16 t)) u t f n (st - 1)) 14 t (nI (st + 1)) := by
    unfold mWk0
    rw [if_neg (by rw [h21]; intro z; rcases z with z | z; exact z rfl; omega), if_neg (by omega)]
  rw [eS]
  have ew : mWd (mset S 18 t (S 16 t)) f n (st - 1) 4 = mWd S f n (st - 1) 4 := by
    have : ∀ k, mWd (mset S 18 t (S 16 t)) f n (st - 1) k = mWd S f n (st - 1) k := by
      intro k
      induction k with
      | zero => rfl
      | succ k ih => unfold mWd; rw [ih, mset_k (by decide)]
    exact this 4
  have L1 := mSendT_L (S := mset S 18 t (S 16 t)) (u := u) (kind := nI 2) (to := nI (1 - t / 320)) (t := nI t) (a := nI (st - 1)) (b := nI (mLen n (st - 1))) (c := mWd (mset S 18 t (S 16 t)) f n (st - 1) 4) (ty := mset S 18 t (S 16 t) 8 t)
  have rd : ∀ k, k ∉ [14, 18, 44, 45] → mset (mData (mset S 18 t (S 16 t)) u t f n (st - 1)) 14 t (nI (st + 1)) k = S k := fun k hk => by
    simp only [List.mem_cons, List.not_mem_nil, or_false, not_or] at hk
    rw [mset_kk hk.1]
    exact (L1 k (by simp only [List.mem_cons, List.not_mem_nil, or_false, not_or]; exact hk.2.2)).trans (mset_kk hk.2.1)
  have r18 : mset (mData (mset S 18 t (S 16 t)) u t f n (st - 1)) 14 t (nI (st + 1)) 18 t = S 16 t := by rw [mset_k (by decide), mD_o (by decide) (by decide), mset_s]
  have r14 : mset (mData (mset S 18 t (S 16 t)) u t f n (st - 1)) 14 t (nI (st + 1)) 14 t = nI (st + 1) := mset_s
  refine cRel_ws (w := nI 2) (to := nI (1 - t / 320)) (d := nI (st - 1)) (l := nI (mLen n (st - 1))) (c := v) (e := 1 - t / 320) (S' := mset (mData (mset S 18 t (S 16 t)) u t f n (st - 1)) 14 t (nI (st + 1))) Ib Cb Xb.2.1 ub hu24 (mInv_data Ib ub hu24 Xb.2.1 h4 hn64) (fun hu' => uOK_data hu' (fun q hq => ?_)) (sw.rfl.si.sy) a3 (fun k hk => mset_kk (fun z => hk (by rw [z]; decide))) (fun k h1 h2 j hj => ?_) (cSn_mk (C.tx hv).2.1 hc (by rw [rd 0 (by decide)]) (fun _ => ?_) (fun z => absurd (by rw [rd 13 (by decide)]; exact ho) z)) (cRw_fr C.rw rd (by decide))
  · rw [nI_clamp (by omega)] at hq
    have hl : 4 * (st - 1) + q < n := by
      unfold mLen at hq
      split at hq <;> omega
    rw [hvv q hq, ew, hB_wd hb (by omega) hl]
  · by_cases q : k = 14
    · subst q; rw [mset_j rfl hj]; exact mD_o (by decide) (by decide)
    · rw [mset_k q]; exact mD_o (by omega) (by omega)
  · have en : fN (mset (mData (mset S 18 t (S 16 t)) u t f n (st - 1)) 14 t (nI (st + 1))) t = fN S t := fN_c rd (by decide)
    unfold cSo
    rw [en, r14, r18, rd 15 (by decide), rd 21 (by decide), rd 22 (by decide), rd 20 (by decide), rd 19 (by decide), rd 16 (by decide), rd 17 (by decide)]
    refine ⟨(hi 15).trans o1, (hi 4).trans o2, ?_, (hi 6).trans o4, (hi 7).trans o5, (hi 8).trans o6, ?_, fun q hq => ?_, (hi 11).trans o9, (hi 12).trans o10, fun z => absurd h15 z, (hi 14).trans o10⟩
    · rw [if_pos h15, if_pos h21]
      refine (hi 5).trans ?_
      show ix_i h (A t) 5 + 1 = _
      rw [o3, if_pos h15, if_pos h21, hst, nI_sub1 hst1, nI_1, nI_sub1 (by omega)]
      congr 1
      omega
    · rw [show ix_i h' (A t) 9 = ix_i h (A t) 9 from hi 9]; exact o7
    · rw [show ix_i h' (A t) 10 = ix_i h (A t) 10 from hi 10]; exact o8 q hq
/-- END goes out: the numbers of the cell, whether it closes (y) or not -/
theorem W_end {v5 : Int32} (X : wH S u t f n k0 c st s0) (C : cRel h x S T A R U D Lo Lr) (h3 : bw (S 15 t + nI 1) 1 3) (hv5 : v5 = nI ((n + 3) / 4 + 1)) (a2 : sw (A t) h h2) (a3 : sw (A t) (hOut x h2 (T t) (nI 3) (nI (1 - t / 320)) (if S 21 t = 0 then nI n else -1) 0 (if S 21 t = 0 then mCk S f n ((n + 3) / 4) else nI 0)) h') (hc : kpS h h' (A t)) (hi : iOf h h' (A t) [(5, v5), (11, ix_i h (A t) 11 + 1), (13, ix_i h (A t) 12), (14, ix_i h (A t) 12), (15, if S 8 t = 1 then (if S 21 t = 0 then nI 1 else nI 2) else 0)]) : ∃ U', cRel h' x (mEnd (mset S 18 t (S 16 t)) u t f n k0 c) T A R U' D Lo Lr := by
  have Xb := wH_w (k := 18) (x := S 16 t) X (Or.inr (Or.inr rfl))
  have IE := mInv_end1 (f := f) (n := n) Xb (by rw [mset_k (by decide)]; exact h3.m (by omega) (by omega))
  obtain ⟨I, hv, ho, hu, hu24, hf, hn, hn64, hst, hst2, hH, hR⟩ := X
  obtain ⟨o1, o2, o3, o4, o5, o6, o7, o8, o9, o10, o11, o12⟩ := C.so hv ho
  have Cb := C.clk I hv ho
  have Ib := Xb.1
  have ub := Xb.2.2.2.1
  have b21 : mset S 18 t (S 16 t) 21 t = S 21 t := mset_k (by decide)
  have b15 : mset S 18 t (S 16 t) 15 t = S 15 t := mset_k (by decide)
  have b16 : mset S 18 t (S 16 t) 16 t = S 16 t := mset_k (by decide)
  have b8' : mset S 18 t (S 16 t) 8 t = S 8 t := mset_k (by decide)
  have eck : mCk (mset S 18 t (S 16 t)) f n ((n + 3) / 4) = mCk S f n ((n + 3) / 4) := by
    have e1 : ∀ s k, mWd (mset S 18 t (S 16 t)) f n s k = mWd S f n s k := by
      intro s k
      induction k with
      | zero => rfl
      | succ k ih => unfold mWd; rw [ih, mset_k (by decide)]
    generalize (n + 3) / 4 = a
    induction a with
    | zero => rfl
    | succ a ih => unfold mCk; rw [ih, e1]
  have hx1 : (1 : Int32) = nI 1 := rfl
  have v5e : v5 = nI ((fN S t + 3) / 4 + 1) := by rw [hv5, hn]
  have nz : ¬ S 15 t + nI 1 = 0 := by
    obtain ⟨m, m1, m2, m3⟩ := h3
    rw [m3]; exact nI_ne0 (by omega) (by omega)
  have I1 : mInv (mSendT (mset S 18 t (S 16 t)) u (nI 3) (nI (1 - t / 320)) (nI t) (if S 21 t = 0 then nI n else -1) (if S 21 t = 0 then mCk S f n ((n + 3) / 4) else nI 0) (nI 0) (S 8 t)) := by
    refine mInv_sendT Ib ub hu24 Xb.2.1 (fun h => Or.inr (Or.inr (Or.inl ⟨mSendT_r (i := 0) h (by decide), mSendT_r (i := 1) h (by decide), ?_, ((mSendT_r (i := 6) h (by decide)).trans b8'.symm).trans (mSendT_o (by decide) (by decide)).symm⟩)))
    rw [mSendT_r h (by decide)]
    show (if S 21 t = 0 then nI n else -1) = -1 ∨ bw (if S 21 t = 0 then nI n else -1) 0 64
    split
    · exact Or.inr (bw.of (by omega) hn64)
    · exact Or.inl rfl
  have eE : mEnd1 (mset S 18 t (S 16 t)) u t f n = mset (mset (mSendT (mset S 18 t (S 16 t)) u (nI 3) (nI (1 - t / 320)) (nI t) (if S 21 t = 0 then nI n else -1) (if S 21 t = 0 then mCk S f n ((n + 3) / 4) else nI 0) (nI 0) (S 8 t)) 15 t (S 15 t + nI 1)) 17 t (S 16 t) := by
    unfold mEnd1
    rw [b21, b15, b16, b8', eck]
  have rE : ∀ k, k ∉ [15, 17, 18, 44, 45] → mEnd1 (mset S 18 t (S 16 t)) u t f n k = S k := fun k hk => by
    simp only [List.mem_cons, List.not_mem_nil, or_false, not_or] at hk
    rw [mEnd1_L k (by simp only [List.mem_cons, List.not_mem_nil, or_false, not_or]; omega), mset_kk (by omega)]
  have r15 : mEnd1 (mset S 18 t (S 16 t)) u t f n 15 t = S 15 t + nI 1 := by rw [eE, mset_k (by decide), mset_s]
  have r17 : mEnd1 (mset S 18 t (S 16 t)) u t f n 17 t = S 16 t := by rw [eE, mset_s]
  have r18 : mEnd1 (mset S 18 t (S 16 t)) u t f n 18 t = S 16 t := by rw [eE, mset_k (by decide), mset_k (by decide), mSendT_o (by decide) (by decide), mset_s]
  have F1E : ∀ k, 13 ≤ k → k ≤ 22 → ∀ j, j ≠ t → mEnd1 (mset S 18 t (S 16 t)) u t f n k j = mset S 18 t (S 16 t) k j := fun k h1 h2 j hj => by
    rw [eE]
    by_cases q : k = 17
    · subst q; rw [mset_j rfl hj, mset_k (by decide), mSendT_o (by decide) (by decide)]
    · rw [mset_k q]
      by_cases q2 : k = 15
      · subst q2; rw [mset_j rfl hj, mSendT_o (by decide) (by decide)]
      · rw [mset_k q2, mSendT_o (by omega) (by omega)]
  have F0E : ∀ k, k ∉ [13, 14, 15, 16, 17, 18, 19, 20, 21, 22, 40, 42] → mEnd1 (mset S 18 t (S 16 t)) u t f n k = mSendT (mset S 18 t (S 16 t)) u (nI 3) (nI (1 - t / 320)) (nI t) (if S 21 t = 0 then nI n else -1) (if S 21 t = 0 then mCk S f n ((n + 3) / 4) else nI 0) (nI 0) (S 8 t) k := fun k hk => by
    rw [eE, mset_kk (fun z => hk (by rw [z]; decide)), mset_kk (fun z => hk (by rw [z]; decide))]
  have a2b : sw (A t) (ix_si h (A t) 14 (S 16 t)) h2 := (sw.rfl.si.sy).tr a2
  unfold mEnd
  rw [b8']
  split
  · rename_i k1
    rw [b21]
    have hres : ¬ (if S 21 t = 0 then nI 1 else nI 2) = nI 5 := by split <;> decide
    have rM : ∀ k, k ∉ [13, 40, 42] → mRm 40 42 (mset (mEnd1 (mset S 18 t (S 16 t)) u t f n) 13 t (if S 21 t = 0 then nI 1 else nI 2)) (t / 320) k0 c (c - 1) k = mEnd1 (mset S 18 t (S 16 t)) u t f n k := fun k hk => by
      simp only [List.mem_cons, List.not_mem_nil, or_false, not_or] at hk
      rw [mRm_L k (by simp only [List.mem_cons, List.not_mem_nil, or_false, not_or]; exact hk.2), mset_kk hk.1]
    have r13 : mRm 40 42 (mset (mEnd1 (mset S 18 t (S 16 t)) u t f n) 13 t (if S 21 t = 0 then nI 1 else nI 2)) (t / 320) k0 c (c - 1) 13 t = (if S 21 t = 0 then nI 1 else nI 2) := by rw [mRm_o (by decide) (by decide), mset_s]
    refine cRel_ws (w := nI 3) (to := nI (1 - t / 320)) (d := if S 21 t = 0 then nI n else -1) (l := 0) (c := if S 21 t = 0 then mCk S f n ((n + 3) / 4) else nI 0) (e := 1 - t / 320) Ib Cb Xb.2.1 ub hu24 I1 (fun hu' => uOK_end hu') a2b a3 (fun k hk => (rM k (fun z => hk (by revert z; simp only [List.mem_cons, List.not_mem_nil, or_false]; omega))).trans (F0E k hk)) (fun k h1 h2 j hj => ?_) (cSn_mk (C.tx hv).2.1 hc (by rw [rM 0 (by decide), rE 0 (by decide)]) (fun z => absurd (r13.symm.trans z) hres) (fun _ => ?_)) (cRw_clS (k0 := k0) (c := c) (t := t) I C.rw hv hH (fun k hk => ?_) (fun j hj => ?_) (by rw [r13]; exact hres) (fun j => ?_) (fun j => ?_))
    · rw [mRm_o (by omega) (by omega)]
      by_cases q : k = 13
      · subst q; rw [mset_j rfl hj]; exact F1E 13 h1 h2 j hj
      · rw [mset_k q]; exact F1E k h1 h2 j hj
    · rw [r13]
      refine (hi 15).trans ?_
      show (if S 8 t = 1 then (if S 21 t = 0 then nI 1 else nI 2) else 0) = _
      rw [if_pos k1]
    · have := (by decide : ∀ k ∈ [7, 23, 41, 43], k ∉ [13, 40, 42] ∧ k ∉ [15, 17, 18, 44, 45]) k hk
      rw [rM k this.1, rE k this.2]
    · rw [mRm_o (by decide) (by decide), mset_j rfl hj, rE 13 (by decide)]
    · unfold mRm
      split
      · rename_i q; rw [if_pos q.2, mset_k (by decide), rE 40 (by decide)]
      · rename_i q; rw [if_neg (fun z => q ⟨rfl, z⟩), if_neg (by omega), mset_k (by decide), rE 40 (by decide)]
    · unfold mRm
      rw [if_neg (by omega)]
      split
      · rename_i q; rw [if_pos q.2]
      · rename_i q; rw [if_neg (fun z => q ⟨rfl, z⟩), mset_k (by decide), rE 42 (by decide)]
  · rename_i k1
    refine cRel_ws (w := nI 3) (to := nI (1 - t / 320)) (d := if S 21 t = 0 then nI n else -1) (l := 0) (c := if S 21 t = 0 then mCk S f n ((n + 3) / 4) else nI 0) (e := 1 - t / 320) Ib Cb Xb.2.1 ub hu24 I1 (fun hu' => uOK_end hu') a2b a3 F0E F1E (cSn_mk (C.tx hv).2.1 hc (by rw [rE 0 (by decide)]) (fun _ => ?_) (fun z => absurd (by rw [rE 13 (by decide)]; exact ho) z)) (cRw_fr C.rw rE (by decide))
    have en : fN (mEnd1 (mset S 18 t (S 16 t)) u t f n) t = fN S t := fN_c rE (by decide)
    unfold cSo
    rw [en, r15, r17, r18, rE 14 (by decide), rE 21 (by decide), rE 22 (by decide), rE 20 (by decide), rE 19 (by decide), rE 16 (by decide)]
    refine ⟨?_, (hi 4).trans o2, ?_, (hi 6).trans o4, (hi 7).trans o5, (hi 8).trans o6, ?_, fun q hq => ?_, ?_, (hi 12).trans o10, fun _ => (hi 13).trans o10, (hi 14).trans o10⟩
    · refine (hi 15).trans ?_
      show (if S 8 t = 1 then (if S 21 t = 0 then nI 1 else nI 2) else 0) = _
      rw [if_neg k1]
    · rw [if_neg nz]
      exact (hi 5).trans v5e
    · rw [show ix_i h' (A t) 9 = ix_i h (A t) 9 from hi 9]; exact o7
    · rw [show ix_i h' (A t) 10 = ix_i h (A t) 10 from hi 10]; exact o8 q hq
    · refine (hi 11).trans ?_
      show ix_i h (A t) 11 + 1 = _
      rw [o9]
      rfl
end CR8
