/-! ===== how the invariant is kept: senders ===== -/
theorem mset_13 {S : MS} {k t j : Nat} {x : Int32} (hk : mIs k = true) : mset S k t x k j = if j = t then x else S k j := mset_if hk
theorem mInv.S {S : MS} (I : mInv S) {t : Nat} (hv : vT S t) (ho : S 13 t = nI 5) : S 4 (fI S t) = nI 1 ∧ bw (S 14 t) 0 ((fN S t + 3) / 4 + 1) ∧ bw (S 15 t) 0 3 ∧ ∀ s, s < 32 → rb (S 19 t) s → s = 16 ∨ 4 * s < fN S t := I.2.2.2.2.1 t hv ho
theorem mInv.T {S : MS} (I : mInv S) {t : Nat} (hv : vT S t) : bw (S 8 t) 1 2 ∧ bw (S 9 t) 0 5 ∧ bw (S 10 t) 0 5 ∧ bw (S 11 t) 0 2 ∧ bw (S 12 t) 0 5 ∧ bw (S 13 t) 1 5 ∧ bw (S 20 t) 0 1 ∧ bw (S 21 t) 0 1 ∧ bw (S 22 t) 0 1 := I.2.2.1 t hv
/-- a sender's own number changes -/
theorem mInv_f {S : MS} {t k : Nat} {x : Int32} (I : mInv S) (hv : vT S t) (hk : k ∈ [14, 15, 19, 20, 21, 22]) (h2 : 20 ≤ k → bw x 0 1) (h14 : k = 14 → S 13 t = nI 5 → bw x 0 ((fN S t + 3) / 4 + 1)) (h15 : k = 15 → S 13 t = nI 5 → bw x 0 3) (h19 : k = 19 → S 13 t = nI 5 → ∀ s, s < 32 → rb x s → s = 16 ∨ 4 * s < fN S t) : mInv (mset S k t x) := by
  obtain ⟨a, b, c, d, e, f, g, h, i, j⟩ := I
  have H : ∀ k', k' ∉ [14, 15, 19, 20, 21, 22] → mset S k t x k' = S k' := fun k' h => mset_kk (fun e => h (by rw [e]; exact hk))
  have mk : mIs k = true := (by decide : ∀ k ∈ [14, 15, 19, 20, 21, 22], mIs k = true) k hk
  have rd : ∀ k' j', mset S k t x k' j' = if k' = k ∧ j' = t then x else S k' j' := by
    intro k' j'
    by_cases q : k' = k
    · subst q
      rw [mset_if mk]
      by_cases q2 : j' = t
      · rw [if_pos q2, if_pos ⟨rfl, q2⟩]
      · rw [if_neg q2, if_neg (fun z => q2 z.2)]
    · rw [mset_k q, if_neg (fun z => q z.1)]
  refine ⟨iG_c H (by decide) a, iF_c H (by decide) b, ?_, iZ_t H (by decide) hv (fun k' _ _ _ l hl => ?_) d, ?_, iL_c H (by decide) f, iM_c H (by decide) g, iR_c H (by decide) h, iP_c H (by decide) i, iU_c H (by decide) j⟩
  · intro t' v'
    obtain ⟨b1, b2, b3, b4, b5, b6, b7, b8, b9⟩ := c t' ((vT_c H (by decide)).mp v')
    have key : ∀ k', 20 ≤ k' → bw (S k' t') 0 1 → bw (mset S k t x k' t') 0 1 := by
      intro k' hk' hb
      rw [rd]
      split
      · rename_i q; exact h2 (by omega)
      · exact hb
    exact ⟨by rw [H 8 (by decide)]; exact b1, by rw [H 9 (by decide)]; exact b2, by rw [H 10 (by decide)]; exact b3, by rw [H 11 (by decide)]; exact b4, by rw [H 12 (by decide)]; exact b5, by rw [H 13 (by decide)]; exact b6, key 20 (by decide) b7, key 21 (by decide) b8, key 22 (by decide) b9⟩
  · rw [rd, if_neg (fun z => hl z.2)]
  · intro t' v' o'
    have hf : fI (mset S k t x) t' = fI S t' := by unfold fI; rw [H 9 (by decide)]
    have hn : fN (mset S k t x) t' = fN S t' := by unfold fN; rw [hf, H 5 (by decide)]
    rw [H 13 (by decide)] at o'
    obtain ⟨b1, b2, b3, b4⟩ := e t' ((vT_c H (by decide)).mp v') o'
    rw [hf, hn, H 4 (by decide)]
    refine ⟨b1, ?_, ?_, ?_⟩
    · rw [rd]
      split
      · rename_i q; obtain ⟨q1, q2⟩ := q; subst q2; exact h14 q1.symm o'
      · exact b2
    · rw [rd]
      split
      · rename_i q; obtain ⟨q1, q2⟩ := q; subst q2; exact h15 q1.symm o'
      · exact b3
    · intro s hs
      rw [rd]
      split
      · rename_i q; obtain ⟨q1, q2⟩ := q; subst q2; exact h19 q1.symm o' s hs
      · exact b4 s hs
/-- a sender closes -/
theorem mInv_close {S : MS} {t k0 c : Nat} {x : Int32} (I : mInv S) (hv : vT S t) (hx : bw x 1 4) (hH : mHas 40 42 S (t / 320) k0 c t) : mInv (mRm 40 42 (mset S 13 t x) (t / 320) k0 c (c - 1)) := by
  obtain ⟨a, b, cc, d, e, f, g, h, i, j⟩ := I
  have H : ∀ k', k' ∉ [13, 40, 42] → mRm 40 42 (mset S 13 t x) (t / 320) k0 c (c - 1) k' = S k' := fun k' h => funext fun l => by
    simp only [List.mem_cons, List.not_mem_nil, or_false, not_or] at h
    rw [mRm_o h.2.1 h.2.2, mset_k h.1]
  have r13 : ∀ l, mRm 40 42 (mset S 13 t x) (t / 320) k0 c (c - 1) 13 l = if l = t then x else S 13 l := fun l => by rw [mRm_o (by decide) (by decide), mset_if rfl]
  have hx5 : ¬ x = nI 5 := by
    obtain ⟨n, q1, q2, rfl⟩ := hx
    rw [nI_eq (by omega) (by decide)]; omega
  refine ⟨iG_c H (by decide) a, iF_c H (by decide) b, ?_, iZ_t H (by decide) hv (fun k' hk' h1 h2 l hl => ?_) d, ?_, ?_, iM_c H (by decide) g, iR_c H (by decide) h, iP_c H (by decide) i, iU_c H (by decide) j⟩
  · intro t' v'
    obtain ⟨b1, b2, b3, b4, b5, b6, b7, b8, b9⟩ := cc t' ((vT_c H (by decide)).mp v')
    refine ⟨by rw [H 8 (by decide)]; exact b1, by rw [H 9 (by decide)]; exact b2, by rw [H 10 (by decide)]; exact b3, by rw [H 11 (by decide)]; exact b4, by rw [H 12 (by decide)]; exact b5, ?_, by rw [H 20 (by decide)]; exact b7, by rw [H 21 (by decide)]; exact b8, by rw [H 22 (by decide)]; exact b9⟩
    rw [r13]
    split
    · exact hx.m (by omega) (by omega)
    · exact b6
  · have : k' = 13 := by
      simp only [List.mem_cons, List.not_mem_nil, or_false] at hk'
      omega
    subst this
    rw [r13, if_neg hl]
  · intro t' v' o'
    have hf : fI (mRm 40 42 (mset S 13 t x) (t / 320) k0 c (c - 1)) t' = fI S t' := by unfold fI; rw [H 9 (by decide)]
    have hn : fN (mRm 40 42 (mset S 13 t x) (t / 320) k0 c (c - 1)) t' = fN S t' := by unfold fN; rw [hf, H 5 (by decide)]
    rw [r13] at o'
    have o2 : S 13 t' = nI 5 := by
      split at o'
      · exact absurd o' hx5
      · exact o'
    rw [hf, hn, H 4 (by decide), H 14 (by decide), H 15 (by decide), H 19 (by decide)]
    exact e t' ((vT_c H (by decide)).mp v') o2
  · have h640 := hv.1
    refine iRw_rm (t := t) f (by omega) rfl h640 hH (fun t' => vT_c H (by decide)) (fun t' _ => ?_) (fun l => ?_) (fun l => ?_)
    · unfold opS
      rw [r13]
      split
      · rename_i q; exact ⟨fun w => absurd w hx5, fun w => absurd q w.2⟩
      · rename_i q; exact ⟨fun w => ⟨w, q⟩, fun w => w.1⟩
    · unfold mRm
      split
      · rename_i q; rw [if_pos q.2, mset_k (by decide)]
      · rename_i q; rw [if_neg (fun z => q ⟨rfl, z⟩), if_neg (by omega), mset_k (by decide)]
    · unfold mRm
      rw [if_neg (by omega)]
      split
      · rename_i q; rw [if_pos q.2]
      · rename_i q; rw [if_neg (fun z => q ⟨rfl, z⟩), mset_k (by decide)]
/-! units -/
theorem mSend_L {S : MS} {u : Nat} {kind to t a b c : Int32} : ∀ k, k ∉ [44, 45] → mSend S u kind to t a b c k = S k := fun k h => funext fun j => by
  simp only [List.mem_cons, List.not_mem_nil, or_false, not_or] at h
  exact mSend_o h.2 h.1
theorem mSendT_L {S : MS} {u : Nat} {kind to t a b c ty : Int32} : ∀ k, k ∉ [44, 45] → mSendT S u kind to t a b c ty k = S k := fun k h => funext fun j => by
  simp only [List.mem_cons, List.not_mem_nil, or_false, not_or] at h
  exact mSendT_o h.2 h.1
theorem mSend_r {S : MS} {u : Nat} {kind to t a b c : Int32} (hu : u < 24) {i : Nat} (hi : i < 11) : mSend S u kind to t a b c 45 (11 * u + i) = [kind, to, t, a, b, c].getD i 0 := by
  unfold mSend mRow
  rw [if_neg (by omega), mset_k (by decide), if_pos ⟨rfl, by omega, by omega⟩]
  congr 1
  omega
theorem mSend_lo {S : MS} {u : Nat} {kind to t a b c : Int32} {j : Nat} (hj : j < 11 * u) : mSend S u kind to t a b c 45 j = S 45 j := by
  unfold mSend mRow
  split
  · rfl
  · rw [mset_k (by decide), if_neg (by omega)]
theorem mSendT_r {S : MS} {u : Nat} {kind to t a b c ty : Int32} (hu : u < 24) {i : Nat} (hi : i < 11) : mSendT S u kind to t a b c ty 45 (11 * u + i) = [kind, to, t, a, b, c, ty].getD i 0 := by
  rw [mSendT_n (by omega), mset_if rfl]
  by_cases q : i = 6
  · subst q; rw [if_pos rfl]; rfl
  · rw [if_neg (by omega), mSend_r hu hi]
    match i, hi, q with
    | 0, _, _ => rfl
    | 1, _, _ => rfl
    | 2, _, _ => rfl
    | 3, _, _ => rfl
    | 4, _, _ => rfl
    | 5, _, _ => rfl
    | 6, _, q => exact absurd rfl q
    | n + 7, _, _ => rfl
theorem mSendT_lo {S : MS} {u : Nat} {kind to t a b c ty : Int32} {j : Nat} (hj : j < 11 * u) : mSendT S u kind to t a b c ty 45 j = S 45 j := by
  unfold mSendT
  split
  · rfl
  · rw [mset_j rfl (by omega), mSend_lo hj]
theorem mInv_sendT {S : MS} {u t : Nat} {kind to a b c ty : Int32} (I : mInv S) (hu : S 44 0 = nI u) (hu24 : u ≤ 24) (hv : vT S t) (hK : u < 24 → uK (mSendT S u kind to (nI t) a b c ty) (11 * u) t) : mInv (mSendT S u kind to (nI t) a b c ty) := by
  by_cases q : u = 24
  · rw [mSendT_24 q]; exact I
  · refine mInv_snd I mSendT_L hu (by omega) ?_ (fun j hj => mSendT_lo hj) ⟨t, mSendT_r (by omega) (by decide), (vT_c mSendT_L (by decide)).mpr hv, hK (by omega)⟩
    rw [mSendT_u hu hu24, if_neg q]
theorem mInv_send {S : MS} {u t : Nat} {kind to a b c : Int32} (I : mInv S) (hu : S 44 0 = nI u) (hu24 : u ≤ 24) (hv : vT S t) (hK : u < 24 → uK (mSend S u kind to (nI t) a b c) (11 * u) t) : mInv (mSend S u kind to (nI t) a b c) := by
  by_cases q : u = 24
  · rw [mSend_24 q]; exact I
  · refine mInv_snd I mSend_L hu (by omega) ?_ (fun j hj => mSend_lo hj) ⟨t, mSend_r (by omega) (by decide), (vT_c mSend_L (by decide)).mpr hv, hK (by omega)⟩
    rw [mSend_u hu hu24, if_neg q]
theorem mInv_meta {S : MS} {u t : Nat} (I : mInv S) (hu : S 44 0 = nI u) (hu24 : u ≤ 24) (hv : vT S t) : mInv (mMeta S u t) := by
  refine mInv_sendT I hu hu24 hv (fun h => Or.inl ?_)
  exact ⟨mSendT_r (i := 0) h (by decide), mSendT_r (i := 1) h (by decide), (mSendT_r (i := 3) h (by decide)).trans (mSendT_o (by decide) (by decide)).symm, (mSendT_r (i := 4) h (by decide)).trans (mSendT_o (by decide) (by decide)).symm, (mSendT_r (i := 5) h (by decide)).trans (mSendT_o (by decide) (by decide)).symm, (mSendT_r (i := 6) h (by decide)).trans (mSendT_o (by decide) (by decide)).symm⟩
theorem mLen_b {n s : Nat} (h : 4 * s < n) : 1 ≤ mLen n s ∧ mLen n s ≤ 4 := by
  unfold mLen
  split <;> omega
theorem mInv_data {S : MS} {u t f n s : Nat} (I : mInv S) (hu : S 44 0 = nI u) (hu24 : u ≤ 24) (hv : vT S t) (hs : 4 * s < n) (hn : n ≤ 64) : mInv (mData S u t f n s) := by
  refine mInv_sendT I hu hu24 hv (fun h => Or.inr (Or.inl ?_))
  refine ⟨mSendT_r (i := 0) h (by decide), mSendT_r (i := 1) h (by decide), ?_, ?_, (mSendT_r (i := 6) h (by decide)).trans (mSendT_o (by decide) (by decide)).symm⟩
  · rw [mSendT_r h (by decide)]; exact bw.of (Nat.zero_le _) (by omega)
  · rw [mSendT_r h (by decide)]; exact bw.of (mLen_b hs).1 (mLen_b hs).2
theorem mInv_ack {S : MS} {u t e a : Nat} (I : mInv S) (hu : S 44 0 = nI u) (hu24 : u ≤ 24) (hv : vT S t) (he : e < 2) (ha : 3 ≤ a) (ha2 : a ≤ 4) : mInv (mSend S u (nI 5) (nI e) (nI t) (nI a) (nI 0) (nI 0)) := by
  refine mInv_send I hu hu24 hv (fun h => Or.inr (Or.inr (Or.inr (Or.inr (Or.inl ?_)))))
  refine ⟨mSend_r (i := 0) h (by decide), ?_, ?_⟩
  · rw [mSend_r h (by decide)]; exact bw.of (Nat.zero_le _) (by omega)
  · rw [mSend_r h (by decide)]; exact bw.of ha ha2
theorem mInv_fin {S : MS} {u t : Nat} {x : Int32} (I : mInv S) (hu : S 44 0 = nI u) (hu24 : u ≤ 24) (hv : vT S t) (hx : bw x 1 4) : mInv (mSend S u (nI 4) (nI (t / 320)) (nI t) x (nI 0) (nI 0)) := by
  refine mInv_send I hu hu24 hv (fun h => Or.inr (Or.inr (Or.inr (Or.inl ?_))))
  refine ⟨mSend_r (i := 0) h (by decide), mSend_r h (by decide), ?_⟩
  rw [mSend_r h (by decide)]; exact hx
