/-! ===== how the invariant is kept: files ===== -/
theorem mInv_file {S S' : MS} {F : Nat} (I : mInv S) (H : ∀ k, k ∉ [4, 5, 6] → S' k = S k) (h4 : ∀ j, j ≠ F → S' 4 j = S 4 j) (h5 : ∀ j, j ≠ F → S' 5 j = S 5 j) (b4 : bw (S' 4 F) 0 1) (b5 : bw (S' 5 F) 0 64) (hno : ∀ t, vT S t → S 13 t = nI 5 → fI S t ≠ F) : mInv S' := by
  obtain ⟨a, b, c, d, e, f, g, h, i, j⟩ := I
  refine ⟨iG_c H (by decide) a, ?_, iT_c H (by decide) c, iZ_c H (by decide) (by decide) d, ?_, iL_c H (by decide) f, iM_c H (by decide) g, iR_c H (by decide) h, iP_c H (by decide) i, iU_c H (by decide) j⟩
  · intro G hG
    by_cases q : G = F
    · subst q; exact ⟨b4, b5⟩
    · rw [h4 G q, h5 G q]; exact b G hG
  · intro t hv ho
    rw [vT_c H (by decide)] at hv
    rw [H 13 (by decide)] at ho
    have q := hno t hv ho
    have e1 : fI S' t = fI S t := fI_c H (by decide)
    have e2 : fN S' t = fN S t := by unfold fN; rw [e1, h5 _ q]
    rw [e1, e2, h4 _ q, H 14 (by decide), H 15 (by decide), H 19 (by decide)]
    exact e t hv ho
theorem noLock {S : MS} {e d cs : Nat} (I : mInv S) (he : e < 2) (hd : d < 6) (hcs : S 42 e = nI cs) (hcs3 : cs ≤ 3) (hL : ¬ mLock S e (nI d) cs) : ∀ t, vT S t → S 13 t = nI 5 → fI S t ≠ 6 * e + d := by
  intro t hv ho q
  obtain ⟨f, f1, f2, f3⟩ := (I.T hv).2.1
  have h640 := hv.1
  unfold fI at q
  rw [f3, nI_clamp (by omega)] at q
  have e1 : t / 320 = e := by omega
  have e2 : f = d := by omega
  obtain ⟨c, h1, h2, h3, h4, h5⟩ := I.L e he
  have : c = cs := (nI_eq (by omega) (by omega)).mp (h2.symm.trans hcs)
  subst this
  obtain ⟨k, k1, k2⟩ := h5 t hv e1 ho
  refine hL ⟨k, k1, ?_⟩
  rw [k2, nI_clamp (by omega), f3, e2]
theorem mInv_24 {S : MS} {t : Nat} {x : Int32} (I : mInv S) (hv : vT S t) (hx : bw x 0 2) : mInv (mset S 24 t x) := by
  have H : ∀ k, k ∉ [24] → mset S 24 t x k = S k := mset_L
  obtain ⟨a, b, c, d, e, f, g, h, i, j⟩ := I
  refine ⟨iG_c H (by decide) a, iF_c H (by decide) b, iT_c H (by decide) c, iZ_t H (by decide) hv (fun k' hk' _ _ l hl => ?_) d, iS_c H (by decide) e, iL_c H (by decide) f, iM_c H (by decide) g, ?_, iP_c H (by decide) i, iU_c H (by decide) j⟩
  · simp only [List.mem_cons, List.not_mem_nil, or_false] at hk'
    subst hk'
    exact mset_j rfl hl
  · intro t' hv'
    rw [vT_c H (by decide)] at hv'
    obtain ⟨h1, h2, h3⟩ := h t' hv'
    have es : sP (mset S 24 t x) t' = sP S t' := by unfold sP; rw [H 25 (by decide)]
    rw [es, opR_c H (by decide), H 23 (by decide)]
    refine ⟨h1, ?_, fun o => ?_⟩
    · rw [mset_if rfl]
      split
      · exact hx
      · exact h2
    · unfold iRp
      simp only [H 25 (by decide), H 35 (by decide), H 36 (by decide), H 37 (by decide), H 27 (by decide), H 32 (by decide), H 33 (by decide), H 34 (by decide), H 10 (by decide), H 11 (by decide), H 12 (by decide), H 39 (by decide), H 29 (by decide), H 26 (by decide), H 23 (by decide)]
      exact h3 o
theorem mStore_L {S : MS} {f p n : Nat} : ∀ k, k ∉ [4, 5, 6] → mStore S f p n k = S k := fun k h => funext fun j => by
  simp only [List.mem_cons, List.not_mem_nil, or_false, not_or] at h
  unfold mStore
  rw [mCpB_o h.2.2, mset_k h.2.1, mset_k h.1]
theorem mInv_store {S : MS} {f p n : Nat} (I : mInv S) (hn : n ≤ 64) (hno : ∀ t, vT S t → S 13 t = nI 5 → fI S t ≠ f) : mInv (mStore S f p n) := by
  have r4 : ∀ j, mStore S f p n 4 j = if j = f then nI 1 else S 4 j := fun j => by
    unfold mStore
    rw [mCpB_o (by decide), mset_k (by decide), mset_if rfl]
  have r5 : ∀ j, mStore S f p n 5 j = if j = f then nI n else S 5 j := fun j => by
    unfold mStore
    rw [mCpB_o (by decide), mset_if rfl, mset_k (by decide)]
  refine mInv_file I mStore_L (fun j hj => by rw [r4, if_neg hj]) (fun j hj => by rw [r5, if_neg hj]) ?_ ?_ hno
  · rw [r4, if_pos rfl]; exact bw.of (by decide) (by decide)
  · rw [r5, if_pos rfl]; exact bw.of (by omega) hn
theorem mGrant_L {S : MS} {t e f p ot n cs : Nat} : ∀ k, k ∉ [4, 5, 6, 24] → mGrant S t e f p ot n cs k = S k := fun k h => funext fun j => by
  simp only [List.mem_cons, List.not_mem_nil, or_false, not_or] at h
  exact mGrant_o h.1 h.2.1 h.2.2.1 h.2.2.2
theorem mInv_grant {S : MS} {t e f p ot n cs : Nat} (I : mInv S) (hv : vT S t) (he : e < 2) (hot : ot < 6) (hcs : S 42 e = nI cs) (hcs3 : cs ≤ 3) (hn : n ≤ 64) : mInv (mGrant S t e f p ot n cs) := by
  unfold mGrant
  split
  · exact I
  · split
    · rename_i q
      have hno := noLock I he hot hcs hcs3 q.1
      have I1 := mInv_24 (x := nI 1) I hv (bw.of (by decide) (by decide))
      have hno1 : ∀ t', vT (mset S 24 t (nI 1)) t' → mset S 24 t (nI 1) 13 t' = nI 5 → fI (mset S 24 t (nI 1)) t' ≠ 6 * e + ot := fun t' v o => by
        rw [fI_c mset_L (by decide)]
        exact hno t' ((vT_c mset_L (by decide)).mp v) (by rw [mset_k (by decide)] at o; exact o)
      unfold mGr1
      generalize mset S 24 t (nI 1) = S1 at I1 hno1 ⊢
      split
      · refine mInv_file I1 (fun k hk => mset_kk (fun z => hk (by rw [z]; decide))) (fun j hj => mset_j rfl hj) (fun j _ => mset_k (by decide)) ?_ ?_ hno1
        · rw [mset_s]; exact bw.of (by decide) (by decide)
        · rw [mset_k (by decide)]
          exact (I1.2.1 (6 * e + ot) (by omega)).2
      · refine mInv_file I1 (fun k hk => funext fun j => ?_) (fun j hj => ?_) (fun j hj => ?_) ?_ ?_ hno1
        · simp only [List.mem_cons, List.not_mem_nil, or_false, not_or] at hk
          rw [mCpy_o hk.2.2, mset_k hk.2.1, mset_k hk.1]
        · rw [mCpy_o (by decide), mset_k (by decide), mset_j rfl hj]
        · rw [mCpy_o (by decide), mset_j rfl hj, mset_k (by decide)]
        · rw [mCpy_o (by decide), mset_k (by decide), mset_s]; exact bw.of (by decide) (by decide)
        · rw [mCpy_o (by decide), mset_s]; exact bw.of (by omega) hn
    · exact mInv_24 I hv (bw.of (by decide) (by decide))
/-! what a receiver hears -/
theorem mInv_cpl {S : MS} {u t p d ot n cs k0 c : Nat} {y : Int32} (I : mInv S) (hv : vT S t) (ho : opR S t) (X : mTH S u t p d ot n cs k0 c) : mInv (mCpl S u t p d ot n cs k0 c y) := by
  obtain ⟨ht, hp, hp6, hn64, hot6, hd6, hcs3, hcs, hsn, hu, hu24, hH⟩ := X
  unfold mCpl
  split
  · split
    · exact mInv_finish I hv ho hp hp6 hu hu24 (bw.of (by decide) (by decide)) hH
    · rename_i q
      have I1 := mInv_store (p := p) I hn64 (noLock I (by omega) hd6 hcs hcs3 q)
      unfold mCplT
      have L1 := mStore_L (S := S) (f := 6 * (1 - t / 320) + d) (p := p) (n := n)
      generalize mStore S (6 * (1 - t / 320) + d) p n = S1 at I1 L1
      have v1 : vT S1 t := (vT_c L1 (by decide)).mpr hv
      have I2 := mInv_grant (t := t) (e := 1 - t / 320) (f := 6 * (1 - t / 320) + d) (p := p) (ot := ot) (n := n) (cs := cs) I1 v1 (by omega) hot6 (by rw [L1 42 (by decide)]; exact hcs) hcs3 hn64
      have L2 := mGrant_L (S := S1) (t := t) (e := 1 - t / 320) (f := 6 * (1 - t / 320) + d) (p := p) (ot := ot) (n := n) (cs := cs)
      generalize mGrant S1 t (1 - t / 320) (6 * (1 - t / 320) + d) p ot n cs = S2 at I2 L2
      have L : ∀ k, k ∉ [4, 5, 6, 24] → S2 k = S k := fun k hk => (L2 k hk).trans (L1 k (fun z => hk (by revert z; simp only [List.mem_cons, List.not_mem_nil, or_false]; omega)))
      exact mInv_finish I2 ((vT_c L (by decide)).mpr hv) ((opR_c L (by decide)).mpr ho) (by rw [L 25 (by decide)]; exact hp) hp6 (by rw [L 44 (by decide)]; exact hu) hu24 (bw.of (by decide) (by decide)) (mHas_c L (by decide) hH)
  · exact mInv_finish I hv ho hp hp6 hu hu24 (bw.of (by decide) (by decide)) hH
theorem mInv_t6 {S : MS} {u t p d ot n cs k0 c : Nat} {x y : Int32} (I : mInv S) (hv : vT S t) (ho : opR S t) (X : mTH S u t p d ot n cs k0 c) (h29 : ¬ x = 0 → S 29 p = 0) : mInv (mT6 S u t p d ot n cs k0 c x y) := by
  unfold mT6
  split
  · exact I
  · rename_i h37
    have hN : ¬ x = 0 → mInv (mNak S u t p n) := fun hx => by
      obtain ⟨ht, hp, hp6, hn64, hot6, hd6, hcs3, hcs, hsn, hu, hu24, hH⟩ := X
      refine mInv_nak I hv ho hp hp6 hu hu24 hn64 ?_ h37
      rw [h29 hx]
      exact bw.of (n := 1) (by decide) (by decide)
    split
    · split
      · exact I
      · rename_i hx
        split
        · exact hN hx
        · exact I
    · split
      · split
        · exact I
        · rename_i hx
          split
          · exact hN hx
          · exact I
      · exact mInv_cpl I hv ho X
theorem mE1_L {S : MS} {p : Nat} : ∀ k, k ∉ [27, 28, 30, 37] → mE1 S p k = S k := fun k h => funext fun j => by
  simp only [List.mem_cons, List.not_mem_nil, or_false, not_or] at h
  unfold mE1
  rw [mset_k h.2.2.1, mset_k h.2.1, mset_k h.1, mset_k h.2.2.2]
theorem mInv_e1 {S : MS} {t p : Nat} (I : mInv S) (hv : vT S t) (ho : opR S t) (hp : S 25 t = nI p) (hp6 : p < 6) (hb : bw (S 46 3) 0 64) : mInv (mE1 S p) := by
  have L := mE1_L (S := S) (p := p)
  refine mInv_p1 I hv ho hp hp6 (fun k h => L k (fun z => h (by revert z; simp only [List.mem_cons, List.not_mem_nil, or_false]; omega))) (fun k _ j hj => ?_) (fun j _ => by rw [L 39 (by decide)]) (fun R => ?_)
  · by_cases q : k ∈ [27, 28, 30, 37]
    · have e : ∀ (S : MS) (kk : Nat) (x : Int32), kk ∈ [27, 28, 30, 37] → mset S kk p x k j = S k j := fun S kk x hkk => by
        by_cases w : k = kk
        · subst w; exact mset_j ((by decide : ∀ z ∈ [27, 28, 30, 37], mIs z = true) k hkk) hj
        · exact mset_k w
      unfold mE1
      rw [e _ 30 _ (by decide), e _ 28 _ (by decide), e _ 27 _ (by decide), e _ 37 _ (by decide)]
    · rw [L k q]
  · obtain ⟨b1, b2, b3, b4, b5, b6, b7, b8, b9, b10, b11, b12⟩ := R
    have e37 : mE1 S p 37 p = nI 1 := by unfold mE1; rw [mset_k (by decide), mset_k (by decide), mset_k (by decide), mset_s]
    have e27 : mE1 S p 27 p = S 46 3 := by unfold mE1; rw [mset_k (by decide), mset_k (by decide), mset_s]
    unfold iRp
    simp only [L 25 (by decide), L 35 (by decide), L 36 (by decide), e37, e27, L 32 (by decide), L 33 (by decide), L 34 (by decide), L 10 (by decide), L 11 (by decide), L 12 (by decide), L 39 (by decide), L 29 (by decide), L 26 (by decide), L 23 (by decide)]
    exact ⟨b1, b2, b3, b4, b5, bw.of (by decide) (by decide), b7, fun _ => hb, b9, b10, b11, fun _ z => absurd z (by decide)⟩
theorem mTH_L {S S' : MS} {L : List Nat} {u t p d ot n cs k0 c : Nat} (H : ∀ k, k ∉ L → S' k = S k) (dd : ∀ k ∈ [25, 40, 41, 42, 43, 44], k ∉ L) (X : mTH S u t p d ot n cs k0 c) : mTH S' u t p d ot n cs k0 c := mTH_fr X (fun k j hk => by rw [H k (dd k (by simp only [List.mem_cons, List.not_mem_nil, or_false]; omega))])
theorem mInv_t5 {S : MS} {u t p d ot n cs k0 c : Nat} {K y : Int32} (I : mInv S) (hv : vT S t) (ho : S 23 t = nI 5) (X : mTH S u t p d ot n cs k0 c) (hb : K = nI 3 → bw (S 46 3) 0 64) : mInv (mT5 S u t p d ot n cs k0 c K y) := by
  unfold mT5
  split
  · rename_i hK
    split
    · rename_i h37
      have z := (I.p hv (Or.inl ho) X.2.1 X.2.2.1).2.2.2.2.2.2.2.2.2.2.2 ho h37
      exact mInv_t6 (mInv_e1 I hv (Or.inl ho) X.2.1 X.2.2.1 (hb hK)) ((vT_c mE1_L (by decide)).mpr hv) ((opR_c mE1_L (by decide)).mpr (Or.inl ho)) (mTH_L mE1_L (by decide) X) (fun _ => by rw [mE1_L 29 (by decide)]; exact z)
    · exact mInv_t6 I hv (Or.inl ho) X (fun q => absurd rfl q)
  · exact mInv_t6 I hv (Or.inl ho) X (fun q => absurd rfl q)
theorem mInv_t4 {S : MS} {u t p d ot n cs k0 c : Nat} {K y : Int32} (I : mInv S) (hv : vT S t) (ho : S 23 t = nI 5) (X : mTH S u t p d ot n cs k0 c) (hb : K = nI 3 → S 46 3 = -1 ∨ bw (S 46 3) 0 64) : mInv (mT4 S u t p d ot n cs k0 c K y) := by
  unfold mT4
  split
  · rename_i hK
    split
    · rename_i h0
      refine mInv_t5 I hv ho X (fun _ => ?_)
      rcases hb hK with w | w
      · rw [w] at h0; exact absurd h0 (by decide)
      · exact w
    · exact mInv_finish I hv (Or.inl ho) X.2.1 X.2.2.1 X.2.2.2.2.2.2.2.2.2.1 X.2.2.2.2.2.2.2.2.2.2.1 (bw.of (by decide) (by decide)) X.2.2.2.2.2.2.2.2.2.2.2
  · rename_i hK
    exact mInv_t5 I hv ho X (fun z => absurd z hK)
theorem mD1_L {S : MS} {p s : Nat} : ∀ k, k ∉ [38, 39] → mD1 S p s k = S k := fun k h => funext fun j => by
  simp only [List.mem_cons, List.not_mem_nil, or_false, not_or] at h
  unfold mD1
  rw [mset_k h.1, mset_k h.2]
theorem mInv_d1 {S : MS} {t p s : Nat} (I : mInv S) (hv : vT S t) (ho : opR S t) (hp : S 25 t = nI p) (hp6 : p < 6) (hs : s < 16) (hb : bw (S 46 4) 1 4) : mInv (mD1 S p s) := by
  have L := mD1_L (S := S) (p := p) (s := s)
  have r39 : ∀ j, mD1 S p s 39 j = if j = 16 * p + s then S 46 4 else S 39 j := fun j => by unfold mD1; rw [mset_k (by decide), mset_if rfl]
  refine mInv_pl I (L := [38, 39]) L (by decide) (fun t' v' o' R => ?_)
  obtain ⟨b1, b2, b3, b4, b5, b6, b7, b8, b9, b10, b11, b12⟩ := R
  unfold iRp
  simp only [L 25 (by decide), L 35 (by decide), L 36 (by decide), L 37 (by decide), L 27 (by decide), L 32 (by decide), L 33 (by decide), L 34 (by decide), L 10 (by decide), L 11 (by decide), L 12 (by decide), L 29 (by decide), L 26 (by decide), L 23 (by decide)]
  refine ⟨b1, b2, b3, b4, b5, b6, b7, b8, b9, fun s' hs' => ?_, b11, b12⟩
  rw [r39]
  split
  · exact hb.m (by omega) (by omega)
  · exact b10 s' hs'
theorem mInv_t3 {S : MS} {u t p d ot n cs k0 c s : Nat} {K y : Int32} (I : mInv S) (hv : vT S t) (ho : S 23 t = nI 5) (X : mTH S u t p d ot n cs k0 c) (hb : K = nI 3 → S 46 3 = -1 ∨ bw (S 46 3) 0 64) (hd : K = nI 2 → s < 16 ∧ bw (S 46 4) 1 4) : mInv (mT3 S u t p d ot n cs k0 c s K y) := by
  unfold mT3
  split
  · rename_i hK
    split
    · refine mInv_t4 (mInv_d1 I hv (Or.inl ho) X.2.1 X.2.2.1 (hd hK).1 (hd hK).2) ((vT_c mD1_L (by decide)).mpr hv) (by rw [mD1_L 23 (by decide)]; exact ho) (mTH_L mD1_L (by decide) X) (by rw [mD1_L 46 (by decide)]; exact hb)
    · exact mInv_t4 I hv ho X hb
  · exact mInv_t4 I hv ho X hb
theorem mK1_L {S : MS} {p : Nat} : ∀ k, k ∉ [32, 33, 34, 36] → mK1 S p k = S k := fun k h => funext fun j => by
  simp only [List.mem_cons, List.not_mem_nil, or_false, not_or] at h
  unfold mK1
  rw [mset_k h.2.2.1, mset_k h.2.1, mset_k h.1, mset_k h.2.2.2]
theorem mInv_k1 {S : MS} {t p : Nat} (I : mInv S) (hv : vT S t) (ho : opR S t) (hp : S 25 t = nI p) (hp6 : p < 6) (hb : S 46 3 = S 10 t ∧ S 46 4 = S 11 t ∧ S 46 5 = S 12 t) : mInv (mK1 S p) := by
  have L := mK1_L (S := S) (p := p)
  refine mInv_p1 I hv ho hp hp6 (fun k h => L k (fun z => h (by revert z; simp only [List.mem_cons, List.not_mem_nil, or_false]; omega))) (fun k _ j hj => ?_) (fun j _ => by rw [L 39 (by decide)]) (fun R => ?_)
  · by_cases q : k ∈ [32, 33, 34, 36]
    · have e : ∀ (S : MS) (kk : Nat) (x : Int32), kk ∈ [32, 33, 34, 36] → mset S kk p x k j = S k j := fun S kk x hkk => by
        by_cases w : k = kk
        · subst w; exact mset_j ((by decide : ∀ z ∈ [32, 33, 34, 36], mIs z = true) k hkk) hj
        · exact mset_k w
      unfold mK1
      rw [e _ 34 _ (by decide), e _ 33 _ (by decide), e _ 32 _ (by decide), e _ 36 _ (by decide)]
    · rw [L k q]
  · obtain ⟨b1, b2, b3, b4, b5, b6, b7, b8, b9, b10, b11, b12⟩ := R
    have e36 : mK1 S p 36 p = nI 1 := by unfold mK1; rw [mset_k (by decide), mset_k (by decide), mset_k (by decide), mset_s]
    have e32 : mK1 S p 32 p = S 46 3 := by unfold mK1; rw [mset_k (by decide), mset_k (by decide), mset_s]
    have e33 : mK1 S p 33 p = S 46 4 := by unfold mK1; rw [mset_k (by decide), mset_s]
    have e34 : mK1 S p 34 p = S 46 5 := by unfold mK1; rw [mset_s]
    unfold iRp
    simp only [L 25 (by decide), L 35 (by decide), e36, e32, e33, e34, L 37 (by decide), L 27 (by decide), L 10 (by decide), L 11 (by decide), L 12 (by decide), L 39 (by decide), L 29 (by decide), L 26 (by decide), L 23 (by decide)]
    exact ⟨b1, b2, b3, b4, bw.of (by decide) (by decide), b6, b7, b8, fun _ => hb, b10, b11, b12⟩
theorem mInv_t2 {S : MS} {u t p d ot n cs k0 c s : Nat} {K y : Int32} (I : mInv S) (hv : vT S t) (ho : S 23 t = nI 5) (X : mTH S u t p d ot n cs k0 c) (hb : K = nI 3 → S 46 3 = -1 ∨ bw (S 46 3) 0 64) (hd : K = nI 2 → s < 16 ∧ bw (S 46 4) 1 4) (hm : K = nI 1 → S 46 3 = S 10 t ∧ S 46 4 = S 11 t ∧ S 46 5 = S 12 t) : mInv (mT2 S u t p d ot n cs k0 c s K y) := by
  unfold mT2
  split
  · rename_i hK
    split
    · refine mInv_t3 (mInv_k1 I hv (Or.inl ho) X.2.1 X.2.2.1 (hm hK)) ((vT_c mK1_L (by decide)).mpr hv) (by rw [mK1_L 23 (by decide)]; exact ho) (mTH_L mK1_L (by decide) X) (by rw [mK1_L 46 (by decide)]; exact hb) (by rw [mK1_L 46 (by decide)]; exact hd)
    · exact mInv_t3 I hv ho X hb hd
  · exact mInv_t3 I hv ho X hb hd
/-- what came, for a receiver -/
def cR (S : MS) (t s : Nat) (K : Int32) : Prop := (K = nI 3 → S 46 3 = -1 ∨ bw (S 46 3) 0 64) ∧ (K = nI 2 → s < 16 ∧ bw (S 46 4) 1 4) ∧ (K = nI 1 → S 46 3 = S 10 t ∧ S 46 4 = S 11 t ∧ S 46 5 = S 12 t)
theorem cR_c {S S' : MS} {L : List Nat} {t s : Nat} {K : Int32} (H : ∀ k, k ∉ L → S' k = S k) (d : ∀ k ∈ [10, 11, 12, 46], k ∉ L) (C : cR S t s K) : cR S' t s K := by
  unfold cR at C ⊢
  rw [H 46 (d 46 (by decide)), H 10 (d 10 (by decide)), H 11 (d 11 (by decide)), H 12 (d 12 (by decide))]
  exact C
theorem mInv_t1b {S : MS} {u t p d ot n cs k0 c s : Nat} {K y : Int32} (I : mInv S) (hv : vT S t) (X : S 23 t = nI 5 → mTH S u t p d ot n cs k0 c) (C : cR S t s K) : mInv (mT1b S u t p d ot n cs k0 c s K y) := by
  unfold mT1b
  split
  · rename_i ho
    have C' := cR_c (S' := mset S 31 p (S 1 0)) mset_L (by decide) C
    exact mInv_t2 (mInv_n I (fun k hk => mset_kk (fun z => hk (by rw [z]; decide)))) ((vT_c mset_L (by decide)).mpr hv) (by rw [mset_k (by decide)]; exact ho) (mTH_L mset_L (by decide) (X ho)) C'.1 C'.2.1 C'.2.2
  · exact I
theorem mInv_t1 {S : MS} {e u t p d ot n cs k0 c s : Nat} {K y : Int32} (I : mInv S) (hv : vT S t) (he : e < 2) (hu : S 44 0 = nI u) (hu24 : u ≤ 24) (X : S 23 t = nI 5 → mTH S u t p d ot n cs k0 c) (C : cR S t s K) : mInv (mT1 S e u t p d ot n cs k0 c s K y) := by
  unfold mT1
  split
  · split
    · refine mInv_t1b (mInv_ack I hu hu24 hv (by omega) (by decide) (by decide)) ((vT_c mSend_L (by decide)).mpr hv) (fun q => ?_) (cR_c mSend_L (by decide) C)
      rw [mSend_o (by decide) (by decide)] at q
      obtain ⟨ht, hp, hp6, hn64, hot6, hd6, hcs3, hcs, hsn, hu, hu24, hH⟩ := X q
      exact ⟨ht, by rw [mSend_o (by decide) (by decide)]; exact hp, hp6, hn64, hot6, hd6, hcs3, by rw [mSend_o (by decide) (by decide)]; exact hcs, fun k hk => by rw [mSend_o (by decide) (by decide)]; exact hsn k hk, mSend_u hu hu24, by split <;> omega, mHas_o hH (fun j => mSend_o (by decide) (by decide)) (fun j => mSend_o (by decide) (by decide))⟩
    · exact mInv_t1b I hv X C
  · exact mInv_t1b I hv X C
