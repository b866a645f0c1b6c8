/-! ===== the law's calls, one by one: class and reference answer alike ===== -/
def iJ (K : Nat) (S : MS) : Prop := cI K S ∧ iA S ∧ iW S
theorem iJ_L {K : Nat} {S S' : MS} {L : List Nat} (J : iJ K S) (I : mInv S') (H : ∀ k, k ∉ L → S' k = S k) (d : ∀ k ∈ [7, 8, 13, 14, 15, 21, 23, 24, 40, 42, 44, 45], k ∉ L) : iJ (K + 1) S' :=
  ⟨cI_fr J.1 I H (fun k hk => d k (by revert k; decide)), iA_L J.2.1 H (fun k hk => d k (by revert k; decide)), iW_L J.2.2 H (fun k hk => d k (by revert k; decide))⟩
theorem iJ_0 {K : Nat} {S : MS} (J : iJ K S) : iJ (K + 1) (m0 S) := iJ_L (L := [3]) J (mInv_m0 J.1.1.1) mset_L (by decide)
theorem iJ_3 {K : Nat} {S : MS} {v : Int32} (J : iJ K S) : iJ (K + 1) (mset (m0 S) 3 0 v) := iJ_L (L := [3]) J (mInv_3 (mInv_m0 J.1.1.1)) (fun k hk => by rw [mset_L k hk]; exact mset_L k hk) (by decide)
theorem iJ_create {K : Nat} {S : MS} {F : Nat} (J : iJ K S) (h0 : S 4 F = 0) : iJ (K + 1) (mset (mset (m0 S) 4 F 1) 5 F 0) := by
  refine iJ_L (L := [3, 4, 5]) J (mInv_create (mInv_m0 J.1.1.1) (by unfold m0; rw [mset_k (by decide)]; exact h0)) (fun k hk => ?_) (by decide)
  simp only [List.mem_cons, List.not_mem_nil, or_false, not_or] at hk
  rw [mset_kk hk.2.2, mset_kk hk.2.1]
  exact mset_kk hk.1
theorem iJ_cancel {K : Nat} {S : MS} {e n : Int32} (J : iJ K S) : iJ (K + 1) (mCancel S e n) := by
  have H : ∀ k, k ∉ [3, 15, 19, 20, 21] → mCancel S e n k = S k := fun k hk => by
    simp only [List.mem_cons, List.not_mem_nil, or_false, not_or] at hk
    unfold mCancel
    split
    · unfold mDrop
      rw [mset_kk hk.2.2.1, mset_kk hk.2.2.2.1, mset_kk hk.2.1, mset_kk hk.2.2.2.2]
      exact mset_kk hk.1
    · exact mset_kk hk.1
  exact ⟨cI_cancel J.1, iA_L J.2.1 H (by decide), iW_L J.2.2 H (by decide)⟩
theorem iJ_suspend {K : Nat} {S : MS} {e n on : Int32} (J : iJ K S) (hon : on = 0 ∨ on = 1) : iJ (K + 1) (mSuspend S e n on) := by
  have H : ∀ k, k ∉ [3, 22] → mSuspend S e n on k = S k := fun k hk => by
    simp only [List.mem_cons, List.not_mem_nil, or_false, not_or] at hk
    unfold mSuspend
    split
    · rw [mset_kk hk.2]
      exact mset_kk hk.1
    · exact mset_kk hk.1
  exact ⟨cI_suspend J.1 hon, iA_L J.2.1 H (by decide), iW_L J.2.2 H (by decide)⟩
theorem tS_W {e : Nat} (he : e < 2) : ∀ (z k : Nat) (S : MS), I3 S → iW S → iW (tS fW e z k S) := by
  intro z
  induction z with
  | zero => intro k S I A; unfold tS; exact A
  | succ z ih =>
    intro k S I A
    unfold tS
    split
    · exact A
    · rename_i hk
      have hk2 : k < cP 42 S e := by unfold cP; omega
      obtain ⟨t, a1, a2, a3, a4, a5, a6, a7⟩ := rowS I.1 he hk2
      rw [a2]
      exact ih _ _ ⟨fW_inv I.1 a4 a5, iK_work I.2.1 I.1 a4 a5, iE_work I.2.2 I.1 a4 a5⟩ (iW_work A)
theorem tR_W {e : Nat} (he : e < 2) : ∀ (z k : Nat) (S : MS), I3 S → iW S → iW (tR fA e z k S) := by
  intro z
  induction z with
  | zero => intro k S I A; unfold tR; exact A
  | succ z ih =>
    intro k S I A
    unfold tR
    split
    · exact A
    · rename_i hk
      have hk2 : k < cP 43 S e := by unfold cP; omega
      obtain ⟨t, a1, a2, a3, a4, a5⟩ := rowR I.1 he hk2
      rw [a2]
      exact ih _ _ ⟨fA_inv I.1 a4 a5, iK_att I.2.1, iE_c fA_L (by decide) I.2.2⟩ (iW_att A I.1 a4 a5)
theorem iJ_tick {K : Nat} {S : MS} (J : iJ K S) : iJ (K + 1) (mTick fW fA S) := by
  have H0 : ∀ k, k ∉ [2, 3] → mset (m0 S) 2 0 (S 1 0 + nI 1) k = S k := fun k hk => by
    unfold m0
    simp only [List.mem_cons, List.not_mem_nil, or_false, not_or] at hk
    rw [mset_kk hk.1, mset_kk hk.2]
  have J0 : I3 (mset (m0 S) 2 0 (S 1 0 + nI 1)) := I3_0 J.1.1
  have A0 := iA_L J.2.1 H0 (by decide)
  have W0 := iW_L J.2.2 H0 (by decide)
  obtain ⟨J1, -⟩ := tS_I (e := 0) (by decide) 4 0 _ J0
  obtain ⟨J2, -⟩ := tR_I (e := 0) (by decide) 4 0 _ J1
  obtain ⟨J3, -⟩ := tS_I (e := 1) (by decide) 4 0 _ J2
  have A4 := tR_A (e := 1) (by decide) 4 0 _ J3 (tS_A (e := 1) (by decide) 4 0 _ J2 (tR_A (e := 0) (by decide) 4 0 _ J1 (tS_A (e := 0) (by decide) 4 0 _ J0 A0)))
  have W4 := tR_W (e := 1) (by decide) 4 0 _ J3 (tS_W (e := 1) (by decide) 4 0 _ J2 (tR_W (e := 0) (by decide) 4 0 _ J1 (tS_W (e := 0) (by decide) 4 0 _ J0 W0)))
  refine ⟨cI_tick J.1, ?_, ?_⟩
  · unfold mTick mTk
    exact iA_L A4 (mset_L (k := 1)) (by decide)
  · unfold mTick mTk
    exact iW_L W4 (mset_L (k := 1)) (by decide)
theorem m0_k {S : MS} {k : Nat} (hk : k ≠ 3) : m0 S k = S k := mset_kk hk
theorem gU_0 {S : MS} : gU (m0 S) = gU S := by
  unfold gU
  rw [m0_k (by decide)]
theorem iJ_out {K : Nat} {S : MS} {k : Nat} (J : iJ K S) (hk : k < gU S) : iJ (K + 1) (mOut (m0 S) (gU S) k) := by
  have J0 := iJ_0 J
  have hu : m0 S 44 0 = nI (gU S) := by rw [m0_k (by decide)]; exact J.1.1.1.gu.1
  have hu24 := J.1.1.1.gu.2
  exact ⟨cI_same J0.1 (mInv_out J0.1.1.1 hu hu24 hk) mOut_L (by decide), iA_out J0.2.1 hu hu24 hk, iW_L J0.2.2 mOut_L (by decide)⟩
theorem iJ_copy {K : Nat} {S : MS} {k : Nat} (J : iJ K S) (hk : k < gU S) (h24 : ¬ gU S = 24) : iJ (K + 1) (mCopy (m0 S) (gU S) k) := by
  have J0 := iJ_0 J
  have hu : m0 S 44 0 = nI (gU S) := by rw [m0_k (by decide)]; exact J.1.1.1.gu.1
  have hu24 := J.1.1.1.gu.2
  have g1 : gU (mCopy (m0 S) (gU S) k) = gU S + 1 := by
    unfold gU
    rw [show mCopy (m0 S) (S 44 0).toNatClampNeg k 44 0 = nI (gU S + 1) from by unfold mCopy; rw [mset_s]; rfl, nI_clamp (by omega)]
    rfl
  refine ⟨cI_same J0.1 (mInv_copy J0.1.1.1 hu (by omega) hk) mCopy_L (by decide), iA_gen J0.2.1 (fun t h => ?_) (fun j hj => Or.inl ?_), iW_L J0.2.2 mCopy_L (by decide)⟩
  · unfold aE at h ⊢
    rw [mCopy_L 23 (by decide)]
    exact h
  · rw [g1] at hj
    rw [gU_0]
    have r : ∀ q, mCopy (m0 S) (gU S) k 45 q = if 11 * gU S ≤ q ∧ q < 11 * gU S + 11 then m0 S 45 (11 * k + (q - 11 * gU S)) else m0 S 45 q := fun q => by
      unfold mCopy mCp
      rw [mset_k (by decide)]
      by_cases w : 11 * gU S ≤ q ∧ q < 11 * gU S + 11
      · rw [if_pos ⟨rfl, w⟩, if_pos w]
      · rw [if_neg (fun z => w z.2), if_neg w]
    by_cases q : j = gU S
    · refine ⟨k, hk, fun i hi => ?_⟩
      rw [r, if_pos (by omega)]
      congr 1
      omega
    · refine ⟨j, by omega, fun i hi => ?_⟩
      rw [r, if_neg (by omega)]
theorem iJ_spoil {K : Nat} {S : MS} {k n : Nat} {b : Int32} (J : iJ K S) (hk : k < gU S) (hD : S 45 (11 * k) = nI 2) : iJ (K + 1) (mSpoil (m0 S) k n b) := by
  have J0 := iJ_0 J
  have hu : m0 S 44 0 = nI (gU S) := by rw [m0_k (by decide)]; exact J.1.1.1.gu.1
  have hu24 := J.1.1.1.gu.2
  have H : ∀ f, f ∉ [45] → mSpoil (m0 S) k n b f = m0 S f := mset_L
  refine ⟨cI_same J0.1 (mInv_spoil J0.1.1.1 hu hu24 hk (by rw [m0_k (by decide)]; exact hD)) H (by decide), iA_gen J0.2.1 (fun t h => ?_) (fun j hj => Or.inl ⟨j, ?_, fun i hi => ?_⟩), iW_L J0.2.2 H (by decide)⟩
  · unfold aE at h ⊢
    rw [H 23 (by decide)]
    exact h
  · unfold gU at hj ⊢
    rw [H 44 (by decide)] at hj
    exact hj
  · unfold mSpoil
    rw [mset_if rfl, if_neg (by omega)]
theorem iJ_app {K : Nat} {S : MS} {F m n : Nat} {w : Int64} (J : iJ K S) (hF : F < 12) (hmn : m + n ≤ 64) (hno : ∀ t, vT S t → S 13 t = nI 5 → fI S t ≠ F) : iJ (K + 1) (mApp (m0 S) F m n w) := by
  have J0 := iJ_0 J
  have H : ∀ k, k ∉ [5, 6] → mApp (m0 S) F m n w k = m0 S k := fun k hk => funext fun j => by
    simp only [List.mem_cons, List.not_mem_nil, or_false, not_or] at hk
    unfold mApp
    rw [mset_k hk.1, mAp_o hk.2]
  have no0 : ∀ t, vT (m0 S) t → m0 S 13 t = nI 5 → fI (m0 S) t ≠ F := fun t v o => by
    have e1 : fI (m0 S) t = fI S t := by unfold fI; rw [m0_k (by decide)]
    rw [e1]
    rw [m0_k (by decide)] at o
    exact hno t ((vT_c (L := [3]) mset_L (by decide)).mp v) o
  exact ⟨cI_same J0.1 (mInv_append J0.1.1.1 hF hmn no0) H (by decide), iA_L J0.2.1 H (by decide), iW_L J0.2.2 H (by decide)⟩
theorem iJ_del {K : Nat} {S : MS} {F : Nat} (J : iJ K S) (hF : F < 12) (hno : ∀ t, vT S t → S 13 t = nI 5 → fI S t ≠ F) : iJ (K + 1) (mset (m0 S) 4 F (nI 0)) := by
  have J0 := iJ_0 J
  have no0 : ∀ t, vT (m0 S) t → m0 S 13 t = nI 5 → fI (m0 S) t ≠ F := fun t v o => by
    have e1 : fI (m0 S) t = fI S t := by unfold fI; rw [m0_k (by decide)]
    rw [e1]
    rw [m0_k (by decide)] at o
    exact hno t ((vT_c (L := [3]) mset_L (by decide)).mp v) o
  exact ⟨cI_same J0.1 (mInv_delete J0.1.1.1 hF no0) (mset_L (k := 4)) (by decide), iA_L J0.2.1 (mset_L (k := 4)) (by decide), iW_L J0.2.2 (mset_L (k := 4)) (by decide)⟩
theorem iJ_put {K : Nat} {S : MS} {e f d y x g cn cs : Nat} (J : iJ K S) (he : e < 2) (hf : f < 6) (hd : d < 6) (hg : g < 6) (hy1 : 1 ≤ y) (hy2 : y ≤ 2) (hx : x ≤ 2) (ht : ¬ S 4 (6 * e + f) = 0) (hcn : S 7 e = nI cn) (hcn9 : cn < 319) (hcs : S 42 e = nI cs) (hcs3 : cs < 3) : iJ (K + 1) (mPut S e f d y x g cn cs) :=
  ⟨cI_put J.1 he hf hd hg hy1 hy2 hx ht hcn hcn9 hcs hcs3, iA_L J.2.1 mPut_r.1 (by decide), iW_put J.2.2 J.1.1.1 he hcn hcn9⟩
