/-! what a receiver's step leaves alone -/
def afr (S S' : MS) (t p : Nat) : Prop := (∀ k, k ∉ [23, 26, 29, 30, 35, 41, 43, 44, 45, 47] → S' k = S k) ∧ (∀ j, j ≠ t → S' 23 j = S 23 j) ∧ ∀ k, k ∈ [26, 29, 30, 35] → ∀ j, j ≠ p → S' k j = S k j
theorem afr.rfl {S : MS} {t p : Nat} : afr S S t p := ⟨fun _ _ => Eq.refl _, fun _ _ => Eq.refl _, fun _ _ _ _ => Eq.refl _⟩
theorem afr.set {S S' : MS} {t p k : Nat} {x : Int32} (h : afr S S' t p) (hk : k ∈ [26, 29, 30, 35]) : afr S (mset S' k p x) t p := by
  have m1 : mIs k = true := (by decide : ∀ k ∈ [26, 29, 30, 35], mIs k = true) k hk
  have h2 : k ≠ 23 := (by decide : ∀ k ∈ [26, 29, 30, 35], k ≠ 23) k hk
  refine ⟨fun k' hk' => ?_, fun j hj => ?_, fun k' h1 j hj => ?_⟩
  · rw [mset_kk (fun z => hk' (by rw [z]; exact (by decide : ∀ k ∈ [26, 29, 30, 35], k ∈ [23, 26, 29, 30, 35, 41, 43, 44, 45, 47]) k hk))]
    exact h.1 k' hk'
  · rw [mset_k (Ne.symm h2)]; exact h.2.1 j hj
  · by_cases q : k' = k
    · subst q
      rw [mset_j m1 hj]
      exact h.2.2 k' h1 j hj
    · rw [mset_k q]
      exact h.2.2 k' h1 j hj
theorem afr.s23 {S S' : MS} {t p : Nat} {x : Int32} (h : afr S S' t p) : afr S (mset S' 23 t x) t p := by
  refine ⟨fun k' hk' => ?_, fun j hj => ?_, fun k' h1 j hj => ?_⟩
  · rw [mset_kk (fun z => hk' (by rw [z]; decide))]
    exact h.1 k' hk'
  · rw [mset_j _root_.rfl hj]; exact h.2.1 j hj
  · rw [mset_k ((by decide : ∀ k ∈ [26, 29, 30, 35], k ≠ 23) k' h1)]
    exact h.2.2 k' h1 j hj
theorem afr.fr {S S' S2 : MS} {t p : Nat} (h : afr S S' t p) (H : ∀ k, k ∉ [41, 43, 44, 45, 47] → S2 k = S' k) : afr S S2 t p := by
  refine ⟨fun k' hk' => ?_, fun j hj => ?_, fun k' h1 j hj => ?_⟩
  · rw [H k' (fun z => hk' (by revert z; simp only [List.mem_cons, List.not_mem_nil, or_false]; omega))]
    exact h.1 k' hk'
  · rw [H 23 (by decide)]; exact h.2.1 j hj
  · rw [H k' ((by decide : ∀ k ∈ [26, 29, 30, 35], k ∉ [41, 43, 44, 45, 47]) k' h1)]
    exact h.2.2 k' h1 j hj
theorem afr_shut {S S' : MS} {t p k0 c : Nat} {x : Int32} (h : afr S S' t p) : afr S (mShut S' t x p k0 c) t p := by
  unfold mShut
  exact ((h.s23).set (k := 35) (by decide)).fr (fun k hk => mRm_L k (fun z => hk (by revert z; simp only [List.mem_cons, List.not_mem_nil, or_false]; omega)))
theorem afr_tell {S S' : MS} {u t p : Nat} (h : afr S S' t p) : afr S (mTell S' u t p) t p := by
  unfold mTell
  exact ((h.fr (fun k hk => mSend_L k (fun z => hk (by revert z; simp only [List.mem_cons, List.not_mem_nil, or_false]; omega)))).set (k := 29) (by decide)).set (k := 30) (by decide)
theorem afr_fin {S S' : MS} {u t p k0 c : Nat} {x y : Int32} (h : afr S S' t p) : afr S (mFin S' u t p k0 c x y) t p := by
  unfold mFin
  split
  · exact afr_shut (h.set (k := 26) (by decide))
  · unfold mFin2
    exact afr_tell (((h.set (k := 26) (by decide)).s23).set (k := 29) (by decide))
theorem afr_nak {S S' : MS} {u t p n : Nat} (h : afr S S' t p) : afr S (mNak S' u t p n) t p := by
  unfold mNak mNakE mNakZ
  refine (afr.set (k := 29) (afr.fr h fun k hk => ?_) (by decide)).set (k := 30) (by decide)
  have h45 : k ∉ [44, 45] := fun z => hk (by revert z; simp only [List.mem_cons, List.not_mem_nil, or_false]; omega)
  have h47 : k ∉ [47] := fun z => hk (by revert z; simp only [List.mem_cons, List.not_mem_nil, or_false]; omega)
  split
  · rw [mGu_L k (fun z => hk (by revert z; simp only [List.mem_cons, List.not_mem_nil, or_false]; omega))]
    unfold mNakS
    rw [mSend_L k h45, mGp_L k h47]
  · unfold mNakS
    rw [mSend_L k h45, mGp_L k h47]
theorem afr_att {S : MS} {u t p n k0 c : Nat} : afr S (mAtt S u t p n k0 c) t p := by
  unfold mAtt
  split
  · split
    · split
      · exact afr_shut afr.rfl
      · exact afr_tell afr.rfl
    · exact afr.rfl
  · split
    · split
      · exact afr.rfl
      · exact afr_shut afr.rfl
    · split
      · split
        · exact afr.rfl
        · exact afr_shut afr.rfl
      · split
        · exact afr.rfl
        · split
          · exact afr_fin afr.rfl
          · exact afr_nak afr.rfl
/-! does a receiver's step close it -/
def asc (S S' : MS) (t c : Nat) : Prop := (opR S' t ∧ S' 43 = S 43) ∨ (¬ opR S' t ∧ S' 43 (1 - t / 320) = nI (c - 1))
theorem asc.cl {S S' : MS} {t p k0 c : Nat} {x : Int32} (hx : ¬ (x = nI 5 ∨ x = nI 6)) : asc S (mShut S' t x p k0 c) t c := by
  refine Or.inr ⟨?_, ?_⟩
  · unfold opR mShut
    rw [mRm_o (by decide) (by decide), mset_k (by decide), mset_s]
    exact hx
  · unfold mShut
    exact mRm_B (by decide)
theorem asc_tell {S : MS} {u t p c : Nat} (ho : opR S t) : asc S (mTell S u t p) t c := by
  refine Or.inl ⟨?_, ?_⟩
  · unfold opR mTell
    rw [mset_k (by decide), mset_k (by decide), mSend_o (by decide) (by decide)]
    exact ho
  · unfold mTell
    rw [mset_kk (by decide), mset_kk (by decide), mSend_L 43 (by decide)]
theorem asc_fin2 {S : MS} {u t p c : Nat} {x : Int32} : asc S (mFin2 S u t p x) t c := by
  unfold mFin2
  rcases asc_tell (S := mset (mset (mset S 26 p x) 23 t (nI 6)) 29 p (nI 0)) (u := u) (t := t) (p := p) (c := c) (Or.inr (by rw [mset_k (by decide), mset_s])) with ⟨h1, h2⟩ | h
  · exact Or.inl ⟨h1, by rw [h2, mset_kk (by decide), mset_kk (by decide), mset_kk (by decide)]⟩
  · exact Or.inr h
theorem mNak_L {S : MS} {u t p n : Nat} : ∀ k, k ∉ [29, 30, 44, 45, 47] → mNak S u t p n k = S k := fun k hk => by
  unfold mNak
  rw [mNakE_L k (fun z => hk (by revert z; simp only [List.mem_cons, List.not_mem_nil, or_false]; omega)), mGp_L k (fun z => hk (by revert z; simp only [List.mem_cons, List.not_mem_nil, or_false]; omega))]
theorem bw_n56 {x : Int32} (h : bw x 1 4) : ¬ (x = nI 5 ∨ x = nI 6) := by
  obtain ⟨n, q1, q2, rfl⟩ := h
  rw [nI_eq (by omega) (by decide), nI_eq (by omega) (by decide)]
  omega
theorem asc_att {S : MS} {u t p n k0 c : Nat} (ho : opR S t) (h26 : S 23 t = nI 6 → bw (S 26 p) 1 4) : asc S (mAtt S u t p n k0 c) t c := by
  have st : asc S S t c := Or.inl ⟨ho, rfl⟩
  unfold mAtt
  split
  · rename_i h6
    split
    · split
      · exact asc.cl (bw_n56 (h26 h6))
      · exact asc_tell ho
    · exact st
  · split
    · split
      · exact st
      · exact asc.cl (by decide)
    · split
      · split
        · exact st
        · exact asc.cl (by decide)
      · split
        · exact st
        · split
          · unfold mFin
            rw [if_neg (by decide)]
            exact asc_fin2
          · exact Or.inl ⟨(opR_c mNak_L (by decide)).mpr ho, mNak_L 43 (by decide)⟩
theorem fA_c {S : MS} {t : Nat} (I : mInv S) (hv : vT S t) (ho : opR S t) : fA S t 43 (1 - t / 320) = nI (if fA S t 23 t = nI 5 ∨ fA S t 23 t = nI 6 then cP 43 S (1 - t / 320) else cP 43 S (1 - t / 320) - 1) := by
  rcases asc_att (S := S) (u := gU S) (t := t) (p := sP S t) (n := nP S (sP S t)) (k0 := kP 41 S (1 - t / 320) t) (c := cP 43 S (1 - t / 320)) ho (fun h6 => ((I.R hv).2.2 ho).2.2.2.2.2.2.2.2.2.2.1 h6) with ⟨h1, h2⟩ | ⟨h1, h2⟩
  · have h1' : fA S t 23 t = nI 5 ∨ fA S t 23 t = nI 6 := h1
    rw [if_pos h1']
    unfold fA
    rw [h2]
    exact (I.hasR hv ho).2.2.1
  · have h1' : ¬ (fA S t 23 t = nI 5 ∨ fA S t 23 t = nI 6) := h1
    rw [if_neg h1']
    exact h2
theorem iK_att {S : MS} {t : Nat} (K : iK S) : iK (fA S t) := iK_c (afr_att (S := S) (u := gU S) (t := t) (p := sP S t) (n := nP S (sP S t)) (k0 := kP 41 S (1 - t / 320) t) (c := cP 43 S (1 - t / 320))).1 (by decide) K
