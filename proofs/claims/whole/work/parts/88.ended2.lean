theorem iA_L {S S' : MS} {L : List Nat} (A : iA S) (H : ∀ k, k ∉ L → S' k = S k) (d : ∀ k ∈ [23, 44, 45], k ∉ L) : iA S' := iA_fr A H (fun k hk => d k (by revert k; decide)) (aE_c H (fun k hk => d k (by revert k; decide)))
theorem iA_cpl {S : MS} {u t p d ot n cs k0 c : Nat} {y : Int32} (A : iA S) (t6 : t < 640) (hu : S 44 0 = nI u) (hu24 : u ≤ 24) : iA (mCpl S u t p d ot n cs k0 c y) := by
  unfold mCpl
  split
  · split
    · exact iA_fin A t6 (bw.of (by decide) (by decide)) hu hu24
    · unfold mCplT
      refine iA_fin (iA_L (iA_L A mStore_L (by decide)) mGrant_L (by decide)) t6 (bw.of (by decide) (by decide)) ?_ hu24
      rw [mGrant_L 44 (by decide), mStore_L 44 (by decide)]; exact hu
  · exact iA_fin A t6 (bw.of (by decide) (by decide)) hu hu24
theorem iA_t6 {S : MS} {u t p d ot n cs k0 c : Nat} {v y : Int32} (A : iA S) (t6 : t < 640) (hu : S 44 0 = nI u) (hu24 : u ≤ 24) : iA (mT6 S u t p d ot n cs k0 c v y) := by
  have hN := iA_nak (t := t) (p := p) (n := n) A hu hu24
  unfold mT6
  split
  · exact A
  · split
    · split
      · exact A
      · split
        · exact hN
        · exact A
    · split
      · split
        · exact A
        · split
          · exact hN
          · exact A
      · exact iA_cpl A t6 hu hu24
theorem iA_t5 {S : MS} {u t p d ot n cs k0 c : Nat} {K y : Int32} (A : iA S) (t6 : t < 640) (hu : S 44 0 = nI u) (hu24 : u ≤ 24) : iA (mT5 S u t p d ot n cs k0 c K y) := by
  unfold mT5
  split
  · split
    · exact iA_t6 (iA_L A mE1_L (by decide)) t6 (by rw [mE1_L 44 (by decide)]; exact hu) hu24
    · exact iA_t6 A t6 hu hu24
  · exact iA_t6 A t6 hu hu24
theorem iA_t4 {S : MS} {u t p d ot n cs k0 c : Nat} {K y : Int32} (A : iA S) (t6 : t < 640) (hu : S 44 0 = nI u) (hu24 : u ≤ 24) : iA (mT4 S u t p d ot n cs k0 c K y) := by
  unfold mT4
  split
  · split
    · exact iA_t5 A t6 hu hu24
    · exact iA_fin A t6 (bw.of (by decide) (by decide)) hu hu24
  · exact iA_t5 A t6 hu hu24
theorem iA_t3 {S : MS} {u t p d ot n cs k0 c s : Nat} {K y : Int32} (A : iA S) (t6 : t < 640) (hu : S 44 0 = nI u) (hu24 : u ≤ 24) : iA (mT3 S u t p d ot n cs k0 c s K y) := by
  unfold mT3
  split
  · split
    · exact iA_t4 (iA_L A mD1_L (by decide)) t6 (by rw [mD1_L 44 (by decide)]; exact hu) hu24
    · exact iA_t4 A t6 hu hu24
  · exact iA_t4 A t6 hu hu24
theorem iA_t2 {S : MS} {u t p d ot n cs k0 c s : Nat} {K y : Int32} (A : iA S) (t6 : t < 640) (hu : S 44 0 = nI u) (hu24 : u ≤ 24) : iA (mT2 S u t p d ot n cs k0 c s K y) := by
  unfold mT2
  split
  · split
    · exact iA_t3 (iA_L A mK1_L (by decide)) t6 (by rw [mK1_L 44 (by decide)]; exact hu) hu24
    · exact iA_t3 A t6 hu hu24
  · exact iA_t3 A t6 hu hu24
theorem iA_t1 {S : MS} {e u t p d ot n cs k0 c s : Nat} {K y : Int32} (A : iA S) (t6 : t < 640) (he : e = 1 - t / 320) (hu : S 44 0 = nI u) (hu24 : u ≤ 24) : iA (mT1 S e u t p d ot n cs k0 c s K y) := by
  have hb : ∀ (S : MS) (u : Nat), iA S → S 44 0 = nI u → u ≤ 24 → iA (mT1b S u t p d ot n cs k0 c s K y) := fun S u A hu hu24 => by
    unfold mT1b
    split
    · exact iA_t2 (iA_set A (by decide)) t6 (by rw [mset_k (by decide)]; exact hu) hu24
    · exact A
  unfold mT1
  split
  · split
    · refine hb _ _ (iA_sM A hu hu24 t6 (fun w => ?_)) (mSend_u hu hu24) (by split <;> omega)
      rcases w with w | w
      · exact absurd w (by decide)
      · have := (nI_eq (by omega) (by omega)).mp w.2
        omega
    · exact hb _ _ A hu hu24
  · exact hb _ _ A hu hu24
theorem iA_tor {S : MS} {e u t p d ot n cs k0 c s cr : Nat} (A : iA S) (t6 : t < 640) (he : e = 1 - t / 320) (hu : S 44 0 = nI u) (hu24 : u ≤ 24) (h26 : S 23 t = nI 6 → bw (S 26 p) 1 4) : iA (mToR S e u t p d ot n cs k0 c s cr) := by
  unfold mToR
  split
  · split
    · rename_i q
      exact iA_shut A (h26 q)
    · exact A
  · split
    · rename_i q0
      split
      · exact A
      · refine iA_t1 (iA_fr A mOpen_L (by decide) (fun t' h => ?_)) t6 he (by rw [mOpen_L 44 (by decide)]; exact hu) hu24
        unfold aE at h ⊢
        rw [mOpen_r.1]
        split
        · rename_i w; subst w; exact absurd q0 h.1
        · exact h
    · exact iA_t1 A t6 he hu hu24
/-! the rounds of a tick -/
theorem tS_A {e : Nat} (he : e < 2) : ∀ (z k : Nat) (S : MS), I3 S → iA S → iA (tS fW e z k S) := by
  intro z
  induction z with
  | zero => intro k S I A; unfold tS; exact A
  | succ z ih =>
    intro k S I A
    unfold tS
    split
    · exact A
    · rename_i hk
      have hk2 : k < cP 42 S e := by unfold cP; omega
      obtain ⟨t, a1, a2, a3, a4, a5, a6, a7⟩ := rowS I.1 he hk2
      rw [a2]
      exact ih _ _ ⟨fW_inv I.1 a4 a5, iK_work I.2.1 I.1 a4 a5, iE_work I.2.2 I.1 a4 a5⟩ (iA_work A I.1.gu.1 I.1.gu.2)
theorem tR_A {e : Nat} (he : e < 2) : ∀ (z k : Nat) (S : MS), I3 S → iA S → iA (tR fA e z k S) := by
  intro z
  induction z with
  | zero => intro k S I A; unfold tR; exact A
  | succ z ih =>
    intro k S I A
    unfold tR
    split
    · exact A
    · rename_i hk
      have hk2 : k < cP 43 S e := by unfold cP; omega
      obtain ⟨t, a1, a2, a3, a4, a5⟩ := rowR I.1 he hk2
      rw [a2]
      exact ih _ _ ⟨fA_inv I.1 a4 a5, iK_att I.2.1, iE_c fA_L (by decide) I.2.2⟩ (iA_att A a4.1 I.1.gu.1 I.1.gu.2 (fun h6 => ((I.1.R a4).2.2 a5).2.2.2.2.2.2.2.2.2.2.1 h6))
