/-! ===== FINISHED, and its ACK, fly only for a receiver that has ended ===== -/
def aE (S : MS) (t : Nat) : Prop := ¬ S 23 t = 0 ∧ ¬ S 23 t = nI 5
def aK (S : MS) (r t : Nat) : Prop := S 45 r = nI 4 ∨ (S 45 r = nI 5 ∧ S 45 (r + 1) = nI (1 - t / 320))
def iA (S : MS) : Prop := ∀ j, j < gU S → ∀ t, t < 640 → S 45 (11 * j + 2) = nI t → aK S (11 * j) t → aE S t
def cA (S : MS) (t : Nat) : Prop := (S 46 0 = nI 4 ∨ (S 46 0 = nI 5 ∧ S 46 1 = nI (1 - t / 320))) → aE S t
theorem iA_gen {S S' : MS} (I : iA S) (mono : ∀ t, aE S t → aE S' t) (rows : ∀ j, j < gU S' → (∃ j0, j0 < gU S ∧ ∀ i, i < 3 → S' 45 (11 * j + i) = S 45 (11 * j0 + i)) ∨ ∀ t, t < 640 → S' 45 (11 * j + 2) = nI t → aK S' (11 * j) t → aE S' t) : iA S' := by
  intro j hj t t6 ht hk
  rcases rows j hj with ⟨j0, h0, e⟩ | w
  · refine mono t (I j0 h0 t t6 (by rw [← e 2 (by decide)]; exact ht) ?_)
    unfold aK at hk ⊢
    have e0 : S' 45 (11 * j) = S 45 (11 * j0) := e 0 (by decide)
    rw [← e0, ← e 1 (by decide)]
    exact hk
  · exact w t t6 ht hk
theorem iA_fr {S S' : MS} {L : List Nat} (I : iA S) (H : ∀ k, k ∉ L → S' k = S k) (d : ∀ k ∈ [44, 45], k ∉ L) (mono : ∀ t, aE S t → aE S' t) : iA S' := by
  refine iA_gen I mono (fun j hj => Or.inl ⟨j, ?_, fun i _ => by rw [H 45 (d 45 (by decide))]⟩)
  have : gU S' = gU S := by unfold gU; rw [H 44 (d 44 (by decide))]
  omega
theorem aE_c {S S' : MS} {L : List Nat} (H : ∀ k, k ∉ L → S' k = S k) (d : ∀ k ∈ [23], k ∉ L) : ∀ t, aE S t → aE S' t := fun t h => by unfold aE at h ⊢; rw [H 23 (d 23 (by decide))]; exact h
theorem iA_snd {S S' : MS} {u : Nat} (I : iA S) (hu : S 44 0 = nI u) (hu24 : u ≤ 24) (F : ∀ k, k ∉ [44, 45] → S' k = S k) (h44 : u < 24 → S' 44 0 = nI (u + 1)) (h24 : u = 24 → S' = S) (h45 : ∀ j, j < 11 * u → S' 45 j = S 45 j) (hn : u < 24 → ∀ t, t < 640 → S' 45 (11 * u + 2) = nI t → aK S' (11 * u) t → aE S t) : iA S' := by
  by_cases q : u = 24
  · rw [h24 q]; exact I
  · have g0 : gU S = u := by unfold gU; rw [hu, nI_clamp (by omega)]
    have g1 : gU S' = u + 1 := by unfold gU; rw [h44 (by omega), nI_clamp (by omega)]
    refine iA_gen I (aE_c F (by decide)) (fun j hj => ?_)
    by_cases w : j = u
    · subst w
      exact Or.inr (fun t t6 ht hk => aE_c F (by decide) t (hn (by omega) t t6 ht hk))
    · exact Or.inl ⟨j, by omega, fun i hi => h45 _ (by omega)⟩
theorem iA_sT {S : MS} {u : Nat} {kind to t a b c ty : Int32} (I : iA S) (hu : S 44 0 = nI u) (hu24 : u ≤ 24) (hk : ¬ kind = nI 4 ∧ ¬ kind = nI 5) : iA (mSendT S u kind to t a b c ty) := by
  refine iA_snd I hu hu24 mSendT_L (fun h => by rw [mSendT_u hu hu24, if_neg (by omega)]) (fun h => mSendT_24 h) (fun j hj => mSendT_lo hj) (fun h t' _ _ w => ?_)
  have e0 : mSendT S u kind to t a b c ty 45 (11 * u) = kind := mSendT_r (i := 0) h (by decide)
  rcases w with w | w
  · exact absurd (e0.symm.trans w) hk.1
  · exact absurd (e0.symm.trans w.1) hk.2
theorem iA_sM {S : MS} {u t0 : Nat} {kind to a b c : Int32} (I : iA S) (hu : S 44 0 = nI u) (hu24 : u ≤ 24) (t6 : t0 < 640) (hk : (kind = nI 4 ∨ (kind = nI 5 ∧ to = nI (1 - t0 / 320))) → aE S t0) : iA (mSend S u kind to (nI t0) a b c) := by
  refine iA_snd I hu hu24 mSend_L (fun h => by rw [mSend_u hu hu24, if_neg (by omega)]) (fun h => mSend_24 h) (fun j hj => mSend_lo hj) (fun h t' t6' ht' w => ?_)
  have e0 : mSend S u kind to (nI t0) a b c 45 (11 * u) = kind := mSend_r (i := 0) h (by decide)
  have e1 : mSend S u kind to (nI t0) a b c 45 (11 * u + 1) = to := mSend_r (i := 1) h (by decide)
  have e2 : mSend S u kind to (nI t0) a b c 45 (11 * u + 2) = nI t0 := mSend_r (i := 2) h (by decide)
  have : t' = t0 := (nI_eq (by omega) (by omega)).mp (ht'.symm.trans e2)
  subst this
  unfold aK at w
  rw [e0, e1] at w
  exact hk w
theorem iA_work {S : MS} {u t f n k0 c st s0 : Nat} (A : iA S) (hu : S 44 0 = nI u) (hu24 : u ≤ 24) : iA (mWork S u t f n k0 c st s0) := by
  have st' : ∀ (S : MS) (k : Nat) (v : Int32), k ∈ [13, 14, 15, 16, 17, 18, 19] → iA S → S 44 0 = nI u → iA (mset S k t v) ∧ mset S k t v 44 0 = nI u := fun S k v hk A hu => ⟨iA_fr A (L := [13, 14, 15, 16, 17, 18, 19]) (fun k' h => mset_kk (fun z => h (by rw [z]; exact hk))) (by decide) (aE_c (L := [13, 14, 15, 16, 17, 18, 19]) (fun k' h => mset_kk (fun z => h (by rw [z]; exact hk))) (by decide)), by rw [mset_k (fun z => by rw [← z] at hk; revert hk; decide)]; exact hu⟩
  have rm : ∀ (S : MS), iA S → iA (mRm 40 42 S (t / 320) k0 c (c - 1)) := fun S A => iA_fr A mRm_L (by decide) (aE_c mRm_L (by decide))
  have en : ∀ (S : MS), iA S → S 44 0 = nI u → iA (mEnd S u t f n k0 c) := fun S A hu => by
    have A1 : iA (mEnd1 S u t f n) := by
      unfold mEnd1
      have a0 := iA_sT (kind := nI 3) (to := nI (1 - t / 320)) (t := nI t) (a := if S 21 t = 0 then nI n else -1) (b := if S 21 t = 0 then mCk S f n ((n + 3) / 4) else nI 0) (c := nI 0) (ty := S 8 t) A hu hu24 (by decide)
      refine iA_fr (iA_fr a0 (L := [15]) mset_L (by decide) (aE_c (L := [15]) mset_L (by decide))) (L := [17]) mset_L (by decide) (aE_c (L := [17]) mset_L (by decide))
    unfold mEnd
    split
    · exact rm _ (iA_fr A1 (L := [13]) mset_L (by decide) (aE_c (L := [13]) mset_L (by decide)))
    · exact A1
  unfold mWork
  split
  · obtain ⟨A1, u1⟩ := st' S 16 (S 16 t + nI 1) (by decide) A hu
    generalize mset S 16 t (S 16 t + nI 1) = S1 at A1 u1
    obtain ⟨A8, u8⟩ := st' S1 18 (S1 16 t) (by decide) A1 u1
    unfold mWk
    split
    · unfold mWk0
      split
      · exact en _ A8 u8
      · split
        · exact iA_fr (iA_sT A8 u8 hu24 (by decide)) (L := [14]) mset_L (by decide) (aE_c (L := [14]) mset_L (by decide))
        · exact iA_fr (iA_sT A8 u8 hu24 (by decide)) (L := [14]) mset_L (by decide) (aE_c (L := [14]) mset_L (by decide))
    · split
      · unfold mRep
        split
        · exact iA_sT (st' _ 19 _ (by decide) A8 u8).1 (st' _ 19 _ (by decide) A8 u8).2 hu24 (by decide)
        · exact iA_sT (st' _ 19 _ (by decide) A8 u8).1 (st' _ 19 _ (by decide) A8 u8).2 hu24 (by decide)
      · split
        · unfold mWk2
          split
          · exact A1
          · split
            · exact rm _ (st' _ 13 _ (by decide) A1 u1).1
            · exact en _ A8 u8
        · unfold mWk3
          split
          · exact rm _ (st' _ 13 _ (by decide) A1 u1).1
          · exact A1
  · exact A
theorem iA_set {S : MS} {k j : Nat} {v : Int32} (A : iA S) (hk : k ≠ 23 ∧ k ≠ 44 ∧ k ≠ 45) : iA (mset S k j v) := iA_fr A mset_L (fun k' h => by simp only [List.mem_cons, List.not_mem_nil, or_false] at h ⊢; omega) (aE_c mset_L (fun k' h => by simp only [List.mem_cons, List.not_mem_nil, or_false] at h ⊢; omega))
theorem iA_shut {S : MS} {t p k0 c : Nat} {v : Int32} (A : iA S) (hv : bw v 1 4) : iA (mShut S t v p k0 c) := by
  have H : ∀ k, k ∉ [23, 35, 41, 43] → mShut S t v p k0 c k = S k := fun k h => funext fun l => by
    simp only [List.mem_cons, List.not_mem_nil, or_false, not_or] at h
    unfold mShut
    rw [mRm_o h.2.2.1 h.2.2.2, mset_k h.2.1, mset_k h.1]
  refine iA_fr A H (by decide) (fun t' h => ?_)
  have r23 : mShut S t v p k0 c 23 t' = if t' = t then v else S 23 t' := by
    unfold mShut
    rw [mRm_o (by decide) (by decide), mset_k (by decide), mset_if rfl]
  unfold aE at h ⊢
  rw [r23]
  split
  · obtain ⟨n, n1, n2, rfl⟩ := hv
    rw [nI_eq (by omega) (by decide)]
    exact ⟨nI_ne0 (by omega) (by omega), by omega⟩
  · exact h
theorem iA_tell {S : MS} {u t p : Nat} (A : iA S) (t6 : t < 640) (h6 : S 23 t = nI 6) (hu : S 44 0 = nI u) (hu24 : u ≤ 24) : iA (mTell S u t p) := by
  unfold mTell
  refine iA_set (iA_set (iA_sM A hu hu24 t6 (fun _ => ?_)) (by decide)) (by decide)
  unfold aE
  rw [h6]
  decide
theorem iA_fin {S : MS} {u t p k0 c : Nat} {v y : Int32} (A : iA S) (t6 : t < 640) (hv : bw v 1 4) (hu : S 44 0 = nI u) (hu24 : u ≤ 24) : iA (mFin S u t p k0 c v y) := by
  unfold mFin
  split
  · exact iA_shut (iA_set A (by decide)) hv
  · unfold mFin2
    refine iA_tell (iA_set (iA_fr (iA_set A (by decide)) (L := [23]) mset_L (by decide) (fun t' h => ?_)) (by decide)) t6 (by rw [mset_k (by decide), mset_s]) (by rw [mset_k (by decide), mset_k (by decide), mset_k (by decide)]; exact hu) hu24
    unfold aE at h ⊢
    rw [mset_if rfl]
    split
    · decide
    · exact h
theorem iA_nak {S : MS} {u t p n : Nat} (A : iA S) (hu : S 44 0 = nI u) (hu24 : u ≤ 24) : iA (mNak S u t p n) := by
  unfold mNak
  have A1 : iA (mGp S p ((n + 3) / 4) (gC S p ((n + 3) / 4))) := iA_fr A mGp_L (by decide) (aE_c mGp_L (by decide))
  have u1 : mGp S p ((n + 3) / 4) (gC S p ((n + 3) / 4)) 44 0 = nI u := by rw [mGp_o (by decide)]; exact hu
  generalize gC S p ((n + 3) / 4) = g at *
  generalize mGp S p ((n + 3) / 4) g = S1 at *
  unfold mNakE mNakZ
  refine iA_set (iA_set ?_ (by decide)) (by decide)
  split
  · rename_i q
    have HF : ∀ k, k ∉ [44, 45] → mGu (mNakS S1 u t p g) (11 * u + 5) 6 k = S1 k := fun k hk => (mGu_L k (fun z => hk (by simp only [List.mem_cons, List.not_mem_nil, or_false] at z; subst z; decide))).trans (mSend_L k hk)
    refine iA_snd A1 u1 hu24 HF (fun _ => ?_) (fun z => by omega) (fun j hj => ?_) (fun _ t' _ _ w => ?_)
    · rw [mGu_o (by decide)]
      exact (mSend_u u1 hu24).trans (by rw [if_neg (by omega)])
    · unfold mGu
      rw [if_neg (by omega)]
      exact mSend_lo hj
    · have e0 : mGu (mNakS S1 u t p g) (11 * u + 5) 6 45 (11 * u) = nI 6 := nakRow (i := 0) q (by decide)
      rcases w with w | w
      · exact absurd (e0.symm.trans w) (by decide)
      · exact absurd (e0.symm.trans w.1) (by decide)
  · rename_i q
    have e : mNakS S1 u t p g = S1 := mSend_24 (by omega)
    rw [e]; exact A1
theorem iA_att {S : MS} {u t p n k0 c : Nat} (A : iA S) (t6 : t < 640) (hu : S 44 0 = nI u) (hu24 : u ≤ 24) (h26 : S 23 t = nI 6 → bw (S 26 p) 1 4) : iA (mAtt S u t p n k0 c) := by
  unfold mAtt
  split
  · rename_i q6
    split
    · split
      · exact iA_shut A (h26 q6)
      · exact iA_tell A t6 q6 hu hu24
    · exact A
  · split
    · split
      · exact A
      · exact iA_shut A (bw.of (by decide) (by decide))
    · split
      · split
        · exact A
        · exact iA_shut A (bw.of (by decide) (by decide))
      · split
        · exact A
        · split
          · exact iA_fin A t6 (bw.of (by decide) (by decide)) hu hu24
          · exact iA_nak A hu hu24
/-! a unit arrives -/
theorem iA_out {S : MS} {u k : Nat} (A : iA S) (hu : S 44 0 = nI u) (hu24 : u ≤ 24) (hk : k < u) : iA (mOut S u k) := by
  have g0 : gU S = u := by unfold gU; rw [hu, nI_clamp (by omega)]
  have g1 : gU (mOut S u k) = u - 1 := by
    unfold gU mOut mSh
    rw [if_neg (by omega), if_pos rfl, nI_clamp (by omega)]
  refine iA_gen A (aE_c mOut_L (by decide)) (fun j hj => Or.inl ⟨if k ≤ j then j + 1 else j, ?_, fun i hi => mOut_r hk (by omega) (by omega)⟩)
  split <;> omega
theorem iA_arr {S : MS} {u k : Nat} (A : iA S) (hu : S 44 0 = nI u) (hu24 : u ≤ 24) (hk : k < u) : iA (mArr S u k) := by
  unfold mArr
  refine iA_set (iA_out (iA_fr A (L := [46]) (fun f hf => funext fun j => mCm_o (fun z => hf (by rw [z]; decide))) (by decide) (aE_c (L := [46]) (fun f hf => funext fun j => mCm_o (fun z => hf (by rw [z]; decide))) (by decide))) ?_ hu24 hk) (by decide)
  rw [mCm_o (by decide)]; exact hu
theorem cA_arr {S : MS} {u k t : Nat} (A : iA S) (hu : S 44 0 = nI u) (hu24 : u ≤ 24) (hk : k < u) (t6 : t < 640) (ht : S 45 (11 * k + 2) = nI t) : cA (mArr S u k) t := by
  intro w
  have g0 : gU S = u := by unfold gU; rw [hu, nI_clamp (by omega)]
  have e : ∀ i, i < 11 → mArr S u k 46 i = S 45 (11 * k + i) := fun i hi => by
    unfold mArr
    rw [mset_k (by decide), mOut_o (by decide) (by decide)]
    unfold mCm
    rw [if_pos ⟨rfl, hi⟩]
  have e0 : mArr S u k 46 0 = S 45 (11 * k) := e 0 (by decide)
  rw [e0, e 1 (by decide)] at w
  exact aE_c mArr_L (by decide) t (A k (by omega) t t6 ht w)
theorem iA_tos {S : MS} {u t n k0 c gc : Nat} {Ga Gb : Nat → Nat} (A : iA S) (t6 : t < 640) (C : cA S t) (hu : S 44 0 = nI u) (hu24 : u ≤ 24) : iA (mToS S u t n k0 c gc Ga Gb) := by
  have key : ∀ S : MS, iA S → iA (mTS1 S t n k0 c gc Ga Gb) := fun S A => by
    unfold mTS1
    split
    · unfold mTS2
      split
      · exact iA_fr (iA_set (iA_set A (by decide)) (by decide)) mRm_L (by decide) (aE_c mRm_L (by decide))
      · split
        · split
          · exact iA_set A (by decide)
          · exact iA_set (iA_set A (by decide)) (by decide)
        · split
          · split
            · exact iA_set A (by decide)
            · unfold mAsked
              exact iA_set (iA_set A (by decide)) (by decide)
          · exact iA_set A (by decide)
    · exact A
  unfold mToS
  split
  · exact A
  · refine key _ ?_
    split
    · rename_i h4
      exact iA_sM A hu hu24 t6 (fun _ => C (Or.inl h4))
    · exact A
