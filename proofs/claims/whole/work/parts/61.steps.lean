/-! ===== a sender's step, a receiver's step as functions of the state ===== -/
def gU (S : MS) : Nat := (S 44 0).toNatClampNeg
def kP (A : Nat) (S : MS) (e t : Nat) : Nat := if S A (3 * e + 0) = nI t then 0 else if S A (3 * e + 1) = nI t then 1 else 2
def cP (B : Nat) (S : MS) (e : Nat) : Nat := (S B e).toNatClampNeg
theorem kP_has {A B : Nat} {S : MS} {e k0 c t : Nat} (h : mHas A B S e k0 c t) : kP A S e t = k0 ∧ cP B S e = c := by
  obtain ⟨h1, h2, h3, h4, h5⟩ := h
  refine ⟨?_, by unfold cP; rw [h3, nI_clamp (by omega)]⟩
  unfold kP
  have : k0 = 0 ∨ k0 = 1 ∨ k0 = 2 := by omega
  rcases this with w | w | w
  · subst w; rw [if_pos h4]
  · subst w; rw [if_neg (h5 0 (by omega)), if_pos h4]
  · subst w; rw [if_neg (h5 0 (by omega)), if_neg (h5 1 (by omega))]
theorem mInv.gu {S : MS} (I : mInv S) : S 44 0 = nI (gU S) ∧ gU S ≤ 24 := by
  obtain ⟨h1, h2, h3⟩ := I.1.1.c (by decide)
  exact ⟨h1, h3⟩
theorem mInv.hasS {S : MS} (I : mInv S) {t : Nat} (hv : vT S t) (ho : S 13 t = nI 5) : mHas 40 42 S (t / 320) (kP 40 S (t / 320) t) (cP 42 S (t / 320)) t := by
  have h640 := hv.1
  obtain ⟨k0, c, h⟩ := I.L.has (t := t) (show t / 320 < 2 by omega) hv ho
  have q := kP_has h
  show mHas 40 42 S (t / 320) (kP 40 S (t / 320) t) (cP 42 S (t / 320)) t
  rw [q.1, q.2]
  exact h
theorem mInv.hasR {S : MS} (I : mInv S) {t : Nat} (hv : vT S t) (ho : opR S t) : mHas 41 43 S (1 - t / 320) (kP 41 S (1 - t / 320) t) (cP 43 S (1 - t / 320)) t := by
  have h640 := hv.1
  obtain ⟨k0, c, h⟩ := I.M.has (t := t) (show 1 - t / 320 < 2 by omega) hv ho
  have q := kP_has h
  show mHas 41 43 S (1 - t / 320) (kP 41 S (1 - t / 320) t) (cP 43 S (1 - t / 320)) t
  rw [q.1, q.2]
  exact h
/-- a transaction's file: its place and its length -/
theorem mInv.file {S : MS} (I : mInv S) {t : Nat} (hv : vT S t) : nI (6 * (t / 320)) + S 9 t = nI (fI S t) ∧ fI S t < 12 ∧ S 5 (fI S t) = nI (fN S t) ∧ fN S t ≤ 64 := by
  have h640 := hv.1
  obtain ⟨h1, h2, h3⟩ := (I.T hv).2.1.c (by decide)
  have hf : fI S t < 12 := by unfold fI; omega
  obtain ⟨a1, a2, a3⟩ := (I.2.1 (fI S t) hf).2.c (by decide)
  refine ⟨?_, hf, a1, a3⟩
  unfold fI
  rw [← nI_add, ← h1]
def fW (S : MS) (t : Nat) : MS := mWork S (gU S) t (fI S t) (fN S t) (kP 40 S (t / 320) t) (cP 42 S (t / 320)) (S 14 t).toNatClampNeg (fBz (S 19 t) 32 0)
theorem wH_of {S : MS} (I : mInv S) {t : Nat} (hv : vT S t) (ho : S 13 t = nI 5) : wH S (gU S) t (fI S t) (fN S t) (kP 40 S (t / 320) t) (cP 42 S (t / 320)) (S 14 t).toNatClampNeg (fBz (S 19 t) 32 0) := by
  have h640 := hv.1
  obtain ⟨f1, f2, f3, f4⟩ := I.file hv
  obtain ⟨s1, s2, s3, s4⟩ := I.S hv ho
  obtain ⟨a1, a2, a3⟩ := s2.c (by omega)
  refine ⟨I, hv, ho, I.gu.1, I.gu.2, rfl, rfl, f4, a1, a3, I.hasS hv ho, fun h0 h16 => ?_⟩
  obtain ⟨q, q1, q2⟩ := rb_ex h0
  obtain ⟨b1, b2, b3, b4⟩ := fBz_p (x := S 19 t) 32 0 ⟨q, by omega, by omega, q2⟩
  refine ⟨b1, fun s hs => b4 s (by omega) hs, ?_⟩
  rcases s4 _ (by omega) b1 with w | w
  · rw [rb_16] at h16
    rw [w] at b1
    exact absurd b1 h16
  · exact w
def nP (S : MS) (p : Nat) : Nat := if S 37 p = 0 then 0 else (S 27 p).toNatClampNeg
def fA (S : MS) (t : Nat) : MS := mAtt S (gU S) t (sP S t) (nP S (sP S t)) (kP 41 S (1 - t / 320) t) (cP 43 S (1 - t / 320))
theorem mInv.sp {S : MS} (I : mInv S) {t : Nat} (hv : vT S t) (ho : opR S t) : S 25 t = nI (sP S t) ∧ sP S t < 6 ∧ (¬ S 37 (sP S t) = 0 → S 27 (sP S t) = nI (nP S (sP S t))) ∧ nP S (sP S t) ≤ 64 := by
  have R := (I.R hv).2.2 ho
  refine ⟨R.1, by have := R.2.2.1; omega, fun h => ?_, ?_⟩
  · unfold nP
    rw [if_neg h]
    exact ((R.2.2.2.2.2.2.2.1 h).c (by decide)).1
  · unfold nP
    split
    · omega
    · rename_i h
      exact ((R.2.2.2.2.2.2.2.1 h).c (by decide)).2.2
theorem fW_inv {S : MS} (I : mInv S) {t : Nat} (hv : vT S t) (ho : S 13 t = nI 5) : mInv (fW S t) := mInv_work (wH_of I hv ho)
theorem fA_inv {S : MS} (I : mInv S) {t : Nat} (hv : vT S t) (ho : opR S t) : mInv (fA S t) := mInv_att I hv ho (I.sp hv ho).1 (I.sp hv ho).2.1 I.gu.1 I.gu.2 (I.sp hv ho).2.2.2 (I.hasR hv ho)
/-! what a sender's step leaves alone -/
def wfr (S S' : MS) (t : Nat) : Prop := (∀ k, k ∉ [13, 14, 15, 16, 17, 18, 19, 40, 42, 44, 45] → S' k = S k) ∧ ∀ k, 13 ≤ k → k ≤ 19 → ∀ j, j ≠ t → S' k j = S k j
theorem wfr.rfl {S : MS} {t : Nat} : wfr S S t := ⟨fun _ _ => Eq.refl _, fun _ _ _ _ _ => Eq.refl _⟩
theorem wfr.set {S S' : MS} {t k : Nat} {x : Int32} (h : wfr S S' t) (hk : 13 ≤ k) (hk2 : k ≤ 19) : wfr S (mset S' k t x) t := by
  refine ⟨fun k' hk' => ?_, fun k' h1 h2 j hj => ?_⟩
  · simp only [List.mem_cons, List.not_mem_nil, or_false, not_or] at hk'
    rw [mset_kk (by omega)]
    exact h.1 k' (by simp only [List.mem_cons, List.not_mem_nil, or_false, not_or]; exact hk')
  · by_cases q : k' = k
    · subst q
      rw [mset_j (by simp [mIs]; omega) hj]
      exact h.2 k' h1 h2 j hj
    · rw [mset_k q]
      exact h.2 k' h1 h2 j hj
theorem wfr.fr {S S' S2 : MS} {t : Nat} (h : wfr S S' t) (H : ∀ k, k ∉ [40, 42, 44, 45] → S2 k = S' k) : wfr S S2 t := by
  refine ⟨fun k' hk' => ?_, fun k' h1 h2 j hj => ?_⟩
  · rw [H k' (by simp only [List.mem_cons, List.not_mem_nil, or_false, not_or] at hk' ⊢; omega)]
    exact h.1 k' hk'
  · rw [H k' (by simp only [List.mem_cons, List.not_mem_nil, or_false, not_or]; omega)]
    exact h.2 k' h1 h2 j hj
theorem mRm_L {A B : Nat} {S : MS} {e k0 c q : Nat} : ∀ k, k ∉ [A, B] → mRm A B S e k0 c q k = S k := fun k h => funext fun j => by
  simp only [List.mem_cons, List.not_mem_nil, or_false, not_or] at h
  exact mRm_o h.1 h.2
theorem wfr.rm {S S' : MS} {t e k0 c q : Nat} (h : wfr S S' t) : wfr S (mRm 40 42 S' e k0 c q) t := h.fr (fun k hk => mRm_L k (fun z => hk (by revert z; simp only [List.mem_cons, List.not_mem_nil, or_false]; omega)))
theorem sub4 {k : Nat} (h : k ∉ [40, 42, 44, 45]) : k ∉ [44, 45] := fun z => h (by revert z; simp only [List.mem_cons, List.not_mem_nil, or_false]; omega)
theorem wfr.snd {S S' : MS} {t u : Nat} {kind to tt a b c ty : Int32} (h : wfr S S' t) : wfr S (mSendT S' u kind to tt a b c ty) t := h.fr (fun k hk => mSendT_L k (sub4 hk))
theorem wfr_end {S S' : MS} {u t f n k0 c : Nat} (h : wfr S S' t) : wfr S (mEnd S' u t f n k0 c) t := by
  have h1 : wfr S (mEnd1 S' u t f n) t := by
    unfold mEnd1
    exact (h.snd.set (by decide) (by decide)).set (by decide) (by decide)
  unfold mEnd
  split
  · exact (h1.set (by decide) (by decide)).rm
  · exact h1
theorem wfr_work {S : MS} {u t f n k0 c st s0 : Nat} : wfr S (mWork S u t f n k0 c st s0) t := by
  unfold mWork
  split
  · have h := (wfr.rfl (S := S) (t := t)).set (k := 16) (x := S 16 t + nI 1) (by decide) (by decide)
    generalize mset S 16 t (S 16 t + nI 1) = S1 at h
    have h8 := h.set (k := 18) (x := S1 16 t) (by decide) (by decide)
    unfold mWk
    split
    · unfold mWk0
      split
      · exact wfr_end h8
      · split
        · exact (h8.snd).set (by decide) (by decide)
        · exact (h8.snd).set (by decide) (by decide)
    · split
      · unfold mRep
        split
        · exact (h8.set (k := 19) (by decide) (by decide)).snd
        · exact (h8.set (k := 19) (by decide) (by decide)).snd
      · split
        · unfold mWk2
          split
          · exact h
          · split
            · exact (h.set (by decide) (by decide)).rm
            · exact wfr_end h8
        · unfold mWk3
          split
          · exact (h.set (by decide) (by decide)).rm
          · exact h
  · exact wfr.rfl
/-! does a sender's step close it -/
def wsc (S S' : MS) (t c : Nat) : Prop := (S' 13 t = S 13 t ∧ S' 42 = S 42) ∨ (¬ S' 13 t = nI 5 ∧ S' 42 (t / 320) = nI (c - 1))
theorem wsc.fr {S S' : MS} {t c : Nat} (H : ∀ k, k ∉ [14, 15, 16, 17, 18, 19, 44, 45] → S' k = S k) : wsc S S' t c := Or.inl ⟨by rw [H 13 (by decide)], H 42 (by decide)⟩
theorem wsc.cl {S S' : MS} {t k0 c q : Nat} {x : Int32} (hx : ¬ x = nI 5) : wsc S (mRm 40 42 (mset S' 13 t x) (t / 320) k0 c q) t c := by
  refine Or.inr ⟨?_, mRm_B (by decide)⟩
  rw [mRm_o (by decide) (by decide), mset_s]
  exact hx
theorem wsc.tr {S S1 S' : MS} {t c : Nat} (H : ∀ k, k ∉ [14, 15, 16, 17, 18, 19, 44, 45] → S1 k = S k) (h : wsc S1 S' t c) : wsc S S' t c := by
  rcases h with ⟨h1, h2⟩ | h
  · exact Or.inl ⟨by rw [h1, H 13 (by decide)], by rw [h2, H 42 (by decide)]⟩
  · exact Or.inr h
theorem mset_L8 {S : MS} {k j : Nat} {x : Int32} (hk : k ∈ [14, 15, 16, 17, 18, 19, 44, 45]) : ∀ k', k' ∉ [14, 15, 16, 17, 18, 19, 44, 45] → mset S k j x k' = S k' := fun k' h => mset_kk (fun z => h (by rw [z]; exact hk))
theorem mSendT_L8 {S : MS} {u : Nat} {kind to t a b c ty : Int32} : ∀ k', k' ∉ [14, 15, 16, 17, 18, 19, 44, 45] → mSendT S u kind to t a b c ty k' = S k' := fun k' h => mSendT_L k' (fun z => h (by revert z; simp only [List.mem_cons, List.not_mem_nil, or_false]; omega))
theorem wsc_end {S : MS} {u t f n k0 c : Nat} : wsc S (mEnd S u t f n k0 c) t c := by
  unfold mEnd
  split
  · exact wsc.cl (by split <;> decide)
  · exact wsc.fr (fun k hk => mEnd1_L k (fun z => hk (by revert z; simp only [List.mem_cons, List.not_mem_nil, or_false]; omega)))
theorem wsc_work {S : MS} {u t f n k0 c st s0 : Nat} : wsc S (mWork S u t f n k0 c st s0) t c := by
  unfold mWork
  split
  · refine wsc.tr (mset_L8 (k := 16) (j := t) (x := S 16 t + nI 1) (by decide)) ?_
    generalize mset S 16 t (S 16 t + nI 1) = S1
    have h8 := mset_L8 (S := S1) (k := 18) (j := t) (x := S1 16 t) (by decide)
    unfold mWk
    split
    · unfold mWk0
      split
      · exact wsc.tr h8 wsc_end
      · split
        · exact wsc.fr (fun k hk => ((mset_L8 (by decide) k hk).trans (mSendT_L8 k hk)).trans (h8 k hk))
        · exact wsc.fr (fun k hk => ((mset_L8 (by decide) k hk).trans (mSendT_L8 k hk)).trans (h8 k hk))
    · split
      · unfold mRep
        split
        · exact wsc.fr (fun k hk => ((mSendT_L8 k hk).trans (mset_L8 (by decide) k hk)).trans (h8 k hk))
        · exact wsc.fr (fun k hk => ((mSendT_L8 k hk).trans (mset_L8 (by decide) k hk)).trans (h8 k hk))
      · split
        · unfold mWk2
          split
          · exact wsc.fr (fun _ _ => rfl)
          · split
            · exact wsc.cl (by decide)
            · exact wsc.tr h8 wsc_end
        · unfold mWk3
          split
          · exact wsc.cl (by decide)
          · exact wsc.fr (fun _ _ => rfl)
  · exact wsc.fr (fun _ _ => rfl)
theorem fW_c {S : MS} {t : Nat} (I : mInv S) (hv : vT S t) (ho : S 13 t = nI 5) : fW S t 42 (t / 320) = nI (if fW S t 13 t = nI 5 then cP 42 S (t / 320) else cP 42 S (t / 320) - 1) := by
  rcases wsc_work (S := S) (u := gU S) (t := t) (f := fI S t) (n := fN S t) (k0 := kP 40 S (t / 320) t) (c := cP 42 S (t / 320)) (st := (S 14 t).toNatClampNeg) (s0 := fBz (S 19 t) 32 0) with ⟨h1, h2⟩ | ⟨h1, h2⟩
  · unfold fW
    rw [h1, if_pos ho, h2]
    exact (I.hasS hv ho).2.2.1
  · unfold fW
    rw [if_neg h1, h2]
/-- .. and what it keeps -/
theorem iK_work {S : MS} {t : Nat} (K : iK S) (I : mInv S) (hv : vT S t) (ho : S 13 t = nI 5) : iK (fW S t) := by
  have F := wfr_work (S := S) (u := gU S) (t := t) (f := fI S t) (n := fN S t) (k0 := kP 40 S (t / 320) t) (c := cP 42 S (t / 320)) (st := (S 14 t).toNatClampNeg) (s0 := fBz (S 19 t) 32 0)
  intro t' v' o' k'
  have e8 : fW S t 8 = S 8 := F.1 8 (by decide)
  rw [e8] at k'
  have v2 : vT S t' := (vT_c F.1 (by decide)).mp v'
  by_cases q : t' = t
  · subst q
    have z := K t' hv ho k'
    revert o'
    unfold fW mWork
    split
    · have h13 : mset S 16 t' (S 16 t' + nI 1) 13 t' = nI 5 := by rw [mset_k (by decide)]; exact ho
      have h15 : mset S 16 t' (S 16 t' + nI 1) 15 t' = 0 := by rw [mset_k (by decide)]; exact z
      have h8 : mset S 16 t' (S 16 t' + nI 1) 8 t' = nI 1 := by rw [mset_k (by decide)]; exact k'
      generalize mset S 16 t' (S 16 t' + nI 1) = S1 at *
      unfold mWk
      rw [if_pos h15]
      unfold mWk0
      split
      · unfold mEnd
        rw [if_pos (by rw [mset_k (by decide)]; exact h8)]
        intro o'
        rw [mRm_o (by decide) (by decide), mset_s] at o'
        exact absurd o' (by split <;> decide)
      · intro _
        rw [mset_k (by decide)]
        split
        · rw [mM_o (by decide) (by decide), mset_k (by decide)]; exact h15
        · rw [mD_o (by decide) (by decide), mset_k (by decide)]; exact h15
    · intro _; exact z
  · have e13 : fW S t 13 t' = S 13 t' := F.2 13 (by decide) (by decide) t' q
    have e15 : fW S t 15 t' = S 15 t' := F.2 15 (by decide) (by decide) t' q
    rw [e13] at o'
    rw [e15]
    exact K t' v2 o' k'
