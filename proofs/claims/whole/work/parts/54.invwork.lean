/-! ===== how the invariant is kept: a sender's step ===== -/
/-- the first bit from s on -/
def fBz (x : Int32) : Nat → Nat → Nat
  | 0, s => s
  | z + 1, s => if ((x >>> (nI s &&& 31)) &&& nI 1) = 0 then fBz x z (s + 1) else s
theorem fBz_p {x : Int32} : ∀ (z s : Nat), (∃ q, s ≤ q ∧ q < s + z ∧ rb x q) → rb x (fBz x z s) ∧ s ≤ fBz x z s ∧ fBz x z s < s + z ∧ ∀ q, s ≤ q → q < fBz x z s → ¬ rb x q := by
  intro z
  induction z with
  | zero => intro s ⟨q, h1, h2, _⟩; omega
  | succ z ih =>
    intro s ⟨q, h1, h2, h3⟩
    unfold fBz
    split
    · rename_i w
      have hne : q ≠ s := fun e => by subst e; exact h3 w
      obtain ⟨a, b, b2, c⟩ := ih (s + 1) ⟨q, by omega, by omega, h3⟩
      refine ⟨a, by omega, by omega, fun q' h4 h5 => ?_⟩
      by_cases e : q' = s
      · subst e; exact fun y => y w
      · exact c q' (by omega) h5
    · rename_i w
      exact ⟨w, by omega, by omega, fun q' h4 h5 => by omega⟩
/-- what a sender's step needs -/
def wH (S : MS) (u t f n k0 c st s0 : Nat) : Prop := mInv S ∧ vT S t ∧ S 13 t = nI 5 ∧ S 44 0 = nI u ∧ u ≤ 24 ∧ f = fI S t ∧ n = fN S t ∧ n ≤ 64 ∧ S 14 t = nI st ∧ st ≤ (n + 3) / 4 + 1 ∧ mHas 40 42 S (t / 320) k0 c t ∧ (¬ S 19 t = 0 → ¬ (S 19 t >>> (nI 16 &&& 31)) &&& nI 1 = nI 1 → rb (S 19 t) s0 ∧ (∀ s, s < s0 → ¬ rb (S 19 t) s) ∧ 4 * s0 < n)
theorem fI_c {S S' : MS} {t : Nat} {L : List Nat} (H : ∀ k, k ∉ L → S' k = S k) (d : ∀ k ∈ [9], k ∉ L) : fI S' t = fI S t := by unfold fI; rw [H 9 (d 9 (by decide))]
theorem fN_c {S S' : MS} {t : Nat} {L : List Nat} (H : ∀ k, k ∉ L → S' k = S k) (d : ∀ k ∈ [5, 9], k ∉ L) : fN S' t = fN S t := by unfold fN; rw [fI_c H (fun k hk => d k (by revert k; decide)), H 5 (d 5 (by decide))]
theorem mHas_c {A B : Nat} {S S' : MS} {L : List Nat} {e k0 c t : Nat} (H : ∀ k, k ∉ L → S' k = S k) (d : ∀ k ∈ [A, B], k ∉ L) (h : mHas A B S e k0 c t) : mHas A B S' e k0 c t := mHas_o h (fun j => by rw [H A (d A (by simp))]) (fun j => by rw [H B (d B (by simp))])
theorem wH_w {S : MS} {u t f n k0 c st s0 k : Nat} {x : Int32} (X : wH S u t f n k0 c st s0) (hk : k = 16 ∨ k = 17 ∨ k = 18) : wH (mset S k t x) u t f n k0 c st s0 := by
  obtain ⟨I, hv, ho, hu, hu24, hf, hn, hn64, hst, hst2, hH, hR⟩ := X
  have H : ∀ k', k' ∉ [16, 17, 18] → mset S k t x k' = S k' := fun k' h => mset_kk (fun e => h (by rw [e]; simp only [List.mem_cons, List.not_mem_nil, or_false]; exact hk))
  exact ⟨mInv_w I hv hk, (vT_c H (by decide)).mpr hv, by rw [H 13 (by decide)]; exact ho, by rw [H 44 (by decide)]; exact hu, hu24, by rw [fI_c H (by decide)]; exact hf, by rw [fN_c H (by decide)]; exact hn, hn64, by rw [H 14 (by decide)]; exact hst, hst2, mHas_c H (by decide) hH, by rw [H 19 (by decide)]; exact hR⟩
theorem mEnd1_L {S : MS} {u t f n : Nat} : ∀ k, k ∉ [15, 17, 44, 45] → mEnd1 S u t f n k = S k := fun k h => funext fun j => by
  simp only [List.mem_cons, List.not_mem_nil, or_false, not_or] at h
  unfold mEnd1
  rw [mset_k h.2.1, mset_k h.1, mSendT_o h.2.2.2 h.2.2.1]
theorem mInv_end1 {S : MS} {u t f n k0 c st s0 : Nat} (X : wH S u t f n k0 c st s0) (h3 : bw (S 15 t + nI 1) 0 3) : mInv (mEnd1 S u t f n) := by
  obtain ⟨I, hv, ho, hu, hu24, hf, hn, hn64, hst, hst2, hH, hR⟩ := X
  unfold mEnd1
  have I1 : mInv (mSendT S u (nI 3) (nI (1 - t / 320)) (nI t) (if S 21 t = 0 then nI n else -1) (if S 21 t = 0 then mCk S f n ((n + 3) / 4) else nI 0) (nI 0) (S 8 t)) := by
    refine mInv_sendT I hu hu24 hv (fun h => Or.inr (Or.inr (Or.inl ⟨mSendT_r (i := 0) h (by decide), mSendT_r (i := 1) h (by decide), ?_, (mSendT_r (i := 6) h (by decide)).trans (mSendT_o (by decide) (by decide)).symm⟩)))
    rw [mSendT_r h (by decide)]
    show (if S 21 t = 0 then nI n else -1) = -1 ∨ bw (if S 21 t = 0 then nI n else -1) 0 64
    split
    · exact Or.inr (bw.of (by omega) hn64)
    · exact Or.inl rfl
  have I2 := mInv_f (k := 15) (x := S 15 t + nI 1) I1 ((vT_c mSendT_L (by decide)).mpr hv) (by decide) (fun q => absurd q (by decide)) (fun q => absurd q (by decide)) (fun _ _ => h3) (fun q => absurd q (by decide))
  exact mInv_w I2 ((vT_c mset_L (by decide)).mpr ((vT_c mSendT_L (by decide)).mpr hv)) (Or.inr (Or.inl rfl))
theorem mInv_end {S : MS} {u t f n k0 c st s0 : Nat} (X : wH S u t f n k0 c st s0) (h3 : bw (S 15 t + nI 1) 0 3) : mInv (mEnd S u t f n k0 c) := by
  have I1 := mInv_end1 X h3
  obtain ⟨I, hv, ho, hu, hu24, hf, hn, hn64, hst, hst2, hH, hR⟩ := X
  unfold mEnd
  split
  · refine mInv_close I1 ((vT_c mEnd1_L (by decide)).mpr hv) ?_ (mHas_c mEnd1_L (by decide) hH)
    split
    · exact bw.of (by decide) (by decide)
    · exact bw.of (by decide) (by decide)
  · exact I1
theorem mInv_wk0 {S : MS} {u t f n k0 c st s0 : Nat} (X : wH S u t f n k0 c st s0) (h0 : S 15 t = 0) : mInv (mWk0 S u t f n k0 c st) := by
  have X1 := wH_w (k := 18) (x := S 16 t) X (Or.inr (Or.inr rfl))
  unfold mWk0
  split
  · exact mInv_end X1 (by rw [mset_k (by decide), h0]; exact bw.of (n := 1) (by decide) (by decide))
  · rename_i q
    have q2 : st ≤ (n + 3) / 4 := by
      rcases Nat.lt_or_ge ((n + 3) / 4) st with w | w
      · exact absurd (Or.inr w) q
      · exact w
    obtain ⟨I, hv, ho, hu, hu24, hf, hn, hn64, hst, hst2, hH, hR⟩ := X1
    have key : ∀ S' : MS, mInv S' → (∀ k, k ∉ [44, 45] → S' k = mset S 18 t (S 16 t) k) → mInv (mset S' 14 t (nI (st + 1))) := by
      intro S' I' H'
      refine mInv_f I' ((vT_c H' (by decide)).mpr hv) (by decide) (fun q => absurd q (by decide)) (fun _ _ => ?_) (fun q => absurd q (by decide)) (fun q => absurd q (by decide))
      rw [fN_c H' (by decide), ← hn]
      exact bw.of (by omega) (by omega)
    split
    · exact key _ (mInv_meta I hu hu24 hv) mSendT_L
    · exact key _ (mInv_data I hu hu24 hv (by omega) hn64) mSendT_L
theorem mInv_rep {S : MS} {u t f n k0 c st s0 : Nat} (X : wH S u t f n k0 c st s0) (h0 : ¬ S 19 t = 0) : mInv (mRep S u t f n s0) := by
  obtain ⟨I, hv, ho, hu, hu24, hf, hn, hn64, hst, hst2, hH, hR⟩ := X
  have hb := (I.S hv ho).2.2.2
  unfold mRep
  split
  · refine mInv_meta (mInv_f I hv (by decide) (fun q => absurd q (by decide)) (fun q => absurd q (by decide)) (fun q => absurd q (by decide)) (fun _ _ s hs hr => hb s hs ((rb_lo hs).mp hr).1)) ?_ hu24 ((vT_c mset_L (by decide)).mpr hv)
    rw [mset_k (by decide)]; exact hu
  · rename_i q
    obtain ⟨r1, r2, r3⟩ := hR h0 q
    refine mInv_data (mInv_f I hv (by decide) (fun q => absurd q (by decide)) (fun q => absurd q (by decide)) (fun q => absurd q (by decide)) (fun _ _ s hs hr => hb s hs ((rb_clr (by omega) hs).mp hr).1)) ?_ hu24 ((vT_c mset_L (by decide)).mpr hv) r3 hn64
    rw [mset_k (by decide)]; exact hu
theorem mInv_work {S : MS} {u t f n k0 c st s0 : Nat} (X : wH S u t f n k0 c st s0) : mInv (mWork S u t f n k0 c st s0) := by
  unfold mWork
  split
  · have X1 := wH_w (k := 16) (x := S 16 t + nI 1) X (Or.inl rfl)
    generalize mset S 16 t (S 16 t + nI 1) = S1 at X1
    unfold mWk
    split
    · rename_i q; exact mInv_wk0 X1 q
    · split
      · rename_i q
        refine mInv_rep (wH_w X1 (Or.inr (Or.inr rfl))) ?_
        rw [mset_k (by decide)]; exact q
      · obtain ⟨I, hv, ho, hu, hu24, hf, hn, hn64, hst, hst2, hH, hR⟩ := id X1
        split
        · unfold mWk2
          split
          · exact I
          · split
            · exact mInv_close I hv (bw.of (by decide) (by decide)) hH
            · rename_i q3
              refine mInv_end (wH_w X1 (Or.inr (Or.inr rfl))) ?_
              rw [mset_k (by decide)]
              obtain ⟨e, e1, e2, e3⟩ := (I.S hv ho).2.2.1
              have : e ≠ 3 := fun z => by subst z; exact q3 e3
              rw [e3, nI_add]
              exact bw.of (by omega) (by omega)
        · unfold mWk3
          split
          · exact mInv_close I hv (bw.of (by decide) (by decide)) hH
          · exact I
  · exact X.1
