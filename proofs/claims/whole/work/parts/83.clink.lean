/-! ===== the link: a unit is taken, doubled, spoiled ===== -/
section CRe
variable {h h' : ix_H} {x : Nat} {S S' : MS} {T A R U D : Nat → Nat} {Lo Lr : Nat → List Nat} {u k : Nat}
theorem L_take (I : mInv S) (C : cRel h x S T A R U D Lo Lr) (hu : S 44 0 = nI u) (hu24 : u ≤ 24) (hk : k < u) (hh : ∀ b, b ≠ cLk x → b ≠ cRo x → ceq h h' b) (h8 : ∀ b, ix_tg h' b = ix_tg h b ∧ ix_ln h' b = ix_ln h b) (hlk : ∀ j, ix_r h' (cLk x) j = ix_r h (cLk x) j) (hn : ix_nx h' = ix_nx h) (hc : ix_i h' (cLk x) 1 = nI (u - 1)) (hr : ∀ j, j < u - 1 → ix_r h' (cRo x) j = ix_r h (cRo x) (if k ≤ j then j + 1 else j)) : cRel h' x (mOut S u k) T A R (fun j => U (if k ≤ j then j + 1 else j)) D Lo Lr := by
  have g0 : gU S = u := by unfold gU; rw [hu, nI_clamp (by omega)]
  have e44 : mOut S u k 44 0 = nI (u - 1) := by unfold mOut mSh; rw [if_neg (by omega), if_pos rfl]
  have g1 : gU (mOut S u k) = u - 1 := by unfold gU; rw [e44, nI_clamp (by omega)]
  refine cRel_us I C (fun b h1 h2 _ => hh b h1 h2) h8 hlk hn (fun f hf => mOut_L f (fun z => hf (by revert z; simp only [List.mem_cons, List.not_mem_nil, or_false]; omega))) ⟨by rw [hc, e44], fun j hj => ?_, fun j hj j' hj' q => ?_⟩
  · rw [g1] at hj
    have hj2 : (if k ≤ j then j + 1 else j) < gU S := by rw [g0]; split <;> omega
    obtain ⟨w1, w2⟩ := C.us.2.1 _ hj2
    refine ⟨by rw [hr j hj]; exact w1, ?_⟩
    show cUn h' x (mOut S u k) T (U (if k ≤ j then j + 1 else j)) j
    have ce := hh (U (if k ≤ j then j + 1 else j)) (by have := w2.1; unfold cLk; omega) (by have := w2.1; unfold cRo; omega)
    have g3 := I.g3 hj2
    have s : ∀ i, i < 11 → mOut S u k 45 (11 * j + i) = S 45 (11 * (if k ≤ j then j + 1 else j) + i) := fun i hi => mOut_r hk hj hi
    generalize (if k ≤ j then j + 1 else j) = j2 at w2 ce g3 s ⊢
    obtain ⟨a1, a2, a3, a4, a5, a6, a7, a8, a9⟩ := w2
    have s0 : mOut S u k 45 (11 * j) = S 45 (11 * j2) := s 0 (by decide)
    refine ⟨a1, by rw [ce.1]; exact a2, by rw [ce.2.2.2, s 2 (by decide)]; exact a3, by rw [ce.2.2.1, s0]; exact a4, by rw [ce.2.2.1, s 1 (by decide)]; exact a5, by rw [ce.2.2.1, s0, s 4 (by decide), s 3 (by decide)]; exact a6, fun q => ?_, fun q => ?_, fun q => ?_⟩
    · rw [s0] at q
      rw [ce.2.2.1, ce.2.2.1, s 4 (by decide), s 5 (by decide)]
      exact a7 q
    · rw [s0] at q
      rw [ce.2.2.1, s 4 (by decide)]
      exact a8 q
    · rw [s0] at q
      have g3' := g3 q
      intro y hy
      rw [ce.2.2.1, s 4 (by decide), a9 q y hy]
      constructor
      · rintro ⟨i, w1, w2, w3⟩
        refine ⟨i, w1, ?_, ?_⟩
        · rw [Nat.add_assoc, s (5 + 2 * i) (by omega), ← Nat.add_assoc]; exact w2
        · rw [Nat.add_assoc, s (6 + 2 * i) (by omega), ← Nat.add_assoc]; exact w3
      · rintro ⟨i, w1, w2, w3⟩
        refine ⟨i, w1, ?_, ?_⟩
        · rw [Nat.add_assoc, s (5 + 2 * i) (by omega), ← Nat.add_assoc] at w2; exact w2
        · rw [Nat.add_assoc, s (6 + 2 * i) (by omega), ← Nat.add_assoc] at w3; exact w3
  · rw [g1] at hj hj'
    have := C.us.2.2 _ (by rw [g0]; split <;> omega) _ (by rw [g0]; split <;> omega) q
    split at this <;> split at this <;> omega
/-- a copy goes out -/
theorem L_copy (I : mInv S) (C : cRel h x S T A R U D Lo Lr) (hu : S 44 0 = nI u) (hu24 : u < 24) (hk : k < u) : ∃ U', cRel (hSd x (hUn h (T (S 45 (11 * k + 2)).toNatClampNeg) (ix_i h (U k) 1) (ix_i h (U k) 2) (ix_i h (U k) 3) (ix_i h (U k) 4) (ix_i h (U k) 5)) (ix_nx h)) x (mCopy S u k) T A R U' D Lo Lr := by
  have g0 : gU S = u := by unfold gU; rw [hu, nI_clamp (by omega)]
  obtain ⟨t, t1, t2, t3⟩ := I.u hu (by omega) hk
  have w := (C.us.2.1 k (by omega)).2
  have g3 := I.g3 (j := k) (by omega)
  have s : ∀ i, i < 11 → mCopy S u k 45 (11 * u + i) = S 45 (11 * k + i) := fun i hi => by rw [mCopy_r hi (Nat.le_refl u), if_pos rfl]
  have s0 : mCopy S u k 45 (11 * u) = S 45 (11 * k) := s 0 (by decide)
  have h640 := t2.1
  refine cRel_send (t := t) I C g0 (by omega) (fun _ => mCopy_L) (fun _ => by unfold mCopy; exact mset_s) (fun _ j hj => ?_) (fun q => by omega) (fun _ => by rw [s 2 (by decide)]; exact t1) h640 (by rw [t1, nI_clamp (by omega)]) (fun _ => ?_)
  · unfold mCopy mCp
    rw [mset_k (by decide), if_neg (by omega)]
  · obtain ⟨a1, a2, a3, a4, a5, a6, a7, a8, a9⟩ := w
    unfold uOK
    rw [s0, s 1 (by decide), s 3 (by decide), s 4 (by decide), s 5 (by decide)]
    refine ⟨a4, a5, a6, a7, a8, fun q y hy => ?_⟩
    have g3' := g3 q
    rw [a9 q y hy]
    constructor
    · rintro ⟨i, w1, w2, w3⟩
      refine ⟨i, w1, ?_, ?_⟩
      · rw [Nat.add_assoc, s (5 + 2 * i) (by omega), ← Nat.add_assoc]; exact w2
      · rw [Nat.add_assoc, s (6 + 2 * i) (by omega), ← Nat.add_assoc]; exact w3
    · rintro ⟨i, w1, w2, w3⟩
      refine ⟨i, w1, ?_, ?_⟩
      · rw [Nat.add_assoc, s (5 + 2 * i) (by omega), ← Nat.add_assoc] at w2; exact w2
      · rw [Nat.add_assoc, s (6 + 2 * i) (by omega), ← Nat.add_assoc] at w3; exact w3
/-- bits are turned over -/
theorem spl_b {v b : Int32} : ∀ n, n ≤ 4 → ∀ q, q < 32 → (rb (mSpl v b n) q ↔ ¬ (rb v q ↔ (4 - n ≤ q / 8 ∧ rb b (8 * (3 - q / 8) + q % 8)))) := by
  intro n
  induction n with
  | zero =>
    intro _ q hq
    unfold mSpl
    have h1 : ¬ (4 - 0 ≤ q / 8 ∧ rb b (8 * (3 - q / 8) + q % 8)) := fun z => by omega
    constructor
    · intro w z
      exact h1 (z.mp w)
    · intro w
      exact Classical.byContradiction fun z => w ⟨fun y => absurd y z, fun y => absurd y h1⟩
  | succ n ih =>
    intro hn q hq
    unfold mSpl
    have e1 : rb (((b >>> (nI (8 * n) &&& 31)) &&& nI 255) <<< (nI (24 - 8 * n) &&& 31)) q ↔ q / 8 = 3 - n ∧ rb b (8 * (3 - q / 8) + q % 8) := by
      rw [rb_shl (by omega) hq]
      constructor
      · rintro ⟨w1, w2⟩
        have := (lB_b (v := b) (i := n) (by omega) (q := q - (24 - 8 * n)) (by omega)).mp w2
        refine ⟨by omega, ?_⟩
        have e : 8 * (3 - q / 8) + q % 8 = 8 * n + (q - (24 - 8 * n)) := by omega
        rw [e]; exact this.2
      · rintro ⟨w1, w2⟩
        refine ⟨by omega, (lB_b (v := b) (i := n) (by omega) (q := q - (24 - 8 * n)) (by omega)).mpr ⟨by omega, ?_⟩⟩
        have e : 8 * n + (q - (24 - 8 * n)) = 8 * (3 - q / 8) + q % 8 := by omega
        rw [e]; exact w2
    rw [rb_xor hq, ih (by omega) q hq, e1]
    by_cases w : q / 8 = 3 - n
    · have h1 : ¬ (4 - n ≤ q / 8) := by omega
      have h2 : 4 - (n + 1) ≤ q / 8 := by omega
      simp only [w, h1, true_and, false_and]
      have h3 : 4 - (n + 1) ≤ 3 - n := by omega
      have h4 : ¬ 4 - n ≤ 3 - n := by omega
      simp only [h3, h4, true_and, false_and]
      by_cases a : rb v q <;> by_cases c : rb b (8 * (3 - (3 - n)) + q % 8) <;> simp [a, c]
    · have h1 : (4 - n ≤ q / 8) ↔ (4 - (n + 1) ≤ q / 8) := by omega
      simp only [w, false_and, h1]
      by_cases a : rb v q <;> by_cases c : (4 - (n + 1) ≤ q / 8 ∧ rb b (8 * (3 - q / 8) + q % 8)) <;> simp [a, c]
theorem spl_x {v w b : Int32} {n q : Nat} (hn : n ≤ 4) (hq : q < n) (h : lB v q = hB w q) : lB (v ^^^ b) q = hB (mSpl w b n) q := by
  refine rb_ext fun i hi => ?_
  have h1 := lB_b (v := v) (i := q) (by omega) hi
  have h2 := hB_b (v := w) (i := q) (by omega) hi
  rw [h] at h1
  rw [lB_b (by omega) hi, hB_b (by omega) hi]
  by_cases i8 : i < 8
  · have hv : rb v (8 * q + i) ↔ rb w (24 - 8 * q + i) := by
      have := h1.symm.trans h2
      exact ⟨fun z => (this.mp ⟨i8, z⟩).2, fun z => (this.mpr ⟨i8, z⟩).2⟩
    rw [rb_xor (by omega), spl_b n hn _ (by omega), hv, show (24 - 8 * q + i) / 8 = 3 - q from by omega, show (24 - 8 * q + i) % 8 = i from by omega, show 8 * (3 - (3 - q)) + i = 8 * q + i from by omega]
    have h4 : 4 - n ≤ 3 - q := by omega
    simp only [h4, true_and]
  · exact ⟨fun z => absurd z.1 i8, fun z => absurd z.1 i8⟩
theorem L_spoil {b : Int32} {n : Nat} (I : mInv S) (C : cRel h x S T A R U D Lo Lr) (hu : S 44 0 = nI u) (hu24 : u ≤ 24) (hk : k < u) (hD : S 45 (11 * k) = nI 2) (hn : S 45 (11 * k + 4) = nI n) (hn4 : n ≤ 4) : cRel (ix_si h (U k) 5 (ix_i h (U k) 5 ^^^ b)) x (mSpoil S k n b) T A R U D Lo Lr := by
  have g0 : gU S = u := by unfold gU; rw [hu, nI_clamp (by omega)]
  have L : ∀ f, f ∉ [45] → mSpoil S k n b f = S f := mset_L
  have r : ∀ j, j ≠ 11 * k + 5 → mSpoil S k n b 45 j = S 45 j := fun j hj => mset_j rfl hj
  have r5 : mSpoil S k n b 45 (11 * k + 5) = mSpl (S 45 (11 * k + 5)) b n := mset_s
  have g1 : gU (mSpoil S k n b) = u := by unfold gU; rw [L 44 (by decide), hu, nI_clamp (by omega)]
  have wk := C.us.2.1 k (by omega)
  have U30 := wk.2.1
  have U8 := wk.2.2.1
  refine cRel_us I C (fun c h1 h2 h3 => ?_) (fun c => ⟨rfl, rfl⟩) (fun j => rfl) rfl (fun f hf => L f (fun z => hf (by revert z; simp only [List.mem_cons, List.not_mem_nil, or_false]; omega))) ⟨?_, fun j hj => ?_, by rw [g1, ← g0]; exact C.us.2.2⟩
  · have : c ≠ U k := fun z => by
      rcases h3 with w | w
      · exact w (by rw [z]; exact U8)
      · omega
    exact ⟨rfl, rfl, fun j => by rw [ix_i_si, if_neg (fun z => this z.1)], fun _ => rfl⟩
  · rw [ix_i_si, if_neg (by unfold cLk; omega), L 44 (by decide)]; exact C.us.1
  · rw [g1, ← g0] at hj
    obtain ⟨w1, w2⟩ := C.us.2.1 j hj
    refine ⟨w1, ?_⟩
    by_cases q : j = k
    · subst q
      obtain ⟨a1, a2, a3, a4, a5, a6, a7, a8, a9⟩ := w2
      have i : ∀ kk, kk ≠ 5 → ix_i (ix_si h (U j) 5 (ix_i h (U j) 5 ^^^ b)) (U j) kk = ix_i h (U j) kk := fun kk hkk => by rw [ix_i_si, if_neg (fun z => hkk z.2)]
      have i5 : ix_i (ix_si h (U j) 5 (ix_i h (U j) 5 ^^^ b)) (U j) 5 = ix_i h (U j) 5 ^^^ b := by rw [ix_i_si, if_pos ⟨rfl, rfl⟩]
      unfold cUn
      rw [r (11 * j) (by omega), r (11 * j + 1) (by omega), r (11 * j + 2) (by omega), r (11 * j + 3) (by omega), r (11 * j + 4) (by omega), r5, i 1 (by decide), i 2 (by decide), i 3 (by decide), i 4 (by decide), i5]
      refine ⟨a1, a2, a3, a4, a5, a6, fun _ => ⟨(a7 hD).1, fun y hy => ?_⟩, fun z => absurd (hD.symm.trans z) (by decide), fun z => absurd (hD.symm.trans z) (by decide)⟩
      have h7 := (a7 hD).2 y hy
      rw [hn, nI_clamp (by omega)] at hy
      exact spl_x hn4 hy h7
    · have ne : U j ≠ U k := fun z => q (C.us.2.2 j hj k (by omega) z)
      exact cUn_fr w2 ⟨rfl, rfl, fun jj => by rw [ix_i_si, if_neg (fun z => ne z.1)], fun _ => rfl⟩ (fun i hi => r _ (by omega)) (I.g3 hj)
end CRe
