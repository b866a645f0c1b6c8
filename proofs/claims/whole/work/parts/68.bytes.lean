/-! ===== bits: shifts, bytes, words ===== -/
theorem rb_shl {x : Int32} {k q : Nat} (hk : k < 32) (hq : q < 32) : rb (x <<< (nI k &&& 31)) q ↔ k ≤ q ∧ rb x (q - k) := by
  rw [rb_iff hq, rb_iff (by omega), Int32.toBitVec_shiftLeft, BitVec.shiftLeft_eq', bt_sh k hk, BitVec.getLsbD_shiftLeft]
  simp [hq]
theorem rb_shr {x : Int32} {k q : Nat} (hk : k < 32) (hq : q + k < 32) : rb (x >>> (nI k &&& 31)) q ↔ rb x (q + k) := by
  rw [rb_iff (by omega), rb_iff hq, Int32.toBitVec_shiftRight, BitVec.sshiftRight', bt_sh k hk, BitVec.getLsbD_sshiftRight]
  have h1 : ¬ 32 ≤ q := by omega
  have h2 : k + q < 32 := by omega
  simp [h1, h2, Nat.add_comm]
theorem rb_255 : ∀ q, q < 32 → (rb 255 q ↔ q < 8) := by
  unfold rb
  decide +kernel
theorem rb_msk : ∀ n, n ≤ 16 → ∀ q, q < 32 → (rb ((nI 1 <<< (nI n &&& 31)) - 1) q ↔ q < n) := by
  unfold rb
  decide +kernel
theorem rb_xor {x y : Int32} {q : Nat} (hq : q < 32) : rb (x ^^^ y) q ↔ ¬ (rb x q ↔ rb y q) := by
  rw [rb_iff hq, rb_iff hq, rb_iff hq, Int32.toBitVec_xor, BitVec.getLsbD_xor]
  cases x.toBitVec.getLsbD q <;> cases y.toBitVec.getLsbD q <;> decide
/-- a byte -/
def by8 (b : Int32) : Prop := b &&& 255 = b
theorem by8_b {b : Int32} (h : by8 b) {q : Nat} (hq : q < 32) (h8 : 8 ≤ q) : ¬ rb b q := by
  unfold by8 at h
  rw [← h, rb_and hq, rb_255 q hq]
  omega
theorem by8_and {v : Int32} : by8 (v &&& 255) := by
  unfold by8
  refine rb_ext fun q hq => ?_
  rw [rb_and hq, rb_and hq, rb_255 q hq]
  exact ⟨fun z => z.1, fun z => ⟨z, z.2⟩⟩
/-- the bytes of a word, one after the other from the lowest -/
def lw (b : Nat → Int32) : Nat → Int32
  | 0 => 0
  | k + 1 => lw b k ||| (b k <<< (nI (8 * k) &&& 31))
theorem lw_b {b : Nat → Int32} : ∀ k, k ≤ 4 → (∀ i, i < k → by8 (b i)) → ∀ q, q < 32 → (rb (lw b k) q ↔ q / 8 < k ∧ rb (b (q / 8)) (q % 8)) := by
  intro k
  induction k with
  | zero =>
    intro _ _ q hq
    unfold lw
    exact ⟨fun z => absurd z (rb_0 hq), fun z => by omega⟩
  | succ k ih =>
    intro hk hb q hq
    unfold lw
    rw [rb_or hq, ih (by omega) (fun i hi => hb i (by omega)) q hq, rb_shl (by omega) hq]
    constructor
    · rintro (⟨w1, w2⟩ | ⟨w1, w2⟩)
      · exact ⟨by omega, w2⟩
      · have h8 : q - 8 * k < 8 := by
          rcases Nat.lt_or_ge (q - 8 * k) 8 with z | z
          · exact z
          · exact absurd w2 (by8_b (hb k (by omega)) (by omega) z)
        have e1 : q / 8 = k := by omega
        have e2 : q % 8 = q - 8 * k := by omega
        rw [e1, e2]
        exact ⟨by omega, w2⟩
    · rintro ⟨w1, w2⟩
      by_cases e : q / 8 = k
      · right
        have e2 : q - 8 * k = q % 8 := by omega
        rw [e2, ← e]
        exact ⟨by omega, w2⟩
      · left
        exact ⟨by omega, w2⟩
theorem lB_b {v : Int32} {i q : Nat} (hi : i < 4) (hq : q < 32) : rb (lB v i) q ↔ q < 8 ∧ rb v (8 * i + q) := by
  unfold lB
  rw [rb_and hq, rb_255 q hq]
  by_cases w : q < 8
  · rw [rb_shr (by omega) (by omega), Nat.add_comm]
    exact ⟨fun z => ⟨z.2, z.1⟩, fun z => ⟨z.2, z.1⟩⟩
  · exact ⟨fun z => absurd z.2 w, fun z => absurd z.1 w⟩
theorem hB_b {v : Int32} {i q : Nat} (hi : i < 4) (hq : q < 32) : rb (hB v i) q ↔ q < 8 ∧ rb v (24 - 8 * i + q) := by
  unfold hB
  rw [rb_and hq, rb_255 q hq]
  by_cases w : q < 8
  · rw [rb_shr (by omega) (by omega), Nat.add_comm]
    exact ⟨fun z => ⟨z.2, z.1⟩, fun z => ⟨z.2, z.1⟩⟩
  · exact ⟨fun z => absurd z.2 w, fun z => absurd z.1 w⟩
theorem lB_lw {b : Nat → Int32} {k i : Nat} (hk : k ≤ 4) (hb : ∀ i, i < k → by8 (b i)) (hi : i < k) : lB (lw b k) i = b i := by
  refine rb_ext fun q hq => ?_
  rw [lB_b (by omega) hq]
  by_cases w : q < 8
  · rw [lw_b k hk hb _ (by omega), show (8 * i + q) / 8 = i from by omega, show (8 * i + q) % 8 = q from by omega]
    exact ⟨fun z => z.2.2, fun z => ⟨w, hi, z⟩⟩
  · exact ⟨fun z => absurd z.1 w, fun z => absurd z (by8_b (hb i hi) hq (by omega))⟩
/-- the reference's word: its bytes from the highest -/
theorem mWd_b {S : MS} {f n s : Nat} (hb : ∀ i, i < 4 → 4 * s + i < n → by8 (S 6 (64 * f + 4 * s + i))) : ∀ k, k ≤ 4 → ∀ q, q < 32 → (rb (mWd S f n s k) q ↔ q / 8 < k ∧ 4 * s + (k - 1 - q / 8) < n ∧ rb (S 6 (64 * f + 4 * s + (k - 1 - q / 8))) (q % 8)) := by
  intro k
  induction k with
  | zero =>
    intro _ q hq
    unfold mWd
    exact ⟨fun z => absurd z (rb_0 hq), fun z => by omega⟩
  | succ k ih =>
    intro hk q hq
    unfold mWd
    rw [rb_or hq, rb_shl (by decide) hq]
    by_cases q8 : 8 ≤ q
    · rw [ih (by omega) (q - 8) (by omega)]
      have e1 : (q - 8) / 8 = q / 8 - 1 := by omega
      have e2 : (q - 8) % 8 = q % 8 := by omega
      have e3 : k - 1 - (q / 8 - 1) = k + 1 - 1 - q / 8 := by omega
      rw [e1, e2, e3]
      constructor
      · rintro (⟨-, w1, w2, w3⟩ | w)
        · exact ⟨by omega, w2, w3⟩
        · split at w
          · rename_i z
            exact absurd w (by8_b (hb k (by omega) z) hq q8)
          · exact absurd w (rb_0 hq)
      · rintro ⟨w1, w2, w3⟩
        exact Or.inl ⟨q8, by omega, w2, w3⟩
    · have e1 : q / 8 = 0 := by omega
      have e2 : q % 8 = q := by omega
      rw [e1, e2]
      constructor
      · rintro (⟨w, -⟩ | w)
        · exact absurd w q8
        · split at w
          · rename_i z; exact ⟨by omega, z, w⟩
          · exact absurd w (rb_0 hq)
      · rintro ⟨w1, w2, w3⟩
        right
        rw [if_pos (show 4 * s + k < n from w2)]
        exact w3
theorem hB_wd {S : MS} {f n s i : Nat} (hb : ∀ i, i < 4 → 4 * s + i < n → by8 (S 6 (64 * f + 4 * s + i))) (hi : i < 4) (hn : 4 * s + i < n) : hB (mWd S f n s 4) i = S 6 (64 * f + 4 * s + i) := by
  refine rb_ext fun q hq => ?_
  rw [hB_b hi hq]
  by_cases w : q < 8
  · rw [mWd_b hb 4 (by omega) _ (by omega), show (24 - 8 * i + q) / 8 = 3 - i from by omega, show (24 - 8 * i + q) % 8 = q from by omega, show 4 - 1 - (3 - i) = i from by omega]
    exact ⟨fun z => z.2.2.2, fun z => ⟨w, by omega, hn, z⟩⟩
  · exact ⟨fun z => absurd z.1 w, fun z => absurd z (by8_b (hb i hi hn) hq (by omega))⟩
/-! sums of bytes -/
theorem or_add {x y : Int32} (h : ∀ q, q < 32 → ¬ (rb x q ∧ rb y q)) : x ||| y = x + y := by
  rw [← Int32.toBitVec_inj, Int32.toBitVec_or, Int32.toBitVec_add]
  refine (BitVec.add_eq_or_of_and_eq_zero _ _ ?_).symm
  apply BitVec.eq_of_getLsbD_eq
  intro i hi
  have := h i hi
  rw [rb_iff hi, rb_iff hi] at this
  rw [BitVec.getLsbD_and]
  simp only [BitVec.getLsbD_zero]
  cases h1 : x.toBitVec.getLsbD i <;> cases h2 : y.toBitVec.getLsbD i <;> simp_all
/-- the sum over the first k bytes -/
def bSum (b : Nat → Int32) : Nat → Int32
  | 0 => 0
  | k + 1 => bSum b k + (b k <<< (nI (24 - 8 * (k % 4)) &&& 31))
