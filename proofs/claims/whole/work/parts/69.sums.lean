/-- a word is the sum of its bytes in their places -/
def wT (S : MS) (f n s i : Nat) : Int32 := (if 4 * s + i < n then S 6 (64 * f + 4 * s + i) else 0) <<< (nI (24 - 8 * i) &&& 31)
theorem wT_b {S : MS} {f n s i : Nat} (hb : ∀ i, i < 4 → 4 * s + i < n → by8 (S 6 (64 * f + 4 * s + i))) (hi : i < 4) {q : Nat} (hq : q < 32) : rb (wT S f n s i) q ↔ q / 8 = 3 - i ∧ 4 * s + i < n ∧ rb (S 6 (64 * f + 4 * s + i)) (q % 8) := by
  unfold wT
  rw [rb_shl (by omega) hq]
  split
  · rename_i z
    constructor
    · rintro ⟨w1, w2⟩
      have h8 : q - (24 - 8 * i) < 8 := by
        rcases Nat.lt_or_ge (q - (24 - 8 * i)) 8 with y | y
        · exact y
        · exact absurd w2 (by8_b (hb i hi z) (by omega) y)
      have e : q % 8 = q - (24 - 8 * i) := by omega
      rw [e]
      exact ⟨by omega, z, w2⟩
    · rintro ⟨w1, w2, w3⟩
      have e : q - (24 - 8 * i) = q % 8 := by omega
      rw [e]
      exact ⟨by omega, w3⟩
  · rename_i z
    exact ⟨fun w => absurd w.2 (rb_0 (by omega)), fun w => absurd w.2.1 z⟩
theorem wd_sum {S : MS} {f n s : Nat} (hb : ∀ i, i < 4 → 4 * s + i < n → by8 (S 6 (64 * f + 4 * s + i))) : mWd S f n s 4 = wT S f n s 0 + wT S f n s 1 + wT S f n s 2 + wT S f n s 3 := by
  have B := fun i (hi : i < 4) q (hq : q < 32) => wT_b (i := i) hb hi hq
  have e1 : wT S f n s 0 ||| wT S f n s 1 = wT S f n s 0 + wT S f n s 1 := or_add fun q hq z => by
    rw [B 0 (by decide) q hq, B 1 (by decide) q hq] at z
    omega
  have e2 : (wT S f n s 0 ||| wT S f n s 1) ||| wT S f n s 2 = (wT S f n s 0 ||| wT S f n s 1) + wT S f n s 2 := or_add fun q hq z => by
    rw [rb_or hq, B 0 (by decide) q hq, B 1 (by decide) q hq, B 2 (by decide) q hq] at z
    omega
  have e3 : ((wT S f n s 0 ||| wT S f n s 1) ||| wT S f n s 2) ||| wT S f n s 3 = ((wT S f n s 0 ||| wT S f n s 1) ||| wT S f n s 2) + wT S f n s 3 := or_add fun q hq z => by
    rw [rb_or hq, rb_or hq, B 0 (by decide) q hq, B 1 (by decide) q hq, B 2 (by decide) q hq, B 3 (by decide) q hq] at z
    omega
  rw [← e1, ← e2, ← e3]
  refine rb_ext fun q hq => ?_
  rw [mWd_b hb 4 (by omega) q hq, rb_or hq, rb_or hq, rb_or hq, B 0 (by decide) q hq, B 1 (by decide) q hq, B 2 (by decide) q hq, B 3 (by decide) q hq]
  have h4 : q / 8 = 3 ∨ q / 8 = 2 ∨ q / 8 = 1 ∨ q / 8 = 0 := by omega
  rcases h4 with w | w | w | w <;> rw [w] <;> simp
theorem bSum_s {b : Nat → Int32} {k : Nat} : bSum b (k + 1) = bSum b k + (b k <<< (nI (24 - 8 * (k % 4)) &&& 31)) := rfl
/-- the reference's checksum is the sum over all bytes -/
def zB (S : MS) (f n i : Nat) : Int32 := if i < n then S 6 (64 * f + i) else 0
theorem ck_sum {S : MS} {f n : Nat} (hb : ∀ i, i < n → by8 (S 6 (64 * f + i))) : ∀ a, mCk S f n a = bSum (zB S f n) (4 * a) := by
  intro a
  induction a with
  | zero => rfl
  | succ a ih =>
    unfold mCk
    rw [ih, wd_sum (fun i hi hn => by rw [Nat.add_assoc]; exact hb _ hn)]
    have e : ∀ k, k < 4 → bSum (zB S f n) (4 * a + (k + 1)) = bSum (zB S f n) (4 * a + k) + wT S f n a k := by
      intro k hk
      rw [← Nat.add_assoc, bSum_s]
      congr 1
      unfold zB wT
      rw [show (4 * a + k) % 4 = k from by omega, Nat.add_assoc (64 * f)]
    rw [show 4 * (a + 1) = 4 * a + (3 + 1) from by omega, e 3 (by omega), e 2 (by omega), e 1 (by omega), e 0 (by omega)]
    simp only [Int32.add_assoc]
    rfl
theorem bSum_e {b c : Nat → Int32} : ∀ k, (∀ i, i < k → b i = c i) → bSum b k = bSum c k := by
  intro k
  induction k with
  | zero => intro _; rfl
  | succ k ih =>
    intro h
    unfold bSum
    rw [ih (fun i hi => h i (by omega)), h k (by omega)]
theorem zB_sum {S : MS} {f n : Nat} : ∀ k, bSum (zB S f n) (n + k) = bSum (fun i => S 6 (64 * f + i)) n := by
  intro k
  induction k with
  | zero =>
    refine bSum_e n (fun i hi => ?_)
    unfold zB
    rw [if_pos hi]
  | succ k ih =>
    rw [← Nat.add_assoc, bSum_s, ih]
    unfold zB
    rw [if_neg (by omega)]
    have z : (0 : Int32) <<< (nI (24 - 8 * ((n + k) % 4)) &&& 31) = 0 := by
      have h : (n + k) % 4 < 4 := by omega
      generalize (n + k) % 4 = j at h
      have : j = 0 ∨ j = 1 ∨ j = 2 ∨ j = 3 := by omega
      rcases this with w | w | w | w <;> subst w <;> decide +kernel
    rw [z, Int32.add_zero]
theorem ck_all {S : MS} {f n : Nat} (hb : ∀ i, i < n → by8 (S 6 (64 * f + i))) : mCk S f n ((n + 3) / 4) = bSum (fun i => S 6 (64 * f + i)) n := by
  rw [ck_sum hb, show 4 * ((n + 3) / 4) = n + (4 * ((n + 3) / 4) - n) from by omega]
  exact zB_sum _
/-- .. and a receiver's -/
theorem mSm_sum {S : MS} {p : Nat} : ∀ n, mSm S p n = bSum (mB S p) n := by
  intro n
  induction n with
  | zero => rfl
  | succ n ih =>
    unfold mSm bSum
    rw [ih]
/-! what is missing -/
theorem lsN_p {S : MS} {p a : Nat} : ∀ z s, s ≤ a → a < s + z → (lsN S p a z s ≤ a ∧ s ≤ lsN S p a z s ∧ (∀ q, s ≤ q → q < lsN S p a z s → ¬ S 39 (16 * p + q) = 0) ∧ (lsN S p a z s < a → S 39 (16 * p + lsN S p a z s) = 0)) := by
  intro z
  induction z with
  | zero => intro s h1 h2; omega
  | succ z ih =>
    intro s h1 h2
    unfold lsN
    split
    · exact ⟨by omega, h1, fun q h3 h4 => by omega, fun h => by omega⟩
    · split
      · rename_i w
        exact ⟨by omega, by omega, fun q h3 h4 => by omega, fun _ => w⟩
      · rename_i w
        obtain ⟨i1, i2, i3, i4⟩ := ih (s + 1) (by omega) (by omega)
        refine ⟨i1, by omega, fun q h3 h4 => ?_, i4⟩
        by_cases e : q = s
        · subst e; exact w
        · exact i3 q (by omega) h4
theorem lost_all {S : MS} {p a : Nat} (ha : a ≤ 16) : ¬ 0 ≤ mLost S p a 17 0 ↔ ∀ q, q < a → ¬ S 39 (16 * p + q) = 0 := by
  obtain ⟨h1, h2, h3, h4⟩ := lsN_p (S := S) (p := p) (a := a) 17 0 (by omega) (by omega)
  rw [mLost_N]
  split
  · rename_i w
    constructor
    · intro z
      exact absurd (nI_pos' (by omega)) z
    · intro z
      exact absurd (h4 w) (z _ w)
  · rename_i w
    constructor
    · intro _ q hq
      exact h3 q (by omega) (by omega)
    · intro _
      decide
