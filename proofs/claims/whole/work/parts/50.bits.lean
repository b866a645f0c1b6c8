/-! ===== bits ===== -/
theorem bt_sh : ∀ s, s < 32 → ((nI s &&& 31).toBitVec.smod 32).toNat = s := by decide +kernel
theorem bt_1 (y : BitVec 32) : y &&& 1#32 = 0#32 ↔ y.getLsbD 0 = false := by
  constructor
  · intro h
    have := congrArg (fun z : BitVec 32 => z.getLsbD 0) h
    simpa using this
  · intro h
    apply BitVec.eq_of_getLsbD_eq
    intro i hi
    by_cases e : i = 0
    · subst e; rw [BitVec.getLsbD_and, h]; simp
    · simp [e]
theorem rb_iff {x : Int32} {s : Nat} (hs : s < 32) : rb x s ↔ x.toBitVec.getLsbD s = true := by
  unfold rb
  rw [← Int32.toBitVec_inj, Int32.toBitVec_and, Int32.toBitVec_shiftRight]
  rw [show (nI 1).toBitVec = 1#32 from by decide +kernel, show (0 : Int32).toBitVec = 0#32 from by decide +kernel, bt_1, BitVec.sshiftRight', bt_sh s hs, BitVec.getLsbD_sshiftRight]
  simp [hs]
theorem bt_one {s : Nat} (hs : s < 32) : (nI 1 <<< (nI s &&& 31)).toBitVec = 1#32 <<< s := by
  rw [Int32.toBitVec_shiftLeft, show (nI 1).toBitVec = 1#32 from by decide +kernel, BitVec.shiftLeft_eq', bt_sh s hs]
theorem bt_bit {s q : Nat} (hs : s < 32) (hq : q < 32) : (nI 1 <<< (nI s &&& 31)).toBitVec.getLsbD q = decide (q = s) := by
  rw [bt_one hs, BitVec.getLsbD_shiftLeft]
  by_cases e : q = s
  · subst e; simp [hq]
  · simp [e, hq]; omega
theorem rb_and {x y : Int32} {q : Nat} (hq : q < 32) : rb (x &&& y) q ↔ rb x q ∧ rb y q := by
  rw [rb_iff hq, rb_iff hq, rb_iff hq, Int32.toBitVec_and, BitVec.getLsbD_and, Bool.and_eq_true]
theorem rb_or {x y : Int32} {q : Nat} (hq : q < 32) : rb (x ||| y) q ↔ rb x q ∨ rb y q := by
  rw [rb_iff hq, rb_iff hq, rb_iff hq, Int32.toBitVec_or, BitVec.getLsbD_or, Bool.or_eq_true]
theorem rb_bit {s q : Nat} (hs : s < 32) (hq : q < 32) : rb (nI 1 <<< (nI s &&& 31)) q ↔ q = s := by
  rw [rb_iff hq, bt_bit hs hq, decide_eq_true_eq]
theorem rb_not {x : Int32} {q : Nat} (hq : q < 32) : rb (x ^^^ (-1)) q ↔ ¬ rb x q := by
  rw [rb_iff hq, rb_iff hq, Int32.toBitVec_xor, BitVec.getLsbD_xor, show (-1 : Int32).toBitVec = BitVec.allOnes 32 from by decide +kernel, BitVec.getLsbD_allOnes]
  simp [hq]
theorem rb_ext {x y : Int32} (h : ∀ q, q < 32 → (rb x q ↔ rb y q)) : x = y := by
  rw [← Int32.toBitVec_inj]
  apply BitVec.eq_of_getLsbD_eq
  intro i hi
  have := h i hi
  rw [rb_iff hi, rb_iff hi] at this
  exact Bool.eq_iff_iff.mpr this
theorem rb_0 {q : Nat} (hq : q < 32) : ¬ rb 0 q := by
  rw [rb_iff hq]
  simp
theorem rb_ex {x : Int32} (h : ¬ x = 0) : ∃ q, q < 32 ∧ rb x q := by
  refine Classical.byContradiction fun w => h (rb_ext fun q hq => ⟨fun r => absurd ⟨q, hq, r⟩ w, fun r => absurd r (rb_0 hq)⟩)
theorem rb_lit : (∀ q, q < 32 → (rb 65535 q ↔ q < 16)) ∧ (∀ q, q < 32 → (rb 65536 q ↔ q = 16)) := by
  unfold rb
  decide +kernel
theorem rb_clr {x : Int32} {s q : Nat} (hs : s < 32) (hq : q < 32) : rb (x &&& ((nI 1 <<< (nI s &&& 31)) ^^^ (-1))) q ↔ rb x q ∧ q ≠ s := by
  rw [rb_and hq, rb_not hq, rb_bit hs hq]
theorem rb_lo {x : Int32} {q : Nat} (hq : q < 32) : rb (x &&& 65535) q ↔ rb x q ∧ q < 16 := by
  rw [rb_and hq, rb_lit.1 q hq]
theorem rb_16 {x : Int32} : (x >>> (nI 16 &&& 31)) &&& nI 1 = nI 1 ↔ rb x 16 := by
  unfold rb
  have h : ∀ y : Int32, (y &&& nI 1) = 0 ∨ (y &&& nI 1) = nI 1 := by
    intro y
    by_cases w : (y &&& nI 1) = 0
    · exact Or.inl w
    · refine Or.inr (rb_ext fun q hq => ?_)
      rw [rb_and hq]
      have h1 : ∀ q, q < 32 → (rb (nI 1) q ↔ q = 0) := by
        unfold rb
        decide +kernel
      rw [h1 q hq]
      refine ⟨fun z => z.2, fun z => ⟨?_, z⟩⟩
      subst z
      obtain ⟨q', a, b⟩ := rb_ex w
      rw [rb_and a, h1 q' a] at b
      obtain ⟨b1, b2⟩ := b
      subst b2
      exact b1
  constructor
  · intro w z
    rw [w] at z
    exact absurd z (by decide)
  · intro w
    rcases h (x >>> (nI 16 &&& 31)) with z | z
    · exact absurd z w
    · exact z
