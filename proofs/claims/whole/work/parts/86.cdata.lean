/-! DATA: its bytes -/
theorem i8_b (v : Int32) : v.toInt8.toInt32 &&& 255 = v &&& 255 := by
  rw [← Int32.toBitVec_inj, Int32.toBitVec_and, Int32.toBitVec_and]
  apply BitVec.eq_of_getLsbD_eq
  intro i hi
  rw [BitVec.getLsbD_and, BitVec.getLsbD_and]
  have h255 : (255 : Int32).toBitVec.getLsbD i = decide (i < 8) := by
    have := rb_255 i hi
    rw [rb_iff hi] at this
    by_cases w : i < 8
    · rw [this.mpr w]; simp [w]
    · have : (255 : Int32).toBitVec.getLsbD i = false := by
        cases z : (255 : Int32).toBitVec.getLsbD i
        · rfl
        · exact absurd (this.mp z) w
      rw [this]; simp [w]
  rw [h255]
  by_cases w : i < 8
  · have e : v.toInt8.toInt32.toBitVec.getLsbD i = v.toBitVec.getLsbD i := by
      rw [Int8.toBitVec_toInt32, Int32.toBitVec_toInt8, BitVec.getLsbD_signExtend, BitVec.getLsbD_signExtend]
      simp [w, hi]
    rw [e]
  · simp [w]
theorem i8_8 (v : Int32) : b8 v.toInt8.toInt32 := by
  unfold b8
  rw [Int8.toInt8_toInt32]
/-- the bytes are written, one after the other -/
def hBy (h : ix_H) (r s : Nat) (c : Int32) : Nat → ix_H
  | 0 => h
  | i + 1 => ix_si (hBy h r s c i) (r + 1) (4 * s + i) ((c >>> (nI (8 * i) &&& 31)).toInt8.toInt32)
theorem hBy_o {h : ix_H} {r s : Nat} {c : Int32} : ∀ l, (∀ b, b ≠ r + 1 → ceq h (hBy h r s c l) b) ∧ ix_nx (hBy h r s c l) = ix_nx h ∧ (∀ b, ix_tg (hBy h r s c l) b = ix_tg h b ∧ ix_ln (hBy h r s c l) b = ix_ln h b ∧ ∀ j, ix_r (hBy h r s c l) b j = ix_r h b j) ∧ ∀ j, ix_i (hBy h r s c l) (r + 1) j = if 4 * s ≤ j ∧ j < 4 * s + l then (c >>> (nI (8 * (j - 4 * s)) &&& 31)).toInt8.toInt32 else ix_i h (r + 1) j := by
  intro l
  induction l with
  | zero => exact ⟨fun _ _ => ceq.rfl, rfl, fun _ => ⟨rfl, rfl, fun _ => rfl⟩, fun j => by rw [if_neg (by omega)]; rfl⟩
  | succ l ih =>
    obtain ⟨i1, i2, i3, i4⟩ := ih
    refine ⟨fun b hb => (i1 b hb).tr ((sw.rfl.si).1 b hb), i2, fun b => i3 b, fun j => ?_⟩
    unfold hBy
    rw [ix_i_si]
    by_cases q : j = 4 * s + l
    · rw [if_pos ⟨rfl, q⟩, if_pos (by omega), show j - 4 * s = l from by omega]
    · rw [if_neg (fun z => q z.2), i4]
      by_cases w : 4 * s ≤ j ∧ j < 4 * s + l
      · rw [if_pos w, if_pos (by omega)]
      · rw [if_neg w, if_neg (by omega)]
section CRh
variable {h h' : ix_H} {x : Nat} {S S' : MS} {T A R U D : Nat → Nat} {Lo Lr : Nat → List Nat} {t p s l : Nat}
theorem H_data {v : Int32} (I : mInv S) (C : cRel h x S T A R U D Lo Lr) (hv : vT S t) (ho : S 23 t = nI 5) (hp : p = sP S t) (hs : s < 16) (h39 : S 39 (16 * p + s) = 0) (hl1 : 1 ≤ l) (hl4 : l ≤ 4) (e4 : S 46 4 = nI l) (hvv : ∀ q, q < l → lB v q = hB (S 46 5) q) : cRel (hBy (ix_si h (R t) 6 (ix_i h (R t) 6 ||| (nI 1 <<< (nI s &&& 31)))) (R t) s v l) x (mD1 S p s) T A R U D Lo Lr := by
  have c := C.rv hv (Or.inl ho)
  have R5 := c.2.2.2.2.2.2.2.2.2.2.2.2.2.2 ho
  rw [← hp] at R5
  obtain ⟨o1, o2, o3, o4, o5, o6, o7, o8⟩ := R5
  obtain ⟨y1, y2, y3, y4⟩ := hBy_o (h := ix_si h (R t) 6 (ix_i h (R t) 6 ||| (nI 1 <<< (nI s &&& 31)))) (r := R t) (s := s) (c := v) l
  have i : ∀ k, k ≠ 6 → ix_i (hBy (ix_si h (R t) 6 (ix_i h (R t) 6 ||| (nI 1 <<< (nI s &&& 31)))) (R t) s v l) (R t) k = ix_i h (R t) k := fun k hk => by rw [(y1 (R t) (by omega)).2.2.1, ix_i_si, if_neg (fun z => hk z.2)]
  have i6 : ix_i (hBy (ix_si h (R t) 6 (ix_i h (R t) 6 ||| (nI 1 <<< (nI s &&& 31)))) (R t) s v l) (R t) 6 = ix_i h (R t) 6 ||| (nI 1 <<< (nI s &&& 31)) := by rw [(y1 (R t) (by omega)).2.2.1, ix_i_si, if_pos ⟨rfl, rfl⟩]
  have ib : ∀ j, ix_i (hBy (ix_si h (R t) 6 (ix_i h (R t) 6 ||| (nI 1 <<< (nI s &&& 31)))) (R t) s v l) (R t + 1) j = if 4 * s ≤ j ∧ j < 4 * s + l then (v >>> (nI (8 * (j - 4 * s)) &&& 31)).toInt8.toInt32 else ix_i h (R t + 1) j := fun j => by
    rw [y4]
    split
    · rfl
    · rw [ix_i_si, if_neg (by omega)]
  have L := mD1_L (S := S) (p := p) (s := s)
  have r39 : ∀ j, mD1 S p s 39 j = if j = 16 * p + s then S 46 4 else S 39 j := fun j => by unfold mD1; rw [mset_k (by decide), mset_if rfl]
  have r38 : ∀ j, mD1 S p s 38 j = if j = 16 * p + s then S 46 5 else S 38 j := fun j => by unfold mD1; rw [mset_if rfl, mset_k (by decide)]
  refine H_5 I C hv ho hp (fun b h1 h2 => ((sw.rfl.si).1 b h1).tr (y1 b h2)) y2 (fun b => ⟨(y3 b).1, (y3 b).2.1, (y3 b).2.2⟩) ⟨i 3 (by decide), i 12 (by decide), i 13 (by decide)⟩ (fun k hk => ?_) (fun k hk => L k (fun z => hk (by revert z; simp only [List.mem_cons, List.not_mem_nil, or_false]; omega))) (fun k h1 h2 j hj => by rw [L k (by simp only [List.mem_cons, List.not_mem_nil, or_false, not_or]; omega)]) (fun k hk j hj => ?_) ?_
  · rw [ib]
    split
    · exact i8_8 _
    · exact c.2.2.2.2.2.2.2.2.2.1 k hk
  · rcases hk with w | w <;> subst w
    · rw [r38, if_neg (by omega)]
    · rw [r39, if_neg (by omega)]
  · refine ⟨(i 11 (by decide)).trans o1, by rw [i 5 (by decide), L 36 (by decide)]; exact o2, fun q hq => ?_, by rw [i 7 (by decide), L 37 (by decide), L 27 (by decide)]; exact o4, fun q => by rw [L 37 (by decide)] at q; rw [i 8 (by decide), L 28 (by decide)]; exact o5 q, by rw [i 9 (by decide), L 37 (by decide), L 31 (by decide), L 30 (by decide)]; exact o6, by rw [i 10 (by decide), L 29 (by decide)]; exact o7, fun k hk => ?_⟩
    · rw [i6, rb_or hq, o3 q hq, rb_bit (by omega) hq, r39]
      by_cases w : q = s
      · subst w
        rw [if_pos rfl, e4]
        exact ⟨fun _ => ⟨hs, nI_ne0 (by omega) (by omega)⟩, fun _ => Or.inr rfl⟩
      · rw [if_neg (by omega)]
        exact ⟨fun z => z.elim id (fun y => absurd y w), Or.inl⟩
    · have eB : mB (mD1 S p s) p k = if (if 16 * p + k / 4 = 16 * p + s then S 46 4 else S 39 (16 * p + k / 4)) ≤ nI (k % 4) then nI 0 else ((if 16 * p + k / 4 = 16 * p + s then S 46 5 else S 38 (16 * p + k / 4)) >>> (nI (24 - 8 * (k % 4)) &&& 31)) &&& nI 255 := by
        unfold mB
        rw [r39, r38]
      rw [eB]
      by_cases w : k / 4 = s
      · have e1 : 16 * p + k / 4 = 16 * p + s := by omega
        rw [if_pos e1, if_pos e1, e4, ib]
        by_cases z : k % 4 < l
        · have e2 : 4 * s ≤ k ∧ k < 4 * s + l := by omega
          have e3 : ¬ nI l ≤ nI (k % 4) := by rw [nI_leI (by omega) (by omega)]; omega
          rw [if_pos e2, if_neg e3, i8_b, show k - 4 * s = k % 4 from by omega]
          exact hvv (k % 4) z
        · have e2 : ¬ (4 * s ≤ k ∧ k < 4 * s + l) := by omega
          have e3 : nI l ≤ nI (k % 4) := by rw [nI_leI (by omega) (by omega)]; omega
          rw [if_neg e2, if_pos e3, o8 k hk]
          unfold mB
          rw [w, h39, if_pos (nI_pos' (by omega))]
      · have e1 : ¬ 16 * p + k / 4 = 16 * p + s := by omega
        have e2 : ¬ (4 * s ≤ k ∧ k < 4 * s + l) := by omega
        rw [if_neg e1, if_neg e1, ib, if_neg e2, o8 k hk]
        rfl
end CRh
