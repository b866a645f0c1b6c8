/-! ===== how the invariant is kept: a unit arrives; what a sender hears ===== -/
theorem mOut_L {S : MS} {u k : Nat} : ∀ f, f ∉ [44, 45] → mOut S u k f = S f := fun f h => funext fun j => by
  simp only [List.mem_cons, List.not_mem_nil, or_false, not_or] at h
  exact mOut_o h.2 h.1
theorem mOut_r {S : MS} {u k j i : Nat} (hk : k < u) (hj : j < u - 1) (hi : i < 11) : mOut S u k 45 (11 * j + i) = S 45 (11 * (if k ≤ j then j + 1 else j) + i) := by
  unfold mOut mSh
  by_cases q : k ≤ j
  · rw [if_pos ⟨rfl, by omega, by omega⟩, if_pos q]
    congr 1
    omega
  · rw [if_neg (by omega), if_neg (by decide), if_neg q]
theorem mInv_out {S : MS} {u k : Nat} (I : mInv S) (hu : S 44 0 = nI u) (hu24 : u ≤ 24) (hk : k < u) : mInv (mOut S u k) := by
  refine mInv_u I mOut_L (u := u - 1) (by omega) ?_ (fun j hj => ?_)
  · unfold mOut mSh
    rw [if_neg (by omega), if_pos rfl]
  · refine uV_c (r := 11 * (if k ≤ j then j + 1 else j)) mOut_L (by decide) (fun i hi => mOut_r hk hj hi) (I.u hu hu24 ?_)
    split <;> omega
/-- what came, of transaction t -/
def cK (S : MS) (t : Nat) : Prop :=
  (S 46 0 = nI 1 ∧ S 46 1 = nI (1 - t / 320) ∧ S 46 3 = S 10 t ∧ S 46 4 = S 11 t ∧ S 46 5 = S 12 t ∧ S 46 6 = S 8 t) ∨
  (S 46 0 = nI 2 ∧ S 46 1 = nI (1 - t / 320) ∧ bw (S 46 3) 0 15 ∧ bw (S 46 4) 1 4 ∧ S 46 6 = S 8 t) ∨
  (S 46 0 = nI 3 ∧ S 46 1 = nI (1 - t / 320) ∧ (S 46 3 = -1 ∨ bw (S 46 3) 0 64) ∧ S 46 6 = S 8 t) ∨
  (S 46 0 = nI 4 ∧ S 46 1 = nI (t / 320) ∧ bw (S 46 3) 1 4) ∨
  (S 46 0 = nI 5 ∧ bw (S 46 1) 0 1 ∧ bw (S 46 3) 3 4) ∨
  (S 46 0 = nI 6 ∧ S 46 1 = nI (t / 320) ∧ bw (S 46 3) 0 1 ∧ ∃ g, g ≤ 3 ∧ S 46 4 = nI g ∧ ∀ i, i < g → ∃ a b, a ≤ b ∧ b < 16 ∧ S 46 (5 + 2 * i) = nI a ∧ S 46 (6 + 2 * i) = nI b)
theorem cK_of {S S' : MS} {r t : Nat} (h : ∀ i, i < 11 → S' 46 i = S 45 (r + i)) (h8 : S' 8 t = S 8 t) (h10 : S' 10 t = S 10 t) (h11 : S' 11 t = S 11 t) (h12 : S' 12 t = S 12 t) (U : uK S r t) : cK S' t := by
  unfold uK at U
  unfold cK
  have e0 : S' 46 0 = S 45 r := h 0 (by decide)
  rw [e0, h 1 (by decide), h 3 (by decide), h 4 (by decide), h 5 (by decide), h 6 (by decide), h8, h10, h11, h12]
  rcases U with U | U | U | U | U | ⟨a1, a2, a3, g, a4, a5, a6⟩
  · exact Or.inl U
  · exact Or.inr (Or.inl U)
  · exact Or.inr (Or.inr (Or.inl U))
  · exact Or.inr (Or.inr (Or.inr (Or.inl U)))
  · exact Or.inr (Or.inr (Or.inr (Or.inr (Or.inl U))))
  · refine Or.inr (Or.inr (Or.inr (Or.inr (Or.inr ⟨a1, a2, a3, g, a4, a5, fun i hi => ?_⟩))))
    obtain ⟨a, b, b1, b2, b3, b4⟩ := a6 i hi
    refine ⟨a, b, b1, b2, ?_, ?_⟩
    · rw [h (5 + 2 * i) (by omega), ← Nat.add_assoc]; exact b3
    · rw [h (6 + 2 * i) (by omega), ← Nat.add_assoc]; exact b4
theorem cK_c {S S' : MS} {L : List Nat} {t : Nat} (H : ∀ k, k ∉ L → S' k = S k) (d : ∀ k ∈ [8, 10, 11, 12, 46], k ∉ L) (C : cK S t) : cK S' t := by
  unfold cK at C ⊢
  rw [H 46 (d 46 (by decide)), H 8 (d 8 (by decide)), H 10 (d 10 (by decide)), H 11 (d 11 (by decide)), H 12 (d 12 (by decide))]
  exact C
theorem mArr_L {S : MS} {u k : Nat} : ∀ f, f ∉ [2, 44, 45, 46] → mArr S u k f = S f := fun f h => funext fun j => by
  simp only [List.mem_cons, List.not_mem_nil, or_false, not_or] at h
  unfold mArr
  rw [mset_k h.1, mOut_o h.2.2.1 h.2.1, mCm_o h.2.2.2]
theorem mInv_arr {S : MS} {u k : Nat} (I : mInv S) (hu : S 44 0 = nI u) (hu24 : u ≤ 24) (hk : k < u) : mInv (mArr S u k) := by
  have I1 : mInv (mCm S k 11) := mInv_n I (fun f hf => funext fun j => mCm_o (fun z => hf (by rw [z]; decide)))
  have I2 := mInv_out I1 (by rw [mCm_o (by decide)]; exact hu) hu24 hk
  exact mInv_n I2 (fun f hf => mset_kk (fun z => hf (by rw [z]; decide)))
theorem arr_t {S : MS} {u k : Nat} (I : mInv S) (hu : S 44 0 = nI u) (hu24 : u ≤ 24) (hk : k < u) : ∃ t, S 45 (11 * k + 2) = nI t ∧ vT S t ∧ vT (mArr S u k) t ∧ cK (mArr S u k) t := by
  obtain ⟨t, h1, h2, h3⟩ := I.u hu hu24 hk
  refine ⟨t, h1, h2, (vT_c mArr_L (by decide)).mpr h2, cK_of (fun i hi => ?_) (by rw [mArr_L 8 (by decide)]) (by rw [mArr_L 10 (by decide)]) (by rw [mArr_L 11 (by decide)]) (by rw [mArr_L 12 (by decide)]) h3⟩
  unfold mArr
  rw [mset_k (by decide), mOut_o (by decide) (by decide)]
  unfold mCm
  rw [if_pos ⟨rfl, hi⟩]
theorem mArr_u {S : MS} {u k : Nat} : mArr S u k 44 0 = nI (u - 1) := by
  unfold mArr mOut mSh
  rw [mset_k (by decide), if_neg (by omega), if_pos rfl]
/-! the bits that are asked for -/
theorem oR_b {x : Int32} {a q : Nat} (hq : q < 32) : ∀ k, a + k ≤ 32 → (rb (oR x a k) q ↔ rb x q ∨ (a ≤ q ∧ q < a + k)) := by
  intro k
  induction k with
  | zero => intro _; unfold oR; exact ⟨Or.inl, fun z => z.elim id (fun w => by omega)⟩
  | succ k ih =>
    intro hk
    unfold oR
    rw [rb_or hq, ih (by omega), rb_bit (by omega) hq]
    constructor
    · rintro ((w | w) | w)
      · exact Or.inl w
      · exact Or.inr (by omega)
      · exact Or.inr (by omega)
    · rintro (w | w)
      · exact Or.inl (Or.inl w)
      · by_cases e : q = a + k
        · exact Or.inr e
        · exact Or.inl (Or.inr (by omega))
theorem oG_b {x : Int32} {A B : Nat → Nat} {all q : Nat} (hq : q < 32) (hall : all ≤ 16) : ∀ g, (∀ i, i < g → A i < 16 ∧ B i < 16 ∧ A i ≤ B i) → (rb (oG x A B all g) q ↔ rb x q ∨ ∃ i, i < g ∧ A i ≤ q ∧ q ≤ B i ∧ q < all) := by
  intro g
  induction g with
  | zero => intro _; unfold oG; exact ⟨Or.inl, fun z => z.elim id (fun ⟨i, w, _⟩ => by omega)⟩
  | succ g ih =>
    intro hg
    have hN := gN_f (A g) (B g) all
    have h0 := hg g (by omega)
    unfold oG
    rw [oR_b hq _ (by omega), ih (fun i hi => hg i (by omega))]
    constructor
    · rintro ((w | ⟨i, w1, w2⟩) | w)
      · exact Or.inl w
      · exact Or.inr ⟨i, by omega, w2⟩
      · exact Or.inr ⟨g, by omega, by omega, by omega, by omega⟩
    · rintro (w | ⟨i, w1, w2, w3, w4⟩)
      · exact Or.inl (Or.inl w)
      · by_cases e : i = g
        · subst e
          exact Or.inr ⟨by omega, by omega⟩
        · exact Or.inl (Or.inr ⟨i, by omega, w2, w3, w4⟩)
theorem mInv_asked {S : MS} {t n gc : Nat} {A B : Nat → Nat} (I : mInv S) (hv : vT S t) (ho : S 13 t = nI 5) (hn : n = fN S t) (hn64 : n ≤ 64) (hG : mGaps S gc A B) : mInv (mAsked S t n gc A B) := by
  unfold mAsked
  refine mInv_f I hv (by decide) (fun q => absurd q (by decide)) (fun q => absurd q (by decide)) (fun q => absurd q (by decide)) (fun _ _ s hs hr => ?_)
  have hb := (I.S hv ho).2.2.2
  rw [oG_b hs (by omega) gc (fun i hi => ⟨(hG.2.2 i hi).1, (hG.2.2 i hi).2.1, (hG.2.2 i hi).2.2.1⟩)] at hr
  rcases hr with w | ⟨i, w1, w2, w3, w4⟩
  · split at w
    · rw [rb_or hs, rb_lit.2 s hs] at w
      rcases w with w | w
      · exact hb s hs w
      · exact Or.inl w
    · exact hb s hs w
  · right; rw [← hn]; omega
theorem mInv_ts1 {S : MS} {t n k0 c gc : Nat} {A B : Nat → Nat} (I : mInv S) (hv : vT S t) (C : cK S t) (hn : n = fN S t) (hn64 : n ≤ 64) (hH : S 13 t = nI 5 → mHas 40 42 S (t / 320) k0 c t) (hG : S 46 0 = nI 6 → mGaps S gc A B) : mInv (mTS1 S t n k0 c gc A B) := by
  unfold mTS1
  split
  · rename_i ho
    have I1 := mInv_w (k := 18) (x := S 16 t) I hv (Or.inr (Or.inr rfl))
    have v1 : vT (mset S 18 t (S 16 t)) t := (vT_c mset_L (by decide)).mpr hv
    unfold mTS2
    split
    · rename_i h4
      refine mInv_close I1 v1 ?_ (mHas_c mset_L (by decide) (hH ho))
      rcases C with w | w | w | w | w | w
      · exact absurd (h4.symm.trans w.1) (by decide)
      · exact absurd (h4.symm.trans w.1) (by decide)
      · exact absurd (h4.symm.trans w.1) (by decide)
      · exact w.2.2
      · exact absurd (h4.symm.trans w.1) (by decide)
      · exact absurd (h4.symm.trans w.1) (by decide)
    · split
      · split
        · exact I1
        · exact mInv_f I1 v1 (by decide) (fun _ => bw.of (by decide) (by decide)) (fun q => absurd q (by decide)) (fun q => absurd q (by decide)) (fun q => absurd q (by decide))
      · split
        · rename_i h6
          split
          · exact I1
          · refine mInv_asked I1 v1 (by rw [mset_k (by decide)]; exact ho) (by rw [fN_c mset_L (by decide)]; exact hn) hn64 ?_
            obtain ⟨a1, a2, a3⟩ := hG h6
            exact ⟨a1, by rw [mset_k (by decide)]; exact a2, fun g hg => by rw [mset_k (by decide), mset_k (by decide)]; exact a3 g hg⟩
        · exact I1
  · exact I
theorem mInv_tos {S : MS} {u t n k0 c gc : Nat} {A B : Nat → Nat} (I : mInv S) (hv : vT S t) (C : cK S t) (hu : S 44 0 = nI u) (hu24 : u ≤ 24) (hn : n = fN S t) (hn64 : n ≤ 64) (hH : S 13 t = nI 5 → mHas 40 42 S (t / 320) k0 c t) (hG : S 46 0 = nI 6 → mGaps S gc A B) : mInv (mToS S u t n k0 c gc A B) := by
  unfold mToS
  split
  · exact I
  · split
    · rename_i h4
      have h640 := hv.1
      refine mInv_ts1 (mInv_ack I hu hu24 hv (by omega) (by decide) (by decide)) ((vT_c mSend_L (by decide)).mpr hv) (cK_c mSend_L (by decide) C) (by rw [fN_c mSend_L (by decide)]; exact hn) hn64 (fun q => mHas_c mSend_L (by decide) (hH (by rw [mSend_o (by decide) (by decide)] at q; exact q))) (fun q => ?_)
      rw [mSend_o (by decide) (by decide)] at q
      exact absurd (h4.symm.trans q) (by decide)
    · exact mInv_ts1 I hv C hn hn64 hH hG
