/-! ===== how the invariant is kept: a receiver opens ===== -/
theorem mOpen_L {S : MS} {e t p cr : Nat} : ∀ k, k ∉ [23, 25, 29, 35, 36, 37, 39, 41, 43] → mOpen S e t p cr k = S k := fun k h => funext fun j => by
  simp only [List.mem_cons, List.not_mem_nil, or_false, not_or] at h
  exact mOpen_o ⟨h.2.1, h.2.2.2.1, h.2.2.2.2.1, h.2.2.2.2.2.1, h.2.2.1, h.2.2.2.2.2.2.1, h.1, h.2.2.2.2.2.2.2.1, h.2.2.2.2.2.2.2.2⟩
theorem mOpen_r {S : MS} {e t p cr : Nat} : (∀ l, mOpen S e t p cr 23 l = if l = t then nI 5 else S 23 l) ∧ (∀ l, mOpen S e t p cr 25 l = if l = t then nI p else S 25 l) ∧ (∀ l, mOpen S e t p cr 35 l = if l = p then nI 1 else S 35 l) ∧ (∀ l, mOpen S e t p cr 36 l = if l = p then nI 0 else S 36 l) ∧ (∀ l, mOpen S e t p cr 37 l = if l = p then nI 0 else S 37 l) ∧ (∀ l, mOpen S e t p cr 29 l = if l = p then nI 0 else S 29 l) ∧ (∀ l, mOpen S e t p cr 39 l = if 16 * p ≤ l ∧ l < 16 * p + 16 then 0 else S 39 l) ∧ (∀ l, mOpen S e t p cr 41 l = if l = 3 * e + cr then nI t else S 41 l) ∧ (∀ l, mOpen S e t p cr 43 l = if l = e then nI (cr + 1) else S 43 l) := by
  refine ⟨fun l => ?_, fun l => ?_, fun l => ?_, fun l => ?_, fun l => ?_, fun l => ?_, fun l => ?_, fun l => ?_, fun l => ?_⟩
  · unfold mOpen
    rw [mPlace_o (by decide), mset_k (by decide), mset_k (by decide), mset_if rfl]
  · unfold mOpen mPlace mPl0
    rw [if_neg (by omega), mset_k (by decide), mset_k (by decide), mset_k (by decide), mset_k (by decide), mset_if rfl, mset_k (by decide), mset_k (by decide), mset_k (by decide)]
  · unfold mOpen mPlace mPl0
    rw [if_neg (by omega), mset_k (by decide), mset_k (by decide), mset_k (by decide), mset_if rfl, mset_k (by decide), mset_k (by decide), mset_k (by decide), mset_k (by decide)]
  · unfold mOpen mPlace mPl0
    rw [if_neg (by omega), mset_k (by decide), mset_k (by decide), mset_if rfl, mset_k (by decide), mset_k (by decide), mset_k (by decide), mset_k (by decide), mset_k (by decide)]
  · unfold mOpen mPlace mPl0
    rw [if_neg (by omega), mset_k (by decide), mset_if rfl, mset_k (by decide), mset_k (by decide), mset_k (by decide), mset_k (by decide), mset_k (by decide), mset_k (by decide)]
  · unfold mOpen mPlace mPl0
    rw [if_neg (by omega), mset_if rfl, mset_k (by decide), mset_k (by decide), mset_k (by decide), mset_k (by decide), mset_k (by decide), mset_k (by decide), mset_k (by decide)]
  · unfold mOpen mPlace mPl0
    split
    · rename_i q; rw [if_pos q.2]
    · rename_i q
      rw [if_neg (fun z => q ⟨rfl, z⟩), mset_k (by decide), mset_k (by decide), mset_k (by decide), mset_k (by decide), mset_k (by decide), mset_k (by decide), mset_k (by decide), mset_k (by decide)]
  · unfold mOpen
    rw [mPlace_o (by decide), mset_k (by decide), mset_if rfl, mset_k (by decide)]
  · unfold mOpen
    rw [mPlace_o (by decide), mset_if rfl, mset_k (by decide), mset_k (by decide)]
theorem mInv_open {S : MS} {e t p cr : Nat} (I : mInv S) (hv : vT S t) (he : e = 1 - t / 320) (h0 : S 23 t = 0) (hcr : S 43 e = nI cr) (hcr3 : cr < 3) (hp1 : 3 * e ≤ p) (hp2 : p < 3 * e + 3) (h35 : S 35 p = 0) : mInv (mOpen S e t p cr) := by
  have L := mOpen_L (S := S) (e := e) (t := t) (p := p) (cr := cr)
  obtain ⟨r23, r25, r35, r36, r37, r29, r39, r41, r43⟩ := mOpen_r (S := S) (e := e) (t := t) (p := p) (cr := cr)
  generalize mOpen S e t p cr = S' at *
  have h640 := hv.1
  have hno : ¬ opR S t := by
    unfold opR
    rw [h0]
    decide
  have hop : ∀ t', opR S' t' ↔ opR S t' ∨ t' = t := by
    intro t'
    unfold opR
    rw [r23]
    split
    · rename_i q; exact ⟨fun _ => Or.inr q, fun _ => Or.inl rfl⟩
    · rename_i q; exact ⟨Or.inl, fun z => z.elim id (fun w => absurd w q)⟩
  have hvt : ∀ t', vT S' t' ↔ vT S t' := fun t' => vT_c L (by decide)
  obtain ⟨a, b, c, d, ee, f, g, h, i, j⟩ := I
  refine ⟨iG_c L (by decide) a, iF_c L (by decide) b, iT_c L (by decide) c, iZ_t L (by decide) hv (fun k' hk' h1 h2 l hl => ?_) d, iS_c L (by decide) ee, iL_c L (by decide) f, ?_, ?_, ?_, iU_c L (by decide) j⟩
  · have : k' = 23 := by
      simp only [List.mem_cons, List.not_mem_nil, or_false] at hk'
      omega
    subst this
    rw [r23, if_neg hl]
  · refine iRw_add (t := t) (e := e) (c := cr) g (by omega) he.symm h640 hcr3 hcr (fun _ => hno) (fun t' => ?_) (fun t' v' => ?_) r41 r43
    · rw [hvt]
      exact ⟨Or.inl, fun z => z.elim id (fun w => by rw [w]; exact hv)⟩
    · rw [hop]
      rw [hvt] at v'
      exact ⟨fun z => z.elim (fun w => Or.inl ⟨v', w⟩) Or.inr, fun z => z.elim (fun w => Or.inl w.2) Or.inr⟩
  · intro t' v'
    rw [hvt] at v'
    obtain ⟨h1, h2, h3⟩ := h t' v'
    rw [r23, L 24 (by decide)]
    refine ⟨?_, h2, fun o => ?_⟩
    · split
      · exact bw.of (by decide) (by decide)
      · exact h1
    · by_cases q : t' = t
      · subst q
        have es : sP S' t' = p := by unfold sP; rw [r25, if_pos rfl, nI_clamp (by omega)]
        rw [es]
        unfold iRp
        rw [r25, if_pos rfl, r35, if_pos rfl, r36, if_pos rfl, r37, if_pos rfl, r29, if_pos rfl]
        refine ⟨rfl, by omega, by omega, by decide, bw.of (by decide) (by decide), bw.of (by decide) (by decide), bw.of (by decide) (by decide), fun z => absurd rfl z, fun z => absurd rfl z, fun s hs => ?_, fun z => ?_, fun _ _ => rfl⟩
        · rw [r39, if_pos (by omega)]; exact bw.of (n := 0) (by decide) (by decide)
        · rw [r23, if_pos rfl] at z; exact absurd z (by decide)
      · have o' : opR S t' := by
          rcases (hop t').mp o with w | w
          · exact w
          · exact absurd w q
        have es : sP S' t' = sP S t' := by unfold sP; rw [r25, if_neg q]
        obtain ⟨b1, b2, b3, b4, b5, b6, b7, b8, b9, b10, b11, b12⟩ := h3 o'
        have np : sP S t' ≠ p := fun z => b4 (by rw [z]; exact h35)
        rw [es]
        generalize sP S t' = p' at *
        unfold iRp
        rw [r25, if_neg q, r35, if_neg np, r36, if_neg np, r37, if_neg np, r29, if_neg np, L 27 (by decide), L 32 (by decide), L 33 (by decide), L 34 (by decide), L 10 (by decide), L 11 (by decide), L 12 (by decide), L 26 (by decide), r23, if_neg q]
        refine ⟨b1, b2, b3, b4, b5, b6, b7, b8, b9, fun s hs => ?_, b11, b12⟩
        rw [r39, if_neg (by omega)]
        exact b10 s hs
  · have np : ∀ t', vT S t' → opR S t' → ¬ S 25 t' = nI p := fun t' v' o' z => by
      have R := (h t' v').2.2 o'
      have : sP S t' = p := by unfold sP; rw [z, nI_clamp (by omega)]
      rw [this] at R
      exact R.2.2.2.1 h35
    refine ⟨fun t1 t2 v1 v2 o1 o2 q => ?_, fun p' hp' => ?_⟩
    · rw [hvt] at v1 v2
      rw [hop] at o1 o2
      rw [r25, r25] at q
      by_cases q1 : t1 = t
      · by_cases q2 : t2 = t
        · rw [q1, q2]
        · rw [if_pos q1, if_neg q2] at q
          exact absurd q.symm (np t2 v2 (o2.elim id (fun w => absurd w q2)))
      · by_cases q2 : t2 = t
        · rw [if_neg q1, if_pos q2] at q
          exact absurd q (np t1 v1 (o1.elim id (fun w => absurd w q1)))
        · rw [if_neg q1, if_neg q2] at q
          exact i.1 t1 t2 v1 v2 (o1.elim id (fun w => absurd w q1)) (o2.elim id (fun w => absurd w q2)) q
    · rw [r35]
      split
      · rename_i q
        exact Or.inr ⟨t, (hvt t).mpr hv, (hop t).mpr (Or.inr rfl), by rw [r25, if_pos rfl, q]⟩
      · rcases i.2 p' hp' with w | ⟨t', w1, w2, w3⟩
        · exact Or.inl w
        · refine Or.inr ⟨t', (hvt t').mpr w1, (hop t').mpr (Or.inl w2), ?_⟩
          rw [r25, if_neg (fun z => hno (by rw [← z]; exact w2))]
          exact w3
/-- a free place -/
theorem free_p {S : MS} {e cr : Nat} (I : mInv S) (he : e < 2) (hcr : S 43 e = nI cr) (hcr3 : cr < 3) : ∃ p, 3 * e ≤ p ∧ p < 3 * e + 3 ∧ S 35 p = 0 ∧ ∀ q, 3 * e ≤ q → q < p → ¬ S 35 q = 0 := by
  by_cases q0 : S 35 (3 * e) = 0
  · exact ⟨3 * e, by omega, by omega, q0, fun q h1 h2 => by omega⟩
  by_cases q1 : S 35 (3 * e + 1) = 0
  · refine ⟨3 * e + 1, by omega, by omega, q1, fun q h1 h2 => ?_⟩
    have : q = 3 * e := by omega
    subst this; exact q0
  by_cases q2 : S 35 (3 * e + 2) = 0
  · refine ⟨3 * e + 2, by omega, by omega, q2, fun q h1 h2 => ?_⟩
    have : q = 3 * e ∨ q = 3 * e + 1 := by omega
    rcases this with w | w <;> subst w
    · exact q0
    · exact q1
  exfalso
  obtain ⟨c, h1, h2, h3, h4, h5⟩ := I.M e he
  have : c = cr := (nI_eq (by omega) (by omega)).mp (h2.symm.trans hcr)
  subst this
  have key : ∀ i, i < 3 → ¬ S 35 (3 * e + i) = 0 → ∃ k t, k < c ∧ t < 640 ∧ S 41 (3 * e + k) = nI t ∧ S 25 t = nI (3 * e + i) := by
    intro i hi hu
    rcases I.P.2 (3 * e + i) (by omega) with w | ⟨t, w1, w2, w3⟩
    · exact absurd w hu
    · have h640 := w1.1
      have R := I.p w1 w2 w3 (by omega)
      obtain ⟨k, k1, k2⟩ := h5 t w1 (by have := R.2.1; have := R.2.2.1; show 1 - t / 320 = e; omega) w2
      exact ⟨k, t, k1, h640, k2, w3⟩
  obtain ⟨k0, t0, a1, a2, a3, a4⟩ := key 0 (by omega) q0
  obtain ⟨k1, t1, b1, b2, b3, b4⟩ := key 1 (by omega) q1
  obtain ⟨k2, t2, c1, c2, c3, c4⟩ := key 2 (by omega) q2
  have ne : ∀ {ka kb ta tb i j : Nat}, ta < 640 → tb < 640 → S 41 (3 * e + ka) = nI ta → S 41 (3 * e + kb) = nI tb → S 25 ta = nI (3 * e + i) → S 25 tb = nI (3 * e + j) → i < 3 → j < 3 → i ≠ j → ka ≠ kb := by
    intro ka kb ta tb i j x1 x2 x3 x4 x5 x6 hi hj hij z
    subst z
    have : ta = tb := (nI_eq (by omega) (by omega)).mp (x3.symm.trans x4)
    subst this
    have := (nI_eq (by omega) (by omega)).mp (x5.symm.trans x6)
    omega
  have n1 := ne a2 b2 a3 b3 a4 b4 (by omega) (by omega) (by omega)
  have n2 := ne a2 c2 a3 c3 a4 c4 (by omega) (by omega) (by omega)
  have n3 := ne b2 c2 b3 c3 b4 c4 (by omega) (by omega) (by omega)
  omega
theorem cR_of {S : MS} {t s : Nat} (C : cK S t) (hs : S 46 0 = nI 2 → s < 16) : cR S t s (S 46 0) := by
  refine ⟨fun q => ?_, fun q => ?_, fun q => ?_⟩
  · rcases C with w | w | w | w | w | w
    · exact absurd (q.symm.trans w.1) (by decide)
    · exact absurd (q.symm.trans w.1) (by decide)
    · exact w.2.2.1
    · exact absurd (q.symm.trans w.1) (by decide)
    · exact absurd (q.symm.trans w.1) (by decide)
    · exact absurd (q.symm.trans w.1) (by decide)
  · rcases C with w | w | w | w | w | w
    · exact absurd (q.symm.trans w.1) (by decide)
    · exact ⟨hs q, w.2.2.2.1⟩
    · exact absurd (q.symm.trans w.1) (by decide)
    · exact absurd (q.symm.trans w.1) (by decide)
    · exact absurd (q.symm.trans w.1) (by decide)
    · exact absurd (q.symm.trans w.1) (by decide)
  · rcases C with w | w | w | w | w | w
    · exact ⟨w.2.2.1, w.2.2.2.1, w.2.2.2.2.1⟩
    · exact absurd (q.symm.trans w.1) (by decide)
    · exact absurd (q.symm.trans w.1) (by decide)
    · exact absurd (q.symm.trans w.1) (by decide)
    · exact absurd (q.symm.trans w.1) (by decide)
    · exact absurd (q.symm.trans w.1) (by decide)
theorem mInv_tor {S : MS} {e u t p d ot n cs k0 c s cr : Nat} (I : mInv S) (hv : vT S t) (he : e = 1 - t / 320) (C : cK S t) (hs : S 46 0 = nI 2 → s < 16) (hu : S 44 0 = nI u) (hu24 : u ≤ 24) (hcr : S 43 e = nI cr) (hcr3 : cr ≤ 3) (X0 : opR S t → mTH S u t p d ot n cs k0 c) (X1 : S 23 t = 0 → cr < 3 → mTH (mOpen S e t p cr) u t p d ot n cs k0 c ∧ 3 * e ≤ p ∧ p < 3 * e + 3 ∧ S 35 p = 0) : mInv (mToR S e u t p d ot n cs k0 c s cr) := by
  have h640 := hv.1
  unfold mToR
  split
  · split
    · rename_i h6
      have X := X0 (Or.inr h6)
      exact mInv_shut I hv (Or.inr h6) X.2.1 X.2.2.1 ((I.p hv (Or.inr h6) X.2.1 X.2.2.1).2.2.2.2.2.2.2.2.2.2.1 h6) X.2.2.2.2.2.2.2.2.2.2.2
    · exact I
  · split
    · rename_i h0
      split
      · exact I
      · rename_i q3
        have hc3 : cr < 3 := by
          rcases Nat.lt_or_ge cr 3 with w | w
          · exact w
          · exact absurd (by rw [show cr = 3 from by omega]) q3
        obtain ⟨Z1, Z2, Z3, Z4⟩ := X1 h0 hc3
        exact mInv_t1 (mInv_open I hv he h0 hcr hc3 Z2 Z3 Z4) ((vT_c mOpen_L (by decide)).mpr hv) (by omega) (by rw [mOpen_L 44 (by decide)]; exact hu) hu24 (fun _ => Z1) (cR_c mOpen_L (by decide) (cR_of C hs))
    · exact mInv_t1 I hv (by omega) hu hu24 (fun q => X0 (Or.inl q)) (cR_of C hs)
