/-! ===== what doesn't look at a cell doesn't see it changed ===== -/
theorem cFl_fr {h h' : ix_H} {x e f : Nat} {S S' : MS} (C : cFl h x S e f) (h1 : ∀ j, ix_i h' (cSz x e) j = ix_i h (cSz x e) j) (h2 : ∀ j, ix_i h' (cBr x e f) j = ix_i h (cBr x e f) j) (s4 : S' 4 (6 * e + f) = S 4 (6 * e + f)) (s5 : S' 5 (6 * e + f) = S 5 (6 * e + f)) (s6 : ∀ i, i < 64 → S' 6 (64 * (6 * e + f) + i) = S 6 (64 * (6 * e + f) + i)) (hb : bw (S 5 (6 * e + f)) 0 64) : cFl h' x S' e f := by
  obtain ⟨a1, a2, a3⟩ := C
  refine ⟨by rw [h1, s4, s5]; exact a1, fun i hi => by rw [h2]; exact a2 i hi, fun q i hi => ?_⟩
  rw [s4] at q
  rw [s5] at hi
  rw [h2, s6 i (by have := hb.c (by decide); omega)]
  exact a3 q i hi
theorem cTr_fr {h h' : ix_H} {x t : Nat} {S S' : MS} {T R : Nat → Nat} (C : cTr h x S T R t) (hc : ceq h h' (T t)) (s : ∀ k, 8 ≤ k → k ≤ 12 → S' k t = S k t) (s23 : S' 23 t = 0 ↔ S 23 t = 0) : cTr h' x S' T R t := by
  obtain ⟨a1, a2, a3, a4, a5, a6, a7, a8, a9, a10⟩ := C
  obtain ⟨c1, c2, c3, c4⟩ := hc
  refine ⟨a1, by rw [c1]; exact a2, by rw [c3]; exact a3, by rw [c3]; exact a4, by rw [c3, s 9 (by decide) (by decide)]; exact a5, by rw [c3, s 10 (by decide) (by decide)]; exact a6, by rw [c3, s 8 (by decide) (by decide)]; exact a7, by rw [c3, s 11 (by decide) (by decide)]; exact a8, by rw [c3, s 12 (by decide) (by decide)]; exact a9, ?_⟩
  rw [c4, a10]
  by_cases q : S 23 t = 0
  · rw [if_pos q, if_pos (s23.mpr q)]
  · rw [if_neg q, if_neg (fun z => q (s23.mp z))]
theorem cSo_fr {h h' : ix_H} {s t : Nat} {S S' : MS} (C : cSo h S s t) (hi : ∀ j, ix_i h' s j = ix_i h s j) (hs : ∀ k, 13 ≤ k → k ≤ 22 → S' k t = S k t) (hn : fN S' t = fN S t) : cSo h' S' s t := by
  unfold cSo at C ⊢
  simp only [hi, hn, hs 14 (by decide) (by decide), hs 15 (by decide) (by decide), hs 16 (by decide) (by decide), hs 17 (by decide) (by decide), hs 18 (by decide) (by decide), hs 19 (by decide) (by decide), hs 20 (by decide) (by decide), hs 21 (by decide) (by decide), hs 22 (by decide) (by decide)]
  exact C
theorem cSn_fr {h h' : ix_H} {x t : Nat} {S S' : MS} {T A : Nat → Nat} (C : cSn h x S T A t) (hc : ceq h h' (A t)) (s0 : S' 0 0 = S 0 0) (hs : ∀ k, 13 ≤ k → k ≤ 22 → S' k t = S k t) (hn : S 13 t = nI 5 → fN S' t = fN S t) : cSn h' x S' T A t := by
  obtain ⟨a1, a2, a3, a4, a5, a6, a7, a8⟩ := C
  obtain ⟨c1, c2, c3, c4⟩ := hc
  refine ⟨a1, by rw [c1]; exact a2, by rw [c4]; exact a3, by rw [c4]; exact a4, by rw [c4]; exact a5, by rw [c3, s0]; exact a6, fun q => ?_, fun q => ?_⟩
  · rw [hs 13 (by decide) (by decide)] at q
    exact cSo_fr (a7 q) c3 hs (hn q)
  · rw [hs 13 (by decide) (by decide)] at q ⊢
    rw [c3]
    exact a8 q
theorem cRo5_fr {h h' : ix_H} {r p : Nat} {S S' : MS} (C : cRo5 h S r p) (h1 : ∀ j, ix_i h' r j = ix_i h r j) (h2 : ∀ j, ix_i h' (r + 1) j = ix_i h (r + 1) j) (hs : ∀ k, 26 ≤ k → k ≤ 37 → S' k p = S k p) (h38 : ∀ i, i < 16 → S' 38 (16 * p + i) = S 38 (16 * p + i)) (h39 : ∀ i, i < 16 → S' 39 (16 * p + i) = S 39 (16 * p + i)) : cRo5 h' S' r p := by
  obtain ⟨a1, a2, a3, a4, a5, a6, a7, a8⟩ := C
  refine ⟨by rw [h1]; exact a1, by rw [h1, hs 36 (by decide) (by decide)]; exact a2, fun q hq => ?_, by rw [h1, hs 37 (by decide) (by decide), hs 27 (by decide) (by decide)]; exact a4, fun q => ?_, by rw [h1, hs 37 (by decide) (by decide), hs 31 (by decide) (by decide), hs 30 (by decide) (by decide)]; exact a6, by rw [h1, hs 29 (by decide) (by decide)]; exact a7, fun i hi => ?_⟩
  · rw [h1, a3 q hq]
    by_cases w : q < 16
    · rw [h39 q w]
    · exact ⟨fun z => absurd z.1 w, fun z => absurd z.1 w⟩
  · rw [hs 37 (by decide) (by decide)] at q
    rw [h1, hs 28 (by decide) (by decide)]
    exact a5 q
  · rw [h2, a8 i hi]
    unfold mB
    rw [h38 (i / 4) (by omega), h39 (i / 4) (by omega)]
theorem cRv_fr {h h' : ix_H} {x tx r t : Nat} {S S' : MS} (C : cRv h x S tx r t) (h1 : ceq h h' r) (h2 : ceq h h' (r + 1)) (s0 : S' 0 0 = S 0 0) (hs : ∀ k, 23 ≤ k → k ≤ 25 → S' k t = S k t) (hp : opR S t → ∀ k, 26 ≤ k → k ≤ 37 → S' k (sP S t) = S k (sP S t)) (h38 : opR S t → ∀ i, i < 16 → S' 38 (16 * sP S t + i) = S 38 (16 * sP S t + i) ∧ S' 39 (16 * sP S t + i) = S 39 (16 * sP S t + i)) : cRv h' x S' tx r t := by
  obtain ⟨a1, a2, a3, a4, a5, a6, a7, a8, a9, a10, a11, a12, a13, a14, a15⟩ := C
  have es : sP S' t = sP S t := by unfold sP; rw [hs 25 (by decide) (by decide)]
  have e23 := hs 23 (by decide) (by decide)
  have eo : opR S' t ↔ opR S t := by unfold opR; rw [e23]
  refine ⟨a1, by rw [h1.1]; exact a2, by rw [h1.2.2.2]; exact a3, by rw [h1.2.2.2]; exact a4, by rw [h1.2.2.2]; exact a5, by rw [h1.2.2.1, s0]; exact a6, by rw [h1.2.2.2]; exact a7, by rw [h2.1]; exact a8, by rw [h2.2.1]; exact a9, fun i hi => by rw [h2.2.2.1]; exact a10 i hi, by rw [h1.2.2.1, hs 24 (by decide) (by decide)]; exact a11, fun q => ?_, fun q => ?_, fun q => ?_, fun q => ?_⟩
  · rw [h1.2.2.1, h1.2.2.1, e23]
    exact a12 (fun z => q (eo.mpr z))
  · rw [h1.2.2.1]
    exact a13 (eo.mp q)
  · rw [e23] at q
    have o : opR S t := Or.inr q
    rw [h1.2.2.1, h1.2.2.1, h1.2.2.1, es, hp o 26 (by decide) (by decide), hp o 30 (by decide) (by decide), hp o 29 (by decide) (by decide)]
    exact a14 q
  · rw [e23] at q
    have o : opR S t := Or.inl q
    rw [es]
    exact cRo5_fr (a15 q) h1.2.2.1 h2.2.2.1 (hp o) (fun i hi => (h38 o i hi).1) (fun i hi => (h38 o i hi).2)
theorem cUn_fr {h h' : ix_H} {x u j : Nat} {S S' : MS} {T : Nat → Nat} (C : cUn h x S T u j) (h1 : ceq h h' u) (s : ∀ i, i < 11 → S' 45 (11 * j + i) = S 45 (11 * j + i)) (hg : S 45 (11 * j) = nI 6 → (S 45 (11 * j + 4)).toNatClampNeg ≤ 3) : cUn h' x S' T u j := by
  obtain ⟨a1, a2, a3, a4, a5, a6, a7, a8, a9⟩ := C
  have s0 : S' 45 (11 * j) = S 45 (11 * j) := s 0 (by decide)
  refine ⟨a1, by rw [h1.1]; exact a2, by rw [h1.2.2.2, s 2 (by decide)]; exact a3, by rw [h1.2.2.1, s0]; exact a4, by rw [h1.2.2.1, s 1 (by decide)]; exact a5, by rw [h1.2.2.1, s0, s 4 (by decide), s 3 (by decide)]; exact a6, fun q => ?_, fun q => ?_, fun q => ?_⟩
  · rw [s0] at q
    rw [h1.2.2.1, h1.2.2.1, s 4 (by decide), s 5 (by decide)]
    exact a7 q
  · rw [s0] at q
    rw [h1.2.2.1, s 4 (by decide)]
    exact a8 q
  · rw [s0] at q
    have g3 := hg q
    intro k hk
    rw [h1.2.2.1, s 4 (by decide), a9 q k hk]
    constructor
    · rintro ⟨i, w1, w2, w3⟩
      refine ⟨i, w1, ?_, ?_⟩
      · rw [Nat.add_assoc, s (5 + 2 * i) (by omega), ← Nat.add_assoc]; exact w2
      · rw [Nat.add_assoc, s (6 + 2 * i) (by omega), ← Nat.add_assoc]; exact w3
    · rintro ⟨i, w1, w2, w3⟩
      refine ⟨i, w1, ?_, ?_⟩
      · rw [Nat.add_assoc, s (5 + 2 * i) (by omega), ← Nat.add_assoc] at w2; exact w2
      · rw [Nat.add_assoc, s (6 + 2 * i) (by omega), ← Nat.add_assoc] at w3; exact w3
theorem cLi_fr {h h' : ix_H} {a D : Nat} {L : List Nat} (C : cLi h a D L) (h1 : ceq h h' a) (h2 : ceq h h' D) : cLi h' a D L := by
  obtain ⟨a1, a2, a3, a4, a5, a6⟩ := C
  exact ⟨by rw [h1.2.2.2]; exact a1, by rw [h1.2.2.1]; exact a2, by rw [h2.2.1]; exact a3, by rw [h2.2.1]; exact a4, by rw [h2.1, h2.2.1]; exact a5, fun i b hb => by rw [h2.2.2.2]; exact a6 i b hb⟩
theorem cRw_fr {S S' : MS} {L : List Nat} {Lo Lr : Nat → List Nat} (C : cRw S Lo Lr) (H : ∀ k, k ∉ L → S' k = S k) (d : ∀ k ∈ [7, 13, 23, 40, 41, 42, 43], k ∉ L) : cRw S' Lo Lr := by
  simp only [cRw, vT, nN, rowL, cP] at C ⊢
  simp only [H 7 (d 7 (by decide)), H 13 (d 13 (by decide)), H 23 (d 23 (by decide)), H 40 (d 40 (by decide)), H 41 (d 41 (by decide)), H 42 (d 42 (by decide)), H 43 (d 43 (by decide))]
  exact C
theorem mInv.g3 {S : MS} (I : mInv S) {j : Nat} (hj : j < gU S) (q : S 45 (11 * j) = nI 6) : (S 45 (11 * j + 4)).toNatClampNeg ≤ 3 := by
  obtain ⟨t, h1, h2, h3⟩ := I.u I.gu.1 I.gu.2 hj
  rcases h3 with w | w | w | w | w | ⟨-, -, -, g, g3, g4, -⟩
  · exact absurd (q.symm.trans w.1) (by decide)
  · exact absurd (q.symm.trans w.1) (by decide)
  · exact absurd (q.symm.trans w.1) (by decide)
  · exact absurd (q.symm.trans w.1) (by decide)
  · exact absurd (q.symm.trans w.1) (by decide)
  · rw [g4, nI_clamp (by omega)]; exact g3
/-! who lies where -/
section CR
variable {h : ix_H} {x : Nat} {S : MS} {T A R U D : Nat → Nat} {Lo Lr : Nat → List Nat}
theorem cRel.fx (C : cRel h x S T A R U D Lo Lr) : cFix h x := C.1
theorem cRel.nx (C : cRel h x S T A R U D Lo Lr) : cNx h := C.2.1
theorem cRel.fl (C : cRel h x S T A R U D Lo Lr) {e f : Nat} (he : e < 2) (hf : f < 6) : cFl h x S e f := C.2.2.2.1 e f he hf
theorem cRel.tx (C : cRel h x S T A R U D Lo Lr) {t : Nat} (hv : vT S t) : cTx h x S T A R t := C.2.2.2.2.1 t hv
theorem cRel.us (C : cRel h x S T A R U D Lo Lr) : cUs h x S T U := C.2.2.2.2.2.1
theorem cRel.ll (C : cRel h x S T A R U D Lo Lr) : cLL h x S A R D Lo Lr := C.2.2.2.2.2.2.1
theorem cRel.rw (C : cRel h x S T A R U D Lo Lr) : cRw S Lo Lr := C.2.2.2.2.2.2.2
theorem cRel.lt (C : cRel h x S T A R U D Lo Lr) {b : Nat} (hb : ix_tg h b ≠ 0) : b < ix_nx h := Nat.lt_of_not_le fun z => hb (C.nx b z)
theorem cRel.x30 (C : cRel h x S T A R U D Lo Lr) : x + 30 ≤ ix_nx h := by
  have := C.lt (b := cRo x) (by rw [C.fx.2.2.2.2.2.2.2.1]; decide)
  unfold cRo at this
  omega
theorem cRel.Ti (C : cRel h x S T A R U D Lo Lr) {t t' : Nat} (hv : vT S t) (hv' : vT S t') (q : T t = T t') : t = t' := by
  have a := (C.tx hv).1
  have b := (C.tx hv').1
  have h1 : nI (t / 320) = nI (t' / 320) := by rw [← a.2.2.1, q]; exact b.2.2.1
  have h2 : nI (t % 320) = nI (t' % 320) := by rw [← a.2.2.2.1, q]; exact b.2.2.2.1
  have l1 := hv.1
  have l2 := hv'.1
  have := (nI_eq (by omega) (by omega)).mp h1
  have := (nI_eq (by omega) (by omega)).mp h2
  omega
theorem cRel.Ai (C : cRel h x S T A R U D Lo Lr) {t t' : Nat} (hv : vT S t) (hv' : vT S t') (q : A t = A t') : t = t' := by
  have a := (C.tx hv).2.1.2.2.1
  have b := (C.tx hv').2.1.2.2.1
  rw [q, b] at a
  exact C.Ti hv hv' (Option.some.inj a).symm
theorem cRel.Ri (C : cRel h x S T A R U D Lo Lr) {t t' : Nat} (hv : vT S t) (hv' : vT S t') (h0 : ¬ S 23 t = 0) (h0' : ¬ S 23 t' = 0) (q : R t = R t') : t = t' := by
  have a := ((C.tx hv).2.2 h0).2.2.1
  have b := ((C.tx hv').2.2 h0').2.2.1
  rw [q, b] at a
  exact C.Ti hv hv' (Option.some.inj a).symm
end CR
