/-! ===== one receiver changes ===== -/
section CRa
variable {h h2 h' : ix_H} {x : Nat} {S S1 S' : MS} {T A R U D : Nat → Nat} {Lo Lr : Nat → List Nat}
theorem cRel_rc {t : Nat} (I : mInv S) (C : cRel h x S T A R U D Lo Lr) (hv : vT S t) (ho : opR S t) (hh : ∀ b, b ≠ R t → b ≠ R t + 1 → ceq h h' b) (hn : ix_nx h' = ix_nx h) (htg : ix_tg h' (R t + 1) = 102 ∧ ix_tg h' (R t) = 3) (F0 : ∀ k, k ∉ [1, 2, 3, 23, 24, 26, 27, 28, 29, 30, 31, 32, 33, 34, 35, 36, 37, 38, 39, 41, 43, 46, 47] → S' k = S k) (F1 : ∀ j, j ≠ t → S' 23 j = S 23 j ∧ S' 24 j = S 24 j) (F2 : ∀ k, 26 ≤ k → k ≤ 37 → ∀ j, j ≠ sP S t → S' k j = S k j) (F3 : ∀ k, k = 38 ∨ k = 39 → ∀ j, (j < 16 * sP S t ∨ 16 * sP S t + 16 ≤ j) → S' k j = S k j) (hs : cRv h' x S' (T t) (R t) t) (hz : ¬ S' 23 t = 0) (hrw : cRw S' Lo Lr) : cRel h' x S' T A R U D Lo Lr := by
  have h0 : ¬ S 23 t = 0 := fun z => by
    unfold opR at ho
    rw [z] at ho
    exact absurd ho (by decide)
  have cr := (C.tx hv).2.2 h0
  have r30 := cr.1
  have rt := cr.2.1
  have bt := cr.2.2.2.2.2.2.2.1
  have lo : ∀ b, b < x + 30 → ceq h h' b := fun b hb => hh b (by omega) (by omega)
  have tg : ∀ b k, ix_tg h b = k → k ≠ 3 → k ≠ 102 → ceq h h' b := fun b k hb h1 h2 => hh b (fun z => h1 (by rw [← hb, z]; exact rt)) (fun z => h2 (by rw [← hb, z]; exact bt))
  refine ⟨cFix_fr C.fx (fun b hb => ⟨(lo b hb).1, (lo b hb).2.1⟩) (fun b hb _ _ => (lo b hb).2.2.2), fun b hb => ?_, ?_, fun e f he hf => ?_, fun t' v' => ?_, ?_, ?_, hrw⟩
  · rw [hn] at hb
    have b1 := C.lt (b := R t) (by rw [rt]; decide)
    have b2 := C.lt (b := R t + 1) (by rw [bt]; decide)
    rw [(hh b (by omega) (by omega)).1]
    exact C.nx b hb
  · rw [(lo x (by omega)).2.2.1, F0 0 (by decide)]; exact C.2.2.1
  · exact cFl_fr (C.fl he hf) (lo _ (by unfold cSz; omega)).2.2.1 (lo _ (by unfold cBr; omega)).2.2.1 (by rw [F0 4 (by decide)]) (by rw [F0 5 (by decide)]) (fun i _ => by rw [F0 6 (by decide)]) (I.2.1 _ (by omega)).2
  · have v : vT S t' := (vT_c F0 (by decide)).mp v'
    obtain ⟨c1, c2, c3⟩ := C.tx v
    have s23 : S' 23 t' = 0 ↔ S 23 t' = 0 := by
      by_cases e : t' = t
      · subst e; exact ⟨fun z => absurd z hz, fun z => absurd z h0⟩
      · rw [(F1 t' e).1]
    refine ⟨cTr_fr c1 (tg _ 7 c1.2.1 (by decide) (by decide)) (fun k h1 h2 => by rw [F0 k (by simp only [List.mem_cons, List.not_mem_nil, or_false, not_or]; omega)]) s23, cSn_fr c2 (tg _ 4 c2.2.1 (by decide) (by decide)) (by rw [F0 0 (by decide)]) (fun k h1 h2 => by rw [F0 k (by simp only [List.mem_cons, List.not_mem_nil, or_false, not_or]; omega)]) (fun _ => fN_c F0 (by decide)), fun q => ?_⟩
    by_cases e : t' = t
    · subst e; exact hs
    · have q' : ¬ S 23 t' = 0 := fun z => q (s23.mpr z)
      have c := c3 q'
      have ne : R t' ≠ R t := fun z => e (C.Ri v hv q' h0 z)
      have n1 : R t' ≠ R t + 1 := fun z => by
        have := c.2.1
        rw [z, bt] at this
        exact absurd this (by decide)
      have n2 : R t' + 1 ≠ R t := fun z => by
        have := c.2.2.2.2.2.2.2.1
        rw [z, rt] at this
        exact absurd this (by decide)
      have np : opR S t' → sP S t' ≠ sP S t := fun o z => e (I.P.1 t' t v hv o ho (by rw [(I.sp v o).1, (I.sp hv ho).1, z]))
      exact cRv_fr c (hh _ ne n1) (hh _ n2 (by omega)) (by rw [F0 0 (by decide)]) (fun k h1 h2 => by
        have : k = 23 ∨ k = 24 ∨ k = 25 := by omega
        rcases this with w | w | w <;> subst w
        · exact (F1 t' e).1
        · exact (F1 t' e).2
        · rw [F0 25 (by decide)]) (fun o k h1 h2 => F2 k h1 h2 _ (np o)) (fun o i hi => by
        have := np o
        exact ⟨F3 38 (Or.inl rfl) _ (by omega), F3 39 (Or.inr rfl) _ (by omega)⟩)
  · obtain ⟨u1, u2, u3⟩ := C.us
    have eg : gU S' = gU S := by unfold gU; rw [F0 44 (by decide)]
    refine ⟨by rw [(lo _ (by unfold cLk; omega)).2.2.1, F0 44 (by decide)]; exact u1, fun j hj => ?_, by rw [eg]; exact u3⟩
    rw [eg] at hj
    obtain ⟨w1, w2⟩ := u2 j hj
    exact ⟨by rw [(lo _ (by unfold cRo; omega)).2.2.2]; exact w1, cUn_fr w2 (tg _ 8 w2.2.1 (by decide) (by decide)) (fun i _ => by rw [F0 45 (by decide)]) (I.g3 hj)⟩
  · refine cLL_fr C (fun e i he hi => lo _ (by have := cLs_lt (x := x) he hi; omega)) (fun i hi => ?_) (F0 7 (by decide))
    rcases C.Dt hi with w | w
    · exact tg _ _ w (by decide) (by decide)
    · exact tg _ _ w (by decide) (by decide)
/-- .. and a unit beside it -/
theorem cRel_rs {t : Nat} {w to d l c : Int32} (I1 : mInv S1) (HS : ∃ U', cRel (hOut x h (T t) w to d l c) x S1 T A R U' D Lo Lr) (hv : vT S1 t) (ho : opR S1 t) (a2 : sw (R t) h h2) (a3 : sw (R t) (hOut x h2 (T t) w to d l c) h') (htg : ix_tg h' (R t + 1) = 102 ∧ ix_tg h' (R t) = 3) (F0 : ∀ k, k ∉ [1, 2, 3, 23, 24, 26, 27, 28, 29, 30, 31, 32, 33, 34, 35, 36, 37, 38, 39, 41, 43, 46, 47] → S' k = S1 k) (F1 : ∀ j, j ≠ t → S' 23 j = S1 23 j ∧ S' 24 j = S1 24 j) (F2 : ∀ k, 26 ≤ k → k ≤ 37 → ∀ j, j ≠ sP S1 t → S' k j = S1 k j) (F3 : ∀ k, k = 38 ∨ k = 39 → ∀ j, (j < 16 * sP S1 t ∨ 16 * sP S1 t + 16 ≤ j) → S' k j = S1 k j) (hs : cRv h' x S' (T t) (R t) t) (hz : ¬ S' 23 t = 0) (hrw : cRw S' Lo Lr) : ∃ U', cRel h' x S' T A R U' D Lo Lr := by
  obtain ⟨U', C1⟩ := HS
  have h0 : ¬ S1 23 t = 0 := fun z => by
    unfold opR at ho
    rw [z] at ho
    exact absurd ho (by decide)
  have n1 : R t ≠ cLk x := by have := ((C1.tx hv).2.2 h0).1; unfold cLk; omega
  have a4 := (a2.out n1).tr a3
  exact ⟨U', cRel_rc I1 C1 hv ho (fun b h1 _ => a4.1 b h1) a4.2 htg F0 F1 F2 F3 hs hz hrw⟩
end CRa
