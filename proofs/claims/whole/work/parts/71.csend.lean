/-! ===== one sender changes; a unit is sent ===== -/
section CR2
variable {h h' : ix_H} {x : Nat} {S S' : MS} {T A R U D : Nat → Nat} {Lo Lr : Nat → List Nat}
theorem cLs_lt {x e i : Nat} (he : e < 2) (hi : i < 3) : cLs x e i < x + 28 := by unfold cLs; omega
theorem cRel.Dt (C : cRel h x S T A R U D Lo Lr) {i : Nat} (hi : i < 6) : ix_tg h (D i) = 107 ∨ ix_tg h (D i) = 207 := by
  obtain ⟨e, j, he, hj, q⟩ : ∃ e j, e < 2 ∧ j < 3 ∧ i = 3 * e + j := ⟨i / 3, i % 3, by omega, by omega, by omega⟩
  obtain ⟨l1, l2, l3⟩ := C.ll.1 e he
  have : j = 0 ∨ j = 1 ∨ j = 2 := by omega
  rcases this with w | w | w <;> subst w <;> subst q
  · exact l1.2.2.2.2.1.imp id (fun z => z.1)
  · exact l2.2.2.2.2.1.imp id (fun z => z.1)
  · exact l3.2.2.2.2.1.imp id (fun z => z.1)
/-- the lists stay where their cells do -/
theorem cLL_fr (C : cRel h x S T A R U D Lo Lr) (hl : ∀ e i, e < 2 → i < 3 → ceq h h' (cLs x e i)) (hD : ∀ i, i < 6 → ceq h h' (D i)) (h7 : S' 7 = S 7) : cLL h' x S' A R D Lo Lr := by
  refine ⟨fun e he => ?_, fun i hi k hk q t => ?_, fun i hi t => ?_⟩
  · obtain ⟨l1, l2, l3⟩ := C.ll.1 e he
    have e7 : nN S' e = nN S e := by unfold nN; rw [h7]
    rw [e7]
    exact ⟨cLi_fr l1 (hl e 0 he (by omega)) (hD _ (by omega)), cLi_fr l2 (hl e 1 he (by omega)) (hD _ (by omega)), cLi_fr l3 (hl e 2 he (by omega)) (hD _ (by omega))⟩
  · rw [(hD i hi).1] at t
    exact C.ll.2.1 i hi k hk q t
  · rw [(hD i hi).1] at t
    exact C.ll.2.2 i hi t
theorem cRel_sn {t : Nat} (I : mInv S) (C : cRel h x S T A R U D Lo Lr) (hv : vT S t) (hh : ∀ b, b ≠ A t → ceq h h' b) (hn : ix_nx h' = ix_nx h) (F0 : ∀ k, k ∉ [13, 14, 15, 16, 17, 18, 19, 20, 21, 22, 40, 42] → S' k = S k) (F1 : ∀ k, 13 ≤ k → k ≤ 22 → ∀ j, j ≠ t → S' k j = S k j) (hs : cSn h' x S' T A t) (hrw : cRw S' Lo Lr) : cRel h' x S' T A R U D Lo Lr := by
  have a30 := (C.tx hv).2.1.1
  have at4 := (C.tx hv).2.1.2.1
  have lo : ∀ b, b < x + 30 → ceq h h' b := fun b hb => hh b (by omega)
  have tg : ∀ b k, ix_tg h b = k → k ≠ 4 → ceq h h' b := fun b k hb hk => hh b (fun z => hk (by rw [← hb, z]; exact at4))
  refine ⟨cFix_fr C.fx (fun b hb => ⟨(lo b hb).1, (lo b hb).2.1⟩) (fun b hb _ _ => (lo b hb).2.2.2), fun b hb => ?_, ?_, fun e f he hf => ?_, fun t' v' => ?_, ?_, ?_, hrw⟩
  · rw [hn] at hb
    have : b ≠ A t := fun z => by
      have := C.lt (b := A t) (by rw [at4]; decide)
      omega
    rw [(hh b this).1]
    exact C.nx b hb
  · rw [(lo x (by omega)).2.2.1, F0 0 (by decide)]; exact C.2.2.1
  · exact cFl_fr (C.fl he hf) (lo _ (by unfold cSz; omega)).2.2.1 (lo _ (by unfold cBr; omega)).2.2.1 (by rw [F0 4 (by decide)]) (by rw [F0 5 (by decide)]) (fun i _ => by rw [F0 6 (by decide)]) (I.2.1 _ (by omega)).2
  · have v : vT S t' := (vT_c F0 (by decide)).mp v'
    obtain ⟨c1, c2, c3⟩ := C.tx v
    refine ⟨cTr_fr c1 (tg _ 7 c1.2.1 (by decide)) (fun k h1 h2 => by rw [F0 k (by simp only [List.mem_cons, List.not_mem_nil, or_false, not_or]; omega)]) (by rw [F0 23 (by decide)]), ?_, fun q => ?_⟩
    · by_cases e : t' = t
      · subst e; exact hs
      · exact cSn_fr c2 (hh _ (fun z => e (C.Ai v hv z))) (by rw [F0 0 (by decide)]) (fun k h1 h2 => F1 k h1 h2 t' e) (fun _ => fN_c F0 (by decide))
    · rw [F0 23 (by decide)] at q
      have c := c3 q
      exact cRv_fr c (tg _ 3 c.2.1 (by decide)) (tg _ 102 c.2.2.2.2.2.2.2.1 (by decide)) (by rw [F0 0 (by decide)]) (fun k h1 h2 => by rw [F0 k (by simp only [List.mem_cons, List.not_mem_nil, or_false, not_or]; omega)]) (fun _ k h1 h2 => by rw [F0 k (by simp only [List.mem_cons, List.not_mem_nil, or_false, not_or]; omega)]) (fun _ i _ => ⟨by rw [F0 38 (by decide)], by rw [F0 39 (by decide)]⟩)
  · obtain ⟨u1, u2, u3⟩ := C.us
    have eg : gU S' = gU S := by unfold gU; rw [F0 44 (by decide)]
    refine ⟨by rw [(lo _ (by unfold cLk; omega)).2.2.1, F0 44 (by decide)]; exact u1, fun j hj => ?_, by rw [eg]; exact u3⟩
    rw [eg] at hj
    obtain ⟨w1, w2⟩ := u2 j hj
    exact ⟨by rw [(lo _ (by unfold cRo; omega)).2.2.2]; exact w1, cUn_fr w2 (tg _ 8 w2.2.1 (by decide)) (fun i _ => by rw [F0 45 (by decide)]) (I.g3 hj)⟩
  · refine cLL_fr C (fun e i he hi => lo _ (by have := cLs_lt (x := x) he hi; omega)) (fun i hi => ?_) (F0 7 (by decide))
    rcases C.Dt hi with w | w
    · exact tg _ _ w (by decide)
    · exact tg _ _ w (by decide)
/-- a new cell that nobody holds -/
theorem cRel_nw (I : mInv S) (C : cRel h x S T A R U D Lo Lr) (hh : ∀ b, b < ix_nx h → ceq h h' b) (hn : ix_nx h ≤ ix_nx h') (hz : cNx h') : cRel h' x S T A R U D Lo Lr := by
  have tg : ∀ b, ix_tg h b ≠ 0 → ceq h h' b := fun b hb => hh b (C.lt hb)
  have lo : ∀ b, b < x + 30 → ceq h h' b := fun b hb => hh b (by have := C.x30; omega)
  refine ⟨cFix_fr C.fx (fun b hb => ⟨(lo b hb).1, (lo b hb).2.1⟩) (fun b hb _ _ => (lo b hb).2.2.2), hz, ?_, fun e f he hf => ?_, fun t v => ?_, ?_, ?_, C.rw⟩
  · rw [(lo x (by omega)).2.2.1]; exact C.2.2.1
  · exact cFl_fr (C.fl he hf) (lo _ (by unfold cSz; omega)).2.2.1 (lo _ (by unfold cBr; omega)).2.2.1 rfl rfl (fun i _ => rfl) (I.2.1 _ (by omega)).2
  · obtain ⟨c1, c2, c3⟩ := C.tx v
    refine ⟨cTr_fr c1 (tg _ (by rw [c1.2.1]; decide)) (fun k h1 h2 => rfl) Iff.rfl, cSn_fr c2 (tg _ (by rw [c2.2.1]; decide)) rfl (fun k h1 h2 => rfl) (fun _ => rfl), fun q => ?_⟩
    have c := c3 q
    exact cRv_fr c (tg _ (by rw [c.2.1]; decide)) (tg _ (by rw [c.2.2.2.2.2.2.2.1]; decide)) rfl (fun k h1 h2 => rfl) (fun _ k h1 h2 => rfl) (fun _ i _ => ⟨rfl, rfl⟩)
  · obtain ⟨u1, u2, u3⟩ := C.us
    refine ⟨by rw [(lo _ (by unfold cLk; omega)).2.2.1]; exact u1, fun j hj => ?_, u3⟩
    obtain ⟨w1, w2⟩ := u2 j hj
    exact ⟨by rw [(lo _ (by unfold cRo; omega)).2.2.2]; exact w1, cUn_fr w2 (tg _ (by rw [w2.2.1]; decide)) (fun i _ => rfl) (I.g3 hj)⟩
  · refine cLL_fr C (fun e i he hi => lo _ (by have := cLs_lt (x := x) he hi; omega)) (fun i hi => ?_) rfl
    rcases C.Dt hi with w | w
    · exact tg _ (by rw [w]; decide)
    · exact tg _ (by rw [w]; decide)
/-- the link and the row change: S' has other units -/
theorem cRel_us {U' : Nat → Nat} (I : mInv S) (C : cRel h x S T A R U D Lo Lr) (hh : ∀ b, b ≠ cLk x → b ≠ cRo x → (ix_tg h b ≠ 8 ∨ b < x + 30) → ceq h h' b) (h8 : ∀ b, ix_tg h' b = ix_tg h b ∧ ix_ln h' b = ix_ln h b) (hlk : ∀ j, ix_r h' (cLk x) j = ix_r h (cLk x) j) (hn : ix_nx h' = ix_nx h) (F : ∀ k, k ∉ [1, 2, 3, 44, 45, 46, 47] → S' k = S k) (hu : cUs h' x S' T U') : cRel h' x S' T A R U' D Lo Lr := by
  have tg : ∀ b k, ix_tg h b = k → k ≠ 8 → k ≠ 2 → k ≠ 106 → ceq h h' b := fun b k hb h1 h2 h3 => hh b (fun z => h2 (by rw [← hb, z]; exact C.fx.2.2.2.2.2.1)) (fun z => h3 (by rw [← hb, z]; exact C.fx.2.2.2.2.2.2.2.1)) (Or.inl (by rw [hb]; exact h1))
  have F1 := fun e he => C.fx.2.2.2.2.2.2.2.2.2 e he
  refine ⟨cFix_fr C.fx (fun b _ => h8 b) (fun b hb hr hl j => ?_), fun b hb => ?_, ?_, fun e f he hf => ?_, fun t v => ?_, hu, ?_, cRw_fr C.rw F (by decide)⟩
  · by_cases q : b = cLk x
    · rw [q]; exact hlk j
    · exact (hh b q hr (Or.inr hb)).2.2.2 j
  · rw [hn] at hb
    rw [(h8 b).1]
    exact C.nx b hb
  · rw [(tg x 1 C.fx.1 (by decide) (by decide) (by decide)).2.2.1, F 0 (by decide)]; exact C.2.2.1
  · obtain ⟨b1, b2, b3, b4, b5, b6, b7, b8, b9, b10, b11, b12⟩ := F1 e he
    exact cFl_fr (C.fl he hf) (tg _ _ b10 (by decide) (by decide) (by decide)).2.2.1 (tg _ _ (b12 f hf).2.1 (by decide) (by decide) (by decide)).2.2.1 (by rw [F 4 (by decide)]) (by rw [F 5 (by decide)]) (fun i _ => by rw [F 6 (by decide)]) (I.2.1 _ (by omega)).2
  · have v' : vT S t := (vT_c F (by decide)).mp v
    obtain ⟨c1, c2, c3⟩ := C.tx v'
    refine ⟨cTr_fr c1 (tg _ _ c1.2.1 (by decide) (by decide) (by decide)) (fun k h1 h2 => by rw [F k (by simp only [List.mem_cons, List.not_mem_nil, or_false, not_or]; omega)]) (by rw [F 23 (by decide)]), cSn_fr c2 (tg _ _ c2.2.1 (by decide) (by decide) (by decide)) (by rw [F 0 (by decide)]) (fun k h1 h2 => by rw [F k (by simp only [List.mem_cons, List.not_mem_nil, or_false, not_or]; omega)]) (fun _ => fN_c F (by decide)), fun q => ?_⟩
    rw [F 23 (by decide)] at q
    have c := c3 q
    exact cRv_fr c (tg _ _ c.2.1 (by decide) (by decide) (by decide)) (tg _ _ c.2.2.2.2.2.2.2.1 (by decide) (by decide) (by decide)) (by rw [F 0 (by decide)]) (fun k h1 h2 => by rw [F k (by simp only [List.mem_cons, List.not_mem_nil, or_false, not_or]; omega)]) (fun _ k h1 h2 => by rw [F k (by simp only [List.mem_cons, List.not_mem_nil, or_false, not_or]; omega)]) (fun _ i _ => ⟨by rw [F 38 (by decide)], by rw [F 39 (by decide)]⟩)
  · refine cLL_fr C (fun e i he hi => ?_) (fun i hi => ?_) (F 7 (by decide))
    · exact tg _ _ ((F1 e he).2.2.2.1 i hi).2 (by decide) (by decide) (by decide)
    · rcases C.Dt hi with w | w
      · exact tg _ _ w (by decide) (by decide) (by decide)
      · exact tg _ _ w (by decide) (by decide) (by decide)
theorem cRel_irr (I : mInv S) (C : cRel h x S T A R U D Lo Lr) (F : ∀ k, k ∉ [1, 2, 3, 46, 47] → S' k = S k) : cRel h x S' T A R U D Lo Lr := by
  refine cRel_us I C (fun b _ _ _ => ceq.rfl) (fun b => ⟨rfl, rfl⟩) (fun _ => rfl) rfl (fun k hk => F k (fun z => hk (by revert z; simp only [List.mem_cons, List.not_mem_nil, or_false]; omega))) ?_
  obtain ⟨u1, u2, u3⟩ := C.us
  have eg : gU S' = gU S := by unfold gU; rw [F 44 (by decide)]
  refine ⟨by rw [F 44 (by decide)]; exact u1, fun j hj => ?_, by rw [eg]; exact u3⟩
  rw [eg] at hj
  exact ⟨(u2 j hj).1, cUn_fr (u2 j hj).2 ceq.rfl (fun i _ => by rw [F 45 (by decide)]) (I.g3 hj)⟩
end CR2
