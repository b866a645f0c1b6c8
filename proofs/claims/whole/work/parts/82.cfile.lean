/-! ===== a file changes ===== -/
section CRd
variable {h h' : ix_H} {x : Nat} {S S' : MS} {T A R U D : Nat → Nat} {Lo Lr : Nat → List Nat}
theorem cRel_fl {e f : Nat} (I : mInv S) (C : cRel h x S T A R U D Lo Lr) (he : e < 2) (hf : f < 6) (hh : ∀ b, b ≠ cSz x e → b ≠ cBr x e f → ceq h h' b) (hc : ∀ b, ix_tg h' b = ix_tg h b ∧ ix_ln h' b = ix_ln h b ∧ ∀ j, ix_r h' b j = ix_r h b j) (hz : ∀ j, j ≠ f → ix_i h' (cSz x e) j = ix_i h (cSz x e) j) (hn : ix_nx h' = ix_nx h) (F : ∀ k, k ∉ [1, 2, 3, 4, 5, 6, 46, 47] → S' k = S k) (F4 : ∀ j, j ≠ 6 * e + f → S' 4 j = S 4 j ∧ S' 5 j = S 5 j) (F6 : ∀ j, (j < 64 * (6 * e + f) ∨ 64 * (6 * e + f) + 64 ≤ j) → S' 6 j = S 6 j) (hs : cFl h' x S' e f) (hno : ∀ t, vT S t → S 13 t = nI 5 → fI S t ≠ 6 * e + f) : cRel h' x S' T A R U D Lo Lr := by
  have F1 := C.fx.2.2.2.2.2.2.2.2.2 e he
  have tz := F1.2.2.2.2.2.2.2.2.2.1
  have tb := (F1.2.2.2.2.2.2.2.2.2.2.2 f hf).2.1
  have hi30 : ∀ b, x + 30 ≤ b → ceq h h' b := fun b hb => hh b (by unfold cSz; omega) (by unfold cBr; omega)
  have tg : ∀ b k, ix_tg h b = k → k ≠ 100 → k ≠ 102 → ceq h h' b := fun b k hb h1 h2 => hh b (fun z => h1 (by rw [← hb, z]; exact tz)) (fun z => h2 (by rw [← hb, z]; exact tb))
  refine ⟨cFix_fr C.fx (fun b _ => ⟨(hc b).1, (hc b).2.1⟩) (fun b _ _ _ => (hc b).2.2), fun b hb => ?_, ?_, fun e' f' he' hf' => ?_, fun t v' => ?_, ?_, ?_, cRw_fr C.rw F (by decide)⟩
  · rw [hn] at hb
    rw [(hc b).1]
    exact C.nx b hb
  · rw [(tg x 1 C.fx.1 (by decide) (by decide)).2.2.1, F 0 (by decide)]; exact C.2.2.1
  · by_cases q : e' = e ∧ f' = f
    · obtain ⟨q1, q2⟩ := q
      subst q1
      subst q2
      exact hs
    · have ne : 6 * e' + f' ≠ 6 * e + f := by omega
      have c := C.fl he' hf'
      have b1 : ∀ j, ix_i h' (cBr x e' f') j = ix_i h (cBr x e' f') j := by
        refine (hh _ ?_ ?_).2.2.1
        · unfold cBr cSz; omega
        · unfold cBr; omega
      have z1 : ix_i h' (cSz x e') f' = ix_i h (cSz x e') f' := by
        by_cases w : e' = e
        · subst w; exact hz f' (by omega)
        · exact (hh _ (by unfold cSz; omega) (by unfold cSz cBr; omega)).2.2.1 f'
      obtain ⟨a1, a2, a3⟩ := c
      have s4 := (F4 _ ne).1
      have s5 := (F4 _ ne).2
      refine ⟨by rw [z1, s4, s5]; exact a1, fun i hi => by rw [b1]; exact a2 i hi, fun q i hi => ?_⟩
      rw [s4] at q
      rw [s5] at hi
      have hb := ((I.2.1 (6 * e' + f') (by omega)).2).c (by decide)
      rw [b1, F6 _ (by omega)]
      exact a3 q i hi
  · have v : vT S t := (vT_c F (by decide)).mp v'
    obtain ⟨c1, c2, c3⟩ := C.tx v
    have hb := (I.T v).2.1.c (by decide)
    have t6 := v.1
    refine ⟨cTr_fr c1 (hi30 _ c1.1) (fun k h1 h2 => by rw [F k (by simp only [List.mem_cons, List.not_mem_nil, or_false, not_or]; omega)]) (by rw [F 23 (by decide)]), cSn_fr c2 (hi30 _ c2.1) (by rw [F 0 (by decide)]) (fun k h1 h2 => by rw [F k (by simp only [List.mem_cons, List.not_mem_nil, or_false, not_or]; omega)]) (fun o => ?_), fun q => ?_⟩
    · unfold fN
      rw [fI_c F (by decide), (F4 _ (hno t v o)).2]
    · rw [F 23 (by decide)] at q
      have c := c3 q
      exact cRv_fr c (hi30 _ c.1) (hi30 _ (by have := c.1; omega)) (by rw [F 0 (by decide)]) (fun k h1 h2 => by rw [F k (by simp only [List.mem_cons, List.not_mem_nil, or_false, not_or]; omega)]) (fun _ k h1 h2 => by rw [F k (by simp only [List.mem_cons, List.not_mem_nil, or_false, not_or]; omega)]) (fun _ i _ => ⟨by rw [F 38 (by decide)], by rw [F 39 (by decide)]⟩)
  · obtain ⟨u1, u2, u3⟩ := C.us
    have eg : gU S' = gU S := by unfold gU; rw [F 44 (by decide)]
    have lk := tg _ _ C.fx.2.2.2.2.2.1 (by decide) (by decide)
    have ro := tg _ _ C.fx.2.2.2.2.2.2.2.1 (by decide) (by decide)
    refine ⟨by rw [lk.2.2.1, F 44 (by decide)]; exact u1, fun j hj => ?_, by rw [eg]; exact u3⟩
    rw [eg] at hj
    obtain ⟨w1, w2⟩ := u2 j hj
    exact ⟨by rw [ro.2.2.2]; exact w1, cUn_fr w2 (hi30 _ w2.1) (fun i _ => by rw [F 45 (by decide)]) (I.g3 hj)⟩
  · refine cLL_fr C (fun e' i he' hi' => tg _ _ ((C.fx.2.2.2.2.2.2.2.2.2 e' he').2.2.2.1 i hi').2 (by decide) (by decide)) (fun i hi' => ?_) (F 7 (by decide))
    rcases C.Dt hi' with w | w
    · exact tg _ _ w (by decide) (by decide)
    · exact tg _ _ w (by decide) (by decide)
/-- the answer of a request -/
theorem cRel_24 {t : Nat} {v : Int32} (I : mInv S) (C : cRel h x S T A R U D Lo Lr) (hv : vT S t) (ho : opR S t) : cRel (ix_si h (R t) 13 v) x (mset S 24 t v) T A R U D Lo Lr := by
  have e : ∀ k, k ≠ 24 → mset S 24 t v k = S k := fun k hk => mset_kk hk
  have c := C.rv hv ho
  have i : ∀ k, k ≠ 13 → ix_i (ix_si h (R t) 13 v) (R t) k = ix_i h (R t) k := fun k hk => by rw [ix_i_si, if_neg (fun z => hk z.2)]
  have ib : ∀ k, ix_i (ix_si h (R t) 13 v) (R t + 1) k = ix_i h (R t + 1) k := fun k => by rw [ix_i_si, if_neg (by omega)]
  have es : sP (mset S 24 t v) t = sP S t := by unfold sP; rw [e 25 (by decide)]
  have eo : opR (mset S 24 t v) t ↔ opR S t := by unfold opR; rw [e 23 (by decide)]
  obtain ⟨a1, a2, a3, a4, a5, a6, a7, a8, a9, a10, a11, a12, a13, a14, a15⟩ := c
  refine cRel_rc I C hv ho (fun b h1 _ => (sw.rfl.si (v := v) (k := 13)).1 b h1) rfl ⟨a8, a2⟩ (fun k hk => e k (fun z => hk (by rw [z]; decide))) (fun j hj => ⟨by rw [e 23 (by decide)], mset_j rfl hj⟩) (fun k _ _ j _ => by rw [e k (by omega)]) (fun k hk j _ => by rw [e k (by omega)]) ?_ (by rw [e 23 (by decide)]; exact opR_ne ho) (cRw_fr C.rw (L := [24]) mset_L (by decide))
  refine ⟨a1, a2, a3, a4, a5, by rw [i 3 (by decide), e 0 (by decide)]; exact a6, a7, a8, a9, fun k hk => by rw [ib]; exact a10 k hk, by rw [ix_i_si, if_pos ⟨rfl, rfl⟩, mset_s], fun z => absurd (eo.mpr ho) z, fun z => by rw [i 12 (by decide)]; exact a13 ho, fun z => ?_, fun z => ?_⟩
  · rw [e 23 (by decide)] at z
    rw [es, i 11 (by decide), i 9 (by decide), i 10 (by decide), e 26 (by decide), e 30 (by decide), e 29 (by decide)]
    exact a14 z
  · rw [e 23 (by decide)] at z
    rw [es]
    obtain ⟨o1, o2, o3, o4, o5, o6, o7, o8⟩ := a15 z
    refine ⟨(i 11 (by decide)).trans o1, by rw [i 5 (by decide), e 36 (by decide)]; exact o2, fun q hq => by rw [i 6 (by decide), e 39 (by decide)]; exact o3 q hq, by rw [i 7 (by decide), e 37 (by decide), e 27 (by decide)]; exact o4, fun q => by rw [e 37 (by decide)] at q; rw [i 8 (by decide), e 28 (by decide)]; exact o5 q, by rw [i 9 (by decide), e 37 (by decide), e 31 (by decide), e 30 (by decide)]; exact o6, by rw [i 10 (by decide), e 29 (by decide)]; exact o7, fun k hk => ?_⟩
    rw [ib, o8 k hk]
    exact (mB_o (fun j => by rw [e 38 (by decide)]) (fun j => by rw [e 39 (by decide)])).symm
end CRd
