/-! ===== a receiver opens ===== -/
section CRi
variable {h h' : ix_H} {x : Nat} {S : MS} {T A R U D : Nat → Nat} {Lo Lr : Nat → List Nat} {e t p cr D2 : Nat}
theorem R_open {v : Int32} (I : mInv S) (C : cRel h x S T A R U D Lo Lr) (hv : vT S t) (he : e = 1 - t / 320) (h0 : S 23 t = 0) (h24 : S 24 t = 0) (hcr : S 43 e = nI cr) (hcr3 : cr < 3) (hp1 : 3 * e ≤ p) (hp2 : p < 3 * e + 3) (h35 : S 35 p = 0)
    (hh : ∀ b, b < ix_nx h → b ≠ cLs x e 2 → b ≠ D2 → b ≠ T t → ceq h h' b) (hz : cNx h') (hnx : ix_nx h < ix_nx h') (tl : ix_tg h' (cLs x e 2) = 10 ∧ ix_ln h' (cLs x e 2) = ix_ln h (cLs x e 2)) (tT : ix_tg h' (T t) = 7 ∧ (∀ j, ix_i h' (T t) j = ix_i h (T t) j) ∧ ix_r h' (T t) 7 = some (ix_nx h))
    (q2 : D2 = D (3 * e + 2) ∨ ix_nx h + 2 ≤ D2) (t2 : ix_tg h D2 ≠ 207) (l2 : cLi h' (cLs x e 2) D2 ((Lr e).map R ++ [ix_nx h]))
    (n3 : ix_tg h' (ix_nx h) = 3 ∧ ix_r h' (ix_nx h) 0 = some (T t) ∧ ix_r h' (ix_nx h) 1 = some (cS0 x e) ∧ ix_r h' (ix_nx h) 2 = some (cLk x) ∧ ix_i h' (ix_nx h) 3 = S 0 0 ∧ ix_r h' (ix_nx h) 4 = some (ix_nx h + 1) ∧ ix_i h' (ix_nx h) 7 = -1 ∧ ix_i h' (ix_nx h) 9 = v ∧ ∀ k, k ∈ [5, 6, 8, 10, 11, 12, 13] → ix_i h' (ix_nx h) k = 0)
    (nB : ix_tg h' (ix_nx h + 1) = 102 ∧ ix_ln h' (ix_nx h + 1) = 64 ∧ ∀ j, ix_i h' (ix_nx h + 1) j = 0) :
    cRel h' x (mset (mOpen S e t p cr) 31 p v) T A (fun k => if k = t then ix_nx h else R k) U (fun i => if i = 3 * e + 2 then D2 else D i) Lo (fun k => if k = e then Lr e ++ [t] else Lr k) := by
  have L0 := mOpen_L (S := S) (e := e) (t := t) (p := p) (cr := cr)
  obtain ⟨r23, r25, r35, r36, r37, r29, r39, r41, r43⟩ := mOpen_r (S := S) (e := e) (t := t) (p := p) (cr := cr)
  have hL : ∀ k, k ∉ [23, 25, 29, 31, 35, 36, 37, 39, 41, 43] → mset (mOpen S e t p cr) 31 p v k = S k := fun k hk => by
    rw [mset_kk (fun z => hk (by rw [z]; decide)), L0 k (fun z => hk (by revert z; simp only [List.mem_cons, List.not_mem_nil, or_false]; omega))]
  have g : ∀ k, k ≠ 31 → mset (mOpen S e t p cr) 31 p v k = mOpen S e t p cr k := fun k hk => mset_kk hk
  rw [← g 23 (by decide)] at r23
  rw [← g 25 (by decide)] at r25
  rw [← g 35 (by decide)] at r35
  rw [← g 36 (by decide)] at r36
  rw [← g 37 (by decide)] at r37
  rw [← g 29 (by decide)] at r29
  rw [← g 39 (by decide)] at r39
  rw [← g 41 (by decide)] at r41
  rw [← g 43 (by decide)] at r43
  have r31 : ∀ l, mset (mOpen S e t p cr) 31 p v 31 l = if l = p then v else S 31 l := fun l => by rw [mset_if rfl, L0 31 (by decide)]
  generalize mset (mOpen S e t p cr) 31 p v = S' at *
  clear g L0
  have x30 := C.x30
  have h640 := hv.1
  have e2 : e < 2 := by omega
  have hvt : ∀ t', vT S' t' ↔ vT S t' := fun t' => vT_c hL (by decide)
  have Dt := fun i (hi : i < 6) => C.Dt hi
  have ct := (C.tx hv).1
  have Tlt := C.lt (b := T t) (by rw [ct.2.1]; decide)
  have D2t : D2 < ix_nx h → ix_tg h D2 = 107 := fun _ => by
    rcases q2 with q | q
    · rcases Dt (3 * e + 2) (by omega) with w | w
      · rw [q]; exact w
      · exact absurd (by rw [q]; exact w) t2
    · omega
  have D2x : x + 30 ≤ D2 := by
    rcases q2 with q | q
    · have := C.ll.2.2 (3 * e + 2) (by omega) (by
        rcases Dt (3 * e + 2) (by omega) with w | w
        · exact w
        · exact absurd (by rw [q]; exact w) t2)
      omega
    · omega
  have lo : ∀ b, b < x + 30 → b ≠ cLs x e 2 → ceq h h' b := fun b hb h1 => hh b (by omega) h1 (by omega) (by have := ct.1; omega)
  have tg : ∀ b k, ix_tg h b = k → k ≠ 0 → k ≠ 10 → k ≠ 107 → k ≠ 7 → ceq h h' b := fun b k hb h1 h2 h3 h4 => by
    have lt := C.lt (b := b) (by rw [hb]; exact h1)
    refine hh b lt (fun z => h2 ?_) (fun z => h3 ?_) (fun z => h4 ?_)
    · rw [← hb, z]; exact ((C.fx.2.2.2.2.2.2.2.2.2 e e2).2.2.2.1 2 (by omega)).2
    · rw [← hb, z]; exact D2t (by rw [← z]; exact lt)
    · rw [← hb, z]; exact ct.2.1
  have ls_o : ∀ e' i, e' < 2 → i < 3 → ¬ (e' = e ∧ i = 2) → ceq h h' (cLs x e' i) := fun e' i he' hi hne => by
    have lt := cLs_lt (x := x) he' hi
    refine lo _ (by omega) ?_
    unfold cLs; omega
  have hno : ¬ opR S t := by unfold opR; rw [h0]; decide
  refine ⟨?_, hz, ?_, fun e' f' he' hf' => ?_, fun t' v' => ?_, ?_, ?_, ?_⟩
  · refine cFix_fr C.fx (fun b hb => ?_) (fun b hb hr hl j => (lo b hb (hl e 2 e2 (by omega))).2.2.2 j)
    by_cases w0 : b = cLs x e 2
    · rw [w0]
      exact ⟨by rw [tl.1]; exact ((C.fx.2.2.2.2.2.2.2.2.2 e e2).2.2.2.1 2 (by omega)).2.symm, tl.2⟩
    · exact ⟨(lo b hb w0).1, (lo b hb w0).2.1⟩
  · rw [(tg x 1 C.fx.1 (by decide) (by decide) (by decide) (by decide)).2.2.1, hL 0 (by decide)]; exact C.2.2.1
  · have F1 := C.fx.2.2.2.2.2.2.2.2.2 e' he'
    exact cFl_fr (C.fl he' hf') (tg _ _ F1.2.2.2.2.2.2.2.2.2.1 (by decide) (by decide) (by decide) (by decide)).2.2.1 (tg _ _ (F1.2.2.2.2.2.2.2.2.2.2.2 f' hf').2.1 (by decide) (by decide) (by decide) (by decide)).2.2.1 (by rw [hL 4 (by decide)]) (by rw [hL 5 (by decide)]) (fun i _ => by rw [hL 6 (by decide)]) (I.2.1 _ (by omega)).2
  · rw [hvt] at v'
    obtain ⟨c1, c2, c3⟩ := C.tx v'
    have d2 := cSn_fr (S' := S') c2 (tg _ _ c2.2.1 (by decide) (by decide) (by decide) (by decide)) (by rw [hL 0 (by decide)]) (fun k h1 h2 => by rw [hL k (by simp only [List.mem_cons, List.not_mem_nil, or_false, not_or]; omega)]) (fun _ => fN_c hL (by decide))
    by_cases q : t' = t
    · subst q
      have z23 : S' 23 t' = nI 5 := by rw [r23, if_pos rfl]
      have es : sP S' t' = p := by unfold sP; rw [r25, if_pos rfl, nI_clamp (by omega)]
      obtain ⟨a1, a2, a3, a4, a5, a6, a7, a8, a9, a10⟩ := c1
      obtain ⟨b1, b2, b3, b4, b5, b6, b7, b8', b9⟩ := n3
      refine ⟨?_, d2, fun _ => ?_⟩
      · unfold cTr
        rw [tT.2.1, tT.2.1, tT.2.1, tT.2.1, tT.2.1, tT.2.1, tT.2.1, hL 8 (by decide), hL 9 (by decide), hL 10 (by decide), hL 11 (by decide), hL 12 (by decide), tT.2.2, if_neg (by rw [z23]; decide)]
        simp only [if_pos]
        exact ⟨a1, tT.1, a3, a4, a5, a6, a7, a8, a9, trivial⟩
      · simp only [if_pos]
        refine ⟨by omega, b1, b2, by rw [b3, he], b4, by rw [b5, hL 0 (by decide)], b6, nB.1, nB.2.1, fun i _ => ?_, ?_, fun z => absurd (Or.inl z23) z, fun _ => b9 12 (by decide), fun z => absurd (z23.symm.trans z) (by decide), fun _ => ?_⟩
        · rw [nB.2.2]; unfold b8; decide
        · rw [b9 13 (by decide), hL 24 (by decide), h24]
        · rw [es]
          refine ⟨b9 11 (by decide), by rw [b9 5 (by decide), r36, if_pos rfl]; rfl, fun q hq => ?_, by rw [b7, r37, if_pos rfl, if_pos (show nI 0 = 0 from rfl)], fun z => absurd (by rw [r37, if_pos rfl]; rfl) z, by rw [b8', r37, if_pos rfl, if_pos (show nI 0 = 0 from rfl), r31, if_pos rfl], by rw [b9 10 (by decide), r29, if_pos rfl]; rfl, fun i hi => ?_⟩
          · rw [b9 6 (by decide), r39]
            constructor
            · intro z; exact absurd z (rb_0 hq)
            · rintro ⟨z1, z2⟩
              rw [if_pos (by omega)] at z2
              exact absurd rfl z2
          · rw [nB.2.2]
            unfold mB
            have w : 16 * p ≤ 16 * p + i / 4 ∧ 16 * p + i / 4 < 16 * p + 16 := by omega
            rw [r39, if_pos w, if_pos (nI_pos' (by omega))]
            decide
    · have z23 : S' 23 t' = S 23 t' := by rw [r23, if_neg q]
      refine ⟨?_, d2, fun z => ?_⟩
      · have ce : ceq h h' (T t') := by
          refine hh _ (C.lt (by rw [c1.2.1]; decide)) ?_ ?_ (fun z => q (C.Ti v' hv z))
          · have := cLs_lt (x := x) e2 (show 2 < 3 by omega); have := c1.1; omega
          · intro z
            have := D2t (by rw [← z]; exact C.lt (by rw [c1.2.1]; decide))
            rw [← z, c1.2.1] at this
            exact absurd this (by decide)
        have d1 := cTr_fr (S' := S') c1 ce (fun k h1 h2 => by rw [hL k (by simp only [List.mem_cons, List.not_mem_nil, or_false, not_or]; omega)]) (by rw [z23])
        unfold cTr at d1 ⊢
        simp only [if_neg q]
        exact d1
      · rw [z23] at z
        have c := c3 z
        simp only [if_neg q]
        have np : opR S t' → sP S t' ≠ p := fun o y => ((I.R v').2.2 o).2.2.2.1 (by rw [y]; exact h35)
        refine cRv_fr c (tg _ _ c.2.1 (by decide) (by decide) (by decide) (by decide)) (tg _ _ c.2.2.2.2.2.2.2.1 (by decide) (by decide) (by decide) (by decide)) (by rw [hL 0 (by decide)]) (fun k h1 h2 => ?_) (fun o k h1 h2 => ?_) (fun o i hi => ?_)
        · have : k = 23 ∨ k = 24 ∨ k = 25 := by omega
          rcases this with w | w | w <;> subst w
          · exact z23
          · rw [hL 24 (by decide)]
          · rw [r25, if_neg q]
        · have n := np o
          by_cases w : k ∈ [29, 31, 35, 36, 37]
          · simp only [List.mem_cons, List.not_mem_nil, or_false] at w
            rcases w with w | w | w | w | w <;> subst w
            · rw [r29, if_neg n]
            · rw [r31, if_neg n]
            · rw [r35, if_neg n]
            · rw [r36, if_neg n]
            · rw [r37, if_neg n]
          · rw [hL k (by simp only [List.mem_cons, List.not_mem_nil, or_false, not_or] at w ⊢; omega)]
        · have n := np o
          exact ⟨by rw [hL 38 (by decide)], by rw [r39, if_neg (by omega)]⟩
  · obtain ⟨u1, u2, u3⟩ := C.us
    have eg : gU S' = gU S := by unfold gU; rw [hL 44 (by decide)]
    refine ⟨by rw [(tg _ _ C.fx.2.2.2.2.2.1 (by decide) (by decide) (by decide) (by decide)).2.2.1, hL 44 (by decide)]; exact u1, fun j hj => ?_, by rw [eg]; exact u3⟩
    rw [eg] at hj
    obtain ⟨w1, w2⟩ := u2 j hj
    exact ⟨by rw [(tg _ _ C.fx.2.2.2.2.2.2.2.1 (by decide) (by decide) (by decide) (by decide)).2.2.2]; exact w1, cUn_fr w2 (tg _ _ w2.2.1 (by decide) (by decide) (by decide) (by decide)) (fun i _ => by rw [hL 45 (by decide)]) (I.g3 hj)⟩
  · have Do : ∀ i, i < 6 → i ≠ 3 * e + 2 → ceq h h' (D i) := fun i hi hne => by
      rcases Dt i hi with w | w
      · have xx := C.ll.2.2 _ hi w
        refine hh _ (C.lt (by rw [w]; decide)) ?_ ?_ ?_
        · have := cLs_lt (x := x) e2 (show 2 < 3 by omega); omega
        · intro z
          rcases q2 with q | q
          · exact hne (C.ll.2.1 i hi (3 * e + 2) (by omega) (z.trans q) w)
          · have := C.lt (b := D i) (by rw [w]; decide); omega
        · intro z
          rw [z, ct.2.1] at w
          exact absurd w (by decide)
      · exact tg _ _ w (by decide) (by decide) (by decide) (by decide)
    refine ⟨fun e' he' => ?_, fun i hi k hk q ht => ?_, fun i hi ht => ?_⟩
    · obtain ⟨m1, m2, m3⟩ := C.ll.1 e' he'
      have n1 : nN S' e' = nN S e' := by unfold nN; rw [hL 7 (by decide)]
      rw [n1]
      refine ⟨?_, ?_, ?_⟩
      · simp only [if_neg (show ¬ 3 * e' = 3 * e + 2 by omega)]
        exact cLi_fr m1 (ls_o e' 0 he' (by omega) (by omega)) (Do _ (by omega) (by omega))
      · simp only [if_neg (show ¬ 3 * e' + 1 = 3 * e + 2 by omega)]
        exact cLi_fr m2 (ls_o e' 1 he' (by omega) (by omega)) (Do _ (by omega) (by omega))
      · have Rol : ∀ z ∈ Lr e', (if z = t then ix_nx h else R z) = R z := fun z hz => if_neg (fun y => ((C.rw e' he').2.1 z hz).2.2 (by rw [y]; exact h0))
        by_cases ee : e' = e
        · subst ee
          simp only [if_pos, List.map_append, List.map_cons, List.map_nil]
          refine Eq.mp ?_ l2
          congr 2
          exact (List.map_congr_left Rol).symm
        · simp only [if_neg ee, if_neg (show ¬ 3 * e' + 2 = 3 * e + 2 by omega)]
          have c := cLi_fr m3 (ls_o e' 2 he' (by omega) (by omega)) (Do _ (by omega) (by omega))
          refine Eq.mp ?_ c
          congr 1
          exact (List.map_congr_left Rol).symm
    · have hD : ∀ j, j < 6 → j ≠ 3 * e + 2 → ix_tg h' (D j) = 107 → ix_tg h (D j) = 107 ∧ D j ≠ D2 := fun j hj j1 tj => by
        have ce := Do j hj j1
        rw [ce.1] at tj
        refine ⟨tj, fun z => ?_⟩
        rcases q2 with q | q
        · exact j1 (C.ll.2.1 j hj (3 * e + 2) (by omega) (z.trans q) tj)
        · have := C.lt (b := D j) (by rw [tj]; decide); omega
      by_cases i0 : i = 3 * e + 2
      · by_cases k0 : k = 3 * e + 2
        · omega
        · simp only [if_pos i0, if_neg k0] at q ht
          exact absurd q.symm (hD k hk k0 (by rw [← q]; exact ht)).2
      · by_cases k0 : k = 3 * e + 2
        · simp only [if_neg i0, if_pos k0] at q ht
          exact absurd q (hD i hi i0 ht).2
        · simp only [if_neg i0, if_neg k0] at q ht
          exact C.ll.2.1 i hi k hk q (hD i hi i0 ht).1
    · by_cases i0 : i = 3 * e + 2
      · simp only [if_pos i0]; exact D2x
      · simp only [if_neg i0] at ht ⊢
        rw [(Do i hi i0).1] at ht
        exact C.ll.2.2 i hi ht
  · intro e' he'
    obtain ⟨w1, w2, w3, w4, w5, w6⟩ := C.rw e' he'
    have nin : ∀ e'', e'' < 2 → t ∉ Lr e'' := fun e'' he'' z => ((C.rw e'' he'').2.1 _ z).2.2 h0
    refine ⟨fun t' ht' => ⟨(hvt t').mpr (w1 t' ht').1, (w1 t' ht').2⟩, fun t' ht' => ?_, w3, ?_, ?_, ?_⟩
    · have old : t' ∈ Lr e' → vT S' t' ∧ 1 - t' / 320 = e' ∧ ¬ S' 23 t' = 0 := fun z => ⟨(hvt t').mpr (w2 t' z).1, (w2 t' z).2.1, by rw [r23, if_neg (fun y => nin e' he' (by rw [← y]; exact z))]; exact (w2 t' z).2.2⟩
      by_cases ee : e' = e
      · simp only [if_pos ee] at ht'
        rw [ee] at old
        rcases List.mem_append.mp ht' with z | z
        · rw [ee]; exact old z
        · rw [List.mem_singleton] at z
          subst z
          exact ⟨(hvt _).mpr hv, by omega, by rw [r23, if_pos rfl]; decide⟩
      · simp only [if_neg ee] at ht'
        exact old ht'
    · by_cases ee : e' = e
      · simp only [if_pos ee]
        rw [ee] at w4
        rw [List.nodup_append]
        refine ⟨w4, List.nodup_cons.mpr ⟨List.not_mem_nil, List.nodup_nil⟩, fun a ha b hb z => ?_⟩
        rw [List.mem_singleton] at hb
        subst hb
        subst z
        exact nin e e2 ha
      · simp only [if_neg ee]; exact w4
    · unfold rowL cP at w5 ⊢
      rw [hL 40 (by decide), hL 42 (by decide), hL 13 (by decide)]
      exact w5
    · have keep : ∀ z ∈ Lr e', decide (S' 23 z = nI 5 ∨ S' 23 z = nI 6) = decide (S 23 z = nI 5 ∨ S 23 z = nI 6) := fun z hz => by
        rw [r23, if_neg (fun y => nin e' he' (by rw [← y]; exact hz))]
      by_cases ee : e' = e
      · subst ee
        simp only [if_pos]
        rw [List.filter_append, List.filter_congr keep, ← w6]
        have c0 : cP 43 S e' = cr := by unfold cP; rw [hcr, nI_clamp (by omega)]
        have c1 : cP 43 S' e' = cr + 1 := by unfold cP; rw [r43, if_pos rfl, nI_clamp (by omega)]
        unfold rowL
        rw [c0, c1, List.range_succ, List.map_append]
        congr 1
        · refine List.map_congr_left (fun k hk => ?_)
          rw [List.mem_range] at hk
          rw [r41, if_neg (by omega)]
        · simp only [List.map_cons, List.map_nil, r41, if_pos, List.filter_cons, List.filter_nil, r23, true_or, decide_true]
          rw [nI_clamp (by omega)]
      · simp only [if_neg ee]
        rw [List.filter_congr keep, ← w6]
        have hcP : cP 43 S e' ≤ 3 := by obtain ⟨c', h1, h2, -⟩ := I.M e' he'; unfold cP; rw [h2, nI_clamp (by omega)]; exact h1
        exact rowL_o hcP (fun k hk => by rw [r41, if_neg (by omega)]) (by rw [r43, if_neg ee])
end CRi
