/-! ===== put: a new transaction ===== -/
section CRf
variable {h h' : ix_H} {x : Nat} {S S' : MS} {T A R U D : Nat → Nat} {Lo Lr : Nat → List Nat}
theorem mPut_r {S : MS} {e f d y x g cn cs : Nat} : (∀ k, k ∉ [3, 7, 8, 9, 10, 11, 12, 13, 40, 42] → mPut S e f d y x g cn cs k = S k) ∧ (∀ l, mPut S e f d y x g cn cs 7 l = if l = e then nI (cn + 1) else S 7 l) ∧ (∀ l, mPut S e f d y x g cn cs 8 l = if l = 320 * e + (cn + 1) then nI y else S 8 l) ∧ (∀ l, mPut S e f d y x g cn cs 9 l = if l = 320 * e + (cn + 1) then nI f else S 9 l) ∧ (∀ l, mPut S e f d y x g cn cs 10 l = if l = 320 * e + (cn + 1) then nI d else S 10 l) ∧ (∀ l, mPut S e f d y x g cn cs 11 l = if l = 320 * e + (cn + 1) then nI x else S 11 l) ∧ (∀ l, mPut S e f d y x g cn cs 12 l = if l = 320 * e + (cn + 1) then nI g else S 12 l) ∧ (∀ l, mPut S e f d y x g cn cs 13 l = if l = 320 * e + (cn + 1) then nI 5 else S 13 l) ∧ (∀ l, mPut S e f d y x g cn cs 40 l = if l = 3 * e + cs then nI (320 * e + (cn + 1)) else S 40 l) ∧ ∀ l, mPut S e f d y x g cn cs 42 l = if l = e then nI (cs + 1) else S 42 l := by
  refine ⟨fun k h => funext fun j => ?_, fun l => ?_, fun l => ?_, fun l => ?_, fun l => ?_, fun l => ?_, fun l => ?_, fun l => ?_, fun l => ?_, fun l => ?_⟩
  · simp only [List.mem_cons, List.not_mem_nil, or_false, not_or] at h
    obtain ⟨a1, a2, a3, a4, a5, a6, a7, a8, a9, a10⟩ := h
    unfold mPut m0
    rw [mset_k a10, mset_k a9, mset_k a8, mset_k a7, mset_k a6, mset_k a5, mset_k a4, mset_k a3, mset_k a2, mset_k a1]
  · unfold mPut m0
    rw [mset_k (by decide), mset_k (by decide), mset_k (by decide), mset_k (by decide), mset_k (by decide), mset_k (by decide), mset_k (by decide), mset_k (by decide), mset_if rfl, mset_k (by decide)]
  · unfold mPut m0
    rw [mset_k (by decide), mset_k (by decide), mset_k (by decide), mset_k (by decide), mset_k (by decide), mset_k (by decide), mset_k (by decide), mset_if rfl, mset_k (by decide), mset_k (by decide)]
  · unfold mPut m0
    rw [mset_k (by decide), mset_k (by decide), mset_k (by decide), mset_k (by decide), mset_k (by decide), mset_k (by decide), mset_if rfl, mset_k (by decide), mset_k (by decide), mset_k (by decide)]
  · unfold mPut m0
    rw [mset_k (by decide), mset_k (by decide), mset_k (by decide), mset_k (by decide), mset_k (by decide), mset_if rfl, mset_k (by decide), mset_k (by decide), mset_k (by decide), mset_k (by decide)]
  · unfold mPut m0
    rw [mset_k (by decide), mset_k (by decide), mset_k (by decide), mset_k (by decide), mset_if rfl, mset_k (by decide), mset_k (by decide), mset_k (by decide), mset_k (by decide), mset_k (by decide)]
  · unfold mPut m0
    rw [mset_k (by decide), mset_k (by decide), mset_k (by decide), mset_if rfl, mset_k (by decide), mset_k (by decide), mset_k (by decide), mset_k (by decide), mset_k (by decide), mset_k (by decide)]
  · unfold mPut m0
    rw [mset_k (by decide), mset_k (by decide), mset_if rfl, mset_k (by decide), mset_k (by decide), mset_k (by decide), mset_k (by decide), mset_k (by decide), mset_k (by decide), mset_k (by decide)]
  · unfold mPut m0
    rw [mset_k (by decide), mset_if rfl, mset_k (by decide), mset_k (by decide), mset_k (by decide), mset_k (by decide), mset_k (by decide), mset_k (by decide), mset_k (by decide), mset_k (by decide)]
  · unfold mPut m0
    rw [mset_if rfl, mset_k (by decide), mset_k (by decide), mset_k (by decide), mset_k (by decide), mset_k (by decide), mset_k (by decide), mset_k (by decide), mset_k (by decide), mset_k (by decide)]
/-- two lists' arrays are others, or the empty one -/
theorem P_put {e f d y w g cn cs D0 D1 : Nat} (I : mInv S) (C : cRel h x S T A R U D Lo Lr) (he : e < 2) (hf : f < 6) (hd : d < 6) (hg : g < 6) (hy1 : 1 ≤ y) (hy2 : y ≤ 2) (hw : w ≤ 2) (hth : ¬ S 4 (6 * e + f) = 0) (hcn : S 7 e = nI cn) (hcn9 : cn < 319) (hcs : S 42 e = nI cs) (hcs3 : cs < 3)
    (hh : ∀ b, b < ix_nx h → b ≠ cLs x e 0 → b ≠ cLs x e 1 → b ≠ D0 → b ≠ D1 → ceq h h' b) (hz : cNx h') (hnx : ix_nx h < ix_nx h') (tl : ∀ i, i < 2 → ix_tg h' (cLs x e i) = 10 ∧ ix_ln h' (cLs x e i) = ix_ln h (cLs x e i))
    (q0 : D0 = D (3 * e) ∨ ix_nx h + 2 ≤ D0) (q1 : D1 = D (3 * e + 1) ∨ ix_nx h + 2 ≤ D1) (q01 : D0 ≠ D1) (t0 : ix_tg h D0 ≠ 207) (t1 : ix_tg h D1 ≠ 207)
    (l0 : cLi h' (cLs x e 0) D0 ((List.range cn).map (fun i => A (320 * e + (i + 1))) ++ [ix_nx h + 1])) (l1 : cLi h' (cLs x e 1) D1 ((Lo e).map A ++ [ix_nx h + 1]))
    (n7 : ix_tg h' (ix_nx h) = 7 ∧ ix_i h' (ix_nx h) 0 = nI e ∧ ix_i h' (ix_nx h) 1 = nI (cn + 1) ∧ ix_i h' (ix_nx h) 2 = nI f ∧ ix_i h' (ix_nx h) 3 = nI d ∧ ix_i h' (ix_nx h) 4 = nI y ∧ ix_i h' (ix_nx h) 5 = nI w ∧ ix_i h' (ix_nx h) 6 = nI g ∧ ix_r h' (ix_nx h) 7 = none)
    (n4 : ix_tg h' (ix_nx h + 1) = 4 ∧ ix_r h' (ix_nx h + 1) 0 = some (ix_nx h) ∧ ix_r h' (ix_nx h + 1) 1 = some (cSt x e) ∧ ix_r h' (ix_nx h + 1) 2 = some (cLk x) ∧ ix_i h' (ix_nx h + 1) 3 = S 0 0 ∧ ix_i h' (ix_nx h + 1) 4 = nI (((S 5 (6 * e + f)).toNatClampNeg + 3) / 4) ∧ ix_i h' (ix_nx h + 1) 5 = -1 ∧ ∀ k, 6 ≤ k → k ≤ 15 → ix_i h' (ix_nx h + 1) k = 0) :
    cRel h' x (mPut S e f d y w g cn cs) (fun k => if k = 320 * e + (cn + 1) then ix_nx h else T k) (fun k => if k = 320 * e + (cn + 1) then ix_nx h + 1 else A k) R U (fun i => if i = 3 * e then D0 else if i = 3 * e + 1 then D1 else D i) (fun k => if k = e then Lo e ++ [320 * e + (cn + 1)] else Lo k) Lr := by
  obtain ⟨hL, r7, r8, r9, r10, r11, r12, r13, r40, r42⟩ := mPut_r (S := S) (e := e) (f := f) (d := d) (y := y) (x := w) (g := g) (cn := cn) (cs := cs)
  generalize mPut S e f d y w g cn cs = S' at *
  have x30 := C.x30
  have nv : ¬ vT S (320 * e + (cn + 1)) := fun z => by
    have := z.2.2
    unfold nN at this
    rw [show (320 * e + (cn + 1)) / 320 = e from by omega, hcn, nI_clamp (by omega)] at this
    omega
  have zz := I.2.2.2.1 (320 * e + (cn + 1)) (by omega) nv
  have n0 : nN S e = cn := by unfold nN; rw [hcn, nI_clamp (by omega)]
  have hvt : ∀ t', vT S' t' ↔ vT S t' ∨ t' = 320 * e + (cn + 1) := by
    intro t'
    unfold vT nN
    rw [r7]
    by_cases q : t' / 320 = e
    · rw [if_pos q, nI_clamp (by omega), q, hcn, nI_clamp (by omega)]
      omega
    · rw [if_neg q]
      constructor
      · exact Or.inl
      · rintro (w | w)
        · exact w
        · subst w; exact absurd (by omega) q
  -- cells that are not of the two lists
  have Dt := fun i (hi : i < 6) => C.Dt hi
  have D0t : D0 < ix_nx h → ix_tg h D0 = 107 := fun _ => by
    rcases q0 with q | q
    · rcases Dt (3 * e) (by omega) with w | w
      · rw [q]; exact w
      · exact absurd (by rw [q]; exact w) t0
    · omega
  have D1t : D1 < ix_nx h → ix_tg h D1 = 107 := fun _ => by
    rcases q1 with q | q
    · rcases Dt (3 * e + 1) (by omega) with w | w
      · rw [q]; exact w
      · exact absurd (by rw [q]; exact w) t1
    · omega
  have tg : ∀ b k, ix_tg h b = k → k ≠ 0 → k ≠ 10 → k ≠ 107 → ceq h h' b := fun b k hb h1 h2 h3 => by
    have lt := C.lt (b := b) (by rw [hb]; exact h1)
    refine hh b lt (fun z => h2 ?_) (fun z => h2 ?_) (fun z => h3 ?_) (fun z => h3 ?_)
    · rw [← hb, z]; exact ((C.fx.2.2.2.2.2.2.2.2.2 e he).2.2.2.1 0 (by omega)).2
    · rw [← hb, z]; exact ((C.fx.2.2.2.2.2.2.2.2.2 e he).2.2.2.1 1 (by omega)).2
    · rw [← hb, z]; exact D0t (by rw [← z]; exact lt)
    · rw [← hb, z]; exact D1t (by rw [← z]; exact lt)
  have D0x : x + 30 ≤ D0 := by
    rcases q0 with q | q
    · have := C.ll.2.2 (3 * e) (by omega) (by
        rcases Dt (3 * e) (by omega) with w | w
        · exact w
        · exact absurd (by rw [q]; exact w) t0)
      omega
    · omega
  have D1x : x + 30 ≤ D1 := by
    rcases q1 with q | q
    · have := C.ll.2.2 (3 * e + 1) (by omega) (by
        rcases Dt (3 * e + 1) (by omega) with w | w
        · exact w
        · exact absurd (by rw [q]; exact w) t1)
      omega
    · omega
  have lo : ∀ b, b < x + 30 → b ≠ cLs x e 0 → b ≠ cLs x e 1 → ceq h h' b := fun b hb h1 h2 => hh b (by omega) h1 h2 (by omega) (by omega)
  have ls_o : ∀ e' i, e' < 2 → i < 3 → ¬ (e' = e ∧ i < 2) → ceq h h' (cLs x e' i) := fun e' i he' hi hne => by
    have lt := cLs_lt (x := x) he' hi
    refine lo _ (by omega) ?_ ?_
    · unfold cLs; omega
    · unfold cLs; omega
  have Aol : ∀ t', vT S t' → (if t' = 320 * e + (cn + 1) then ix_nx h + 1 else A t') = A t' := fun t' v => if_neg (fun z => nv (by rw [← z]; exact v))
  refine ⟨?_, hz, ?_, fun e' f' he' hf' => ?_, fun t' v' => ?_, ?_, ?_, ?_⟩
  · refine cFix_fr C.fx (fun b hb => ?_) (fun b hb hr hl j => ?_)
    · by_cases w0 : b = cLs x e 0
      · rw [w0]
        exact ⟨by rw [(tl 0 (by omega)).1]; exact ((C.fx.2.2.2.2.2.2.2.2.2 e he).2.2.2.1 0 (by omega)).2.symm, (tl 0 (by omega)).2⟩
      · by_cases w1 : b = cLs x e 1
        · rw [w1]
          exact ⟨by rw [(tl 1 (by omega)).1]; exact ((C.fx.2.2.2.2.2.2.2.2.2 e he).2.2.2.1 1 (by omega)).2.symm, (tl 1 (by omega)).2⟩
        · exact ⟨(lo b hb w0 w1).1, (lo b hb w0 w1).2.1⟩
    · exact (lo b hb (hl e 0 he (by omega)) (hl e 1 he (by omega))).2.2.2 j
  · rw [(tg x 1 C.fx.1 (by decide) (by decide) (by decide)).2.2.1, hL 0 (by decide)]; exact C.2.2.1
  · have F1 := C.fx.2.2.2.2.2.2.2.2.2 e' he'
    exact cFl_fr (C.fl he' hf') (tg _ _ F1.2.2.2.2.2.2.2.2.2.1 (by decide) (by decide) (by decide)).2.2.1 (tg _ _ (F1.2.2.2.2.2.2.2.2.2.2.2 f' hf').2.1 (by decide) (by decide) (by decide)).2.2.1 (by rw [hL 4 (by decide)]) (by rw [hL 5 (by decide)]) (fun i _ => by rw [hL 6 (by decide)]) (I.2.1 _ (by omega)).2
  · rcases (hvt t').mp v' with v | q
    · have q : t' ≠ 320 * e + (cn + 1) := fun z => nv (by rw [← z]; exact v)
      obtain ⟨c1, c2, c3⟩ := C.tx v
      have eT : (if t' = 320 * e + (cn + 1) then ix_nx h else T t') = T t' := if_neg q
      have eA : (if t' = 320 * e + (cn + 1) then ix_nx h + 1 else A t') = A t' := if_neg q
      have k8 : ∀ k, 8 ≤ k → k ≤ 12 → S' k t' = S k t' := fun k h1 h2 => by
        have : k = 8 ∨ k = 9 ∨ k = 10 ∨ k = 11 ∨ k = 12 := by omega
        rcases this with w | w | w | w | w <;> subst w
        · rw [r8, if_neg q]
        · rw [r9, if_neg q]
        · rw [r10, if_neg q]
        · rw [r11, if_neg q]
        · rw [r12, if_neg q]
      have k13 : ∀ k, 13 ≤ k → k ≤ 22 → S' k t' = S k t' := fun k h1 h2 => by
        by_cases w : k = 13
        · subst w; rw [r13, if_neg q]
        · rw [hL k (by simp only [List.mem_cons, List.not_mem_nil, or_false, not_or]; omega)]
      have fe : fN S' t' = fN S t' := by unfold fN fI; rw [r9, if_neg q, hL 5 (by decide)]
      have d1 := cTr_fr (S' := S') c1 (tg _ _ c1.2.1 (by decide) (by decide) (by decide)) k8 (by rw [hL 23 (by decide)])
      have d2 := cSn_fr (S' := S') c2 (tg _ _ c2.2.1 (by decide) (by decide) (by decide)) (by rw [hL 0 (by decide)]) k13 (fun _ => fe)
      refine ⟨?_, ?_, fun z => ?_⟩
      · unfold cTr at d1 ⊢
        simp only [eT]
        exact d1
      · unfold cSn at d2 ⊢
        simp only [eT, eA]
        exact d2
      · rw [hL 23 (by decide)] at z
        have c := c3 z
        simp only [eT]
        exact cRv_fr c (tg _ _ c.2.1 (by decide) (by decide) (by decide)) (tg _ _ c.2.2.2.2.2.2.2.1 (by decide) (by decide) (by decide)) (by rw [hL 0 (by decide)]) (fun k h1 h2 => by rw [hL k (by simp only [List.mem_cons, List.not_mem_nil, or_false, not_or]; omega)]) (fun _ k h1 h2 => by rw [hL k (by simp only [List.mem_cons, List.not_mem_nil, or_false, not_or]; omega)]) (fun _ i _ => ⟨by rw [hL 38 (by decide)], by rw [hL 39 (by decide)]⟩)
    · subst q
      have t3 : (320 * e + (cn + 1)) / 320 = e := by omega
      have t4 : (320 * e + (cn + 1)) % 320 = cn + 1 := by omega
      have z23 : S' 23 (320 * e + (cn + 1)) = 0 := by rw [hL 23 (by decide)]; exact zz 23 (by decide) (by decide)
      obtain ⟨a1, a2, a3, a4, a5, a6, a7, a8, a9⟩ := n7
      obtain ⟨b1, b2, b3, b4, b5, b6, b7, b8⟩ := n4
      have eT : (if 320 * e + (cn + 1) = 320 * e + (cn + 1) then ix_nx h else T (320 * e + (cn + 1))) = ix_nx h := if_pos rfl
      have eA : (if 320 * e + (cn + 1) = 320 * e + (cn + 1) then ix_nx h + 1 else A (320 * e + (cn + 1))) = ix_nx h + 1 := if_pos rfl
      have fe : fN S' (320 * e + (cn + 1)) = (S 5 (6 * e + f)).toNatClampNeg := by
        unfold fN fI
        rw [r9, if_pos rfl, nI_clamp (by omega), hL 5 (by decide), t3]
      have zk : ∀ k, 14 ≤ k → k ≤ 22 → S' k (320 * e + (cn + 1)) = 0 := fun k h1 h2 => by
        rw [hL k (by simp only [List.mem_cons, List.not_mem_nil, or_false, not_or]; omega)]
        exact zz k (by omega) (by omega)
      refine ⟨?_, ?_, fun z => absurd z23 z⟩
      · unfold cTr
        simp only [eq_self_iff_true, if_true]
        rw [r8, r9, r10, r11, r12, if_pos rfl, if_pos rfl, if_pos rfl, if_pos rfl, if_pos rfl, if_pos z23, t3, t4]
        exact ⟨by omega, a1, a2, a3, a4, a5, a6, a7, a8, a9⟩
      · unfold cSn
        simp only [eq_self_iff_true, if_true]
        rw [t3, hL 0 (by decide)]
        refine ⟨by omega, b1, b2, b3, b4, b5, fun _ => ?_, fun z => absurd (by rw [r13, if_pos rfl]) z⟩
        unfold cSo
        rw [fe, zk 14 (by decide) (by decide), zk 15 (by decide) (by decide), zk 16 (by decide) (by decide), zk 17 (by decide) (by decide), zk 18 (by decide) (by decide), zk 19 (by decide) (by decide), zk 20 (by decide) (by decide), zk 21 (by decide) (by decide), zk 22 (by decide) (by decide)]
        refine ⟨b8 15 (by decide) (by decide), b6, ?_, b8 6 (by decide) (by decide), b8 7 (by decide) (by decide), b8 8 (by decide) (by decide), Or.inl ⟨b8 9 (by decide) (by decide), rb_0 (by decide)⟩, fun q hq => ?_, b8 11 (by decide) (by decide), b8 12 (by decide) (by decide), fun z => absurd rfl z, b8 14 (by decide) (by decide)⟩
        · rw [b7, if_pos rfl, if_pos rfl]; decide
        · rw [b8 10 (by decide) (by decide)]
          exact ⟨fun z => absurd z (rb_0 hq), fun z => absurd z.1 (rb_0 hq)⟩
  · obtain ⟨u1, u2, u3⟩ := C.us
    have eg : gU S' = gU S := by unfold gU; rw [hL 44 (by decide)]
    refine ⟨by rw [(tg _ _ C.fx.2.2.2.2.2.1 (by decide) (by decide) (by decide)).2.2.1, hL 44 (by decide)]; exact u1, fun j hj => ?_, by rw [eg]; exact u3⟩
    rw [eg] at hj
    obtain ⟨w1, w2⟩ := u2 j hj
    obtain ⟨tt, tt1, tt2, -⟩ := I.u I.gu.1 I.gu.2 hj
    have c := cUn_fr (S' := S') w2 (tg _ _ w2.2.1 (by decide) (by decide) (by decide)) (fun i _ => by rw [hL 45 (by decide)]) (I.g3 hj)
    refine ⟨by rw [(tg _ _ C.fx.2.2.2.2.2.2.2.1 (by decide) (by decide) (by decide)).2.2.2]; exact w1, ?_⟩
    unfold cUn at c ⊢
    have e1 : (if (S' 45 (11 * j + 2)).toNatClampNeg = 320 * e + (cn + 1) then ix_nx h else T (S' 45 (11 * j + 2)).toNatClampNeg) = T (S' 45 (11 * j + 2)).toNatClampNeg := by
      refine if_neg (fun z => nv ?_)
      rw [hL 45 (by decide), tt1, nI_clamp (by have := tt2.1; omega)] at z
      rw [← z]; exact tt2
    simp only [e1]
    exact c
  · refine ⟨fun e' he' => ?_, fun i hi k hk q ht => ?_, fun i hi ht => ?_⟩
    · by_cases ee : e' = e
      · subst ee
        have n1 : nN S' e' = cn + 1 := by unfold nN; rw [r7, if_pos rfl, nI_clamp (by omega)]
        obtain ⟨m1, m2, m3⟩ := C.ll.1 e' he'
        refine ⟨?_, ?_, ?_⟩
        · rw [n1, List.range_succ, List.map_append]
          simp only [if_pos, List.map_cons, List.map_nil]
          refine Eq.mp ?_ l0
          congr 2
          refine List.map_congr_left (fun i hi => ?_)
          rw [List.mem_range] at hi
          rw [if_neg (by omega)]
        · simp only [if_pos, List.map_append, List.map_cons, List.map_nil, if_neg (show ¬ 3 * e' + 1 = 3 * e' by omega)]
          refine Eq.mp ?_ l1
          congr 2
          refine List.map_congr_left (fun t' ht' => ?_)
          exact (Aol t' ((C.rw e' he').1 t' ht').1).symm
        · simp only [if_neg (show ¬ 3 * e' + 2 = 3 * e' by omega), if_neg (show ¬ 3 * e' + 2 = 3 * e' + 1 by omega)]
          refine cLi_fr m3 (ls_o e' 2 he' (by omega) (by omega)) ?_
          rcases Dt (3 * e' + 2) (by omega) with w | w
          · refine hh _ (C.lt (by rw [w]; decide)) ?_ ?_ ?_ ?_
            · have := C.ll.2.2 _ (show 3 * e' + 2 < 6 by omega) w; have := cLs_lt (x := x) he' (show 0 < 3 by omega); omega
            · have := C.ll.2.2 _ (show 3 * e' + 2 < 6 by omega) w; have := cLs_lt (x := x) he' (show 1 < 3 by omega); omega
            · intro z
              rcases q0 with q | q
              · have := C.ll.2.1 (3 * e' + 2) (by omega) (3 * e') (by omega) (z.trans q) w; omega
              · have := C.lt (b := D (3 * e' + 2)) (by rw [w]; decide); omega
            · intro z
              rcases q1 with q | q
              · have := C.ll.2.1 (3 * e' + 2) (by omega) (3 * e' + 1) (by omega) (z.trans q) w; omega
              · have := C.lt (b := D (3 * e' + 2)) (by rw [w]; decide); omega
          · exact tg _ _ w (by decide) (by decide) (by decide)
      · have n1 : nN S' e' = nN S e' := by unfold nN; rw [r7, if_neg ee]
        obtain ⟨m1, m2, m3⟩ := C.ll.1 e' he'
        have Do : ∀ j, j < 3 → ceq h h' (D (3 * e' + j)) := fun j hj => by
          rcases Dt (3 * e' + j) (by omega) with w | w
          · have xx := C.ll.2.2 _ (show 3 * e' + j < 6 by omega) w
            refine hh _ (C.lt (by rw [w]; decide)) ?_ ?_ ?_ ?_
            · have := cLs_lt (x := x) he (show 0 < 3 by omega); omega
            · have := cLs_lt (x := x) he (show 1 < 3 by omega); omega
            · intro z
              rcases q0 with q | q
              · have := C.ll.2.1 (3 * e' + j) (by omega) (3 * e) (by omega) (z.trans q) w; omega
              · have := C.lt (b := D (3 * e' + j)) (by rw [w]; decide); omega
            · intro z
              rcases q1 with q | q
              · have := C.ll.2.1 (3 * e' + j) (by omega) (3 * e + 1) (by omega) (z.trans q) w; omega
              · have := C.lt (b := D (3 * e' + j)) (by rw [w]; decide); omega
          · exact tg _ _ w (by decide) (by decide) (by decide)
        have lt0 := cLs_lt (x := x) he' (show 0 < 3 by omega)
        refine ⟨?_, ?_, ?_⟩
        · simp only [if_neg (show ¬ 3 * e' = 3 * e by omega), if_neg (show ¬ 3 * e' = 3 * e + 1 by omega), n1]
          have c := cLi_fr m1 (ls_o e' 0 he' (by omega) (by omega)) (Do 0 (by omega))
          refine Eq.mp ?_ c
          congr 1
          refine List.map_congr_left (fun i hi => ?_)
          rw [List.mem_range] at hi
          rw [if_neg (by have := (I.1.2 e' he').c (by decide); unfold nN at hi; omega)]
        · simp only [if_neg (show ¬ 3 * e' + 1 = 3 * e by omega), if_neg (show ¬ 3 * e' + 1 = 3 * e + 1 by omega), if_neg ee]
          have c := cLi_fr m2 (ls_o e' 1 he' (by omega) (by omega)) (Do 1 (by omega))
          refine Eq.mp ?_ c
          congr 1
          refine List.map_congr_left (fun t' ht' => ?_)
          exact (Aol t' ((C.rw e' he').1 t' ht').1).symm
        · simp only [if_neg (show ¬ 3 * e' + 2 = 3 * e by omega), if_neg (show ¬ 3 * e' + 2 = 3 * e + 1 by omega)]
          exact cLi_fr m3 (ls_o e' 2 he' (by omega) (by omega)) (Do 2 (by omega))
    · have hD : ∀ j, j < 6 → j ≠ 3 * e → j ≠ 3 * e + 1 → ix_tg h' (D j) = 107 → ix_tg h (D j) = 107 ∧ D j ≠ D0 ∧ D j ≠ D1 := fun j hj j1 j2 tj => by
        rcases Dt j hj with w | w
        · refine ⟨w, fun z => ?_, fun z => ?_⟩
          · rcases q0 with q | q
            · exact j1 (C.ll.2.1 j hj (3 * e) (by omega) (z.trans q) w)
            · have := C.lt (b := D j) (by rw [w]; decide); omega
          · rcases q1 with q | q
            · exact j2 (C.ll.2.1 j hj (3 * e + 1) (by omega) (z.trans q) w)
            · have := C.lt (b := D j) (by rw [w]; decide); omega
        · rw [(tg _ _ w (by decide) (by decide) (by decide)).1, w] at tj
          exact absurd tj (by decide)
      by_cases i0 : i = 3 * e
      · by_cases k0 : k = 3 * e
        · omega
        · by_cases k1 : k = 3 * e + 1
          · simp only [if_pos i0, if_neg k0, if_pos k1] at q
            exact absurd q q01
          · simp only [if_pos i0, if_neg k0, if_neg k1] at q ht
            exact absurd q.symm (hD k hk k0 k1 (by rw [← q]; exact ht)).2.1
      · by_cases i1 : i = 3 * e + 1
        · by_cases k0 : k = 3 * e
          · simp only [if_neg i0, if_pos i1, if_pos k0] at q
            exact absurd q.symm q01
          · by_cases k1 : k = 3 * e + 1
            · omega
            · simp only [if_neg i0, if_pos i1, if_neg k0, if_neg k1] at q ht
              exact absurd q.symm (hD k hk k0 k1 (by rw [← q]; exact ht)).2.2
        · by_cases k0 : k = 3 * e
          · simp only [if_neg i0, if_neg i1, if_pos k0] at q ht
            exact absurd q (hD i hi i0 i1 ht).2.1
          · by_cases k1 : k = 3 * e + 1
            · simp only [if_neg i0, if_neg i1, if_neg k0, if_pos k1] at q ht
              exact absurd q (hD i hi i0 i1 ht).2.2
            · simp only [if_neg i0, if_neg i1, if_neg k0, if_neg k1] at q ht
              exact C.ll.2.1 i hi k hk q (hD i hi i0 i1 ht).1
    · by_cases i0 : i = 3 * e
      · simp only [if_pos i0]; exact D0x
      · by_cases i1 : i = 3 * e + 1
        · simp only [if_neg i0, if_pos i1]; exact D1x
        · simp only [if_neg i0, if_neg i1] at ht ⊢
          rcases Dt i hi with w | w
          · exact C.ll.2.2 i hi w
          · rw [(tg _ _ w (by decide) (by decide) (by decide)).1, w] at ht
            exact absurd ht (by decide)
  · intro e' he'
    obtain ⟨w1, w2, w3, w4, w5, w6⟩ := C.rw e' he'
    have nin : ∀ e'', e'' < 2 → 320 * e + (cn + 1) ∉ Lo e'' := fun e'' he'' z => nv ((C.rw e'' he'').1 _ z).1
    refine ⟨fun t' ht' => ?_, fun t' ht' => ⟨(hvt t').mpr (Or.inl (w2 t' ht').1), (w2 t' ht').2.1, by rw [hL 23 (by decide)]; exact (w2 t' ht').2.2⟩, ?_, w4, ?_, ?_⟩
    · by_cases ee : e' = e
      · subst ee
        simp only [if_pos] at ht'
        rcases List.mem_append.mp ht' with z | z
        · exact ⟨(hvt t').mpr (Or.inl (w1 t' z).1), (w1 t' z).2⟩
        · rw [List.mem_singleton] at z
          subst z
          exact ⟨(hvt _).mpr (Or.inr rfl), by omega⟩
      · simp only [if_neg ee] at ht'
        exact ⟨(hvt t').mpr (Or.inl (w1 t' ht').1), (w1 t' ht').2⟩
    · by_cases ee : e' = e
      · subst ee
        simp only [if_pos]
        rw [List.nodup_append]
        refine ⟨w3, List.nodup_cons.mpr ⟨List.not_mem_nil, List.nodup_nil⟩, fun a ha b hb z => ?_⟩
        rw [List.mem_singleton] at hb
        subst hb
        subst z
        exact nin e' he' ha
      · simp only [if_neg ee]; exact w3
    · have keep : ∀ z ∈ Lo e', decide (S' 13 z = nI 5) = decide (S 13 z = nI 5) := fun z hz => by
        rw [r13, if_neg (fun y => nin e' he' (by rw [← y]; exact hz))]
      by_cases ee : e' = e
      · subst ee
        simp only [if_pos]
        rw [List.filter_append, List.filter_congr keep, ← w5]
        have c0 : cP 42 S e' = cs := by unfold cP; rw [hcs, nI_clamp (by omega)]
        have c1 : cP 42 S' e' = cs + 1 := by unfold cP; rw [r42, if_pos rfl, nI_clamp (by omega)]
        unfold rowL
        rw [c0, c1, List.range_succ, List.map_append]
        congr 1
        · refine List.map_congr_left (fun k hk => ?_)
          rw [List.mem_range] at hk
          rw [r40, if_neg (by omega)]
        · simp only [List.map_cons, List.map_nil, r40, if_pos, List.filter_cons, List.filter_nil, r13, decide_true]
          rw [nI_clamp (by omega)]
      · simp only [if_neg ee]
        rw [List.filter_congr keep, ← w5]
        have hcP : cP 42 S e' ≤ 3 := by obtain ⟨c', h1, h2, -⟩ := I.L e' he'; unfold cP; rw [h2, nI_clamp (by omega)]; exact h1
        exact rowL_o hcP (fun k hk => by rw [r40, if_neg (by omega)]) (by rw [r42, if_neg ee])
    · unfold rowL cP at w6 ⊢
      rw [hL 41 (by decide), hL 43 (by decide), hL 23 (by decide)]
      exact w6
end CRf
