/-! ===== deliver ===== -/
theorem o23_tor {S : MS} {e u t p d ot n cs k0 c s cr : Nat} : ∀ j, j ≠ t → mToR S e u t p d ot n cs k0 c s cr 23 j = S 23 j := by
  intro j hj
  unfold mToR
  split
  · split
    · exact (afr_shut (S := S) (S' := S) (t := t) (p := p) (k0 := k0) (c := c) (x := S 26 p) afr.rfl).2.1 j hj
    · rfl
  · split
    · split
      · rfl
      · rw [(o24_t1 (S := mOpen S e t p cr) j hj).1, mOpen_r.1, if_neg hj]
    · exact (o24_t1 j hj).1
theorem cK_r {S : MS} {t e : Nat} (ck : cK S t) (t6 : t < 640) (he : e = 1 - t / 320) (hto : S 46 1 = nI e) : ((S 46 0 = nI 1 ∨ S 46 0 = nI 2 ∨ S 46 0 = nI 3) ∧ S 46 6 = S 8 t) ∨ S 46 0 = nI 5 := by
  have nz : ¬ S 46 1 = nI (t / 320) := fun z => by
    rw [hto, nI_eq (by omega) (by omega)] at z
    omega
  rcases ck with y | y | y | y | y | y
  · exact Or.inl ⟨Or.inl y.1, y.2.2.2.2.2⟩
  · exact Or.inl ⟨Or.inr (Or.inl y.1), y.2.2.2.2⟩
  · exact Or.inl ⟨Or.inr (Or.inr y.1), y.2.2.2⟩
  · exact absurd y.2.1 nz
  · exact Or.inr y.1
  · exact absurd y.2.1 nz
theorem cAl1.all {S : MS} {Lo Lr : Nat → List Nat} (L : ∀ e, e < 2 → cAl1 S Lo Lr e) : cAll S Lo Lr := fun e he => L e he
/-- the lists, behind forgetClosed -/
theorem cAl1_fg {S' : MS} {Lo Lr : Nat → List Nat} {e : Nat} (o : ∀ d, d < 2 → d ≠ e → cAl1 S' Lo Lr d) : ∀ d, d < 2 → cAl1 S' (upL Lo e ((Lo e).filter (opb S'))) (upL Lr e ((Lr e).filter (orb S'))) d := by
  intro d hd
  by_cases q : d = e
  · subst q
    refine ⟨fun t' h1 => ?_, fun t' h1 => ?_⟩
    · rw [upL_s] at h1
      exact of_decide_eq_true (List.mem_filter.mp h1).2
    · rw [upL_s] at h1
      have y := (List.mem_filter.mp h1).2
      unfold orb at y
      unfold opR
      exact of_decide_eq_true y
  · refine ⟨fun t' h1 => ?_, fun t' h1 => ?_⟩
    · rw [upL_o q] at h1
      exact (o d hd q).1 t' h1
    · rw [upL_o q] at h1
      exact (o d hd q).2 t' h1
set_option maxRecDepth 100000 in
set_option maxHeartbeats 4000000 in
/-- handToReceiver -/
theorem s66 {G : ix_G} {h : ix_H} {x : Nat} {S : MS} {T A R U D : Nat → Nat} {Lo Lr : Nat → List Nat} {e u t p d ot n cs k0 c s cr v : Nat} (I : mInv S) (C : cRel h x S T A R U D Lo Lr) (L : ∀ e, e < 2 → cAl1 S Lo Lr e) (hx3 : ix_i h x 3 = S 1 0) (hv : vT S t) (he : e = 1 - t / 320) (ck : cK S t) (hto : S 46 1 = nI e) (ca : cA S t) (h24 : S 23 t = 0 → S 24 t = 0) (n12 : S 2 0 = S 1 0) (hu : S 44 0 = nI u) (hu24 : u ≤ 24) (hcr : S 43 e = nI cr) (hcr3 : cr ≤ 3) (X0 : opR S t → mTH S u t p d ot n cs k0 c ∧ mAn S p n ∧ mAk S p d ot) (X1 : S 23 t = 0 → cr < 3 → mTH (mOpen S e t p cr) u t p d ot n cs k0 c ∧ 3 * e ≤ p ∧ p < 3 * e + 3 ∧ S 35 p = 0) (Bn : ¬ S 23 t = 0 → S 46 0 = nI 3 → 0 ≤ S 46 3 → S 37 p = 0 → S 46 3 = nI n) (Bn1 : S 23 t = 0 → S 46 0 = nI 3 → 0 ≤ S 46 3 → S 46 3 = nI n) (Bs : S 46 0 = nI 2 → S 46 3 = nI s ∧ s < 16) (Bk : S 46 0 = nI 1 → S 46 3 = nI d ∧ S 46 5 = nI ot) (I' : mInv (mToR S e u t p d ot n cs k0 c s cr)) (a : cUa h x S (T t) v) : ix_E G 66 0 (lv_args 0 [.ref x, .ref v]) [] h (fun rv h' => rv = none ∧ cPo x h h' 5 112 ∧ ∃ (R' U' D' : Nat → Nat) (Lo' Lr' : Nat → List Nat), cRel h' x (mToR S e u t p d ot n cs k0 c s cr) T A R' U' D' Lo' Lr' ∧ ∀ g, g < 2 → cAl1 (mToR S e u t p d ot n cs k0 c s cr) Lo' Lr' g) := by
  have t6 := hv.1
  have he2 : e < 2 := by omega
  have F := C.fx.2.2.2.2.2.2.2.2.2 e he2
  have zt := (C.tx hv).1
  have AL := cAl1.all L
  have eL : (Lr e).length = cr := by
    have := cAll.R C.rw AL he2
    rw [← this]
    unfold rowL cP
    rw [List.length_map, List.length_range, hcr, nI_clamp (by omega)]
  have P0 : cPo x h h 0 0 := cPo.rfl
  refine ie_aload_n d66_0 rfl ?_
  refine ie_getr _ d66_1 fl1_16 C.fx.1 C.fx.2.1 ?_
  refine ie_aload_n d66_4 rfl ?_
  refine ie_geti (k := 7) d66_5 fl1_148 a.2.1 ?_
  rw [a.2.2.2.2.1, hto]
  refine ie_aald (t := 5) d66_8 (by decide) rfl rfl (Or.inl C.fx.2.2.2.1) (by rw [C.fx.2.2.2.2.1]; exact vp_nI he2 (by decide)) ?_
  rw [nI_clamp (by omega), F.1]
  refine ie_astore_n d66_9 (by decide) ?_
  refine ie_aload_n d66_10 rfl ?_
  refine ie_getr _ d66_11 fl1_153 a.2.1 a.2.2.1 ?_
  have e7 := zt.2.2.2.2.2.2.2.2.2
  have tail : ∀ (h1 : ix_H) (R1 U1 D1 : Nat → Nat) (Lr1 : Nat → List Nat) (a0 b0 : Nat), cPo x h h1 a0 b0 → a0 ≤ 5 → b0 ≤ 112 → cRel h1 x (mToR S e u t p d ot n cs k0 c s cr) T A R1 U1 D1 Lo Lr1 → (∀ d, d < 2 → d ≠ e → Lr1 d = Lr d) → ∀ (lv : List (Nat × Value)), lv.lookup 2 = some (.ref (cS0 x e)) → ix_E G 66 47 lv [] h1 (fun rv h' => rv = none ∧ cPo x h h' 5 112 ∧ ∃ (R' U' D' : Nat → Nat) (Lo' Lr' : Nat → List Nat), cRel h' x (mToR S e u t p d ot n cs k0 c s cr) T A R' U' D' Lo' Lr' ∧ ∀ g, g < 2 → cAl1 (mToR S e u t p d ot n cs k0 c s cr) Lo' Lr' g) := by
    intro h1 R1 U1 D1 Lr1 a0 b0 P1 a5 b5 C1 eLr lv l2
    refine ie_aload_n d66_47 l2 ?_
    refine ie_callV [] d66_48 ok57 rm66_57 cl1_233 rfl rfl (Nat.le_of_ble_eq_true rfl) (Nat.le_of_ble_eq_true rfl) (C1.fx.2.2.2.2.2.2.2.2.2 _ he2).2.1 (s57 I' C1 he2) (fun rv h2 hq => ?_)
    obtain ⟨q1, P2, C2⟩ := hq
    subst q1
    refine ie_vret d66_51 rfl ⟨rfl, (P1.tr P2).m (by omega) (by omega), R1, U1, D1, _, _, C2, cAl1_fg (fun d' hd' hde => ⟨fun t' m => ?_, fun t' m => ?_⟩)⟩
    · rw [mToR_L 13 (by decide)]
      exact (L d' hd').1 t' m
    · rw [eLr d' hd' hde] at m
      have := (L d' hd').2 t' m
      unfold opR at this ⊢
      rw [o23_tor t' (fun q => hde (by rw [← ((C.rw d' hd').2.1 t' m).2.1, q, he]))]
      exact this
  by_cases z : S 23 t = 0
  · rw [if_pos z] at e7
    refine ie_getn d66_14 fl1_226 zt.2.1 e7 ?_
    refine ie_ifnonnullN 26 d66_17 (by decide) ?_
    refine ie_aload_n d66_20 rfl ?_
    refine ie_aload_n d66_21 rfl ?_
    refine ie_aload_n d66_22 rfl ?_
    have K5 : ¬ S 46 0 = nI 5 := fun q => (ca (Or.inr ⟨q, by rw [hto, he]⟩)).1 z
    have ck2 : (S 46 0 = nI 1 ∨ S 46 0 = nI 2 ∨ S 46 0 = nI 3) ∧ S 46 6 = S 8 t := (cK_r ck t6 he hto).elim id (fun q => absurd q K5)
    by_cases q3 : cr < 3
    · obtain ⟨X, x1, x2, x3⟩ := X1 z q3
      refine ie_callV [_, _] d66_23 ok67 rm66_67 cl1_236 rfl rfl (Nat.le_of_ble_eq_true rfl) (Nat.le_of_ble_eq_true rfl) C.fx.1 (s67y (w := S 1 0) I C hv he z (h24 z) hcr q3 x1 x2 x3 eL a K5) (fun rv h1 hq => ?_)
      obtain ⟨q1, P1, r7, tT1, cv, D2, C1⟩ := hq
      subst q1
      have eT : mToR S e u t p d ot n cs k0 c s cr = mT1 (mOpen S e t p cr) e u t p d ot n cs k0 c s (mOpen S e t p cr 46 0) (mOpen S e t p cr 8 t) := by
        unfold mToR
        rw [if_neg K5, if_pos z, if_neg (by rw [nI_eq (by omega) (by omega)]; omega), mOpen_L 46 (by decide), mOpen_L 8 (by decide), ck2.2]
      have I2 := mInv_open I hv he z hcr q3 x1 x2 x3
      have LO := mOpen_L (S := S) (e := e) (t := t) (p := p) (cr := cr)
      have r23 := (mOpen_r (S := S) (e := e) (t := t) (p := p) (cr := cr)).1
      have o36 : mOpen S e t p cr 36 p = 0 := mOpen_36
      have o37 : mOpen S e t p cr 37 p = 0 := mOpen_37
      have eR : (fun k => if k = t then ix_nx h else R k) t = ix_nx h := if_pos rfl
      generalize hR' : (fun k => if k = t then ix_nx h else R k) = R' at C1 eR
      rw [← eR] at C1 r7
      have tg := (C.lt (b := x) (by rw [C.fx.1]; decide))
      have x1' := (P1.1.2 x tg (Or.inl C.fx.1)).1
      have hvO : vT (mOpen S e t p cr) t := (vT_c LO (by decide)).mpr hv
      have cvt : ix_tg h1 v = 8 := by rw [cv.1]; exact a.2.1
      refine ie_aload_n d66_26 rfl ?_
      refine ie_getr (T t) d66_27 fl1_153 cvt (by rw [cv.2.2.2]; exact a.2.2.1) ?_
      refine ie_getr (R' t) d66_30 fl1_226 tT1 r7 ?_
      refine ie_astore_n d66_33 (by decide) ?_
      refine ie_aload_n d66_34 rfl ?_
      refine ie_ifnull 51 d66_35 (by decide) ?_
      refine ie_aload_n d66_38 rfl ?_
      refine ie_aload_n d66_39 rfl ?_
      refine ie_aload_n d66_40 rfl ?_
      refine ie_geti (k := 0) d66_41 fl1_27 (by rw [x1'.1]; exact C.fx.1) ?_
      rw [x1'.2.2.1, hx3, ← n12, show S 2 0 = mOpen S e t p cr 2 0 from by rw [LO 2 (by decide)]]
      have LA : cAll (mOpen S e t p cr) Lo (fun k => if k = e then Lr e ++ [t] else Lr k) := fun e' he' => ⟨fun t' m => by rw [LO 13 (by decide)]; exact (L e' he').1 t' m, fun t' m => by
        unfold opR
        rw [r23]
        by_cases q : t' = t
        · rw [if_pos q]; exact Or.inl rfl
        · rw [if_neg q]
          have m' : t' ∈ Lr e' := by
            by_cases y : e' = e
            · have m2 : t' ∈ (if e' = e then Lr e ++ [t] else Lr e') := m
              rw [if_pos y] at m2
              rcases List.mem_append.mp m2 with w | w
              · rw [y]; exact w
              · exact absurd (List.mem_singleton.mp w) q
            · have m2 : t' ∈ (if e' = e then Lr e ++ [t] else Lr e') := m
              rw [if_neg y] at m2
              exact m2
          exact (L e' he').2 t' m'⟩
      have tR : ix_tg h1 (R' t) = 3 := by
        have := (C1.rv ((vT_c mset_L (by decide)).mpr hvO) (Or.inl (by rw [mset_k (by decide), r23, if_pos rfl]))).2.1
        exact this
      rw [show S 1 0 = mOpen S e t p cr 1 0 from by rw [LO 1 (by decide)]] at C1
      have E := s79_o (G := G) (s := s) (v := v) he I2 C1 LA hvO (by rw [r23, if_pos rfl]) X (fun y => absurd o37 y) (fun y => absurd o36 y) (cK_c LO (by decide) ck) (by rw [LO 46 (by decide)]; exact ck2.1) (by rw [LO 46 (by decide)]; exact fun y1 y2 _ => Bn1 z y1 y2) (by rw [LO 46 (by decide)]; exact Bs) (by rw [LO 46 (by decide)]; exact Bk) (by rw [LO 2 (by decide), LO 1 (by decide)]; exact n12) (by rw [if_pos o37]) (cUa_c a cv (LO 46 (by decide)))
      refine ie_callV [_, _] d66_44 ok79 rm66_79 cl1_240 rfl rfl (Nat.le_of_ble_eq_true rfl) (Nat.le_of_ble_eq_true rfl) tR E (fun rv h2 hq => ?_)
      obtain ⟨q1, P2, U2, C2⟩ := hq
      subst q1
      rw [← eT] at C2
      exact tail h2 R' U2 _ _ _ _ (P1.tr P2) (by omega) (by omega) C2 (fun d' _ hde => if_neg hde) _ rfl
    · have e3 : cr = 3 := by omega
      refine ie_callVx [_, _] d66_23 ok67 rm66_67 cl1_236 rfl rfl (Nat.le_of_ble_eq_true rfl) (Nat.le_of_ble_eq_true rfl) C.fx.1 (s67n C he2 a.2.1 eL hcr3 (Or.inr q3)) ?_
      have eT : mToR S e u t p d ot n cs k0 c s cr = S := by
        unfold mToR
        rw [if_neg K5, if_pos z, if_pos (by rw [e3])]
      rw [eT]
      refine ie_aload_n d66_26 rfl ?_
      refine ie_getr _ d66_27 fl1_153 a.2.1 a.2.2.1 ?_
      refine ie_getn d66_30 fl1_226 zt.2.1 e7 ?_
      refine ie_astore_nN d66_33 (by decide) ?_
      refine ie_aload_nN d66_34 rfl ?_
      refine ie_ifnullN 51 d66_35 (by decide) ?_
      exact ie_vret d66_51 rfl ⟨rfl, P0.m (by decide) (by decide), R, U, D, Lo, Lr, C, L⟩
  · rw [if_neg z] at e7
    refine ie_getr (R t) d66_14 fl1_226 zt.2.1 e7 ?_
    refine ie_ifnonnull 26 d66_17 (by decide) ?_
    have tR : ix_tg h (R t) = 3 := ((C.tx hv).2.2 z).2.1
    refine ie_aload_n d66_26 rfl ?_
    refine ie_getr _ d66_27 fl1_153 a.2.1 a.2.2.1 ?_
    refine ie_getr (R t) d66_30 fl1_226 zt.2.1 e7 ?_
    refine ie_astore_n d66_33 (by decide) ?_
    refine ie_aload_n d66_34 rfl ?_
    refine ie_ifnull 51 d66_35 (by decide) ?_
    refine ie_aload_n d66_38 rfl ?_
    refine ie_aload_n d66_39 rfl ?_
    refine ie_aload_n d66_40 rfl ?_
    refine ie_geti (k := 0) d66_41 fl1_27 C.fx.1 ?_
    rw [hx3, ← n12]
    by_cases z5 : S 23 t = nI 5
    · have K5 : ¬ S 46 0 = nI 5 := fun q => (ca (Or.inr ⟨q, by rw [hto, he]⟩)).2 z5
      have ck2 : (S 46 0 = nI 1 ∨ S 46 0 = nI 2 ∨ S 46 0 = nI 3) ∧ S 46 6 = S 8 t := (cK_r ck t6 he hto).elim id (fun q => absurd q K5)
      obtain ⟨X, An, Ak⟩ := X0 (Or.inl z5)
      have hp : p = sP S t := by unfold sP; rw [X.2.1, nI_clamp (by have := X.2.2.1; omega)]
      have eT : mToR S e u t p d ot n cs k0 c s cr = mT1 S e u t p d ot n cs k0 c s (S 46 0) (S 8 t) := by
        unfold mToR
        rw [if_neg K5, if_neg z, ck2.2]
      have C1 := H_got (v := S 1 0) I C hv z5 hp
      refine ie_callV [_, _] d66_44 ok79 rm66_79 cl1_240 rfl rfl (Nat.le_of_ble_eq_true rfl) (Nat.le_of_ble_eq_true rfl) tR (s79_o (s := s) (v := v) he I C1 AL hv z5 X An Ak ck ck2.1 (Bn z) Bs Bk n12 rfl a) (fun rv h2 hq => ?_)
      obtain ⟨q1, P2, U2, C2⟩ := hq
      subst q1
      rw [← eT] at C2
      exact tail h2 R U2 D Lr _ _ P2 (by omega) (by omega) C2 (fun d' _ _ => rfl) _ rfl
    · refine ie_callV [_, _] d66_44 ok79 rm66_79 cl1_240 rfl rfl (Nat.le_of_ble_eq_true rfl) (Nat.le_of_ble_eq_true rfl) tR (s79_e (p := p) (d := d) (ot := ot) (n := n) (cs := cs) (k0 := k0) (c := c) (s := s) (cr := cr) he I C hv z z5 hu hu24 (fun q => ?_) (fun K => ?_) a _) (fun rv h2 hq => ?_)
      · obtain ⟨X, -, -⟩ := X0 (Or.inr q)
        exact ⟨X.2.1, X.2.2.1, X.2.2.2.2.2.2.2.2.2.2.2⟩
      · rcases cK_r ck t6 he hto with y | y
        · exact y.2
        · exact absurd (K.symm.trans y) (by decide)
      · obtain ⟨q1, P2, U2, C2⟩ := hq
        subst q1
        exact tail h2 R U2 D Lr _ _ P2 (by omega) (by omega) C2 (fun d' _ _ => rfl) _ rfl
/-- the numbers of the unit that came -/
theorem mArr_46 {S : MS} {u k i : Nat} (hi : i < 11) : mArr S u k 46 i = S 45 (11 * k + i) := by
  unfold mArr
  rw [mset_k (by decide), mOut_o (by decide) (by decide)]
  unfold mCm
  rw [if_pos ⟨rfl, hi⟩]
theorem mArr_out {S : MS} {u k f : Nat} (h : f ∉ [1, 2, 3, 46, 47]) : mArr S u k f = mOut S u k f := by
  simp only [List.mem_cons, List.not_mem_nil, or_false, not_or] at h
  funext j
  unfold mArr
  rw [mset_k h.2.1]
  unfold mOut mSh
  rw [mCm_o (k := k) (n := 11) (show (45 : Nat) ≠ 46 by decide), mCm_o h.2.2.2.1]
theorem cUa_arr {h : ix_H} {x : Nat} {S : MS} {T : Nat → Nat} {v u k t : Nat} (I : mInv S) (hk : k < gU S) (ht : S 45 (11 * k + 2) = nI t) (t6 : t < 640) (w : cUn h x S T v k) : cUa h x (mArr S u k) (T t) v := by
  obtain ⟨a1, a2, a3, a4, a5, a6, a7, a8, a9⟩ := w
  rw [ht, nI_clamp (by omega)] at a3
  have e0 : mArr S u k 46 0 = S 45 (11 * k) := mArr_46 (by decide)
  refine ⟨a1, a2, a3, by rw [e0]; exact a4, by rw [mArr_46 (by decide)]; exact a5, by rw [e0, mArr_46 (by decide), mArr_46 (by decide)]; exact a6, fun q => ?_, fun q => ?_, fun q => ?_⟩
  · rw [e0] at q
    rw [mArr_46 (by decide), mArr_46 (by decide)]
    exact a7 q
  · rw [e0] at q
    rw [mArr_46 (by decide)]
    exact a8 q
  · rw [e0] at q
    have g3 := I.g3 hk q
    intro y hy
    rw [a9 q y hy, mArr_46 (by decide)]
    constructor
    · rintro ⟨i, w1, w2, w3⟩
      refine ⟨i, w1, ?_, ?_⟩
      · rw [mArr_46 (by omega), ← Nat.add_assoc]; exact w2
      · rw [mArr_46 (by omega), ← Nat.add_assoc]; exact w3
    · rintro ⟨i, w1, w2, w3⟩
      refine ⟨i, w1, ?_, ?_⟩
      · rw [mArr_46 (by omega), ← Nat.add_assoc] at w2; exact w2
      · rw [mArr_46 (by omega), ← Nat.add_assoc] at w3; exact w3
set_option maxRecDepth 100000 in
set_option maxHeartbeats 4000000 in
/-- deliver, of one that is there: what its first steps leave, and whom it goes to -/
theorem s60y {G : ix_G} {h : ix_H} {x : Nat} {S Q : MS} {k t to : Nat} (I : mInv S) (B : cB h x S) (hk : k < gU S) (ht : S 45 (11 * k + 2) = nI t) (hv : vT S t) (hto : S 45 (11 * k + 1) = nI to) (hto2 : to < 2)
    (hS : t / 320 = to → ∀ (h1 : ix_H) (T A R U D : Nat → Nat) (Lo Lr : Nat → List Nat) (v : Nat), cRel h1 x (mArr S (gU S) k) T A R U D Lo Lr → (∀ e, e < 2 → cAl1 (mArr S (gU S) k) Lo Lr e) → ix_i h1 x 3 = mArr S (gU S) k 1 0 → cUa h1 x (mArr S (gU S) k) (T t) v → ix_E G 63 0 (lv_args 0 [.ref x, .ref v]) [] h1 (fun rv h' => rv = none ∧ cPo x h1 h' 5 112 ∧ ∃ (T' A' R' U' D' : Nat → Nat) (Lo' Lr' : Nat → List Nat), cRel h' x Q T' A' R' U' D' Lo' Lr' ∧ ∀ g, g < 2 → cAl1 Q Lo' Lr' g))
    (hR : ¬ t / 320 = to → ∀ (h1 : ix_H) (T A R U D : Nat → Nat) (Lo Lr : Nat → List Nat) (v : Nat), cRel h1 x (mArr S (gU S) k) T A R U D Lo Lr → (∀ e, e < 2 → cAl1 (mArr S (gU S) k) Lo Lr e) → ix_i h1 x 3 = mArr S (gU S) k 1 0 → cUa h1 x (mArr S (gU S) k) (T t) v → ix_E G 66 0 (lv_args 0 [.ref x, .ref v]) [] h1 (fun rv h' => rv = none ∧ cPo x h1 h' 5 112 ∧ ∃ (T' A' R' U' D' : Nat → Nat) (Lo' Lr' : Nat → List Nat), cRel h' x Q T' A' R' U' D' Lo' Lr' ∧ ∀ g, g < 2 → cAl1 Q Lo' Lr' g))
    (hQ : Q 1 0 = S 1 0) : ix_E G 60 0 (lv_args 0 [.ref x, .int (nI k)]) [] h (fun rv h' => rv = some (.int 1) ∧ cFo x h h' 5 112 ∧ cB h' x Q) := by
  obtain ⟨hx3, T, A, R, U, D, Lo, Lr, C, L⟩ := id B
  have t6 := hv.1
  have u24 := I.gu.2
  have w := (C.us.2.1 k hk).2
  have zt := (C.tx hv).1
  have x30 := C.x30
  refine ie_aload_n d60_0 rfl ?_
  refine ie_getr _ d60_1 fl1_23 C.fx.1 C.fx.2.2.1 ?_
  refine ie_iload_n d60_4 rfl ?_
  refine ie_callV [_] d60_5 ok61 rm60_61 cl1_144 rfl rfl (Nat.le_of_ble_eq_true rfl) (Nat.le_of_ble_eq_true rfl) C.fx.2.2.2.2.2.1 (s61y I C hk) (fun rv h1 hq => ?_)
  obtain ⟨q1, q2, q3, C1⟩ := hq
  subst q1
  have Io := mInv_out I I.gu.1 u24 hk
  have C2 : cRel h1 x (mArr S (gU S) k) T A R _ D Lo Lr := cRel_irr Io C1 (fun f hf => mArr_out hf)
  have L2 : ∀ e, e < 2 → cAl1 (mArr S (gU S) k) Lo Lr e := fun e he => ⟨fun t' m => by rw [mArr_L 13 (by decide)]; exact (L e he).1 t' m, fun t' m => by have := (L e he).2 t' m; unfold opR at this ⊢; rw [mArr_L 23 (by decide)]; exact this⟩
  have cx := q3.1 x (by unfold cLk; omega) (by unfold cRo; omega)
  have x3 : ix_i h1 x 3 = mArr S (gU S) k 1 0 := by rw [cx.2.2.1, hx3, mArr_L 1 (by decide)]
  have w30 := w.1
  have cv := q3.1 (U k) (by unfold cLk; omega) (by unfold cRo; omega)
  have a := cUa_arr (u := gU S) I hk ht t6 w
  have a1 := cUa_c a cv rfl
  have fin : ∀ (h2 : ix_H) (lv : List (Nat × Value)), cPo x h1 h2 5 112 → (∃ (T' A' R' U' D' : Nat → Nat) (Lo' Lr' : Nat → List Nat), cRel h2 x Q T' A' R' U' D' Lo' Lr' ∧ ∀ g, g < 2 → cAl1 Q Lo' Lr' g) → ix_E G 60 42 lv [] h2 (fun rv h' => rv = some (.int 1) ∧ cFo x h h' 5 112 ∧ cB h' x Q) := by
    intro h2 lv P2 ⟨T', A', R', U', D', Lo', Lr', C3, L3⟩
    refine ie_iconst 1 d60_42 (by decide) ?_
    refine ie_iret d60_43 rfl (by decide) ⟨rfl, ?_, ?_, T', A', R', U', D', Lo', Lr', C3, L3⟩
    · have := q2.tr P2.o
      rw [Nat.zero_add, Nat.zero_add] at this
      exact this
    · have xl : x < ix_nx h1 := C2.lt (by rw [C2.fx.1]; decide)
      rw [(P2.1.2 x xl (Or.inl C2.fx.1)).1.2.2.1, x3, mArr_L 1 (by decide), hQ]
  refine ie_astore_n d60_8 (by decide) ?_
  refine ie_aload_n d60_9 rfl ?_
  refine ie_ifnonnull 15 d60_10 (by decide) ?_
  refine ie_aload_n d60_15 rfl ?_
  refine ie_geti (k := 7) d60_16 fl1_148 a1.2.1 ?_
  rw [a1.2.2.2.2.1, mArr_46 (by decide), hto]
  refine ie_aload_n d60_19 rfl ?_
  refine ie_getr (T t) d60_20 fl1_153 a1.2.1 a1.2.2.1 ?_
  have z2 := (C2.tx ((vT_c mArr_L (by decide)).mpr hv)).1
  refine ie_geti (k := 6) d60_23 fl1_157 z2.2.1 ?_
  rw [z2.2.2.1]
  by_cases q : t / 320 = to
  · refine ie_icmp_ne 37 d60_26 (by decide) (fun y => absurd (by rw [q]) y) (fun _ => ?_)
    refine ie_aload_n d60_29 rfl ?_
    refine ie_aload_n d60_30 rfl ?_
    refine ie_callV [_] d60_31 ok63 rm60_63 cl1_160 rfl rfl (Nat.le_of_ble_eq_true rfl) (Nat.le_of_ble_eq_true rfl) (by rw [cx.1]; exact C.fx.1) (hS q h1 T A R _ D Lo Lr (U k) C2 L2 x3 a1) (fun rv h2 hq => ?_)
    obtain ⟨r1, r2, r3⟩ := hq
    subst r1
    refine ie_goto 42 d60_34 (by decide) ?_
    exact fin h2 _ r2 r3
  · refine ie_icmp_ne 37 d60_26 (by decide) (fun _ => ?_) (fun y => absurd ((nI_eq (by omega) (by omega)).mp y).symm q)
    refine ie_aload_n d60_37 rfl ?_
    refine ie_aload_n d60_38 rfl ?_
    refine ie_callV [_] d60_39 ok66 rm60_66 cl1_164 rfl rfl (Nat.le_of_ble_eq_true rfl) (Nat.le_of_ble_eq_true rfl) (by rw [cx.1]; exact C.fx.1) (hR q h1 T A R _ D Lo Lr (U k) C2 L2 x3 a1) (fun rv h2 hq => ?_)
    obtain ⟨r1, r2, r3⟩ := hq
    subst r1
    exact fin h2 _ r2 r3
/-- deliver, of none -/
theorem s60n {G : ix_G} {h : ix_H} {x : Nat} {S : MS} {k : Int32} (I : mInv S) (B : cB h x S) (hk : ¬ (0 ≤ k ∧ k < nI (gU S))) : ix_Ev G 60 0 (lv_args 0 [.ref x, .int k]) [] h (some (.int 0)) h := by
  obtain ⟨hx3, T, A, R, U, D, Lo, Lr, C, L⟩ := id B
  refine ix_ofE ?_
  refine ie_aload_n d60_0 rfl ?_
  refine ie_getr _ d60_1 fl1_23 C.fx.1 C.fx.2.2.1 ?_
  refine ie_iload_n d60_4 rfl ?_
  refine ie_callVx [_] d60_5 ok61 rm60_61 cl1_144 rfl rfl (Nat.le_of_ble_eq_true rfl) (Nat.le_of_ble_eq_true rfl) C.fx.2.2.2.2.2.1 (s61n I C hk) ?_
  refine ie_astore_nN d60_8 (by decide) ?_
  refine ie_aload_nN d60_9 rfl ?_
  refine ie_ifnonnullN 15 d60_10 (by decide) ?_
  refine ie_iconst 0 d60_13 (by decide) ?_
  exact ie_iret d60_14 rfl (by decide) ⟨rfl, rfl⟩
