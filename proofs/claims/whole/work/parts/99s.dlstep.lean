/-! ===== deliver: class and reference alike ===== -/
/-- the numbers that toReceiver's contracts carry, read off the state -/
theorem gR_ex {S : MS} {t e u : Nat} (I : mInv S) (hv : vT S t) (ck : cK S t) (he : e = 1 - t / 320) (hu : S 44 0 = nI u) (hu24 : u ≤ 24) : ∃ p d ot n cs k0 c s cr : Nat, S 43 e = nI cr ∧ cr ≤ 3 ∧ (opR S t → mTH S u t p d ot n cs k0 c ∧ mAn S p n ∧ mAk S p d ot) ∧ (S 23 t = 0 → cr < 3 → mTH (mOpen S e t p cr) u t p d ot n cs k0 c ∧ 3 * e ≤ p ∧ p < 3 * e + 3 ∧ S 35 p = 0 ∧ ∀ q, 3 * e ≤ q → q < p → ¬ S 35 q = 0) ∧ (¬ S 23 t = 0 → S 46 0 = nI 3 → 0 ≤ S 46 3 → S 37 p = 0 → S 46 3 = nI n) ∧ (S 23 t = 0 → S 46 0 = nI 3 → 0 ≤ S 46 3 → S 46 3 = nI n) ∧ (S 46 0 = nI 2 → S 46 3 = nI s ∧ s < 16) ∧ (S 46 0 = nI 1 → S 46 3 = nI d ∧ S 46 5 = nI ot) := by
  have t6 := hv.1
  have he2 : e < 2 := by omega
  have TT := I.T hv
  obtain ⟨d, d1, d2, d3⟩ := TT.2.2.1
  obtain ⟨ot, o1, o2, o3⟩ := TT.2.2.2.2.1
  obtain ⟨cs, c1, c2, c3, -, -⟩ := I.L e he2
  obtain ⟨cr, r1, r2, r3, -, -⟩ := I.M e he2
  have hsn : ∀ k, k < cs → ∃ t', t' < 640 ∧ S 40 (3 * (1 - t / 320) + k) = nI t' := fun k hk => by
    obtain ⟨t', a1, a2, a3, a4⟩ := c3 k hk
    exact ⟨t', a3.1, by rw [← he]; exact a1⟩
  have Bs : S 46 0 = nI 2 → S 46 3 = nI (S 46 3).toNatClampNeg ∧ (S 46 3).toNatClampNeg < 16 := fun K => by
    rcases ck with y | y | y | y | y | y
    · exact absurd (K.symm.trans y.1) (by decide)
    · obtain ⟨m, m1, m2, m3⟩ := y.2.2.1
      rw [m3, nI_clamp (by omega)]
      exact ⟨rfl, by omega⟩
    · exact absurd (K.symm.trans y.1) (by decide)
    · exact absurd (K.symm.trans y.1) (by decide)
    · exact absurd (K.symm.trans y.1) (by decide)
    · exact absurd (K.symm.trans y.1) (by decide)
  have Bk : S 46 0 = nI 1 → S 46 3 = nI d ∧ S 46 5 = nI ot := fun K => by
    rcases ck with y | y | y | y | y | y
    · exact ⟨y.2.2.1.trans d3, y.2.2.2.2.1.trans o3⟩
    · exact absurd (K.symm.trans y.1) (by decide)
    · exact absurd (K.symm.trans y.1) (by decide)
    · exact absurd (K.symm.trans y.1) (by decide)
    · exact absurd (K.symm.trans y.1) (by decide)
    · exact absurd (K.symm.trans y.1) (by decide)
  obtain ⟨n0, n1, n2⟩ : ∃ n0, n0 ≤ 64 ∧ (S 46 0 = nI 3 → 0 ≤ S 46 3 → S 46 3 = nI n0) := by
    by_cases K : S 46 0 = nI 3
    · rcases ck with y | y | y | y | y | y
      · exact absurd (K.symm.trans y.1) (by decide)
      · exact absurd (K.symm.trans y.1) (by decide)
      · rcases y.2.2.1 with w | w
        · exact ⟨0, by decide, fun _ z => by rw [w] at z; exact absurd z (by decide)⟩
        · obtain ⟨m, m1, m2, m3⟩ := w
          exact ⟨m, m2, fun _ _ => m3⟩
      · exact absurd (K.symm.trans y.1) (by decide)
      · exact absurd (K.symm.trans y.1) (by decide)
      · exact absurd (K.symm.trans y.1) (by decide)
    · exact ⟨0, by decide, fun z => absurd z K⟩
  by_cases o : opR S t
  · have z0 := opR_ne o
    have sp := I.sp hv o
    have iR := (I.R hv).2.2 o
    have hH := I.hasR hv o
    refine ⟨sP S t, d, ot, if S 37 (sP S t) = 0 then n0 else nP S (sP S t), cs, _, _, _, cr, r2, r1, fun _ => ⟨⟨t6, sp.1, sp.2.1, ?_, by omega, by omega, c1, by rw [← he]; exact c2, hsn, hu, hu24, hH⟩, fun q => ?_, fun q => ?_⟩, fun z => absurd z z0, fun _ K g q => ?_, fun z => absurd z z0, Bs, Bk⟩
    · split
      · exact n1
      · exact sp.2.2.2
    · rw [if_neg q]; exact sp.2.2.1 q
    · have := iR.2.2.2.2.2.2.2.2.1 q
      exact ⟨this.2.2.trans o3, this.1.trans d3⟩
    · rw [if_pos q]; exact n2 K g
  · by_cases z : S 23 t = 0
    · by_cases q3 : cr < 3
      · obtain ⟨p, p1, p2, p3, p4⟩ := free_p I he2 r2 q3
        obtain ⟨r23, r25, r35, r36, r37, r29, r39, r41, r43⟩ := mOpen_r (S := S) (e := e) (t := t) (p := p) (cr := cr)
        have LO := mOpen_L (S := S) (e := e) (t := t) (p := p) (cr := cr)
        refine ⟨p, d, ot, n0, cs, cr, cr + 1, _, cr, r2, r1, fun y => absurd y o, fun _ _ => ⟨⟨t6, by rw [r25, if_pos rfl], by omega, n1, by omega, by omega, c1, by rw [← he, LO 42 (by decide)]; exact c2, fun k hk => by rw [LO 40 (by decide)]; exact hsn k hk, by rw [LO 44 (by decide)]; exact hu, hu24, ?_⟩, p1, p2, p3, p4⟩, fun y => absurd z y, fun _ => n2, Bs, Bk⟩
        rw [← he]
        refine ⟨by omega, by omega, by rw [r43, if_pos rfl], by rw [r41, if_pos rfl], fun k hk y => ?_⟩
        rw [r41, if_neg (by omega)] at y
        obtain ⟨t', a1, a2, a3, a4⟩ := r3 k hk
        have e1 : t' = t := (nI_eq (by have := a3.1; omega) (by omega)).mp (a1.symm.trans y)
        rw [e1] at a4
        exact o a4
      · exact ⟨0, d, ot, n0, cs, 0, 0, _, cr, r2, r1, fun y => absurd y o, fun _ y => absurd y q3, fun y => absurd z y, fun _ => n2, Bs, Bk⟩
    · exact ⟨0, d, ot, n0, cs, 0, 0, _, cr, r2, r1, fun y => absurd y o, fun y => absurd y z, fun _ K g _ => n2 K g, fun y => absurd y z, Bs, Bk⟩
theorem gG_ex {S : MS} {t : Nat} (ck : cK S t) : ∃ (gc : Nat) (A B : Nat → Nat), S 46 0 = nI 6 → mGaps S gc A B := by
  rcases ck with y | y | y | y | y | y
  · exact ⟨0, fun _ => 0, fun _ => 0, fun z => absurd (z.symm.trans y.1) (by decide)⟩
  · exact ⟨0, fun _ => 0, fun _ => 0, fun z => absurd (z.symm.trans y.1) (by decide)⟩
  · exact ⟨0, fun _ => 0, fun _ => 0, fun z => absurd (z.symm.trans y.1) (by decide)⟩
  · exact ⟨0, fun _ => 0, fun _ => 0, fun z => absurd (z.symm.trans y.1) (by decide)⟩
  · exact ⟨0, fun _ => 0, fun _ => 0, fun z => absurd (z.symm.trans y.1) (by decide)⟩
  · obtain ⟨g, g1, g2, g3⟩ := y.2.2.2
    refine ⟨g, fun i => (S 46 (5 + 2 * i)).toNatClampNeg, fun i => (S 46 (6 + 2 * i)).toNatClampNeg, fun _ => ⟨g1, g2, fun i hi => ?_⟩⟩
    obtain ⟨a, b, b1, b2, b3, b4⟩ := g3 i hi
    show (S 46 (5 + 2 * i)).toNatClampNeg < 16 ∧ (S 46 (6 + 2 * i)).toNatClampNeg < 16 ∧ (S 46 (5 + 2 * i)).toNatClampNeg ≤ (S 46 (6 + 2 * i)).toNatClampNeg ∧ S 46 (5 + 2 * i) = nI (S 46 (5 + 2 * i)).toNatClampNeg ∧ S 46 (6 + 2 * i) = nI (S 46 (6 + 2 * i)).toNatClampNeg
    rw [b3, b4, nI_clamp (by omega), nI_clamp (by omega)]
    exact ⟨by omega, b2, b1, rfl, rfl⟩
theorem cK_to {S : MS} {t : Nat} (ck : cK S t) (t6 : t < 640) : ∃ to, to < 2 ∧ S 46 1 = nI to := by
  rcases ck with y | y | y | y | y | y
  · exact ⟨1 - t / 320, by omega, y.2.1⟩
  · exact ⟨1 - t / 320, by omega, y.2.1⟩
  · exact ⟨1 - t / 320, by omega, y.2.1⟩
  · exact ⟨t / 320, by omega, y.2.1⟩
  · obtain ⟨m, m1, m2, m3⟩ := y.2.1
    exact ⟨m, by omega, m3⟩
  · exact ⟨t / 320, by omega, y.2.1⟩
set_option maxRecDepth 100000 in
set_option maxHeartbeats 4000000 in
/-- deliver -/
theorem dl_y {K : Nat} {S : MS} {k : Nat} (I : cI K S) (A : iA S) (W : iW S) (hk : k < gU S) : ∃ Q : MS, (∀ (G : ix_G) (h : ix_H) (o : Nat), md_ok h o → ms h o = S → ix_E G 147 0 (lv_args 0 [.ref o, .int (nI k)]) [] h (fun rv h' => rv = some (.int 1) ∧ mR o h h' Q)) ∧ (∀ (G : ix_G) (h : ix_H) (x : Nat), cB h x S → ix_E G 60 0 (lv_args 0 [.ref x, .int (nI k)]) [] h (fun rv h' => rv = some (.int 1) ∧ cFo x h h' 5 112 ∧ cB h' x Q)) ∧ cI (K + 1) Q ∧ iA Q ∧ iW Q := by
  have I0 : cI K (m0 S) := cI_m0 I
  have A0 : iA (m0 S) := iA_set A (by decide)
  have W0 : iW (m0 S) := iW_L W (L := [3]) mset_L (by decide)
  have g0 : gU (m0 S) = gU S := by unfold gU m0; rw [mset_k (by decide)]
  have hk0 : k < gU (m0 S) := by rw [g0]; exact hk
  have hu := I0.1.1.gu.1
  have hu24 := I0.1.1.gu.2
  have hur := I.1.1.gu.1
  obtain ⟨t, ht, hv, hv1, ck⟩ := arr_t I0.1.1 hu hu24 hk0
  have t6 := hv.1
  have I1 : cI K (mArr (m0 S) (gU (m0 S)) k) := cI_arr I0 hu hu24 hk0
  have A1 : iA (mArr (m0 S) (gU (m0 S)) k) := iA_arr A0 hu hu24 hk0
  have W1 : iW (mArr (m0 S) (gU (m0 S)) k) := iW_L W0 mArr_L (by decide)
  have cA1 := cA_arr A0 hu hu24 hk0 t6 ht
  obtain ⟨to, to2, to3⟩ := cK_to ck t6
  have hto : m0 S 45 (11 * k + 1) = nI to := (mArr_46 (S := m0 S) (u := gU (m0 S)) (k := k) (i := 1) (by decide)).symm.trans to3
  have htoS : S 45 (11 * k + 1) = nI to := by have := hto; unfold m0 at this; rw [mset_k (by decide)] at this; exact this
  have htS : S 45 (11 * k + 2) = nI t := by have := ht; unfold m0 at this; rw [mset_k (by decide)] at this; exact this
  have hu1 : mArr (m0 S) (gU (m0 S)) k 44 0 = nI (gU (m0 S) - 1) := mArr_u
  have n12 : mArr (m0 S) (gU (m0 S)) k 2 0 = mArr (m0 S) (gU (m0 S)) k 1 0 := by
    rw [mArr_L 1 (by decide)]
    unfold mArr
    rw [mset_s]
  have u1 : gU (m0 S) - 1 ≤ 24 := by omega
  have L1 := mArr_L (S := m0 S) (u := gU (m0 S)) (k := k)
  rw [← g0] at hur
  have i1 := I1.1.1
  have fl := i1.file hv1
  by_cases q : t / 320 = to
  · obtain ⟨gc, B1, B2, hG⟩ := gG_ex ck
    have hH : mArr (m0 S) (gU (m0 S)) k 13 t = nI 5 → _ := fun o => i1.hasS hv1 o
    have fr := tsc_tos (u := gU (m0 S) - 1) (n := fN (mArr (m0 S) (gU (m0 S)) k) t) (k0 := kP 40 (mArr (m0 S) (gU (m0 S)) k) (t / 320) t) (c := cP 42 (mArr (m0 S) (gU (m0 S)) k) (t / 320)) (gc := gc) (A := B1) (B := B2) ck
    refine ⟨mToS (mArr (m0 S) (gU (m0 S)) k) (gU (m0 S) - 1) t (fN (mArr (m0 S) (gU (m0 S)) k) t) (kP 40 (mArr (m0 S) (gU (m0 S)) k) (t / 320) t) (cP 42 (mArr (m0 S) (gU (m0 S)) k) (t / 320)) gc B1 B2, fun G h o M hS => ?_, fun G h x B => ?_, cI_tos I1 hv1 ck hu1 u1 rfl fl.2.2.2 hH hG, iA_tos A1 t6 cA1 hu1 u1, iW_L W1 fr.1 (by decide)⟩
    · obtain ⟨cn, -, n1, n2⟩ := i1.1.2 (t / 320) (by omega)
      refine s147y M hS hur hu24 hk0 htoS to2 htS t6 (fun _ h1 M1 hS1 => ?_) (fun z => absurd q z)
      refine s150 M1 hS1 hu1 u1 ⟨n1, n2, hv1.2.1, ?_, t6⟩ fl.1 fl.2.1 fl.2.2.1 fl.2.2.2 hH hG
      have := hv1.2.2
      unfold nN at this
      rw [n2, nI_clamp (by omega)] at this
      exact this
    · refine s60y I0.1.1 (B.m0 I.1.1) hk0 ht hv hto to2 (fun _ h1 T A R U D Lo Lr v C L x3 a => ?_) (fun z => absurd q z) (by rw [fr.1 1 (by decide), L1 1 (by decide)])
      refine ie_mono (s63 i1 C L hv1 ck (by rw [to3, q]) hu1 u1 rfl fl.2.2.2 hH hG a) (fun rv h' hq => ?_)
      obtain ⟨r1, r2, U', Lo', Lr', r3, r4⟩ := hq
      exact ⟨r1, r2.m (by decide) (by decide), T, A, R, U', D, Lo', Lr', r3, r4⟩
  · have he : to = 1 - t / 320 := by omega
    obtain ⟨p, d, ot, n, cs, k0, c, s, cr, hcr, hcr3, X0, X1, Bn, Bn1, Bs, Bk⟩ := gR_ex i1 hv1 ck he hu1 u1
    have I' : mInv (mToR (mArr (m0 S) (gU (m0 S)) k) to (gU (m0 S) - 1) t p d ot n cs k0 c s cr) := mInv_tor i1 hv1 he ck (fun z => (Bs z).2) hu1 u1 hcr hcr3 (fun o => (X0 o).1) (fun z y => ⟨(X1 z y).1, (X1 z y).2.1, (X1 z y).2.2.1, (X1 z y).2.2.2.1⟩)
    have h26 : mArr (m0 S) (gU (m0 S)) k 23 t = nI 6 → bw (mArr (m0 S) (gU (m0 S)) k 26 p) 1 4 := fun o => by
      have X := (X0 (Or.inr o)).1
      exact (i1.p hv1 (Or.inr o) X.2.1 X.2.2.1).2.2.2.2.2.2.2.2.2.2.1 o
    refine ⟨_, fun G h o M hS => ?_, fun G h x B => ?_, cI_fr I1 I' mToR_L (by decide), iA_tor A1 t6 he hu1 u1 h26, iW_tor W1 h26⟩
    · refine s147y M hS hur hu24 hk0 htoS to2 htS t6 (fun z => absurd z q) (fun _ h1 M1 hS1 => ?_)
      by_cases o : opR (mArr (m0 S) (gU (m0 S)) k) t
      · obtain ⟨X, An, Ak⟩ := X0 o
        have z0 := opR_ne o
        exact s152 M1 hS1 to2 t6 hcr hcr3 (fun _ => X) (fun z => absurd z z0) (fun _ => An) (fun _ => Ak) Bn Bn1 Bs Bk
      · by_cases z : mArr (m0 S) (gU (m0 S)) k 23 t = 0
        · exact s152 M1 hS1 to2 t6 hcr hcr3 (fun y => absurd z y) (fun _ y => ⟨(X1 z y).1, by have := (X1 z y).2.2.1; omega, (X1 z y).2.1, (X1 z y).2.2.2.1, (X1 z y).2.2.2.2⟩) (fun y => absurd z y) (fun y => absurd z y) Bn Bn1 Bs Bk
        · have z5 : ¬ mArr (m0 S) (gU (m0 S)) k 23 t = nI 5 := fun y => o (Or.inl y)
          have z6 : ¬ mArr (m0 S) (gU (m0 S)) k 23 t = nI 6 := fun y => o (Or.inr y)
          rw [mToR_z z z5 z6]
          exact s152z M1 hS1 to2 t6 hu1 u1 z z5 z6
    · refine s60y I0.1.1 (B.m0 I.1.1) hk0 ht hv hto to2 (fun z => absurd z q) (fun _ h1 T A R U D Lo Lr v C L x3 a => ?_) (by rw [mToR_L 1 (by decide), L1 1 (by decide)])
      refine ie_mono (s66 i1 C L x3 hv1 he ck to3 cA1 (fun z => W1 t hv1 z) n12 hu1 u1 hcr hcr3 X0 (fun z y => ⟨(X1 z y).1, (X1 z y).2.1, (X1 z y).2.2.1, (X1 z y).2.2.2.1⟩) Bn Bn1 Bs Bk I' a) (fun rv h' hq => ?_)
      obtain ⟨r1, r2, R', U', D', Lo', Lr', r3, r4⟩ := hq
      exact ⟨r1, r2, T, A, R', U', D', Lo', Lr', r3, r4⟩
