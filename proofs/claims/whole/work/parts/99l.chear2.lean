set_option maxRecDepth 100000 in
set_option maxHeartbeats 4000000 in
/-- beginWaiting -/
theorem s89 {G : ix_G} {h : ix_H} {x : Nat} {S : MS} {T A R U D : Nat → Nat} {Lo Lr : Nat → List Nat} {u t p n : Nat} (I : mInv S) (C : cRel (ix_si h (R t) 9 (S 2 0)) x S T A R U D Lo Lr) (hv : vT S t) (ho : S 23 t = nI 5) (hp : p = sP S t) (hu : S 44 0 = nI u) (hu24 : u ≤ 24) (h37 : ¬ S 37 p = 0) (h27 : S 27 p = nI n) (hn64 : n ≤ 64) (h29 : S 29 p = 0) : ix_E G 89 0 (lv_args 0 [.ref (R t), .int (S 2 0)]) [] h (fun rv h' => rv = none ∧ cPo x h h' 1 6 ∧ ∃ U', cRel h' x (if S 8 t = nI 2 then mNak S u t p n else S) T A R U' D Lo Lr) := by
  have hop : opR S t := Or.inl ho
  have tr : ix_tg h (R t) = 3 := (C.rv hv hop).2.1
  have P1 : cPo x h (ix_si h (R t) 9 (S 2 0)) 0 0 := cPo.rfl.si (cCl_of tr (by decide))
  refine ie_aload_n d89_0 rfl ?_
  refine ie_iload_n d89_1 rfl ?_
  refine ie_puti (k := 2) d89_2 fl13_41 (Or.inl rfl) tr rfl rfl ?_
  generalize ix_si h (R t) 9 (S 2 0) = h1 at *
  have X := C.rsh I hv hop
  obtain ⟨L, a1, a2, a4, a5, a6, a7, a8, a9⟩ := id X
  have c1 := (C.tx hv).1
  have cv := C.rv hv hop
  have cR : cCl h1 x (R t) := cCl_of a1 (by decide)
  obtain ⟨o1, o2, o3, o4, o5, o6, o7, o8⟩ := cv.2.2.2.2.2.2.2.2.2.2.2.2.2.2 ho
  rw [← hp] at o2 o3 o4 o7
  have s1 : R t ≠ cLk x := by unfold cLk; omega
  have s2 : R t ≠ cRo x := by unfold cRo; omega
  have e7 : ix_i h1 (R t) 7 = nI n := by rw [o4, if_neg h37]; exact h27
  refine ie_aload_n d89_5 rfl ?_
  refine ie_getr (T t) d89_6 fl13_19 a1 a2 ?_
  refine ie_callVx [] d89_9 ok45 rm89_45 cl13_52 rfl rfl (Nat.le_of_ble_eq_true rfl) (Nat.le_of_ble_eq_true rfl) a5 (s45 a5) ?_
  rw [c1.2.2.2.2.2.2.1]
  by_cases k2 : S 8 t = nI 2
  · rw [if_pos k2]
    refine ie_if_eq 20 d89_12 (by decide) (fun z => absurd k2 (bI_0.mp z)) (fun _ => ?_)
    refine ie_aload_n d89_15 rfl ?_
    refine ie_iload_n d89_16 rfl ?_
    refine ie_callVx [_] d89_17 ok53 rm89_53 cl13_60 rfl rfl (Nat.le_of_ble_eq_true rfl) (Nat.le_of_ble_eq_true rfl) a1 (s53 X e7 hn64) ?_
    have NK := nkL_all (S := S) (p := p) (a := (n + 3) / 4) (m := ((nI 1 <<< (nI ((n + 3) / 4) &&& 31)) - 1) &&& (ix_i h1 (R t) 6 ^^^ (-1))) (by omega) (fun q hq => by
      rw [miss_b (by omega) hq, o3 q hq]
      constructor
      · rintro ⟨w1, w2⟩
        exact ⟨w1, Classical.byContradiction fun y => w2 ⟨by omega, y⟩⟩
      · rintro ⟨w1, w2⟩
        exact ⟨w1, fun y => y.2 w2⟩)
    rw [c1.2.2.1, NK.1, o2]
    generalize hh2 : ix_si (ix_si h1 (R t) 10 (ix_i h1 (R t) 10 + 1)) (R t) 9 (S 2 0) = h2
    have b2 : sw (R t) h1 h2 := by rw [← hh2]; exact sw.rfl.si.si
    have q2 : kpR h1 h2 (R t) := by rw [← hh2]; exact ((kpR.of ceq.rfl ceq.rfl).si (by decide)).si (by decide)
    have i2 : iOf h1 h2 (R t) [(9, S 2 0), (10, ix_i h1 (R t) 10 + 1)] := by rw [← hh2]; exact ((iOf.nil (fun _ => rfl)).si).si
    have p2 : cPo x h h2 0 0 := by rw [← hh2]; exact (P1.si cR).si cR
    have L2 : lkS h2 x := lkS_c L (b2.1 _ (Ne.symm s1)) (b2.1 _ (Ne.symm s2)) (by rw [b2.2]; exact Nat.le_refl _)
    have n2 : R t + 1 < ix_nx h2 := by rw [b2.2]; exact C.lt (by rw [cv.2.2.2.2.2.2.2.1]; decide)
    generalize hnm : (nkL (((nI 1 <<< (nI ((n + 3) / 4) &&& 31)) - 1) &&& (ix_i h1 (R t) 6 ^^^ (-1))) 17 0 0 0).2 = nm2 at NK
    have cO : ceq h2 (hOut x h2 (T t) (nI 6) (nI (t / 320)) (if S 36 p = 0 then nI (gC S p ((n + 3) / 4)) + nI 8 else nI (gC S p ((n + 3) / 4))) 0 nm2) (R t) := hOut_s s1 s2 (by omega)
    have cO1 : ceq h2 (hOut x h2 (T t) (nI 6) (nI (t / 320)) (if S 36 p = 0 then nI (gC S p ((n + 3) / 4)) + nI 8 else nI (gC S p ((n + 3) / 4))) 0 nm2) (R t + 1) := hOut_s (by unfold cLk; omega) (by unfold cRo; omega) n2
    have pO := p2.out (tx := T t) (w := nI 6) (to := nI (t / 320)) (d := if S 36 p = 0 then nI (gC S p ((n + 3) / 4)) + nI 8 else nI (gC S p ((n + 3) / 4))) (l := 0) (c := nm2) L2.1 L2.2.2.1 L2.2.2.2.2.2
    refine ie_vret d89_20 rfl ⟨rfl, pO, ?_⟩
    exact R_nak I C hv ho hp hu hu24 hn64 h37 (by rw [h29]; exact bw.of (n := 1) (by decide) (by decide)) NK.2 b2 sw.rfl (q2.tr cO cO1) (i2.tr cO.2.2.1)
  · rw [if_neg k2]
    refine ie_if_eq 20 d89_12 (by decide) (fun _ => ?_) (fun z => absurd (bI_0.mpr k2) z)
    exact ie_vret d89_20 rfl ⟨rfl, P1.m (by decide) (by decide), U, C⟩
theorem kpR.id9 {h : ix_H} {r : Nat} {w : Int32} : kpR (ix_si h r 9 w) h r := ⟨rfl, fun _ => rfl, by rw [ix_i_si, if_neg (fun z => absurd z.2 (by decide))], by rw [ix_i_si, if_neg (fun z => absurd z.2 (by decide))], ⟨rfl, rfl, fun j => by rw [ix_i_si, if_neg (fun z => absurd z.1 (by omega))], fun _ => rfl⟩⟩
/-- what a receiver hears: its numbers behind the note, and what comes of them -/
theorem mFin_8 {S : MS} {u t p k0 c : Nat} {v y : Int32} (hy : y = S 8 t) : mFin S u t p k0 c v y = if S 8 t = 1 then mShut (mset S 26 p v) t v p k0 c else mFin2 S u t p v := by
  unfold mFin
  rw [hy]
set_option maxRecDepth 100000 in
set_option maxHeartbeats 4000000 in
/-- end, of one whose clock is not yet set -/
theorem s56b {G : ix_G} {h : ix_H} {x : Nat} {S : MS} {T A R U D : Nat → Nat} {Lo Lr : Nat → List Nat} {u t p k0 c : Nat} {v w y : Int32} (I : mInv S) (C : cRel (ix_si h (R t) 9 w) x S T A R U D Lo Lr) (hv : vT S t) (ho : opR S t) (hp : p = sP S t) (hv4 : bw v 1 4) (hu : S 44 0 = nI u) (hu24 : u ≤ 24) (hH : mHas 41 43 S (1 - t / 320) k0 c t) (hy : y = S 8 t) : ix_E G 56 0 (lv_args 0 [.ref (R t), .int v, .int (S 2 0)]) [] h (fun r h' => r = none ∧ cPo x h h' 1 6 ∧ ∃ U', cRel h' x (mFin S u t p k0 c v y) T A R U' D Lo Lr) := by
  have i12 : ix_i h (R t) 12 = 0 := by
    have := (C.rv hv ho).2.2.2.2.2.2.2.2.2.2.2.2.1 ho
    rw [ix_i_si, if_neg (fun z => absurd z.2 (by decide))] at this
    exact this
  refine ie_mono (s56 I C sw.rfl.si.sy kpR.id9 i12 hv ho hp hv4 hu hu24 hH) (fun r h' hq => ?_)
  obtain ⟨q1, q2, q3, q4⟩ := hq
  refine ⟨q1, q2, ?_⟩
  rw [mFin_8 hy]
  by_cases k1 : S 8 t = 1
  · rw [if_pos k1]
    exact ⟨U, q3 k1 _ (fun k hk => mset_kk hk) (fun j hj => mset_j rfl hj)⟩
  · rw [if_neg k1]
    exact q4 k1
set_option maxRecDepth 100000 in
set_option maxHeartbeats 4000000 in
/-- hear: what follows the note -/
theorem s79_6 {G : ix_G} {h : ix_H} {x : Nat} {S : MS} {T A R U D : Nat → Nat} {Lo Lr : Nat → List Nat} {u t p d ot n cs k0 c : Nat} {w y xf fl : Int32} {v : Nat} (I : mInv S) (C : cRel (ix_si h (R t) 9 w) x S T A R U D Lo Lr) (L : cAll S Lo Lr) (hv : vT S t) (ho : S 23 t = nI 5) (X : mTH S u t p d ot n cs k0 c) (An : mAn S p n) (h10 : ¬ S 36 p = 0 → S 10 t = nI d ∧ S 12 t = nI ot) (hy : y = S 8 t) (w0 : S 37 p = 0 → w = S 2 0) (wx : ¬ S 37 p = 0 → fl = xf ∧ ((xf = 0 ∧ ix_i h (R t) 9 = w) ∨ (xf = 1 ∧ w = S 2 0 ∧ S 29 p = 0))) :
    ∀ (lv : List (Nat × Value)), lv.lookup 0 = some (.ref (R t)) → lv.lookup 2 = some (.int (S 2 0)) → lv.lookup 3 = some (.int fl) → ix_E G 79 106 lv [] h (fun rv h' => rv = none ∧ cPo x h h' 1 6 ∧ ∃ U', cRel h' x (mT6 S u t p d ot n cs k0 c xf y) T A R U' D Lo Lr) := by
  obtain ⟨t6, hp25, hp6, hn64, hot6, hd6, hcs3, hcs, hsn, hu, hu24, hH⟩ := id X
  have hop : opR S t := Or.inl ho
  have hp : p = sP S t := by unfold sP; rw [hp25, nI_clamp (by omega)]
  have rc := C.rv hv hop
  have R5 := rc.2.2.2.2.2.2.2.2.2.2.2.2.2.2 ho
  rw [← hp] at R5
  have tr : ix_tg h (R t) = 3 := rc.2.1
  have P0 : cPo x h h 1 6 := cPo.rfl.m (by decide) (by decide)
  have ih9 : ∀ j, j ≠ 9 → ix_i (ix_si h (R t) 9 w) (R t) j = ix_i h (R t) j := fun j hj => by rw [ix_i_si, if_neg (fun z => hj z.2)]
  intro lv l0 l2 l3
  refine ie_aload_n d79_106 l0 ?_
  refine ie_geti (k := 2) d79_107 fl13_15 tr ?_
  refine ie_iconst (-1) d79_110 (by decide) ?_
  have e7 := R5.2.2.2.1
  rw [ih9 7 (by decide)] at e7
  rw [e7]
  unfold mT6
  by_cases h37 : S 37 p = 0
  · rw [if_pos h37, if_pos h37]
    refine ie_icmp_ne 122 d79_111 (by decide) (fun z => absurd rfl z) (fun _ => ?_)
    refine ie_aload_n d79_114 l0 ?_
    refine ie_iload_n d79_115 l2 ?_
    refine ie_puti (k := 2) d79_116 fl13_41 (Or.inl rfl) tr rfl rfl ?_
    refine ie_goto 150 d79_119 (by decide) ?_
    refine ie_vret d79_150 rfl ⟨rfl, P0.si (cCl_of tr (by decide)), U, ?_⟩
    rw [← w0 h37]
    exact C
  · have h27 := An h37
    rw [if_neg h37, if_neg h37, h27]
    rw [if_neg h37, h27] at e7
    refine ie_icmp_ne 122 d79_111 (by decide) (fun _ => ?_) (fun z => absurd z (nI_m1 (by omega)))
    refine ie_aload_n d79_122 l0 ?_
    refine ie_callVx [] d79_123 ok82 rm79_82 cl13_86 rfl rfl (Nat.le_of_ble_eq_true rfl) (Nat.le_of_ble_eq_true rfl) tr (s82 tr e7 hn64) ?_
    have e5 := R5.2.1
    rw [ih9 5 (by decide)] at e5
    have e6 : ∀ q, q < 32 → (rb (ix_i h (R t) 6) q ↔ q < 16 ∧ ¬ S 39 (16 * p + q) = 0) := fun q hq => by
      rw [← ih9 6 (by decide)]; exact R5.2.2.1 q hq
    have ecp : (¬ ix_i h (R t) 5 = 0 ∧ ∀ q, q < (n + 3) / 4 → rb (ix_i h (R t) 6) q) ↔ (¬ S 36 p = 0 ∧ ¬ 0 ≤ mLost S p ((n + 3) / 4) 17 0) := by
      rw [e5, lost_all (by omega)]
      constructor
      · rintro ⟨y1, y2⟩
        exact ⟨y1, fun q hq => ((e6 q (by omega)).mp (y2 q hq)).2⟩
      · rintro ⟨y1, y2⟩
        exact ⟨y1, fun q hq => (e6 q (by omega)).mpr ⟨by omega, y2 q hq⟩⟩
    rw [bP_c ecp]
    by_cases q : ¬ S 36 p = 0 ∧ ¬ 0 ≤ mLost S p ((n + 3) / 4) 17 0
    · rw [bP_t q, if_neg q.1, if_neg q.2]
      have iR := (I.R hv).2.2 hop
      rw [← hp] at iR
      have m36 := iR.2.2.2.2.2.2.2.2.1 q.1
      refine ie_if_eq 141 d79_126 (by decide) (fun z => absurd z (by decide)) (fun _ => ?_)
      refine ie_aload_n d79_129 l0 ?_
      refine ie_aload_n d79_130 l0 ?_
      refine ie_callV [] d79_131 ok83 rm79_83 cl13_89 rfl rfl (Nat.le_of_ble_eq_true rfl) (Nat.le_of_ble_eq_true rfl) tr (s83 (u := u) (k0 := k0) (c := c) I C L hv ho X h37 h27 (h10 q.1).1 (h10 q.1).2 m36.2.1) (fun rv h1 hq => ?_)
      obtain ⟨v1, S1, q1, q2, q3, q4, q5, q6, q7⟩ := hq
      subst q1
      rw [q3 y]
      have hv1 : vT S1 t := (vT_c q5 (by decide)).mpr hv
      have e2 : S 2 0 = S1 2 0 := by rw [q5 2 (by decide)]
      refine ie_iload_n d79_134 l2 ?_
      rw [e2]
      refine ie_callV [_, _] d79_135 ok56 rm79_56 cl13_64 rfl rfl (Nat.le_of_ble_eq_true rfl) (Nat.le_of_ble_eq_true rfl) (by exact (q6.rv hv1 (Or.inl (by rw [q5 23 (by decide)]; exact ho))).2.1) (s56b (p := p) (y := y) q4 q6 hv1 (Or.inl (by rw [q5 23 (by decide)]; exact ho)) (by unfold sP; rw [q5 25 (by decide)]; exact hp) q2 (by rw [q5 44 (by decide)]; exact hu) hu24 (mHas_c q5 (by decide) hH) (by rw [q5 8 (by decide)]; exact hy)) (fun rv h2 hq => ?_)
      obtain ⟨r1, r2, r3⟩ := hq
      subst r1
      refine ie_goto 150 d79_138 (by decide) ?_
      exact ie_vret d79_150 rfl ⟨rfl, (q7.tr r2).m (by decide) (by decide), r3⟩
    · rw [bP_f q]
      have eT : (if S 36 p = 0 then (if xf = 0 then S else if y = nI 2 then mNak S u t p n else S) else if 0 ≤ mLost S p ((n + 3) / 4) 17 0 then (if xf = 0 then S else if y = nI 2 then mNak S u t p n else S) else mCpl S u t p d ot n cs k0 c y) = if xf = 0 then S else if y = nI 2 then mNak S u t p n else S := by
        by_cases y1 : S 36 p = 0
        · rw [if_pos y1]
        · rw [if_neg y1, if_pos (Classical.byContradiction fun z => q ⟨y1, z⟩)]
      rw [eT]
      refine ie_if_eq 141 d79_126 (by decide) (fun _ => ?_) (fun z => absurd rfl z)
      refine ie_iload_n d79_141 l3 ?_
      obtain ⟨f1, f2⟩ := wx h37
      rcases f2 with ⟨f2, f3⟩ | ⟨f2, f3, f4⟩
      · rw [f1, f2, if_pos rfl]
        refine ie_if_eq 150 d79_142 (by decide) (fun _ => ?_) (fun z => absurd rfl z)
        refine ie_vret d79_150 rfl ⟨rfl, P0, U, ?_⟩
        exact cRel_e I C (fun b => (si_id f3 b).sy) rfl
      · rw [f1, f2, if_neg (by decide), hy]
        refine ie_if_eq 150 d79_142 (by decide) (fun z => absurd z (by decide)) (fun _ => ?_)
        refine ie_aload_n d79_145 l0 ?_
        refine ie_iload_n d79_146 l2 ?_
        rw [f3] at C
        refine ie_callV [_] d79_147 ok89 rm79_89 cl13_93 rfl rfl (Nat.le_of_ble_eq_true rfl) (Nat.le_of_ble_eq_true rfl) tr (s89 I C hv ho hp hu hu24 h37 h27 hn64 f4) (fun rv h2 hq => ?_)
        obtain ⟨r1, r2, r3⟩ := hq
        subst r1
        exact ie_vret d79_150 rfl ⟨rfl, r2, r3⟩
