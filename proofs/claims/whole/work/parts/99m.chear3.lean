/-! ===== hear: the note ===== -/
theorem hBy_ce {h h' : ix_H} {r s : Nat} {c : Int32} (e : ∀ b, ceq h h' b) : ∀ l b, ceq (hBy h r s c l) (hBy h' r s c l) b := by
  intro l
  induction l with
  | zero => exact e
  | succ l ih => exact fun b => ceq_si ih b
theorem hBy_po {x a b r s l : Nat} {c : Int32} {h h1 : ix_H} (p : cPo x h h1 a b) (t1 : ix_tg h1 (r + 1) = 102) : cPo x h (hBy h1 r s c l) a b := by
  induction l with
  | zero => exact p
  | succ l ih => exact ih.si (cCl_of (k := 102) (by rw [((hBy_o l).2.2.1 _).1]; exact t1) (by decide))
theorem mT4_n {S : MS} {u t p d ot n cs k0 c : Nat} {K y : Int32} (h : ¬ K = nI 3) : mT4 S u t p d ot n cs k0 c K y = mT6 S u t p d ot n cs k0 c (nI 0) y := by
  unfold mT4 mT5
  rw [if_neg h, if_neg h]
theorem mT3_n {S : MS} {u t p d ot n cs k0 c s : Nat} {K y : Int32} (h : ¬ K = nI 2) : mT3 S u t p d ot n cs k0 c s K y = mT4 S u t p d ot n cs k0 c K y := by
  unfold mT3
  rw [if_neg h]
theorem cAll_c {S S' : MS} {Lo Lr : Nat → List Nat} (L : cAll S Lo Lr) (h13 : S' 13 = S 13) (h23 : S' 23 = S 23) : cAll S' Lo Lr := fun e he => ⟨fun t' m => by rw [h13]; exact (L e he).1 t' m, fun t' m => by have := (L e he).2 t' m; unfold opR at this ⊢; rw [h23]; exact this⟩
set_option maxRecDepth 100000 in
set_option maxHeartbeats 4000000 in
theorem s79_2 {G : ix_G} {h : ix_H} {x : Nat} {S : MS} {T A R U D : Nat → Nat} {Lo Lr : Nat → List Nat} {u t p d ot n cs k0 c s v : Nat} {w : Int32} (I : mInv S) (C : cRel (ix_si h (R t) 9 w) x S T A R U D Lo Lr) (L : cAll S Lo Lr) (hv : vT S t) (ho : S 23 t = nI 5) (X : mTH S u t p d ot n cs k0 c) (An : mAn S p n) (Ak : mAk S p d ot) (ck : cK S t) (hK : S 46 0 = nI 1 ∨ S 46 0 = nI 2 ∨ S 46 0 = nI 3) (Bn : S 46 0 = nI 3 → 0 ≤ S 46 3 → S 37 p = 0 → S 46 3 = nI n) (Bs : S 46 0 = nI 2 → S 46 3 = nI s ∧ s < 16) (Bk : S 46 0 = nI 1 → S 46 3 = nI d ∧ S 46 5 = nI ot) (n12 : S 2 0 = S 1 0) (hw : w = if S 37 p = 0 then S 1 0 else ix_i h (R t) 9) (a : cUa h x S (T t) v) :
    ∀ (lv : List (Nat × Value)), lv.lookup 0 = some (.ref (R t)) → lv.lookup 1 = some (.ref v) → lv.lookup 2 = some (.int (S 2 0)) → ix_E G 79 62 lv [] h (fun rv h' => rv = none ∧ cPo x h h' 1 6 ∧ ∃ U', cRel h' x (mT2 S u t p d ot n cs k0 c s (S 46 0) (S 8 t)) T A R U' D Lo Lr) := by
  obtain ⟨t6, hp25, hp6, hn64, hot6, hd6, hcs3, hcs, hsn, hu, hu24, hH⟩ := id X
  have hop : opR S t := Or.inl ho
  have hp : p = sP S t := by unfold sP; rw [hp25, nI_clamp (by omega)]
  have rc := C.rv hv hop
  have R5 := rc.2.2.2.2.2.2.2.2.2.2.2.2.2.2 ho
  rw [← hp] at R5
  have iR := (I.R hv).2.2 hop
  rw [← hp] at iR
  have tr : ix_tg h (R t) = 3 := rc.2.1
  have tb : ix_tg h (R t + 1) = 102 := rc.2.2.2.2.2.2.2.1
  have vR : ¬ v = R t := fun q => by
    have := a.2.1
    rw [q, tr] at this
    exact absurd this (by decide)
  have vR1 : ¬ v = R t + 1 := fun q => by
    have := a.2.1
    rw [q, tb] at this
    exact absurd this (by decide)
  have ih9 : ∀ j, j ≠ 9 → ix_i (ix_si h (R t) 9 w) (R t) j = ix_i h (R t) j := fun j hj => by rw [ix_i_si, if_neg (fun z => hj z.2)]
  have e7 := R5.2.2.2.1
  rw [ih9 7 (by decide)] at e7
  have P0 : cPo x h h 0 0 := cPo.rfl
  have clR : ∀ h1, ix_tg h1 (R t) = 3 → cCl h1 x (R t) := fun h1 hh => cCl_of hh (by decide)
  intro lv l0 l1 l2
  refine ie_aload_n d79_62 l0 ?_
  refine ie_geti (k := 2) d79_63 fl13_15 tr ?_
  refine ie_iconst (-1) d79_66 (by decide) ?_
  have key : ∀ (fl : Int32), (fl = if S 37 p = 0 then 1 else 0) → ix_E G 79 75 lv [.int fl] h (fun rv h' => rv = none ∧ cPo x h h' 1 6 ∧ ∃ U', cRel h' x (mT2 S u t p d ot n cs k0 c s (S 46 0) (S 8 t)) T A R U' D Lo Lr) := by
    intro fl hfl
    refine ie_istore_n d79_75 (by decide) ?_
    have m0 : (ix_set lv 3 (.int fl)).lookup 0 = some (.ref (R t)) := ix_lk3 (by decide) l0 rfl
    have m1 : (ix_set lv 3 (.int fl)).lookup 1 = some (.ref v) := ix_lk3 (by decide) l1 rfl
    have m2 : (ix_set lv 3 (.int fl)).lookup 2 = some (.int (S 2 0)) := ix_lk3 (by decide) l2 rfl
    have m3 : (ix_set lv 3 (.int fl)).lookup 3 = some (.int fl) := ix_lk1
    refine ie_aload_n d79_76 m0 ?_
    refine ie_aload_n d79_77 m1 ?_
    have d10 : ¬ S 46 0 = nI 1 → ¬ S 36 p = 0 → S 10 t = nI d ∧ S 12 t = nI ot := fun _ h36 => by
      obtain ⟨y1, y2⟩ := Ak h36
      obtain ⟨y3, y4, y5⟩ := iR.2.2.2.2.2.2.2.2.1 h36
      exact ⟨y3.symm.trans y2, y5.symm.trans y1⟩
    have w0' : ∀ S1 : MS, S1 37 p = S 37 p → S1 2 0 = S 2 0 → S1 37 p = 0 → w = S1 2 0 := fun S1 y1 y2 y3 => by
      rw [y2, n12, hw, if_pos (y1.symm.trans y3)]
    rcases hK with K | K | K
    · -- METADATA
      refine ie_callVx [_] d79_78 ok80 rm79_80 cl13_79 rfl rfl (Nat.le_of_ble_eq_true rfl) (Nat.le_of_ble_eq_true rfl) tr (s80_1 tr a.2.1 (by rw [a.2.2.2.1, K])) ?_
      have C1 := H_meta I C hv ho hp
      have eT : mT2 S u t p d ot n cs k0 c s (S 46 0) (S 8 t) = mT6 (if S 36 p = 0 then mK1 S p else S) u t p d ot n cs k0 c (nI 0) (S 8 t) := by
        unfold mT2
        rw [K, if_pos rfl]
        split <;> rw [mT3_n (by decide), mT4_n (by decide)]
      rw [eT]
      have kk : S 46 3 = S 10 t ∧ S 46 4 = S 11 t ∧ S 46 5 = S 12 t := by
        rcases ck with y | y | y | y | y | y
        · exact ⟨y.2.2.1, y.2.2.2.1, y.2.2.2.2.1⟩
        · exact absurd (K.symm.trans y.1) (by decide)
        · exact absurd (K.symm.trans y.1) (by decide)
        · exact absurd (K.symm.trans y.1) (by decide)
        · exact absurd (K.symm.trans y.1) (by decide)
        · exact absurd (K.symm.trans y.1) (by decide)
      have I1 : mInv (if S 36 p = 0 then mK1 S p else S) := by
        split
        · exact mInv_k1 I hv hop hp25 hp6 kk
        · exact I
      have F : ∀ k, k ∉ [32, 33, 34, 36] → (if S 36 p = 0 then mK1 S p else S) k = S k := fun k hk => by
        split
        · simp only [List.mem_cons, List.not_mem_nil, or_false, not_or] at hk
          unfold mK1
          rw [mset_kk hk.2.2.1, mset_kk hk.2.1, mset_kk hk.1, mset_kk hk.2.2.2]
        · rfl
      have bk := Bk K
      generalize (if S 36 p = 0 then mK1 S p else S) = S1 at *
      have C2 : cRel (ix_si (ix_si h (R t) 5 1) (R t) 9 w) x S1 T A R U D Lo Lr := cRel_e I1 C1 (fun b => si_cm (by omega) b) rfl
      have cv : ceq h (ix_si h (R t) 5 1) v := (sw.rfl.si).1 v vR
      refine ie_aload_n d79_81 m1 ?_
      refine ie_geti (k := 7) d79_82 fl13_70 a.2.1 ?_
      rw [cv.2.2.1, a.2.2.2.1, K]
      refine ie_iconst (nI 3) d79_85 (by decide) ?_
      refine ie_icmp_ne 106 d79_86 (by decide) (fun _ => ?_) (fun z => absurd z (by decide))
      have e2 : S 2 0 = S1 2 0 := by rw [F 2 (by decide)]
      rw [e2] at m2
      refine ie_mono (s79_6 (v := v) (fl := fl) (xf := nI 0) (y := S 8 t) I1 C2 (cAll_c L (F 13 (by decide)) (F 23 (by decide))) ((vT_c F (by decide)).mpr hv) (by rw [F 23 (by decide)]; exact ho) (mTH_L F (by decide) X) (fun y => by rw [F 37 (by decide)] at y; rw [F 27 (by decide)]; exact An y) (fun _ => by rw [F 10 (by decide), F 12 (by decide), ← kk.1, ← kk.2.2]; exact bk) (by rw [F 8 (by decide)]) (w0' S1 (by rw [F 37 (by decide)]) e2.symm) (fun y => ?_) _ m0 m2 m3) (fun rv h' hq => ⟨hq.1, ((P0.si (clR _ tr)).tr hq.2.1).m (by decide) (by decide), hq.2.2⟩)
      rw [F 37 (by decide)] at y
      refine ⟨by rw [hfl, if_neg y]; rfl, Or.inl ⟨rfl, ?_⟩⟩
      rw [ix_i_si, if_neg (fun z => absurd z.2 (by decide)), hw, if_neg y]
    · -- DATA
      obtain ⟨s1, s2⟩ := Bs K
      obtain ⟨l, lb1, lb2, l4⟩ : ∃ l, 1 ≤ l ∧ l ≤ 4 ∧ S 46 4 = nI l := by
        rcases ck with y | y | y | y | y | y
        · exact absurd (K.symm.trans y.1) (by decide)
        · obtain ⟨l, e1, e2, e3⟩ := y.2.2.2.1
          exact ⟨l, e1, e2, e3⟩
        · exact absurd (K.symm.trans y.1) (by decide)
        · exact absurd (K.symm.trans y.1) (by decide)
        · exact absurd (K.symm.trans y.1) (by decide)
        · exact absurd (K.symm.trans y.1) (by decide)
      have a7 := a.2.2.2.2.2.2.1 K
      have a3 : ix_i h v 3 = nI s := by rw [a.2.2.2.2.2.1, if_neg (by rw [K]; decide), s1]
      have E81 := s81 (G := G) tr rc.2.2.2.2.2.2.1 tb rc.2.2.2.2.2.2.2.2.1 a.2.1 a3 s2 (a7.1.trans l4) lb2
      refine ie_callVx [_] d79_78 ok80 rm79_80 cl13_79 rfl rfl (Nat.le_of_ble_eq_true rfl) (Nat.le_of_ble_eq_true rfl) tr (s80_2 tr a.2.1 (by rw [a.2.2.2.1, K]) E81) ?_
      have e6 : ix_i h (R t) 6 &&& (nI 1 <<< (nI s &&& 31)) = 0 ↔ S 39 (16 * p + s) = 0 := by
        rw [rb_tst (by omega), ← ih9 6 (by decide), R5.2.2.1 s (by omega)]
        exact ⟨fun z => Classical.byContradiction fun y => z ⟨s2, y⟩, fun z y => y.2 z⟩
      have eT : mT2 S u t p d ot n cs k0 c s (S 46 0) (S 8 t) = mT6 (if S 39 (16 * p + s) = 0 then mD1 S p s else S) u t p d ot n cs k0 c (nI 0) (S 8 t) := by
        unfold mT2
        rw [K, if_neg (by decide)]
        unfold mT3
        rw [if_pos rfl]
        split <;> rw [mT4_n (by decide)]
      rw [eT]
      have F : ∀ k, k ∉ [38, 39] → (if S 39 (16 * p + s) = 0 then mD1 S p s else S) k = S k := fun k hk => by
        split
        · simp only [List.mem_cons, List.not_mem_nil, or_false, not_or] at hk
          unfold mD1
          rw [mset_kk hk.1, mset_kk hk.2]
        · rfl
      have I1 : mInv (if S 39 (16 * p + s) = 0 then mD1 S p s else S) := by
        split
        · exact mInv_d1 I hv hop hp25 hp6 s2 (by rw [l4]; exact bw.of lb1 lb2)
        · exact I
      have W : ∃ h1, (if ix_i h (R t) 6 &&& (nI 1 <<< (nI s &&& 31)) = 0 then hBy (ix_si h (R t) 6 (ix_i h (R t) 6 ||| (nI 1 <<< (nI s &&& 31)))) (R t) s (ix_i h v 5) l else h) = h1 ∧ cRel (ix_si h1 (R t) 9 w) x (if S 39 (16 * p + s) = 0 then mD1 S p s else S) T A R U D Lo Lr ∧ ceq h h1 v ∧ cPo x h h1 0 0 ∧ ix_i h1 (R t) 9 = ix_i h (R t) 9 := by
        refine ⟨_, rfl, ?_⟩
        by_cases q : S 39 (16 * p + s) = 0
        · rw [if_pos q] at I1 ⊢
          rw [if_pos (e6.mpr q)]
          have C1 := H_data (v := ix_i h v 5) (l := l) I C hv ho hp s2 q lb1 lb2 l4 (fun y hy => a7.2 y (by rw [l4, nI_clamp (by omega)]; exact hy))
          rw [ih9 6 (by decide)] at C1
          refine ⟨cRel_e I1 C1 (fun b => (hBy_ce (fun b => si_cm (by omega) b) l b).tr (hBy_cm l b)) (by rw [(hBy_o l).2.1]; exact (hBy_o l).2.1), ((sw.rfl.si).1 v vR).tr ((hBy_o l).1 v vR1), hBy_po (P0.si (clR _ tr)) tb, ?_⟩
          rw [((hBy_o l).1 (R t) (by omega)).2.2.1, ix_i_si, if_neg (fun z => absurd z.2 (by decide))]
        · rw [if_neg q, if_neg (fun z => q (e6.mp z))]
          exact ⟨C, ceq.rfl, P0, rfl⟩
      obtain ⟨h1, W0, C2, cv, P1, i9⟩ := W
      rw [W0]
      generalize (if S 39 (16 * p + s) = 0 then mD1 S p s else S) = S1 at *
      refine ie_aload_n d79_81 m1 ?_
      refine ie_geti (k := 7) d79_82 fl13_70 (by rw [cv.1]; exact a.2.1) ?_
      rw [cv.2.2.1, a.2.2.2.1, K]
      refine ie_iconst (nI 3) d79_85 (by decide) ?_
      refine ie_icmp_ne 106 d79_86 (by decide) (fun _ => ?_) (fun z => absurd z (by decide))
      have e2 : S 2 0 = S1 2 0 := by rw [F 2 (by decide)]
      rw [e2] at m2
      refine ie_mono (s79_6 (v := v) (fl := fl) (xf := nI 0) (y := S 8 t) I1 C2 (cAll_c L (F 13 (by decide)) (F 23 (by decide))) ((vT_c F (by decide)).mpr hv) (by rw [F 23 (by decide)]; exact ho) (mTH_L F (by decide) X) (fun y => by rw [F 37 (by decide)] at y; rw [F 27 (by decide)]; exact An y) (fun y => by rw [F 36 (by decide)] at y; rw [F 10 (by decide), F 12 (by decide)]; exact d10 (by rw [K]; decide) y) (by rw [F 8 (by decide)]) (w0' S1 (by rw [F 37 (by decide)]) e2.symm) (fun y => ?_) _ m0 m2 m3) (fun rv h' hq => ⟨hq.1, (P1.tr hq.2.1).m (by decide) (by decide), hq.2.2⟩)
      rw [F 37 (by decide)] at y
      refine ⟨by rw [hfl, if_neg y]; rfl, Or.inl ⟨rfl, ?_⟩⟩
      rw [i9, hw, if_neg y]
    · -- END
      have a3 : ix_i h v 3 = S 46 3 := by rw [a.2.2.2.2.2.1, if_neg (by rw [K]; decide)]
      have a5 : ix_i h v 5 = S 46 4 := a.2.2.2.2.2.2.2.1 K
      have E80 := s80_3 (G := G) tr a.2.1 (by rw [a.2.2.2.1, K])
      rw [a3, a5] at E80
      have b3 : S 46 3 = -1 ∨ bw (S 46 3) 0 64 := by
        rcases ck with y | y | y | y | y | y
        · exact absurd (K.symm.trans y.1) (by decide)
        · exact absurd (K.symm.trans y.1) (by decide)
        · exact y.2.2.1
        · exact absurd (K.symm.trans y.1) (by decide)
        · exact absurd (K.symm.trans y.1) (by decide)
        · exact absurd (K.symm.trans y.1) (by decide)
      by_cases q3 : S 46 3 = -1
      · rw [if_neg (fun z => z.2 q3)] at E80
        refine ie_callVx [_] d79_78 ok80 rm79_80 cl13_79 rfl rfl (Nat.le_of_ble_eq_true rfl) (Nat.le_of_ble_eq_true rfl) tr E80 ?_
        have eT : mT2 S u t p d ot n cs k0 c s (S 46 0) (S 8 t) = mFin S u t p k0 c (nI 2) (S 8 t) := by
          unfold mT2
          rw [K, if_neg (by decide), mT3_n (by decide)]
          unfold mT4
          rw [if_pos rfl, if_neg (by rw [q3]; decide)]
        rw [eT]
        refine ie_aload_n d79_81 m1 ?_
        refine ie_geti (k := 7) d79_82 fl13_70 a.2.1 ?_
        rw [a.2.2.2.1, K]
        refine ie_iconst (nI 3) d79_85 (by decide) ?_
        refine ie_icmp_ne 106 d79_86 (by decide) (fun z => absurd rfl z) (fun _ => ?_)
        refine ie_aload_n d79_89 m1 ?_
        refine ie_geti (k := 7) d79_90 fl13_83 a.2.1 ?_
        rw [a3, q3]
        refine ie_iconst (-1) d79_93 (by decide) ?_
        refine ie_icmp_ne 106 d79_94 (by decide) (fun z => absurd rfl z) (fun _ => ?_)
        refine ie_aload_n d79_97 m0 ?_
        refine ie_iconst (nI 2) d79_98 (by decide) ?_
        refine ie_iload_n d79_99 m2 ?_
        refine ie_callV [_, _] d79_100 ok56 rm79_56 cl13_64 rfl rfl (Nat.le_of_ble_eq_true rfl) (Nat.le_of_ble_eq_true rfl) tr (s56b (p := p) (y := S 8 t) I C hv hop hp (bw.of (by decide) (by decide)) hu hu24 hH rfl) (fun rv h2 hq => ?_)
        obtain ⟨r1, r2, r3⟩ := hq
        subst r1
        refine ie_goto 150 d79_103 (by decide) ?_
        exact ie_vret d79_150 rfl ⟨rfl, r2, r3⟩
      · have b64 : bw (S 46 3) 0 64 := b3.elim (fun z => absurd z q3) id
        have ge0 : 0 ≤ S 46 3 := by
          obtain ⟨m, e1, e2, e3⟩ := b64
          rw [e3]; exact nI_pos' (by omega)
        refine ie_callVx [_] d79_78 ok80 rm79_80 cl13_79 rfl rfl (Nat.le_of_ble_eq_true rfl) (Nat.le_of_ble_eq_true rfl) tr E80 ?_
        have eT : mT2 S u t p d ot n cs k0 c s (S 46 0) (S 8 t) = if S 37 p = 0 then mT6 (mE1 S p) u t p d ot n cs k0 c (nI 1) (S 8 t) else mT6 S u t p d ot n cs k0 c (nI 0) (S 8 t) := by
          unfold mT2
          rw [K, if_neg (by decide), mT3_n (by decide)]
          unfold mT4
          rw [if_pos rfl, if_pos ge0]
          unfold mT5
          rw [if_pos rfl]
        rw [eT]
        have go : ∀ h1, ceq h h1 v → ix_E G 79 106 (ix_set lv 3 (.int fl)) [] h1 (fun rv h' => rv = none ∧ cPo x h h' 1 6 ∧ ∃ U', cRel h' x (if S 37 p = 0 then mT6 (mE1 S p) u t p d ot n cs k0 c (nI 1) (S 8 t) else mT6 S u t p d ot n cs k0 c (nI 0) (S 8 t)) T A R U' D Lo Lr) → ix_E G 79 81 (ix_set lv 3 (.int fl)) [] h1 (fun rv h' => rv = none ∧ cPo x h h' 1 6 ∧ ∃ U', cRel h' x (if S 37 p = 0 then mT6 (mE1 S p) u t p d ot n cs k0 c (nI 1) (S 8 t) else mT6 S u t p d ot n cs k0 c (nI 0) (S 8 t)) T A R U' D Lo Lr) := by
          intro h1 cv k
          refine ie_aload_n d79_81 m1 ?_
          refine ie_geti (k := 7) d79_82 fl13_70 (by rw [cv.1]; exact a.2.1) ?_
          rw [cv.2.2.1, a.2.2.2.1, K]
          refine ie_iconst (nI 3) d79_85 (by decide) ?_
          refine ie_icmp_ne 106 d79_86 (by decide) (fun z => absurd rfl z) (fun _ => ?_)
          refine ie_aload_n d79_89 m1 ?_
          refine ie_geti (k := 7) d79_90 fl13_83 (by rw [cv.1]; exact a.2.1) ?_
          rw [cv.2.2.1, a3]
          refine ie_iconst (-1) d79_93 (by decide) ?_
          exact ie_icmp_ne 106 d79_94 (by decide) (fun _ => k) (fun z => absurd z q3)
        by_cases h37 : S 37 p = 0
        · rw [if_pos ⟨by rw [e7, if_pos h37], q3⟩]
          refine go _ (((sw.rfl.si).1 v vR).tr ((sw.rfl.si).1 v vR)) ?_
          rw [if_pos h37]
          have C1 := H_end I C hv ho hp
          have I1 := mInv_e1 I hv hop hp25 hp6 b64
          have F : ∀ k, k ∉ [27, 28, 30, 37] → mE1 S p k = S k := fun k hk => by
            simp only [List.mem_cons, List.not_mem_nil, or_false, not_or] at hk
            unfold mE1
            rw [mset_kk hk.2.2.1, mset_kk hk.2.1, mset_kk hk.1, mset_kk hk.2.2.2]
          have f37 : mE1 S p 37 p = nI 1 := by unfold mE1; rw [mset_k (by decide), mset_k (by decide), mset_k (by decide), mset_s]
          have f27 : mE1 S p 27 p = S 46 3 := by unfold mE1; rw [mset_k (by decide), mset_k (by decide), mset_s]
          have ew : w = S 1 0 := by rw [hw, if_pos h37]
          have C2 : cRel (ix_si (ix_si (ix_si h (R t) 7 (S 46 3)) (R t) 8 (S 46 4)) (R t) 9 w) x (mE1 S p) T A R U D Lo Lr := by
            refine cRel_e I1 C1 (fun b => ?_) rfl
            rw [← ew]
            refine (ceq_si (fun b => ?_) b).tr (si_ov (v := w) b)
            exact (ceq_si (fun b => si_cm (by omega) b) b).tr (si_cm (by omega) b)
          have nb : S 46 3 = nI n := Bn K ge0 h37
          have z29 : S 29 p = 0 := iR.2.2.2.2.2.2.2.2.2.2.2 ho h37
          generalize mE1 S p = S1 at *
          have e2 : S 2 0 = S1 2 0 := by rw [F 2 (by decide)]
          rw [e2] at m2
          refine ie_mono (s79_6 (v := v) (fl := fl) (xf := nI 1) (y := S 8 t) I1 C2 (cAll_c L (F 13 (by decide)) (F 23 (by decide))) ((vT_c F (by decide)).mpr hv) (by rw [F 23 (by decide)]; exact ho) (mTH_L F (by decide) X) (fun _ => by rw [f27]; exact nb) (fun y => by rw [F 36 (by decide)] at y; rw [F 10 (by decide), F 12 (by decide)]; exact d10 (by rw [K]; decide) y) (by rw [F 8 (by decide)]) (fun y => by rw [f37] at y; exact absurd y (by decide)) (fun y => ?_) _ m0 m2 m3) (fun rv h' hq => ⟨hq.1, (((P0.si (clR _ tr)).si (clR _ tr)).tr hq.2.1).m (by decide) (by decide), hq.2.2⟩)
          refine ⟨by rw [hfl, if_pos h37]; rfl, Or.inr ⟨rfl, by rw [← e2, n12]; exact ew, by rw [F 29 (by decide)]; exact z29⟩⟩
        · have e27 := An h37
          rw [if_neg (fun z => by
            have := z.1
            rw [e7, if_neg h37, e27] at this
            exact nI_m1 (by omega) this)]
          refine go _ ceq.rfl ?_
          rw [if_neg h37]
          refine ie_mono (s79_6 (v := v) (fl := fl) (xf := nI 0) (y := S 8 t) I C L hv ho X An (fun y => d10 (by rw [K]; decide) y) rfl (fun y => absurd y h37) (fun y => ?_) _ m0 m2 m3) (fun rv h' hq => hq)
          refine ⟨by rw [hfl, if_neg h37]; rfl, Or.inl ⟨rfl, ?_⟩⟩
          rw [hw, if_neg h37]
  rw [e7]
  by_cases h37 : S 37 p = 0
  · rw [if_pos h37]
    refine ie_icmp_ne 74 d79_67 (by decide) (fun z => absurd rfl z) (fun _ => ?_)
    refine ie_iconst 1 d79_70 (by decide) ?_
    refine ie_goto 75 d79_71 (by decide) ?_
    exact key 1 (by rw [if_pos h37])
  · have e27 := An h37
    rw [if_neg h37, e27]
    refine ie_icmp_ne 74 d79_67 (by decide) (fun _ => ?_) (fun z => absurd z (nI_m1 (by omega)))
    refine ie_iconst 0 d79_74 (by decide) ?_
    exact key 0 (by rw [if_neg h37])
