/-! ===== the class's cancel and suspend ===== -/
theorem W_drop {h : ix_H} {x : Nat} {S : MS} {T A R U D : Nat → Nat} {Lo Lr : Nat → List Nat} {t : Nat} (I : mInv S) (C : cRel h x S T A R U D Lo Lr) (hv : vT S t) (ho : S 13 t = nI 5) : cRel (ix_si (ix_si (ix_si (ix_si (ix_si (ix_si h (A t) 6 1) (A t) 5 (ix_i h (A t) 4)) (A t) 9 0) (A t) 10 0) (A t) 11 0) (A t) 8 0) x (mDrop S t) T A R U D Lo Lr := by
  have o := C.so hv ho
  have e : ∀ k, k ∉ [15, 19, 20, 21] → mDrop S t k = S k := fun k hk => by
    simp only [List.mem_cons, List.not_mem_nil, or_false, not_or] at hk
    unfold mDrop
    rw [mset_kk hk.2.1, mset_kk hk.2.2.1, mset_kk hk.1, mset_kk hk.2.2.2]
  have P : iOf h (ix_si (ix_si (ix_si (ix_si (ix_si (ix_si h (A t) 6 1) (A t) 5 (ix_i h (A t) 4)) (A t) 9 0) (A t) 10 0) (A t) 11 0) (A t) 8 0) (A t) [(8, 0), (11, 0), (10, 0), (9, 0), (5, ix_i h (A t) 4), (6, 1)] := ((((((iOf.nil (fun _ => rfl)).si).si).si).si).si).si
  generalize hh : (ix_si (ix_si (ix_si (ix_si (ix_si (ix_si h (A t) 6 1) (A t) 5 (ix_i h (A t) 4)) (A t) 9 0) (A t) 10 0) (A t) 11 0) (A t) 8 0) = h' at *
  have W : sw (A t) h h' := by rw [← hh]; exact sw.rfl.si.si.si.si.si.si
  refine cRel_sn I C hv W.1 W.2 (fun k hk => e k (fun z => hk (by revert z; simp only [List.mem_cons, List.not_mem_nil, or_false]; omega))) (fun k _ _ j hj => ?_) (cSn_mk (C.tx hv).2.1 ⟨by rw [← hh]; rfl, fun _ => by rw [← hh]; rfl, (P 3).trans rfl⟩ (by rw [e 0 (by decide)]) (fun _ => ?_) (fun z => absurd (by rw [e 13 (by decide)]; exact ho) z)) (cRw_fr C.rw e (by decide))
  · unfold mDrop
    by_cases q19 : k = 19
    · subst q19; rw [mset_j rfl hj, mset_k (by decide), mset_k (by decide), mset_k (by decide)]
    · rw [mset_k q19]
      by_cases q20 : k = 20
      · subst q20; rw [mset_j rfl hj, mset_k (by decide), mset_k (by decide)]
      · rw [mset_k q20]
        by_cases q15 : k = 15
        · subst q15; rw [mset_j rfl hj, mset_k (by decide)]
        · rw [mset_k q15]
          by_cases q21 : k = 21
          · subst q21; rw [mset_j rfl hj]
          · rw [mset_k q21]
  · obtain ⟨o1, o2, o3, o4, o5, o6, o7, o8, o9, o10, o11, o12⟩ := o
    have en : fN (mDrop S t) t = fN S t := fN_c e (by decide)
    have r15 : mDrop S t 15 t = 0 := by unfold mDrop; rw [mset_k (by decide), mset_k (by decide), mset_s]
    have r19 : mDrop S t 19 t = 0 := by unfold mDrop; rw [mset_s]
    have r20 : mDrop S t 20 t = 0 := by unfold mDrop; rw [mset_k (by decide), mset_s]
    have r21 : mDrop S t 21 t = 1 := by unfold mDrop; rw [mset_k (by decide), mset_k (by decide), mset_k (by decide), mset_s]
    unfold cSo
    rw [en, r15, r19, r20, r21, e 14 (by decide), e 16 (by decide), e 17 (by decide), e 18 (by decide), e 22 (by decide)]
    refine ⟨(P 15).trans o1, (P 4).trans o2, ?_, (P 6).trans rfl, (P 7).trans o5, (P 8).trans rfl, Or.inl ⟨(P 9).trans rfl, rb_0 (by decide)⟩, fun q hq => ?_, (P 11).trans rfl, (P 12).trans o10, fun z => absurd rfl z, (P 14).trans o12⟩
    · rw [if_pos rfl, if_neg (by decide)]
      exact (P 5).trans o2
    · rw [show ix_i h' (A t) 10 = 0 from (P 10).trans rfl]
      exact ⟨fun z => absurd z (rb_0 hq), fun z => z.1⟩
theorem W_susp {h : ix_H} {x : Nat} {S : MS} {T A R U D : Nat → Nat} {Lo Lr : Nat → List Nat} {t : Nat} {on : Int32} (I : mInv S) (C : cRel h x S T A R U D Lo Lr) (hv : vT S t) (ho : S 13 t = nI 5) : cRel (ix_si h (A t) 7 on) x (mset S 22 t on) T A R U D Lo Lr := by
  have o := C.so hv ho
  have e : ∀ k, k ≠ 22 → mset S 22 t on k = S k := fun k hk => mset_kk hk
  have P : iOf h (ix_si h (A t) 7 on) (A t) [(7, on)] := (iOf.nil (fun _ => rfl)).si
  generalize hh : ix_si h (A t) 7 on = h' at *
  have W : sw (A t) h h' := by rw [← hh]; exact sw.rfl.si
  refine cRel_sn I C hv W.1 W.2 (fun k hk => e k (fun z => hk (by rw [z]; decide))) (fun k _ _ j hj => ?_) (cSn_mk (C.tx hv).2.1 ⟨by rw [← hh]; rfl, fun _ => by rw [← hh]; rfl, (P 3).trans rfl⟩ (by rw [e 0 (by decide)]) (fun _ => ?_) (fun z => absurd (by rw [e 13 (by decide)]; exact ho) z)) (cRw_fr C.rw (L := [22]) mset_L (by decide))
  · by_cases q : k = 22
    · subst q; exact mset_j rfl hj
    · rw [e k q]
  · obtain ⟨o1, o2, o3, o4, o5, o6, o7, o8, o9, o10, o11, o12⟩ := o
    have en : fN (mset S 22 t on) t = fN S t := fN_c mset_L (by decide)
    unfold cSo
    rw [en, e 14 (by decide), e 15 (by decide), e 16 (by decide), e 17 (by decide), e 18 (by decide), e 19 (by decide), e 20 (by decide), e 21 (by decide), mset_s]
    refine ⟨(P 15).trans o1, (P 4).trans o2, (P 5).trans o3, (P 6).trans o4, (P 7).trans rfl, (P 8).trans o6, ?_, fun q hq => ?_, (P 11).trans o9, (P 12).trans o10, fun z => (P 13).trans (o11 z), (P 14).trans o12⟩
    · rw [show ix_i h' (A t) 9 = ix_i h (A t) 9 from (P 9).trans rfl]; exact o7
    · rw [show ix_i h' (A t) 10 = ix_i h (A t) 10 from (P 10).trans rfl]; exact o8 q hq
set_option maxRecDepth 100000 in
set_option maxHeartbeats 4000000 in
/-- Sender.beCancelled -/
theorem s25 {G : ix_G} {h : ix_H} {s : Nat} (ht : ix_tg h s = 4) : ix_Ev G 25 0 (lv_args 0 [.ref s]) [] h (some (.int (bI (ix_i h s 15 = 0 ∧ ix_i h s 6 = 0)))) (if ix_i h s 15 = 0 ∧ ix_i h s 6 = 0 then (ix_si (ix_si (ix_si (ix_si (ix_si (ix_si h s 6 1) s 5 (ix_i h s 4)) s 9 0) s 10 0) s 11 0) s 8 0) else h) := by
  refine ix_ofE ?_
  first | refine ie_aload_n d25_0 rfl ?_ | refine ie_aload_nN d25_0 rfl ?_
  refine ie_callVx [] d25_1 ok26 rm25_26 cl10_50 rfl rfl (Nat.le_of_ble_eq_true rfl) (Nat.le_of_ble_eq_true rfl) (by first | assumption | (simp only [ix_tg_si, ix_tg_sr, ix_tg_sl]; assumption)) (s26 ht) ?_
  refine ie_if_eq 14 d25_4 (by decide) (fun c4 => ?_) (fun c4 => ?_)
  · skip
    rw [bI_f (fun z => by first | exact bI_0.mp c4 z.1 | exact c11 z.2), if_neg (fun z => by first | exact bI_0.mp c4 z.1 | exact c11 z.2)]
    refine ie_iconst 0 d25_14 (by decide) ?_
    exact ie_iret d25_15 rfl (by decide) ⟨rfl, rfl⟩
  · skip
    first | refine ie_aload_n d25_7 rfl ?_ | refine ie_aload_nN d25_7 rfl ?_
    refine ie_geti d25_8 fl10_54 (by first | assumption | (simp only [ix_tg_si, ix_tg_sr, ix_tg_sl]; assumption)) ?_
    refine ie_if_eq 16 d25_11 (by decide) (fun c11 => ?_) (fun c11 => ?_)
    · skip
      have q : ix_i h s 15 = 0 ∧ ix_i h s 6 = 0 := ⟨Classical.byContradiction fun z => c4 (bI_0.mpr z), c11⟩
      rw [bI_t q, if_pos q]
      refine ie_aload_n d25_16 rfl ?_
      refine ie_iconst (1) d25_17 (by decide) ?_
      refine ie_puti d25_18 fl10_54 (Or.inl rfl) (by first | assumption | (simp only [ix_tg_si, ix_tg_sr, ix_tg_sl]; assumption)) (by first | rfl | decide | exact (ix_bz (by assumption)).1) (by first | rfl | decide | exact (ix_bz (by assumption)).2) ?_
      first | refine ie_aload_n d25_21 rfl ?_ | refine ie_aload_nN d25_21 rfl ?_
      first | refine ie_aload_n d25_22 rfl ?_ | refine ie_aload_nN d25_22 rfl ?_
      refine ie_geti d25_23 fl10_44 (by first | assumption | (simp only [ix_tg_si, ix_tg_sr, ix_tg_sl]; assumption)) ?_
      refine ie_puti d25_26 fl10_11 (Or.inl rfl) (by first | assumption | (simp only [ix_tg_si, ix_tg_sr, ix_tg_sl]; assumption)) rfl rfl ?_
      first | refine ie_aload_n d25_29 rfl ?_ | refine ie_aload_nN d25_29 rfl ?_
      refine ie_iconst (0) d25_30 (by decide) ?_
      refine ie_puti d25_31 fl10_58 (Or.inl rfl) (by first | assumption | (simp only [ix_tg_si, ix_tg_sr, ix_tg_sl]; assumption)) (by first | rfl | decide | exact (ix_bz (by assumption)).1) (by first | rfl | decide | exact (ix_bz (by assumption)).2) ?_
      first | refine ie_aload_n d25_34 rfl ?_ | refine ie_aload_nN d25_34 rfl ?_
      refine ie_iconst (0) d25_35 (by decide) ?_
      refine ie_puti d25_36 fl10_61 (Or.inl rfl) (by first | assumption | (simp only [ix_tg_si, ix_tg_sr, ix_tg_sl]; assumption)) rfl rfl ?_
      first | refine ie_aload_n d25_39 rfl ?_ | refine ie_aload_nN d25_39 rfl ?_
      refine ie_iconst (0) d25_40 (by decide) ?_
      refine ie_puti d25_41 fl10_64 (Or.inl rfl) (by first | assumption | (simp only [ix_tg_si, ix_tg_sr, ix_tg_sl]; assumption)) rfl rfl ?_
      first | refine ie_aload_n d25_44 rfl ?_ | refine ie_aload_nN d25_44 rfl ?_
      refine ie_iconst (0) d25_45 (by decide) ?_
      refine ie_puti d25_46 fl10_67 (Or.inl rfl) (by first | assumption | (simp only [ix_tg_si, ix_tg_sr, ix_tg_sl]; assumption)) (by first | rfl | decide | exact (ix_bz (by assumption)).1) (by first | rfl | decide | exact (ix_bz (by assumption)).2) ?_
      refine ie_iconst (1) d25_49 (by decide) ?_
      exact ie_iret d25_50 rfl (by decide) ⟨rfl, by rw [ix_i_si, if_neg (fun z => absurd z.2 (by decide))]⟩
    · skip
      rw [bI_f (fun z => by first | exact bI_0.mp c4 z.1 | exact c11 z.2), if_neg (fun z => by first | exact bI_0.mp c4 z.1 | exact c11 z.2)]
      refine ie_iconst 0 d25_14 (by decide) ?_
      exact ie_iret d25_15 rfl (by decide) ⟨rfl, rfl⟩
set_option maxRecDepth 100000 in
set_option maxHeartbeats 4000000 in
/-- Sender.beSuspended -/
theorem s28 {G : ix_G} {h : ix_H} {s : Nat} {on : Int32} (ht : ix_tg h s = 4) (hon : on = 0 ∨ on = 1) : ix_Ev G 28 0 (lv_args 0 [.ref s, .int on]) [] h (some (.int (bI (ix_i h s 15 = 0 ∧ ¬ ix_i h s 7 = on)))) (if ix_i h s 15 = 0 ∧ ¬ ix_i h s 7 = on then ix_si h s 7 on else h) := by
  refine ix_ofE ?_
  first | refine ie_aload_n d28_0 rfl ?_ | refine ie_aload_nN d28_0 rfl ?_
  refine ie_callVx [] d28_1 ok26 rm28_26 cl10_50 rfl rfl (Nat.le_of_ble_eq_true rfl) (Nat.le_of_ble_eq_true rfl) (by first | assumption | (simp only [ix_tg_si, ix_tg_sr, ix_tg_sl]; assumption)) (s26 ht) ?_
  refine ie_if_eq 15 d28_4 (by decide) (fun c4 => ?_) (fun c4 => ?_)
  · skip
    rw [bI_f (fun z => by first | exact bI_0.mp c4 z.1 | exact z.2 (Classical.byContradiction c12) | exact z.2 c12), if_neg (fun z => by first | exact bI_0.mp c4 z.1 | exact z.2 (Classical.byContradiction c12) | exact z.2 c12)]
    refine ie_iconst 0 d28_15 (by decide) ?_
    exact ie_iret d28_16 rfl (by decide) ⟨rfl, rfl⟩
  · skip
    first | refine ie_aload_n d28_7 rfl ?_ | refine ie_aload_nN d28_7 rfl ?_
    refine ie_geti d28_8 fl10_70 (by first | assumption | (simp only [ix_tg_si, ix_tg_sr, ix_tg_sl]; assumption)) ?_
    refine ie_iload_n d28_11 rfl ?_
    refine ie_icmp_ne 17 d28_12 (by decide) (fun c12 => ?_) (fun c12 => ?_)
    · skip
      have q : ix_i h s 15 = 0 ∧ ¬ ix_i h s 7 = on := ⟨Classical.byContradiction fun z => c4 (bI_0.mpr z), c12⟩
      rw [bI_t q, if_pos q]
      refine ie_aload_n d28_17 rfl ?_
      refine ie_iload_n d28_18 rfl ?_
      refine ie_puti d28_19 fl10_70 (Or.inl rfl) ht (by rcases hon with w | w <;> rw [w] <;> rfl) (by rcases hon with w | w <;> rw [w] <;> rfl) ?_
      refine ie_iconst (1) d28_22 (by decide) ?_
      exact ie_iret d28_23 rfl (by first | rfl | decide) ⟨rfl, rfl⟩
    · skip
      rw [bI_f (fun z => by first | exact bI_0.mp c4 z.1 | exact z.2 (Classical.byContradiction c12) | exact z.2 c12), if_neg (fun z => by first | exact bI_0.mp c4 z.1 | exact z.2 (Classical.byContradiction c12) | exact z.2 c12)]
      refine ie_iconst 0 d28_15 (by decide) ?_
      exact ie_iret d28_16 rfl (by decide) ⟨rfl, rfl⟩
set_option maxRecDepth 100000 in
set_option maxHeartbeats 4000000 in
/-- cancel -/
theorem s17 {G : ix_G} {h : ix_H} {x : Nat} {S : MS} (I : mInv S) (B : cB h x S) (e n : Int32) : ix_E G 17 0 (lv_args 0 [.ref x, .int e, .int n]) [] h (fun rv h' => rv = some (.int (bP (mCan S e n))) ∧ cFo x h h' 0 0 ∧ cB h' x (mCancel S e n)) := by
  have B0 : cB h x (m0 S) := B.m0 I
  have I0 := mInv_m0 I
  obtain ⟨ht, T, A, R, U, D, Lo, Lr, C, L⟩ := id B0
  have em : mKnown (m0 S) e n = mKnown S e n := mKnown_m0
  refine ie_aload_n d17_0 rfl ?_
  refine ie_iload_n d17_1 rfl ?_
  refine ie_iload_n d17_2 rfl ?_
  by_cases hk : 0 ≤ mKnown S e n
  · obtain ⟨t, h1, hv⟩ := known_v I0 (show 0 ≤ mKnown (m0 S) e n by rw [em]; exact hk)
    have t6 := hv.1
    have w := (C.tx hv).2.1
    refine ie_callVx [_, _] d17_3 ok18 rm17_18 cl1_129 rfl rfl (Nat.le_of_ble_eq_true rfl) (Nat.le_of_ble_eq_true rfl) C.fx.1 (s18k I0 C h1 hv) ?_
    refine ie_astore_n d17_6 (by decide) ?_
    refine ie_aload_n d17_7 rfl ?_
    refine ie_ifnull 22 d17_8 (by decide) ?_
    refine ie_aload_n d17_11 rfl ?_
    refine ie_callVx [] d17_12 ok25 rm17_25 cl1_133 rfl rfl (Nat.le_of_ble_eq_true rfl) (Nat.le_of_ble_eq_true rfl) w.2.1 (s25 w.2.1) ?_
    rw [em] at h1
    have ec : (ix_i h (A t) 15 = 0 ∧ ix_i h (A t) 6 = 0) ↔ mCan S e n := by
      unfold mCan
      rw [h1, nI_clamp (by omega), show S 13 t = m0 S 13 t from by unfold m0; rw [mset_k (by decide)], show S 21 t = m0 S 21 t from by unfold m0; rw [mset_k (by decide)]]
      constructor
      · rintro ⟨y1, y2⟩
        have o : m0 S 13 t = nI 5 := Classical.byContradiction fun o => by
          have e1 := w.2.2.2.2.2.2.2 o
          obtain ⟨m, m1, m2, m3⟩ := (I0.T hv).2.2.2.2.2.1
          rw [y1, m3] at e1
          exact nI_ne0 (by omega) (by omega) e1.symm
        exact ⟨nI_pos' (by omega), o, by rw [← (C.so hv o).2.2.2.1]; exact y2⟩
      · rintro ⟨-, y1, y2⟩
        exact ⟨(C.so hv y1).1, by rw [(C.so hv y1).2.2.2.1]; exact y2⟩
    by_cases q : mCan S e n
    · rw [bP_t q, bI_t (ec.mpr q), if_pos (ec.mpr q)]
      refine ie_if_eq 22 d17_15 (by decide) (fun z => absurd z (by decide)) (fun _ => ?_)
      refine ie_iconst 1 d17_18 (by decide) ?_
      refine ie_goto 23 d17_19 (by decide) ?_
      have o : m0 S 13 t = nI 5 := by
        have := q.2.1
        rw [h1, nI_clamp (by omega)] at this
        unfold m0; rw [mset_k (by decide)]; exact this
      refine ie_iret d17_23 rfl (by decide) ⟨rfl, ?_, ?_⟩
      · have cc : ∀ h1, ix_tg h1 (A t) = 4 → cCl h1 x (A t) := fun h1 hh => cCl_of hh (by decide)
        exact ((((((cPo.rfl.si (cc _ w.2.1)).si (cc _ w.2.1)).si (cc _ w.2.1)).si (cc _ w.2.1)).si (cc _ w.2.1)).si (cc _ w.2.1)).o
      · have em2 : mCancel S e n = mDrop (m0 S) t := by
          unfold mCancel
          rw [if_pos q, h1, nI_clamp (by omega)]
        have e : ∀ k, k ∉ [15, 19, 20, 21] → mDrop (m0 S) t k = m0 S k := fun k hk => by
          simp only [List.mem_cons, List.not_mem_nil, or_false, not_or] at hk
          unfold mDrop
          rw [mset_kk hk.2.1, mset_kk hk.2.2.1, mset_kk hk.1, mset_kk hk.2.2.2]
        rw [em2]
        refine cB.mk ?_ (W_drop I0 C hv o) L (e 13 (by decide)) (e 23 (by decide))
        rw [e 1 (by decide), ← ht]
        have nx : ¬ x = A t := fun z => by have := w.1; omega
        exact ((sw.rfl (s := A t)).si.si.si.si.si.si.1 x nx).2.2.1 3
    · rw [bP_f q, bI_f (fun z => q (ec.mp z)), if_neg (fun z => q (ec.mp z))]
      refine ie_if_eq 22 d17_15 (by decide) (fun _ => ?_) (fun z => absurd rfl z)
      refine ie_iconst 0 d17_22 (by decide) ?_
      refine ie_iret d17_23 rfl (by decide) ⟨rfl, cFo.rfl, ?_⟩
      unfold mCancel
      rw [if_neg q]; exact B0
  · have q : ¬ mCan S e n := fun z => hk z.1
    rw [bP_f q]
    refine ie_callVx [_, _] d17_3 ok18 rm17_18 cl1_129 rfl rfl (Nat.le_of_ble_eq_true rfl) (Nat.le_of_ble_eq_true rfl) C.fx.1 (s18z I0 C (by rw [em]; exact hk)) ?_
    refine ie_astore_nN d17_6 (by decide) ?_
    refine ie_aload_nN d17_7 rfl ?_
    refine ie_ifnullN 22 d17_8 (by decide) ?_
    refine ie_iconst 0 d17_22 (by decide) ?_
    refine ie_iret d17_23 rfl (by decide) ⟨rfl, cFo.rfl, ?_⟩
    unfold mCancel
    rw [if_neg q]; exact B0
set_option maxRecDepth 100000 in
set_option maxHeartbeats 4000000 in
/-- suspend -/
theorem s27 {G : ix_G} {h : ix_H} {x : Nat} {S : MS} (I : mInv S) (B : cB h x S) (e n : Int32) {on : Int32} (hon : on = 0 ∨ on = 1) : ix_E G 27 0 (lv_args 0 [.ref x, .int e, .int n, .int on]) [] h (fun rv h' => rv = some (.int (bP (mSus S e n on))) ∧ cFo x h h' 0 0 ∧ cB h' x (mSuspend S e n on)) := by
  have B0 : cB h x (m0 S) := B.m0 I
  have I0 := mInv_m0 I
  obtain ⟨ht, T, A, R, U, D, Lo, Lr, C, L⟩ := id B0
  have em : mKnown (m0 S) e n = mKnown S e n := mKnown_m0
  refine ie_aload_n d27_0 rfl ?_
  refine ie_iload_n d27_1 rfl ?_
  refine ie_iload_n d27_2 rfl ?_
  by_cases hk : 0 ≤ mKnown S e n
  · obtain ⟨t, h1, hv⟩ := known_v I0 (show 0 ≤ mKnown (m0 S) e n by rw [em]; exact hk)
    have t6 := hv.1
    have w := (C.tx hv).2.1
    refine ie_callVx [_, _] d27_3 ok18 rm27_18 cl1_129 rfl rfl (Nat.le_of_ble_eq_true rfl) (Nat.le_of_ble_eq_true rfl) C.fx.1 (s18k I0 C h1 hv) ?_
    refine ie_astore d27_6 (by decide) ?_
    refine ie_aload d27_8 rfl ?_
    refine ie_ifnull 26 d27_10 (by decide) ?_
    refine ie_aload d27_13 rfl ?_
    refine ie_iload_n d27_15 rfl ?_
    refine ie_callVx [_] d27_16 ok28 rm27_28 cl1_137 rfl rfl (Nat.le_of_ble_eq_true rfl) (Nat.le_of_ble_eq_true rfl) w.2.1 (s28 w.2.1 hon) ?_
    rw [em] at h1
    have ec : (ix_i h (A t) 15 = 0 ∧ ¬ ix_i h (A t) 7 = on) ↔ mSus S e n on := by
      unfold mSus
      rw [h1, nI_clamp (by omega), show S 13 t = m0 S 13 t from by unfold m0; rw [mset_k (by decide)], show S 22 t = m0 S 22 t from by unfold m0; rw [mset_k (by decide)]]
      constructor
      · rintro ⟨y1, y2⟩
        have o : m0 S 13 t = nI 5 := Classical.byContradiction fun o => by
          have e1 := w.2.2.2.2.2.2.2 o
          obtain ⟨m, m1, m2, m3⟩ := (I0.T hv).2.2.2.2.2.1
          rw [y1, m3] at e1
          exact nI_ne0 (by omega) (by omega) e1.symm
        exact ⟨nI_pos' (by omega), o, by rw [← (C.so hv o).2.2.2.2.1]; exact y2⟩
      · rintro ⟨-, y1, y2⟩
        exact ⟨(C.so hv y1).1, by rw [(C.so hv y1).2.2.2.2.1]; exact y2⟩
    by_cases q : mSus S e n on
    · rw [bP_t q, bI_t (ec.mpr q), if_pos (ec.mpr q)]
      refine ie_if_eq 26 d27_19 (by decide) (fun z => absurd z (by decide)) (fun _ => ?_)
      refine ie_iconst 1 d27_22 (by decide) ?_
      refine ie_goto 27 d27_23 (by decide) ?_
      have o : m0 S 13 t = nI 5 := by
        have := q.2.1
        rw [h1, nI_clamp (by omega)] at this
        unfold m0; rw [mset_k (by decide)]; exact this
      refine ie_iret d27_27 rfl (by decide) ⟨rfl, (cPo.rfl.si (cCl_of w.2.1 (by decide))).o, ?_⟩
      have em2 : mSuspend S e n on = mset (m0 S) 22 t on := by
        unfold mSuspend
        rw [if_pos q, h1, nI_clamp (by omega)]
      rw [em2]
      refine cB.mk ?_ (W_susp I0 C hv o) L (mset_kk (by decide)) (mset_kk (by decide))
      rw [mset_k (by decide), ← ht, ix_i_si, if_neg (by have := w.1; omega)]
    · rw [bP_f q, bI_f (fun z => q (ec.mp z)), if_neg (fun z => q (ec.mp z))]
      refine ie_if_eq 26 d27_19 (by decide) (fun _ => ?_) (fun z => absurd rfl z)
      refine ie_iconst 0 d27_26 (by decide) ?_
      refine ie_iret d27_27 rfl (by decide) ⟨rfl, cFo.rfl, ?_⟩
      unfold mSuspend
      rw [if_neg q]; exact B0
  · have q : ¬ mSus S e n on := fun z => hk z.1
    rw [bP_f q]
    refine ie_callVx [_, _] d27_3 ok18 rm27_18 cl1_129 rfl rfl (Nat.le_of_ble_eq_true rfl) (Nat.le_of_ble_eq_true rfl) C.fx.1 (s18z I0 C (by rw [em]; exact hk)) ?_
    refine ie_astoreN d27_6 (by decide) ?_
    refine ie_aloadN d27_8 rfl ?_
    refine ie_ifnullN 26 d27_10 (by decide) ?_
    refine ie_iconst 0 d27_26 (by decide) ?_
    refine ie_iret d27_27 rfl (by decide) ⟨rfl, cFo.rfl, ?_⟩
    unfold mSuspend
    rw [if_neg q]; exact B0
