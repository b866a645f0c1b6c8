/-! ===== hear ===== -/
theorem out_cm {x r k tx : Nat} {h : ix_H} {v w to d l c : Int32} (h1 : r ≠ cLk x) (h2 : r ≠ cRo x) (h3 : r < ix_nx h) (b : Nat) : ceq (hOut x (ix_si h r k v) tx w to d l c) (ix_si (hOut x h tx w to d l c) r k v) b := by
  by_cases q : b = r
  · subst q
    have e1 : ceq (ix_si h b k v) (hOut x (ix_si h b k v) tx w to d l c) b := hOut_s h1 h2 h3
    have e2 : ceq h (hOut x h tx w to d l c) b := hOut_s h1 h2 h3
    refine e1.sy.tr ⟨e2.1, e2.2.1, fun j => ?_, e2.2.2.2⟩
    rw [ix_i_si, ix_i_si, e2.2.2.1]
  · have e := (sw.out (x := x) (tx := tx) (w := w) (to := to) (d := d) (l := l) (c := c) (sw.rfl.si (s := r) (k := k) (v := v) (h := h) (h1 := h)).sy h1).1 b q
    exact e.tr ((sw.rfl.si).1 b q)
theorem mSend_31 {S : MS} {u p : Nat} {kind to t a b c v : Int32} : mSend (mset S 31 p v) u kind to t a b c = mset (mSend S u kind to t a b c) 31 p v := by
  funext k
  by_cases q : k = 31
  · subst q
    rw [mSend_L 31 (by decide)]
    funext j
    rw [mset_if rfl, mset_if rfl, mSend_L 31 (by decide)]
  · rw [mSend_cg (mset_kk q), mset_kk q]
set_option maxRecDepth 100000 in
set_option maxHeartbeats 4000000 in
/-- hear, of a receiver that is open and hasn't ended -/
theorem s79_o {G : ix_G} {h : ix_H} {x : Nat} {S : MS} {T A R U D : Nat → Nat} {Lo Lr : Nat → List Nat} {e u t p d ot n cs k0 c s v : Nat} {w : Int32} (he : e = 1 - t / 320) (I : mInv S) (C : cRel (ix_si h (R t) 9 w) x (mset S 31 p (S 1 0)) T A R U D Lo Lr) (L : cAll S Lo Lr) (hv : vT S t) (ho : S 23 t = nI 5) (X : mTH S u t p d ot n cs k0 c) (An : mAn S p n) (Ak : mAk S p d ot) (ck : cK S t) (hK : S 46 0 = nI 1 ∨ S 46 0 = nI 2 ∨ S 46 0 = nI 3) (Bn : S 46 0 = nI 3 → 0 ≤ S 46 3 → S 37 p = 0 → S 46 3 = nI n) (Bs : S 46 0 = nI 2 → S 46 3 = nI s ∧ s < 16) (Bk : S 46 0 = nI 1 → S 46 3 = nI d ∧ S 46 5 = nI ot) (n12 : S 2 0 = S 1 0) (hw : w = if S 37 p = 0 then S 1 0 else ix_i h (R t) 9) (a : cUa h x S (T t) v) : ix_E G 79 0 (lv_args 0 [.ref (R t), .ref v, .int (S 2 0)]) [] h (fun rv h' => rv = none ∧ cPo x h h' 2 12 ∧ ∃ U', cRel h' x (mT1 S e u t p d ot n cs k0 c s (S 46 0) (S 8 t)) T A R U' D Lo Lr) := by
  obtain ⟨t6, hp25, hp6, hn64, hot6, hd6, hcs3, hcs, hsn, hu, hu24, hH⟩ := id X
  have I9 : ∀ S1 : MS, mInv S1 → mInv (mset S1 31 p (S1 1 0)) := fun S1 i => mInv_n i (fun k hk => mset_kk (fun z => hk (by rw [z]; decide)))
  have hv9 : vT (mset S 31 p (S 1 0)) t := (vT_c mset_L (by decide)).mpr hv
  have ho9 : mset S 31 p (S 1 0) 23 t = nI 5 := by rw [mset_k (by decide)]; exact ho
  have rc := C.rv hv9 (Or.inl ho9)
  have zt := (C.tx hv9).1
  have tr : ix_tg h (R t) = 3 := rc.2.1
  have r0 : ix_r h (R t) 0 = some (T t) := rc.2.2.1
  have tT : ix_tg h (T t) = 7 := zt.2.1
  have nTR : ¬ T t = R t := fun q => by rw [q, tr] at tT; exact absurd tT (by decide)
  have iT : ∀ j, ix_i (ix_si h (R t) 9 w) (T t) j = ix_i h (T t) j := fun j => by rw [ix_i_si, if_neg (fun z => nTR z.1)]
  have i4 : ix_i h (T t) 4 = S 8 t := by rw [← iT, zt.2.2.2.2.2.2.1, mset_k (by decide)]
  have iT0 : ix_i h (T t) 0 = nI (t / 320) := by rw [← iT]; exact zt.2.2.1
  have r30 := rc.1
  have s1 : R t ≠ cLk x := by unfold cLk; omega
  have s2 : R t ≠ cRo x := by unfold cRo; omega
  have rlt : R t < ix_nx h := C.lt (by show ix_tg h (R t) ≠ 0; rw [tr]; decide)
  have vlt : v < ix_nx h := C.lt (by show ix_tg h v ≠ 0; rw [a.2.1]; decide)
  have b2 : S 8 t = nI 1 ∨ S 8 t = nI 2 := by
    obtain ⟨m, m1, m2, m3⟩ := (I.T hv).1
    rcases (by omega : m = 1 ∨ m = 2) with y | y
    · left; rw [m3, y]
    · right; rw [m3, y]
  have rest : ∀ (h1 : ix_H) (S1 : MS) (u1 : Nat) (U1 : Nat → Nat), mInv S1 → cRel (ix_si h1 (R t) 9 w) x (mset S1 31 p (S1 1 0)) T A R U1 D Lo Lr → (∀ k, k ∉ [44, 45] → S1 k = S k) → S1 44 0 = nI u1 → u1 ≤ 24 → ceq h h1 (R t) → cUa h1 x S1 (T t) v → cPo x h h1 1 6 → ix_E G 79 25 (lv_args 0 [.ref (R t), .ref v, .int (S 2 0)]) [] h1 (fun rv h' => rv = none ∧ cPo x h h' 2 12 ∧ ∃ U', cRel h' x (mT1b S1 u1 t p d ot n cs k0 c s (S 46 0) (S 8 t)) T A R U' D Lo Lr) := by
    intro h1 S1 u1 U1 I1 C1 F hu1 hu124 cR a1 P1
    have tr1 : ix_tg h1 (R t) = 3 := by rw [cR.1]; exact tr
    have F9 : ∀ k, k ∉ [31, 44, 45] → mset S1 31 p (S1 1 0) k = S k := fun k hk => by
      simp only [List.mem_cons, List.not_mem_nil, or_false, not_or] at hk
      rw [mset_kk hk.1, F k (by simp only [List.mem_cons, List.not_mem_nil, or_false, not_or]; exact hk.2)]
    have hv1 : vT (mset S1 31 p (S1 1 0)) t := (vT_c F9 (by decide)).mpr hv
    have ho1 : mset S1 31 p (S1 1 0) 23 t = nI 5 := by rw [F9 23 (by decide)]; exact ho
    have rc1 := C1.rv hv1 (Or.inl ho1)
    have e12 : ix_i h1 (R t) 12 = 0 := by
      have := rc1.2.2.2.2.2.2.2.2.2.2.2.2.1 (Or.inl ho1)
      rw [ix_i_si, if_neg (fun z => absurd z.2 (by decide))] at this
      exact this
    have e11 : ix_i h1 (R t) 11 = 0 := by
      have := (rc1.2.2.2.2.2.2.2.2.2.2.2.2.2.2 ho1).1
      rw [ix_i_si, if_neg (fun z => absurd z.2 (by decide))] at this
      exact this
    refine ie_aload_n d79_25 rfl ?_
    refine ie_geti (k := 2) d79_26 fl13_37 tr1 ?_
    rw [e12]
    refine ie_if_ne 39 d79_29 (by decide) (fun z => absurd rfl z) (fun _ => ?_)
    refine ie_aload_n d79_32 rfl ?_
    refine ie_callVx [] d79_33 ok49 rm79_49 cl13_44 rfl rfl (Nat.le_of_ble_eq_true rfl) (Nat.le_of_ble_eq_true rfl) tr1 (s49 tr1) ?_
    rw [e11, bI_f (fun z => z rfl)]
    refine ie_if_eq 62 d79_36 (by decide) (fun _ => ?_) (fun z => absurd rfl z)
    have X1 : mTH (mset S1 31 p (S1 1 0)) u1 t p d ot n cs k0 c := ⟨t6, by rw [F9 25 (by decide)]; exact hp25, hp6, hn64, hot6, hd6, hcs3, by rw [F9 42 (by decide)]; exact hcs, fun k hk => by rw [F9 40 (by decide)]; exact hsn k hk, by rw [mset_k (by decide)]; exact hu1, hu124, mHas_c F9 (by decide) hH⟩
    have e20 : S 2 0 = mset S1 31 p (S1 1 0) 2 0 := by rw [F9 2 (by decide)]
    unfold mT1b
    rw [if_pos (by rw [F 23 (by decide)]; exact ho)]
    have g46 : mset S1 31 p (S1 1 0) 46 = S 46 := F9 46 (by decide)
    have g8 : mset S1 31 p (S1 1 0) 8 = S 8 := F9 8 (by decide)
    have g36 : mset S1 31 p (S1 1 0) 36 = S 36 := F9 36 (by decide)
    have g37 : mset S1 31 p (S1 1 0) 37 = S 37 := F9 37 (by decide)
    have g27 : mset S1 31 p (S1 1 0) 27 = S 27 := F9 27 (by decide)
    have g34 : mset S1 31 p (S1 1 0) 34 = S 34 := F9 34 (by decide)
    have g32 : mset S1 31 p (S1 1 0) 32 = S 32 := F9 32 (by decide)
    have g1 : mset S1 31 p (S1 1 0) 1 = S 1 := F9 1 (by decide)
    have a2 : cUa h1 x (mset S1 31 p (S1 1 0)) (T t) v := cUa_c a1 ceq.rfl (by rw [g46, F 46 (by decide)])
    have E := s79_2 (G := G) (s := s) (v := v) (I9 S1 I1) C1 (cAll_c L (F9 13 (by decide)) (F9 23 (by decide))) hv1 ho1 X1 (by unfold mAn; rw [g37, g27]; exact An) (by unfold mAk; rw [g36, g34, g32]; exact Ak) (cK_c F9 (by decide) ck) (by rw [g46]; exact hK) (by rw [g46, g37]; exact Bn) (by rw [g46]; exact Bs) (by rw [g46]; exact Bk) (by rw [← e20, g1]; exact n12) (by rw [g37, g1, cR.2.2.1]; exact hw) a2 (lv_args 0 [.ref (R t), .ref v, .int (S 2 0)]) rfl rfl (by rw [← e20]; rfl)
    rw [g46, g8] at E
    exact ie_mono E (fun rv h' hq => ⟨hq.1, (P1.tr hq.2.1).m (by decide) (by decide), hq.2.2⟩)
  have P0 : cPo x h h 1 6 := cPo.rfl.m (by decide) (by decide)
  refine ie_aload_n d79_0 rfl ?_
  refine ie_geti (k := 7) d79_1 fl13_70 a.2.1 ?_
  rw [a.2.2.2.1]
  refine ie_iconst (nI 3) d79_4 (by decide) ?_
  unfold mT1
  by_cases K : S 46 0 = nI 3
  · rw [if_pos K]
    refine ie_icmp_ne 25 d79_5 (by decide) (fun z => absurd K z) (fun _ => ?_)
    refine ie_aload_n d79_8 rfl ?_
    refine ie_getr _ d79_9 fl13_19 tr r0 ?_
    refine ie_callVx [] d79_12 ok45 rm79_45 cl13_52 rfl rfl (Nat.le_of_ble_eq_true rfl) (Nat.le_of_ble_eq_true rfl) tT (s45 tT) ?_
    rw [i4]
    by_cases k2 : S 8 t = nI 2
    · rw [if_pos k2]
      refine ie_if_eq 25 d79_15 (by decide) (fun z => absurd k2 (bI_0.mp z)) (fun _ => ?_)
      refine ie_aload_n d79_18 rfl ?_
      refine ie_iconst (nI 5) d79_19 (by decide) ?_
      refine ie_iconst (nI 3) d79_20 (by decide) ?_
      refine ie_iconst 0 d79_21 (by decide) ?_
      have Xr : rSh h x (R t) (T t) := rSh_sw (C.rsh (I9 S I) hv9 (Or.inl ho9)) sw.rfl.si.sy rfl (fun _ => rfl)
      refine ie_callVx [_, _, _] d79_22 ok52 rm79_52 cl13_75 rfl rfl (Nat.le_of_ble_eq_true rfl) (Nat.le_of_ble_eq_true rfl) tr (s52 Xr) ?_
      rw [iT0]
      have e1 : 1 - e = t / 320 := by omega
      rw [e1]
      obtain ⟨U1, C1⟩ := cRel_sendM (kind := nI 5) (a := nI 3) (b := nI 0) (cc := nI 0) (w := nI 5) (to := nI (t / 320)) (d := nI 3) (l := 0) (c := 0) (e := t / 320) (I9 S I) C (by rw [mset_k (by decide)]; exact hu) hu24 t6 (fun hu => uOK_fin (Or.inr rfl) hu)
      rw [mSend_31] at C1
      have I1 : mInv (mSend S u (nI 5) (nI (t / 320)) (nI t) (nI 3) (nI 0) (nI 0)) := mInv_ack I hu hu24 hv (by omega) (by decide) (by decide)
      have F1 := mSend_L (S := S) (u := u) (kind := nI 5) (to := nI (t / 320)) (t := nI t) (a := nI 3) (b := nI 0) (c := nI 0)
      have u1 : mSend S u (nI 5) (nI (t / 320)) (nI t) (nI 3) (nI 0) (nI 0) 44 0 = nI (if u = 24 then 24 else u + 1) := by
        rw [mSend_u hu hu24]
      have Q1 : cRel (ix_si (hOut x h (T t) (nI 5) (nI (t / 320)) (nI 3) 0 0) (R t) 9 w) x (mset (mSend S u (nI 5) (nI (t / 320)) (nI t) (nI 3) (nI 0) (nI 0)) 31 p (mSend S u (nI 5) (nI (t / 320)) (nI t) (nI 3) (nI 0) (nI 0) 1 0)) T A R U1 D Lo Lr := by
        have e : mSend S u (nI 5) (nI (t / 320)) (nI t) (nI 3) (nI 0) (nI 0) 1 0 = S 1 0 := by rw [F1 1 (by decide)]
        have i := I9 _ I1
        rw [e] at i ⊢
        exact cRel_e i C1 (fun b => out_cm s1 s2 rlt b) (by show ix_nx (hOut x h (T t) (nI 5) (nI (t / 320)) (nI 3) 0 0) = _; rw [hOut_x, hOut_x]; rfl)
      refine rest _ _ _ U1 I1 Q1 F1 u1 (by split <;> omega) (hOut_s s1 s2 rlt) (cUa_c a (hOut_s (by have := a.1; unfold cLk; omega) (by have := a.1; unfold cRo; omega) vlt) (F1 46 (by decide))) ?_
      exact cPo.rfl.out C.fx.2.2.2.2.2.1 C.fx.2.2.2.2.2.2.2.1 C.x30
    · rw [if_neg k2]
      refine ie_if_eq 25 d79_15 (by decide) (fun _ => ?_) (fun z => absurd (bI_0.mpr k2) z)
      exact rest h S u U I C (fun _ _ => rfl) hu hu24 ceq.rfl a P0
  · rw [if_neg K]
    refine ie_icmp_ne 25 d79_5 (by decide) (fun _ => ?_) (fun z => absurd z K)
    exact rest h S u U I C (fun _ _ => rfl) hu hu24 ceq.rfl a P0
set_option maxRecDepth 100000 in
set_option maxHeartbeats 4000000 in
/-- hear, of a receiver that has ended -/
theorem s79_e {G : ix_G} {h : ix_H} {x : Nat} {S : MS} {T A R U D : Nat → Nat} {Lo Lr : Nat → List Nat} {e u t p d ot n cs k0 c s cr v : Nat} (he : e = 1 - t / 320) (I : mInv S) (C : cRel h x S T A R U D Lo Lr) (hv : vT S t) (hz0 : ¬ S 23 t = 0) (hz5 : ¬ S 23 t = nI 5) (hu : S 44 0 = nI u) (hu24 : u ≤ 24) (X : S 23 t = nI 6 → S 25 t = nI p ∧ p < 6 ∧ mHas 41 43 S (1 - t / 320) k0 c t) (h86 : S 46 0 = nI 3 → S 46 6 = S 8 t) (a : cUa h x S (T t) v) (now : Int32) : ix_E G 79 0 (lv_args 0 [.ref (R t), .ref v, .int now]) [] h (fun rv h' => rv = none ∧ cPo x h h' 2 12 ∧ ∃ U', cRel h' x (mToR S e u t p d ot n cs k0 c s cr) T A R U' D Lo Lr) := by
  have rc := (C.tx hv).2.2 hz0
  have zt := (C.tx hv).1
  have tr : ix_tg h (R t) = 3 := rc.2.1
  have r0 : ix_r h (R t) 0 = some (T t) := rc.2.2.1
  have tT : ix_tg h (T t) = 7 := zt.2.1
  have t6 := hv.1
  have r30 := rc.1
  have s1 : R t ≠ cLk x := by unfold cLk; omega
  have s2 : R t ≠ cRo x := by unfold cRo; omega
  have rlt : R t < ix_nx h := C.lt (by rw [tr]; decide)
  have xlt : T t < ix_nx h := C.lt (by rw [tT]; decide)
  have vlt : v < ix_nx h := C.lt (by rw [a.2.1]; decide)
  have vR : ¬ v = R t := fun q => by
    have := a.2.1
    rw [q, tr] at this
    exact absurd this (by decide)
  have f12 : (ix_i h (R t) 12 = 0 ∧ S 23 t = nI 6) ∨ (ix_i h (R t) 12 = 1 ∧ ¬ S 23 t = nI 6) := by
    by_cases q : S 23 t = nI 6
    · exact Or.inl ⟨rc.2.2.2.2.2.2.2.2.2.2.2.2.1 (Or.inr q), q⟩
    · exact Or.inr ⟨(rc.2.2.2.2.2.2.2.2.2.2.2.1 (fun y => y.elim hz5 q)).1, q⟩
  have f11 : S 23 t = nI 6 → ix_i h (R t) 11 = S 26 p ∧ bw (S 26 p) 1 4 := fun q => by
    obtain ⟨x1, x2, -⟩ := X q
    have hp : sP S t = p := by unfold sP; rw [x1, nI_clamp (by omega)]
    have y1 := (rc.2.2.2.2.2.2.2.2.2.2.2.2.2.1 q).1
    have y2 := ((I.R hv).2.2 (Or.inr q)).2.2.2.2.2.2.2.2.2.2.1 q
    rw [hp] at y1 y2
    exact ⟨y1, y2⟩
  have eT : mToR S e u t p d ot n cs k0 c s cr = if S 46 0 = nI 5 then (if S 23 t = nI 6 then mShut S t (S 26 p) p k0 c else S) else if S 46 0 = nI 3 then (if S 8 t = nI 2 then mSend S u (nI 5) (nI (t / 320)) (nI t) (nI 3) (nI 0) (nI 0) else S) else S := by
    unfold mToR mT1
    have e1 : 1 - e = t / 320 := by omega
    have q1 : ∀ u1 y, mT1b (mSend S u (nI 5) (nI (1 - e)) (nI t) (nI 3) (nI 0) (nI 0)) u1 t p d ot n cs k0 c s (S 46 0) y = mSend S u (nI 5) (nI (1 - e)) (nI t) (nI 3) (nI 0) (nI 0) := fun u1 y => by
      unfold mT1b
      rw [if_neg (by rw [mSend_L 23 (by decide)]; exact hz5)]
    have q2 : ∀ u1 y, mT1b S u1 t p d ot n cs k0 c s (S 46 0) y = S := fun u1 y => by
      unfold mT1b
      rw [if_neg hz5]
    rw [if_neg hz0, q1, q2, e1]
    by_cases K : S 46 0 = nI 3
    · rw [if_pos K, if_pos K, h86 K]
    · rw [if_neg K, if_neg K]
  rw [eT]
  have rest : ∀ (h1 : ix_H) (S1 : MS) (U1 : Nat → Nat), mInv S1 → cRel h1 x S1 T A R U1 D Lo Lr → (∀ k, k ∉ [44, 45] → S1 k = S k) → ceq h h1 (R t) → ceq h h1 (R t + 1) → ceq h h1 v → cPo x h h1 1 6 → ix_E G 79 25 (lv_args 0 [.ref (R t), .ref v, .int now]) [] h1 (fun rv h' => rv = none ∧ cPo x h h' 2 12 ∧ ∃ U', cRel h' x (if S 46 0 = nI 5 then (if S 23 t = nI 6 then mShut S1 t (S 26 p) p k0 c else S1) else S1) T A R U' D Lo Lr) := by
    intro h1 S1 U1 I1 C1 F cR cR1 cv P1
    have tr1 : ix_tg h1 (R t) = 3 := by rw [cR.1]; exact tr
    have clR : cCl h1 x (R t) := cCl_of tr1 (by decide)
    have hv1 : vT S1 t := (vT_c F (by decide)).mpr hv
    have key : ix_E G 79 39 (lv_args 0 [.ref (R t), .ref v, .int now]) [] h1 (fun rv h' => rv = none ∧ cPo x h h' 2 12 ∧ ∃ U', cRel h' x (if S 46 0 = nI 5 then (if S 23 t = nI 6 then mShut S1 t (S 26 p) p k0 c else S1) else S1) T A R U' D Lo Lr) := by
      refine ie_aload_n d79_39 rfl ?_
      refine ie_dup d79_40 rfl ?_
      refine ie_geti (k := 2) d79_41 fl13_37 tr1 ?_
      rw [cR.2.2.1]
      refine ie_aload_n d79_44 rfl ?_
      refine ie_geti (k := 7) d79_45 fl13_70 (by rw [cv.1]; exact a.2.1) ?_
      rw [cv.2.2.1, a.2.2.2.1]
      refine ie_iconst (nI 5) d79_48 (by decide) ?_
      have fin : ∀ b : Int32, (b = 0 ∨ b = 1) → (∃ U', cRel (ix_si h1 (R t) 12 (ix_i h (R t) 12 ||| b)) x (if S 46 0 = nI 5 then (if S 23 t = nI 6 then mShut S1 t (S 26 p) p k0 c else S1) else S1) T A R U' D Lo Lr) → ix_E G 79 57 (lv_args 0 [.ref (R t), .ref v, .int now]) [.int b, .int (ix_i h (R t) 12), .ref (R t)] h1 (fun rv h' => rv = none ∧ cPo x h h' 2 12 ∧ ∃ U', cRel h' x (if S 46 0 = nI 5 then (if S 23 t = nI 6 then mShut S1 t (S 26 p) p k0 c else S1) else S1) T A R U' D Lo Lr) := by
        intro b hb C2
        have hz : ix_i h (R t) 12 ||| b = 0 ∨ ix_i h (R t) 12 ||| b = 1 := by
          rcases hb with y | y <;> rw [y] <;> rcases f12 with z | z <;> rw [z.1] <;> decide
        refine ie_ior d79_57 ?_
        refine ie_puti (k := 2) d79_58 fl13_37 (Or.inl rfl) tr1 (ix_bz hz).1 (ix_bz hz).2 ?_
        exact ie_vret d79_61 rfl ⟨rfl, (P1.si clR).m (by decide) (by decide), C2⟩
      have same : ∀ b : Int32, ix_i h (R t) 12 ||| b = ix_i h (R t) 12 → ∃ U', cRel (ix_si h1 (R t) 12 (ix_i h (R t) 12 ||| b)) x S1 T A R U' D Lo Lr := fun b hb => ⟨U1, cRel_e I1 C1 (fun q => si_id (by rw [hb, cR.2.2.1]) q) rfl⟩
      by_cases K : S 46 0 = nI 5
      · refine ie_icmp_ne 56 d79_49 (by decide) (fun z => absurd K z) (fun _ => ?_)
        refine ie_iconst 1 d79_52 (by decide) ?_
        refine ie_goto 57 d79_53 (by decide) ?_
        refine fin 1 (Or.inr rfl) ?_
        rw [if_pos K]
        rcases f12 with ⟨g1, g2⟩ | ⟨g1, g2⟩
        · rw [if_pos g2, g1]
          obtain ⟨x1, x2, x3⟩ := X g2
          obtain ⟨y1, y2⟩ := f11 g2
          have o1 : opR S1 t := Or.inr (by rw [F 23 (by decide)]; exact g2)
          have hp : p = sP S1 t := by unfold sP; rw [F 25 (by decide), x1, nI_clamp (by omega)]
          exact ⟨U1, R_shut I1 C1 hv1 o1 hp y2 (mHas_c F (by decide) x3) (fun _ _ => rfl) (fun _ _ => rfl) sw.rfl.si ((kpR.of ceq.rfl ceq.rfl).si (by decide)) (by rw [ix_i_si, if_pos ⟨rfl, rfl⟩]; decide) (by rw [ix_i_si, if_neg (fun z => absurd z.2 (by decide)), cR.2.2.1]; exact y1)⟩
        · rw [if_neg g2]
          exact same 1 (by rw [g1]; decide)
      · refine ie_icmp_ne 56 d79_49 (by decide) (fun _ => ?_) (fun z => absurd z K)
        refine ie_iconst 0 d79_56 (by decide) ?_
        refine fin 0 (Or.inl rfl) ?_
        rw [if_neg K]
        exact same 0 (by rcases f12 with z | z <;> rw [z.1] <;> decide)
    refine ie_aload_n d79_25 rfl ?_
    refine ie_geti (k := 2) d79_26 fl13_37 tr1 ?_
    rw [cR.2.2.1]
    refine ie_if_ne 39 d79_29 (by decide) (fun _ => key) (fun z => ?_)
    have g : S 23 t = nI 6 := by
      rcases f12 with y | y
      · exact y.2
      · rw [y.1] at z; exact absurd z (by decide)
    obtain ⟨y1, y2⟩ := f11 g
    refine ie_aload_n d79_32 rfl ?_
    refine ie_callVx [] d79_33 ok49 rm79_49 cl13_44 rfl rfl (Nat.le_of_ble_eq_true rfl) (Nat.le_of_ble_eq_true rfl) tr1 (s49 tr1) ?_
    refine ie_if_eq 62 d79_36 (by decide) (fun z => ?_) (fun _ => key)
    have n0 : ¬ ix_i h1 (R t) 11 = 0 := by
      rw [cR.2.2.1, y1]
      obtain ⟨m, m1, m2, m3⟩ := y2
      rw [m3]; exact nI_ne0 (by omega) (by omega)
    exact absurd n0 (bI_0.mp z)
  have P0 : cPo x h h 1 6 := cPo.rfl.m (by decide) (by decide)
  refine ie_aload_n d79_0 rfl ?_
  refine ie_geti (k := 7) d79_1 fl13_70 a.2.1 ?_
  rw [a.2.2.2.1]
  refine ie_iconst (nI 3) d79_4 (by decide) ?_
  by_cases K : S 46 0 = nI 3
  · rw [if_neg (by rw [K]; decide), if_pos K]
    have n5 : ¬ S 46 0 = nI 5 := by rw [K]; decide
    simp only [if_neg n5] at rest
    refine ie_icmp_ne 25 d79_5 (by decide) (fun z => absurd K z) (fun _ => ?_)
    refine ie_aload_n d79_8 rfl ?_
    refine ie_getr _ d79_9 fl13_19 tr r0 ?_
    refine ie_callVx [] d79_12 ok45 rm79_45 cl13_52 rfl rfl (Nat.le_of_ble_eq_true rfl) (Nat.le_of_ble_eq_true rfl) tT (s45 tT) ?_
    rw [zt.2.2.2.2.2.2.1]
    by_cases k2 : S 8 t = nI 2
    · rw [if_pos k2]
      refine ie_if_eq 25 d79_15 (by decide) (fun z => absurd k2 (bI_0.mp z)) (fun _ => ?_)
      refine ie_aload_n d79_18 rfl ?_
      refine ie_iconst (nI 5) d79_19 (by decide) ?_
      refine ie_iconst (nI 3) d79_20 (by decide) ?_
      refine ie_iconst 0 d79_21 (by decide) ?_
      refine ie_callVx [_, _, _] d79_22 ok52 rm79_52 cl13_75 rfl rfl (Nat.le_of_ble_eq_true rfl) (Nat.le_of_ble_eq_true rfl) tr (s52 ⟨C.lk I, tr, r0, rc.2.2.2.2.1, tT, r30, rlt, xlt, zt.1⟩) ?_
      rw [zt.2.2.1]
      obtain ⟨U1, C1⟩ := cRel_sendM (kind := nI 5) (a := nI 3) (b := nI 0) (cc := nI 0) (w := nI 5) (to := nI (t / 320)) (d := nI 3) (l := 0) (c := 0) (e := t / 320) I C hu hu24 t6 (fun hu => uOK_fin (Or.inr rfl) hu)
      have I1 : mInv (mSend S u (nI 5) (nI (t / 320)) (nI t) (nI 3) (nI 0) (nI 0)) := mInv_ack I hu hu24 hv (by omega) (by decide) (by decide)
      exact rest _ _ U1 I1 C1 mSend_L (hOut_s s1 s2 rlt) (hOut_s (by unfold cLk; omega) (by unfold cRo; omega) (C.lt (by rw [rc.2.2.2.2.2.2.2.1]; decide))) (hOut_s (by have := a.1; unfold cLk; omega) (by have := a.1; unfold cRo; omega) vlt) (cPo.rfl.out C.fx.2.2.2.2.2.1 C.fx.2.2.2.2.2.2.2.1 C.x30)
    · rw [if_neg k2]
      refine ie_if_eq 25 d79_15 (by decide) (fun _ => ?_) (fun z => absurd (bI_0.mpr k2) z)
      exact rest h S U I C (fun _ _ => rfl) ceq.rfl ceq.rfl ceq.rfl P0
  · rw [if_neg K]
    refine ie_icmp_ne 25 d79_5 (by decide) (fun _ => ?_) (fun z => absurd z K)
    exact rest h S U I C (fun _ _ => rfl) ceq.rfl ceq.rfl ceq.rfl P0
