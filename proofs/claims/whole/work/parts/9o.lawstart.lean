/-! ===== the law's beginning ===== -/
set_option maxRecDepth 100000 in
theorem s101 {G : ix_G} {h : ix_H} {sc : Nat} (t : ix_tg h sc = 200) (hL : ix_ln h sc ≤ 3585) : ix_Ev G 101 0 (lv_args 0 [.ref sc, .int (nI 0)]) [] h (some (.int (if 0 < ix_ln h sc then ix_i h sc 0 else 0))) h := by
  refine ix_ofE ?_
  refine ie_iload_n d101_0 rfl ?_
  refine ie_aload_n d101_1 rfl ?_
  refine ie_alen (t := 0) d101_2 (by decide) (Or.inr t) ?_
  refine ie_icmp_ge 12 d101_3 (by decide) (fun q => ?_) (fun q => ?_)
  · rw [nI_leI (by omega) (by omega)] at q
    refine ie_iconst 0 d101_12 (by decide) ?_
    rw [if_neg (by omega)]
    exact ie_iret d101_13 rfl rfl ⟨rfl, rfl⟩
  · rw [nI_leI (by omega) (by omega)] at q
    refine ie_aload_n d101_6 rfl ?_
    refine ie_iload_n d101_7 rfl ?_
    refine ie_iald d101_8 (Or.inr t) (vp_nI (by omega) (by omega)) ?_
    rw [show (nI 0).toNatClampNeg = 0 from by decide, if_pos (by omega)]
    refine ie_goto 13 d101_9 (by decide) ?_
    exact ie_iret d101_13 rfl rfl ⟨rfl, rfl⟩
/-- nothing lies behind the next address -/
def ix_cut (h : ix_H) : ix_H := (fun b => if b < ix_nx h then ix_tg h b else 0, h.2)
theorem ix_cut_t {h : ix_H} {b : Nat} (hb : b < ix_nx h) : ix_tg (ix_cut h) b = ix_tg h b := if_pos hb
theorem ix_cut_z {h : ix_H} : cNx (ix_cut h) := fun b hb => if_neg (by show ¬ b < ix_nx h; have : ix_nx (ix_cut h) = ix_nx h := rfl; omega)
theorem ix_R.cut {G : ix_G} {h : ix_H} {H : Heap} (hR : ix_R G h H) : ix_R G (ix_cut h) H := by
  obtain ⟨r1, r2, r3, r4, r5⟩ := hR
  refine ⟨r1, r2, fun a k ht hk => ?_, fun a t ht hk => ?_, fun a t ht hk => ?_⟩
  · have : ix_tg h a = k + 1 := by
      have h2 : (if a < ix_nx h then ix_tg h a else 0) = k + 1 := ht
      split at h2
      · exact h2
      · omega
    exact r3 a k this hk
  · have : ix_tg h a = 100 + t := by
      have h2 : (if a < ix_nx h then ix_tg h a else 0) = 100 + t := ht
      split at h2
      · exact h2
      · omega
    exact r4 a t this hk
  · have : ix_tg h a = 200 + t := by
      have h2 : (if a < ix_nx h then ix_tg h a else 0) = 200 + t := ht
      split at h2
      · exact h2
      · omega
    exact r5 a t this hk
theorem ix_Ev.cut {G : ix_G} {m pc : Nat} {lv : List (Nat × Value)} {st : List Value} {h h' : ix_H} {r : ix_O} (q : ix_Ev G m pc lv st h r h') : ix_Ev G m pc lv st h r (ix_cut h') := by
  refine ⟨q.1, fun p l e R s mid args below meth c C H locs cells slots ls hR hS hl hc hs => ?_⟩
  intro T hT X
  obtain ⟨t, a1, o, b1, b2, ⟨b3, b4, b5⟩, b6⟩ := q.2 p l e R s mid args below meth c C H locs cells slots ls hR hS hl hc hs T hT X
  exact ⟨t, a1, o, b1, b2, ⟨b3, b4.cut, b5⟩, b6⟩
theorem s114c {G : ix_G} {h : ix_H} {o : Nat} (hnx : ix_nx h = o + 1) (ht : ix_tg h o = 9) (hz : ∀ j, ix_i h o j = 0) (x : Int32) : ix_E G 114 0 (lv_args 0 [.ref o, .int x]) [] h (fun rv h' => rv = none ∧ cNx h' ∧ ix_nx h' = o + 44 ∧ ix_us h' = ix_us h + 12875 ∧ md_ok h' o ∧ ms h' o = mset (fun _ _ => 0) 0 0 (nI 4 + (x &&& nI 7)) ∧ ∀ b, b < o → ceL h h' b) := by
  obtain ⟨r, h1, q, rfl, h2, I, rfl⟩ := s114 (G := G) hnx ht hz x
  obtain ⟨a1, a2, a3, a4, a5, a6⟩ := I
  have n2 : ix_nx (ix_si h2 o 0 (nI 4 + (x &&& nI 7))) = o + 44 := a1
  obtain ⟨M, hm⟩ := mI0_ok ⟨a1, a2, a3, a4, a5, a6⟩ (nI 4 + (x &&& nI 7))
  refine ⟨_, _, q.cut, rfl, ix_cut_z, n2, a2, ⟨?_, fun k hk => ?_⟩, ?_, fun b hb => ?_⟩
  · rw [ix_cut_t (by rw [n2]; omega)]
    exact M.1
  · have hi := mA_in (m := o) hk
    obtain ⟨m1, m2, m3⟩ := M.2 k hk
    exact ⟨m1, by rw [ix_cut_t (by rw [n2]; omega)]; exact m2, m3⟩
  · exact hm
  · obtain ⟨c1, c2, c3, c4, c5⟩ := a6 b hb
    refine ⟨⟨?_, c2, fun j => ?_, c5⟩, c4⟩
    · rw [ix_cut_t (by rw [n2]; omega)]
      exact c1
    · show ix_i (ix_si h2 o 0 _) b j = _
      rw [ix_i_si, if_neg (by omega)]
      exact c3 j
set_option maxRecDepth 100000 in
set_option maxHeartbeats 4000000 in
theorem law_all {G : ix_G} {h : ix_H} {xs : Nat → Int32} {sc L x : Nat} (hL : L ≤ 3585) (hn : ix_nx h = x) (hz : cNx h) (ts : ix_tg h sc = 200) (ls : ix_ln h sc = L) (is : ∀ j, ix_i h sc j = xs j) (hsc : sc < x) (tD : ix_tg h G.2.2.2.1 = 207) (lD : ix_ln h G.2.2.2.1 = 0) (hD : G.2.2.2.1 < x) : iy_E G 0 0 (lv_args 0 [.ref sc]) [] h (fun r h' => r = .inl (some (.int 1)) ∧ ix_nx h' ≤ ix_nx h + 12000 ∧ ix_us h' ≤ ix_us h + 540000) := by
  refine iz_new d0_0 nl0_8 ?_
  refine iz_dup d0_3 rfl ?_
  refine iz_aload_n d0_4 rfl ?_
  refine iz_iconst (nI 0) d0_5 (by decide) ?_
  show iy_E G 0 6 _ _ (ix_nw h 1 0 4) _
  rw [hn]
  have e1 : ∀ b, b < x → ceL h (ix_nw h 1 0 4) b := fun b hb => ceL_nw (by omega)
  have n1 : ix_nx (ix_nw h 1 0 4) = x + 1 := by rw [ix_nx_nw]; omega
  have u1 : ix_us (ix_nw h 1 0 4) = ix_us h + 4 := rfl
  have t1 : ix_tg (ix_nw h 1 0 4) x = 1 := by rw [ix_tg_nw, if_pos (by omega)]
  have z1 : cNx (ix_nw h 1 0 4) := fun b hb => by
    rw [n1] at hb
    rw [ix_tg_nw, if_neg (by omega)]
    exact hz b (by omega)
  generalize ix_nw h 1 0 4 = h1 at *
  have s1' := e1 sc hsc
  refine iz_callSx [_, _] d0_6 ok101 rm0_101 cl0_33 rfl rfl (Nat.le_of_ble_eq_true rfl) (Nat.le_of_ble_eq_true rfl) (s101 (by rw [s1'.1.1]; exact ts) (by rw [s1'.1.2.1, ls]; exact hL)) ?_
  rw [s1'.1.2.1, ls, s1'.1.2.2.1, is]
  generalize hy : (if 0 < L then xs 0 else 0) = y
  refine iz_callIY [_] d0_9 ok1 rfl rm0_1 cl0_39 rfl rfl (Nat.le_of_ble_eq_true rfl) (Nat.le_of_ble_eq_true rfl) (s1 t1 n1 z1 (by rw [(e1 _ hD).1.1]; exact tD) (by rw [(e1 _ hD).1.2.1]; exact lD) hD y) ?_
  rintro h2 ⟨n2, u2, e2, C2⟩
  refine iz_astore_n d0_12 (by decide) ?_
  refine iz_new d0_13 nl0_42 ?_
  refine iz_dup d0_16 rfl ?_
  refine iz_aload_n d0_17 rfl ?_
  refine iz_iconst (nI 0) d0_18 (by decide) ?_
  show iy_E G 0 19 _ _ (ix_nw h2 9 0 48) _
  rw [n2]
  have c3 : ∀ b, b < x + 30 → ceL h2 (ix_nw h2 9 0 48) b := fun b hb => ceL_nw (by omega)
  have n3 : ix_nx (ix_nw h2 9 0 48) = x + 30 + 1 := by rw [ix_nx_nw]; omega
  have u3 : ix_us (ix_nw h2 9 0 48) = ix_us h + 902 := by show ix_us h2 + 48 = _; omega
  have t3 : ix_tg (ix_nw h2 9 0 48) (x + 30) = 9 := by rw [ix_tg_nw, if_pos (by omega)]
  have i3 : ∀ j, ix_i (ix_nw h2 9 0 48) (x + 30) j = 0 := fun j => by rw [ix_i_nw, if_pos (by omega)]
  generalize ix_nw h2 9 0 48 = h3 at *
  have s3' := ((e1 sc hsc).tr (e2 sc hsc)).tr (c3 sc (by omega))
  refine iz_callSx [_, _] d0_19 ok101 rm0_101 cl0_33 rfl rfl (Nat.le_of_ble_eq_true rfl) (Nat.le_of_ble_eq_true rfl) (s101 (by rw [s3'.1.1]; exact ts) (by rw [s3'.1.2.1, ls]; exact hL)) ?_
  rw [s3'.1.2.1, ls, s3'.1.2.2.1, is, hy]
  refine iz_callI [_] d0_22 ok114 rm0_114 cl0_44 rfl rfl (Nat.le_of_ble_eq_true rfl) (Nat.le_of_ble_eq_true rfl) (s114c n3 t3 i3 y) ?_
  rintro h4 ⟨z4, n4, u4, M4, m4, e4⟩
  refine iz_astore_n d0_25 (by decide) ?_
  refine iz_iconst (nI 1) d0_26 (by decide) ?_
  refine iz_newa (t := 3) (N := 1) d0_27 ⟨by decide, rfl⟩ rfl (by decide) ?_
  show iy_E G 0 29 _ _ (ix_nw h4 103 1 1) _
  rw [n4]
  refine iz_astore_n d0_29 (by decide) ?_
  refine iz_iconst (nI 1) d0_30 (by decide) ?_
  refine iz_istore d0_31 (by decide) ?_
  have c5 : ∀ b, b < x + 74 → ceL h4 (ix_nw h4 103 1 1) b := fun b hb => ceL_nw (by omega)
  have n5 : ix_nx (ix_nw h4 103 1 1) = x + 75 := by rw [ix_nx_nw]; omega
  have u5 : ix_us (ix_nw h4 103 1 1) = ix_us h + 13778 := by show ix_us h4 + 1 = _; omega
  have t5 : ix_tg (ix_nw h4 103 1 1) (x + 74) = 103 ∧ ix_ln (ix_nw h4 103 1 1) (x + 74) = 1 := ⟨by rw [ix_tg_nw, if_pos (by omega)], by rw [ix_ln_nw, if_pos (by omega)]⟩
  have z5 : cNx (ix_nw h4 103 1 1) := fun b hb => by
    rw [n5] at hb
    rw [ix_tg_nw, if_neg (by omega)]
    exact z4 b (by omega)
  generalize ix_nw h4 103 1 1 = h5 at *
  have al : ∀ b, b < x + 30 → ceL h2 h5 b := fun b hb => ((c3 b hb).tr (e4 b (by omega))).tr (c5 b (by omega))
  have s5 := ((e1 sc hsc).tr (e2 sc hsc)).tr (al sc (by omega))
  have C5 : cB h5 x (mset (fun _ _ => 0) 0 0 (nI 4 + (y &&& nI 7))) := cB_fr mInv_new C2 z5 (fun b hb => (al b hb).1) (fun b hb _ _ _ => (al b (by omega)).1)
  have M5 : md_ok h5 (x + 30) := by
    refine ⟨by rw [(c5 _ (by omega)).1.1]; exact M4.1, fun k hk => ?_⟩
    have hi := mA_in (m := x + 30) hk
    obtain ⟨m1, m2, m3⟩ := M4.2 k hk
    have ck := (c5 (mA (x + 30) k) (by omega)).1
    exact ⟨by rw [(c5 _ (by omega)).1.2.2.2]; exact m1, by rw [ck.1]; exact m2, by rw [ck.2.1]; exact m3⟩
  have m5 : ms h5 (x + 30) = mset (fun _ _ => 0) 0 0 (nI 4 + (y &&& nI 7)) := by
    rw [← m4]
    funext k j
    unfold ms
    split
    · rename_i hk
      have hi := mA_in (m := x + 30) hk
      exact (c5 (mA (x + 30) k) (by omega)).1.2.2.1 j
    · exact (c5 (x + 30) (by omega)).1.2.2.1 k
  have B5 : LB xs sc L x h5 := ⟨⟨by rw [s5.1.1]; exact ts, by rw [s5.1.2.1]; exact ls, fun j => by rw [s5.1.2.2.1]; exact is j⟩, hsc, t5, by omega, M5⟩
  have J5 : iJ 0 (mset (fun _ _ => 0) 0 0 (nI 4 + (y &&& nI 7))) := by
    refine ⟨cI_new, fun j hj => ?_, fun t v => ?_⟩
    · exfalso
      unfold gU at hj
      rw [mset_k (by decide), show (0 : Int32).toNatClampNeg = 0 from by decide] at hj
      omega
    · exfalso
      have h2 := v.2.2
      have h1 := v.2.1
      unfold nN at h2
      rw [mset_k (by decide), show (0 : Int32).toNatClampNeg = 0 from by decide] at h2
      omega
  refine iz_mono (law_loop (N := x + 75) (U := ix_us h + 13778) hL 4000 1 0 h5 _ _ rfl (by decide) (by omega) rfl rfl rfl rfl rfl B5 C5 m5 J5 (by omega) (by omega)) (fun r h' w => ⟨w.1, by have := w.2.1; omega, by have := w.2.2; omega⟩)
