/-! ===== a unit comes to its receiver ===== -/
theorem cRel_e {h h' : ix_H} {x : Nat} {S : MS} {T A R U D : Nat → Nat} {Lo Lr : Nat → List Nat} (I : mInv S) (C : cRel h x S T A R U D Lo Lr) (c : ∀ b, ceq h h' b) (n : ix_nx h' = ix_nx h) : cRel h' x S T A R U D Lo Lr :=
  cRel_nw I C (fun b _ => c b) (by rw [n]; exact Nat.le_refl _) (fun b hb => by rw [(c b).1]; exact C.nx b (by rw [← n]; exact hb))
theorem si_cm {h : ix_H} {a k a2 k2 : Nat} {v v2 : Int32} (hn : ¬ (a = a2 ∧ k = k2)) (b : Nat) : ceq (ix_si (ix_si h a k v) a2 k2 v2) (ix_si (ix_si h a2 k2 v2) a k v) b := by
  refine ⟨rfl, rfl, fun j => ?_, fun _ => rfl⟩
  rw [ix_i_si, ix_i_si, ix_i_si, ix_i_si]
  by_cases q1 : b = a ∧ j = k
  · have q2 : ¬ (b = a2 ∧ j = k2) := fun z => hn ⟨q1.1.symm.trans z.1, q1.2.symm.trans z.2⟩
    rw [if_pos q1, if_neg q2, if_pos q1]
  · rw [if_neg q1, if_neg q1]
theorem si_ov {h : ix_H} {a k : Nat} {v v2 : Int32} (b : Nat) : ceq (ix_si (ix_si h a k v) a k v2) (ix_si h a k v2) b := by
  refine ⟨rfl, rfl, fun j => ?_, fun _ => rfl⟩
  rw [ix_i_si, ix_i_si, ix_i_si]
  by_cases q1 : b = a ∧ j = k
  · rw [if_pos q1, if_pos q1]
  · rw [if_neg q1, if_neg q1, if_neg q1]
theorem si_id {h : ix_H} {a k : Nat} {v : Int32} (hv : ix_i h a k = v) (b : Nat) : ceq h (ix_si h a k v) b := by
  refine ⟨rfl, rfl, fun j => ?_, fun _ => rfl⟩
  rw [ix_i_si]
  by_cases q1 : b = a ∧ j = k
  · rw [if_pos q1, q1.1, q1.2, hv]
  · rw [if_neg q1]
theorem ceq_si {h h' : ix_H} {a k : Nat} {v : Int32} (c : ∀ b, ceq h h' b) (b : Nat) : ceq (ix_si h a k v) (ix_si h' a k v) b :=
  ⟨(c b).1, (c b).2.1, fun j => by rw [ix_i_si, ix_i_si, (c b).2.2.1], (c b).2.2.2⟩
theorem hBy_cm {h : ix_H} {r s k : Nat} {c w : Int32} : ∀ l b, ceq (hBy (ix_si h r k w) r s c l) (ix_si (hBy h r s c l) r k w) b := by
  intro l
  induction l with
  | zero => exact fun b => ceq.rfl
  | succ l ih =>
    intro b
    exact (ceq_si ih b).tr (si_cm (fun z => by omega) b)
section CHr
variable {h h' : ix_H} {x : Nat} {S S' : MS} {T A R U D : Nat → Nat} {Lo Lr : Nat → List Nat} {t p : Nat}
theorem H_w {v : Int32} (I : mInv S) (C : cRel h x S T A R U D Lo Lr) (hv : vT S t) (ho : S 23 t = nI 5) (hp : p = sP S t) (h37 : ¬ S 37 p = 0) : cRel (ix_si h (R t) 9 v) x (mset S 30 p v) T A R U D Lo Lr := by
  have e : ∀ k, k ≠ 30 → mset S 30 p v k = S k := fun k hk => mset_kk hk
  have i : ∀ k, k ≠ 9 → ix_i (ix_si h (R t) 9 v) (R t) k = ix_i h (R t) k := fun k hk => by rw [ix_i_si, if_neg (fun z => hk z.2)]
  have ib : ∀ k, ix_i (ix_si h (R t) 9 v) (R t + 1) k = ix_i h (R t + 1) k := fun k => by rw [ix_i_si, if_neg (by omega)]
  have c := C.rv hv (Or.inl ho)
  have R5 := c.2.2.2.2.2.2.2.2.2.2.2.2.2.2 ho
  rw [← hp] at R5
  obtain ⟨o1, o2, o3, o4, o5, o6, o7, o8⟩ := R5
  refine H_5 I C hv ho hp (fun b h1 _ => (sw.rfl.si).1 b h1) rfl si_tg ⟨i 3 (by decide), i 12 (by decide), i 13 (by decide)⟩ (fun k hk => by rw [ib]; exact c.2.2.2.2.2.2.2.2.2.1 k hk) (fun k hk => e k (fun z => hk (by rw [z]; decide))) (fun k _ _ j hj => ?_) (fun k hk j _ => by rw [e k (by omega)]) ?_
  · by_cases q : k = 30
    · subst q; exact mset_j rfl hj
    · rw [e k q]
  · refine ⟨(i 11 (by decide)).trans o1, by rw [i 5 (by decide), e 36 (by decide)]; exact o2, fun q hq => by rw [i 6 (by decide), e 39 (by decide)]; exact o3 q hq, by rw [i 7 (by decide), e 37 (by decide), e 27 (by decide)]; exact o4, fun q => by rw [e 37 (by decide)] at q; rw [i 8 (by decide), e 28 (by decide)]; exact o5 q, ?_, by rw [i 10 (by decide), e 29 (by decide)]; exact o7, fun k hk => ?_⟩
    · rw [ix_i_si, if_pos ⟨rfl, rfl⟩, e 37 (by decide), if_neg h37, mset_s]
    · rw [ib, o8 k hk]
      exact (mB_o (fun j => by rw [e 38 (by decide)]) (fun j => by rw [e 39 (by decide)])).symm
/-- a receiver whose clock is not yet set: the other cells -/
theorem H_un {w : Int32} (I : mInv S) (C : cRel (ix_si h (R t) 9 w) x S T A R U D Lo Lr) (hv : vT S t) (ho : S 23 t = nI 5) (hp : p = sP S t) (h37 : ¬ S 37 p = 0) : cRel h x (mset S 30 p (ix_i h (R t) 9)) T A R U D Lo Lr := by
  have C1 := H_w (v := ix_i h (R t) 9) I C hv ho hp h37
  have I1 : mInv (mset S 30 p (ix_i h (R t) 9)) := mInv_n I (fun k hk => mset_kk (fun z => hk (by rw [z]; decide)))
  exact cRel_e I1 C1 (fun b => (si_ov b).tr (si_id rfl b).sy) rfl
end CHr
section CHs
variable {h h' : ix_H} {x : Nat} {S S' : MS} {T A R U D : Nat → Nat} {Lo Lr : Nat → List Nat}
/-- a file is written whole -/
def hRp (x : Nat) (h : ix_H) (e f B n : Nat) : ix_H := ix_si (ix_cpi h B 0 (cBr x e f) 0 n) (cSz x e) f (nI n)
theorem hRp_o {e f B n b : Nat} (h1 : b ≠ cBr x e f) (h2 : b ≠ cSz x e) : ceq h (hRp x h e f B n) b := by
  refine ⟨rfl, rfl, fun j => ?_, fun _ => rfl⟩
  unfold hRp
  rw [ix_i_si, if_neg (fun z => h2 z.1), ix_i_cpi, if_neg (fun z => h1 z.1)]
theorem hRp_cm {e f B n a k : Nat} {w : Int32} (h1 : a ≠ cBr x e f) (h2 : a ≠ cSz x e) (h3 : a ≠ B) (b : Nat) : ceq (hRp x (ix_si h a k w) e f B n) (ix_si (hRp x h e f B n) a k w) b := by
  refine ⟨rfl, rfl, fun j => ?_, fun _ => rfl⟩
  unfold hRp
  simp only [ix_i_si, ix_i_cpi]
  by_cases q1 : b = a ∧ j = k
  · rw [if_pos q1, if_neg (fun z => h2 (q1.1.symm.trans z.1)), if_neg (fun z => h1 (q1.1.symm.trans z.1)), if_pos q1]
  · have e0 : ¬ (B = a ∧ 0 + (j - 0) = k) := fun z => h3 z.1.symm
    rw [if_neg q1, if_neg q1, if_neg e0]
theorem L_rep {e f B n : Nat} (I : mInv S) (C : cRel h x S T A R U D Lo Lr) (he : e < 2) (hf : f < 6) (hn : n ≤ 64) (b1 : ∀ i, i < n → b8 (ix_i h B i)) (F : ∀ k, k ∉ [1, 2, 3, 4, 5, 6, 46, 47] → S' k = S k) (F4 : ∀ j, j ≠ 6 * e + f → S' 4 j = S 4 j ∧ S' 5 j = S 5 j) (F6 : ∀ j, (j < 64 * (6 * e + f) ∨ 64 * (6 * e + f) + 64 ≤ j) → S' 6 j = S 6 j) (s4 : S' 4 (6 * e + f) = nI 1) (s5 : S' 5 (6 * e + f) = nI n) (s6 : ∀ i, i < n → ix_i h B i &&& 255 = S' 6 (64 * (6 * e + f) + i)) (hno : ∀ t, vT S t → S 13 t = nI 5 → fI S t ≠ 6 * e + f) : cRel (hRp x h e f B n) x S' T A R U D Lo Lr := by
  have bs : cBr x e f ≠ cSz x e := by unfold cBr cSz; omega
  refine cRel_fl I C he hf (fun b h1 h2 => hRp_o h2 h1) (fun b => ⟨rfl, rfl, fun _ => rfl⟩) (fun j hj => ?_) rfl F F4 F6 ⟨?_, fun i hi => ?_, fun _ i hi => ?_⟩ hno
  · unfold hRp
    rw [ix_i_si, if_neg (fun z => hj z.2), ix_i_cpi, if_neg (fun z => bs z.1.symm)]
  · unfold hRp
    rw [ix_i_si, if_pos ⟨rfl, rfl⟩, s4, if_neg (by decide), s5]
  · unfold hRp
    rw [ix_i_si, if_neg (fun z => bs z.1), ix_i_cpi]
    by_cases q : i < n
    · rw [if_pos ⟨rfl, Nat.zero_le _, by omega⟩, Nat.sub_zero, Nat.zero_add]; exact b1 i q
    · rw [if_neg (by omega)]; exact (C.fl he hf).2.1 i hi
  · rw [s5, nI_clamp (by omega)] at hi
    unfold hRp
    rw [ix_i_si, if_neg (fun z => bs z.1), ix_i_cpi, if_pos ⟨rfl, Nat.zero_le _, by omega⟩, Nat.sub_zero, Nat.zero_add]
    exact s6 i hi
theorem L_del {e f : Nat} (I : mInv S) (C : cRel h x S T A R U D Lo Lr) (he : e < 2) (hf : f < 6) (hno : ∀ t, vT S t → S 13 t = nI 5 → fI S t ≠ 6 * e + f) : cRel (ix_si h (cSz x e) f (-1)) x (mset S 4 (6 * e + f) (nI 0)) T A R U D Lo Lr := by
  have bs : cBr x e f ≠ cSz x e := by unfold cBr cSz; omega
  have L1 : ∀ k, k ≠ 4 → mset S 4 (6 * e + f) (nI 0) k = S k := fun k hk => mset_kk hk
  refine cRel_fl I C he hf (fun b h1 _ => (sw.rfl.si).1 b h1) si_tg (fun j hj => by rw [ix_i_si, if_neg (fun z => hj z.2)]) rfl (fun k hk => L1 k (fun z => hk (by rw [z]; decide))) (fun j hj => ⟨mset_j rfl hj, by rw [L1 5 (by decide)]⟩) (fun j _ => by rw [L1 6 (by decide)]) ⟨?_, fun i hi => ?_, fun z => ?_⟩ hno
  · rw [ix_i_si, if_pos ⟨rfl, rfl⟩, mset_s, if_pos nI_0]
  · rw [ix_i_si, if_neg (fun z => bs z.1)]; exact (C.fl he hf).2.1 i hi
  · rw [mset_s] at z; exact absurd rfl z
end CHs
set_option maxRecDepth 100000 in
set_option maxHeartbeats 4000000 in
/-- noteSegment: its loop -/
theorem s81_l {G : ix_G} {h : ix_H} {r v s l : Nat} {c : Int32} (ht : ix_tg h r = 3) (hr4 : ix_r h r 4 = some (r + 1)) (hb : ix_tg h (r + 1) = 102) (hl64 : ix_ln h (r + 1) = 64) (hv : ix_tg h v = 8) (v1 : ¬ v = r + 1) (hs : s < 16) (hl : ix_i h v 4 = nI l) (hl4 : l ≤ 4) (hc : ix_i h v 5 = c) :
    ∀ (z i : Nat), i ≤ l → l - i < z → ∀ (lv : List (Nat × Value)), lv.lookup 0 = some (.ref r) → lv.lookup 1 = some (.ref v) → lv.lookup 2 = some (.int (nI s)) → lv.lookup 3 = some (.int (nI i)) → ix_E G 81 41 lv [] (hBy h r s c i) (fun rv h' => rv = none ∧ h' = hBy h r s c l) := by
  intro z
  induction z with
  | zero => intro i _ hz; omega
  | succ z ih =>
    intro i hi hz lv l0 l1 l2 l3
    obtain ⟨b1, b2, b3, b4⟩ := hBy_o (h := h) (r := r) (s := s) (c := c) i
    have cv := b1 v v1
    refine ie_iload_n d81_41 l3 ?_
    refine ie_aload_n d81_42 l1 ?_
    refine ie_geti (k := 7) d81_43 fl13_111 (by rw [cv.1]; exact hv) ?_
    rw [cv.2.2.1, hl]
    refine ie_icmp_ge 80 d81_46 (by decide) (fun q => ?_) (fun q => ?_)
    · rw [nI_leI (by omega) (by omega)] at q
      have e1 : i = l := by omega
      subst e1
      exact ie_vret d81_80 rfl ⟨rfl, rfl⟩
    · rw [nI_leI (by omega) (by omega)] at q
      refine ie_iload_n d81_49 l3 ?_
      refine ie_iconst (nI 4) d81_50 (by decide) ?_
      refine ie_icmp_ge 80 d81_51 (by decide) (fun y => absurd y (by rw [nI_leI (by omega) (by omega)]; omega)) (fun _ => ?_)
      refine ie_aload_n d81_54 l0 ?_
      refine ie_getr _ d81_55 fl13_9 (by rw [(b3 _).1]; exact ht) (by rw [(b3 _).2.2]; exact hr4) ?_
      refine ie_iload_n d81_58 l2 ?_
      refine ie_iconst (nI 4) d81_59 (by decide) ?_
      refine ie_imul d81_60 ?_
      rw [pk_mul]
      refine ie_iload_n d81_61 l3 ?_
      refine ie_iadd d81_62 ?_
      rw [nI_add, show s * 4 + i = 4 * s + i from by omega]
      refine ie_aload_n d81_63 l1 ?_
      refine ie_geti (k := 7) d81_64 fl13_102 (by rw [cv.1]; exact hv) ?_
      rw [cv.2.2.1, hc]
      refine ie_bipush (nI 8) d81_67 (by decide) ?_
      refine ie_iload_n d81_69 l3 ?_
      refine ie_imul d81_70 ?_
      rw [pk_mul]
      refine ie_ishr d81_71 ?_
      refine ie_i2b d81_72 ?_
      refine ie_bast d81_73 (by rw [(b3 _).1]; exact hb) (by rw [(b3 _).2.1, hl64]; exact vp_nI (by omega) (by decide)) ?_
      rw [nI_clamp (by omega), Int8.toInt8_toInt32]
      refine ie_iinc (nI (i + 1)) d81_74 l3 (nI_1 i) (by decide) ?_
      refine ie_goto 41 d81_77 (by decide) ?_
      exact ih (i + 1) (by omega) (by omega) _ (ix_lk3 (by decide) l0 rfl) (ix_lk3 (by decide) l1 rfl) (ix_lk3 (by decide) l2 rfl) ix_lk1
set_option maxRecDepth 100000 in
set_option maxHeartbeats 4000000 in
/-- noteSegment -/
theorem s81 {G : ix_G} {h : ix_H} {r v s l : Nat} (ht : ix_tg h r = 3) (hr4 : ix_r h r 4 = some (r + 1)) (hb : ix_tg h (r + 1) = 102) (hl64 : ix_ln h (r + 1) = 64) (hv : ix_tg h v = 8) (h3 : ix_i h v 3 = nI s) (hs : s < 16) (hl : ix_i h v 4 = nI l) (hl4 : l ≤ 4) : ix_Ev G 81 0 (lv_args 0 [.ref r, .ref v]) [] h none (if ix_i h r 6 &&& (nI 1 <<< (nI s &&& 31)) = 0 then hBy (ix_si h r 6 (ix_i h r 6 ||| (nI 1 <<< (nI s &&& 31)))) r s (ix_i h v 5) l else h) := by
  have vr : ¬ v = r := fun q => by rw [q, ht] at hv; exact absurd hv (by decide)
  have v1 : ¬ v = r + 1 := fun q => by rw [q, hb] at hv; exact absurd hv (by decide)
  refine ix_ofE ?_
  refine ie_aload_n d81_0 rfl ?_
  refine ie_geti (k := 7) d81_1 fl13_83 hv ?_
  rw [h3]
  refine ie_istore_n d81_4 (by decide) ?_
  refine ie_iload_n d81_5 rfl ?_
  refine ie_if_lt 26 d81_6 (by decide) (fun y => absurd y (nI_pos (by omega))) (fun _ => ?_)
  refine ie_iload_n d81_9 rfl ?_
  refine ie_bipush (nI 16) d81_10 (by decide) ?_
  refine ie_icmp_ge 26 d81_12 (by decide) (fun y => absurd y (by rw [nI_leI (by omega) (by omega)]; omega)) (fun _ => ?_)
  refine ie_aload_n d81_15 rfl ?_
  refine ie_geti (k := 2) d81_16 fl13_108 ht ?_
  refine ie_iconst (nI 1) d81_19 (by decide) ?_
  refine ie_iload_n d81_20 rfl ?_
  refine ie_ishl d81_21 ?_
  refine ie_iand d81_22 ?_
  refine ie_if_eq 27 d81_23 (by decide) (fun q => ?_) (fun q => ?_)
  · rw [if_pos q]
    refine ie_aload_n d81_27 rfl ?_
    refine ie_dup d81_28 rfl ?_
    refine ie_geti (k := 2) d81_29 fl13_108 ht ?_
    refine ie_iconst (nI 1) d81_32 (by decide) ?_
    refine ie_iload_n d81_33 rfl ?_
    refine ie_ishl d81_34 ?_
    refine ie_ior d81_35 ?_
    refine ie_puti (k := 2) d81_36 fl13_108 (Or.inl rfl) ht rfl rfl ?_
    refine ie_iconst (nI 0) d81_39 (by decide) ?_
    refine ie_istore_n d81_40 (by decide) ?_
    exact s81_l (h := ix_si h r 6 (ix_i h r 6 ||| (nI 1 <<< (nI s &&& 31)))) ht hr4 hb hl64 hv v1 hs (by rw [ix_i_si, if_neg (fun z => vr z.1)]; exact hl) hl4 (by rw [ix_i_si, if_neg (fun z => vr z.1)]) 10 0 (by omega) (by omega) _ rfl rfl rfl rfl
  · rw [if_neg q]
    exact ie_vret d81_26 rfl ⟨rfl, rfl⟩
/-- note: METADATA -/
theorem s80_1 {G : ix_G} {h : ix_H} {r v : Nat} (ht : ix_tg h r = 3) (hv : ix_tg h v = 8) (h1 : ix_i h v 1 = nI 1) : ix_Ev G 80 0 (lv_args 0 [.ref r, .ref v]) [] h none (ix_si h r 5 1) := by
  refine ix_ofE ?_
  refine ie_aload_n d80_0 rfl ?_
  refine ie_geti (k := 7) d80_1 fl13_70 hv ?_
  rw [h1]
  refine ie_iconst (nI 1) d80_4 (by decide) ?_
  refine ie_icmp_ne 16 d80_5 (by decide) (fun y => absurd rfl y) (fun _ => ?_)
  refine ie_aload_n d80_8 rfl ?_
  refine ie_iconst 1 d80_9 (by decide) ?_
  refine ie_puti (k := 2) d80_10 fl13_96 (Or.inl rfl) ht rfl rfl ?_
  refine ie_goto 72 d80_13 (by decide) ?_
  exact ie_vret d80_72 rfl ⟨rfl, rfl⟩
/-- note: DATA -/
theorem s80_2 {G : ix_G} {h h' : ix_H} {r v : Nat} (ht : ix_tg h r = 3) (hv : ix_tg h v = 8) (h1 : ix_i h v 1 = nI 2) (e : ix_Ev G 81 0 (lv_args 0 [.ref r, .ref v]) [] h none h') : ix_Ev G 80 0 (lv_args 0 [.ref r, .ref v]) [] h none h' := by
  refine ix_ofE ?_
  refine ie_aload_n d80_0 rfl ?_
  refine ie_geti (k := 7) d80_1 fl13_70 hv ?_
  rw [h1]
  refine ie_iconst (nI 1) d80_4 (by decide) ?_
  refine ie_icmp_ne 16 d80_5 (by decide) (fun _ => ?_) (fun y => absurd y (by decide))
  refine ie_aload_n d80_16 rfl ?_
  refine ie_geti (k := 7) d80_17 fl13_70 hv ?_
  rw [h1]
  refine ie_iconst (nI 2) d80_20 (by decide) ?_
  refine ie_icmp_ne 32 d80_21 (by decide) (fun y => absurd rfl y) (fun _ => ?_)
  refine ie_aload_n d80_24 rfl ?_
  refine ie_aload_n d80_25 rfl ?_
  refine ie_callVx [_] d80_26 ok81 rm80_81 cl13_99 rfl rfl (Nat.le_of_ble_eq_true rfl) (Nat.le_of_ble_eq_true rfl) ht e ?_
  refine ie_goto 72 d80_29 (by decide) ?_
  exact ie_vret d80_72 rfl ⟨rfl, rfl⟩
/-- note: END -/
theorem s80_3 {G : ix_G} {h : ix_H} {r v : Nat} (ht : ix_tg h r = 3) (hv : ix_tg h v = 8) (h1 : ix_i h v 1 = nI 3) : ix_Ev G 80 0 (lv_args 0 [.ref r, .ref v]) [] h none (if ix_i h r 7 = -1 ∧ ¬ ix_i h v 3 = -1 then ix_si (ix_si h r 7 (ix_i h v 3)) r 8 (ix_i h v 5) else h) := by
  have vr : ¬ v = r := fun q => by rw [q, ht] at hv; exact absurd hv (by decide)
  refine ix_ofE ?_
  refine ie_aload_n d80_0 rfl ?_
  refine ie_geti (k := 7) d80_1 fl13_70 hv ?_
  rw [h1]
  refine ie_iconst (nI 1) d80_4 (by decide) ?_
  refine ie_icmp_ne 16 d80_5 (by decide) (fun _ => ?_) (fun y => absurd y (by decide))
  refine ie_aload_n d80_16 rfl ?_
  refine ie_geti (k := 7) d80_17 fl13_70 hv ?_
  rw [h1]
  refine ie_iconst (nI 2) d80_20 (by decide) ?_
  refine ie_icmp_ne 32 d80_21 (by decide) (fun _ => ?_) (fun y => absurd y (by decide))
  refine ie_aload_n d80_32 rfl ?_
  refine ie_geti (k := 7) d80_33 fl13_70 hv ?_
  rw [h1]
  refine ie_iconst (nI 3) d80_36 (by decide) ?_
  refine ie_icmp_ne 72 d80_37 (by decide) (fun y => absurd rfl y) (fun _ => ?_)
  refine ie_aload_n d80_40 rfl ?_
  refine ie_geti (k := 2) d80_41 fl13_15 ht ?_
  refine ie_iconst (-1) d80_44 (by decide) ?_
  refine ie_icmp_ne 72 d80_45 (by decide) (fun q => ?_) (fun q => ?_)
  · rw [if_neg (fun z => q z.1)]
    exact ie_vret d80_72 rfl ⟨rfl, rfl⟩
  · refine ie_aload_n d80_48 rfl ?_
    refine ie_geti (k := 7) d80_49 fl13_83 hv ?_
    refine ie_iconst (-1) d80_52 (by decide) ?_
    refine ie_icmp_eq 72 d80_53 (by decide) (fun y => ?_) (fun y => ?_)
    · rw [if_neg (fun z => z.2 y)]
      exact ie_vret d80_72 rfl ⟨rfl, rfl⟩
    · rw [if_pos ⟨q, y⟩]
      refine ie_aload_n d80_56 rfl ?_
      refine ie_aload_n d80_57 rfl ?_
      refine ie_geti (k := 7) d80_58 fl13_83 hv ?_
      refine ie_puti (k := 2) d80_61 fl13_15 (Or.inl rfl) ht rfl rfl ?_
      refine ie_aload_n d80_64 rfl ?_
      refine ie_aload_n d80_65 rfl ?_
      refine ie_geti (k := 7) d80_66 fl13_102 hv ?_
      refine ie_puti (k := 2) d80_69 fl13_105 (Or.inl rfl) ht rfl rfl ?_
      refine ie_vret d80_72 rfl ⟨rfl, ?_⟩
      rw [ix_i_si, if_neg (fun z => vr z.1)]
/-- isComplete -/
theorem s82 {G : ix_G} {h : ix_H} {r n : Nat} (ht : ix_tg h r = 3) (hn : ix_i h r 7 = nI n) (hn64 : n ≤ 64) : ix_Ev G 82 0 (lv_args 0 [.ref r]) [] h (some (.int (bP (¬ ix_i h r 5 = 0 ∧ ∀ q, q < (n + 3) / 4 → rb (ix_i h r 6) q)))) h := by
  refine ix_ofE ?_
  refine ie_aload_n d82_0 rfl ?_
  refine ie_geti (k := 2) d82_1 fl13_96 ht ?_
  refine ie_if_eq 18 d82_4 (by decide) (fun c => ?_) (fun c => ?_)
  · rw [bP_f (fun z => z.1 c)]
    refine ie_iconst 0 d82_18 (by decide) ?_
    exact ie_iret d82_19 rfl (by decide) ⟨rfl, rfl⟩
  · refine ie_aload_n d82_7 rfl ?_
    refine ie_callVx [] d82_8 ok54 rm82_54 cl13_118 rfl rfl (Nat.le_of_ble_eq_true rfl) (Nat.le_of_ble_eq_true rfl) ht (s54 ht hn hn64) ?_
    have key : ((nI 1 <<< (nI ((n + 3) / 4) &&& 31)) - 1) &&& (ix_i h r 6 ^^^ (-1)) = 0 ↔ ∀ q, q < (n + 3) / 4 → rb (ix_i h r 6) q := by
      constructor
      · intro z q hq
        refine Classical.byContradiction fun y => ?_
        have := (miss_b (v := ix_i h r 6) (a := (n + 3) / 4) (by omega) (q := q) (by omega)).mpr ⟨hq, y⟩
        rw [z] at this
        exact rb_0 (by omega) this
      · intro z
        refine rb_ext fun q hq => ?_
        rw [miss_b (by omega) hq]
        exact ⟨fun y => absurd (z q y.1) y.2, fun y => absurd y (rb_0 hq)⟩
    refine ie_if_ne 18 d82_11 (by decide) (fun q => ?_) (fun q => ?_)
    · rw [bP_f (fun z => q (key.mpr z.2))]
      refine ie_iconst 0 d82_18 (by decide) ?_
      exact ie_iret d82_19 rfl (by decide) ⟨rfl, rfl⟩
    · rw [bP_t ⟨c, key.mp q⟩]
      refine ie_iconst 1 d82_14 (by decide) ?_
      refine ie_goto 19 d82_15 (by decide) ?_
      exact ie_iret d82_19 rfl (by decide) ⟨rfl, rfl⟩
