/-! ===== put ===== -/
theorem cLi_c {h h' : ix_H} {a D : Nat} {L : List Nat} (C : cLi h a D L) (ca : ceq h h' a) (cd : ceq h h' D) : cLi h' a D L := by
  obtain ⟨g1, g2, g3, g4, g5, g6⟩ := C
  exact ⟨by rw [ca.2.2.2]; exact g1, by rw [ca.2.2.1]; exact g2, by rw [cd.2.1]; exact g3, by rw [cd.2.1]; exact g4, by rw [cd.1, cd.2.1]; exact g5, fun i b hb => by rw [cd.2.2.2]; exact g6 i b hb⟩
def hTn (h : ix_H) (n : Nat) (e m f d y w g : Int32) : ix_H := ix_si (ix_si (ix_si (ix_si (ix_si (ix_si (ix_si h n 0 e) n 1 m) n 2 f) n 3 d) n 4 y) n 5 w) n 6 g
def hSn (h : ix_H) (n tx st lk : Nat) (to sg : Int32) : ix_H := ix_si (ix_si (ix_sr (ix_sr (ix_sr (ix_si h n 5 (-1)) n 0 (some tx)) n 1 (some st)) n 2 (some lk)) n 3 to) n 4 sg
set_option maxRecDepth 100000 in
set_option maxHeartbeats 4000000 in
/-- Transaction.<init> -/
theorem s111 {G : ix_G} {h : ix_H} {n : Nat} {e m f d y w g : Int32} (ht : ix_tg h n = 7) : ix_Ev G 111 0 (lv_args 0 [.ref n, .int e, .int m, .int f, .int d, .int y, .int w, .int g]) [] h none (hTn h n e m f d y w g) := by
  refine ix_ofE ?_
  first | refine ie_aload_n d111_0 rfl ?_ | refine ie_aload_nN d111_0 rfl ?_
  refine ie_objI d111_1 oi11_3 oi_I oi_C (by decide) (Nat.le_of_ble_eq_true rfl) ?_
  first | refine ie_aload_n d111_4 rfl ?_ | refine ie_aload_nN d111_4 rfl ?_
  refine ie_iload_n d111_5 rfl ?_
  refine ie_puti d111_6 fl11_9 (Or.inr ⟨rfl, rfl, rfl⟩) ht rfl rfl ?_
  first | refine ie_aload_n d111_9 rfl ?_ | refine ie_aload_nN d111_9 rfl ?_
  refine ie_iload_n d111_10 rfl ?_
  refine ie_puti d111_11 fl11_15 (Or.inr ⟨rfl, rfl, rfl⟩) ht rfl rfl ?_
  first | refine ie_aload_n d111_14 rfl ?_ | refine ie_aload_nN d111_14 rfl ?_
  refine ie_iload_n d111_15 rfl ?_
  refine ie_puti d111_16 fl11_18 (Or.inr ⟨rfl, rfl, rfl⟩) ht rfl rfl ?_
  first | refine ie_aload_n d111_19 rfl ?_ | refine ie_aload_nN d111_19 rfl ?_
  refine ie_iload d111_20 rfl ?_
  refine ie_puti d111_22 fl11_21 (Or.inr ⟨rfl, rfl, rfl⟩) ht rfl rfl ?_
  first | refine ie_aload_n d111_25 rfl ?_ | refine ie_aload_nN d111_25 rfl ?_
  refine ie_iload d111_26 rfl ?_
  refine ie_puti d111_28 fl11_24 (Or.inr ⟨rfl, rfl, rfl⟩) ht rfl rfl ?_
  first | refine ie_aload_n d111_31 rfl ?_ | refine ie_aload_nN d111_31 rfl ?_
  refine ie_iload d111_32 rfl ?_
  refine ie_puti d111_34 fl11_27 (Or.inr ⟨rfl, rfl, rfl⟩) ht rfl rfl ?_
  first | refine ie_aload_n d111_37 rfl ?_ | refine ie_aload_nN d111_37 rfl ?_
  refine ie_iload d111_38 rfl ?_
  refine ie_puti d111_40 fl11_30 (Or.inr ⟨rfl, rfl, rfl⟩) ht rfl rfl ?_
  exact ie_vret d111_43 rfl ⟨rfl, rfl⟩
set_option maxRecDepth 100000 in
set_option maxHeartbeats 4000000 in
/-- Sender.<init> -/
theorem s112 {G : ix_G} {h : ix_H} {n tx st lk L f k : Nat} {to : Int32} (ht : ix_tg h n = 4) (tt : ix_tg h tx = 7) (tf : ix_i h tx 2 = nI f) (s6 : ix_tg h st = 6) (sr : ix_r h st 1 = some L) (l1 : ix_tg h L = 100) (l2 : ix_ln h L = 6) (hf : f < 6) (hk : ix_i h L f = nI k) (hk64 : k ≤ 64) : ix_Ev G 112 0 (lv_args 0 [.ref n, .ref tx, .ref st, .ref lk, .int to]) [] h none (hSn h n tx st lk to (nI ((k + 3) / 4))) := by
  have n1 : ¬ tx = n := fun q => by rw [q, ht] at tt; exact absurd tt (by decide)
  have n2 : ¬ st = n := fun q => by rw [q, ht] at s6; exact absurd s6 (by decide)
  have n3 : ¬ L = n := fun q => by rw [q, ht] at l1; exact absurd l1 (by decide)
  refine ix_ofE ?_
  first | refine ie_aload_n d112_0 rfl ?_ | refine ie_aload_nN d112_0 rfl ?_
  refine ie_objI d112_1 oi10_3 oi_I oi_C (by decide) (Nat.le_of_ble_eq_true rfl) ?_
  first | refine ie_aload_n d112_4 rfl ?_ | refine ie_aload_nN d112_4 rfl ?_
  refine ie_iconst (-1) d112_5 (by decide) ?_
  refine ie_puti d112_6 fl10_11 (Or.inl rfl) ht rfl rfl ?_
  first | refine ie_aload_n d112_9 rfl ?_ | refine ie_aload_nN d112_9 rfl ?_
  first | refine ie_aload_n d112_10 rfl ?_ | refine ie_aload_nN d112_10 rfl ?_
  first | refine ie_putr d112_11 fl10_15 (Or.inr ⟨rfl, rfl, rfl⟩) ht rfl rfl ?_ | refine ie_putN d112_11 fl10_15 (Or.inr ⟨rfl, rfl, rfl⟩) ht rfl rfl ?_
  first | refine ie_aload_n d112_14 rfl ?_ | refine ie_aload_nN d112_14 rfl ?_
  first | refine ie_aload_n d112_15 rfl ?_ | refine ie_aload_nN d112_15 rfl ?_
  first | refine ie_putr d112_16 fl10_19 (Or.inr ⟨rfl, rfl, rfl⟩) ht rfl rfl ?_ | refine ie_putN d112_16 fl10_19 (Or.inr ⟨rfl, rfl, rfl⟩) ht rfl rfl ?_
  first | refine ie_aload_n d112_19 rfl ?_ | refine ie_aload_nN d112_19 rfl ?_
  first | refine ie_aload_n d112_20 rfl ?_ | refine ie_aload_nN d112_20 rfl ?_
  first | refine ie_putr d112_21 fl10_23 (Or.inr ⟨rfl, rfl, rfl⟩) ht rfl rfl ?_ | refine ie_putN d112_21 fl10_23 (Or.inr ⟨rfl, rfl, rfl⟩) ht rfl rfl ?_
  first | refine ie_aload_n d112_24 rfl ?_ | refine ie_aload_nN d112_24 rfl ?_
  refine ie_iload d112_25 rfl ?_
  refine ie_puti d112_27 fl10_27 (Or.inr ⟨rfl, rfl, rfl⟩) ht rfl rfl ?_
  first | refine ie_aload_n d112_30 rfl ?_ | refine ie_aload_nN d112_30 rfl ?_
  first | refine ie_aload_n d112_31 rfl ?_ | refine ie_aload_nN d112_31 rfl ?_
  first | refine ie_aload_n d112_32 rfl ?_ | refine ie_aload_nN d112_32 rfl ?_
  refine ie_geti (k := 6) d112_33 fl10_30 tt ?_
  rw [ix_i_si, if_neg (fun z => n1 z.1), ix_i_sr, ix_i_sr, ix_i_sr, ix_i_si, if_neg (fun z => n1 z.1), tf]
  refine ie_callVx [_] d112_36 ok16 rm112_16 cl10_35 rfl rfl (Nat.le_of_ble_eq_true rfl) (Nat.le_of_ble_eq_true rfl) s6 (s16 (L := L) s6 (by rw [ix_r_si, ix_r_sr, if_neg (fun z => n2 z.1), ix_r_sr, if_neg (fun z => n2 z.1), ix_r_sr, if_neg (fun z => n2 z.1), ix_r_si]; exact sr) l1 l2 hf) ?_
  rw [ix_i_si, if_neg (fun z => n3 z.1), ix_i_sr, ix_i_sr, ix_i_sr, ix_i_si, if_neg (fun z => n3 z.1), hk]
  refine ie_callSx [_] d112_39 ok55 rm112_55 cl10_41 rfl rfl (Nat.le_of_ble_eq_true rfl) (Nat.le_of_ble_eq_true rfl) (s55 _) ?_
  rw [show nI k + 4 - 1 = nI (k + 3) from by rw [show nI k + 4 = nI (k + 4) from nI_add k 4, nI_sub1 (by omega)]; rfl, show (4 : Int32) = nI 4 from rfl, pk_div (by omega) (by decide) (by decide)]
  refine ie_puti d112_42 fl10_44 (Or.inr ⟨rfl, rfl, rfl⟩) ht rfl rfl ?_
  exact ie_vret d112_45 rfl ⟨rfl, rfl⟩
/-- what two adds leave -/
def lsP2 (a0 D0 : Nat) (L0 : List Nat) (a1 D1 : Nat) (L1 : List Nat) (b : Nat) (h h' : ix_H) : Prop := ∃ E0 E1 : Nat, ((E0 = D0 ∧ ix_tg h D0 = 107) ∨ ix_nx h ≤ E0) ∧ ((E1 = D1 ∧ ix_tg h D1 = 107) ∨ ix_nx h ≤ E1) ∧ E0 ≠ E1 ∧ cLi h' a0 E0 (L0 ++ [b]) ∧ cLi h' a1 E1 (L1 ++ [b]) ∧ (∀ q, q < ix_nx h → q ≠ a0 → q ≠ a1 → q ≠ E0 → q ≠ E1 → ceq h h' q) ∧ (∀ q, q < ix_nx h → ix_tg h' q = ix_tg h q ∧ ix_ln h' q = ix_ln h q) ∧ (∀ q j, q < ix_nx h → ix_l h' q j = ix_l h q j) ∧ ix_nx h ≤ ix_nx h' ∧ ix_nx h' ≤ ix_nx h + 2 ∧ ix_us h ≤ ix_us h' ∧ ix_us h' ≤ ix_us h + (20 + 2 * L0.length + 2 * L1.length) ∧ (cNx h → cNx h')
set_option maxRecDepth 100000 in
set_option maxHeartbeats 4000000 in
/-- addSender -/
theorem s113 {G : ix_G} {h : ix_H} {sd a0 D0 a1 D1 b : Nat} {L0 L1 : List Nat} (ts : ix_tg h sd = 5) (r0 : ix_r h sd 1 = some a0) (r1 : ix_r h sd 2 = some a1) (t0 : ix_tg h a0 = 10) (t1 : ix_tg h a1 = 10) (C0 : cLi h a0 D0 L0) (C1 : cLi h a1 D1 L1) (n01 : a0 ≠ a1) (nD : D0 = D1 → ix_tg h D0 ≠ 107) (hL0 : L0.length ≤ 330) (hL1 : L1.length ≤ 330) (lsd : sd < ix_nx h) (la0 : a0 < ix_nx h) (la1 : a1 < ix_nx h) (lD0 : D0 < ix_nx h) (lD1 : D1 < ix_nx h) (hE0 : ∀ b, b ∈ L0 → elT h b ∧ b < ix_nx h) (hE1 : ∀ b, b ∈ L1 → elT h b ∧ b < ix_nx h) (hb : elT h b) (lb : b < ix_nx h) (hz : cNx h) : ix_E G 113 0 (lv_args 0 [.ref sd, .ref b]) [] h (fun r h' => r = none ∧ lsP2 a0 D0 L0 a1 D1 L1 b h h') := by
  have d0 := C0.t
  have d1 := C1.t
  have D0a : ¬ D0 = a1 := fun q => by rw [q, t1] at d0; omega
  have D1a : ¬ D1 = a0 := fun q => by rw [q, t0] at d1; omega
  refine ie_aload_n d113_0 rfl ?_
  refine ie_getr _ d113_1 fl2_19 ts r0 ?_
  refine ie_aload_n d113_4 rfl ?_
  refine ie_callV [_] d113_5 ok69 rm113_69 cl2_29 rfl rfl (Nat.le_of_ble_eq_true rfl) (Nat.le_of_ble_eq_true rfl) t0 (s69 t0 C0 hL0 la0 lD0 hE0 hb lb) (fun rv h1 hq => ?_)
  obtain ⟨q1, E0, q2, q3, q4, q5⟩ := hq
  subst q1
  refine ie_pop d113_8 rfl ?_
  have x1 := q3.2.2.2.1
  have x1' := q3.2.2.2.2.1
  have E0n : ∀ q, q < ix_nx h → ¬ q = D0 → ¬ q = E0 := fun q hq hd z => by
    rcases q2 with y | y
    · exact hd (z.trans y.1)
    · omega
  have sa0 : ¬ sd = a0 := fun q => by rw [q, t0] at ts; exact absurd ts (by decide)
  have sD0 : ¬ sd = D0 := fun q => by rw [← q, ts] at d0; omega
  have cs := q3.1 sd lsd sa0 (E0n sd lsd sD0)
  have ca1 := q3.1 a1 la1 (Ne.symm n01) (E0n a1 la1 (Ne.symm D0a))
  have E0D1 : ¬ D1 = E0 := fun z => by
    rcases q2 with y | y
    · exact nD (y.1 ▸ z.symm) y.2
    · omega
  have cd1 := q3.1 D1 lD1 D1a E0D1
  have C1' : cLi h1 a1 D1 L1 := cLi_c C1 ca1 cd1
  have tg : ∀ q, q < ix_nx h → ix_tg h1 q = ix_tg h q := fun q hq => (q3.2.1 q hq).1
  have hE1' : ∀ b, b ∈ L1 → elT h1 b ∧ b < ix_nx h1 := fun b m => by
    obtain ⟨w1, w2⟩ := hE1 b m
    exact ⟨by unfold elT; rw [tg b w2]; exact w1, by omega⟩
  refine ie_aload_n d113_9 rfl ?_
  refine ie_getr _ d113_10 fl2_23 (by rw [cs.1]; exact ts) (by rw [cs.2.2.2]; exact r1) ?_
  refine ie_aload_n d113_13 rfl ?_
  have t1' : ix_tg h1 a1 = 10 := by rw [ca1.1]; exact t1
  refine ie_callV [_] d113_14 ok69 rm113_69 cl2_29 rfl rfl (Nat.le_of_ble_eq_true rfl) (Nat.le_of_ble_eq_true rfl) t1' (s69 t1' C1' hL1 (by omega) (by omega) hE1' (by unfold elT; rw [tg b lb]; exact hb) (by omega)) (fun rv h2 hq => ?_)
  obtain ⟨z1, E1, z2, z3, z4, z5⟩ := hq
  subst z1
  refine ie_pop d113_17 rfl ?_
  have hz1 : cNx h1 := q3.2.2.2.2.2.2.2 hz
  have lE0 : E0 < ix_nx h1 := Nat.lt_of_not_le fun w => by rw [hz1 E0 w] at q5; exact absurd q5 (by decide)
  have x2 := z3.2.2.2.1
  have x2' := z3.2.2.2.2.1
  have u1 := q3.2.2.2.2.2.1
  have u1' := q3.2.2.2.2.2.2.1
  have u2 := z3.2.2.2.2.2.1
  have u2' := z3.2.2.2.2.2.2.1
  have t0' : ix_tg h1 a0 = 10 := by rw [tg a0 la0]; exact t0
  have E0a1 : ¬ E0 = a1 := fun q => by rw [q, t1'] at q5; exact absurd q5 (by decide)
  have E01 : ¬ E0 = E1 := fun q => by
    rcases z2 with y | y
    · exact E0D1 (y.1.symm.trans q.symm)
    · omega
  have a0E1 : ¬ a0 = E1 := fun q => by
    rcases z2 with y | y
    · exact D1a (y.1.symm.trans q.symm)
    · omega
  have z2' : (E1 = D1 ∧ ix_tg h D1 = 107) ∨ ix_nx h ≤ E1 := by
    rcases z2 with y | y
    · left
      exact ⟨y.1, by rw [← tg D1 lD1]; exact y.2⟩
    · right; omega
  refine ie_vret d113_18 rfl ⟨rfl, E0, E1, q2.imp id (fun y => by omega), z2', E01, cLi_c q4 (z3.1 a0 (by omega) n01 a0E1) (z3.1 E0 lE0 E0a1 E01), z4, fun q hq w1 w2 w3 w4 => (q3.1 q hq w1 w3).tr (z3.1 q (by omega) w2 w4), fun q hq => ?_, fun q j hq => ?_, by omega, by omega, by omega, by omega, fun z => z3.2.2.2.2.2.2.2 (q3.2.2.2.2.2.2.2 z)⟩
  · rw [(z3.2.1 q (by omega)).1, (z3.2.1 q (by omega)).2]
    exact q3.2.1 q hq
  · rw [z3.2.2.1 q j (by omega)]
    exact q3.2.2.1 q j hq
