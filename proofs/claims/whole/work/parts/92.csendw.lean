/-! ===== the class's methods: a unit goes out ===== -/
theorem as_unit : ix_AS 7 6 := ⟨by decide, by decide, rfl, "FileDelivery$Unit", rfl, Or.inl rfl⟩
/-- the link, as its methods need it -/
def lkS (h : ix_H) (x : Nat) : Prop := ix_tg h (cLk x) = 2 ∧ ix_r h (cLk x) 0 = some (cRo x) ∧ ix_tg h (cRo x) = 106 ∧ ix_ln h (cRo x) = 24 ∧ (∃ u, u ≤ 24 ∧ ix_i h (cLk x) 1 = nI u) ∧ x + 30 ≤ ix_nx h
theorem lkS_c {h h' : ix_H} {x : Nat} (L : lkS h x) (c1 : ceq h h' (cLk x)) (c2 : ceq h h' (cRo x)) (hn : ix_nx h ≤ ix_nx h') : lkS h' x := by
  obtain ⟨a1, a2, a3, a4, ⟨u, u1, u2⟩, a6⟩ := L
  exact ⟨by rw [c1.1]; exact a1, by rw [c1.2.2.2]; exact a2, by rw [c2.1]; exact a3, by rw [c2.2.1]; exact a4, ⟨u, u1, by rw [c1.2.2.1]; exact u2⟩, by omega⟩
theorem cRel.lk {h : ix_H} {x : Nat} {S : MS} {T A R U D : Nat → Nat} {Lo Lr : Nat → List Nat} (C : cRel h x S T A R U D Lo Lr) (I : mInv S) : lkS h x := ⟨C.fx.2.2.2.2.2.1, C.fx.2.2.2.2.2.2.1, C.fx.2.2.2.2.2.2.2.1, C.fx.2.2.2.2.2.2.2.2.1, ⟨gU S, I.gu.2, by rw [C.us.1]; exact I.gu.1⟩, C.x30⟩
set_option maxRecDepth 100000 in
set_option maxHeartbeats 4000000 in
/-- Transaction.otherEntity -/
theorem s35 {G : ix_G} {h : ix_H} {a : Nat} (ht : ix_tg h a = 7) : ix_Ev G 35 0 (lv_args 0 [.ref a]) [] h (some (.int (1 - ix_i h a 0))) h := by
  refine ix_ofE ?_
  refine ie_iconst (1) d35_0 (by decide) ?_
  first | refine ie_aload_n d35_1 rfl ?_ | refine ie_aload_nN d35_1 rfl ?_
  refine ie_geti d35_2 fl11_9 ht ?_
  refine ie_isub d35_5 ?_
  exact ie_iret d35_6 rfl (by first | rfl | decide) ⟨rfl, rfl⟩
set_option maxRecDepth 100000 in
set_option maxHeartbeats 4000000 in
/-- Transaction.isAcknowledged -/
theorem s45 {G : ix_G} {h : ix_H} {a : Nat} (ht : ix_tg h a = 7) : ix_Ev G 45 0 (lv_args 0 [.ref a]) [] h (some (.int (bI (ix_i h a 4 = 2)))) h := by
  refine ix_ofE ?_
  first | refine ie_aload_n d45_0 rfl ?_ | refine ie_aload_nN d45_0 rfl ?_
  refine ie_geti d45_1 fl11_24 ht ?_
  refine ie_iconst (2) d45_4 (by decide) ?_
  refine ie_icmp_ne 12 d45_5 (by decide) (fun c5 => ?_) (fun c5 => ?_)
  · skip
    refine ie_iconst (0) d45_12 (by decide) ?_
    exact ie_iret d45_13 rfl (by first | rfl | decide) ⟨by unfold bI; split <;> first | rfl | (rename_i w; exact absurd w c5) | (rename_i w; exact absurd c5 w), rfl⟩
  · skip
    refine ie_iconst (1) d45_8 (by decide) ?_
    refine ie_goto 13 d45_9 (by decide) ?_
    exact ie_iret d45_13 rfl (by first | rfl | decide) ⟨by unfold bI; split <;> first | rfl | (rename_i w; exact absurd w c5) | (rename_i w; exact absurd c5 w), rfl⟩
set_option maxRecDepth 100000 in
set_option maxHeartbeats 4000000 in
/-- Sender.isOpen -/
theorem s26 {G : ix_G} {h : ix_H} {a : Nat} (ht : ix_tg h a = 4) : ix_Ev G 26 0 (lv_args 0 [.ref a]) [] h (some (.int (bI (ix_i h a 15 = 0)))) h := by
  refine ix_ofE ?_
  first | refine ie_aload_n d26_0 rfl ?_ | refine ie_aload_nN d26_0 rfl ?_
  refine ie_geti d26_1 fl10_47 ht ?_
  refine ie_if_ne 11 d26_4 (by decide) (fun c4 => ?_) (fun c4 => ?_)
  · skip
    refine ie_iconst (0) d26_11 (by decide) ?_
    exact ie_iret d26_12 rfl (by first | rfl | decide) ⟨by unfold bI; split <;> first | rfl | (rename_i w; exact absurd w c4) | (rename_i w; exact absurd c4 w), rfl⟩
  · skip
    refine ie_iconst (1) d26_7 (by decide) ?_
    refine ie_goto 12 d26_8 (by decide) ?_
    exact ie_iret d26_12 rfl (by first | rfl | decide) ⟨by unfold bI; split <;> first | rfl | (rename_i w; exact absurd w c4) | (rename_i w; exact absurd c4 w), rfl⟩
set_option maxRecDepth 100000 in
set_option maxHeartbeats 4000000 in
/-- Receiver.hasEnded -/
theorem s49 {G : ix_G} {h : ix_H} {a : Nat} (ht : ix_tg h a = 3) : ix_Ev G 49 0 (lv_args 0 [.ref a]) [] h (some (.int (bI (¬ ix_i h a 11 = 0)))) h := by
  refine ix_ofE ?_
  first | refine ie_aload_n d49_0 rfl ?_ | refine ie_aload_nN d49_0 rfl ?_
  refine ie_geti d49_1 fl13_34 ht ?_
  refine ie_if_eq 11 d49_4 (by decide) (fun c4 => ?_) (fun c4 => ?_)
  · skip
    refine ie_iconst (0) d49_11 (by decide) ?_
    exact ie_iret d49_12 rfl (by first | rfl | decide) ⟨by unfold bI; split <;> first | rfl | (rename_i w; exact absurd w c4) | (rename_i w; exact absurd c4 w) | (rename_i w; exact absurd (fun z => c4 z) w), rfl⟩
  · skip
    refine ie_iconst (1) d49_7 (by decide) ?_
    refine ie_goto 12 d49_8 (by decide) ?_
    exact ie_iret d49_12 rfl (by first | rfl | decide) ⟨by unfold bI; split <;> first | rfl | (rename_i w; exact absurd w c4) | (rename_i w; exact absurd c4 w) | (rename_i w; exact absurd (fun z => c4 z) w), rfl⟩
set_option maxRecDepth 100000 in
set_option maxHeartbeats 4000000 in
/-- Unit.<init> -/
theorem s36 {G : ix_G} {h : ix_H} {n tx : Nat} {w to d l c : Int32} (ht : ix_tg h n = 8) : ix_Ev G 36 0 (lv_args 0 [.ref n, .ref tx, .int w, .int to, .int d, .int l, .int c]) [] h none (ix_si (ix_si (ix_si (ix_si (ix_si (ix_sr h n 0 (some tx)) n 1 w) n 2 to) n 3 d) n 4 l) n 5 c) := by
  refine ix_ofE ?_
  first | refine ie_aload_n d36_0 rfl ?_ | refine ie_aload_nN d36_0 rfl ?_
  refine ie_objI d36_1 oi12_1 oi_I oi_C (by decide) (Nat.le_of_ble_eq_true rfl) ?_
  first | refine ie_aload_n d36_4 rfl ?_ | refine ie_aload_nN d36_4 rfl ?_
  first | refine ie_aload_n d36_5 rfl ?_ | refine ie_aload_nN d36_5 rfl ?_
  first | refine ie_putr d36_6 fl12_7 (Or.inr ⟨rfl, rfl, rfl⟩) ht rfl rfl ?_ | refine ie_putN d36_6 fl12_7 (Or.inr ⟨rfl, rfl, rfl⟩) ht rfl rfl ?_
  first | refine ie_aload_n d36_9 rfl ?_ | refine ie_aload_nN d36_9 rfl ?_
  refine ie_iload_n d36_10 rfl ?_
  refine ie_puti d36_11 fl12_13 (Or.inr ⟨rfl, rfl, rfl⟩) ht rfl rfl ?_
  first | refine ie_aload_n d36_14 rfl ?_ | refine ie_aload_nN d36_14 rfl ?_
  refine ie_iload_n d36_15 rfl ?_
  refine ie_puti d36_16 fl12_17 (Or.inr ⟨rfl, rfl, rfl⟩) ht rfl rfl ?_
  first | refine ie_aload_n d36_19 rfl ?_ | refine ie_aload_nN d36_19 rfl ?_
  refine ie_iload d36_20 rfl ?_
  refine ie_puti d36_22 fl12_20 (Or.inr ⟨rfl, rfl, rfl⟩) ht rfl rfl ?_
  first | refine ie_aload_n d36_25 rfl ?_ | refine ie_aload_nN d36_25 rfl ?_
  refine ie_iload d36_26 rfl ?_
  refine ie_puti d36_28 fl12_23 (Or.inr ⟨rfl, rfl, rfl⟩) ht rfl rfl ?_
  first | refine ie_aload_n d36_31 rfl ?_ | refine ie_aload_nN d36_31 rfl ?_
  refine ie_iload d36_32 rfl ?_
  refine ie_puti d36_34 fl12_26 (Or.inl rfl) ht rfl rfl ?_
  exact ie_vret d36_37 rfl ⟨rfl, rfl⟩
set_option maxRecDepth 100000 in
set_option maxHeartbeats 4000000 in
/-- Link.send -/
theorem s37 {G : ix_G} {h : ix_H} {x n : Nat} (L : lkS h x) (hn : ix_tg h n = 8) : ix_Ev G 37 0 (lv_args 0 [.ref (cLk x), .ref n]) [] h none (hSd x h n) := by
  obtain ⟨hlk, hro, hrt, hrl, ⟨u, hu, hcnt⟩, hnx⟩ := L
  refine ix_ofE ?_
  first | refine ie_aload_n d37_0 rfl ?_ | refine ie_aload_nN d37_0 rfl ?_
  refine ie_geti d37_1 fl7_17 hlk ?_
  refine ie_bipush (24) d37_4 (by decide) ?_
  refine ie_icmp_ge 29 d37_6 (by decide) (fun c6 => ?_) (fun c6 => ?_)
  · skip
    exact ie_vret d37_29 rfl ⟨rfl, by unfold hSd; first | rw [if_neg (Int32.not_lt.mpr c6)] | (rw [if_pos (Int32.not_le.mp c6)]; rfl)⟩
  · skip
    first | refine ie_aload_n d37_9 rfl ?_ | refine ie_aload_nN d37_9 rfl ?_
    refine ie_getr _ d37_10 fl7_11 hlk hro ?_
    first | refine ie_aload_n d37_13 rfl ?_ | refine ie_aload_nN d37_13 rfl ?_
    refine ie_geti d37_14 fl7_17 hlk ?_
    first | refine ie_aload_n d37_17 rfl ?_ | refine ie_aload_nN d37_17 rfl ?_
    refine ie_aast (k := 7) (t := 6) d37_18 as_unit hrt hn (by rw [hrl, hcnt]; refine vp_nI ?_ (by decide); rw [hcnt, show (24 : Int32) = nI 24 from rfl, nI_leI (by omega) (by omega)] at c6; omega) ?_
    first | refine ie_aload_n d37_19 rfl ?_ | refine ie_aload_nN d37_19 rfl ?_
    refine ie_dup d37_20 rfl ?_
    refine ie_geti d37_21 fl7_17 hlk ?_
    refine ie_iconst (1) d37_24 (by decide) ?_
    refine ie_iadd d37_25 ?_
    refine ie_puti d37_26 fl7_17 (Or.inl rfl) hlk rfl rfl ?_
    exact ie_vret d37_29 rfl ⟨rfl, by unfold hSd; first | rw [if_neg (Int32.not_lt.mpr c6)] | (rw [if_pos (Int32.not_le.mp c6)]; rfl)⟩
set_option maxRecDepth 100000 in
set_option maxHeartbeats 4000000 in
/-- Sender.launch -/
theorem s34 {G : ix_G} {h : ix_H} {x s tx : Nat} {w d l c : Int32} (L : lkS h x) (ht : ix_tg h s = 4) (hr0 : ix_r h s 0 = some tx) (hr2 : ix_r h s 2 = some (cLk x)) (hx : ix_tg h tx = 7) (hs30 : x + 30 ≤ s) (hsn : s < ix_nx h) (hxn : tx < ix_nx h) : ix_Ev G 34 0 (lv_args 0 [.ref s, .int w, .int d, .int l, .int c]) [] h none (ix_si (hOut x h tx w (1 - ix_i h tx 0) d l c) s 14 (ix_i h s 12)) := by
  have x30 := L.2.2.2.2.2
  have en : ∀ b, b < ix_nx h → ix_tg (ix_nw h 8 0 6) b = ix_tg h b := fun b hb => by rw [ix_tg_nw, if_neg (by omega)]
  have er : ∀ b j, b < ix_nx h → ix_r (ix_nw h 8 0 6) b j = ix_r h b j := fun b j hb => by rw [ix_r_nw, if_neg (by omega)]
  have ei : ∀ b j, b < ix_nx h → ix_i (ix_nw h 8 0 6) b j = ix_i h b j := fun b j hb => by rw [ix_i_nw, if_neg (by omega)]
  have s1 : s ≠ cLk x := by unfold cLk; omega
  have s2 : s ≠ cRo x := by unfold cRo; omega
  refine ix_ofE ?_
  refine ie_aload_n d34_0 rfl ?_
  refine ie_getr _ d34_1 fl10_23 ht hr2 ?_
  refine ie_new d34_4 nl10_121 ?_
  show ix_E G 34 7 _ _ (ix_nw h 8 0 6) _
  refine ie_dup d34_7 rfl ?_
  refine ie_aload_n d34_8 rfl ?_
  refine ie_getr tx d34_9 fl10_15 (by rw [en s hsn]; exact ht) (by rw [er s 0 hsn]; exact hr0) ?_
  refine ie_iload_n d34_12 rfl ?_
  refine ie_aload_n d34_13 rfl ?_
  refine ie_getr tx d34_14 fl10_15 (by rw [en s hsn]; exact ht) (by rw [er s 0 hsn]; exact hr0) ?_
  refine ie_callVx [] d34_17 ok35 rm34_35 cl10_123 rfl rfl (Nat.le_of_ble_eq_true rfl) (Nat.le_of_ble_eq_true rfl) (by rw [en tx hxn]; exact hx) (s35 (by rw [en tx hxn]; exact hx)) ?_
  rw [ei tx 0 hxn]
  refine ie_iload_n d34_20 rfl ?_
  refine ie_iload_n d34_21 rfl ?_
  refine ie_iload d34_22 rfl ?_
  refine ie_callIx [_, _, _, _, _, _] d34_24 ok36 rm34_36 cl10_127 rfl rfl (Nat.le_of_ble_eq_true rfl) (Nat.le_of_ble_eq_true rfl) (s36 (n := ix_nx h) (by rw [ix_tg_nw, if_pos rfl])) ?_
  have Lu : lkS (hUn h tx w (1 - ix_i h tx 0) d l c) x := lkS_c L (hUn_o (by unfold cLk; omega)) (hUn_o (by unfold cRo; omega)) (by rw [hUn_x]; omega)
  refine ie_callVx [_] d34_27 ok37 rm34_37 cl10_130 rfl rfl (Nat.le_of_ble_eq_true rfl) (Nat.le_of_ble_eq_true rfl) Lu.1 (s37 Lu hUn_n.1) ?_
  have cs : ceq h (hOut x h tx w (1 - ix_i h tx 0) d l c) s := hOut_s s1 s2 hsn
  show ix_E G 34 30 _ _ (hOut x h tx w (1 - ix_i h tx 0) d l c) _
  refine ie_aload_n d34_30 rfl ?_
  refine ie_aload_n d34_31 rfl ?_
  refine ie_geti (k := 3) d34_32 fl10_73 (by rw [cs.1]; exact ht) ?_
  rw [cs.2.2.1]
  refine ie_puti (k := 3) d34_35 fl10_85 (Or.inl rfl) (by rw [cs.1]; exact ht) rfl rfl ?_
  exact ie_vret d34_38 rfl ⟨rfl, rfl⟩
