/-! ===== a receiver stores its file ===== -/
theorem fits_b8 {v : Int32} (h : b8 v) : fits .byte (.int v) = true := by
  unfold b8 at h
  have e := congrArg Int32.toInt h
  rw [Int8.toInt_toInt32] at e
  have h1 := Int8.le_toInt v.toInt8
  have h2 := Int8.toInt_lt v.toInt8
  unfold fits
  rw [Bool.and_eq_true, decide_eq_true_iff, decide_eq_true_iff]
  rw [Int32.le_iff_toInt_le, Int32.le_iff_toInt_le, show (-128 : Int32).toInt = -128 from by decide, show (127 : Int32).toInt = 127 from by decide]
  omega
theorem cpl_31 : ix_CpL "FileDelivery$Store" 31 := ⟨ix_in 612 (by decide +kernel) (by decide +kernel), ix_in 437 (by decide +kernel) (by decide +kernel), ix_in 436 (by decide +kernel) (by decide +kernel), ix_in 82 (by decide +kernel) (by decide +kernel)⟩
set_option maxRecDepth 100000 in
set_option maxHeartbeats 4000000 in
/-- Store.replace -/
theorem s85 {G : ix_G} {h : ix_H} {x e f B n : Nat} (F : cFx1 h x e) (hf : f < 6) (hB : ix_tg h B = 102) (hl : ix_ln h B = 64) (hn : n ≤ 64) (b1 : ∀ i, i < n → b8 (ix_i h B i)) : ix_Ev G 85 0 (lv_args 0 [.ref (cSt x e), .int (nI f), .ref B, .int (nI n)]) [] h none (hRp x h e f B n) := by
  obtain ⟨f1, f2, f3, f4, f5, f6, f7, f8, f9, f10, f11, f12⟩ := F
  obtain ⟨g1, g2, g3⟩ := f12 f hf
  refine ix_ofE ?_
  refine ie_aload_n d85_0 rfl ?_
  refine ie_iconst (nI 0) d85_1 (by decide) ?_
  refine ie_aload_n d85_2 rfl ?_
  refine ie_getr (k := 5) _ d85_3 fl3_11 f5 f6 ?_
  refine ie_iload_n d85_6 rfl ?_
  refine ie_aald (t := 4) d85_7 (by decide) rfl rfl (Or.inl f8) (by rw [f9]; exact vp_nI hf (by decide)) ?_
  rw [nI_clamp (by omega), g1]
  refine ie_iconst (nI 0) d85_8 (by decide) ?_
  refine ie_iload_n d85_9 rfl ?_
  have k0 : (nI 0).toNatClampNeg = 0 := nI_clamp (by decide)
  have kn : (nI n).toNatClampNeg = n := nI_clamp (by omega)
  refine ie_copyB d85_10 cpl_31 (by decide) (Nat.le_of_ble_eq_true rfl) hB g2 (nI_pos (by decide)) (nI_pos (by decide)) (nI_pos (by omega)) (by rw [k0, kn, hl]; omega) (by rw [k0, kn, g3]; omega) (fun j hj => ?_) ?_
  · rw [kn] at hj
    rw [k0, Nat.zero_add]
    exact fits_b8 (b1 j hj)
  · rw [k0, kn]
    refine ie_aload_n d85_13 rfl ?_
    refine ie_getr (k := 5) _ d85_14 fl3_16 f5 f7 ?_
    refine ie_iload_n d85_17 rfl ?_
    refine ie_iload_n d85_18 rfl ?_
    refine ie_iast d85_19 f10 (by show vp_in _ (ix_ln h (cSz x e)); rw [f11]; exact vp_nI hf (by decide)) ?_
    rw [nI_clamp (by omega)]
    exact ie_vret d85_20 rfl ⟨rfl, rfl⟩
/-- Store.duplicate -/
theorem s87 {G : ix_G} {h : ix_H} {x e f g n : Nat} (F : cFx1 h x e) (hf : f < 6) (hg : g < 6) (hsz : ix_i h (cSz x e) f = nI n) (hn : n ≤ 64) (b1 : ∀ i, i < n → b8 (ix_i h (cBr x e f) i)) : ix_Ev G 87 0 (lv_args 0 [.ref (cSt x e), .int (nI f), .int (nI g)]) [] h none (hRp x h e g (cBr x e f) n) := by
  obtain ⟨f1, f2, f3, f4, f5, f6, f7, f8, f9, f10, f11, f12⟩ := id F
  obtain ⟨g1, g2, g3⟩ := f12 f hf
  refine ix_ofE ?_
  refine ie_aload_n d87_0 rfl ?_
  refine ie_iload_n d87_1 rfl ?_
  refine ie_aload_n d87_2 rfl ?_
  refine ie_getr (k := 5) _ d87_3 fl3_11 f5 f6 ?_
  refine ie_iload_n d87_6 rfl ?_
  refine ie_aald (t := 4) d87_7 (by decide) rfl rfl (Or.inl f8) (by rw [f9]; exact vp_nI hf (by decide)) ?_
  rw [nI_clamp (by omega), g1]
  refine ie_aload_n d87_8 rfl ?_
  refine ie_getr (k := 5) _ d87_9 fl3_16 f5 f7 ?_
  refine ie_iload_n d87_12 rfl ?_
  refine ie_iald d87_13 (Or.inl f10) (by rw [f11]; exact vp_nI hf (by decide)) ?_
  rw [nI_clamp (by omega), hsz]
  refine ie_callVx [_, _, _] d87_14 ok85 rm87_85 cl3_37 rfl rfl (Nat.le_of_ble_eq_true rfl) (Nat.le_of_ble_eq_true rfl) f5 (s85 F hg g2 g3 hn b1) ?_
  exact ie_vret d87_17 rfl ⟨rfl, rfl⟩
/-- Store.remove -/
theorem s88 {G : ix_G} {h : ix_H} {x e f : Nat} (F : cFx1 h x e) (hf : f < 6) : ix_Ev G 88 0 (lv_args 0 [.ref (cSt x e), .int (nI f)]) [] h none (ix_si h (cSz x e) f (-1)) := by
  obtain ⟨f1, f2, f3, f4, f5, f6, f7, f8, f9, f10, f11, f12⟩ := id F
  refine ix_ofE ?_
  refine ie_aload_n d88_0 rfl ?_
  refine ie_getr (k := 5) _ d88_1 fl3_16 f5 f7 ?_
  refine ie_iload_n d88_4 rfl ?_
  refine ie_iconst (-1) d88_5 (by decide) ?_
  refine ie_iast d88_6 f10 (by rw [f11]; exact vp_nI hf (by decide)) ?_
  rw [nI_clamp (by omega)]
  exact ie_vret d88_7 rfl ⟨rfl, rfl⟩
/-- what of the heap storing reads -/
def rvS (h : ix_H) (x r tx e d ot : Nat) (wish : Int32) : Prop := ix_tg h r = 3 ∧ ix_r h r 0 = some tx ∧ ix_r h r 1 = some (cS0 x e) ∧ ix_tg h tx = 7 ∧ ix_i h tx 3 = nI d ∧ ix_i h tx 5 = wish ∧ ix_i h tx 6 = nI ot ∧ cFx1 h x e ∧ d < 6 ∧ ot < 6
theorem rvS_fr {h h' : ix_H} {x r tx e d ot : Nat} {wish : Int32} (X : rvS h x r tx e d ot wish) (c : ∀ b, ix_tg h' b = ix_tg h b ∧ ix_ln h' b = ix_ln h b ∧ ∀ j, ix_r h' b j = ix_r h b j) (ci : ∀ j, ix_i h' tx j = ix_i h tx j) : rvS h' x r tx e d ot wish := by
  obtain ⟨a1, a2, a3, a4, a5, a6, a7, a8, a9⟩ := X
  exact ⟨by rw [(c r).1]; exact a1, by rw [(c r).2.2]; exact a2, by rw [(c r).2.2]; exact a3, by rw [(c tx).1]; exact a4, by rw [ci]; exact a5, by rw [ci]; exact a6, by rw [ci]; exact a7, cFx1_fr a8 c, a9⟩
set_option maxRecDepth 100000 in
set_option maxHeartbeats 4000000 in
/-- doRequest: its file is locked -/
theorem s86_l {G : ix_G} {h : ix_H} {x r tx e d ot : Nat} {wish : Int32} (X : rvS h x r tx e d ot wish) (E : ix_Ev G 84 0 (lv_args 0 [.ref (cS0 x e), .int (nI ot)]) [] h (some (.int 1)) h) : ix_Ev G 86 0 (lv_args 0 [.ref r]) [] h (some (.int 0)) h := by
  obtain ⟨a1, a2, a3, a4, a5, a6, a7, F, d6, o6⟩ := X
  have f5 := F.2.2.2.2.1
  refine ix_ofE ?_
  refine ie_aload_n d86_0 rfl ?_
  refine ie_getr _ d86_1 fl13_23 a1 a3 ?_
  refine ie_aload_n d86_4 rfl ?_
  refine ie_getr _ d86_5 fl13_19 a1 a2 ?_
  refine ie_geti (k := 6) d86_8 fl13_153 a4 ?_
  rw [a7]
  refine ie_callVx [_] d86_11 ok84 rm86_84 cl13_128 rfl rfl (Nat.le_of_ble_eq_true rfl) (Nat.le_of_ble_eq_true rfl) F.2.1 E ?_
  refine ie_if_eq 19 d86_14 (by decide) (fun z => absurd z (by decide)) (fun _ => ?_)
  refine ie_iconst 0 d86_17 (by decide) ?_
  exact ie_iret d86_18 rfl (by decide) ⟨rfl, rfl⟩
/-- doRequest: a copy -/
theorem s86_c {G : ix_G} {h : ix_H} {x r tx e d ot n : Nat} (X : rvS h x r tx e d ot (nI 2)) (E : ix_Ev G 84 0 (lv_args 0 [.ref (cS0 x e), .int (nI ot)]) [] h (some (.int 0)) h) (hsz : ix_i h (cSz x e) d = nI n) (hn : n ≤ 64) (b1 : ∀ i, i < n → b8 (ix_i h (cBr x e d) i)) : ix_Ev G 86 0 (lv_args 0 [.ref r]) [] h (some (.int 1)) (hRp x h e ot (cBr x e d) n) := by
  obtain ⟨a1, a2, a3, a4, a5, a6, a7, F, d6, o6⟩ := X
  have f5 := F.2.2.2.2.1
  refine ix_ofE ?_
  refine ie_aload_n d86_0 rfl ?_
  refine ie_getr _ d86_1 fl13_23 a1 a3 ?_
  refine ie_aload_n d86_4 rfl ?_
  refine ie_getr _ d86_5 fl13_19 a1 a2 ?_
  refine ie_geti (k := 6) d86_8 fl13_153 a4 ?_
  rw [a7]
  refine ie_callVx [_] d86_11 ok84 rm86_84 cl13_128 rfl rfl (Nat.le_of_ble_eq_true rfl) (Nat.le_of_ble_eq_true rfl) F.2.1 E ?_
  refine ie_if_eq 19 d86_14 (by decide) (fun _ => ?_) (fun z => absurd rfl z)
  refine ie_aload_n d86_19 rfl ?_
  refine ie_getr _ d86_20 fl13_19 a1 a2 ?_
  refine ie_geti (k := 6) d86_23 fl13_144 a4 ?_
  rw [a6]
  refine ie_iconst (nI 2) d86_26 (by decide) ?_
  refine ie_icmp_ne 56 d86_27 (by decide) (fun z => absurd rfl z) (fun _ => ?_)
  refine ie_aload_n d86_30 rfl ?_
  refine ie_getr _ d86_31 fl13_23 a1 a3 ?_
  refine ie_getr _ d86_34 fl13_134 F.2.1 F.2.2.1 ?_
  refine ie_aload_n d86_37 rfl ?_
  refine ie_getr _ d86_38 fl13_19 a1 a2 ?_
  refine ie_geti (k := 6) d86_41 fl13_125 a4 ?_
  rw [a5]
  refine ie_aload_n d86_44 rfl ?_
  refine ie_getr _ d86_45 fl13_19 a1 a2 ?_
  refine ie_geti (k := 6) d86_48 fl13_153 a4 ?_
  rw [a7]
  refine ie_callVx [_, _] d86_51 ok87 rm86_87 cl13_156 rfl rfl (Nat.le_of_ble_eq_true rfl) (Nat.le_of_ble_eq_true rfl) f5 (s87 F d6 o6 hsz hn b1) ?_
  refine ie_iconst 1 d86_54 (by decide) ?_
  exact ie_iret d86_55 rfl (by decide) ⟨rfl, rfl⟩
/-- doRequest: the other file goes, where it is there -/
theorem s86_d {G : ix_G} {h : ix_H} {x r tx e d ot : Nat} (X : rvS h x r tx e d ot (nI 1)) (E : ix_Ev G 84 0 (lv_args 0 [.ref (cS0 x e), .int (nI ot)]) [] h (some (.int 0)) h) : ix_Ev G 86 0 (lv_args 0 [.ref r]) [] h (some (.int (bI (¬ ix_i h (cSz x e) ot = -1)))) (if ix_i h (cSz x e) ot = -1 then h else ix_si h (cSz x e) ot (-1)) := by
  obtain ⟨a1, a2, a3, a4, a5, a6, a7, F, d6, o6⟩ := X
  have f5 := F.2.2.2.2.1
  refine ix_ofE ?_
  refine ie_aload_n d86_0 rfl ?_
  refine ie_getr _ d86_1 fl13_23 a1 a3 ?_
  refine ie_aload_n d86_4 rfl ?_
  refine ie_getr _ d86_5 fl13_19 a1 a2 ?_
  refine ie_geti (k := 6) d86_8 fl13_153 a4 ?_
  rw [a7]
  refine ie_callVx [_] d86_11 ok84 rm86_84 cl13_128 rfl rfl (Nat.le_of_ble_eq_true rfl) (Nat.le_of_ble_eq_true rfl) F.2.1 E ?_
  refine ie_if_eq 19 d86_14 (by decide) (fun _ => ?_) (fun z => absurd rfl z)
  refine ie_aload_n d86_19 rfl ?_
  refine ie_getr _ d86_20 fl13_19 a1 a2 ?_
  refine ie_geti (k := 6) d86_23 fl13_144 a4 ?_
  rw [a6]
  refine ie_iconst (nI 2) d86_26 (by decide) ?_
  refine ie_icmp_ne 56 d86_27 (by decide) (fun _ => ?_) (fun z => absurd z (by decide))
  refine ie_aload_n d86_56 rfl ?_
  refine ie_getr _ d86_57 fl13_19 a1 a2 ?_
  refine ie_geti (k := 6) d86_60 fl13_144 a4 ?_
  rw [a6]
  refine ie_iconst (nI 1) d86_63 (by decide) ?_
  refine ie_icmp_ne 87 d86_64 (by decide) (fun z => absurd rfl z) (fun _ => ?_)
  refine ie_aload_n d86_67 rfl ?_
  refine ie_getr _ d86_68 fl13_23 a1 a3 ?_
  refine ie_getr _ d86_71 fl13_134 F.2.1 F.2.2.1 ?_
  refine ie_aload_n d86_74 rfl ?_
  refine ie_getr _ d86_75 fl13_19 a1 a2 ?_
  refine ie_geti (k := 6) d86_78 fl13_153 a4 ?_
  rw [a7]
  refine ie_callVx [_] d86_81 ok12 rm86_12 cl13_159 rfl rfl (Nat.le_of_ble_eq_true rfl) (Nat.le_of_ble_eq_true rfl) f5 (s12 f5 F.2.2.2.2.2.2.1 F.2.2.2.2.2.2.2.2.2.1 F.2.2.2.2.2.2.2.2.2.2.1 o6) ?_
  refine ie_if_ne 89 d86_84 (by decide) (fun c => ?_) (fun c => ?_)
  · have c' : ¬ ix_i h (cSz x e) ot = -1 := fun z => c (bI_0.mpr (fun y => y z))
    rw [bI_t c', if_neg c']
    refine ie_aload_n d86_89 rfl ?_
    refine ie_getr _ d86_90 fl13_23 a1 a3 ?_
    refine ie_getr _ d86_93 fl13_134 F.2.1 F.2.2.1 ?_
    refine ie_aload_n d86_96 rfl ?_
    refine ie_getr _ d86_97 fl13_19 a1 a2 ?_
    refine ie_geti (k := 6) d86_100 fl13_153 a4 ?_
    rw [a7]
    refine ie_callVx [_] d86_103 ok88 rm86_88 cl13_162 rfl rfl (Nat.le_of_ble_eq_true rfl) (Nat.le_of_ble_eq_true rfl) f5 (s88 F o6) ?_
    refine ie_iconst 1 d86_106 (by decide) ?_
    exact ie_iret d86_107 rfl (by decide) ⟨rfl, rfl⟩
  · have c' : ix_i h (cSz x e) ot = -1 := Classical.byContradiction (bI_0.mp c)
    rw [bI_f (fun z => z c'), if_pos c']
    refine ie_iconst 0 d86_87 (by decide) ?_
    exact ie_iret d86_88 rfl (by decide) ⟨rfl, rfl⟩
