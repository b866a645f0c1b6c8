theorem isF2 {e f : Int32} (q : (0 ≤ e ∧ e ≤ 1) ∧ 0 ≤ f ∧ f ≤ 5) : ∃ e' f' : Nat, e' < 2 ∧ f' < 6 ∧ e = nI e' ∧ f = nI f' := by
  obtain ⟨e', h1, h2⟩ := nI_of2 (M := 1) (n := 1) (by decide) (Int32.not_lt.mpr q.1.1) q.1.2
  obtain ⟨f', h3, h4⟩ := nI_of2 (M := 5) (n := 5) (by decide) (Int32.not_lt.mpr q.2.1) q.2.2
  exact ⟨e', f', by omega, by omega, h2, h4⟩
theorem isE2 {e : Int32} (q : 0 ≤ e ∧ e ≤ 1) : ∃ e' : Nat, e' < 2 ∧ e = nI e' := by
  obtain ⟨e', h1, h2⟩ := nI_of2 (M := 1) (n := 1) (by decide) (Int32.not_lt.mpr q.1) q.2
  exact ⟨e', by omega, h2⟩
theorem cl2 {e : Nat} (h : e < 768) : (nI e).toNatClampNeg = e := nI_clamp (by omega)
def mKnown (S : MS) (e n : Int32) : Int32 := if (0 ≤ e ∧ e ≤ 1) ∧ 1 ≤ n ∧ n ≤ S 7 e.toNatClampNeg then 320 * e + n else -1
set_option maxRecDepth 100000 in
set_option maxHeartbeats 4000000 in
/-- thrown -/
theorem s115 {G : ix_G} {h : ix_H} {o : Nat} (M : md_ok h o) : ix_Ev G 115 0 (lv_args 0 [.ref o]) [] h (some (.int (ms h o 3 0))) (h) := by
  refine ix_ofE ?_
  refine ie_aload_n d115_0 rfl ?_
  refine me_geti d115_1 fl17_144 M rfl ?_
  exact ie_iret d115_4 rfl (by first | rfl | decide | exact (ix_bz (bI_01 _)).1 | exact (ix_bz (by assumption)).1) ⟨rfl, rfl⟩
set_option maxRecDepth 100000 in
set_option maxHeartbeats 4000000 in
/-- fails -/
theorem s120 {G : ix_G} {h : ix_H} {o : Nat} (M : md_ok h o) (c : Int32) : ix_Ev G 120 0 (lv_args 0 [.ref o, .int c]) [] h (some (.int 0)) (ix_si h o 3 c) := by
  refine ix_ofE ?_
  refine ie_aload_n d120_0 rfl ?_
  refine ie_iload_n d120_1 rfl ?_
  refine me_puti d120_2 fl17_144 rfl rfl M ?_
  refine ie_iconst (nI 0) d120_5 (by decide) ?_
  exact ie_iret d120_6 rfl (by first | rfl | decide | exact (ix_bz (bI_01 _)).1 | exact (ix_bz (by assumption)).1) ⟨rfl, rfl⟩
set_option maxRecDepth 100000 in
set_option maxHeartbeats 4000000 in
/-- known -/
theorem s127 {G : ix_G} {h : ix_H} {o : Nat} (M : md_ok h o) (e n : Int32) : ix_Ev G 127 0 (lv_args 0 [.ref o, .int e, .int n]) [] h (some (.int (mKnown (ms h o) e n))) (h) := by
  refine ix_ofE ?_
  refine ie_iload_n d127_0 rfl ?_
  refine ie_iconst (nI 0) d127_1 (by decide) ?_
  refine ie_iconst (nI 1) d127_2 (by decide) ?_
  refine ie_callSx [_, _, _] d127_3 ok118 rm127_118 cl17_147 rfl rfl (Nat.le_of_ble_eq_true rfl) (Nat.le_of_ble_eq_true rfl) (s118 _ _ _) ?_
  refine ie_if_eq 34 d127_6 (by decide) (fun c6 => ?_) (fun c6 => ?_)
  · skip
    rw [bI_0] at c6
    have K : (-1 : Int32) = mKnown (ms h o) e n := by
      unfold mKnown
      rw [if_neg (fun z => c6 z.1)]
    refine ie_iconst (-1) d127_34 (by decide) ?_
    exact ie_iret d127_35 rfl (by first | rfl | decide | exact (ix_bz (bI_01 _)).1 | exact (ix_bz (by assumption)).1) ⟨congrArg (fun z => some (Value.int z)) K, rfl⟩
  · skip
    rw [bI_0, Classical.not_not] at c6
    obtain ⟨e', he, rfl⟩ := isE2 c6
    refine ie_iload_n d127_9 rfl ?_
    refine ie_iconst (nI 1) d127_10 (by decide) ?_
    refine ie_icmp_lt 34 d127_11 (by decide) (fun c11 => ?_) (fun c11 => ?_)
    · skip
      have K : (-1 : Int32) = mKnown (ms h o) (nI e') n := by
        unfold mKnown
        rw [if_neg (fun z => absurd c11 (Int32.not_lt.mpr z.2.1))]
      refine ie_iconst (-1) d127_34 (by decide) ?_
      exact ie_iret d127_35 rfl (by first | rfl | decide | exact (ix_bz (bI_01 _)).1 | exact (ix_bz (by assumption)).1) ⟨congrArg (fun z => some (Value.int z)) K, rfl⟩
    · skip
      refine ie_iload_n d127_14 rfl ?_
      refine ie_aload_n d127_15 rfl ?_
      refine me_getr d127_16 fl17_20 M rfl ?_
      refine ie_iload_n d127_19 rfl ?_
      refine me_iald (k := 7) (n := e') d127_20 M rfl rfl rfl (by show e' < 2; exact he) ?_
      refine ie_icmp_gt 34 d127_21 (by decide) (fun c21 => ?_) (fun c21 => ?_)
      · skip
        have K : (-1 : Int32) = mKnown (ms h o) (nI e') n := by
          unfold mKnown
          rw [cl2 (by omega), if_neg (fun z => absurd c21 (Int32.not_lt.mpr z.2.2))]
        refine ie_iconst (-1) d127_34 (by decide) ?_
        exact ie_iret d127_35 rfl (by first | rfl | decide | exact (ix_bz (bI_01 _)).1 | exact (ix_bz (by assumption)).1) ⟨congrArg (fun z => some (Value.int z)) K, rfl⟩
      · skip
        have K : nI (320 * e') + n = mKnown (ms h o) (nI e') n := by
          unfold mKnown
          rw [cl2 (by omega), if_pos ⟨c6, Int32.not_lt.mp c11, Int32.not_lt.mp c21⟩, ← pk_mul]
          rfl
        refine ie_sipush (nI 320) d127_24 (by decide) ?_
        refine ie_iload_n d127_27 rfl ?_
        refine ie_imul d127_28 ?_
        rw [pk_mul]
        refine ie_iload_n d127_29 rfl ?_
        refine ie_iadd d127_30 ?_
        refine ie_goto 35 d127_31 (by decide) ?_
        exact ie_iret d127_35 rfl (by first | rfl | decide | exact (ix_bz (bI_01 _)).1 | exact (ix_bz (by assumption)).1) ⟨congrArg (fun z => some (Value.int z)) K, rfl⟩
set_option maxRecDepth 100000 in
set_option maxHeartbeats 4000000 in
/-- flies -/
theorem s148 {G : ix_G} {h : ix_H} {o : Nat} (M : md_ok h o) (k : Int32) : ix_Ev G 148 0 (lv_args 0 [.ref o, .int k]) [] h (some (.int (bI (0 ≤ k ∧ k < ms h o 44 0)))) (h) := by
  refine ix_ofE ?_
  refine ie_iload_n d148_0 rfl ?_
  refine ie_if_lt 16 d148_1 (by decide) (fun c1 => ?_) (fun c1 => ?_)
  · skip
    refine ie_iconst (nI 0) d148_16 (by decide) ?_
    exact ie_iret d148_17 rfl (by first | rfl | decide | exact (ix_bz (bI_01 _)).1 | exact (ix_bz (by assumption)).1) ⟨congrArg (fun z => some (Value.int z)) (by unfold bI; split <;> first | rfl | (exfalso; (((try simp only [bI_0, bI_1] at *); simp only [Int32.le_iff_toInt_le, Int32.lt_iff_toInt_lt, ← Int32.toInt_inj, tI] at *) <;> omega))), rfl⟩
  · skip
    refine ie_iload_n d148_4 rfl ?_
    refine ie_aload_n d148_5 rfl ?_
    refine me_geti d148_6 fl17_171 M rfl ?_
    refine ie_icmp_ge 16 d148_9 (by decide) (fun c9 => ?_) (fun c9 => ?_)
    · skip
      refine ie_iconst (nI 0) d148_16 (by decide) ?_
      exact ie_iret d148_17 rfl (by first | rfl | decide | exact (ix_bz (bI_01 _)).1 | exact (ix_bz (by assumption)).1) ⟨congrArg (fun z => some (Value.int z)) (by unfold bI; split <;> first | rfl | (exfalso; (((try simp only [bI_0, bI_1] at *); simp only [Int32.le_iff_toInt_le, Int32.lt_iff_toInt_lt, ← Int32.toInt_inj, tI] at *) <;> omega))), rfl⟩
    · skip
      refine ie_iconst (nI 1) d148_12 (by decide) ?_
      refine ie_goto 17 d148_13 (by decide) ?_
      exact ie_iret d148_17 rfl (by first | rfl | decide | exact (ix_bz (bI_01 _)).1 | exact (ix_bz (by assumption)).1) ⟨congrArg (fun z => some (Value.int z)) (by unfold bI; split <;> first | rfl | (exfalso; (((try simp only [bI_0, bI_1] at *); simp only [Int32.le_iff_toInt_le, Int32.lt_iff_toInt_lt, ← Int32.toInt_inj, tI] at *) <;> omega))), rfl⟩
set_option maxRecDepth 100000 in
set_option maxHeartbeats 4000000 in
/-- fileIndex -/
theorem s131 {G : ix_G} {h : ix_H} {o t : Nat} (M : md_ok h o) (ht : t < 640) : ix_Ev G 131 0 (lv_args 0 [.ref o, .int (nI t)]) [] h (some (.int (nI (6 * (t / 320)) + ms h o 9 t))) (h) := by
  refine ix_ofE ?_
  refine ie_bipush (nI 6) d131_0 (by decide) ?_
  refine ie_iload_n d131_2 rfl ?_
  refine ie_sipush (nI 320) d131_3 (by decide) ?_
  refine ie_idiv d131_6 (by decide) ?_
  rw [pk_div (by omega) (by decide) (by decide)]
  refine ie_imul d131_7 ?_
  rw [pk_mul]
  refine ie_aload_n d131_8 rfl ?_
  refine me_getr d131_9 fl17_26 M rfl ?_
  refine ie_iload_n d131_12 rfl ?_
  refine me_iald (k := 9) (n := t) d131_13 M rfl rfl rfl (by show t < 640; exact ht) ?_
  refine ie_iadd d131_14 ?_
  exact ie_iret d131_15 rfl (by first | rfl | decide | exact (ix_bz (bI_01 _)).1 | exact (ix_bz (by assumption)).1) ⟨rfl, rfl⟩
/-- fault = 0 behind every call of the face -/
def m0 (S : MS) : MS := mset S 3 0 0
set_option maxRecDepth 100000 in
set_option maxHeartbeats 4000000 in
/-- create -/
theorem s116 {G : ix_G} {h : ix_H} {o : Nat} (M : md_ok h o) (e f : Int32) : ix_E G 116 0 (lv_args 0 [.ref o, .int e, .int f]) [] h (fun r h' => (r = some (.int (bI (((0 ≤ e ∧ e ≤ 1) ∧ 0 ≤ f ∧ f ≤ 5) ∧ ms h o 4 (6 * e.toNatClampNeg + f.toNatClampNeg) = 0)))) ∧ mR o h h' (if ((0 ≤ e ∧ e ≤ 1) ∧ 0 ≤ f ∧ f ≤ 5) ∧ ms h o 4 (6 * e.toNatClampNeg + f.toNatClampNeg) = 0 then mset (mset (m0 (ms h o)) 4 (6 * e.toNatClampNeg + f.toNatClampNeg) 1) 5 (6 * e.toNatClampNeg + f.toNatClampNeg) 0 else m0 (ms h o))) := by
  refine ie_aload_n d116_0 rfl ?_
  refine ie_iconst (nI 0) d116_1 (by decide) ?_
  refine me_puti d116_2 fl17_144 rfl rfl M ?_
  refine ie_iload_n d116_5 rfl ?_
  refine ie_iload_n d116_6 rfl ?_
  refine ie_callSx [_, _] d116_7 ok117 rm116_117 cl17_151 rfl rfl (Nat.le_of_ble_eq_true rfl) (Nat.le_of_ble_eq_true rfl) (s117 _ _) ?_
  refine ie_if_eq 27 d116_10 (by decide) (fun c10 => ?_) (fun c10 => ?_)
  · skip
    rw [bI_0] at c10
    rw [bI_f (fun z => c10 z.1), if_neg (fun z => c10 z.1)]
    have K := (⟨rfl, (mR.rf rfl).setF (j := 0) rfl⟩ : (some (Value.int 0) = some (Value.int 0)) ∧ mR o h (ix_si h o 3 (nI 0)) (mset (ms h o) 3 0 (nI 0)))
    refine ie_iconst (nI 0) d116_27 (by decide) ?_
    exact ie_iret d116_28 rfl (by first | rfl | decide | exact (ix_bz (bI_01 _)).1 | exact (ix_bz (by assumption)).1) K
  · skip
    rw [bI_0, Classical.not_not] at c10
    obtain ⟨e', f', he, hf, rfl, rfl⟩ := isF2 c10
    rw [cl2 (by omega : e' < 768), cl2 (by omega : f' < 768)]
    refine ie_aload_n d116_13 rfl ?_
    refine me_getr d116_14 fl17_7 M rfl ?_
    refine ie_bipush (nI 6) d116_17 (by decide) ?_
    refine ie_iload_n d116_19 rfl ?_
    refine ie_imul d116_20 ?_
    rw [pk_mul]
    refine ie_iload_n d116_21 rfl ?_
    refine ie_iadd d116_22 ?_
    rw [nI_add]
    refine me_zald (k := 4) (n := ((6 * e') + f')) d116_23 M rfl rfl rfl (by show 6 * e' + f' < 12; omega) ?_
    refine ie_if_eq 29 d116_24 (by decide) (fun c24 => ?_) (fun c24 => ?_)
    · skip
      have c25 : ms h o 4 (6 * e' + f') = 0 := by rw [ms_setF (j := 0) rfl] at c24; exact c24
      rw [bI_t ⟨c10, c25⟩, if_pos ⟨c10, c25⟩]
      have K := (⟨rfl, (((mR.rf rfl).setF (j := 0) rfl).set (k := 4) (j := 6 * e' + f') rfl).set (k := 5) (j := 6 * e' + f') rfl⟩ : (some (Value.int 1) = some (Value.int 1)) ∧ mR o h (ix_si (ix_si (ix_si h o 3 (nI 0)) (mA o 4) (6 * e' + f') (nI 1)) (mA o 5) (6 * e' + f') (nI 0)) (mset (mset (mset (ms h o) 3 0 (nI 0)) 4 (6 * e' + f') (nI 1)) 5 (6 * e' + f') (nI 0)))
      refine ie_aload_n d116_29 rfl ?_
      refine me_getr d116_30 fl17_7 M rfl ?_
      refine ie_bipush (nI 6) d116_33 (by decide) ?_
      refine ie_iload_n d116_35 rfl ?_
      refine ie_imul d116_36 ?_
      rw [pk_mul]
      refine ie_iload_n d116_37 rfl ?_
      refine ie_iadd d116_38 ?_
      rw [nI_add]
      refine ie_iconst (nI 1) d116_39 (by decide) ?_
      refine me_zast (k := 4) (n := ((6 * e') + f')) d116_40 M rfl rfl (by first | exact Or.inl rfl | exact Or.inr rfl | assumption | exact bI_01 _) rfl (by show 6 * e' + f' < 12; omega) ?_
      refine ie_aload_n d116_41 rfl ?_
      refine me_getr d116_42 fl17_13 M rfl ?_
      refine ie_bipush (nI 6) d116_45 (by decide) ?_
      refine ie_iload_n d116_47 rfl ?_
      refine ie_imul d116_48 ?_
      rw [pk_mul]
      refine ie_iload_n d116_49 rfl ?_
      refine ie_iadd d116_50 ?_
      rw [nI_add]
      refine ie_iconst (nI 0) d116_51 (by decide) ?_
      refine me_iast (k := 5) (n := ((6 * e') + f')) d116_52 M rfl rfl rfl (by show 6 * e' + f' < 12; omega) ?_
      refine ie_iconst (nI 1) d116_53 (by decide) ?_
      exact ie_iret d116_54 rfl (by first | rfl | decide | exact (ix_bz (bI_01 _)).1 | exact (ix_bz (by assumption)).1) K
    · skip
      have c25 : ¬ ms h o 4 (6 * e' + f') = 0 := by rw [ms_setF (j := 0) rfl] at c24; exact c24
      rw [bI_f (fun z => c25 z.2), if_neg (fun z => c25 z.2)]
      have K := (⟨rfl, (mR.rf rfl).setF (j := 0) rfl⟩ : (some (Value.int 0) = some (Value.int 0)) ∧ mR o h (ix_si h o 3 (nI 0)) (mset (ms h o) 3 0 (nI 0)))
      refine ie_iconst (nI 0) d116_27 (by decide) ?_
      exact ie_iret d116_28 rfl (by first | rfl | decide | exact (ix_bz (bI_01 _)).1 | exact (ix_bz (by assumption)).1) K
