set_option maxRecDepth 100000 in
set_option maxHeartbeats 4000000 in
/-- isEntity -/
theorem s10 {G : ix_G} {h : ix_H} (e : Int32) : ix_Ev G 10 0 (lv_args 0 [.int e]) [] h (some (.int (bI (0 ≤ e ∧ e < 2)))) (h) := by
  refine ix_ofE ?_
  refine ie_iload_n d10_0 rfl ?_
  refine ie_if_lt 13 d10_1 (by decide) (fun c1 => ?_) (fun c1 => ?_)
  · skip
    refine ie_iconst (0) d10_13 (by decide) ?_
    exact ie_iret d10_14 rfl (by first | rfl | decide) ⟨congrArg (fun z => some (Value.int z)) (by unfold bI; split <;> first | rfl | (exfalso; (((try simp only [bI_0, bI_1] at *); simp only [Int32.le_iff_toInt_le, Int32.lt_iff_toInt_lt, ← Int32.toInt_inj, tI] at *) <;> omega))), rfl⟩
  · skip
    refine ie_iload_n d10_4 rfl ?_
    refine ie_iconst (2) d10_5 (by decide) ?_
    refine ie_icmp_ge 13 d10_6 (by decide) (fun c6 => ?_) (fun c6 => ?_)
    · skip
      refine ie_iconst (0) d10_13 (by decide) ?_
      exact ie_iret d10_14 rfl (by first | rfl | decide) ⟨congrArg (fun z => some (Value.int z)) (by unfold bI; split <;> first | rfl | (exfalso; (((try simp only [bI_0, bI_1] at *); simp only [Int32.le_iff_toInt_le, Int32.lt_iff_toInt_lt, ← Int32.toInt_inj, tI] at *) <;> omega))), rfl⟩
    · skip
      refine ie_iconst (1) d10_9 (by decide) ?_
      refine ie_goto 14 d10_10 (by decide) ?_
      exact ie_iret d10_14 rfl (by first | rfl | decide) ⟨congrArg (fun z => some (Value.int z)) (by unfold bI; split <;> first | rfl | (exfalso; (((try simp only [bI_0, bI_1] at *); simp only [Int32.le_iff_toInt_le, Int32.lt_iff_toInt_lt, ← Int32.toInt_inj, tI] at *) <;> omega))), rfl⟩
set_option maxRecDepth 100000 in
set_option maxHeartbeats 4000000 in
/-- isFileNumber -/
theorem s11 {G : ix_G} {h : ix_H} (f : Int32) : ix_Ev G 11 0 (lv_args 0 [.int f]) [] h (some (.int (bI (0 ≤ f ∧ f < 6)))) (h) := by
  refine ix_ofE ?_
  refine ie_iload_n d11_0 rfl ?_
  refine ie_if_lt 14 d11_1 (by decide) (fun c1 => ?_) (fun c1 => ?_)
  · skip
    refine ie_iconst (0) d11_14 (by decide) ?_
    exact ie_iret d11_15 rfl (by first | rfl | decide) ⟨congrArg (fun z => some (Value.int z)) (by unfold bI; split <;> first | rfl | (exfalso; (((try simp only [bI_0, bI_1] at *); simp only [Int32.le_iff_toInt_le, Int32.lt_iff_toInt_lt, ← Int32.toInt_inj, tI] at *) <;> omega))), rfl⟩
  · skip
    refine ie_iload_n d11_4 rfl ?_
    refine ie_bipush (6) d11_5 (by decide) ?_
    refine ie_icmp_ge 14 d11_7 (by decide) (fun c7 => ?_) (fun c7 => ?_)
    · skip
      refine ie_iconst (0) d11_14 (by decide) ?_
      exact ie_iret d11_15 rfl (by first | rfl | decide) ⟨congrArg (fun z => some (Value.int z)) (by unfold bI; split <;> first | rfl | (exfalso; (((try simp only [bI_0, bI_1] at *); simp only [Int32.le_iff_toInt_le, Int32.lt_iff_toInt_lt, ← Int32.toInt_inj, tI] at *) <;> omega))), rfl⟩
    · skip
      refine ie_iconst (1) d11_10 (by decide) ?_
      refine ie_goto 15 d11_11 (by decide) ?_
      exact ie_iret d11_15 rfl (by first | rfl | decide) ⟨congrArg (fun z => some (Value.int z)) (by unfold bI; split <;> first | rfl | (exfalso; (((try simp only [bI_0, bI_1] at *); simp only [Int32.le_iff_toInt_le, Int32.lt_iff_toInt_lt, ← Int32.toInt_inj, tI] at *) <;> omega))), rfl⟩
set_option maxRecDepth 100000 in
set_option maxHeartbeats 4000000 in
/-- isFile -/
theorem s9 {G : ix_G} {h : ix_H} (e f : Int32) : ix_Ev G 9 0 (lv_args 0 [.int e, .int f]) [] h (some (.int (bI ((0 ≤ e ∧ e < 2) ∧ 0 ≤ f ∧ f < 6)))) (h) := by
  refine ix_ofE ?_
  refine ie_iload_n d9_0 rfl ?_
  refine ie_callSx [_] d9_1 ok10 rm9_10 cl1_218 rfl rfl (Nat.le_of_ble_eq_true rfl) (Nat.le_of_ble_eq_true rfl) (s10 _) ?_
  refine ie_if_eq 18 d9_4 (by decide) (fun c4 => ?_) (fun c4 => ?_)
  · skip
    refine ie_iconst (0) d9_18 (by decide) ?_
    exact ie_iret d9_19 rfl (by first | rfl | decide) ⟨congrArg (fun z => some (Value.int z)) (by unfold bI; split <;> first | rfl | (exfalso; (((try simp only [bI_0, bI_1] at *); simp only [Int32.le_iff_toInt_le, Int32.lt_iff_toInt_lt, ← Int32.toInt_inj, tI] at *) <;> omega))), rfl⟩
  · skip
    refine ie_iload_n d9_7 rfl ?_
    refine ie_callSx [_] d9_8 ok11 rm9_11 cl1_93 rfl rfl (Nat.le_of_ble_eq_true rfl) (Nat.le_of_ble_eq_true rfl) (s11 _) ?_
    refine ie_if_eq 18 d9_11 (by decide) (fun c11 => ?_) (fun c11 => ?_)
    · skip
      refine ie_iconst (0) d9_18 (by decide) ?_
      exact ie_iret d9_19 rfl (by first | rfl | decide) ⟨congrArg (fun z => some (Value.int z)) (by unfold bI; split <;> first | rfl | (exfalso; (((try simp only [bI_0, bI_1] at *); simp only [Int32.le_iff_toInt_le, Int32.lt_iff_toInt_lt, ← Int32.toInt_inj, tI] at *) <;> omega))), rfl⟩
    · skip
      refine ie_iconst (1) d9_14 (by decide) ?_
      refine ie_goto 19 d9_15 (by decide) ?_
      exact ie_iret d9_19 rfl (by first | rfl | decide) ⟨congrArg (fun z => some (Value.int z)) (by unfold bI; split <;> first | rfl | (exfalso; (((try simp only [bI_0, bI_1] at *); simp only [Int32.le_iff_toInt_le, Int32.lt_iff_toInt_lt, ← Int32.toInt_inj, tI] at *) <;> omega))), rfl⟩
set_option maxRecDepth 100000 in
set_option maxHeartbeats 4000000 in
/-- segmentsOf -/
theorem s55 {G : ix_G} {h : ix_H} (n : Int32) : ix_Ev G 55 0 (lv_args 0 [.int n]) [] h (some (.int ((n + 4 - 1) / 4))) (h) := by
  refine ix_ofE ?_
  refine ie_iload_n d55_0 rfl ?_
  refine ie_iconst (4) d55_1 (by decide) ?_
  refine ie_iadd d55_2 ?_
  refine ie_iconst (1) d55_3 (by decide) ?_
  refine ie_isub d55_4 ?_
  refine ie_iconst (4) d55_5 (by decide) ?_
  refine ie_idiv d55_6 (by decide) ?_
  exact ie_iret d55_7 rfl (by first | rfl | decide) ⟨rfl, rfl⟩
set_option maxRecDepth 100000 in
set_option maxHeartbeats 4000000 in
/-- in -/
theorem s118 {G : ix_G} {h : ix_H} (v lo hi : Int32) : ix_Ev G 118 0 (lv_args 0 [.int v, .int lo, .int hi]) [] h (some (.int (bI (lo ≤ v ∧ v ≤ hi)))) (h) := by
  refine ix_ofE ?_
  refine ie_iload_n d118_0 rfl ?_
  refine ie_iload_n d118_1 rfl ?_
  refine ie_icmp_lt 14 d118_2 (by decide) (fun c2 => ?_) (fun c2 => ?_)
  · skip
    refine ie_iconst (0) d118_14 (by decide) ?_
    exact ie_iret d118_15 rfl (by first | rfl | decide) ⟨congrArg (fun z => some (Value.int z)) (by unfold bI; split <;> first | rfl | (exfalso; (((try simp only [bI_0, bI_1] at *); simp only [Int32.le_iff_toInt_le, Int32.lt_iff_toInt_lt, ← Int32.toInt_inj, tI] at *) <;> omega))), rfl⟩
  · skip
    refine ie_iload_n d118_5 rfl ?_
    refine ie_iload_n d118_6 rfl ?_
    refine ie_icmp_gt 14 d118_7 (by decide) (fun c7 => ?_) (fun c7 => ?_)
    · skip
      refine ie_iconst (0) d118_14 (by decide) ?_
      exact ie_iret d118_15 rfl (by first | rfl | decide) ⟨congrArg (fun z => some (Value.int z)) (by unfold bI; split <;> first | rfl | (exfalso; (((try simp only [bI_0, bI_1] at *); simp only [Int32.le_iff_toInt_le, Int32.lt_iff_toInt_lt, ← Int32.toInt_inj, tI] at *) <;> omega))), rfl⟩
    · skip
      refine ie_iconst (1) d118_10 (by decide) ?_
      refine ie_goto 15 d118_11 (by decide) ?_
      exact ie_iret d118_15 rfl (by first | rfl | decide) ⟨congrArg (fun z => some (Value.int z)) (by unfold bI; split <;> first | rfl | (exfalso; (((try simp only [bI_0, bI_1] at *); simp only [Int32.le_iff_toInt_le, Int32.lt_iff_toInt_lt, ← Int32.toInt_inj, tI] at *) <;> omega))), rfl⟩
set_option maxRecDepth 100000 in
set_option maxHeartbeats 4000000 in
/-- isFile of the reference -/
theorem s117 {G : ix_G} {h : ix_H} (e f : Int32) : ix_Ev G 117 0 (lv_args 0 [.int e, .int f]) [] h (some (.int (bI ((0 ≤ e ∧ e ≤ 1) ∧ 0 ≤ f ∧ f ≤ 5)))) (h) := by
  refine ix_ofE ?_
  refine ie_iload_n d117_0 rfl ?_
  refine ie_iconst (0) d117_1 (by decide) ?_
  refine ie_iconst (1) d117_2 (by decide) ?_
  refine ie_callSx [_, _, _] d117_3 ok118 rm117_118 cl17_147 rfl rfl (Nat.le_of_ble_eq_true rfl) (Nat.le_of_ble_eq_true rfl) (s118 _ _ _) ?_
  refine ie_if_eq 22 d117_6 (by decide) (fun c6 => ?_) (fun c6 => ?_)
  · skip
    refine ie_iconst (0) d117_22 (by decide) ?_
    exact ie_iret d117_23 rfl (by first | rfl | decide) ⟨congrArg (fun z => some (Value.int z)) (by unfold bI; split <;> first | rfl | (exfalso; (((try simp only [bI_0, bI_1] at *); simp only [Int32.le_iff_toInt_le, Int32.lt_iff_toInt_lt, ← Int32.toInt_inj, tI] at *) <;> omega))), rfl⟩
  · skip
    refine ie_iload_n d117_9 rfl ?_
    refine ie_iconst (0) d117_10 (by decide) ?_
    refine ie_iconst (5) d117_11 (by decide) ?_
    refine ie_callSx [_, _, _] d117_12 ok118 rm117_118 cl17_147 rfl rfl (Nat.le_of_ble_eq_true rfl) (Nat.le_of_ble_eq_true rfl) (s118 _ _ _) ?_
    refine ie_if_eq 22 d117_15 (by decide) (fun c15 => ?_) (fun c15 => ?_)
    · skip
      refine ie_iconst (0) d117_22 (by decide) ?_
      exact ie_iret d117_23 rfl (by first | rfl | decide) ⟨congrArg (fun z => some (Value.int z)) (by unfold bI; split <;> first | rfl | (exfalso; (((try simp only [bI_0, bI_1] at *); simp only [Int32.le_iff_toInt_le, Int32.lt_iff_toInt_lt, ← Int32.toInt_inj, tI] at *) <;> omega))), rfl⟩
    · skip
      refine ie_iconst (1) d117_18 (by decide) ?_
      refine ie_goto 23 d117_19 (by decide) ?_
      exact ie_iret d117_23 rfl (by first | rfl | decide) ⟨congrArg (fun z => some (Value.int z)) (by unfold bI; split <;> first | rfl | (exfalso; (((try simp only [bI_0, bI_1] at *); simp only [Int32.le_iff_toInt_le, Int32.lt_iff_toInt_lt, ← Int32.toInt_inj, tI] at *) <;> omega))), rfl⟩
set_option maxRecDepth 100000 in
set_option maxHeartbeats 4000000 in
/-- segments -/
theorem s132 {G : ix_G} {h : ix_H} (n : Int32) : ix_Ev G 132 0 (lv_args 0 [.int n]) [] h (some (.int ((n + 3) / 4))) (h) := by
  refine ix_ofE ?_
  refine ie_iload_n d132_0 rfl ?_
  refine ie_iconst (3) d132_1 (by decide) ?_
  refine ie_iadd d132_2 ?_
  refine ie_iconst (4) d132_3 (by decide) ?_
  refine ie_idiv d132_4 (by decide) ?_
  exact ie_iret d132_5 rfl (by first | rfl | decide) ⟨rfl, rfl⟩
set_option maxRecDepth 100000 in
set_option maxHeartbeats 4000000 in
/-- Math.max -/
theorem s74 {G : ix_G} {h : ix_H} (a b : Int32) : ix_Ev G 74 0 (lv_args 0 [.int a, .int b]) [] h (some (.int (if a < b then b else a))) (h) := by
  refine ix_ofE ?_
  refine ie_iload_n d74_0 rfl ?_
  refine ie_iload_n d74_1 rfl ?_
  refine ie_icmp_lt 9 d74_2 (by decide) (fun c2 => ?_) (fun c2 => ?_)
  · skip
    refine ie_iload_n d74_9 rfl ?_
    exact ie_iret d74_10 rfl (by first | rfl | decide) ⟨congrArg (fun z => some (Value.int z)) (by split <;> first | rfl | (exfalso; (((try simp only [bI_0, bI_1] at *); simp only [Int32.le_iff_toInt_le, Int32.lt_iff_toInt_lt, ← Int32.toInt_inj, tI] at *) <;> omega))), rfl⟩
  · skip
    refine ie_iload_n d74_5 rfl ?_
    refine ie_goto 10 d74_6 (by decide) ?_
    exact ie_iret d74_10 rfl (by first | rfl | decide) ⟨congrArg (fun z => some (Value.int z)) (by split <;> first | rfl | (exfalso; (((try simp only [bI_0, bI_1] at *); simp only [Int32.le_iff_toInt_le, Int32.lt_iff_toInt_lt, ← Int32.toInt_inj, tI] at *) <;> omega))), rfl⟩
set_option maxRecDepth 100000 in
set_option maxHeartbeats 4000000 in
/-- Math.min -/
theorem s78 {G : ix_G} {h : ix_H} (a b : Int32) : ix_Ev G 78 0 (lv_args 0 [.int a, .int b]) [] h (some (.int (if b < a then b else a))) (h) := by
  refine ix_ofE ?_
  refine ie_iload_n d78_0 rfl ?_
  refine ie_iload_n d78_1 rfl ?_
  refine ie_icmp_gt 9 d78_2 (by decide) (fun c2 => ?_) (fun c2 => ?_)
  · skip
    refine ie_iload_n d78_9 rfl ?_
    exact ie_iret d78_10 rfl (by first | rfl | decide) ⟨congrArg (fun z => some (Value.int z)) (by split <;> first | rfl | (exfalso; (((try simp only [bI_0, bI_1] at *); simp only [Int32.le_iff_toInt_le, Int32.lt_iff_toInt_lt, ← Int32.toInt_inj, tI] at *) <;> omega))), rfl⟩
  · skip
    refine ie_iload_n d78_5 rfl ?_
    refine ie_goto 10 d78_6 (by decide) ?_
    exact ie_iret d78_10 rfl (by first | rfl | decide) ⟨congrArg (fun z => some (Value.int z)) (by split <;> first | rfl | (exfalso; (((try simp only [bI_0, bI_1] at *); simp only [Int32.le_iff_toInt_le, Int32.lt_iff_toInt_lt, ← Int32.toInt_inj, tI] at *) <;> omega))), rfl⟩
