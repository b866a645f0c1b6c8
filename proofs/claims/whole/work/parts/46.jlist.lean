/-! ===== the lists of the class ===== -/
theorem vp_nI {i n : Nat} (h : i < n) (hn : n < 2 ^ 31) : vp_in (nI i) n := by
  rw [vp_in_iff, nI_toInt (by omega)]
  omega
set_option maxRecDepth 100000 in
set_option maxHeartbeats 4000000 in
/-- ArrayList.size -/
theorem s20 {G : ix_G} {h : ix_H} {a : Nat} (ht : ix_tg h a = 10) : ix_Ev G 20 0 (lv_args 0 [.ref a]) [] h (some (.int (ix_i h a 1))) h := by
  refine ix_ofE ?_
  refine ie_aload_n d20_0 rfl ?_
  refine ie_geti (k := 9) d20_1 fl4_48 ht ?_
  exact ie_iret d20_4 rfl rfl ⟨rfl, rfl⟩
set_option maxRecDepth 100000 in
set_option maxHeartbeats 4000000 in
/-- Preconditions.checkIndex, of an index that is in range -/
theorem s23 {G : ix_G} {h : ix_H} {i n : Int32} (h0 : 0 ≤ i) (hn : i < n) : ix_Ev G 23 0 (lv_args 0 [.int i, .int n, .null]) [] h (some (.int i)) h := by
  refine ix_ofE ?_
  refine ie_iload_n d23_0 rfl ?_
  refine ie_if_lt 9 d23_1 (by decide) (fun c => absurd h0 (Int32.not_le.mpr c)) (fun _ => ?_)
  refine ie_iload_n d23_4 rfl ?_
  refine ie_iload_n d23_5 rfl ?_
  refine ie_icmp_lt 16 d23_6 (by decide) (fun _ => ?_) (fun c => absurd hn c)
  refine ie_iload_n d23_16 rfl ?_
  exact ie_iret d23_17 rfl rfl ⟨rfl, rfl⟩
set_option maxRecDepth 100000 in
set_option maxHeartbeats 4000000 in
/-- Objects.checkIndex -/
theorem s22 {G : ix_G} {h : ix_H} {i n : Int32} (h0 : 0 ≤ i) (hn : i < n) : ix_Ev G 22 0 (lv_args 0 [.int i, .int n]) [] h (some (.int i)) h := by
  refine ix_ofE ?_
  refine ie_iload_n d22_0 rfl ?_
  refine ie_iload_n d22_1 rfl ?_
  refine ie_null d22_2 ?_
  refine ie_callSx [_, _, _] d22_3 ok23 rm22_23 cl8_105 rfl rfl (Nat.le_of_ble_eq_true rfl) (Nat.le_of_ble_eq_true rfl) (s23 h0 hn) ?_
  exact ie_iret d22_6 rfl rfl ⟨rfl, rfl⟩
set_option maxRecDepth 100000 in
set_option maxHeartbeats 4000000 in
/-- ArrayList.elementData -/
theorem s24 {G : ix_G} {h : ix_H} {a D i : Nat} {b : Nat} (ht : ix_tg h a = 10) (hr : ix_r h a 0 = some D) (hD : ix_tg h D = 107 ∨ ix_tg h D = 207) (hi : i < ix_ln h D) (hl : ix_ln h D < 2 ^ 31) (hb : ix_r h D i = some b) : ix_Ev G 24 0 (lv_args 0 [.ref a, .int (nI i)]) [] h (some (.ref b)) h := by
  refine ix_ofE ?_
  refine ie_aload_n d24_0 rfl ?_
  refine ie_getr (k := 9) D d24_1 fl4_9 ht hr ?_
  refine ie_iload_n d24_4 rfl ?_
  refine ie_aald (t := 7) d24_5 (by decide) rfl rfl hD (vp_nI hi hl) ?_
  rw [show (nI i).toNatClampNeg = i from by rw [Int32.toNatClampNeg, nI_toInt (by omega)]; omega, hb]
  exact ie_aret d24_6 rfl (Or.inl ⟨_, rfl⟩) (Or.inr ⟨_, rfl⟩) ⟨rfl, rfl⟩
set_option maxRecDepth 100000 in
set_option maxHeartbeats 4000000 in
/-- ArrayList.get -/
theorem s21 {G : ix_G} {h : ix_H} {a D i n : Nat} {b : Nat} (ht : ix_tg h a = 10) (hr : ix_r h a 0 = some D) (hs : ix_i h a 1 = nI n) (hin : i < n) (hnD : n ≤ ix_ln h D) (hD : ix_tg h D = 107 ∨ ix_tg h D = 207) (hl : ix_ln h D < 2 ^ 31) (hb : ix_r h D i = some b) : ix_Ev G 21 0 (lv_args 0 [.ref a, .int (nI i)]) [] h (some (.ref b)) h := by
  refine ix_ofE ?_
  refine ie_iload_n d21_0 rfl ?_
  refine ie_aload_n d21_1 rfl ?_
  refine ie_geti (k := 9) d21_2 fl4_48 ht ?_
  rw [hs]
  refine ie_callSx [_, _] d21_5 ok22 rm21_22 cl4_118 rfl rfl (Nat.le_of_ble_eq_true rfl) (Nat.le_of_ble_eq_true rfl) (s22 ((nI_leI (a := 0) (by decide) (by omega)).mpr (by omega)) ((nI_ltI (by omega) (by omega)).mpr hin)) ?_
  refine ie_pop d21_8 rfl ?_
  refine ie_aload_n d21_9 rfl ?_
  refine ie_iload_n d21_10 rfl ?_
  refine ie_callVx [_] d21_11 ok24 rm21_24 cl4_123 rfl rfl (Nat.le_of_ble_eq_true rfl) (Nat.le_of_ble_eq_true rfl) ht (s24 ht hr hD (by omega) hl hb) ?_
  exact ie_aret d21_14 rfl (Or.inl ⟨_, rfl⟩) (Or.inr ⟨_, rfl⟩) ⟨rfl, rfl⟩
