theorem cl4 {f : Nat} (hf : f < 1000) : (nI f).toNatClampNeg = f := by
  rw [Int32.toNatClampNeg, nI_toInt (by omega)]
  omega
set_option maxRecDepth 100000 in
set_option maxHeartbeats 4000000 in
/-- Store.length -/
theorem s16 {G : ix_G} {h : ix_H} {a L f : Nat} (ht : ix_tg h a = 6) (hr : ix_r h a 1 = some L) (hL : ix_tg h L = 100) (hln : ix_ln h L = 6) (hf : f < 6) : ix_Ev G 16 0 (lv_args 0 [.ref a, .int (nI f)]) [] h (some (.int (ix_i h L f))) h := by
  refine ix_ofE ?_
  refine ie_aload_n d16_0 rfl ?_
  refine ie_getr (k := 5) L d16_1 fl3_16 ht hr ?_
  refine ie_iload_n d16_4 rfl ?_
  refine ie_iald d16_5 (Or.inl hL) (by rw [hln]; exact vp_nI hf (by decide)) ?_
  rw [cl4 (by omega)]
  exact ie_iret d16_6 rfl rfl ⟨rfl, rfl⟩
set_option maxRecDepth 100000 in
set_option maxHeartbeats 4000000 in
/-- Store.has -/
theorem s12 {G : ix_G} {h : ix_H} {a L f : Nat} (ht : ix_tg h a = 6) (hr : ix_r h a 1 = some L) (hL : ix_tg h L = 100) (hln : ix_ln h L = 6) (hf : f < 6) : ix_Ev G 12 0 (lv_args 0 [.ref a, .int (nI f)]) [] h (some (.int (bI (¬ ix_i h L f = -1)))) h := by
  refine ix_ofE ?_
  refine ie_aload_n d12_0 rfl ?_
  refine ie_getr (k := 5) L d12_1 fl3_16 ht hr ?_
  refine ie_iload_n d12_4 rfl ?_
  refine ie_iald d12_5 (Or.inl hL) (by rw [hln]; exact vp_nI hf (by decide)) ?_
  rw [cl4 (by omega)]
  refine ie_iconst (-1) d12_6 (by decide) ?_
  refine ie_icmp_eq 14 d12_7 (by decide) (fun c => ?_) (fun c => ?_)
  · refine ie_iconst 0 d12_14 (by decide) ?_
    exact ie_iret d12_15 rfl (by decide) ⟨by rw [bI_f (fun z => z c)], rfl⟩
  · refine ie_iconst 1 d12_10 (by decide) ?_
    refine ie_goto 15 d12_11 (by decide) ?_
    exact ie_iret d12_15 rfl (by decide) ⟨by rw [bI_t c], rfl⟩
set_option maxRecDepth 100000 in
set_option maxHeartbeats 4000000 in
/-- Store.makeEmpty -/
theorem s13 {G : ix_G} {h : ix_H} {a L f : Nat} (ht : ix_tg h a = 6) (hr : ix_r h a 1 = some L) (hL : ix_tg h L = 100) (hln : ix_ln h L = 6) (hf : f < 6) : ix_Ev G 13 0 (lv_args 0 [.ref a, .int (nI f)]) [] h none (ix_si h L f 0) := by
  refine ix_ofE ?_
  refine ie_aload_n d13_0 rfl ?_
  refine ie_getr (k := 5) L d13_1 fl3_16 ht hr ?_
  refine ie_iload_n d13_4 rfl ?_
  refine ie_iconst 0 d13_5 (by decide) ?_
  refine ie_iast d13_6 hL (by rw [hln]; exact vp_nI hf (by decide)) ?_
  rw [cl4 (by omega)]
  exact ie_vret d13_7 rfl ⟨rfl, rfl⟩
