/-! ===== the law's helpers: append, delete, at, put under their handlers ===== -/
set_option maxRecDepth 100000 in
set_option maxHeartbeats 4000000 in
theorem s102y {G : ix_G} {h : ix_H} {x o : Nat} {a0 : Int32} {a1 : Int32} {a2 : Int32} {a3 : Int64} {v : Int32} {Q : ix_H → Prop} (tx : ix_tg h x = 1) (hM : ix_E G 103 0 (lv_args 0 [.ref x, .int a0, .int a1, .int a2, .long a3]) [] h (fun rv h1 => rv = some (.int v) ∧ Q h1)) (hq : ∀ h1, Q h1 → ix_tg h1 o = 103 ∧ ix_ln h1 o = 1) : iy_E G 102 0 (lv_args 0 [.ref x, .int a0, .int a1, .int a2, .long a3, .ref o]) [] h (fun r h' => r = .inl (some (.int 0)) ∧ ∃ h1, Q h1 ∧ h' = ix_sl h1 o 0 v.toInt64) := by
  refine iz_aload d102_0 rfl ?_
  refine iz_iconst (nI 0) d102_2 (by decide) ?_
  refine iz_aload_n d102_3 rfl ?_
  refine iz_iload_n d102_4 rfl ?_
  refine iz_iload_n d102_5 rfl ?_
  refine iz_iload_n d102_6 rfl ?_
  refine iz_lload d102_7 rfl ?_
  refine iz_callV (st := [.int (nI 0), .ref o]) [_, _, _, _] d102_9 ok103 rm102_103 cl0_7 rfl rfl (Nat.le_of_ble_eq_true rfl) (Nat.le_of_ble_eq_true rfl) tx hM ?_
  rintro rv h1 ⟨rfl, q1⟩
  refine iz_i2l d102_12 ?_
  refine iz_last d102_13 (hq h1 q1).1 (by rw [(hq h1 q1).2]; exact vp_nI (by decide) (by decide)) ?_
  refine iz_goto 29 d102_14 (by decide) ?_
  refine iz_iconst 0 d102_29 (by decide) ?_
  exact iz_iret d102_30 rfl rfl ⟨rfl, h1, q1, rfl⟩
theorem s102t0 {G : ix_G} {h h1 : ix_H} {x o : Nat} {a0 : Int32} {a1 : Int32} {a2 : Int32} {a3 : Int64} (tx : ix_tg h x = 1) (hM : iy_Ev G 103 0 (lv_args 0 [.ref x, .int a0, .int a1, .int a2, .long a3]) [] h (.inr 0) h1) : iy_Ev G 102 0 (lv_args 0 [.ref x, .int a0, .int a1, .int a2, .long a3, .ref o]) [] h (.inl (some (.int 1))) h1 := by
  refine iy_ofE ?_
  refine iz_aload d102_0 rfl ?_
  refine iz_iconst (nI 0) d102_2 (by decide) ?_
  refine iz_aload_n d102_3 rfl ?_
  refine iz_iload_n d102_4 rfl ?_
  refine iz_iload_n d102_5 rfl ?_
  refine iz_iload_n d102_6 rfl ?_
  refine iz_lload d102_7 rfl ?_
  refine iz_callVT (st := [.int (nI 0), .ref o]) (P1 := fun h2 => h2 = h1) [_, _, _, _] d102_9 ok103 rfl rm102_103 cl0_7 rfl rfl (Nat.le_of_ble_eq_true rfl) (Nat.le_of_ble_eq_true rfl) tx ⟨_, _, hM, rfl, rfl⟩ xc102_0 ?_
  rintro h2 rfl
  refine ⟨_, _, fun a => iy_ofE ?_, rfl, rfl⟩
  refine iz_astore d102_17 (by decide) ?_
  refine iz_iconst 1 d102_19 (by decide) ?_
  exact iz_iret d102_20 rfl rfl ⟨rfl, rfl⟩
theorem s102t1 {G : ix_G} {h h1 : ix_H} {x o : Nat} {a0 : Int32} {a1 : Int32} {a2 : Int32} {a3 : Int64} (tx : ix_tg h x = 1) (hM : iy_Ev G 103 0 (lv_args 0 [.ref x, .int a0, .int a1, .int a2, .long a3]) [] h (.inr 1) h1) : iy_Ev G 102 0 (lv_args 0 [.ref x, .int a0, .int a1, .int a2, .long a3, .ref o]) [] h (.inl (some (.int 2))) h1 := by
  refine iy_ofE ?_
  refine iz_aload d102_0 rfl ?_
  refine iz_iconst (nI 0) d102_2 (by decide) ?_
  refine iz_aload_n d102_3 rfl ?_
  refine iz_iload_n d102_4 rfl ?_
  refine iz_iload_n d102_5 rfl ?_
  refine iz_iload_n d102_6 rfl ?_
  refine iz_lload d102_7 rfl ?_
  refine iz_callVT (st := [.int (nI 0), .ref o]) (P1 := fun h2 => h2 = h1) [_, _, _, _] d102_9 ok103 rfl rm102_103 cl0_7 rfl rfl (Nat.le_of_ble_eq_true rfl) (Nat.le_of_ble_eq_true rfl) tx ⟨_, _, hM, rfl, rfl⟩ xc102_1 ?_
  rintro h2 rfl
  refine ⟨_, _, fun a => iy_ofE ?_, rfl, rfl⟩
  refine iz_astore d102_21 (by decide) ?_
  refine iz_iconst 2 d102_23 (by decide) ?_
  exact iz_iret d102_24 rfl rfl ⟨rfl, rfl⟩
theorem s102t2 {G : ix_G} {h h1 : ix_H} {x o : Nat} {a0 : Int32} {a1 : Int32} {a2 : Int32} {a3 : Int64} (tx : ix_tg h x = 1) (hM : iy_Ev G 103 0 (lv_args 0 [.ref x, .int a0, .int a1, .int a2, .long a3]) [] h (.inr 2) h1) : iy_Ev G 102 0 (lv_args 0 [.ref x, .int a0, .int a1, .int a2, .long a3, .ref o]) [] h (.inl (some (.int 3))) h1 := by
  refine iy_ofE ?_
  refine iz_aload d102_0 rfl ?_
  refine iz_iconst (nI 0) d102_2 (by decide) ?_
  refine iz_aload_n d102_3 rfl ?_
  refine iz_iload_n d102_4 rfl ?_
  refine iz_iload_n d102_5 rfl ?_
  refine iz_iload_n d102_6 rfl ?_
  refine iz_lload d102_7 rfl ?_
  refine iz_callVT (st := [.int (nI 0), .ref o]) (P1 := fun h2 => h2 = h1) [_, _, _, _] d102_9 ok103 rfl rm102_103 cl0_7 rfl rfl (Nat.le_of_ble_eq_true rfl) (Nat.le_of_ble_eq_true rfl) tx ⟨_, _, hM, rfl, rfl⟩ xc102_2 ?_
  rintro h2 rfl
  refine ⟨_, _, fun a => iy_ofE ?_, rfl, rfl⟩
  refine iz_astore d102_25 (by decide) ?_
  refine iz_iconst 3 d102_27 (by decide) ?_
  exact iz_iret d102_28 rfl rfl ⟨rfl, rfl⟩
theorem s105y {G : ix_G} {h : ix_H} {x o : Nat} {a0 : Int32} {a1 : Int32} {v : Int32} {Q : ix_H → Prop} (tx : ix_tg h x = 1) (hM : ix_E G 106 0 (lv_args 0 [.ref x, .int a0, .int a1]) [] h (fun rv h1 => rv = some (.int v) ∧ Q h1)) (hq : ∀ h1, Q h1 → ix_tg h1 o = 103 ∧ ix_ln h1 o = 1) : iy_E G 105 0 (lv_args 0 [.ref x, .int a0, .int a1, .ref o]) [] h (fun r h' => r = .inl (some (.int 0)) ∧ ∃ h1, Q h1 ∧ h' = ix_sl h1 o 0 (if v = 0 then 0 else 1)) := by
  refine iz_aload_n d105_0 rfl ?_
  refine iz_iconst (nI 0) d105_1 (by decide) ?_
  refine iz_aload_n d105_2 rfl ?_
  refine iz_iload_n d105_3 rfl ?_
  refine iz_iload_n d105_4 rfl ?_
  refine iz_callV (st := [.int (nI 0), .ref o]) [_, _] d105_5 ok106 rm105_106 cl0_19 rfl rfl (Nat.le_of_ble_eq_true rfl) (Nat.le_of_ble_eq_true rfl) tx hM ?_
  rintro rv h1 ⟨rfl, q1⟩
  refine iz_if_eq 15 d105_8 (by decide) (fun z => ?_) (fun z => ?_)
  · refine iz_lconst 0 d105_15 (by decide) ?_
    refine iz_last d105_16 (hq h1 q1).1 (by rw [(hq h1 q1).2]; exact vp_nI (by decide) (by decide)) ?_
    refine iz_goto 28 d105_17 (by decide) ?_
    refine iz_iconst 0 d105_28 (by decide) ?_
    exact iz_iret d105_29 rfl rfl ⟨rfl, h1, q1, by rw [if_pos z]; rfl⟩
  · refine iz_lconst 1 d105_11 (by decide) ?_
    refine iz_goto 16 d105_12 (by decide) ?_
    refine iz_last d105_16 (hq h1 q1).1 (by rw [(hq h1 q1).2]; exact vp_nI (by decide) (by decide)) ?_
    refine iz_goto 28 d105_17 (by decide) ?_
    refine iz_iconst 0 d105_28 (by decide) ?_
    exact iz_iret d105_29 rfl rfl ⟨rfl, h1, q1, by rw [if_neg z]; rfl⟩
theorem s105t1 {G : ix_G} {h h1 : ix_H} {x o : Nat} {a0 : Int32} {a1 : Int32} (tx : ix_tg h x = 1) (hM : iy_Ev G 106 0 (lv_args 0 [.ref x, .int a0, .int a1]) [] h (.inr 1) h1) : iy_Ev G 105 0 (lv_args 0 [.ref x, .int a0, .int a1, .ref o]) [] h (.inl (some (.int 1))) h1 := by
  refine iy_ofE ?_
  refine iz_aload_n d105_0 rfl ?_
  refine iz_iconst (nI 0) d105_1 (by decide) ?_
  refine iz_aload_n d105_2 rfl ?_
  refine iz_iload_n d105_3 rfl ?_
  refine iz_iload_n d105_4 rfl ?_
  refine iz_callVT (st := [.int (nI 0), .ref o]) (P1 := fun h2 => h2 = h1) [_, _] d105_5 ok106 rfl rm105_106 cl0_19 rfl rfl (Nat.le_of_ble_eq_true rfl) (Nat.le_of_ble_eq_true rfl) tx ⟨_, _, hM, rfl, rfl⟩ xc105_1 ?_
  rintro h2 rfl
  refine ⟨_, _, fun a => iy_ofE ?_, rfl, rfl⟩
  refine iz_astore d105_20 (by decide) ?_
  refine iz_iconst 1 d105_22 (by decide) ?_
  exact iz_iret d105_23 rfl rfl ⟨rfl, rfl⟩
theorem s105t2 {G : ix_G} {h h1 : ix_H} {x o : Nat} {a0 : Int32} {a1 : Int32} (tx : ix_tg h x = 1) (hM : iy_Ev G 106 0 (lv_args 0 [.ref x, .int a0, .int a1]) [] h (.inr 2) h1) : iy_Ev G 105 0 (lv_args 0 [.ref x, .int a0, .int a1, .ref o]) [] h (.inl (some (.int 2))) h1 := by
  refine iy_ofE ?_
  refine iz_aload_n d105_0 rfl ?_
  refine iz_iconst (nI 0) d105_1 (by decide) ?_
  refine iz_aload_n d105_2 rfl ?_
  refine iz_iload_n d105_3 rfl ?_
  refine iz_iload_n d105_4 rfl ?_
  refine iz_callVT (st := [.int (nI 0), .ref o]) (P1 := fun h2 => h2 = h1) [_, _] d105_5 ok106 rfl rm105_106 cl0_19 rfl rfl (Nat.le_of_ble_eq_true rfl) (Nat.le_of_ble_eq_true rfl) tx ⟨_, _, hM, rfl, rfl⟩ xc105_2 ?_
  rintro h2 rfl
  refine ⟨_, _, fun a => iy_ofE ?_, rfl, rfl⟩
  refine iz_astore d105_24 (by decide) ?_
  refine iz_iconst 2 d105_26 (by decide) ?_
  exact iz_iret d105_27 rfl rfl ⟨rfl, rfl⟩
theorem s107y {G : ix_G} {h : ix_H} {x o : Nat} {a0 : Int32} {a1 : Int32} {a2 : Int32} {v : Int32} {Q : ix_H → Prop} (tx : ix_tg h x = 1) (hM : ix_E G 108 0 (lv_args 0 [.ref x, .int a0, .int a1, .int a2]) [] h (fun rv h1 => rv = some (.int v) ∧ Q h1)) (hq : ∀ h1, Q h1 → ix_tg h1 o = 103 ∧ ix_ln h1 o = 1) : iy_E G 107 0 (lv_args 0 [.ref x, .int a0, .int a1, .int a2, .ref o]) [] h (fun r h' => r = .inl (some (.int 0)) ∧ ∃ h1, Q h1 ∧ h' = ix_sl h1 o 0 v.toInt64) := by
  refine iz_aload d107_0 rfl ?_
  refine iz_iconst (nI 0) d107_2 (by decide) ?_
  refine iz_aload_n d107_3 rfl ?_
  refine iz_iload_n d107_4 rfl ?_
  refine iz_iload_n d107_5 rfl ?_
  refine iz_iload_n d107_6 rfl ?_
  refine iz_callV (st := [.int (nI 0), .ref o]) [_, _, _] d107_7 ok108 rm107_108 cl0_23 rfl rfl (Nat.le_of_ble_eq_true rfl) (Nat.le_of_ble_eq_true rfl) tx hM ?_
  rintro rv h1 ⟨rfl, q1⟩
  refine iz_i2l d107_10 ?_
  refine iz_last d107_11 (hq h1 q1).1 (by rw [(hq h1 q1).2]; exact vp_nI (by decide) (by decide)) ?_
  refine iz_goto 23 d107_12 (by decide) ?_
  refine iz_iconst 0 d107_23 (by decide) ?_
  exact iz_iret d107_24 rfl rfl ⟨rfl, h1, q1, rfl⟩
theorem s107t1 {G : ix_G} {h h1 : ix_H} {x o : Nat} {a0 : Int32} {a1 : Int32} {a2 : Int32} (tx : ix_tg h x = 1) (hM : iy_Ev G 108 0 (lv_args 0 [.ref x, .int a0, .int a1, .int a2]) [] h (.inr 1) h1) : iy_Ev G 107 0 (lv_args 0 [.ref x, .int a0, .int a1, .int a2, .ref o]) [] h (.inl (some (.int 1))) h1 := by
  refine iy_ofE ?_
  refine iz_aload d107_0 rfl ?_
  refine iz_iconst (nI 0) d107_2 (by decide) ?_
  refine iz_aload_n d107_3 rfl ?_
  refine iz_iload_n d107_4 rfl ?_
  refine iz_iload_n d107_5 rfl ?_
  refine iz_iload_n d107_6 rfl ?_
  refine iz_callVT (st := [.int (nI 0), .ref o]) (P1 := fun h2 => h2 = h1) [_, _, _] d107_7 ok108 rfl rm107_108 cl0_23 rfl rfl (Nat.le_of_ble_eq_true rfl) (Nat.le_of_ble_eq_true rfl) tx ⟨_, _, hM, rfl, rfl⟩ xc107_1 ?_
  rintro h2 rfl
  refine ⟨_, _, fun a => iy_ofE ?_, rfl, rfl⟩
  refine iz_astore d107_15 (by decide) ?_
  refine iz_iconst 1 d107_17 (by decide) ?_
  exact iz_iret d107_18 rfl rfl ⟨rfl, rfl⟩
theorem s107t3 {G : ix_G} {h h1 : ix_H} {x o : Nat} {a0 : Int32} {a1 : Int32} {a2 : Int32} (tx : ix_tg h x = 1) (hM : iy_Ev G 108 0 (lv_args 0 [.ref x, .int a0, .int a1, .int a2]) [] h (.inr 3) h1) : iy_Ev G 107 0 (lv_args 0 [.ref x, .int a0, .int a1, .int a2, .ref o]) [] h (.inl (some (.int 2))) h1 := by
  refine iy_ofE ?_
  refine iz_aload d107_0 rfl ?_
  refine iz_iconst (nI 0) d107_2 (by decide) ?_
  refine iz_aload_n d107_3 rfl ?_
  refine iz_iload_n d107_4 rfl ?_
  refine iz_iload_n d107_5 rfl ?_
  refine iz_iload_n d107_6 rfl ?_
  refine iz_callVT (st := [.int (nI 0), .ref o]) (P1 := fun h2 => h2 = h1) [_, _, _] d107_7 ok108 rfl rm107_108 cl0_23 rfl rfl (Nat.le_of_ble_eq_true rfl) (Nat.le_of_ble_eq_true rfl) tx ⟨_, _, hM, rfl, rfl⟩ xc107_3 ?_
  rintro h2 rfl
  refine ⟨_, _, fun a => iy_ofE ?_, rfl, rfl⟩
  refine iz_astore d107_19 (by decide) ?_
  refine iz_iconst 2 d107_21 (by decide) ?_
  exact iz_iret d107_22 rfl rfl ⟨rfl, rfl⟩
theorem s109y {G : ix_G} {h : ix_H} {x o : Nat} {a0 : Int32} {a1 : Int32} {a2 : Int32} {a3 : Int32} {a4 : Int32} {a5 : Int32} {v : Int32} {Q : ix_H → Prop} (tx : ix_tg h x = 1) (hM : ix_E G 110 0 (lv_args 0 [.ref x, .int a0, .int a1, .int a2, .int a3, .int a4, .int a5]) [] h (fun rv h1 => rv = some (.int v) ∧ Q h1)) (hq : ∀ h1, Q h1 → ix_tg h1 o = 103 ∧ ix_ln h1 o = 1) : iy_E G 109 0 (lv_args 0 [.ref x, .int a0, .int a1, .int a2, .int a3, .int a4, .int a5, .ref o]) [] h (fun r h' => r = .inl (some (.int 0)) ∧ ∃ h1, Q h1 ∧ h' = ix_sl h1 o 0 v.toInt64) := by
  refine iz_aload d109_0 rfl ?_
  refine iz_iconst (nI 0) d109_2 (by decide) ?_
  refine iz_aload_n d109_3 rfl ?_
  refine iz_iload_n d109_4 rfl ?_
  refine iz_iload_n d109_5 rfl ?_
  refine iz_iload_n d109_6 rfl ?_
  refine iz_iload d109_7 rfl ?_
  refine iz_iload d109_9 rfl ?_
  refine iz_iload d109_11 rfl ?_
  refine iz_callV (st := [.int (nI 0), .ref o]) [_, _, _, _, _, _] d109_13 ok110 rm109_110 cl0_29 rfl rfl (Nat.le_of_ble_eq_true rfl) (Nat.le_of_ble_eq_true rfl) tx hM ?_
  rintro rv h1 ⟨rfl, q1⟩
  refine iz_i2l d109_16 ?_
  refine iz_last d109_17 (hq h1 q1).1 (by rw [(hq h1 q1).2]; exact vp_nI (by decide) (by decide)) ?_
  refine iz_goto 33 d109_18 (by decide) ?_
  refine iz_iconst 0 d109_33 (by decide) ?_
  exact iz_iret d109_34 rfl rfl ⟨rfl, h1, q1, rfl⟩
theorem s109t0 {G : ix_G} {h h1 : ix_H} {x o : Nat} {a0 : Int32} {a1 : Int32} {a2 : Int32} {a3 : Int32} {a4 : Int32} {a5 : Int32} (tx : ix_tg h x = 1) (hM : iy_Ev G 110 0 (lv_args 0 [.ref x, .int a0, .int a1, .int a2, .int a3, .int a4, .int a5]) [] h (.inr 0) h1) : iy_Ev G 109 0 (lv_args 0 [.ref x, .int a0, .int a1, .int a2, .int a3, .int a4, .int a5, .ref o]) [] h (.inl (some (.int 1))) h1 := by
  refine iy_ofE ?_
  refine iz_aload d109_0 rfl ?_
  refine iz_iconst (nI 0) d109_2 (by decide) ?_
  refine iz_aload_n d109_3 rfl ?_
  refine iz_iload_n d109_4 rfl ?_
  refine iz_iload_n d109_5 rfl ?_
  refine iz_iload_n d109_6 rfl ?_
  refine iz_iload d109_7 rfl ?_
  refine iz_iload d109_9 rfl ?_
  refine iz_iload d109_11 rfl ?_
  refine iz_callVT (st := [.int (nI 0), .ref o]) (P1 := fun h2 => h2 = h1) [_, _, _, _, _, _] d109_13 ok110 rfl rm109_110 cl0_29 rfl rfl (Nat.le_of_ble_eq_true rfl) (Nat.le_of_ble_eq_true rfl) tx ⟨_, _, hM, rfl, rfl⟩ xc109_0 ?_
  rintro h2 rfl
  refine ⟨_, _, fun a => iy_ofE ?_, rfl, rfl⟩
  refine iz_astore d109_21 (by decide) ?_
  refine iz_iconst 1 d109_23 (by decide) ?_
  exact iz_iret d109_24 rfl rfl ⟨rfl, rfl⟩
theorem s109t1 {G : ix_G} {h h1 : ix_H} {x o : Nat} {a0 : Int32} {a1 : Int32} {a2 : Int32} {a3 : Int32} {a4 : Int32} {a5 : Int32} (tx : ix_tg h x = 1) (hM : iy_Ev G 110 0 (lv_args 0 [.ref x, .int a0, .int a1, .int a2, .int a3, .int a4, .int a5]) [] h (.inr 1) h1) : iy_Ev G 109 0 (lv_args 0 [.ref x, .int a0, .int a1, .int a2, .int a3, .int a4, .int a5, .ref o]) [] h (.inl (some (.int 2))) h1 := by
  refine iy_ofE ?_
  refine iz_aload d109_0 rfl ?_
  refine iz_iconst (nI 0) d109_2 (by decide) ?_
  refine iz_aload_n d109_3 rfl ?_
  refine iz_iload_n d109_4 rfl ?_
  refine iz_iload_n d109_5 rfl ?_
  refine iz_iload_n d109_6 rfl ?_
  refine iz_iload d109_7 rfl ?_
  refine iz_iload d109_9 rfl ?_
  refine iz_iload d109_11 rfl ?_
  refine iz_callVT (st := [.int (nI 0), .ref o]) (P1 := fun h2 => h2 = h1) [_, _, _, _, _, _] d109_13 ok110 rfl rm109_110 cl0_29 rfl rfl (Nat.le_of_ble_eq_true rfl) (Nat.le_of_ble_eq_true rfl) tx ⟨_, _, hM, rfl, rfl⟩ xc109_1 ?_
  rintro h2 rfl
  refine ⟨_, _, fun a => iy_ofE ?_, rfl, rfl⟩
  refine iz_astore d109_25 (by decide) ?_
  refine iz_iconst 2 d109_27 (by decide) ?_
  exact iz_iret d109_28 rfl rfl ⟨rfl, rfl⟩
theorem s109t2 {G : ix_G} {h h1 : ix_H} {x o : Nat} {a0 : Int32} {a1 : Int32} {a2 : Int32} {a3 : Int32} {a4 : Int32} {a5 : Int32} (tx : ix_tg h x = 1) (hM : iy_Ev G 110 0 (lv_args 0 [.ref x, .int a0, .int a1, .int a2, .int a3, .int a4, .int a5]) [] h (.inr 2) h1) : iy_Ev G 109 0 (lv_args 0 [.ref x, .int a0, .int a1, .int a2, .int a3, .int a4, .int a5, .ref o]) [] h (.inl (some (.int 3))) h1 := by
  refine iy_ofE ?_
  refine iz_aload d109_0 rfl ?_
  refine iz_iconst (nI 0) d109_2 (by decide) ?_
  refine iz_aload_n d109_3 rfl ?_
  refine iz_iload_n d109_4 rfl ?_
  refine iz_iload_n d109_5 rfl ?_
  refine iz_iload_n d109_6 rfl ?_
  refine iz_iload d109_7 rfl ?_
  refine iz_iload d109_9 rfl ?_
  refine iz_iload d109_11 rfl ?_
  refine iz_callVT (st := [.int (nI 0), .ref o]) (P1 := fun h2 => h2 = h1) [_, _, _, _, _, _] d109_13 ok110 rfl rm109_110 cl0_29 rfl rfl (Nat.le_of_ble_eq_true rfl) (Nat.le_of_ble_eq_true rfl) tx ⟨_, _, hM, rfl, rfl⟩ xc109_2 ?_
  rintro h2 rfl
  refine ⟨_, _, fun a => iy_ofE ?_, rfl, rfl⟩
  refine iz_astore d109_29 (by decide) ?_
  refine iz_iconst 3 d109_31 (by decide) ?_
  exact iz_iret d109_32 rfl rfl ⟨rfl, rfl⟩
