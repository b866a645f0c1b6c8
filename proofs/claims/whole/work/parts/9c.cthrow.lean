/-! ===== append, delete, at, put: where they throw ===== -/
theorem iy_ofE {G : ix_G} {m pc : Nat} {lv : List (Nat × Value)} {st : List Value} {h h' : ix_H} {r : iy_O} (hE : iy_E G m pc lv st h (fun r1 h1 => r1 = r ∧ h1 = h')) : iy_Ev G m pc lv st h r h' := by
  obtain ⟨r1, h1, q, e1, e2⟩ := hE
  subst e1
  subst e2
  exact q
section IZ2
variable {G : ix_G} {m pc : Nat} {lv : List (Nat × Value)} {stk st : List Value} {h h1 : ix_H} {rv : ix_O} {P : iy_O → ix_H → Prop}
theorem iz_callVx {i k kc n b : Nat} (as : List Value) (hd : decode (ix_by m) pc = .ok (.invokevirtual i, 3)) (hk : ix_ok k n) (hroom : ix_room m k) (hL : ix_VL (ix_own m) i k kc) (hstk : stk = as.reverse ++ .ref b :: st) (hn : as.length = n) (hcat : (st.map fun v => v.category).sum ≤ 8) (hsl : (lg_sl (.ref b :: as)).length ≤ ix_mL k) (hb : ix_tg h b = kc + 1) (hM : ix_Ev G k 0 (lv_args 0 (.ref b :: as)) [] h rv h1) (kk : iy_E G m (pc + 3) lv (rv.toList ++ st) h1 P) : iy_E G m pc lv stk h P := by
  obtain ⟨r, h', q, hp⟩ := kk
  exact ⟨r, h', iy_callV as hd hk hroom hL hstk hn hcat hsl hb hM q, hp⟩
theorem iz_callSx {i k n : Nat} (as : List Value) (hd : decode (ix_by m) pc = .ok (.invokestatic i, 3)) (hk : ix_ok k n) (hroom : ix_room m k) (hL : ix_SL (ix_own m) i k) (hstk : stk = as.reverse ++ st) (hn : as.length = n) (hcat : (st.map fun v => v.category).sum ≤ 8) (hsl : (lg_sl as).length ≤ ix_mL k) (hM : ix_Ev G k 0 (lv_args 0 as) [] h rv h1) (kk : iy_E G m (pc + 3) lv (rv.toList ++ st) h1 P) : iy_E G m pc lv stk h P := by
  obtain ⟨r, h', q, hp⟩ := kk
  exact ⟨r, h', iy_callS as hd hk hroom hL hstk hn hcat hsl hM q, hp⟩
theorem iz_callIx {i k n b : Nat} (as : List Value) (hd : decode (ix_by m) pc = .ok (.invokespecial i, 3)) (hk : ix_ok k n) (hroom : ix_room m k) (hL : ix_IL (ix_own m) i k) (hstk : stk = as.reverse ++ .ref b :: st) (hn : as.length = n) (hcat : (st.map fun v => v.category).sum ≤ 8) (hsl : (lg_sl (.ref b :: as)).length ≤ ix_mL k) (hM : ix_Ev G k 0 (lv_args 0 (.ref b :: as)) [] h none h1) (kk : iy_E G m (pc + 3) lv st h1 P) : iy_E G m pc lv stk h P := by
  obtain ⟨r, h', q, hp⟩ := kk
  exact ⟨r, h', iy_callI as hd hk hroom hL hstk hn hcat hsl hM q, hp⟩
end IZ2
set_option maxRecDepth 100000 in
set_option maxHeartbeats 4000000 in
theorem s103a {G : ix_G} {h : ix_H} {x : Nat} {e f n : Int32} {w : Int64} (hno : ¬ (((0 ≤ e ∧ e ≤ 1) ∧ 0 ≤ f ∧ f ≤ 5) ∧ 1 ≤ n ∧ n ≤ 8)) : iy_Ev G 103 0 (lv_args 0 [.ref x, .int e, .int f, .int n, .long w]) [] h (.inr 0) (ix_nw h 0 0 6) := by
  refine iy_ofE ?_
  refine iz_iload_n d103_0 rfl ?_
  refine iz_iload_n d103_1 rfl ?_
  refine iz_callSx [_, _] d103_2 ok9 rm103_9 cl1_30 rfl rfl (Nat.le_of_ble_eq_true rfl) (Nat.le_of_ble_eq_true rfl) (s9 _ _) ?_
  refine iz_if_eq 19 d103_5 (by decide) (fun z => ?_) (fun z => ?_)
  · exact iz_thr d103_19 d103_22 d103_23 d103_25 d103_28 iy_tl0 (List.mem_of_getElem? (i := 0) rfl) rfl rfl (Nat.le_of_ble_eq_true rfl) (Nat.le_of_ble_eq_true rfl) ⟨rfl, rfl⟩
  have z2 := isF_lt.mp (Decidable.not_not.mp (fun q => z (bI_0.mpr q)))
  refine iz_iload_n d103_8 rfl ?_
  refine iz_iconst 1 d103_9 (by decide) ?_
  refine iz_icmp_lt 19 d103_10 (by decide) (fun y => ?_) (fun y => ?_)
  · exact iz_thr d103_19 d103_22 d103_23 d103_25 d103_28 iy_tl0 (List.mem_of_getElem? (i := 0) rfl) rfl rfl (Nat.le_of_ble_eq_true rfl) (Nat.le_of_ble_eq_true rfl) ⟨rfl, rfl⟩
  refine iz_iload_n d103_13 rfl ?_
  refine iz_bipush 8 d103_14 (by decide) ?_
  refine iz_icmp_le 29 d103_16 (by decide) (fun v => absurd ⟨z2, Int32.not_lt.mp y, v⟩ hno) (fun _ => ?_)
  exact iz_thr d103_19 d103_22 d103_23 d103_25 d103_28 iy_tl0 (List.mem_of_getElem? (i := 0) rfl) rfl rfl (Nat.le_of_ble_eq_true rfl) (Nat.le_of_ble_eq_true rfl) ⟨rfl, rfl⟩
theorem s103b {G : ix_G} {h : ix_H} {x : Nat} {S : MS} {e f : Nat} (I : mInv S) (B : cB h x S) (he : e < 2) (hf : f < 6) {n : Nat} {w : Int64} (hn1 : 1 ≤ n) (hn8 : n ≤ 8) (hth : S 4 (6 * e + f) = 0) : iy_Ev G 103 0 (lv_args 0 [.ref x, .int (nI e), .int (nI f), .int (nI n), .long w]) [] h (.inr 1) (ix_nw h 0 0 6) := by
  obtain ⟨hx3, T, A, R, U, D, Lo, Lr, C, L⟩ := id B
  have F := C.fx.2.2.2.2.2.2.2.2.2 e he
  have hi := isF_y he hf
  have hh := (C.fl he hf).has (I.2.1 _ (by omega)).2
  refine iy_ofE ?_
  refine iz_iload_n d103_0 rfl ?_
  refine iz_iload_n d103_1 rfl ?_
  refine iz_callSx [_, _] d103_2 ok9 rm103_9 cl1_30 rfl rfl (Nat.le_of_ble_eq_true rfl) (Nat.le_of_ble_eq_true rfl) (s9 _ _) ?_
  refine iz_if_eq 19 d103_5 (by decide) (fun z => absurd (isF_lt.mpr hi) (bI_0.mp z)) (fun _ => ?_)
  refine iz_iload_n d103_8 rfl ?_
  refine iz_iconst (nI 1) d103_9 (by decide) ?_
  refine iz_icmp_lt 19 d103_10 (by decide) (fun z => absurd z (by rw [nI_ltI (by omega) (by omega)]; omega)) (fun _ => ?_)
  refine iz_iload_n d103_13 rfl ?_
  refine iz_bipush (nI 8) d103_14 (by decide) ?_
  refine iz_icmp_le 29 d103_16 (by decide) (fun _ => ?_) (fun z => absurd ((nI_leI (by omega) (by omega)).mpr hn8) z)
  refine iz_aload_n d103_29 rfl ?_
  refine iz_getr _ d103_30 fl1_16 C.fx.1 C.fx.2.1 ?_
  refine iz_iload_n d103_33 rfl ?_
  refine iz_aald (t := 5) d103_34 (by decide) rfl rfl (Or.inl C.fx.2.2.2.1) (by rw [C.fx.2.2.2.2.1]; exact vp_nI he (by decide)) ?_
  rw [nI_clamp (by omega), F.1]
  refine iz_astore d103_35 (by decide) ?_
  refine iz_aload d103_37 rfl ?_
  refine iz_getr _ d103_39 fl1_34 F.2.1 F.2.2.1 ?_
  refine iz_iload_n d103_42 rfl ?_
  refine iz_callVx [_] d103_43 ok12 rm103_12 cl1_38 rfl rfl (Nat.le_of_ble_eq_true rfl) (Nat.le_of_ble_eq_true rfl) F.2.2.2.2.1 (s12 F.2.2.2.2.1 F.2.2.2.2.2.2.1 F.2.2.2.2.2.2.2.2.2.1 F.2.2.2.2.2.2.2.2.2.2.1 hf) ?_
  refine iz_if_ne 59 d103_46 (by decide) (fun z => absurd (hh.mpr hth) (fun q => z (by rw [q]; decide))) (fun _ => ?_)
  exact iz_thr d103_49 d103_52 d103_53 d103_55 d103_58 iy_tl1 (List.mem_of_getElem? (i := 1) rfl) rfl rfl (Nat.le_of_ble_eq_true rfl) (Nat.le_of_ble_eq_true rfl) ⟨rfl, rfl⟩
theorem s103c {G : ix_G} {h : ix_H} {x : Nat} {S : MS} {e f : Nat} (I : mInv S) (B : cB h x S) (he : e < 2) (hf : f < 6) {n m : Nat} {w : Int64} (hn1 : 1 ≤ n) (hn8 : n ≤ 8) (hth : ¬ S 4 (6 * e + f) = 0) (hm : S 5 (6 * e + f) = nI m) (hm64 : m ≤ 64) (hL : mLock S e (nI f) (cP 42 S e) ∨ 64 < m + n) : iy_Ev G 103 0 (lv_args 0 [.ref x, .int (nI e), .int (nI f), .int (nI n), .long w]) [] h (.inr 2) (ix_nw h 0 0 6) := by
  obtain ⟨hx3, T, A, R, U, D, Lo, Lr, C, L⟩ := id B
  have F := C.fx.2.2.2.2.2.2.2.2.2 e he
  have hi := isF_y he hf
  have hh := (C.fl he hf).has (I.2.1 _ (by omega)).2
  refine iy_ofE ?_
  refine iz_iload_n d103_0 rfl ?_
  refine iz_iload_n d103_1 rfl ?_
  refine iz_callSx [_, _] d103_2 ok9 rm103_9 cl1_30 rfl rfl (Nat.le_of_ble_eq_true rfl) (Nat.le_of_ble_eq_true rfl) (s9 _ _) ?_
  refine iz_if_eq 19 d103_5 (by decide) (fun z => absurd (isF_lt.mpr hi) (bI_0.mp z)) (fun _ => ?_)
  refine iz_iload_n d103_8 rfl ?_
  refine iz_iconst (nI 1) d103_9 (by decide) ?_
  refine iz_icmp_lt 19 d103_10 (by decide) (fun z => absurd z (by rw [nI_ltI (by omega) (by omega)]; omega)) (fun _ => ?_)
  refine iz_iload_n d103_13 rfl ?_
  refine iz_bipush (nI 8) d103_14 (by decide) ?_
  refine iz_icmp_le 29 d103_16 (by decide) (fun _ => ?_) (fun z => absurd ((nI_leI (by omega) (by omega)).mpr hn8) z)
  refine iz_aload_n d103_29 rfl ?_
  refine iz_getr _ d103_30 fl1_16 C.fx.1 C.fx.2.1 ?_
  refine iz_iload_n d103_33 rfl ?_
  refine iz_aald (t := 5) d103_34 (by decide) rfl rfl (Or.inl C.fx.2.2.2.1) (by rw [C.fx.2.2.2.2.1]; exact vp_nI he (by decide)) ?_
  rw [nI_clamp (by omega), F.1]
  refine iz_astore d103_35 (by decide) ?_
  refine iz_aload d103_37 rfl ?_
  refine iz_getr _ d103_39 fl1_34 F.2.1 F.2.2.1 ?_
  refine iz_iload_n d103_42 rfl ?_
  refine iz_callVx [_] d103_43 ok12 rm103_12 cl1_38 rfl rfl (Nat.le_of_ble_eq_true rfl) (Nat.le_of_ble_eq_true rfl) F.2.2.2.2.1 (s12 F.2.2.2.2.1 F.2.2.2.2.2.2.1 F.2.2.2.2.2.2.2.2.2.1 F.2.2.2.2.2.2.2.2.2.2.1 hf) ?_
  have AL := cAl1.all L
  have esz : ix_i h (cSz x e) f = nI m := by rw [(C.fl he hf).1, if_neg hth, hm]
  refine iz_if_ne 59 d103_46 (by decide) (fun _ => ?_) (fun z => absurd (show ¬ ix_i h (cSz x e) f = -1 from fun q => hth (hh.mp q)) (bI_0.mp z))
  refine iz_aload d103_59 rfl ?_
  refine iz_iload_n d103_61 rfl ?_
  refine iz_callVx [_] d103_62 ok84 rm103_84 cl1_60 rfl rfl (Nat.le_of_ble_eq_true rfl) (Nat.le_of_ble_eq_true rfl) F.2.1 (s84 C he) ?_
  rw [bP_c (lock_Lo C.rw AL he)]
  refine iz_if_ne 84 d103_65 (by decide) (fun _ => ?_) (fun z => ?_)
  · exact iz_thr d103_84 d103_87 d103_88 d103_90 d103_93 iy_tl2 (List.mem_of_getElem? (i := 2) rfl) rfl rfl (Nat.le_of_ble_eq_true rfl) (Nat.le_of_ble_eq_true rfl) ⟨rfl, rfl⟩
  have nL : ¬ mLock S e (nI f) (cP 42 S e) := fun q => by rw [bP_t q] at z; exact absurd z (by decide)
  refine iz_aload d103_68 rfl ?_
  refine iz_getr _ d103_70 fl1_34 F.2.1 F.2.2.1 ?_
  refine iz_iload_n d103_73 rfl ?_
  refine iz_callVx [_] d103_74 ok16 rm103_16 cl1_63 rfl rfl (Nat.le_of_ble_eq_true rfl) (Nat.le_of_ble_eq_true rfl) F.2.2.2.2.1 (s16 F.2.2.2.2.1 F.2.2.2.2.2.2.1 F.2.2.2.2.2.2.2.2.2.1 F.2.2.2.2.2.2.2.2.2.2.1 hf) ?_
  rw [esz]
  refine iz_iload_n d103_77 rfl ?_
  refine iz_iadd d103_78 ?_
  rw [nI_add]
  refine iz_bipush (nI 64) d103_79 (by decide) ?_
  refine iz_icmp_le 94 d103_81 (by decide) (fun z => absurd ((nI_leI (by omega) (by omega)).mp z) (by have := hL.resolve_left nL; omega)) (fun _ => ?_)
  exact iz_thr d103_84 d103_87 d103_88 d103_90 d103_93 iy_tl2 (List.mem_of_getElem? (i := 2) rfl) rfl rfl (Nat.le_of_ble_eq_true rfl) (Nat.le_of_ble_eq_true rfl) ⟨rfl, rfl⟩
theorem i32_nat {a b : Int32} (h0 : 0 ≤ a) (hb : a ≤ b) (hb0 : 0 ≤ b) : ∃ n : Nat, a = nI n ∧ n ≤ b.toNatClampNeg := by
  have h1 := Int32.le_iff_toInt_le.mp h0
  have h2 := Int32.le_iff_toInt_le.mp hb
  have h3 := Int32.le_iff_toInt_le.mp hb0
  have z : (0 : Int32).toInt = 0 := by decide
  rw [z] at h1 h3
  obtain ⟨j, hj, rfl⟩ := nI_of (Int32.not_lt.mpr h0)
  refine ⟨j, rfl, ?_⟩
  have hc : (nI j).toInt.toNat = j := nI_clamp hj
  show j ≤ b.toInt.toNat
  omega
theorem s106n {G : ix_G} {h : ix_H} {x : Nat} {S : MS} {e f : Int32} (I : mInv S) (B : cB h x S) (hno : ¬ (((0 ≤ e ∧ e ≤ 1) ∧ 0 ≤ f ∧ f ≤ 5) ∧ ¬ S 4 (6 * e.toNatClampNeg + f.toNatClampNeg) = 0)) : iy_Ev G 106 0 (lv_args 0 [.ref x, .int e, .int f]) [] h (.inr 1) (ix_nw h 0 0 6) := by
  obtain ⟨hx3, T, A, R, U, D, Lo, Lr, C, L⟩ := id B
  refine iy_ofE ?_
  refine iz_aload_n d106_0 rfl ?_
  refine iz_iload_n d106_1 rfl ?_
  refine iz_iload_n d106_2 rfl ?_
  by_cases hi : (0 ≤ e ∧ e ≤ 1) ∧ 0 ≤ f ∧ f ≤ 5
  · obtain ⟨⟨a1, a2⟩, b1, b2⟩ := id hi
    obtain ⟨e', e1, e2⟩ := i32_nat a1 a2 (by decide)
    obtain ⟨f', f1, f2⟩ := i32_nat b1 b2 (by decide)
    subst e1
    subst f1
    have he : e' < 2 := by rw [show (1 : Int32).toNatClampNeg = 1 from by decide] at e2; omega
    have hf : f' < 6 := by rw [show (5 : Int32).toNatClampNeg = 5 from by decide] at f2; omega
    have hth : S 4 (6 * e' + f') = 0 := by
      have := fun q => hno ⟨hi, q⟩
      rw [nI_clamp (by omega), nI_clamp (by omega)] at this
      exact Decidable.not_not.mp this
    refine iz_callVx [_, _] d106_3 ok15 rm106_15 cl1_76 rfl rfl (Nat.le_of_ble_eq_true rfl) (Nat.le_of_ble_eq_true rfl) C.fx.1 (s15y I C he hf) ?_
    refine iz_if_ne 19 d106_6 (by decide) (fun z => absurd (bI_f (fun q => q hth)) z) (fun _ => ?_)
    exact iz_thr d106_9 d106_12 d106_13 d106_15 d106_18 iy_tl1 (List.mem_of_getElem? (i := 1) rfl) rfl rfl (Nat.le_of_ble_eq_true rfl) (Nat.le_of_ble_eq_true rfl) ⟨rfl, rfl⟩
  · refine iz_callVx [_, _] d106_3 ok15 rm106_15 cl1_76 rfl rfl (Nat.le_of_ble_eq_true rfl) (Nat.le_of_ble_eq_true rfl) C.fx.1 (s15n hi) ?_
    refine iz_if_ne 19 d106_6 (by decide) (fun z => absurd rfl z) (fun _ => ?_)
    exact iz_thr d106_9 d106_12 d106_13 d106_15 d106_18 iy_tl1 (List.mem_of_getElem? (i := 1) rfl) rfl rfl (Nat.le_of_ble_eq_true rfl) (Nat.le_of_ble_eq_true rfl) ⟨rfl, rfl⟩
theorem s108n {G : ix_G} {h : ix_H} {x : Nat} {S : MS} {e f i : Int32} (I : mInv S) (B : cB h x S) (hno : ¬ (((0 ≤ e ∧ e ≤ 1) ∧ 0 ≤ f ∧ f ≤ 5) ∧ ¬ S 4 (6 * e.toNatClampNeg + f.toNatClampNeg) = 0)) : iy_Ev G 108 0 (lv_args 0 [.ref x, .int e, .int f, .int i]) [] h (.inr 1) (ix_nw h 0 0 6) := by
  obtain ⟨hx3, T, A, R, U, D, Lo, Lr, C, L⟩ := id B
  refine iy_ofE ?_
  refine iz_aload_n d108_0 rfl ?_
  refine iz_iload_n d108_1 rfl ?_
  refine iz_iload_n d108_2 rfl ?_
  by_cases hi : (0 ≤ e ∧ e ≤ 1) ∧ 0 ≤ f ∧ f ≤ 5
  · obtain ⟨⟨a1, a2⟩, b1, b2⟩ := id hi
    obtain ⟨e', e1, e2⟩ := i32_nat a1 a2 (by decide)
    obtain ⟨f', f1, f2⟩ := i32_nat b1 b2 (by decide)
    subst e1
    subst f1
    have he : e' < 2 := by rw [show (1 : Int32).toNatClampNeg = 1 from by decide] at e2; omega
    have hf : f' < 6 := by rw [show (5 : Int32).toNatClampNeg = 5 from by decide] at f2; omega
    have hth : S 4 (6 * e' + f') = 0 := by
      have := fun q => hno ⟨hi, q⟩
      rw [nI_clamp (by omega), nI_clamp (by omega)] at this
      exact Decidable.not_not.mp this
    refine iz_callVx [_, _] d108_3 ok15 rm108_15 cl1_76 rfl rfl (Nat.le_of_ble_eq_true rfl) (Nat.le_of_ble_eq_true rfl) C.fx.1 (s15y I C he hf) ?_
    refine iz_if_ne 19 d108_6 (by decide) (fun z => absurd (bI_f (fun q => q hth)) z) (fun _ => ?_)
    exact iz_thr d108_9 d108_12 d108_13 d108_15 d108_18 iy_tl1 (List.mem_of_getElem? (i := 1) rfl) rfl rfl (Nat.le_of_ble_eq_true rfl) (Nat.le_of_ble_eq_true rfl) ⟨rfl, rfl⟩
  · refine iz_callVx [_, _] d108_3 ok15 rm108_15 cl1_76 rfl rfl (Nat.le_of_ble_eq_true rfl) (Nat.le_of_ble_eq_true rfl) C.fx.1 (s15n hi) ?_
    refine iz_if_ne 19 d108_6 (by decide) (fun z => absurd rfl z) (fun _ => ?_)
    exact iz_thr d108_9 d108_12 d108_13 d108_15 d108_18 iy_tl1 (List.mem_of_getElem? (i := 1) rfl) rfl rfl (Nat.le_of_ble_eq_true rfl) (Nat.le_of_ble_eq_true rfl) ⟨rfl, rfl⟩
theorem s106l {G : ix_G} {h : ix_H} {x : Nat} {S : MS} {e f : Nat} (I : mInv S) (B : cB h x S) (he : e < 2) (hf : f < 6) (hth : ¬ S 4 (6 * e + f) = 0) (hL : mLock S e (nI f) (cP 42 S e)) : iy_Ev G 106 0 (lv_args 0 [.ref x, .int (nI e), .int (nI f)]) [] h (.inr 2) (ix_nw h 0 0 6) := by
  obtain ⟨hx3, T, A, R, U, D, Lo, Lr, C, L⟩ := id B
  have F := C.fx.2.2.2.2.2.2.2.2.2 e he
  have AL := cAl1.all L
  refine iy_ofE ?_
  refine iz_aload_n d106_0 rfl ?_
  refine iz_iload_n d106_1 rfl ?_
  refine iz_iload_n d106_2 rfl ?_
  refine iz_callVx [_, _] d106_3 ok15 rm106_15 cl1_76 rfl rfl (Nat.le_of_ble_eq_true rfl) (Nat.le_of_ble_eq_true rfl) C.fx.1 (s15y I C he hf) ?_
  refine iz_if_ne 19 d106_6 (by decide) (fun _ => ?_) (fun z => absurd hth (bI_0.mp z))
  refine iz_aload_n d106_19 rfl ?_
  refine iz_getr _ d106_20 fl1_16 C.fx.1 C.fx.2.1 ?_
  refine iz_iload_n d106_23 rfl ?_
  refine iz_aald (t := 5) d106_24 (by decide) rfl rfl (Or.inl C.fx.2.2.2.1) (by rw [C.fx.2.2.2.2.1]; exact vp_nI he (by decide)) ?_
  rw [nI_clamp (by omega), F.1]
  refine iz_iload_n d106_25 rfl ?_
  refine iz_callVx [_] d106_26 ok84 rm106_84 cl1_60 rfl rfl (Nat.le_of_ble_eq_true rfl) (Nat.le_of_ble_eq_true rfl) F.2.1 (s84 C he) ?_
  rw [bP_c (lock_Lo C.rw AL he), bP_t hL]
  refine iz_if_eq 42 d106_29 (by decide) (fun z => absurd z (by decide)) (fun _ => ?_)
  exact iz_thr d106_32 d106_35 d106_36 d106_38 d106_41 iy_tl2 (List.mem_of_getElem? (i := 3) rfl) rfl rfl (Nat.le_of_ble_eq_true rfl) (Nat.le_of_ble_eq_true rfl) ⟨rfl, rfl⟩
theorem s108b {G : ix_G} {h : ix_H} {x : Nat} {S : MS} {e f : Nat} (I : mInv S) (B : cB h x S) (he : e < 2) (hf : f < 6) {i : Int32} (hth : ¬ S 4 (6 * e + f) = 0) (hi : ¬ (0 ≤ i ∧ i < S 5 (6 * e + f))) : iy_Ev G 108 0 (lv_args 0 [.ref x, .int (nI e), .int (nI f), .int i]) [] h (.inr 3) (ix_nw h 0 0 6) := by
  obtain ⟨hx3, T, A, R, U, D, Lo, Lr, C, L⟩ := id B
  have F := C.fx.2.2.2.2.2.2.2.2.2 e he
  have fl := C.fl he hf
  have esz : ix_i h (cSz x e) f = S 5 (6 * e + f) := by rw [fl.1, if_neg hth]
  refine iy_ofE ?_
  refine iz_aload_n d108_0 rfl ?_
  refine iz_iload_n d108_1 rfl ?_
  refine iz_iload_n d108_2 rfl ?_
  refine iz_callVx [_, _] d108_3 ok15 rm108_15 cl1_76 rfl rfl (Nat.le_of_ble_eq_true rfl) (Nat.le_of_ble_eq_true rfl) C.fx.1 (s15y I C he hf) ?_
  refine iz_if_ne 19 d108_6 (by decide) (fun _ => ?_) (fun z => absurd hth (bI_0.mp z))
  refine iz_iload_n d108_19 rfl ?_
  refine iz_if_lt 40 d108_20 (by decide) (fun z => ?_) (fun y => ?_)
  · exact iz_thr d108_40 d108_43 d108_44 d108_46 d108_49 iy_tl3 (List.mem_of_getElem? (i := 4) rfl) rfl rfl (Nat.le_of_ble_eq_true rfl) (Nat.le_of_ble_eq_true rfl) ⟨rfl, rfl⟩
  refine iz_iload_n d108_23 rfl ?_
  refine iz_aload_n d108_24 rfl ?_
  refine iz_getr _ d108_25 fl1_16 C.fx.1 C.fx.2.1 ?_
  refine iz_iload_n d108_28 rfl ?_
  refine iz_aald (t := 5) d108_29 (by decide) rfl rfl (Or.inl C.fx.2.2.2.1) (by rw [C.fx.2.2.2.2.1]; exact vp_nI he (by decide)) ?_
  rw [nI_clamp (by omega), F.1]
  refine iz_getr _ d108_30 fl1_34 F.2.1 F.2.2.1 ?_
  refine iz_iload_n d108_33 rfl ?_
  refine iz_callVx [_] d108_34 ok16 rm108_16 cl1_63 rfl rfl (Nat.le_of_ble_eq_true rfl) (Nat.le_of_ble_eq_true rfl) F.2.2.2.2.1 (s16 F.2.2.2.2.1 F.2.2.2.2.2.2.1 F.2.2.2.2.2.2.2.2.2.1 F.2.2.2.2.2.2.2.2.2.2.1 hf) ?_
  rw [esz]
  refine iz_icmp_lt 50 d108_37 (by decide) (fun z => absurd ⟨Int32.not_lt.mp y, z⟩ hi) (fun _ => ?_)
  exact iz_thr d108_40 d108_43 d108_44 d108_46 d108_49 iy_tl3 (List.mem_of_getElem? (i := 4) rfl) rfl rfl (Nat.le_of_ble_eq_true rfl) (Nat.le_of_ble_eq_true rfl) ⟨rfl, rfl⟩
theorem i32_6 {f : Int32} : f < 6 ↔ f ≤ 5 := by
  rw [Int32.lt_iff_toInt_lt, Int32.le_iff_toInt_le, show (6 : Int32).toInt = 6 from by decide, show (5 : Int32).toInt = 5 from by decide]
  omega
theorem s110a {G : ix_G} {h : ix_H} {x : Nat} {e f d y w g : Int32} (hno : ¬ (((0 ≤ e ∧ e ≤ 1) ∧ 0 ≤ f ∧ f ≤ 5) ∧ (0 ≤ d ∧ d ≤ 5) ∧ (0 ≤ g ∧ g ≤ 5) ∧ (1 ≤ y ∧ y ≤ 2) ∧ 0 ≤ w ∧ w ≤ 2)) : iy_Ev G 110 0 (lv_args 0 [.ref x, .int e, .int f, .int d, .int y, .int w, .int g]) [] h (.inr 0) (ix_nw h 0 0 6) := by
  refine iy_ofE ?_
  refine iz_iload_n d110_0 rfl ?_
  refine iz_iload_n d110_1 rfl ?_
  refine iz_callSx [_, _] d110_2 ok9 rm110_9 cl1_30 rfl rfl (Nat.le_of_ble_eq_true rfl) (Nat.le_of_ble_eq_true rfl) (s9 _ _) ?_
  refine iz_if_eq 23 d110_5 (by decide) (fun _ => ?_) (fun z1 => ?_)
  · exact iz_thr d110_23 d110_26 d110_27 d110_29 d110_32 iy_tl0 (List.mem_of_getElem? (i := 5) rfl) rfl rfl (Nat.le_of_ble_eq_true rfl) (Nat.le_of_ble_eq_true rfl) ⟨rfl, rfl⟩
  have y1 := isF_lt.mp (Decidable.not_not.mp (fun q => z1 (bI_0.mpr q)))
  refine iz_iload_n d110_8 rfl ?_
  refine iz_callSx [_] d110_9 ok11 rm110_11 cl1_93 rfl rfl (Nat.le_of_ble_eq_true rfl) (Nat.le_of_ble_eq_true rfl) (s11 _) ?_
  refine iz_if_eq 23 d110_12 (by decide) (fun _ => ?_) (fun z2 => ?_)
  · exact iz_thr d110_23 d110_26 d110_27 d110_29 d110_32 iy_tl0 (List.mem_of_getElem? (i := 5) rfl) rfl rfl (Nat.le_of_ble_eq_true rfl) (Nat.le_of_ble_eq_true rfl) ⟨rfl, rfl⟩
  have y2 := Decidable.not_not.mp (fun q => z2 (bI_0.mpr q))
  refine iz_iload d110_15 rfl ?_
  refine iz_callSx [_] d110_17 ok11 rm110_11 cl1_93 rfl rfl (Nat.le_of_ble_eq_true rfl) (Nat.le_of_ble_eq_true rfl) (s11 _) ?_
  refine iz_if_ne 33 d110_20 (by decide) (fun z3 => ?_) (fun _ => ?_)
  · have y3 := Decidable.not_not.mp (fun q => z3 (bI_0.mpr q))
    refine iz_iload d110_33 rfl ?_
    refine iz_iconst 1 d110_35 (by decide) ?_
    refine iz_icmp_lt 56 d110_36 (by decide) (fun _ => ?_) (fun z4 => ?_)
    · exact iz_thr d110_56 d110_59 d110_60 d110_62 d110_65 iy_tl0 (List.mem_of_getElem? (i := 6) rfl) rfl rfl (Nat.le_of_ble_eq_true rfl) (Nat.le_of_ble_eq_true rfl) ⟨rfl, rfl⟩
    refine iz_iload d110_39 rfl ?_
    refine iz_iconst 2 d110_41 (by decide) ?_
    refine iz_icmp_gt 56 d110_42 (by decide) (fun _ => ?_) (fun z5 => ?_)
    · exact iz_thr d110_56 d110_59 d110_60 d110_62 d110_65 iy_tl0 (List.mem_of_getElem? (i := 6) rfl) rfl rfl (Nat.le_of_ble_eq_true rfl) (Nat.le_of_ble_eq_true rfl) ⟨rfl, rfl⟩
    refine iz_iload d110_45 rfl ?_
    refine iz_if_lt 56 d110_47 (by decide) (fun _ => ?_) (fun z6 => ?_)
    · exact iz_thr d110_56 d110_59 d110_60 d110_62 d110_65 iy_tl0 (List.mem_of_getElem? (i := 6) rfl) rfl rfl (Nat.le_of_ble_eq_true rfl) (Nat.le_of_ble_eq_true rfl) ⟨rfl, rfl⟩
    refine iz_iload d110_50 rfl ?_
    refine iz_iconst 2 d110_52 (by decide) ?_
    refine iz_icmp_le 66 d110_53 (by decide) (fun z7 => absurd ⟨y1, ⟨y2.1, i32_6.mp y2.2⟩, ⟨y3.1, i32_6.mp y3.2⟩, ⟨Int32.not_lt.mp z4, Int32.not_lt.mp z5⟩, Int32.not_lt.mp z6, z7⟩ hno) (fun _ => ?_)
    exact iz_thr d110_56 d110_59 d110_60 d110_62 d110_65 iy_tl0 (List.mem_of_getElem? (i := 6) rfl) rfl rfl (Nat.le_of_ble_eq_true rfl) (Nat.le_of_ble_eq_true rfl) ⟨rfl, rfl⟩
  · exact iz_thr d110_23 d110_26 d110_27 d110_29 d110_32 iy_tl0 (List.mem_of_getElem? (i := 5) rfl) rfl rfl (Nat.le_of_ble_eq_true rfl) (Nat.le_of_ble_eq_true rfl) ⟨rfl, rfl⟩
theorem s110b {G : ix_G} {h : ix_H} {x : Nat} {S : MS} {e f : Nat} (I : mInv S) (B : cB h x S) (he : e < 2) (hf : f < 6) {d y w g : Nat} (hd : d < 6) (hg : g < 6) (hy1 : 1 ≤ y) (hy2 : y ≤ 2) (hw : w ≤ 2) (hth : S 4 (6 * e + f) = 0) : iy_Ev G 110 0 (lv_args 0 [.ref x, .int (nI e), .int (nI f), .int (nI d), .int (nI y), .int (nI w), .int (nI g)]) [] h (.inr 1) (ix_nw h 0 0 6) := by
  obtain ⟨hx3, T, A, R, U, D, Lo, Lr, C, L⟩ := id B
  have F := C.fx.2.2.2.2.2.2.2.2.2 e he
  have hi := isF_y he hf
  have hi2 := isF_y he hd
  have hi3 := isF_y he hg
  have hh := (C.fl he hf).has (I.2.1 _ (by omega)).2
  refine iy_ofE ?_
  refine iz_iload_n d110_0 rfl ?_
  refine iz_iload_n d110_1 rfl ?_
  refine iz_callSx [_, _] d110_2 ok9 rm110_9 cl1_30 rfl rfl (Nat.le_of_ble_eq_true rfl) (Nat.le_of_ble_eq_true rfl) (s9 _ _) ?_
  refine iz_if_eq 23 d110_5 (by decide) (fun z => absurd (isF_lt.mpr hi) (bI_0.mp z)) (fun _ => ?_)
  refine iz_iload_n d110_8 rfl ?_
  refine iz_callSx [_] d110_9 ok11 rm110_11 cl1_93 rfl rfl (Nat.le_of_ble_eq_true rfl) (Nat.le_of_ble_eq_true rfl) (s11 _) ?_
  refine iz_if_eq 23 d110_12 (by decide) (fun z => absurd (isF_lt.mpr hi2).2 (bI_0.mp z)) (fun _ => ?_)
  refine iz_iload d110_15 rfl ?_
  refine iz_callSx [_] d110_17 ok11 rm110_11 cl1_93 rfl rfl (Nat.le_of_ble_eq_true rfl) (Nat.le_of_ble_eq_true rfl) (s11 _) ?_
  refine iz_if_ne 33 d110_20 (by decide) (fun _ => ?_) (fun z => absurd (isF_lt.mpr hi3).2 (bI_0.mp z))
  refine iz_iload d110_33 rfl ?_
  refine iz_iconst (nI 1) d110_35 (by decide) ?_
  refine iz_icmp_lt 56 d110_36 (by decide) (fun z => absurd z (by rw [nI_ltI (by omega) (by omega)]; omega)) (fun _ => ?_)
  refine iz_iload d110_39 rfl ?_
  refine iz_iconst (nI 2) d110_41 (by decide) ?_
  refine iz_icmp_gt 56 d110_42 (by decide) (fun z => absurd z (by rw [nI_ltI (by omega) (by omega)]; omega)) (fun _ => ?_)
  refine iz_iload d110_45 rfl ?_
  refine iz_if_lt 56 d110_47 (by decide) (fun z => absurd z (nI_pos (by omega))) (fun _ => ?_)
  refine iz_iload d110_50 rfl ?_
  refine iz_iconst (nI 2) d110_52 (by decide) ?_
  refine iz_icmp_le 66 d110_53 (by decide) (fun _ => ?_) (fun z => absurd ((nI_leI (by omega) (by omega)).mpr hw) z)
  refine iz_aload_n d110_66 rfl ?_
  refine iz_getr _ d110_67 fl1_16 C.fx.1 C.fx.2.1 ?_
  refine iz_iload_n d110_70 rfl ?_
  refine iz_aald (t := 5) d110_71 (by decide) rfl rfl (Or.inl C.fx.2.2.2.1) (by rw [C.fx.2.2.2.2.1]; exact vp_nI he (by decide)) ?_
  rw [nI_clamp (by omega), F.1]
  refine iz_astore d110_72 (by decide) ?_
  refine iz_aload d110_74 rfl ?_
  refine iz_getr _ d110_76 fl1_34 F.2.1 F.2.2.1 ?_
  refine iz_iload_n d110_79 rfl ?_
  refine iz_callVx [_] d110_80 ok12 rm110_12 cl1_38 rfl rfl (Nat.le_of_ble_eq_true rfl) (Nat.le_of_ble_eq_true rfl) F.2.2.2.2.1 (s12 F.2.2.2.2.1 F.2.2.2.2.2.2.1 F.2.2.2.2.2.2.2.2.2.1 F.2.2.2.2.2.2.2.2.2.2.1 hf) ?_
  refine iz_if_ne 96 d110_83 (by decide) (fun z => absurd (hh.mpr hth) (fun q => z (by rw [q]; decide))) (fun _ => ?_)
  exact iz_thr d110_86 d110_89 d110_90 d110_92 d110_95 iy_tl1 (List.mem_of_getElem? (i := 1) rfl) rfl rfl (Nat.le_of_ble_eq_true rfl) (Nat.le_of_ble_eq_true rfl) ⟨rfl, rfl⟩
theorem s110c {G : ix_G} {h : ix_H} {x : Nat} {S : MS} {e f : Nat} (I : mInv S) (B : cB h x S) (he : e < 2) (hf : f < 6) {d y w g : Nat} (hd : d < 6) (hg : g < 6) (hy1 : 1 ≤ y) (hy2 : y ≤ 2) (hw : w ≤ 2) (hth : ¬ S 4 (6 * e + f) = 0) (hcs : S 42 e = nI 3) : iy_Ev G 110 0 (lv_args 0 [.ref x, .int (nI e), .int (nI f), .int (nI d), .int (nI y), .int (nI w), .int (nI g)]) [] h (.inr 2) (ix_nw h 0 0 6) := by
  obtain ⟨hx3, T, A, R, U, D, Lo, Lr, C, L⟩ := id B
  have F := C.fx.2.2.2.2.2.2.2.2.2 e he
  have hi := isF_y he hf
  have hi2 := isF_y he hd
  have hi3 := isF_y he hg
  have hh := (C.fl he hf).has (I.2.1 _ (by omega)).2
  refine iy_ofE ?_
  refine iz_iload_n d110_0 rfl ?_
  refine iz_iload_n d110_1 rfl ?_
  refine iz_callSx [_, _] d110_2 ok9 rm110_9 cl1_30 rfl rfl (Nat.le_of_ble_eq_true rfl) (Nat.le_of_ble_eq_true rfl) (s9 _ _) ?_
  refine iz_if_eq 23 d110_5 (by decide) (fun z => absurd (isF_lt.mpr hi) (bI_0.mp z)) (fun _ => ?_)
  refine iz_iload_n d110_8 rfl ?_
  refine iz_callSx [_] d110_9 ok11 rm110_11 cl1_93 rfl rfl (Nat.le_of_ble_eq_true rfl) (Nat.le_of_ble_eq_true rfl) (s11 _) ?_
  refine iz_if_eq 23 d110_12 (by decide) (fun z => absurd (isF_lt.mpr hi2).2 (bI_0.mp z)) (fun _ => ?_)
  refine iz_iload d110_15 rfl ?_
  refine iz_callSx [_] d110_17 ok11 rm110_11 cl1_93 rfl rfl (Nat.le_of_ble_eq_true rfl) (Nat.le_of_ble_eq_true rfl) (s11 _) ?_
  refine iz_if_ne 33 d110_20 (by decide) (fun _ => ?_) (fun z => absurd (isF_lt.mpr hi3).2 (bI_0.mp z))
  refine iz_iload d110_33 rfl ?_
  refine iz_iconst (nI 1) d110_35 (by decide) ?_
  refine iz_icmp_lt 56 d110_36 (by decide) (fun z => absurd z (by rw [nI_ltI (by omega) (by omega)]; omega)) (fun _ => ?_)
  refine iz_iload d110_39 rfl ?_
  refine iz_iconst (nI 2) d110_41 (by decide) ?_
  refine iz_icmp_gt 56 d110_42 (by decide) (fun z => absurd z (by rw [nI_ltI (by omega) (by omega)]; omega)) (fun _ => ?_)
  refine iz_iload d110_45 rfl ?_
  refine iz_if_lt 56 d110_47 (by decide) (fun z => absurd z (nI_pos (by omega))) (fun _ => ?_)
  refine iz_iload d110_50 rfl ?_
  refine iz_iconst (nI 2) d110_52 (by decide) ?_
  refine iz_icmp_le 66 d110_53 (by decide) (fun _ => ?_) (fun z => absurd ((nI_leI (by omega) (by omega)).mpr hw) z)
  refine iz_aload_n d110_66 rfl ?_
  refine iz_getr _ d110_67 fl1_16 C.fx.1 C.fx.2.1 ?_
  refine iz_iload_n d110_70 rfl ?_
  refine iz_aald (t := 5) d110_71 (by decide) rfl rfl (Or.inl C.fx.2.2.2.1) (by rw [C.fx.2.2.2.2.1]; exact vp_nI he (by decide)) ?_
  rw [nI_clamp (by omega), F.1]
  refine iz_astore d110_72 (by decide) ?_
  refine iz_aload d110_74 rfl ?_
  refine iz_getr _ d110_76 fl1_34 F.2.1 F.2.2.1 ?_
  refine iz_iload_n d110_79 rfl ?_
  refine iz_callVx [_] d110_80 ok12 rm110_12 cl1_38 rfl rfl (Nat.le_of_ble_eq_true rfl) (Nat.le_of_ble_eq_true rfl) F.2.2.2.2.1 (s12 F.2.2.2.2.1 F.2.2.2.2.2.2.1 F.2.2.2.2.2.2.2.2.2.1 F.2.2.2.2.2.2.2.2.2.2.1 hf) ?_
  have AL := cAl1.all L
  obtain ⟨l0, l1, l2⟩ := C.ll.1 e he
  have f1 := F.2.2.2.1 1 (by decide)
  have eL : (Lo e).length = 3 := by
    have := cAll.S C.rw AL he
    rw [← this]
    unfold rowL cP
    rw [List.length_map, List.length_range, hcs, nI_clamp (by omega)]
  refine iz_if_ne 96 d110_83 (by decide) (fun _ => ?_) (fun z => absurd (show ¬ ix_i h (cSz x e) f = -1 from fun q => hth (hh.mp q)) (bI_0.mp z))
  refine iz_aload d110_96 rfl ?_
  refine iz_getr _ d110_98 fl1_100 F.2.1 f1.1 ?_
  refine iz_callVx [] d110_101 ok20 rm110_20 cl1_104 rfl rfl (Nat.le_of_ble_eq_true rfl) (Nat.le_of_ble_eq_true rfl) f1.2 (s20 f1.2) ?_
  rw [l1.2.1, List.length_map, eL]
  refine iz_iconst (nI 3) d110_104 (by decide) ?_
  refine iz_icmp_ge 122 d110_105 (by decide) (fun _ => ?_) (fun z => absurd (Int32.le_refl _) z)
  exact iz_thr d110_122 d110_125 d110_126 d110_128 d110_131 iy_tl2 (List.mem_of_getElem? (i := 7) rfl) rfl rfl (Nat.le_of_ble_eq_true rfl) (Nat.le_of_ble_eq_true rfl) ⟨rfl, rfl⟩
