/-! ===== ArrayList.add ===== -/
theorem as_SO : ix_AS 3 7 := ⟨by decide, by decide, rfl, "java/lang/Object", rfl, Or.inr cst_SO⟩
theorem as_RO : ix_AS 2 7 := ⟨by decide, by decide, rfl, "java/lang/Object", rfl, Or.inr cst_RO⟩
theorem wl_39 : Cond.fieldLink "java/util/ArrayList" 39 "java/util/ArrayList" "DEFAULTCAPACITY_EMPTY_ELEMENTDATA" "[Ljava/lang/Object;" ∈ ix_words := ix_in 129 (by decide +kernel) (by decide +kernel)
theorem wl_7 : Cond.classLink "java/util/ArrayList" 7 "java/lang/Object" ∈ ix_words := ix_in 582 (by decide +kernel) (by decide +kernel)
theorem wl_110 : Cond.classLink "java/util/Arrays" 110 "[Ljava/lang/Object;" ∈ ix_words := ix_in 574 (by decide +kernel) (by decide +kernel)
theorem wl_2 : Cond.classLink "java/util/Arrays" 2 "java/lang/Object" ∈ ix_words := ix_in 576 (by decide +kernel) (by decide +kernel)
theorem wl_86 : Cond.methodLink "java/util/Arrays" 86 ix_gc ∈ ix_words := ix_in 553 (by decide +kernel) (by decide +kernel)
theorem wl_gd : Cond.declares ix_gc ∈ ix_words := ix_in 1305 (by decide +kernel) (by decide +kernel)
theorem wl_gs : Cond.selects "[Ljava/lang/Object;" ix_gc ix_gc ∈ ix_words := ix_in 1304 (by decide +kernel) (by decide +kernel)
theorem wl_gi : Cond.instanceMethod ix_gc ∈ ix_words := ix_in 554 (by decide +kernel) (by decide +kernel)
theorem wl_gn : Cond.native ix_gc ∈ ix_words := ix_in 570 (by decide +kernel) (by decide +kernel)
theorem wl_200 : Cond.constant "jdk/internal/util/ArraysSupport" 200 2147483639 ∈ ix_words := ix_in 546 (by decide +kernel) (by decide +kernel)
theorem cpl_150 : ix_CpL "java/util/Arrays" 150 := ⟨ix_in 580 (by decide +kernel) (by decide +kernel), ix_in 437 (by decide +kernel) (by decide +kernel), ix_in 436 (by decide +kernel) (by decide +kernel), ix_in 82 (by decide +kernel) (by decide +kernel)⟩
/-- what stands in the lists: senders and receivers -/
def elT (h : ix_H) (b : Nat) : Prop := ix_tg h b = 4 ∨ ix_tg h b = 3
def mx2 (a b : Nat) : Nat := if a < b then b else a
theorem mx2_l (a b : Nat) : a ≤ mx2 a b := by unfold mx2; split <;> omega
theorem mx2_le {a b n : Nat} (h : a ≤ n ∧ b ≤ n) : mx2 a b ≤ n := by unfold mx2; split <;> omega
theorem pMax {a b : Nat} (ha : a < 2 ^ 31) (hb : b < 2 ^ 31) : (if nI a < nI b then nI b else nI a) = nI (mx2 a b) := by
  unfold mx2
  by_cases q : a < b
  · rw [if_pos ((nI_ltI ha hb).mpr q), if_pos q]
  · rw [if_neg (fun z => q ((nI_ltI ha hb).mp z)), if_neg q]
theorem nI_shr1 {n : Nat} (hn : n ≤ 400) : nI n >>> (nI 1 &&& 31) = nI (n / 2) := by
  have : ∀ k, k < 401 → nI k >>> (nI 1 &&& 31) = nI (k / 2) := by decide +kernel
  exact this n (by omega)
set_option maxRecDepth 100000 in
set_option maxHeartbeats 4000000 in
/-- ArraysSupport.newLength -/
theorem s73 {G : ix_G} {h : ix_H} {a b c : Nat} (ha : a ≤ 1000) (hb1 : 1 ≤ b) (hb : b ≤ 1000) (hc : c ≤ 1000) : ix_Ev G 73 0 (lv_args 0 [.int (nI a), .int (nI b), .int (nI c)]) [] h (some (.int (nI (a + mx2 b c)))) h := by
  have hm : mx2 b c ≤ 1000 := mx2_le ⟨hb, hc⟩
  have hm1 : 1 ≤ mx2 b c := Nat.le_trans hb1 (mx2_l b c)
  refine ix_ofE ?_
  refine ie_iload_n d73_0 rfl ?_
  refine ie_iload_n d73_1 rfl ?_
  refine ie_iload_n d73_2 rfl ?_
  refine ie_callSx [_, _] d73_3 ok74 rm73_74 cl14_194 rfl rfl (Nat.le_of_ble_eq_true rfl) (Nat.le_of_ble_eq_true rfl) (s74 _ _) ?_
  rw [pMax (by omega) (by omega)]
  refine ie_iadd d73_6 ?_
  rw [nI_add]
  refine ie_istore_n d73_7 (by decide) ?_
  refine ie_iconst (nI 0) d73_8 (by decide) ?_
  refine ie_iload_n d73_9 rfl ?_
  refine ie_icmp_ge 21 d73_10 (by decide) (fun z => absurd z (by rw [nI_leI (by omega) (by omega)]; omega)) (fun _ => ?_)
  refine ie_iload_n d73_13 rfl ?_
  refine ie_ldc d73_14 wl_200 ?_
  refine ie_icmp_gt 21 d73_16 (by decide) (fun z => ?_) (fun _ => ?_)
  · exfalso
    rw [Int32.lt_iff_toInt_lt, nI_toInt (by omega), show (2147483639 : Int32).toInt = 2147483639 from by decide] at z
    omega
  · refine ie_iload_n d73_19 rfl ?_
    exact ie_iret d73_20 rfl rfl ⟨rfl, rfl⟩
/-- Arrays.copyOf, of Object[] -/
theorem s77 {G : ix_G} {h : ix_H} {D n : Nat} (hD : ix_tg h D = 107 ∨ ix_tg h D = 207) (hl : ix_ln h D ≤ n) (hn : n ≤ 10000) (hlt : D < ix_nx h) (hel : ∀ j b, j < ix_ln h D → ix_r h D j = some b → elT h b ∧ b < ix_nx h) : ix_Ev G 77 0 (lv_args 0 [.ref D, .int (nI n), .ref G.2.2.2.2]) [] h (some (.ref (ix_nx h))) (ix_cpr (ix_nw h 107 n n) D 0 (ix_nx h) 0 (ix_ln h D)) := by
  refine ix_ofE ?_
  refine ie_aload_n d77_0 rfl ?_
  refine ie_ldcM d77_1 wl_110 ?_
  refine ie_acmp_ne 13 d77_3 (by decide) (fun z => absurd rfl z) (fun _ => ?_)
  refine ie_iload_n d77_6 rfl ?_
  refine ie_anew (t := 7) d77_7 (by decide) rfl (Or.inr (Or.inr rfl)) wl_2 rfl (by omega) ?_
  show ix_E G 77 10 _ _ (ix_nw h 107 n n) _
  refine ie_goto 24 d77_10 (by decide) ?_
  have tD : ix_tg (ix_nw h 107 n n) D = ix_tg h D := by rw [ix_tg_nw, if_neg (by omega)]
  have lD : ix_ln (ix_nw h 107 n n) D = ix_ln h D := by rw [ix_ln_nw, if_neg (by omega)]
  refine ie_astore_n d77_24 (by decide) ?_
  refine ie_aload_n d77_25 rfl ?_
  refine ie_iconst (nI 0) d77_26 (by decide) ?_
  refine ie_aload_n d77_27 rfl ?_
  refine ie_iconst (nI 0) d77_28 (by decide) ?_
  refine ie_aload_n d77_29 rfl ?_
  refine ie_alen (t := 7) d77_30 (by decide) (by rw [tD]; exact hD) ?_
  rw [lD]
  refine ie_iload_n d77_31 rfl ?_
  refine ie_callSx [_, _] d77_32 ok78 rm77_78 cl16_304 rfl rfl (Nat.le_of_ble_eq_true rfl) (Nat.le_of_ble_eq_true rfl) (s78 _ _) ?_
  rw [if_neg (fun z => by rw [nI_ltI (by omega) (by omega)] at z; omega)]
  have k0 : (nI 0).toNatClampNeg = 0 := nI_clamp (by decide)
  have kl : (nI (ix_ln h D)).toNatClampNeg = ix_ln h D := nI_clamp (by omega)
  refine ie_copyR d77_35 cpl_150 (by decide) (Nat.le_of_ble_eq_true rfl) (by rw [tD]; exact hD) (by rw [ix_tg_nw, if_pos rfl]) (nI_pos (by decide)) (nI_pos (by decide)) (nI_pos (by omega)) (by rw [k0, kl, lD]; omega) (by rw [k0, kl, ix_ln_nw, if_pos rfl]; omega) (fun j hj y hy => ?_) ?_
  · rw [kl] at hj
    rw [k0, Nat.zero_add, ix_r_nw, if_neg (by omega)] at hy
    obtain ⟨e1, e2⟩ := hel j y hj hy
    rcases e1 with w | w
    · exact ⟨3, by decide, by rw [ix_tg_nw, if_neg (by omega)]; exact w, rfl, cst_SO⟩
    · exact ⟨2, by decide, by rw [ix_tg_nw, if_neg (by omega)]; exact w, rfl, cst_RO⟩
  · rw [k0, kl]
    refine ie_aload_n d77_38 rfl ?_
    exact ie_aret d77_39 rfl (Or.inr ⟨_, rfl⟩) (Or.inr ⟨_, rfl⟩) ⟨rfl, rfl⟩
/-- Arrays.copyOf -/
theorem s76 {G : ix_G} {h : ix_H} {D n : Nat} (hD : ix_tg h D = 107 ∨ ix_tg h D = 207) (hl : ix_ln h D ≤ n) (hn : n ≤ 10000) (hlt : D < ix_nx h) (hel : ∀ j b, j < ix_ln h D → ix_r h D j = some b → elT h b ∧ b < ix_nx h) : ix_Ev G 76 0 (lv_args 0 [.ref D, .int (nI n)]) [] h (some (.ref (ix_nx h))) (ix_cpr (ix_nw h 107 n n) D 0 (ix_nx h) 0 (ix_ln h D)) := by
  refine ix_ofE ?_
  refine ie_aload_n d76_0 rfl ?_
  refine ie_iload_n d76_1 rfl ?_
  refine ie_aload_n d76_2 rfl ?_
  refine ie_getC d76_3 wl_86 wl_gd wl_gs wl_gi wl_gn (by decide) (Nat.le_of_ble_eq_true rfl) hD ?_
  refine ie_callSx [_, _, _] d76_6 ok77 rm76_77 cl16_300 rfl rfl (Nat.le_of_ble_eq_true rfl) (Nat.le_of_ble_eq_true rfl) (s77 hD hl hn hlt hel) ?_
  exact ie_aret d76_9 rfl (Or.inr ⟨_, rfl⟩) (Or.inr ⟨_, rfl⟩) ⟨rfl, rfl⟩
/-- what adding leaves: D2 the row, in its old place or new -/
def lsA (a D2 : Nat) (b w : Nat) (h h' : ix_H) : Prop := (∀ q, q < ix_nx h → q ≠ a → q ≠ D2 → ceq h h' q) ∧ (∀ q, q < ix_nx h → ix_tg h' q = ix_tg h q ∧ ix_ln h' q = ix_ln h q) ∧ (∀ q j, q < ix_nx h → ix_l h' q j = ix_l h q j) ∧ ix_nx h ≤ ix_nx h' ∧ ix_nx h' ≤ ix_nx h + b ∧ ix_us h ≤ ix_us h' ∧ ix_us h' ≤ ix_us h + w ∧ (cNx h → cNx h')
set_option maxRecDepth 100000 in
set_option maxHeartbeats 4000000 in
/-- ArrayList.grow -/
theorem s72 {G : ix_G} {h : ix_H} {a D : Nat} {L : List Nat} (ht : ix_tg h a = 10) (C : ix_r h a 0 = some D) (c3 : ix_ln h D = L.length) (c5 : ix_tg h D = 107 ∨ ix_tg h D = 207) (c6 : ∀ i b, L[i]? = some b → ix_r h D i = some b) (hL : L.length ≤ 330) (halt : a < ix_nx h) (hDlt : D < ix_nx h) (hE : ∀ b, b ∈ L → elT h b ∧ b < ix_nx h) : ix_E G 72 0 (lv_args 0 [.ref a, .int (nI (L.length + 1))]) [] h (fun r h' => r = some (.ref (ix_nx h)) ∧ lsA a (ix_nx h) 1 (10 + 2 * L.length) h h' ∧ (∀ j, ix_i h' a j = ix_i h a j) ∧ ix_r h' a 0 = some (ix_nx h) ∧ ix_tg h' (ix_nx h) = 107 ∧ L.length < ix_ln h' (ix_nx h) ∧ ix_ln h' (ix_nx h) ≤ 1000 ∧ ∀ i b, L[i]? = some b → ix_r h' (ix_nx h) i = some b) := by
  have aD : ¬ a = ix_nx h := by omega
  have old : ix_E G 72 20 (ix_set (lv_args 0 [.ref a, .int (nI (L.length + 1))]) 2 (.int (nI L.length))) [] h (fun r h' => r = some (.ref (ix_nx h)) ∧ lsA a (ix_nx h) 1 (10 + 2 * L.length) h h' ∧ (∀ j, ix_i h' a j = ix_i h a j) ∧ ix_r h' a 0 = some (ix_nx h) ∧ ix_tg h' (ix_nx h) = 107 ∧ L.length < ix_ln h' (ix_nx h) ∧ ix_ln h' (ix_nx h) ≤ 1000 ∧ ∀ i b, L[i]? = some b → ix_r h' (ix_nx h) i = some b) := by
    refine ie_iload_n d72_20 rfl ?_
    refine ie_iload_n d72_21 rfl ?_
    refine ie_iload_n d72_22 rfl ?_
    refine ie_isub d72_23 ?_
    rw [pk_sub (by omega), show L.length + 1 - L.length = 1 from by omega]
    refine ie_iload_n d72_24 rfl ?_
    refine ie_iconst (nI 1) d72_25 (by decide) ?_
    refine ie_ishr d72_26 ?_
    rw [nI_shr1 (by omega)]
    refine ie_callSx [_, _, _] d72_27 ok73 rm72_73 cl4_73 rfl rfl (Nat.le_of_ble_eq_true rfl) (Nat.le_of_ble_eq_true rfl) (s73 (by omega) (by omega) (by omega) (by omega)) ?_
    generalize hN : L.length + mx2 1 (L.length / 2) = N
    have n1 : L.length < N := by have := mx2_l 1 (L.length / 2); omega
    have n2 : N ≤ 10 + 2 * L.length := by
      have : mx2 1 (L.length / 2) ≤ 1 + L.length := mx2_le ⟨by omega, by omega⟩
      omega
    refine ie_istore_n d72_30 (by decide) ?_
    refine ie_aload_n d72_31 rfl ?_
    refine ie_aload_n d72_32 rfl ?_
    refine ie_getr _ d72_33 fl4_9 ht C ?_
    refine ie_iload_n d72_36 rfl ?_
    refine ie_callSx [_, _] d72_37 ok76 rm72_76 cl4_66 rfl rfl (Nat.le_of_ble_eq_true rfl) (Nat.le_of_ble_eq_true rfl) (s76 c5 (by rw [c3]; omega) (by omega) hDlt (fun j b hj hb => ?_)) ?_
    · rw [c3] at hj
      have e1 : L[j]? = some L[j] := List.getElem?_eq_some_iff.mpr ⟨hj, rfl⟩
      have e2 := c6 j _ e1
      rw [e2] at hb
      rw [← Option.some.inj hb]
      exact hE _ (List.getElem_mem hj)
    · rw [c3]
      refine ie_dup_x1 d72_40 rfl rfl ?_
      refine ie_putr (k := 9) d72_41 fl4_9 (Or.inl rfl) (by show ix_tg (ix_nw h 107 N N) a = 10; rw [ix_tg_nw, if_neg aD]; exact ht) rfl rfl ?_
      refine ie_aret d72_44 rfl (Or.inr ⟨_, rfl⟩) (Or.inr ⟨_, rfl⟩) ⟨rfl, ⟨fun q hq q1 _ => ?_, fun q hq => ?_, fun q j hq => ?_, ?_, ?_, ?_, ?_, fun z q hq => ?_⟩, fun j => ?_, ?_, ?_, ?_, ?_, fun i b hb => ?_⟩
      · refine ⟨?_, ?_, fun j => ?_, fun j => ?_⟩
        · show ix_tg (ix_nw h 107 N N) q = _; rw [ix_tg_nw, if_neg (by omega)]
        · show ix_ln (ix_nw h 107 N N) q = _; rw [ix_ln_nw, if_neg (by omega)]
        · show ix_i (ix_nw h 107 N N) q j = _; rw [ix_i_nw, if_neg (by omega)]
        · rw [ix_r_sr, if_neg (fun z => q1 z.1), ix_r_cpr, if_neg (by omega), ix_r_nw, if_neg (by omega)]
      · refine ⟨?_, ?_⟩
        · show ix_tg (ix_nw h 107 N N) q = _; rw [ix_tg_nw, if_neg (by omega)]
        · show ix_ln (ix_nw h 107 N N) q = _; rw [ix_ln_nw, if_neg (by omega)]
      · show ix_l (ix_nw h 107 N N) q j = _; rw [ix_l_nw, if_neg (by omega)]
      · show ix_nx h ≤ ix_nx h + 1; omega
      · show ix_nx h + 1 ≤ ix_nx h + 1; omega
      · show ix_us h ≤ ix_us h + N; omega
      · show ix_us h + N ≤ _; omega
      · show ix_tg (ix_nw h 107 N N) q = 0
        have hq' : ix_nx h + 1 ≤ q := hq
        rw [ix_tg_nw, if_neg (by omega)]
        exact z q (by omega)
      · show ix_i (ix_nw h 107 N N) a j = _; rw [ix_i_nw, if_neg aD]
      · rw [ix_r_sr, if_pos ⟨rfl, rfl⟩]
      · show ix_tg (ix_nw h 107 N N) (ix_nx h) = _; rw [ix_tg_nw, if_pos rfl]
      · show L.length < ix_ln (ix_nw h 107 N N) (ix_nx h); rw [ix_ln_nw, if_pos rfl]; exact n1
      · show ix_ln (ix_nw h 107 N N) (ix_nx h) ≤ 1000; rw [ix_ln_nw, if_pos rfl]; omega
      · have hi : i < L.length := (List.getElem?_eq_some_iff.mp hb).1
        rw [ix_r_sr, if_neg (fun z => aD z.1.symm), ix_r_cpr, if_pos ⟨rfl, Nat.zero_le _, by omega⟩, Nat.sub_zero, Nat.zero_add, ix_r_nw, if_neg (by omega)]
        exact c6 i b hb
  refine ie_aload_n d72_0 rfl ?_
  refine ie_getr _ d72_1 fl4_9 ht C ?_
  refine ie_alen (t := 7) d72_4 (by decide) c5 ?_
  rw [c3]
  refine ie_istore_n d72_5 (by decide) ?_
  refine ie_iload_n d72_6 rfl ?_
  refine ie_if_gt 20 d72_7 (by decide) (fun _ => old) (fun q0 => ?_)
  have l0 : L.length = 0 := by
    rcases Nat.eq_zero_or_pos L.length with y | y
    · exact y
    · exact absurd ((nI_ltI (a := 0) (by decide) (by omega)).mpr y) q0
  refine ie_aload_n d72_10 rfl ?_
  refine ie_getr _ d72_11 fl4_9 ht C ?_
  refine ie_gets d72_14 wl_39 ?_
  refine ie_acmp_eq 45 d72_17 (by decide) (fun _ => ?_) (fun _ => old)
  refine ie_aload_n d72_45 rfl ?_
  refine ie_bipush (nI 10) d72_46 (by decide) ?_
  refine ie_iload_n d72_48 rfl ?_
  refine ie_callSx [_, _] d72_49 ok74 rm72_74 cl4_79 rfl rfl (Nat.le_of_ble_eq_true rfl) (Nat.le_of_ble_eq_true rfl) (s74 _ _) ?_
  rw [if_neg (fun z => by rw [nI_ltI (by omega) (by omega)] at z; omega)]
  refine ie_anew (t := 7) d72_52 (by decide) rfl (Or.inr (Or.inr rfl)) wl_7 rfl (by decide) ?_
  show ix_E G 72 55 _ _ (ix_nw h 107 10 10) _
  refine ie_dup_x1 d72_55 rfl rfl ?_
  refine ie_putr (k := 9) d72_56 fl4_9 (Or.inl rfl) (by rw [ix_tg_nw, if_neg aD]; exact ht) rfl rfl ?_
  refine ie_aret d72_59 rfl (Or.inr ⟨_, rfl⟩) (Or.inr ⟨_, rfl⟩) ⟨rfl, ⟨fun q hq q1 _ => ?_, fun q hq => ?_, fun q j hq => ?_, ?_, ?_, ?_, ?_, fun z q hq => ?_⟩, fun j => ?_, ?_, ?_, ?_, ?_, fun i b hb => ?_⟩
  · refine ⟨?_, ?_, fun j => ?_, fun j => ?_⟩
    · show ix_tg (ix_nw h 107 10 10) q = _; rw [ix_tg_nw, if_neg (by omega)]
    · show ix_ln (ix_nw h 107 10 10) q = _; rw [ix_ln_nw, if_neg (by omega)]
    · show ix_i (ix_nw h 107 10 10) q j = _; rw [ix_i_nw, if_neg (by omega)]
    · rw [ix_r_sr, if_neg (fun z => q1 z.1), ix_r_nw, if_neg (by omega)]
  · refine ⟨?_, ?_⟩
    · show ix_tg (ix_nw h 107 10 10) q = _; rw [ix_tg_nw, if_neg (by omega)]
    · show ix_ln (ix_nw h 107 10 10) q = _; rw [ix_ln_nw, if_neg (by omega)]
  · show ix_l (ix_nw h 107 10 10) q j = _; rw [ix_l_nw, if_neg (by omega)]
  · show ix_nx h ≤ ix_nx h + 1; omega
  · show ix_nx h + 1 ≤ ix_nx h + 1; omega
  · show ix_us h ≤ ix_us h + 10; omega
  · show ix_us h + 10 ≤ _; omega
  · show ix_tg (ix_nw h 107 10 10) q = 0
    have hq' : ix_nx h + 1 ≤ q := hq
    rw [ix_tg_nw, if_neg (by omega)]
    exact z q (by omega)
  · show ix_i (ix_nw h 107 10 10) a j = _; rw [ix_i_nw, if_neg aD]
  · rw [ix_r_sr, if_pos ⟨rfl, rfl⟩]
  · show ix_tg (ix_nw h 107 10 10) (ix_nx h) = _; rw [ix_tg_nw, if_pos rfl]
  · show L.length < ix_ln (ix_nw h 107 10 10) (ix_nx h); rw [ix_ln_nw, if_pos rfl]; omega
  · show ix_ln (ix_nw h 107 10 10) (ix_nx h) ≤ 1000; rw [ix_ln_nw, if_pos rfl]; decide
  · have hi : i < L.length := (List.getElem?_eq_some_iff.mp hb).1
    omega
