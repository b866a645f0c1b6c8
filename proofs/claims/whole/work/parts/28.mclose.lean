/-- a row of open ones, of fields A (who) and B (how many): the one at k0 goes out; q: how far the rest has moved -/
def mRm (A B : Nat) (S : MS) (e k0 c q : Nat) : MS := fun kk j => if kk = A ∧ 3 * e + k0 ≤ j ∧ j < 3 * e + q then S A (j + 1) else if kk = B ∧ j = e then nI (c - 1) else S kk j
theorem mRm_0 {A B : Nat} {S : MS} {e k0 c : Nat} (hB : mIs B = true) : mRm A B S e k0 c k0 = mset S B e (nI (c - 1)) := by
  funext kk j
  unfold mRm mset
  rw [if_neg (by omega)]
  by_cases z : kk = B ∧ j = e
  · rw [if_pos z, if_pos ⟨z.1, Or.inl z.2⟩]
  · rw [if_neg z, if_neg (fun y => z ⟨y.1, y.2.elim id (fun w => by rw [hB] at w; cases w)⟩)]
theorem mRm_r {A B : Nat} {S : MS} {e k0 c q j : Nat} (hAB : A ≠ B) (h : 3 * e + q ≤ j) : mRm A B S e k0 c q A j = S A j := by
  unfold mRm
  rw [if_neg (by omega), if_neg (fun z => hAB z.1)]
theorem mRm_B {A B : Nat} {S : MS} {e k0 c q : Nat} (hAB : A ≠ B) : mRm A B S e k0 c q B e = nI (c - 1) := by
  unfold mRm
  rw [if_neg (fun z => hAB z.1.symm), if_pos ⟨rfl, rfl⟩]
theorem mRm_s {A B : Nat} {S : MS} {e k0 c q : Nat} (hA : mIs A = true) (hAB : A ≠ B) (h : k0 ≤ q) : mset (mRm A B S e k0 c q) A (3 * e + q) (S A (3 * e + q + 1)) = mRm A B S e k0 c (q + 1) := by
  funext kk j
  by_cases e2 : kk = A
  · subst e2
    rw [mset_if hA]
    unfold mRm
    by_cases ej : j = 3 * e + q
    · subst ej
      rw [if_pos rfl, if_pos ⟨rfl, by omega, by omega⟩]
    · rw [if_neg ej]
      by_cases z : kk = kk ∧ 3 * e + k0 ≤ j ∧ j < 3 * e + q
      · rw [if_pos z, if_pos ⟨rfl, z.2.1, by omega⟩]
      · rw [if_neg z, if_neg (show ¬ (kk = kk ∧ 3 * e + k0 ≤ j ∧ j < 3 * e + (q + 1)) from fun y => z ⟨rfl, y.2.1, by omega⟩)]
  · rw [mset_k e2]
    unfold mRm
    rw [if_neg (show ¬ (kk = A ∧ 3 * e + k0 ≤ j ∧ j < 3 * e + q) from fun z => e2 z.1), if_neg (show ¬ (kk = A ∧ 3 * e + k0 ≤ j ∧ j < 3 * e + (q + 1)) from fun z => e2 z.1)]
/-- it stands there, first at k0 -/
def mHas (A B : Nat) (S : MS) (e k0 c t : Nat) : Prop := k0 < c ∧ c ≤ 3 ∧ S B e = nI c ∧ S A (3 * e + k0) = nI t ∧ ∀ k, k < k0 → ¬ S A (3 * e + k) = nI t
set_option maxRecDepth 100000 in
set_option maxHeartbeats 4000000 in
/-- close: the others move up -/
theorem s137_mv {G : ix_G} {h0 : ix_H} {o : Nat} {S : MS} (M : md_ok h0 o) {e k0 c : Nat} (he : e < 2) (hk : k0 < c) (hc : c ≤ 3) :
    ∀ (z q : Nat), k0 ≤ q → q ≤ c - 1 → c - 1 - q < z → ∀ h, mR o h0 h (mRm 40 42 S e k0 c q) → ∀ (lv : List (Nat × Value)), lv.lookup 0 = some (.ref o) → lv.lookup 3 = some (.int (nI e)) → lv.lookup 5 = some (.int (nI q)) → ix_E G 137 51 lv [] h (fun rv h' => rv = none ∧ mR o h0 h' (mRm 40 42 S e k0 c (c - 1))) := by
  intro z
  induction z with
  | zero => intro q h1 h2 h3; omega
  | succ z ih =>
    intro q hq1 hq2 hz h r lv l0 l3 l5
    refine ie_iload d137_51 l5 ?_
    refine ie_aload_n d137_53 l0 ?_
    refine mx_getr r M d137_54 fl17_125 rfl ?_
    refine ie_iload_n d137_57 l3 ?_
    refine mx_iald (k := 42) (n := e) r M d137_58 rfl rfl rfl (by show e < 2; exact he) ?_
    rw [mRm_B (by decide)]
    refine ie_icmp_ge 92 d137_59 (by decide) (fun c59 => ?_) (fun c59 => ?_)
    · rw [nI_leI (by omega) (by omega)] at c59
      have hi2 : q = c - 1 := by omega
      subst hi2
      exact ie_vret d137_92 rfl ⟨rfl, r⟩
    · rw [nI_leI (by omega) (by omega)] at c59
      refine ie_aload_n d137_62 l0 ?_
      refine mx_getr r M d137_63 fl17_119 rfl ?_
      refine ie_iconst (nI 3) d137_66 (by decide) ?_
      refine ie_iload_n d137_67 l3 ?_
      refine ie_imul d137_68 ?_
      rw [pk_mul]
      refine ie_iload d137_69 l5 ?_
      refine ie_iadd d137_71 ?_
      rw [nI_add]
      refine ie_aload_n d137_72 l0 ?_
      refine mx_getr r M d137_73 fl17_119 rfl ?_
      refine ie_iconst (nI 3) d137_76 (by decide) ?_
      refine ie_iload_n d137_77 l3 ?_
      refine ie_imul d137_78 ?_
      rw [pk_mul]
      refine ie_iload d137_79 l5 ?_
      refine ie_iadd d137_81 ?_
      rw [nI_add]
      refine ie_iconst (nI 1) d137_82 (by decide) ?_
      refine ie_iadd d137_83 ?_
      rw [nI_add]
      refine mx_iald (k := 40) (n := (3 * e + q + 1)) r M d137_84 rfl rfl rfl (by show 3 * e + q + 1 < 6; omega) ?_
      rw [mRm_r (by decide) (by omega)]
      refine mx_iast (k := 40) (n := (3 * e + q)) r M d137_85 rfl rfl rfl (by show 3 * e + q < 6; omega) (fun hh r => ?_)
      refine ie_iinc (nI (q + 1)) d137_86 l5 (nI_1 _) (by decide) ?_
      refine ie_goto 51 d137_89 (by decide) ?_
      exact ih (q + 1) (by omega) (by omega) (by omega) hh (by rw [← mRm_s rfl (by decide) (by omega)]; exact r) _ (ix_lk3 (by decide) l0 rfl) (ix_lk3 (by decide) l3 rfl) ix_lk1
set_option maxRecDepth 100000 in
set_option maxHeartbeats 4000000 in
/-- close: where it stands -/
theorem s137_at {G : ix_G} {h0 h : ix_H} {o : Nat} {S : MS} (M : md_ok h0 o) (r : mR o h0 h S) {e k0 c t : Nat} (he : e < 2) (hH : mHas 40 42 S e k0 c t) :
    ∀ (z k : Nat), k ≤ k0 → k0 - k < z → ∀ (lv : List (Nat × Value)), lv.lookup 0 = some (.ref o) → lv.lookup 1 = some (.int (nI t)) → lv.lookup 3 = some (.int (nI e)) → lv.lookup 4 = some (.int (nI k)) → ix_E G 137 16 lv [] h (fun rv h' => rv = none ∧ mR o h0 h' (mRm 40 42 S e k0 c (c - 1))) := by
  obtain ⟨hk, hc3, hB, hat, hno⟩ := hH
  intro z
  induction z with
  | zero => intro k h1 h2; omega
  | succ z ih =>
    intro k hk1 hz lv l0 l1 l3 l4
    refine ie_aload_n d137_16 l0 ?_
    refine mx_getr r M d137_17 fl17_119 rfl ?_
    refine ie_iconst (nI 3) d137_20 (by decide) ?_
    refine ie_iload_n d137_21 l3 ?_
    refine ie_imul d137_22 ?_
    rw [pk_mul]
    refine ie_iload d137_23 l4 ?_
    refine ie_iadd d137_25 ?_
    rw [nI_add]
    refine mx_iald (k := 40) (n := (3 * e + k)) r M d137_26 rfl rfl rfl (by show 3 * e + k < 6; omega) ?_
    refine ie_iload_n d137_27 l1 ?_
    refine ie_icmp_eq 37 d137_28 (by decide) (fun c28 => ?_) (fun c28 => ?_)
    · skip
      have hk2 : k = k0 := by
        rcases Nat.lt_or_ge k k0 with w | w
        · exact absurd c28 (hno k w)
        · omega
      subst hk2
      refine ie_aload_n d137_37 l0 ?_
      refine mx_getr r M d137_38 fl17_125 rfl ?_
      refine ie_iload_n d137_41 l3 ?_
      refine ie_dup2 d137_42 rfl rfl ?_
      refine mx_iald (k := 42) (n := e) r M d137_43 rfl rfl rfl (by show e < 2; exact he) ?_
      rw [hB]
      refine ie_iconst (nI 1) d137_44 (by decide) ?_
      refine ie_isub d137_45 ?_
      rw [pk_sub (by omega)]
      refine mx_iast (k := 42) (n := e) r M d137_46 rfl rfl rfl (by show e < 2; exact he) (fun hh r => ?_)
      refine ie_iload d137_47 l4 ?_
      refine ie_istore d137_49 (by decide) ?_
      exact s137_mv M he hk hc3 (c - 1 - k + 1) k (by omega) (by omega) (by omega) hh (by rw [mRm_0 rfl]; exact r) _ (ix_lk3 (by decide) l0 rfl) (ix_lk3 (by decide) l3 rfl) ix_lk1
    · skip
      have hk2 : ¬ k = k0 := fun w => c28 (by rw [w]; exact hat)
      refine ie_iinc (nI (k + 1)) d137_31 l4 (nI_1 _) (by decide) ?_
      refine ie_goto 16 d137_34 (by decide) ?_
      exact ih (k + 1) (by omega) (by omega) _ (ix_lk3 (by decide) l0 rfl) (ix_lk3 (by decide) l1 rfl) (ix_lk3 (by decide) l3 rfl) ix_lk1
set_option maxRecDepth 100000 in
set_option maxHeartbeats 4000000 in
/-- close -/
theorem s137 {G : ix_G} {h : ix_H} {o : Nat} {S : MS} (M : md_ok h o) (hS : ms h o = S) {k0 c t : Nat} (ht : t < 640) (hH : mHas 40 42 S (t / 320) k0 c t) (x : Int32) : ix_E G 137 0 (lv_args 0 [.ref o, .int (nI t), .int x]) [] h (fun rv h' => rv = none ∧ mR o h h' (mRm 40 42 (mset S 13 t x) (t / 320) k0 c (c - 1))) := by
  have r : mR o h h S := mR.rf hS
  refine ie_aload_n d137_0 rfl ?_
  refine mx_getr r M d137_1 fl17_38 rfl ?_
  refine ie_iload_n d137_4 rfl ?_
  refine ie_iload_n d137_5 rfl ?_
  refine mx_iast (k := 13) (n := t) r M d137_6 rfl rfl rfl (by show t < 640; exact ht) (fun hh r => ?_)
  refine ie_iload_n d137_7 rfl ?_
  refine ie_sipush (nI 320) d137_8 (by decide) ?_
  refine ie_idiv d137_11 (by decide) ?_
  rw [pk_div (by omega) (by decide) (by decide)]
  refine ie_istore_n d137_12 (by decide) ?_
  refine ie_iconst (nI 0) d137_13 (by decide) ?_
  refine ie_istore d137_14 (by decide) ?_
  exact s137_at M r (by omega) hH (k0 + 1) 0 (by omega) (by omega) _ rfl rfl rfl rfl
def mSus (S : MS) (e n on : Int32) : Prop := 0 ≤ mKnown S e n ∧ S 13 (mKnown S e n).toNatClampNeg = 5 ∧ ¬ S 22 (mKnown S e n).toNatClampNeg = on
noncomputable def mSuspend (S : MS) (e n on : Int32) : MS := @ite _ (mSus S e n on) (Classical.propDecidable _) (mset (m0 S) 22 (mKnown S e n).toNatClampNeg on) (m0 S)
set_option maxRecDepth 100000 in
set_option maxHeartbeats 4000000 in
/-- suspend -/
theorem s128 {G : ix_G} {h : ix_H} {o : Nat} {S : MS} (M : md_ok h o) (hS : ms h o = S) (hN : mNum S) (e n : Int32) {on : Int32} (hon : on = 0 ∨ on = 1) : ix_E G 128 0 (lv_args 0 [.ref o, .int e, .int n, .int on]) [] h (fun rv h' => rv = some (.int (bP (mSus S e n on))) ∧ mR o h h' (mSuspend S e n on)) := by
  have r : mR o h h S := mR.rf hS
  refine ie_aload_n d128_0 rfl ?_
  refine ie_iconst (nI 0) d128_1 (by decide) ?_
  refine mx_puti r M d128_2 fl17_144 rfl rfl rfl (fun hh r => ?_)
  refine ie_aload_n d128_5 rfl ?_
  refine ie_iload_n d128_6 rfl ?_
  refine ie_iload_n d128_7 rfl ?_
  refine mx_ask r M [_, _] d128_8 ok127 rm128_127 cl17_174 rfl rfl (Nat.le_of_ble_eq_true rfl) (Nat.le_of_ble_eq_true rfl) (s127 (r.ok M) _ _) ?_
  rw [r.2.2, mKnown_m0]
  generalize hx : mKnown S e n = x
  refine ie_istore d128_11 (by decide) ?_
  refine ie_iload d128_13 rfl ?_
  refine ie_if_lt 40 d128_15 (by decide) (fun c15 => ?_) (fun c15 => ?_)
  · skip
    have K : ¬ mSus S e n on := by
      unfold mSus
      rw [hx]
      exact fun z => absurd c15 (Int32.not_lt.mpr z.1)
    refine ie_iconst (nI 0) d128_40 (by decide) ?_
    exact ie_iret d128_41 rfl (by first | rfl | decide | exact (ix_bz (bI_01 _)).1 | exact (ix_bz (by assumption)).1) (by rw [bP_f K]; refine ⟨rfl, ?_⟩; unfold mSuspend; rw [@if_neg _ (Classical.propDecidable _) K]; exact r)
  · skip
    have c14 : 0 ≤ mKnown S e n := by rw [hx]; exact Int32.not_lt.mp c15
    obtain ⟨e', n', c, he, h1, h2, h3, -, -, -, ht⟩ := mKnown_t hN c14
    rw [hx] at ht
    subst ht
    refine ie_aload_n d128_18 rfl ?_
    refine mx_getr r M d128_19 fl17_38 rfl ?_
    refine ie_iload d128_22 rfl ?_
    refine mx_iald (k := 13) (n := (320 * e' + n')) r M d128_24 rfl rfl rfl (by show 320 * e' + n' < 640; omega) ?_
    rw [mset_k (by decide)]
    refine ie_iconst (nI 5) d128_25 (by decide) ?_
    refine ie_icmp_ne 40 d128_26 (by decide) (fun c26 => ?_) (fun c26 => ?_)
    · skip
      have K : ¬ mSus S e n on := by
        unfold mSus
        rw [hx, cl2 (by omega)]
        exact fun z => c26 z.2.1
      refine ie_iconst (nI 0) d128_40 (by decide) ?_
      exact ie_iret d128_41 rfl (by first | rfl | decide | exact (ix_bz (bI_01 _)).1 | exact (ix_bz (by assumption)).1) (by rw [bP_f K]; refine ⟨rfl, ?_⟩; unfold mSuspend; rw [@if_neg _ (Classical.propDecidable _) K]; exact r)
    · skip
      refine ie_aload_n d128_29 rfl ?_
      refine mx_getr r M d128_30 fl17_65 rfl ?_
      refine ie_iload d128_33 rfl ?_
      refine mx_zald (k := 22) (n := (320 * e' + n')) r M d128_35 rfl rfl rfl (by show 320 * e' + n' < 640; omega) ?_
      rw [mset_k (by decide)]
      refine ie_iload_n d128_36 rfl ?_
      refine ie_icmp_ne 42 d128_37 (by decide) (fun c37 => ?_) (fun c37 => ?_)
      · skip
        have K : mSus S e n on := by
          unfold mSus
          rw [hx, cl2 (by omega)]
          exact ⟨nI_pos' (by omega), c26, c37⟩
        refine ie_aload_n d128_42 rfl ?_
        refine mx_getr r M d128_43 fl17_65 rfl ?_
        refine ie_iload d128_46 rfl ?_
        refine ie_iload_n d128_48 rfl ?_
        refine mx_zast (k := 22) (n := (320 * e' + n')) r M d128_49 rfl rfl (by first | exact Or.inl rfl | exact Or.inr rfl | assumption | exact bI_01 _) rfl (by show 320 * e' + n' < 640; omega) (fun hh r => ?_)
        refine ie_iconst (nI 1) d128_50 (by decide) ?_
        exact ie_iret d128_51 rfl (by decide) (by rw [bP_t K]; refine ⟨rfl, ?_⟩; unfold mSuspend; rw [@if_pos _ (Classical.propDecidable _) K, hx, cl2 (by omega)]; exact r)
      · skip
        have K : ¬ mSus S e n on := by
          unfold mSus
          rw [hx, cl2 (by omega)]
          exact fun z => z.2.2 c37
        refine ie_iconst (nI 0) d128_40 (by decide) ?_
        exact ie_iret d128_41 rfl (by first | rfl | decide | exact (ix_bz (bI_01 _)).1 | exact (ix_bz (by assumption)).1) (by rw [bP_f K]; refine ⟨rfl, ?_⟩; unfold mSuspend; rw [@if_neg _ (Classical.propDecidable _) K]; exact r)
