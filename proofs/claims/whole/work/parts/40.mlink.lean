theorem nI_ij {a b : Nat} (ha : a < 2 ^ 31) (hb : b < 2 ^ 31) (h : nI a = nI b) : a = b := by
  have e : (nI a).toInt = (nI b).toInt := by rw [h]
  rw [nI_toInt ha, nI_toInt hb] at e
  omega
theorem fl_y {k u : Nat} (hk : k < u) (hu : u ≤ 24) : 0 ≤ nI k ∧ nI k < nI u :=
  ⟨(nI_leI (a := 0) (by decide) (by omega)).mpr (by omega), (nI_ltI (by omega) (by omega)).mpr hk⟩
theorem fl_x {k : Int32} {u : Nat} (hu : u ≤ 24) (c : 0 ≤ k ∧ k < nI u) : ∃ k', k' < u ∧ k = nI k' := by
  obtain ⟨k', hk, rfl⟩ := vp_in_of (n := u) (x := k) (by rw [vp_in_iff]; have e1 := Int32.le_iff_toInt_le.mp c.1; have e2 := Int32.lt_iff_toInt_lt.mp c.2; rw [nI_toInt (by omega)] at e2; exact ⟨by simpa using e1, e2⟩) (by omega)
  exact ⟨k', hk, rfl⟩
def mCp (S : MS) (u k n : Nat) : MS := fun f j => if f = 45 ∧ 11 * u ≤ j ∧ j < 11 * u + n then S 45 (11 * k + (j - 11 * u)) else S f j
theorem mCp_0 {S : MS} {u k : Nat} : mCp S u k 0 = S := by
  funext f j
  unfold mCp
  rw [if_neg (by omega)]
theorem mCp_o {S : MS} {u k n f j : Nat} (h : f ≠ 45) : mCp S u k n f j = S f j := by
  unfold mCp
  rw [if_neg (fun z => h z.1)]
theorem mCp_r {S : MS} {u k i : Nat} (hk : k < u) (hi : i < 11) : mCp S u k i 45 (11 * k + i) = S 45 (11 * k + i) := by
  unfold mCp
  rw [if_neg (by omega)]
theorem mCp_s {S : MS} {u k i : Nat} : mset (mCp S u k i) 45 (11 * u + i) (S 45 (11 * k + i)) = mCp S u k (i + 1) := by
  funext f j
  by_cases e : f = 45
  · subst e
    rw [mset_if rfl]
    unfold mCp
    by_cases q : j = 11 * u + i
    · subst q
      rw [if_pos rfl, if_pos ⟨rfl, by omega, by omega⟩, Nat.add_sub_cancel_left]
    · rw [if_neg q]
      by_cases w : 11 * u ≤ j ∧ j < 11 * u + i
      · rw [if_pos ⟨rfl, w⟩, if_pos ⟨rfl, w.1, by omega⟩]
      · rw [if_neg (fun z => w z.2), if_neg (fun z => w ⟨z.2.1, by omega⟩)]
  · rw [mset_k e, mCp_o e, mCp_o e]
def mCopy (S : MS) (u k : Nat) : MS := mset (mCp S u k 11) 44 0 (nI (u + 1))
set_option maxRecDepth 100000 in
set_option maxHeartbeats 4000000 in
/-- copy: nothing -/
theorem s158n {G : ix_G} {h : ix_H} {o : Nat} {S : MS} (M : md_ok h o) (hS : ms h o = S) {u : Nat} (hu : S 44 0 = nI u) (hu24 : u ≤ 24) (k : Int32) (hk : ¬ ((0 ≤ k ∧ k < nI u) ∧ ¬ u = 24)) : ix_E G 158 0 (lv_args 0 [.ref o, .int k]) [] h (fun rv h' => rv = some (.int 0) ∧ mR o h h' (m0 S)) := by
  have r : mR o h h S := mR.rf hS
  refine ie_aload_n d158_0 rfl ?_
  refine ie_iconst (nI 0) d158_1 (by decide) ?_
  refine mx_puti r M d158_2 fl17_144 rfl rfl rfl (fun hh r => ?_)
  refine ie_aload_n d158_5 rfl ?_
  refine ie_iload_n d158_6 rfl ?_
  refine mx_ask r M [_] d158_7 ok148 rm158_148 cl17_249 rfl rfl (Nat.le_of_ble_eq_true rfl) (Nat.le_of_ble_eq_true rfl) (s148 (r.ok M) _) ?_
  rw [r.2.2, mset_k (by decide), hu]
  refine ie_if_eq 22 d158_10 (by decide) (fun c10 => ?_) (fun c10 => ?_)
  · skip
    refine ie_iconst (nI 0) d158_22 (by decide) ?_
    exact ie_iret d158_23 rfl (by first | rfl | decide | exact (ix_bz (bI_01 _)).1 | exact (ix_bz (by assumption)).1) ⟨rfl, r⟩
  · skip
    refine ie_aload_n d158_13 rfl ?_
    refine mx_geti r M d158_14 fl17_171 rfl ?_
    rw [mset_k (by decide)]
    rw [hu]
    refine ie_bipush (nI 24) d158_17 (by decide) ?_
    refine ie_icmp_ne 24 d158_19 (by decide) (fun c19 => ?_) (fun c19 => ?_)
    · skip
      exact absurd ⟨by rw [bI_0, Classical.not_not] at c10; exact c10, fun q => c19 (by rw [q])⟩ hk
    · skip
      refine ie_iconst (nI 0) d158_22 (by decide) ?_
      exact ie_iret d158_23 rfl (by first | rfl | decide | exact (ix_bz (bI_01 _)).1 | exact (ix_bz (by assumption)).1) ⟨rfl, r⟩
set_option maxRecDepth 100000 in
set_option maxHeartbeats 4000000 in
/-- copy: its loop -/
theorem s158_l {G : ix_G} {h0 : ix_H} {o : Nat} {S : MS} (M : md_ok h0 o) {u k : Nat} (hu : S 44 0 = nI u) (hu24 : u < 24) (hk : k < u) :
    ∀ (z i : Nat), i ≤ 11 → 11 - i < z → ∀ h, mR o h0 h (mCp S u k i) → ∀ (lv : List (Nat × Value)), lv.lookup 0 = some (.ref o) → lv.lookup 1 = some (.int (nI k)) → lv.lookup 2 = some (.int (nI i)) → ix_E G 158 26 lv [] h (fun rv h' => rv = some (.int 1) ∧ mR o h0 h' (mCopy S u k)) := by
  intro z
  induction z with
  | zero => intro i h1 h2; omega
  | succ z ih =>
    intro i hi hz h r lv l0 l1 l2
    refine ie_iload_n d158_26 l2 ?_
    refine ie_bipush (nI 11) d158_27 (by decide) ?_
    refine ie_icmp_ge 63 d158_29 (by decide) (fun c29 => ?_) (fun c29 => ?_)
    · skip
      rw [nI_leI (by omega) (by omega)] at c29
      have hi2 : i = 11 := by omega
      subst hi2
      refine ie_aload_n d158_63 l0 ?_
      refine ie_dup d158_64 rfl ?_
      refine mx_geti r M d158_65 fl17_171 rfl ?_
      rw [mCp_o (by decide), hu]
      refine ie_iconst (nI 1) d158_68 (by decide) ?_
      refine ie_iadd d158_69 ?_
      rw [nI_add]
      refine mx_puti r M d158_70 fl17_171 rfl rfl rfl (fun hh r => ?_)
      refine ie_iconst (nI 1) d158_73 (by decide) ?_
      exact ie_iret d158_74 rfl (by first | rfl | decide | exact (ix_bz (bI_01 _)).1 | exact (ix_bz (by assumption)).1) ⟨rfl, r⟩
    · skip
      rw [nI_leI (by omega) (by omega)] at c29
      refine ie_aload_n d158_32 l0 ?_
      refine mx_getr r M d158_33 fl17_131 rfl ?_
      refine ie_bipush (nI 11) d158_36 (by decide) ?_
      refine ie_aload_n d158_38 l0 ?_
      refine mx_geti r M d158_39 fl17_171 rfl ?_
      rw [mCp_o (by decide), hu]
      refine ie_imul d158_42 ?_
      rw [pk_mul]
      refine ie_iload_n d158_43 l2 ?_
      refine ie_iadd d158_44 ?_
      rw [nI_add]
      refine ie_aload_n d158_45 l0 ?_
      refine mx_getr r M d158_46 fl17_131 rfl ?_
      refine ie_bipush (nI 11) d158_49 (by decide) ?_
      refine ie_iload_n d158_51 l1 ?_
      refine ie_imul d158_52 ?_
      rw [pk_mul]
      refine ie_iload_n d158_53 l2 ?_
      refine ie_iadd d158_54 ?_
      rw [nI_add]
      refine mx_iald (k := 45) (n := (11 * k + i)) r M d158_55 rfl rfl rfl (by show 11 * k + i < 264; omega) ?_
      rw [mCp_r hk (by omega)]
      refine mx_iast (k := 45) (n := (11 * u + i)) r M d158_56 rfl rfl rfl (by show 11 * u + i < 264; omega) (fun hh r => ?_)
      refine ie_iinc (nI (i + 1)) d158_57 l2 (nI_1 _) (by decide) ?_
      refine ie_goto 26 d158_60 (by decide) ?_
      exact ih (i + 1) (by omega) (by omega) hh (by rw [← mCp_s]; exact r) _ (ix_lk3 (by decide) l0 rfl) (ix_lk3 (by decide) l1 rfl) ix_lk1
set_option maxRecDepth 100000 in
set_option maxHeartbeats 4000000 in
/-- copy -/
theorem s158y {G : ix_G} {h : ix_H} {o : Nat} {S : MS} (M : md_ok h o) (hS : ms h o = S) {u : Nat} (hu : S 44 0 = nI u) (hu24 : u ≤ 24) {k : Nat} (hk : k < u) (hun : ¬ u = 24) : ix_E G 158 0 (lv_args 0 [.ref o, .int (nI k)]) [] h (fun rv h' => rv = some (.int 1) ∧ mR o h h' (mCopy (m0 S) u k)) := by
  have r : mR o h h S := mR.rf hS
  refine ie_aload_n d158_0 rfl ?_
  refine ie_iconst (nI 0) d158_1 (by decide) ?_
  refine mx_puti r M d158_2 fl17_144 rfl rfl rfl (fun hh r => ?_)
  refine ie_aload_n d158_5 rfl ?_
  refine ie_iload_n d158_6 rfl ?_
  refine mx_ask r M [_] d158_7 ok148 rm158_148 cl17_249 rfl rfl (Nat.le_of_ble_eq_true rfl) (Nat.le_of_ble_eq_true rfl) (s148 (r.ok M) _) ?_
  rw [r.2.2, mset_k (by decide), hu]
  refine ie_if_eq 22 d158_10 (by decide) (fun c10 => ?_) (fun c10 => ?_)
  · skip
    exact absurd (fl_y hk hu24) ((bI_0).mp c10)
  · skip
    refine ie_aload_n d158_13 rfl ?_
    refine mx_geti r M d158_14 fl17_171 rfl ?_
    rw [mset_k (by decide)]
    rw [hu]
    refine ie_bipush (nI 24) d158_17 (by decide) ?_
    refine ie_icmp_ne 24 d158_19 (by decide) (fun c19 => ?_) (fun c19 => ?_)
    · skip
      refine ie_iconst (nI 0) d158_24 (by decide) ?_
      refine ie_istore_n d158_25 (by decide) ?_
      exact s158_l M (by show mset S 3 0 (nI 0) 44 0 = nI u; rw [mset_k (by decide)]; exact hu) (by omega) hk 12 0 (by omega) (by omega) hh (by rw [mCp_0]; exact r) _ rfl rfl rfl
    · skip
      exact absurd (nI_ij (by omega) (by omega) c19) hun
set_option maxRecDepth 100000 in
set_option maxHeartbeats 4000000 in
/-- unit: nothing -/
theorem s161n {G : ix_G} {h : ix_H} {o : Nat} {S : MS} (M : md_ok h o) (hS : ms h o = S) {u : Nat} (hu : S 44 0 = nI u) (hu24 : u ≤ 24) (k w : Int32) (hk : ¬ ((0 ≤ k ∧ k < nI u) ∧ 0 ≤ w ∧ w ≤ 3)) : ix_E G 161 0 (lv_args 0 [.ref o, .int k, .int w]) [] h (fun rv h' => rv = some (.int (-1)) ∧ mR o h h' (m0 S)) := by
  have r : mR o h h S := mR.rf hS
  refine ie_aload_n d161_0 rfl ?_
  refine ie_iconst (nI 0) d161_1 (by decide) ?_
  refine mx_puti r M d161_2 fl17_144 rfl rfl rfl (fun hh r => ?_)
  refine ie_aload_n d161_5 rfl ?_
  refine ie_iload_n d161_6 rfl ?_
  refine mx_ask r M [_] d161_7 ok148 rm161_148 cl17_249 rfl rfl (Nat.le_of_ble_eq_true rfl) (Nat.le_of_ble_eq_true rfl) (s148 (r.ok M) _) ?_
  rw [r.2.2, mset_k (by decide), hu]
  refine ie_if_eq 22 d161_10 (by decide) (fun c10 => ?_) (fun c10 => ?_)
  · skip
    refine ie_iconst (-1) d161_22 (by decide) ?_
    exact ie_iret d161_23 rfl (by first | rfl | decide | exact (ix_bz (bI_01 _)).1 | exact (ix_bz (by assumption)).1) ⟨rfl, r⟩
  · skip
    refine ie_iload_n d161_13 rfl ?_
    refine ie_iconst (nI 0) d161_14 (by decide) ?_
    refine ie_iconst (nI 3) d161_15 (by decide) ?_
    refine ie_callSx [_, _, _] d161_16 ok118 rm161_118 cl17_147 rfl rfl (Nat.le_of_ble_eq_true rfl) (Nat.le_of_ble_eq_true rfl) (s118 _ _ _) ?_
    refine ie_if_ne 24 d161_19 (by decide) (fun c19 => ?_) (fun c19 => ?_)
    · skip
      exact absurd ⟨by rw [bI_0, Classical.not_not] at c10; exact c10, by rw [bI_0, Classical.not_not] at c19; exact c19⟩ hk
    · skip
      refine ie_iconst (-1) d161_22 (by decide) ?_
      exact ie_iret d161_23 rfl (by first | rfl | decide | exact (ix_bz (bI_01 _)).1 | exact (ix_bz (by assumption)).1) ⟨rfl, r⟩
def mUnit (S : MS) (k w : Nat) : Int32 := if w < 2 then S 45 (11 * k + w) else if w = 2 then S 45 (11 * k + 2) - S 45 (11 * k + 2) / nI 320 * nI 320 else if S 45 (11 * k) = nI 6 then S 45 (11 * k + 4) + nI 8 * S 45 (11 * k + 3) else S 45 (11 * k + 3)
set_option maxRecDepth 100000 in
set_option maxHeartbeats 4000000 in
/-- unit -/
theorem s161y {G : ix_G} {h : ix_H} {o : Nat} {S : MS} (M : md_ok h o) (hS : ms h o = S) {u : Nat} (hu : S 44 0 = nI u) (hu24 : u ≤ 24) {k w : Nat} (hk : k < u) (hw : w < 4) : ix_E G 161 0 (lv_args 0 [.ref o, .int (nI k), .int (nI w)]) [] h (fun rv h' => rv = some (.int (mUnit S k w)) ∧ mR o h h' (m0 S)) := by
  have r : mR o h h S := mR.rf hS
  unfold mUnit
  refine ie_aload_n d161_0 rfl ?_
  refine ie_iconst (nI 0) d161_1 (by decide) ?_
  refine mx_puti r M d161_2 fl17_144 rfl rfl rfl (fun hh r => ?_)
  refine ie_aload_n d161_5 rfl ?_
  refine ie_iload_n d161_6 rfl ?_
  refine mx_ask r M [_] d161_7 ok148 rm161_148 cl17_249 rfl rfl (Nat.le_of_ble_eq_true rfl) (Nat.le_of_ble_eq_true rfl) (s148 (r.ok M) _) ?_
  rw [r.2.2, mset_k (by decide), hu]
  refine ie_if_eq 22 d161_10 (by decide) (fun c10 => ?_) (fun c10 => ?_)
  · skip
    exact absurd (fl_y hk hu24) ((bI_0).mp c10)
  · skip
    refine ie_iload_n d161_13 rfl ?_
    refine ie_iconst (nI 0) d161_14 (by decide) ?_
    refine ie_iconst (nI 3) d161_15 (by decide) ?_
    refine ie_callSx [_, _, _] d161_16 ok118 rm161_118 cl17_147 rfl rfl (Nat.le_of_ble_eq_true rfl) (Nat.le_of_ble_eq_true rfl) (s118 _ _ _) ?_
    refine ie_if_ne 24 d161_19 (by decide) (fun c19 => ?_) (fun c19 => ?_)
    · skip
      refine ie_bipush (nI 11) d161_24 (by decide) ?_
      refine ie_iload_n d161_26 rfl ?_
      refine ie_imul d161_27 ?_
      rw [pk_mul]
      refine ie_istore_n d161_28 (by decide) ?_
      refine ie_iload_n d161_29 rfl ?_
      refine ie_iconst (nI 2) d161_30 (by decide) ?_
      refine ie_icmp_ge 43 d161_31 (by decide) (fun c31 => ?_) (fun c31 => ?_)
      · skip
        rw [nI_leI (by omega) (by omega)] at c31
        rw [if_neg (by omega)]
        refine ie_iload_n d161_43 rfl ?_
        refine ie_iconst (nI 2) d161_44 (by decide) ?_
        refine ie_icmp_ne 61 d161_45 (by decide) (fun c45 => ?_) (fun c45 => ?_)
        · skip
          rw [if_neg (fun q => c45 (by rw [q]))]
          refine ie_aload_n d161_61 rfl ?_
          refine mx_getr r M d161_62 fl17_131 rfl ?_
          refine ie_iload_n d161_65 rfl ?_
          refine mx_iald (k := 45) (n := (11 * k)) r M d161_66 rfl rfl rfl (by show 11 * k < 264; omega) ?_
          rw [mset_k (by decide)]
          refine ie_bipush (nI 6) d161_67 (by decide) ?_
          refine ie_icmp_ne 95 d161_69 (by decide) (fun c69 => ?_) (fun c69 => ?_)
          · skip
            rw [if_neg c69]
            refine ie_aload_n d161_95 rfl ?_
            refine mx_getr r M d161_96 fl17_131 rfl ?_
            refine ie_iload_n d161_99 rfl ?_
            refine ie_iconst (nI 3) d161_100 (by decide) ?_
            refine ie_iadd d161_101 ?_
            rw [nI_add]
            refine mx_iald (k := 45) (n := (11 * k + 3)) r M d161_102 rfl rfl rfl (by show 11 * k + 3 < 264; omega) ?_
            rw [mset_k (by decide)]
            exact ie_iret d161_103 rfl (by first | rfl | decide | exact (ix_bz (bI_01 _)).1 | exact (ix_bz (by assumption)).1) ⟨rfl, r⟩
          · skip
            rw [if_pos c69]
            refine ie_aload_n d161_72 rfl ?_
            refine mx_getr r M d161_73 fl17_131 rfl ?_
            refine ie_iload_n d161_76 rfl ?_
            refine ie_iconst (nI 4) d161_77 (by decide) ?_
            refine ie_iadd d161_78 ?_
            rw [nI_add]
            refine mx_iald (k := 45) (n := (11 * k + 4)) r M d161_79 rfl rfl rfl (by show 11 * k + 4 < 264; omega) ?_
            rw [mset_k (by decide)]
            refine ie_bipush (nI 8) d161_80 (by decide) ?_
            refine ie_aload_n d161_82 rfl ?_
            refine mx_getr r M d161_83 fl17_131 rfl ?_
            refine ie_iload_n d161_86 rfl ?_
            refine ie_iconst (nI 3) d161_87 (by decide) ?_
            refine ie_iadd d161_88 ?_
            rw [nI_add]
            refine mx_iald (k := 45) (n := (11 * k + 3)) r M d161_89 rfl rfl rfl (by show 11 * k + 3 < 264; omega) ?_
            rw [mset_k (by decide)]
            refine ie_imul d161_90 ?_
            refine ie_iadd d161_91 ?_
            refine ie_goto 103 d161_92 (by decide) ?_
            exact ie_iret d161_103 rfl (by first | rfl | decide | exact (ix_bz (bI_01 _)).1 | exact (ix_bz (by assumption)).1) ⟨rfl, r⟩
        · skip
          rw [if_pos (nI_ij (by omega) (by omega) c45)]
          refine ie_aload_n d161_48 rfl ?_
          refine mx_getr r M d161_49 fl17_131 rfl ?_
          refine ie_iload_n d161_52 rfl ?_
          refine ie_iconst (nI 2) d161_53 (by decide) ?_
          refine ie_iadd d161_54 ?_
          rw [nI_add]
          refine mx_iald (k := 45) (n := (11 * k + 2)) r M d161_55 rfl rfl rfl (by show 11 * k + 2 < 264; omega) ?_
          rw [mset_k (by decide)]
          refine ie_sipush (nI 320) d161_56 (by decide) ?_
          refine ie_irem d161_59 (by decide) ?_
          exact ie_iret d161_60 rfl (by first | rfl | decide | exact (ix_bz (bI_01 _)).1 | exact (ix_bz (by assumption)).1) ⟨rfl, r⟩
      · skip
        rw [nI_leI (by omega) (by omega)] at c31
        rw [if_pos (by omega)]
        refine ie_aload_n d161_34 rfl ?_
        refine mx_getr r M d161_35 fl17_131 rfl ?_
        refine ie_iload_n d161_38 rfl ?_
        refine ie_iload_n d161_39 rfl ?_
        refine ie_iadd d161_40 ?_
        rw [nI_add]
        refine mx_iald (k := 45) (n := (11 * k + w)) r M d161_41 rfl rfl rfl (by show 11 * k + w < 264; omega) ?_
        rw [mset_k (by decide)]
        exact ie_iret d161_42 rfl (by first | rfl | decide | exact (ix_bz (bI_01 _)).1 | exact (ix_bz (by assumption)).1) ⟨rfl, r⟩
    · skip
      exact absurd ⟨(nI_leI (a := 0) (by decide) (by omega)).mpr (by omega), (nI_leI (b := 3) (by omega) (by decide)).mpr (by omega)⟩ ((bI_0).mp c19)
set_option maxRecDepth 100000 in
set_option maxHeartbeats 4000000 in
/-- spoil: nothing -/
theorem s159n {G : ix_G} {h : ix_H} {o : Nat} {S : MS} (M : md_ok h o) (hS : ms h o = S) {u : Nat} (hu : S 44 0 = nI u) (hu24 : u ≤ 24) (k b : Int32) (hk : ¬ ((0 ≤ k ∧ k < nI u) ∧ S 45 (11 * k.toNatClampNeg) = nI 2)) : ix_E G 159 0 (lv_args 0 [.ref o, .int k, .int b]) [] h (fun rv h' => rv = some (.int 0) ∧ mR o h h' (m0 S)) := by
  have r : mR o h h S := mR.rf hS
  refine ie_aload_n d159_0 rfl ?_
  refine ie_iconst (nI 0) d159_1 (by decide) ?_
  refine mx_puti r M d159_2 fl17_144 rfl rfl rfl (fun hh r => ?_)
  refine ie_aload_n d159_5 rfl ?_
  refine ie_iload_n d159_6 rfl ?_
  refine mx_ask r M [_] d159_7 ok148 rm159_148 cl17_249 rfl rfl (Nat.le_of_ble_eq_true rfl) (Nat.le_of_ble_eq_true rfl) (s148 (r.ok M) _) ?_
  rw [r.2.2, mset_k (by decide), hu]
  refine ie_if_eq 26 d159_10 (by decide) (fun c10 => ?_) (fun c10 => ?_)
  · skip
    refine ie_iconst (nI 0) d159_26 (by decide) ?_
    exact ie_iret d159_27 rfl (by first | rfl | decide | exact (ix_bz (bI_01 _)).1 | exact (ix_bz (by assumption)).1) ⟨rfl, r⟩
  · skip
    rw [bI_0, Classical.not_not] at c10
    obtain ⟨k', hk', rfl⟩ := fl_x hu24 c10
    refine ie_aload_n d159_13 rfl ?_
    refine mx_getr r M d159_14 fl17_131 rfl ?_
    refine ie_bipush (nI 11) d159_17 (by decide) ?_
    refine ie_iload_n d159_19 rfl ?_
    refine ie_imul d159_20 ?_
    rw [pk_mul]
    refine mx_iald (k := 45) (n := (11 * k')) r M d159_21 rfl rfl rfl (by show 11 * k' < 264; omega) ?_
    rw [mset_k (by decide)]
    refine ie_iconst (nI 2) d159_22 (by decide) ?_
    refine ie_icmp_eq 28 d159_23 (by decide) (fun c23 => ?_) (fun c23 => ?_)
    · skip
      exact absurd ⟨c10, by rw [cl2 (by omega)]; exact c23⟩ hk
    · skip
      refine ie_iconst (nI 0) d159_26 (by decide) ?_
      exact ie_iret d159_27 rfl (by first | rfl | decide | exact (ix_bz (bI_01 _)).1 | exact (ix_bz (by assumption)).1) ⟨rfl, r⟩
/-- the first n bytes of a DATA unit's word are spoilt -/
def mSpl (x b : Int32) : Nat → Int32
  | 0 => x
  | i + 1 => mSpl x b i ^^^ (((b >>> (nI (8 * i) &&& 31)) &&& nI 255) <<< (nI (24 - 8 * i) &&& 31))
def mSpoil (S : MS) (k n : Nat) (b : Int32) : MS := mset S 45 (11 * k + 5) (mSpl (S 45 (11 * k + 5)) b n)
set_option maxRecDepth 100000 in
set_option maxHeartbeats 4000000 in
/-- spoil: its loop -/
theorem s159_l {G : ix_G} {h0 : ix_H} {o : Nat} {S : MS} (M : md_ok h0 o) {k n : Nat} {b x : Int32} (hk : k < 24) (hn : n ≤ 4) :
    ∀ (z i : Nat), i ≤ n → n - i < z → ∀ h, mR o h0 h (mset S 45 (11 * k + 5) (mSpl x b i)) → ∀ (lv : List (Nat × Value)), lv.lookup 0 = some (.ref o) → lv.lookup 1 = some (.int (nI k)) → lv.lookup 2 = some (.int b) → lv.lookup 3 = some (.int (nI n)) → lv.lookup 4 = some (.int (nI i)) → ix_E G 159 43 lv [] h (fun rv h' => rv = some (.int 1) ∧ mR o h0 h' (mset S 45 (11 * k + 5) (mSpl x b n))) := by
  intro z
  induction z with
  | zero => intro i h1 h2; omega
  | succ z ih =>
    intro i hi hz h r lv l0 l1 l2 l3 l4
    refine ie_iload d159_43 l4 ?_
    refine ie_iload_n d159_45 l3 ?_
    refine ie_icmp_ge 98 d159_46 (by decide) (fun c46 => ?_) (fun c46 => ?_)
    · skip
      rw [nI_leI (by omega) (by omega)] at c46
      have hi2 : i = n := by omega
      subst hi2
      refine ie_iconst (nI 1) d159_98 (by decide) ?_
      exact ie_iret d159_99 rfl (by first | rfl | decide | exact (ix_bz (bI_01 _)).1 | exact (ix_bz (by assumption)).1) ⟨rfl, r⟩
    · skip
      rw [nI_leI (by omega) (by omega)] at c46
      refine ie_aload_n d159_49 l0 ?_
      refine mx_getr r M d159_50 fl17_131 rfl ?_
      refine ie_bipush (nI 11) d159_53 (by decide) ?_
      refine ie_iload_n d159_55 l1 ?_
      refine ie_imul d159_56 ?_
      rw [pk_mul]
      refine ie_iconst (nI 5) d159_57 (by decide) ?_
      refine ie_iadd d159_58 ?_
      rw [nI_add]
      refine ie_aload_n d159_59 l0 ?_
      refine mx_getr r M d159_60 fl17_131 rfl ?_
      refine ie_bipush (nI 11) d159_63 (by decide) ?_
      refine ie_iload_n d159_65 l1 ?_
      refine ie_imul d159_66 ?_
      rw [pk_mul]
      refine ie_iconst (nI 5) d159_67 (by decide) ?_
      refine ie_iadd d159_68 ?_
      rw [nI_add]
      refine mx_iald (k := 45) (n := (11 * k + 5)) r M d159_69 rfl rfl rfl (by show 11 * k + 5 < 264; omega) ?_
      rw [mset_s]
      refine ie_iload_n d159_70 l2 ?_
      refine ie_bipush (nI 8) d159_71 (by decide) ?_
      refine ie_iload d159_73 l4 ?_
      refine ie_imul d159_75 ?_
      rw [pk_mul]
      refine ie_ishr d159_76 ?_
      refine ie_sipush (nI 255) d159_77 (by decide) ?_
      refine ie_iand d159_80 ?_
      refine ie_bipush (nI 24) d159_81 (by decide) ?_
      refine ie_bipush (nI 8) d159_83 (by decide) ?_
      refine ie_iload d159_85 l4 ?_
      refine ie_imul d159_87 ?_
      rw [pk_mul]
      refine ie_isub d159_88 ?_
      rw [pk_sub (by omega)]
      refine ie_ishl d159_89 ?_
      refine ie_ixor d159_90 ?_
      refine mx_iast (k := 45) (n := (11 * k + 5)) r M d159_91 rfl rfl rfl (by show 11 * k + 5 < 264; omega) (fun hh r => ?_)
      refine ie_iinc (nI (i + 1)) d159_92 l4 (nI_1 _) (by decide) ?_
      refine ie_goto 43 d159_95 (by decide) ?_
      exact ih (i + 1) (by omega) (by omega) hh (by rw [mset_mset] at r; exact r) _ (ix_lk3 (by decide) l0 rfl) (ix_lk3 (by decide) l1 rfl) (ix_lk3 (by decide) l2 rfl) (ix_lk3 (by decide) l3 rfl) ix_lk1
set_option maxRecDepth 100000 in
set_option maxHeartbeats 4000000 in
/-- spoil -/
theorem s159y {G : ix_G} {h : ix_H} {o : Nat} {S : MS} (M : md_ok h o) (hS : ms h o = S) {u : Nat} (hu : S 44 0 = nI u) (hu24 : u ≤ 24) {k n : Nat} (b : Int32) (hk : k < u) (hD : S 45 (11 * k) = nI 2) (hn : S 45 (11 * k + 4) = nI n) (hn4 : n ≤ 4) : ix_E G 159 0 (lv_args 0 [.ref o, .int (nI k), .int b]) [] h (fun rv h' => rv = some (.int 1) ∧ mR o h h' (mSpoil (m0 S) k n b)) := by
  have r : mR o h h S := mR.rf hS
  refine ie_aload_n d159_0 rfl ?_
  refine ie_iconst (nI 0) d159_1 (by decide) ?_
  refine mx_puti r M d159_2 fl17_144 rfl rfl rfl (fun hh r => ?_)
  refine ie_aload_n d159_5 rfl ?_
  refine ie_iload_n d159_6 rfl ?_
  refine mx_ask r M [_] d159_7 ok148 rm159_148 cl17_249 rfl rfl (Nat.le_of_ble_eq_true rfl) (Nat.le_of_ble_eq_true rfl) (s148 (r.ok M) _) ?_
  rw [r.2.2, mset_k (by decide), hu]
  refine ie_if_eq 26 d159_10 (by decide) (fun c10 => ?_) (fun c10 => ?_)
  · skip
    exact absurd (fl_y hk hu24) ((bI_0).mp c10)
  · skip
    refine ie_aload_n d159_13 rfl ?_
    refine mx_getr r M d159_14 fl17_131 rfl ?_
    refine ie_bipush (nI 11) d159_17 (by decide) ?_
    refine ie_iload_n d159_19 rfl ?_
    refine ie_imul d159_20 ?_
    rw [pk_mul]
    refine mx_iald (k := 45) (n := (11 * k)) r M d159_21 rfl rfl rfl (by show 11 * k < 264; omega) ?_
    rw [mset_k (by decide)]
    refine ie_iconst (nI 2) d159_22 (by decide) ?_
    refine ie_icmp_eq 28 d159_23 (by decide) (fun c23 => ?_) (fun c23 => ?_)
    · skip
      refine ie_aload_n d159_28 rfl ?_
      refine mx_getr r M d159_29 fl17_131 rfl ?_
      refine ie_bipush (nI 11) d159_32 (by decide) ?_
      refine ie_iload_n d159_34 rfl ?_
      refine ie_imul d159_35 ?_
      rw [pk_mul]
      refine ie_iconst (nI 4) d159_36 (by decide) ?_
      refine ie_iadd d159_37 ?_
      rw [nI_add]
      refine mx_iald (k := 45) (n := (11 * k + 4)) r M d159_38 rfl rfl rfl (by show 11 * k + 4 < 264; omega) ?_
      rw [mset_k (by decide)]
      rw [hn]
      refine ie_istore_n d159_39 (by decide) ?_
      refine ie_iconst (nI 0) d159_40 (by decide) ?_
      refine ie_istore d159_41 (by decide) ?_
      exact s159_l M (by omega) hn4 (n + 1) 0 (by omega) (by omega) hh (by rw [show mSpl (m0 S 45 (11 * k + 5)) b 0 = m0 S 45 (11 * k + 5) from rfl, mset_self rfl]; exact r) _ rfl rfl rfl rfl rfl
    · skip
      exact absurd hD c23
