
set_option maxRecDepth 100000 in
set_option maxHeartbeats 4000000 in
/-- units -/
theorem s160 {G : ix_G} {h : ix_H} {o : Nat} {S : MS} (M : md_ok h o) (hS : ms h o = S)  : ix_E G 160 0 (lv_args 0 [.ref o]) [] h (fun rv h' => rv = some (.int (S 44 0)) ∧ mR o h h' (m0 S)) := by
  have r : mR o h h S := mR.rf hS
  refine ie_aload_n d160_0 rfl ?_
  refine ie_iconst (nI 0) d160_1 (by decide) ?_
  refine mx_puti r M d160_2 fl17_144 rfl rfl rfl (fun hh r => ?_)
  refine ie_aload_n d160_5 rfl ?_
  refine mx_geti r M d160_6 fl17_171 rfl ?_
  rw [mset_k (by decide)]
  exact ie_iret d160_9 rfl (by first | rfl | decide | exact (ix_bz (bI_01 _)).1 | exact (ix_bz (by assumption)).1) ⟨rfl, r⟩
set_option maxRecDepth 100000 in
set_option maxHeartbeats 4000000 in
/-- size -/
theorem s123 {G : ix_G} {h : ix_H} {o : Nat} {S : MS} (M : md_ok h o) (hS : ms h o = S) (e f : Int32) : ix_E G 123 0 (lv_args 0 [.ref o, .int e, .int f]) [] h (fun rv h' => rv = some (.int (if ((0 ≤ e ∧ e ≤ 1) ∧ 0 ≤ f ∧ f ≤ 5) ∧ ¬ S 4 (6 * e.toNatClampNeg + f.toNatClampNeg) = 0 then S 5 (6 * e.toNatClampNeg + f.toNatClampNeg) else -1)) ∧ mR o h h' (m0 S)) := by
  have r : mR o h h S := mR.rf hS
  refine ie_aload_n d123_0 rfl ?_
  refine ie_iconst (nI 0) d123_1 (by decide) ?_
  refine mx_puti r M d123_2 fl17_144 rfl rfl rfl (fun hh r => ?_)
  refine ie_iload_n d123_5 rfl ?_
  refine ie_iload_n d123_6 rfl ?_
  refine ie_callSx [_, _] d123_7 ok117 rm123_117 cl17_151 rfl rfl (Nat.le_of_ble_eq_true rfl) (Nat.le_of_ble_eq_true rfl) (s117 _ _) ?_
  refine ie_if_eq 41 d123_10 (by decide) (fun c10 => ?_) (fun c10 => ?_)
  · skip
    rw [bI_0] at c10
    rw [if_neg (fun z => c10 z.1)]
    refine ie_iconst (-1) d123_41 (by decide) ?_
    exact ie_iret d123_42 rfl (by first | rfl | decide | exact (ix_bz (bI_01 _)).1 | exact (ix_bz (by assumption)).1) ⟨rfl, r⟩
  · skip
    rw [bI_0, Classical.not_not] at c10
    obtain ⟨e', f', he, hf, rfl, rfl⟩ := isF2 c10
    rw [cl2 (by omega : e' < 768), cl2 (by omega : f' < 768)]
    refine ie_aload_n d123_13 rfl ?_
    refine mx_getr r M d123_14 fl17_7 rfl ?_
    refine ie_bipush (nI 6) d123_17 (by decide) ?_
    refine ie_iload_n d123_19 rfl ?_
    refine ie_imul d123_20 ?_
    rw [pk_mul]
    refine ie_iload_n d123_21 rfl ?_
    refine ie_iadd d123_22 ?_
    rw [nI_add]
    refine mx_zald (k := 4) (n := ((6 * e') + f')) r M d123_23 rfl rfl rfl (by show 6 * e' + f' < 12; omega) ?_
    rw [mset_k (by decide)]
    refine ie_if_eq 41 d123_24 (by decide) (fun c24 => ?_) (fun c24 => ?_)
    · skip
      rw [if_neg (fun z => z.2 c24)]
      refine ie_iconst (-1) d123_41 (by decide) ?_
      exact ie_iret d123_42 rfl (by first | rfl | decide | exact (ix_bz (bI_01 _)).1 | exact (ix_bz (by assumption)).1) ⟨rfl, r⟩
    · skip
      rw [if_pos ⟨c10, c24⟩]
      refine ie_aload_n d123_27 rfl ?_
      refine mx_getr r M d123_28 fl17_13 rfl ?_
      refine ie_bipush (nI 6) d123_31 (by decide) ?_
      refine ie_iload_n d123_33 rfl ?_
      refine ie_imul d123_34 ?_
      rw [pk_mul]
      refine ie_iload_n d123_35 rfl ?_
      refine ie_iadd d123_36 ?_
      rw [nI_add]
      refine mx_iald (k := 5) (n := ((6 * e') + f')) r M d123_37 rfl rfl rfl (by show 6 * e' + f' < 12; omega) ?_
      rw [mset_k (by decide)]
      refine ie_goto 42 d123_38 (by decide) ?_
      exact ie_iret d123_42 rfl (by first | rfl | decide | exact (ix_bz (bI_01 _)).1 | exact (ix_bz (by assumption)).1) ⟨rfl, r⟩
/-- which files the open senders of an entity lock -/
def mLock (S : MS) (e : Nat) (f : Int32) (c : Nat) : Prop := ∃ k, k < c ∧ S 9 (S 40 (3 * e + k)).toNatClampNeg = f
theorem mLock_s {S : MS} {e c : Nat} {f : Int32} : mLock S e f (c + 1) ↔ mLock S e f c ∨ S 9 (S 40 (3 * e + c)).toNatClampNeg = f := by
  constructor
  · rintro ⟨k, hk, q⟩
    by_cases e2 : k = c
    · subst e2; exact Or.inr q
    · exact Or.inl ⟨k, by omega, q⟩
  · rintro (⟨k, hk, q⟩ | q)
    · exact ⟨k, by omega, q⟩
    · exact ⟨c, by omega, q⟩
theorem mLock_0 {S : MS} {e : Nat} {f : Int32} : ¬ mLock S e f 0 := fun ⟨_, h, _⟩ => absurd h (Nat.not_lt_zero _)
/-- the rows of open senders are in order -/
def mSnd (S : MS) (e : Nat) : Prop := ∃ c, c ≤ 3 ∧ S 42 e = nI c ∧ ∀ k, k < c → ∃ t, t < 640 ∧ S 40 (3 * e + k) = nI t
noncomputable def bP (c : Prop) : Int32 := @bI c (Classical.propDecidable c)
theorem bP_t {c : Prop} (h : c) : bP c = 1 := @if_pos c (Classical.propDecidable c) h _ _ _
theorem bP_f {c : Prop} (h : ¬ c) : bP c = 0 := @if_neg c (Classical.propDecidable c) h _ _ _
theorem bP_01 (c : Prop) : bP c = 0 ∨ bP c = 1 := @bI_01 c (Classical.propDecidable c)
theorem bP_0 {c : Prop} : bP c = 0 ↔ ¬ c := @bI_0 c (Classical.propDecidable c)
theorem bP_c {c d : Prop} (h : c ↔ d) : bP c = bP d := by rw [propext h]
set_option maxRecDepth 100000 in
set_option maxHeartbeats 4000000 in
/-- isLocked: its loop -/
theorem s121_loop {G : ix_G} {h : ix_H} {o : Nat} {S : MS} (M : md_ok h o) (r : mR o h h S) {e c : Nat} {f : Int32} (he : e < 2) (hc3 : c ≤ 3) (hc : S 42 e = nI c) (hs : ∀ k, k < c → ∃ t, t < 640 ∧ S 40 (3 * e + k) = nI t) :
    ∀ (n i : Nat), i ≤ c → c - i < n → ∀ (lv : List (Nat × Value)), lv.lookup 0 = some (.ref o) → lv.lookup 1 = some (.int (nI e)) → lv.lookup 2 = some (.int f) → lv.lookup 3 = some (.int (bP (mLock S e f i))) → lv.lookup 4 = some (.int (nI i)) →
      ix_E G 121 5 lv [] h (fun rv h' => rv = some (.int (bP (mLock S e f c))) ∧ h' = h) := by
  intro n
  induction n with
  | zero => intro i h1 h2; omega
  | succ n ih =>
    intro i hi hn lv l0 l1 l2 l3 l4
    refine ie_iload d121_5 l4 ?_
    refine ie_aload_n d121_7 l0 ?_
    refine mx_getr r M d121_8 fl17_125 rfl ?_
    refine ie_iload_n d121_11 l1 ?_
    refine mx_iald (k := 42) (n := e) r M d121_12 rfl rfl rfl (by show e < 2; exact he) ?_
    rw [hc]
    refine ie_icmp_ge 52 d121_13 (by decide) (fun c13 => ?_) (fun c13 => ?_)
    · rw [nI_leI (by omega) (by omega)] at c13
      have hi2 : i = c := by omega
      subst hi2
      refine ie_iload_n d121_52 l3 ?_
      exact ie_iret d121_53 rfl (ix_bz (bP_01 _)).1 ⟨rfl, rfl⟩
    · rw [nI_leI (by omega) (by omega)] at c13
      obtain ⟨t, ht0, ht⟩ := hs i (by omega)
      have key : ∀ x : Int32, x = bP (mLock S e f (i + 1)) → ix_E G 121 45 lv [.int x] h (fun rv h' => rv = some (.int (bP (mLock S e f c))) ∧ h' = h) := by
        intro x hx
        refine ie_istore_n d121_45 (by decide) ?_
        refine ie_iinc (nI (i + 1)) d121_46 (ix_lk3 (by decide) l4 rfl) (nI_1 _) (by decide) ?_
        refine ie_goto 5 d121_49 (by decide) ?_
        refine ih (i + 1) (by omega) (by omega) _ ?_ ?_ ?_ ?_ ?_
        · exact ix_lk3 (by decide) (ix_lk3 (by decide) l0 rfl) rfl
        · exact ix_lk3 (by decide) (ix_lk3 (by decide) l1 rfl) rfl
        · exact ix_lk3 (by decide) (ix_lk3 (by decide) l2 rfl) rfl
        · exact ix_lk3 (by decide) (by rw [← hx]; exact ix_lk1) rfl
        · exact ix_lk1
      refine ie_iload_n d121_16 l3 ?_
      refine ie_if_ne 40 d121_17 (by decide) (fun c17 => ?_) (fun c17 => ?_)
      · refine ie_iconst 1 d121_40 (by decide) ?_
        refine ie_goto 45 d121_41 (by decide) ?_
        exact key 1 (bP_t (mLock_s.mpr (Or.inl (Classical.byContradiction (fun z => c17 (bP_f z)))))).symm
      · refine ie_aload_n d121_20 l0 ?_
        refine mx_getr r M d121_21 fl17_26 rfl ?_
        refine ie_aload_n d121_24 l0 ?_
        refine mx_getr r M d121_25 fl17_119 rfl ?_
        refine ie_iconst (nI 3) d121_28 (by decide) ?_
        refine ie_iload_n d121_29 l1 ?_
        refine ie_imul d121_30 ?_
        rw [pk_mul]
        refine ie_iload d121_31 l4 ?_
        refine ie_iadd d121_33 ?_
        rw [nI_add]
        refine mx_iald (k := 40) (n := 3 * e + i) r M d121_34 rfl rfl rfl (by show 3 * e + i < 6; omega) ?_
        rw [ht]
        refine mx_iald (k := 9) (n := t) r M d121_35 rfl rfl rfl (by show t < 640; exact ht0) ?_
        refine ie_iload_n d121_36 l2 ?_
        have hz : S 9 (S 40 (3 * e + i)).toNatClampNeg = S 9 t := by rw [ht, cl2 (by omega)]
        rw [bP_0] at c17
        refine ie_icmp_ne 44 d121_37 (by decide) (fun c37 => ?_) (fun c37 => ?_)
        · refine ie_iconst 0 d121_44 (by decide) ?_
          exact key 0 (bP_f (fun q => (mLock_s.mp q).elim c17 (fun q2 => c37 (by rw [← hz]; exact q2)))).symm
        · refine ie_iconst 1 d121_40 (by decide) ?_
          refine ie_goto 45 d121_41 (by decide) ?_
          exact key 1 (bP_t (mLock_s.mpr (Or.inr (by rw [hz]; exact c37)))).symm
set_option maxRecDepth 100000 in
set_option maxHeartbeats 4000000 in
/-- isLocked -/
theorem s121 {G : ix_G} {h : ix_H} {o : Nat} {S : MS} (M : md_ok h o) (hS : ms h o = S) {e c : Nat} {f : Int32} (he : e < 2) (hc3 : c ≤ 3) (hc : S 42 e = nI c) (hs : ∀ k, k < c → ∃ t, t < 640 ∧ S 40 (3 * e + k) = nI t) : ix_Ev G 121 0 (lv_args 0 [.ref o, .int (nI e), .int f]) [] h (some (.int (bP (mLock S e f c)))) h := by
  refine ix_ofE ?_
  refine ie_iconst 0 d121_0 (by decide) ?_
  refine ie_istore_n d121_1 (by decide) ?_
  refine ie_iconst (nI 0) d121_2 (by decide) ?_
  refine ie_istore d121_3 (by decide) ?_
  exact s121_loop M (mR.rf hS) he hc3 hc hs (c + 1) 0 (by omega) (by omega) _ rfl rfl rfl (by rw [bP_f mLock_0]; rfl) rfl
