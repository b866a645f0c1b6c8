theorem s120m {G : ix_G} {h : ix_H} {o : Nat} {S : MS} (M : md_ok h o) (hS : ms h o = S) (c : Int32) : ix_E G 120 0 (lv_args 0 [.ref o, .int c]) [] h (fun rv h' => rv = some (.int 0) ∧ mR o h h' (mset S 3 0 c)) := ⟨_, _, s120 M c, rfl, (mR.rf hS).setF rfl⟩
theorem m0_3 {S : MS} {c : Int32} : mset (m0 S) 3 0 c = mset S 3 0 c := mset_mset
noncomputable def mAt (S : MS) (e f i : Int32) : Int32 × MS := if ((0 ≤ e ∧ e ≤ 1) ∧ 0 ≤ f ∧ f ≤ 5) ∧ ¬ S 4 (6 * e.toNatClampNeg + f.toNatClampNeg) = 0 then (if 0 ≤ i ∧ i < S 5 (6 * e.toNatClampNeg + f.toNatClampNeg) then (S 6 (64 * (6 * e.toNatClampNeg + f.toNatClampNeg) + i.toNatClampNeg), m0 S) else (0, mset S 3 0 2)) else (0, mset S 3 0 1)
/-- rows of the link: u units are under way -/
def mRow (S : MS) (b : Nat) (f : Nat → Int32) : MS := fun k j => if k = 45 ∧ b ≤ j ∧ j < b + 11 then f (j - b) else S k j
def mZ (S : MS) (b n : Nat) : MS := fun k j => if k = 45 ∧ b ≤ j ∧ j < b + n then 0 else S k j
theorem mZ_0 {S : MS} {b : Nat} : mZ S b 0 = S := by
  funext k j
  unfold mZ
  rw [if_neg (by omega)]
theorem mZ_s {S : MS} {b n : Nat} : mset (mZ S b n) 45 (b + n) 0 = mZ S b (n + 1) := by
  funext k j
  unfold mset mZ
  have h45 : mIs 45 = true := rfl
  by_cases e : k = 45 ∧ j = b + n
  · rw [if_pos ⟨e.1, Or.inl e.2⟩, if_pos ⟨e.1, by omega, by omega⟩]
  · rw [if_neg (fun z => e ⟨z.1, z.2.elim id (fun q => by cases q)⟩)]
    by_cases q : k = 45 ∧ b ≤ j ∧ j < b + n
    · rw [if_pos q, if_pos ⟨q.1, q.2.1, by omega⟩]
    · rw [if_neg q, if_neg (fun z => q ⟨z.1, z.2.1, by omega⟩)]
def mSend (S : MS) (u : Nat) (kind to t a b c : Int32) : MS := if u = 24 then S else mset (mRow S (11 * u) (fun i => [kind, to, t, a, b, c].getD i 0)) 44 0 (nI (u + 1))
theorem mSend_eq {S : MS} {u : Nat} {kind to t a b c : Int32} (hu : ¬ u = 24) : mset (mset (mset (mset (mset (mset (mset (mZ S (11 * u) 11) 45 (11 * u) kind) 45 (11 * u + 1) to) 45 (11 * u + 2) t) 45 (11 * u + 3) a) 45 (11 * u + 4) b) 45 (11 * u + 5) c) 44 0 (nI (u + 1)) = mSend S u kind to t a b c := by
  unfold mSend
  rw [if_neg hu]
  congr 1
  funext k j
  have h45 : mIs 45 = true := rfl
  by_cases hk : k = 45
  · subst hk
    rw [mset_if h45, mset_if h45, mset_if h45, mset_if h45, mset_if h45, mset_if h45]
    unfold mRow mZ
    by_cases hj : 11 * u ≤ j ∧ j < 11 * u + 11
    · obtain ⟨i, rfl⟩ : ∃ i, j = 11 * u + i := ⟨j - 11 * u, by omega⟩
      have hi : i < 11 := by omega
      rw [if_pos (show (45 = 45 ∧ 11 * u ≤ 11 * u + i ∧ 11 * u + i < 11 * u + 11) from ⟨rfl, hj⟩), Nat.add_sub_cancel_left]
      have hs : ∀ q : Nat, (11 * u + i = 11 * u + q) = (i = q) := fun q => propext ⟨fun z => by omega, fun z => by omega⟩
      have h0 : (11 * u + i = 11 * u) = (i = 0) := propext ⟨fun z => by omega, fun z => by omega⟩
      rw [if_pos (show (45 = 45 ∧ 11 * u ≤ 11 * u + i ∧ 11 * u + i < 11 * u + 11) from ⟨rfl, hj⟩)]
      simp only [hs, h0]
      clear hs h0 hj
      match i, hi with
      | 0, _ => rfl
      | 1, _ => rfl
      | 2, _ => rfl
      | 3, _ => rfl
      | 4, _ => rfl
      | 5, _ => rfl
      | 6, _ => rfl
      | 7, _ => rfl
      | 8, _ => rfl
      | 9, _ => rfl
      | 10, _ => rfl
    · rw [if_neg (show ¬ (45 = 45 ∧ 11 * u ≤ j ∧ j < 11 * u + 11) from fun z => hj z.2), if_neg (by omega), if_neg (by omega), if_neg (by omega), if_neg (by omega), if_neg (by omega), if_neg (by omega), if_neg (show ¬ (45 = 45 ∧ 11 * u ≤ j ∧ j < 11 * u + 11) from fun z => hj z.2)]
  · rw [mset_k hk, mset_k hk, mset_k hk, mset_k hk, mset_k hk, mset_k hk]
    unfold mRow mZ
    rw [if_neg (fun z => hk z.1), if_neg (fun z => hk z.1)]
set_option maxRecDepth 100000 in
set_option maxHeartbeats 4000000 in
/-- send: its loop and what follows -/
theorem s136_loop {G : ix_G} {h0 : ix_H} {o : Nat} {S : MS} (M : md_ok h0 o) {u : Nat} {kind to t a b c : Int32} (hu : S 44 0 = nI u) (hu24 : u < 24) :
    ∀ (n i : Nat), i ≤ 11 → 11 - i < n → ∀ (h : ix_H), mR o h0 h (mZ S (11 * u) i) → ∀ (lv : List (Nat × Value)), lv.lookup 0 = some (.ref o) → lv.lookup 1 = some (.int kind) → lv.lookup 2 = some (.int to) → lv.lookup 3 = some (.int t) → lv.lookup 4 = some (.int a) → lv.lookup 5 = some (.int b) → lv.lookup 6 = some (.int c) → lv.lookup 7 = some (.int (nI (11 * u))) → lv.lookup 8 = some (.int (nI i)) →
      ix_E G 136 23 lv [] h (fun rv h' => rv = some (.int 1) ∧ mR o h0 h' (mSend S u kind to t a b c)) := by
  intro n
  induction n with
  | zero => intro i h1 h2; omega
  | succ n ih =>
    intro i hi hn h r lv l0 l1 l2 l3 l4 l5 l6 l7 l8
    refine ie_iload d136_23 l8 ?_
    refine ie_bipush (nI 11) d136_25 (by decide) ?_
    refine ie_icmp_ge 47 d136_27 (by decide) (fun c27 => ?_) (fun c27 => ?_)
    · rw [nI_leI (by omega) (by omega)] at c27
      have hi2 : i = 11 := by omega
      subst hi2
      refine ie_aload_n d136_47 l0 ?_
      refine mx_getr r M d136_48 fl17_131 rfl ?_
      refine ie_iload d136_51 l7 ?_
      refine ie_iload_n d136_53 l1 ?_
      refine mx_iast (k := 45) (n := (11 * u)) r M d136_54 rfl rfl rfl (by show 11 * u < 264; omega) (fun hh r => ?_)
      refine ie_aload_n d136_55 l0 ?_
      refine mx_getr r M d136_56 fl17_131 rfl ?_
      refine ie_iload d136_59 l7 ?_
      refine ie_iconst (nI 1) d136_61 (by decide) ?_
      refine ie_iadd d136_62 ?_
      rw [nI_add]
      refine ie_iload_n d136_63 l2 ?_
      refine mx_iast (k := 45) (n := (11 * u + 1)) r M d136_64 rfl rfl rfl (by show 11 * u + 1 < 264; omega) (fun hh r => ?_)
      refine ie_aload_n d136_65 l0 ?_
      refine mx_getr r M d136_66 fl17_131 rfl ?_
      refine ie_iload d136_69 l7 ?_
      refine ie_iconst (nI 2) d136_71 (by decide) ?_
      refine ie_iadd d136_72 ?_
      rw [nI_add]
      refine ie_iload_n d136_73 l3 ?_
      refine mx_iast (k := 45) (n := (11 * u + 2)) r M d136_74 rfl rfl rfl (by show 11 * u + 2 < 264; omega) (fun hh r => ?_)
      refine ie_aload_n d136_75 l0 ?_
      refine mx_getr r M d136_76 fl17_131 rfl ?_
      refine ie_iload d136_79 l7 ?_
      refine ie_iconst (nI 3) d136_81 (by decide) ?_
      refine ie_iadd d136_82 ?_
      rw [nI_add]
      refine ie_iload d136_83 l4 ?_
      refine mx_iast (k := 45) (n := (11 * u + 3)) r M d136_85 rfl rfl rfl (by show 11 * u + 3 < 264; omega) (fun hh r => ?_)
      refine ie_aload_n d136_86 l0 ?_
      refine mx_getr r M d136_87 fl17_131 rfl ?_
      refine ie_iload d136_90 l7 ?_
      refine ie_iconst (nI 4) d136_92 (by decide) ?_
      refine ie_iadd d136_93 ?_
      rw [nI_add]
      refine ie_iload d136_94 l5 ?_
      refine mx_iast (k := 45) (n := (11 * u + 4)) r M d136_96 rfl rfl rfl (by show 11 * u + 4 < 264; omega) (fun hh r => ?_)
      refine ie_aload_n d136_97 l0 ?_
      refine mx_getr r M d136_98 fl17_131 rfl ?_
      refine ie_iload d136_101 l7 ?_
      refine ie_iconst (nI 5) d136_103 (by decide) ?_
      refine ie_iadd d136_104 ?_
      rw [nI_add]
      refine ie_iload d136_105 l6 ?_
      refine mx_iast (k := 45) (n := (11 * u + 5)) r M d136_107 rfl rfl rfl (by show 11 * u + 5 < 264; omega) (fun hh r => ?_)
      refine ie_aload_n d136_108 l0 ?_
      refine ie_dup d136_109 rfl ?_
      refine mx_geti r M d136_110 fl17_171 rfl ?_
      rw [mset_k (by decide)]
      rw [mset_k (by decide)]
      rw [mset_k (by decide)]
      rw [mset_k (by decide)]
      rw [mset_k (by decide)]
      rw [mset_k (by decide)]
      repeat rw [mset_k (by decide)]
      rw [show mZ S (11 * u) 11 44 0 = nI u by unfold mZ; rw [if_neg (by omega)]; exact hu]
      refine ie_iconst (nI 1) d136_113 (by decide) ?_
      refine ie_iadd d136_114 ?_
      rw [nI_add]
      refine mx_puti r M d136_115 fl17_171 rfl rfl rfl (fun hh r => ?_)
      refine ie_iconst (nI 1) d136_118 (by decide) ?_
      exact ie_iret d136_119 rfl (by first | rfl | decide | exact (ix_bz (bI_01 _)).1 | exact (ix_bz (by assumption)).1) ⟨rfl, by rw [mSend_eq (by omega)] at r; exact r⟩
    · rw [nI_leI (by omega) (by omega)] at c27
      refine ie_aload_n d136_30 l0 ?_
      refine mx_getr r M d136_31 fl17_131 rfl ?_
      refine ie_iload d136_34 l7 ?_
      refine ie_iload d136_36 l8 ?_
      refine ie_iadd d136_38 ?_
      rw [nI_add]
      refine ie_iconst (nI 0) d136_39 (by decide) ?_
      refine mx_iast (k := 45) (n := (11 * u + i)) r M d136_40 rfl rfl rfl (by show 11 * u + i < 264; omega) (fun hh r => ?_)
      refine ie_iinc (nI (i + 1)) d136_41 l8 (nI_1 _) (by decide) ?_
      refine ie_goto 23 d136_44 (by decide) ?_
      exact ih (i + 1) (by omega) (by omega) hh (by rw [← mZ_s]; exact r) _ (ix_lk3 (by decide) l0 rfl) (ix_lk3 (by decide) l1 rfl) (ix_lk3 (by decide) l2 rfl) (ix_lk3 (by decide) l3 rfl) (ix_lk3 (by decide) l4 rfl) (ix_lk3 (by decide) l5 rfl) (ix_lk3 (by decide) l6 rfl) (ix_lk3 (by decide) l7 rfl) ix_lk1
set_option maxRecDepth 100000 in
set_option maxHeartbeats 4000000 in
/-- send -/
theorem s136 {G : ix_G} {h : ix_H} {o : Nat} {S : MS} (M : md_ok h o) (hS : ms h o = S) {u : Nat} (hu : S 44 0 = nI u) (hu24 : u ≤ 24) (kind to t a b c : Int32) : ix_E G 136 0 (lv_args 0 [.ref o, .int kind, .int to, .int t, .int a, .int b, .int c]) [] h (fun rv h' => rv = some (.int (bI (u < 24))) ∧ mR o h h' (mSend S u kind to t a b c)) := by
  have r : mR o h h S := mR.rf hS
  refine ie_aload_n d136_0 rfl ?_
  refine mx_geti r M d136_1 fl17_171 rfl ?_
  rw [hu]
  refine ie_bipush (nI 24) d136_4 (by decide) ?_
  refine ie_icmp_ne 11 d136_6 (by decide) (fun c6 => ?_) (fun c6 => ?_)
  · have hlt : u < 24 := by
      rcases Nat.lt_or_ge u 24 with q | q
      · exact q
      · exact absurd (by rw [show u = 24 by omega]) c6
    rw [bI_t hlt]
    refine ie_bipush (nI 11) d136_11 (by decide) ?_
    refine ie_aload_n d136_13 rfl ?_
    refine mx_geti r M d136_14 fl17_171 rfl ?_
    rw [hu]
    refine ie_imul d136_17 ?_
    rw [pk_mul]
    refine ie_istore d136_18 (by decide) ?_
    refine ie_iconst (nI 0) d136_20 (by decide) ?_
    refine ie_istore d136_21 (by decide) ?_
    exact s136_loop M hu hlt 12 0 (by omega) (by omega) h (by rw [mZ_0]; exact r) _ rfl rfl rfl rfl rfl rfl rfl rfl rfl
  · have hu2 : u = 24 := (nI_eq (by omega) (by omega)).mp c6
    rw [bI_f (by omega)]
    refine ie_iconst 0 d136_9 (by decide) ?_
    refine ie_iret d136_10 rfl (by decide) ⟨rfl, ?_⟩
    unfold mSend
    rw [if_pos hu2]
    exact r
