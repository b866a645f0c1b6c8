/-- the round over an entity's senders: W is what one of them does -/
def tS (W : MS → Nat → MS) (e : Nat) : Nat → Nat → MS → MS
  | 0, _, S => S
  | z + 1, k, S => if (S 42 e).toNatClampNeg ≤ k then S else tS W e z (if W S (S 40 (3 * e + k)).toNatClampNeg 13 (S 40 (3 * e + k)).toNatClampNeg = nI 5 then k + 1 else k) (W S (S 40 (3 * e + k)).toNatClampNeg)
/-- the round over an entity's receivers -/
def tR (A : MS → Nat → MS) (e : Nat) : Nat → Nat → MS → MS
  | 0, _, S => S
  | z + 1, k, S => if (S 43 e).toNatClampNeg ≤ k then S else tR A e z (if A S (S 41 (3 * e + k)).toNatClampNeg 23 (S 41 (3 * e + k)).toNatClampNeg = nI 5 ∨ A S (S 41 (3 * e + k)).toNatClampNeg 23 (S 41 (3 * e + k)).toNatClampNeg = nI 6 then k + 1 else k) (A S (S 41 (3 * e + k)).toNatClampNeg)
/-- what the senders' round needs of one step -/
def tSok (G : ix_G) (o : Nat) (Inv : MS → Prop) (W : MS → Nat → MS) (e : Nat) : Prop := ∀ S, Inv S → ∃ c, c ≤ 3 ∧ S 42 e = nI c ∧ ∀ k, k < c → ∃ t, t < 640 ∧ S 40 (3 * e + k) = nI t ∧ Inv (W S t) ∧ W S t 42 e = nI (if W S t 13 t = nI 5 then c else c - 1) ∧ ∀ h, md_ok h o → ms h o = S → ix_E G 130 0 (lv_args 0 [.ref o, .int (nI t)]) [] h (fun rv h' => rv = none ∧ mR o h h' (W S t))
def tRok (G : ix_G) (o : Nat) (Inv : MS → Prop) (A : MS → Nat → MS) (e : Nat) : Prop := ∀ S, Inv S → ∃ c, c ≤ 3 ∧ S 43 e = nI c ∧ ∀ k, k < c → ∃ t, t < 640 ∧ S 41 (3 * e + k) = nI t ∧ Inv (A S t) ∧ A S t 43 e = nI (if A S t 23 t = nI 5 ∨ A S t 23 t = nI 6 then c else c - 1) ∧ ∀ h, md_ok h o → ms h o = S → ix_E G 141 0 (lv_args 0 [.ref o, .int (nI t)]) [] h (fun rv h' => rv = none ∧ mR o h h' (A S t))
set_option maxRecDepth 100000 in
set_option maxHeartbeats 4000000 in
/-- tick: the senders -/
theorem s129_s {G : ix_G} {h0 : ix_H} {o : Nat} (M : md_ok h0 o) {Inv : MS → Prop} {W : MS → Nat → MS} {X : MS} {e : Nat} {P : ix_O → ix_H → Prop} (he : e < 2) (ok : tSok G o Inv W e)
    (kk : ∀ h1, mR o h0 h1 X → Inv X → ∀ (lv : List (Nat × Value)), lv.lookup 0 = some (.ref o) → lv.lookup 1 = some (.int (nI e)) → ix_E G 129 69 lv [] h1 P) :
    ∀ (z k c : Nat) (S : MS) (h : ix_H), Inv S → mR o h0 h S → S 42 e = nI c → c ≤ 3 → k ≤ c → c - k < z → tS W e z k S = X → ∀ (lv : List (Nat × Value)), lv.lookup 0 = some (.ref o) → lv.lookup 1 = some (.int (nI e)) → lv.lookup 2 = some (.int (nI k)) → ix_E G 129 24 lv [] h P := by
  intro z
  induction z with
  | zero => intro k c S h hI r hc h0 h1 h2; omega
  | succ z ih =>
    intro k c S h hI r hc hc33 hk hz hX lv l0 l1 l2
    obtain ⟨c', hc3, hc', hst⟩ := ok S hI
    have ec : c' = c := (nI_eq (by omega) (by omega)).mp (hc'.symm.trans hc)
    subst ec
    refine ie_iload_n d129_24 l2 ?_
    refine ie_aload_n d129_25 l0 ?_
    refine mx_getr r M d129_26 fl17_125 rfl ?_
    refine ie_iload_n d129_29 l1 ?_
    refine mx_iald (k := 42) (n := e) r M d129_30 rfl rfl rfl (by show e < 2; exact he) ?_
    rw [hc]
    refine ie_icmp_ge 69 d129_31 (by decide) (fun c31 => ?_) (fun c31 => ?_)
    · skip
      rw [nI_leI (by omega) (by omega)] at c31
      have K : S = X := by
        rw [← hX]
        show _ = (if _ then _ else _)
        rw [hc, cl2 (by omega), if_pos c31]
      subst K
      exact kk _ r hI _ l0 l1
    · skip
      rw [nI_leI (by omega) (by omega)] at c31
      obtain ⟨t, q1, q2, q3, q4, q5⟩ := hst k (by omega)
      have hX : (if _ then _ else _) = X := hX
      rw [hc, cl2 (by omega), if_neg c31, q2, cl2 (by omega)] at hX
      refine ie_aload_n d129_34 l0 ?_
      refine mx_getr r M d129_35 fl17_119 rfl ?_
      refine ie_iconst (nI 3) d129_38 (by decide) ?_
      refine ie_iload_n d129_39 l1 ?_
      refine ie_imul d129_40 ?_
      rw [pk_mul]
      refine ie_iload_n d129_41 l2 ?_
      refine ie_iadd d129_42 ?_
      rw [nI_add]
      refine mx_iald (k := 40) (n := (3 * e + k)) r M d129_43 rfl rfl rfl (by show 3 * e + k < 6; omega) ?_
      rw [q2]
      refine ie_istore_n d129_44 (by decide) ?_
      refine ie_aload_n d129_45 (ix_lk3 (by decide) l0 rfl) ?_
      refine ie_iload_n d129_46 ix_lk1 ?_
      refine mx_call r M [_] d129_47 ok130 rm129_130 cl17_243 rfl rfl (Nat.le_of_ble_eq_true rfl) (Nat.le_of_ble_eq_true rfl) (q5 _ (r.ok M) r.2.2) (fun hh r => ?_)
      refine ie_aload_n d129_50 (ix_lk3 (by decide) l0 rfl) ?_
      refine mx_getr r M d129_51 fl17_38 rfl ?_
      refine ie_iload_n d129_54 ix_lk1 ?_
      refine mx_iald (k := 13) (n := t) r M d129_55 rfl rfl rfl (by show t < 640; exact q1) ?_
      refine ie_iconst (nI 5) d129_56 (by decide) ?_
      refine ie_icmp_eq 63 d129_57 (by decide) (fun c57 => ?_) (fun c57 => ?_)
      · skip
        refine ie_iinc (nI (k + 1)) d129_63 (ix_lk3 (by decide) l2 rfl) (nI_1 _) (by decide) ?_
        refine ie_goto 24 d129_66 (by decide) ?_
        rw [if_pos c57] at hX q4
        exact ih (k + 1) c' _ hh q3 r q4 (by omega) (by omega) (by omega) hX _ (ix_lk3 (by decide) (ix_lk3 (by decide) l0 rfl) rfl) (ix_lk3 (by decide) (ix_lk3 (by decide) l1 rfl) rfl) ix_lk1
      · skip
        refine ie_iinc (nI k + -1) d129_60 (ix_lk3 (by decide) l2 rfl) rfl (by decide) ?_
        refine ie_iinc (nI k) d129_63 ix_lk1 (by rw [Int32.add_assoc, show (-1 + Int32.ofInt 1 : Int32) = 0 from by decide]; exact Int32.add_zero _) (by decide) ?_
        refine ie_goto 24 d129_66 (by decide) ?_
        rw [if_neg c57] at hX q4
        exact ih k (c' - 1) _ hh q3 r q4 (by omega) (by omega) (by omega) hX _ (ix_lk3 (by decide) (ix_lk3 (by decide) (ix_lk3 (by decide) l0 rfl) rfl) rfl) (ix_lk3 (by decide) (ix_lk3 (by decide) (ix_lk3 (by decide) l1 rfl) rfl) rfl) ix_lk1
set_option maxRecDepth 100000 in
set_option maxHeartbeats 4000000 in
/-- tick: the receivers -/
theorem s129_r {G : ix_G} {h0 : ix_H} {o : Nat} (M : md_ok h0 o) {Inv : MS → Prop} {W : MS → Nat → MS} {X : MS} {e : Nat} {P : ix_O → ix_H → Prop} (he : e < 2) (ok : tRok G o Inv W e)
    (kk : ∀ h1, mR o h0 h1 X → Inv X → ∀ (lv : List (Nat × Value)), lv.lookup 0 = some (.ref o) → lv.lookup 1 = some (.int (nI e)) → ix_E G 129 127 lv [] h1 P) :
    ∀ (z k c : Nat) (S : MS) (h : ix_H), Inv S → mR o h0 h S → S 43 e = nI c → c ≤ 3 → k ≤ c → c - k < z → tR W e z k S = X → ∀ (lv : List (Nat × Value)), lv.lookup 0 = some (.ref o) → lv.lookup 1 = some (.int (nI e)) → lv.lookup 2 = some (.int (nI k)) → ix_E G 129 71 lv [] h P := by
  intro z
  induction z with
  | zero => intro k c S h hI r hc h0 h1 h2; omega
  | succ z ih =>
    intro k c S h hI r hc hc33 hk hz hX lv l0 l1 l2
    obtain ⟨c', hc3, hc', hst⟩ := ok S hI
    have ec : c' = c := (nI_eq (by omega) (by omega)).mp (hc'.symm.trans hc)
    subst ec
    refine ie_iload_n d129_71 l2 ?_
    refine ie_aload_n d129_72 l0 ?_
    refine mx_getr r M d129_73 fl17_128 rfl ?_
    refine ie_iload_n d129_76 l1 ?_
    refine mx_iald (k := 43) (n := e) r M d129_77 rfl rfl rfl (by show e < 2; exact he) ?_
    rw [hc]
    refine ie_icmp_ge 127 d129_78 (by decide) (fun c78 => ?_) (fun c78 => ?_)
    · skip
      rw [nI_leI (by omega) (by omega)] at c78
      have K : S = X := by
        rw [← hX]
        show _ = (if _ then _ else _)
        rw [hc, cl2 (by omega), if_pos c78]
      subst K
      exact kk _ r hI _ l0 l1
    · skip
      rw [nI_leI (by omega) (by omega)] at c78
      obtain ⟨t, q1, q2, q3, q4, q5⟩ := hst k (by omega)
      have hX : (if _ then _ else _) = X := hX
      rw [hc, cl2 (by omega), if_neg c78, q2, cl2 (by omega)] at hX
      refine ie_aload_n d129_81 l0 ?_
      refine mx_getr r M d129_82 fl17_122 rfl ?_
      refine ie_iconst (nI 3) d129_85 (by decide) ?_
      refine ie_iload_n d129_86 l1 ?_
      refine ie_imul d129_87 ?_
      rw [pk_mul]
      refine ie_iload_n d129_88 l2 ?_
      refine ie_iadd d129_89 ?_
      rw [nI_add]
      refine mx_iald (k := 41) (n := (3 * e + k)) r M d129_90 rfl rfl rfl (by show 3 * e + k < 6; omega) ?_
      rw [q2]
      refine ie_istore_n d129_91 (by decide) ?_
      refine ie_aload_n d129_92 (ix_lk3 (by decide) l0 rfl) ?_
      refine ie_iload_n d129_93 ix_lk1 ?_
      refine mx_call r M [_] d129_94 ok141 rm129_141 cl17_246 rfl rfl (Nat.le_of_ble_eq_true rfl) (Nat.le_of_ble_eq_true rfl) (q5 _ (r.ok M) r.2.2) (fun hh r => ?_)
      refine ie_aload_n d129_97 (ix_lk3 (by decide) l0 rfl) ?_
      refine mx_getr r M d129_98 fl17_68 rfl ?_
      refine ie_iload_n d129_101 ix_lk1 ?_
      refine mx_iald (k := 23) (n := t) r M d129_102 rfl rfl rfl (by show t < 640; exact q1) ?_
      refine ie_iconst (nI 5) d129_103 (by decide) ?_
      refine ie_icmp_eq 121 d129_104 (by decide) (fun c104 => ?_) (fun c104 => ?_)
      · skip
        refine ie_iinc (nI (k + 1)) d129_121 (ix_lk3 (by decide) l2 rfl) (nI_1 _) (by decide) ?_
        refine ie_goto 71 d129_124 (by decide) ?_
        rw [if_pos (by first | exact Or.inl c104 | exact Or.inr c115)] at hX q4
        exact ih (k + 1) c' _ hh q3 r q4 (by omega) (by omega) (by omega) hX _ (ix_lk3 (by decide) (ix_lk3 (by decide) l0 rfl) rfl) (ix_lk3 (by decide) (ix_lk3 (by decide) l1 rfl) rfl) ix_lk1
      · skip
        refine ie_aload_n d129_107 (ix_lk3 (by decide) l0 rfl) ?_
        refine mx_getr r M d129_108 fl17_68 rfl ?_
        refine ie_iload_n d129_111 ix_lk1 ?_
        refine mx_iald (k := 23) (n := t) r M d129_112 rfl rfl rfl (by show t < 640; exact q1) ?_
        refine ie_bipush (nI 6) d129_113 (by decide) ?_
        refine ie_icmp_eq 121 d129_115 (by decide) (fun c115 => ?_) (fun c115 => ?_)
        · skip
          refine ie_iinc (nI (k + 1)) d129_121 (ix_lk3 (by decide) l2 rfl) (nI_1 _) (by decide) ?_
          refine ie_goto 71 d129_124 (by decide) ?_
          rw [if_pos (by first | exact Or.inl c104 | exact Or.inr c115)] at hX q4
          exact ih (k + 1) c' _ hh q3 r q4 (by omega) (by omega) (by omega) hX _ (ix_lk3 (by decide) (ix_lk3 (by decide) l0 rfl) rfl) (ix_lk3 (by decide) (ix_lk3 (by decide) l1 rfl) rfl) ix_lk1
        · skip
          refine ie_iinc (nI k + -1) d129_118 (ix_lk3 (by decide) l2 rfl) rfl (by decide) ?_
          refine ie_iinc (nI k) d129_121 ix_lk1 (by rw [Int32.add_assoc, show (-1 + Int32.ofInt 1 : Int32) = 0 from by decide]; exact Int32.add_zero _) (by decide) ?_
          refine ie_goto 71 d129_124 (by decide) ?_
          rw [if_neg (fun q => q.elim c104 c115)] at hX q4
          exact ih k (c' - 1) _ hh q3 r q4 (by omega) (by omega) (by omega) hX _ (ix_lk3 (by decide) (ix_lk3 (by decide) (ix_lk3 (by decide) l0 rfl) rfl) rfl) (ix_lk3 (by decide) (ix_lk3 (by decide) (ix_lk3 (by decide) l1 rfl) rfl) rfl) ix_lk1
set_option maxRecDepth 100000 in
set_option maxHeartbeats 4000000 in
/-- tick: one entity -/
theorem s129_e {G : ix_G} {h0 h : ix_H} {o : Nat} (M : md_ok h0 o) {Inv : MS → Prop} {W A : MS → Nat → MS} {S : MS} {e : Nat} {P : ix_O → ix_H → Prop} (he : e < 2) (okS : tSok G o Inv W e) (okR : tRok G o Inv A e) (hI : Inv S) (r : mR o h0 h S)
    (kk : ∀ h1, mR o h0 h1 (tR A e 4 0 (tS W e 4 0 S)) → Inv (tR A e 4 0 (tS W e 4 0 S)) → ∀ (lv : List (Nat × Value)), lv.lookup 0 = some (.ref o) → lv.lookup 1 = some (.int (nI (e + 1))) → ix_E G 129 17 lv [] h1 P) :
    ∀ (lv : List (Nat × Value)), lv.lookup 0 = some (.ref o) → lv.lookup 1 = some (.int (nI e)) → ix_E G 129 22 lv [] h P := by
  intro lv l0 l1
  refine ie_iconst (nI 0) d129_22 (by decide) ?_
  refine ie_istore_n d129_23 (by decide) ?_
  obtain ⟨c, hc3, hc, -⟩ := okS S hI
  refine s129_s M he okS (fun h1 r1 hI1 lv l0 l1 => ?_) 4 0 c S h hI r hc hc3 (by omega) (by omega) rfl _ (ix_lk3 (by decide) l0 rfl) (ix_lk3 (by decide) l1 rfl) ix_lk1
  refine ie_iconst (nI 0) d129_69 (by decide) ?_
  refine ie_istore_n d129_70 (by decide) ?_
  obtain ⟨c, hc3, hc, -⟩ := okR _ hI1
  refine s129_r M he okR (fun h1 r1 hI1 lv l0 l1 => ?_) 4 0 c _ h1 hI1 r1 hc hc3 (by omega) (by omega) rfl _ (ix_lk3 (by decide) l0 rfl) (ix_lk3 (by decide) l1 rfl) ix_lk1
  refine ie_iinc (nI (e + 1)) d129_127 l1 (nI_1 _) (by decide) ?_
  refine ie_goto 17 d129_130 (by decide) ?_
  exact kk h1 r1 hI1 _ (ix_lk3 (by decide) l0 rfl) ix_lk1
/-- the state behind the rounds, and behind tick -/
def mTk (W A : MS → Nat → MS) (S : MS) : MS := tR A 1 4 0 (tS W 1 4 0 (tR A 0 4 0 (tS W 0 4 0 (mset (m0 S) 2 0 (S 1 0 + nI 1)))))
def mTick (W A : MS → Nat → MS) (S : MS) : MS := mset (mTk W A S) 1 0 (mTk W A S 2 0)
set_option maxRecDepth 100000 in
set_option maxHeartbeats 4000000 in
/-- tick -/
theorem s129 {G : ix_G} {h : ix_H} {o : Nat} {S : MS} (M : md_ok h o) (hS : ms h o = S) {Inv : MS → Prop} {W A : MS → Nat → MS} (okS : ∀ e, e < 2 → tSok G o Inv W e) (okR : ∀ e, e < 2 → tRok G o Inv A e) (hI : Inv (mset (m0 S) 2 0 (S 1 0 + nI 1))) : ix_E G 129 0 (lv_args 0 [.ref o]) [] h (fun rv h' => rv = some (.int (mTk W A S 2 0)) ∧ mR o h h' (mTick W A S)) := by
  have r : mR o h h S := mR.rf hS
  refine ie_aload_n d129_0 rfl ?_
  refine ie_iconst (nI 0) d129_1 (by decide) ?_
  refine mx_puti r M d129_2 fl17_144 rfl rfl rfl (fun hh r => ?_)
  refine ie_aload_n d129_5 rfl ?_
  refine ie_aload_n d129_6 rfl ?_
  refine mx_geti r M d129_7 fl17_215 rfl ?_
  rw [mset_k (by decide)]
  refine ie_iconst (nI 1) d129_10 (by decide) ?_
  refine ie_iadd d129_11 ?_
  refine mx_puti r M d129_12 fl17_234 rfl rfl rfl (fun hh r => ?_)
  refine ie_iconst (nI 0) d129_15 (by decide) ?_
  refine ie_istore_n d129_16 (by decide) ?_
  refine ie_iload_n d129_17 rfl ?_
  refine ie_iconst (nI 2) d129_18 (by decide) ?_
  refine ie_icmp_ge 133 d129_19 (by decide) (fun c19 => absurd c19 (by decide)) (fun _ => ?_)
  refine s129_e M (e := 0) (by decide) (okS 0 (by decide)) (okR 0 (by decide)) hI r (fun h1 r hI lv l0 l1 => ?_) _ rfl rfl
  refine ie_iload_n d129_17 l1 ?_
  refine ie_iconst (nI 2) d129_18 (by decide) ?_
  refine ie_icmp_ge 133 d129_19 (by decide) (fun c19 => absurd c19 (by decide)) (fun _ => ?_)
  refine s129_e M (e := 1) (by decide) (okS 1 (by decide)) (okR 1 (by decide)) hI r (fun h1 r hI lv l0 l1 => ?_) _ l0 l1
  refine ie_iload_n d129_17 l1 ?_
  refine ie_iconst (nI 2) d129_18 (by decide) ?_
  refine ie_icmp_ge 133 d129_19 (by decide) (fun _ => ?_) (fun c19 => absurd (by decide) c19)
  refine ie_aload_n d129_133 l0 ?_
  refine ie_aload_n d129_134 l0 ?_
  refine mx_geti r M d129_135 fl17_234 rfl ?_
  refine mx_puti r M d129_138 fl17_215 rfl rfl rfl (fun hh r => ?_)
  refine ie_aload_n d129_141 l0 ?_
  refine mx_geti r M d129_142 fl17_215 rfl ?_
  rw [mset_s]
  exact ie_iret d129_145 rfl rfl ⟨rfl, r⟩
