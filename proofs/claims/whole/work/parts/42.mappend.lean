theorem ix_lk4 {lv : List (Nat × Value)} {i j : Nat} {v w : Value} (h : j ≠ i) (h1 : j + 1 ≠ i) (hl : lv.lookup j = some w) : (ix_set lv i v).lookup j = some w := by
  have e0 : (j == i) = false := by simpa using h
  unfold ix_set
  simp only [List.lookup, e0]
  induction lv with
  | nil => cases hl
  | cons q t ih =>
    obtain ⟨a, b⟩ := q
    by_cases e : j = a
    · subst e
      have eb : b = w := by simpa [List.lookup] using hl
      subst eb
      rw [List.filter_cons_of_pos (by simp [h, h1])]
      simp [List.lookup]
    · have e2 : (j == a) = false := by simpa using e
      have hl2 : t.lookup j = some w := by simpa only [List.lookup, e2] using hl
      rw [List.filter_cons]
      split
      · simp only [List.lookup, e2]
        exact ih hl2
      · exact ih hl2
def appB (w : Int64) (k : Nat) : Int32 := ((w >>> ((nI (8 * k)).toInt64 &&& 63)) &&& 255).toInt32
def mAp (S : MS) (F m : Nat) (w : Int64) (n : Nat) : MS := fun k j => if k = 6 ∧ 64 * F + m ≤ j ∧ j < 64 * F + m + n then appB w (j - (64 * F + m)) else S k j
theorem mAp_0 {S : MS} {F m : Nat} {w : Int64} : mAp S F m w 0 = S := by
  funext k j
  unfold mAp
  rw [if_neg (by omega)]
theorem mAp_o {S : MS} {F m n k j : Nat} {w : Int64} (h : k ≠ 6) : mAp S F m w n k j = S k j := by
  unfold mAp
  rw [if_neg (fun z => h z.1)]
theorem mAp_s {S : MS} {F m i : Nat} {w : Int64} : mset (mAp S F m w i) 6 (64 * F + m + i) (appB w i) = mAp S F m w (i + 1) := by
  funext k j
  by_cases e : k = 6
  · subst e
    rw [mset_if rfl]
    unfold mAp
    by_cases q : j = 64 * F + m + i
    · subst q
      rw [if_pos rfl, if_pos ⟨rfl, by omega, by omega⟩, Nat.add_sub_cancel_left]
    · rw [if_neg q]
      by_cases w : 64 * F + m ≤ j ∧ j < 64 * F + m + i
      · rw [if_pos ⟨rfl, w⟩, if_pos ⟨rfl, w.1, by omega⟩]
      · rw [if_neg (fun z => w z.2), if_neg (fun z => w ⟨z.2.1, by omega⟩)]
  · rw [mset_k e, mAp_o e, mAp_o e]
def mApp (S : MS) (F m n : Nat) (w : Int64) : MS := mset (mAp S F m w n) 5 F (nI (m + n))
set_option maxRecDepth 100000 in
set_option maxHeartbeats 4000000 in
/-- append: no such file -/
theorem s119a {G : ix_G} {h : ix_H} {o : Nat} {S : MS} (M : md_ok h o) (hS : ms h o = S) (e f n : Int32) (w : Int64) (hno : ¬ (((0 ≤ e ∧ e ≤ 1) ∧ 0 ≤ f ∧ f ≤ 5) ∧ 1 ≤ n ∧ n ≤ 8)) : ix_E G 119 0 (lv_args 0 [.ref o, .int e, .int f, .int n, .long w]) [] h (fun rv h' => rv = some (.int 0) ∧ mR o h h' (mset (m0 S) 3 0 (nI 1))) := by
  have r : mR o h h S := mR.rf hS
  refine ie_aload_n d119_0 rfl ?_
  refine ie_iconst (nI 0) d119_1 (by decide) ?_
  refine mx_puti r M d119_2 fl17_144 rfl rfl rfl (fun hh r => ?_)
  refine ie_iload_n d119_5 rfl ?_
  refine ie_iload_n d119_6 rfl ?_
  refine ie_callSx [_, _] d119_7 ok117 rm119_117 cl17_151 rfl rfl (Nat.le_of_ble_eq_true rfl) (Nat.le_of_ble_eq_true rfl) (s117 _ _) ?_
  refine ie_if_eq 23 d119_10 (by decide) (fun c10 => ?_) (fun c10 => ?_)
  · skip
    refine ie_aload_n d119_23 rfl ?_
    refine ie_iconst (nI 1) d119_24 (by decide) ?_
    refine mx_call r M [_] d119_25 ok120 rm119_120 cl17_155 rfl rfl (Nat.le_of_ble_eq_true rfl) (Nat.le_of_ble_eq_true rfl) (s120m (r.ok M) r.2.2 _) (fun hh r => ?_)
    exact ie_iret d119_28 rfl (by first | rfl | decide | exact (ix_bz (bI_01 _)).1 | exact (ix_bz (by assumption)).1) ⟨rfl, r⟩
  · skip
    refine ie_iload_n d119_13 rfl ?_
    refine ie_iconst (nI 1) d119_14 (by decide) ?_
    refine ie_bipush (nI 8) d119_15 (by decide) ?_
    refine ie_callSx [_, _, _] d119_17 ok118 rm119_118 cl17_147 rfl rfl (Nat.le_of_ble_eq_true rfl) (Nat.le_of_ble_eq_true rfl) (s118 _ _ _) ?_
    refine ie_if_ne 29 d119_20 (by decide) (fun c20 => ?_) (fun c20 => ?_)
    · skip
      exact absurd ⟨by rw [bI_0, Classical.not_not] at c10; exact c10, by rw [bI_0, Classical.not_not] at c20; exact c20⟩ hno
    · skip
      refine ie_aload_n d119_23 rfl ?_
      refine ie_iconst (nI 1) d119_24 (by decide) ?_
      refine mx_call r M [_] d119_25 ok120 rm119_120 cl17_155 rfl rfl (Nat.le_of_ble_eq_true rfl) (Nat.le_of_ble_eq_true rfl) (s120m (r.ok M) r.2.2 _) (fun hh r => ?_)
      exact ie_iret d119_28 rfl (by first | rfl | decide | exact (ix_bz (bI_01 _)).1 | exact (ix_bz (by assumption)).1) ⟨rfl, r⟩
set_option maxRecDepth 100000 in
set_option maxHeartbeats 4000000 in
/-- append: not there -/
theorem s119b {G : ix_G} {h : ix_H} {o : Nat} {S : MS} (M : md_ok h o) (hS : ms h o = S) {e f : Nat} (he : e < 2) (hf : f < 6) {n : Nat} (hn1 : 1 ≤ n) (hn8 : n ≤ 8) (w : Int64) (ht : S 4 (6 * e + f) = 0) : ix_E G 119 0 (lv_args 0 [.ref o, .int (nI e), .int (nI f), .int (nI n), .long w]) [] h (fun rv h' => rv = some (.int 0) ∧ mR o h h' (mset (m0 S) 3 0 (nI 2))) := by
  have r : mR o h h S := mR.rf hS
  refine ie_aload_n d119_0 rfl ?_
  refine ie_iconst (nI 0) d119_1 (by decide) ?_
  refine mx_puti r M d119_2 fl17_144 rfl rfl rfl (fun hh r => ?_)
  refine ie_iload_n d119_5 rfl ?_
  refine ie_iload_n d119_6 rfl ?_
  refine ie_callSx [_, _] d119_7 ok117 rm119_117 cl17_151 rfl rfl (Nat.le_of_ble_eq_true rfl) (Nat.le_of_ble_eq_true rfl) (s117 _ _) ?_
  refine ie_if_eq 23 d119_10 (by decide) (fun c10 => ?_) (fun c10 => ?_)
  · skip
    exact absurd (isF_y he hf) ((bI_0).mp c10)
  · skip
    refine ie_iload_n d119_13 rfl ?_
    refine ie_iconst (nI 1) d119_14 (by decide) ?_
    refine ie_bipush (nI 8) d119_15 (by decide) ?_
    refine ie_callSx [_, _, _] d119_17 ok118 rm119_118 cl17_147 rfl rfl (Nat.le_of_ble_eq_true rfl) (Nat.le_of_ble_eq_true rfl) (s118 _ _ _) ?_
    refine ie_if_ne 29 d119_20 (by decide) (fun c20 => ?_) (fun c20 => ?_)
    · skip
      refine ie_bipush (nI 6) d119_29 (by decide) ?_
      refine ie_iload_n d119_31 rfl ?_
      refine ie_imul d119_32 ?_
      rw [pk_mul]
      refine ie_iload_n d119_33 rfl ?_
      refine ie_iadd d119_34 ?_
      rw [nI_add]
      refine ie_istore d119_35 (by decide) ?_
      refine ie_aload_n d119_37 rfl ?_
      refine mx_getr r M d119_38 fl17_7 rfl ?_
      refine ie_iload d119_41 rfl ?_
      refine mx_zald (k := 4) (n := ((6 * e) + f)) r M d119_43 rfl rfl rfl (by show 6 * e + f < 12; omega) ?_
      rw [mset_k (by decide)]
      refine ie_if_ne 53 d119_44 (by decide) (fun c44 => ?_) (fun c44 => ?_)
      · skip
        exact absurd ht c44
      · skip
        refine ie_aload_n d119_47 rfl ?_
        refine ie_iconst (nI 2) d119_48 (by decide) ?_
        refine mx_call r M [_] d119_49 ok120 rm119_120 cl17_155 rfl rfl (Nat.le_of_ble_eq_true rfl) (Nat.le_of_ble_eq_true rfl) (s120m (r.ok M) r.2.2 _) (fun hh r => ?_)
        exact ie_iret d119_52 rfl (by first | rfl | decide | exact (ix_bz (bI_01 _)).1 | exact (ix_bz (by assumption)).1) ⟨rfl, r⟩
    · skip
      exact absurd (in_y hn1 hn8 (by decide)) ((bI_0).mp c20)
set_option maxRecDepth 100000 in
set_option maxHeartbeats 4000000 in
/-- append: it must not -/
theorem s119c {G : ix_G} {h : ix_H} {o : Nat} {S : MS} (M : md_ok h o) (hS : ms h o = S) {e f : Nat} (he : e < 2) (hf : f < 6) {n : Nat} (hn1 : 1 ≤ n) (hn8 : n ≤ 8) (w : Int64) {cs : Nat} (hcs3 : cs ≤ 3) (hcs : S 42 e = nI cs) (hsn : ∀ k, k < cs → ∃ t, t < 640 ∧ S 40 (3 * e + k) = nI t) (ht : ¬ S 4 (6 * e + f) = 0) {m : Nat} (hm : S 5 (6 * e + f) = nI m) (hm64 : m ≤ 64) (hL : mLock S e (nI f) cs ∨ 64 < m + n) : ix_E G 119 0 (lv_args 0 [.ref o, .int (nI e), .int (nI f), .int (nI n), .long w]) [] h (fun rv h' => rv = some (.int 0) ∧ mR o h h' (mset (m0 S) 3 0 (nI 3))) := by
  have r : mR o h h S := mR.rf hS
  refine ie_aload_n d119_0 rfl ?_
  refine ie_iconst (nI 0) d119_1 (by decide) ?_
  refine mx_puti r M d119_2 fl17_144 rfl rfl rfl (fun hh r => ?_)
  refine ie_iload_n d119_5 rfl ?_
  refine ie_iload_n d119_6 rfl ?_
  refine ie_callSx [_, _] d119_7 ok117 rm119_117 cl17_151 rfl rfl (Nat.le_of_ble_eq_true rfl) (Nat.le_of_ble_eq_true rfl) (s117 _ _) ?_
  refine ie_if_eq 23 d119_10 (by decide) (fun c10 => ?_) (fun c10 => ?_)
  · skip
    exact absurd (isF_y he hf) ((bI_0).mp c10)
  · skip
    refine ie_iload_n d119_13 rfl ?_
    refine ie_iconst (nI 1) d119_14 (by decide) ?_
    refine ie_bipush (nI 8) d119_15 (by decide) ?_
    refine ie_callSx [_, _, _] d119_17 ok118 rm119_118 cl17_147 rfl rfl (Nat.le_of_ble_eq_true rfl) (Nat.le_of_ble_eq_true rfl) (s118 _ _ _) ?_
    refine ie_if_ne 29 d119_20 (by decide) (fun c20 => ?_) (fun c20 => ?_)
    · skip
      refine ie_bipush (nI 6) d119_29 (by decide) ?_
      refine ie_iload_n d119_31 rfl ?_
      refine ie_imul d119_32 ?_
      rw [pk_mul]
      refine ie_iload_n d119_33 rfl ?_
      refine ie_iadd d119_34 ?_
      rw [nI_add]
      refine ie_istore d119_35 (by decide) ?_
      refine ie_aload_n d119_37 rfl ?_
      refine mx_getr r M d119_38 fl17_7 rfl ?_
      refine ie_iload d119_41 rfl ?_
      refine mx_zald (k := 4) (n := ((6 * e) + f)) r M d119_43 rfl rfl rfl (by show 6 * e + f < 12; omega) ?_
      rw [mset_k (by decide)]
      refine ie_if_ne 53 d119_44 (by decide) (fun c44 => ?_) (fun c44 => ?_)
      · skip
        refine ie_aload_n d119_53 rfl ?_
        refine ie_iload_n d119_54 rfl ?_
        refine ie_iload_n d119_55 rfl ?_
        refine mx_ask r M [_, _] d119_56 ok121 rm119_121 cl17_159 rfl rfl (Nat.le_of_ble_eq_true rfl) (Nat.le_of_ble_eq_true rfl) (s121 (c := cs) (r.ok M) r.2.2 he hcs3 (by rw [mset_k (by decide)]; exact hcs) (fun k hk => by rw [mset_k (by decide)]; exact hsn k hk)) ?_
        refine ie_if_ne 76 d119_59 (by decide) (fun c59 => ?_) (fun c59 => ?_)
        · skip
          refine ie_aload_n d119_76 rfl ?_
          refine ie_iconst (nI 3) d119_77 (by decide) ?_
          refine mx_call r M [_] d119_78 ok120 rm119_120 cl17_155 rfl rfl (Nat.le_of_ble_eq_true rfl) (Nat.le_of_ble_eq_true rfl) (s120m (r.ok M) r.2.2 _) (fun hh r => ?_)
          exact ie_iret d119_81 rfl (by first | rfl | decide | exact (ix_bz (bI_01 _)).1 | exact (ix_bz (by assumption)).1) ⟨rfl, r⟩
        · skip
          refine ie_aload_n d119_62 rfl ?_
          refine mx_getr r M d119_63 fl17_13 rfl ?_
          refine ie_iload d119_66 rfl ?_
          refine mx_iald (k := 5) (n := ((6 * e) + f)) r M d119_68 rfl rfl rfl (by show 6 * e + f < 12; omega) ?_
          rw [mset_k (by decide)]
          rw [hm]
          refine ie_iload_n d119_69 rfl ?_
          refine ie_iadd d119_70 ?_
          rw [nI_add]
          refine ie_bipush (nI 64) d119_71 (by decide) ?_
          refine ie_icmp_le 82 d119_73 (by decide) (fun c73 => ?_) (fun c73 => ?_)
          · skip
            exact hL.elim (fun q => absurd ((mLock_o (fun j => mset_k (by decide)) (fun j => mset_k (by decide))).mpr q) ((bP_0).mp c59)) (fun q => absurd ((nI_leI (by omega) (by omega)).mp c73) (by omega))
          · skip
            refine ie_aload_n d119_76 rfl ?_
            refine ie_iconst (nI 3) d119_77 (by decide) ?_
            refine mx_call r M [_] d119_78 ok120 rm119_120 cl17_155 rfl rfl (Nat.le_of_ble_eq_true rfl) (Nat.le_of_ble_eq_true rfl) (s120m (r.ok M) r.2.2 _) (fun hh r => ?_)
            exact ie_iret d119_81 rfl (by first | rfl | decide | exact (ix_bz (bI_01 _)).1 | exact (ix_bz (by assumption)).1) ⟨rfl, r⟩
      · skip
        exact absurd c44 ht
    · skip
      exact absurd (in_y hn1 hn8 (by decide)) ((bI_0).mp c20)
set_option maxRecDepth 100000 in
set_option maxHeartbeats 4000000 in
/-- append: its loop -/
theorem s119_l {G : ix_G} {h0 : ix_H} {o : Nat} {S : MS} (M : md_ok h0 o) {F m n : Nat} {w : Int64} (hF : F < 12) (hm : S 5 F = nI m) (hmn : m + n ≤ 64) :
    ∀ (z i : Nat), i ≤ n → n - i < z → ∀ h, mR o h0 h (mAp S F m w i) → ∀ (lv : List (Nat × Value)), lv.lookup 0 = some (.ref o) → lv.lookup 3 = some (.int (nI n)) → lv.lookup 4 = some (.long w) → lv.lookup 6 = some (.int (nI F)) → lv.lookup 7 = some (.int (nI i)) → ix_E G 119 85 lv [] h (fun rv h' => rv = some (.int (nI (m + n))) ∧ mR o h0 h' (mApp S F m n w)) := by
  intro z
  induction z with
  | zero => intro i h1 h2; omega
  | succ z ih =>
    intro i hi hz h r lv l0 l3 l4 l6 l7
    refine ie_iload d119_85 l7 ?_
    refine ie_iload_n d119_87 l3 ?_
    refine ie_icmp_ge 131 d119_88 (by decide) (fun c88 => ?_) (fun c88 => ?_)
    · skip
      rw [nI_leI (by omega) (by omega)] at c88
      have hi2 : i = n := by omega
      subst hi2
      refine ie_aload_n d119_131 l0 ?_
      refine mx_getr r M d119_132 fl17_13 rfl ?_
      refine ie_iload d119_135 l6 ?_
      refine ie_aload_n d119_137 l0 ?_
      refine mx_getr r M d119_138 fl17_13 rfl ?_
      refine ie_iload d119_141 l6 ?_
      refine mx_iald (k := 5) (n := F) r M d119_143 rfl rfl rfl (by show F < 12; exact hF) ?_
      rw [mAp_o (by decide), hm]
      refine ie_iload_n d119_144 l3 ?_
      refine ie_iadd d119_145 ?_
      rw [nI_add]
      refine mx_iast (k := 5) (n := F) r M d119_146 rfl rfl rfl (by show F < 12; exact hF) (fun hh r => ?_)
      refine ie_aload_n d119_147 l0 ?_
      refine mx_getr r M d119_148 fl17_13 rfl ?_
      refine ie_iload d119_151 l6 ?_
      refine mx_iald (k := 5) (n := F) r M d119_153 rfl rfl rfl (by show F < 12; exact hF) ?_
      rw [mset_s]
      exact ie_iret d119_154 rfl (by first | rfl | decide | exact (ix_bz (bI_01 _)).1 | exact (ix_bz (by assumption)).1) ⟨rfl, r⟩
    · skip
      rw [nI_leI (by omega) (by omega)] at c88
      refine ie_aload_n d119_91 l0 ?_
      refine mx_getr r M d119_92 fl17_17 rfl ?_
      refine ie_bipush (nI 64) d119_95 (by decide) ?_
      refine ie_iload d119_97 l6 ?_
      refine ie_imul d119_99 ?_
      rw [pk_mul]
      refine ie_aload_n d119_100 l0 ?_
      refine mx_getr r M d119_101 fl17_13 rfl ?_
      refine ie_iload d119_104 l6 ?_
      refine mx_iald (k := 5) (n := F) r M d119_106 rfl rfl rfl (by show F < 12; exact hF) ?_
      rw [mAp_o (by decide), hm]
      refine ie_iadd d119_107 ?_
      rw [nI_add]
      refine ie_iload d119_108 l7 ?_
      refine ie_iadd d119_110 ?_
      rw [nI_add]
      refine ie_lload d119_111 l4 ?_
      refine ie_bipush (nI 8) d119_113 (by decide) ?_
      refine ie_iload d119_115 l7 ?_
      refine ie_imul d119_117 ?_
      rw [pk_mul]
      refine ie_lshr d119_118 ?_
      refine ie_ldc2 (v := 255) d119_119 (ix_in 1124 (by decide +kernel) (by decide +kernel)) ?_
      refine ie_land d119_122 ?_
      refine ie_l2i d119_123 ?_
      refine mx_iast (k := 6) (n := (64 * F + m + i)) r M d119_124 rfl rfl rfl (by show 64 * F + m + i < 768; omega) (fun hh r => ?_)
      refine ie_iinc (nI (i + 1)) d119_125 l7 (nI_1 _) (by decide) ?_
      refine ie_goto 85 d119_128 (by decide) ?_
      exact ih (i + 1) (by omega) (by omega) hh (by rw [← mAp_s]; exact r) _ (ix_lk3 (by decide) l0 rfl) (ix_lk3 (by decide) l3 rfl) (ix_lk4 (by decide) (by decide) l4) (ix_lk3 (by decide) l6 rfl) ix_lk1
set_option maxRecDepth 100000 in
set_option maxHeartbeats 4000000 in
/-- append -/
theorem s119y {G : ix_G} {h : ix_H} {o : Nat} {S : MS} (M : md_ok h o) (hS : ms h o = S) {e f : Nat} (he : e < 2) (hf : f < 6) {n : Nat} (hn1 : 1 ≤ n) (hn8 : n ≤ 8) (w : Int64) {cs : Nat} (hcs3 : cs ≤ 3) (hcs : S 42 e = nI cs) (hsn : ∀ k, k < cs → ∃ t, t < 640 ∧ S 40 (3 * e + k) = nI t) (ht : ¬ S 4 (6 * e + f) = 0) {m : Nat} (hm : S 5 (6 * e + f) = nI m) (hm64 : m ≤ 64) (hL : ¬ mLock S e (nI f) cs) (hmn : m + n ≤ 64) : ix_E G 119 0 (lv_args 0 [.ref o, .int (nI e), .int (nI f), .int (nI n), .long w]) [] h (fun rv h' => rv = some (.int (nI (m + n))) ∧ mR o h h' (mApp (m0 S) (6 * e + f) m n w)) := by
  have r : mR o h h S := mR.rf hS
  refine ie_aload_n d119_0 rfl ?_
  refine ie_iconst (nI 0) d119_1 (by decide) ?_
  refine mx_puti r M d119_2 fl17_144 rfl rfl rfl (fun hh r => ?_)
  refine ie_iload_n d119_5 rfl ?_
  refine ie_iload_n d119_6 rfl ?_
  refine ie_callSx [_, _] d119_7 ok117 rm119_117 cl17_151 rfl rfl (Nat.le_of_ble_eq_true rfl) (Nat.le_of_ble_eq_true rfl) (s117 _ _) ?_
  refine ie_if_eq 23 d119_10 (by decide) (fun c10 => ?_) (fun c10 => ?_)
  · skip
    exact absurd (isF_y he hf) ((bI_0).mp c10)
  · skip
    refine ie_iload_n d119_13 rfl ?_
    refine ie_iconst (nI 1) d119_14 (by decide) ?_
    refine ie_bipush (nI 8) d119_15 (by decide) ?_
    refine ie_callSx [_, _, _] d119_17 ok118 rm119_118 cl17_147 rfl rfl (Nat.le_of_ble_eq_true rfl) (Nat.le_of_ble_eq_true rfl) (s118 _ _ _) ?_
    refine ie_if_ne 29 d119_20 (by decide) (fun c20 => ?_) (fun c20 => ?_)
    · skip
      refine ie_bipush (nI 6) d119_29 (by decide) ?_
      refine ie_iload_n d119_31 rfl ?_
      refine ie_imul d119_32 ?_
      rw [pk_mul]
      refine ie_iload_n d119_33 rfl ?_
      refine ie_iadd d119_34 ?_
      rw [nI_add]
      refine ie_istore d119_35 (by decide) ?_
      refine ie_aload_n d119_37 rfl ?_
      refine mx_getr r M d119_38 fl17_7 rfl ?_
      refine ie_iload d119_41 rfl ?_
      refine mx_zald (k := 4) (n := ((6 * e) + f)) r M d119_43 rfl rfl rfl (by show 6 * e + f < 12; omega) ?_
      rw [mset_k (by decide)]
      refine ie_if_ne 53 d119_44 (by decide) (fun c44 => ?_) (fun c44 => ?_)
      · skip
        refine ie_aload_n d119_53 rfl ?_
        refine ie_iload_n d119_54 rfl ?_
        refine ie_iload_n d119_55 rfl ?_
        refine mx_ask r M [_, _] d119_56 ok121 rm119_121 cl17_159 rfl rfl (Nat.le_of_ble_eq_true rfl) (Nat.le_of_ble_eq_true rfl) (s121 (c := cs) (r.ok M) r.2.2 he hcs3 (by rw [mset_k (by decide)]; exact hcs) (fun k hk => by rw [mset_k (by decide)]; exact hsn k hk)) ?_
        refine ie_if_ne 76 d119_59 (by decide) (fun c59 => ?_) (fun c59 => ?_)
        · skip
          exact absurd ((bP_0).mpr (fun q => hL ((mLock_o (fun j => mset_k (by decide)) (fun j => mset_k (by decide))).mp q))) c59
        · skip
          refine ie_aload_n d119_62 rfl ?_
          refine mx_getr r M d119_63 fl17_13 rfl ?_
          refine ie_iload d119_66 rfl ?_
          refine mx_iald (k := 5) (n := ((6 * e) + f)) r M d119_68 rfl rfl rfl (by show 6 * e + f < 12; omega) ?_
          rw [mset_k (by decide)]
          rw [hm]
          refine ie_iload_n d119_69 rfl ?_
          refine ie_iadd d119_70 ?_
          rw [nI_add]
          refine ie_bipush (nI 64) d119_71 (by decide) ?_
          refine ie_icmp_le 82 d119_73 (by decide) (fun c73 => ?_) (fun c73 => ?_)
          · skip
            refine ie_iconst (nI 0) d119_82 (by decide) ?_
            refine ie_istore d119_83 (by decide) ?_
            exact s119_l M (by omega) (by show mset S 3 0 (nI 0) 5 _ = nI m; rw [mset_k (by decide)]; exact hm) hmn (n + 1) 0 (by omega) (by omega) hh (by rw [mAp_0]; exact r) _ rfl rfl rfl rfl rfl
          · skip
            exact absurd ((nI_leI (by omega) (by omega)).mpr hmn) c73
      · skip
        exact absurd c44 ht
    · skip
      exact absurd (in_y hn1 hn8 (by decide)) ((bI_0).mp c20)
