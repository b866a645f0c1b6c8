/-- byte i of what came -/
def mB (S : MS) (p i : Nat) : Int32 := if S 39 (16 * p + i / 4) ≤ nI (i % 4) then nI 0 else (S 38 (16 * p + i / 4) >>> (nI (24 - 8 * (i % 4)) &&& 31)) &&& nI 255
set_option maxRecDepth 100000 in
set_option maxHeartbeats 4000000 in
/-- byteOf -/
theorem s155 {G : ix_G} {h : ix_H} {o : Nat} {S : MS} (M : md_ok h o) (hS : ms h o = S) {t p i : Nat} (ht : t < 640) (hp : S 25 t = nI p) (hp6 : p < 6) (hi : i < 64) : ix_Ev G 155 0 (lv_args 0 [.ref o, .int (nI t), .int (nI i)]) [] h (some (.int (mB S p i))) (h) := by
  refine ix_ofE ?_
  have r : mR o h h S := mR.rf hS
  refine ie_aload_n d155_0 rfl ?_
  refine mx_getr r M d155_1 fl17_116 rfl ?_
  refine ie_bipush (nI 16) d155_4 (by decide) ?_
  refine ie_aload_n d155_6 rfl ?_
  refine mx_getr r M d155_7 fl17_74 rfl ?_
  refine ie_iload_n d155_10 rfl ?_
  refine mx_iald (k := 25) (n := t) r M d155_11 rfl rfl rfl (by show t < 640; exact ht) ?_
  rw [hp]
  refine ie_imul d155_12 ?_
  rw [pk_mul]
  refine ie_iload_n d155_13 rfl ?_
  refine ie_iconst (nI 4) d155_14 (by decide) ?_
  refine ie_idiv d155_15 (by decide) ?_
  rw [pk_div (by omega) (by decide) (by decide)]
  refine ie_iadd d155_16 ?_
  rw [nI_add]
  refine mx_iald (k := 39) (n := (16 * p + i / 4)) r M d155_17 rfl rfl rfl (by show 16 * p + i / 4 < 96; omega) ?_
  refine ie_istore_n d155_18 (by decide) ?_
  refine ie_iload_n d155_19 rfl ?_
  refine ie_iconst (nI 4) d155_20 (by decide) ?_
  refine ie_irem d155_21 (by decide) ?_
  rw [pk_rem (by omega) (by decide) (by decide)]
  refine ie_iload_n d155_22 rfl ?_
  refine ie_icmp_ge 61 d155_23 (by decide) (fun c23 => ?_) (fun c23 => ?_)
  · skip
    have K : nI 0 = mB S p i := by
      unfold mB
      rw [if_pos c23]
    refine ie_iconst (nI 0) d155_61 (by decide) ?_
    exact ie_iret d155_62 rfl (by first | rfl | decide | exact (ix_bz (bI_01 _)).1 | exact (ix_bz (by assumption)).1) ⟨by rw [K], rfl⟩
  · skip
    have K : (S 38 (16 * p + i / 4) >>> (nI (24 - 8 * (i % 4)) &&& 31)) &&& nI 255 = mB S p i := by
      unfold mB
      rw [if_neg c23]
    refine ie_aload_n d155_26 rfl ?_
    refine mx_getr r M d155_27 fl17_113 rfl ?_
    refine ie_bipush (nI 16) d155_30 (by decide) ?_
    refine ie_aload_n d155_32 rfl ?_
    refine mx_getr r M d155_33 fl17_74 rfl ?_
    refine ie_iload_n d155_36 rfl ?_
    refine mx_iald (k := 25) (n := t) r M d155_37 rfl rfl rfl (by show t < 640; exact ht) ?_
    rw [hp]
    refine ie_imul d155_38 ?_
    rw [pk_mul]
    refine ie_iload_n d155_39 rfl ?_
    refine ie_iconst (nI 4) d155_40 (by decide) ?_
    refine ie_idiv d155_41 (by decide) ?_
    rw [pk_div (by omega) (by decide) (by decide)]
    refine ie_iadd d155_42 ?_
    rw [nI_add]
    refine mx_iald (k := 38) (n := (16 * p + i / 4)) r M d155_43 rfl rfl rfl (by show 16 * p + i / 4 < 96; omega) ?_
    refine ie_bipush (nI 24) d155_44 (by decide) ?_
    refine ie_bipush (nI 8) d155_46 (by decide) ?_
    refine ie_iload_n d155_48 rfl ?_
    refine ie_iconst (nI 4) d155_49 (by decide) ?_
    refine ie_irem d155_50 (by decide) ?_
    rw [pk_rem (by omega) (by decide) (by decide)]
    refine ie_imul d155_51 ?_
    rw [pk_mul]
    refine ie_isub d155_52 ?_
    rw [pk_sub (by omega)]
    refine ie_ishr d155_53 ?_
    refine ie_sipush (nI 255) d155_54 (by decide) ?_
    refine ie_iand d155_57 ?_
    refine ie_goto 62 d155_58 (by decide) ?_
    exact ie_iret d155_62 rfl (by first | rfl | decide | exact (ix_bz (bI_01 _)).1 | exact (ix_bz (by assumption)).1) ⟨by rw [K], rfl⟩
/-- file q becomes a copy of the first n bytes of file f -/
def mCpy (S : MS) (q f n : Nat) : MS := fun k j => if k = 6 ∧ 64 * q ≤ j ∧ j < 64 * q + n then S 6 (64 * f + (j - 64 * q)) else S k j
theorem mCpy_0 {S : MS} {q f : Nat} : mCpy S q f 0 = S := by
  funext k j
  unfold mCpy
  rw [if_neg (by omega)]
theorem mCpy_o {S : MS} {q f n k j : Nat} (h : k ≠ 6) : mCpy S q f n k j = S k j := by
  unfold mCpy
  rw [if_neg (fun z => h z.1)]
theorem mCpy_r {S : MS} {q f i : Nat} (hi : i < 64) : mCpy S q f i 6 (64 * f + i) = S 6 (64 * f + i) := by
  unfold mCpy
  rw [if_neg (by omega)]
theorem mCpy_s {S : MS} {q f i : Nat} : mset (mCpy S q f i) 6 (64 * q + i) (S 6 (64 * f + i)) = mCpy S q f (i + 1) := by
  funext k j
  by_cases e : k = 6
  · subst e
    rw [mset_if rfl]
    unfold mCpy
    by_cases ej : j = 64 * q + i
    · subst ej
      rw [if_pos rfl, if_pos ⟨rfl, by omega, by omega⟩, Nat.add_sub_cancel_left]
    · rw [if_neg ej]
      by_cases z : 6 = 6 ∧ 64 * q ≤ j ∧ j < 64 * q + i
      · rw [if_pos z, if_pos ⟨rfl, z.2.1, by omega⟩]
      · rw [if_neg z, if_neg (show ¬ (6 = 6 ∧ 64 * q ≤ j ∧ j < 64 * q + (i + 1)) from fun y => z ⟨rfl, y.2.1, by omega⟩)]
  · rw [mset_k e]
    unfold mCpy
    rw [if_neg (show ¬ (k = 6 ∧ 64 * q ≤ j ∧ j < 64 * q + i) from fun z => e z.1), if_neg (show ¬ (k = 6 ∧ 64 * q ≤ j ∧ j < 64 * q + (i + 1)) from fun z => e z.1)]
def mCan2 (S : MS) (e p ot cs : Nat) : Prop := ¬ mLock S e (nI ot) cs ∧ (S 33 p = nI 2 ∨ ¬ S 4 (6 * e + ot) = 0)
noncomputable def mGr1 (S : MS) (t e f p ot n : Nat) : MS := if S 33 p = nI 1 then mset (mset S 24 t (nI 1)) 4 (6 * e + ot) (nI 0) else mCpy (mset (mset (mset S 24 t (nI 1)) 4 (6 * e + ot) (nI 1)) 5 (6 * e + ot) (nI n)) (6 * e + ot) f n
noncomputable def mGrant (S : MS) (t e f p ot n cs : Nat) : MS := if S 33 p = 0 then S else @ite _ (mCan2 S e p ot cs) (Classical.propDecidable _) (mGr1 S t e f p ot n) (mset S 24 t (nI 2))
set_option maxRecDepth 100000 in
set_option maxHeartbeats 4000000 in
/-- grant: the copy -/
theorem s156_cp {G : ix_G} {h0 : ix_H} {o : Nat} {S : MS} (M : md_ok h0 o) {f q n : Nat} (hf : f < 12) (hq : q < 12) (hn64 : n ≤ 64) (hl : S 5 f = nI n) :
    ∀ (z i : Nat), i ≤ n → n - i < z → ∀ h, mR o h0 h (mCpy S q f i) → ∀ (lv : List (Nat × Value)), lv.lookup 0 = some (.ref o) → lv.lookup 3 = some (.int (nI f)) → lv.lookup 4 = some (.int (nI q)) → lv.lookup 6 = some (.int (nI i)) → ix_E G 156 154 lv [] h (fun rv h' => rv = none ∧ mR o h0 h' (mCpy S q f n)) := by
  intro z
  induction z with
  | zero => intro i h1 h2; omega
  | succ z ih =>
    intro i hi hz h r lv l0 l3 l4 l6
    refine ie_iload d156_154 l6 ?_
    refine ie_aload_n d156_156 l0 ?_
    refine mx_getr r M d156_157 fl17_13 rfl ?_
    refine ie_iload_n d156_160 l3 ?_
    refine mx_iald (k := 5) (n := f) r M d156_161 rfl rfl rfl (by show f < 12; exact hf) ?_
    rw [mCpy_o (by decide), hl]
    refine ie_icmp_ge 196 d156_162 (by decide) (fun c162 => ?_) (fun c162 => ?_)
    · skip
      rw [nI_leI (by omega) (by omega)] at c162
      have hi2 : i = n := by omega
      subst hi2
      exact ie_vret d156_196 rfl ⟨rfl, r⟩
    · skip
      rw [nI_leI (by omega) (by omega)] at c162
      refine ie_aload_n d156_165 l0 ?_
      refine mx_getr r M d156_166 fl17_17 rfl ?_
      refine ie_bipush (nI 64) d156_169 (by decide) ?_
      refine ie_iload d156_171 l4 ?_
      refine ie_imul d156_173 ?_
      rw [pk_mul]
      refine ie_iload d156_174 l6 ?_
      refine ie_iadd d156_176 ?_
      rw [nI_add]
      refine ie_aload_n d156_177 l0 ?_
      refine mx_getr r M d156_178 fl17_17 rfl ?_
      refine ie_bipush (nI 64) d156_181 (by decide) ?_
      refine ie_iload_n d156_183 l3 ?_
      refine ie_imul d156_184 ?_
      rw [pk_mul]
      refine ie_iload d156_185 l6 ?_
      refine ie_iadd d156_187 ?_
      rw [nI_add]
      refine mx_iald (k := 6) (n := (64 * f + i)) r M d156_188 rfl rfl rfl (by show 64 * f + i < 768; omega) ?_
      rw [mCpy_r (by omega)]
      refine mx_iast (k := 6) (n := (64 * q + i)) r M d156_189 rfl rfl rfl (by show 64 * q + i < 768; omega) (fun hh r => ?_)
      refine ie_iinc (nI (i + 1)) d156_190 l6 (nI_1 _) (by decide) ?_
      refine ie_goto 154 d156_193 (by decide) ?_
      exact ih (i + 1) (by omega) (by omega) hh (by rw [← mCpy_s]; exact r) _ (ix_lk3 (by decide) l0 rfl) (ix_lk3 (by decide) l3 rfl) (ix_lk3 (by decide) l4 rfl) ix_lk1
set_option maxRecDepth 100000 in
set_option maxHeartbeats 4000000 in
/-- grant -/
theorem s156 {G : ix_G} {h : ix_H} {o : Nat} {S : MS} (M : md_ok h o) (hS : ms h o = S) {t e f p ot n cs : Nat} (he : e < 2) (ht : t < 640) (hp : S 25 t = nI p) (hp6 : p < 6) (hot : S 34 p = nI ot) (hot6 : ot < 6) (hf : f < 12) (hl : S 5 f = nI n) (hn64 : n ≤ 64) (hcs3 : cs ≤ 3) (hcs : S 42 e = nI cs) (hsn : ∀ k, k < cs → ∃ t, t < 640 ∧ S 40 (3 * e + k) = nI t) : ix_E G 156 0 (lv_args 0 [.ref o, .int (nI t), .int (nI e), .int (nI f)]) [] h (fun rv h' => rv = none ∧ mR o h h' (mGrant S t e f p ot n cs)) := by
  have r : mR o h h S := mR.rf hS
  refine ie_aload_n d156_0 rfl ?_
  refine mx_getr r M d156_1 fl17_98 rfl ?_
  refine ie_aload_n d156_4 rfl ?_
  refine mx_getr r M d156_5 fl17_74 rfl ?_
  refine ie_iload_n d156_8 rfl ?_
  refine mx_iald (k := 25) (n := t) r M d156_9 rfl rfl rfl (by show t < 640; exact ht) ?_
  rw [hp]
  refine mx_iald (k := 33) (n := p) r M d156_10 rfl rfl rfl (by show p < 6; exact hp6) ?_
  refine ie_if_ne 15 d156_11 (by decide) (fun c11 => ?_) (fun c11 => ?_)
  · skip
    unfold mGrant
    rw [if_neg c11]
    refine ie_bipush (nI 6) d156_15 (by decide) ?_
    refine ie_iload_n d156_17 rfl ?_
    refine ie_imul d156_18 ?_
    rw [pk_mul]
    refine ie_aload_n d156_19 rfl ?_
    refine mx_getr r M d156_20 fl17_101 rfl ?_
    refine ie_aload_n d156_23 rfl ?_
    refine mx_getr r M d156_24 fl17_74 rfl ?_
    refine ie_iload_n d156_27 rfl ?_
    refine mx_iald (k := 25) (n := t) r M d156_28 rfl rfl rfl (by show t < 640; exact ht) ?_
    rw [hp]
    refine mx_iald (k := 34) (n := p) r M d156_29 rfl rfl rfl (by show p < 6; exact hp6) ?_
    rw [hot]
    refine ie_iadd d156_30 ?_
    rw [nI_add]
    refine ie_istore d156_31 (by decide) ?_
    refine ie_aload_n d156_33 rfl ?_
    refine ie_iload_n d156_34 rfl ?_
    refine ie_aload_n d156_35 rfl ?_
    refine mx_getr r M d156_36 fl17_101 rfl ?_
    refine ie_aload_n d156_39 rfl ?_
    refine mx_getr r M d156_40 fl17_74 rfl ?_
    refine ie_iload_n d156_43 rfl ?_
    refine mx_iald (k := 25) (n := t) r M d156_44 rfl rfl rfl (by show t < 640; exact ht) ?_
    rw [hp]
    refine mx_iald (k := 34) (n := p) r M d156_45 rfl rfl rfl (by show p < 6; exact hp6) ?_
    rw [hot]
    refine mx_ask r M [_, _] d156_46 ok121 rm156_121 cl17_159 rfl rfl (Nat.le_of_ble_eq_true rfl) (Nat.le_of_ble_eq_true rfl) (s121 (r.ok M) r.2.2 he hcs3 hcs hsn) ?_
    refine ie_if_ne 81 d156_49 (by decide) (fun c49 => ?_) (fun c49 => ?_)
    · skip
      rw [bP_0, Classical.not_not] at c49
      have K : ¬ mCan2 S e p ot cs := fun z => z.1 c49
      rw [@if_neg _ (Classical.propDecidable _) K]
      refine ie_iconst (nI 0) d156_81 (by decide) ?_
      refine ie_istore d156_82 (by decide) ?_
      refine ie_aload_n d156_84 rfl ?_
      refine mx_getr r M d156_85 fl17_71 rfl ?_
      refine ie_iload_n d156_88 rfl ?_
      refine ie_iload d156_89 rfl ?_
      refine ie_if_eq 98 d156_91 (by decide) (fun c91 => ?_) (fun c91 => ?_)
      · skip
        first | (exact absurd c91 (by decide)) | (exact absurd (by decide) c91) | (
           skip
           skip
           refine ie_iconst (nI 2) d156_98 (by decide) ?_
           refine mx_iast (k := 24) (n := t) r M d156_99 rfl rfl rfl (by show t < 640; exact ht) (fun hh r => ?_)
           refine ie_iload d156_100 rfl ?_
           refine ie_if_ne 106 d156_102 (by decide) (fun c102 => ?_) (fun c102 => ?_)
           · skip
             first | (exact absurd c102 (by decide)) | (exact absurd (by decide) c102) | (
                skip
                skip
                refine ie_aload_n d156_106 rfl ?_
                refine mx_getr r M d156_107 fl17_98 rfl ?_
                refine ie_aload_n d156_110 rfl ?_
                refine mx_getr r M d156_111 fl17_74 rfl ?_
                refine ie_iload_n d156_114 rfl ?_
                refine mx_iald (k := 25) (n := t) r M d156_115 rfl rfl rfl (by show t < 640; exact ht) ?_
                rw [mset_k (by decide)]
                rw [hp]
                refine mx_iald (k := 33) (n := p) r M d156_116 rfl rfl rfl (by show p < 6; exact hp6) ?_
                rw [mset_k (by decide)]
                refine ie_iconst (nI 1) d156_117 (by decide) ?_
                refine ie_icmp_ne 130 d156_118 (by decide) (fun c118 => ?_) (fun c118 => ?_)
                · skip
                  unfold mGr1
                  rw [if_neg c118]
                  refine ie_aload_n d156_130 rfl ?_
                  refine mx_getr r M d156_131 fl17_7 rfl ?_
                  refine ie_iload d156_134 rfl ?_
                  refine ie_iconst (nI 1) d156_136 (by decide) ?_
                  refine mx_zast (k := 4) (n := (6 * e + ot)) r M d156_137 rfl rfl (by first | exact Or.inl rfl | exact Or.inr rfl | assumption | exact bI_01 _) rfl (by show 6 * e + ot < 12; omega) (fun hh r => ?_)
                  refine ie_aload_n d156_138 rfl ?_
                  refine mx_getr r M d156_139 fl17_13 rfl ?_
                  refine ie_iload d156_142 rfl ?_
                  refine ie_aload_n d156_144 rfl ?_
                  refine mx_getr r M d156_145 fl17_13 rfl ?_
                  refine ie_iload_n d156_148 rfl ?_
                  refine mx_iald (k := 5) (n := f) r M d156_149 rfl rfl rfl (by show f < 12; exact hf) ?_
                  rw [mset_k (by decide)]
                  rw [mset_k (by decide)]
                  rw [hl]
                  refine mx_iast (k := 5) (n := (6 * e + ot)) r M d156_150 rfl rfl rfl (by show 6 * e + ot < 12; omega) (fun hh r => ?_)
                  refine ie_iconst (nI 0) d156_151 (by decide) ?_
                  refine ie_istore d156_152 (by decide) ?_
                  exact s156_cp M hf (by omega) hn64 (by rw [mset_if rfl]; split; rfl; rw [mset_k (by decide), mset_k (by decide)]; exact hl) (n + 1) 0 (by omega) (by omega) hh (by rw [mCpy_0]; exact r) _ rfl rfl rfl rfl
                · skip
                  unfold mGr1
                  rw [if_pos c118]
                  refine ie_aload_n d156_121 rfl ?_
                  refine mx_getr r M d156_122 fl17_7 rfl ?_
                  refine ie_iload d156_125 rfl ?_
                  refine ie_iconst (nI 0) d156_127 (by decide) ?_
                  refine mx_zast (k := 4) (n := (6 * e + ot)) r M d156_128 rfl rfl (by first | exact Or.inl rfl | exact Or.inr rfl | assumption | exact bI_01 _) rfl (by show 6 * e + ot < 12; omega) (fun hh r => ?_)
                  exact ie_vret d156_129 rfl ⟨rfl, r⟩)
           · skip
             first | (exact absurd c102 (by decide)) | (exact absurd (by decide) c102) | (
                skip
                skip
                exact ie_vret d156_105 rfl ⟨rfl, r⟩))
      · skip
        first | (exact absurd c91 (by decide)) | (exact absurd (by decide) c91) | (
           skip
           skip
           refine ie_iconst (nI 1) d156_94 (by decide) ?_
           refine ie_goto 99 d156_95 (by decide) ?_
           refine mx_iast (k := 24) (n := t) r M d156_99 rfl rfl rfl (by show t < 640; exact ht) (fun hh r => ?_)
           refine ie_iload d156_100 rfl ?_
           refine ie_if_ne 106 d156_102 (by decide) (fun c102 => ?_) (fun c102 => ?_)
           · skip
             first | (exact absurd c102 (by decide)) | (exact absurd (by decide) c102) | (
                skip
                skip
                refine ie_aload_n d156_106 rfl ?_
                refine mx_getr r M d156_107 fl17_98 rfl ?_
                refine ie_aload_n d156_110 rfl ?_
                refine mx_getr r M d156_111 fl17_74 rfl ?_
                refine ie_iload_n d156_114 rfl ?_
                refine mx_iald (k := 25) (n := t) r M d156_115 rfl rfl rfl (by show t < 640; exact ht) ?_
                rw [mset_k (by decide)]
                rw [hp]
                refine mx_iald (k := 33) (n := p) r M d156_116 rfl rfl rfl (by show p < 6; exact hp6) ?_
                rw [mset_k (by decide)]
                refine ie_iconst (nI 1) d156_117 (by decide) ?_
                refine ie_icmp_ne 130 d156_118 (by decide) (fun c118 => ?_) (fun c118 => ?_)
                · skip
                  unfold mGr1
                  rw [if_neg c118]
                  refine ie_aload_n d156_130 rfl ?_
                  refine mx_getr r M d156_131 fl17_7 rfl ?_
                  refine ie_iload d156_134 rfl ?_
                  refine ie_iconst (nI 1) d156_136 (by decide) ?_
                  refine mx_zast (k := 4) (n := (6 * e + ot)) r M d156_137 rfl rfl (by first | exact Or.inl rfl | exact Or.inr rfl | assumption | exact bI_01 _) rfl (by show 6 * e + ot < 12; omega) (fun hh r => ?_)
                  refine ie_aload_n d156_138 rfl ?_
                  refine mx_getr r M d156_139 fl17_13 rfl ?_
                  refine ie_iload d156_142 rfl ?_
                  refine ie_aload_n d156_144 rfl ?_
                  refine mx_getr r M d156_145 fl17_13 rfl ?_
                  refine ie_iload_n d156_148 rfl ?_
                  refine mx_iald (k := 5) (n := f) r M d156_149 rfl rfl rfl (by show f < 12; exact hf) ?_
                  rw [mset_k (by decide)]
                  rw [mset_k (by decide)]
                  rw [hl]
                  refine mx_iast (k := 5) (n := (6 * e + ot)) r M d156_150 rfl rfl rfl (by show 6 * e + ot < 12; omega) (fun hh r => ?_)
                  refine ie_iconst (nI 0) d156_151 (by decide) ?_
                  refine ie_istore d156_152 (by decide) ?_
                  exact s156_cp M hf (by omega) hn64 (by rw [mset_if rfl]; split; rfl; rw [mset_k (by decide), mset_k (by decide)]; exact hl) (n + 1) 0 (by omega) (by omega) hh (by rw [mCpy_0]; exact r) _ rfl rfl rfl rfl
                · skip
                  unfold mGr1
                  rw [if_pos c118]
                  refine ie_aload_n d156_121 rfl ?_
                  refine mx_getr r M d156_122 fl17_7 rfl ?_
                  refine ie_iload d156_125 rfl ?_
                  refine ie_iconst (nI 0) d156_127 (by decide) ?_
                  refine mx_zast (k := 4) (n := (6 * e + ot)) r M d156_128 rfl rfl (by first | exact Or.inl rfl | exact Or.inr rfl | assumption | exact bI_01 _) rfl (by show 6 * e + ot < 12; omega) (fun hh r => ?_)
                  exact ie_vret d156_129 rfl ⟨rfl, r⟩)
           · skip
             first | (exact absurd c102 (by decide)) | (exact absurd (by decide) c102) | (
                skip
                skip
                exact ie_vret d156_105 rfl ⟨rfl, r⟩))
    · skip
      rw [bP_0] at c49
      refine ie_aload_n d156_52 rfl ?_
      refine mx_getr r M d156_53 fl17_98 rfl ?_
      refine ie_aload_n d156_56 rfl ?_
      refine mx_getr r M d156_57 fl17_74 rfl ?_
      refine ie_iload_n d156_60 rfl ?_
      refine mx_iald (k := 25) (n := t) r M d156_61 rfl rfl rfl (by show t < 640; exact ht) ?_
      rw [hp]
      refine mx_iald (k := 33) (n := p) r M d156_62 rfl rfl rfl (by show p < 6; exact hp6) ?_
      refine ie_iconst (nI 2) d156_63 (by decide) ?_
      refine ie_icmp_eq 77 d156_64 (by decide) (fun c64 => ?_) (fun c64 => ?_)
      · skip
        have K : mCan2 S e p ot cs := ⟨c49, Or.inl c64⟩
        rw [@if_pos _ (Classical.propDecidable _) K]
        refine ie_iconst (nI 1) d156_77 (by decide) ?_
        refine ie_goto 82 d156_78 (by decide) ?_
        refine ie_istore d156_82 (by decide) ?_
        refine ie_aload_n d156_84 rfl ?_
        refine mx_getr r M d156_85 fl17_71 rfl ?_
        refine ie_iload_n d156_88 rfl ?_
        refine ie_iload d156_89 rfl ?_
        refine ie_if_eq 98 d156_91 (by decide) (fun c91 => ?_) (fun c91 => ?_)
        · skip
          first | (exact absurd c91 (by decide)) | (exact absurd (by decide) c91) | (
             skip
             skip
             refine ie_iconst (nI 2) d156_98 (by decide) ?_
             refine mx_iast (k := 24) (n := t) r M d156_99 rfl rfl rfl (by show t < 640; exact ht) (fun hh r => ?_)
             refine ie_iload d156_100 rfl ?_
             refine ie_if_ne 106 d156_102 (by decide) (fun c102 => ?_) (fun c102 => ?_)
             · skip
               first | (exact absurd c102 (by decide)) | (exact absurd (by decide) c102) | (
                  skip
                  skip
                  refine ie_aload_n d156_106 rfl ?_
                  refine mx_getr r M d156_107 fl17_98 rfl ?_
                  refine ie_aload_n d156_110 rfl ?_
                  refine mx_getr r M d156_111 fl17_74 rfl ?_
                  refine ie_iload_n d156_114 rfl ?_
                  refine mx_iald (k := 25) (n := t) r M d156_115 rfl rfl rfl (by show t < 640; exact ht) ?_
                  rw [mset_k (by decide)]
                  rw [hp]
                  refine mx_iald (k := 33) (n := p) r M d156_116 rfl rfl rfl (by show p < 6; exact hp6) ?_
                  rw [mset_k (by decide)]
                  refine ie_iconst (nI 1) d156_117 (by decide) ?_
                  refine ie_icmp_ne 130 d156_118 (by decide) (fun c118 => ?_) (fun c118 => ?_)
                  · skip
                    unfold mGr1
                    rw [if_neg c118]
                    refine ie_aload_n d156_130 rfl ?_
                    refine mx_getr r M d156_131 fl17_7 rfl ?_
                    refine ie_iload d156_134 rfl ?_
                    refine ie_iconst (nI 1) d156_136 (by decide) ?_
                    refine mx_zast (k := 4) (n := (6 * e + ot)) r M d156_137 rfl rfl (by first | exact Or.inl rfl | exact Or.inr rfl | assumption | exact bI_01 _) rfl (by show 6 * e + ot < 12; omega) (fun hh r => ?_)
                    refine ie_aload_n d156_138 rfl ?_
                    refine mx_getr r M d156_139 fl17_13 rfl ?_
                    refine ie_iload d156_142 rfl ?_
                    refine ie_aload_n d156_144 rfl ?_
                    refine mx_getr r M d156_145 fl17_13 rfl ?_
                    refine ie_iload_n d156_148 rfl ?_
                    refine mx_iald (k := 5) (n := f) r M d156_149 rfl rfl rfl (by show f < 12; exact hf) ?_
                    rw [mset_k (by decide)]
                    rw [mset_k (by decide)]
                    rw [hl]
                    refine mx_iast (k := 5) (n := (6 * e + ot)) r M d156_150 rfl rfl rfl (by show 6 * e + ot < 12; omega) (fun hh r => ?_)
                    refine ie_iconst (nI 0) d156_151 (by decide) ?_
                    refine ie_istore d156_152 (by decide) ?_
                    exact s156_cp M hf (by omega) hn64 (by rw [mset_if rfl]; split; rfl; rw [mset_k (by decide), mset_k (by decide)]; exact hl) (n + 1) 0 (by omega) (by omega) hh (by rw [mCpy_0]; exact r) _ rfl rfl rfl rfl
                  · skip
                    unfold mGr1
                    rw [if_pos c118]
                    refine ie_aload_n d156_121 rfl ?_
                    refine mx_getr r M d156_122 fl17_7 rfl ?_
                    refine ie_iload d156_125 rfl ?_
                    refine ie_iconst (nI 0) d156_127 (by decide) ?_
                    refine mx_zast (k := 4) (n := (6 * e + ot)) r M d156_128 rfl rfl (by first | exact Or.inl rfl | exact Or.inr rfl | assumption | exact bI_01 _) rfl (by show 6 * e + ot < 12; omega) (fun hh r => ?_)
                    exact ie_vret d156_129 rfl ⟨rfl, r⟩)
             · skip
               first | (exact absurd c102 (by decide)) | (exact absurd (by decide) c102) | (
                  skip
                  skip
                  exact ie_vret d156_105 rfl ⟨rfl, r⟩))
        · skip
          first | (exact absurd c91 (by decide)) | (exact absurd (by decide) c91) | (
             skip
             skip
             refine ie_iconst (nI 1) d156_94 (by decide) ?_
             refine ie_goto 99 d156_95 (by decide) ?_
             refine mx_iast (k := 24) (n := t) r M d156_99 rfl rfl rfl (by show t < 640; exact ht) (fun hh r => ?_)
             refine ie_iload d156_100 rfl ?_
             refine ie_if_ne 106 d156_102 (by decide) (fun c102 => ?_) (fun c102 => ?_)
             · skip
               first | (exact absurd c102 (by decide)) | (exact absurd (by decide) c102) | (
                  skip
                  skip
                  refine ie_aload_n d156_106 rfl ?_
                  refine mx_getr r M d156_107 fl17_98 rfl ?_
                  refine ie_aload_n d156_110 rfl ?_
                  refine mx_getr r M d156_111 fl17_74 rfl ?_
                  refine ie_iload_n d156_114 rfl ?_
                  refine mx_iald (k := 25) (n := t) r M d156_115 rfl rfl rfl (by show t < 640; exact ht) ?_
                  rw [mset_k (by decide)]
                  rw [hp]
                  refine mx_iald (k := 33) (n := p) r M d156_116 rfl rfl rfl (by show p < 6; exact hp6) ?_
                  rw [mset_k (by decide)]
                  refine ie_iconst (nI 1) d156_117 (by decide) ?_
                  refine ie_icmp_ne 130 d156_118 (by decide) (fun c118 => ?_) (fun c118 => ?_)
                  · skip
                    unfold mGr1
                    rw [if_neg c118]
                    refine ie_aload_n d156_130 rfl ?_
                    refine mx_getr r M d156_131 fl17_7 rfl ?_
                    refine ie_iload d156_134 rfl ?_
                    refine ie_iconst (nI 1) d156_136 (by decide) ?_
                    refine mx_zast (k := 4) (n := (6 * e + ot)) r M d156_137 rfl rfl (by first | exact Or.inl rfl | exact Or.inr rfl | assumption | exact bI_01 _) rfl (by show 6 * e + ot < 12; omega) (fun hh r => ?_)
                    refine ie_aload_n d156_138 rfl ?_
                    refine mx_getr r M d156_139 fl17_13 rfl ?_
                    refine ie_iload d156_142 rfl ?_
                    refine ie_aload_n d156_144 rfl ?_
                    refine mx_getr r M d156_145 fl17_13 rfl ?_
                    refine ie_iload_n d156_148 rfl ?_
                    refine mx_iald (k := 5) (n := f) r M d156_149 rfl rfl rfl (by show f < 12; exact hf) ?_
                    rw [mset_k (by decide)]
                    rw [mset_k (by decide)]
                    rw [hl]
                    refine mx_iast (k := 5) (n := (6 * e + ot)) r M d156_150 rfl rfl rfl (by show 6 * e + ot < 12; omega) (fun hh r => ?_)
                    refine ie_iconst (nI 0) d156_151 (by decide) ?_
                    refine ie_istore d156_152 (by decide) ?_
                    exact s156_cp M hf (by omega) hn64 (by rw [mset_if rfl]; split; rfl; rw [mset_k (by decide), mset_k (by decide)]; exact hl) (n + 1) 0 (by omega) (by omega) hh (by rw [mCpy_0]; exact r) _ rfl rfl rfl rfl
                  · skip
                    unfold mGr1
                    rw [if_pos c118]
                    refine ie_aload_n d156_121 rfl ?_
                    refine mx_getr r M d156_122 fl17_7 rfl ?_
                    refine ie_iload d156_125 rfl ?_
                    refine ie_iconst (nI 0) d156_127 (by decide) ?_
                    refine mx_zast (k := 4) (n := (6 * e + ot)) r M d156_128 rfl rfl (by first | exact Or.inl rfl | exact Or.inr rfl | assumption | exact bI_01 _) rfl (by show 6 * e + ot < 12; omega) (fun hh r => ?_)
                    exact ie_vret d156_129 rfl ⟨rfl, r⟩)
             · skip
               first | (exact absurd c102 (by decide)) | (exact absurd (by decide) c102) | (
                  skip
                  skip
                  exact ie_vret d156_105 rfl ⟨rfl, r⟩))
      · skip
        refine ie_aload_n d156_67 rfl ?_
        refine mx_getr r M d156_68 fl17_7 rfl ?_
        refine ie_iload d156_71 rfl ?_
        refine mx_zald (k := 4) (n := (6 * e + ot)) r M d156_73 rfl rfl rfl (by show 6 * e + ot < 12; omega) ?_
        refine ie_if_eq 81 d156_74 (by decide) (fun c74 => ?_) (fun c74 => ?_)
        · skip
          have K : ¬ mCan2 S e p ot cs := fun z => z.2.elim c64 (fun y => y c74)
          rw [@if_neg _ (Classical.propDecidable _) K]
          refine ie_iconst (nI 0) d156_81 (by decide) ?_
          refine ie_istore d156_82 (by decide) ?_
          refine ie_aload_n d156_84 rfl ?_
          refine mx_getr r M d156_85 fl17_71 rfl ?_
          refine ie_iload_n d156_88 rfl ?_
          refine ie_iload d156_89 rfl ?_
          refine ie_if_eq 98 d156_91 (by decide) (fun c91 => ?_) (fun c91 => ?_)
          · skip
            first | (exact absurd c91 (by decide)) | (exact absurd (by decide) c91) | (
               skip
               skip
               refine ie_iconst (nI 2) d156_98 (by decide) ?_
               refine mx_iast (k := 24) (n := t) r M d156_99 rfl rfl rfl (by show t < 640; exact ht) (fun hh r => ?_)
               refine ie_iload d156_100 rfl ?_
               refine ie_if_ne 106 d156_102 (by decide) (fun c102 => ?_) (fun c102 => ?_)
               · skip
                 first | (exact absurd c102 (by decide)) | (exact absurd (by decide) c102) | (
                    skip
                    skip
                    refine ie_aload_n d156_106 rfl ?_
                    refine mx_getr r M d156_107 fl17_98 rfl ?_
                    refine ie_aload_n d156_110 rfl ?_
                    refine mx_getr r M d156_111 fl17_74 rfl ?_
                    refine ie_iload_n d156_114 rfl ?_
                    refine mx_iald (k := 25) (n := t) r M d156_115 rfl rfl rfl (by show t < 640; exact ht) ?_
                    rw [mset_k (by decide)]
                    rw [hp]
                    refine mx_iald (k := 33) (n := p) r M d156_116 rfl rfl rfl (by show p < 6; exact hp6) ?_
                    rw [mset_k (by decide)]
                    refine ie_iconst (nI 1) d156_117 (by decide) ?_
                    refine ie_icmp_ne 130 d156_118 (by decide) (fun c118 => ?_) (fun c118 => ?_)
                    · skip
                      unfold mGr1
                      rw [if_neg c118]
                      refine ie_aload_n d156_130 rfl ?_
                      refine mx_getr r M d156_131 fl17_7 rfl ?_
                      refine ie_iload d156_134 rfl ?_
                      refine ie_iconst (nI 1) d156_136 (by decide) ?_
                      refine mx_zast (k := 4) (n := (6 * e + ot)) r M d156_137 rfl rfl (by first | exact Or.inl rfl | exact Or.inr rfl | assumption | exact bI_01 _) rfl (by show 6 * e + ot < 12; omega) (fun hh r => ?_)
                      refine ie_aload_n d156_138 rfl ?_
                      refine mx_getr r M d156_139 fl17_13 rfl ?_
                      refine ie_iload d156_142 rfl ?_
                      refine ie_aload_n d156_144 rfl ?_
                      refine mx_getr r M d156_145 fl17_13 rfl ?_
                      refine ie_iload_n d156_148 rfl ?_
                      refine mx_iald (k := 5) (n := f) r M d156_149 rfl rfl rfl (by show f < 12; exact hf) ?_
                      rw [mset_k (by decide)]
                      rw [mset_k (by decide)]
                      rw [hl]
                      refine mx_iast (k := 5) (n := (6 * e + ot)) r M d156_150 rfl rfl rfl (by show 6 * e + ot < 12; omega) (fun hh r => ?_)
                      refine ie_iconst (nI 0) d156_151 (by decide) ?_
                      refine ie_istore d156_152 (by decide) ?_
                      exact s156_cp M hf (by omega) hn64 (by rw [mset_if rfl]; split; rfl; rw [mset_k (by decide), mset_k (by decide)]; exact hl) (n + 1) 0 (by omega) (by omega) hh (by rw [mCpy_0]; exact r) _ rfl rfl rfl rfl
                    · skip
                      unfold mGr1
                      rw [if_pos c118]
                      refine ie_aload_n d156_121 rfl ?_
                      refine mx_getr r M d156_122 fl17_7 rfl ?_
                      refine ie_iload d156_125 rfl ?_
                      refine ie_iconst (nI 0) d156_127 (by decide) ?_
                      refine mx_zast (k := 4) (n := (6 * e + ot)) r M d156_128 rfl rfl (by first | exact Or.inl rfl | exact Or.inr rfl | assumption | exact bI_01 _) rfl (by show 6 * e + ot < 12; omega) (fun hh r => ?_)
                      exact ie_vret d156_129 rfl ⟨rfl, r⟩)
               · skip
                 first | (exact absurd c102 (by decide)) | (exact absurd (by decide) c102) | (
                    skip
                    skip
                    exact ie_vret d156_105 rfl ⟨rfl, r⟩))
          · skip
            first | (exact absurd c91 (by decide)) | (exact absurd (by decide) c91) | (
               skip
               skip
               refine ie_iconst (nI 1) d156_94 (by decide) ?_
               refine ie_goto 99 d156_95 (by decide) ?_
               refine mx_iast (k := 24) (n := t) r M d156_99 rfl rfl rfl (by show t < 640; exact ht) (fun hh r => ?_)
               refine ie_iload d156_100 rfl ?_
               refine ie_if_ne 106 d156_102 (by decide) (fun c102 => ?_) (fun c102 => ?_)
               · skip
                 first | (exact absurd c102 (by decide)) | (exact absurd (by decide) c102) | (
                    skip
                    skip
                    refine ie_aload_n d156_106 rfl ?_
                    refine mx_getr r M d156_107 fl17_98 rfl ?_
                    refine ie_aload_n d156_110 rfl ?_
                    refine mx_getr r M d156_111 fl17_74 rfl ?_
                    refine ie_iload_n d156_114 rfl ?_
                    refine mx_iald (k := 25) (n := t) r M d156_115 rfl rfl rfl (by show t < 640; exact ht) ?_
                    rw [mset_k (by decide)]
                    rw [hp]
                    refine mx_iald (k := 33) (n := p) r M d156_116 rfl rfl rfl (by show p < 6; exact hp6) ?_
                    rw [mset_k (by decide)]
                    refine ie_iconst (nI 1) d156_117 (by decide) ?_
                    refine ie_icmp_ne 130 d156_118 (by decide) (fun c118 => ?_) (fun c118 => ?_)
                    · skip
                      unfold mGr1
                      rw [if_neg c118]
                      refine ie_aload_n d156_130 rfl ?_
                      refine mx_getr r M d156_131 fl17_7 rfl ?_
                      refine ie_iload d156_134 rfl ?_
                      refine ie_iconst (nI 1) d156_136 (by decide) ?_
                      refine mx_zast (k := 4) (n := (6 * e + ot)) r M d156_137 rfl rfl (by first | exact Or.inl rfl | exact Or.inr rfl | assumption | exact bI_01 _) rfl (by show 6 * e + ot < 12; omega) (fun hh r => ?_)
                      refine ie_aload_n d156_138 rfl ?_
                      refine mx_getr r M d156_139 fl17_13 rfl ?_
                      refine ie_iload d156_142 rfl ?_
                      refine ie_aload_n d156_144 rfl ?_
                      refine mx_getr r M d156_145 fl17_13 rfl ?_
                      refine ie_iload_n d156_148 rfl ?_
                      refine mx_iald (k := 5) (n := f) r M d156_149 rfl rfl rfl (by show f < 12; exact hf) ?_
                      rw [mset_k (by decide)]
                      rw [mset_k (by decide)]
                      rw [hl]
                      refine mx_iast (k := 5) (n := (6 * e + ot)) r M d156_150 rfl rfl rfl (by show 6 * e + ot < 12; omega) (fun hh r => ?_)
                      refine ie_iconst (nI 0) d156_151 (by decide) ?_
                      refine ie_istore d156_152 (by decide) ?_
                      exact s156_cp M hf (by omega) hn64 (by rw [mset_if rfl]; split; rfl; rw [mset_k (by decide), mset_k (by decide)]; exact hl) (n + 1) 0 (by omega) (by omega) hh (by rw [mCpy_0]; exact r) _ rfl rfl rfl rfl
                    · skip
                      unfold mGr1
                      rw [if_pos c118]
                      refine ie_aload_n d156_121 rfl ?_
                      refine mx_getr r M d156_122 fl17_7 rfl ?_
                      refine ie_iload d156_125 rfl ?_
                      refine ie_iconst (nI 0) d156_127 (by decide) ?_
                      refine mx_zast (k := 4) (n := (6 * e + ot)) r M d156_128 rfl rfl (by first | exact Or.inl rfl | exact Or.inr rfl | assumption | exact bI_01 _) rfl (by show 6 * e + ot < 12; omega) (fun hh r => ?_)
                      exact ie_vret d156_129 rfl ⟨rfl, r⟩)
               · skip
                 first | (exact absurd c102 (by decide)) | (exact absurd (by decide) c102) | (
                    skip
                    skip
                    exact ie_vret d156_105 rfl ⟨rfl, r⟩))
        · skip
          have K : mCan2 S e p ot cs := ⟨c49, Or.inr c74⟩
          rw [@if_pos _ (Classical.propDecidable _) K]
          refine ie_iconst (nI 1) d156_77 (by decide) ?_
          refine ie_goto 82 d156_78 (by decide) ?_
          refine ie_istore d156_82 (by decide) ?_
          refine ie_aload_n d156_84 rfl ?_
          refine mx_getr r M d156_85 fl17_71 rfl ?_
          refine ie_iload_n d156_88 rfl ?_
          refine ie_iload d156_89 rfl ?_
          refine ie_if_eq 98 d156_91 (by decide) (fun c91 => ?_) (fun c91 => ?_)
          · skip
            first | (exact absurd c91 (by decide)) | (exact absurd (by decide) c91) | (
               skip
               skip
               refine ie_iconst (nI 2) d156_98 (by decide) ?_
               refine mx_iast (k := 24) (n := t) r M d156_99 rfl rfl rfl (by show t < 640; exact ht) (fun hh r => ?_)
               refine ie_iload d156_100 rfl ?_
               refine ie_if_ne 106 d156_102 (by decide) (fun c102 => ?_) (fun c102 => ?_)
               · skip
                 first | (exact absurd c102 (by decide)) | (exact absurd (by decide) c102) | (
                    skip
                    skip
                    refine ie_aload_n d156_106 rfl ?_
                    refine mx_getr r M d156_107 fl17_98 rfl ?_
                    refine ie_aload_n d156_110 rfl ?_
                    refine mx_getr r M d156_111 fl17_74 rfl ?_
                    refine ie_iload_n d156_114 rfl ?_
                    refine mx_iald (k := 25) (n := t) r M d156_115 rfl rfl rfl (by show t < 640; exact ht) ?_
                    rw [mset_k (by decide)]
                    rw [hp]
                    refine mx_iald (k := 33) (n := p) r M d156_116 rfl rfl rfl (by show p < 6; exact hp6) ?_
                    rw [mset_k (by decide)]
                    refine ie_iconst (nI 1) d156_117 (by decide) ?_
                    refine ie_icmp_ne 130 d156_118 (by decide) (fun c118 => ?_) (fun c118 => ?_)
                    · skip
                      unfold mGr1
                      rw [if_neg c118]
                      refine ie_aload_n d156_130 rfl ?_
                      refine mx_getr r M d156_131 fl17_7 rfl ?_
                      refine ie_iload d156_134 rfl ?_
                      refine ie_iconst (nI 1) d156_136 (by decide) ?_
                      refine mx_zast (k := 4) (n := (6 * e + ot)) r M d156_137 rfl rfl (by first | exact Or.inl rfl | exact Or.inr rfl | assumption | exact bI_01 _) rfl (by show 6 * e + ot < 12; omega) (fun hh r => ?_)
                      refine ie_aload_n d156_138 rfl ?_
                      refine mx_getr r M d156_139 fl17_13 rfl ?_
                      refine ie_iload d156_142 rfl ?_
                      refine ie_aload_n d156_144 rfl ?_
                      refine mx_getr r M d156_145 fl17_13 rfl ?_
                      refine ie_iload_n d156_148 rfl ?_
                      refine mx_iald (k := 5) (n := f) r M d156_149 rfl rfl rfl (by show f < 12; exact hf) ?_
                      rw [mset_k (by decide)]
                      rw [mset_k (by decide)]
                      rw [hl]
                      refine mx_iast (k := 5) (n := (6 * e + ot)) r M d156_150 rfl rfl rfl (by show 6 * e + ot < 12; omega) (fun hh r => ?_)
                      refine ie_iconst (nI 0) d156_151 (by decide) ?_
                      refine ie_istore d156_152 (by decide) ?_
                      exact s156_cp M hf (by omega) hn64 (by rw [mset_if rfl]; split; rfl; rw [mset_k (by decide), mset_k (by decide)]; exact hl) (n + 1) 0 (by omega) (by omega) hh (by rw [mCpy_0]; exact r) _ rfl rfl rfl rfl
                    · skip
                      unfold mGr1
                      rw [if_pos c118]
                      refine ie_aload_n d156_121 rfl ?_
                      refine mx_getr r M d156_122 fl17_7 rfl ?_
                      refine ie_iload d156_125 rfl ?_
                      refine ie_iconst (nI 0) d156_127 (by decide) ?_
                      refine mx_zast (k := 4) (n := (6 * e + ot)) r M d156_128 rfl rfl (by first | exact Or.inl rfl | exact Or.inr rfl | assumption | exact bI_01 _) rfl (by show 6 * e + ot < 12; omega) (fun hh r => ?_)
                      exact ie_vret d156_129 rfl ⟨rfl, r⟩)
               · skip
                 first | (exact absurd c102 (by decide)) | (exact absurd (by decide) c102) | (
                    skip
                    skip
                    exact ie_vret d156_105 rfl ⟨rfl, r⟩))
          · skip
            first | (exact absurd c91 (by decide)) | (exact absurd (by decide) c91) | (
               skip
               skip
               refine ie_iconst (nI 1) d156_94 (by decide) ?_
               refine ie_goto 99 d156_95 (by decide) ?_
               refine mx_iast (k := 24) (n := t) r M d156_99 rfl rfl rfl (by show t < 640; exact ht) (fun hh r => ?_)
               refine ie_iload d156_100 rfl ?_
               refine ie_if_ne 106 d156_102 (by decide) (fun c102 => ?_) (fun c102 => ?_)
               · skip
                 first | (exact absurd c102 (by decide)) | (exact absurd (by decide) c102) | (
                    skip
                    skip
                    refine ie_aload_n d156_106 rfl ?_
                    refine mx_getr r M d156_107 fl17_98 rfl ?_
                    refine ie_aload_n d156_110 rfl ?_
                    refine mx_getr r M d156_111 fl17_74 rfl ?_
                    refine ie_iload_n d156_114 rfl ?_
                    refine mx_iald (k := 25) (n := t) r M d156_115 rfl rfl rfl (by show t < 640; exact ht) ?_
                    rw [mset_k (by decide)]
                    rw [hp]
                    refine mx_iald (k := 33) (n := p) r M d156_116 rfl rfl rfl (by show p < 6; exact hp6) ?_
                    rw [mset_k (by decide)]
                    refine ie_iconst (nI 1) d156_117 (by decide) ?_
                    refine ie_icmp_ne 130 d156_118 (by decide) (fun c118 => ?_) (fun c118 => ?_)
                    · skip
                      unfold mGr1
                      rw [if_neg c118]
                      refine ie_aload_n d156_130 rfl ?_
                      refine mx_getr r M d156_131 fl17_7 rfl ?_
                      refine ie_iload d156_134 rfl ?_
                      refine ie_iconst (nI 1) d156_136 (by decide) ?_
                      refine mx_zast (k := 4) (n := (6 * e + ot)) r M d156_137 rfl rfl (by first | exact Or.inl rfl | exact Or.inr rfl | assumption | exact bI_01 _) rfl (by show 6 * e + ot < 12; omega) (fun hh r => ?_)
                      refine ie_aload_n d156_138 rfl ?_
                      refine mx_getr r M d156_139 fl17_13 rfl ?_
                      refine ie_iload d156_142 rfl ?_
                      refine ie_aload_n d156_144 rfl ?_
                      refine mx_getr r M d156_145 fl17_13 rfl ?_
                      refine ie_iload_n d156_148 rfl ?_
                      refine mx_iald (k := 5) (n := f) r M d156_149 rfl rfl rfl (by show f < 12; exact hf) ?_
                      rw [mset_k (by decide)]
                      rw [mset_k (by decide)]
                      rw [hl]
                      refine mx_iast (k := 5) (n := (6 * e + ot)) r M d156_150 rfl rfl rfl (by show 6 * e + ot < 12; omega) (fun hh r => ?_)
                      refine ie_iconst (nI 0) d156_151 (by decide) ?_
                      refine ie_istore d156_152 (by decide) ?_
                      exact s156_cp M hf (by omega) hn64 (by rw [mset_if rfl]; split; rfl; rw [mset_k (by decide), mset_k (by decide)]; exact hl) (n + 1) 0 (by omega) (by omega) hh (by rw [mCpy_0]; exact r) _ rfl rfl rfl rfl
                    · skip
                      unfold mGr1
                      rw [if_pos c118]
                      refine ie_aload_n d156_121 rfl ?_
                      refine mx_getr r M d156_122 fl17_7 rfl ?_
                      refine ie_iload d156_125 rfl ?_
                      refine ie_iconst (nI 0) d156_127 (by decide) ?_
                      refine mx_zast (k := 4) (n := (6 * e + ot)) r M d156_128 rfl rfl (by first | exact Or.inl rfl | exact Or.inr rfl | assumption | exact bI_01 _) rfl (by show 6 * e + ot < 12; omega) (fun hh r => ?_)
                      exact ie_vret d156_129 rfl ⟨rfl, r⟩)
               · skip
                 first | (exact absurd c102 (by decide)) | (exact absurd (by decide) c102) | (
                    skip
                    skip
                    exact ie_vret d156_105 rfl ⟨rfl, r⟩))
  · skip
    unfold mGrant
    rw [if_pos c11]
    exact ie_vret d156_14 rfl ⟨rfl, r⟩
