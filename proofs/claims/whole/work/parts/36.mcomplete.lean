/-- the sum of what came -/
def mSm (S : MS) (p : Nat) : Nat → Int32
  | 0 => 0
  | i + 1 => mSm S p i + (mB S p i <<< (nI (24 - 8 * (i % 4)) &&& 31))
theorem mB_o {S S' : MS} {p i : Nat} (h38 : ∀ j, S' 38 j = S 38 j) (h39 : ∀ j, S' 39 j = S 39 j) : mB S' p i = mB S p i := by
  unfold mB
  rw [h38, h39]
/-- file q becomes the first n bytes of what came -/
def mCpB (S : MS) (q p n : Nat) : MS := fun k j => if k = 6 ∧ 64 * q ≤ j ∧ j < 64 * q + n then mB S p (j - 64 * q) else S k j
theorem mCpB_0 {S : MS} {q p : Nat} : mCpB S q p 0 = S := by
  funext k j
  unfold mCpB
  rw [if_neg (by omega)]
theorem mCpB_o {S : MS} {q p n k j : Nat} (h : k ≠ 6) : mCpB S q p n k j = S k j := by
  unfold mCpB
  rw [if_neg (fun z => h z.1)]
theorem mCpB_s {S : MS} {q p i : Nat} : mset (mCpB S q p i) 6 (64 * q + i) (mB S p i) = mCpB S q p (i + 1) := by
  funext k j
  by_cases e : k = 6
  · subst e
    rw [mset_if rfl]
    unfold mCpB
    by_cases ej : j = 64 * q + i
    · subst ej
      rw [if_pos rfl, if_pos ⟨rfl, by omega, by omega⟩, Nat.add_sub_cancel_left]
    · rw [if_neg ej]
      by_cases z : 6 = 6 ∧ 64 * q ≤ j ∧ j < 64 * q + i
      · rw [if_pos z, if_pos ⟨rfl, z.2.1, by omega⟩]
      · rw [if_neg z, if_neg (show ¬ (6 = 6 ∧ 64 * q ≤ j ∧ j < 64 * q + (i + 1)) from fun y => z ⟨rfl, y.2.1, by omega⟩)]
  · rw [mset_k e]
    unfold mCpB
    rw [if_neg (show ¬ (k = 6 ∧ 64 * q ≤ j ∧ j < 64 * q + i) from fun z => e z.1), if_neg (show ¬ (k = 6 ∧ 64 * q ≤ j ∧ j < 64 * q + (i + 1)) from fun z => e z.1)]
theorem mGrant_o {S : MS} {t e f p ot n cs k j : Nat} (h4 : k ≠ 4) (h5 : k ≠ 5) (h6 : k ≠ 6) (h24 : k ≠ 24) : mGrant S t e f p ot n cs k j = S k j := by
  unfold mGrant
  split
  · rfl
  · split
    · unfold mGr1
      split
      · rw [mset_k h4, mset_k h24]
      · rw [mCpy_o h6, mset_k h5, mset_k h4, mset_k h24]
    · rw [mset_k h24]
noncomputable def mCplT (S : MS) (u t p f ot n cs k0 c : Nat) (y : Int32) : MS := mFin (mGrant S t (1 - t / 320) f p ot n cs) u t p k0 c (nI 1) y
def mStore (S : MS) (f p n : Nat) : MS := mCpB (mset (mset S 4 f (nI 1)) 5 f (nI n)) f p n
noncomputable def mCpl (S : MS) (u t p d ot n cs k0 c : Nat) (y : Int32) : MS := if mSm S p n = S 28 p then @ite _ (mLock S (1 - t / 320) (nI d) cs) (Classical.propDecidable _) (mFin S u t p k0 c (nI 4) y) (mCplT (mStore S (6 * (1 - t / 320) + d) p n) u t p (6 * (1 - t / 320) + d) ot n cs k0 c y) else mFin S u t p k0 c (nI 3) y
set_option maxRecDepth 100000 in
set_option maxHeartbeats 4000000 in
/-- complete: what the file's user asked for, and the end -/
theorem s154_t {G : ix_G} {h0 h : ix_H} {o : Nat} {S : MS} (M : md_ok h0 o) (r : mR o h0 h S) {t f p ot n cs u k0 c : Nat} {y : Int32} (ht : t < 640) (hp : S 25 t = nI p) (hp6 : p < 6) (hot : S 34 p = nI ot) (hot6 : ot < 6) (hf : f < 12) (hl : S 5 f = nI n) (hn64 : n ≤ 64) (hcs3 : cs ≤ 3) (hcs : S 42 (1 - t / 320) = nI cs) (hsn : ∀ k, k < cs → ∃ t', t' < 640 ∧ S 40 (3 * (1 - t / 320) + k) = nI t') (hu : S 44 0 = nI u) (hu24 : u ≤ 24) (hH : y = 1 → mHas 41 43 S (1 - t / 320) k0 c t) :
    ∀ (lv : List (Nat × Value)), lv.lookup 0 = some (.ref o) → lv.lookup 1 = some (.int (nI t)) → lv.lookup 2 = some (.int y) → lv.lookup 5 = some (.int (nI (1 - t / 320))) → lv.lookup 6 = some (.int (nI f)) → ix_E G 154 188 lv [] h (fun rv h' => rv = none ∧ mR o h0 h' (mCplT S u t p f ot n cs k0 c y)) := by
  intro lv l0 l1 l2 l5 l6
  unfold mCplT
  refine ie_aload_n d154_188 l0 ?_
  refine ie_iload_n d154_189 l1 ?_
  refine ie_iload d154_190 l5 ?_
  refine ie_iload d154_192 l6 ?_
  refine mx_call r M [_, _, _] d154_194 ok156 rm154_156 cl17_240 rfl rfl (Nat.le_of_ble_eq_true rfl) (Nat.le_of_ble_eq_true rfl) (s156 (r.ok M) r.2.2 (by omega) ht hp hp6 hot hot6 hf hl hn64 hcs3 hcs hsn) (fun hh r => ?_)
  refine ie_aload_n d154_197 l0 ?_
  refine ie_iload_n d154_198 l1 ?_
  refine ie_iconst (nI 1) d154_199 (by decide) ?_
  refine ie_iload_n d154_200 l2 ?_
  refine mx_call r M [_, _, _] d154_201 ok144 rm154_144 cl17_218 rfl rfl (Nat.le_of_ble_eq_true rfl) (Nat.le_of_ble_eq_true rfl) (s144 (p := p) (u := u) (k0 := k0) (c := c) (r.ok M) r.2.2 ht (by rw [mGrant_o (by decide) (by decide) (by decide) (by decide)]; exact hp) hp6 (by rw [mGrant_o (by decide) (by decide) (by decide) (by decide)]; exact hu) hu24 _ _ (fun q => mHas_o (hH q) (fun j => mGrant_o (by decide) (by decide) (by decide) (by decide)) (fun j => mGrant_o (by decide) (by decide) (by decide) (by decide)))) (fun hh r => ?_)
  exact ie_vret d154_204 rfl ⟨rfl, r⟩
set_option maxRecDepth 100000 in
set_option maxHeartbeats 4000000 in
/-- complete: the file is written -/
theorem s154_w {G : ix_G} {h0 : ix_H} {o : Nat} {S : MS} (M : md_ok h0 o) {t f p ot n cs u k0 c : Nat} {y : Int32} (ht : t < 640) (hp : S 25 t = nI p) (hp6 : p < 6) (hot : S 34 p = nI ot) (hot6 : ot < 6) (hn64 : n ≤ 64) (hcs3 : cs ≤ 3) (hcs : S 42 (1 - t / 320) = nI cs) (hsn : ∀ k, k < cs → ∃ t', t' < 640 ∧ S 40 (3 * (1 - t / 320) + k) = nI t') (hu : S 44 0 = nI u) (hu24 : u ≤ 24) (hH : y = 1 → mHas 41 43 S (1 - t / 320) k0 c t) (hf : f < 12) (hl : S 5 f = nI n) :
    ∀ (z i : Nat), i ≤ n → n - i < z → ∀ h, mR o h0 h (mCpB S f p i) → ∀ (lv : List (Nat × Value)), lv.lookup 0 = some (.ref o) → lv.lookup 1 = some (.int (nI t)) → lv.lookup 2 = some (.int y) → lv.lookup 4 = some (.int (nI n)) → lv.lookup 5 = some (.int (nI (1 - t / 320))) → lv.lookup 6 = some (.int (nI f)) → lv.lookup 7 = some (.int (nI i)) → ix_E G 154 155 lv [] h (fun rv h' => rv = none ∧ mR o h0 h' (mCplT (mCpB S f p n) u t p f ot n cs k0 c y)) := by
  intro z
  induction z with
  | zero => intro i h1 h2; omega
  | succ z ih =>
    intro i hi hz h r lv l0 l1 l2 l4 l5 l6 l7
    refine ie_iload d154_155 l7 ?_
    refine ie_iload d154_157 l4 ?_
    refine ie_icmp_ge 188 d154_159 (by decide) (fun c159 => ?_) (fun c159 => ?_)
    · skip
      rw [nI_leI (by omega) (by omega)] at c159
      have hi2 : i = n := by omega
      subst hi2
      exact s154_t M r ht (by rw [mCpB_o (by decide)]; exact hp) hp6 (by rw [mCpB_o (by decide)]; exact hot) hot6 hf (by rw [mCpB_o (by decide)]; exact hl) hn64 hcs3 (by rw [mCpB_o (by decide)]; exact hcs) (fun k hk => by rw [mCpB_o (by decide)]; exact hsn k hk) (by rw [mCpB_o (by decide)]; exact hu) hu24 (fun q => mHas_o (hH q) (fun j => mCpB_o (by decide)) (fun j => mCpB_o (by decide))) _ l0 l1 l2 l5 l6
    · skip
      rw [nI_leI (by omega) (by omega)] at c159
      refine ie_aload_n d154_162 l0 ?_
      refine mx_getr r M d154_163 fl17_17 rfl ?_
      refine ie_bipush (nI 64) d154_166 (by decide) ?_
      refine ie_iload d154_168 l6 ?_
      refine ie_imul d154_170 ?_
      rw [pk_mul]
      refine ie_iload d154_171 l7 ?_
      refine ie_iadd d154_173 ?_
      rw [nI_add]
      refine ie_aload_n d154_174 l0 ?_
      refine ie_iload_n d154_175 l1 ?_
      refine ie_iload d154_176 l7 ?_
      refine mx_ask r M [_, _] d154_178 ok155 rm154_155 cl17_237 rfl rfl (Nat.le_of_ble_eq_true rfl) (Nat.le_of_ble_eq_true rfl) (s155 (p := p) (r.ok M) r.2.2 ht (by rw [mCpB_o (by decide)]; exact hp) hp6 (by omega)) ?_
      rw [mB_o (fun j => mCpB_o (by decide)) (fun j => mCpB_o (by decide))]
      refine mx_iast (k := 6) (n := (64 * f + i)) r M d154_181 rfl rfl rfl (by show 64 * f + i < 768; omega) (fun hh r => ?_)
      refine ie_iinc (nI (i + 1)) d154_182 l7 (nI_1 _) (by decide) ?_
      refine ie_goto 155 d154_185 (by decide) ?_
      exact ih (i + 1) (by omega) (by omega) hh (by rw [← mCpB_s]; exact r) _ (ix_lk3 (by decide) l0 rfl) (ix_lk3 (by decide) l1 rfl) (ix_lk3 (by decide) l2 rfl) (ix_lk3 (by decide) l4 rfl) (ix_lk3 (by decide) l5 rfl) (ix_lk3 (by decide) l6 rfl) ix_lk1
set_option maxRecDepth 100000 in
set_option maxHeartbeats 4000000 in
/-- complete: behind the sum -/
theorem s154_c {G : ix_G} {h0 h : ix_H} {o : Nat} {S : MS} (M : md_ok h0 o) (r : mR o h0 h S) {t d p ot n cs u k0 c : Nat} {y : Int32} (ht : t < 640) (hp : S 25 t = nI p) (hp6 : p < 6) (hot : S 34 p = nI ot) (hot6 : ot < 6) (hn64 : n ≤ 64) (hcs3 : cs ≤ 3) (hcs : S 42 (1 - t / 320) = nI cs) (hsn : ∀ k, k < cs → ∃ t', t' < 640 ∧ S 40 (3 * (1 - t / 320) + k) = nI t') (hu : S 44 0 = nI u) (hu24 : u ≤ 24) (hH : y = 1 → mHas 41 43 S (1 - t / 320) k0 c t) (hd : S 32 p = nI d) (hd6 : d < 6) :
    ∀ (lv : List (Nat × Value)), lv.lookup 0 = some (.ref o) → lv.lookup 1 = some (.int (nI t)) → lv.lookup 2 = some (.int y) → lv.lookup 3 = some (.int (mSm S p n)) → lv.lookup 4 = some (.int (nI n)) → ix_E G 154 52 lv [] h (fun rv h' => rv = none ∧ mR o h0 h' (mCpl S u t p d ot n cs k0 c y)) := by
  intro lv l0 l1 l2 l3 l4
  unfold mCpl
  refine ie_iconst (nI 1) d154_52 (by decide) ?_
  refine ie_iload_n d154_53 l1 ?_
  refine ie_sipush (nI 320) d154_54 (by decide) ?_
  refine ie_idiv d154_57 (by decide) ?_
  rw [pk_div (by omega) (by decide) (by decide)]
  refine ie_isub d154_58 ?_
  rw [pk_sub (by omega)]
  refine ie_istore d154_59 (by decide) ?_
  refine ie_bipush (nI 6) d154_61 (by decide) ?_
  refine ie_iload d154_63 ix_lk1 ?_
  refine ie_imul d154_65 ?_
  rw [pk_mul]
  refine ie_aload_n d154_66 (ix_lk3 (by decide) l0 rfl) ?_
  refine mx_getr r M d154_67 fl17_95 rfl ?_
  refine ie_aload_n d154_70 (ix_lk3 (by decide) l0 rfl) ?_
  refine mx_getr r M d154_71 fl17_74 rfl ?_
  refine ie_iload_n d154_74 (ix_lk3 (by decide) l1 rfl) ?_
  refine mx_iald (k := 25) (n := t) r M d154_75 rfl rfl rfl (by show t < 640; exact ht) ?_
  rw [hp]
  refine mx_iald (k := 32) (n := p) r M d154_76 rfl rfl rfl (by show p < 6; exact hp6) ?_
  rw [hd]
  refine ie_iadd d154_77 ?_
  rw [nI_add]
  refine ie_istore d154_78 (by decide) ?_
  refine ie_iload_n d154_80 (ix_lk3 (by decide) (ix_lk3 (by decide) l3 rfl) rfl) ?_
  refine ie_aload_n d154_81 (ix_lk3 (by decide) (ix_lk3 (by decide) l0 rfl) rfl) ?_
  refine mx_getr r M d154_82 fl17_83 rfl ?_
  refine ie_aload_n d154_85 (ix_lk3 (by decide) (ix_lk3 (by decide) l0 rfl) rfl) ?_
  refine mx_getr r M d154_86 fl17_74 rfl ?_
  refine ie_iload_n d154_89 (ix_lk3 (by decide) (ix_lk3 (by decide) l1 rfl) rfl) ?_
  refine mx_iald (k := 25) (n := t) r M d154_90 rfl rfl rfl (by show t < 640; exact ht) ?_
  rw [hp]
  refine mx_iald (k := 28) (n := p) r M d154_91 rfl rfl rfl (by show p < 6; exact hp6) ?_
  refine ie_icmp_eq 105 d154_92 (by decide) (fun c92 => ?_) (fun c92 => ?_)
  · skip
    rw [if_pos c92]
    refine ie_aload_n d154_105 (ix_lk3 (by decide) (ix_lk3 (by decide) l0 rfl) rfl) ?_
    refine ie_iload d154_106 (ix_lk3 (by decide) ix_lk1 rfl) ?_
    refine ie_aload_n d154_108 (ix_lk3 (by decide) (ix_lk3 (by decide) l0 rfl) rfl) ?_
    refine mx_getr r M d154_109 fl17_95 rfl ?_
    refine ie_aload_n d154_112 (ix_lk3 (by decide) (ix_lk3 (by decide) l0 rfl) rfl) ?_
    refine mx_getr r M d154_113 fl17_74 rfl ?_
    refine ie_iload_n d154_116 (ix_lk3 (by decide) (ix_lk3 (by decide) l1 rfl) rfl) ?_
    refine mx_iald (k := 25) (n := t) r M d154_117 rfl rfl rfl (by show t < 640; exact ht) ?_
    rw [hp]
    refine mx_iald (k := 32) (n := p) r M d154_118 rfl rfl rfl (by show p < 6; exact hp6) ?_
    rw [hd]
    refine mx_ask r M [_, _] d154_119 ok121 rm154_121 cl17_159 rfl rfl (Nat.le_of_ble_eq_true rfl) (Nat.le_of_ble_eq_true rfl) (s121 (r.ok M) r.2.2 (by omega) hcs3 hcs hsn) ?_
    refine ie_if_eq 135 d154_122 (by decide) (fun c122 => ?_) (fun c122 => ?_)
    · skip
      rw [bP_0] at c122
      rw [@if_neg _ (Classical.propDecidable _) c122]
      refine ie_aload_n d154_135 (ix_lk3 (by decide) (ix_lk3 (by decide) l0 rfl) rfl) ?_
      refine mx_getr r M d154_136 fl17_7 rfl ?_
      refine ie_iload d154_139 ix_lk1 ?_
      refine ie_iconst (nI 1) d154_141 (by decide) ?_
      refine mx_zast (k := 4) (n := (6 * (1 - t / 320) + d)) r M d154_142 rfl rfl (by first | exact Or.inl rfl | exact Or.inr rfl | assumption | exact bI_01 _) rfl (by show 6 * (1 - t / 320) + d < 12; omega) (fun hh r => ?_)
      refine ie_aload_n d154_143 (ix_lk3 (by decide) (ix_lk3 (by decide) l0 rfl) rfl) ?_
      refine mx_getr r M d154_144 fl17_13 rfl ?_
      refine ie_iload d154_147 ix_lk1 ?_
      refine ie_iload d154_149 (ix_lk3 (by decide) (ix_lk3 (by decide) l4 rfl) rfl) ?_
      refine mx_iast (k := 5) (n := (6 * (1 - t / 320) + d)) r M d154_151 rfl rfl rfl (by show 6 * (1 - t / 320) + d < 12; omega) (fun hh r => ?_)
      refine ie_iconst (nI 0) d154_152 (by decide) ?_
      refine ie_istore d154_153 (by decide) ?_
      exact s154_w M ht (by rw [mset_k (by decide), mset_k (by decide)]; exact hp) hp6 (by rw [mset_k (by decide), mset_k (by decide)]; exact hot) hot6 hn64 hcs3 (by rw [mset_k (by decide), mset_k (by decide)]; exact hcs) (fun k hk => by rw [mset_k (by decide), mset_k (by decide)]; exact hsn k hk) (by rw [mset_k (by decide), mset_k (by decide)]; exact hu) hu24 (fun q => mHas_o (hH q) (fun j => by rw [mset_k (by decide), mset_k (by decide)]) (fun j => by rw [mset_k (by decide), mset_k (by decide)])) (by omega) mset_s (n + 1) 0 (by omega) (by omega) hh (by rw [mCpB_0]; exact r) _ (ix_lk3 (by decide) (ix_lk3 (by decide) (ix_lk3 (by decide) l0 rfl) rfl) rfl) (ix_lk3 (by decide) (ix_lk3 (by decide) (ix_lk3 (by decide) l1 rfl) rfl) rfl) (ix_lk3 (by decide) (ix_lk3 (by decide) (ix_lk3 (by decide) l2 rfl) rfl) rfl) (ix_lk3 (by decide) (ix_lk3 (by decide) (ix_lk3 (by decide) l4 rfl) rfl) rfl) (ix_lk3 (by decide) (ix_lk3 (by decide) ix_lk1 rfl) rfl) (ix_lk3 (by decide) ix_lk1 rfl) ix_lk1
    · skip
      rw [bP_0, Classical.not_not] at c122
      rw [@if_pos _ (Classical.propDecidable _) c122]
      refine ie_aload_n d154_125 (ix_lk3 (by decide) (ix_lk3 (by decide) l0 rfl) rfl) ?_
      refine ie_iload_n d154_126 (ix_lk3 (by decide) (ix_lk3 (by decide) l1 rfl) rfl) ?_
      refine ie_iconst (nI 4) d154_127 (by decide) ?_
      refine ie_iload_n d154_128 (ix_lk3 (by decide) (ix_lk3 (by decide) l2 rfl) rfl) ?_
      refine mx_call r M [_, _, _] d154_129 ok144 rm154_144 cl17_218 rfl rfl (Nat.le_of_ble_eq_true rfl) (Nat.le_of_ble_eq_true rfl) (s144 (p := p) (u := u) (k0 := k0) (c := c) (r.ok M) r.2.2 ht hp hp6 hu hu24 _ _ hH) (fun hh r => ?_)
      refine ie_goto 204 d154_132 (by decide) ?_
      exact ie_vret d154_204 rfl ⟨rfl, r⟩
  · skip
    rw [if_neg c92]
    refine ie_aload_n d154_95 (ix_lk3 (by decide) (ix_lk3 (by decide) l0 rfl) rfl) ?_
    refine ie_iload_n d154_96 (ix_lk3 (by decide) (ix_lk3 (by decide) l1 rfl) rfl) ?_
    refine ie_iconst (nI 3) d154_97 (by decide) ?_
    refine ie_iload_n d154_98 (ix_lk3 (by decide) (ix_lk3 (by decide) l2 rfl) rfl) ?_
    refine mx_call r M [_, _, _] d154_99 ok144 rm154_144 cl17_218 rfl rfl (Nat.le_of_ble_eq_true rfl) (Nat.le_of_ble_eq_true rfl) (s144 (p := p) (u := u) (k0 := k0) (c := c) (r.ok M) r.2.2 ht hp hp6 hu hu24 _ _ hH) (fun hh r => ?_)
    refine ie_goto 204 d154_102 (by decide) ?_
    exact ie_vret d154_204 rfl ⟨rfl, r⟩
set_option maxRecDepth 100000 in
set_option maxHeartbeats 4000000 in
/-- complete: the sum -/
theorem s154_s {G : ix_G} {h0 h : ix_H} {o : Nat} {S : MS} (M : md_ok h0 o) (r : mR o h0 h S) {t d p ot n cs u k0 c : Nat} {y : Int32} (ht : t < 640) (hp : S 25 t = nI p) (hp6 : p < 6) (hot : S 34 p = nI ot) (hot6 : ot < 6) (hn64 : n ≤ 64) (hcs3 : cs ≤ 3) (hcs : S 42 (1 - t / 320) = nI cs) (hsn : ∀ k, k < cs → ∃ t', t' < 640 ∧ S 40 (3 * (1 - t / 320) + k) = nI t') (hu : S 44 0 = nI u) (hu24 : u ≤ 24) (hH : y = 1 → mHas 41 43 S (1 - t / 320) k0 c t) (hd : S 32 p = nI d) (hd6 : d < 6) :
    ∀ (z i : Nat), i ≤ n → n - i < z → ∀ (lv : List (Nat × Value)), lv.lookup 0 = some (.ref o) → lv.lookup 1 = some (.int (nI t)) → lv.lookup 2 = some (.int y) → lv.lookup 3 = some (.int (mSm S p i)) → lv.lookup 4 = some (.int (nI n)) → lv.lookup 5 = some (.int (nI i)) → ix_E G 154 18 lv [] h (fun rv h' => rv = none ∧ mR o h0 h' (mCpl S u t p d ot n cs k0 c y)) := by
  intro z
  induction z with
  | zero => intro i h1 h2; omega
  | succ z ih =>
    intro i hi hz lv l0 l1 l2 l3 l4 l5
    refine ie_iload d154_18 l5 ?_
    refine ie_iload d154_20 l4 ?_
    refine ie_icmp_ge 52 d154_22 (by decide) (fun c22 => ?_) (fun c22 => ?_)
    · skip
      rw [nI_leI (by omega) (by omega)] at c22
      have hi2 : i = n := by omega
      subst hi2
      exact s154_c M r ht hp hp6 hot hot6 hn64 hcs3 hcs hsn hu hu24 hH hd hd6 _ l0 l1 l2 l3 l4
    · skip
      rw [nI_leI (by omega) (by omega)] at c22
      refine ie_iload_n d154_25 l3 ?_
      refine ie_aload_n d154_26 l0 ?_
      refine ie_iload_n d154_27 l1 ?_
      refine ie_iload d154_28 l5 ?_
      refine mx_ask r M [_, _] d154_30 ok155 rm154_155 cl17_237 rfl rfl (Nat.le_of_ble_eq_true rfl) (Nat.le_of_ble_eq_true rfl) (s155 (p := p) (r.ok M) r.2.2 ht hp hp6 (by omega)) ?_
      refine ie_bipush (nI 24) d154_33 (by decide) ?_
      refine ie_bipush (nI 8) d154_35 (by decide) ?_
      refine ie_iload d154_37 l5 ?_
      refine ie_iconst (nI 4) d154_39 (by decide) ?_
      refine ie_irem d154_40 (by decide) ?_
      rw [pk_rem (by omega) (by decide) (by decide)]
      refine ie_imul d154_41 ?_
      rw [pk_mul]
      refine ie_isub d154_42 ?_
      rw [pk_sub (by omega)]
      refine ie_ishl d154_43 ?_
      refine ie_iadd d154_44 ?_
      refine ie_istore_n d154_45 (by decide) ?_
      refine ie_iinc (nI (i + 1)) d154_46 (ix_lk3 (by decide) l5 rfl) (nI_1 _) (by decide) ?_
      refine ie_goto 18 d154_49 (by decide) ?_
      exact ih (i + 1) (by omega) (by omega) _ (ix_lk3 (by decide) (ix_lk3 (by decide) l0 rfl) rfl) (ix_lk3 (by decide) (ix_lk3 (by decide) l1 rfl) rfl) (ix_lk3 (by decide) (ix_lk3 (by decide) l2 rfl) rfl) (ix_lk3 (by decide) ix_lk1 rfl) (ix_lk3 (by decide) (ix_lk3 (by decide) l4 rfl) rfl) ix_lk1
set_option maxRecDepth 100000 in
set_option maxHeartbeats 4000000 in
/-- complete -/
theorem s154 {G : ix_G} {h : ix_H} {o : Nat} {S : MS} (M : md_ok h o) (hS : ms h o = S) {t d p ot n cs u k0 c : Nat} {y : Int32} (ht : t < 640) (hp : S 25 t = nI p) (hp6 : p < 6) (hot : S 34 p = nI ot) (hot6 : ot < 6) (hn64 : n ≤ 64) (hcs3 : cs ≤ 3) (hcs : S 42 (1 - t / 320) = nI cs) (hsn : ∀ k, k < cs → ∃ t', t' < 640 ∧ S 40 (3 * (1 - t / 320) + k) = nI t') (hu : S 44 0 = nI u) (hu24 : u ≤ 24) (hH : y = 1 → mHas 41 43 S (1 - t / 320) k0 c t) (hd : S 32 p = nI d) (hd6 : d < 6) (hn : S 27 p = nI n) : ix_E G 154 0 (lv_args 0 [.ref o, .int (nI t), .int y]) [] h (fun rv h' => rv = none ∧ mR o h h' (mCpl S u t p d ot n cs k0 c y)) := by
  have r : mR o h h S := mR.rf hS
  refine ie_iconst (nI 0) d154_0 (by decide) ?_
  refine ie_istore_n d154_1 (by decide) ?_
  refine ie_aload_n d154_2 rfl ?_
  refine mx_getr r M d154_3 fl17_80 rfl ?_
  refine ie_aload_n d154_6 rfl ?_
  refine mx_getr r M d154_7 fl17_74 rfl ?_
  refine ie_iload_n d154_10 rfl ?_
  refine mx_iald (k := 25) (n := t) r M d154_11 rfl rfl rfl (by show t < 640; exact ht) ?_
  rw [hp]
  refine mx_iald (k := 27) (n := p) r M d154_12 rfl rfl rfl (by show p < 6; exact hp6) ?_
  rw [hn]
  refine ie_istore d154_13 (by decide) ?_
  refine ie_iconst (nI 0) d154_15 (by decide) ?_
  refine ie_istore d154_16 (by decide) ?_
  exact s154_s M r ht hp hp6 hot hot6 hn64 hcs3 hcs hsn hu hu24 hH hd hd6 (n + 1) 0 (by omega) (by omega) _ rfl rfl rfl rfl rfl rfl
