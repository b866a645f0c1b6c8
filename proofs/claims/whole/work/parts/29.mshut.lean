set_option maxRecDepth 100000 in
set_option maxHeartbeats 4000000 in
/-- shut: the others move up -/
theorem s142_mv {G : ix_G} {h0 : ix_H} {o : Nat} {S : MS} (M : md_ok h0 o) {e k0 c : Nat} (he : e < 2) (hk : k0 < c) (hc : c ≤ 3) :
    ∀ (z q : Nat), k0 ≤ q → q ≤ c - 1 → c - 1 - q < z → ∀ h, mR o h0 h (mRm 41 43 S e k0 c q) → ∀ (lv : List (Nat × Value)), lv.lookup 0 = some (.ref o) → lv.lookup 3 = some (.int (nI e)) → lv.lookup 5 = some (.int (nI q)) → ix_E G 142 65 lv [] h (fun rv h' => rv = none ∧ mR o h0 h' (mRm 41 43 S e k0 c (c - 1))) := by
  intro z
  induction z with
  | zero => intro q h1 h2 h3; omega
  | succ z ih =>
    intro q hq1 hq2 hz h r lv l0 l3 l5
    refine ie_iload d142_65 l5 ?_
    refine ie_aload_n d142_67 l0 ?_
    refine mx_getr r M d142_68 fl17_128 rfl ?_
    refine ie_iload_n d142_71 l3 ?_
    refine mx_iald (k := 43) (n := e) r M d142_72 rfl rfl rfl (by show e < 2; exact he) ?_
    rw [mRm_B (by decide)]
    refine ie_icmp_ge 106 d142_73 (by decide) (fun c59 => ?_) (fun c59 => ?_)
    · rw [nI_leI (by omega) (by omega)] at c59
      have hi2 : q = c - 1 := by omega
      subst hi2
      exact ie_vret d142_106 rfl ⟨rfl, r⟩
    · rw [nI_leI (by omega) (by omega)] at c59
      refine ie_aload_n d142_76 l0 ?_
      refine mx_getr r M d142_77 fl17_122 rfl ?_
      refine ie_iconst (nI 3) d142_80 (by decide) ?_
      refine ie_iload_n d142_81 l3 ?_
      refine ie_imul d142_82 ?_
      rw [pk_mul]
      refine ie_iload d142_83 l5 ?_
      refine ie_iadd d142_85 ?_
      rw [nI_add]
      refine ie_aload_n d142_86 l0 ?_
      refine mx_getr r M d142_87 fl17_122 rfl ?_
      refine ie_iconst (nI 3) d142_90 (by decide) ?_
      refine ie_iload_n d142_91 l3 ?_
      refine ie_imul d142_92 ?_
      rw [pk_mul]
      refine ie_iload d142_93 l5 ?_
      refine ie_iadd d142_95 ?_
      rw [nI_add]
      refine ie_iconst (nI 1) d142_96 (by decide) ?_
      refine ie_iadd d142_97 ?_
      rw [nI_add]
      refine mx_iald (k := 41) (n := (3 * e + q + 1)) r M d142_98 rfl rfl rfl (by show 3 * e + q + 1 < 6; omega) ?_
      rw [mRm_r (by decide) (by omega)]
      refine mx_iast (k := 41) (n := (3 * e + q)) r M d142_99 rfl rfl rfl (by show 3 * e + q < 6; omega) (fun hh r => ?_)
      refine ie_iinc (nI (q + 1)) d142_100 l5 (nI_1 _) (by decide) ?_
      refine ie_goto 65 d142_103 (by decide) ?_
      exact ih (q + 1) (by omega) (by omega) (by omega) hh (by rw [← mRm_s rfl (by decide) (by omega)]; exact r) _ (ix_lk3 (by decide) l0 rfl) (ix_lk3 (by decide) l3 rfl) ix_lk1
set_option maxRecDepth 100000 in
set_option maxHeartbeats 4000000 in
/-- shut: where it stands -/
theorem s142_at {G : ix_G} {h0 h : ix_H} {o : Nat} {S : MS} (M : md_ok h0 o) (r : mR o h0 h S) {e k0 c t : Nat} (he : e < 2) (hH : mHas 41 43 S e k0 c t) :
    ∀ (z k : Nat), k ≤ k0 → k0 - k < z → ∀ (lv : List (Nat × Value)), lv.lookup 0 = some (.ref o) → lv.lookup 1 = some (.int (nI t)) → lv.lookup 3 = some (.int (nI e)) → lv.lookup 4 = some (.int (nI k)) → ix_E G 142 30 lv [] h (fun rv h' => rv = none ∧ mR o h0 h' (mRm 41 43 S e k0 c (c - 1))) := by
  obtain ⟨hk, hc3, hB, hat, hno⟩ := hH
  intro z
  induction z with
  | zero => intro k h1 h2; omega
  | succ z ih =>
    intro k hk1 hz lv l0 l1 l3 l4
    refine ie_aload_n d142_30 l0 ?_
    refine mx_getr r M d142_31 fl17_122 rfl ?_
    refine ie_iconst (nI 3) d142_34 (by decide) ?_
    refine ie_iload_n d142_35 l3 ?_
    refine ie_imul d142_36 ?_
    rw [pk_mul]
    refine ie_iload d142_37 l4 ?_
    refine ie_iadd d142_39 ?_
    rw [nI_add]
    refine mx_iald (k := 41) (n := (3 * e + k)) r M d142_40 rfl rfl rfl (by show 3 * e + k < 6; omega) ?_
    refine ie_iload_n d142_41 l1 ?_
    refine ie_icmp_eq 51 d142_42 (by decide) (fun c42 => ?_) (fun c42 => ?_)
    · skip
      have hk2 : k = k0 := by
        rcases Nat.lt_or_ge k k0 with w | w
        · exact absurd c42 (hno k w)
        · omega
      subst hk2
      refine ie_aload_n d142_51 l0 ?_
      refine mx_getr r M d142_52 fl17_128 rfl ?_
      refine ie_iload_n d142_55 l3 ?_
      refine ie_dup2 d142_56 rfl rfl ?_
      refine mx_iald (k := 43) (n := e) r M d142_57 rfl rfl rfl (by show e < 2; exact he) ?_
      rw [hB]
      refine ie_iconst (nI 1) d142_58 (by decide) ?_
      refine ie_isub d142_59 ?_
      rw [pk_sub (by omega)]
      refine mx_iast (k := 43) (n := e) r M d142_60 rfl rfl rfl (by show e < 2; exact he) (fun hh r => ?_)
      refine ie_iload d142_61 l4 ?_
      refine ie_istore d142_63 (by decide) ?_
      exact s142_mv M he hk hc3 (c - 1 - k + 1) k (by omega) (by omega) (by omega) hh (by rw [mRm_0 rfl]; exact r) _ (ix_lk3 (by decide) l0 rfl) (ix_lk3 (by decide) l3 rfl) ix_lk1
    · skip
      have hk2 : ¬ k = k0 := fun w => c42 (by rw [w]; exact hat)
      refine ie_iinc (nI (k + 1)) d142_45 l4 (nI_1 _) (by decide) ?_
      refine ie_goto 30 d142_48 (by decide) ?_
      exact ih (k + 1) (by omega) (by omega) _ (ix_lk3 (by decide) l0 rfl) (ix_lk3 (by decide) l1 rfl) (ix_lk3 (by decide) l3 rfl) ix_lk1
def mShut (S : MS) (t : Nat) (x : Int32) (p k0 c : Nat) : MS := mRm 41 43 (mset (mset S 23 t x) 35 p 0) (1 - t / 320) k0 c (c - 1)
set_option maxRecDepth 100000 in
set_option maxHeartbeats 4000000 in
/-- shut -/
theorem s142 {G : ix_G} {h : ix_H} {o : Nat} {S : MS} (M : md_ok h o) (hS : ms h o = S) {k0 c t p : Nat} (ht : t < 640) (hp : S 25 t = nI p) (hp6 : p < 6) (hH : mHas 41 43 S (1 - t / 320) k0 c t) (x : Int32) : ix_E G 142 0 (lv_args 0 [.ref o, .int (nI t), .int x]) [] h (fun rv h' => rv = none ∧ mR o h h' (mShut S t x p k0 c)) := by
  have r : mR o h h S := mR.rf hS
  refine ie_aload_n d142_0 rfl ?_
  refine mx_getr r M d142_1 fl17_68 rfl ?_
  refine ie_iload_n d142_4 rfl ?_
  refine ie_iload_n d142_5 rfl ?_
  refine mx_iast (k := 23) (n := t) r M d142_6 rfl rfl rfl (by show t < 640; exact ht) (fun hh r => ?_)
  refine ie_aload_n d142_7 rfl ?_
  refine mx_getr r M d142_8 fl17_104 rfl ?_
  refine ie_aload_n d142_11 rfl ?_
  refine mx_getr r M d142_12 fl17_74 rfl ?_
  refine ie_iload_n d142_15 rfl ?_
  refine mx_iald (k := 25) (n := t) r M d142_16 rfl rfl rfl (by show t < 640; exact ht) ?_
  rw [mset_k (by decide)]
  rw [hp]
  refine ie_iconst (nI 0) d142_17 (by decide) ?_
  refine mx_zast (k := 35) (n := p) r M d142_18 rfl rfl (by first | exact Or.inl rfl | exact Or.inr rfl | assumption | exact bI_01 _) rfl (by show p < 6; exact hp6) (fun hh r => ?_)
  refine ie_iconst (nI 1) d142_19 (by decide) ?_
  refine ie_iload_n d142_20 rfl ?_
  refine ie_sipush (nI 320) d142_21 (by decide) ?_
  refine ie_idiv d142_24 (by decide) ?_
  rw [pk_div (by omega) (by decide) (by decide)]
  refine ie_isub d142_25 ?_
  rw [pk_sub (by omega)]
  refine ie_istore_n d142_26 (by decide) ?_
  refine ie_iconst (nI 0) d142_27 (by decide) ?_
  refine ie_istore d142_28 (by decide) ?_
  exact s142_at M r (by omega) hH (k0 + 1) 0 (by omega) (by omega) _ rfl rfl rfl rfl
theorem mSend_o {S : MS} {u : Nat} {kind to t a b c : Int32} {k j : Nat} (h45 : k ≠ 45) (h44 : k ≠ 44) : mSend S u kind to t a b c k j = S k j := by
  unfold mSend
  split
  · rfl
  · rw [mset_k h44]
    unfold mRow
    rw [if_neg (fun z => h45 z.1)]
theorem mSend_u {S : MS} {u : Nat} {kind to t a b c : Int32} (hu : S 44 0 = nI u) (hu24 : u ≤ 24) : mSend S u kind to t a b c 44 0 = nI (if u = 24 then 24 else u + 1) := by
  unfold mSend
  split
  · rename_i e
    rw [hu, e]
  · rw [mset_s]
def mTell (S : MS) (u t p : Nat) : MS := mset (mset (mSend S u (nI 4) (nI (t / 320)) (nI t) (S 26 p) (nI 0) (nI 0)) 29 p (S 29 p + nI 1)) 30 p (S 2 0)
set_option maxRecDepth 100000 in
set_option maxHeartbeats 4000000 in
/-- tell -/
theorem s143 {G : ix_G} {h : ix_H} {o : Nat} {S : MS} (M : md_ok h o) (hS : ms h o = S) {t p u : Nat} (ht : t < 640) (hp : S 25 t = nI p) (hp6 : p < 6) (hu : S 44 0 = nI u) (hu24 : u ≤ 24) : ix_E G 143 0 (lv_args 0 [.ref o, .int (nI t)]) [] h (fun rv h' => rv = none ∧ mR o h h' (mTell S u t p)) := by
  have r : mR o h h S := mR.rf hS
  refine ie_aload_n d143_0 rfl ?_
  refine ie_iconst (nI 4) d143_1 (by decide) ?_
  refine ie_iload_n d143_2 rfl ?_
  refine ie_sipush (nI 320) d143_3 (by decide) ?_
  refine ie_idiv d143_6 (by decide) ?_
  rw [pk_div (by omega) (by decide) (by decide)]
  refine ie_iload_n d143_7 rfl ?_
  refine ie_aload_n d143_8 rfl ?_
  refine mx_getr r M d143_9 fl17_77 rfl ?_
  refine ie_aload_n d143_12 rfl ?_
  refine mx_getr r M d143_13 fl17_74 rfl ?_
  refine ie_iload_n d143_16 rfl ?_
  refine mx_iald (k := 25) (n := t) r M d143_17 rfl rfl rfl (by show t < 640; exact ht) ?_
  rw [hp]
  refine mx_iald (k := 26) (n := p) r M d143_18 rfl rfl rfl (by show p < 6; exact hp6) ?_
  refine ie_iconst (nI 0) d143_19 (by decide) ?_
  refine ie_iconst (nI 0) d143_20 (by decide) ?_
  refine mx_call r M [_, _, _, _, _, _] d143_21 ok136 rm143_136 cl17_177 rfl rfl (Nat.le_of_ble_eq_true rfl) (Nat.le_of_ble_eq_true rfl) (s136 (r.ok M) r.2.2 hu hu24 _ _ _ _ _ _) (fun hh r => ?_)
  refine ie_pop d143_24 rfl ?_
  refine ie_aload_n d143_25 rfl ?_
  refine mx_getr r M d143_26 fl17_86 rfl ?_
  refine ie_aload_n d143_29 rfl ?_
  refine mx_getr r M d143_30 fl17_74 rfl ?_
  refine ie_iload_n d143_33 rfl ?_
  refine mx_iald (k := 25) (n := t) r M d143_34 rfl rfl rfl (by show t < 640; exact ht) ?_
  rw [mSend_o (by decide) (by decide)]
  rw [hp]
  refine ie_dup2 d143_35 rfl rfl ?_
  refine mx_iald (k := 29) (n := p) r M d143_36 rfl rfl rfl (by show p < 6; exact hp6) ?_
  rw [mSend_o (by decide) (by decide)]
  refine ie_iconst (nI 1) d143_37 (by decide) ?_
  refine ie_iadd d143_38 ?_
  refine mx_iast (k := 29) (n := p) r M d143_39 rfl rfl rfl (by show p < 6; exact hp6) (fun hh r => ?_)
  refine ie_aload_n d143_40 rfl ?_
  refine mx_getr r M d143_41 fl17_89 rfl ?_
  refine ie_aload_n d143_44 rfl ?_
  refine mx_getr r M d143_45 fl17_74 rfl ?_
  refine ie_iload_n d143_48 rfl ?_
  refine mx_iald (k := 25) (n := t) r M d143_49 rfl rfl rfl (by show t < 640; exact ht) ?_
  rw [mset_k (by decide)]
  rw [mSend_o (by decide) (by decide)]
  rw [hp]
  refine ie_aload_n d143_50 rfl ?_
  refine mx_geti r M d143_51 fl17_234 rfl ?_
  rw [mset_k (by decide)]
  rw [mSend_o (by decide) (by decide)]
  refine mx_iast (k := 30) (n := p) r M d143_54 rfl rfl rfl (by show p < 6; exact hp6) (fun hh r => ?_)
  exact ie_vret d143_55 rfl ⟨rfl, r⟩
def mFin2 (S : MS) (u t p : Nat) (x : Int32) : MS := mTell (mset (mset (mset S 26 p x) 23 t (nI 6)) 29 p (nI 0)) u t p
def mFin (S : MS) (u t p k0 c : Nat) (x y : Int32) : MS := if y = 1 then mShut (mset S 26 p x) t x p k0 c else mFin2 S u t p x
set_option maxRecDepth 100000 in
set_option maxHeartbeats 4000000 in
/-- finish -/
theorem s144 {G : ix_G} {h : ix_H} {o : Nat} {S : MS} (M : md_ok h o) (hS : ms h o = S) {t p u k0 c : Nat} (ht : t < 640) (hp : S 25 t = nI p) (hp6 : p < 6) (hu : S 44 0 = nI u) (hu24 : u ≤ 24) (x y : Int32) (hH : y = 1 → mHas 41 43 S (1 - t / 320) k0 c t) : ix_E G 144 0 (lv_args 0 [.ref o, .int (nI t), .int x, .int y]) [] h (fun rv h' => rv = none ∧ mR o h h' (mFin S u t p k0 c x y)) := by
  have r : mR o h h S := mR.rf hS
  refine ie_aload_n d144_0 rfl ?_
  refine mx_getr r M d144_1 fl17_77 rfl ?_
  refine ie_aload_n d144_4 rfl ?_
  refine mx_getr r M d144_5 fl17_74 rfl ?_
  refine ie_iload_n d144_8 rfl ?_
  refine mx_iald (k := 25) (n := t) r M d144_9 rfl rfl rfl (by show t < 640; exact ht) ?_
  rw [hp]
  refine ie_iload_n d144_10 rfl ?_
  refine mx_iast (k := 26) (n := p) r M d144_11 rfl rfl rfl (by show p < 6; exact hp6) (fun hh r => ?_)
  refine ie_iload_n d144_12 rfl ?_
  refine ie_iconst (nI 1) d144_13 (by decide) ?_
  refine ie_icmp_ne 24 d144_14 (by decide) (fun c14 => ?_) (fun c14 => ?_)
  · skip
    have c15 : ¬ y = 1 := c14
    unfold mFin
    rw [if_neg c15]
    refine ie_aload_n d144_24 rfl ?_
    refine mx_getr r M d144_25 fl17_68 rfl ?_
    refine ie_iload_n d144_28 rfl ?_
    refine ie_bipush (nI 6) d144_29 (by decide) ?_
    refine mx_iast (k := 23) (n := t) r M d144_31 rfl rfl rfl (by show t < 640; exact ht) (fun hh r => ?_)
    refine ie_aload_n d144_32 rfl ?_
    refine mx_getr r M d144_33 fl17_86 rfl ?_
    refine ie_aload_n d144_36 rfl ?_
    refine mx_getr r M d144_37 fl17_74 rfl ?_
    refine ie_iload_n d144_40 rfl ?_
    refine mx_iald (k := 25) (n := t) r M d144_41 rfl rfl rfl (by show t < 640; exact ht) ?_
    rw [mset_k (by decide)]
    rw [mset_k (by decide)]
    rw [hp]
    refine ie_iconst (nI 0) d144_42 (by decide) ?_
    refine mx_iast (k := 29) (n := p) r M d144_43 rfl rfl rfl (by show p < 6; exact hp6) (fun hh r => ?_)
    refine ie_aload_n d144_44 rfl ?_
    refine ie_iload_n d144_45 rfl ?_
    refine mx_call r M [_] d144_46 ok143 rm144_143 cl17_231 rfl rfl (Nat.le_of_ble_eq_true rfl) (Nat.le_of_ble_eq_true rfl) (s143 (p := p) (u := u) (r.ok M) r.2.2 ht (by rw [mset_k (by decide), mset_k (by decide), mset_k (by decide)]; exact hp) hp6 (by rw [mset_k (by decide), mset_k (by decide), mset_k (by decide)]; exact hu) hu24) (fun hh r => ?_)
    exact ie_vret d144_49 rfl ⟨rfl, r⟩
  · skip
    have c15 : y = 1 := c14
    unfold mFin
    rw [if_pos c15]
    refine ie_aload_n d144_17 rfl ?_
    refine ie_iload_n d144_18 rfl ?_
    refine ie_iload_n d144_19 rfl ?_
    refine mx_call r M [_, _] d144_20 ok142 rm144_142 cl17_209 rfl rfl (Nat.le_of_ble_eq_true rfl) (Nat.le_of_ble_eq_true rfl) (s142 (r.ok M) r.2.2 ht (by rw [mset_k (by decide)]; exact hp) hp6 (by obtain ⟨a1, a2, a3, a4, a5⟩ := hH c15; exact ⟨a1, a2, by rw [mset_k (by decide)]; exact a3, by rw [mset_k (by decide)]; exact a4, fun k hk => by rw [mset_k (by decide)]; exact a5 k hk⟩) _) (fun hh r => ?_)
    exact ie_vret d144_23 rfl ⟨rfl, r⟩
