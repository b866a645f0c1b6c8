set_option maxRecDepth 100000 in
set_option maxHeartbeats 4000000 in
/-- toSender -/
theorem s150 {G : ix_G} {h : ix_H} {o : Nat} {S : MS} (M : md_ok h o) (hS : ms h o = S) {t u f n k0 c gc cn : Nat} {A B : Nat → Nat} (hu : S 44 0 = nI u) (hu24 : u ≤ 24) (hX : cn ≤ 319 ∧ S 7 (t / 320) = nI cn ∧ 1 ≤ t % 320 ∧ t % 320 ≤ cn ∧ t < 640) (hfi : nI (6 * (t / 320)) + S 9 t = nI f) (hf : f < 12) (hl : S 5 f = nI n) (hn64 : n ≤ 64) (hH : S 13 t = nI 5 → mHas 40 42 S (t / 320) k0 c t) (hG : S 46 0 = nI 6 → mGaps S gc A B) : ix_E G 150 0 (lv_args 0 [.ref o, .int (nI t)]) [] h (fun rv h' => rv = none ∧ mR o h h' (mToS S u t n k0 c gc A B)) := by
  have r : mR o h h S := mR.rf hS
  have ht : t < 640 := hX.2.2.2.2
  refine ie_iload_n d150_0 rfl ?_
  refine ie_sipush (nI 320) d150_1 (by decide) ?_
  refine ie_idiv d150_4 (by decide) ?_
  rw [pk_div (by omega) (by decide) (by decide)]
  refine ie_istore_n d150_5 (by decide) ?_
  refine ie_aload_n d150_6 rfl ?_
  refine ie_iload_n d150_7 rfl ?_
  refine ie_iload_n d150_8 rfl ?_
  refine ie_sipush (nI 320) d150_9 (by decide) ?_
  refine ie_irem d150_12 (by decide) ?_
  rw [pk_rem (by omega) (by decide) (by decide)]
  refine mx_ask r M [_, _] d150_13 ok127 rm150_127 cl17_174 rfl rfl (Nat.le_of_ble_eq_true rfl) (Nat.le_of_ble_eq_true rfl) (s127 (r.ok M) _ _) ?_
  rw [r.2.2, mKnown_of (by omega) hX.2.2.1 hX.2.2.2.1 hX.1 hX.2.1]
  refine ie_if_lt 29 d150_16 (by decide) (fun c16 => ?_) (fun c16 => ?_)
  · skip
    exact absurd c16 (nI_pos (by omega))
  · skip
    refine ie_aload_n d150_19 rfl ?_
    refine mx_getr r M d150_20 fl17_23 rfl ?_
    refine ie_iload_n d150_23 rfl ?_
    refine mx_iald (k := 8) (n := t) r M d150_24 rfl rfl rfl (by show t < 640; exact ht) ?_
    refine ie_iconst (nI 1) d150_25 (by decide) ?_
    refine ie_icmp_ne 30 d150_26 (by decide) (fun c26 => ?_) (fun c26 => ?_)
    · skip
      unfold mToS
      rw [if_neg c26]
      refine ie_aload_n d150_30 rfl ?_
      refine mx_getr r M d150_31 fl17_134 rfl ?_
      refine ie_iconst (nI 0) d150_34 (by decide) ?_
      refine mx_iald (k := 46) (n := 0) r M d150_35 rfl rfl rfl (by decide) ?_
      refine ie_iconst (nI 4) d150_36 (by decide) ?_
      refine ie_icmp_ne 53 d150_37 (by decide) (fun c37 => ?_) (fun c37 => ?_)
      · skip
        rw [if_neg c37]
        first | exact s150_tail M r ht hfi hf hl hn64 hH hG _ rfl rfl | exact s150_tail M r ht (by rw [mSend_o (by decide) (by decide)]; exact hfi) hf (by rw [mSend_o (by decide) (by decide)]; exact hl) hn64 (fun q => mHas_o (hH ((mSend_o (by decide) (by decide)).symm.trans q)) (fun j => mSend_o (by decide) (by decide)) (fun j => mSend_o (by decide) (by decide))) (fun q => by rw [mSend_o (by decide) (by decide)] at q; exact absurd (c37.symm.trans q) (by decide)) _ rfl rfl
      · skip
        rw [if_pos c37]
        refine ie_aload_n d150_40 rfl ?_
        refine ie_iconst (nI 5) d150_41 (by decide) ?_
        refine ie_iconst (nI 1) d150_42 (by decide) ?_
        refine ie_iload_n d150_43 rfl ?_
        refine ie_isub d150_44 ?_
        rw [pk_sub (by omega)]
        refine ie_iload_n d150_45 rfl ?_
        refine ie_iconst (nI 4) d150_46 (by decide) ?_
        refine ie_iconst (nI 0) d150_47 (by decide) ?_
        refine ie_iconst (nI 0) d150_48 (by decide) ?_
        refine mx_call r M [_, _, _, _, _, _] d150_49 ok136 rm150_136 cl17_177 rfl rfl (Nat.le_of_ble_eq_true rfl) (Nat.le_of_ble_eq_true rfl) (s136 (r.ok M) r.2.2 hu hu24 _ _ _ _ _ _) (fun hh r => ?_)
        refine ie_pop d150_52 rfl ?_
        first | exact s150_tail M r ht hfi hf hl hn64 hH hG _ rfl rfl | exact s150_tail M r ht (by rw [mSend_o (by decide) (by decide)]; exact hfi) hf (by rw [mSend_o (by decide) (by decide)]; exact hl) hn64 (fun q => mHas_o (hH ((mSend_o (by decide) (by decide)).symm.trans q)) (fun j => mSend_o (by decide) (by decide)) (fun j => mSend_o (by decide) (by decide))) (fun q => by rw [mSend_o (by decide) (by decide)] at q; exact absurd (c37.symm.trans q) (by decide)) _ rfl rfl
    · skip
      unfold mToS
      rw [if_pos c26]
      exact ie_vret d150_29 rfl ⟨rfl, r⟩
/-- a place that is free is taken: p is the first one -/
def mPl0 (S : MS) (p : Nat) (n : Nat) : MS := fun k j => if k = 39 ∧ 16 * p ≤ j ∧ j < 16 * p + n then 0 else S k j
theorem mPl0_0 {S : MS} {p : Nat} : mPl0 S p 0 = S := by
  funext k j
  unfold mPl0
  rw [if_neg (by omega)]
theorem mPl0_s {S : MS} {p n : Nat} : mset (mPl0 S p n) 39 (16 * p + n) 0 = mPl0 S p (n + 1) := by
  funext k j
  unfold mset mPl0
  by_cases e : k = 39 ∧ j = 16 * p + n
  · rw [if_pos ⟨e.1, Or.inl e.2⟩, if_pos ⟨e.1, by omega, by omega⟩]
  · rw [if_neg (fun z => e ⟨z.1, z.2.elim id (fun q => by cases q)⟩)]
    by_cases q : k = 39 ∧ 16 * p ≤ j ∧ j < 16 * p + n
    · rw [if_pos q, if_pos ⟨q.1, q.2.1, by omega⟩]
    · rw [if_neg q, if_neg (fun z => q ⟨z.1, z.2.1, by omega⟩)]
def mPlace (S : MS) (t p : Nat) : MS := mPl0 (mset (mset (mset (mset (mset S 25 t (nI p)) 35 p (nI 1)) 36 p (nI 0)) 37 p (nI 0)) 29 p (nI 0)) p 16
set_option maxRecDepth 100000 in
set_option maxHeartbeats 4000000 in
/-- place: its last loop -/
theorem s153_z {G : ix_G} {h0 : ix_H} {o : Nat} {S : MS} (M : md_ok h0 o) {p : Nat} (hp : p < 6) :
    ∀ (z i : Nat), i ≤ 16 → 16 - i < z → ∀ h, mR o h0 h (mPl0 S p i) → ∀ (lv : List (Nat × Value)), lv.lookup 0 = some (.ref o) → lv.lookup 3 = some (.int (nI p)) → lv.lookup 4 = some (.int (nI (16 * p + i))) → ix_E G 153 60 lv [] h (fun rv h' => rv = none ∧ mR o h0 h' (mPl0 S p 16)) := by
  intro z
  induction z with
  | zero => intro i h1 h2; omega
  | succ z ih =>
    intro i hi hz h r lv l0 l3 l4
    refine ie_iload d153_60 l4 ?_
    refine ie_bipush (nI 16) d153_62 (by decide) ?_
    refine ie_iload_n d153_64 l3 ?_
    refine ie_imul d153_65 ?_
    rw [pk_mul]
    refine ie_bipush (nI 16) d153_66 (by decide) ?_
    refine ie_iadd d153_68 ?_
    rw [nI_add]
    refine ie_icmp_ge 86 d153_69 (by decide) (fun c69 => ?_) (fun c69 => ?_)
    · skip
      rw [nI_leI (by omega) (by omega)] at c69
      have hi2 : i = 16 := by omega
      subst hi2
      exact ie_vret d153_86 rfl ⟨rfl, r⟩
    · skip
      rw [nI_leI (by omega) (by omega)] at c69
      refine ie_aload_n d153_72 l0 ?_
      refine mx_getr r M d153_73 fl17_116 rfl ?_
      refine ie_iload d153_76 l4 ?_
      refine ie_iconst (nI 0) d153_78 (by decide) ?_
      refine mx_iast (k := 39) (n := (16 * p + i)) r M d153_79 rfl rfl rfl (by show 16 * p + i < 96; omega) (fun hh r => ?_)
      refine ie_iinc (nI ((16 * p + i) + 1)) d153_80 l4 (nI_1 _) (by decide) ?_
      refine ie_goto 60 d153_83 (by decide) ?_
      exact ih (i + 1) (by omega) (by omega) hh (by rw [← mPl0_s]; exact r) _ (ix_lk3 (by decide) l0 rfl) (ix_lk3 (by decide) l3 rfl) (by rw [← Nat.add_assoc]; exact ix_lk1)
set_option maxRecDepth 100000 in
set_option maxHeartbeats 4000000 in
/-- place: the first free one -/
theorem s153_at {G : ix_G} {h : ix_H} {o : Nat} {S : MS} (M : md_ok h o) (r : mR o h h S) {e t p : Nat} (ht : t < 640) (hp6 : p < 6) (hat : S 35 p = 0) (hno : ∀ q, 3 * e ≤ q → q < p → ¬ S 35 q = 0) :
    ∀ (z q : Nat), 3 * e ≤ q → q ≤ p → p - q < z → ∀ (lv : List (Nat × Value)), lv.lookup 0 = some (.ref o) → lv.lookup 2 = some (.int (nI t)) → lv.lookup 3 = some (.int (nI q)) → ix_E G 153 4 lv [] h (fun rv h' => rv = none ∧ mR o h h' (mPlace S t p)) := by
  intro z
  induction z with
  | zero => intro q h1 h2 h3; omega
  | succ z ih =>
    intro q hq1 hq hz lv l0 l2 l3
    refine ie_aload_n d153_4 l0 ?_
    refine mx_getr r M d153_5 fl17_104 rfl ?_
    refine ie_iload_n d153_8 l3 ?_
    refine mx_zald (k := 35) (n := q) r M d153_9 rfl rfl rfl (by show q < 6; omega) ?_
    refine ie_if_eq 19 d153_10 (by decide) (fun c10 => ?_) (fun c10 => ?_)
    · skip
      have hq2 : q = p := by
        rcases Nat.lt_or_ge q p with w | w
        · exact absurd c10 (hno q hq1 w)
        · omega
      subst hq2
      refine ie_aload_n d153_19 l0 ?_
      refine mx_getr r M d153_20 fl17_74 rfl ?_
      refine ie_iload_n d153_23 l2 ?_
      refine ie_iload_n d153_24 l3 ?_
      refine mx_iast (k := 25) (n := t) r M d153_25 rfl rfl rfl (by show t < 640; exact ht) (fun hh r => ?_)
      refine ie_aload_n d153_26 l0 ?_
      refine mx_getr r M d153_27 fl17_104 rfl ?_
      refine ie_iload_n d153_30 l3 ?_
      refine ie_iconst (nI 1) d153_31 (by decide) ?_
      refine mx_zast (k := 35) (n := q) r M d153_32 rfl rfl (by first | exact Or.inl rfl | exact Or.inr rfl | assumption | exact bI_01 _) rfl (by show q < 6; omega) (fun hh r => ?_)
      refine ie_aload_n d153_33 l0 ?_
      refine mx_getr r M d153_34 fl17_107 rfl ?_
      refine ie_iload_n d153_37 l3 ?_
      refine ie_iconst (nI 0) d153_38 (by decide) ?_
      refine mx_zast (k := 36) (n := q) r M d153_39 rfl rfl (by first | exact Or.inl rfl | exact Or.inr rfl | assumption | exact bI_01 _) rfl (by show q < 6; omega) (fun hh r => ?_)
      refine ie_aload_n d153_40 l0 ?_
      refine mx_getr r M d153_41 fl17_110 rfl ?_
      refine ie_iload_n d153_44 l3 ?_
      refine ie_iconst (nI 0) d153_45 (by decide) ?_
      refine mx_zast (k := 37) (n := q) r M d153_46 rfl rfl (by first | exact Or.inl rfl | exact Or.inr rfl | assumption | exact bI_01 _) rfl (by show q < 6; omega) (fun hh r => ?_)
      refine ie_aload_n d153_47 l0 ?_
      refine mx_getr r M d153_48 fl17_86 rfl ?_
      refine ie_iload_n d153_51 l3 ?_
      refine ie_iconst (nI 0) d153_52 (by decide) ?_
      refine mx_iast (k := 29) (n := q) r M d153_53 rfl rfl rfl (by show q < 6; omega) (fun hh r => ?_)
      refine ie_bipush (nI 16) d153_54 (by decide) ?_
      refine ie_iload_n d153_56 l3 ?_
      refine ie_imul d153_57 ?_
      rw [pk_mul]
      refine ie_istore d153_58 (by decide) ?_
      exact s153_z M hp6 17 0 (by omega) (by omega) hh (by rw [mPl0_0]; exact r) _ (ix_lk3 (by decide) l0 rfl) (ix_lk3 (by decide) l3 rfl) ix_lk1
    · skip
      have hq2 : ¬ q = p := fun w => c10 (by rw [w]; exact hat)
      refine ie_iinc (nI (q + 1)) d153_13 l3 (nI_1 _) (by decide) ?_
      refine ie_goto 4 d153_16 (by decide) ?_
      exact ih (q + 1) (by omega) (by omega) (by omega) _ (ix_lk3 (by decide) l0 rfl) (ix_lk3 (by decide) l2 rfl) ix_lk1
set_option maxRecDepth 100000 in
set_option maxHeartbeats 4000000 in
/-- place -/
theorem s153 {G : ix_G} {h : ix_H} {o : Nat} {S : MS} (M : md_ok h o) (hS : ms h o = S) {e t p : Nat} (he : e < 2) (ht : t < 640) (hp6 : p < 6) (hpe : 3 * e ≤ p) (hat : S 35 p = 0) (hno : ∀ q, 3 * e ≤ q → q < p → ¬ S 35 q = 0) : ix_E G 153 0 (lv_args 0 [.ref o, .int (nI e), .int (nI t)]) [] h (fun rv h' => rv = none ∧ mR o h h' (mPlace S t p)) := by
  have r : mR o h h S := mR.rf hS
  refine ie_iconst (nI 3) d153_0 (by decide) ?_
  refine ie_iload_n d153_1 rfl ?_
  refine ie_imul d153_2 ?_
  rw [pk_mul]
  refine ie_istore_n d153_3 (by decide) ?_
  exact s153_at M r ht hp6 hat hno (p - 3 * e + 1) (3 * e) (by omega) hpe (by omega) _ rfl rfl rfl
/-- the first segment that is missing, from s on; n is the size, p the place -/
def mMiss (S : MS) (p s : Nat) : Prop := S 39 (16 * p + s) = 0
def mLost (S : MS) (p a : Nat) : Nat → Nat → Int32
  | 0, _ => -1
  | z + 1, s => if a ≤ s then -1 else if S 39 (16 * p + s) = 0 then nI s else mLost S p a z (s + 1)
set_option maxRecDepth 100000 in
set_option maxHeartbeats 4000000 in
/-- lost: its loop -/
theorem s146_loop {G : ix_G} {h : ix_H} {o : Nat} {S : MS} (M : md_ok h o) (r : mR o h h S) {t p n : Nat} (ht : t < 640) (hp : S 25 t = nI p) (hp6 : p < 6) (hn : S 27 p = nI n) (hn64 : n ≤ 64) :
    ∀ (z s : Nat), s ≤ 16 → 16 < s + z → ∀ (lv : List (Nat × Value)), lv.lookup 0 = some (.ref o) → lv.lookup 1 = some (.int (nI t)) → lv.lookup 3 = some (.int (nI s)) → ix_E G 146 2 lv [] h (fun rv h' => rv = some (.int (mLost S p ((n + 3) / 4) z s)) ∧ h' = h) := by
  intro z
  induction z with
  | zero => intro s h1 h2; omega
  | succ z ih =>
    intro s hs16 hz lv l0 l1 l3
    refine ie_iload_n d146_2 l3 ?_
    refine ie_aload_n d146_3 l0 ?_
    refine mx_getr r M d146_4 fl17_80 rfl ?_
    refine ie_aload_n d146_7 l0 ?_
    refine mx_getr r M d146_8 fl17_74 rfl ?_
    refine ie_iload_n d146_11 l1 ?_
    refine mx_iald (k := 25) (n := t) r M d146_12 rfl rfl rfl (by show t < 640; exact ht) ?_
    rw [hp]
    refine mx_iald (k := 27) (n := p) r M d146_13 rfl rfl rfl (by show p < 6; exact hp6) ?_
    rw [hn]
    refine ie_callSx [_] d146_14 ok132 rm146_132 cl17_164 rfl rfl (Nat.le_of_ble_eq_true rfl) (Nat.le_of_ble_eq_true rfl) (s132 _) ?_
    rw [seg_nI (by omega)]
    refine ie_icmp_ge 47 d146_17 (by decide) (fun c17 => ?_) (fun c17 => ?_)
    · skip
      rw [nI_leI (by omega) (by omega)] at c17
      have K : (-1 : Int32) = mLost S p ((n + 3) / 4) (z + 1) s := by
        show _ = (if _ then _ else _)
        rw [if_pos (by omega)]
      refine ie_iconst (-1) d146_47 (by decide) ?_
      exact ie_iret d146_48 rfl (by first | rfl | decide | exact (ix_bz (bI_01 _)).1 | exact (ix_bz (by assumption)).1) ⟨by rw [K], rfl⟩
    · skip
      rw [nI_leI (by omega) (by omega)] at c17
      refine ie_aload_n d146_20 l0 ?_
      refine mx_getr r M d146_21 fl17_116 rfl ?_
      refine ie_bipush (nI 16) d146_24 (by decide) ?_
      refine ie_aload_n d146_26 l0 ?_
      refine mx_getr r M d146_27 fl17_74 rfl ?_
      refine ie_iload_n d146_30 l1 ?_
      refine mx_iald (k := 25) (n := t) r M d146_31 rfl rfl rfl (by show t < 640; exact ht) ?_
      rw [hp]
      refine ie_imul d146_32 ?_
      rw [pk_mul]
      refine ie_iload_n d146_33 l3 ?_
      refine ie_iadd d146_34 ?_
      rw [nI_add]
      refine mx_iald (k := 39) (n := (16 * p + s)) r M d146_35 rfl rfl rfl (by show 16 * p + s < 96; omega) ?_
      refine ie_if_ne 41 d146_36 (by decide) (fun c36 => ?_) (fun c36 => ?_)
      · skip
        have K : mLost S p ((n + 3) / 4) (z + 1) s = mLost S p ((n + 3) / 4) z (s + 1) := by
          show (if _ then _ else _) = _
          rw [if_neg (by omega), if_neg c36]
        rw [K]
        refine ie_iinc (nI (s + 1)) d146_41 l3 (nI_1 _) (by decide) ?_
        refine ie_goto 2 d146_44 (by decide) ?_
        exact ih (s + 1) (by omega) (by omega) _ (ix_lk3 (by decide) l0 rfl) (ix_lk3 (by decide) l1 rfl) ix_lk1
      · skip
        have K : nI s = mLost S p ((n + 3) / 4) (z + 1) s := by
          show _ = (if _ then _ else _)
          rw [if_neg (by omega), if_pos c36]
        refine ie_iload_n d146_39 l3 ?_
        exact ie_iret d146_40 rfl (by first | rfl | decide | exact (ix_bz (bI_01 _)).1 | exact (ix_bz (by assumption)).1) ⟨by rw [K], rfl⟩
set_option maxRecDepth 100000 in
set_option maxHeartbeats 4000000 in
/-- lost -/
theorem s146 {G : ix_G} {h : ix_H} {o : Nat} {S : MS} (M : md_ok h o) (hS : ms h o = S) {t p n s : Nat} (ht : t < 640) (hp : S 25 t = nI p) (hp6 : p < 6) (hn : S 27 p = nI n) (hn64 : n ≤ 64) (hs : s ≤ 16) : ix_Ev G 146 0 (lv_args 0 [.ref o, .int (nI t), .int (nI s)]) [] h (some (.int (mLost S p ((n + 3) / 4) 17 s))) (h) := by
  refine ix_ofE ?_
  have r : mR o h h S := mR.rf hS
  refine ie_iload_n d146_0 rfl ?_
  refine ie_istore_n d146_1 (by decide) ?_
  exact s146_loop M r ht hp hp6 hn hn64 17 s hs (by omega) _ rfl rfl rfl
