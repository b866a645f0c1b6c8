/-- how many transactions an entity has: within the rows -/
def mNum (S : MS) : Prop := ∀ e, e < 2 → ∃ c, c ≤ 319 ∧ S 7 e = nI c
theorem mKnown_m0 {S : MS} {x : Int32} {e n : Int32} : mKnown (mset S 3 0 x) e n = mKnown S e n := by
  unfold mKnown
  rw [mset_k (by decide)]
theorem mKnown_t {S : MS} (hN : mNum S) {e n : Int32} (q : 0 ≤ mKnown S e n) : ∃ e' n' c : Nat, e' < 2 ∧ 1 ≤ n' ∧ n' ≤ c ∧ c ≤ 319 ∧ S 7 e' = nI c ∧ e = nI e' ∧ n = nI n' ∧ mKnown S e n = nI (320 * e' + n') := by
  unfold mKnown at q ⊢
  by_cases z : (0 ≤ e ∧ e ≤ 1) ∧ 1 ≤ n ∧ n ≤ S 7 e.toNatClampNeg
  · rw [if_pos z]
    obtain ⟨e', he, rfl⟩ := isE2 z.1
    obtain ⟨c, hc, hs⟩ := hN e' he
    have h2 := z.2.2
    rw [cl2 (by omega), hs] at h2
    have h1 : ¬ n < 0 := fun y => by
      have a1 := Int32.le_iff_toInt_le.mp z.2.1
      have a2 := Int32.lt_iff_toInt_lt.mp y
      simp only [tI] at a1 a2
      omega
    obtain ⟨n', hn, rfl⟩ := nI_of h1
    rw [nI_leI hn (by omega)] at h2
    have h3 : 1 ≤ n' := by
      have a1 := Int32.le_iff_toInt_le.mp z.2.1
      rw [nI_toInt hn] at a1
      simp only [tI] at a1
      omega
    exact ⟨e', n', c, he, h3, h2, hc, hs, rfl, rfl, by rw [show (320 : Int32) = nI 320 from rfl, pk_mul, nI_add]⟩
  · rw [if_neg z] at q
    exact absurd q (by decide)
theorem neg_of {x : Int32} (h : ¬ 0 ≤ x) : x < 0 := Int32.not_le.mp h
def mAsk (S : MS) (k : Nat) (e n : Int32) : Int32 := if 0 ≤ mKnown S e n then S k (mKnown S e n).toNatClampNeg else 0
set_option maxRecDepth 100000 in
set_option maxHeartbeats 4000000 in
/-- sender -/
theorem s162 {G : ix_G} {h : ix_H} {o : Nat} {S : MS} (M : md_ok h o) (hS : ms h o = S) (hN : mNum S) (e n : Int32) : ix_E G 162 0 (lv_args 0 [.ref o, .int e, .int n]) [] h (fun rv h' => rv = some (.int (mAsk S 13 e n)) ∧ mR o h h' (m0 S)) := by
  have r : mR o h h S := mR.rf hS
  refine ie_aload_n d162_0 rfl ?_
  refine ie_iconst (nI 0) d162_1 (by decide) ?_
  refine mx_puti r M d162_2 fl17_144 rfl rfl rfl (fun hh r => ?_)
  refine ie_aload_n d162_5 rfl ?_
  refine ie_iload_n d162_6 rfl ?_
  refine ie_iload_n d162_7 rfl ?_
  refine mx_ask r M [_, _] d162_8 ok127 rm162_127 cl17_174 rfl rfl (Nat.le_of_ble_eq_true rfl) (Nat.le_of_ble_eq_true rfl) (s127 (r.ok M) _ _) ?_
  rw [r.2.2, mKnown_m0]
  generalize hx : mKnown S e n = x
  refine ie_istore_n d162_11 (by decide) ?_
  refine ie_iload_n d162_12 rfl ?_
  refine ie_if_ge 20 d162_13 (by decide) (fun c13 => ?_) (fun c13 => ?_)
  · skip
    have c14 : 0 ≤ mKnown S e n := by rw [hx]; exact c13
    obtain ⟨e', n', c, he, h1, h2, h3, -, -, -, ht⟩ := mKnown_t hN c14
    rw [hx] at ht
    subst ht
    have K : S 13 (320 * e' + n') = mAsk S 13 e n := by
      unfold mAsk
      rw [hx, if_pos c13, cl2 (by omega)]
    refine ie_aload_n d162_20 rfl ?_
    refine mx_getr r M d162_21 fl17_38 rfl ?_
    refine ie_iload_n d162_24 rfl ?_
    refine mx_iald (k := 13) (n := (320 * e' + n')) r M d162_25 rfl rfl rfl (by show 320 * e' + n' < 640; omega) ?_
    rw [mset_k (by decide)]
    exact ie_iret d162_26 rfl (by first | rfl | decide | exact (ix_bz (bI_01 _)).1 | exact (ix_bz (by assumption)).1) ⟨by rw [K], r⟩
  · skip
    have K : nI 0 = mAsk S 13 e n := by
      unfold mAsk
      rw [hx, if_neg c13]
      rfl
    refine ie_iconst (nI 0) d162_16 (by decide) ?_
    refine ie_goto 26 d162_17 (by decide) ?_
    exact ie_iret d162_26 rfl (by first | rfl | decide | exact (ix_bz (bI_01 _)).1 | exact (ix_bz (by assumption)).1) ⟨by rw [K], r⟩
set_option maxRecDepth 100000 in
set_option maxHeartbeats 4000000 in
/-- receiver -/
theorem s163 {G : ix_G} {h : ix_H} {o : Nat} {S : MS} (M : md_ok h o) (hS : ms h o = S) (hN : mNum S) (e n : Int32) : ix_E G 163 0 (lv_args 0 [.ref o, .int e, .int n]) [] h (fun rv h' => rv = some (.int (mAsk S 23 e n)) ∧ mR o h h' (m0 S)) := by
  have r : mR o h h S := mR.rf hS
  refine ie_aload_n d163_0 rfl ?_
  refine ie_iconst (nI 0) d163_1 (by decide) ?_
  refine mx_puti r M d163_2 fl17_144 rfl rfl rfl (fun hh r => ?_)
  refine ie_aload_n d163_5 rfl ?_
  refine ie_iload_n d163_6 rfl ?_
  refine ie_iload_n d163_7 rfl ?_
  refine mx_ask r M [_, _] d163_8 ok127 rm163_127 cl17_174 rfl rfl (Nat.le_of_ble_eq_true rfl) (Nat.le_of_ble_eq_true rfl) (s127 (r.ok M) _ _) ?_
  rw [r.2.2, mKnown_m0]
  generalize hx : mKnown S e n = x
  refine ie_istore_n d163_11 (by decide) ?_
  refine ie_iload_n d163_12 rfl ?_
  refine ie_if_ge 20 d163_13 (by decide) (fun c13 => ?_) (fun c13 => ?_)
  · skip
    have c14 : 0 ≤ mKnown S e n := by rw [hx]; exact c13
    obtain ⟨e', n', c, he, h1, h2, h3, -, -, -, ht⟩ := mKnown_t hN c14
    rw [hx] at ht
    subst ht
    have K : S 23 (320 * e' + n') = mAsk S 23 e n := by
      unfold mAsk
      rw [hx, if_pos c13, cl2 (by omega)]
    refine ie_aload_n d163_20 rfl ?_
    refine mx_getr r M d163_21 fl17_68 rfl ?_
    refine ie_iload_n d163_24 rfl ?_
    refine mx_iald (k := 23) (n := (320 * e' + n')) r M d163_25 rfl rfl rfl (by show 320 * e' + n' < 640; omega) ?_
    rw [mset_k (by decide)]
    exact ie_iret d163_26 rfl (by first | rfl | decide | exact (ix_bz (bI_01 _)).1 | exact (ix_bz (by assumption)).1) ⟨by rw [K], r⟩
  · skip
    have K : nI 0 = mAsk S 23 e n := by
      unfold mAsk
      rw [hx, if_neg c13]
      rfl
    refine ie_iconst (nI 0) d163_16 (by decide) ?_
    refine ie_goto 26 d163_17 (by decide) ?_
    exact ie_iret d163_26 rfl (by first | rfl | decide | exact (ix_bz (bI_01 _)).1 | exact (ix_bz (by assumption)).1) ⟨by rw [K], r⟩
set_option maxRecDepth 100000 in
set_option maxHeartbeats 4000000 in
/-- request -/
theorem s164 {G : ix_G} {h : ix_H} {o : Nat} {S : MS} (M : md_ok h o) (hS : ms h o = S) (hN : mNum S) (e n : Int32) : ix_E G 164 0 (lv_args 0 [.ref o, .int e, .int n]) [] h (fun rv h' => rv = some (.int (mAsk S 24 e n)) ∧ mR o h h' (m0 S)) := by
  have r : mR o h h S := mR.rf hS
  refine ie_aload_n d164_0 rfl ?_
  refine ie_iconst (nI 0) d164_1 (by decide) ?_
  refine mx_puti r M d164_2 fl17_144 rfl rfl rfl (fun hh r => ?_)
  refine ie_aload_n d164_5 rfl ?_
  refine ie_iload_n d164_6 rfl ?_
  refine ie_iload_n d164_7 rfl ?_
  refine mx_ask r M [_, _] d164_8 ok127 rm164_127 cl17_174 rfl rfl (Nat.le_of_ble_eq_true rfl) (Nat.le_of_ble_eq_true rfl) (s127 (r.ok M) _ _) ?_
  rw [r.2.2, mKnown_m0]
  generalize hx : mKnown S e n = x
  refine ie_istore_n d164_11 (by decide) ?_
  refine ie_iload_n d164_12 rfl ?_
  refine ie_if_ge 20 d164_13 (by decide) (fun c13 => ?_) (fun c13 => ?_)
  · skip
    have c14 : 0 ≤ mKnown S e n := by rw [hx]; exact c13
    obtain ⟨e', n', c, he, h1, h2, h3, -, -, -, ht⟩ := mKnown_t hN c14
    rw [hx] at ht
    subst ht
    have K : S 24 (320 * e' + n') = mAsk S 24 e n := by
      unfold mAsk
      rw [hx, if_pos c13, cl2 (by omega)]
    refine ie_aload_n d164_20 rfl ?_
    refine mx_getr r M d164_21 fl17_71 rfl ?_
    refine ie_iload_n d164_24 rfl ?_
    refine mx_iald (k := 24) (n := (320 * e' + n')) r M d164_25 rfl rfl rfl (by show 320 * e' + n' < 640; omega) ?_
    rw [mset_k (by decide)]
    exact ie_iret d164_26 rfl (by first | rfl | decide | exact (ix_bz (bI_01 _)).1 | exact (ix_bz (by assumption)).1) ⟨by rw [K], r⟩
  · skip
    have K : nI 0 = mAsk S 24 e n := by
      unfold mAsk
      rw [hx, if_neg c13]
      rfl
    refine ie_iconst (nI 0) d164_16 (by decide) ?_
    refine ie_goto 26 d164_17 (by decide) ?_
    exact ie_iret d164_26 rfl (by first | rfl | decide | exact (ix_bz (bI_01 _)).1 | exact (ix_bz (by assumption)).1) ⟨by rw [K], r⟩
def mCan (S : MS) (e n : Int32) : Prop := 0 ≤ mKnown S e n ∧ S 13 (mKnown S e n).toNatClampNeg = 5 ∧ S 21 (mKnown S e n).toNatClampNeg = 0
def mDrop (S : MS) (t : Nat) : MS := mset (mset (mset (mset S 21 t 1) 15 t 0) 20 t 0) 19 t 0
noncomputable def mCancel (S : MS) (e n : Int32) : MS := @ite _ (mCan S e n) (Classical.propDecidable _) (mDrop (m0 S) (mKnown S e n).toNatClampNeg) (m0 S)
set_option maxRecDepth 100000 in
set_option maxHeartbeats 4000000 in
/-- cancel -/
theorem s126 {G : ix_G} {h : ix_H} {o : Nat} {S : MS} (M : md_ok h o) (hS : ms h o = S) (hN : mNum S) (hb : ∀ t, t < 640 → S 21 t = 0 ∨ S 21 t = 1) (e n : Int32) : ix_E G 126 0 (lv_args 0 [.ref o, .int e, .int n]) [] h (fun rv h' => rv = some (.int (bP (mCan S e n))) ∧ mR o h h' (mCancel S e n)) := by
  have r : mR o h h S := mR.rf hS
  refine ie_aload_n d126_0 rfl ?_
  refine ie_iconst (nI 0) d126_1 (by decide) ?_
  refine mx_puti r M d126_2 fl17_144 rfl rfl rfl (fun hh r => ?_)
  refine ie_aload_n d126_5 rfl ?_
  refine ie_iload_n d126_6 rfl ?_
  refine ie_iload_n d126_7 rfl ?_
  refine mx_ask r M [_, _] d126_8 ok127 rm126_127 cl17_174 rfl rfl (Nat.le_of_ble_eq_true rfl) (Nat.le_of_ble_eq_true rfl) (s127 (r.ok M) _ _) ?_
  rw [r.2.2, mKnown_m0]
  generalize hx : mKnown S e n = x
  refine ie_istore_n d126_11 (by decide) ?_
  refine ie_iload_n d126_12 rfl ?_
  refine ie_if_lt 35 d126_13 (by decide) (fun c13 => ?_) (fun c13 => ?_)
  · skip
    have K : ¬ mCan S e n := by
      unfold mCan
      rw [hx]
      exact fun z => absurd c13 (Int32.not_lt.mpr z.1)
    refine ie_iconst (nI 0) d126_35 (by decide) ?_
    exact ie_iret d126_36 rfl (by first | rfl | decide | exact (ix_bz (bI_01 _)).1 | exact (ix_bz (by assumption)).1) (by rw [bP_f K]; refine ⟨rfl, ?_⟩; unfold mCancel; rw [@if_neg _ (Classical.propDecidable _) K]; exact r)
  · skip
    have c14 : 0 ≤ mKnown S e n := by rw [hx]; exact Int32.not_lt.mp c13
    obtain ⟨e', n', c, he, h1, h2, h3, -, -, -, ht⟩ := mKnown_t hN c14
    rw [hx] at ht
    subst ht
    refine ie_aload_n d126_16 rfl ?_
    refine mx_getr r M d126_17 fl17_38 rfl ?_
    refine ie_iload_n d126_20 rfl ?_
    refine mx_iald (k := 13) (n := (320 * e' + n')) r M d126_21 rfl rfl rfl (by show 320 * e' + n' < 640; omega) ?_
    rw [mset_k (by decide)]
    refine ie_iconst (nI 5) d126_22 (by decide) ?_
    refine ie_icmp_ne 35 d126_23 (by decide) (fun c23 => ?_) (fun c23 => ?_)
    · skip
      have K : ¬ mCan S e n := by
        unfold mCan
        rw [hx, cl2 (by omega)]
        exact fun z => c23 z.2.1
      refine ie_iconst (nI 0) d126_35 (by decide) ?_
      exact ie_iret d126_36 rfl (by first | rfl | decide | exact (ix_bz (bI_01 _)).1 | exact (ix_bz (by assumption)).1) (by rw [bP_f K]; refine ⟨rfl, ?_⟩; unfold mCancel; rw [@if_neg _ (Classical.propDecidable _) K]; exact r)
    · skip
      refine ie_aload_n d126_26 rfl ?_
      refine mx_getr r M d126_27 fl17_62 rfl ?_
      refine ie_iload_n d126_30 rfl ?_
      refine mx_zald (k := 21) (n := (320 * e' + n')) r M d126_31 rfl rfl rfl (by show 320 * e' + n' < 640; omega) ?_
      rw [mset_k (by decide)]
      refine ie_if_eq 37 d126_32 (by decide) (fun c32 => ?_) (fun c32 => ?_)
      · skip
        have K : mCan S e n := by
          unfold mCan
          rw [hx, cl2 (by omega)]
          exact ⟨nI_pos' (by omega), c23, c32⟩
        refine ie_aload_n d126_37 rfl ?_
        refine mx_getr r M d126_38 fl17_62 rfl ?_
        refine ie_iload_n d126_41 rfl ?_
        refine ie_iconst (nI 1) d126_42 (by decide) ?_
        refine mx_zast (k := 21) (n := (320 * e' + n')) r M d126_43 rfl rfl (by first | exact Or.inl rfl | exact Or.inr rfl | assumption | exact bI_01 _) rfl (by show 320 * e' + n' < 640; omega) (fun hh r => ?_)
        refine ie_aload_n d126_44 rfl ?_
        refine mx_getr r M d126_45 fl17_44 rfl ?_
        refine ie_iload_n d126_48 rfl ?_
        refine ie_iconst (nI 0) d126_49 (by decide) ?_
        refine mx_iast (k := 15) (n := (320 * e' + n')) r M d126_50 rfl rfl rfl (by show 320 * e' + n' < 640; omega) (fun hh r => ?_)
        refine ie_aload_n d126_51 rfl ?_
        refine mx_getr r M d126_52 fl17_59 rfl ?_
        refine ie_iload_n d126_55 rfl ?_
        refine ie_iconst (nI 0) d126_56 (by decide) ?_
        refine mx_zast (k := 20) (n := (320 * e' + n')) r M d126_57 rfl rfl (by first | exact Or.inl rfl | exact Or.inr rfl | assumption | exact bI_01 _) rfl (by show 320 * e' + n' < 640; omega) (fun hh r => ?_)
        refine ie_aload_n d126_58 rfl ?_
        refine mx_getr r M d126_59 fl17_56 rfl ?_
        refine ie_iload_n d126_62 rfl ?_
        refine ie_iconst (nI 0) d126_63 (by decide) ?_
        refine mx_iast (k := 19) (n := (320 * e' + n')) r M d126_64 rfl rfl rfl (by show 320 * e' + n' < 640; omega) (fun hh r => ?_)
        refine ie_iconst (nI 1) d126_65 (by decide) ?_
        exact ie_iret d126_66 rfl (by decide) (by rw [bP_t K]; refine ⟨rfl, ?_⟩; unfold mCancel; rw [@if_pos _ (Classical.propDecidable _) K, hx, cl2 (by omega)]; exact r)
      · skip
        have K : ¬ mCan S e n := by
          unfold mCan
          rw [hx, cl2 (by omega)]
          exact fun z => c32 z.2.2
        refine ie_iconst (nI 0) d126_35 (by decide) ?_
        exact ie_iret d126_36 rfl (by first | rfl | decide | exact (ix_bz (bI_01 _)).1 | exact (ix_bz (by assumption)).1) (by rw [bP_f K]; refine ⟨rfl, ?_⟩; unfold mCancel; rw [@if_neg _ (Classical.propDecidable _) K]; exact r)
