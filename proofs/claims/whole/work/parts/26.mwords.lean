def mWd (S : MS) (f n s : Nat) : Nat → Int32
  | 0 => 0
  | k + 1 => (mWd S f n s k <<< (nI 8 &&& 31)) ||| (if 4 * s + k < n then S 6 (64 * f + 4 * s + k) else 0)
set_option maxRecDepth 100000 in
set_option maxHeartbeats 4000000 in
/-- word: its loop -/
theorem s135_loop {G : ix_G} {h : ix_H} {o : Nat} {S : MS} (M : md_ok h o) (r : mR o h h S) {f n s : Nat} (hf : f < 12) (hn64 : n ≤ 64) (hs : s < 16) (hl : S 5 f = nI n) :
    ∀ (z i : Nat), i ≤ 4 → 4 - i < z → ∀ (lv : List (Nat × Value)), lv.lookup 0 = some (.ref o) → lv.lookup 1 = some (.int (nI f)) → lv.lookup 2 = some (.int (nI s)) → lv.lookup 3 = some (.int (mWd S f n s i)) → lv.lookup 4 = some (.int (nI i)) → ix_E G 135 5 lv [] h (fun rv h' => rv = some (.int (mWd S f n s 4)) ∧ h' = h) := by
  intro z
  induction z with
  | zero => intro i h1 h2; omega
  | succ z ih =>
    intro i hi hz lv l0 l1 l2 l3 l4
    refine ie_iload d135_5 l4 ?_
    refine ie_iconst (nI 4) d135_7 (by decide) ?_
    refine ie_icmp_ge 58 d135_8 (by decide) (fun c8 => ?_) (fun c8 => ?_)
    · rw [nI_leI (by omega) (by omega)] at c8
      have hi2 : i = 4 := by omega
      subst hi2
      refine ie_iload_n d135_58 l3 ?_
      exact ie_iret d135_59 rfl rfl ⟨rfl, rfl⟩
    · rw [nI_leI (by omega) (by omega)] at c8
      refine ie_iload_n d135_11 l3 ?_
      refine ie_bipush (nI 8) d135_12 (by decide) ?_
      refine ie_ishl d135_14 ?_
      refine ie_iconst (nI 4) d135_15 (by decide) ?_
      refine ie_iload_n d135_16 l2 ?_
      refine ie_imul d135_17 ?_
      rw [pk_mul]
      refine ie_iload d135_18 l4 ?_
      refine ie_iadd d135_20 ?_
      rw [nI_add]
      refine ie_aload_n d135_21 l0 ?_
      refine mx_getr r M d135_22 fl17_13 rfl ?_
      refine ie_iload_n d135_25 l1 ?_
      refine mx_iald (k := 5) (n := f) r M d135_26 rfl rfl rfl (by show f < 12; omega) ?_
      rw [hl]
      refine ie_icmp_ge 49 d135_27 (by decide) (fun c27 => ?_) (fun c27 => ?_)
      · skip
        rw [nI_leI (by omega) (by omega)] at c27
        have K : (mWd S f n s i <<< (nI 8 &&& 31)) ||| nI 0 = mWd S f n s (i + 1) := by
          show _ = (_ ||| (if 4 * s + i < n then _ else _))
          rw [if_neg (by omega)]
          rfl
        refine ie_iconst (nI 0) d135_49 (by decide) ?_
        refine ie_ior d135_50 ?_
        refine ie_istore_n d135_51 (by decide) ?_
        refine ie_iinc (nI (i + 1)) d135_52 (ix_lk3 (by decide) l4 rfl) (nI_1 _) (by decide) ?_
        refine ie_goto 5 d135_55 (by decide) ?_
        exact ih (i + 1) (by omega) (by omega) _ (ix_lk3 (by decide) (ix_lk3 (by decide) l0 rfl) rfl) (ix_lk3 (by decide) (ix_lk3 (by decide) l1 rfl) rfl) (ix_lk3 (by decide) (ix_lk3 (by decide) l2 rfl) rfl) (by rw [← K]; exact (ix_lk3 (by decide) ix_lk1 rfl)) ix_lk1
      · skip
        rw [nI_leI (by omega) (by omega)] at c27
        have K : (mWd S f n s i <<< (nI 8 &&& 31)) ||| S 6 (64 * f + 4 * s + i) = mWd S f n s (i + 1) := by
          show _ = (_ ||| (if 4 * s + i < n then _ else _))
          rw [if_pos (by omega)]
        refine ie_aload_n d135_30 l0 ?_
        refine mx_getr r M d135_31 fl17_17 rfl ?_
        refine ie_bipush (nI 64) d135_34 (by decide) ?_
        refine ie_iload_n d135_36 l1 ?_
        refine ie_imul d135_37 ?_
        rw [pk_mul]
        refine ie_iconst (nI 4) d135_38 (by decide) ?_
        refine ie_iload_n d135_39 l2 ?_
        refine ie_imul d135_40 ?_
        rw [pk_mul]
        refine ie_iadd d135_41 ?_
        rw [nI_add]
        refine ie_iload d135_42 l4 ?_
        refine ie_iadd d135_44 ?_
        rw [nI_add]
        refine mx_iald (k := 6) (n := (64 * f + 4 * s + i)) r M d135_45 rfl rfl rfl (by show 64 * f + 4 * s + i < 768; omega) ?_
        refine ie_goto 50 d135_46 (by decide) ?_
        refine ie_ior d135_50 ?_
        refine ie_istore_n d135_51 (by decide) ?_
        refine ie_iinc (nI (i + 1)) d135_52 (ix_lk3 (by decide) l4 rfl) (nI_1 _) (by decide) ?_
        refine ie_goto 5 d135_55 (by decide) ?_
        exact ih (i + 1) (by omega) (by omega) _ (ix_lk3 (by decide) (ix_lk3 (by decide) l0 rfl) rfl) (ix_lk3 (by decide) (ix_lk3 (by decide) l1 rfl) rfl) (ix_lk3 (by decide) (ix_lk3 (by decide) l2 rfl) rfl) (by rw [← K]; exact (ix_lk3 (by decide) ix_lk1 rfl)) ix_lk1
set_option maxRecDepth 100000 in
set_option maxHeartbeats 4000000 in
/-- word -/
theorem s135 {G : ix_G} {h : ix_H} {o : Nat} {S : MS} (M : md_ok h o) (hS : ms h o = S) {f n s : Nat} (hf : f < 12) (hn64 : n ≤ 64) (hs : s < 16) (hl : S 5 f = nI n) : ix_Ev G 135 0 (lv_args 0 [.ref o, .int (nI f), .int (nI s)]) [] h (some (.int (mWd S f n s 4))) (h) := by
  refine ix_ofE ?_
  have r : mR o h h S := mR.rf hS
  refine ie_iconst 0 d135_0 (by decide) ?_
  refine ie_istore_n d135_1 (by decide) ?_
  refine ie_iconst (nI 0) d135_2 (by decide) ?_
  refine ie_istore d135_3 (by decide) ?_
  exact s135_loop M r hf hn64 hs hl 5 0 (by omega) (by omega) _ rfl rfl rfl rfl rfl
def mCk (S : MS) (f n : Nat) : Nat → Int32
  | 0 => 0
  | s + 1 => mCk S f n s + mWd S f n s 4
theorem seg_nI {n : Nat} (h : n ≤ 100) : (nI n + 3) / 4 = nI ((n + 3) / 4) := by
  rw [show (3 : Int32) = nI 3 from rfl, nI_add, show (4 : Int32) = nI 4 from rfl, pk_div (by omega) (by decide) (by decide)]
set_option maxRecDepth 100000 in
set_option maxHeartbeats 4000000 in
/-- checksum: its loop -/
theorem s134_loop {G : ix_G} {h : ix_H} {o : Nat} {S : MS} (M : md_ok h o) (r : mR o h h S) {f n : Nat} (hf : f < 12) (hn64 : n ≤ 64) (hl : S 5 f = nI n) :
    ∀ (z i : Nat), i ≤ (n + 3) / 4 → (n + 3) / 4 - i < z → ∀ (lv : List (Nat × Value)), lv.lookup 0 = some (.ref o) → lv.lookup 1 = some (.int (nI f)) → lv.lookup 2 = some (.int (mCk S f n i)) → lv.lookup 3 = some (.int (nI i)) → ix_E G 134 4 lv [] h (fun rv h' => rv = some (.int (mCk S f n ((n + 3) / 4))) ∧ h' = h) := by
  intro z
  induction z with
  | zero => intro i h1 h2; omega
  | succ z ih =>
    intro i hi hz lv l0 l1 l2 l3
    refine ie_iload_n d134_4 l3 ?_
    refine ie_aload_n d134_5 l0 ?_
    refine mx_getr r M d134_6 fl17_13 rfl ?_
    refine ie_iload_n d134_9 l1 ?_
    refine mx_iald (k := 5) (n := f) r M d134_10 rfl rfl rfl (by show f < 12; exact hf) ?_
    rw [hl]
    refine ie_callSx [_] d134_11 ok132 rm134_132 cl17_164 rfl rfl (Nat.le_of_ble_eq_true rfl) (Nat.le_of_ble_eq_true rfl) (s132 _) ?_
    rw [seg_nI (by omega)]
    refine ie_icmp_ge 32 d134_14 (by decide) (fun c14 => ?_) (fun c14 => ?_)
    · rw [nI_leI (by omega) (by omega)] at c14
      have hi2 : i = (n + 3) / 4 := by omega
      subst hi2
      refine ie_iload_n d134_32 l2 ?_
      exact ie_iret d134_33 rfl rfl ⟨rfl, rfl⟩
    · rw [nI_leI (by omega) (by omega)] at c14
      refine ie_iload_n d134_17 l2 ?_
      refine ie_aload_n d134_18 l0 ?_
      refine ie_iload_n d134_19 l1 ?_
      refine ie_iload_n d134_20 l3 ?_
      refine mx_ask r M [_, _] d134_21 ok135 rm134_135 cl17_167 rfl rfl (Nat.le_of_ble_eq_true rfl) (Nat.le_of_ble_eq_true rfl) (s135 (r.ok M) r.2.2 hf hn64 (by omega) hl) ?_
      refine ie_iadd d134_24 ?_
      refine ie_istore_n d134_25 (by decide) ?_
      refine ie_iinc (nI (i + 1)) d134_26 (ix_lk3 (by decide) l3 rfl) (nI_1 _) (by decide) ?_
      refine ie_goto 4 d134_29 (by decide) ?_
      exact ih (i + 1) (by omega) (by omega) _ (ix_lk3 (by decide) (ix_lk3 (by decide) l0 rfl) rfl) (ix_lk3 (by decide) (ix_lk3 (by decide) l1 rfl) rfl) (ix_lk3 (by decide) ix_lk1 rfl) ix_lk1
set_option maxRecDepth 100000 in
set_option maxHeartbeats 4000000 in
/-- checksum -/
theorem s134 {G : ix_G} {h : ix_H} {o : Nat} {S : MS} (M : md_ok h o) (hS : ms h o = S) {f n : Nat} (hf : f < 12) (hn64 : n ≤ 64) (hl : S 5 f = nI n) : ix_Ev G 134 0 (lv_args 0 [.ref o, .int (nI f)]) [] h (some (.int (mCk S f n ((n + 3) / 4)))) (h) := by
  refine ix_ofE ?_
  have r : mR o h h S := mR.rf hS
  refine ie_iconst 0 d134_0 (by decide) ?_
  refine ie_istore_n d134_1 (by decide) ?_
  refine ie_iconst (nI 0) d134_2 (by decide) ?_
  refine ie_istore_n d134_3 (by decide) ?_
  exact s134_loop M r hf hn64 hl ((n + 3) / 4 + 1) 0 (by omega) (by omega) _ rfl rfl rfl rfl
def mSh (S : MS) (u k q : Nat) : MS := fun kk j => if kk = 45 ∧ 11 * k ≤ j ∧ j < q then S 45 (j + 11) else if kk = 44 then nI (u - 1) else S kk j
def mOut (S : MS) (u k : Nat) : MS := mSh S u k (11 * (u - 1))
theorem mSh_0 {S : MS} {u k : Nat} : mSh S u k (11 * k) = mset S 44 0 (nI (u - 1)) := by
  funext kk j
  unfold mSh mset
  rw [if_neg (by omega)]
  by_cases e : kk = 44
  · rw [if_pos e, if_pos ⟨e, Or.inr rfl⟩]
  · rw [if_neg e, if_neg (fun z => e z.1)]
theorem mSh_r {S : MS} {u k q j : Nat} (h : q ≤ j) : mSh S u k q 45 j = S 45 j := by
  unfold mSh
  rw [if_neg (by omega), if_neg (by decide)]
theorem mSh_s {S : MS} {u k q : Nat} (h : 11 * k ≤ q) : mset (mSh S u k q) 45 q (S 45 (q + 11)) = mSh S u k (q + 1) := by
  funext kk j
  by_cases e : kk = 45
  · subst e
    rw [mset_if rfl]
    unfold mSh
    by_cases ej : j = q
    · subst ej
      rw [if_pos rfl, if_pos ⟨rfl, h, by omega⟩]
    · rw [if_neg ej]
      by_cases z : 45 = 45 ∧ 11 * k ≤ j ∧ j < q
      · rw [if_pos z, if_pos ⟨rfl, z.2.1, by omega⟩]
      · rw [if_neg z, if_neg (show ¬ (45 = 45 ∧ 11 * k ≤ j ∧ j < q + 1) from fun y => z ⟨rfl, y.2.1, by omega⟩)]
  · rw [mset_k e]
    unfold mSh
    rw [if_neg (show ¬ (kk = 45 ∧ 11 * k ≤ j ∧ j < q) from fun z => e z.1), if_neg (show ¬ (kk = 45 ∧ 11 * k ≤ j ∧ j < q + 1) from fun z => e z.1)]
theorem mSh_44 {S : MS} {u k q : Nat} : mSh S u k q 44 0 = nI (u - 1) := by
  unfold mSh
  rw [if_neg (fun z => absurd z.1 (by decide)), if_pos rfl]
set_option maxRecDepth 100000 in
set_option maxHeartbeats 4000000 in
/-- out: its loop -/
theorem s149_loop {G : ix_G} {h0 : ix_H} {o : Nat} {S : MS} (M : md_ok h0 o) {u k : Nat} (hk : k < u) (hu : u ≤ 24) :
    ∀ (z q : Nat), 11 * k ≤ q → q ≤ 11 * (u - 1) → 11 * (u - 1) - q < z → ∀ h, mR o h0 h (mSh S u k q) → ∀ (lv : List (Nat × Value)), lv.lookup 0 = some (.ref o) → lv.lookup 2 = some (.int (nI q)) → ix_E G 149 15 lv [] h (fun rv h' => rv = none ∧ mR o h0 h' (mOut S u k)) := by
  intro z
  induction z with
  | zero => intro q h1 h2 h3; omega
  | succ z ih =>
    intro q hq1 hq2 hz h r lv l0 l2
    refine ie_iload_n d149_15 l2 ?_
    refine ie_bipush (nI 11) d149_16 (by decide) ?_
    refine ie_aload_n d149_18 l0 ?_
    refine mx_geti r M d149_19 fl17_171 rfl ?_
    rw [mSh_44]
    refine ie_imul d149_22 ?_
    rw [pk_mul]
    refine ie_icmp_ge 47 d149_23 (by decide) (fun c23 => ?_) (fun c23 => ?_)
    · rw [nI_leI (by omega) (by omega)] at c23
      have hi2 : q = 11 * (u - 1) := by omega
      subst hi2
      exact ie_vret d149_47 rfl ⟨rfl, r⟩
    · rw [nI_leI (by omega) (by omega)] at c23
      refine ie_aload_n d149_26 l0 ?_
      refine mx_getr r M d149_27 fl17_131 rfl ?_
      refine ie_iload_n d149_30 l2 ?_
      refine ie_aload_n d149_31 l0 ?_
      refine mx_getr r M d149_32 fl17_131 rfl ?_
      refine ie_iload_n d149_35 l2 ?_
      refine ie_bipush (nI 11) d149_36 (by decide) ?_
      refine ie_iadd d149_38 ?_
      rw [nI_add]
      refine mx_iald (k := 45) (n := (q + 11)) r M d149_39 rfl rfl rfl (by show q + 11 < 264; omega) ?_
      rw [mSh_r (by omega)]
      refine mx_iast (k := 45) (n := q) r M d149_40 rfl rfl rfl (by show q < 264; omega) (fun hh r => ?_)
      refine ie_iinc (nI (q + 1)) d149_41 l2 (nI_1 _) (by decide) ?_
      refine ie_goto 15 d149_44 (by decide) ?_
      exact ih (q + 1) (by omega) (by omega) (by omega) hh (by rw [← mSh_s (by omega)]; exact r) _ (ix_lk3 (by decide) l0 rfl) ix_lk1
set_option maxRecDepth 100000 in
set_option maxHeartbeats 4000000 in
/-- out -/
theorem s149 {G : ix_G} {h : ix_H} {o : Nat} {S : MS} (M : md_ok h o) (hS : ms h o = S) {u k : Nat} (hu : S 44 0 = nI u) (hu24 : u ≤ 24) (hk : k < u) : ix_E G 149 0 (lv_args 0 [.ref o, .int (nI k)]) [] h (fun rv h' => rv = none ∧ mR o h h' (mOut S u k)) := by
  have r : mR o h h S := mR.rf hS
  refine ie_aload_n d149_0 rfl ?_
  refine ie_dup d149_1 rfl ?_
  refine mx_geti r M d149_2 fl17_171 rfl ?_
  rw [hu]
  refine ie_iconst (nI 1) d149_5 (by decide) ?_
  refine ie_isub d149_6 ?_
  rw [pk_sub (by omega)]
  refine mx_puti r M d149_7 fl17_171 rfl rfl rfl (fun hh r => ?_)
  refine ie_bipush (nI 11) d149_10 (by decide) ?_
  refine ie_iload_n d149_12 rfl ?_
  refine ie_imul d149_13 ?_
  rw [pk_mul]
  refine ie_istore_n d149_14 (by decide) ?_
  exact s149_loop M hk hu24 (11 * (u - 1) + 1) (11 * k) (by omega) (by omega) (by omega) hh (by rw [mSh_0]; exact r) _ rfl rfl
set_option maxRecDepth 100000 in
set_option maxHeartbeats 4000000 in
/-- lose -/
theorem s157 {G : ix_G} {h : ix_H} {o : Nat} {S : MS} (M : md_ok h o) (hS : ms h o = S) {u : Nat} (hu : S 44 0 = nI u) (hu24 : u ≤ 24) (k : Int32) : ix_E G 157 0 (lv_args 0 [.ref o, .int k]) [] h (fun rv h' => rv = some (.int (bI (0 ≤ k ∧ k < nI u))) ∧ mR o h h' (if 0 ≤ k ∧ k < nI u then mOut (m0 S) u k.toNatClampNeg else m0 S)) := by
  have r : mR o h h S := mR.rf hS
  refine ie_aload_n d157_0 rfl ?_
  refine ie_iconst (nI 0) d157_1 (by decide) ?_
  refine mx_puti r M d157_2 fl17_144 rfl rfl rfl (fun hh r => ?_)
  refine ie_aload_n d157_5 rfl ?_
  refine ie_iload_n d157_6 rfl ?_
  refine mx_ask r M [_] d157_7 ok148 rm157_148 cl17_249 rfl rfl (Nat.le_of_ble_eq_true rfl) (Nat.le_of_ble_eq_true rfl) (s148 (r.ok M) _) ?_
  rw [r.2.2, mset_k (by decide), hu]
  refine ie_if_ne 15 d157_10 (by decide) (fun c10 => ?_) (fun c10 => ?_)
  · skip
    rw [bI_0, Classical.not_not] at c10
    rw [if_pos c10, bI_t c10]
    obtain ⟨k', hk, rfl⟩ := vp_in_of (n := u) (x := k) (by rw [vp_in_iff]; have e1 := Int32.le_iff_toInt_le.mp c10.1; have e2 := Int32.lt_iff_toInt_lt.mp c10.2; rw [nI_toInt (by omega)] at e2; exact ⟨by simpa using e1, e2⟩) (by omega)
    rw [cl2 (by omega)]
    refine ie_aload_n d157_15 rfl ?_
    refine ie_iload_n d157_16 rfl ?_
    refine mx_call r M [_] d157_17 ok149 rm157_149 cl17_253 rfl rfl (Nat.le_of_ble_eq_true rfl) (Nat.le_of_ble_eq_true rfl) (s149 (r.ok M) r.2.2 (u := u) (by rw [mset_k (by decide)]; exact hu) hu24 hk) (fun hh r => ?_)
    refine ie_iconst (nI 1) d157_20 (by decide) ?_
    exact ie_iret d157_21 rfl (by decide) ⟨rfl, r⟩
  · skip
    rw [bI_0] at c10
    rw [if_neg c10, bI_f c10]
    have K := (⟨rfl, r⟩ : (some (Value.int 0) = some (Value.int 0)) ∧ mR o h hh (mset S 3 0 (nI 0)))
    refine ie_iconst (nI 0) d157_13 (by decide) ?_
    exact ie_iret d157_14 rfl (by first | rfl | decide | exact (ix_bz (bI_01 _)).1 | exact (ix_bz (by assumption)).1) K
