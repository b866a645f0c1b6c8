theorem isF_y {e f : Nat} (he : e < 2) (hf : f < 6) : (0 ≤ nI e ∧ nI e ≤ 1) ∧ 0 ≤ nI f ∧ nI f ≤ 5 :=
  ⟨⟨(nI_leI (a := 0) (by decide) (by omega)).mpr (by omega), (nI_leI (b := 1) (by omega) (by decide)).mpr (by omega)⟩, (nI_leI (a := 0) (by decide) (by omega)).mpr (by omega), (nI_leI (b := 5) (by omega) (by decide)).mpr (by omega)⟩
theorem in_y {a b x : Nat} (ha : a ≤ x) (hb : x ≤ b) (hl : b < 1000) : nI a ≤ nI x ∧ nI x ≤ nI b := ⟨(nI_leI (by omega) (by omega)).mpr ha, (nI_leI (by omega) (by omega)).mpr hb⟩
theorem mLock_o {S S' : MS} {e c : Nat} {f : Int32} (h9 : ∀ j, S' 9 j = S 9 j) (h40 : ∀ j, S' 40 j = S 40 j) : mLock S' e f c ↔ mLock S e f c := by
  unfold mLock
  constructor
  · rintro ⟨k, hk, q⟩
    exact ⟨k, hk, by rw [h9, h40] at q; exact q⟩
  · rintro ⟨k, hk, q⟩
    exact ⟨k, hk, by rw [h9, h40]; exact q⟩
set_option maxRecDepth 100000 in
set_option maxHeartbeats 4000000 in
/-- delete: no such file -/
theorem s122n {G : ix_G} {h : ix_H} {o : Nat} {S : MS} (M : md_ok h o) (hS : ms h o = S) (e f : Int32) (hno : ¬ (((0 ≤ e ∧ e ≤ 1) ∧ 0 ≤ f ∧ f ≤ 5) ∧ ¬ S 4 (6 * e.toNatClampNeg + f.toNatClampNeg) = 0)) : ix_E G 122 0 (lv_args 0 [.ref o, .int e, .int f]) [] h (fun rv h' => rv = some (.int 0) ∧ mR o h h' (mset (m0 S) 3 0 (nI 1))) := by
  have r : mR o h h S := mR.rf hS
  refine ie_aload_n d122_0 rfl ?_
  refine ie_iconst (nI 0) d122_1 (by decide) ?_
  refine mx_puti r M d122_2 fl17_144 rfl rfl rfl (fun hh r => ?_)
  refine ie_iload_n d122_5 rfl ?_
  refine ie_iload_n d122_6 rfl ?_
  refine ie_callSx [_, _] d122_7 ok117 rm122_117 cl17_151 rfl rfl (Nat.le_of_ble_eq_true rfl) (Nat.le_of_ble_eq_true rfl) (s117 _ _) ?_
  refine ie_if_eq 27 d122_10 (by decide) (fun c10 => ?_) (fun c10 => ?_)
  · skip
    refine ie_aload_n d122_27 rfl ?_
    refine ie_iconst (nI 1) d122_28 (by decide) ?_
    refine mx_puti r M d122_29 fl17_144 rfl rfl rfl (fun hh r => ?_)
    refine ie_goto 64 d122_32 (by decide) ?_
    refine ie_aload_n d122_64 rfl ?_
    refine mx_geti r M d122_65 fl17_144 rfl ?_
    rw [mset_s]
    refine ie_if_ne 75 d122_68 (by decide) (fun c68 => ?_) (fun c68 => ?_)
    · skip
      first | (exact absurd c68 (by decide)) | (exact absurd (by decide) c68) | (
         skip
         skip
         refine ie_iconst (nI 0) d122_75 (by decide) ?_
         exact ie_iret d122_76 rfl (by first | rfl | decide | exact (ix_bz (bI_01 _)).1 | exact (ix_bz (by assumption)).1) ⟨rfl, r⟩)
    · skip
      first | (exact absurd c68 (by decide)) | (exact absurd (by decide) c68) | (
         skip
         skip
         refine ie_iconst (nI 1) d122_71 (by decide) ?_
         refine ie_goto 76 d122_72 (by decide) ?_
         exact ie_iret d122_76 rfl (by first | rfl | decide | exact (ix_bz (bI_01 _)).1 | exact (ix_bz (by assumption)).1) ⟨rfl, r⟩)
  · skip
    rw [bI_0, Classical.not_not] at c10
    obtain ⟨e', f', he, hf, rfl, rfl⟩ := isF2 c10
    rw [cl2 (by omega : e' < 768), cl2 (by omega : f' < 768)] at hno
    refine ie_aload_n d122_13 rfl ?_
    refine mx_getr r M d122_14 fl17_7 rfl ?_
    refine ie_bipush (nI 6) d122_17 (by decide) ?_
    refine ie_iload_n d122_19 rfl ?_
    refine ie_imul d122_20 ?_
    rw [pk_mul]
    refine ie_iload_n d122_21 rfl ?_
    refine ie_iadd d122_22 ?_
    rw [nI_add]
    refine mx_zald (k := 4) (n := ((6 * e') + f')) r M d122_23 rfl rfl rfl (by show 6 * e' + f' < 12; omega) ?_
    rw [mset_k (by decide)]
    refine ie_if_ne 35 d122_24 (by decide) (fun c24 => ?_) (fun c24 => ?_)
    · skip
      exact absurd ⟨c10, c24⟩ hno
    · skip
      refine ie_aload_n d122_27 rfl ?_
      refine ie_iconst (nI 1) d122_28 (by decide) ?_
      refine mx_puti r M d122_29 fl17_144 rfl rfl rfl (fun hh r => ?_)
      refine ie_goto 64 d122_32 (by decide) ?_
      refine ie_aload_n d122_64 rfl ?_
      refine mx_geti r M d122_65 fl17_144 rfl ?_
      rw [mset_s]
      refine ie_if_ne 75 d122_68 (by decide) (fun c68 => ?_) (fun c68 => ?_)
      · skip
        first | (exact absurd c68 (by decide)) | (exact absurd (by decide) c68) | (
           skip
           skip
           refine ie_iconst (nI 0) d122_75 (by decide) ?_
           exact ie_iret d122_76 rfl (by first | rfl | decide | exact (ix_bz (bI_01 _)).1 | exact (ix_bz (by assumption)).1) ⟨rfl, r⟩)
      · skip
        first | (exact absurd c68 (by decide)) | (exact absurd (by decide) c68) | (
           skip
           skip
           refine ie_iconst (nI 1) d122_71 (by decide) ?_
           refine ie_goto 76 d122_72 (by decide) ?_
           exact ie_iret d122_76 rfl (by first | rfl | decide | exact (ix_bz (bI_01 _)).1 | exact (ix_bz (by assumption)).1) ⟨rfl, r⟩)
set_option maxRecDepth 100000 in
set_option maxHeartbeats 4000000 in
/-- delete: locked -/
theorem s122l {G : ix_G} {h : ix_H} {o : Nat} {S : MS} (M : md_ok h o) (hS : ms h o = S) {e f : Nat} (he : e < 2) (hf : f < 6) {cs : Nat} (hcs3 : cs ≤ 3) (hcs : S 42 e = nI cs) (hsn : ∀ k, k < cs → ∃ t, t < 640 ∧ S 40 (3 * e + k) = nI t) (ht : ¬ S 4 (6 * e + f) = 0) (hL : mLock S e (nI f) cs) : ix_E G 122 0 (lv_args 0 [.ref o, .int (nI e), .int (nI f)]) [] h (fun rv h' => rv = some (.int 0) ∧ mR o h h' (mset (m0 S) 3 0 (nI 2))) := by
  have r : mR o h h S := mR.rf hS
  refine ie_aload_n d122_0 rfl ?_
  refine ie_iconst (nI 0) d122_1 (by decide) ?_
  refine mx_puti r M d122_2 fl17_144 rfl rfl rfl (fun hh r => ?_)
  refine ie_iload_n d122_5 rfl ?_
  refine ie_iload_n d122_6 rfl ?_
  refine ie_callSx [_, _] d122_7 ok117 rm122_117 cl17_151 rfl rfl (Nat.le_of_ble_eq_true rfl) (Nat.le_of_ble_eq_true rfl) (s117 _ _) ?_
  refine ie_if_eq 27 d122_10 (by decide) (fun c10 => ?_) (fun c10 => ?_)
  · skip
    exact absurd (isF_y he hf) ((bI_0).mp c10)
  · skip
    refine ie_aload_n d122_13 rfl ?_
    refine mx_getr r M d122_14 fl17_7 rfl ?_
    refine ie_bipush (nI 6) d122_17 (by decide) ?_
    refine ie_iload_n d122_19 rfl ?_
    refine ie_imul d122_20 ?_
    rw [pk_mul]
    refine ie_iload_n d122_21 rfl ?_
    refine ie_iadd d122_22 ?_
    rw [nI_add]
    refine mx_zald (k := 4) (n := ((6 * e) + f)) r M d122_23 rfl rfl rfl (by show 6 * e + f < 12; omega) ?_
    rw [mset_k (by decide)]
    refine ie_if_ne 35 d122_24 (by decide) (fun c24 => ?_) (fun c24 => ?_)
    · skip
      refine ie_aload_n d122_35 rfl ?_
      refine ie_iload_n d122_36 rfl ?_
      refine ie_iload_n d122_37 rfl ?_
      refine mx_ask r M [_, _] d122_38 ok121 rm122_121 cl17_159 rfl rfl (Nat.le_of_ble_eq_true rfl) (Nat.le_of_ble_eq_true rfl) (s121 (c := cs) (r.ok M) r.2.2 he hcs3 (by rw [mset_k (by decide)]; exact hcs) (fun k hk => by rw [mset_k (by decide)]; exact hsn k hk)) ?_
      refine ie_if_eq 52 d122_41 (by decide) (fun c41 => ?_) (fun c41 => ?_)
      · skip
        exact absurd ((mLock_o (fun j => mset_k (by decide)) (fun j => mset_k (by decide))).mpr hL) ((bP_0).mp c41)
      · skip
        refine ie_aload_n d122_44 rfl ?_
        refine ie_iconst (nI 2) d122_45 (by decide) ?_
        refine mx_puti r M d122_46 fl17_144 rfl rfl rfl (fun hh r => ?_)
        refine ie_goto 64 d122_49 (by decide) ?_
        refine ie_aload_n d122_64 rfl ?_
        refine mx_geti r M d122_65 fl17_144 rfl ?_
        rw [mset_s]
        refine ie_if_ne 75 d122_68 (by decide) (fun c68 => ?_) (fun c68 => ?_)
        · skip
          first | (exact absurd c68 (by decide)) | (exact absurd (by decide) c68) | (
             skip
             skip
             refine ie_iconst (nI 0) d122_75 (by decide) ?_
             exact ie_iret d122_76 rfl (by first | rfl | decide | exact (ix_bz (bI_01 _)).1 | exact (ix_bz (by assumption)).1) ⟨rfl, r⟩)
        · skip
          first | (exact absurd c68 (by decide)) | (exact absurd (by decide) c68) | (
             skip
             skip
             refine ie_iconst (nI 1) d122_71 (by decide) ?_
             refine ie_goto 76 d122_72 (by decide) ?_
             exact ie_iret d122_76 rfl (by first | rfl | decide | exact (ix_bz (bI_01 _)).1 | exact (ix_bz (by assumption)).1) ⟨rfl, r⟩)
    · skip
      exact absurd c24 ht
set_option maxRecDepth 100000 in
set_option maxHeartbeats 4000000 in
/-- delete -/
theorem s122y {G : ix_G} {h : ix_H} {o : Nat} {S : MS} (M : md_ok h o) (hS : ms h o = S) {e f : Nat} (he : e < 2) (hf : f < 6) {cs : Nat} (hcs3 : cs ≤ 3) (hcs : S 42 e = nI cs) (hsn : ∀ k, k < cs → ∃ t, t < 640 ∧ S 40 (3 * e + k) = nI t) (ht : ¬ S 4 (6 * e + f) = 0) (hL : ¬ mLock S e (nI f) cs) : ix_E G 122 0 (lv_args 0 [.ref o, .int (nI e), .int (nI f)]) [] h (fun rv h' => rv = some (.int 1) ∧ mR o h h' (mset (m0 S) 4 (6 * e + f) (nI 0))) := by
  have r : mR o h h S := mR.rf hS
  refine ie_aload_n d122_0 rfl ?_
  refine ie_iconst (nI 0) d122_1 (by decide) ?_
  refine mx_puti r M d122_2 fl17_144 rfl rfl rfl (fun hh r => ?_)
  refine ie_iload_n d122_5 rfl ?_
  refine ie_iload_n d122_6 rfl ?_
  refine ie_callSx [_, _] d122_7 ok117 rm122_117 cl17_151 rfl rfl (Nat.le_of_ble_eq_true rfl) (Nat.le_of_ble_eq_true rfl) (s117 _ _) ?_
  refine ie_if_eq 27 d122_10 (by decide) (fun c10 => ?_) (fun c10 => ?_)
  · skip
    exact absurd (isF_y he hf) ((bI_0).mp c10)
  · skip
    refine ie_aload_n d122_13 rfl ?_
    refine mx_getr r M d122_14 fl17_7 rfl ?_
    refine ie_bipush (nI 6) d122_17 (by decide) ?_
    refine ie_iload_n d122_19 rfl ?_
    refine ie_imul d122_20 ?_
    rw [pk_mul]
    refine ie_iload_n d122_21 rfl ?_
    refine ie_iadd d122_22 ?_
    rw [nI_add]
    refine mx_zald (k := 4) (n := ((6 * e) + f)) r M d122_23 rfl rfl rfl (by show 6 * e + f < 12; omega) ?_
    rw [mset_k (by decide)]
    refine ie_if_ne 35 d122_24 (by decide) (fun c24 => ?_) (fun c24 => ?_)
    · skip
      refine ie_aload_n d122_35 rfl ?_
      refine ie_iload_n d122_36 rfl ?_
      refine ie_iload_n d122_37 rfl ?_
      refine mx_ask r M [_, _] d122_38 ok121 rm122_121 cl17_159 rfl rfl (Nat.le_of_ble_eq_true rfl) (Nat.le_of_ble_eq_true rfl) (s121 (c := cs) (r.ok M) r.2.2 he hcs3 (by rw [mset_k (by decide)]; exact hcs) (fun k hk => by rw [mset_k (by decide)]; exact hsn k hk)) ?_
      refine ie_if_eq 52 d122_41 (by decide) (fun c41 => ?_) (fun c41 => ?_)
      · skip
        refine ie_aload_n d122_52 rfl ?_
        refine mx_getr r M d122_53 fl17_7 rfl ?_
        refine ie_bipush (nI 6) d122_56 (by decide) ?_
        refine ie_iload_n d122_58 rfl ?_
        refine ie_imul d122_59 ?_
        rw [pk_mul]
        refine ie_iload_n d122_60 rfl ?_
        refine ie_iadd d122_61 ?_
        rw [nI_add]
        refine ie_iconst (nI 0) d122_62 (by decide) ?_
        refine mx_zast (k := 4) (n := ((6 * e) + f)) r M d122_63 rfl rfl (by first | exact Or.inl rfl | exact Or.inr rfl | assumption | exact bI_01 _) rfl (by show 6 * e + f < 12; omega) (fun hh r => ?_)
        refine ie_aload_n d122_64 rfl ?_
        refine mx_geti r M d122_65 fl17_144 rfl ?_
        rw [mset_k (by decide)]
        rw [mset_s]
        refine ie_if_ne 75 d122_68 (by decide) (fun c68 => ?_) (fun c68 => ?_)
        · skip
          first | (exact absurd c68 (by decide)) | (exact absurd (by decide) c68) | (
             skip
             skip
             refine ie_iconst (nI 0) d122_75 (by decide) ?_
             exact ie_iret d122_76 rfl (by first | rfl | decide | exact (ix_bz (bI_01 _)).1 | exact (ix_bz (by assumption)).1) ⟨rfl, r⟩)
        · skip
          first | (exact absurd c68 (by decide)) | (exact absurd (by decide) c68) | (
             skip
             skip
             refine ie_iconst (nI 1) d122_71 (by decide) ?_
             refine ie_goto 76 d122_72 (by decide) ?_
             exact ie_iret d122_76 rfl (by first | rfl | decide | exact (ix_bz (bI_01 _)).1 | exact (ix_bz (by assumption)).1) ⟨rfl, r⟩)
      · skip
        exact absurd ((bP_0).mpr (fun q => hL ((mLock_o (fun j => mset_k (by decide)) (fun j => mset_k (by decide))).mp q))) c41
    · skip
      exact absurd c24 ht
set_option maxRecDepth 100000 in
set_option maxHeartbeats 4000000 in
/-- at: no such file -/
theorem s124n {G : ix_G} {h : ix_H} {o : Nat} {S : MS} (M : md_ok h o) (hS : ms h o = S) (e f i : Int32) (hno : ¬ (((0 ≤ e ∧ e ≤ 1) ∧ 0 ≤ f ∧ f ≤ 5) ∧ ¬ S 4 (6 * e.toNatClampNeg + f.toNatClampNeg) = 0)) : ix_E G 124 0 (lv_args 0 [.ref o, .int e, .int f, .int i]) [] h (fun rv h' => rv = some (.int 0) ∧ mR o h h' (mset (m0 S) 3 0 (nI 1))) := by
  have r : mR o h h S := mR.rf hS
  refine ie_aload_n d124_0 rfl ?_
  refine ie_iconst (nI 0) d124_1 (by decide) ?_
  refine mx_puti r M d124_2 fl17_144 rfl rfl rfl (fun hh r => ?_)
  refine ie_iload_n d124_5 rfl ?_
  refine ie_iload_n d124_6 rfl ?_
  refine ie_callSx [_, _] d124_7 ok117 rm124_117 cl17_151 rfl rfl (Nat.le_of_ble_eq_true rfl) (Nat.le_of_ble_eq_true rfl) (s117 _ _) ?_
  refine ie_if_eq 27 d124_10 (by decide) (fun c10 => ?_) (fun c10 => ?_)
  · skip
    refine ie_aload_n d124_27 rfl ?_
    refine ie_iconst (nI 1) d124_28 (by decide) ?_
    refine mx_call r M [_] d124_29 ok120 rm124_120 cl17_155 rfl rfl (Nat.le_of_ble_eq_true rfl) (Nat.le_of_ble_eq_true rfl) (s120m (r.ok M) r.2.2 _) (fun hh r => ?_)
    exact ie_iret d124_32 rfl (by first | rfl | decide | exact (ix_bz (bI_01 _)).1 | exact (ix_bz (by assumption)).1) ⟨rfl, r⟩
  · skip
    rw [bI_0, Classical.not_not] at c10
    obtain ⟨e', f', he, hf, rfl, rfl⟩ := isF2 c10
    rw [cl2 (by omega : e' < 768), cl2 (by omega : f' < 768)] at hno
    refine ie_aload_n d124_13 rfl ?_
    refine mx_getr r M d124_14 fl17_7 rfl ?_
    refine ie_bipush (nI 6) d124_17 (by decide) ?_
    refine ie_iload_n d124_19 rfl ?_
    refine ie_imul d124_20 ?_
    rw [pk_mul]
    refine ie_iload_n d124_21 rfl ?_
    refine ie_iadd d124_22 ?_
    rw [nI_add]
    refine mx_zald (k := 4) (n := ((6 * e') + f')) r M d124_23 rfl rfl rfl (by show 6 * e' + f' < 12; omega) ?_
    rw [mset_k (by decide)]
    refine ie_if_ne 33 d124_24 (by decide) (fun c24 => ?_) (fun c24 => ?_)
    · skip
      exact absurd ⟨c10, c24⟩ hno
    · skip
      refine ie_aload_n d124_27 rfl ?_
      refine ie_iconst (nI 1) d124_28 (by decide) ?_
      refine mx_call r M [_] d124_29 ok120 rm124_120 cl17_155 rfl rfl (Nat.le_of_ble_eq_true rfl) (Nat.le_of_ble_eq_true rfl) (s120m (r.ok M) r.2.2 _) (fun hh r => ?_)
      exact ie_iret d124_32 rfl (by first | rfl | decide | exact (ix_bz (bI_01 _)).1 | exact (ix_bz (by assumption)).1) ⟨rfl, r⟩
set_option maxRecDepth 100000 in
set_option maxHeartbeats 4000000 in
/-- at: outside -/
theorem s124b {G : ix_G} {h : ix_H} {o : Nat} {S : MS} (M : md_ok h o) (hS : ms h o = S) {e f : Nat} (he : e < 2) (hf : f < 6) (i : Int32) (ht : ¬ S 4 (6 * e + f) = 0) (hi : ¬ (0 ≤ i ∧ i < S 5 (6 * e + f))) : ix_E G 124 0 (lv_args 0 [.ref o, .int (nI e), .int (nI f), .int i]) [] h (fun rv h' => rv = some (.int 0) ∧ mR o h h' (mset (m0 S) 3 0 (nI 2))) := by
  have r : mR o h h S := mR.rf hS
  refine ie_aload_n d124_0 rfl ?_
  refine ie_iconst (nI 0) d124_1 (by decide) ?_
  refine mx_puti r M d124_2 fl17_144 rfl rfl rfl (fun hh r => ?_)
  refine ie_iload_n d124_5 rfl ?_
  refine ie_iload_n d124_6 rfl ?_
  refine ie_callSx [_, _] d124_7 ok117 rm124_117 cl17_151 rfl rfl (Nat.le_of_ble_eq_true rfl) (Nat.le_of_ble_eq_true rfl) (s117 _ _) ?_
  refine ie_if_eq 27 d124_10 (by decide) (fun c10 => ?_) (fun c10 => ?_)
  · skip
    exact absurd (isF_y he hf) ((bI_0).mp c10)
  · skip
    refine ie_aload_n d124_13 rfl ?_
    refine mx_getr r M d124_14 fl17_7 rfl ?_
    refine ie_bipush (nI 6) d124_17 (by decide) ?_
    refine ie_iload_n d124_19 rfl ?_
    refine ie_imul d124_20 ?_
    rw [pk_mul]
    refine ie_iload_n d124_21 rfl ?_
    refine ie_iadd d124_22 ?_
    rw [nI_add]
    refine mx_zald (k := 4) (n := ((6 * e) + f)) r M d124_23 rfl rfl rfl (by show 6 * e + f < 12; omega) ?_
    rw [mset_k (by decide)]
    refine ie_if_ne 33 d124_24 (by decide) (fun c24 => ?_) (fun c24 => ?_)
    · skip
      refine ie_iload_n d124_33 rfl ?_
      refine ie_if_lt 52 d124_34 (by decide) (fun c34 => ?_) (fun c34 => ?_)
      · skip
        refine ie_aload_n d124_52 rfl ?_
        refine ie_iconst (nI 2) d124_53 (by decide) ?_
        refine mx_call r M [_] d124_54 ok120 rm124_120 cl17_155 rfl rfl (Nat.le_of_ble_eq_true rfl) (Nat.le_of_ble_eq_true rfl) (s120m (r.ok M) r.2.2 _) (fun hh r => ?_)
        exact ie_iret d124_57 rfl (by first | rfl | decide | exact (ix_bz (bI_01 _)).1 | exact (ix_bz (by assumption)).1) ⟨rfl, r⟩
      · skip
        refine ie_iload_n d124_37 rfl ?_
        refine ie_aload_n d124_38 rfl ?_
        refine mx_getr r M d124_39 fl17_13 rfl ?_
        refine ie_bipush (nI 6) d124_42 (by decide) ?_
        refine ie_iload_n d124_44 rfl ?_
        refine ie_imul d124_45 ?_
        rw [pk_mul]
        refine ie_iload_n d124_46 rfl ?_
        refine ie_iadd d124_47 ?_
        rw [nI_add]
        refine mx_iald (k := 5) (n := ((6 * e) + f)) r M d124_48 rfl rfl rfl (by show 6 * e + f < 12; omega) ?_
        rw [mset_k (by decide)]
        refine ie_icmp_lt 58 d124_49 (by decide) (fun c49 => ?_) (fun c49 => ?_)
        · skip
          exact absurd ⟨Int32.not_lt.mp c34, c49⟩ hi
        · skip
          refine ie_aload_n d124_52 rfl ?_
          refine ie_iconst (nI 2) d124_53 (by decide) ?_
          refine mx_call r M [_] d124_54 ok120 rm124_120 cl17_155 rfl rfl (Nat.le_of_ble_eq_true rfl) (Nat.le_of_ble_eq_true rfl) (s120m (r.ok M) r.2.2 _) (fun hh r => ?_)
          exact ie_iret d124_57 rfl (by first | rfl | decide | exact (ix_bz (bI_01 _)).1 | exact (ix_bz (by assumption)).1) ⟨rfl, r⟩
    · skip
      exact absurd c24 ht
set_option maxRecDepth 100000 in
set_option maxHeartbeats 4000000 in
/-- at -/
theorem s124y {G : ix_G} {h : ix_H} {o : Nat} {S : MS} (M : md_ok h o) (hS : ms h o = S) {e f : Nat} (he : e < 2) (hf : f < 6) {i n : Nat} (ht : ¬ S 4 (6 * e + f) = 0) (hn : S 5 (6 * e + f) = nI n) (hn64 : n ≤ 64) (hi : i < n) : ix_E G 124 0 (lv_args 0 [.ref o, .int (nI e), .int (nI f), .int (nI i)]) [] h (fun rv h' => rv = some (.int (S 6 (64 * (6 * e + f) + i))) ∧ mR o h h' (m0 S)) := by
  have r : mR o h h S := mR.rf hS
  refine ie_aload_n d124_0 rfl ?_
  refine ie_iconst (nI 0) d124_1 (by decide) ?_
  refine mx_puti r M d124_2 fl17_144 rfl rfl rfl (fun hh r => ?_)
  refine ie_iload_n d124_5 rfl ?_
  refine ie_iload_n d124_6 rfl ?_
  refine ie_callSx [_, _] d124_7 ok117 rm124_117 cl17_151 rfl rfl (Nat.le_of_ble_eq_true rfl) (Nat.le_of_ble_eq_true rfl) (s117 _ _) ?_
  refine ie_if_eq 27 d124_10 (by decide) (fun c10 => ?_) (fun c10 => ?_)
  · skip
    exact absurd (isF_y he hf) ((bI_0).mp c10)
  · skip
    refine ie_aload_n d124_13 rfl ?_
    refine mx_getr r M d124_14 fl17_7 rfl ?_
    refine ie_bipush (nI 6) d124_17 (by decide) ?_
    refine ie_iload_n d124_19 rfl ?_
    refine ie_imul d124_20 ?_
    rw [pk_mul]
    refine ie_iload_n d124_21 rfl ?_
    refine ie_iadd d124_22 ?_
    rw [nI_add]
    refine mx_zald (k := 4) (n := ((6 * e) + f)) r M d124_23 rfl rfl rfl (by show 6 * e + f < 12; omega) ?_
    rw [mset_k (by decide)]
    refine ie_if_ne 33 d124_24 (by decide) (fun c24 => ?_) (fun c24 => ?_)
    · skip
      refine ie_iload_n d124_33 rfl ?_
      refine ie_if_lt 52 d124_34 (by decide) (fun c34 => ?_) (fun c34 => ?_)
      · skip
        exact absurd ((nI_ltI (b := 0) (by omega) (by decide)).mp c34) (by omega)
      · skip
        refine ie_iload_n d124_37 rfl ?_
        refine ie_aload_n d124_38 rfl ?_
        refine mx_getr r M d124_39 fl17_13 rfl ?_
        refine ie_bipush (nI 6) d124_42 (by decide) ?_
        refine ie_iload_n d124_44 rfl ?_
        refine ie_imul d124_45 ?_
        rw [pk_mul]
        refine ie_iload_n d124_46 rfl ?_
        refine ie_iadd d124_47 ?_
        rw [nI_add]
        refine mx_iald (k := 5) (n := ((6 * e) + f)) r M d124_48 rfl rfl rfl (by show 6 * e + f < 12; omega) ?_
        rw [mset_k (by decide)]
        rw [hn]
        refine ie_icmp_lt 58 d124_49 (by decide) (fun c49 => ?_) (fun c49 => ?_)
        · skip
          refine ie_aload_n d124_58 rfl ?_
          refine mx_getr r M d124_59 fl17_17 rfl ?_
          refine ie_bipush (nI 64) d124_62 (by decide) ?_
          refine ie_bipush (nI 6) d124_64 (by decide) ?_
          refine ie_iload_n d124_66 rfl ?_
          refine ie_imul d124_67 ?_
          rw [pk_mul]
          refine ie_iload_n d124_68 rfl ?_
          refine ie_iadd d124_69 ?_
          rw [nI_add]
          refine ie_imul d124_70 ?_
          rw [pk_mul]
          refine ie_iload_n d124_71 rfl ?_
          refine ie_iadd d124_72 ?_
          rw [nI_add]
          refine mx_iald (k := 6) (n := (64 * (6 * e + f) + i)) r M d124_73 rfl rfl rfl (by show 64 * (6 * e + f) + i < 768; omega) ?_
          rw [mset_k (by decide)]
          exact ie_iret d124_74 rfl (by first | rfl | decide | exact (ix_bz (bI_01 _)).1 | exact (ix_bz (by assumption)).1) ⟨rfl, r⟩
        · skip
          exact absurd ((nI_ltI (by omega) (by omega)).mpr hi) c49
    · skip
      exact absurd c24 ht
