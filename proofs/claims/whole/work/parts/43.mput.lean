set_option maxRecDepth 100000 in
set_option maxHeartbeats 4000000 in
/-- put: no -/
theorem s125a {G : ix_G} {h : ix_H} {o : Nat} {S : MS} (M : md_ok h o) (hS : ms h o = S) (e f d y x g : Int32) (hno : ¬ (((0 ≤ e ∧ e ≤ 1) ∧ 0 ≤ f ∧ f ≤ 5) ∧ (0 ≤ d ∧ d ≤ 5) ∧ (0 ≤ g ∧ g ≤ 5) ∧ (1 ≤ y ∧ y ≤ 2) ∧ 0 ≤ x ∧ x ≤ 2)) : ix_E G 125 0 (lv_args 0 [.ref o, .int e, .int f, .int d, .int y, .int x, .int g]) [] h (fun rv h' => rv = some (.int 0) ∧ mR o h h' (mset (m0 S) 3 0 (nI 1))) := by
  have r : mR o h h S := mR.rf hS
  refine ie_aload_n d125_0 rfl ?_
  refine ie_iconst (nI 0) d125_1 (by decide) ?_
  refine mx_puti r M d125_2 fl17_144 rfl rfl rfl (fun hh r => ?_)
  refine ie_iload_n d125_5 rfl ?_
  refine ie_iload_n d125_6 rfl ?_
  refine ie_callSx [_, _] d125_7 ok117 rm125_117 cl17_151 rfl rfl (Nat.le_of_ble_eq_true rfl) (Nat.le_of_ble_eq_true rfl) (s117 _ _) ?_
  refine ie_if_eq 52 d125_10 (by decide) (fun c10 => ?_) (fun c10 => ?_)
  · skip
    refine ie_aload_n d125_52 rfl ?_
    refine ie_iconst (nI 1) d125_53 (by decide) ?_
    refine mx_call r M [_] d125_54 ok120 rm125_120 cl17_155 rfl rfl (Nat.le_of_ble_eq_true rfl) (Nat.le_of_ble_eq_true rfl) (s120m (r.ok M) r.2.2 _) (fun hh r => ?_)
    exact ie_iret d125_57 rfl (by first | rfl | decide | exact (ix_bz (bI_01 _)).1 | exact (ix_bz (by assumption)).1) ⟨rfl, r⟩
  · skip
    refine ie_iload_n d125_13 rfl ?_
    refine ie_iconst (nI 0) d125_14 (by decide) ?_
    refine ie_iconst (nI 5) d125_15 (by decide) ?_
    refine ie_callSx [_, _, _] d125_16 ok118 rm125_118 cl17_147 rfl rfl (Nat.le_of_ble_eq_true rfl) (Nat.le_of_ble_eq_true rfl) (s118 _ _ _) ?_
    refine ie_if_eq 52 d125_19 (by decide) (fun c19 => ?_) (fun c19 => ?_)
    · skip
      refine ie_aload_n d125_52 rfl ?_
      refine ie_iconst (nI 1) d125_53 (by decide) ?_
      refine mx_call r M [_] d125_54 ok120 rm125_120 cl17_155 rfl rfl (Nat.le_of_ble_eq_true rfl) (Nat.le_of_ble_eq_true rfl) (s120m (r.ok M) r.2.2 _) (fun hh r => ?_)
      exact ie_iret d125_57 rfl (by first | rfl | decide | exact (ix_bz (bI_01 _)).1 | exact (ix_bz (by assumption)).1) ⟨rfl, r⟩
    · skip
      refine ie_iload d125_22 rfl ?_
      refine ie_iconst (nI 0) d125_24 (by decide) ?_
      refine ie_iconst (nI 5) d125_25 (by decide) ?_
      refine ie_callSx [_, _, _] d125_26 ok118 rm125_118 cl17_147 rfl rfl (Nat.le_of_ble_eq_true rfl) (Nat.le_of_ble_eq_true rfl) (s118 _ _ _) ?_
      refine ie_if_eq 52 d125_29 (by decide) (fun c29 => ?_) (fun c29 => ?_)
      · skip
        refine ie_aload_n d125_52 rfl ?_
        refine ie_iconst (nI 1) d125_53 (by decide) ?_
        refine mx_call r M [_] d125_54 ok120 rm125_120 cl17_155 rfl rfl (Nat.le_of_ble_eq_true rfl) (Nat.le_of_ble_eq_true rfl) (s120m (r.ok M) r.2.2 _) (fun hh r => ?_)
        exact ie_iret d125_57 rfl (by first | rfl | decide | exact (ix_bz (bI_01 _)).1 | exact (ix_bz (by assumption)).1) ⟨rfl, r⟩
      · skip
        refine ie_iload d125_32 rfl ?_
        refine ie_iconst (nI 1) d125_34 (by decide) ?_
        refine ie_iconst (nI 2) d125_35 (by decide) ?_
        refine ie_callSx [_, _, _] d125_36 ok118 rm125_118 cl17_147 rfl rfl (Nat.le_of_ble_eq_true rfl) (Nat.le_of_ble_eq_true rfl) (s118 _ _ _) ?_
        refine ie_if_eq 52 d125_39 (by decide) (fun c39 => ?_) (fun c39 => ?_)
        · skip
          refine ie_aload_n d125_52 rfl ?_
          refine ie_iconst (nI 1) d125_53 (by decide) ?_
          refine mx_call r M [_] d125_54 ok120 rm125_120 cl17_155 rfl rfl (Nat.le_of_ble_eq_true rfl) (Nat.le_of_ble_eq_true rfl) (s120m (r.ok M) r.2.2 _) (fun hh r => ?_)
          exact ie_iret d125_57 rfl (by first | rfl | decide | exact (ix_bz (bI_01 _)).1 | exact (ix_bz (by assumption)).1) ⟨rfl, r⟩
        · skip
          refine ie_iload d125_42 rfl ?_
          refine ie_iconst (nI 0) d125_44 (by decide) ?_
          refine ie_iconst (nI 2) d125_45 (by decide) ?_
          refine ie_callSx [_, _, _] d125_46 ok118 rm125_118 cl17_147 rfl rfl (Nat.le_of_ble_eq_true rfl) (Nat.le_of_ble_eq_true rfl) (s118 _ _ _) ?_
          refine ie_if_ne 58 d125_49 (by decide) (fun c49 => ?_) (fun c49 => ?_)
          · skip
            exact absurd ⟨by rw [bI_0, Classical.not_not] at c10; exact c10, by rw [bI_0, Classical.not_not] at c19; exact c19, by rw [bI_0, Classical.not_not] at c29; exact c29, by rw [bI_0, Classical.not_not] at c39; exact c39, by rw [bI_0, Classical.not_not] at c49; exact c49⟩ hno
          · skip
            refine ie_aload_n d125_52 rfl ?_
            refine ie_iconst (nI 1) d125_53 (by decide) ?_
            refine mx_call r M [_] d125_54 ok120 rm125_120 cl17_155 rfl rfl (Nat.le_of_ble_eq_true rfl) (Nat.le_of_ble_eq_true rfl) (s120m (r.ok M) r.2.2 _) (fun hh r => ?_)
            exact ie_iret d125_57 rfl (by first | rfl | decide | exact (ix_bz (bI_01 _)).1 | exact (ix_bz (by assumption)).1) ⟨rfl, r⟩
set_option maxRecDepth 100000 in
set_option maxHeartbeats 4000000 in
/-- put: not there -/
theorem s125b {G : ix_G} {h : ix_H} {o : Nat} {S : MS} (M : md_ok h o) (hS : ms h o = S) {e f d y x g : Nat} (he : e < 2) (hf : f < 6) (hd : d < 6) (hg : g < 6) (hy1 : 1 ≤ y) (hy2 : y ≤ 2) (hx : x ≤ 2) (ht : S 4 (6 * e + f) = 0) : ix_E G 125 0 (lv_args 0 [.ref o, .int (nI e), .int (nI f), .int (nI d), .int (nI y), .int (nI x), .int (nI g)]) [] h (fun rv h' => rv = some (.int 0) ∧ mR o h h' (mset (m0 S) 3 0 (nI 2))) := by
  have r : mR o h h S := mR.rf hS
  refine ie_aload_n d125_0 rfl ?_
  refine ie_iconst (nI 0) d125_1 (by decide) ?_
  refine mx_puti r M d125_2 fl17_144 rfl rfl rfl (fun hh r => ?_)
  refine ie_iload_n d125_5 rfl ?_
  refine ie_iload_n d125_6 rfl ?_
  refine ie_callSx [_, _] d125_7 ok117 rm125_117 cl17_151 rfl rfl (Nat.le_of_ble_eq_true rfl) (Nat.le_of_ble_eq_true rfl) (s117 _ _) ?_
  refine ie_if_eq 52 d125_10 (by decide) (fun c10 => ?_) (fun c10 => ?_)
  · skip
    exact absurd (isF_y he hf) ((bI_0).mp c10)
  · skip
    refine ie_iload_n d125_13 rfl ?_
    refine ie_iconst (nI 0) d125_14 (by decide) ?_
    refine ie_iconst (nI 5) d125_15 (by decide) ?_
    refine ie_callSx [_, _, _] d125_16 ok118 rm125_118 cl17_147 rfl rfl (Nat.le_of_ble_eq_true rfl) (Nat.le_of_ble_eq_true rfl) (s118 _ _ _) ?_
    refine ie_if_eq 52 d125_19 (by decide) (fun c19 => ?_) (fun c19 => ?_)
    · skip
      exact absurd (in_y (a := 0) (b := 5) (by omega) (by omega) (by decide)) ((bI_0).mp c19)
    · skip
      refine ie_iload d125_22 rfl ?_
      refine ie_iconst (nI 0) d125_24 (by decide) ?_
      refine ie_iconst (nI 5) d125_25 (by decide) ?_
      refine ie_callSx [_, _, _] d125_26 ok118 rm125_118 cl17_147 rfl rfl (Nat.le_of_ble_eq_true rfl) (Nat.le_of_ble_eq_true rfl) (s118 _ _ _) ?_
      refine ie_if_eq 52 d125_29 (by decide) (fun c29 => ?_) (fun c29 => ?_)
      · skip
        exact absurd (in_y (a := 0) (b := 5) (by omega) (by omega) (by decide)) ((bI_0).mp c29)
      · skip
        refine ie_iload d125_32 rfl ?_
        refine ie_iconst (nI 1) d125_34 (by decide) ?_
        refine ie_iconst (nI 2) d125_35 (by decide) ?_
        refine ie_callSx [_, _, _] d125_36 ok118 rm125_118 cl17_147 rfl rfl (Nat.le_of_ble_eq_true rfl) (Nat.le_of_ble_eq_true rfl) (s118 _ _ _) ?_
        refine ie_if_eq 52 d125_39 (by decide) (fun c39 => ?_) (fun c39 => ?_)
        · skip
          exact absurd (in_y (a := 1) (b := 2) (by omega) (by omega) (by decide)) ((bI_0).mp c39)
        · skip
          refine ie_iload d125_42 rfl ?_
          refine ie_iconst (nI 0) d125_44 (by decide) ?_
          refine ie_iconst (nI 2) d125_45 (by decide) ?_
          refine ie_callSx [_, _, _] d125_46 ok118 rm125_118 cl17_147 rfl rfl (Nat.le_of_ble_eq_true rfl) (Nat.le_of_ble_eq_true rfl) (s118 _ _ _) ?_
          refine ie_if_ne 58 d125_49 (by decide) (fun c49 => ?_) (fun c49 => ?_)
          · skip
            refine ie_aload_n d125_58 rfl ?_
            refine mx_getr r M d125_59 fl17_7 rfl ?_
            refine ie_bipush (nI 6) d125_62 (by decide) ?_
            refine ie_iload_n d125_64 rfl ?_
            refine ie_imul d125_65 ?_
            rw [pk_mul]
            refine ie_iload_n d125_66 rfl ?_
            refine ie_iadd d125_67 ?_
            rw [nI_add]
            refine mx_zald (k := 4) (n := ((6 * e) + f)) r M d125_68 rfl rfl rfl (by show 6 * e + f < 12; omega) ?_
            rw [mset_k (by decide)]
            refine ie_if_ne 78 d125_69 (by decide) (fun c69 => ?_) (fun c69 => ?_)
            · skip
              exact absurd ht c69
            · skip
              refine ie_aload_n d125_72 rfl ?_
              refine ie_iconst (nI 2) d125_73 (by decide) ?_
              refine mx_call r M [_] d125_74 ok120 rm125_120 cl17_155 rfl rfl (Nat.le_of_ble_eq_true rfl) (Nat.le_of_ble_eq_true rfl) (s120m (r.ok M) r.2.2 _) (fun hh r => ?_)
              exact ie_iret d125_77 rfl (by first | rfl | decide | exact (ix_bz (bI_01 _)).1 | exact (ix_bz (by assumption)).1) ⟨rfl, r⟩
          · skip
            exact absurd (in_y (a := 0) (b := 2) (by omega) (by omega) (by decide)) ((bI_0).mp c49)
set_option maxRecDepth 100000 in
set_option maxHeartbeats 4000000 in
/-- put: three are open -/
theorem s125c {G : ix_G} {h : ix_H} {o : Nat} {S : MS} (M : md_ok h o) (hS : ms h o = S) {e f d y x g : Nat} (he : e < 2) (hf : f < 6) (hd : d < 6) (hg : g < 6) (hy1 : 1 ≤ y) (hy2 : y ≤ 2) (hx : x ≤ 2) (ht : ¬ S 4 (6 * e + f) = 0) (hc : S 42 e = nI 3) : ix_E G 125 0 (lv_args 0 [.ref o, .int (nI e), .int (nI f), .int (nI d), .int (nI y), .int (nI x), .int (nI g)]) [] h (fun rv h' => rv = some (.int 0) ∧ mR o h h' (mset (m0 S) 3 0 (nI 3))) := by
  have r : mR o h h S := mR.rf hS
  refine ie_aload_n d125_0 rfl ?_
  refine ie_iconst (nI 0) d125_1 (by decide) ?_
  refine mx_puti r M d125_2 fl17_144 rfl rfl rfl (fun hh r => ?_)
  refine ie_iload_n d125_5 rfl ?_
  refine ie_iload_n d125_6 rfl ?_
  refine ie_callSx [_, _] d125_7 ok117 rm125_117 cl17_151 rfl rfl (Nat.le_of_ble_eq_true rfl) (Nat.le_of_ble_eq_true rfl) (s117 _ _) ?_
  refine ie_if_eq 52 d125_10 (by decide) (fun c10 => ?_) (fun c10 => ?_)
  · skip
    exact absurd (isF_y he hf) ((bI_0).mp c10)
  · skip
    refine ie_iload_n d125_13 rfl ?_
    refine ie_iconst (nI 0) d125_14 (by decide) ?_
    refine ie_iconst (nI 5) d125_15 (by decide) ?_
    refine ie_callSx [_, _, _] d125_16 ok118 rm125_118 cl17_147 rfl rfl (Nat.le_of_ble_eq_true rfl) (Nat.le_of_ble_eq_true rfl) (s118 _ _ _) ?_
    refine ie_if_eq 52 d125_19 (by decide) (fun c19 => ?_) (fun c19 => ?_)
    · skip
      exact absurd (in_y (a := 0) (b := 5) (by omega) (by omega) (by decide)) ((bI_0).mp c19)
    · skip
      refine ie_iload d125_22 rfl ?_
      refine ie_iconst (nI 0) d125_24 (by decide) ?_
      refine ie_iconst (nI 5) d125_25 (by decide) ?_
      refine ie_callSx [_, _, _] d125_26 ok118 rm125_118 cl17_147 rfl rfl (Nat.le_of_ble_eq_true rfl) (Nat.le_of_ble_eq_true rfl) (s118 _ _ _) ?_
      refine ie_if_eq 52 d125_29 (by decide) (fun c29 => ?_) (fun c29 => ?_)
      · skip
        exact absurd (in_y (a := 0) (b := 5) (by omega) (by omega) (by decide)) ((bI_0).mp c29)
      · skip
        refine ie_iload d125_32 rfl ?_
        refine ie_iconst (nI 1) d125_34 (by decide) ?_
        refine ie_iconst (nI 2) d125_35 (by decide) ?_
        refine ie_callSx [_, _, _] d125_36 ok118 rm125_118 cl17_147 rfl rfl (Nat.le_of_ble_eq_true rfl) (Nat.le_of_ble_eq_true rfl) (s118 _ _ _) ?_
        refine ie_if_eq 52 d125_39 (by decide) (fun c39 => ?_) (fun c39 => ?_)
        · skip
          exact absurd (in_y (a := 1) (b := 2) (by omega) (by omega) (by decide)) ((bI_0).mp c39)
        · skip
          refine ie_iload d125_42 rfl ?_
          refine ie_iconst (nI 0) d125_44 (by decide) ?_
          refine ie_iconst (nI 2) d125_45 (by decide) ?_
          refine ie_callSx [_, _, _] d125_46 ok118 rm125_118 cl17_147 rfl rfl (Nat.le_of_ble_eq_true rfl) (Nat.le_of_ble_eq_true rfl) (s118 _ _ _) ?_
          refine ie_if_ne 58 d125_49 (by decide) (fun c49 => ?_) (fun c49 => ?_)
          · skip
            refine ie_aload_n d125_58 rfl ?_
            refine mx_getr r M d125_59 fl17_7 rfl ?_
            refine ie_bipush (nI 6) d125_62 (by decide) ?_
            refine ie_iload_n d125_64 rfl ?_
            refine ie_imul d125_65 ?_
            rw [pk_mul]
            refine ie_iload_n d125_66 rfl ?_
            refine ie_iadd d125_67 ?_
            rw [nI_add]
            refine mx_zald (k := 4) (n := ((6 * e) + f)) r M d125_68 rfl rfl rfl (by show 6 * e + f < 12; omega) ?_
            rw [mset_k (by decide)]
            refine ie_if_ne 78 d125_69 (by decide) (fun c69 => ?_) (fun c69 => ?_)
            · skip
              refine ie_aload_n d125_78 rfl ?_
              refine mx_getr r M d125_79 fl17_125 rfl ?_
              refine ie_iload_n d125_82 rfl ?_
              refine mx_iald (k := 42) (n := e) r M d125_83 rfl rfl rfl (by show e < 2; exact he) ?_
              rw [mset_k (by decide)]
              refine ie_iconst (nI 3) d125_84 (by decide) ?_
              refine ie_icmp_ne 94 d125_85 (by decide) (fun c85 => ?_) (fun c85 => ?_)
              · skip
                exact absurd hc c85
              · skip
                refine ie_aload_n d125_88 rfl ?_
                refine ie_iconst (nI 3) d125_89 (by decide) ?_
                refine mx_call r M [_] d125_90 ok120 rm125_120 cl17_155 rfl rfl (Nat.le_of_ble_eq_true rfl) (Nat.le_of_ble_eq_true rfl) (s120m (r.ok M) r.2.2 _) (fun hh r => ?_)
                exact ie_iret d125_93 rfl (by first | rfl | decide | exact (ix_bz (bI_01 _)).1 | exact (ix_bz (by assumption)).1) ⟨rfl, r⟩
            · skip
              exact absurd c69 ht
          · skip
            exact absurd (in_y (a := 0) (b := 2) (by omega) (by omega) (by decide)) ((bI_0).mp c49)
/-- a sender opens -/
def mPut (S : MS) (e f d y x g cn cs : Nat) : MS := mset (mset (mset (mset (mset (mset (mset (mset (mset (m0 S) 7 e (nI (cn + 1))) 8 (320 * e + (cn + 1)) (nI y)) 9 (320 * e + (cn + 1)) (nI f)) 10 (320 * e + (cn + 1)) (nI d)) 11 (320 * e + (cn + 1)) (nI x)) 12 (320 * e + (cn + 1)) (nI g)) 13 (320 * e + (cn + 1)) (nI 5)) 40 (3 * e + cs) (nI (320 * e + (cn + 1)))) 42 e (nI (cs + 1))
set_option maxRecDepth 100000 in
set_option maxHeartbeats 4000000 in
/-- put -/
theorem s125y {G : ix_G} {h : ix_H} {o : Nat} {S : MS} (M : md_ok h o) (hS : ms h o = S) {e f d y x g : Nat} (he : e < 2) (hf : f < 6) (hd : d < 6) (hg : g < 6) (hy1 : 1 ≤ y) (hy2 : y ≤ 2) (hx : x ≤ 2) (ht : ¬ S 4 (6 * e + f) = 0) {cn cs : Nat} (hcn : S 7 e = nI cn) (hcn9 : cn < 319) (hcs : S 42 e = nI cs) (hcs3 : cs < 3) : ix_E G 125 0 (lv_args 0 [.ref o, .int (nI e), .int (nI f), .int (nI d), .int (nI y), .int (nI x), .int (nI g)]) [] h (fun rv h' => rv = some (.int (nI (cn + 1))) ∧ mR o h h' (mPut S e f d y x g cn cs)) := by
  have r : mR o h h S := mR.rf hS
  refine ie_aload_n d125_0 rfl ?_
  refine ie_iconst (nI 0) d125_1 (by decide) ?_
  refine mx_puti r M d125_2 fl17_144 rfl rfl rfl (fun hh r => ?_)
  refine ie_iload_n d125_5 rfl ?_
  refine ie_iload_n d125_6 rfl ?_
  refine ie_callSx [_, _] d125_7 ok117 rm125_117 cl17_151 rfl rfl (Nat.le_of_ble_eq_true rfl) (Nat.le_of_ble_eq_true rfl) (s117 _ _) ?_
  refine ie_if_eq 52 d125_10 (by decide) (fun c10 => ?_) (fun c10 => ?_)
  · skip
    exact absurd (isF_y he hf) ((bI_0).mp c10)
  · skip
    refine ie_iload_n d125_13 rfl ?_
    refine ie_iconst (nI 0) d125_14 (by decide) ?_
    refine ie_iconst (nI 5) d125_15 (by decide) ?_
    refine ie_callSx [_, _, _] d125_16 ok118 rm125_118 cl17_147 rfl rfl (Nat.le_of_ble_eq_true rfl) (Nat.le_of_ble_eq_true rfl) (s118 _ _ _) ?_
    refine ie_if_eq 52 d125_19 (by decide) (fun c19 => ?_) (fun c19 => ?_)
    · skip
      exact absurd (in_y (a := 0) (b := 5) (by omega) (by omega) (by decide)) ((bI_0).mp c19)
    · skip
      refine ie_iload d125_22 rfl ?_
      refine ie_iconst (nI 0) d125_24 (by decide) ?_
      refine ie_iconst (nI 5) d125_25 (by decide) ?_
      refine ie_callSx [_, _, _] d125_26 ok118 rm125_118 cl17_147 rfl rfl (Nat.le_of_ble_eq_true rfl) (Nat.le_of_ble_eq_true rfl) (s118 _ _ _) ?_
      refine ie_if_eq 52 d125_29 (by decide) (fun c29 => ?_) (fun c29 => ?_)
      · skip
        exact absurd (in_y (a := 0) (b := 5) (by omega) (by omega) (by decide)) ((bI_0).mp c29)
      · skip
        refine ie_iload d125_32 rfl ?_
        refine ie_iconst (nI 1) d125_34 (by decide) ?_
        refine ie_iconst (nI 2) d125_35 (by decide) ?_
        refine ie_callSx [_, _, _] d125_36 ok118 rm125_118 cl17_147 rfl rfl (Nat.le_of_ble_eq_true rfl) (Nat.le_of_ble_eq_true rfl) (s118 _ _ _) ?_
        refine ie_if_eq 52 d125_39 (by decide) (fun c39 => ?_) (fun c39 => ?_)
        · skip
          exact absurd (in_y (a := 1) (b := 2) (by omega) (by omega) (by decide)) ((bI_0).mp c39)
        · skip
          refine ie_iload d125_42 rfl ?_
          refine ie_iconst (nI 0) d125_44 (by decide) ?_
          refine ie_iconst (nI 2) d125_45 (by decide) ?_
          refine ie_callSx [_, _, _] d125_46 ok118 rm125_118 cl17_147 rfl rfl (Nat.le_of_ble_eq_true rfl) (Nat.le_of_ble_eq_true rfl) (s118 _ _ _) ?_
          refine ie_if_ne 58 d125_49 (by decide) (fun c49 => ?_) (fun c49 => ?_)
          · skip
            refine ie_aload_n d125_58 rfl ?_
            refine mx_getr r M d125_59 fl17_7 rfl ?_
            refine ie_bipush (nI 6) d125_62 (by decide) ?_
            refine ie_iload_n d125_64 rfl ?_
            refine ie_imul d125_65 ?_
            rw [pk_mul]
            refine ie_iload_n d125_66 rfl ?_
            refine ie_iadd d125_67 ?_
            rw [nI_add]
            refine mx_zald (k := 4) (n := ((6 * e) + f)) r M d125_68 rfl rfl rfl (by show 6 * e + f < 12; omega) ?_
            rw [mset_k (by decide)]
            refine ie_if_ne 78 d125_69 (by decide) (fun c69 => ?_) (fun c69 => ?_)
            · skip
              refine ie_aload_n d125_78 rfl ?_
              refine mx_getr r M d125_79 fl17_125 rfl ?_
              refine ie_iload_n d125_82 rfl ?_
              refine mx_iald (k := 42) (n := e) r M d125_83 rfl rfl rfl (by show e < 2; exact he) ?_
              rw [mset_k (by decide)]
              rw [hcs]
              refine ie_iconst (nI 3) d125_84 (by decide) ?_
              refine ie_icmp_ne 94 d125_85 (by decide) (fun c85 => ?_) (fun c85 => ?_)
              · skip
                refine ie_aload_n d125_94 rfl ?_
                refine mx_getr r M d125_95 fl17_20 rfl ?_
                refine ie_iload_n d125_98 rfl ?_
                refine ie_dup2 d125_99 rfl rfl ?_
                refine mx_iald (k := 7) (n := e) r M d125_100 rfl rfl rfl (by show e < 2; exact he) ?_
                rw [mset_k (by decide)]
                rw [hcn]
                refine ie_iconst (nI 1) d125_101 (by decide) ?_
                refine ie_iadd d125_102 ?_
                rw [nI_add]
                refine mx_iast (k := 7) (n := e) r M d125_103 rfl rfl rfl (by show e < 2; exact he) (fun hh r => ?_)
                refine ie_sipush (nI 320) d125_104 (by decide) ?_
                refine ie_iload_n d125_107 rfl ?_
                refine ie_imul d125_108 ?_
                rw [pk_mul]
                refine ie_aload_n d125_109 rfl ?_
                refine mx_getr r M d125_110 fl17_20 rfl ?_
                refine ie_iload_n d125_113 rfl ?_
                refine mx_iald (k := 7) (n := e) r M d125_114 rfl rfl rfl (by show e < 2; exact he) ?_
                rw [mset_s]
                refine ie_iadd d125_115 ?_
                rw [nI_add]
                refine ie_istore d125_116 (by decide) ?_
                refine ie_aload_n d125_118 rfl ?_
                refine mx_getr r M d125_119 fl17_23 rfl ?_
                refine ie_iload d125_122 rfl ?_
                refine ie_iload d125_124 rfl ?_
                refine mx_iast (k := 8) (n := (320 * e + (cn + 1))) r M d125_126 rfl rfl rfl (by show 320 * e + (cn + 1) < 640; omega) (fun hh r => ?_)
                refine ie_aload_n d125_127 rfl ?_
                refine mx_getr r M d125_128 fl17_26 rfl ?_
                refine ie_iload d125_131 rfl ?_
                refine ie_iload_n d125_133 rfl ?_
                refine mx_iast (k := 9) (n := (320 * e + (cn + 1))) r M d125_134 rfl rfl rfl (by show 320 * e + (cn + 1) < 640; omega) (fun hh r => ?_)
                refine ie_aload_n d125_135 rfl ?_
                refine mx_getr r M d125_136 fl17_29 rfl ?_
                refine ie_iload d125_139 rfl ?_
                refine ie_iload_n d125_141 rfl ?_
                refine mx_iast (k := 10) (n := (320 * e + (cn + 1))) r M d125_142 rfl rfl rfl (by show 320 * e + (cn + 1) < 640; omega) (fun hh r => ?_)
                refine ie_aload_n d125_143 rfl ?_
                refine mx_getr r M d125_144 fl17_32 rfl ?_
                refine ie_iload d125_147 rfl ?_
                refine ie_iload d125_149 rfl ?_
                refine mx_iast (k := 11) (n := (320 * e + (cn + 1))) r M d125_151 rfl rfl rfl (by show 320 * e + (cn + 1) < 640; omega) (fun hh r => ?_)
                refine ie_aload_n d125_152 rfl ?_
                refine mx_getr r M d125_153 fl17_35 rfl ?_
                refine ie_iload d125_156 rfl ?_
                refine ie_iload d125_158 rfl ?_
                refine mx_iast (k := 12) (n := (320 * e + (cn + 1))) r M d125_160 rfl rfl rfl (by show 320 * e + (cn + 1) < 640; omega) (fun hh r => ?_)
                refine ie_aload_n d125_161 rfl ?_
                refine mx_getr r M d125_162 fl17_38 rfl ?_
                refine ie_iload d125_165 rfl ?_
                refine ie_iconst (nI 5) d125_167 (by decide) ?_
                refine mx_iast (k := 13) (n := (320 * e + (cn + 1))) r M d125_168 rfl rfl rfl (by show 320 * e + (cn + 1) < 640; omega) (fun hh r => ?_)
                refine ie_aload_n d125_169 rfl ?_
                refine mx_getr r M d125_170 fl17_119 rfl ?_
                refine ie_iconst (nI 3) d125_173 (by decide) ?_
                refine ie_iload_n d125_174 rfl ?_
                refine ie_imul d125_175 ?_
                rw [pk_mul]
                refine ie_aload_n d125_176 rfl ?_
                refine mx_getr r M d125_177 fl17_125 rfl ?_
                refine ie_iload_n d125_180 rfl ?_
                refine mx_iald (k := 42) (n := e) r M d125_181 rfl rfl rfl (by show e < 2; exact he) ?_
                rw [mset_k (by decide)]
                rw [mset_k (by decide)]
                rw [mset_k (by decide)]
                rw [mset_k (by decide)]
                rw [mset_k (by decide)]
                rw [mset_k (by decide)]
                rw [mset_k (by decide)]
                rw [mset_k (by decide)]
                rw [hcs]
                refine ie_iadd d125_182 ?_
                rw [nI_add]
                refine ie_iload d125_183 rfl ?_
                refine mx_iast (k := 40) (n := (3 * e + cs)) r M d125_185 rfl rfl rfl (by show 3 * e + cs < 6; omega) (fun hh r => ?_)
                refine ie_aload_n d125_186 rfl ?_
                refine mx_getr r M d125_187 fl17_125 rfl ?_
                refine ie_iload_n d125_190 rfl ?_
                refine ie_dup2 d125_191 rfl rfl ?_
                refine mx_iald (k := 42) (n := e) r M d125_192 rfl rfl rfl (by show e < 2; exact he) ?_
                rw [mset_k (by decide)]
                rw [mset_k (by decide)]
                rw [mset_k (by decide)]
                rw [mset_k (by decide)]
                rw [mset_k (by decide)]
                rw [mset_k (by decide)]
                rw [mset_k (by decide)]
                rw [mset_k (by decide)]
                rw [mset_k (by decide)]
                rw [hcs]
                refine ie_iconst (nI 1) d125_193 (by decide) ?_
                refine ie_iadd d125_194 ?_
                rw [nI_add]
                refine mx_iast (k := 42) (n := e) r M d125_195 rfl rfl rfl (by show e < 2; exact he) (fun hh r => ?_)
                refine ie_aload_n d125_196 rfl ?_
                refine mx_getr r M d125_197 fl17_20 rfl ?_
                refine ie_iload_n d125_200 rfl ?_
                refine mx_iald (k := 7) (n := e) r M d125_201 rfl rfl rfl (by show e < 2; exact he) ?_
                rw [mset_k (by decide)]
                rw [mset_k (by decide)]
                rw [mset_k (by decide)]
                rw [mset_k (by decide)]
                rw [mset_k (by decide)]
                rw [mset_k (by decide)]
                rw [mset_k (by decide)]
                rw [mset_k (by decide)]
                rw [mset_s]
                exact ie_iret d125_202 rfl (by first | rfl | decide | exact (ix_bz (bI_01 _)).1 | exact (ix_bz (by assumption)).1) ⟨rfl, r⟩
              · skip
                exact absurd ((nI_eq (by omega) (by decide)).mp c85) (by omega)
            · skip
              exact absurd c69 ht
          · skip
            exact absurd (in_y (a := 0) (b := 2) (by omega) (by omega) (by decide)) ((bI_0).mp c49)
set_option maxRecDepth 100000 in
set_option maxHeartbeats 4000000 in
/-- deliver: nothing -/
theorem s147n {G : ix_G} {h : ix_H} {o : Nat} {S : MS} (M : md_ok h o) (hS : ms h o = S) {u : Nat} (hu : S 44 0 = nI u) (hu24 : u ≤ 24) (k : Int32) (hk : ¬ (0 ≤ k ∧ k < nI u)) : ix_E G 147 0 (lv_args 0 [.ref o, .int k]) [] h (fun rv h' => rv = some (.int 0) ∧ mR o h h' (m0 S)) := by
  have r : mR o h h S := mR.rf hS
  refine ie_aload_n d147_0 rfl ?_
  refine ie_iconst (nI 0) d147_1 (by decide) ?_
  refine mx_puti r M d147_2 fl17_144 rfl rfl rfl (fun hh r => ?_)
  refine ie_aload_n d147_5 rfl ?_
  refine ie_iload_n d147_6 rfl ?_
  refine mx_ask r M [_] d147_7 ok148 rm147_148 cl17_249 rfl rfl (Nat.le_of_ble_eq_true rfl) (Nat.le_of_ble_eq_true rfl) (s148 (r.ok M) _) ?_
  rw [r.2.2, mset_k (by decide), hu]
  refine ie_if_ne 15 d147_10 (by decide) (fun c10 => ?_) (fun c10 => ?_)
  · skip
    exact absurd ((bI_0).mpr hk) c10
  · skip
    refine ie_iconst (nI 0) d147_13 (by decide) ?_
    exact ie_iret d147_14 rfl (by first | rfl | decide | exact (ix_bz (bI_01 _)).1 | exact (ix_bz (by assumption)).1) ⟨rfl, r⟩
/-- the unit that came -/
def mCm (S : MS) (k n : Nat) : MS := fun f j => if f = 46 ∧ j < n then S 45 (11 * k + j) else S f j
theorem mCm_0 {S : MS} {k : Nat} : mCm S k 0 = S := by
  funext f j
  unfold mCm
  rw [if_neg (by omega)]
theorem mCm_o {S : MS} {k n f j : Nat} (h : f ≠ 46) : mCm S k n f j = S f j := by
  unfold mCm
  rw [if_neg (fun z => h z.1)]
theorem mCm_s {S : MS} {k i : Nat} : mset (mCm S k i) 46 i (S 45 (11 * k + i)) = mCm S k (i + 1) := by
  funext f j
  by_cases e : f = 46
  · subst e
    rw [mset_if rfl]
    unfold mCm
    by_cases q : j = i
    · subst q
      rw [if_pos rfl, if_pos ⟨rfl, by omega⟩]
    · rw [if_neg q]
      by_cases w : j < i
      · rw [if_pos ⟨rfl, w⟩, if_pos ⟨rfl, by omega⟩]
      · rw [if_neg (fun z => w z.2), if_neg (fun z => w (by omega))]
  · rw [mset_k e, mCm_o e, mCm_o e]
theorem mOut_o {S : MS} {u k f j : Nat} (h45 : f ≠ 45) (h44 : f ≠ 44) : mOut S u k f j = S f j := by
  unfold mOut mSh
  rw [if_neg (fun z => h45 z.1), if_neg (fun z => h44 z)]
def mArr (S : MS) (u k : Nat) : MS := mset (mOut (mCm S k 11) u k) 2 0 (S 1 0)
set_option maxRecDepth 100000 in
set_option maxHeartbeats 4000000 in
/-- deliver: from the unit on -/
theorem s147_l {G : ix_G} {h0 : ix_H} {o : Nat} {S Q : MS} (M : md_ok h0 o) {u k to t : Nat} (hu : S 44 0 = nI u) (hu24 : u ≤ 24) (hk : k < u) (hto : S 45 (11 * k + 1) = nI to) (hto2 : to < 2) (htt : S 45 (11 * k + 2) = nI t) (ht : t < 640)
    (hs : t / 320 = to → ∀ h1, md_ok h1 o → ms h1 o = mArr S u k → ix_E G 150 0 (lv_args 0 [.ref o, .int (nI t)]) [] h1 (fun rv h' => rv = none ∧ mR o h1 h' Q))
    (hr : ¬ t / 320 = to → ∀ h1, md_ok h1 o → ms h1 o = mArr S u k → ix_E G 152 0 (lv_args 0 [.ref o, .int (nI to), .int (nI t)]) [] h1 (fun rv h' => rv = none ∧ mR o h1 h' Q)) :
    ∀ (z i : Nat), i ≤ 11 → 11 - i < z → ∀ h, mR o h0 h (mCm S k i) → ∀ (lv : List (Nat × Value)), lv.lookup 0 = some (.ref o) → lv.lookup 1 = some (.int (nI k)) → lv.lookup 2 = some (.int (nI i)) → ix_E G 147 17 lv [] h (fun rv h' => rv = some (.int 1) ∧ mR o h0 h' Q) := by
  intro z
  induction z with
  | zero => intro i h1 h2; omega
  | succ z ih =>
    intro i hi hz h r lv l0 l1 l2
    refine ie_iload_n d147_17 l2 ?_
    refine ie_bipush (nI 11) d147_18 (by decide) ?_
    refine ie_icmp_ge 46 d147_20 (by decide) (fun c20 => ?_) (fun c20 => ?_)
    · skip
      rw [nI_leI (by omega) (by omega)] at c20
      have hi2 : i = 11 := by omega
      subst hi2
      refine ie_aload_n d147_46 l0 ?_
      refine ie_iload_n d147_47 l1 ?_
      refine mx_call r M [_] d147_48 ok149 rm147_149 cl17_253 rfl rfl (Nat.le_of_ble_eq_true rfl) (Nat.le_of_ble_eq_true rfl) (s149 (u := u) (r.ok M) r.2.2 (by rw [mCm_o (by decide)]; exact hu) hu24 hk) (fun hh r => ?_)
      refine ie_aload_n d147_51 l0 ?_
      refine ie_aload_n d147_52 l0 ?_
      refine mx_geti r M d147_53 fl17_215 rfl ?_
      rw [mOut_o (by decide) (by decide), mCm_o (by decide)]
      refine mx_puti r M d147_56 fl17_234 rfl rfl rfl (fun hh r => ?_)
      refine ie_aload_n d147_59 l0 ?_
      refine mx_getr r M d147_60 fl17_134 rfl ?_
      refine ie_iconst (nI 1) d147_63 (by decide) ?_
      refine mx_iald (k := 46) (n := 1) r M d147_64 rfl rfl rfl (by decide) ?_
      rw [mset_k (by decide)]
      rw [mOut_o (by decide) (by decide), show mCm S k 11 46 1 = S 45 (11 * k + 1) from if_pos ⟨rfl, by decide⟩, hto]
      refine ie_istore_n d147_65 (by decide) ?_
      refine ie_aload_n d147_66 (ix_lk3 (by decide) l0 rfl) ?_
      refine mx_getr r M d147_67 fl17_134 rfl ?_
      refine ie_iconst (nI 2) d147_70 (by decide) ?_
      refine mx_iald (k := 46) (n := 2) r M d147_71 rfl rfl rfl (by decide) ?_
      rw [mset_k (by decide)]
      rw [mOut_o (by decide) (by decide), show mCm S k 11 46 2 = S 45 (11 * k + 2) from if_pos ⟨rfl, by decide⟩, htt]
      refine ie_istore_n d147_72 (by decide) ?_
      refine ie_iload_n d147_73 ix_lk1 ?_
      refine ie_sipush (nI 320) d147_74 (by decide) ?_
      refine ie_idiv d147_77 (by decide) ?_
      rw [pk_div (by omega) (by decide) (by decide)]
      refine ie_iload_n d147_78 (ix_lk3 (by decide) ix_lk1 rfl) ?_
      refine ie_icmp_ne 90 d147_79 (by decide) (fun c79 => ?_) (fun c79 => ?_)
      · skip
        refine ie_aload_n d147_90 (ix_lk3 (by decide) (ix_lk3 (by decide) l0 rfl) rfl) ?_
        refine ie_iload_n d147_91 (ix_lk3 (by decide) ix_lk1 rfl) ?_
        refine ie_iload_n d147_92 ix_lk1 ?_
        refine mx_call r M [_, _] d147_93 ok152 rm147_152 cl17_259 rfl rfl (Nat.le_of_ble_eq_true rfl) (Nat.le_of_ble_eq_true rfl) (hr (fun q => c79 (by rw [q])) _ (r.ok M) r.2.2) (fun hh r => ?_)
        refine ie_iconst (nI 1) d147_96 (by decide) ?_
        exact ie_iret d147_97 rfl (by first | rfl | decide | exact (ix_bz (bI_01 _)).1 | exact (ix_bz (by assumption)).1) ⟨rfl, r⟩
      · skip
        refine ie_aload_n d147_82 (ix_lk3 (by decide) (ix_lk3 (by decide) l0 rfl) rfl) ?_
        refine ie_iload_n d147_83 ix_lk1 ?_
        refine mx_call r M [_] d147_84 ok150 rm147_150 cl17_256 rfl rfl (Nat.le_of_ble_eq_true rfl) (Nat.le_of_ble_eq_true rfl) (hs ((nI_eq (by omega) (by omega)).mp c79) _ (r.ok M) r.2.2) (fun hh r => ?_)
        refine ie_goto 96 d147_87 (by decide) ?_
        refine ie_iconst (nI 1) d147_96 (by decide) ?_
        exact ie_iret d147_97 rfl (by first | rfl | decide | exact (ix_bz (bI_01 _)).1 | exact (ix_bz (by assumption)).1) ⟨rfl, r⟩
    · skip
      rw [nI_leI (by omega) (by omega)] at c20
      refine ie_aload_n d147_23 l0 ?_
      refine mx_getr r M d147_24 fl17_134 rfl ?_
      refine ie_iload_n d147_27 l2 ?_
      refine ie_aload_n d147_28 l0 ?_
      refine mx_getr r M d147_29 fl17_131 rfl ?_
      refine ie_bipush (nI 11) d147_32 (by decide) ?_
      refine ie_iload_n d147_34 l1 ?_
      refine ie_imul d147_35 ?_
      rw [pk_mul]
      refine ie_iload_n d147_36 l2 ?_
      refine ie_iadd d147_37 ?_
      rw [nI_add]
      refine mx_iald (k := 45) (n := (11 * k + i)) r M d147_38 rfl rfl rfl (by show 11 * k + i < 264; omega) ?_
      rw [mCm_o (by decide)]
      refine mx_iast (k := 46) (n := i) r M d147_39 rfl rfl rfl (by show i < 11; omega) (fun hh r => ?_)
      refine ie_iinc (nI (i + 1)) d147_40 l2 (nI_1 _) (by decide) ?_
      refine ie_goto 17 d147_43 (by decide) ?_
      exact ih (i + 1) (by omega) (by omega) hh (by rw [← mCm_s]; exact r) _ (ix_lk3 (by decide) l0 rfl) (ix_lk3 (by decide) l1 rfl) ix_lk1
set_option maxRecDepth 100000 in
set_option maxHeartbeats 4000000 in
/-- deliver -/
theorem s147y {G : ix_G} {h : ix_H} {o : Nat} {S : MS} (M : md_ok h o) (hS : ms h o = S) {u : Nat} (hu : S 44 0 = nI u) (hu24 : u ≤ 24) {k to t : Nat} {Q : MS} (hk : k < u) (hto : S 45 (11 * k + 1) = nI to) (hto2 : to < 2) (htt : S 45 (11 * k + 2) = nI t) (ht : t < 640)
    (hs : t / 320 = to → ∀ h1, md_ok h1 o → ms h1 o = mArr (m0 S) u k → ix_E G 150 0 (lv_args 0 [.ref o, .int (nI t)]) [] h1 (fun rv h' => rv = none ∧ mR o h1 h' Q))
    (hr : ¬ t / 320 = to → ∀ h1, md_ok h1 o → ms h1 o = mArr (m0 S) u k → ix_E G 152 0 (lv_args 0 [.ref o, .int (nI to), .int (nI t)]) [] h1 (fun rv h' => rv = none ∧ mR o h1 h' Q)) : ix_E G 147 0 (lv_args 0 [.ref o, .int (nI k)]) [] h (fun rv h' => rv = some (.int 1) ∧ mR o h h' (Q)) := by
  have r : mR o h h S := mR.rf hS
  refine ie_aload_n d147_0 rfl ?_
  refine ie_iconst (nI 0) d147_1 (by decide) ?_
  refine mx_puti r M d147_2 fl17_144 rfl rfl rfl (fun hh r => ?_)
  refine ie_aload_n d147_5 rfl ?_
  refine ie_iload_n d147_6 rfl ?_
  refine mx_ask r M [_] d147_7 ok148 rm147_148 cl17_249 rfl rfl (Nat.le_of_ble_eq_true rfl) (Nat.le_of_ble_eq_true rfl) (s148 (r.ok M) _) ?_
  rw [r.2.2, mset_k (by decide), hu]
  refine ie_if_ne 15 d147_10 (by decide) (fun c10 => ?_) (fun c10 => ?_)
  · skip
    refine ie_iconst (nI 0) d147_15 (by decide) ?_
    refine ie_istore_n d147_16 (by decide) ?_
    exact s147_l (S := m0 S) M (by show mset S 3 0 (nI 0) 44 0 = nI u; rw [mset_k (by decide)]; exact hu) hu24 hk (by show mset S 3 0 (nI 0) 45 _ = _; rw [mset_k (by decide)]; exact hto) hto2 (by show mset S 3 0 (nI 0) 45 _ = _; rw [mset_k (by decide)]; exact htt) ht hs hr 12 0 (by omega) (by omega) hh (by rw [mCm_0]; exact r) _ rfl rfl rfl
  · skip
    exact absurd (fl_y hk hu24) ((bI_0).mp c10)
