/-- a unit with its class at the seventh place -/
def mSendT (S : MS) (u : Nat) (kind to t a b c ty : Int32) : MS := if u = 24 then S else mset (mSend S u kind to t a b c) 45 (11 * u + 6) ty
theorem mSendT_o {S : MS} {u : Nat} {kind to t a b c ty : Int32} {k j : Nat} (h45 : k ≠ 45) (h44 : k ≠ 44) : mSendT S u kind to t a b c ty k j = S k j := by
  unfold mSendT
  split
  · rfl
  · rw [mset_k h45, mSend_o h45 h44]
theorem mSendT_u {S : MS} {u : Nat} {kind to t a b c ty : Int32} (hu : S 44 0 = nI u) (hu24 : u ≤ 24) : mSendT S u kind to t a b c ty 44 0 = nI (if u = 24 then 24 else u + 1) := by
  unfold mSendT
  split
  · rename_i e
    rw [hu, e]
  · rename_i e
    rw [mset_k (by decide), mSend_u hu hu24, if_neg e]
theorem mSend_24 {S : MS} {kind to t a b c : Int32} {u : Nat} (h : u = 24) : mSend S u kind to t a b c = S := if_pos h
theorem mSendT_24 {S : MS} {kind to t a b c ty : Int32} {u : Nat} (h : u = 24) : mSendT S u kind to t a b c ty = S := if_pos h
theorem mSendT_n {S : MS} {kind to t a b c ty : Int32} {u : Nat} (h : ¬ u = 24) : mSendT S u kind to t a b c ty = mset (mSend S u kind to t a b c) 45 (11 * u + 6) ty := if_neg h
def mMeta (S : MS) (u t : Nat) : MS := mSendT S u (nI 1) (nI (1 - t / 320)) (nI t) (S 10 t) (S 11 t) (S 12 t) (S 8 t)
/-- what a segment of file f (n bytes) holds -/
def mLen (n s : Nat) : Nat := if n - 4 * s < 4 then n - 4 * s else 4
def mData (S : MS) (u t f n s : Nat) : MS := mSendT S u (nI 2) (nI (1 - t / 320)) (nI t) (nI s) (nI (mLen n s)) (mWd S f n s 4) (S 8 t)
set_option maxRecDepth 100000 in
set_option maxHeartbeats 4000000 in
/-- sendMetadata -/
theorem s138 {G : ix_G} {h : ix_H} {o : Nat} {S : MS} (M : md_ok h o) (hS : ms h o = S) {t u : Nat} (ht : t < 640) (hu : S 44 0 = nI u) (hu24 : u ≤ 24) : ix_E G 138 0 (lv_args 0 [.ref o, .int (nI t)]) [] h (fun rv h' => rv = none ∧ mR o h h' (mMeta S u t)) := by
  have r : mR o h h S := mR.rf hS
  refine ie_aload_n d138_0 rfl ?_
  refine ie_iconst (nI 1) d138_1 (by decide) ?_
  refine ie_iconst (nI 1) d138_2 (by decide) ?_
  refine ie_iload_n d138_3 rfl ?_
  refine ie_sipush (nI 320) d138_4 (by decide) ?_
  refine ie_idiv d138_7 (by decide) ?_
  rw [pk_div (by omega) (by decide) (by decide)]
  refine ie_isub d138_8 ?_
  rw [pk_sub (by omega)]
  refine ie_iload_n d138_9 rfl ?_
  refine ie_aload_n d138_10 rfl ?_
  refine mx_getr r M d138_11 fl17_29 rfl ?_
  refine ie_iload_n d138_14 rfl ?_
  refine mx_iald (k := 10) (n := t) r M d138_15 rfl rfl rfl (by show t < 640; exact ht) ?_
  refine ie_aload_n d138_16 rfl ?_
  refine mx_getr r M d138_17 fl17_32 rfl ?_
  refine ie_iload_n d138_20 rfl ?_
  refine mx_iald (k := 11) (n := t) r M d138_21 rfl rfl rfl (by show t < 640; exact ht) ?_
  refine ie_aload_n d138_22 rfl ?_
  refine mx_getr r M d138_23 fl17_35 rfl ?_
  refine ie_iload_n d138_26 rfl ?_
  refine mx_iald (k := 12) (n := t) r M d138_27 rfl rfl rfl (by show t < 640; exact ht) ?_
  refine mx_call r M [_, _, _, _, _, _] d138_28 ok136 rm138_136 cl17_177 rfl rfl (Nat.le_of_ble_eq_true rfl) (Nat.le_of_ble_eq_true rfl) (s136 (r.ok M) r.2.2 hu hu24 _ _ _ _ _ _) (fun hh r => ?_)
  refine ie_if_eq 58 d138_31 (by decide) (fun c31 => ?_) (fun c31 => ?_)
  · skip
    rw [bI_0] at c31
    unfold mMeta
    rw [mSendT_24 (by omega)]
    rw [mSend_24 (by omega)] at r
    exact ie_vret d138_58 rfl ⟨rfl, r⟩
  · skip
    rw [bI_0, Classical.not_not] at c31
    unfold mMeta
    rw [mSendT_n (by omega)]
    refine ie_aload_n d138_34 rfl ?_
    refine mx_getr r M d138_35 fl17_131 rfl ?_
    refine ie_bipush (nI 11) d138_38 (by decide) ?_
    refine ie_aload_n d138_40 rfl ?_
    refine mx_geti r M d138_41 fl17_171 rfl ?_
    rw [mSend_u hu hu24, if_neg (by omega)]
    refine ie_imul d138_44 ?_
    rw [pk_mul]
    refine ie_bipush (nI 11) d138_45 (by decide) ?_
    refine ie_isub d138_47 ?_
    rw [pk_sub (by omega)]
    refine ie_bipush (nI 6) d138_48 (by decide) ?_
    refine ie_iadd d138_50 ?_
    rw [nI_add]
    refine ie_aload_n d138_51 rfl ?_
    refine mx_getr r M d138_52 fl17_23 rfl ?_
    refine ie_iload_n d138_55 rfl ?_
    refine mx_iald (k := 8) (n := t) r M d138_56 rfl rfl rfl (by show t < 640; exact ht) ?_
    rw [mSend_o (by decide) (by decide)]
    refine mx_iast (k := 45) (n := (11 * u + 6)) r M d138_57 rfl rfl (congrArg nI (by omega)) (by show 11 * u + 6 < 264; omega) (fun hh r => ?_)
    exact ie_vret d138_58 rfl ⟨rfl, r⟩
set_option maxRecDepth 100000 in
set_option maxHeartbeats 4000000 in
/-- sendData -/
theorem s139 {G : ix_G} {h : ix_H} {o : Nat} {S : MS} (M : md_ok h o) (hS : ms h o = S) {t u f n s : Nat} (ht : t < 640) (hu : S 44 0 = nI u) (hu24 : u ≤ 24) (hfi : nI (6 * (t / 320)) + S 9 t = nI f) (hf : f < 12) (hl : S 5 f = nI n) (hn64 : n ≤ 64) (hs : 4 * s < n) : ix_E G 139 0 (lv_args 0 [.ref o, .int (nI t), .int (nI s)]) [] h (fun rv h' => rv = none ∧ mR o h h' (mData S u t f n s)) := by
  have r : mR o h h S := mR.rf hS
  refine ie_aload_n d139_0 rfl ?_
  refine ie_iload_n d139_1 rfl ?_
  refine mx_ask r M [_] d139_2 ok131 rm139_131 cl17_181 rfl rfl (Nat.le_of_ble_eq_true rfl) (Nat.le_of_ble_eq_true rfl) (s131 (r.ok M) ht) ?_
  rw [r.2.2, hfi]
  refine ie_istore_n d139_5 (by decide) ?_
  refine ie_aload_n d139_6 rfl ?_
  refine mx_getr r M d139_7 fl17_13 rfl ?_
  refine ie_iload_n d139_10 rfl ?_
  refine mx_iald (k := 5) (n := f) r M d139_11 rfl rfl rfl (by show f < 12; exact hf) ?_
  rw [hl]
  refine ie_iconst (nI 4) d139_12 (by decide) ?_
  refine ie_iload_n d139_13 rfl ?_
  refine ie_imul d139_14 ?_
  rw [pk_mul]
  refine ie_isub d139_15 ?_
  rw [pk_sub (by omega)]
  refine ie_iconst (nI 4) d139_16 (by decide) ?_
  refine ie_icmp_ge 33 d139_17 (by decide) (fun c17 => ?_) (fun c17 => ?_)
  · skip
    rw [nI_leI (by omega) (by omega)] at c17
    have hm : mLen n s = 4 := if_neg (by omega)
    refine ie_iconst (nI 4) d139_33 (by decide) ?_
    refine ie_istore d139_34 (by decide) ?_
    refine ie_aload_n d139_36 rfl ?_
    refine ie_iconst (nI 2) d139_37 (by decide) ?_
    refine ie_iconst (nI 1) d139_38 (by decide) ?_
    refine ie_iload_n d139_39 rfl ?_
    refine ie_sipush (nI 320) d139_40 (by decide) ?_
    refine ie_idiv d139_43 (by decide) ?_
    rw [pk_div (by omega) (by decide) (by decide)]
    refine ie_isub d139_44 ?_
    rw [pk_sub (by omega)]
    refine ie_iload_n d139_45 rfl ?_
    refine ie_iload_n d139_46 rfl ?_
    refine ie_iload d139_47 rfl ?_
    refine ie_aload_n d139_49 rfl ?_
    refine ie_iload_n d139_50 rfl ?_
    refine ie_iload_n d139_51 rfl ?_
    refine mx_ask r M [_, _] d139_52 ok135 rm139_135 cl17_167 rfl rfl (Nat.le_of_ble_eq_true rfl) (Nat.le_of_ble_eq_true rfl) (s135 (r.ok M) r.2.2 hf hn64 (by omega) hl) ?_
    refine mx_call r M [_, _, _, _, _, _] d139_55 ok136 rm139_136 cl17_177 rfl rfl (Nat.le_of_ble_eq_true rfl) (Nat.le_of_ble_eq_true rfl) (s136 (r.ok M) r.2.2 hu hu24 _ _ _ _ _ _) (fun hh r => ?_)
    refine ie_if_eq 85 d139_58 (by decide) (fun c58 => ?_) (fun c58 => ?_)
    · skip
      rw [bI_0] at c58
      unfold mData
      rw [mSendT_24 (by omega)]
      rw [mSend_24 (by omega)] at r
      exact ie_vret d139_85 rfl ⟨rfl, r⟩
    · skip
      rw [bI_0, Classical.not_not] at c58
      unfold mData
      rw [mSendT_n (by omega), hm]
      refine ie_aload_n d139_61 rfl ?_
      refine mx_getr r M d139_62 fl17_131 rfl ?_
      refine ie_bipush (nI 11) d139_65 (by decide) ?_
      refine ie_aload_n d139_67 rfl ?_
      refine mx_geti r M d139_68 fl17_171 rfl ?_
      rw [mSend_u hu hu24, if_neg (by omega)]
      refine ie_imul d139_71 ?_
      rw [pk_mul]
      refine ie_bipush (nI 11) d139_72 (by decide) ?_
      refine ie_isub d139_74 ?_
      rw [pk_sub (by omega)]
      refine ie_bipush (nI 6) d139_75 (by decide) ?_
      refine ie_iadd d139_77 ?_
      rw [nI_add]
      refine ie_aload_n d139_78 rfl ?_
      refine mx_getr r M d139_79 fl17_23 rfl ?_
      refine ie_iload_n d139_82 rfl ?_
      refine mx_iald (k := 8) (n := t) r M d139_83 rfl rfl rfl (by show t < 640; exact ht) ?_
      rw [mSend_o (by decide) (by decide)]
      refine mx_iast (k := 45) (n := (11 * u + 6)) r M d139_84 rfl rfl (congrArg nI (by omega)) (by show 11 * u + 6 < 264; omega) (fun hh r => ?_)
      exact ie_vret d139_85 rfl ⟨rfl, r⟩
  · skip
    rw [nI_leI (by omega) (by omega)] at c17
    have hm : mLen n s = n - 4 * s := if_pos (by omega)
    refine ie_aload_n d139_20 rfl ?_
    refine mx_getr r M d139_21 fl17_13 rfl ?_
    refine ie_iload_n d139_24 rfl ?_
    refine mx_iald (k := 5) (n := f) r M d139_25 rfl rfl rfl (by show f < 12; exact hf) ?_
    rw [hl]
    refine ie_iconst (nI 4) d139_26 (by decide) ?_
    refine ie_iload_n d139_27 rfl ?_
    refine ie_imul d139_28 ?_
    rw [pk_mul]
    refine ie_isub d139_29 ?_
    rw [pk_sub (by omega)]
    refine ie_goto 34 d139_30 (by decide) ?_
    refine ie_istore d139_34 (by decide) ?_
    refine ie_aload_n d139_36 rfl ?_
    refine ie_iconst (nI 2) d139_37 (by decide) ?_
    refine ie_iconst (nI 1) d139_38 (by decide) ?_
    refine ie_iload_n d139_39 rfl ?_
    refine ie_sipush (nI 320) d139_40 (by decide) ?_
    refine ie_idiv d139_43 (by decide) ?_
    rw [pk_div (by omega) (by decide) (by decide)]
    refine ie_isub d139_44 ?_
    rw [pk_sub (by omega)]
    refine ie_iload_n d139_45 rfl ?_
    refine ie_iload_n d139_46 rfl ?_
    refine ie_iload d139_47 rfl ?_
    refine ie_aload_n d139_49 rfl ?_
    refine ie_iload_n d139_50 rfl ?_
    refine ie_iload_n d139_51 rfl ?_
    refine mx_ask r M [_, _] d139_52 ok135 rm139_135 cl17_167 rfl rfl (Nat.le_of_ble_eq_true rfl) (Nat.le_of_ble_eq_true rfl) (s135 (r.ok M) r.2.2 hf hn64 (by omega) hl) ?_
    refine mx_call r M [_, _, _, _, _, _] d139_55 ok136 rm139_136 cl17_177 rfl rfl (Nat.le_of_ble_eq_true rfl) (Nat.le_of_ble_eq_true rfl) (s136 (r.ok M) r.2.2 hu hu24 _ _ _ _ _ _) (fun hh r => ?_)
    refine ie_if_eq 85 d139_58 (by decide) (fun c58 => ?_) (fun c58 => ?_)
    · skip
      rw [bI_0] at c58
      unfold mData
      rw [mSendT_24 (by omega)]
      rw [mSend_24 (by omega)] at r
      exact ie_vret d139_85 rfl ⟨rfl, r⟩
    · skip
      rw [bI_0, Classical.not_not] at c58
      unfold mData
      rw [mSendT_n (by omega), hm]
      refine ie_aload_n d139_61 rfl ?_
      refine mx_getr r M d139_62 fl17_131 rfl ?_
      refine ie_bipush (nI 11) d139_65 (by decide) ?_
      refine ie_aload_n d139_67 rfl ?_
      refine mx_geti r M d139_68 fl17_171 rfl ?_
      rw [mSend_u hu hu24, if_neg (by omega)]
      refine ie_imul d139_71 ?_
      rw [pk_mul]
      refine ie_bipush (nI 11) d139_72 (by decide) ?_
      refine ie_isub d139_74 ?_
      rw [pk_sub (by omega)]
      refine ie_bipush (nI 6) d139_75 (by decide) ?_
      refine ie_iadd d139_77 ?_
      rw [nI_add]
      refine ie_aload_n d139_78 rfl ?_
      refine mx_getr r M d139_79 fl17_23 rfl ?_
      refine ie_iload_n d139_82 rfl ?_
      refine mx_iald (k := 8) (n := t) r M d139_83 rfl rfl rfl (by show t < 640; exact ht) ?_
      rw [mSend_o (by decide) (by decide)]
      refine mx_iast (k := 45) (n := (11 * u + 6)) r M d139_84 rfl rfl (congrArg nI (by omega)) (by show 11 * u + 6 < 264; omega) (fun hh r => ?_)
      exact ie_vret d139_85 rfl ⟨rfl, r⟩
theorem mHas_o {A B : Nat} {S S' : MS} {e k0 c t : Nat} (h : mHas A B S e k0 c t) (hA : ∀ j, S' A j = S A j) (hB : ∀ j, S' B j = S B j) : mHas A B S' e k0 c t := by
  obtain ⟨a1, a2, a3, a4, a5⟩ := h
  exact ⟨a1, a2, by rw [hB]; exact a3, by rw [hA]; exact a4, fun k hk => by rw [hA]; exact a5 k hk⟩
/-- END goes out; with class 1 the sender is closed -/
def mEnd1 (S : MS) (u t f n : Nat) : MS := mset (mset (mSendT S u (nI 3) (nI (1 - t / 320)) (nI t) (if S 21 t = 0 then nI n else -1) (if S 21 t = 0 then mCk S f n ((n + 3) / 4) else nI 0) (nI 0) (S 8 t)) 15 t (S 15 t + nI 1)) 17 t (S 16 t)
def mEnd (S : MS) (u t f n k0 c : Nat) : MS := if S 8 t = 1 then mRm 40 42 (mset (mEnd1 S u t f n) 13 t (if S 21 t = 0 then nI 1 else nI 2)) (t / 320) k0 c (c - 1) else mEnd1 S u t f n
set_option maxRecDepth 100000 in
set_option maxHeartbeats 4000000 in
/-- sendEnd, behind send -/
theorem s133_tail {G : ix_G} {h0 h : ix_H} {o : Nat} {S : MS} (M : md_ok h0 o) {t u f n k0 c : Nat} (ht : t < 640) (hH : S 8 t = 1 → mHas 40 42 S (t / 320) k0 c t) (lv : List (Nat × Value)) (l0 : lv.lookup 0 = some (.ref o)) (l1 : lv.lookup 1 = some (.int (nI t)))
    (r : mR o h0 h (mSendT S u (nI 3) (nI (1 - t / 320)) (nI t) (if S 21 t = 0 then nI n else -1) (if S 21 t = 0 then mCk S f n ((n + 3) / 4) else nI 0) (nI 0) (S 8 t))) : ix_E G 133 84 lv [] h (fun rv h' => rv = none ∧ mR o h0 h' (mEnd S u t f n k0 c)) := by
  refine ie_aload_n d133_84 l0 ?_
  refine mx_getr r M d133_85 fl17_44 rfl ?_
  refine ie_iload_n d133_88 l1 ?_
  refine ie_dup2 d133_89 rfl rfl ?_
  refine mx_iald (k := 15) (n := t) r M d133_90 rfl rfl rfl (by show t < 640; exact ht) ?_
  rw [mSendT_o (by decide) (by decide)]
  refine ie_iconst (nI 1) d133_91 (by decide) ?_
  refine ie_iadd d133_92 ?_
  refine mx_iast (k := 15) (n := t) r M d133_93 rfl rfl rfl (by show t < 640; exact ht) (fun hh r => ?_)
  refine ie_aload_n d133_94 l0 ?_
  refine mx_getr r M d133_95 fl17_50 rfl ?_
  refine ie_iload_n d133_98 l1 ?_
  refine ie_aload_n d133_99 l0 ?_
  refine mx_getr r M d133_100 fl17_47 rfl ?_
  refine ie_iload_n d133_103 l1 ?_
  refine mx_iald (k := 16) (n := t) r M d133_104 rfl rfl rfl (by show t < 640; exact ht) ?_
  rw [mset_k (by decide)]
  rw [mSendT_o (by decide) (by decide)]
  refine mx_iast (k := 17) (n := t) r M d133_105 rfl rfl rfl (by show t < 640; exact ht) (fun hh r => ?_)
  refine ie_aload_n d133_106 l0 ?_
  refine mx_getr r M d133_107 fl17_23 rfl ?_
  refine ie_iload_n d133_110 l1 ?_
  refine mx_iald (k := 8) (n := t) r M d133_111 rfl rfl rfl (by show t < 640; exact ht) ?_
  rw [mset_k (by decide)]
  rw [mset_k (by decide)]
  rw [mSendT_o (by decide) (by decide)]
  refine ie_iconst (nI 1) d133_112 (by decide) ?_
  refine ie_icmp_ne 135 d133_113 (by decide) (fun c113 => ?_) (fun c113 => ?_)
  · skip
    have c114 : ¬ S 8 t = 1 := c113
    unfold mEnd
    rw [if_neg c114]
    exact ie_vret d133_135 rfl ⟨rfl, r⟩
  · skip
    have c114 : S 8 t = 1 := c113
    unfold mEnd
    rw [if_pos c114]
    refine ie_aload_n d133_116 l0 ?_
    refine ie_iload_n d133_117 l1 ?_
    refine ie_aload_n d133_118 l0 ?_
    refine mx_getr r M d133_119 fl17_62 rfl ?_
    refine ie_iload_n d133_122 l1 ?_
    refine mx_zald (k := 21) (n := t) r M d133_123 rfl rfl rfl (by show t < 640; exact ht) ?_
    rw [mset_k (by decide)]
    rw [mset_k (by decide)]
    rw [mSendT_o (by decide) (by decide)]
    refine ie_if_eq 131 d133_124 (by decide) (fun c124 => ?_) (fun c124 => ?_)
    · skip
      rw [if_pos c124]
      refine ie_iconst (nI 1) d133_131 (by decide) ?_
      refine mx_call r M [_, _] d133_132 ok137 rm133_137 cl17_187 rfl rfl (Nat.le_of_ble_eq_true rfl) (Nat.le_of_ble_eq_true rfl) (s137 (r.ok M) r.2.2 ht (mHas_o (hH c114) (fun j => by rw [mset_k (by decide), mset_k (by decide), mSendT_o (by decide) (by decide)]) (fun j => by rw [mset_k (by decide), mset_k (by decide), mSendT_o (by decide) (by decide)])) _) (fun hh r => ?_)
      exact ie_vret d133_135 rfl ⟨rfl, r⟩
    · skip
      rw [if_neg c124]
      refine ie_iconst (nI 2) d133_127 (by decide) ?_
      refine ie_goto 132 d133_128 (by decide) ?_
      refine mx_call r M [_, _] d133_132 ok137 rm133_137 cl17_187 rfl rfl (Nat.le_of_ble_eq_true rfl) (Nat.le_of_ble_eq_true rfl) (s137 (r.ok M) r.2.2 ht (mHas_o (hH c114) (fun j => by rw [mset_k (by decide), mset_k (by decide), mSendT_o (by decide) (by decide)]) (fun j => by rw [mset_k (by decide), mset_k (by decide), mSendT_o (by decide) (by decide)])) _) (fun hh r => ?_)
      exact ie_vret d133_135 rfl ⟨rfl, r⟩
set_option maxRecDepth 100000 in
set_option maxHeartbeats 4000000 in
/-- sendEnd -/
theorem s133 {G : ix_G} {h : ix_H} {o : Nat} {S : MS} (M : md_ok h o) (hS : ms h o = S) {t u f n k0 c : Nat} (ht : t < 640) (hu : S 44 0 = nI u) (hu24 : u ≤ 24) (hfi : nI (6 * (t / 320)) + S 9 t = nI f) (hf : f < 12) (hl : S 5 f = nI n) (hn64 : n ≤ 64) (hH : S 8 t = 1 → mHas 40 42 S (t / 320) k0 c t) : ix_E G 133 0 (lv_args 0 [.ref o, .int (nI t)]) [] h (fun rv h' => rv = none ∧ mR o h h' (mEnd S u t f n k0 c)) := by
  have r : mR o h h S := mR.rf hS
  refine ie_aload_n d133_0 rfl ?_
  refine ie_iload_n d133_1 rfl ?_
  refine mx_ask r M [_] d133_2 ok131 rm133_131 cl17_181 rfl rfl (Nat.le_of_ble_eq_true rfl) (Nat.le_of_ble_eq_true rfl) (s131 (r.ok M) ht) ?_
  rw [r.2.2, hfi]
  refine ie_istore_n d133_5 (by decide) ?_
  refine ie_aload_n d133_6 rfl ?_
  refine ie_iconst (nI 3) d133_7 (by decide) ?_
  refine ie_iconst (nI 1) d133_8 (by decide) ?_
  refine ie_iload_n d133_9 rfl ?_
  refine ie_sipush (nI 320) d133_10 (by decide) ?_
  refine ie_idiv d133_13 (by decide) ?_
  rw [pk_div (by omega) (by decide) (by decide)]
  refine ie_isub d133_14 ?_
  rw [pk_sub (by omega)]
  refine ie_iload_n d133_15 rfl ?_
  refine ie_aload_n d133_16 rfl ?_
  refine mx_getr r M d133_17 fl17_62 rfl ?_
  refine ie_iload_n d133_20 rfl ?_
  refine mx_zald (k := 21) (n := t) r M d133_21 rfl rfl rfl (by show t < 640; exact ht) ?_
  refine ie_if_eq 29 d133_22 (by decide) (fun c22 => ?_) (fun c22 => ?_)
  · skip
    refine ie_aload_n d133_29 rfl ?_
    refine mx_getr r M d133_30 fl17_13 rfl ?_
    refine ie_iload_n d133_33 rfl ?_
    refine mx_iald (k := 5) (n := f) r M d133_34 rfl rfl rfl (by show f < 12; exact hf) ?_
    rw [hl]
    refine ie_aload_n d133_35 rfl ?_
    refine mx_getr r M d133_36 fl17_62 rfl ?_
    refine ie_iload_n d133_39 rfl ?_
    refine mx_zald (k := 21) (n := t) r M d133_40 rfl rfl rfl (by show t < 640; exact ht) ?_
    refine ie_if_eq 48 d133_41 (by decide) (fun c41 => ?_) (fun c41 => ?_)
    · skip
      refine ie_aload_n d133_48 rfl ?_
      refine ie_iload_n d133_49 rfl ?_
      refine mx_ask r M [_] d133_50 ok134 rm133_134 cl17_184 rfl rfl (Nat.le_of_ble_eq_true rfl) (Nat.le_of_ble_eq_true rfl) (s134 (r.ok M) r.2.2 hf hn64 hl) ?_
      refine ie_iconst (nI 0) d133_53 (by decide) ?_
      refine mx_call r M [_, _, _, _, _, _] d133_54 ok136 rm133_136 cl17_177 rfl rfl (Nat.le_of_ble_eq_true rfl) (Nat.le_of_ble_eq_true rfl) (s136 (r.ok M) r.2.2 hu hu24 _ _ _ _ _ _) (fun hh r => ?_)
      refine ie_if_eq 84 d133_57 (by decide) (fun c57 => ?_) (fun c57 => ?_)
      · skip
        rw [bI_0] at c57
        rw [mSend_24 (by omega)] at r
        exact s133_tail M ht hH _ rfl rfl (by first | exact absurd c41 c22 | exact absurd c22 c41 | (simp only [if_pos c22]; rw [mSendT_24 (by omega)]; exact r) | (simp only [if_neg c22]; rw [mSendT_24 (by omega)]; exact r) | (simp only [if_pos c22]; rw [mSendT_n (by omega)]; exact r) | (simp only [if_neg c22]; rw [mSendT_n (by omega)]; exact r))
      · skip
        rw [bI_0, Classical.not_not] at c57
        refine ie_aload_n d133_60 rfl ?_
        refine mx_getr r M d133_61 fl17_131 rfl ?_
        refine ie_bipush (nI 11) d133_64 (by decide) ?_
        refine ie_aload_n d133_66 rfl ?_
        refine mx_geti r M d133_67 fl17_171 rfl ?_
        rw [mSend_u hu hu24, if_neg (by omega)]
        refine ie_imul d133_70 ?_
        rw [pk_mul]
        refine ie_bipush (nI 11) d133_71 (by decide) ?_
        refine ie_isub d133_73 ?_
        rw [pk_sub (by omega)]
        refine ie_bipush (nI 6) d133_74 (by decide) ?_
        refine ie_iadd d133_76 ?_
        rw [nI_add]
        refine ie_aload_n d133_77 rfl ?_
        refine mx_getr r M d133_78 fl17_23 rfl ?_
        refine ie_iload_n d133_81 rfl ?_
        refine mx_iald (k := 8) (n := t) r M d133_82 rfl rfl rfl (by show t < 640; exact ht) ?_
        rw [mSend_o (by decide) (by decide)]
        refine mx_iast (k := 45) (n := (11 * u + 6)) r M d133_83 rfl rfl (congrArg nI (by omega)) (by show 11 * u + 6 < 264; omega) (fun hh r => ?_)
        exact s133_tail M ht hH _ rfl rfl (by first | exact absurd c41 c22 | exact absurd c22 c41 | (simp only [if_pos c22]; rw [mSendT_24 (by omega)]; exact r) | (simp only [if_neg c22]; rw [mSendT_24 (by omega)]; exact r) | (simp only [if_pos c22]; rw [mSendT_n (by omega)]; exact r) | (simp only [if_neg c22]; rw [mSendT_n (by omega)]; exact r))
    · skip
      refine ie_iconst (nI 0) d133_44 (by decide) ?_
      refine ie_goto 53 d133_45 (by decide) ?_
      refine ie_iconst (nI 0) d133_53 (by decide) ?_
      refine mx_call r M [_, _, _, _, _, _] d133_54 ok136 rm133_136 cl17_177 rfl rfl (Nat.le_of_ble_eq_true rfl) (Nat.le_of_ble_eq_true rfl) (s136 (r.ok M) r.2.2 hu hu24 _ _ _ _ _ _) (fun hh r => ?_)
      refine ie_if_eq 84 d133_57 (by decide) (fun c57 => ?_) (fun c57 => ?_)
      · skip
        rw [bI_0] at c57
        rw [mSend_24 (by omega)] at r
        exact s133_tail M ht hH _ rfl rfl (by first | exact absurd c41 c22 | exact absurd c22 c41 | (simp only [if_pos c22]; rw [mSendT_24 (by omega)]; exact r) | (simp only [if_neg c22]; rw [mSendT_24 (by omega)]; exact r) | (simp only [if_pos c22]; rw [mSendT_n (by omega)]; exact r) | (simp only [if_neg c22]; rw [mSendT_n (by omega)]; exact r))
      · skip
        rw [bI_0, Classical.not_not] at c57
        refine ie_aload_n d133_60 rfl ?_
        refine mx_getr r M d133_61 fl17_131 rfl ?_
        refine ie_bipush (nI 11) d133_64 (by decide) ?_
        refine ie_aload_n d133_66 rfl ?_
        refine mx_geti r M d133_67 fl17_171 rfl ?_
        rw [mSend_u hu hu24, if_neg (by omega)]
        refine ie_imul d133_70 ?_
        rw [pk_mul]
        refine ie_bipush (nI 11) d133_71 (by decide) ?_
        refine ie_isub d133_73 ?_
        rw [pk_sub (by omega)]
        refine ie_bipush (nI 6) d133_74 (by decide) ?_
        refine ie_iadd d133_76 ?_
        rw [nI_add]
        refine ie_aload_n d133_77 rfl ?_
        refine mx_getr r M d133_78 fl17_23 rfl ?_
        refine ie_iload_n d133_81 rfl ?_
        refine mx_iald (k := 8) (n := t) r M d133_82 rfl rfl rfl (by show t < 640; exact ht) ?_
        rw [mSend_o (by decide) (by decide)]
        refine mx_iast (k := 45) (n := (11 * u + 6)) r M d133_83 rfl rfl (congrArg nI (by omega)) (by show 11 * u + 6 < 264; omega) (fun hh r => ?_)
        exact s133_tail M ht hH _ rfl rfl (by first | exact absurd c41 c22 | exact absurd c22 c41 | (simp only [if_pos c22]; rw [mSendT_24 (by omega)]; exact r) | (simp only [if_neg c22]; rw [mSendT_24 (by omega)]; exact r) | (simp only [if_pos c22]; rw [mSendT_n (by omega)]; exact r) | (simp only [if_neg c22]; rw [mSendT_n (by omega)]; exact r))
  · skip
    refine ie_iconst (-1) d133_25 (by decide) ?_
    refine ie_goto 35 d133_26 (by decide) ?_
    refine ie_aload_n d133_35 rfl ?_
    refine mx_getr r M d133_36 fl17_62 rfl ?_
    refine ie_iload_n d133_39 rfl ?_
    refine mx_zald (k := 21) (n := t) r M d133_40 rfl rfl rfl (by show t < 640; exact ht) ?_
    refine ie_if_eq 48 d133_41 (by decide) (fun c41 => ?_) (fun c41 => ?_)
    · skip
      refine ie_aload_n d133_48 rfl ?_
      refine ie_iload_n d133_49 rfl ?_
      refine mx_ask r M [_] d133_50 ok134 rm133_134 cl17_184 rfl rfl (Nat.le_of_ble_eq_true rfl) (Nat.le_of_ble_eq_true rfl) (s134 (r.ok M) r.2.2 hf hn64 hl) ?_
      refine ie_iconst (nI 0) d133_53 (by decide) ?_
      refine mx_call r M [_, _, _, _, _, _] d133_54 ok136 rm133_136 cl17_177 rfl rfl (Nat.le_of_ble_eq_true rfl) (Nat.le_of_ble_eq_true rfl) (s136 (r.ok M) r.2.2 hu hu24 _ _ _ _ _ _) (fun hh r => ?_)
      refine ie_if_eq 84 d133_57 (by decide) (fun c57 => ?_) (fun c57 => ?_)
      · skip
        rw [bI_0] at c57
        rw [mSend_24 (by omega)] at r
        exact s133_tail M ht hH _ rfl rfl (by first | exact absurd c41 c22 | exact absurd c22 c41 | (simp only [if_pos c22]; rw [mSendT_24 (by omega)]; exact r) | (simp only [if_neg c22]; rw [mSendT_24 (by omega)]; exact r) | (simp only [if_pos c22]; rw [mSendT_n (by omega)]; exact r) | (simp only [if_neg c22]; rw [mSendT_n (by omega)]; exact r))
      · skip
        rw [bI_0, Classical.not_not] at c57
        refine ie_aload_n d133_60 rfl ?_
        refine mx_getr r M d133_61 fl17_131 rfl ?_
        refine ie_bipush (nI 11) d133_64 (by decide) ?_
        refine ie_aload_n d133_66 rfl ?_
        refine mx_geti r M d133_67 fl17_171 rfl ?_
        rw [mSend_u hu hu24, if_neg (by omega)]
        refine ie_imul d133_70 ?_
        rw [pk_mul]
        refine ie_bipush (nI 11) d133_71 (by decide) ?_
        refine ie_isub d133_73 ?_
        rw [pk_sub (by omega)]
        refine ie_bipush (nI 6) d133_74 (by decide) ?_
        refine ie_iadd d133_76 ?_
        rw [nI_add]
        refine ie_aload_n d133_77 rfl ?_
        refine mx_getr r M d133_78 fl17_23 rfl ?_
        refine ie_iload_n d133_81 rfl ?_
        refine mx_iald (k := 8) (n := t) r M d133_82 rfl rfl rfl (by show t < 640; exact ht) ?_
        rw [mSend_o (by decide) (by decide)]
        refine mx_iast (k := 45) (n := (11 * u + 6)) r M d133_83 rfl rfl (congrArg nI (by omega)) (by show 11 * u + 6 < 264; omega) (fun hh r => ?_)
        exact s133_tail M ht hH _ rfl rfl (by first | exact absurd c41 c22 | exact absurd c22 c41 | (simp only [if_pos c22]; rw [mSendT_24 (by omega)]; exact r) | (simp only [if_neg c22]; rw [mSendT_24 (by omega)]; exact r) | (simp only [if_pos c22]; rw [mSendT_n (by omega)]; exact r) | (simp only [if_neg c22]; rw [mSendT_n (by omega)]; exact r))
    · skip
      refine ie_iconst (nI 0) d133_44 (by decide) ?_
      refine ie_goto 53 d133_45 (by decide) ?_
      refine ie_iconst (nI 0) d133_53 (by decide) ?_
      refine mx_call r M [_, _, _, _, _, _] d133_54 ok136 rm133_136 cl17_177 rfl rfl (Nat.le_of_ble_eq_true rfl) (Nat.le_of_ble_eq_true rfl) (s136 (r.ok M) r.2.2 hu hu24 _ _ _ _ _ _) (fun hh r => ?_)
      refine ie_if_eq 84 d133_57 (by decide) (fun c57 => ?_) (fun c57 => ?_)
      · skip
        rw [bI_0] at c57
        rw [mSend_24 (by omega)] at r
        exact s133_tail M ht hH _ rfl rfl (by first | exact absurd c41 c22 | exact absurd c22 c41 | (simp only [if_pos c22]; rw [mSendT_24 (by omega)]; exact r) | (simp only [if_neg c22]; rw [mSendT_24 (by omega)]; exact r) | (simp only [if_pos c22]; rw [mSendT_n (by omega)]; exact r) | (simp only [if_neg c22]; rw [mSendT_n (by omega)]; exact r))
      · skip
        rw [bI_0, Classical.not_not] at c57
        refine ie_aload_n d133_60 rfl ?_
        refine mx_getr r M d133_61 fl17_131 rfl ?_
        refine ie_bipush (nI 11) d133_64 (by decide) ?_
        refine ie_aload_n d133_66 rfl ?_
        refine mx_geti r M d133_67 fl17_171 rfl ?_
        rw [mSend_u hu hu24, if_neg (by omega)]
        refine ie_imul d133_70 ?_
        rw [pk_mul]
        refine ie_bipush (nI 11) d133_71 (by decide) ?_
        refine ie_isub d133_73 ?_
        rw [pk_sub (by omega)]
        refine ie_bipush (nI 6) d133_74 (by decide) ?_
        refine ie_iadd d133_76 ?_
        rw [nI_add]
        refine ie_aload_n d133_77 rfl ?_
        refine mx_getr r M d133_78 fl17_23 rfl ?_
        refine ie_iload_n d133_81 rfl ?_
        refine mx_iald (k := 8) (n := t) r M d133_82 rfl rfl rfl (by show t < 640; exact ht) ?_
        rw [mSend_o (by decide) (by decide)]
        refine mx_iast (k := 45) (n := (11 * u + 6)) r M d133_83 rfl rfl (congrArg nI (by omega)) (by show 11 * u + 6 < 264; omega) (fun hh r => ?_)
        exact s133_tail M ht hH _ rfl rfl (by first | exact absurd c41 c22 | exact absurd c22 c41 | (simp only [if_pos c22]; rw [mSendT_24 (by omega)]; exact r) | (simp only [if_neg c22]; rw [mSendT_24 (by omega)]; exact r) | (simp only [if_pos c22]; rw [mSendT_n (by omega)]; exact r) | (simp only [if_neg c22]; rw [mSendT_n (by omega)]; exact r))
