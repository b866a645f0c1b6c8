set_option maxRecDepth 100000 in
set_option maxHeartbeats 4000000 in
/-- toReceiver of one that is closed -/
theorem s152z {G : ix_G} {h : ix_H} {o : Nat} {S : MS} (M : md_ok h o) (hS : ms h o = S) {e u t : Nat} (he : e < 2) (ht : t < 640) (hu : S 44 0 = nI u) (hu24 : u ≤ 24) (hz0 : ¬ S 23 t = 0) (hz5 : ¬ S 23 t = nI 5) (hz6 : ¬ S 23 t = nI 6) :
    ix_E G 152 0 (lv_args 0 [.ref o, .int (nI e), .int (nI t)]) [] h (fun rv h' => rv = none ∧ mR o h h' (if S 46 0 = nI 3 then (if S 46 6 = nI 2 then mSend S u (nI 5) (nI (1 - e)) (nI t) (nI 3) (nI 0) (nI 0) else S) else S)) := by
  have r : mR o h h S := mR.rf hS
  refine ie_aload_n d152_0 rfl ?_
  refine mx_getr r M d152_1 fl17_134 rfl ?_
  refine ie_iconst (nI 0) d152_4 (by decide) ?_
  refine mx_iald (k := 46) (n := 0) r M d152_5 rfl rfl rfl (by decide) ?_
  refine ie_istore_n d152_6 (by decide) ?_
  refine ie_iload_n d152_7 rfl ?_
  refine ie_iconst (nI 5) d152_8 (by decide) ?_
  refine ie_icmp_ne 40 d152_9 (by decide) (fun c9 => ?_) (fun c9 => ?_)
  · skip
    refine ie_aload_n d152_40 rfl ?_
    refine mx_getr r M d152_41 fl17_134 rfl ?_
    refine ie_bipush (nI 6) d152_44 (by decide) ?_
    refine mx_iald (k := 46) (n := 6) r M d152_46 rfl rfl rfl (by decide) ?_
    refine ie_istore d152_47 (by decide) ?_
    refine ie_aload_n d152_49 rfl ?_
    refine mx_getr r M d152_50 fl17_68 rfl ?_
    refine ie_iload_n d152_53 rfl ?_
    refine mx_iald (k := 23) (n := t) r M d152_54 rfl rfl rfl (by show t < 640; exact ht) ?_
    refine ie_if_ne 108 d152_55 (by decide) (fun c55 => ?_) (fun c55 => ?_)
    · skip
      refine ie_iload_n d152_108 rfl ?_
      refine ie_iconst (nI 3) d152_109 (by decide) ?_
      refine ie_icmp_ne 132 d152_110 (by decide) (fun c110 => ?_) (fun c110 => ?_)
      · skip
        rw [if_neg c110]
        refine ie_aload_n d152_132 rfl ?_
        refine mx_getr r M d152_133 fl17_68 rfl ?_
        refine ie_iload_n d152_136 rfl ?_
        refine mx_iald (k := 23) (n := t) r M d152_137 rfl rfl rfl (by show t < 640; exact ht) ?_
        refine ie_iconst (nI 5) d152_138 (by decide) ?_
        refine ie_icmp_eq 143 d152_139 (by decide) (fun c139 => ?_) (fun c139 => ?_)
        · skip
          exact absurd c139 hz5
        · skip
          exact ie_vret d152_142 rfl ⟨rfl, r⟩
      · skip
        rw [if_pos c110]
        refine ie_iload d152_113 rfl ?_
        refine ie_iconst (nI 2) d152_115 (by decide) ?_
        refine ie_icmp_ne 132 d152_116 (by decide) (fun c116 => ?_) (fun c116 => ?_)
        · skip
          rw [if_neg c116]
          refine ie_aload_n d152_132 rfl ?_
          refine mx_getr r M d152_133 fl17_68 rfl ?_
          refine ie_iload_n d152_136 rfl ?_
          refine mx_iald (k := 23) (n := t) r M d152_137 rfl rfl rfl (by show t < 640; exact ht) ?_
          refine ie_iconst (nI 5) d152_138 (by decide) ?_
          refine ie_icmp_eq 143 d152_139 (by decide) (fun c139 => ?_) (fun c139 => ?_)
          · skip
            exact absurd c139 hz5
          · skip
            exact ie_vret d152_142 rfl ⟨rfl, r⟩
        · skip
          rw [if_pos c116]
          refine ie_aload_n d152_119 rfl ?_
          refine ie_iconst (nI 5) d152_120 (by decide) ?_
          refine ie_iconst (nI 1) d152_121 (by decide) ?_
          refine ie_iload_n d152_122 rfl ?_
          refine ie_isub d152_123 ?_
          rw [pk_sub (by omega)]
          refine ie_iload_n d152_124 rfl ?_
          refine ie_iconst (nI 3) d152_125 (by decide) ?_
          refine ie_iconst (nI 0) d152_126 (by decide) ?_
          refine ie_iconst (nI 0) d152_127 (by decide) ?_
          refine mx_call r M [_, _, _, _, _, _] d152_128 ok136 rm152_136 cl17_177 rfl rfl (Nat.le_of_ble_eq_true rfl) (Nat.le_of_ble_eq_true rfl) (s136 (r.ok M) r.2.2 hu hu24 _ _ _ _ _ _) (fun hh r => ?_)
          refine ie_pop d152_131 rfl ?_
          refine ie_aload_n d152_132 rfl ?_
          refine mx_getr r M d152_133 fl17_68 rfl ?_
          refine ie_iload_n d152_136 rfl ?_
          refine mx_iald (k := 23) (n := t) r M d152_137 rfl rfl rfl (by show t < 640; exact ht) ?_
          rw [mSend_o (by decide) (by decide)]
          refine ie_iconst (nI 5) d152_138 (by decide) ?_
          refine ie_icmp_eq 143 d152_139 (by decide) (fun c139 => ?_) (fun c139 => ?_)
          · skip
            exact absurd c139 hz5
          · skip
            exact ie_vret d152_142 rfl ⟨rfl, r⟩
    · skip
      exact absurd c55 hz0
  · skip
    rw [if_neg (show ¬ S 46 0 = nI 3 by rw [c9]; decide)]
    refine ie_aload_n d152_12 rfl ?_
    refine mx_getr r M d152_13 fl17_68 rfl ?_
    refine ie_iload_n d152_16 rfl ?_
    refine mx_iald (k := 23) (n := t) r M d152_17 rfl rfl rfl (by show t < 640; exact ht) ?_
    refine ie_bipush (nI 6) d152_18 (by decide) ?_
    refine ie_icmp_ne 39 d152_20 (by decide) (fun c20 => ?_) (fun c20 => ?_)
    · skip
      exact ie_vret d152_39 rfl ⟨rfl, r⟩
    · skip
      exact absurd c20 hz6
theorem mToR_z {S : MS} {e u t p d ot n cs k0 c s cr : Nat} (hz0 : ¬ S 23 t = 0) (hz5 : ¬ S 23 t = nI 5) (hz6 : ¬ S 23 t = nI 6) : mToR S e u t p d ot n cs k0 c s cr = if S 46 0 = nI 3 then (if S 46 6 = nI 2 then mSend S u (nI 5) (nI (1 - e)) (nI t) (nI 3) (nI 0) (nI 0) else S) else S := by
  unfold mToR
  by_cases q : S 46 0 = nI 5
  · rw [if_pos q, if_neg hz6, if_neg (by rw [q]; decide)]
  · rw [if_neg q, if_neg hz0]
    unfold mT1
    split
    · split
      · unfold mT1b
        rw [mSend_o (by decide) (by decide), if_neg hz5]
      · unfold mT1b
        rw [if_neg hz5]
    · unfold mT1b
      rw [if_neg hz5]
