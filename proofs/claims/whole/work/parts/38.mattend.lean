/-- a receiver's timers -/
def mAtt (S : MS) (u t p n k0 c : Nat) : MS :=
  if S 23 t = nI 6 then
    if S 0 0 ≤ S 2 0 - S 30 p then (if S 29 p = nI 3 then mShut S t (S 26 p) p k0 c else mTell S u t p) else S
  else if S 37 p = 0 then (if S 2 0 - S 31 p < nI 4 * S 0 0 then S else mShut S t (nI 3) p k0 c)
  else if S 8 t = nI 1 then (if S 2 0 - S 30 p < nI 2 * S 0 0 then S else mShut S t (nI 3) p k0 c)
  else if S 2 0 - S 30 p < S 0 0 then S
  else if S 29 p = nI 3 then mFin S u t p k0 c (nI 3) (nI 2) else mNak S u t p n
set_option maxRecDepth 100000 in
set_option maxHeartbeats 4000000 in
/-- attend -/
theorem s141 {G : ix_G} {h : ix_H} {o : Nat} {S : MS} (M : md_ok h o) (hS : ms h o = S) {t p n u k0 c : Nat} (ht : t < 640) (hp : S 25 t = nI p) (hp6 : p < 6) (hn : ¬ S 37 p = 0 → S 27 p = nI n) (hn64 : n ≤ 64) (hu : S 44 0 = nI u) (hu24 : u ≤ 24) (hH : mHas 41 43 S (1 - t / 320) k0 c t) : ix_E G 141 0 (lv_args 0 [.ref o, .int (nI t)]) [] h (fun rv h' => rv = none ∧ mR o h h' (mAtt S u t p n k0 c)) := by
  have r : mR o h h S := mR.rf hS
  unfold mAtt
  refine ie_aload_n d141_0 rfl ?_
  refine mx_getr r M d141_1 fl17_23 rfl ?_
  refine ie_iload_n d141_4 rfl ?_
  refine mx_iald (k := 8) (n := t) r M d141_5 rfl rfl rfl (by show t < 640; exact ht) ?_
  refine ie_istore_n d141_6 (by decide) ?_
  refine ie_aload_n d141_7 rfl ?_
  refine mx_getr r M d141_8 fl17_68 rfl ?_
  refine ie_iload_n d141_11 rfl ?_
  refine mx_iald (k := 23) (n := t) r M d141_12 rfl rfl rfl (by show t < 640; exact ht) ?_
  refine ie_bipush (nI 6) d141_13 (by decide) ?_
  refine ie_icmp_ne 84 d141_15 (by decide) (fun c15 => ?_) (fun c15 => ?_)
  · skip
    rw [if_neg c15]
    refine ie_aload_n d141_84 rfl ?_
    refine mx_getr r M d141_85 fl17_110 rfl ?_
    refine ie_aload_n d141_88 rfl ?_
    refine mx_getr r M d141_89 fl17_74 rfl ?_
    refine ie_iload_n d141_92 rfl ?_
    refine mx_iald (k := 25) (n := t) r M d141_93 rfl rfl rfl (by show t < 640; exact ht) ?_
    rw [hp]
    refine mx_zald (k := 37) (n := p) r M d141_94 rfl rfl rfl (by show p < 6; exact hp6) ?_
    refine ie_if_ne 132 d141_95 (by decide) (fun c95 => ?_) (fun c95 => ?_)
    · skip
      rw [if_neg c95]
      refine ie_iload_n d141_132 rfl ?_
      refine ie_iconst (nI 1) d141_133 (by decide) ?_
      refine ie_icmp_ne 171 d141_134 (by decide) (fun c134 => ?_) (fun c134 => ?_)
      · skip
        rw [if_neg c134]
        refine ie_aload_n d141_171 rfl ?_
        refine mx_geti r M d141_172 fl17_234 rfl ?_
        refine ie_aload_n d141_175 rfl ?_
        refine mx_getr r M d141_176 fl17_89 rfl ?_
        refine ie_aload_n d141_179 rfl ?_
        refine mx_getr r M d141_180 fl17_74 rfl ?_
        refine ie_iload_n d141_183 rfl ?_
        refine mx_iald (k := 25) (n := t) r M d141_184 rfl rfl rfl (by show t < 640; exact ht) ?_
        rw [hp]
        refine mx_iald (k := 30) (n := p) r M d141_185 rfl rfl rfl (by show p < 6; exact hp6) ?_
        refine ie_isub d141_186 ?_
        refine ie_aload_n d141_187 rfl ?_
        refine mx_geti r M d141_188 fl17_140 rfl ?_
        refine ie_icmp_lt 224 d141_191 (by decide) (fun c191 => ?_) (fun c191 => ?_)
        · skip
          rw [if_pos c191]
          exact ie_vret d141_224 rfl ⟨rfl, r⟩
        · skip
          rw [if_neg c191]
          refine ie_aload_n d141_194 rfl ?_
          refine mx_getr r M d141_195 fl17_86 rfl ?_
          refine ie_aload_n d141_198 rfl ?_
          refine mx_getr r M d141_199 fl17_74 rfl ?_
          refine ie_iload_n d141_202 rfl ?_
          refine mx_iald (k := 25) (n := t) r M d141_203 rfl rfl rfl (by show t < 640; exact ht) ?_
          rw [hp]
          refine mx_iald (k := 29) (n := p) r M d141_204 rfl rfl rfl (by show p < 6; exact hp6) ?_
          refine ie_iconst (nI 3) d141_205 (by decide) ?_
          refine ie_icmp_ne 219 d141_206 (by decide) (fun c206 => ?_) (fun c206 => ?_)
          · skip
            rw [if_neg c206]
            refine ie_aload_n d141_219 rfl ?_
            refine ie_iload_n d141_220 rfl ?_
            refine mx_call r M [_] d141_221 ok145 rm141_145 cl17_228 rfl rfl (Nat.le_of_ble_eq_true rfl) (Nat.le_of_ble_eq_true rfl) (s145 (r.ok M) r.2.2 ht hp hp6 (hn c95) hn64 hu hu24) (fun hh r => ?_)
            exact ie_vret d141_224 rfl ⟨rfl, r⟩
          · skip
            rw [if_pos c206]
            refine ie_aload_n d141_209 rfl ?_
            refine ie_iload_n d141_210 rfl ?_
            refine ie_iconst (nI 3) d141_211 (by decide) ?_
            refine ie_iconst (nI 2) d141_212 (by decide) ?_
            refine mx_call r M [_, _, _] d141_213 ok144 rm141_144 cl17_218 rfl rfl (Nat.le_of_ble_eq_true rfl) (Nat.le_of_ble_eq_true rfl) (s144 (r.ok M) r.2.2 ht hp hp6 hu hu24 _ _ (fun _ => hH)) (fun hh r => ?_)
            refine ie_goto 224 d141_216 (by decide) ?_
            exact ie_vret d141_224 rfl ⟨rfl, r⟩
      · skip
        rw [if_pos c134]
        refine ie_aload_n d141_137 rfl ?_
        refine mx_geti r M d141_138 fl17_234 rfl ?_
        refine ie_aload_n d141_141 rfl ?_
        refine mx_getr r M d141_142 fl17_89 rfl ?_
        refine ie_aload_n d141_145 rfl ?_
        refine mx_getr r M d141_146 fl17_74 rfl ?_
        refine ie_iload_n d141_149 rfl ?_
        refine mx_iald (k := 25) (n := t) r M d141_150 rfl rfl rfl (by show t < 640; exact ht) ?_
        rw [hp]
        refine mx_iald (k := 30) (n := p) r M d141_151 rfl rfl rfl (by show p < 6; exact hp6) ?_
        refine ie_isub d141_152 ?_
        refine ie_iconst (nI 2) d141_153 (by decide) ?_
        refine ie_aload_n d141_154 rfl ?_
        refine mx_geti r M d141_155 fl17_140 rfl ?_
        refine ie_imul d141_158 ?_
        refine ie_icmp_lt 224 d141_159 (by decide) (fun c159 => ?_) (fun c159 => ?_)
        · skip
          rw [if_pos c159]
          exact ie_vret d141_224 rfl ⟨rfl, r⟩
        · skip
          rw [if_neg c159]
          refine ie_aload_n d141_162 rfl ?_
          refine ie_iload_n d141_163 rfl ?_
          refine ie_iconst (nI 3) d141_164 (by decide) ?_
          refine mx_call r M [_, _] d141_165 ok142 rm141_142 cl17_209 rfl rfl (Nat.le_of_ble_eq_true rfl) (Nat.le_of_ble_eq_true rfl) (s142 (r.ok M) r.2.2 ht hp hp6 hH _) (fun hh r => ?_)
          refine ie_goto 224 d141_168 (by decide) ?_
          exact ie_vret d141_224 rfl ⟨rfl, r⟩
    · skip
      rw [if_pos c95]
      refine ie_aload_n d141_98 rfl ?_
      refine mx_geti r M d141_99 fl17_234 rfl ?_
      refine ie_aload_n d141_102 rfl ?_
      refine mx_getr r M d141_103 fl17_92 rfl ?_
      refine ie_aload_n d141_106 rfl ?_
      refine mx_getr r M d141_107 fl17_74 rfl ?_
      refine ie_iload_n d141_110 rfl ?_
      refine mx_iald (k := 25) (n := t) r M d141_111 rfl rfl rfl (by show t < 640; exact ht) ?_
      rw [hp]
      refine mx_iald (k := 31) (n := p) r M d141_112 rfl rfl rfl (by show p < 6; exact hp6) ?_
      refine ie_isub d141_113 ?_
      refine ie_iconst (nI 4) d141_114 (by decide) ?_
      refine ie_aload_n d141_115 rfl ?_
      refine mx_geti r M d141_116 fl17_140 rfl ?_
      refine ie_imul d141_119 ?_
      refine ie_icmp_lt 224 d141_120 (by decide) (fun c120 => ?_) (fun c120 => ?_)
      · skip
        rw [if_pos c120]
        exact ie_vret d141_224 rfl ⟨rfl, r⟩
      · skip
        rw [if_neg c120]
        refine ie_aload_n d141_123 rfl ?_
        refine ie_iload_n d141_124 rfl ?_
        refine ie_iconst (nI 3) d141_125 (by decide) ?_
        refine mx_call r M [_, _] d141_126 ok142 rm141_142 cl17_209 rfl rfl (Nat.le_of_ble_eq_true rfl) (Nat.le_of_ble_eq_true rfl) (s142 (r.ok M) r.2.2 ht hp hp6 hH _) (fun hh r => ?_)
        refine ie_goto 224 d141_129 (by decide) ?_
        exact ie_vret d141_224 rfl ⟨rfl, r⟩
  · skip
    rw [if_pos c15]
    refine ie_aload_n d141_18 rfl ?_
    refine mx_geti r M d141_19 fl17_234 rfl ?_
    refine ie_aload_n d141_22 rfl ?_
    refine mx_getr r M d141_23 fl17_89 rfl ?_
    refine ie_aload_n d141_26 rfl ?_
    refine mx_getr r M d141_27 fl17_74 rfl ?_
    refine ie_iload_n d141_30 rfl ?_
    refine mx_iald (k := 25) (n := t) r M d141_31 rfl rfl rfl (by show t < 640; exact ht) ?_
    rw [hp]
    refine mx_iald (k := 30) (n := p) r M d141_32 rfl rfl rfl (by show p < 6; exact hp6) ?_
    refine ie_isub d141_33 ?_
    refine ie_aload_n d141_34 rfl ?_
    refine mx_geti r M d141_35 fl17_140 rfl ?_
    refine ie_icmp_ge 42 d141_38 (by decide) (fun c38 => ?_) (fun c38 => ?_)
    · skip
      rw [if_pos c38]
      refine ie_aload_n d141_42 rfl ?_
      refine mx_getr r M d141_43 fl17_86 rfl ?_
      refine ie_aload_n d141_46 rfl ?_
      refine mx_getr r M d141_47 fl17_74 rfl ?_
      refine ie_iload_n d141_50 rfl ?_
      refine mx_iald (k := 25) (n := t) r M d141_51 rfl rfl rfl (by show t < 640; exact ht) ?_
      rw [hp]
      refine mx_iald (k := 29) (n := p) r M d141_52 rfl rfl rfl (by show p < 6; exact hp6) ?_
      refine ie_iconst (nI 3) d141_53 (by decide) ?_
      refine ie_icmp_ne 76 d141_54 (by decide) (fun c54 => ?_) (fun c54 => ?_)
      · skip
        rw [if_neg c54]
        refine ie_aload_n d141_76 rfl ?_
        refine ie_iload_n d141_77 rfl ?_
        refine mx_call r M [_] d141_78 ok143 rm141_143 cl17_231 rfl rfl (Nat.le_of_ble_eq_true rfl) (Nat.le_of_ble_eq_true rfl) (s143 (r.ok M) r.2.2 ht hp hp6 hu hu24) (fun hh r => ?_)
        refine ie_goto 224 d141_81 (by decide) ?_
        exact ie_vret d141_224 rfl ⟨rfl, r⟩
      · skip
        rw [if_pos c54]
        refine ie_aload_n d141_57 rfl ?_
        refine ie_iload_n d141_58 rfl ?_
        refine ie_aload_n d141_59 rfl ?_
        refine mx_getr r M d141_60 fl17_77 rfl ?_
        refine ie_aload_n d141_63 rfl ?_
        refine mx_getr r M d141_64 fl17_74 rfl ?_
        refine ie_iload_n d141_67 rfl ?_
        refine mx_iald (k := 25) (n := t) r M d141_68 rfl rfl rfl (by show t < 640; exact ht) ?_
        rw [hp]
        refine mx_iald (k := 26) (n := p) r M d141_69 rfl rfl rfl (by show p < 6; exact hp6) ?_
        refine mx_call r M [_, _] d141_70 ok142 rm141_142 cl17_209 rfl rfl (Nat.le_of_ble_eq_true rfl) (Nat.le_of_ble_eq_true rfl) (s142 (r.ok M) r.2.2 ht hp hp6 hH _) (fun hh r => ?_)
        refine ie_goto 224 d141_73 (by decide) ?_
        exact ie_vret d141_224 rfl ⟨rfl, r⟩
    · skip
      rw [if_neg c38]
      exact ie_vret d141_41 rfl ⟨rfl, r⟩
