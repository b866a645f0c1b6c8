theorem mset_self {S : MS} {k j : Nat} (hk : mIs k = true) : mset S k j (S k j) = S := by
  funext k' j'
  by_cases e : k' = k
  · subst e
    rw [mset_if hk]
    split
    · rename_i q; rw [q]
    · rfl
  · rw [mset_k e]
set_option maxRecDepth 100000 in
set_option maxHeartbeats 4000000 in
/-- asked -/
theorem s151 {G : ix_G} {h : ix_H} {o : Nat} {S : MS} (M : md_ok h o) (hS : ms h o = S) {t f n gc : Nat} {A B : Nat → Nat} (ht : t < 640) (hfi : nI (6 * (t / 320)) + S 9 t = nI f) (hf : f < 12) (hl : S 5 f = nI n) (hn64 : n ≤ 64) (hG : mGaps S gc A B) : ix_E G 151 0 (lv_args 0 [.ref o, .int (nI t)]) [] h (fun rv h' => rv = none ∧ mR o h h' (mAsked S t n gc A B)) := by
  have r : mR o h h S := mR.rf hS
  refine ie_aload_n d151_0 rfl ?_
  refine mx_getr r M d151_1 fl17_134 rfl ?_
  refine ie_iconst (nI 3) d151_4 (by decide) ?_
  refine mx_iald (k := 46) (n := 3) r M d151_5 rfl rfl rfl (by decide) ?_
  refine ie_iconst (nI 1) d151_6 (by decide) ?_
  refine ie_icmp_ne 25 d151_7 (by decide) (fun c7 => ?_) (fun c7 => ?_)
  · skip
    have c8 : ¬ S 46 3 = 1 := c7
    unfold mAsked
    rw [if_neg c8]
    refine ie_aload_n d151_25 rfl ?_
    refine mx_getr r M d151_26 fl17_13 rfl ?_
    refine ie_aload_n d151_29 rfl ?_
    refine ie_iload_n d151_30 rfl ?_
    refine mx_ask r M [_] d151_31 ok131 rm151_131 cl17_181 rfl rfl (Nat.le_of_ble_eq_true rfl) (Nat.le_of_ble_eq_true rfl) (s131 (r.ok M) ht) ?_
    rw [r.2.2]
    first | rw [hfi] | rw [mset_k (by decide), hfi]
    refine mx_iald (k := 5) (n := f) r M d151_34 rfl rfl rfl (by show f < 12; exact hf) ?_
    rw [hl]
    refine ie_callSx [_] d151_35 ok132 rm151_132 cl17_164 rfl rfl (Nat.le_of_ble_eq_true rfl) (Nat.le_of_ble_eq_true rfl) (s132 _) ?_
    rw [seg_nI (by omega)]
    refine ie_istore_n d151_38 (by decide) ?_
    refine ie_iconst (nI 0) d151_39 (by decide) ?_
    refine ie_istore_n d151_40 (by decide) ?_
    exact s151_out (S := S) M ht (by omega) hG (gc + 1) 0 (by omega) (by omega) _ (by first | exact r | (show mR o h _ (mset S 19 t (S 19 t)); rw [mset_self rfl]; exact r)) _ rfl rfl rfl rfl
  · skip
    have c8 : S 46 3 = 1 := c7
    unfold mAsked
    rw [if_pos c8]
    refine ie_aload_n d151_10 rfl ?_
    refine mx_getr r M d151_11 fl17_56 rfl ?_
    refine ie_iload_n d151_14 rfl ?_
    refine ie_aload_n d151_15 rfl ?_
    refine mx_getr r M d151_16 fl17_56 rfl ?_
    refine ie_iload_n d151_19 rfl ?_
    refine mx_iald (k := 19) (n := t) r M d151_20 rfl rfl rfl (by show t < 640; exact ht) ?_
    refine ie_ldc (v := 65536) d151_21 lc_208 ?_
    refine ie_ior d151_23 ?_
    refine mx_iast (k := 19) (n := t) r M d151_24 rfl rfl rfl (by show t < 640; exact ht) (fun hh r => ?_)
    refine ie_aload_n d151_25 rfl ?_
    refine mx_getr r M d151_26 fl17_13 rfl ?_
    refine ie_aload_n d151_29 rfl ?_
    refine ie_iload_n d151_30 rfl ?_
    refine mx_ask r M [_] d151_31 ok131 rm151_131 cl17_181 rfl rfl (Nat.le_of_ble_eq_true rfl) (Nat.le_of_ble_eq_true rfl) (s131 (r.ok M) ht) ?_
    rw [r.2.2]
    first | rw [hfi] | rw [mset_k (by decide), hfi]
    refine mx_iald (k := 5) (n := f) r M d151_34 rfl rfl rfl (by show f < 12; exact hf) ?_
    rw [mset_k (by decide)]
    rw [hl]
    refine ie_callSx [_] d151_35 ok132 rm151_132 cl17_164 rfl rfl (Nat.le_of_ble_eq_true rfl) (Nat.le_of_ble_eq_true rfl) (s132 _) ?_
    rw [seg_nI (by omega)]
    refine ie_istore_n d151_38 (by decide) ?_
    refine ie_iconst (nI 0) d151_39 (by decide) ?_
    refine ie_istore_n d151_40 (by decide) ?_
    exact s151_out (S := S) M ht (by omega) hG (gc + 1) 0 (by omega) (by omega) _ (by first | exact r | (show mR o h _ (mset S 19 t (S 19 t)); rw [mset_self rfl]; exact r)) _ rfl rfl rfl rfl
theorem mRm_o {A B : Nat} {S : MS} {e k0 c q k j : Nat} (hA : k ≠ A) (hB : k ≠ B) : mRm A B S e k0 c q k j = S k j := by
  unfold mRm
  rw [if_neg (fun z => hA z.1), if_neg (fun z => hB z.1)]
theorem mKnown_of {S : MS} {e n c : Nat} (he : e < 2) (h1 : 1 ≤ n) (h2 : n ≤ c) (h3 : c ≤ 319) (hc : S 7 e = nI c) : mKnown S (nI e) (nI n) = nI (320 * e + n) := by
  unfold mKnown
  rw [cl2 (by omega), hc, if_pos]
  · rw [show (320 : Int32) = nI 320 from rfl, pk_mul, nI_add]
  · refine ⟨⟨nI_pos' (by omega), ?_⟩, ?_, ?_⟩
    · rw [show (1 : Int32) = nI 1 from rfl, nI_leI (by omega) (by omega)]; omega
    · rw [show (1 : Int32) = nI 1 from rfl, nI_leI (by omega) (by omega)]; omega
    · rw [nI_leI (by omega) (by omega)]; omega
/-- a transaction that there is -/
def mTx (S : MS) (t : Nat) : Prop := ∃ c, c ≤ 319 ∧ S 7 (t / 320) = nI c ∧ 1 ≤ t % 320 ∧ t % 320 ≤ c ∧ t < 640
def mTS2 (S : MS) (t n k0 c gc : Nat) (A B : Nat → Nat) : MS := if S 46 0 = nI 4 then mRm 40 42 (mset (mset S 18 t (S 16 t)) 13 t (S 46 3)) (t / 320) k0 c (c - 1) else if S 46 0 = nI 5 then (if S 15 t ≤ 0 then mset S 18 t (S 16 t) else mset (mset S 18 t (S 16 t)) 20 t (nI 1)) else if S 46 0 = nI 6 then (if S 15 t ≤ 0 ∨ ¬ S 21 t = 0 then mset S 18 t (S 16 t) else mAsked (mset S 18 t (S 16 t)) t n gc A B) else mset S 18 t (S 16 t)
def mTS1 (S : MS) (t n k0 c gc : Nat) (A B : Nat → Nat) : MS := if S 13 t = nI 5 then mTS2 S t n k0 c gc A B else S
def mToS (S : MS) (u t n k0 c gc : Nat) (A B : Nat → Nat) : MS := if S 8 t = nI 1 then S else mTS1 (if S 46 0 = nI 4 then mSend S u (nI 5) (nI (1 - t / 320)) (nI t) (nI 4) (nI 0) (nI 0) else S) t n k0 c gc A B
set_option maxRecDepth 100000 in
set_option maxHeartbeats 4000000 in
/-- toSender, behind the ACK of FINISHED -/
theorem s150_tail {G : ix_G} {h0 h : ix_H} {o : Nat} {S : MS} (M : md_ok h0 o) (r : mR o h0 h S) {t f n k0 c gc : Nat} {A B : Nat → Nat} (ht : t < 640) (hfi : nI (6 * (t / 320)) + S 9 t = nI f) (hf : f < 12) (hl : S 5 f = nI n) (hn64 : n ≤ 64) (hH : S 13 t = nI 5 → mHas 40 42 S (t / 320) k0 c t) (hG : S 46 0 = nI 6 → mGaps S gc A B) (lv : List (Nat × Value)) (l0 : lv.lookup 0 = some (.ref o)) (l1 : lv.lookup 1 = some (.int (nI t))) : ix_E G 150 53 lv [] h (fun rv h' => rv = none ∧ mR o h0 h' (mTS1 S t n k0 c gc A B)) := by
  refine ie_aload_n d150_53 l0 ?_
  refine mx_getr r M d150_54 fl17_38 rfl ?_
  refine ie_iload_n d150_57 l1 ?_
  refine mx_iald (k := 13) (n := t) r M d150_58 rfl rfl rfl (by show t < 640; exact ht) ?_
  refine ie_iconst (nI 5) d150_59 (by decide) ?_
  refine ie_icmp_eq 64 d150_60 (by decide) (fun c60 => ?_) (fun c60 => ?_)
  · skip
    unfold mTS1
    rw [if_pos c60]
    refine ie_aload_n d150_64 l0 ?_
    refine mx_getr r M d150_65 fl17_53 rfl ?_
    refine ie_iload_n d150_68 l1 ?_
    refine ie_aload_n d150_69 l0 ?_
    refine mx_getr r M d150_70 fl17_47 rfl ?_
    refine ie_iload_n d150_73 l1 ?_
    refine mx_iald (k := 16) (n := t) r M d150_74 rfl rfl rfl (by show t < 640; exact ht) ?_
    refine mx_iast (k := 18) (n := t) r M d150_75 rfl rfl rfl (by show t < 640; exact ht) (fun hh r => ?_)
    refine ie_aload_n d150_76 l0 ?_
    refine mx_getr r M d150_77 fl17_134 rfl ?_
    refine ie_iconst (nI 0) d150_80 (by decide) ?_
    refine mx_iald (k := 46) (n := 0) r M d150_81 rfl rfl rfl (by decide) ?_
    rw [mset_k (by decide)]
    refine ie_iconst (nI 4) d150_82 (by decide) ?_
    refine ie_icmp_ne 97 d150_83 (by decide) (fun c83 => ?_) (fun c83 => ?_)
    · skip
      unfold mTS2
      rw [if_neg c83]
      refine ie_aload_n d150_97 l0 ?_
      refine mx_getr r M d150_98 fl17_134 rfl ?_
      refine ie_iconst (nI 0) d150_101 (by decide) ?_
      refine mx_iald (k := 46) (n := 0) r M d150_102 rfl rfl rfl (by decide) ?_
      rw [mset_k (by decide)]
      refine ie_iconst (nI 5) d150_103 (by decide) ?_
      refine ie_icmp_ne 123 d150_104 (by decide) (fun c104 => ?_) (fun c104 => ?_)
      · skip
        first | rw [if_neg c104] | skip
        refine ie_aload_n d150_123 l0 ?_
        refine mx_getr r M d150_124 fl17_134 rfl ?_
        refine ie_iconst (nI 0) d150_127 (by decide) ?_
        refine mx_iald (k := 46) (n := 0) r M d150_128 rfl rfl rfl (by decide) ?_
        rw [mset_k (by decide)]
        refine ie_bipush (nI 6) d150_129 (by decide) ?_
        refine ie_icmp_ne 157 d150_131 (by decide) (fun c131 => ?_) (fun c131 => ?_)
        · skip
          first | rw [if_neg c131] | skip
          exact ie_vret d150_157 rfl ⟨rfl, r⟩
        · skip
          first | (exact absurd (c83.symm.trans c131) (by decide)) | (exact absurd (c104.symm.trans c131) (by decide)) | (
             skip
             rw [if_pos c131]
             refine ie_aload_n d150_134 l0 ?_
             refine mx_getr r M d150_135 fl17_44 rfl ?_
             refine ie_iload_n d150_138 l1 ?_
             refine mx_iald (k := 15) (n := t) r M d150_139 rfl rfl rfl (by show t < 640; exact ht) ?_
             rw [mset_k (by decide)]
             refine ie_if_le 157 d150_140 (by decide) (fun c140 => ?_) (fun c140 => ?_)
             · skip
               rw [if_pos (Or.inl c140)]
               exact ie_vret d150_157 rfl ⟨rfl, r⟩
             · skip
               skip
               refine ie_aload_n d150_143 l0 ?_
               refine mx_getr r M d150_144 fl17_62 rfl ?_
               refine ie_iload_n d150_147 l1 ?_
               refine mx_zald (k := 21) (n := t) r M d150_148 rfl rfl rfl (by show t < 640; exact ht) ?_
               rw [mset_k (by decide)]
               refine ie_if_ne 157 d150_149 (by decide) (fun c149 => ?_) (fun c149 => ?_)
               · skip
                 rw [if_pos (Or.inr c149)]
                 exact ie_vret d150_157 rfl ⟨rfl, r⟩
               · skip
                 rw [if_neg (fun z => z.elim c140 (fun y => y c149))]
                 refine ie_aload_n d150_152 l0 ?_
                 refine ie_iload_n d150_153 l1 ?_
                 refine mx_call r M [_] d150_154 ok151 rm150_151 cl17_205 rfl rfl (Nat.le_of_ble_eq_true rfl) (Nat.le_of_ble_eq_true rfl) (s151 (gc := gc) (A := A) (B := B) (r.ok M) r.2.2 ht (by rw [mset_k (by decide)]; exact hfi) hf (by rw [mset_k (by decide)]; exact hl) hn64 (by obtain ⟨a1, a2, a3⟩ := hG c131; exact ⟨a1, by rw [mset_k (by decide)]; exact a2, fun g hg => by rw [mset_k (by decide), mset_k (by decide)]; exact a3 g hg⟩)) (fun hh r => ?_)
                 exact ie_vret d150_157 rfl ⟨rfl, r⟩)
      · skip
        first | (exact absurd (c83.symm.trans c104) (by decide)) | (
           skip
           rw [if_pos c104]
           refine ie_aload_n d150_107 l0 ?_
           refine mx_getr r M d150_108 fl17_44 rfl ?_
           refine ie_iload_n d150_111 l1 ?_
           refine mx_iald (k := 15) (n := t) r M d150_112 rfl rfl rfl (by show t < 640; exact ht) ?_
           rw [mset_k (by decide)]
           refine ie_if_le 123 d150_113 (by decide) (fun c113 => ?_) (fun c113 => ?_)
           · skip
             rw [if_pos c113]
             refine ie_aload_n d150_123 l0 ?_
             refine mx_getr r M d150_124 fl17_134 rfl ?_
             refine ie_iconst (nI 0) d150_127 (by decide) ?_
             refine mx_iald (k := 46) (n := 0) r M d150_128 rfl rfl rfl (by decide) ?_
             rw [mset_k (by decide)]
             refine ie_bipush (nI 6) d150_129 (by decide) ?_
             refine ie_icmp_ne 157 d150_131 (by decide) (fun c131 => ?_) (fun c131 => ?_)
             · skip
               first | rw [if_neg c131] | skip
               exact ie_vret d150_157 rfl ⟨rfl, r⟩
             · skip
               first | (exact absurd (c83.symm.trans c131) (by decide)) | (exact absurd (c104.symm.trans c131) (by decide)) | (
                  skip
                  rw [if_pos c131]
                  refine ie_aload_n d150_134 l0 ?_
                  refine mx_getr r M d150_135 fl17_44 rfl ?_
                  refine ie_iload_n d150_138 l1 ?_
                  refine mx_iald (k := 15) (n := t) r M d150_139 rfl rfl rfl (by show t < 640; exact ht) ?_
                  rw [mset_k (by decide)]
                  refine ie_if_le 157 d150_140 (by decide) (fun c140 => ?_) (fun c140 => ?_)
                  · skip
                    rw [if_pos (Or.inl c140)]
                    exact ie_vret d150_157 rfl ⟨rfl, r⟩
                  · skip
                    skip
                    refine ie_aload_n d150_143 l0 ?_
                    refine mx_getr r M d150_144 fl17_62 rfl ?_
                    refine ie_iload_n d150_147 l1 ?_
                    refine mx_zald (k := 21) (n := t) r M d150_148 rfl rfl rfl (by show t < 640; exact ht) ?_
                    rw [mset_k (by decide)]
                    refine ie_if_ne 157 d150_149 (by decide) (fun c149 => ?_) (fun c149 => ?_)
                    · skip
                      rw [if_pos (Or.inr c149)]
                      exact ie_vret d150_157 rfl ⟨rfl, r⟩
                    · skip
                      rw [if_neg (fun z => z.elim c140 (fun y => y c149))]
                      refine ie_aload_n d150_152 l0 ?_
                      refine ie_iload_n d150_153 l1 ?_
                      refine mx_call r M [_] d150_154 ok151 rm150_151 cl17_205 rfl rfl (Nat.le_of_ble_eq_true rfl) (Nat.le_of_ble_eq_true rfl) (s151 (gc := gc) (A := A) (B := B) (r.ok M) r.2.2 ht (by rw [mset_k (by decide)]; exact hfi) hf (by rw [mset_k (by decide)]; exact hl) hn64 (by obtain ⟨a1, a2, a3⟩ := hG c131; exact ⟨a1, by rw [mset_k (by decide)]; exact a2, fun g hg => by rw [mset_k (by decide), mset_k (by decide)]; exact a3 g hg⟩)) (fun hh r => ?_)
                      exact ie_vret d150_157 rfl ⟨rfl, r⟩)
           · skip
             rw [if_neg c113]
             refine ie_aload_n d150_116 l0 ?_
             refine mx_getr r M d150_117 fl17_59 rfl ?_
             refine ie_iload_n d150_120 l1 ?_
             refine ie_iconst (nI 1) d150_121 (by decide) ?_
             refine mx_zast (k := 20) (n := t) r M d150_122 rfl rfl (by first | exact Or.inl rfl | exact Or.inr rfl | assumption | exact bI_01 _) rfl (by show t < 640; exact ht) (fun hh r => ?_)
             refine ie_aload_n d150_123 l0 ?_
             refine mx_getr r M d150_124 fl17_134 rfl ?_
             refine ie_iconst (nI 0) d150_127 (by decide) ?_
             refine mx_iald (k := 46) (n := 0) r M d150_128 rfl rfl rfl (by decide) ?_
             rw [mset_k (by decide)]
             rw [mset_k (by decide)]
             refine ie_bipush (nI 6) d150_129 (by decide) ?_
             refine ie_icmp_ne 157 d150_131 (by decide) (fun c131 => ?_) (fun c131 => ?_)
             · skip
               first | rw [if_neg c131] | skip
               exact ie_vret d150_157 rfl ⟨rfl, r⟩
             · skip
               first | (exact absurd (c83.symm.trans c131) (by decide)) | (exact absurd (c104.symm.trans c131) (by decide)) | (
                  skip
                  rw [if_pos c131]
                  refine ie_aload_n d150_134 l0 ?_
                  refine mx_getr r M d150_135 fl17_44 rfl ?_
                  refine ie_iload_n d150_138 l1 ?_
                  refine mx_iald (k := 15) (n := t) r M d150_139 rfl rfl rfl (by show t < 640; exact ht) ?_
                  rw [mset_k (by decide)]
                  rw [mset_k (by decide)]
                  refine ie_if_le 157 d150_140 (by decide) (fun c140 => ?_) (fun c140 => ?_)
                  · skip
                    rw [if_pos (Or.inl c140)]
                    exact ie_vret d150_157 rfl ⟨rfl, r⟩
                  · skip
                    skip
                    refine ie_aload_n d150_143 l0 ?_
                    refine mx_getr r M d150_144 fl17_62 rfl ?_
                    refine ie_iload_n d150_147 l1 ?_
                    refine mx_zald (k := 21) (n := t) r M d150_148 rfl rfl rfl (by show t < 640; exact ht) ?_
                    rw [mset_k (by decide)]
                    rw [mset_k (by decide)]
                    refine ie_if_ne 157 d150_149 (by decide) (fun c149 => ?_) (fun c149 => ?_)
                    · skip
                      rw [if_pos (Or.inr c149)]
                      exact ie_vret d150_157 rfl ⟨rfl, r⟩
                    · skip
                      rw [if_neg (fun z => z.elim c140 (fun y => y c149))]
                      refine ie_aload_n d150_152 l0 ?_
                      refine ie_iload_n d150_153 l1 ?_
                      refine mx_call r M [_] d150_154 ok151 rm150_151 cl17_205 rfl rfl (Nat.le_of_ble_eq_true rfl) (Nat.le_of_ble_eq_true rfl) (s151 (gc := gc) (A := A) (B := B) (r.ok M) r.2.2 ht (by rw [mset_k (by decide)]; exact hfi) hf (by rw [mset_k (by decide)]; exact hl) hn64 (by obtain ⟨a1, a2, a3⟩ := hG c131; exact ⟨a1, by rw [mset_k (by decide)]; exact a2, fun g hg => by rw [mset_k (by decide), mset_k (by decide)]; exact a3 g hg⟩)) (fun hh r => ?_)
                      exact ie_vret d150_157 rfl ⟨rfl, r⟩))
    · skip
      unfold mTS2
      rw [if_pos c83]
      refine ie_aload_n d150_86 l0 ?_
      refine ie_iload_n d150_87 l1 ?_
      refine ie_aload_n d150_88 l0 ?_
      refine mx_getr r M d150_89 fl17_134 rfl ?_
      refine ie_iconst (nI 3) d150_92 (by decide) ?_
      refine mx_iald (k := 46) (n := 3) r M d150_93 rfl rfl rfl (by decide) ?_
      rw [mset_k (by decide)]
      refine mx_call r M [_, _] d150_94 ok137 rm150_137 cl17_187 rfl rfl (Nat.le_of_ble_eq_true rfl) (Nat.le_of_ble_eq_true rfl) (s137 (r.ok M) r.2.2 ht (mHas_o (hH c60) (fun j => mset_k (by decide)) (fun j => mset_k (by decide))) _) (fun hh r => ?_)
      refine ie_aload_n d150_97 l0 ?_
      refine mx_getr r M d150_98 fl17_134 rfl ?_
      refine ie_iconst (nI 0) d150_101 (by decide) ?_
      refine mx_iald (k := 46) (n := 0) r M d150_102 rfl rfl rfl (by decide) ?_
      rw [mRm_o (by decide) (by decide)]
      rw [mset_k (by decide)]
      refine ie_iconst (nI 5) d150_103 (by decide) ?_
      refine ie_icmp_ne 123 d150_104 (by decide) (fun c104 => ?_) (fun c104 => ?_)
      · skip
        first | rw [if_neg c104] | skip
        refine ie_aload_n d150_123 l0 ?_
        refine mx_getr r M d150_124 fl17_134 rfl ?_
        refine ie_iconst (nI 0) d150_127 (by decide) ?_
        refine mx_iald (k := 46) (n := 0) r M d150_128 rfl rfl rfl (by decide) ?_
        rw [mRm_o (by decide) (by decide)]
        rw [mset_k (by decide)]
        refine ie_bipush (nI 6) d150_129 (by decide) ?_
        refine ie_icmp_ne 157 d150_131 (by decide) (fun c131 => ?_) (fun c131 => ?_)
        · skip
          first | rw [if_neg c131] | skip
          exact ie_vret d150_157 rfl ⟨rfl, r⟩
        · skip
          first | (exact absurd (c83.symm.trans c131) (by decide)) | (exact absurd (c104.symm.trans c131) (by decide)) | (
             skip
             rw [if_pos c131]
             refine ie_aload_n d150_134 l0 ?_
             refine mx_getr r M d150_135 fl17_44 rfl ?_
             refine ie_iload_n d150_138 l1 ?_
             refine mx_iald (k := 15) (n := t) r M d150_139 rfl rfl rfl (by show t < 640; exact ht) ?_
             rw [mRm_o (by decide) (by decide)]
             rw [mset_k (by decide)]
             refine ie_if_le 157 d150_140 (by decide) (fun c140 => ?_) (fun c140 => ?_)
             · skip
               rw [if_pos (Or.inl c140)]
               exact ie_vret d150_157 rfl ⟨rfl, r⟩
             · skip
               skip
               refine ie_aload_n d150_143 l0 ?_
               refine mx_getr r M d150_144 fl17_62 rfl ?_
               refine ie_iload_n d150_147 l1 ?_
               refine mx_zald (k := 21) (n := t) r M d150_148 rfl rfl rfl (by show t < 640; exact ht) ?_
               rw [mRm_o (by decide) (by decide)]
               rw [mset_k (by decide)]
               refine ie_if_ne 157 d150_149 (by decide) (fun c149 => ?_) (fun c149 => ?_)
               · skip
                 rw [if_pos (Or.inr c149)]
                 exact ie_vret d150_157 rfl ⟨rfl, r⟩
               · skip
                 rw [if_neg (fun z => z.elim c140 (fun y => y c149))]
                 refine ie_aload_n d150_152 l0 ?_
                 refine ie_iload_n d150_153 l1 ?_
                 refine mx_call r M [_] d150_154 ok151 rm150_151 cl17_205 rfl rfl (Nat.le_of_ble_eq_true rfl) (Nat.le_of_ble_eq_true rfl) (s151 (gc := gc) (A := A) (B := B) (r.ok M) r.2.2 ht (by rw [mset_k (by decide)]; exact hfi) hf (by rw [mset_k (by decide)]; exact hl) hn64 (by obtain ⟨a1, a2, a3⟩ := hG c131; exact ⟨a1, by rw [mset_k (by decide)]; exact a2, fun g hg => by rw [mset_k (by decide), mset_k (by decide)]; exact a3 g hg⟩)) (fun hh r => ?_)
                 exact ie_vret d150_157 rfl ⟨rfl, r⟩)
      · skip
        first | (exact absurd (c83.symm.trans c104) (by decide)) | (
           skip
           rw [if_pos c104]
           refine ie_aload_n d150_107 l0 ?_
           refine mx_getr r M d150_108 fl17_44 rfl ?_
           refine ie_iload_n d150_111 l1 ?_
           refine mx_iald (k := 15) (n := t) r M d150_112 rfl rfl rfl (by show t < 640; exact ht) ?_
           rw [mRm_o (by decide) (by decide)]
           rw [mset_k (by decide)]
           refine ie_if_le 123 d150_113 (by decide) (fun c113 => ?_) (fun c113 => ?_)
           · skip
             rw [if_pos c113]
             refine ie_aload_n d150_123 l0 ?_
             refine mx_getr r M d150_124 fl17_134 rfl ?_
             refine ie_iconst (nI 0) d150_127 (by decide) ?_
             refine mx_iald (k := 46) (n := 0) r M d150_128 rfl rfl rfl (by decide) ?_
             rw [mRm_o (by decide) (by decide)]
             rw [mset_k (by decide)]
             refine ie_bipush (nI 6) d150_129 (by decide) ?_
             refine ie_icmp_ne 157 d150_131 (by decide) (fun c131 => ?_) (fun c131 => ?_)
             · skip
               first | rw [if_neg c131] | skip
               exact ie_vret d150_157 rfl ⟨rfl, r⟩
             · skip
               first | (exact absurd (c83.symm.trans c131) (by decide)) | (exact absurd (c104.symm.trans c131) (by decide)) | (
                  skip
                  rw [if_pos c131]
                  refine ie_aload_n d150_134 l0 ?_
                  refine mx_getr r M d150_135 fl17_44 rfl ?_
                  refine ie_iload_n d150_138 l1 ?_
                  refine mx_iald (k := 15) (n := t) r M d150_139 rfl rfl rfl (by show t < 640; exact ht) ?_
                  rw [mRm_o (by decide) (by decide)]
                  rw [mset_k (by decide)]
                  refine ie_if_le 157 d150_140 (by decide) (fun c140 => ?_) (fun c140 => ?_)
                  · skip
                    rw [if_pos (Or.inl c140)]
                    exact ie_vret d150_157 rfl ⟨rfl, r⟩
                  · skip
                    skip
                    refine ie_aload_n d150_143 l0 ?_
                    refine mx_getr r M d150_144 fl17_62 rfl ?_
                    refine ie_iload_n d150_147 l1 ?_
                    refine mx_zald (k := 21) (n := t) r M d150_148 rfl rfl rfl (by show t < 640; exact ht) ?_
                    rw [mRm_o (by decide) (by decide)]
                    rw [mset_k (by decide)]
                    refine ie_if_ne 157 d150_149 (by decide) (fun c149 => ?_) (fun c149 => ?_)
                    · skip
                      rw [if_pos (Or.inr c149)]
                      exact ie_vret d150_157 rfl ⟨rfl, r⟩
                    · skip
                      rw [if_neg (fun z => z.elim c140 (fun y => y c149))]
                      refine ie_aload_n d150_152 l0 ?_
                      refine ie_iload_n d150_153 l1 ?_
                      refine mx_call r M [_] d150_154 ok151 rm150_151 cl17_205 rfl rfl (Nat.le_of_ble_eq_true rfl) (Nat.le_of_ble_eq_true rfl) (s151 (gc := gc) (A := A) (B := B) (r.ok M) r.2.2 ht (by rw [mset_k (by decide)]; exact hfi) hf (by rw [mset_k (by decide)]; exact hl) hn64 (by obtain ⟨a1, a2, a3⟩ := hG c131; exact ⟨a1, by rw [mset_k (by decide)]; exact a2, fun g hg => by rw [mset_k (by decide), mset_k (by decide)]; exact a3 g hg⟩)) (fun hh r => ?_)
                      exact ie_vret d150_157 rfl ⟨rfl, r⟩)
           · skip
             rw [if_neg c113]
             refine ie_aload_n d150_116 l0 ?_
             refine mx_getr r M d150_117 fl17_59 rfl ?_
             refine ie_iload_n d150_120 l1 ?_
             refine ie_iconst (nI 1) d150_121 (by decide) ?_
             refine mx_zast (k := 20) (n := t) r M d150_122 rfl rfl (by first | exact Or.inl rfl | exact Or.inr rfl | assumption | exact bI_01 _) rfl (by show t < 640; exact ht) (fun hh r => ?_)
             refine ie_aload_n d150_123 l0 ?_
             refine mx_getr r M d150_124 fl17_134 rfl ?_
             refine ie_iconst (nI 0) d150_127 (by decide) ?_
             refine mx_iald (k := 46) (n := 0) r M d150_128 rfl rfl rfl (by decide) ?_
             rw [mset_k (by decide)]
             rw [mRm_o (by decide) (by decide)]
             rw [mset_k (by decide)]
             refine ie_bipush (nI 6) d150_129 (by decide) ?_
             refine ie_icmp_ne 157 d150_131 (by decide) (fun c131 => ?_) (fun c131 => ?_)
             · skip
               first | rw [if_neg c131] | skip
               exact ie_vret d150_157 rfl ⟨rfl, r⟩
             · skip
               first | (exact absurd (c83.symm.trans c131) (by decide)) | (exact absurd (c104.symm.trans c131) (by decide)) | (
                  skip
                  rw [if_pos c131]
                  refine ie_aload_n d150_134 l0 ?_
                  refine mx_getr r M d150_135 fl17_44 rfl ?_
                  refine ie_iload_n d150_138 l1 ?_
                  refine mx_iald (k := 15) (n := t) r M d150_139 rfl rfl rfl (by show t < 640; exact ht) ?_
                  rw [mset_k (by decide)]
                  rw [mRm_o (by decide) (by decide)]
                  rw [mset_k (by decide)]
                  refine ie_if_le 157 d150_140 (by decide) (fun c140 => ?_) (fun c140 => ?_)
                  · skip
                    rw [if_pos (Or.inl c140)]
                    exact ie_vret d150_157 rfl ⟨rfl, r⟩
                  · skip
                    skip
                    refine ie_aload_n d150_143 l0 ?_
                    refine mx_getr r M d150_144 fl17_62 rfl ?_
                    refine ie_iload_n d150_147 l1 ?_
                    refine mx_zald (k := 21) (n := t) r M d150_148 rfl rfl rfl (by show t < 640; exact ht) ?_
                    rw [mset_k (by decide)]
                    rw [mRm_o (by decide) (by decide)]
                    rw [mset_k (by decide)]
                    refine ie_if_ne 157 d150_149 (by decide) (fun c149 => ?_) (fun c149 => ?_)
                    · skip
                      rw [if_pos (Or.inr c149)]
                      exact ie_vret d150_157 rfl ⟨rfl, r⟩
                    · skip
                      rw [if_neg (fun z => z.elim c140 (fun y => y c149))]
                      refine ie_aload_n d150_152 l0 ?_
                      refine ie_iload_n d150_153 l1 ?_
                      refine mx_call r M [_] d150_154 ok151 rm150_151 cl17_205 rfl rfl (Nat.le_of_ble_eq_true rfl) (Nat.le_of_ble_eq_true rfl) (s151 (gc := gc) (A := A) (B := B) (r.ok M) r.2.2 ht (by rw [mset_k (by decide)]; exact hfi) hf (by rw [mset_k (by decide)]; exact hl) hn64 (by obtain ⟨a1, a2, a3⟩ := hG c131; exact ⟨a1, by rw [mset_k (by decide)]; exact a2, fun g hg => by rw [mset_k (by decide), mset_k (by decide)]; exact a3 g hg⟩)) (fun hh r => ?_)
                      exact ie_vret d150_157 rfl ⟨rfl, r⟩))
  · skip
    unfold mTS1
    rw [if_neg c60]
    exact ie_vret d150_63 rfl ⟨rfl, r⟩
