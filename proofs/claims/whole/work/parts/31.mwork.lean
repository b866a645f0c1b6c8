theorem lc_204 : Cond.constant "FileDeliveryModel" 204 65535 ∈ ix_words := ix_in 1200 (by decide +kernel) (by decide +kernel)
theorem lc_208 : Cond.constant "FileDeliveryModel" 208 65536 ∈ ix_words := ix_in 1245 (by decide +kernel) (by decide +kernel)
/-- bit s of a row of repairs -/
def rb (x : Int32) (s : Nat) : Prop := ¬ ((x >>> (nI s &&& 31)) &&& nI 1) = 0
def mRepM (S : MS) (u t : Nat) : MS := mMeta (mset S 19 t (S 19 t &&& 65535)) u t
def mRepD (S : MS) (u t f n s : Nat) : MS := mData (mset S 19 t (S 19 t &&& ((nI 1 <<< (nI s &&& 31)) ^^^ (-1)))) u t f n s
def mRep (S : MS) (u t f n s : Nat) : MS := if (S 19 t >>> (nI 16 &&& 31)) &&& nI 1 = nI 1 then mRepM S u t else mRepD S u t f n s
set_option maxRecDepth 100000 in
set_option maxHeartbeats 4000000 in
/-- repair: the least segment -/
theorem s140_loop {G : ix_G} {h : ix_H} {o : Nat} {S : MS} (M : md_ok h o) (r : mR o h h S) {t u f n s0 : Nat} (ht : t < 640) (hu : S 44 0 = nI u) (hu24 : u ≤ 24) (hfi : nI (6 * (t / 320)) + S 9 t = nI f) (hf : f < 12) (hl : S 5 f = nI n) (hn64 : n ≤ 64) (hat : rb (S 19 t) s0) (hno : ∀ s, s < s0 → ¬ rb (S 19 t) s) (hs4 : 4 * s0 < n) :
    ∀ (z s : Nat), s ≤ s0 → s0 - s < z → ∀ (lv : List (Nat × Value)), lv.lookup 0 = some (.ref o) → lv.lookup 1 = some (.int (nI t)) → lv.lookup 2 = some (.int (nI s)) → ix_E G 140 38 lv [] h (fun rv h' => rv = none ∧ mR o h h' (mRepD S u t f n s0)) := by
  intro z
  induction z with
  | zero => intro s h1 h2; omega
  | succ z ih =>
    intro s hs1 hz lv l0 l1 l2
    refine ie_aload_n d140_38 l0 ?_
    refine mx_getr r M d140_39 fl17_56 rfl ?_
    refine ie_iload_n d140_42 l1 ?_
    refine mx_iald (k := 19) (n := t) r M d140_43 rfl rfl rfl (by show t < 640; exact ht) ?_
    refine ie_iload_n d140_44 l2 ?_
    refine ie_ishr d140_45 ?_
    refine ie_iconst (nI 1) d140_46 (by decide) ?_
    refine ie_iand d140_47 ?_
    refine ie_if_ne 57 d140_48 (by decide) (fun c48 => ?_) (fun c48 => ?_)
    · skip
      have hs2 : s = s0 := by
        rcases Nat.lt_or_ge s s0 with w | w
        · exact absurd c48 (hno s w)
        · omega
      subst hs2
      refine ie_aload_n d140_57 l0 ?_
      refine mx_getr r M d140_58 fl17_56 rfl ?_
      refine ie_iload_n d140_61 l1 ?_
      refine ie_aload_n d140_62 l0 ?_
      refine mx_getr r M d140_63 fl17_56 rfl ?_
      refine ie_iload_n d140_66 l1 ?_
      refine mx_iald (k := 19) (n := t) r M d140_67 rfl rfl rfl (by show t < 640; exact ht) ?_
      refine ie_iconst (nI 1) d140_68 (by decide) ?_
      refine ie_iload_n d140_69 l2 ?_
      refine ie_ishl d140_70 ?_
      refine ie_iconst (-1) d140_71 (by decide) ?_
      refine ie_ixor d140_72 ?_
      refine ie_iand d140_73 ?_
      refine mx_iast (k := 19) (n := t) r M d140_74 rfl rfl rfl (by show t < 640; exact ht) (fun hh r => ?_)
      refine ie_aload_n d140_75 l0 ?_
      refine ie_iload_n d140_76 l1 ?_
      refine ie_iload_n d140_77 l2 ?_
      refine mx_call r M [_, _] d140_78 ok139 rm140_139 cl17_198 rfl rfl (Nat.le_of_ble_eq_true rfl) (Nat.le_of_ble_eq_true rfl) (s139 (r.ok M) r.2.2 ht (by rw [mset_k (by decide)]; exact hu) hu24 (by rw [mset_k (by decide)]; exact hfi) hf (by rw [mset_k (by decide)]; exact hl) hn64 hs4) (fun hh r => ?_)
      exact ie_vret d140_81 rfl ⟨rfl, r⟩
    · skip
      have hs2 : ¬ s = s0 := fun w => hat (by rw [← w]; exact c48)
      refine ie_iinc (nI (s + 1)) d140_51 l2 (nI_1 _) (by decide) ?_
      refine ie_goto 38 d140_54 (by decide) ?_
      exact ih (s + 1) (by omega) (by omega) _ (ix_lk3 (by decide) l0 rfl) (ix_lk3 (by decide) l1 rfl) ix_lk1
set_option maxRecDepth 100000 in
set_option maxHeartbeats 4000000 in
/-- repair -/
theorem s140 {G : ix_G} {h : ix_H} {o : Nat} {S : MS} (M : md_ok h o) (hS : ms h o = S) {t u f n s0 : Nat} (ht : t < 640) (hu : S 44 0 = nI u) (hu24 : u ≤ 24) (hfi : nI (6 * (t / 320)) + S 9 t = nI f) (hf : f < 12) (hl : S 5 f = nI n) (hn64 : n ≤ 64) (hR : ¬ (S 19 t >>> (nI 16 &&& 31)) &&& nI 1 = nI 1 → rb (S 19 t) s0 ∧ (∀ s, s < s0 → ¬ rb (S 19 t) s) ∧ 4 * s0 < n) : ix_E G 140 0 (lv_args 0 [.ref o, .int (nI t)]) [] h (fun rv h' => rv = none ∧ mR o h h' (mRep S u t f n s0)) := by
  have r : mR o h h S := mR.rf hS
  refine ie_aload_n d140_0 rfl ?_
  refine mx_getr r M d140_1 fl17_56 rfl ?_
  refine ie_iload_n d140_4 rfl ?_
  refine mx_iald (k := 19) (n := t) r M d140_5 rfl rfl rfl (by show t < 640; exact ht) ?_
  refine ie_bipush (nI 16) d140_6 (by decide) ?_
  refine ie_ishr d140_8 ?_
  refine ie_iconst (nI 1) d140_9 (by decide) ?_
  refine ie_iand d140_10 ?_
  refine ie_iconst (nI 1) d140_11 (by decide) ?_
  refine ie_icmp_ne 36 d140_12 (by decide) (fun c12 => ?_) (fun c12 => ?_)
  · skip
    unfold mRep
    rw [if_neg c12]
    obtain ⟨hat, hno, hs4⟩ := hR c12
    refine ie_iconst (nI 0) d140_36 (by decide) ?_
    refine ie_istore_n d140_37 (by decide) ?_
    exact s140_loop M r ht hu hu24 hfi hf hl hn64 hat hno hs4 (s0 + 1) 0 (by omega) (by omega) _ rfl rfl rfl
  · skip
    unfold mRep
    rw [if_pos c12]
    refine ie_aload_n d140_15 rfl ?_
    refine mx_getr r M d140_16 fl17_56 rfl ?_
    refine ie_iload_n d140_19 rfl ?_
    refine ie_aload_n d140_20 rfl ?_
    refine mx_getr r M d140_21 fl17_56 rfl ?_
    refine ie_iload_n d140_24 rfl ?_
    refine mx_iald (k := 19) (n := t) r M d140_25 rfl rfl rfl (by show t < 640; exact ht) ?_
    refine ie_ldc (v := 65535) d140_26 lc_204 ?_
    refine ie_iand d140_28 ?_
    refine mx_iast (k := 19) (n := t) r M d140_29 rfl rfl rfl (by show t < 640; exact ht) (fun hh r => ?_)
    refine ie_aload_n d140_30 rfl ?_
    refine ie_iload_n d140_31 rfl ?_
    refine mx_call r M [_] d140_32 ok138 rm140_138 cl17_195 rfl rfl (Nat.le_of_ble_eq_true rfl) (Nat.le_of_ble_eq_true rfl) (s138 (r.ok M) r.2.2 ht (by rw [mset_k (by decide)]; exact hu) hu24) (fun hh r => ?_)
    exact ie_vret d140_35 rfl ⟨rfl, r⟩
/-- the roads of work, behind the clock: S is the state with the clock one on -/
def mWk0 (S : MS) (u t f n k0 c st : Nat) : MS := if ¬ S 21 t = 0 ∨ (n + 3) / 4 < st then mEnd (mset S 18 t (S 16 t)) u t f n k0 c else mset (if st = 0 then mMeta (mset S 18 t (S 16 t)) u t else mData (mset S 18 t (S 16 t)) u t f n (st - 1)) 14 t (nI (st + 1))
def mWk2 (S : MS) (u t f n k0 c : Nat) : MS := if S 16 t - S 17 t < S 0 0 then S else if S 15 t = 3 then mRm 40 42 (mset S 13 t (nI 3)) (t / 320) k0 c (c - 1) else mEnd (mset S 18 t (S 16 t)) u t f n k0 c
def mWk3 (S : MS) (t k0 c : Nat) : MS := if nI 4 * S 0 0 ≤ S 16 t - S 18 t then mRm 40 42 (mset S 13 t (nI 3)) (t / 320) k0 c (c - 1) else S
def mWk (S : MS) (u t f n k0 c st s0 : Nat) : MS := if S 15 t = 0 then mWk0 S u t f n k0 c st else if ¬ S 19 t = 0 then mRep (mset S 18 t (S 16 t)) u t f n s0 else if S 20 t = 0 then mWk2 S u t f n k0 c else mWk3 S t k0 c
def mWork (S : MS) (u t f n k0 c st s0 : Nat) : MS := if S 22 t = 0 then mWk (mset S 16 t (S 16 t + nI 1)) u t f n k0 c st s0 else S
theorem mM_o {S : MS} {u t k j : Nat} (h45 : k ≠ 45) (h44 : k ≠ 44) : mMeta S u t k j = S k j := mSendT_o h45 h44
theorem mD_o {S : MS} {u t f n s k j : Nat} (h45 : k ≠ 45) (h44 : k ≠ 44) : mData S u t f n s k j = S k j := mSendT_o h45 h44
set_option maxRecDepth 100000 in
set_option maxHeartbeats 4000000 in
/-- work, behind the clock -/
theorem s130_wk {G : ix_G} {h0 h : ix_H} {o : Nat} {S : MS} (M : md_ok h0 o) (r : mR o h0 h S) {t u f n k0 c st s0 : Nat} (ht : t < 640) (hu : S 44 0 = nI u) (hu24 : u ≤ 24) (hfi : nI (6 * (t / 320)) + S 9 t = nI f) (hf : f < 12) (hl : S 5 f = nI n) (hn64 : n ≤ 64) (hst : S 15 t = 0 ∧ S 21 t = 0 → S 14 t = nI st) (hst2 : st ≤ (n + 3) / 4 + 1) (hH : S 8 t = 1 → mHas 40 42 S (t / 320) k0 c t) (hH2 : ¬ S 15 t = 0 → mHas 40 42 S (t / 320) k0 c t)
    (hR : ¬ S 15 t = 0 → ¬ S 19 t = 0 → (¬ (S 19 t >>> (nI 16 &&& 31)) &&& nI 1 = nI 1 → rb (S 19 t) s0 ∧ (∀ s, s < s0 → ¬ rb (S 19 t) s) ∧ 4 * s0 < n)) (lv : List (Nat × Value)) (l0 : lv.lookup 0 = some (.ref o)) (l1 : lv.lookup 1 = some (.int (nI t))) (l2 : lv.lookup 2 = some (.int (nI ((n + 3) / 4)))) : ix_E G 130 34 lv [] h (fun rv h' => rv = none ∧ mR o h0 h' (mWk S u t f n k0 c st s0)) := by
  refine ie_aload_n d130_34 l0 ?_
  refine mx_getr r M d130_35 fl17_44 rfl ?_
  refine ie_iload_n d130_38 l1 ?_
  refine mx_iald (k := 15) (n := t) r M d130_39 rfl rfl rfl (by show t < 640; exact ht) ?_
  refine ie_if_ne 125 d130_40 (by decide) (fun c40 => ?_) (fun c40 => ?_)
  · skip
    unfold mWk
    rw [if_neg c40]
    refine ie_aload_n d130_125 l0 ?_
    refine mx_getr r M d130_126 fl17_56 rfl ?_
    refine ie_iload_n d130_129 l1 ?_
    refine mx_iald (k := 19) (n := t) r M d130_130 rfl rfl rfl (by show t < 640; exact ht) ?_
    refine ie_if_eq 154 d130_131 (by decide) (fun c131 => ?_) (fun c131 => ?_)
    · skip
      rw [if_neg (fun z => z c131)]
      refine ie_aload_n d130_154 l0 ?_
      refine mx_getr r M d130_155 fl17_59 rfl ?_
      refine ie_iload_n d130_158 l1 ?_
      refine mx_zald (k := 20) (n := t) r M d130_159 rfl rfl rfl (by show t < 640; exact ht) ?_
      refine ie_if_ne 221 d130_160 (by decide) (fun c160 => ?_) (fun c160 => ?_)
      · skip
        rw [if_neg c160]
        refine ie_aload_n d130_221 l0 ?_
        refine mx_getr r M d130_222 fl17_47 rfl ?_
        refine ie_iload_n d130_225 l1 ?_
        refine mx_iald (k := 16) (n := t) r M d130_226 rfl rfl rfl (by show t < 640; exact ht) ?_
        refine ie_aload_n d130_227 l0 ?_
        refine mx_getr r M d130_228 fl17_53 rfl ?_
        refine ie_iload_n d130_231 l1 ?_
        refine mx_iald (k := 18) (n := t) r M d130_232 rfl rfl rfl (by show t < 640; exact ht) ?_
        refine ie_isub d130_233 ?_
        refine ie_iconst (nI 4) d130_234 (by decide) ?_
        refine ie_aload_n d130_235 l0 ?_
        refine mx_geti r M d130_236 fl17_140 rfl ?_
        refine ie_imul d130_239 ?_
        refine ie_icmp_lt 249 d130_240 (by decide) (fun c240 => ?_) (fun c240 => ?_)
        · skip
          unfold mWk3
          rw [if_neg (Int32.not_le.mpr c240)]
          exact ie_vret d130_249 rfl ⟨rfl, r⟩
        · skip
          unfold mWk3
          rw [if_pos (Int32.not_lt.mp c240)]
          have hHc := hH2 c40
          refine ie_aload_n d130_243 l0 ?_
          refine ie_iload_n d130_244 l1 ?_
          refine ie_iconst (nI 3) d130_245 (by decide) ?_
          refine mx_call r M [_, _] d130_246 ok137 rm130_137 cl17_187 rfl rfl (Nat.le_of_ble_eq_true rfl) (Nat.le_of_ble_eq_true rfl) (s137 (r.ok M) r.2.2 ht hHc _) (fun hh r => ?_)
          exact ie_vret d130_249 rfl ⟨rfl, r⟩
      · skip
        rw [if_pos c160]
        refine ie_aload_n d130_163 l0 ?_
        refine mx_getr r M d130_164 fl17_47 rfl ?_
        refine ie_iload_n d130_167 l1 ?_
        refine mx_iald (k := 16) (n := t) r M d130_168 rfl rfl rfl (by show t < 640; exact ht) ?_
        refine ie_aload_n d130_169 l0 ?_
        refine mx_getr r M d130_170 fl17_50 rfl ?_
        refine ie_iload_n d130_173 l1 ?_
        refine mx_iald (k := 17) (n := t) r M d130_174 rfl rfl rfl (by show t < 640; exact ht) ?_
        refine ie_isub d130_175 ?_
        refine ie_aload_n d130_176 l0 ?_
        refine mx_geti r M d130_177 fl17_140 rfl ?_
        refine ie_icmp_ge 184 d130_180 (by decide) (fun c180 => ?_) (fun c180 => ?_)
        · skip
          unfold mWk2
          rw [if_neg (Int32.not_lt.mpr c180)]
          refine ie_aload_n d130_184 l0 ?_
          refine mx_getr r M d130_185 fl17_44 rfl ?_
          refine ie_iload_n d130_188 l1 ?_
          refine mx_iald (k := 15) (n := t) r M d130_189 rfl rfl rfl (by show t < 640; exact ht) ?_
          refine ie_iconst (nI 3) d130_190 (by decide) ?_
          refine ie_icmp_ne 201 d130_191 (by decide) (fun c191 => ?_) (fun c191 => ?_)
          · skip
            have c192 : ¬ S 15 t = 3 := c191
            rw [if_neg c192]
            refine ie_aload_n d130_201 l0 ?_
            refine mx_getr r M d130_202 fl17_53 rfl ?_
            refine ie_iload_n d130_205 l1 ?_
            refine ie_aload_n d130_206 l0 ?_
            refine mx_getr r M d130_207 fl17_47 rfl ?_
            refine ie_iload_n d130_210 l1 ?_
            refine mx_iald (k := 16) (n := t) r M d130_211 rfl rfl rfl (by show t < 640; exact ht) ?_
            refine mx_iast (k := 18) (n := t) r M d130_212 rfl rfl rfl (by show t < 640; exact ht) (fun hh r => ?_)
            refine ie_aload_n d130_213 l0 ?_
            refine ie_iload_n d130_214 l1 ?_
            refine mx_call r M [_] d130_215 ok133 rm130_133 cl17_191 rfl rfl (Nat.le_of_ble_eq_true rfl) (Nat.le_of_ble_eq_true rfl) (s133 (r.ok M) r.2.2 ht (by rw [mset_k (by decide)]; exact hu) hu24 (by rw [mset_k (by decide)]; exact hfi) hf (by rw [mset_k (by decide)]; exact hl) hn64 (fun q => mHas_o (hH (by rw [mset_k (by decide)] at q; exact q)) (fun j => mset_k (by decide)) (fun j => mset_k (by decide)))) (fun hh r => ?_)
            refine ie_goto 249 d130_218 (by decide) ?_
            exact ie_vret d130_249 rfl ⟨rfl, r⟩
          · skip
            have c192 : S 15 t = 3 := c191
            rw [if_pos c192]
            have hHc := hH2 c40
            refine ie_aload_n d130_194 l0 ?_
            refine ie_iload_n d130_195 l1 ?_
            refine ie_iconst (nI 3) d130_196 (by decide) ?_
            refine mx_call r M [_, _] d130_197 ok137 rm130_137 cl17_187 rfl rfl (Nat.le_of_ble_eq_true rfl) (Nat.le_of_ble_eq_true rfl) (s137 (r.ok M) r.2.2 ht hHc _) (fun hh r => ?_)
            exact ie_vret d130_200 rfl ⟨rfl, r⟩
        · skip
          unfold mWk2
          rw [if_pos (Int32.not_le.mp c180)]
          exact ie_vret d130_183 rfl ⟨rfl, r⟩
    · skip
      rw [if_pos c131]
      refine ie_aload_n d130_134 l0 ?_
      refine mx_getr r M d130_135 fl17_53 rfl ?_
      refine ie_iload_n d130_138 l1 ?_
      refine ie_aload_n d130_139 l0 ?_
      refine mx_getr r M d130_140 fl17_47 rfl ?_
      refine ie_iload_n d130_143 l1 ?_
      refine mx_iald (k := 16) (n := t) r M d130_144 rfl rfl rfl (by show t < 640; exact ht) ?_
      refine mx_iast (k := 18) (n := t) r M d130_145 rfl rfl rfl (by show t < 640; exact ht) (fun hh r => ?_)
      refine ie_aload_n d130_146 l0 ?_
      refine ie_iload_n d130_147 l1 ?_
      refine mx_call r M [_] d130_148 ok140 rm130_140 cl17_201 rfl rfl (Nat.le_of_ble_eq_true rfl) (Nat.le_of_ble_eq_true rfl) (s140 (s0 := s0) (r.ok M) r.2.2 ht (by rw [mset_k (by decide)]; exact hu) hu24 (by rw [mset_k (by decide)]; exact hfi) hf (by rw [mset_k (by decide)]; exact hl) hn64 (by rw [mset_k (by decide)]; exact hR c40 c131)) (fun hh r => ?_)
      refine ie_goto 249 d130_151 (by decide) ?_
      exact ie_vret d130_249 rfl ⟨rfl, r⟩
  · skip
    unfold mWk
    rw [if_pos c40]
    refine ie_aload_n d130_43 l0 ?_
    refine mx_getr r M d130_44 fl17_53 rfl ?_
    refine ie_iload_n d130_47 l1 ?_
    refine ie_aload_n d130_48 l0 ?_
    refine mx_getr r M d130_49 fl17_47 rfl ?_
    refine ie_iload_n d130_52 l1 ?_
    refine mx_iald (k := 16) (n := t) r M d130_53 rfl rfl rfl (by show t < 640; exact ht) ?_
    refine mx_iast (k := 18) (n := t) r M d130_54 rfl rfl rfl (by show t < 640; exact ht) (fun hh r => ?_)
    refine ie_aload_n d130_55 l0 ?_
    refine mx_getr r M d130_56 fl17_62 rfl ?_
    refine ie_iload_n d130_59 l1 ?_
    refine mx_zald (k := 21) (n := t) r M d130_60 rfl rfl rfl (by show t < 640; exact ht) ?_
    rw [mset_k (by decide)]
    refine ie_if_ne 74 d130_61 (by decide) (fun c61 => ?_) (fun c61 => ?_)
    · skip
      unfold mWk0
      rw [if_pos (Or.inl c61)]
      refine ie_aload_n d130_74 l0 ?_
      refine ie_iload_n d130_75 l1 ?_
      refine mx_call r M [_] d130_76 ok133 rm130_133 cl17_191 rfl rfl (Nat.le_of_ble_eq_true rfl) (Nat.le_of_ble_eq_true rfl) (s133 (r.ok M) r.2.2 ht (by rw [mset_k (by decide)]; exact hu) hu24 (by rw [mset_k (by decide)]; exact hfi) hf (by rw [mset_k (by decide)]; exact hl) hn64 (fun q => mHas_o (hH (by rw [mset_k (by decide)] at q; exact q)) (fun j => mset_k (by decide)) (fun j => mset_k (by decide)))) (fun hh r => ?_)
      refine ie_goto 249 d130_79 (by decide) ?_
      exact ie_vret d130_249 rfl ⟨rfl, r⟩
    · skip
      skip
      refine ie_aload_n d130_64 l0 ?_
      refine mx_getr r M d130_65 fl17_41 rfl ?_
      refine ie_iload_n d130_68 l1 ?_
      refine mx_iald (k := 14) (n := t) r M d130_69 rfl rfl rfl (by show t < 640; exact ht) ?_
      rw [mset_k (by decide)]
      rw [hst ⟨c40, c61⟩]
      refine ie_iload_n d130_70 l2 ?_
      refine ie_icmp_le 82 d130_71 (by decide) (fun c71 => ?_) (fun c71 => ?_)
      · skip
        rw [nI_leI (by omega) (by omega)] at c71
        unfold mWk0
        rw [if_neg (fun z => z.elim (fun y => y c61) (fun y => by omega))]
        refine ie_aload_n d130_82 l0 ?_
        refine mx_getr r M d130_83 fl17_41 rfl ?_
        refine ie_iload_n d130_86 l1 ?_
        refine mx_iald (k := 14) (n := t) r M d130_87 rfl rfl rfl (by show t < 640; exact ht) ?_
        rw [mset_k (by decide)]
        rw [hst ⟨c40, c61⟩]
        refine ie_if_ne 99 d130_88 (by decide) (fun c88 => ?_) (fun c88 => ?_)
        · skip
          have st0 : ¬ st = 0 := fun z => c88 (by rw [z]; rfl)
          rw [if_neg st0]
          refine ie_aload_n d130_99 l0 ?_
          refine ie_iload_n d130_100 l1 ?_
          refine ie_aload_n d130_101 l0 ?_
          refine mx_getr r M d130_102 fl17_41 rfl ?_
          refine ie_iload_n d130_105 l1 ?_
          refine mx_iald (k := 14) (n := t) r M d130_106 rfl rfl rfl (by show t < 640; exact ht) ?_
          rw [mset_k (by decide)]
          rw [hst ⟨c40, c61⟩]
          refine ie_iconst (nI 1) d130_107 (by decide) ?_
          refine ie_isub d130_108 ?_
          rw [pk_sub (by omega)]
          refine mx_call r M [_, _] d130_109 ok139 rm130_139 cl17_198 rfl rfl (Nat.le_of_ble_eq_true rfl) (Nat.le_of_ble_eq_true rfl) (s139 (r.ok M) r.2.2 ht (by rw [mset_k (by decide)]; exact hu) hu24 (by rw [mset_k (by decide)]; exact hfi) hf (by rw [mset_k (by decide)]; exact hl) hn64 (by omega)) (fun hh r => ?_)
          refine ie_aload_n d130_112 l0 ?_
          refine mx_getr r M d130_113 fl17_41 rfl ?_
          refine ie_iload_n d130_116 l1 ?_
          refine ie_dup2 d130_117 rfl rfl ?_
          refine mx_iald (k := 14) (n := t) r M d130_118 rfl rfl rfl (by show t < 640; exact ht) ?_
          rw [mD_o (by decide) (by decide)]
          rw [mset_k (by decide)]
          rw [hst ⟨c40, c61⟩]
          refine ie_iconst (nI 1) d130_119 (by decide) ?_
          refine ie_iadd d130_120 ?_
          rw [nI_add]
          refine mx_iast (k := 14) (n := t) r M d130_121 rfl rfl rfl (by show t < 640; exact ht) (fun hh r => ?_)
          refine ie_goto 249 d130_122 (by decide) ?_
          exact ie_vret d130_249 rfl ⟨rfl, r⟩
        · skip
          have st0 : st = 0 := (nI_eq (by omega) (by omega)).mp c88
          rw [if_pos st0]
          refine ie_aload_n d130_91 l0 ?_
          refine ie_iload_n d130_92 l1 ?_
          refine mx_call r M [_] d130_93 ok138 rm130_138 cl17_195 rfl rfl (Nat.le_of_ble_eq_true rfl) (Nat.le_of_ble_eq_true rfl) (s138 (r.ok M) r.2.2 ht (by rw [mset_k (by decide)]; exact hu) hu24) (fun hh r => ?_)
          refine ie_goto 112 d130_96 (by decide) ?_
          refine ie_aload_n d130_112 l0 ?_
          refine mx_getr r M d130_113 fl17_41 rfl ?_
          refine ie_iload_n d130_116 l1 ?_
          refine ie_dup2 d130_117 rfl rfl ?_
          refine mx_iald (k := 14) (n := t) r M d130_118 rfl rfl rfl (by show t < 640; exact ht) ?_
          rw [mM_o (by decide) (by decide)]
          rw [mset_k (by decide)]
          rw [hst ⟨c40, c61⟩]
          refine ie_iconst (nI 1) d130_119 (by decide) ?_
          refine ie_iadd d130_120 ?_
          rw [nI_add]
          refine mx_iast (k := 14) (n := t) r M d130_121 rfl rfl rfl (by show t < 640; exact ht) (fun hh r => ?_)
          refine ie_goto 249 d130_122 (by decide) ?_
          exact ie_vret d130_249 rfl ⟨rfl, r⟩
      · skip
        rw [nI_leI (by omega) (by omega)] at c71
        unfold mWk0
        rw [if_pos (Or.inr (by omega))]
        refine ie_aload_n d130_74 l0 ?_
        refine ie_iload_n d130_75 l1 ?_
        refine mx_call r M [_] d130_76 ok133 rm130_133 cl17_191 rfl rfl (Nat.le_of_ble_eq_true rfl) (Nat.le_of_ble_eq_true rfl) (s133 (r.ok M) r.2.2 ht (by rw [mset_k (by decide)]; exact hu) hu24 (by rw [mset_k (by decide)]; exact hfi) hf (by rw [mset_k (by decide)]; exact hl) hn64 (fun q => mHas_o (hH (by rw [mset_k (by decide)] at q; exact q)) (fun j => mset_k (by decide)) (fun j => mset_k (by decide)))) (fun hh r => ?_)
        refine ie_goto 249 d130_79 (by decide) ?_
        exact ie_vret d130_249 rfl ⟨rfl, r⟩
