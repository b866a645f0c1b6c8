/-- the first missing segment from s on, or a -/
def lsN (S : MS) (p a : Nat) : Nat → Nat → Nat
  | 0, _ => a
  | z + 1, s => if a ≤ s then a else if S 39 (16 * p + s) = 0 then s else lsN S p a z (s + 1)
theorem mLost_N {S : MS} {p a : Nat} : ∀ (z s : Nat), mLost S p a z s = if lsN S p a z s < a then nI (lsN S p a z s) else -1 := by
  intro z
  induction z with
  | zero => intro s; show _ = if a < a then _ else _; rw [if_neg (by omega)]; rfl
  | succ z ih =>
    intro s
    show (if a ≤ s then _ else if _ then _ else _) = if (if a ≤ s then a else if S 39 (16 * p + s) = 0 then s else lsN S p a z (s + 1)) < a then nI (if a ≤ s then a else if S 39 (16 * p + s) = 0 then s else lsN S p a z (s + 1)) else -1
    by_cases e : a ≤ s
    · rw [if_pos e, if_pos e, if_neg (by omega)]
    · rw [if_neg e, if_neg e]
      by_cases q : S 39 (16 * p + s) = 0
      · rw [if_pos q, if_pos q, if_pos (by omega)]
      · rw [if_neg q, if_neg q]
        exact ih (s + 1)
theorem mLost_o {S S' : MS} {p a : Nat} (h : ∀ j, S' 39 j = S 39 j) : ∀ (z s : Nat), mLost S' p a z s = mLost S p a z s := by
  intro z
  induction z with
  | zero => intro s; rfl
  | succ z ih =>
    intro s
    show (if _ then _ else if S' 39 _ = 0 then _ else _) = (if _ then _ else if _ then _ else _)
    rw [h, ih]
/-- the last segment of the gap that begins at e -/
def gE (S : MS) (p a : Nat) : Nat → Nat → Nat
  | 0, e => e
  | z + 1, e => if e + 1 < a ∧ S 39 (16 * p + e + 1) = 0 then gE S p a z (e + 1) else e
theorem gE_o {S S' : MS} {p a : Nat} (h : ∀ j, S' 39 j = S 39 j) : ∀ (z s : Nat), gE S' p a z s = gE S p a z s := by
  intro z
  induction z with
  | zero => intro s; rfl
  | succ z ih =>
    intro s
    show (if _ ∧ S' 39 _ = 0 then _ else _) = (if _ then _ else _)
    rw [h, ih]
theorem gE_b {S : MS} {p a : Nat} : ∀ (z e : Nat), e < a → e ≤ gE S p a z e ∧ gE S p a z e < a := by
  intro z
  induction z with
  | zero => intro e h; exact ⟨Nat.le_refl _, h⟩
  | succ z ih =>
    intro e h
    show e ≤ (if _ then _ else _) ∧ (if _ then _ else _) < a
    split
    · rename_i q
      have := ih (e + 1) q.1
      exact ⟨by omega, this.2⟩
    · exact ⟨Nat.le_refl _, h⟩
/-- where gap number g begins (a: there is none) -/
def gA (S : MS) (p a : Nat) : Nat → Nat
  | 0 => lsN S p a 17 0
  | g + 1 => lsN S p a 17 (gE S p a 17 (gA S p a g) + 1)
def gB (S : MS) (p a g : Nat) : Nat := gE S p a 17 (gA S p a g)
def gC (S : MS) (p a : Nat) : Nat := if a ≤ gA S p a 0 then 0 else if a ≤ gA S p a 1 then 1 else if a ≤ gA S p a 2 then 2 else 3
theorem gC_e {S : MS} {p a : Nat} : ∀ g, g ≤ 3 → (∀ i, i < g → gA S p a i < a) → (g = 3 ∨ a ≤ gA S p a g) → gC S p a = g := by
  intro g h3 hl he
  unfold gC
  match g, h3, hl, he with
  | 0, _, _, he => rw [if_pos (he.elim (fun q => by cases q) id)]
  | 1, _, hl, he => rw [if_neg (Nat.not_le.mpr (hl 0 (by omega))), if_pos (he.elim (fun q => by cases q) id)]
  | 2, _, hl, he => rw [if_neg (Nat.not_le.mpr (hl 0 (by omega))), if_neg (Nat.not_le.mpr (hl 1 (by omega))), if_pos (he.elim (fun q => by cases q) id)]
  | 3, _, hl, he => rw [if_neg (Nat.not_le.mpr (hl 0 (by omega))), if_neg (Nat.not_le.mpr (hl 1 (by omega))), if_neg (Nat.not_le.mpr (hl 2 (by omega)))]
/-- the gaps are written down -/
def mGp (S : MS) (p a g : Nat) : MS := fun k j => if k = 47 ∧ j < 6 then (if j / 2 < g then (if j % 2 = 0 then nI (gA S p a (j / 2)) else nI (gB S p a (j / 2))) else 0) else S k j
theorem mGp_o {S : MS} {p a g k j : Nat} (h : k ≠ 47) : mGp S p a g k j = S k j := by
  unfold mGp
  rw [if_neg (fun z => h z.1)]
theorem mGp_s {S : MS} {p a g : Nat} (hg : g < 3) : mset (mset (mGp S p a g) 47 (2 * g) (nI (gA S p a g))) 47 (2 * g + 1) (nI (gB S p a g)) = mGp S p a (g + 1) := by
  funext k j
  by_cases e : k = 47
  · subst e
    rw [mset_if rfl, mset_if rfl]
    unfold mGp
    by_cases q : j = 2 * g + 1
    · subst q
      rw [if_pos rfl, if_pos ⟨rfl, by omega⟩, if_pos (by omega), if_neg (by omega), show (2 * g + 1) / 2 = g from by omega]
    · rw [if_neg q]
      by_cases q2 : j = 2 * g
      · subst q2
        rw [if_pos rfl, if_pos ⟨rfl, by omega⟩, if_pos (by omega), if_pos (by omega), show (2 * g) / 2 = g from by omega]
      · rw [if_neg q2]
        by_cases w : j / 2 < g
        · rw [if_pos w, if_pos (show j / 2 < g + 1 from by omega)]
        · rw [if_neg w, if_neg (show ¬ j / 2 < g + 1 from by omega)]
  · rw [mset_k e, mset_k e, mGp_o e, mGp_o e]
def mGz (S : MS) (n : Nat) : MS := fun k j => if k = 47 ∧ j < n then 0 else S k j
theorem mGz_0 {S : MS} : mGz S 0 = S := by
  funext k j
  unfold mGz
  rw [if_neg (by omega)]
theorem mGz_6 {S : MS} {p a : Nat} : mGz S 6 = mGp S p a 0 := by
  funext k j
  unfold mGz mGp
  rw [if_neg (show ¬ j / 2 < 0 from by omega)]
theorem mGz_o {S : MS} {n k j : Nat} (h : k ≠ 47) : mGz S n k j = S k j := by
  unfold mGz
  rw [if_neg (fun z => h z.1)]
theorem mGz_s {S : MS} {n : Nat} : mset (mGz S n) 47 n (nI 0) = mGz S (n + 1) := by
  funext k j
  by_cases e : k = 47
  · subst e
    rw [mset_if rfl]
    unfold mGz
    by_cases q : j = n
    · subst q
      rw [if_pos rfl, if_pos ⟨rfl, by omega⟩]
      rfl
    · rw [if_neg q]
      by_cases w : j < n
      · rw [if_pos ⟨rfl, w⟩, if_pos ⟨rfl, by omega⟩]
      · rw [if_neg (fun z => w z.2), if_neg (fun z => by omega)]
  · rw [mset_k e, mGz_o e, mGz_o e]
/-- the gaps go into the unit -/
def mGu (S : MS) (b n : Nat) : MS := fun k j => if k = 45 ∧ b ≤ j ∧ j < b + n then S 47 (j - b) else S k j
theorem mGu_0 {S : MS} {b : Nat} : mGu S b 0 = S := by
  funext k j
  unfold mGu
  rw [if_neg (by omega)]
theorem mGu_o {S : MS} {b n k j : Nat} (h : k ≠ 45) : mGu S b n k j = S k j := by
  unfold mGu
  rw [if_neg (fun z => h z.1)]
theorem mGu_s {S : MS} {b n : Nat} : mset (mGu S b n) 45 (b + n) (S 47 n) = mGu S b (n + 1) := by
  funext k j
  by_cases e : k = 45
  · subst e
    rw [mset_if rfl]
    unfold mGu
    by_cases q : j = b + n
    · subst q
      rw [if_pos rfl, if_pos ⟨rfl, by omega, by omega⟩, Nat.add_sub_cancel_left]
    · rw [if_neg q]
      by_cases w : b ≤ j ∧ j < b + n
      · rw [if_pos ⟨rfl, w⟩, if_pos ⟨rfl, w.1, by omega⟩]
      · rw [if_neg (fun z => w z.2), if_neg (fun z => w ⟨z.2.1, by omega⟩)]
  · rw [mset_k e, mGu_o e, mGu_o e]
def mNakZ (S : MS) (p : Nat) : MS := mset (mset S 29 p (S 29 p + nI 1)) 30 p (S 2 0)
def mNakS (S : MS) (u t p g : Nat) : MS := mSend S u (nI 6) (nI (t / 320)) (nI t) (if S 36 p = 0 then nI 1 else nI 0) (nI g) (nI 0)
def mNakE (S : MS) (u t p g : Nat) : MS := mNakZ (if u < 24 then mGu (mNakS S u t p g) (11 * u + 5) 6 else mNakS S u t p g) p
def mNak (S : MS) (u t p n : Nat) : MS := mNakE (mGp S p ((n + 3) / 4) (gC S p ((n + 3) / 4))) u t p (gC S p ((n + 3) / 4))
set_option maxRecDepth 100000 in
set_option maxHeartbeats 4000000 in
/-- nak: its end -/
theorem s145_z {G : ix_G} {h0 h : ix_H} {o : Nat} {S : MS} (M : md_ok h0 o) (r : mR o h0 h S) {t p : Nat} (ht : t < 640) (hp : S 25 t = nI p) (hp6 : p < 6) :
    ∀ (lv : List (Nat × Value)), lv.lookup 0 = some (.ref o) → lv.lookup 1 = some (.int (nI t)) → ix_E G 145 210 lv [] h (fun rv h' => rv = none ∧ mR o h0 h' (mNakZ S p)) := by
  intro lv l0 l1
  refine ie_aload_n d145_210 l0 ?_
  refine mx_getr r M d145_211 fl17_86 rfl ?_
  refine ie_aload_n d145_214 l0 ?_
  refine mx_getr r M d145_215 fl17_74 rfl ?_
  refine ie_iload_n d145_218 l1 ?_
  refine mx_iald (k := 25) (n := t) r M d145_219 rfl rfl rfl (by show t < 640; exact ht) ?_
  rw [hp]
  refine ie_dup2 d145_220 rfl rfl ?_
  refine mx_iald (k := 29) (n := p) r M d145_221 rfl rfl rfl (by show p < 6; exact hp6) ?_
  refine ie_iconst (nI 1) d145_222 (by decide) ?_
  refine ie_iadd d145_223 ?_
  refine mx_iast (k := 29) (n := p) r M d145_224 rfl rfl rfl (by show p < 6; exact hp6) (fun hh r => ?_)
  refine ie_aload_n d145_225 l0 ?_
  refine mx_getr r M d145_226 fl17_89 rfl ?_
  refine ie_aload_n d145_229 l0 ?_
  refine mx_getr r M d145_230 fl17_74 rfl ?_
  refine ie_iload_n d145_233 l1 ?_
  refine mx_iald (k := 25) (n := t) r M d145_234 rfl rfl rfl (by show t < 640; exact ht) ?_
  rw [mset_k (by decide)]
  rw [hp]
  refine ie_aload_n d145_235 l0 ?_
  refine mx_geti r M d145_236 fl17_234 rfl ?_
  rw [mset_k (by decide)]
  refine mx_iast (k := 30) (n := p) r M d145_239 rfl rfl rfl (by show p < 6; exact hp6) (fun hh r => ?_)
  exact ie_vret d145_240 rfl ⟨rfl, r⟩
set_option maxRecDepth 100000 in
set_option maxHeartbeats 4000000 in
/-- nak: the gaps go into the unit -/
theorem s145_u {G : ix_G} {h0 : ix_H} {o : Nat} {S : MS} (M : md_ok h0 o) {t p u : Nat} (ht : t < 640) (hp : S 25 t = nI p) (hp6 : p < 6) (hu : u < 24) (hu1 : S 44 0 = nI (u + 1)) :
    ∀ (z i : Nat), i ≤ 6 → 6 - i < z → ∀ h, mR o h0 h (mGu S (11 * u + 5) i) → ∀ (lv : List (Nat × Value)), lv.lookup 0 = some (.ref o) → lv.lookup 1 = some (.int (nI t)) → lv.lookup 4 = some (.int (nI i)) → ix_E G 145 170 lv [] h (fun rv h' => rv = none ∧ mR o h0 h' (mNakZ (mGu S (11 * u + 5) 6) p)) := by
  intro z
  induction z with
  | zero => intro i h1 h2; omega
  | succ z ih =>
    intro i hi hz h r lv l0 l1 l4
    refine ie_iload d145_170 l4 ?_
    refine ie_bipush (nI 6) d145_172 (by decide) ?_
    refine ie_icmp_ge 210 d145_174 (by decide) (fun c174 => ?_) (fun c174 => ?_)
    · skip
      rw [nI_leI (by omega) (by omega)] at c174
      have hi2 : i = 6 := by omega
      subst hi2
      exact s145_z M r ht (by rw [mGu_o (by decide)]; exact hp) hp6 _ l0 l1
    · skip
      rw [nI_leI (by omega) (by omega)] at c174
      refine ie_aload_n d145_177 l0 ?_
      refine mx_getr r M d145_178 fl17_131 rfl ?_
      refine ie_bipush (nI 11) d145_181 (by decide) ?_
      refine ie_aload_n d145_183 l0 ?_
      refine mx_geti r M d145_184 fl17_171 rfl ?_
      rw [mGu_o (by decide), hu1]
      refine ie_imul d145_187 ?_
      rw [pk_mul]
      refine ie_bipush (nI 11) d145_188 (by decide) ?_
      refine ie_isub d145_190 ?_
      rw [pk_sub (by omega), show 11 * (u + 1) - 11 = 11 * u from by omega]
      refine ie_iconst (nI 5) d145_191 (by decide) ?_
      refine ie_iadd d145_192 ?_
      rw [nI_add]
      refine ie_iload d145_193 l4 ?_
      refine ie_iadd d145_195 ?_
      rw [nI_add]
      refine ie_aload_n d145_196 l0 ?_
      refine mx_getr r M d145_197 fl17_137 rfl ?_
      refine ie_iload d145_200 l4 ?_
      refine mx_iald (k := 47) (n := i) r M d145_202 rfl rfl rfl (by show i < 6; omega) ?_
      rw [mGu_o (by decide)]
      refine mx_iast (k := 45) (n := (11 * u + 5 + i)) r M d145_203 rfl rfl rfl (by show 11 * u + 5 + i < 264; omega) (fun hh r => ?_)
      refine ie_iinc (nI (i + 1)) d145_204 l4 (nI_1 _) (by decide) ?_
      refine ie_goto 170 d145_207 (by decide) ?_
      exact ih (i + 1) (by omega) (by omega) hh (by rw [← mGu_s]; exact r) _ (ix_lk3 (by decide) l0 rfl) (ix_lk3 (by decide) l1 rfl) ix_lk1
set_option maxRecDepth 100000 in
set_option maxHeartbeats 4000000 in
/-- nak: behind the gaps -/
theorem s145_e {G : ix_G} {h0 h : ix_H} {o : Nat} {S : MS} (M : md_ok h0 o) (r : mR o h0 h S) {t p u g : Nat} (ht : t < 640) (hp : S 25 t = nI p) (hp6 : p < 6) (hu : S 44 0 = nI u) (hu24 : u ≤ 24) :
    ∀ (lv : List (Nat × Value)), lv.lookup 0 = some (.ref o) → lv.lookup 1 = some (.int (nI t)) → lv.lookup 2 = some (.int (nI g)) → ix_E G 145 131 lv [] h (fun rv h' => rv = none ∧ mR o h0 h' (mNakE S u t p g)) := by
  intro lv l0 l1 l2
  unfold mNakE mNakS
  refine ie_aload_n d145_131 l0 ?_
  refine ie_bipush (nI 6) d145_132 (by decide) ?_
  refine ie_iload_n d145_134 l1 ?_
  refine ie_sipush (nI 320) d145_135 (by decide) ?_
  refine ie_idiv d145_138 (by decide) ?_
  rw [pk_div (by omega) (by decide) (by decide)]
  refine ie_iload_n d145_139 l1 ?_
  refine ie_aload_n d145_140 l0 ?_
  refine mx_getr r M d145_141 fl17_107 rfl ?_
  refine ie_aload_n d145_144 l0 ?_
  refine mx_getr r M d145_145 fl17_74 rfl ?_
  refine ie_iload_n d145_148 l1 ?_
  refine mx_iald (k := 25) (n := t) r M d145_149 rfl rfl rfl (by show t < 640; exact ht) ?_
  rw [hp]
  refine mx_zald (k := 36) (n := p) r M d145_150 rfl rfl rfl (by show p < 6; exact hp6) ?_
  refine ie_if_eq 158 d145_151 (by decide) (fun c151 => ?_) (fun c151 => ?_)
  · skip
    rw [if_pos c151]
    refine ie_iconst (nI 1) d145_158 (by decide) ?_
    refine ie_iload_n d145_159 l2 ?_
    refine ie_iconst (nI 0) d145_160 (by decide) ?_
    refine mx_call r M [_, _, _, _, _, _] d145_161 ok136 rm145_136 cl17_177 rfl rfl (Nat.le_of_ble_eq_true rfl) (Nat.le_of_ble_eq_true rfl) (s136 (r.ok M) r.2.2 hu hu24 _ _ _ _ _ _) (fun hh r => ?_)
    refine ie_if_eq 210 d145_164 (by decide) (fun c164 => ?_) (fun c164 => ?_)
    · skip
      rw [bI_0] at c164
      rw [if_neg c164]
      exact s145_z M r ht (by rw [mSend_o (by decide) (by decide)]; exact hp) hp6 _ l0 l1
    · skip
      rw [bI_0, Classical.not_not] at c164
      rw [if_pos c164]
      refine ie_iconst (nI 0) d145_167 (by decide) ?_
      refine ie_istore d145_168 (by decide) ?_
      exact s145_u M ht (by rw [mSend_o (by decide) (by decide)]; exact hp) hp6 c164 (by rw [mSend_u hu hu24, if_neg (by omega)]) 7 0 (by omega) (by omega) hh (by rw [mGu_0]; exact r) _ (ix_lk3 (by decide) l0 rfl) (ix_lk3 (by decide) l1 rfl) ix_lk1
  · skip
    rw [if_neg c151]
    refine ie_iconst (nI 0) d145_154 (by decide) ?_
    refine ie_goto 159 d145_155 (by decide) ?_
    refine ie_iload_n d145_159 l2 ?_
    refine ie_iconst (nI 0) d145_160 (by decide) ?_
    refine mx_call r M [_, _, _, _, _, _] d145_161 ok136 rm145_136 cl17_177 rfl rfl (Nat.le_of_ble_eq_true rfl) (Nat.le_of_ble_eq_true rfl) (s136 (r.ok M) r.2.2 hu hu24 _ _ _ _ _ _) (fun hh r => ?_)
    refine ie_if_eq 210 d145_164 (by decide) (fun c164 => ?_) (fun c164 => ?_)
    · skip
      rw [bI_0] at c164
      rw [if_neg c164]
      exact s145_z M r ht (by rw [mSend_o (by decide) (by decide)]; exact hp) hp6 _ l0 l1
    · skip
      rw [bI_0, Classical.not_not] at c164
      rw [if_pos c164]
      refine ie_iconst (nI 0) d145_167 (by decide) ?_
      refine ie_istore d145_168 (by decide) ?_
      exact s145_u M ht (by rw [mSend_o (by decide) (by decide)]; exact hp) hp6 c164 (by rw [mSend_u hu hu24, if_neg (by omega)]) 7 0 (by omega) (by omega) hh (by rw [mGu_0]; exact r) _ (ix_lk3 (by decide) l0 rfl) (ix_lk3 (by decide) l1 rfl) ix_lk1
set_option maxRecDepth 100000 in
set_option maxHeartbeats 4000000 in
/-- nak: a gap's end -/
theorem s145_in {G : ix_G} {h0 h : ix_H} {o : Nat} {S : MS} (M : md_ok h0 o) (r : mR o h0 h S) {t p n g s X : Nat} {P : ix_O → ix_H → Prop} (ht : t < 640) (hp : S 25 t = nI p) (hp6 : p < 6) (hn : S 27 p = nI n) (hn64 : n ≤ 64)
    (kk : ∀ (lv : List (Nat × Value)), lv.lookup 0 = some (.ref o) → lv.lookup 1 = some (.int (nI t)) → lv.lookup 2 = some (.int (nI g)) → lv.lookup 3 = some (.int (nI s)) → lv.lookup 4 = some (.int (nI X)) → ix_E G 145 94 lv [] h P) :
    ∀ (z e : Nat), e < (n + 3) / 4 → (n + 3) / 4 < e + z → gE S p ((n + 3) / 4) z e = X → ∀ (lv : List (Nat × Value)), lv.lookup 0 = some (.ref o) → lv.lookup 1 = some (.int (nI t)) → lv.lookup 2 = some (.int (nI g)) → lv.lookup 3 = some (.int (nI s)) → lv.lookup 4 = some (.int (nI e)) → ix_E G 145 45 lv [] h P := by
  intro z
  induction z with
  | zero => intro e h1 h2; omega
  | succ z ih =>
    intro e he hz hX lv l0 l1 l2 l3 l4
    refine ie_iload d145_45 l4 ?_
    refine ie_iconst (nI 1) d145_47 (by decide) ?_
    refine ie_iadd d145_48 ?_
    rw [nI_add]
    refine ie_aload_n d145_49 l0 ?_
    refine mx_getr r M d145_50 fl17_80 rfl ?_
    refine ie_aload_n d145_53 l0 ?_
    refine mx_getr r M d145_54 fl17_74 rfl ?_
    refine ie_iload_n d145_57 l1 ?_
    refine mx_iald (k := 25) (n := t) r M d145_58 rfl rfl rfl (by show t < 640; exact ht) ?_
    rw [hp]
    refine mx_iald (k := 27) (n := p) r M d145_59 rfl rfl rfl (by show p < 6; exact hp6) ?_
    rw [hn]
    refine ie_callSx [_] d145_60 ok132 rm145_132 cl17_164 rfl rfl (Nat.le_of_ble_eq_true rfl) (Nat.le_of_ble_eq_true rfl) (s132 _) ?_
    rw [seg_nI (by omega)]
    refine ie_icmp_ge 94 d145_63 (by decide) (fun c63 => ?_) (fun c63 => ?_)
    · skip
      rw [nI_leI (by omega) (by omega)] at c63
      have K : e = X := by
        rw [← hX]
        show _ = (if _ then _ else _)
        rw [if_neg (fun q => by omega)]
      subst K
      exact kk _ l0 l1 l2 l3 l4
    · skip
      rw [nI_leI (by omega) (by omega)] at c63
      refine ie_aload_n d145_66 l0 ?_
      refine mx_getr r M d145_67 fl17_116 rfl ?_
      refine ie_bipush (nI 16) d145_70 (by decide) ?_
      refine ie_aload_n d145_72 l0 ?_
      refine mx_getr r M d145_73 fl17_74 rfl ?_
      refine ie_iload_n d145_76 l1 ?_
      refine mx_iald (k := 25) (n := t) r M d145_77 rfl rfl rfl (by show t < 640; exact ht) ?_
      rw [hp]
      refine ie_imul d145_78 ?_
      rw [pk_mul]
      refine ie_iload d145_79 l4 ?_
      refine ie_iadd d145_81 ?_
      rw [nI_add]
      refine ie_iconst (nI 1) d145_82 (by decide) ?_
      refine ie_iadd d145_83 ?_
      rw [nI_add]
      refine mx_iald (k := 39) (n := (16 * p + e + 1)) r M d145_84 rfl rfl rfl (by show 16 * p + e + 1 < 96; omega) ?_
      refine ie_if_ne 94 d145_85 (by decide) (fun c85 => ?_) (fun c85 => ?_)
      · skip
        have K : e = X := by
          rw [← hX]
          show _ = (if _ then _ else _)
          rw [if_neg (fun q => c85 q.2)]
        subst K
        exact kk _ l0 l1 l2 l3 l4
      · skip
        have K : gE S p ((n + 3) / 4) z (e + 1) = X := by
          rw [← hX]
          show _ = (if _ then _ else _)
          rw [if_pos ⟨by omega, c85⟩]
        refine ie_iinc (nI (e + 1)) d145_88 l4 (nI_1 _) (by decide) ?_
        refine ie_goto 45 d145_91 (by decide) ?_
        exact ih (e + 1) (by omega) (by omega) K _ (ix_lk3 (by decide) l0 rfl) (ix_lk3 (by decide) l1 rfl) (ix_lk3 (by decide) l2 rfl) (ix_lk3 (by decide) l3 rfl) ix_lk1
set_option maxRecDepth 100000 in
set_option maxHeartbeats 4000000 in
/-- nak: a gap is written -/
theorem s145_st {G : ix_G} {h0 h : ix_H} {o : Nat} {S : MS} (M : md_ok h0 o) {t p n g : Nat} {P : ix_O → ix_H → Prop} (r : mR o h0 h (mGp S p ((n + 3) / 4) g)) (ht : t < 640) (hp : S 25 t = nI p) (hp6 : p < 6) (hn : S 27 p = nI n) (hn64 : n ≤ 64) (hg : g < 3) (hA : gA S p ((n + 3) / 4) g < (n + 3) / 4)
    (kk : ∀ h1, mR o h0 h1 (mGp S p ((n + 3) / 4) (g + 1)) → ∀ (lv : List (Nat × Value)), lv.lookup 0 = some (.ref o) → lv.lookup 1 = some (.int (nI t)) → lv.lookup 2 = some (.int (nI (g + 1))) → lv.lookup 3 = some (.int (if gA S p ((n + 3) / 4) (g + 1) < (n + 3) / 4 then nI (gA S p ((n + 3) / 4) (g + 1)) else -1)) → ix_E G 145 33 lv [] h1 P) :
    ∀ (lv : List (Nat × Value)), lv.lookup 0 = some (.ref o) → lv.lookup 1 = some (.int (nI t)) → lv.lookup 2 = some (.int (nI g)) → lv.lookup 3 = some (.int (nI (gA S p ((n + 3) / 4) g))) → lv.lookup 4 = some (.int (nI (gB S p ((n + 3) / 4) g))) → ix_E G 145 94 lv [] h P := by
  intro lv l0 l1 l2 l3 l4
  have hgb : gB S p ((n + 3) / 4) g < (n + 3) / 4 := (gE_b 17 _ hA).2
  refine ie_aload_n d145_94 l0 ?_
  refine mx_getr r M d145_95 fl17_137 rfl ?_
  refine ie_iconst (nI 2) d145_98 (by decide) ?_
  refine ie_iload_n d145_99 l2 ?_
  refine ie_imul d145_100 ?_
  rw [pk_mul]
  refine ie_iload_n d145_101 l3 ?_
  refine mx_iast (k := 47) (n := (2 * g)) r M d145_102 rfl rfl rfl (by show 2 * g < 6; omega) (fun hh r => ?_)
  refine ie_aload_n d145_103 l0 ?_
  refine mx_getr r M d145_104 fl17_137 rfl ?_
  refine ie_iconst (nI 2) d145_107 (by decide) ?_
  refine ie_iload_n d145_108 l2 ?_
  refine ie_imul d145_109 ?_
  rw [pk_mul]
  refine ie_iconst (nI 1) d145_110 (by decide) ?_
  refine ie_iadd d145_111 ?_
  rw [nI_add]
  refine ie_iload d145_112 l4 ?_
  refine mx_iast (k := 47) (n := (2 * g + 1)) r M d145_114 rfl rfl rfl (by show 2 * g + 1 < 6; omega) (fun hh r => ?_)
  refine ie_iinc (nI (g + 1)) d145_115 l2 (nI_1 _) (by decide) ?_
  refine ie_aload_n d145_118 (ix_lk3 (by decide) l0 rfl) ?_
  refine ie_iload_n d145_119 (ix_lk3 (by decide) l1 rfl) ?_
  refine ie_iload d145_120 (ix_lk3 (by decide) l4 rfl) ?_
  refine ie_iconst (nI 1) d145_122 (by decide) ?_
  refine ie_iadd d145_123 ?_
  rw [nI_add]
  refine mx_ask r M [_, _] d145_124 ok146 rm145_146 cl17_222 rfl rfl (Nat.le_of_ble_eq_true rfl) (Nat.le_of_ble_eq_true rfl) (s146 (p := p) (n := n) (r.ok M) r.2.2 ht (by rw [mset_k (by decide), mset_k (by decide), mGp_o (by decide)]; exact hp) hp6 (by rw [mset_k (by decide), mset_k (by decide), mGp_o (by decide)]; exact hn) hn64 (by omega)) ?_
  rw [mLost_o (S := S) (fun j => by rw [mset_k (by decide), mset_k (by decide), mGp_o (by decide)]), mLost_N]
  refine ie_istore_n d145_127 (by decide) ?_
  refine ie_goto 33 d145_128 (by decide) ?_
  exact kk hh (by rw [← mGp_s hg]; exact r) _ (ix_lk3 (by decide) (ix_lk3 (by decide) l0 rfl) rfl) (ix_lk3 (by decide) (ix_lk3 (by decide) l1 rfl) rfl) (ix_lk3 (by decide) ix_lk1 rfl) ix_lk1
set_option maxRecDepth 100000 in
set_option maxHeartbeats 4000000 in
/-- nak: the gaps -/
theorem s145_g {G : ix_G} {h0 : ix_H} {o : Nat} {S : MS} (M : md_ok h0 o) {t p n u : Nat} (ht : t < 640) (hp : S 25 t = nI p) (hp6 : p < 6) (hn : S 27 p = nI n) (hn64 : n ≤ 64) (hu : S 44 0 = nI u) (hu24 : u ≤ 24) :
    ∀ (z g : Nat), g ≤ 3 → 3 < g + z → (∀ i, i < g → gA S p ((n + 3) / 4) i < (n + 3) / 4) → ∀ h, mR o h0 h (mGp S p ((n + 3) / 4) g) → ∀ (lv : List (Nat × Value)), lv.lookup 0 = some (.ref o) → lv.lookup 1 = some (.int (nI t)) → lv.lookup 2 = some (.int (nI g)) → lv.lookup 3 = some (.int (if gA S p ((n + 3) / 4) g < (n + 3) / 4 then nI (gA S p ((n + 3) / 4) g) else -1)) → ix_E G 145 33 lv [] h (fun rv h' => rv = none ∧ mR o h0 h' (mNak S u t p n)) := by
  intro z
  induction z with
  | zero => intro g h1 h2; omega
  | succ z ih =>
    intro g hg hz hA h r lv l0 l1 l2 l3
    by_cases hAg : gA S p ((n + 3) / 4) g < (n + 3) / 4
    · rw [if_pos hAg] at l3
      unfold mNak
      refine ie_iload_n d145_33 l3 ?_
      refine ie_if_lt 131 d145_34 (by decide) (fun c34 => ?_) (fun c34 => ?_)
      · skip
        exact absurd ((nI_ltI (by omega) (by decide)).mp (show nI (gA S p ((n + 3) / 4) g) < nI 0 from c34)) (by omega)
      · skip
        refine ie_iload_n d145_37 l2 ?_
        refine ie_iconst (nI 3) d145_38 (by decide) ?_
        refine ie_icmp_ge 131 d145_39 (by decide) (fun c39 => ?_) (fun c39 => ?_)
        · skip
          rw [nI_leI (by decide) (by omega)] at c39
          rw [gC_e g (by omega) hA (Or.inl (by omega))]
          exact s145_e M r ht (by rw [mGp_o (by decide)]; exact hp) hp6 (by rw [mGp_o (by decide)]; exact hu) hu24 _ l0 l1 l2
        · skip
          rw [nI_leI (by decide) (by omega)] at c39
          refine ie_iload_n d145_42 l3 ?_
          refine ie_istore d145_43 (by decide) ?_
          exact s145_in M r ht (by rw [mGp_o (by decide)]; exact hp) hp6 (by rw [mGp_o (by decide)]; exact hn) hn64 (s145_st M r ht hp hp6 hn hn64 (by omega) hAg (fun h1 r lv l0 l1 l2 l3 => ih (g + 1) (by omega) (by omega) (fun i hi => by
            rcases Nat.lt_or_ge i g with w | w
            · exact hA i w
            · rw [show i = g from by omega]; exact hAg) h1 r lv l0 l1 l2 l3)) 17 _ hAg (by omega) (gE_o (fun j => mGp_o (by decide)) 17 _) _ (ix_lk3 (by decide) l0 rfl) (ix_lk3 (by decide) l1 rfl) (ix_lk3 (by decide) l2 rfl) (ix_lk3 (by decide) l3 rfl) ix_lk1
    · rw [if_neg hAg] at l3
      unfold mNak
      refine ie_iload_n d145_33 l3 ?_
      refine ie_if_lt 131 d145_34 (by decide) (fun c34 => ?_) (fun c34 => ?_)
      · skip
        rw [gC_e g (by omega) hA (Or.inr (by omega))]
        exact s145_e M r ht (by rw [mGp_o (by decide)]; exact hp) hp6 (by rw [mGp_o (by decide)]; exact hu) hu24 _ l0 l1 l2
      · skip
        exact absurd (show (-1 : Int32) < 0 from by decide) c34
set_option maxRecDepth 100000 in
set_option maxHeartbeats 4000000 in
/-- nak: the gaps are emptied -/
theorem s145_k {G : ix_G} {h0 : ix_H} {o : Nat} {S : MS} (M : md_ok h0 o) {t p n u : Nat} (ht : t < 640) (hp : S 25 t = nI p) (hp6 : p < 6) (hn : S 27 p = nI n) (hn64 : n ≤ 64) (hu : S 44 0 = nI u) (hu24 : u ≤ 24) :
    ∀ (z i : Nat), i ≤ 6 → 6 - i < z → ∀ h, mR o h0 h (mGz S i) → ∀ (lv : List (Nat × Value)), lv.lookup 0 = some (.ref o) → lv.lookup 1 = some (.int (nI t)) → lv.lookup 2 = some (.int (nI 0)) → lv.lookup 3 = some (.int (mLost S p ((n + 3) / 4) 17 0)) → lv.lookup 4 = some (.int (nI i)) → ix_E G 145 12 lv [] h (fun rv h' => rv = none ∧ mR o h0 h' (mNak S u t p n)) := by
  intro z
  induction z with
  | zero => intro i h1 h2; omega
  | succ z ih =>
    intro i hi hz h r lv l0 l1 l2 l3 l4
    refine ie_iload d145_12 l4 ?_
    refine ie_bipush (nI 6) d145_14 (by decide) ?_
    refine ie_icmp_ge 33 d145_16 (by decide) (fun c16 => ?_) (fun c16 => ?_)
    · skip
      rw [nI_leI (by omega) (by omega)] at c16
      have hi2 : i = 6 := by omega
      subst hi2
      exact s145_g M ht hp hp6 hn hn64 hu hu24 4 0 (by omega) (by omega) (fun i hi => by omega) _ (by rw [← mGz_6]; exact r) _ l0 l1 l2 (by rw [l3, mLost_N]; rfl)
    · skip
      rw [nI_leI (by omega) (by omega)] at c16
      refine ie_aload_n d145_19 l0 ?_
      refine mx_getr r M d145_20 fl17_137 rfl ?_
      refine ie_iload d145_23 l4 ?_
      refine ie_iconst (nI 0) d145_25 (by decide) ?_
      refine mx_iast (k := 47) (n := i) r M d145_26 rfl rfl rfl (by show i < 6; omega) (fun hh r => ?_)
      refine ie_iinc (nI (i + 1)) d145_27 l4 (nI_1 _) (by decide) ?_
      refine ie_goto 12 d145_30 (by decide) ?_
      exact ih (i + 1) (by omega) (by omega) hh (by rw [← mGz_s]; exact r) _ (ix_lk3 (by decide) l0 rfl) (ix_lk3 (by decide) l1 rfl) (ix_lk3 (by decide) l2 rfl) (ix_lk3 (by decide) l3 rfl) ix_lk1
set_option maxRecDepth 100000 in
set_option maxHeartbeats 4000000 in
/-- nak -/
theorem s145 {G : ix_G} {h : ix_H} {o : Nat} {S : MS} (M : md_ok h o) (hS : ms h o = S) {t p n u : Nat} (ht : t < 640) (hp : S 25 t = nI p) (hp6 : p < 6) (hn : S 27 p = nI n) (hn64 : n ≤ 64) (hu : S 44 0 = nI u) (hu24 : u ≤ 24) : ix_E G 145 0 (lv_args 0 [.ref o, .int (nI t)]) [] h (fun rv h' => rv = none ∧ mR o h h' (mNak S u t p n)) := by
  have r : mR o h h S := mR.rf hS
  refine ie_iconst (nI 0) d145_0 (by decide) ?_
  refine ie_istore_n d145_1 (by decide) ?_
  refine ie_aload_n d145_2 rfl ?_
  refine ie_iload_n d145_3 rfl ?_
  refine ie_iconst (nI 0) d145_4 (by decide) ?_
  refine mx_ask r M [_, _] d145_5 ok146 rm145_146 cl17_222 rfl rfl (Nat.le_of_ble_eq_true rfl) (Nat.le_of_ble_eq_true rfl) (s146 (p := p) (n := n) (r.ok M) r.2.2 ht hp hp6 hn hn64 (by omega)) ?_
  refine ie_istore_n d145_8 (by decide) ?_
  refine ie_iconst (nI 0) d145_9 (by decide) ?_
  refine ie_istore d145_10 (by decide) ?_
  exact s145_k M ht hp hp6 hn hn64 hu hu24 7 0 (by omega) (by omega) _ (by rw [mGz_0]; exact r) _ rfl rfl rfl rfl rfl
