set_option maxRecDepth 100000 in
set_option maxHeartbeats 4000000 in
/-- work -/
theorem s130 {G : ix_G} {h : ix_H} {o : Nat} {S : MS} (M : md_ok h o) (hS : ms h o = S) {t u f n k0 c st s0 : Nat} (ht : t < 640) (hu : S 44 0 = nI u) (hu24 : u ≤ 24) (hfi : nI (6 * (t / 320)) + S 9 t = nI f) (hf : f < 12) (hl : S 5 f = nI n) (hn64 : n ≤ 64) (hst : S 15 t = 0 ∧ S 21 t = 0 → S 14 t = nI st) (hst2 : st ≤ (n + 3) / 4 + 1) (hH : S 8 t = 1 → mHas 40 42 S (t / 320) k0 c t) (hH2 : ¬ S 15 t = 0 → mHas 40 42 S (t / 320) k0 c t) (hR : ¬ S 15 t = 0 → ¬ S 19 t = 0 → (¬ (S 19 t >>> (nI 16 &&& 31)) &&& nI 1 = nI 1 → rb (S 19 t) s0 ∧ (∀ s, s < s0 → ¬ rb (S 19 t) s) ∧ 4 * s0 < n)) : ix_E G 130 0 (lv_args 0 [.ref o, .int (nI t)]) [] h (fun rv h' => rv = none ∧ mR o h h' (mWork S u t f n k0 c st s0)) := by
  have r : mR o h h S := mR.rf hS
  refine ie_aload_n d130_0 rfl ?_
  refine mx_getr r M d130_1 fl17_65 rfl ?_
  refine ie_iload_n d130_4 rfl ?_
  refine mx_zald (k := 22) (n := t) r M d130_5 rfl rfl rfl (by show t < 640; exact ht) ?_
  refine ie_if_eq 10 d130_6 (by decide) (fun c6 => ?_) (fun c6 => ?_)
  · skip
    unfold mWork
    rw [if_pos c6]
    refine ie_aload_n d130_10 rfl ?_
    refine mx_getr r M d130_11 fl17_47 rfl ?_
    refine ie_iload_n d130_14 rfl ?_
    refine ie_dup2 d130_15 rfl rfl ?_
    refine mx_iald (k := 16) (n := t) r M d130_16 rfl rfl rfl (by show t < 640; exact ht) ?_
    refine ie_iconst (nI 1) d130_17 (by decide) ?_
    refine ie_iadd d130_18 ?_
    refine mx_iast (k := 16) (n := t) r M d130_19 rfl rfl rfl (by show t < 640; exact ht) (fun hh r => ?_)
    refine ie_aload_n d130_20 rfl ?_
    refine mx_getr r M d130_21 fl17_13 rfl ?_
    refine ie_aload_n d130_24 rfl ?_
    refine ie_iload_n d130_25 rfl ?_
    refine mx_ask r M [_] d130_26 ok131 rm130_131 cl17_181 rfl rfl (Nat.le_of_ble_eq_true rfl) (Nat.le_of_ble_eq_true rfl) (s131 (r.ok M) ht) ?_
    rw [r.2.2, mset_k (by decide), hfi]
    refine mx_iald (k := 5) (n := f) r M d130_29 rfl rfl rfl (by show f < 12; exact hf) ?_
    rw [mset_k (by decide)]
    rw [hl]
    refine ie_callSx [_] d130_30 ok132 rm130_132 cl17_164 rfl rfl (Nat.le_of_ble_eq_true rfl) (Nat.le_of_ble_eq_true rfl) (s132 _) ?_
    rw [seg_nI (by omega)]
    refine ie_istore_n d130_33 (by decide) ?_
    exact s130_wk M r ht (by rw [mset_k (by decide)]; exact hu) hu24 (by rw [mset_k (by decide)]; exact hfi) hf (by rw [mset_k (by decide)]; exact hl) hn64 (fun q => by rw [mset_k (by decide)]; exact hst ⟨by rw [mset_k (by decide)] at q; exact q.1, by have := q.2; rw [mset_k (by decide)] at this; exact this⟩) hst2 (fun q => mHas_o (hH (by rw [mset_k (by decide)] at q; exact q)) (fun j => mset_k (by decide)) (fun j => mset_k (by decide))) (fun q => mHas_o (hH2 (by rw [mset_k (by decide)] at q; exact q)) (fun j => mset_k (by decide)) (fun j => mset_k (by decide))) (by rw [mset_k (by decide), mset_k (by decide)]; exact hR) _ rfl rfl rfl
  · skip
    unfold mWork
    rw [if_neg c6]
    exact ie_vret d130_9 rfl ⟨rfl, r⟩
/-- bits a, a + 1, .. (so many) are set -/
def oR (x : Int32) (a : Nat) : Nat → Int32
  | 0 => x
  | k + 1 => oR x a k ||| (nI 1 <<< (nI (a + k) &&& 31))
/-- how many segments of a gap the file has -/
def gN (a b all : Nat) : Nat := (if b + 1 < all then b + 1 else all) - a
theorem gN_f (a b all : Nat) : gN a b all ≤ b + 1 - a ∧ gN a b all ≤ all - a ∧ (gN a b all = b + 1 - a ∨ gN a b all = all - a) := by
  unfold gN
  split <;> omega
/-- the repairs behind the first gaps -/
def oG (x : Int32) (A B : Nat → Nat) (all : Nat) : Nat → Int32
  | 0 => x
  | g + 1 => oR (oG x A B all g) (A g) (gN (A g) (B g) all)
def mGaps (S : MS) (gc : Nat) (A B : Nat → Nat) : Prop := gc ≤ 3 ∧ S 46 4 = nI gc ∧ ∀ g, g < gc → A g < 16 ∧ B g < 16 ∧ A g ≤ B g ∧ S 46 (5 + 2 * g) = nI (A g) ∧ S 46 (6 + 2 * g) = nI (B g)
def mAsked (S : MS) (t n gc : Nat) (A B : Nat → Nat) : MS := mset S 19 t (oG (if S 46 3 = 1 then S 19 t ||| 65536 else S 19 t) A B ((n + 3) / 4) gc)
set_option maxRecDepth 100000 in
set_option maxHeartbeats 4000000 in
/-- asked: one gap -/
theorem s151_in {G : ix_G} {h0 : ix_H} {o : Nat} {S : MS} (M : md_ok h0 o) {t all g A B : Nat} {x : Int32} {P : ix_O → ix_H → Prop} (ht : t < 640) (hg : g < 3) (hA : A < 16) (hBs : B < 16) (hAB : A ≤ B) (hal : all ≤ 16) (hB : S 46 (6 + 2 * g) = nI B)
    (kk : ∀ h1, mR o h0 h1 (mset S 19 t (oR x A (gN A B all))) → ∀ (lv : List (Nat × Value)), lv.lookup 0 = some (.ref o) → lv.lookup 1 = some (.int (nI t)) → lv.lookup 2 = some (.int (nI all)) → lv.lookup 3 = some (.int (nI g)) → ix_E G 151 108 lv [] h1 P) :
    ∀ (z k : Nat), k ≤ gN A B all → gN A B all - k < z → ∀ h, mR o h0 h (mset S 19 t (oR x A k)) → ∀ (lv : List (Nat × Value)), lv.lookup 0 = some (.ref o) → lv.lookup 1 = some (.int (nI t)) → lv.lookup 2 = some (.int (nI all)) → lv.lookup 3 = some (.int (nI g)) → lv.lookup 4 = some (.int (nI (A + k))) → ix_E G 151 63 lv [] h P := by
  intro z
  induction z with
  | zero => intro k h1 h2; omega
  | succ z ih =>
    intro k hk hz h r lv l0 l1 l2 l3 l4
    obtain ⟨g1, g2, g3⟩ := gN_f A B all
    refine ie_iload d151_63 l4 ?_
    refine ie_aload_n d151_65 l0 ?_
    refine mx_getr r M d151_66 fl17_134 rfl ?_
    refine ie_bipush (nI 6) d151_69 (by decide) ?_
    refine ie_iconst (nI 2) d151_71 (by decide) ?_
    refine ie_iload_n d151_72 l3 ?_
    refine ie_imul d151_73 ?_
    rw [pk_mul]
    refine ie_iadd d151_74 ?_
    rw [nI_add]
    refine mx_iald (k := 46) (n := (6 + 2 * g)) r M d151_75 rfl rfl rfl (by show 6 + 2 * g < 11; omega) ?_
    rw [mset_k (by decide), hB]
    refine ie_icmp_gt 108 d151_76 (by decide) (fun c76 => ?_) (fun c76 => ?_)
    · skip
      rw [nI_ltI (by omega) (by omega)] at c76
      have hk2 : k = gN A B all := by omega
      subst hk2
      exact kk _ r _ l0 l1 l2 l3
    · skip
      refine ie_iload d151_79 l4 ?_
      refine ie_iload_n d151_81 l2 ?_
      refine ie_icmp_ge 108 d151_82 (by decide) (fun c82 => ?_) (fun c82 => ?_)
      · skip
        rw [nI_leI (by omega) (by omega)] at c82
        rw [nI_ltI (by omega) (by omega)] at c76
        have hk2 : k = gN A B all := by omega
        subst hk2
        exact kk _ r _ l0 l1 l2 l3
      · skip
        rw [nI_leI (by omega) (by omega)] at c82
        rw [nI_ltI (by omega) (by omega)] at c76
        have hk2 : k < gN A B all := by omega
        refine ie_aload_n d151_85 l0 ?_
        refine mx_getr r M d151_86 fl17_56 rfl ?_
        refine ie_iload_n d151_89 l1 ?_
        refine ie_aload_n d151_90 l0 ?_
        refine mx_getr r M d151_91 fl17_56 rfl ?_
        refine ie_iload_n d151_94 l1 ?_
        refine mx_iald (k := 19) (n := t) r M d151_95 rfl rfl rfl (by show t < 640; exact ht) ?_
        rw [mset_s]
        refine ie_iconst (nI 1) d151_96 (by decide) ?_
        refine ie_iload d151_97 l4 ?_
        refine ie_ishl d151_99 ?_
        refine ie_ior d151_100 ?_
        refine mx_iast (k := 19) (n := t) r M d151_101 rfl rfl rfl (by show t < 640; exact ht) (fun hh r => ?_)
        refine ie_iinc (nI ((A + k) + 1)) d151_102 l4 (nI_1 _) (by decide) ?_
        refine ie_goto 63 d151_105 (by decide) ?_
        exact ih (k + 1) hk2 (by omega) hh (by rw [mset_mset] at r; exact r) _ (ix_lk3 (by decide) l0 rfl) (ix_lk3 (by decide) l1 rfl) (ix_lk3 (by decide) l2 rfl) (ix_lk3 (by decide) l3 rfl) (by rw [← Nat.add_assoc]; exact ix_lk1)
set_option maxRecDepth 100000 in
set_option maxHeartbeats 4000000 in
/-- asked: the gaps -/
theorem s151_out {G : ix_G} {h0 : ix_H} {o : Nat} {S : MS} (M : md_ok h0 o) {t all gc : Nat} {A B : Nat → Nat} {x : Int32} (ht : t < 640) (hal : all ≤ 16) (hG : mGaps S gc A B) :
    ∀ (z g : Nat), g ≤ gc → gc - g < z → ∀ h, mR o h0 h (mset S 19 t (oG x A B all g)) → ∀ (lv : List (Nat × Value)), lv.lookup 0 = some (.ref o) → lv.lookup 1 = some (.int (nI t)) → lv.lookup 2 = some (.int (nI all)) → lv.lookup 3 = some (.int (nI g)) → ix_E G 151 41 lv [] h (fun rv h' => rv = none ∧ mR o h0 h' (mset S 19 t (oG x A B all gc))) := by
  have hgc := hG.1
  intro z
  induction z with
  | zero => intro g h1 h2; omega
  | succ z ih =>
    intro g hg hz h r lv l0 l1 l2 l3
    refine ie_iload_n d151_41 l3 ?_
    refine ie_aload_n d151_42 l0 ?_
    refine mx_getr r M d151_43 fl17_134 rfl ?_
    refine ie_iconst (nI 4) d151_46 (by decide) ?_
    refine mx_iald (k := 46) (n := 4) r M d151_47 rfl rfl rfl (by decide) ?_
    rw [mset_k (by decide), hG.2.1]
    refine ie_icmp_ge 114 d151_48 (by decide) (fun c48 => ?_) (fun c48 => ?_)
    · skip
      rw [nI_leI (by omega) (by omega)] at c48
      have hg2 : g = gc := by omega
      subst hg2
      exact ie_vret d151_114 rfl ⟨rfl, r⟩
    · skip
      rw [nI_leI (by omega) (by omega)] at c48
      obtain ⟨q1, q2, q3, q4, q5⟩ := hG.2.2 g (by omega)
      refine ie_aload_n d151_51 l0 ?_
      refine mx_getr r M d151_52 fl17_134 rfl ?_
      refine ie_iconst (nI 5) d151_55 (by decide) ?_
      refine ie_iconst (nI 2) d151_56 (by decide) ?_
      refine ie_iload_n d151_57 l3 ?_
      refine ie_imul d151_58 ?_
      rw [pk_mul]
      refine ie_iadd d151_59 ?_
      rw [nI_add]
      refine mx_iald (k := 46) (n := (5 + 2 * g)) r M d151_60 rfl rfl rfl (by show 5 + 2 * g < 11; omega) ?_
      rw [mset_k (by decide), q4]
      refine ie_istore d151_61 (by decide) ?_
      exact s151_in M ht (by omega) q1 q2 q3 hal q5 (fun h1 r lv l0 l1 l2 l3 => by
        refine ie_iinc (nI (g + 1)) d151_108 l3 (nI_1 _) (by decide) ?_
        refine ie_goto 41 d151_111 (by decide) ?_
        exact ih (g + 1) (by omega) (by omega) h1 r _ (ix_lk3 (by decide) l0 rfl) (ix_lk3 (by decide) l1 rfl) (ix_lk3 (by decide) l2 rfl) ix_lk1) (gN (A g) (B g) all + 1) 0 (by omega) (by omega) h r _ (ix_lk3 (by decide) l0 rfl) (ix_lk3 (by decide) l1 rfl) (ix_lk3 (by decide) l2 rfl) (ix_lk3 (by decide) l3 rfl) ix_lk1
