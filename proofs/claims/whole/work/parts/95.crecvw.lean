/-! ===== the class's methods: a receiver's timers ===== -/
/-- a receiver, as its methods need it -/
def rSh (h : ix_H) (x r tx : Nat) : Prop := lkS h x ∧ ix_tg h r = 3 ∧ ix_r h r 0 = some tx ∧ ix_r h r 2 = some (cLk x) ∧ ix_tg h tx = 7 ∧ x + 30 ≤ r ∧ r < ix_nx h ∧ tx < ix_nx h ∧ x + 30 ≤ tx
theorem rSh_si {h : ix_H} {x r tx k : Nat} {v : Int32} (X : rSh h x r tx) : rSh (ix_si h r k v) x r tx := by
  obtain ⟨L, a1, a2, a4, a5, a6, a7, a8, a9⟩ := X
  exact ⟨lkS_c L ((sw.rfl.si).1 _ (by unfold cLk; omega)) ((sw.rfl.si).1 _ (by unfold cRo; omega)) (Nat.le_refl _), a1, a2, a4, a5, a6, a7, a8, a9⟩
theorem cRel.rsh {h : ix_H} {x : Nat} {S : MS} {T A R U D : Nat → Nat} {Lo Lr : Nat → List Nat} (C : cRel h x S T A R U D Lo Lr) (I : mInv S) {t : Nat} (hv : vT S t) (ho : opR S t) : rSh h x (R t) (T t) := by
  have c := C.rv hv ho
  have c1 := (C.tx hv).1
  exact ⟨C.lk I, c.2.1, c.2.2.1, c.2.2.2.2.1, c1.2.1, c.1, C.lt (by rw [c.2.1]; decide), C.lt (by rw [c1.2.1]; decide), c1.1⟩
set_option maxRecDepth 100000 in
set_option maxHeartbeats 4000000 in
/-- Receiver.launch -/
theorem s52 {G : ix_G} {h : ix_H} {x r tx : Nat} {w d c : Int32} (X : rSh h x r tx) : ix_Ev G 52 0 (lv_args 0 [.ref r, .int w, .int d, .int c]) [] h none (hOut x h tx w (ix_i h tx 0) d 0 c) := by
  obtain ⟨L, a1, a2, a4, a5, a6, a7, a8, a9⟩ := id X
  have s1 : r ≠ cLk x := by unfold cLk; omega
  have s2 : r ≠ cRo x := by unfold cRo; omega
  have stx : r ≠ tx := fun z => by rw [z, a5] at a1; exact absurd a1 (by decide)
  have x30 := L.2.2.2.2.2
  have en : ∀ b, b < ix_nx h → ix_tg (ix_nw h 8 0 6) b = ix_tg h b := fun b hb => by rw [ix_tg_nw, if_neg (by omega)]
  have er : ∀ b j, b < ix_nx h → ix_r (ix_nw h 8 0 6) b j = ix_r h b j := fun b j hb => by rw [ix_r_nw, if_neg (by omega)]
  have ei : ∀ b j, b < ix_nx h → ix_i (ix_nw h 8 0 6) b j = ix_i h b j := fun b j hb => by rw [ix_i_nw, if_neg (by omega)]
  refine ix_ofE ?_
  refine ie_aload_n d52_0 rfl ?_
  refine ie_getr _ d52_1 fl13_27 a1 a4 ?_
  refine ie_new d52_4 nl13_71 ?_
  show ix_E G 52 7 _ _ (ix_nw h 8 0 6) _
  refine ie_dup d52_7 rfl ?_
  refine ie_aload_n d52_8 rfl ?_
  refine ie_getr tx d52_9 fl13_19 (by rw [en r a7]; exact a1) (by rw [er r 0 a7]; exact a2) ?_
  refine ie_iload_n d52_12 rfl ?_
  refine ie_aload_n d52_13 rfl ?_
  refine ie_getr tx d52_14 fl13_19 (by rw [en r a7]; exact a1) (by rw [er r 0 a7]; exact a2) ?_
  refine ie_geti (k := 6) d52_17 fl13_165 (by rw [en tx a8]; exact a5) ?_
  rw [ei tx 0 a8]
  refine ie_iload_n d52_20 rfl ?_
  refine ie_iconst 0 d52_21 (by decide) ?_
  refine ie_iload_n d52_22 rfl ?_
  refine ie_callIx [_, _, _, _, _, _] d52_23 ok36 rm52_36 cl13_168 rfl rfl (Nat.le_of_ble_eq_true rfl) (Nat.le_of_ble_eq_true rfl) (s36 (n := ix_nx h) (by rw [ix_tg_nw, if_pos rfl])) ?_
  have Lu : lkS (hUn h tx w (ix_i h tx 0) d 0 c) x := lkS_c L (hUn_o (by unfold cLk; omega)) (hUn_o (by unfold cRo; omega)) (by rw [hUn_x]; omega)
  refine ie_callVx [_] d52_26 ok37 rm52_37 cl13_171 rfl rfl (Nat.le_of_ble_eq_true rfl) (Nat.le_of_ble_eq_true rfl) Lu.1 (s37 Lu hUn_n.1) ?_
  exact ie_vret d52_29 rfl ⟨rfl, rfl⟩
set_option maxRecDepth 100000 in
set_option maxHeartbeats 4000000 in
/-- Receiver.sendFinished -/
theorem s51 {G : ix_G} {h : ix_H} {x r tx : Nat} {now : Int32} (X : rSh h x r tx) : ix_Ev G 51 0 (lv_args 0 [.ref r, .int now]) [] h none (hOut x (ix_si (ix_si h r 10 (ix_i h r 10 + 1)) r 9 now) tx (nI 4) (ix_i h tx 0) (ix_i h r 11) 0 0) := by
  obtain ⟨L, a1, a2, a4, a5, a6, a7, a8, a9⟩ := id X
  have s1 : r ≠ cLk x := by unfold cLk; omega
  have s2 : r ≠ cRo x := by unfold cRo; omega
  have stx : r ≠ tx := fun z => by rw [z, a5] at a1; exact absurd a1 (by decide)
  have X2 := rSh_si (k := 9) (v := now) (rSh_si (k := 10) (v := ix_i h r 10 + 1) X)
  have r11 : ix_i (ix_si (ix_si h r 10 (ix_i h r 10 + 1)) r 9 now) r 11 = ix_i h r 11 := by rw [ix_i_si, if_neg (fun z => absurd z.2 (by decide)), ix_i_si, if_neg (fun z => absurd z.2 (by decide))]
  have rtx : ix_i (ix_si (ix_si h r 10 (ix_i h r 10 + 1)) r 9 now) tx 0 = ix_i h tx 0 := by rw [ix_i_si, if_neg (fun z => stx z.1.symm), ix_i_si, if_neg (fun z => stx z.1.symm)]
  refine ix_ofE ?_
  refine ie_aload_n d51_0 rfl ?_
  refine ie_dup d51_1 rfl ?_
  refine ie_geti (k := 2) d51_2 fl13_57 a1 ?_
  refine ie_iconst 1 d51_5 (by decide) ?_
  refine ie_iadd d51_6 ?_
  refine ie_puti (k := 2) d51_7 fl13_57 (Or.inl rfl) a1 rfl rfl ?_
  refine ie_aload_n d51_10 rfl ?_
  refine ie_iload_n d51_11 rfl ?_
  refine ie_puti (k := 2) d51_12 fl13_41 (Or.inl rfl) a1 rfl rfl ?_
  refine ie_aload_n d51_15 rfl ?_
  refine ie_iconst (nI 4) d51_16 (by decide) ?_
  refine ie_aload_n d51_17 rfl ?_
  refine ie_geti (k := 2) d51_18 fl13_34 a1 ?_
  rw [r11]
  refine ie_iconst 0 d51_21 (by decide) ?_
  refine ie_callVx [_, _, _] d51_22 ok52 rm51_52 cl13_75 rfl rfl (Nat.le_of_ble_eq_true rfl) (Nat.le_of_ble_eq_true rfl) a1 (s52 X2) ?_
  rw [rtx]
  exact ie_vret d51_25 rfl ⟨rfl, rfl⟩
set_option maxRecDepth 100000 in
set_option maxHeartbeats 4000000 in
/-- Receiver.missing -/
theorem s54 {G : ix_G} {h : ix_H} {r n : Nat} (ht : ix_tg h r = 3) (hn : ix_i h r 7 = nI n) (hn64 : n ≤ 64) : ix_Ev G 54 0 (lv_args 0 [.ref r]) [] h (some (.int (((nI 1 <<< (nI ((n + 3) / 4) &&& 31)) - 1) &&& (ix_i h r 6 ^^^ (-1))))) h := by
  refine ix_ofE ?_
  refine ie_iconst (nI 1) d54_0 (by decide) ?_
  refine ie_aload_n d54_1 rfl ?_
  refine ie_geti (k := 2) d54_2 fl13_15 ht ?_
  rw [hn]
  refine ie_callSx [_] d54_5 ok55 rm54_55 cl13_114 rfl rfl (Nat.le_of_ble_eq_true rfl) (Nat.le_of_ble_eq_true rfl) (s55 _) ?_
  rw [show (nI n + 4 - 1) / 4 = nI ((n + 3) / 4) from by rw [show (4 : Int32) = nI 4 from rfl, nI_add, nI_sub1 (by omega), pk_div (by omega) (by decide) (by decide)]; congr 2]
  refine ie_ishl d54_8 ?_
  refine ie_iconst 1 d54_9 (by decide) ?_
  refine ie_isub d54_10 ?_
  refine ie_aload_n d54_11 rfl ?_
  refine ie_geti (k := 2) d54_12 fl13_108 ht ?_
  refine ie_iconst (-1) d54_15 (by decide) ?_
  refine ie_ixor d54_16 ?_
  refine ie_iand d54_17 ?_
  exact ie_iret d54_18 rfl rfl ⟨rfl, rfl⟩
theorem miss_b {v : Int32} {a : Nat} (ha : a ≤ 16) {q : Nat} (hq : q < 32) : rb (((nI 1 <<< (nI a &&& 31)) - 1) &&& (v ^^^ (-1))) q ↔ q < a ∧ ¬ rb v q := by
  rw [rb_and hq, rb_msk a ha q hq, rb_not hq]
theorem rb_sh1 {k : Nat} (hk : k < 16) {m : Int32} : m &&& ((nI 1 <<< (nI k &&& 31)) >>> (nI 1 &&& 31)) = 0 ↔ (k = 0 ∨ ¬ rb m (k - 1)) := by
  have e : k ≠ 0 → (nI 1 <<< (nI k &&& 31)) >>> (nI 1 &&& 31) = nI 1 <<< (nI (k - 1) &&& 31) := (by decide +kernel : ∀ k, k < 16 → k ≠ 0 → (nI 1 <<< (nI k &&& 31)) >>> (nI 1 &&& 31) = nI 1 <<< (nI (k - 1) &&& 31)) k hk
  by_cases w : k = 0
  · subst w
    rw [show (nI 1 <<< (nI 0 &&& 31)) >>> (nI 1 &&& 31) = 0 from by decide +kernel]
    refine ⟨fun _ => Or.inl rfl, fun _ => rb_ext fun q hq => ?_⟩
    rw [rb_and hq]
    exact ⟨fun z => absurd z.2 (rb_0 hq), fun z => absurd z (rb_0 hq)⟩
  · rw [e w, rb_tst (by omega)]
    exact ⟨Or.inr, fun z => z.elim (fun y => absurd y w) id⟩
set_option maxRecDepth 100000 in
set_option maxHeartbeats 4000000 in
/-- Receiver.sendNak: its loop -/
theorem s53_l {G : ix_G} {h : ix_H} {r : Nat} {m : Int32} {P : ix_O → ix_H → Prop} :
    ∀ (z k g : Nat) (d : Int32), k ≤ 16 → 16 < k + z → g ≤ 3 → (∀ (lv : List (Nat × Value)), lv.lookup 0 = some (.ref r) → lv.lookup 3 = some (.int (nI (nkL m z k g d).1)) → lv.lookup 4 = some (.int (nkL m z k g d).2) → ix_E G 53 115 lv [] h P) → ∀ (lv : List (Nat × Value)), lv.lookup 0 = some (.ref r) → lv.lookup 2 = some (.int m) → lv.lookup 3 = some (.int (nI g)) → lv.lookup 4 = some (.int d) → lv.lookup 5 = some (.int (nI k)) → ix_E G 53 28 lv [] h P := by
  intro z
  induction z with
  | zero => intro k g d h1 h2; omega
  | succ z ih =>
    intro k g d hk hz hg kk lv l0 l2 l3 l4 l5
    refine ie_iload d53_28 l5 ?_
    refine ie_bipush (nI 16) d53_30 (by decide) ?_
    refine ie_icmp_ge 115 d53_32 (by decide) (fun c32 => ?_) (fun c32 => ?_)
    · rw [nI_leI (by omega) (by omega)] at c32
      have e : nkL m (z + 1) k g d = (g, d) := by unfold nkL; rw [if_pos c32]
      rw [e] at kk
      exact kk lv l0 l3 l4
    · rw [nI_leI (by omega) (by omega)] at c32
      refine ie_iconst (nI 1) d53_35 (by decide) ?_
      refine ie_iload d53_36 l5 ?_
      refine ie_ishl d53_38 ?_
      refine ie_istore d53_39 (by decide) ?_
      refine ie_iload_n d53_41 (ix_lk3 (by decide) l2 rfl) ?_
      refine ie_iload d53_42 ix_lk1 ?_
      refine ie_iand d53_44 ?_
      refine ie_if_eq 52 d53_45 (by decide) (fun c45 => ?_) (fun c45 => ?_)
      · rw [rb_tst (by omega)] at c45
        have e : nkL m (z + 1) k g d = nkL m z (k + 1) g d := by
          rw [nkL, if_neg c32, if_neg (fun y => c45 y.1.1), if_neg (fun y => c45 y.1), if_neg c45]
        rw [e] at kk
        refine ie_iconst (nI 0) d53_52 (by decide) ?_
        refine ie_istore d53_53 (by decide) ?_
        refine ie_iload d53_55 ix_lk1 ?_
        refine ie_if_eq 73 d53_57 (by decide) (fun _ => ?_) (fun y => absurd (by decide) y)
        refine ie_iconst (nI 0) d53_73 (by decide) ?_
        refine ie_istore d53_74 (by decide) ?_
        refine ie_iload d53_76 ix_lk1 ?_
        refine ie_if_eq 89 d53_78 (by decide) (fun _ => ?_) (fun y => absurd (by decide) y)
        refine ie_iload d53_89 ix_lk1 ?_
        refine ie_if_eq 97 d53_91 (by decide) (fun _ => ?_) (fun y => absurd (by decide) y)
        refine ie_iload d53_97 (ix_lk3 (by decide) ix_lk1 rfl) ?_
        refine ie_if_eq 109 d53_99 (by decide) (fun _ => ?_) (fun y => absurd (by decide) y)
        refine ie_iinc (nI (k + 1)) d53_109 (ix_lk3 (by decide) (ix_lk3 (by decide) (ix_lk3 (by decide) l5 rfl) rfl) rfl) (nI_1 _) (by decide) ?_
        refine ie_goto 28 d53_112 (by decide) ?_
        exact ih (k + 1) g d (by omega) (by omega) hg kk _ (ix_lk3 (by decide) (ix_lk3 (by decide) (ix_lk3 (by decide) (ix_lk3 (by decide) l0 rfl) rfl) rfl) rfl) (ix_lk3 (by decide) (ix_lk3 (by decide) (ix_lk3 (by decide) (ix_lk3 (by decide) l2 rfl) rfl) rfl) rfl) (ix_lk3 (by decide) (ix_lk3 (by decide) (ix_lk3 (by decide) (ix_lk3 (by decide) l3 rfl) rfl) rfl) rfl) (ix_lk3 (by decide) (ix_lk3 (by decide) (ix_lk3 (by decide) (ix_lk3 (by decide) l4 rfl) rfl) rfl) rfl) ix_lk1
      · have c45' : rb m k := Classical.byContradiction fun y => c45 ((rb_tst (by omega)).mpr y)
        refine ie_iconst (nI 1) d53_48 (by decide) ?_
        refine ie_goto 53 d53_49 (by decide) ?_
        refine ie_istore d53_53 (by decide) ?_
        refine ie_iload d53_55 ix_lk1 ?_
        refine ie_if_eq 73 d53_57 (by decide) (fun y => absurd y (by decide)) (fun _ => ?_)
        refine ie_iload_n d53_60 (ix_lk3 (by decide) (ix_lk3 (by decide) l2 rfl) rfl) ?_
        refine ie_iload d53_61 (ix_lk3 (by decide) ix_lk1 rfl) ?_
        refine ie_iconst (nI 1) d53_63 (by decide) ?_
        refine ie_ishr d53_64 ?_
        refine ie_iand d53_65 ?_
        refine ie_if_ne 73 d53_66 (by decide) (fun c66 => ?_) (fun c66 => ?_)
        · have nb : ¬ (rb m k ∧ (k = 0 ∨ ¬ rb m (k - 1))) := fun y => c66 ((rb_sh1 (by omega)).mpr y.2)
          have e : nkL m (z + 1) k g d = nkL m z (k + 1) g (d ||| (nI 1 <<< (nI k &&& 31))) := by
            rw [nkL, if_neg c32, if_neg (fun y => nb y.1), if_neg nb, if_pos c45']
          rw [e] at kk
          refine ie_iconst (nI 0) d53_73 (by decide) ?_
          refine ie_istore d53_74 (by decide) ?_
          refine ie_iload d53_76 ix_lk1 ?_
          refine ie_if_eq 89 d53_78 (by decide) (fun _ => ?_) (fun y => absurd (by decide) y)
          refine ie_iload d53_89 ix_lk1 ?_
          refine ie_if_eq 97 d53_91 (by decide) (fun _ => ?_) (fun y => absurd (by decide) y)
          refine ie_iload d53_97 (ix_lk3 (by decide) ix_lk1 rfl) ?_
          refine ie_if_eq 109 d53_99 (by decide) (fun y => absurd y (by decide)) (fun _ => ?_)
          refine ie_iload d53_102 (ix_lk3 (by decide) (ix_lk3 (by decide) (ix_lk3 (by decide) l4 rfl) rfl) rfl) ?_
          refine ie_iload d53_104 (ix_lk3 (by decide) (ix_lk3 (by decide) ix_lk1 rfl) rfl) ?_
          refine ie_ior d53_106 ?_
          refine ie_istore d53_107 (by decide) ?_
          refine ie_iinc (nI (k + 1)) d53_109 (ix_lk3 (by decide) (ix_lk3 (by decide) (ix_lk3 (by decide) (ix_lk3 (by decide) l5 rfl) rfl) rfl) rfl) (nI_1 _) (by decide) ?_
          refine ie_goto 28 d53_112 (by decide) ?_
          exact ih (k + 1) g _ (by omega) (by omega) hg kk _ (ix_lk3 (by decide) (ix_lk3 (by decide) (ix_lk3 (by decide) (ix_lk3 (by decide) (ix_lk3 (by decide) l0 rfl) rfl) rfl) rfl) rfl) (ix_lk3 (by decide) (ix_lk3 (by decide) (ix_lk3 (by decide) (ix_lk3 (by decide) (ix_lk3 (by decide) l2 rfl) rfl) rfl) rfl) rfl) (ix_lk3 (by decide) (ix_lk3 (by decide) (ix_lk3 (by decide) (ix_lk3 (by decide) (ix_lk3 (by decide) l3 rfl) rfl) rfl) rfl) rfl) (ix_lk3 (by decide) ix_lk1 rfl) ix_lk1
        · have bg : rb m k ∧ (k = 0 ∨ ¬ rb m (k - 1)) := ⟨c45', (rb_sh1 (by omega)).mp c66⟩
          refine ie_iconst (nI 1) d53_69 (by decide) ?_
          refine ie_goto 74 d53_70 (by decide) ?_
          refine ie_istore d53_74 (by decide) ?_
          refine ie_iload d53_76 ix_lk1 ?_
          refine ie_if_eq 89 d53_78 (by decide) (fun y => absurd y (by decide)) (fun _ => ?_)
          refine ie_iload_n d53_81 (ix_lk3 (by decide) (ix_lk3 (by decide) (ix_lk3 (by decide) l3 rfl) rfl) rfl) ?_
          refine ie_iconst (nI 3) d53_82 (by decide) ?_
          refine ie_icmp_ne 89 d53_83 (by decide) (fun c83 => ?_) (fun c83 => ?_)
          · rw [nI_eq (by omega) (by decide)] at c83
            have e : nkL m (z + 1) k g d = nkL m z (k + 1) (g + 1) (d ||| (nI 1 <<< (nI k &&& 31))) := by
              rw [nkL, if_neg c32, if_neg (fun y => c83 y.2), if_pos bg, if_pos c45']
            rw [e] at kk
            refine ie_iload d53_89 ix_lk1 ?_
            refine ie_if_eq 97 d53_91 (by decide) (fun y => absurd y (by decide)) (fun _ => ?_)
            refine ie_iinc (nI (g + 1)) d53_94 (ix_lk3 (by decide) (ix_lk3 (by decide) (ix_lk3 (by decide) l3 rfl) rfl) rfl) (nI_1 _) (by decide) ?_
            refine ie_iload d53_97 (ix_lk3 (by decide) (ix_lk3 (by decide) ix_lk1 rfl) rfl) ?_
            refine ie_if_eq 109 d53_99 (by decide) (fun y => absurd y (by decide)) (fun _ => ?_)
            refine ie_iload d53_102 (ix_lk3 (by decide) (ix_lk3 (by decide) (ix_lk3 (by decide) (ix_lk3 (by decide) l4 rfl) rfl) rfl) rfl) ?_
            refine ie_iload d53_104 (ix_lk3 (by decide) (ix_lk3 (by decide) (ix_lk3 (by decide) ix_lk1 rfl) rfl) rfl) ?_
            refine ie_ior d53_106 ?_
            refine ie_istore d53_107 (by decide) ?_
            refine ie_iinc (nI (k + 1)) d53_109 (ix_lk3 (by decide) (ix_lk3 (by decide) (ix_lk3 (by decide) (ix_lk3 (by decide) (ix_lk3 (by decide) l5 rfl) rfl) rfl) rfl) rfl) (nI_1 _) (by decide) ?_
            refine ie_goto 28 d53_112 (by decide) ?_
            exact ih (k + 1) (g + 1) _ (by omega) (by omega) (by omega) kk _ (ix_lk3 (by decide) (ix_lk3 (by decide) (ix_lk3 (by decide) (ix_lk3 (by decide) (ix_lk3 (by decide) (ix_lk3 (by decide) l0 rfl) rfl) rfl) rfl) rfl) rfl) (ix_lk3 (by decide) (ix_lk3 (by decide) (ix_lk3 (by decide) (ix_lk3 (by decide) (ix_lk3 (by decide) (ix_lk3 (by decide) l2 rfl) rfl) rfl) rfl) rfl) rfl) (ix_lk3 (by decide) (ix_lk3 (by decide) ix_lk1 rfl) rfl) (ix_lk3 (by decide) ix_lk1 rfl) ix_lk1
          · rw [nI_eq (by omega) (by decide)] at c83
            have e : nkL m (z + 1) k g d = (g, d) := by
              rw [nkL, if_neg c32, if_pos ⟨bg, c83⟩]
            rw [e] at kk
            refine ie_goto 115 d53_86 (by decide) ?_
            exact kk _ (ix_lk3 (by decide) (ix_lk3 (by decide) (ix_lk3 (by decide) l0 rfl) rfl) rfl) (ix_lk3 (by decide) (ix_lk3 (by decide) (ix_lk3 (by decide) l3 rfl) rfl) rfl) (ix_lk3 (by decide) (ix_lk3 (by decide) (ix_lk3 (by decide) l4 rfl) rfl) rfl)
set_option maxRecDepth 100000 in
set_option maxHeartbeats 4000000 in
/-- Receiver.sendNak -/
theorem s53 {G : ix_G} {h : ix_H} {x r tx n : Nat} {now : Int32} (X : rSh h x r tx) (hn : ix_i h r 7 = nI n) (hn64 : n ≤ 64) : ix_Ev G 53 0 (lv_args 0 [.ref r, .int now]) [] h none (hOut x (ix_si (ix_si h r 10 (ix_i h r 10 + 1)) r 9 now) tx (nI 6) (ix_i h tx 0) (if ix_i h r 5 = 0 then nI (nkL (((nI 1 <<< (nI ((n + 3) / 4) &&& 31)) - 1) &&& (ix_i h r 6 ^^^ (-1))) 17 0 0 0).1 + nI 8 else nI (nkL (((nI 1 <<< (nI ((n + 3) / 4) &&& 31)) - 1) &&& (ix_i h r 6 ^^^ (-1))) 17 0 0 0).1) 0 (nkL (((nI 1 <<< (nI ((n + 3) / 4) &&& 31)) - 1) &&& (ix_i h r 6 ^^^ (-1))) 17 0 0 0).2) := by
  obtain ⟨L, a1, a2, a4, a5, a6, a7, a8, a9⟩ := id X
  have s1 : r ≠ cLk x := by unfold cLk; omega
  have s2 : r ≠ cRo x := by unfold cRo; omega
  have stx : r ≠ tx := fun z => by rw [z, a5] at a1; exact absurd a1 (by decide)
  have X2 := rSh_si (k := 9) (v := now) (rSh_si (k := 10) (v := ix_i h r 10 + 1) X)
  have rr : ∀ k, k ≠ 9 → k ≠ 10 → ix_i (ix_si (ix_si h r 10 (ix_i h r 10 + 1)) r 9 now) r k = ix_i h r k := fun k h1 h2 => by rw [ix_i_si, if_neg (fun z => h1 z.2), ix_i_si, if_neg (fun z => h2 z.2)]
  have rtx : ix_i (ix_si (ix_si h r 10 (ix_i h r 10 + 1)) r 9 now) tx 0 = ix_i h tx 0 := by rw [ix_i_si, if_neg (fun z => stx z.1.symm), ix_i_si, if_neg (fun z => stx z.1.symm)]
  refine ix_ofE ?_
  refine ie_aload_n d53_0 rfl ?_
  refine ie_dup d53_1 rfl ?_
  refine ie_geti (k := 2) d53_2 fl13_57 a1 ?_
  refine ie_iconst 1 d53_5 (by decide) ?_
  refine ie_iadd d53_6 ?_
  refine ie_puti (k := 2) d53_7 fl13_57 (Or.inl rfl) a1 rfl rfl ?_
  refine ie_aload_n d53_10 rfl ?_
  refine ie_iload_n d53_11 rfl ?_
  refine ie_puti (k := 2) d53_12 fl13_41 (Or.inl rfl) a1 rfl rfl ?_
  refine ie_aload_n d53_15 rfl ?_
  refine ie_callVx [] d53_16 ok54 rm53_54 cl13_118 rfl rfl (Nat.le_of_ble_eq_true rfl) (Nat.le_of_ble_eq_true rfl) a1 (s54 (n := n) a1 (by rw [rr 7 (by decide) (by decide)]; exact hn) hn64) ?_
  rw [rr 6 (by decide) (by decide)]
  refine ie_istore_n d53_19 (by decide) ?_
  refine ie_iconst (nI 0) d53_20 (by decide) ?_
  refine ie_istore_n d53_21 (by decide) ?_
  refine ie_iconst 0 d53_22 (by decide) ?_
  refine ie_istore d53_23 (by decide) ?_
  refine ie_iconst (nI 0) d53_25 (by decide) ?_
  refine ie_istore d53_26 (by decide) ?_
  refine s53_l (r := r) 17 0 0 0 (by omega) (by omega) (by omega) (fun lv l0 l3 l4 => ?_) _ rfl rfl rfl rfl rfl
  refine ie_aload_n d53_115 l0 ?_
  refine ie_bipush (nI 6) d53_116 (by decide) ?_
  refine ie_aload_n d53_118 l0 ?_
  refine ie_geti (k := 2) d53_119 fl13_96 a1 ?_
  rw [rr 5 (by decide) (by decide)]
  refine ie_if_eq 129 d53_122 (by decide) (fun c => ?_) (fun c => ?_)
  · refine ie_iload_n d53_129 l3 ?_
    refine ie_bipush (nI 8) d53_130 (by decide) ?_
    refine ie_iadd d53_132 ?_
    refine ie_iload d53_133 l4 ?_
    refine ie_callVx [_, _, _] d53_135 ok52 rm53_52 cl13_75 rfl rfl (Nat.le_of_ble_eq_true rfl) (Nat.le_of_ble_eq_true rfl) a1 (s52 X2) ?_
    rw [rtx, if_pos c]
    exact ie_vret d53_138 rfl ⟨rfl, rfl⟩
  · refine ie_iload_n d53_125 l3 ?_
    refine ie_goto 133 d53_126 (by decide) ?_
    refine ie_iload d53_133 l4 ?_
    refine ie_callVx [_, _, _] d53_135 ok52 rm53_52 cl13_75 rfl rfl (Nat.le_of_ble_eq_true rfl) (Nat.le_of_ble_eq_true rfl) a1 (s52 X2) ?_
    rw [rtx, if_neg c]
    exact ie_vret d53_138 rfl ⟨rfl, rfl⟩
