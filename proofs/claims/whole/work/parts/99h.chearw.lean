set_option maxRecDepth 100000 in
set_option maxHeartbeats 4000000 in
/-- Sender.noteAnswer -/
theorem s65 {G : ix_G} {h : ix_H} {s v : Nat} (ht : ix_tg h s = 4) (hv : ix_tg h v = 8) (hsv : ¬ v = s) (b9 : ix_i h s 9 = 0 ∨ ix_i h s 9 = 1) : ix_Ev G 65 0 (lv_args 0 [.ref s, .ref v]) [] h none (if ix_i h s 11 = 0 then h else if ix_i h v 1 = nI 5 then ix_si h s 8 (nI 1) else if ix_i h v 1 = nI 6 ∧ ix_i h s 6 = 0 then ix_si (ix_si h s 9 (ix_i h s 9 ||| bI (¬ ix_i h v 3 < nI 8))) s 10 (ix_i h s 10 ||| (ix_i h v 5 &&& ((nI 1 <<< (ix_i h s 4 &&& 31)) - 1))) else h) := by
  refine ix_ofE ?_
  refine ie_aload_n d65_0 rfl ?_
  refine ie_geti (k := 3) d65_1 fl10_64 ht ?_
  refine ie_if_ne 8 d65_4 (by decide) (fun c4 => ?_) (fun c4 => ?_)
  · rw [if_neg c4]
    refine ie_aload_n d65_8 rfl ?_
    refine ie_geti (k := 7) d65_9 fl10_136 hv ?_
    refine ie_iconst (nI 5) d65_12 (by decide) ?_
    refine ie_icmp_ne 24 d65_13 (by decide) (fun c13 => ?_) (fun c13 => ?_)
    · rw [if_neg c13]
      refine ie_aload_n d65_24 rfl ?_
      refine ie_geti (k := 7) d65_25 fl10_136 hv ?_
      refine ie_bipush (nI 6) d65_28 (by decide) ?_
      refine ie_icmp_ne 85 d65_30 (by decide) (fun c30 => ?_) (fun c30 => ?_)
      · rw [if_neg (fun z => c30 z.1)]
        exact ie_vret d65_85 rfl ⟨rfl, rfl⟩
      · have c30' : ix_i h v 1 = nI 6 := c30
        refine ie_aload_n d65_33 rfl ?_
        refine ie_geti (k := 3) d65_34 fl10_54 ht ?_
        refine ie_if_ne 85 d65_37 (by decide) (fun c37 => ?_) (fun c37 => ?_)
        · rw [if_neg (fun z => c37 z.2)]
          exact ie_vret d65_85 rfl ⟨rfl, rfl⟩
        · have c37' : ix_i h s 6 = 0 := c37
          rw [if_pos ⟨c30', c37'⟩]
          refine ie_aload_n d65_40 rfl ?_
          refine ie_dup d65_41 rfl ?_
          refine ie_geti (k := 3) d65_42 fl10_58 ht ?_
          refine ie_aload_n d65_45 rfl ?_
          refine ie_geti (k := 7) d65_46 fl10_139 hv ?_
          refine ie_bipush (nI 8) d65_49 (by decide) ?_
          have tail : ∀ b : Int32, b = bI (¬ ix_i h v 3 < nI 8) → ix_E G 65 59 (lv_args 0 [.ref s, .ref v]) [.int b, .int (ix_i h s 9), .ref s] h (fun r h' => r = none ∧ h' = ix_si (ix_si h s 9 (ix_i h s 9 ||| bI (¬ ix_i h v 3 < nI 8))) s 10 (ix_i h s 10 ||| (ix_i h v 5 &&& ((nI 1 <<< (ix_i h s 4 &&& 31)) - 1)))) := by
            intro b hb
            rw [← hb]
            have hz : ix_i h s 9 ||| b = 0 ∨ ix_i h s 9 ||| b = 1 := by
              rcases bI_01 (¬ ix_i h v 3 < nI 8) with w | w <;> rw [w] at hb <;> rw [hb] <;> rcases b9 with y | y <;> rw [y] <;> decide
            refine ie_ior d65_59 ?_
            refine ie_puti (k := 3) d65_60 fl10_58 (Or.inl rfl) ht (ix_bz hz).1 (ix_bz hz).2 ?_
            refine ie_aload_n d65_63 rfl ?_
            refine ie_dup d65_64 rfl ?_
            refine ie_geti (k := 3) d65_65 fl10_61 ht ?_
            refine ie_aload_n d65_68 rfl ?_
            refine ie_geti (k := 7) d65_69 fl10_145 hv ?_
            refine ie_iconst (nI 1) d65_72 (by decide) ?_
            refine ie_aload_n d65_73 rfl ?_
            refine ie_geti (k := 3) d65_74 fl10_44 ht ?_
            refine ie_ishl d65_77 ?_
            refine ie_iconst 1 d65_78 (by decide) ?_
            refine ie_isub d65_79 ?_
            refine ie_iand d65_80 ?_
            refine ie_ior d65_81 ?_
            refine ie_puti (k := 3) d65_82 fl10_61 (Or.inl rfl) ht rfl rfl ?_
            refine ie_vret d65_85 rfl ⟨rfl, ?_⟩
            rw [ix_i_si, if_neg (fun z => absurd z.2 (by decide)), ix_i_si, if_neg (fun z => hsv z.1), ix_i_si, if_neg (fun z => absurd z.2 (by decide))]
          refine ie_icmp_lt 58 d65_51 (by decide) (fun c51 => ?_) (fun c51 => ?_)
          · refine ie_iconst 0 d65_58 (by decide) ?_
            exact tail 0 (bI_f (fun z => z c51)).symm
          · refine ie_iconst 1 d65_54 (by decide) ?_
            refine ie_goto 59 d65_55 (by decide) ?_
            exact tail 1 (bI_t (show ¬ ix_i h v 3 < nI 8 from c51)).symm
    · have c13' : ix_i h v 1 = nI 5 := c13
      rw [if_pos c13']
      refine ie_aload_n d65_16 rfl ?_
      refine ie_iconst (nI 1) d65_17 (by decide) ?_
      refine ie_puti (k := 3) d65_18 fl10_67 (Or.inl rfl) ht rfl rfl ?_
      refine ie_goto 85 d65_21 (by decide) ?_
      exact ie_vret d65_85 rfl ⟨rfl, rfl⟩
  · rw [if_pos c4]
    exact ie_vret d65_7 rfl ⟨rfl, rfl⟩
set_option maxRecDepth 100000 in
set_option maxHeartbeats 4000000 in
/-- Sender.hear -/
theorem s64 {G : ix_G} {h : ix_H} {x : Nat} {S : MS} {T A R U D : Nat → Nat} {Lo Lr : Nat → List Nat} {t u n k0 c gc v : Nat} {B1 B2 : Nat → Nat} (I : mInv S) (C : cRel h x S T A R U D Lo Lr) (hv : vT S t) (ck : cK S t) (hu : S 44 0 = nI u) (hu24 : u ≤ 24) (hn : n = fN S t) (hn64 : n ≤ 64) (hH : S 13 t = nI 5 → mHas 40 42 S (t / 320) k0 c t) (hG : S 46 0 = nI 6 → mGaps S gc B1 B2) (a : cUa h x S (T t) v) : ix_E G 64 0 (lv_args 0 [.ref (A t), .ref v]) [] h (fun rv h' => rv = none ∧ cPo x h h' 1 6 ∧ ∃ U', cRel h' x (mToS S u t n k0 c gc B1 B2) T A R U' D Lo Lr) := by
  have w := (C.tx hv).2.1
  have z := (C.tx hv).1
  have t6 := hv.1
  have hlk := C.lk I
  have vA : ¬ v = A t := fun q => by
    have := a.2.1
    rw [q, w.2.1] at this
    exact absurd this (by decide)
  have vlt : v < ix_nx h := C.lt (by rw [a.2.1]; decide)
  have alt : A t < ix_nx h := C.lt (by rw [w.2.1]; decide)
  have xlt : T t < ix_nx h := C.lt (by rw [z.2.1]; decide)
  have P0 : cPo x h h 1 6 := cPo.rfl.m (by decide) (by decide)
  have clA : ∀ h1, ix_tg h1 (A t) = 4 → cCl h1 x (A t) := fun h1 hh => cCl_of hh (by decide)
  refine ie_aload_n d64_0 rfl ?_
  refine ie_getr _ d64_1 fl10_15 w.2.1 w.2.2.1 ?_
  refine ie_callVx [] d64_4 ok45 rm64_45 cl10_98 rfl rfl (Nat.le_of_ble_eq_true rfl) (Nat.le_of_ble_eq_true rfl) z.2.1 (s45 z.2.1) ?_
  rw [z.2.2.2.2.2.2.1]
  unfold mToS
  refine ie_if_ne 11 d64_7 (by decide) (fun c7 => ?_) (fun c7 => ?_)
  · have a8 : S 8 t = nI 2 := Classical.byContradiction fun y => c7 (bI_0.mpr y)
    rw [if_neg (by rw [a8]; decide)]
    refine ie_aload_n d64_11 rfl ?_
    refine ie_geti (k := 7) d64_12 fl10_136 a.2.1 ?_
    rw [a.2.2.2.1]
    refine ie_iconst (nI 4) d64_15 (by decide) ?_
    refine ie_icmp_ne 45 d64_16 (by decide) (fun c16 => ?_) (fun c16 => ?_)
    · rw [if_neg c16]
      unfold mTS1
      refine ie_aload_n d64_45 rfl ?_
      refine ie_callVx [] d64_46 ok26 rm64_26 cl10_50 rfl rfl (Nat.le_of_ble_eq_true rfl) (Nat.le_of_ble_eq_true rfl) w.2.1 (s26 w.2.1) ?_
      refine ie_if_eq 65 d64_49 (by decide) (fun c49 => ?_) (fun c49 => ?_)
      · have o : ¬ S 13 t = nI 5 := fun o => bI_0.mp c49 (C.so hv o).1
        rw [if_neg o]
        exact ie_vret d64_65 rfl ⟨rfl, P0, U, C⟩
      · have o : S 13 t = nI 5 := Classical.byContradiction fun o => by
          have e1 := w.2.2.2.2.2.2.2 o
          have e2 : ix_i h (A t) 15 = 0 := Classical.byContradiction fun z => c49 (bI_0.mpr z)
          obtain ⟨m, m1, m2, m3⟩ := (I.T hv).2.2.2.2.2.1
          rw [e2, m3] at e1
          exact nI_ne0 (by omega) (by omega) e1.symm
        rw [if_pos o]
        have so := C.so hv o
        refine ie_aload_n d64_52 rfl ?_
        refine ie_aload_n d64_53 rfl ?_
        refine ie_geti (k := 3) d64_54 fl10_73 w.2.1 ?_
        rw [so.2.2.2.2.2.2.2.2.2.1]
        refine ie_puti (k := 3) d64_57 fl10_85 (Or.inl rfl) w.2.1 rfl rfl ?_
        have C1 := C.clk I hv o
        have I1 := mInv_w (k := 18) (x := S 16 t) I hv (Or.inr (Or.inr rfl))
        have hv1 : vT (mset S 18 t (S 16 t)) t := (vT_c mset_L (by decide)).mpr hv
        have o1 : mset S 18 t (S 16 t) 13 t = nI 5 := by rw [mset_k (by decide)]; exact o
        have P1 : cPo x h (ix_si h (A t) 14 (S 16 t)) 1 6 := P0.si (clA _ w.2.1)
        have a1 : cUa (ix_si h (A t) 14 (S 16 t)) x (mset S 18 t (S 16 t)) (T t) v := cUa_c a ((sw.rfl.si).1 v vA) (mset_kk (by decide))
        have so1 := C1.so hv1 o1
        have w1 : ix_tg (ix_si h (A t) 14 (S 16 t)) (A t) = 4 := w.2.1
        have e15 : mset S 18 t (S 16 t) 15 t = S 15 t := mset_k (by decide)
        have e21 : mset S 18 t (S 16 t) 21 t = S 21 t := mset_k (by decide)
        have e46 : mset S 18 t (S 16 t) 46 = S 46 := mset_kk (by decide)
        have en : fN (mset S 18 t (S 16 t)) t = fN S t := fN_c mset_L (by decide)
        have b15 : S 15 t ≤ 0 ↔ S 15 t = 0 := by
          obtain ⟨m, m1, m2, m3⟩ := (I.S hv o).2.2.1
          rw [m3, show (0 : Int32) = nI 0 from rfl, nI_leI (by omega) (by decide), nI_eq (by omega) (by decide)]
          omega
        unfold mTS2
        rw [if_neg c16]
        generalize ix_si h (A t) 14 (S 16 t) = h1 at *
        generalize hS1 : mset S 18 t (S 16 t) = S1 at *
        refine ie_aload_n d64_60 rfl ?_
        refine ie_aload_n d64_61 rfl ?_
        refine ie_callVx [_] d64_62 ok65 rm64_65 cl10_142 rfl rfl (Nat.le_of_ble_eq_true rfl) (Nat.le_of_ble_eq_true rfl) w1 (s65 w1 a1.2.1 vA (so1.2.2.2.2.2.2.1.imp (fun y => y.1) (fun y => y.1))) ?_
        rw [so1.2.2.2.2.2.2.2.2.1, a1.2.2.2.1, so1.2.2.2.1, e15, e21, e46]
        refine ie_vret d64_65 rfl ⟨rfl, ?_, ?_⟩
        · by_cases q1 : S 15 t = 0
          · rw [if_pos q1]; exact P1
          · rw [if_neg q1]
            by_cases q2 : S 46 0 = nI 5
            · rw [if_pos q2]; exact P1.si (clA _ w1)
            · rw [if_neg q2]
              by_cases q3 : S 46 0 = nI 6 ∧ S 21 t = 0
              · rw [if_pos q3]; exact (P1.si (clA _ w1)).si (clA _ w1)
              · rw [if_neg q3]; exact P1
        · by_cases q1 : S 15 t = 0
          · rw [if_pos q1, if_pos (b15.mpr q1), if_pos (Or.inl (b15.mpr q1))]
            refine ⟨U, ?_⟩
            split
            · exact C1
            · split <;> exact C1
          · rw [if_neg q1, if_neg (fun y => q1 (b15.mp y))]
            by_cases q2 : S 46 0 = nI 5
            · rw [if_pos q2, if_pos q2]
              exact ⟨U, W_ack I1 C1 hv1 o1⟩
            · rw [if_neg q2, if_neg q2]
              by_cases q3 : S 46 0 = nI 6 ∧ S 21 t = 0
              · rw [if_pos q3, if_pos q3.1, if_neg (fun y => y.elim (fun y => q1 (b15.mp y)) (fun y => y q3.2))]
                have g := hG q3.1
                have g1 : mGaps S1 gc B1 B2 := by
                  unfold mGaps at g ⊢
                  rw [e46]; exact g
                have b3 : bw (S1 46 3) 0 1 := by
                  rw [e46]
                  rcases ck with y | y | y | y | y | y
                  · exact absurd (q3.1.symm.trans y.1) (by decide)
                  · exact absurd (q3.1.symm.trans y.1) (by decide)
                  · exact absurd (q3.1.symm.trans y.1) (by decide)
                  · exact absurd (q3.1.symm.trans y.1) (by decide)
                  · exact absurd (q3.1.symm.trans y.1) (by decide)
                  · exact y.2.2.1
                have a9 := a1.2.2.2.2.2.2.2.2 (by rw [e46]; exact q3.1)
                refine ⟨U, W_nak (cn := ix_i h1 v 5) I1 C1 hv1 o1 (by rw [en]; exact hn) hn64 g1 b3 (fun q hq => ?_) ?_ ?_⟩
                · rw [a9 q hq, e46, g.2.1, nI_clamp (by have := g.1; omega)]
                  constructor
                  · rintro ⟨i, y1, y2, y3⟩
                    have gg := g.2.2 i y1
                    rw [gg.2.2.2.1, nI_clamp (by omega)] at y2
                    rw [gg.2.2.2.2, nI_clamp (by omega)] at y3
                    exact ⟨i, y1, y2, y3⟩
                  · rintro ⟨i, y1, y2, y3⟩
                    have gg := g.2.2 i y1
                    refine ⟨i, y1, ?_, ?_⟩
                    · rw [gg.2.2.2.1, nI_clamp (by omega)]; exact y2
                    · rw [gg.2.2.2.2, nI_clamp (by omega)]; exact y3
                · rw [a1.2.2.2.2.2.1, e46, if_pos q3.1]
                · rw [so1.2.1, en, hn]
              · rw [if_neg q3]
                refine ⟨U, ?_⟩
                split
                · rename_i q4
                  rw [if_pos (Or.inr (fun y => q3 ⟨q4, y⟩))]
                  exact C1
                · exact C1
    · have q4 : S 46 0 = nI 4 := c16
      rw [if_pos q4]
      have d4 : bw (S 46 3) 1 4 := by
        rcases ck with y | y | y | y | y | y
        · exact absurd (q4.symm.trans y.1) (by decide)
        · exact absurd (q4.symm.trans y.1) (by decide)
        · exact absurd (q4.symm.trans y.1) (by decide)
        · exact y.2.2
        · exact absurd (q4.symm.trans y.1) (by decide)
        · exact absurd (q4.symm.trans y.1) (by decide)
      refine ie_aload_n d64_19 rfl ?_
      refine ie_iconst (nI 5) d64_20 (by decide) ?_
      refine ie_iconst (nI 4) d64_21 (by decide) ?_
      refine ie_iconst 0 d64_22 (by decide) ?_
      refine ie_iconst 0 d64_23 (by decide) ?_
      refine ie_callVx [_, _, _, _] d64_24 ok34 rm64_34 cl10_107 rfl rfl (Nat.le_of_ble_eq_true rfl) (Nat.le_of_ble_eq_true rfl) w.2.1 (s34 hlk w.2.1 w.2.2.1 w.2.2.2.2.1 z.2.1 w.1 alt xlt) ?_
      have e1 : (1 : Int32) - ix_i h (T t) 0 = nI (1 - t / 320) := by
        rw [z.2.2.1]
        rcases (by omega : t / 320 = 0 ∨ t / 320 = 1) with y | y <;> rw [y] <;> decide
      rw [e1]
      obtain ⟨U', C1⟩ := cRel_sendM (kind := nI 5) (a := nI 4) (b := nI 0) (cc := nI 0) (w := nI 5) (to := nI (1 - t / 320)) (d := nI 4) (l := 0) (c := 0) (e := 1 - t / 320) I C hu hu24 t6 (fun hu => uOK_fin (Or.inr rfl) hu)
      have I1 : mInv (mSend S u (nI 5) (nI (1 - t / 320)) (nI t) (nI 4) (nI 0) (nI 0)) := mInv_ack I hu hu24 hv (by omega) (by decide) (by decide)
      have L1 := mSend_L (S := S) (u := u) (kind := nI 5) (to := nI (1 - t / 320)) (t := nI t) (a := nI 4) (b := nI 0) (c := nI 0)
      have cA : ceq h (hOut x h (T t) (nI 5) (nI (1 - t / 320)) (nI 4) 0 0) (A t) := hOut_s (by have := w.1; unfold cLk; omega) (by have := w.1; unfold cRo; omega) alt
      have cv : ceq h (hOut x h (T t) (nI 5) (nI (1 - t / 320)) (nI 4) 0 0) v := hOut_s (by have := a.1; unfold cLk; omega) (by have := a.1; unfold cRo; omega) vlt
      have P1 : cPo x h (hOut x h (T t) (nI 5) (nI (1 - t / 320)) (nI 4) 0 0) 1 6 := cPo.rfl.out C.fx.2.2.2.2.2.1 C.fx.2.2.2.2.2.2.2.1 C.x30
      generalize mSend S u (nI 5) (nI (1 - t / 320)) (nI t) (nI 4) (nI 0) (nI 0) = S1 at *
      generalize hOut x h (T t) (nI 5) (nI (1 - t / 320)) (nI 4) 0 0 = h1 at *
      have hv1 : vT S1 t := (vT_c L1 (by decide)).mpr hv
      have w1 : ix_tg h1 (A t) = 4 := by rw [cA.1]; exact w.2.1
      refine ie_aload_n d64_27 rfl ?_
      refine ie_callVx [] d64_28 ok26 rm64_26 cl10_50 rfl rfl (Nat.le_of_ble_eq_true rfl) (Nat.le_of_ble_eq_true rfl) w1 (s26 w1) ?_
      unfold mTS1
      rw [ix_i_si, if_neg (fun y => absurd y.2 (by decide)), cA.2.2.1, L1 13 (by decide)]
      by_cases o : S 13 t = nI 5
      · have so := C.so hv o
        have o1 : S1 13 t = nI 5 := by rw [L1 13 (by decide)]; exact o
        rw [if_pos o, so.1]
        refine ie_if_eq 65 d64_31 (by decide) (fun y => absurd rfl (bI_0.mp y)) (fun _ => ?_)
        refine ie_aload_n d64_34 rfl ?_
        refine ie_aload_n d64_35 rfl ?_
        have w2 : ix_tg (ix_si h1 (A t) 14 (ix_i h (A t) 12)) (A t) = 4 := w1
        refine ie_geti (k := 7) d64_36 fl10_139 (by show ix_tg h1 v = 8; rw [cv.1]; exact a.2.1) ?_
        rw [ix_i_si, if_neg (fun y => vA y.1), cv.2.2.1, a.2.2.2.2.2.1, if_neg (by rw [q4]; decide)]
        refine ie_puti (k := 3) d64_39 fl10_47 (Or.inl rfl) w2 rfl rfl ?_
        refine ie_goto 65 d64_42 (by decide) ?_
        refine ie_vret d64_65 rfl ⟨rfl, (P1.si (clA _ w1)).si (clA _ w2), U', ?_⟩
        unfold mTS2
        rw [L1 46 (by decide), if_pos q4, L1 16 (by decide), so.2.2.2.2.2.2.2.2.2.1]
        have C2 := C1.clk I1 hv1 o1
        rw [L1 16 (by decide)] at C2
        have I2 := mInv_w (k := 18) (x := S 16 t) I1 hv1 (Or.inr (Or.inr rfl))
        have hv2 : vT (mset S1 18 t (S 16 t)) t := (vT_c mset_L (by decide)).mpr hv1
        exact W_close I2 C2 hv2 (mHas_c mset_L (by decide) (mHas_c L1 (by decide) (hH o))) d4
      · have o1 : ¬ S1 13 t = nI 5 := by rw [L1 13 (by decide)]; exact o
        rw [if_neg o]
        have n15 : ¬ ix_i h (A t) 15 = 0 := fun e2 => by
          have e1 := w.2.2.2.2.2.2.2 o
          obtain ⟨m, m1, m2, m3⟩ := (I.T hv).2.2.2.2.2.1
          rw [e2, m3] at e1
          exact nI_ne0 (by omega) (by omega) e1.symm
        refine ie_if_eq 65 d64_31 (by decide) (fun _ => ?_) (fun y => absurd (bI_0.mpr n15) y)
        exact ie_vret d64_65 rfl ⟨rfl, P1.si (clA _ w1), U', W_cl I1 C1 hv1 o1 (by decide)⟩
  · have a8 : ¬ S 8 t = nI 2 := fun y => bI_0.mp c7 y
    have a1 : S 8 t = nI 1 := by
      obtain ⟨m, m1, m2, m3⟩ := (I.T hv).1
      rcases (by omega : m = 1 ∨ m = 2) with y | y
      · rw [m3, y]
      · exact absurd (by rw [m3, y]) a8
    rw [if_pos a1]
    exact ie_vret d64_10 rfl ⟨rfl, P0, U, C⟩
set_option maxRecDepth 100000 in
set_option maxHeartbeats 4000000 in
/-- handToSender -/
theorem s63 {G : ix_G} {h : ix_H} {x : Nat} {S : MS} {T A R U D : Nat → Nat} {Lo Lr : Nat → List Nat} {t u n k0 c gc v : Nat} {B1 B2 : Nat → Nat} (I : mInv S) (C : cRel h x S T A R U D Lo Lr) (L : ∀ e, e < 2 → cAl1 S Lo Lr e) (hv : vT S t) (ck : cK S t) (hto : S 46 1 = nI (t / 320)) (hu : S 44 0 = nI u) (hu24 : u ≤ 24) (hn : n = fN S t) (hn64 : n ≤ 64) (hH : S 13 t = nI 5 → mHas 40 42 S (t / 320) k0 c t) (hG : S 46 0 = nI 6 → mGaps S gc B1 B2) (a : cUa h x S (T t) v) : ix_E G 63 0 (lv_args 0 [.ref x, .ref v]) [] h (fun rv h' => rv = none ∧ cPo x h h' 1 6 ∧ ∃ U' Lo' Lr', cRel h' x (mToS S u t n k0 c gc B1 B2) T A R U' D Lo' Lr' ∧ ∀ e, e < 2 → cAl1 (mToS S u t n k0 c gc B1 B2) Lo' Lr' e) := by
  have z := (C.tx hv).1
  have t6 := hv.1
  have he : t / 320 < 2 := by omega
  have F := C.fx.2.2.2.2.2.2.2.2.2 _ he
  have h9 : nN S (t / 320) ≤ 319 := ((I.1.2 _ he).c (by decide)).2.2
  have e0 : 320 * (t / 320) + t % 320 = t := by omega
  have P0 : cPo x h h 1 6 := cPo.rfl.m (by decide) (by decide)
  have I' := mInv_tos I hv ck hu hu24 hn hn64 hH hG
  have fr := tsc_tos (u := u) (n := n) (k0 := k0) (c := c) (gc := gc) (A := B1) (B := B2) ck
  refine ie_aload_n d63_0 rfl ?_
  refine ie_getr _ d63_1 fl1_16 C.fx.1 C.fx.2.1 ?_
  refine ie_aload_n d63_4 rfl ?_
  refine ie_geti (k := 7) d63_5 fl1_148 a.2.1 ?_
  rw [a.2.2.2.2.1, hto]
  refine ie_aald (t := 5) d63_8 (by decide) rfl rfl (Or.inl C.fx.2.2.2.1) (by rw [C.fx.2.2.2.2.1]; exact vp_nI he (by decide)) ?_
  rw [nI_clamp (by omega), F.1]
  refine ie_astore_n d63_9 (by decide) ?_
  refine ie_aload_n d63_10 rfl ?_
  refine ie_aload_n d63_11 rfl ?_
  refine ie_getr _ d63_12 fl1_153 a.2.1 a.2.2.1 ?_
  refine ie_geti (k := 6) d63_15 fl1_189 z.2.1 ?_
  rw [z.2.2.2.1]
  refine ie_callVx [_] d63_18 ok19 rm63_19 cl1_221 rfl rfl (Nat.le_of_ble_eq_true rfl) (Nat.le_of_ble_eq_true rfl) F.2.1 (s19y C he hv.2.1 hv.2.2 h9) ?_
  rw [e0]
  refine ie_astore_n d63_21 (by decide) ?_
  refine ie_aload_n d63_22 rfl ?_
  refine ie_ifnull 35 d63_23 (by decide) ?_
  refine ie_aload_n d63_26 rfl ?_
  refine ie_aload_n d63_27 rfl ?_
  refine ie_callV [_] d63_28 ok64 rm63_64 cl1_230 rfl rfl (Nat.le_of_ble_eq_true rfl) (Nat.le_of_ble_eq_true rfl) (C.tx hv).2.1.2.1 (s64 I C hv ck hu hu24 hn hn64 hH hG a) (fun rv h1 hq => ?_)
  obtain ⟨q1, P1, U1, C1⟩ := hq
  subst q1
  generalize mToS S u t n k0 c gc B1 B2 = S' at *
  refine ie_aload_n d63_31 rfl ?_
  refine ie_callV [] d63_32 ok57 rm63_57 cl1_233 rfl rfl (Nat.le_of_ble_eq_true rfl) (Nat.le_of_ble_eq_true rfl) (C1.fx.2.2.2.2.2.2.2.2.2 _ he).2.1 (s57 I' C1 he) (fun rv h2 hq => ?_)
  obtain ⟨q1, P2, C2⟩ := hq
  subst q1
  refine ie_vret d63_35 rfl ⟨rfl, P1.tr P2, U1, _, _, C2, fun e he' => ?_⟩
  by_cases q : e = t / 320
  · subst q
    refine ⟨fun t' h1 => ?_, fun t' h1 => ?_⟩
    · rw [upL_s] at h1
      exact of_decide_eq_true (List.mem_filter.mp h1).2
    · rw [upL_s] at h1
      have y := (List.mem_filter.mp h1).2
      unfold orb at y
      unfold opR
      exact of_decide_eq_true y
  · refine ⟨fun t' h1 => ?_, fun t' h1 => ?_⟩
    · rw [upL_o q] at h1
      rw [fr.2.1 13 (by decide) t' (fun y => q (by rw [← y]; exact ((C.rw e he').1 t' h1).2.symm))]
      exact (L e he').1 t' h1
    · rw [upL_o q] at h1
      have := (L e he').2 t' h1
      unfold opR at this ⊢
      rw [fr.1 23 (by decide)]
      exact this
