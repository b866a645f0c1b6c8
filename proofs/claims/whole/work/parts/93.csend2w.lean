set_option maxRecDepth 100000 in
set_option maxHeartbeats 4000000 in
/-- Store.segmentLength -/
theorem s39 {G : ix_G} {h : ix_H} {x e f n s : Nat} (he : e < 2) (F : cFx1 h x e) (hf : f < 6) (hn : ix_i h (cSz x e) f = nI n) (hn64 : n ≤ 64) (hs : 4 * s ≤ n) : ix_Ev G 39 0 (lv_args 0 [.ref (cSt x e), .int (nI f), .int (nI s)]) [] h (some (.int (nI (mLen n s)))) h := by
  obtain ⟨f1, f2, f3, f4, f5, f6, f7, f8, f9, f10, f11, f12⟩ := F
  refine ix_ofE ?_
  refine ie_aload_n d39_0 rfl ?_
  refine ie_getr (k := 5) _ d39_1 fl3_16 f5 f7 ?_
  refine ie_iload_n d39_4 rfl ?_
  refine ie_iald d39_5 (Or.inl f10) (by rw [f11]; exact vp_nI hf (by decide)) ?_
  rw [cl4 (by omega), hn]
  refine ie_iload_n d39_6 rfl ?_
  refine ie_iconst (nI 4) d39_7 (by decide) ?_
  refine ie_imul d39_8 ?_
  rw [pk_mul]
  refine ie_isub d39_9 ?_
  rw [pk_sub (by omega)]
  refine ie_istore_n d39_10 (by decide) ?_
  refine ie_iload_n d39_11 rfl ?_
  refine ie_iconst (nI 4) d39_12 (by decide) ?_
  refine ie_icmp_ge 20 d39_13 (by decide) (fun c => ?_) (fun c => ?_)
  · rw [nI_leI (by omega) (by omega)] at c
    refine ie_iconst (nI 4) d39_20 (by decide) ?_
    exact ie_iret d39_21 rfl rfl ⟨by unfold mLen; rw [if_neg (by omega)], rfl⟩
  · rw [nI_leI (by omega) (by omega)] at c
    refine ie_iload_n d39_16 rfl ?_
    refine ie_goto 21 d39_17 (by decide) ?_
    exact ie_iret d39_21 rfl rfl ⟨by unfold mLen; rw [if_pos (by omega), Nat.mul_comm s 4], rfl⟩
set_option maxRecDepth 100000 in
set_option maxHeartbeats 4000000 in
/-- Store.byteOf -/
theorem s41 {G : ix_G} {h : ix_H} {x e f i : Nat} (F : cFx1 h x e) (hf : f < 6) (hi : i < 64) : ix_Ev G 41 0 (lv_args 0 [.ref (cSt x e), .int (nI f), .int (nI i)]) [] h (some (.int (ix_i h (cBr x e f) i &&& 255))) h := by
  obtain ⟨f1, f2, f3, f4, f5, f6, f7, f8, f9, f10, f11, f12⟩ := F
  refine ix_ofE ?_
  refine ie_aload_n d41_0 rfl ?_
  refine ie_getr (k := 5) _ d41_1 fl3_11 f5 f6 ?_
  refine ie_iload_n d41_4 rfl ?_
  refine ie_aald (t := 4) d41_5 (by decide) rfl rfl (Or.inl f8) (by rw [f9]; exact vp_nI hf (by decide)) ?_
  rw [cl4 (by omega), (f12 f hf).1]
  refine ie_iload_n d41_6 rfl ?_
  refine ie_bald d41_7 (f12 f hf).2.1 (by rw [(f12 f hf).2.2]; exact vp_nI hi (by decide)) ?_
  rw [cl4 (by omega)]
  refine ie_sipush (255) d41_8 (by decide) ?_
  refine ie_iand d41_11 ?_
  exact ie_iret d41_12 rfl rfl ⟨rfl, rfl⟩
set_option maxRecDepth 100000 in
set_option maxHeartbeats 4000000 in
/-- Store.segmentBytes: its loop -/
theorem s40_l {G : ix_G} {h : ix_H} {x e f s l : Nat} (F : cFx1 h x e) (hf : f < 6) (hs : s < 16) (hl : l ≤ 4) :
    ∀ (z i : Nat), i ≤ l → l - i < z → ∀ (lv : List (Nat × Value)), lv.lookup 0 = some (.ref (cSt x e)) → lv.lookup 1 = some (.int (nI f)) → lv.lookup 2 = some (.int (nI s)) → lv.lookup 3 = some (.int (lw (fun k => ix_i h (cBr x e f) (4 * s + k) &&& 255) i)) → lv.lookup 4 = some (.int (nI l)) → lv.lookup 5 = some (.int (nI i)) → ix_E G 40 13 lv [] h (fun r h' => r = some (.int (lw (fun k => ix_i h (cBr x e f) (4 * s + k) &&& 255) l)) ∧ h' = h) := by
  intro z
  induction z with
  | zero => intro i h1 h2; omega
  | succ z ih =>
    intro i hi hz lv l0 l1 l2 l3 l4 l5
    refine ie_iload d40_13 l5 ?_
    refine ie_iload d40_15 l4 ?_
    refine ie_icmp_ge 46 d40_17 (by decide) (fun c => ?_) (fun c => ?_)
    · rw [nI_leI (by omega) (by omega)] at c
      have e : i = l := by omega
      subst e
      refine ie_iload_n d40_46 l3 ?_
      exact ie_iret d40_47 rfl rfl ⟨rfl, rfl⟩
    · rw [nI_leI (by omega) (by omega)] at c
      refine ie_iload_n d40_20 l3 ?_
      refine ie_aload_n d40_21 l0 ?_
      refine ie_iload_n d40_22 l1 ?_
      refine ie_iload_n d40_23 l2 ?_
      refine ie_iconst (nI 4) d40_24 (by decide) ?_
      refine ie_imul d40_25 ?_
      rw [pk_mul]
      refine ie_iload d40_26 l5 ?_
      refine ie_iadd d40_28 ?_
      rw [nI_add, show s * 4 + i = 4 * s + i from by omega]
      refine ie_callVx [_, _] d40_29 ok41 rm40_41 cl3_28 rfl rfl (Nat.le_of_ble_eq_true rfl) (Nat.le_of_ble_eq_true rfl) F.2.2.2.2.1 (s41 F hf (by omega)) ?_
      refine ie_bipush (nI 8) d40_32 (by decide) ?_
      refine ie_iload d40_34 l5 ?_
      refine ie_imul d40_36 ?_
      rw [pk_mul]
      refine ie_ishl d40_37 ?_
      refine ie_ior d40_38 ?_
      refine ie_istore_n d40_39 (by decide) ?_
      refine ie_iinc (nI (i + 1)) d40_40 (ix_lk3 (by decide) l5 rfl) (nI_1 _) (by decide) ?_
      refine ie_goto 13 d40_43 (by decide) ?_
      exact ih (i + 1) (by omega) (by omega) _ (ix_lk3 (by decide) (ix_lk3 (by decide) l0 rfl) rfl) (ix_lk3 (by decide) (ix_lk3 (by decide) l1 rfl) rfl) (ix_lk3 (by decide) (ix_lk3 (by decide) l2 rfl) rfl) (ix_lk3 (by decide) ix_lk1 rfl) (ix_lk3 (by decide) (ix_lk3 (by decide) l4 rfl) rfl) ix_lk1
set_option maxRecDepth 100000 in
set_option maxHeartbeats 4000000 in
/-- Store.segmentBytes -/
theorem s40 {G : ix_G} {h : ix_H} {x e f n s : Nat} (he : e < 2) (F : cFx1 h x e) (hf : f < 6) (hn : ix_i h (cSz x e) f = nI n) (hn64 : n ≤ 64) (hs : 4 * s < n) : ix_Ev G 40 0 (lv_args 0 [.ref (cSt x e), .int (nI f), .int (nI s)]) [] h (some (.int (lw (fun k => ix_i h (cBr x e f) (4 * s + k) &&& 255) (mLen n s)))) h := by
  refine ix_ofE ?_
  refine ie_iconst 0 d40_0 (by decide) ?_
  refine ie_istore_n d40_1 (by decide) ?_
  refine ie_aload_n d40_2 rfl ?_
  refine ie_iload_n d40_3 rfl ?_
  refine ie_iload_n d40_4 rfl ?_
  refine ie_callVx [_, _] d40_5 ok39 rm40_39 cl3_24 rfl rfl (Nat.le_of_ble_eq_true rfl) (Nat.le_of_ble_eq_true rfl) F.2.2.2.2.1 (s39 he F hf hn hn64 (by omega)) ?_
  refine ie_istore d40_8 (by decide) ?_
  refine ie_iconst (nI 0) d40_10 (by decide) ?_
  refine ie_istore d40_11 (by decide) ?_
  have ml := mLen_b hs
  exact s40_l F hf (by omega) ml.2 (mLen n s + 1) 0 (by omega) (by omega) _ rfl rfl rfl rfl rfl rfl
set_option maxRecDepth 100000 in
set_option maxHeartbeats 4000000 in
/-- checksumOf: its loop -/
theorem s44_l {G : ix_G} {h : ix_H} {B n : Nat} (hB : ix_tg h B = 102) (hl : ix_ln h B = 64) (hn : n ≤ 64) :
    ∀ (z i : Nat), i ≤ n → n - i < z → ∀ (lv : List (Nat × Value)), lv.lookup 0 = some (.ref B) → lv.lookup 1 = some (.int (nI n)) → lv.lookup 2 = some (.int (bSum (fun k => ix_i h B k &&& 255) i)) → lv.lookup 3 = some (.int (nI i)) → ix_E G 44 4 lv [] h (fun r h' => r = some (.int (bSum (fun k => ix_i h B k &&& 255) n)) ∧ h' = h) := by
  intro z
  induction z with
  | zero => intro i h1 h2; omega
  | succ z ih =>
    intro i hi hz lv l0 l1 l2 l3
    refine ie_iload_n d44_4 l3 ?_
    refine ie_iload_n d44_5 l1 ?_
    refine ie_icmp_ge 44 d44_6 (by decide) (fun c => ?_) (fun c => ?_)
    · rw [nI_leI (by omega) (by omega)] at c
      have e : i = n := by omega
      subst e
      refine ie_iload_n d44_44 l2 ?_
      exact ie_iret d44_45 rfl rfl ⟨rfl, rfl⟩
    · rw [nI_leI (by omega) (by omega)] at c
      refine ie_iload_n d44_9 l3 ?_
      refine ie_aload_n d44_10 l0 ?_
      refine ie_alen (t := 2) d44_11 (by decide) (Or.inl hB) ?_
      rw [hl]
      refine ie_icmp_ge 44 d44_12 (by decide) (fun c2 => ?_) (fun c2 => ?_)
      · rw [nI_leI (by omega) (by omega)] at c2
        omega
      · refine ie_iconst (nI 3) d44_15 (by decide) ?_
        refine ie_iload_n d44_16 l3 ?_
        refine ie_iconst (nI 4) d44_17 (by decide) ?_
        refine ie_irem d44_18 (by decide) ?_
        rw [pk_rem (by omega) (by decide) (by decide)]
        refine ie_isub d44_19 ?_
        rw [pk_sub (by omega)]
        refine ie_istore d44_20 (by decide) ?_
        refine ie_iload_n d44_22 (ix_lk3 (by decide) l2 rfl) ?_
        refine ie_aload_n d44_23 (ix_lk3 (by decide) l0 rfl) ?_
        refine ie_iload_n d44_24 (ix_lk3 (by decide) l3 rfl) ?_
        refine ie_bald d44_25 hB (by rw [hl]; exact vp_nI (by omega) (by decide)) ?_
        rw [cl4 (by omega)]
        refine ie_sipush (255) d44_26 (by decide) ?_
        refine ie_iand d44_29 ?_
        refine ie_bipush (nI 8) d44_30 (by decide) ?_
        refine ie_iload d44_32 ix_lk1 ?_
        refine ie_imul d44_34 ?_
        rw [pk_mul, show 8 * (3 - i % 4) = 24 - 8 * (i % 4) from by omega]
        refine ie_ishl d44_35 ?_
        refine ie_iadd d44_36 ?_
        refine ie_istore_n d44_37 (by decide) ?_
        refine ie_iinc (nI (i + 1)) d44_38 (ix_lk3 (by decide) (ix_lk3 (by decide) l3 rfl) rfl) (nI_1 _) (by decide) ?_
        refine ie_goto 4 d44_41 (by decide) ?_
        exact ih (i + 1) (by omega) (by omega) _ (ix_lk3 (by decide) (ix_lk3 (by decide) (ix_lk3 (by decide) l0 rfl) rfl) rfl) (ix_lk3 (by decide) (ix_lk3 (by decide) (ix_lk3 (by decide) l1 rfl) rfl) rfl) (ix_lk3 (by decide) ix_lk1 rfl) ix_lk1
set_option maxRecDepth 100000 in
set_option maxHeartbeats 4000000 in
/-- checksumOf -/
theorem s44 {G : ix_G} {h : ix_H} {B n : Nat} (hB : ix_tg h B = 102) (hl : ix_ln h B = 64) (hn : n ≤ 64) : ix_Ev G 44 0 (lv_args 0 [.ref B, .int (nI n)]) [] h (some (.int (bSum (fun k => ix_i h B k &&& 255) n))) h := by
  refine ix_ofE ?_
  refine ie_iconst 0 d44_0 (by decide) ?_
  refine ie_istore_n d44_1 (by decide) ?_
  refine ie_iconst (nI 0) d44_2 (by decide) ?_
  refine ie_istore_n d44_3 (by decide) ?_
  exact s44_l hB hl hn (n + 1) 0 (by omega) (by omega) _ rfl rfl rfl rfl
set_option maxRecDepth 100000 in
set_option maxHeartbeats 4000000 in
/-- Store.checksum -/
theorem s43 {G : ix_G} {h : ix_H} {x e f n : Nat} (F : cFx1 h x e) (hf : f < 6) (hn : ix_i h (cSz x e) f = nI n) (hn64 : n ≤ 64) : ix_Ev G 43 0 (lv_args 0 [.ref (cSt x e), .int (nI f)]) [] h (some (.int (bSum (fun k => ix_i h (cBr x e f) k &&& 255) n))) h := by
  obtain ⟨f1, f2, f3, f4, f5, f6, f7, f8, f9, f10, f11, f12⟩ := F
  refine ix_ofE ?_
  refine ie_aload_n d43_0 rfl ?_
  refine ie_getr (k := 5) _ d43_1 fl3_11 f5 f6 ?_
  refine ie_iload_n d43_4 rfl ?_
  refine ie_aald (t := 4) d43_5 (by decide) rfl rfl (Or.inl f8) (by rw [f9]; exact vp_nI hf (by decide)) ?_
  rw [cl4 (by omega), (f12 f hf).1]
  refine ie_aload_n d43_6 rfl ?_
  refine ie_getr (k := 5) _ d43_7 fl3_16 f5 f7 ?_
  refine ie_iload_n d43_10 rfl ?_
  refine ie_iald d43_11 (Or.inl f10) (by rw [f11]; exact vp_nI hf (by decide)) ?_
  rw [cl4 (by omega), hn]
  refine ie_callSx [_, _] d43_12 ok44 rm43_44 cl3_20 rfl rfl (Nat.le_of_ble_eq_true rfl) (Nat.le_of_ble_eq_true rfl) (s44 (f12 f hf).2.1 (f12 f hf).2.2 hn64) ?_
  exact ie_iret d43_15 rfl rfl ⟨rfl, rfl⟩
/-- a sender, as its methods need it: s lies in the class of e's, tx is its transaction, f its file, n its length -/
def sSh (h : ix_H) (x s tx e f n : Nat) : Prop := lkS h x ∧ ix_tg h s = 4 ∧ ix_r h s 0 = some tx ∧ ix_r h s 1 = some (cSt x e) ∧ ix_r h s 2 = some (cLk x) ∧ ix_tg h tx = 7 ∧ x + 30 ≤ s ∧ s < ix_nx h ∧ tx < ix_nx h ∧ x + 30 ≤ tx ∧ e < 2 ∧ cFx1 h x e ∧ ix_i h tx 2 = nI f ∧ f < 6 ∧ ix_i h (cSz x e) f = nI n ∧ n ≤ 64
theorem cFx1_fr {h h' : ix_H} {x e : Nat} (F : cFx1 h x e) (hc : ∀ b, ix_tg h' b = ix_tg h b ∧ ix_ln h' b = ix_ln h b ∧ ∀ j, ix_r h' b j = ix_r h b j) : cFx1 h' x e := by
  obtain ⟨f1, f2, f3, f4, f5, f6, f7, f8, f9, f10, f11, f12⟩ := F
  exact ⟨by rw [(hc _).2.2]; exact f1, by rw [(hc _).1]; exact f2, by rw [(hc _).2.2]; exact f3, fun i hi => ⟨by rw [(hc _).2.2]; exact (f4 i hi).1, by rw [(hc _).1]; exact (f4 i hi).2⟩, by rw [(hc _).1]; exact f5, by rw [(hc _).2.2]; exact f6, by rw [(hc _).2.2]; exact f7, by rw [(hc _).1]; exact f8, by rw [(hc _).2.1]; exact f9, by rw [(hc _).1]; exact f10, by rw [(hc _).2.1]; exact f11, fun f hf => ⟨by rw [(hc _).2.2]; exact (f12 f hf).1, by rw [(hc _).1]; exact (f12 f hf).2.1, by rw [(hc _).2.1]; exact (f12 f hf).2.2⟩⟩
theorem sSh_si {h : ix_H} {x s tx e f n k : Nat} {v : Int32} (X : sSh h x s tx e f n) : sSh (ix_si h s k v) x s tx e f n := by
  obtain ⟨L, a1, a2, a3, a4, a5, a6, a7, a8, a9, a10, a11, a12, a13, a14, a15⟩ := X
  have st : s ≠ tx := fun z => by rw [z, a5] at a1; exact absurd a1 (by decide)
  refine ⟨lkS_c L ((sw.rfl.si).1 _ (by unfold cLk; omega)) ((sw.rfl.si).1 _ (by unfold cRo; omega)) (Nat.le_refl _), a1, a2, a3, a4, a5, a6, a7, a8, a9, a10, cFx1_fr a11 (fun b => ⟨rfl, rfl, fun _ => rfl⟩), ?_, a13, ?_, a15⟩
  · rw [ix_i_si, if_neg (fun z => st z.1.symm)]; exact a12
  · rw [ix_i_si, if_neg (by unfold cSz; omega)]; exact a14
theorem cRel.sh {h : ix_H} {x : Nat} {S : MS} {T A R U D : Nat → Nat} {Lo Lr : Nat → List Nat} (C : cRel h x S T A R U D Lo Lr) (I : mInv S) {t : Nat} (hv : vT S t) (ho : S 13 t = nI 5) : sSh h x (A t) (T t) (t / 320) (S 9 t).toNatClampNeg (fN S t) := by
  obtain ⟨c1, c2, -⟩ := C.tx hv
  have t6 := hv.1
  obtain ⟨b1, b2, b3⟩ := (I.T hv).2.1.c (by decide)
  obtain ⟨g1, g2, g3, g4⟩ := I.file hv
  have s4 := (I.S hv ho).1
  have fl := (C.fl (e := t / 320) (f := (S 9 t).toNatClampNeg) (by omega) (by omega)).1
  refine ⟨C.lk I, c2.2.1, c2.2.2.1, c2.2.2.2.1, c2.2.2.2.2.1, c1.2.1, c2.1, C.lt (by rw [c2.2.1]; decide), C.lt (by rw [c1.2.1]; decide), c1.1, by omega, C.fx.2.2.2.2.2.2.2.2.2 _ (by omega), by rw [c1.2.2.2.2.1]; exact b1, by omega, ?_, g4⟩
  have e4 : S 4 (6 * (t / 320) + (S 9 t).toNatClampNeg) = nI 1 := s4
  rw [fl, if_neg (by rw [e4]; decide)]
  exact g3
set_option maxRecDepth 100000 in
set_option maxHeartbeats 4000000 in
/-- Sender.sendMetadata -/
theorem s33 {G : ix_G} {h : ix_H} {x s tx e f n : Nat} (X : sSh h x s tx e f n) : ix_Ev G 33 0 (lv_args 0 [.ref s]) [] h none (ix_si (hOut x h tx (nI 1) (1 - ix_i h tx 0) (ix_i h tx 3) 0 0) s 14 (ix_i h s 12)) := by
  obtain ⟨L, a1, a2, a3, a4, a5, a6, a7, a8, a9, a10, a11, a12, a13, a14, a15⟩ := id X
  refine ix_ofE ?_
  refine ie_aload_n d33_0 rfl ?_
  refine ie_iconst (nI 1) d33_1 (by decide) ?_
  refine ie_aload_n d33_2 rfl ?_
  refine ie_getr tx d33_3 fl10_15 a1 a2 ?_
  refine ie_geti (k := 6) d33_6 fl10_104 a5 ?_
  refine ie_iconst 0 d33_9 (by decide) ?_
  refine ie_iconst 0 d33_10 (by decide) ?_
  refine ie_callVx [_, _, _, _] d33_11 ok34 rm33_34 cl10_107 rfl rfl (Nat.le_of_ble_eq_true rfl) (Nat.le_of_ble_eq_true rfl) a1 (s34 L a1 a2 a4 a5 a6 a7 a8) ?_
  exact ie_vret d33_14 rfl ⟨rfl, rfl⟩
set_option maxRecDepth 100000 in
set_option maxHeartbeats 4000000 in
/-- Sender.sendData -/
theorem s38 {G : ix_G} {h : ix_H} {x s tx e f n g : Nat} (X : sSh h x s tx e f n) (hg : 4 * g < n) : ix_Ev G 38 0 (lv_args 0 [.ref s, .int (nI g)]) [] h none (ix_si (hOut x h tx (nI 2) (1 - ix_i h tx 0) (nI g) (nI (mLen n g)) (lw (fun k => ix_i h (cBr x e f) (4 * g + k) &&& 255) (mLen n g))) s 14 (ix_i h s 12)) := by
  obtain ⟨L, a1, a2, a3, a4, a5, a6, a7, a8, a9, a10, a11, a12, a13, a14, a15⟩ := id X
  refine ix_ofE ?_
  refine ie_aload_n d38_0 rfl ?_
  refine ie_getr _ d38_1 fl10_19 a1 a3 ?_
  refine ie_aload_n d38_4 rfl ?_
  refine ie_getr tx d38_5 fl10_15 a1 a2 ?_
  refine ie_geti (k := 6) d38_8 fl10_30 a5 ?_
  rw [a12]
  refine ie_iload_n d38_11 rfl ?_
  refine ie_callVx [_, _] d38_12 ok39 rm38_39 cl10_111 rfl rfl (Nat.le_of_ble_eq_true rfl) (Nat.le_of_ble_eq_true rfl) a11.2.2.2.2.1 (s39 a10 a11 a13 a14 a15 (by omega)) ?_
  refine ie_istore_n d38_15 (by decide) ?_
  refine ie_aload_n d38_16 rfl ?_
  refine ie_iconst (nI 2) d38_17 (by decide) ?_
  refine ie_iload_n d38_18 rfl ?_
  refine ie_iload_n d38_19 rfl ?_
  refine ie_aload_n d38_20 rfl ?_
  refine ie_getr _ d38_21 fl10_19 a1 a3 ?_
  refine ie_aload_n d38_24 rfl ?_
  refine ie_getr tx d38_25 fl10_15 a1 a2 ?_
  refine ie_geti (k := 6) d38_28 fl10_30 a5 ?_
  rw [a12]
  refine ie_iload_n d38_31 rfl ?_
  refine ie_callVx [_, _] d38_32 ok40 rm38_40 cl10_115 rfl rfl (Nat.le_of_ble_eq_true rfl) (Nat.le_of_ble_eq_true rfl) a11.2.2.2.2.1 (s40 a10 a11 a13 a14 a15 hg) ?_
  refine ie_callVx [_, _, _, _] d38_35 ok34 rm38_34 cl10_107 rfl rfl (Nat.le_of_ble_eq_true rfl) (Nat.le_of_ble_eq_true rfl) a1 (s34 L a1 a2 a4 a5 a6 a7 a8) ?_
  exact ie_vret d38_38 rfl ⟨rfl, rfl⟩
set_option maxRecDepth 100000 in
set_option maxHeartbeats 4000000 in
/-- Sender.sendEnd -/
theorem s42 {G : ix_G} {h : ix_H} {x s tx e f n : Nat} (X : sSh h x s tx e f n) : ix_Ev G 42 0 (lv_args 0 [.ref s]) [] h none (ix_si (hOut x (ix_si (ix_si h s 11 (ix_i h s 11 + 1)) s 13 (ix_i h s 12)) tx (nI 3) (1 - ix_i h tx 0) (if ix_i h s 6 = 0 then nI n else -1) 0 (if ix_i h s 6 = 0 then bSum (fun k => ix_i h (cBr x e f) k &&& 255) n else 0)) s 14 (ix_i h s 12)) := by
  have X1 := sSh_si (k := 13) (v := ix_i h s 12) (sSh_si (k := 11) (v := ix_i h s 11 + 1) X)
  obtain ⟨L, a1, a2, a3, a4, a5, a6, a7, a8, a9, a10, a11, a12, a13, a14, a15⟩ := id X
  have st : s ≠ tx := fun z => by rw [z, a5] at a1; exact absurd a1 (by decide)
  have sb : s ≠ cBr x e f := by unfold cBr; omega
  obtain ⟨L', b1, b2, b3, b4, b5, b6, b7, b8', b9, b10, b11, b12, b13, b14, b15⟩ := id X1
  have r12 : ∀ k, k ≠ 11 → k ≠ 13 → ix_i (ix_si (ix_si h s 11 (ix_i h s 11 + 1)) s 13 (ix_i h s 12)) s k = ix_i h s k := fun k h1 h2 => by rw [ix_i_si, if_neg (fun z => h2 z.2), ix_i_si, if_neg (fun z => h1 z.2)]
  have rtx : ∀ k, ix_i (ix_si (ix_si h s 11 (ix_i h s 11 + 1)) s 13 (ix_i h s 12)) tx k = ix_i h tx k := fun k => by rw [ix_i_si, if_neg (fun z => st z.1.symm), ix_i_si, if_neg (fun z => st z.1.symm)]
  have rb' : ∀ k, ix_i (ix_si (ix_si h s 11 (ix_i h s 11 + 1)) s 13 (ix_i h s 12)) (cBr x e f) k = ix_i h (cBr x e f) k := fun k => by rw [ix_i_si, if_neg (fun z => sb z.1.symm), ix_i_si, if_neg (fun z => sb z.1.symm)]
  refine ix_ofE ?_
  refine ie_aload_n d42_0 rfl ?_
  refine ie_dup d42_1 rfl ?_
  refine ie_geti (k := 3) d42_2 fl10_64 a1 ?_
  refine ie_iconst 1 d42_5 (by decide) ?_
  refine ie_iadd d42_6 ?_
  refine ie_puti (k := 3) d42_7 fl10_64 (Or.inl rfl) a1 rfl rfl ?_
  refine ie_aload_n d42_10 rfl ?_
  refine ie_aload_n d42_11 rfl ?_
  refine ie_geti (k := 3) d42_12 fl10_73 a1 ?_
  rw [show ix_i (ix_si h s 11 (ix_i h s 11 + 1)) s 12 = ix_i h s 12 from by rw [ix_i_si, if_neg (fun z => absurd z.2 (by decide))]]
  refine ie_puti (k := 3) d42_15 fl10_101 (Or.inl rfl) a1 rfl rfl ?_
  refine ie_aload_n d42_18 rfl ?_
  refine ie_geti (k := 3) d42_19 fl10_54 a1 ?_
  rw [r12 6 (by decide) (by decide)]
  refine ie_if_eq 36 d42_22 (by decide) (fun c => ?_) (fun c => ?_)
  · refine ie_aload_n d42_36 rfl ?_
    refine ie_iconst (nI 3) d42_37 (by decide) ?_
    refine ie_aload_n d42_38 rfl ?_
    refine ie_getr _ d42_39 fl10_19 b1 b3 ?_
    refine ie_aload_n d42_42 rfl ?_
    refine ie_getr tx d42_43 fl10_15 b1 b2 ?_
    refine ie_geti (k := 6) d42_46 fl10_30 b5 ?_
    rw [b12]
    refine ie_callVx [_] d42_49 ok16 rm42_16 cl10_35 rfl rfl (Nat.le_of_ble_eq_true rfl) (Nat.le_of_ble_eq_true rfl) b11.2.2.2.2.1 (s16 b11.2.2.2.2.1 b11.2.2.2.2.2.2.1 b11.2.2.2.2.2.2.2.2.2.1 b11.2.2.2.2.2.2.2.2.2.2.1 b13) ?_
    rw [b14]
    refine ie_iconst 0 d42_52 (by decide) ?_
    refine ie_aload_n d42_53 rfl ?_
    refine ie_getr _ d42_54 fl10_19 b1 b3 ?_
    refine ie_aload_n d42_57 rfl ?_
    refine ie_getr tx d42_58 fl10_15 b1 b2 ?_
    refine ie_geti (k := 6) d42_61 fl10_30 b5 ?_
    rw [b12]
    refine ie_callVx [_] d42_64 ok43 rm42_43 cl10_118 rfl rfl (Nat.le_of_ble_eq_true rfl) (Nat.le_of_ble_eq_true rfl) b11.2.2.2.2.1 (s43 b11 b13 b14 b15) ?_
    refine ie_callVx [_, _, _, _] d42_67 ok34 rm42_34 cl10_107 rfl rfl (Nat.le_of_ble_eq_true rfl) (Nat.le_of_ble_eq_true rfl) b1 (s34 L' b1 b2 b4 b5 b6 b7 b8') ?_
    refine ie_vret d42_70 rfl ⟨rfl, ?_⟩
    rw [rtx, r12 12 (by decide) (by decide), if_pos c, if_pos c]
    simp only [rb']
  · refine ie_aload_n d42_25 rfl ?_
    refine ie_iconst (nI 3) d42_26 (by decide) ?_
    refine ie_iconst (-1) d42_27 (by decide) ?_
    refine ie_iconst 0 d42_28 (by decide) ?_
    refine ie_iconst 0 d42_29 (by decide) ?_
    refine ie_callVx [_, _, _, _] d42_30 ok34 rm42_34 cl10_107 rfl rfl (Nat.le_of_ble_eq_true rfl) (Nat.le_of_ble_eq_true rfl) b1 (s34 L' b1 b2 b4 b5 b6 b7 b8') ?_
    refine ie_goto 70 d42_33 (by decide) ?_
    refine ie_vret d42_70 rfl ⟨rfl, ?_⟩
    rw [rtx, r12 12 (by decide) (by decide), if_neg c, if_neg c]
