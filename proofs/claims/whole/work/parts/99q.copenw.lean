/-! ===== a receiver opens ===== -/
theorem lsA.po {x a D2 b w a0 b0 : Nat} {h h1 h' : ix_H} (p : lsA a D2 b w h1 h') (q : cPo x h h1 a0 b0) (h1' : cCl h1 x a) (h2 : cCl h1 x D2 ∨ ix_nx h1 ≤ D2) : cPo x h h' (a0 + b) (b0 + w) := by
  have r : cPo x h1 h' b w := by
    refine ⟨⟨p.2.2.2.1, fun q hq hm => ⟨p.1 q hq (fun z => h1' (by rw [← z]; exact hm)) (fun z => ?_), fun j => p.2.2.1 q j hq⟩⟩, p.2.2.2.2.1, p.2.2.2.2.2.1, p.2.2.2.2.2.2.1⟩
    rcases h2 with y | y
    · exact y (by rw [← z]; exact hm)
    · omega
  exact q.tr r
def hRn (h : ix_H) (tx sd lk : Nat) (to : Int32) : ix_H := ix_si (ix_sr (ix_sr (ix_sr (ix_si (ix_sr (ix_nw (ix_nw h 3 0 14) 102 64 64) (ix_nx h) 4 (some (ix_nx h + 1))) (ix_nx h) 7 (-1)) (ix_nx h) 0 (some tx)) (ix_nx h) 1 (some sd)) (ix_nx h) 2 (some lk)) (ix_nx h) 3 to
section CRn
variable {h : ix_H} {tx sd lk : Nat} {to : Int32}
theorem hRn_x : ix_nx (hRn h tx sd lk to) = ix_nx h + 2 := rfl
theorem hRn_o {b : Nat} (h1 : b ≠ ix_nx h) (h2 : b ≠ ix_nx h + 1) : ceq h (hRn h tx sd lk to) b := by
  have e : ix_nx (ix_nw h 3 0 14) = ix_nx h + 1 := rfl
  unfold hRn
  refine ⟨?_, ?_, fun j => ?_, fun j => ?_⟩
  · show ix_tg (ix_nw (ix_nw h 3 0 14) 102 64 64) b = _
    rw [ix_tg_nw, e, if_neg h2, ix_tg_nw, if_neg h1]
  · show ix_ln (ix_nw (ix_nw h 3 0 14) 102 64 64) b = _
    rw [ix_ln_nw, e, if_neg h2, ix_ln_nw, if_neg h1]
  · rw [ix_i_si, if_neg (fun z => h1 z.1), ix_i_sr, ix_i_sr, ix_i_sr, ix_i_si, if_neg (fun z => h1 z.1), ix_i_sr, ix_i_nw, e, if_neg h2, ix_i_nw, if_neg h1]
  · rw [ix_r_si, ix_r_sr, if_neg (fun z => h1 z.1), ix_r_sr, if_neg (fun z => h1 z.1), ix_r_sr, if_neg (fun z => h1 z.1), ix_r_si, ix_r_sr, if_neg (fun z => h1 z.1), ix_r_nw, e, if_neg h2, ix_r_nw, if_neg h1]
theorem hRn_l {b j : Nat} (h1 : b < ix_nx h) : ix_l (hRn h tx sd lk to) b j = ix_l h b j := by
  have e : ix_nx (ix_nw h 3 0 14) = ix_nx h + 1 := rfl
  show ix_l (ix_nw (ix_nw h 3 0 14) 102 64 64) b j = _
  rw [ix_l_nw, e, if_neg (by omega), ix_l_nw, if_neg (by omega)]
theorem hRn_n : ix_tg (hRn h tx sd lk to) (ix_nx h) = 3 ∧ ix_r (hRn h tx sd lk to) (ix_nx h) 0 = some tx ∧ ix_r (hRn h tx sd lk to) (ix_nx h) 1 = some sd ∧ ix_r (hRn h tx sd lk to) (ix_nx h) 2 = some lk ∧ ix_i (hRn h tx sd lk to) (ix_nx h) 3 = to ∧ ix_r (hRn h tx sd lk to) (ix_nx h) 4 = some (ix_nx h + 1) ∧ ix_i (hRn h tx sd lk to) (ix_nx h) 7 = -1 ∧ ∀ k, k ≠ 3 → k ≠ 7 → ix_i (hRn h tx sd lk to) (ix_nx h) k = 0 := by
  have e : ix_nx (ix_nw h 3 0 14) = ix_nx h + 1 := rfl
  have n1 : ¬ ix_nx h = ix_nx h + 1 := by omega
  unfold hRn
  refine ⟨?_, ?_, ?_, ?_, ?_, ?_, ?_, fun k h3 h7 => ?_⟩
  · show ix_tg (ix_nw (ix_nw h 3 0 14) 102 64 64) (ix_nx h) = _
    rw [ix_tg_nw, e, if_neg n1, ix_tg_nw, if_pos rfl]
  · rw [ix_r_si, ix_r_sr, if_neg (fun z => absurd z.2 (by decide)), ix_r_sr, if_neg (fun z => absurd z.2 (by decide)), ix_r_sr, if_pos ⟨rfl, rfl⟩]
  · rw [ix_r_si, ix_r_sr, if_neg (fun z => absurd z.2 (by decide)), ix_r_sr, if_pos ⟨rfl, rfl⟩]
  · rw [ix_r_si, ix_r_sr, if_pos ⟨rfl, rfl⟩]
  · rw [ix_i_si, if_pos ⟨rfl, rfl⟩]
  · rw [ix_r_si, ix_r_sr, if_neg (fun z => absurd z.2 (by decide)), ix_r_sr, if_neg (fun z => absurd z.2 (by decide)), ix_r_sr, if_neg (fun z => absurd z.2 (by decide)), ix_r_si, ix_r_sr, if_pos ⟨rfl, rfl⟩]
  · rw [ix_i_si, if_neg (fun z => absurd z.2 (by decide)), ix_i_sr, ix_i_sr, ix_i_sr, ix_i_si, if_pos ⟨rfl, rfl⟩]
  · rw [ix_i_si, if_neg (fun z => h3 z.2), ix_i_sr, ix_i_sr, ix_i_sr, ix_i_si, if_neg (fun z => h7 z.2), ix_i_sr, ix_i_nw, e, if_neg n1, ix_i_nw, if_pos rfl]
theorem hRn_b : ix_tg (hRn h tx sd lk to) (ix_nx h + 1) = 102 ∧ ix_ln (hRn h tx sd lk to) (ix_nx h + 1) = 64 ∧ ∀ j, ix_i (hRn h tx sd lk to) (ix_nx h + 1) j = 0 := by
  have e : ix_nx (ix_nw h 3 0 14) = ix_nx h + 1 := rfl
  have n1 : ¬ ix_nx h + 1 = ix_nx h := by omega
  unfold hRn
  refine ⟨?_, ?_, fun j => ?_⟩
  · show ix_tg (ix_nw (ix_nw h 3 0 14) 102 64 64) (ix_nx h + 1) = _
    rw [ix_tg_nw, e, if_pos rfl]
  · show ix_ln (ix_nw (ix_nw h 3 0 14) 102 64 64) (ix_nx h + 1) = _
    rw [ix_ln_nw, e, if_pos rfl]
  · rw [ix_i_si, if_neg (fun z => n1 z.1), ix_i_sr, ix_i_sr, ix_i_sr, ix_i_si, if_neg (fun z => n1 z.1), ix_i_sr, ix_i_nw, e, if_pos rfl]
theorem hRn_z (z : cNx h) : cNx (hRn h tx sd lk to) := fun b hb => by
  rw [hRn_x] at hb
  rw [(hRn_o (by omega) (by omega)).1]
  exact z b (by omega)
theorem hRn_po {x : Nat} : cPo x h (hRn h tx sd lk to) 2 78 := by
  refine ⟨⟨by rw [hRn_x]; omega, fun b hb _ => ⟨hRn_o (by omega) (by omega), fun j => hRn_l hb⟩⟩, by rw [hRn_x]; omega, ?_, ?_⟩
  · show ix_us h ≤ ix_us h + 14 + 64; omega
  · show ix_us h + 14 + 64 ≤ ix_us h + 78; omega
end CRn
set_option maxRecDepth 100000 in
set_option maxHeartbeats 4000000 in
/-- Receiver.<init> -/
theorem s68 {G : ix_G} {h : ix_H} {tx sd lk : Nat} {to : Int32} : ix_Ev G 68 0 (lv_args 0 [.ref (ix_nx h), .ref tx, .ref sd, .ref lk, .int to]) [] (ix_nw h 3 0 14) none (hRn h tx sd lk to) := by
  have ht : ix_tg (ix_nw (ix_nw h 3 0 14) 102 64 64) (ix_nx h) = 3 := by
    rw [ix_tg_nw, if_neg (by show ¬ ix_nx h = ix_nx h + 1; omega), ix_tg_nw, if_pos rfl]
  refine ix_ofE ?_
  first | refine ie_aload_n d68_0 rfl ?_ | refine ie_aload_nN d68_0 rfl ?_
  refine ie_objI d68_1 oi13_3 oi_I oi_C (by decide) (Nat.le_of_ble_eq_true rfl) ?_
  first | refine ie_aload_n d68_4 rfl ?_ | refine ie_aload_nN d68_4 rfl ?_
  refine ie_bipush (64) d68_5 (by decide) ?_
  refine ie_newa (t := 2) d68_7 ⟨by decide, rfl⟩ (show (64 : Int32) = nI 64 from rfl) (by decide) ?_
  show ix_E G 68 9 _ _ (ix_nw (ix_nw h 3 0 14) 102 64 64) _
  first | refine ie_putr d68_9 fl13_9 (Or.inr ⟨rfl, rfl, rfl⟩) ht rfl rfl ?_ | refine ie_putN d68_9 fl13_9 (Or.inr ⟨rfl, rfl, rfl⟩) ht rfl rfl ?_
  first | refine ie_aload_n d68_12 rfl ?_ | refine ie_aload_nN d68_12 rfl ?_
  refine ie_iconst (-1) d68_13 (by decide) ?_
  refine ie_puti d68_14 fl13_15 (Or.inl rfl) ht rfl rfl ?_
  first | refine ie_aload_n d68_17 rfl ?_ | refine ie_aload_nN d68_17 rfl ?_
  first | refine ie_aload_n d68_18 rfl ?_ | refine ie_aload_nN d68_18 rfl ?_
  first | refine ie_putr d68_19 fl13_19 (Or.inr ⟨rfl, rfl, rfl⟩) ht rfl rfl ?_ | refine ie_putN d68_19 fl13_19 (Or.inr ⟨rfl, rfl, rfl⟩) ht rfl rfl ?_
  first | refine ie_aload_n d68_22 rfl ?_ | refine ie_aload_nN d68_22 rfl ?_
  first | refine ie_aload_n d68_23 rfl ?_ | refine ie_aload_nN d68_23 rfl ?_
  first | refine ie_putr d68_24 fl13_23 (Or.inr ⟨rfl, rfl, rfl⟩) ht rfl rfl ?_ | refine ie_putN d68_24 fl13_23 (Or.inr ⟨rfl, rfl, rfl⟩) ht rfl rfl ?_
  first | refine ie_aload_n d68_27 rfl ?_ | refine ie_aload_nN d68_27 rfl ?_
  first | refine ie_aload_n d68_28 rfl ?_ | refine ie_aload_nN d68_28 rfl ?_
  first | refine ie_putr d68_29 fl13_27 (Or.inr ⟨rfl, rfl, rfl⟩) ht rfl rfl ?_ | refine ie_putN d68_29 fl13_27 (Or.inr ⟨rfl, rfl, rfl⟩) ht rfl rfl ?_
  first | refine ie_aload_n d68_32 rfl ?_ | refine ie_aload_nN d68_32 rfl ?_
  refine ie_iload d68_33 rfl ?_
  refine ie_puti d68_35 fl13_31 (Or.inr ⟨rfl, rfl, rfl⟩) ht rfl rfl ?_
  exact ie_vret d68_38 rfl ⟨rfl, rfl⟩
set_option maxRecDepth 100000 in
set_option maxHeartbeats 4000000 in
/-- openReceiver, that opens none -/
theorem s67n {G : ix_G} {h : ix_H} {x : Nat} {S : MS} {T A R U D : Nat → Nat} {Lo Lr : Nat → List Nat} {e v cr : Nat} (C : cRel h x S T A R U D Lo Lr) (he : e < 2) (hv8 : ix_tg h v = 8) (hl : (Lr e).length = cr) (hcr : cr ≤ 3) (hno : ix_i h v 1 = nI 5 ∨ ¬ cr < 3) : ix_Ev G 67 0 (lv_args 0 [.ref x, .ref v, .ref (cS0 x e)]) [] h none h := by
  have F := C.fx.2.2.2.2.2.2.2.2.2 e he
  have l2 := (C.ll.1 e he).2.2
  have f3 := F.2.2.2.1 2 (by decide)
  refine ix_ofE ?_
  refine ie_aload_n d67_0 rfl ?_
  refine ie_geti (k := 7) d67_1 fl1_180 hv8 ?_
  refine ie_iconst (nI 5) d67_4 (by decide) ?_
  refine ie_icmp_eq 57 d67_5 (by decide) (fun _ => ie_vret d67_57 rfl ⟨rfl, rfl⟩) (fun q => ?_)
  refine ie_aload_n d67_8 rfl ?_
  refine ie_getr _ d67_9 fl1_243 F.2.1 f3.1 ?_
  refine ie_callVx [] d67_12 ok20 rm67_20 cl1_104 rfl rfl (Nat.le_of_ble_eq_true rfl) (Nat.le_of_ble_eq_true rfl) f3.2 (s20 f3.2) ?_
  rw [l2.2.1, List.length_map, hl]
  refine ie_iconst (nI 3) d67_15 (by decide) ?_
  refine ie_icmp_ge 57 d67_16 (by decide) (fun _ => ie_vret d67_57 rfl ⟨rfl, rfl⟩) (fun y => ?_)
  rw [nI_leI (by omega) (by omega)] at y
  rcases hno with z | z
  · exact absurd z q
  · omega
set_option maxRecDepth 100000 in
set_option maxHeartbeats 4000000 in
/-- openReceiver, that opens one -/
theorem s67y {G : ix_G} {h : ix_H} {x : Nat} {S : MS} {T A R U D : Nat → Nat} {Lo Lr : Nat → List Nat} {e t p cr v : Nat} {w : Int32} (I : mInv S) (C : cRel h x S T A R U D Lo Lr) (hv : vT S t) (he : e = 1 - t / 320) (h0 : S 23 t = 0) (h24 : S 24 t = 0) (hcr : S 43 e = nI cr) (hcr3 : cr < 3) (hp1 : 3 * e ≤ p) (hp2 : p < 3 * e + 3) (h35 : S 35 p = 0) (hl : (Lr e).length = cr) (a : cUa h x S (T t) v) (hK : ¬ S 46 0 = nI 5) : ix_E G 67 0 (lv_args 0 [.ref x, .ref v, .ref (cS0 x e)]) [] h (fun rv h' => rv = none ∧ cPo x h h' 3 100 ∧ ix_r h' (T t) 7 = some (ix_nx h) ∧ ix_tg h' (T t) = 7 ∧ ceq h h' v ∧ ∃ D2 : Nat, cRel (ix_si h' (ix_nx h) 9 w) x (mset (mOpen S e t p cr) 31 p w) T A (fun k => if k = t then ix_nx h else R k) U (fun i => if i = 3 * e + 2 then D2 else D i) Lo (fun k => if k = e then Lr e ++ [t] else Lr k)) := by
  have t6 := hv.1
  have he2 : e < 2 := by omega
  have F := C.fx.2.2.2.2.2.2.2.2.2 e he2
  have l2 := (C.ll.1 e he2).2.2
  have f3 := F.2.2.2.1 2 (by decide)
  have zt := (C.tx hv).1
  have xlt : T t < ix_nx h := C.lt (by rw [zt.2.1]; decide)
  have vlt : v < ix_nx h := C.lt (by rw [a.2.1]; decide)
  have alt : cLs x e 2 < ix_nx h := C.lt (by rw [f3.2]; decide)
  have tD := C.Dt (i := 3 * e + 2) (by omega)
  have dlt : D (3 * e + 2) < ix_nx h := C.lt (by rcases tD with w | w <;> rw [w] <;> decide)
  have aT : ¬ cLs x e 2 = T t := fun q => by have := f3.2; rw [q, zt.2.1] at this; exact absurd this (by decide)
  have dT : ¬ D (3 * e + 2) = T t := fun q => by rw [q, zt.2.1] at tD; omega
  have vT' : ¬ v = T t := fun q => by have := a.2.1; rw [q, zt.2.1] at this; exact absurd this (by decide)
  have va : ¬ v = cLs x e 2 := fun q => by have := a.2.1; rw [q, f3.2] at this; exact absurd this (by decide)
  have vD : ¬ v = D (3 * e + 2) := fun q => by have := a.2.1; rw [q] at this; omega
  refine ie_aload_n d67_0 rfl ?_
  refine ie_geti (k := 7) d67_1 fl1_180 a.2.1 ?_
  rw [a.2.2.2.1]
  refine ie_iconst (nI 5) d67_4 (by decide) ?_
  refine ie_icmp_eq 57 d67_5 (by decide) (fun z => absurd z hK) (fun _ => ?_)
  refine ie_aload_n d67_8 rfl ?_
  refine ie_getr _ d67_9 fl1_243 F.2.1 f3.1 ?_
  refine ie_callVx [] d67_12 ok20 rm67_20 cl1_104 rfl rfl (Nat.le_of_ble_eq_true rfl) (Nat.le_of_ble_eq_true rfl) f3.2 (s20 f3.2) ?_
  rw [l2.2.1, List.length_map, hl]
  refine ie_iconst (nI 3) d67_15 (by decide) ?_
  refine ie_icmp_ge 57 d67_16 (by decide) (fun z => absurd z (by rw [nI_leI (by omega) (by omega)]; omega)) (fun _ => ?_)
  refine ie_new d67_19 nl1_206 ?_
  show ix_E G 67 22 _ _ (ix_nw h 3 0 14) _
  have en : ∀ b, b < ix_nx h → ix_tg (ix_nw h 3 0 14) b = ix_tg h b := fun b hb => by rw [ix_tg_nw, if_neg (by omega)]
  have er : ∀ b j, b < ix_nx h → ix_r (ix_nw h 3 0 14) b j = ix_r h b j := fun b j hb => by rw [ix_r_nw, if_neg (by omega)]
  have xx : x < ix_nx h := C.lt (by rw [C.fx.1]; decide)
  refine ie_dup d67_22 rfl ?_
  refine ie_aload_n d67_23 rfl ?_
  refine ie_getr (T t) d67_24 fl1_153 (by rw [en v vlt]; exact a.2.1) (by rw [er v 0 vlt]; exact a.2.2.1) ?_
  refine ie_aload_n d67_27 rfl ?_
  refine ie_aload_n d67_28 rfl ?_
  refine ie_getr (cLk x) d67_29 fl1_23 (by rw [en x xx]; exact C.fx.1) (by rw [er x 2 xx]; exact C.fx.2.2.1) ?_
  refine ie_aload_n d67_32 rfl ?_
  refine ie_geti (k := 0) d67_33 fl1_7 (by rw [en x xx]; exact C.fx.1) ?_
  rw [ix_i_nw, if_neg (by omega), C.2.2.1]
  refine ie_callIx [_, _, _, _] d67_36 ok68 rm67_68 cl1_246 rfl rfl (Nat.le_of_ble_eq_true rfl) (Nat.le_of_ble_eq_true rfl) s68 ?_
  have o1 : ∀ b, b < ix_nx h → ceq h (hRn h (T t) (cS0 x e) (cLk x) (S 0 0)) b := fun b hb => hRn_o (by omega) (by omega)
  have nn := hRn_n (h := h) (tx := T t) (sd := cS0 x e) (lk := cLk x) (to := S 0 0)
  have nb := hRn_b (h := h) (tx := T t) (sd := cS0 x e) (lk := cLk x) (to := S 0 0)
  have P1 := hRn_po (h := h) (tx := T t) (sd := cS0 x e) (lk := cLk x) (to := S 0 0) (x := x)
  have z1 := hRn_z (tx := T t) (sd := cS0 x e) (lk := cLk x) (to := S 0 0) C.nx
  have x1 : ix_nx (hRn h (T t) (cS0 x e) (cLk x) (S 0 0)) = ix_nx h + 2 := hRn_x
  generalize hRn h (T t) (cS0 x e) (cLk x) (S 0 0) = h1 at *
  refine ie_astore_n d67_39 (by decide) ?_
  refine ie_aload_n d67_40 rfl ?_
  refine ie_getr (T t) d67_41 fl1_153 (by rw [(o1 v vlt).1]; exact a.2.1) (by rw [(o1 v vlt).2.2.2]; exact a.2.2.1) ?_
  refine ie_aload_n d67_44 rfl ?_
  have tT1 : ix_tg h1 (T t) = 7 := by rw [(o1 _ xlt).1]; exact zt.2.1
  refine ie_putr (k := 6) d67_45 fl1_226 (Or.inl rfl) tT1 rfl rfl ?_
  have P2 : cPo x h (ix_sr h1 (T t) 7 (some (ix_nx h))) 2 78 := P1.sr (cCl_of tT1 (by decide))
  have o2 : ∀ b, b < ix_nx h + 2 → b ≠ T t → ceq h1 (ix_sr h1 (T t) 7 (some (ix_nx h))) b := fun b _ hb => ⟨rfl, rfl, fun _ => rfl, fun j => by rw [ix_r_sr, if_neg (fun z => hb z.1)]⟩
  have r7 : ix_r (ix_sr h1 (T t) 7 (some (ix_nx h))) (T t) 7 = some (ix_nx h) := by rw [ix_r_sr, if_pos ⟨rfl, rfl⟩]
  have iT : ∀ j, ix_i (ix_sr h1 (T t) 7 (some (ix_nx h))) (T t) j = ix_i h (T t) j := fun j => (o1 _ xlt).2.2.1 j
  have tT2 : ix_tg (ix_sr h1 (T t) 7 (some (ix_nx h))) (T t) = 7 := tT1
  have x2 : ix_nx (ix_sr h1 (T t) 7 (some (ix_nx h))) = ix_nx h + 2 := x1
  have z2 : cNx (ix_sr h1 (T t) 7 (some (ix_nx h))) := z1
  generalize ix_sr h1 (T t) 7 (some (ix_nx h)) = h2 at *
  have o12 : ∀ b, b < ix_nx h → b ≠ T t → ceq h h2 b := fun b hb hb2 => (o1 b hb).tr (o2 b (by omega) hb2)
  have f3' : ix_tg h2 (cLs x e 2) = 10 := by rw [(o12 _ alt aT).1]; exact f3.2
  have s0lt : cS0 x e < ix_nx h := C.lt (by rw [F.2.1]; decide)
  have s0T : ¬ cS0 x e = T t := fun q => by have := F.2.1; rw [q, zt.2.1] at this; exact absurd this (by decide)
  refine ie_aload_n d67_48 rfl ?_
  refine ie_getr (cLs x e 2) d67_49 fl1_243 (by rw [(o12 _ s0lt s0T).1]; exact F.2.1) (by rw [(o12 _ s0lt s0T).2.2.2]; exact f3.1) ?_
  refine ie_aload_n d67_52 rfl ?_
  have nT : ¬ ix_nx h = T t := by omega
  have nT1 : ¬ ix_nx h + 1 = T t := by omega
  have cn := o2 (ix_nx h) (by omega) nT
  have cn1 := o2 (ix_nx h + 1) (by omega) nT1
  have L2 : cLi h2 (cLs x e 2) (D (3 * e + 2)) ((Lr e).map R) := by
    obtain ⟨g1, g2, g3, g4, g5, g6⟩ := l2
    have ca := o12 _ alt aT
    have cd := o12 _ dlt dT
    exact ⟨by rw [ca.2.2.2]; exact g1, by rw [ca.2.2.1]; exact g2, by rw [cd.2.1]; exact g3, by rw [cd.2.1]; exact g4, by rw [cd.1, cd.2.1]; exact g5, fun i b hb => by rw [cd.2.2.2]; exact g6 i b hb⟩
  have hE : ∀ b, b ∈ (Lr e).map R → elT h2 b ∧ b < ix_nx h2 := fun b hb => by
    obtain ⟨t', m1, m2⟩ := List.mem_map.mp hb
    obtain ⟨w1, w2, w3⟩ := (C.rw e he2).2.1 t' m1
    have tg := ((C.tx w1).2.2 w3).2.1
    have lt : R t' < ix_nx h := C.lt (by rw [tg]; decide)
    rw [← m2]
    refine ⟨Or.inr ?_, by omega⟩
    rw [(o12 _ lt (fun q => by rw [q, zt.2.1] at tg; exact absurd tg (by decide))).1]
    exact tg
  refine ie_callV [_] d67_53 ok69 rm67_69 cl1_249 rfl rfl (Nat.le_of_ble_eq_true rfl) (Nat.le_of_ble_eq_true rfl) f3' (s69 f3' L2 (by rw [List.length_map]; omega) (by omega) (by omega) hE (Or.inr (by rw [cn.1]; exact nn.1)) (by omega)) (fun rv h3 hq => ?_)
  obtain ⟨q1, D2, q2, q3, q4, q5⟩ := hq
  subst q1
  rw [List.length_map] at q3
  refine ie_pop d67_56 rfl ?_
  have D2a : ¬ cLs x e 2 = D2 := fun q => by
    have e1 := (q3.2.1 (cLs x e 2) (by omega)).1
    rw [f3', q, q5] at e1
    exact absurd e1 (by decide)
  have D2c : ∀ b, b < ix_nx h → ¬ b = D (3 * e + 2) → ¬ b = D2 := fun b hb hd q => by
    rcases q2 with y | y
    · exact hd (q.trans y.1)
    · omega
  have D2n : ∀ b, (b = ix_nx h ∨ b = ix_nx h + 1) → ¬ b = D2 := fun b hb q => by
    rcases q2 with y | y
    · omega
    · omega
  have na : ∀ b, (b = ix_nx h ∨ b = ix_nx h + 1) → ¬ b = cLs x e 2 := fun b hb => by omega
  have c3 : ∀ b, b < ix_nx h → b ≠ cLs x e 2 → b ≠ D2 → b ≠ T t → ceq h h3 b := fun b hb h1 h2 h3 => (o12 b hb h3).tr (q3.1 b (by omega) h1 h2)
  have cT := q3.1 (T t) (by omega) (Ne.symm aT) (D2c _ xlt (Ne.symm dT))
  have cN := q3.1 (ix_nx h) (by omega) (na _ (Or.inl rfl)) (D2n _ (Or.inl rfl))
  have cN1 := q3.1 (ix_nx h + 1) (by omega) (na _ (Or.inr rfl)) (D2n _ (Or.inr rfl))
  have eN : ∀ k, k ≠ 9 → ix_i (ix_si h3 (ix_nx h) 9 w) (ix_nx h) k = ix_i h1 (ix_nx h) k := fun k hk => by
    rw [ix_i_si, if_neg (fun z => hk z.2), cN.2.2.1, cn.2.2.1]
  have rN : ∀ k, ix_r (ix_si h3 (ix_nx h) 9 w) (ix_nx h) k = ix_r h1 (ix_nx h) k := fun k => by
    rw [ix_r_si, cN.2.2.2, cn.2.2.2]
  refine ie_vret d67_57 rfl ⟨rfl, ?_, by rw [cT.2.2.2]; exact r7, by rw [cT.1]; exact tT2, c3 v vlt va (D2c v vlt vD) vT', D2, ?_⟩
  · refine (q3.po P2 (cCl_of f3' (by decide)) ?_).m (by omega) (by omega)
    rcases q2 with y | y
    · left; rw [y.1]; exact cCl_of y.2 (by decide)
    · right; omega
  · refine R_open (D2 := D2) I C hv he h0 h24 hcr hcr3 hp1 hp2 h35 (fun b hb h1 h2 h3 => (c3 b hb h1 h2 h3).tr ((sw.rfl.si).1 b (by omega))) (q3.2.2.2.2.2.2.2 z2) ?_ ⟨?_, ?_⟩ ⟨?_, fun j => ?_, ?_⟩ ?_ ?_ ?_ ⟨?_, ?_, ?_, ?_, ?_, ?_, ?_, ?_, fun k hk => ?_⟩ ⟨?_, ?_, fun j => ?_⟩
    · show ix_nx h < ix_nx h3
      have := q3.2.2.2.1
      omega
    · show ix_tg h3 (cLs x e 2) = 10
      rw [(q3.2.1 _ (by omega)).1]; exact f3'
    · show ix_ln h3 (cLs x e 2) = _
      rw [(q3.2.1 _ (by omega)).2]; exact (o12 _ alt aT).2.1
    · show ix_tg h3 (T t) = 7
      rw [cT.1]; exact tT2
    · rw [ix_i_si, if_neg (fun z => nT z.1.symm), cT.2.2.1]; exact iT j
    · rw [ix_r_si, cT.2.2.2]; exact r7
    · rcases q2 with y | y
      · exact Or.inl y.1
      · right; omega
    · rcases q2 with y | y
      · rw [y.1]
        have := y.2
        rw [(o12 _ dlt dT).1] at this
        rw [this]; decide
      · rw [C.nx D2 (by omega)]; decide
    · obtain ⟨g1, g2, g3, g4, g5, g6⟩ := q4
      exact ⟨g1, by rw [ix_i_si, if_neg (fun z => na _ (Or.inl rfl) z.1.symm)]; exact g2, g3, g4, g5, g6⟩
    · show ix_tg h3 (ix_nx h) = 3
      rw [cN.1, cn.1]; exact nn.1
    · rw [rN]; exact nn.2.1
    · rw [rN]; exact nn.2.2.1
    · rw [rN]; exact nn.2.2.2.1
    · rw [eN 3 (by decide)]; exact nn.2.2.2.2.1
    · rw [rN]; exact nn.2.2.2.2.2.1
    · rw [eN 7 (by decide)]; exact nn.2.2.2.2.2.2.1
    · rw [ix_i_si, if_pos ⟨rfl, rfl⟩]
    · have hk2 : k ≠ 9 ∧ k ≠ 3 ∧ k ≠ 7 := by
        simp only [List.mem_cons, List.not_mem_nil, or_false] at hk
        omega
      rw [eN k hk2.1]
      exact nn.2.2.2.2.2.2.2 k hk2.2.1 hk2.2.2
    · show ix_tg h3 (ix_nx h + 1) = 102
      rw [cN1.1, cn1.1]; exact nb.1
    · show ix_ln h3 (ix_nx h + 1) = 64
      rw [cN1.2.1, cn1.2.1]; exact nb.2.1
    · rw [ix_i_si, if_neg (by omega), cN1.2.2.1, cn1.2.2.1]
      exact nb.2.2 j
