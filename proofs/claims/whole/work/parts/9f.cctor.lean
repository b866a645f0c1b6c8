/-! ===== the class's constructors ===== -/
theorem ie_m3 {G : ix_G} {m pc : Nat} {lv : List (Nat × Value)} {st : List Value} {h h1 : ix_H} {o : iy_O} {P : ix_H → Prop} (q : iy_E G m pc lv st h (fun r h' => r = o ∧ h' = h1)) (hp : P h1) : iy_E G m pc lv st h (fun r h' => r = o ∧ P h') := by
  obtain ⟨r, h', q1, rfl, rfl⟩ := q
  exact ⟨r, h', q1, rfl, hp⟩
def ceL (h h' : ix_H) (b : Nat) : Prop := ceq h h' b ∧ ∀ j, ix_l h' b j = ix_l h b j
theorem ceL.rfl {h : ix_H} {b : Nat} : ceL h h b := ⟨ceq.rfl, fun _ => Eq.refl _⟩
theorem ceL.tr {h h1 h2 : ix_H} {b : Nat} (p : ceL h h1 b) (q : ceL h1 h2 b) : ceL h h2 b := ⟨p.1.tr q.1, fun j => (q.2 j).trans (p.2 j)⟩
theorem ceL_si {h : ix_H} {s k b : Nat} {v : Int32} (hb : b ≠ s) : ceL h (ix_si h s k v) b := ⟨⟨rfl, rfl, fun j => by rw [ix_i_si, if_neg (fun z => hb z.1)], fun _ => rfl⟩, fun _ => rfl⟩
theorem ceL_sr {h : ix_H} {s k b : Nat} {v : Option Nat} (hb : b ≠ s) : ceL h (ix_sr h s k v) b := ⟨⟨rfl, rfl, fun _ => rfl, fun j => by rw [ix_r_sr, if_neg (fun z => hb z.1)]⟩, fun _ => rfl⟩
theorem ceL_nw {h : ix_H} {t n w b : Nat} (hb : b ≠ ix_nx h) : ceL h (ix_nw h t n w) b := ⟨⟨by rw [ix_tg_nw, if_neg hb], by rw [ix_ln_nw, if_neg hb], fun j => by rw [ix_i_nw, if_neg hb], fun j => by rw [ix_r_nw, if_neg hb]⟩, fun j => by rw [ix_l_nw, if_neg hb]⟩
theorem ceL_mn {h : ix_H} {b : Nat} (hb : ¬ (ix_nx h ≤ b ∧ b < ix_nx h + 7)) : ceL h (hMn h) b := by
  obtain ⟨p1, p2, p3, p4, p5⟩ := hMn_o hb
  exact ⟨⟨p1, p2, p3, p5⟩, p4⟩
set_option maxRecDepth 100000 in
theorem s6 {G : ix_G} {h : ix_H} {b : Nat} : ix_Ev G 6 0 (lv_args 0 [.ref b]) [] h none h := by
  refine ix_ofE ?_
  refine ie_aload_n d6_0 rfl ?_
  refine ie_objI d6_1 oi6_1 oi_I oi_C (by decide) (Nat.le_of_ble_eq_true rfl) ?_
  exact ie_vret d6_4 rfl ⟨rfl, rfl⟩
set_option maxRecDepth 100000 in
theorem s5 {G : ix_G} {h : ix_H} {b : Nat} (tb : ix_tg h b = 10) : ix_Ev G 5 0 (lv_args 0 [.ref b]) [] h none (ix_si h b 2 0) := by
  refine ix_ofE ?_
  refine ie_aload_n d5_0 rfl ?_
  refine ie_callIx [] d5_1 ok6 rm5_6 cl5_1 rfl rfl (Nat.le_of_ble_eq_true rfl) (Nat.le_of_ble_eq_true rfl) s6 ?_
  refine ie_aload_n d5_4 rfl ?_
  refine ie_iconst 0 d5_5 (by decide) ?_
  refine ie_puti d5_6 fl5_7 (Or.inl rfl) tb rfl rfl ?_
  exact ie_vret d5_9 rfl ⟨rfl, rfl⟩
set_option maxRecDepth 100000 in
theorem s4 {G : ix_G} {h : ix_H} {b : Nat} (tb : ix_tg h b = 10) : ix_Ev G 4 0 (lv_args 0 [.ref b]) [] h none (ix_sr (ix_si h b 2 0) b 0 (some G.2.2.2.1)) := by
  refine ix_ofE ?_
  refine ie_aload_n d4_0 rfl ?_
  refine ie_callIx [] d4_1 ok5 rm4_5 cl4_1 rfl rfl (Nat.le_of_ble_eq_true rfl) (Nat.le_of_ble_eq_true rfl) (s5 tb) ?_
  refine ie_aload_n d4_4 rfl ?_
  refine ie_gets d4_5 wl_39 ?_
  refine ie_putr d4_8 fl4_9 (Or.inl rfl) tb rfl rfl ?_
  exact ie_vret d4_11 rfl ⟨rfl, rfl⟩
theorem an7_9 : Cond.classLink (ix_own 7) 9 "FileDelivery$Unit" ∈ ix_words := ix_in 167 (by decide +kernel) (by decide +kernel)
theorem an1_13 : Cond.classLink (ix_own 1) 13 "FileDelivery$Side" ∈ ix_words := ix_in 93 (by decide +kernel) (by decide +kernel)
set_option maxRecDepth 100000 in
theorem s7 {G : ix_G} {h : ix_H} {b : Nat} (tb : ix_tg h b = 2) (hb : b ≠ ix_nx h) : ix_Ev G 7 0 (lv_args 0 [.ref b]) [] h none (ix_sr (ix_nw h 106 24 24) b 0 (some (ix_nx h))) := by
  refine ix_ofE ?_
  refine ie_aload_n d7_0 rfl ?_
  refine ie_objI d7_1 oi7_3 oi_I oi_C (by decide) (Nat.le_of_ble_eq_true rfl) ?_
  refine ie_aload_n d7_4 rfl ?_
  refine ie_bipush (nI 24) d7_5 (by decide) ?_
  refine ie_anew (t := 6) (N := 24) d7_7 (by decide) rfl (Or.inr (Or.inl rfl)) an7_9 rfl (by decide) ?_
  refine ie_putr d7_10 fl7_11 (Or.inr ⟨rfl, rfl, rfl⟩) (by rw [ix_tg_nw, if_neg hb]; exact tb) rfl rfl ?_
  exact ie_vret d7_13 rfl ⟨rfl, rfl⟩
/-- the sizes: none there -/
def hMi (h : ix_H) (b : Nat) : Nat → ix_H
  | 0 => h
  | i + 1 => ix_si (hMi h b i) b i (-1)
theorem hMi_o {h : ix_H} {b : Nat} : ∀ i, (∀ q, q ≠ b → ceL h (hMi h b i) q) ∧ ix_nx (hMi h b i) = ix_nx h ∧ ix_us (hMi h b i) = ix_us h ∧ (∀ q, ix_tg (hMi h b i) q = ix_tg h q ∧ ix_ln (hMi h b i) q = ix_ln h q ∧ ∀ j, ix_r (hMi h b i) q j = ix_r h q j) ∧ ∀ j, j < i → ix_i (hMi h b i) b j = -1
  | 0 => ⟨fun _ _ => ceL.rfl, rfl, rfl, fun _ => ⟨rfl, rfl, fun _ => rfl⟩, fun j hj => absurd hj (Nat.not_lt_zero _)⟩
  | i + 1 => by
    obtain ⟨a1, a2, a3, a4, a5⟩ := hMi_o (h := h) (b := b) i
    refine ⟨fun q hq => (a1 q hq).tr (ceL_si hq), a2, a3, fun q => a4 q, fun j hj => ?_⟩
    unfold hMi
    rw [ix_i_si]
    by_cases q : j = i
    · rw [if_pos ⟨rfl, q⟩]
    · rw [if_neg (fun z => q z.2), a5 j (by omega)]
set_option maxRecDepth 100000 in
set_option maxHeartbeats 4000000 in
theorem s3_l {G : ix_G} {h : ix_H} {a b : Nat} (ta : ix_tg h a = 6) (ra : ix_r h a 1 = some b) (tb : ix_tg h b = 100) (lb : ix_ln h b = 6) : ∀ (z i : Nat), i ≤ 6 → 6 - i < z → ∀ (lv : List (Nat × Value)), lv.lookup 0 = some (.ref a) → lv.lookup 1 = some (.int (nI i)) → iy_E G 3 26 lv [] (hMi h b i) (fun r h' => r = .inl none ∧ h' = hMi h b 6) := by
  intro z
  induction z with
  | zero => intro i _ hz; omega
  | succ z ih =>
    intro i hi hz lv l0 l1
    obtain ⟨a1, a2, a3, a4, a5⟩ := hMi_o (h := h) (b := b) i
    refine iz_iload_n d3_26 l1 ?_
    refine iz_bipush (nI 6) d3_27 (by decide) ?_
    refine iz_icmp_ge 45 d3_29 (by decide) (fun q => ?_) (fun q => ?_)
    · rw [nI_leI (by omega) (by omega)] at q
      have e1 : i = 6 := by omega
      subst e1
      exact iz_vret d3_45 rfl ⟨rfl, rfl⟩
    · rw [nI_leI (by omega) (by omega)] at q
      refine iz_aload_n d3_32 l0 ?_
      refine iz_getr (k := 5) _ d3_33 fl3_16 (by rw [(a4 a).1]; exact ta) (by rw [(a4 a).2.2]; exact ra) ?_
      refine iz_iload_n d3_36 l1 ?_
      refine iz_iconst (-1) d3_37 (by decide) ?_
      refine iz_iast d3_38 (by rw [(a4 b).1]; exact tb) (by rw [(a4 b).2.1, lb]; exact vp_nI (by omega) (by decide)) ?_
      rw [nI_clamp (by omega)]
      refine iz_iinc (nI (i + 1)) d3_39 l1 (nI_1 i) (by decide) ?_
      refine iz_goto 26 d3_42 (by decide) ?_
      exact ih (i + 1) (by omega) (by omega) _ (ix_lk3 (by decide) l0 rfl) ix_lk1
/-- a store that was just made (it lies at a) -/
def stF (h : ix_H) (a : Nat) : Prop := ix_tg h a = 6 ∧ ix_r h a 0 = some (a + 1) ∧ ix_r h a 1 = some (a + 8) ∧ ix_tg h (a + 1) = 104 ∧ ix_ln h (a + 1) = 6 ∧ ix_tg h (a + 8) = 100 ∧ ix_ln h (a + 8) = 6 ∧ ∀ f, f < 6 → ix_r h (a + 1) f = some (a + 2 + f) ∧ ix_tg h (a + 2 + f) = 102 ∧ ix_ln h (a + 2 + f) = 64 ∧ (∀ j, ix_i h (a + 2 + f) j = 0) ∧ ix_i h (a + 8) f = -1
theorem stF.fr {h h' : ix_H} {a : Nat} (p : stF h a) (q : ∀ b, a ≤ b → b < a + 9 → ceL h h' b) : stF h' a := by
  obtain ⟨p1, p2, p3, p4, p5, p6, p7, p8⟩ := p
  have qa := (q a (by omega) (by omega)).1
  have qb := (q (a + 1) (by omega) (by omega)).1
  have qc := (q (a + 8) (by omega) (by omega)).1
  refine ⟨by rw [qa.1]; exact p1, by rw [qa.2.2.2]; exact p2, by rw [qa.2.2.2]; exact p3, by rw [qb.1]; exact p4, by rw [qb.2.1]; exact p5, by rw [qc.1]; exact p6, by rw [qc.2.1]; exact p7, fun f hf => ?_⟩
  obtain ⟨r1, r2, r3, r4, r5⟩ := p8 f hf
  have qf := (q (a + 2 + f) (by omega) (by omega)).1
  exact ⟨by rw [qb.2.2.2]; exact r1, by rw [qf.1]; exact r2, by rw [qf.2.1]; exact r3, fun j => by rw [qf.2.2.1]; exact r4 j, by rw [qc.2.2.1]; exact r5⟩
set_option maxRecDepth 100000 in
set_option maxHeartbeats 4000000 in
theorem s3 {G : ix_G} {h : ix_H} {a : Nat} (ta : ix_tg h a = 6) (hn : ix_nx h = a + 1) (hz : cNx h) : iy_E G 3 0 (lv_args 0 [.ref a]) [] h (fun r h' => r = .inl none ∧ ix_nx h' = a + 9 ∧ ix_us h' = ix_us h + 396 ∧ cNx h' ∧ (∀ b, b < a → ceL h h' b) ∧ stF h' a) := by
  have o1 : ∀ b, b < a + 1 → ceL h (hMn h) b := fun b hb => ceL_mn (by omega)
  refine iz_aload_n d3_0 rfl ?_
  refine iz_objI d3_1 oi3_3 oi_I oi_C (by decide) (Nat.le_of_ble_eq_true rfl) ?_
  refine iz_aload_n d3_4 rfl ?_
  refine iz_bipush (nI 6) d3_5 (by decide) ?_
  refine iz_bipush (nI 64) d3_7 (by decide) ?_
  refine iz_mna d3_9 mn3_9 ?_
  refine iz_putr d3_13 fl3_11 (Or.inr ⟨rfl, rfl, rfl⟩) (by rw [(o1 a (by omega)).1.1]; exact ta) rfl rfl ?_
  refine iz_aload_n d3_16 rfl ?_
  refine iz_bipush (nI 6) d3_17 (by decide) ?_
  refine iz_newa (t := 0) (N := 6) d3_19 ⟨by decide, rfl⟩ rfl (by decide) ?_
  have n2 : ix_nx (ix_sr (hMn h) a 0 (some (ix_nx h))) = a + 8 := by show ix_nx h + 7 = _; omega
  rw [n2, hn]
  rw [hn] at n2
  generalize e2 : ix_sr (hMn h) a 0 (some (a + 1)) = k2 at *
  have o2 : ∀ b, b ≠ a → ceL (hMn h) k2 b := fun b hb => by rw [← e2]; exact ceL_sr hb
  have t2 : ∀ b, ix_tg k2 b = ix_tg (hMn h) b := fun b => by rw [← e2]; rfl
  have u2 : ix_us k2 = ix_us h + 390 := by rw [← e2]; rfl
  have r2 : ix_r k2 a 0 = some (a + 1) := by rw [← e2, ix_r_sr, if_pos ⟨rfl, rfl⟩]
  refine iz_putr d3_21 fl3_16 (Or.inr ⟨rfl, rfl, rfl⟩) (by rw [ix_tg_nw, if_neg (by omega), t2, (o1 a (by omega)).1.1]; exact ta) rfl rfl ?_
  refine iz_iconst (nI 0) d3_24 (by decide) ?_
  refine iz_istore_n d3_25 (by decide) ?_
  generalize e3 : ix_nw k2 (100 + 0) 6 6 = k3
  have o3 : ∀ b, b ≠ a + 8 → ceL k2 k3 b := fun b hb => by rw [← e3]; exact ceL_nw (by rw [n2]; exact hb)
  have t3 : ix_tg k3 (a + 8) = 100 := by rw [← e3, ix_tg_nw, n2, if_pos rfl]
  have l3 : ix_ln k3 (a + 8) = 6 := by rw [← e3, ix_ln_nw, n2, if_pos rfl]
  have m3 : ix_nx k3 = a + 9 := by rw [← e3, ix_nx_nw, n2]
  have u3 : ix_us k3 = ix_us h + 396 := by rw [← e3, ix_us_nw, u2]
  generalize e4 : ix_sr k3 a 1 (some (a + 8)) = k4
  have o4 : ∀ b, b ≠ a → ceL k3 k4 b := fun b hb => by rw [← e4]; exact ceL_sr hb
  have t4 : ∀ b, ix_tg k4 b = ix_tg k3 b := fun b => by rw [← e4]; rfl
  have r4 : ix_r k4 a 1 = some (a + 8) := by rw [← e4, ix_r_sr, if_pos ⟨rfl, rfl⟩]
  have r40 : ix_r k4 a 0 = some (a + 1) := by rw [← e4, ix_r_sr, if_neg (fun z => absurd z.2 (by decide)), (o3 a (by omega)).1.2.2.2, r2]
  have t4a : ix_tg k4 a = 6 := by rw [t4, (o3 a (by omega)).1.1, t2, (o1 a (by omega)).1.1]; exact ta
  have w4 := o4 (a + 8) (by omega)
  refine ie_m3 (s3_l t4a r4 (by rw [w4.1.1]; exact t3) (by rw [w4.1.2.1]; exact l3) 100 0 (by omega) (by omega) _ rfl rfl) ?_
  obtain ⟨a1, a2, a3, a4, a5⟩ := hMi_o (h := k4) (b := a + 8) 6
  have al : ∀ b, b ≠ a → b ≠ a + 8 → ceL (hMn h) (hMi k4 (a + 8) 6) b := fun b h1 h2 => ((o2 b h1).tr (o3 b h2)).tr ((o4 b h1).tr (a1 b h2))
  have m4 : ix_nx k4 = a + 9 := by rw [← e4]; exact m3
  refine ⟨by rw [a2]; exact m4, by rw [a3, ← e4]; exact u3, fun b hb => ?_, fun b hb => (o1 b (by omega)).tr (al b (by omega) (by omega)), by rw [(a4 a).1]; exact t4a, by rw [(a4 a).2.2]; exact r40, by rw [(a4 a).2.2]; exact r4, ?_, ?_, by rw [(a4 _).1, w4.1.1]; exact t3, by rw [(a4 _).2.1, w4.1.2.1]; exact l3, fun f hf => ?_⟩
  · rw [a2, m4] at hb
    rw [(al b (by omega) (by omega)).1.1, (ceL_mn (h := h) (b := b) (by omega)).1.1]
    exact hz b (by omega)
  · rw [(al (a + 1) (by omega) (by omega)).1.1, ← hn]
    exact hMn_a.1
  · rw [(al (a + 1) (by omega) (by omega)).1.2.1, ← hn]
    exact hMn_a.2.1
  · have q1 := hMn_a (h := h)
    have q2 := hMn_b (h := h) hf
    rw [hn] at q1 q2
    have z1 := (al (a + 1) (by omega) (by omega)).1
    have z2 := (al (a + 2 + f) (by omega) (by omega)).1
    rw [show a + 1 + 1 + f = a + 2 + f by omega] at q2
    refine ⟨by rw [z1.2.2.2, q1.2.2 f hf], by rw [z2.1]; exact q2.1, by rw [z2.2.1]; exact q2.2.1, fun j => by rw [z2.2.2.1]; exact q2.2.2 j, a5 f hf⟩
