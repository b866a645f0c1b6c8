/-! ===== the class's constructors: a side, the whole object ===== -/
def hAL (k : ix_H) (D a i : Nat) : ix_H := ix_sr (ix_sr (ix_si (ix_nw k 10 0 3) (ix_nx k) 2 0) (ix_nx k) 0 (some D)) a i (some (ix_nx k))
theorem hAL_o {k : ix_H} {D a i : Nat} (ha : a < ix_nx k) : (∀ b, b ≠ a → b ≠ ix_nx k → ceL k (hAL k D a i) b) ∧ ix_nx (hAL k D a i) = ix_nx k + 1 ∧ ix_us (hAL k D a i) = ix_us k + 3 ∧ ix_tg (hAL k D a i) (ix_nx k) = 10 ∧ ix_r (hAL k D a i) (ix_nx k) 0 = some D ∧ ix_i (hAL k D a i) (ix_nx k) 1 = 0 ∧ ix_tg (hAL k D a i) a = ix_tg k a ∧ ix_r (hAL k D a i) a i = some (ix_nx k) ∧ ∀ j, j ≠ i → ix_r (hAL k D a i) a j = ix_r k a j := by
  refine ⟨fun b h1 h2 => ((ceL_nw h2).tr (ceL_si h2)).tr ((ceL_sr h2).tr (ceL_sr h1)), rfl, rfl, ?_, ?_, ?_, ?_, ?_, fun j hj => ?_⟩
  · show ix_tg (ix_nw k 10 0 3) (ix_nx k) = 10
    rw [ix_tg_nw, if_pos rfl]
  · unfold hAL
    rw [ix_r_sr, if_neg (by omega), ix_r_sr, if_pos ⟨rfl, rfl⟩]
  · show ix_i (ix_si (ix_nw k 10 0 3) (ix_nx k) 2 0) (ix_nx k) 1 = 0
    rw [ix_i_si, if_neg (fun z => absurd z.2 (by decide)), ix_i_nw, if_pos rfl]
  · show ix_tg (ix_nw k 10 0 3) a = _
    rw [ix_tg_nw, if_neg (by omega)]
  · unfold hAL
    rw [ix_r_sr, if_pos ⟨rfl, rfl⟩]
  · unfold hAL
    rw [ix_r_sr, if_neg (fun z => hj z.2), ix_r_sr, if_neg (by omega)]
    show ix_r (ix_nw k 10 0 3) a j = _
    rw [ix_r_nw, if_neg (by omega)]
/-- a side that was just made, with n of its lists -/
def sdF (h : ix_H) (a D n : Nat) : Prop := ix_tg h a = 5 ∧ ix_r h a 0 = some (a + 1) ∧ stF h (a + 1) ∧ ∀ k, k < n → ix_r h a (k + 1) = some (a + 10 + k) ∧ ix_tg h (a + 10 + k) = 10 ∧ ix_r h (a + 10 + k) 0 = some D ∧ ix_i h (a + 10 + k) 1 = 0
theorem sdF.fr {h h' : ix_H} {a D : Nat} (p : sdF h a D 3) (q : ∀ b, a ≤ b → b < a + 13 → ceL h h' b) : sdF h' a D 3 := by
  obtain ⟨p1, p2, p3, p4⟩ := p
  have qa := (q a (by omega) (by omega)).1
  refine ⟨by rw [qa.1]; exact p1, by rw [qa.2.2.2]; exact p2, p3.fr (fun b h1 h2 => q b (by omega) (by omega)), fun k hk => ?_⟩
  obtain ⟨r1, r2, r3, r4⟩ := p4 k hk
  have qk := (q (a + 10 + k) (by omega) (by omega)).1
  exact ⟨by rw [qa.2.2.2]; exact r1, by rw [qk.1]; exact r2, by rw [qk.2.2.2]; exact r3, by rw [qk.2.2.1]; exact r4⟩
def sdN (h0 h : ix_H) (a n : Nat) : Prop := ix_nx h = a + 10 + n ∧ ix_us h = ix_us h0 + 398 + 3 * n ∧ cNx h ∧ ∀ b, b < a → ceL h0 h b
theorem sdF.add {h0 h : ix_H} {a D n : Nat} (p : sdF h a D n) (q : sdN h0 h a n) : sdF (hAL h D a (n + 1)) a D (n + 1) ∧ sdN h0 (hAL h D a (n + 1)) a (n + 1) := by
  obtain ⟨p1, p2, p3, p4⟩ := p
  obtain ⟨q1, q2, q3, q4⟩ := q
  obtain ⟨a1, a2, a3, a4, a5, a6, a7, a8, a9⟩ := hAL_o (k := h) (D := D) (a := a) (i := n + 1) (by omega)
  refine ⟨⟨by rw [a7]; exact p1, by rw [a9 0 (by omega)]; exact p2, p3.fr (fun b h1 h2 => a1 b (by omega) (by omega)), fun k hk => ?_⟩, by rw [a2]; omega, by rw [a3]; omega, fun b hb => ?_, fun b hb => (q4 b hb).tr (a1 b (by omega) (by omega))⟩
  · by_cases e : k = n
    · subst e
      rw [q1] at a4 a5 a6 a8
      exact ⟨a8, a4, a5, a6⟩
    · obtain ⟨r1, r2, r3, r4⟩ := p4 k (by omega)
      have w := (a1 (a + 10 + k) (by omega) (by omega)).1
      exact ⟨by rw [a9 (k + 1) (by omega)]; exact r1, by rw [w.1]; exact r2, by rw [w.2.2.2]; exact r3, by rw [w.2.2.1]; exact r4⟩
  · rw [a2] at hb
    rw [(a1 b (by omega) (by omega)).1.1]
    exact q3 b (by omega)
set_option maxRecDepth 100000 in
set_option maxHeartbeats 4000000 in
/-- Side.<init> -/
theorem s2 {G : ix_G} {h : ix_H} {a : Nat} (ta : ix_tg h a = 5) (hn : ix_nx h = a + 1) (hz : cNx h) : iy_E G 2 0 (lv_args 0 [.ref a]) [] h (fun r h' => r = .inl none ∧ ix_nx h' = a + 13 ∧ ix_us h' = ix_us h + 407 ∧ cNx h' ∧ (∀ b, b < a → ceL h h' b) ∧ sdF h' a G.2.2.2.1 3) := by
  refine iz_aload_n d2_0 rfl ?_
  refine iz_objI d2_1 oi2_1 oi_I oi_C (by decide) (Nat.le_of_ble_eq_true rfl) ?_
  refine iz_aload_n d2_4 rfl ?_
  refine iz_new d2_5 nl2_7 ?_
  refine iz_dup d2_8 rfl ?_
  have z1 : cNx (ix_nw h 6 0 2) := fun b hb => by
    rw [ix_nx_nw] at hb
    rw [ix_tg_nw, if_neg (by omega)]
    exact hz b (by omega)
  refine iz_callIY [] d2_9 ok3 rfl rm2_3 cl2_9 rfl rfl (Nat.le_of_ble_eq_true rfl) (Nat.le_of_ble_eq_true rfl) (s3 (a := ix_nx h) (by show ix_tg (ix_nw h 6 0 2) _ = 6; rw [ix_tg_nw, if_pos rfl]) rfl z1) ?_
  intro h2 H2
  rw [hn] at H2 ⊢
  obtain ⟨m2, u2, c2, o2, f2⟩ := H2
  have u2' : ix_us h2 = ix_us h + 398 := by rw [u2]; rfl
  have oa : ∀ b, b < a + 1 → ceL h h2 b := fun b hb => (ceL_nw (t := 6) (n := 0) (w := 2) (h := h) (by omega)).tr (o2 b (by omega))
  have t2 : ix_tg h2 a = 5 := by rw [(oa a (by omega)).1.1]; exact ta
  refine iz_putr d2_12 fl2_10 (Or.inr ⟨rfl, rfl, rfl⟩) t2 rfl rfl ?_
  have F0 : sdF (ix_sr h2 a 0 (some (a + 1))) a G.2.2.2.1 0 := ⟨t2, by rw [ix_r_sr, if_pos ⟨rfl, rfl⟩], f2.fr (fun b h1 _ => ceL_sr (by omega)), fun k hk => absurd hk (Nat.not_lt_zero _)⟩
  have N0 : sdN h (ix_sr h2 a 0 (some (a + 1))) a 0 := ⟨m2, by show ix_us h2 = _; omega, fun b hb => c2 b hb, fun b hb => (oa b (by omega)).tr (ceL_sr (by omega))⟩
  generalize ix_sr h2 a 0 (some (a + 1)) = k0 at *
  obtain ⟨F1, N1⟩ := F0.add N0
  obtain ⟨F2, N2⟩ := F1.add N1
  obtain ⟨F3, N3⟩ := F2.add N2
  refine iz_aload_n d2_15 rfl ?_
  refine iz_new d2_16 nl2_16 ?_
  refine iz_dup d2_19 rfl ?_
  refine iz_callIx [] d2_20 ok4 rm2_4 cl2_18 rfl rfl (Nat.le_of_ble_eq_true rfl) (Nat.le_of_ble_eq_true rfl) (s4 (by show ix_tg (ix_nw k0 10 0 3) _ = 10; rw [ix_tg_nw, if_pos rfl])) ?_
  refine iz_putr d2_23 fl2_19 (Or.inr ⟨rfl, rfl, rfl⟩) (by show ix_tg (ix_nw k0 10 0 3) a = 5; rw [ix_tg_nw, if_neg (by have := N0.1; omega)]; exact F0.1) rfl rfl ?_
  show iy_E G 2 26 _ _ (hAL k0 G.2.2.2.1 a 1) _
  generalize hAL k0 G.2.2.2.1 a (0 + 1) = k1 at *
  refine iz_aload_n d2_26 rfl ?_
  refine iz_new d2_27 nl2_16 ?_
  refine iz_dup d2_30 rfl ?_
  refine iz_callIx [] d2_31 ok4 rm2_4 cl2_18 rfl rfl (Nat.le_of_ble_eq_true rfl) (Nat.le_of_ble_eq_true rfl) (s4 (by show ix_tg (ix_nw k1 10 0 3) _ = 10; rw [ix_tg_nw, if_pos rfl])) ?_
  refine iz_putr d2_34 fl2_23 (Or.inr ⟨rfl, rfl, rfl⟩) (by show ix_tg (ix_nw k1 10 0 3) a = 5; rw [ix_tg_nw, if_neg (by have := N1.1; omega)]; exact F1.1) rfl rfl ?_
  show iy_E G 2 37 _ _ (hAL k1 G.2.2.2.1 a 2) _
  generalize hAL k1 G.2.2.2.1 a (0 + 1 + 1) = k2 at *
  refine iz_aload_n d2_37 rfl ?_
  refine iz_new d2_38 nl2_16 ?_
  refine iz_dup d2_41 rfl ?_
  refine iz_callIx [] d2_42 ok4 rm2_4 cl2_18 rfl rfl (Nat.le_of_ble_eq_true rfl) (Nat.le_of_ble_eq_true rfl) (s4 (by show ix_tg (ix_nw k2 10 0 3) _ = 10; rw [ix_tg_nw, if_pos rfl])) ?_
  refine iz_putr d2_45 fl2_26 (Or.inr ⟨rfl, rfl, rfl⟩) (by show ix_tg (ix_nw k2 10 0 3) a = 5; rw [ix_tg_nw, if_neg (by have := N2.1; omega)]; exact F2.1) rfl rfl ?_
  exact iz_vret d2_48 rfl ⟨rfl, N3.1, Eq.trans N3.2.1 (by omega), N3.2.2.1, N3.2.2.2, F3⟩
