/-! ===== what a call leaves alone, as the law needs it ===== -/
def lFo (x : Nat) (h h' : ix_H) (a b : Nat) : Prop := ix_nx h ≤ ix_nx h' ∧ ix_nx h' ≤ ix_nx h + a ∧ ix_us h ≤ ix_us h' ∧ ix_us h' ≤ ix_us h + b ∧ ∀ q, q < ix_nx h → (ix_tg h q = 9 ∨ ix_tg h q = 101 ∨ ix_tg h q = 103 ∨ (ix_tg h q = 100 ∧ x + 30 ≤ q) ∨ 200 ≤ ix_tg h q) → ceq h h' q
theorem cFo.l {x a b a' b' : Nat} {h h' : ix_H} (p : cFo x h h' a b) (ha : a ≤ a') (hb : b ≤ b') : lFo x h h' a' b' := ⟨p.1, Nat.le_trans p.2.1 (by omega), p.2.2.1, Nat.le_trans p.2.2.2.1 (by omega), fun q h1 h2 => (p.2.2.2.2 q h1 h2).1⟩
theorem lFo.rfl {x a b : Nat} {h : ix_H} : lFo x h h a b := cFo.rfl.l (Nat.zero_le _) (Nat.zero_le _)
theorem mA_tg {h : ix_H} {m b : Nat} (M : md_ok h m) (h1 : m ≤ b) (h2 : b ≤ m + 43) : ix_tg h b = 9 ∨ ix_tg h b = 100 ∨ ix_tg h b = 101 := by
  by_cases q : b = m
  · rw [q]
    exact Or.inl M.1
  · right
    have hK : ∀ k, mK k = 0 ∨ mK k = 1 := fun k => by
      by_cases w : k < 48
      · revert k
        decide
      · left
        unfold mK
        rw [List.getD_eq_getElem?_getD, List.getElem?_eq_none (by show 48 ≤ k; omega)]
        rfl
    by_cases w : b - m < 41
    · have hi : mIs (b - m + 3) = true := by
        unfold mIs
        simp only [Bool.and_eq_true, decide_eq_true_eq, Bool.not_eq_true', beq_eq_false_iff_ne, ne_eq]
        omega
      have ea : mA m (b - m + 3) = b := by
        unfold mA
        rw [if_pos (by omega)]
        omega
      have := M.a _ hi
      rw [ea] at this
      rcases hK (b - m + 3) with z | z <;> rw [z] at this <;> omega
    · have hi : mIs (b - m + 4) = true := by
        unfold mIs
        simp only [Bool.and_eq_true, decide_eq_true_eq, Bool.not_eq_true', beq_eq_false_iff_ne, ne_eq]
        omega
      have ea : mA m (b - m + 4) = b := by
        unfold mA
        rw [if_neg (by omega)]
        omega
      have := M.a _ hi
      rw [ea] at this
      rcases hK (b - m + 4) with z | z <;> rw [z] at this <;> omega
/-- the class's calls leave the reference's object alone -/
theorem lFo.md {x a b m : Nat} {h h' : ix_H} (p : lFo x h h' a b) (hx : x + 30 ≤ m) (hn : m + 44 ≤ ix_nx h) (M : md_ok h m) : md_ok h' m ∧ ms h' m = ms h m := by
  have C : ∀ q, m ≤ q → q ≤ m + 43 → ceq h h' q := fun q h1 h2 => p.2.2.2.2 q (by omega) (by
    rcases mA_tg M h1 h2 with z | z | z
    · exact Or.inl z
    · exact Or.inr (Or.inr (Or.inr (Or.inl ⟨z, by omega⟩)))
    · exact Or.inr (Or.inl z))
  have c0 := C m (by omega) (by omega)
  refine ⟨⟨by rw [c0.1]; exact M.1, fun k hk => ?_⟩, ?_⟩
  · have hi := mA_in (m := m) hk
    have ck := C (mA m k) (by omega) (by omega)
    obtain ⟨m1, m2, m3⟩ := M.2 k hk
    exact ⟨by rw [c0.2.2.2]; exact m1, by rw [ck.1]; exact m2, by rw [ck.2.1]; exact m3⟩
  · funext k j
    unfold ms
    split
    · rename_i hk
      have hi := mA_in (m := m) hk
      exact (C (mA m k) (by omega) (by omega)).2.2.1 j
    · exact c0.2.2.1 k
/-- cells that the class's object doesn't read may change -/
theorem cB_fr {h h' : ix_H} {x : Nat} {S : MS} (I : mInv S) (B : cB h x S) (hz : cNx h') (H1 : ∀ b, b < x + 30 → ceq h h' b) (H2 : ∀ b, b < ix_nx h → ix_tg h b ≠ 9 → ix_tg h b ≠ 100 → ix_tg h b ≠ 101 → ceq h h' b) : cB h' x S := by
  obtain ⟨hx3, T, A, R, U, D, Lo, Lr, C, L⟩ := B
  have K : ∀ {b k : Nat}, ix_tg h b = k → (k ≠ 0 ∧ k ≠ 9 ∧ k ≠ 100 ∧ k ≠ 101) → ceq h h' b := fun ht hk => H2 _ (C.lt (by rw [ht]; exact hk.1)) (by rw [ht]; exact hk.2.1) (by rw [ht]; exact hk.2.2.1) (by rw [ht]; exact hk.2.2.2)
  have x0 := H1 x (by omega)
  refine ⟨by rw [x0.2.2.1]; exact hx3, T, A, R, U, D, Lo, Lr, ⟨cFix_fr C.fx (fun b hb => ⟨(H1 b hb).1, (H1 b hb).2.1⟩) (fun b hb _ _ j => (H1 b hb).2.2.2 j), hz, by rw [x0.2.2.1]; exact C.2.2.1, fun e f he hf => ?_, fun t v => ?_, ⟨?_, fun j hj => ⟨?_, ?_⟩, C.us.2.2⟩, ⟨fun e he => ?_, ?_, ?_⟩, C.rw⟩, L⟩
  · exact cFl_fr (C.fl he hf) (H1 (cSz x e) (by unfold cSz; omega)).2.2.1 (H1 (cBr x e f) (by unfold cBr; omega)).2.2.1 rfl rfl (fun _ _ => rfl) (I.2.1 _ (by omega)).2
  · obtain ⟨c1, c2, c3⟩ := C.tx v
    refine ⟨cTr_fr c1 (K c1.2.1 (by decide)) (fun _ _ _ => rfl) Iff.rfl, cSn_fr c2 (K c2.2.1 (by decide)) rfl (fun _ _ _ => rfl) (fun _ => rfl), fun q => ?_⟩
    have c4 := c3 q
    exact cRv_fr c4 (K c4.2.1 (by decide)) (K c4.2.2.2.2.2.2.2.1 (by decide)) rfl (fun _ _ _ => rfl) (fun _ _ _ _ => rfl) (fun _ _ _ => ⟨rfl, rfl⟩)
  · rw [(H1 (cLk x) (by unfold cLk; omega)).2.2.1]
    exact C.us.1
  · rw [(H1 (cRo x) (by unfold cRo; omega)).2.2.2]
    exact (C.us.2.1 j hj).1
  · have u := (C.us.2.1 j hj).2
    exact cUn_fr u (K u.2.1 (by decide)) (fun _ _ => rfl) (fun q => I.g3 hj q)
  · obtain ⟨l0, l1, l2⟩ := C.ll.1 e he
    have kd : ∀ {a D : Nat} {L : List Nat}, cLi h a D L → ceq h h' D := fun l => by
      rcases l.2.2.2.2.1 with z | z
      · exact K z (by decide)
      · exact K z.1 (by decide)
    exact ⟨cLi_fr l0 (H1 _ (by unfold cLs; omega)) (kd l0), cLi_fr l1 (H1 _ (by unfold cLs; omega)) (kd l1), cLi_fr l2 (H1 _ (by unfold cLs; omega)) (kd l2)⟩
  · intro i hi k hk q ht
    refine C.ll.2.1 i hi k hk q ?_
    have e1 : ceq h h' (D i) := by
      obtain ⟨l0, l1, l2⟩ := C.ll.1 (i / 3) (by omega)
      have kd : ∀ {a D : Nat} {L : List Nat}, cLi h a D L → ceq h h' D := fun l => by
        rcases l.2.2.2.2.1 with z | z
        · exact K z (by decide)
        · exact K z.1 (by decide)
      have : i = 3 * (i / 3) ∨ i = 3 * (i / 3) + 1 ∨ i = 3 * (i / 3) + 2 := by omega
      rcases this with w | w | w
      · rw [w]; exact kd l0
      · rw [w]; exact kd l1
      · rw [w]; exact kd l2
    rw [← e1.1]
    exact ht
  · intro i hi ht
    refine C.ll.2.2 i hi ?_
    have e1 : ceq h h' (D i) := by
      obtain ⟨l0, l1, l2⟩ := C.ll.1 (i / 3) (by omega)
      have kd : ∀ {a D : Nat} {L : List Nat}, cLi h a D L → ceq h h' D := fun l => by
        rcases l.2.2.2.2.1 with z | z
        · exact K z (by decide)
        · exact K z.1 (by decide)
      have : i = 3 * (i / 3) ∨ i = 3 * (i / 3) + 1 ∨ i = 3 * (i / 3) + 2 := by omega
      rcases this with w | w | w
      · rw [w]; exact kd l0
      · rw [w]; exact kd l1
      · rw [w]; exact kd l2
    rw [← e1.1]
    exact ht
theorem cB.z {h : ix_H} {x : Nat} {S : MS} (B : cB h x S) : cNx h ∧ ix_tg h x = 1 := by
  obtain ⟨_, T, A, R, U, D, Lo, Lr, C, _⟩ := B
  exact ⟨C.nx, C.fx.1⟩
/-- the reference's calls leave the class's object alone -/
theorem cB_mR {h h' : ix_H} {x m : Nat} {S Q : MS} (I : mInv S) (B : cB h x S) (M : md_ok h m) (hx : x + 30 ≤ m) (r : mR m h h' Q) : cB h' x S := by
  have hz := B.z.1
  obtain ⟨⟨v, rfl⟩, r2, -⟩ := r
  refine cB_fr I B hz (fun b hb => ⟨rfl, rfl, fun j => r2 b (by omega) j, fun _ => rfl⟩) (fun b _ h9 h0 h1 => ⟨rfl, rfl, fun j => r2 b ?_ j, fun _ => rfl⟩)
  by_cases q : m ≤ b ∧ b ≤ m + 43
  · exfalso
    rcases mA_tg M q.1 q.2 with z | z | z
    · exact h9 z
    · exact h0 z
    · exact h1 z
  · omega
theorem mI_21 {S : MS} (I : mInv S) : ∀ t, t < 640 → S 21 t = 0 ∨ S 21 t = 1 := fun t ht => by
  by_cases v : vT S t
  · obtain ⟨n, n1, n2, n3⟩ := (I.T v).2.2.2.2.2.2.2.1
    have : n = 0 ∨ n = 1 := by omega
    rcases this with w | w
    · rw [n3, w]
      exact Or.inl rfl
    · rw [n3, w]
      exact Or.inr rfl
  · exact Or.inl (I.2.2.2.1 t ht v 21 (by decide) (by decide))
theorem mI_d4 {S : MS} {k : Nat} (I : mInv S) (hk : k < gU S) (hD : S 45 (11 * k) = nI 2) : ∃ n, S 45 (11 * k + 4) = nI n ∧ n ≤ 4 := by
  obtain ⟨t, t1, t2, t3⟩ := I.u I.gu.1 I.gu.2 hk
  rcases t3 with z | z | z | z | z | z
  · exact absurd (hD.symm.trans z.1) (by decide)
  · obtain ⟨n, n1, n2, n3⟩ := z.2.2.2.1
    exact ⟨n, n3, n2⟩
  · exact absurd (hD.symm.trans z.1) (by decide)
  · exact absurd (hD.symm.trans z.1) (by decide)
  · exact absurd (hD.symm.trans z.1) (by decide)
  · exact absurd (hD.symm.trans z.1) (by decide)
/-! ===== the calls that answer ===== -/
def opC (G : ix_G) (kc : Nat) (as : List Value) (S Q : MS) (v : Int32) : Prop := ∀ (h : ix_H) (x : Nat), cB h x S → ix_E G kc 0 (lv_args 0 (.ref x :: as)) [] h (fun rv h' => rv = some (.int v) ∧ lFo x h h' 20 1000 ∧ cB h' x Q)
def opM (G : ix_G) (km : Nat) (as : List Value) (S Q : MS) (v : Int32) : Prop := ∀ (h : ix_H) (o : Nat), md_ok h o → ms h o = S → ix_E G km 0 (lv_args 0 (.ref o :: as)) [] h (fun rv h' => rv = some (.int v) ∧ mR o h h' Q)
def opOK (G : ix_G) (K : Nat) (S : MS) (kc km : Nat) (as : List Value) : Prop := ∃ (v : Int32) (Q : MS), opC G kc as S Q v ∧ opM G km as S Q v ∧ iJ (K + 1) Q
theorem opC_of {G : ix_G} {kc a b : Nat} {as : List Value} {S Q : MS} {v : Int32} (ha : a ≤ 20) (hb : b ≤ 1000) (q : ∀ (h : ix_H) (x : Nat), cB h x S → ix_E G kc 0 (lv_args 0 (.ref x :: as)) [] h (fun rv h' => rv = some (.int v) ∧ cFo x h h' a b ∧ cB h' x Q)) : opC G kc as S Q v := fun h x B => ie_mono (q h x B) (fun _ _ w => ⟨w.1, w.2.1.l ha hb, w.2.2⟩)
theorem opC_ask {G : ix_G} {kc : Nat} {as : List Value} {S : MS} {v : Int32} (I : mInv S) (q : ∀ (h : ix_H) (x : Nat), cB h x S → ix_Ev G kc 0 (lv_args 0 (.ref x :: as)) [] h (some (.int v)) h) : opC G kc as S (m0 S) v := fun h x B => ⟨_, _, q h x B, rfl, lFo.rfl, B.m0 I⟩
section OPS
variable {G : ix_G} {K : Nat} {S : MS}
theorem op_create (J : iJ K S) (e f : Int32) : opOK G K S 8 116 [.int e, .int f] := by
  refine ⟨_, _, opC_of (a := 0) (b := 0) (by decide) (by decide) (fun h x B => s8 J.1.1.1 B e f), fun h o M hS => by subst hS; exact s116 M e f, ?_⟩
  split
  · rename_i q
    exact iJ_create J q.2
  · exact iJ_0 J
theorem op_size (J : iJ K S) (e f : Int32) : opOK G K S 14 123 [.int e, .int f] := ⟨_, _, opC_ask J.1.1.1 (fun h x B => s14 J.1.1.1 B e f), fun h o M hS => s123 M hS e f, iJ_0 J⟩
theorem op_cancel (J : iJ K S) (e n : Int32) : opOK G K S 17 126 [.int e, .int n] := ⟨_, _, opC_of (a := 0) (b := 0) (by decide) (by decide) (fun h x B => s17 J.1.1.1 B e n), fun h o M hS => s126 M hS J.1.1.1.num (mI_21 J.1.1.1) e n, iJ_cancel J⟩
theorem op_suspend (J : iJ K S) (e n : Int32) {on : Int32} (hon : on = 0 ∨ on = 1) : opOK G K S 27 128 [.int e, .int n, .int on] := ⟨_, _, opC_of (a := 0) (b := 0) (by decide) (by decide) (fun h x B => s27 J.1.1.1 B e n hon), fun h o M hS => s128 M hS J.1.1.1.num e n hon, iJ_suspend J hon⟩
theorem op_tick (J : iJ K S) : opOK G K S 29 129 [] := ⟨_, _, opC_of (a := 12) (b := 72) (by decide) (by decide) (fun h x B => s29 J.1.1 B), fun h o M hS => rTick M hS J.1.1, iJ_tick J⟩
theorem op_deliver (J : iJ K S) (k : Int32) : opOK G K S 60 147 [.int k] := by
  have hu := J.1.1.1.gu
  by_cases q : 0 ≤ k ∧ k < nI (gU S)
  · obtain ⟨j, hj, rfl⟩ := nI_of (Int32.not_lt.mpr q.1)
    have hk : j < gU S := by
      have := q.2
      rw [nI_ltI (by omega) (by omega)] at this
      exact this
    obtain ⟨Q, a1, a2, a3, a4, a5⟩ := dl_y J.1 J.2.1 J.2.2 hk
    exact ⟨_, Q, opC_of (a := 5) (b := 112) (by decide) (by decide) (fun h x B => a2 G h x B), fun h o M hS => a1 G h o M hS, a3, a4, a5⟩
  · exact ⟨_, _, opC_ask J.1.1.1 (fun h x B => s60n J.1.1.1 B q), fun h o M hS => s147n M hS hu.1 hu.2 k q, iJ_0 J⟩
theorem op_lose (J : iJ K S) (k : Int32) : opOK G K S 90 157 [.int k] := by
  have hu := J.1.1.1.gu
  refine ⟨_, _, opC_of (a := 0) (b := 0) (by decide) (by decide) (fun h x B => s90 J.1.1.1 B k), fun h o M hS => s157 M hS hu.1 hu.2 k, ?_⟩
  split
  · rename_i q
    obtain ⟨j, hj, rfl⟩ := nI_of (Int32.not_lt.mpr q.1)
    have hk : j < gU S := by
      have := q.2
      rw [nI_ltI (by omega) (by omega)] at this
      exact this
    rw [nI_clamp hj]
    exact iJ_out J hk
  · exact iJ_0 J
theorem op_copy (J : iJ K S) (k : Int32) : opOK G K S 91 158 [.int k] := by
  have hu := J.1.1.1.gu
  by_cases q : (0 ≤ k ∧ k < nI (gU S)) ∧ ¬ gU S = 24
  · obtain ⟨j, hj, rfl⟩ := nI_of (Int32.not_lt.mpr q.1.1)
    have hk : j < gU S := by
      have := q.1.2
      rw [nI_ltI (by omega) (by omega)] at this
      exact this
    refine ⟨1, mCopy (m0 S) (gU S) j, opC_of (a := 1) (b := 6) (by decide) (by decide) (fun h x B => ie_mono (s91 J.1.1.1 B (nI j)) (fun rv h' w => ⟨?_, w.2.1, ?_⟩)), fun h o M hS => s158y M hS hu.1 hu.2 hk q.2, iJ_copy J hk q.2⟩
    · rw [w.1, bI_t q]
    · have := w.2.2
      rw [if_pos q, nI_clamp hj] at this
      exact this
  · refine ⟨0, m0 S, opC_of (a := 1) (b := 6) (by decide) (by decide) (fun h x B => ie_mono (s91 J.1.1.1 B k) (fun rv h' w => ⟨?_, w.2.1, ?_⟩)), fun h o M hS => s158n M hS hu.1 hu.2 k q, iJ_0 J⟩
    · rw [w.1, bI_f q]
    · have := w.2.2
      rw [if_neg q] at this
      exact this
theorem op_spoil (J : iJ K S) (k b : Int32) : opOK G K S 94 159 [.int k, .int b] := by
  have hu := J.1.1.1.gu
  by_cases q : (0 ≤ k ∧ k < nI (gU S)) ∧ S 45 (11 * k.toNatClampNeg) = nI 2
  · obtain ⟨j, hj, rfl⟩ := nI_of (Int32.not_lt.mpr q.1.1)
    have hk : j < gU S := by
      have := q.1.2
      rw [nI_ltI (by omega) (by omega)] at this
      exact this
    have q2 := q.2
    rw [nI_clamp hj] at q2
    obtain ⟨n, hn, hn4⟩ := mI_d4 J.1.1.1 hk q2
    refine ⟨1, mSpoil (m0 S) j n b, opC_of (a := 0) (b := 0) (by decide) (by decide) (fun h x B => ie_mono (s94 J.1.1.1 B (nI j) b) (fun rv h' w => ⟨?_, w.2.1, ?_⟩)), fun h o M hS => s159y M hS hu.1 hu.2 b hk q2 hn hn4, iJ_spoil J hk q2⟩
    · rw [w.1, bI_t q]
    · have := w.2.2
      rw [if_pos q, nI_clamp hj, hn, nI_clamp (by omega)] at this
      exact this
  · refine ⟨0, m0 S, opC_of (a := 0) (b := 0) (by decide) (by decide) (fun h x B => ie_mono (s94 J.1.1.1 B k b) (fun rv h' w => ⟨?_, w.2.1, ?_⟩)), fun h o M hS => s159n M hS hu.1 hu.2 k b q, iJ_0 J⟩
    · rw [w.1, bI_f q]
    · have := w.2.2
      rw [if_neg q] at this
      exact this
theorem op_units (J : iJ K S) : opOK G K S 95 160 [] := ⟨_, _, opC_ask J.1.1.1 (fun h x B => s95 B), fun h o M hS => s160 M hS, iJ_0 J⟩
theorem op_unit (J : iJ K S) (k w : Int32) : opOK G K S 96 161 [.int k, .int w] := by
  have hu := J.1.1.1.gu
  refine ⟨_, _, opC_ask J.1.1.1 (fun h x B => s96 J.1.1.1 B k w), fun h o M hS => ?_, iJ_0 J⟩
  by_cases q : (0 ≤ k ∧ k < nI (gU S)) ∧ 0 ≤ w ∧ w ≤ 3
  · rw [if_pos q]
    obtain ⟨j, hj, rfl⟩ := nI_of (Int32.not_lt.mpr q.1.1)
    have hk : j < gU S := by
      have := q.1.2
      rw [nI_ltI (by omega) (by omega)] at this
      exact this
    obtain ⟨i, rfl, hi⟩ := i32_nat q.2.1 q.2.2 (by decide)
    rw [show (3 : Int32).toNatClampNeg = 3 from by decide] at hi
    rw [nI_clamp hj, nI_clamp (by omega)]
    exact s161y M hS hu.1 hu.2 hk (by omega)
  · rw [if_neg q]
    exact s161n M hS hu.1 hu.2 k w q
theorem op_sender (J : iJ K S) (e n : Int32) : opOK G K S 97 162 [.int e, .int n] := ⟨_, _, opC_ask J.1.1.1 (fun h x B => s97 J.1.1.1 B e n), fun h o M hS => s162 M hS J.1.1.1.num e n, iJ_0 J⟩
theorem op_receiver (J : iJ K S) (e n : Int32) : opOK G K S 98 163 [.int e, .int n] := ⟨_, _, opC_ask J.1.1.1 (fun h x B => s98 J.1.1.1 B e n), fun h o M hS => s163 M hS J.1.1.1.num e n, iJ_0 J⟩
theorem op_request (J : iJ K S) (e n : Int32) : opOK G K S 100 164 [.int e, .int n] := ⟨_, _, opC_ask J.1.1.1 (fun h x B => s100 J.1.1.1 B J.2.2 e n), fun h o M hS => s164 M hS J.1.1.1.num e n, iJ_0 J⟩
end OPS
