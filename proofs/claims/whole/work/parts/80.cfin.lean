section CRb
variable {h h2 h' : ix_H} {x : Nat} {S S' : MS} {T A R U D : Nat → Nat} {Lo Lr : Nat → List Nat} {u t p n k0 c : Nat}
/-- what of a receiver's cells stays -/
def kpR (h h' : ix_H) (r : Nat) : Prop := ix_tg h' r = ix_tg h r ∧ (∀ j, ix_r h' r j = ix_r h r j) ∧ ix_i h' r 3 = ix_i h r 3 ∧ ix_i h' r 13 = ix_i h r 13 ∧ ceq h h' (r + 1)
theorem cRv_mk {tx r : Nat} (C : cRv h x S tx r t) (hk : kpR h h' r) (s0 : S' 0 0 = S 0 0) (s24 : S' 24 t = S 24 t) (c1 : ¬ opR S' t → ix_i h' r 12 = 1 ∧ ix_i h' r 11 = S' 23 t) (c2 : opR S' t → ix_i h' r 12 = 0) (c6 : S' 23 t = nI 6 → ix_i h' r 11 = S' 26 (sP S' t) ∧ ix_i h' r 9 = S' 30 (sP S' t) ∧ ix_i h' r 10 = S' 29 (sP S' t)) (c5 : S' 23 t = nI 5 → cRo5 h' S' r (sP S' t)) : cRv h' x S' tx r t := by
  obtain ⟨a1, a2, a3, a4, a5, a6, a7, a8, a9, a10, a11, a12, a13, a14, a15⟩ := C
  obtain ⟨k1, k2, k3, k4, k5⟩ := hk
  exact ⟨a1, by rw [k1]; exact a2, by rw [k2]; exact a3, by rw [k2]; exact a4, by rw [k2]; exact a5, by rw [k3, s0]; exact a6, by rw [k2]; exact a7, by rw [k5.1]; exact a8, by rw [k5.2.1]; exact a9, fun i hi => by rw [k5.2.2.1]; exact a10 i hi, by rw [k4, s24]; exact a11, c1, c2, c6, c5⟩
theorem opR_ne {t : Nat} (ho : opR S t) : ¬ S 23 t = 0 := fun z => by
  unfold opR at ho
  rw [z] at ho
  exact absurd ho (by decide)
theorem cRel.rv (C : cRel h x S T A R U D Lo Lr) {t : Nat} (hv : vT S t) (ho : opR S t) : cRv h x S (T t) (R t) t := (C.tx hv).2.2 (opR_ne ho)
theorem kpR_tg {r tx : Nat} (C : cRv h x S tx r t) (hk : kpR h h' r) : ix_tg h' (r + 1) = 102 ∧ ix_tg h' r = 3 := ⟨by rw [hk.2.2.2.2.1]; exact C.2.2.2.2.2.2.2.1, by rw [hk.1]; exact C.2.1⟩
/-- a receiver closes -/
theorem R_shut {S0 : MS} {v : Int32} (I : mInv S) (C : cRel h x S T A R U D Lo Lr) (hv : vT S t) (ho : opR S t) (hp : p = sP S t) (hv4 : bw v 1 4) (hH : mHas 41 43 S (1 - t / 320) k0 c t) (z0 : ∀ k, k ≠ 26 → S0 k = S k) (z1 : ∀ j, j ≠ p → S0 26 j = S 26 j) (a : sw (R t) h h') (hk : kpR h h' (R t)) (i12 : ix_i h' (R t) 12 = 1) (i11 : ix_i h' (R t) 11 = v) : cRel h' x (mShut S0 t v p k0 c) T A R U D Lo Lr := by
  have L : ∀ k, k ∉ [23, 26, 35, 41, 43] → mShut S0 t v p k0 c k = S k := fun k hk => by
    simp only [List.mem_cons, List.not_mem_nil, or_false, not_or] at hk
    unfold mShut
    rw [mRm_L k (by simp only [List.mem_cons, List.not_mem_nil, or_false, not_or]; exact hk.2.2.2), mset_kk hk.2.2.1, mset_kk hk.1, z0 k hk.2.1]
  have r23 : ∀ l, mShut S0 t v p k0 c 23 l = if l = t then v else S 23 l := fun l => by
    unfold mShut
    rw [mRm_o (by decide) (by decide), mset_k (by decide), mset_if rfl, z0 23 (by decide)]
  have r35 : ∀ l, l ≠ p → mShut S0 t v p k0 c 35 l = S 35 l := fun l hl => by
    unfold mShut
    rw [mRm_o (by decide) (by decide), mset_j rfl hl, mset_k (by decide), z0 35 (by decide)]
  have r26 : ∀ l, l ≠ p → mShut S0 t v p k0 c 26 l = S 26 l := fun l hl => by
    unfold mShut
    rw [mRm_o (by decide) (by decide), mset_k (by decide), mset_k (by decide), z1 l hl]
  have h56 := bw_n56 hv4
  have nz : ¬ v = 0 := by
    obtain ⟨m, m1, m2, m3⟩ := hv4
    rw [m3]; exact nI_ne0 (by omega) (by omega)
  have nop : ¬ opR (mShut S0 t v p k0 c) t := by unfold opR; rw [r23, if_pos rfl]; exact h56
  refine cRel_rc I C hv ho (fun b h1 _ => a.1 b h1) a.2 (kpR_tg (C.rv hv ho) hk) (fun k hk => L k (fun z => hk (by revert z; simp only [List.mem_cons, List.not_mem_nil, or_false]; omega))) (fun j hj => ⟨by rw [r23, if_neg hj], by rw [L 24 (by decide)]⟩) (fun k h1 h2 j hj => ?_) (fun k hk j _ => ?_) (cRv_mk (C.rv hv ho) hk (by rw [L 0 (by decide)]) (by rw [L 24 (by decide)]) (fun _ => ⟨i12, by rw [i11, r23, if_pos rfl]⟩) (fun z => absurd z nop) (fun z => absurd (Or.inr z) nop) (fun z => absurd (Or.inl z) nop)) (by rw [r23, if_pos rfl]; exact nz) (cRw_clR (k0 := k0) (c := c) (t := t) I C.rw hv hH (fun k hk => L k ((by decide : ∀ k ∈ [7, 13, 40, 42], k ∉ [23, 26, 35, 41, 43]) k hk)) (fun j hj => by rw [r23, if_neg hj]) nop (by rw [r23, if_pos rfl]; exact nz) (fun j => ?_) (fun j => ?_))
  · rw [← hp] at hj
    by_cases q : k = 26
    · subst q; exact r26 j hj
    · by_cases q2 : k = 35
      · subst q2; exact r35 j hj
      · rw [L k (by simp only [List.mem_cons, List.not_mem_nil, or_false, not_or]; omega)]
  · rw [L k (by rcases hk with w | w <;> subst w <;> decide)]
  · unfold mShut mRm
    split
    · rename_i q; rw [if_pos q.2, mset_k (by decide), mset_k (by decide), z0 41 (by decide)]
    · rename_i q; rw [if_neg (fun z => q ⟨rfl, z⟩), if_neg (by omega), mset_k (by decide), mset_k (by decide), z0 41 (by decide)]
  · unfold mShut mRm
    rw [if_neg (by omega)]
    split
    · rename_i q; rw [if_pos q.2]
    · rename_i q; rw [if_neg (fun z => q ⟨rfl, z⟩), mset_k (by decide), mset_k (by decide), z0 43 (by decide)]
theorem mSend_v {S : MS} {u : Nat} {kind to t a b c : Int32} (hu : u < 24) : mSend S u kind to t a b c 45 (11 * u) = kind ∧ mSend S u kind to t a b c 45 (11 * u + 1) = to ∧ mSend S u kind to t a b c 45 (11 * u + 3) = a := ⟨mSend_r (i := 0) hu (by decide), mSend_r (i := 1) hu (by decide), mSend_r (i := 3) hu (by decide)⟩
theorem uOK_fin {u : Nat} {kind to t a b c v : Int32} (hk : kind = nI 4 ∨ kind = nI 5) (hu : u < 24) : uOK (mSend S u kind to t a b c) u kind to a 0 v := by
  obtain ⟨e0, e1, e3⟩ := mSend_v (S := S) (kind := kind) (to := to) (t := t) (a := a) (b := b) (c := c) hu
  unfold uOK
  rw [e0, e1, e3]
  rcases hk with w | w <;> subst w
  · exact ⟨rfl, rfl, by rw [if_neg (by decide)], fun z => absurd z (by decide), fun z => absurd z (by decide), fun z => absurd z (by decide)⟩
  · exact ⟨rfl, rfl, by rw [if_neg (by decide)], fun z => absurd z (by decide), fun z => absurd z (by decide), fun z => absurd z (by decide)⟩
/-- FINISHED, the first time or again: v is the result -/
theorem R_fin {S0 : MS} {v tr : Int32} (I : mInv S) (C : cRel h x S T A R U D Lo Lr) (hv : vT S t) (ho : opR S t) (hp : p = sP S t) (hv4 : bw v 1 4) (hu : S 44 0 = nI u) (hu24 : u ≤ 24)
    (e26 : S' 26 p = v) (e23 : S' 23 t = nI 6) (e29 : S' 29 p = tr) (e30 : S' 30 p = S 2 0) (F0 : ∀ k, k ∉ [23, 26, 29, 30] → S' k = mSend S u (nI 4) (nI (t / 320)) (nI t) v (nI 0) (nI 0) k) (F1 : ∀ j, j ≠ t → S' 23 j = S 23 j) (F2 : ∀ k, k ∈ [26, 29, 30] → ∀ j, j ≠ p → S' k j = S k j)
    (a2 : sw (R t) h h2) (a3 : sw (R t) (hOut x h2 (T t) (nI 4) (nI (t / 320)) v 0 0) h') (hk : kpR h h' (R t)) (i12 : ix_i h' (R t) 12 = 0) (i11 : ix_i h' (R t) 11 = v) (i9 : ix_i h' (R t) 9 = S 2 0) (i10 : ix_i h' (R t) 10 = tr) : ∃ U', cRel h' x S' T A R U' D Lo Lr := by
  have L1 := mSend_L (S := S) (u := u) (kind := nI 4) (to := nI (t / 320)) (t := nI t) (a := v) (b := nI 0) (c := nI 0)
  have HS := cRel_sendM (A := A) (R := R) (D := D) (e := t / 320) (w := nI 4) (to := nI (t / 320)) (d := v) (l := 0) (c := 0) (kind := nI 4) (a := v) (b := nI 0) (cc := nI 0) I C hu hu24 hv.1 (fun hu' => uOK_fin (Or.inl rfl) hu')
  have I1 := mInv_fin (x := v) I hu hu24 hv hv4
  have esp : sP (mSend S u (nI 4) (nI (t / 320)) (nI t) v (nI 0) (nI 0)) t = sP S t := by unfold sP; rw [L1 25 (by decide)]
  have v1 := (vT_c L1 (by decide) (t := t)).mpr hv
  have o1 := (opR_c L1 (by decide) (t := t)).mpr ho
  generalize mSend S u (nI 4) (nI (t / 320)) (nI t) v (nI 0) (nI 0) = S1 at *
  have es' : sP S' t = p := by rw [hp, ← esp]; unfold sP; rw [F0 25 (by decide)]
  have op' : opR S' t := Or.inr e23
  refine cRel_rs I1 HS v1 o1 a2 a3 (kpR_tg (C.rv hv ho) hk) (fun k hk => F0 k (fun z => hk (by revert z; simp only [List.mem_cons, List.not_mem_nil, or_false]; omega))) (fun j hj => ⟨by rw [F1 j hj, L1 23 (by decide)], by rw [F0 24 (by decide)]⟩) (fun k h1 h2 j hj => ?_) (fun k hk j _ => ?_) (cRv_mk (C.rv hv ho) hk (by rw [F0 0 (by decide), L1 0 (by decide)]) (by rw [F0 24 (by decide), L1 24 (by decide)]) (fun z => absurd op' z) (fun _ => i12) (fun _ => ?_) (fun z => absurd (e23.symm.trans z) (by decide))) (by rw [e23]; decide) ?_
  · rw [esp, ← hp] at hj
    by_cases q : k ∈ [26, 29, 30]
    · rw [F2 k q j hj, L1 k ((by decide : ∀ k ∈ [26, 29, 30], k ∉ [44, 45]) k q)]
    · rw [F0 k (fun z => q (by revert z; simp only [List.mem_cons, List.not_mem_nil, or_false]; omega))]
  · rw [F0 k (by rcases hk with w | w <;> subst w <;> decide)]
  · rw [es', e26, e30, e29]
    exact ⟨i11, i9, i10⟩
  · -- the rows stand as they were
    intro e he
    obtain ⟨w1, w2, w3, w4, w5, w6⟩ := C.rw e he
    have vt : ∀ t', vT S' t' ↔ vT S t' := fun t' => by unfold vT nN; rw [F0 7 (by decide), L1 7 (by decide)]
    have z23 : ∀ t', (S' 23 t' = nI 5 ∨ S' 23 t' = nI 6) ↔ (S 23 t' = nI 5 ∨ S 23 t' = nI 6) := fun t' => by
      by_cases q : t' = t
      · subst q; exact ⟨fun _ => ho, fun _ => op'⟩
      · rw [F1 t' q]
    refine ⟨fun t' ht' => ⟨(vt t').mpr (w1 t' ht').1, (w1 t' ht').2⟩, fun t' ht' => ⟨(vt t').mpr (w2 t' ht').1, (w2 t' ht').2.1, ?_⟩, w3, w4, ?_, ?_⟩
    · by_cases q : t' = t
      · subst q; rw [e23]; decide
      · rw [F1 t' q]; exact (w2 t' ht').2.2
    · unfold rowL cP at w5 ⊢
      rw [F0 40 (by decide), F0 42 (by decide), F0 13 (by decide), L1 40 (by decide), L1 42 (by decide), L1 13 (by decide)]
      exact w5
    · unfold rowL cP at w6 ⊢
      rw [F0 41 (by decide), F0 43 (by decide), L1 41 (by decide), L1 43 (by decide), w6]
      refine List.filter_congr (fun z _ => ?_)
      exact decide_eq_decide.mpr (z23 z).symm
end CRb
