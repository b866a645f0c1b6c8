/-! ===== how the invariant is kept: receivers ===== -/
theorem mInv.R {S : MS} (I : mInv S) {t : Nat} (hv : vT S t) : bw (S 23 t) 0 6 ∧ bw (S 24 t) 0 2 ∧ (opR S t → iRp S t (sP S t)) := I.2.2.2.2.2.2.2.1 t hv
theorem mInv.P {S : MS} (I : mInv S) : iP S := I.2.2.2.2.2.2.2.2.1
theorem mInv.M {S : MS} (I : mInv S) : iM S := I.2.2.2.2.2.2.1
theorem mInv.L {S : MS} (I : mInv S) : iL S := I.2.2.2.2.2.1
theorem mInv.p {S : MS} (I : mInv S) {t p : Nat} (hv : vT S t) (ho : opR S t) (hp : S 25 t = nI p) (hp6 : p < 6) : iRp S t p := by
  have q := (I.R hv).2.2 ho
  have e : p = sP S t := by
    unfold sP
    rw [hp, nI_clamp (by omega)]
  subst e
  exact q
theorem iRw_op {A B : Nat} {side : Nat → Nat} {op : MS → Nat → Prop} {S S' : MS} (I : iRw A B side op S) (hA : S' A = S A) (hB : S' B = S B) (h7 : S' 7 = S 7) (hop : ∀ t, vT S t → (op S' t ↔ op S t)) : iRw A B side op S' := by
  have hv : ∀ t, vT S' t ↔ vT S t := fun t => by unfold vT nN; rw [h7]
  intro e he
  obtain ⟨c, h1, h2, h3, h4, h5⟩ := I e he
  rw [hA, hB]
  refine ⟨c, h1, h2, fun k hk => ?_, h4, fun t v s o => ?_⟩
  · obtain ⟨t, a1, a2, a3, a4⟩ := h3 k hk
    exact ⟨t, a1, a2, (hv t).mpr a3, (hop t a3).mpr a4⟩
  · rw [hv] at v
    exact h5 t v s ((hop t v).mp o)
/-- what a place holds changes (fields of the place that no open receiver is bound by otherwise) -/
theorem mInv_pl {S S' : MS} {L : List Nat} (I : mInv S) (H : ∀ k, k ∉ L → S' k = S k) (d : ∀ k ∈ L, k ∈ [26, 27, 28, 29, 30, 31, 32, 33, 34, 36, 37, 38, 39]) (hR : ∀ t, vT S t → opR S t → iRp S t (sP S t) → iRp S' t (sP S t)) : mInv S' := by
  have D : ∀ k, k ∉ [26, 27, 28, 29, 30, 31, 32, 33, 34, 36, 37, 38, 39] → S' k = S k := fun k hk => H k (fun z => hk (d k z))
  obtain ⟨a, b, c, dd, e, f, g, h, i, j⟩ := I
  refine ⟨iG_c D (by decide) a, iF_c D (by decide) b, iT_c D (by decide) c, iZ_c D (by decide) (by decide) dd, iS_c D (by decide) e, iL_c D (by decide) f, iM_c D (by decide) g, ?_, iP_c D (by decide) i, iU_c D (by decide) j⟩
  intro t hv
  have hv' := (vT_c D (by decide)).mp hv
  obtain ⟨h1, h2, h3⟩ := h t hv'
  have es : sP S' t = sP S t := by unfold sP; rw [D 25 (by decide)]
  rw [es, D 23 (by decide), D 24 (by decide)]
  refine ⟨h1, h2, fun o => ?_⟩
  have o' : opR S t := by unfold opR at o ⊢; rw [D 23 (by decide)] at o; exact o
  exact hR t hv' o' (h3 o')
/-- .. of one place: the other receivers' places are others -/
theorem mInv_p1 {S S' : MS} {t p : Nat} (I : mInv S) (hv : vT S t) (ho : opR S t) (hp : S 25 t = nI p) (hp6 : p < 6) (H : ∀ k, k ∉ [26, 27, 28, 29, 30, 31, 32, 33, 34, 36, 37, 38, 39] → S' k = S k) (h1 : ∀ k, k ≠ 39 → ∀ j, j ≠ p → S' k j = S k j) (h39 : ∀ j, j < 16 * p ∨ 16 * p + 16 ≤ j → S' 39 j = S 39 j) (hR : iRp S t p → iRp S' t p) : mInv S' := by
  refine mInv_pl I H (fun k h => h) (fun t' v' o' R => ?_)
  by_cases e : sP S t' = p
  · have : t' = t := I.P.1 t' t v' hv o' ho (by rw [R.1, hp, e])
    subst this
    rw [e]
    exact hR (I.p hv ho hp hp6)
  · obtain ⟨b1, b2, b3, b4, b5, b6, b7, b8, b9, b10, b11, b12⟩ := R
    generalize sP S t' = q at *
    unfold iRp
    rw [H 25 (by decide), H 35 (by decide), H 23 (by decide), H 10 (by decide), H 11 (by decide), H 12 (by decide), h1 36 (by decide) q e, h1 37 (by decide) q e, h1 29 (by decide) q e, h1 27 (by decide) q e, h1 32 (by decide) q e, h1 33 (by decide) q e, h1 34 (by decide) q e, h1 26 (by decide) q e]
    refine ⟨b1, b2, b3, b4, b5, b6, b7, b8, b9, fun s hs => ?_, b11, b12⟩
    rw [h39 _ (by omega)]
    exact b10 s hs
theorem mInv_29 {S : MS} {t p : Nat} {x : Int32} (I : mInv S) (hv : vT S t) (ho : opR S t) (hp : S 25 t = nI p) (hp6 : p < 6) (hx : bw x 0 3) (hz : S 23 t = nI 5 → S 37 p = 0 → x = 0) : mInv (mset S 29 p x) := by
  have H : ∀ k, k ∉ [29] → mset S 29 p x k = S k := mset_L
  refine mInv_p1 I hv ho hp hp6 (fun k h => H k (fun z => h (by simp only [List.mem_cons, List.not_mem_nil, or_false] at z; subst z; decide))) (fun k _ j hj => ?_) (fun j _ => by rw [H 39 (by decide)]) (fun R => ?_)
  · by_cases q : k = 29
    · subst q; exact mset_j rfl hj
    · exact mset_k q
  · obtain ⟨b1, b2, b3, b4, b5, b6, b7, b8, b9, b10, b11, b12⟩ := R
    unfold iRp
    simp only [H 25 (by decide), H 35 (by decide), H 36 (by decide), H 37 (by decide), H 27 (by decide), H 32 (by decide), H 33 (by decide), H 34 (by decide), H 10 (by decide), H 11 (by decide), H 12 (by decide), H 39 (by decide), H 23 (by decide), H 26 (by decide), mset_s]
    exact ⟨b1, b2, b3, b4, b5, b6, hx, b8, b9, b10, b11, hz⟩
theorem mInv_26 {S : MS} {t p : Nat} {x : Int32} (I : mInv S) (hv : vT S t) (ho : opR S t) (hp : S 25 t = nI p) (hp6 : p < 6) (hx : bw x 1 4) : mInv (mset S 26 p x) := by
  have H : ∀ k, k ∉ [26] → mset S 26 p x k = S k := mset_L
  refine mInv_p1 I hv ho hp hp6 (fun k h => H k (fun z => h (by simp only [List.mem_cons, List.not_mem_nil, or_false] at z; subst z; decide))) (fun k _ j hj => ?_) (fun j _ => by rw [H 39 (by decide)]) (fun R => ?_)
  · by_cases q : k = 26
    · subst q; exact mset_j rfl hj
    · exact mset_k q
  · obtain ⟨b1, b2, b3, b4, b5, b6, b7, b8, b9, b10, b11, b12⟩ := R
    unfold iRp
    simp only [H 25 (by decide), H 35 (by decide), H 36 (by decide), H 37 (by decide), H 27 (by decide), H 32 (by decide), H 33 (by decide), H 34 (by decide), H 10 (by decide), H 11 (by decide), H 12 (by decide), H 39 (by decide), H 23 (by decide), H 29 (by decide), mset_s]
    exact ⟨b1, b2, b3, b4, b5, b6, b7, b8, b9, b10, fun _ => hx, b12⟩
/-- a receiver ends -/
theorem mInv_23 {S : MS} {t p : Nat} (I : mInv S) (hv : vT S t) (ho : opR S t) (hp : S 25 t = nI p) (hp6 : p < 6) (hx : bw (S 26 p) 1 4) : mInv (mset S 23 t (nI 6)) := by
  have H : ∀ k, k ∉ [23] → mset S 23 t (nI 6) k = S k := mset_L
  have r23 : ∀ l, mset S 23 t (nI 6) 23 l = if l = t then nI 6 else S 23 l := fun l => mset_if rfl
  have hop : ∀ t', opR (mset S 23 t (nI 6)) t' ↔ opR S t' := by
    intro t'
    unfold opR
    rw [r23]
    split
    · rename_i q; subst q; exact ⟨fun _ => ho, fun _ => Or.inr rfl⟩
    · exact Iff.rfl
  have Rp := I.p hv ho hp hp6
  obtain ⟨a, b, c, d, e, f, g, h, i, j⟩ := I
  refine ⟨iG_c H (by decide) a, iF_c H (by decide) b, iT_c H (by decide) c, iZ_t H (by decide) hv (fun k' hk' _ _ l hl => ?_) d, iS_c H (by decide) e, iL_c H (by decide) f, iRw_op g (H 41 (by decide)) (H 43 (by decide)) (H 7 (by decide)) (fun t' _ => hop t'), ?_, ?_, iU_c H (by decide) j⟩
  · simp only [List.mem_cons, List.not_mem_nil, or_false] at hk'
    subst hk'
    rw [r23, if_neg hl]
  · intro t' hv'
    rw [vT_c H (by decide)] at hv'
    obtain ⟨h1, h2, h3⟩ := h t' hv'
    have es : sP (mset S 23 t (nI 6)) t' = sP S t' := by unfold sP; rw [H 25 (by decide)]
    rw [es, hop t', H 24 (by decide)]
    refine ⟨?_, h2, fun o => ?_⟩
    · rw [r23]
      split
      · exact bw.of (by decide) (by decide)
      · exact h1
    · obtain ⟨b1, b2, b3, b4, b5, b6, b7, b8, b9, b10, b11, b12⟩ := h3 o
      unfold iRp
      simp only [H 25 (by decide), H 35 (by decide), H 36 (by decide), H 37 (by decide), H 27 (by decide), H 32 (by decide), H 33 (by decide), H 34 (by decide), H 10 (by decide), H 11 (by decide), H 12 (by decide), H 39 (by decide), H 29 (by decide), H 26 (by decide)]
      by_cases q : t' = t
      · subst q
        have ep : sP S t' = p := by unfold sP; rw [hp, nI_clamp (by omega)]
        rw [r23, if_pos rfl]
        exact ⟨b1, b2, b3, b4, b5, b6, b7, b8, b9, b10, fun _ => by rw [ep]; exact hx, fun z => absurd z (by decide)⟩
      · rw [r23, if_neg q]
        exact ⟨b1, b2, b3, b4, b5, b6, b7, b8, b9, b10, b11, b12⟩
  · refine ⟨fun t1 t2 v1 v2 o1 o2 q => ?_, fun p' hp' => ?_⟩
    · rw [vT_c H (by decide)] at v1 v2
      rw [hop] at o1 o2
      rw [H 25 (by decide)] at q
      exact i.1 t1 t2 v1 v2 o1 o2 q
    · rw [H 35 (by decide)]
      rcases i.2 p' hp' with w | ⟨t', w1, w2, w3⟩
      · exact Or.inl w
      · exact Or.inr ⟨t', (vT_c H (by decide)).mpr w1, (hop t').mpr w2, by rw [H 25 (by decide)]; exact w3⟩
/-- a receiver closes -/
theorem mInv_shut {S : MS} {t p k0 c : Nat} {x : Int32} (I : mInv S) (hv : vT S t) (ho : opR S t) (hp : S 25 t = nI p) (hp6 : p < 6) (hx : bw x 1 4) (hH : mHas 41 43 S (1 - t / 320) k0 c t) : mInv (mShut S t x p k0 c) := by
  have H : ∀ k, k ∉ [23, 35, 41, 43] → mShut S t x p k0 c k = S k := fun k h => funext fun l => by
    simp only [List.mem_cons, List.not_mem_nil, or_false, not_or] at h
    unfold mShut
    rw [mRm_o h.2.2.1 h.2.2.2, mset_k h.2.1, mset_k h.1]
  have r23 : ∀ l, mShut S t x p k0 c 23 l = if l = t then x else S 23 l := fun l => by
    unfold mShut
    rw [mRm_o (by decide) (by decide), mset_k (by decide), mset_if rfl]
  have r35 : ∀ l, mShut S t x p k0 c 35 l = if l = p then 0 else S 35 l := fun l => by
    unfold mShut
    rw [mRm_o (by decide) (by decide), mset_if rfl, mset_k (by decide)]
  have hx5 : ¬ (x = nI 5 ∨ x = nI 6) := by
    obtain ⟨n, q1, q2, rfl⟩ := hx
    rw [nI_eq (by omega) (by decide), nI_eq (by omega) (by decide)]; omega
  have hop : ∀ t', opR (mShut S t x p k0 c) t' ↔ opR S t' ∧ t' ≠ t := by
    intro t'
    unfold opR
    rw [r23]
    split
    · rename_i q; exact ⟨fun w => absurd w hx5, fun w => absurd q w.2⟩
    · rename_i q; exact ⟨fun w => ⟨w, q⟩, fun w => w.1⟩
  obtain ⟨a, b, cc, d, e, f, g, h, i, j⟩ := I
  have h640 := hv.1
  refine ⟨iG_c H (by decide) a, iF_c H (by decide) b, iT_c H (by decide) cc, iZ_t H (by decide) hv (fun k' hk' h1 h2 l hl => ?_) d, iS_c H (by decide) e, iL_c H (by decide) f, ?_, ?_, ?_, iU_c H (by decide) j⟩
  · have : k' = 23 := by
      simp only [List.mem_cons, List.not_mem_nil, or_false] at hk'
      omega
    subst this
    rw [r23, if_neg hl]
  · refine iRw_rm (t := t) g (by omega) rfl h640 hH (fun t' => vT_c H (by decide)) (fun t' _ => hop t') (fun l => ?_) (fun l => ?_)
    · unfold mShut mRm
      split
      · rename_i q; rw [if_pos q.2, mset_k (by decide), mset_k (by decide)]
      · rename_i q; rw [if_neg (fun z => q ⟨rfl, z⟩), if_neg (by omega), mset_k (by decide), mset_k (by decide)]
    · unfold mShut mRm
      rw [if_neg (by omega)]
      split
      · rename_i q; rw [if_pos q.2]
      · rename_i q; rw [if_neg (fun z => q ⟨rfl, z⟩), mset_k (by decide), mset_k (by decide)]
  · intro t' hv'
    rw [vT_c H (by decide)] at hv'
    obtain ⟨h1, h2, h3⟩ := h t' hv'
    have es : sP (mShut S t x p k0 c) t' = sP S t' := by unfold sP; rw [H 25 (by decide)]
    rw [es, hop t', H 24 (by decide), r23]
    refine ⟨?_, h2, fun o => ?_⟩
    · split
      · exact hx.m (by omega) (by omega)
      · exact h1
    · obtain ⟨b1, b2, b3, b4, b5, b6, b7, b8, b9, b10, b11, b12⟩ := h3 o.1
      have np : sP S t' ≠ p := fun z => o.2 (i.1 t' t hv' hv o.1 ho (by rw [b1, hp, z]))
      unfold iRp
      simp only [H 25 (by decide), r35, if_neg np, H 36 (by decide), H 37 (by decide), H 27 (by decide), H 32 (by decide), H 33 (by decide), H 34 (by decide), H 10 (by decide), H 11 (by decide), H 12 (by decide), H 39 (by decide), H 29 (by decide), H 26 (by decide), r23, if_neg o.2]
      exact ⟨b1, b2, b3, b4, b5, b6, b7, b8, b9, b10, b11, b12⟩
  · refine ⟨fun t1 t2 v1 v2 o1 o2 q => ?_, fun p' hp' => ?_⟩
    · rw [vT_c H (by decide)] at v1 v2
      rw [hop] at o1 o2
      rw [H 25 (by decide)] at q
      exact i.1 t1 t2 v1 v2 o1.1 o2.1 q
    · rw [r35]
      split
      · exact Or.inl rfl
      · rename_i np
        rcases i.2 p' hp' with w | ⟨t', w1, w2, w3⟩
        · exact Or.inl w
        · refine Or.inr ⟨t', (vT_c H (by decide)).mpr w1, (hop t').mpr ⟨w2, fun z => ?_⟩, by rw [H 25 (by decide)]; exact w3⟩
          subst z
          exact np ((nI_eq (by omega) (by omega)).mp (w3.symm.trans hp))
theorem opR_c {S S' : MS} {L : List Nat} {t : Nat} (H : ∀ k, k ∉ L → S' k = S k) (d : ∀ k ∈ [23], k ∉ L) : opR S' t ↔ opR S t := by unfold opR; rw [H 23 (d 23 (by decide))]
theorem mInv_tell {S : MS} {u t p : Nat} (I : mInv S) (hv : vT S t) (ho : S 23 t = nI 6) (hp : S 25 t = nI p) (hp6 : p < 6) (hu : S 44 0 = nI u) (hu24 : u ≤ 24) (h3 : bw (S 29 p + nI 1) 0 3) : mInv (mTell S u t p) := by
  unfold mTell
  have I1 := mInv_fin (x := S 26 p) I hu hu24 hv ((I.p hv (Or.inr ho) hp hp6).2.2.2.2.2.2.2.2.2.2.1 ho)
  have I2 := mInv_29 (p := p) (x := S 29 p + nI 1) I1 ((vT_c mSend_L (by decide)).mpr hv) ((opR_c mSend_L (by decide)).mpr (Or.inr ho)) (by rw [mSend_o (by decide) (by decide)]; exact hp) hp6 h3 (fun z => by rw [mSend_o (by decide) (by decide), ho] at z; exact absurd z (by decide))
  exact mInv_n I2 (fun k hk => mset_kk (fun z => hk (by subst z; decide)))
theorem mInv_fin2 {S : MS} {u t p : Nat} {x : Int32} (I : mInv S) (hv : vT S t) (ho : opR S t) (hp : S 25 t = nI p) (hp6 : p < 6) (hu : S 44 0 = nI u) (hu24 : u ≤ 24) (hx : bw x 1 4) : mInv (mFin2 S u t p x) := by
  unfold mFin2
  have I1 := mInv_26 I hv ho hp hp6 hx
  have v1 : vT (mset S 26 p x) t := (vT_c mset_L (by decide)).mpr hv
  have o1 : opR (mset S 26 p x) t := (opR_c mset_L (by decide)).mpr ho
  have p1 : mset S 26 p x 25 t = nI p := by rw [mset_k (by decide)]; exact hp
  have I2 := mInv_23 I1 v1 o1 p1 hp6 (by rw [mset_s]; exact hx)
  generalize hS1 : mset S 26 p x = S1 at *
  have v2 : vT (mset S1 23 t (nI 6)) t := (vT_c mset_L (by decide)).mpr v1
  have o2 : mset S1 23 t (nI 6) 23 t = nI 6 := mset_s
  have p2 : mset S1 23 t (nI 6) 25 t = nI p := by rw [mset_k (by decide)]; exact p1
  have I3 := mInv_29 (x := nI 0) I2 v2 (Or.inr o2) p2 hp6 (bw.of (by decide) (by decide)) (fun _ _ => rfl)
  refine mInv_tell I3 ((vT_c mset_L (by decide)).mpr v2) (by rw [mset_k (by decide)]; exact o2) (by rw [mset_k (by decide)]; exact p2) hp6 ?_ hu24 ?_
  · rw [mset_k (by decide), mset_k (by decide), ← hS1, mset_k (by decide)]; exact hu
  · rw [mset_s, nI_add]; exact bw.of (by decide) (by decide)
theorem mInv_finish {S : MS} {u t p k0 c : Nat} {x y : Int32} (I : mInv S) (hv : vT S t) (ho : opR S t) (hp : S 25 t = nI p) (hp6 : p < 6) (hu : S 44 0 = nI u) (hu24 : u ≤ 24) (hx : bw x 1 4) (hH : mHas 41 43 S (1 - t / 320) k0 c t) : mInv (mFin S u t p k0 c x y) := by
  unfold mFin
  split
  · exact mInv_shut (mInv_26 I hv ho hp hp6 hx) ((vT_c mset_L (by decide)).mpr hv) ((opR_c mset_L (by decide)).mpr ho) (by rw [mset_k (by decide)]; exact hp) hp6 hx (mHas_c mset_L (by decide) hH)
  · exact mInv_fin2 I hv ho hp hp6 hu hu24 hx
