/-! ===== how the invariant is kept: what changes little ===== -/
theorem mset_L {S : MS} {k j : Nat} {x : Int32} : ∀ k', k' ∉ [k] → mset S k j x k' = S k' := fun k' h => mset_kk (fun e => h (by rw [e]; exact List.mem_cons_self))
theorem mInv_n {S S' : MS} (I : mInv S) (H : ∀ k, k ∉ [0, 1, 2, 3, 6, 28, 30, 31, 38, 46, 47] → S' k = S k) : mInv S' := by
  obtain ⟨a, b, c, d, e, f, g, h, i, j⟩ := I
  exact ⟨iG_c H (by decide) a, iF_c H (by decide) b, iT_c H (by decide) c, iZ_c H (by decide) (by decide) d, iS_c H (by decide) e, iL_c H (by decide) f, iM_c H (by decide) g, iR_c H (by decide) h, iP_c H (by decide) i, iU_c H (by decide) j⟩
/-- a sender's clocks -/
theorem mInv_w {S : MS} {t k : Nat} {x : Int32} (I : mInv S) (hv : vT S t) (hk : k = 16 ∨ k = 17 ∨ k = 18) : mInv (mset S k t x) := by
  obtain ⟨a, b, c, d, e, f, g, h, i, j⟩ := I
  have H : ∀ k', k' ∉ [16, 17, 18] → mset S k t x k' = S k' := fun k' h => mset_kk (fun e => h (by rw [e]; simp only [List.mem_cons, List.not_mem_nil, or_false]; exact hk))
  refine ⟨iG_c H (by decide) a, iF_c H (by decide) b, iT_c H (by decide) c, iZ_t H (by decide) hv (fun k' _ _ _ l hl => ?_) d, iS_c H (by decide) e, iL_c H (by decide) f, iM_c H (by decide) g, iR_c H (by decide) h, iP_c H (by decide) i, iU_c H (by decide) j⟩
  by_cases q : k' = k
  · rw [q]
    exact mset_j (by rcases hk with w | w | w <;> subst w <;> rfl) hl
  · exact mset_k q
/-! a unit is sent -/
theorem uK_c {S S' : MS} {r r' t : Nat} (h45 : ∀ i, i < 11 → S' 45 (r' + i) = S 45 (r + i)) (h8 : S' 8 t = S 8 t) (h10 : S' 10 t = S 10 t) (h11 : S' 11 t = S 11 t) (h12 : S' 12 t = S 12 t) (U : uK S r t) : uK S' r' t := by
  unfold uK at U ⊢
  have e0 : S' 45 r' = S 45 r := h45 0 (by decide)
  rw [e0, h45 1 (by decide), h45 3 (by decide), h45 4 (by decide), h45 5 (by decide), h45 6 (by decide), h8, h10, h11, h12]
  rcases U with U | U | U | U | U | ⟨a1, a2, a3, g, a4, a5, a6⟩
  · exact Or.inl U
  · exact Or.inr (Or.inl U)
  · exact Or.inr (Or.inr (Or.inl U))
  · exact Or.inr (Or.inr (Or.inr (Or.inl U)))
  · exact Or.inr (Or.inr (Or.inr (Or.inr (Or.inl U))))
  · refine Or.inr (Or.inr (Or.inr (Or.inr (Or.inr ⟨a1, a2, a3, g, a4, a5, fun i hi => ?_⟩))))
    obtain ⟨a, b, b1, b2, b3, b4⟩ := a6 i hi
    refine ⟨a, b, b1, b2, ?_, ?_⟩
    · rw [Nat.add_assoc, h45 (5 + 2 * i) (by omega), ← Nat.add_assoc]; exact b3
    · rw [Nat.add_assoc, h45 (6 + 2 * i) (by omega), ← Nat.add_assoc]; exact b4
theorem uV_c {S S' : MS} {r r' : Nat} {L : List Nat} (H : ∀ k, k ∉ L → S' k = S k) (d : ∀ k ∈ [7, 8, 10, 11, 12], k ∉ L) (h45 : ∀ i, i < 11 → S' 45 (r' + i) = S 45 (r + i)) (U : uV S r) : uV S' r' := by
  obtain ⟨t, h2, hv, hk⟩ := U
  exact ⟨t, by rw [h45 2 (by decide)]; exact h2, (vT_c H (fun k hk => d k (by revert k; decide))).mpr hv, uK_c h45 (by rw [H 8 (d 8 (by decide))]) (by rw [H 10 (d 10 (by decide))]) (by rw [H 11 (d 11 (by decide))]) (by rw [H 12 (d 12 (by decide))]) hk⟩
theorem mInv_u {S S' : MS} (I : mInv S) (H : ∀ k, k ∉ [44, 45] → S' k = S k) {u : Nat} (hu24 : u ≤ 24) (h44 : S' 44 0 = nI u) (hn : ∀ j, j < u → uV S' (11 * j)) : mInv S' := by
  obtain ⟨a, b, c, d, e, f, g, h, i, j⟩ := I
  refine ⟨⟨by rw [h44]; exact bw.of (by omega) hu24, fun e he => by rw [H 7 (by decide)]; exact a.2 e he⟩, iF_c H (by decide) b, iT_c H (by decide) c, iZ_c H (by decide) (by decide) d, iS_c H (by decide) e, iL_c H (by decide) f, iM_c H (by decide) g, iR_c H (by decide) h, iP_c H (by decide) i, ?_⟩
  intro j hj
  rw [h44, nI_clamp (by omega)] at hj
  exact hn j hj
theorem mInv.u {S : MS} (I : mInv S) {u j : Nat} (hu : S 44 0 = nI u) (hu24 : u ≤ 24) (hj : j < u) : uV S (11 * j) := I.2.2.2.2.2.2.2.2.2 j (by rw [hu, nI_clamp (by omega)]; exact hj)
theorem mInv_snd {S S' : MS} (I : mInv S) (H : ∀ k, k ∉ [44, 45] → S' k = S k) {u : Nat} (hu : S 44 0 = nI u) (hu24 : u < 24) (h44 : S' 44 0 = nI (u + 1)) (h45 : ∀ j, j < 11 * u → S' 45 j = S 45 j) (hn : uV S' (11 * u)) : mInv S' := by
  refine mInv_u I H (by omega) h44 (fun j hj => ?_)
  by_cases q : j = u
  · rw [q]; exact hn
  · exact uV_c H (by decide) (fun i hi => h45 _ (by omega)) (I.u hu (by omega) (by omega))
/-! the rows of those that are open -/
theorem iRw_rm {A B : Nat} {side : Nat → Nat} {op : MS → Nat → Prop} {S S' : MS} {e k0 c t : Nat} (I : iRw A B side op S) (he : e < 2) (hs : side t = e) (h640 : t < 640) (hH : mHas A B S e k0 c t) (hv : ∀ t, vT S' t ↔ vT S t) (hop : ∀ t', vT S t' → (op S' t' ↔ op S t' ∧ t' ≠ t))
    (hA : ∀ j, S' A j = if 3 * e + k0 ≤ j ∧ j < 3 * e + (c - 1) then S A (j + 1) else S A j) (hB : ∀ j, S' B j = if j = e then nI (c - 1) else S B j) : iRw A B side op S' := by
  obtain ⟨hk0, hc3, hcB, hat, -⟩ := hH
  intro e' he'
  obtain ⟨c', h1, h2, h3, h4, h5⟩ := I e' he'
  by_cases ee : e' = e
  · subst ee
    have hcc : c' = c := (nI_eq (by omega) (by omega)).mp (h2.symm.trans hcB)
    subst hcc
    have rd : ∀ k, k < c' - 1 → S' A (3 * e' + k) = S A (3 * e' + (if k0 ≤ k then k + 1 else k)) := by
      intro k hk
      rw [hA]
      by_cases q : k0 ≤ k
      · rw [if_pos ⟨by omega, by omega⟩, if_pos q, Nat.add_assoc]
      · rw [if_neg (by omega), if_neg q]
    have sh : ∀ k, k < c' - 1 → (if k0 ≤ k then k + 1 else k) < c' ∧ (if k0 ≤ k then k + 1 else k) ≠ k0 := by
      intro k hk
      split <;> omega
    refine ⟨c' - 1, by omega, by rw [hB, if_pos rfl], fun k hk => ?_, fun k hk k' hk' q => ?_, fun t' v' s' o' => ?_⟩
    · obtain ⟨t', a1, a2, a3, a4⟩ := h3 _ (sh k hk).1
      refine ⟨t', (rd k hk).trans a1, a2, (hv t').mpr a3, (hop t' a3).mpr ⟨a4, fun z => ?_⟩⟩
      subst z
      exact (sh k hk).2 (h4 _ (sh k hk).1 _ hk0 (a1.trans hat.symm))
    · rw [rd k hk, rd k' hk'] at q
      have := h4 _ (sh k hk).1 _ (sh k' hk').1 q
      split at this <;> split at this <;> omega
    · rw [hv] at v'
      obtain ⟨o1, o2⟩ := (hop t' v').mp o'
      obtain ⟨k, b1, b2⟩ := h5 t' v' s' o1
      have hne : k ≠ k0 := fun z => by
        subst z
        exact o2 ((nI_eq (by have := v'.1; omega) (by omega)).mp (b2.symm.trans hat))
      by_cases q : k0 < k
      · refine ⟨k - 1, by omega, ?_⟩
        rw [rd (k - 1) (by omega), if_pos (by omega), Nat.sub_add_cancel (by omega)]
        exact b2
      · refine ⟨k, by omega, ?_⟩
        rw [rd k (by omega), if_neg (by omega)]
        exact b2
  · have rd : ∀ k, k < c' → S' A (3 * e' + k) = S A (3 * e' + k) := by
      intro k hk
      rw [hA, if_neg]
      omega
    refine ⟨c', h1, by rw [hB, if_neg ee]; exact h2, fun k hk => ?_, fun k hk k' hk' q => ?_, fun t' v' s' o' => ?_⟩
    · obtain ⟨t', a1, a2, a3, a4⟩ := h3 k hk
      exact ⟨t', (rd k hk).trans a1, a2, (hv t').mpr a3, (hop t' a3).mpr ⟨a4, fun z => ee (by rw [← a2, z, hs])⟩⟩
    · rw [rd k hk, rd k' hk'] at q
      exact h4 k hk k' hk' q
    · rw [hv] at v'
      obtain ⟨k, b1, b2⟩ := h5 t' v' s' ((hop t' v').mp o').1
      exact ⟨k, b1, (rd k b1).trans b2⟩
theorem iRw_add {A B : Nat} {side : Nat → Nat} {op : MS → Nat → Prop} {S S' : MS} {e c t : Nat} (I : iRw A B side op S) (he : e < 2) (hs : side t = e) (h640 : t < 640) (hc : c < 3) (hcB : S B e = nI c) (hno : vT S t → ¬ op S t) (hv : ∀ t', vT S' t' ↔ vT S t' ∨ t' = t) (hop : ∀ t', vT S' t' → (op S' t' ↔ (vT S t' ∧ op S t') ∨ t' = t))
    (hA : ∀ j, S' A j = if j = 3 * e + c then nI t else S A j) (hB : ∀ j, S' B j = if j = e then nI (c + 1) else S B j) : iRw A B side op S' := by
  intro e' he'
  obtain ⟨c', h1, h2, h3, h4, h5⟩ := I e' he'
  by_cases ee : e' = e
  · subst ee
    have hcc : c' = c := (nI_eq (by omega) (by omega)).mp (h2.symm.trans hcB)
    subst hcc
    have rd : ∀ k, k < c' → S' A (3 * e' + k) = S A (3 * e' + k) := fun k hk => by rw [hA, if_neg (by omega)]
    have rl : S' A (3 * e' + c') = nI t := by rw [hA, if_pos rfl]
    have ne : ∀ k, k < c' → S A (3 * e' + k) ≠ nI t := fun k hk q => by
      obtain ⟨t', a1, a2, a3, a4⟩ := h3 k hk
      have : t' = t := (nI_eq (by have := a3.1; omega) (by omega)).mp (a1.symm.trans q)
      subst this
      exact hno a3 a4
    refine ⟨c' + 1, by omega, by rw [hB, if_pos rfl], fun k hk => ?_, fun k hk k' hk' q => ?_, fun t' v' s' o' => ?_⟩
    · by_cases z : k = c'
      · subst z
        exact ⟨t, rl, hs, (hv t).mpr (Or.inr rfl), (hop t ((hv t).mpr (Or.inr rfl))).mpr (Or.inr rfl)⟩
      · obtain ⟨t', a1, a2, a3, a4⟩ := h3 k (by omega)
        exact ⟨t', (rd k (by omega)).trans a1, a2, (hv t').mpr (Or.inl a3), (hop t' ((hv t').mpr (Or.inl a3))).mpr (Or.inl ⟨a3, a4⟩)⟩
    · by_cases z : k = c'
      · subst z
        by_cases z' : k' = k
        · exact z'.symm
        · rw [rl, rd k' (by omega)] at q
          exact absurd q.symm (ne k' (by omega))
      · by_cases z' : k' = c'
        · subst z'
          rw [rl, rd k (by omega)] at q
          exact absurd q (ne k (by omega))
        · rw [rd k (by omega), rd k' (by omega)] at q
          exact h4 k (by omega) k' (by omega) q
    · rcases (hop t' v').mp o' with ⟨o1, o2⟩ | o1
      · obtain ⟨k, b1, b2⟩ := h5 t' o1 s' o2
        exact ⟨k, by omega, (rd k b1).trans b2⟩
      · subst o1
        exact ⟨c', by omega, rl⟩
  · have rd : ∀ k, k < c' → S' A (3 * e' + k) = S A (3 * e' + k) := fun k hk => by rw [hA, if_neg (by omega)]
    refine ⟨c', h1, by rw [hB, if_neg ee]; exact h2, fun k hk => ?_, fun k hk k' hk' q => ?_, fun t' v' s' o' => ?_⟩
    · obtain ⟨t', a1, a2, a3, a4⟩ := h3 k hk
      exact ⟨t', (rd k hk).trans a1, a2, (hv t').mpr (Or.inl a3), (hop t' ((hv t').mpr (Or.inl a3))).mpr (Or.inl ⟨a3, a4⟩)⟩
    · rw [rd k hk, rd k' hk'] at q
      exact h4 k hk k' hk' q
    · rcases (hop t' v').mp o' with ⟨o1, o2⟩ | o1
      · obtain ⟨k, b1, b2⟩ := h5 t' o1 s' o2
        exact ⟨k, b1, (rd k b1).trans b2⟩
      · subst o1
        exact absurd (s'.symm.trans hs) (by omega)
/-- one who is open stands in its row -/
theorem iRw.has {A B : Nat} {side : Nat → Nat} {op : MS → Nat → Prop} {S : MS} {t : Nat} (I : iRw A B side op S) (he : side t < 2) (hv : vT S t) (ho : op S t) : ∃ k0 c, mHas A B S (side t) k0 c t := by
  obtain ⟨c, h1, h2, h3, h4, h5⟩ := I _ he
  obtain ⟨k, b1, b2⟩ := h5 t hv rfl ho
  refine ⟨k, c, b1, h1, h2, b2, fun k' hk' q => ?_⟩
  have := h4 k' (by omega) k b1 (q.trans b2.symm)
  omega
