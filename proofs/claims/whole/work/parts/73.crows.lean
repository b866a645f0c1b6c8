/-! ===== the rows of the open ones, when one closes ===== -/
theorem row_rm {r : Nat → Nat} {c k0 t : Nat} (hc : c ≤ 3) (hk : k0 < c) (h0 : r k0 = t) (hi : ∀ k, k < c → k ≠ k0 → r k ≠ t) : (List.range (c - 1)).map (fun k => r (if k0 ≤ k then k + 1 else k)) = ((List.range c).map r).filter (fun z => decide (z ≠ t)) := by
  have h1 : c = 1 ∨ c = 2 ∨ c = 3 := by omega
  rcases h1 with w | w | w
  · subst w
    have : k0 = 0 := by omega
    subst this
    simp [List.range_succ, h0]
  · subst w
    have : k0 = 0 ∨ k0 = 1 := by omega
    rcases this with w | w <;> subst w
    · have := hi 1 (by omega) (by omega)
      simp [List.range_succ, h0, this]
    · have := hi 0 (by omega) (by omega)
      simp [List.range_succ, h0, this]
  · subst w
    have : k0 = 0 ∨ k0 = 1 ∨ k0 = 2 := by omega
    rcases this with w | w | w <;> subst w
    · have := hi 1 (by omega) (by omega)
      have := hi 2 (by omega) (by omega)
      simp [List.range_succ, h0, *]
    · have := hi 0 (by omega) (by omega)
      have := hi 2 (by omega) (by omega)
      simp [List.range_succ, h0, *]
    · have := hi 0 (by omega) (by omega)
      have := hi 1 (by omega) (by omega)
      simp [List.range_succ, h0, *]
theorem rowL_rm {A B : Nat} {S S' : MS} {side : Nat → Nat} {op : MS → Nat → Prop} {e k0 c t : Nat} (I : iRw A B side op S) (he : e < 2) (t6 : t < 640) (hH : mHas A B S e k0 c t) (hA : ∀ j, S' A j = if 3 * e + k0 ≤ j ∧ j < 3 * e + (c - 1) then S A (j + 1) else S A j) (hB : ∀ j, S' B j = if j = e then nI (c - 1) else S B j) : rowL S' A B e = (rowL S A B e).filter (fun z => decide (z ≠ t)) := by
  obtain ⟨hk0, hc3, hcB, hat, -⟩ := hH
  obtain ⟨c', h1, h2, h3, h4, h5⟩ := I e he
  have hcc : c' = c := (nI_eq (by omega) (by omega)).mp (h2.symm.trans hcB)
  subst hcc
  have e1 : cP B S e = c' := by unfold cP; rw [hcB, nI_clamp (by omega)]
  have e2 : cP B S' e = c' - 1 := by unfold cP; rw [hB, if_pos rfl, nI_clamp (by omega)]
  unfold rowL
  rw [e1, e2, ← row_rm (r := fun k => (S A (3 * e + k)).toNatClampNeg) (k0 := k0) hc3 hk0 (by simp only [hat]; rw [nI_clamp (by omega)]) (fun k hk hne z => ?_)]
  · refine List.map_congr_left (fun k hk => ?_)
    rw [List.mem_range] at hk
    rw [hA]
    by_cases q : k0 ≤ k
    · rw [if_pos ⟨by omega, by omega⟩, if_pos q, Nat.add_assoc]
    · rw [if_neg (by omega), if_neg q]
  · obtain ⟨t', a1, a2, a3, a4⟩ := h3 k hk
    have h640 := a3.1
    simp only [a1] at z
    rw [nI_clamp (by omega)] at z
    exact hne (h4 k hk k0 hk0 (by rw [a1, z, hat]))
theorem rowL_o {A B : Nat} {S S' : MS} {e : Nat} (hc : cP B S e ≤ 3) (hA : ∀ k, k < 3 → S' A (3 * e + k) = S A (3 * e + k)) (hB : S' B e = S B e) : rowL S' A B e = rowL S A B e := by
  unfold rowL
  have : cP B S' e = cP B S e := by unfold cP; rw [hB]
  rw [this]
  refine List.map_congr_left (fun k hk => ?_)
  rw [List.mem_range] at hk
  rw [hA k (by omega)]
theorem filter_cl {L : List Nat} {p q : Nat → Bool} {t : Nat} (h : ∀ z ∈ L, q z = (p z && decide (z ≠ t))) : L.filter q = (L.filter p).filter (fun z => decide (z ≠ t)) := by
  rw [List.filter_filter]
  refine List.filter_congr (fun z hz => ?_)
  rw [h z hz, Bool.and_comm]
/-- a sender closes: the lists of the class stand, the reference's row has lost it -/
theorem cRw_clS {S S' : MS} {Lo Lr : Nat → List Nat} {t k0 c : Nat} (I : mInv S) (W : cRw S Lo Lr) (hv : vT S t) (hH : mHas 40 42 S (t / 320) k0 c t) (F : ∀ k, k ∈ [7, 23, 41, 43] → S' k = S k) (h13 : ∀ j, j ≠ t → S' 13 j = S 13 j) (ht : ¬ S' 13 t = nI 5) (h40 : ∀ j, S' 40 j = if 3 * (t / 320) + k0 ≤ j ∧ j < 3 * (t / 320) + (c - 1) then S 40 (j + 1) else S 40 j) (h42 : ∀ j, S' 42 j = if j = t / 320 then nI (c - 1) else S 42 j) : cRw S' Lo Lr := by
  have h640 := hv.1
  have vt : ∀ t', vT S' t' ↔ vT S t' := fun t' => by unfold vT nN; rw [F 7 (by decide)]
  have fl : ∀ e, (Lo e).filter (fun z => decide (S' 13 z = nI 5)) = ((Lo e).filter (fun z => decide (S 13 z = nI 5))).filter (fun z => decide (z ≠ t)) := fun e => by
    refine filter_cl (fun z _ => ?_)
    by_cases q : z = t
    · subst q; simp [ht]
    · rw [h13 z q]; simp [q]
  intro e he
  obtain ⟨w1, w2, w3, w4, w5, w6⟩ := W e he
  refine ⟨fun t' ht' => ⟨(vt t').mpr (w1 t' ht').1, (w1 t' ht').2⟩, fun t' ht' => ⟨(vt t').mpr (w2 t' ht').1, (w2 t' ht').2.1, by rw [F 23 (by decide)]; exact (w2 t' ht').2.2⟩, w3, w4, ?_, ?_⟩
  · rw [fl e, ← w5]
    by_cases q : e = t / 320
    · subst q
      exact rowL_rm I.L he h640 hH h40 h42
    · have hc3 := hH.2.1
      have hcP : cP 42 S e ≤ 3 := by obtain ⟨c', h1, h2, -⟩ := I.L e he; unfold cP; rw [h2, nI_clamp (by omega)]; exact h1
      rw [rowL_o hcP (fun k hk => by rw [h40, if_neg (by omega)]) (by rw [h42, if_neg q])]
      refine (List.filter_eq_self.mpr (fun z hz => ?_)).symm
      rw [w5, List.mem_filter] at hz
      have := (w1 z hz.1).2
      simp only [decide_eq_true_eq]
      exact fun y => q (by rw [← this, y])
  · unfold rowL cP
    rw [F 41 (by decide), F 43 (by decide), F 23 (by decide)]
    exact w6
theorem cRw_clR {S S' : MS} {Lo Lr : Nat → List Nat} {t k0 c : Nat} (I : mInv S) (W : cRw S Lo Lr) (hv : vT S t) (hH : mHas 41 43 S (1 - t / 320) k0 c t) (F : ∀ k, k ∈ [7, 13, 40, 42] → S' k = S k) (h23 : ∀ j, j ≠ t → S' 23 j = S 23 j) (ht : ¬ opR S' t) (hz : ¬ S' 23 t = 0) (h41 : ∀ j, S' 41 j = if 3 * (1 - t / 320) + k0 ≤ j ∧ j < 3 * (1 - t / 320) + (c - 1) then S 41 (j + 1) else S 41 j) (h43 : ∀ j, S' 43 j = if j = 1 - t / 320 then nI (c - 1) else S 43 j) : cRw S' Lo Lr := by
  have h640 := hv.1
  have vt : ∀ t', vT S' t' ↔ vT S t' := fun t' => by unfold vT nN; rw [F 7 (by decide)]
  have fl : ∀ e, (Lr e).filter (fun z => decide (S' 23 z = nI 5 ∨ S' 23 z = nI 6)) = ((Lr e).filter (fun z => decide (S 23 z = nI 5 ∨ S 23 z = nI 6))).filter (fun z => decide (z ≠ t)) := fun e => by
    refine filter_cl (fun z _ => ?_)
    by_cases q : z = t
    · subst q
      unfold opR at ht
      simp [ht]
    · rw [h23 z q]; simp [q]
  intro e he
  obtain ⟨w1, w2, w3, w4, w5, w6⟩ := W e he
  refine ⟨fun t' ht' => ⟨(vt t').mpr (w1 t' ht').1, (w1 t' ht').2⟩, fun t' ht' => ⟨(vt t').mpr (w2 t' ht').1, (w2 t' ht').2.1, ?_⟩, w3, w4, ?_, ?_⟩
  · by_cases q : t' = t
    · subst q; exact hz
    · rw [h23 t' q]; exact (w2 t' ht').2.2
  · unfold rowL cP
    rw [F 40 (by decide), F 42 (by decide), F 13 (by decide)]
    exact w5
  · rw [fl e, ← w6]
    by_cases q : e = 1 - t / 320
    · subst q
      exact rowL_rm I.M he h640 hH h41 h43
    · have hc3 := hH.2.1
      have hcP : cP 43 S e ≤ 3 := by obtain ⟨c', h1, h2, -⟩ := I.M e he; unfold cP; rw [h2, nI_clamp (by omega)]; exact h1
      rw [rowL_o hcP (fun k hk => by rw [h41, if_neg (by omega)]) (by rw [h43, if_neg q])]
      refine (List.filter_eq_self.mpr (fun z hz => ?_)).symm
      rw [w6, List.mem_filter] at hz
      have := (w2 z hz.1).2.1
      simp only [decide_eq_true_eq]
      exact fun y => q (by rw [← this, y])
