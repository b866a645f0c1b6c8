/-! ===== how the invariant is kept: NAKs, a receiver's timers ===== -/
theorem gC_3 {S : MS} {p a : Nat} : gC S p a ≤ 3 := by
  unfold gC
  split
  · omega
  · split
    · omega
    · split <;> omega
theorem gC_lt {S : MS} {p a i : Nat} (h : i < gC S p a) : gA S p a i < a := by
  unfold gC at h
  split at h
  · omega
  · rename_i q0
    split at h
    · have : i = 0 := by omega
      subst this; omega
    · rename_i q1
      split at h
      · have : i = 0 ∨ i = 1 := by omega
        rcases this with w | w <;> subst w <;> omega
      · rename_i q2
        have : i = 0 ∨ i = 1 ∨ i = 2 := by omega
        rcases this with w | w | w <;> subst w <;> omega
theorem gB_b {S : MS} {p a i : Nat} (h : i < gC S p a) : gA S p a i ≤ gB S p a i ∧ gB S p a i < a := gE_b 17 _ (gC_lt h)
theorem mGp_L {S : MS} {p a g : Nat} : ∀ k, k ∉ [47] → mGp S p a g k = S k := fun k h => funext fun j => mGp_o (fun z => h (by rw [z]; exact List.mem_cons_self))
/-- the row of a NAK -/
theorem mGu_L {S : MS} {b n : Nat} : ∀ k, k ∉ [45] → mGu S b n k = S k := fun k h => funext fun j => mGu_o (fun z => h (by rw [z]; exact List.mem_cons_self))
theorem nakRow {S : MS} {u t p g i : Nat} (hu : u < 24) (hi : i < 11) : mGu (mNakS S u t p g) (11 * u + 5) 6 45 (11 * u + i) = if 5 ≤ i then S 47 (i - 5) else [nI 6, nI (t / 320), nI t, if S 36 p = 0 then nI 1 else nI 0, nI g].getD i 0 := by
  unfold mGu
  by_cases q : 5 ≤ i
  · rw [if_pos ⟨rfl, by omega, by omega⟩, if_pos q]
    unfold mNakS
    rw [mSend_o (by decide) (by decide)]
    congr 1
    omega
  · rw [if_neg (by omega), if_neg q]
    unfold mNakS
    rw [mSend_r hu hi]
    match i, q with
    | 0, _ => rfl
    | 1, _ => rfl
    | 2, _ => rfl
    | 3, _ => rfl
    | 4, _ => rfl
    | n + 5, q => exact absurd (by omega) q
theorem mNakE_L {S : MS} {u t p g : Nat} : ∀ k, k ∉ [29, 30, 44, 45] → mNakE S u t p g k = S k := fun k h => funext fun j => by
  simp only [List.mem_cons, List.not_mem_nil, or_false, not_or] at h
  unfold mNakE mNakZ
  rw [mset_k h.2.1, mset_k h.1]
  split
  · rw [mGu_o h.2.2.2]; exact mSend_o h.2.2.2 h.2.2.1
  · exact mSend_o h.2.2.2 h.2.2.1
theorem mInv_nak {S : MS} {u t p n : Nat} (I : mInv S) (hv : vT S t) (ho : opR S t) (hp : S 25 t = nI p) (hp6 : p < 6) (hu : S 44 0 = nI u) (hu24 : u ≤ 24) (hn : n ≤ 64) (h3 : bw (S 29 p + nI 1) 0 3) (h37 : ¬ S 37 p = 0) : mInv (mNak S u t p n) := by
  unfold mNak
  have I1 : mInv (mGp S p ((n + 3) / 4) (gC S p ((n + 3) / 4))) := mInv_n I (fun k hk => mGp_L k (fun z => hk (by simp only [List.mem_cons, List.not_mem_nil, or_false] at z; subst z; decide)))
  have g3 := gC_3 (S := S) (p := p) (a := (n + 3) / 4)
  have gl : ∀ i, i < gC S p ((n + 3) / 4) → mGp S p ((n + 3) / 4) (gC S p ((n + 3) / 4)) 47 (2 * i) = nI (gA S p ((n + 3) / 4) i) ∧ mGp S p ((n + 3) / 4) (gC S p ((n + 3) / 4)) 47 (2 * i + 1) = nI (gB S p ((n + 3) / 4) i) := by
    intro i hi
    unfold mGp
    refine ⟨?_, ?_⟩
    · rw [if_pos ⟨rfl, by omega⟩, show 2 * i / 2 = i from by omega, if_pos hi, if_pos (by omega)]
    · rw [if_pos ⟨rfl, by omega⟩, show (2 * i + 1) / 2 = i from by omega, if_pos hi, if_neg (by omega)]
  have gb : ∀ i, i < gC S p ((n + 3) / 4) → gA S p ((n + 3) / 4) i ≤ gB S p ((n + 3) / 4) i ∧ gB S p ((n + 3) / 4) i < 16 := fun i hi => by
    have := gB_b hi
    omega
  have e29 : mGp S p ((n + 3) / 4) (gC S p ((n + 3) / 4)) 29 p = S 29 p := mGp_o (by decide)
  have e37 : mGp S p ((n + 3) / 4) (gC S p ((n + 3) / 4)) 37 p = S 37 p := mGp_o (by decide)
  have v1 : vT (mGp S p ((n + 3) / 4) (gC S p ((n + 3) / 4))) t := (vT_c mGp_L (by decide)).mpr hv
  have o1 : opR (mGp S p ((n + 3) / 4) (gC S p ((n + 3) / 4))) t := (opR_c mGp_L (by decide)).mpr ho
  have p1 : mGp S p ((n + 3) / 4) (gC S p ((n + 3) / 4)) 25 t = nI p := by rw [mGp_o (by decide)]; exact hp
  have u1 : mGp S p ((n + 3) / 4) (gC S p ((n + 3) / 4)) 44 0 = nI u := by rw [mGp_o (by decide)]; exact hu
  rw [← e29] at h3
  rw [← e37] at h37
  clear e29 e37 hv ho hp hu I
  generalize gC S p ((n + 3) / 4) = g at *
  generalize mGp S p ((n + 3) / 4) g = S1 at *
  have Z : ∀ S2 : MS, mInv S2 → (∀ k, k ∉ [44, 45] → S2 k = S1 k) → mInv (mNakZ S2 p) := by
    intro S2 I2 H2
    unfold mNakZ
    refine mInv_n (mInv_29 I2 ((vT_c H2 (by decide)).mpr v1) ((opR_c H2 (by decide)).mpr o1) (by rw [H2 25 (by decide)]; exact p1) hp6 (by rw [H2 29 (by decide)]; exact h3) (fun _ z => by rw [H2 37 (by decide)] at z; exact absurd z h37)) (fun k hk => mset_kk (fun z => hk (by subst z; decide)))
  unfold mNakE
  split
  · rename_i q
    have H3 : ∀ k, k ∉ [44, 45] → mGu (mNakS S1 u t p g) (11 * u + 5) 6 k = S1 k := fun k hk => (mGu_L k (fun z => hk (by simp only [List.mem_cons, List.not_mem_nil, or_false] at z; subst z; decide))).trans (mSend_L k hk)
    refine Z _ (mInv_snd I1 H3 u1 q ?_ (fun j hj => ?_) ⟨t, nakRow q (by decide), (vT_c H3 (by decide)).mpr v1, Or.inr (Or.inr (Or.inr (Or.inr (Or.inr ⟨nakRow (i := 0) q (by decide), nakRow (i := 1) q (by decide), ?_, g, g3, nakRow (i := 4) q (by decide), fun i hi => ?_⟩))))⟩) H3
    · rw [mGu_o (by decide)]
      exact (mSend_u u1 hu24).trans (by rw [if_neg (by omega)])
    · unfold mGu
      rw [if_neg (by omega)]
      exact mSend_lo hj
    · rw [nakRow q (by decide)]
      show bw (if S1 36 p = 0 then nI 1 else nI 0) 0 1
      split
      · exact bw.of (by decide) (by decide)
      · exact bw.of (by decide) (by decide)
    · refine ⟨gA S p ((n + 3) / 4) i, gB S p ((n + 3) / 4) i, (gb i hi).1, (gb i hi).2, ?_, ?_⟩
      · rw [Nat.add_assoc, nakRow q (by omega), if_pos (by omega), show 5 + 2 * i - 5 = 2 * i from by omega]
        exact (gl i hi).1
      · rw [Nat.add_assoc, nakRow q (by omega), if_pos (by omega), show 6 + 2 * i - 5 = 2 * i + 1 from by omega]
        exact (gl i hi).2
  · rename_i q
    have e : mNakS S1 u t p g = S1 := mSend_24 (by omega)
    rw [e]
    exact Z _ I1 (fun _ _ => rfl)
/-- what a receiver's step needs -/
theorem bw_s {x : Int32} (h : bw x 0 3) (h3 : ¬ x = nI 3) : bw (x + nI 1) 0 3 := by
  obtain ⟨n, q1, q2, rfl⟩ := h
  have : n ≠ 3 := fun z => by subst z; exact h3 rfl
  rw [nI_add]
  exact bw.of (by omega) (by omega)
theorem mInv_att {S : MS} {u t p n k0 c : Nat} (I : mInv S) (hv : vT S t) (ho : opR S t) (hp : S 25 t = nI p) (hp6 : p < 6) (hu : S 44 0 = nI u) (hu24 : u ≤ 24) (hn : n ≤ 64) (hH : mHas 41 43 S (1 - t / 320) k0 c t) : mInv (mAtt S u t p n k0 c) := by
  obtain ⟨b1, b2, b3, b4, b5, b6, b7, b8, b9, b10, b11, b12⟩ := I.p hv ho hp hp6
  unfold mAtt
  split
  · rename_i q6
    split
    · split
      · exact mInv_shut I hv ho hp hp6 (b11 q6) hH
      · rename_i q3
        exact mInv_tell I hv q6 hp hp6 hu hu24 (bw_s b7 q3)
    · exact I
  · split
    · split
      · exact I
      · exact mInv_shut I hv ho hp hp6 (bw.of (by decide) (by decide)) hH
    · rename_i q37
      split
      · split
        · exact I
        · exact mInv_shut I hv ho hp hp6 (bw.of (by decide) (by decide)) hH
      · split
        · exact I
        · split
          · exact mInv_finish I hv ho hp hp6 hu hu24 (bw.of (by decide) (by decide)) hH
          · rename_i q3
            exact mInv_nak I hv ho hp hp6 hu hu24 hn (bw_s b7 q3) q37
