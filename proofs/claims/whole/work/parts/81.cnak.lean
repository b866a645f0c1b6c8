section CRc
variable {h h2 h' : ix_H} {x : Nat} {S S' : MS} {T A R U D : Nat → Nat} {Lo Lr : Nat → List Nat} {u t p n k0 c : Nat}
/-- a NAK goes out -/
theorem R_nak {nm : Int32} (I : mInv S) (C : cRel h x S T A R U D Lo Lr) (hv : vT S t) (ho : S 23 t = nI 5) (hp : p = sP S t) (hu : S 44 0 = nI u) (hu24 : u ≤ 24) (hn64 : n ≤ 64) (h37 : ¬ S 37 p = 0) (h3 : bw (S 29 p + nI 1) 0 3)
    (hnm : ∀ q, q < 32 → (rb nm q ↔ ∃ i, i < gC S p ((n + 3) / 4) ∧ gA S p ((n + 3) / 4) i ≤ q ∧ q ≤ gB S p ((n + 3) / 4) i))
    (a2 : sw (R t) h h2) (a3 : sw (R t) (hOut x h2 (T t) (nI 6) (nI (t / 320)) (if S 36 p = 0 then nI (gC S p ((n + 3) / 4)) + nI 8 else nI (gC S p ((n + 3) / 4))) 0 nm) h') (hk : kpR h h' (R t)) (hi : iOf h h' (R t) [(9, S 2 0), (10, ix_i h (R t) 10 + 1)]) : ∃ U', cRel h' x (mNak S u t p n) T A R U' D Lo Lr := by
  have hop : opR S t := Or.inl ho
  have ha : (n + 3) / 4 ≤ 16 := by omega
  have p6 : p < 6 := by rw [hp]; exact (I.sp hv hop).2.1
  unfold mNak
  have LG := mGp_L (S := S) (p := p) (a := (n + 3) / 4) (g := gC S p ((n + 3) / 4))
  have LI : ∀ k, k ∉ [1, 2, 3, 46, 47] → mGp S p ((n + 3) / 4) (gC S p ((n + 3) / 4)) k = S k := fun k hk => LG k (fun z => hk (by revert z; simp only [List.mem_cons, List.not_mem_nil, or_false]; omega))
  have IG : mInv (mGp S p ((n + 3) / 4) (gC S p ((n + 3) / 4))) := mInv_n I (fun k hk => LG k (fun z => hk (by revert z; simp only [List.mem_cons, List.not_mem_nil, or_false]; omega)))
  have CG : cRel h x (mGp S p ((n + 3) / 4) (gC S p ((n + 3) / 4))) T A R U D Lo Lr := cRel_irr I C LI
  have IN := mInv_nak I hv hop (hp ▸ (I.sp hv hop).1) p6 hu hu24 hn64 h3 h37
  unfold mNak at IN
  have g3 := gC_3 (S := S) (p := p) (a := (n + 3) / 4)
  have gl : ∀ i, i < gC S p ((n + 3) / 4) → mGp S p ((n + 3) / 4) (gC S p ((n + 3) / 4)) 47 (2 * i) = nI (gA S p ((n + 3) / 4) i) ∧ mGp S p ((n + 3) / 4) (gC S p ((n + 3) / 4)) 47 (2 * i + 1) = nI (gB S p ((n + 3) / 4) i) := by
    intro i hi
    unfold mGp
    refine ⟨?_, ?_⟩
    · rw [if_pos ⟨rfl, by omega⟩, show 2 * i / 2 = i from by omega, if_pos hi, if_pos (by omega)]
    · rw [if_pos ⟨rfl, by omega⟩, show (2 * i + 1) / 2 = i from by omega, if_pos hi, if_neg (by omega)]
  have gb : ∀ i, i < gC S p ((n + 3) / 4) → gA S p ((n + 3) / 4) i < 16 ∧ gB S p ((n + 3) / 4) i < 16 := fun i hi => by
    have := gB_b hi
    have := gC_lt hi
    omega
  have uG : mGp S p ((n + 3) / 4) (gC S p ((n + 3) / 4)) 44 0 = nI u := by rw [LG 44 (by decide)]; exact hu
  have e36 : mGp S p ((n + 3) / 4) (gC S p ((n + 3) / 4)) 36 p = S 36 p := by rw [LG 36 (by decide)]
  generalize hg : gC S p ((n + 3) / 4) = g at *
  generalize mGp S p ((n + 3) / 4) g = SG at *
  have hgU : gU SG = u := by unfold gU; rw [uG, nI_clamp (by omega)]
  have HF : u < 24 → ∀ k, k ∉ [44, 45] → mGu (mNakS SG u t p g) (11 * u + 5) 6 k = SG k := fun _ k hk => (mGu_L k (fun z => hk (by simp only [List.mem_cons, List.not_mem_nil, or_false] at z; subst z; decide))).trans (mSend_L k hk)
  have e24 : u = 24 → mNakS SG u t p g = SG := fun q => mSend_24 q
  -- the unit
  have HS : ∃ U', cRel (hOut x h (T t) (nI 6) (nI (t / 320)) (if S 36 p = 0 then nI g + nI 8 else nI g) 0 nm) x (if u < 24 then mGu (mNakS SG u t p g) (11 * u + 5) 6 else mNakS SG u t p g) T A R U' D Lo Lr := by
    refine cRel_send (tx := T t) (t := t) (u := u) IG CG hgU hu24 (fun q => by rw [if_pos q]; exact HF q) (fun q => ?_) (fun q j hj => ?_) (fun q => by rw [if_neg (by omega)]; exact e24 q) (fun q => ?_) hv.1 rfl (fun q => ?_)
    · rw [if_pos q, mGu_o (by decide)]
      exact (mSend_u uG hu24).trans (by rw [if_neg (by omega)])
    · rw [if_pos q]
      unfold mGu
      rw [if_neg (by omega)]
      exact mSend_lo hj
    · rw [if_pos q]
      exact nakRow q (by decide)
    · rw [if_pos q]
      have k0 := nakRow (S := SG) (u := u) (t := t) (p := p) (g := g) (i := 0) q (by decide)
      have k1 := nakRow (S := SG) (u := u) (t := t) (p := p) (g := g) (i := 1) q (by decide)
      have k3 := nakRow (S := SG) (u := u) (t := t) (p := p) (g := g) (i := 3) q (by decide)
      have k4 := nakRow (S := SG) (u := u) (t := t) (p := p) (g := g) (i := 4) q (by decide)
      have k0' : mGu (mNakS SG u t p g) (11 * u + 5) 6 45 (11 * u) = nI 6 := k0
      have k1' : mGu (mNakS SG u t p g) (11 * u + 5) 6 45 (11 * u + 1) = nI (t / 320) := k1
      have k3' : mGu (mNakS SG u t p g) (11 * u + 5) 6 45 (11 * u + 3) = if S 36 p = 0 then nI 1 else nI 0 := by rw [← e36]; exact k3
      have k4' : mGu (mNakS SG u t p g) (11 * u + 5) 6 45 (11 * u + 4) = nI g := k4
      unfold uOK
      rw [k0', k1', k3', k4']
      refine ⟨rfl, rfl, ?_, fun z => absurd z (by decide), fun z => absurd z (by decide), fun _ y hy => ?_⟩
      · rw [if_pos rfl]
        split
        · rw [show nI 8 * nI 1 = nI 8 from by decide]
        · rw [show nI 8 * nI 0 = nI 0 from by decide, nI_add, Nat.add_zero]
      · rw [hnm y hy, nI_clamp (by omega)]
        constructor
        · rintro ⟨i, w1, w2, w3⟩
          refine ⟨i, w1, ?_, ?_⟩
          · rw [Nat.add_assoc, nakRow q (by omega), if_pos (by omega), show 5 + 2 * i - 5 = 2 * i from by omega, (gl i w1).1, nI_clamp (by have := gb i w1; omega)]; exact w2
          · rw [Nat.add_assoc, nakRow q (by omega), if_pos (by omega), show 6 + 2 * i - 5 = 2 * i + 1 from by omega, (gl i w1).2, nI_clamp (by have := gb i w1; omega)]; exact w3
        · rintro ⟨i, w1, w2, w3⟩
          refine ⟨i, w1, ?_, ?_⟩
          · rw [Nat.add_assoc, nakRow q (by omega), if_pos (by omega), show 5 + 2 * i - 5 = 2 * i from by omega, (gl i w1).1, nI_clamp (by have := gb i w1; omega)] at w2; exact w2
          · rw [Nat.add_assoc, nakRow q (by omega), if_pos (by omega), show 6 + 2 * i - 5 = 2 * i + 1 from by omega, (gl i w1).2, nI_clamp (by have := gb i w1; omega)] at w3; exact w3
  have L1 : ∀ k, k ∉ [44, 45, 47] → (if u < 24 then mGu (mNakS SG u t p g) (11 * u + 5) 6 else mNakS SG u t p g) k = S k := fun k hk => by
    have h45 : k ∉ [44, 45] := fun z => hk (by revert z; simp only [List.mem_cons, List.not_mem_nil, or_false]; omega)
    have h47 : k ∉ [47] := fun z => hk (by revert z; simp only [List.mem_cons, List.not_mem_nil, or_false]; omega)
    split
    · rename_i q; rw [HF q k h45]; exact LG k h47
    · rw [show mNakS SG u t p g k = SG k from mSend_L k h45]; exact LG k h47
  have I1 : mInv (if u < 24 then mGu (mNakS SG u t p g) (11 * u + 5) 6 else mNakS SG u t p g) := by
    have hv1 : vT S t := hv
    split
    · rename_i q
      refine mInv_snd IG (HF q) uG q ?_ (fun j hj => ?_) ⟨t, nakRow q (by decide), (vT_c (HF q) (by decide)).mpr ((vT_c LG (by decide)).mpr hv), Or.inr (Or.inr (Or.inr (Or.inr (Or.inr ⟨nakRow (i := 0) q (by decide), nakRow (i := 1) q (by decide), ?_, g, g3, nakRow (i := 4) q (by decide), fun i hi => ?_⟩))))⟩
      · rw [mGu_o (by decide)]
        exact (mSend_u uG hu24).trans (by rw [if_neg (by omega)])
      · unfold mGu
        rw [if_neg (by omega)]
        exact mSend_lo hj
      · rw [nakRow q (by decide)]
        show bw (if SG 36 p = 0 then nI 1 else nI 0) 0 1
        split
        · exact bw.of (by decide) (by decide)
        · exact bw.of (by decide) (by decide)
      · refine ⟨gA S p ((n + 3) / 4) i, gB S p ((n + 3) / 4) i, (gB_b (by rw [hg]; exact hi)).1, (gb i hi).2, ?_, ?_⟩
        · rw [Nat.add_assoc, nakRow q (by omega), if_pos (by omega), show 5 + 2 * i - 5 = 2 * i from by omega]
          exact (gl i hi).1
        · rw [Nat.add_assoc, nakRow q (by omega), if_pos (by omega), show 6 + 2 * i - 5 = 2 * i + 1 from by omega]
          exact (gl i hi).2
    · rename_i q
      rw [e24 (by omega)]
      exact IG
  unfold mNakE
  generalize (if u < 24 then mGu (mNakS SG u t p g) (11 * u + 5) 6 else mNakS SG u t p g) = S1 at *
  have esp : sP S1 t = p := by rw [hp]; unfold sP; rw [L1 25 (by decide)]
  have Z : ∀ k, k ∉ [29, 30] → mNakZ S1 p k = S1 k := fun k hk => by
    unfold mNakZ
    rw [mset_kk (fun z => hk (by rw [z]; decide)), mset_kk (fun z => hk (by rw [z]; decide))]
  have Z29 : ∀ j, mNakZ S1 p 29 j = if j = p then S1 29 p + nI 1 else S1 29 j := fun j => by
    unfold mNakZ
    rw [mset_k (by decide), mset_if rfl]
  have Z30 : ∀ j, mNakZ S1 p 30 j = if j = p then S1 2 0 else S1 30 j := fun j => by
    unfold mNakZ
    rw [mset_if rfl, mset_k (by decide)]
  have es' : sP (mNakZ S1 p) t = p := by
    refine Eq.trans ?_ esp
    unfold sP
    rw [Z 25 (by decide)]
  have R5 := (C.rv hv hop).2.2.2.2.2.2.2.2.2.2.2.2.2.2 ho
  rw [← hp] at R5
  obtain ⟨o1, o2, o3, o4, o5, o6, o7, o8⟩ := R5
  have e23 : mNakZ S1 p 23 = S 23 := (Z 23 (by decide)).trans (L1 23 (by decide))
  refine cRel_rs I1 HS ((vT_c L1 (by decide)).mpr hv) ((opR_c L1 (by decide)).mpr hop) a2 a3 (kpR_tg (C.rv hv hop) hk) (fun k hk => Z k (fun z => hk (by revert z; simp only [List.mem_cons, List.not_mem_nil, or_false]; omega))) (fun j _ => ⟨by rw [Z 23 (by decide)], by rw [Z 24 (by decide)]⟩) (fun k h1 h2 j hj => ?_) (fun k hk j _ => by rw [Z k (by rcases hk with w | w <;> subst w <;> decide)]) (cRv_mk (C.rv hv hop) hk (by rw [Z 0 (by decide), L1 0 (by decide)]) (by rw [Z 24 (by decide), L1 24 (by decide)]) (fun z => absurd (by unfold opR; rw [e23]; exact hop) z) (fun _ => (hi 12).trans ((C.rv hv hop).2.2.2.2.2.2.2.2.2.2.2.2.1 hop)) (fun z => by rw [e23, ho] at z; exact absurd z (by decide)) (fun _ => ?_)) (by rw [e23, ho]; decide) (cRw_fr C.rw (L := [29, 30, 44, 45, 47]) (fun k hk => (Z k (fun z => hk (by revert z; simp only [List.mem_cons, List.not_mem_nil, or_false]; omega))).trans (L1 k (fun z => hk (by revert z; simp only [List.mem_cons, List.not_mem_nil, or_false]; omega)))) (by decide))
  · rw [esp] at hj
    by_cases q : k = 29
    · subst q; rw [Z29, if_neg hj]
    · by_cases q2 : k = 30
      · subst q2; rw [Z30, if_neg hj]
      · rw [Z k (by simp only [List.mem_cons, List.not_mem_nil, or_false, not_or]; omega)]
  · rw [es']
    have b5 : ceq h h' (R t + 1) := hk.2.2.2.2
    refine ⟨(hi 11).trans o1, ?_, fun q hq => ?_, ?_, fun _ => ?_, ?_, ?_, fun i hi' => ?_⟩
    · rw [Z 36 (by decide), L1 36 (by decide)]; exact (hi 5).trans o2
    · rw [Z 39 (by decide), L1 39 (by decide), show ix_i h' (R t) 6 = ix_i h (R t) 6 from hi 6]; exact o3 q hq
    · rw [Z 37 (by decide), L1 37 (by decide), Z 27 (by decide), L1 27 (by decide)]; exact (hi 7).trans o4
    · rw [Z 28 (by decide), L1 28 (by decide)]; exact (hi 8).trans (o5 h37)
    · rw [Z 37 (by decide), L1 37 (by decide), if_neg h37, Z30, if_pos rfl, L1 2 (by decide)]; exact hi 9
    · rw [Z29, if_pos rfl, L1 29 (by decide)]
      refine (hi 10).trans ?_
      show ix_i h (R t) 10 + 1 = _
      rw [o7]
      rfl
    · rw [b5.2.2.1, o8 i hi']
      exact (mB_o (fun j => by rw [Z 38 (by decide), L1 38 (by decide)]) (fun j => by rw [Z 39 (by decide), L1 39 (by decide)])).symm
end CRc
