/-! ===== what a receiver hears ===== -/
section CRg
variable {h h' : ix_H} {x : Nat} {S S' : MS} {T A R U D : Nat → Nat} {Lo Lr : Nat → List Nat} {t p : Nat}
/-- a receiver that is open and hasn't ended: its numbers change, no row does -/
theorem H_5 (I : mInv S) (C : cRel h x S T A R U D Lo Lr) (hv : vT S t) (ho : S 23 t = nI 5) (hp : p = sP S t) (hh : ∀ b, b ≠ R t → b ≠ R t + 1 → ceq h h' b) (hn : ix_nx h' = ix_nx h) (htg : ∀ b, ix_tg h' b = ix_tg h b ∧ ix_ln h' b = ix_ln h b ∧ ∀ j, ix_r h' b j = ix_r h b j) (i3 : ix_i h' (R t) 3 = ix_i h (R t) 3 ∧ ix_i h' (R t) 12 = ix_i h (R t) 12 ∧ ix_i h' (R t) 13 = ix_i h (R t) 13) (hb : ∀ i, i < 64 → b8 (ix_i h' (R t + 1) i))
    (F0 : ∀ k, k ∉ [1, 2, 3, 26, 27, 28, 29, 30, 31, 32, 33, 34, 36, 37, 38, 39, 46, 47] → S' k = S k) (F2 : ∀ k, 26 ≤ k → k ≤ 37 → ∀ j, j ≠ p → S' k j = S k j) (F3 : ∀ k, k = 38 ∨ k = 39 → ∀ j, (j < 16 * p ∨ 16 * p + 16 ≤ j) → S' k j = S k j) (h5 : cRo5 h' S' (R t) p) : cRel h' x S' T A R U D Lo Lr := by
  have hop : opR S t := Or.inl ho
  obtain ⟨a1, a2, a3, a4, a5, a6, a7, a8, a9, a10, a11, a12, a13, a14, a15⟩ := C.rv hv hop
  have es : sP S' t = p := by rw [hp]; unfold sP; rw [F0 25 (by decide)]
  have e23 : S' 23 = S 23 := F0 23 (by decide)
  have r : ∀ b j, ix_r h' b j = ix_r h b j := fun b => (htg b).2.2
  subst hp
  refine cRel_rc I C hv hop hh hn ⟨by rw [(htg _).1]; exact a8, by rw [(htg _).1]; exact a2⟩ (fun k hk => F0 k (fun z => hk (by revert z; simp only [List.mem_cons, List.not_mem_nil, or_false]; omega))) (fun j _ => ⟨by rw [e23], by rw [F0 24 (by decide)]⟩) F2 F3 ?_ (by rw [e23]; exact opR_ne hop) (cRw_fr C.rw F0 (by decide))
  exact ⟨a1, by rw [(htg _).1]; exact a2, by rw [r]; exact a3, by rw [r]; exact a4, by rw [r]; exact a5, by rw [i3.1, F0 0 (by decide)]; exact a6, by rw [r]; exact a7, by rw [(htg _).1]; exact a8, by rw [(htg _).2.1]; exact a9, hb, by rw [i3.2.2, F0 24 (by decide)]; exact a11, fun z => absurd (by unfold opR; rw [e23]; exact hop) z, fun _ => by rw [i3.2.1]; exact a13 hop, fun z => by rw [e23, ho] at z; exact absurd z (by decide), fun _ => by rw [es]; exact h5⟩
theorem si_tg {h : ix_H} {a k : Nat} {v : Int32} : ∀ b, ix_tg (ix_si h a k v) b = ix_tg h b ∧ ix_ln (ix_si h a k v) b = ix_ln h b ∧ ∀ j, ix_r (ix_si h a k v) b j = ix_r h b j := fun _ => ⟨rfl, rfl, fun _ => rfl⟩
/-- a unit has come: the tick is noted (the class notes it only where it waits for END) -/
theorem H_got {v : Int32} (I : mInv S) (C : cRel h x S T A R U D Lo Lr) (hv : vT S t) (ho : S 23 t = nI 5) (hp : p = sP S t) : cRel (ix_si h (R t) 9 (if S 37 p = 0 then v else ix_i h (R t) 9)) x (mset S 31 p v) T A R U D Lo Lr := by
  have e : ∀ k, k ≠ 31 → mset S 31 p v k = S k := fun k hk => mset_kk hk
  have i : ∀ k, k ≠ 9 → ix_i (ix_si h (R t) 9 (if S 37 p = 0 then v else ix_i h (R t) 9)) (R t) k = ix_i h (R t) k := fun k hk => by rw [ix_i_si, if_neg (fun z => hk z.2)]
  have ib : ∀ k, ix_i (ix_si h (R t) 9 (if S 37 p = 0 then v else ix_i h (R t) 9)) (R t + 1) k = ix_i h (R t + 1) k := fun k => by rw [ix_i_si, if_neg (by omega)]
  have c := C.rv hv (Or.inl ho)
  have R5 := c.2.2.2.2.2.2.2.2.2.2.2.2.2.2 ho
  rw [← hp] at R5
  obtain ⟨o1, o2, o3, o4, o5, o6, o7, o8⟩ := R5
  refine H_5 I C hv ho hp (fun b h1 _ => (sw.rfl.si).1 b h1) rfl si_tg ⟨i 3 (by decide), i 12 (by decide), i 13 (by decide)⟩ (fun k hk => by rw [ib]; exact c.2.2.2.2.2.2.2.2.2.1 k hk) (fun k hk => e k (fun z => hk (by rw [z]; decide))) (fun k _ _ j hj => ?_) (fun k hk j _ => by rw [e k (by omega)]) ?_
  · by_cases q : k = 31
    · subst q; exact mset_j rfl hj
    · rw [e k q]
  · refine ⟨(i 11 (by decide)).trans o1, by rw [i 5 (by decide), e 36 (by decide)]; exact o2, fun q hq => by rw [i 6 (by decide), e 39 (by decide)]; exact o3 q hq, by rw [i 7 (by decide), e 37 (by decide), e 27 (by decide)]; exact o4, fun q => by rw [e 37 (by decide)] at q; rw [i 8 (by decide), e 28 (by decide)]; exact o5 q, ?_, by rw [i 10 (by decide), e 29 (by decide)]; exact o7, fun k hk => ?_⟩
    · rw [ix_i_si, if_pos ⟨rfl, rfl⟩, e 37 (by decide), mset_s, e 30 (by decide)]
      split
      · rfl
      · rename_i q
        rw [o6, if_neg q]
    · rw [ib, o8 k hk]
      exact (mB_o (fun j => by rw [e 38 (by decide)]) (fun j => by rw [e 39 (by decide)])).symm
/-- METADATA -/
theorem H_meta (I : mInv S) (C : cRel h x S T A R U D Lo Lr) (hv : vT S t) (ho : S 23 t = nI 5) (hp : p = sP S t) : cRel (ix_si h (R t) 5 1) x (if S 36 p = 0 then mK1 S p else S) T A R U D Lo Lr := by
  have c := C.rv hv (Or.inl ho)
  have R5 := c.2.2.2.2.2.2.2.2.2.2.2.2.2.2 ho
  have b36 := ((I.R hv).2.2 (Or.inl ho)).2.2.2.2.1
  rw [← hp] at R5 b36
  obtain ⟨o1, o2, o3, o4, o5, o6, o7, o8⟩ := R5
  have i : ∀ k, k ≠ 5 → ix_i (ix_si h (R t) 5 1) (R t) k = ix_i h (R t) k := fun k hk => by rw [ix_i_si, if_neg (fun z => hk z.2)]
  have ib : ∀ k, ix_i (ix_si h (R t) 5 1) (R t + 1) k = ix_i h (R t + 1) k := fun k => by rw [ix_i_si, if_neg (by omega)]
  have L : ∀ k, k ∉ [32, 33, 34, 36] → (if S 36 p = 0 then mK1 S p else S) k = S k := fun k hk => by
    split
    · exact mK1_L k hk
    · rfl
  have r36 : (if S 36 p = 0 then mK1 S p else S) 36 p = 1 := by
    split
    · unfold mK1; rw [mset_k (by decide), mset_k (by decide), mset_k (by decide), mset_s]; rfl
    · rename_i q
      obtain ⟨n, n1, n2, n3⟩ := b36
      have : n ≠ 0 := fun z => q (by rw [n3, z]; rfl)
      rw [n3, show n = 1 from by omega]; rfl
  refine H_5 I C hv ho hp (fun b h1 _ => (sw.rfl.si).1 b h1) rfl si_tg ⟨i 3 (by decide), i 12 (by decide), i 13 (by decide)⟩ (fun k hk => by rw [ib]; exact c.2.2.2.2.2.2.2.2.2.1 k hk) (fun k hk => L k (fun z => hk (by revert z; simp only [List.mem_cons, List.not_mem_nil, or_false]; omega))) (fun k h1 h2 j hj => ?_) (fun k hk j _ => by rw [L k (by rcases hk with w | w <;> subst w <;> decide)]) ?_
  · split
    · by_cases q : k ∈ [32, 33, 34, 36]
      · have e : ∀ (S : MS) (kk : Nat) (v : Int32), kk ∈ [32, 33, 34, 36] → mset S kk p v k j = S k j := fun S kk v hkk => by
          by_cases w : k = kk
          · subst w; exact mset_j ((by decide : ∀ z ∈ [32, 33, 34, 36], mIs z = true) k hkk) hj
          · exact mset_k w
        unfold mK1
        rw [e _ 34 _ (by decide), e _ 33 _ (by decide), e _ 32 _ (by decide), e _ 36 _ (by decide)]
      · rw [mK1_L k q]
    · rfl
  · refine ⟨(i 11 (by decide)).trans o1, by rw [ix_i_si, if_pos ⟨rfl, rfl⟩, r36], fun q hq => by rw [i 6 (by decide), L 39 (by decide)]; exact o3 q hq, by rw [i 7 (by decide), L 37 (by decide), L 27 (by decide)]; exact o4, fun q => by rw [L 37 (by decide)] at q; rw [i 8 (by decide), L 28 (by decide)]; exact o5 q, by rw [i 9 (by decide), L 37 (by decide), L 31 (by decide), L 30 (by decide)]; exact o6, by rw [i 10 (by decide), L 29 (by decide)]; exact o7, fun k hk => ?_⟩
    rw [ib, o8 k hk]
    exact (mB_o (fun j => by rw [L 38 (by decide)]) (fun j => by rw [L 39 (by decide)])).symm
/-- END, the first one -/
theorem H_end (I : mInv S) (C : cRel h x S T A R U D Lo Lr) (hv : vT S t) (ho : S 23 t = nI 5) (hp : p = sP S t) : cRel (ix_si (ix_si (ix_si h (R t) 7 (S 46 3)) (R t) 8 (S 46 4)) (R t) 9 (S 1 0)) x (mE1 S p) T A R U D Lo Lr := by
  have c := C.rv hv (Or.inl ho)
  have R5 := c.2.2.2.2.2.2.2.2.2.2.2.2.2.2 ho
  rw [← hp] at R5
  obtain ⟨o1, o2, o3, o4, o5, o6, o7, o8⟩ := R5
  have i : ∀ k, k ≠ 7 → k ≠ 8 → k ≠ 9 → ix_i (ix_si (ix_si (ix_si h (R t) 7 (S 46 3)) (R t) 8 (S 46 4)) (R t) 9 (S 1 0)) (R t) k = ix_i h (R t) k := fun k h1 h2 h3 => by rw [ix_i_si, if_neg (fun z => h3 z.2), ix_i_si, if_neg (fun z => h2 z.2), ix_i_si, if_neg (fun z => h1 z.2)]
  have ib : ∀ k, ix_i (ix_si (ix_si (ix_si h (R t) 7 (S 46 3)) (R t) 8 (S 46 4)) (R t) 9 (S 1 0)) (R t + 1) k = ix_i h (R t + 1) k := fun k => by rw [ix_i_si, if_neg (by omega), ix_i_si, if_neg (by omega), ix_i_si, if_neg (by omega)]
  have i7 : ix_i (ix_si (ix_si (ix_si h (R t) 7 (S 46 3)) (R t) 8 (S 46 4)) (R t) 9 (S 1 0)) (R t) 7 = S 46 3 := by rw [ix_i_si, if_neg (by omega), ix_i_si, if_neg (by omega), ix_i_si, if_pos ⟨rfl, rfl⟩]
  have i8 : ix_i (ix_si (ix_si (ix_si h (R t) 7 (S 46 3)) (R t) 8 (S 46 4)) (R t) 9 (S 1 0)) (R t) 8 = S 46 4 := by rw [ix_i_si, if_neg (by omega), ix_i_si, if_pos ⟨rfl, rfl⟩]
  have i9 : ix_i (ix_si (ix_si (ix_si h (R t) 7 (S 46 3)) (R t) 8 (S 46 4)) (R t) 9 (S 1 0)) (R t) 9 = S 1 0 := by rw [ix_i_si, if_pos ⟨rfl, rfl⟩]
  have L := mE1_L (S := S) (p := p)
  have e37 : mE1 S p 37 p = nI 1 := by unfold mE1; rw [mset_k (by decide), mset_k (by decide), mset_k (by decide), mset_s]
  have e27 : mE1 S p 27 p = S 46 3 := by unfold mE1; rw [mset_k (by decide), mset_k (by decide), mset_s]
  have e28 : mE1 S p 28 p = S 46 4 := by unfold mE1; rw [mset_k (by decide), mset_s]
  have e30 : mE1 S p 30 p = S 1 0 := by unfold mE1; rw [mset_s]
  refine H_5 I C hv ho hp (fun b h1 _ => (sw.rfl.si.si.si).1 b h1) rfl (fun b => ⟨rfl, rfl, fun _ => rfl⟩) ⟨i 3 (by decide) (by decide) (by decide), i 12 (by decide) (by decide) (by decide), i 13 (by decide) (by decide) (by decide)⟩ (fun k hk => by rw [ib]; exact c.2.2.2.2.2.2.2.2.2.1 k hk) (fun k hk => L k (fun z => hk (by revert z; simp only [List.mem_cons, List.not_mem_nil, or_false]; omega))) (fun k h1 h2 j hj => ?_) (fun k hk j _ => by rw [L k (by rcases hk with w | w <;> subst w <;> decide)]) ?_
  · by_cases q : k ∈ [27, 28, 30, 37]
    · have e : ∀ (S : MS) (kk : Nat) (v : Int32), kk ∈ [27, 28, 30, 37] → mset S kk p v k j = S k j := fun S kk v hkk => by
        by_cases w : k = kk
        · subst w; exact mset_j ((by decide : ∀ z ∈ [27, 28, 30, 37], mIs z = true) k hkk) hj
        · exact mset_k w
      unfold mE1
      rw [e _ 30 _ (by decide), e _ 28 _ (by decide), e _ 27 _ (by decide), e _ 37 _ (by decide)]
    · rw [L k q]
  · refine ⟨(i 11 (by decide) (by decide) (by decide)).trans o1, by rw [i 5 (by decide) (by decide) (by decide), L 36 (by decide)]; exact o2, fun q hq => by rw [i 6 (by decide) (by decide) (by decide), L 39 (by decide)]; exact o3 q hq, by rw [i7, e37, if_neg (by decide), e27], fun _ => by rw [i8, e28], by rw [i9, e37, if_neg (by decide), e30], by rw [i 10 (by decide) (by decide) (by decide), L 29 (by decide)]; exact o7, fun k hk => ?_⟩
    rw [ib, o8 k hk]
    exact (mB_o (fun j => by rw [L 38 (by decide)]) (fun j => by rw [L 39 (by decide)])).symm
end CRg
