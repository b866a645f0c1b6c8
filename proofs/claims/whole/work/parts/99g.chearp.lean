/-! ===== a unit comes to its sender ===== -/
/-- the unit that came -/
def cUa (h : ix_H) (x : Nat) (S : MS) (tx v : Nat) : Prop := x + 30 ≤ v ∧ ix_tg h v = 8 ∧ ix_r h v 0 = some tx ∧ ix_i h v 1 = S 46 0 ∧ ix_i h v 2 = S 46 1 ∧ ix_i h v 3 = (if S 46 0 = nI 6 then S 46 4 + nI 8 * S 46 3 else S 46 3) ∧ (S 46 0 = nI 2 → ix_i h v 4 = S 46 4 ∧ ∀ q, q < (S 46 4).toNatClampNeg → lB (ix_i h v 5) q = hB (S 46 5) q) ∧ (S 46 0 = nI 3 → ix_i h v 5 = S 46 4) ∧ (S 46 0 = nI 6 → ∀ q, q < 32 → (rb (ix_i h v 5) q ↔ ∃ i, i < (S 46 4).toNatClampNeg ∧ (S 46 (5 + 2 * i)).toNatClampNeg ≤ q ∧ q ≤ (S 46 (6 + 2 * i)).toNatClampNeg))
theorem cUa_c {h h' : ix_H} {x tx v : Nat} {S S' : MS} (a : cUa h x S tx v) (c : ceq h h' v) (e : S' 46 = S 46) : cUa h' x S' tx v := by
  unfold cUa at a ⊢
  rw [e, c.1, c.2.2.2, c.2.2.1, c.2.2.1, c.2.2.1, c.2.2.1, c.2.2.1]
  exact a
section CHe
variable {h h' : ix_H} {x : Nat} {S S' : MS} {T A R U D : Nat → Nat} {Lo Lr : Nat → List Nat} {t : Nat}
/-- an open sender's numbers change -/
theorem W_up {L : List Nat} (I : mInv S) (C : cRel h x S T A R U D Lo Lr) (hv : vT S t) (ho : S 13 t = nI 5) (W : sw (A t) h h') (kp : kpS h h' (A t)) (F : ∀ k, k ∉ L → S' k = S k) (dL : ∀ k ∈ L, k ∈ [14, 15, 16, 17, 18, 19, 20, 21, 22]) (F1 : ∀ k ∈ L, ∀ j, j ≠ t → S' k j = S k j) (so : cSo h' S' (A t) t) : cRel h' x S' T A R U D Lo Lr := by
  have n1 : ∀ k, k ∉ [14, 15, 16, 17, 18, 19, 20, 21, 22] → S' k = S k := fun k hk => F k (fun z => hk (dL k z))
  refine cRel_sn I C hv W.1 W.2 (fun k hk => n1 k (fun z => hk (by revert z; simp only [List.mem_cons, List.not_mem_nil, or_false]; omega))) (fun k _ _ j hj => ?_) (cSn_mk (C.tx hv).2.1 kp (by rw [n1 0 (by decide)]) (fun _ => so) (fun z => absurd (by rw [n1 13 (by decide)]; exact ho) z)) (cRw_fr C.rw n1 (by decide))
  by_cases q : k ∈ L
  · exact F1 k q j hj
  · rw [F k q]
/-- a closed sender: what it keeps for itself -/
theorem W_cl {k : Nat} {v : Int32} (I : mInv S) (C : cRel h x S T A R U D Lo Lr) (hv : vT S t) (ho : ¬ S 13 t = nI 5) (hk : k ≠ 3 ∧ k ≠ 15) : cRel (ix_si h (A t) k v) x S T A R U D Lo Lr := by
  refine cRel_sn I C hv (sw.rfl.si).1 rfl (fun _ _ => rfl) (fun _ _ _ _ _ => rfl) (cSn_mk (C.tx hv).2.1 ⟨rfl, fun _ => rfl, by rw [ix_i_si, if_neg (fun z => hk.1 z.2.symm)]⟩ rfl (fun z => absurd z ho) (fun _ => ?_)) C.rw
  rw [ix_i_si, if_neg (fun z => hk.2 z.2.symm)]
  exact (C.tx hv).2.1.2.2.2.2.2.2.2 ho
/-- it is closed -/
theorem W_close {k0 c : Nat} {v : Int32} (I : mInv S) (C : cRel h x S T A R U D Lo Lr) (hv : vT S t) (hH : mHas 40 42 S (t / 320) k0 c t) (hv4 : bw v 1 4) : cRel (ix_si h (A t) 15 v) x (mRm 40 42 (mset S 13 t v) (t / 320) k0 c (c - 1)) T A R U D Lo Lr := by
  have v5 : ¬ v = nI 5 := by
    obtain ⟨m, m1, m2, m3⟩ := hv4
    rw [m3, nI_eq (by omega) (by omega)]
    omega
  have rM : ∀ k, k ∉ [13, 40, 42] → mRm 40 42 (mset S 13 t v) (t / 320) k0 c (c - 1) k = S k := fun k hk => by
    simp only [List.mem_cons, List.not_mem_nil, or_false, not_or] at hk
    rw [mRm_L k (by simp only [List.mem_cons, List.not_mem_nil, or_false, not_or]; exact hk.2), mset_kk hk.1]
  have r13 : mRm 40 42 (mset S 13 t v) (t / 320) k0 c (c - 1) 13 t = v := by rw [mRm_o (by decide) (by decide), mset_s]
  refine cRel_sn I C hv (sw.rfl.si).1 rfl (fun k hk => rM k (fun z => hk (by revert z; simp only [List.mem_cons, List.not_mem_nil, or_false]; omega))) (fun k h1 h2 j hj => ?_) (cSn_mk (C.tx hv).2.1 ⟨rfl, fun _ => rfl, by rw [ix_i_si, if_neg (fun z => absurd z.2 (by decide))]⟩ (by rw [rM 0 (by decide)]) (fun z => absurd (r13.symm.trans z) v5) (fun _ => ?_)) (cRw_clS (k0 := k0) (c := c) (t := t) I C.rw hv hH (fun k hk => ?_) (fun j hj => ?_) (by rw [r13]; exact v5) (fun j => ?_) (fun j => ?_))
  · rw [mRm_o (by omega) (by omega)]
    by_cases q : k = 13
    · subst q; rw [mset_j rfl hj]
    · rw [mset_k q]
  · rw [r13, ix_i_si, if_pos ⟨rfl, rfl⟩]
  · rw [rM k ((by decide : ∀ k ∈ [7, 23, 41, 43], k ∉ [13, 40, 42]) k hk)]
  · rw [mRm_o (by decide) (by decide), mset_j rfl hj]
  · unfold mRm
    split
    · rename_i q; rw [if_pos q.2, mset_k (by decide)]
    · rename_i q; rw [if_neg (fun z => q ⟨rfl, z⟩), if_neg (by omega), mset_k (by decide)]
  · unfold mRm
    rw [if_neg (by omega)]
    split
    · rename_i q; rw [if_pos q.2]
    · rename_i q; rw [if_neg (fun z => q ⟨rfl, z⟩), mset_k (by decide)]
/-- its END is acknowledged -/
theorem W_ack (I : mInv S) (C : cRel h x S T A R U D Lo Lr) (hv : vT S t) (ho : S 13 t = nI 5) : cRel (ix_si h (A t) 8 (nI 1)) x (mset S 20 t (nI 1)) T A R U D Lo Lr := by
  have o := C.so hv ho
  have e : ∀ k, k ≠ 20 → mset S 20 t (nI 1) k = S k := fun k hk => mset_kk hk
  have P : iOf h (ix_si h (A t) 8 (nI 1)) (A t) [(8, nI 1)] := (iOf.nil (fun _ => rfl)).si
  have W : sw (A t) h (ix_si h (A t) 8 (nI 1)) := sw.rfl.si
  have K : kpS h (ix_si h (A t) 8 (nI 1)) (A t) := (kpS.of ceq.rfl).si (by decide)
  generalize ix_si h (A t) 8 (nI 1) = h' at *
  refine W_up (L := [20]) I C hv ho W K (fun k hk => e k (fun z => hk (by rw [z]; decide))) (by decide) (fun k hk j hj => ?_) ?_
  · rw [List.mem_singleton.mp hk]; exact mset_j rfl hj
  · obtain ⟨o1, o2, o3, o4, o5, o6, o7, o8, o9, o10, o11, o12⟩ := o
    have en : fN (mset S 20 t (nI 1)) t = fN S t := fN_c mset_L (by decide)
    unfold cSo
    rw [en, e 14 (by decide), e 15 (by decide), e 16 (by decide), e 17 (by decide), e 18 (by decide), e 19 (by decide), e 21 (by decide), e 22 (by decide), mset_s]
    refine ⟨(P 15).trans o1, (P 4).trans o2, (P 5).trans o3, (P 6).trans o4, (P 7).trans o5, (P 8).trans rfl, ?_, fun q hq => ?_, (P 11).trans o9, (P 12).trans o10, fun z => (P 13).trans (o11 z), (P 14).trans o12⟩
    · rw [show ix_i h' (A t) 9 = ix_i h (A t) 9 from (P 9).trans rfl]; exact o7
    · rw [show ix_i h' (A t) 10 = ix_i h (A t) 10 from (P 10).trans rfl]; exact o8 q hq
/-- what it is asked for -/
theorem W_nak {n gc : Nat} {B1 B2 : Nat → Nat} {v9 v10 cn : Int32} (I : mInv S) (C : cRel h x S T A R U D Lo Lr) (hv : vT S t) (ho : S 13 t = nI 5) (hn : n = fN S t) (hn64 : n ≤ 64) (hG : mGaps S gc B1 B2) (h3 : bw (S 46 3) 0 1) (hc : ∀ q, q < 32 → (rb cn q ↔ ∃ i, i < gc ∧ B1 i ≤ q ∧ q ≤ B2 i)) (hv9 : v9 = ix_i h (A t) 9 ||| bI (¬ S 46 4 + nI 8 * S 46 3 < nI 8)) (hv10 : v10 = ix_i h (A t) 10 ||| (cn &&& ((nI 1 <<< (nI ((n + 3) / 4) &&& 31)) - 1))) : cRel (ix_si (ix_si h (A t) 9 v9) (A t) 10 v10) x (mAsked S t n gc B1 B2) T A R U D Lo Lr := by
  have o := C.so hv ho
  have e : ∀ k, k ≠ 19 → mAsked S t n gc B1 B2 k = S k := fun k hk => mset_kk hk
  have P : iOf h (ix_si (ix_si h (A t) 9 v9) (A t) 10 v10) (A t) [(10, v10), (9, v9)] := (iOf.nil (fun _ => rfl)).si.si
  have W : sw (A t) h (ix_si (ix_si h (A t) 9 v9) (A t) 10 v10) := sw.rfl.si.si
  have K : kpS h (ix_si (ix_si h (A t) 9 v9) (A t) 10 v10) (A t) := ((kpS.of ceq.rfl).si (by decide)).si (by decide)
  generalize ix_si (ix_si h (A t) 9 v9) (A t) 10 v10 = h' at *
  have b3 : S 46 3 = 0 ∨ S 46 3 = 1 := by
    obtain ⟨m, m1, m2, m3⟩ := h3
    rcases (by omega : m = 0 ∨ m = 1) with w | w
    · left; rw [m3, w]; rfl
    · right; rw [m3, w]; rfl
  have d8 : ¬ S 46 4 + nI 8 * S 46 3 < nI 8 ↔ S 46 3 = 1 := by
    rw [hG.2.1]
    have g3 := hG.1
    rcases b3 with w | w
    · rw [w, show nI 8 * 0 = nI 0 from by decide, nI_add, nI_ltI (by omega) (by omega)]
      exact ⟨fun z => absurd (show gc + 0 < 8 by omega) z, fun z => absurd z (by decide)⟩
    · rw [w, show nI 8 * 1 = nI 8 from by decide, nI_add, nI_ltI (by omega) (by omega)]
      exact ⟨fun _ => rfl, fun _ => by omega⟩
  have gb : ∀ i, i < gc → B1 i < 16 ∧ B2 i < 16 ∧ B1 i ≤ B2 i := fun i hi => ⟨(hG.2.2 i hi).1, (hG.2.2 i hi).2.1, (hG.2.2 i hi).2.2.1⟩
  have r19 : ∀ q, q < 32 → (rb (mAsked S t n gc B1 B2 19 t) q ↔ (rb (S 19 t) q ∨ (S 46 3 = 1 ∧ q = 16)) ∨ ∃ i, i < gc ∧ B1 i ≤ q ∧ q ≤ B2 i ∧ q < (n + 3) / 4) := fun q hq => by
    unfold mAsked
    rw [mset_s, oG_b hq (by omega) gc gb]
    by_cases w : S 46 3 = 1
    · rw [if_pos w, rb_or hq, rb_lit.2 q hq]
      simp only [w, true_and]
    · rw [if_neg w]
      simp only [w, false_and, or_false]
  refine W_up (L := [19]) I C hv ho W K (fun k hk => e k (fun z => hk (by rw [z]; decide))) (by decide) (fun k hk j hj => ?_) ?_
  · rw [List.mem_singleton.mp hk]; exact mset_j rfl hj
  · obtain ⟨o1, o2, o3, o4, o5, o6, o7, o8, o9, o10, o11, o12⟩ := o
    have en : fN (mAsked S t n gc B1 B2) t = fN S t := fN_c (L := [19]) (fun k hk => e k (fun z => hk (by rw [z]; decide))) (by decide)
    unfold cSo
    rw [en, e 14 (by decide), e 15 (by decide), e 16 (by decide), e 17 (by decide), e 18 (by decide), e 20 (by decide), e 21 (by decide), e 22 (by decide)]
    refine ⟨(P 15).trans o1, (P 4).trans o2, (P 5).trans o3, (P 6).trans o4, (P 7).trans o5, (P 8).trans o6, ?_, fun q hq => ?_, (P 11).trans o9, (P 12).trans o10, fun z => (P 13).trans (o11 z), (P 14).trans o12⟩
    · rw [show ix_i h' (A t) 9 = v9 from (P 9).trans rfl, hv9, r19 16 (by decide)]
      have no : ¬ ∃ i, i < gc ∧ B1 i ≤ 16 ∧ 16 ≤ B2 i ∧ 16 < (n + 3) / 4 := fun ⟨i, w1, w2, w3, w4⟩ => by have := (gb i w1).2.1; omega
      by_cases w : S 46 3 = 1
      · rw [bI_t (d8.mpr w)]
        right
        refine ⟨?_, Or.inl (Or.inr ⟨w, rfl⟩)⟩
        rcases o7 with y | y
        · rw [y.1]; decide
        · rw [y.1]; decide
      · rw [bI_f (fun z => w (d8.mp z))]
        rcases o7 with y | y
        · left
          refine ⟨by rw [y.1]; decide, fun z => ?_⟩
          rcases z with (z | z) | z
          · exact y.2 z
          · exact w z.1
          · exact no z
        · right
          exact ⟨by rw [y.1]; decide, Or.inl (Or.inl y.2)⟩
    · rw [show ix_i h' (A t) 10 = v10 from (P 10).trans rfl, hv10, r19 q hq, rb_or hq, rb_and hq, rb_msk _ (by omega) q hq, o8 q hq, hc q hq]
      constructor
      · rintro (⟨y1, y2⟩ | ⟨⟨i, w1, w2, w3⟩, y2⟩)
        · exact ⟨Or.inl (Or.inl y1), y2⟩
        · exact ⟨Or.inr ⟨i, w1, w2, w3, y2⟩, by omega⟩
      · rintro ⟨(y | y) | ⟨i, w1, w2, w3, w4⟩, y2⟩
        · exact Or.inl ⟨y, y2⟩
        · exact absurd y.2 y2
        · exact Or.inr ⟨⟨i, w1, w2, w3⟩, w4⟩
end CHe
