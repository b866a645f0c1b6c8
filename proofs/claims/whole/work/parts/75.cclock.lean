/-! ===== a sender's step, class beside reference ===== -/
section CR6
variable {h h' : ix_H} {x : Nat} {S : MS} {T A R U D : Nat → Nat} {Lo Lr : Nat → List Nat}
theorem mSendT_v {S : MS} {u : Nat} {kind to t a b c ty : Int32} (hu : u < 24) : mSendT S u kind to t a b c ty 45 (11 * u) = kind ∧ mSendT S u kind to t a b c ty 45 (11 * u + 1) = to ∧ mSendT S u kind to t a b c ty 45 (11 * u + 3) = a ∧ mSendT S u kind to t a b c ty 45 (11 * u + 4) = b ∧ mSendT S u kind to t a b c ty 45 (11 * u + 5) = c := ⟨mSendT_r (i := 0) hu (by decide), mSendT_r (i := 1) hu (by decide), mSendT_r (i := 3) hu (by decide), mSendT_r (i := 4) hu (by decide), mSendT_r (i := 5) hu (by decide)⟩
theorem uOK_meta {u : Nat} {to t a b c ty : Int32} (hu : u < 24) : uOK (mSendT S u (nI 1) to t a b c ty) u (nI 1) to a 0 0 := by
  obtain ⟨e0, e1, e3, e4, e5⟩ := mSendT_v (S := S) (kind := nI 1) (to := to) (t := t) (a := a) (b := b) (c := c) (ty := ty) hu
  unfold uOK
  rw [e0, e1, e3]
  exact ⟨rfl, rfl, by rw [if_neg (by decide)], fun z => absurd z (by decide), fun z => absurd z (by decide), fun z => absurd z (by decide)⟩
theorem uOK_data {u : Nat} {to t a b c ty v : Int32} (hu : u < 24) (hv : ∀ q, q < b.toNatClampNeg → lB v q = hB c q) : uOK (mSendT S u (nI 2) to t a b c ty) u (nI 2) to a b v := by
  obtain ⟨e0, e1, e3, e4, e5⟩ := mSendT_v (S := S) (kind := nI 2) (to := to) (t := t) (a := a) (b := b) (c := c) (ty := ty) hu
  unfold uOK
  rw [e0, e1, e3, e4, e5]
  exact ⟨rfl, rfl, by rw [if_neg (by decide)], fun _ => ⟨rfl, hv⟩, fun z => absurd z (by decide), fun z => absurd z (by decide)⟩
theorem uOK_end {u : Nat} {to t a b c ty : Int32} (hu : u < 24) : uOK (mSendT S u (nI 3) to t a b c ty) u (nI 3) to a 0 b := by
  obtain ⟨e0, e1, e3, e4, e5⟩ := mSendT_v (S := S) (kind := nI 3) (to := to) (t := t) (a := a) (b := b) (c := c) (ty := ty) hu
  unfold uOK
  rw [e0, e1, e3, e4]
  exact ⟨rfl, rfl, by rw [if_neg (by decide)], fun z => absurd z (by decide), fun _ => rfl, fun z => absurd z (by decide)⟩
/-- what a sender's walk has at hand -/
theorem cRel.so (C : cRel h x S T A R U D Lo Lr) {t : Nat} (hv : vT S t) (ho : S 13 t = nI 5) : cSo h S (A t) t := (C.tx hv).2.1.2.2.2.2.2.2.1 ho
/-- the numbers of a sender's cell: all but those that are named -/
def iOf (h h' : ix_H) (s : Nat) (L : List (Nat × Int32)) : Prop := ∀ k, ix_i h' s k = ((L.find? (fun q => q.1 == k)).map (fun q => q.2)).getD (ix_i h s k)
theorem cRel.clk (C : cRel h x S T A R U D Lo Lr) (I : mInv S) {t : Nat} (hv : vT S t) (ho : S 13 t = nI 5) : cRel (ix_si h (A t) 14 (S 16 t)) x (mset S 18 t (S 16 t)) T A R U D Lo Lr := by
  have o := C.so hv ho
  have e : ∀ k, k ≠ 18 → mset S 18 t (S 16 t) k = S k := fun k hk => mset_kk hk
  refine cRel_sn I C hv (sw.rfl.si).1 rfl (fun k hk => e k (fun z => hk (by rw [z]; decide))) (fun k _ _ j hj => ?_) (cSn_mk (C.tx hv).2.1 ⟨rfl, fun _ => rfl, by rw [ix_i_si, if_neg (fun z => absurd z.2 (by decide))]⟩ (by rw [e 0 (by decide)]) (fun _ => ?_) (fun z => absurd (by rw [e 13 (by decide)]; exact ho) z)) (cRw_fr C.rw (L := [18]) mset_L (by decide))
  · by_cases q : k = 18
    · subst q; exact mset_j rfl hj
    · rw [e k q]
  · obtain ⟨o1, o2, o3, o4, o5, o6, o7, o8, o9, o10, o11, o12⟩ := o
    have en : fN (mset S 18 t (S 16 t)) t = fN S t := fN_c mset_L (by decide)
    unfold cSo
    simp only [ix_i_si, true_and, if_neg (show ¬ (15 : Nat) = 14 by decide), if_neg (show ¬ (4 : Nat) = 14 by decide), if_neg (show ¬ (5 : Nat) = 14 by decide), if_neg (show ¬ (6 : Nat) = 14 by decide), if_neg (show ¬ (7 : Nat) = 14 by decide), if_neg (show ¬ (8 : Nat) = 14 by decide), if_neg (show ¬ (9 : Nat) = 14 by decide), if_neg (show ¬ (10 : Nat) = 14 by decide), if_neg (show ¬ (11 : Nat) = 14 by decide), if_neg (show ¬ (12 : Nat) = 14 by decide), if_neg (show ¬ (13 : Nat) = 14 by decide), if_true, en, e 14 (by decide), e 15 (by decide), e 16 (by decide), e 17 (by decide), e 19 (by decide), e 20 (by decide), e 21 (by decide), e 22 (by decide), mset_s]
    exact ⟨o1, o2, o3, o4, o5, o6, o7, o8, o9, o10, o11, trivial⟩
end CR6
