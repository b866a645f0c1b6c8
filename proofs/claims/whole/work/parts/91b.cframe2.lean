/-! ===== what of the heap a method of the class leaves alone ===== -/
/-- the object's own cell, the reference's cells, the law's row of longs -/
def mCl (h : ix_H) (x b : Nat) : Prop := ix_tg h b = 1 ∨ ix_tg h b = 9 ∨ ix_tg h b = 101 ∨ ix_tg h b = 103 ∨ (ix_tg h b = 100 ∧ x + 30 ≤ b) ∨ 200 ≤ ix_tg h b
def cFm (x : Nat) (h h' : ix_H) : Prop := ix_nx h ≤ ix_nx h' ∧ ∀ b, b < ix_nx h → mCl h x b → ceq h h' b ∧ ∀ j, ix_l h' b j = ix_l h b j
/-- .. and how many cells and places it takes -/
def cPo (x : Nat) (h h' : ix_H) (a b : Nat) : Prop := cFm x h h' ∧ ix_nx h' ≤ ix_nx h + a ∧ ix_us h ≤ ix_us h' ∧ ix_us h' ≤ ix_us h + b
theorem cFm.rfl {x : Nat} {h : ix_H} : cFm x h h := ⟨Nat.le_refl _, fun _ _ _ => ⟨ceq.rfl, fun _ => Eq.refl _⟩⟩
theorem cPo.rfl {x : Nat} {h : ix_H} : cPo x h h 0 0 := ⟨cFm.rfl, Nat.le_refl _, Nat.le_refl _, Nat.le_refl _⟩
theorem cFm.tr {x : Nat} {h h1 h2 : ix_H} (a : cFm x h h1) (b : cFm x h1 h2) : cFm x h h2 := by
  refine ⟨Nat.le_trans a.1 b.1, fun q hq hm => ?_⟩
  obtain ⟨c1, c2⟩ := a.2 q hq hm
  have hm' : mCl h1 x q := by unfold mCl at hm ⊢; rw [c1.1]; exact hm
  obtain ⟨d1, d2⟩ := b.2 q (Nat.lt_of_lt_of_le hq a.1) hm'
  exact ⟨c1.tr d1, fun j => (d2 j).trans (c2 j)⟩
theorem cPo.tr {x a b a' b' : Nat} {h h1 h2 : ix_H} (p : cPo x h h1 a b) (q : cPo x h1 h2 a' b') : cPo x h h2 (a + a') (b + b') := ⟨p.1.tr q.1, by have := p.2.1; have := q.2.1; omega, Nat.le_trans p.2.2.1 q.2.2.1, by have := p.2.2.2; have := q.2.2.2; omega⟩
theorem cPo.m {x a b a' b' : Nat} {h h1 : ix_H} (p : cPo x h h1 a b) (ha : a ≤ a') (hb : b ≤ b') : cPo x h h1 a' b' := ⟨p.1, by have := p.2.1; omega, p.2.2.1, by have := p.2.2.2; omega⟩
/-- a cell of the class -/
def cCl (h : ix_H) (x b : Nat) : Prop := ¬ mCl h x b
theorem cCl_of {h : ix_H} {x b k : Nat} (ht : ix_tg h b = k) (hk : k ≠ 1 ∧ k ≠ 9 ∧ k ≠ 100 ∧ k ≠ 101 ∧ k ≠ 103 ∧ k < 200) : cCl h x b := by
  unfold cCl mCl
  rw [ht]
  omega
theorem cCl_lo {h : ix_H} {x b k : Nat} (ht : ix_tg h b = k) (hk : k ≠ 1 ∧ k ≠ 9 ∧ k ≠ 101 ∧ k ≠ 103 ∧ k < 200) (hb : b < x + 30) : cCl h x b := by
  unfold cCl mCl
  rw [ht]
  omega
theorem cPo.si {x s k a b : Nat} {h h1 : ix_H} {v : Int32} (p : cPo x h h1 a b) (hs : cCl h1 x s) : cPo x h (ix_si h1 s k v) a b := by
  refine ⟨p.1.tr ⟨Nat.le_refl _, fun q _ hm => ⟨(sw.rfl.si).1 q (fun z => hs (by rw [← z]; exact hm)), fun _ => Eq.refl _⟩⟩, p.2.1, p.2.2.1, p.2.2.2⟩
theorem cPo.sr {x s k a b : Nat} {h h1 : ix_H} {v : Option Nat} (p : cPo x h h1 a b) (hs : cCl h1 x s) : cPo x h (ix_sr h1 s k v) a b := by
  refine ⟨p.1.tr ⟨Nat.le_refl _, fun q _ hm => ?_⟩, p.2.1, p.2.2.1, p.2.2.2⟩
  have : q ≠ s := fun z => hs (by rw [← z]; exact hm)
  exact ⟨⟨Eq.refl _, Eq.refl _, fun _ => Eq.refl _, fun j => by rw [ix_r_sr, if_neg (fun z => this z.1)]⟩, fun _ => Eq.refl _⟩
theorem cPo.nw {x a b t n w : Nat} {h h1 : ix_H} (p : cPo x h h1 a b) : cPo x h (ix_nw h1 t n w) (a + 1) (b + w) := by
  refine ⟨p.1.tr ⟨by rw [ix_nx_nw]; omega, fun q hq _ => ?_⟩, by rw [ix_nx_nw]; have := p.2.1; omega, by rw [ix_us_nw]; have := p.2.2.1; omega, by rw [ix_us_nw]; have := p.2.2.2; omega⟩
  have ne : q ≠ ix_nx h1 := by omega
  exact ⟨⟨by rw [ix_tg_nw, if_neg ne], by rw [ix_ln_nw, if_neg ne], fun j => by rw [ix_i_nw, if_neg ne], fun j => by rw [ix_r_nw, if_neg ne]⟩, fun j => by rw [ix_l_nw, if_neg ne]⟩
theorem cPo.out {x a b tx : Nat} {h h1 : ix_H} {w to d l c : Int32} (p : cPo x h h1 a b) (h2 : ix_tg h1 (cLk x) = 2) (h3 : ix_tg h1 (cRo x) = 106) (hx : x + 30 ≤ ix_nx h1) : cPo x h (hOut x h1 tx w to d l c) (a + 1) (b + 6) := by
  have q : cPo x h (hUn h1 tx w to d l c) (a + 1) (b + 6) := by
    have c8 : ∀ h2 : ix_H, ix_tg h2 (ix_nx h1) = 8 → cCl h2 x (ix_nx h1) := fun h2 e => cCl_of e (by decide)
    have t8 : ix_tg (ix_nw h1 8 0 6) (ix_nx h1) = 8 := by rw [ix_tg_nw, if_pos (Eq.refl _)]
    exact (((((p.nw.sr (c8 _ t8)).si (c8 _ t8)).si (c8 _ t8)).si (c8 _ t8)).si (c8 _ t8)).si (c8 _ t8)
  have e2 : ix_tg (hUn h1 tx w to d l c) (cLk x) = 2 := by rw [(hUn_o (by unfold cLk; omega)).1]; exact h2
  have e3 : ix_tg (hUn h1 tx w to d l c) (cRo x) = 106 := by rw [(hUn_o (by unfold cRo; omega)).1]; exact h3
  unfold hOut hSd
  split
  · exact (q.sr (cCl_of e3 (by decide))).si (cCl_of (k := 2) e2 (by decide))
  · exact q
/-! the numbers of a cell, write by write -/
theorem iOf.nil {h h1 : ix_H} {s : Nat} (c : ∀ j, ix_i h1 s j = ix_i h s j) : iOf h h1 s [] := fun k => c k
theorem iOf.si {h h1 : ix_H} {s k : Nat} {v : Int32} {L : List (Nat × Int32)} (p : iOf h h1 s L) : iOf h (ix_si h1 s k v) s ((k, v) :: L) := fun j => by
  rw [ix_i_si]
  by_cases q : j = k
  · subst q
    rw [if_pos ⟨rfl, rfl⟩]
    simp [List.find?]
  · rw [if_neg (fun z => q z.2), p j]
    have : (k == j) = false := by simp; exact fun z => q z.symm
    simp [List.find?, this]
theorem iOf.tr {h h1 h2 : ix_H} {s : Nat} {L : List (Nat × Int32)} (p : iOf h h1 s L) (c : ∀ j, ix_i h2 s j = ix_i h1 s j) : iOf h h2 s L := fun k => (c k).trans (p k)
theorem iOf.e {h h1 : ix_H} {s : Nat} {L L' : List (Nat × Int32)} (p : iOf h h1 s L) (e : ∀ k, ((L.find? (fun q => q.1 == k)).map (fun q => q.2)).getD (ix_i h s k) = ((L'.find? (fun q => q.1 == k)).map (fun q => q.2)).getD (ix_i h s k)) : iOf h h1 s L' := fun k => (p k).trans (e k)
theorem kpS.si {h h1 : ix_H} {s k : Nat} {v : Int32} (p : kpS h h1 s) (hk : k ≠ 3) : kpS h (ix_si h1 s k v) s := ⟨p.1, p.2.1, by rw [ix_i_si, if_neg (fun z => hk z.2.symm)]; exact p.2.2⟩
theorem kpS.of {h h1 : ix_H} {s : Nat} (c : ceq h h1 s) : kpS h h1 s := ⟨c.1, c.2.2.2, c.2.2.1 3⟩
theorem kpS.tr {h h1 h2 : ix_H} {s : Nat} (p : kpS h h1 s) (c : ceq h1 h2 s) : kpS h h2 s := ⟨c.1.trans p.1, fun j => (c.2.2.2 j).trans (p.2.1 j), (c.2.2.1 3).trans p.2.2⟩
theorem iOf_end {h h' : ix_H} {s : Nat} {a b c d e : Int32} (p : iOf h h' s [(5, a), (15, e), (14, d), (13, c), (11, b)]) : iOf h h' s [(5, a), (11, b), (13, c), (14, d), (15, e)] := by
  refine p.e (fun k => ?_)
  by_cases h5 : k = 5
  · subst h5; rfl
  by_cases h11 : k = 11
  · subst h11; rfl
  by_cases h13 : k = 13
  · subst h13; rfl
  by_cases h14 : k = 14
  · subst h14; rfl
  by_cases h15 : k = 15
  · subst h15; rfl
  have e5 : (5 == k) = false := by simp; omega
  have e11 : (11 == k) = false := by simp; omega
  have e13 : (13 == k) = false := by simp; omega
  have e14 : (14 == k) = false := by simp; omega
  have e15 : (15 == k) = false := by simp; omega
  simp [List.find?, e5, e11, e13, e14, e15]
theorem iOf_end0 {h h' : ix_H} {s : Nat} {a b c d e : Int32} (p : iOf h h' s [(5, a), (14, d), (13, c), (11, b)]) (e0 : ix_i h s 15 = e) : iOf h h' s [(5, a), (11, b), (13, c), (14, d), (15, e)] := by
  refine p.e (fun k => ?_)
  by_cases h5 : k = 5
  · subst h5; rfl
  by_cases h11 : k = 11
  · subst h11; rfl
  by_cases h13 : k = 13
  · subst h13; rfl
  by_cases h14 : k = 14
  · subst h14; rfl
  have e5 : (5 == k) = false := by simp; omega
  have e11 : (11 == k) = false := by simp; omega
  have e13 : (13 == k) = false := by simp; omega
  have e14 : (14 == k) = false := by simp; omega
  by_cases h15 : k = 15
  · subst h15
    simp [List.find?, e0]
  have e15 : (15 == k) = false := by simp; omega
  simp [List.find?, e5, e11, e13, e14, e15]
/-- .. where END goes out again: nothing but the ends' numbers -/
theorem iOf_endw {h h' : ix_H} {s : Nat} {a b c d e : Int32} (p : iOf h h' s [(14, d), (13, c), (11, b)]) (e5' : ix_i h s 5 = a) (e0 : ix_i h s 15 = e) : iOf h h' s [(5, a), (11, b), (13, c), (14, d), (15, e)] := by
  refine p.e (fun k => ?_)
  by_cases h11 : k = 11
  · subst h11; rfl
  by_cases h13 : k = 13
  · subst h13; rfl
  by_cases h14 : k = 14
  · subst h14; rfl
  have e11 : (11 == k) = false := by simp; omega
  have e13 : (13 == k) = false := by simp; omega
  have e14 : (14 == k) = false := by simp; omega
  by_cases h5 : k = 5
  · subst h5
    simp [List.find?, e5']
  have e5 : (5 == k) = false := by simp; omega
  by_cases h15 : k = 15
  · subst h15
    simp [List.find?, e0]
  have e15 : (15 == k) = false := by simp; omega
  simp [List.find?, e5, e11, e13, e14, e15]
theorem iOf.swap {h h' : ix_H} {s a b : Nat} {v w : Int32} (hab : a ≠ b) (p : iOf h h' s [(a, v), (b, w)]) : iOf h h' s [(b, w), (a, v)] := by
  refine p.e (fun k => ?_)
  by_cases ha : k = a
  · subst ha
    have : (b == k) = false := by simp; omega
    simp [List.find?, this]
  · have h1 : (a == k) = false := by simp; omega
    by_cases hb : k = b
    · subst hb
      simp [List.find?, h1]
    · have h2 : (b == k) = false := by simp; omega
      simp [List.find?, h1, h2]
theorem rb_tst {v : Int32} {i : Nat} (hi : i < 32) : v &&& (nI 1 <<< (nI i &&& 31)) = 0 ↔ ¬ rb v i := by
  constructor
  · intro z w
    have := (rb_and (x := v) (y := nI 1 <<< (nI i &&& 31)) hi).mpr ⟨w, (rb_bit hi hi).mpr rfl⟩
    rw [z] at this
    exact rb_0 hi this
  · intro z
    refine Classical.byContradiction fun w => ?_
    obtain ⟨q, hq, hr⟩ := rb_ex w
    rw [rb_and hq, rb_bit hi hq] at hr
    obtain ⟨h1, h2⟩ := hr
    subst h2
    exact z h1
