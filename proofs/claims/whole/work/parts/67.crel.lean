/-! ===== the class's objects: where they lie, and what they hold beside the reference's numbers ===== -/
def cS0 (x e : Nat) : Nat := x + 2 + 13 * e
def cSt (x e : Nat) : Nat := x + 3 + 13 * e
def cBs (x e : Nat) : Nat := x + 4 + 13 * e
def cBr (x e f : Nat) : Nat := x + 5 + 13 * e + f
def cSz (x e : Nat) : Nat := x + 11 + 13 * e
def cLs (x e i : Nat) : Nat := x + 12 + 13 * e + i
def cLk (x : Nat) : Nat := x + 28
def cRo (x : Nat) : Nat := x + 29
/-- the same cell in two heaps -/
def ceq (h h' : ix_H) (b : Nat) : Prop := ix_tg h' b = ix_tg h b ∧ ix_ln h' b = ix_ln h b ∧ (∀ j, ix_i h' b j = ix_i h b j) ∧ ∀ j, ix_r h' b j = ix_r h b j
theorem ceq.rfl {h : ix_H} {b : Nat} : ceq h h b := ⟨Eq.refl _, Eq.refl _, fun _ => Eq.refl _, fun _ => Eq.refl _⟩
theorem ceq.tr {h h1 h2 : ix_H} {b : Nat} (a : ceq h h1 b) (c : ceq h1 h2 b) : ceq h h2 b := ⟨c.1.trans a.1, c.2.1.trans a.2.1, fun j => (c.2.2.1 j).trans (a.2.2.1 j), fun j => (c.2.2.2 j).trans (a.2.2.2 j)⟩
/-- what never changes of the object's own cells -/
def cFx1 (h : ix_H) (x e : Nat) : Prop := ix_r h (x + 1) e = some (cS0 x e) ∧ ix_tg h (cS0 x e) = 5 ∧ ix_r h (cS0 x e) 0 = some (cSt x e) ∧ (∀ i, i < 3 → ix_r h (cS0 x e) (i + 1) = some (cLs x e i) ∧ ix_tg h (cLs x e i) = 10) ∧ ix_tg h (cSt x e) = 6 ∧ ix_r h (cSt x e) 0 = some (cBs x e) ∧ ix_r h (cSt x e) 1 = some (cSz x e) ∧ ix_tg h (cBs x e) = 104 ∧ ix_ln h (cBs x e) = 6 ∧ ix_tg h (cSz x e) = 100 ∧ ix_ln h (cSz x e) = 6 ∧ ∀ f, f < 6 → ix_r h (cBs x e) f = some (cBr x e f) ∧ ix_tg h (cBr x e f) = 102 ∧ ix_ln h (cBr x e f) = 64
def cFix (h : ix_H) (x : Nat) : Prop := ix_tg h x = 1 ∧ ix_r h x 1 = some (x + 1) ∧ ix_r h x 2 = some (cLk x) ∧ ix_tg h (x + 1) = 105 ∧ ix_ln h (x + 1) = 2 ∧ ix_tg h (cLk x) = 2 ∧ ix_r h (cLk x) 0 = some (cRo x) ∧ ix_tg h (cRo x) = 106 ∧ ix_ln h (cRo x) = 24 ∧ ∀ e, e < 2 → cFx1 h x e
theorem cFix_fr {h h' : ix_H} {x : Nat} (F : cFix h x) (ht : ∀ b, b < x + 30 → ix_tg h' b = ix_tg h b ∧ ix_ln h' b = ix_ln h b) (hr : ∀ b, b < x + 30 → b ≠ cRo x → (∀ e i, e < 2 → i < 3 → b ≠ cLs x e i) → ∀ j, ix_r h' b j = ix_r h b j) : cFix h' x := by
  obtain ⟨a1, a2, a3, a4, a5, a6, a7, a8, a9, a10⟩ := F
  have r0 : ∀ b, (b = x ∨ b = x + 1 ∨ b = cLk x ∨ ∃ e, e < 2 ∧ (b = cS0 x e ∨ b = cSt x e ∨ b = cBs x e)) → ∀ j, ix_r h' b j = ix_r h b j := by
    intro b hb j
    refine hr b ?_ ?_ ?_ j
    · rcases hb with w | w | w | ⟨e, he, w | w | w⟩ <;> (try simp only [cLk, cS0, cSt, cBs] at w) <;> omega
    · rcases hb with w | w | w | ⟨e, he, w | w | w⟩ <;> (simp only [cLk, cS0, cSt, cBs, cRo] at w ⊢) <;> omega
    · intro e' i he' hi
      rcases hb with w | w | w | ⟨e, he, w | w | w⟩ <;> simp only [cLk, cS0, cSt, cBs, cLs] at w ⊢ <;> omega
  have rk : ∀ b, b < x + 30 → ix_tg h' b = ix_tg h b := fun b hb => (ht b hb).1
  have rl : ∀ b, b < x + 30 → ix_ln h' b = ix_ln h b := fun b hb => (ht b hb).2
  refine ⟨by rw [rk x (by omega)]; exact a1, by rw [r0 x (Or.inl rfl)]; exact a2, by rw [r0 x (Or.inl rfl)]; exact a3, by rw [rk _ (by omega)]; exact a4, by rw [rl _ (by omega)]; exact a5, by rw [rk _ (by unfold cLk; omega)]; exact a6, by rw [r0 _ (Or.inr (Or.inr (Or.inl rfl)))]; exact a7, by rw [rk _ (by unfold cRo; omega)]; exact a8, by rw [rl _ (by unfold cRo; omega)]; exact a9, fun e he => ?_⟩
  obtain ⟨b1, b2, b3, b4, b5, b6, b7, b8, b9, b10, b11, b12⟩ := a10 e he
  refine ⟨by rw [r0 _ (Or.inr (Or.inl rfl))]; exact b1, by rw [rk _ (by unfold cS0; omega)]; exact b2, by rw [r0 _ (Or.inr (Or.inr (Or.inr ⟨e, he, Or.inl rfl⟩)))]; exact b3, fun i hi => ⟨by rw [r0 _ (Or.inr (Or.inr (Or.inr ⟨e, he, Or.inl rfl⟩)))]; exact (b4 i hi).1, by rw [rk _ (by unfold cLs; omega)]; exact (b4 i hi).2⟩, by rw [rk _ (by unfold cSt; omega)]; exact b5, by rw [r0 _ (Or.inr (Or.inr (Or.inr ⟨e, he, Or.inr (Or.inl rfl)⟩)))]; exact b6, by rw [r0 _ (Or.inr (Or.inr (Or.inr ⟨e, he, Or.inr (Or.inl rfl)⟩)))]; exact b7, by rw [rk _ (by unfold cBs; omega)]; exact b8, by rw [rl _ (by unfold cBs; omega)]; exact b9, by rw [rk _ (by unfold cSz; omega)]; exact b10, by rw [rl _ (by unfold cSz; omega)]; exact b11, fun f hf => ?_⟩
  refine ⟨by rw [r0 _ (Or.inr (Or.inr (Or.inr ⟨e, he, Or.inr (Or.inr rfl)⟩)))]; exact (b12 f hf).1, by rw [rk _ (by unfold cBr; omega)]; exact (b12 f hf).2.1, by rw [rl _ (by unfold cBr; omega)]; exact (b12 f hf).2.2⟩
/-- a byte, as an int -/
def b8 (v : Int32) : Prop := v.toInt8.toInt32 = v
/-- the files -/
def cFl (h : ix_H) (x : Nat) (S : MS) (e f : Nat) : Prop := ix_i h (cSz x e) f = (if S 4 (6 * e + f) = 0 then -1 else S 5 (6 * e + f)) ∧ (∀ i, i < 64 → b8 (ix_i h (cBr x e f) i)) ∧ (¬ S 4 (6 * e + f) = 0 → ∀ i, i < (S 5 (6 * e + f)).toNatClampNeg → ix_i h (cBr x e f) i &&& 255 = S 6 (64 * (6 * e + f) + i))
/-- a sender that is open -/
def cSo (h : ix_H) (S : MS) (s t : Nat) : Prop := ix_i h s 15 = 0 ∧ ix_i h s 4 = nI ((fN S t + 3) / 4) ∧ ix_i h s 5 = (if S 15 t = 0 then (if S 21 t = 0 then S 14 t - 1 else nI ((fN S t + 3) / 4)) else nI ((fN S t + 3) / 4 + 1)) ∧ ix_i h s 6 = S 21 t ∧ ix_i h s 7 = S 22 t ∧ ix_i h s 8 = S 20 t ∧ ((ix_i h s 9 = 0 ∧ ¬ rb (S 19 t) 16) ∨ (ix_i h s 9 = 1 ∧ rb (S 19 t) 16)) ∧ (∀ q, q < 32 → (rb (ix_i h s 10) q ↔ rb (S 19 t) q ∧ q ≠ 16)) ∧ ix_i h s 11 = S 15 t ∧ ix_i h s 12 = S 16 t ∧ (¬ S 15 t = 0 → ix_i h s 13 = S 17 t) ∧ ix_i h s 14 = S 18 t
/-- a receiver (r: where it lies; its bytes lie behind it) -/
def cRo5 (h : ix_H) (S : MS) (r p : Nat) : Prop := ix_i h r 11 = 0 ∧ ix_i h r 5 = S 36 p ∧ (∀ q, q < 32 → (rb (ix_i h r 6) q ↔ q < 16 ∧ ¬ S 39 (16 * p + q) = 0)) ∧ ix_i h r 7 = (if S 37 p = 0 then -1 else S 27 p) ∧ (¬ S 37 p = 0 → ix_i h r 8 = S 28 p) ∧ ix_i h r 9 = (if S 37 p = 0 then S 31 p else S 30 p) ∧ ix_i h r 10 = S 29 p ∧ ∀ i, i < 64 → ix_i h (r + 1) i &&& 255 = mB S p i
def cRv (h : ix_H) (x : Nat) (S : MS) (tx r t : Nat) : Prop := x + 30 ≤ r ∧ ix_tg h r = 3 ∧ ix_r h r 0 = some tx ∧ ix_r h r 1 = some (cS0 x (1 - t / 320)) ∧ ix_r h r 2 = some (cLk x) ∧ ix_i h r 3 = S 0 0 ∧ ix_r h r 4 = some (r + 1) ∧ ix_tg h (r + 1) = 102 ∧ ix_ln h (r + 1) = 64 ∧ (∀ i, i < 64 → b8 (ix_i h (r + 1) i)) ∧ ix_i h r 13 = S 24 t ∧ (¬ opR S t → ix_i h r 12 = 1 ∧ ix_i h r 11 = S 23 t) ∧ (opR S t → ix_i h r 12 = 0) ∧ (S 23 t = nI 6 → ix_i h r 11 = S 26 (sP S t) ∧ ix_i h r 9 = S 30 (sP S t) ∧ ix_i h r 10 = S 29 (sP S t)) ∧ (S 23 t = nI 5 → cRo5 h S r (sP S t))
/-- a transaction and its sender -/
def cTr (h : ix_H) (x : Nat) (S : MS) (T R : Nat → Nat) (t : Nat) : Prop := x + 30 ≤ T t ∧ ix_tg h (T t) = 7 ∧ ix_i h (T t) 0 = nI (t / 320) ∧ ix_i h (T t) 1 = nI (t % 320) ∧ ix_i h (T t) 2 = S 9 t ∧ ix_i h (T t) 3 = S 10 t ∧ ix_i h (T t) 4 = S 8 t ∧ ix_i h (T t) 5 = S 11 t ∧ ix_i h (T t) 6 = S 12 t ∧ ix_r h (T t) 7 = (if S 23 t = 0 then none else some (R t))
def cSn (h : ix_H) (x : Nat) (S : MS) (T A : Nat → Nat) (t : Nat) : Prop := x + 30 ≤ A t ∧ ix_tg h (A t) = 4 ∧ ix_r h (A t) 0 = some (T t) ∧ ix_r h (A t) 1 = some (cSt x (t / 320)) ∧ ix_r h (A t) 2 = some (cLk x) ∧ ix_i h (A t) 3 = S 0 0 ∧ (S 13 t = nI 5 → cSo h S (A t) t) ∧ (¬ S 13 t = nI 5 → ix_i h (A t) 15 = S 13 t)
def cTx (h : ix_H) (x : Nat) (S : MS) (T A R : Nat → Nat) (t : Nat) : Prop := cTr h x S T R t ∧ cSn h x S T A t ∧ (¬ S 23 t = 0 → cRv h x S (T t) (R t) t)
/-- a unit's bytes: the class keeps the first in the lowest place, the reference in the highest -/
def lB (v : Int32) (q : Nat) : Int32 := (v >>> (nI (8 * q) &&& 31)) &&& 255
def hB (v : Int32) (q : Nat) : Int32 := (v >>> (nI (24 - 8 * q) &&& 31)) &&& 255
def cUn (h : ix_H) (x : Nat) (S : MS) (T : Nat → Nat) (u j : Nat) : Prop := x + 30 ≤ u ∧ ix_tg h u = 8 ∧ ix_r h u 0 = some (T (S 45 (11 * j + 2)).toNatClampNeg) ∧ ix_i h u 1 = S 45 (11 * j) ∧ ix_i h u 2 = S 45 (11 * j + 1) ∧ ix_i h u 3 = (if S 45 (11 * j) = nI 6 then S 45 (11 * j + 4) + nI 8 * S 45 (11 * j + 3) else S 45 (11 * j + 3)) ∧ (S 45 (11 * j) = nI 2 → ix_i h u 4 = S 45 (11 * j + 4) ∧ ∀ q, q < (S 45 (11 * j + 4)).toNatClampNeg → lB (ix_i h u 5) q = hB (S 45 (11 * j + 5)) q) ∧ (S 45 (11 * j) = nI 3 → ix_i h u 5 = S 45 (11 * j + 4)) ∧ (S 45 (11 * j) = nI 6 → ∀ q, q < 32 → (rb (ix_i h u 5) q ↔ ∃ i, i < (S 45 (11 * j + 4)).toNatClampNeg ∧ (S 45 (11 * j + 5 + 2 * i)).toNatClampNeg ≤ q ∧ q ≤ (S 45 (11 * j + 6 + 2 * i)).toNatClampNeg))
def cUs (h : ix_H) (x : Nat) (S : MS) (T U : Nat → Nat) : Prop := ix_i h (cLk x) 1 = S 44 0 ∧ (∀ j, j < gU S → ix_r h (cRo x) j = some (U j) ∧ cUn h x S T (U j) j) ∧ ∀ j, j < gU S → ∀ k, k < gU S → U j = U k → j = k
/-- a list of the class: its array, what stands in it -/
def cLi (h : ix_H) (a D : Nat) (L : List Nat) : Prop := ix_r h a 0 = some D ∧ ix_i h a 1 = nI L.length ∧ L.length ≤ ix_ln h D ∧ ix_ln h D ≤ 10000 ∧ (ix_tg h D = 107 ∨ (ix_tg h D = 207 ∧ ix_ln h D = 0)) ∧ ∀ i b, L[i]? = some b → ix_r h D i = some b
def rowL (S : MS) (A B e : Nat) : List Nat := (List.range (cP B S e)).map (fun k => (S A (3 * e + k)).toNatClampNeg)
/-- the lists: D their arrays, Lo and Lr who stands in the rows of the open ones -/
def cLL (h : ix_H) (x : Nat) (S : MS) (A R : Nat → Nat) (D : Nat → Nat) (Lo Lr : Nat → List Nat) : Prop := (∀ e, e < 2 → cLi h (cLs x e 0) (D (3 * e)) ((List.range (nN S e)).map (fun i => A (320 * e + (i + 1)))) ∧ cLi h (cLs x e 1) (D (3 * e + 1)) ((Lo e).map A) ∧ cLi h (cLs x e 2) (D (3 * e + 2)) ((Lr e).map R)) ∧ (∀ i, i < 6 → ∀ k, k < 6 → D i = D k → ix_tg h (D i) = 107 → i = k) ∧ ∀ i, i < 6 → ix_tg h (D i) = 107 → x + 30 ≤ D i
/-- who stands there is a transaction, and the open ones are the reference's row -/
def cRw (S : MS) (Lo Lr : Nat → List Nat) : Prop := ∀ e, e < 2 → (∀ t ∈ Lo e, vT S t ∧ t / 320 = e) ∧ (∀ t ∈ Lr e, vT S t ∧ 1 - t / 320 = e ∧ ¬ S 23 t = 0) ∧ (Lo e).Nodup ∧ (Lr e).Nodup ∧ rowL S 40 42 e = (Lo e).filter (fun t => decide (S 13 t = nI 5)) ∧ rowL S 41 43 e = (Lr e).filter (fun t => decide (S 23 t = nI 5 ∨ S 23 t = nI 6))
def cNx (h : ix_H) : Prop := ∀ b, ix_nx h ≤ b → ix_tg h b = 0
/-- the class's object beside the reference's numbers -/
def cRel (h : ix_H) (x : Nat) (S : MS) (T A R U D : Nat → Nat) (Lo Lr : Nat → List Nat) : Prop := cFix h x ∧ cNx h ∧ ix_i h x 0 = S 0 0 ∧ (∀ e f, e < 2 → f < 6 → cFl h x S e f) ∧ (∀ t, vT S t → cTx h x S T A R t) ∧ cUs h x S T U ∧ cLL h x S A R D Lo Lr ∧ cRw S Lo Lr
