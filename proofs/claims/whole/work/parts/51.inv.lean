/-! ===== the invariant of the reference's numbers ===== -/
theorem mset_kk {S : MS} {k j k' : Nat} {x : Int32} (h : k' ≠ k) : mset S k j x k' = S k' := funext fun _ => mset_k h
def nN (S : MS) (e : Nat) : Nat := (S 7 e).toNatClampNeg
/-- t is a transaction -/
def vT (S : MS) (t : Nat) : Prop := t < 640 ∧ 1 ≤ t % 320 ∧ t % 320 ≤ nN S (t / 320)
/-- a number of the code between two others -/
def bw (x : Int32) (a b : Nat) : Prop := ∃ n, a ≤ n ∧ n ≤ b ∧ x = nI n
def iG (S : MS) : Prop := bw (S 44 0) 0 24 ∧ ∀ e, e < 2 → bw (S 7 e) 0 319
def iF (S : MS) : Prop := ∀ F, F < 12 → bw (S 4 F) 0 1 ∧ bw (S 5 F) 0 64
def iT (S : MS) : Prop := ∀ t, vT S t → bw (S 8 t) 1 2 ∧ bw (S 9 t) 0 5 ∧ bw (S 10 t) 0 5 ∧ bw (S 11 t) 0 2 ∧ bw (S 12 t) 0 5 ∧ bw (S 13 t) 1 5 ∧ bw (S 20 t) 0 1 ∧ bw (S 21 t) 0 1 ∧ bw (S 22 t) 0 1
def iZ (S : MS) : Prop := ∀ t, t < 640 → ¬ vT S t → ∀ k, 13 ≤ k → k ≤ 24 → S k t = 0
/-- the file of a sender: its place, its length -/
def fI (S : MS) (t : Nat) : Nat := 6 * (t / 320) + (S 9 t).toNatClampNeg
def fN (S : MS) (t : Nat) : Nat := (S 5 (fI S t)).toNatClampNeg
def iS (S : MS) : Prop := ∀ t, vT S t → S 13 t = nI 5 → S 4 (fI S t) = nI 1 ∧ bw (S 14 t) 0 ((fN S t + 3) / 4 + 1) ∧ bw (S 15 t) 0 3 ∧ ∀ s, s < 32 → rb (S 19 t) s → s = 16 ∨ 4 * s < fN S t
/-- a row of those that are open: row A, its length B; side: whose row it is; op: who is open -/
def iRw (A B : Nat) (side : Nat → Nat) (op : MS → Nat → Prop) (S : MS) : Prop := ∀ e, e < 2 → ∃ c, c ≤ 3 ∧ S B e = nI c ∧ (∀ k, k < c → ∃ t, S A (3 * e + k) = nI t ∧ side t = e ∧ vT S t ∧ op S t) ∧ (∀ k, k < c → ∀ k', k' < c → S A (3 * e + k) = S A (3 * e + k') → k = k') ∧ ∀ t, vT S t → side t = e → op S t → ∃ k, k < c ∧ S A (3 * e + k) = nI t
def opS (S : MS) (t : Nat) : Prop := S 13 t = nI 5
def opR (S : MS) (t : Nat) : Prop := S 23 t = nI 5 ∨ S 23 t = nI 6
def iL (S : MS) : Prop := iRw 40 42 (fun t => t / 320) opS S
def iM (S : MS) : Prop := iRw 41 43 (fun t => 1 - t / 320) opR S
/-- a receiver's place -/
def sP (S : MS) (t : Nat) : Nat := (S 25 t).toNatClampNeg
def iRp (S : MS) (t p : Nat) : Prop := S 25 t = nI p ∧ 3 * (1 - t / 320) ≤ p ∧ p < 3 * (1 - t / 320) + 3 ∧ ¬ S 35 p = 0 ∧ bw (S 36 p) 0 1 ∧ bw (S 37 p) 0 1 ∧ bw (S 29 p) 0 3 ∧ (¬ S 37 p = 0 → bw (S 27 p) 0 64) ∧ (¬ S 36 p = 0 → S 32 p = S 10 t ∧ S 33 p = S 11 t ∧ S 34 p = S 12 t) ∧ (∀ s, s < 16 → bw (S 39 (16 * p + s)) 0 4) ∧ (S 23 t = nI 6 → bw (S 26 p) 1 4) ∧ (S 23 t = nI 5 → S 37 p = 0 → S 29 p = 0)
def iR (S : MS) : Prop := ∀ t, vT S t → bw (S 23 t) 0 6 ∧ bw (S 24 t) 0 2 ∧ (opR S t → iRp S t (sP S t))
def iP (S : MS) : Prop := (∀ t t', vT S t → vT S t' → opR S t → opR S t' → S 25 t = S 25 t' → t = t') ∧ ∀ p, p < 6 → S 35 p = 0 ∨ ∃ t, vT S t ∧ opR S t ∧ S 25 t = nI p
/-- a unit's row (r: its first place) of transaction t -/
def uK (S : MS) (r t : Nat) : Prop :=
  (S 45 r = nI 1 ∧ S 45 (r + 1) = nI (1 - t / 320) ∧ S 45 (r + 3) = S 10 t ∧ S 45 (r + 4) = S 11 t ∧ S 45 (r + 5) = S 12 t ∧ S 45 (r + 6) = S 8 t) ∨
  (S 45 r = nI 2 ∧ S 45 (r + 1) = nI (1 - t / 320) ∧ bw (S 45 (r + 3)) 0 15 ∧ bw (S 45 (r + 4)) 1 4 ∧ S 45 (r + 6) = S 8 t) ∨
  (S 45 r = nI 3 ∧ S 45 (r + 1) = nI (1 - t / 320) ∧ (S 45 (r + 3) = -1 ∨ bw (S 45 (r + 3)) 0 64) ∧ S 45 (r + 6) = S 8 t) ∨
  (S 45 r = nI 4 ∧ S 45 (r + 1) = nI (t / 320) ∧ bw (S 45 (r + 3)) 1 4) ∨
  (S 45 r = nI 5 ∧ bw (S 45 (r + 1)) 0 1 ∧ bw (S 45 (r + 3)) 3 4) ∨
  (S 45 r = nI 6 ∧ S 45 (r + 1) = nI (t / 320) ∧ bw (S 45 (r + 3)) 0 1 ∧ ∃ g, g ≤ 3 ∧ S 45 (r + 4) = nI g ∧ ∀ i, i < g → ∃ a b, a ≤ b ∧ b < 16 ∧ S 45 (r + 5 + 2 * i) = nI a ∧ S 45 (r + 6 + 2 * i) = nI b)
def uV (S : MS) (r : Nat) : Prop := ∃ t, S 45 (r + 2) = nI t ∧ vT S t ∧ uK S r t
def iU (S : MS) : Prop := ∀ j, j < (S 44 0).toNatClampNeg → uV S (11 * j)
def mInv (S : MS) : Prop := iG S ∧ iF S ∧ iT S ∧ iZ S ∧ iS S ∧ iL S ∧ iM S ∧ iR S ∧ iP S ∧ iU S
/-- a sender without acknowledgements closes with its END -/
def iK (S : MS) : Prop := ∀ t, vT S t → S 13 t = nI 5 → S 8 t = nI 1 → S 15 t = 0
theorem bw.m {x : Int32} {a b c d : Nat} (h : bw x a b) (h1 : c ≤ a) (h2 : b ≤ d) : bw x c d := by
  obtain ⟨n, q1, q2, q3⟩ := h
  exact ⟨n, by omega, by omega, q3⟩
theorem bw.of {n a b : Nat} (h1 : a ≤ n) (h2 : n ≤ b) : bw (nI n) a b := ⟨n, h1, h2, rfl⟩
theorem bw.c {x : Int32} {a b : Nat} (h : bw x a b) (hb : b < 2 ^ 31) : x = nI x.toNatClampNeg ∧ a ≤ x.toNatClampNeg ∧ x.toNatClampNeg ≤ b := by
  obtain ⟨n, q1, q2, rfl⟩ := h
  rw [nI_clamp (by omega)]
  exact ⟨rfl, q1, q2⟩
/-! what doesn't read a field doesn't see it changed: L is what changed -/
theorem vT_c {S S' : MS} {L : List Nat} (H : ∀ k, k ∉ L → S' k = S k) (d : ∀ k ∈ [7], k ∉ L) {t : Nat} : vT S' t ↔ vT S t := by
  unfold vT nN
  rw [H 7 (d 7 (by decide))]
theorem iG_c {S S' : MS} {L : List Nat} (H : ∀ k, k ∉ L → S' k = S k) (d : ∀ k ∈ [7, 44], k ∉ L) (I : iG S) : iG S' := by
  simp only [iG] at I ⊢
  simp only [H 7 (d 7 (by decide)), H 44 (d 44 (by decide))]
  exact I
theorem iF_c {S S' : MS} {L : List Nat} (H : ∀ k, k ∉ L → S' k = S k) (d : ∀ k ∈ [4, 5], k ∉ L) (I : iF S) : iF S' := by
  simp only [iF] at I ⊢
  simp only [H 4 (d 4 (by decide)), H 5 (d 5 (by decide))]
  exact I
theorem iT_c {S S' : MS} {L : List Nat} (H : ∀ k, k ∉ L → S' k = S k) (d : ∀ k ∈ [7, 8, 9, 10, 11, 12, 13, 20, 21, 22], k ∉ L) (I : iT S) : iT S' := by
  simp only [iT, vT, nN] at I ⊢
  simp only [H 7 (d 7 (by decide)), H 8 (d 8 (by decide)), H 9 (d 9 (by decide)), H 10 (d 10 (by decide)), H 11 (d 11 (by decide)), H 12 (d 12 (by decide)), H 13 (d 13 (by decide)), H 20 (d 20 (by decide)), H 21 (d 21 (by decide)), H 22 (d 22 (by decide))]
  exact I
theorem iS_c {S S' : MS} {L : List Nat} (H : ∀ k, k ∉ L → S' k = S k) (d : ∀ k ∈ [4, 5, 7, 9, 13, 14, 15, 19], k ∉ L) (I : iS S) : iS S' := by
  simp only [iS, vT, nN, fI, fN] at I ⊢
  simp only [H 4 (d 4 (by decide)), H 5 (d 5 (by decide)), H 7 (d 7 (by decide)), H 9 (d 9 (by decide)), H 13 (d 13 (by decide)), H 14 (d 14 (by decide)), H 15 (d 15 (by decide)), H 19 (d 19 (by decide))]
  exact I
theorem iL_c {S S' : MS} {L : List Nat} (H : ∀ k, k ∉ L → S' k = S k) (d : ∀ k ∈ [7, 13, 40, 42], k ∉ L) (I : iL S) : iL S' := by
  simp only [iL, iRw, opS, vT, nN] at I ⊢
  simp only [H 7 (d 7 (by decide)), H 13 (d 13 (by decide)), H 40 (d 40 (by decide)), H 42 (d 42 (by decide))]
  exact I
theorem iM_c {S S' : MS} {L : List Nat} (H : ∀ k, k ∉ L → S' k = S k) (d : ∀ k ∈ [7, 23, 41, 43], k ∉ L) (I : iM S) : iM S' := by
  simp only [iM, iRw, opR, vT, nN] at I ⊢
  simp only [H 7 (d 7 (by decide)), H 23 (d 23 (by decide)), H 41 (d 41 (by decide)), H 43 (d 43 (by decide))]
  exact I
theorem iR_c {S S' : MS} {L : List Nat} (H : ∀ k, k ∉ L → S' k = S k) (d : ∀ k ∈ [7, 10, 11, 12, 23, 24, 25, 26, 27, 29, 32, 33, 34, 35, 36, 37, 39], k ∉ L) (I : iR S) : iR S' := by
  simp only [iR, iRp, opR, vT, nN, sP] at I ⊢
  simp only [H 7 (d 7 (by decide)), H 10 (d 10 (by decide)), H 11 (d 11 (by decide)), H 12 (d 12 (by decide)), H 23 (d 23 (by decide)), H 24 (d 24 (by decide)), H 25 (d 25 (by decide)), H 26 (d 26 (by decide)), H 27 (d 27 (by decide)), H 29 (d 29 (by decide)), H 32 (d 32 (by decide)), H 33 (d 33 (by decide)), H 34 (d 34 (by decide)), H 35 (d 35 (by decide)), H 36 (d 36 (by decide)), H 37 (d 37 (by decide)), H 39 (d 39 (by decide))]
  exact I
theorem iP_c {S S' : MS} {L : List Nat} (H : ∀ k, k ∉ L → S' k = S k) (d : ∀ k ∈ [7, 23, 25, 35], k ∉ L) (I : iP S) : iP S' := by
  simp only [iP, opR, vT, nN] at I ⊢
  simp only [H 7 (d 7 (by decide)), H 23 (d 23 (by decide)), H 25 (d 25 (by decide)), H 35 (d 35 (by decide))]
  exact I
theorem iU_c {S S' : MS} {L : List Nat} (H : ∀ k, k ∉ L → S' k = S k) (d : ∀ k ∈ [7, 8, 10, 11, 12, 44, 45], k ∉ L) (I : iU S) : iU S' := by
  simp only [iU, uV, uK, vT, nN] at I ⊢
  simp only [H 7 (d 7 (by decide)), H 8 (d 8 (by decide)), H 10 (d 10 (by decide)), H 11 (d 11 (by decide)), H 12 (d 12 (by decide)), H 44 (d 44 (by decide)), H 45 (d 45 (by decide))]
  exact I
theorem iK_c {S S' : MS} {L : List Nat} (H : ∀ k, k ∉ L → S' k = S k) (d : ∀ k ∈ [7, 8, 13, 15], k ∉ L) (I : iK S) : iK S' := by
  simp only [iK, vT, nN] at I ⊢
  simp only [H 7 (d 7 (by decide)), H 8 (d 8 (by decide)), H 13 (d 13 (by decide)), H 15 (d 15 (by decide))]
  exact I
theorem iZ_c {S S' : MS} {L : List Nat} (H : ∀ k, k ∉ L → S' k = S k) (d : ∀ k ∈ [7], k ∉ L) (d2 : ∀ k ∈ L, k < 13 ∨ 24 < k) (I : iZ S) : iZ S' := by
  intro t ht hv k h1 h2
  rw [H k (fun q => by have := d2 k q; omega)]
  exact I t ht (fun q => hv ((vT_c H d).mpr q)) k h1 h2
/-- .. and where what changed of a sender's or a receiver's numbers is that of a transaction -/
theorem iZ_t {S S' : MS} {L : List Nat} (H : ∀ k, k ∉ L → S' k = S k) (d : ∀ k ∈ [7], k ∉ L) {t : Nat} (hv : vT S t) (h1 : ∀ k ∈ L, 13 ≤ k → k ≤ 24 → ∀ j, j ≠ t → S' k j = S k j) (I : iZ S) : iZ S' := by
  intro j ht hj k h3 h4
  have hj' : ¬ vT S j := fun q => hj ((vT_c H d).mpr q)
  by_cases q : k ∈ L
  · rw [h1 k q h3 h4 j (fun e => hj' (by rw [e]; exact hv))]
    exact I j ht hj' k h3 h4
  · rw [H k q]
    exact I j ht hj' k h3 h4
