/-! ===== how many transactions there can be ===== -/
def iE (S : MS) : Prop := ∀ t, vT S t → S 13 t = nI 5 → ¬ S 15 t = 0 → ¬ (S 14 t = 0 ∧ S 21 t = 0)
theorem iE_c {S S' : MS} {L : List Nat} (H : ∀ k, k ∉ L → S' k = S k) (d : ∀ k ∈ [7, 13, 14, 15, 21], k ∉ L) (I : iE S) : iE S' := by
  simp only [iE, vT, nN] at I ⊢
  simp only [H 7 (d 7 (by decide)), H 13 (d 13 (by decide)), H 14 (d 14 (by decide)), H 15 (d 15 (by decide)), H 21 (d 21 (by decide))]
  exact I
/-- how far a sender is from where it can close -/
def ph (S : MS) (t : Nat) : Nat := 2 - ((if S 14 t = 0 then 0 else 1) + (if S 15 t = 0 then 0 else 1) + (if S 21 t = 0 then 0 else 1))
def sm (f : Nat → Nat) : Nat → Nat
  | 0 => 0
  | k + 1 => sm f k + f k
theorem sm_e {f g : Nat → Nat} : ∀ c, (∀ k, k < c → f k = g k) → sm f c = sm g c := by
  intro c
  induction c with
  | zero => intro _; rfl
  | succ c ih =>
    intro h
    unfold sm
    rw [ih (fun k hk => h k (by omega)), h c (by omega)]
theorem sm_rm {f g : Nat → Nat} {c k0 : Nat} (hc : c ≤ 3) (hk : k0 < c) (h : ∀ k, k < c - 1 → g k = f (if k0 ≤ k then k + 1 else k)) : sm g (c - 1) + f k0 = sm f c := by
  have h1 : c = 1 ∨ c = 2 ∨ c = 3 := by omega
  rcases h1 with w | w | w
  · subst w
    have : k0 = 0 := by omega
    subst this
    simp [sm]
  · subst w
    have h0 := h 0 (by omega)
    have : k0 = 0 ∨ k0 = 1 := by omega
    rcases this with w | w <;> subst w <;> simp [sm] at h0 ⊢ <;> omega
  · subst w
    have h0 := h 0 (by omega)
    have h1 := h 1 (by omega)
    have : k0 = 0 ∨ k0 = 1 ∨ k0 = 2 := by omega
    rcases this with w | w | w <;> subst w <;> simp [sm] at h0 h1 ⊢ <;> omega
/-- one of a sum falls -/
theorem sm_1 {f g : Nat → Nat} {c k0 n : Nat} (h : ∀ k, k < c → k ≠ k0 → g k = f k) (h0 : f k0 ≤ g k0 + n) : sm f c ≤ sm g c + n := by
  have H : ∀ c', c' ≤ c → (c' ≤ k0 → sm f c' = sm g c') ∧ sm f c' ≤ sm g c' + n := by
    intro c'
    induction c' with
    | zero => intro _; exact ⟨fun _ => rfl, by unfold sm; omega⟩
    | succ c' ih =>
      intro hc'
      obtain ⟨i1, i2⟩ := ih (by omega)
      unfold sm
      by_cases q : c' = k0
      · subst q
        have := i1 (by omega)
        exact ⟨fun w => by omega, by omega⟩
      · have := h c' (by omega) q
        exact ⟨fun w => by have := i1 (by omega); omega, by omega⟩
  exact (H c (by omega)).2
def Ph (S : MS) (e : Nat) : Nat := sm (fun k => ph S (S 40 (3 * e + k)).toNatClampNeg) (cP 42 S e)
theorem Ph_c {S S' : MS} {L : List Nat} (H : ∀ k, k ∉ L → S' k = S k) (d : ∀ k ∈ [14, 15, 21, 40, 42], k ∉ L) (e : Nat) : Ph S' e = Ph S e := by
  simp only [Ph, ph, cP, H 14 (d 14 (by decide)), H 15 (d 15 (by decide)), H 21 (d 21 (by decide)), H 40 (d 40 (by decide)), H 42 (d 42 (by decide))]
theorem ph_2 {S : MS} {t : Nat} : ph S t ≤ 2 := by unfold ph; omega
theorem sm_2 {f : Nat → Nat} (h : ∀ k, f k ≤ 2) : ∀ c, sm f c ≤ 2 * c := by
  intro c
  induction c with
  | zero => unfold sm; omega
  | succ c ih => unfold sm; have := h c; omega
theorem Ph_6 {S : MS} {e : Nat} (I : mInv S) (he : e < 2) : Ph S e ≤ 6 := by
  obtain ⟨c, h1, h2, -⟩ := I.L e he
  unfold Ph
  have := sm_2 (f := fun k => ph S (S 40 (3 * e + k)).toNatClampNeg) (fun k => ph_2) (cP 42 S e)
  have : cP 42 S e = c := by unfold cP; rw [h2, nI_clamp (by omega)]
  omega
/-- the rows of an entity: who stands there -/
theorem rowS {S : MS} {e k : Nat} (I : mInv S) (he : e < 2) (hk : k < cP 42 S e) : ∃ t, S 40 (3 * e + k) = nI t ∧ (S 40 (3 * e + k)).toNatClampNeg = t ∧ t / 320 = e ∧ vT S t ∧ S 13 t = nI 5 ∧ cP 42 S e ≤ 3 ∧ ∀ k', k' < cP 42 S e → (S 40 (3 * e + k')).toNatClampNeg = t → k' = k := by
  obtain ⟨c, h1, h2, h3, h4, h5⟩ := I.L e he
  have hc : cP 42 S e = c := by unfold cP; rw [h2, nI_clamp (by omega)]
  rw [hc] at hk ⊢
  obtain ⟨t, a1, a2, a3, a4⟩ := h3 k hk
  have h640 := a3.1
  refine ⟨t, a1, by rw [a1, nI_clamp (by omega)], a2, a3, a4, h1, fun k' hk' q => h4 k' hk' k hk ?_⟩
  obtain ⟨t', b1, b2, b3, b4⟩ := h3 k' hk'
  have h640' := b3.1
  rw [b1, nI_clamp (by omega)] at q
  rw [a1, b1, q]
/-- a sender changes, or closes -/
theorem Ph_stay {S S' : MS} {t n : Nat} (I : mInv S) (h40 : S' 40 = S 40) (h42 : S' 42 = S 42) (ho : ∀ j, j ≠ t → ph S' j = ph S j) (hp : ph S t ≤ ph S' t + n) {e : Nat} (he : e < 2) : Ph S e ≤ Ph S' e + n := by
  have ec : cP 42 S' e = cP 42 S e := by unfold cP; rw [h42]
  unfold Ph
  rw [h40, ec]
  by_cases q : ∃ k0, k0 < cP 42 S e ∧ (S 40 (3 * e + k0)).toNatClampNeg = t
  · obtain ⟨k0, q1, q2⟩ := q
    refine sm_1 (k0 := k0) (fun k hk hne => ho _ (fun z => hne ?_)) (by simp only [q2]; exact hp)
    obtain ⟨t', a1, a2, a3, a4, a5, a6, a7⟩ := rowS I he q1
    exact a7 k hk (by omega)
  · rw [sm_e (g := fun k => ph S' (S 40 (3 * e + k)).toNatClampNeg) (cP 42 S e) (fun k hk => (ho _ (fun z => q ⟨k, hk, z⟩)).symm)]
    omega
theorem Ph_close {S S' : MS} {t k0 c : Nat} (I : mInv S) (hv : vT S t) (hH : mHas 40 42 S (t / 320) k0 c t) (h40 : ∀ j, S' 40 j = if 3 * (t / 320) + k0 ≤ j ∧ j < 3 * (t / 320) + (c - 1) then S 40 (j + 1) else S 40 j) (h42 : ∀ j, S' 42 j = if j = t / 320 then nI (c - 1) else S 42 j) (ho : ∀ j, j ≠ t → ph S' j = ph S j) {e : Nat} (he : e < 2) : Ph S e ≤ Ph S' e + ph S t := by
  have h640 := hv.1
  obtain ⟨b1, b2, b3, b4, b5⟩ := id hH
  have hc : cP 42 S (t / 320) = c := by unfold cP; rw [b3, nI_clamp (by omega)]
  unfold Ph
  by_cases q : e = t / 320
  · subst q
    have hc' : cP 42 S' (t / 320) = c - 1 := by unfold cP; rw [h42, if_pos rfl, nI_clamp (by omega)]
    rw [hc, hc']
    have := sm_rm (f := fun k => ph S (S 40 (3 * (t / 320) + k)).toNatClampNeg) (g := fun k => ph S' (S' 40 (3 * (t / 320) + k)).toNatClampNeg) b2 b1 (fun k hk => ?_)
    · simp only [b4, nI_clamp (show t < 2 ^ 31 by omega)] at this
      omega
    · show ph S' (S' 40 (3 * (t / 320) + k)).toNatClampNeg = ph S (S 40 (3 * (t / 320) + (if k0 ≤ k then k + 1 else k))).toNatClampNeg
      have rd : S' 40 (3 * (t / 320) + k) = S 40 (3 * (t / 320) + (if k0 ≤ k then k + 1 else k)) := by
        rw [h40]
        by_cases w : k0 ≤ k
        · rw [if_pos ⟨by omega, by omega⟩, if_pos w, Nat.add_assoc]
        · rw [if_neg (by omega), if_neg w]
      rw [rd]
      refine ho _ (fun z => ?_)
      obtain ⟨t', a1, a2, a3, a4, a5, a6, a7⟩ := rowS (k := k0) I he (by omega)
      have : (if k0 ≤ k then k + 1 else k) = k0 := a7 _ (by split <;> omega) (by rw [z, ← a2, b4, nI_clamp (by omega)])
      split at this <;> omega
  · have hc' : cP 42 S' e = cP 42 S e := by unfold cP; rw [h42, if_neg q]
    rw [hc']
    have : sm (fun k => ph S (S 40 (3 * e + k)).toNatClampNeg) (cP 42 S e) = sm (fun k => ph S' (S' 40 (3 * e + k)).toNatClampNeg) (cP 42 S e) := by
      refine sm_e _ (fun k hk => ?_)
      obtain ⟨t', a1, a2, a3, a4, a5, a6, a7⟩ := rowS I he hk
      have rd : S' 40 (3 * e + k) = S 40 (3 * e + k) := by rw [h40, if_neg (by omega)]
      show ph S (S 40 (3 * e + k)).toNatClampNeg = ph S' (S' 40 (3 * e + k)).toNatClampNeg
      rw [rd, a2]
      exact (ho t' (fun z => q (by rw [← a3, z]))).symm
    omega
