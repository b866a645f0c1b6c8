/-! ===== the reference: its object m and the arrays behind it ===== -/
/-- where field k's array lies -/
def mA (m k : Nat) : Nat := if k < 44 then m + (k - 3) else m + (k - 4)
/-- kind and length of field k's array -/
def mKL : List (Nat × Nat) := [(0, 0), (0, 0), (0, 0), (0, 0), (1, 12), (0, 12), (0, 768), (0, 2), (0, 640), (0, 640), (0, 640), (0, 640), (0, 640), (0, 640), (0, 640), (0, 640), (0, 640), (0, 640), (0, 640), (0, 640), (1, 640), (1, 640), (1, 640), (0, 640), (0, 640), (0, 640), (0, 6), (0, 6), (0, 6), (0, 6), (0, 6), (0, 6), (0, 6), (0, 6), (0, 6), (1, 6), (1, 6), (1, 6), (0, 96), (0, 96), (0, 6), (0, 6), (0, 2), (0, 2), (0, 0), (0, 264), (0, 11), (0, 6)]
def mK (k : Nat) : Nat := (mKL.getD k (0, 0)).1
def mL (k : Nat) : Nat := (mKL.getD k (0, 0)).2
/-- the fields that are arrays -/
def mIs (k : Nat) : Bool := decide (4 ≤ k) && decide (k < 48) && !(k == 44)
def md_ok (h : ix_H) (m : Nat) : Prop := ix_tg h m = 9 ∧ ∀ k, mIs k = true → ix_r h m k = some (mA m k) ∧ ix_tg h (mA m k) = 100 + mK k ∧ ix_ln h (mA m k) = mL k
theorem md_ok.t {h : ix_H} {m : Nat} (M : md_ok h m) : ix_tg h m = 9 := M.1
theorem md_ok.r {h : ix_H} {m : Nat} (M : md_ok h m) (k : Nat) (hk : mIs k = true) : ix_r h m k = some (mA m k) := (M.2 k hk).1
theorem md_ok.a {h : ix_H} {m : Nat} (M : md_ok h m) (k : Nat) (hk : mIs k = true) : ix_tg h (mA m k) = 100 + mK k := (M.2 k hk).2.1
theorem md_ok.l {h : ix_H} {m : Nat} (M : md_ok h m) (k : Nat) (hk : mIs k = true) : ix_ln h (mA m k) = mL k := (M.2 k hk).2.2
theorem md_ok.si {h : ix_H} {m : Nat} (M : md_ok h m) (a j : Nat) (x : Int32) : md_ok (ix_si h a j x) m := M
/-- the reference's numbers: field k, place j (a plain field: place 0) -/
abbrev MS : Type := Nat → Nat → Int32
def ms (h : ix_H) (m : Nat) : MS := fun k j => if mIs k = true then ix_i h (mA m k) j else ix_i h m k
def mset (S : MS) (k j : Nat) (x : Int32) : MS := fun k' j' => if k' = k ∧ (j' = j ∨ mIs k = false) then x else S k' j'
theorem ms_arr (h : ix_H) (m k j : Nat) (hk : mIs k = true) : ix_i h (mA m k) j = ms h m k j := by unfold ms; rw [if_pos hk]
theorem ms_fld (h : ix_H) (m k j : Nat) (hk : mIs k = false) : ix_i h m k = ms h m k j := by unfold ms; rw [if_neg (by rw [hk]; decide)]
theorem mIs_lt {k : Nat} (h : mIs k = true) : 4 ≤ k ∧ k < 48 ∧ k ≠ 44 := by
  simp only [mIs, Bool.and_eq_true, decide_eq_true_eq, Bool.not_eq_true', beq_eq_false_iff_ne, ne_eq] at h
  omega
theorem mA_inj {m k k' : Nat} (h : mIs k = true) (h' : mIs k' = true) (e : mA m k = mA m k') : k = k' := by
  have := mIs_lt h
  have := mIs_lt h'
  unfold mA at e
  split at e <;> split at e <;> omega
theorem mA_ne {m k : Nat} (h : mIs k = true) : mA m k ≠ m := by
  have := mIs_lt h
  unfold mA
  split <;> omega
theorem mA_in {m k : Nat} (h : mIs k = true) : m < mA m k ∧ mA m k ≤ m + 43 := by
  have := mIs_lt h
  unfold mA
  split <;> omega
theorem ms_set {h : ix_H} {m k j : Nat} {x : Int32} (hk : mIs k = true) : ms (ix_si h (mA m k) j x) m = mset (ms h m) k j x := by
  funext k' j'
  unfold ms mset
  by_cases hk' : mIs k' = true
  · rw [if_pos hk', ix_i_si]
    by_cases e : k' = k
    · subst e
      by_cases ej : j' = j
      · subst ej
        rw [if_pos ⟨rfl, rfl⟩, if_pos ⟨rfl, Or.inl rfl⟩]
      · rw [if_neg (fun z => ej z.2), if_neg (fun z => z.2.elim ej (fun q => by rw [hk] at q; cases q))]
        exact (if_pos hk').symm
    · rw [if_neg (fun z => e (mA_inj hk' hk z.1)), if_neg (fun z => e z.1)]
      exact (if_pos hk').symm
  · rw [if_neg hk', ix_i_si, if_neg (fun z => mA_ne hk z.1.symm), if_neg (fun z => hk' (by rw [z.1]; exact hk))]
    exact (if_neg hk').symm
theorem ms_setF {h : ix_H} {m k j : Nat} {x : Int32} (hk : mIs k = false) : ms (ix_si h m k x) m = mset (ms h m) k j x := by
  funext k' j'
  unfold ms mset
  by_cases hk' : mIs k' = true
  · rw [if_pos hk', ix_i_si, if_neg (fun z => mA_ne hk' z.1), if_neg (fun z => by rw [z.1, hk] at hk'; cases hk')]
    exact (if_pos hk').symm
  · rw [if_neg hk', ix_i_si]
    by_cases e : k' = k
    · subst e
      rw [if_pos ⟨rfl, rfl⟩, if_pos ⟨rfl, Or.inr hk⟩]
    · rw [if_neg (fun z => e z.2), if_neg (fun z => e z.1)]
      exact (if_neg hk').symm
/-- the heap with other numbers -/
def ix_wi (h : ix_H) (v : Nat → Nat → Int32) : ix_H := (h.1, h.2.1, v, h.2.2.2)
theorem ix_wi_si (h : ix_H) (v : Nat → Nat → Int32) (a k : Nat) (x : Int32) : ix_si (ix_wi h v) a k x = ix_wi h (ix_up2 v a k x) := rfl
theorem ix_wi_self (h : ix_H) : ix_wi h h.2.2.1 = h := rfl
theorem ix_wi_wi (h : ix_H) (v w : Nat → Nat → Int32) : ix_wi (ix_wi h v) w = ix_wi h w := rfl
/-- a step of the reference: only its own numbers change, and they are S' then -/
def mR (m : Nat) (h h' : ix_H) (S' : MS) : Prop := (∃ v, h' = ix_wi h v) ∧ (∀ b, (b < m ∨ m + 43 < b) → ∀ j, ix_i h' b j = ix_i h b j) ∧ ms h' m = S'
theorem mR.rf {m : Nat} {h : ix_H} {S : MS} (e : ms h m = S) : mR m h h S := ⟨⟨_, (ix_wi_self h).symm⟩, fun _ _ _ => rfl, e⟩
theorem mR.ok {m : Nat} {h h' : ix_H} {S : MS} (r : mR m h h' S) (M : md_ok h m) : md_ok h' m := by
  obtain ⟨⟨v, rfl⟩, -⟩ := r
  exact M
theorem mR.tr {m : Nat} {h h1 h2 : ix_H} {S1 S2 : MS} (r1 : mR m h h1 S1) (r2 : mR m h1 h2 S2) : mR m h h2 S2 := by
  obtain ⟨⟨v, rfl⟩, f1, e1⟩ := r1
  obtain ⟨⟨w, rfl⟩, f2, e2⟩ := r2
  exact ⟨⟨w, rfl⟩, fun b hb j => (f2 b hb j).trans (f1 b hb j), e2⟩
theorem mR.set {m k j : Nat} {h h1 : ix_H} {S : MS} {x : Int32} (r : mR m h h1 S) (hk : mIs k = true) : mR m h (ix_si h1 (mA m k) j x) (mset S k j x) := by
  obtain ⟨⟨v, rfl⟩, f1, e1⟩ := r
  refine ⟨⟨_, ix_wi_si h v _ _ _⟩, fun b hb j' => ?_, by rw [ms_set hk, e1]⟩
  rw [ix_i_si, if_neg]
  · exact f1 b hb j'
  · rintro ⟨e, -⟩
    have := mA_in (m := m) hk
    omega
theorem mR.setF {m k j : Nat} {h h1 : ix_H} {S : MS} {x : Int32} (r : mR m h h1 S) (hk : mIs k = false) : mR m h (ix_si h1 m k x) (mset S k j x) := by
  obtain ⟨⟨v, rfl⟩, f1, e1⟩ := r
  refine ⟨⟨_, ix_wi_si h v _ _ _⟩, fun b hb j' => ?_, by rw [ms_setF (j := j) hk, e1]⟩
  rw [ix_i_si, if_neg]
  · exact f1 b hb j'
  · rintro ⟨e, -⟩
    omega
/-! rows for the reference's walks: heaps by their numbers -/
section MD
variable {G : ix_G} {m pc o : Nat} {lv : List (Nat × Value)} {st : List Value} {h : ix_H} {P : ix_O → ix_H → Prop}
theorem me_geti {i j : Nat} (hd : decode (ix_by m) pc = .ok (.getfield i, 3)) (hF : ix_FL (ix_own m) i 8 j 0) (M : md_ok h o) (hj : mIs j = false) (kk : ix_E G m (pc + 3) lv (.int (ms h o j 0) :: st) h P) : ix_E G m pc lv (.ref o :: st) h P := ie_geti hd hF M.t (by rw [ms_fld h o j 0 hj]; exact kk)
theorem me_getr {i j : Nat} (hd : decode (ix_by m) pc = .ok (.getfield i, 3)) (hF : ix_FL (ix_own m) i 8 j 2) (M : md_ok h o) (hj : mIs j = true) (kk : ix_E G m (pc + 3) lv (.ref (mA o j) :: st) h P) : ix_E G m pc lv (.ref o :: st) h P := ie_getr _ hd hF M.t (M.r j hj) kk
theorem me_puti {i j : Nat} {x : Int32} (hd : decode (ix_by m) pc = .ok (.putfield i, 3)) (hF : ix_FL (ix_own m) i 8 j 0) (hfin : (ix_cT 8 j).2.2.2 = false) (hty : ix_ty 8 j = .int) (M : md_ok h o) (kk : ix_E G m (pc + 3) lv st (ix_si h o j x) P) : ix_E G m pc lv (.int x :: .ref o :: st) h P := ie_puti hd hF (Or.inl hfin) M.t (by rw [hty]; rfl) (by rw [hty]; rfl) kk
theorem me_in {h : ix_H} {o k n : Nat} {x : Int32} (M : md_ok h o) (hk : mIs k = true) (hx : x = nI n) (hn : n < mL k) (hL : mL k ≤ 768) : vp_in x (ix_ln h (mA o k)) := by rw [M.l k hk, hx]; exact vp_in_nI hn (by omega)
theorem mL_le (k : Nat) : mL k ≤ 768 := by
  by_cases h : k < 48
  · exact (by decide +kernel : ∀ k, k < 48 → mL k ≤ 768) k h
  · have : mL k = 0 := by
      unfold mL
      rw [List.getD_eq_getElem?_getD, List.getElem?_eq_none (by show 48 ≤ k; omega)]
      rfl
    omega
theorem me_iald {k n : Nat} {x : Int32} (hd : decode (ix_by m) pc = .ok (.iaload, 1)) (M : md_ok h o) (hk : mIs k = true) (hK : mK k = 0) (hx : x = nI n) (hn : n < mL k) (kk : ix_E G m (pc + 1) lv (.int (ms h o k n) :: st) h P) : ix_E G m pc lv (.int x :: .ref (mA o k) :: st) h P := by
  refine ie_iald hd (Or.inl (by rw [M.a k hk, hK])) (me_in M hk hx hn (mL_le k)) ?_
  rw [hx, nI_clamp (by have := mL_le k; omega), ms_arr h o k n hk]
  exact kk
theorem me_zald {k n : Nat} {x : Int32} (hd : decode (ix_by m) pc = .ok (.baload, 1)) (M : md_ok h o) (hk : mIs k = true) (hK : mK k = 1) (hx : x = nI n) (hn : n < mL k) (kk : ix_E G m (pc + 1) lv (.int (ms h o k n) :: st) h P) : ix_E G m pc lv (.int x :: .ref (mA o k) :: st) h P := by
  refine ie_zald hd (by rw [M.a k hk, hK]) (me_in M hk hx hn (mL_le k)) ?_
  rw [hx, nI_clamp (by have := mL_le k; omega), ms_arr h o k n hk]
  exact kk
theorem me_iast {k n : Nat} {x y : Int32} (hd : decode (ix_by m) pc = .ok (.iastore, 1)) (M : md_ok h o) (hk : mIs k = true) (hK : mK k = 0) (hx : x = nI n) (hn : n < mL k) (kk : ix_E G m (pc + 1) lv st (ix_si h (mA o k) n y) P) : ix_E G m pc lv (.int y :: .int x :: .ref (mA o k) :: st) h P := by
  refine ie_iast hd (by rw [M.a k hk, hK]) (me_in M hk hx hn (mL_le k)) ?_
  rw [hx, nI_clamp (by have := mL_le k; omega)]
  exact kk
theorem me_zast {k n : Nat} {x y : Int32} (hd : decode (ix_by m) pc = .ok (.bastore, 1)) (M : md_ok h o) (hk : mIs k = true) (hK : mK k = 1) (hy : y = 0 ∨ y = 1) (hx : x = nI n) (hn : n < mL k) (kk : ix_E G m (pc + 1) lv st (ix_si h (mA o k) n y) P) : ix_E G m pc lv (.int y :: .int x :: .ref (mA o k) :: st) h P := by
  refine ie_zast hd (by rw [M.a k hk, hK]) hy (me_in M hk hx hn (mL_le k)) ?_
  rw [hx, nI_clamp (by have := mL_le k; omega)]
  exact kk
end MD
