/-! ===== walks of the reference by its numbers alone: the heap is any that stands so to the first one ===== -/
theorem mset_s {S : MS} {k j : Nat} {x : Int32} : mset S k j x k j = x := if_pos ⟨rfl, Or.inl rfl⟩
theorem mset_k {S : MS} {k j k' j' : Nat} {x : Int32} (h : k' ≠ k) : mset S k j x k' j' = S k' j' := if_neg (fun z => h z.1)
theorem mset_j {S : MS} {k j j' : Nat} {x : Int32} (hk : mIs k = true) (h : j' ≠ j) : mset S k j x k j' = S k j' := if_neg (fun z => z.2.elim h (fun q => by rw [hk] at q; cases q))
theorem mset_if {S : MS} {k j j' : Nat} {x : Int32} (hk : mIs k = true) : mset S k j x k j' = if j' = j then x else S k j' := by
  by_cases e : j' = j
  · subst e
    rw [if_pos rfl, mset_s]
  · rw [if_neg e, mset_j hk e]
theorem mset_mset {S : MS} {k j : Nat} {x y : Int32} : mset (mset S k j x) k j y = mset S k j y := by
  funext k' j'
  unfold mset
  by_cases e : k' = k ∧ (j' = j ∨ mIs k = false)
  · rw [if_pos e, if_pos e]
  · rw [if_neg e, if_neg e, if_neg e]
section MX
variable {G : ix_G} {m pc o : Nat} {lv : List (Nat × Value)} {st : List Value} {h0 h : ix_H} {S : MS} {P : ix_O → ix_H → Prop}
theorem mx_geti {i j : Nat} (r : mR o h0 h S) (M : md_ok h0 o) (hd : decode (ix_by m) pc = .ok (.getfield i, 3)) (hF : ix_FL (ix_own m) i 8 j 0) (hj : mIs j = false) (kk : ix_E G m (pc + 3) lv (.int (S j 0) :: st) h P) : ix_E G m pc lv (.ref o :: st) h P := me_geti hd hF (r.ok M) hj (by rw [r.2.2]; exact kk)
theorem mx_getr {i j : Nat} (r : mR o h0 h S) (M : md_ok h0 o) (hd : decode (ix_by m) pc = .ok (.getfield i, 3)) (hF : ix_FL (ix_own m) i 8 j 2) (hj : mIs j = true) (kk : ix_E G m (pc + 3) lv (.ref (mA o j) :: st) h P) : ix_E G m pc lv (.ref o :: st) h P := me_getr hd hF (r.ok M) hj kk
theorem mx_puti {i j : Nat} {x : Int32} (r : mR o h0 h S) (M : md_ok h0 o) (hd : decode (ix_by m) pc = .ok (.putfield i, 3)) (hF : ix_FL (ix_own m) i 8 j 0) (hj : mIs j = false) (hfin : (ix_cT 8 j).2.2.2 = false) (hty : ix_ty 8 j = .int) (kk : ∀ h1, mR o h0 h1 (mset S j 0 x) → ix_E G m (pc + 3) lv st h1 P) : ix_E G m pc lv (.int x :: .ref o :: st) h P := me_puti hd hF hfin hty (r.ok M) (kk _ (r.setF hj))
theorem mx_iald {k n : Nat} {x : Int32} (r : mR o h0 h S) (M : md_ok h0 o) (hd : decode (ix_by m) pc = .ok (.iaload, 1)) (hk : mIs k = true) (hK : mK k = 0) (hx : x = nI n) (hn : n < mL k) (kk : ix_E G m (pc + 1) lv (.int (S k n) :: st) h P) : ix_E G m pc lv (.int x :: .ref (mA o k) :: st) h P := me_iald hd (r.ok M) hk hK hx hn (by rw [r.2.2]; exact kk)
theorem mx_zald {k n : Nat} {x : Int32} (r : mR o h0 h S) (M : md_ok h0 o) (hd : decode (ix_by m) pc = .ok (.baload, 1)) (hk : mIs k = true) (hK : mK k = 1) (hx : x = nI n) (hn : n < mL k) (kk : ix_E G m (pc + 1) lv (.int (S k n) :: st) h P) : ix_E G m pc lv (.int x :: .ref (mA o k) :: st) h P := me_zald hd (r.ok M) hk hK hx hn (by rw [r.2.2]; exact kk)
theorem mx_iast {k n : Nat} {x y : Int32} (r : mR o h0 h S) (M : md_ok h0 o) (hd : decode (ix_by m) pc = .ok (.iastore, 1)) (hk : mIs k = true) (hK : mK k = 0) (hx : x = nI n) (hn : n < mL k) (kk : ∀ h1, mR o h0 h1 (mset S k n y) → ix_E G m (pc + 1) lv st h1 P) : ix_E G m pc lv (.int y :: .int x :: .ref (mA o k) :: st) h P := me_iast hd (r.ok M) hk hK hx hn (kk _ (r.set hk))
theorem mx_zast {k n : Nat} {x y : Int32} (r : mR o h0 h S) (M : md_ok h0 o) (hd : decode (ix_by m) pc = .ok (.bastore, 1)) (hk : mIs k = true) (hK : mK k = 1) (hy : y = 0 ∨ y = 1) (hx : x = nI n) (hn : n < mL k) (kk : ∀ h1, mR o h0 h1 (mset S k n y) → ix_E G m (pc + 1) lv st h1 P) : ix_E G m pc lv (.int y :: .int x :: .ref (mA o k) :: st) h P := me_zast hd (r.ok M) hk hK hy hx hn (kk _ (r.set hk))
/-- a call of one of its own methods -/
theorem mx_call {stk : List Value} {i k n : Nat} {rv : ix_O} {S1 : MS} (r : mR o h0 h S) (M : md_ok h0 o) (as : List Value) (hd : decode (ix_by m) pc = .ok (.invokevirtual i, 3)) (hk : ix_ok k n) (hroom : ix_room m k) (hL : ix_VL (ix_own m) i k 8) (hstk : stk = as.reverse ++ .ref o :: st) (hn : as.length = n) (hcat : (st.map fun v => v.category).sum ≤ 8) (hsl : (lg_sl (.ref o :: as)).length ≤ ix_mL k)
    (hM : ix_E G k 0 (lv_args 0 (.ref o :: as)) [] h (fun r1 h1 => r1 = rv ∧ mR o h h1 S1)) (kk : ∀ h1, mR o h0 h1 S1 → ix_E G m (pc + 3) lv (rv.toList ++ st) h1 P) : ix_E G m pc lv stk h P := by
  refine ie_callV as hd hk hroom hL hstk hn hcat hsl (r.ok M).t hM (fun r1 h1 hq => ?_)
  obtain ⟨rfl, hq⟩ := hq
  exact kk h1 (r.tr hq)
/-- the same, of a method that only reads -/
theorem mx_ask {stk : List Value} {i k n : Nat} {rv : ix_O} (r : mR o h0 h S) (M : md_ok h0 o) (as : List Value) (hd : decode (ix_by m) pc = .ok (.invokevirtual i, 3)) (hk : ix_ok k n) (hroom : ix_room m k) (hL : ix_VL (ix_own m) i k 8) (hstk : stk = as.reverse ++ .ref o :: st) (hn : as.length = n) (hcat : (st.map fun v => v.category).sum ≤ 8) (hsl : (lg_sl (.ref o :: as)).length ≤ ix_mL k)
    (hM : ix_Ev G k 0 (lv_args 0 (.ref o :: as)) [] h rv h) (kk : ix_E G m (pc + 3) lv (rv.toList ++ st) h P) : ix_E G m pc lv stk h P := ie_callVx as hd hk hroom hL hstk hn hcat hsl (r.ok M).t hM kk
end MX
/-! locals behind a store -/
theorem ix_lk1 {lv : List (Nat × Value)} {i : Nat} {v : Value} : (ix_set lv i v).lookup i = some v := by
  simp [ix_set, List.lookup]
theorem ix_lk3 {lv : List (Nat × Value)} {i j : Nat} {v w : Value} (h : j ≠ i) (hl : lv.lookup j = some w) (hw : w.category = 1) : (ix_set lv i v).lookup j = some w := by
  have e0 : (j == i) = false := by simpa using h
  unfold ix_set
  simp only [List.lookup, e0]
  induction lv with
  | nil => cases hl
  | cons q t ih =>
    obtain ⟨a, b⟩ := q
    by_cases e : j = a
    · subst e
      have eb : b = w := by simpa [List.lookup] using hl
      subst eb
      rw [List.filter_cons_of_pos (by simp [h, hw])]
      simp [List.lookup]
    · have e2 : (j == a) = false := by simpa using e
      have hl2 : t.lookup j = some w := by simpa only [List.lookup, e2] using hl
      rw [List.filter_cons]
      split
      · simp only [List.lookup, e2]
        exact ih hl2
      · exact ih hl2
