/-! ===== small rows for the methods' contracts ===== -/
def bI (c : Prop) [Decidable c] : Int32 := if c then 1 else 0
theorem bI_t {c : Prop} [Decidable c] (h : c) : bI c = 1 := if_pos h
theorem bI_f {c : Prop} [Decidable c] (h : ¬ c) : bI c = 0 := if_neg h
theorem bI_01 (c : Prop) [Decidable c] : bI c = 0 ∨ bI c = 1 := by
  unfold bI
  split
  · exact Or.inr rfl
  · exact Or.inl rfl
theorem bI_0 {c : Prop} [Decidable c] : bI c = 0 ↔ ¬ c := by
  unfold bI
  split
  · rename_i h; exact ⟨fun e => absurd e (by decide), fun e => absurd h e⟩
  · rename_i h; exact ⟨fun _ => h, fun _ => rfl⟩
theorem bI_1 {c : Prop} [Decidable c] : bI c = 1 ↔ c := by
  unfold bI
  split
  · rename_i h; exact ⟨fun _ => h, fun _ => rfl⟩
  · rename_i h; exact ⟨fun e => absurd e (by decide), fun e => absurd e h⟩
theorem ix_bz {x : Int32} (h : x = 0 ∨ x = 1) : narrow .boolean (.int x) = .int x ∧ fits .boolean (.int x) = true := by
  rcases h with rfl | rfl <;> exact ⟨by decide +kernel, by decide +kernel⟩
theorem ix_ofE {G : ix_G} {m pc : Nat} {lv : List (Nat × Value)} {st : List Value} {h h' : ix_H} {r : ix_O} (hE : ix_E G m pc lv st h (fun r1 h1 => r1 = r ∧ h1 = h')) : ix_Ev G m pc lv st h r h' := by
  obtain ⟨r1, h1, q, e1, e2⟩ := hE
  subst e1
  subst e2
  exact q
section IE2
variable {G : ix_G} {m pc : Nat} {lv : List (Nat × Value)} {stk st : List Value} {h h1 : ix_H} {rv : ix_O} {P : ix_O → ix_H → Prop}
theorem ie_callVx {i k kc n b : Nat} (as : List Value) (hd : decode (ix_by m) pc = .ok (.invokevirtual i, 3)) (hk : ix_ok k n) (hroom : ix_room m k) (hL : ix_VL (ix_own m) i k kc) (hstk : stk = as.reverse ++ .ref b :: st) (hn : as.length = n) (hcat : (st.map fun v => v.category).sum ≤ 8) (hsl : (lg_sl (.ref b :: as)).length ≤ ix_mL k) (hb : ix_tg h b = kc + 1) (hM : ix_Ev G k 0 (lv_args 0 (.ref b :: as)) [] h rv h1) (kk : ix_E G m (pc + 3) lv (rv.toList ++ st) h1 P) : ix_E G m pc lv stk h P := by
  obtain ⟨r, h', q, hp⟩ := kk
  exact ⟨r, h', ix_callV as hd hk hroom hL hstk hn hcat hsl hb hM q, hp⟩
theorem ie_callSx {i k n : Nat} (as : List Value) (hd : decode (ix_by m) pc = .ok (.invokestatic i, 3)) (hk : ix_ok k n) (hroom : ix_room m k) (hL : ix_SL (ix_own m) i k) (hstk : stk = as.reverse ++ st) (hn : as.length = n) (hcat : (st.map fun v => v.category).sum ≤ 8) (hsl : (lg_sl as).length ≤ ix_mL k) (hM : ix_Ev G k 0 (lv_args 0 as) [] h rv h1) (kk : ix_E G m (pc + 3) lv (rv.toList ++ st) h1 P) : ix_E G m pc lv stk h P := by
  obtain ⟨r, h', q, hp⟩ := kk
  exact ⟨r, h', ix_callS as hd hk hroom hL hstk hn hcat hsl hM q, hp⟩
theorem ie_callIx {i k n b : Nat} (as : List Value) (hd : decode (ix_by m) pc = .ok (.invokespecial i, 3)) (hk : ix_ok k n) (hroom : ix_room m k) (hL : ix_IL (ix_own m) i k) (hstk : stk = as.reverse ++ .ref b :: st) (hn : as.length = n) (hcat : (st.map fun v => v.category).sum ≤ 8) (hsl : (lg_sl (.ref b :: as)).length ≤ ix_mL k) (hM : ix_Ev G k 0 (lv_args 0 (.ref b :: as)) [] h none h1) (kk : ix_E G m (pc + 3) lv st h1 P) : ix_E G m pc lv stk h P := by
  obtain ⟨r, h', q, hp⟩ := kk
  exact ⟨r, h', ix_callI as hd hk hroom hL hstk hn hcat hsl hM q, hp⟩
end IE2
/-- the numbers that the code writes -/
theorem tI : (0 : Int32).toInt = 0 ∧ (1 : Int32).toInt = 1 ∧ (2 : Int32).toInt = 2 ∧ (3 : Int32).toInt = 3 ∧ (4 : Int32).toInt = 4 ∧ (5 : Int32).toInt = 5 ∧ (6 : Int32).toInt = 6 ∧ (7 : Int32).toInt = 7 ∧ (8 : Int32).toInt = 8 ∧ (15 : Int32).toInt = 15 ∧ (16 : Int32).toInt = 16 ∧ (24 : Int32).toInt = 24 ∧ (64 : Int32).toInt = 64 ∧ (320 : Int32).toInt = 320 ∧ (512 : Int32).toInt = 512 ∧ (-1 : Int32).toInt = -1 := by decide +kernel
