/-! ===== a static method with a table of handlers, called ===== -/
def iy_ws (k : Nat) : List Cond := [Cond.codeWith (ix_y k) (ix_by k) (ix_mL k) (ix_rt k) (iy_xt k)]
def iy_ok (k n : Nat) : Prop := plainName (ix_y k).cls = true ∧ ((ix_y k).cls ≠ "java/lang/invoke/MethodHandle" ∧ (ix_y k).cls ≠ "java/lang/invoke/VarHandle" ∧ (parseMethodDescriptor (ix_y k).desc).map (fun d => d.parameters.length) = some n) ∧ Cond.codeWith (ix_y k) (ix_by k) (ix_mL k) (ix_rt k) (iy_xt k) ∈ ix_words ∧ Cond.initialized (ix_y k).cls ∈ ix_words
section IYV
variable {G : ix_G} {m pc : Nat} {lv : List (Nat × Value)} {stk st : List Value} {h h1 h' : ix_H} {r : iy_O} {rv : ix_O}
theorem iy_metW {k : Nat} {as : List Value} (l : Launch) (hM : iy_Ev G k 0 (lv_args 0 as) [] h (.inl rv) h1) (hp : plainName (ix_y k).cls = true) (htr : l.stackTraces = false) (hlen : (lg_sl as).length ≤ ix_mL k) :
    Met l (ix_y k) (iy_ws k) (ix_rm k (ix_nx h1 - ix_nx h) (ix_us h1 - ix_us h)) (va_Pc as (fun U => ix_R G h U.heap ∧ ix_KU G U ∧ iy_KT G U)) (ix_Q G rv h1) (ix_nx h1 - ix_nx h) (ix_us h1 - ix_us h) (ix_A G) := by
  refine va_MetW (cc := ix_by k) (maxL := ix_mL k) (ret := ix_rt k) (hh := iy_xt k) hp rfl ?_
  intro p e s m args below meth c s₁ B hml hv
  obtain ⟨rfl, hR, hK, hKT⟩ := hv
  have C : ix_Cx G k p l (headSpec (iy_ws k) (ix_rm k (ix_nx h1 - ix_nx h) (ix_us h1 - ix_us h))).room s m meth c := ⟨B.exec, B.bytes, hml, B.returns, B.notSynchronized, findClass_of_methodNamed B.named, (name_of_methodNamed B.named B.method).1, Nat.le_refl _, Nat.le_refl _, hK⟩
  have D : iy_Dx G k l s c := ⟨hKT, htr, by
    obtain ⟨m9, meth9, c9, hn9, h1, h2, -, -, h5, -, -, -⟩ := Cond.codeWith_spec (atoms_spec (ws := iy_ws k) B.pre _ List.mem_cons_self)
    cases B.named.symm.trans hn9
    cases B.method.symm.trans h1
    cases (Stand.of_body B).code.symm.trans h2
    exact h5⟩
  have hl := lv_entry as (n := ix_mL k) hlen
  rw [lg_entry_eq]
  generalize (lg_sl as ++ List.replicate (ix_mL k - (lg_sl as).length) Slot.unset).toArray = ls at hl ⊢
  have K := hM.2 p l e _ s m as.toArray below meth c C D s.heap [] 0 0 ls hR va_S.rf hl (by rw [Nat.zero_add]; exact Nat.le_refl _) (by rw [Nat.zero_add]; exact Nat.le_refl _)
  rw [Nat.zero_add, Nat.zero_add] at K
  exact K
theorem iy_callSW {i k n : Nat} (as : List Value) (hd : decode (ix_by m) pc = .ok (.invokestatic i, 3)) (hk : iy_ok k n) (hroom : ix_room m k) (hL : Cond.methodLink (ix_own m) i (ix_y k) ∈ ix_words ∧ Cond.static (ix_y k) ∈ ix_words) (hstk : stk = as.reverse ++ st) (hn : as.length = n) (hcat : (st.map fun v => v.category).sum ≤ 8) (hsl : (lg_sl as).length ≤ ix_mL k)
    (hM : iy_Ev G k 0 (lv_args 0 as) [] h (.inl rv) h1) (kk : iy_Ev G m (pc + 3) lv (rv.toList ++ st) h1 r h') : iy_Ev G m pc lv stk h r h' := by
  subst hstk
  obtain ⟨hl1, hl2⟩ := hL
  have m1 := hM.1
  have k1 := kk.1
  refine ⟨by omega, fun p l e R s mid args below meth c C D H locs cells slots ls hR hS hl hc1 hs1 => ?_⟩
  have hts : ∀ w ∈ ix_words, w.before args s = true := fun w hw => C.w hw args
  have b3 := Nat.le_trans hroom.1 C.2.2.2.2.2.2.2.1
  have b4 := Nat.le_trans hroom.2 C.2.2.2.2.2.2.2.2.1
  have b5 : ∀ w ∈ iy_ws k, ∀ (a' : Array Value) (U : State), s.WarmedH U.vm → w.before a' U = true := fun w hw a' U hW => by
    rw [List.mem_singleton.mp hw]
    exact va_Nw.use (ix_onT (List.mem_filter.mp hk.2.2.1).2) (ix_moveW (List.mem_filter.mp hk.2.2.1).2 hW (C.2.2.2.2.2.2.2.2.2.1 _ hk.2.2.1))
  intro T hT X
  have hini : ∀ (a' : Array Value) (U : State), s.WarmedH U.vm → (Cond.initialized (ix_y k).cls).before a' U = true := fun a' U hW => word_at hW (Or.inl rfl) (hts _ hk.2.2.2)
  have hK : Back l R p e below s args (ix_y k) 3 8 (PreOf R (ix_nx h1 - ix_nx h) (ix_us h1 - ix_us h) (va_Pc as (fun U => ix_R G h U.heap ∧ ix_KU G U ∧ iy_KT G U))) (PostOf (ix_Q G rv h1) (ix_nx h1 - ix_nx h) (ix_us h1 - ix_us h) (ix_A G)) :=
    va_backW (hh := iy_xt k) (bytes := ix_by k) (maxL := ix_mL k) (ret := ix_rt k) (iy_metW l hM hk.1 D.2.1 hsl) (fun a U g mk q => ⟨q.1, q.2.1, q.2.2.1.calling, q.2.2.2.calling⟩) rfl rfl b3 b4 b5 (List.mem_singleton.mpr rfl) hini
  obtain ⟨mk, methM, cM, hnamed, hmethM, -, -, -, -, -, -, hsigM⟩ := Cond.codeWith_spec (hts _ hk.2.2.1)
  have hstatic : methM.isStatic = true := Cond.static_spec hnamed hmethM (hts _ hl2)
  obtain ⟨kP, hkP, -⟩ := className_of_methodNamed hnamed
  have hinitP : kP.init = .initialized := Cond.initialized_spec (findClass_of_methodNamed hnamed) hkP (hts _ hk.2.2.2)
  have har : as.length = methM.sig.parameters.length := by
    have h2 := hk.2.1.2.2
    rw [hsigM] at h2
    rw [hn]
    exact (Option.some.inj h2).symm
  obtain ⟨vm₁, X₁, hstep₁⟩ := X.invokestatic C.1 C.2.2.2.2.2.1 (hts _ hl1) hnamed hmethM hstatic hkP hinitP ⟨hk.2.1.1, hk.2.1.2.1⟩ (g := F0 mid pc ls (as.reverse ++ st)) rfl (argsL := as) (rest := st) har rfl (by rw [C.2.1]; exact hd)
  obtain ⟨v, B, X', ⟨g', mk', t, L, f1, f2, ⟨f3, f4, f5⟩, f8, f9, f10, f11⟩, hsteps⟩ := hK mid meth c ⟨T.setVm vm₁, locs, cells, slots⟩ (F0 mid pc ls st) (.invokestatic i) mk as.toArray X₁ rfl (by rw [C.2.2.1]; exact hl.1) (by rw [C.2.1]; exact hd) (lv_room hcat) (X₁.named hnamed)
    ⟨by show cells + _ ≤ _; omega, by show slots + _ ≤ _; omega, rfl, by rw [show (T.setVm vm₁).heap = H from hT]; exact hR, C.2.2.2.2.2.2.2.2.2.moved X₁.warmed (by rw [show (T.setVm vm₁).heap = H from hT]; exact hS), D.1.moved X₁.warmed (by rw [show (T.setVm vm₁).heap = H from hT]; exact hS)⟩
  obtain ⟨U', l2, c2, s2⟩ := B
  dsimp only [Pt.U, Pt.locs, Pt.cells, Pt.slots] at X' f1 f2 f8 f10 f11 hsteps
  subst f8
  subst f10
  subst f11
  cases f3
  have hz0 : T.heap.size ≤ U'.heap.size := by rw [f1]; exact f5.1
  have hS1 : va_S (ix_A G) s.heap U'.heap (locs ++ L) := ⟨by rw [hT] at hz0; exact Nat.le_trans hS.1 hz0, fun q w1 w2 => by
      rw [f1, f5.2 q (by show q < T.heap.size; rw [hT]; exact Nat.lt_of_lt_of_le w1 hS.1) w2]
      show T.heap[q]? = _
      rw [hT]
      exact hS.2.1 q w1 w2, fun q hq => by
      rcases List.mem_append.mp hq with w | w
      · exact hS.2.2 q w
      · exact f9 q w⟩
  have K := kk.2 p l e R s mid args below meth c C D U'.heap (locs ++ L) (cells + (ix_nx h1 - ix_nx h)) (slots + (ix_us h1 - ix_us h)) ls (by rw [f1]; exact f4) hS1 hl (by omega) (by omega)
  rw [show cells + (ix_nx h1 - ix_nx h) + (ix_nx h' - ix_nx h1) = cells + (ix_nx h' - ix_nx h) by omega, show slots + (ix_us h1 - ix_us h) + (ix_us h' - ix_us h1) = slots + (ix_us h' - ix_us h) by omega] at K
  obtain ⟨t2, a1, b1'⟩ := K _ rfl X'
  exact ⟨t2, hstep₁ _ fun acts => by rw [doInvoke_state]; exact hsteps.trans a1, b1'⟩
theorem iy_lcmp {x y : Int64} (hd : decode (ix_by m) pc = .ok (.lcmp, 1)) (k : iy_Ev G m (pc + 1) lv (.int (lg_cmp x y) :: st) h r h') : iy_Ev G m pc lv (.long y :: .long x :: st) h r h' := iy_go (fun p l e R s mid args below meth c H locs cells slots Q ls hx hb hl k => W.lcmp hx hb hd k) k
/-! ===== with a postcondition ===== -/
theorem iz_thr {P : iy_O → ix_H → Prop} {i ic k t : Nat} {tx : String} (hd0 : decode (ix_by m) pc = .ok (.new i, 3)) (hd1 : decode (ix_by m) (pc + 3) = .ok (.dup, 1)) (hd2 : decode (ix_by m) (pc + 4) = .ok (.ldc t, 2)) (hd3 : decode (ix_by m) (pc + 6) = .ok (.invokespecial ic, 3)) (hd4 : decode (ix_by m) (pc + 9) = .ok (.athrow, 1))
    (hT : iy_TL i ic k) (ht : (t, tx) ∈ iy_txt) (hown : ix_own m = "FileDelivery") (hxt : iy_xt m = []) (hfr : 6 ≤ ix_fr m) (hlo : (st.map fun v => v.category).sum + 82 ≤ ix_lo m) (hp : P (.inr k) (ix_nw h 0 0 6)) : iy_E G m pc lv st h P := ⟨_, _, iy_thr hd0 hd1 hd2 hd3 hd4 hT ht hown hxt hfr hlo, hp⟩
theorem iz_lcmp {P : iy_O → ix_H → Prop} {x y : Int64} (hd : decode (ix_by m) pc = .ok (.lcmp, 1)) (k : iy_E G m (pc + 1) lv (.int (lg_cmp x y) :: st) h P) : iy_E G m pc lv (.long y :: .long x :: st) h P := by
  obtain ⟨r, h', q, hp⟩ := k
  exact ⟨r, h', iy_lcmp hd q, hp⟩
/-- a callee that throws class x, caught here -/
theorem iz_callVT {P : iy_O → ix_H → Prop} {P1 : ix_H → Prop} {i k kc n b x hpc : Nat} (as : List Value) (hd : decode (ix_by m) pc = .ok (.invokevirtual i, 3)) (hk : ix_ok k n) (hxk : iy_xt k = []) (hroom : ix_room m k) (hL : ix_VL (ix_own m) i k kc) (hstk : stk = as.reverse ++ .ref b :: st) (hn : as.length = n) (hcat : (st.map fun v => v.category).sum ≤ 8) (hsl : (lg_sl (.ref b :: as)).length ≤ ix_mL k) (hb : ix_tg h b = kc + 1)
    (hM : iy_E G k 0 (lv_args 0 (.ref b :: as)) [] h (fun r1 h1 => r1 = .inr x ∧ P1 h1)) (hX : iy_CT m pc x hpc) (kk : ∀ h1, P1 h1 → ∃ r h', (∀ a : Nat, iy_Ev G m hpc lv [.ref a] h1 r h') ∧ P r h') : iy_E G m pc lv stk h P := by
  obtain ⟨r1, h1, q1, rfl, hp1⟩ := hM
  obtain ⟨r, h', q, hp⟩ := kk h1 hp1
  exact ⟨r, h', iy_callVT as hd hk hxk hroom hL hstk hn hcat hsl hb q1 hX q, hp⟩
theorem iz_callSW {P : iy_O → ix_H → Prop} {P1 : ix_O → ix_H → Prop} {i k n : Nat} (as : List Value) (hd : decode (ix_by m) pc = .ok (.invokestatic i, 3)) (hk : iy_ok k n) (hroom : ix_room m k) (hL : Cond.methodLink (ix_own m) i (ix_y k) ∈ ix_words ∧ Cond.static (ix_y k) ∈ ix_words) (hstk : stk = as.reverse ++ st) (hn : as.length = n) (hcat : (st.map fun v => v.category).sum ≤ 8) (hsl : (lg_sl as).length ≤ ix_mL k)
    (hM : iy_E G k 0 (lv_args 0 as) [] h (fun r1 h1 => ∃ rv, r1 = .inl rv ∧ P1 rv h1)) (kk : ∀ rv h1, P1 rv h1 → iy_E G m (pc + 3) lv (rv.toList ++ st) h1 P) : iy_E G m pc lv stk h P := by
  obtain ⟨r1, h1, q1, rv, rfl, hp1⟩ := hM
  obtain ⟨r, h', q, hp⟩ := kk rv h1 hp1
  exact ⟨r, h', iy_callSW as hd hk hroom hL hstk hn hcat hsl q1 q, hp⟩
theorem iz_of {P : ix_O → ix_H → Prop} (q : ix_E G m pc lv st h P) : iy_E G m pc lv st h (fun r h' => ∃ rv, r = .inl rv ∧ P rv h') := by
  obtain ⟨r, h', q, hp⟩ := q
  exact ⟨.inl r, h', iy_of q, r, rfl, hp⟩
end IYV
set_option maxRecDepth 100000 in
theorem yk102 : iy_ok 102 6 := ⟨by decide +kernel, ⟨by decide +kernel, by decide +kernel, by decide +kernel⟩, ix_in 686 (by decide +kernel) (by decide +kernel), ix_in 59 (by decide +kernel) (by decide +kernel)⟩
set_option maxRecDepth 100000 in
theorem yk105 : iy_ok 105 4 := ⟨by decide +kernel, ⟨by decide +kernel, by decide +kernel, by decide +kernel⟩, ix_in 801 (by decide +kernel) (by decide +kernel), ix_in 59 (by decide +kernel) (by decide +kernel)⟩
set_option maxRecDepth 100000 in
theorem yk107 : iy_ok 107 5 := ⟨by decide +kernel, ⟨by decide +kernel, by decide +kernel, by decide +kernel⟩, ix_in 810 (by decide +kernel) (by decide +kernel), ix_in 59 (by decide +kernel) (by decide +kernel)⟩
set_option maxRecDepth 100000 in
theorem yk109 : iy_ok 109 8 := ⟨by decide +kernel, ⟨by decide +kernel, by decide +kernel, by decide +kernel⟩, ix_in 835 (by decide +kernel) (by decide +kernel), ix_in 59 (by decide +kernel) (by decide +kernel)⟩
theorem cl0_51 : Cond.methodLink (ix_own 0) 51 (ix_y 102) ∈ ix_words ∧ Cond.static (ix_y 102) ∈ ix_words := ⟨ix_in 684 (by decide +kernel) (by decide +kernel), ix_in 685 (by decide +kernel) (by decide +kernel)⟩
theorem cl0_59 : Cond.methodLink (ix_own 0) 59 (ix_y 105) ∈ ix_words ∧ Cond.static (ix_y 105) ∈ ix_words := ⟨ix_in 799 (by decide +kernel) (by decide +kernel), ix_in 800 (by decide +kernel) (by decide +kernel)⟩
theorem cl0_68 : Cond.methodLink (ix_own 0) 68 (ix_y 107) ∈ ix_words ∧ Cond.static (ix_y 107) ∈ ix_words := ⟨ix_in 808 (by decide +kernel) (by decide +kernel), ix_in 809 (by decide +kernel) (by decide +kernel)⟩
theorem cl0_72 : Cond.methodLink (ix_own 0) 72 (ix_y 109) ∈ ix_words ∧ Cond.static (ix_y 109) ∈ ix_words := ⟨ix_in 833 (by decide +kernel) (by decide +kernel), ix_in 834 (by decide +kernel) (by decide +kernel)⟩
theorem rm0_102 : ix_room 0 102 := ⟨by decide +kernel, by decide +kernel⟩
theorem rm0_105 : ix_room 0 105 := ⟨by decide +kernel, by decide +kernel⟩
theorem rm0_107 : ix_room 0 107 := ⟨by decide +kernel, by decide +kernel⟩
theorem rm0_109 : ix_room 0 109 := ⟨by decide +kernel, by decide +kernel⟩
/-! ===== where the helpers catch ===== -/
theorem xl13 : Cond.classLink "FileDeliveryLaw" 13 (iy_xn 0) ∈ ix_words := ix_in 687 (by decide +kernel) (by decide +kernel)
theorem xl15 : Cond.classLink "FileDeliveryLaw" 15 (iy_xn 1) ∈ ix_words := ix_in 688 (by decide +kernel) (by decide +kernel)
theorem xl17 : Cond.classLink "FileDeliveryLaw" 17 (iy_xn 2) ∈ ix_words := ix_in 689 (by decide +kernel) (by decide +kernel)
theorem xl27 : Cond.classLink "FileDeliveryLaw" 27 (iy_xn 3) ∈ ix_words := ix_in 811 (by decide +kernel) (by decide +kernel)
theorem xc102_0 : iy_CT 102 9 0 17 := ⟨[], [(0, 14, 21, 15), (0, 14, 25, 17)], (0, 14, 17, 13), rfl, fun _ h => absurd h List.not_mem_nil, by decide, rfl, by decide, xl13⟩
theorem xc102_1 : iy_CT 102 9 1 21 := ⟨[(0, 14, 17, 13)], [(0, 14, 25, 17)], (0, 14, 21, 15), rfl, List.forall_mem_cons.mpr ⟨⟨by decide, 0, by decide, xl13⟩, fun _ h => absurd h List.not_mem_nil⟩, by decide, rfl, by decide, xl15⟩
theorem xc102_2 : iy_CT 102 9 2 25 := ⟨[(0, 14, 17, 13), (0, 14, 21, 15)], [], (0, 14, 25, 17), rfl, List.forall_mem_cons.mpr ⟨⟨by decide, 0, by decide, xl13⟩, List.forall_mem_cons.mpr ⟨⟨by decide, 1, by decide, xl15⟩, fun _ h => absurd h List.not_mem_nil⟩⟩, by decide, rfl, by decide, xl17⟩
theorem xc105_1 : iy_CT 105 5 1 20 := ⟨[], [(0, 17, 24, 17)], (0, 17, 20, 15), rfl, fun _ h => absurd h List.not_mem_nil, by decide, rfl, by decide, xl15⟩
theorem xc105_2 : iy_CT 105 5 2 24 := ⟨[(0, 17, 20, 15)], [], (0, 17, 24, 17), rfl, List.forall_mem_cons.mpr ⟨⟨by decide, 1, by decide, xl15⟩, fun _ h => absurd h List.not_mem_nil⟩, by decide, rfl, by decide, xl17⟩
theorem xc107_1 : iy_CT 107 7 1 15 := ⟨[], [(0, 12, 19, 27)], (0, 12, 15, 15), rfl, fun _ h => absurd h List.not_mem_nil, by decide, rfl, by decide, xl15⟩
theorem xc107_3 : iy_CT 107 7 3 19 := ⟨[(0, 12, 15, 15)], [], (0, 12, 19, 27), rfl, List.forall_mem_cons.mpr ⟨⟨by decide, 1, by decide, xl15⟩, fun _ h => absurd h List.not_mem_nil⟩, by decide, rfl, by decide, xl27⟩
theorem xc109_0 : iy_CT 109 13 0 21 := ⟨[], [(0, 18, 25, 15), (0, 18, 29, 17)], (0, 18, 21, 13), rfl, fun _ h => absurd h List.not_mem_nil, by decide, rfl, by decide, xl13⟩
theorem xc109_1 : iy_CT 109 13 1 25 := ⟨[(0, 18, 21, 13)], [(0, 18, 29, 17)], (0, 18, 25, 15), rfl, List.forall_mem_cons.mpr ⟨⟨by decide, 0, by decide, xl13⟩, fun _ h => absurd h List.not_mem_nil⟩, by decide, rfl, by decide, xl15⟩
theorem xc109_2 : iy_CT 109 13 2 29 := ⟨[(0, 18, 21, 13), (0, 18, 25, 15)], [], (0, 18, 29, 17), rfl, List.forall_mem_cons.mpr ⟨⟨by decide, 0, by decide, xl13⟩, List.forall_mem_cons.mpr ⟨⟨by decide, 1, by decide, xl15⟩, fun _ h => absurd h List.not_mem_nil⟩⟩, by decide, rfl, by decide, xl17⟩
