/-! ===== rows of the judgement: answers and calls ===== -/
section IX5
variable {G : ix_G} {m pc : Nat} {lv : List (Nat × Value)} {st : List Value} {h h' : ix_H} {r : ix_O}
theorem ix_iret {v : Int32} {ty : FieldType} (hd : decode (ix_by m) pc = .ok (.ireturn, 1)) (hr : ix_rt m = some ty) (hn : narrow ty (.int v) = .int v) : ix_Ev G m pc lv [.int v] h (some (.int v)) h := by
  refine ⟨⟨Nat.le_refl _, Nat.le_refl _⟩, fun p l e R s mid args below meth c C H locs cells slots ls hR hS hl hc hs => ?_⟩
  rw [Nat.sub_self, Nat.sub_self, Nat.add_zero, Nat.add_zero]
  exact W.zret C.1 C.2.1 (C.2.2.2.1.trans hr) hn (fun t ht hW => ⟨rfl, by rw [ht]; exact hR, hS.F ht⟩) hS.2.2 hd (hlocks := C.2.2.2.2.1)
theorem ix_vret (hd : decode (ix_by m) pc = .ok (.return_, 1)) (hr : ix_rt m = none) : ix_Ev G m pc lv [] h none h := by
  refine ⟨⟨Nat.le_refl _, Nat.le_refl _⟩, fun p l e R s mid args below meth c C H locs cells slots ls hR hS hl hc hs => ?_⟩
  rw [Nat.sub_self, Nat.sub_self, Nat.add_zero, Nat.add_zero]
  exact W.vret C.1 C.2.1 (C.2.2.2.1.trans hr) (fun t ht hW => ⟨rfl, by rw [ht]; exact hR, hS.F ht⟩) hS.2.2 hd (hlocks := C.2.2.2.2.1)
theorem ix_aret {v : Value} {ty : FieldType} (hd : decode (ix_by m) pc = .ok (.areturn, 1)) (hr : ix_rt m = some ty) (hty : (∃ n, ty = .object n) ∨ ∃ t, ty = .array t) (hv : v = .null ∨ ∃ a, v = .ref a) : ix_Ev G m pc lv [v] h (some v) h := by
  refine ⟨⟨Nat.le_refl _, Nat.le_refl _⟩, fun p l e R s mid args below meth c C H locs cells slots ls hR hS hl hc hs => ?_⟩
  rw [Nat.sub_self, Nat.sub_self, Nat.add_zero, Nat.add_zero]
  exact W.aret C.1 C.2.1 (C.2.2.2.1.trans hr) hty hv (fun t ht hW => ⟨rfl, by rw [ht]; exact hR, hS.F ht⟩) hS.2.2 hd (hlocks := C.2.2.2.2.1)
end IX5
/-- the judgement at a method's entry is its contract -/
def ix_ws (k : Nat) : List Cond := [Cond.code (ix_y k) (ix_by k) (ix_mL k) (ix_rt k)]
def ix_rm (k c s : Nat) : Room := { frames := ix_fr k, cells := c, slots := s, locals := ix_lo k }
theorem ix_met {G : ix_G} {k : Nat} {as : List Value} {h h1 : ix_H} {r : ix_O} (l : Launch) (hM : ix_Ev G k 0 (lv_args 0 as) [] h r h1) (hp : plainFor (ix_y k) = true) (hlen : (lg_sl as).length ≤ ix_mL k) :
    Met l (ix_y k) (ix_ws k) (ix_rm k (ix_nx h1 - ix_nx h) (ix_us h1 - ix_us h)) (va_Pc as (fun U => ix_R G h U.heap ∧ ix_KU G U)) (ix_Q G r h1) (ix_nx h1 - ix_nx h) (ix_us h1 - ix_us h) (ix_A G) := by
  refine va_MetF (cc := ix_by k) (maxL := ix_mL k) (ret := ix_rt k) hp rfl ?_
  intro p e s m args below meth c s₁ B hml hv
  obtain ⟨rfl, hR, hK⟩ := hv
  have C : ix_Cx G k p l (headSpec (ix_ws k) (ix_rm k (ix_nx h1 - ix_nx h) (ix_us h1 - ix_us h))).room s m meth c := ⟨B.exec, B.bytes, hml, B.returns, B.notSynchronized, findClass_of_methodNamed B.named, (name_of_methodNamed B.named B.method).1, Nat.le_refl _, Nat.le_refl _, hK⟩
  have hl := lv_entry as (n := ix_mL k) hlen
  rw [lg_entry_eq]
  generalize (lg_sl as ++ List.replicate (ix_mL k - (lg_sl as).length) Slot.unset).toArray = ls at hl ⊢
  have K := hM.2 p l e _ s m as.toArray below meth c C s.heap [] 0 0 ls hR va_S.rf hl (by rw [Nat.zero_add]; exact Nat.le_refl _) (by rw [Nat.zero_add]; exact Nat.le_refl _)
  rw [Nat.zero_add, Nat.zero_add] at K
  exact K
/-- what is said of a callee k -/
def ix_ok (k n : Nat) : Prop := plainFor (ix_y k) = true ∧ ((ix_y k).cls ≠ "java/lang/invoke/MethodHandle" ∧ (ix_y k).cls ≠ "java/lang/invoke/VarHandle" ∧ (parseMethodDescriptor (ix_y k).desc).map (fun d => d.parameters.length) = some n) ∧ Cond.code (ix_y k) (ix_by k) (ix_mL k) (ix_rt k) ∈ ix_words ∧ Cond.initialized (ix_y k).cls ∈ ix_words
def ix_room (m k : Nat) : Prop := ix_fr k + 1 ≤ ix_fr m ∧ 8 + (ix_mL k + 11) + ix_lo k ≤ ix_lo m
section IX6
variable {p : Program} {l : Launch} {e : Env} {R : Room} {s : State} {mid : MethodId} {args : Array Value} {below : List Frame} {meth : Method} {c : Code} {H : Heap} {locs : List Loc} {cells slots : Nat} {Q : State → Prop}
theorem ix_run {G : ix_G} {pc mc ms : Nat} {ls : Array Slot} {st0 rest : List Value} {rv : ix_O} {h1 : ix_H} {a : Array Value} (hr : va_Run p l e R s mid args below meth c H locs cells slots mc ms (F0 mid pc ls st0) rest (ix_Q G rv h1 a) (ix_A G)) (hS : va_S (ix_A G) s.heap H locs)
    (kk : ∀ (H1 : Heap) (locs1 : List Loc), ix_R G h1 H1 → va_S (ix_A G) s.heap H1 locs1 → W p l e R s mid args below meth c H1 locs1 (cells + mc) (slots + ms) Q (F0 mid (pc + 3) ls (rv.toList ++ rest))) : W p l e R s mid args below meth c H locs cells slots Q (F0 mid pc ls st0) := by
  intro T hT X
  obtain ⟨v, st₀, t, T', L, h0, X', hL, e1, e2, ⟨hv, hq, hz, hk⟩, st⟩ := hr T hT X
  cases hv
  rw [h0] at hz hk
  obtain ⟨t2, a1, b1⟩ := kk T'.heap (locs ++ L) (by rw [e1]; exact hq)
    ⟨Nat.le_trans hS.1 (by rw [e1]; exact hz), fun q h1 h2 => by rw [e1, hk q (Nat.lt_of_lt_of_le h1 hS.1) h2]; exact hS.2.1 q h1 h2, fun q hq => by
      rcases List.mem_append.mp hq with h | h
      · exact hS.2.2 q h
      · exact hL q h⟩ T' rfl X'
  exact ⟨t2, st t2 a1, b1⟩
theorem ix_callB {G : ix_G} {m k n : Nat} (C : ix_Cx G m p l R s mid meth c) (hk : ix_ok k n) (hroom : ix_room m k) (cc ss : Nat) : (ix_rm k cc ss).cells = cc ∧ (ix_rm k cc ss).slots = ss ∧ (ix_rm k cc ss).frames + 1 ≤ R.frames ∧ 8 + (ix_mL k + 11) + (ix_rm k cc ss).locals ≤ R.locals ∧ (∀ w ∈ ix_ws k, ∀ (a' : Array Value) (U : State), s.WarmedH U.vm → w.before a' U = true) ∧ Cond.code (ix_y k) (ix_by k) (ix_mL k) (ix_rt k) ∈ ix_ws k := by
  refine ⟨rfl, rfl, Nat.le_trans hroom.1 C.2.2.2.2.2.2.2.1, Nat.le_trans hroom.2 C.2.2.2.2.2.2.2.2.1, fun w hw a' U hW => ?_, List.mem_singleton.mpr rfl⟩
  rw [List.mem_singleton.mp hw]
  exact va_Nw.use (ix_onT (List.mem_filter.mp hk.2.2.1).2) (ix_moveW (List.mem_filter.mp hk.2.2.1).2 hW (C.2.2.2.2.2.2.2.2.2.1 _ hk.2.2.1))
theorem ix_pre {G : ix_G} {m : Nat} {h : ix_H} {as : List Value} (C : ix_Cx G m p l R s mid meth c) (hR : ix_R G h H) (hS : va_S (ix_A G) s.heap H locs) : FrameBlind (va_Pc as (fun U => ix_R G h U.heap ∧ ix_KU G U)) ∧ ∀ U : State, U.heap = H → s.WarmedH U.vm → va_Pc as (fun U => ix_R G h U.heap ∧ ix_KU G U) as.toArray U :=
  ⟨fun a U g mk q => ⟨q.1, q.2.1, q.2.2.calling⟩, fun U hU hW => ⟨rfl, by rw [hU]; exact hR, C.2.2.2.2.2.2.2.2.2.moved hW (by rw [hU]; exact hS)⟩⟩
theorem ix_arity {k n : Nat} (hk : ix_ok k n) : ∀ sig, parseMethodDescriptor (ix_y k).desc = some sig → n = sig.parameters.length := fun sig h => by
  have h2 := hk.2.1.2.2
  rw [h] at h2
  exact (Option.some.inj h2).symm
end IX6
section IX7
variable {G : ix_G} {m pc : Nat} {lv : List (Nat × Value)} {stk st : List Value} {h h1 h' : ix_H} {r rv : ix_O}
/-- an instance method of class kc's objects -/
def ix_VL (own : String) (i k kc : Nat) : Prop := Cond.methodLink own i (ix_y k) ∈ ix_words ∧ Cond.instanceMethod (ix_y k) ∈ ix_words ∧ Cond.selects (ix_y k).cls (ix_y k) (ix_y k) ∈ ix_words ∧ kc < 10 ∧ ix_cl[kc]? = some (ix_cn kc, ix_cT kc, ix_nf kc) ∧ ix_cn kc = (ix_y k).cls
theorem ix_callV {i k kc n b : Nat} (as : List Value) (hd : decode (ix_by m) pc = .ok (.invokevirtual i, 3)) (hk : ix_ok k n) (hroom : ix_room m k) (hL : ix_VL (ix_own m) i k kc) (hstk : stk = as.reverse ++ .ref b :: st) (hn : as.length = n) (hcat : (st.map fun v => v.category).sum ≤ 8) (hsl : (lg_sl (.ref b :: as)).length ≤ ix_mL k) (hb : ix_tg h b = kc + 1)
    (hM : ix_Ev G k 0 (lv_args 0 (.ref b :: as)) [] h rv h1) (kk : ix_Ev G m (pc + 3) lv (rv.toList ++ st) h1 r h') : ix_Ev G m pc lv stk h r h' := by
  subst hstk
  obtain ⟨hl1, hl2, hl3, hkc, hcl, hcn⟩ := hL
  have m1 := hM.1
  have k1 := kk.1
  refine ⟨by omega, fun p l e R s mid args below meth c C H locs cells slots ls hR hS hl hc1 hs1 => ?_⟩
  have hts : ∀ w ∈ ix_words, w.before args s = true := fun w hw => C.w hw args
  obtain ⟨b1, b2, b3, b4, b5, b6⟩ := ix_callB C hk hroom (ix_nx h1 - ix_nx h) (ix_us h1 - ix_us h)
  obtain ⟨hblind, hpre⟩ := ix_pre (as := .ref b :: as) C hR hS
  obtain ⟨-, cellB, g1, g2, g3, -⟩ := hR.2.2.1 b kc hb hkc
  have hfc : s.vm.findClass (ix_y k).cls = some cellB.cls := by
    rw [g2, ← hcn]
    exact (C.2.2.2.2.2.2.2.2.2.2.1.1 kc _ hcl).2.1
  refine ix_run (va_runV (As := as) (rest := st) (C := (ix_y k).cls) (Ts := ix_words) (nL := ix_mL m) ⟨C.1, C.2.1, C.2.2.1, C.2.2.2.2.2.1, hts⟩ (ix_met l hM hk.1 hsl) ⟨⟨b1, b2, b3, b4, b5, b6, hts _ hk.2.2.1, hts _ hk.2.2.2, ⟨hk.2.1.1, hk.2.1.2.1⟩, ix_arity hk, hts _ hl1⟩, hts _ hl2, hts _ hl3⟩ ⟨hblind, ⟨cellB, g1, by rw [g3]; rfl, hfc⟩, hpre⟩ rfl hn hl.1 rfl (lv_room hcat) hd ⟨by omega, by omega⟩) hS fun H1 locs1 hR1 hS1 => ?_
  have K := kk.2 p l e R s mid args below meth c C H1 locs1 (cells + (ix_nx h1 - ix_nx h)) (slots + (ix_us h1 - ix_us h)) ls hR1 hS1 hl (by omega) (by omega)
  rw [show cells + (ix_nx h1 - ix_nx h) + (ix_nx h' - ix_nx h1) = cells + (ix_nx h' - ix_nx h) by omega, show slots + (ix_us h1 - ix_us h) + (ix_us h' - ix_us h1) = slots + (ix_us h' - ix_us h) by omega] at K
  exact K
/-- a static method -/
def ix_SL (own : String) (i k : Nat) : Prop := (Cond.methodLink own i (ix_y k) ∈ ix_words ∨ ∃ host : String, Cond.methodLinkNest own i (ix_y k) host ∈ ix_words) ∧ Cond.static (ix_y k) ∈ ix_words
theorem ix_callS {i k n : Nat} (as : List Value) (hd : decode (ix_by m) pc = .ok (.invokestatic i, 3)) (hk : ix_ok k n) (hroom : ix_room m k) (hL : ix_SL (ix_own m) i k) (hstk : stk = as.reverse ++ st) (hn : as.length = n) (hcat : (st.map fun v => v.category).sum ≤ 8) (hsl : (lg_sl as).length ≤ ix_mL k)
    (hM : ix_Ev G k 0 (lv_args 0 as) [] h rv h1) (kk : ix_Ev G m (pc + 3) lv (rv.toList ++ st) h1 r h') : ix_Ev G m pc lv stk h r h' := by
  subst hstk
  obtain ⟨hl1, hl2⟩ := hL
  have m1 := hM.1
  have k1 := kk.1
  refine ⟨by omega, fun p l e R s mid args below meth c C H locs cells slots ls hR hS hl hc1 hs1 => ?_⟩
  have hts : ∀ w ∈ ix_words, w.before args s = true := fun w hw => C.w hw args
  obtain ⟨b1, b2, b3, b4, b5, b6⟩ := ix_callB C hk hroom (ix_nx h1 - ix_nx h) (ix_us h1 - ix_us h)
  have hpre := ix_pre (as := as) C hR hS
  have K : ∀ (H1 : Heap) (locs1 : List Loc), ix_R G h1 H1 → va_S (ix_A G) s.heap H1 locs1 → W p l e R s mid args below meth c H1 locs1 (cells + (ix_nx h1 - ix_nx h)) (slots + (ix_us h1 - ix_us h)) (MQ below (ix_Q G r h') args s (cells + (ix_nx h' - ix_nx h)) (slots + (ix_us h' - ix_us h)) (ix_A G)) (F0 mid (pc + 3) ls (rv.toList ++ st)) := by
    intro H1 locs1 hR1 hS1
    have K := kk.2 p l e R s mid args below meth c C H1 locs1 (cells + (ix_nx h1 - ix_nx h)) (slots + (ix_us h1 - ix_us h)) ls hR1 hS1 hl (by omega) (by omega)
    rw [show cells + (ix_nx h1 - ix_nx h) + (ix_nx h' - ix_nx h1) = cells + (ix_nx h' - ix_nx h) by omega, show slots + (ix_us h1 - ix_us h) + (ix_us h' - ix_us h1) = slots + (ix_us h' - ix_us h) by omega] at K
    exact K
  rcases hl1 with hl1 | ⟨host, hl1⟩
  · exact ix_run (va_runS (As := as) (rest := st) (Ts := ix_words) (nL := ix_mL m) ⟨C.1, C.2.1, C.2.2.1, C.2.2.2.2.2.1, hts⟩ (ix_met l hM hk.1 hsl) ⟨⟨b1, b2, b3, b4, b5, b6, hts _ hk.2.2.1, hts _ hk.2.2.2, ⟨hk.2.1.1, hk.2.1.2.1⟩, ix_arity hk, hts _ hl1⟩, hts _ hl2⟩ hpre rfl hn hl.1 rfl (lv_room hcat) hd ⟨by omega, by omega⟩) hS K
  · exact ix_run (va_runSN (As := as) (rest := st) (Ts := ix_words) (nL := ix_mL m) (host := host) ⟨C.1, C.2.1, C.2.2.1, C.2.2.2.2.2.1, hts⟩ (ix_met l hM hk.1 hsl) ⟨⟨⟨b1, b2, b3, b4, b5, b6⟩, hts _ hk.2.2.1, hts _ hk.2.2.2, ⟨hk.2.1.1, hk.2.1.2.1⟩, ix_arity hk, hts _ hl1⟩, hts _ hl2, trivial⟩ hpre rfl hn hl.1 rfl (lv_room hcat) hd ⟨by omega, by omega⟩) hS K
/-- a constructor -/
def ix_IL (own : String) (i k : Nat) : Prop := (Cond.methodLink own i (ix_y k) ∈ ix_words ∨ ∃ host : String, Cond.methodLinkNest own i (ix_y k) host ∈ ix_words) ∧ Cond.instanceMethod (ix_y k) ∈ ix_words ∧ (ix_y k).name = "<init>" ∧ ix_rt k = none
theorem ix_callI {i k n b : Nat} (as : List Value) (hd : decode (ix_by m) pc = .ok (.invokespecial i, 3)) (hk : ix_ok k n) (hroom : ix_room m k) (hL : ix_IL (ix_own m) i k) (hstk : stk = as.reverse ++ .ref b :: st) (hn : as.length = n) (hcat : (st.map fun v => v.category).sum ≤ 8) (hsl : (lg_sl (.ref b :: as)).length ≤ ix_mL k)
    (hM : ix_Ev G k 0 (lv_args 0 (.ref b :: as)) [] h none h1) (kk : ix_Ev G m (pc + 3) lv st h1 r h') : ix_Ev G m pc lv stk h r h' := by
  subst hstk
  obtain ⟨hl1, hl2, hl3, hrt⟩ := hL
  have m1 := hM.1
  have k1 := kk.1
  refine ⟨by omega, fun p l e R s mid args below meth c C H locs cells slots ls hR hS hl hc1 hs1 => ?_⟩
  have hts : ∀ w ∈ ix_words, w.before args s = true := fun w hw => C.w hw args
  obtain ⟨b1, b2, b3, b4, b5, b6⟩ := ix_callB C hk hroom (ix_nx h1 - ix_nx h) (ix_us h1 - ix_us h)
  have hpre := ix_pre (as := .ref b :: as) C hR hS
  have hcd := hts _ hk.2.2.1
  rw [hrt] at b6 hcd
  have K : ∀ (H1 : Heap) (locs1 : List Loc), ix_R G h1 H1 → va_S (ix_A G) s.heap H1 locs1 → W p l e R s mid args below meth c H1 locs1 (cells + (ix_nx h1 - ix_nx h)) (slots + (ix_us h1 - ix_us h)) (MQ below (ix_Q G r h') args s (cells + (ix_nx h' - ix_nx h)) (slots + (ix_us h' - ix_us h)) (ix_A G)) (F0 mid (pc + 3) ls ((none : Option Value).toList ++ st)) := by
    intro H1 locs1 hR1 hS1
    have K := kk.2 p l e R s mid args below meth c C H1 locs1 (cells + (ix_nx h1 - ix_nx h)) (slots + (ix_us h1 - ix_us h)) ls hR1 hS1 hl (by omega) (by omega)
    rw [show cells + (ix_nx h1 - ix_nx h) + (ix_nx h' - ix_nx h1) = cells + (ix_nx h' - ix_nx h) by omega, show slots + (ix_us h1 - ix_us h) + (ix_us h' - ix_us h1) = slots + (ix_us h' - ix_us h) by omega] at K
    exact K
  rcases hl1 with hl1 | ⟨host, hl1⟩
  · exact ix_run (va_runI (As := as) (rest := st) (Ts := ix_words) (nL := ix_mL m) ⟨C.1, C.2.1, C.2.2.1, C.2.2.2.2.2.1, hts⟩ (ix_met l hM hk.1 hsl) ⟨⟨b1, b2, b3, b4, b5, b6, hcd, hts _ hk.2.2.2, ⟨hk.2.1.1, hk.2.1.2.1⟩, ix_arity hk, hts _ hl1⟩, hl3, hts _ hl2⟩ hpre rfl hn hl.1 rfl (lv_room hcat) hd ⟨by omega, by omega⟩) hS K
  · exact ix_run (va_runIN (As := as) (rest := st) (Ts := ix_words) (nL := ix_mL m) (host := host) ⟨C.1, C.2.1, C.2.2.1, C.2.2.2.2.2.1, hts⟩ (ix_met l hM hk.1 hsl) ⟨⟨⟨b1, b2, b3, b4, b5, b6⟩, hcd, hts _ hk.2.2.2, ⟨hk.2.1.1, hk.2.1.2.1⟩, ix_arity hk, hts _ hl1⟩, hl3, hts _ hl2⟩ hpre rfl hn hl.1 rfl (lv_room hcat) hd ⟨by omega, by omega⟩) hS K
end IX7
