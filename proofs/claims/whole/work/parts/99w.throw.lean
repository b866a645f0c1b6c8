/-! ===== what a throw needs of the state: Throwable's two statics, the texts, which exception is no other ===== -/
def iy_St (O f d : String) (A : Nat → Prop) (U : State) : Prop := ∃ (c i a : Nat) (k : Class) (fd : Field) (cell : Cell) (v : RefV), U.vm.findClass O = some c ∧ U.fieldFound? O f d = some (c, k, i, fd) ∧ fd.isStatic = true ∧ k.statics = some a ∧ U.heap[a]? = some cell ∧ cell.vm.isStatics = true ∧ cell.cls = c ∧ fd.slot < cell.slots.size ∧ k.staticTypes[fd.slot]? = some fd.type ∧ cell.slots[fd.slot]? = some v.v ∧ ¬ A a
theorem iy_St.moved {O f d : String} {A : Nat → Prop} {u U : State} (hvm : u.vm.Alike U.vm) (hk : ∀ q : Nat, q < u.heap.size → ¬ A q → U.heap[q]? = u.heap[q]?) (h : iy_St O f d A u) : iy_St O f d A U := by
  obtain ⟨c, i, a, k, fd, cell, v, h1, h2, h3, h4, h5, h6, h7, h8, h9, h10, h11⟩ := h
  obtain ⟨k', hi', he⟩ := State.fieldFound?_setVm hvm h2
  exact ⟨c, i, a, k', fd, cell, v, by rw [hvm.findClass]; exact h1, hi', h3, by rw [he]; exact h4, by rw [hk a (Array.getElem?_eq_some_iff.mp h5).1 h11]; exact h5, h6, h7, h8, by rw [he]; exact h9, h10, h11⟩
theorem iy_St.lays {O f d : String} {A : Nat → Prop} {U : State} (h : iy_St O f d A U) (args : Array Value) : (Cond.laysStatic O f d).before args U = true := by
  obtain ⟨c, i, a, k, fd, cell, v, h1, h2, h3, h4, h5, h6, h7, h8, h9, h10, h11⟩ := h
  exact Cond.laysStatic_of h1 h2 h3 h4 h5 h6 h7 h8 h9
/-- one exception's class isn't another's -/
def iy_nc (x y : String) (U : State) : Prop := ∃ cx cy : ClassId, U.vm.findClass x = some cx ∧ U.vm.findClass y = some cy ∧ U.vm.assignable cx cy = false
theorem iy_nc.moved {x y : String} {u U : State} (hvm : u.vm.Alike U.vm) (h : iy_nc x y u) : iy_nc x y U := by
  obtain ⟨cx, cy, h1, h2, h3⟩ := h
  exact ⟨cx, cy, by rw [hvm.findClass]; exact h1, by rw [hvm.findClass]; exact h2, by rw [hvm.assignable]; exact h3⟩
/-- the class of byte[][] -/
def iy_AB (U : State) : Prop := (Cond.arrayOver (.array .byte)).before #[] U = true
theorem iy_AB.moved {u U : State} (hvm : u.vm.Alike U.vm) (h : iy_AB u) : iy_AB U := by
  have hi : ∀ comp : ClassId, (U.vm.classes.findIdx? fun (x : Class) => match x.kind with | .array component _ => component == comp | _ => false) = (u.vm.classes.findIdx? fun (x : Class) => match x.kind with | .array component _ => component == comp | _ => false) := fun comp => by
    have e := hvm.bare_eq
    have e1 := va_idx_bare U.vm comp
    have e2 := va_idx_bare u.vm comp
    first
      | exact e1.symm.trans ((congrArg (fun b : Vm => b.classes.findIdx? fun (x : Class) => match x.kind with | .array component _ => component == comp | _ => false) e).trans e2)
      | exact e1.symm.trans ((congrArg (fun b : Vm => b.classes.findIdx? fun (x : Class) => match x.kind with | .array component _ => component == comp | _ => false) e.symm).trans e2)
  unfold iy_AB Cond.before Cond.holds at h ⊢
  simp only [Cond.value, beq_iff_eq] at h ⊢
  rw [hvm.findClass, hvm.findClass]
  obtain ⟨comp, hc, h⟩ := Option.bind_eq_some_iff.mp h
  obtain ⟨c, hx, h⟩ := Option.bind_eq_some_iff.mp h
  obtain ⟨k, hk, h⟩ := Option.map_eq_some_iff.mp h
  obtain ⟨k', hk', he⟩ := hvm.2.2 _ _ hk
  refine Option.bind_eq_some_iff.mpr ⟨comp, hc, Option.bind_eq_some_iff.mpr ⟨c, (hi comp).trans hx, Option.map_eq_some_iff.mpr ⟨k', hk', ?_⟩⟩⟩
  rw [he]
  exact h
def iy_xn (k : Nat) : String := match k with
  | 0 => "java/lang/IllegalArgumentException"
  | 1 => "java/util/NoSuchElementException"
  | 2 => "java/lang/IllegalStateException"
  | _ => "java/lang/IndexOutOfBoundsException"
def iy_txt : List (Nat × String) := [(50, "no such entity or file, or not 1 to 8 bytes"), (57, "the file is not there"), (69, "the file is locked or would have more than 64 bytes"), (79, "the file is locked"), (86, "the file has no such byte"), (96, "no such entity or file"), (98, "no such class or request"), (113, "three senders are open")]
def iy_nx : List (Nat × Nat) := [(1, 0), (2, 0), (2, 1), (3, 1)]
def iy_KT (G : ix_G) (U : State) : Prop := iy_St Bundle.tN "UNASSIGNED_STACK" Bundle.steD (ix_A G) U ∧ iy_St Bundle.tN "SUPPRESSED_SENTINEL" Bundle.listD (ix_A G) U ∧ (∀ q ∈ iy_txt, ∃ a : Nat, vk_R "FileDelivery" q.1 q.2 a U) ∧ (∀ q ∈ iy_nx, iy_nc (iy_xn q.1) (iy_xn q.2) U) ∧ iy_AB U
theorem iy_KT.moved {G : ix_G} {s U : State} (h : iy_KT G s) (hW : s.WarmedH U.vm) {locs : List Loc} (hS : va_S (ix_A G) s.heap U.heap locs) : iy_KT G U := by
  obtain ⟨h1, h2, h3, h4, h5⟩ := h
  refine ⟨h1.moved hW.alike hS.2.1, h2.moved hW.alike hS.2.1, fun q hq => ?_, fun q hq => (h4 q hq).moved hW.alike, h5.moved hW.alike⟩
  obtain ⟨a, ha⟩ := h3 q hq
  exact ⟨a, ha.warm hW⟩
theorem iy_KT.calling {G : ix_G} {U : State} {g : JFrame} {mk : MethodId} {a : Array Value} (h : iy_KT G U) : iy_KT G (U.calling g mk a) := by
  obtain ⟨h1, h2, h3, h4, h5⟩ := h
  have hv : U.vm.Alike (U.calling g mk a).vm := Vm.Alike.refl U.vm
  refine ⟨h1.moved hv (fun _ _ _ => rfl), h2.moved hv (fun _ _ _ => rfl), fun q hq => ?_, fun q hq => (h4 q hq).moved hv, h5.moved hv⟩
  obtain ⟨b, hb⟩ := h3 q hq
  exact ⟨b, vk_R.same rfl hb⟩
/-- the tables of handlers -/
def iy_xt (m : Nat) : List (Nat × Nat × Nat × Nat) := match m with
  | 102 => [(0, 14, 17, 13), (0, 14, 21, 15), (0, 14, 25, 17)]
  | 105 => [(0, 17, 20, 15), (0, 17, 24, 17)]
  | 107 => [(0, 12, 15, 15), (0, 12, 19, 27)]
  | 109 => [(0, 18, 21, 13), (0, 18, 25, 15), (0, 18, 29, 17)]
  | _ => []
def iy_Dx (G : ix_G) (m : Nat) (l : Launch) (s : State) (c : Code) : Prop := iy_KT G s ∧ l.stackTraces = false ∧ c.exceptionTable.toList.map (fun h => (h.startPc, h.endPc, h.handlerPc, h.catchType)) = iy_xt m
theorem iy_Dx.off {G : ix_G} {m : Nat} {l : Launch} {s : State} {c : Code} (D : iy_Dx G m l s c) {e : Env} (ha : l.admits e) : e.platform.stackTraces = false := by
  obtain ⟨-, -, -, -, hp, -⟩ := ha
  rw [hp]
  exact D.2.1
/-- how a method may end: it answers, or it throws an exception of class k -/
abbrev iy_O : Type := Option Value ⊕ Nat
def iy_T (G : ix_G) (k : Nat) (h' : ix_H) (s : State) (a : Addr) (t : State) : Prop := (∃ cell : Cell, t.heap[a]? = some cell ∧ cell.vm = .none ∧ s.vm.findClass (iy_xn k) = some cell.cls) ∧ ix_R G h' t.heap ∧ va_F (ix_A G) s t
def iy_MT (below : List Frame) (Qt : State → Addr → State → Prop) (s : State) (mc ms : Nat) (free : Addr → Prop) : State → Prop := fun t =>
  ∃ a, t.status = .running ∧ Ended t below (.threw a) ∧ Qt s a t ∧ ∃ L, FrameEndT s (.threw a) t L mc ms ∧ ∀ q ∈ L, free q.base
def iy_PQ (below : List Frame) (G : ix_G) (o : iy_O) (h' : ix_H) (args : Array Value) (s : State) (mc ms : Nat) : State → Prop := match o with
  | .inl r => MQ below (ix_Q G r h') args s mc ms (ix_A G)
  | .inr k => iy_MT below (iy_T G k h') s mc ms (ix_A G)
/-- THE JUDGEMENT WITH THROWS -/
def iy_Ev (G : ix_G) (m pc : Nat) (lv : List (Nat × Value)) (st : List Value) (h : ix_H) (r : iy_O) (h' : ix_H) : Prop :=
  (ix_nx h ≤ ix_nx h' ∧ ix_us h ≤ ix_us h') ∧ ∀ (p : Program) (l : Launch) (e : Env) (R : Room) (s : State) (mid : MethodId) (args : Array Value) (below : List Frame) (meth : Method) (c : Code), ix_Cx G m p l R s mid meth c → iy_Dx G m l s c →
    ∀ (H : Heap) (locs : List Loc) (cells slots : Nat) (ls : Array Slot), ix_R G h H → va_S (ix_A G) s.heap H locs → lv_has ls (ix_mL m) lv → cells + (ix_nx h' - ix_nx h) ≤ R.cells → slots + (ix_us h' - ix_us h) ≤ R.slots →
      W p l e R s mid args below meth c H locs cells slots (iy_PQ below G r h' args s (cells + (ix_nx h' - ix_nx h)) (slots + (ix_us h' - ix_us h))) (F0 mid pc ls st)
theorem iy_of {G : ix_G} {m pc : Nat} {lv : List (Nat × Value)} {st : List Value} {h h' : ix_H} {r : ix_O} (q : ix_Ev G m pc lv st h r h') : iy_Ev G m pc lv st h (.inl r) h' := ⟨q.1, fun p l e R s mid args below meth c C _ H locs cells slots ls hR hS hl hc hs => q.2 p l e R s mid args below meth c C H locs cells slots ls hR hS hl hc hs⟩
