/-! ===== the abstract heap: what lies at an address (0: nothing of ours; k + 1: an object of class k; 100 + t: an array of kind t; 200 + t: one that nobody writes), an array's length, ints, longs, references, the next address, the slots in use ===== -/
abbrev ix_H : Type := (Nat → Nat) × (Nat → Nat) × (Nat → Nat → Int32) × (Nat → Nat → Int64) × (Nat → Nat → Option Nat) × Nat × Nat
def ix_tg (h : ix_H) (a : Nat) : Nat := h.1 a
def ix_ln (h : ix_H) (a : Nat) : Nat := h.2.1 a
def ix_i (h : ix_H) (a k : Nat) : Int32 := h.2.2.1 a k
def ix_l (h : ix_H) (a k : Nat) : Int64 := h.2.2.2.1 a k
def ix_r (h : ix_H) (a k : Nat) : Option Nat := h.2.2.2.2.1 a k
def ix_nx (h : ix_H) : Nat := h.2.2.2.2.2.1
def ix_us (h : ix_H) : Nat := h.2.2.2.2.2.2
def ix_up2 {α : Type} (f : Nat → Nat → α) (a k : Nat) (x : α) : Nat → Nat → α := fun b j => if b = a ∧ j = k then x else f b j
def ix_si (h : ix_H) (a k : Nat) (x : Int32) : ix_H := (h.1, h.2.1, ix_up2 h.2.2.1 a k x, h.2.2.2)
def ix_sl (h : ix_H) (a k : Nat) (x : Int64) : ix_H := (h.1, h.2.1, h.2.2.1, ix_up2 h.2.2.2.1 a k x, h.2.2.2.2)
def ix_sr (h : ix_H) (a k : Nat) (x : Option Nat) : ix_H := (h.1, h.2.1, h.2.2.1, h.2.2.2.1, ix_up2 h.2.2.2.2.1 a k x, h.2.2.2.2.2)
/-- a new cell: its tag, length, slots -/
def ix_nw (h : ix_H) (tg n w : Nat) : ix_H := (va_up h.1 (ix_nx h) tg, va_up h.2.1 (ix_nx h) n, va_up h.2.2.1 (ix_nx h) (fun _ => 0), va_up h.2.2.2.1 (ix_nx h) (fun _ => 0), va_up h.2.2.2.2.1 (ix_nx h) (fun _ => none), ix_nx h + 1, ix_us h + w)
theorem ix_i_si (h : ix_H) (a k : Nat) (x : Int32) (b j : Nat) : ix_i (ix_si h a k x) b j = if b = a ∧ j = k then x else ix_i h b j := rfl
theorem ix_l_si (h : ix_H) (a k : Nat) (x : Int32) (b j : Nat) : ix_l (ix_si h a k x) b j = ix_l h b j := rfl
theorem ix_r_si (h : ix_H) (a k : Nat) (x : Int32) (b j : Nat) : ix_r (ix_si h a k x) b j = ix_r h b j := rfl
theorem ix_tg_si (h : ix_H) (a k : Nat) (x : Int32) (b : Nat) : ix_tg (ix_si h a k x) b = ix_tg h b := rfl
theorem ix_ln_si (h : ix_H) (a k : Nat) (x : Int32) (b : Nat) : ix_ln (ix_si h a k x) b = ix_ln h b := rfl
theorem ix_nx_si (h : ix_H) (a k : Nat) (x : Int32) : ix_nx (ix_si h a k x) = ix_nx h := rfl
theorem ix_us_si (h : ix_H) (a k : Nat) (x : Int32) : ix_us (ix_si h a k x) = ix_us h := rfl
theorem ix_i_sl (h : ix_H) (a k : Nat) (x : Int64) (b j : Nat) : ix_i (ix_sl h a k x) b j = ix_i h b j := rfl
theorem ix_l_sl (h : ix_H) (a k : Nat) (x : Int64) (b j : Nat) : ix_l (ix_sl h a k x) b j = if b = a ∧ j = k then x else ix_l h b j := rfl
theorem ix_r_sl (h : ix_H) (a k : Nat) (x : Int64) (b j : Nat) : ix_r (ix_sl h a k x) b j = ix_r h b j := rfl
theorem ix_tg_sl (h : ix_H) (a k : Nat) (x : Int64) (b : Nat) : ix_tg (ix_sl h a k x) b = ix_tg h b := rfl
theorem ix_ln_sl (h : ix_H) (a k : Nat) (x : Int64) (b : Nat) : ix_ln (ix_sl h a k x) b = ix_ln h b := rfl
theorem ix_nx_sl (h : ix_H) (a k : Nat) (x : Int64) : ix_nx (ix_sl h a k x) = ix_nx h := rfl
theorem ix_us_sl (h : ix_H) (a k : Nat) (x : Int64) : ix_us (ix_sl h a k x) = ix_us h := rfl
theorem ix_i_sr (h : ix_H) (a k : Nat) (x : Option Nat) (b j : Nat) : ix_i (ix_sr h a k x) b j = ix_i h b j := rfl
theorem ix_l_sr (h : ix_H) (a k : Nat) (x : Option Nat) (b j : Nat) : ix_l (ix_sr h a k x) b j = ix_l h b j := rfl
theorem ix_r_sr (h : ix_H) (a k : Nat) (x : Option Nat) (b j : Nat) : ix_r (ix_sr h a k x) b j = if b = a ∧ j = k then x else ix_r h b j := rfl
theorem ix_tg_sr (h : ix_H) (a k : Nat) (x : Option Nat) (b : Nat) : ix_tg (ix_sr h a k x) b = ix_tg h b := rfl
theorem ix_ln_sr (h : ix_H) (a k : Nat) (x : Option Nat) (b : Nat) : ix_ln (ix_sr h a k x) b = ix_ln h b := rfl
theorem ix_nx_sr (h : ix_H) (a k : Nat) (x : Option Nat) : ix_nx (ix_sr h a k x) = ix_nx h := rfl
theorem ix_us_sr (h : ix_H) (a k : Nat) (x : Option Nat) : ix_us (ix_sr h a k x) = ix_us h := rfl
theorem ix_i_nw (h : ix_H) (t n w b j : Nat) : ix_i (ix_nw h t n w) b j = if b = ix_nx h then 0 else ix_i h b j := by
  simp only [ix_i, ix_nw, va_up]
  split <;> rfl
theorem ix_l_nw (h : ix_H) (t n w b j : Nat) : ix_l (ix_nw h t n w) b j = if b = ix_nx h then 0 else ix_l h b j := by
  simp only [ix_l, ix_nw, va_up]
  split <;> rfl
theorem ix_r_nw (h : ix_H) (t n w b j : Nat) : ix_r (ix_nw h t n w) b j = if b = ix_nx h then none else ix_r h b j := by
  simp only [ix_r, ix_nw, va_up]
  split <;> rfl
theorem ix_tg_nw (h : ix_H) (t n w b : Nat) : ix_tg (ix_nw h t n w) b = if b = ix_nx h then t else ix_tg h b := rfl
theorem ix_ln_nw (h : ix_H) (t n w b : Nat) : ix_ln (ix_nw h t n w) b = if b = ix_nx h then n else ix_ln h b := rfl
theorem ix_nx_nw (h : ix_H) (t n w : Nat) : ix_nx (ix_nw h t n w) = ix_nx h + 1 := rfl
theorem ix_us_nw (h : ix_H) (t n w : Nat) : ix_us (ix_nw h t n w) = ix_us h + w := rfl
/-- a place's value, by its kind (0: an int, 1: a long, 2: a reference) -/
def ix_v (h : ix_H) (kd a j : Nat) : Value := match kd with
  | 0 => .int (ix_i h a j)
  | 1 => .long (ix_l h a j)
  | _ => va_rf (ix_r h a j)
def ix_kd (t : FieldType) : Nat := match t with
  | .long => 1
  | .object _ => 2
  | .array _ => 2
  | _ => 0
/-- the run's fixed things: the classes' numbers and slots, the array classes, the first address that is ours, ArrayList's empty array, the Class object of Object[] -/
abbrev ix_G : Type := va_G × (Nat → ClassId) × Nat × Nat × Nat
def ix_A (G : ix_G) : Nat → Prop := fun q => G.2.2.1 ≤ q
def ix_arr (G : ix_G) (h : ix_H) (t a : Nat) : Cell := arrV (G.2.1 t) (ix_ln h a) (fun j => ix_v h (ix_kd (ix_at t)) a j)
/-- the machine's heap holds the abstract one -/
def ix_R (G : ix_G) (h : ix_H) (H : Heap) : Prop := ix_nx h = H.size ∧ G.2.2.1 ≤ H.size ∧
  (∀ a k, ix_tg h a = k + 1 → k < 10 → ix_A G a ∧ t_OB a (G.1.1 k) (ix_nf k) (G.1.2 k) H (fun j => ix_v h (ix_kd (ix_ty k j)) a j)) ∧
  (∀ a t, ix_tg h a = 100 + t → t < 8 → ix_A G a ∧ H[a]? = some (ix_arr G h t a)) ∧
  (∀ a t, ix_tg h a = 200 + t → t < 8 → ∃ cell : Cell, H[a]? = some cell ∧ cell.cls = G.2.1 (10 + t) ∧ cell.vm ≠ .unknown ∧ (∀ x, cell.vm ≠ .statics x) ∧ ix_ln h a ≤ cell.slots.size ∧ cell.slots.size.toInt32 = nI (ix_ln h a) ∧ ∀ j, j < ix_ln h a → cell.slots[j]? = some (ix_v h (ix_kd (ix_at t)) a j))
theorem ix_R.lt {G : ix_G} {h : ix_H} {H : Heap} (hR : ix_R G h H) {a : Nat} (ht : (∃ k, k < 10 ∧ ix_tg h a = k + 1) ∨ (∃ t, t < 8 ∧ ix_tg h a = 100 + t)) : a < ix_nx h := by
  rw [hR.1]
  rcases ht with ⟨k, hk, e⟩ | ⟨t, hk, e⟩
  · obtain ⟨-, cell, q, -⟩ := hR.2.2.1 a k e hk
    exact (Array.getElem?_eq_some_iff.mp q).1
  · exact (Array.getElem?_eq_some_iff.mp (hR.2.2.2.1 a t e hk).2).1
/-- which words are carried through calls -/
def ix_mv (w : Cond) : Bool := match w with
  | .fieldLinkNest .. => true
  | .methodLinkNest .. => true
  | .castable .. => true
  | .declares .. => true
  | .arrayClass _ => false
  | w => w.onTables && w.keeps
def ix_words : List Cond := lw_tbl.filter ix_mv
theorem ix_in {w : Cond} (i : Nat) (h : lw_tbl[i]? = some w) (hm : ix_mv w = true) : w ∈ ix_words := List.mem_filter.mpr ⟨List.mem_of_getElem? h, hm⟩
theorem ix_onT {w : Cond} (h : ix_mv w = true) : w.onTables = true := by
  cases w <;> first | rfl | (simp [ix_mv, Cond.onTables] at h)
theorem ix_moveW {w : Cond} (hm : ix_mv w = true) {s U : State} (hW : s.WarmedH U.vm) (h : va_Nw w s) : va_Nw w U := by
  cases w with
  | fieldLinkNest => exact va_Nw.warmF hW h
  | methodLinkNest => exact va_Nw.warmM hW h
  | castable => exact va_Nw.warmC hW h
  | declares => exact va_Nw.warmD hW h
  | arrayClass => cases hm
  | _ => exact word_at hW (Or.inl hm) h
/-- the array classes -/
def ix_tys (G : ix_G) : List (ClassId × FieldType) := (List.range 8).map (fun t => (G.2.1 t, ix_at t))
/-- the classes of the arrays that were there before -/
def ix_K2 (G : ix_G) (U : State) : Prop := (∀ t, t < 8 → ArrOfT U (G.2.1 (10 + t)) (ix_at t)) ∧ U.vm.findClass "[Ljava/lang/Object;" = some (G.2.1 17)
theorem ix_K2.moved {G : ix_G} {u U : State} (hvm : u.vm.Alike U.vm) (h : ix_K2 G u) : ix_K2 G U := ⟨fun t ht => arrOfT_moved hvm (h.1 t ht), by rw [hvm.findClass]; exact h.2⟩
/-- what holds at every method's entry -/
def ix_KU (G : ix_G) (U : State) : Prop := (∀ w ∈ ix_words, va_Nw w U) ∧ va_K G.1 ix_cl (ix_tys G) U ∧ G.2.2.1 ≤ U.heap.size ∧
  va_Z "java/util/ArrayList" "DEFAULTCAPACITY_EMPTY_ELEMENTDATA" "[Ljava/lang/Object;" (.ref G.2.2.2.1) (ix_A G) U U.heap ∧
  va_Mi "[Ljava/lang/Object;" G.2.2.2.2 U ∧ va_AO "FileDelivery$Side" U ∧ va_AO "FileDelivery$Unit" U ∧ va_AO "java/lang/Object" U ∧ ix_K2 G U
theorem ix_KU.moved {G : ix_G} {s U : State} (h : ix_KU G s) (hW : s.WarmedH U.vm) {locs : List Loc} (hS : va_S (ix_A G) s.heap U.heap locs) : ix_KU G U := by
  obtain ⟨h1, h2, h3, h4, h5, h6, h7, h8, h9⟩ := h
  have hal := hW.alike
  refine ⟨fun w hw => ix_moveW (List.mem_filter.mp hw).2 hW (h1 w hw), va_K.moved hal h2, Nat.le_trans h3 hS.1, (va_Z.moved hal h4).kept hS.2.1, va_Mi.moved hal h5, va_AO.moved hal h6, va_AO.moved hal h7, va_AO.moved hal h8, h9.moved hal⟩
theorem ix_KU.calling {G : ix_G} {U : State} {g : JFrame} {mk : MethodId} {a : Array Value} (h : ix_KU G U) : ix_KU G (U.calling g mk a) := by
  obtain ⟨h1, h2, h3, h4, h5, h6, h7, h8, h9⟩ := h
  have hv : U.vm.Alike (U.calling g mk a).vm := Vm.Alike.refl U.vm
  exact ⟨fun w hw => va_Nw.same (ix_onT (List.mem_filter.mp hw).2) (rfl : U.vm = (U.calling g mk a).vm) (h1 w hw), va_K.moved hv h2, h3, va_Z.moved hv h4, va_Mi.moved hv h5, va_AO.moved hv h6, va_AO.moved hv h7, va_AO.moved hv h8, h9.moved hv⟩
/-- the context of a walk in method m -/
def ix_Cx (G : ix_G) (m : Nat) (p : Program) (l : Launch) (R : Room) (s : State) (mid : MethodId) (meth : Method) (c : Code) : Prop :=
  p.tables.exec = Jvm.exec ∧ c.code = ix_by m ∧ c.maxLocals = ix_mL m ∧ meth.sig.returnType = ix_rt m ∧ meth.locks = false ∧ s.vm.findClass (ix_own m) = some mid.cls ∧ meth.name = (ix_y m).name ∧ ix_fr m ≤ R.frames ∧ ix_lo m ≤ R.locals ∧ ix_KU G s
theorem ix_Cx.w {G : ix_G} {m : Nat} {p : Program} {l : Launch} {R : Room} {s : State} {mid : MethodId} {meth : Method} {c : Code} (C : ix_Cx G m p l R s mid meth c) {w : Cond} (hw : w ∈ ix_words) (args : Array Value) : w.before args s = true := va_Nw.use (ix_onT (List.mem_filter.mp hw).2) (C.2.2.2.2.2.2.2.2.2.1 w hw)
/-- how a method ends -/
abbrev ix_O : Type := Option Value
def ix_Q (G : ix_G) (r : ix_O) (h' : ix_H) : Array Value → State → Outcome → State → Prop := fun _ st oc t => oc = .returned r ∧ ix_R G h' t.heap ∧ va_F (ix_A G) st t
/-- THE JUDGEMENT: from the frame at pc of method m, with these locals, stack and heap, the method answers r, with the heap h' -/
def ix_Ev (G : ix_G) (m pc : Nat) (lv : List (Nat × Value)) (st : List Value) (h : ix_H) (r : ix_O) (h' : ix_H) : Prop :=
  (ix_nx h ≤ ix_nx h' ∧ ix_us h ≤ ix_us h') ∧ ∀ (p : Program) (l : Launch) (e : Env) (R : Room) (s : State) (mid : MethodId) (args : Array Value) (below : List Frame) (meth : Method) (c : Code), ix_Cx G m p l R s mid meth c →
    ∀ (H : Heap) (locs : List Loc) (cells slots : Nat) (ls : Array Slot), ix_R G h H → va_S (ix_A G) s.heap H locs → lv_has ls (ix_mL m) lv → cells + (ix_nx h' - ix_nx h) ≤ R.cells → slots + (ix_us h' - ix_us h) ≤ R.slots →
      W p l e R s mid args below meth c H locs cells slots (MQ below (ix_Q G r h') args s (cells + (ix_nx h' - ix_nx h)) (slots + (ix_us h' - ix_us h)) (ix_A G)) (F0 mid pc ls st)
