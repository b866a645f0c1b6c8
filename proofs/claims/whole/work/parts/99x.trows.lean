/-! ===== rows of the judgement with throws (written by wip/whole/gen6.py out of parts 04 to 08) ===== -/
section IY
variable {G : ix_G} {m pc : Nat} {lv : List (Nat × Value)} {stk st : List Value} {h h1 h' : ix_H} {r : iy_O} {rv : ix_O}
theorem iy_go {pc' : Nat} {st' : List Value} (hW : ∀ (p : Program) (l : Launch) (e : Env) (R : Room) (s : State) (mid : MethodId) (args : Array Value) (below : List Frame) (meth : Method) (c : Code) (H : Heap) (locs : List Loc) (cells slots : Nat) (Q : State → Prop) (ls : Array Slot), p.tables.exec = Jvm.exec → c.code = ix_by m → lv_has ls (ix_mL m) lv → W p l e R s mid args below meth c H locs cells slots Q (F0 mid pc' ls st') → W p l e R s mid args below meth c H locs cells slots Q (F0 mid pc ls st))
    (k : iy_Ev G m pc' lv st' h r h') : iy_Ev G m pc lv st h r h' :=
  ⟨k.1, fun p l e R s mid args below meth c C D H locs cells slots ls hR hS hl hc hs => hW p l e R s mid args below meth c H locs cells slots _ ls C.1 C.2.1 hl (k.2 p l e R s mid args below meth c C D H locs cells slots ls hR hS hl hc hs)⟩
theorem iy_iconst {n : Int} (v : Int32) (hd : decode (ix_by m) pc = .ok (.iconst n, 1)) (hv : Int32.ofInt n = v) (k : iy_Ev G m (pc + 1) lv (.int v :: st) h r h') : iy_Ev G m pc lv st h r h' := iy_go (fun p l e R s mid args below meth c H locs cells slots Q ls hx hb hl k => lv_iconst hx hb hd hv k) k
theorem iy_bipush {n : Int} (v : Int32) (hd : decode (ix_by m) pc = .ok (.bipush n, 2)) (hv : (Int8.ofInt n).toInt32 = v) (k : iy_Ev G m (pc + 2) lv (.int v :: st) h r h') : iy_Ev G m pc lv st h r h' := iy_go (fun p l e R s mid args below meth c H locs cells slots Q ls hx hb hl k => lv_bipush hx hb hd hv k) k
theorem iy_sipush {n : Int} (v : Int32) (hd : decode (ix_by m) pc = .ok (.sipush n, 3)) (hv : (Int16.ofInt n).toInt32 = v) (k : iy_Ev G m (pc + 3) lv (.int v :: st) h r h') : iy_Ev G m pc lv st h r h' := iy_go (fun p l e R s mid args below meth c H locs cells slots Q ls hx hb hl k => lv_sipush hx hb hd hv k) k
theorem iy_lconst {n : Fin 2} (v : Int64) (hd : decode (ix_by m) pc = .ok (.lconst n, 1)) (hv : Int64.ofNat (n : Nat) = v) (k : iy_Ev G m (pc + 1) lv (.long v :: st) h r h') : iy_Ev G m pc lv st h r h' := iy_go (fun p l e R s mid args below meth c H locs cells slots Q ls hx hb hl k => lv_lconst hx hb hd hv k) k
theorem iy_null (hd : decode (ix_by m) pc = .ok (.aconst_null, 1)) (k : iy_Ev G m (pc + 1) lv (.null :: st) h r h') : iy_Ev G m pc lv st h r h' := iy_go (fun p l e R s mid args below meth c H locs cells slots Q ls hx hb hl k => lv_null hx hb hd k) k
theorem iy_iload_n {i : Fin 4} {x : Int32} (hd : decode (ix_by m) pc = .ok (.iload_n i, 1)) (hl : lv.lookup (i : Nat) = some (.int x)) (k : iy_Ev G m (pc + 1) lv (.int x :: st) h r h') : iy_Ev G m pc lv st h r h' := iy_go (fun p l e R s mid args below meth c H locs cells slots Q ls hx hb h2 k => lv_iload_n hx hb hd rfl (ix_lk h2 hl) k) k
theorem iy_iload {i : Nat} {x : Int32} (hd : decode (ix_by m) pc = .ok (.iload i, 2)) (hl : lv.lookup i = some (.int x)) (k : iy_Ev G m (pc + 2) lv (.int x :: st) h r h') : iy_Ev G m pc lv st h r h' := iy_go (fun p l e R s mid args below meth c H locs cells slots Q ls hx hb h2 k => lv_iload hx hb hd (ix_lk h2 hl) k) k
theorem iy_lload_n {i : Fin 4} {x : Int64} (hd : decode (ix_by m) pc = .ok (.lload_n i, 1)) (hl : lv.lookup (i : Nat) = some (.long x)) (k : iy_Ev G m (pc + 1) lv (.long x :: st) h r h') : iy_Ev G m pc lv st h r h' := iy_go (fun p l e R s mid args below meth c H locs cells slots Q ls hx hb h2 k => lv_lload_n hx hb hd rfl (ix_lk h2 hl) k) k
theorem iy_lload {i : Nat} {x : Int64} (hd : decode (ix_by m) pc = .ok (.lload i, 2)) (hl : lv.lookup i = some (.long x)) (k : iy_Ev G m (pc + 2) lv (.long x :: st) h r h') : iy_Ev G m pc lv st h r h' := iy_go (fun p l e R s mid args below meth c H locs cells slots Q ls hx hb h2 k => lv_lload hx hb hd (ix_lk h2 hl) k) k
theorem iy_aload_n {i : Fin 4} {x : Nat} (hd : decode (ix_by m) pc = .ok (.aload_n i, 1)) (hl : lv.lookup (i : Nat) = some (.ref x)) (k : iy_Ev G m (pc + 1) lv (.ref x :: st) h r h') : iy_Ev G m pc lv st h r h' := iy_go (fun p l e R s mid args below meth c H locs cells slots Q ls hx hb h2 k => lv_aload_n hx hb hd rfl (ix_lk h2 hl) k) k
theorem iy_aload {i : Nat} {x : Nat} (hd : decode (ix_by m) pc = .ok (.aload i, 2)) (hl : lv.lookup i = some (.ref x)) (k : iy_Ev G m (pc + 2) lv (.ref x :: st) h r h') : iy_Ev G m pc lv st h r h' := iy_go (fun p l e R s mid args below meth c H locs cells slots Q ls hx hb h2 k => lv_aload hx hb hd (ix_lk h2 hl) k) k
theorem iy_aload_nN {i : Fin 4} (hd : decode (ix_by m) pc = .ok (.aload_n i, 1)) (hl : lv.lookup (i : Nat) = some .null) (k : iy_Ev G m (pc + 1) lv (.null :: st) h r h') : iy_Ev G m pc lv st h r h' := iy_go (fun p l e R s mid args below meth c H locs cells slots Q ls hx hb h2 k => lv_aload_nN hx hb hd rfl (ix_lk h2 hl) k) k
theorem iy_aloadN {i : Nat} (hd : decode (ix_by m) pc = .ok (.aload i, 2)) (hl : lv.lookup i = some .null) (k : iy_Ev G m (pc + 2) lv (.null :: st) h r h') : iy_Ev G m pc lv st h r h' := iy_go (fun p l e R s mid args below meth c H locs cells slots Q ls hx hb h2 k => lv_aloadN hx hb hd (ix_lk h2 hl) k) k
theorem iy_iadd {x y : Int32} (hd : decode (ix_by m) pc = .ok (.iadd, 1)) (k : iy_Ev G m (pc + 1) lv (.int (x + y) :: st) h r h') : iy_Ev G m pc lv (.int y :: .int x :: st) h r h' := iy_go (fun p l e R s mid args below meth c H locs cells slots Q ls hx hb hl k => lv_iadd hx hb hd k) k
theorem iy_isub {x y : Int32} (hd : decode (ix_by m) pc = .ok (.isub, 1)) (k : iy_Ev G m (pc + 1) lv (.int (x - y) :: st) h r h') : iy_Ev G m pc lv (.int y :: .int x :: st) h r h' := iy_go (fun p l e R s mid args below meth c H locs cells slots Q ls hx hb hl k => lv_isub hx hb hd k) k
theorem iy_imul {x y : Int32} (hd : decode (ix_by m) pc = .ok (.imul, 1)) (k : iy_Ev G m (pc + 1) lv (.int (x * y) :: st) h r h') : iy_Ev G m pc lv (.int y :: .int x :: st) h r h' := iy_go (fun p l e R s mid args below meth c H locs cells slots Q ls hx hb hl k => lv_imul hx hb hd k) k
theorem iy_iand {x y : Int32} (hd : decode (ix_by m) pc = .ok (.iand, 1)) (k : iy_Ev G m (pc + 1) lv (.int (x &&& y) :: st) h r h') : iy_Ev G m pc lv (.int y :: .int x :: st) h r h' := iy_go (fun p l e R s mid args below meth c H locs cells slots Q ls hx hb hl k => lv_iand hx hb hd k) k
theorem iy_ior {x y : Int32} (hd : decode (ix_by m) pc = .ok (.ior, 1)) (k : iy_Ev G m (pc + 1) lv (.int (x ||| y) :: st) h r h') : iy_Ev G m pc lv (.int y :: .int x :: st) h r h' := iy_go (fun p l e R s mid args below meth c H locs cells slots Q ls hx hb hl k => lv_ior hx hb hd k) k
theorem iy_ixor {x y : Int32} (hd : decode (ix_by m) pc = .ok (.ixor, 1)) (k : iy_Ev G m (pc + 1) lv (.int (x ^^^ y) :: st) h r h') : iy_Ev G m pc lv (.int y :: .int x :: st) h r h' := iy_go (fun p l e R s mid args below meth c H locs cells slots Q ls hx hb hl k => lv_ixor hx hb hd k) k
theorem iy_idiv {x y : Int32} (hd : decode (ix_by m) pc = .ok (.idiv, 1)) (hne : ¬ y = 0) (k : iy_Ev G m (pc + 1) lv (.int (x / y) :: st) h r h') : iy_Ev G m pc lv (.int y :: .int x :: st) h r h' := iy_go (fun p l e R s mid args below meth c H locs cells slots Q ls hx hb hl k => lv_idiv hx hb hd hne k) k
theorem iy_irem {x y : Int32} (hd : decode (ix_by m) pc = .ok (.irem, 1)) (hne : ¬ y = 0) (k : iy_Ev G m (pc + 1) lv (.int (x - x / y * y) :: st) h r h') : iy_Ev G m pc lv (.int y :: .int x :: st) h r h' := iy_go (fun p l e R s mid args below meth c H locs cells slots Q ls hx hb hl k => lv_irem hx hb hd hne k) k
theorem iy_ineg {x : Int32} (hd : decode (ix_by m) pc = .ok (.ineg, 1)) (k : iy_Ev G m (pc + 1) lv (.int (-x) :: st) h r h') : iy_Ev G m pc lv (.int x :: st) h r h' := iy_go (fun p l e R s mid args below meth c H locs cells slots Q ls hx hb hl k => lv_ineg hx hb hd k) k
theorem iy_ishl {x y : Int32} (hd : decode (ix_by m) pc = .ok (.ishl, 1)) (k : iy_Ev G m (pc + 1) lv (.int (x <<< (y &&& 31)) :: st) h r h') : iy_Ev G m pc lv (.int y :: .int x :: st) h r h' := iy_go (fun p l e R s mid args below meth c H locs cells slots Q ls hx hb hl k => lv_ishl hx hb hd k) k
theorem iy_ishr {x y : Int32} (hd : decode (ix_by m) pc = .ok (.ishr, 1)) (k : iy_Ev G m (pc + 1) lv (.int (x >>> (y &&& 31)) :: st) h r h') : iy_Ev G m pc lv (.int y :: .int x :: st) h r h' := iy_go (fun p l e R s mid args below meth c H locs cells slots Q ls hx hb hl k => lv_ishr hx hb hd k) k
theorem iy_land {x y : Int64} (hd : decode (ix_by m) pc = .ok (.land, 1)) (k : iy_Ev G m (pc + 1) lv (.long (x &&& y) :: st) h r h') : iy_Ev G m pc lv (.long y :: .long x :: st) h r h' := iy_go (fun p l e R s mid args below meth c H locs cells slots Q ls hx hb hl k => lv_land hx hb hd k) k
theorem iy_lor {x y : Int64} (hd : decode (ix_by m) pc = .ok (.lor, 1)) (k : iy_Ev G m (pc + 1) lv (.long (x ||| y) :: st) h r h') : iy_Ev G m pc lv (.long y :: .long x :: st) h r h' := iy_go (fun p l e R s mid args below meth c H locs cells slots Q ls hx hb hl k => lv_lor hx hb hd k) k
theorem iy_lshl {x : Int64} {y : Int32} (hd : decode (ix_by m) pc = .ok (.lshl, 1)) (k : iy_Ev G m (pc + 1) lv (.long (x <<< (y.toInt64 &&& 63)) :: st) h r h') : iy_Ev G m pc lv (.int y :: .long x :: st) h r h' := iy_go (fun p l e R s mid args below meth c H locs cells slots Q ls hx hb hl k => lv_lshl hx hb hd rfl k) k
theorem iy_lshr {x : Int64} {y : Int32} (hd : decode (ix_by m) pc = .ok (.lshr, 1)) (k : iy_Ev G m (pc + 1) lv (.long (x >>> (y.toInt64 &&& 63)) :: st) h r h') : iy_Ev G m pc lv (.int y :: .long x :: st) h r h' := iy_go (fun p l e R s mid args below meth c H locs cells slots Q ls hx hb hl k => lv_lshr hx hb hd rfl k) k
theorem iy_i2l {x : Int32} (hd : decode (ix_by m) pc = .ok (.i2l, 1)) (k : iy_Ev G m (pc + 1) lv (.long x.toInt64 :: st) h r h') : iy_Ev G m pc lv (.int x :: st) h r h' := iy_go (fun p l e R s mid args below meth c H locs cells slots Q ls hx hb hl k => lv_i2l hx hb hd rfl k) k
theorem iy_l2i {x : Int64} (hd : decode (ix_by m) pc = .ok (.l2i, 1)) (k : iy_Ev G m (pc + 1) lv (.int x.toInt32 :: st) h r h') : iy_Ev G m pc lv (.long x :: st) h r h' := iy_go (fun p l e R s mid args below meth c H locs cells slots Q ls hx hb hl k => lv_l2i hx hb hd rfl k) k
theorem iy_i2b {x : Int32} (hd : decode (ix_by m) pc = .ok (.i2b, 1)) (k : iy_Ev G m (pc + 1) lv (.int x.toInt8.toInt32 :: st) h r h') : iy_Ev G m pc lv (.int x :: st) h r h' := iy_go (fun p l e R s mid args below meth c H locs cells slots Q ls hx hb hl k => lv_i2b hx hb hd rfl k) k
theorem iy_dup {v : Value} (hd : decode (ix_by m) pc = .ok (.dup, 1)) (hv : v.category = 1) (k : iy_Ev G m (pc + 1) lv (v :: v :: st) h r h') : iy_Ev G m pc lv (v :: st) h r h' := iy_go (fun p l e R s mid args below meth c H locs cells slots Q ls hx hb hl k => lv_dup hx hb hd hv k) k
theorem iy_pop {v : Value} (hd : decode (ix_by m) pc = .ok (.pop, 1)) (hv : v.category = 1) (k : iy_Ev G m (pc + 1) lv st h r h') : iy_Ev G m pc lv (v :: st) h r h' := iy_go (fun p l e R s mid args below meth c H locs cells slots Q ls hx hb hl k => lv_pop hx hb hd hv k) k
theorem iy_dup_x1 {v w : Value} (hd : decode (ix_by m) pc = .ok (.dup_x1, 1)) (hv : v.category = 1) (hw : w.category = 1) (k : iy_Ev G m (pc + 1) lv (v :: w :: v :: st) h r h') : iy_Ev G m pc lv (v :: w :: st) h r h' := iy_go (fun p l e R s mid args below meth c H locs cells slots Q ls hx hb hl k => lv_dup_x1 hx hb hd hv hw k) k
theorem iy_dup2 {v w : Value} (hd : decode (ix_by m) pc = .ok (.dup2, 1)) (hv : v.category = 1) (hw : w.category = 1) (k : iy_Ev G m (pc + 1) lv (v :: w :: v :: w :: st) h r h') : iy_Ev G m pc lv (v :: w :: st) h r h' := iy_go (fun p l e R s mid args below meth c H locs cells slots Q ls hx hb hl k => lv_dup2_11 hx hb hd hv hw k) k
theorem iy_goto {off : Int} (tgt : Nat) (hd : decode (ix_by m) pc = .ok (.goto off, 3)) (ht : (pc : Int) + off = (tgt : Int)) (k : iy_Ev G m tgt lv st h r h') : iy_Ev G m pc lv st h r h' := iy_go (fun p l e R s mid args below meth c H locs cells slots Q ls hx hb hl k => lv_goto hx hb hd ht k) k
theorem iy_ldc {i : Nat} {v : Int32} (hd : decode (ix_by m) pc = .ok (.ldc i, 2)) (hw : Cond.constant (ix_own m) i v ∈ ix_words) (k : iy_Ev G m (pc + 2) lv (.int v :: st) h r h') : iy_Ev G m pc lv st h r h' :=
  ⟨k.1, fun p l e R s mid args below meth c C D H locs cells slots ls hR hS hl hc hs => lv_ldc C.1 C.2.1 C.2.2.2.2.2.1 (C.w hw args) hd (k.2 p l e R s mid args below meth c C D H locs cells slots ls hR hS hl hc hs)⟩
theorem iy_ldc2 {i : Nat} {v : Int64} (hd : decode (ix_by m) pc = .ok (.ldc2_w i, 3)) (hw : Cond.constantLong (ix_own m) i v ∈ ix_words) (k : iy_Ev G m (pc + 3) lv (.long v :: st) h r h') : iy_Ev G m pc lv st h r h' :=
  ⟨k.1, fun p l e R s mid args below meth c C D H locs cells slots ls hR hS hl hc hs => lv_ldc2 C.1 C.2.1 C.2.2.2.2.2.1 (C.w hw args) hd (k.2 p l e R s mid args below meth c C D H locs cells slots ls hR hS hl hc hs)⟩
theorem iy_goL {pc' : Nat} {lv' : List (Nat × Value)} {st' : List Value} (hW : ∀ (p : Program) (l : Launch) (e : Env) (R : Room) (s : State) (mid : MethodId) (args : Array Value) (below : List Frame) (meth : Method) (c : Code) (H : Heap) (locs : List Loc) (cells slots : Nat) (Q : State → Prop) (ls : Array Slot), p.tables.exec = Jvm.exec → c.code = ix_by m → lv_has ls (ix_mL m) lv → (∀ ls' : Array Slot, lv_has ls' (ix_mL m) lv' → W p l e R s mid args below meth c H locs cells slots Q (F0 mid pc' ls' st')) → W p l e R s mid args below meth c H locs cells slots Q (F0 mid pc ls st))
    (k : iy_Ev G m pc' lv' st' h r h') : iy_Ev G m pc lv st h r h' :=
  ⟨k.1, fun p l e R s mid args below meth c C D H locs cells slots ls hR hS hl hc hs => hW p l e R s mid args below meth c H locs cells slots _ ls C.1 C.2.1 hl (fun ls' hl' => k.2 p l e R s mid args below meth c C D H locs cells slots ls' hR hS hl' hc hs)⟩
theorem iy_istore_n {i : Fin 4} {x : Int32} (hd : decode (ix_by m) pc = .ok (.istore_n i, 1)) (hn : (i : Nat) < ix_mL m) (k : iy_Ev G m (pc + 1) (ix_set lv (i : Nat) (.int x)) st h r h') : iy_Ev G m pc lv (.int x :: st) h r h' := iy_goL (fun p l e R s mid args below meth c H locs cells slots Q ls hx hb hl k => lv_istore_n hx hb hd rfl hl hn rfl k) k
theorem iy_istore {i : Nat} {x : Int32} (hd : decode (ix_by m) pc = .ok (.istore i, 2)) (hn : i < ix_mL m) (k : iy_Ev G m (pc + 2) (ix_set lv i (.int x)) st h r h') : iy_Ev G m pc lv (.int x :: st) h r h' := iy_goL (fun p l e R s mid args below meth c H locs cells slots Q ls hx hb hl k => lv_istore hx hb hd hl hn rfl k) k
theorem iy_astore_n {i : Fin 4} {x : Nat} (hd : decode (ix_by m) pc = .ok (.astore_n i, 1)) (hn : (i : Nat) < ix_mL m) (k : iy_Ev G m (pc + 1) (ix_set lv (i : Nat) (.ref x)) st h r h') : iy_Ev G m pc lv (.ref x :: st) h r h' := iy_goL (fun p l e R s mid args below meth c H locs cells slots Q ls hx hb hl k => lv_astore_n hx hb hd rfl hl hn rfl k) k
theorem iy_astore {i : Nat} {x : Nat} (hd : decode (ix_by m) pc = .ok (.astore i, 2)) (hn : i < ix_mL m) (k : iy_Ev G m (pc + 2) (ix_set lv i (.ref x)) st h r h') : iy_Ev G m pc lv (.ref x :: st) h r h' := iy_goL (fun p l e R s mid args below meth c H locs cells slots Q ls hx hb hl k => lv_astore hx hb hd hl hn rfl k) k
theorem iy_astore_nN {i : Fin 4} (hd : decode (ix_by m) pc = .ok (.astore_n i, 1)) (hn : (i : Nat) < ix_mL m) (k : iy_Ev G m (pc + 1) (ix_set lv (i : Nat) .null) st h r h') : iy_Ev G m pc lv (.null :: st) h r h' := iy_goL (fun p l e R s mid args below meth c H locs cells slots Q ls hx hb hl k => lv_astore_nN hx hb hd rfl hl hn rfl k) k
theorem iy_astoreN {i : Nat} (hd : decode (ix_by m) pc = .ok (.astore i, 2)) (hn : i < ix_mL m) (k : iy_Ev G m (pc + 2) (ix_set lv i .null) st h r h') : iy_Ev G m pc lv (.null :: st) h r h' := iy_goL (fun p l e R s mid args below meth c H locs cells slots Q ls hx hb hl k => lv_astoreN hx hb hd hl hn rfl k) k
theorem iy_iinc {i : Nat} {n : Int} {x : Int32} (v : Int32) (hd : decode (ix_by m) pc = .ok (.iinc i n, 3)) (hl : lv.lookup i = some (.int x)) (hv : x + Int32.ofInt n = v) (hn : i < ix_mL m) (k : iy_Ev G m (pc + 3) (ix_set lv i (.int v)) st h r h') : iy_Ev G m pc lv st h r h' := by
  refine iy_goL (fun p l e R s mid args below meth c H locs cells slots Q ls hx hb h2 k => ?_) k
  have h3 : lv_has ls (ix_mL m) ((i, .int x) :: lv) := ⟨h2.1, h2.2.1, fun q hq => (List.mem_cons.mp hq).elim (fun e => by rw [e]; exact ix_lk h2 hl) (h2.2.2 q)⟩
  refine lv_iinc hx hb hd h3 (k := 0) rfl hv hn (lv' := ix_set lv i (.int v)) ?_ k
  simp [ix_set, List.filter]
theorem iy_br {P : Prop} {t f : Nat} {st' : List Value} (hW : ∀ (p : Program) (l : Launch) (e : Env) (R : Room) (s : State) (mid : MethodId) (args : Array Value) (below : List Frame) (meth : Method) (c : Code) (H : Heap) (locs : List Loc) (cells slots : Nat) (Q : State → Prop) (ls : Array Slot), p.tables.exec = Jvm.exec → c.code = ix_by m → (P → W p l e R s mid args below meth c H locs cells slots Q (F0 mid t ls st')) → (¬ P → W p l e R s mid args below meth c H locs cells slots Q (F0 mid f ls st')) → W p l e R s mid args below meth c H locs cells slots Q (F0 mid pc ls st))
    (kt : P → iy_Ev G m t lv st' h r h') (kf : ¬ P → iy_Ev G m f lv st' h r h') : iy_Ev G m pc lv st h r h' :=
  ⟨by by_cases hp : P
      · exact (kt hp).1
      · exact (kf hp).1, fun p l e R s mid args below meth c C D H locs cells slots ls hR hS hl hc hs => hW p l e R s mid args below meth c H locs cells slots _ ls C.1 C.2.1 (fun hp => (kt hp).2 p l e R s mid args below meth c C D H locs cells slots ls hR hS hl hc hs) (fun hp => (kf hp).2 p l e R s mid args below meth c C D H locs cells slots ls hR hS hl hc hs)⟩
theorem iy_if_eq {x : Int32} {off : Int} (tgt : Nat) (hd : decode (ix_by m) pc = .ok (.ifCond .eq off, 3)) (ht : (pc : Int) + off = (tgt : Int)) (kt : x = 0 → iy_Ev G m tgt lv st h r h') (kf : ¬ (x = 0) → iy_Ev G m (pc + 3) lv st h r h') : iy_Ev G m pc lv (.int x :: st) h r h' := iy_br (fun p l e R s mid args below meth c H locs cells slots Q ls hx hb k1 k2 => lv_if_eq hx hb hd ht k1 k2) kt kf
theorem iy_icmp_eq {x y : Int32} {off : Int} (tgt : Nat) (hd : decode (ix_by m) pc = .ok (.if_icmp .eq off, 3)) (ht : (pc : Int) + off = (tgt : Int)) (kt : x = y → iy_Ev G m tgt lv st h r h') (kf : ¬ (x = y) → iy_Ev G m (pc + 3) lv st h r h') : iy_Ev G m pc lv (.int y :: .int x :: st) h r h' := iy_br (fun p l e R s mid args below meth c H locs cells slots Q ls hx hb k1 k2 => lv_icmp_eq hx hb hd ht k1 k2) kt kf
theorem iy_if_ne {x : Int32} {off : Int} (tgt : Nat) (hd : decode (ix_by m) pc = .ok (.ifCond .ne off, 3)) (ht : (pc : Int) + off = (tgt : Int)) (kt : ¬ x = 0 → iy_Ev G m tgt lv st h r h') (kf : x = 0 → iy_Ev G m (pc + 3) lv st h r h') : iy_Ev G m pc lv (.int x :: st) h r h' := iy_br (fun p l e R s mid args below meth c H locs cells slots Q ls hx hb k1 k2 => lv_if_ne hx hb hd ht k1 (fun e => k2 (fun q => q e))) kt (fun q => kf (Classical.not_not.mp q))
theorem iy_icmp_ne {x y : Int32} {off : Int} (tgt : Nat) (hd : decode (ix_by m) pc = .ok (.if_icmp .ne off, 3)) (ht : (pc : Int) + off = (tgt : Int)) (kt : ¬ x = y → iy_Ev G m tgt lv st h r h') (kf : x = y → iy_Ev G m (pc + 3) lv st h r h') : iy_Ev G m pc lv (.int y :: .int x :: st) h r h' := iy_br (fun p l e R s mid args below meth c H locs cells slots Q ls hx hb k1 k2 => lv_icmp_ne hx hb hd ht k1 (fun e => k2 (fun q => q e))) kt (fun q => kf (Classical.not_not.mp q))
theorem iy_if_lt {x : Int32} {off : Int} (tgt : Nat) (hd : decode (ix_by m) pc = .ok (.ifCond .lt off, 3)) (ht : (pc : Int) + off = (tgt : Int)) (kt : x < 0 → iy_Ev G m tgt lv st h r h') (kf : ¬ (x < 0) → iy_Ev G m (pc + 3) lv st h r h') : iy_Ev G m pc lv (.int x :: st) h r h' := iy_br (fun p l e R s mid args below meth c H locs cells slots Q ls hx hb k1 k2 => lv_if_lt hx hb hd ht k1 k2) kt kf
theorem iy_icmp_lt {x y : Int32} {off : Int} (tgt : Nat) (hd : decode (ix_by m) pc = .ok (.if_icmp .lt off, 3)) (ht : (pc : Int) + off = (tgt : Int)) (kt : x < y → iy_Ev G m tgt lv st h r h') (kf : ¬ (x < y) → iy_Ev G m (pc + 3) lv st h r h') : iy_Ev G m pc lv (.int y :: .int x :: st) h r h' := iy_br (fun p l e R s mid args below meth c H locs cells slots Q ls hx hb k1 k2 => lv_icmp_lt hx hb hd ht k1 k2) kt kf
theorem iy_if_ge {x : Int32} {off : Int} (tgt : Nat) (hd : decode (ix_by m) pc = .ok (.ifCond .ge off, 3)) (ht : (pc : Int) + off = (tgt : Int)) (kt : 0 ≤ x → iy_Ev G m tgt lv st h r h') (kf : ¬ (0 ≤ x) → iy_Ev G m (pc + 3) lv st h r h') : iy_Ev G m pc lv (.int x :: st) h r h' := iy_br (fun p l e R s mid args below meth c H locs cells slots Q ls hx hb k1 k2 => lv_if_ge hx hb hd ht k1 k2) kt kf
theorem iy_icmp_ge {x y : Int32} {off : Int} (tgt : Nat) (hd : decode (ix_by m) pc = .ok (.if_icmp .ge off, 3)) (ht : (pc : Int) + off = (tgt : Int)) (kt : y ≤ x → iy_Ev G m tgt lv st h r h') (kf : ¬ (y ≤ x) → iy_Ev G m (pc + 3) lv st h r h') : iy_Ev G m pc lv (.int y :: .int x :: st) h r h' := iy_br (fun p l e R s mid args below meth c H locs cells slots Q ls hx hb k1 k2 => lv_icmp_ge hx hb hd ht k1 k2) kt kf
theorem iy_if_gt {x : Int32} {off : Int} (tgt : Nat) (hd : decode (ix_by m) pc = .ok (.ifCond .gt off, 3)) (ht : (pc : Int) + off = (tgt : Int)) (kt : 0 < x → iy_Ev G m tgt lv st h r h') (kf : ¬ (0 < x) → iy_Ev G m (pc + 3) lv st h r h') : iy_Ev G m pc lv (.int x :: st) h r h' := iy_br (fun p l e R s mid args below meth c H locs cells slots Q ls hx hb k1 k2 => lv_if_gt hx hb hd ht k1 k2) kt kf
theorem iy_icmp_gt {x y : Int32} {off : Int} (tgt : Nat) (hd : decode (ix_by m) pc = .ok (.if_icmp .gt off, 3)) (ht : (pc : Int) + off = (tgt : Int)) (kt : y < x → iy_Ev G m tgt lv st h r h') (kf : ¬ (y < x) → iy_Ev G m (pc + 3) lv st h r h') : iy_Ev G m pc lv (.int y :: .int x :: st) h r h' := iy_br (fun p l e R s mid args below meth c H locs cells slots Q ls hx hb k1 k2 => lv_icmp_gt hx hb hd ht k1 k2) kt kf
theorem iy_if_le {x : Int32} {off : Int} (tgt : Nat) (hd : decode (ix_by m) pc = .ok (.ifCond .le off, 3)) (ht : (pc : Int) + off = (tgt : Int)) (kt : x ≤ 0 → iy_Ev G m tgt lv st h r h') (kf : ¬ (x ≤ 0) → iy_Ev G m (pc + 3) lv st h r h') : iy_Ev G m pc lv (.int x :: st) h r h' := iy_br (fun p l e R s mid args below meth c H locs cells slots Q ls hx hb k1 k2 => lv_if_le hx hb hd ht k1 k2) kt kf
theorem iy_icmp_le {x y : Int32} {off : Int} (tgt : Nat) (hd : decode (ix_by m) pc = .ok (.if_icmp .le off, 3)) (ht : (pc : Int) + off = (tgt : Int)) (kt : x ≤ y → iy_Ev G m tgt lv st h r h') (kf : ¬ (x ≤ y) → iy_Ev G m (pc + 3) lv st h r h') : iy_Ev G m pc lv (.int y :: .int x :: st) h r h' := iy_br (fun p l e R s mid args below meth c H locs cells slots Q ls hx hb k1 k2 => lv_icmp_le hx hb hd ht k1 k2) kt kf
theorem iy_ifnull {x : Nat} {off : Int} (tgt : Nat) (hd : decode (ix_by m) pc = .ok (.ifnull off, 3)) (ht : (pc : Int) + off = (tgt : Int)) (k : iy_Ev G m (pc + 3) lv st h r h') : iy_Ev G m pc lv (.ref x :: st) h r h' := iy_go (fun p l e R s mid args below meth c H locs cells slots Q ls hx hb hl k => lv_ifnull hx hb hd k) k
theorem iy_ifnonnull {x : Nat} {off : Int} (tgt : Nat) (hd : decode (ix_by m) pc = .ok (.ifnonnull off, 3)) (ht : (pc : Int) + off = (tgt : Int)) (k : iy_Ev G m tgt lv st h r h') : iy_Ev G m pc lv (.ref x :: st) h r h' := iy_go (fun p l e R s mid args below meth c H locs cells slots Q ls hx hb hl k => lv_ifnonnull hx hb hd ht k) k
theorem iy_ifnullN {off : Int} (tgt : Nat) (hd : decode (ix_by m) pc = .ok (.ifnull off, 3)) (ht : (pc : Int) + off = (tgt : Int)) (k : iy_Ev G m tgt lv st h r h') : iy_Ev G m pc lv (.null :: st) h r h' := iy_go (fun p l e R s mid args below meth c H locs cells slots Q ls hx hb hl k => lv_ifnullN hx hb hd ht k) k
theorem iy_ifnonnullN {off : Int} (tgt : Nat) (hd : decode (ix_by m) pc = .ok (.ifnonnull off, 3)) (ht : (pc : Int) + off = (tgt : Int)) (k : iy_Ev G m (pc + 3) lv st h r h') : iy_Ev G m pc lv (.null :: st) h r h' := iy_go (fun p l e R s mid args below meth c H locs cells slots Q ls hx hb hl k => lv_ifnonnullN hx hb hd k) k
theorem iy_acmp_eq {a b : Nat} {off : Int} (tgt : Nat) (hd : decode (ix_by m) pc = .ok (.if_acmp .eq off, 3)) (ht : (pc : Int) + off = (tgt : Int)) (kt : a = b → iy_Ev G m tgt lv st h r h') (kf : ¬ a = b → iy_Ev G m (pc + 3) lv st h r h') : iy_Ev G m pc lv (.ref b :: .ref a :: st) h r h' := iy_br (fun p l e R s mid args below meth c H locs cells slots Q ls hx hb k1 k2 => lv_acmp_eq (rx := some a) (ry := some b) hx hb hd ht (fun e => k1 (Option.some.inj e)) (fun e => k2 (fun q => e (by rw [q])))) kt kf
theorem iy_acmp_ne {a b : Nat} {off : Int} (tgt : Nat) (hd : decode (ix_by m) pc = .ok (.if_acmp .ne off, 3)) (ht : (pc : Int) + off = (tgt : Int)) (kt : ¬ a = b → iy_Ev G m tgt lv st h r h') (kf : a = b → iy_Ev G m (pc + 3) lv st h r h') : iy_Ev G m pc lv (.ref b :: .ref a :: st) h r h' := iy_br (fun p l e R s mid args below meth c H locs cells slots Q ls hx hb k1 k2 => lv_acmp_ne (rx := some a) (ry := some b) hx hb hd ht (fun e => k1 (fun q => e (by rw [q]))) (fun e => k2 (fun q => q (Option.some.inj e)))) kt (fun q => kf (Classical.not_not.mp q))
theorem iy_tabIn {dflt lo hi off : Int} {offs : Array Int} {len : Nat} {x : Int32} (tgt : Nat) (hd : decode (ix_by m) pc = .ok (.tableswitch dflt lo hi offs, len)) (h1 : ¬ x.toInt < lo) (h2 : ¬ hi < x.toInt) (ho : offs[(x.toInt - lo).toNat]? = some off) (ht : (pc : Int) + off = (tgt : Int)) (k : iy_Ev G m tgt lv st h r h') : iy_Ev G m pc lv (.int x :: st) h r h' := iy_go (fun p l e R s mid args below meth c H locs cells slots Q ls hx hb hl k => lv_tableIn hx hb hd h1 h2 ho ht k) k
theorem iy_tabOut {dflt lo hi : Int} {offs : Array Int} {len : Nat} {x : Int32} (tgt : Nat) (hd : decode (ix_by m) pc = .ok (.tableswitch dflt lo hi offs, len)) (h1 : x.toInt < lo ∨ hi < x.toInt) (ht : (pc : Int) + dflt = (tgt : Int)) (k : iy_Ev G m tgt lv st h r h') : iy_Ev G m pc lv (.int x :: st) h r h' := iy_go (fun p l e R s mid args below meth c H locs cells slots Q ls hx hb hl k => lv_tableOut hx hb hd h1 ht k) k
theorem iy_get {i k j kd a : Nat} (hd : decode (ix_by m) pc = .ok (.getfield i, 3)) (hF : ix_FL (ix_own m) i k j kd) (ht : ix_tg h a = k + 1) (kk : iy_Ev G m (pc + 3) lv (ix_v h kd a j :: st) h r h') : iy_Ev G m pc lv (.ref a :: st) h r h' := by
  obtain ⟨hk, hj, hkd, hc, hin, ref, hlink, hsame⟩ := hF
  refine ⟨kk.1, fun p l e R s mid args below meth c C D H locs cells slots ls hR hS hl hc1 hs1 => ?_⟩
  have hts : ∀ w ∈ ix_words, w.before args s = true := fun w hw => C.w hw args
  obtain ⟨-, cell, q1, q2, q3, q4⟩ := hR.2.2.1 a k ht hk
  obtain ⟨hS9, hfc, kC, hkC, hkind⟩ := C.2.2.2.2.2.2.2.2.2.2.1.1 k _ hc
  obtain ⟨cf, kf, fi, f, hi, hsl⟩ := hS9 j hj
  have hv : cell.slots[f.slot]? = some (ix_v h kd a j) := by
    rw [hsl, q4 j hj]
    show some (ix_v h (ix_kd (ix_ty k j)) a j) = _
    rw [hkd]
  have hsame' : s.fieldFound? ref (ix_cT k j).2.1 (ix_cT k j).2.2.1 = some (cf, kf, fi, f) := by
    rcases hsame with e | e
    · rw [e]; exact hi
    · exact u_same (hts _ e) _ hi
  have K := kk.2 p l e R s mid args below meth c C D H locs cells slots ls hR hS hl hc1 hs1
  rcases hlink with hlink | ⟨host, hlink⟩
  · exact W.getf C.1 C.2.1 C.2.2.2.2.2.1 (hts _ hlink) hsame' (u_facts hfc hkC (u_lays hts hin hj) hi).1 q1 (by rw [q3]; exact fun h => by cases h) hv rfl rfl hd K
  · exact va_Wgetf C.1 C.2.1 C.2.2.2.2.2.1 (hts _ hlink) hsame' (u_facts hfc hkC (u_lays hts hin hj) hi).1 q1 (by rw [q3]; exact fun h => by cases h) hv rfl rfl hd K
theorem iy_geti {i k j a : Nat} (hd : decode (ix_by m) pc = .ok (.getfield i, 3)) (hF : ix_FL (ix_own m) i k j 0) (ht : ix_tg h a = k + 1) (kk : iy_Ev G m (pc + 3) lv (.int (ix_i h a j) :: st) h r h') : iy_Ev G m pc lv (.ref a :: st) h r h' := iy_get hd hF ht kk
theorem iy_getq {i k j a : Nat} (hd : decode (ix_by m) pc = .ok (.getfield i, 3)) (hF : ix_FL (ix_own m) i k j 2) (ht : ix_tg h a = k + 1) (kk : iy_Ev G m (pc + 3) lv (va_rf (ix_r h a j) :: st) h r h') : iy_Ev G m pc lv (.ref a :: st) h r h' := iy_get hd hF ht kk
theorem iy_getr {i k j a : Nat} (b : Nat) (hd : decode (ix_by m) pc = .ok (.getfield i, 3)) (hF : ix_FL (ix_own m) i k j 2) (ht : ix_tg h a = k + 1) (hb : ix_r h a j = some b) (kk : iy_Ev G m (pc + 3) lv (.ref b :: st) h r h') : iy_Ev G m pc lv (.ref a :: st) h r h' := iy_getq hd hF ht (by rw [hb]; exact kk)
theorem iy_getn {i k j a : Nat} (hd : decode (ix_by m) pc = .ok (.getfield i, 3)) (hF : ix_FL (ix_own m) i k j 2) (ht : ix_tg h a = k + 1) (hb : ix_r h a j = none) (kk : iy_Ev G m (pc + 3) lv (.null :: st) h r h') : iy_Ev G m pc lv (.ref a :: st) h r h' := iy_getq hd hF ht (by rw [hb]; exact kk)
theorem iy_put {i k j kd a : Nat} {v : Value} {h1 : ix_H} (hd : decode (ix_by m) pc = .ok (.putfield i, 3)) (hF : ix_FL (ix_own m) i k j kd) (hfin : (ix_cT k j).2.2.2 = false ∨ ((ix_y m).name = "<init>" ∧ (ix_cT k j).1 = ix_own m ∧ (ix_cT k j).2.2.2 = true)) (ht : ix_tg h a = k + 1) (hn : narrow (ix_ty k j) v = v) (hfit : fits (ix_ty k j) v = true)
    (e1 : ix_nx h1 = ix_nx h) (e0 : ix_us h1 = ix_us h) (e2 : ∀ b, ix_tg h1 b = ix_tg h b) (e3 : ∀ b, ix_ln h1 b = ix_ln h b) (e4 : ∀ kd' b j', b ≠ a ∨ j' ≠ j → ix_v h1 kd' b j' = ix_v h kd' b j') (e5 : ix_v h1 kd a j = v)
    (kk : iy_Ev G m (pc + 3) lv st h1 r h') : iy_Ev G m pc lv (v :: .ref a :: st) h r h' := by
  obtain ⟨hk, hj, hkd, hc, hin, ref, hlink, hsame⟩ := hF
  obtain ⟨hty, hnm⟩ := ix_tk k hk
  refine ⟨by rw [← e1, ← e0]; exact kk.1, fun p l e R s mid args below meth c C D H locs cells slots ls hR hS hl hc1 hs1 => ?_⟩
  have hts : ∀ w ∈ ix_words, w.before args s = true := fun w hw => C.w hw args
  have hK := C.2.2.2.2.2.2.2.2.2.2.1
  have hap := va_apart (own := ix_own m) hts hin (ix_ty k) hty hnm hK hc
  obtain ⟨hA, cell, q1, q2, q3, q4⟩ := hR.2.2.1 a k ht hk
  obtain ⟨hS9, hfc, kC, hkC, hkind⟩ := hK.1 k _ hc
  obtain ⟨cf, kf, fi, f, hi, hsl⟩ := hS9 j hj
  have hsame' : s.fieldFound? ref (ix_cT k j).2.1 (ix_cT k j).2.2.1 = some (cf, kf, fi, f) := by
    rcases hsame with e | e
    · rw [e]; exact hi
    · exact u_same (hts _ e) _ hi
  have hst := (u_facts hfc hkC (u_lays hts hin hj) hi).1
  have hlt : f.slot < cell.slots.size := by rw [hsl]; exact k2_hasslot (q4 j hj)
  have K : ∀ H' : Heap, H'[a]? = some (cell.setSlot f.slot v) → H'.size = H.size → (∀ q, q ≠ a → H'[q]? = H[q]?) → W p l e R s mid args below meth c H' (locs ++ [⟨a, f.slot⟩]) cells slots (iy_PQ below G r h' args s (cells + (ix_nx h' - ix_nx h)) (slots + (ix_us h' - ix_us h))) (F0 mid (pc + 3) ls st) := by
    intro H' g1 g2 g3
    rw [hsl] at g1
    have hR1 : ix_R G h1 H' := by
      refine hR.put e1 e2 e3 (fun kd' b j' hb => e4 kd' b j' (Or.inl hb)) g2 g3 (fun k' hk' _ => ?_) (fun t ht' _ => ?_) (fun t ht' => ?_)
      · have : k' = k := by omega
        subst this
        refine t_OB.to (V := updV (fun j' => ix_v h (ix_kd (ix_ty k' j')) a j') j v) ⟨_, g1, q2, q3, t_set q4 hap hj v⟩ (fun j' hj' => ?_)
        by_cases e : j' = j
        · subst e
          simp only [updV, if_true]
          rw [hkd, e5]
        · simp only [updV, if_neg e]
          exact (e4 _ a j' (Or.inr e)).symm
      · omega
      · omega
    have hS1 : va_S (ix_A G) s.heap H' (locs ++ [⟨a, G.1.2 k j⟩]) := hS.put g2 g3 hA
    have := kk.2 p l e R s mid args below meth c C D H' (locs ++ [⟨a, G.1.2 k j⟩]) cells slots ls hR1 hS1 hl (by rw [e1]; exact hc1) (by rw [e0]; exact hs1)
    rw [e1, e0] at this
    rw [hsl]
    exact this
  by_cases hfl : (ix_cT k j).2.2.2 = true
  · have hz : (ix_y m).name = "<init>" ∧ (ix_cT k j).1 = ix_own m := by
      rcases hfin with q | q
      · rw [hfl] at q; cases q
      · exact ⟨q.1, q.2.1⟩
    have hlay := hts _ (hin _ (u_in_lay hj))
    unfold u_lay at hlay
    rw [if_pos hfl] at hlay
    have hcf : mid.cls = cf := by
      obtain ⟨_, _, c', _, _, _, -, -, hf', -, -, -, hown2, -⟩ := Cond.laysFinal_spec hlay
      have z1 : c' = cf := by have := hi.symm.trans hf'; simp at this; exact this.1.symm
      rw [hz.2] at hown2
      rw [← z1]; exact Option.some.inj (C.2.2.2.2.2.1.symm.trans hown2)
    have h6 := u_fits hfc hkC hkind (Or.inr hlay) hi (hty j hj) hn hfit
    rcases hlink with hlink | ⟨host, hlink⟩
    · exact W.putFinK C.1 C.2.1 C.2.2.2.2.2.1 (hts _ hlink) hsame' hst hcf (by rw [C.2.2.2.2.2.2.1]; exact hz.1) (by rw [q2]; exact h6) q1 q3 hlt rfl rfl hd K
    · have ha : a < H.size := (Array.getElem?_eq_some_iff.mp q1).1
      refine va_Wputf C.1 C.2.1 C.2.2.2.2.2.1 (hts _ hlink) hsame' hst (Or.inr ⟨hcf, by rw [C.2.2.2.2.2.2.1]; exact hz.1⟩) q1 (by rw [q3]; exact fun h => by cases h) hlt h6.1 (by rw [q2, q3]; exact h6.2) rfl rfl hd (K _ ?_ ?_ ?_)
      · simp [Array.getElem?_setIfInBounds, ha]
      · simp
      · intro q hq
        simp [Array.getElem?_setIfInBounds, Ne.symm hq]
  · have hfl' : (ix_cT k j).2.2.2 = false := by simpa using hfl
    have hlay := hts _ (hin _ (u_in_lay hj))
    unfold u_lay at hlay
    rw [if_neg (by rw [hfl']; decide)] at hlay
    have h6 := u_store hfc hkC hkind hlay hi (hty j hj) hn hfit
    rcases hlink with hlink | ⟨host, hlink⟩
    · exact W.putK C.1 C.2.1 (f := f) ⟨C.2.2.2.2.2.1, hts _ hlink, ⟨_, _, _, hsame'⟩, hst⟩ (by rw [q2]; exact h6) q1 q3 hlt rfl rfl hd K
    · exact va_WputK C.1 C.2.1 (f := f) C.2.2.2.2.2.1 (hts _ hlink) hsame' hst (by rw [q2]; exact h6) q1 q3 hlt rfl rfl hd K
theorem iy_puti {i k j a : Nat} {x : Int32} (hd : decode (ix_by m) pc = .ok (.putfield i, 3)) (hF : ix_FL (ix_own m) i k j 0) (hfin : (ix_cT k j).2.2.2 = false ∨ ((ix_y m).name = "<init>" ∧ (ix_cT k j).1 = ix_own m ∧ (ix_cT k j).2.2.2 = true)) (ht : ix_tg h a = k + 1) (hn : narrow (ix_ty k j) (.int x) = .int x) (hfit : fits (ix_ty k j) (.int x) = true)
    (kk : iy_Ev G m (pc + 3) lv st (ix_si h a j x) r h') : iy_Ev G m pc lv (.int x :: .ref a :: st) h r h' :=
  iy_put hd hF hfin ht hn hfit (ix_nx_si h a j x) (ix_us_si h a j x) (ix_tg_si h a j x) (ix_ln_si h a j x) (fun kd' b j' q => ix_v_si kd' b j' (q.elim Or.inl (fun q => Or.inr (Or.inl q)))) (by show Value.int _ = _; rw [ix_i_si, if_pos ⟨rfl, rfl⟩]) kk
theorem iy_putr {i k j a b : Nat} (hd : decode (ix_by m) pc = .ok (.putfield i, 3)) (hF : ix_FL (ix_own m) i k j 2) (hfin : (ix_cT k j).2.2.2 = false ∨ ((ix_y m).name = "<init>" ∧ (ix_cT k j).1 = ix_own m ∧ (ix_cT k j).2.2.2 = true)) (ht : ix_tg h a = k + 1) (hn : narrow (ix_ty k j) (.ref b) = .ref b) (hfit : fits (ix_ty k j) (.ref b) = true)
    (kk : iy_Ev G m (pc + 3) lv st (ix_sr h a j (some b)) r h') : iy_Ev G m pc lv (.ref b :: .ref a :: st) h r h' :=
  iy_put hd hF hfin ht hn hfit (ix_nx_sr h a j (some b)) (ix_us_sr h a j (some b)) (ix_tg_sr h a j (some b)) (ix_ln_sr h a j (some b)) (fun kd' b' j' q => ix_v_sr kd' b' j' (q.elim Or.inl (fun q => Or.inr (Or.inl q)))) (by show va_rf _ = _; rw [ix_r_sr, if_pos ⟨rfl, rfl⟩]; rfl) kk
theorem iy_putN {i k j a : Nat} (hd : decode (ix_by m) pc = .ok (.putfield i, 3)) (hF : ix_FL (ix_own m) i k j 2) (hfin : (ix_cT k j).2.2.2 = false ∨ ((ix_y m).name = "<init>" ∧ (ix_cT k j).1 = ix_own m ∧ (ix_cT k j).2.2.2 = true)) (ht : ix_tg h a = k + 1) (hn : narrow (ix_ty k j) .null = .null) (hfit : fits (ix_ty k j) .null = true)
    (kk : iy_Ev G m (pc + 3) lv st (ix_sr h a j none) r h') : iy_Ev G m pc lv (.null :: .ref a :: st) h r h' :=
  iy_put hd hF hfin ht hn hfit (ix_nx_sr h a j none) (ix_us_sr h a j none) (ix_tg_sr h a j none) (ix_ln_sr h a j none) (fun kd' b' j' q => ix_v_sr kd' b' j' (q.elim Or.inl (fun q => Or.inr (Or.inl q)))) (by show va_rf _ = _; rw [ix_r_sr, if_pos ⟨rfl, rfl⟩]; rfl) kk
theorem iy_alen {a t : Nat} (hd : decode (ix_by m) pc = .ok (.arraylength, 1)) (t8 : t < 8) (ht : ix_tg h a = 100 + t ∨ ix_tg h a = 200 + t) (kk : iy_Ev G m (pc + 1) lv (.int (nI (ix_ln h a)) :: st) h r h') : iy_Ev G m pc lv (.ref a :: st) h r h' := by
  refine ⟨kk.1, fun p l e R s mid args below meth c C D H locs cells slots ls hR hS hl hc1 hs1 => ?_⟩
  obtain ⟨cell, g1, g2, g3, g4, g5, g6⟩ := hR.arrL C t8 ht
  exact W.alen (n := nI (ix_ln h a)) C.1 C.2.1 g1 g2 g5 rfl rfl hd (kk.2 p l e R s mid args below meth c C D H locs cells slots ls hR hS hl hc1 hs1)
theorem iy_iald {a : Nat} {j : Int32} (hd : decode (ix_by m) pc = .ok (.iaload, 1)) (ht : ix_tg h a = 100 ∨ ix_tg h a = 200) (hin : vp_in j (ix_ln h a)) (kk : iy_Ev G m (pc + 1) lv (.int (ix_i h a j.toNatClampNeg) :: st) h r h') : iy_Ev G m pc lv (.int j :: .ref a :: st) h r h' := by
  refine ⟨kk.1, fun p l e R s mid args below meth c C D H locs cells slots ls hR hS hl hc1 hs1 => ?_⟩
  obtain ⟨cell, g1, g2, g3, g4, g5, g6⟩ := hR.arrL C (t := 0) (by decide) ht
  exact W.iald C.1 C.2.1 g1 g2 g3 (fun z => z.elim (fun q => hin (Or.inl q)) (fun q => hin (Or.inr (Nat.le_trans g4 q)))) (g6 _ (ix_inlt hin)) rfl rfl hd (kk.2 p l e R s mid args below meth c C D H locs cells slots ls hR hS hl hc1 hs1)
theorem iy_zald {a : Nat} {j : Int32} (hd : decode (ix_by m) pc = .ok (.baload, 1)) (ht : ix_tg h a = 101) (hin : vp_in j (ix_ln h a)) (kk : iy_Ev G m (pc + 1) lv (.int (ix_i h a j.toNatClampNeg) :: st) h r h') : iy_Ev G m pc lv (.int j :: .ref a :: st) h r h' := by
  refine ⟨kk.1, fun p l e R s mid args below meth c C D H locs cells slots ls hR hS hl hc1 hs1 => ?_⟩
  exact W.zald C.1 C.2.1 (hR.arr (t := 1) (by decide) ht) (ix_isarr C (t := 1) (by decide) h a) (fun q => by cases q) (ix_ain hin) (ix_aread (ix_inlt hin)) rfl rfl hd (kk.2 p l e R s mid args below meth c C D H locs cells slots ls hR hS hl hc1 hs1)
theorem iy_bald {a : Nat} {j : Int32} (hd : decode (ix_by m) pc = .ok (.baload, 1)) (ht : ix_tg h a = 102) (hin : vp_in j (ix_ln h a)) (kk : iy_Ev G m (pc + 1) lv (.int (ix_i h a j.toNatClampNeg) :: st) h r h') : iy_Ev G m pc lv (.int j :: .ref a :: st) h r h' := by
  refine ⟨kk.1, fun p l e R s mid args below meth c C D H locs cells slots ls hR hS hl hc1 hs1 => ?_⟩
  exact W.bald C.1 C.2.1 (hR.arr (t := 2) (by decide) ht) (ix_isarr C (t := 2) (by decide) h a) (fun q => by cases q) (ix_ain hin) (ix_aread (ix_inlt hin)) rfl rfl hd (kk.2 p l e R s mid args below meth c C D H locs cells slots ls hR hS hl hc1 hs1)
theorem iy_lald {a : Nat} {j : Int32} (hd : decode (ix_by m) pc = .ok (.laload, 1)) (ht : ix_tg h a = 103) (hin : vp_in j (ix_ln h a)) (kk : iy_Ev G m (pc + 1) lv (.long (ix_l h a j.toNatClampNeg) :: st) h r h') : iy_Ev G m pc lv (.int j :: .ref a :: st) h r h' := by
  refine ⟨kk.1, fun p l e R s mid args below meth c C D H locs cells slots ls hR hS hl hc1 hs1 => ?_⟩
  exact W.lald C.1 C.2.1 (hR.arr (t := 3) (by decide) ht) (ix_isarr C (t := 3) (by decide) h a) (fun q => by cases q) (ix_ain hin) (ix_aread (ix_inlt hin)) rfl rfl hd (kk.2 p l e R s mid args below meth c C D H locs cells slots ls hR hS hl hc1 hs1)
theorem iy_aald {a t : Nat} {j : Int32} (hd : decode (ix_by m) pc = .ok (.aaload, 1)) (t8 : t < 8) (hty : (ix_at t).isReference = true) (hkd : ix_kd (ix_at t) = 2) (ht : ix_tg h a = 100 + t ∨ ix_tg h a = 200 + t) (hin : vp_in j (ix_ln h a)) (kk : iy_Ev G m (pc + 1) lv (va_rf (ix_r h a j.toNatClampNeg) :: st) h r h') : iy_Ev G m pc lv (.int j :: .ref a :: st) h r h' := by
  refine ⟨kk.1, fun p l e R s mid args below meth c C D H locs cells slots ls hR hS hl hc1 hs1 => ?_⟩
  obtain ⟨cell, g1, g2, g3, g4, g5, g6⟩ := hR.arrL C t8 ht
  have hv := g6 _ (ix_inlt hin)
  rw [hkd] at hv
  exact W.aald C.1 C.2.1 g1 g2 hty g3 (fun z => z.elim (fun q => hin (Or.inl q)) (fun q => hin (Or.inr (Nat.le_trans g4 q)))) hv rfl rfl hd (kk.2 p l e R s mid args below meth c C D H locs cells slots ls hR hS hl hc1 hs1)
theorem iy_iast {a : Nat} {j x : Int32} (hd : decode (ix_by m) pc = .ok (.iastore, 1)) (ht : ix_tg h a = 100) (hin : vp_in j (ix_ln h a)) (kk : iy_Ev G m (pc + 1) lv st (ix_si h a j.toNatClampNeg x) r h') : iy_Ev G m pc lv (.int x :: .int j :: .ref a :: st) h r h' := by
  refine ⟨kk.1, fun p l e R s mid args below meth c C D H locs cells slots ls hR hS hl hc1 hs1 => ?_⟩
  refine W.iast C.1 C.2.1 (hR.arr (t := 0) (by decide) ht) (ix_isarr C (t := 0) (by decide) h a) (fun q => by cases q) (ix_ain hin) rfl rfl hd fun H' g1 g2 g3 => ?_
  exact kk.2 p l e R s mid args below meth c C D H' _ cells slots ls (hR.ast (t := 0) (n := j.toNatClampNeg) (v := .int x) (by decide) ht rfl (fun _ => rfl) (fun _ => rfl) (fun kd b j' q => ix_v_si kd b j' (q.elim Or.inl (fun q => Or.inr (Or.inl q)))) (by show Value.int _ = _; rw [ix_i_si, if_pos ⟨rfl, rfl⟩]) g1 g2 g3) (hS.put g2 g3 (hR.2.2.2.1 a 0 ht (by decide)).1) hl hc1 hs1
theorem iy_bast {a : Nat} {j x : Int32} (hd : decode (ix_by m) pc = .ok (.bastore, 1)) (ht : ix_tg h a = 102) (hin : vp_in j (ix_ln h a)) (kk : iy_Ev G m (pc + 1) lv st (ix_si h a j.toNatClampNeg x.toInt8.toInt32) r h') : iy_Ev G m pc lv (.int x :: .int j :: .ref a :: st) h r h' := by
  refine ⟨kk.1, fun p l e R s mid args below meth c C D H locs cells slots ls hR hS hl hc1 hs1 => ?_⟩
  refine W.bast C.1 C.2.1 (hR.arr (t := 2) (by decide) ht) (ix_isarr C (t := 2) (by decide) h a) (fun q => by cases q) (ix_ain hin) rfl rfl hd fun H' g1 g2 g3 => ?_
  rw [narrow_byte] at g1
  exact kk.2 p l e R s mid args below meth c C D H' _ cells slots ls (hR.ast (t := 2) (n := j.toNatClampNeg) (v := .int x.toInt8.toInt32) (by decide) ht rfl (fun _ => rfl) (fun _ => rfl) (fun kd b j' q => ix_v_si kd b j' (q.elim Or.inl (fun q => Or.inr (Or.inl q)))) (by show Value.int _ = _; rw [ix_i_si, if_pos ⟨rfl, rfl⟩]) g1 g2 g3) (hS.put g2 g3 (hR.2.2.2.1 a 2 ht (by decide)).1) hl hc1 hs1
theorem iy_zast {a : Nat} {j x : Int32} (hd : decode (ix_by m) pc = .ok (.bastore, 1)) (ht : ix_tg h a = 101) (hx : x = 0 ∨ x = 1) (hin : vp_in j (ix_ln h a)) (kk : iy_Ev G m (pc + 1) lv st (ix_si h a j.toNatClampNeg x) r h') : iy_Ev G m pc lv (.int x :: .int j :: .ref a :: st) h r h' := by
  refine ⟨kk.1, fun p l e R s mid args below meth c C D H locs cells slots ls hR hS hl hc1 hs1 => ?_⟩
  refine W.zast C.1 C.2.1 (hR.arr (t := 1) (by decide) ht) (ix_isarr C (t := 1) (by decide) h a) (fun q => by cases q) (ix_ain hin) rfl rfl hd fun H' g1 g2 g3 => ?_
  have hz : narrow .boolean (.int x) = .int x := by rcases hx with q | q <;> subst q <;> decide +kernel
  rw [hz] at g1
  exact kk.2 p l e R s mid args below meth c C D H' _ cells slots ls (hR.ast (t := 1) (n := j.toNatClampNeg) (v := .int x) (by decide) ht rfl (fun _ => rfl) (fun _ => rfl) (fun kd b j' q => ix_v_si kd b j' (q.elim Or.inl (fun q => Or.inr (Or.inl q)))) (by show Value.int _ = _; rw [ix_i_si, if_pos ⟨rfl, rfl⟩]) g1 g2 g3) (hS.put g2 g3 (hR.2.2.2.1 a 1 ht (by decide)).1) hl hc1 hs1
theorem iy_last {a : Nat} {j : Int32} {x : Int64} (hd : decode (ix_by m) pc = .ok (.lastore, 1)) (ht : ix_tg h a = 103) (hin : vp_in j (ix_ln h a)) (kk : iy_Ev G m (pc + 1) lv st (ix_sl h a j.toNatClampNeg x) r h') : iy_Ev G m pc lv (.long x :: .int j :: .ref a :: st) h r h' := by
  refine ⟨kk.1, fun p l e R s mid args below meth c C D H locs cells slots ls hR hS hl hc1 hs1 => ?_⟩
  refine W.last C.1 C.2.1 (hR.arr (t := 3) (by decide) ht) (ix_isarr C (t := 3) (by decide) h a) (fun q => by cases q) (ix_ain hin) rfl rfl hd fun H' g1 g2 g3 => ?_
  exact kk.2 p l e R s mid args below meth c C D H' _ cells slots ls (hR.ast (t := 3) (n := j.toNatClampNeg) (v := .long x) (by decide) ht rfl (fun _ => rfl) (fun _ => rfl) (fun kd b j' q => ix_v_sl kd b j' (q.elim Or.inl (fun q => Or.inr (Or.inl q)))) (by show Value.long _ = _; rw [ix_l_sl, if_pos ⟨rfl, rfl⟩]) g1 g2 g3) (hS.put g2 g3 (hR.2.2.2.1 a 3 ht (by decide)).1) hl hc1 hs1
theorem iy_new {i k : Nat} (hd : decode (ix_by m) pc = .ok (.new i, 3)) (hN : ix_NL (ix_own m) i k) (kk : iy_Ev G m (pc + 3) lv (.ref (ix_nx h) :: st) (ix_nw h (k + 1) 0 (ix_nf k)) r h') : iy_Ev G m pc lv st h r h' := by
  obtain ⟨hk, hc, hin, hlink, hins, hini⟩ := hN
  have k1 := kk.1
  rw [ix_nx_nw, ix_us_nw] at k1
  refine ⟨by omega, fun p l e R s mid args below meth c C D H locs cells slots ls hR hS hl hc1 hs1 => ?_⟩
  have hts : ∀ w ∈ ix_words, w.before args s = true := fun w hw => C.w hw args
  have hKn := C.2.2.2.2.2.2.2.2.2.2.1.1 k _ hc
  refine W.newcK C.1 C.2.1 C.2.2.2.2.2.1 (hts _ hlink) (hts _ hins) (hts _ hini) rfl hd (by omega) (by omega) hKn.2.1 rfl fun H1 kC hkC e1 z1 o1 => ?_
  have hR1 : ix_R G (ix_nw h (k + 1) 0 (ix_nf k)) H1 := by
    refine hR.new z1 o1 (fun k' hk' _ => ?_) (fun t ht _ => by omega) (by omega)
    have : k' = k := by omega
    subst this
    refine (u_born (ix_ty k') hts hin hKn hkC e1 (ix_tk k' hk).1).to (fun j hj => ?_)
    rw [← hR.1]
    exact (ix_v_new _ (ix_nofd k' hk j hj) j).symm
  have K := kk.2 p l e R s mid args below meth c C D H1 locs (cells + 1) (slots + ix_nf k) ls hR1 (ix_newS hS z1 o1) hl (by rw [ix_nx_nw]; omega) (by rw [ix_us_nw]; omega)
  rw [ix_nx_nw, ix_us_nw, show cells + 1 + (ix_nx h' - (ix_nx h + 1)) = cells + (ix_nx h' - ix_nx h) by omega, show slots + ix_nf k + (ix_us h' - (ix_us h + ix_nf k)) = slots + (ix_us h' - ix_us h) by omega] at K
  exact W.eq (g2 := F0 mid (pc + 3) ls (.ref (ix_nx h) :: st)) (by rw [hR.1]) K
theorem iy_newa {t : Nat} {at_ : ArrayType} {n : Int32} {N : Nat} (hd : decode (ix_by m) pc = .ok (.newarray at_, 2)) (hA : ix_AK t at_) (hn : n = nI N) (hN : N ≤ 100000) (kk : iy_Ev G m (pc + 2) lv (.ref (ix_nx h) :: st) (ix_nw h (100 + t) N N) r h') : iy_Ev G m pc lv (.int n :: st) h r h' := by
  obtain ⟨t4, hty⟩ := hA
  have t8 : t < 8 := by omega
  have k1 := kk.1
  rw [ix_nx_nw, ix_us_nw] at k1
  refine ⟨by omega, fun p l e R s mid args below meth c C D H locs cells slots ls hR hS hl hc1 hs1 => ?_⟩
  have hRA := ix_arrK C t8
  have hAT : ArrOfT s (G.2.1 t) (ix_at t) := (C.2.2.2.2.2.2.2.2.2.2.1.2 t _ (ix_tyAt G t8)).1
  have hnm : s.vm.findClass ("[" ++ (ix_at t).toString) = some (G.2.1 t) := by
    match t, t4, hRA with
    | 0, _, q => exact q
    | 1, _, q => exact q
    | 2, _, q => exact q
    | 3, _, q => exact q
  have hcb : componentBytes (ix_at t) ≤ 8 := by
    match t, t4 with
    | 0, _ => decide
    | 1, _ => decide
    | 2, _ => decide
    | 3, _ => decide
  have hfd : ¬ ix_at t = .float ∧ ¬ ix_at t = .double := by
    match t, t4 with
    | 0, _ => decide
    | 1, _ => decide
    | 2, _ => decide
    | 3, _ => decide
  have hN31 : N < 2 ^ 31 := by omega
  refine va_newaK (N := N) C.1 C.2.1 (by rw [hty]; exact ix_harr hnm hAT) rfl hd rfl (by rw [hn]; exact nI_pos hN31) (by rw [hn]; exact nI_clamp hN31) (by rw [hty]; have := Nat.mul_le_mul_left N hcb; omega) (by omega) (by omega) rfl fun H1 cA e1 z1 o1 hAr hNm => ?_
  rw [hty] at e1 hNm
  have hcA : cA = G.2.1 t := Option.some.inj (hNm.symm.trans hnm)
  subst hcA
  have hR1 : ix_R G (ix_nw h (100 + t) N N) H1 := by
    refine hR.new z1 o1 (fun k' hk' _ => by omega) (fun t' ht _ => ?_) (by omega)
    have : t' = t := by omega
    subst this
    rw [e1, ← hR.1]
    unfold ix_arr
    rw [ix_ln_nw, if_pos rfl]
    congr 2
    funext j
    exact (ix_v_new _ hfd j).symm
  have K := kk.2 p l e R s mid args below meth c C D H1 locs (cells + 1) (slots + N) ls hR1 (ix_newS hS z1 o1) hl (by rw [ix_nx_nw]; omega) (by rw [ix_us_nw]; omega)
  rw [ix_nx_nw, ix_us_nw, show cells + 1 + (ix_nx h' - (ix_nx h + 1)) = cells + (ix_nx h' - ix_nx h) by omega, show slots + N + (ix_us h' - (ix_us h + N)) = slots + (ix_us h' - ix_us h) by omega] at K
  exact W.eq (g2 := F0 mid (pc + 2) ls (.ref (ix_nx h) :: st)) (by rw [hR.1]) K
theorem iy_anew {t i : Nat} {Cn : String} {n : Int32} {N : Nat} (hd : decode (ix_by m) pc = .ok (.anewarray i, 3)) (t8 : t < 8) (hat : ix_at t = .object Cn) (hCn : Cn = "FileDelivery$Side" ∨ Cn = "FileDelivery$Unit" ∨ Cn = "java/lang/Object") (hlink : Cond.classLink (ix_own m) i Cn ∈ ix_words) (hn : n = nI N) (hN : N ≤ 100000) (kk : iy_Ev G m (pc + 3) lv (.ref (ix_nx h) :: st) (ix_nw h (100 + t) N N) r h') : iy_Ev G m pc lv (.int n :: st) h r h' := by
  have k1 := kk.1
  rw [ix_nx_nw, ix_us_nw] at k1
  refine ⟨by omega, fun p l e R s mid args below meth c C D H locs cells slots ls hR hS hl hc1 hs1 => ?_⟩
  have hRA := ix_arrK C t8
  rw [hat] at hRA
  obtain ⟨kA0, comp0, -, -, -, hnm⟩ := hRA
  have hover : va_AO Cn s := by
    obtain ⟨-, -, -, -, -, h6, h7, h8, -⟩ := C.2.2.2.2.2.2.2.2.2
    rcases hCn with q | q | q
    · rw [q]; exact h6
    · rw [q]; exact h7
    · rw [q]; exact h8
  have hN31 : N < 2 ^ 31 := by omega
  have hcl : n.toNatClampNeg = N := by rw [hn]; exact nI_clamp hN31
  refine W.anew C.1 C.2.1 C.2.2.2.2.2.1 (C.w hlink args) (va_AO.use hover) rfl hd rfl (by rw [hn]; exact nI_pos hN31) (by rw [hcl]; omega) (by omega) (by rw [hcl]; omega) fun cA kA comp f1 f2 f3 f4 => ?_
  have hcA : cA = G.2.1 t := Option.some.inj (f1.symm.trans hnm)
  subst hcA
  rw [hcl]
  generalize hH1 : H.push ({ cls := G.2.1 t, slots := Array.replicate N .null, vm := .none } : Cell) = H1
  have z1 : H1.size = H.size + 1 := by rw [← hH1, Array.size_push]
  have e1 : H1[H.size]? = some (arrV (G.2.1 t) N (fun _ => .null)) := by rw [← hH1, Array.getElem?_push_size, ← arrV_new]
  have o1 : ∀ q : Nat, q < H.size → H1[q]? = H[q]? := fun q hq => by rw [← hH1, Array.getElem?_push, if_neg (Nat.ne_of_lt hq)]
  have hR1 : ix_R G (ix_nw h (100 + t) N N) H1 := by
    refine hR.new z1 o1 (fun k' hk' _ => by omega) (fun t' ht _ => ?_) (by omega)
    have : t' = t := by omega
    subst this
    rw [e1, ← hR.1]
    unfold ix_arr
    rw [ix_ln_nw, if_pos rfl]
    congr 2
    funext j
    rw [hat]
    exact (ix_v_new (.object Cn) ⟨fun q => (by cases q), fun q => (by cases q)⟩ j).symm
  have K := kk.2 p l e R s mid args below meth c C D H1 locs (cells + 1) (slots + N) ls hR1 (ix_newS hS z1 o1) hl (by rw [ix_nx_nw]; omega) (by rw [ix_us_nw]; omega)
  rw [ix_nx_nw, ix_us_nw, show cells + 1 + (ix_nx h' - (ix_nx h + 1)) = cells + (ix_nx h' - ix_nx h) by omega, show slots + N + (ix_us h' - (ix_us h + N)) = slots + (ix_us h' - ix_us h) by omega] at K
  exact W.eq (g2 := F0 mid (pc + 3) ls (.ref (ix_nx h) :: st)) (by rw [hR.1]) K
theorem iy_aast {a b t k : Nat} {j : Int32} (hd : decode (ix_by m) pc = .ok (.aastore, 1)) (hAS : ix_AS k t) (ht : ix_tg h a = 100 + t) (hb : ix_tg h b = k + 1) (hin : vp_in j (ix_ln h a)) (kk : iy_Ev G m (pc + 1) lv st (ix_sr h a j.toNatClampNeg (some b)) r h') : iy_Ev G m pc lv (.ref b :: .int j :: .ref a :: st) h r h' := by
  obtain ⟨k10, t8, hc, Cn, hat, hcast⟩ := hAS
  refine ⟨kk.1, fun p l e R s mid args below meth c C D H locs cells slots ls hR hS hl hc1 hs1 => ?_⟩
  have hts : ∀ w ∈ ix_words, w.before args s = true := fun w hw => C.w hw args
  obtain ⟨-, cellV, g1, g2, g3, -⟩ := hR.2.2.1 b k hb k10
  obtain ⟨-, hfc, kC, hkC, hkind⟩ := C.2.2.2.2.2.2.2.2.2.2.1.1 k _ hc
  have hRA := ix_arrK C t8
  rw [hat] at hRA
  obtain ⟨kA, comp, a1, a2, a3, a4⟩ := hRA
  have hasg : s.vm.assignable cellV.cls comp = true := by
    rw [g2]
    rcases hcast with q | q
    · have : comp = G.1.1 k := Option.some.inj (a3.symm.trans (by rw [← q]; exact hfc))
      rw [this]
      exact va_asg _ _
    · obtain ⟨c3, c4, hc3, hc4, hasg⟩ := Cond.castable_spec (hts _ q)
      cases Option.some.inj (hc3.symm.trans hfc)
      cases Option.some.inj (hc4.symm.trans a3)
      exact hasg
  obtain ⟨kcomp, hkcomp⟩ := Vm.classAt_of_findClass a3
  refine W.aast C.1 C.2.1 (hR.arr t8 ht) (fun q h => by cases h) (fun h => by cases h) a1 a2 rfl hkcomp ⟨fun q => hin (Or.inl q), by show _ < (arrV _ _ _).slots.size; rw [arrV_size]; exact ix_inlt hin⟩ g1 (fun q h => by rw [g3] at h; cases h) (by rw [g2]; exact hkC) hasg rfl rfl hd fun H' e1 e2 e3 => ?_
  exact kk.2 p l e R s mid args below meth c C D H' _ cells slots ls (hR.ast (t := t) (n := j.toNatClampNeg) (v := .ref b) t8 ht rfl (fun _ => rfl) (fun _ => rfl) (fun kd b j' q => ix_v_sr kd b j' (q.elim Or.inl (fun q => Or.inr (Or.inl q)))) (by rw [hat]; show va_rf _ = _; rw [ix_r_sr, if_pos ⟨rfl, rfl⟩]; rfl) e1 e2 e3) (hS.put e2 e3 (hR.2.2.2.1 a t ht t8).1) hl hc1 hs1
theorem iy_aastN {a t : Nat} {Cn : String} {j : Int32} (hd : decode (ix_by m) pc = .ok (.aastore, 1)) (t8 : t < 8) (hat : ix_at t = .object Cn) (ht : ix_tg h a = 100 + t) (hin : vp_in j (ix_ln h a)) (kk : iy_Ev G m (pc + 1) lv st (ix_sr h a j.toNatClampNeg none) r h') : iy_Ev G m pc lv (.null :: .int j :: .ref a :: st) h r h' := by
  refine ⟨kk.1, fun p l e R s mid args below meth c C D H locs cells slots ls hR hS hl hc1 hs1 => ?_⟩
  refine va_WaastN (C := Cn) C.1 C.2.1 (hR.arr t8 ht) (by rw [← hat]; exact ix_isarr C t8 h a) (fun h => by cases h) (ix_ain hin) rfl rfl hd fun H' e1 e2 e3 => ?_
  exact kk.2 p l e R s mid args below meth c C D H' _ cells slots ls (hR.ast (t := t) (n := j.toNatClampNeg) (v := .null) t8 ht rfl (fun _ => rfl) (fun _ => rfl) (fun kd b j' q => ix_v_sr kd b j' (q.elim Or.inl (fun q => Or.inr (Or.inl q)))) (by rw [hat]; show va_rf _ = _; rw [ix_r_sr, if_pos ⟨rfl, rfl⟩]; rfl) e1 e2 e3) (hS.put e2 e3 (hR.2.2.2.1 a t ht t8).1) hl hc1 hs1
theorem iy_callV {i k kc n b : Nat} (as : List Value) (hd : decode (ix_by m) pc = .ok (.invokevirtual i, 3)) (hk : ix_ok k n) (hroom : ix_room m k) (hL : ix_VL (ix_own m) i k kc) (hstk : stk = as.reverse ++ .ref b :: st) (hn : as.length = n) (hcat : (st.map fun v => v.category).sum ≤ 8) (hsl : (lg_sl (.ref b :: as)).length ≤ ix_mL k) (hb : ix_tg h b = kc + 1)
    (hM : ix_Ev G k 0 (lv_args 0 (.ref b :: as)) [] h rv h1) (kk : iy_Ev G m (pc + 3) lv (rv.toList ++ st) h1 r h') : iy_Ev G m pc lv stk h r h' := by
  subst hstk
  obtain ⟨hl1, hl2, hl3, hkc, hcl, hcn⟩ := hL
  have m1 := hM.1
  have k1 := kk.1
  refine ⟨by omega, fun p l e R s mid args below meth c C D H locs cells slots ls hR hS hl hc1 hs1 => ?_⟩
  have hts : ∀ w ∈ ix_words, w.before args s = true := fun w hw => C.w hw args
  obtain ⟨b1, b2, b3, b4, b5, b6⟩ := ix_callB C hk hroom (ix_nx h1 - ix_nx h) (ix_us h1 - ix_us h)
  obtain ⟨hblind, hpre⟩ := ix_pre (as := .ref b :: as) C hR hS
  obtain ⟨-, cellB, g1, g2, g3, -⟩ := hR.2.2.1 b kc hb hkc
  have hfc : s.vm.findClass (ix_y k).cls = some cellB.cls := by
    rw [g2, ← hcn]
    exact (C.2.2.2.2.2.2.2.2.2.2.1.1 kc _ hcl).2.1
  refine ix_run (va_runV (As := as) (rest := st) (C := (ix_y k).cls) (Ts := ix_words) (nL := ix_mL m) ⟨C.1, C.2.1, C.2.2.1, C.2.2.2.2.2.1, hts⟩ (ix_met l hM hk.1 hsl) ⟨⟨b1, b2, b3, b4, b5, b6, hts _ hk.2.2.1, hts _ hk.2.2.2, ⟨hk.2.1.1, hk.2.1.2.1⟩, ix_arity hk, hts _ hl1⟩, hts _ hl2, hts _ hl3⟩ ⟨hblind, ⟨cellB, g1, by rw [g3]; rfl, hfc⟩, hpre⟩ rfl hn hl.1 rfl (lv_room hcat) hd ⟨by omega, by omega⟩) hS fun H1 locs1 hR1 hS1 => ?_
  have K := kk.2 p l e R s mid args below meth c C D H1 locs1 (cells + (ix_nx h1 - ix_nx h)) (slots + (ix_us h1 - ix_us h)) ls hR1 hS1 hl (by omega) (by omega)
  rw [show cells + (ix_nx h1 - ix_nx h) + (ix_nx h' - ix_nx h1) = cells + (ix_nx h' - ix_nx h) by omega, show slots + (ix_us h1 - ix_us h) + (ix_us h' - ix_us h1) = slots + (ix_us h' - ix_us h) by omega] at K
  exact K
theorem iy_callS {i k n : Nat} (as : List Value) (hd : decode (ix_by m) pc = .ok (.invokestatic i, 3)) (hk : ix_ok k n) (hroom : ix_room m k) (hL : ix_SL (ix_own m) i k) (hstk : stk = as.reverse ++ st) (hn : as.length = n) (hcat : (st.map fun v => v.category).sum ≤ 8) (hsl : (lg_sl as).length ≤ ix_mL k)
    (hM : ix_Ev G k 0 (lv_args 0 as) [] h rv h1) (kk : iy_Ev G m (pc + 3) lv (rv.toList ++ st) h1 r h') : iy_Ev G m pc lv stk h r h' := by
  subst hstk
  obtain ⟨hl1, hl2⟩ := hL
  have m1 := hM.1
  have k1 := kk.1
  refine ⟨by omega, fun p l e R s mid args below meth c C D H locs cells slots ls hR hS hl hc1 hs1 => ?_⟩
  have hts : ∀ w ∈ ix_words, w.before args s = true := fun w hw => C.w hw args
  obtain ⟨b1, b2, b3, b4, b5, b6⟩ := ix_callB C hk hroom (ix_nx h1 - ix_nx h) (ix_us h1 - ix_us h)
  have hpre := ix_pre (as := as) C hR hS
  have K : ∀ (H1 : Heap) (locs1 : List Loc), ix_R G h1 H1 → va_S (ix_A G) s.heap H1 locs1 → W p l e R s mid args below meth c H1 locs1 (cells + (ix_nx h1 - ix_nx h)) (slots + (ix_us h1 - ix_us h)) (iy_PQ below G r h' args s (cells + (ix_nx h' - ix_nx h)) (slots + (ix_us h' - ix_us h))) (F0 mid (pc + 3) ls (rv.toList ++ st)) := by
    intro H1 locs1 hR1 hS1
    have K := kk.2 p l e R s mid args below meth c C D H1 locs1 (cells + (ix_nx h1 - ix_nx h)) (slots + (ix_us h1 - ix_us h)) ls hR1 hS1 hl (by omega) (by omega)
    rw [show cells + (ix_nx h1 - ix_nx h) + (ix_nx h' - ix_nx h1) = cells + (ix_nx h' - ix_nx h) by omega, show slots + (ix_us h1 - ix_us h) + (ix_us h' - ix_us h1) = slots + (ix_us h' - ix_us h) by omega] at K
    exact K
  rcases hl1 with hl1 | ⟨host, hl1⟩
  · exact ix_run (va_runS (As := as) (rest := st) (Ts := ix_words) (nL := ix_mL m) ⟨C.1, C.2.1, C.2.2.1, C.2.2.2.2.2.1, hts⟩ (ix_met l hM hk.1 hsl) ⟨⟨b1, b2, b3, b4, b5, b6, hts _ hk.2.2.1, hts _ hk.2.2.2, ⟨hk.2.1.1, hk.2.1.2.1⟩, ix_arity hk, hts _ hl1⟩, hts _ hl2⟩ hpre rfl hn hl.1 rfl (lv_room hcat) hd ⟨by omega, by omega⟩) hS K
  · exact ix_run (va_runSN (As := as) (rest := st) (Ts := ix_words) (nL := ix_mL m) (host := host) ⟨C.1, C.2.1, C.2.2.1, C.2.2.2.2.2.1, hts⟩ (ix_met l hM hk.1 hsl) ⟨⟨⟨b1, b2, b3, b4, b5, b6⟩, hts _ hk.2.2.1, hts _ hk.2.2.2, ⟨hk.2.1.1, hk.2.1.2.1⟩, ix_arity hk, hts _ hl1⟩, hts _ hl2, trivial⟩ hpre rfl hn hl.1 rfl (lv_room hcat) hd ⟨by omega, by omega⟩) hS K
theorem iy_callI {i k n b : Nat} (as : List Value) (hd : decode (ix_by m) pc = .ok (.invokespecial i, 3)) (hk : ix_ok k n) (hroom : ix_room m k) (hL : ix_IL (ix_own m) i k) (hstk : stk = as.reverse ++ .ref b :: st) (hn : as.length = n) (hcat : (st.map fun v => v.category).sum ≤ 8) (hsl : (lg_sl (.ref b :: as)).length ≤ ix_mL k)
    (hM : ix_Ev G k 0 (lv_args 0 (.ref b :: as)) [] h none h1) (kk : iy_Ev G m (pc + 3) lv st h1 r h') : iy_Ev G m pc lv stk h r h' := by
  subst hstk
  obtain ⟨hl1, hl2, hl3, hrt⟩ := hL
  have m1 := hM.1
  have k1 := kk.1
  refine ⟨by omega, fun p l e R s mid args below meth c C D H locs cells slots ls hR hS hl hc1 hs1 => ?_⟩
  have hts : ∀ w ∈ ix_words, w.before args s = true := fun w hw => C.w hw args
  obtain ⟨b1, b2, b3, b4, b5, b6⟩ := ix_callB C hk hroom (ix_nx h1 - ix_nx h) (ix_us h1 - ix_us h)
  have hpre := ix_pre (as := .ref b :: as) C hR hS
  have hcd := hts _ hk.2.2.1
  rw [hrt] at b6 hcd
  have K : ∀ (H1 : Heap) (locs1 : List Loc), ix_R G h1 H1 → va_S (ix_A G) s.heap H1 locs1 → W p l e R s mid args below meth c H1 locs1 (cells + (ix_nx h1 - ix_nx h)) (slots + (ix_us h1 - ix_us h)) (iy_PQ below G r h' args s (cells + (ix_nx h' - ix_nx h)) (slots + (ix_us h' - ix_us h))) (F0 mid (pc + 3) ls ((none : Option Value).toList ++ st)) := by
    intro H1 locs1 hR1 hS1
    have K := kk.2 p l e R s mid args below meth c C D H1 locs1 (cells + (ix_nx h1 - ix_nx h)) (slots + (ix_us h1 - ix_us h)) ls hR1 hS1 hl (by omega) (by omega)
    rw [show cells + (ix_nx h1 - ix_nx h) + (ix_nx h' - ix_nx h1) = cells + (ix_nx h' - ix_nx h) by omega, show slots + (ix_us h1 - ix_us h) + (ix_us h' - ix_us h1) = slots + (ix_us h' - ix_us h) by omega] at K
    exact K
  rcases hl1 with hl1 | ⟨host, hl1⟩
  · exact ix_run (va_runI (As := as) (rest := st) (Ts := ix_words) (nL := ix_mL m) ⟨C.1, C.2.1, C.2.2.1, C.2.2.2.2.2.1, hts⟩ (ix_met l hM hk.1 hsl) ⟨⟨b1, b2, b3, b4, b5, b6, hcd, hts _ hk.2.2.2, ⟨hk.2.1.1, hk.2.1.2.1⟩, ix_arity hk, hts _ hl1⟩, hl3, hts _ hl2⟩ hpre rfl hn hl.1 rfl (lv_room hcat) hd ⟨by omega, by omega⟩) hS K
  · exact ix_run (va_runIN (As := as) (rest := st) (Ts := ix_words) (nL := ix_mL m) (host := host) ⟨C.1, C.2.1, C.2.2.1, C.2.2.2.2.2.1, hts⟩ (ix_met l hM hk.1 hsl) ⟨⟨⟨b1, b2, b3, b4, b5, b6⟩, hcd, hts _ hk.2.2.2, ⟨hk.2.1.1, hk.2.1.2.1⟩, ix_arity hk, hts _ hl1⟩, hl3, hts _ hl2⟩ hpre rfl hn hl.1 rfl (lv_room hcat) hd ⟨by omega, by omega⟩) hS K
theorem iy_objI {i b : Nat} (hd : decode (ix_by m) pc = .ok (.invokespecial i, 3)) (hL : Cond.methodLink (ix_own m) i objectInit ∈ ix_words) (hI : Cond.instanceMethod objectInit ∈ ix_words) (hC : Cond.code objectInit ⟨#[0xb1]⟩ 1 none ∈ ix_words) (hf : 1 ≤ ix_fr m) (hlo : (st.map fun v => v.category).sum + 12 ≤ ix_lo m) (kk : iy_Ev G m (pc + 3) lv st h r h') : iy_Ev G m pc lv (.ref b :: st) h r h' := by
  refine ⟨kk.1, fun p l e R s mid args below meth c C D H locs cells slots ls hR hS hl hc1 hs1 => ?_⟩
  refine W.objInit C.1 C.2.1 C.2.2.2.2.2.1 (C.w hL args) (C.w hI args) (C.w hC args) rfl (by rw [C.2.2.1]; exact hl.1) rfl hd (Nat.le_trans hf C.2.2.2.2.2.2.2.1) ?_ (kk.2 p l e R s mid args below meth c C D H locs cells slots ls hR hS hl hc1 hs1)
  have := C.2.2.2.2.2.2.2.2.1
  show 2 * 0 + _ + 12 ≤ _
  omega
theorem iy_cast {i k a : Nat} {nm : String} (hd : decode (ix_by m) pc = .ok (.checkcast i, 3)) (hk : k < 10) (hcl : ix_cl[k]? = some (ix_cn k, ix_cT k, ix_nf k)) (hL : Cond.classLink (ix_own m) i nm ∈ ix_words) (hC : Cond.castable (ix_cn k) nm ∈ ix_words) (ht : ix_tg h a = k + 1) (kk : iy_Ev G m (pc + 3) lv (.ref a :: st) h r h') : iy_Ev G m pc lv (.ref a :: st) h r h' := by
  refine ⟨kk.1, fun p l e R s mid args below meth c C D H locs cells slots ls hR hS hl hc1 hs1 => ?_⟩
  obtain ⟨-, cell, g1, g2, g3, -⟩ := hR.2.2.1 a k ht hk
  exact va_castY C.1 C.2.1 C.2.2.2.2.2.1 (C.w hL args) (C.2.2.2.2.2.2.2.2.2.1 _ hC) ⟨cell, g1, by rw [g3]; rfl, by rw [g2]; exact (C.2.2.2.2.2.2.2.2.2.2.1.1 k _ hcl).2.1⟩ hd (kk.2 p l e R s mid args below meth c C D H locs cells slots ls hR hS hl hc1 hs1)
theorem iy_castN {i : Nat} (hd : decode (ix_by m) pc = .ok (.checkcast i, 3)) (kk : iy_Ev G m (pc + 3) lv (.null :: st) h r h') : iy_Ev G m pc lv (.null :: st) h r h' := iy_go (fun p l e R s mid args below meth c H locs cells slots Q ls hx hb hl k => lv_castN hx hb hd k) kk
theorem iy_gets {i : Nat} (hd : decode (ix_by m) pc = .ok (.getstatic i, 3)) (hL : Cond.fieldLink (ix_own m) i "java/util/ArrayList" "DEFAULTCAPACITY_EMPTY_ELEMENTDATA" "[Ljava/lang/Object;" ∈ ix_words) (kk : iy_Ev G m (pc + 3) lv (.ref G.2.2.2.1 :: st) h r h') : iy_Ev G m pc lv st h r h' := by
  refine ⟨kk.1, fun p l e R s mid args below meth c C D H locs cells slots ls hR hS hl hc1 hs1 => ?_⟩
  exact va_gets C.1 C.2.1 C.2.2.2.2.2.2.2.2.2.2.2.2.1 hS C.2.2.2.2.2.1 (C.w hL args) (fun _ h => h) hd (kk.2 p l e R s mid args below meth c C D H locs cells slots ls hR hS hl hc1 hs1)
theorem iy_ldcM {i : Nat} (hd : decode (ix_by m) pc = .ok (.ldc i, 2)) (hL : Cond.classLink (ix_own m) i "[Ljava/lang/Object;" ∈ ix_words) (kk : iy_Ev G m (pc + 2) lv (.ref G.2.2.2.2 :: st) h r h') : iy_Ev G m pc lv st h r h' := by
  refine ⟨kk.1, fun p l e R s mid args below meth c C D H locs cells slots ls hR hS hl hc1 hs1 => ?_⟩
  exact va_ldcM C.1 C.2.1 C.2.2.2.2.2.1 (C.w hL args) C.2.2.2.2.2.2.2.2.2.2.2.2.2.1 hd (kk.2 p l e R s mid args below meth c C D H locs cells slots ls hR hS hl hc1 hs1)
theorem iy_getC {i a : Nat} (hd : decode (ix_by m) pc = .ok (.invokevirtual i, 3)) (hL : Cond.methodLink (ix_own m) i ix_gc ∈ ix_words) (hD : Cond.declares ix_gc ∈ ix_words) (hSel : Cond.selects "[Ljava/lang/Object;" ix_gc ix_gc ∈ ix_words) (hI : Cond.instanceMethod ix_gc ∈ ix_words) (hNt : Cond.native ix_gc ∈ ix_words) (hf : 1 ≤ ix_fr m) (hlo : (st.map fun v => v.category).sum + 14 ≤ ix_lo m) (ht : ix_tg h a = 107 ∨ ix_tg h a = 207) (kk : iy_Ev G m (pc + 3) lv (.ref G.2.2.2.2 :: st) h r h') : iy_Ev G m pc lv (.ref a :: st) h r h' := by
  refine ⟨kk.1, fun p l e R s mid args below meth c C D H locs cells slots ls hR hS hl hc1 hs1 => ?_⟩
  have hnm : s.vm.findClass "[Ljava/lang/Object;" = some (G.2.1 7) := va_nmO (C := "java/lang/Object") (ix_arrK C (t := 7) (by decide)) (by decide +kernel)
  have hcl : ∃ cell : Cell, H[a]? = some cell ∧ cell.vm.isStatics = false ∧ s.vm.findClass "[Ljava/lang/Object;" = some cell.cls := by
    rcases ht with q | q
    · exact ⟨_, hR.arr (t := 7) (by decide) q, rfl, hnm⟩
    · obtain ⟨cell, q1, q2, q3, q4, -⟩ := hR.2.2.2.2 a 7 q (by decide)
      refine ⟨cell, q1, ?_, by rw [q2]; exact C.2.2.2.2.2.2.2.2.2.2.2.2.2.2.2.2.2.2⟩
      cases hv : cell.vm with
      | statics x => exact absurd hv (q4 x)
      | _ => rfl
  refine va_getC C.1 C.2.1 (by rw [C.2.2.1]; exact hl.1.symm) C.2.2.2.2.2.1 (C.w hL args) (C.w hD args) (C.w hSel args) (C.w hI args) (C.w hNt args) C.2.2.2.2.2.2.2.2.2.2.2.2.2.1 hcl (Nat.le_trans hf C.2.2.2.2.2.2.2.1) ?_ hd (kk.2 p l e R s mid args below meth c C D H locs cells slots ls hR hS hl hc1 hs1)
  have := C.2.2.2.2.2.2.2.2.1
  omega
theorem iy_copy {h1 : ix_H} {i t src dst : Nat} {sp dp n : Int32} (hd : decode (ix_by m) pc = .ok (.invokestatic i, 3)) (hL : ix_CpL (ix_own m) i) (hf : 1 ≤ ix_fr m) (hlo : (st.map fun v => v.category).sum + (nativeFrameWords "java/lang/System" "arraycopy" 5 + 11) ≤ ix_lo m)
    (t8 : t < 8) (hsrc : ix_tg h src = 100 + t ∨ ix_tg h src = 200 + t) (hdst : ix_tg h dst = 100 + t) (q1 : ¬ sp < 0) (q2 : ¬ dp < 0) (q3 : ¬ n < 0) (q4 : sp.toNatClampNeg + n.toNatClampNeg ≤ ix_ln h src) (q5 : dp.toNatClampNeg + n.toNatClampNeg ≤ ix_ln h dst)
    (hfit : ∀ j, j < n.toNatClampNeg → fits (ix_at t) (ix_v h (ix_kd (ix_at t)) src (sp.toNatClampNeg + j)) = true)
    (hel : ∀ j, j < n.toNatClampNeg → ∀ y : Nat, ix_v h (ix_kd (ix_at t)) src (sp.toNatClampNeg + j) = .ref y → ∃ (k : Nat) (Cn : String), ix_at t = .object Cn ∧ k < 10 ∧ ix_tg h y = k + 1 ∧ ix_cl[k]? = some (ix_cn k, ix_cT k, ix_nf k) ∧ Cond.castable (ix_cn k) Cn ∈ ix_words)
    (e0 : ix_us h1 = ix_us h) (e1 : ix_nx h1 = ix_nx h) (e2 : ∀ b, ix_tg h1 b = ix_tg h b) (e3 : ∀ b, ix_ln h1 b = ix_ln h b) (e4 : ∀ kd b j, b ≠ dst → ix_v h1 kd b j = ix_v h kd b j) (e5 : ∀ j, ix_v h1 (ix_kd (ix_at t)) dst j = va_cpy (fun j => ix_v h (ix_kd (ix_at t)) src j) (fun j => ix_v h (ix_kd (ix_at t)) dst j) sp.toNatClampNeg dp.toNatClampNeg n.toNatClampNeg j)
    (kk : iy_Ev G m (pc + 3) lv st h1 r h') : iy_Ev G m pc lv (.int n :: .int dp :: .ref dst :: .int sp :: .ref src :: st) h r h' := by
  obtain ⟨l1, l2, l3, l4⟩ := hL
  refine ⟨by rw [← e1, ← e0]; exact kk.1, fun p l e R s mid args below meth c C D H locs cells slots ls hR hS hl hc1 hs1 => ?_⟩
  have hts : ∀ w ∈ ix_words, w.before args s = true := fun w hw => C.w hw args
  intro T hT X
  obtain ⟨cs0, hc0, ⟨hv0, k0, hk0, cm0, hkk0⟩, hun0, hle0, -, hsl0⟩ := hR.arrL C t8 hsrc
  have hcD := hR.arr t8 hdst
  obtain ⟨-, kD, hkD, cmD, hkkD⟩ := ix_isarr C t8 h dst
  have hrd : ∀ j, j < n.toNatClampNeg → cs0.slots.getD (sp.toNatClampNeg + j) .null = ix_v h (ix_kd (ix_at t)) src (sp.toNatClampNeg + j) := fun j hj => by
    rw [Array.getD_eq_getD_getElem?, hsl0 _ (by omega)]
    rfl
  obtain ⟨vm', X', step⟩ := X.arraycopy C.1 C.2.2.2.2.2.1 (hts _ l1) (hts _ l2) (hts _ l3) (hts _ l4) (src := src) (dst := dst) (cs := cs0) (cd := ix_arr G h t dst) (srcPos := sp) (destPos := dp) (n := n) (by rw [hT]; exact hc0) (by rw [hT]; exact hcD)
    (fun x z => hv0 x z) (fun _ h => by cases h) hun0 (fun h => by cases h) hk0 hkD hkk0 hkkD (by cases refKind (ix_at t) <;> simp) q1 q2 q3
    (by rw [ix_nn q1, ix_nn q3]; omega)
    (by rw [ix_nn q2, ix_nn q3]; show ¬ _ > ((arrV _ _ _).slots.size : Int); rw [arrV_size]; omega)
    (fun vm₁ hal i hi => by
      rw [hrd i hi]
      refine ⟨hfit i hi, ?_⟩
      cases hy : ix_v h (ix_kd (ix_at t)) src (sp.toNatClampNeg + i) with
      | ref y =>
        obtain ⟨k, Cn, hat, hk, hy2, hcl, hca⟩ := hel i hi y hy
        obtain ⟨-, cellV, g1, g2, g3, -⟩ := hR.2.2.1 y k hy2 hk
        have hRA := ix_arrK C t8
        rw [hat] at hRA
        obtain ⟨kA, comp, r1, r2, r3, -⟩ := hRA
        cases hkD.symm.trans r1
        have hcm : cmD = comp := by
          have := hkkD.symm.trans r2
          injection this
        subst hcm
        obtain ⟨-, hfc, kC, hkC, -⟩ := C.2.2.2.2.2.2.2.2.2.2.1.1 k _ hcl
        obtain ⟨kE, hkE, -⟩ := Vm.findClass_spec r3
        obtain ⟨kC', hkC', -⟩ := hal.2.2 _ _ hkC
        obtain ⟨kE', hkE', -⟩ := hal.2.2 _ _ hkE
        refine ⟨cellV, (show T.heap[y]? = some cellV by rw [hT]; exact g1), (fun q h => by rw [g3] at h; cases h), ⟨kC', by rw [g2]; exact hkC'⟩, ⟨kE', hkE'⟩, ?_⟩
        show vm₁.assignable _ _ = true
        rw [hal.assignable, g2]
        obtain ⟨c3, c4, hc3, hc4, hasg⟩ := Cond.castable_spec (hts _ hca)
        cases Option.some.inj (hc3.symm.trans hfc)
        cases Option.some.inj (hc4.symm.trans r3)
        exact hasg
      | _ => exact trivial)
    (g := F0 mid pc ls (.int n :: .int dp :: .ref dst :: .int sp :: .ref src :: st)) rfl (by rw [C.2.2.1]; exact hl.1) (rest := st) rfl (by rw [C.2.1]; exact hd) (Nat.le_trans hf C.2.2.2.2.2.2.2.1) (by have := C.2.2.2.2.2.2.2.2.1; show 2 * 0 + _ + _ ≤ _; omega)
  have hcp : copied cs0 (ix_arr G h t dst) sp dp n = ix_arr G h1 t dst := by
    have hcs : copied cs0 (ix_arr G h t dst) sp dp n = copied (ix_arr G h t src) (ix_arr G h t dst) sp dp n := by
      have hst : cs0.stretch sp.toNatClampNeg n.toNatClampNeg = (ix_arr G h t src).stretch sp.toNatClampNeg n.toNatClampNeg := by
        unfold Cell.stretch
        refine List.map_congr_left (fun j hj => ?_)
        have hj2 := List.mem_range.mp hj
        rw [hrd j hj2, Array.getD_eq_getD_getElem?, ix_aread (by omega)]
        rfl
      unfold copied
      rw [hst]
    rw [hcs]
    have z := va_copied (fun v : Value => v) (G.2.1 t) (G.2.1 t) (n0 := ix_ln h src) (n1 := ix_ln h dst) (sp := sp.toNatClampNeg) (dp := dp.toNatClampNeg) (n := n.toNatClampNeg) (fun j => ix_v h (ix_kd (ix_at t)) src j) (fun j => ix_v h (ix_kd (ix_at t)) dst j) q4
    refine Eq.trans z ?_
    unfold ix_arr
    rw [e3 dst]
    congr 1
    funext j
    exact (e5 j).symm
  rw [hcp] at X' step
  have hlt : dst < H.size := (Array.getElem?_eq_some_iff.mp hcD).1
  have hheap : ((T.setVm vm').setCell dst (ix_arr G h1 t dst)).heap = H.setIfInBounds dst (ix_arr G h1 t dst) := by rw [← hT]; rfl
  have oq : ∀ q : Nat, q ≠ dst → (H.setIfInBounds dst (ix_arr G h1 t dst))[q]? = H[q]? := fun q hq => by simp [Array.getElem?_setIfInBounds, Ne.symm hq]
  have oz : (H.setIfInBounds dst (ix_arr G h1 t dst)).size = H.size := by simp
  have hA := (hR.2.2.2.1 dst t hdst t8).1
  have hR1 : ix_R G h1 (H.setIfInBounds dst (ix_arr G h1 t dst)) := by
    refine hR.put e1 e2 e3 e4 oz oq (fun k hk _ => by omega) (fun t' ht' _ => ?_) (fun t' ht' => by omega)
    have : t' = t := by omega
    subst this
    simp [Array.getElem?_setIfInBounds, hlt]
  have hS1 : va_S (ix_A G) s.heap (H.setIfInBounds dst (ix_arr G h1 t dst)) (locs ++ (cs0.stretch sp.toNatClampNeg n.toNatClampNeg).zipIdx.map fun q => ⟨dst, dp.toNatClampNeg + q.2⟩) := ⟨by rw [oz]; exact hS.1, fun q g1 g2 => by
      rw [oq q (fun e => g2 (by rw [e]; exact hA))]
      exact hS.2.1 q g1 g2, fun q hq => by
      rcases List.mem_append.mp hq with h | h
      · exact hS.2.2 q h
      · obtain ⟨z, -, hz⟩ := List.mem_map.mp h
        rw [← hz]
        exact hA⟩
  have K := kk.2 p l e R s mid args below meth c C D _ _ cells slots ls hR1 hS1 hl (by rw [e1]; exact hc1) (by rw [e0]; exact hs1)
  rw [e1, e0] at K
  obtain ⟨t2, a1, b1⟩ := K _ hheap X'
  exact ⟨t2, step t2 a1, b1⟩
theorem iy_copyB {i src dst : Nat} {sp dp n : Int32} (hd : decode (ix_by m) pc = .ok (.invokestatic i, 3)) (hL : ix_CpL (ix_own m) i) (hf : 1 ≤ ix_fr m) (hlo : (st.map fun v => v.category).sum + (nativeFrameWords "java/lang/System" "arraycopy" 5 + 11) ≤ ix_lo m)
    (hsrc : ix_tg h src = 102) (hdst : ix_tg h dst = 102) (q1 : ¬ sp < 0) (q2 : ¬ dp < 0) (q3 : ¬ n < 0) (q4 : sp.toNatClampNeg + n.toNatClampNeg ≤ ix_ln h src) (q5 : dp.toNatClampNeg + n.toNatClampNeg ≤ ix_ln h dst) (hfit : ∀ j, j < n.toNatClampNeg → fits .byte (.int (ix_i h src (sp.toNatClampNeg + j))) = true)
    (kk : iy_Ev G m (pc + 3) lv st (ix_cpi h src sp.toNatClampNeg dst dp.toNatClampNeg n.toNatClampNeg) r h') : iy_Ev G m pc lv (.int n :: .int dp :: .ref dst :: .int sp :: .ref src :: st) h r h' := by
  refine iy_copy (t := 2) (h1 := ix_cpi h src sp.toNatClampNeg dst dp.toNatClampNeg n.toNatClampNeg) hd hL hf hlo (by decide) (Or.inl hsrc) hdst q1 q2 q3 q4 q5 hfit (fun j hj y hy => by cases hy) rfl rfl (fun _ => rfl) (fun _ => rfl) (fun kd b j hb => ?_) (fun j => ?_) kk
  · match kd with
    | 0 => show Value.int _ = Value.int _; rw [ix_i_cpi, if_neg (fun z => hb z.1)]
    | 1 => rfl
    | k + 2 => rfl
  · show Value.int _ = _
    rw [ix_i_cpi]
    unfold va_cpy
    by_cases q : dp.toNatClampNeg ≤ j ∧ j < dp.toNatClampNeg + n.toNatClampNeg
    · rw [if_pos ⟨rfl, q⟩, if_pos q]; rfl
    · rw [if_neg (fun z => q z.2), if_neg q]; rfl
theorem iy_copyR {i src dst : Nat} {sp dp n : Int32} (hd : decode (ix_by m) pc = .ok (.invokestatic i, 3)) (hL : ix_CpL (ix_own m) i) (hf : 1 ≤ ix_fr m) (hlo : (st.map fun v => v.category).sum + (nativeFrameWords "java/lang/System" "arraycopy" 5 + 11) ≤ ix_lo m)
    (hsrc : ix_tg h src = 107 ∨ ix_tg h src = 207) (hdst : ix_tg h dst = 107) (q1 : ¬ sp < 0) (q2 : ¬ dp < 0) (q3 : ¬ n < 0) (q4 : sp.toNatClampNeg + n.toNatClampNeg ≤ ix_ln h src) (q5 : dp.toNatClampNeg + n.toNatClampNeg ≤ ix_ln h dst) (hel : ∀ j, j < n.toNatClampNeg → ∀ y : Nat, ix_r h src (sp.toNatClampNeg + j) = some y → ∃ k : Nat, k < 10 ∧ ix_tg h y = k + 1 ∧ ix_cl[k]? = some (ix_cn k, ix_cT k, ix_nf k) ∧ Cond.castable (ix_cn k) "java/lang/Object" ∈ ix_words)
    (kk : iy_Ev G m (pc + 3) lv st (ix_cpr h src sp.toNatClampNeg dst dp.toNatClampNeg n.toNatClampNeg) r h') : iy_Ev G m pc lv (.int n :: .int dp :: .ref dst :: .int sp :: .ref src :: st) h r h' := by
  refine iy_copy (t := 7) (h1 := ix_cpr h src sp.toNatClampNeg dst dp.toNatClampNeg n.toNatClampNeg) hd hL hf hlo (by decide) hsrc hdst q1 q2 q3 q4 q5 (fun j hj => ?_) (fun j hj y hy => ?_) rfl rfl (fun _ => rfl) (fun _ => rfl) (fun kd b j hb => ?_) (fun j => ?_) kk
  · show fits (.object _) (va_rf (ix_r h src _)) = true
    cases ix_r h src (sp.toNatClampNeg + j) <;> rfl
  · have hy' : va_rf (ix_r h src (sp.toNatClampNeg + j)) = .ref y := hy
    cases hz : ix_r h src (sp.toNatClampNeg + j) with
    | none => rw [hz] at hy'; cases hy'
    | some w =>
      rw [hz] at hy'
      have : w = y := by injection hy'
      subst this
      obtain ⟨k, a1, a2, a3, a4⟩ := hel j hj w hz
      exact ⟨k, _, rfl, a1, a2, a3, a4⟩
  · match kd with
    | 0 => rfl
    | 1 => rfl
    | k + 2 => show va_rf _ = va_rf _; rw [ix_r_cpr, if_neg (fun z => hb z.1)]
  · show va_rf _ = _
    rw [ix_r_cpr]
    unfold va_cpy
    by_cases q : dp.toNatClampNeg ≤ j ∧ j < dp.toNatClampNeg + n.toNatClampNeg
    · rw [if_pos ⟨rfl, q⟩, if_pos q]; rfl
    · rw [if_neg (fun z => q z.2), if_neg q]; rfl
theorem iy_iret {v : Int32} {ty : FieldType} (hd : decode (ix_by m) pc = .ok (.ireturn, 1)) (hr : ix_rt m = some ty) (hn : narrow ty (.int v) = .int v) : iy_Ev G m pc lv [.int v] h (.inl (some (.int v))) h := iy_of (ix_iret hd hr hn)
theorem iy_vret (hd : decode (ix_by m) pc = .ok (.return_, 1)) (hr : ix_rt m = none) : iy_Ev G m pc lv [] h (.inl none) h := iy_of (ix_vret hd hr)
end IY
