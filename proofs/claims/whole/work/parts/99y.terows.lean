/-! ===== the rows with throws, with a postcondition (written by wip/whole/gen6.py) ===== -/
def iy_E (G : ix_G) (m pc : Nat) (lv : List (Nat × Value)) (st : List Value) (h : ix_H) (P : iy_O → ix_H → Prop) : Prop := ∃ (r : iy_O) (h' : ix_H), iy_Ev G m pc lv st h r h' ∧ P r h'
section IZ1
variable {G : ix_G} {m pc : Nat} {lv : List (Nat × Value)} {st : List Value} {h : ix_H} {P : iy_O → ix_H → Prop}
theorem iz_iconst {n : Int} (v : Int32) (hd : decode (ix_by m) pc = .ok (.iconst n, 1)) (hv : Int32.ofInt n = v) (k : iy_E G m (pc + 1) lv (.int v :: st) h P) : iy_E G m pc lv st h P := by
  obtain ⟨r, h', q, hp⟩ := k
  exact ⟨r, h', iy_iconst v hd hv q, hp⟩
theorem iz_bipush {n : Int} (v : Int32) (hd : decode (ix_by m) pc = .ok (.bipush n, 2)) (hv : (Int8.ofInt n).toInt32 = v) (k : iy_E G m (pc + 2) lv (.int v :: st) h P) : iy_E G m pc lv st h P := by
  obtain ⟨r, h', q, hp⟩ := k
  exact ⟨r, h', iy_bipush v hd hv q, hp⟩
theorem iz_sipush {n : Int} (v : Int32) (hd : decode (ix_by m) pc = .ok (.sipush n, 3)) (hv : (Int16.ofInt n).toInt32 = v) (k : iy_E G m (pc + 3) lv (.int v :: st) h P) : iy_E G m pc lv st h P := by
  obtain ⟨r, h', q, hp⟩ := k
  exact ⟨r, h', iy_sipush v hd hv q, hp⟩
theorem iz_lconst {n : Fin 2} (v : Int64) (hd : decode (ix_by m) pc = .ok (.lconst n, 1)) (hv : Int64.ofNat (n : Nat) = v) (k : iy_E G m (pc + 1) lv (.long v :: st) h P) : iy_E G m pc lv st h P := by
  obtain ⟨r, h', q, hp⟩ := k
  exact ⟨r, h', iy_lconst v hd hv q, hp⟩
theorem iz_null (hd : decode (ix_by m) pc = .ok (.aconst_null, 1)) (k : iy_E G m (pc + 1) lv (.null :: st) h P) : iy_E G m pc lv st h P := by
  obtain ⟨r, h', q, hp⟩ := k
  exact ⟨r, h', iy_null hd q, hp⟩
theorem iz_iload_n {i : Fin 4} {x : Int32} (hd : decode (ix_by m) pc = .ok (.iload_n i, 1)) (hl : lv.lookup (i : Nat) = some (.int x)) (k : iy_E G m (pc + 1) lv (.int x :: st) h P) : iy_E G m pc lv st h P := by
  obtain ⟨r, h', q, hp⟩ := k
  exact ⟨r, h', iy_iload_n hd hl q, hp⟩
theorem iz_iload {i : Nat} {x : Int32} (hd : decode (ix_by m) pc = .ok (.iload i, 2)) (hl : lv.lookup i = some (.int x)) (k : iy_E G m (pc + 2) lv (.int x :: st) h P) : iy_E G m pc lv st h P := by
  obtain ⟨r, h', q, hp⟩ := k
  exact ⟨r, h', iy_iload hd hl q, hp⟩
theorem iz_lload_n {i : Fin 4} {x : Int64} (hd : decode (ix_by m) pc = .ok (.lload_n i, 1)) (hl : lv.lookup (i : Nat) = some (.long x)) (k : iy_E G m (pc + 1) lv (.long x :: st) h P) : iy_E G m pc lv st h P := by
  obtain ⟨r, h', q, hp⟩ := k
  exact ⟨r, h', iy_lload_n hd hl q, hp⟩
theorem iz_lload {i : Nat} {x : Int64} (hd : decode (ix_by m) pc = .ok (.lload i, 2)) (hl : lv.lookup i = some (.long x)) (k : iy_E G m (pc + 2) lv (.long x :: st) h P) : iy_E G m pc lv st h P := by
  obtain ⟨r, h', q, hp⟩ := k
  exact ⟨r, h', iy_lload hd hl q, hp⟩
theorem iz_aload_n {i : Fin 4} {x : Nat} (hd : decode (ix_by m) pc = .ok (.aload_n i, 1)) (hl : lv.lookup (i : Nat) = some (.ref x)) (k : iy_E G m (pc + 1) lv (.ref x :: st) h P) : iy_E G m pc lv st h P := by
  obtain ⟨r, h', q, hp⟩ := k
  exact ⟨r, h', iy_aload_n hd hl q, hp⟩
theorem iz_aload {i : Nat} {x : Nat} (hd : decode (ix_by m) pc = .ok (.aload i, 2)) (hl : lv.lookup i = some (.ref x)) (k : iy_E G m (pc + 2) lv (.ref x :: st) h P) : iy_E G m pc lv st h P := by
  obtain ⟨r, h', q, hp⟩ := k
  exact ⟨r, h', iy_aload hd hl q, hp⟩
theorem iz_aload_nN {i : Fin 4} (hd : decode (ix_by m) pc = .ok (.aload_n i, 1)) (hl : lv.lookup (i : Nat) = some .null) (k : iy_E G m (pc + 1) lv (.null :: st) h P) : iy_E G m pc lv st h P := by
  obtain ⟨r, h', q, hp⟩ := k
  exact ⟨r, h', iy_aload_nN hd hl q, hp⟩
theorem iz_aloadN {i : Nat} (hd : decode (ix_by m) pc = .ok (.aload i, 2)) (hl : lv.lookup i = some .null) (k : iy_E G m (pc + 2) lv (.null :: st) h P) : iy_E G m pc lv st h P := by
  obtain ⟨r, h', q, hp⟩ := k
  exact ⟨r, h', iy_aloadN hd hl q, hp⟩
theorem iz_iadd {x y : Int32} (hd : decode (ix_by m) pc = .ok (.iadd, 1)) (k : iy_E G m (pc + 1) lv (.int (x + y) :: st) h P) : iy_E G m pc lv (.int y :: .int x :: st) h P := by
  obtain ⟨r, h', q, hp⟩ := k
  exact ⟨r, h', iy_iadd hd q, hp⟩
theorem iz_isub {x y : Int32} (hd : decode (ix_by m) pc = .ok (.isub, 1)) (k : iy_E G m (pc + 1) lv (.int (x - y) :: st) h P) : iy_E G m pc lv (.int y :: .int x :: st) h P := by
  obtain ⟨r, h', q, hp⟩ := k
  exact ⟨r, h', iy_isub hd q, hp⟩
theorem iz_imul {x y : Int32} (hd : decode (ix_by m) pc = .ok (.imul, 1)) (k : iy_E G m (pc + 1) lv (.int (x * y) :: st) h P) : iy_E G m pc lv (.int y :: .int x :: st) h P := by
  obtain ⟨r, h', q, hp⟩ := k
  exact ⟨r, h', iy_imul hd q, hp⟩
theorem iz_iand {x y : Int32} (hd : decode (ix_by m) pc = .ok (.iand, 1)) (k : iy_E G m (pc + 1) lv (.int (x &&& y) :: st) h P) : iy_E G m pc lv (.int y :: .int x :: st) h P := by
  obtain ⟨r, h', q, hp⟩ := k
  exact ⟨r, h', iy_iand hd q, hp⟩
theorem iz_ior {x y : Int32} (hd : decode (ix_by m) pc = .ok (.ior, 1)) (k : iy_E G m (pc + 1) lv (.int (x ||| y) :: st) h P) : iy_E G m pc lv (.int y :: .int x :: st) h P := by
  obtain ⟨r, h', q, hp⟩ := k
  exact ⟨r, h', iy_ior hd q, hp⟩
theorem iz_ixor {x y : Int32} (hd : decode (ix_by m) pc = .ok (.ixor, 1)) (k : iy_E G m (pc + 1) lv (.int (x ^^^ y) :: st) h P) : iy_E G m pc lv (.int y :: .int x :: st) h P := by
  obtain ⟨r, h', q, hp⟩ := k
  exact ⟨r, h', iy_ixor hd q, hp⟩
theorem iz_idiv {x y : Int32} (hd : decode (ix_by m) pc = .ok (.idiv, 1)) (hne : ¬ y = 0) (k : iy_E G m (pc + 1) lv (.int (x / y) :: st) h P) : iy_E G m pc lv (.int y :: .int x :: st) h P := by
  obtain ⟨r, h', q, hp⟩ := k
  exact ⟨r, h', iy_idiv hd hne q, hp⟩
theorem iz_irem {x y : Int32} (hd : decode (ix_by m) pc = .ok (.irem, 1)) (hne : ¬ y = 0) (k : iy_E G m (pc + 1) lv (.int (x - x / y * y) :: st) h P) : iy_E G m pc lv (.int y :: .int x :: st) h P := by
  obtain ⟨r, h', q, hp⟩ := k
  exact ⟨r, h', iy_irem hd hne q, hp⟩
theorem iz_ineg {x : Int32} (hd : decode (ix_by m) pc = .ok (.ineg, 1)) (k : iy_E G m (pc + 1) lv (.int (-x) :: st) h P) : iy_E G m pc lv (.int x :: st) h P := by
  obtain ⟨r, h', q, hp⟩ := k
  exact ⟨r, h', iy_ineg hd q, hp⟩
theorem iz_ishl {x y : Int32} (hd : decode (ix_by m) pc = .ok (.ishl, 1)) (k : iy_E G m (pc + 1) lv (.int (x <<< (y &&& 31)) :: st) h P) : iy_E G m pc lv (.int y :: .int x :: st) h P := by
  obtain ⟨r, h', q, hp⟩ := k
  exact ⟨r, h', iy_ishl hd q, hp⟩
theorem iz_ishr {x y : Int32} (hd : decode (ix_by m) pc = .ok (.ishr, 1)) (k : iy_E G m (pc + 1) lv (.int (x >>> (y &&& 31)) :: st) h P) : iy_E G m pc lv (.int y :: .int x :: st) h P := by
  obtain ⟨r, h', q, hp⟩ := k
  exact ⟨r, h', iy_ishr hd q, hp⟩
theorem iz_land {x y : Int64} (hd : decode (ix_by m) pc = .ok (.land, 1)) (k : iy_E G m (pc + 1) lv (.long (x &&& y) :: st) h P) : iy_E G m pc lv (.long y :: .long x :: st) h P := by
  obtain ⟨r, h', q, hp⟩ := k
  exact ⟨r, h', iy_land hd q, hp⟩
theorem iz_lor {x y : Int64} (hd : decode (ix_by m) pc = .ok (.lor, 1)) (k : iy_E G m (pc + 1) lv (.long (x ||| y) :: st) h P) : iy_E G m pc lv (.long y :: .long x :: st) h P := by
  obtain ⟨r, h', q, hp⟩ := k
  exact ⟨r, h', iy_lor hd q, hp⟩
theorem iz_lshl {x : Int64} {y : Int32} (hd : decode (ix_by m) pc = .ok (.lshl, 1)) (k : iy_E G m (pc + 1) lv (.long (x <<< (y.toInt64 &&& 63)) :: st) h P) : iy_E G m pc lv (.int y :: .long x :: st) h P := by
  obtain ⟨r, h', q, hp⟩ := k
  exact ⟨r, h', iy_lshl hd q, hp⟩
theorem iz_lshr {x : Int64} {y : Int32} (hd : decode (ix_by m) pc = .ok (.lshr, 1)) (k : iy_E G m (pc + 1) lv (.long (x >>> (y.toInt64 &&& 63)) :: st) h P) : iy_E G m pc lv (.int y :: .long x :: st) h P := by
  obtain ⟨r, h', q, hp⟩ := k
  exact ⟨r, h', iy_lshr hd q, hp⟩
theorem iz_i2l {x : Int32} (hd : decode (ix_by m) pc = .ok (.i2l, 1)) (k : iy_E G m (pc + 1) lv (.long x.toInt64 :: st) h P) : iy_E G m pc lv (.int x :: st) h P := by
  obtain ⟨r, h', q, hp⟩ := k
  exact ⟨r, h', iy_i2l hd q, hp⟩
theorem iz_l2i {x : Int64} (hd : decode (ix_by m) pc = .ok (.l2i, 1)) (k : iy_E G m (pc + 1) lv (.int x.toInt32 :: st) h P) : iy_E G m pc lv (.long x :: st) h P := by
  obtain ⟨r, h', q, hp⟩ := k
  exact ⟨r, h', iy_l2i hd q, hp⟩
theorem iz_i2b {x : Int32} (hd : decode (ix_by m) pc = .ok (.i2b, 1)) (k : iy_E G m (pc + 1) lv (.int x.toInt8.toInt32 :: st) h P) : iy_E G m pc lv (.int x :: st) h P := by
  obtain ⟨r, h', q, hp⟩ := k
  exact ⟨r, h', iy_i2b hd q, hp⟩
theorem iz_dup {v : Value} (hd : decode (ix_by m) pc = .ok (.dup, 1)) (hv : v.category = 1) (k : iy_E G m (pc + 1) lv (v :: v :: st) h P) : iy_E G m pc lv (v :: st) h P := by
  obtain ⟨r, h', q, hp⟩ := k
  exact ⟨r, h', iy_dup hd hv q, hp⟩
theorem iz_pop {v : Value} (hd : decode (ix_by m) pc = .ok (.pop, 1)) (hv : v.category = 1) (k : iy_E G m (pc + 1) lv st h P) : iy_E G m pc lv (v :: st) h P := by
  obtain ⟨r, h', q, hp⟩ := k
  exact ⟨r, h', iy_pop hd hv q, hp⟩
theorem iz_dup_x1 {v w : Value} (hd : decode (ix_by m) pc = .ok (.dup_x1, 1)) (hv : v.category = 1) (hw : w.category = 1) (k : iy_E G m (pc + 1) lv (v :: w :: v :: st) h P) : iy_E G m pc lv (v :: w :: st) h P := by
  obtain ⟨r, h', q, hp⟩ := k
  exact ⟨r, h', iy_dup_x1 hd hv hw q, hp⟩
theorem iz_dup2 {v w : Value} (hd : decode (ix_by m) pc = .ok (.dup2, 1)) (hv : v.category = 1) (hw : w.category = 1) (k : iy_E G m (pc + 1) lv (v :: w :: v :: w :: st) h P) : iy_E G m pc lv (v :: w :: st) h P := by
  obtain ⟨r, h', q, hp⟩ := k
  exact ⟨r, h', iy_dup2 hd hv hw q, hp⟩
theorem iz_goto {off : Int} (tgt : Nat) (hd : decode (ix_by m) pc = .ok (.goto off, 3)) (ht : (pc : Int) + off = (tgt : Int)) (k : iy_E G m tgt lv st h P) : iy_E G m pc lv st h P := by
  obtain ⟨r, h', q, hp⟩ := k
  exact ⟨r, h', iy_goto tgt hd ht q, hp⟩
theorem iz_ldc {i : Nat} {v : Int32} (hd : decode (ix_by m) pc = .ok (.ldc i, 2)) (hw : Cond.constant (ix_own m) i v ∈ ix_words) (k : iy_E G m (pc + 2) lv (.int v :: st) h P) : iy_E G m pc lv st h P := by
  obtain ⟨r, h', q, hp⟩ := k
  exact ⟨r, h', iy_ldc hd hw q, hp⟩
theorem iz_ldc2 {i : Nat} {v : Int64} (hd : decode (ix_by m) pc = .ok (.ldc2_w i, 3)) (hw : Cond.constantLong (ix_own m) i v ∈ ix_words) (k : iy_E G m (pc + 3) lv (.long v :: st) h P) : iy_E G m pc lv st h P := by
  obtain ⟨r, h', q, hp⟩ := k
  exact ⟨r, h', iy_ldc2 hd hw q, hp⟩
theorem iz_istore_n {i : Fin 4} {x : Int32} (hd : decode (ix_by m) pc = .ok (.istore_n i, 1)) (hn : (i : Nat) < ix_mL m) (k : iy_E G m (pc + 1) (ix_set lv (i : Nat) (.int x)) st h P) : iy_E G m pc lv (.int x :: st) h P := by
  obtain ⟨r, h', q, hp⟩ := k
  exact ⟨r, h', iy_istore_n hd hn q, hp⟩
theorem iz_istore {i : Nat} {x : Int32} (hd : decode (ix_by m) pc = .ok (.istore i, 2)) (hn : i < ix_mL m) (k : iy_E G m (pc + 2) (ix_set lv i (.int x)) st h P) : iy_E G m pc lv (.int x :: st) h P := by
  obtain ⟨r, h', q, hp⟩ := k
  exact ⟨r, h', iy_istore hd hn q, hp⟩
theorem iz_astore_n {i : Fin 4} {x : Nat} (hd : decode (ix_by m) pc = .ok (.astore_n i, 1)) (hn : (i : Nat) < ix_mL m) (k : iy_E G m (pc + 1) (ix_set lv (i : Nat) (.ref x)) st h P) : iy_E G m pc lv (.ref x :: st) h P := by
  obtain ⟨r, h', q, hp⟩ := k
  exact ⟨r, h', iy_astore_n hd hn q, hp⟩
theorem iz_astore {i : Nat} {x : Nat} (hd : decode (ix_by m) pc = .ok (.astore i, 2)) (hn : i < ix_mL m) (k : iy_E G m (pc + 2) (ix_set lv i (.ref x)) st h P) : iy_E G m pc lv (.ref x :: st) h P := by
  obtain ⟨r, h', q, hp⟩ := k
  exact ⟨r, h', iy_astore hd hn q, hp⟩
theorem iz_astore_nN {i : Fin 4} (hd : decode (ix_by m) pc = .ok (.astore_n i, 1)) (hn : (i : Nat) < ix_mL m) (k : iy_E G m (pc + 1) (ix_set lv (i : Nat) .null) st h P) : iy_E G m pc lv (.null :: st) h P := by
  obtain ⟨r, h', q, hp⟩ := k
  exact ⟨r, h', iy_astore_nN hd hn q, hp⟩
theorem iz_astoreN {i : Nat} (hd : decode (ix_by m) pc = .ok (.astore i, 2)) (hn : i < ix_mL m) (k : iy_E G m (pc + 2) (ix_set lv i .null) st h P) : iy_E G m pc lv (.null :: st) h P := by
  obtain ⟨r, h', q, hp⟩ := k
  exact ⟨r, h', iy_astoreN hd hn q, hp⟩
theorem iz_iinc {i : Nat} {n : Int} {x : Int32} (v : Int32) (hd : decode (ix_by m) pc = .ok (.iinc i n, 3)) (hl : lv.lookup i = some (.int x)) (hv : x + Int32.ofInt n = v) (hn : i < ix_mL m) (k : iy_E G m (pc + 3) (ix_set lv i (.int v)) st h P) : iy_E G m pc lv st h P := by
  obtain ⟨r, h', q, hp⟩ := k
  exact ⟨r, h', iy_iinc v hd hl hv hn q, hp⟩
theorem iz_if_eq {x : Int32} {off : Int} (tgt : Nat) (hd : decode (ix_by m) pc = .ok (.ifCond .eq off, 3)) (ht : (pc : Int) + off = (tgt : Int)) (kt : x = 0 → iy_E G m tgt lv st h P) (kf : ¬ (x = 0) → iy_E G m (pc + 3) lv st h P) : iy_E G m pc lv (.int x :: st) h P := by
  by_cases hc : x = 0
  · obtain ⟨r, h', q, hp⟩ := kt hc
    exact ⟨r, h', iy_if_eq tgt hd ht (fun _ => q) (fun e => absurd hc e), hp⟩
  · obtain ⟨r, h', q, hp⟩ := kf hc
    exact ⟨r, h', iy_if_eq tgt hd ht (fun e => absurd e hc) (fun _ => q), hp⟩
theorem iz_icmp_eq {x y : Int32} {off : Int} (tgt : Nat) (hd : decode (ix_by m) pc = .ok (.if_icmp .eq off, 3)) (ht : (pc : Int) + off = (tgt : Int)) (kt : x = y → iy_E G m tgt lv st h P) (kf : ¬ (x = y) → iy_E G m (pc + 3) lv st h P) : iy_E G m pc lv (.int y :: .int x :: st) h P := by
  by_cases hc : x = y
  · obtain ⟨r, h', q, hp⟩ := kt hc
    exact ⟨r, h', iy_icmp_eq tgt hd ht (fun _ => q) (fun e => absurd hc e), hp⟩
  · obtain ⟨r, h', q, hp⟩ := kf hc
    exact ⟨r, h', iy_icmp_eq tgt hd ht (fun e => absurd e hc) (fun _ => q), hp⟩
theorem iz_if_ne {x : Int32} {off : Int} (tgt : Nat) (hd : decode (ix_by m) pc = .ok (.ifCond .ne off, 3)) (ht : (pc : Int) + off = (tgt : Int)) (kt : ¬ x = 0 → iy_E G m tgt lv st h P) (kf : x = 0 → iy_E G m (pc + 3) lv st h P) : iy_E G m pc lv (.int x :: st) h P := by
  by_cases hc : x = 0
  · obtain ⟨r, h', q, hp⟩ := kf hc
    exact ⟨r, h', iy_if_ne tgt hd ht (fun e => absurd hc e) (fun _ => q), hp⟩
  · obtain ⟨r, h', q, hp⟩ := kt hc
    exact ⟨r, h', iy_if_ne tgt hd ht (fun _ => q) (fun e => absurd e hc), hp⟩
theorem iz_icmp_ne {x y : Int32} {off : Int} (tgt : Nat) (hd : decode (ix_by m) pc = .ok (.if_icmp .ne off, 3)) (ht : (pc : Int) + off = (tgt : Int)) (kt : ¬ x = y → iy_E G m tgt lv st h P) (kf : x = y → iy_E G m (pc + 3) lv st h P) : iy_E G m pc lv (.int y :: .int x :: st) h P := by
  by_cases hc : x = y
  · obtain ⟨r, h', q, hp⟩ := kf hc
    exact ⟨r, h', iy_icmp_ne tgt hd ht (fun e => absurd hc e) (fun _ => q), hp⟩
  · obtain ⟨r, h', q, hp⟩ := kt hc
    exact ⟨r, h', iy_icmp_ne tgt hd ht (fun _ => q) (fun e => absurd e hc), hp⟩
theorem iz_if_lt {x : Int32} {off : Int} (tgt : Nat) (hd : decode (ix_by m) pc = .ok (.ifCond .lt off, 3)) (ht : (pc : Int) + off = (tgt : Int)) (kt : x < 0 → iy_E G m tgt lv st h P) (kf : ¬ (x < 0) → iy_E G m (pc + 3) lv st h P) : iy_E G m pc lv (.int x :: st) h P := by
  by_cases hc : x < 0
  · obtain ⟨r, h', q, hp⟩ := kt hc
    exact ⟨r, h', iy_if_lt tgt hd ht (fun _ => q) (fun e => absurd hc e), hp⟩
  · obtain ⟨r, h', q, hp⟩ := kf hc
    exact ⟨r, h', iy_if_lt tgt hd ht (fun e => absurd e hc) (fun _ => q), hp⟩
theorem iz_icmp_lt {x y : Int32} {off : Int} (tgt : Nat) (hd : decode (ix_by m) pc = .ok (.if_icmp .lt off, 3)) (ht : (pc : Int) + off = (tgt : Int)) (kt : x < y → iy_E G m tgt lv st h P) (kf : ¬ (x < y) → iy_E G m (pc + 3) lv st h P) : iy_E G m pc lv (.int y :: .int x :: st) h P := by
  by_cases hc : x < y
  · obtain ⟨r, h', q, hp⟩ := kt hc
    exact ⟨r, h', iy_icmp_lt tgt hd ht (fun _ => q) (fun e => absurd hc e), hp⟩
  · obtain ⟨r, h', q, hp⟩ := kf hc
    exact ⟨r, h', iy_icmp_lt tgt hd ht (fun e => absurd e hc) (fun _ => q), hp⟩
theorem iz_if_ge {x : Int32} {off : Int} (tgt : Nat) (hd : decode (ix_by m) pc = .ok (.ifCond .ge off, 3)) (ht : (pc : Int) + off = (tgt : Int)) (kt : 0 ≤ x → iy_E G m tgt lv st h P) (kf : ¬ (0 ≤ x) → iy_E G m (pc + 3) lv st h P) : iy_E G m pc lv (.int x :: st) h P := by
  by_cases hc : 0 ≤ x
  · obtain ⟨r, h', q, hp⟩ := kt hc
    exact ⟨r, h', iy_if_ge tgt hd ht (fun _ => q) (fun e => absurd hc e), hp⟩
  · obtain ⟨r, h', q, hp⟩ := kf hc
    exact ⟨r, h', iy_if_ge tgt hd ht (fun e => absurd e hc) (fun _ => q), hp⟩
theorem iz_icmp_ge {x y : Int32} {off : Int} (tgt : Nat) (hd : decode (ix_by m) pc = .ok (.if_icmp .ge off, 3)) (ht : (pc : Int) + off = (tgt : Int)) (kt : y ≤ x → iy_E G m tgt lv st h P) (kf : ¬ (y ≤ x) → iy_E G m (pc + 3) lv st h P) : iy_E G m pc lv (.int y :: .int x :: st) h P := by
  by_cases hc : y ≤ x
  · obtain ⟨r, h', q, hp⟩ := kt hc
    exact ⟨r, h', iy_icmp_ge tgt hd ht (fun _ => q) (fun e => absurd hc e), hp⟩
  · obtain ⟨r, h', q, hp⟩ := kf hc
    exact ⟨r, h', iy_icmp_ge tgt hd ht (fun e => absurd e hc) (fun _ => q), hp⟩
theorem iz_if_gt {x : Int32} {off : Int} (tgt : Nat) (hd : decode (ix_by m) pc = .ok (.ifCond .gt off, 3)) (ht : (pc : Int) + off = (tgt : Int)) (kt : 0 < x → iy_E G m tgt lv st h P) (kf : ¬ (0 < x) → iy_E G m (pc + 3) lv st h P) : iy_E G m pc lv (.int x :: st) h P := by
  by_cases hc : 0 < x
  · obtain ⟨r, h', q, hp⟩ := kt hc
    exact ⟨r, h', iy_if_gt tgt hd ht (fun _ => q) (fun e => absurd hc e), hp⟩
  · obtain ⟨r, h', q, hp⟩ := kf hc
    exact ⟨r, h', iy_if_gt tgt hd ht (fun e => absurd e hc) (fun _ => q), hp⟩
theorem iz_icmp_gt {x y : Int32} {off : Int} (tgt : Nat) (hd : decode (ix_by m) pc = .ok (.if_icmp .gt off, 3)) (ht : (pc : Int) + off = (tgt : Int)) (kt : y < x → iy_E G m tgt lv st h P) (kf : ¬ (y < x) → iy_E G m (pc + 3) lv st h P) : iy_E G m pc lv (.int y :: .int x :: st) h P := by
  by_cases hc : y < x
  · obtain ⟨r, h', q, hp⟩ := kt hc
    exact ⟨r, h', iy_icmp_gt tgt hd ht (fun _ => q) (fun e => absurd hc e), hp⟩
  · obtain ⟨r, h', q, hp⟩ := kf hc
    exact ⟨r, h', iy_icmp_gt tgt hd ht (fun e => absurd e hc) (fun _ => q), hp⟩
theorem iz_if_le {x : Int32} {off : Int} (tgt : Nat) (hd : decode (ix_by m) pc = .ok (.ifCond .le off, 3)) (ht : (pc : Int) + off = (tgt : Int)) (kt : x ≤ 0 → iy_E G m tgt lv st h P) (kf : ¬ (x ≤ 0) → iy_E G m (pc + 3) lv st h P) : iy_E G m pc lv (.int x :: st) h P := by
  by_cases hc : x ≤ 0
  · obtain ⟨r, h', q, hp⟩ := kt hc
    exact ⟨r, h', iy_if_le tgt hd ht (fun _ => q) (fun e => absurd hc e), hp⟩
  · obtain ⟨r, h', q, hp⟩ := kf hc
    exact ⟨r, h', iy_if_le tgt hd ht (fun e => absurd e hc) (fun _ => q), hp⟩
theorem iz_icmp_le {x y : Int32} {off : Int} (tgt : Nat) (hd : decode (ix_by m) pc = .ok (.if_icmp .le off, 3)) (ht : (pc : Int) + off = (tgt : Int)) (kt : x ≤ y → iy_E G m tgt lv st h P) (kf : ¬ (x ≤ y) → iy_E G m (pc + 3) lv st h P) : iy_E G m pc lv (.int y :: .int x :: st) h P := by
  by_cases hc : x ≤ y
  · obtain ⟨r, h', q, hp⟩ := kt hc
    exact ⟨r, h', iy_icmp_le tgt hd ht (fun _ => q) (fun e => absurd hc e), hp⟩
  · obtain ⟨r, h', q, hp⟩ := kf hc
    exact ⟨r, h', iy_icmp_le tgt hd ht (fun e => absurd e hc) (fun _ => q), hp⟩
theorem iz_ifnull {x : Nat} {off : Int} (tgt : Nat) (hd : decode (ix_by m) pc = .ok (.ifnull off, 3)) (ht : (pc : Int) + off = (tgt : Int)) (k : iy_E G m (pc + 3) lv st h P) : iy_E G m pc lv (.ref x :: st) h P := by
  obtain ⟨r, h', q, hp⟩ := k
  exact ⟨r, h', iy_ifnull tgt hd ht q, hp⟩
theorem iz_ifnonnull {x : Nat} {off : Int} (tgt : Nat) (hd : decode (ix_by m) pc = .ok (.ifnonnull off, 3)) (ht : (pc : Int) + off = (tgt : Int)) (k : iy_E G m tgt lv st h P) : iy_E G m pc lv (.ref x :: st) h P := by
  obtain ⟨r, h', q, hp⟩ := k
  exact ⟨r, h', iy_ifnonnull tgt hd ht q, hp⟩
theorem iz_ifnullN {off : Int} (tgt : Nat) (hd : decode (ix_by m) pc = .ok (.ifnull off, 3)) (ht : (pc : Int) + off = (tgt : Int)) (k : iy_E G m tgt lv st h P) : iy_E G m pc lv (.null :: st) h P := by
  obtain ⟨r, h', q, hp⟩ := k
  exact ⟨r, h', iy_ifnullN tgt hd ht q, hp⟩
theorem iz_ifnonnullN {off : Int} (tgt : Nat) (hd : decode (ix_by m) pc = .ok (.ifnonnull off, 3)) (ht : (pc : Int) + off = (tgt : Int)) (k : iy_E G m (pc + 3) lv st h P) : iy_E G m pc lv (.null :: st) h P := by
  obtain ⟨r, h', q, hp⟩ := k
  exact ⟨r, h', iy_ifnonnullN tgt hd ht q, hp⟩
theorem iz_acmp_eq {a b : Nat} {off : Int} (tgt : Nat) (hd : decode (ix_by m) pc = .ok (.if_acmp .eq off, 3)) (ht : (pc : Int) + off = (tgt : Int)) (kt : a = b → iy_E G m tgt lv st h P) (kf : ¬ a = b → iy_E G m (pc + 3) lv st h P) : iy_E G m pc lv (.ref b :: .ref a :: st) h P := by
  by_cases hc : a = b
  · obtain ⟨r, h', q, hp⟩ := kt hc
    exact ⟨r, h', iy_acmp_eq tgt hd ht (fun _ => q) (fun e => absurd hc e), hp⟩
  · obtain ⟨r, h', q, hp⟩ := kf hc
    exact ⟨r, h', iy_acmp_eq tgt hd ht (fun e => absurd e hc) (fun _ => q), hp⟩
theorem iz_acmp_ne {a b : Nat} {off : Int} (tgt : Nat) (hd : decode (ix_by m) pc = .ok (.if_acmp .ne off, 3)) (ht : (pc : Int) + off = (tgt : Int)) (kt : ¬ a = b → iy_E G m tgt lv st h P) (kf : a = b → iy_E G m (pc + 3) lv st h P) : iy_E G m pc lv (.ref b :: .ref a :: st) h P := by
  by_cases hc : a = b
  · obtain ⟨r, h', q, hp⟩ := kf hc
    exact ⟨r, h', iy_acmp_ne tgt hd ht (fun e => absurd hc e) (fun _ => q), hp⟩
  · obtain ⟨r, h', q, hp⟩ := kt hc
    exact ⟨r, h', iy_acmp_ne tgt hd ht (fun _ => q) (fun e => absurd e hc), hp⟩
theorem iz_tabIn {dflt lo hi off : Int} {offs : Array Int} {len : Nat} {x : Int32} (tgt : Nat) (hd : decode (ix_by m) pc = .ok (.tableswitch dflt lo hi offs, len)) (h1 : ¬ x.toInt < lo) (h2 : ¬ hi < x.toInt) (ho : offs[(x.toInt - lo).toNat]? = some off) (ht : (pc : Int) + off = (tgt : Int)) (k : iy_E G m tgt lv st h P) : iy_E G m pc lv (.int x :: st) h P := by
  obtain ⟨r, h', q, hp⟩ := k
  exact ⟨r, h', iy_tabIn tgt hd h1 h2 ho ht q, hp⟩
theorem iz_tabOut {dflt lo hi : Int} {offs : Array Int} {len : Nat} {x : Int32} (tgt : Nat) (hd : decode (ix_by m) pc = .ok (.tableswitch dflt lo hi offs, len)) (h1 : x.toInt < lo ∨ hi < x.toInt) (ht : (pc : Int) + dflt = (tgt : Int)) (k : iy_E G m tgt lv st h P) : iy_E G m pc lv (.int x :: st) h P := by
  obtain ⟨r, h', q, hp⟩ := k
  exact ⟨r, h', iy_tabOut tgt hd h1 ht q, hp⟩
theorem iz_geti {i k j a : Nat} (hd : decode (ix_by m) pc = .ok (.getfield i, 3)) (hF : ix_FL (ix_own m) i k j 0) (ht : ix_tg h a = k + 1) (kk : iy_E G m (pc + 3) lv (.int (ix_i h a j) :: st) h P) : iy_E G m pc lv (.ref a :: st) h P := by
  obtain ⟨r, h', q, hp⟩ := kk
  exact ⟨r, h', iy_geti hd hF ht q, hp⟩
theorem iz_getq {i k j a : Nat} (hd : decode (ix_by m) pc = .ok (.getfield i, 3)) (hF : ix_FL (ix_own m) i k j 2) (ht : ix_tg h a = k + 1) (kk : iy_E G m (pc + 3) lv (va_rf (ix_r h a j) :: st) h P) : iy_E G m pc lv (.ref a :: st) h P := by
  obtain ⟨r, h', q, hp⟩ := kk
  exact ⟨r, h', iy_getq hd hF ht q, hp⟩
theorem iz_getr {i k j a : Nat} (b : Nat) (hd : decode (ix_by m) pc = .ok (.getfield i, 3)) (hF : ix_FL (ix_own m) i k j 2) (ht : ix_tg h a = k + 1) (hb : ix_r h a j = some b) (kk : iy_E G m (pc + 3) lv (.ref b :: st) h P) : iy_E G m pc lv (.ref a :: st) h P := by
  obtain ⟨r, h', q, hp⟩ := kk
  exact ⟨r, h', iy_getr b hd hF ht hb q, hp⟩
theorem iz_getn {i k j a : Nat} (hd : decode (ix_by m) pc = .ok (.getfield i, 3)) (hF : ix_FL (ix_own m) i k j 2) (ht : ix_tg h a = k + 1) (hb : ix_r h a j = none) (kk : iy_E G m (pc + 3) lv (.null :: st) h P) : iy_E G m pc lv (.ref a :: st) h P := by
  obtain ⟨r, h', q, hp⟩ := kk
  exact ⟨r, h', iy_getn hd hF ht hb q, hp⟩
theorem iz_puti {i k j a : Nat} {x : Int32} (hd : decode (ix_by m) pc = .ok (.putfield i, 3)) (hF : ix_FL (ix_own m) i k j 0) (hfin : (ix_cT k j).2.2.2 = false ∨ ((ix_y m).name = "<init>" ∧ (ix_cT k j).1 = ix_own m ∧ (ix_cT k j).2.2.2 = true)) (ht : ix_tg h a = k + 1) (hn : narrow (ix_ty k j) (.int x) = .int x) (hfit : fits (ix_ty k j) (.int x) = true) (kk : iy_E G m (pc + 3) lv st (ix_si h a j x) P) : iy_E G m pc lv (.int x :: .ref a :: st) h P := by
  obtain ⟨r, h', q, hp⟩ := kk
  exact ⟨r, h', iy_puti hd hF hfin ht hn hfit q, hp⟩
theorem iz_putr {i k j a b : Nat} (hd : decode (ix_by m) pc = .ok (.putfield i, 3)) (hF : ix_FL (ix_own m) i k j 2) (hfin : (ix_cT k j).2.2.2 = false ∨ ((ix_y m).name = "<init>" ∧ (ix_cT k j).1 = ix_own m ∧ (ix_cT k j).2.2.2 = true)) (ht : ix_tg h a = k + 1) (hn : narrow (ix_ty k j) (.ref b) = .ref b) (hfit : fits (ix_ty k j) (.ref b) = true) (kk : iy_E G m (pc + 3) lv st (ix_sr h a j (some b)) P) : iy_E G m pc lv (.ref b :: .ref a :: st) h P := by
  obtain ⟨r, h', q, hp⟩ := kk
  exact ⟨r, h', iy_putr hd hF hfin ht hn hfit q, hp⟩
theorem iz_putN {i k j a : Nat} (hd : decode (ix_by m) pc = .ok (.putfield i, 3)) (hF : ix_FL (ix_own m) i k j 2) (hfin : (ix_cT k j).2.2.2 = false ∨ ((ix_y m).name = "<init>" ∧ (ix_cT k j).1 = ix_own m ∧ (ix_cT k j).2.2.2 = true)) (ht : ix_tg h a = k + 1) (hn : narrow (ix_ty k j) .null = .null) (hfit : fits (ix_ty k j) .null = true) (kk : iy_E G m (pc + 3) lv st (ix_sr h a j none) P) : iy_E G m pc lv (.null :: .ref a :: st) h P := by
  obtain ⟨r, h', q, hp⟩ := kk
  exact ⟨r, h', iy_putN hd hF hfin ht hn hfit q, hp⟩
theorem iz_alen {a t : Nat} (hd : decode (ix_by m) pc = .ok (.arraylength, 1)) (t8 : t < 8) (ht : ix_tg h a = 100 + t ∨ ix_tg h a = 200 + t) (kk : iy_E G m (pc + 1) lv (.int (nI (ix_ln h a)) :: st) h P) : iy_E G m pc lv (.ref a :: st) h P := by
  obtain ⟨r, h', q, hp⟩ := kk
  exact ⟨r, h', iy_alen hd t8 ht q, hp⟩
theorem iz_iald {a : Nat} {j : Int32} (hd : decode (ix_by m) pc = .ok (.iaload, 1)) (ht : ix_tg h a = 100 ∨ ix_tg h a = 200) (hin : vp_in j (ix_ln h a)) (kk : iy_E G m (pc + 1) lv (.int (ix_i h a j.toNatClampNeg) :: st) h P) : iy_E G m pc lv (.int j :: .ref a :: st) h P := by
  obtain ⟨r, h', q, hp⟩ := kk
  exact ⟨r, h', iy_iald hd ht hin q, hp⟩
theorem iz_zald {a : Nat} {j : Int32} (hd : decode (ix_by m) pc = .ok (.baload, 1)) (ht : ix_tg h a = 101) (hin : vp_in j (ix_ln h a)) (kk : iy_E G m (pc + 1) lv (.int (ix_i h a j.toNatClampNeg) :: st) h P) : iy_E G m pc lv (.int j :: .ref a :: st) h P := by
  obtain ⟨r, h', q, hp⟩ := kk
  exact ⟨r, h', iy_zald hd ht hin q, hp⟩
theorem iz_bald {a : Nat} {j : Int32} (hd : decode (ix_by m) pc = .ok (.baload, 1)) (ht : ix_tg h a = 102) (hin : vp_in j (ix_ln h a)) (kk : iy_E G m (pc + 1) lv (.int (ix_i h a j.toNatClampNeg) :: st) h P) : iy_E G m pc lv (.int j :: .ref a :: st) h P := by
  obtain ⟨r, h', q, hp⟩ := kk
  exact ⟨r, h', iy_bald hd ht hin q, hp⟩
theorem iz_lald {a : Nat} {j : Int32} (hd : decode (ix_by m) pc = .ok (.laload, 1)) (ht : ix_tg h a = 103) (hin : vp_in j (ix_ln h a)) (kk : iy_E G m (pc + 1) lv (.long (ix_l h a j.toNatClampNeg) :: st) h P) : iy_E G m pc lv (.int j :: .ref a :: st) h P := by
  obtain ⟨r, h', q, hp⟩ := kk
  exact ⟨r, h', iy_lald hd ht hin q, hp⟩
theorem iz_aald {a t : Nat} {j : Int32} (hd : decode (ix_by m) pc = .ok (.aaload, 1)) (t8 : t < 8) (hty : (ix_at t).isReference = true) (hkd : ix_kd (ix_at t) = 2) (ht : ix_tg h a = 100 + t ∨ ix_tg h a = 200 + t) (hin : vp_in j (ix_ln h a)) (kk : iy_E G m (pc + 1) lv (va_rf (ix_r h a j.toNatClampNeg) :: st) h P) : iy_E G m pc lv (.int j :: .ref a :: st) h P := by
  obtain ⟨r, h', q, hp⟩ := kk
  exact ⟨r, h', iy_aald hd t8 hty hkd ht hin q, hp⟩
theorem iz_iast {a : Nat} {j x : Int32} (hd : decode (ix_by m) pc = .ok (.iastore, 1)) (ht : ix_tg h a = 100) (hin : vp_in j (ix_ln h a)) (kk : iy_E G m (pc + 1) lv st (ix_si h a j.toNatClampNeg x) P) : iy_E G m pc lv (.int x :: .int j :: .ref a :: st) h P := by
  obtain ⟨r, h', q, hp⟩ := kk
  exact ⟨r, h', iy_iast hd ht hin q, hp⟩
theorem iz_bast {a : Nat} {j x : Int32} (hd : decode (ix_by m) pc = .ok (.bastore, 1)) (ht : ix_tg h a = 102) (hin : vp_in j (ix_ln h a)) (kk : iy_E G m (pc + 1) lv st (ix_si h a j.toNatClampNeg x.toInt8.toInt32) P) : iy_E G m pc lv (.int x :: .int j :: .ref a :: st) h P := by
  obtain ⟨r, h', q, hp⟩ := kk
  exact ⟨r, h', iy_bast hd ht hin q, hp⟩
theorem iz_zast {a : Nat} {j x : Int32} (hd : decode (ix_by m) pc = .ok (.bastore, 1)) (ht : ix_tg h a = 101) (hx : x = 0 ∨ x = 1) (hin : vp_in j (ix_ln h a)) (kk : iy_E G m (pc + 1) lv st (ix_si h a j.toNatClampNeg x) P) : iy_E G m pc lv (.int x :: .int j :: .ref a :: st) h P := by
  obtain ⟨r, h', q, hp⟩ := kk
  exact ⟨r, h', iy_zast hd ht hx hin q, hp⟩
theorem iz_last {a : Nat} {j : Int32} {x : Int64} (hd : decode (ix_by m) pc = .ok (.lastore, 1)) (ht : ix_tg h a = 103) (hin : vp_in j (ix_ln h a)) (kk : iy_E G m (pc + 1) lv st (ix_sl h a j.toNatClampNeg x) P) : iy_E G m pc lv (.long x :: .int j :: .ref a :: st) h P := by
  obtain ⟨r, h', q, hp⟩ := kk
  exact ⟨r, h', iy_last hd ht hin q, hp⟩
theorem iz_new {i k : Nat} (hd : decode (ix_by m) pc = .ok (.new i, 3)) (hN : ix_NL (ix_own m) i k) (kk : iy_E G m (pc + 3) lv (.ref (ix_nx h) :: st) (ix_nw h (k + 1) 0 (ix_nf k)) P) : iy_E G m pc lv st h P := by
  obtain ⟨r, h', q, hp⟩ := kk
  exact ⟨r, h', iy_new hd hN q, hp⟩
theorem iz_newa {t : Nat} {at_ : ArrayType} {n : Int32} {N : Nat} (hd : decode (ix_by m) pc = .ok (.newarray at_, 2)) (hA : ix_AK t at_) (hn : n = nI N) (hN : N ≤ 100000) (kk : iy_E G m (pc + 2) lv (.ref (ix_nx h) :: st) (ix_nw h (100 + t) N N) P) : iy_E G m pc lv (.int n :: st) h P := by
  obtain ⟨r, h', q, hp⟩ := kk
  exact ⟨r, h', iy_newa hd hA hn hN q, hp⟩
theorem iz_anew {t i : Nat} {Cn : String} {n : Int32} {N : Nat} (hd : decode (ix_by m) pc = .ok (.anewarray i, 3)) (t8 : t < 8) (hat : ix_at t = .object Cn) (hCn : Cn = "FileDelivery$Side" ∨ Cn = "FileDelivery$Unit" ∨ Cn = "java/lang/Object") (hlink : Cond.classLink (ix_own m) i Cn ∈ ix_words) (hn : n = nI N) (hN : N ≤ 100000) (kk : iy_E G m (pc + 3) lv (.ref (ix_nx h) :: st) (ix_nw h (100 + t) N N) P) : iy_E G m pc lv (.int n :: st) h P := by
  obtain ⟨r, h', q, hp⟩ := kk
  exact ⟨r, h', iy_anew hd t8 hat hCn hlink hn hN q, hp⟩
theorem iz_aast {a b t k : Nat} {j : Int32} (hd : decode (ix_by m) pc = .ok (.aastore, 1)) (hAS : ix_AS k t) (ht : ix_tg h a = 100 + t) (hb : ix_tg h b = k + 1) (hin : vp_in j (ix_ln h a)) (kk : iy_E G m (pc + 1) lv st (ix_sr h a j.toNatClampNeg (some b)) P) : iy_E G m pc lv (.ref b :: .int j :: .ref a :: st) h P := by
  obtain ⟨r, h', q, hp⟩ := kk
  exact ⟨r, h', iy_aast hd hAS ht hb hin q, hp⟩
theorem iz_aastN {a t : Nat} {Cn : String} {j : Int32} (hd : decode (ix_by m) pc = .ok (.aastore, 1)) (t8 : t < 8) (hat : ix_at t = .object Cn) (ht : ix_tg h a = 100 + t) (hin : vp_in j (ix_ln h a)) (kk : iy_E G m (pc + 1) lv st (ix_sr h a j.toNatClampNeg none) P) : iy_E G m pc lv (.null :: .int j :: .ref a :: st) h P := by
  obtain ⟨r, h', q, hp⟩ := kk
  exact ⟨r, h', iy_aastN hd t8 hat ht hin q, hp⟩
theorem iz_objI {i b : Nat} (hd : decode (ix_by m) pc = .ok (.invokespecial i, 3)) (hL : Cond.methodLink (ix_own m) i objectInit ∈ ix_words) (hI : Cond.instanceMethod objectInit ∈ ix_words) (hC : Cond.code objectInit ⟨#[0xb1]⟩ 1 none ∈ ix_words) (hf : 1 ≤ ix_fr m) (hlo : (st.map fun v => v.category).sum + 12 ≤ ix_lo m) (kk : iy_E G m (pc + 3) lv st h P) : iy_E G m pc lv (.ref b :: st) h P := by
  obtain ⟨r, h', q, hp⟩ := kk
  exact ⟨r, h', iy_objI hd hL hI hC hf hlo q, hp⟩
theorem iz_cast {i k a : Nat} {nm : String} (hd : decode (ix_by m) pc = .ok (.checkcast i, 3)) (hk : k < 10) (hcl : ix_cl[k]? = some (ix_cn k, ix_cT k, ix_nf k)) (hL : Cond.classLink (ix_own m) i nm ∈ ix_words) (hC : Cond.castable (ix_cn k) nm ∈ ix_words) (ht : ix_tg h a = k + 1) (kk : iy_E G m (pc + 3) lv (.ref a :: st) h P) : iy_E G m pc lv (.ref a :: st) h P := by
  obtain ⟨r, h', q, hp⟩ := kk
  exact ⟨r, h', iy_cast hd hk hcl hL hC ht q, hp⟩
theorem iz_castN {i : Nat} (hd : decode (ix_by m) pc = .ok (.checkcast i, 3)) (kk : iy_E G m (pc + 3) lv (.null :: st) h P) : iy_E G m pc lv (.null :: st) h P := by
  obtain ⟨r, h', q, hp⟩ := kk
  exact ⟨r, h', iy_castN hd q, hp⟩
theorem iz_gets {i : Nat} (hd : decode (ix_by m) pc = .ok (.getstatic i, 3)) (hL : Cond.fieldLink (ix_own m) i "java/util/ArrayList" "DEFAULTCAPACITY_EMPTY_ELEMENTDATA" "[Ljava/lang/Object;" ∈ ix_words) (kk : iy_E G m (pc + 3) lv (.ref G.2.2.2.1 :: st) h P) : iy_E G m pc lv st h P := by
  obtain ⟨r, h', q, hp⟩ := kk
  exact ⟨r, h', iy_gets hd hL q, hp⟩
theorem iz_ldcM {i : Nat} (hd : decode (ix_by m) pc = .ok (.ldc i, 2)) (hL : Cond.classLink (ix_own m) i "[Ljava/lang/Object;" ∈ ix_words) (kk : iy_E G m (pc + 2) lv (.ref G.2.2.2.2 :: st) h P) : iy_E G m pc lv st h P := by
  obtain ⟨r, h', q, hp⟩ := kk
  exact ⟨r, h', iy_ldcM hd hL q, hp⟩
theorem iz_getC {i a : Nat} (hd : decode (ix_by m) pc = .ok (.invokevirtual i, 3)) (hL : Cond.methodLink (ix_own m) i ix_gc ∈ ix_words) (hD : Cond.declares ix_gc ∈ ix_words) (hSel : Cond.selects "[Ljava/lang/Object;" ix_gc ix_gc ∈ ix_words) (hI : Cond.instanceMethod ix_gc ∈ ix_words) (hNt : Cond.native ix_gc ∈ ix_words) (hf : 1 ≤ ix_fr m) (hlo : (st.map fun v => v.category).sum + 14 ≤ ix_lo m) (ht : ix_tg h a = 107 ∨ ix_tg h a = 207) (kk : iy_E G m (pc + 3) lv (.ref G.2.2.2.2 :: st) h P) : iy_E G m pc lv (.ref a :: st) h P := by
  obtain ⟨r, h', q, hp⟩ := kk
  exact ⟨r, h', iy_getC hd hL hD hSel hI hNt hf hlo ht q, hp⟩
theorem iz_copyB {i src dst : Nat} {sp dp n : Int32} (hd : decode (ix_by m) pc = .ok (.invokestatic i, 3)) (hL : ix_CpL (ix_own m) i) (hf : 1 ≤ ix_fr m) (hlo : (st.map fun v => v.category).sum + (nativeFrameWords "java/lang/System" "arraycopy" 5 + 11) ≤ ix_lo m) (hsrc : ix_tg h src = 102) (hdst : ix_tg h dst = 102) (q1 : ¬ sp < 0) (q2 : ¬ dp < 0) (q3 : ¬ n < 0) (q4 : sp.toNatClampNeg + n.toNatClampNeg ≤ ix_ln h src) (q5 : dp.toNatClampNeg + n.toNatClampNeg ≤ ix_ln h dst) (hfit : ∀ j, j < n.toNatClampNeg → fits .byte (.int (ix_i h src (sp.toNatClampNeg + j))) = true) (kk : iy_E G m (pc + 3) lv st (ix_cpi h src sp.toNatClampNeg dst dp.toNatClampNeg n.toNatClampNeg) P) : iy_E G m pc lv (.int n :: .int dp :: .ref dst :: .int sp :: .ref src :: st) h P := by
  obtain ⟨r, h', q, hp⟩ := kk
  exact ⟨r, h', iy_copyB hd hL hf hlo hsrc hdst q1 q2 q3 q4 q5 hfit q, hp⟩
theorem iz_copyR {i src dst : Nat} {sp dp n : Int32} (hd : decode (ix_by m) pc = .ok (.invokestatic i, 3)) (hL : ix_CpL (ix_own m) i) (hf : 1 ≤ ix_fr m) (hlo : (st.map fun v => v.category).sum + (nativeFrameWords "java/lang/System" "arraycopy" 5 + 11) ≤ ix_lo m) (hsrc : ix_tg h src = 107 ∨ ix_tg h src = 207) (hdst : ix_tg h dst = 107) (q1 : ¬ sp < 0) (q2 : ¬ dp < 0) (q3 : ¬ n < 0) (q4 : sp.toNatClampNeg + n.toNatClampNeg ≤ ix_ln h src) (q5 : dp.toNatClampNeg + n.toNatClampNeg ≤ ix_ln h dst) (hel : ∀ j, j < n.toNatClampNeg → ∀ y : Nat, ix_r h src (sp.toNatClampNeg + j) = some y → ∃ k : Nat, k < 10 ∧ ix_tg h y = k + 1 ∧ ix_cl[k]? = some (ix_cn k, ix_cT k, ix_nf k) ∧ Cond.castable (ix_cn k) "java/lang/Object" ∈ ix_words) (kk : iy_E G m (pc + 3) lv st (ix_cpr h src sp.toNatClampNeg dst dp.toNatClampNeg n.toNatClampNeg) P) : iy_E G m pc lv (.int n :: .int dp :: .ref dst :: .int sp :: .ref src :: st) h P := by
  obtain ⟨r, h', q, hp⟩ := kk
  exact ⟨r, h', iy_copyR hd hL hf hlo hsrc hdst q1 q2 q3 q4 q5 hel q, hp⟩
theorem iz_iret {v : Int32} {ty : FieldType} (hd : decode (ix_by m) pc = .ok (.ireturn, 1)) (hr : ix_rt m = some ty) (hn : narrow ty (.int v) = .int v) (hp : P (.inl (some (.int v))) h) : iy_E G m pc lv [.int v] h P := ⟨_, _, iy_iret hd hr hn, hp⟩
theorem iz_vret (hd : decode (ix_by m) pc = .ok (.return_, 1)) (hr : ix_rt m = none) (hp : P (.inl none) h) : iy_E G m pc lv [] h P := ⟨_, _, iy_vret hd hr, hp⟩
theorem iz_callV {stk : List Value} {i k kc n b : Nat} {P1 : ix_O → ix_H → Prop} (as : List Value) (hd : decode (ix_by m) pc = .ok (.invokevirtual i, 3)) (hk : ix_ok k n) (hroom : ix_room m k) (hL : ix_VL (ix_own m) i k kc) (hstk : stk = as.reverse ++ .ref b :: st) (hn : as.length = n) (hcat : (st.map fun v => v.category).sum ≤ 8) (hsl : (lg_sl (.ref b :: as)).length ≤ ix_mL k) (hb : ix_tg h b = kc + 1) (hM : ix_E G k 0 (lv_args 0 (.ref b :: as)) [] h P1) (kk : ∀ (rv : ix_O) (h1 : ix_H), P1 rv h1 → iy_E G m (pc + 3) lv (rv.toList ++ st) h1 P) : iy_E G m pc lv stk h P := by
  obtain ⟨rv, h1, q1, hp1⟩ := hM
  obtain ⟨r, h', q, hp⟩ := kk rv h1 hp1
  exact ⟨r, h', iy_callV as hd hk hroom hL hstk hn hcat hsl hb q1 q, hp⟩
theorem iz_callS {stk : List Value} {i k n : Nat} {P1 : ix_O → ix_H → Prop} (as : List Value) (hd : decode (ix_by m) pc = .ok (.invokestatic i, 3)) (hk : ix_ok k n) (hroom : ix_room m k) (hL : ix_SL (ix_own m) i k) (hstk : stk = as.reverse ++ st) (hn : as.length = n) (hcat : (st.map fun v => v.category).sum ≤ 8) (hsl : (lg_sl as).length ≤ ix_mL k) (hM : ix_E G k 0 (lv_args 0 as) [] h P1) (kk : ∀ (rv : ix_O) (h1 : ix_H), P1 rv h1 → iy_E G m (pc + 3) lv (rv.toList ++ st) h1 P) : iy_E G m pc lv stk h P := by
  obtain ⟨rv, h1, q1, hp1⟩ := hM
  obtain ⟨r, h', q, hp⟩ := kk rv h1 hp1
  exact ⟨r, h', iy_callS as hd hk hroom hL hstk hn hcat hsl q1 q, hp⟩
theorem iz_callI {stk : List Value} {i k n b : Nat} {P1 : ix_H → Prop} (as : List Value) (hd : decode (ix_by m) pc = .ok (.invokespecial i, 3)) (hk : ix_ok k n) (hroom : ix_room m k) (hL : ix_IL (ix_own m) i k) (hstk : stk = as.reverse ++ .ref b :: st) (hn : as.length = n) (hcat : (st.map fun v => v.category).sum ≤ 8) (hsl : (lg_sl (.ref b :: as)).length ≤ ix_mL k) (hM : ix_E G k 0 (lv_args 0 (.ref b :: as)) [] h (fun rv h1 => rv = none ∧ P1 h1)) (kk : ∀ h1 : ix_H, P1 h1 → iy_E G m (pc + 3) lv st h1 P) : iy_E G m pc lv stk h P := by
  obtain ⟨rv, h1, q1, hp0, hp1⟩ := hM
  subst hp0
  obtain ⟨r, h', q, hp⟩ := kk h1 hp1
  exact ⟨r, h', iy_callI as hd hk hroom hL hstk hn hcat hsl q1 q, hp⟩
theorem iz_mono {P1 : iy_O → ix_H → Prop} (hE : iy_E G m pc lv st h P1) (hP : ∀ r h', P1 r h' → P r h') : iy_E G m pc lv st h P := by
  obtain ⟨r, h', q, hp⟩ := hE
  exact ⟨r, h', q, hP r h' hp⟩
end IZ1
