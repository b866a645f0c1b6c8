/-! ===== rows of the judgement: Object's constructor, casts, statics, class objects, arraycopy ===== -/
section IX8
variable {G : ix_G} {m pc : Nat} {lv : List (Nat × Value)} {st : List Value} {h h' : ix_H} {r : ix_O}
theorem ix_objI {i b : Nat} (hd : decode (ix_by m) pc = .ok (.invokespecial i, 3)) (hL : Cond.methodLink (ix_own m) i objectInit ∈ ix_words) (hI : Cond.instanceMethod objectInit ∈ ix_words) (hC : Cond.code objectInit ⟨#[0xb1]⟩ 1 none ∈ ix_words) (hf : 1 ≤ ix_fr m) (hlo : (st.map fun v => v.category).sum + 12 ≤ ix_lo m) (kk : ix_Ev G m (pc + 3) lv st h r h') : ix_Ev G m pc lv (.ref b :: st) h r h' := by
  refine ⟨kk.1, fun p l e R s mid args below meth c C H locs cells slots ls hR hS hl hc1 hs1 => ?_⟩
  refine W.objInit C.1 C.2.1 C.2.2.2.2.2.1 (C.w hL args) (C.w hI args) (C.w hC args) rfl (by rw [C.2.2.1]; exact hl.1) rfl hd (Nat.le_trans hf C.2.2.2.2.2.2.2.1) ?_ (kk.2 p l e R s mid args below meth c C H locs cells slots ls hR hS hl hc1 hs1)
  have := C.2.2.2.2.2.2.2.2.1
  show 2 * 0 + _ + 12 ≤ _
  omega
theorem ix_cast {i k a : Nat} {nm : String} (hd : decode (ix_by m) pc = .ok (.checkcast i, 3)) (hk : k < 10) (hcl : ix_cl[k]? = some (ix_cn k, ix_cT k, ix_nf k)) (hL : Cond.classLink (ix_own m) i nm ∈ ix_words) (hC : Cond.castable (ix_cn k) nm ∈ ix_words) (ht : ix_tg h a = k + 1) (kk : ix_Ev G m (pc + 3) lv (.ref a :: st) h r h') : ix_Ev G m pc lv (.ref a :: st) h r h' := by
  refine ⟨kk.1, fun p l e R s mid args below meth c C H locs cells slots ls hR hS hl hc1 hs1 => ?_⟩
  obtain ⟨-, cell, g1, g2, g3, -⟩ := hR.2.2.1 a k ht hk
  exact va_castY C.1 C.2.1 C.2.2.2.2.2.1 (C.w hL args) (C.2.2.2.2.2.2.2.2.2.1 _ hC) ⟨cell, g1, by rw [g3]; rfl, by rw [g2]; exact (C.2.2.2.2.2.2.2.2.2.2.1.1 k _ hcl).2.1⟩ hd (kk.2 p l e R s mid args below meth c C H locs cells slots ls hR hS hl hc1 hs1)
theorem ix_castN {i : Nat} (hd : decode (ix_by m) pc = .ok (.checkcast i, 3)) (kk : ix_Ev G m (pc + 3) lv (.null :: st) h r h') : ix_Ev G m pc lv (.null :: st) h r h' := ix_go (fun p l e R s mid args below meth c H locs cells slots Q ls hx hb hl k => lv_castN hx hb hd k) kk
theorem ix_gets {i : Nat} (hd : decode (ix_by m) pc = .ok (.getstatic i, 3)) (hL : Cond.fieldLink (ix_own m) i "java/util/ArrayList" "DEFAULTCAPACITY_EMPTY_ELEMENTDATA" "[Ljava/lang/Object;" ∈ ix_words) (kk : ix_Ev G m (pc + 3) lv (.ref G.2.2.2.1 :: st) h r h') : ix_Ev G m pc lv st h r h' := by
  refine ⟨kk.1, fun p l e R s mid args below meth c C H locs cells slots ls hR hS hl hc1 hs1 => ?_⟩
  exact va_gets C.1 C.2.1 C.2.2.2.2.2.2.2.2.2.2.2.2.1 hS C.2.2.2.2.2.1 (C.w hL args) (fun _ h => h) hd (kk.2 p l e R s mid args below meth c C H locs cells slots ls hR hS hl hc1 hs1)
theorem ix_ldcM {i : Nat} (hd : decode (ix_by m) pc = .ok (.ldc i, 2)) (hL : Cond.classLink (ix_own m) i "[Ljava/lang/Object;" ∈ ix_words) (kk : ix_Ev G m (pc + 2) lv (.ref G.2.2.2.2 :: st) h r h') : ix_Ev G m pc lv st h r h' := by
  refine ⟨kk.1, fun p l e R s mid args below meth c C H locs cells slots ls hR hS hl hc1 hs1 => ?_⟩
  exact va_ldcM C.1 C.2.1 C.2.2.2.2.2.1 (C.w hL args) C.2.2.2.2.2.2.2.2.2.2.2.2.2.1 hd (kk.2 p l e R s mid args below meth c C H locs cells slots ls hR hS hl hc1 hs1)
def ix_gc : MethodName := ⟨"java/lang/Object", "getClass", "()Ljava/lang/Class;"⟩
theorem ix_getC {i a : Nat} (hd : decode (ix_by m) pc = .ok (.invokevirtual i, 3)) (hL : Cond.methodLink (ix_own m) i ix_gc ∈ ix_words) (hD : Cond.declares ix_gc ∈ ix_words) (hSel : Cond.selects "[Ljava/lang/Object;" ix_gc ix_gc ∈ ix_words) (hI : Cond.instanceMethod ix_gc ∈ ix_words) (hNt : Cond.native ix_gc ∈ ix_words) (hf : 1 ≤ ix_fr m) (hlo : (st.map fun v => v.category).sum + 14 ≤ ix_lo m) (ht : ix_tg h a = 107 ∨ ix_tg h a = 207) (kk : ix_Ev G m (pc + 3) lv (.ref G.2.2.2.2 :: st) h r h') : ix_Ev G m pc lv (.ref a :: st) h r h' := by
  refine ⟨kk.1, fun p l e R s mid args below meth c C H locs cells slots ls hR hS hl hc1 hs1 => ?_⟩
  have hnm : s.vm.findClass "[Ljava/lang/Object;" = some (G.2.1 7) := va_nmO (C := "java/lang/Object") (ix_arrK C (t := 7) (by decide)) (by decide +kernel)
  have hcl : ∃ cell : Cell, H[a]? = some cell ∧ cell.vm.isStatics = false ∧ s.vm.findClass "[Ljava/lang/Object;" = some cell.cls := by
    rcases ht with q | q
    · exact ⟨_, hR.arr (t := 7) (by decide) q, rfl, hnm⟩
    · obtain ⟨cell, q1, q2, q3, q4, -⟩ := hR.2.2.2.2 a 7 q (by decide)
      refine ⟨cell, q1, ?_, by rw [q2]; exact C.2.2.2.2.2.2.2.2.2.2.2.2.2.2.2.2.2.2⟩
      cases hv : cell.vm with
      | statics x => exact absurd hv (q4 x)
      | _ => rfl
  refine va_getC C.1 C.2.1 (by rw [C.2.2.1]; exact hl.1.symm) C.2.2.2.2.2.1 (C.w hL args) (C.w hD args) (C.w hSel args) (C.w hI args) (C.w hNt args) C.2.2.2.2.2.2.2.2.2.2.2.2.2.1 hcl (Nat.le_trans hf C.2.2.2.2.2.2.2.1) ?_ hd (kk.2 p l e R s mid args below meth c C H locs cells slots ls hR hS hl hc1 hs1)
  have := C.2.2.2.2.2.2.2.2.1
  omega
end IX8
/-! ===== System.arraycopy ===== -/
def ix_cpi (h : ix_H) (src sp dst dp n : Nat) : ix_H := (h.1, h.2.1, (fun b => if b = dst then va_cpy (h.2.2.1 src) (h.2.2.1 dst) sp dp n else h.2.2.1 b), h.2.2.2)
def ix_cpr (h : ix_H) (src sp dst dp n : Nat) : ix_H := (h.1, h.2.1, h.2.2.1, h.2.2.2.1, (fun b => if b = dst then va_cpy (h.2.2.2.2.1 src) (h.2.2.2.2.1 dst) sp dp n else h.2.2.2.2.1 b), h.2.2.2.2.2)
theorem ix_i_cpi (h : ix_H) (src sp dst dp n b j : Nat) : ix_i (ix_cpi h src sp dst dp n) b j = if b = dst ∧ dp ≤ j ∧ j < dp + n then ix_i h src (sp + (j - dp)) else ix_i h b j := by
  show (if b = dst then va_cpy (h.2.2.1 src) (h.2.2.1 dst) sp dp n else h.2.2.1 b) j = _
  by_cases e : b = dst
  · subst e
    rw [if_pos rfl]
    show (if dp ≤ j ∧ j < dp + n then _ else _) = _
    by_cases q : dp ≤ j ∧ j < dp + n
    · rw [if_pos q, if_pos ⟨rfl, q⟩]; rfl
    · rw [if_neg q, if_neg (fun z => q z.2)]; rfl
  · rw [if_neg e, if_neg (fun z => e z.1)]; rfl
theorem ix_r_cpr (h : ix_H) (src sp dst dp n b j : Nat) : ix_r (ix_cpr h src sp dst dp n) b j = if b = dst ∧ dp ≤ j ∧ j < dp + n then ix_r h src (sp + (j - dp)) else ix_r h b j := by
  show (if b = dst then va_cpy (h.2.2.2.2.1 src) (h.2.2.2.2.1 dst) sp dp n else h.2.2.2.2.1 b) j = _
  by_cases e : b = dst
  · subst e
    rw [if_pos rfl]
    show (if dp ≤ j ∧ j < dp + n then _ else _) = _
    by_cases q : dp ≤ j ∧ j < dp + n
    · rw [if_pos q, if_pos ⟨rfl, q⟩]; rfl
    · rw [if_neg q, if_neg (fun z => q z.2)]; rfl
  · rw [if_neg e, if_neg (fun z => e z.1)]; rfl
theorem ix_nn {z : Int32} (hz : ¬ z < 0) : z.toInt = (z.toNatClampNeg : Int) := by
  have hz0 : (0 : Int) ≤ z.toInt := by
    have := Int32.not_lt.mp hz
    simpa using Int32.le_iff_toInt_le.mp this
  show z.toInt = ((z.toInt.toNat : Nat) : Int)
  omega
section IX9
variable {G : ix_G} {m pc : Nat} {lv : List (Nat × Value)} {st : List Value} {h h' : ix_H} {r : ix_O}
/-- the words of arraycopy at own class' entry i -/
def ix_CpL (own : String) (i : Nat) : Prop := Cond.methodLink own i arraycopyName ∈ ix_words ∧ Cond.native arraycopyName ∈ ix_words ∧ Cond.static arraycopyName ∈ ix_words ∧ Cond.initialized "java/lang/System" ∈ ix_words
theorem ix_copy {h1 : ix_H} {i t src dst : Nat} {sp dp n : Int32} (hd : decode (ix_by m) pc = .ok (.invokestatic i, 3)) (hL : ix_CpL (ix_own m) i) (hf : 1 ≤ ix_fr m) (hlo : (st.map fun v => v.category).sum + (nativeFrameWords "java/lang/System" "arraycopy" 5 + 11) ≤ ix_lo m)
    (t8 : t < 8) (hsrc : ix_tg h src = 100 + t ∨ ix_tg h src = 200 + t) (hdst : ix_tg h dst = 100 + t) (q1 : ¬ sp < 0) (q2 : ¬ dp < 0) (q3 : ¬ n < 0) (q4 : sp.toNatClampNeg + n.toNatClampNeg ≤ ix_ln h src) (q5 : dp.toNatClampNeg + n.toNatClampNeg ≤ ix_ln h dst)
    (hfit : ∀ j, j < n.toNatClampNeg → fits (ix_at t) (ix_v h (ix_kd (ix_at t)) src (sp.toNatClampNeg + j)) = true)
    (hel : ∀ j, j < n.toNatClampNeg → ∀ y : Nat, ix_v h (ix_kd (ix_at t)) src (sp.toNatClampNeg + j) = .ref y → ∃ (k : Nat) (Cn : String), ix_at t = .object Cn ∧ k < 10 ∧ ix_tg h y = k + 1 ∧ ix_cl[k]? = some (ix_cn k, ix_cT k, ix_nf k) ∧ Cond.castable (ix_cn k) Cn ∈ ix_words)
    (e0 : ix_us h1 = ix_us h) (e1 : ix_nx h1 = ix_nx h) (e2 : ∀ b, ix_tg h1 b = ix_tg h b) (e3 : ∀ b, ix_ln h1 b = ix_ln h b) (e4 : ∀ kd b j, b ≠ dst → ix_v h1 kd b j = ix_v h kd b j) (e5 : ∀ j, ix_v h1 (ix_kd (ix_at t)) dst j = va_cpy (fun j => ix_v h (ix_kd (ix_at t)) src j) (fun j => ix_v h (ix_kd (ix_at t)) dst j) sp.toNatClampNeg dp.toNatClampNeg n.toNatClampNeg j)
    (kk : ix_Ev G m (pc + 3) lv st h1 r h') : ix_Ev G m pc lv (.int n :: .int dp :: .ref dst :: .int sp :: .ref src :: st) h r h' := by
  obtain ⟨l1, l2, l3, l4⟩ := hL
  refine ⟨by rw [← e1, ← e0]; exact kk.1, fun p l e R s mid args below meth c C H locs cells slots ls hR hS hl hc1 hs1 => ?_⟩
  have hts : ∀ w ∈ ix_words, w.before args s = true := fun w hw => C.w hw args
  intro T hT X
  obtain ⟨cs0, hc0, ⟨hv0, k0, hk0, cm0, hkk0⟩, hun0, hle0, -, hsl0⟩ := hR.arrL C t8 hsrc
  have hcD := hR.arr t8 hdst
  obtain ⟨-, kD, hkD, cmD, hkkD⟩ := ix_isarr C t8 h dst
  have hrd : ∀ j, j < n.toNatClampNeg → cs0.slots.getD (sp.toNatClampNeg + j) .null = ix_v h (ix_kd (ix_at t)) src (sp.toNatClampNeg + j) := fun j hj => by
    rw [Array.getD_eq_getD_getElem?, hsl0 _ (by omega)]
    rfl
  obtain ⟨vm', X', step⟩ := X.arraycopy C.1 C.2.2.2.2.2.1 (hts _ l1) (hts _ l2) (hts _ l3) (hts _ l4) (src := src) (dst := dst) (cs := cs0) (cd := ix_arr G h t dst) (srcPos := sp) (destPos := dp) (n := n) (by rw [hT]; exact hc0) (by rw [hT]; exact hcD)
    (fun x z => hv0 x z) (fun _ h => by cases h) hun0 (fun h => by cases h) hk0 hkD hkk0 hkkD (by cases refKind (ix_at t) <;> simp) q1 q2 q3
    (by rw [ix_nn q1, ix_nn q3]; omega)
    (by rw [ix_nn q2, ix_nn q3]; show ¬ _ > ((arrV _ _ _).slots.size : Int); rw [arrV_size]; omega)
    (fun vm₁ hal i hi => by
      rw [hrd i hi]
      refine ⟨hfit i hi, ?_⟩
      cases hy : ix_v h (ix_kd (ix_at t)) src (sp.toNatClampNeg + i) with
      | ref y =>
        obtain ⟨k, Cn, hat, hk, hy2, hcl, hca⟩ := hel i hi y hy
        obtain ⟨-, cellV, g1, g2, g3, -⟩ := hR.2.2.1 y k hy2 hk
        have hRA := ix_arrK C t8
        rw [hat] at hRA
        obtain ⟨kA, comp, r1, r2, r3, -⟩ := hRA
        cases hkD.symm.trans r1
        have hcm : cmD = comp := by
          have := hkkD.symm.trans r2
          injection this
        subst hcm
        obtain ⟨-, hfc, kC, hkC, -⟩ := C.2.2.2.2.2.2.2.2.2.2.1.1 k _ hcl
        obtain ⟨kE, hkE, -⟩ := Vm.findClass_spec r3
        obtain ⟨kC', hkC', -⟩ := hal.2.2 _ _ hkC
        obtain ⟨kE', hkE', -⟩ := hal.2.2 _ _ hkE
        refine ⟨cellV, (show T.heap[y]? = some cellV by rw [hT]; exact g1), (fun q h => by rw [g3] at h; cases h), ⟨kC', by rw [g2]; exact hkC'⟩, ⟨kE', hkE'⟩, ?_⟩
        show vm₁.assignable _ _ = true
        rw [hal.assignable, g2]
        obtain ⟨c3, c4, hc3, hc4, hasg⟩ := Cond.castable_spec (hts _ hca)
        cases Option.some.inj (hc3.symm.trans hfc)
        cases Option.some.inj (hc4.symm.trans r3)
        exact hasg
      | _ => exact trivial)
    (g := F0 mid pc ls (.int n :: .int dp :: .ref dst :: .int sp :: .ref src :: st)) rfl (by rw [C.2.2.1]; exact hl.1) (rest := st) rfl (by rw [C.2.1]; exact hd) (Nat.le_trans hf C.2.2.2.2.2.2.2.1) (by have := C.2.2.2.2.2.2.2.2.1; show 2 * 0 + _ + _ ≤ _; omega)
  have hcp : copied cs0 (ix_arr G h t dst) sp dp n = ix_arr G h1 t dst := by
    have hcs : copied cs0 (ix_arr G h t dst) sp dp n = copied (ix_arr G h t src) (ix_arr G h t dst) sp dp n := by
      have hst : cs0.stretch sp.toNatClampNeg n.toNatClampNeg = (ix_arr G h t src).stretch sp.toNatClampNeg n.toNatClampNeg := by
        unfold Cell.stretch
        refine List.map_congr_left (fun j hj => ?_)
        have hj2 := List.mem_range.mp hj
        rw [hrd j hj2, Array.getD_eq_getD_getElem?, ix_aread (by omega)]
        rfl
      unfold copied
      rw [hst]
    rw [hcs]
    have z := va_copied (fun v : Value => v) (G.2.1 t) (G.2.1 t) (n0 := ix_ln h src) (n1 := ix_ln h dst) (sp := sp.toNatClampNeg) (dp := dp.toNatClampNeg) (n := n.toNatClampNeg) (fun j => ix_v h (ix_kd (ix_at t)) src j) (fun j => ix_v h (ix_kd (ix_at t)) dst j) q4
    refine Eq.trans z ?_
    unfold ix_arr
    rw [e3 dst]
    congr 1
    funext j
    exact (e5 j).symm
  rw [hcp] at X' step
  have hlt : dst < H.size := (Array.getElem?_eq_some_iff.mp hcD).1
  have hheap : ((T.setVm vm').setCell dst (ix_arr G h1 t dst)).heap = H.setIfInBounds dst (ix_arr G h1 t dst) := by rw [← hT]; rfl
  have oq : ∀ q : Nat, q ≠ dst → (H.setIfInBounds dst (ix_arr G h1 t dst))[q]? = H[q]? := fun q hq => by simp [Array.getElem?_setIfInBounds, Ne.symm hq]
  have oz : (H.setIfInBounds dst (ix_arr G h1 t dst)).size = H.size := by simp
  have hA := (hR.2.2.2.1 dst t hdst t8).1
  have hR1 : ix_R G h1 (H.setIfInBounds dst (ix_arr G h1 t dst)) := by
    refine hR.put e1 e2 e3 e4 oz oq (fun k hk _ => by omega) (fun t' ht' _ => ?_) (fun t' ht' => by omega)
    have : t' = t := by omega
    subst this
    simp [Array.getElem?_setIfInBounds, hlt]
  have hS1 : va_S (ix_A G) s.heap (H.setIfInBounds dst (ix_arr G h1 t dst)) (locs ++ (cs0.stretch sp.toNatClampNeg n.toNatClampNeg).zipIdx.map fun q => ⟨dst, dp.toNatClampNeg + q.2⟩) := ⟨by rw [oz]; exact hS.1, fun q g1 g2 => by
      rw [oq q (fun e => g2 (by rw [e]; exact hA))]
      exact hS.2.1 q g1 g2, fun q hq => by
      rcases List.mem_append.mp hq with h | h
      · exact hS.2.2 q h
      · obtain ⟨z, -, hz⟩ := List.mem_map.mp h
        rw [← hz]
        exact hA⟩
  have K := kk.2 p l e R s mid args below meth c C _ _ cells slots ls hR1 hS1 hl (by rw [e1]; exact hc1) (by rw [e0]; exact hs1)
  rw [e1, e0] at K
  obtain ⟨t2, a1, b1⟩ := K _ hheap X'
  exact ⟨t2, step t2 a1, b1⟩
/-- bytes -/
theorem ix_copyB {i src dst : Nat} {sp dp n : Int32} (hd : decode (ix_by m) pc = .ok (.invokestatic i, 3)) (hL : ix_CpL (ix_own m) i) (hf : 1 ≤ ix_fr m) (hlo : (st.map fun v => v.category).sum + (nativeFrameWords "java/lang/System" "arraycopy" 5 + 11) ≤ ix_lo m)
    (hsrc : ix_tg h src = 102) (hdst : ix_tg h dst = 102) (q1 : ¬ sp < 0) (q2 : ¬ dp < 0) (q3 : ¬ n < 0) (q4 : sp.toNatClampNeg + n.toNatClampNeg ≤ ix_ln h src) (q5 : dp.toNatClampNeg + n.toNatClampNeg ≤ ix_ln h dst) (hfit : ∀ j, j < n.toNatClampNeg → fits .byte (.int (ix_i h src (sp.toNatClampNeg + j))) = true)
    (kk : ix_Ev G m (pc + 3) lv st (ix_cpi h src sp.toNatClampNeg dst dp.toNatClampNeg n.toNatClampNeg) r h') : ix_Ev G m pc lv (.int n :: .int dp :: .ref dst :: .int sp :: .ref src :: st) h r h' := by
  refine ix_copy (t := 2) (h1 := ix_cpi h src sp.toNatClampNeg dst dp.toNatClampNeg n.toNatClampNeg) hd hL hf hlo (by decide) (Or.inl hsrc) hdst q1 q2 q3 q4 q5 hfit (fun j hj y hy => by cases hy) rfl rfl (fun _ => rfl) (fun _ => rfl) (fun kd b j hb => ?_) (fun j => ?_) kk
  · match kd with
    | 0 => show Value.int _ = Value.int _; rw [ix_i_cpi, if_neg (fun z => hb z.1)]
    | 1 => rfl
    | k + 2 => rfl
  · show Value.int _ = _
    rw [ix_i_cpi]
    unfold va_cpy
    by_cases q : dp.toNatClampNeg ≤ j ∧ j < dp.toNatClampNeg + n.toNatClampNeg
    · rw [if_pos ⟨rfl, q⟩, if_pos q]; rfl
    · rw [if_neg (fun z => q z.2), if_neg q]; rfl
/-- rows of a list -/
theorem ix_copyR {i src dst : Nat} {sp dp n : Int32} (hd : decode (ix_by m) pc = .ok (.invokestatic i, 3)) (hL : ix_CpL (ix_own m) i) (hf : 1 ≤ ix_fr m) (hlo : (st.map fun v => v.category).sum + (nativeFrameWords "java/lang/System" "arraycopy" 5 + 11) ≤ ix_lo m)
    (hsrc : ix_tg h src = 107 ∨ ix_tg h src = 207) (hdst : ix_tg h dst = 107) (q1 : ¬ sp < 0) (q2 : ¬ dp < 0) (q3 : ¬ n < 0) (q4 : sp.toNatClampNeg + n.toNatClampNeg ≤ ix_ln h src) (q5 : dp.toNatClampNeg + n.toNatClampNeg ≤ ix_ln h dst) (hel : ∀ j, j < n.toNatClampNeg → ∀ y : Nat, ix_r h src (sp.toNatClampNeg + j) = some y → ∃ k : Nat, k < 10 ∧ ix_tg h y = k + 1 ∧ ix_cl[k]? = some (ix_cn k, ix_cT k, ix_nf k) ∧ Cond.castable (ix_cn k) "java/lang/Object" ∈ ix_words)
    (kk : ix_Ev G m (pc + 3) lv st (ix_cpr h src sp.toNatClampNeg dst dp.toNatClampNeg n.toNatClampNeg) r h') : ix_Ev G m pc lv (.int n :: .int dp :: .ref dst :: .int sp :: .ref src :: st) h r h' := by
  refine ix_copy (t := 7) (h1 := ix_cpr h src sp.toNatClampNeg dst dp.toNatClampNeg n.toNatClampNeg) hd hL hf hlo (by decide) hsrc hdst q1 q2 q3 q4 q5 (fun j hj => ?_) (fun j hj y hy => ?_) rfl rfl (fun _ => rfl) (fun _ => rfl) (fun kd b j hb => ?_) (fun j => ?_) kk
  · show fits (.object _) (va_rf (ix_r h src _)) = true
    cases ix_r h src (sp.toNatClampNeg + j) <;> rfl
  · have hy' : va_rf (ix_r h src (sp.toNatClampNeg + j)) = .ref y := hy
    cases hz : ix_r h src (sp.toNatClampNeg + j) with
    | none => rw [hz] at hy'; cases hy'
    | some w =>
      rw [hz] at hy'
      have : w = y := by injection hy'
      subst this
      obtain ⟨k, a1, a2, a3, a4⟩ := hel j hj w hz
      exact ⟨k, _, rfl, a1, a2, a3, a4⟩
  · match kd with
    | 0 => rfl
    | 1 => rfl
    | k + 2 => show va_rf _ = va_rf _; rw [ix_r_cpr, if_neg (fun z => hb z.1)]
  · show va_rf _ = _
    rw [ix_r_cpr]
    unfold va_cpy
    by_cases q : dp.toNatClampNeg ≤ j ∧ j < dp.toNatClampNeg + n.toNatClampNeg
    · rw [if_pos ⟨rfl, q⟩, if_pos q]; rfl
    · rw [if_neg (fun z => q z.2), if_neg q]; rfl
end IX9
