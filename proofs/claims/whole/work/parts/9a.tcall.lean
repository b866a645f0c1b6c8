/-! ===== a throw ===== -/
section IYU
variable {G : ix_G} {m pc : Nat} {lv : List (Nat × Value)} {stk st : List Value} {h h1 h' : ix_H} {r : iy_O}
theorem iy_thr {i ic k t : Nat} {tx : String} (hd0 : decode (ix_by m) pc = .ok (.new i, 3)) (hd1 : decode (ix_by m) (pc + 3) = .ok (.dup, 1)) (hd2 : decode (ix_by m) (pc + 4) = .ok (.ldc t, 2)) (hd3 : decode (ix_by m) (pc + 6) = .ok (.invokespecial ic, 3)) (hd4 : decode (ix_by m) (pc + 9) = .ok (.athrow, 1))
    (hT : iy_TL i ic k) (ht : (t, tx) ∈ iy_txt) (hown : ix_own m = "FileDelivery") (hxt : iy_xt m = []) (hfr : 6 ≤ ix_fr m) (hlo : (st.map fun v => v.category).sum + 82 ≤ ix_lo m) : iy_Ev G m pc lv st h (.inr k) (ix_nw h 0 0 6) := by
  refine ⟨by rw [ix_nx_nw, ix_us_nw]; omega, fun p l e R s mid args below meth c C D H locs cells slots ls hR hS hl hc1 hs1 => ?_⟩
  rw [ix_nx_nw, ix_us_nw] at *
  have hts : ∀ w ∈ ix_words, w.before args s = true := fun w hw => C.w hw args
  have ho : s.vm.findClass "FileDelivery" = some mid.cls := by rw [← hown]; exact C.2.2.2.2.2.1
  have htl := hT.2.2.1
  obtain ⟨cX, kX0, hfX, -⟩ := Cond.instantiable_spec (hts _ (htl (.instantiable (iy_xn k) 6) (by simp [iy_tl])))
  refine W.newcK C.1 C.2.1 ho (hts _ hT.2.2.2) (hts _ (htl (.instantiable (iy_xn k) 6) (by simp [iy_tl]))) (hts _ (htl (.initialized (iy_xn k)) (by simp [iy_tl]))) rfl hd0 (by omega) (by omega) hfX rfl fun H1 kX hkX e1 z1 o1 => ?_
  obtain ⟨sa, hsa⟩ := D.1.2.2.1 _ ht
  refine lv_dup (rest := st) C.1 C.2.1 hd1 rfl (va_ldcS C.1 C.2.1 ho hsa hd2 ?_)
  intro T hTt X
  have hH : ∀ q : Nat, q < s.heap.size → ¬ ix_A G q → T.heap[q]? = s.heap[q]? := fun q g1 g2 => by
    rw [hTt, o1 q (Nat.lt_of_lt_of_le g1 hS.1)]
    exact hS.2.1 q g1 g2
  have hlo' := C.2.2.2.2.2.2.2.2.1
  have hfr' := C.2.2.2.2.2.2.2.1
  obtain ⟨U, u1, u2, u3, u4, u5, ce, u6, u7, u8⟩ := iy_ctor (a := H.size) (kX := kX) (msg := .ref sa) (rest := st) (g := F0 mid (pc + 3 + 1 + 2) ls (.ref sa :: .ref H.size :: .ref H.size :: st)) X C.1 (D.off X.admits) ho hT hts D.1 hH hfX hkX (by rw [hTt]; exact e1) hS.1 rfl rfl (by rw [C.2.2.1]; exact hl.1) rfl rfl rfl (by rw [C.2.1]; exact hd3) (by rw [C.2.1]; exact hd4) (fun x hx => by
      have := D.2.2
      rw [hxt] at this
      have h0 : c.exceptionTable.toList = [] := List.map_eq_nil_iff.mp this
      rw [h0] at hx
      cases hx) (by omega) (by show 2 * 0 + (1 + (st.map fun v => v.category).sum) + 81 ≤ _; omega) C.2.2.2.2.1
  rw [hTt] at u8
  have hlt : H.size < H1.size := by omega
  have zU : U.heap.size = H.size + 1 := by rw [u8, Array.size_setIfInBounds, z1]
  have oU : ∀ q : Nat, q < H.size → U.heap[q]? = H[q]? := fun q hq => by
    rw [u8, Array.getElem?_setIfInBounds, if_neg (by omega)]
    exact o1 q hq
  refine ⟨U, u1, H.size, u2, u3, ⟨⟨ce, ?_, u7, by rw [u6]; exact hfX⟩, hR.new zU oU (fun k' hk' _ => by omega) (fun t ht _ => by omega) (by omega), by rw [zU]; have := hS.1; omega, fun q g1 g2 => ?_⟩, locs, ⟨⟨_, rfl⟩, u4, ?_⟩, hS.2.2⟩
  · rw [u8]
    simp [hlt]
  · rw [oU q (Nat.lt_of_lt_of_le g1 hS.1)]
    exact hS.2.1 q g1 g2
  · rw [show cells + (ix_nx h + 1 - ix_nx h) = cells + 1 by omega, show slots + (ix_us h + 6 - ix_us h) = slots + 6 by omega]
    exact u5
/-- a method that throws, as its caller needs it -/
theorem iy_metT {k x : Nat} {as : List Value} (l : Launch) (hM : iy_Ev G k 0 (lv_args 0 as) [] h (.inr x) h1) (hp : plainFor (ix_y k) = true) (hxt : iy_xt k = []) (htr : l.stackTraces = false) (hlen : (lg_sl as).length ≤ ix_mL k) :
    MetFree l (ix_y k) (headSpec (ix_ws k) (ix_rm k (ix_nx h1 - ix_nx h) (ix_us h1 - ix_us h))) (va_Pc as (fun U => ix_R G h U.heap ∧ ix_KU G U ∧ iy_KT G U)) (fun _ _ _ _ _ => True) (fun _ st o t => ∃ z, o = .threw z ∧ iy_T G x h1 st z t ∧ ∃ L, FrameEndT st o t L (ix_nx h1 - ix_nx h) (ix_us h1 - ix_us h) ∧ ∀ q ∈ L, ix_A G q.base) := by
  refine MetFree.of_bodySF (code := ix_by k) (maxLocals := ix_mL k) (ret := ix_rt k) hp ?_ ?_
  · intro args s m h hn
    obtain ⟨meth, c, h1, h2, h3, h4, h5, h6, -, -⟩ := Cond.code_spec hn (atoms_spec (ws := ix_ws k) h _ List.mem_cons_self)
    exact ⟨meth, c, h1, h2, h3, h4, h5, h6⟩
  · intro p e s m args below meth c s₁ B hml hv _
    obtain ⟨rfl, hR, hK, hKT⟩ := hv
    have hh0 : s₁.heap = s.heap := by rw [B.state]; rfl
    have C : ix_Cx G k p l (headSpec (ix_ws k) (ix_rm k (ix_nx h1 - ix_nx h) (ix_us h1 - ix_us h))).room s m meth c := ⟨B.exec, B.bytes, hml, B.returns, B.notSynchronized, findClass_of_methodNamed B.named, (name_of_methodNamed B.named B.method).1, Nat.le_refl _, Nat.le_refl _, hK⟩
    have D : iy_Dx G k l s c := ⟨hKT, htr, by
      have h0 := B.noHandlers (atoms_spec (ws := ix_ws k) B.pre _ List.mem_cons_self)
      have h2 : c.exceptionTable.toList = [] := by
        have : c.exceptionTable = #[] := by simpa using h0
        rw [this]
      rw [h2, hxt]
      rfl⟩
    have hl := lv_entry as (n := ix_mL k) hlen
    rw [lg_entry_eq]
    generalize (lg_sl as ++ List.replicate (ix_mL k - (lg_sl as).length) Slot.unset).toArray = ls at hl ⊢
    have K := hM.2 p l e _ s m as.toArray below meth c C D s.heap [] 0 0 ls hR va_S.rf hl (by rw [Nat.zero_add]; exact Nat.le_refl _) (by rw [Nat.zero_add]; exact Nat.le_refl _)
    rw [Nat.zero_add, Nat.zero_add] at K
    obtain ⟨t, a1, z, b1, b2, b3, b4⟩ := K s₁ hh0 (Stand.of_body B)
    exact ⟨t, _, a1, b1, b2, z, rfl, b3, b4⟩
/-- where an exception of class x, thrown at pc, is caught -/
def iy_CT (m pc x hpc : Nat) : Prop := ∃ (pre rest : List (Nat × Nat × Nat × Nat)) (y : Nat × Nat × Nat × Nat), iy_xt m = pre ++ y :: rest ∧ (∀ z ∈ pre, z.2.2.2 ≠ 0 ∧ ∃ j, (x, j) ∈ iy_nx ∧ Cond.classLink (ix_own m) z.2.2.2 (iy_xn j) ∈ ix_words) ∧ (y.1 ≤ pc ∧ pc < y.2.1) ∧ y.2.2.1 = hpc ∧ y.2.2.2 ≠ 0 ∧ Cond.classLink (ix_own m) y.2.2.2 (iy_xn x) ∈ ix_words
theorem iy_callVT {i k kc n b x hpc : Nat} (as : List Value) (hd : decode (ix_by m) pc = .ok (.invokevirtual i, 3)) (hk : ix_ok k n) (hxk : iy_xt k = []) (hroom : ix_room m k) (hL : ix_VL (ix_own m) i k kc) (hstk : stk = as.reverse ++ .ref b :: st) (hn : as.length = n) (hcat : (st.map fun v => v.category).sum ≤ 8) (hsl : (lg_sl (.ref b :: as)).length ≤ ix_mL k) (hb : ix_tg h b = kc + 1)
    (hM : iy_Ev G k 0 (lv_args 0 (.ref b :: as)) [] h (.inr x) h1) (hX : iy_CT m pc x hpc) (kk : ∀ a : Nat, iy_Ev G m hpc lv [.ref a] h1 r h') : iy_Ev G m pc lv stk h r h' := by
  subst hstk
  obtain ⟨hl1, hl2, hl3, hkc, hcl, hcn⟩ := hL
  have m1 := hM.1
  have k1 := (kk 0).1
  refine ⟨by omega, fun p l e R s mid args below meth c C D H locs cells slots ls hR hS hl hc1 hs1 => ?_⟩
  have hts : ∀ w ∈ ix_words, w.before args s = true := fun w hw => C.w hw args
  obtain ⟨b1, b2, b3, b4, b5, b6⟩ := ix_callB C hk hroom (ix_nx h1 - ix_nx h) (ix_us h1 - ix_us h)
  obtain ⟨-, cellB, g1, g2, g3, -⟩ := hR.2.2.1 b kc hb hkc
  have hfc : s.vm.findClass (ix_y k).cls = some cellB.cls := by
    rw [g2, ← hcn]
    exact (C.2.2.2.2.2.2.2.2.2.2.1.1 kc _ hcl).2.1
  intro T hT X
  have hini : ∀ (a' : Array Value) (U : State), s.WarmedH U.vm → (Cond.initialized (ix_y k).cls).before a' U = true := fun a' U hW => word_at hW (Or.inl rfl) (hts _ hk.2.2.2)
  have hK : BackT l R p e below s args (ix_y k) 3 8 (PreOf R (ix_nx h1 - ix_nx h) (ix_us h1 - ix_us h) (va_Pc (.ref b :: as) (fun U => ix_R G h U.heap ∧ ix_KU G U ∧ iy_KT G U)))
      (fun A a v B => ∃ (g : JFrame) (mk : MethodId) (t : State) (L : List Loc), B.U.heap = t.heap ∧ B.U.vm = t.vm ∧ iy_T G x h1 (A.U.calling g mk a) v t ∧ B.locs = A.locs ++ L ∧ (∀ q ∈ L, ix_A G q.base) ∧ B.cells = A.cells + (ix_nx h1 - ix_nx h) ∧ B.slots = A.slots + (ix_us h1 - ix_us h)) := by
    refine BackT.of_free (bytes := ix_by k) (maxL := ix_mL k) (ret := ix_rt k) (E := fun a st o t L k0 n0 => k0 = ix_nx h1 - ix_nx h ∧ n0 = ix_us h1 - ix_us h ∧ ∀ q ∈ L, ix_A G q.base) (iy_metT l hM hk.1 hxk D.2.1 hsl) b3 b4 ?_ ?_ (fun _ _ _ _ _ _ _ _ _ => trivial) ?_ ?_
    · intro m' meth' c' A a X' hp
      exact ⟨atoms_intro fun w hw => b5 w hw _ _ X'.warmed, b5 _ b6 _ _ X'.warmed, hini _ _ X'.warmed, hp.1, hp.2.1⟩
    · intro m' meth' c' A a g mk X' hp
      obtain ⟨q1, q2, q3, q4⟩ := hp.2.2
      exact ⟨q1, q2, q3.calling, q4.calling⟩
    · intro a first o t ⟨z, e1, e2, L, e3, e4⟩
      exact ⟨L, _, _, e3, rfl, rfl, e4⟩
    · intro m' meth' c' A a g mk v t L k0 n0 X' hp hq hF ⟨e1, e2, e3⟩
      subst e1
      subst e2
      obtain ⟨z, q1, q2, -⟩ := hq
      cases q1
      exact ⟨g, mk, t, L, rfl, rfl, q2, rfl, e3, rfl, rfl⟩
  obtain ⟨mk, methM, hnamed, hmethM, hstM, habM⟩ := Cond.instanceMethod_spec (hts _ hl2)
  obtain ⟨methM', cM, hmethM', -, -, -, -, -, -, hsigM⟩ := Cond.code_spec hnamed (hts _ hk.2.2.1)
  cases hmethM.symm.trans hmethM'
  obtain ⟨c2, r2, m2, q1, q2, q3, q4, kP, hkP, hkPi⟩ := Cond.selects_spec (hts _ hl3)
  cases hfc.symm.trans q1
  cases (State.methodFound?_of_named hnamed ⟨hk.2.1.1, hk.2.1.2.1⟩).symm.trans q2
  cases hnamed.symm.trans q3
  have hselP : selectMethod e.platform s.vm cellB.cls mk = .method mk := by rw [Launch.admits_selectMethod X.admits]; exact q4
  obtain ⟨vm₁, X₁, hstep₁⟩ := X.invokevirtual C.1 C.2.2.2.2.2.1 (hts _ hl1) hnamed hmethM hstM hkP hkPi ⟨hk.2.1.1, hk.2.1.2.1⟩ (a := b) (cell := cellB) (by rw [hT]; exact g1)
    (fun z hz => by rw [g3] at hz; cases hz) hselP hmethM habM hkP hkPi (g := F0 mid pc ls (as.reverse ++ .ref b :: st)) rfl (argsL := as) (rest := st) (by rw [hn]; exact ix_arity hk _ hsigM) rfl (by rw [C.2.1]; exact hd)
  obtain ⟨v, B, X', ⟨g', mk', t, L, f1, f2, ⟨⟨cell, f3, f4, f5⟩, f6, f7⟩, f8, f9, f10, f11⟩, hsteps⟩ := hK mid meth c ⟨T.setVm vm₁, locs, cells, slots⟩ (F0 mid pc ls st) (.invokevirtual i) mk (.ref b :: as).toArray X₁ rfl (by rw [C.2.2.1]; exact hl.1) (by rw [C.2.1]; exact hd) (lv_room hcat) (X₁.named hnamed)
    ⟨by show cells + _ ≤ _; omega, by show slots + _ ≤ _; omega, rfl, by rw [show (T.setVm vm₁).heap = H from hT]; exact hR, C.2.2.2.2.2.2.2.2.2.moved X₁.warmed (by rw [show (T.setVm vm₁).heap = H from hT]; exact hS), D.1.moved X₁.warmed (by rw [show (T.setVm vm₁).heap = H from hT]; exact hS)⟩
  obtain ⟨U', l2, c2, s2⟩ := B
  dsimp only [Pt.U, Pt.locs, Pt.cells, Pt.slots] at X' f1 f2 f8 f10 f11 hsteps
  subst f8
  subst f10
  subst f11
  have hcome : Steps p.tables e below (T.setTop (F0 mid pc ls (as.reverse ++ .ref b :: st))) ((U'.setTop (F0 mid pc ls st)).pushFrame (.throwing v)) := (hstep₁ _ fun acts => by rw [doInvoke_state]; exact Steps.refl _).trans hsteps
  have hcls : s.vm.findClass (iy_xn x) = some cell.cls := by
    rw [← X₁.warmed.alike.findClass]
    exact f5
  obtain ⟨pre, rest, y, x1, x2, x3, x4, x5, x6⟩ := hX
  have hD := D.2.2
  rw [x1] at hD
  obtain ⟨pre', tl, y1, y2, y3⟩ := List.map_eq_append_iff.mp hD
  obtain ⟨y', rest', y4, y5, y6⟩ := List.map_eq_cons_iff.mp y3
  subst y4
  subst y5
  have hpl : e.platform.magicAccessors = ({} : Platform).magicAccessors := by rw [X.admits.platform]
  obtain ⟨hend, hk0⟩ := X'.catches_of_link (x := y') C.2.2.2.2.2.1 x5 (hts _ x6) hcls (va_asg s.vm cell.cls)
  obtain ⟨vm', XV, hst⟩ := X'.thenCaughtThrough v (g := F0 mid pc ls st) rfl hcome (cell := cell) (by rw [f1]; exact f3) (by rw [f4]; rfl) hk0 pre' y' rest' y1 (fun z hz => by
    have hz' : (z.startPc, z.endPc, z.handlerPc, z.catchType) ∈ pre := by rw [← y2]; exact List.mem_map.mpr ⟨z, hz, rfl⟩
    obtain ⟨w1, j, w2, w3⟩ := x2 _ hz'
    obtain ⟨cj, hcj, hlj⟩ := Cond.classLink_spec C.2.2.2.2.2.1 (hts _ w3) e.platform hpl
    obtain ⟨cx, cy, v1, v2, v3⟩ := D.1.2.2.2.1 _ w2
    cases Option.some.inj (hcls.symm.trans v1)
    cases Option.some.inj (hcj.symm.trans v2)
    exact Or.inr ⟨w1, cj, hlj, v3⟩) (by simpa [covers] using x3) hend
  have hz0 : T.heap.size ≤ U'.heap.size := by rw [f1]; exact f7.1
  have hS1 : va_S (ix_A G) s.heap (U'.setVm vm').heap (locs ++ L) := ⟨by rw [hT] at hz0; exact Nat.le_trans hS.1 hz0, fun q w1 w2 => by
      show U'.heap[q]? = _
      rw [f1, f7.2 q (by show q < T.heap.size; rw [hT]; exact Nat.lt_of_lt_of_le w1 hS.1) w2]
      show T.heap[q]? = _
      rw [hT]
      exact hS.2.1 q w1 w2, fun q hq => by
      rcases List.mem_append.mp hq with w | w
      · exact hS.2.2 q w
      · exact f9 q w⟩
  have K := (kk v).2 p l e R s mid args below meth c C D (U'.setVm vm').heap (locs ++ L) (cells + (ix_nx h1 - ix_nx h)) (slots + (ix_us h1 - ix_us h)) ls (by show ix_R G h1 U'.heap; rw [f1]; exact f6) hS1 hl (by omega) (by omega)
  rw [show cells + (ix_nx h1 - ix_nx h) + (ix_nx h' - ix_nx h1) = cells + (ix_nx h' - ix_nx h) by omega, show slots + (ix_us h1 - ix_us h) + (ix_us h' - ix_us h1) = slots + (ix_us h' - ix_us h) by omega] at K
  obtain ⟨t2, a1, b1'⟩ := K _ rfl XV
  rw [show y'.handlerPc = hpc from x4] at hst
  exact ⟨t2, hst.trans a1, b1'⟩
end IYU
