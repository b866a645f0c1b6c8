/-! ===== a constructor whose contract is of the judgement with throws ===== -/
section IYW
variable {G : ix_G} {m pc : Nat} {lv : List (Nat × Value)} {stk st : List Value} {h h1 h' : ix_H} {r : iy_O} {rv : ix_O}
theorem iy_met {k : Nat} {as : List Value} (l : Launch) (hM : iy_Ev G k 0 (lv_args 0 as) [] h (.inl rv) h1) (hp : plainFor (ix_y k) = true) (hxt : iy_xt k = []) (htr : l.stackTraces = false) (hlen : (lg_sl as).length ≤ ix_mL k) :
    Met l (ix_y k) (ix_ws k) (ix_rm k (ix_nx h1 - ix_nx h) (ix_us h1 - ix_us h)) (va_Pc as (fun U => ix_R G h U.heap ∧ ix_KU G U ∧ iy_KT G U)) (ix_Q G rv h1) (ix_nx h1 - ix_nx h) (ix_us h1 - ix_us h) (ix_A G) := by
  refine va_MetF (cc := ix_by k) (maxL := ix_mL k) (ret := ix_rt k) hp rfl ?_
  intro p e s m args below meth c s₁ B hml hv
  obtain ⟨rfl, hR, hK, hKT⟩ := hv
  have C : ix_Cx G k p l (headSpec (ix_ws k) (ix_rm k (ix_nx h1 - ix_nx h) (ix_us h1 - ix_us h))).room s m meth c := ⟨B.exec, B.bytes, hml, B.returns, B.notSynchronized, findClass_of_methodNamed B.named, (name_of_methodNamed B.named B.method).1, Nat.le_refl _, Nat.le_refl _, hK⟩
  have D : iy_Dx G k l s c := ⟨hKT, htr, by
    have h0 := B.noHandlers (atoms_spec (ws := ix_ws k) B.pre _ List.mem_cons_self)
    have h2 : c.exceptionTable.toList = [] := by
      have : c.exceptionTable = #[] := by simpa using h0
      rw [this]
    rw [h2, hxt]
    rfl⟩
  have hl := lv_entry as (n := ix_mL k) hlen
  rw [lg_entry_eq]
  generalize (lg_sl as ++ List.replicate (ix_mL k - (lg_sl as).length) Slot.unset).toArray = ls at hl ⊢
  have K := hM.2 p l e _ s m as.toArray below meth c C D s.heap [] 0 0 ls hR va_S.rf hl (by rw [Nat.zero_add]; exact Nat.le_refl _) (by rw [Nat.zero_add]; exact Nat.le_refl _)
  rw [Nat.zero_add, Nat.zero_add] at K
  exact K
theorem iy_callIY {i k n b : Nat} (as : List Value) (hd : decode (ix_by m) pc = .ok (.invokespecial i, 3)) (hk : ix_ok k n) (hxk : iy_xt k = []) (hroom : ix_room m k) (hL : ix_IL (ix_own m) i k) (hstk : stk = as.reverse ++ .ref b :: st) (hn : as.length = n) (hcat : (st.map fun v => v.category).sum ≤ 8) (hsl : (lg_sl (.ref b :: as)).length ≤ ix_mL k)
    (hM : iy_Ev G k 0 (lv_args 0 (.ref b :: as)) [] h (.inl none) h1) (kk : iy_Ev G m (pc + 3) lv st h1 r h') : iy_Ev G m pc lv stk h r h' := by
  subst hstk
  obtain ⟨hl1, hl2, hl3, hrt⟩ := hL
  have m1 := hM.1
  have k1 := kk.1
  refine ⟨by omega, fun p l e R s mid args below meth c C D H locs cells slots ls hR hS hl hc1 hs1 => ?_⟩
  have hts : ∀ w ∈ ix_words, w.before args s = true := fun w hw => C.w hw args
  obtain ⟨b1, b2, b3, b4, b5, b6⟩ := ix_callB C hk hroom (ix_nx h1 - ix_nx h) (ix_us h1 - ix_us h)
  have hpre : FrameBlind (va_Pc (.ref b :: as) (fun U => ix_R G h U.heap ∧ ix_KU G U ∧ iy_KT G U)) ∧ ∀ U : State, U.heap = H → s.WarmedH U.vm → va_Pc (.ref b :: as) (fun U => ix_R G h U.heap ∧ ix_KU G U ∧ iy_KT G U) (Value.ref b :: as).toArray U :=
    ⟨fun a U g mk q => ⟨q.1, q.2.1, q.2.2.1.calling, q.2.2.2.calling⟩, fun U hU hW => ⟨rfl, by rw [hU]; exact hR, C.2.2.2.2.2.2.2.2.2.moved hW (by rw [hU]; exact hS), D.1.moved hW (by rw [hU]; exact hS)⟩⟩
  have hcd := hts _ hk.2.2.1
  rw [hrt] at b6 hcd
  have K : ∀ (H1 : Heap) (locs1 : List Loc), ix_R G h1 H1 → va_S (ix_A G) s.heap H1 locs1 → W p l e R s mid args below meth c H1 locs1 (cells + (ix_nx h1 - ix_nx h)) (slots + (ix_us h1 - ix_us h)) (iy_PQ below G r h' args s (cells + (ix_nx h' - ix_nx h)) (slots + (ix_us h' - ix_us h))) (F0 mid (pc + 3) ls ((none : Option Value).toList ++ st)) := by
    intro H1 locs1 hR1 hS1
    have K := kk.2 p l e R s mid args below meth c C D H1 locs1 (cells + (ix_nx h1 - ix_nx h)) (slots + (ix_us h1 - ix_us h)) ls hR1 hS1 hl (by omega) (by omega)
    rw [show cells + (ix_nx h1 - ix_nx h) + (ix_nx h' - ix_nx h1) = cells + (ix_nx h' - ix_nx h) by omega, show slots + (ix_us h1 - ix_us h) + (ix_us h' - ix_us h1) = slots + (ix_us h' - ix_us h) by omega] at K
    exact K
  rcases hl1 with hl1 | ⟨host, hl1⟩
  · exact ix_run (va_runI (As := as) (rest := st) (Ts := ix_words) (nL := ix_mL m) ⟨C.1, C.2.1, C.2.2.1, C.2.2.2.2.2.1, hts⟩ (iy_met l hM hk.1 hxk D.2.1 hsl) ⟨⟨b1, b2, b3, b4, b5, b6, hcd, hts _ hk.2.2.2, ⟨hk.2.1.1, hk.2.1.2.1⟩, ix_arity hk, hts _ hl1⟩, hl3, hts _ hl2⟩ hpre rfl hn hl.1 rfl (lv_room hcat) hd ⟨by omega, by omega⟩) hS K
  · exact ix_run (va_runIN (As := as) (rest := st) (Ts := ix_words) (nL := ix_mL m) (host := host) ⟨C.1, C.2.1, C.2.2.1, C.2.2.2.2.2.1, hts⟩ (iy_met l hM hk.1 hxk D.2.1 hsl) ⟨⟨⟨b1, b2, b3, b4, b5, b6⟩, hcd, hts _ hk.2.2.2, ⟨hk.2.1.1, hk.2.1.2.1⟩, ix_arity hk, hts _ hl1⟩, hl3, hts _ hl2⟩ hpre rfl hn hl.1 rfl (lv_room hcat) hd ⟨by omega, by omega⟩) hS K
theorem iz_callIY {P : iy_O → ix_H → Prop} {P1 : ix_H → Prop} {i k n b : Nat} (as : List Value) (hd : decode (ix_by m) pc = .ok (.invokespecial i, 3)) (hk : ix_ok k n) (hxk : iy_xt k = []) (hroom : ix_room m k) (hL : ix_IL (ix_own m) i k) (hstk : stk = as.reverse ++ .ref b :: st) (hn : as.length = n) (hcat : (st.map fun v => v.category).sum ≤ 8) (hsl : (lg_sl (.ref b :: as)).length ≤ ix_mL k)
    (hM : iy_E G k 0 (lv_args 0 (.ref b :: as)) [] h (fun r1 h1 => r1 = .inl none ∧ P1 h1)) (kk : ∀ h1, P1 h1 → iy_E G m (pc + 3) lv st h1 P) : iy_E G m pc lv stk h P := by
  obtain ⟨r1, h1, q1, rfl, hp1⟩ := hM
  obtain ⟨r, h', q, hp⟩ := kk h1 hp1
  exact ⟨r, h', iy_callIY as hd hk hxk hroom hL hstk hn hcat hsl q1 q, hp⟩
end IYW
/-! ===== rows of rows: byte[6][64] ===== -/
def hMn (h : ix_H) : ix_H := (fun b => if b = ix_nx h then 104 else if ix_nx h < b ∧ b < ix_nx h + 7 then 102 else ix_tg h b, fun b => if b = ix_nx h then 6 else if ix_nx h < b ∧ b < ix_nx h + 7 then 64 else ix_ln h b, fun b j => if ix_nx h ≤ b ∧ b < ix_nx h + 7 then 0 else ix_i h b j, fun b j => if ix_nx h ≤ b ∧ b < ix_nx h + 7 then 0 else ix_l h b j, fun b j => if b = ix_nx h then (if j < 6 then some (ix_nx h + 1 + j) else none) else if ix_nx h < b ∧ b < ix_nx h + 7 then none else ix_r h b j, ix_nx h + 7, ix_us h + 390)
theorem hMn_o {h : ix_H} {b : Nat} (hb : ¬ (ix_nx h ≤ b ∧ b < ix_nx h + 7)) : ix_tg (hMn h) b = ix_tg h b ∧ ix_ln (hMn h) b = ix_ln h b ∧ (∀ j, ix_i (hMn h) b j = ix_i h b j) ∧ (∀ j, ix_l (hMn h) b j = ix_l h b j) ∧ ∀ j, ix_r (hMn h) b j = ix_r h b j := by
  have h1 : ¬ b = ix_nx h := by omega
  have h2 : ¬ (ix_nx h < b ∧ b < ix_nx h + 7) := by omega
  refine ⟨?_, ?_, fun j => if_neg hb, fun j => if_neg hb, fun j => ?_⟩
  · show (if _ then _ else if _ then _ else _) = _
    rw [if_neg h1, if_neg h2]
  · show (if _ then _ else if _ then _ else _) = _
    rw [if_neg h1, if_neg h2]
  · show (if _ then _ else if _ then _ else _) = _
    rw [if_neg h1, if_neg h2]
theorem hMn_a {h : ix_H} : ix_tg (hMn h) (ix_nx h) = 104 ∧ ix_ln (hMn h) (ix_nx h) = 6 ∧ (∀ j, j < 6 → ix_r (hMn h) (ix_nx h) j = some (ix_nx h + 1 + j)) := by
  refine ⟨if_pos rfl, if_pos rfl, fun j hj => ?_⟩
  show (if _ then (if _ then _ else _) else _) = _
  rw [if_pos rfl, if_pos hj]
theorem hMn_b {h : ix_H} {f : Nat} (hf : f < 6) : ix_tg (hMn h) (ix_nx h + 1 + f) = 102 ∧ ix_ln (hMn h) (ix_nx h + 1 + f) = 64 ∧ ∀ j, ix_i (hMn h) (ix_nx h + 1 + f) j = 0 := by
  have h1 : ¬ ix_nx h + 1 + f = ix_nx h := by omega
  have h2 : ix_nx h < ix_nx h + 1 + f ∧ ix_nx h + 1 + f < ix_nx h + 7 := by omega
  refine ⟨?_, ?_, fun j => if_pos (by omega)⟩
  · show (if _ then _ else if _ then _ else _) = _
    rw [if_neg h1, if_pos h2]
  · show (if _ then _ else if _ then _ else _) = _
    rw [if_neg h1, if_pos h2]
theorem outer_arrV (c : ClassId) (N h0 : Nat) : ∀ i, Multi.outerC c N h0 i = arrV c N (fun j => if j < i then .ref (h0 + 1 + j) else .null)
  | 0 => by
    unfold Multi.outerC
    rw [arrV_new]
    congr 1
  | i + 1 => by
    unfold Multi.outerC
    rw [outer_arrV c N h0 i, arrV_store]
    congr 1
    funext j
    unfold updV
    by_cases e : j = i
    · subst e
      rw [if_pos rfl, if_pos (by omega)]
    · rw [if_neg e]
      by_cases q : j < i
      · show (if j < i then _ else _) = _
        rw [if_pos q, if_pos (by omega)]
      · show (if j < i then _ else _) = _
        rw [if_neg q, if_neg (by omega)]
theorem ix_R.mna {G : ix_G} {h : ix_H} {H H1 : Heap} (hR : ix_R G h H) (z1 : H1.size = H.size + 7) (o1 : ∀ q : Nat, q < H.size → H1[q]? = H[q]?) (e1 : H1[H.size]? = some (arrV (G.2.1 4) 6 (fun j => if j < 6 then .ref (H.size + 1 + j) else .null))) (e2 : ∀ j, j < 6 → H1[H.size + 1 + j]? = some (arrV (G.2.1 2) 64 (fun _ => .int 0))) : ix_R G (hMn h) H1 := by
  obtain ⟨r1, r2, r3, r4, r5⟩ := hR
  have self : ∀ b, ix_nx h ≤ b ∧ b < ix_nx h + 7 → b = ix_nx h ∨ ∃ j, j < 6 ∧ b = ix_nx h + 1 + j := fun b hb => by
    by_cases q : b = ix_nx h
    · exact Or.inl q
    · exact Or.inr ⟨b - (ix_nx h + 1), by omega, by omega⟩
  refine ⟨by show ix_nx h + 7 = _; rw [z1, r1], by rw [z1]; omega, fun b k hb hk => ?_, fun b t hb hk => ?_, fun b t hb hk => ?_⟩
  · by_cases q : ix_nx h ≤ b ∧ b < ix_nx h + 7
    · exfalso
      rcases self b q with w | ⟨j, hj, w⟩
      · rw [w, hMn_a.1] at hb
        omega
      · rw [w, (hMn_b hj).1] at hb
        omega
    · obtain ⟨p1, p2, p3, p4, p5⟩ := hMn_o q
      rw [p1] at hb
      obtain ⟨q1, q2⟩ := r3 b k hb hk
      have hlt : b < H.size := by
        obtain ⟨cell, w, -⟩ := q2
        exact (Array.getElem?_eq_some_iff.mp w).1
      refine ⟨q1, (q2.kept (o1 b hlt)).to (fun j _ => ?_)⟩
      unfold ix_v
      split
      · rw [p3]
      · rw [p4]
      · rw [p5]
  · by_cases q : ix_nx h ≤ b ∧ b < ix_nx h + 7
    · refine ⟨by show G.2.2.1 ≤ b; omega, ?_⟩
      rcases self b q with w | ⟨j, hj, w⟩
      · subst w
        rw [hMn_a.1] at hb
        have : t = 4 := by omega
        subst this
        rw [r1, e1]
        unfold ix_arr
        rw [← r1, hMn_a.2.1]
        congr 2
        funext j
        show _ = va_rf (ix_r (hMn h) (ix_nx h) j)
        show _ = va_rf (if ix_nx h = ix_nx h then (if j < 6 then some (ix_nx h + 1 + j) else none) else _)
        rw [if_pos rfl]
        by_cases u : j < 6
        · rw [if_pos u, if_pos u]
          rfl
        · rw [if_neg u, if_neg u]
          rfl
      · subst w
        rw [(hMn_b hj).1] at hb
        have : t = 2 := by omega
        subst this
        rw [r1, e2 j hj]
        unfold ix_arr
        rw [← r1, (hMn_b hj).2.1]
        congr 2
        funext i
        show _ = Value.int (ix_i (hMn h) (ix_nx h + 1 + j) i)
        rw [(hMn_b hj).2.2]
    · obtain ⟨p1, p2, p3, p4, p5⟩ := hMn_o q
      rw [p1] at hb
      obtain ⟨q1, q2⟩ := r4 b t hb hk
      refine ⟨q1, ?_⟩
      rw [o1 b (Array.getElem?_eq_some_iff.mp q2).1, q2]
      unfold ix_arr
      rw [p2]
      congr 2
      funext j
      unfold ix_v
      split
      · rw [p3]
      · rw [p4]
      · rw [p5]
  · by_cases q : ix_nx h ≤ b ∧ b < ix_nx h + 7
    · exfalso
      rcases self b q with w | ⟨j, hj, w⟩
      · rw [w, hMn_a.1] at hb
        omega
      · rw [w, (hMn_b hj).1] at hb
        omega
    · obtain ⟨p1, p2, p3, p4, p5⟩ := hMn_o q
      rw [p1] at hb
      obtain ⟨cell, q1, q2, q3, q4, q5, q6, q7⟩ := r5 b t hb hk
      refine ⟨cell, by rw [o1 b (Array.getElem?_eq_some_iff.mp q1).1]; exact q1, q2, q3, q4, by rw [p2]; exact q5, by rw [p2]; exact q6, fun j hj => ?_⟩
      rw [p2] at hj
      rw [q7 j hj]
      congr 1
      unfold ix_v
      split
      · rw [p3]
      · rw [p4]
      · rw [p5]
section IYX
variable {G : ix_G} {m pc : Nat} {lv : List (Nat × Value)} {st : List Value} {h h' : ix_H} {r : iy_O}
theorem iy_mna {i : Nat} (hd : decode (ix_by m) pc = .ok (.multianewarray i 2, 4)) (hL : Cond.classLink (ix_own m) i "[[B" ∈ ix_words) (kk : iy_Ev G m (pc + 4) lv (.ref (ix_nx h) :: st) (hMn h) r h') : iy_Ev G m pc lv (.int (nI 64) :: .int (nI 6) :: st) h r h' := by
  have k1 := kk.1
  have n1 : ix_nx (hMn h) = ix_nx h + 7 := rfl
  have n2 : ix_us (hMn h) = ix_us h + 390 := rfl
  rw [n1, n2] at k1
  refine ⟨by omega, fun p l e R s mid args below meth c C D H locs cells slots ls hR hS hl hc1 hs1 => ?_⟩
  have hRA4 := ix_arrK C (t := 4) (by decide)
  have hRA2 := ix_arrK C (t := 2) (by decide)
  have hAT2 : ArrOfT s (G.2.1 2) .byte := (C.2.2.2.2.2.2.2.2.2.2.1.2 2 _ (ix_tyAt G (by decide))).1
  have c6 : (nI 6).toNatClampNeg = 6 := nI_clamp (by decide)
  have c64 : (nI 64).toNatClampNeg = 64 := nI_clamp (by decide)
  intro T hT X
  obtain ⟨vm₁, cA, comp, hW, f1, f2, -, -, X1, step⟩ := X.multianewarray2F (ty := .byte) (index := i) (n := nI 6) (k := nI 64) (rest := st) (g := F0 mid pc ls (.int (nI 64) :: .int (nI 6) :: st)) C.1 C.2.2.2.2.2.1 (C.w hL args) D.1.2.2.2.2 (ix_harr (ty := .byte) hRA2 hAT2) rfl (by rw [C.2.1]; exact hd) rfl (nI_pos (by decide)) (nI_pos (by decide)) (by rw [c6]; decide) (by rw [c64]; decide) (by rw [c64]; decide) rfl rfl (by rw [c6]; omega) (by rw [c6, c64]; omega)
  rw [c6, c64] at X1 step
  have eA : cA = G.2.1 4 := Option.some.inj (f1.symm.trans hRA4)
  have eB : comp = G.2.1 2 := Option.some.inj (f2.symm.trans hRA2)
  subst eA
  subst eB
  obtain ⟨g1, g2, -, -⟩ := Multi.fill_facts (T.setVm vm₁) (G.2.1 4) (G.2.1 2) 6 64 (defaultValue .byte) 6
  have hTs : (T.setVm vm₁).heap.size = H.size := by show T.heap.size = _; rw [hT]
  have g3 := fun j (hj : j < 6) => Multi.fill_inner (T.setVm vm₁) (G.2.1 4) (G.2.1 2) 6 64 (defaultValue .byte) 6 j hj
  have g4 := fun (a : Nat) (ha : a < (T.setVm vm₁).heap.size) => Multi.fill_old (T.setVm vm₁) (G.2.1 4) (G.2.1 2) 6 64 (defaultValue .byte) ha 6
  rw [hTs] at g1 g2 g3 g4
  generalize Multi.fill (T.setVm vm₁) (G.2.1 4) (G.2.1 2) 6 64 (defaultValue .byte) 6 = U at X1 step g1 g2 g3 g4
  have o1 : ∀ q : Nat, q < H.size → U.heap[q]? = H[q]? := fun q hq => by
    rw [g4 q hq]
    show T.heap[q]? = _
    rw [hT]
  have hR1 : ix_R G (hMn h) U.heap := hR.mna (by rw [g1]) o1 (by rw [g2, outer_arrV]) (fun j hj => by
    rw [g3 j hj]
    unfold Multi.innerC
    rw [arrV_new]
    rfl)
  have hS1 : va_S (ix_A G) s.heap U.heap locs := ⟨by rw [g1]; have := hS.1; omega, fun q w1 w2 => by rw [o1 q (Nat.lt_of_lt_of_le w1 hS.1)]; exact hS.2.1 q w1 w2, hS.2.2⟩
  have K := kk.2 p l e R s mid args below meth c C D U.heap locs (cells + 1 + 6) (slots + 6 + 6 * 64) ls hR1 hS1 hl (by rw [n1]; omega) (by rw [n2]; omega)
  rw [n1, n2, show cells + 1 + 6 + (ix_nx h' - (ix_nx h + 7)) = cells + (ix_nx h' - ix_nx h) by omega, show slots + 6 + 6 * 64 + (ix_us h' - (ix_us h + 390)) = slots + (ix_us h' - ix_us h) by omega] at K
  obtain ⟨t, a1, b1⟩ := K U rfl X1
  refine ⟨t, step t ?_, b1⟩
  rw [hT, ← hR.1]
  exact a1
theorem iz_mna {P : iy_O → ix_H → Prop} {i : Nat} (hd : decode (ix_by m) pc = .ok (.multianewarray i 2, 4)) (hL : Cond.classLink (ix_own m) i "[[B" ∈ ix_words) (kk : iy_E G m (pc + 4) lv (.ref (ix_nx h) :: st) (hMn h) P) : iy_E G m pc lv (.int (nI 64) :: .int (nI 6) :: st) h P := by
  obtain ⟨r, h', q, hp⟩ := kk
  exact ⟨r, h', iy_mna hd hL q, hp⟩
end IYX
theorem fl5_7 : ix_FL "java/util/AbstractList" 7 9 2 0 := ⟨by decide, by decide, by decide, rfl, ix_uw9, "java/util/AbstractList", Or.inl (ix_in 133 (by decide +kernel) (by decide +kernel)), Or.inl rfl⟩
theorem mn3_9 : Cond.classLink (ix_own 3) 9 "[[B" ∈ ix_words := ix_in 106 (by decide +kernel) (by decide +kernel)
