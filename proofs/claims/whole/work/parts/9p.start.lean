/-! ===== the start: what the Statement gives, as the walk needs it ===== -/
theorem st_of {s : State} {args : Array Value} {O f d : String} (hl : (Cond.laysStatic O f d).before args s = true) (hr : (Cond.isRef (.static O f d)).before args s = true) {A : Nat → Prop} (hA : ∀ a : Nat, a < s.heap.size → ¬ A a) : iy_St O f d A s := by
  obtain ⟨c, k, i, fd, a, cell, hc, hi, hst, ha, hcell, hs, hcls, hlt, hty⟩ := Cond.laysStatic_spec hl
  obtain ⟨u, hu⟩ := Cond.staticRefV hi hst ha hcell hs hr
  exact ⟨c, i, a, k, fd, cell, u, hc, hi, hst, ha, hcell, hs, hcls, hlt, hty, hu, hA a (Array.getElem?_eq_some_iff.mp hcell).1⟩
theorem st_nc {s : State} {args : Array Value} {x y : String} {n1 n2 : Nat} (hx : (Cond.instantiable x n1).before args s = true) (hy : (Cond.instantiable y n2).before args s = true) (hno : (Cond.not (.castable x y)).before args s = true) : iy_nc x y s := by
  obtain ⟨cx, kx, h1, -⟩ := Cond.instantiable_spec hx
  obtain ⟨cy, ky, h2, -⟩ := Cond.instantiable_spec hy
  have hv := Cond.holds_not_iff.mp hno
  simp only [Cond.value, h1, h2] at hv
  exact ⟨cx, cy, h1, h2, Option.some.inj hv⟩
theorem st_tx {s : State} {args : Array Value} {i : Nat} {tx : String} {cur : ClassId} (hcur : s.vm.findClass "FileDelivery" = some cur) (h : (Cond.stringRef "FileDelivery" i tx).before args s = true) : ∃ a : Nat, vk_R "FileDelivery" i tx a s := by
  obtain ⟨k, cf, j, a, -, -, -, -, -, hev⟩ := Cond.stringRef_spec hcur h
  exact ⟨a, vk_R.of h hev⟩
theorem st_ap {s : State} {args : Array Value} {ty : FieldType} (h : (Cond.arrayClass ty).before args s = true) : ∃ cA : ClassId, ArrOfT s cA ty ∧ s.vm.findClass ("[" ++ ty.toString) = some cA := by
  obtain ⟨c, k, comp, h1, h2, h3⟩ := Cond.arrayClass_spec h
  exact ⟨c, fun n z => ⟨(fun x w => by cases w), k, h2, comp, h3⟩, h1⟩
theorem st_aa {s : State} {args : Array Value} {ty : FieldType} (h : (Cond.arrayOver (.array ty)).before args s = true) : ∃ cA : ClassId, ArrOfT s cA (.array ty) ∧ s.vm.findClass ("[" ++ (FieldType.array ty).toString) = some cA := by
  obtain ⟨comp, c, k, h1, h2, h3, h4⟩ := Cond.arrayOver_specA h
  exact ⟨c, fun n z => ⟨(fun x w => by cases w), k, h2, comp, h3⟩, h4⟩
theorem st_ao {s : State} {args : Array Value} {C : String} (h : (Cond.arrayOver (.object C)).before args s = true) : ∃ cA : ClassId, ArrOfT s cA (.object C) ∧ va_RA s cA (.object C) := by
  obtain ⟨comp, c, k, h1, -, h3, h4, h5⟩ := Cond.arrayOver_spec h
  exact ⟨c, fun n z => ⟨(fun x w => by cases w), k, h3, comp, h4⟩, k, comp, h3, h4, h1, h5⟩
theorem st_at {s : State} {args : Array Value} (hts : ∀ w ∈ lw_tbl, w.before args s = true) : ∀ t : Nat, ∃ cA : ClassId, t < 8 → ArrOfT s cA (ix_at t) ∧ va_RA s cA (ix_at t) := by
  intro t
  match t with
  | 0 => obtain ⟨c, h1, h2⟩ := st_ap (ty := .int) (hts _ (List.mem_of_getElem? (i := 116) (by decide +kernel))); exact ⟨c, fun _ => ⟨h1, h2⟩⟩
  | 1 => obtain ⟨c, h1, h2⟩ := st_ap (ty := .boolean) (hts _ (List.mem_of_getElem? (i := 1097) (by decide +kernel))); exact ⟨c, fun _ => ⟨h1, h2⟩⟩
  | 2 => obtain ⟨c, h1, h2⟩ := st_ap (ty := .byte) (hts _ (List.mem_of_getElem? (i := 115) (by decide +kernel))); exact ⟨c, fun _ => ⟨h1, h2⟩⟩
  | 3 => obtain ⟨c, h1, h2⟩ := st_ap (ty := .long) (hts _ (List.mem_of_getElem? (i := 1299) (by decide +kernel))); exact ⟨c, fun _ => ⟨h1, h2⟩⟩
  | 4 => obtain ⟨c, h1, h2⟩ := st_aa (ty := .byte) (hts _ (List.mem_of_getElem? (i := 107) (by decide +kernel))); exact ⟨c, fun _ => ⟨h1, h2⟩⟩
  | 5 => obtain ⟨c, h1, h2⟩ := st_ao (C := "FileDelivery$Side") (hts _ (List.mem_of_getElem? (i := 94) (by decide +kernel))); exact ⟨c, fun _ => ⟨h1, h2⟩⟩
  | 6 => obtain ⟨c, h1, h2⟩ := st_ao (C := "FileDelivery$Unit") (hts _ (List.mem_of_getElem? (i := 168) (by decide +kernel))); exact ⟨c, fun _ => ⟨h1, h2⟩⟩
  | 7 => obtain ⟨c, h1, h2⟩ := st_ao (C := "java/lang/Object") (hts _ (List.mem_of_getElem? (i := 575) (by decide +kernel))); exact ⟨c, fun _ => ⟨h1, h2⟩⟩
  | t + 8 => exact ⟨0, fun h => absurd h (by omega)⟩
theorem st_kn {s : State} {args : Array Value} {own : String} {i k : Nat} (hts : ∀ w ∈ ix_words, w.before args s = true) (N : ix_NL own i k) : ∃ q : ClassId × (Nat → Nat), k < 10 → (∀ z, ix_cl[k]? = some z → u_Kn s z.1 z.2.1 z.2.2 q.1 q.2) := by
  obtain ⟨hk, hc, hin, hl, hins, hini⟩ := N
  obtain ⟨cC, iS, h⟩ := u_known hts hin (hts _ hins)
  refine ⟨(cC, iS), fun _ z hz => ?_⟩
  cases hc.symm.trans hz
  exact h
theorem st_cl {s : State} {args : Array Value} (hts : ∀ w ∈ ix_words, w.before args s = true) : ∃ D : va_G, ∀ (k : Nat) (q : vw_C), ix_cl[k]? = some q → u_Kn s q.1 q.2.1 q.2.2 (D.1 k) (D.2 k) := by
  have h0 : ∀ k : Nat, ∃ q : ClassId × (Nat → Nat), k < 10 → (∀ z, ix_cl[k]? = some z → u_Kn s z.1 z.2.1 z.2.2 q.1 q.2) := by
    intro k
    match k with
    | 0 => exact st_kn hts nl0_8
    | 1 => exact st_kn hts nl1_20
    | 2 => exact st_kn hts nl1_206
    | 3 => exact st_kn hts nl1_120
    | 4 => exact st_kn hts nl1_13
    | 5 => exact st_kn hts nl2_7
    | 6 => exact st_kn hts nl1_115
    | 7 => exact st_kn hts nl12_8
    | 8 => exact st_kn hts nl0_42
    | 9 => exact st_kn hts nl2_16
    | k + 10 => exact ⟨(0, fun _ => 0), fun h => absurd h (by omega)⟩
  obtain ⟨F, hF⟩ := Classical.axiomOfChoice h0
  refine ⟨(fun k => (F k).1, fun k => (F k).2), fun k q hq => hF k ?_ q hq⟩
  have := (List.getElem?_eq_some_iff.mp hq).1
  exact this
/-- the heap at the law's entry, as the walk sees it -/
def st_h (b L D0 n : Nat) (xs : Nat → Int32) : ix_H := (fun a => if a = b then 200 else if a = D0 then 207 else 0, fun a => if a = b then L else 0, fun a j => if a = b then xs j else 0, fun _ _ => 0, fun _ _ => none, n, 0)
theorem st_all {s : State} {b L : Nat} {xs : Nat → Int32} (hL : L ≤ 3585) (hts : ∀ w ∈ lw_tbl, w.before #[Value.ref b] s = true) (hX : va_X b L xs s s.heap) (hbl : b < s.heap.size) (hgv : (Jvm.Cond.and given_1 narrow_1).before #[Value.ref b] s = true) :
    ∃ G : ix_G, G.2.2.1 = s.heap.size ∧ ix_KU G s ∧ iy_KT G s ∧ G.2.2.2.1 < s.heap.size ∧ b ≠ G.2.2.2.1 ∧ ix_R G (st_h b L G.2.2.2.1 s.heap.size xs) s.heap := by
  have hs := flat_of_before _ hgv
  have htw : ∀ w ∈ ix_words, w.before #[Value.ref b] s = true := fun w hw => hts w (List.mem_filter.mp hw).1
  obtain ⟨D, hD⟩ := st_cl htw
  obtain ⟨ca, hca⟩ := Classical.axiomOfChoice (st_at hts)
  obtain ⟨scr, x1, x2, x3, x4, x5⟩ := hX
  have hA : ∀ a : Nat, a < s.heap.size → ¬ (fun q : Nat => s.heap.size ≤ q) a := fun a ha => Nat.not_le.mpr ha
  obtain ⟨D0, hD0, cellD, d1, d2, d3, d4, d5, d6, d7⟩ := va_Tof (args := #[Value.ref b]) (s := s) (tm := .static "java/util/ArrayList" "DEFAULTCAPACITY_EMPTY_ELEMENTDATA" "[Ljava/lang/Object;") (ty := .object "java/lang/Object") (N := 0) (f := fun _ => .null) (A := fun q => s.heap.size ≤ q) (by decide) (hs _ (by decide +kernel)) (va_eqt (hs (.eq (.length (.static "java/util/ArrayList" "DEFAULTCAPACITY_EMPTY_ELEMENTDATA" "[Ljava/lang/Object;")) (.int 0)) (by decide +kernel))) (fun j hj => absurd hj (Nat.not_lt_zero _)) hA
  obtain ⟨D1, c7, cell7, k7, e1, e2, e3, e4, e5, e6, -⟩ := Cond.exactly_spec (args := #[Value.ref b]) (first := s) (o := none) (s := s) (idx := []) (t := .static "java/util/ArrayList" "DEFAULTCAPACITY_EMPTY_ELEMENTDATA" "[Ljava/lang/Object;") (cls := "[Ljava/lang/Object;") (hs _ (by decide +kernel))
  have eD : D1 = D0 := by
    have := e1.symm.trans hD0
    injection this with z
    injection z
  subst eD
  cases Option.some.inj (d1.symm.trans e3)
  obtain ⟨mi, hmi⟩ := va_Mi.of (hs (.isRef (.mirror "[Ljava/lang/Object;")) (by decide +kernel))
  have hc7 : s.vm.findClass "[Ljava/lang/Object;" = some (ca 7) := va_nmO (C := "java/lang/Object") (hca 7 (by decide)).2 (by decide +kernel)
  have h17 : cellD.cls = ca 7 := by
    rw [e6]
    exact Option.some.inj (e2.symm.trans hc7)
  have hlD : D1 < s.heap.size := (Array.getElem?_eq_some_iff.mp d1).1
  have hne : b ≠ D1 := by
    intro z
    rw [← z] at d1
    cases Option.some.inj (x1.symm.trans d1)
    obtain ⟨-, k1, hk1, cm1, hkk1⟩ := x2
    obtain ⟨-, k2, hk2, cm2, hkk2⟩ := d2
    cases Option.some.inj (hk1.symm.trans hk2)
    have := hkk1.symm.trans hkk2
    injection this with z1 z2
    cases z2
  have hF : s.vm.findClass "FileDelivery" = some (D.1 0) := (hD 0 _ rfl).2.1
  refine ⟨(D, (fun i => if i < 8 then ca i else if i = 10 then scr.cls else ca (i - 10)), s.heap.size, D1, mi), rfl, ?_, ?_, hlD, hne, ?_⟩
  · refine ⟨fun w hw => va_Nw.of (ix_onT (List.mem_filter.mp hw).2) (htw w hw), ⟨hD, fun k q hq => ?_⟩, Nat.le_refl _, va_Zof (hts _ (List.mem_of_getElem? (i := 130) (by decide +kernel))) (hts _ (List.mem_of_getElem? (i := 65) (by decide +kernel))) e1 hA, hmi, va_AO.of (hts _ (List.mem_of_getElem? (i := 94) (by decide +kernel))), va_AO.of (hts _ (List.mem_of_getElem? (i := 168) (by decide +kernel))), va_AO.of (hts _ (List.mem_of_getElem? (i := 575) (by decide +kernel))), fun t ht => ?_, ?_⟩
    · by_cases hk : k < 8
      · have hq2 := ix_tyAt (D, (fun i => if i < 8 then ca i else if i = 10 then scr.cls else ca (i - 10)), s.heap.size, D1, mi) hk
        cases hq2.symm.trans hq
        show ArrOfT s (if k < 8 then ca k else _) _ ∧ va_RA s (if k < 8 then ca k else _) _
        rw [if_pos hk]
        exact hca k hk
      · have := (List.getElem?_eq_some_iff.mp hq).1
        unfold ix_tys at this
        rw [List.length_map, List.length_range] at this
        exact absurd this hk
    · show ArrOfT s (if 10 + t < 8 then _ else if 10 + t = 10 then scr.cls else ca (10 + t - 10)) _
      rw [if_neg (by omega)]
      by_cases h0 : t = 0
      · subst h0
        rw [if_pos rfl]
        obtain ⟨-, k1, hk1, cm1, hkk1⟩ := x2
        exact fun n z => ⟨(fun x w => by cases w), k1, hk1, cm1, hkk1⟩
      · rw [if_neg (by omega), show 10 + t - 10 = t by omega]
        exact (hca t ht).1
    · exact hc7
  · refine ⟨st_of (hts _ (List.mem_of_getElem? (i := 721) (by decide +kernel))) (hs _ (by decide +kernel)) hA, st_of (hts _ (List.mem_of_getElem? (i := 723) (by decide +kernel))) (hs _ (by decide +kernel)) hA, ?_, ?_, hts (.arrayOver (.array .byte)) (List.mem_of_getElem? (i := 107) (by decide +kernel))⟩
    · unfold iy_txt
      exact List.forall_mem_cons.mpr ⟨st_tx hF (hts _ (List.mem_of_getElem? (i := 736) (by decide +kernel))), List.forall_mem_cons.mpr ⟨st_tx hF (hts _ (List.mem_of_getElem? (i := 771) (by decide +kernel))), List.forall_mem_cons.mpr ⟨st_tx hF (hts _ (List.mem_of_getElem? (i := 788) (by decide +kernel))), List.forall_mem_cons.mpr ⟨st_tx hF (hts _ (List.mem_of_getElem? (i := 806) (by decide +kernel))), List.forall_mem_cons.mpr ⟨st_tx hF (hts _ (List.mem_of_getElem? (i := 825) (by decide +kernel))), List.forall_mem_cons.mpr ⟨st_tx hF (hts _ (List.mem_of_getElem? (i := 840) (by decide +kernel))), List.forall_mem_cons.mpr ⟨st_tx hF (hts _ (List.mem_of_getElem? (i := 841) (by decide +kernel))), List.forall_mem_cons.mpr ⟨st_tx hF (hts _ (List.mem_of_getElem? (i := 842) (by decide +kernel))), fun _ h => absurd h List.not_mem_nil⟩⟩⟩⟩⟩⟩⟩⟩
    · have ins : ∀ k, k < 4 → (Cond.instantiable (iy_xn k) 6).before #[Value.ref b] s = true := fun k hk => by
        match k, hk with
        | 0, _ => exact hts _ (List.mem_of_getElem? (i := 695) (by decide +kernel))
        | 1, _ => exact hts _ (List.mem_of_getElem? (i := 763) (by decide +kernel))
        | 2, _ => exact hts _ (List.mem_of_getElem? (i := 780) (by decide +kernel))
        | 3, _ => exact hts _ (List.mem_of_getElem? (i := 817) (by decide +kernel))
      unfold iy_nx
      exact List.forall_mem_cons.mpr ⟨st_nc (ins 1 (by decide)) (ins 0 (by decide)) (hs _ (by decide +kernel)), List.forall_mem_cons.mpr ⟨st_nc (ins 2 (by decide)) (ins 0 (by decide)) (hs _ (by decide +kernel)), List.forall_mem_cons.mpr ⟨st_nc (ins 2 (by decide)) (ins 1 (by decide)) (hs _ (by decide +kernel)), List.forall_mem_cons.mpr ⟨st_nc (ins 3 (by decide)) (ins 1 (by decide)) (hs _ (by decide +kernel)), fun _ h => absurd h List.not_mem_nil⟩⟩⟩⟩
  · have tg : ∀ a, ix_tg (st_h b L D1 s.heap.size xs) a = if a = b then 200 else if a = D1 then 207 else 0 := fun _ => rfl
    have ln : ∀ a, ix_ln (st_h b L D1 s.heap.size xs) a = if a = b then L else 0 := fun _ => rfl
    refine ⟨rfl, Nat.le_refl _, fun a k h hk => ?_, fun a t h ht => ?_, fun a t h ht => ?_⟩
    · rw [tg] at h
      split at h
      · omega
      · split at h <;> omega
    · rw [tg] at h
      split at h
      · omega
      · split at h <;> omega
    · rw [tg] at h
      split at h
      · rename_i q
        have : t = 0 := by omega
        subst this
        rw [q]
        refine ⟨scr, x1, ?_, x3, x2.1, by rw [ln, if_pos rfl, x4]; exact Nat.le_refl _, by rw [ln, if_pos rfl, x4]; rfl, fun j hj => ?_⟩
        · exact rfl
        · rw [ln, if_pos rfl] at hj
          rw [x5 j hj]
          show _ = some (Value.int (if b = b then xs j else 0))
          rw [if_pos rfl]
      · split at h
        · rename_i q0 q
          have : t = 7 := by omega
          subst this
          rw [q]
          refine ⟨cellD, d1, ?_, d3, d2.1, by rw [ln, if_neg (Ne.symm hne)]; exact Nat.zero_le _, by rw [ln, if_neg (Ne.symm hne)]; exact d5, fun j hj => ?_⟩
          · exact h17
          · rw [ln, if_neg (Ne.symm hne)] at hj
            exact absurd hj (Nat.not_lt_zero _)
        · omega
