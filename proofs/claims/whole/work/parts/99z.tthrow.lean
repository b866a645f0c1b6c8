/-! ===== the words of a throw (written by wip/whole/m99z.py) ===== -/
theorem iy_w1 : ∀ w ∈ Bundle.throwableAtoms, w ∈ ix_words ∨ w = Cond.laysStatic Bundle.tN "UNASSIGNED_STACK" Bundle.steD ∨ w = Cond.laysStatic Bundle.tN "SUPPRESSED_SENTINEL" Bundle.listD := by
  unfold Bundle.throwableAtoms
  exact List.forall_mem_cons.mpr ⟨Or.inl (ix_in 68 (by decide +kernel) (by decide +kernel)), List.forall_mem_cons.mpr ⟨Or.inl (ix_in 716 (by decide +kernel) (by decide +kernel)), List.forall_mem_cons.mpr ⟨Or.inl (ix_in 725 (by decide +kernel) (by decide +kernel)), List.forall_mem_cons.mpr ⟨Or.inl (ix_in 730 (by decide +kernel) (by decide +kernel)), List.forall_mem_cons.mpr ⟨Or.inl (ix_in 733 (by decide +kernel) (by decide +kernel)), List.forall_mem_cons.mpr ⟨Or.inl (ix_in 735 (by decide +kernel) (by decide +kernel)), List.forall_mem_cons.mpr ⟨Or.inl (ix_in 717 (by decide +kernel) (by decide +kernel)), List.forall_mem_cons.mpr ⟨Or.inl (ix_in 718 (by decide +kernel) (by decide +kernel)), List.forall_mem_cons.mpr ⟨Or.inl (ix_in 91 (by decide +kernel) (by decide +kernel)), List.forall_mem_cons.mpr ⟨Or.inl (ix_in 92 (by decide +kernel) (by decide +kernel)), List.forall_mem_cons.mpr ⟨Or.inl (ix_in 719 (by decide +kernel) (by decide +kernel)), List.forall_mem_cons.mpr ⟨Or.inl (ix_in 724 (by decide +kernel) (by decide +kernel)), List.forall_mem_cons.mpr ⟨Or.inl (ix_in 731 (by decide +kernel) (by decide +kernel)), List.forall_mem_cons.mpr ⟨Or.inl (ix_in 751 (by decide +kernel) (by decide +kernel)), List.forall_mem_cons.mpr ⟨Or.inl (ix_in 706 (by decide +kernel) (by decide +kernel)), List.forall_mem_cons.mpr ⟨Or.inl (ix_in 752 (by decide +kernel) (by decide +kernel)), List.forall_mem_cons.mpr ⟨Or.inl (ix_in 708 (by decide +kernel) (by decide +kernel)), List.forall_mem_cons.mpr ⟨Or.inl (ix_in 753 (by decide +kernel) (by decide +kernel)), List.forall_mem_cons.mpr ⟨Or.inl (ix_in 710 (by decide +kernel) (by decide +kernel)), List.forall_mem_cons.mpr ⟨Or.inl (ix_in 720 (by decide +kernel) (by decide +kernel)), List.forall_mem_cons.mpr ⟨Or.inr (Or.inl rfl), List.forall_mem_cons.mpr ⟨Or.inl (ix_in 722 (by decide +kernel) (by decide +kernel)), List.forall_mem_cons.mpr ⟨Or.inr (Or.inr rfl), List.forall_mem_cons.mpr ⟨Or.inl (ix_in 712 (by decide +kernel) (by decide +kernel)), fun _ h => absurd h List.not_mem_nil⟩⟩⟩⟩⟩⟩⟩⟩⟩⟩⟩⟩⟩⟩⟩⟩⟩⟩⟩⟩⟩⟩⟩⟩
theorem iy_w2 : ∀ w ∈ Bundle.throwableSAtoms, w ∈ ix_words := by
  unfold Bundle.throwableSAtoms
  exact List.forall_mem_cons.mpr ⟨ix_in 747 (by decide +kernel) (by decide +kernel), List.forall_mem_cons.mpr ⟨ix_in 748 (by decide +kernel) (by decide +kernel), List.forall_mem_cons.mpr ⟨ix_in 750 (by decide +kernel) (by decide +kernel), List.forall_mem_cons.mpr ⟨ix_in 712 (by decide +kernel) (by decide +kernel), fun _ h => absurd h List.not_mem_nil⟩⟩⟩⟩
theorem iy_w3 : ∀ w ∈ Bundle.chainSAtoms "java/lang/RuntimeException" ["java/lang/Exception"], w ∈ ix_words := by
  simp only [Bundle.chainSAtoms, Bundle.passSAtoms, List.cons_append, List.nil_append]
  exact List.forall_mem_cons.mpr ⟨ix_in 741 (by decide +kernel) (by decide +kernel), List.forall_mem_cons.mpr ⟨ix_in 742 (by decide +kernel) (by decide +kernel), List.forall_mem_cons.mpr ⟨ix_in 743 (by decide +kernel) (by decide +kernel), List.forall_mem_cons.mpr ⟨ix_in 744 (by decide +kernel) (by decide +kernel), List.forall_mem_cons.mpr ⟨ix_in 700 (by decide +kernel) (by decide +kernel), List.forall_mem_cons.mpr ⟨ix_in 744 (by decide +kernel) (by decide +kernel), List.forall_mem_cons.mpr ⟨ix_in 745 (by decide +kernel) (by decide +kernel), List.forall_mem_cons.mpr ⟨ix_in 746 (by decide +kernel) (by decide +kernel), List.forall_mem_cons.mpr ⟨ix_in 747 (by decide +kernel) (by decide +kernel), List.forall_mem_cons.mpr ⟨ix_in 702 (by decide +kernel) (by decide +kernel), fun _ h => absurd h List.not_mem_nil⟩⟩⟩⟩⟩⟩⟩⟩⟩⟩
def iy_ix (k : Nat) : Nat := match k with
  | 1 => 13
  | _ => 7
def iy_bs (k : Nat) : ByteArray := match k with
  | 1 => prog_29_method_4_code
  | _ => Bundle.six
def iy_tl (k ic : Nat) : List Cond := [.methodLink "FileDelivery" ic (Bundle.initS (iy_xn k)), .instantiable (iy_xn k) 6, .castable (iy_xn k) (iy_xn k), .selects (iy_xn k) Bundle.tFill0 Bundle.tFill0, .selects (iy_xn k) Bundle.tFill Bundle.tFill,
   .lays (iy_xn k) Bundle.tN "cause" "Ljava/lang/Throwable;", .lays (iy_xn k) Bundle.tN "stackTrace" Bundle.steD, .lays (iy_xn k) Bundle.tN "suppressedExceptions" Bundle.listD, .lays (iy_xn k) Bundle.tN "detailMessage" "Ljava/lang/String;",
   .fieldLink Bundle.tN 198 Bundle.tN "backtrace" "Ljava/lang/Object;", .lays Bundle.tN Bundle.tN "backtrace" "Ljava/lang/Object;", .lays (iy_xn k) Bundle.tN "backtrace" "Ljava/lang/Object;", .initialized (iy_xn k)]
/-- a throw of class k: new by entry i, its constructor by entry ic -/
def iy_TL (i ic k : Nat) : Prop := (Bundle.fit (iy_xn k) = true ∧ decode (iy_bs k) 0 = .ok (.aload_n 0, 1) ∧ decode (iy_bs k) 1 = .ok (.aload_n 1, 1) ∧ decode (iy_bs k) 2 = .ok (.invokespecial (iy_ix k), 3) ∧ decode (iy_bs k) 5 = .ok (.return_, 1)) ∧ (∀ w ∈ Bundle.passSAtoms (iy_xn k) "java/lang/RuntimeException" (iy_ix k) (iy_bs k), w ∈ ix_words) ∧ (∀ w ∈ iy_tl k ic, w ∈ ix_words) ∧ Cond.classLink "FileDelivery" i (iy_xn k) ∈ ix_words
theorem iy_tl0 : iy_TL 48 52 0 := by
  refine ⟨⟨by decide +kernel, by decide +kernel, by decide +kernel, by decide +kernel, by decide +kernel⟩, ?_, ?_, ix_in 694 (by decide +kernel) (by decide +kernel)⟩
  · unfold Bundle.passSAtoms
    exact List.forall_mem_cons.mpr ⟨ix_in 738 (by decide +kernel) (by decide +kernel), List.forall_mem_cons.mpr ⟨ix_in 739 (by decide +kernel) (by decide +kernel), List.forall_mem_cons.mpr ⟨ix_in 740 (by decide +kernel) (by decide +kernel), List.forall_mem_cons.mpr ⟨ix_in 741 (by decide +kernel) (by decide +kernel), List.forall_mem_cons.mpr ⟨ix_in 698 (by decide +kernel) (by decide +kernel), fun _ h => absurd h List.not_mem_nil⟩⟩⟩⟩⟩
  · unfold iy_tl
    exact List.forall_mem_cons.mpr ⟨ix_in 737 (by decide +kernel) (by decide +kernel), List.forall_mem_cons.mpr ⟨ix_in 695 (by decide +kernel) (by decide +kernel), List.forall_mem_cons.mpr ⟨ix_in 696 (by decide +kernel) (by decide +kernel), List.forall_mem_cons.mpr ⟨ix_in 703 (by decide +kernel) (by decide +kernel), List.forall_mem_cons.mpr ⟨ix_in 704 (by decide +kernel) (by decide +kernel), List.forall_mem_cons.mpr ⟨ix_in 705 (by decide +kernel) (by decide +kernel), List.forall_mem_cons.mpr ⟨ix_in 707 (by decide +kernel) (by decide +kernel), List.forall_mem_cons.mpr ⟨ix_in 709 (by decide +kernel) (by decide +kernel), List.forall_mem_cons.mpr ⟨ix_in 711 (by decide +kernel) (by decide +kernel), List.forall_mem_cons.mpr ⟨ix_in 715 (by decide +kernel) (by decide +kernel), List.forall_mem_cons.mpr ⟨ix_in 714 (by decide +kernel) (by decide +kernel), List.forall_mem_cons.mpr ⟨ix_in 713 (by decide +kernel) (by decide +kernel), List.forall_mem_cons.mpr ⟨ix_in 71 (by decide +kernel) (by decide +kernel), fun _ h => absurd h List.not_mem_nil⟩⟩⟩⟩⟩⟩⟩⟩⟩⟩⟩⟩⟩
theorem iy_tl1 : iy_TL 55 59 1 := by
  refine ⟨⟨by decide +kernel, by decide +kernel, by decide +kernel, by decide +kernel, by decide +kernel⟩, ?_, ?_, ix_in 762 (by decide +kernel) (by decide +kernel)⟩
  · unfold Bundle.passSAtoms
    exact List.forall_mem_cons.mpr ⟨ix_in 773 (by decide +kernel) (by decide +kernel), List.forall_mem_cons.mpr ⟨ix_in 774 (by decide +kernel) (by decide +kernel), List.forall_mem_cons.mpr ⟨ix_in 775 (by decide +kernel) (by decide +kernel), List.forall_mem_cons.mpr ⟨ix_in 741 (by decide +kernel) (by decide +kernel), List.forall_mem_cons.mpr ⟨ix_in 698 (by decide +kernel) (by decide +kernel), fun _ h => absurd h List.not_mem_nil⟩⟩⟩⟩⟩
  · unfold iy_tl
    exact List.forall_mem_cons.mpr ⟨ix_in 772 (by decide +kernel) (by decide +kernel), List.forall_mem_cons.mpr ⟨ix_in 763 (by decide +kernel) (by decide +kernel), List.forall_mem_cons.mpr ⟨ix_in 764 (by decide +kernel) (by decide +kernel), List.forall_mem_cons.mpr ⟨ix_in 765 (by decide +kernel) (by decide +kernel), List.forall_mem_cons.mpr ⟨ix_in 729 (by decide +kernel) (by decide +kernel), List.forall_mem_cons.mpr ⟨ix_in 766 (by decide +kernel) (by decide +kernel), List.forall_mem_cons.mpr ⟨ix_in 767 (by decide +kernel) (by decide +kernel), List.forall_mem_cons.mpr ⟨ix_in 768 (by decide +kernel) (by decide +kernel), List.forall_mem_cons.mpr ⟨ix_in 769 (by decide +kernel) (by decide +kernel), List.forall_mem_cons.mpr ⟨ix_in 715 (by decide +kernel) (by decide +kernel), List.forall_mem_cons.mpr ⟨ix_in 714 (by decide +kernel) (by decide +kernel), List.forall_mem_cons.mpr ⟨ix_in 770 (by decide +kernel) (by decide +kernel), List.forall_mem_cons.mpr ⟨ix_in 72 (by decide +kernel) (by decide +kernel), fun _ h => absurd h List.not_mem_nil⟩⟩⟩⟩⟩⟩⟩⟩⟩⟩⟩⟩⟩
theorem iy_tl2 : iy_TL 67 71 2 := by
  refine ⟨⟨by decide +kernel, by decide +kernel, by decide +kernel, by decide +kernel, by decide +kernel⟩, ?_, ?_, ix_in 779 (by decide +kernel) (by decide +kernel)⟩
  · unfold Bundle.passSAtoms
    exact List.forall_mem_cons.mpr ⟨ix_in 790 (by decide +kernel) (by decide +kernel), List.forall_mem_cons.mpr ⟨ix_in 791 (by decide +kernel) (by decide +kernel), List.forall_mem_cons.mpr ⟨ix_in 792 (by decide +kernel) (by decide +kernel), List.forall_mem_cons.mpr ⟨ix_in 741 (by decide +kernel) (by decide +kernel), List.forall_mem_cons.mpr ⟨ix_in 698 (by decide +kernel) (by decide +kernel), fun _ h => absurd h List.not_mem_nil⟩⟩⟩⟩⟩
  · unfold iy_tl
    exact List.forall_mem_cons.mpr ⟨ix_in 789 (by decide +kernel) (by decide +kernel), List.forall_mem_cons.mpr ⟨ix_in 780 (by decide +kernel) (by decide +kernel), List.forall_mem_cons.mpr ⟨ix_in 781 (by decide +kernel) (by decide +kernel), List.forall_mem_cons.mpr ⟨ix_in 782 (by decide +kernel) (by decide +kernel), List.forall_mem_cons.mpr ⟨ix_in 727 (by decide +kernel) (by decide +kernel), List.forall_mem_cons.mpr ⟨ix_in 783 (by decide +kernel) (by decide +kernel), List.forall_mem_cons.mpr ⟨ix_in 784 (by decide +kernel) (by decide +kernel), List.forall_mem_cons.mpr ⟨ix_in 785 (by decide +kernel) (by decide +kernel), List.forall_mem_cons.mpr ⟨ix_in 786 (by decide +kernel) (by decide +kernel), List.forall_mem_cons.mpr ⟨ix_in 715 (by decide +kernel) (by decide +kernel), List.forall_mem_cons.mpr ⟨ix_in 714 (by decide +kernel) (by decide +kernel), List.forall_mem_cons.mpr ⟨ix_in 787 (by decide +kernel) (by decide +kernel), List.forall_mem_cons.mpr ⟨ix_in 75 (by decide +kernel) (by decide +kernel), fun _ h => absurd h List.not_mem_nil⟩⟩⟩⟩⟩⟩⟩⟩⟩⟩⟩⟩⟩
theorem iy_tl3 : iy_TL 84 88 3 := by
  refine ⟨⟨by decide +kernel, by decide +kernel, by decide +kernel, by decide +kernel, by decide +kernel⟩, ?_, ?_, ix_in 816 (by decide +kernel) (by decide +kernel)⟩
  · unfold Bundle.passSAtoms
    exact List.forall_mem_cons.mpr ⟨ix_in 827 (by decide +kernel) (by decide +kernel), List.forall_mem_cons.mpr ⟨ix_in 828 (by decide +kernel) (by decide +kernel), List.forall_mem_cons.mpr ⟨ix_in 829 (by decide +kernel) (by decide +kernel), List.forall_mem_cons.mpr ⟨ix_in 741 (by decide +kernel) (by decide +kernel), List.forall_mem_cons.mpr ⟨ix_in 698 (by decide +kernel) (by decide +kernel), fun _ h => absurd h List.not_mem_nil⟩⟩⟩⟩⟩
  · unfold iy_tl
    exact List.forall_mem_cons.mpr ⟨ix_in 826 (by decide +kernel) (by decide +kernel), List.forall_mem_cons.mpr ⟨ix_in 817 (by decide +kernel) (by decide +kernel), List.forall_mem_cons.mpr ⟨ix_in 818 (by decide +kernel) (by decide +kernel), List.forall_mem_cons.mpr ⟨ix_in 819 (by decide +kernel) (by decide +kernel), List.forall_mem_cons.mpr ⟨ix_in 728 (by decide +kernel) (by decide +kernel), List.forall_mem_cons.mpr ⟨ix_in 820 (by decide +kernel) (by decide +kernel), List.forall_mem_cons.mpr ⟨ix_in 821 (by decide +kernel) (by decide +kernel), List.forall_mem_cons.mpr ⟨ix_in 822 (by decide +kernel) (by decide +kernel), List.forall_mem_cons.mpr ⟨ix_in 823 (by decide +kernel) (by decide +kernel), List.forall_mem_cons.mpr ⟨ix_in 715 (by decide +kernel) (by decide +kernel), List.forall_mem_cons.mpr ⟨ix_in 714 (by decide +kernel) (by decide +kernel), List.forall_mem_cons.mpr ⟨ix_in 824 (by decide +kernel) (by decide +kernel), List.forall_mem_cons.mpr ⟨ix_in 76 (by decide +kernel) (by decide +kernel), fun _ h => absurd h List.not_mem_nil⟩⟩⟩⟩⟩⟩⟩⟩⟩⟩⟩⟩⟩
/-! ===== an exception of class k is made with a text, and thrown ===== -/
theorem iy_RefSt {O f d : String} {A : Nat → Prop} {s : State} (h : iy_St O f d A s) {c i a : Nat} {k : Class} {fd : Field} (hf : s.fieldFound? O f d = some (c, k, i, fd)) (ha : k.statics = some a) {H : Heap} (hH : ∀ q : Nat, q < s.heap.size → ¬ A q → H[q]? = s.heap[q]?) : ∃ (cell : Cell) (v : RefV), H[a]? = some cell ∧ cell.vm.isStatics = true ∧ cell.slots[fd.slot]? = some v.v ∧ a < s.heap.size := by
  obtain ⟨c', i', a', k', fd', cell, v, h1, h2, h3, h4, h5, h6, h7, h8, h9, h10, h11⟩ := h
  cases Option.some.inj (h2.symm.trans hf)
  cases Option.some.inj (h4.symm.trans ha)
  have hlt := (Array.getElem?_eq_some_iff.mp h5).1
  exact ⟨cell, v, by rw [hH _ hlt h11]; exact h5, h6, h10, hlt⟩
section IYT
variable {p : Program} {l : Launch} {e : Env} {R : Room} {s : State} {m₀ : MethodId} {args : Array Value} {below : List Frame} {meth : Method} {c : Code} {W0 : State} {locs : List Loc} {cells slots : Nat}
set_option maxHeartbeats 1000000 in
theorem iy_ctor {G : ix_G} {k i ic : Nat} (X : Stand p l e R s m₀ args below meth c W0 locs cells slots) (hexec : p.tables.exec = Jvm.exec) (htr : e.platform.stackTraces = false) (hown : s.vm.findClass "FileDelivery" = some m₀.cls) (hT : iy_TL i ic k) (hts : ∀ w ∈ ix_words, w.before args s = true) (hKT : iy_KT G s)
    (hH : ∀ q : Nat, q < s.heap.size → ¬ ix_A G q → W0.heap[q]? = s.heap[q]?)
    {a : Addr} {cX : ClassId} {kX : Class} (hfoundX : s.vm.findClass (iy_xn k) = some cX) (hkX : s.vm.classes[cX]? = some kX) (hcell : W0.heap[a]? = some (freshCell cX kX)) (hnew : s.heap.size ≤ a)
    {msg : Value} (hmsg : msg.isRef = true)
    {g : JFrame} (hg : g.method = m₀) (hsize : g.locals.size = c.maxLocals) (hlocked : g.locked = none) (hentered : g.entered = []) {rest : List Value} (hstack : g.stack = msg :: .ref a :: .ref a :: rest)
    (hd6 : decode c.code g.pc = .ok (.invokespecial ic, 3)) (hd9 : decode c.code (g.pc + 3) = .ok (.athrow, 1)) (hout : ∀ x ∈ c.exceptionTable.toList, covers x (g.pc + 3) = false)
    (hRframes : 6 ≤ R.frames) (hRlocals : 2 * g.monitorRoom + ((Value.ref a :: rest).map fun v => v.category).sum + 81 ≤ R.locals) (hlocks : meth.locks = false) :
    ∃ U : State, Steps p.tables e below (W0.setTop g) U ∧ U.status = .running ∧ Ended U below (.threw a) ∧ s.WarmedH U.vm ∧ s.sameButNew ({ U with vm := s.vm } : State) locs cells slots ∧
      ∃ ce : Cell, ce.cls = cX ∧ ce.vm = .none ∧ U.heap = W0.heap.setIfInBounds a ce := by
  obtain ⟨⟨hfit, hb0, hb1, hb2, hb5⟩, hpw, htw, -⟩ := hT
  have howns : e.platform.frameOwnsMonitors = true := by rw [X.admits.platform]
  have hfin : e.platform.finalization = false := by rw [X.admits.platform]
  have hpl : e.platform.magicAccessors = ({} : Platform).magicAccessors := by rw [X.admits.platform]
  have tw : ∀ w, w ∈ iy_tl k ic → w.holds args s none s [] = true := fun w hw => hts w (htw w hw)
  obtain ⟨hKU, hKS, -⟩ := hKT
  obtain ⟨T, Z0, L, -, Y⟩ := ThrowableC.of_atoms (args := args) howns hfin hpl (fun w hw => by
    rcases iy_w1 w hw with q | q | q
    · exact hts w q
    · rw [q]; exact hKU.lays args
    · rw [q]; exact hKS.lays args)
  obtain ⟨Z, M, LZ, LM, hnZ⟩ := Init0T.ofS_atoms (args := args) hpl L Y (fun w hw => hts w (iy_w2 w hw))
  obtain ⟨P2, Ps, hlen, L2, hL, hP2m, hlink1, hlink⟩ := Bundle.chainS (args := args) hpl hnZ ["java/lang/Exception"] "java/lang/RuntimeException" (by decide +kernel) (by decide +kernel) (fun w hw => hts w (iy_w3 w hw))
  obtain ⟨P1, L1, hP1m, hP1s⟩ := PassC.ofS_atoms (args := args) (s := s) hpl (X := iy_xn k) (Y := "java/lang/RuntimeException") (Bundle.fit_spec hfit).1 (by decide) hb0 hb1 hb2 hb5 (fun w hw => hts w (hpw w hw))
  have hP12 : P1.sup = P2.m := Option.some.inj (hP1s.symm.trans hP2m)
  have hfound : s.vm.findClass (iy_xn k) = some P1.m.cls := findClass_of_methodNamed hP1m
  cases Option.some.inj (hfoundX.symm.trans hfound)
  obtain ⟨c1, kX', hc1, hk, hord, -, -, hn6⟩ := Cond.instantiable_spec (tw (.instantiable (iy_xn k) 6) (by simp [iy_tl]))
  cases Option.some.inj (hc1.symm.trans hfound)
  cases Option.some.inj (hkX.symm.trans hk)
  have sel : ∀ (y : MethodName) (mi : MethodId), s.methodNamed? y = some mi → (y.cls ≠ "java/lang/invoke/MethodHandle" ∧ y.cls ≠ "java/lang/invoke/VarHandle") → Cond.selects (iy_xn k) y y ∈ iy_tl k ic → selectMethod e.platform s.vm P1.m.cls mi = .method mi := by
    intro y mi hy hne hin
    obtain ⟨c2, r2, m2, q1, q2, q3, q4, -⟩ := Cond.selects_spec (tw _ hin)
    cases Option.some.inj (q1.symm.trans hfound)
    cases Option.some.inj (q2.symm.trans (State.methodFound?_of_named hy hne))
    cases Option.some.inj (q3.symm.trans hy)
    rw [Launch.admits_selectMethod X.admits]
    exact q4
  have hsel0 := sel Bundle.tFill0 T.fill0 Y.fill0 (by decide) (by simp [iy_tl])
  have hselF := sel Bundle.tFill T.fill Y.fill (by decide) (by simp [iy_tl])
  obtain ⟨cellS, u0, hcS, hiS, hu0, hltS⟩ := iy_RefSt hKU Y.unassigned L.statics hH
  obtain ⟨cellS', sen, hcS', hiS', hsen, -⟩ := iy_RefSt hKS Y.sentinel L.statics hH
  cases Option.some.inj (hcS.symm.trans hcS')
  have hknownS : cellS.vm ≠ .unknown := by
    intro hu
    rw [hu] at hiS
    cases hiS
  have hneS : T.aS ≠ a := Nat.ne_of_lt (Nat.lt_of_lt_of_le hltS hnew)
  obtain ⟨ci198, i198, fB, hk198, hg198, ha198, hsB, -, hnB, htB, hffB⟩ := Cond.ownField (t := .object "java/lang/Object") Y.found L.cls (by decide +kernel) (tw (.fieldLink Bundle.tN 198 Bundle.tN "backtrace" "Ljava/lang/Object;") (by simp [iy_tl])) (tw (.lays Bundle.tN Bundle.tN "backtrace" "Ljava/lang/Object;") (by simp [iy_tl])) e.platform hpl
  obtain ⟨iM, hffM⟩ := Y.msg
  obtain ⟨tyC, dC, hdC, hdnC⟩ := Cond.laysAt hfound hk Y.cause (tw (.lays (iy_xn k) Bundle.tN "cause" "Ljava/lang/Throwable;") (by simp [iy_tl]))
  obtain ⟨tyS, dS, hdS, hdnS⟩ := Cond.laysAt hfound hk Y.stack (tw (.lays (iy_xn k) Bundle.tN "stackTrace" Bundle.steD) (by simp [iy_tl]))
  obtain ⟨tyP, dP, hdP, hdnP⟩ := Cond.laysAt hfound hk Y.supp (tw (.lays (iy_xn k) Bundle.tN "suppressedExceptions" Bundle.listD) (by simp [iy_tl]))
  obtain ⟨tyM, dM, hdM, hdnM⟩ := Cond.laysAt hfound hk hffM (tw (.lays (iy_xn k) Bundle.tN "detailMessage" "Ljava/lang/String;") (by simp [iy_tl]))
  obtain ⟨tyB, dB, hdB, hdnB⟩ := Cond.laysAt hfound hk hffB (tw (.lays (iy_xn k) Bundle.tN "backtrace" "Ljava/lang/Object;") (by simp [iy_tl]))
  have bC := Cond.laysApart hdB hdC hdnB hdnC (by rw [hnB, Y.causeName]; decide)
  have bS := Cond.laysApart hdB hdS hdnB hdnS (by rw [hnB, Y.stackName]; decide)
  have bP := Cond.laysApart hdB hdP hdnB hdnP (by rw [hnB, Y.suppName]; decide)
  have hskip : SkipFacts T e.platform s (fun u => u) u0 ((preparedCellV T.toThrowableT (freshCell P1.m.cls kX) a u0 sen).withEntry W0.cur) :=
    ⟨{ ci198 := ci198, i198 := i198, fBack := fB }, ⟨hk198, hg198, ha198, hsB⟩, by
      have := fresh_default (c := P1.m.cls) tyB
      rw [htB] at this
      simpa [preparedCellV, Cell.setSlot, Cell.withEntry, Array.getElem?_setIfInBounds, bC, bS, bP, bC.symm, bS.symm, bP.symm, defaultValue] using this, fun _ _ => rfl⟩
  obtain ⟨tm, methC, cdC, kC, vm₁, hnC, -, -, -, -, -, -, -, hW₁, st1⟩ := Steps.initColdS (tb := p.tables) (e := e) (below := below) (s := s) (U := W0) X.here hexec X.warmed hpl hown (t := Bundle.initS (iy_xn k)) rfl rfl (Bundle.fit_spec hfit).2
    (tw (.methodLink "FileDelivery" ic (Bundle.initS (iy_xn k))) (by simp [iy_tl])) (hts _ (hpw (.instanceMethod (Bundle.initS (iy_xn k))) (by simp [Bundle.passSAtoms]))) (bytes := iy_bs k) (maxL := 2) (hts _ (hpw (.code (Bundle.initS (iy_xn k)) (iy_bs k) 2 none) (by simp [Bundle.passSAtoms])))
    (f := g) hg (a := a) (msg := msg) (rest := .ref a :: rest) hstack hd6
  cases Option.some.inj (hnC.symm.trans hP1m)
  have X₁ := X.noted hW₁
  have hPlen : (P1 :: P2 :: Ps).length = 3 := by simp [hlen]
  obtain ⟨vm₂, X₂, st2⟩ := X₁.ctorMessageOffV hexec (g := { g with stack := .ref a :: rest }) hg hsize T L Z LZ M LM (P1 :: P2 :: Ps)
    (fun P hP => by
      rcases List.mem_cons.mp hP with rfl | hP
      · exact L1
      · rcases List.mem_cons.mp hP with rfl | hP
        · exact L2
        · exact hL P hP) ⟨hP12, hlink1, hlink⟩ (u0 := u0) (sen := sen) (self := a) hmsg (cell := freshCell P1.m.cls kX) (cellS := cellS)
    hcell (fun _ => by simp) (by simp) rfl rfl hsel0 hselF hcS hneS hknownS hu0 hsen
    (Takes.of_laid hk hord tyC (by rw [Y.causeType]; rfl)) (Takes.of_laid hk hord tyS (by rw [Y.stackType]; exact fits_refV_array _ u0)) (Takes.of_laid hk hord tyP (by rw [Y.suppType]; exact fits_refV_object _ sen))
    (Takes.of_laid hk hord tyM (by rw [Y.msgType]; exact fits_refV_object _ ⟨msg, hmsg⟩)) Y.objLocals hskip htr [] hd6
    (by rw [hPlen]; omega) (by rw [hPlen]; exact hRlocals)
  obtain ⟨hwalk, hrun, hended, hWU, hsame⟩ := X₂.athrowLeaves hexec (g := { g with stack := .ref a :: rest, pc := g.pc + 3 }) hg hlocked hentered hout (a := a) (rest := rest) rfl hd9 hlocks
  refine ⟨_, st1 _ (fun acts => ?_), hrun, hended, hWU, hsame.weaken (fun y hy hlt' => ?_) (Nat.le_refl _) (Nat.le_refl _), plainBareV T.toThrowableT (freshCell P1.m.cls kX) a u0 sen msg, rfl, rfl, rfl⟩
  · rw [doInvoke_state]
    exact st2 _ hwalk
  · rcases List.mem_append.mp hy with h1 | h1
    · exact h1
    · exfalso
      have hb : y.base = a := by
        simp only [List.mem_cons, List.not_mem_nil, or_false] at h1
        rcases h1 with rfl | rfl | rfl | rfl | rfl <;> rfl
      rw [hb] at hlt'
      exact Nat.not_lt.mpr hnew hlt'
end IYT

