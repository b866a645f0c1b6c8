theorem er_map {f : Nat → Nat} {L : List Nat} : ∀ {i : Nat}, (L.map f).eraseIdx i = (L.eraseIdx i).map f := by
  induction L with
  | nil => intro i; rfl
  | cons a L ih =>
    intro i
    cases i with
    | zero => rfl
    | succ i => simp [ih]
theorem er_mid {P Q : List Nat} {t : Nat} : ((P ++ [t]) ++ Q).eraseIdx P.length = P ++ Q := by
  induction P with
  | nil => rfl
  | cons a P ih => simpa using ih
theorem i_dec (a : Int32) : a + Int32.ofInt (-1) = a - 1 := by rw [Int32.sub_eq_add_neg]; rfl
theorem nI_m1lt : nI 0 - 1 < 0 := by decide
/-- the list of one entity, replaced -/
def upL (Lo : Nat → List Nat) (e : Nat) (L : List Nat) : Nat → List Nat := fun k => if k = e then L else Lo k
theorem upL_s {Lo : Nat → List Nat} {e : Nat} {L : List Nat} : upL Lo e L e = L := if_pos rfl
theorem upL_o {Lo : Nat → List Nat} {e k : Nat} {L : List Nat} (h : k ≠ e) : upL Lo e L k = Lo k := if_neg h
theorem upL_i {Lo : Nat → List Nat} {e : Nat} : upL Lo e (Lo e) = Lo := funext fun k => by
  unfold upL
  split
  · rename_i q; rw [q]
  · rfl
theorem lsO.po {x e i D : Nat} {h h' : ix_H} (p : lsO (cLs x e i) D h h') (h1 : cCl h x (cLs x e i)) (h2 : cCl h x D) : cPo x h h' 0 0 := ⟨⟨by rw [p.2.2.1]; exact Nat.le_refl _, fun b _ hm => ⟨p.1 b (fun z => h1 (by rw [← z]; exact hm)) (fun z => h2 (by rw [← z]; exact hm)), fun j => p.2.2.2.2 b j⟩⟩, by rw [p.2.2.1]; omega, by rw [p.2.2.2.1]; exact Nat.le_refl _, by rw [p.2.2.2.1]; omega⟩
def opb (S : MS) (t : Nat) : Bool := decide (S 13 t = nI 5)
def orb (S : MS) (t : Nat) : Bool := decide (S 23 t = nI 5 ∨ S 23 t = nI 6)
set_option maxRecDepth 100000 in
set_option maxHeartbeats 4000000 in
/-- Side.forgetClosed: the senders -/
theorem s57_s {G : ix_G} {x : Nat} {S : MS} {T A R U D : Nat → Nat} {e : Nat} {Lo Lr : Nat → List Nat} {Z : ix_O → ix_H → Prop} (I : mInv S) (he : e < 2) :
    ∀ (n : Nat) (P Q : List Nat), P.length = n → ∀ h, cRel h x S T A R U D (upL Lo e (P ++ Q)) Lr → (∀ h', cPo x h h' 0 0 → cRel h' x S T A R U D (upL Lo e (P.filter (opb S) ++ Q)) Lr → ∀ (lv : List (Nat × Value)), lv.lookup 0 = some (.ref (cS0 x e)) → ix_E G 57 46 lv [] h' Z) → ∀ (lv : List (Nat × Value)), lv.lookup 0 = some (.ref (cS0 x e)) → lv.lookup 1 = some (.int (nI n - 1)) → ix_E G 57 10 lv [] h Z := by
  intro n
  induction n with
  | zero =>
    intro P Q hP h C kk lv q0 q1
    have eP : P = [] := List.length_eq_zero_iff.mp hP
    subst eP
    refine ie_iload_n d57_10 q1 ?_
    refine ie_if_lt 46 d57_11 (by decide) (fun _ => ?_) (fun z => absurd nI_m1lt z)
    exact kk h cPo.rfl C lv q0
  | succ n ih =>
    intro P Q hP h C kk lv q0 q1
    rw [nI_sub1 (by omega), Nat.add_sub_cancel] at q1
    obtain ⟨P', t, eP⟩ : ∃ P' t, P = P' ++ [t] := by
      rcases List.eq_nil_or_concat P with w | ⟨P', t, w⟩
      · rw [w] at hP; simp at hP
      · exact ⟨P', t, by rw [w, List.concat_eq_append]⟩
    subst eP
    have hP' : P'.length = n := by simpa using hP
    have F := C.fx.2.2.2.2.2.2.2.2.2 e he
    have hs5 := F.2.1
    obtain ⟨l0, l1, l2⟩ := C.ll.1 e he
    have W := C.rw e he
    have nL := l1.n
    rw [List.length_map, upL_s] at nL
    have lt := (F.2.2.2.1 1 (by decide))
    have hn : n < ((P' ++ [t]) ++ Q).length := by simp; omega
    have hget : ((P' ++ [t]) ++ Q)[n]? = some t := by
      rw [List.append_assoc, List.getElem?_append_right (by omega), hP', Nat.sub_self]
      rfl
    have hm : t ∈ (P' ++ [t]) ++ Q := List.mem_of_getElem? hget
    have hbA : ((upL Lo e ((P' ++ [t]) ++ Q) e).map A)[n]? = some (A t) := by rw [upL_s, List.getElem?_map, hget]; rfl
    have hv := (W.1 t (by rw [upL_s]; exact hm)).1
    have c2 := (C.tx hv).2.1
    have t15 : ix_i h (A t) 15 = 0 ↔ S 13 t = nI 5 := by
      by_cases w : S 13 t = nI 5
      · exact ⟨fun _ => w, fun _ => (c2.2.2.2.2.2.2.1 w).1⟩
      · refine ⟨fun z => ?_, fun z => absurd z w⟩
        rw [c2.2.2.2.2.2.2.2 w] at z
        obtain ⟨q, q1, q2, q3⟩ := (I.T hv).2.2.2.2.2.1
        rw [q3] at z
        exact absurd z (nI_ne0 (by omega) (by omega))
    refine ie_iload_n d57_10 q1 ?_
    refine ie_if_lt 46 d57_11 (by decide) (fun z => absurd z (nI_pos (by omega))) (fun _ => ?_)
    refine ie_aload_n d57_14 q0 ?_
    refine ie_getr _ d57_15 fl2_23 hs5 lt.1 ?_
    refine ie_iload_n d57_18 q1 ?_
    refine ie_callVx [_] d57_19 ok21 rm57_21 cl2_37 rfl rfl (Nat.le_of_ble_eq_true rfl) (Nat.le_of_ble_eq_true rfl) lt.2 (s21L lt.2 l1 hbA) ?_
    refine ie_cast (k := 3) d57_22 (by decide) rfl lkc_41 cst_S c2.2.1 ?_
    refine ie_callVx [] d57_25 ok26 rm57_26 cl2_64 rfl rfl (Nat.le_of_ble_eq_true rfl) (Nat.le_of_ble_eq_true rfl) c2.2.1 (s26 c2.2.1) ?_
    refine ie_if_ne 40 d57_28 (by decide) (fun c28 => ?_) (fun c28 => ?_)
    · have op : opb S t = true := decide_eq_true (t15.mp (Classical.byContradiction fun z => c28 (bI_0.mpr z)))
      refine ie_iinc (nI n - 1) d57_40 q1 (i_dec _) (by decide) ?_
      refine ie_goto 10 d57_43 (by decide) ?_
      refine ih P' (t :: Q) hP' h (by rw [List.append_assoc] at C; exact C) (fun h' p' C' => kk h' p' ?_) _ (ix_lk3 (by decide) q0 rfl) ix_lk1
      rw [List.filter_append, List.filter_cons, if_pos op, List.filter_nil, List.append_assoc]
      exact C'
    · have nop : ¬ S 13 t = nI 5 := fun z => (bI_0.mp c28) (t15.mpr z)
      have op : opb S t = false := decide_eq_false nop
      have h7 : ix_tg h (D (3 * e + 1)) = 107 := l1.ne (by rw [List.length_map, upL_s]; omega)
      refine ie_aload_n d57_31 q0 ?_
      refine ie_getr _ d57_32 fl2_23 hs5 lt.1 ?_
      refine ie_iload_n d57_35 q1 ?_
      refine ie_callV [_] d57_36 ok58 rm57_58 cl2_68 rfl rfl (Nat.le_of_ble_eq_true rfl) (Nat.le_of_ble_eq_true rfl) lt.2 (s58 lt.2 h7 l1 (by rw [List.length_map, upL_s]; exact hn) (fun b hb => ?_)) (fun rv h1 hq => ?_)
      · obtain ⟨t', m1, m2⟩ := List.mem_map.mp hb
        subst m2
        exact Or.inl (C.tx (W.1 t' m1).1).2.1.2.1
      · obtain ⟨⟨bb, e1⟩, p1, Cl⟩ := hq
        subst e1
        rw [upL_s, er_map, show n = P'.length from hP'.symm, er_mid] at Cl
        have P1 : cPo x h h1 0 0 := p1.po (cCl_of (k := 10) lt.2 (by decide)) (cCl_of h7 (by decide))
        have C1 : cRel h1 x S T A R U D (upL Lo e (P' ++ Q)) Lr := by
          refine cRel_ls (e := e) (i := 1) I C he (by decide) p1.1 p1.2.1 p1.2.2.1 h7 (fun z => absurd z (by decide)) (fun _ => by rw [upL_s]; exact Cl) (fun z => absurd z (by decide)) (fun k _ hk => ?_) (fun k _ hk => ?_) ?_
          · rw [upL_o (fun z => hk ⟨z, rfl⟩), upL_o (fun z => hk ⟨z, rfl⟩)]
          · rfl
          · have er := cRw_erS (i := P'.length) (t := t) C.rw (by rw [upL_s, hP']; exact hget) nop
            rw [upL_s, er_mid] at er
            refine Eq.mp ?_ er
            congr 1
            funext k
            unfold upL
            by_cases q : k = e
            · simp only [if_pos q]
            · simp only [if_neg q]
        refine ie_pop d57_39 rfl ?_
        refine ie_iinc (nI n - 1) d57_40 q1 (i_dec _) (by decide) ?_
        refine ie_goto 10 d57_43 (by decide) ?_
        refine ih P' Q hP' h1 C1 (fun h' p' C' => kk h' (P1.tr p') ?_) _ (ix_lk3 (by decide) q0 rfl) ix_lk1
        rw [List.filter_append, List.filter_cons, if_neg (by rw [op]; decide), List.filter_nil, List.append_nil]
        exact C'
set_option maxRecDepth 100000 in
set_option maxHeartbeats 4000000 in
/-- Side.forgetClosed: the receivers -/
theorem s57_r {G : ix_G} {x : Nat} {S : MS} {T A R U D : Nat → Nat} {e : Nat} {Lo Lr : Nat → List Nat} {Z : ix_O → ix_H → Prop} (I : mInv S) (he : e < 2) :
    ∀ (n : Nat) (P Q : List Nat), P.length = n → ∀ h, cRel h x S T A R U D Lo (upL Lr e (P ++ Q)) → (∀ h', cPo x h h' 0 0 → cRel h' x S T A R U D Lo (upL Lr e (P.filter (orb S) ++ Q)) → ∀ (lv : List (Nat × Value)), lv.lookup 0 = some (.ref (cS0 x e)) → ix_E G 57 92 lv [] h' Z) → ∀ (lv : List (Nat × Value)), lv.lookup 0 = some (.ref (cS0 x e)) → lv.lookup 1 = some (.int (nI n - 1)) → ix_E G 57 56 lv [] h Z := by
  intro n
  induction n with
  | zero =>
    intro P Q hP h C kk lv q0 q1
    have eP : P = [] := List.length_eq_zero_iff.mp hP
    subst eP
    refine ie_iload_n d57_56 q1 ?_
    refine ie_if_lt 92 d57_57 (by decide) (fun _ => ?_) (fun z => absurd nI_m1lt z)
    exact kk h cPo.rfl C lv q0
  | succ n ih =>
    intro P Q hP h C kk lv q0 q1
    rw [nI_sub1 (by omega), Nat.add_sub_cancel] at q1
    obtain ⟨P', t, eP⟩ : ∃ P' t, P = P' ++ [t] := by
      rcases List.eq_nil_or_concat P with w | ⟨P', t, w⟩
      · rw [w] at hP; simp at hP
      · exact ⟨P', t, by rw [w, List.concat_eq_append]⟩
    subst eP
    have hP' : P'.length = n := by simpa using hP
    have F := C.fx.2.2.2.2.2.2.2.2.2 e he
    have hs5 := F.2.1
    obtain ⟨l0, l1, l2⟩ := C.ll.1 e he
    have W := C.rw e he
    have nL := l2.n
    rw [List.length_map, upL_s] at nL
    have lt := (F.2.2.2.1 2 (by decide))
    have hn : n < ((P' ++ [t]) ++ Q).length := by simp; omega
    have hget : ((P' ++ [t]) ++ Q)[n]? = some t := by
      rw [List.append_assoc, List.getElem?_append_right (by omega), hP', Nat.sub_self]
      rfl
    have hm : t ∈ (P' ++ [t]) ++ Q := List.mem_of_getElem? hget
    have hbA : ((upL Lr e ((P' ++ [t]) ++ Q) e).map R)[n]? = some (R t) := by rw [upL_s, List.getElem?_map, hget]; rfl
    obtain ⟨hv, -, h23⟩ := W.2.1 t (by rw [upL_s]; exact hm)
    have c2 := (C.tx hv).2.2 h23
    have t12 : ix_i h (R t) 12 = 0 ↔ opR S t := by
      by_cases w : opR S t
      · exact ⟨fun _ => w, fun _ => c2.2.2.2.2.2.2.2.2.2.2.2.2.1 w⟩
      · refine ⟨fun z => ?_, fun z => absurd z w⟩
        rw [(c2.2.2.2.2.2.2.2.2.2.2.2.1 w).1] at z
        exact absurd z (by decide)
    refine ie_iload_n d57_56 q1 ?_
    refine ie_if_lt 92 d57_57 (by decide) (fun z => absurd z (nI_pos (by omega))) (fun _ => ?_)
    refine ie_aload_n d57_60 q0 ?_
    refine ie_getr _ d57_61 fl2_26 hs5 lt.1 ?_
    refine ie_iload_n d57_64 q1 ?_
    refine ie_callVx [_] d57_65 ok21 rm57_21 cl2_37 rfl rfl (Nat.le_of_ble_eq_true rfl) (Nat.le_of_ble_eq_true rfl) lt.2 (s21L lt.2 l2 hbA) ?_
    refine ie_cast (k := 2) d57_68 (by decide) rfl lkc_56 cst_R c2.2.1 ?_
    refine ie_geti (k := 2) d57_71 fl2_71 c2.2.1 ?_
    refine ie_if_eq 86 d57_74 (by decide) (fun c74 => ?_) (fun c74 => ?_)
    · have op : orb S t = true := decide_eq_true (t12.mp c74)
      refine ie_iinc (nI n - 1) d57_86 q1 (i_dec _) (by decide) ?_
      refine ie_goto 56 d57_89 (by decide) ?_
      refine ih P' (t :: Q) hP' h (by rw [List.append_assoc] at C; exact C) (fun h' p' C' => kk h' p' ?_) _ (ix_lk3 (by decide) q0 rfl) ix_lk1
      rw [List.filter_append, List.filter_cons, if_pos op, List.filter_nil, List.append_assoc]
      exact C'
    · have nop : ¬ opR S t := fun z => c74 (t12.mpr z)
      have op : orb S t = false := decide_eq_false nop
      have h7 : ix_tg h (D (3 * e + 2)) = 107 := l2.ne (by rw [List.length_map, upL_s]; omega)
      refine ie_aload_n d57_77 q0 ?_
      refine ie_getr _ d57_78 fl2_26 hs5 lt.1 ?_
      refine ie_iload_n d57_81 q1 ?_
      refine ie_callV [_] d57_82 ok58 rm57_58 cl2_68 rfl rfl (Nat.le_of_ble_eq_true rfl) (Nat.le_of_ble_eq_true rfl) lt.2 (s58 lt.2 h7 l2 (by rw [List.length_map, upL_s]; exact hn) (fun b hb => ?_)) (fun rv h1 hq => ?_)
      · obtain ⟨t', m1, m2⟩ := List.mem_map.mp hb
        subst m2
        obtain ⟨v', -, z'⟩ := W.2.1 t' m1
        exact Or.inr ((C.tx v').2.2 z').2.1
      · obtain ⟨⟨bb, e1⟩, p1, Cl⟩ := hq
        subst e1
        rw [upL_s, er_map, show n = P'.length from hP'.symm, er_mid] at Cl
        have P1 : cPo x h h1 0 0 := p1.po (cCl_of (k := 10) lt.2 (by decide)) (cCl_of h7 (by decide))
        have C1 : cRel h1 x S T A R U D Lo (upL Lr e (P' ++ Q)) := by
          refine cRel_ls (e := e) (i := 2) I C he (by decide) p1.1 p1.2.1 p1.2.2.1 h7 (fun z => absurd z (by decide)) (fun z => absurd z (by decide)) (fun _ => by rw [upL_s]; exact Cl) (fun k _ hk => ?_) (fun k _ hk => ?_) ?_
          · rfl
          · rw [upL_o (fun z => hk ⟨z, rfl⟩), upL_o (fun z => hk ⟨z, rfl⟩)]
          · have er := cRw_erR (i := P'.length) (t := t) C.rw (by rw [upL_s, hP']; exact hget) nop
            rw [upL_s, er_mid] at er
            refine Eq.mp ?_ er
            congr 1
            funext k
            unfold upL
            by_cases q : k = e
            · simp only [if_pos q]
            · simp only [if_neg q]
        refine ie_pop d57_85 rfl ?_
        refine ie_iinc (nI n - 1) d57_86 q1 (i_dec _) (by decide) ?_
        refine ie_goto 56 d57_89 (by decide) ?_
        refine ih P' Q hP' h1 C1 (fun h' p' C' => kk h' (P1.tr p') ?_) _ (ix_lk3 (by decide) q0 rfl) ix_lk1
        rw [List.filter_append, List.filter_cons, if_neg (by rw [op]; decide), List.filter_nil, List.append_nil]
        exact C'
set_option maxRecDepth 100000 in
set_option maxHeartbeats 4000000 in
/-- Side.forgetClosed -/
theorem s57 {G : ix_G} {x : Nat} {S : MS} {T A R U D : Nat → Nat} {e : Nat} {h : ix_H} {Lo Lr : Nat → List Nat} (I : mInv S) (C : cRel h x S T A R U D Lo Lr) (he : e < 2) : ix_E G 57 0 (lv_args 0 [.ref (cS0 x e)]) [] h (fun r h' => r = none ∧ cPo x h h' 0 0 ∧ cRel h' x S T A R U D (upL Lo e ((Lo e).filter (opb S))) (upL Lr e ((Lr e).filter (orb S)))) := by
  have F := C.fx.2.2.2.2.2.2.2.2.2 e he
  obtain ⟨l0, l1, l2⟩ := C.ll.1 e he
  have lt1 := (F.2.2.2.1 1 (by decide))
  refine ie_aload_n d57_0 rfl ?_
  refine ie_getr _ d57_1 fl2_23 F.2.1 lt1.1 ?_
  refine ie_callVx [] d57_4 ok20 rm57_20 cl2_33 rfl rfl (Nat.le_of_ble_eq_true rfl) (Nat.le_of_ble_eq_true rfl) lt1.2 (s20 lt1.2) ?_
  rw [l1.2.1, List.length_map]
  refine ie_iconst 1 d57_7 (by decide) ?_
  refine ie_isub d57_8 ?_
  refine ie_istore_n d57_9 (by decide) ?_
  refine s57_s (Lo := Lo) I he (Lo e).length (Lo e) [] rfl h (by rw [List.append_nil, upL_i]; exact C) (fun h1 p1 C1 lv q0 => ?_) _ rfl rfl
  rw [List.append_nil] at C1
  have F1 := C1.fx.2.2.2.2.2.2.2.2.2 e he
  obtain ⟨m0', m1, m2⟩ := C1.ll.1 e he
  have lt2 := (F1.2.2.2.1 2 (by decide))
  refine ie_aload_n d57_46 q0 ?_
  refine ie_getr _ d57_47 fl2_26 F1.2.1 lt2.1 ?_
  refine ie_callVx [] d57_50 ok20 rm57_20 cl2_33 rfl rfl (Nat.le_of_ble_eq_true rfl) (Nat.le_of_ble_eq_true rfl) lt2.2 (s20 lt2.2) ?_
  rw [m2.2.1, List.length_map]
  refine ie_iconst 1 d57_53 (by decide) ?_
  refine ie_isub d57_54 ?_
  refine ie_istore_n d57_55 (by decide) ?_
  refine s57_r (Lr := Lr) I he (Lr e).length (Lr e) [] rfl h1 (by rw [List.append_nil, upL_i]; exact C1) (fun h2 p2 C2 lv q0 => ?_) _ (ix_lk3 (by decide) q0 rfl) ix_lk1
  rw [List.append_nil] at C2
  exact ie_vret d57_92 rfl ⟨rfl, p1.tr p2, C2⟩
