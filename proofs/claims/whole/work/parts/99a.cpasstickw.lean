/-- .. of one entity -/
def cAl1 (S : MS) (Lo Lr : Nat → List Nat) (e : Nat) : Prop := (∀ t, t ∈ Lo e → S 13 t = nI 5) ∧ ∀ t, t ∈ Lr e → opR S t
theorem cAl1.S {S : MS} {Lo Lr : Nat → List Nat} {e : Nat} (L : cAl1 S Lo Lr e) (W : cRw S Lo Lr) (he : e < 2) : rowL S 40 42 e = Lo e := by
  rw [(W e he).2.2.2.2.1]
  exact List.filter_eq_self.mpr (fun t ht => by simp [L.1 t ht])
theorem cAl1.R {S : MS} {Lo Lr : Nat → List Nat} {e : Nat} (L : cAl1 S Lo Lr e) (W : cRw S Lo Lr) (he : e < 2) : rowL S 41 43 e = Lr e := by
  rw [(W e he).2.2.2.2.2]
  exact List.filter_eq_self.mpr (fun t ht => decide_eq_true (L.2 t ht))
theorem tS_23 {e : Nat} (he : e < 2) : ∀ (z k : Nat) (S : MS), I3 S → tS fW e z k S 23 = S 23 := by
  intro z
  induction z with
  | zero => intro k S _; rfl
  | succ z ih =>
    intro k S I
    unfold tS
    split
    · rfl
    · rename_i hk
      have hk2 : k < cP 42 S e := by unfold cP; omega
      obtain ⟨t, a1, a2, a3, a4, a5, a6, a7⟩ := rowS I.1 he hk2
      rw [a2, ih _ _ ⟨fW_inv I.1 a4 a5, iK_work I.2.1 I.1 a4 a5, iE_work I.2.2 I.1 a4 a5⟩]
      exact (wfr_work : wfr S (fW S t) t).1 23 (by decide)
set_option maxRecDepth 100000 in
set_option maxHeartbeats 4000000 in
/-- Side.passTick: the senders -/
theorem s30_s {G : ix_G} {x : Nat} {T A R D : Nat → Nat} {Lo Lr : Nat → List Nat} {e : Nat} {now : Int32} {Z : ix_O → ix_H → Prop} (he : e < 2) :
    ∀ (z : Nat) (P Q : List Nat) (S : MS) (h : ix_H) (U : Nat → Nat), P ++ Q = Lo e → Q.length < z → I3 S → S 2 0 = now → cRel h x S T A R U D Lo Lr → (∀ t, t ∈ Q → S 13 t = nI 5) → (∀ (h' : ix_H) (U' : Nat → Nat), cPo x h h' Q.length (6 * Q.length) → I3 (tS fW e z (P.filter (opb S)).length S) → tS fW e z (P.filter (opb S)).length S 2 0 = now → cRel h' x (tS fW e z (P.filter (opb S)).length S) T A R U' D Lo Lr → ∀ (lv : List (Nat × Value)), lv.lookup 0 = some (.ref (cS0 x e)) → lv.lookup 1 = some (.int now) → ix_E G 30 33 lv [] h' Z) → ∀ (lv : List (Nat × Value)), lv.lookup 0 = some (.ref (cS0 x e)) → lv.lookup 1 = some (.int now) → lv.lookup 2 = some (.int (nI P.length)) → ix_E G 30 2 lv [] h Z := by
  intro z
  induction z with
  | zero => intro P Q S h U _ h2; omega
  | succ z ih =>
    intro P Q S h U hPQ hz I hnow C hQ kk lv q0 q1 q2
    have F := C.fx.2.2.2.2.2.2.2.2.2 e he
    have hs5 := F.2.1
    obtain ⟨l0, l1, l2⟩ := C.ll.1 e he
    have W := C.rw e he
    have nL := l1.n
    rw [List.length_map, ← hPQ, List.length_append] at nL
    have lt := (F.2.2.2.1 1 (by decide))
    have hQf : Q.filter (opb S) = Q := List.filter_eq_self.mpr (fun t ht => decide_eq_true (hQ t ht))
    have hrow : rowL S 40 42 e = P.filter (opb S) ++ Q := by
      rw [W.2.2.2.2.1, ← hPQ]
      show List.filter (opb S) (P ++ Q) = _
      rw [List.filter_append, hQf]
    refine ie_iload_n d30_2 q2 ?_
    refine ie_aload_n d30_3 q0 ?_
    refine ie_getr _ d30_4 fl2_23 hs5 lt.1 ?_
    refine ie_callVx [] d30_7 ok20 rm30_20 cl2_33 rfl rfl (Nat.le_of_ble_eq_true rfl) (Nat.le_of_ble_eq_true rfl) lt.2 (s20 lt.2) ?_
    rw [l1.2.1, List.length_map, ← hPQ, List.length_append]
    refine ie_icmp_ge 33 d30_10 (by decide) (fun c => ?_) (fun c => ?_)
    · rw [nI_leI (by omega) (by omega)] at c
      have eQ : Q = [] := List.length_eq_zero_iff.mp (by omega)
      subst eQ
      rw [List.append_nil] at hrow
      have eT := tS_nil (z := z + 1) hrow rfl
      rw [eT] at kk
      exact kk h U (cPo.rfl.m (by omega) (by omega)) I hnow C lv q0 q1
    · rw [nI_leI (by omega) (by omega)] at c
      match Q, hPQ, hz, hQ, hQf, hrow, nL, c, kk with
      | [], _, _, _, _, _, _, c, _ => simp at c
      | t :: Q, hPQ, hz, hQ, hQf, hrow, nL, c, kk =>
        have hm : t ∈ Lo e := by rw [← hPQ]; simp
        have ho : S 13 t = nI 5 := hQ t (by simp)
        have nd : (P ++ t :: Q).Nodup := by rw [hPQ]; exact W.2.2.1
        have ndt : t ∉ P ∧ t ∉ Q := by
          rw [List.nodup_append] at nd
          refine ⟨fun y => nd.2.2 t y t (by simp) rfl, (List.nodup_cons.mp nd.2.1).1⟩
        have hv := (W.1 t hm).1
        have hget : (Lo e)[P.length]? = some t := by rw [← hPQ, List.getElem?_append_right (Nat.le_refl _), Nat.sub_self]; rfl
        have hbA : ((Lo e).map A)[P.length]? = some (A t) := by rw [List.getElem?_map, hget]; rfl
        have c2 := (C.tx hv).2.1
        have I' : I3 (fW S t) := ⟨fW_inv I.1 hv ho, iK_work I.2.1 I.1 hv ho, iE_work I.2.2 I.1 hv ho⟩
        have FR := (wfr_work : wfr S (fW S t) t)
        have eT := tS_cons (z := z) hrow rfl
        refine ie_aload_n d30_13 q0 ?_
        refine ie_getr _ d30_14 fl2_23 hs5 lt.1 ?_
        refine ie_iload_n d30_17 q2 ?_
        refine ie_callVx [_] d30_18 ok21 rm30_21 cl2_37 rfl rfl (Nat.le_of_ble_eq_true rfl) (Nat.le_of_ble_eq_true rfl) lt.2 (s21L lt.2 l1 hbA) ?_
        refine ie_cast (k := 3) d30_21 (by decide) rfl lkc_41 cst_S c2.2.1 ?_
        refine ie_callV [] d30_24 ok31 rm30_31 cl2_53 rfl rfl (Nat.le_of_ble_eq_true rfl) (Nat.le_of_ble_eq_true rfl) c2.2.1 (s31 I.1 I.2.1 C hv ho) (fun rv h2 hq => ?_)
        obtain ⟨e1, p1, U2, C2⟩ := hq
        subst e1
        refine ie_iinc (nI (P.length + 1)) d30_27 q2 (nI_1 _) (by decide) ?_
        refine ie_goto 2 d30_30 (by decide) ?_
        have eP : (P ++ [t]).filter (opb (fW S t)) = P.filter (opb S) ++ (if opb (fW S t) t = true then [t] else []) := by
          rw [List.filter_append, List.filter_cons, List.filter_nil]
          congr 1
          refine List.filter_congr (fun y hy => ?_)
          have ny : y ≠ t := fun w => ndt.1 (by rw [← w]; exact hy)
          unfold opb
          rw [show fW S t 13 y = S 13 y from FR.2 13 (by decide) (by decide) y ny]
        have eL : ((P ++ [t]).filter (opb (fW S t))).length = if fW S t 13 t = nI 5 then (P.filter (opb S)).length + 1 else (P.filter (opb S)).length := by
          rw [eP, List.length_append]
          by_cases w : fW S t 13 t = nI 5
          · rw [if_pos w, if_pos (show opb (fW S t) t = true from decide_eq_true w)]; rfl
          · rw [if_neg w, if_neg (by unfold opb; rw [decide_eq_false w]; decide)]; rfl
        refine ih (P ++ [t]) Q (fW S t) h2 U2 (by rw [List.append_assoc]; exact hPQ) (by simpa using hz) I' ((congrFun (FR.1 2 (by decide)) 0).trans hnow) C2 (fun y hy => ?_) (fun h' U' p' I2 n2 C3 => ?_) _ (ix_lk3 (by decide) q0 rfl) (ix_lk3 (by decide) q1 rfl) (by rw [List.length_append]; exact ix_lk1)
        · have ny : y ≠ t := fun w => ndt.2 (by rw [← w]; exact hy)
          have := hQ y (by simp [hy])
          rw [show fW S t 13 y = S 13 y from FR.2 13 (by decide) (by decide) y ny]
          exact this
        · rw [eL, ← eT] at I2 n2 C3
          exact kk h' U' ((p1.tr p').m (by simp; omega) (by simp; omega)) I2 n2 C3
set_option maxRecDepth 100000 in
set_option maxHeartbeats 4000000 in
/-- Side.passTick: the receivers -/
theorem s30_r {G : ix_G} {x : Nat} {T A R D : Nat → Nat} {Lo Lr : Nat → List Nat} {e : Nat} {now : Int32} {Z : ix_O → ix_H → Prop} (he : e < 2) :
    ∀ (z : Nat) (P Q : List Nat) (S : MS) (h : ix_H) (U : Nat → Nat), P ++ Q = Lr e → Q.length < z → I3 S → S 2 0 = now → cRel h x S T A R U D Lo Lr → (∀ t, t ∈ Q → opR S t) → (∀ (h' : ix_H) (U' : Nat → Nat), cPo x h h' Q.length (6 * Q.length) → I3 (tR fA e z (P.filter (orb S)).length S) → tR fA e z (P.filter (orb S)).length S 2 0 = now → cRel h' x (tR fA e z (P.filter (orb S)).length S) T A R U' D Lo Lr → ∀ (lv : List (Nat × Value)), lv.lookup 0 = some (.ref (cS0 x e)) → lv.lookup 1 = some (.int now) → ix_E G 30 67 lv [] h' Z) → ∀ (lv : List (Nat × Value)), lv.lookup 0 = some (.ref (cS0 x e)) → lv.lookup 1 = some (.int now) → lv.lookup 2 = some (.int (nI P.length)) → ix_E G 30 35 lv [] h Z := by
  intro z
  induction z with
  | zero => intro P Q S h U _ h2; omega
  | succ z ih =>
    intro P Q S h U hPQ hz I hnow C hQ kk lv q0 q1 q2
    have F := C.fx.2.2.2.2.2.2.2.2.2 e he
    have hs5 := F.2.1
    obtain ⟨l0, l1, l2⟩ := C.ll.1 e he
    have W := C.rw e he
    have nL := l2.n
    rw [List.length_map, ← hPQ, List.length_append] at nL
    have lt := (F.2.2.2.1 2 (by decide))
    have hQf : Q.filter (orb S) = Q := List.filter_eq_self.mpr (fun t ht => decide_eq_true (hQ t ht))
    have hrow : rowL S 41 43 e = P.filter (orb S) ++ Q := by
      rw [W.2.2.2.2.2, ← hPQ]
      show List.filter (orb S) (P ++ Q) = _
      rw [List.filter_append, hQf]
    refine ie_iload_n d30_35 q2 ?_
    refine ie_aload_n d30_36 q0 ?_
    refine ie_getr _ d30_37 fl2_26 hs5 lt.1 ?_
    refine ie_callVx [] d30_40 ok20 rm30_20 cl2_33 rfl rfl (Nat.le_of_ble_eq_true rfl) (Nat.le_of_ble_eq_true rfl) lt.2 (s20 lt.2) ?_
    rw [l2.2.1, List.length_map, ← hPQ, List.length_append]
    refine ie_icmp_ge 67 d30_43 (by decide) (fun c => ?_) (fun c => ?_)
    · rw [nI_leI (by omega) (by omega)] at c
      have eQ : Q = [] := List.length_eq_zero_iff.mp (by omega)
      subst eQ
      rw [List.append_nil] at hrow
      have eT := tR_nil (z := z + 1) hrow rfl
      rw [eT] at kk
      exact kk h U (cPo.rfl.m (by omega) (by omega)) I hnow C lv q0 q1
    · rw [nI_leI (by omega) (by omega)] at c
      match Q, hPQ, hz, hQ, hQf, hrow, nL, c, kk with
      | [], _, _, _, _, _, _, c, _ => simp at c
      | t :: Q, hPQ, hz, hQ, hQf, hrow, nL, c, kk =>
        have hm : t ∈ Lr e := by rw [← hPQ]; simp
        have ho : opR S t := hQ t (by simp)
        have nd : (P ++ t :: Q).Nodup := by rw [hPQ]; exact W.2.2.2.1
        have ndt : t ∉ P ∧ t ∉ Q := by
          rw [List.nodup_append] at nd
          refine ⟨fun y => nd.2.2 t y t (by simp) rfl, (List.nodup_cons.mp nd.2.1).1⟩
        have hv := (W.2.1 t hm).1
        have hget : (Lr e)[P.length]? = some t := by rw [← hPQ, List.getElem?_append_right (Nat.le_refl _), Nat.sub_self]; rfl
        have hbA : ((Lr e).map R)[P.length]? = some (R t) := by rw [List.getElem?_map, hget]; rfl
        have c2 := C.rv hv ho
        have I' : I3 (fA S t) := ⟨fA_inv I.1 hv ho, iK_att I.2.1, iE_c fA_L (by decide) I.2.2⟩
        have FR := (afr_att (S := S) (u := gU S) (t := t) (p := sP S t) (n := nP S (sP S t)) (k0 := kP 41 S (1 - t / 320) t) (c := cP 43 S (1 - t / 320)))
        have eT := tR_cons (z := z) hrow rfl
        refine ie_aload_n d30_46 q0 ?_
        refine ie_getr _ d30_47 fl2_26 hs5 lt.1 ?_
        refine ie_iload_n d30_50 q2 ?_
        refine ie_callVx [_] d30_51 ok21 rm30_21 cl2_37 rfl rfl (Nat.le_of_ble_eq_true rfl) (Nat.le_of_ble_eq_true rfl) lt.2 (s21L lt.2 l2 hbA) ?_
        refine ie_cast (k := 2) d30_54 (by decide) rfl lkc_56 cst_R c2.2.1 ?_
        refine ie_iload_n d30_57 q1 ?_
        rw [← hnow]
        refine ie_callV [_] d30_58 ok48 rm30_48 cl2_58 rfl rfl (Nat.le_of_ble_eq_true rfl) (Nat.le_of_ble_eq_true rfl) c2.2.1 (s48 I.1 C hv ho) (fun rv h2 hq => ?_)
        obtain ⟨e1, p1, U2, C2⟩ := hq
        subst e1
        refine ie_iinc (nI (P.length + 1)) d30_61 q2 (nI_1 _) (by decide) ?_
        refine ie_goto 35 d30_64 (by decide) ?_
        have eP : (P ++ [t]).filter (orb (fA S t)) = P.filter (orb S) ++ (if orb (fA S t) t = true then [t] else []) := by
          rw [List.filter_append, List.filter_cons, List.filter_nil]
          congr 1
          refine List.filter_congr (fun y hy => ?_)
          have ny : y ≠ t := fun w => ndt.1 (by rw [← w]; exact hy)
          unfold orb
          rw [show fA S t 23 y = S 23 y from FR.2.1 y ny]
        have eL : ((P ++ [t]).filter (orb (fA S t))).length = if (fA S t 23 t = nI 5 ∨ fA S t 23 t = nI 6) then (P.filter (orb S)).length + 1 else (P.filter (orb S)).length := by
          rw [eP, List.length_append]
          by_cases w : (fA S t 23 t = nI 5 ∨ fA S t 23 t = nI 6)
          · rw [if_pos w, if_pos (show orb (fA S t) t = true from decide_eq_true w)]; rfl
          · rw [if_neg w, if_neg (by unfold orb; rw [decide_eq_false w]; decide)]; rfl
        refine ih (P ++ [t]) Q (fA S t) h2 U2 (by rw [List.append_assoc]; exact hPQ) (by simpa using hz) I' ((congrFun (FR.1 2 (by decide)) 0).trans hnow) C2 (fun y hy => ?_) (fun h' U' p' I2 n2 C3 => ?_) _ (ix_lk3 (by decide) q0 rfl) (ix_lk3 (by decide) q1 rfl) (by rw [List.length_append]; exact ix_lk1)
        · have ny : y ≠ t := fun w => ndt.2 (by rw [← w]; exact hy)
          have := hQ y (by simp [hy])
          unfold opR at this ⊢
          rw [show fA S t 23 y = S 23 y from FR.2.1 y ny]
          exact this
        · rw [eL, ← eT] at I2 n2 C3
          exact kk h' U' ((p1.tr p').m (by simp; omega) (by simp; omega)) I2 n2 C3
set_option maxRecDepth 100000 in
set_option maxHeartbeats 4000000 in
/-- Side.passTick -/
theorem s30 {G : ix_G} {h : ix_H} {x : Nat} {S : MS} {T A R U D : Nat → Nat} {Lo Lr : Nat → List Nat} {e : Nat} (I : I3 S) (C : cRel h x S T A R U D Lo Lr) (L : cAl1 S Lo Lr e) (he : e < 2) : ix_E G 30 0 (lv_args 0 [.ref (cS0 x e), .int (S 2 0)]) [] h (fun r h' => r = none ∧ cPo x h h' 6 36 ∧ I3 (tR fA e 4 0 (tS fW e 4 0 S)) ∧ tR fA e 4 0 (tS fW e 4 0 S) 2 0 = S 2 0 ∧ ∃ U' Lo' Lr', cRel h' x (tR fA e 4 0 (tS fW e 4 0 S)) T A R U' D Lo' Lr' ∧ (∀ t, t ∈ Lo' e → tR fA e 4 0 (tS fW e 4 0 S) 13 t = nI 5) ∧ (∀ t, t ∈ Lr' e → opR (tR fA e 4 0 (tS fW e 4 0 S)) t) ∧ ∀ k, k ≠ e → Lo' k = Lo k ∧ Lr' k = Lr k) := by
  have l3 : (Lo e).length ≤ 3 ∧ (Lr e).length ≤ 3 := by
    have h1 := row_len (cAl1.S L C.rw he)
    have h2 := row_len (cAl1.R L C.rw he)
    obtain ⟨c1, q1, q2, -⟩ := I.1.L e he
    obtain ⟨c2, q3, q4, -⟩ := I.1.M e he
    unfold cP at h1 h2
    rw [q2, nI_clamp (by omega)] at h1
    rw [q4, nI_clamp (by omega)] at h2
    omega
  refine ie_iconst (nI 0) d30_0 (by decide) ?_
  refine ie_istore_n d30_1 (by decide) ?_
  refine s30_s he 4 [] (Lo e) S h U rfl (by omega) I rfl C (fun t ht => L.1 t ht) (fun h1 U1 p1 I1 n1 C1 lv q0 q1 => ?_) _ rfl rfl rfl
  have e0 : ((([] : List Nat).filter (opb S)).length) = 0 := rfl
  rw [e0] at I1 n1 C1
  refine ie_iconst (nI 0) d30_33 (by decide) ?_
  refine ie_istore_n d30_34 (by decide) ?_
  have hR : ∀ t, t ∈ Lr e → opR (tS fW e 4 0 S) t := fun t ht => by
    have := L.2 t ht
    unfold opR at this ⊢
    rw [tS_23 he 4 0 S I]
    exact this
  generalize hS1 : tS fW e 4 0 S = S1 at *
  refine s30_r he 4 [] (Lr e) S1 h1 U1 rfl (by omega) I1 n1 C1 hR (fun h2 U2 p2 I2 n2 C2 lv q0 q1 => ?_) _ (ix_lk3 (by decide) q0 rfl) (ix_lk3 (by decide) q1 rfl) ix_lk1
  have e1 : ((([] : List Nat).filter (orb S1)).length) = 0 := rfl
  rw [e1] at I2 n2 C2
  generalize hS2 : tR fA e 4 0 S1 = S2 at *
  have F := C2.fx.2.2.2.2.2.2.2.2.2 e he
  refine ie_aload_n d30_67 q0 ?_
  refine ie_callV [] d30_68 ok57 rm30_57 cl2_61 rfl rfl (Nat.le_of_ble_eq_true rfl) (Nat.le_of_ble_eq_true rfl) F.2.1 (s57 I2.1 C2 he) (fun rv h3 hq => ?_)
  obtain ⟨e2, p3, C3⟩ := hq
  subst e2
  refine ie_vret d30_71 rfl ⟨rfl, ((p1.tr p2).tr p3).m (by omega) (by omega), I2, n2, U2, _, _, C3, fun t ht => ?_, fun t ht => ?_, fun k hk => ⟨upL_o hk, upL_o hk⟩⟩
  · rw [upL_s, List.mem_filter] at ht
    exact of_decide_eq_true ht.2
  · rw [upL_s, List.mem_filter] at ht
    have := ht.2
    unfold orb at this
    unfold opR
    exact of_decide_eq_true this
