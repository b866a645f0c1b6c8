/-! ===== the closed ones are forgotten ===== -/
section CRj
variable {h h' : ix_H} {x : Nat} {S : MS} {T A R U D : Nat → Nat} {Lo Lr Lo' Lr' : Nat → List Nat}
/-- one list's cell and array change -/
theorem cRel_ls {e i : Nat} (I : mInv S) (C : cRel h x S T A R U D Lo Lr) (he : e < 2) (hi : i < 3) (hh : ∀ b, b ≠ cLs x e i → b ≠ D (3 * e + i) → ceq h h' b) (ht : ∀ b, ix_tg h' b = ix_tg h b ∧ ix_ln h' b = ix_ln h b) (hn : ix_nx h' = ix_nx h) (h7 : ix_tg h (D (3 * e + i)) = 107)
    (l0 : i = 0 → cLi h' (cLs x e 0) (D (3 * e)) ((List.range (nN S e)).map (fun i => A (320 * e + (i + 1))))) (l1 : i = 1 → cLi h' (cLs x e 1) (D (3 * e + 1)) ((Lo' e).map A)) (l2 : i = 2 → cLi h' (cLs x e 2) (D (3 * e + 2)) ((Lr' e).map R)) (k1 : ∀ k, k < 2 → ¬ (k = e ∧ i = 1) → Lo' k = Lo k) (k2 : ∀ k, k < 2 → ¬ (k = e ∧ i = 2) → Lr' k = Lr k) (hrw : cRw S Lo' Lr') : cRel h' x S T A R U D Lo' Lr' := by
  have lx := cLs_lt (x := x) he hi
  have dx := C.ll.2.2 (3 * e + i) (by omega) h7
  have tc := ((C.fx.2.2.2.2.2.2.2.2.2 e he).2.2.2.1 i hi).2
  have tg : ∀ b k, ix_tg h b = k → k ≠ 10 → k ≠ 107 → ceq h h' b := fun b k hb h1 h2 => hh b (fun z => h1 (by rw [← hb, z]; exact tc)) (fun z => h2 (by rw [← hb, z]; exact h7))
  have lo : ∀ b, b < x + 30 → b ≠ cLs x e i → ceq h h' b := fun b hb h1 => hh b h1 (by omega)
  refine ⟨cFix_fr C.fx (fun b _ => ht b) (fun b hb _ hl => (lo b hb (hl e i he hi)).2.2.2), fun b hb => ?_, ?_, fun e' f' he' hf' => ?_, fun t v => ?_, ?_, ?_, hrw⟩
  · rw [hn] at hb
    rw [(ht b).1]
    exact C.nx b hb
  · rw [(tg x 1 C.fx.1 (by decide) (by decide)).2.2.1]; exact C.2.2.1
  · have F1 := C.fx.2.2.2.2.2.2.2.2.2 e' he'
    exact cFl_fr (C.fl he' hf') (tg _ _ F1.2.2.2.2.2.2.2.2.2.1 (by decide) (by decide)).2.2.1 (tg _ _ (F1.2.2.2.2.2.2.2.2.2.2.2 f' hf').2.1 (by decide) (by decide)).2.2.1 rfl rfl (fun i _ => rfl) (I.2.1 _ (by omega)).2
  · obtain ⟨c1, c2, c3⟩ := C.tx v
    refine ⟨cTr_fr c1 (tg _ _ c1.2.1 (by decide) (by decide)) (fun _ _ _ => rfl) Iff.rfl, cSn_fr c2 (tg _ _ c2.2.1 (by decide) (by decide)) rfl (fun _ _ _ => rfl) (fun _ => rfl), fun q => ?_⟩
    have c := c3 q
    exact cRv_fr c (tg _ _ c.2.1 (by decide) (by decide)) (tg _ _ c.2.2.2.2.2.2.2.1 (by decide) (by decide)) rfl (fun _ _ _ => rfl) (fun _ _ _ _ => rfl) (fun _ _ _ => ⟨rfl, rfl⟩)
  · obtain ⟨u1, u2, u3⟩ := C.us
    refine ⟨by rw [(tg _ _ C.fx.2.2.2.2.2.1 (by decide) (by decide)).2.2.1]; exact u1, fun j hj => ?_, u3⟩
    obtain ⟨w1, w2⟩ := u2 j hj
    exact ⟨by rw [(tg _ _ C.fx.2.2.2.2.2.2.2.1 (by decide) (by decide)).2.2.2]; exact w1, cUn_fr w2 (tg _ _ w2.2.1 (by decide) (by decide)) (fun _ _ => rfl) (I.g3 hj)⟩
  · have ls_o : ∀ e' j, e' < 2 → j < 3 → ¬ (e' = e ∧ j = i) → ceq h h' (cLs x e' j) ∧ ceq h h' (D (3 * e' + j)) := fun e' j he' hj hne => by
      refine ⟨lo _ (by have := cLs_lt (x := x) he' hj; omega) (by unfold cLs; omega), ?_⟩
      rcases C.Dt (show 3 * e' + j < 6 by omega) with w | w
      · have xx := C.ll.2.2 _ (show 3 * e' + j < 6 by omega) w
        refine hh _ (by omega) (fun z => ?_)
        have := C.ll.2.1 (3 * e' + j) (by omega) (3 * e + i) (by omega) z w
        omega
      · exact tg _ _ w (by decide) (by decide)
    refine ⟨fun e' he' => ?_, fun i hi k hk q t => ?_, fun i hi t => ?_⟩
    · obtain ⟨m1, m2, m3⟩ := C.ll.1 e' he'
      refine ⟨?_, ?_, ?_⟩
      · by_cases q : e' = e ∧ i = 0
        · obtain ⟨q1, q2⟩ := q; subst q1; exact l0 q2
        · have c := ls_o e' 0 he' (by omega) (by omega)
          exact cLi_fr m1 c.1 c.2
      · by_cases q : e' = e ∧ i = 1
        · obtain ⟨q1, q2⟩ := q; subst q1; exact l1 q2
        · have c := ls_o e' 1 he' (by omega) (by omega)
          rw [k1 e' he' q]
          exact cLi_fr m2 c.1 c.2
      · by_cases q : e' = e ∧ i = 2
        · obtain ⟨q1, q2⟩ := q; subst q1; exact l2 q2
        · have c := ls_o e' 2 he' (by omega) (by omega)
          rw [k2 e' he' q]
          exact cLi_fr m3 c.1 c.2
    · rw [(ht _).1] at t
      exact C.ll.2.1 i hi k hk q t
    · rw [(ht _).1] at t
      exact C.ll.2.2 i hi t
end CRj
/-- one that is closed goes out of a list: the reference's row stands -/
theorem filter_er {L : List Nat} {p : Nat → Bool} : ∀ {i : Nat} {t : Nat}, L[i]? = some t → p t = false → (L.eraseIdx i).filter p = L.filter p := by
  induction L with
  | nil => intro i t h; simp at h
  | cons a L ih =>
    intro i t h hp
    cases i with
    | zero =>
      simp at h
      subst h
      simp [hp]
    | succ i =>
      simp at h
      rw [List.eraseIdx_cons_succ, List.filter_cons, List.filter_cons, ih h hp]
theorem cRw_erS {S : MS} {Lo Lr : Nat → List Nat} {e i t : Nat} (W : cRw S Lo Lr) (ht : (Lo e)[i]? = some t) (hc : ¬ S 13 t = nI 5) : cRw S (fun k => if k = e then (Lo e).eraseIdx i else Lo k) Lr := by
  intro e' he'
  obtain ⟨w1, w2, w3, w4, w5, w6⟩ := W e' he'
  by_cases ee : e' = e
  · subst ee
    simp only [if_pos]
    refine ⟨fun t' h => w1 t' (List.mem_of_mem_eraseIdx h), w2, w3.sublist (List.eraseIdx_sublist _ _), w4, ?_, w6⟩
    rw [filter_er ht (by simp [hc])]
    exact w5
  · simp only [if_neg ee]
    exact ⟨w1, w2, w3, w4, w5, w6⟩
theorem cRw_erR {S : MS} {Lo Lr : Nat → List Nat} {e i t : Nat} (W : cRw S Lo Lr) (ht : (Lr e)[i]? = some t) (hc : ¬ opR S t) : cRw S Lo (fun k => if k = e then (Lr e).eraseIdx i else Lr k) := by
  intro e' he'
  obtain ⟨w1, w2, w3, w4, w5, w6⟩ := W e' he'
  by_cases ee : e' = e
  · subst ee
    simp only [if_pos]
    refine ⟨w1, fun t' h => w2 t' (List.mem_of_mem_eraseIdx h), w3, w4.sublist (List.eraseIdx_sublist _ _), w5, ?_⟩
    unfold opR at hc
    rw [filter_er ht (by simp [hc])]
    exact w6
  · simp only [if_neg ee]
    exact ⟨w1, w2, w3, w4, w5, w6⟩
