theorem lsA.pre {a D2 b w k : Nat} {v : Int32} {h h' : ix_H} (p : lsA a D2 b w (ix_si h a k v) h') : lsA a D2 b w h h' :=
  ⟨fun q hq q1 q2 => ((sw.rfl.si).1 q q1).tr (p.1 q hq q1 q2), p.2.1, p.2.2.1, p.2.2.2.1, p.2.2.2.2.1, p.2.2.2.2.2.1, p.2.2.2.2.2.2.1, p.2.2.2.2.2.2.2⟩
/-- the element is laid down, the size counts on -/
theorem lsA.put {a D2 b w n e : Nat} {v : Int32} {h h' : ix_H} (p : lsA a D2 b w h h') : lsA a D2 b w h (ix_si (ix_sr h' D2 n (some e)) a 1 v) := by
  refine ⟨fun q hq q1 q2 => (p.1 q hq q1 q2).tr ⟨rfl, rfl, fun j => ?_, fun j => ?_⟩, p.2.1, p.2.2.1, p.2.2.2.1, p.2.2.2.2.1, p.2.2.2.2.2.1, p.2.2.2.2.2.2.1, p.2.2.2.2.2.2.2⟩
  · rw [ix_i_si, if_neg (fun z => q1 z.1), ix_i_sr]
  · rw [ix_r_si, ix_r_sr, if_neg (fun z => q2 z.1)]
theorem lsA.rf {a D2 : Nat} {b w : Nat} {h : ix_H} : lsA a D2 b w h h := ⟨fun _ _ _ _ => ceq.rfl, fun _ _ => ⟨rfl, rfl⟩, fun _ _ _ => rfl, Nat.le_refl _, by omega, Nat.le_refl _, by omega, id⟩
/-- what add leaves -/
def lsP (a D : Nat) (L : List Nat) (b : Nat) (h h' : ix_H) : Prop := ∃ D2, ((D2 = D ∧ ix_tg h D = 107) ∨ D2 = ix_nx h) ∧ lsA a D2 1 (10 + 2 * L.length) h h' ∧ cLi h' a D2 (L ++ [b]) ∧ ix_tg h' D2 = 107
set_option maxRecDepth 100000 in
set_option maxHeartbeats 4000000 in
/-- ArrayList.grow() -/
theorem s71 {G : ix_G} {h : ix_H} {a D : Nat} {L : List Nat} (ht : ix_tg h a = 10) (C : ix_r h a 0 = some D) (c2 : ix_i h a 1 = nI L.length) (c3 : ix_ln h D = L.length) (c5 : ix_tg h D = 107 ∨ ix_tg h D = 207) (c6 : ∀ i b, L[i]? = some b → ix_r h D i = some b) (hL : L.length ≤ 330) (halt : a < ix_nx h) (hDlt : D < ix_nx h) (hE : ∀ b, b ∈ L → elT h b ∧ b < ix_nx h) : ix_E G 71 0 (lv_args 0 [.ref a]) [] h (fun r h' => r = some (.ref (ix_nx h)) ∧ lsA a (ix_nx h) 1 (10 + 2 * L.length) h h' ∧ (∀ j, ix_i h' a j = ix_i h a j) ∧ ix_r h' a 0 = some (ix_nx h) ∧ ix_tg h' (ix_nx h) = 107 ∧ L.length < ix_ln h' (ix_nx h) ∧ ix_ln h' (ix_nx h) ≤ 1000 ∧ ∀ i b, L[i]? = some b → ix_r h' (ix_nx h) i = some b) := by
  refine ie_aload_n d71_0 rfl ?_
  refine ie_aload_n d71_1 rfl ?_
  refine ie_geti (k := 9) d71_2 fl4_48 ht ?_
  rw [c2]
  refine ie_iconst 1 d71_5 (by decide) ?_
  refine ie_iadd d71_6 ?_
  rw [nI_1]
  refine ie_callV [_] d71_7 ok72 rm71_72 cl4_69 rfl rfl (Nat.le_of_ble_eq_true rfl) (Nat.le_of_ble_eq_true rfl) ht (s72 ht C c3 c5 c6 hL halt hDlt hE) (fun rv h1 hq => ?_)
  obtain ⟨q1, q2⟩ := hq
  subst q1
  exact ie_aret d71_10 rfl (Or.inr ⟨_, rfl⟩) (Or.inr ⟨_, rfl⟩) ⟨rfl, q2⟩
/-- ArrayList.add(e, row, size) -/
theorem s70 {G : ix_G} {h : ix_H} {a D b : Nat} {L : List Nat} (ht : ix_tg h a = 10) (C : cLi h a D L) (hL : L.length ≤ 330) (halt : a < ix_nx h) (hDlt : D < ix_nx h) (hE : ∀ b, b ∈ L → elT h b ∧ b < ix_nx h) (hb : elT h b) (hbl : b < ix_nx h) : ix_E G 70 0 (lv_args 0 [.ref a, .ref b, .ref D, .int (nI L.length)]) [] h (fun r h' => r = none ∧ lsP a D L b h h') := by
  obtain ⟨c1, c2, c3, c4, c5, c6⟩ := C
  have ct : ix_tg h D = 107 ∨ ix_tg h D = 207 := c5.imp id (fun z => z.1)
  have fin : ∀ (h1 : ix_H) (D2 : Nat) (lv : List (Nat × Value)), lv.lookup 0 = some (.ref a) → lv.lookup 1 = some (.ref b) → lv.lookup 2 = some (.ref D2) → lv.lookup 3 = some (.int (nI L.length)) → ((D2 = D ∧ ix_tg h D = 107) ∨ D2 = ix_nx h) → lsA a D2 1 (10 + 2 * L.length) h h1 → ix_tg h1 a = 10 → ix_r h1 a 0 = some D2 → ix_tg h1 D2 = 107 → L.length < ix_ln h1 D2 → ix_ln h1 D2 ≤ 10000 → elT h1 b → (∀ i e, L[i]? = some e → ix_r h1 D2 i = some e) → ix_E G 70 11 lv [] h1 (fun r h' => r = none ∧ lsP a D L b h h') := by
    intro h1 D2 lv l0 l1 l2 l3 hD2 P t1 r1 td ll lm eb el
    have aD : ¬ a = D2 := fun z => by rw [z, td] at t1; exact absurd t1 (by decide)
    refine ie_aload_n d70_11 l2 ?_
    refine ie_iload_n d70_12 l3 ?_
    refine ie_aload_n d70_13 l1 ?_
    have tail : ix_E G 70 15 lv [] (ix_sr h1 D2 L.length (some b)) (fun r h' => r = none ∧ lsP a D L b h h') := by
      refine ie_aload_n d70_15 l0 ?_
      refine ie_iload_n d70_16 l3 ?_
      refine ie_iconst 1 d70_17 (by decide) ?_
      refine ie_iadd d70_18 ?_
      rw [nI_1]
      refine ie_puti (k := 9) d70_19 fl4_48 (Or.inl rfl) t1 rfl rfl ?_
      refine ie_vret d70_22 rfl ⟨rfl, D2, hD2, P.put, ⟨?_, ?_, ?_, lm, Or.inl td, fun i e he => ?_⟩, td⟩
      · rw [ix_r_si, ix_r_sr, if_neg (fun z => aD z.1)]; exact r1
      · rw [ix_i_si, if_pos ⟨rfl, rfl⟩, List.length_append]; rfl
      · rw [List.length_append]
        show L.length + 1 ≤ ix_ln h1 D2
        omega
      · rw [ix_r_si, ix_r_sr]
        by_cases q : i = L.length
        · rw [if_pos ⟨rfl, q⟩]
          rw [q, List.getElem?_append_right (Nat.le_refl _), Nat.sub_self] at he
          exact he
        · have hi : i < L.length := by
            have := (List.getElem?_eq_some_iff.mp he).1
            rw [List.length_append] at this
            have e1 : [b].length = 1 := rfl
            omega
          rw [if_neg (fun z => q z.2)]
          rw [List.getElem?_append_left hi] at he
          exact el i e he
    rcases eb with w | w
    · refine ie_aast (k := 3) (t := 7) d70_14 as_SO td w (vp_nI ll (by omega)) ?_
      rw [nI_clamp (by omega)]
      exact tail
    · refine ie_aast (k := 2) (t := 7) d70_14 as_RO td w (vp_nI ll (by omega)) ?_
      rw [nI_clamp (by omega)]
      exact tail
  refine ie_iload_n d70_0 rfl ?_
  refine ie_aload_n d70_1 rfl ?_
  refine ie_alen (t := 7) d70_2 (by decide) ct ?_
  refine ie_icmp_ne 11 d70_3 (by decide) (fun q => ?_) (fun q => ?_)
  · have ll : L.length < ix_ln h D := by
      rcases Nat.lt_or_eq_of_le c3 with w | w
      · exact w
      · exact absurd (by rw [w]) q
    have t7 : ix_tg h D = 107 := by
      rcases c5 with w | w
      · exact w
      · omega
    exact fin h D _ rfl rfl rfl rfl (Or.inl ⟨rfl, t7⟩) lsA.rf ht c1 t7 ll c4 hb c6
  · have ll : ix_ln h D = L.length := ((nI_eq (by omega) (by omega)).mp q).symm
    refine ie_aload_n d70_6 rfl ?_
    refine ie_callV [] d70_7 ok71 rm70_71 cl4_129 rfl rfl (Nat.le_of_ble_eq_true rfl) (Nat.le_of_ble_eq_true rfl) ht (s71 ht c1 c2 ll ct c6 hL halt hDlt hE) (fun rv h1 hq => ?_)
    obtain ⟨q1, q2, q3, q4, q5, q6, q7, q8⟩ := hq
    subst q1
    refine ie_astore_n d70_10 (by decide) ?_
    have tb : ix_tg h1 b = ix_tg h b := (q2.2.1 b hbl).1
    exact fin h1 (ix_nx h) _ rfl rfl rfl rfl (Or.inr rfl) q2 (by rw [(q2.2.1 a halt).1]; exact ht) q4 q5 q6 (by omega) (by unfold elT; rw [tb]; exact hb) q8
/-- ArrayList.add -/
theorem s69 {G : ix_G} {h : ix_H} {a D b : Nat} {L : List Nat} (ht : ix_tg h a = 10) (C : cLi h a D L) (hL : L.length ≤ 330) (halt : a < ix_nx h) (hDlt : D < ix_nx h) (hE : ∀ b, b ∈ L → elT h b ∧ b < ix_nx h) (hb : elT h b) (hbl : b < ix_nx h) : ix_E G 69 0 (lv_args 0 [.ref a, .ref b]) [] h (fun r h' => r = some (.int 1) ∧ lsP a D L b h h') := by
  obtain ⟨c1, c2, c3, c4, c5, c6⟩ := id C
  have aD : ¬ D = a := fun z => by
    rw [z, ht] at c5
    rcases c5 with w | w
    · exact absurd w (by decide)
    · exact absurd w.1 (by decide)
  refine ie_aload_n d69_0 rfl ?_
  refine ie_dup d69_1 rfl ?_
  refine ie_geti (k := 9) d69_2 fl4_63 ht ?_
  refine ie_iconst 1 d69_5 (by decide) ?_
  refine ie_iadd d69_6 ?_
  refine ie_puti (k := 9) d69_7 fl4_63 (Or.inl rfl) ht rfl rfl ?_
  have C1 : cLi (ix_si h a 2 (ix_i h a 2 + 1)) a D L := ⟨c1, by rw [ix_i_si, if_neg (fun z => absurd z.2 (by decide))]; exact c2, c3, c4, c5, c6⟩
  refine ie_aload_n d69_10 rfl ?_
  refine ie_aload_n d69_11 rfl ?_
  refine ie_aload_n d69_12 rfl ?_
  refine ie_getr _ d69_13 fl4_9 ht c1 ?_
  refine ie_aload_n d69_16 rfl ?_
  refine ie_geti (k := 9) d69_17 fl4_48 ht ?_
  rw [C1.2.1]
  refine ie_callV [_, _, _] d69_20 ok70 rm69_70 cl4_131 rfl rfl (Nat.le_of_ble_eq_true rfl) (Nat.le_of_ble_eq_true rfl) ht (s70 (h := ix_si h a 2 (ix_i h a 2 + 1)) ht C1 hL halt hDlt hE hb hbl) (fun rv h1 hq => ?_)
  obtain ⟨q1, D2, q2, q3, q4, q5⟩ := hq
  subst q1
  refine ie_iconst 1 d69_23 (by decide) ?_
  exact ie_iret d69_24 rfl (by decide) ⟨rfl, D2, q2, q3.pre, q4, q5⟩
