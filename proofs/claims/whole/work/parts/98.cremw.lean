theorem cpl_112 : ix_CpL "java/util/ArrayList" 112 := ⟨ix_in 435 (by decide +kernel) (by decide +kernel), ix_in 437 (by decide +kernel) (by decide +kernel), ix_in 436 (by decide +kernel) (by decide +kernel), ix_in 82 (by decide +kernel) (by decide +kernel)⟩
theorem ix_cpr_c {h : ix_H} {src sp dst dp n b : Nat} (hb : b ≠ dst) : ceq h (ix_cpr h src sp dst dp n) b := ⟨rfl, rfl, fun _ => rfl, fun j => by rw [ix_r_cpr, if_neg (fun z => hb z.1)]⟩
/-- what a list's method leaves alone: all but its cell and its array -/
def lsO (a D : Nat) (h h' : ix_H) : Prop := (∀ b, b ≠ a → b ≠ D → ceq h h' b) ∧ (∀ b, ix_tg h' b = ix_tg h b ∧ ix_ln h' b = ix_ln h b) ∧ ix_nx h' = ix_nx h ∧ ix_us h' = ix_us h ∧ ∀ b j, ix_l h' b j = ix_l h b j
theorem lsO.rfl {a D : Nat} {h : ix_H} : lsO a D h h := ⟨fun _ _ _ => ceq.rfl, fun _ => ⟨Eq.refl _, Eq.refl _⟩, Eq.refl _, Eq.refl _, fun _ _ => Eq.refl _⟩
theorem lsO.si {a D k : Nat} {h h1 : ix_H} {v : Int32} (p : lsO a D h h1) : lsO a D h (ix_si h1 a k v) := ⟨fun b h2 h3 => (p.1 b h2 h3).tr ((sw.rfl.si).1 b h2), p.2.1, p.2.2.1, p.2.2.2.1, p.2.2.2.2⟩
theorem lsO.sr {a D k : Nat} {h h1 : ix_H} {v : Option Nat} (p : lsO a D h h1) : lsO a D h (ix_sr h1 D k v) := ⟨fun b h2 h3 => (p.1 b h2 h3).tr ⟨Eq.refl _, Eq.refl _, fun _ => Eq.refl _, fun j => by rw [ix_r_sr, if_neg (fun z => h3 z.1)]⟩, p.2.1, p.2.2.1, p.2.2.2.1, p.2.2.2.2⟩
theorem lsO.cp {a D sp dp n : Nat} {h h1 : ix_H} (p : lsO a D h h1) : lsO a D h (ix_cpr h1 D sp D dp n) := ⟨fun b h2 h3 => (p.1 b h2 h3).tr (ix_cpr_c h3), p.2.1, p.2.2.1, p.2.2.2.1, p.2.2.2.2⟩
/-- an element goes out of a row -/
theorem er_get {L : List Nat} {i j : Nat} : (L.eraseIdx i)[j]? = if i ≤ j then L[j + 1]? else L[j]? := by
  rw [List.getElem?_eraseIdx]
  by_cases w : j < i
  · rw [if_pos w, if_neg (by omega)]
  · rw [if_neg w, if_pos (by omega)]
set_option maxRecDepth 100000 in
set_option maxHeartbeats 4000000 in
/-- ArrayList.fastRemove -/
theorem s59 {G : ix_G} {h : ix_H} {a D i : Nat} {L : List Nat} (ht : ix_tg h a = 10) (hD : ix_tg h D = 107) (C : cLi h a D L) (hi : i < L.length) (hE : ∀ b, b ∈ L → ix_tg h b = 4 ∨ ix_tg h b = 3) : ix_E G 59 0 (lv_args 0 [.ref a, .ref D, .int (nI i)]) [] h (fun r h' => r = none ∧ lsO a D h h' ∧ cLi h' a D (L.eraseIdx i)) := by
  have hn := C.n
  obtain ⟨c1, c2, c3, c4, c5, c6⟩ := id C
  have aD : a ≠ D := fun z => by rw [z, hD] at ht; exact absurd ht (by decide)
  have el : (L.eraseIdx i).length = L.length - 1 := by rw [List.length_eraseIdx, if_pos hi]
  have r1 : ix_i (ix_si h a 2 (ix_i h a 2 + 1)) a 1 = nI L.length := by rw [ix_i_si, if_neg (fun z => absurd z.2 (by decide))]; exact c2
  refine ie_aload_n d59_0 rfl ?_
  refine ie_dup d59_1 rfl ?_
  refine ie_geti (k := 9) d59_2 fl4_63 ht ?_
  refine ie_iconst 1 d59_5 (by decide) ?_
  refine ie_iadd d59_6 ?_
  refine ie_puti (k := 9) d59_7 fl4_63 (Or.inl rfl) ht rfl rfl ?_
  refine ie_aload_n d59_10 rfl ?_
  refine ie_geti (k := 9) d59_11 fl4_48 ht ?_
  rw [r1]
  refine ie_iconst 1 d59_14 (by decide) ?_
  refine ie_isub d59_15 ?_
  rw [nI_sub1 (by omega)]
  refine ie_dup d59_16 rfl ?_
  refine ie_istore_n d59_17 (by decide) ?_
  refine ie_iload_n d59_18 rfl ?_
  have fin : ∀ (h1 : ix_H) (lv : List (Nat × Value)), lv.lookup 0 = some (.ref a) → lv.lookup 1 = some (.ref D) → lv.lookup 3 = some (.int (nI (L.length - 1))) → lsO a D h h1 → (∀ j, ix_r h1 a j = ix_r h a j) → (∀ j b, j < L.length - 1 → (L.eraseIdx i)[j]? = some b → ix_r h1 D j = some b) → ix_E G 59 34 lv [] h1 (fun r h' => r = none ∧ lsO a D h h' ∧ cLi h' a D (L.eraseIdx i)) := by
    intro h1 lv q0 q1 q3 p ra rd
    have t1 : ix_tg h1 a = 10 := by rw [(p.2.1 a).1]; exact ht
    have t2 : ix_tg h1 D = 107 := by rw [(p.2.1 D).1]; exact hD
    refine ie_aload_n d59_34 q1 ?_
    refine ie_aload_n d59_35 q0 ?_
    refine ie_iload_n d59_36 q3 ?_
    refine ie_dup_x1 d59_37 rfl rfl ?_
    refine ie_puti (k := 9) d59_38 fl4_48 (Or.inl rfl) t1 rfl rfl ?_
    refine ie_null d59_41 ?_
    refine ie_aastN (t := 7) d59_42 (by decide) rfl t2 (by show vp_in _ (ix_ln h1 D); rw [(p.2.1 D).2]; exact vp_nI (by omega) (by omega)) ?_
    rw [nI_clamp (by omega)]
    refine ie_vret d59_43 rfl ⟨rfl, (p.si).sr, ?_⟩
    refine ⟨by rw [ix_r_sr, if_neg (fun z => aD z.1), ix_r_si, ra]; exact c1, by rw [ix_i_sr, ix_i_si, if_pos ⟨rfl, rfl⟩, el], by rw [el]; show L.length - 1 ≤ ix_ln h1 D; rw [(p.2.1 D).2]; omega, by show ix_ln h1 D ≤ 10000; rw [(p.2.1 D).2]; exact c4, Or.inl t2, fun j b hb => ?_⟩
    have hj : j < L.length - 1 := by rw [← el]; exact (List.getElem?_eq_some_iff.mp hb).1
    rw [ix_r_sr, if_neg (fun z => by omega), ix_r_si]
    exact rd j b hj hb
  refine ie_icmp_le 34 d59_19 (by decide) (fun c => ?_) (fun c => ?_)
  · rw [nI_leI (by omega) (by omega)] at c
    refine fin _ _ rfl rfl rfl (lsO.rfl.si) (fun _ => rfl) (fun j b hj hb => ?_)
    rw [er_get, if_neg (by omega)] at hb
    exact c6 j b hb
  · rw [nI_leI (by omega) (by omega)] at c
    refine ie_aload_n d59_22 rfl ?_
    refine ie_iload_n d59_23 rfl ?_
    refine ie_iconst 1 d59_24 (by decide) ?_
    refine ie_iadd d59_25 ?_
    rw [nI_1]
    refine ie_aload_n d59_26 rfl ?_
    refine ie_iload_n d59_27 rfl ?_
    refine ie_iload_n d59_28 rfl ?_
    refine ie_iload_n d59_29 rfl ?_
    refine ie_isub d59_30 ?_
    rw [pk_sub (by omega)]
    have k1 : (nI (i + 1)).toNatClampNeg = i + 1 := nI_clamp (by omega)
    have k2 : (nI i).toNatClampNeg = i := nI_clamp (by omega)
    have k3 : (nI (L.length - 1 - i)).toNatClampNeg = L.length - 1 - i := nI_clamp (by omega)
    refine ie_copyR d59_31 cpl_112 (by decide) (Nat.le_of_ble_eq_true rfl) (Or.inl hD) hD (nI_pos (by omega)) (nI_pos (by omega)) (nI_pos (by omega)) (by show _ ≤ ix_ln h D; rw [k1, k3]; omega) (by show _ ≤ ix_ln h D; rw [k2, k3]; omega) (fun j hj y hy => ?_) ?_
    · rw [k3] at hj
      have hb : L[i + 1 + j]? = some L[i + 1 + j] := List.getElem?_eq_some_iff.mpr ⟨by omega, rfl⟩
      rw [k1] at hy
      have e1 : ix_r h D (i + 1 + j) = some L[i + 1 + j] := c6 _ _ hb
      have e2 : y = L[i + 1 + j] := Option.some.inj (hy.symm.trans e1)
      have m1 := hE y (by rw [e2]; exact List.getElem_mem _)
      rcases m1 with w | w
      · exact ⟨3, by decide, w, rfl, cst_SO⟩
      · exact ⟨2, by decide, w, rfl, cst_RO⟩
    · rw [k1, k2, k3]
      refine fin _ _ rfl rfl rfl ((lsO.rfl.si).cp) (fun j => by rw [ix_r_cpr, if_neg (fun z => aD z.1)]; rfl) (fun j b hj hb => ?_)
      rw [er_get] at hb
      rw [ix_r_cpr]
      by_cases w : i ≤ j
      · rw [if_pos w] at hb
        rw [if_pos ⟨rfl, w, by omega⟩, show i + 1 + (j - i) = j + 1 from by omega]
        exact c6 _ _ hb
      · rw [if_neg w] at hb
        rw [if_neg (fun z => w z.2.1)]
        exact c6 _ _ hb
set_option maxRecDepth 100000 in
set_option maxHeartbeats 4000000 in
/-- ArrayList.remove -/
theorem s58 {G : ix_G} {h : ix_H} {a D i : Nat} {L : List Nat} (ht : ix_tg h a = 10) (hD : ix_tg h D = 107) (C : cLi h a D L) (hi : i < L.length) (hE : ∀ b, b ∈ L → ix_tg h b = 4 ∨ ix_tg h b = 3) : ix_E G 58 0 (lv_args 0 [.ref a, .int (nI i)]) [] h (fun r h' => (∃ b, r = some (.ref b)) ∧ lsO a D h h' ∧ cLi h' a D (L.eraseIdx i)) := by
  have hn := C.n
  obtain ⟨c1, c2, c3, c4, c5, c6⟩ := id C
  have hb : L[i]? = some L[i] := List.getElem?_eq_some_iff.mpr ⟨hi, rfl⟩
  refine ie_iload_n d58_0 rfl ?_
  refine ie_aload_n d58_1 rfl ?_
  refine ie_geti (k := 9) d58_2 fl4_48 ht ?_
  rw [c2]
  refine ie_callSx [_, _] d58_5 ok22 rm58_22 cl4_118 rfl rfl (Nat.le_of_ble_eq_true rfl) (Nat.le_of_ble_eq_true rfl) (s22 ((nI_leI (a := 0) (by decide) (by omega)).mpr (by omega)) ((nI_ltI (by omega) (by omega)).mpr hi)) ?_
  refine ie_pop d58_8 rfl ?_
  refine ie_aload_n d58_9 rfl ?_
  refine ie_getr (k := 9) D d58_10 fl4_9 ht c1 ?_
  refine ie_astore_n d58_13 (by decide) ?_
  refine ie_aload_n d58_14 rfl ?_
  refine ie_iload_n d58_15 rfl ?_
  refine ie_aald (t := 7) d58_16 (by decide) rfl rfl (Or.inl hD) (vp_nI (by omega) (by omega)) ?_
  rw [nI_clamp (by omega), c6 i _ hb]
  refine ie_astore_n d58_17 (by decide) ?_
  refine ie_aload_n d58_18 rfl ?_
  refine ie_aload_n d58_19 rfl ?_
  refine ie_iload_n d58_20 rfl ?_
  refine ie_callV [_, _] d58_21 ok59 rm58_59 cl4_144 rfl rfl (Nat.le_of_ble_eq_true rfl) (Nat.le_of_ble_eq_true rfl) ht (s59 ht hD C hi hE) (fun rv h1 hq => ?_)
  obtain ⟨e1, p1, C1⟩ := hq
  subst e1
  refine ie_aload_n d58_24 rfl ?_
  exact ie_aret d58_25 rfl (Or.inl ⟨_, rfl⟩) (Or.inr ⟨_, rfl⟩) ⟨⟨_, rfl⟩, p1, C1⟩
