/-! ===== the law's walk: what holds between its calls ===== -/
def LB (xs : Nat → Int32) (sc L x : Nat) (h : ix_H) : Prop := (ix_tg h sc = 200 ∧ ix_ln h sc = L ∧ ∀ j, ix_i h sc j = xs j) ∧ sc < x ∧ (ix_tg h (x + 74) = 103 ∧ ix_ln h (x + 74) = 1) ∧ x + 75 ≤ ix_nx h ∧ md_ok h (x + 30)
theorem LB.c {xs : Nat → Int32} {sc L x a b : Nat} {h h1 : ix_H} (B : LB xs sc L x h) (p : lFo x h h1 a b) : LB xs sc L x h1 ∧ ms h1 (x + 30) = ms h (x + 30) := by
  obtain ⟨⟨b1, b2, b3⟩, b4, ⟨b5, b6⟩, b7, b8⟩ := B
  have c1 := p.2.2.2.2 sc (by omega) (Or.inr (Or.inr (Or.inr (Or.inr (by rw [b1]; decide)))))
  have c2 := p.2.2.2.2 (x + 74) (by omega) (Or.inr (Or.inr (Or.inl b5)))
  obtain ⟨m1, m2⟩ := p.md (Nat.le_refl _) (by omega) b8
  exact ⟨⟨⟨by rw [c1.1]; exact b1, by rw [c1.2.1]; exact b2, fun j => by rw [c1.2.2.1]; exact b3 j⟩, b4, ⟨by rw [c2.1]; exact b5, by rw [c2.2.1]; exact b6⟩, Nat.le_trans b7 p.1, m1⟩, m2⟩
theorem LB.m {xs : Nat → Int32} {sc L x : Nat} {h h1 : ix_H} {Q : MS} (B : LB xs sc L x h) (r : mR (x + 30) h h1 Q) : LB xs sc L x h1 ∧ ms h1 (x + 30) = Q ∧ ix_nx h1 = ix_nx h ∧ ix_us h1 = ix_us h ∧ ∀ b j, ix_l h1 b j = ix_l h b j := by
  obtain ⟨⟨b1, b2, b3⟩, b4, b5, b7, b8⟩ := B
  have ok := r.ok b8
  obtain ⟨⟨v, rfl⟩, r2, r3⟩ := r
  exact ⟨⟨⟨b1, b2, fun j => by rw [r2 sc (by omega) j]; exact b3 j⟩, b4, b5, b7, ok⟩, r3, rfl, rfl, fun _ _ => rfl⟩
/-- how the walk goes on behind a call -/
def LC (G : ix_G) (xs : Nat → Int32) (sc L x i K : Nat) (h : ix_H) (P : iy_O → ix_H → Prop) : Prop := ∀ (lv : List (Nat × Value)) (h2 : ix_H) (Q : MS), lv.lookup 0 = some (.ref sc) → lv.lookup 1 = some (.ref x) → lv.lookup 2 = some (.ref (x + 30)) → lv.lookup 3 = some (.ref (x + 74)) → lv.lookup 4 = some (.int (nI i)) → LB xs sc L x h2 → cB h2 x Q → ms h2 (x + 30) = Q → iJ (K + 1) Q → ix_nx h2 ≤ ix_nx h + 20 → ix_us h2 ≤ ix_us h + 1000 → iy_E G 0 995 lv [] h2 P
theorem wl0_49 : Cond.constantLong (ix_own 0) 49 4294967295 ∈ ix_words := ix_in 1298 (by decide +kernel) (by decide +kernel)
theorem cmp_0 {a : Int64} : lg_cmp a a = 0 := by simp [lg_cmp]
set_option maxRecDepth 100000 in
set_option maxHeartbeats 4000000 in
theorem k_create {G : ix_G} {xs : Nat → Int32} {sc L x i K : Nat} {h : ix_H} {P : iy_O → ix_H → Prop} {lv : List (Nat × Value)} {S : MS} (hL : L ≤ 3585) (hi : i + 7 ≤ L) (l0 : lv.lookup 0 = some (.ref sc)) (l1 : lv.lookup 1 = some (.ref x)) (l2 : lv.lookup 2 = some (.ref (x + 30))) (l3 : lv.lookup 3 = some (.ref (x + 74))) (l4 : lv.lookup 4 = some (.int (nI i))) (B : LB xs sc L x h) (C : cB h x S) (hS : ms h (x + 30) = S) (J : iJ K S) (kk : LC G xs sc L x i K h P) : iy_E G 0 136 lv [] h P := by
  obtain ⟨v, Q, oc, om, J2⟩ := op_create (G := G) J (xs (i + 1)) (xs (i + 2))
  refine iz_aload_n d0_136 l1 ?_
  refine iz_aload_n d0_137 l0 ?_
  refine iz_iload d0_138 l4 ?_
  refine iz_iconst (nI 1) d0_140 (by decide) ?_
  refine iz_iadd d0_141 ?_
  rw [nI_add]
  refine iz_iald d0_142 (Or.inr B.1.1) (by rw [B.1.2.1]; exact vp_nI (by omega) (by omega)) ?_
  rw [nI_clamp (by omega), B.1.2.2]
  refine iz_aload_n d0_143 l0 ?_
  refine iz_iload d0_144 l4 ?_
  refine iz_iconst (nI 2) d0_146 (by decide) ?_
  refine iz_iadd d0_147 ?_
  rw [nI_add]
  refine iz_iald d0_148 (Or.inr B.1.1) (by rw [B.1.2.1]; exact vp_nI (by omega) (by omega)) ?_
  rw [nI_clamp (by omega), B.1.2.2]
  refine iz_callV [_, _] d0_149 ok8 rm0_8 cl0_45 rfl rfl (Nat.le_of_ble_eq_true rfl) (Nat.le_of_ble_eq_true rfl) C.z.2 (oc h x C) ?_
  rintro rv h1 ⟨rfl, p1, p2⟩
  obtain ⟨B1, m1⟩ := B.c p1
  refine iz_aload_n d0_152 l2 ?_
  refine iz_aload_n d0_153 l0 ?_
  refine iz_iload d0_154 l4 ?_
  refine iz_iconst (nI 1) d0_156 (by decide) ?_
  refine iz_iadd d0_157 ?_
  rw [nI_add]
  refine iz_iald d0_158 (Or.inr B1.1.1) (by rw [B1.1.2.1]; exact vp_nI (by omega) (by omega)) ?_
  rw [nI_clamp (by omega), B1.1.2.2]
  refine iz_aload_n d0_159 l0 ?_
  refine iz_iload d0_160 l4 ?_
  refine iz_iconst (nI 2) d0_162 (by decide) ?_
  refine iz_iadd d0_163 ?_
  rw [nI_add]
  refine iz_iald d0_164 (Or.inr B1.1.1) (by rw [B1.1.2.1]; exact vp_nI (by omega) (by omega)) ?_
  rw [nI_clamp (by omega), B1.1.2.2]
  refine iz_callV [_, _] d0_165 ok116 rm0_116 cl0_48 rfl rfl (Nat.le_of_ble_eq_true rfl) (Nat.le_of_ble_eq_true rfl) B1.2.2.2.2.1 (om h1 (x + 30) B1.2.2.2.2 (m1.trans hS)) ?_
  rintro rv h2 ⟨rfl, q2⟩
  obtain ⟨B2, m2, n2, u2, -⟩ := B1.m q2
  refine iz_icmp_eq 995 d0_168 (by decide) (fun _ => ?_) (fun w => absurd rfl w)
  exact kk lv h2 Q l0 l1 l2 l3 l4 B2 (cB_mR J2.1.1.1 p2 B1.2.2.2.2 (Nat.le_refl _) q2) m2 J2 (by rw [n2]; exact p1.2.1) (by rw [u2]; exact p1.2.2.2.1)
set_option maxRecDepth 100000 in
set_option maxHeartbeats 4000000 in
theorem k_size {G : ix_G} {xs : Nat → Int32} {sc L x i K : Nat} {h : ix_H} {P : iy_O → ix_H → Prop} {lv : List (Nat × Value)} {S : MS} (hL : L ≤ 3585) (hi : i + 7 ≤ L) (l0 : lv.lookup 0 = some (.ref sc)) (l1 : lv.lookup 1 = some (.ref x)) (l2 : lv.lookup 2 = some (.ref (x + 30))) (l3 : lv.lookup 3 = some (.ref (x + 74))) (l4 : lv.lookup 4 = some (.int (nI i))) (B : LB xs sc L x h) (C : cB h x S) (hS : ms h (x + 30) = S) (J : iJ K S) (kk : LC G xs sc L x i K h P) : iy_E G 0 372 lv [] h P := by
  obtain ⟨v, Q, oc, om, J2⟩ := op_size (G := G) J (xs (i + 1)) (xs (i + 2))
  refine iz_aload_n d0_372 l1 ?_
  refine iz_aload_n d0_373 l0 ?_
  refine iz_iload d0_374 l4 ?_
  refine iz_iconst (nI 1) d0_376 (by decide) ?_
  refine iz_iadd d0_377 ?_
  rw [nI_add]
  refine iz_iald d0_378 (Or.inr B.1.1) (by rw [B.1.2.1]; exact vp_nI (by omega) (by omega)) ?_
  rw [nI_clamp (by omega), B.1.2.2]
  refine iz_aload_n d0_379 l0 ?_
  refine iz_iload d0_380 l4 ?_
  refine iz_iconst (nI 2) d0_382 (by decide) ?_
  refine iz_iadd d0_383 ?_
  rw [nI_add]
  refine iz_iald d0_384 (Or.inr B.1.1) (by rw [B.1.2.1]; exact vp_nI (by omega) (by omega)) ?_
  rw [nI_clamp (by omega), B.1.2.2]
  refine iz_callV [_, _] d0_385 ok14 rm0_14 cl0_63 rfl rfl (Nat.le_of_ble_eq_true rfl) (Nat.le_of_ble_eq_true rfl) C.z.2 (oc h x C) ?_
  rintro rv h1 ⟨rfl, p1, p2⟩
  obtain ⟨B1, m1⟩ := B.c p1
  refine iz_aload_n d0_388 l2 ?_
  refine iz_aload_n d0_389 l0 ?_
  refine iz_iload d0_390 l4 ?_
  refine iz_iconst (nI 1) d0_392 (by decide) ?_
  refine iz_iadd d0_393 ?_
  rw [nI_add]
  refine iz_iald d0_394 (Or.inr B1.1.1) (by rw [B1.1.2.1]; exact vp_nI (by omega) (by omega)) ?_
  rw [nI_clamp (by omega), B1.1.2.2]
  refine iz_aload_n d0_395 l0 ?_
  refine iz_iload d0_396 l4 ?_
  refine iz_iconst (nI 2) d0_398 (by decide) ?_
  refine iz_iadd d0_399 ?_
  rw [nI_add]
  refine iz_iald d0_400 (Or.inr B1.1.1) (by rw [B1.1.2.1]; exact vp_nI (by omega) (by omega)) ?_
  rw [nI_clamp (by omega), B1.1.2.2]
  refine iz_callV [_, _] d0_401 ok123 rm0_123 cl0_67 rfl rfl (Nat.le_of_ble_eq_true rfl) (Nat.le_of_ble_eq_true rfl) B1.2.2.2.2.1 (om h1 (x + 30) B1.2.2.2.2 (m1.trans hS)) ?_
  rintro rv h2 ⟨rfl, q2⟩
  obtain ⟨B2, m2, n2, u2, -⟩ := B1.m q2
  refine iz_icmp_eq 995 d0_404 (by decide) (fun _ => ?_) (fun w => absurd rfl w)
  exact kk lv h2 Q l0 l1 l2 l3 l4 B2 (cB_mR J2.1.1.1 p2 B1.2.2.2.2 (Nat.le_refl _) q2) m2 J2 (by rw [n2]; exact p1.2.1) (by rw [u2]; exact p1.2.2.2.1)
set_option maxRecDepth 100000 in
set_option maxHeartbeats 4000000 in
theorem k_cancel {G : ix_G} {xs : Nat → Int32} {sc L x i K : Nat} {h : ix_H} {P : iy_O → ix_H → Prop} {lv : List (Nat × Value)} {S : MS} (hL : L ≤ 3585) (hi : i + 7 ≤ L) (l0 : lv.lookup 0 = some (.ref sc)) (l1 : lv.lookup 1 = some (.ref x)) (l2 : lv.lookup 2 = some (.ref (x + 30))) (l3 : lv.lookup 3 = some (.ref (x + 74))) (l4 : lv.lookup 4 = some (.int (nI i))) (B : LB xs sc L x h) (C : cB h x S) (hS : ms h (x + 30) = S) (J : iJ K S) (kk : LC G xs sc L x i K h P) : iy_E G 0 607 lv [] h P := by
  obtain ⟨v, Q, oc, om, J2⟩ := op_cancel (G := G) J (xs (i + 1)) (xs (i + 2))
  refine iz_aload_n d0_607 l1 ?_
  refine iz_aload_n d0_608 l0 ?_
  refine iz_iload d0_609 l4 ?_
  refine iz_iconst (nI 1) d0_611 (by decide) ?_
  refine iz_iadd d0_612 ?_
  rw [nI_add]
  refine iz_iald d0_613 (Or.inr B.1.1) (by rw [B.1.2.1]; exact vp_nI (by omega) (by omega)) ?_
  rw [nI_clamp (by omega), B.1.2.2]
  refine iz_aload_n d0_614 l0 ?_
  refine iz_iload d0_615 l4 ?_
  refine iz_iconst (nI 2) d0_617 (by decide) ?_
  refine iz_iadd d0_618 ?_
  rw [nI_add]
  refine iz_iald d0_619 (Or.inr B.1.1) (by rw [B.1.2.1]; exact vp_nI (by omega) (by omega)) ?_
  rw [nI_clamp (by omega), B.1.2.2]
  refine iz_callV [_, _] d0_620 ok17 rm0_17 cl0_76 rfl rfl (Nat.le_of_ble_eq_true rfl) (Nat.le_of_ble_eq_true rfl) C.z.2 (oc h x C) ?_
  rintro rv h1 ⟨rfl, p1, p2⟩
  obtain ⟨B1, m1⟩ := B.c p1
  refine iz_aload_n d0_623 l2 ?_
  refine iz_aload_n d0_624 l0 ?_
  refine iz_iload d0_625 l4 ?_
  refine iz_iconst (nI 1) d0_627 (by decide) ?_
  refine iz_iadd d0_628 ?_
  rw [nI_add]
  refine iz_iald d0_629 (Or.inr B1.1.1) (by rw [B1.1.2.1]; exact vp_nI (by omega) (by omega)) ?_
  rw [nI_clamp (by omega), B1.1.2.2]
  refine iz_aload_n d0_630 l0 ?_
  refine iz_iload d0_631 l4 ?_
  refine iz_iconst (nI 2) d0_633 (by decide) ?_
  refine iz_iadd d0_634 ?_
  rw [nI_add]
  refine iz_iald d0_635 (Or.inr B1.1.1) (by rw [B1.1.2.1]; exact vp_nI (by omega) (by omega)) ?_
  rw [nI_clamp (by omega), B1.1.2.2]
  refine iz_callV [_, _] d0_636 ok126 rm0_126 cl0_79 rfl rfl (Nat.le_of_ble_eq_true rfl) (Nat.le_of_ble_eq_true rfl) B1.2.2.2.2.1 (om h1 (x + 30) B1.2.2.2.2 (m1.trans hS)) ?_
  rintro rv h2 ⟨rfl, q2⟩
  obtain ⟨B2, m2, n2, u2, -⟩ := B1.m q2
  refine iz_icmp_eq 995 d0_639 (by decide) (fun _ => ?_) (fun w => absurd rfl w)
  exact kk lv h2 Q l0 l1 l2 l3 l4 B2 (cB_mR J2.1.1.1 p2 B1.2.2.2.2 (Nat.le_refl _) q2) m2 J2 (by rw [n2]; exact p1.2.1) (by rw [u2]; exact p1.2.2.2.1)
set_option maxRecDepth 100000 in
set_option maxHeartbeats 4000000 in
theorem k_suspend {G : ix_G} {xs : Nat → Int32} {sc L x i K : Nat} {h : ix_H} {P : iy_O → ix_H → Prop} {lv : List (Nat × Value)} {S : MS} (hL : L ≤ 3585) (hi : i + 7 ≤ L) (l0 : lv.lookup 0 = some (.ref sc)) (l1 : lv.lookup 1 = some (.ref x)) (l2 : lv.lookup 2 = some (.ref (x + 30))) (l3 : lv.lookup 3 = some (.ref (x + 74))) (l4 : lv.lookup 4 = some (.int (nI i))) (B : LB xs sc L x h) (C : cB h x S) (hS : ms h (x + 30) = S) (J : iJ K S) (kk : LC G xs sc L x i K h P) : iy_E G 0 644 lv [] h P := by
  by_cases z : xs (i + 3) = 0
  · obtain ⟨v, Q, oc, om, J2⟩ := op_suspend (G := G) J (xs (i + 1)) (xs (i + 2)) (on := 0) (Or.inl rfl)
    refine iz_aload_n d0_644 l1 ?_
    refine iz_aload_n d0_645 l0 ?_
    refine iz_iload d0_646 l4 ?_
    refine iz_iconst (nI 1) d0_648 (by decide) ?_
    refine iz_iadd d0_649 ?_
    rw [nI_add]
    refine iz_iald d0_650 (Or.inr B.1.1) (by rw [B.1.2.1]; exact vp_nI (by omega) (by omega)) ?_
    rw [nI_clamp (by omega), B.1.2.2]
    refine iz_aload_n d0_651 l0 ?_
    refine iz_iload d0_652 l4 ?_
    refine iz_iconst (nI 2) d0_654 (by decide) ?_
    refine iz_iadd d0_655 ?_
    rw [nI_add]
    refine iz_iald d0_656 (Or.inr B.1.1) (by rw [B.1.2.1]; exact vp_nI (by omega) (by omega)) ?_
    rw [nI_clamp (by omega), B.1.2.2]
    refine iz_aload_n d0_657 l0 ?_
    refine iz_iload d0_658 l4 ?_
    refine iz_iconst (nI 3) d0_660 (by decide) ?_
    refine iz_iadd d0_661 ?_
    rw [nI_add]
    refine iz_iald d0_662 (Or.inr B.1.1) (by rw [B.1.2.1]; exact vp_nI (by omega) (by omega)) ?_
    rw [nI_clamp (by omega), B.1.2.2]
    refine iz_if_eq 670 d0_663 (by decide) (fun _ => ?_) (fun w => absurd z w)
    refine iz_iconst 0 d0_670 (by decide) ?_
    refine iz_callV [_, _, _] d0_671 ok27 rm0_27 cl0_80 rfl rfl (Nat.le_of_ble_eq_true rfl) (Nat.le_of_ble_eq_true rfl) C.z.2 (oc h x C) ?_
    rintro rv h1 ⟨rfl, p1, p2⟩
    obtain ⟨B1, m1⟩ := B.c p1
    refine iz_aload_n d0_674 l2 ?_
    refine iz_aload_n d0_675 l0 ?_
    refine iz_iload d0_676 l4 ?_
    refine iz_iconst (nI 1) d0_678 (by decide) ?_
    refine iz_iadd d0_679 ?_
    rw [nI_add]
    refine iz_iald d0_680 (Or.inr B1.1.1) (by rw [B1.1.2.1]; exact vp_nI (by omega) (by omega)) ?_
    rw [nI_clamp (by omega), B1.1.2.2]
    refine iz_aload_n d0_681 l0 ?_
    refine iz_iload d0_682 l4 ?_
    refine iz_iconst (nI 2) d0_684 (by decide) ?_
    refine iz_iadd d0_685 ?_
    rw [nI_add]
    refine iz_iald d0_686 (Or.inr B1.1.1) (by rw [B1.1.2.1]; exact vp_nI (by omega) (by omega)) ?_
    rw [nI_clamp (by omega), B1.1.2.2]
    refine iz_aload_n d0_687 l0 ?_
    refine iz_iload d0_688 l4 ?_
    refine iz_iconst (nI 3) d0_690 (by decide) ?_
    refine iz_iadd d0_691 ?_
    rw [nI_add]
    refine iz_iald d0_692 (Or.inr B1.1.1) (by rw [B1.1.2.1]; exact vp_nI (by omega) (by omega)) ?_
    rw [nI_clamp (by omega), B1.1.2.2]
    refine iz_if_eq 700 d0_693 (by decide) (fun _ => ?_) (fun w => absurd z w)
    refine iz_iconst 0 d0_700 (by decide) ?_
    refine iz_callV [_, _, _] d0_701 ok128 rm0_128 cl0_84 rfl rfl (Nat.le_of_ble_eq_true rfl) (Nat.le_of_ble_eq_true rfl) B1.2.2.2.2.1 (om h1 (x + 30) B1.2.2.2.2 (m1.trans hS)) ?_
    rintro rv h2 ⟨rfl, q2⟩
    obtain ⟨B2, m2, n2, u2, -⟩ := B1.m q2
    refine iz_icmp_eq 995 d0_704 (by decide) (fun _ => ?_) (fun w => absurd rfl w)
    exact kk lv h2 Q l0 l1 l2 l3 l4 B2 (cB_mR J2.1.1.1 p2 B1.2.2.2.2 (Nat.le_refl _) q2) m2 J2 (by rw [n2]; exact p1.2.1) (by rw [u2]; exact p1.2.2.2.1)
  · obtain ⟨v, Q, oc, om, J2⟩ := op_suspend (G := G) J (xs (i + 1)) (xs (i + 2)) (on := 1) (Or.inr rfl)
    refine iz_aload_n d0_644 l1 ?_
    refine iz_aload_n d0_645 l0 ?_
    refine iz_iload d0_646 l4 ?_
    refine iz_iconst (nI 1) d0_648 (by decide) ?_
    refine iz_iadd d0_649 ?_
    rw [nI_add]
    refine iz_iald d0_650 (Or.inr B.1.1) (by rw [B.1.2.1]; exact vp_nI (by omega) (by omega)) ?_
    rw [nI_clamp (by omega), B.1.2.2]
    refine iz_aload_n d0_651 l0 ?_
    refine iz_iload d0_652 l4 ?_
    refine iz_iconst (nI 2) d0_654 (by decide) ?_
    refine iz_iadd d0_655 ?_
    rw [nI_add]
    refine iz_iald d0_656 (Or.inr B.1.1) (by rw [B.1.2.1]; exact vp_nI (by omega) (by omega)) ?_
    rw [nI_clamp (by omega), B.1.2.2]
    refine iz_aload_n d0_657 l0 ?_
    refine iz_iload d0_658 l4 ?_
    refine iz_iconst (nI 3) d0_660 (by decide) ?_
    refine iz_iadd d0_661 ?_
    rw [nI_add]
    refine iz_iald d0_662 (Or.inr B.1.1) (by rw [B.1.2.1]; exact vp_nI (by omega) (by omega)) ?_
    rw [nI_clamp (by omega), B.1.2.2]
    refine iz_if_eq 670 d0_663 (by decide) (fun w => absurd w z) (fun _ => ?_)
    refine iz_iconst 1 d0_666 (by decide) ?_
    refine iz_goto 671 d0_667 (by decide) ?_
    refine iz_callV [_, _, _] d0_671 ok27 rm0_27 cl0_80 rfl rfl (Nat.le_of_ble_eq_true rfl) (Nat.le_of_ble_eq_true rfl) C.z.2 (oc h x C) ?_
    rintro rv h1 ⟨rfl, p1, p2⟩
    obtain ⟨B1, m1⟩ := B.c p1
    refine iz_aload_n d0_674 l2 ?_
    refine iz_aload_n d0_675 l0 ?_
    refine iz_iload d0_676 l4 ?_
    refine iz_iconst (nI 1) d0_678 (by decide) ?_
    refine iz_iadd d0_679 ?_
    rw [nI_add]
    refine iz_iald d0_680 (Or.inr B1.1.1) (by rw [B1.1.2.1]; exact vp_nI (by omega) (by omega)) ?_
    rw [nI_clamp (by omega), B1.1.2.2]
    refine iz_aload_n d0_681 l0 ?_
    refine iz_iload d0_682 l4 ?_
    refine iz_iconst (nI 2) d0_684 (by decide) ?_
    refine iz_iadd d0_685 ?_
    rw [nI_add]
    refine iz_iald d0_686 (Or.inr B1.1.1) (by rw [B1.1.2.1]; exact vp_nI (by omega) (by omega)) ?_
    rw [nI_clamp (by omega), B1.1.2.2]
    refine iz_aload_n d0_687 l0 ?_
    refine iz_iload d0_688 l4 ?_
    refine iz_iconst (nI 3) d0_690 (by decide) ?_
    refine iz_iadd d0_691 ?_
    rw [nI_add]
    refine iz_iald d0_692 (Or.inr B1.1.1) (by rw [B1.1.2.1]; exact vp_nI (by omega) (by omega)) ?_
    rw [nI_clamp (by omega), B1.1.2.2]
    refine iz_if_eq 700 d0_693 (by decide) (fun w => absurd w z) (fun _ => ?_)
    refine iz_iconst 1 d0_696 (by decide) ?_
    refine iz_goto 701 d0_697 (by decide) ?_
    refine iz_callV [_, _, _] d0_701 ok128 rm0_128 cl0_84 rfl rfl (Nat.le_of_ble_eq_true rfl) (Nat.le_of_ble_eq_true rfl) B1.2.2.2.2.1 (om h1 (x + 30) B1.2.2.2.2 (m1.trans hS)) ?_
    rintro rv h2 ⟨rfl, q2⟩
    obtain ⟨B2, m2, n2, u2, -⟩ := B1.m q2
    refine iz_icmp_eq 995 d0_704 (by decide) (fun _ => ?_) (fun w => absurd rfl w)
    exact kk lv h2 Q l0 l1 l2 l3 l4 B2 (cB_mR J2.1.1.1 p2 B1.2.2.2.2 (Nat.le_refl _) q2) m2 J2 (by rw [n2]; exact p1.2.1) (by rw [u2]; exact p1.2.2.2.1)
set_option maxRecDepth 100000 in
set_option maxHeartbeats 4000000 in
theorem k_tick {G : ix_G} {xs : Nat → Int32} {sc L x i K : Nat} {h : ix_H} {P : iy_O → ix_H → Prop} {lv : List (Nat × Value)} {S : MS} (hL : L ≤ 3585) (hi : i + 7 ≤ L) (l0 : lv.lookup 0 = some (.ref sc)) (l1 : lv.lookup 1 = some (.ref x)) (l2 : lv.lookup 2 = some (.ref (x + 30))) (l3 : lv.lookup 3 = some (.ref (x + 74))) (l4 : lv.lookup 4 = some (.int (nI i))) (B : LB xs sc L x h) (C : cB h x S) (hS : ms h (x + 30) = S) (J : iJ K S) (kk : LC G xs sc L x i K h P) : iy_E G 0 709 lv [] h P := by
  obtain ⟨v, Q, oc, om, J2⟩ := op_tick (G := G) J 
  refine iz_aload_n d0_709 l1 ?_
  refine iz_callV [] d0_710 ok29 rm0_29 cl0_85 rfl rfl (Nat.le_of_ble_eq_true rfl) (Nat.le_of_ble_eq_true rfl) C.z.2 (oc h x C) ?_
  rintro rv h1 ⟨rfl, p1, p2⟩
  obtain ⟨B1, m1⟩ := B.c p1
  refine iz_aload_n d0_713 l2 ?_
  refine iz_callV [] d0_714 ok129 rm0_129 cl0_88 rfl rfl (Nat.le_of_ble_eq_true rfl) (Nat.le_of_ble_eq_true rfl) B1.2.2.2.2.1 (om h1 (x + 30) B1.2.2.2.2 (m1.trans hS)) ?_
  rintro rv h2 ⟨rfl, q2⟩
  obtain ⟨B2, m2, n2, u2, -⟩ := B1.m q2
  refine iz_icmp_eq 995 d0_717 (by decide) (fun _ => ?_) (fun w => absurd rfl w)
  exact kk lv h2 Q l0 l1 l2 l3 l4 B2 (cB_mR J2.1.1.1 p2 B1.2.2.2.2 (Nat.le_refl _) q2) m2 J2 (by rw [n2]; exact p1.2.1) (by rw [u2]; exact p1.2.2.2.1)
set_option maxRecDepth 100000 in
set_option maxHeartbeats 4000000 in
theorem k_deliver {G : ix_G} {xs : Nat → Int32} {sc L x i K : Nat} {h : ix_H} {P : iy_O → ix_H → Prop} {lv : List (Nat × Value)} {S : MS} (hL : L ≤ 3585) (hi : i + 7 ≤ L) (l0 : lv.lookup 0 = some (.ref sc)) (l1 : lv.lookup 1 = some (.ref x)) (l2 : lv.lookup 2 = some (.ref (x + 30))) (l3 : lv.lookup 3 = some (.ref (x + 74))) (l4 : lv.lookup 4 = some (.int (nI i))) (B : LB xs sc L x h) (C : cB h x S) (hS : ms h (x + 30) = S) (J : iJ K S) (kk : LC G xs sc L x i K h P) : iy_E G 0 722 lv [] h P := by
  obtain ⟨v, Q, oc, om, J2⟩ := op_deliver (G := G) J (xs (i + 1))
  refine iz_aload_n d0_722 l1 ?_
  refine iz_aload_n d0_723 l0 ?_
  refine iz_iload d0_724 l4 ?_
  refine iz_iconst (nI 1) d0_726 (by decide) ?_
  refine iz_iadd d0_727 ?_
  rw [nI_add]
  refine iz_iald d0_728 (Or.inr B.1.1) (by rw [B.1.2.1]; exact vp_nI (by omega) (by omega)) ?_
  rw [nI_clamp (by omega), B.1.2.2]
  refine iz_callV [_] d0_729 ok60 rm0_60 cl0_89 rfl rfl (Nat.le_of_ble_eq_true rfl) (Nat.le_of_ble_eq_true rfl) C.z.2 (oc h x C) ?_
  rintro rv h1 ⟨rfl, p1, p2⟩
  obtain ⟨B1, m1⟩ := B.c p1
  refine iz_aload_n d0_732 l2 ?_
  refine iz_aload_n d0_733 l0 ?_
  refine iz_iload d0_734 l4 ?_
  refine iz_iconst (nI 1) d0_736 (by decide) ?_
  refine iz_iadd d0_737 ?_
  rw [nI_add]
  refine iz_iald d0_738 (Or.inr B1.1.1) (by rw [B1.1.2.1]; exact vp_nI (by omega) (by omega)) ?_
  rw [nI_clamp (by omega), B1.1.2.2]
  refine iz_callV [_] d0_739 ok147 rm0_147 cl0_93 rfl rfl (Nat.le_of_ble_eq_true rfl) (Nat.le_of_ble_eq_true rfl) B1.2.2.2.2.1 (om h1 (x + 30) B1.2.2.2.2 (m1.trans hS)) ?_
  rintro rv h2 ⟨rfl, q2⟩
  obtain ⟨B2, m2, n2, u2, -⟩ := B1.m q2
  refine iz_icmp_eq 995 d0_742 (by decide) (fun _ => ?_) (fun w => absurd rfl w)
  exact kk lv h2 Q l0 l1 l2 l3 l4 B2 (cB_mR J2.1.1.1 p2 B1.2.2.2.2 (Nat.le_refl _) q2) m2 J2 (by rw [n2]; exact p1.2.1) (by rw [u2]; exact p1.2.2.2.1)
set_option maxRecDepth 100000 in
set_option maxHeartbeats 4000000 in
theorem k_lose {G : ix_G} {xs : Nat → Int32} {sc L x i K : Nat} {h : ix_H} {P : iy_O → ix_H → Prop} {lv : List (Nat × Value)} {S : MS} (hL : L ≤ 3585) (hi : i + 7 ≤ L) (l0 : lv.lookup 0 = some (.ref sc)) (l1 : lv.lookup 1 = some (.ref x)) (l2 : lv.lookup 2 = some (.ref (x + 30))) (l3 : lv.lookup 3 = some (.ref (x + 74))) (l4 : lv.lookup 4 = some (.int (nI i))) (B : LB xs sc L x h) (C : cB h x S) (hS : ms h (x + 30) = S) (J : iJ K S) (kk : LC G xs sc L x i K h P) : iy_E G 0 747 lv [] h P := by
  obtain ⟨v, Q, oc, om, J2⟩ := op_lose (G := G) J (xs (i + 1))
  refine iz_aload_n d0_747 l1 ?_
  refine iz_aload_n d0_748 l0 ?_
  refine iz_iload d0_749 l4 ?_
  refine iz_iconst (nI 1) d0_751 (by decide) ?_
  refine iz_iadd d0_752 ?_
  rw [nI_add]
  refine iz_iald d0_753 (Or.inr B.1.1) (by rw [B.1.2.1]; exact vp_nI (by omega) (by omega)) ?_
  rw [nI_clamp (by omega), B.1.2.2]
  refine iz_callV [_] d0_754 ok90 rm0_90 cl0_94 rfl rfl (Nat.le_of_ble_eq_true rfl) (Nat.le_of_ble_eq_true rfl) C.z.2 (oc h x C) ?_
  rintro rv h1 ⟨rfl, p1, p2⟩
  obtain ⟨B1, m1⟩ := B.c p1
  refine iz_aload_n d0_757 l2 ?_
  refine iz_aload_n d0_758 l0 ?_
  refine iz_iload d0_759 l4 ?_
  refine iz_iconst (nI 1) d0_761 (by decide) ?_
  refine iz_iadd d0_762 ?_
  rw [nI_add]
  refine iz_iald d0_763 (Or.inr B1.1.1) (by rw [B1.1.2.1]; exact vp_nI (by omega) (by omega)) ?_
  rw [nI_clamp (by omega), B1.1.2.2]
  refine iz_callV [_] d0_764 ok157 rm0_157 cl0_97 rfl rfl (Nat.le_of_ble_eq_true rfl) (Nat.le_of_ble_eq_true rfl) B1.2.2.2.2.1 (om h1 (x + 30) B1.2.2.2.2 (m1.trans hS)) ?_
  rintro rv h2 ⟨rfl, q2⟩
  obtain ⟨B2, m2, n2, u2, -⟩ := B1.m q2
  refine iz_icmp_eq 995 d0_767 (by decide) (fun _ => ?_) (fun w => absurd rfl w)
  exact kk lv h2 Q l0 l1 l2 l3 l4 B2 (cB_mR J2.1.1.1 p2 B1.2.2.2.2 (Nat.le_refl _) q2) m2 J2 (by rw [n2]; exact p1.2.1) (by rw [u2]; exact p1.2.2.2.1)
set_option maxRecDepth 100000 in
set_option maxHeartbeats 4000000 in
theorem k_copy {G : ix_G} {xs : Nat → Int32} {sc L x i K : Nat} {h : ix_H} {P : iy_O → ix_H → Prop} {lv : List (Nat × Value)} {S : MS} (hL : L ≤ 3585) (hi : i + 7 ≤ L) (l0 : lv.lookup 0 = some (.ref sc)) (l1 : lv.lookup 1 = some (.ref x)) (l2 : lv.lookup 2 = some (.ref (x + 30))) (l3 : lv.lookup 3 = some (.ref (x + 74))) (l4 : lv.lookup 4 = some (.int (nI i))) (B : LB xs sc L x h) (C : cB h x S) (hS : ms h (x + 30) = S) (J : iJ K S) (kk : LC G xs sc L x i K h P) : iy_E G 0 772 lv [] h P := by
  obtain ⟨v, Q, oc, om, J2⟩ := op_copy (G := G) J (xs (i + 1))
  refine iz_aload_n d0_772 l1 ?_
  refine iz_aload_n d0_773 l0 ?_
  refine iz_iload d0_774 l4 ?_
  refine iz_iconst (nI 1) d0_776 (by decide) ?_
  refine iz_iadd d0_777 ?_
  rw [nI_add]
  refine iz_iald d0_778 (Or.inr B.1.1) (by rw [B.1.2.1]; exact vp_nI (by omega) (by omega)) ?_
  rw [nI_clamp (by omega), B.1.2.2]
  refine iz_callV [_] d0_779 ok91 rm0_91 cl0_98 rfl rfl (Nat.le_of_ble_eq_true rfl) (Nat.le_of_ble_eq_true rfl) C.z.2 (oc h x C) ?_
  rintro rv h1 ⟨rfl, p1, p2⟩
  obtain ⟨B1, m1⟩ := B.c p1
  refine iz_aload_n d0_782 l2 ?_
  refine iz_aload_n d0_783 l0 ?_
  refine iz_iload d0_784 l4 ?_
  refine iz_iconst (nI 1) d0_786 (by decide) ?_
  refine iz_iadd d0_787 ?_
  rw [nI_add]
  refine iz_iald d0_788 (Or.inr B1.1.1) (by rw [B1.1.2.1]; exact vp_nI (by omega) (by omega)) ?_
  rw [nI_clamp (by omega), B1.1.2.2]
  refine iz_callV [_] d0_789 ok158 rm0_158 cl0_101 rfl rfl (Nat.le_of_ble_eq_true rfl) (Nat.le_of_ble_eq_true rfl) B1.2.2.2.2.1 (om h1 (x + 30) B1.2.2.2.2 (m1.trans hS)) ?_
  rintro rv h2 ⟨rfl, q2⟩
  obtain ⟨B2, m2, n2, u2, -⟩ := B1.m q2
  refine iz_icmp_eq 995 d0_792 (by decide) (fun _ => ?_) (fun w => absurd rfl w)
  exact kk lv h2 Q l0 l1 l2 l3 l4 B2 (cB_mR J2.1.1.1 p2 B1.2.2.2.2 (Nat.le_refl _) q2) m2 J2 (by rw [n2]; exact p1.2.1) (by rw [u2]; exact p1.2.2.2.1)
set_option maxRecDepth 100000 in
set_option maxHeartbeats 4000000 in
theorem k_spoil {G : ix_G} {xs : Nat → Int32} {sc L x i K : Nat} {h : ix_H} {P : iy_O → ix_H → Prop} {lv : List (Nat × Value)} {S : MS} (hL : L ≤ 3585) (hi : i + 7 ≤ L) (l0 : lv.lookup 0 = some (.ref sc)) (l1 : lv.lookup 1 = some (.ref x)) (l2 : lv.lookup 2 = some (.ref (x + 30))) (l3 : lv.lookup 3 = some (.ref (x + 74))) (l4 : lv.lookup 4 = some (.int (nI i))) (B : LB xs sc L x h) (C : cB h x S) (hS : ms h (x + 30) = S) (J : iJ K S) (kk : LC G xs sc L x i K h P) : iy_E G 0 797 lv [] h P := by
  obtain ⟨v, Q, oc, om, J2⟩ := op_spoil (G := G) J (xs (i + 1)) (xs (i + 2))
  refine iz_aload_n d0_797 l1 ?_
  refine iz_aload_n d0_798 l0 ?_
  refine iz_iload d0_799 l4 ?_
  refine iz_iconst (nI 1) d0_801 (by decide) ?_
  refine iz_iadd d0_802 ?_
  rw [nI_add]
  refine iz_iald d0_803 (Or.inr B.1.1) (by rw [B.1.2.1]; exact vp_nI (by omega) (by omega)) ?_
  rw [nI_clamp (by omega), B.1.2.2]
  refine iz_aload_n d0_804 l0 ?_
  refine iz_iload d0_805 l4 ?_
  refine iz_iconst (nI 2) d0_807 (by decide) ?_
  refine iz_iadd d0_808 ?_
  rw [nI_add]
  refine iz_iald d0_809 (Or.inr B.1.1) (by rw [B.1.2.1]; exact vp_nI (by omega) (by omega)) ?_
  rw [nI_clamp (by omega), B.1.2.2]
  refine iz_callV [_, _] d0_810 ok94 rm0_94 cl0_102 rfl rfl (Nat.le_of_ble_eq_true rfl) (Nat.le_of_ble_eq_true rfl) C.z.2 (oc h x C) ?_
  rintro rv h1 ⟨rfl, p1, p2⟩
  obtain ⟨B1, m1⟩ := B.c p1
  refine iz_aload_n d0_813 l2 ?_
  refine iz_aload_n d0_814 l0 ?_
  refine iz_iload d0_815 l4 ?_
  refine iz_iconst (nI 1) d0_817 (by decide) ?_
  refine iz_iadd d0_818 ?_
  rw [nI_add]
  refine iz_iald d0_819 (Or.inr B1.1.1) (by rw [B1.1.2.1]; exact vp_nI (by omega) (by omega)) ?_
  rw [nI_clamp (by omega), B1.1.2.2]
  refine iz_aload_n d0_820 l0 ?_
  refine iz_iload d0_821 l4 ?_
  refine iz_iconst (nI 2) d0_823 (by decide) ?_
  refine iz_iadd d0_824 ?_
  rw [nI_add]
  refine iz_iald d0_825 (Or.inr B1.1.1) (by rw [B1.1.2.1]; exact vp_nI (by omega) (by omega)) ?_
  rw [nI_clamp (by omega), B1.1.2.2]
  refine iz_callV [_, _] d0_826 ok159 rm0_159 cl0_105 rfl rfl (Nat.le_of_ble_eq_true rfl) (Nat.le_of_ble_eq_true rfl) B1.2.2.2.2.1 (om h1 (x + 30) B1.2.2.2.2 (m1.trans hS)) ?_
  rintro rv h2 ⟨rfl, q2⟩
  obtain ⟨B2, m2, n2, u2, -⟩ := B1.m q2
  refine iz_icmp_eq 995 d0_829 (by decide) (fun _ => ?_) (fun w => absurd rfl w)
  exact kk lv h2 Q l0 l1 l2 l3 l4 B2 (cB_mR J2.1.1.1 p2 B1.2.2.2.2 (Nat.le_refl _) q2) m2 J2 (by rw [n2]; exact p1.2.1) (by rw [u2]; exact p1.2.2.2.1)
set_option maxRecDepth 100000 in
set_option maxHeartbeats 4000000 in
theorem k_units {G : ix_G} {xs : Nat → Int32} {sc L x i K : Nat} {h : ix_H} {P : iy_O → ix_H → Prop} {lv : List (Nat × Value)} {S : MS} (hL : L ≤ 3585) (hi : i + 7 ≤ L) (l0 : lv.lookup 0 = some (.ref sc)) (l1 : lv.lookup 1 = some (.ref x)) (l2 : lv.lookup 2 = some (.ref (x + 30))) (l3 : lv.lookup 3 = some (.ref (x + 74))) (l4 : lv.lookup 4 = some (.int (nI i))) (B : LB xs sc L x h) (C : cB h x S) (hS : ms h (x + 30) = S) (J : iJ K S) (kk : LC G xs sc L x i K h P) : iy_E G 0 834 lv [] h P := by
  obtain ⟨v, Q, oc, om, J2⟩ := op_units (G := G) J 
  refine iz_aload_n d0_834 l1 ?_
  refine iz_callV [] d0_835 ok95 rm0_95 cl0_106 rfl rfl (Nat.le_of_ble_eq_true rfl) (Nat.le_of_ble_eq_true rfl) C.z.2 (oc h x C) ?_
  rintro rv h1 ⟨rfl, p1, p2⟩
  obtain ⟨B1, m1⟩ := B.c p1
  refine iz_aload_n d0_838 l2 ?_
  refine iz_callV [] d0_839 ok160 rm0_160 cl0_109 rfl rfl (Nat.le_of_ble_eq_true rfl) (Nat.le_of_ble_eq_true rfl) B1.2.2.2.2.1 (om h1 (x + 30) B1.2.2.2.2 (m1.trans hS)) ?_
  rintro rv h2 ⟨rfl, q2⟩
  obtain ⟨B2, m2, n2, u2, -⟩ := B1.m q2
  refine iz_icmp_eq 995 d0_842 (by decide) (fun _ => ?_) (fun w => absurd rfl w)
  exact kk lv h2 Q l0 l1 l2 l3 l4 B2 (cB_mR J2.1.1.1 p2 B1.2.2.2.2 (Nat.le_refl _) q2) m2 J2 (by rw [n2]; exact p1.2.1) (by rw [u2]; exact p1.2.2.2.1)
set_option maxRecDepth 100000 in
set_option maxHeartbeats 4000000 in
theorem k_unit {G : ix_G} {xs : Nat → Int32} {sc L x i K : Nat} {h : ix_H} {P : iy_O → ix_H → Prop} {lv : List (Nat × Value)} {S : MS} (hL : L ≤ 3585) (hi : i + 7 ≤ L) (l0 : lv.lookup 0 = some (.ref sc)) (l1 : lv.lookup 1 = some (.ref x)) (l2 : lv.lookup 2 = some (.ref (x + 30))) (l3 : lv.lookup 3 = some (.ref (x + 74))) (l4 : lv.lookup 4 = some (.int (nI i))) (B : LB xs sc L x h) (C : cB h x S) (hS : ms h (x + 30) = S) (J : iJ K S) (kk : LC G xs sc L x i K h P) : iy_E G 0 847 lv [] h P := by
  obtain ⟨v, Q, oc, om, J2⟩ := op_unit (G := G) J (xs (i + 1)) (xs (i + 2))
  refine iz_aload_n d0_847 l1 ?_
  refine iz_aload_n d0_848 l0 ?_
  refine iz_iload d0_849 l4 ?_
  refine iz_iconst (nI 1) d0_851 (by decide) ?_
  refine iz_iadd d0_852 ?_
  rw [nI_add]
  refine iz_iald d0_853 (Or.inr B.1.1) (by rw [B.1.2.1]; exact vp_nI (by omega) (by omega)) ?_
  rw [nI_clamp (by omega), B.1.2.2]
  refine iz_aload_n d0_854 l0 ?_
  refine iz_iload d0_855 l4 ?_
  refine iz_iconst (nI 2) d0_857 (by decide) ?_
  refine iz_iadd d0_858 ?_
  rw [nI_add]
  refine iz_iald d0_859 (Or.inr B.1.1) (by rw [B.1.2.1]; exact vp_nI (by omega) (by omega)) ?_
  rw [nI_clamp (by omega), B.1.2.2]
  refine iz_callV [_, _] d0_860 ok96 rm0_96 cl0_110 rfl rfl (Nat.le_of_ble_eq_true rfl) (Nat.le_of_ble_eq_true rfl) C.z.2 (oc h x C) ?_
  rintro rv h1 ⟨rfl, p1, p2⟩
  obtain ⟨B1, m1⟩ := B.c p1
  refine iz_aload_n d0_863 l2 ?_
  refine iz_aload_n d0_864 l0 ?_
  refine iz_iload d0_865 l4 ?_
  refine iz_iconst (nI 1) d0_867 (by decide) ?_
  refine iz_iadd d0_868 ?_
  rw [nI_add]
  refine iz_iald d0_869 (Or.inr B1.1.1) (by rw [B1.1.2.1]; exact vp_nI (by omega) (by omega)) ?_
  rw [nI_clamp (by omega), B1.1.2.2]
  refine iz_aload_n d0_870 l0 ?_
  refine iz_iload d0_871 l4 ?_
  refine iz_iconst (nI 2) d0_873 (by decide) ?_
  refine iz_iadd d0_874 ?_
  rw [nI_add]
  refine iz_iald d0_875 (Or.inr B1.1.1) (by rw [B1.1.2.1]; exact vp_nI (by omega) (by omega)) ?_
  rw [nI_clamp (by omega), B1.1.2.2]
  refine iz_callV [_, _] d0_876 ok161 rm0_161 cl0_113 rfl rfl (Nat.le_of_ble_eq_true rfl) (Nat.le_of_ble_eq_true rfl) B1.2.2.2.2.1 (om h1 (x + 30) B1.2.2.2.2 (m1.trans hS)) ?_
  rintro rv h2 ⟨rfl, q2⟩
  obtain ⟨B2, m2, n2, u2, -⟩ := B1.m q2
  refine iz_icmp_eq 995 d0_879 (by decide) (fun _ => ?_) (fun w => absurd rfl w)
  exact kk lv h2 Q l0 l1 l2 l3 l4 B2 (cB_mR J2.1.1.1 p2 B1.2.2.2.2 (Nat.le_refl _) q2) m2 J2 (by rw [n2]; exact p1.2.1) (by rw [u2]; exact p1.2.2.2.1)
set_option maxRecDepth 100000 in
set_option maxHeartbeats 4000000 in
theorem k_sender {G : ix_G} {xs : Nat → Int32} {sc L x i K : Nat} {h : ix_H} {P : iy_O → ix_H → Prop} {lv : List (Nat × Value)} {S : MS} (hL : L ≤ 3585) (hi : i + 7 ≤ L) (l0 : lv.lookup 0 = some (.ref sc)) (l1 : lv.lookup 1 = some (.ref x)) (l2 : lv.lookup 2 = some (.ref (x + 30))) (l3 : lv.lookup 3 = some (.ref (x + 74))) (l4 : lv.lookup 4 = some (.int (nI i))) (B : LB xs sc L x h) (C : cB h x S) (hS : ms h (x + 30) = S) (J : iJ K S) (kk : LC G xs sc L x i K h P) : iy_E G 0 884 lv [] h P := by
  obtain ⟨v, Q, oc, om, J2⟩ := op_sender (G := G) J (xs (i + 1)) (xs (i + 2))
  refine iz_aload_n d0_884 l1 ?_
  refine iz_aload_n d0_885 l0 ?_
  refine iz_iload d0_886 l4 ?_
  refine iz_iconst (nI 1) d0_888 (by decide) ?_
  refine iz_iadd d0_889 ?_
  rw [nI_add]
  refine iz_iald d0_890 (Or.inr B.1.1) (by rw [B.1.2.1]; exact vp_nI (by omega) (by omega)) ?_
  rw [nI_clamp (by omega), B.1.2.2]
  refine iz_aload_n d0_891 l0 ?_
  refine iz_iload d0_892 l4 ?_
  refine iz_iconst (nI 2) d0_894 (by decide) ?_
  refine iz_iadd d0_895 ?_
  rw [nI_add]
  refine iz_iald d0_896 (Or.inr B.1.1) (by rw [B.1.2.1]; exact vp_nI (by omega) (by omega)) ?_
  rw [nI_clamp (by omega), B.1.2.2]
  refine iz_callV [_, _] d0_897 ok97 rm0_97 cl0_114 rfl rfl (Nat.le_of_ble_eq_true rfl) (Nat.le_of_ble_eq_true rfl) C.z.2 (oc h x C) ?_
  rintro rv h1 ⟨rfl, p1, p2⟩
  obtain ⟨B1, m1⟩ := B.c p1
  refine iz_aload_n d0_900 l2 ?_
  refine iz_aload_n d0_901 l0 ?_
  refine iz_iload d0_902 l4 ?_
  refine iz_iconst (nI 1) d0_904 (by decide) ?_
  refine iz_iadd d0_905 ?_
  rw [nI_add]
  refine iz_iald d0_906 (Or.inr B1.1.1) (by rw [B1.1.2.1]; exact vp_nI (by omega) (by omega)) ?_
  rw [nI_clamp (by omega), B1.1.2.2]
  refine iz_aload_n d0_907 l0 ?_
  refine iz_iload d0_908 l4 ?_
  refine iz_iconst (nI 2) d0_910 (by decide) ?_
  refine iz_iadd d0_911 ?_
  rw [nI_add]
  refine iz_iald d0_912 (Or.inr B1.1.1) (by rw [B1.1.2.1]; exact vp_nI (by omega) (by omega)) ?_
  rw [nI_clamp (by omega), B1.1.2.2]
  refine iz_callV [_, _] d0_913 ok162 rm0_162 cl0_117 rfl rfl (Nat.le_of_ble_eq_true rfl) (Nat.le_of_ble_eq_true rfl) B1.2.2.2.2.1 (om h1 (x + 30) B1.2.2.2.2 (m1.trans hS)) ?_
  rintro rv h2 ⟨rfl, q2⟩
  obtain ⟨B2, m2, n2, u2, -⟩ := B1.m q2
  refine iz_icmp_eq 995 d0_916 (by decide) (fun _ => ?_) (fun w => absurd rfl w)
  exact kk lv h2 Q l0 l1 l2 l3 l4 B2 (cB_mR J2.1.1.1 p2 B1.2.2.2.2 (Nat.le_refl _) q2) m2 J2 (by rw [n2]; exact p1.2.1) (by rw [u2]; exact p1.2.2.2.1)
set_option maxRecDepth 100000 in
set_option maxHeartbeats 4000000 in
theorem k_receiver {G : ix_G} {xs : Nat → Int32} {sc L x i K : Nat} {h : ix_H} {P : iy_O → ix_H → Prop} {lv : List (Nat × Value)} {S : MS} (hL : L ≤ 3585) (hi : i + 7 ≤ L) (l0 : lv.lookup 0 = some (.ref sc)) (l1 : lv.lookup 1 = some (.ref x)) (l2 : lv.lookup 2 = some (.ref (x + 30))) (l3 : lv.lookup 3 = some (.ref (x + 74))) (l4 : lv.lookup 4 = some (.int (nI i))) (B : LB xs sc L x h) (C : cB h x S) (hS : ms h (x + 30) = S) (J : iJ K S) (kk : LC G xs sc L x i K h P) : iy_E G 0 921 lv [] h P := by
  obtain ⟨v, Q, oc, om, J2⟩ := op_receiver (G := G) J (xs (i + 1)) (xs (i + 2))
  refine iz_aload_n d0_921 l1 ?_
  refine iz_aload_n d0_922 l0 ?_
  refine iz_iload d0_923 l4 ?_
  refine iz_iconst (nI 1) d0_925 (by decide) ?_
  refine iz_iadd d0_926 ?_
  rw [nI_add]
  refine iz_iald d0_927 (Or.inr B.1.1) (by rw [B.1.2.1]; exact vp_nI (by omega) (by omega)) ?_
  rw [nI_clamp (by omega), B.1.2.2]
  refine iz_aload_n d0_928 l0 ?_
  refine iz_iload d0_929 l4 ?_
  refine iz_iconst (nI 2) d0_931 (by decide) ?_
  refine iz_iadd d0_932 ?_
  rw [nI_add]
  refine iz_iald d0_933 (Or.inr B.1.1) (by rw [B.1.2.1]; exact vp_nI (by omega) (by omega)) ?_
  rw [nI_clamp (by omega), B.1.2.2]
  refine iz_callV [_, _] d0_934 ok98 rm0_98 cl0_118 rfl rfl (Nat.le_of_ble_eq_true rfl) (Nat.le_of_ble_eq_true rfl) C.z.2 (oc h x C) ?_
  rintro rv h1 ⟨rfl, p1, p2⟩
  obtain ⟨B1, m1⟩ := B.c p1
  refine iz_aload_n d0_937 l2 ?_
  refine iz_aload_n d0_938 l0 ?_
  refine iz_iload d0_939 l4 ?_
  refine iz_iconst (nI 1) d0_941 (by decide) ?_
  refine iz_iadd d0_942 ?_
  rw [nI_add]
  refine iz_iald d0_943 (Or.inr B1.1.1) (by rw [B1.1.2.1]; exact vp_nI (by omega) (by omega)) ?_
  rw [nI_clamp (by omega), B1.1.2.2]
  refine iz_aload_n d0_944 l0 ?_
  refine iz_iload d0_945 l4 ?_
  refine iz_iconst (nI 2) d0_947 (by decide) ?_
  refine iz_iadd d0_948 ?_
  rw [nI_add]
  refine iz_iald d0_949 (Or.inr B1.1.1) (by rw [B1.1.2.1]; exact vp_nI (by omega) (by omega)) ?_
  rw [nI_clamp (by omega), B1.1.2.2]
  refine iz_callV [_, _] d0_950 ok163 rm0_163 cl0_121 rfl rfl (Nat.le_of_ble_eq_true rfl) (Nat.le_of_ble_eq_true rfl) B1.2.2.2.2.1 (om h1 (x + 30) B1.2.2.2.2 (m1.trans hS)) ?_
  rintro rv h2 ⟨rfl, q2⟩
  obtain ⟨B2, m2, n2, u2, -⟩ := B1.m q2
  refine iz_icmp_eq 995 d0_953 (by decide) (fun _ => ?_) (fun w => absurd rfl w)
  exact kk lv h2 Q l0 l1 l2 l3 l4 B2 (cB_mR J2.1.1.1 p2 B1.2.2.2.2 (Nat.le_refl _) q2) m2 J2 (by rw [n2]; exact p1.2.1) (by rw [u2]; exact p1.2.2.2.1)
set_option maxRecDepth 100000 in
set_option maxHeartbeats 4000000 in
theorem k_request {G : ix_G} {xs : Nat → Int32} {sc L x i K : Nat} {h : ix_H} {P : iy_O → ix_H → Prop} {lv : List (Nat × Value)} {S : MS} (hL : L ≤ 3585) (hi : i + 7 ≤ L) (l0 : lv.lookup 0 = some (.ref sc)) (l1 : lv.lookup 1 = some (.ref x)) (l2 : lv.lookup 2 = some (.ref (x + 30))) (l3 : lv.lookup 3 = some (.ref (x + 74))) (l4 : lv.lookup 4 = some (.int (nI i))) (B : LB xs sc L x h) (C : cB h x S) (hS : ms h (x + 30) = S) (J : iJ K S) (kk : LC G xs sc L x i K h P) : iy_E G 0 958 lv [] h P := by
  obtain ⟨v, Q, oc, om, J2⟩ := op_request (G := G) J (xs (i + 1)) (xs (i + 2))
  refine iz_aload_n d0_958 l1 ?_
  refine iz_aload_n d0_959 l0 ?_
  refine iz_iload d0_960 l4 ?_
  refine iz_iconst (nI 1) d0_962 (by decide) ?_
  refine iz_iadd d0_963 ?_
  rw [nI_add]
  refine iz_iald d0_964 (Or.inr B.1.1) (by rw [B.1.2.1]; exact vp_nI (by omega) (by omega)) ?_
  rw [nI_clamp (by omega), B.1.2.2]
  refine iz_aload_n d0_965 l0 ?_
  refine iz_iload d0_966 l4 ?_
  refine iz_iconst (nI 2) d0_968 (by decide) ?_
  refine iz_iadd d0_969 ?_
  rw [nI_add]
  refine iz_iald d0_970 (Or.inr B.1.1) (by rw [B.1.2.1]; exact vp_nI (by omega) (by omega)) ?_
  rw [nI_clamp (by omega), B.1.2.2]
  refine iz_callV [_, _] d0_971 ok100 rm0_100 cl0_122 rfl rfl (Nat.le_of_ble_eq_true rfl) (Nat.le_of_ble_eq_true rfl) C.z.2 (oc h x C) ?_
  rintro rv h1 ⟨rfl, p1, p2⟩
  obtain ⟨B1, m1⟩ := B.c p1
  refine iz_aload_n d0_974 l2 ?_
  refine iz_aload_n d0_975 l0 ?_
  refine iz_iload d0_976 l4 ?_
  refine iz_iconst (nI 1) d0_978 (by decide) ?_
  refine iz_iadd d0_979 ?_
  rw [nI_add]
  refine iz_iald d0_980 (Or.inr B1.1.1) (by rw [B1.1.2.1]; exact vp_nI (by omega) (by omega)) ?_
  rw [nI_clamp (by omega), B1.1.2.2]
  refine iz_aload_n d0_981 l0 ?_
  refine iz_iload d0_982 l4 ?_
  refine iz_iconst (nI 2) d0_984 (by decide) ?_
  refine iz_iadd d0_985 ?_
  rw [nI_add]
  refine iz_iald d0_986 (Or.inr B1.1.1) (by rw [B1.1.2.1]; exact vp_nI (by omega) (by omega)) ?_
  rw [nI_clamp (by omega), B1.1.2.2]
  refine iz_callV [_, _] d0_987 ok164 rm0_164 cl0_125 rfl rfl (Nat.le_of_ble_eq_true rfl) (Nat.le_of_ble_eq_true rfl) B1.2.2.2.2.1 (om h1 (x + 30) B1.2.2.2.2 (m1.trans hS)) ?_
  rintro rv h2 ⟨rfl, q2⟩
  obtain ⟨B2, m2, n2, u2, -⟩ := B1.m q2
  refine iz_icmp_eq 995 d0_990 (by decide) (fun _ => ?_) (fun w => absurd rfl w)
  exact kk lv h2 Q l0 l1 l2 l3 l4 B2 (cB_mR J2.1.1.1 p2 B1.2.2.2.2 (Nat.le_refl _) q2) m2 J2 (by rw [n2]; exact p1.2.1) (by rw [u2]; exact p1.2.2.2.1)
