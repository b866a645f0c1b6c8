/-! ===== the law's loop ===== -/
theorem m31 (a : Int32) : ∃ c, c < 32 ∧ a &&& nI 31 = nI c := by
  refine ⟨(a.toBitVec &&& 31#32).toNat, ?_, ?_⟩
  · rw [BitVec.toNat_and]
    exact Nat.lt_of_le_of_lt Nat.and_le_right (by decide)
  · rw [← Int32.toBitVec_inj, Int32.toBitVec_and, show (nI 31).toBitVec = 31#32 from by decide +kernel]
    show _ = (Int32.ofNat _).toBitVec
    rw [Int32.toBitVec_ofNat']
    simp
theorem sub7 {L i : Nat} (hL : L ≤ 3585) (hi : i ≤ 5000) : (nI L - nI 7 < nI i) ↔ L < i + 7 := by
  rw [Int32.lt_iff_toInt_lt, Int32.toInt_sub, nI_toInt (by omega), nI_toInt (by omega), nI_toInt (by omega), Int.bmod_eq_of_le (by omega) (by omega)]
  omega
theorem iJ_up {K : Nat} {S : MS} (J : iJ K S) : iJ (K + 1) S := ⟨cI_more J.1 (by omega), J.2⟩
set_option maxRecDepth 100000 in
set_option maxHeartbeats 4000000 in
theorem law_loop {G : ix_G} {xs : Nat → Int32} {sc L x N U : Nat} (hL : L ≤ 3585) : ∀ (z i K : Nat) (h : ix_H) (lv : List (Nat × Value)) (S : MS), i = 1 + 7 * K → i ≤ 3600 → L + 8 - i < z → lv.lookup 0 = some (.ref sc) → lv.lookup 1 = some (.ref x) → lv.lookup 2 = some (.ref (x + 30)) → lv.lookup 3 = some (.ref (x + 74)) → lv.lookup 4 = some (.int (nI i)) → LB xs sc L x h → cB h x S → ms h (x + 30) = S → iJ K S → ix_nx h ≤ N + 20 * K → ix_us h ≤ U + 1000 * K → iy_E G 0 33 lv [] h (fun r h' => r = .inl (some (.int 1)) ∧ ix_nx h' ≤ N + 11000 ∧ ix_us h' ≤ U + 520000) := by
  intro z
  induction z with
  | zero => intro i K h lv S _ _ hz; omega
  | succ z ih =>
    intro i K h lv S hi0 hi9 hz l0 l1 l2 l3 l4 B C hS J hn hu
    refine iz_iload d0_33 l4 ?_
    refine iz_aload_n d0_35 l0 ?_
    refine iz_alen (t := 0) d0_36 (by decide) (Or.inr B.1.1) ?_
    rw [B.1.2.1]
    refine iz_bipush (nI 7) d0_37 (by decide) ?_
    refine iz_isub d0_39 ?_
    refine iz_icmp_gt 1001 d0_40 (by decide) (fun q => ?_) (fun q => ?_)
    · refine iz_iconst 1 d0_1001 (by decide) ?_
      refine iz_iret d0_1002 rfl (by decide) ⟨rfl, ?_, ?_⟩
      · omega
      · omega
    · rw [sub7 hL (by omega)] at q
      have hi : i + 7 ≤ L := by omega
      have kk : LC G xs sc L x i K h (fun r h' => r = .inl (some (.int 1)) ∧ ix_nx h' ≤ N + 11000 ∧ ix_us h' ≤ U + 520000) := by
        intro lv2 h2 Q a0 a1 a2 a3 a4 B2 C2 m2 J2 n2 u2
        refine iz_iinc (nI (i + 7)) d0_995 a4 (by rw [← nI_add]; rfl) (by decide) ?_
        refine iz_goto 33 d0_998 (by decide) ?_
        exact ih (i + 7) (K + 1) h2 _ Q (by omega) (by omega) (by omega) (ix_lk3 (by decide) a0 rfl) (ix_lk3 (by decide) a1 rfl) (ix_lk3 (by decide) a2 rfl) (ix_lk3 (by decide) a3 rfl) ix_lk1 B2 C2 m2 J2 (by omega) (by omega)
      refine iz_aload_n d0_43 l0 ?_
      refine iz_iload d0_44 l4 ?_
      refine iz_iald d0_46 (Or.inr B.1.1) (by rw [B.1.2.1]; exact vp_nI (by omega) (by omega)) ?_
      rw [nI_clamp (by omega), B.1.2.2]
      refine iz_bipush (nI 31) d0_47 (by decide) ?_
      refine iz_iand d0_49 ?_
      obtain ⟨c, hc, ec⟩ := m31 (xs i)
      rw [ec]
      by_cases c0 : c = 0
      · rw [c0]
        exact iz_tabIn 136 d0_50 (by decide) (by decide) rfl (by decide) (k_create hL hi l0 l1 l2 l3 l4 B C hS J kk)
      by_cases c1 : c = 1
      · rw [c1]
        exact iz_tabIn 173 d0_50 (by decide) (by decide) rfl (by decide) (k_append hL hi l0 l1 l2 l3 l4 B C hS J kk)
      by_cases c2 : c = 2
      · rw [c2]
        exact iz_tabIn 297 d0_50 (by decide) (by decide) rfl (by decide) (k_delete hL hi l0 l1 l2 l3 l4 B C hS J kk)
      by_cases c3 : c = 3
      · rw [c3]
        exact iz_tabIn 372 d0_50 (by decide) (by decide) rfl (by decide) (k_size hL hi l0 l1 l2 l3 l4 B C hS J kk)
      by_cases c4 : c = 4
      · rw [c4]
        exact iz_tabIn 409 d0_50 (by decide) (by decide) rfl (by decide) (k_at hL hi l0 l1 l2 l3 l4 B C hS J kk)
      by_cases c5 : c = 5
      · rw [c5]
        exact iz_tabIn 489 d0_50 (by decide) (by decide) rfl (by decide) (k_put hL hi l0 l1 l2 l3 l4 B C hS J (by omega) kk)
      by_cases c6 : c = 6
      · rw [c6]
        exact iz_tabIn 607 d0_50 (by decide) (by decide) rfl (by decide) (k_cancel hL hi l0 l1 l2 l3 l4 B C hS J kk)
      by_cases c7 : c = 7
      · rw [c7]
        exact iz_tabIn 644 d0_50 (by decide) (by decide) rfl (by decide) (k_suspend hL hi l0 l1 l2 l3 l4 B C hS J kk)
      by_cases c8 : c = 8
      · rw [c8]
        exact iz_tabIn 709 d0_50 (by decide) (by decide) rfl (by decide) (k_tick hL hi l0 l1 l2 l3 l4 B C hS J kk)
      by_cases c9 : c = 9
      · rw [c9]
        exact iz_tabIn 722 d0_50 (by decide) (by decide) rfl (by decide) (k_deliver hL hi l0 l1 l2 l3 l4 B C hS J kk)
      by_cases c10 : c = 10
      · rw [c10]
        exact iz_tabIn 747 d0_50 (by decide) (by decide) rfl (by decide) (k_lose hL hi l0 l1 l2 l3 l4 B C hS J kk)
      by_cases c11 : c = 11
      · rw [c11]
        exact iz_tabIn 772 d0_50 (by decide) (by decide) rfl (by decide) (k_copy hL hi l0 l1 l2 l3 l4 B C hS J kk)
      by_cases c12 : c = 12
      · rw [c12]
        exact iz_tabIn 797 d0_50 (by decide) (by decide) rfl (by decide) (k_spoil hL hi l0 l1 l2 l3 l4 B C hS J kk)
      by_cases c13 : c = 13
      · rw [c13]
        exact iz_tabIn 834 d0_50 (by decide) (by decide) rfl (by decide) (k_units hL hi l0 l1 l2 l3 l4 B C hS J kk)
      by_cases c14 : c = 14
      · rw [c14]
        exact iz_tabIn 847 d0_50 (by decide) (by decide) rfl (by decide) (k_unit hL hi l0 l1 l2 l3 l4 B C hS J kk)
      by_cases c15 : c = 15
      · rw [c15]
        exact iz_tabIn 884 d0_50 (by decide) (by decide) rfl (by decide) (k_sender hL hi l0 l1 l2 l3 l4 B C hS J kk)
      by_cases c16 : c = 16
      · rw [c16]
        exact iz_tabIn 921 d0_50 (by decide) (by decide) rfl (by decide) (k_receiver hL hi l0 l1 l2 l3 l4 B C hS J kk)
      by_cases c17 : c = 17
      · rw [c17]
        exact iz_tabIn 958 d0_50 (by decide) (by decide) rfl (by decide) (k_request hL hi l0 l1 l2 l3 l4 B C hS J kk)
      exact iz_tabOut 995 d0_50 (Or.inr (by rw [nI_toInt (by omega)]; omega)) (by decide) (kk lv h S l0 l1 l2 l3 l4 B C hS (iJ_up J) (by omega) (by omega))
