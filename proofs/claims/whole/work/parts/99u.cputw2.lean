/-- put's two new cells -/
def hPn (h : ix_H) (st lk : Nat) (e m f d y w g to sg : Int32) : ix_H := hSn (ix_nw (hTn (ix_nw h 7 0 8) (ix_nx h) e m f d y w g) 4 0 16) (ix_nx h + 1) (ix_nx h) st lk to sg
section CPn
variable {h : ix_H} {st lk : Nat} {e m f d y w g to sg : Int32}
theorem hPn_x : ix_nx (hPn h st lk e m f d y w g to sg) = ix_nx h + 2 := rfl
theorem hPn_us : ix_us (hPn h st lk e m f d y w g to sg) = ix_us h + 24 := rfl
theorem hTn_x {n : Nat} : ix_nx (hTn h n e m f d y w g) = ix_nx h := rfl
theorem hTn_o {n b : Nat} (hb : b ≠ n) : ceq h (hTn h n e m f d y w g) b := by
  unfold hTn
  exact (sw.rfl (s := n)).si.si.si.si.si.si.si.1 b hb
theorem hPn_o {b : Nat} (h1 : b ≠ ix_nx h) (h2 : b ≠ ix_nx h + 1) : ceq h (hPn h st lk e m f d y w g to sg) b := by
  have a1 : ceq h (ix_nw h 7 0 8) b := ⟨by rw [ix_tg_nw, if_neg h1], by rw [ix_ln_nw, if_neg h1], fun j => by rw [ix_i_nw, if_neg h1], fun j => by rw [ix_r_nw, if_neg h1]⟩
  have a2 := a1.tr (hTn_o (e := e) (m := m) (f := f) (d := d) (y := y) (w := w) (g := g) h1)
  have e1 : ix_nx (hTn (ix_nw h 7 0 8) (ix_nx h) e m f d y w g) = ix_nx h + 1 := rfl
  have a3 := a2.tr (show ceq _ (ix_nw (hTn (ix_nw h 7 0 8) (ix_nx h) e m f d y w g) 4 0 16) b from ⟨by rw [ix_tg_nw, e1, if_neg h2], by rw [ix_ln_nw, e1, if_neg h2], fun j => by rw [ix_i_nw, e1, if_neg h2], fun j => by rw [ix_r_nw, e1, if_neg h2]⟩)
  refine a3.tr ⟨rfl, rfl, fun j => ?_, fun j => ?_⟩
  · unfold hPn hSn
    rw [ix_i_si, if_neg (fun z => h2 z.1), ix_i_si, if_neg (fun z => h2 z.1), ix_i_sr, ix_i_sr, ix_i_sr, ix_i_si, if_neg (fun z => h2 z.1)]
  · unfold hPn hSn
    rw [ix_r_si, ix_r_si, ix_r_sr, if_neg (fun z => h2 z.1), ix_r_sr, if_neg (fun z => h2 z.1), ix_r_sr, if_neg (fun z => h2 z.1), ix_r_si]
theorem hPn_l {b j : Nat} (h1 : b < ix_nx h) : ix_l (hPn h st lk e m f d y w g to sg) b j = ix_l h b j := by
  have e1 : ix_nx (hTn (ix_nw h 7 0 8) (ix_nx h) e m f d y w g) = ix_nx h + 1 := rfl
  show ix_l (ix_nw (hTn (ix_nw h 7 0 8) (ix_nx h) e m f d y w g) 4 0 16) b j = _
  rw [ix_l_nw, e1, if_neg (by omega)]
  show ix_l (ix_nw h 7 0 8) b j = _
  rw [ix_l_nw, if_neg (by omega)]
theorem hTn_n : ix_tg (hTn (ix_nw h 7 0 8) (ix_nx h) e m f d y w g) (ix_nx h) = 7 ∧ ix_i (hTn (ix_nw h 7 0 8) (ix_nx h) e m f d y w g) (ix_nx h) 0 = e ∧ ix_i (hTn (ix_nw h 7 0 8) (ix_nx h) e m f d y w g) (ix_nx h) 1 = m ∧ ix_i (hTn (ix_nw h 7 0 8) (ix_nx h) e m f d y w g) (ix_nx h) 2 = f ∧ ix_i (hTn (ix_nw h 7 0 8) (ix_nx h) e m f d y w g) (ix_nx h) 3 = d ∧ ix_i (hTn (ix_nw h 7 0 8) (ix_nx h) e m f d y w g) (ix_nx h) 4 = y ∧ ix_i (hTn (ix_nw h 7 0 8) (ix_nx h) e m f d y w g) (ix_nx h) 5 = w ∧ ix_i (hTn (ix_nw h 7 0 8) (ix_nx h) e m f d y w g) (ix_nx h) 6 = g ∧ ix_r (hTn (ix_nw h 7 0 8) (ix_nx h) e m f d y w g) (ix_nx h) 7 = none := by
  have P : iOf (ix_nw h 7 0 8) (hTn (ix_nw h 7 0 8) (ix_nx h) e m f d y w g) (ix_nx h) [(6, g), (5, w), (4, y), (3, d), (2, f), (1, m), (0, e)] := (((((((iOf.nil (fun _ => rfl)).si).si).si).si).si).si).si
  refine ⟨?_, (P 0).trans rfl, (P 1).trans rfl, (P 2).trans rfl, (P 3).trans rfl, (P 4).trans rfl, (P 5).trans rfl, (P 6).trans rfl, ?_⟩
  · show ix_tg (ix_nw h 7 0 8) (ix_nx h) = 7
    rw [ix_tg_nw, if_pos rfl]
  · show ix_r (ix_nw h 7 0 8) (ix_nx h) 7 = none
    rw [ix_r_nw, if_pos rfl]
theorem hPn_T : ceq (hTn (ix_nw h 7 0 8) (ix_nx h) e m f d y w g) (hPn h st lk e m f d y w g to sg) (ix_nx h) := by
  have e1 : ix_nx (hTn (ix_nw h 7 0 8) (ix_nx h) e m f d y w g) = ix_nx h + 1 := rfl
  have h2 : ¬ ix_nx h = ix_nx h + 1 := by omega
  have a3 : ceq (hTn (ix_nw h 7 0 8) (ix_nx h) e m f d y w g) (ix_nw (hTn (ix_nw h 7 0 8) (ix_nx h) e m f d y w g) 4 0 16) (ix_nx h) := ⟨by rw [ix_tg_nw, e1, if_neg h2], by rw [ix_ln_nw, e1, if_neg h2], fun j => by rw [ix_i_nw, e1, if_neg h2], fun j => by rw [ix_r_nw, e1, if_neg h2]⟩
  refine a3.tr ⟨rfl, rfl, fun j => ?_, fun j => ?_⟩
  · unfold hPn hSn
    rw [ix_i_si, if_neg (fun z => h2 z.1), ix_i_si, if_neg (fun z => h2 z.1), ix_i_sr, ix_i_sr, ix_i_sr, ix_i_si, if_neg (fun z => h2 z.1)]
  · unfold hPn hSn
    rw [ix_r_si, ix_r_si, ix_r_sr, if_neg (fun z => h2 z.1), ix_r_sr, if_neg (fun z => h2 z.1), ix_r_sr, if_neg (fun z => h2 z.1), ix_r_si]
theorem hPn_n : ix_tg (hPn h st lk e m f d y w g to sg) (ix_nx h + 1) = 4 ∧ ix_r (hPn h st lk e m f d y w g to sg) (ix_nx h + 1) 0 = some (ix_nx h) ∧ ix_r (hPn h st lk e m f d y w g to sg) (ix_nx h + 1) 1 = some st ∧ ix_r (hPn h st lk e m f d y w g to sg) (ix_nx h + 1) 2 = some lk ∧ ix_i (hPn h st lk e m f d y w g to sg) (ix_nx h + 1) 3 = to ∧ ix_i (hPn h st lk e m f d y w g to sg) (ix_nx h + 1) 4 = sg ∧ ix_i (hPn h st lk e m f d y w g to sg) (ix_nx h + 1) 5 = -1 ∧ ∀ k, 6 ≤ k → ix_i (hPn h st lk e m f d y w g to sg) (ix_nx h + 1) k = 0 := by
  have e1 : ix_nx (hTn (ix_nw h 7 0 8) (ix_nx h) e m f d y w g) = ix_nx h + 1 := rfl
  refine ⟨?_, ?_, ?_, ?_, ?_, ?_, ?_, fun k hk => ?_⟩
  · show ix_tg (ix_nw (hTn (ix_nw h 7 0 8) (ix_nx h) e m f d y w g) 4 0 16) (ix_nx h + 1) = 4
    rw [ix_tg_nw, e1, if_pos rfl]
  · unfold hPn hSn
    rw [ix_r_si, ix_r_si, ix_r_sr, if_neg (fun z => absurd z.2 (by decide)), ix_r_sr, if_neg (fun z => absurd z.2 (by decide)), ix_r_sr, if_pos ⟨rfl, rfl⟩]
  · unfold hPn hSn
    rw [ix_r_si, ix_r_si, ix_r_sr, if_neg (fun z => absurd z.2 (by decide)), ix_r_sr, if_pos ⟨rfl, rfl⟩]
  · unfold hPn hSn
    rw [ix_r_si, ix_r_si, ix_r_sr, if_pos ⟨rfl, rfl⟩]
  · unfold hPn hSn
    rw [ix_i_si, if_neg (fun z => absurd z.2 (by decide)), ix_i_si, if_pos ⟨rfl, rfl⟩]
  · unfold hPn hSn
    rw [ix_i_si, if_pos ⟨rfl, rfl⟩]
  · unfold hPn hSn
    rw [ix_i_si, if_neg (fun z => absurd z.2 (by decide)), ix_i_si, if_neg (fun z => absurd z.2 (by decide)), ix_i_sr, ix_i_sr, ix_i_sr, ix_i_si, if_pos ⟨rfl, rfl⟩]
  · unfold hPn hSn
    rw [ix_i_si, if_neg (fun z => absurd z.2 (by omega)), ix_i_si, if_neg (fun z => absurd z.2 (by omega)), ix_i_sr, ix_i_sr, ix_i_sr, ix_i_si, if_neg (fun z => absurd z.2 (by omega)), ix_i_nw, e1, if_pos rfl]
theorem hPn_z (z : cNx h) : cNx (hPn h st lk e m f d y w g to sg) := fun b hb => by
  rw [hPn_x] at hb
  rw [(hPn_o (by omega) (by omega)).1]
  exact z b (by omega)
end CPn
set_option maxRecDepth 100000 in
set_option maxHeartbeats 4000000 in
/-- put -/
theorem s110y {G : ix_G} {h : ix_H} {x : Nat} {S : MS} {e f d y w g cn cs : Nat} (I : mInv S) (B : cB h x S) (he : e < 2) (hf : f < 6) (hd : d < 6) (hg : g < 6) (hy1 : 1 ≤ y) (hy2 : y ≤ 2) (hw : w ≤ 2) (hth : ¬ S 4 (6 * e + f) = 0) (hcn : S 7 e = nI cn) (hcn9 : cn < 319) (hcs : S 42 e = nI cs) (hcs3 : cs < 3) : ix_E G 110 0 (lv_args 0 [.ref x, .int (nI e), .int (nI f), .int (nI d), .int (nI y), .int (nI w), .int (nI g)]) [] h (fun rv h' => rv = some (.int (nI (cn + 1))) ∧ cFo x h h' 4 800 ∧ cB h' x (mPut S e f d y w g cn cs)) := by
  obtain ⟨hx3, T, A, R, U, D, Lo, Lr, C, L⟩ := id B
  have F := C.fx.2.2.2.2.2.2.2.2.2 e he
  have hi := isF_y he hf
  have hi2 := isF_y he hd
  have hi3 := isF_y he hg
  have hh := (C.fl he hf).has (I.2.1 _ (by omega)).2
  have x30 := C.x30
  have AL := cAl1.all L
  obtain ⟨l0, l1, l2⟩ := C.ll.1 e he
  have f0 := F.2.2.2.1 0 (by decide)
  have f1 := F.2.2.2.1 1 (by decide)
  have enN : nN S e = cn := by unfold nN; rw [hcn, nI_clamp (by omega)]
  rw [enN] at l0
  have eL : (Lo e).length = cs := by
    have := cAll.S C.rw AL he
    rw [← this]
    unfold rowL cP
    rw [List.length_map, List.length_range, hcs, nI_clamp (by omega)]
  have fl := C.fl he hf
  obtain ⟨n, n1, n2, n3⟩ := (I.2.1 (6 * e + f) (by omega)).2
  have esz : ix_i h (cSz x e) f = nI n := by rw [fl.1, if_neg hth, n3]
  refine ie_iload_n d110_0 rfl ?_
  refine ie_iload_n d110_1 rfl ?_
  refine ie_callSx [_, _] d110_2 ok9 rm110_9 cl1_30 rfl rfl (Nat.le_of_ble_eq_true rfl) (Nat.le_of_ble_eq_true rfl) (s9 _ _) ?_
  refine ie_if_eq 23 d110_5 (by decide) (fun z => absurd (isF_lt.mpr hi) (bI_0.mp z)) (fun _ => ?_)
  refine ie_iload_n d110_8 rfl ?_
  refine ie_callSx [_] d110_9 ok11 rm110_11 cl1_93 rfl rfl (Nat.le_of_ble_eq_true rfl) (Nat.le_of_ble_eq_true rfl) (s11 _) ?_
  refine ie_if_eq 23 d110_12 (by decide) (fun z => absurd (isF_lt.mpr hi2).2 (bI_0.mp z)) (fun _ => ?_)
  refine ie_iload d110_15 rfl ?_
  refine ie_callSx [_] d110_17 ok11 rm110_11 cl1_93 rfl rfl (Nat.le_of_ble_eq_true rfl) (Nat.le_of_ble_eq_true rfl) (s11 _) ?_
  refine ie_if_ne 33 d110_20 (by decide) (fun _ => ?_) (fun z => absurd (isF_lt.mpr hi3).2 (bI_0.mp z))
  refine ie_iload d110_33 rfl ?_
  refine ie_iconst (nI 1) d110_35 (by decide) ?_
  refine ie_icmp_lt 56 d110_36 (by decide) (fun z => absurd z (by rw [nI_ltI (by omega) (by omega)]; omega)) (fun _ => ?_)
  refine ie_iload d110_39 rfl ?_
  refine ie_iconst (nI 2) d110_41 (by decide) ?_
  refine ie_icmp_gt 56 d110_42 (by decide) (fun z => absurd z (by rw [nI_ltI (by omega) (by omega)]; omega)) (fun _ => ?_)
  refine ie_iload d110_45 rfl ?_
  refine ie_if_lt 56 d110_47 (by decide) (fun z => absurd z (nI_pos (by omega))) (fun _ => ?_)
  refine ie_iload d110_50 rfl ?_
  refine ie_iconst (nI 2) d110_52 (by decide) ?_
  refine ie_icmp_le 66 d110_53 (by decide) (fun _ => ?_) (fun z => absurd ((nI_leI (by omega) (by omega)).mpr hw) z)
  refine ie_aload_n d110_66 rfl ?_
  refine ie_getr _ d110_67 fl1_16 C.fx.1 C.fx.2.1 ?_
  refine ie_iload_n d110_70 rfl ?_
  refine ie_aald (t := 5) d110_71 (by decide) rfl rfl (Or.inl C.fx.2.2.2.1) (by rw [C.fx.2.2.2.2.1]; exact vp_nI he (by decide)) ?_
  rw [nI_clamp (by omega), F.1]
  refine ie_astore d110_72 (by decide) ?_
  refine ie_aload d110_74 rfl ?_
  refine ie_getr _ d110_76 fl1_34 F.2.1 F.2.2.1 ?_
  refine ie_iload_n d110_79 rfl ?_
  refine ie_callVx [_] d110_80 ok12 rm110_12 cl1_38 rfl rfl (Nat.le_of_ble_eq_true rfl) (Nat.le_of_ble_eq_true rfl) F.2.2.2.2.1 (s12 F.2.2.2.2.1 F.2.2.2.2.2.2.1 F.2.2.2.2.2.2.2.2.2.1 F.2.2.2.2.2.2.2.2.2.2.1 hf) ?_
  refine ie_if_ne 96 d110_83 (by decide) (fun _ => ?_) (fun z => absurd (show ¬ ix_i h (cSz x e) f = -1 from fun q => hth (hh.mp q)) (bI_0.mp z))
  refine ie_aload d110_96 rfl ?_
  refine ie_getr _ d110_98 fl1_100 F.2.1 f1.1 ?_
  refine ie_callVx [] d110_101 ok20 rm110_20 cl1_104 rfl rfl (Nat.le_of_ble_eq_true rfl) (Nat.le_of_ble_eq_true rfl) f1.2 (s20 f1.2) ?_
  rw [l1.2.1, List.length_map, eL]
  refine ie_iconst (nI 3) d110_104 (by decide) ?_
  refine ie_icmp_ge 122 d110_105 (by decide) (fun z => absurd z (by rw [nI_leI (by omega) (by omega)]; omega)) (fun _ => ?_)
  refine ie_aload d110_108 rfl ?_
  refine ie_getr _ d110_110 fl1_110 F.2.1 f0.1 ?_
  refine ie_callVx [] d110_113 ok20 rm110_20 cl1_104 rfl rfl (Nat.le_of_ble_eq_true rfl) (Nat.le_of_ble_eq_true rfl) f0.2 (s20 f0.2) ?_
  rw [l0.2.1, List.length_map, List.length_range]
  refine ie_sipush (nI 512) d110_116 (by decide) ?_
  refine ie_icmp_lt 132 d110_119 (by decide) (fun _ => ?_) (fun z => absurd ((nI_ltI (by omega) (by omega)).mpr (by omega)) z)
  refine ie_aload d110_132 rfl ?_
  refine ie_getr _ d110_134 fl1_110 F.2.1 f0.1 ?_
  refine ie_callVx [] d110_137 ok20 rm110_20 cl1_104 rfl rfl (Nat.le_of_ble_eq_true rfl) (Nat.le_of_ble_eq_true rfl) f0.2 (s20 f0.2) ?_
  rw [l0.2.1, List.length_map, List.length_range]
  refine ie_iconst 1 d110_140 (by decide) ?_
  refine ie_iadd d110_141 ?_
  rw [nI_1]
  refine ie_istore d110_142 (by decide) ?_
  refine ie_new d110_144 nl1_115 ?_
  show ix_E G 110 147 _ _ (ix_nw h 7 0 8) _
  refine ie_dup d110_147 rfl ?_
  refine ie_iload_n d110_148 rfl ?_
  refine ie_iload d110_149 rfl ?_
  refine ie_iload_n d110_151 rfl ?_
  refine ie_iload_n d110_152 rfl ?_
  refine ie_iload d110_153 rfl ?_
  refine ie_iload d110_155 rfl ?_
  refine ie_iload d110_157 rfl ?_
  refine ie_callIx [_, _, _, _, _, _, _] d110_159 ok111 rm110_111 cl1_117 rfl rfl (Nat.le_of_ble_eq_true rfl) (Nat.le_of_ble_eq_true rfl) (s111 (by rw [ix_tg_nw, if_pos rfl])) ?_
  have tn := hTn_n (h := h) (e := nI e) (m := nI (cn + 1)) (f := nI f) (d := nI d) (y := nI y) (w := nI w) (g := nI g)
  have to1 : ∀ b, b < ix_nx h → ceq h (hTn (ix_nw h 7 0 8) (ix_nx h) (nI e) (nI (cn + 1)) (nI f) (nI d) (nI y) (nI w) (nI g)) b := fun b hb => (show ceq h (ix_nw h 7 0 8) b from ⟨by rw [ix_tg_nw, if_neg (by omega)], by rw [ix_ln_nw, if_neg (by omega)], fun j => by rw [ix_i_nw, if_neg (by omega)], fun j => by rw [ix_r_nw, if_neg (by omega)]⟩).tr (hTn_o (by omega))
  have po := fun b (h1 : b ≠ ix_nx h) (h2 : b ≠ ix_nx h + 1) => hPn_o (h := h) (st := cSt x e) (lk := cLk x) (e := nI e) (m := nI (cn + 1)) (f := nI f) (d := nI d) (y := nI y) (w := nI w) (g := nI g) (to := S 0 0) (sg := nI ((n + 3) / 4)) h1 h2
  have pl := fun b j (h1 : b < ix_nx h) => hPn_l (h := h) (st := cSt x e) (lk := cLk x) (e := nI e) (m := nI (cn + 1)) (f := nI f) (d := nI d) (y := nI y) (w := nI w) (g := nI g) (to := S 0 0) (sg := nI ((n + 3) / 4)) (j := j) h1
  have pT := hPn_T (h := h) (st := cSt x e) (lk := cLk x) (e := nI e) (m := nI (cn + 1)) (f := nI f) (d := nI d) (y := nI y) (w := nI w) (g := nI g) (to := S 0 0) (sg := nI ((n + 3) / 4))
  have pn := hPn_n (h := h) (st := cSt x e) (lk := cLk x) (e := nI e) (m := nI (cn + 1)) (f := nI f) (d := nI d) (y := nI y) (w := nI w) (g := nI g) (to := S 0 0) (sg := nI ((n + 3) / 4))
  have pz := hPn_z (h := h) (st := cSt x e) (lk := cLk x) (e := nI e) (m := nI (cn + 1)) (f := nI f) (d := nI d) (y := nI y) (w := nI w) (g := nI g) (to := S 0 0) (sg := nI ((n + 3) / 4)) C.nx
  have px : ix_nx (hPn h (cSt x e) (cLk x) (nI e) (nI (cn + 1)) (nI f) (nI d) (nI y) (nI w) (nI g) (S 0 0) (nI ((n + 3) / 4))) = ix_nx h + 2 := hPn_x
  have pu : ix_us (hPn h (cSt x e) (cLk x) (nI e) (nI (cn + 1)) (nI f) (nI d) (nI y) (nI w) (nI g) (S 0 0) (nI ((n + 3) / 4))) = ix_us h + 24 := hPn_us
  have tx : ix_nx (hTn (ix_nw h 7 0 8) (ix_nx h) (nI e) (nI (cn + 1)) (nI f) (nI d) (nI y) (nI w) (nI g)) = ix_nx h + 1 := rfl
  have ePn : hPn h (cSt x e) (cLk x) (nI e) (nI (cn + 1)) (nI f) (nI d) (nI y) (nI w) (nI g) (S 0 0) (nI ((n + 3) / 4)) = hSn (ix_nw (hTn (ix_nw h 7 0 8) (ix_nx h) (nI e) (nI (cn + 1)) (nI f) (nI d) (nI y) (nI w) (nI g)) 4 0 16) (ix_nx h + 1) (ix_nx h) (cSt x e) (cLk x) (S 0 0) (nI ((n + 3) / 4)) := rfl
  generalize hTn (ix_nw h 7 0 8) (ix_nx h) (nI e) (nI (cn + 1)) (nI f) (nI d) (nI y) (nI w) (nI g) = h1 at *
  generalize hPn h (cSt x e) (cLk x) (nI e) (nI (cn + 1)) (nI f) (nI d) (nI y) (nI w) (nI g) (S 0 0) (nI ((n + 3) / 4)) = h2 at *
  have to2 : ∀ b, b ≤ ix_nx h → ceq h1 (ix_nw h1 4 0 16) b := fun b hb => ⟨by rw [ix_tg_nw, if_neg (by omega)], by rw [ix_ln_nw, if_neg (by omega)], fun j => by rw [ix_i_nw, if_neg (by omega)], fun j => by rw [ix_r_nw, if_neg (by omega)]⟩
  have to12 : ∀ b, b < ix_nx h → ceq h (ix_nw h1 4 0 16) b := fun b hb => (to1 b hb).tr (to2 b (by omega))
  have lts : ∀ b, ix_tg h b ≠ 0 → b < ix_nx h := fun b hb => C.lt hb
  have bS := lts _ (show ix_tg h (cS0 x e) ≠ 0 by rw [F.2.1]; decide)
  have bX := lts _ (show ix_tg h x ≠ 0 by rw [C.fx.1]; decide)
  have bT := lts _ (show ix_tg h (cSt x e) ≠ 0 by rw [F.2.2.2.2.1]; decide)
  have bZ := lts _ (show ix_tg h (cSz x e) ≠ 0 by rw [F.2.2.2.2.2.2.2.2.2.1]; decide)
  refine ie_astore d110_162 (by decide) ?_
  refine ie_aload d110_164 rfl ?_
  refine ie_new d110_166 nl1_120 ?_
  show ix_E G 110 169 _ _ (ix_nw h1 4 0 16) _
  rw [tx]
  refine ie_dup d110_169 rfl ?_
  refine ie_aload d110_170 rfl ?_
  refine ie_aload d110_172 rfl ?_
  refine ie_getr (cSt x e) d110_174 fl1_34 (by rw [(to12 _ bS).1]; exact F.2.1) (by rw [(to12 _ bS).2.2.2]; exact F.2.2.1) ?_
  refine ie_aload_n d110_177 rfl ?_
  refine ie_getr (cLk x) d110_178 fl1_23 (by rw [(to12 _ bX).1]; exact C.fx.1) (by rw [(to12 _ bX).2.2.2]; exact C.fx.2.2.1) ?_
  refine ie_aload_n d110_181 rfl ?_
  refine ie_geti (k := 0) d110_182 fl1_7 (by rw [(to12 _ bX).1]; exact C.fx.1) ?_
  rw [(to12 _ bX).2.2.1, C.2.2.1]
  refine ie_callIx [_, _, _, _] d110_185 ok112 rm110_112 cl1_122 rfl rfl (Nat.le_of_ble_eq_true rfl) (Nat.le_of_ble_eq_true rfl) (s112 (L := cSz x e) (f := f) (k := n) (by rw [ix_tg_nw, tx, if_pos rfl]) (by rw [(to2 _ (Nat.le_refl _)).1]; exact tn.1) (by rw [(to2 _ (Nat.le_refl _)).2.2.1]; exact tn.2.2.2.1) (by rw [(to12 _ bT).1]; exact F.2.2.2.2.1) (by rw [(to12 _ bT).2.2.2]; exact F.2.2.2.2.2.2.1) (by rw [(to12 _ bZ).1]; exact F.2.2.2.2.2.2.2.2.2.1) (by rw [(to12 _ bZ).2.1]; exact F.2.2.2.2.2.2.2.2.2.2.1) hf (by rw [(to12 _ bZ).2.2.1]; exact esz) n2) ?_
  rw [← ePn]
  have o2 : ∀ b, b < ix_nx h → ceq h h2 b := fun b hb => po b (by omega) (by omega)
  have ba0 := lts _ (show ix_tg h (cLs x e 0) ≠ 0 by rw [f0.2]; decide)
  have ba1 := lts _ (show ix_tg h (cLs x e 1) ≠ 0 by rw [f1.2]; decide)
  have tD0 := C.Dt (i := 3 * e) (by omega)
  have tD1 := C.Dt (i := 3 * e + 1) (by omega)
  have bD0 := lts (D (3 * e)) (by rcases tD0 with y | y <;> rw [y] <;> decide)
  have bD1 := lts (D (3 * e + 1)) (by rcases tD1 with y | y <;> rw [y] <;> decide)
  have hEl : ∀ t, vT S t → elT h2 (A t) ∧ A t < ix_nx h2 := fun t v => by
    have w2 := (C.tx v).2.1.2.1
    have lt := lts (A t) (by rw [w2]; decide)
    exact ⟨Or.inl (by rw [(o2 _ lt).1]; exact w2), by omega⟩
  refine ie_callV [_] d110_188 ok113 rm110_113 cl1_125 rfl rfl (Nat.le_of_ble_eq_true rfl) (Nat.le_of_ble_eq_true rfl) (by rw [(o2 _ bS).1]; exact F.2.1) (s113 (by rw [(o2 _ bS).1]; exact F.2.1) (by rw [(o2 _ bS).2.2.2]; exact f0.1) (by rw [(o2 _ bS).2.2.2]; exact f1.1) (by rw [(o2 _ ba0).1]; exact f0.2) (by rw [(o2 _ ba1).1]; exact f1.2) (cLi_c l0 (o2 _ ba0) (o2 _ bD0)) (cLi_c l1 (o2 _ ba1) (o2 _ bD1)) (by unfold cLs; omega) (fun z q => ?_) (by rw [List.length_map, List.length_range]; omega) (by rw [List.length_map]; omega) (by omega) (by omega) (by omega) (by omega) (by omega) (fun b m => ?_) (fun b m => ?_) (Or.inl pn.1) (by omega) pz) (fun rv h3 hq => ?_)
  · rw [(o2 _ bD0).1] at q
    have := C.ll.2.1 (3 * e) (by omega) (3 * e + 1) (by omega) z q
    omega
  · obtain ⟨i, m1, m2⟩ := List.mem_map.mp m
    rw [← m2]
    have hi := List.mem_range.mp m1
    exact hEl _ ⟨by omega, by omega, by rw [show (320 * e + (i + 1)) / 320 = e from by omega, enN]; omega⟩
  · obtain ⟨t, m1, m2⟩ := List.mem_map.mp m
    rw [← m2]
    exact hEl t ((C.rw e he).1 t m1).1
  · obtain ⟨r1, E0, E1, k1, k2, k3, k4, k5, k6, k7, k8, k9, k10, k11, k12, k13⟩ := hq
    subst r1
    rw [List.length_map, List.length_range, List.length_map] at k12
    have E0c : ∀ b, b < ix_nx h2 → b ≠ D (3 * e) → b ≠ E0 := fun b hb hd z => by
      rcases k1 with y | y
      · exact hd (z.trans y.1)
      · omega
    have E1c : ∀ b, b < ix_nx h2 → b ≠ D (3 * e + 1) → b ≠ E1 := fun b hb hd z => by
      rcases k2 with y | y
      · exact hd (z.trans y.1)
      · omega
    have cT := k6 (ix_nx h) (by omega) (by omega) (by omega) (E0c _ (by omega) (by omega)) (E1c _ (by omega) (by omega))
    have cN := k6 (ix_nx h + 1) (by omega) (by omega) (by omega) (E0c _ (by omega) (by omega)) (E1c _ (by omega) (by omega))
    have cTT := pT.tr cT
    have C3 := P_put (D0 := E0) (D1 := E1) (h' := h3) I C he hf hd hg hy1 hy2 hw hth hcn hcn9 hcs hcs3 (fun b hb w1 w2 w3 w4 => (o2 b hb).tr (k6 b (by omega) w1 w2 w3 w4)) (k13 pz) (by omega) (fun i hi => ?_) (k1.imp (fun z => z.1) (fun z => by omega)) (k2.imp (fun z => z.1) (fun z => by omega)) k3 ?_ ?_ k4 k5 ⟨by rw [cTT.1]; exact tn.1, by rw [cTT.2.2.1]; exact tn.2.1, by rw [cTT.2.2.1]; exact tn.2.2.1, by rw [cTT.2.2.1]; exact tn.2.2.2.1, by rw [cTT.2.2.1]; exact tn.2.2.2.2.1, by rw [cTT.2.2.1]; exact tn.2.2.2.2.2.1, by rw [cTT.2.2.1]; exact tn.2.2.2.2.2.2.1, by rw [cTT.2.2.1]; exact tn.2.2.2.2.2.2.2.1, by rw [cTT.2.2.2]; exact tn.2.2.2.2.2.2.2.2⟩ ⟨by rw [cN.1]; exact pn.1, by rw [cN.2.2.2]; exact pn.2.1, by rw [cN.2.2.2]; exact pn.2.2.1, by rw [cN.2.2.2]; exact pn.2.2.2.1, by rw [cN.2.2.1]; exact pn.2.2.2.2.1, by rw [cN.2.2.1, n3, nI_clamp (by omega)]; exact pn.2.2.2.2.2.1, by rw [cN.2.2.1]; exact pn.2.2.2.2.2.2.1, fun k h6 _ => by rw [cN.2.2.1]; exact pn.2.2.2.2.2.2.2 k h6⟩
    · obtain ⟨hL, r7, r8, r9, r10, r11, r12, r13, r40, r42⟩ := mPut_r (S := S) (e := e) (f := f) (d := d) (y := y) (x := w) (g := g) (cn := cn) (cs := cs)
      refine ie_iload d110_191 rfl ?_
      refine ie_iret d110_193 rfl rfl ⟨rfl, ⟨by omega, by omega, by omega, by omega, fun q hq hm => ?_⟩, ?_, _, _, _, _, _, _, _, C3, fun e' he' => ⟨fun t' m => ?_, fun t' m => ?_⟩⟩
      · have tq : ix_tg h q ≠ 10 ∧ ix_tg h q ≠ 107 := by omega
        have q0 : q ≠ cLs x e 0 := fun z => tq.1 (by rw [z]; exact f0.2)
        have q1 : q ≠ cLs x e 1 := fun z => tq.1 (by rw [z]; exact f1.2)
        have qE : ∀ E D0, ((E = D0 ∧ ix_tg h2 D0 = 107) ∨ ix_nx h2 ≤ E) → D0 < ix_nx h → q ≠ E := fun E D0 k hD z => by
          rcases k with y | y
          · rw [(o2 _ hD).1, ← y.1, ← z] at y
            exact tq.2 y.2
          · omega
        refine ⟨(o2 q hq).tr (k6 q (by omega) q0 q1 (qE _ _ k1 bD0) (qE _ _ k2 bD1)), fun j => ?_⟩
        rw [k8 q j (by omega)]
        exact pl q j hq
      · rw [hL 1 (by decide), ← hx3]
        have tq : ix_tg h x = 1 := C.fx.1
        have q0 : x ≠ cLs x e 0 := by unfold cLs; omega
        have q1 : x ≠ cLs x e 1 := by unfold cLs; omega
        have qE : ∀ E D0, ((E = D0 ∧ ix_tg h2 D0 = 107) ∨ ix_nx h2 ≤ E) → D0 < ix_nx h → x ≠ E := fun E D0 k hD z => by
          rcases k with y | y
          · rw [(o2 _ hD).1, ← y.1, ← z] at y
            omega
          · omega
        exact ((o2 x bX).tr (k6 x (by omega) q0 q1 (qE _ _ k1 bD0) (qE _ _ k2 bD1))).2.2.1 3
      · rw [r13]
        by_cases z : t' = 320 * e + (cn + 1)
        · rw [if_pos z]
        · rw [if_neg z]
          have m2 : t' ∈ (if e' = e then Lo e ++ [320 * e + (cn + 1)] else Lo e') := m
          by_cases y : e' = e
          · rw [if_pos y] at m2
            rcases List.mem_append.mp m2 with v | v
            · exact (L e he).1 t' v
            · exact absurd (List.mem_singleton.mp v) z
          · rw [if_neg y] at m2
            exact (L e' he').1 t' m2
      · have := (L e' he').2 t' m
        unfold opR at this ⊢
        rw [hL 23 (by decide)]
        exact this
    · rcases (by omega : i = 0 ∨ i = 1) with z | z
      · subst z
        rw [(k7 _ (by omega)).1, (k7 _ (by omega)).2, (o2 _ ba0).1, (o2 _ ba0).2.1]
        exact ⟨f0.2, rfl⟩
      · subst z
        rw [(k7 _ (by omega)).1, (k7 _ (by omega)).2, (o2 _ ba1).1, (o2 _ ba1).2.1]
        exact ⟨f1.2, rfl⟩
    · rcases k1 with y | y
      · rw [y.1]
        have := y.2
        rw [(o2 _ bD0).1] at this
        rw [this]; decide
      · rw [C.nx E0 (by omega)]; decide
    · rcases k2 with y | y
      · rw [y.1]
        have := y.2
        rw [(o2 _ bD1).1] at this
        rw [this]; decide
      · rw [C.nx E1 (by omega)]; decide
