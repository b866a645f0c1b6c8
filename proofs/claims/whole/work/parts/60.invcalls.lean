/-! ===== how the invariant is kept: the calls ===== -/
theorem mInv_3 {S : MS} {x : Int32} (I : mInv S) : mInv (mset S 3 0 x) := mInv_n I (fun k hk => mset_kk (fun z => hk (by rw [z]; decide)))
theorem mInv_m0 {S : MS} (I : mInv S) : mInv (m0 S) := mInv_3 I
theorem mInv_create {S : MS} {F : Nat} (I : mInv S) (h0 : S 4 F = 0) : mInv (mset (mset S 4 F 1) 5 F 0) := by
  refine mInv_file (F := F) I (fun k hk => ?_) (fun j hj => ?_) (fun j hj => ?_) ?_ ?_ (fun t hv ho q => ?_)
  · simp only [List.mem_cons, List.not_mem_nil, or_false, not_or] at hk
    rw [mset_kk hk.2.1, mset_kk hk.1]
  · rw [mset_k (by decide), mset_j rfl hj]
  · rw [mset_j rfl hj, mset_k (by decide)]
  · rw [mset_k (by decide), mset_s]; exact bw.of (n := 1) (by decide) (by decide)
  · rw [mset_s]; exact bw.of (n := 0) (by decide) (by decide)
  · have := (I.S hv ho).1
    rw [q, h0] at this
    exact absurd this (by decide)
theorem mInv_delete {S : MS} {F : Nat} (I : mInv S) (hF : F < 12) (hno : ∀ t, vT S t → S 13 t = nI 5 → fI S t ≠ F) : mInv (mset S 4 F (nI 0)) := by
  refine mInv_file (F := F) I (fun k hk => mset_kk (fun z => hk (by rw [z]; decide))) (fun j hj => mset_j rfl hj) (fun j hj => mset_k (by decide)) ?_ ?_ hno
  · rw [mset_s]; exact bw.of (by decide) (by decide)
  · rw [mset_k (by decide)]; exact (I.2.1 F hF).2
theorem mInv_append {S : MS} {F m n : Nat} {w : Int64} (I : mInv S) (hF : F < 12) (hmn : m + n ≤ 64) (hno : ∀ t, vT S t → S 13 t = nI 5 → fI S t ≠ F) : mInv (mApp S F m n w) := by
  unfold mApp
  refine mInv_file (F := F) I (fun k hk => funext fun j => ?_) (fun j hj => ?_) (fun j hj => ?_) ?_ ?_ hno
  · simp only [List.mem_cons, List.not_mem_nil, or_false, not_or] at hk
    rw [mset_k hk.2.1, mAp_o hk.2.2]
  · rw [mset_k (by decide), mAp_o (by decide)]
  · rw [mset_j rfl hj, mAp_o (by decide)]
  · rw [mset_k (by decide), mAp_o (by decide)]; exact (I.2.1 F hF).1
  · rw [mset_s]; exact bw.of (by omega) hmn
theorem mInv_drop {S : MS} {t : Nat} (I : mInv S) (hv : vT S t) : mInv (mDrop S t) := by
  unfold mDrop
  have I1 := mInv_f (k := 21) (x := 1) I hv (by decide) (fun _ => bw.of (n := 1) (by decide) (by decide)) (fun q => absurd q (by decide)) (fun q => absurd q (by decide)) (fun q => absurd q (by decide))
  have v1 : vT (mset S 21 t 1) t := (vT_c mset_L (by decide)).mpr hv
  have I2 := mInv_f (k := 15) (x := 0) I1 v1 (by decide) (fun q => absurd q (by decide)) (fun q => absurd q (by decide)) (fun _ _ => bw.of (n := 0) (by decide) (by decide)) (fun q => absurd q (by decide))
  have v2 : vT (mset (mset S 21 t 1) 15 t 0) t := (vT_c mset_L (by decide)).mpr v1
  have I3 := mInv_f (k := 20) (x := 0) I2 v2 (by decide) (fun _ => bw.of (n := 0) (by decide) (by decide)) (fun q => absurd q (by decide)) (fun q => absurd q (by decide)) (fun q => absurd q (by decide))
  have v3 : vT (mset (mset (mset S 21 t 1) 15 t 0) 20 t 0) t := (vT_c mset_L (by decide)).mpr v2
  exact mInv_f (k := 19) (x := 0) I3 v3 (by decide) (fun q => absurd q (by decide)) (fun q => absurd q (by decide)) (fun q => absurd q (by decide)) (fun _ _ s hs r => absurd r (rb_0 hs))
theorem known_v {S : MS} (I : mInv S) {e n : Int32} (q : 0 ≤ mKnown S e n) : ∃ t, mKnown S e n = nI t ∧ vT S t := by
  obtain ⟨e', n', c, h1, h2, h3, h4, h5, h6, h7, h8⟩ := mKnown_t (fun e he => by obtain ⟨c, _, a, b⟩ := I.1.2 e he; exact ⟨c, a, b⟩) q
  refine ⟨320 * e' + n', h8, by omega, by omega, ?_⟩
  have : (320 * e' + n') / 320 = e' := by omega
  unfold nN
  rw [this, h5, nI_clamp (by omega)]
  omega
theorem mInv_cancel {S : MS} {e n : Int32} (I : mInv S) : mInv (mCancel S e n) := by
  unfold mCancel
  split
  · rename_i q
    obtain ⟨t, h1, h2⟩ := known_v I q.1
    rw [h1, nI_clamp (by have := h2.1; omega)]
    exact mInv_drop (mInv_m0 I) ((vT_c mset_L (by decide)).mpr h2)
  · exact mInv_m0 I
theorem mInv_suspend {S : MS} {e n on : Int32} (I : mInv S) (hon : on = 0 ∨ on = 1) : mInv (mSuspend S e n on) := by
  unfold mSuspend
  split
  · rename_i q
    obtain ⟨t, h1, h2⟩ := known_v I q.1
    rw [h1, nI_clamp (by have := h2.1; omega)]
    refine mInv_f (mInv_m0 I) ((vT_c mset_L (by decide)).mpr h2) (by decide) (fun _ => ?_) (fun q => absurd q (by decide)) (fun q => absurd q (by decide)) (fun q => absurd q (by decide))
    rcases hon with w | w
    · rw [w]; exact bw.of (n := 0) (by decide) (by decide)
    · rw [w]; exact bw.of (n := 1) (by decide) (by decide)
  · exact mInv_m0 I
theorem mCopy_L {S : MS} {u k : Nat} : ∀ f, f ∉ [44, 45] → mCopy S u k f = S f := fun f h => funext fun j => by
  simp only [List.mem_cons, List.not_mem_nil, or_false, not_or] at h
  unfold mCopy
  rw [mset_k h.1, mCp_o h.2]
theorem mCopy_r {S : MS} {u k j i : Nat} (hi : i < 11) (hj : j ≤ u) : mCopy S u k 45 (11 * j + i) = S 45 (11 * (if j = u then k else j) + i) := by
  unfold mCopy mCp
  rw [mset_k (by decide)]
  by_cases q : j = u
  · subst q
    rw [if_pos ⟨rfl, by omega, by omega⟩, if_pos rfl]
    congr 1
    omega
  · rw [if_neg (by omega), if_neg q]
theorem mInv_copy {S : MS} {u k : Nat} (I : mInv S) (hu : S 44 0 = nI u) (hu24 : u < 24) (hk : k < u) : mInv (mCopy S u k) := by
  refine mInv_u I mCopy_L (u := u + 1) (by omega) (by unfold mCopy; exact mset_s) (fun j hj => ?_)
  refine uV_c (r := 11 * (if j = u then k else j)) mCopy_L (by decide) (fun i hi => mCopy_r hi (by omega)) (I.u hu (by omega) ?_)
  split <;> omega
theorem mInv_spoil {S : MS} {u k n : Nat} {b : Int32} (I : mInv S) (hu : S 44 0 = nI u) (hu24 : u ≤ 24) (hk : k < u) (hD : S 45 (11 * k) = nI 2) : mInv (mSpoil S k n b) := by
  have L : ∀ f, f ∉ [44, 45] → mSpoil S k n b f = S f := fun f hf => mset_kk (fun z => hf (by rw [z]; decide))
  have r : ∀ j, j ≠ 11 * k + 5 → mSpoil S k n b 45 j = S 45 j := fun j hj => mset_j rfl hj
  refine mInv_u I L hu24 (by unfold mSpoil; rw [mset_k (by decide)]; exact hu) (fun j hj => ?_)
  have U := I.u hu hu24 hj
  by_cases q : j = k
  · subst q
    obtain ⟨t, h1, h2, h3⟩ := U
    refine ⟨t, by rw [r _ (by omega)]; exact h1, (vT_c L (by decide)).mpr h2, Or.inr (Or.inl ?_)⟩
    rw [r _ (by omega), r _ (by omega), r _ (by omega), r _ (by omega), r _ (by omega), L 8 (by decide)]
    rcases h3 with w | w | w | w | w | w
    · exact absurd (hD.symm.trans w.1) (by decide)
    · exact w
    · exact absurd (hD.symm.trans w.1) (by decide)
    · exact absurd (hD.symm.trans w.1) (by decide)
    · exact absurd (hD.symm.trans w.1) (by decide)
    · exact absurd (hD.symm.trans w.1) (by decide)
  · exact uV_c L (by decide) (fun i hi => r _ (by omega)) U
/-! put -/
theorem mInv_put {S : MS} {e f d y x g cn cs : Nat} (I : mInv S) (he : e < 2) (hf : f < 6) (hd : d < 6) (hg : g < 6) (hy1 : 1 ≤ y) (hy2 : y ≤ 2) (hx : x ≤ 2) (ht : ¬ S 4 (6 * e + f) = 0) (hcn : S 7 e = nI cn) (hcn9 : cn < 319) (hcs : S 42 e = nI cs) (hcs3 : cs < 3) : mInv (mPut S e f d y x g cn cs) := by
  have hL : ∀ k, k ∉ [3, 7, 8, 9, 10, 11, 12, 13, 40, 42] → mPut S e f d y x g cn cs k = S k := fun k h => funext fun j => by
    simp only [List.mem_cons, List.not_mem_nil, or_false, not_or] at h
    obtain ⟨a1, a2, a3, a4, a5, a6, a7, a8, a9, a10⟩ := h
    unfold mPut m0
    rw [mset_k a10, mset_k a9, mset_k a8, mset_k a7, mset_k a6, mset_k a5, mset_k a4, mset_k a3, mset_k a2, mset_k a1]
  have r7 : ∀ l, mPut S e f d y x g cn cs 7 l = if l = e then nI (cn + 1) else S 7 l := fun l => by
    unfold mPut m0
    rw [mset_k (by decide), mset_k (by decide), mset_k (by decide), mset_k (by decide), mset_k (by decide), mset_k (by decide), mset_k (by decide), mset_k (by decide), mset_if rfl, mset_k (by decide)]
  have r8 : ∀ l, mPut S e f d y x g cn cs 8 l = if l = 320 * e + (cn + 1) then nI y else S 8 l := fun l => by
    unfold mPut m0
    rw [mset_k (by decide), mset_k (by decide), mset_k (by decide), mset_k (by decide), mset_k (by decide), mset_k (by decide), mset_k (by decide), mset_if rfl, mset_k (by decide), mset_k (by decide)]
  have r9 : ∀ l, mPut S e f d y x g cn cs 9 l = if l = 320 * e + (cn + 1) then nI f else S 9 l := fun l => by
    unfold mPut m0
    rw [mset_k (by decide), mset_k (by decide), mset_k (by decide), mset_k (by decide), mset_k (by decide), mset_k (by decide), mset_if rfl, mset_k (by decide), mset_k (by decide), mset_k (by decide)]
  have r10 : ∀ l, mPut S e f d y x g cn cs 10 l = if l = 320 * e + (cn + 1) then nI d else S 10 l := fun l => by
    unfold mPut m0
    rw [mset_k (by decide), mset_k (by decide), mset_k (by decide), mset_k (by decide), mset_k (by decide), mset_if rfl, mset_k (by decide), mset_k (by decide), mset_k (by decide), mset_k (by decide)]
  have r11 : ∀ l, mPut S e f d y x g cn cs 11 l = if l = 320 * e + (cn + 1) then nI x else S 11 l := fun l => by
    unfold mPut m0
    rw [mset_k (by decide), mset_k (by decide), mset_k (by decide), mset_k (by decide), mset_if rfl, mset_k (by decide), mset_k (by decide), mset_k (by decide), mset_k (by decide), mset_k (by decide)]
  have r12 : ∀ l, mPut S e f d y x g cn cs 12 l = if l = 320 * e + (cn + 1) then nI g else S 12 l := fun l => by
    unfold mPut m0
    rw [mset_k (by decide), mset_k (by decide), mset_k (by decide), mset_if rfl, mset_k (by decide), mset_k (by decide), mset_k (by decide), mset_k (by decide), mset_k (by decide), mset_k (by decide)]
  have r13 : ∀ l, mPut S e f d y x g cn cs 13 l = if l = 320 * e + (cn + 1) then nI 5 else S 13 l := fun l => by
    unfold mPut m0
    rw [mset_k (by decide), mset_k (by decide), mset_if rfl, mset_k (by decide), mset_k (by decide), mset_k (by decide), mset_k (by decide), mset_k (by decide), mset_k (by decide), mset_k (by decide)]
  have r40 : ∀ l, mPut S e f d y x g cn cs 40 l = if l = 3 * e + cs then nI (320 * e + (cn + 1)) else S 40 l := fun l => by
    unfold mPut m0
    rw [mset_k (by decide), mset_if rfl, mset_k (by decide), mset_k (by decide), mset_k (by decide), mset_k (by decide), mset_k (by decide), mset_k (by decide), mset_k (by decide), mset_k (by decide)]
  have r42 : ∀ l, mPut S e f d y x g cn cs 42 l = if l = e then nI (cs + 1) else S 42 l := fun l => by
    unfold mPut m0
    rw [mset_if rfl, mset_k (by decide), mset_k (by decide), mset_k (by decide), mset_k (by decide), mset_k (by decide), mset_k (by decide), mset_k (by decide), mset_k (by decide), mset_k (by decide)]
  generalize mPut S e f d y x g cn cs = S' at *
  generalize hT : 320 * e + (cn + 1) = t at *
  have t1 : t / 320 = e := by omega
  have t2 : t % 320 = cn + 1 := by omega
  have t6 : t < 640 := by omega
  have nv : ¬ vT S t := fun z => by
    have := z.2.2
    unfold nN at this
    rw [t1, hcn, nI_clamp (by omega)] at this
    omega
  have hvt : ∀ t', vT S' t' ↔ vT S t' ∨ t' = t := by
    intro t'
    unfold vT nN
    rw [r7]
    by_cases q : t' / 320 = e
    · rw [if_pos q, nI_clamp (by omega), q, hcn, nI_clamp (by omega)]
      omega
    · rw [if_neg q]
      constructor
      · exact Or.inl
      · rintro (w | w)
        · exact w
        · subst w; exact absurd t1 q
  obtain ⟨a, b, c, dd, ee, ff, gg, h, i, j⟩ := I
  have z := dd t t6 nv
  refine ⟨?_, iF_c hL (by decide) b, ?_, ?_, ?_, ?_, ?_, ?_, ?_, ?_⟩
  · refine ⟨by rw [hL 44 (by decide)]; exact a.1, fun e' he' => ?_⟩
    rw [r7]
    split
    · exact bw.of (by omega) (by omega)
    · exact a.2 e' he'
  · intro t' v'
    rw [r8, r9, r10, r11, r12, r13, hL 20 (by decide), hL 21 (by decide), hL 22 (by decide)]
    by_cases q : t' = t
    · subst q
      simp only [if_pos rfl]
      rw [z 20 (by decide) (by decide), z 21 (by decide) (by decide), z 22 (by decide) (by decide)]
      exact ⟨bw.of hy1 hy2, bw.of (by omega) (by omega), bw.of (by omega) (by omega), bw.of (by omega) hx, bw.of (by omega) (by omega), bw.of (by decide) (by decide), bw.of (n := 0) (by decide) (by decide), bw.of (n := 0) (by decide) (by decide), bw.of (n := 0) (by decide) (by decide)⟩
    · simp only [if_neg q]
      exact c t' (((hvt t').mp v').elim id (fun w => absurd w q))
  · intro t' h6 v' k h1 h2
    have v2 : ¬ vT S t' := fun w => v' ((hvt t').mpr (Or.inl w))
    have q : t' ≠ t := fun w => v' ((hvt t').mpr (Or.inr w))
    by_cases w : k = 13
    · subst w
      rw [r13, if_neg q]
      exact dd t' h6 v2 13 h1 h2
    · rw [hL k (by simp only [List.mem_cons, List.not_mem_nil, or_false, not_or]; omega)]
      exact dd t' h6 v2 k h1 h2
  · intro t' v' o'
    have e1 : ∀ tt, tt ≠ t → fI S' tt = fI S tt := fun tt q => by unfold fI; rw [r9, if_neg q]
    rw [hL 4 (by decide), hL 14 (by decide), hL 15 (by decide), hL 19 (by decide)]
    unfold fN
    rw [hL 5 (by decide)]
    by_cases q : t' = t
    · subst q
      have e2 : fI S' t' = 6 * e + f := by unfold fI; rw [r9, if_pos rfl, nI_clamp (by omega), t1]
      rw [e2, z 14 (by decide) (by decide), z 15 (by decide) (by decide), z 19 (by decide) (by decide)]
      refine ⟨?_, bw.of (n := 0) (by decide) (by omega), bw.of (n := 0) (by decide) (by decide), fun s hs r => absurd r (rb_0 hs)⟩
      obtain ⟨v, v1, v2, v3⟩ := (b (6 * e + f) (by omega)).1
      have : v ≠ 0 := fun w => ht (by rw [v3, w]; rfl)
      rw [v3, show v = 1 from by omega]
    · rw [e1 t' q]
      rw [r13, if_neg q] at o'
      exact ee t' (((hvt t').mp v').elim id (fun w => absurd w q)) o'
  · refine iRw_add (t := t) (e := e) (c := cs) ff he t1 t6 hcs3 hcs (fun w => absurd w nv) hvt (fun t' v' => ?_) r40 r42
    unfold opS
    rw [r13]
    by_cases q : t' = t
    · rw [if_pos q]; exact ⟨fun _ => Or.inr q, fun _ => rfl⟩
    · rw [if_neg q]
      exact ⟨fun w => Or.inl ⟨((hvt t').mp v').elim id (fun w => absurd w q), w⟩, fun w => w.elim (fun u => u.2) (fun u => absurd u q)⟩
  · intro e' he'
    obtain ⟨c', h1, h2, h3, h4, h5⟩ := gg e' he'
    rw [hL 41 (by decide), hL 43 (by decide)]
    refine ⟨c', h1, h2, fun k hk => ?_, h4, fun t' v' s' o' => ?_⟩
    · obtain ⟨t', b1, b2, b3, b4⟩ := h3 k hk
      exact ⟨t', b1, b2, (hvt t').mpr (Or.inl b3), by unfold opR; rw [hL 23 (by decide)]; exact b4⟩
    · have o2 : opR S t' := by unfold opR at o' ⊢; rw [hL 23 (by decide)] at o'; exact o'
      rcases (hvt t').mp v' with w | w
      · exact h5 t' w s' o2
      · subst w
        unfold opR at o2
        rw [z 23 (by decide) (by decide)] at o2
        exact absurd o2 (by decide)
  · intro t' v'
    have es : sP S' t' = sP S t' := by unfold sP; rw [hL 25 (by decide)]
    rw [es, hL 23 (by decide), hL 24 (by decide), opR_c hL (by decide)]
    by_cases q : t' = t
    · subst q
      rw [z 23 (by decide) (by decide), z 24 (by decide) (by decide)]
      refine ⟨bw.of (n := 0) (by decide) (by decide), bw.of (n := 0) (by decide) (by decide), fun o => ?_⟩
      unfold opR at o
      rw [z 23 (by decide) (by decide)] at o
      exact absurd o (by decide)
    · obtain ⟨h1, h2, h3⟩ := h t' (((hvt t').mp v').elim id (fun w => absurd w q))
      refine ⟨h1, h2, fun o => ?_⟩
      obtain ⟨b1, b2, b3, b4, b5, b6, b7, b8, b9, b10, b11, b12⟩ := h3 o
      unfold iRp
      simp only [hL 25 (by decide), hL 35 (by decide), hL 36 (by decide), hL 37 (by decide), hL 27 (by decide), hL 32 (by decide), hL 33 (by decide), hL 34 (by decide), r10, r11, r12, if_neg q, hL 39 (by decide), hL 29 (by decide), hL 26 (by decide), hL 23 (by decide)]
      exact ⟨b1, b2, b3, b4, b5, b6, b7, b8, b9, b10, b11, b12⟩
  · have ov : ∀ t', vT S' t' → opR S' t' → vT S t' ∧ opR S t' := fun t' v' o' => by
      have o2 : opR S t' := (opR_c hL (by decide)).mp o'
      rcases (hvt t').mp v' with w | w
      · exact ⟨w, o2⟩
      · subst w
        unfold opR at o2
        rw [z 23 (by decide) (by decide)] at o2
        exact absurd o2 (by decide)
    refine ⟨fun ta tb v1 v2 o1 o2 q => ?_, fun p hp => ?_⟩
    · rw [hL 25 (by decide)] at q
      exact i.1 ta tb (ov ta v1 o1).1 (ov tb v2 o2).1 (ov ta v1 o1).2 (ov tb v2 o2).2 q
    · rw [hL 35 (by decide)]
      rcases i.2 p hp with w | ⟨t', w1, w2, w3⟩
      · exact Or.inl w
      · exact Or.inr ⟨t', (hvt t').mpr (Or.inl w1), (opR_c hL (by decide)).mpr w2, by rw [hL 25 (by decide)]; exact w3⟩
  · intro jj hj
    rw [hL 44 (by decide)] at hj
    obtain ⟨t', h1, h2, h3⟩ := j jj hj
    have q : t' ≠ t := fun w => nv (by rw [← w]; exact h2)
    exact ⟨t', by rw [hL 45 (by decide)]; exact h1, (hvt t').mpr (Or.inl h2), uK_c (fun i _ => by rw [hL 45 (by decide)]) (by rw [r8, if_neg q]) (by rw [r10, if_neg q]) (by rw [r11, if_neg q]) (by rw [r12, if_neg q]) h3⟩
/-- a new object -/
theorem mInv_new {y : Int32} : mInv (mset (fun _ _ => 0) 0 0 y) := by
  refine mInv_n (S := fun _ _ => 0) ?_ (fun k hk => mset_kk (fun z => hk (by rw [z]; decide)))
  have b0 : ∀ n, bw 0 0 n := fun n => ⟨0, by omega, by omega, rfl⟩
  have nv : ∀ t, ¬ vT (fun _ _ => 0) t := fun t z => by
    have h1 := z.2.1
    have h2 := z.2.2
    unfold nN at h2
    rw [show (0 : Int32).toNatClampNeg = 0 from by decide] at h2
    omega
  refine ⟨⟨b0 _, fun e _ => b0 _⟩, fun F _ => ⟨b0 _, b0 _⟩, fun t v => absurd v (nv t), fun t _ _ k _ _ => rfl, fun t v => absurd v (nv t), ?_, ?_, fun t v => absurd v (nv t), ⟨fun t t' v => absurd v (nv t), fun p _ => Or.inl rfl⟩, fun j hj => ?_⟩
  · exact fun e he => ⟨0, by omega, rfl, fun k hk => by omega, fun k hk => by omega, fun t v => absurd v (nv t)⟩
  · exact fun e he => ⟨0, by omega, rfl, fun k hk => by omega, fun k hk => by omega, fun t v => absurd v (nv t)⟩
  · rw [show (0 : Int32).toNatClampNeg = 0 from by decide] at hj
    omega
