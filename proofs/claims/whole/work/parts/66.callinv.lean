/-! ===== the invariant with the calls counted: the calls ===== -/
theorem iK_13 {S S' : MS} (h7 : S' 7 = S 7) (h8 : S' 8 = S 8) (h15 : S' 15 = S 15) (h13 : ∀ t, S' 13 t = nI 5 → S 13 t = nI 5) (K : iK S) : iK S' := by
  intro t hv ho hk
  have hv' : vT S t := by unfold vT nN at hv ⊢; rw [h7] at hv; exact hv
  rw [h15]
  rw [h8] at hk
  exact K t hv' (h13 t ho) hk
theorem iE_13 {S S' : MS} (h7 : S' 7 = S 7) (h14 : S' 14 = S 14) (h15 : S' 15 = S 15) (h21 : S' 21 = S 21) (h13 : ∀ t, S' 13 t = nI 5 → S 13 t = nI 5) (K : iE S) : iE S' := by
  intro t hv ho hk
  have hv' : vT S t := by unfold vT nN at hv ⊢; rw [h7] at hv; exact hv
  rw [h14, h21]
  rw [h15] at hk
  exact K t hv' (h13 t ho) hk
/-- toSender: what it changes -/
def tsc (S S' : MS) (t k0 c : Nat) : Prop := (∀ k, k ∉ [13, 18, 19, 20, 40, 42, 44, 45] → S' k = S k) ∧ (∀ k, k ∈ [13, 18, 19, 20] → ∀ j, j ≠ t → S' k j = S k j) ∧ ((S' 13 = S 13 ∧ S' 40 = S 40 ∧ S' 42 = S 42) ∨ (¬ S' 13 t = nI 5 ∧ S 13 t = nI 5 ∧ (∀ j, S' 40 j = if 3 * (t / 320) + k0 ≤ j ∧ j < 3 * (t / 320) + (c - 1) then S 40 (j + 1) else S 40 j) ∧ ∀ j, S' 42 j = if j = t / 320 then nI (c - 1) else S 42 j))
theorem tsc.st {S S' : MS} {t k0 c : Nat} (H : ∀ k, k ∉ [18, 19, 20, 44, 45] → S' k = S k) (h1 : ∀ k, k ∈ [18, 19, 20] → ∀ j, j ≠ t → S' k j = S k j) : tsc S S' t k0 c := by
  refine ⟨fun k hk => H k (fun w => hk (by revert w; simp only [List.mem_cons, List.not_mem_nil, or_false]; omega)), fun k hk j hj => ?_, Or.inl ⟨H 13 (by decide), H 40 (by decide), H 42 (by decide)⟩⟩
  by_cases q : k = 13
  · rw [q, H 13 (by decide)]
  · exact h1 k (by revert hk q; simp only [List.mem_cons, List.not_mem_nil, or_false]; omega) j hj
theorem tsc_ts1 {S : MS} {t n k0 c gc : Nat} {A B : Nat → Nat} (C : cK S t) : tsc S (mTS1 S t n k0 c gc A B) t k0 c := by
  have s18 : ∀ j, j ≠ t → mset S 18 t (S 16 t) 18 j = S 18 j := fun j hj => mset_j rfl hj
  unfold mTS1
  split
  · rename_i ho
    unfold mTS2
    split
    · rename_i h4
      have hx : ¬ S 46 3 = nI 5 := by
        have h56 : bw (S 46 3) 1 4 := by
          rcases C with w | w | w | w | w | w
          · exact absurd (h4.symm.trans w.1) (by decide)
          · exact absurd (h4.symm.trans w.1) (by decide)
          · exact absurd (h4.symm.trans w.1) (by decide)
          · exact w.2.2
          · exact absurd (h4.symm.trans w.1) (by decide)
          · exact absurd (h4.symm.trans w.1) (by decide)
        exact fun z => bw_n56 h56 (Or.inl z)
      refine ⟨fun k hk => ?_, fun k hk j hj => ?_, Or.inr ⟨?_, ho, fun l => ?_, fun l => ?_⟩⟩
      · simp only [List.mem_cons, List.not_mem_nil, or_false, not_or] at hk
        rw [mRm_L k (by simp only [List.mem_cons, List.not_mem_nil, or_false, not_or]; omega), mset_kk hk.1, mset_kk hk.2.1]
      · rw [mRm_L k ((by decide : ∀ k ∈ [13, 18, 19, 20], k ∉ [40, 42]) k hk)]
        by_cases q : k = 13
        · subst q; rw [mset_j rfl hj, mset_k (by decide)]
        · rw [mset_k q]
          by_cases q2 : k = 18
          · subst q2; exact s18 j hj
          · exact mset_k q2
      · rw [mRm_o (by decide) (by decide), mset_s]; exact hx
      · unfold mRm
        split
        · rename_i q; rw [if_pos q.2, mset_k (by decide), mset_k (by decide)]
        · rename_i q; rw [if_neg (fun z => q ⟨rfl, z⟩), if_neg (by omega), mset_k (by decide), mset_k (by decide)]
      · unfold mRm
        rw [if_neg (by omega)]
        split
        · rename_i q; rw [if_pos q.2]
        · rename_i q; rw [if_neg (fun z => q ⟨rfl, z⟩), mset_k (by decide), mset_k (by decide)]
    · have S0 : tsc S (mset S 18 t (S 16 t)) t k0 c := tsc.st (fun k hk => mset_kk (fun z => hk (by rw [z]; decide))) (fun k hk j hj => by
        by_cases q : k = 18
        · subst q; exact s18 j hj
        · exact mset_k q)
      have S1 : ∀ k x, k ∈ [19, 20] → tsc S (mset (mset S 18 t (S 16 t)) k t x) t k0 c := fun kk x hkk => tsc.st (fun k hk => (mset_kk (fun z => hk (by rw [z]; exact (by decide : ∀ k ∈ [19, 20], k ∈ [18, 19, 20, 44, 45]) kk hkk))).trans (mset_kk (fun z => hk (by rw [z]; decide)))) (fun k hk j hj => by
        by_cases q : k = kk
        · subst q
          rw [mset_j ((by decide : ∀ k ∈ [19, 20], mIs k = true) k hkk) hj]
          exact mset_k ((by decide : ∀ k ∈ [19, 20], k ≠ 18) k hkk)
        · rw [mset_k q]
          by_cases q2 : k = 18
          · subst q2; exact s18 j hj
          · exact mset_k q2)
      split
      · split
        · exact S0
        · exact S1 20 _ (by decide)
      · split
        · split
          · exact S0
          · unfold mAsked
            exact S1 19 _ (by decide)
        · exact S0
  · exact tsc.st (fun _ _ => rfl) (fun _ _ _ _ => rfl)
theorem tsc_tos {S : MS} {u t n k0 c gc : Nat} {A B : Nat → Nat} (C : cK S t) : tsc S (mToS S u t n k0 c gc A B) t k0 c := by
  unfold mToS
  split
  · exact tsc.st (fun _ _ => rfl) (fun _ _ _ _ => rfl)
  · split
    · have L := mSend_L (S := S) (u := u) (kind := nI 5) (to := nI (1 - t / 320)) (t := nI t) (a := nI 4) (b := nI 0) (c := nI 0)
      obtain ⟨h1, h2, h3⟩ := tsc_ts1 (n := n) (k0 := k0) (c := c) (gc := gc) (A := A) (B := B) (cK_c L (by decide) C)
      refine ⟨fun k hk => (h1 k hk).trans (L k (fun w => hk (by revert w; simp only [List.mem_cons, List.not_mem_nil, or_false]; omega))), fun k hk j hj => (h2 k hk j hj).trans (congrFun (L k ((by decide : ∀ k ∈ [13, 18, 19, 20], k ∉ [44, 45]) k hk)) j), ?_⟩
      rw [L 13 (by decide), L 40 (by decide), L 42 (by decide)] at h3
      exact h3
    · exact tsc_ts1 C
theorem tsc.I3 {S S' : MS} {t k0 c : Nat} (F : tsc S S' t k0 c) (I : I3 S) (I' : mInv S') : I3 S' := by
  have h13 : ∀ t', S' 13 t' = nI 5 → S 13 t' = nI 5 := by
    intro t' h
    rcases F.2.2 with w | w
    · rw [← w.1]; exact h
    · by_cases q : t' = t
      · subst q; exact absurd h w.1
      · rw [← F.2.1 13 (by decide) t' q]; exact h
  exact ⟨I', iK_13 (F.1 7 (by decide)) (F.1 8 (by decide)) (F.1 15 (by decide)) h13 I.2.1, iE_13 (F.1 7 (by decide)) (F.1 14 (by decide)) (F.1 15 (by decide)) (F.1 21 (by decide)) h13 I.2.2⟩
theorem tsc.Ph {S S' : MS} {t k0 c : Nat} (F : tsc S S' t k0 c) (I : mInv S) (hv : vT S t) (hH : S 13 t = nI 5 → mHas 40 42 S (t / 320) k0 c t) {e : Nat} (he : e < 2) : Ph S e ≤ Ph S' e + 2 := by
  have hp : ∀ j, ph S' j = ph S j := fun j => by unfold ph; rw [F.1 14 (by decide), F.1 15 (by decide), F.1 21 (by decide)]
  rcases F.2.2 with ⟨-, h1, h2⟩ | ⟨-, h0, h1, h2⟩
  · exact Ph_stay (t := t) I h1 h2 (fun j _ => hp j) (by rw [hp]; omega) he
  · have := Ph_close I hv (hH h0) h1 h2 (fun j _ => hp j) he
    have := ph_2 (S := S) (t := t)
    omega
/-! a unit is delivered -/
theorem cI_tos {K : Nat} {S : MS} {u t n k0 c gc : Nat} {A B : Nat → Nat} (C0 : cI K S) (hv : vT S t) (C : cK S t) (hu : S 44 0 = nI u) (hu24 : u ≤ 24) (hn : n = fN S t) (hn64 : n ≤ 64) (hH : S 13 t = nI 5 → mHas 40 42 S (t / 320) k0 c t) (hG : S 46 0 = nI 6 → mGaps S gc A B) : cI (K + 1) (mToS S u t n k0 c gc A B) := by
  have F := tsc_tos (u := u) (n := n) (k0 := k0) (c := c) (gc := gc) (A := A) (B := B) C
  refine cI_step C0 (F.I3 C0.1 (mInv_tos C0.1.1 hv C hu hu24 hn hn64 hH hG)) (F.1 7 (by decide)) (fun e he => ?_)
  have := F.Ph C0.1.1 hv hH he
  omega
/-- the same count of calls: what doesn't count -/
theorem cI_same {K : Nat} {S S' : MS} {L : List Nat} (C : cI K S) (I : mInv S') (H : ∀ k, k ∉ L → S' k = S k) (d : ∀ k ∈ [7, 8, 13, 14, 15, 21, 40, 42], k ∉ L) : cI K S' := by
  refine ⟨⟨I, iK_c H (fun k hk => d k (by revert k; decide)) C.1.2.1, iE_c H (fun k hk => d k (by revert k; decide)) C.1.2.2⟩, fun e he => ?_⟩
  have e1 : nN S' e = nN S e := by unfold nN; rw [H 7 (d 7 (by decide))]
  have := Ph_c H (fun k hk => d k (by revert k; decide)) e
  have := C.2 e he
  omega
theorem cI_arr {K : Nat} {S : MS} {u k : Nat} (C : cI K S) (hu : S 44 0 = nI u) (hu24 : u ≤ 24) (hk : k < u) : cI K (mArr S u k) := cI_same C (mInv_arr C.1.1 hu hu24 hk) mArr_L (by decide)
theorem cI_m0 {K : Nat} {S : MS} {x : Int32} (C : cI K S) : cI K (mset S 3 0 x) := cI_same C (mInv_3 C.1.1) mset_L (by decide)
theorem cI_more {K K' : Nat} {S : MS} (C : cI K S) (h : K ≤ K') : cI K' S := ⟨C.1, fun e he => by have := C.2 e he; omega⟩
theorem cI_cancel {K : Nat} {S : MS} {e n : Int32} (C : cI K S) : cI (K + 1) (mCancel S e n) := by
  have I' := mInv_cancel (e := e) (n := n) C.1.1
  revert I'
  unfold mCancel
  split
  · rename_i q
    intro I'
    obtain ⟨t, h1, h2⟩ := known_v C.1.1 q.1
    obtain ⟨-, q2, q3⟩ := q
    rw [h1, nI_clamp (by have := h2.1; omega)] at q2 q3 I' ⊢
    have C0 : cI K (m0 S) := cI_m0 C
    have o13 : m0 S 13 t = nI 5 := by unfold m0; rw [mset_k (by decide)]; exact q2
    have o21 : m0 S 21 t = 0 := by unfold m0; rw [mset_k (by decide)]; exact q3
    generalize m0 S = S0 at *
    have H : ∀ k, k ∉ [15, 19, 20, 21] → mDrop S0 t k = S0 k := fun k hk => by
      simp only [List.mem_cons, List.not_mem_nil, or_false, not_or] at hk
      unfold mDrop
      rw [mset_kk hk.2.1, mset_kk hk.2.2.1, mset_kk hk.1, mset_kk hk.2.2.2]
    have r15 : ∀ j, mDrop S0 t 15 j = if j = t then 0 else S0 15 j := fun j => by
      unfold mDrop
      rw [mset_k (by decide), mset_k (by decide), mset_if rfl, mset_k (by decide)]
    have r21 : ∀ j, mDrop S0 t 21 j = if j = t then 1 else S0 21 j := fun j => by
      unfold mDrop
      rw [mset_k (by decide), mset_k (by decide), mset_k (by decide), mset_if rfl]
    refine cI_step C0 ⟨I', fun t' v' o' k' => ?_, fun t' v' o' h15 => ?_⟩ (H 7 (by decide)) (fun e he => ?_)
    · rw [r15]
      split
      · rfl
      · rw [H 13 (by decide)] at o'
        rw [H 8 (by decide)] at k'
        exact C0.1.2.1 t' ((vT_c H (by decide)).mp v') o' k'
    · rw [r15] at h15
      split at h15
      · exact absurd rfl h15
      · rename_i qn
        rw [H 13 (by decide)] at o'
        rw [H 14 (by decide), r21, if_neg qn]
        exact C0.1.2.2 t' ((vT_c H (by decide)).mp v') o' h15
    · have := Ph_stay (n := 1) (t := t) C0.1.1 (H 40 (by decide)) (H 42 (by decide)) (fun j hj => by unfold ph; rw [H 14 (by decide), r15, if_neg hj, r21, if_neg hj]) (by
        unfold ph
        rw [H 14 (by decide), show mDrop S0 t 15 t = 0 from by rw [r15, if_pos rfl], show mDrop S0 t 21 t = 1 from by rw [r21, if_pos rfl], o21]
        rw [if_neg (show ¬ (1 : Int32) = 0 by decide)]
        simp only [if_pos]
        split <;> split <;> omega) he
      omega
  · intro I'
    exact cI_fr C I' (L := [3]) mset_L (by decide)
theorem cI_suspend {K : Nat} {S : MS} {e n on : Int32} (C : cI K S) (hon : on = 0 ∨ on = 1) : cI (K + 1) (mSuspend S e n on) := by
  refine cI_fr (L := [3, 22]) C (mInv_suspend C.1.1 hon) (fun k hk => ?_) (by decide)
  simp only [List.mem_cons, List.not_mem_nil, or_false, not_or] at hk
  unfold mSuspend
  split
  · rw [mset_kk hk.2]; exact mset_kk hk.1
  · exact mset_kk hk.1
theorem cI_put {K : Nat} {S : MS} {e f d y x g cn cs : Nat} (C : cI K S) (he : e < 2) (hf : f < 6) (hd : d < 6) (hg : g < 6) (hy1 : 1 ≤ y) (hy2 : y ≤ 2) (hx : x ≤ 2) (ht : ¬ S 4 (6 * e + f) = 0) (hcn : S 7 e = nI cn) (hcn9 : cn < 319) (hcs : S 42 e = nI cs) (hcs3 : cs < 3) : cI (K + 1) (mPut S e f d y x g cn cs) := by
  have I' := mInv_put C.1.1 he hf hd hg hy1 hy2 hx ht hcn hcn9 hcs hcs3
  have r7 : ∀ l, mPut S e f d y x g cn cs 7 l = if l = e then nI (cn + 1) else S 7 l := fun l => by
    unfold mPut m0
    rw [mset_k (by decide), mset_k (by decide), mset_k (by decide), mset_k (by decide), mset_k (by decide), mset_k (by decide), mset_k (by decide), mset_k (by decide), mset_if rfl, mset_k (by decide)]
  have r8 : ∀ l, mPut S e f d y x g cn cs 8 l = if l = 320 * e + (cn + 1) then nI y else S 8 l := fun l => by
    unfold mPut m0
    rw [mset_k (by decide), mset_k (by decide), mset_k (by decide), mset_k (by decide), mset_k (by decide), mset_k (by decide), mset_k (by decide), mset_if rfl, mset_k (by decide), mset_k (by decide)]
  have r13 : ∀ l, mPut S e f d y x g cn cs 13 l = if l = 320 * e + (cn + 1) then nI 5 else S 13 l := fun l => by
    unfold mPut m0
    rw [mset_k (by decide), mset_k (by decide), mset_if rfl, mset_k (by decide), mset_k (by decide), mset_k (by decide), mset_k (by decide), mset_k (by decide), mset_k (by decide), mset_k (by decide)]
  have r40 : ∀ l, mPut S e f d y x g cn cs 40 l = if l = 3 * e + cs then nI (320 * e + (cn + 1)) else S 40 l := fun l => by
    unfold mPut m0
    rw [mset_k (by decide), mset_if rfl, mset_k (by decide), mset_k (by decide), mset_k (by decide), mset_k (by decide), mset_k (by decide), mset_k (by decide), mset_k (by decide), mset_k (by decide)]
  have r42 : ∀ l, mPut S e f d y x g cn cs 42 l = if l = e then nI (cs + 1) else S 42 l := fun l => by
    unfold mPut m0
    rw [mset_if rfl, mset_k (by decide), mset_k (by decide), mset_k (by decide), mset_k (by decide), mset_k (by decide), mset_k (by decide), mset_k (by decide), mset_k (by decide), mset_k (by decide)]
  have hL : ∀ k, k ∉ [3, 7, 8, 9, 10, 11, 12, 13, 40, 42] → mPut S e f d y x g cn cs k = S k := fun k h => funext fun j => by
    simp only [List.mem_cons, List.not_mem_nil, or_false, not_or] at h
    obtain ⟨a1, a2, a3, a4, a5, a6, a7, a8, a9, a10⟩ := h
    unfold mPut m0
    rw [mset_k a10, mset_k a9, mset_k a8, mset_k a7, mset_k a6, mset_k a5, mset_k a4, mset_k a3, mset_k a2, mset_k a1]
  generalize mPut S e f d y x g cn cs = S' at *
  have nv : ¬ vT S (320 * e + (cn + 1)) := fun z => by
    have := z.2.2
    unfold nN at this
    rw [show (320 * e + (cn + 1)) / 320 = e from by omega, hcn, nI_clamp (by omega)] at this
    omega
  have z := C.1.1.2.2.2.1 (320 * e + (cn + 1)) (by omega) nv
  have vT' : ∀ t', vT S' t' → t' ≠ 320 * e + (cn + 1) → vT S t' := by
    intro t' v' q
    unfold vT nN at v' ⊢
    rw [r7] at v'
    by_cases w : t' / 320 = e
    · rw [if_pos w, nI_clamp (by omega)] at v'
      rw [w, hcn, nI_clamp (by omega)]
      omega
    · rw [if_neg w] at v'
      exact v'
  refine ⟨⟨I', fun t' v' o' k' => ?_, fun t' v' o' h15 => ?_⟩, fun e' he' => ?_⟩
  · rw [hL 15 (by decide)]
    by_cases q : t' = 320 * e + (cn + 1)
    · rw [q]; exact z 15 (by decide) (by decide)
    · rw [r13, if_neg q] at o'
      rw [r8, if_neg q] at k'
      exact C.1.2.1 t' (vT' t' v' q) o' k'
  · rw [hL 14 (by decide), hL 21 (by decide)]
    rw [hL 15 (by decide)] at h15
    by_cases q : t' = 320 * e + (cn + 1)
    · rw [q] at h15; exact absurd (z 15 (by decide) (by decide)) h15
    · rw [r13, if_neg q] at o'
      exact C.1.2.2 t' (vT' t' v' q) o' h15
  · have hp : ∀ j, ph S' j = ph S j := fun j => by unfold ph; rw [hL 14 (by decide), hL 15 (by decide), hL 21 (by decide)]
    have h5 := C.2 e' he'
    by_cases q : e' = e
    · subst q
      have c0 : cP 42 S e' = cs := by unfold cP; rw [hcs, nI_clamp (by omega)]
      have c1 : cP 42 S' e' = cs + 1 := by unfold cP; rw [r42, if_pos rfl, nI_clamp (by omega)]
      have n0 : nN S e' = cn := by unfold nN; rw [hcn, nI_clamp (by omega)]
      have n1 : nN S' e' = cn + 1 := by unfold nN; rw [r7, if_pos rfl, nI_clamp (by omega)]
      have e1 : Ph S' e' = Ph S e' + 2 := by
        unfold Ph
        rw [c0, c1]
        show sm _ cs + ph S' (S' 40 (3 * e' + cs)).toNatClampNeg = _
        rw [r40, if_pos rfl, nI_clamp (by omega), hp, sm_e (g := fun k => ph S (S 40 (3 * e' + k)).toNatClampNeg) cs (fun k hk => by show ph S' (S' 40 (3 * e' + k)).toNatClampNeg = _; rw [hp, r40, if_neg (by omega)])]
        congr 1
        unfold ph
        rw [z 14 (by decide) (by decide), z 15 (by decide) (by decide), z 21 (by decide) (by decide)]
        rfl
      omega
    · have n1 : nN S' e' = nN S e' := by unfold nN; rw [r7, if_neg q]
      have c1 : cP 42 S' e' = cP 42 S e' := by unfold cP; rw [r42, if_neg q]
      have e1 : Ph S' e' = Ph S e' := by
        unfold Ph
        rw [c1]
        refine sm_e _ (fun k hk => ?_)
        have k3 : k < 3 := by
          obtain ⟨t', a1, a2, a3, a4, a5, a6, a7⟩ := rowS C.1.1 he' hk
          omega
        show ph S' (S' 40 (3 * e' + k)).toNatClampNeg = _
        rw [hp, r40, if_neg (by omega)]
      omega
theorem cI_new {y : Int32} : cI 0 (mset (fun _ _ => 0) 0 0 y) := by
  have nv : ∀ t, ¬ vT (mset (fun _ _ => 0) 0 0 y) t := fun t z => by
    have h1 := z.2.1
    have h2 := z.2.2
    unfold nN at h2
    rw [mset_k (by decide), show (0 : Int32).toNatClampNeg = 0 from by decide] at h2
    omega
  refine ⟨⟨mInv_new, fun t v => absurd v (nv t), fun t v => absurd v (nv t)⟩, fun e he => ?_⟩
  have : nN (mset (fun _ _ => 0) 0 0 y) e = 0 := by
    unfold nN
    rw [mset_k (by decide)]
    decide
  omega
