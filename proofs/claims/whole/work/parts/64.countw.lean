theorem Ph_other {S S' : MS} {t e : Nat} (I : mInv S) (he : e < 2) (hne : e ≠ t / 320) (h40 : ∀ k, k < 3 → S' 40 (3 * e + k) = S 40 (3 * e + k)) (h42 : S' 42 e = S 42 e) (ho : ∀ j, j ≠ t → ph S' j = ph S j) : Ph S' e = Ph S e := by
  have hc' : cP 42 S' e = cP 42 S e := by unfold cP; rw [h42]
  unfold Ph
  rw [hc']
  refine sm_e _ (fun k hk => ?_)
  obtain ⟨t', a1, a2, a3, a4, a5, a6, a7⟩ := rowS I he hk
  show ph S' (S' 40 (3 * e + k)).toNatClampNeg = ph S (S 40 (3 * e + k)).toNatClampNeg
  rw [h40 k (by omega), a2]
  exact ho t' (fun z => hne (by rw [← a3, z]))
/-- a sender's step, for the sum -/
def wph (S S' : MS) (t k0 c : Nat) : Prop := (S' 40 = S 40 ∧ S' 42 = S 42 ∧ ph S t ≤ ph S' t + 1) ∨ ((∀ j, S' 40 j = if 3 * (t / 320) + k0 ≤ j ∧ j < 3 * (t / 320) + (c - 1) then S 40 (j + 1) else S 40 j) ∧ (∀ j, S' 42 j = if j = t / 320 then nI (c - 1) else S 42 j) ∧ ph S t ≤ 1)
theorem wph.st {S S' : MS} {t k0 c : Nat} (h40 : S' 40 = S 40) (h42 : S' 42 = S 42) (h : ph S t ≤ ph S' t + 1) : wph S S' t k0 c := Or.inl ⟨h40, h42, h⟩
theorem wph.cl {S S' : MS} {t k0 c : Nat} {x : Int32} (h40 : S' 40 = S 40) (h42 : S' 42 = S 42) (h : ph S t ≤ 1) : wph S (mRm 40 42 (mset S' 13 t x) (t / 320) k0 c (c - 1)) t k0 c := by
  refine Or.inr ⟨fun l => ?_, fun l => ?_, h⟩
  · unfold mRm
    split
    · rename_i q; rw [if_pos q.2, mset_k (by decide), h40]
    · rename_i q; rw [if_neg (fun z => q ⟨rfl, z⟩), if_neg (by omega), mset_k (by decide), h40]
  · unfold mRm
    rw [if_neg (by omega)]
    split
    · rename_i q; rw [if_pos q.2]
    · rename_i q; rw [if_neg (fun z => q ⟨rfl, z⟩), mset_k (by decide), h42]
theorem wph_end {S S' : MS} {u t f n k0 c : Nat} (H : ∀ k, k ∉ [16, 18] → S' k = S k) (h : ph S t ≤ 1) : wph S (mEnd S' u t f n k0 c) t k0 c := by
  have e40 : mEnd1 S' u t f n 40 = S 40 := (mEnd1_L 40 (by decide)).trans (H 40 (by decide))
  have e42 : mEnd1 S' u t f n 42 = S 42 := (mEnd1_L 42 (by decide)).trans (H 42 (by decide))
  unfold mEnd
  split
  · exact wph.cl e40 e42 h
  · exact wph.st e40 e42 (by omega)
theorem ph_le {S S' : MS} {t k : Nat} (h : ∀ k', k' ∈ [14, 15, 21] → k' ≠ k → S' k' t = S k' t) : ph S t ≤ ph S' t + 1 := by
  unfold ph
  by_cases q14 : k = 14
  · rw [h 15 (by decide) (by omega), h 21 (by decide) (by omega)]
    split <;> split <;> split <;> split <;> omega
  · by_cases q15 : k = 15
    · rw [h 14 (by decide) (by omega), h 21 (by decide) (by omega)]
      split <;> split <;> split <;> split <;> omega
    · rw [h 14 (by decide) (by omega), h 15 (by decide) (by omega)]
      split <;> split <;> split <;> split <;> omega
theorem ph_0 {S : MS} {t : Nat} (h15 : ¬ S 15 t = 0) (h : ¬ (S 14 t = 0 ∧ S 21 t = 0)) : ph S t = 0 := by
  unfold ph
  rw [if_neg h15]
  by_cases q : S 14 t = 0
  · rw [if_neg (fun z => h ⟨q, z⟩)]; split <;> omega
  · rw [if_neg q]; split <;> omega
theorem wph_work {S : MS} {u t f n k0 c st s0 : Nat} (X : wH S u t f n k0 c st s0) (E : iE S) : wph S (mWork S u t f n k0 c st s0) t k0 c := by
  obtain ⟨I, hv, ho, hu, hu24, hf, hn, hn64, hst, hst2, hH, hR⟩ := X
  have z := E t hv ho
  unfold mWork
  split
  · have H : ∀ k, k ∉ [16] → mset S 16 t (S 16 t + nI 1) k = S k := mset_L
    generalize mset S 16 t (S 16 t + nI 1) = S1 at H
    have H8 : ∀ k, k ∉ [16, 18] → mset S1 18 t (S1 16 t) k = S k := fun k hk => (mset_kk (fun w => hk (by rw [w]; decide))).trans (H k (fun w => hk (by revert w; simp only [List.mem_cons, List.not_mem_nil, or_false]; omega)))
    unfold mWk
    rw [H 15 (by decide)]
    split
    · rename_i h15
      unfold mWk0
      rw [H 21 (by decide)]
      split
      · rename_i q
        refine wph_end H8 ?_
        unfold ph
        rcases q with q | q
        · rw [if_neg q]; omega
        · rw [if_neg (c := S 14 t = 0)]
          · omega
          · rw [hst]; exact nI_ne0 (by omega) (by omega)
      · refine wph.st ?_ ?_ (ph_le (k := 14) (fun k' hk' hne => ?_))
        · rw [mset_kk (by decide)]
          split
          · exact (mSendT_L 40 (by decide)).trans (H8 40 (by decide))
          · exact (mSendT_L 40 (by decide)).trans (H8 40 (by decide))
        · rw [mset_kk (by decide)]
          split
          · exact (mSendT_L 42 (by decide)).trans (H8 42 (by decide))
          · exact (mSendT_L 42 (by decide)).trans (H8 42 (by decide))
        · rw [mset_k hne]
          have h1 := (by decide : ∀ k ∈ [14, 15, 21], k ∉ [44, 45] ∧ k ∉ [16, 18]) k' hk'
          split
          · exact congrFun ((mSendT_L k' h1.1).trans (H8 k' h1.2)) t
          · exact congrFun ((mSendT_L k' h1.1).trans (H8 k' h1.2)) t
    · rename_i h15
      have hz : ph S t = 0 := ph_0 h15 (z h15)
      split
      · have e : ∀ k, k ∉ [16, 18, 19, 44, 45] → mRep (mset S1 18 t (S1 16 t)) u t f n s0 k = S k := fun k hk => by
          have h1 : k ∉ [44, 45] := fun w => hk (by revert w; simp only [List.mem_cons, List.not_mem_nil, or_false]; omega)
          have h2 : k ∉ [16, 18] := fun w => hk (by revert w; simp only [List.mem_cons, List.not_mem_nil, or_false]; omega)
          unfold mRep
          split
          · exact ((mSendT_L k h1).trans (mset_kk (fun w => hk (by rw [w]; decide)))).trans (H8 k h2)
          · exact ((mSendT_L k h1).trans (mset_kk (fun w => hk (by rw [w]; decide)))).trans (H8 k h2)
        exact wph.st (e 40 (by decide)) (e 42 (by decide)) (by omega)
      · split
        · unfold mWk2
          split
          · exact wph.st (H 40 (by decide)) (H 42 (by decide)) (by omega)
          · split
            · exact wph.cl (H 40 (by decide)) (H 42 (by decide)) (by omega)
            · exact wph_end H8 (by omega)
        · unfold mWk3
          split
          · exact wph.cl (H 40 (by decide)) (H 42 (by decide)) (by omega)
          · exact wph.st (H 40 (by decide)) (H 42 (by decide)) (by omega)
  · exact wph.st rfl rfl (by omega)
theorem wfr_ph {S S' : MS} {t : Nat} (F : wfr S S' t) : ∀ j, j ≠ t → ph S' j = ph S j := fun j hj => by
  unfold ph
  rw [F.2 14 (by decide) (by decide) j hj, F.2 15 (by decide) (by decide) j hj, F.1 21 (by decide)]
/-- the sum, over a sender's step -/
theorem Ph_work {S : MS} {t : Nat} (I : mInv S) (E : iE S) (hv : vT S t) (ho : S 13 t = nI 5) {e : Nat} (he : e < 2) : Ph S e ≤ Ph (fW S t) e + (if e = t / 320 then 1 else 0) := by
  have h640 := hv.1
  have F : wfr S (fW S t) t := wfr_work
  have hH := I.hasS hv ho
  rcases wph_work (wH_of I hv ho) E with ⟨h1, h2, h3⟩ | ⟨h1, h2, h3⟩
  · by_cases q : e = t / 320
    · rw [if_pos q]
      exact Ph_stay I h1 h2 (wfr_ph F) h3 he
    · rw [if_neg q]
      have := Ph_other (S' := fW S t) I he q (fun k _ => congrFun h1 _) (congrFun h2 _) (wfr_ph F)
      omega
  · by_cases q : e = t / 320
    · rw [if_pos q]
      have := Ph_close (S' := fW S t) I hv hH h1 h2 (wfr_ph F) he
      omega
    · rw [if_neg q]
      have := Ph_other (S' := fW S t) I he q (fun k hk => by rw [show fW S t 40 (3 * e + k) = _ from h1 _, if_neg (by have := hH.2.1; omega)]) (by rw [show fW S t 42 e = _ from h2 _, if_neg q]) (wfr_ph F)
      omega
theorem iE_work {S : MS} {t : Nat} (E : iE S) (I : mInv S) (hv : vT S t) (ho : S 13 t = nI 5) : iE (fW S t) := by
  have F : wfr S (fW S t) t := wfr_work
  obtain ⟨-, -, -, hu, hu24, hf, hn, hn64, hst, hst2, hH, hR⟩ := wH_of I hv ho
  intro t' v' o' h15
  have v2 : vT S t' := (vT_c F.1 (by decide)).mp v'
  have e21 : fW S t 21 = S 21 := F.1 21 (by decide)
  rw [e21]
  by_cases q : t' = t
  · subst q
    by_cases w : S 15 t' = 0
    · revert h15
      unfold fW mWork
      split
      · have H : ∀ k, k ∉ [16] → mset S 16 t' (S 16 t' + nI 1) k = S k := mset_L
        generalize mset S 16 t' (S 16 t' + nI 1) = S1 at H
        unfold mWk
        rw [H 15 (by decide), if_pos w]
        unfold mWk0
        rw [H 21 (by decide)]
        split
        · rename_i r
          intro _ y
          rcases r with r | r
          · exact r y.2
          · have e14 : mEnd (mset S1 18 t' (S1 16 t')) (gU S) t' (fI S t') (fN S t') (kP 40 S (t' / 320) t') (cP 42 S (t' / 320)) 14 t' = S 14 t' := by
              unfold mEnd
              split
              · rw [mRm_o (by decide) (by decide), mset_k (by decide), mEnd1_L 14 (by decide), mset_k (by decide), H 14 (by decide)]
              · rw [mEnd1_L 14 (by decide), mset_k (by decide), H 14 (by decide)]
            rw [e14, hst] at y
            exact nI_ne0 (by omega) (by omega) y.1
        · intro h15
          refine absurd ?_ h15
          rw [mset_k (by decide)]
          split
          · rw [mM_o (by decide) (by decide), mset_k (by decide), H 15 (by decide)]; exact w
          · rw [mD_o (by decide) (by decide), mset_k (by decide), H 15 (by decide)]; exact w
      · intro h15; exact absurd w h15
    · have y := E t' hv ho w
      have e14 : fW S t' 14 t' = S 14 t' := by
        unfold fW mWork
        split
        · have H : ∀ k, k ∉ [16] → mset S 16 t' (S 16 t' + nI 1) k = S k := mset_L
          generalize mset S 16 t' (S 16 t' + nI 1) = S1 at H
          have e1 : ∀ u f n k0 c, mEnd (mset S1 18 t' (S1 16 t')) u t' f n k0 c 14 t' = S 14 t' := by
            intro u f n k0 c
            unfold mEnd
            split
            · rw [mRm_o (by decide) (by decide), mset_k (by decide), mEnd1_L 14 (by decide), mset_k (by decide), H 14 (by decide)]
            · rw [mEnd1_L 14 (by decide), mset_k (by decide), H 14 (by decide)]
          unfold mWk
          rw [H 15 (by decide), if_neg w]
          split
          · unfold mRep
            split
            · unfold mRepM
              rw [mM_o (by decide) (by decide), mset_k (by decide), mset_k (by decide), H 14 (by decide)]
            · unfold mRepD
              rw [mD_o (by decide) (by decide), mset_k (by decide), mset_k (by decide), H 14 (by decide)]
          · split
            · unfold mWk2
              split
              · rw [H 14 (by decide)]
              · split
                · rw [mRm_o (by decide) (by decide), mset_k (by decide), H 14 (by decide)]
                · exact e1 _ _ _ _ _
            · unfold mWk3
              split
              · rw [mRm_o (by decide) (by decide), mset_k (by decide), H 14 (by decide)]
              · rw [H 14 (by decide)]
        · rfl
      rw [e14]
      exact y
  · rw [F.2 14 (by decide) (by decide) t' q]
    have e13 : fW S t 13 t' = S 13 t' := F.2 13 (by decide) (by decide) t' q
    have e15 : fW S t 15 t' = S 15 t' := F.2 15 (by decide) (by decide) t' q
    rw [e13] at o'
    rw [e15] at h15
    exact E t' v2 o' h15
