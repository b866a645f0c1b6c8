/-! ===== the invariant with the calls counted ===== -/
def I3 (S : MS) : Prop := mInv S ∧ iK S ∧ iE S
def cI (K : Nat) (S : MS) : Prop := I3 S ∧ ∀ e, e < 2 → 5 * nN S e ≤ 3 * K + Ph S e
theorem cI.n {K : Nat} {S : MS} (C : cI K S) (hK : K ≤ 512) {e : Nat} (he : e < 2) : nN S e ≤ 308 := by
  have h1 := C.2 e he
  have h2 := Ph_6 C.1.1 he
  omega
theorem cI_step {K : Nat} {S S' : MS} (C : cI K S) (I : I3 S') (h7 : S' 7 = S 7) (h : ∀ e, e < 2 → Ph S e ≤ Ph S' e + 3) : cI (K + 1) S' := by
  refine ⟨I, fun e he => ?_⟩
  have e1 : nN S' e = nN S e := by unfold nN; rw [h7]
  have h1 := C.2 e he
  have h2 := h e he
  rw [e1]
  omega
theorem cI_fr {K : Nat} {S S' : MS} {L : List Nat} (C : cI K S) (I : mInv S') (H : ∀ k, k ∉ L → S' k = S k) (d : ∀ k ∈ [7, 8, 13, 14, 15, 21, 40, 42], k ∉ L) : cI (K + 1) S' := by
  refine cI_step C ⟨I, iK_c H (fun k hk => d k (by revert k; decide)) C.1.2.1, iE_c H (fun k hk => d k (by revert k; decide)) C.1.2.2⟩ (H 7 (d 7 (by decide))) (fun e _ => ?_)
  have := Ph_c H (fun k hk => d k (by revert k; decide)) e
  omega
/-! tick -/
theorem tS_I {e : Nat} (he : e < 2) : ∀ (z k : Nat) (S : MS), I3 S → I3 (tS fW e z k S) ∧ tS fW e z k S 7 = S 7 ∧ (∀ e', e' < 2 → e' ≠ e → Ph S e' ≤ Ph (tS fW e z k S) e') ∧ Ph S e ≤ Ph (tS fW e z k S) e + (cP 42 S e - k) := by
  intro z
  induction z with
  | zero => intro k S I; unfold tS; exact ⟨I, rfl, fun _ _ _ => Nat.le_refl _, by omega⟩
  | succ z ih =>
    intro k S I
    unfold tS
    split
    · exact ⟨I, rfl, fun _ _ _ => Nat.le_refl _, by omega⟩
    · rename_i hk
      have hk2 : k < cP 42 S e := by unfold cP; omega
      obtain ⟨t, a1, a2, a3, a4, a5, a6, a7⟩ := rowS I.1 he hk2
      rw [a2]
      have I' : I3 (fW S t) := ⟨fW_inv I.1 a4 a5, iK_work I.2.1 I.1 a4 a5, iE_work I.2.2 I.1 a4 a5⟩
      have P := fun e' (he' : e' < 2) => Ph_work I.1 I.2.2 a4 a5 he'
      have c1 := fW_c I.1 a4 a5
      rw [a3] at c1
      have F : wfr S (fW S t) t := wfr_work
      obtain ⟨j1, j2, j3, j4⟩ := ih (if fW S t 13 t = nI 5 then k + 1 else k) (fW S t) I'
      have c2 : cP 42 (fW S t) e = if fW S t 13 t = nI 5 then cP 42 S e else cP 42 S e - 1 := by
        show (fW S t 42 e).toNatClampNeg = _
        rw [c1, nI_clamp (by split <;> omega)]
      refine ⟨j1, j2.trans (F.1 7 (by decide)), fun e' he' hne => ?_, ?_⟩
      · have p := P e' he'
        rw [if_neg (by omega)] at p
        have := j3 e' he' hne
        omega
      · have p := P e he
        rw [if_pos a3.symm] at p
        rw [c2] at j4
        split at j4
        · rename_i w; simp only [if_pos w] at j4 ⊢; omega
        · rename_i w; simp only [if_neg w] at j4 ⊢; omega
theorem rowR {S : MS} {e k : Nat} (I : mInv S) (he : e < 2) (hk : k < cP 43 S e) : ∃ t, S 41 (3 * e + k) = nI t ∧ (S 41 (3 * e + k)).toNatClampNeg = t ∧ 1 - t / 320 = e ∧ vT S t ∧ opR S t := by
  obtain ⟨c, h1, h2, h3, h4, h5⟩ := I.M e he
  have hc : cP 43 S e = c := by unfold cP; rw [h2, nI_clamp (by omega)]
  rw [hc] at hk
  obtain ⟨t, a1, a2, a3, a4⟩ := h3 k hk
  have h640 := a3.1
  exact ⟨t, a1, by rw [a1, nI_clamp (by omega)], a2, a3, a4⟩
theorem fA_L {S : MS} {t : Nat} : ∀ k, k ∉ [23, 26, 29, 30, 35, 41, 43, 44, 45, 47] → fA S t k = S k := (afr_att (S := S) (u := gU S) (t := t) (p := sP S t) (n := nP S (sP S t)) (k0 := kP 41 S (1 - t / 320) t) (c := cP 43 S (1 - t / 320))).1
theorem tR_I {e : Nat} (he : e < 2) : ∀ (z k : Nat) (S : MS), I3 S → I3 (tR fA e z k S) ∧ ∀ k', k' ∉ [23, 26, 29, 30, 35, 41, 43, 44, 45, 47] → tR fA e z k S k' = S k' := by
  intro z
  induction z with
  | zero => intro k S I; unfold tR; exact ⟨I, fun _ _ => rfl⟩
  | succ z ih =>
    intro k S I
    unfold tR
    split
    · exact ⟨I, fun _ _ => rfl⟩
    · rename_i hk
      have hk2 : k < cP 43 S e := by unfold cP; omega
      obtain ⟨t, a1, a2, a3, a4, a5⟩ := rowR I.1 he hk2
      rw [a2]
      have I' : I3 (fA S t) := ⟨fA_inv I.1 a4 a5, iK_att I.2.1, iE_c fA_L (by decide) I.2.2⟩
      obtain ⟨j1, j2⟩ := ih (if fA S t 23 t = nI 5 ∨ fA S t 23 t = nI 6 then k + 1 else k) (fA S t) I'
      exact ⟨j1, fun k' hk' => (j2 k' hk').trans (fA_L k' hk')⟩
theorem cI_tick {K : Nat} {S : MS} (C : cI K S) : cI (K + 1) (mTick fW fA S) := by
  have H0 : ∀ k, k ∉ [2, 3] → mset (m0 S) 2 0 (S 1 0 + nI 1) k = S k := fun k hk => by
    unfold m0
    simp only [List.mem_cons, List.not_mem_nil, or_false, not_or] at hk
    rw [mset_kk hk.1, mset_kk hk.2]
  have J0 : I3 (mset (m0 S) 2 0 (S 1 0 + nI 1)) := ⟨mInv_n C.1.1 (fun k hk => H0 k (fun z => hk (by revert z; simp only [List.mem_cons, List.not_mem_nil, or_false]; omega))), iK_c H0 (by decide) C.1.2.1, iE_c H0 (by decide) C.1.2.2⟩
  have P0 := fun e => Ph_c H0 (by decide) e
  generalize hS0 : mset (m0 S) 2 0 (S 1 0 + nI 1) = S0 at *
  obtain ⟨J1, F1, G1, M1⟩ := tS_I (e := 0) (by decide) 4 0 S0 J0
  obtain ⟨J2, L2⟩ := tR_I (e := 0) (by decide) 4 0 _ J1
  obtain ⟨J3, F3, G3, M3⟩ := tS_I (e := 1) (by decide) 4 0 _ J2
  obtain ⟨J4, L4⟩ := tR_I (e := 1) (by decide) 4 0 _ J3
  have P2 := fun e => Ph_c L2 (by decide) e
  have P4 := fun e => Ph_c L4 (by decide) e
  have c1 : cP 42 S0 0 ≤ 3 := by obtain ⟨c, h1, h2, -⟩ := J0.1.L 0 (by decide); unfold cP; rw [h2, nI_clamp (by omega)]; exact h1
  have hT : mTk fW fA S = tR fA 1 4 0 (tS fW 1 4 0 (tR fA 0 4 0 (tS fW 0 4 0 S0))) := by unfold mTk; rw [hS0]
  have g1 := G1 1 (by decide) (by decide)
  have g3 := G3 0 (by decide) (by decide)
  have c3 : cP 42 (tR fA 0 4 0 (tS fW 0 4 0 S0)) 1 ≤ 3 := by obtain ⟨c, h1, h2, -⟩ := J2.1.L 1 (by decide); unfold cP; rw [h2, nI_clamp (by omega)]; exact h1
  unfold mTick
  rw [hT]
  generalize tS fW 0 4 0 S0 = S1 at *
  generalize tR fA 0 4 0 S1 = S2 at *
  generalize tS fW 1 4 0 S2 = S3 at *
  generalize tR fA 1 4 0 S3 = S4 at *
  have H5 : ∀ k, k ∉ [1] → mset S4 1 0 (S4 2 0) k = S4 k := mset_L
  refine cI_step C ⟨mInv_n J4.1 (fun k hk => H5 k (fun z => hk (by revert z; simp only [List.mem_cons, List.not_mem_nil, or_false]; omega))), iK_c H5 (by decide) J4.2.1, iE_c H5 (by decide) J4.2.2⟩ ?_ (fun e he => ?_)
  · rw [H5 7 (by decide), L4 7 (by decide), F3, L2 7 (by decide), F1, H0 7 (by decide)]
  · rw [Ph_c H5 (by decide) e, P4 e]
    have : e = 0 ∨ e = 1 := by omega
    rcases this with w | w
    · subst w
      have := P0 0
      have := P2 0
      omega
    · subst w
      have := P0 1
      have := P2 1
      omega
/-! what toReceiver leaves alone -/
theorem mFin_L {S : MS} {u t p k0 c : Nat} {x y : Int32} : ∀ k, k ∉ [23, 26, 29, 30, 35, 41, 43, 44, 45, 47] → mFin S u t p k0 c x y k = S k := (afr_fin (S := S) (S' := S) afr.rfl).1
theorem mCpl_L {S : MS} {u t p d ot n cs k0 c : Nat} {y : Int32} : ∀ k, k ∉ [4, 5, 6, 23, 24, 26, 29, 30, 35, 41, 43, 44, 45, 47] → mCpl S u t p d ot n cs k0 c y k = S k := fun k hk => by
  have h1 : k ∉ [23, 26, 29, 30, 35, 41, 43, 44, 45, 47] := fun w => hk (by revert w; simp only [List.mem_cons, List.not_mem_nil, or_false]; omega)
  unfold mCpl
  split
  · split
    · exact mFin_L k h1
    · unfold mCplT
      rw [mFin_L k h1, mGrant_L k (fun w => hk (by revert w; simp only [List.mem_cons, List.not_mem_nil, or_false]; omega)), mStore_L k (fun w => hk (by revert w; simp only [List.mem_cons, List.not_mem_nil, or_false]; omega))]
  · exact mFin_L k h1
def rTo : List Nat := [4, 5, 6, 23, 24, 25, 26, 27, 28, 29, 30, 31, 32, 33, 34, 35, 36, 37, 38, 39, 41, 43, 44, 45, 47]
theorem mT6_L {S : MS} {u t p d ot n cs k0 c : Nat} {x y : Int32} : ∀ k, k ∉ rTo → mT6 S u t p d ot n cs k0 c x y k = S k := fun k hk => by
  have hN : mNak S u t p n k = S k := mNak_L k (fun w => hk (by revert w; simp only [rTo, List.mem_cons, List.not_mem_nil, or_false]; omega))
  unfold mT6
  split
  · rfl
  · split
    · split
      · rfl
      · split
        · exact hN
        · rfl
    · split
      · split
        · rfl
        · split
          · exact hN
          · rfl
      · exact mCpl_L k (fun w => hk (by revert w; simp only [rTo, List.mem_cons, List.not_mem_nil, or_false]; omega))
theorem mT5_L {S : MS} {u t p d ot n cs k0 c : Nat} {K y : Int32} : ∀ k, k ∉ rTo → mT5 S u t p d ot n cs k0 c K y k = S k := fun k hk => by
  unfold mT5
  split
  · split
    · rw [mT6_L k hk, mE1_L k (fun w => hk (by revert w; simp only [rTo, List.mem_cons, List.not_mem_nil, or_false]; omega))]
    · exact mT6_L k hk
  · exact mT6_L k hk
theorem mT4_L {S : MS} {u t p d ot n cs k0 c : Nat} {K y : Int32} : ∀ k, k ∉ rTo → mT4 S u t p d ot n cs k0 c K y k = S k := fun k hk => by
  unfold mT4
  split
  · split
    · exact mT5_L k hk
    · exact mFin_L k (fun w => hk (by revert w; simp only [rTo, List.mem_cons, List.not_mem_nil, or_false]; omega))
  · exact mT5_L k hk
theorem mT3_L {S : MS} {u t p d ot n cs k0 c s : Nat} {K y : Int32} : ∀ k, k ∉ rTo → mT3 S u t p d ot n cs k0 c s K y k = S k := fun k hk => by
  unfold mT3
  split
  · split
    · rw [mT4_L k hk, mD1_L k (fun w => hk (by revert w; simp only [rTo, List.mem_cons, List.not_mem_nil, or_false]; omega))]
    · exact mT4_L k hk
  · exact mT4_L k hk
theorem mT2_L {S : MS} {u t p d ot n cs k0 c s : Nat} {K y : Int32} : ∀ k, k ∉ rTo → mT2 S u t p d ot n cs k0 c s K y k = S k := fun k hk => by
  unfold mT2
  split
  · split
    · rw [mT3_L k hk, mK1_L k (fun w => hk (by revert w; simp only [rTo, List.mem_cons, List.not_mem_nil, or_false]; omega))]
    · exact mT3_L k hk
  · exact mT3_L k hk
theorem mT1_L {S : MS} {e u t p d ot n cs k0 c s : Nat} {K y : Int32} : ∀ k, k ∉ rTo → mT1 S e u t p d ot n cs k0 c s K y k = S k := fun k hk => by
  have hb : ∀ (S : MS) (u : Nat), mT1b S u t p d ot n cs k0 c s K y k = S k := fun S u => by
    unfold mT1b
    split
    · rw [mT2_L k hk, mset_kk (fun w => hk (by rw [w]; decide))]
    · rfl
  unfold mT1
  split
  · split
    · rw [hb, mSend_L k (fun w => hk (by revert w; simp only [rTo, List.mem_cons, List.not_mem_nil, or_false]; omega))]
    · exact hb _ _
  · exact hb _ _
theorem mToR_L {S : MS} {e u t p d ot n cs k0 c s cr : Nat} : ∀ k, k ∉ rTo → mToR S e u t p d ot n cs k0 c s cr k = S k := fun k hk => by
  unfold mToR
  split
  · split
    · exact (afr_shut (S := S) (S' := S) afr.rfl).1 k (fun w => hk (by revert w; simp only [rTo, List.mem_cons, List.not_mem_nil, or_false]; omega))
    · rfl
  · split
    · split
      · rfl
      · rw [mT1_L k hk, mOpen_L k (fun w => hk (by revert w; simp only [rTo, List.mem_cons, List.not_mem_nil, or_false]; omega))]
    · exact mT1_L k hk
