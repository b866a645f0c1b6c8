/-! ===== a request has no answer before its receiver is there ===== -/
def iW (S : MS) : Prop := ∀ t, vT S t → S 23 t = 0 → S 24 t = 0
theorem iW_gen {S S' : MS} (W : iW S) (h7 : S' 7 = S 7) (h : ∀ t, vT S t → S' 23 t = 0 → S 23 t = 0 ∧ S' 24 t = S 24 t) : iW S' := by
  intro t hv hz
  have hv' : vT S t := by unfold vT nN at hv ⊢; rw [h7] at hv; exact hv
  obtain ⟨h1, h2⟩ := h t hv' hz
  rw [h2]
  exact W t hv' h1
theorem iW_L {S S' : MS} {L : List Nat} (W : iW S) (H : ∀ k, k ∉ L → S' k = S k) (d : ∀ k ∈ [7, 23, 24], k ∉ L) : iW S' := iW_gen W (H 7 (d 7 (by decide))) (fun t _ hz => ⟨by rw [H 23 (d 23 (by decide))] at hz; exact hz, by rw [H 24 (d 24 (by decide))]⟩)
theorem nz_fin {S : MS} {u t p k0 c : Nat} {v y : Int32} (hv : bw v 1 4) : ¬ mFin S u t p k0 c v y 23 t = 0 := by
  have nz : ¬ v = 0 := by obtain ⟨n, n1, n2, rfl⟩ := hv; exact nI_ne0 (by omega) (by omega)
  unfold mFin
  split
  · unfold mShut
    rw [mRm_o (by decide) (by decide), mset_k (by decide), mset_s]
    exact nz
  · unfold mFin2 mTell
    rw [mset_k (by decide), mset_k (by decide), mSend_o (by decide) (by decide), mset_k (by decide), mset_s]
    decide
theorem nz_cpl {S : MS} {u t p d ot n cs k0 c : Nat} {y : Int32} : ¬ mCpl S u t p d ot n cs k0 c y 23 t = 0 := by
  unfold mCpl
  split
  · split
    · exact nz_fin (bw.of (by decide) (by decide))
    · unfold mCplT; exact nz_fin (bw.of (by decide) (by decide))
  · exact nz_fin (bw.of (by decide) (by decide))
theorem nz_t6 {S : MS} {u t p d ot n cs k0 c : Nat} {v y : Int32} (hz : ¬ S 23 t = 0) : ¬ mT6 S u t p d ot n cs k0 c v y 23 t = 0 := by
  have hN : ¬ mNak S u t p n 23 t = 0 := by rw [mNak_L 23 (by decide)]; exact hz
  unfold mT6
  split
  · exact hz
  · split
    · split
      · exact hz
      · split
        · exact hN
        · exact hz
    · split
      · split
        · exact hz
        · split
          · exact hN
          · exact hz
      · exact nz_cpl
theorem nz_t5 {S : MS} {u t p d ot n cs k0 c : Nat} {K y : Int32} (hz : ¬ S 23 t = 0) : ¬ mT5 S u t p d ot n cs k0 c K y 23 t = 0 := by
  unfold mT5
  split
  · split
    · exact nz_t6 (by rw [mE1_L 23 (by decide)]; exact hz)
    · exact nz_t6 hz
  · exact nz_t6 hz
theorem nz_t1 {S : MS} {e u t p d ot n cs k0 c s : Nat} {K y : Int32} (hz : ¬ S 23 t = 0) : ¬ mT1 S e u t p d ot n cs k0 c s K y 23 t = 0 := by
  have h4 : ∀ S : MS, ¬ S 23 t = 0 → ∀ u, ¬ mT4 S u t p d ot n cs k0 c K y 23 t = 0 := fun S hz u => by
    unfold mT4
    split
    · split
      · exact nz_t5 hz
      · exact nz_fin (bw.of (by decide) (by decide))
    · exact nz_t5 hz
  have h3 : ∀ S : MS, ¬ S 23 t = 0 → ∀ u, ¬ mT3 S u t p d ot n cs k0 c s K y 23 t = 0 := fun S hz u => by
    unfold mT3
    split
    · split
      · exact h4 _ (by rw [mD1_L 23 (by decide)]; exact hz) u
      · exact h4 _ hz u
    · exact h4 _ hz u
  have h2 : ∀ S : MS, ¬ S 23 t = 0 → ∀ u, ¬ mT2 S u t p d ot n cs k0 c s K y 23 t = 0 := fun S hz u => by
    unfold mT2
    split
    · split
      · exact h3 _ (by rw [mK1_L 23 (by decide)]; exact hz) u
      · exact h3 _ hz u
    · exact h3 _ hz u
  have hb : ∀ S : MS, ¬ S 23 t = 0 → ∀ u, ¬ mT1b S u t p d ot n cs k0 c s K y 23 t = 0 := fun S hz u => by
    unfold mT1b
    split
    · exact h2 _ (by rw [mset_k (by decide)]; exact hz) u
    · exact hz
  unfold mT1
  split
  · split
    · exact hb _ (by rw [mSend_o (by decide) (by decide)]; exact hz) _
    · exact hb _ hz _
  · exact hb _ hz _
/-- the others' answers stand -/
def o24 (S S' : MS) (t : Nat) : Prop := ∀ j, j ≠ t → S' 23 j = S 23 j ∧ S' 24 j = S 24 j
theorem o24.fr {S S1 S' : MS} {L : List Nat} {t : Nat} (H : ∀ k, k ∉ L → S1 k = S k) (d : ∀ k ∈ [23, 24], k ∉ L) (h : o24 S1 S' t) : o24 S S' t := fun j hj => by rw [(h j hj).1, (h j hj).2, H 23 (d 23 (by decide)), H 24 (d 24 (by decide))]; exact ⟨rfl, rfl⟩
theorem o24.L {S S' : MS} {L : List Nat} {t : Nat} (H : ∀ k, k ∉ L → S' k = S k) (d : ∀ k ∈ [23, 24], k ∉ L) : o24 S S' t := fun j _ => by rw [H 23 (d 23 (by decide)), H 24 (d 24 (by decide))]; exact ⟨rfl, rfl⟩
theorem o24_fin {S : MS} {u t p k0 c : Nat} {v y : Int32} : o24 S (mFin S u t p k0 c v y) t := fun j hj => ⟨(afr_fin (S := S) (S' := S) afr.rfl).2.1 j hj, by rw [mFin_L 24 (by decide)]⟩
theorem o24_cpl {S : MS} {u t p d ot n cs k0 c : Nat} {y : Int32} : o24 S (mCpl S u t p d ot n cs k0 c y) t := by
  unfold mCpl
  split
  · split
    · exact o24_fin
    · unfold mCplT
      refine o24.fr (S1 := mStore S (6 * (1 - t / 320) + d) p n) mStore_L (by decide) ?_
      generalize mStore S (6 * (1 - t / 320) + d) p n = S1
      have g : o24 S1 (mGrant S1 t (1 - t / 320) (6 * (1 - t / 320) + d) p ot n cs) t := fun j hj => by
        refine ⟨by rw [mGrant_L 23 (by decide)], ?_⟩
        unfold mGrant
        split
        · rfl
        · split
          · unfold mGr1
            split
            · rw [mset_k (by decide), mset_j rfl hj]
            · rw [mCpy_o (by decide), mset_k (by decide), mset_k (by decide), mset_j rfl hj]
          · exact mset_j rfl hj
      intro j hj
      have a := o24_fin (S := mGrant S1 t (1 - t / 320) (6 * (1 - t / 320) + d) p ot n cs) (u := u) (t := t) (p := p) (k0 := k0) (c := c) (v := nI 1) (y := y) j hj
      exact ⟨a.1.trans (g j hj).1, a.2.trans (g j hj).2⟩
  · exact o24_fin
theorem o24_t6 {S : MS} {u t p d ot n cs k0 c : Nat} {v y : Int32} : o24 S (mT6 S u t p d ot n cs k0 c v y) t := by
  have st : o24 S S t := fun _ _ => ⟨rfl, rfl⟩
  have hN : o24 S (mNak S u t p n) t := o24.L mNak_L (by decide)
  unfold mT6
  split
  · exact st
  · split
    · split
      · exact st
      · split
        · exact hN
        · exact st
    · split
      · split
        · exact st
        · split
          · exact hN
          · exact st
      · exact o24_cpl
theorem o24_t1 {S : MS} {e u t p d ot n cs k0 c s : Nat} {K y : Int32} : o24 S (mT1 S e u t p d ot n cs k0 c s K y) t := by
  have h5 : ∀ (S : MS) u, o24 S (mT5 S u t p d ot n cs k0 c K y) t := fun S u => by
    unfold mT5
    split
    · split
      · exact o24.fr mE1_L (by decide) o24_t6
      · exact o24_t6
    · exact o24_t6
  have h4 : ∀ (S : MS) u, o24 S (mT4 S u t p d ot n cs k0 c K y) t := fun S u => by
    unfold mT4
    split
    · split
      · exact h5 _ _
      · exact o24_fin
    · exact h5 _ _
  have h3 : ∀ (S : MS) u, o24 S (mT3 S u t p d ot n cs k0 c s K y) t := fun S u => by
    unfold mT3
    split
    · split
      · exact o24.fr mD1_L (by decide) (h4 _ _)
      · exact h4 _ _
    · exact h4 _ _
  have h2 : ∀ (S : MS) u, o24 S (mT2 S u t p d ot n cs k0 c s K y) t := fun S u => by
    unfold mT2
    split
    · split
      · exact o24.fr mK1_L (by decide) (h3 _ _)
      · exact h3 _ _
    · exact h3 _ _
  have hb : ∀ (S : MS) u, o24 S (mT1b S u t p d ot n cs k0 c s K y) t := fun S u => by
    unfold mT1b
    split
    · exact o24.fr (L := [31]) mset_L (by decide) (h2 _ _)
    · exact fun _ _ => ⟨rfl, rfl⟩
  unfold mT1
  split
  · split
    · exact o24.fr mSend_L (by decide) (hb _ _)
    · exact hb _ _
  · exact hb _ _
theorem iW_tor {S : MS} {e u t p d ot n cs k0 c s cr : Nat} (W : iW S) (h26 : S 23 t = nI 6 → bw (S 26 p) 1 4) : iW (mToR S e u t p d ot n cs k0 c s cr) := by
  have key : ∀ S' : MS, S' 7 = S 7 → o24 S S' t → ¬ S' 23 t = 0 → iW S' := fun S' h7 ho hz => iW_gen W h7 (fun t' _ z => by
    by_cases q : t' = t
    · subst q; exact absurd z hz
    · rw [← (ho t' q).1]; exact ⟨z, (ho t' q).2⟩)
  unfold mToR
  split
  · split
    · rename_i q
      have nz : ¬ S 26 p = 0 := by obtain ⟨n, n1, n2, n3⟩ := h26 q; rw [n3]; exact nI_ne0 (by omega) (by omega)
      have F := afr_shut (S := S) (S' := S) (t := t) (p := p) (k0 := k0) (c := c) (x := S 26 p) afr.rfl
      refine key _ (F.1 7 (by decide)) (fun j hj => ⟨F.2.1 j hj, by rw [F.1 24 (by decide)]⟩) ?_
      unfold mShut
      rw [mRm_o (by decide) (by decide), mset_k (by decide), mset_s]
      exact nz
    · exact W
  · split
    · split
      · exact W
      · refine key _ ((mT1_L 7 (by decide)).trans (mOpen_L 7 (by decide))) (fun j hj => ?_) (nz_t1 (by rw [mOpen_r.1, if_pos rfl]; decide))
        have a := o24_t1 (S := mOpen S e t p cr) (e := e) (u := u) (t := t) (p := p) (d := d) (ot := ot) (n := n) (cs := cs) (k0 := k0) (c := c) (s := s) (K := S 46 0) (y := S 46 6) j hj
        exact ⟨a.1.trans (by rw [mOpen_r.1, if_neg hj]), a.2.trans (by rw [mOpen_L 24 (by decide)])⟩
    · rename_i hz
      exact key _ (mT1_L 7 (by decide)) o24_t1 (nz_t1 hz)
theorem iW_att {S : MS} {t : Nat} (W : iW S) (I : mInv S) (hv : vT S t) (ho : opR S t) : iW (fA S t) := by
  have F := afr_att (S := S) (u := gU S) (t := t) (p := sP S t) (n := nP S (sP S t)) (k0 := kP 41 S (1 - t / 320) t) (c := cP 43 S (1 - t / 320))
  refine iW_gen W (F.1 7 (by decide)) (fun t' _ z => ?_)
  by_cases q : t' = t
  · subst q
    have I' := fA_inv I hv ho
    refine absurd z ?_
    have h26 := ((I.R hv).2.2 ho).2.2.2.2.2.2.2.2.2.2.1
    have nzs : ∀ v, bw v 1 4 → ¬ mShut S t' v (sP S t') (kP 41 S (1 - t' / 320) t') (cP 43 S (1 - t' / 320)) 23 t' = 0 := fun v hv4 => by
      unfold mShut
      rw [mRm_o (by decide) (by decide), mset_k (by decide), mset_s]
      obtain ⟨n, n1, n2, rfl⟩ := hv4
      exact nI_ne0 (by omega) (by omega)
    unfold fA mAtt
    split
    · rename_i h6
      split
      · split
        · exact nzs _ (h26 h6)
        · unfold mTell
          rw [mset_k (by decide), mset_k (by decide), mSend_o (by decide) (by decide)]
          exact opR_ne ho
      · exact opR_ne ho
    · split
      · split
        · exact opR_ne ho
        · exact nzs _ (bw.of (by decide) (by decide))
      · split
        · split
          · exact opR_ne ho
          · exact nzs _ (bw.of (by decide) (by decide))
        · split
          · exact opR_ne ho
          · split
            · exact nz_fin (bw.of (by decide) (by decide))
            · rw [mNak_L 23 (by decide)]; exact opR_ne ho
  · have e23 : fA S t 23 t' = S 23 t' := F.2.1 t' q
    have e24 : fA S t 24 = S 24 := F.1 24 (by decide)
    rw [e23] at z
    exact ⟨z, by rw [e24]⟩
theorem iW_work {S : MS} {t : Nat} (W : iW S) : iW (fW S t) := by
  have F : wfr S (fW S t) t := wfr_work
  exact iW_L W F.1 (by decide)
theorem iW_put {S : MS} {e f d y x g cn cs : Nat} (W : iW S) (I : mInv S) (he : e < 2) (hcn : S 7 e = nI cn) (hcn9 : cn < 319) : iW (mPut S e f d y x g cn cs) := by
  obtain ⟨hL, r7, -⟩ := mPut_r (S := S) (e := e) (f := f) (d := d) (y := y) (x := x) (g := g) (cn := cn) (cs := cs)
  intro t hv hz
  rw [hL 23 (by decide)] at hz
  rw [hL 24 (by decide)]
  by_cases q : vT S t
  · exact W t q hz
  · exact I.2.2.2.1 t hv.1 q 24 (by decide) (by decide)
