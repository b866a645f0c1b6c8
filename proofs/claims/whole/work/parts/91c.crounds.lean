/-! ===== the rounds of a tick, by the class's lists ===== -/
theorem row_len {S : MS} {A B e : Nat} {L : List Nat} (h : rowL S A B e = L) : cP B S e = L.length := by
  rw [← h]
  unfold rowL
  rw [List.length_map, List.length_range]
theorem row_at {S : MS} {A B e k t : Nat} {L : List Nat} (h : rowL S A B e = L) (hk : L[k]? = some t) : (S A (3 * e + k)).toNatClampNeg = t := by
  rw [← h] at hk
  unfold rowL at hk
  rw [List.getElem?_map] at hk
  have hl : k < cP B S e := by
    have := row_len h
    have h2 := (List.getElem?_eq_some_iff.mp (show L[k]? = some t by rw [← h]; unfold rowL; rw [List.getElem?_map]; exact hk)).1
    omega
  rw [List.getElem?_range hl] at hk
  simpa using hk
theorem tS_nil {S : MS} {e z k : Nat} {P : List Nat} (h : rowL S 40 42 e = P) (hk : P.length = k) : tS fW e z k S = S := by
  have := row_len h
  cases z with
  | zero => rfl
  | succ z =>
    unfold tS
    rw [if_pos (by unfold cP at this; omega)]
theorem tS_cons {S : MS} {e z k t : Nat} {P Q : List Nat} (h : rowL S 40 42 e = P ++ t :: Q) (hk : P.length = k) : tS fW e (z + 1) k S = tS fW e z (if fW S t 13 t = nI 5 then k + 1 else k) (fW S t) := by
  have hl := row_len h
  rw [List.length_append, List.length_cons] at hl
  have ht : (S 40 (3 * e + k)).toNatClampNeg = t := row_at h (by rw [List.getElem?_append_right (by omega), hk, Nat.sub_self]; rfl)
  rw [tS, if_neg (by unfold cP at hl; omega), ht]
theorem tR_nil {S : MS} {e z k : Nat} {P : List Nat} (h : rowL S 41 43 e = P) (hk : P.length = k) : tR fA e z k S = S := by
  have := row_len h
  cases z with
  | zero => rfl
  | succ z =>
    unfold tR
    rw [if_pos (by unfold cP at this; omega)]
theorem tR_cons {S : MS} {e z k t : Nat} {P Q : List Nat} (h : rowL S 41 43 e = P ++ t :: Q) (hk : P.length = k) : tR fA e (z + 1) k S = tR fA e z (if fA S t 23 t = nI 5 ∨ fA S t 23 t = nI 6 then k + 1 else k) (fA S t) := by
  have hl := row_len h
  rw [List.length_append, List.length_cons] at hl
  have ht : (S 41 (3 * e + k)).toNatClampNeg = t := row_at h (by rw [List.getElem?_append_right (by omega), hk, Nat.sub_self]; rfl)
  rw [tR, if_neg (by unfold cP at hl; omega), ht]
/-- the object's own time -/
theorem cRel_x3 {h : ix_H} {x : Nat} {S : MS} {T A R U D : Nat → Nat} {Lo Lr : Nat → List Nat} {v : Int32} (I : mInv S) (C : cRel h x S T A R U D Lo Lr) : cRel (ix_si h x 3 v) x S T A R U D Lo Lr := by
  have hh : ∀ b, b ≠ x → ceq h (ix_si h x 3 v) b := (sw.rfl.si).1
  have tg : ∀ b k, ix_tg h b = k → k ≠ 1 → ceq h (ix_si h x 3 v) b := fun b k hb hk => hh b (fun z => hk (by rw [← hb, z]; exact C.fx.1))
  refine ⟨cFix_fr C.fx (fun b _ => ⟨rfl, rfl⟩) (fun b _ _ _ _ => rfl), C.nx, ?_, fun e f he hf => ?_, fun t hv => ?_, ?_, ?_, C.rw⟩
  · rw [ix_i_si, if_neg (fun z => absurd z.2 (by decide))]; exact C.2.2.1
  · have F1 := C.fx.2.2.2.2.2.2.2.2.2 e he
    exact cFl_fr (C.fl he hf) (tg _ _ F1.2.2.2.2.2.2.2.2.2.1 (by decide)).2.2.1 (tg _ _ (F1.2.2.2.2.2.2.2.2.2.2.2 f hf).2.1 (by decide)).2.2.1 rfl rfl (fun i _ => rfl) (I.2.1 _ (by omega)).2
  · obtain ⟨c1, c2, c3⟩ := C.tx hv
    refine ⟨cTr_fr c1 (tg _ _ c1.2.1 (by decide)) (fun _ _ _ => rfl) Iff.rfl, cSn_fr c2 (tg _ _ c2.2.1 (by decide)) rfl (fun _ _ _ => rfl) (fun _ => rfl), fun q => ?_⟩
    have c := c3 q
    exact cRv_fr c (tg _ _ c.2.1 (by decide)) (tg _ _ c.2.2.2.2.2.2.2.1 (by decide)) rfl (fun _ _ _ => rfl) (fun _ _ _ _ => rfl) (fun _ _ _ => ⟨rfl, rfl⟩)
  · obtain ⟨u1, u2, u3⟩ := C.us
    refine ⟨by rw [(tg _ _ C.fx.2.2.2.2.2.1 (by decide)).2.2.1]; exact u1, fun j hj => ?_, u3⟩
    obtain ⟨w1, w2⟩ := u2 j hj
    exact ⟨w1, cUn_fr w2 (tg _ _ w2.2.1 (by decide)) (fun _ _ => rfl) (I.g3 hj)⟩
  · refine cLL_fr C (fun e i he hi => tg _ _ ((C.fx.2.2.2.2.2.2.2.2.2 e he).2.2.2.1 i hi).2 (by decide)) (fun i hi => ?_) rfl
    rcases C.Dt hi with w | w
    · exact tg _ _ w (by decide)
    · exact tg _ _ w (by decide)
