/-! ===== one cell alone is written; a unit goes out beside it ===== -/
def sw (s : Nat) (h h' : ix_H) : Prop := (∀ b, b ≠ s → ceq h h' b) ∧ ix_nx h' = ix_nx h
theorem ceq.sy {h h' : ix_H} {b : Nat} (a : ceq h h' b) : ceq h' h b := ⟨a.1.symm, a.2.1.symm, fun j => (a.2.2.1 j).symm, fun j => (a.2.2.2 j).symm⟩
theorem sw.rfl {s : Nat} {h : ix_H} : sw s h h := ⟨fun _ _ => ceq.rfl, Eq.refl _⟩
theorem sw.tr {s : Nat} {h h1 h2 : ix_H} (a : sw s h h1) (b : sw s h1 h2) : sw s h h2 := ⟨fun q hq => (a.1 q hq).tr (b.1 q hq), b.2.trans a.2⟩
theorem sw.sy {s : Nat} {h h1 : ix_H} (a : sw s h h1) : sw s h1 h := ⟨fun q hq => (a.1 q hq).sy, a.2.symm⟩
theorem sw.si {s k : Nat} {h h1 : ix_H} {v : Int32} (a : sw s h h1) : sw s h (ix_si h1 s k v) := a.tr ⟨fun q hq => ⟨Eq.refl _, Eq.refl _, fun j => by rw [ix_i_si, if_neg (fun z => hq z.1)], fun _ => Eq.refl _⟩, Eq.refl _⟩
theorem sw.un {s tx : Nat} {h h1 : ix_H} {w to d l c : Int32} (a : sw s h h1) : sw s (hUn h tx w to d l c) (hUn h1 tx w to d l c) := by
  refine ⟨fun b hb => ?_, by rw [hUn_x, hUn_x, a.2]⟩
  by_cases q : b = ix_nx h
  · subst q
    unfold ceq hUn
    rw [a.2]
    refine ⟨?_, ?_, fun j => ?_, fun j => ?_⟩
    · simp only [ix_tg_si, ix_tg_sr, ix_tg_nw, a.2, if_pos]
    · simp only [ix_ln_si, ix_ln_sr, ix_ln_nw, a.2, if_pos]
    · simp only [ix_i_si, ix_i_sr, ix_i_nw, a.2, if_pos, true_and]
    · simp only [ix_r_si, ix_r_sr, ix_r_nw, a.2, if_pos, true_and]
  · exact ((hUn_o q).sy.tr (a.1 b hb)).tr (hUn_o (by rw [a.2]; exact q))
theorem sw.sd {s x n : Nat} {h h1 : ix_H} (a : sw s h h1) (h1' : s ≠ cLk x) : sw s (hSd x h n) (hSd x h1 n) := by
  have e := (a.1 (cLk x) (Ne.symm h1')).2.2.1 1
  unfold hSd
  rw [e]
  split
  · refine ⟨fun b hb => ?_, a.2⟩
    have c := a.1 b hb
    exact ⟨c.1, c.2.1, fun j => by rw [ix_i_si, ix_i_si, ix_i_sr, ix_i_sr, c.2.2.1 j], fun j => by rw [ix_r_si, ix_r_si, ix_r_sr, ix_r_sr, c.2.2.2 j]⟩
  · exact a
theorem hSd_s {x n s : Nat} {h : ix_H} (h1 : s ≠ cLk x) (h2 : s ≠ cRo x) : ceq h (hSd x h n) s := by
  unfold hSd
  split
  · exact ⟨rfl, rfl, fun j => by rw [ix_i_si, if_neg (fun z => h1 z.1), ix_i_sr], fun j => by rw [ix_r_si, ix_r_sr, if_neg (fun z => h2 z.1)]⟩
  · exact ceq.rfl
theorem hSd_x {x n : Nat} {h : ix_H} : ix_nx (hSd x h n) = ix_nx h := by
  unfold hSd
  split <;> rfl
/-- a unit goes out -/
def hOut (x : Nat) (h : ix_H) (tx : Nat) (w to d l c : Int32) : ix_H := hSd x (hUn h tx w to d l c) (ix_nx h)
theorem hOut_x {x tx : Nat} {h : ix_H} {w to d l c : Int32} : ix_nx (hOut x h tx w to d l c) = ix_nx h + 1 := by
  unfold hOut
  rw [hSd_x, hUn_x]
theorem hOut_s {x tx s : Nat} {h : ix_H} {w to d l c : Int32} (h1 : s ≠ cLk x) (h2 : s ≠ cRo x) (h3 : s < ix_nx h) : ceq h (hOut x h tx w to d l c) s := (hUn_o (by omega)).tr (hSd_s h1 h2)
theorem sw.out {s x tx : Nat} {h h1 : ix_H} {w to d l c : Int32} (a : sw s h h1) (hs : s ≠ cLk x) : sw s (hOut x h tx w to d l c) (hOut x h1 tx w to d l c) := by
  unfold hOut
  rw [a.2]
  exact a.un.sd hs
section CR5
variable {h h2 h' : ix_H} {x : Nat} {S S1 S' : MS} {T A R U D : Nat → Nat} {Lo Lr : Nat → List Nat}
/-- the rows of a unit that mSendT sends, by the values -/
theorem cRel_sendT {t u : Nat} {kind a b cc ty w to d l c : Int32} {e : Nat} (I : mInv S) (C : cRel h x S T A R U D Lo Lr) (hu : S 44 0 = nI u) (hu24 : u ≤ 24) (t6 : t < 640) (hok : u < 24 → uOK (mSendT S u kind (nI e) (nI t) a b cc ty) u w to d l c) : ∃ U', cRel (hOut x h (T t) w to d l c) x (mSendT S u kind (nI e) (nI t) a b cc ty) T A R U' D Lo Lr := by
  have hg : gU S = u := by unfold gU; rw [hu, nI_clamp (by omega)]
  exact cRel_send I C hg hu24 (fun _ => mSendT_L) (fun h => by rw [mSendT_u hu hu24, if_neg (by omega)]) (fun _ j hj => mSendT_lo hj) (fun h => mSendT_24 h) (fun h => mSendT_r h (by decide)) t6 rfl hok
theorem cRel_sendM {t u : Nat} {kind a b cc w to d l c : Int32} {e : Nat} (I : mInv S) (C : cRel h x S T A R U D Lo Lr) (hu : S 44 0 = nI u) (hu24 : u ≤ 24) (t6 : t < 640) (hok : u < 24 → uOK (mSend S u kind (nI e) (nI t) a b cc) u w to d l c) : ∃ U', cRel (hOut x h (T t) w to d l c) x (mSend S u kind (nI e) (nI t) a b cc) T A R U' D Lo Lr := by
  have hg : gU S = u := by unfold gU; rw [hu, nI_clamp (by omega)]
  exact cRel_send I C hg hu24 (fun _ => mSend_L) (fun h => by rw [mSend_u hu hu24, if_neg (by omega)]) (fun _ j hj => mSend_lo hj) (fun h => mSend_24 h) (fun h => mSend_r h (by decide)) t6 rfl hok
/-- .. and the sender's own numbers -/
theorem cRel_ws {t u : Nat} {kind a b cc ty w to d l c : Int32} {e : Nat} (I : mInv S) (C : cRel h x S T A R U D Lo Lr) (hv : vT S t) (hu : S 44 0 = nI u) (hu24 : u ≤ 24) (I1 : mInv (mSendT S u kind (nI e) (nI t) a b cc ty)) (hok : u < 24 → uOK (mSendT S u kind (nI e) (nI t) a b cc ty) u w to d l c) (a2 : sw (A t) h h2) (a3 : sw (A t) (hOut x h2 (T t) w to d l c) h') (F0 : ∀ k, k ∉ [13, 14, 15, 16, 17, 18, 19, 20, 21, 22, 40, 42] → S' k = mSendT S u kind (nI e) (nI t) a b cc ty k) (F1 : ∀ k, 13 ≤ k → k ≤ 22 → ∀ j, j ≠ t → S' k j = S k j) (hs : cSn h' x S' T A t) (hrw : cRw S' Lo Lr) : ∃ U', cRel h' x S' T A R U' D Lo Lr := by
  obtain ⟨U', C1⟩ := cRel_sendT (e := e) I C hu hu24 hv.1 hok
  have n1 : A t ≠ cLk x := by have := (C.tx hv).2.1.1; unfold cLk; omega
  have a4 := (a2.out n1).tr a3
  exact ⟨U', cRel_sn I1 C1 ((vT_c mSendT_L (by decide)).mpr hv) a4.1 a4.2 F0 (fun k h1 h2 j hj => by rw [F1 k h1 h2 j hj, mSendT_o (by omega) (by omega)]) hs hrw⟩
/-- a sender's cell, after writes of its numbers and a unit -/
theorem cSn_mk {t : Nat} (C : cSn h x S T A t) (hc : ix_tg h' (A t) = ix_tg h (A t) ∧ (∀ j, ix_r h' (A t) j = ix_r h (A t) j) ∧ ix_i h' (A t) 3 = ix_i h (A t) 3) (s0 : S' 0 0 = S 0 0) (ho : S' 13 t = nI 5 → cSo h' S' (A t) t) (hz : ¬ S' 13 t = nI 5 → ix_i h' (A t) 15 = S' 13 t) : cSn h' x S' T A t := by
  obtain ⟨a1, a2, a3, a4, a5, a6, a7, a8⟩ := C
  exact ⟨a1, by rw [hc.1]; exact a2, by rw [hc.2.1]; exact a3, by rw [hc.2.1]; exact a4, by rw [hc.2.1]; exact a5, by rw [hc.2.2, s0]; exact a6, ho, hz⟩
end CR5
