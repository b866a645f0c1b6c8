section CR7
variable {h h' : ix_H} {x : Nat} {S : MS} {T A R U D : Nat → Nat} {Lo Lr : Nat → List Nat} {u t f n k0 c st s0 : Nat}
/-- tag, references and the timeout of a sender's cell stay -/
def kpS (h h' : ix_H) (s : Nat) : Prop := ix_tg h' s = ix_tg h s ∧ (∀ j, ix_r h' s j = ix_r h s j) ∧ ix_i h' s 3 = ix_i h s 3
theorem W_meta (X : wH S u t f n k0 c st s0) (C : cRel h x S T A R U D Lo Lr) (h15 : S 15 t = 0) (h21 : S 21 t = 0) (hst0 : st = 0) (a3 : sw (A t) (hOut x h (T t) (nI 1) (nI (1 - t / 320)) (S 10 t) 0 0) h') (hc : kpS h h' (A t)) (hi : iOf h h' (A t) [(5, ix_i h (A t) 5 + 1), (14, ix_i h (A t) 12)]) : ∃ U', cRel h' x (mWk0 S u t f n k0 c st) T A R U' D Lo Lr := by
  have Xb := wH_w (k := 18) (x := S 16 t) X (Or.inr (Or.inr rfl))
  obtain ⟨I, hv, ho, hu, hu24, hf, hn, hn64, hst, hst2, hH, hR⟩ := X
  obtain ⟨o1, o2, o3, o4, o5, o6, o7, o8, o9, o10, o11, o12⟩ := C.so hv ho
  have Cb := C.clk I hv ho
  have Ib := Xb.1
  have ub := Xb.2.2.2.1
  have eS : mWk0 S u t f n k0 c st = mset (mMeta (mset S 18 t (S 16 t)) u t) 14 t (nI (st + 1)) := by
    unfold mWk0
    rw [if_neg (by rw [h21, hst0]; simp), if_pos hst0]
  rw [eS]
  have L1 := mSendT_L (S := mset S 18 t (S 16 t)) (u := u) (kind := nI 1) (to := nI (1 - t / 320)) (t := nI t) (a := mset S 18 t (S 16 t) 10 t) (b := mset S 18 t (S 16 t) 11 t) (c := mset S 18 t (S 16 t) 12 t) (ty := mset S 18 t (S 16 t) 8 t)
  have e10 : mset S 18 t (S 16 t) 10 t = S 10 t := mset_k (by decide)
  have rd : ∀ k, k ∉ [14, 18, 44, 45] → mset (mMeta (mset S 18 t (S 16 t)) u t) 14 t (nI (st + 1)) k = S k := fun k hk => by
    simp only [List.mem_cons, List.not_mem_nil, or_false, not_or] at hk
    rw [mset_kk hk.1]
    exact (L1 k (by simp only [List.mem_cons, List.not_mem_nil, or_false, not_or]; exact hk.2.2)).trans (mset_kk hk.2.1)
  have r18 : mset (mMeta (mset S 18 t (S 16 t)) u t) 14 t (nI (st + 1)) 18 t = S 16 t := by rw [mset_k (by decide), mM_o (by decide) (by decide), mset_s]
  have r14 : mset (mMeta (mset S 18 t (S 16 t)) u t) 14 t (nI (st + 1)) 14 t = nI (st + 1) := mset_s
  refine cRel_ws (w := nI 1) (to := nI (1 - t / 320)) (d := S 10 t) (l := 0) (c := 0) (e := 1 - t / 320) (S' := mset (mMeta (mset S 18 t (S 16 t)) u t) 14 t (nI (st + 1))) Ib Cb Xb.2.1 ub hu24 (mInv_meta Ib ub hu24 Xb.2.1) (fun hu' => by rw [← e10]; exact uOK_meta hu') (sw.rfl.si.sy) a3 (fun k hk => mset_kk (fun z => hk (by rw [z]; decide))) (fun k h1 h2 j hj => ?_) (cSn_mk (C.tx hv).2.1 hc (by rw [rd 0 (by decide)]) (fun _ => ?_) (fun z => absurd (by rw [rd 13 (by decide)]; exact ho) z)) (cRw_fr C.rw rd (by decide))
  · by_cases q : k = 14
    · subst q; rw [mset_j rfl hj]; exact mM_o (by decide) (by decide)
    · rw [mset_k q]; exact mM_o (by omega) (by omega)
  · have en : fN (mset (mMeta (mset S 18 t (S 16 t)) u t) 14 t (nI (st + 1))) t = fN S t := fN_c rd (by decide)
    unfold cSo
    rw [en, r14, r18, rd 15 (by decide), rd 21 (by decide), rd 22 (by decide), rd 20 (by decide), rd 19 (by decide), rd 16 (by decide), rd 17 (by decide)]
    refine ⟨(hi 15).trans o1, (hi 4).trans o2, ?_, (hi 6).trans o4, (hi 7).trans o5, (hi 8).trans o6, ?_, fun q hq => ?_, (hi 11).trans o9, (hi 12).trans o10, fun z => absurd h15 z, (hi 14).trans o10⟩
    · rw [if_pos h15, if_pos h21]
      refine (hi 5).trans ?_
      show ix_i h (A t) 5 + 1 = _
      rw [o3, if_pos h15, if_pos h21, hst, hst0]
      decide
    · rw [show ix_i h' (A t) 9 = ix_i h (A t) 9 from hi 9]; exact o7
    · rw [show ix_i h' (A t) 10 = ix_i h (A t) 10 from hi 10]; exact o8 q hq
end CR7
