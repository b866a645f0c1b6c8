/-! ===== a new unit ===== -/
def hUn (h : ix_H) (tx : Nat) (w to d l c : Int32) : ix_H := ix_si (ix_si (ix_si (ix_si (ix_si (ix_sr (ix_nw h 8 0 6) (ix_nx h) 0 (some tx)) (ix_nx h) 1 w) (ix_nx h) 2 to) (ix_nx h) 3 d) (ix_nx h) 4 l) (ix_nx h) 5 c
def hSd (x : Nat) (h : ix_H) (n : Nat) : ix_H := if ix_i h (cLk x) 1 < 24 then ix_si (ix_sr h (cRo x) (ix_i h (cLk x) 1).toNatClampNeg (some n)) (cLk x) 1 (ix_i h (cLk x) 1 + 1) else h
theorem hUn_o {h : ix_H} {tx b : Nat} {w to d l c : Int32} (hb : b ≠ ix_nx h) : ceq h (hUn h tx w to d l c) b := by
  unfold hUn ceq
  simp only [ix_tg_si, ix_tg_sr, ix_tg_nw, ix_ln_si, ix_ln_sr, ix_ln_nw, ix_i_si, ix_i_sr, ix_i_nw, ix_r_si, ix_r_sr, ix_r_nw, hb, false_and, if_false]
  exact ⟨trivial, trivial, fun _ => trivial, fun _ => trivial⟩
theorem hUn_n {h : ix_H} {tx : Nat} {w to d l c : Int32} : ix_tg (hUn h tx w to d l c) (ix_nx h) = 8 ∧ ix_r (hUn h tx w to d l c) (ix_nx h) 0 = some tx ∧ ix_i (hUn h tx w to d l c) (ix_nx h) 1 = w ∧ ix_i (hUn h tx w to d l c) (ix_nx h) 2 = to ∧ ix_i (hUn h tx w to d l c) (ix_nx h) 3 = d ∧ ix_i (hUn h tx w to d l c) (ix_nx h) 4 = l ∧ ix_i (hUn h tx w to d l c) (ix_nx h) 5 = c := by
  unfold hUn
  simp [ix_tg_si, ix_tg_sr, ix_tg_nw, ix_i_si, ix_r_si, ix_r_sr]
theorem hUn_x {h : ix_H} {tx : Nat} {w to d l c : Int32} : ix_nx (hUn h tx w to d l c) = ix_nx h + 1 := rfl
section CR3
variable {h : ix_H} {x : Nat} {S S' : MS} {T A R U D : Nat → Nat} {Lo Lr : Nat → List Nat}
theorem cRel_hUn {tx : Nat} {w to d l c : Int32} (I : mInv S) (C : cRel h x S T A R U D Lo Lr) : cRel (hUn h tx w to d l c) x S T A R U D Lo Lr := by
  refine cRel_nw I C (fun b hb => hUn_o (by omega)) (by rw [hUn_x]; omega) (fun b hb => ?_)
  rw [hUn_x] at hb
  rw [(hUn_o (by omega)).1]
  exact C.nx b (by omega)
/-- the row of a unit, by its values -/
def uOK (S : MS) (u : Nat) (w to d l c : Int32) : Prop := w = S 45 (11 * u) ∧ to = S 45 (11 * u + 1) ∧ d = (if S 45 (11 * u) = nI 6 then S 45 (11 * u + 4) + nI 8 * S 45 (11 * u + 3) else S 45 (11 * u + 3)) ∧ (S 45 (11 * u) = nI 2 → l = S 45 (11 * u + 4) ∧ ∀ q, q < (S 45 (11 * u + 4)).toNatClampNeg → lB c q = hB (S 45 (11 * u + 5)) q) ∧ (S 45 (11 * u) = nI 3 → c = S 45 (11 * u + 4)) ∧ (S 45 (11 * u) = nI 6 → ∀ q, q < 32 → (rb c q ↔ ∃ i, i < (S 45 (11 * u + 4)).toNatClampNeg ∧ (S 45 (11 * u + 5 + 2 * i)).toNatClampNeg ≤ q ∧ q ≤ (S 45 (11 * u + 6 + 2 * i)).toNatClampNeg))
/-- it is sent, and there is room -/
theorem cRel_put {n : Nat} {u : Nat} (I : mInv S) (C : cRel h x S T A R U D Lo Lr) (hg : gU S = u) (hu : u < 24) (hn30 : x + 30 ≤ n) (hn8 : ix_tg h n = 8) (hnU : ∀ j, j < u → U j ≠ n) (F : ∀ k, k ∉ [44, 45] → S' k = S k) (h44 : S' 44 0 = nI (u + 1)) (h45 : ∀ j, j < 11 * u → S' 45 j = S 45 j) (hr : ix_r h n 0 = some (T (S' 45 (11 * u + 2)).toNatClampNeg)) (hok : uOK S' u (ix_i h n 1) (ix_i h n 2) (ix_i h n 3) (ix_i h n 4) (ix_i h n 5)) : cRel (hSd x h n) x S' T A R (fun j => if j = u then n else U j) D Lo Lr := by
  have hcnt : ix_i h (cLk x) 1 = nI u := by rw [C.us.1, I.gu.1, hg]
  have lk := C.fx.2.2.2.2.2.1
  have ro := C.fx.2.2.2.2.2.2.2.1
  have e : hSd x h n = ix_si (ix_sr h (cRo x) u (some n)) (cLk x) 1 (nI (u + 1)) := by
    unfold hSd
    rw [hcnt, if_pos (by rw [show (24 : Int32) = nI 24 from rfl, nI_ltI (by omega) (by omega)]; exact hu), nI_clamp (by omega), nI_1]
  rw [e]
  have nc : cLk x ≠ cRo x := by unfold cLk cRo; omega
  have o : ∀ b, b ≠ cLk x → b ≠ cRo x → ceq h (ix_si (ix_sr h (cRo x) u (some n)) (cLk x) 1 (nI (u + 1))) b := fun b h1 h2 => ⟨rfl, rfl, fun j => by rw [ix_i_si, if_neg (fun z => h1 z.1)]; rfl, fun j => by rw [ix_r_si, ix_r_sr, if_neg (fun z => h2 z.1)]⟩
  have g' : gU S' = u + 1 := by unfold gU; rw [h44, nI_clamp (by omega)]
  refine cRel_us I C (fun b h1 h2 _ => o b h1 h2) (fun b => ⟨rfl, rfl⟩) (fun j => by rw [ix_r_si, ix_r_sr, if_neg (fun z => nc z.1)]) rfl (fun k hk => F k (fun z => hk (by revert z; simp only [List.mem_cons, List.not_mem_nil, or_false]; omega))) ⟨?_, fun j hj => ?_, fun j hj k hk q => ?_⟩
  · rw [ix_i_si, if_pos ⟨rfl, rfl⟩, h44]
  · rw [g'] at hj
    by_cases q : j = u
    · subst q
      simp only [if_true, ite_true, eq_self_iff_true]
      refine ⟨by rw [ix_r_si, ix_r_sr, if_pos ⟨rfl, rfl⟩], ?_⟩
      have on := o n (by unfold cLk; omega) (by unfold cRo; omega)
      obtain ⟨k1, k2, k3, k4, k5, k6⟩ := hok
      exact ⟨hn30, by rw [on.1]; exact hn8, by rw [on.2.2.2]; exact hr, by rw [on.2.2.1]; exact k1, by rw [on.2.2.1]; exact k2, by rw [on.2.2.1]; exact k3, by rw [on.2.2.1, on.2.2.1]; exact k4, by rw [on.2.2.1]; exact k5, by rw [on.2.2.1]; exact k6⟩
    · simp only [if_neg q]
      have hj' : j < gU S := by omega
      obtain ⟨w1, w2⟩ := C.us.2.1 j hj'
      refine ⟨by rw [ix_r_si, ix_r_sr, if_neg (fun z => q z.2)]; exact w1, cUn_fr w2 (o _ (by have := w2.1; unfold cLk; omega) (by have := w2.1; unfold cRo; omega)) (fun i hi => h45 _ (by omega)) (I.g3 hj')⟩
  · rw [g'] at hj hk
    by_cases qj : j = u
    · by_cases qk : k = u
      · rw [qj, qk]
      · simp only [if_pos qj, if_neg qk] at q
        exact absurd q.symm (hnU k (by omega))
    · by_cases qk : k = u
      · simp only [if_neg qj, if_pos qk] at q
        exact absurd q (hnU j (by omega))
      · simp only [if_neg qj, if_neg qk] at q
        exact C.us.2.2 j (by omega) k (by omega) q
/-- a new unit is sent: with room or without -/
theorem cRel_send {tx t u : Nat} {w to d l c : Int32} (I : mInv S) (C : cRel h x S T A R U D Lo Lr) (hg : gU S = u) (hu24 : u ≤ 24) (F : u < 24 → ∀ k, k ∉ [44, 45] → S' k = S k) (h44 : u < 24 → S' 44 0 = nI (u + 1)) (h45 : u < 24 → ∀ j, j < 11 * u → S' 45 j = S 45 j) (h24 : u = 24 → S' = S) (ht : u < 24 → S' 45 (11 * u + 2) = nI t) (t6 : t < 640) (htx : tx = T t) (hok : u < 24 → uOK S' u w to d l c) : ∃ U', cRel (hSd x (hUn h tx w to d l c) (ix_nx h)) x S' T A R U' D Lo Lr := by
  have C1 : cRel (hUn h tx w to d l c) x S T A R U D Lo Lr := cRel_hUn I C
  have x30 := C.x30
  obtain ⟨n1, n2, n3, n4, n5, n6, n7⟩ := hUn_n (h := h) (tx := tx) (w := w) (to := to) (d := d) (l := l) (c := c)
  by_cases q : u = 24
  · refine ⟨U, ?_⟩
    have hcnt : ix_i (hUn h tx w to d l c) (cLk x) 1 = nI 24 := by rw [C1.us.1, I.gu.1, hg, q]
    have e : hSd x (hUn h tx w to d l c) (ix_nx h) = hUn h tx w to d l c := by
      unfold hSd
      rw [hcnt, if_neg (by decide)]
    rw [e, h24 q]
    exact C1
  · have hu : u < 24 := by omega
    refine ⟨_, cRel_put I C1 hg hu x30 n1 (fun j hj z => ?_) (F hu) (h44 hu) (h45 hu) (by rw [n2, htx, ht hu, nI_clamp (by omega)]) (by rw [n3, n4, n5, n6, n7]; exact hok hu)⟩
    have := C.lt (b := U j) (by rw [(C.us.2.1 j (by omega)).2.2.1]; decide)
    omega
end CR3
