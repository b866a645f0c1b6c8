/-! ===== the calls that may throw, under the law's helpers ===== -/
theorem cB.m3 {h : ix_H} {x : Nat} {S : MS} {v : Int32} (B : cB h x S) (I : mInv S) : cB h x (mset S 3 0 v) := by
  obtain ⟨ht, T, A, R, U, D, Lo, Lr, C, L⟩ := B
  exact cB.mk (S := S) (by rw [mset_k (by decide)]; exact ht) (cRel_irr I C (fun k hk => mset_kk (fun z => hk (by rw [z]; decide)))) L (mset_kk (by decide)) (mset_kk (by decide))
theorem cB_nw {h : ix_H} {x : Nat} {S : MS} (I : mInv S) (B : cB h x S) : cB (ix_nw h 0 0 6) x S := by
  have hz := B.z.1
  obtain ⟨_, T, A, R, U, D, Lo, Lr, C, _⟩ := id B
  have x30 := C.x30
  refine cB_fr I B (fun b hb => ?_) (fun b hb => (ceL_nw (by omega)).1) (fun b hb _ _ _ => (ceL_nw (by omega)).1)
  rw [ix_nx_nw] at hb
  rw [ix_tg_nw, if_neg (by omega)]
  exact hz b (by omega)
theorem lFo_nw {h : ix_H} {x : Nat} : lFo x h (ix_nw h 0 0 6) 20 1000 := ⟨by rw [ix_nx_nw]; omega, by rw [ix_nx_nw]; omega, by rw [ix_us_nw]; omega, by rw [ix_us_nw]; omega, fun q hq _ => (ceL_nw (by omega)).1⟩
theorem ceq_sl {h : ix_H} {o j b : Nat} {v : Int64} : ceq h (ix_sl h o j v) b := ⟨rfl, rfl, fun _ => rfl, fun _ => rfl⟩
theorem cB_sl {h : ix_H} {x o j : Nat} {S : MS} {v : Int64} (I : mInv S) (B : cB h x S) : cB (ix_sl h o j v) x S := cB_fr I B B.z.1 (fun _ _ => ceq_sl) (fun _ _ _ _ _ => ceq_sl)
theorem lFo.sl {h h1 : ix_H} {x o j a b : Nat} {v : Int64} (p : lFo x h h1 a b) : lFo x h (ix_sl h1 o j v) a b := ⟨p.1, p.2.1, p.2.2.1, p.2.2.2.1, fun q h1 h2 => (p.2.2.2.2 q h1 h2).tr ceq_sl⟩
def opH (G : ix_G) (K : Nat) (S : MS) (kh km : Nat) (as : List Value) (fV : Int32 → Int64) : Prop := ∃ (k v : Int32) (Q : MS),
  (∀ (h : ix_H) (x o : Nat), cB h x S → ix_tg h o = 103 → ix_ln h o = 1 → o < ix_nx h → iy_E G kh 0 (lv_args 0 (.ref x :: as ++ [.ref o])) [] h (fun r h' => r = .inl (some (.int k)) ∧ lFo x h h' 20 1000 ∧ cB h' x Q ∧ (k = 0 → ix_l h' o 0 = fV v))) ∧ opM G km as S Q v ∧ Q 3 0 = k ∧ iJ (K + 1) Q
/-- a throw -/
theorem opH_t {G : ix_G} {K : Nat} {S : MS} {kh km : Nat} {as : List Value} {fV : Int32 → Int64} {k : Int32} (J : iJ K S) (hk : ¬ k = 0) (hH : ∀ (h : ix_H) (x o : Nat), cB h x S → iy_Ev G kh 0 (lv_args 0 (.ref x :: as ++ [.ref o])) [] h (.inl (some (.int k))) (ix_nw h 0 0 6)) (hM : opM G km as S (mset (m0 S) 3 0 k) 0) : opH G K S kh km as fV :=
  ⟨k, 0, mset (m0 S) 3 0 k, fun h x o B _ _ _ => ⟨_, _, hH h x o B, rfl, lFo_nw, cB_nw (mInv_3 (mInv_m0 J.1.1.1)) ((B.m0 J.1.1.1).m3 (mInv_m0 J.1.1.1)), fun z => absurd z hk⟩, hM, mset_s, iJ_3 J⟩
/-- an answer -/
theorem opH_y {G : ix_G} {K : Nat} {S Q : MS} {kh km a b : Nat} {as : List Value} {fV : Int32 → Int64} {v : Int32} (ha : a ≤ 20) (hb : b ≤ 1000) (J' : iJ (K + 1) Q) (h3 : Q 3 0 = 0) (hH : ∀ (h : ix_H) (x o : Nat), cB h x S → ix_tg h o = 103 → ix_ln h o = 1 → o < ix_nx h → iy_E G kh 0 (lv_args 0 (.ref x :: as ++ [.ref o])) [] h (fun r h' => r = .inl (some (.int 0)) ∧ ∃ h1, (cFo x h h1 a b ∧ cB h1 x Q) ∧ h' = ix_sl h1 o 0 (fV v))) (hM : opM G km as S Q v) : opH G K S kh km as fV := by
  refine ⟨0, v, Q, fun h x o B t l n => ?_, hM, h3, J'⟩
  obtain ⟨r, h', q, rfl, h1, ⟨p1, p2⟩, rfl⟩ := hH h x o B t l n
  exact ⟨_, _, q, rfl, (p1.l ha hb).sl, cB_sl J'.1.1.1 p2, fun _ => by rw [ix_l_sl, if_pos ⟨rfl, rfl⟩]⟩
theorem cFo.o103 {x a b o : Nat} {h h1 : ix_H} (p : cFo x h h1 a b) (t : ix_tg h o = 103) (l : ix_ln h o = 1) (n : o < ix_nx h) : ix_tg h1 o = 103 ∧ ix_ln h1 o = 1 := by
  have c := (p.2.2.2.2 o n (Or.inr (Or.inr (Or.inl t)))).1
  exact ⟨by rw [c.1]; exact t, by rw [c.2.1]; exact l⟩
theorem nat_of {a : Int32} {n : Nat} {b : Int32} (h0 : 0 ≤ a) (hb : a ≤ b) (hn : b.toNatClampNeg = n) (hb0 : 0 ≤ b) : ∃ m : Nat, a = nI m ∧ m ≤ n := by
  obtain ⟨m, h1, h2⟩ := i32_nat h0 hb hb0
  exact ⟨m, h1, by omega⟩
theorem rowL_t {S : MS} (I : mInv S) {e : Nat} (he : e < 2) : cP 42 S e ≤ 3 ∧ S 42 e = nI (cP 42 S e) ∧ ∀ k, k < cP 42 S e → ∃ t, t < 640 ∧ S 40 (3 * e + k) = nI t := by
  obtain ⟨c, c1, c2, c3, -⟩ := I.L e he
  have e1 : cP 42 S e = c := by unfold cP; rw [c2, nI_clamp (by omega)]
  rw [e1]
  exact ⟨c1, c2, fun k hk => by obtain ⟨t, t1, t2, t3, t4⟩ := c3 k hk; exact ⟨t, t3.1, t1⟩⟩
section OPT
variable {G : ix_G} {K : Nat} {S : MS}
theorem op_append (J : iJ K S) (e f n : Int32) (w : Int64) : opH G K S 102 119 [.int e, .int f, .int n, .long w] (fun v => v.toInt64) := by
  have I := J.1.1.1
  by_cases hv : ((0 ≤ e ∧ e ≤ 1) ∧ 0 ≤ f ∧ f ≤ 5) ∧ 1 ≤ n ∧ n ≤ 8
  · obtain ⟨e, rfl, he⟩ := nat_of (n := 1) hv.1.1.1 hv.1.1.2 (by decide) (by decide)
    obtain ⟨f, rfl, hf⟩ := nat_of (n := 5) hv.1.2.1 hv.1.2.2 (by decide) (by decide)
    obtain ⟨n, rfl, hn⟩ := nat_of (n := 8) (Int32.le_trans (by decide) hv.2.1) hv.2.2 (by decide) (by decide)
    have hn1 : 1 ≤ n := by
      have := hv.2.1
      rw [show (1 : Int32) = nI 1 from rfl, nI_leI (by omega) (by omega)] at this
      exact this
    have he2 : e < 2 := by omega
    have hf6 : f < 6 := by omega
    obtain ⟨c1, c2, c3⟩ := rowL_t I he2
    by_cases hth : S 4 (6 * e + f) = 0
    · exact opH_t (k := nI 2) J (by decide) (fun h x o B => s102t1 B.z.2 (s103b I B he2 hf6 hn1 hn hth)) (fun h o M hS => s119b M hS he2 hf6 hn1 hn w hth)
    · obtain ⟨m, m1, m2, hm⟩ := (I.2.1 (6 * e + f) (by omega)).2
      by_cases hL : mLock S e (nI f) (cP 42 S e) ∨ 64 < m + n
      · exact opH_t (k := nI 3) J (by decide) (fun h x o B => s102t2 B.z.2 (s103c I B he2 hf6 hn1 hn hth hm m2 hL)) (fun h o M hS => s119c M hS he2 hf6 hn1 hn w c1 c2 c3 hth hm m2 hL)
      · have nL : ¬ mLock S e (nI f) (cP 42 S e) := fun z => hL (Or.inl z)
        have hmn : m + n ≤ 64 := Nat.le_of_not_lt fun z => hL (Or.inr z)
        refine opH_y (Q := mApp (m0 S) (6 * e + f) m n w) (v := nI (m + n)) (a := 0) (b := 0) (by decide) (by decide) (iJ_app J (by omega) hmn (noLock I he2 hf6 c2 c1 nL)) ?_ (fun h x o B t l n0 => s102y B.z.2 (s103y I B he2 hf6 hn1 hn hth hm nL hmn) (fun h1 q => q.1.o103 t l n0)) (fun h o M hS => s119y M hS he2 hf6 hn1 hn w c1 c2 c3 hth hm m2 nL hmn)
        unfold mApp
        rw [mset_k (by decide), mAp_o (by decide)]
        exact mset_s
  · exact opH_t (k := nI 1) J (by decide) (fun h x o B => s102t0 B.z.2 (s103a hv)) (fun h o M hS => s119a M hS e f n w hv)
theorem op_delete (J : iJ K S) (e f : Int32) : opH G K S 105 122 [.int e, .int f] (fun v => if v = 0 then 0 else 1) := by
  have I := J.1.1.1
  by_cases hv : ((0 ≤ e ∧ e ≤ 1) ∧ 0 ≤ f ∧ f ≤ 5) ∧ ¬ S 4 (6 * e.toNatClampNeg + f.toNatClampNeg) = 0
  · obtain ⟨e, rfl, he⟩ := nat_of (n := 1) hv.1.1.1 hv.1.1.2 (by decide) (by decide)
    obtain ⟨f, rfl, hf⟩ := nat_of (n := 5) hv.1.2.1 hv.1.2.2 (by decide) (by decide)
    have he2 : e < 2 := by omega
    have hf6 : f < 6 := by omega
    have hth := hv.2
    rw [nI_clamp (by omega), nI_clamp (by omega)] at hth
    obtain ⟨c1, c2, c3⟩ := rowL_t I he2
    by_cases hL : mLock S e (nI f) (cP 42 S e)
    · exact opH_t (k := nI 2) J (by decide) (fun h x o B => s105t2 B.z.2 (s106l I B he2 hf6 hth hL)) (fun h o M hS => s122l M hS he2 hf6 c1 c2 c3 hth hL)
    · refine opH_y (Q := mset (m0 S) 4 (6 * e + f) (nI 0)) (v := 1) (a := 0) (b := 0) (by decide) (by decide) (iJ_del J (by omega) (noLock I he2 hf6 c2 c1 hL)) ?_ (fun h x o B t l n0 => s105y B.z.2 (s106y I B he2 hf6 hth hL) (fun h1 q => q.1.o103 t l n0)) (fun h o M hS => s122y M hS he2 hf6 c1 c2 c3 hth hL)
      rw [mset_k (by decide)]
      exact mset_s
  · exact opH_t (k := nI 1) J (by decide) (fun h x o B => s105t1 B.z.2 (s106n I B hv)) (fun h o M hS => s122n M hS e f hv)
theorem op_at (J : iJ K S) (e f i : Int32) : opH G K S 107 124 [.int e, .int f, .int i] (fun v => v.toInt64) := by
  have I := J.1.1.1
  by_cases hv : ((0 ≤ e ∧ e ≤ 1) ∧ 0 ≤ f ∧ f ≤ 5) ∧ ¬ S 4 (6 * e.toNatClampNeg + f.toNatClampNeg) = 0
  · obtain ⟨e, rfl, he⟩ := nat_of (n := 1) hv.1.1.1 hv.1.1.2 (by decide) (by decide)
    obtain ⟨f, rfl, hf⟩ := nat_of (n := 5) hv.1.2.1 hv.1.2.2 (by decide) (by decide)
    have he2 : e < 2 := by omega
    have hf6 : f < 6 := by omega
    have hth := hv.2
    rw [nI_clamp (by omega), nI_clamp (by omega)] at hth
    obtain ⟨n, n1, n2, hn⟩ := (I.2.1 (6 * e + f) (by omega)).2
    by_cases hi : 0 ≤ i ∧ i < S 5 (6 * e + f)
    · obtain ⟨j, hj, rfl⟩ := nI_of (Int32.not_lt.mpr hi.1)
      have hjn : j < n := by
        have := hi.2
        rw [hn, nI_ltI (by omega) (by omega)] at this
        exact this
      refine opH_y (Q := m0 S) (v := S 6 (64 * (6 * e + f) + j)) (a := 0) (b := 0) (by decide) (by decide) (iJ_0 J) mset_s (fun h x o B t l n0 => s107y B.z.2 ⟨_, _, s108y I B he2 hf6 hth hn n2 hjn, rfl, cFo.rfl, B.m0 I⟩ (fun h1 q => q.1.o103 t l n0)) (fun h o M hS => s124y M hS he2 hf6 hth hn n2 hjn)
    · exact opH_t (k := nI 2) J (by decide) (fun h x o B => s107t3 B.z.2 (s108b I B he2 hf6 hth hi)) (fun h o M hS => s124b M hS he2 hf6 i hth hi)
  · exact opH_t (k := nI 1) J (by decide) (fun h x o B => s107t1 B.z.2 (s108n I B hv)) (fun h o M hS => s124n M hS e f i hv)
theorem op_put (J : iJ K S) (hK : K ≤ 512) (e f d y x g : Int32) : opH G K S 109 125 [.int e, .int f, .int d, .int y, .int x, .int g] (fun v => v.toInt64) := by
  have I := J.1.1.1
  by_cases hv : ((0 ≤ e ∧ e ≤ 1) ∧ 0 ≤ f ∧ f ≤ 5) ∧ (0 ≤ d ∧ d ≤ 5) ∧ (0 ≤ g ∧ g ≤ 5) ∧ (1 ≤ y ∧ y ≤ 2) ∧ 0 ≤ x ∧ x ≤ 2
  · obtain ⟨e, rfl, he⟩ := nat_of (n := 1) hv.1.1.1 hv.1.1.2 (by decide) (by decide)
    obtain ⟨f, rfl, hf⟩ := nat_of (n := 5) hv.1.2.1 hv.1.2.2 (by decide) (by decide)
    obtain ⟨d, rfl, hd⟩ := nat_of (n := 5) hv.2.1.1 hv.2.1.2 (by decide) (by decide)
    obtain ⟨g, rfl, hg⟩ := nat_of (n := 5) hv.2.2.1.1 hv.2.2.1.2 (by decide) (by decide)
    obtain ⟨y, rfl, hy⟩ := nat_of (n := 2) (Int32.le_trans (by decide) hv.2.2.2.1.1) hv.2.2.2.1.2 (by decide) (by decide)
    obtain ⟨x, rfl, hx⟩ := nat_of (n := 2) hv.2.2.2.2.1 hv.2.2.2.2.2 (by decide) (by decide)
    have hy1 : 1 ≤ y := by
      have := hv.2.2.2.1.1
      rw [show (1 : Int32) = nI 1 from rfl, nI_leI (by omega) (by omega)] at this
      exact this
    have he2 : e < 2 := by omega
    have hf6 : f < 6 := by omega
    have hd6 : d < 6 := by omega
    have hg6 : g < 6 := by omega
    by_cases hth : S 4 (6 * e + f) = 0
    · exact opH_t (k := nI 2) J (by decide) (fun h x0 o B => s109t1 B.z.2 (s110b I B he2 hf6 hd6 hg6 hy1 hy hx hth)) (fun h o M hS => s125b M hS he2 hf6 hd6 hg6 hy1 hy hx hth)
    · obtain ⟨c1, c2, c3⟩ := rowL_t I he2
      by_cases hcs : cP 42 S e = 3
      · rw [hcs] at c2
        exact opH_t (k := nI 3) J (by decide) (fun h x0 o B => s109t2 B.z.2 (s110c I B he2 hf6 hd6 hg6 hy1 hy hx hth c2)) (fun h o M hS => s125c M hS he2 hf6 hd6 hg6 hy1 hy hx hth c2)
      · have hcs3 : cP 42 S e < 3 := by omega
        have hn := J.1.n hK he2
        have hcn : S 7 e = nI (nN S e) := by
          obtain ⟨c, _, a, b⟩ := I.1.2 e he2
          unfold nN
          rw [b, nI_clamp (by omega)]
        have hcn9 : nN S e < 319 := by omega
        refine opH_y (Q := mPut S e f d y x g (nN S e) (cP 42 S e)) (v := nI (nN S e + 1)) (a := 4) (b := 800) (by decide) (by decide) (iJ_put J he2 hf6 hd6 hg6 hy1 hy hx hth hcn hcn9 c2 hcs3) ?_ (fun h x0 o B t l n0 => s109y B.z.2 (s110y I B he2 hf6 hd6 hg6 hy1 hy hx hth hcn hcn9 c2 hcs3) (fun h1 q => q.1.o103 t l n0)) (fun h o M hS => s125y M hS he2 hf6 hd6 hg6 hy1 hy hx hth hcn hcn9 c2 hcs3)
        unfold mPut
        simp only [mset_k (show (3 : Nat) ≠ 42 by decide), mset_k (show (3 : Nat) ≠ 40 by decide), mset_k (show (3 : Nat) ≠ 13 by decide), mset_k (show (3 : Nat) ≠ 12 by decide), mset_k (show (3 : Nat) ≠ 11 by decide), mset_k (show (3 : Nat) ≠ 10 by decide), mset_k (show (3 : Nat) ≠ 9 by decide), mset_k (show (3 : Nat) ≠ 8 by decide), mset_k (show (3 : Nat) ≠ 7 by decide)]
        exact mset_s
  · exact opH_t (k := nI 1) J (by decide) (fun h x0 o B => s109t0 B.z.2 (s110a hv)) (fun h o M hS => s125a M hS e f d y x g hv)
end OPT
