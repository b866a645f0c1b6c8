theorem cst_S : Cond.castable "FileDelivery$Sender" "FileDelivery$Sender" ∈ ix_words := ix_in 1301 (by decide +kernel) (by decide +kernel)
theorem cst_R : Cond.castable "FileDelivery$Receiver" "FileDelivery$Receiver" ∈ ix_words := ix_in 1302 (by decide +kernel) (by decide +kernel)
theorem cst_SO : Cond.castable "FileDelivery$Sender" "java/lang/Object" ∈ ix_words := ix_in 1312 (by decide +kernel) (by decide +kernel)
theorem cst_RO : Cond.castable "FileDelivery$Receiver" "java/lang/Object" ∈ ix_words := ix_in 1314 (by decide +kernel) (by decide +kernel)
theorem lkc_41 : Cond.classLink "FileDelivery$Side" 41 "FileDelivery$Sender" ∈ ix_words := ix_in 253 (by decide +kernel) (by decide +kernel)
theorem lkc_56 : Cond.classLink "FileDelivery$Side" 56 "FileDelivery$Receiver" ∈ ix_words := ix_in 381 (by decide +kernel) (by decide +kernel)
/-! ===== the class's methods: lists of an entity ===== -/
theorem cLi.n {h : ix_H} {a D : Nat} {L : List Nat} (C : cLi h a D L) : L.length ≤ 10000 := Nat.le_trans C.2.2.1 C.2.2.2.1
theorem cLi.t {h : ix_H} {a D : Nat} {L : List Nat} (C : cLi h a D L) : ix_tg h D = 107 ∨ ix_tg h D = 207 := C.2.2.2.2.1.imp id (fun z => z.1)
theorem cLi.ne {h : ix_H} {a D : Nat} {L : List Nat} (C : cLi h a D L) (hl : 0 < L.length) : ix_tg h D = 107 := by
  rcases C.2.2.2.2.1 with w | w
  · exact w
  · have := C.2.2.1; omega
/-- an element of a list -/
theorem s21L {G : ix_G} {h : ix_H} {a D i b : Nat} {L : List Nat} (ht : ix_tg h a = 10) (C : cLi h a D L) (hb : L[i]? = some b) : ix_Ev G 21 0 (lv_args 0 [.ref a, .int (nI i)]) [] h (some (.ref b)) h := by
  have hi : i < L.length := (List.getElem?_eq_some_iff.mp hb).1
  have := C.n
  exact s21 ht C.1 C.2.1 hi C.2.2.1 C.t (by have := C.2.2.2.1; omega) (C.2.2.2.2.2 i b hb)
set_option maxRecDepth 100000 in
set_option maxHeartbeats 4000000 in
/-- Side.locks: its loop -/
theorem s84_l {G : ix_G} {h : ix_H} {x : Nat} {S : MS} {T A R U D : Nat → Nat} {Lo Lr : Nat → List Nat} {e : Nat} {f : Int32} (C : cRel h x S T A R U D Lo Lr) (he : e < 2) :
    ∀ (z i : Nat), i ≤ (Lo e).length → (Lo e).length - i < z → (∀ j t, j < i → (Lo e)[j]? = some t → ¬ S 9 t = f) → ∀ (lv : List (Nat × Value)), lv.lookup 0 = some (.ref (cS0 x e)) → lv.lookup 1 = some (.int f) → lv.lookup 2 = some (.int (nI i)) → ix_E G 84 2 lv [] h (fun r h' => r = some (.int (bP (∃ t, t ∈ Lo e ∧ S 9 t = f))) ∧ h' = h) := by
  have F := C.fx.2.2.2.2.2.2.2.2.2 e he
  have hs5 := F.2.1
  obtain ⟨l0, l1, l2⟩ := C.ll.1 e he
  have n1 := l1.n
  rw [List.length_map] at n1
  have lt := (F.2.2.2.1 1 (by decide))
  intro z
  induction z with
  | zero => intro i h1 h2; omega
  | succ z ih =>
    intro i hi hz hno lv q0 q1 q2
    refine ie_iload_n d84_2 q2 ?_
    refine ie_aload_n d84_3 q0 ?_
    refine ie_getr _ d84_4 fl2_23 hs5 lt.1 ?_
    refine ie_callVx [] d84_7 ok20 rm84_20 cl2_33 rfl rfl (Nat.le_of_ble_eq_true rfl) (Nat.le_of_ble_eq_true rfl) lt.2 (s20 lt.2) ?_
    rw [l1.2.1, List.length_map]
    refine ie_icmp_ge 42 d84_10 (by decide) (fun c => ?_) (fun c => ?_)
    · rw [nI_leI (by omega) (by omega)] at c
      refine ie_iconst 0 d84_42 (by decide) ?_
      refine ie_iret d84_43 rfl (by decide) ⟨?_, rfl⟩
      rw [bP_f]
      rintro ⟨t, m, w⟩
      obtain ⟨j, hj⟩ := List.getElem?_of_mem m
      exact hno j t (by have := (List.getElem?_eq_some_iff.mp hj).1; omega) hj w
    · rw [nI_leI (by omega) (by omega)] at c
      have hil : i < (Lo e).length := by omega
      have hb : (Lo e)[i]? = some (Lo e)[i] := List.getElem?_eq_some_iff.mpr ⟨hil, rfl⟩
      generalize (Lo e)[i] = t at hb
      have hm : t ∈ Lo e := List.mem_of_getElem? hb
      have hv := ((C.rw e he).1 t hm).1
      obtain ⟨c1, c2, -⟩ := C.tx hv
      have hbA : ((Lo e).map A)[i]? = some (A t) := by rw [List.getElem?_map, hb]; rfl
      refine ie_aload_n d84_13 q0 ?_
      refine ie_getr _ d84_14 fl2_23 hs5 lt.1 ?_
      refine ie_iload_n d84_17 q2 ?_
      refine ie_callVx [_] d84_18 ok21 rm84_21 cl2_37 rfl rfl (Nat.le_of_ble_eq_true rfl) (Nat.le_of_ble_eq_true rfl) lt.2 (s21L lt.2 l1 hbA) ?_
      refine ie_cast (k := 3) d84_21 (by decide) rfl lkc_41 cst_S c2.2.1 ?_
      refine ie_getr (T t) d84_24 fl2_43 c2.2.1 c2.2.2.1 ?_
      refine ie_geti (k := 6) d84_27 fl2_47 c1.2.1 ?_
      rw [c1.2.2.2.2.1]
      refine ie_iload_n d84_30 q1 ?_
      refine ie_icmp_ne 36 d84_31 (by decide) (fun w => ?_) (fun w => ?_)
      · refine ie_iinc (nI (i + 1)) d84_36 q2 (nI_1 _) (by decide) ?_
        refine ie_goto 2 d84_39 (by decide) ?_
        refine ih (i + 1) (by omega) (by omega) (fun j t' hj ht' => ?_) _ (ix_lk3 (by decide) q0 rfl) (ix_lk3 (by decide) q1 rfl) ix_lk1
        by_cases y : j = i
        · subst y
          have : t' = t := Option.some.inj (ht'.symm.trans hb)
          subst this
          exact w
        · exact hno j t' (by omega) ht'
      · refine ie_iconst 1 d84_34 (by decide) ?_
        refine ie_iret d84_35 rfl (by decide) ⟨?_, rfl⟩
        rw [bP_t ⟨t, hm, w⟩]
set_option maxRecDepth 100000 in
set_option maxHeartbeats 4000000 in
/-- Side.locks -/
theorem s84 {G : ix_G} {h : ix_H} {x : Nat} {S : MS} {T A R U D : Nat → Nat} {Lo Lr : Nat → List Nat} {e : Nat} {f : Int32} (C : cRel h x S T A R U D Lo Lr) (he : e < 2) : ix_Ev G 84 0 (lv_args 0 [.ref (cS0 x e), .int f]) [] h (some (.int (bP (∃ t, t ∈ Lo e ∧ S 9 t = f)))) h := by
  refine ix_ofE ?_
  refine ie_iconst (nI 0) d84_0 (by decide) ?_
  refine ie_istore_n d84_1 (by decide) ?_
  exact s84_l C he ((Lo e).length + 1) 0 (by omega) (by omega) (fun j t hj => by omega) _ rfl rfl rfl
/-- at a call's begin and end all that stand in the lists are open -/
def cAll (S : MS) (Lo Lr : Nat → List Nat) : Prop := ∀ e, e < 2 → (∀ t ∈ Lo e, S 13 t = nI 5) ∧ ∀ t ∈ Lr e, opR S t
theorem cAll.S {S : MS} {Lo Lr : Nat → List Nat} {e : Nat} (W : cRw S Lo Lr) (L : cAll S Lo Lr) (he : e < 2) : rowL S 40 42 e = Lo e := by
  rw [(W e he).2.2.2.2.1]
  exact List.filter_eq_self.mpr (fun t ht => by simp [(L e he).1 t ht])
theorem cAll.R {S : MS} {Lo Lr : Nat → List Nat} {e : Nat} (W : cRw S Lo Lr) (L : cAll S Lo Lr) (he : e < 2) : rowL S 41 43 e = Lr e := by
  rw [(W e he).2.2.2.2.2]
  exact List.filter_eq_self.mpr (fun t ht => decide_eq_true ((L e he).2 t ht))
theorem lock_row {S : MS} {e : Nat} {f : Int32} : mLock S e f (cP 42 S e) ↔ ∃ t, t ∈ rowL S 40 42 e ∧ S 9 t = f := by
  unfold mLock rowL
  constructor
  · rintro ⟨k, h1, h2⟩
    exact ⟨_, List.mem_map.mpr ⟨k, List.mem_range.mpr h1, rfl⟩, h2⟩
  · rintro ⟨t, h1, h2⟩
    obtain ⟨k, k1, k2⟩ := List.mem_map.mp h1
    exact ⟨k, List.mem_range.mp k1, by rw [k2]; exact h2⟩
theorem lock_Lo {S : MS} {Lo Lr : Nat → List Nat} {e : Nat} {f : Int32} (W : cRw S Lo Lr) (L : cAll S Lo Lr) (he : e < 2) : (∃ t, t ∈ Lo e ∧ S 9 t = f) ↔ mLock S e f (cP 42 S e) := by
  rw [lock_row, L.S W he]
set_option maxRecDepth 100000 in
set_option maxHeartbeats 4000000 in
/-- Side.senderOf, of one that there is -/
theorem s19y {G : ix_G} {h : ix_H} {x : Nat} {S : MS} {T A R U D : Nat → Nat} {Lo Lr : Nat → List Nat} {e : Nat} {n : Nat} (C : cRel h x S T A R U D Lo Lr) (he : e < 2) (h1 : 1 ≤ n) (h2 : n ≤ nN S e) (h9 : nN S e ≤ 319) : ix_Ev G 19 0 (lv_args 0 [.ref (cS0 x e), .int (nI n)]) [] h (some (.ref (A (320 * e + n)))) h := by
  have F := C.fx.2.2.2.2.2.2.2.2.2 e he
  have hs5 := F.2.1
  obtain ⟨l0, l1, l2⟩ := C.ll.1 e he
  have n1 := l0.n
  rw [List.length_map, List.length_range] at n1
  have lt := (F.2.2.2.1 0 (by decide))
  have hb : ((List.range (nN S e)).map (fun i => A (320 * e + (i + 1))))[n - 1]? = some (A (320 * e + n)) := by
    rw [List.getElem?_map, List.getElem?_range (by omega)]
    simp only [Option.map_some]
    congr 2
    omega
  refine ix_ofE ?_
  refine ie_iload_n d19_0 rfl ?_
  refine ie_iconst (nI 1) d19_1 (by decide) ?_
  refine ie_icmp_lt 32 d19_2 (by decide) (fun c => ?_) (fun c => ?_)
  · rw [nI_ltI (by omega) (by omega)] at c
    omega
  · refine ie_iload_n d19_5 rfl ?_
    refine ie_aload_n d19_6 rfl ?_
    refine ie_getr _ d19_7 fl2_19 hs5 lt.1 ?_
    refine ie_callVx [] d19_10 ok20 rm19_20 cl2_33 rfl rfl (Nat.le_of_ble_eq_true rfl) (Nat.le_of_ble_eq_true rfl) lt.2 (s20 lt.2) ?_
    rw [l0.2.1, List.length_map, List.length_range]
    refine ie_icmp_gt 32 d19_13 (by decide) (fun c2 => ?_) (fun c2 => ?_)
    · rw [nI_ltI (by omega) (by omega)] at c2
      omega
    · refine ie_aload_n d19_16 rfl ?_
      refine ie_getr _ d19_17 fl2_19 hs5 lt.1 ?_
      refine ie_iload_n d19_20 rfl ?_
      refine ie_iconst 1 d19_21 (by decide) ?_
      refine ie_isub d19_22 ?_
      rw [nI_sub1 h1]
      refine ie_callVx [_] d19_23 ok21 rm19_21 cl2_37 rfl rfl (Nat.le_of_ble_eq_true rfl) (Nat.le_of_ble_eq_true rfl) lt.2 (s21L lt.2 l0 hb) ?_
      have vv : vT S (320 * e + n) := ⟨by omega, by omega, by rw [show (320 * e + n) / 320 = e from by omega]; omega⟩
      have hv : ix_tg h (A (320 * e + n)) = 4 := (C.tx vv).2.1.2.1
      refine ie_cast (k := 3) d19_26 (by decide) rfl lkc_41 cst_S hv ?_
      refine ie_goto 33 d19_29 (by decide) ?_
      exact ie_aret d19_33 rfl (Or.inl ⟨_, rfl⟩) (by first | exact Or.inl rfl | exact Or.inr ⟨_, rfl⟩) ⟨rfl, rfl⟩
set_option maxRecDepth 100000 in
set_option maxHeartbeats 4000000 in
/-- Side.senderOf, of one that there isn't -/
theorem s19n {G : ix_G} {h : ix_H} {x : Nat} {S : MS} {T A R U D : Nat → Nat} {Lo Lr : Nat → List Nat} {e : Nat} {n : Int32} (C : cRel h x S T A R U D Lo Lr) (I : mInv S) (he : e < 2) (hn : ¬ (1 ≤ n ∧ n ≤ S 7 e)) : ix_Ev G 19 0 (lv_args 0 [.ref (cS0 x e), .int n]) [] h (some .null) h := by
  have F := C.fx.2.2.2.2.2.2.2.2.2 e he
  have hs5 := F.2.1
  obtain ⟨l0, l1, l2⟩ := C.ll.1 e he
  have lt := (F.2.2.2.1 0 (by decide))
  have e7 : S 7 e = nI (nN S e) := ((I.1.2 e he).c (by decide)).1
  refine ix_ofE ?_
  refine ie_iload_n d19_0 rfl ?_
  refine ie_iconst 1 d19_1 (by decide) ?_
  refine ie_icmp_lt 32 d19_2 (by decide) (fun c => ?_) (fun c => ?_)
  · refine ie_null d19_32 ?_
    exact ie_aret d19_33 rfl (by first | exact Or.inr rfl | exact Or.inl ⟨_, rfl⟩) (by first | exact Or.inl rfl | exact Or.inr ⟨_, rfl⟩) ⟨rfl, rfl⟩
  · refine ie_iload_n d19_5 rfl ?_
    refine ie_aload_n d19_6 rfl ?_
    refine ie_getr _ d19_7 fl2_19 hs5 lt.1 ?_
    refine ie_callVx [] d19_10 ok20 rm19_20 cl2_33 rfl rfl (Nat.le_of_ble_eq_true rfl) (Nat.le_of_ble_eq_true rfl) lt.2 (s20 lt.2) ?_
    rw [l0.2.1, List.length_map, List.length_range, ← e7]
    refine ie_icmp_gt 32 d19_13 (by decide) (fun c2 => ?_) (fun c2 => ?_)
    · refine ie_null d19_32 ?_
      exact ie_aret d19_33 rfl (by first | exact Or.inr rfl | exact Or.inl ⟨_, rfl⟩) (by first | exact Or.inl rfl | exact Or.inr ⟨_, rfl⟩) ⟨rfl, rfl⟩
    · exact absurd ⟨Int32.not_lt.mp c, Int32.not_lt.mp c2⟩ hn
