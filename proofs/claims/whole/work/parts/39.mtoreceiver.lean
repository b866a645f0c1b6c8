/-- what every step of toReceiver needs -/
def mTH (S : MS) (u t p d ot n cs k0 c : Nat) : Prop := t < 640 ∧ S 25 t = nI p ∧ p < 6 ∧ n ≤ 64 ∧ ot < 6 ∧ d < 6 ∧ cs ≤ 3 ∧ S 42 (1 - t / 320) = nI cs ∧ (∀ k, k < cs → ∃ t', t' < 640 ∧ S 40 (3 * (1 - t / 320) + k) = nI t') ∧ S 44 0 = nI u ∧ u ≤ 24 ∧ mHas 41 43 S (1 - t / 320) k0 c t
theorem mTH_fr {S S' : MS} {u t p d ot n cs k0 c : Nat} (X : mTH S u t p d ot n cs k0 c) (F : ∀ k j, k = 25 ∨ k = 40 ∨ k = 41 ∨ k = 42 ∨ k = 43 ∨ k = 44 → S' k j = S k j) : mTH S' u t p d ot n cs k0 c := by
  obtain ⟨ht, hp, hp6, hn64, hot6, hd6, hcs3, hcs, hsn, hu, hu24, hH⟩ := X
  exact ⟨ht, by rw [F _ _ (by omega)]; exact hp, hp6, hn64, hot6, hd6, hcs3, by rw [F _ _ (by omega)]; exact hcs, fun k hk => by rw [F _ _ (by omega)]; exact hsn k hk, by rw [F _ _ (by omega)]; exact hu, hu24, mHas_o hH (fun j => F _ _ (by omega)) (fun j => F _ _ (by omega))⟩
def mAn (S : MS) (p n : Nat) : Prop := ¬ S 37 p = 0 → S 27 p = nI n
def mAk (S : MS) (p d ot : Nat) : Prop := ¬ S 36 p = 0 → S 34 p = nI ot ∧ S 32 p = nI d
noncomputable def mT6 (S : MS) (u t p d ot n cs k0 c : Nat) (x y : Int32) : MS :=
  if S 37 p = 0 then S else if S 36 p = 0 then (if x = 0 then S else if y = nI 2 then mNak S u t p n else S)
  else if 0 ≤ mLost S p ((n + 3) / 4) 17 0 then (if x = 0 then S else if y = nI 2 then mNak S u t p n else S) else mCpl S u t p d ot n cs k0 c y
def mE1 (S : MS) (p : Nat) : MS := mset (mset (mset (mset S 37 p (nI 1)) 27 p (S 46 3)) 28 p (S 46 4)) 30 p (S 1 0)
noncomputable def mT5 (S : MS) (u t p d ot n cs k0 c : Nat) (K y : Int32) : MS :=
  if K = nI 3 then (if S 37 p = 0 then mT6 (mE1 S p) u t p d ot n cs k0 c (nI 1) y else mT6 S u t p d ot n cs k0 c (nI 0) y) else mT6 S u t p d ot n cs k0 c (nI 0) y
noncomputable def mT4 (S : MS) (u t p d ot n cs k0 c : Nat) (K y : Int32) : MS :=
  if K = nI 3 then (if 0 ≤ S 46 3 then mT5 S u t p d ot n cs k0 c K y else mFin S u t p k0 c (nI 2) y) else mT5 S u t p d ot n cs k0 c K y
def mD1 (S : MS) (p s : Nat) : MS := mset (mset S 39 (16 * p + s) (S 46 4)) 38 (16 * p + s) (S 46 5)
noncomputable def mT3 (S : MS) (u t p d ot n cs k0 c s : Nat) (K y : Int32) : MS :=
  if K = nI 2 then (if S 39 (16 * p + s) = 0 then mT4 (mD1 S p s) u t p d ot n cs k0 c K y else mT4 S u t p d ot n cs k0 c K y) else mT4 S u t p d ot n cs k0 c K y
def mK1 (S : MS) (p : Nat) : MS := mset (mset (mset (mset S 36 p (nI 1)) 32 p (S 46 3)) 33 p (S 46 4)) 34 p (S 46 5)
noncomputable def mT2 (S : MS) (u t p d ot n cs k0 c s : Nat) (K y : Int32) : MS :=
  if K = nI 1 then (if S 36 p = 0 then mT3 (mK1 S p) u t p d ot n cs k0 c s K y else mT3 S u t p d ot n cs k0 c s K y) else mT3 S u t p d ot n cs k0 c s K y
noncomputable def mT1b (S : MS) (u t p d ot n cs k0 c s : Nat) (K y : Int32) : MS := if S 23 t = nI 5 then mT2 (mset S 31 p (S 1 0)) u t p d ot n cs k0 c s K y else S
noncomputable def mT1 (S : MS) (e u t p d ot n cs k0 c s : Nat) (K y : Int32) : MS :=
  if K = nI 3 then (if y = nI 2 then mT1b (mSend S u (nI 5) (nI (1 - e)) (nI t) (nI 3) (nI 0) (nI 0)) (if u = 24 then 24 else u + 1) t p d ot n cs k0 c s K y else mT1b S u t p d ot n cs k0 c s K y) else mT1b S u t p d ot n cs k0 c s K y
set_option maxRecDepth 100000 in
set_option maxHeartbeats 4000000 in
/-- toReceiver: its end -/
theorem s152_f {G : ix_G} {h0 h : ix_H} {o : Nat} {S : MS} (M : md_ok h0 o) (r : mR o h0 h S) {u t p d ot n cs k0 c : Nat} {x y : Int32} (X : mTH S u t p d ot n cs k0 c) (An : mAn S p n) (Ak : mAk S p d ot) :
    ∀ (lv : List (Nat × Value)), lv.lookup 0 = some (.ref o) → lv.lookup 2 = some (.int (nI t)) → lv.lookup 4 = some (.int y) → lv.lookup 5 = some (.int x) → ix_E G 152 432 lv [] h (fun rv h' => rv = none ∧ mR o h0 h' (mT6 S u t p d ot n cs k0 c x y)) := by
  intro lv l0 l2 l4 l5
  obtain ⟨ht, hp, hp6, hn64, hot6, hd6, hcs3, hcs, hsn, hu, hu24, hH⟩ := id X
  unfold mT6
  refine ie_aload_n d152_432 l0 ?_
  refine mx_getr r M d152_433 fl17_110 rfl ?_
  refine ie_aload_n d152_436 l0 ?_
  refine mx_getr r M d152_437 fl17_74 rfl ?_
  refine ie_iload_n d152_440 l2 ?_
  refine mx_iald (k := 25) (n := t) r M d152_441 rfl rfl rfl (by show t < 640; exact ht) ?_
  rw [hp]
  refine mx_zald (k := 37) (n := p) r M d152_442 rfl rfl rfl (by show p < 6; exact hp6) ?_
  refine ie_if_ne 447 d152_443 (by decide) (fun c443 => ?_) (fun c443 => ?_)
  · skip
    rw [if_neg c443]
    refine ie_aload_n d152_447 l0 ?_
    refine mx_getr r M d152_448 fl17_107 rfl ?_
    refine ie_aload_n d152_451 l0 ?_
    refine mx_getr r M d152_452 fl17_74 rfl ?_
    refine ie_iload_n d152_455 l2 ?_
    refine mx_iald (k := 25) (n := t) r M d152_456 rfl rfl rfl (by show t < 640; exact ht) ?_
    rw [hp]
    refine mx_zald (k := 36) (n := p) r M d152_457 rfl rfl rfl (by show p < 6; exact hp6) ?_
    refine ie_if_eq 480 d152_458 (by decide) (fun c458 => ?_) (fun c458 => ?_)
    · skip
      rw [if_pos c458]
      refine ie_iload d152_480 l5 ?_
      refine ie_if_eq 496 d152_482 (by decide) (fun c482 => ?_) (fun c482 => ?_)
      · skip
        rw [if_pos c482]
        exact ie_vret d152_496 rfl ⟨rfl, r⟩
      · skip
        rw [if_neg c482]
        refine ie_iload d152_485 l4 ?_
        refine ie_iconst (nI 2) d152_487 (by decide) ?_
        refine ie_icmp_ne 496 d152_488 (by decide) (fun c488 => ?_) (fun c488 => ?_)
        · skip
          rw [if_neg c488]
          exact ie_vret d152_496 rfl ⟨rfl, r⟩
        · skip
          rw [if_pos c488]
          refine ie_aload_n d152_491 l0 ?_
          refine ie_iload_n d152_492 l2 ?_
          refine mx_call r M [_] d152_493 ok145 rm152_145 cl17_228 rfl rfl (Nat.le_of_ble_eq_true rfl) (Nat.le_of_ble_eq_true rfl) (s145 (r.ok M) r.2.2 ht hp hp6 (An c443) hn64 hu hu24) (fun hh r => ?_)
          exact ie_vret d152_496 rfl ⟨rfl, r⟩
    · skip
      rw [if_neg c458]
      refine ie_aload_n d152_461 l0 ?_
      refine ie_iload_n d152_462 l2 ?_
      refine ie_iconst (nI 0) d152_463 (by decide) ?_
      refine mx_ask r M [_, _] d152_464 ok146 rm152_146 cl17_222 rfl rfl (Nat.le_of_ble_eq_true rfl) (Nat.le_of_ble_eq_true rfl) (s146 (p := p) (n := n) (r.ok M) r.2.2 ht hp hp6 (An c443) hn64 (by omega)) ?_
      refine ie_if_ge 480 d152_467 (by decide) (fun c467 => ?_) (fun c467 => ?_)
      · skip
        rw [if_pos c467]
        refine ie_iload d152_480 l5 ?_
        refine ie_if_eq 496 d152_482 (by decide) (fun c482 => ?_) (fun c482 => ?_)
        · skip
          rw [if_pos c482]
          exact ie_vret d152_496 rfl ⟨rfl, r⟩
        · skip
          rw [if_neg c482]
          refine ie_iload d152_485 l4 ?_
          refine ie_iconst (nI 2) d152_487 (by decide) ?_
          refine ie_icmp_ne 496 d152_488 (by decide) (fun c488 => ?_) (fun c488 => ?_)
          · skip
            rw [if_neg c488]
            exact ie_vret d152_496 rfl ⟨rfl, r⟩
          · skip
            rw [if_pos c488]
            refine ie_aload_n d152_491 l0 ?_
            refine ie_iload_n d152_492 l2 ?_
            refine mx_call r M [_] d152_493 ok145 rm152_145 cl17_228 rfl rfl (Nat.le_of_ble_eq_true rfl) (Nat.le_of_ble_eq_true rfl) (s145 (r.ok M) r.2.2 ht hp hp6 (An c443) hn64 hu hu24) (fun hh r => ?_)
            exact ie_vret d152_496 rfl ⟨rfl, r⟩
      · skip
        rw [if_neg c467]
        refine ie_aload_n d152_470 l0 ?_
        refine ie_iload_n d152_471 l2 ?_
        refine ie_iload d152_472 l4 ?_
        refine mx_call r M [_, _] d152_474 ok154 rm152_154 cl17_225 rfl rfl (Nat.le_of_ble_eq_true rfl) (Nat.le_of_ble_eq_true rfl) (s154 (r.ok M) r.2.2 ht hp hp6 (Ak c458).1 hot6 hn64 hcs3 hcs hsn hu hu24 (fun _ => hH) (Ak c458).2 hd6 (An c443)) (fun hh r => ?_)
        refine ie_goto 496 d152_477 (by decide) ?_
        exact ie_vret d152_496 rfl ⟨rfl, r⟩
  · skip
    rw [if_pos c443]
    exact ie_vret d152_446 rfl ⟨rfl, r⟩
set_option maxRecDepth 100000 in
set_option maxHeartbeats 4000000 in
/-- toReceiver: the first END -/
theorem s152_e {G : ix_G} {h0 h : ix_H} {o : Nat} {S : MS} (M : md_ok h0 o) (r : mR o h0 h S) {u t p d ot n cs k0 c : Nat} {K y : Int32} (X : mTH S u t p d ot n cs k0 c) (An : mAn S p n) (Ak : mAk S p d ot) (Bn : K = nI 3 → S 37 p = 0 → S 46 3 = nI n) :
    ∀ (lv : List (Nat × Value)), lv.lookup 0 = some (.ref o) → lv.lookup 2 = some (.int (nI t)) → lv.lookup 3 = some (.int K) → lv.lookup 4 = some (.int y) → lv.lookup 5 = some (.int (nI 0)) → ix_E G 152 349 lv [] h (fun rv h' => rv = none ∧ mR o h0 h' (mT5 S u t p d ot n cs k0 c K y)) := by
  intro lv l0 l2 l3 l4 l5
  obtain ⟨ht, hp, hp6, hn64, hot6, hd6, hcs3, hcs, hsn, hu, hu24, hH⟩ := id X
  unfold mT5 mE1
  refine ie_iload_n d152_349 l3 ?_
  refine ie_iconst (nI 3) d152_350 (by decide) ?_
  refine ie_icmp_ne 432 d152_351 (by decide) (fun c351 => ?_) (fun c351 => ?_)
  · skip
    rw [if_neg c351]
    exact s152_f M r X An Ak _ l0 l2 l4 l5
  · skip
    rw [if_pos c351]
    refine ie_aload_n d152_354 l0 ?_
    refine mx_getr r M d152_355 fl17_110 rfl ?_
    refine ie_aload_n d152_358 l0 ?_
    refine mx_getr r M d152_359 fl17_74 rfl ?_
    refine ie_iload_n d152_362 l2 ?_
    refine mx_iald (k := 25) (n := t) r M d152_363 rfl rfl rfl (by show t < 640; exact ht) ?_
    rw [hp]
    refine mx_zald (k := 37) (n := p) r M d152_364 rfl rfl rfl (by show p < 6; exact hp6) ?_
    refine ie_if_ne 432 d152_365 (by decide) (fun c365 => ?_) (fun c365 => ?_)
    · skip
      rw [if_neg c365]
      exact s152_f M r X An Ak _ l0 l2 l4 l5
    · skip
      rw [if_pos c365]
      refine ie_iconst (nI 1) d152_368 (by decide) ?_
      refine ie_istore d152_369 (by decide) ?_
      refine ie_aload_n d152_371 (ix_lk3 (by decide) l0 rfl) ?_
      refine mx_getr r M d152_372 fl17_110 rfl ?_
      refine ie_aload_n d152_375 (ix_lk3 (by decide) l0 rfl) ?_
      refine mx_getr r M d152_376 fl17_74 rfl ?_
      refine ie_iload_n d152_379 (ix_lk3 (by decide) l2 rfl) ?_
      refine mx_iald (k := 25) (n := t) r M d152_380 rfl rfl rfl (by show t < 640; exact ht) ?_
      rw [hp]
      refine ie_iconst (nI 1) d152_381 (by decide) ?_
      refine mx_zast (k := 37) (n := p) r M d152_382 rfl rfl (by first | exact Or.inl rfl | exact Or.inr rfl | assumption | exact bI_01 _) rfl (by show p < 6; exact hp6) (fun hh r => ?_)
      refine ie_aload_n d152_383 (ix_lk3 (by decide) l0 rfl) ?_
      refine mx_getr r M d152_384 fl17_80 rfl ?_
      refine ie_aload_n d152_387 (ix_lk3 (by decide) l0 rfl) ?_
      refine mx_getr r M d152_388 fl17_74 rfl ?_
      refine ie_iload_n d152_391 (ix_lk3 (by decide) l2 rfl) ?_
      refine mx_iald (k := 25) (n := t) r M d152_392 rfl rfl rfl (by show t < 640; exact ht) ?_
      rw [mset_k (by decide)]
      rw [hp]
      refine ie_aload_n d152_393 (ix_lk3 (by decide) l0 rfl) ?_
      refine mx_getr r M d152_394 fl17_134 rfl ?_
      refine ie_iconst (nI 3) d152_397 (by decide) ?_
      refine mx_iald (k := 46) (n := 3) r M d152_398 rfl rfl rfl (by decide) ?_
      rw [mset_k (by decide)]
      refine mx_iast (k := 27) (n := p) r M d152_399 rfl rfl rfl (by show p < 6; exact hp6) (fun hh r => ?_)
      refine ie_aload_n d152_400 (ix_lk3 (by decide) l0 rfl) ?_
      refine mx_getr r M d152_401 fl17_83 rfl ?_
      refine ie_aload_n d152_404 (ix_lk3 (by decide) l0 rfl) ?_
      refine mx_getr r M d152_405 fl17_74 rfl ?_
      refine ie_iload_n d152_408 (ix_lk3 (by decide) l2 rfl) ?_
      refine mx_iald (k := 25) (n := t) r M d152_409 rfl rfl rfl (by show t < 640; exact ht) ?_
      rw [mset_k (by decide)]
      rw [mset_k (by decide)]
      rw [hp]
      refine ie_aload_n d152_410 (ix_lk3 (by decide) l0 rfl) ?_
      refine mx_getr r M d152_411 fl17_134 rfl ?_
      refine ie_iconst (nI 4) d152_414 (by decide) ?_
      refine mx_iald (k := 46) (n := 4) r M d152_415 rfl rfl rfl (by decide) ?_
      rw [mset_k (by decide)]
      rw [mset_k (by decide)]
      refine mx_iast (k := 28) (n := p) r M d152_416 rfl rfl rfl (by show p < 6; exact hp6) (fun hh r => ?_)
      refine ie_aload_n d152_417 (ix_lk3 (by decide) l0 rfl) ?_
      refine mx_getr r M d152_418 fl17_89 rfl ?_
      refine ie_aload_n d152_421 (ix_lk3 (by decide) l0 rfl) ?_
      refine mx_getr r M d152_422 fl17_74 rfl ?_
      refine ie_iload_n d152_425 (ix_lk3 (by decide) l2 rfl) ?_
      refine mx_iald (k := 25) (n := t) r M d152_426 rfl rfl rfl (by show t < 640; exact ht) ?_
      rw [mset_k (by decide)]
      rw [mset_k (by decide)]
      rw [mset_k (by decide)]
      rw [hp]
      refine ie_aload_n d152_427 (ix_lk3 (by decide) l0 rfl) ?_
      refine mx_geti r M d152_428 fl17_215 rfl ?_
      rw [mset_k (by decide)]
      rw [mset_k (by decide)]
      rw [mset_k (by decide)]
      refine mx_iast (k := 30) (n := p) r M d152_431 rfl rfl rfl (by show p < 6; exact hp6) (fun hh r => ?_)
      exact s152_f M r (mTH_fr X (fun k j hk => by rw [mset_k (by omega), mset_k (by omega), mset_k (by omega), mset_k (by omega)])) (fun _ => by rw [mset_k (by decide), mset_k (by decide), mset_s]; exact Bn c351 c365) (fun q => by rw [mset_k (by decide), mset_k (by decide), mset_k (by decide), mset_k (by decide)] at q ⊢; rw [mset_k (by decide), mset_k (by decide), mset_k (by decide), mset_k (by decide)]; exact Ak q) _ (ix_lk3 (by decide) l0 rfl) (ix_lk3 (by decide) l2 rfl) (ix_lk3 (by decide) l4 rfl) ix_lk1
set_option maxRecDepth 100000 in
set_option maxHeartbeats 4000000 in
/-- toReceiver: END of a cancelled one -/
theorem s152_d {G : ix_G} {h0 h : ix_H} {o : Nat} {S : MS} (M : md_ok h0 o) (r : mR o h0 h S) {u t p d ot n cs k0 c : Nat} {K y : Int32} (X : mTH S u t p d ot n cs k0 c) (An : mAn S p n) (Ak : mAk S p d ot) (Bn : K = nI 3 → 0 ≤ S 46 3 → S 37 p = 0 → S 46 3 = nI n) :
    ∀ (lv : List (Nat × Value)), lv.lookup 0 = some (.ref o) → lv.lookup 2 = some (.int (nI t)) → lv.lookup 3 = some (.int K) → lv.lookup 4 = some (.int y) → lv.lookup 5 = some (.int (nI 0)) → ix_E G 152 326 lv [] h (fun rv h' => rv = none ∧ mR o h0 h' (mT4 S u t p d ot n cs k0 c K y)) := by
  intro lv l0 l2 l3 l4 l5
  obtain ⟨ht, hp, hp6, hn64, hot6, hd6, hcs3, hcs, hsn, hu, hu24, hH⟩ := id X
  unfold mT4
  refine ie_iload_n d152_326 l3 ?_
  refine ie_iconst (nI 3) d152_327 (by decide) ?_
  refine ie_icmp_ne 349 d152_328 (by decide) (fun c328 => ?_) (fun c328 => ?_)
  · skip
    rw [if_neg c328]
    first | exact s152_e M r X An Ak (fun q => absurd q c328) _ l0 l2 l3 l4 l5 | exact s152_e M r X An Ak (fun q => Bn q c337) _ l0 l2 l3 l4 l5
  · skip
    rw [if_pos c328]
    refine ie_aload_n d152_331 l0 ?_
    refine mx_getr r M d152_332 fl17_134 rfl ?_
    refine ie_iconst (nI 3) d152_335 (by decide) ?_
    refine mx_iald (k := 46) (n := 3) r M d152_336 rfl rfl rfl (by decide) ?_
    refine ie_if_ge 349 d152_337 (by decide) (fun c337 => ?_) (fun c337 => ?_)
    · skip
      rw [if_pos c337]
      first | exact s152_e M r X An Ak (fun q => absurd q c328) _ l0 l2 l3 l4 l5 | exact s152_e M r X An Ak (fun q => Bn q c337) _ l0 l2 l3 l4 l5
    · skip
      rw [if_neg c337]
      refine ie_aload_n d152_340 l0 ?_
      refine ie_iload_n d152_341 l2 ?_
      refine ie_iconst (nI 2) d152_342 (by decide) ?_
      refine ie_iload d152_343 l4 ?_
      refine mx_call r M [_, _, _] d152_345 ok144 rm152_144 cl17_218 rfl rfl (Nat.le_of_ble_eq_true rfl) (Nat.le_of_ble_eq_true rfl) (s144 (r.ok M) r.2.2 ht hp hp6 hu hu24 _ _ (fun _ => hH)) (fun hh r => ?_)
      exact ie_vret d152_348 rfl ⟨rfl, r⟩
set_option maxRecDepth 100000 in
set_option maxHeartbeats 4000000 in
/-- toReceiver: DATA -/
theorem s152_c {G : ix_G} {h0 h : ix_H} {o : Nat} {S : MS} (M : md_ok h0 o) (r : mR o h0 h S) {u t p d ot n cs k0 c s : Nat} {K y : Int32} (X : mTH S u t p d ot n cs k0 c) (An : mAn S p n) (Ak : mAk S p d ot) (Bn : K = nI 3 → 0 ≤ S 46 3 → S 37 p = 0 → S 46 3 = nI n) (Bs : K = nI 2 → S 46 3 = nI s ∧ s < 16) :
    ∀ (lv : List (Nat × Value)), lv.lookup 0 = some (.ref o) → lv.lookup 2 = some (.int (nI t)) → lv.lookup 3 = some (.int K) → lv.lookup 4 = some (.int y) → lv.lookup 5 = some (.int (nI 0)) → ix_E G 152 243 lv [] h (fun rv h' => rv = none ∧ mR o h0 h' (mT3 S u t p d ot n cs k0 c s K y)) := by
  intro lv l0 l2 l3 l4 l5
  obtain ⟨ht, hp, hp6, hn64, hot6, hd6, hcs3, hcs, hsn, hu, hu24, hH⟩ := id X
  unfold mT3 mD1
  refine ie_iload_n d152_243 l3 ?_
  refine ie_iconst (nI 2) d152_244 (by decide) ?_
  refine ie_icmp_ne 326 d152_245 (by decide) (fun c245 => ?_) (fun c245 => ?_)
  · skip
    rw [if_neg c245]
    first | exact s152_d M r X An Ak Bn _ l0 l2 l3 l4 l5 | exact s152_d M r (mTH_fr X (fun k j hk => by rw [mset_k (by omega), mset_k (by omega)])) (fun q => by rw [mset_k (by decide), mset_k (by decide)] at q ⊢; exact An q) (fun q => by rw [mset_k (by decide), mset_k (by decide)] at q ⊢; rw [mset_k (by decide), mset_k (by decide)]; exact Ak q) (fun q => absurd (c245.symm.trans q) (by decide)) _ l0 l2 l3 l4 l5
  · skip
    rw [if_pos c245]
    refine ie_aload_n d152_248 l0 ?_
    refine mx_getr r M d152_249 fl17_116 rfl ?_
    refine ie_bipush (nI 16) d152_252 (by decide) ?_
    refine ie_aload_n d152_254 l0 ?_
    refine mx_getr r M d152_255 fl17_74 rfl ?_
    refine ie_iload_n d152_258 l2 ?_
    refine mx_iald (k := 25) (n := t) r M d152_259 rfl rfl rfl (by show t < 640; exact ht) ?_
    rw [hp]
    refine ie_imul d152_260 ?_
    rw [pk_mul]
    refine ie_aload_n d152_261 l0 ?_
    refine mx_getr r M d152_262 fl17_134 rfl ?_
    refine ie_iconst (nI 3) d152_265 (by decide) ?_
    refine mx_iald (k := 46) (n := 3) r M d152_266 rfl rfl rfl (by decide) ?_
    rw [(Bs c245).1]
    refine ie_iadd d152_267 ?_
    rw [nI_add]
    refine mx_iald (k := 39) (n := (16 * p + s)) r M d152_268 rfl rfl rfl (by show 16 * p + s < 96; have := (Bs c245).2; omega) ?_
    refine ie_if_ne 326 d152_269 (by decide) (fun c269 => ?_) (fun c269 => ?_)
    · skip
      rw [if_neg c269]
      first | exact s152_d M r X An Ak Bn _ l0 l2 l3 l4 l5 | exact s152_d M r (mTH_fr X (fun k j hk => by rw [mset_k (by omega), mset_k (by omega)])) (fun q => by rw [mset_k (by decide), mset_k (by decide)] at q ⊢; exact An q) (fun q => by rw [mset_k (by decide), mset_k (by decide)] at q ⊢; rw [mset_k (by decide), mset_k (by decide)]; exact Ak q) (fun q => absurd (c245.symm.trans q) (by decide)) _ l0 l2 l3 l4 l5
    · skip
      rw [if_pos c269]
      refine ie_aload_n d152_272 l0 ?_
      refine mx_getr r M d152_273 fl17_116 rfl ?_
      refine ie_bipush (nI 16) d152_276 (by decide) ?_
      refine ie_aload_n d152_278 l0 ?_
      refine mx_getr r M d152_279 fl17_74 rfl ?_
      refine ie_iload_n d152_282 l2 ?_
      refine mx_iald (k := 25) (n := t) r M d152_283 rfl rfl rfl (by show t < 640; exact ht) ?_
      rw [hp]
      refine ie_imul d152_284 ?_
      rw [pk_mul]
      refine ie_aload_n d152_285 l0 ?_
      refine mx_getr r M d152_286 fl17_134 rfl ?_
      refine ie_iconst (nI 3) d152_289 (by decide) ?_
      refine mx_iald (k := 46) (n := 3) r M d152_290 rfl rfl rfl (by decide) ?_
      rw [(Bs c245).1]
      refine ie_iadd d152_291 ?_
      rw [nI_add]
      refine ie_aload_n d152_292 l0 ?_
      refine mx_getr r M d152_293 fl17_134 rfl ?_
      refine ie_iconst (nI 4) d152_296 (by decide) ?_
      refine mx_iald (k := 46) (n := 4) r M d152_297 rfl rfl rfl (by decide) ?_
      refine mx_iast (k := 39) (n := (16 * p + s)) r M d152_298 rfl rfl rfl (by show 16 * p + s < 96; have := (Bs c245).2; omega) (fun hh r => ?_)
      refine ie_aload_n d152_299 l0 ?_
      refine mx_getr r M d152_300 fl17_113 rfl ?_
      refine ie_bipush (nI 16) d152_303 (by decide) ?_
      refine ie_aload_n d152_305 l0 ?_
      refine mx_getr r M d152_306 fl17_74 rfl ?_
      refine ie_iload_n d152_309 l2 ?_
      refine mx_iald (k := 25) (n := t) r M d152_310 rfl rfl rfl (by show t < 640; exact ht) ?_
      rw [mset_k (by decide)]
      rw [hp]
      refine ie_imul d152_311 ?_
      rw [pk_mul]
      refine ie_aload_n d152_312 l0 ?_
      refine mx_getr r M d152_313 fl17_134 rfl ?_
      refine ie_iconst (nI 3) d152_316 (by decide) ?_
      refine mx_iald (k := 46) (n := 3) r M d152_317 rfl rfl rfl (by decide) ?_
      rw [mset_k (by decide)]
      rw [(Bs c245).1]
      refine ie_iadd d152_318 ?_
      rw [nI_add]
      refine ie_aload_n d152_319 l0 ?_
      refine mx_getr r M d152_320 fl17_134 rfl ?_
      refine ie_iconst (nI 5) d152_323 (by decide) ?_
      refine mx_iald (k := 46) (n := 5) r M d152_324 rfl rfl rfl (by decide) ?_
      rw [mset_k (by decide)]
      refine mx_iast (k := 38) (n := (16 * p + s)) r M d152_325 rfl rfl rfl (by show 16 * p + s < 96; have := (Bs c245).2; omega) (fun hh r => ?_)
      first | exact s152_d M r X An Ak Bn _ l0 l2 l3 l4 l5 | exact s152_d M r (mTH_fr X (fun k j hk => by rw [mset_k (by omega), mset_k (by omega)])) (fun q => by rw [mset_k (by decide), mset_k (by decide)] at q ⊢; exact An q) (fun q => by rw [mset_k (by decide), mset_k (by decide)] at q ⊢; rw [mset_k (by decide), mset_k (by decide)]; exact Ak q) (fun q => absurd (c245.symm.trans q) (by decide)) _ l0 l2 l3 l4 l5
set_option maxRecDepth 100000 in
set_option maxHeartbeats 4000000 in
/-- toReceiver: METADATA -/
theorem s152_b {G : ix_G} {h0 h : ix_H} {o : Nat} {S : MS} (M : md_ok h0 o) (r : mR o h0 h S) {u t p d ot n cs k0 c s : Nat} {K y : Int32} (X : mTH S u t p d ot n cs k0 c) (An : mAn S p n) (Ak : mAk S p d ot) (Bn : K = nI 3 → 0 ≤ S 46 3 → S 37 p = 0 → S 46 3 = nI n) (Bs : K = nI 2 → S 46 3 = nI s ∧ s < 16) (Bk : K = nI 1 → S 46 3 = nI d ∧ S 46 5 = nI ot) :
    ∀ (lv : List (Nat × Value)), lv.lookup 0 = some (.ref o) → lv.lookup 2 = some (.int (nI t)) → lv.lookup 3 = some (.int K) → lv.lookup 4 = some (.int y) → lv.lookup 5 = some (.int (nI 0)) → ix_E G 152 161 lv [] h (fun rv h' => rv = none ∧ mR o h0 h' (mT2 S u t p d ot n cs k0 c s K y)) := by
  intro lv l0 l2 l3 l4 l5
  obtain ⟨ht, hp, hp6, hn64, hot6, hd6, hcs3, hcs, hsn, hu, hu24, hH⟩ := id X
  unfold mT2 mK1
  refine ie_iload_n d152_161 l3 ?_
  refine ie_iconst (nI 1) d152_162 (by decide) ?_
  refine ie_icmp_ne 243 d152_163 (by decide) (fun c163 => ?_) (fun c163 => ?_)
  · skip
    rw [if_neg c163]
    first | exact s152_c M r X An Ak Bn Bs _ l0 l2 l3 l4 l5 | exact s152_c M r (mTH_fr X (fun k j hk => by rw [mset_k (by omega), mset_k (by omega), mset_k (by omega), mset_k (by omega)])) (fun q => by rw [mset_k (by decide), mset_k (by decide), mset_k (by decide), mset_k (by decide)] at q ⊢; exact An q) (fun _ => ⟨by rw [mset_s]; exact (Bk c163).2, by rw [mset_k (by decide), mset_k (by decide), mset_s]; exact (Bk c163).1⟩) (fun q => absurd (c163.symm.trans q) (by decide)) (fun q => absurd (c163.symm.trans q) (by decide)) _ l0 l2 l3 l4 l5
  · skip
    rw [if_pos c163]
    refine ie_aload_n d152_166 l0 ?_
    refine mx_getr r M d152_167 fl17_107 rfl ?_
    refine ie_aload_n d152_170 l0 ?_
    refine mx_getr r M d152_171 fl17_74 rfl ?_
    refine ie_iload_n d152_174 l2 ?_
    refine mx_iald (k := 25) (n := t) r M d152_175 rfl rfl rfl (by show t < 640; exact ht) ?_
    rw [hp]
    refine mx_zald (k := 36) (n := p) r M d152_176 rfl rfl rfl (by show p < 6; exact hp6) ?_
    refine ie_if_ne 243 d152_177 (by decide) (fun c177 => ?_) (fun c177 => ?_)
    · skip
      rw [if_neg c177]
      first | exact s152_c M r X An Ak Bn Bs _ l0 l2 l3 l4 l5 | exact s152_c M r (mTH_fr X (fun k j hk => by rw [mset_k (by omega), mset_k (by omega), mset_k (by omega), mset_k (by omega)])) (fun q => by rw [mset_k (by decide), mset_k (by decide), mset_k (by decide), mset_k (by decide)] at q ⊢; exact An q) (fun _ => ⟨by rw [mset_s]; exact (Bk c163).2, by rw [mset_k (by decide), mset_k (by decide), mset_s]; exact (Bk c163).1⟩) (fun q => absurd (c163.symm.trans q) (by decide)) (fun q => absurd (c163.symm.trans q) (by decide)) _ l0 l2 l3 l4 l5
    · skip
      rw [if_pos c177]
      refine ie_aload_n d152_180 l0 ?_
      refine mx_getr r M d152_181 fl17_107 rfl ?_
      refine ie_aload_n d152_184 l0 ?_
      refine mx_getr r M d152_185 fl17_74 rfl ?_
      refine ie_iload_n d152_188 l2 ?_
      refine mx_iald (k := 25) (n := t) r M d152_189 rfl rfl rfl (by show t < 640; exact ht) ?_
      rw [hp]
      refine ie_iconst (nI 1) d152_190 (by decide) ?_
      refine mx_zast (k := 36) (n := p) r M d152_191 rfl rfl (by first | exact Or.inl rfl | exact Or.inr rfl | assumption | exact bI_01 _) rfl (by show p < 6; exact hp6) (fun hh r => ?_)
      refine ie_aload_n d152_192 l0 ?_
      refine mx_getr r M d152_193 fl17_95 rfl ?_
      refine ie_aload_n d152_196 l0 ?_
      refine mx_getr r M d152_197 fl17_74 rfl ?_
      refine ie_iload_n d152_200 l2 ?_
      refine mx_iald (k := 25) (n := t) r M d152_201 rfl rfl rfl (by show t < 640; exact ht) ?_
      rw [mset_k (by decide)]
      rw [hp]
      refine ie_aload_n d152_202 l0 ?_
      refine mx_getr r M d152_203 fl17_134 rfl ?_
      refine ie_iconst (nI 3) d152_206 (by decide) ?_
      refine mx_iald (k := 46) (n := 3) r M d152_207 rfl rfl rfl (by decide) ?_
      rw [mset_k (by decide)]
      refine mx_iast (k := 32) (n := p) r M d152_208 rfl rfl rfl (by show p < 6; exact hp6) (fun hh r => ?_)
      refine ie_aload_n d152_209 l0 ?_
      refine mx_getr r M d152_210 fl17_98 rfl ?_
      refine ie_aload_n d152_213 l0 ?_
      refine mx_getr r M d152_214 fl17_74 rfl ?_
      refine ie_iload_n d152_217 l2 ?_
      refine mx_iald (k := 25) (n := t) r M d152_218 rfl rfl rfl (by show t < 640; exact ht) ?_
      rw [mset_k (by decide)]
      rw [mset_k (by decide)]
      rw [hp]
      refine ie_aload_n d152_219 l0 ?_
      refine mx_getr r M d152_220 fl17_134 rfl ?_
      refine ie_iconst (nI 4) d152_223 (by decide) ?_
      refine mx_iald (k := 46) (n := 4) r M d152_224 rfl rfl rfl (by decide) ?_
      rw [mset_k (by decide)]
      rw [mset_k (by decide)]
      refine mx_iast (k := 33) (n := p) r M d152_225 rfl rfl rfl (by show p < 6; exact hp6) (fun hh r => ?_)
      refine ie_aload_n d152_226 l0 ?_
      refine mx_getr r M d152_227 fl17_101 rfl ?_
      refine ie_aload_n d152_230 l0 ?_
      refine mx_getr r M d152_231 fl17_74 rfl ?_
      refine ie_iload_n d152_234 l2 ?_
      refine mx_iald (k := 25) (n := t) r M d152_235 rfl rfl rfl (by show t < 640; exact ht) ?_
      rw [mset_k (by decide)]
      rw [mset_k (by decide)]
      rw [mset_k (by decide)]
      rw [hp]
      refine ie_aload_n d152_236 l0 ?_
      refine mx_getr r M d152_237 fl17_134 rfl ?_
      refine ie_iconst (nI 5) d152_240 (by decide) ?_
      refine mx_iald (k := 46) (n := 5) r M d152_241 rfl rfl rfl (by decide) ?_
      rw [mset_k (by decide)]
      rw [mset_k (by decide)]
      rw [mset_k (by decide)]
      refine mx_iast (k := 34) (n := p) r M d152_242 rfl rfl rfl (by show p < 6; exact hp6) (fun hh r => ?_)
      first | exact s152_c M r X An Ak Bn Bs _ l0 l2 l3 l4 l5 | exact s152_c M r (mTH_fr X (fun k j hk => by rw [mset_k (by omega), mset_k (by omega), mset_k (by omega), mset_k (by omega)])) (fun q => by rw [mset_k (by decide), mset_k (by decide), mset_k (by decide), mset_k (by decide)] at q ⊢; exact An q) (fun _ => ⟨by rw [mset_s]; exact (Bk c163).2, by rw [mset_k (by decide), mset_k (by decide), mset_s]; exact (Bk c163).1⟩) (fun q => absurd (c163.symm.trans q) (by decide)) (fun q => absurd (c163.symm.trans q) (by decide)) _ l0 l2 l3 l4 l5
set_option maxRecDepth 100000 in
set_option maxHeartbeats 4000000 in
/-- toReceiver: is it open -/
theorem s152_a2 {G : ix_G} {h0 h : ix_H} {o : Nat} {S : MS} (M : md_ok h0 o) (r : mR o h0 h S) {u t p d ot n cs k0 c s : Nat} {K y : Int32} (X : mTH S u t p d ot n cs k0 c) (An : mAn S p n) (Ak : mAk S p d ot) (Bn : K = nI 3 → 0 ≤ S 46 3 → S 37 p = 0 → S 46 3 = nI n) (Bs : K = nI 2 → S 46 3 = nI s ∧ s < 16) (Bk : K = nI 1 → S 46 3 = nI d ∧ S 46 5 = nI ot) :
    ∀ (lv : List (Nat × Value)), lv.lookup 0 = some (.ref o) → lv.lookup 2 = some (.int (nI t)) → lv.lookup 3 = some (.int K) → lv.lookup 4 = some (.int y) → ix_E G 152 132 lv [] h (fun rv h' => rv = none ∧ mR o h0 h' (mT1b S u t p d ot n cs k0 c s K y)) := by
  intro lv l0 l2 l3 l4
  obtain ⟨ht, hp, hp6, hn64, hot6, hd6, hcs3, hcs, hsn, hu, hu24, hH⟩ := id X
  unfold mT1b
  refine ie_aload_n d152_132 l0 ?_
  refine mx_getr r M d152_133 fl17_68 rfl ?_
  refine ie_iload_n d152_136 l2 ?_
  refine mx_iald (k := 23) (n := t) r M d152_137 rfl rfl rfl (by show t < 640; exact ht) ?_
  refine ie_iconst (nI 5) d152_138 (by decide) ?_
  refine ie_icmp_eq 143 d152_139 (by decide) (fun c139 => ?_) (fun c139 => ?_)
  · skip
    rw [if_pos c139]
    refine ie_aload_n d152_143 l0 ?_
    refine mx_getr r M d152_144 fl17_92 rfl ?_
    refine ie_aload_n d152_147 l0 ?_
    refine mx_getr r M d152_148 fl17_74 rfl ?_
    refine ie_iload_n d152_151 l2 ?_
    refine mx_iald (k := 25) (n := t) r M d152_152 rfl rfl rfl (by show t < 640; exact ht) ?_
    rw [hp]
    refine ie_aload_n d152_153 l0 ?_
    refine mx_geti r M d152_154 fl17_215 rfl ?_
    refine mx_iast (k := 31) (n := p) r M d152_157 rfl rfl rfl (by show p < 6; exact hp6) (fun hh r => ?_)
    refine ie_iconst (nI 0) d152_158 (by decide) ?_
    refine ie_istore d152_159 (by decide) ?_
    exact s152_b M r (mTH_fr X (fun k j hk => by rw [mset_k (by omega)])) (fun q => by rw [mset_k (by decide)] at q ⊢; exact An q) (fun q => by rw [mset_k (by decide)] at q ⊢; rw [mset_k (by decide)]; exact Ak q) (by rw [mset_k (by decide), mset_k (by decide)]; exact Bn) (by rw [mset_k (by decide)]; exact Bs) (by rw [mset_k (by decide), mset_k (by decide)]; exact Bk) _ (ix_lk3 (by decide) l0 rfl) (ix_lk3 (by decide) l2 rfl) (ix_lk3 (by decide) l3 rfl) (ix_lk3 (by decide) l4 rfl) ix_lk1
  · skip
    rw [if_neg c139]
    exact ie_vret d152_142 rfl ⟨rfl, r⟩
set_option maxRecDepth 100000 in
set_option maxHeartbeats 4000000 in
/-- toReceiver: the acknowledgement of an END -/
theorem s152_a1 {G : ix_G} {h0 h : ix_H} {o : Nat} {S : MS} (M : md_ok h0 o) (r : mR o h0 h S) {u t p d ot n cs k0 c s e : Nat} {K y : Int32} (X : mTH S u t p d ot n cs k0 c) (he : e < 2) (An : mAn S p n) (Ak : mAk S p d ot) (Bn : K = nI 3 → 0 ≤ S 46 3 → S 37 p = 0 → S 46 3 = nI n) (Bs : K = nI 2 → S 46 3 = nI s ∧ s < 16) (Bk : K = nI 1 → S 46 3 = nI d ∧ S 46 5 = nI ot) :
    ∀ (lv : List (Nat × Value)), lv.lookup 0 = some (.ref o) → lv.lookup 1 = some (.int (nI e)) → lv.lookup 2 = some (.int (nI t)) → lv.lookup 3 = some (.int K) → lv.lookup 4 = some (.int y) → ix_E G 152 108 lv [] h (fun rv h' => rv = none ∧ mR o h0 h' (mT1 S e u t p d ot n cs k0 c s K y)) := by
  intro lv l0 l1 l2 l3 l4
  obtain ⟨ht, hp, hp6, hn64, hot6, hd6, hcs3, hcs, hsn, hu, hu24, hH⟩ := id X
  unfold mT1
  refine ie_iload_n d152_108 l3 ?_
  refine ie_iconst (nI 3) d152_109 (by decide) ?_
  refine ie_icmp_ne 132 d152_110 (by decide) (fun c110 => ?_) (fun c110 => ?_)
  · skip
    rw [if_neg c110]
    first | exact s152_a2 M r X An Ak Bn Bs Bk _ l0 l2 l3 l4 | exact s152_a2 M r ⟨ht, by rw [mSend_o (by decide) (by decide)]; exact hp, hp6, hn64, hot6, hd6, hcs3, by rw [mSend_o (by decide) (by decide)]; exact hcs, fun k hk => by rw [mSend_o (by decide) (by decide)]; exact hsn k hk, mSend_u hu hu24, by split <;> omega, mHas_o hH (fun j => mSend_o (by decide) (by decide)) (fun j => mSend_o (by decide) (by decide))⟩ (fun q => by rw [mSend_o (by decide) (by decide)] at q ⊢; exact An q) (fun q => by rw [mSend_o (by decide) (by decide)] at q ⊢; rw [mSend_o (by decide) (by decide)]; exact Ak q) (by rw [mSend_o (by decide) (by decide), mSend_o (by decide) (by decide)]; exact Bn) (by rw [mSend_o (by decide) (by decide)]; exact Bs) (by rw [mSend_o (by decide) (by decide), mSend_o (by decide) (by decide)]; exact Bk) _ l0 l2 l3 l4
  · skip
    rw [if_pos c110]
    refine ie_iload d152_113 l4 ?_
    refine ie_iconst (nI 2) d152_115 (by decide) ?_
    refine ie_icmp_ne 132 d152_116 (by decide) (fun c116 => ?_) (fun c116 => ?_)
    · skip
      rw [if_neg c116]
      first | exact s152_a2 M r X An Ak Bn Bs Bk _ l0 l2 l3 l4 | exact s152_a2 M r ⟨ht, by rw [mSend_o (by decide) (by decide)]; exact hp, hp6, hn64, hot6, hd6, hcs3, by rw [mSend_o (by decide) (by decide)]; exact hcs, fun k hk => by rw [mSend_o (by decide) (by decide)]; exact hsn k hk, mSend_u hu hu24, by split <;> omega, mHas_o hH (fun j => mSend_o (by decide) (by decide)) (fun j => mSend_o (by decide) (by decide))⟩ (fun q => by rw [mSend_o (by decide) (by decide)] at q ⊢; exact An q) (fun q => by rw [mSend_o (by decide) (by decide)] at q ⊢; rw [mSend_o (by decide) (by decide)]; exact Ak q) (by rw [mSend_o (by decide) (by decide), mSend_o (by decide) (by decide)]; exact Bn) (by rw [mSend_o (by decide) (by decide)]; exact Bs) (by rw [mSend_o (by decide) (by decide), mSend_o (by decide) (by decide)]; exact Bk) _ l0 l2 l3 l4
    · skip
      rw [if_pos c116]
      refine ie_aload_n d152_119 l0 ?_
      refine ie_iconst (nI 5) d152_120 (by decide) ?_
      refine ie_iconst (nI 1) d152_121 (by decide) ?_
      refine ie_iload_n d152_122 l1 ?_
      refine ie_isub d152_123 ?_
      rw [pk_sub (by omega)]
      refine ie_iload_n d152_124 l2 ?_
      refine ie_iconst (nI 3) d152_125 (by decide) ?_
      refine ie_iconst (nI 0) d152_126 (by decide) ?_
      refine ie_iconst (nI 0) d152_127 (by decide) ?_
      refine mx_call r M [_, _, _, _, _, _] d152_128 ok136 rm152_136 cl17_177 rfl rfl (Nat.le_of_ble_eq_true rfl) (Nat.le_of_ble_eq_true rfl) (s136 (r.ok M) r.2.2 hu hu24 _ _ _ _ _ _) (fun hh r => ?_)
      refine ie_pop d152_131 rfl ?_
      first | exact s152_a2 M r X An Ak Bn Bs Bk _ l0 l2 l3 l4 | exact s152_a2 M r ⟨ht, by rw [mSend_o (by decide) (by decide)]; exact hp, hp6, hn64, hot6, hd6, hcs3, by rw [mSend_o (by decide) (by decide)]; exact hcs, fun k hk => by rw [mSend_o (by decide) (by decide)]; exact hsn k hk, mSend_u hu hu24, by split <;> omega, mHas_o hH (fun j => mSend_o (by decide) (by decide)) (fun j => mSend_o (by decide) (by decide))⟩ (fun q => by rw [mSend_o (by decide) (by decide)] at q ⊢; exact An q) (fun q => by rw [mSend_o (by decide) (by decide)] at q ⊢; rw [mSend_o (by decide) (by decide)]; exact Ak q) (by rw [mSend_o (by decide) (by decide), mSend_o (by decide) (by decide)]; exact Bn) (by rw [mSend_o (by decide) (by decide)]; exact Bs) (by rw [mSend_o (by decide) (by decide), mSend_o (by decide) (by decide)]; exact Bk) _ l0 l2 l3 l4
/-- a receiver opens -/
def mOpen (S : MS) (e t p cr : Nat) : MS := mPlace (mset (mset (mset S 23 t (nI 5)) 41 (3 * e + cr) (nI t)) 43 e (nI (cr + 1))) t p
theorem mPlace_o {S : MS} {t p k j : Nat} (h : k ≠ 25 ∧ k ≠ 35 ∧ k ≠ 36 ∧ k ≠ 37 ∧ k ≠ 29 ∧ k ≠ 39) : mPlace S t p k j = S k j := by
  unfold mPlace mPl0
  rw [if_neg (fun z => h.2.2.2.2.2 z.1), mset_k h.2.2.2.2.1, mset_k h.2.2.2.1, mset_k h.2.2.1, mset_k h.2.1, mset_k h.1]
theorem mOpen_o {S : MS} {e t p cr k j : Nat} (h : k ≠ 25 ∧ k ≠ 35 ∧ k ≠ 36 ∧ k ≠ 37 ∧ k ≠ 29 ∧ k ≠ 39 ∧ k ≠ 23 ∧ k ≠ 41 ∧ k ≠ 43) : mOpen S e t p cr k j = S k j := by
  unfold mOpen
  rw [mPlace_o ⟨h.1, h.2.1, h.2.2.1, h.2.2.2.1, h.2.2.2.2.1, h.2.2.2.2.2.1⟩, mset_k h.2.2.2.2.2.2.2.2, mset_k h.2.2.2.2.2.2.2.1, mset_k h.2.2.2.2.2.2.1]
theorem mOpen_36 {S : MS} {e t p cr : Nat} : mOpen S e t p cr 36 p = nI 0 := by
  unfold mOpen mPlace mPl0
  rw [if_neg (fun z => absurd z.1 (by decide)), mset_k (by decide), mset_k (by decide), mset_s]
theorem mOpen_37 {S : MS} {e t p cr : Nat} : mOpen S e t p cr 37 p = nI 0 := by
  unfold mOpen mPlace mPl0
  rw [if_neg (fun z => absurd z.1 (by decide)), mset_k (by decide), mset_s]
theorem mOpen_25 {S : MS} {e t p cr : Nat} : mOpen S e t p cr 25 t = nI p := by
  unfold mOpen mPlace mPl0
  rw [if_neg (fun z => absurd z.1 (by decide)), mset_k (by decide), mset_k (by decide), mset_k (by decide), mset_k (by decide), mset_s]
noncomputable def mToR (S : MS) (e u t p d ot n cs k0 c s cr : Nat) : MS :=
  if S 46 0 = nI 5 then (if S 23 t = nI 6 then mShut S t (S 26 p) p k0 c else S)
  else if S 23 t = 0 then (if nI cr = nI 3 then S else mT1 (mOpen S e t p cr) e u t p d ot n cs k0 c s (S 46 0) (S 46 6))
  else mT1 S e u t p d ot n cs k0 c s (S 46 0) (S 46 6)
set_option maxRecDepth 100000 in
set_option maxHeartbeats 4000000 in
/-- toReceiver -/
theorem s152 {G : ix_G} {h : ix_H} {o : Nat} {S : MS} (M : md_ok h o) (hS : ms h o = S) {e u t p d ot n cs k0 c s cr : Nat} (he : e < 2) (ht : t < 640) (hcr : S 43 e = nI cr) (hcr3 : cr ≤ 3) (X0 : ¬ S 23 t = 0 → mTH S u t p d ot n cs k0 c) (X1 : S 23 t = 0 → cr < 3 → mTH (mOpen S e t p cr) u t p d ot n cs k0 c ∧ p < 6 ∧ 3 * e ≤ p ∧ S 35 p = 0 ∧ ∀ q, 3 * e ≤ q → q < p → ¬ S 35 q = 0)
    (An : ¬ S 23 t = 0 → mAn S p n) (Ak : ¬ S 23 t = 0 → mAk S p d ot) (Bn : ¬ S 23 t = 0 → S 46 0 = nI 3 → 0 ≤ S 46 3 → S 37 p = 0 → S 46 3 = nI n) (Bn1 : S 23 t = 0 → S 46 0 = nI 3 → 0 ≤ S 46 3 → S 46 3 = nI n) (Bs : S 46 0 = nI 2 → S 46 3 = nI s ∧ s < 16) (Bk : S 46 0 = nI 1 → S 46 3 = nI d ∧ S 46 5 = nI ot) :
    ix_E G 152 0 (lv_args 0 [.ref o, .int (nI e), .int (nI t)]) [] h (fun rv h' => rv = none ∧ mR o h h' (mToR S e u t p d ot n cs k0 c s cr)) := by
  have r : mR o h h S := mR.rf hS
  unfold mToR
  refine ie_aload_n d152_0 rfl ?_
  refine mx_getr r M d152_1 fl17_134 rfl ?_
  refine ie_iconst (nI 0) d152_4 (by decide) ?_
  refine mx_iald (k := 46) (n := 0) r M d152_5 rfl rfl rfl (by decide) ?_
  refine ie_istore_n d152_6 (by decide) ?_
  refine ie_iload_n d152_7 rfl ?_
  refine ie_iconst (nI 5) d152_8 (by decide) ?_
  refine ie_icmp_ne 40 d152_9 (by decide) (fun c9 => ?_) (fun c9 => ?_)
  · skip
    rw [if_neg c9]
    refine ie_aload_n d152_40 rfl ?_
    refine mx_getr r M d152_41 fl17_134 rfl ?_
    refine ie_bipush (nI 6) d152_44 (by decide) ?_
    refine mx_iald (k := 46) (n := 6) r M d152_46 rfl rfl rfl (by decide) ?_
    refine ie_istore d152_47 (by decide) ?_
    refine ie_aload_n d152_49 rfl ?_
    refine mx_getr r M d152_50 fl17_68 rfl ?_
    refine ie_iload_n d152_53 rfl ?_
    refine mx_iald (k := 23) (n := t) r M d152_54 rfl rfl rfl (by show t < 640; exact ht) ?_
    refine ie_if_ne 108 d152_55 (by decide) (fun c55 => ?_) (fun c55 => ?_)
    · skip
      rw [if_neg c55]
      first | exact s152_a1 M r (X0 c55) he (An c55) (Ak c55) (Bn c55) Bs (fun q => Bk q) _ rfl rfl rfl rfl rfl | exact s152_a1 (S := mOpen S e t p cr) M r Z1 he (fun q => absurd mOpen_37 q) (fun q => absurd mOpen_36 q) (fun q q2 _ => by rw [mOpen_o (by decide)] at q2 ⊢; exact Bn1 c55 q q2) (by rw [mOpen_o (by decide)]; exact Bs) (by rw [mOpen_o (by decide), mOpen_o (by decide)]; exact Bk) _ rfl rfl rfl rfl rfl
    · skip
      rw [if_pos c55]
      refine ie_aload_n d152_58 rfl ?_
      refine mx_getr r M d152_59 fl17_128 rfl ?_
      refine ie_iload_n d152_62 rfl ?_
      refine mx_iald (k := 43) (n := e) r M d152_63 rfl rfl rfl (by show e < 2; exact he) ?_
      rw [hcr]
      refine ie_iconst (nI 3) d152_64 (by decide) ?_
      refine ie_icmp_ne 69 d152_65 (by decide) (fun c65 => ?_) (fun c65 => ?_)
      · skip
        rw [if_neg c65]
        have hc3 : cr < 3 := by
          rcases Nat.lt_or_ge cr 3 with w | w
          · exact w
          · exact absurd (by rw [show cr = 3 from by omega]) c65
        obtain ⟨Z1, Z2, Z3, Z4, Z5⟩ := X1 c55 hc3
        refine ie_aload_n d152_69 rfl ?_
        refine mx_getr r M d152_70 fl17_68 rfl ?_
        refine ie_iload_n d152_73 rfl ?_
        refine ie_iconst (nI 5) d152_74 (by decide) ?_
        refine mx_iast (k := 23) (n := t) r M d152_75 rfl rfl rfl (by show t < 640; exact ht) (fun hh r => ?_)
        refine ie_aload_n d152_76 rfl ?_
        refine mx_getr r M d152_77 fl17_122 rfl ?_
        refine ie_iconst (nI 3) d152_80 (by decide) ?_
        refine ie_iload_n d152_81 rfl ?_
        refine ie_imul d152_82 ?_
        rw [pk_mul]
        refine ie_aload_n d152_83 rfl ?_
        refine mx_getr r M d152_84 fl17_128 rfl ?_
        refine ie_iload_n d152_87 rfl ?_
        refine mx_iald (k := 43) (n := e) r M d152_88 rfl rfl rfl (by show e < 2; exact he) ?_
        rw [mset_k (by decide)]
        rw [hcr]
        refine ie_iadd d152_89 ?_
        rw [nI_add]
        refine ie_iload_n d152_90 rfl ?_
        refine mx_iast (k := 41) (n := (3 * e + cr)) r M d152_91 rfl rfl rfl (by show 3 * e + cr < 6; omega) (fun hh r => ?_)
        refine ie_aload_n d152_92 rfl ?_
        refine mx_getr r M d152_93 fl17_128 rfl ?_
        refine ie_iload_n d152_96 rfl ?_
        refine ie_dup2 d152_97 rfl rfl ?_
        refine mx_iald (k := 43) (n := e) r M d152_98 rfl rfl rfl (by show e < 2; exact he) ?_
        rw [mset_k (by decide)]
        rw [mset_k (by decide)]
        rw [hcr]
        refine ie_iconst (nI 1) d152_99 (by decide) ?_
        refine ie_iadd d152_100 ?_
        rw [nI_add]
        refine mx_iast (k := 43) (n := e) r M d152_101 rfl rfl rfl (by show e < 2; exact he) (fun hh r => ?_)
        refine ie_aload_n d152_102 rfl ?_
        refine ie_iload_n d152_103 rfl ?_
        refine ie_iload_n d152_104 rfl ?_
        refine mx_call r M [_, _] d152_105 ok153 rm152_153 cl17_212 rfl rfl (Nat.le_of_ble_eq_true rfl) (Nat.le_of_ble_eq_true rfl) (s153 (r.ok M) r.2.2 he ht Z2 Z3 (by rw [mset_k (by decide), mset_k (by decide), mset_k (by decide)]; exact Z4) (fun q h1 h2 => by rw [mset_k (by decide), mset_k (by decide), mset_k (by decide)]; exact Z5 q h1 h2)) (fun hh r => ?_)
        first | exact s152_a1 M r (X0 c55) he (An c55) (Ak c55) (Bn c55) Bs (fun q => Bk q) _ rfl rfl rfl rfl rfl | exact s152_a1 (S := mOpen S e t p cr) M r Z1 he (fun q => absurd mOpen_37 q) (fun q => absurd mOpen_36 q) (fun q q2 _ => by rw [mOpen_o (by decide)] at q2 ⊢; exact Bn1 c55 q q2) (by rw [mOpen_o (by decide)]; exact Bs) (by rw [mOpen_o (by decide), mOpen_o (by decide)]; exact Bk) _ rfl rfl rfl rfl rfl
      · skip
        rw [if_pos c65]
        exact ie_vret d152_68 rfl ⟨rfl, r⟩
  · skip
    rw [if_pos c9]
    refine ie_aload_n d152_12 rfl ?_
    refine mx_getr r M d152_13 fl17_68 rfl ?_
    refine ie_iload_n d152_16 rfl ?_
    refine mx_iald (k := 23) (n := t) r M d152_17 rfl rfl rfl (by show t < 640; exact ht) ?_
    refine ie_bipush (nI 6) d152_18 (by decide) ?_
    refine ie_icmp_ne 39 d152_20 (by decide) (fun c20 => ?_) (fun c20 => ?_)
    · skip
      rw [if_neg c20]
      exact ie_vret d152_39 rfl ⟨rfl, r⟩
    · skip
      rw [if_pos c20]
      refine ie_aload_n d152_23 rfl ?_
      refine ie_iload_n d152_24 rfl ?_
      refine ie_aload_n d152_25 rfl ?_
      refine mx_getr r M d152_26 fl17_77 rfl ?_
      refine ie_aload_n d152_29 rfl ?_
      refine mx_getr r M d152_30 fl17_74 rfl ?_
      refine ie_iload_n d152_33 rfl ?_
      refine mx_iald (k := 25) (n := t) r M d152_34 rfl rfl rfl (by show t < 640; exact ht) ?_
      rw [(X0 (by rw [c20]; decide)).2.1]
      refine mx_iald (k := 26) (n := p) r M d152_35 rfl rfl rfl (by show p < 6; exact (X0 (by rw [c20]; decide)).2.2.1) ?_
      refine mx_call r M [_, _] d152_36 ok142 rm152_142 cl17_209 rfl rfl (Nat.le_of_ble_eq_true rfl) (Nat.le_of_ble_eq_true rfl) (s142 (r.ok M) r.2.2 ht (X0 (by rw [c20]; decide)).2.1 (X0 (by rw [c20]; decide)).2.2.1 (X0 (by rw [c20]; decide)).2.2.2.2.2.2.2.2.2.2.2 _) (fun hh r => ?_)
      exact ie_vret d152_39 rfl ⟨rfl, r⟩
