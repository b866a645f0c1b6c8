/-! ===== rows of the judgement: new cells ===== -/
theorem ix_v_nw {h : ix_H} {t n w : Nat} (kd b j : Nat) (hb : b ≠ ix_nx h) : ix_v (ix_nw h t n w) kd b j = ix_v h kd b j := by
  match kd with
  | 0 => show Value.int _ = Value.int _; rw [ix_i_nw, if_neg hb]
  | 1 => show Value.long _ = Value.long _; rw [ix_l_nw, if_neg hb]
  | k + 2 => show va_rf _ = va_rf _; rw [ix_r_nw, if_neg hb]
theorem ix_v_new {h : ix_H} {t n w : Nat} (ty : FieldType) (hty : ¬ ty = .float ∧ ¬ ty = .double) (j : Nat) : ix_v (ix_nw h t n w) (ix_kd ty) (ix_nx h) j = defaultValue ty := by
  have h0 : ix_i (ix_nw h t n w) (ix_nx h) j = 0 := by rw [ix_i_nw, if_pos rfl]
  have h1 : ix_l (ix_nw h t n w) (ix_nx h) j = 0 := by rw [ix_l_nw, if_pos rfl]
  have h2 : ix_r (ix_nw h t n w) (ix_nx h) j = none := by rw [ix_r_nw, if_pos rfl]
  cases ty with
  | float => exact absurd rfl hty.1
  | double => exact absurd rfl hty.2
  | long => show Value.long _ = _; rw [h1]; rfl
  | object _ => show va_rf _ = _; rw [h2]; rfl
  | array _ => show va_rf _ = _; rw [h2]; rfl
  | _ => show Value.int _ = _; rw [h0]; rfl
/-- a cell more: the others stay -/
theorem ix_R.new {G : ix_G} {h : ix_H} {H H1 : Heap} {tg n w : Nat} (hR : ix_R G h H) (hz : H1.size = H.size + 1) (ho : ∀ q : Nat, q < H.size → H1[q]? = H[q]?)
    (h1 : ∀ k, tg = k + 1 → k < 10 → t_OB H.size (G.1.1 k) (ix_nf k) (G.1.2 k) H1 (fun j => ix_v (ix_nw h tg n w) (ix_kd (ix_ty k j)) H.size j)) (h2 : ∀ t, tg = 100 + t → t < 8 → H1[H.size]? = some (ix_arr G (ix_nw h tg n w) t H.size)) (h3 : tg < 200) : ix_R G (ix_nw h tg n w) H1 := by
  obtain ⟨r1, r2, r3, r4, r5⟩ := hR
  have lt : ∀ b, b ≠ ix_nx h → ix_tg (ix_nw h tg n w) b = ix_tg h b := fun b hb => by rw [ix_tg_nw, if_neg hb]
  have harr : ∀ t b, b ≠ ix_nx h → ix_arr G (ix_nw h tg n w) t b = ix_arr G h t b := fun t b hb => by
    unfold ix_arr
    rw [ix_ln_nw, if_neg hb]
    congr 1
    funext j
    exact ix_v_nw _ b j hb
  have self : ix_tg (ix_nw h tg n w) (ix_nx h) = tg := by rw [ix_tg_nw, if_pos rfl]
  refine ⟨by rw [ix_nx_nw, r1, hz], by rw [hz]; exact Nat.le_succ_of_le r2, fun b k hb hk => ?_, fun b t hb hk => ?_, fun b t hb hk => ?_⟩
  · by_cases e : b = ix_nx h
    · subst e
      rw [self] at hb
      rw [r1]
      exact ⟨r2, h1 k hb hk⟩
    · rw [lt b e] at hb
      obtain ⟨q1, q2⟩ := r3 b k hb hk
      have hlt : b < H.size := by
        obtain ⟨cell, q, -⟩ := q2
        exact (Array.getElem?_eq_some_iff.mp q).1
      exact ⟨q1, (q2.kept (ho b hlt)).to (fun j _ => (ix_v_nw _ b j e).symm)⟩
  · by_cases e : b = ix_nx h
    · subst e
      rw [self] at hb
      rw [r1]
      exact ⟨r2, h2 t hb hk⟩
    · rw [lt b e] at hb
      obtain ⟨q1, q2⟩ := r4 b t hb hk
      exact ⟨q1, by rw [ho b (Array.getElem?_eq_some_iff.mp q2).1, q2, harr t b e]⟩
  · by_cases e : b = ix_nx h
    · subst e
      rw [self] at hb
      omega
    · rw [lt b e] at hb
      obtain ⟨cell, q1, q2, q3, q4, q5, q6, q7⟩ := r5 b t hb hk
      exact ⟨cell, by rw [ho b (Array.getElem?_eq_some_iff.mp q1).1]; exact q1, q2, q3, q4, by rw [ix_ln_nw, if_neg e]; exact q5, by rw [ix_ln_nw, if_neg e]; exact q6, fun j hj => by rw [ix_ln_nw, if_neg e] at hj; rw [ix_v_nw _ b j e]; exact q7 j hj⟩
theorem ix_newS {A : Nat → Prop} {H0 H H1 : Heap} {locs : List Loc} (hS : va_S A H0 H locs) (hz : H1.size = H.size + 1) (ho : ∀ q : Nat, q < H.size → H1[q]? = H[q]?) : va_S A H0 H1 locs :=
  ⟨Nat.le_trans hS.1 (by omega), fun x h1 h2 => (ho x (Nat.lt_of_lt_of_le h1 hS.1)).trans (hS.2.1 x h1 h2), hS.2.2⟩
/-- class k is what own class' entry i names -/
def ix_NL (own : String) (i k : Nat) : Prop := k < 10 ∧ ix_cl[k]? = some (ix_cn k, ix_cT k, ix_nf k) ∧ (∀ w ∈ u_ws (ix_cn k) (ix_cT k) (ix_nf k), w ∈ ix_words) ∧ Cond.classLink own i (ix_cn k) ∈ ix_words ∧ Cond.instantiable (ix_cn k) (ix_nf k) ∈ ix_words ∧ Cond.initialized (ix_cn k) ∈ ix_words
theorem ix_nofd : ∀ k, k < 10 → ∀ j, j < ix_nf k → ¬ ix_ty k j = .float ∧ ¬ ix_ty k j = .double := by decide +kernel
section IX4
variable {G : ix_G} {m pc : Nat} {lv : List (Nat × Value)} {st : List Value} {h h' : ix_H} {r : ix_O}
theorem ix_new {i k : Nat} (hd : decode (ix_by m) pc = .ok (.new i, 3)) (hN : ix_NL (ix_own m) i k) (kk : ix_Ev G m (pc + 3) lv (.ref (ix_nx h) :: st) (ix_nw h (k + 1) 0 (ix_nf k)) r h') : ix_Ev G m pc lv st h r h' := by
  obtain ⟨hk, hc, hin, hlink, hins, hini⟩ := hN
  have k1 := kk.1
  rw [ix_nx_nw, ix_us_nw] at k1
  refine ⟨by omega, fun p l e R s mid args below meth c C H locs cells slots ls hR hS hl hc1 hs1 => ?_⟩
  have hts : ∀ w ∈ ix_words, w.before args s = true := fun w hw => C.w hw args
  have hKn := C.2.2.2.2.2.2.2.2.2.2.1.1 k _ hc
  refine W.newcK C.1 C.2.1 C.2.2.2.2.2.1 (hts _ hlink) (hts _ hins) (hts _ hini) rfl hd (by omega) (by omega) hKn.2.1 rfl fun H1 kC hkC e1 z1 o1 => ?_
  have hR1 : ix_R G (ix_nw h (k + 1) 0 (ix_nf k)) H1 := by
    refine hR.new z1 o1 (fun k' hk' _ => ?_) (fun t ht _ => by omega) (by omega)
    have : k' = k := by omega
    subst this
    refine (u_born (ix_ty k') hts hin hKn hkC e1 (ix_tk k' hk).1).to (fun j hj => ?_)
    rw [← hR.1]
    exact (ix_v_new _ (ix_nofd k' hk j hj) j).symm
  have K := kk.2 p l e R s mid args below meth c C H1 locs (cells + 1) (slots + ix_nf k) ls hR1 (ix_newS hS z1 o1) hl (by rw [ix_nx_nw]; omega) (by rw [ix_us_nw]; omega)
  rw [ix_nx_nw, ix_us_nw, show cells + 1 + (ix_nx h' - (ix_nx h + 1)) = cells + (ix_nx h' - ix_nx h) by omega, show slots + ix_nf k + (ix_us h' - (ix_us h + ix_nf k)) = slots + (ix_us h' - ix_us h) by omega] at K
  exact W.eq (g2 := F0 mid (pc + 3) ls (.ref (ix_nx h) :: st)) (by rw [hR.1]) K
/-- an array of a primitive kind: boolean, byte, int, long; its word -/
def ix_AK (t : Nat) (at_ : ArrayType) : Prop := t < 4 ∧ newarray.typeOf at_ = ix_at t
theorem ix_arrK {G : ix_G} {m : Nat} {p : Program} {l : Launch} {R : Room} {s : State} {mid : MethodId} {meth : Method} {c : Code} (C : ix_Cx G m p l R s mid meth c) {t : Nat} (ht : t < 8) : va_RA s (G.2.1 t) (ix_at t) := (C.2.2.2.2.2.2.2.2.2.2.1.2 t _ (ix_tyAt G ht)).2
theorem ix_harr {s : State} {cA : ClassId} {ty : FieldType} {args : Array Value} (h1 : s.vm.findClass ("[" ++ ty.toString) = some cA) (h2 : ArrOfT s cA ty) : (Cond.arrayClass ty).before args s = true := by
  obtain ⟨-, kA, hk, comp, hkind⟩ := h2 0 (fun _ => .null)
  have hk' : s.vm.classes[cA]? = some kA := hk
  simp [Cond.before, Cond.holds, Cond.value, h1, hk', hkind]
theorem ix_newa {t : Nat} {at_ : ArrayType} {n : Int32} {N : Nat} (hd : decode (ix_by m) pc = .ok (.newarray at_, 2)) (hA : ix_AK t at_) (hn : n = nI N) (hN : N ≤ 100000) (kk : ix_Ev G m (pc + 2) lv (.ref (ix_nx h) :: st) (ix_nw h (100 + t) N N) r h') : ix_Ev G m pc lv (.int n :: st) h r h' := by
  obtain ⟨t4, hty⟩ := hA
  have t8 : t < 8 := by omega
  have k1 := kk.1
  rw [ix_nx_nw, ix_us_nw] at k1
  refine ⟨by omega, fun p l e R s mid args below meth c C H locs cells slots ls hR hS hl hc1 hs1 => ?_⟩
  have hRA := ix_arrK C t8
  have hAT : ArrOfT s (G.2.1 t) (ix_at t) := (C.2.2.2.2.2.2.2.2.2.2.1.2 t _ (ix_tyAt G t8)).1
  have hnm : s.vm.findClass ("[" ++ (ix_at t).toString) = some (G.2.1 t) := by
    match t, t4, hRA with
    | 0, _, q => exact q
    | 1, _, q => exact q
    | 2, _, q => exact q
    | 3, _, q => exact q
  have hcb : componentBytes (ix_at t) ≤ 8 := by
    match t, t4 with
    | 0, _ => decide
    | 1, _ => decide
    | 2, _ => decide
    | 3, _ => decide
  have hfd : ¬ ix_at t = .float ∧ ¬ ix_at t = .double := by
    match t, t4 with
    | 0, _ => decide
    | 1, _ => decide
    | 2, _ => decide
    | 3, _ => decide
  have hN31 : N < 2 ^ 31 := by omega
  refine va_newaK (N := N) C.1 C.2.1 (by rw [hty]; exact ix_harr hnm hAT) rfl hd rfl (by rw [hn]; exact nI_pos hN31) (by rw [hn]; exact nI_clamp hN31) (by rw [hty]; have := Nat.mul_le_mul_left N hcb; omega) (by omega) (by omega) rfl fun H1 cA e1 z1 o1 hAr hNm => ?_
  rw [hty] at e1 hNm
  have hcA : cA = G.2.1 t := Option.some.inj (hNm.symm.trans hnm)
  subst hcA
  have hR1 : ix_R G (ix_nw h (100 + t) N N) H1 := by
    refine hR.new z1 o1 (fun k' hk' _ => by omega) (fun t' ht _ => ?_) (by omega)
    have : t' = t := by omega
    subst this
    rw [e1, ← hR.1]
    unfold ix_arr
    rw [ix_ln_nw, if_pos rfl]
    congr 2
    funext j
    exact (ix_v_new _ hfd j).symm
  have K := kk.2 p l e R s mid args below meth c C H1 locs (cells + 1) (slots + N) ls hR1 (ix_newS hS z1 o1) hl (by rw [ix_nx_nw]; omega) (by rw [ix_us_nw]; omega)
  rw [ix_nx_nw, ix_us_nw, show cells + 1 + (ix_nx h' - (ix_nx h + 1)) = cells + (ix_nx h' - ix_nx h) by omega, show slots + N + (ix_us h' - (ix_us h + N)) = slots + (ix_us h' - ix_us h) by omega] at K
  exact W.eq (g2 := F0 mid (pc + 2) ls (.ref (ix_nx h) :: st)) (by rw [hR.1]) K
theorem ix_anew {t i : Nat} {Cn : String} {n : Int32} {N : Nat} (hd : decode (ix_by m) pc = .ok (.anewarray i, 3)) (t8 : t < 8) (hat : ix_at t = .object Cn) (hCn : Cn = "FileDelivery$Side" ∨ Cn = "FileDelivery$Unit" ∨ Cn = "java/lang/Object") (hlink : Cond.classLink (ix_own m) i Cn ∈ ix_words) (hn : n = nI N) (hN : N ≤ 100000) (kk : ix_Ev G m (pc + 3) lv (.ref (ix_nx h) :: st) (ix_nw h (100 + t) N N) r h') : ix_Ev G m pc lv (.int n :: st) h r h' := by
  have k1 := kk.1
  rw [ix_nx_nw, ix_us_nw] at k1
  refine ⟨by omega, fun p l e R s mid args below meth c C H locs cells slots ls hR hS hl hc1 hs1 => ?_⟩
  have hRA := ix_arrK C t8
  rw [hat] at hRA
  obtain ⟨kA0, comp0, -, -, -, hnm⟩ := hRA
  have hover : va_AO Cn s := by
    obtain ⟨-, -, -, -, -, h6, h7, h8, -⟩ := C.2.2.2.2.2.2.2.2.2
    rcases hCn with q | q | q
    · rw [q]; exact h6
    · rw [q]; exact h7
    · rw [q]; exact h8
  have hN31 : N < 2 ^ 31 := by omega
  have hcl : n.toNatClampNeg = N := by rw [hn]; exact nI_clamp hN31
  refine W.anew C.1 C.2.1 C.2.2.2.2.2.1 (C.w hlink args) (va_AO.use hover) rfl hd rfl (by rw [hn]; exact nI_pos hN31) (by rw [hcl]; omega) (by omega) (by rw [hcl]; omega) fun cA kA comp f1 f2 f3 f4 => ?_
  have hcA : cA = G.2.1 t := Option.some.inj (f1.symm.trans hnm)
  subst hcA
  rw [hcl]
  generalize hH1 : H.push ({ cls := G.2.1 t, slots := Array.replicate N .null, vm := .none } : Cell) = H1
  have z1 : H1.size = H.size + 1 := by rw [← hH1, Array.size_push]
  have e1 : H1[H.size]? = some (arrV (G.2.1 t) N (fun _ => .null)) := by rw [← hH1, Array.getElem?_push_size, ← arrV_new]
  have o1 : ∀ q : Nat, q < H.size → H1[q]? = H[q]? := fun q hq => by rw [← hH1, Array.getElem?_push, if_neg (Nat.ne_of_lt hq)]
  have hR1 : ix_R G (ix_nw h (100 + t) N N) H1 := by
    refine hR.new z1 o1 (fun k' hk' _ => by omega) (fun t' ht _ => ?_) (by omega)
    have : t' = t := by omega
    subst this
    rw [e1, ← hR.1]
    unfold ix_arr
    rw [ix_ln_nw, if_pos rfl]
    congr 2
    funext j
    rw [hat]
    exact (ix_v_new (.object Cn) ⟨fun q => (by cases q), fun q => (by cases q)⟩ j).symm
  have K := kk.2 p l e R s mid args below meth c C H1 locs (cells + 1) (slots + N) ls hR1 (ix_newS hS z1 o1) hl (by rw [ix_nx_nw]; omega) (by rw [ix_us_nw]; omega)
  rw [ix_nx_nw, ix_us_nw, show cells + 1 + (ix_nx h' - (ix_nx h + 1)) = cells + (ix_nx h' - ix_nx h) by omega, show slots + N + (ix_us h' - (ix_us h + N)) = slots + (ix_us h' - ix_us h) by omega] at K
  exact W.eq (g2 := F0 mid (pc + 3) ls (.ref (ix_nx h) :: st)) (by rw [hR.1]) K
/-! ===== references into arrays ===== -/
/-- an object of class k may stand in an array of kind t -/
def ix_AS (k t : Nat) : Prop := k < 10 ∧ t < 8 ∧ ix_cl[k]? = some (ix_cn k, ix_cT k, ix_nf k) ∧ ∃ Cn : String, ix_at t = .object Cn ∧ (ix_cn k = Cn ∨ Cond.castable (ix_cn k) Cn ∈ ix_words)
theorem ix_aast {a b t k : Nat} {j : Int32} (hd : decode (ix_by m) pc = .ok (.aastore, 1)) (hAS : ix_AS k t) (ht : ix_tg h a = 100 + t) (hb : ix_tg h b = k + 1) (hin : vp_in j (ix_ln h a)) (kk : ix_Ev G m (pc + 1) lv st (ix_sr h a j.toNatClampNeg (some b)) r h') : ix_Ev G m pc lv (.ref b :: .int j :: .ref a :: st) h r h' := by
  obtain ⟨k10, t8, hc, Cn, hat, hcast⟩ := hAS
  refine ⟨kk.1, fun p l e R s mid args below meth c C H locs cells slots ls hR hS hl hc1 hs1 => ?_⟩
  have hts : ∀ w ∈ ix_words, w.before args s = true := fun w hw => C.w hw args
  obtain ⟨-, cellV, g1, g2, g3, -⟩ := hR.2.2.1 b k hb k10
  obtain ⟨-, hfc, kC, hkC, hkind⟩ := C.2.2.2.2.2.2.2.2.2.2.1.1 k _ hc
  have hRA := ix_arrK C t8
  rw [hat] at hRA
  obtain ⟨kA, comp, a1, a2, a3, a4⟩ := hRA
  have hasg : s.vm.assignable cellV.cls comp = true := by
    rw [g2]
    rcases hcast with q | q
    · have : comp = G.1.1 k := Option.some.inj (a3.symm.trans (by rw [← q]; exact hfc))
      rw [this]
      exact va_asg _ _
    · obtain ⟨c3, c4, hc3, hc4, hasg⟩ := Cond.castable_spec (hts _ q)
      cases Option.some.inj (hc3.symm.trans hfc)
      cases Option.some.inj (hc4.symm.trans a3)
      exact hasg
  obtain ⟨kcomp, hkcomp⟩ := Vm.classAt_of_findClass a3
  refine W.aast C.1 C.2.1 (hR.arr t8 ht) (fun q h => by cases h) (fun h => by cases h) a1 a2 rfl hkcomp ⟨fun q => hin (Or.inl q), by show _ < (arrV _ _ _).slots.size; rw [arrV_size]; exact ix_inlt hin⟩ g1 (fun q h => by rw [g3] at h; cases h) (by rw [g2]; exact hkC) hasg rfl rfl hd fun H' e1 e2 e3 => ?_
  exact kk.2 p l e R s mid args below meth c C H' _ cells slots ls (hR.ast (t := t) (n := j.toNatClampNeg) (v := .ref b) t8 ht rfl (fun _ => rfl) (fun _ => rfl) (fun kd b j' q => ix_v_sr kd b j' (q.elim Or.inl (fun q => Or.inr (Or.inl q)))) (by rw [hat]; show va_rf _ = _; rw [ix_r_sr, if_pos ⟨rfl, rfl⟩]; rfl) e1 e2 e3) (hS.put e2 e3 (hR.2.2.2.1 a t ht t8).1) hl hc1 hs1
theorem ix_aastN {a t : Nat} {Cn : String} {j : Int32} (hd : decode (ix_by m) pc = .ok (.aastore, 1)) (t8 : t < 8) (hat : ix_at t = .object Cn) (ht : ix_tg h a = 100 + t) (hin : vp_in j (ix_ln h a)) (kk : ix_Ev G m (pc + 1) lv st (ix_sr h a j.toNatClampNeg none) r h') : ix_Ev G m pc lv (.null :: .int j :: .ref a :: st) h r h' := by
  refine ⟨kk.1, fun p l e R s mid args below meth c C H locs cells slots ls hR hS hl hc1 hs1 => ?_⟩
  refine va_WaastN (C := Cn) C.1 C.2.1 (hR.arr t8 ht) (by rw [← hat]; exact ix_isarr C t8 h a) (fun h => by cases h) (ix_ain hin) rfl rfl hd fun H' e1 e2 e3 => ?_
  exact kk.2 p l e R s mid args below meth c C H' _ cells slots ls (hR.ast (t := t) (n := j.toNatClampNeg) (v := .null) t8 ht rfl (fun _ => rfl) (fun _ => rfl) (fun kd b j' q => ix_v_sr kd b j' (q.elim Or.inl (fun q => Or.inr (Or.inl q)))) (by rw [hat]; show va_rf _ = _; rw [ix_r_sr, if_pos ⟨rfl, rfl⟩]; rfl) e1 e2 e3) (hS.put e2 e3 (hR.2.2.2.1 a t ht t8).1) hl hc1 hs1
end IX4
