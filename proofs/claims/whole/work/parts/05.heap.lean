/-! ===== rows of the judgement: fields ===== -/
/-- a field's place: own class' entry i is field j of class k, of kind kd -/
def ix_FL (own : String) (i k j kd : Nat) : Prop := k < 10 ∧ j < ix_nf k ∧ ix_kd (ix_ty k j) = kd ∧ ix_cl[k]? = some (ix_cn k, ix_cT k, ix_nf k) ∧ (∀ w ∈ u_ws (ix_cn k) (ix_cT k) (ix_nf k), w ∈ ix_words) ∧
  ∃ ref : String, (Cond.fieldLink own i ref (ix_cT k j).2.1 (ix_cT k j).2.2.1 ∈ ix_words ∨ ∃ host : String, Cond.fieldLinkNest own i ref (ix_cT k j).2.1 (ix_cT k j).2.2.1 host ∈ ix_words) ∧ (ref = (ix_cT k j).1 ∨ Cond.sameField ref (ix_cT k j).1 (ix_cT k j).2.1 (ix_cT k j).2.2.1 ∈ ix_words)
/-- what the tables say of class k's fields -/
def ix_TK (k : Nat) : Prop := (∀ j, j < ix_nf k → parseFieldDescriptor (ix_cT k j).2.2.1 = some (ix_ty k j)) ∧ ∀ a, a < ix_nf k → ∀ b, b < ix_nf k → a ≠ b → (ix_cT k a).2.1 ≠ (ix_cT k b).2.1
theorem ix_tk : ∀ k, k < 10 → ix_TK k := by
  intro k hk
  match k, hk with
  | 0, _ => exact ⟨ix_ty0_ok, ix_nm0⟩
  | 1, _ => exact ⟨ix_ty1_ok, ix_nm1⟩
  | 2, _ => exact ⟨ix_ty2_ok, ix_nm2⟩
  | 3, _ => exact ⟨ix_ty3_ok, ix_nm3⟩
  | 4, _ => exact ⟨ix_ty4_ok, ix_nm4⟩
  | 5, _ => exact ⟨ix_ty5_ok, ix_nm5⟩
  | 6, _ => exact ⟨ix_ty6_ok, ix_nm6⟩
  | 7, _ => exact ⟨ix_ty7_ok, ix_nm7⟩
  | 8, _ => exact ⟨ix_ty8_ok, ix_nm8⟩
  | 9, _ => exact ⟨ix_ty9_ok, ix_nm9⟩
  | n + 10, h => omega
section IX2
variable {G : ix_G} {m pc : Nat} {lv : List (Nat × Value)} {st : List Value} {h h' : ix_H} {r : ix_O}
theorem ix_get {i k j kd a : Nat} (hd : decode (ix_by m) pc = .ok (.getfield i, 3)) (hF : ix_FL (ix_own m) i k j kd) (ht : ix_tg h a = k + 1) (kk : ix_Ev G m (pc + 3) lv (ix_v h kd a j :: st) h r h') : ix_Ev G m pc lv (.ref a :: st) h r h' := by
  obtain ⟨hk, hj, hkd, hc, hin, ref, hlink, hsame⟩ := hF
  refine ⟨kk.1, fun p l e R s mid args below meth c C H locs cells slots ls hR hS hl hc1 hs1 => ?_⟩
  have hts : ∀ w ∈ ix_words, w.before args s = true := fun w hw => C.w hw args
  obtain ⟨-, cell, q1, q2, q3, q4⟩ := hR.2.2.1 a k ht hk
  obtain ⟨hS9, hfc, kC, hkC, hkind⟩ := C.2.2.2.2.2.2.2.2.2.2.1.1 k _ hc
  obtain ⟨cf, kf, fi, f, hi, hsl⟩ := hS9 j hj
  have hv : cell.slots[f.slot]? = some (ix_v h kd a j) := by
    rw [hsl, q4 j hj]
    show some (ix_v h (ix_kd (ix_ty k j)) a j) = _
    rw [hkd]
  have hsame' : s.fieldFound? ref (ix_cT k j).2.1 (ix_cT k j).2.2.1 = some (cf, kf, fi, f) := by
    rcases hsame with e | e
    · rw [e]; exact hi
    · exact u_same (hts _ e) _ hi
  have K := kk.2 p l e R s mid args below meth c C H locs cells slots ls hR hS hl hc1 hs1
  rcases hlink with hlink | ⟨host, hlink⟩
  · exact W.getf C.1 C.2.1 C.2.2.2.2.2.1 (hts _ hlink) hsame' (u_facts hfc hkC (u_lays hts hin hj) hi).1 q1 (by rw [q3]; exact fun h => by cases h) hv rfl rfl hd K
  · exact va_Wgetf C.1 C.2.1 C.2.2.2.2.2.1 (hts _ hlink) hsame' (u_facts hfc hkC (u_lays hts hin hj) hi).1 q1 (by rw [q3]; exact fun h => by cases h) hv rfl rfl hd K
theorem ix_geti {i k j a : Nat} (hd : decode (ix_by m) pc = .ok (.getfield i, 3)) (hF : ix_FL (ix_own m) i k j 0) (ht : ix_tg h a = k + 1) (kk : ix_Ev G m (pc + 3) lv (.int (ix_i h a j) :: st) h r h') : ix_Ev G m pc lv (.ref a :: st) h r h' := ix_get hd hF ht kk
theorem ix_getq {i k j a : Nat} (hd : decode (ix_by m) pc = .ok (.getfield i, 3)) (hF : ix_FL (ix_own m) i k j 2) (ht : ix_tg h a = k + 1) (kk : ix_Ev G m (pc + 3) lv (va_rf (ix_r h a j) :: st) h r h') : ix_Ev G m pc lv (.ref a :: st) h r h' := ix_get hd hF ht kk
theorem ix_getr {i k j a : Nat} (b : Nat) (hd : decode (ix_by m) pc = .ok (.getfield i, 3)) (hF : ix_FL (ix_own m) i k j 2) (ht : ix_tg h a = k + 1) (hb : ix_r h a j = some b) (kk : ix_Ev G m (pc + 3) lv (.ref b :: st) h r h') : ix_Ev G m pc lv (.ref a :: st) h r h' := ix_getq hd hF ht (by rw [hb]; exact kk)
theorem ix_getn {i k j a : Nat} (hd : decode (ix_by m) pc = .ok (.getfield i, 3)) (hF : ix_FL (ix_own m) i k j 2) (ht : ix_tg h a = k + 1) (hb : ix_r h a j = none) (kk : ix_Ev G m (pc + 3) lv (.null :: st) h r h') : ix_Ev G m pc lv (.ref a :: st) h r h' := ix_getq hd hF ht (by rw [hb]; exact kk)
end IX2
/-- one place of the heap is written: the others stay -/
theorem ix_R.put {G : ix_G} {h h1 : ix_H} {H H1 : Heap} {a : Nat} (hR : ix_R G h H) (hn : ix_nx h1 = ix_nx h) (ht : ∀ b, ix_tg h1 b = ix_tg h b) (hl : ∀ b, ix_ln h1 b = ix_ln h b) (hv : ∀ kd b j, b ≠ a → ix_v h1 kd b j = ix_v h kd b j) (hz : H1.size = H.size) (ho : ∀ q : Nat, q ≠ a → H1[q]? = H[q]?)
    (h1a : ∀ k, ix_tg h a = k + 1 → k < 10 → t_OB a (G.1.1 k) (ix_nf k) (G.1.2 k) H1 (fun j => ix_v h1 (ix_kd (ix_ty k j)) a j)) (h2a : ∀ t, ix_tg h a = 100 + t → t < 8 → H1[a]? = some (ix_arr G h1 t a)) (h3a : ∀ t, ¬ ix_tg h a = 200 + t) : ix_R G h1 H1 := by
  obtain ⟨r1, r2, r3, r4, r5⟩ := hR
  have harr : ∀ t b, b ≠ a → ix_arr G h1 t b = ix_arr G h t b := fun t b hb => by
    unfold ix_arr
    rw [hl b]
    congr 1
    funext j
    exact hv _ b j hb
  refine ⟨by rw [hn, r1, hz], by rw [hz]; exact r2, fun b k hb hk => ?_, fun b t hb hk => ?_, fun b t hb hk => ?_⟩
  · rw [ht b] at hb
    obtain ⟨q1, q2⟩ := r3 b k hb hk
    refine ⟨q1, ?_⟩
    by_cases e : b = a
    · subst e
      exact h1a k hb hk
    · exact (q2.kept (ho b e)).to (fun j _ => (hv _ b j e).symm)
  · rw [ht b] at hb
    obtain ⟨q1, q2⟩ := r4 b t hb hk
    refine ⟨q1, ?_⟩
    by_cases e : b = a
    · subst e
      exact h2a t hb hk
    · rw [ho b e, q2, harr t b e]
  · rw [ht b] at hb
    by_cases e : b = a
    · subst e
      exact absurd hb (h3a t)
    · obtain ⟨cell, q1, q2, q3, q4, q5, q6, q7⟩ := r5 b t hb hk
      exact ⟨cell, by rw [ho b e]; exact q1, q2, q3, q4, by rw [hl b]; exact q5, by rw [hl b]; exact q6, fun j hj => by rw [hl b] at hj; rw [hv _ b j e]; exact q7 j hj⟩
theorem ix_v_si {h : ix_H} {a k : Nat} {x : Int32} (kd b j : Nat) (hb : b ≠ a ∨ j ≠ k ∨ kd ≠ 0) : ix_v (ix_si h a k x) kd b j = ix_v h kd b j := by
  match kd with
  | 0 =>
    show Value.int _ = Value.int _
    rw [ix_i_si, if_neg]
    rintro ⟨e1, e2⟩
    rcases hb with q | q | q
    · exact q e1
    · exact q e2
    · exact q rfl
  | 1 => rfl
  | n + 2 => rfl
theorem ix_v_sl {h : ix_H} {a k : Nat} {x : Int64} (kd b j : Nat) (hb : b ≠ a ∨ j ≠ k ∨ kd ≠ 1) : ix_v (ix_sl h a k x) kd b j = ix_v h kd b j := by
  match kd with
  | 0 => rfl
  | 1 =>
    show Value.long _ = Value.long _
    rw [ix_l_sl, if_neg]
    rintro ⟨e1, e2⟩
    rcases hb with q | q | q
    · exact q e1
    · exact q e2
    · exact q rfl
  | n + 2 => rfl
theorem ix_v_sr {h : ix_H} {a k : Nat} {x : Option Nat} (kd b j : Nat) (hb : b ≠ a ∨ j ≠ k ∨ kd < 2) : ix_v (ix_sr h a k x) kd b j = ix_v h kd b j := by
  match kd with
  | 0 => rfl
  | 1 => rfl
  | n + 2 =>
    show va_rf _ = va_rf _
    rw [ix_r_sr, if_neg]
    rintro ⟨e1, e2⟩
    rcases hb with q | q | q
    · exact q e1
    · exact q e2
    · omega
section IX3
variable {G : ix_G} {m pc : Nat} {lv : List (Nat × Value)} {st : List Value} {h h' : ix_H} {r : ix_O}
theorem ix_put {i k j kd a : Nat} {v : Value} {h1 : ix_H} (hd : decode (ix_by m) pc = .ok (.putfield i, 3)) (hF : ix_FL (ix_own m) i k j kd) (hfin : (ix_cT k j).2.2.2 = false ∨ ((ix_y m).name = "<init>" ∧ (ix_cT k j).1 = ix_own m ∧ (ix_cT k j).2.2.2 = true)) (ht : ix_tg h a = k + 1) (hn : narrow (ix_ty k j) v = v) (hfit : fits (ix_ty k j) v = true)
    (e1 : ix_nx h1 = ix_nx h) (e0 : ix_us h1 = ix_us h) (e2 : ∀ b, ix_tg h1 b = ix_tg h b) (e3 : ∀ b, ix_ln h1 b = ix_ln h b) (e4 : ∀ kd' b j', b ≠ a ∨ j' ≠ j → ix_v h1 kd' b j' = ix_v h kd' b j') (e5 : ix_v h1 kd a j = v)
    (kk : ix_Ev G m (pc + 3) lv st h1 r h') : ix_Ev G m pc lv (v :: .ref a :: st) h r h' := by
  obtain ⟨hk, hj, hkd, hc, hin, ref, hlink, hsame⟩ := hF
  obtain ⟨hty, hnm⟩ := ix_tk k hk
  refine ⟨by rw [← e1, ← e0]; exact kk.1, fun p l e R s mid args below meth c C H locs cells slots ls hR hS hl hc1 hs1 => ?_⟩
  have hts : ∀ w ∈ ix_words, w.before args s = true := fun w hw => C.w hw args
  have hK := C.2.2.2.2.2.2.2.2.2.2.1
  have hap := va_apart (own := ix_own m) hts hin (ix_ty k) hty hnm hK hc
  obtain ⟨hA, cell, q1, q2, q3, q4⟩ := hR.2.2.1 a k ht hk
  obtain ⟨hS9, hfc, kC, hkC, hkind⟩ := hK.1 k _ hc
  obtain ⟨cf, kf, fi, f, hi, hsl⟩ := hS9 j hj
  have hsame' : s.fieldFound? ref (ix_cT k j).2.1 (ix_cT k j).2.2.1 = some (cf, kf, fi, f) := by
    rcases hsame with e | e
    · rw [e]; exact hi
    · exact u_same (hts _ e) _ hi
  have hst := (u_facts hfc hkC (u_lays hts hin hj) hi).1
  have hlt : f.slot < cell.slots.size := by rw [hsl]; exact k2_hasslot (q4 j hj)
  have K : ∀ H' : Heap, H'[a]? = some (cell.setSlot f.slot v) → H'.size = H.size → (∀ q, q ≠ a → H'[q]? = H[q]?) → W p l e R s mid args below meth c H' (locs ++ [⟨a, f.slot⟩]) cells slots (MQ below (ix_Q G r h') args s (cells + (ix_nx h' - ix_nx h)) (slots + (ix_us h' - ix_us h)) (ix_A G)) (F0 mid (pc + 3) ls st) := by
    intro H' g1 g2 g3
    rw [hsl] at g1
    have hR1 : ix_R G h1 H' := by
      refine hR.put e1 e2 e3 (fun kd' b j' hb => e4 kd' b j' (Or.inl hb)) g2 g3 (fun k' hk' _ => ?_) (fun t ht' _ => ?_) (fun t ht' => ?_)
      · have : k' = k := by omega
        subst this
        refine t_OB.to (V := updV (fun j' => ix_v h (ix_kd (ix_ty k' j')) a j') j v) ⟨_, g1, q2, q3, t_set q4 hap hj v⟩ (fun j' hj' => ?_)
        by_cases e : j' = j
        · subst e
          simp only [updV, if_true]
          rw [hkd, e5]
        · simp only [updV, if_neg e]
          exact (e4 _ a j' (Or.inr e)).symm
      · omega
      · omega
    have hS1 : va_S (ix_A G) s.heap H' (locs ++ [⟨a, G.1.2 k j⟩]) := hS.put g2 g3 hA
    have := kk.2 p l e R s mid args below meth c C H' (locs ++ [⟨a, G.1.2 k j⟩]) cells slots ls hR1 hS1 hl (by rw [e1]; exact hc1) (by rw [e0]; exact hs1)
    rw [e1, e0] at this
    rw [hsl]
    exact this
  by_cases hfl : (ix_cT k j).2.2.2 = true
  · have hz : (ix_y m).name = "<init>" ∧ (ix_cT k j).1 = ix_own m := by
      rcases hfin with q | q
      · rw [hfl] at q; cases q
      · exact ⟨q.1, q.2.1⟩
    have hlay := hts _ (hin _ (u_in_lay hj))
    unfold u_lay at hlay
    rw [if_pos hfl] at hlay
    have hcf : mid.cls = cf := by
      obtain ⟨_, _, c', _, _, _, -, -, hf', -, -, -, hown2, -⟩ := Cond.laysFinal_spec hlay
      have z1 : c' = cf := by have := hi.symm.trans hf'; simp at this; exact this.1.symm
      rw [hz.2] at hown2
      rw [← z1]; exact Option.some.inj (C.2.2.2.2.2.1.symm.trans hown2)
    have h6 := u_fits hfc hkC hkind (Or.inr hlay) hi (hty j hj) hn hfit
    rcases hlink with hlink | ⟨host, hlink⟩
    · exact W.putFinK C.1 C.2.1 C.2.2.2.2.2.1 (hts _ hlink) hsame' hst hcf (by rw [C.2.2.2.2.2.2.1]; exact hz.1) (by rw [q2]; exact h6) q1 q3 hlt rfl rfl hd K
    · have ha : a < H.size := (Array.getElem?_eq_some_iff.mp q1).1
      refine va_Wputf C.1 C.2.1 C.2.2.2.2.2.1 (hts _ hlink) hsame' hst (Or.inr ⟨hcf, by rw [C.2.2.2.2.2.2.1]; exact hz.1⟩) q1 (by rw [q3]; exact fun h => by cases h) hlt h6.1 (by rw [q2, q3]; exact h6.2) rfl rfl hd (K _ ?_ ?_ ?_)
      · simp [Array.getElem?_setIfInBounds, ha]
      · simp
      · intro q hq
        simp [Array.getElem?_setIfInBounds, Ne.symm hq]
  · have hfl' : (ix_cT k j).2.2.2 = false := by simpa using hfl
    have hlay := hts _ (hin _ (u_in_lay hj))
    unfold u_lay at hlay
    rw [if_neg (by rw [hfl']; decide)] at hlay
    have h6 := u_store hfc hkC hkind hlay hi (hty j hj) hn hfit
    rcases hlink with hlink | ⟨host, hlink⟩
    · exact W.putK C.1 C.2.1 (f := f) ⟨C.2.2.2.2.2.1, hts _ hlink, ⟨_, _, _, hsame'⟩, hst⟩ (by rw [q2]; exact h6) q1 q3 hlt rfl rfl hd K
    · exact va_WputK C.1 C.2.1 (f := f) C.2.2.2.2.2.1 (hts _ hlink) hsame' hst (by rw [q2]; exact h6) q1 q3 hlt rfl rfl hd K
theorem ix_puti {i k j a : Nat} {x : Int32} (hd : decode (ix_by m) pc = .ok (.putfield i, 3)) (hF : ix_FL (ix_own m) i k j 0) (hfin : (ix_cT k j).2.2.2 = false ∨ ((ix_y m).name = "<init>" ∧ (ix_cT k j).1 = ix_own m ∧ (ix_cT k j).2.2.2 = true)) (ht : ix_tg h a = k + 1) (hn : narrow (ix_ty k j) (.int x) = .int x) (hfit : fits (ix_ty k j) (.int x) = true)
    (kk : ix_Ev G m (pc + 3) lv st (ix_si h a j x) r h') : ix_Ev G m pc lv (.int x :: .ref a :: st) h r h' :=
  ix_put hd hF hfin ht hn hfit (ix_nx_si h a j x) (ix_us_si h a j x) (ix_tg_si h a j x) (ix_ln_si h a j x) (fun kd' b j' q => ix_v_si kd' b j' (q.elim Or.inl (fun q => Or.inr (Or.inl q)))) (by show Value.int _ = _; rw [ix_i_si, if_pos ⟨rfl, rfl⟩]) kk
theorem ix_putr {i k j a b : Nat} (hd : decode (ix_by m) pc = .ok (.putfield i, 3)) (hF : ix_FL (ix_own m) i k j 2) (hfin : (ix_cT k j).2.2.2 = false ∨ ((ix_y m).name = "<init>" ∧ (ix_cT k j).1 = ix_own m ∧ (ix_cT k j).2.2.2 = true)) (ht : ix_tg h a = k + 1) (hn : narrow (ix_ty k j) (.ref b) = .ref b) (hfit : fits (ix_ty k j) (.ref b) = true)
    (kk : ix_Ev G m (pc + 3) lv st (ix_sr h a j (some b)) r h') : ix_Ev G m pc lv (.ref b :: .ref a :: st) h r h' :=
  ix_put hd hF hfin ht hn hfit (ix_nx_sr h a j (some b)) (ix_us_sr h a j (some b)) (ix_tg_sr h a j (some b)) (ix_ln_sr h a j (some b)) (fun kd' b' j' q => ix_v_sr kd' b' j' (q.elim Or.inl (fun q => Or.inr (Or.inl q)))) (by show va_rf _ = _; rw [ix_r_sr, if_pos ⟨rfl, rfl⟩]; rfl) kk
theorem ix_putN {i k j a : Nat} (hd : decode (ix_by m) pc = .ok (.putfield i, 3)) (hF : ix_FL (ix_own m) i k j 2) (hfin : (ix_cT k j).2.2.2 = false ∨ ((ix_y m).name = "<init>" ∧ (ix_cT k j).1 = ix_own m ∧ (ix_cT k j).2.2.2 = true)) (ht : ix_tg h a = k + 1) (hn : narrow (ix_ty k j) .null = .null) (hfit : fits (ix_ty k j) .null = true)
    (kk : ix_Ev G m (pc + 3) lv st (ix_sr h a j none) r h') : ix_Ev G m pc lv (.null :: .ref a :: st) h r h' :=
  ix_put hd hF hfin ht hn hfit (ix_nx_sr h a j none) (ix_us_sr h a j none) (ix_tg_sr h a j none) (ix_ln_sr h a j none) (fun kd' b' j' q => ix_v_sr kd' b' j' (q.elim Or.inl (fun q => Or.inr (Or.inl q)))) (by show va_rf _ = _; rw [ix_r_sr, if_pos ⟨rfl, rfl⟩]; rfl) kk
/-! ===== arrays ===== -/
theorem ix_tyAt (G : ix_G) {t : Nat} (ht : t < 8) : (ix_tys G)[t]? = some (G.2.1 t, ix_at t) := by
  unfold ix_tys
  rw [List.getElem?_map, List.getElem?_range ht]
  rfl
/-- an array that is there: its cell -/
theorem ix_R.arr {G : ix_G} {h : ix_H} {H : Heap} (hR : ix_R G h H) {a t : Nat} (ht : t < 8) (hT : ix_tg h a = 100 + t) : H[a]? = some (ix_arr G h t a) := (hR.2.2.2.1 a t hT ht).2
theorem ix_isarr {G : ix_G} {m : Nat} {p : Program} {l : Launch} {R : Room} {s : State} {mid : MethodId} {meth : Method} {c : Code} (C : ix_Cx G m p l R s mid meth c) {t : Nat} (ht : t < 8) (h : ix_H) (a : Nat) : s.isArrayOf (ix_arr G h t a) (ix_at t) := (C.2.2.2.2.2.2.2.2.2.2.1.2 t _ (ix_tyAt G ht)).1 _ _
theorem ix_aread {G : ix_G} {h : ix_H} {t a n : Nat} (hn : n < ix_ln h a) : (ix_arr G h t a).slots[n]? = some (ix_v h (ix_kd (ix_at t)) a n) := by
  unfold ix_arr
  rw [arrV_read _ _ hn]
/-- an array that is there, ours or not -/
theorem ix_R.arrL {G : ix_G} {m : Nat} {p : Program} {l : Launch} {R : Room} {s : State} {mid : MethodId} {meth : Method} {c : Code} {h : ix_H} {H : Heap} (hR : ix_R G h H) (C : ix_Cx G m p l R s mid meth c) {a t : Nat} (ht : t < 8) (hT : ix_tg h a = 100 + t ∨ ix_tg h a = 200 + t) : ∃ cell : Cell, H[a]? = some cell ∧ s.isArrayOf cell (ix_at t) ∧ cell.vm ≠ .unknown ∧ ix_ln h a ≤ cell.slots.size ∧ cell.slots.size.toInt32 = nI (ix_ln h a) ∧ ∀ j, j < ix_ln h a → cell.slots[j]? = some (ix_v h (ix_kd (ix_at t)) a j) := by
  rcases hT with q | q
  · exact ⟨_, hR.arr ht q, ix_isarr C ht h a, (fun z => by cases z), by show _ ≤ (arrV _ _ _).slots.size; rw [arrV_size]; exact Nat.le_refl _, by show (arrV _ _ _).slots.size.toInt32 = _; rw [arrV_size]; rfl, fun j hj => ix_aread hj⟩
  · obtain ⟨cell, q1, q2, q3, q4, q5, q6, q7⟩ := hR.2.2.2.2 a t q ht
    obtain ⟨-, k0, hk0, cm0, hkk0⟩ := (C.2.2.2.2.2.2.2.2.2.2.2.2.2.2.2.2.2.1 t ht) 0 (fun _ => .null)
    exact ⟨cell, q1, ⟨q4, k0, by rw [q2]; exact hk0, cm0, hkk0⟩, q3, q5, q6, q7⟩
theorem ix_alen {a t : Nat} (hd : decode (ix_by m) pc = .ok (.arraylength, 1)) (t8 : t < 8) (ht : ix_tg h a = 100 + t ∨ ix_tg h a = 200 + t) (kk : ix_Ev G m (pc + 1) lv (.int (nI (ix_ln h a)) :: st) h r h') : ix_Ev G m pc lv (.ref a :: st) h r h' := by
  refine ⟨kk.1, fun p l e R s mid args below meth c C H locs cells slots ls hR hS hl hc1 hs1 => ?_⟩
  obtain ⟨cell, g1, g2, g3, g4, g5, g6⟩ := hR.arrL C t8 ht
  exact W.alen (n := nI (ix_ln h a)) C.1 C.2.1 g1 g2 g5 rfl rfl hd (kk.2 p l e R s mid args below meth c C H locs cells slots ls hR hS hl hc1 hs1)
theorem ix_ain {G : ix_G} {h : ix_H} {t a : Nat} {j : Int32} (hin : vp_in j (ix_ln h a)) : ¬ (j < 0 ∨ (ix_arr G h t a).slots.size ≤ j.toNatClampNeg) := by
  unfold ix_arr
  rw [arrV_size]
  exact hin
theorem ix_inlt {j : Int32} {n : Nat} (h : vp_in j n) : j.toNatClampNeg < n := Nat.not_le.mp fun q => h (Or.inr q)
theorem ix_iald {a : Nat} {j : Int32} (hd : decode (ix_by m) pc = .ok (.iaload, 1)) (ht : ix_tg h a = 100 ∨ ix_tg h a = 200) (hin : vp_in j (ix_ln h a)) (kk : ix_Ev G m (pc + 1) lv (.int (ix_i h a j.toNatClampNeg) :: st) h r h') : ix_Ev G m pc lv (.int j :: .ref a :: st) h r h' := by
  refine ⟨kk.1, fun p l e R s mid args below meth c C H locs cells slots ls hR hS hl hc1 hs1 => ?_⟩
  obtain ⟨cell, g1, g2, g3, g4, g5, g6⟩ := hR.arrL C (t := 0) (by decide) ht
  exact W.iald C.1 C.2.1 g1 g2 g3 (fun z => z.elim (fun q => hin (Or.inl q)) (fun q => hin (Or.inr (Nat.le_trans g4 q)))) (g6 _ (ix_inlt hin)) rfl rfl hd (kk.2 p l e R s mid args below meth c C H locs cells slots ls hR hS hl hc1 hs1)
theorem ix_zald {a : Nat} {j : Int32} (hd : decode (ix_by m) pc = .ok (.baload, 1)) (ht : ix_tg h a = 101) (hin : vp_in j (ix_ln h a)) (kk : ix_Ev G m (pc + 1) lv (.int (ix_i h a j.toNatClampNeg) :: st) h r h') : ix_Ev G m pc lv (.int j :: .ref a :: st) h r h' := by
  refine ⟨kk.1, fun p l e R s mid args below meth c C H locs cells slots ls hR hS hl hc1 hs1 => ?_⟩
  exact W.zald C.1 C.2.1 (hR.arr (t := 1) (by decide) ht) (ix_isarr C (t := 1) (by decide) h a) (fun q => by cases q) (ix_ain hin) (ix_aread (ix_inlt hin)) rfl rfl hd (kk.2 p l e R s mid args below meth c C H locs cells slots ls hR hS hl hc1 hs1)
theorem ix_bald {a : Nat} {j : Int32} (hd : decode (ix_by m) pc = .ok (.baload, 1)) (ht : ix_tg h a = 102) (hin : vp_in j (ix_ln h a)) (kk : ix_Ev G m (pc + 1) lv (.int (ix_i h a j.toNatClampNeg) :: st) h r h') : ix_Ev G m pc lv (.int j :: .ref a :: st) h r h' := by
  refine ⟨kk.1, fun p l e R s mid args below meth c C H locs cells slots ls hR hS hl hc1 hs1 => ?_⟩
  exact W.bald C.1 C.2.1 (hR.arr (t := 2) (by decide) ht) (ix_isarr C (t := 2) (by decide) h a) (fun q => by cases q) (ix_ain hin) (ix_aread (ix_inlt hin)) rfl rfl hd (kk.2 p l e R s mid args below meth c C H locs cells slots ls hR hS hl hc1 hs1)
theorem ix_lald {a : Nat} {j : Int32} (hd : decode (ix_by m) pc = .ok (.laload, 1)) (ht : ix_tg h a = 103) (hin : vp_in j (ix_ln h a)) (kk : ix_Ev G m (pc + 1) lv (.long (ix_l h a j.toNatClampNeg) :: st) h r h') : ix_Ev G m pc lv (.int j :: .ref a :: st) h r h' := by
  refine ⟨kk.1, fun p l e R s mid args below meth c C H locs cells slots ls hR hS hl hc1 hs1 => ?_⟩
  exact W.lald C.1 C.2.1 (hR.arr (t := 3) (by decide) ht) (ix_isarr C (t := 3) (by decide) h a) (fun q => by cases q) (ix_ain hin) (ix_aread (ix_inlt hin)) rfl rfl hd (kk.2 p l e R s mid args below meth c C H locs cells slots ls hR hS hl hc1 hs1)
theorem ix_aald {a t : Nat} {j : Int32} (hd : decode (ix_by m) pc = .ok (.aaload, 1)) (t8 : t < 8) (hty : (ix_at t).isReference = true) (hkd : ix_kd (ix_at t) = 2) (ht : ix_tg h a = 100 + t ∨ ix_tg h a = 200 + t) (hin : vp_in j (ix_ln h a)) (kk : ix_Ev G m (pc + 1) lv (va_rf (ix_r h a j.toNatClampNeg) :: st) h r h') : ix_Ev G m pc lv (.int j :: .ref a :: st) h r h' := by
  refine ⟨kk.1, fun p l e R s mid args below meth c C H locs cells slots ls hR hS hl hc1 hs1 => ?_⟩
  obtain ⟨cell, g1, g2, g3, g4, g5, g6⟩ := hR.arrL C t8 ht
  have hv := g6 _ (ix_inlt hin)
  rw [hkd] at hv
  exact W.aald C.1 C.2.1 g1 g2 hty g3 (fun z => z.elim (fun q => hin (Or.inl q)) (fun q => hin (Or.inr (Nat.le_trans g4 q)))) hv rfl rfl hd (kk.2 p l e R s mid args below meth c C H locs cells slots ls hR hS hl hc1 hs1)
/-- an array's place is written -/
theorem ix_R.ast {G : ix_G} {h h1 : ix_H} {H H1 : Heap} {a t n : Nat} {v : Value} (hR : ix_R G h H) (t8 : t < 8) (ht : ix_tg h a = 100 + t) (e1 : ix_nx h1 = ix_nx h) (e2 : ∀ b, ix_tg h1 b = ix_tg h b) (e3 : ∀ b, ix_ln h1 b = ix_ln h b) (e4 : ∀ kd b j, b ≠ a ∨ j ≠ n → ix_v h1 kd b j = ix_v h kd b j) (e5 : ix_v h1 (ix_kd (ix_at t)) a n = v)
    (g1 : H1[a]? = some ((ix_arr G h t a).setSlot n v)) (g2 : H1.size = H.size) (g3 : ∀ q : Nat, q ≠ a → H1[q]? = H[q]?) : ix_R G h1 H1 := by
  refine hR.put e1 e2 e3 (fun kd b j hb => e4 kd b j (Or.inl hb)) g2 g3 (fun k hk _ => ?_) (fun t' ht' _ => ?_) (fun t' ht' => ?_)
  · omega
  · have : t' = t := by omega
    subst this
    rw [g1]
    unfold ix_arr
    rw [arrV_store, e3 a]
    congr 2
    funext j
    by_cases e : j = n
    · subst e
      simp only [updV, if_true]
      exact e5.symm
    · simp only [updV, if_neg e]
      exact (e4 _ a j (Or.inr e)).symm
  · omega
theorem ix_iast {a : Nat} {j x : Int32} (hd : decode (ix_by m) pc = .ok (.iastore, 1)) (ht : ix_tg h a = 100) (hin : vp_in j (ix_ln h a)) (kk : ix_Ev G m (pc + 1) lv st (ix_si h a j.toNatClampNeg x) r h') : ix_Ev G m pc lv (.int x :: .int j :: .ref a :: st) h r h' := by
  refine ⟨kk.1, fun p l e R s mid args below meth c C H locs cells slots ls hR hS hl hc1 hs1 => ?_⟩
  refine W.iast C.1 C.2.1 (hR.arr (t := 0) (by decide) ht) (ix_isarr C (t := 0) (by decide) h a) (fun q => by cases q) (ix_ain hin) rfl rfl hd fun H' g1 g2 g3 => ?_
  exact kk.2 p l e R s mid args below meth c C H' _ cells slots ls (hR.ast (t := 0) (n := j.toNatClampNeg) (v := .int x) (by decide) ht rfl (fun _ => rfl) (fun _ => rfl) (fun kd b j' q => ix_v_si kd b j' (q.elim Or.inl (fun q => Or.inr (Or.inl q)))) (by show Value.int _ = _; rw [ix_i_si, if_pos ⟨rfl, rfl⟩]) g1 g2 g3) (hS.put g2 g3 (hR.2.2.2.1 a 0 ht (by decide)).1) hl hc1 hs1
theorem ix_bast {a : Nat} {j x : Int32} (hd : decode (ix_by m) pc = .ok (.bastore, 1)) (ht : ix_tg h a = 102) (hin : vp_in j (ix_ln h a)) (kk : ix_Ev G m (pc + 1) lv st (ix_si h a j.toNatClampNeg x.toInt8.toInt32) r h') : ix_Ev G m pc lv (.int x :: .int j :: .ref a :: st) h r h' := by
  refine ⟨kk.1, fun p l e R s mid args below meth c C H locs cells slots ls hR hS hl hc1 hs1 => ?_⟩
  refine W.bast C.1 C.2.1 (hR.arr (t := 2) (by decide) ht) (ix_isarr C (t := 2) (by decide) h a) (fun q => by cases q) (ix_ain hin) rfl rfl hd fun H' g1 g2 g3 => ?_
  rw [narrow_byte] at g1
  exact kk.2 p l e R s mid args below meth c C H' _ cells slots ls (hR.ast (t := 2) (n := j.toNatClampNeg) (v := .int x.toInt8.toInt32) (by decide) ht rfl (fun _ => rfl) (fun _ => rfl) (fun kd b j' q => ix_v_si kd b j' (q.elim Or.inl (fun q => Or.inr (Or.inl q)))) (by show Value.int _ = _; rw [ix_i_si, if_pos ⟨rfl, rfl⟩]) g1 g2 g3) (hS.put g2 g3 (hR.2.2.2.1 a 2 ht (by decide)).1) hl hc1 hs1
theorem ix_zast {a : Nat} {j x : Int32} (hd : decode (ix_by m) pc = .ok (.bastore, 1)) (ht : ix_tg h a = 101) (hx : x = 0 ∨ x = 1) (hin : vp_in j (ix_ln h a)) (kk : ix_Ev G m (pc + 1) lv st (ix_si h a j.toNatClampNeg x) r h') : ix_Ev G m pc lv (.int x :: .int j :: .ref a :: st) h r h' := by
  refine ⟨kk.1, fun p l e R s mid args below meth c C H locs cells slots ls hR hS hl hc1 hs1 => ?_⟩
  refine W.zast C.1 C.2.1 (hR.arr (t := 1) (by decide) ht) (ix_isarr C (t := 1) (by decide) h a) (fun q => by cases q) (ix_ain hin) rfl rfl hd fun H' g1 g2 g3 => ?_
  have hz : narrow .boolean (.int x) = .int x := by rcases hx with q | q <;> subst q <;> decide +kernel
  rw [hz] at g1
  exact kk.2 p l e R s mid args below meth c C H' _ cells slots ls (hR.ast (t := 1) (n := j.toNatClampNeg) (v := .int x) (by decide) ht rfl (fun _ => rfl) (fun _ => rfl) (fun kd b j' q => ix_v_si kd b j' (q.elim Or.inl (fun q => Or.inr (Or.inl q)))) (by show Value.int _ = _; rw [ix_i_si, if_pos ⟨rfl, rfl⟩]) g1 g2 g3) (hS.put g2 g3 (hR.2.2.2.1 a 1 ht (by decide)).1) hl hc1 hs1
theorem ix_last {a : Nat} {j : Int32} {x : Int64} (hd : decode (ix_by m) pc = .ok (.lastore, 1)) (ht : ix_tg h a = 103) (hin : vp_in j (ix_ln h a)) (kk : ix_Ev G m (pc + 1) lv st (ix_sl h a j.toNatClampNeg x) r h') : ix_Ev G m pc lv (.long x :: .int j :: .ref a :: st) h r h' := by
  refine ⟨kk.1, fun p l e R s mid args below meth c C H locs cells slots ls hR hS hl hc1 hs1 => ?_⟩
  refine W.last C.1 C.2.1 (hR.arr (t := 3) (by decide) ht) (ix_isarr C (t := 3) (by decide) h a) (fun q => by cases q) (ix_ain hin) rfl rfl hd fun H' g1 g2 g3 => ?_
  exact kk.2 p l e R s mid args below meth c C H' _ cells slots ls (hR.ast (t := 3) (n := j.toNatClampNeg) (v := .long x) (by decide) ht rfl (fun _ => rfl) (fun _ => rfl) (fun kd b j' q => ix_v_sl kd b j' (q.elim Or.inl (fun q => Or.inr (Or.inl q)))) (by show Value.long _ = _; rw [ix_l_sl, if_pos ⟨rfl, rfl⟩]) g1 g2 g3) (hS.put g2 g3 (hR.2.2.2.1 a 3 ht (by decide)).1) hl hc1 hs1
end IX3
