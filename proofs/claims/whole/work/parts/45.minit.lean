/-- the reference under construction: q arrays lie there, w slots are used -/
def mI0 (o : Nat) (h0 h : ix_H) (q w : Nat) : Prop := ix_nx h = o + 1 + q ∧ ix_us h = ix_us h0 + w ∧ ix_tg h o = 9 ∧ (∀ k, mIs k = true → mA o k < o + 1 + q → ix_r h o k = some (mA o k) ∧ ix_tg h (mA o k) = 100 + mK k ∧ ix_ln h (mA o k) = mL k ∧ ∀ j, ix_i h (mA o k) j = 0) ∧ (∀ j, ix_i h o j = 0) ∧ ∀ b, b < o → ix_tg h b = ix_tg h0 b ∧ ix_ln h b = ix_ln h0 b ∧ (∀ j, ix_i h b j = ix_i h0 b j) ∧ (∀ j, ix_l h b j = ix_l h0 b j) ∧ ∀ j, ix_r h b j = ix_r h0 b j
theorem mI0_s {o q w k : Nat} {h0 h : ix_H} (I : mI0 o h0 h q w) (hk : mIs k = true) (hq : mA o k = o + 1 + q) : mI0 o h0 (ix_sr (ix_nw h (100 + mK k) (mL k) (mL k)) o k (some (ix_nx h))) (q + 1) (w + mL k) := by
  obtain ⟨a1, a2, a3, a4, a5, a6⟩ := I
  refine ⟨?_, ?_, ?_, ?_, ?_, ?_⟩
  · show ix_nx h + 1 = _
    omega
  · show ix_us h + mL k = _
    omega
  · show ix_tg (ix_nw h (100 + mK k) (mL k) (mL k)) o = 9
    rw [ix_tg_nw, if_neg (by omega)]
    exact a3
  · intro k' hk' hl
    show (if o = o ∧ k' = k then some (ix_nx h) else ix_r (ix_nw h (100 + mK k) (mL k) (mL k)) o k') = _ ∧ ix_tg (ix_nw h (100 + mK k) (mL k) (mL k)) (mA o k') = _ ∧ ix_ln (ix_nw h (100 + mK k) (mL k) (mL k)) (mA o k') = _ ∧ ∀ j, ix_i (ix_nw h (100 + mK k) (mL k) (mL k)) (mA o k') j = 0
    by_cases e : k' = k
    · subst e
      rw [if_pos ⟨rfl, rfl⟩, ix_tg_nw, ix_ln_nw, if_pos (by omega), if_pos (by omega)]
      refine ⟨by rw [a1, hq], rfl, rfl, fun j => ?_⟩
      rw [ix_i_nw, if_pos (by omega)]
    · have hne : ¬ mA o k' = o + 1 + q := fun z => e (mA_inj hk' hk (z.trans hq.symm))
      obtain ⟨b1, b2, b3, b4⟩ := a4 k' hk' (by omega)
      rw [if_neg (fun z => e z.2), ix_r_nw, if_neg (by omega), ix_tg_nw, ix_ln_nw, if_neg (by omega), if_neg (by omega)]
      refine ⟨b1, b2, b3, fun j => ?_⟩
      rw [ix_i_nw, if_neg (by omega)]
      exact b4 j
  · intro j
    show ix_i (ix_nw h (100 + mK k) (mL k) (mL k)) o j = 0
    rw [ix_i_nw, if_neg (by omega)]
    exact a5 j
  · intro b hb
    obtain ⟨b1, b2, b3, b4, b5⟩ := a6 b hb
    show ix_tg (ix_nw h (100 + mK k) (mL k) (mL k)) b = _ ∧ ix_ln (ix_nw h (100 + mK k) (mL k) (mL k)) b = _ ∧ (∀ j, ix_i (ix_nw h (100 + mK k) (mL k) (mL k)) b j = _) ∧ (∀ j, ix_l (ix_nw h (100 + mK k) (mL k) (mL k)) b j = _) ∧ ∀ j, (if b = o ∧ j = k then some (ix_nx h) else ix_r (ix_nw h (100 + mK k) (mL k) (mL k)) b j) = _
    refine ⟨?_, ?_, fun j => ?_, fun j => ?_, fun j => ?_⟩
    · rw [ix_tg_nw, if_neg (by omega)]; exact b1
    · rw [ix_ln_nw, if_neg (by omega)]; exact b2
    · rw [ix_i_nw, if_neg (by omega)]; exact b3 j
    · rw [ix_l_nw, if_neg (by omega)]; exact b4 j
    · rw [if_neg (fun z => by omega), ix_r_nw, if_neg (by omega)]; exact b5 j
theorem mI_arr {G : ix_G} {m pc q w k i o : Nat} {lv : List (Nat × Value)} {st : List Value} {h0 h : ix_H} {P : ix_O → ix_H → Prop} {at_ : ArrayType} {n : Int32} (I : mI0 o h0 h q w) (hd1 : decode (ix_by m) pc = .ok (.newarray at_, 2)) (hd2 : decode (ix_by m) (pc + 2) = .ok (.putfield i, 3)) (hA : ix_AK (mK k) at_) (hF : ix_FL (ix_own m) i 8 k 2)
    (hfin : (ix_cT 8 k).2.2.2 = false ∨ ((ix_y m).name = "<init>" ∧ (ix_cT 8 k).1 = ix_own m ∧ (ix_cT 8 k).2.2.2 = true)) (hk : mIs k = true) (hq : mA o k = o + 1 + q) (hn : n = nI (mL k)) (hN : mL k ≤ 100000) (hnw : ∀ b : Nat, narrow (ix_ty 8 k) (.ref b) = .ref b) (hft : ∀ b : Nat, fits (ix_ty 8 k) (.ref b) = true)
    (kk : ∀ h1, mI0 o h0 h1 (q + 1) (w + mL k) → ix_E G m (pc + 2 + 3) lv st h1 P) : ix_E G m pc lv (.int n :: .ref o :: st) h P := by
  refine ie_newa hd1 hA hn hN ?_
  refine ie_putr (k := 8) hd2 hF hfin ?_ (hnw _) (hft _) (kk _ (mI0_s I hk hq))
  show ix_tg (ix_nw h (100 + mK k) (mL k) (mL k)) o = 9
  rw [ix_tg_nw, if_neg (by have := I.1; omega)]
  exact I.2.2.1
theorem mI0_w {o q w w' : Nat} {h0 h : ix_H} (I : mI0 o h0 h q w) (e : w = w') : mI0 o h0 h q w' := e ▸ I
set_option maxRecDepth 100000 in
set_option maxHeartbeats 4000000 in
/-- the constructor: before the last putfield the numbers are all 0, and 43 arrays lie behind the object -/
theorem s114 {G : ix_G} {h : ix_H} {o : Nat} (hnx : ix_nx h = o + 1) (ht : ix_tg h o = 9) (hz : ∀ j, ix_i h o j = 0) (x : Int32) : ix_E G 114 0 (lv_args 0 [.ref o, .int x]) [] h (fun rv h' => rv = none ∧ ∃ h1, mI0 o h h1 43 12875 ∧ h' = ix_si h1 o 0 (nI 4 + (x &&& nI 7))) := by
  have I : mI0 o h h 0 0 := ⟨hnx, rfl, ht, fun k hk hl => absurd hl (by have := mA_in (m := o) hk; omega), hz, fun b _ => ⟨rfl, rfl, fun _ => rfl, fun _ => rfl, fun _ => rfl⟩⟩
  refine ie_aload_n d114_0 rfl ?_
  refine ie_objI d114_1 oi17_1 oi_I oi_C (by decide) (Nat.le_of_ble_eq_true rfl) ?_
  refine ie_aload_n d114_4 rfl ?_
  refine ie_bipush (nI 12) d114_5 (by decide) ?_
  refine mI_arr (k := 4) I d114_7 d114_9 ⟨by decide, rfl⟩ fl17_7 (Or.inr ⟨rfl, rfl, rfl⟩) rfl (by simp [mA]) rfl (by decide) (fun _ => rfl) (fun _ => rfl) (fun h I => ?_)
  refine ie_aload_n d114_12 rfl ?_
  refine ie_bipush (nI 12) d114_13 (by decide) ?_
  refine mI_arr (k := 5) I d114_15 d114_17 ⟨by decide, rfl⟩ fl17_13 (Or.inr ⟨rfl, rfl, rfl⟩) rfl (by simp [mA]) rfl (by decide) (fun _ => rfl) (fun _ => rfl) (fun h I => ?_)
  refine ie_aload_n d114_20 rfl ?_
  refine ie_sipush (nI 768) d114_21 (by decide) ?_
  refine mI_arr (k := 6) I d114_24 d114_26 ⟨by decide, rfl⟩ fl17_17 (Or.inr ⟨rfl, rfl, rfl⟩) rfl (by simp [mA]) rfl (by decide) (fun _ => rfl) (fun _ => rfl) (fun h I => ?_)
  refine ie_aload_n d114_29 rfl ?_
  refine ie_iconst (nI 2) d114_30 (by decide) ?_
  refine mI_arr (k := 7) I d114_31 d114_33 ⟨by decide, rfl⟩ fl17_20 (Or.inr ⟨rfl, rfl, rfl⟩) rfl (by simp [mA]) rfl (by decide) (fun _ => rfl) (fun _ => rfl) (fun h I => ?_)
  refine ie_aload_n d114_36 rfl ?_
  refine ie_sipush (nI 640) d114_37 (by decide) ?_
  refine mI_arr (k := 8) I d114_40 d114_42 ⟨by decide, rfl⟩ fl17_23 (Or.inr ⟨rfl, rfl, rfl⟩) rfl (by simp [mA]) rfl (by decide) (fun _ => rfl) (fun _ => rfl) (fun h I => ?_)
  refine ie_aload_n d114_45 rfl ?_
  refine ie_sipush (nI 640) d114_46 (by decide) ?_
  refine mI_arr (k := 9) I d114_49 d114_51 ⟨by decide, rfl⟩ fl17_26 (Or.inr ⟨rfl, rfl, rfl⟩) rfl (by simp [mA]) rfl (by decide) (fun _ => rfl) (fun _ => rfl) (fun h I => ?_)
  refine ie_aload_n d114_54 rfl ?_
  refine ie_sipush (nI 640) d114_55 (by decide) ?_
  refine mI_arr (k := 10) I d114_58 d114_60 ⟨by decide, rfl⟩ fl17_29 (Or.inr ⟨rfl, rfl, rfl⟩) rfl (by simp [mA]) rfl (by decide) (fun _ => rfl) (fun _ => rfl) (fun h I => ?_)
  refine ie_aload_n d114_63 rfl ?_
  refine ie_sipush (nI 640) d114_64 (by decide) ?_
  refine mI_arr (k := 11) I d114_67 d114_69 ⟨by decide, rfl⟩ fl17_32 (Or.inr ⟨rfl, rfl, rfl⟩) rfl (by simp [mA]) rfl (by decide) (fun _ => rfl) (fun _ => rfl) (fun h I => ?_)
  refine ie_aload_n d114_72 rfl ?_
  refine ie_sipush (nI 640) d114_73 (by decide) ?_
  refine mI_arr (k := 12) I d114_76 d114_78 ⟨by decide, rfl⟩ fl17_35 (Or.inr ⟨rfl, rfl, rfl⟩) rfl (by simp [mA]) rfl (by decide) (fun _ => rfl) (fun _ => rfl) (fun h I => ?_)
  refine ie_aload_n d114_81 rfl ?_
  refine ie_sipush (nI 640) d114_82 (by decide) ?_
  refine mI_arr (k := 13) I d114_85 d114_87 ⟨by decide, rfl⟩ fl17_38 (Or.inr ⟨rfl, rfl, rfl⟩) rfl (by simp [mA]) rfl (by decide) (fun _ => rfl) (fun _ => rfl) (fun h I => ?_)
  refine ie_aload_n d114_90 rfl ?_
  refine ie_sipush (nI 640) d114_91 (by decide) ?_
  refine mI_arr (k := 14) I d114_94 d114_96 ⟨by decide, rfl⟩ fl17_41 (Or.inr ⟨rfl, rfl, rfl⟩) rfl (by simp [mA]) rfl (by decide) (fun _ => rfl) (fun _ => rfl) (fun h I => ?_)
  refine ie_aload_n d114_99 rfl ?_
  refine ie_sipush (nI 640) d114_100 (by decide) ?_
  refine mI_arr (k := 15) I d114_103 d114_105 ⟨by decide, rfl⟩ fl17_44 (Or.inr ⟨rfl, rfl, rfl⟩) rfl (by simp [mA]) rfl (by decide) (fun _ => rfl) (fun _ => rfl) (fun h I => ?_)
  refine ie_aload_n d114_108 rfl ?_
  refine ie_sipush (nI 640) d114_109 (by decide) ?_
  refine mI_arr (k := 16) I d114_112 d114_114 ⟨by decide, rfl⟩ fl17_47 (Or.inr ⟨rfl, rfl, rfl⟩) rfl (by simp [mA]) rfl (by decide) (fun _ => rfl) (fun _ => rfl) (fun h I => ?_)
  refine ie_aload_n d114_117 rfl ?_
  refine ie_sipush (nI 640) d114_118 (by decide) ?_
  refine mI_arr (k := 17) I d114_121 d114_123 ⟨by decide, rfl⟩ fl17_50 (Or.inr ⟨rfl, rfl, rfl⟩) rfl (by simp [mA]) rfl (by decide) (fun _ => rfl) (fun _ => rfl) (fun h I => ?_)
  refine ie_aload_n d114_126 rfl ?_
  refine ie_sipush (nI 640) d114_127 (by decide) ?_
  refine mI_arr (k := 18) I d114_130 d114_132 ⟨by decide, rfl⟩ fl17_53 (Or.inr ⟨rfl, rfl, rfl⟩) rfl (by simp [mA]) rfl (by decide) (fun _ => rfl) (fun _ => rfl) (fun h I => ?_)
  refine ie_aload_n d114_135 rfl ?_
  refine ie_sipush (nI 640) d114_136 (by decide) ?_
  refine mI_arr (k := 19) I d114_139 d114_141 ⟨by decide, rfl⟩ fl17_56 (Or.inr ⟨rfl, rfl, rfl⟩) rfl (by simp [mA]) rfl (by decide) (fun _ => rfl) (fun _ => rfl) (fun h I => ?_)
  refine ie_aload_n d114_144 rfl ?_
  refine ie_sipush (nI 640) d114_145 (by decide) ?_
  refine mI_arr (k := 20) I d114_148 d114_150 ⟨by decide, rfl⟩ fl17_59 (Or.inr ⟨rfl, rfl, rfl⟩) rfl (by simp [mA]) rfl (by decide) (fun _ => rfl) (fun _ => rfl) (fun h I => ?_)
  refine ie_aload_n d114_153 rfl ?_
  refine ie_sipush (nI 640) d114_154 (by decide) ?_
  refine mI_arr (k := 21) I d114_157 d114_159 ⟨by decide, rfl⟩ fl17_62 (Or.inr ⟨rfl, rfl, rfl⟩) rfl (by simp [mA]) rfl (by decide) (fun _ => rfl) (fun _ => rfl) (fun h I => ?_)
  refine ie_aload_n d114_162 rfl ?_
  refine ie_sipush (nI 640) d114_163 (by decide) ?_
  refine mI_arr (k := 22) I d114_166 d114_168 ⟨by decide, rfl⟩ fl17_65 (Or.inr ⟨rfl, rfl, rfl⟩) rfl (by simp [mA]) rfl (by decide) (fun _ => rfl) (fun _ => rfl) (fun h I => ?_)
  refine ie_aload_n d114_171 rfl ?_
  refine ie_sipush (nI 640) d114_172 (by decide) ?_
  refine mI_arr (k := 23) I d114_175 d114_177 ⟨by decide, rfl⟩ fl17_68 (Or.inr ⟨rfl, rfl, rfl⟩) rfl (by simp [mA]) rfl (by decide) (fun _ => rfl) (fun _ => rfl) (fun h I => ?_)
  refine ie_aload_n d114_180 rfl ?_
  refine ie_sipush (nI 640) d114_181 (by decide) ?_
  refine mI_arr (k := 24) I d114_184 d114_186 ⟨by decide, rfl⟩ fl17_71 (Or.inr ⟨rfl, rfl, rfl⟩) rfl (by simp [mA]) rfl (by decide) (fun _ => rfl) (fun _ => rfl) (fun h I => ?_)
  refine ie_aload_n d114_189 rfl ?_
  refine ie_sipush (nI 640) d114_190 (by decide) ?_
  refine mI_arr (k := 25) I d114_193 d114_195 ⟨by decide, rfl⟩ fl17_74 (Or.inr ⟨rfl, rfl, rfl⟩) rfl (by simp [mA]) rfl (by decide) (fun _ => rfl) (fun _ => rfl) (fun h I => ?_)
  refine ie_aload_n d114_198 rfl ?_
  refine ie_bipush (nI 6) d114_199 (by decide) ?_
  refine mI_arr (k := 26) I d114_201 d114_203 ⟨by decide, rfl⟩ fl17_77 (Or.inr ⟨rfl, rfl, rfl⟩) rfl (by simp [mA]) rfl (by decide) (fun _ => rfl) (fun _ => rfl) (fun h I => ?_)
  refine ie_aload_n d114_206 rfl ?_
  refine ie_bipush (nI 6) d114_207 (by decide) ?_
  refine mI_arr (k := 27) I d114_209 d114_211 ⟨by decide, rfl⟩ fl17_80 (Or.inr ⟨rfl, rfl, rfl⟩) rfl (by simp [mA]) rfl (by decide) (fun _ => rfl) (fun _ => rfl) (fun h I => ?_)
  refine ie_aload_n d114_214 rfl ?_
  refine ie_bipush (nI 6) d114_215 (by decide) ?_
  refine mI_arr (k := 28) I d114_217 d114_219 ⟨by decide, rfl⟩ fl17_83 (Or.inr ⟨rfl, rfl, rfl⟩) rfl (by simp [mA]) rfl (by decide) (fun _ => rfl) (fun _ => rfl) (fun h I => ?_)
  refine ie_aload_n d114_222 rfl ?_
  refine ie_bipush (nI 6) d114_223 (by decide) ?_
  refine mI_arr (k := 29) I d114_225 d114_227 ⟨by decide, rfl⟩ fl17_86 (Or.inr ⟨rfl, rfl, rfl⟩) rfl (by simp [mA]) rfl (by decide) (fun _ => rfl) (fun _ => rfl) (fun h I => ?_)
  refine ie_aload_n d114_230 rfl ?_
  refine ie_bipush (nI 6) d114_231 (by decide) ?_
  refine mI_arr (k := 30) I d114_233 d114_235 ⟨by decide, rfl⟩ fl17_89 (Or.inr ⟨rfl, rfl, rfl⟩) rfl (by simp [mA]) rfl (by decide) (fun _ => rfl) (fun _ => rfl) (fun h I => ?_)
  refine ie_aload_n d114_238 rfl ?_
  refine ie_bipush (nI 6) d114_239 (by decide) ?_
  refine mI_arr (k := 31) I d114_241 d114_243 ⟨by decide, rfl⟩ fl17_92 (Or.inr ⟨rfl, rfl, rfl⟩) rfl (by simp [mA]) rfl (by decide) (fun _ => rfl) (fun _ => rfl) (fun h I => ?_)
  refine ie_aload_n d114_246 rfl ?_
  refine ie_bipush (nI 6) d114_247 (by decide) ?_
  refine mI_arr (k := 32) I d114_249 d114_251 ⟨by decide, rfl⟩ fl17_95 (Or.inr ⟨rfl, rfl, rfl⟩) rfl (by simp [mA]) rfl (by decide) (fun _ => rfl) (fun _ => rfl) (fun h I => ?_)
  refine ie_aload_n d114_254 rfl ?_
  refine ie_bipush (nI 6) d114_255 (by decide) ?_
  refine mI_arr (k := 33) I d114_257 d114_259 ⟨by decide, rfl⟩ fl17_98 (Or.inr ⟨rfl, rfl, rfl⟩) rfl (by simp [mA]) rfl (by decide) (fun _ => rfl) (fun _ => rfl) (fun h I => ?_)
  refine ie_aload_n d114_262 rfl ?_
  refine ie_bipush (nI 6) d114_263 (by decide) ?_
  refine mI_arr (k := 34) I d114_265 d114_267 ⟨by decide, rfl⟩ fl17_101 (Or.inr ⟨rfl, rfl, rfl⟩) rfl (by simp [mA]) rfl (by decide) (fun _ => rfl) (fun _ => rfl) (fun h I => ?_)
  refine ie_aload_n d114_270 rfl ?_
  refine ie_bipush (nI 6) d114_271 (by decide) ?_
  refine mI_arr (k := 35) I d114_273 d114_275 ⟨by decide, rfl⟩ fl17_104 (Or.inr ⟨rfl, rfl, rfl⟩) rfl (by simp [mA]) rfl (by decide) (fun _ => rfl) (fun _ => rfl) (fun h I => ?_)
  refine ie_aload_n d114_278 rfl ?_
  refine ie_bipush (nI 6) d114_279 (by decide) ?_
  refine mI_arr (k := 36) I d114_281 d114_283 ⟨by decide, rfl⟩ fl17_107 (Or.inr ⟨rfl, rfl, rfl⟩) rfl (by simp [mA]) rfl (by decide) (fun _ => rfl) (fun _ => rfl) (fun h I => ?_)
  refine ie_aload_n d114_286 rfl ?_
  refine ie_bipush (nI 6) d114_287 (by decide) ?_
  refine mI_arr (k := 37) I d114_289 d114_291 ⟨by decide, rfl⟩ fl17_110 (Or.inr ⟨rfl, rfl, rfl⟩) rfl (by simp [mA]) rfl (by decide) (fun _ => rfl) (fun _ => rfl) (fun h I => ?_)
  refine ie_aload_n d114_294 rfl ?_
  refine ie_bipush (nI 96) d114_295 (by decide) ?_
  refine mI_arr (k := 38) I d114_297 d114_299 ⟨by decide, rfl⟩ fl17_113 (Or.inr ⟨rfl, rfl, rfl⟩) rfl (by simp [mA]) rfl (by decide) (fun _ => rfl) (fun _ => rfl) (fun h I => ?_)
  refine ie_aload_n d114_302 rfl ?_
  refine ie_bipush (nI 96) d114_303 (by decide) ?_
  refine mI_arr (k := 39) I d114_305 d114_307 ⟨by decide, rfl⟩ fl17_116 (Or.inr ⟨rfl, rfl, rfl⟩) rfl (by simp [mA]) rfl (by decide) (fun _ => rfl) (fun _ => rfl) (fun h I => ?_)
  refine ie_aload_n d114_310 rfl ?_
  refine ie_bipush (nI 6) d114_311 (by decide) ?_
  refine mI_arr (k := 40) I d114_313 d114_315 ⟨by decide, rfl⟩ fl17_119 (Or.inr ⟨rfl, rfl, rfl⟩) rfl (by simp [mA]) rfl (by decide) (fun _ => rfl) (fun _ => rfl) (fun h I => ?_)
  refine ie_aload_n d114_318 rfl ?_
  refine ie_bipush (nI 6) d114_319 (by decide) ?_
  refine mI_arr (k := 41) I d114_321 d114_323 ⟨by decide, rfl⟩ fl17_122 (Or.inr ⟨rfl, rfl, rfl⟩) rfl (by simp [mA]) rfl (by decide) (fun _ => rfl) (fun _ => rfl) (fun h I => ?_)
  refine ie_aload_n d114_326 rfl ?_
  refine ie_iconst (nI 2) d114_327 (by decide) ?_
  refine mI_arr (k := 42) I d114_328 d114_330 ⟨by decide, rfl⟩ fl17_125 (Or.inr ⟨rfl, rfl, rfl⟩) rfl (by simp [mA]) rfl (by decide) (fun _ => rfl) (fun _ => rfl) (fun h I => ?_)
  refine ie_aload_n d114_333 rfl ?_
  refine ie_iconst (nI 2) d114_334 (by decide) ?_
  refine mI_arr (k := 43) I d114_335 d114_337 ⟨by decide, rfl⟩ fl17_128 (Or.inr ⟨rfl, rfl, rfl⟩) rfl (by simp [mA]) rfl (by decide) (fun _ => rfl) (fun _ => rfl) (fun h I => ?_)
  refine ie_aload_n d114_340 rfl ?_
  refine ie_sipush (nI 264) d114_341 (by decide) ?_
  refine mI_arr (k := 45) I d114_344 d114_346 ⟨by decide, rfl⟩ fl17_131 (Or.inr ⟨rfl, rfl, rfl⟩) rfl (by simp [mA]) rfl (by decide) (fun _ => rfl) (fun _ => rfl) (fun h I => ?_)
  refine ie_aload_n d114_349 rfl ?_
  refine ie_bipush (nI 11) d114_350 (by decide) ?_
  refine mI_arr (k := 46) I d114_352 d114_354 ⟨by decide, rfl⟩ fl17_134 (Or.inr ⟨rfl, rfl, rfl⟩) rfl (by simp [mA]) rfl (by decide) (fun _ => rfl) (fun _ => rfl) (fun h I => ?_)
  refine ie_aload_n d114_357 rfl ?_
  refine ie_bipush (nI 6) d114_358 (by decide) ?_
  refine mI_arr (k := 47) I d114_360 d114_362 ⟨by decide, rfl⟩ fl17_137 (Or.inr ⟨rfl, rfl, rfl⟩) rfl (by simp [mA]) rfl (by decide) (fun _ => rfl) (fun _ => rfl) (fun h I => ?_)
  refine ie_aload_n d114_365 rfl ?_
  refine ie_iconst (nI 4) d114_366 (by decide) ?_
  refine ie_iload_n d114_367 rfl ?_
  refine ie_bipush (nI 7) d114_368 (by decide) ?_
  refine ie_iand d114_370 ?_
  refine ie_iadd d114_371 ?_
  refine ie_puti (k := 8) d114_372 fl17_140 (Or.inr ⟨rfl, rfl, rfl⟩) I.2.2.1 rfl rfl ?_
  exact ie_vret d114_375 rfl ⟨rfl, _, mI0_w I (by decide), rfl⟩
/-- so it is a reference whose numbers are 0, its span aside -/
theorem mI0_ok {o w : Nat} {h0 h1 : ix_H} (I : mI0 o h0 h1 43 w) (y : Int32) : md_ok (ix_si h1 o 0 y) o ∧ ms (ix_si h1 o 0 y) o = mset (fun _ _ => 0) 0 0 y := by
  obtain ⟨-, -, a3, a4, a5, -⟩ := I
  refine ⟨⟨a3, fun k hk => ?_⟩, ?_⟩
  · obtain ⟨b1, b2, b3, -⟩ := a4 k hk (by have := (mA_in (m := o) hk).2; omega)
    exact ⟨b1, b2, b3⟩
  · rw [ms_setF (j := 0) rfl]
    congr 1
    funext k j
    unfold ms
    by_cases hk : mIs k = true
    · rw [if_pos hk]
      exact (a4 k hk (by have := (mA_in (m := o) hk).2; omega)).2.2.2 j
    · rw [if_neg hk]
      exact a5 k
