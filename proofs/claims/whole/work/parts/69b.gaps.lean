/-! ===== the gaps, as the class finds them ===== -/
theorem gE_p {S : MS} {p a : Nat} : ∀ z e, e < a → a ≤ e + z → S 39 (16 * p + e) = 0 → (∀ q, e ≤ q → q ≤ gE S p a z e → S 39 (16 * p + q) = 0) ∧ ¬ (gE S p a z e + 1 < a ∧ S 39 (16 * p + (gE S p a z e + 1)) = 0) := by
  intro z
  induction z with
  | zero => intro e h1 h2; omega
  | succ z ih =>
    intro e h1 h2 h3
    unfold gE
    split
    · rename_i w
      obtain ⟨i1, i2⟩ := ih (e + 1) w.1 (by omega) w.2
      refine ⟨fun q h4 h5 => ?_, i2⟩
      by_cases eq : q = e
      · subst eq; exact h3
      · exact i1 q (by omega) h5
    · rename_i w
      exact ⟨fun q h4 h5 => by rw [show q = e from by omega]; exact h3, w⟩
/-- the runs: where they begin and end, what lies between -/
theorem gA_p {S : MS} {p a : Nat} (ha : a ≤ 16) (g : Nat) (hp : ∀ i, i < g → gA S p a i < a) : gA S p a g ≤ a ∧ (g = 0 ∨ gB S p a (g - 1) < gA S p a g ∨ gA S p a g = a) ∧ (∀ q, (g = 0 ∨ gB S p a (g - 1) < q) → q < gA S p a g → ¬ S 39 (16 * p + q) = 0) ∧ (gA S p a g < a → S 39 (16 * p + gA S p a g) = 0) := by
  cases g with
  | zero =>
    obtain ⟨h1, h2, h3, h4⟩ := lsN_p (S := S) (p := p) (a := a) 17 0 (by omega) (by omega)
    exact ⟨h1, Or.inl rfl, fun q _ hq => h3 q (by omega) hq, h4⟩
  | succ g =>
    have hg := hp g (by omega)
    have hb := gE_b (S := S) (p := p) 17 _ hg
    obtain ⟨h1, h2, h3, h4⟩ := lsN_p (S := S) (p := p) (a := a) 17 (gE S p a 17 (gA S p a g) + 1) (by omega) (by omega)
    refine ⟨h1, Or.inr (Or.inl ?_), fun q hq hq2 => ?_, h4⟩
    · show gE S p a 17 (gA S p a g) < _
      exact h2
    · rcases hq with w | w
      · omega
      · exact h3 q (by unfold gB at w; rw [Nat.add_sub_cancel] at w; omega) hq2
theorem gB_p {S : MS} {p a : Nat} (ha : a ≤ 16) (g : Nat) (hp : ∀ i, i ≤ g → gA S p a i < a) : gA S p a g ≤ gB S p a g ∧ gB S p a g < a ∧ (∀ q, gA S p a g ≤ q → q ≤ gB S p a g → S 39 (16 * p + q) = 0) ∧ ¬ (gB S p a g + 1 < a ∧ S 39 (16 * p + (gB S p a g + 1)) = 0) := by
  have hg := hp g (by omega)
  have hb := gE_b (S := S) (p := p) 17 _ hg
  have hz := (gA_p (S := S) (p := p) ha g (fun i hi => hp i (by omega))).2.2.2 hg
  obtain ⟨h1, h2⟩ := gE_p (S := S) (p := p) (a := a) 17 (gA S p a g) hg (by omega) hz
  exact ⟨hb.1, hb.2, h1, h2⟩
theorem gB_mono {S : MS} {p a : Nat} (ha : a ≤ 16) : ∀ g i, i < g → (∀ k, k ≤ g → gA S p a k < a) → gB S p a i < gA S p a g ∧ gB S p a i ≤ gB S p a g := by
  intro g
  induction g with
  | zero => intro i h; omega
  | succ g ih =>
    intro i hi hp
    have h1 := gA_p (S := S) (p := p) ha (g + 1) (fun k hk => hp k (by omega))
    have h2 := gB_p (S := S) (p := p) ha (g + 1) hp
    have h3 : gB S p a g < gA S p a (g + 1) := by
      rcases h1.2.1 with w | w | w
      · omega
      · rw [Nat.add_sub_cancel] at w; exact w
      · have := hp (g + 1) (by omega); omega
    by_cases e : i = g
    · subst e; omega
    · have := ih i (by omega) (fun k hk => hp k (by omega))
      omega
/-- the class's round over the segments: gaps that began, segments that are named -/
noncomputable def nkL (m : Int32) : Nat → Nat → Nat → Int32 → Nat × Int32
  | 0, _, g, d => (g, d)
  | z + 1, k, g, d => if 16 ≤ k then (g, d) else
      @ite _ ((rb m k ∧ (k = 0 ∨ ¬ rb m (k - 1))) ∧ g = 3) (Classical.propDecidable _) (g, d)
        (nkL m z (k + 1) (@ite _ (rb m k ∧ (k = 0 ∨ ¬ rb m (k - 1))) (Classical.propDecidable _) (g + 1) g) (@ite _ (rb m k) (Classical.propDecidable _) (d ||| (nI 1 <<< (nI k &&& 31))) d))
theorem nkL_p {S : MS} {p a : Nat} {m : Int32} (ha : a ≤ 16) (hm : ∀ q, q < 32 → (rb m q ↔ q < a ∧ S 39 (16 * p + q) = 0)) : ∀ z k g d, k ≤ 16 → 16 < k + z → g ≤ 3 → (∀ i, i < g → gA S p a i < a ∧ gA S p a i < k) → (∀ q, q < k → rb m q → ∃ i, i < g ∧ gA S p a i ≤ q ∧ q ≤ gB S p a i) → (∀ q, q < 32 → (rb d q ↔ q < k ∧ rb m q)) →
    (nkL m z k g d).1 = gC S p a ∧ ∀ q, q < 32 → (rb (nkL m z k g d).2 q ↔ ∃ i, i < gC S p a ∧ gA S p a i ≤ q ∧ q ≤ gB S p a i) := by
  intro z
  induction z with
  | zero => intro k g d h1 h2; omega
  | succ z ih =>
    intro k g d hk hz hg hA hc hd
    have hAa : ∀ i, i < g → gA S p a i < a := fun i hi => (hA i hi).1
    have cov : ∀ i, i < g → ∀ q, gA S p a i ≤ q → q ≤ gB S p a i → rb m q := by
      intro i hi q h1 h2
      have hb := gB_p (S := S) (p := p) ha i (fun k' hk' => hAa k' (by omega))
      exact (hm q (by omega)).mpr ⟨by omega, hb.2.2.1 q h1 h2⟩
    unfold nkL
    split
    · rename_i w
      have hk16 : k = 16 := by omega
      have key : g = 3 ∨ a ≤ gA S p a g := by
        by_cases g3 : g = 3
        · exact Or.inl g3
        · right
          rcases Nat.lt_or_ge (gA S p a g) a with y | y
          · exfalso
            have hAg := gA_p (S := S) (p := p) ha g hAa
            obtain ⟨i, i1, i2, i3⟩ := hc (gA S p a g) (by omega) ((hm _ (by omega)).mpr ⟨y, hAg.2.2.2 y⟩)
            have := (gB_mono (S := S) (p := p) ha g i i1 (fun k' hk' => by
              by_cases e : k' = g
              · subst e; exact y
              · exact hAa k' (by omega))).1
            omega
          · exact y
      have eC := gC_e g hg hAa key
      refine ⟨eC.symm, fun q hq => ?_⟩
      rw [eC]
      show rb d q ↔ _
      rw [hd q hq]
      constructor
      · rintro ⟨w1, w2⟩
        exact hc q w1 w2
      · rintro ⟨i, w1, w2, w3⟩
        have hb := gB_p (S := S) (p := p) ha i (fun k' hk' => hAa k' (by omega))
        exact ⟨by omega, cov i w1 q w2 w3⟩
    · rename_i w
      -- a run that is there reaches over k, or has ended before it
      have over : ∀ i, i < g → k ≤ gB S p a i → rb m k ∧ ¬ k = 0 ∧ rb m (k - 1) := by
        intro i hi hki
        have := (hA i hi).2
        exact ⟨cov i hi k (by omega) hki, by omega, cov i hi (k - 1) (by omega) (by omega)⟩
      split
      · rename_i br
        obtain ⟨⟨b1, b2⟩, b3⟩ := br
        have eC := gC_e g hg hAa (Or.inl b3)
        refine ⟨eC.symm, fun q hq => ?_⟩
        rw [eC]
        show rb d q ↔ _
        rw [hd q hq]
        constructor
        · rintro ⟨w1, w2⟩
          exact hc q w1 w2
        · rintro ⟨i, w1, w2, w3⟩
          refine ⟨?_, cov i w1 q w2 w3⟩
          rcases Nat.lt_or_ge q k with y | y
          · exact y
          · obtain ⟨-, o2, o3⟩ := over i w1 (by omega)
            rcases b2 with b | b
            · exact absurd b o2
            · exact absurd o3 b
      · rename_i br
        by_cases bg : rb m k ∧ (k = 0 ∨ ¬ rb m (k - 1))
        · have g3 : g < 3 := by
            rcases Nat.lt_or_ge g 3 with y | y
            · exact y
            · exact absurd ⟨bg, by omega⟩ br
          have hkm := (hm k (by omega)).mp bg.1
          have hAg := gA_p (S := S) (p := p) ha g hAa
          have nb : ∀ i, i < g → gB S p a i < k := fun i hi => by
            rcases Nat.lt_or_ge (gB S p a i) k with y | y
            · exact y
            · obtain ⟨-, o2, o3⟩ := over i hi y
              rcases bg.2 with b | b
              · exact absurd b o2
              · exact absurd o3 b
          have eA : gA S p a g = k := by
            rcases Nat.lt_trichotomy (gA S p a g) k with y | y | y
            · exfalso
              have yl : gA S p a g < a := by omega
              obtain ⟨i, i1, i2, i3⟩ := hc (gA S p a g) y ((hm _ (by omega)).mpr ⟨yl, hAg.2.2.2 yl⟩)
              have := (gB_mono (S := S) (p := p) ha g i i1 (fun k' hk' => by
                by_cases e : k' = g
                · subst e; exact yl
                · exact hAa k' (by omega))).1
              omega
            · exact y
            · exfalso
              refine hAg.2.2.1 k ?_ y hkm.2
              by_cases g0 : g = 0
              · exact Or.inl g0
              · exact Or.inr (nb (g - 1) (by omega))
          rw [if_pos bg, if_pos bg.1]
          have hb := gB_p (S := S) (p := p) ha g (fun i hi => by
            by_cases e : i = g
            · subst e; omega
            · exact hAa i (by omega))
          refine ih (k + 1) (g + 1) _ (by omega) (by omega) (by omega) (fun i hi => ?_) (fun q hq hr => ?_) (fun q hq => ?_)
          · by_cases e : i = g
            · subst e; omega
            · have := hA i (by omega); omega
          · by_cases e : q = k
            · subst e; exact ⟨g, by omega, by omega, by omega⟩
            · obtain ⟨i, i1, i2, i3⟩ := hc q (by omega) hr
              exact ⟨i, by omega, i2, i3⟩
          · rw [rb_or hq, hd q hq, rb_bit (by omega) hq]
            constructor
            · rintro (⟨y1, y2⟩ | y)
              · exact ⟨by omega, y2⟩
              · subst y; exact ⟨by omega, bg.1⟩
            · rintro ⟨y1, y2⟩
              by_cases e : q = k
              · exact Or.inr e
              · exact Or.inl ⟨by omega, y2⟩
        · rw [if_neg bg]
          by_cases lk : rb m k
          · have hk0 : ¬ k = 0 := fun e => bg ⟨lk, Or.inl e⟩
            have hk1 : rb m (k - 1) := Classical.byContradiction fun y => bg ⟨lk, Or.inr y⟩
            have hkm := (hm k (by omega)).mp lk
            obtain ⟨i, i1, i2, i3⟩ := hc (k - 1) (by omega) hk1
            have hb := gB_p (S := S) (p := p) ha i (fun k' hk' => hAa k' (by omega))
            have hki : k ≤ gB S p a i := by
              rcases Nat.lt_or_ge (gB S p a i) k with y | y
              · exfalso
                have e : gB S p a i + 1 = k := by omega
                exact hb.2.2.2 ⟨by omega, by rw [e]; exact hkm.2⟩
              · exact y
            rw [if_pos lk]
            refine ih (k + 1) g _ (by omega) (by omega) hg (fun j hj => ?_) (fun q hq hr => ?_) (fun q hq => ?_)
            · have := hA j hj; omega
            · by_cases e : q = k
              · subst e; exact ⟨i, i1, by omega, hki⟩
              · exact hc q (by omega) hr
            · rw [rb_or hq, hd q hq, rb_bit (by omega) hq]
              constructor
              · rintro (⟨y1, y2⟩ | y)
                · exact ⟨by omega, y2⟩
                · subst y; exact ⟨by omega, lk⟩
              · rintro ⟨y1, y2⟩
                by_cases e : q = k
                · exact Or.inr e
                · exact Or.inl ⟨by omega, y2⟩
          · rw [if_neg lk]
            refine ih (k + 1) g d (by omega) (by omega) hg (fun j hj => ?_) (fun q hq hr => ?_) (fun q hq => ?_)
            · have := hA j hj; omega
            · by_cases e : q = k
              · subst e; exact absurd hr lk
              · exact hc q (by omega) hr
            · rw [hd q hq]
              constructor
              · rintro ⟨y1, y2⟩; exact ⟨by omega, y2⟩
              · rintro ⟨y1, y2⟩
                by_cases e : q = k
                · subst e; exact absurd y2 lk
                · exact ⟨by omega, y2⟩
theorem nkL_all {S : MS} {p a : Nat} {m : Int32} (ha : a ≤ 16) (hm : ∀ q, q < 32 → (rb m q ↔ q < a ∧ S 39 (16 * p + q) = 0)) : (nkL m 17 0 0 0).1 = gC S p a ∧ ∀ q, q < 32 → (rb (nkL m 17 0 0 0).2 q ↔ ∃ i, i < gC S p a ∧ gA S p a i ≤ q ∧ q ≤ gB S p a i) :=
  nkL_p ha hm 17 0 0 0 (by omega) (by omega) (by omega) (fun i hi => by omega) (fun q hq => by omega) (fun q hq => ⟨fun z => absurd z (rb_0 hq), fun z => by omega⟩)
