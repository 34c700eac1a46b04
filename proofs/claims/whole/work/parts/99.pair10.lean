/-! ===== pairs: year ===== -/
theorem yr_step {s : ST} {L : LD} {y : YS} (h1 : s 27 = y.1) (h2 : s 26 2 = nI y.2.1) (h3 : s 26 3 = y.2.2) (h4 : s 24 = L.hint) (h5 : s 25 = L.road) : yrS 20 26 L.W L.F L.P s 27 = (yr1 L y).1 ∧ yrS 20 26 L.W L.F L.P s 26 2 = nI (yr1 L y).2.1 ∧ yrS 20 26 L.W L.F L.P s 26 3 = (yr1 L y).2.2 := by
  unfold yrS yr1 askS
  rw [h3]
  by_cases c0 : mDr (mX y.2.2) 4 = 0
  · simp only [if_pos c0]
    refine ⟨?_, ?_, ?_⟩
    · have := dayS_told (σ := pt s 26 3 (mX y.2.2)) (a := 20) (b := 26) (P := L.P)
      rw [show (26 + 1 : Nat) = 27 from rfl] at this
      rw [this, pt_r (by omega), pt_r (by omega), h1]
      show mNext (s 25) y.1 L.P = _
      rw [h5]
    · rw [dayS_fr (by omega) (by omega), pt_j (by omega)]; exact h2
    · rw [dayS_fr (by omega) (by omega), pt_s]
  · simp only [if_neg c0]
    by_cases c1 : mDr (mX y.2.2) 4 = 1
    · simp only [if_pos c1]
      refine ⟨?_, pt_s _ _ _ _, ?_⟩
      · rw [pt_r (by omega), pt_r (by omega)]; exact h1
      · rw [pt_j (by omega), pt_s]
    · simp only [if_neg c1]
      by_cases c2 : mDr (mX y.2.2) 4 = 2
      · simp only [if_pos c2]
        refine ⟨?_, ?_, ?_⟩
        · funext q
          show pt (pt s 26 3 (mX (mX (mX y.2.2)))) 27 _ _ 27 q = _
          by_cases e : q = mDr (mX (mX y.2.2)) L.P
          · rw [if_pos e, e, pt_s, pt_a (by omega), pt_a (by omega)]
            show s 27 _ ||| s 24 _ = _
            rw [h1, h4]
          · rw [if_neg e, pt_j e, pt_a (by omega), h1]
        · rw [pt_a (by omega), pt_j (by omega)]; exact h2
        · rw [pt_a (by omega), pt_s]
      · simp only [if_neg c2]
        refine ⟨?_, ?_, ?_⟩
        · funext q
          show pt (pt s 26 3 (mX (mX (mX y.2.2)))) 27 _ _ 27 q = _
          by_cases e : q = mDr (mX (mX y.2.2)) L.P
          · rw [if_pos e, e, pt_s, pt_a (by omega)]
            show s 27 _ ||| _ = _
            rw [h1]; rfl
          · rw [if_neg e, pt_j e, pt_a (by omega), h1]
        · rw [pt_a (by omega), pt_j (by omega)]; exact h2
        · rw [pt_a (by omega), pt_s]
theorem yr_all {L : LD} : ∀ (n : Nat) (s : ST) (y : YS), s 27 = y.1 → s 26 2 = nI y.2.1 → s 26 3 = y.2.2 → s 24 = L.hint → s 25 = L.road → yearS 20 26 L.W L.F L.P n s 27 = (yrN L n y).1 ∧ yearS 20 26 L.W L.F L.P n s 26 2 = nI (yrN L n y).2.1
  | 0, s, y, h1, h2, _, _, _ => ⟨h1, h2⟩
  | n + 1, s, y, h1, h2, h3, h4, h5 => by
    obtain ⟨a1, a2, a3⟩ := yr_step h1 h2 h3 h4 h5
    exact yr_all n _ _ a1 a2 a3 (by rw [← h4]; funext q; exact yrS_fr (by omega) (by omega) (by omega)) (by rw [← h5]; funext q; exact yrS_fr (by omega) (by omega) (by omega))

