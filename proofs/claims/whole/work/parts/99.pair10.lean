/-! ===== pairs: year ===== -/
theorem yr_step {s : ST} {L : LD} {y : YS} (h1 : s 27 = y.1) (h2 : s 26 2 = nI y.2.1) (h3 : s 26 3 = y.2.2) (h4 : s 24 = L.hint) (h5 : s 25 = L.road) : yrS 20 26 L.W L.F L.P s 27 = (yr1 L y).1 ∧ yrS 20 26 L.W L.F L.P s 26 2 = nI (yr1 L y).2.1 ∧ yrS 20 26 L.W L.F L.P s 26 3 = (yr1 L y).2.2 := by
  unfold yrS yr1 askS
  rw [h3]
  by_cases c0 : mDr (mX y.2.2) 4 = 0
  · simp only [if_pos c0]
    refine ⟨?_, ?_, ?_⟩
    · have := dayS_told (σ := pt s 26 3 (mX y.2.2)) (a := 20) (b := 26) (P := L.P)
      rw [show (26 + 1 : Nat) = 27 from rfl] at this
      rw [this, pt_r (by omega), pt_r (by omega), h1]
      show mNext (s 25) y.1 L.P = _
      rw [h5]
    · rw [dayS_fr (by omega) (by omega), pt_j (by omega)]; exact h2
    · rw [dayS_fr (by omega) (by omega), pt_s]
  · simp only [if_neg c0]
    by_cases c1 : mDr (mX y.2.2) 4 = 1
    · simp only [if_pos c1]
      refine ⟨?_, pt_s _ _ _ _, ?_⟩
      · rw [pt_r (by omega), pt_r (by omega)]; exact h1
      · rw [pt_j (by omega), pt_s]
    · simp only [if_neg c1]
      by_cases c2 : mDr (mX y.2.2) 4 = 2
      · simp only [if_pos c2]
        refine ⟨?_, ?_, ?_⟩
        · funext q
          show pt (pt s 26 3 (mX (mX (mX y.2.2)))) 27 _ _ 27 q = _
          by_cases e : q = mDr (mX (mX y.2.2)) L.P
          · rw [if_pos e, e, pt_s, pt_a (by omega), pt_a (by omega)]
            show s 27 _ ||| s 24 _ = _
            rw [h1, h4]
          · rw [if_neg e, pt_j e, pt_a (by omega), h1]
        · rw [pt_a (by omega), pt_j (by omega)]; exact h2
        · rw [pt_a (by omega), pt_s]
      · simp only [if_neg c2]
        refine ⟨?_, ?_, ?_⟩
        · funext q
          show pt (pt s 26 3 (mX (mX (mX y.2.2)))) 27 _ _ 27 q = _
          by_cases e : q = mDr (mX (mX y.2.2)) L.P
          · rw [if_pos e, e, pt_s, pt_a (by omega)]
            show s 27 _ ||| _ = _
            rw [h1]; rfl
          · rw [if_neg e, pt_j e, pt_a (by omega), h1]
        · rw [pt_a (by omega), pt_j (by omega)]; exact h2
        · rw [pt_a (by omega), pt_s]
theorem yr_all {L : LD} : ∀ (n : Nat) (s : ST) (y : YS), s 27 = y.1 → s 26 2 = nI y.2.1 → s 26 3 = y.2.2 → s 24 = L.hint → s 25 = L.road → yearS 20 26 L.W L.F L.P n s 27 = (yrN L n y).1 ∧ yearS 20 26 L.W L.F L.P n s 26 2 = nI (yrN L n y).2.1
  | 0, s, y, h1, h2, _, _, _ => ⟨h1, h2⟩
  | n + 1, s, y, h1, h2, h3, h4, h5 => by
    obtain ⟨a1, a2, a3⟩ := yr_step h1 h2 h3 h4 h5
    exact yr_all n _ _ a1 a2 a3 (by rw [← h4]; funext q; exact yrS_fr (by omega) (by omega) (by omega)) (by rw [← h5]; funext q; exact yrS_fr (by omega) (by omega) (by omega))
theorem p_year {G : GT} {d : Nat} {σ : ST} {μ : SL} {N : Nat} {seed x : Int32} (hI : INV σ μ N) : Pair G (d + 40) mX11_year mX12_year [.int seed, .int x] σ μ N := by
  obtain ⟨W, F, P, t, sz, T, k, R, h0, hB, hP, hT, hF, hR, hM, hk, hTI⟩ := id hI
  have hc := c_X_year (G := G) (d := d + 36) (μ := μ) (seed := seed) (n := x) hB.x hP.1
  have hm0 := m_X_year (G := G) (d := d + 34) (μ := μ) (seed := seed) (n := x) (hB.m h0) hB.h.1 hP.2.1 hP.1.2
  have hK := hB.h.1
  have hw16 : W ≤ 16 := hK.2.2.2.2.2.2.2.1
  by_cases c : inB x 1 60 = true
  · rw [if_pos c, if_pos c] at hc
    rw [if_pos c] at hm0
    by_cases c0 : W = 0 ∨ P = 0 ∨ F = 0
    · rw [if_pos c0, if_pos c0] at hc
      rw [if_pos c0] at hm0
      exact pr_R hI hc hm0
    · rw [if_neg c0, if_neg c0] at hc
      obtain ⟨y1, y2⟩ := yr_all (L := vX σ W F P t) (ix x) (pt (keepS sz σ) 26 3 seed) (σ 27, t, seed) (by rw [pt_r (by omega), keepS_c (by omega) (by omega)]) (by rw [pt_j (by omega), keepS_c (by omega) (by omega)]; exact hB.2.1) (pt_s _ _ _ _) (by rw [pt_r (by omega), keepS_c (by omega) (by omega)]) (by rw [pt_r (by omega), keepS_c (by omega) (by omega)])
      have y1' : yearX sz W F P (ix x) seed σ 27 = (yrN (vX σ W F P t) (ix x) (σ 27, t, seed)).1 := y1
      have y2' : yearX sz W F P (ix x) seed σ 26 2 = nI (yrN (vX σ W F P t) (ix x) (σ 27, t, seed)).2.1 := y2
      obtain ⟨o1, o2⟩ := yrN_ok (L := vX σ W F P t) hK (show 0 < W by omega) (show 0 < F by omega) (show 0 < P by omega) (ix x) (σ 27, t, seed) hK.2.2.2.2.1 (hK.1 (show 0 < W by omega))
      have o2' : (yrN (vX σ W F P t) (ix x) (σ 27, t, seed)).2.1 < W := o2
      have dc : ∀ c, c ≠ 26 → c ≠ 27 → ¬ kS8 c → yearX sz W F P (ix x) seed σ c = keepS sz σ c := fun c h6 h7 h8 => funext (fun q => by
        unfold yearX
        rw [yearS_fr h6 h7 (by unfold kS8 at h8; omega), pt_a h6])
      have q1 : ∀ c, c ≠ 26 → c ≠ 27 → ¬ kS8 c → c ≠ 32 → c ≠ 33 → yearX sz W F P (ix x) seed σ c = σ c := fun c h6 h7 h8 h2 h3 => by rw [dc c h6 h7 h8, keepS_c h2 h3]
      obtain ⟨s1, hs1⟩ : ∃ s1, s1 = yearX sz W F P (ix x) seed σ := ⟨_, rfl⟩
      rw [y1', y2', ix_nI (by omega)] at hc
      rw [← hs1] at hc dc q1 y1' y2'
      have hm := m_X_year (G := G) (d := d + 34) (σ := s1) (μ := μ) (seed := seed) (n := x) (sz := sz) (MV_cg (hB.m h0) (by rw [q1 77 (by omega) (by omega) (by unfold kS8; omega) (by omega) (by omega)]) (q1 78 (by omega) (by omega) (by unfold kS8; omega) (by omega) (by omega))) hK (by rw [q1 78 (by omega) (by omega) (by unfold kS8; omega) (by omega) (by omega)]; exact hP.2.1) hP.1.2
      rw [if_pos c, if_neg c0] at hm
      refine Fn.mono hc ?_
      rintro r h ⟨e1, e2⟩
      refine ⟨_, s1, μ, e1, e2, Fn.mono hm ?_⟩
      rintro r' h' ⟨f1, s2, f2, f3⟩
      exact ⟨f1, s2, μ, f2, INV_step (tl := (yrN (vX σ W F P t) (ix x) (σ 27, t, seed)).1) h0 hB hP hT hF hR hM hk hTI q1 (by rw [dc 32 (by omega) (by omega) (by unfold kS8; omega)]) (fun q => by rw [dc 33 (by omega) (by omega) (by unfold kS8; omega)]) y2' (fun q _ => by rw [y1']) ⟨fun _ => o2', fun z => by omega⟩ o1 f3 rfl (fun _ _ => rfl)⟩
  · rw [if_neg c, if_neg c] at hc
    rw [if_neg c] at hm0
    exact pr_R hI hc hm0

