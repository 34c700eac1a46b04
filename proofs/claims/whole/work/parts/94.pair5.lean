/-! ===== pairs: undo, days ===== -/
theorem inB_1 {x : Int32} {b : Nat} (hb : b < 2 ^ 31) (h : inB x 1 b = true) : ∃ j, 1 ≤ j ∧ j ≤ b ∧ x = nI j := by
  rcases Nat.eq_zero_or_pos b with q | q
  · subst q
    simp only [inB, Bool.and_eq_true, decide_eq_true_eq] at h
    exact absurd (Int32.le_trans h.1 h.2) (by decide)
  · exact inB_of hb h q
theorem p_undo {G : GT} {d : Nat} {σ : ST} {μ : SL} {N : Nat} {x : Int32} (hI : INV σ μ N) : Pair G (d + 40) mX11_undo mX12_undo [.int x] σ μ N := by
  obtain ⟨W, F, P, t, sz, T, k, R, h0, hB, hP, hT, hF, hR, hM, hk, hTI⟩ := id hI
  have hc := c_X_undo (G := G) (d := d + 38) (μ := μ) (n := x) hP.1
  have hz12 := hP.1.2
  have hp6 : P ≤ 6 := hB.h.1.2.2.2.2.2.2.2.2.2
  have hw16 : W ≤ 16 := hB.h.1.2.2.2.2.2.2.2.1
  have hf8 : F ≤ 8 := hB.h.1.2.2.2.2.2.2.2.2.1
  by_cases c : inB x 1 sz = true
  · rw [if_pos c, if_pos c] at hc
    obtain ⟨j, hj1, hj2, rfl⟩ := inB_1 (by omega) c
    rw [ix_nI (by omega)] at hc
    obtain ⟨n, hn⟩ : ∃ n, n = sz - j := ⟨_, rfl⟩
    rw [← hn] at hc
    obtain ⟨t', a1, a2, a3, a4, a5⟩ := hP.2.2 n (by omega)
    have q0 : ∀ c q, c ≠ 26 → c ≠ 27 → c ≠ 32 → gobS n σ c q = σ c q := fun c q h6 h7 h2 => by
      unfold gobS
      rw [if_neg (fun z => h2 z.1), if_neg (fun z => h7 z.1), if_neg (fun z => h6 z.1)]
    have q1 : ∀ c, c ≠ 26 → c ≠ 27 → c ≠ 32 → gobS n σ c = σ c := fun c h6 h7 h2 => funext (fun q => q0 c q h6 h7 h2)
    have q27 : ∀ q, q < 6 → gobS n σ 27 q = σ 33 (n * 7 + q) := fun q hq => by
      unfold gobS
      rw [if_neg (by omega), if_pos ⟨rfl, hq⟩]
    have q26 : gobS n σ 26 2 = nI t' := by
      unfold gobS
      rw [if_neg (by omega), if_neg (by omega), if_pos ⟨rfl, rfl⟩]; exact a3
    have q32 : gobS n σ 32 1 = nI n := by unfold gobS; rw [if_pos ⟨rfl, rfl⟩]
    have hm := m_X_undo (G := G) (d := d + 38) (μ := μ) (n := nI j) (sz := sz) (MV_cg (hB.m h0) (q0 77 0 (by omega) (by omega) (by omega)) (q1 78 (by omega) (by omega) (by omega))) (by rw [q1 78 (by omega) (by omega) (by omega)]; exact hP.2.1) hz12
    rw [if_pos c, if_pos c, ix_nI (by omega), ← hn] at hm
    refine Fn.mono hc ?_
    rintro r h ⟨e1, e2⟩
    refine ⟨_, _, μ, e1, e2, Fn.mono hm ?_⟩
    rintro r' h' ⟨f1, f2⟩
    obtain ⟨s1, hs1⟩ : ∃ s1, s1 = gobS n σ := ⟨_, rfl⟩
    obtain ⟨s2, hs2⟩ : ∃ s2, s2 = unS n s1 := ⟨_, rfl⟩
    rw [← hs1] at q27 q26 q32
    have z0 : ∀ c, c ≠ 78 → s2 c = s1 c := fun c a => funext (fun q => by rw [hs2]; unfold unS; rw [pt_a (by omega), cpy_at, if_neg (by omega)])
    have z1 : ∀ c, c ≠ 26 → c ≠ 27 → c ≠ 32 → c ≠ 78 → s2 c = σ c := fun c a b e f => by rw [z0 c f, hs1]; exact q1 c a b e
    have z78 : ∀ q, q ≠ 113 → s2 78 q = if 4 ≤ q ∧ q < 11 then σ 78 (114 + 7 * n + (q - 4)) else σ 78 q := fun q hq => by
      rw [hs2]
      unfold unS
      rw [pt_j hq, cpy_at, hs1]
      by_cases h : 4 ≤ q ∧ q < 11
      · rw [if_pos ⟨rfl, h.1, by omega⟩, if_pos h, q0 78 _ (by omega) (by omega) (by omega)]
      · rw [if_neg (fun z => h ⟨z.2.1, by have := z.2.2; omega⟩), if_neg h, q0 78 _ (by omega) (by omega) (by omega)]
    have z113 : s2 78 113 = nI n := by rw [hs2]; unfold unS; rw [pt_s]
    have ls : ∀ c, 20 ≤ c → c ≤ 25 → s2 c = σ c := fun c h1 h2 => z1 c (by omega) (by omega) (by omega) (by omega)
    obtain ⟨b1, b2, b3, b4⟩ := id hB
    obtain ⟨⟨m0, m1, m2, m3, m4⟩, d1, d2, d3, d4, d5, d6, d7⟩ := id b4
    have t27 : ∀ p, p < P → s2 27 p = σ 33 (n * 7 + p) := fun p hp => by rw [z0 27 (by omega)]; exact q27 p (by omega)
    refine ⟨f1, s2, μ, by rw [f2, hs2, hs1], W, F, P, t', n, T, k, R, ?_, ⟨LV_of b1 (fun q => by rw [ls 20 (by omega) (by omega)]), ?_, ?_, ?_⟩, ?_, ?_, ?_, ?_, ?_, by omega, ?_⟩
    · rw [z1 77 (by omega) (by omega) (by omega) (by omega)]; exact h0
    · rw [z0 26 (by omega)]; exact q26
    · have := LBh_st (tl := s2 27) hB.h ⟨a1, a2⟩ (fun p hp => by rw [t27 p hp]; exact (a5 p hp).2)
      show LBh ((W, F, P, t'), (s2 21, s2 22, s2 23, s2 24, s2 25, s2 20 5, s2 27))
      rw [ls 21 (by omega) (by omega), ls 22 (by omega) (by omega), ls 23 (by omega) (by omega), ls 24 (by omega) (by omega), ls 25 (by omega) (by omega), ls 20 (by omega) (by omega)]
      exact this
    · show BM s2 0 ((W, F, P, t'), (s2 21, s2 22, s2 23, s2 24, s2 25, s2 20 5, s2 27)) (s2 20 9)
      rw [ls 21 (by omega) (by omega), ls 22 (by omega) (by omega), ls 23 (by omega) (by omega), ls 24 (by omega) (by omega), ls 25 (by omega) (by omega), ls 20 (by omega) (by omega)]
      refine ⟨⟨by rw [z78 _ (by omega), if_neg (by omega)]; exact m0, by rw [z78 _ (by omega), if_neg (by omega)]; exact m1, by rw [z78 _ (by omega), if_neg (by omega)]; exact m2, by rw [z78 _ (by omega), if_neg (by omega)]; exact m3, ?_⟩, fun p hp => ?_, fun q w h1 h2 => ?_, fun w hw => ?_, fun w hw => ?_, fun w hw => ?_, fun w hw => ?_, fun w hw => ?_⟩
      · rw [z78 _ (by omega), if_pos (by omega)]; exact a4
      · have hp' : p < P := hp
        show s2 78 (5 + p) = s2 27 p
        rw [t27 p hp, z78 _ (by omega), if_pos (by omega), show 114 + 7 * n + (5 + p - 4) = 115 + 7 * n + p by omega]; exact (a5 p hp).1.symm
      · have h2' : w < W := h2
        rw [z78 _ (by omega), if_neg (by omega)]; exact d2 q w h1 h2
      · have hw' : w < W := hw
        rw [z78 _ (by omega), if_neg (by omega)]; exact d3 w hw
      · have hw' : w < W := hw
        rw [z78 _ (by omega), if_neg (by omega)]; exact d4 w hw
      · have hw' : w < P := hw
        rw [z78 _ (by omega), if_neg (by omega)]; exact d5 w hw
      · have hw' : w < F := hw
        rw [z78 _ (by omega), if_neg (by omega)]; exact d6 w hw
      · have hw' : w < F := hw
        rw [z78 _ (by omega), if_neg (by omega)]; exact d7 w hw
    · refine ⟨⟨by rw [z0 32 (by omega)]; exact q32, by omega⟩, z113, fun i hi => ?_⟩
      obtain ⟨t2, u1, u2, u3, u4, u5⟩ := hP.2.2 i (by omega)
      have e33 := z1 33 (by omega) (by omega) (by omega) (by omega)
      exact ⟨t2, u1, u2, by rw [e33]; exact u3, by rw [z78 _ (by omega), if_neg (by omega)]; exact u4, fun p hp => by rw [e33, z78 _ (by omega), if_neg (by omega)]; exact u5 p hp⟩
    · exact TPe_cg hT (z1 0 (by omega) (by omega) (by omega) (by omega)) (z1 1 (by omega) (by omega) (by omega) (by omega)) (by rw [z1 77 (by omega) (by omega) (by omega) (by omega)]) (z1 80 (by omega) (by omega) (by omega) (by omega))
    · rw [z1 2 (by omega) (by omega) (by omega) (by omega), z1 77 (by omega) (by omega) (by omega) (by omega)]; exact hF
    · exact RWs_cg hR (fun c _ _ => z1 c (by omega) (by omega) (by omega) (by omega)) (z1 96 (by omega) (by omega) (by omega) (by omega)) (z1 97 (by omega) (by omega) (by omega) (by omega))
    · exact IMs_cg hM (fun c _ _ => z1 c (by omega) (by omega) (by omega) (by omega)) (z1 79 (by omega) (by omega) (by omega) (by omega)) (fun q hq => by rw [z78 q (by omega), if_neg (by omega)])
    · exact TI_cg hTI (z1 45 (by omega) (by omega) (by omega) (by omega)) (z1 46 (by omega) (by omega) (by omega) (by omega))
  · rw [if_neg c, if_neg c] at hc
    have hm := m_X_undo (G := G) (d := d + 38) (μ := μ) (n := x) (hB.m h0) hP.2.1 hz12
    rw [if_neg c, if_neg c] at hm
    exact pr_R hI hc hm

