/-! ===== both sides: steps that are kept in the past ===== -/
/-- rooms of the class for days that only may be -/
def kS8 (c : Nat) : Prop := 28 ≤ c ∧ c ≤ 31
theorem BM_cg2 {σ s : ST} {o : Nat} {L : LD} {ln : Int32} (h : BM σ o L ln) (e : ∀ q, o ≤ q → s 78 q = σ 78 q) : BM s o L ln := by
  obtain ⟨⟨a0, a1, a2, a3, a4⟩, b1, b2, b3, b4, b5, b6, b7⟩ := h
  exact ⟨⟨by rw [e _ (by omega)]; exact a0, by rw [e _ (by omega)]; exact a1, by rw [e _ (by omega)]; exact a2, by rw [e _ (by omega)]; exact a3, by rw [e _ (by omega)]; exact a4⟩, fun p hp => by rw [e _ (by omega)]; exact b1 p hp, fun k w hk hw => by rw [e _ (by omega)]; exact b2 k w hk hw, fun w hw => by rw [e _ (by omega)]; exact b3 w hw, fun w hw => by rw [e _ (by omega)]; exact b4 w hw, fun w hw => by rw [e _ (by omega)]; exact b5 w hw, fun w hw => by rw [e _ (by omega)]; exact b6 w hw, fun w hw => by rw [e _ (by omega)]; exact b7 w hw⟩
theorem BK_cg2 {σ s : ST} {l b o W F P t : Nat} (h : BK σ l b o W F P t) (el : ∀ i, i < 6 → s (l + i) = σ (l + i)) (eb : ∀ i, i < 2 → s (b + i) = σ (b + i)) (e : ∀ q, o ≤ q → s 78 q = σ 78 q) : BK s l b o W F P t := by
  have e0 : s l = σ l := el 0 (by omega)
  have b0 : s b = σ b := eb 0 (by omega)
  have ev : vB s l b W F P t = vB σ l b W F P t := by
    unfold vB
    rw [el 1 (by omega), el 2 (by omega), el 3 (by omega), el 4 (by omega), el 5 (by omega), e0, eb 1 (by omega)]
  unfold BK
  rw [ev, e0, b0]
  exact ⟨LV_of h.1 (fun q => by rw [e0]), h.2.1, h.2.2.1, BM_cg2 h.2.2.2 e⟩
theorem IMs_cg {σ s : ST} (h : IMs σ) (e : ∀ c, 57 ≤ c → c ≤ 76 → s c = σ c) (e9 : s 79 = σ 79) (e8 : ∀ q, 198 ≤ q → s 78 q = σ 78 q) : IMs s := by
  intro i hi
  rw [e (57 + 10 * i) (by omega) (by omega), e9]
  rcases h i hi with q | ⟨q1, q2, W, F, P, t, q3⟩
  · exact Or.inl q
  · exact Or.inr ⟨q1, q2, W, F, P, t, BK_cg2 q3 (fun j hj => e _ (by omega) (by omega)) (fun j hj => e _ (by omega) (by omega)) (fun q hq => e8 q (by omega))⟩
theorem RWs_cg {σ s : ST} {μ : SL} {R : Nat → Option (Nat × Nat)} (h : RWs σ μ R) (e : ∀ c, 49 ≤ c → c ≤ 56 → s c = σ c) (e6 : s 96 = σ 96) (e7 : s 97 = σ 97) : RWs s μ R := by
  refine ⟨fun j hj => ?_, fun j hj => ?_⟩
  · have := h.1 j hj
    unfold RowIs at this ⊢
    rw [e (49 + 2 * j) (by omega) (by omega)]; exact this
  · have := h.2 j hj
    rw [e6, e7]; exact this
theorem TPe_cg {σ s : ST} {T : Nat} (h : TPe σ T) (e0 : s 0 = σ 0) (e1 : s 1 = σ 1) (e7 : s 77 8 = σ 77 8) (e80 : s 80 = σ 80) : TPe s T := by
  unfold TPe
  rw [e0, e1, e7, e80]; exact h
theorem TI_cg {σ s : ST} {k : Nat} (h : TI σ k) (e5 : s 45 = σ 45) (e6 : s 46 = σ 46) : TI s k := by
  unfold TI
  rw [e5, e6]; exact h
theorem A86 {s : ST} {q : Nat} (h : q < 7) : cpy s 78 4 86 0 7 86 q = s 78 (4 + q) := by
  rw [cpy_at, if_pos (by omega)]; rfl
theorem A78 {s : ST} {q : Nat} : cpy s 78 4 86 0 7 78 q = s 78 q := by
  rw [cpy_at, if_neg (by omega)]
theorem PSt_step {σ s1 s2 : ST} {W F P t sz : Nat} (hP : PSt σ W F P sz) (h26 : σ 26 2 = nI t) (ht : (0 < W → t < W) ∧ (W = 0 → t = 0)) (hP6 : P ≤ 6) (h4 : σ 78 4 = nI t) (h5 : ∀ p, p < P → σ 78 (5 + p) = σ 27 p ∧ lo F (σ 27 p)) (c32 : s2 32 1 = keepS sz σ 32 1) (c33 : ∀ q, s2 33 q = keepS sz σ 33 q) (e78 : s1 78 = σ 78) (n78 : ∀ q, 113 ≤ q → q < 198 → s2 78 q = ntS sz (cpy s1 78 4 86 0 7) 78 q) : PSt s2 W F P (if sz < 12 then sz + 1 else 12) := by
  obtain ⟨⟨z1, z2⟩, z3, z4⟩ := hP
  refine ⟨⟨?_, by split <;> omega⟩, ?_, fun i hi => ?_⟩
  · rw [c32]; unfold keepS; rw [if_pos ⟨rfl, rfl⟩]
  · rw [n78 113 (by omega) (by omega)]; unfold ntS; rw [if_pos ⟨rfl, rfl⟩]
  · by_cases hs : sz < 12
    · rw [if_pos hs] at hi
      have m78 : ∀ q, 114 ≤ q → q < 198 → s2 78 q = if 114 + 7 * sz ≤ q ∧ q < 121 + 7 * sz then σ 78 (4 + (q - (114 + 7 * sz))) else σ 78 q := fun q q1 q2 => by
        rw [n78 q (by omega) q2]
        unfold ntS
        rw [if_neg (by omega), if_pos hs]
        by_cases h : 114 + 7 * sz ≤ q ∧ q < 121 + 7 * sz
        · rw [if_pos ⟨rfl, h⟩, if_pos h, A86 (by omega), e78]
        · rw [if_neg (fun z => h z.2), if_neg h, A78, e78]
      have m33 : ∀ q, s2 33 q = if sz * 7 ≤ q ∧ q < sz * 7 + 6 then σ 27 (q - sz * 7) else if q = sz * 7 + 6 then σ 26 2 else σ 33 q := fun q => by
        rw [c33]
        unfold keepS
        rw [if_neg (by omega), if_pos hs]
        simp only [true_and]
      by_cases ei : i = sz
      · subst ei
        refine ⟨t, ht.1, ht.2, ?_, ?_, fun p hp => ?_⟩
        · rw [m33, if_neg (by omega), if_pos rfl]; exact h26
        · rw [m78 _ (by omega) (by omega), if_pos (by omega), Nat.sub_self]; exact h4
        · rw [m33, if_pos (by omega), m78 _ (by omega) (by omega), if_pos (by omega), show i * 7 + p - i * 7 = p by omega, show 4 + (115 + 7 * i + p - (114 + 7 * i)) = 5 + p by omega]
          exact ⟨(h5 p hp).1.symm, (h5 p hp).2⟩
      · obtain ⟨t', a1, a2, a3, a4, a5⟩ := z4 i (by omega)
        refine ⟨t', a1, a2, ?_, ?_, fun p hp => ?_⟩
        · rw [m33, if_neg (by omega), if_neg (by omega)]; exact a3
        · rw [m78 _ (by omega) (by omega), if_neg (by omega)]; exact a4
        · rw [m33, if_neg (by omega), if_neg (by omega), m78 _ (by omega) (by omega), if_neg (by omega)]; exact a5 p hp
    · rw [if_neg hs] at hi
      have m78 : ∀ q, 114 ≤ q → q < 198 → s2 78 q = if q < 191 then σ 78 (q + 7) else σ 78 (4 + (q - 191)) := fun q q1 q2 => by
        rw [n78 q (by omega) q2]
        unfold ntS
        rw [if_neg (by omega), if_neg hs]
        by_cases h : q < 191
        · rw [if_pos ⟨rfl, q1, h⟩, if_pos h, A78, e78]
        · rw [if_neg (fun z => h z.2.2), if_neg h, if_pos ⟨rfl, by omega, q2⟩, A86 (by omega), e78]
      have m33 : ∀ q, s2 33 q = if q < 77 then σ 33 (q + 7) else if 77 ≤ q ∧ q < 83 then σ 27 (q - 77) else if q = 83 then σ 26 2 else σ 33 q := fun q => by
        rw [c33]
        unfold keepS
        rw [if_neg (by omega), if_neg hs]
        simp only [true_and]
      by_cases ei : i = 11
      · subst ei
        refine ⟨t, ht.1, ht.2, ?_, ?_, fun p hp => ?_⟩
        · rw [m33, if_neg (by omega), if_neg (by omega), if_pos (by omega)]; exact h26
        · rw [m78 _ (by omega) (by omega), if_neg (by omega)]; exact h4
        · rw [m33, if_neg (by omega), if_pos (by omega), m78 _ (by omega) (by omega), if_neg (by omega), show 11 * 7 + p - 77 = p by omega, show 4 + (115 + 7 * 11 + p - 191) = 5 + p by omega]
          exact ⟨(h5 p hp).1.symm, (h5 p hp).2⟩
      · obtain ⟨t', a1, a2, a3, a4, a5⟩ := z4 (i + 1) (by omega)
        refine ⟨t', a1, a2, ?_, ?_, fun p hp => ?_⟩
        · rw [m33, if_pos (by omega), show i * 7 + 6 + 7 = (i + 1) * 7 + 6 by omega]; exact a3
        · rw [m78 _ (by omega) (by omega), if_pos (by omega), show 114 + 7 * i + 7 = 114 + 7 * (i + 1) by omega]; exact a4
        · rw [m33, if_pos (by omega), m78 _ (by omega) (by omega), if_pos (by omega), show i * 7 + p + 7 = (i + 1) * 7 + p by omega, show 115 + 7 * i + p + 7 = 115 + 7 * (i + 1) + p by omega]; exact a5 p hp
theorem LBh_st {L : LD} {tl : Nat → Int32} {t' : Nat} (h : LBh L) (ht : (0 < L.W → t' < L.W) ∧ (L.W = 0 → t' = 0)) (hl : ∀ p, p < L.P → lo L.F (tl p)) : LBh ((L.W, L.F, L.P, t'), (L.num, L.wt, L.hold, L.hint, L.road, L.gl, tl)) := by
  obtain ⟨⟨k1, k2, k3, k4, k5, k6, k7, k8, k9, k10⟩, k11⟩ := h
  exact ⟨⟨ht.1, ht.2, k3, k4, hl, k6, k7, k8, k9, k10⟩, k11⟩
theorem INV_step {σ s1 s2 : ST} {μ : SL} {N W F P t sz T k t' : Nat} {R : Nat → Option (Nat × Nat)} {tl : Nat → Int32} {L' : LD} (h0 : σ 77 0 = nI 0) (hB : BK σ 20 26 0 W F P t) (hP : PSt σ W F P sz) (hT : TPe σ T) (hF : σ 2 4 = σ 77 16 ∧ σ 2 5 = σ 77 17) (hR : RWs σ μ R) (hM : IMs σ) (hk : k ≤ N) (hTI : TI σ k) (c1 : ∀ c, c ≠ 26 → c ≠ 27 → ¬ kS8 c → c ≠ 32 → c ≠ 33 → s1 c = σ c) (c32 : s1 32 1 = keepS sz σ 32 1) (c33 : ∀ q, s1 33 q = keepS sz σ 33 q) (c26 : s1 26 2 = nI t') (c27 : ∀ p, p < P → s1 27 p = tl p) (ht : (0 < W → t' < W) ∧ (W = 0 → t' = 0)) (hlo : ∀ p, p < P → lo F (tl p)) (hN : NTd s1 s2 sz L') (hL1 : L'.1 = (W, F, P, t')) (hL2 : ∀ p, p < P → L'.told p = tl p) : INV s2 μ (N + 1) := by
  obtain ⟨n1, n2, n3, n4, n5⟩ := hN
  obtain ⟨b1, b2, b3, b4⟩ := id hB
  have hK := hB.h
  have hP6 : P ≤ 6 := hK.1.2.2.2.2.2.2.2.2.2
  have e78 : s1 78 = σ 78 := c1 78 (by omega) (by omega) (by unfold kS8; omega) (by omega) (by omega)
  have e77 : s1 77 = σ 77 := c1 77 (by omega) (by omega) (by unfold kS8; omega) (by omega) (by omega)
  have lo2 : ∀ c, c < 77 → s2 c = s1 c := fun c hc => n1 c (by omega) (by omega) (by omega) (by omega)
  have both : ∀ c, c ≠ 26 → c ≠ 27 → ¬ kS8 c → c ≠ 32 → c ≠ 33 → c ≠ 78 → c ≠ 86 → c ≠ 87 → c ≠ 77 → s2 c = σ c := fun c a1 a2 a3 a4 a5 a6 a7 a8 a9 => (n1 c a6 a7 a8 a9).trans (c1 c a1 a2 a3 a4 a5)
  have lW : L'.W = W := congrArg (fun z => z.1) hL1
  have lF : L'.F = F := congrArg (fun z => z.2.1) hL1
  have lP : L'.P = P := congrArg (fun z => z.2.2.1) hL1
  have lt : L'.t = t' := congrArg (fun z => z.2.2.2) hL1
  have s78 : ∀ q, q < 4 ∨ (11 ≤ q ∧ q < 113) ∨ 198 ≤ q → s2 78 q = σ 78 q := fun q hq => by rw [n3 q hq, e78]
  have t27 : ∀ p, p < P → s2 27 p = tl p := fun p hp => by rw [lo2 27 (by omega)]; exact c27 p hp
  obtain ⟨⟨m0, m1, m2, m3, m4⟩, d1, d2, d3, d4, d5, d6, d7⟩ := id b4
  have w16 : W ≤ 16 := hK.1.2.2.2.2.2.2.2.1
  have f8 : F ≤ 8 := hK.1.2.2.2.2.2.2.2.2.1
  have ls : ∀ c, 20 ≤ c → c ≤ 25 → s2 c = σ c := fun c h1 h2 => both c (by omega) (by omega) (by unfold kS8; omega) (by omega) (by omega) (by omega) (by omega) (by omega) (by omega)
  refine ⟨W, F, P, t', (if sz < 12 then sz + 1 else 12), T, k, R, ?_, ⟨LV_of b1 (fun q => by rw [ls 20 (by omega) (by omega)]), ?_, ?_, ?_⟩, ?_, ?_, ?_, ?_, ?_, by omega, ?_⟩
  · rw [n2 0 (by omega) (by omega), e77]; exact h0
  · rw [lo2 26 (by omega)]; exact c26
  · have := LBh_st (tl := s2 27) hK ht (fun p hp => by rw [t27 p hp]; exact hlo p hp)
    show LBh ((W, F, P, t'), (s2 21, s2 22, s2 23, s2 24, s2 25, s2 20 5, s2 27))
    rw [ls 21 (by omega) (by omega), ls 22 (by omega) (by omega), ls 23 (by omega) (by omega), ls 24 (by omega) (by omega), ls 25 (by omega) (by omega), ls 20 (by omega) (by omega)]
    exact this
  · show BM s2 0 ((W, F, P, t'), (s2 21, s2 22, s2 23, s2 24, s2 25, s2 20 5, s2 27)) (s2 20 9)
    rw [ls 21 (by omega) (by omega), ls 22 (by omega) (by omega), ls 23 (by omega) (by omega), ls 24 (by omega) (by omega), ls 25 (by omega) (by omega), ls 20 (by omega) (by omega)]
    refine ⟨⟨by rw [s78 _ (by omega)]; exact m0, by rw [s78 _ (by omega)]; exact m1, by rw [s78 _ (by omega)]; exact m2, by rw [s78 _ (by omega)]; exact m3, ?_⟩, fun p hp => ?_, fun q w h1 h2 => ?_, fun w hw => ?_, fun w hw => ?_, fun w hw => ?_, fun w hw => ?_, fun w hw => ?_⟩
    · have := n5.ct
      rw [lt] at this
      exact this
    · have hp' : p < P := hp
      have := n5.told (p := p) (by rw [lP]; exact hp)
      rw [hL2 p hp] at this
      show s2 78 (5 + p) = s2 27 p
      rw [t27 p hp]; exact this
    · have h2' : w < W := h2
      rw [s78 _ (by omega)]; exact d2 q w h1 h2
    · have hw' : w < W := hw
      rw [s78 _ (by omega)]; exact d3 w hw
    · have hw' : w < W := hw
      rw [s78 _ (by omega)]; exact d4 w hw
    · have hw' : w < P := hw
      rw [s78 _ (by omega)]; exact d5 w hw
    · have hw' : w < F := hw
      rw [s78 _ (by omega)]; exact d6 w hw
    · have hw' : w < F := hw
      rw [s78 _ (by omega)]; exact d7 w hw
  · exact PSt_step (s1 := s1) hP b2 ⟨hK.1.1, hK.1.2.1⟩ hP6 m4 (fun p hp => ⟨d1 p hp, hK.1.2.2.2.2.1 p hp⟩) (by rw [lo2 32 (by omega)]; exact c32) (fun q => by rw [lo2 33 (by omega)]; exact c33 q) e78 n4
  · exact TPe_cg hT (both 0 (by omega) (by omega) (by unfold kS8; omega) (by omega) (by omega) (by omega) (by omega) (by omega) (by omega)) (both 1 (by omega) (by omega) (by unfold kS8; omega) (by omega) (by omega) (by omega) (by omega) (by omega) (by omega)) (by rw [n2 8 (by omega) (by omega), e77]) (both 80 (by omega) (by omega) (by unfold kS8; omega) (by omega) (by omega) (by omega) (by omega) (by omega) (by omega))
  · rw [both 2 (by omega) (by omega) (by unfold kS8; omega) (by omega) (by omega) (by omega) (by omega) (by omega) (by omega), n2 16 (by omega) (by omega), n2 17 (by omega) (by omega), e77]; exact hF
  · exact RWs_cg hR (fun c _ _ => both c (by omega) (by omega) (by unfold kS8; omega) (by omega) (by omega) (by omega) (by omega) (by omega) (by omega)) (both 96 (by omega) (by omega) (by unfold kS8; omega) (by omega) (by omega) (by omega) (by omega) (by omega) (by omega)) (both 97 (by omega) (by omega) (by unfold kS8; omega) (by omega) (by omega) (by omega) (by omega) (by omega) (by omega))
  · exact IMs_cg hM (fun c _ _ => both c (by omega) (by omega) (by unfold kS8; omega) (by omega) (by omega) (by omega) (by omega) (by omega) (by omega)) (both 79 (by omega) (by omega) (by unfold kS8; omega) (by omega) (by omega) (by omega) (by omega) (by omega) (by omega)) (fun q hq => s78 q (by omega))
  · exact TI_cg hTI (both 45 (by omega) (by omega) (by unfold kS8; omega) (by omega) (by omega) (by omega) (by omega) (by omega) (by omega)) (both 46 (by omega) (by omega) (by unfold kS8; omega) (by omega) (by omega) (by omega) (by omega) (by omega) (by omega))

