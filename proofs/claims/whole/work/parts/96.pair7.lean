/-! ===== pairs: land ===== -/
theorem lo_hdF {L : LD} {cds : List Nat} {a e : Nat} : ∀ W, W ≤ 16 → lo W (hdF L cds a e W)
  | 0, _ => lo_0 0
  | W + 1, h => by
    have ih := lo_mono (lo_hdF (L := L) (cds := cds) (a := a) (e := e) W (by omega)) (Nat.le_succ W)
    rw [hdF]
    split
    · exact lo_or ih (lo_bit (by omega) (by omega))
    · exact ih
theorem LOk_res (X : TX) (M : Nat) : LOk (xRes X M) := LOk_all _ _ LOk_0
theorem BK_land {s1 s2 s' : ST} {Q : FS × LB} (hO : LBk Q.2.1) (hL : RLd s1 Q.2) (hh : ∀ f, f < Q.2.1.F → s1 14 f = xHold Q f) (e20 : ∀ q, 5 ≤ q → q ≤ 9 → s1 20 q = s1 11 q) (e21 : ∀ j, j < 48 → s1 21 j = s1 12 j) (e22 : ∀ j, j < 16 → s1 22 j = s1 13 j) (e23 : ∀ j, j < 8 → s1 23 j = s1 14 j) (e24 : ∀ j, j < 8 → s1 24 j = s1 15 j) (e25 : ∀ j, j < 6 → s1 25 j = s1 16 j) (e27 : ∀ j, j < 6 → s1 27 j = s1 18 j) (e26 : s1 26 2 = s1 17 2) (ec : ∀ c, 20 ≤ c → c ≤ 27 → s2 c = s1 c) (hM : LM s' Q.2) (m1 : ∀ q, q < 105 → s2 78 q = s' 81 q) (m2 : ∀ f, f < Q.2.1.F → s2 78 (105 + f) = xHold Q f) : BK s2 20 26 0 Q.2.1.W Q.2.1.F Q.2.1.P Q.2.1.t := by
  obtain ⟨⟨l6, l7, l8, w16, f8, p6⟩, g1, g2, g3, g4, g5, g6, g7, g8, g9⟩ := hL
  obtain ⟨k1, k2, k3, k4, k5, k6, k7, k8, k9, k10⟩ := hO
  obtain ⟨⟨n0, n1, n2, n3, n4⟩, -, w, tl, rd, hi, -, -⟩ := hM
  have c20 : s2 20 = s1 20 := ec 20 (by omega) (by omega)
  have c21 : s2 21 = s1 21 := ec 21 (by omega) (by omega)
  have c22 : s2 22 = s1 22 := ec 22 (by omega) (by omega)
  have c23 : s2 23 = s1 23 := ec 23 (by omega) (by omega)
  have c24 : s2 24 = s1 24 := ec 24 (by omega) (by omega)
  have c25 : s2 25 = s1 25 := ec 25 (by omega) (by omega)
  have c27 : s2 27 = s1 27 := ec 27 (by omega) (by omega)
  have a22 : ∀ j, j < Q.2.1.W → s2 22 j = Q.2.1.wt j := fun j hj => by rw [c22, e22 j (by omega)]; exact g5 j hj
  have a5 : s2 20 5 = Q.2.1.gl := by rw [c20, e20 5 (by omega) (by omega)]; exact g1
  have a27 : ∀ j, j < Q.2.1.P → s2 27 j = Q.2.1.told j := fun j hj => by rw [c27, e27 j (by omega), g6 j (by omega), if_pos hj]
  have a24 : ∀ j, j < 8 → s2 24 j = Q.2.1.hint j := fun j hj => by rw [c24, e24 j hj]; exact g8 j hj
  have a25 : ∀ j, j < 6 → s2 25 j = Q.2.1.road j := fun j hj => by rw [c25, e25 j hj]; exact g7 j hj
  have a23 : ∀ j, j < Q.2.1.F → s2 23 j = xHold Q j := fun j hj => by rw [c23, e23 j (by omega)]; exact hh j hj
  have a21 : ∀ j, j < 3 * Q.2.1.W → s2 21 j = Q.2.1.num j := fun j hj => by rw [c21, e21 j (by omega)]; exact g4 j hj
  refine ⟨⟨by rw [c20, e20 6 (by omega) (by omega)]; exact l6, by rw [c20, e20 7 (by omega) (by omega)]; exact l7, by rw [c20, e20 8 (by omega) (by omega)]; exact l8, w16, f8, p6⟩, by rw [ec 26 (by omega) (by omega), e26]; exact g3, ⟨⟨k1, k2, fun v hv => ?_, ?_, fun p hp => ?_, fun f hf => ?_, fun p hp => ?_, w16, f8, p6⟩, fun f hf => ?_⟩, ⟨⟨?_, ?_, ?_, ?_, ?_⟩, fun p hp => ?_, fun q v h1 h2 => ?_, fun v hv => ?_, fun v hv => ?_, fun v hv => ?_, fun v hv => ?_, fun v hv => ?_⟩⟩
  · show ∃ k : Nat, k ≤ 9 ∧ s2 22 v = nI k
    rw [a22 v hv]; exact k3 v hv
  · show lo Q.2.1.W (s2 20 5)
    rw [a5]; exact k4
  · show lo Q.2.1.F (s2 27 p)
    rw [a27 p hp]; exact k5 p hp
  · show lo Q.2.1.F (s2 24 f)
    rw [a24 f hf]; exact k6 f hf
  · show lo Q.2.1.P (s2 25 p)
    rw [a25 p hp]; exact k7 p hp
  · show lo Q.2.1.W (s2 23 f)
    rw [a23 f hf]; exact lo_hdF _ w16
  · show s2 78 0 = s2 20 9
    rw [m1 0 (by omega), c20, e20 9 (by omega) (by omega), n0, g2]
  · show s2 78 1 = nI Q.2.1.W
    rw [m1 1 (by omega)]; exact n1
  · show s2 78 2 = nI Q.2.1.F
    rw [m1 2 (by omega)]; exact n2
  · show s2 78 3 = nI Q.2.1.P
    rw [m1 3 (by omega)]; exact n3
  · show s2 78 4 = nI Q.2.1.t
    rw [m1 4 (by omega)]; exact n4
  · have hp' : p < Q.2.1.P := hp
    show s2 78 (5 + p) = s2 27 p
    rw [a27 p hp, m1 _ (by omega)]; exact tl p hp
  · have h2' : v < Q.2.1.W := h2
    show s2 78 (11 + 16 * q + v) = s2 21 (3 * v + q)
    rw [a21 _ (by omega), m1 _ (by omega)]; exact (w v h2).1 q h1
  · have hv' : v < Q.2.1.W := hv
    show s2 78 (59 + v) = s2 22 v
    rw [a22 v hv, m1 _ (by omega)]; exact (w v hv).2.1
  · have hv' : v < Q.2.1.W := hv
    show s2 78 (75 + v) = bI (bt (s2 20 5) v)
    rw [a5, m1 _ (by omega)]; exact (w v hv).2.2
  · have hv' : v < Q.2.1.P := hv
    show s2 78 (91 + v) = s2 25 v
    rw [a25 v (by omega), m1 _ (by omega)]; exact rd v (by omega)
  · have hv' : v < Q.2.1.F := hv
    show s2 78 (97 + v) = s2 24 v
    rw [a24 v (by omega), m1 _ (by omega)]; exact hi v (by omega)
  · show s2 78 (105 + v) = s2 23 v
    rw [a23 v hv]; exact m2 v hv
theorem p_land {G : GT} {d : Nat} {σ : ST} {μ : SL} {N : Nat} {x : Int32} (hI : INV σ μ N) : Pair G (d + 40) mX11_land mX12_land [.int x] σ μ N := by
  obtain ⟨W, F, P, t, sz, T, k, R, h0, hB, hP, hT, hF, hR, hM, hk, hTI⟩ := id hI
  obtain ⟨hT9, t0, t7, tb⟩ := hT
  by_cases c : inR x (T + 1) = true
  · obtain ⟨n, hn, rfl⟩ := inR_of (by omega) c
    have hb : ∃ b : Nat → Nat, ∀ k, k < 900 → b k < 256 ∧ σ 1 k = sby (b k) ∧ σ 80 k = nI (b k) := ⟨fun k => if h : k < 900 then Classical.choose (tb k h) else 0, fun k h => by
      have := Classical.choose_spec (tb k h)
      dsimp only
      rw [dif_pos h]; exact this⟩
    obtain ⟨b, hb⟩ := hb
    obtain ⟨X, hX⟩ : ∃ X : TX, X = (b, n) := ⟨_, rfl⟩
    have hX2 : n = X.2 := by rw [hX]
    have hX1 : ∀ k, k < 900 → X.1 k < 256 ∧ σ 1 k = sby (X.1 k) ∧ σ 80 k = nI (X.1 k) := fun k hk => by rw [hX]; exact hb k hk
    clear hX
    refine Fn.mono (c_X_land (d := d + 10) (X := X) t0 hT9 (by omega) ⟨by omega, fun k hk => ⟨(hX1 k hk).1, (hX1 k hk).2.1⟩⟩ hX2) ?_
    rintro r g ⟨s1, M, hMM, rfl, e0, e4, e5, h10, hbad, hgood⟩
    have far : ∀ c, 33 ≤ c → s1 c = σ c := fun c hc => by
      by_cases z : (xRes X M).1.2.1 = 0
      · exact (hgood z).2.1 c (by unfold kRd2; omega) (by omega) (by omega)
      · exact (hbad z).2 c (by unfold kRd2; omega)
    have s1c : s1 1 = σ 1 := by
      by_cases z : (xRes X M).1.2.1 = 0
      · exact (hgood z).2.1 1 (by unfold kRd2; omega) (by omega) (by omega)
      · exact (hbad z).2 1 (by unfold kRd2; omega)
    have hm := m_X_land (G := G) (d := d + 8) (σ := s1) (μ := μ) (X := X) (T := T) (n := n) (by unfold T0; rw [far 77 (by omega)]; exact h0) (by rw [far 77 (by omega)]; exact t7) hT9 (by omega) (fun k hk => ⟨(hX1 k hk).1, by rw [far 80 (by omega)]; exact (hX1 k hk).2.2⟩) hX2
    obtain ⟨v, hv⟩ : ∃ v : Int32, r = some (.int v) := by
      by_cases z : (xRes X M).1.2.1 = 0
      · exact ⟨_, (hgood z).1⟩
      · exact ⟨_, (hbad z).1⟩
    refine ⟨v, s1, μ, hv, rfl, Fn.mono hm ?_⟩
    rintro r' g' ⟨s2, M', hM', rfl, hk2, f8, f16, f17, gbad, ggood⟩
    have eM : M' = M := isM_u hM' hMM
    subst eM
    have lo2 : ∀ c, c < 77 → s2 c = s1 c := fun c hc => hk2.1 c (by omega) (by omega) (by omega)
    have hi2 : ∀ c, 33 ≤ c → c ≠ 77 → c ≠ 78 → ¬ (81 ≤ c ∧ c ≤ 85) → s2 c = σ c := fun c h1 h2 h3 h4 => (hk2.1 c h2 h3 h4).trans (far c h1)
    have hT' : TPe s2 0 := ⟨by omega, by rw [lo2 0 (by omega)]; exact e0, f8, by rw [lo2 1 (by omega), s1c, hi2 80 (by omega) (by omega) (by omega) (by omega)]; exact tb⟩
    have hF' : s2 2 4 = s2 77 16 ∧ s2 2 5 = s2 77 17 := by rw [lo2 2 (by omega), f16, f17]; exact ⟨e4, e5⟩
    have hR' : RWs s2 μ R := RWs_cg hR (fun c h1 h2 => hi2 c (by omega) (by omega) (by omega) (by omega)) (hi2 96 (by omega) (by omega) (by omega) (by omega)) (hi2 97 (by omega) (by omega) (by omega) (by omega))
    have h0' : s2 77 0 = nI 0 := by rw [hk2.2 0 (by omega), far 77 (by omega)]; exact h0
    have hTI' : TI s2 k := TI_cg hTI (hi2 45 (by omega) (by omega) (by omega) (by omega)) (hi2 46 (by omega) (by omega) (by omega) (by omega))
    by_cases z : (xRes X M').1.2.1 = 0
    · obtain ⟨r1, g1, g2, g3, g4, g5, g6, g7, g8, g9, g10, g11, g12⟩ := hgood z
      obtain ⟨r2, j1, j2, j3, s', j4, j5⟩ := ggood z
      have ev : v = nI (xRes X M').2.2.1 := Value.int.inj (Option.some.inj (hv.symm.trans r1))
      refine ⟨by rw [r2, ev], s2, μ, rfl, (xRes X M').2.1.W, (xRes X M').2.1.F, (xRes X M').2.1.P, (xRes X M').2.1.t, 0, 0, k, R, h0', ?_, ?_, hT', hF', hR', ?_, by omega, hTI'⟩
      · exact BK_land (LOk_res X M' z).1 g3 g4 g2 g5 g6 g7 g8 g9 g10 g11 (fun c h1 h2 => lo2 c (by omega)) j4 j5 j2
      · exact ⟨⟨by rw [lo2 32 (by omega)]; exact g12, by omega⟩, j3 113 (by omega) (by omega), fun i hi => absurd hi (by omega)⟩
      · exact IMs_cg hM (fun c h1 h2 => hi2 c (by omega) (by omega) (by omega) (by omega)) (hi2 79 (by omega) (by omega) (by omega) (by omega)) (fun q hq => by rw [j1 q hq, far 78 (by omega)])
    · obtain ⟨r1, g1⟩ := hbad z
      obtain ⟨r2, j1⟩ := gbad z
      have ev : v = -30 - nI (xRes X M').1.2.1 := Value.int.inj (Option.some.inj (hv.symm.trans r1))
      have e78 : s2 78 = σ 78 := by rw [j1, far 78 (by omega)]
      have all : ∀ c, 19 ≤ c → c < 77 → s2 c = σ c := fun c h1 h2 => by rw [lo2 c h2]; exact g1 c (by unfold kRd2; omega)
      refine ⟨by rw [r2, ev], s2, μ, rfl, W, F, P, t, sz, 0, k, R, h0', ?_, ?_, hT', hF', hR', ?_, by omega, hTI'⟩
      · exact BK_cg hB (fun i hi => all _ (by omega) (by omega)) (fun i hi => all _ (by omega) (by omega)) e78
      · unfold PSt XP
        rw [all 32 (by omega) (by omega), all 33 (by omega) (by omega), e78]; exact hP
      · exact IMs_cg hM (fun c h1 h2 => all c (by omega) (by omega)) (hi2 79 (by omega) (by omega) (by omega) (by omega)) (fun q _ => by rw [e78])
  · have c' : inR x (T + 1) = false := by simpa using c
    exact pr_R hI (c_X_land_no t0 hT9 c') (m_X_land_no (d := d + 39) h0 t7 hT9 c')

