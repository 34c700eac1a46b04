/-! ===== pairs: undo, image, restore ===== -/
theorem BK_copy {σ s : ST} {l b o l' b' o' W F P t : Nat} (h : BK σ l b o W F P t) (e0 : ∀ q, 5 ≤ q → q ≤ 9 → s l' q = σ l q) (e1 : ∀ j, j < 48 → s (l' + 1) j = σ (l + 1) j) (e2 : ∀ j, j < 16 → s (l' + 2) j = σ (l + 2) j) (e3 : ∀ j, j < 8 → s (l' + 3) j = σ (l + 3) j) (e4 : ∀ j, j < 8 → s (l' + 4) j = σ (l + 4) j) (e5 : ∀ j, j < 6 → s (l' + 5) j = σ (l + 5) j) (b0 : s b' 2 = σ b 2) (b1 : ∀ j, j < 6 → s (b' + 1) j = σ (b + 1) j) (e8 : ∀ x, x < 113 → s 78 (x + o') = σ 78 (x + o)) : BK s l' b' o' W F P t := by
  obtain ⟨⟨g6, g7, g8, w16, f8, p6⟩, g2, ⟨⟨k1, k2, k3, k4, k5, k6, k7, k8, k9, k10⟩, k11⟩, ⟨⟨m0, m1, m2, m3, m4⟩, d1, d2, d3, d4, d5, d6, d7⟩⟩ := h
  have g5 : s l' 5 = σ l 5 := e0 5 (by omega) (by omega)
  refine ⟨⟨by rw [e0 6 (by omega) (by omega)]; exact g6, by rw [e0 7 (by omega) (by omega)]; exact g7, by rw [e0 8 (by omega) (by omega)]; exact g8, w16, f8, p6⟩, by rw [b0]; exact g2, ⟨⟨k1, k2, fun w hw => ?_, ?_, fun p hp => ?_, fun f hf => ?_, fun p hp => ?_, w16, f8, p6⟩, fun f hf => ?_⟩, ⟨⟨?_, ?_, ?_, ?_, ?_⟩, fun p hp => ?_, fun q w h1 h2 => ?_, fun w hw => ?_, fun w hw => ?_, fun w hw => ?_, fun w hw => ?_, fun w hw => ?_⟩⟩
  · have hw' : w < W := hw
    show ∃ k : Nat, k ≤ 9 ∧ s (l' + 2) w = nI k
    rw [e2 w (by omega)]; exact k3 w hw
  · show lo W (s l' 5)
    rw [g5]; exact k4
  · have hp' : p < P := hp
    show lo F (s (b' + 1) p)
    rw [b1 p (by omega)]; exact k5 p hp
  · show lo F (s (l' + 4) f)
    rw [e4 f hf]; exact k6 f hf
  · show lo P (s (l' + 5) p)
    rw [e5 p hp]; exact k7 p hp
  · have hf' : f < F := hf
    show lo W (s (l' + 3) f)
    rw [e3 f (by omega)]; exact k11 f hf
  · rw [e8 0 (by omega), e0 9 (by omega) (by omega)]; exact m0
  · rw [e8 1 (by omega)]; exact m1
  · rw [e8 2 (by omega)]; exact m2
  · rw [e8 3 (by omega)]; exact m3
  · rw [e8 4 (by omega)]; exact m4
  · have hp' : p < P := hp
    show s 78 (5 + p + o') = s (b' + 1) p
    rw [e8 (5 + p) (by omega), b1 p (by omega)]; exact d1 p hp
  · have h2' : w < W := h2
    show s 78 (11 + 16 * q + w + o') = s (l' + 1) (3 * w + q)
    rw [e8 (11 + 16 * q + w) (by omega), e1 _ (by omega)]; exact d2 q w h1 h2
  · have hw' : w < W := hw
    show s 78 (59 + w + o') = s (l' + 2) w
    rw [e8 (59 + w) (by omega), e2 _ (by omega)]; exact d3 w hw
  · have hw' : w < W := hw
    show s 78 (75 + w + o') = bI (bt (s l' 5) w)
    rw [e8 (75 + w) (by omega), g5]; exact d4 w hw
  · have hw' : w < P := hw
    show s 78 (91 + w + o') = s (l' + 5) w
    rw [e8 (91 + w) (by omega), e5 _ (by omega)]; exact d5 w hw
  · have hw' : w < F := hw
    show s 78 (97 + w + o') = s (l' + 4) w
    rw [e8 (97 + w) (by omega), e4 _ (by omega)]; exact d6 w hw
  · have hw' : w < F := hw
    show s 78 (105 + w + o') = s (l' + 3) w
    rw [e8 (105 + w) (by omega), e3 _ (by omega)]; exact d7 w hw
theorem BK_same {σ s : ST} {l b o W F P t : Nat} (h : BK σ l b o W F P t) (el : ∀ i, i < 6 → s (l + i) = σ (l + i)) (eb : ∀ i, i < 2 → s (b + i) = σ (b + i)) (e : ∀ x, x < 113 → s 78 (x + o) = σ 78 (x + o)) : BK s l b o W F P t := by
  have l0 : s l = σ l := el 0 (by omega)
  have b0 : s b = σ b := eb 0 (by omega)
  exact BK_copy h (fun q _ _ => by rw [l0]) (fun j _ => by rw [el 1 (by omega)]) (fun j _ => by rw [el 2 (by omega)]) (fun j _ => by rw [el 3 (by omega)]) (fun j _ => by rw [el 4 (by omega)]) (fun j _ => by rw [el 5 (by omega)]) (by rw [b0]) (fun j _ => by rw [eb 1 (by omega)]) e
theorem p_image {G : GT} {d : Nat} {σ : ST} {μ : SL} {N : Nat} {x : Int32} (hI : INV σ μ N) : Pair G (d + 40) mX11_image mX12_image [.int x] σ μ N := by
  obtain ⟨W, F, P, t, sz, T, k, R, h0, hB, hP, hT, hF, hR, hM, hk, hTI⟩ := id hI
  have hc := c_X_image (G := G) (d := d + 38) (σ := σ) (μ := μ) (i := x)
  by_cases c : inR x 2 = true
  · rw [if_pos c, if_pos c] at hc
    obtain ⟨i, hi, rfl⟩ := inR_of (by omega) c
    rw [ix_nI (by omega)] at hc
    have q0 : ∀ c q, ¬ (57 + 10 * i ≤ c ∧ c ≤ 65 + 10 * i) → imgS σ i c q = σ c q := fun c q hc => by
      unfold imgS
      rw [pt_a (by omega), bcmS_no (by omega), bcmL_no (by omega)]
    have q1 : ∀ c, ¬ (57 + 10 * i ≤ c ∧ c ≤ 65 + 10 * i) → imgS σ i c = σ c := fun c hc => funext (fun q => q0 c q hc)
    have hm := m_X_image (G := G) (d := d + 39) (μ := μ) (x := nI i) (MV_cg (hB.m h0) (q0 77 0 (by omega)) (q1 78 (by omega)))
    rw [if_pos c, if_pos c, ix_nI (by omega)] at hm
    refine Fn.mono hc ?_
    rintro r h ⟨e1, e2⟩
    refine ⟨_, _, μ, e1, e2, Fn.mono hm ?_⟩
    rintro r' h' ⟨f1, f2⟩
    obtain ⟨s1, hs1⟩ : ∃ s1, s1 = imgS σ i := ⟨_, rfl⟩
    obtain ⟨s2, hs2⟩ : ∃ s2, s2 = imM s1 i := ⟨_, rfl⟩
    have z0 : ∀ c, c ≠ 78 → c ≠ 79 → s2 c = s1 c := fun c a b => funext (fun q => by rw [hs2]; unfold imM; rw [pt_a (by omega), cpy_at, if_neg (by omega)])
    have z1 : ∀ c, ¬ (57 + 10 * i ≤ c ∧ c ≤ 65 + 10 * i) → c ≠ 78 → c ≠ 79 → s2 c = σ c := fun c a b e => by rw [z0 c b e, hs1]; exact q1 c a
    have z78 : ∀ q, s2 78 q = if 198 * (i + 1) ≤ q ∧ q < 198 * (i + 1) + 198 then σ 78 (q - 198 * (i + 1)) else σ 78 q := fun q => by
      rw [hs2]
      unfold imM
      rw [pt_a (by omega), cpy_at, hs1]
      by_cases h : 198 * (i + 1) ≤ q ∧ q < 198 * (i + 1) + 198
      · rw [if_pos ⟨rfl, h.1, h.2⟩, if_pos h, q0 78 _ (by omega), Nat.zero_add]
      · rw [if_neg (fun z => h z.2), if_neg h, q0 78 _ (by omega)]
    have z79 : ∀ q, s2 79 q = if q = i then nI 1 else σ 79 q := fun q => by
      rw [hs2]
      unfold imM
      by_cases h : q = i
      · rw [if_pos h, h, pt_s]
      · rw [if_neg h, pt_j h, cpy_at, if_neg (by omega), hs1, q0 79 _ (by omega)]
    refine ⟨f1, s2, μ, by rw [f2, hs2, hs1], W, F, P, t, sz, T, k, R, ?_, ?_, ?_, ?_, ?_, ?_, ?_, by omega, ?_⟩
    · rw [z1 77 (by omega) (by omega) (by omega)]; exact h0
    · exact BK_same hB (fun j hj => z1 _ (by omega) (by omega) (by omega)) (fun j hj => z1 _ (by omega) (by omega) (by omega)) (fun x hx => by rw [z78, if_neg (by omega)])
    · have e32 := z1 32 (by omega) (by omega) (by omega)
      have e33 := z1 33 (by omega) (by omega) (by omega)
      refine ⟨by unfold XP; rw [e32]; exact hP.1, by rw [z78, if_neg (by omega)]; exact hP.2.1, fun j hj => ?_⟩
      obtain ⟨t', a1, a2, a3, a4, a5⟩ := hP.2.2 j hj
      have hsz := hP.1.2
      have hp6 : P ≤ 6 := hB.h.1.2.2.2.2.2.2.2.2.2
      exact ⟨t', a1, a2, by rw [e33]; exact a3, by rw [z78, if_neg (by omega)]; exact a4, fun p hp => by rw [e33, z78, if_neg (by omega)]; exact a5 p hp⟩
    · exact TPe_cg hT (z1 0 (by omega) (by omega) (by omega)) (z1 1 (by omega) (by omega) (by omega)) (by rw [z1 77 (by omega) (by omega) (by omega)]) (z1 80 (by omega) (by omega) (by omega))
    · rw [z1 2 (by omega) (by omega) (by omega), z1 77 (by omega) (by omega) (by omega)]; exact hF
    · exact RWs_cg hR (fun c _ _ => z1 c (by omega) (by omega) (by omega)) (z1 96 (by omega) (by omega) (by omega)) (z1 97 (by omega) (by omega) (by omega))
    · intro j hj
      by_cases e : j = i
      · subst e
        refine Or.inr ⟨?_, by rw [z79, if_pos rfl], W, F, P, t, BK_copy hB (fun q a b => ?_) (fun q hq => ?_) (fun q hq => ?_) (fun q hq => ?_) (fun q hq => ?_) (fun q hq => ?_) ?_ (fun q hq => ?_) (fun x hx => ?_)⟩
        · rw [z0 _ (by omega) (by omega), hs1]; unfold imgS; rw [pt_s]
        · rw [z0 _ (by omega) (by omega), hs1]; unfold imgS; rw [pt_a (by omega), bcmS_no (by omega), bcmL_0 a b]
        · rw [z0 _ (by omega) (by omega), hs1]; unfold imgS; rw [pt_a (by omega), bcmS_no (by omega), bcmL_1 hq]
        · rw [z0 _ (by omega) (by omega), hs1]; unfold imgS; rw [pt_a (by omega), bcmS_no (by omega), bcmL_2 hq]
        · rw [z0 _ (by omega) (by omega), hs1]; unfold imgS; rw [pt_a (by omega), bcmS_no (by omega), bcmL_3 hq]
        · rw [z0 _ (by omega) (by omega), hs1]; unfold imgS; rw [pt_a (by omega), bcmS_no (by omega), bcmL_4 hq]
        · rw [z0 _ (by omega) (by omega), hs1]; unfold imgS; rw [pt_a (by omega), bcmS_no (by omega), bcmL_5 hq]
        · rw [z0 _ (by omega) (by omega), hs1]; unfold imgS; rw [pt_a (by omega), bcmS_0, bcmL_no (by omega)]
        · rw [z0 _ (by omega) (by omega), hs1]; unfold imgS; rw [pt_a (by omega), bcmS_1 hq, bcmL_no (by omega)]
        · rw [z78, if_pos (by omega), Nat.add_sub_cancel]; rfl
      · have ef : s2 (57 + 10 * j) = σ (57 + 10 * j) := z1 _ (by omega) (by omega) (by omega)
        rw [ef, z79, if_neg e]
        rcases hM j hj with q | ⟨q1', q2', W', F', P', t', q3'⟩
        · exact Or.inl q
        · exact Or.inr ⟨q1', q2', W', F', P', t', BK_same q3' (fun n hn => z1 _ (by omega) (by omega) (by omega)) (fun n hn => z1 _ (by omega) (by omega) (by omega)) (fun x hx => by rw [z78, if_neg (by omega)])⟩
    · exact TI_cg hTI (z1 45 (by omega) (by omega) (by omega)) (z1 46 (by omega) (by omega) (by omega))
  · rw [if_neg c, if_neg c] at hc
    have hm := m_X_image (G := G) (d := d + 39) (μ := μ) (x := x) (hB.m h0)
    rw [if_neg c, if_neg c] at hm
    exact pr_R hI hc hm
theorem p_restore {G : GT} {d : Nat} {σ : ST} {μ : SL} {N : Nat} {x : Int32} (hI : INV σ μ N) : Pair G (d + 40) mX11_restore mX12_restore [.int x] σ μ N := by
  obtain ⟨W, F, P, t, sz, T, k, R, h0, hB, hP, hT, hF, hR, hM, hk, hTI⟩ := id hI
  have hc := c_X_restore (G := G) (d := d + 38) (σ := σ) (μ := μ) (i := x)
  by_cases c : inR x 2 = true
  · rw [if_pos c, if_pos c] at hc
    obtain ⟨i, hi, rfl⟩ := inR_of (by omega) c
    rw [ix_nI (by omega)] at hc
    rcases hM i hi with ⟨y1, y2⟩ | ⟨y1, y2, W', F', P', t', y3⟩
    · have hm := m_X_restore (G := G) (d := d + 39) (μ := μ) (x := nI i) (hB.m h0)
      rw [if_pos c, if_pos c, ix_nI (by omega), y2, if_pos nI_0, if_pos nI_0] at hm
      rw [y1, if_pos nI_0, if_pos nI_0] at hc
      exact pr_R hI hc hm
    · have n1 : ¬ nI 1 = 0 := by decide
      rw [y1, if_neg n1, if_neg n1] at hc
      have q0 : ∀ c q, ¬ (20 ≤ c ∧ c ≤ 27) → c ≠ 32 → resS σ i c q = σ c q := fun c q hc h32 => by
        unfold resS
        rw [pt_a (by omega), bcmS_no (by omega), bcmL_no (by omega)]
      have q1 : ∀ c, ¬ (20 ≤ c ∧ c ≤ 27) → c ≠ 32 → resS σ i c = σ c := fun c hc h32 => funext (fun q => q0 c q hc h32)
      have hm := m_X_restore (G := G) (d := d + 39) (μ := μ) (x := nI i) (MV_cg (hB.m h0) (q0 77 0 (by omega) (by omega)) (q1 78 (by omega) (by omega)))
      rw [if_pos c, if_pos c, ix_nI (by omega), q0 79 i (by omega) (by omega), y2, if_neg n1, if_neg n1] at hm
      refine Fn.mono hc ?_
      rintro r h ⟨e1, e2⟩
      refine ⟨_, _, μ, e1, e2, Fn.mono hm ?_⟩
      rintro r' h' ⟨f1, f2⟩
      obtain ⟨s1, hs1⟩ : ∃ s1, s1 = resS σ i := ⟨_, rfl⟩
      obtain ⟨s2, hs2⟩ : ∃ s2, s2 = reM s1 i := ⟨_, rfl⟩
      have z0 : ∀ c, c ≠ 78 → s2 c = s1 c := fun c a => funext (fun q => by rw [hs2]; unfold reM; rw [pt_a (by omega), cpy_at, if_neg (by omega)])
      have z1 : ∀ c, ¬ (20 ≤ c ∧ c ≤ 27) → c ≠ 32 → c ≠ 78 → s2 c = σ c := fun c a b e => by rw [z0 c e, hs1]; exact q1 c a b
      have z78 : ∀ q, q ≠ 113 → s2 78 q = if q < 198 then σ 78 (198 * (i + 1) + q) else σ 78 q := fun q hq => by
        rw [hs2]
        unfold reM
        rw [pt_j hq, cpy_at, hs1]
        by_cases h : q < 198
        · rw [if_pos ⟨rfl, by omega, by omega⟩, if_pos h, q0 78 _ (by omega) (by omega), Nat.sub_zero]
        · rw [if_neg (fun z => h (by have := z.2.2; omega)), if_neg h, q0 78 _ (by omega) (by omega)]
      have z113 : s2 78 113 = nI 0 := by rw [hs2]; unfold reM; rw [pt_s]
      refine ⟨f1, s2, μ, by rw [f2, hs2, hs1], W', F', P', t', 0, T, k, R, ?_, ?_, ?_, ?_, ?_, ?_, ?_, by omega, ?_⟩
      · rw [z1 77 (by omega) (by omega) (by omega)]; exact h0
      · refine BK_copy y3 (fun q a b => ?_) (fun q hq => ?_) (fun q hq => ?_) (fun q hq => ?_) (fun q hq => ?_) (fun q hq => ?_) ?_ (fun q hq => ?_) (fun x hx => ?_)
        · rw [z0 _ (by omega), hs1]; unfold resS; rw [pt_a (by omega), bcmS_no (by omega), bcmL_0 a b]
        · rw [z0 _ (by omega), hs1]; unfold resS; rw [pt_a (by omega), bcmS_no (by omega), bcmL_1 hq]
        · rw [z0 _ (by omega), hs1]; unfold resS; rw [pt_a (by omega), bcmS_no (by omega), bcmL_2 hq]
        · rw [z0 _ (by omega), hs1]; unfold resS; rw [pt_a (by omega), bcmS_no (by omega), bcmL_3 hq]
        · rw [z0 _ (by omega), hs1]; unfold resS; rw [pt_a (by omega), bcmS_no (by omega), bcmL_4 hq]
        · rw [z0 _ (by omega), hs1]; unfold resS; rw [pt_a (by omega), bcmS_no (by omega), bcmL_5 hq]
        · rw [z0 _ (by omega), hs1]; unfold resS; rw [pt_a (by omega), bcmS_0, bcmL_no (by omega)]
        · rw [z0 _ (by omega), hs1]; unfold resS; rw [pt_a (by omega), bcmS_1 hq, bcmL_no (by omega)]
        · show s2 78 x = _
          rw [z78 x (by omega), if_pos (by omega), Nat.add_comm]
      · refine ⟨⟨?_, by omega⟩, z113, fun j hj => absurd hj (by omega)⟩
        rw [z0 32 (by omega), hs1]; unfold resS; rw [pt_s]
      · exact TPe_cg hT (z1 0 (by omega) (by omega) (by omega)) (z1 1 (by omega) (by omega) (by omega)) (by rw [z1 77 (by omega) (by omega) (by omega)]) (z1 80 (by omega) (by omega) (by omega))
      · rw [z1 2 (by omega) (by omega) (by omega), z1 77 (by omega) (by omega) (by omega)]; exact hF
      · exact RWs_cg hR (fun c _ _ => z1 c (by omega) (by omega) (by omega)) (z1 96 (by omega) (by omega) (by omega)) (z1 97 (by omega) (by omega) (by omega))
      · exact IMs_cg hM (fun c _ _ => z1 c (by omega) (by omega) (by omega)) (z1 79 (by omega) (by omega) (by omega)) (fun q hq => by rw [z78 q (by omega), if_neg (by omega)])
      · exact TI_cg hTI (z1 45 (by omega) (by omega) (by omega)) (z1 46 (by omega) (by omega) (by omega))
  · rw [if_neg c, if_neg c] at hc
    have hm := m_X_restore (G := G) (d := d + 39) (μ := μ) (x := x) (hB.m h0)
    rw [if_neg c, if_neg c] at hm
    exact pr_R hI hc hm

