/-! ===== pairs: judge, perform ===== -/
theorem lo_Dn {L : LD} {x : Int32} {told : Nat → Int32} (hF : L.F ≤ 8) (hok : okD L.F L.P x) (h : ∀ p, p < L.P → lo L.F (told p)) (hh : ∀ f, f < 8 → lo L.F (L.hint f)) : ∀ p, p < L.P → lo L.F (mDn L x told p) := by
  intro p hp
  unfold mDn
  by_cases c1 : x = -1
  · rw [if_pos c1]; exact lo_next h p hp
  · rw [if_neg c1]
    obtain ⟨n, hx, hn, h1, h2⟩ : ∃ n, x = nI n ∧ n < 200 ∧ n % 100 / 10 < L.P ∧ n % 10 < L.F := by
      rcases hok with q | q
      · exact absurd q c1
      · exact q
    subst hx
    rw [ix_nI (by omega)]
    by_cases c2 : n < 100
    · rw [if_pos c2]
      by_cases e : p = n % 100 / 10
      · rw [if_pos e]; exact lo_or (h _ h1) (lo_bit h2 (by omega))
      · rw [if_neg e]; exact h p hp
    · rw [if_neg c2]
      by_cases e : p = n % 100 / 10
      · rw [if_pos e]; exact lo_or (h _ h1) (hh _ (by omega))
      · rw [if_neg e]; exact h p hp
theorem lo_Dd {L : LD} {v : Nat → Int64} (hF : L.F ≤ 8) (h : ∀ p, p < L.P → lo L.F (L.told p)) (hh : ∀ f, f < 8 → lo L.F (L.hint f)) : ∀ i, (∀ k, k < i → mDeed L.F L.P (v k) = true) → ∀ p, p < L.P → lo L.F (mDd L v L.told i p)
  | 0, _ => h
  | i + 1, hv => lo_Dn hF (okD_of (hv i (by omega))) (lo_Dd hF h hh i (fun k hk => hv k (by omega))) hh
theorem lo_D {L : LD} {v : Nat → Int64} {n : Nat} (hK : LBk L) : ∀ p, p < L.P → lo L.F (mDd L v L.told (mAble L.F L.P v n) p) := lo_Dd hK.2.2.2.2.2.2.2.2.1 hK.2.2.2.2.1 hK.2.2.2.2.2.1 _ (fun k hk => mAbleF_ok _ _ _ _ 0 k (by omega) hk)
theorem p_judge {G : GT} {d : Nat} {σ : ST} {μ : SL} {N : Nat} {row x : Int32} (hI : INV σ μ N) : Pair G (d + 40) mX11_judge mX12_judge [.int row, .int x] σ μ N := by
  obtain ⟨W, F, P, t, sz, T, k, R, h0, hB, hP, hT, hF, hR, hM, hk, hTI⟩ := id hI
  refine pr_K (K2 := k0) hI (fun c hc => by unfold kS at hc; omega) (fun c hc => hc.elim) (c_X_judge (d := d + 35) hB.x hR.1) (fun s e7 e8 far => Fn.mono (m_X_judge (d := d + 34) (MV_cg (hB.m h0) (by rw [e7]) e8) hB.h.1 (fun j hj => ?_) (fun j hj q hq p hp => lo_D hB.h.1 p hp)) (fun r h x => PFm_K x))
  have := hR.2 j hj
  rw [far 96 (by omega), far 97 (by omega)]; exact this
theorem p_perform {G : GT} {d : Nat} {σ : ST} {μ : SL} {N : Nat} {row : Int32} (hI : INV σ μ N) : Pair G (d + 40) mX11_perform mX12_perform [.int row] σ μ N := by
  obtain ⟨W, F, P, t, sz, T, k, R, h0, hB, hP, hT, hF, hR, hM, hk, hTI⟩ := id hI
  have hc := c_X_perform (G := G) (d := d + 35) (μ := μ) (row := row) hB.x hP.1 hR.1
  have hm0 := m_X_perform (G := G) (d := d + 34) (μ := μ) (row := row) (hB.m h0) hR.2 hP.2.1 hP.1.2
  have hK := hB.h.1
  by_cases c : inR row 4 = true
  · rw [if_pos c, if_pos c] at hc
    unfold PPf at hm0
    rw [if_pos c] at hm0
    cases hRr : R (ix row) with
    | none =>
      rw [hRr] at hc hm0
      exact pr_R hI hc hm0
    | some q =>
      rw [hRr] at hc hm0
      dsimp only at hc hm0
      by_cases c0 : mAble F P (μ (50 + 2 * ix row)) q.1 = 0
      · rw [if_pos c0, c0] at hc
        rw [if_pos c0] at hm0
        refine Fn.mono hc ?_
        rintro r h ⟨e1, e2⟩
        refine ⟨_, σ, μ, e1, e2, Fn.mono hm0 ?_⟩
        rintro r' h' ⟨f1, s2, f2, f3, f4⟩
        refine ⟨f1, s2, μ, f2, INV_cg hI (fun c hc => ?_) (fun q hq => f4 q (by omega) (by omega)) (fun k hk ht => ⟨k, by omega, TI_cg ht (f3 45 (by omega) (by omega) (by omega)) (f3 46 (by omega) (by omega) (by omega))⟩)⟩
        unfold kI at hc
        exact f3 c (by omega) (by omega) (by omega)
      · rw [if_neg c0] at hc
        obtain ⟨n, hn⟩ : ∃ n, n = mAble F P (μ (50 + 2 * ix row)) q.1 := ⟨_, rfl⟩
        rw [← hn] at hc
        have dc : ∀ c, c ≠ 27 → ¬ kS8 c → ddS 20 26 P (μ (50 + 2 * ix row)) (keepS sz σ) n c = keepS sz σ c := fun c h7 h8 => funext (fun q => ddS_fr h7 (by unfold kS8 at h8; omega) n)
        have d27 : ddS 20 26 P (μ (50 + 2 * ix row)) (keepS sz σ) n 27 = mDd (vX σ W F P t) (μ (50 + 2 * ix row)) (σ 27) n := by
          have := ddS_told (a := 20) (b := 26) (P := P) (μ (50 + 2 * ix row)) (keepS sz σ) (vX σ W F P t) (by omega) (by rw [keepS_c (by omega) (by omega)]) rfl (by rw [keepS_c (by omega) (by omega)]) n
          rw [keepS_c (c := 26 + 1) (by omega) (by omega)] at this
          exact this
        have q1 : ∀ c, c ≠ 26 → c ≠ 27 → ¬ kS8 c → c ≠ 32 → c ≠ 33 → ddS 20 26 P (μ (50 + 2 * ix row)) (keepS sz σ) n c = σ c := fun c _ h7 h8 h2 h3 => by rw [dc c h7 h8, keepS_c h2 h3]
        obtain ⟨s1, hs1⟩ : ∃ s1, s1 = ddS 20 26 P (μ (50 + 2 * ix row)) (keepS sz σ) n := ⟨_, rfl⟩
        rw [← hs1] at hc dc d27 q1
        have hm := m_X_perform (G := G) (d := d + 34) (σ := s1) (μ := μ) (row := row) (R := R) (v := fun j => μ (50 + 2 * j)) (MV_cg (hB.m h0) (by rw [q1 77 (by omega) (by omega) (by unfold kS8; omega) (by omega) (by omega)]) (q1 78 (by omega) (by omega) (by unfold kS8; omega) (by omega) (by omega))) (fun j hj => by rw [q1 96 (by omega) (by omega) (by unfold kS8; omega) (by omega) (by omega), q1 97 (by omega) (by omega) (by unfold kS8; omega) (by omega) (by omega)]; exact hR.2 j hj) (by rw [q1 78 (by omega) (by omega) (by unfold kS8; omega) (by omega) (by omega)]; exact hP.2.1) hP.1.2
        unfold PPf at hm
        rw [if_pos c, hRr] at hm
        dsimp only at hm
        rw [if_neg c0, ← hn] at hm
        refine Fn.mono hc ?_
        rintro r h ⟨e1, e2⟩
        refine ⟨_, s1, μ, e1, e2, Fn.mono hm ?_⟩
        rintro r' h' ⟨f1, s2, f2, f3⟩
        refine ⟨f1, s2, μ, f2, INV_step (tl := mDd (vX σ W F P t) (μ (50 + 2 * ix row)) (σ 27) n) h0 hB hP hT hF hR hM hk hTI q1 (by rw [dc 32 (by omega) (by unfold kS8; omega)]) (fun q => by rw [dc 33 (by omega) (by unfold kS8; omega)]) (by rw [dc 26 (by omega) (by unfold kS8; omega), keepS_c (by omega) (by omega)]; exact hB.2.1) (fun q _ => by rw [d27]) ⟨hK.1, hK.2.1⟩ (fun p hp => ?_) f3 rfl (fun _ _ => rfl)⟩
        have := lo_D (v := μ (50 + 2 * ix row)) (n := q.1) hK p hp
        rw [hn]; exact this
  · rw [if_neg c, if_neg c] at hc
    unfold PPf at hm0
    rw [if_neg c] at hm0
    exact pr_R hI hc hm0

