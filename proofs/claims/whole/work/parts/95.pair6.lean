/-! ===== pairs: days ===== -/
theorem dx_c {σ : ST} {sz P n c : Nat} (h6 : c ≠ 27) (h8 : ¬ kS8 c) : daysX sz P n σ c = keepS sz σ c := by
  unfold kS8 at h8
  funext q
  unfold daysX
  rw [pdS_fr (by omega) (by omega), bcmS_no (by omega)]
theorem dx_27 {σ : ST} {sz P n : Nat} : daysX sz P n σ 27 = mDays (σ 25) P n (σ 27) := by
  have h := pdS_told (a := 20) (b := 26) (P := P) (by omega) n (bcmS (keepS sz σ) 26 29)
  have e25 : bcmS (keepS sz σ) 26 29 (20 + 5) = σ 25 := by funext q; rw [bcmS_no (by omega), keepS_c (by omega) (by omega)]
  have e27 : bcmS (keepS sz σ) 26 29 (26 + 1) = σ 27 := by funext q; rw [bcmS_no (by omega), keepS_c (by omega) (by omega)]
  rw [e25, e27] at h
  exact h
theorem p_days {G : GT} {d : Nat} {σ : ST} {μ : SL} {N : Nat} {x : Int32} (hI : INV σ μ N) : Pair G (d + 40) mX11_days mX12_days [.int x] σ μ N := by
  obtain ⟨W, F, P, t, sz, T, k, R, h0, hB, hP, hT, hF, hR, hM, hk, hTI⟩ := id hI
  have hc := c_X_days (G := G) (d := d + 37) (μ := μ) (n := x) hB.x hP.1
  have hK := hB.h.1
  by_cases c : inB x 1 60 = true
  · rw [if_pos c, if_pos c] at hc
    obtain ⟨j, hj1, hj2, rfl⟩ := inB_1 (by omega) c
    rw [ix_nI (by omega), dx_27] at hc
    have q1 : ∀ c, c ≠ 26 → c ≠ 27 → ¬ kS8 c → c ≠ 32 → c ≠ 33 → daysX sz P j σ c = σ c := fun c _ h7 h8 h2 h3 => by rw [dx_c h7 h8, keepS_c h2 h3]
    have hm := m_X_days (G := G) (d := d + 38) (μ := μ) (n := nI j) (sz := sz) (MV_cg (hB.m h0) (by rw [q1 77 (by omega) (by omega) (by unfold kS8; omega) (by omega) (by omega)]) (q1 78 (by omega) (by omega) (by unfold kS8; omega) (by omega) (by omega))) (by rw [q1 78 (by omega) (by omega) (by unfold kS8; omega) (by omega) (by omega)]; exact hP.2.1) hP.1.2
    rw [if_pos c, ix_nI (by omega)] at hm
    refine Fn.mono hc ?_
    rintro r h ⟨e1, e2⟩
    refine ⟨_, _, μ, e1, e2, Fn.mono hm ?_⟩
    rintro r' h' ⟨f1, s2, f2, f3⟩
    refine ⟨f1, s2, μ, f2, INV_step (tl := mDays (σ 25) P j (σ 27)) h0 hB hP hT hF hR hM hk hTI q1 (by rw [dx_c (by omega) (by unfold kS8; omega)]) (fun q => by rw [dx_c (by omega) (by unfold kS8; omega)]) (by rw [dx_c (by omega) (by unfold kS8; omega), keepS_c (by omega) (by omega)]; exact hB.2.1) (fun q _ => by rw [dx_27]) ⟨hK.1, hK.2.1⟩ (lo_days j (σ 27) hK.2.2.2.2.1) f3 rfl (fun _ _ => rfl)⟩
  · rw [if_neg c, if_neg c] at hc
    have hm := m_X_days (G := G) (d := d + 38) (μ := μ) (n := x) (hB.m h0) hP.2.1 hP.1.2
    rw [if_neg c] at hm
    exact pr_R hI hc hm

