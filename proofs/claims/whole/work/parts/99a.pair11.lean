/-! ===== pairs: numbers ===== -/
theorem INV_row {σ s : ST} {μ μ' : SL} {N : Nat} {R' : Nat → Option (Nat × Nat)} (h : INV σ μ N) (e : ∀ c, ¬ (49 ≤ c ∧ c ≤ 56) → c ≠ 96 → c ≠ 97 → s c = σ c) (hR : RWs s μ' R') : INV s μ' (N + 1) := by
  obtain ⟨W, F, P, t, sz, T, k, R, h0, hB, hP, hT, hF, -, hM, hk, hTI⟩ := h
  have e78 := e 78 (by omega) (by omega) (by omega)
  have e77 := e 77 (by omega) (by omega) (by omega)
  refine ⟨W, F, P, t, sz, T, k, R', by rw [e77]; exact h0, BK_cg hB (fun i hi => e _ (by omega) (by omega) (by omega)) (fun i hi => e _ (by omega) (by omega) (by omega)) e78, ?_, TPe_cg hT (e 0 (by omega) (by omega) (by omega)) (e 1 (by omega) (by omega) (by omega)) (by rw [e77]) (e 80 (by omega) (by omega) (by omega)), ?_, hR, IMs_cg hM (fun c _ _ => e c (by omega) (by omega) (by omega)) (e 79 (by omega) (by omega) (by omega)) (fun q _ => by rw [e78]), by omega, TI_cg hTI (e 45 (by omega) (by omega) (by omega)) (e 46 (by omega) (by omega) (by omega))⟩
  · unfold PSt XP
    rw [e 32 (by omega) (by omega) (by omega), e 33 (by omega) (by omega) (by omega), e78]; exact hP
  · rw [e 2 (by omega) (by omega) (by omega), e77]; exact hF

