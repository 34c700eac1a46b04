/-! ===== pairs: numbers ===== -/
theorem INV_row {σ s : ST} {μ μ' : SL} {N : Nat} {R' : Nat → Option (Nat × Nat)} (h : INV σ μ N) (e : ∀ c, ¬ (49 ≤ c ∧ c ≤ 56) → c ≠ 96 → c ≠ 97 → s c = σ c) (hR : RWs s μ' R') : INV s μ' (N + 1) := by
  obtain ⟨W, F, P, t, sz, T, k, R, h0, hB, hP, hT, hF, -, hM, hk, hTI⟩ := h
  have e78 := e 78 (by omega) (by omega) (by omega)
  have e77 := e 77 (by omega) (by omega) (by omega)
  refine ⟨W, F, P, t, sz, T, k, R', by rw [e77]; exact h0, BK_cg hB (fun i hi => e _ (by omega) (by omega) (by omega)) (fun i hi => e _ (by omega) (by omega) (by omega)) e78, ?_, TPe_cg hT (e 0 (by omega) (by omega) (by omega)) (e 1 (by omega) (by omega) (by omega)) (by rw [e77]) (e 80 (by omega) (by omega) (by omega)), ?_, hR, IMs_cg hM (fun c _ _ => e c (by omega) (by omega) (by omega)) (e 79 (by omega) (by omega) (by omega)) (fun q _ => by rw [e78]), by omega, TI_cg hTI (e 45 (by omega) (by omega) (by omega)) (e 46 (by omega) (by omega) (by omega))⟩
  · unfold PSt XP
    rw [e 32 (by omega) (by omega) (by omega), e 33 (by omega) (by omega) (by omega), e78]; exact hP
  · rw [e 2 (by omega) (by omega) (by omega), e77]; exact hF
theorem p_numbers {G : GT} {d : Nat} {σ : ST} {μ : SL} {N : Nat} {row sort n : Int32} (hI : INV σ μ N) : Pair G (d + 40) mX11_numbers mX12_numbers [.int row, .int sort, .int n] σ μ N := by
  obtain ⟨W, F, P, t, sz, T, k, R, h0, hB, hP, hT, hF, hR, hM, hk, hTI⟩ := id hI
  have hc := c_X_numbers (G := G) (d := d + 37) (σ := σ) (μ := μ) (row := row) (sort := sort) (n := n)
  by_cases c : (inR row 4 && inR sort 4 && inR n 41) = true
  · have c' := c
    rw [Bool.and_eq_true, Bool.and_eq_true] at c'
    have cc : (inR row 4 && inR sort 4) = true := by rw [Bool.and_eq_true]; exact c'.1
    obtain ⟨i, hi, rfl⟩ := inR_of (by omega) c'.1.1
    obtain ⟨so, hso, rfl⟩ := inR_of (by omega) c'.1.2
    obtain ⟨m, hm, rfl⟩ := inR_of (by omega) c'.2
    rw [if_pos cc, if_pos c'.2, if_pos c, if_pos c, ix_nI (by omega)] at hc
    have q1 : ∀ c, c ≠ 49 + 2 * i → pt (pt σ (49 + 2 * i) 2 (nI so)) (49 + 2 * i) 1 (nI m) c = σ c := fun c h => by rw [pt_r h, pt_r h]
    have hm2 := m_X_numbers (G := G) (d := d + 39) (μ := flL μ (50 + 2 * i) 40 0) (row := nI i) (sort := nI so) (n := nI m) (MV_cg (hB.m h0) (by rw [q1 77 (by omega)]) (q1 78 (by omega)))
    rw [if_pos cc, if_pos c'.2, if_pos c, if_pos c, ix_nI (by omega), ix_nI (by omega)] at hm2
    refine Fn.mono hc ?_
    rintro r h ⟨e1, e2⟩
    refine ⟨_, _, _, e1, e2, Fn.mono hm2 ?_⟩
    rintro r' h' ⟨f1, f2⟩
    refine ⟨f1, _, _, f2, INV_row (R' := fun j => if j = i then some (m, so) else R j) hI (fun c h1 h2 h3 => by rw [pt_r h3, pt_r h2]; exact q1 c (by omega)) ⟨fun j hj => ?_, fun j hj => ?_⟩⟩
    · have rj := hR.1 j hj
      by_cases e : j = i
      · subst e
        dsimp only
        rw [if_pos rfl]
        unfold RowIs
        refine ⟨?_, ?_, by show m ≤ 40; omega, hso⟩
        · rw [pt_a (by omega), pt_a (by omega), pt_s]
        · rw [pt_a (by omega), pt_a (by omega), pt_j (by omega), pt_s]
      · dsimp only
        rw [if_neg e]
        unfold RowIs at rj ⊢
        rw [pt_r (by omega), pt_r (by omega), q1 _ (by omega)]; exact rj
    · have rj := hR.2 j hj
      by_cases e : j = i
      · subst e
        simp only [if_true]
        refine ⟨by rw [pt_a (by omega), pt_s], by rw [pt_s], by omega, hso, fun q hq => ?_⟩
        have hq' : q < m := hq
        unfold zL flL
        rw [if_pos ⟨rfl, by omega, by omega⟩, if_neg (by omega), if_pos ⟨rfl, by omega⟩]
      · simp only [if_neg e]
        have s96 : pt (pt (pt (pt σ (49 + 2 * i) 2 (nI so)) (49 + 2 * i) 1 (nI m)) 96 i (nI so)) 97 i (nI m) 96 j = σ 96 j := by rw [pt_a (by omega), pt_j e, q1 96 (by omega)]
        have s97 : pt (pt (pt (pt σ (49 + 2 * i) 2 (nI so)) (49 + 2 * i) 1 (nI m)) 96 i (nI so)) 97 i (nI m) 97 j = σ 97 j := by rw [pt_j e, pt_r (by omega), q1 97 (by omega)]
        rw [s96, s97]
        cases hRj : R j with
        | none => rw [hRj] at rj; exact rj
        | some q =>
          rw [hRj] at rj
          obtain ⟨r1, r2, r3, r4, r5⟩ := rj
          refine ⟨r1, r2, r3, r4, fun p hp => ?_⟩
          unfold zL flL
          rw [if_neg (by omega), if_neg (by omega), if_neg (by omega), if_neg (by omega)]
          exact r5 p hp
  · rw [if_neg c, if_neg c] at hc
    have hm2 := m_X_numbers (G := G) (d := d + 39) (μ := μ) (row := row) (sort := sort) (n := n) (hB.m h0)
    rw [if_neg c, if_neg c] at hm2
    exact pr_R hI hc hm2

