/-! ===== pairs: write ===== -/
theorem p_write {G : GT} {d : Nat} {σ : ST} {μ : SL} {N : Nat} {row i : Int32} {v : Int64} (hI : INV σ μ N) : PairJ G (d + 40) mX11_write mX12_write [.int row, .int i, .long v] σ μ N := by
  obtain ⟨W, F, P, t, sz, T, k, R, h0, hB, hP, hT, hF, hR, hM, hk, hTI⟩ := id hI
  have hc := c_X_write (G := G) (d := d + 38) (row := row) (i := i) (v := v) hR.1
  have hm0 := m_X_write (G := G) (d := d + 39) (row := row) (i := i) (v := v) (hB.m h0) hR.2
  by_cases c : inR row 4 = true
  · rw [if_pos c, if_pos c] at hc hm0
    obtain ⟨a, ha, rfl⟩ := inR_of (by omega) c
    rw [ix_nI (by omega)] at hc hm0
    cases hRr : R a with
    | none =>
      rw [hRr] at hc hm0
      exact pr_RJ hI hc hm0
    | some q =>
      have r0 := MR_so hR.2 ha hRr
      rw [hRr] at hc hm0
      dsimp only at hc hm0
      by_cases c2 : inR i q.1 = true
      · rw [if_pos c2, if_pos c2] at hc
        obtain ⟨p, hp, rfl⟩ := inR_of (by have := r0.2.2.1; omega) c2
        have hq40 := r0.2.2.1
        rw [ix_nI (by omega)] at hc
        have e98 : ∀ x y, x ≠ 50 + 2 * a → ptL μ (50 + 2 * a) p (mCut q.2 v) x y = μ x y := fun x y h => by unfold ptL; rw [if_neg (fun z => h z.1)]
        have hMR : MR σ (ptL μ (50 + 2 * a) p (mCut q.2 v)) R (fun j => μ (50 + 2 * j)) := fun j hj => by
          have := hR.2 j hj
          cases hRj : R j with
          | none => rw [hRj] at this; exact this
          | some q' =>
            rw [hRj] at this
            exact ⟨this.1, this.2.1, this.2.2.1, this.2.2.2.1, fun y hy => by rw [e98 98 _ (by omega)]; exact this.2.2.2.2 y hy⟩
        have hm := m_X_write (G := G) (d := d + 39) (row := nI a) (i := nI p) (v := v) (hB.m h0) hMR
        rw [if_pos c, if_pos c, ix_nI (by omega), hRr] at hm
        dsimp only at hm
        rw [if_pos c2, if_pos c2, ix_nI (by omega)] at hm
        refine Fn.mono hc ?_
        rintro r h ⟨e1, e2⟩
        refine ⟨_, _, _, e1, e2, Fn.mono hm ?_⟩
        rintro r' h' ⟨f1, f2⟩
        refine ⟨f1, _, _, f2, INV_row (R' := R) hI (fun _ _ _ _ => rfl) ⟨fun j hj => hR.1 j hj, fun j hj => ?_⟩⟩
        have := hR.2 j hj
        cases hRj : R j with
        | none => rw [hRj] at this; exact this
        | some q' =>
          rw [hRj] at this
          refine ⟨this.1, this.2.1, this.2.2.1, this.2.2.2.1, fun y hy => ?_⟩
          have t5 : μ 98 (40 * j + y) = μ (50 + 2 * j) y := this.2.2.2.2 y hy
          have t3 : q'.1 ≤ 40 := this.2.2.1
          have hy' : y < q'.1 := hy
          unfold ptL
          dsimp only
          by_cases e : j = a ∧ y = p
          · rw [if_pos ⟨rfl, by omega⟩, if_neg (by omega), if_pos (by omega)]
          · rw [if_neg (by omega), if_neg (by omega), if_neg (by omega), if_neg (by omega)]; exact t5
      · rw [if_neg c2, if_neg c2] at hc hm0
        exact pr_RJ hI hc hm0
  · rw [if_neg c, if_neg c] at hc hm0
    exact pr_RJ hI hc hm0

