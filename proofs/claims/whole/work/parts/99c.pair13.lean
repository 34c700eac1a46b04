/-! ===== pairs: copy ===== -/
theorem p_copy {G : GT} {d : Nat} {σ : ST} {μ : SL} {N : Nat} {row : Int32} (hI : INV σ μ N) : Pair G (d + 40) mX11_copy mX12_copy [.int row] σ μ N := by
  obtain ⟨W, F, P, t, sz, T, k, R, h0, hB, hP, hT, hF, hR, hM, hk, hTI⟩ := id hI
  have hc := c_X_copy (G := G) (d := d + 38) (row := row) hB.x hR.1
  have hm0 := m_X_copy (G := G) (d := d + 39) (row := row) (hB.m h0) hR.2
  by_cases c : inR row 4 = true
  · rw [if_pos c, if_pos c] at hc hm0
    obtain ⟨a, ha, rfl⟩ := inR_of (by omega) c
    rw [ix_nI (by omega)] at hc hm0
    cases hRr : R a with
    | none =>
      rw [hRr] at hc hm0
      exact pr_R hI hc hm0
    | some q =>
      have r0 := MR_so hR.2 ha hRr
      rw [hRr] at hc hm0
      dsimp only at hc hm0
      have hq40 := r0.2.2.1
      have e98 : ∀ x y, x ≠ 50 + 2 * a → cpyR μ (50 + 2 * a) q.2 (σ 27) (min P q.1) x y = μ x y := fun x y h => by unfold cpyR; rw [if_neg (fun z => h z.1)]
      have hMR : MR σ (cpyR μ (50 + 2 * a) q.2 (σ 27) (min P q.1)) R (fun j => μ (50 + 2 * j)) := fun j hj => by
        have := hR.2 j hj
        cases hRj : R j with
        | none => rw [hRj] at this; exact this
        | some q' =>
          rw [hRj] at this
          exact ⟨this.1, this.2.1, this.2.2.1, this.2.2.2.1, fun y hy => by rw [e98 98 _ (by omega)]; exact this.2.2.2.2 y hy⟩
      have hm := m_X_copy (G := G) (d := d + 39) (row := nI a) (hB.m h0) hMR
      rw [if_pos c, if_pos c, ix_nI (by omega), hRr] at hm
      dsimp only at hm
      refine Fn.mono hc ?_
      rintro r h ⟨e1, e2⟩
      refine ⟨_, _, _, e1, e2, Fn.mono hm ?_⟩
      rintro r' h' ⟨f1, f2⟩
      refine ⟨f1, _, _, f2, INV_row (R' := R) hI (fun _ _ _ _ => rfl) ⟨fun j hj => hR.1 j hj, fun j hj => ?_⟩⟩
      have := hR.2 j hj
      cases hRj : R j with
      | none => rw [hRj] at this; exact this
      | some q' =>
        rw [hRj] at this
        refine ⟨this.1, this.2.1, this.2.2.1, this.2.2.2.1, fun y hy => ?_⟩
        have t5 : μ 98 (40 * j + y) = μ (50 + 2 * j) y := this.2.2.2.2 y hy
        have t3 : q'.1 ≤ 40 := this.2.2.1
        have hy' : y < q'.1 := hy
        unfold cpL cpyR
        dsimp only [LD.P, LD.told]
        by_cases e : j = a ∧ y < min P q.1
        · obtain ⟨rfl, e3⟩ := e
          rw [if_pos ⟨rfl, by omega, by omega⟩, if_neg (by omega), if_pos ⟨rfl, e3⟩, Nat.add_sub_cancel_left]
        · rw [if_neg (by omega), if_neg (by omega), if_neg (by omega), if_neg (by omega)]; exact t5
  · rw [if_neg c, if_neg c] at hc hm0
    exact pr_R hI hc hm0

