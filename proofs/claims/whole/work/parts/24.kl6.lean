/-! ===== KnowsLeast: deeds in a row, a year, rows of numbers ===== -/
/-- a row of numbers: missing, or so many of a sort -/
def RowIs (σ : ST) (μ : SL) (j : Nat) (R : Option (Nat × Nat)) : Prop := match R with
  | none => σ (49 + 2 * j) 1 = -1
  | some q => σ (49 + 2 * j) 1 = nI q.1 ∧ σ (49 + 2 * j) 2 = nI q.2 ∧ q.1 ≤ 40 ∧ q.2 < 4
theorem mMiss_n {n : Nat} (h : n < 2 ^ 31) : mMiss (nI n) = false := by rw [mMiss, decide_eq_false]; exact nI_pos h
theorem mMiss_m : mMiss (-1) = true := by decide
theorem mAbleF_le (F P : Nat) (v : Nat → Int64) : ∀ n i, mAbleF F P v n i ≤ i + n
  | 0, i => Nat.le_refl i
  | n + 1, i => by
    unfold mAbleF
    split
    · have := mAbleF_le F P v n (i + 1); omega
    · omega
theorem mAbleF_ok (F P : Nat) (v : Nat → Int64) : ∀ n i k, i ≤ k → k < mAbleF F P v n i → mDeed F P (v k) = true
  | 0, i, k, h1, h2 => by unfold mAbleF at h2; omega
  | n + 1, i, k, h1, h2 => by
    unfold mAbleF at h2
    split at h2
    · rename_i h
      rcases Nat.lt_or_ge i k with q | q
      · exact mAbleF_ok F P v n (i + 1) k q h2
      · rw [show k = i by omega]; exact h
    · omega
theorem c_X_perform {G : GT} {d : Nat} {σ : ST} {μ : SL} {W F P t sz : Nat} {row : Int32} {R : Nat → Option (Nat × Nat)} (hX : XV σ W F P t) (hZ : XP σ sz) (hR : ∀ j, j < 4 → RowIs σ μ j (R j)) : Fn G (d + 5) mX11_perform [.ref (G.b0 + 0), .int row] (sh G σ μ)
    (Ret (some (.int (if inR row 4 then (match R (ix row) with | none => -6 | some q => nI (mAble F P (μ (50 + 2 * ix row)) q.1)) else -2)))
      (sh G (if inR row 4 then (match R (ix row) with | none => σ | some q => if mAble F P (μ (50 + 2 * ix row)) q.1 = 0 then σ else ddS 20 26 P (μ (50 + 2 * ix row)) (keepS sz σ) (mAble F P (μ (50 + 2 * ix row)) q.1)) else σ) μ)) := by
  have ht := hX.t32
  refine fn_of (ls := [some (.ref (G.b0 + 0)), some (.int row), none]) (by decide +kernel) (Nat.le_of_ble_eq_true rfl) 1 rfl ?_
  refine b_iload_n dX11_perform_0 rfl ?_
  refine b_callSr [.int row] dX11_perform_1 kX11_isRow lX11_200 c_isRow rfl rfl (Nat.le_of_ble_eq_true rfl) ?_
  refine b_if_ne 10 dX11_perform_4 (by decide) (fun c1 => ?_) (fun c1 => ?_)
  · skip
    have c2 := (bI_1 _).mp c1
    obtain ⟨j, hj, rfl⟩ := inR_of (by omega) c2
    have hix := ix_nI (show j < 2 ^ 31 by omega)
    refine b_aload_n dX11_perform_10 rfl ?_
    refine g_get dX11_perform_11 fX11_67 a0 rfl ?_
    refine b_iload_n dX11_perform_14 rfl ?_
    refine g_rowld (j := j) dX11_perform_15 (by omega) ?_
    refine g_callV [] dX11_perform_16 kX6_isMissing lX11_203 (rwj (j := j) (by omega)).1 rfl rfl (c_isMissing (rwj hj)) rfl rfl (Nat.le_of_ble_eq_true rfl) ?_
    have hRj := hR j hj
    cases hRe : R j with
    | none =>
      rw [hRe] at hRj
      have hRj : σ (49 + 2 * j) 1 = -1 := hRj
      rw [hRj, mMiss_m]
      refine b_if_eq_f 25 dX11_perform_19 (by decide) (by decide) ?_
      refine b_bipush (v := -6) dX11_perform_22 (by decide) ?_
      exact b_iret dX11_perform_24 ⟨by simp only [c2, hix, hRe, if_true], by simp only [c2, hix, hRe, if_true]⟩
    | some q =>
      obtain ⟨len, sort⟩ := q
      rw [hRe] at hRj
      obtain ⟨hl, hs, hl40, hs4⟩ := hRj
      have hl : σ (49 + 2 * j) 1 = nI len := hl
      have hl40 : len ≤ 40 := hl40
      rw [hl, mMiss_n (by omega)]
      refine b_if_eq_t 25 dX11_perform_19 (by decide) (by decide) ?_
      refine b_aload_n dX11_perform_25 rfl ?_
      refine g_get dX11_perform_26 fX11_23 a0 rfl ?_
      refine b_aload_n dX11_perform_29 rfl ?_
      refine g_get dX11_perform_30 fX11_67 a0 rfl ?_
      refine b_iload_n dX11_perform_33 rfl ?_
      refine g_rowld (j := j) dX11_perform_34 (by omega) ?_
      have hab := mAbleF_le F P (μ (49 + 2 * j + 1)) len 0
      refine g_callV [.ref (G.b0 + ((49 + 2 * j)))] dX11_perform_35 kX2_deedsAhead lX11_207 a20 rfl rfl (c_deedsAhead ln20 (rwj hj) hX.1 hl hl40) rfl rfl (Nat.le_of_ble_eq_true rfl) ?_
      refine b_istore_n dX11_perform_38 (by decide) rfl ?_
      refine b_iload_n dX11_perform_39 rfl ?_
      generalize hn : mAble F P (μ (49 + 2 * j + 1)) len = n
      have hn' : mAble F P (μ (50 + 2 * j)) len = n := by rw [← hn, show 49 + 2 * j + 1 = 50 + 2 * j by omega]
      have hnl : n ≤ len := by rw [← hn]; show mAbleF _ _ _ _ _ ≤ _; omega
      refine b_if_le 73 dX11_perform_40 (by decide) (fun c3 => ?_) (fun c3 => ?_)
      · skip
        have h0 : n = 0 := by
          rcases Nat.eq_zero_or_pos n with q | q
          · exact q
          · exact absurd c3 (nI_nle q (by omega))
        refine b_iload_n dX11_perform_73 rfl ?_
        exact b_iret dX11_perform_74 ⟨by simp only [c2, hix, hRe, if_true, hn'], by simp only [c2, hix, hRe, if_true, hn', h0]⟩
      · skip
        have h0 : ¬ n = 0 := fun z => c3 (by rw [z]; decide)
        refine b_aload_n dX11_perform_43 rfl ?_
        refine g_get dX11_perform_44 fX11_40 a0 rfl ?_
        refine b_aload_n dX11_perform_47 rfl ?_
        refine g_get dX11_perform_48 fX11_30 a0 rfl ?_
        refine g_callV [.ref (G.b0 + 26)] dX11_perform_51 kX4_keep lX11_177 a32 rfl rfl (c_keep hZ.1 hZ.2) rfl rfl (Nat.le_of_ble_eq_true rfl) ?_
        refine b_aload_n dX11_perform_54 rfl ?_
        refine g_get dX11_perform_55 fX11_30 a0 rfl ?_
        refine b_aload_n dX11_perform_58 rfl ?_
        refine g_get dX11_perform_59 fX11_23 a0 rfl ?_
        refine b_aload_n dX11_perform_62 rfl ?_
        refine g_get dX11_perform_63 fX11_67 a0 rfl ?_
        refine b_iload_n dX11_perform_66 rfl ?_
        refine g_rowld (j := j) dX11_perform_67 (by omega) ?_
        refine b_iload_n dX11_perform_68 rfl ?_
        have hX' : XV (keepS sz σ) W F P t := XV_keep hX
        refine g_callV [.ref (G.b0 + 20), .ref (G.b0 + ((49 + 2 * j))), .int (nI n)] dX11_perform_69 kX8_doDeeds lX11_214 a26 rfl rfl (c_doDeeds (t := t) (len := len) sa26 ln20 (rwj hj) hX'.1 (by omega) (by omega) hX'.2.1 (by omega) ((keepS_fr (by omega) (by omega)).trans hl) hl40 hnl (fun i hi => mAbleF_ok F P _ len 0 i (by omega) (by show i < mAble F P (μ (49 + 2 * j + 1)) len; omega))) rfl rfl (Nat.le_of_ble_eq_true rfl) ?_
        refine b_pop dX11_perform_72 rfl ?_
        refine b_iload_n dX11_perform_73 rfl ?_
        exact b_iret dX11_perform_74 ⟨by simp only [c2, hix, hRe, if_true, hn'], by simp only [c2, hix, hRe, if_true, hn', h0, if_false]; rw [show 49 + 2 * j + 1 = 50 + 2 * j by omega]⟩
  · skip
    refine b_bipush (v := -2) dX11_perform_7 (by decide) ?_
    exact b_iret dX11_perform_9 ⟨by simp [(bI_0 _).mp c1], by simp [(bI_0 _).mp c1]⟩
theorem yearS_fr {a b W F P : Nat} {c q : Nat} (h0 : c ≠ b) (h1 : c ≠ b + 1) (h2 : c ≠ b + 2) : ∀ n (σ : ST), yearS a b W F P n σ c q = σ c q
  | 0, _ => rfl
  | n + 1, σ => (yearS_fr h0 h1 h2 n _).trans (yrS_fr h0 h1 h2)
theorem yearS_t {a b W F P : Nat} (hW : 0 < W) : ∀ n (σ : ST) (t : Nat), σ b 2 = nI t → t < W → ∃ t', t' < W ∧ yearS a b W F P n σ b 2 = nI t'
  | 0, _, t, h1, h2 => ⟨t, h2, h1⟩
  | n + 1, σ, t, h1, h2 => by
    obtain ⟨t', h3, h4⟩ := yrS_t (a := a) (F := F) (P := P) hW h1 h2
    exact yearS_t hW n _ t' h4 h3
def yearX (sz W F P n : Nat) (seed : Int32) (σ : ST) : ST := yearS 20 26 W F P n (pt (keepS sz σ) 26 3 seed)
theorem c_X_year {G : GT} {d : Nat} {σ : ST} {μ : SL} {W F P t sz : Nat} {seed n : Int32} (hX : XV σ W F P t) (hZ : XP σ sz) : Fn G (d + 4) mX11_year [.ref (G.b0 + 0), .int seed, .int n] (sh G σ μ)
    (Ret (some (.int (if inB n 1 60 then (if W = 0 ∨ P = 0 ∨ F = 0 then -5 else mLeast (σ 23) (σ 22) (σ 20 5) W F P 0 (yearX sz W F P (ix n) seed σ 27) (ix (yearX sz W F P (ix n) seed σ 26 2))) else -3)))
      (sh G (if inB n 1 60 then (if W = 0 ∨ P = 0 ∨ F = 0 then σ else yearX sz W F P (ix n) seed σ) else σ) μ)) := by
  obtain ⟨⟨hW, hF, hP, hW16, hF8, hP6⟩, -⟩ := id hX
  refine fn_of (ls := [some (.ref (G.b0 + 0)), some (.int seed), some (.int n)]) (by decide +kernel) (Nat.le_of_ble_eq_true rfl) 0 rfl ?_
  refine b_iload_n dX11_year_0 rfl ?_
  refine b_iconst (v := nI 1) dX11_year_1 (by decide) ?_
  refine b_icmp_lt 11 dX11_year_2 (by decide) (fun c1 => ?_) (fun c1 => ?_)
  · skip
    refine b_bipush (v := -3) dX11_year_11 (by decide) ?_
    have c3 : inB n 1 60 = false := by simp [inB, Int32.not_le.mpr c1]
    exact b_iret dX11_year_13 ⟨by simp [c3], by simp [c3]⟩
  · skip
    refine b_iload_n dX11_year_5 rfl ?_
    refine b_bipush (v := nI 60) dX11_year_6 (by decide) ?_
    refine b_icmp_le 14 dX11_year_8 (by decide) (fun c2 => ?_) (fun c2 => ?_)
    · skip
      have c3 : inB n 1 60 = true := by simp [inB, Int32.not_lt.mp c1, c2]
      obtain ⟨j, hj1, hj2, rfl⟩ := inB_of (by omega) c3 (by omega)
      have hkx := ix_nI (show j < 2 ^ 31 by omega)
      refine b_aload_n dX11_year_14 rfl ?_
      refine g_get dX11_year_15 fX11_23 a0 rfl ?_
      refine g_geti (x := nI W) dX11_year_18 fX11_165 a20 rfl hW ?_
      refine b_if_eq 44 dX11_year_21 (by decide) (fun c4 => ?_) (fun c4 => ?_)
      · skip
        have h0 : W = 0 := by rw [← nI_0, nI_eq (by omega) (by omega)] at c4; exact c4
        refine b_bipush (v := -5) dX11_year_44 (by decide) ?_
        exact b_iret dX11_year_46 ⟨by simp [c3, h0], by simp [c3, h0]⟩
      · skip
        have hW0 : ¬ W = 0 := fun z => c4 (by rw [z]; rfl)
        refine b_aload_n dX11_year_24 rfl ?_
        refine g_get dX11_year_25 fX11_23 a0 rfl ?_
        refine g_geti (x := nI P) dX11_year_28 fX11_171 a20 rfl hP ?_
        refine b_if_eq 44 dX11_year_31 (by decide) (fun c5 => ?_) (fun c5 => ?_)
        · skip
          have h0 : P = 0 := by rw [← nI_0, nI_eq (by omega) (by omega)] at c5; exact c5
          refine b_bipush (v := -5) dX11_year_44 (by decide) ?_
          exact b_iret dX11_year_46 ⟨by simp [c3, h0], by simp [c3, h0]⟩
        · skip
          have hP0 : ¬ P = 0 := fun z => c5 (by rw [z]; rfl)
          refine b_aload_n dX11_year_34 rfl ?_
          refine g_get dX11_year_35 fX11_23 a0 rfl ?_
          refine g_geti (x := nI F) dX11_year_38 fX11_168 a20 rfl hF ?_
          refine b_if_ne 47 dX11_year_41 (by decide) (fun c6 => ?_) (fun c6 => ?_)
          · skip
            have hF0 : ¬ F = 0 := fun z => c6 (by rw [z]; rfl)
            refine b_aload_n dX11_year_47 rfl ?_
            refine g_get dX11_year_48 fX11_40 a0 rfl ?_
            refine b_aload_n dX11_year_51 rfl ?_
            refine g_get dX11_year_52 fX11_30 a0 rfl ?_
            refine g_callV [.ref (G.b0 + 26)] dX11_year_55 kX4_keep lX11_177 a32 rfl rfl (c_keep hZ.1 hZ.2) rfl rfl (Nat.le_of_ble_eq_true rfl) ?_
            refine b_aload_n dX11_year_58 rfl ?_
            refine g_get dX11_year_59 fX11_30 a0 rfl ?_
            refine b_aload_n dX11_year_62 rfl ?_
            refine g_get dX11_year_63 fX11_23 a0 rfl ?_
            refine b_iload_n dX11_year_66 rfl ?_
            refine b_iload_n dX11_year_67 rfl ?_
            have hX' : XV (keepS sz σ) W F P t := XV_keep hX
            have htW := hX.2.2.1 (by omega)
            refine g_callV [.ref (G.b0 + 20), .int seed, .int (nI j)] dX11_year_68 kX8_passYear lX11_222 a26 rfl rfl (c_passYear (t := t) sa26 ln20 hX'.1 (by omega) (by omega) (by omega) (by omega) hX'.2.1 htW (by omega)) rfl rfl (Nat.le_of_ble_eq_true rfl) ?_
            obtain ⟨t', ht1, ht2⟩ := yearS_t (a := 20) (F := F) (P := P) (by omega) j (pt (keepS sz σ) 26 3 seed) t ((pt_j (by omega)).trans hX'.2.1) htW
            have ht2 : yearX sz W F P j seed σ 26 2 = nI t' := ht2
            have hfr : ∀ c, c ≠ 26 → c ≠ 27 → c ≠ 28 → c ≠ 32 → c ≠ 33 → yearX sz W F P j seed σ c = σ c := fun c h1 h2 h3 h4 h5 => by
              funext q
              exact ((yearS_fr h1 h2 h3 j _).trans (pt_a h1)).trans (keepS_fr h4 h5)
            have hL' : LV (yearX sz W F P j seed σ) 20 W F P := LV_of hX.1 (fun q => congrFun (hfr 20 (by omega) (by omega) (by omega) (by omega) (by omega)) q)
            refine b_aload_n dX11_year_71 rfl ?_
            refine g_get dX11_year_72 fX11_23 a0 rfl ?_
            refine b_iconst (v := nI 0) dX11_year_75 (by decide) ?_
            refine b_aload_n dX11_year_76 rfl ?_
            refine g_get dX11_year_77 fX11_30 a0 rfl ?_
            refine g_get dX11_year_80 fX11_142 a26 rfl ?_
            refine b_aload_n dX11_year_83 rfl ?_
            refine g_get dX11_year_84 fX11_30 a0 rfl ?_
            refine g_geti (x := nI (t')) dX11_year_87 fX11_174 a26 rfl ht2 ?_
            refine g_callV [.int (nI 0), .ref (G.b0 + 27), .int (nI (t'))] dX11_year_90 kX2_leastBy lX11_218 a20 rfl rfl (c_leastBy (m := 0) ln20 a27 hL' (by omega) (by omega)) rfl rfl (Nat.le_of_ble_eq_true rfl) ?_
            have e1 : yearX sz W F P j seed σ 23 = σ 23 := hfr 23 (by omega) (by omega) (by omega) (by omega) (by omega)
            have e2 : yearX sz W F P j seed σ 22 = σ 22 := hfr 22 (by omega) (by omega) (by omega) (by omega) (by omega)
            have e3 : yearX sz W F P j seed σ 20 = σ 20 := hfr 20 (by omega) (by omega) (by omega) (by omega) (by omega)
            have e4 : ix (yearX sz W F P j seed σ 26 2) = t' := by rw [ht2]; exact ix_nI (by omega)
            have e5 : ¬ (W = 0 ∨ P = 0 ∨ F = 0) := by omega
            refine b_iret dX11_year_93 ⟨?_, ?_⟩
            · simp only [c3, if_true, e5, if_false, hkx]
              rw [e4]
              show some (Value.int (mLeast (yearX sz W F P j seed σ 23) (yearX sz W F P j seed σ 22) (yearX sz W F P j seed σ 20 5) W F P 0 _ t')) = _
              rw [e1, e2, e3]
              rfl
            · simp only [c3, if_true, e5, if_false, hkx]
              rfl
          · skip
            have h0 : F = 0 := by rw [← nI_0, nI_eq (by omega) (by omega)] at c6; exact c6
            refine b_bipush (v := -5) dX11_year_44 (by decide) ?_
            exact b_iret dX11_year_46 ⟨by simp [c3, h0], by simp [c3, h0]⟩
    · skip
      refine b_bipush (v := -3) dX11_year_11 (by decide) ?_
      have c3 : inB n 1 60 = false := by simp [inB, c2]
      exact b_iret dX11_year_13 ⟨by simp [c3], by simp [c3]⟩
/-! rows of numbers -/
theorem c_X_numbers {G : GT} {d : Nat} {σ : ST} {μ : SL} {row sort n : Int32} : Fn G (d + 3) mX11_numbers [.ref (G.b0 + 0), .int row, .int sort, .int n] (sh G σ μ)
    (Ret (some (.int (if inR row 4 && inR sort 4 then (if inR n 41 then nI 0 else -3) else -2)))
      (sh G (if inR row 4 && inR sort 4 && inR n 41 then pt (pt σ (49 + 2 * ix row) 2 sort) (49 + 2 * ix row) 1 n else σ) (if inR row 4 && inR sort 4 && inR n 41 then flL μ (50 + 2 * ix row) 40 0 else μ))) := by
  refine fn_of (ls := [some (.ref (G.b0 + 0)), some (.int row), some (.int sort), some (.int n)]) (by decide +kernel) (Nat.le_of_ble_eq_true rfl) 0 rfl ?_
  refine b_iload_n dX11_numbers_0 rfl ?_
  refine b_callSr [.int row] dX11_numbers_1 kX11_isRow lX11_200 c_isRow rfl rfl (Nat.le_of_ble_eq_true rfl) ?_
  refine b_if_eq 16 dX11_numbers_4 (by decide) (fun c1 => ?_) (fun c1 => ?_)
  · skip
    refine b_bipush (v := -2) dX11_numbers_16 (by decide) ?_
    have c2 := (bI_0 _).mp c1
    exact b_iret dX11_numbers_18 ⟨by simp [c2], by simp [c2]⟩
  · skip
    have c2 := (bI_1 _).mp c1
    obtain ⟨j, hj, rfl⟩ := inR_of (by omega) c2
    have hix := ix_nI (show j < 2 ^ 31 by omega)
    refine b_iload_n dX11_numbers_7 rfl ?_
    refine b_if_lt 16 dX11_numbers_8 (by decide) (fun c3 => ?_) (fun c3 => ?_)
    · skip
      refine b_bipush (v := -2) dX11_numbers_16 (by decide) ?_
      have c4 : inR sort 4 = false := by simp [inR, Int32.not_le.mpr c3]
      exact b_iret dX11_numbers_18 ⟨by simp [c4], by simp [c4]⟩
    · skip
      refine b_iload_n dX11_numbers_11 rfl ?_
      refine b_iconst (v := nI 4) dX11_numbers_12 (by decide) ?_
      refine b_icmp_lt 19 dX11_numbers_13 (by decide) (fun c5 => ?_) (fun c5 => ?_)
      · skip
        have c4 : inR sort 4 = true := by simp [inR, Int32.not_lt.mp c3, c5]
        refine b_iload_n dX11_numbers_19 rfl ?_
        refine b_if_lt 29 dX11_numbers_20 (by decide) (fun c6 => ?_) (fun c6 => ?_)
        · skip
          refine b_bipush (v := -3) dX11_numbers_29 (by decide) ?_
          have c7 : inR n 41 = false := by simp [inR, Int32.not_le.mpr c6]
          exact b_iret dX11_numbers_31 ⟨by simp [c2, c4, c7], by simp [c7]⟩
        · skip
          refine b_iload_n dX11_numbers_23 rfl ?_
          refine b_bipush (v := nI 40) dX11_numbers_24 (by decide) ?_
          refine b_icmp_le 32 dX11_numbers_26 (by decide) (fun c8 => ?_) (fun c8 => ?_)
          · skip
            have c7 : inR n 41 = true := by
              obtain ⟨u, hu, rfl⟩ := nI_of2 (n := 40) (by decide) c6 c8
              rw [inR_nI (by omega) (by omega)]; simp; omega
            refine b_aload_n dX11_numbers_32 rfl ?_
            refine g_get dX11_numbers_33 fX11_67 a0 rfl ?_
            refine b_iload_n dX11_numbers_36 rfl ?_
            refine g_rowld (j := j) dX11_numbers_37 (by omega) ?_
            refine b_iload_n dX11_numbers_38 rfl ?_
            refine b_iload_n dX11_numbers_39 rfl ?_
            refine g_callV [.int sort, .int n] dX11_numbers_40 kX6_renew lX11_318 (rwj (j := j) (by omega)).1 rfl rfl (c_renew (rwj hj)) rfl rfl (Nat.le_of_ble_eq_true rfl) ?_
            refine b_iconst (v := nI 0) dX11_numbers_43 (by decide) ?_
            exact b_iret dX11_numbers_44 ⟨by simp [c2, c4, c7], by simp only [c2, c4, c7, hix, Bool.and_self, if_true]; rw [show 49 + 2 * j + 1 = 50 + 2 * j by omega]⟩
          · skip
            refine b_bipush (v := -3) dX11_numbers_29 (by decide) ?_
            have c7 : inR n 41 = false := by
              have h1 : ¬ n < nI 41 := fun z => by
                rcases pk_ix n (n := 41) (by omega) with h2 | h2 | ⟨u, hu, rfl⟩
                · exact c6 h2
                · exact absurd z (Int32.not_lt.mpr h2)
                · exact c8 (nI_le (by omega) (by omega))
              simp [inR, h1]
            exact b_iret dX11_numbers_31 ⟨by simp [c2, c4, c7], by simp [c7]⟩
      · skip
        refine b_bipush (v := -2) dX11_numbers_16 (by decide) ?_
        have c4 : inR sort 4 = false := by simp [inR, c5]
        exact b_iret dX11_numbers_18 ⟨by simp [c4], by simp [c4]⟩

