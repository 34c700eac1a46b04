/-! ===== KnowsLeast: write, copy, images ===== -/
theorem c_X_write {G : GT} {d : Nat} {σ : ST} {μ : SL} {row i : Int32} {v : Int64} {R : Nat → Option (Nat × Nat)} (hR : ∀ j, j < 4 → RowIs σ μ j (R j)) : Fn G (d + 2) mX11_write [.ref (G.b0 + 0), .int row, .int i, .long v] (sh G σ μ)
    (Ret (some (.long (if inR row 4 then (match R (ix row) with | none => -6 | some q => if inR i q.1 then mCut q.2 v else -7) else -2)))
      (sh G σ (if inR row 4 then (match R (ix row) with | none => μ | some q => if inR i q.1 then ptL μ (50 + 2 * ix row) (ix i) (mCut q.2 v) else μ) else μ))) := by
  refine fn_of (ls := [some (.ref (G.b0 + 0)), some (.int row), some (.int i), some (.long v), none]) (by decide +kernel) (Nat.le_of_ble_eq_true rfl) 0 rfl ?_
  refine b_iload_n dX11_write_0 rfl ?_
  refine b_callSr [.int row] dX11_write_1 kX11_isRow lX11_200 c_isRow rfl rfl (Nat.le_of_ble_eq_true rfl) ?_
  refine b_if_ne 11 dX11_write_4 (by decide) (fun c1 => ?_) (fun c1 => ?_)
  · skip
    have c2 := (bI_1 _).mp c1
    obtain ⟨j, hj, rfl⟩ := inR_of (by omega) c2
    have hix := ix_nI (show j < 2 ^ 31 by omega)
    refine b_aload_n dX11_write_11 rfl ?_
    refine g_get dX11_write_12 fX11_67 a0 rfl ?_
    refine b_iload_n dX11_write_15 rfl ?_
    refine g_rowld (j := j) dX11_write_16 (by omega) ?_
    refine g_callV [] dX11_write_17 kX6_isMissing lX11_203 (rwj (j := j) (by omega)).1 rfl rfl (c_isMissing (rwj hj)) rfl rfl (Nat.le_of_ble_eq_true rfl) ?_
    have hRj := hR j hj
    cases hRe : R j with
    | none =>
      rw [hRe] at hRj
      have hRj : σ (49 + 2 * j) 1 = -1 := hRj
      rw [hRj, mMiss_m]
      refine b_if_eq_f 27 dX11_write_20 (by decide) (by decide) ?_
      refine b_ldc2 dX11_write_23 cvX11_324 ?_
      exact b_lret dX11_write_26 ⟨by simp only [c2, hix, hRe, if_true], by simp only [c2, hix, hRe, if_true]⟩
    | some q =>
      obtain ⟨len, sort⟩ := q
      rw [hRe] at hRj
      obtain ⟨hl, hs, hl40, hs4⟩ := hRj
      have hl : σ (49 + 2 * j) 1 = nI len := hl
      have hs : σ (49 + 2 * j) 2 = nI sort := hs
      have hl40 : len ≤ 40 := hl40
      rw [hl, mMiss_n (by omega)]
      refine b_if_eq_t 27 dX11_write_20 (by decide) (by decide) ?_
      refine b_iload_n dX11_write_27 rfl ?_
      refine b_if_lt 44 dX11_write_28 (by decide) (fun c3 => ?_) (fun c3 => ?_)
      · skip
        refine b_ldc2 dX11_write_44 cvX11_326 ?_
        have c4 : inR i len = false := by simp [inR, Int32.not_le.mpr c3]
        exact b_lret dX11_write_47 ⟨by simp only [c2, hix, hRe, if_true, c4]; rfl, by simp only [c2, hix, hRe, if_true, c4]; rfl⟩
      · skip
        refine b_iload_n dX11_write_31 rfl ?_
        refine b_aload_n dX11_write_32 rfl ?_
        refine g_get dX11_write_33 fX11_67 a0 rfl ?_
        refine b_iload_n dX11_write_36 rfl ?_
        refine g_rowld (j := j) dX11_write_37 (by omega) ?_
        refine g_geti (x := nI len) dX11_write_38 fX11_211 (rwj (j := j) (by omega)).1 rfl hl ?_
        refine b_icmp_lt 48 dX11_write_41 (by decide) (fun c5 => ?_) (fun c5 => ?_)
        · skip
          have c4 : inR i len = true := by simp [inR, Int32.not_lt.mp c3, c5]
          obtain ⟨k, hk, rfl⟩ := inR_of (by omega) c4
          have hkx := ix_nI (show k < 2 ^ 31 by omega)
          refine b_aload_n dX11_write_48 rfl ?_
          refine g_get dX11_write_49 fX11_67 a0 rfl ?_
          refine b_iload_n dX11_write_52 rfl ?_
          refine g_rowld (j := j) dX11_write_53 (by omega) ?_
          refine b_iload_n dX11_write_54 rfl ?_
          refine b_lload_n dX11_write_55 rfl ?_
          refine g_callV [.int (nI k), .long v] dX11_write_56 kX6_put lX11_328 (rwj (j := j) (by omega)).1 rfl rfl (c_put (rwj hj) hl hs hk hl40 hs4) rfl rfl (Nat.le_of_ble_eq_true rfl) ?_
          refine b_aload_n dX11_write_59 rfl ?_
          refine g_get dX11_write_60 fX11_67 a0 rfl ?_
          refine b_iload_n dX11_write_63 rfl ?_
          refine g_rowld (j := j) dX11_write_64 (by omega) ?_
          refine g_get dX11_write_65 fX11_309 (rwj (j := j) (by omega)).1 rfl ?_
          refine b_iload_n dX11_write_68 rfl ?_
          refine g_lald dX11_write_69 (rwj (j := j) (by omega)).2 rfl (by omega) ?_
          have e : ptL μ (49 + 2 * j + 1) k (mCut sort v) (49 + 2 * j + 1) k = mCut sort v := by simp [ptL]
          exact b_lret dX11_write_70 ⟨by simp only [c2, hix, hRe, if_true, c4]; rw [e], by simp only [c2, hix, hRe, if_true, c4, hkx]; rw [show 49 + 2 * j + 1 = 50 + 2 * j by omega]⟩
        · skip
          refine b_ldc2 dX11_write_44 cvX11_326 ?_
          have c4 : inR i len = false := by simp [inR, c5]
          exact b_lret dX11_write_47 ⟨by simp only [c2, hix, hRe, if_true, c4]; rfl, by simp only [c2, hix, hRe, if_true, c4]; rfl⟩
  · skip
    refine b_ldc2 dX11_write_7 cvX11_322 ?_
    exact b_lret dX11_write_10 ⟨by simp [(bI_0 _).mp c1], by simp [(bI_0 _).mp c1]⟩
/-- the first n people's facts come into a row -/
def cpyR (μ : SL) (r sort : Nat) (told : Nat → Int32) (n : Nat) : SL := fun c q => if c = r ∧ q < n then mCut sort (told q).toInt64 else μ c q
theorem cpyR_s (μ : SL) (r sort : Nat) (told : Nat → Int32) (n : Nat) : ptL (cpyR μ r sort told n) r n (mCut sort (told n).toInt64) = cpyR μ r sort told (n + 1) := by
  funext c q
  by_cases hc : c = r
  · by_cases hq : q = n
    · simp [ptL, cpyR, hc, hq]
    · have : (q < n + 1) = (q < n) := by simp; omega
      simp [ptL, cpyR, hc, hq, this]
  · simp [ptL, cpyR, hc]
theorem c_X_copy {G : GT} {d : Nat} {σ : ST} {μ : SL} {W F P t : Nat} {row : Int32} {R : Nat → Option (Nat × Nat)} (hX : XV σ W F P t) (hR : ∀ j, j < 4 → RowIs σ μ j (R j)) : Fn G (d + 2) mX11_copy [.ref (G.b0 + 0), .int row] (sh G σ μ)
    (Ret (some (.int (if inR row 4 then (match R (ix row) with | none => -6 | some q => nI (min P q.1)) else -2)))
      (sh G σ (if inR row 4 then (match R (ix row) with | none => μ | some q => cpyR μ (50 + 2 * ix row) q.2 (σ 27) (min P q.1)) else μ))) := by
  obtain ⟨⟨hW, hF, hP, hW16, hF8, hP6⟩, -⟩ := id hX
  refine fn_of (ls := [some (.ref (G.b0 + 0)), some (.int row), none, none]) (by decide +kernel) (Nat.le_of_ble_eq_true rfl) 2 rfl ?_
  refine b_iload_n dX11_copy_0 rfl ?_
  refine b_callSr [.int row] dX11_copy_1 kX11_isRow lX11_200 c_isRow rfl rfl (Nat.le_of_ble_eq_true rfl) ?_
  refine b_if_ne 10 dX11_copy_4 (by decide) (fun c1 => ?_) (fun c1 => ?_)
  · skip
    have c2 := (bI_1 _).mp c1
    obtain ⟨j, hj, rfl⟩ := inR_of (by omega) c2
    have hix := ix_nI (show j < 2 ^ 31 by omega)
    refine b_aload_n dX11_copy_10 rfl ?_
    refine g_get dX11_copy_11 fX11_67 a0 rfl ?_
    refine b_iload_n dX11_copy_14 rfl ?_
    refine g_rowld (j := j) dX11_copy_15 (by omega) ?_
    refine g_callV [] dX11_copy_16 kX6_isMissing lX11_203 (rwj (j := j) (by omega)).1 rfl rfl (c_isMissing (rwj hj)) rfl rfl (Nat.le_of_ble_eq_true rfl) ?_
    have hRj := hR j hj
    cases hRe : R j with
    | none =>
      rw [hRe] at hRj
      have hRj : σ (49 + 2 * j) 1 = -1 := hRj
      rw [hRj, mMiss_m]
      refine b_if_eq_f 25 dX11_copy_19 (by decide) (by decide) ?_
      refine b_bipush (v := -6) dX11_copy_22 (by decide) ?_
      exact b_iret dX11_copy_24 ⟨by simp only [c2, hix, hRe, if_true], by simp only [c2, hix, hRe, if_true]⟩
    | some q =>
      obtain ⟨len, sort⟩ := q
      rw [hRe] at hRj
      obtain ⟨hl, hs, hl40, hs4⟩ := hRj
      have hl : σ (49 + 2 * j) 1 = nI len := hl
      have hs : σ (49 + 2 * j) 2 = nI sort := hs
      have hl40 : len ≤ 40 := hl40
      rw [hl, mMiss_n (by omega)]
      refine b_if_eq_t 25 dX11_copy_19 (by decide) (by decide) ?_
      refine b_aload_n dX11_copy_25 rfl ?_
      refine g_get dX11_copy_26 fX11_23 a0 rfl ?_
      refine g_geti (x := nI P) dX11_copy_29 fX11_171 a20 rfl hP ?_
      refine b_aload_n dX11_copy_32 rfl ?_
      refine g_get dX11_copy_33 fX11_67 a0 rfl ?_
      refine b_iload_n dX11_copy_36 rfl ?_
      refine g_rowld (j := j) dX11_copy_37 (by omega) ?_
      refine g_geti (x := nI len) dX11_copy_38 fX11_211 (rwj (j := j) (by omega)).1 rfl hl ?_
      refine b_mmin dX11_copy_41 lX11_332 (Nat.le_of_ble_eq_true rfl) ?_
      have emin : mMin (nI P) (nI len) = nI (min P len) := by
        unfold mMin
        by_cases h : len < P
        · rw [if_pos (nI_lt h (by omega)), Nat.min_eq_right (by omega)]
        · rw [if_neg (nI_nlt (by omega) (by omega)), Nat.min_eq_left (by omega)]
      refine b_top emin ?_
      refine b_istore_n dX11_copy_44 (by decide) rfl ?_
      refine b_iconst (v := nI 0) dX11_copy_45 (by decide) ?_
      refine b_istore_n dX11_copy_46 (by decide) rfl ?_
      have lp : ∀ (n i : Nat), i + n = min P len → BB G RX11 cX11_copy 4 (some .int) (d + 2) (QM G (Ret (some (.int (if inR (nI j) 4 then (match R (ix (nI j)) with | none => -6 | some q => nI (min P q.1)) else -2))) (sh G σ (if inR (nI j) 4 then (match R (ix (nI j)) with | none => μ | some q => cpyR μ (50 + 2 * ix (nI j)) q.2 (σ 27) (min P q.1)) else μ)))) 47 [some (.ref (G.b0 + 0)), some (.int (nI j)), some (.int (nI (min P len))), some (.int (nI i))] [] (sh G σ (cpyR μ (49 + 2 * j + 1) sort (σ 27) i)) := by
        intro n
        induction n with
        | zero =>
          intro i hi
          refine b_iload_n dX11_copy_47 rfl ?_
          refine b_iload_n dX11_copy_48 rfl ?_
          refine b_icmp_ge_t 78 dX11_copy_49 (by decide) (nI_le (by omega) (by omega)) ?_
          refine b_iload_n dX11_copy_78 rfl ?_
          exact b_iret dX11_copy_79 ⟨by simp only [c2, hix, hRe, if_true], by simp only [c2, hix, hRe, if_true]; rw [show 49 + 2 * j + 1 = 50 + 2 * j by omega, show i = min P len by omega]⟩
        | succ n ih =>
          intro i hi
          refine b_iload_n dX11_copy_47 rfl ?_
          refine b_iload_n dX11_copy_48 rfl ?_
          refine b_icmp_ge_f 78 dX11_copy_49 (by decide) (nI_ge (by omega) (by omega)) ?_
          refine b_aload_n dX11_copy_52 rfl ?_
          refine g_get dX11_copy_53 fX11_67 a0 rfl ?_
          refine b_iload_n dX11_copy_56 rfl ?_
          refine g_rowld (j := j) dX11_copy_57 (by omega) ?_
          refine b_iload_n dX11_copy_58 rfl ?_
          refine b_aload_n dX11_copy_59 rfl ?_
          refine g_get dX11_copy_60 fX11_30 a0 rfl ?_
          refine g_get dX11_copy_63 fX11_142 a26 rfl ?_
          refine b_iload_n dX11_copy_66 rfl ?_
          refine g_iald dX11_copy_67 a27 rfl (by omega) ?_
          refine b_i2l dX11_copy_68 ?_
          refine g_callV [.int (nI i), .long ((σ 27 i).toInt64)] dX11_copy_69 kX6_put lX11_328 (rwj (j := j) (by omega)).1 rfl rfl (c_put (rwj hj) hl hs (by omega) hl40 hs4) rfl rfl (Nat.le_of_ble_eq_true rfl) ?_
          rw [show ptL (cpyR μ (49 + 2 * j + 1) sort (σ 27) i) (49 + 2 * j + 1) i (mCut sort (σ (26 + 1) i).toInt64) = cpyR μ (49 + 2 * j + 1) sort (σ 27) (i + 1) from cpyR_s _ _ _ _ _]
          refine b_iinc dX11_copy_72 rfl (nI_1 _) (by decide) rfl ?_
          refine b_goto 47 dX11_copy_75 (by decide) ?_
          exact ih (i + 1) (by omega)
      have h0 := lp (min P len) 0 (by omega)
      rw [show cpyR μ (49 + 2 * j + 1) sort (σ 27) 0 = μ by funext c q; simp [cpyR]] at h0
      exact h0
  · skip
    refine b_bipush (v := -2) dX11_copy_7 (by decide) ?_
    exact b_iret dX11_copy_9 ⟨by simp [(bI_0 _).mp c1], by simp [(bI_0 _).mp c1]⟩
/-! images -/
def imgS (σ : ST) (i : Nat) : ST := pt (bcmS (bcmL σ 20 (58 + 10 * i)) 26 (64 + 10 * i)) (57 + 10 * i) 2 (nI 1)
theorem c_X_image {G : GT} {d : Nat} {σ : ST} {μ : SL} {i : Int32} : Fn G (d + 2) mX11_image [.ref (G.b0 + 0), .int i] (sh G σ μ) (Ret (some (.int (if inR i 2 then nI 0 else -2))) (sh G (if inR i 2 then imgS σ (ix i) else σ) μ)) := by
  refine fn_of (ls := [some (.ref (G.b0 + 0)), some (.int i)]) (by decide +kernel) (Nat.le_of_ble_eq_true rfl) 0 rfl ?_
  refine b_iload_n dX11_image_0 rfl ?_
  refine b_if_lt 9 dX11_image_1 (by decide) (fun c1 => ?_) (fun c1 => ?_)
  · skip
    refine b_bipush (v := -2) dX11_image_9 (by decide) ?_
    have c2 : inR i 2 = false := by simp [inR, Int32.not_le.mpr c1]
    exact b_iret dX11_image_11 ⟨by simp [c2], by simp [c2]⟩
  · skip
    refine b_iload_n dX11_image_4 rfl ?_
    refine b_iconst (v := nI 2) dX11_image_5 (by decide) ?_
    refine b_icmp_lt 12 dX11_image_6 (by decide) (fun c3 => ?_) (fun c3 => ?_)
    · skip
      have c2 : inR i 2 = true := by simp [inR, Int32.not_lt.mp c1, c3]
      obtain ⟨j, hj, rfl⟩ := inR_of (by omega) c2
      have hix := ix_nI (show j < 2 ^ 31 by omega)
      rcases (show j = 0 ∨ j = 1 by omega) with rfl | rfl
      · skip
        refine b_aload_n dX11_image_12 rfl ?_
        refine g_get dX11_image_13 fX11_73 a0 rfl ?_
        refine b_iload_n dX11_image_16 rfl ?_
        refine g_aald (b := 57) dX11_image_17 (by decide) a48 rfl rfl (by decide) (by decide) rfl ?_
        refine g_get dX11_image_18 fX11_337 a57 rfl ?_
        refine b_aload_n dX11_image_21 rfl ?_
        refine g_get dX11_image_22 fX11_23 a0 rfl ?_
        refine g_callV [.ref (G.b0 + 20)] dX11_image_25 kX2_become lX11_95 a58 rfl rfl (c_Lbecome ln58 ln20 (by omega)) rfl rfl (Nat.le_of_ble_eq_true rfl) ?_
        refine b_aload_n dX11_image_28 rfl ?_
        refine g_get dX11_image_29 fX11_73 a0 rfl ?_
        refine b_iload_n dX11_image_32 rfl ?_
        refine g_aald (b := 57) dX11_image_33 (by decide) a48 rfl rfl (by decide) (by decide) rfl ?_
        refine g_get dX11_image_34 fX11_338 a57 rfl ?_
        refine b_aload_n dX11_image_37 rfl ?_
        refine g_get dX11_image_38 fX11_30 a0 rfl ?_
        refine g_callV [.ref (G.b0 + 26)] dX11_image_41 kX8_become lX11_100 a64 rfl rfl (c_Sbecome sa64 sa26 (by omega)) rfl rfl (Nat.le_of_ble_eq_true rfl) ?_
        refine b_aload_n dX11_image_44 rfl ?_
        refine g_get dX11_image_45 fX11_73 a0 rfl ?_
        refine b_iload_n dX11_image_48 rfl ?_
        refine g_aald (b := 57) dX11_image_49 (by decide) a48 rfl rfl (by decide) (by decide) rfl ?_
        refine b_iconst (v := nI 1) dX11_image_50 (by decide) ?_
        refine g_putz dX11_image_51 wX11_339 a57 (by decide) (Nat.le_of_ble_eq_true rfl) rfl ?_
        refine b_iconst (v := nI 0) dX11_image_54 (by decide) ?_
        exact b_iret dX11_image_55 ⟨by simp only [c2, if_true], by simp only [c2, hix, if_true]; rfl⟩
      · skip
        refine b_aload_n dX11_image_12 rfl ?_
        refine g_get dX11_image_13 fX11_73 a0 rfl ?_
        refine b_iload_n dX11_image_16 rfl ?_
        refine g_aald (b := 67) dX11_image_17 (by decide) a48 rfl rfl (by decide) (by decide) rfl ?_
        refine g_get dX11_image_18 fX11_337 a67 rfl ?_
        refine b_aload_n dX11_image_21 rfl ?_
        refine g_get dX11_image_22 fX11_23 a0 rfl ?_
        refine g_callV [.ref (G.b0 + 20)] dX11_image_25 kX2_become lX11_95 a68 rfl rfl (c_Lbecome ln68 ln20 (by omega)) rfl rfl (Nat.le_of_ble_eq_true rfl) ?_
        refine b_aload_n dX11_image_28 rfl ?_
        refine g_get dX11_image_29 fX11_73 a0 rfl ?_
        refine b_iload_n dX11_image_32 rfl ?_
        refine g_aald (b := 67) dX11_image_33 (by decide) a48 rfl rfl (by decide) (by decide) rfl ?_
        refine g_get dX11_image_34 fX11_338 a67 rfl ?_
        refine b_aload_n dX11_image_37 rfl ?_
        refine g_get dX11_image_38 fX11_30 a0 rfl ?_
        refine g_callV [.ref (G.b0 + 26)] dX11_image_41 kX8_become lX11_100 a74 rfl rfl (c_Sbecome sa74 sa26 (by omega)) rfl rfl (Nat.le_of_ble_eq_true rfl) ?_
        refine b_aload_n dX11_image_44 rfl ?_
        refine g_get dX11_image_45 fX11_73 a0 rfl ?_
        refine b_iload_n dX11_image_48 rfl ?_
        refine g_aald (b := 67) dX11_image_49 (by decide) a48 rfl rfl (by decide) (by decide) rfl ?_
        refine b_iconst (v := nI 1) dX11_image_50 (by decide) ?_
        refine g_putz dX11_image_51 wX11_339 a67 (by decide) (Nat.le_of_ble_eq_true rfl) rfl ?_
        refine b_iconst (v := nI 0) dX11_image_54 (by decide) ?_
        exact b_iret dX11_image_55 ⟨by simp only [c2, if_true], by simp only [c2, hix, if_true]; rfl⟩
    · skip
      refine b_bipush (v := -2) dX11_image_9 (by decide) ?_
      have c2 : inR i 2 = false := by simp [inR, c3]
      exact b_iret dX11_image_11 ⟨by simp [c2], by simp [c2]⟩
def resS (σ : ST) (i : Nat) : ST := pt (bcmS (bcmL σ (58 + 10 * i) 20) (64 + 10 * i) 26) 32 1 (nI 0)
theorem c_X_restore {G : GT} {d : Nat} {σ : ST} {μ : SL} {i : Int32} : Fn G (d + 2) mX11_restore [.ref (G.b0 + 0), .int i] (sh G σ μ) (Ret (some (.int (if inR i 2 then (if σ (57 + 10 * ix i) 2 = 0 then -5 else nI 0) else -2))) (sh G (if inR i 2 then (if σ (57 + 10 * ix i) 2 = 0 then σ else resS σ (ix i)) else σ) μ)) := by
  refine fn_of (ls := [some (.ref (G.b0 + 0)), some (.int i)]) (by decide +kernel) (Nat.le_of_ble_eq_true rfl) 0 rfl ?_
  refine b_iload_n dX11_restore_0 rfl ?_
  refine b_if_lt 9 dX11_restore_1 (by decide) (fun c1 => ?_) (fun c1 => ?_)
  · skip
    refine b_bipush (v := -2) dX11_restore_9 (by decide) ?_
    have c2 : inR i 2 = false := by simp [inR, Int32.not_le.mpr c1]
    exact b_iret dX11_restore_11 ⟨by simp [c2], by simp [c2]⟩
  · skip
    refine b_iload_n dX11_restore_4 rfl ?_
    refine b_iconst (v := nI 2) dX11_restore_5 (by decide) ?_
    refine b_icmp_lt 12 dX11_restore_6 (by decide) (fun c3 => ?_) (fun c3 => ?_)
    · skip
      have c2 : inR i 2 = true := by simp [inR, Int32.not_lt.mp c1, c3]
      obtain ⟨j, hj, rfl⟩ := inR_of (by omega) c2
      have hix := ix_nI (show j < 2 ^ 31 by omega)
      rcases (show j = 0 ∨ j = 1 by omega) with rfl | rfl
      · skip
        refine b_aload_n dX11_restore_12 rfl ?_
        refine g_get dX11_restore_13 fX11_73 a0 rfl ?_
        refine b_iload_n dX11_restore_16 rfl ?_
        refine g_aald (b := 57) dX11_restore_17 (by decide) a48 rfl rfl (by decide) (by decide) rfl ?_
        refine g_get dX11_restore_18 fX11_339 a57 rfl ?_
        refine b_if_ne 27 dX11_restore_21 (by decide) (fun c4 => ?_) (fun c4 => ?_)
        · skip
          refine b_aload_n dX11_restore_27 rfl ?_
          refine g_get dX11_restore_28 fX11_23 a0 rfl ?_
          refine b_aload_n dX11_restore_31 rfl ?_
          refine g_get dX11_restore_32 fX11_73 a0 rfl ?_
          refine b_iload_n dX11_restore_35 rfl ?_
          refine g_aald (b := 57) dX11_restore_36 (by decide) a48 rfl rfl (by decide) (by decide) rfl ?_
          refine g_get dX11_restore_37 fX11_337 a57 rfl ?_
          refine g_callV [.ref (G.b0 + 58)] dX11_restore_40 kX2_become lX11_95 a20 rfl rfl (c_Lbecome ln20 ln58 (by omega)) rfl rfl (Nat.le_of_ble_eq_true rfl) ?_
          refine b_aload_n dX11_restore_43 rfl ?_
          refine g_get dX11_restore_44 fX11_30 a0 rfl ?_
          refine b_aload_n dX11_restore_47 rfl ?_
          refine g_get dX11_restore_48 fX11_73 a0 rfl ?_
          refine b_iload_n dX11_restore_51 rfl ?_
          refine g_aald (b := 57) dX11_restore_52 (by decide) a48 rfl rfl (by decide) (by decide) rfl ?_
          refine g_get dX11_restore_53 fX11_338 a57 rfl ?_
          refine g_callV [.ref (G.b0 + 64)] dX11_restore_56 kX8_become lX11_100 a26 rfl rfl (c_Sbecome sa26 sa64 (by omega)) rfl rfl (Nat.le_of_ble_eq_true rfl) ?_
          refine b_aload_n dX11_restore_59 rfl ?_
          refine g_get dX11_restore_60 fX11_40 a0 rfl ?_
          refine g_callV [] dX11_restore_63 kX4_forget lX11_103 a32 rfl rfl c_forget rfl rfl (Nat.le_of_ble_eq_true rfl) ?_
          refine b_iconst (v := nI 0) dX11_restore_66 (by decide) ?_
          exact b_iret dX11_restore_67 ⟨by simp only [c2, hix, if_true]; exact (congrArg (fun z => some (Value.int z)) (if_neg c4)).symm, by simp only [c2, hix, if_true]; exact (congrArg (fun z => sh G z μ) (if_neg c4)).symm⟩
        · skip
          refine b_bipush (v := -5) dX11_restore_24 (by decide) ?_
          exact b_iret dX11_restore_26 ⟨by simp only [c2, hix, if_true]; exact (congrArg (fun z => some (Value.int z)) (if_pos c4)).symm, by simp only [c2, hix, if_true]; exact (congrArg (fun z => sh G z μ) (if_pos c4)).symm⟩
      · skip
        refine b_aload_n dX11_restore_12 rfl ?_
        refine g_get dX11_restore_13 fX11_73 a0 rfl ?_
        refine b_iload_n dX11_restore_16 rfl ?_
        refine g_aald (b := 67) dX11_restore_17 (by decide) a48 rfl rfl (by decide) (by decide) rfl ?_
        refine g_get dX11_restore_18 fX11_339 a67 rfl ?_
        refine b_if_ne 27 dX11_restore_21 (by decide) (fun c4 => ?_) (fun c4 => ?_)
        · skip
          refine b_aload_n dX11_restore_27 rfl ?_
          refine g_get dX11_restore_28 fX11_23 a0 rfl ?_
          refine b_aload_n dX11_restore_31 rfl ?_
          refine g_get dX11_restore_32 fX11_73 a0 rfl ?_
          refine b_iload_n dX11_restore_35 rfl ?_
          refine g_aald (b := 67) dX11_restore_36 (by decide) a48 rfl rfl (by decide) (by decide) rfl ?_
          refine g_get dX11_restore_37 fX11_337 a67 rfl ?_
          refine g_callV [.ref (G.b0 + 68)] dX11_restore_40 kX2_become lX11_95 a20 rfl rfl (c_Lbecome ln20 ln68 (by omega)) rfl rfl (Nat.le_of_ble_eq_true rfl) ?_
          refine b_aload_n dX11_restore_43 rfl ?_
          refine g_get dX11_restore_44 fX11_30 a0 rfl ?_
          refine b_aload_n dX11_restore_47 rfl ?_
          refine g_get dX11_restore_48 fX11_73 a0 rfl ?_
          refine b_iload_n dX11_restore_51 rfl ?_
          refine g_aald (b := 67) dX11_restore_52 (by decide) a48 rfl rfl (by decide) (by decide) rfl ?_
          refine g_get dX11_restore_53 fX11_338 a67 rfl ?_
          refine g_callV [.ref (G.b0 + 74)] dX11_restore_56 kX8_become lX11_100 a26 rfl rfl (c_Sbecome sa26 sa74 (by omega)) rfl rfl (Nat.le_of_ble_eq_true rfl) ?_
          refine b_aload_n dX11_restore_59 rfl ?_
          refine g_get dX11_restore_60 fX11_40 a0 rfl ?_
          refine g_callV [] dX11_restore_63 kX4_forget lX11_103 a32 rfl rfl c_forget rfl rfl (Nat.le_of_ble_eq_true rfl) ?_
          refine b_iconst (v := nI 0) dX11_restore_66 (by decide) ?_
          exact b_iret dX11_restore_67 ⟨by simp only [c2, hix, if_true]; exact (congrArg (fun z => some (Value.int z)) (if_neg c4)).symm, by simp only [c2, hix, if_true]; exact (congrArg (fun z => sh G z μ) (if_neg c4)).symm⟩
        · skip
          refine b_bipush (v := -5) dX11_restore_24 (by decide) ?_
          exact b_iret dX11_restore_26 ⟨by simp only [c2, hix, if_true]; exact (congrArg (fun z => some (Value.int z)) (if_pos c4)).symm, by simp only [c2, hix, if_true]; exact (congrArg (fun z => sh G z μ) (if_pos c4)).symm⟩
    · skip
      refine b_bipush (v := -2) dX11_restore_9 (by decide) ?_
      have c2 : inR i 2 = false := by simp [inR, c3]
      exact b_iret dX11_restore_11 ⟨by simp [c2], by simp [c2]⟩

