/-! ===== the reference: depth, common, reach, differ, appeals, count, fault ===== -/
theorem nI_z {n : Nat} (h : n < 2 ^ 31) (c : nI n = 0) : n = 0 := by rw [← nI_0, nI_eq h (by omega)] at c; exact c
theorem m_X_depth {G : GT} {d : Nat} {σ : ST} {μ : SL} {L : LD} {x : Int32} (hM : MV σ L) (hK : LBh L) : Fn G (d + 4) mX12_depth [.ref (G.b0 + 77), .int x] (sh G σ μ) (Ret (some (.int (oDepth L x))) (sh G σ μ)) := by
  have hb := hM.b
  refine fn_of (ls := [some (.ref (G.b0 + 77)), some (.int x)]) (by decide +kernel) (Nat.le_of_ble_eq_true rfl) 0 rfl ?_
  refine b_aload_n dX12_depth_0 rfl ?_
  refine b_iconst (v := nI 0) dX12_depth_1 (by decide) ?_
  refine g_put dX12_depth_2 wX12_1 a77 tfX12_0 (Nat.le_of_ble_eq_true rfl) rfl ?_
  refine b_sig hM.t0 ?_
  refine b_aload_n dX12_depth_5 rfl ?_
  refine b_iload_n dX12_depth_6 rfl ?_
  refine b_i2l dX12_depth_7 ?_
  refine g_callV [.long x.toInt64] dX12_depth_8 kX12_isFact lX12_241 a77 rfl rfl (m_isFactI hM) rfl rfl (Nat.le_of_ble_eq_true rfl) ?_
  refine b_if_ne 17 dX12_depth_11 (by decide) (fun c1 => ?_) (fun c1 => ?_)
  · skip
    have c2 := (bI_1 _).mp c1
    obtain ⟨j, hj, rfl⟩ := inR_of (by omega) c2
    have hjx := ix_nI (show j < 2 ^ 31 by omega)
    refine b_aload_n dX12_depth_17 rfl ?_
    refine g_get dX12_depth_18 fX12_13 a77 rfl ?_
    refine b_iconst (v := nI 1) dX12_depth_21 (by decide) ?_
    refine g_iald dX12_depth_22 a78 rfl (by omega) ?_
    refine b_top hM.cW ?_
    refine b_if_ne 31 dX12_depth_23 (by decide) (fun c5 => ?_) (fun c5 => ?_)
    · skip
      have h0 : ¬ L.W = 0 := fun z => c5 (by rw [z]; rfl)
      refine b_aload_n dX12_depth_31 rfl ?_
      refine b_iload_n dX12_depth_32 rfl ?_
      refine g_callV [.int (nI j)] dX12_depth_33 kX12_depthOf lX12_313 a77 rfl rfl (m_depthOf hM hK hj h0) rfl rfl (Nat.le_of_ble_eq_true rfl) ?_
      exact b_iret dX12_depth_36 ⟨by simp [oDepth, c2, hjx, h0], rfl⟩
    · skip
      have h0 : L.W = 0 := nI_z (by omega) c5
      refine b_bipush (v := -5) dX12_depth_26 (by decide) ?_
      refine b_goto 36 dX12_depth_28 (by decide) ?_
      exact b_iret dX12_depth_36 ⟨by simp [oDepth, c2, hjx, h0], rfl⟩
  · skip
    refine b_bipush (v := -2) dX12_depth_14 (by decide) ?_
    exact b_iret dX12_depth_16 ⟨by simp [oDepth, (bI_0 _).mp c1], rfl⟩
theorem stp_fix {L : LD} (hW : L.W ≤ 16) (ht : L.t < L.W) : ∀ k n, k + n = 16 → (∃ m, m ≤ n ∧ step L (stp L m (atT L)) = stp L m (atT L)) ∨ n < cnt (stp L n (atT L)) 16 → ∃ m, m ≤ 16 ∧ step L (stp L m (atT L)) = stp L m (atT L)
  | 0, n, h, hc => by
    rcases hc with ⟨m, h1, h2⟩ | hc
    · exact ⟨m, by omega, h2⟩
    · have := cnt_le (stp L n (atT L)) 16; omega
  | k + 1, n, h, hc => by
    rcases hc with ⟨m, h1, h2⟩ | hc
    · exact ⟨m, by omega, h2⟩
    · by_cases e : step L (stp L n (atT L)) = stp L n (atT L)
      · exact ⟨n, by omega, e⟩
      · refine stp_fix hW ht k (n + 1) (by omega) (Or.inr ?_)
        rw [stp_s]
        obtain ⟨j, hj, hj1, hj2⟩ : ∃ j, j < 32 ∧ bt (step L (stp L n (atT L))) j = true ∧ bt (stp L n (atT L)) j = false := by
          refine Classical.byContradiction (fun z => e (sbs_eq (fun i hi hb => ?_) step_up))
          cases hbi : bt (stp L n (atT L)) i
          · exact absurd ⟨i, hi, hb, hbi⟩ z
          · rfl
        have hlo := lo_step hW (lo_stp hW n _ (lo_at ht hW))
        have hj16 : j < 16 := by
          rcases Nat.lt_or_ge j L.W with q | q
          · omega
          · rw [hlo j q hj] at hj1; exact absurd hj1 (by simp)
        have := cnt_st hj1 hj2 16 hj16 (fun i hi hb => step_up i (by omega) hb)
        omega
theorem stp_mono {L : LD} {m : Nat} : ∀ k, sbs (stp L m (atT L)) (stp L (m + k) (atT L))
  | 0 => fun _ _ h => h
  | k + 1 => fun i hi h => by rw [← Nat.add_assoc, stp_s]; exact step_up i hi (stp_mono k i hi h)
theorem com_eq {L : LD} {f : Nat} (hW : L.W ≤ 16) (ht : L.t < L.W) : mDep L f 16 0 (atT L) = nI 100 ↔ mKn (L.hold f) (mRch L 16 (atT L)) = true := by
  obtain ⟨m, hm, hfx⟩ := stp_fix hW ht 16 0 rfl (Or.inr (at_cnt (by omega)))
  have e16 : stp L 16 (atT L) = stp L m (atT L) := by have := stp_fx hfx (16 - m); rw [show m + (16 - m) = 16 by omega] at this; exact this
  rw [mRch_eq, e16, kn_S (by omega) (stp_t (by omega) m)]
  have hv := dep_v (f := f) hW ht
  constructor
  · intro h
    rcases hv with ⟨n, h1, h2, h3, h4⟩ | ⟨h1, h2⟩
    · rw [h, nI_eq (by omega) (by omega)] at h4; omega
    · cases m with
      | zero => exact inS_0 (by omega)
      | succ m' => have := h1 m'; unfold badN at this; exact Classical.not_not.mp this
  · intro h
    have hall : ∀ k, ¬ badN L f k := fun k z => z (fun i hi hb => by
      refine h i hi ?_
      by_cases q : k + 1 ≤ m
      · have := stp_mono (L := L) (m := k + 1) (m - (k + 1)) i hi hb
        rw [show k + 1 + (m - (k + 1)) = m by omega] at this; exact this
      · have := stp_fx hfx (k + 1 - m)
        rw [show m + (k + 1 - m) = k + 1 by omega] at this
        rw [this] at hb; exact hb)
    exact DPv_u hv (Or.inr ⟨hall, rfl⟩)
theorem m_X_common {G : GT} {d : Nat} {σ : ST} {μ : SL} {L : LD} (hM : MV σ L) (hK : LBh L) : Fn G (d + 4) mX12_common [.ref (G.b0 + 77)] (sh G σ μ) (Ret (some (.int (oCommon L))) (sh G σ μ)) := by
  have hb := hM.b
  refine fn_of (ls := [some (.ref (G.b0 + 77)), none, none]) (by decide +kernel) (Nat.le_of_ble_eq_true rfl) 2 rfl ?_
  refine b_aload_n dX12_common_0 rfl ?_
  refine b_iconst (v := nI 0) dX12_common_1 (by decide) ?_
  refine g_put dX12_common_2 wX12_1 a77 tfX12_0 (Nat.le_of_ble_eq_true rfl) rfl ?_
  refine b_sig hM.t0 ?_
  refine b_aload_n dX12_common_5 rfl ?_
  refine g_get dX12_common_6 fX12_13 a77 rfl ?_
  refine b_iconst (v := nI 1) dX12_common_9 (by decide) ?_
  refine g_iald dX12_common_10 a78 rfl (by omega) ?_
  refine b_top hM.cW ?_
  refine b_if_ne 17 dX12_common_11 (by decide) (fun c5 => ?_) (fun c5 => ?_)
  · skip
    have h0 : ¬ L.W = 0 := fun z => c5 (by rw [z]; rfl)
    have ht := hK.1.tW h0
    refine b_iconst (v := nI 0) dX12_common_17 (by decide) ?_
    refine b_istore_n dX12_common_18 (by decide) rfl ?_
    refine b_iconst (v := nI 0) dX12_common_19 (by decide) ?_
    refine b_istore_n dX12_common_20 (by decide) rfl ?_
    have lp : ∀ (n i : Nat), i + n = L.F → BB G RX12 cX12_common 3 (some .int) (d + 4) (QM G (Ret (some (.int (oCommon L))) (sh G σ μ))) 21 [some (.ref (G.b0 + 77)), some (.int (mKnown L.hold (mRch L 16 (atT L)) i)), some (.int (nI i))] [] (sh G σ μ) := by
      intro n
      induction n with
      | zero =>
        intro i hi
        refine b_iload_n dX12_common_21 rfl ?_
        refine b_aload_n dX12_common_22 rfl ?_
        refine g_get dX12_common_23 fX12_13 a77 rfl ?_
        refine b_iconst (v := nI 2) dX12_common_26 (by decide) ?_
        refine g_iald dX12_common_27 a78 rfl (by omega) ?_
        refine b_top hM.cF ?_
        refine b_icmp_ge_t 57 dX12_common_28 (by decide) (nI_le (by omega) (by omega)) ?_
        refine b_iload_n dX12_common_57 rfl ?_
        exact b_iret dX12_common_58 ⟨by rw [oCommon, if_neg h0, show i = L.F by omega], rfl⟩
      | succ n ih =>
        intro i hi
        have hce := com_eq (f := i) hb.1 ht
        refine b_iload_n dX12_common_21 rfl ?_
        refine b_aload_n dX12_common_22 rfl ?_
        refine g_get dX12_common_23 fX12_13 a77 rfl ?_
        refine b_iconst (v := nI 2) dX12_common_26 (by decide) ?_
        refine g_iald dX12_common_27 a78 rfl (by omega) ?_
        refine b_top hM.cF ?_
        refine b_icmp_ge_f 57 dX12_common_28 (by decide) (nI_ge (by omega) (by omega)) ?_
        refine b_iload_n dX12_common_31 rfl ?_
        refine b_aload_n dX12_common_32 rfl ?_
        refine b_iload_n dX12_common_33 rfl ?_
        refine g_callV [.int (nI i)] dX12_common_34 kX12_depthOf lX12_313 a77 rfl rfl (m_depthOf hM hK (by omega) h0) rfl rfl (Nat.le_of_ble_eq_true rfl) ?_
        refine b_bipush (v := nI 100) dX12_common_37 (by decide) ?_
        refine b_icmp_ne 48 dX12_common_39 (by decide) (fun c6 => ?_) (fun c6 => ?_)
        · skip
          have c7 : mKn (L.hold i) (mRch L 16 (atT L)) = false := by
            cases h : mKn (L.hold i) (mRch L 16 (atT L))
            · rfl
            · exact absurd (hce.mpr h) c6
          refine b_iconst (v := nI 0) dX12_common_48 (by decide) ?_
          refine b_ior dX12_common_49 ?_
          refine b_istore_n dX12_common_50 (by decide) rfl ?_
          refine b_iinc dX12_common_51 rfl (nI_1 _) (by decide) rfl ?_
          refine b_goto 21 dX12_common_54 (by decide) ?_
          refine b_locs ?_ (ih (i + 1) (by omega))
          have e1 : mKnown L.hold (mRch L 16 (atT L)) (i + 1) = mKnown L.hold (mRch L 16 (atT L)) i ||| nI 0 := by rw [mKnown, if_neg (by rw [c7]; simp), or_0]
          rw [e1]; rfl
        · skip
          have c7 := hce.mp c6
          refine b_iconst (v := nI 1) dX12_common_42 (by decide) ?_
          refine b_iload_n dX12_common_43 rfl ?_
          refine b_ishl dX12_common_44 ?_
          refine b_goto 49 dX12_common_45 (by decide) ?_
          refine b_ior dX12_common_49 ?_
          refine b_istore_n dX12_common_50 (by decide) rfl ?_
          refine b_iinc dX12_common_51 rfl (nI_1 _) (by decide) rfl ?_
          refine b_goto 21 dX12_common_54 (by decide) ?_
          refine b_locs ?_ (ih (i + 1) (by omega))
          have e1 : mKnown L.hold (mRch L 16 (atT L)) (i + 1) = mKnown L.hold (mRch L 16 (atT L)) i ||| bit i := by rw [mKnown, if_pos c7]; rfl
          rw [e1]; rfl
    exact lp L.F 0 (by omega)
  · skip
    have h0 : L.W = 0 := nI_z (by omega) c5
    refine b_bipush (v := -5) dX12_common_14 (by decide) ?_
    exact b_iret dX12_common_16 ⟨by simp [oCommon, h0], rfl⟩
/-! reach -/
def rc1 (L : LD) (s x : Int32) (w : Nat) : Nat → Int32
  | 0 => x
  | p + 1 => rc1 L s x w p ||| (if bt s w then poss L p w else nI 0)
def rcS (L : LD) (s : Int32) : Nat → Int32
  | 0 => nI 0
  | w + 1 => rc1 L s (rcS L s w) w L.P
theorem rc1_bt {L : LD} {s x : Int32} {w i : Nat} : ∀ n, (bt (rc1 L s x w n) i = true ↔ bt x i = true ∨ (bt s w = true ∧ ∃ p, p < n ∧ bt (poss L p w) i = true))
  | 0 => by
    rw [rc1]
    exact ⟨Or.inl, fun h => h.elim id (fun ⟨_, p, h, _⟩ => absurd h (by omega))⟩
  | n + 1 => by
    rw [rc1, b_or, Bool.or_eq_true, rc1_bt n]
    constructor
    · rintro ((h | ⟨h1, p, h2, h3⟩) | h)
      · exact Or.inl h
      · exact Or.inr ⟨h1, p, by omega, h3⟩
      · split at h
        · rename_i hs; exact Or.inr ⟨hs, n, by omega, h⟩
        · rw [b_n0] at h; exact absurd h (by simp)
    · rintro (h | ⟨h1, p, h2, h3⟩)
      · exact Or.inl (Or.inl h)
      · by_cases e : p = n
        · subst e; right; rw [if_pos h1]; exact h3
        · exact Or.inl (Or.inr ⟨h1, p, by omega, h3⟩)
theorem rcS_bt {L : LD} {s : Int32} {i : Nat} : ∀ n, (bt (rcS L s n) i = true ↔ ∃ w, w < n ∧ bt s w = true ∧ ∃ p, p < L.P ∧ bt (poss L p w) i = true)
  | 0 => by
    rw [rcS, b_n0]
    exact ⟨fun h => absurd h (by simp), fun ⟨w, h, _⟩ => absurd h (by omega)⟩
  | n + 1 => by
    rw [rcS, rc1_bt, rcS_bt n]
    constructor
    · rintro (⟨w, h1, h2⟩ | h)
      · exact ⟨w, by omega, h2⟩
      · exact ⟨n, by omega, h⟩
    · rintro ⟨w, h1, h2⟩
      by_cases e : w = n
      · subst e; exact Or.inr h2
      · exact Or.inl ⟨w, by omega, h2⟩
theorem rcS_eq {L : LD} {s : Int32} (hW : L.W ≤ 16) (hP : 0 < L.P) (hs : lo L.W s) : rcS L s L.W = step L s := by
  refine sbs_eq (fun i hi h => ?_) (fun i hi h => ?_)
  · obtain ⟨w, h1, h2, p, h3, h4⟩ := (rcS_bt L.W).mp h
    exact step_bt.mpr (Or.inr ⟨p, h3, w, h1, h2, h4⟩)
  · refine (rcS_bt L.W).mpr ?_
    rcases step_bt.mp h with q | ⟨p, hp, w, hw, h1, h2⟩
    · have hiW : i < L.W := by
        rcases Nat.lt_or_ge i L.W with z | z
        · exact z
        · rw [hs i z hi] at q; exact absurd q (by simp)
      exact ⟨i, hiW, q, 0, hP, bt_self hiW (by omega) L.F⟩
    · exact ⟨w, hw, h1, p, hp, h2⟩
theorem step_P0 {L : LD} {s : Int32} (hP : L.P = 0) : step L s = s := sbs_eq (fun i hi h => by
  rcases step_bt.mp h with q | ⟨p, hp, _⟩
  · exact q
  · omega) step_up
theorem stp_P0 {L : LD} (hP : L.P = 0) : ∀ n s, stp L n s = s
  | 0, _ => rfl
  | n + 1, s => by rw [stp, step_P0 hP]; exact stp_P0 hP n s
theorem wi_20 {x : Int32} : (decide ((1 : Int64) ≤ x.toInt64) && decide (x.toInt64 ≤ 20)) = inB x 1 20 := wi_B (a := 1) (b := 20) (by omega) (by omega)
theorem m_X_reach {G : GT} {d : Nat} {σ : ST} {μ : SL} {L : LD} {x : Int32} (hM : MV σ L) (hK : LBk L) : Fn G (d + 2) mX12_reach [.ref (G.b0 + 77), .int x] (sh G σ μ) (Ret (some (.int (oReach L x))) (sh G σ μ)) := by
  have hb := hM.b
  refine fn_of (ls := [some (.ref (G.b0 + 77)), some (.int x), none, none, none, none, none]) (by decide +kernel) (Nat.le_of_ble_eq_true rfl) 5 rfl ?_
  refine b_aload_n dX12_reach_0 rfl ?_
  refine b_iconst (v := nI 0) dX12_reach_1 (by decide) ?_
  refine g_put dX12_reach_2 wX12_1 a77 tfX12_0 (Nat.le_of_ble_eq_true rfl) rfl ?_
  refine b_sig hM.t0 ?_
  refine b_iload_n dX12_reach_5 rfl ?_
  refine b_i2l dX12_reach_6 ?_
  refine b_lconst (v := 1) dX12_reach_7 (by decide) ?_
  refine b_ldc2 dX12_reach_8 cvX12_316 ?_
  refine b_callSr [.long x.toInt64, .long 1, .long ((20))] dX12_reach_11 kX12_within lX12_145 c_within rfl rfl (Nat.le_of_ble_eq_true rfl) ?_
  rw [wi_20]
  refine b_if_ne 20 dX12_reach_14 (by decide) (fun c3 => ?_) (fun c3 => ?_)
  · skip
    have c4 := (bI_1 _).mp c3
    obtain ⟨k, hk1, hk4, rfl⟩ := inB_of (by omega) c4 (by omega)
    have hkx := ix_nI (show k < 2 ^ 31 by omega)
    refine b_aload_n dX12_reach_20 rfl ?_
    refine g_get dX12_reach_21 fX12_13 a77 rfl ?_
    refine b_iconst (v := nI 1) dX12_reach_24 (by decide) ?_
    refine g_iald dX12_reach_25 a78 rfl (by omega) ?_
    refine b_top hM.cW ?_
    refine b_if_ne 32 dX12_reach_26 (by decide) (fun c5 => ?_) (fun c5 => ?_)
    · skip
      have h0 : ¬ L.W = 0 := fun z => c5 (by rw [z]; rfl)
      have ht := hK.tW h0
      refine b_iconst (v := nI 1) dX12_reach_32 (by decide) ?_
      refine b_aload_n dX12_reach_33 rfl ?_
      refine g_get dX12_reach_34 fX12_13 a77 rfl ?_
      refine b_iconst (v := nI 4) dX12_reach_37 (by decide) ?_
      refine g_iald dX12_reach_38 a78 rfl (by omega) ?_
      refine b_top hM.ct ?_
      refine b_ishl dX12_reach_39 ?_
      refine b_istore_n dX12_reach_40 (by decide) rfl ?_
      refine b_iconst (v := nI 0) dX12_reach_41 (by decide) ?_
      refine b_istore_n dX12_reach_42 (by decide) rfl ?_
      have eR : oReach L (nI k) = stp L k (atT L) := by rw [oReach, c4, hkx, mRch_eq]; simp [h0]
      have lp : ∀ (n i : Nat) (z4 z5 z6 : Option Value), i + n = k → BB G RX12 cX12_reach 7 (some .int) (d + 2) (QM G (Ret (some (.int (oReach L (nI k)))) (sh G σ μ))) 43 [some (.ref (G.b0 + 77)), some (.int (nI k)), some (.int (stp L i (atT L))), some (.int (nI i)), z4, z5, z6] [] (sh G σ μ) := by
        intro n
        induction n with
        | zero =>
          intro i z4 z5 z6 hi
          refine b_iload_n dX12_reach_43 rfl ?_
          refine b_iload_n dX12_reach_44 rfl ?_
          refine b_icmp_ge_t 143 dX12_reach_45 (by decide) (nI_le (by omega) (by omega)) ?_
          refine b_iload_n dX12_reach_143 rfl ?_
          exact b_iret dX12_reach_144 ⟨by rw [eR, show i = k by omega], rfl⟩
        | succ n ih =>
          intro i z4 z5 z6 hi
          refine b_iload_n dX12_reach_43 rfl ?_
          refine b_iload_n dX12_reach_44 rfl ?_
          refine b_icmp_ge_f 143 dX12_reach_45 (by decide) (nI_ge (by omega) (by omega)) ?_
          refine b_aload_n dX12_reach_48 rfl ?_
          refine g_get dX12_reach_49 fX12_13 a77 rfl ?_
          refine b_iconst (v := nI 3) dX12_reach_52 (by decide) ?_
          refine g_iald dX12_reach_53 a78 rfl (by omega) ?_
          refine b_top hM.cP ?_
          refine b_if_le 143 dX12_reach_54 (by decide) (fun c6 => ?_) (fun c6 => ?_)
          · skip
            have hP0 : L.P = 0 := by
              rcases Nat.eq_zero_or_pos L.P with q | q
              · exact q
              · exact absurd c6 (nI_nle q (by omega))
            refine b_iload_n dX12_reach_143 rfl ?_
            exact b_iret dX12_reach_144 ⟨by rw [eR, stp_P0 hP0, stp_P0 hP0], rfl⟩
          · skip
            have hP : 0 < L.P := Nat.pos_of_ne_zero (fun z => c6 (by rw [z]; decide))
            refine b_iconst (v := nI 0) dX12_reach_57 (by decide) ?_
            refine b_istore dX12_reach_58 (by decide) rfl ?_
            refine b_iconst (v := nI 0) dX12_reach_60 (by decide) ?_
            refine b_istore dX12_reach_61 (by decide) rfl ?_
            have lp2 : ∀ (m w : Nat) (z6 : Option Value), w + m = L.W → BB G RX12 cX12_reach 7 (some .int) (d + 2) (QM G (Ret (some (.int (oReach L (nI k)))) (sh G σ μ))) 63 [some (.ref (G.b0 + 77)), some (.int (nI k)), some (.int (stp L i (atT L))), some (.int (nI i)), some (.int (rcS L (stp L i (atT L)) w)), some (.int (nI w)), z6] [] (sh G σ μ) := by
              intro m
              induction m with
              | zero =>
                intro w z6 hw
                refine b_iload dX12_reach_63 rfl ?_
                refine b_aload_n dX12_reach_65 rfl ?_
                refine g_get dX12_reach_66 fX12_13 a77 rfl ?_
                refine b_iconst (v := nI 1) dX12_reach_69 (by decide) ?_
                refine g_iald dX12_reach_70 a78 rfl (by omega) ?_
                refine b_top hM.cW ?_
                refine b_icmp_ge_t 134 dX12_reach_71 (by decide) (nI_le (by omega) (by omega)) ?_
                refine b_iload dX12_reach_134 rfl ?_
                refine b_istore_n dX12_reach_136 (by decide) rfl ?_
                refine b_iinc dX12_reach_137 rfl (nI_1 _) (by decide) rfl ?_
                refine b_goto 43 dX12_reach_140 (by decide) ?_
                have e1 : rcS L (stp L i (atT L)) w = stp L (i + 1) (atT L) := by rw [stp_s, show w = L.W by omega]; exact rcS_eq hb.1 hP (lo_stp hb.1 _ _ (lo_at ht hb.1))
                refine b_locs ?_ (ih (i + 1) (some (.int (stp L (i + 1) (atT L)))) (some (.int (nI w))) z6 (by omega))
                rw [e1]; rfl
              | succ m ihm =>
                intro w z6 hw
                refine b_iload dX12_reach_63 rfl ?_
                refine b_aload_n dX12_reach_65 rfl ?_
                refine g_get dX12_reach_66 fX12_13 a77 rfl ?_
                refine b_iconst (v := nI 1) dX12_reach_69 (by decide) ?_
                refine g_iald dX12_reach_70 a78 rfl (by omega) ?_
                refine b_top hM.cW ?_
                refine b_icmp_ge_f 134 dX12_reach_71 (by decide) (nI_ge (by omega) (by omega)) ?_
                refine b_iconst (v := nI 0) dX12_reach_74 (by decide) ?_
                refine b_istore dX12_reach_75 (by decide) rfl ?_
                have lp3 : ∀ (m p : Nat), p + m = L.P → BB G RX12 cX12_reach 7 (some .int) (d + 2) (QM G (Ret (some (.int (oReach L (nI k)))) (sh G σ μ))) 77 [some (.ref (G.b0 + 77)), some (.int (nI k)), some (.int (stp L i (atT L))), some (.int (nI i)), some (.int (rc1 L (stp L i (atT L)) (rcS L (stp L i (atT L)) w) w p)), some (.int (nI w)), some (.int (nI p))] [] (sh G σ μ) := by
                  intro m
                  induction m with
                  | zero =>
                    intro p hp
                    refine b_iload dX12_reach_77 rfl ?_
                    refine b_aload_n dX12_reach_79 rfl ?_
                    refine g_get dX12_reach_80 fX12_13 a77 rfl ?_
                    refine b_iconst (v := nI 3) dX12_reach_83 (by decide) ?_
                    refine g_iald dX12_reach_84 a78 rfl (by omega) ?_
                    refine b_top hM.cP ?_
                    refine b_icmp_ge_t 128 dX12_reach_85 (by decide) (nI_le (by omega) (by omega)) ?_
                    refine b_iinc dX12_reach_128 rfl (nI_1 _) (by decide) rfl ?_
                    refine b_goto 63 dX12_reach_131 (by decide) ?_
                    have e : p = L.P := by omega
                    subst e
                    exact ihm (w + 1) (some (.int (nI L.P))) (by omega)
                  | succ m ihp =>
                    intro p hp
                    refine b_iload dX12_reach_77 rfl ?_
                    refine b_aload_n dX12_reach_79 rfl ?_
                    refine g_get dX12_reach_80 fX12_13 a77 rfl ?_
                    refine b_iconst (v := nI 3) dX12_reach_83 (by decide) ?_
                    refine g_iald dX12_reach_84 a78 rfl (by omega) ?_
                    refine b_top hM.cP ?_
                    refine b_icmp_ge_f 128 dX12_reach_85 (by decide) (nI_ge (by omega) (by omega)) ?_
                    refine b_iload dX12_reach_88 rfl ?_
                    refine b_iload_n dX12_reach_90 rfl ?_
                    refine b_i2l dX12_reach_91 ?_
                    refine b_iload dX12_reach_92 rfl ?_
                    refine b_callSr [.long ((stp L i (atT L)).toInt64), .int (nI w)] dX12_reach_94 kX12_isIn lX12_222 (c_isIn (by omega)) rfl rfl (Nat.le_of_ble_eq_true rfl) ?_
                    refine b_if_eq 118 dX12_reach_97 (by decide) (fun c7 => ?_) (fun c7 => ?_)
                    · skip
                      have c8 := (bI_0 _).mp c7
                      refine b_iconst (v := nI 0) dX12_reach_118 (by decide) ?_
                      refine b_ior dX12_reach_119 ?_
                      refine b_istore dX12_reach_120 (by decide) rfl ?_
                      refine b_iinc dX12_reach_122 rfl (nI_1 _) (by decide) rfl ?_
                      refine b_goto 77 dX12_reach_125 (by decide) ?_
                      refine b_locs ?_ (ihp (p + 1) (by omega))
                      rw [rc1, c8]; rfl
                    · skip
                      have c8 := (bI_1 _).mp c7
                      refine b_aload_n dX12_reach_100 rfl ?_
                      refine b_aload_n dX12_reach_101 rfl ?_
                      refine g_get dX12_reach_102 fX12_13 a77 rfl ?_
                      refine b_iconst (v := nI 5) dX12_reach_105 (by decide) ?_
                      refine b_iload dX12_reach_106 rfl ?_
                      refine b_iaddN dX12_reach_108 ?_
                      refine g_iald dX12_reach_109 a78 rfl (by omega) ?_
                      refine b_top (hM.told (by omega)) ?_
                      refine b_iload dX12_reach_110 rfl ?_
                      refine g_callV [.int (L.told p), .int (nI w)] dX12_reach_112 kX12_cellOf lX12_232 a77 rfl rfl (m_cellOf hM (by omega)) rfl rfl (Nat.le_of_ble_eq_true rfl) ?_
                      refine b_goto 119 dX12_reach_115 (by decide) ?_
                      refine b_ior dX12_reach_119 ?_
                      refine b_istore dX12_reach_120 (by decide) rfl ?_
                      refine b_iinc dX12_reach_122 rfl (nI_1 _) (by decide) rfl ?_
                      refine b_goto 77 dX12_reach_125 (by decide) ?_
                      refine b_locs ?_ (ihp (p + 1) (by omega))
                      rw [rc1, c8]; rfl
                exact lp3 L.P 0 (by omega)
            exact lp2 L.W 0 z6 (by omega)
      exact lp k 0 none none none (by omega)
    · skip
      have h0 : L.W = 0 := nI_z (by omega) c5
      refine b_bipush (v := -5) dX12_reach_29 (by decide) ?_
      exact b_iret dX12_reach_31 ⟨by simp [oReach, c4, h0], rfl⟩
  · skip
    refine b_bipush (v := -3) dX12_reach_17 (by decide) ?_
    exact b_iret dX12_reach_19 ⟨by simp [oReach, (bI_0 _).mp c3], rfl⟩

