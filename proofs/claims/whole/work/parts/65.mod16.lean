/-! ===== the reference: judge, perform; rows of numbers ===== -/
theorem m_X_judge {G : GT} {d : Nat} {σ : ST} {μ : SL} {L : LD} {row x : Int32} {R : Nat → Option (Nat × Nat)} {v : Nat → Nat → Int64} (hM : MV σ L) (hK : LBk L) (hR : MR σ μ R v) (hD : ∀ j, j < 4 → ∀ q, R j = some q → ∀ p, p < L.P → lo L.F (mDd L (v j) L.told (mAble L.F L.P (v j) q.1) p)) : Fn G (d + 6) mX12_judge [.ref (G.b0 + 77), .int row, .int x] (sh G σ μ) (PFm G μ σ (oJudge L R v row x)) := by
  have hb := hM.b
  refine fn_of (ls := [some (.ref (G.b0 + 77)), some (.int row), some (.int x), none, none]) (by decide +kernel) (Nat.le_of_ble_eq_true rfl) 2 rfl ?_
  refine b_aload_n dX12_judge_0 rfl ?_
  refine b_iconst (v := nI 0) dX12_judge_1 (by decide) ?_
  refine g_put dX12_judge_2 wX12_1 a77 tfX12_0 (Nat.le_of_ble_eq_true rfl) rfl ?_
  refine b_sig hM.t0 ?_
  refine b_iload_n dX12_judge_5 rfl ?_
  refine b_i2l dX12_judge_6 ?_
  refine b_lconst (v := 0) dX12_judge_7 (by decide) ?_
  refine b_ldc2 dX12_judge_8 cvX12_289 ?_
  refine b_callSr [.long row.toInt64, .long 0, .long ((3))] dX12_judge_11 kX12_within lX12_145 c_within rfl rfl (Nat.le_of_ble_eq_true rfl) ?_
  rw [wi_m]
  refine b_if_eq 29 dX12_judge_14 (by decide) (fun c1 => ?_) (fun c1 => ?_)
  · skip
    refine b_bipush (v := -2) dX12_judge_29 (by decide) ?_
    exact b_iret dX12_judge_31 ⟨by simp [oJudge, (bI_0 _).mp c1], σ, rfl, FT_r σ⟩
  · skip
    have c2 := (bI_1 _).mp c1
    obtain ⟨j, hj, rfl⟩ := inR_of (by omega) c2
    have hjx := ix_nI (show j < 2 ^ 31 by omega)
    refine b_iload_n dX12_judge_17 rfl ?_
    refine b_i2l dX12_judge_18 ?_
    refine b_lconst (v := 0) dX12_judge_19 (by decide) ?_
    refine b_ldc2 dX12_judge_20 cvX12_289 ?_
    refine b_callSr [.long x.toInt64, .long 0, .long ((3))] dX12_judge_23 kX12_within lX12_145 c_within rfl rfl (Nat.le_of_ble_eq_true rfl) ?_
    rw [wi_m]
    refine b_if_ne 32 dX12_judge_26 (by decide) (fun c3 => ?_) (fun c3 => ?_)
    · skip
      have c4 := (bI_1 _).mp c3
      obtain ⟨k, hk, rfl⟩ := inR_of (by omega) c4
      have hkx := ix_nI (show k < 2 ^ 31 by omega)
      refine b_aload_n dX12_judge_32 rfl ?_
      refine g_get dX12_judge_33 fX12_73 a77 rfl ?_
      refine b_iload_n dX12_judge_36 rfl ?_
      refine g_iald dX12_judge_37 a96 rfl (by omega) ?_
      refine b_iconst (v := -1) dX12_judge_38 (by decide) ?_
      cases hRj : R j with
      | none =>
        have h96 := MR_no hR hj hRj
        refine b_icmp_ne_f 45 dX12_judge_39 (by decide) h96 ?_
        refine b_bipush (v := -6) dX12_judge_42 (by decide) ?_
        exact b_iret dX12_judge_44 ⟨by simp [oJudge, c2, c4, hjx, hkx, hRj], σ, rfl, FT_r σ⟩
      | some q =>
        obtain ⟨h1, h2, h3, h4, h5⟩ := MR_so hR hj hRj
        generalize hab : mAble L.F L.P (v j) q.1 = ab
        have hab1 : ab ≤ q.1 := by rw [← hab]; have := mAbleF_le L.F L.P (v j) q.1 0; rw [Nat.zero_add] at this; exact this
        have eo : oJudge L R v (nI j) (nI k) = if k = 0 then (if ab < q.1 then nI ab else -1) else if k = 1 then nI ab else if k = 2 then lst L 0 (mDd L (v j) L.told ab) L.t else nI (mDdK L (v j) L.told ab) := by
          simp [oJudge, c2, c4, hjx, hkx, hRj, hab]
        rw [eo]
        refine b_icmp_ne_t 45 dX12_judge_39 (by decide) (by rw [h1]; exact nI_m1 (by omega)) ?_
        refine b_aload_n dX12_judge_45 rfl ?_
        refine g_callV [] dX12_judge_46 kX12_keeps lX12_260 a77 rfl rfl m_keeps rfl rfl (Nat.le_of_ble_eq_true rfl) ?_
        refine b_aload_n dX12_judge_49 rfl ?_
        refine b_iload_n dX12_judge_50 rfl ?_
        refine g_callVp [.int (nI j)] dX12_judge_51 kX12_doesAll lX12_291 a77 rfl rfl (m_doesAll (v := v j) (len := q.1) (S0_keeps σ) (S0_MV hM) hj (by rw [cpy_at, if_neg (by omega)]; exact h2) h3 h5) rfl rfl (Nat.le_of_ble_eq_true rfl) ?_
        rintro r h9 ⟨rfl, s1, rfl, hS1, hM1, hk1, h78⟩
        rw [hab] at hM1 hk1 ⊢
        refine b_istore_n dX12_judge_54 (by decide) rfl ?_
        refine b_aload_n dX12_judge_55 rfl ?_
        refine b_iconst (v := nI 0) dX12_judge_56 (by decide) ?_
        refine b_aload_n dX12_judge_57 rfl ?_
        refine g_get dX12_judge_58 fX12_13 a77 rfl ?_
        refine b_iconst (v := nI 4) dX12_judge_61 (by decide) ?_
        refine g_iald dX12_judge_62 a78 rfl (by omega) ?_
        refine b_top (show s1 78 4 = nI L.t from hM1.ct) ?_
        refine g_callV [.int (nI 0), .int (nI L.t)] dX12_judge_63 kX12_leastOf lX12_294 a77 rfl rfl (m_leastOf (m := 0) hM1 (LBk_T hK (by have := hD j hj q hRj; rw [hab] at this; exact this)) (by omega) (show L.t < 32 by omega)) rfl rfl (Nat.le_of_ble_eq_true rfl) ?_
        refine b_istore dX12_judge_66 (by decide) rfl ?_
        refine b_aload_n dX12_judge_68 rfl ?_
        refine g_callV [] dX12_judge_69 kX12_isAgain lX12_297 a77 rfl rfl m_isAgain rfl rfl (Nat.le_of_ble_eq_true rfl) ?_
        have hF := FT_again hS1
        have h97 : cpy s1 86 0 78 4 7 97 j = nI q.1 := by rw [hF.1 97 (by omega) (by omega) (by omega)]; exact h2
        have h22 : cpy s1 86 0 78 4 7 77 22 = nI (mDdK L (v j) L.told ab) := by rw [cpy_at, if_neg (by omega)]; exact hk1
        refine b_iload_n dX12_judge_72 rfl ?_
        refine b_if_ne 94 dX12_judge_73 (by decide) (fun c5 => ?_) (fun c5 => ?_)
        · skip
          have d5 : ¬ k = 0 := fun z => c5 (by rw [z]; rfl)
          rw [if_neg d5]
          refine b_iload_n dX12_judge_94 rfl ?_
          refine b_iconst (v := nI 1) dX12_judge_95 (by decide) ?_
          refine b_icmp_ne 103 dX12_judge_96 (by decide) (fun c6 => ?_) (fun c6 => ?_)
          · skip
            have d6 : ¬ k = 1 := fun z => c6 (by rw [z])
            rw [if_neg d6]
            refine b_iload_n dX12_judge_103 rfl ?_
            refine b_iconst (v := nI 2) dX12_judge_104 (by decide) ?_
            refine b_icmp_ne 113 dX12_judge_105 (by decide) (fun c7 => ?_) (fun c7 => ?_)
            · skip
              have d7 : ¬ k = 2 := fun z => c7 (by rw [z])
              rw [if_neg d7]
              refine b_aload_n dX12_judge_113 rfl ?_
              refine g_geti (x := nI (mDdK L (v j) L.told ab)) dX12_judge_114 fX12_278 a77 rfl h22 ?_
              exact b_iret dX12_judge_117 ⟨rfl, _, rfl, hF⟩
            · skip
              have d7 : k = 2 := by rw [nI_eq (by omega) (by omega)] at c7; exact c7
              rw [if_pos d7]
              refine b_iload dX12_judge_108 rfl ?_
              refine b_goto 117 dX12_judge_110 (by decide) ?_
              exact b_iret dX12_judge_117 ⟨rfl, _, rfl, hF⟩
          · skip
            have d6 : k = 1 := by rw [nI_eq (by omega) (by omega)] at c6; exact c6
            rw [if_pos d6]
            refine b_iload_n dX12_judge_99 rfl ?_
            refine b_goto 117 dX12_judge_100 (by decide) ?_
            exact b_iret dX12_judge_117 ⟨rfl, _, rfl, hF⟩
        · skip
          have d5 : k = 0 := nI_z (by omega) c5
          rw [if_pos d5]
          refine b_iload_n dX12_judge_76 rfl ?_
          refine b_aload_n dX12_judge_77 rfl ?_
          refine g_get dX12_judge_78 fX12_76 a77 rfl ?_
          refine b_iload_n dX12_judge_81 rfl ?_
          refine g_iald dX12_judge_82 a97 rfl (by omega) ?_
          refine b_top h97 ?_
          refine b_icmp_ne 90 dX12_judge_83 (by decide) (fun c6 => ?_) (fun c6 => ?_)
          · skip
            have d6 : ¬ ab = q.1 := fun z => c6 (by rw [z])
            refine b_iload_n dX12_judge_90 rfl ?_
            refine b_goto 117 dX12_judge_91 (by decide) ?_
            exact b_iret dX12_judge_117 ⟨by rw [if_pos (by omega)], _, rfl, hF⟩
          · skip
            have d6 : ab = q.1 := by rw [nI_eq (by omega) (by omega)] at c6; exact c6
            refine b_iconst (v := -1) dX12_judge_86 (by decide) ?_
            refine b_goto 117 dX12_judge_87 (by decide) ?_
            exact b_iret dX12_judge_117 ⟨by rw [if_neg (by omega)], _, rfl, hF⟩
    · skip
      refine b_bipush (v := -2) dX12_judge_29 (by decide) ?_
      exact b_iret dX12_judge_31 ⟨by simp [oJudge, (bI_0 _).mp c3], σ, rfl, FT_r σ⟩
def PPf (G : GT) (μ : SL) (σ : ST) (sz : Nat) (L : LD) (R : Nat → Option (Nat × Nat)) (v : Nat → Nat → Int64) (row : Int32) : Option Value → HT → Prop :=
  if inR row 4 then (match R (ix row) with
    | none => PNo G μ σ (-6)
    | some q => if mAble L.F L.P (v (ix row)) q.1 = 0 then PFm G μ σ (nI 0) else PNt G μ σ sz (stT L (mDd L (v (ix row)) L.told (mAble L.F L.P (v (ix row)) q.1))) (nI (mAble L.F L.P (v (ix row)) q.1))) else PNo G μ σ (-2)
theorem m_X_perform {G : GT} {d : Nat} {σ : ST} {μ : SL} {L : LD} {sz : Nat} {row : Int32} {R : Nat → Option (Nat × Nat)} {v : Nat → Nat → Int64} (hM : MV σ L) (hR : MR σ μ R v) (hz : σ 78 113 = nI sz) (hz12 : sz ≤ 12) : Fn G (d + 6) mX12_perform [.ref (G.b0 + 77), .int row] (sh G σ μ) (PPf G μ σ sz L R v row) := by
  have hb := hM.b
  refine fn_of (ls := [some (.ref (G.b0 + 77)), some (.int row), none]) (by decide +kernel) (Nat.le_of_ble_eq_true rfl) 1 rfl ?_
  refine b_aload_n dX12_perform_0 rfl ?_
  refine b_iconst (v := nI 0) dX12_perform_1 (by decide) ?_
  refine g_put dX12_perform_2 wX12_1 a77 tfX12_0 (Nat.le_of_ble_eq_true rfl) rfl ?_
  refine b_sig hM.t0 ?_
  refine b_iload_n dX12_perform_5 rfl ?_
  refine b_i2l dX12_perform_6 ?_
  refine b_lconst (v := 0) dX12_perform_7 (by decide) ?_
  refine b_ldc2 dX12_perform_8 cvX12_289 ?_
  refine b_callSr [.long row.toInt64, .long 0, .long ((3))] dX12_perform_11 kX12_within lX12_145 c_within rfl rfl (Nat.le_of_ble_eq_true rfl) ?_
  rw [wi_m]
  unfold PPf
  refine b_if_ne 20 dX12_perform_14 (by decide) (fun c1 => ?_) (fun c1 => ?_)
  · skip
    have c2 := (bI_1 _).mp c1
    obtain ⟨j, hj, rfl⟩ := inR_of (by omega) c2
    have hjx := ix_nI (show j < 2 ^ 31 by omega)
    rw [c2, hjx, if_pos rfl]
    refine b_aload_n dX12_perform_20 rfl ?_
    refine g_get dX12_perform_21 fX12_73 a77 rfl ?_
    refine b_iload_n dX12_perform_24 rfl ?_
    refine g_iald dX12_perform_25 a96 rfl (by omega) ?_
    refine b_iconst (v := -1) dX12_perform_26 (by decide) ?_
    cases hRj : R j with
    | none =>
      have h96 := MR_no hR hj hRj
      refine b_icmp_ne_f 33 dX12_perform_27 (by decide) h96 ?_
      refine b_bipush (v := -6) dX12_perform_30 (by decide) ?_
      exact b_iret dX12_perform_32 ⟨rfl, rfl⟩
    | some q =>
      obtain ⟨h1, h2, h3, h4, h5⟩ := MR_so hR hj hRj
      dsimp only
      generalize hab : mAble L.F L.P (v j) q.1 = ab
      have hab1 : ab ≤ q.1 := by rw [← hab]; have := mAbleF_le L.F L.P (v j) q.1 0; rw [Nat.zero_add] at this; exact this
      refine b_icmp_ne_t 33 dX12_perform_27 (by decide) (by rw [h1]; exact nI_m1 (by omega)) ?_
      refine b_aload_n dX12_perform_33 rfl ?_
      refine g_callV [] dX12_perform_34 kX12_keeps lX12_260 a77 rfl rfl m_keeps rfl rfl (Nat.le_of_ble_eq_true rfl) ?_
      refine b_aload_n dX12_perform_37 rfl ?_
      refine b_iload_n dX12_perform_38 rfl ?_
      refine g_callVp [.int (nI j)] dX12_perform_39 kX12_doesAll lX12_291 a77 rfl rfl (m_doesAll (v := v j) (len := q.1) (S0_keeps σ) (S0_MV hM) hj (by rw [cpy_at, if_neg (by omega)]; exact h2) h3 h5) rfl rfl (Nat.le_of_ble_eq_true rfl) ?_
      rintro r h9 ⟨rfl, s1, rfl, hS1, hM1, hk1, h78⟩
      rw [hab] at hM1 hk1 h78 ⊢
      refine b_istore_n dX12_perform_42 (by decide) rfl ?_
      refine b_iload_n dX12_perform_43 rfl ?_
      refine b_if_le 51 dX12_perform_44 (by decide) (fun c5 => ?_) (fun c5 => ?_)
      · skip
        have d5 : ab = 0 := by
          rcases Nat.eq_zero_or_pos ab with q | q
          · exact q
          · exact absurd c5 (nI_nle q (by omega))
        rw [if_pos d5]
        refine b_iload_n dX12_perform_51 rfl ?_
        refine b_iret dX12_perform_52 ⟨by rw [d5], s1, rfl, fun c a b e => ?_, hS1.2.2.1⟩
        by_cases hc : c = 78
        · rw [hc, h78 d5]; funext q'; rw [cpy_at, if_neg (by omega)]
        · exact hS1.2.1 c hc a b e
      · skip
        have d5 : ¬ ab = 0 := fun z => c5 (by rw [z]; decide)
        rw [if_neg d5]
        have hz2 : s1 78 113 = nI sz := by rw [hS1.2.2.2 113 (by omega)]; exact hz
        refine b_aload_n dX12_perform_47 rfl ?_
        refine g_callV [] dX12_perform_48 kX12_notes lX12_263 a77 rfl rfl (m_notes hz2 hz12) rfl rfl (Nat.le_of_ble_eq_true rfl) ?_
        refine b_iload_n dX12_perform_51 rfl ?_
        exact b_iret dX12_perform_52 ⟨rfl, _, rfl, NTd_mk hS1 hM1 hz12⟩
  · skip
    rw [(bI_0 _).mp c1]
    refine b_bipush (v := -2) dX12_perform_17 (by decide) ?_
    exact b_iret dX12_perform_19 ⟨rfl, rfl⟩
theorem wi_8 {x : Int32} : (decide ((1 : Int64) ≤ x.toInt64) && decide (x.toInt64 ≤ 8)) = inB x 1 8 := wi_B (a := 1) (b := 8) (by omega) (by omega)
theorem m_noRow {G : GT} {d : Nat} {σ : ST} {μ : SL} {L : LD} {row : Int32} {R : Nat → Option (Nat × Nat)} {v : Nat → Nat → Int64} (hM : MV σ L) (hR : MR σ μ R v) : Fn G (d + 2) mX12_noRow [.ref (G.b0 + 77), .int row] (sh G σ μ) (Ret (some (.int (oNoRow L R v row))) (sh G σ μ)) := by
  have hb := hM.b
  refine fn_of (ls := [some (.ref (G.b0 + 77)), some (.int row), none]) (by decide +kernel) (Nat.le_of_ble_eq_true rfl) 1 rfl ?_
  refine b_iload_n dX12_noRow_0 rfl ?_
  refine b_i2l dX12_noRow_1 ?_
  refine b_lconst (v := 0) dX12_noRow_2 (by decide) ?_
  refine b_ldc2 dX12_noRow_3 cvX12_289 ?_
  refine b_callSr [.long row.toInt64, .long 0, .long ((3))] dX12_noRow_6 kX12_within lX12_145 c_within rfl rfl (Nat.le_of_ble_eq_true rfl) ?_
  rw [wi_m]
  refine b_if_ne 15 dX12_noRow_9 (by decide) (fun c1 => ?_) (fun c1 => ?_)
  · skip
    have c2 := (bI_1 _).mp c1
    obtain ⟨j, hj, rfl⟩ := inR_of (by omega) c2
    have hjx := ix_nI (show j < 2 ^ 31 by omega)
    refine b_aload_n dX12_noRow_15 rfl ?_
    refine g_get dX12_noRow_16 fX12_73 a77 rfl ?_
    refine b_iload_n dX12_noRow_19 rfl ?_
    refine g_iald dX12_noRow_20 a96 rfl (by omega) ?_
    refine b_iconst (v := -1) dX12_noRow_21 (by decide) ?_
    cases hRj : R j with
    | none =>
      have h96 := MR_no hR hj hRj
      refine b_icmp_ne_f 28 dX12_noRow_22 (by decide) h96 ?_
      refine b_bipush (v := -6) dX12_noRow_25 (by decide) ?_
      exact b_iret dX12_noRow_27 ⟨by simp [oNoRow, c2, hjx, hRj], rfl⟩
    | some q =>
      obtain ⟨h1, h2, h3, h4, h5⟩ := MR_so hR hj hRj
      have eo : oNoRow L R v (nI j) = if q.1 < 1 ∨ 8 < q.1 then -4 else if askBad L.F (v j) q.1 then -3 else if L.W = 0 then -5 else nI 0 := by simp [oNoRow, c2, hjx, hRj]
      rw [eo]
      refine b_icmp_ne_t 28 dX12_noRow_22 (by decide) (by rw [h1]; exact nI_m1 (by omega)) ?_
      refine b_aload_n dX12_noRow_28 rfl ?_
      refine g_get dX12_noRow_29 fX12_76 a77 rfl ?_
      refine b_iload_n dX12_noRow_32 rfl ?_
      refine g_iald dX12_noRow_33 a97 rfl (by omega) ?_
      refine b_top h2 ?_
      refine b_i2l dX12_noRow_34 ?_
      refine b_lconst (v := 1) dX12_noRow_35 (by decide) ?_
      refine b_ldc2 dX12_noRow_36 cvX12_378 ?_
      refine b_callSr [.long ((nI q.1).toInt64), .long 1, .long ((8))] dX12_noRow_39 kX12_within lX12_145 c_within rfl rfl (Nat.le_of_ble_eq_true rfl) ?_
      rw [wi_8]
      refine b_if_ne 48 dX12_noRow_42 (by decide) (fun c3 => ?_) (fun c3 => ?_)
      · skip
        have c4 := (bI_1 _).mp c3
        have hq : 1 ≤ q.1 ∧ q.1 ≤ 8 := by
          simp only [inB, Bool.and_eq_true, decide_eq_true_eq] at c4
          rw [nI_leI (by omega) (by omega), nI_leI (by omega) (by omega)] at c4
          exact c4
        refine b_iconst (v := nI 0) dX12_noRow_48 (by decide) ?_
        refine b_istore_n dX12_noRow_49 (by decide) rfl ?_
        have lp : ∀ (n i : Nat), i + n = q.1 → askBad L.F (v j) i = false → BB G RX12 cX12_noRow 3 (some .int) (d + 2) (QM G (Ret (some (.int (if q.1 < 1 ∨ 8 < q.1 then -4 else if askBad L.F (v j) q.1 then -3 else if L.W = 0 then -5 else nI 0))) (sh G σ μ))) 50 [some (.ref (G.b0 + 77)), some (.int (nI j)), some (.int (nI i))] [] (sh G σ μ) := by
          intro n
          induction n with
          | zero =>
            intro i hi ha
            rw [show i = q.1 by omega] at ha
            refine b_iload_n dX12_noRow_50 rfl ?_
            refine b_aload_n dX12_noRow_51 rfl ?_
            refine g_get dX12_noRow_52 fX12_76 a77 rfl ?_
            refine b_iload_n dX12_noRow_55 rfl ?_
            refine g_iald dX12_noRow_56 a97 rfl (by omega) ?_
            refine b_top h2 ?_
            refine b_icmp_ge_t 87 dX12_noRow_57 (by decide) (nI_le (by omega) (by omega)) ?_
            refine b_aload_n dX12_noRow_87 rfl ?_
            refine g_get dX12_noRow_88 fX12_13 a77 rfl ?_
            refine b_iconst (v := nI 1) dX12_noRow_91 (by decide) ?_
            refine g_iald dX12_noRow_92 a78 rfl (by omega) ?_
            refine b_top hM.cW ?_
            refine b_if_ne 101 dX12_noRow_93 (by decide) (fun c5 => ?_) (fun c5 => ?_)
            · skip
              have h0 : ¬ L.W = 0 := fun z => c5 (by rw [z]; rfl)
              refine b_iconst (v := nI 0) dX12_noRow_101 (by decide) ?_
              exact b_iret dX12_noRow_102 ⟨by rw [if_neg (by omega), ha, if_neg (by simp), if_neg h0], rfl⟩
            · skip
              have h0 : L.W = 0 := nI_z (by omega) c5
              refine b_bipush (v := -5) dX12_noRow_96 (by decide) ?_
              refine b_goto 102 dX12_noRow_98 (by decide) ?_
              exact b_iret dX12_noRow_102 ⟨by rw [if_neg (by omega), ha, if_neg (by simp), if_pos h0], rfl⟩
          | succ n ih =>
            intro i hi ha
            have hvi := h5 i (by omega)
            refine b_iload_n dX12_noRow_50 rfl ?_
            refine b_aload_n dX12_noRow_51 rfl ?_
            refine g_get dX12_noRow_52 fX12_76 a77 rfl ?_
            refine b_iload_n dX12_noRow_55 rfl ?_
            refine g_iald dX12_noRow_56 a97 rfl (by omega) ?_
            refine b_top h2 ?_
            refine b_icmp_ge_f 87 dX12_noRow_57 (by decide) (nI_ge (by omega) (by omega)) ?_
            refine b_aload_n dX12_noRow_60 rfl ?_
            refine b_aload_n dX12_noRow_61 rfl ?_
            refine g_get dX12_noRow_62 fX12_79 a77 rfl ?_
            refine b_bipush (v := nI 40) dX12_noRow_65 (by decide) ?_
            refine b_iload_n dX12_noRow_67 rfl ?_
            refine b_imulN dX12_noRow_68 ?_
            refine b_iload_n dX12_noRow_69 rfl ?_
            refine b_iaddN dX12_noRow_70 ?_
            refine g_lald dX12_noRow_71 a98 rfl (by omega) ?_
            refine b_topJ hvi ?_
            refine g_callV [.long (v j i)] dX12_noRow_72 kX12_isFact lX12_241 a77 rfl rfl (m_isFact hM) rfl rfl (Nat.le_of_ble_eq_true rfl) ?_
            have es : askBad L.F (v j) (i + 1) = !inL (v j i) L.F := by rw [askBad, ha, Bool.false_or]; rfl
            refine b_if_ne 81 dX12_noRow_75 (by decide) (fun c5 => ?_) (fun c5 => ?_)
            · skip
              refine b_iinc dX12_noRow_81 rfl (nI_1 _) (by decide) rfl ?_
              refine b_goto 50 dX12_noRow_84 (by decide) ?_
              exact ih (i + 1) (by omega) (by rw [es, (bI_1 _).mp c5]; rfl)
            · skip
              have hbad : askBad L.F (v j) q.1 = true := by
                have e1 : askBad L.F (v j) (i + 1) = true := by rw [es, (bI_0 _).mp c5]; rfl
                have up : ∀ m, askBad L.F (v j) (i + 1 + m) = true := by
                  intro m
                  induction m with
                  | zero => exact e1
                  | succ m ihm => rw [← Nat.add_assoc, askBad, ihm]; rfl
                have := up (q.1 - (i + 1)); rw [show i + 1 + (q.1 - (i + 1)) = q.1 by omega] at this; exact this
              refine b_bipush (v := -3) dX12_noRow_78 (by decide) ?_
              exact b_iret dX12_noRow_80 ⟨by rw [if_neg (by omega), hbad, if_pos rfl], rfl⟩
        exact lp q.1 0 (by omega) rfl
      · skip
        have c4 := (bI_0 _).mp c3
        have hq : q.1 < 1 ∨ 8 < q.1 := by
          rcases Nat.lt_or_ge q.1 1 with w | w
          · exact Or.inl w
          · rcases Nat.lt_or_ge 8 q.1 with w2 | w2
            · exact Or.inr w2
            · have : inB (nI q.1) 1 8 = true := by
                simp only [inB, Bool.and_eq_true, decide_eq_true_eq]
                exact ⟨nI_le w (by omega), nI_le w2 (by omega)⟩
              rw [this] at c4; exact absurd c4 (by simp)
        refine b_bipush (v := -4) dX12_noRow_45 (by decide) ?_
        exact b_iret dX12_noRow_47 ⟨by rw [if_pos hq], rfl⟩
  · skip
    refine b_bipush (v := -2) dX12_noRow_12 (by decide) ?_
    exact b_iret dX12_noRow_14 ⟨by simp [oNoRow, (bI_0 _).mp c1], rfl⟩
theorem m_isFit {G : GT} {d : Nat} {σ : ST} {μ : SL} {L : LD} {j k len : Nat} {v : Nat → Int64} (hM : MV σ L) (hj : j < 4) (hlen : σ 97 j = nI len) (hl8 : len ≤ 8) (hv : ∀ i, i < len → μ 98 (40 * j + i) = v i) (hb8 : askBad L.F v len = false) : Fn G (d + 2) mX12_isFit [.ref (G.b0 + 77), .int (nI j), .int (nI k)] (sh G σ μ) (Ret (some (.int (bI (fitK L v len k)))) (sh G σ μ)) := by
  have hb := hM.b
  have hno := askBad_no (show L.F < 2 ^ 31 by omega) len hb8
  refine fn_of (ls := [some (.ref (G.b0 + 77)), some (.int (nI j)), some (.int (nI k)), none, none, none]) (by decide +kernel) (Nat.le_of_ble_eq_true rfl) 3 rfl ?_
  refine b_iload_n dX12_isFit_0 rfl ?_
  refine b_istore_n dX12_isFit_1 (by decide) rfl ?_
  refine b_iconst (v := nI 0) dX12_isFit_2 (by decide) ?_
  refine b_istore dX12_isFit_3 (by decide) rfl ?_
  have lp : ∀ (n i : Nat) (told : Int32) (z5 : Option Value), i + n = len → mFit L v n i (mPoss L.hold L.W told L.t L.F) = fitK L v len k → BB G RX12 cX12_isFit 6 (some .boolean) (d + 2) (QM G (Ret (some (.int (bI (fitK L v len k)))) (sh G σ μ))) 5 [some (.ref (G.b0 + 77)), some (.int (nI j)), some (.int (nI k)), some (.int told), some (.int (nI i)), z5] [] (sh G σ μ) := by
    intro n
    induction n with
    | zero =>
      intro i told z5 hi he
      refine b_iload dX12_isFit_5 rfl ?_
      refine b_aload_n dX12_isFit_7 rfl ?_
      refine g_get dX12_isFit_8 fX12_76 a77 rfl ?_
      refine b_iload_n dX12_isFit_11 rfl ?_
      refine g_iald dX12_isFit_12 a97 rfl (by omega) ?_
      refine b_top hlen ?_
      refine b_icmp_ge_t 73 dX12_isFit_13 (by decide) (nI_le (by omega) (by omega)) ?_
      refine b_iconst (v := nI 1) dX12_isFit_73 (by decide) ?_
      exact b_zret dX12_isFit_74 (bI_n true) ⟨by rw [← he]; rfl, rfl⟩
    | succ n ih =>
      intro i told z5 hi he
      obtain ⟨hf, hvf⟩ := hno i (by omega)
      have hvi := hv i (by omega)
      generalize hfg : fi (v i) = f at hf hvf
      rw [mFit, hfg] at he
      refine b_iload dX12_isFit_5 rfl ?_
      refine b_aload_n dX12_isFit_7 rfl ?_
      refine g_get dX12_isFit_8 fX12_76 a77 rfl ?_
      refine b_iload_n dX12_isFit_11 rfl ?_
      refine g_iald dX12_isFit_12 a97 rfl (by omega) ?_
      refine b_top hlen ?_
      refine b_icmp_ge_f 73 dX12_isFit_13 (by decide) (nI_ge (by omega) (by omega)) ?_
      refine b_aload_n dX12_isFit_16 rfl ?_
      refine g_get dX12_isFit_17 fX12_79 a77 rfl ?_
      refine b_bipush (v := nI 40) dX12_isFit_20 (by decide) ?_
      refine b_iload_n dX12_isFit_22 rfl ?_
      refine b_imulN dX12_isFit_23 ?_
      refine b_iload dX12_isFit_24 rfl ?_
      refine b_iaddN dX12_isFit_26 ?_
      refine g_lald dX12_isFit_27 a98 rfl (by omega) ?_
      refine b_topJ (hvi.trans hvf) ?_
      refine b_l2i dX12_isFit_28 ?_
      refine b_top (lN_i f) ?_
      refine b_istore dX12_isFit_29 (by decide) rfl ?_
      refine b_aload_n dX12_isFit_31 rfl ?_
      refine b_iload_n dX12_isFit_32 rfl ?_
      refine b_aload_n dX12_isFit_33 rfl ?_
      refine g_get dX12_isFit_34 fX12_13 a77 rfl ?_
      refine b_iconst (v := nI 4) dX12_isFit_37 (by decide) ?_
      refine g_iald dX12_isFit_38 a78 rfl (by omega) ?_
      refine b_top hM.ct ?_
      refine g_callV [.int told, .int (nI L.t)] dX12_isFit_39 kX12_cellOf lX12_232 a77 rfl rfl (m_cellOf hM (by omega)) rfl rfl (Nat.le_of_ble_eq_true rfl) ?_
      refine b_aload_n dX12_isFit_42 rfl ?_
      refine g_get dX12_isFit_43 fX12_13 a77 rfl ?_
      refine b_bipush (v := nI 105) dX12_isFit_46 (by decide) ?_
      refine b_iload dX12_isFit_48 rfl ?_
      refine b_iaddN dX12_isFit_50 ?_
      refine g_iald dX12_isFit_51 a78 rfl (by omega) ?_
      refine b_top (hM.hold (by omega)) ?_
      refine b_callSr [.int (mPoss L.hold L.W told L.t L.F), .int (L.hold f)] dX12_isFit_52 kX12_isPlain lX12_229 m_isPlain rfl rfl (Nat.le_of_ble_eq_true rfl) ?_
      refine b_if_eq 60 dX12_isFit_55 (by decide) (fun c1 => ?_) (fun c1 => ?_)
      · skip
        rw [(bI_0 _).mp c1] at he
        refine b_iload_n dX12_isFit_60 rfl ?_
        refine b_iconst (v := nI 1) dX12_isFit_61 (by decide) ?_
        refine b_iload dX12_isFit_62 rfl ?_
        refine b_ishl dX12_isFit_64 ?_
        refine b_ior dX12_isFit_65 ?_
        refine b_istore_n dX12_isFit_66 (by decide) rfl ?_
        refine b_iinc dX12_isFit_67 rfl (nI_1 _) (by decide) rfl ?_
        refine b_goto 5 dX12_isFit_70 (by decide) ?_
        refine ih (i + 1) _ _ (by omega) ?_
        rw [mPoss_or _ (by omega) (by omega), if_pos hf]
        simpa using he
      · skip
        rw [(bI_1 _).mp c1] at he
        refine b_iconst (v := nI 0) dX12_isFit_58 (by decide) ?_
        exact b_zret dX12_isFit_59 (bI_n false) ⟨by rw [← he]; rfl, rfl⟩
  exact lp len 0 _ _ (by omega) rfl
theorem m_X_fitting {G : GT} {d : Nat} {σ : ST} {μ : SL} {L : LD} {row : Int32} {R : Nat → Option (Nat × Nat)} {v : Nat → Nat → Int64} (hM : MV σ L) (hR : MR σ μ R v) : Fn G (d + 3) mX12_fitting [.ref (G.b0 + 77), .int row] (sh G σ μ) (Ret (some (.int (oFitting L R v row))) (sh G σ μ)) := by
  have hb := hM.b
  have hpw : 2 ^ L.F ≤ 256 := Nat.le_trans (Nat.pow_le_pow_right (by omega) hb.2.1) (by decide)
  refine fn_of (ls := [some (.ref (G.b0 + 77)), some (.int row), none, none, none]) (by decide +kernel) (Nat.le_of_ble_eq_true rfl) 3 rfl ?_
  refine b_aload_n dX12_fitting_0 rfl ?_
  refine b_iconst (v := nI 0) dX12_fitting_1 (by decide) ?_
  refine g_put dX12_fitting_2 wX12_1 a77 tfX12_0 (Nat.le_of_ble_eq_true rfl) rfl ?_
  refine b_sig hM.t0 ?_
  refine b_aload_n dX12_fitting_5 rfl ?_
  refine b_iload_n dX12_fitting_6 rfl ?_
  refine g_callV [.int row] dX12_fitting_7 kX12_noRow lX12_380 a77 rfl rfl (m_noRow hM hR) rfl rfl (Nat.le_of_ble_eq_true rfl) ?_
  refine b_istore_n dX12_fitting_10 (by decide) rfl ?_
  refine b_iload_n dX12_fitting_11 rfl ?_
  refine b_if_eq 17 dX12_fitting_12 (by decide) (fun c1 => ?_) (fun c1 => ?_)
  · skip
    obtain ⟨c2, q, hRj, q1, q8, hbad, h0⟩ := oNoRow_ok c1
    obtain ⟨j, hj, rfl⟩ := inR_of (by omega) c2
    have hjx := ix_nI (show j < 2 ^ 31 by omega)
    rw [hjx] at hRj hbad
    obtain ⟨h1, h2, h3, h4, h5⟩ := MR_so hR hj hRj
    have eo : oFitting L R v (nI j) = nI (mCt (fitK L (v j) q.1) (2 ^ L.F)) := by simp [oFitting, c1, hjx, hRj]
    rw [eo]
    refine b_iconst (v := nI 0) dX12_fitting_17 (by decide) ?_
    refine b_istore_n dX12_fitting_18 (by decide) rfl ?_
    refine b_iconst (v := nI 0) dX12_fitting_19 (by decide) ?_
    refine b_istore dX12_fitting_20 (by decide) rfl ?_
    have lp : ∀ (n i : Nat), i + n = 2 ^ L.F → BB G RX12 cX12_fitting 5 (some .int) (d + 3) (QM G (Ret (some (.int (nI (mCt (fitK L (v j) q.1) (2 ^ L.F))))) (sh G σ μ))) 22 [some (.ref (G.b0 + 77)), some (.int (nI j)), some (.int (oNoRow L R v (nI j))), some (.int (nI (mCt (fitK L (v j) q.1) i))), some (.int (nI i))] [] (sh G σ μ) := by
      intro n
      induction n with
      | zero =>
        intro i hi
        refine b_iload dX12_fitting_22 rfl ?_
        refine b_iconst (v := nI 1) dX12_fitting_24 (by decide) ?_
        refine b_aload_n dX12_fitting_25 rfl ?_
        refine g_get dX12_fitting_26 fX12_13 a77 rfl ?_
        refine b_iconst (v := nI 2) dX12_fitting_29 (by decide) ?_
        refine g_iald dX12_fitting_30 a78 rfl (by omega) ?_
        refine b_top hM.cF ?_
        refine b_ishl dX12_fitting_31 ?_
        refine b_top (shl_pow (by omega)) ?_
        refine b_icmp_ge_t 59 dX12_fitting_32 (by decide) (nI_le (by omega) (by omega)) ?_
        refine b_iload_n dX12_fitting_59 rfl ?_
        exact b_iret dX12_fitting_60 ⟨by rw [show i = 2 ^ L.F by omega], rfl⟩
      | succ n ih =>
        intro i hi
        refine b_iload dX12_fitting_22 rfl ?_
        refine b_iconst (v := nI 1) dX12_fitting_24 (by decide) ?_
        refine b_aload_n dX12_fitting_25 rfl ?_
        refine g_get dX12_fitting_26 fX12_13 a77 rfl ?_
        refine b_iconst (v := nI 2) dX12_fitting_29 (by decide) ?_
        refine g_iald dX12_fitting_30 a78 rfl (by omega) ?_
        refine b_top hM.cF ?_
        refine b_ishl dX12_fitting_31 ?_
        refine b_top (shl_pow (by omega)) ?_
        refine b_icmp_ge_f 59 dX12_fitting_32 (by decide) (nI_ge (by omega) (by omega)) ?_
        refine b_iload_n dX12_fitting_35 rfl ?_
        refine b_aload_n dX12_fitting_36 rfl ?_
        refine b_iload_n dX12_fitting_37 rfl ?_
        refine b_iload dX12_fitting_38 rfl ?_
        refine g_callV [.int (nI j), .int (nI i)] dX12_fitting_40 kX12_isFit lX12_383 a77 rfl rfl (m_isFit hM hj h2 q8 h5 hbad) rfl rfl (Nat.le_of_ble_eq_true rfl) ?_
        refine b_if_eq 50 dX12_fitting_43 (by decide) (fun c3 => ?_) (fun c3 => ?_)
        · skip
          refine b_iconst (v := nI 0) dX12_fitting_50 (by decide) ?_
          refine b_iaddN dX12_fitting_51 ?_
          refine b_istore_n dX12_fitting_52 (by decide) rfl ?_
          refine b_iinc dX12_fitting_53 rfl (nI_1 _) (by decide) rfl ?_
          refine b_goto 22 dX12_fitting_56 (by decide) ?_
          refine b_locs ?_ (ih (i + 1) (by omega))
          rw [mCt, (bI_0 _).mp c3]; rfl
        · skip
          refine b_iconst (v := nI 1) dX12_fitting_46 (by decide) ?_
          refine b_goto 51 dX12_fitting_47 (by decide) ?_
          refine b_iaddN dX12_fitting_51 ?_
          refine b_istore_n dX12_fitting_52 (by decide) rfl ?_
          refine b_iinc dX12_fitting_53 rfl (nI_1 _) (by decide) rfl ?_
          refine b_goto 22 dX12_fitting_56 (by decide) ?_
          refine b_locs ?_ (ih (i + 1) (by omega))
          rw [mCt, (bI_1 _).mp c3]; rfl
    exact lp (2 ^ L.F) 0 (by omega)
  · skip
    refine b_iload_n dX12_fitting_15 rfl ?_
    exact b_iret dX12_fitting_16 ⟨by rw [oFitting, if_neg c1], rfl⟩
theorem mSome_lo {ok : Nat → Bool} {n : Nat} : ∀ k, k ≤ 2 ^ n → lo n (mSome ok k)
  | 0, _ => lo_0 n
  | k + 1, h => by
    rw [mSome]
    split
    · exact lo_or (mSome_lo k (by omega)) (lo_nI (by omega))
    · exact mSome_lo k (by omega)
theorem mSome_no {ok : Nat → Bool} : ∀ k, mAny ok k = false → mSome ok k = nI 0
  | 0, _ => rfl
  | k + 1, h => by
    rw [mAny, Bool.or_eq_false_iff] at h
    rw [mSome, h.2, if_neg (by simp)]; exact mSome_no k h.1
theorem lo_m1 {x : Int32} {k : Nat} (hk : k < 32) (h : lo k x) : ¬ x = -1 := fun z => by
  have := h 31 (by omega) (by omega)
  rw [z, b_m1 31 (by omega)] at this; exact absurd this (by simp)
def smV (ok : Nat → Bool) (k : Nat) : Int32 := if mAny ok k then mSome ok k else -1
theorem m_X_sure {G : GT} {d : Nat} {σ : ST} {μ : SL} {L : LD} {row : Int32} {R : Nat → Option (Nat × Nat)} {v : Nat → Nat → Int64} (hM : MV σ L) (hR : MR σ μ R v) : Fn G (d + 3) mX12_sure [.ref (G.b0 + 77), .int row] (sh G σ μ) (Ret (some (.int (oSure L R v row))) (sh G σ μ)) := by
  have hb := hM.b
  have hpw : 2 ^ L.F ≤ 256 := Nat.le_trans (Nat.pow_le_pow_right (by omega) hb.2.1) (by decide)
  refine fn_of (ls := [some (.ref (G.b0 + 77)), some (.int row), none, none, none]) (by decide +kernel) (Nat.le_of_ble_eq_true rfl) 3 rfl ?_
  refine b_aload_n dX12_sure_0 rfl ?_
  refine b_iconst (v := nI 0) dX12_sure_1 (by decide) ?_
  refine g_put dX12_sure_2 wX12_1 a77 tfX12_0 (Nat.le_of_ble_eq_true rfl) rfl ?_
  refine b_sig hM.t0 ?_
  refine b_aload_n dX12_sure_5 rfl ?_
  refine b_iload_n dX12_sure_6 rfl ?_
  refine g_callV [.int row] dX12_sure_7 kX12_noRow lX12_380 a77 rfl rfl (m_noRow hM hR) rfl rfl (Nat.le_of_ble_eq_true rfl) ?_
  refine b_istore_n dX12_sure_10 (by decide) rfl ?_
  refine b_iload_n dX12_sure_11 rfl ?_
  refine b_if_eq 17 dX12_sure_12 (by decide) (fun c1 => ?_) (fun c1 => ?_)
  · skip
    obtain ⟨c2, q, hRj, q1, q8, hbad, h0⟩ := oNoRow_ok c1
    obtain ⟨j, hj, rfl⟩ := inR_of (by omega) c2
    have hjx := ix_nI (show j < 2 ^ 31 by omega)
    rw [hjx] at hRj hbad
    obtain ⟨h1, h2, h3, h4, h5⟩ := MR_so hR hj hRj
    have eo : oSure L R v (nI j) = if mAny (fitK L (v j) q.1) (2 ^ L.F) then mAll L.F &&& (mSome (fitK L (v j) q.1) (2 ^ L.F) ^^^ (-1)) else -1 := by
      unfold oSure
      rw [if_pos c1, hjx, hRj]
    rw [eo]
    generalize hok : fitK L (v j) q.1 = ok
    refine b_iconst (v := -1) dX12_sure_17 (by decide) ?_
    refine b_istore_n dX12_sure_18 (by decide) rfl ?_
    refine b_iconst (v := nI 0) dX12_sure_19 (by decide) ?_
    refine b_istore dX12_sure_20 (by decide) rfl ?_
    have lp : ∀ (n i : Nat), i + n = 2 ^ L.F → BB G RX12 cX12_sure 5 (some .int) (d + 3) (QM G (Ret (some (.int (if mAny ok (2 ^ L.F) then mAll L.F &&& (mSome ok (2 ^ L.F) ^^^ (-1)) else -1))) (sh G σ μ))) 22 [some (.ref (G.b0 + 77)), some (.int (nI j)), some (.int (oNoRow L R v (nI j))), some (.int (smV ok i)), some (.int (nI i))] [] (sh G σ μ) := by
      intro n
      induction n with
      | zero =>
        intro i hi
        have ei : i = 2 ^ L.F := by omega
        have hlo := lo_m1 (show L.F < 32 by omega) (mSome_lo (ok := ok) (n := L.F) i (by omega))
        refine b_iload dX12_sure_22 rfl ?_
        refine b_iconst (v := nI 1) dX12_sure_24 (by decide) ?_
        refine b_aload_n dX12_sure_25 rfl ?_
        refine g_get dX12_sure_26 fX12_13 a77 rfl ?_
        refine b_iconst (v := nI 2) dX12_sure_29 (by decide) ?_
        refine g_iald dX12_sure_30 a78 rfl (by omega) ?_
        refine b_top hM.cF ?_
        refine b_ishl dX12_sure_31 ?_
        refine b_top (shl_pow (by omega)) ?_
        refine b_icmp_ge_t 66 dX12_sure_32 (by decide) (nI_le (by omega) (by omega)) ?_
        refine b_iload_n dX12_sure_66 rfl ?_
        refine b_iconst (v := -1) dX12_sure_67 (by decide) ?_
        refine b_icmp_ne 75 dX12_sure_68 (by decide) (fun c3 => ?_) (fun c3 => ?_)
        · skip
          have c4 : mAny ok i = true := by
            cases h : mAny ok i
            · exact absurd (show smV ok i = -1 by unfold smV; rw [h]; rfl) c3
            · rfl
          have e : smV ok i = mSome ok i := by unfold smV; rw [if_pos c4]
          refine b_iconst (v := nI 1) dX12_sure_75 (by decide) ?_
          refine b_aload_n dX12_sure_76 rfl ?_
          refine g_get dX12_sure_77 fX12_13 a77 rfl ?_
          refine b_iconst (v := nI 2) dX12_sure_80 (by decide) ?_
          refine g_iald dX12_sure_81 a78 rfl (by omega) ?_
          refine b_top hM.cF ?_
          refine b_ishl dX12_sure_82 ?_
          refine b_iconst (v := nI 1) dX12_sure_83 (by decide) ?_
          refine b_isub dX12_sure_84 ?_
          refine b_iload_n dX12_sure_85 rfl ?_
          refine b_iconst (v := -1) dX12_sure_86 (by decide) ?_
          refine b_ixor dX12_sure_87 ?_
          refine b_iand dX12_sure_88 ?_
          exact b_iret dX12_sure_89 ⟨by rw [← ei, if_pos c4, e]; rfl, rfl⟩
        · skip
          have c4 : mAny ok i = false := by
            cases h : mAny ok i
            · rfl
            · have e : smV ok i = mSome ok i := by unfold smV; rw [if_pos h]
              rw [e] at c3; exact absurd c3 hlo
          refine b_iconst (v := -1) dX12_sure_71 (by decide) ?_
          refine b_goto 89 dX12_sure_72 (by decide) ?_
          exact b_iret dX12_sure_89 ⟨by rw [← ei, c4]; rfl, rfl⟩
      | succ n ih =>
        intro i hi
        have hlo := lo_m1 (show L.F < 32 by omega) (mSome_lo (ok := ok) (n := L.F) i (by omega))
        refine b_iload dX12_sure_22 rfl ?_
        refine b_iconst (v := nI 1) dX12_sure_24 (by decide) ?_
        refine b_aload_n dX12_sure_25 rfl ?_
        refine g_get dX12_sure_26 fX12_13 a77 rfl ?_
        refine b_iconst (v := nI 2) dX12_sure_29 (by decide) ?_
        refine g_iald dX12_sure_30 a78 rfl (by omega) ?_
        refine b_top hM.cF ?_
        refine b_ishl dX12_sure_31 ?_
        refine b_top (shl_pow (by omega)) ?_
        refine b_icmp_ge_f 66 dX12_sure_32 (by decide) (nI_ge (by omega) (by omega)) ?_
        refine b_aload_n dX12_sure_35 rfl ?_
        refine b_iload_n dX12_sure_36 rfl ?_
        refine b_iload dX12_sure_37 rfl ?_
        refine g_callV [.int (nI j), .int (nI i)] dX12_sure_39 kX12_isFit lX12_383 a77 rfl rfl (m_isFit hM hj h2 q8 h5 hbad) rfl rfl (Nat.le_of_ble_eq_true rfl) ?_
        rw [show fitK L (v j) q.1 i = ok i by rw [hok]]
        refine b_if_eq 60 dX12_sure_42 (by decide) (fun c3 => ?_) (fun c3 => ?_)
        · skip
          have c4 := (bI_0 _).mp c3
          refine b_iinc dX12_sure_60 rfl (nI_1 _) (by decide) rfl ?_
          refine b_goto 22 dX12_sure_63 (by decide) ?_
          refine b_locs ?_ (ih (i + 1) (by omega))
          have e : smV ok (i + 1) = smV ok i := by unfold smV; rw [mAny, mSome, c4]; simp
          rw [e]; rfl
        · skip
          have c4 := (bI_1 _).mp c3
          have e1 : smV ok (i + 1) = mSome ok i ||| nI i := by unfold smV; rw [mAny, mSome, c4]; simp
          refine b_iload_n dX12_sure_45 rfl ?_
          refine b_iconst (v := -1) dX12_sure_46 (by decide) ?_
          refine b_icmp_ne 55 dX12_sure_47 (by decide) (fun c5 => ?_) (fun c5 => ?_)
          · skip
            have c6 : mAny ok i = true := by
              cases h : mAny ok i
              · exact absurd (show smV ok i = -1 by unfold smV; rw [h]; rfl) c5
              · rfl
            have e : smV ok i = mSome ok i := by unfold smV; rw [if_pos c6]
            refine b_iload_n dX12_sure_55 rfl ?_
            refine b_iload dX12_sure_56 rfl ?_
            refine b_ior dX12_sure_58 ?_
            refine b_istore_n dX12_sure_59 (by decide) rfl ?_
            refine b_iinc dX12_sure_60 rfl (nI_1 _) (by decide) rfl ?_
            refine b_goto 22 dX12_sure_63 (by decide) ?_
            refine b_locs ?_ (ih (i + 1) (by omega))
            rw [e1, e]; rfl
          · skip
            have c6 : mAny ok i = false := by
              cases h : mAny ok i
              · rfl
              · have e : smV ok i = mSome ok i := by unfold smV; rw [if_pos h]
                rw [e] at c5; exact absurd c5 hlo
            refine b_iload dX12_sure_50 rfl ?_
            refine b_goto 59 dX12_sure_52 (by decide) ?_
            refine b_istore_n dX12_sure_59 (by decide) rfl ?_
            refine b_iinc dX12_sure_60 rfl (nI_1 _) (by decide) rfl ?_
            refine b_goto 22 dX12_sure_63 (by decide) ?_
            refine b_locs ?_ (ih (i + 1) (by omega))
            rw [e1, mSome_no i c6, or_comm', or_0]; rfl
    exact lp (2 ^ L.F) 0 (by omega)
  · skip
    refine b_iload_n dX12_sure_15 rfl ?_
    exact b_iret dX12_sure_16 ⟨by rw [oSure, if_neg c1], rfl⟩

