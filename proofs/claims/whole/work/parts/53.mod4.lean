/-! ===== the reference: right, justice, sets of people and facts ===== -/
theorem mWt_cg {wt : Nat → Int32} {x y : Int32} : ∀ n, (∀ i, i < n → bt x i = bt y i) → mWt wt x n = mWt wt y n
  | 0, _ => rfl
  | n + 1, h => by rw [mWt, mWt, mWt_cg n (fun i hi => h i (by omega)), h n (by omega)]
theorem not_bt {x : Int32} {i : Nat} (hi : i < 32) : bt (x ^^^ (-1)) i = !bt x i := by rw [b_xor, b_m1 i hi]; simp
theorem m_isRight {G : GT} {d : Nat} {σ : ST} {μ : SL} {L : LD} {p w : Nat} (hM : MV σ L) (hp : p < L.P) (hw : w < 32) : Fn G (d + 2) mX12_isRight [.ref (G.b0 + 77), .int (nI p), .int (nI w)] (sh G σ μ) (Ret (some (.int (bI (isR L p w)))) (sh G σ μ)) := by
  have hb := hM.b
  refine fn_of (ls := [some (.ref (G.b0 + 77)), some (.int (nI p)), some (.int (nI w)), none, none]) (by decide +kernel) (Nat.le_of_ble_eq_true rfl) 2 rfl ?_
  refine b_aload_n dX12_isRight_0 rfl ?_
  refine b_aload_n dX12_isRight_1 rfl ?_
  refine g_get dX12_isRight_2 fX12_13 a77 rfl ?_
  refine b_iconst (v := nI 5) dX12_isRight_5 (by decide) ?_
  refine b_iload_n dX12_isRight_6 rfl ?_
  refine b_iaddN dX12_isRight_7 ?_
  refine g_iald dX12_isRight_8 a78 rfl (by omega) ?_
  refine b_top (hM.told (by omega)) ?_
  refine b_iload_n dX12_isRight_9 rfl ?_
  refine g_callV [.int (L.told p), .int (nI w)] dX12_isRight_10 kX12_cellOf lX12_232 a77 rfl rfl (m_cellOf hM hw) rfl rfl (Nat.le_of_ble_eq_true rfl) ?_
  refine b_istore_n dX12_isRight_13 (by decide) rfl ?_
  refine b_aload_n dX12_isRight_14 rfl ?_
  refine g_callV [] dX12_isRight_15 kX12_guilty lX12_254 a77 rfl rfl (m_guilty hM) rfl rfl (Nat.le_of_ble_eq_true rfl) ?_
  refine b_i2l dX12_isRight_18 ?_
  refine b_iload_n dX12_isRight_19 rfl ?_
  refine b_callSr [.long L.gl.toInt64, .int (nI w)] dX12_isRight_20 kX12_isIn lX12_222 (c_isIn hw) rfl rfl (Nat.le_of_ble_eq_true rfl) ?_
  have fin : ∀ y : Int32, mWt L.wt (poss L p w &&& y) L.W = mWt L.wt (mAlike L.gl (poss L p w) w) L.W → mWt L.wt (poss L p w &&& (y ^^^ (-1))) L.W = mWt L.wt (poss L p w &&& (mAlike L.gl (poss L p w) w ^^^ (-1))) L.W → BB G RX12 cX12_isRight 5 (some .boolean) (d + 2) (QM G (Ret (some (.int (bI (isR L p w)))) (sh G σ μ))) 46 [some (.ref (G.b0 + 77)), some (.int (nI p)), some (.int (nI w)), some (.int (poss L p w)), some (.int y)] [] (sh G σ μ) := by
    intro y e1 e2
    refine b_aload_n dX12_isRight_46 rfl ?_
    refine b_iload_n dX12_isRight_47 rfl ?_
    refine b_iload dX12_isRight_48 rfl ?_
    refine b_iand dX12_isRight_50 ?_
    refine g_callV [.int ((poss L p w) &&& y)] dX12_isRight_51 kX12_weightOf lX12_321 a77 rfl rfl (m_weightOf hM) rfl rfl (Nat.le_of_ble_eq_true rfl) ?_
    refine b_aload_n dX12_isRight_54 rfl ?_
    refine b_iload_n dX12_isRight_55 rfl ?_
    refine b_iload dX12_isRight_56 rfl ?_
    refine b_iconst (v := -1) dX12_isRight_58 (by decide) ?_
    refine b_ixor dX12_isRight_59 ?_
    refine b_iand dX12_isRight_60 ?_
    refine g_callV [.int ((poss L p w) &&& (y ^^^ ((-1))))] dX12_isRight_61 kX12_weightOf lX12_321 a77 rfl rfl (m_weightOf hM) rfl rfl (Nat.le_of_ble_eq_true rfl) ?_
    rw [e1, e2]
    have er : isR L p w = decide (mWt L.wt (poss L p w &&& (mAlike L.gl (poss L p w) w ^^^ (-1))) L.W < mWt L.wt (mAlike L.gl (poss L p w) w) L.W) := rfl
    refine b_icmp_le 71 dX12_isRight_64 (by decide) (fun c1 => ?_) (fun c1 => ?_)
    · skip
      refine b_iconst (v := nI 0) dX12_isRight_71 (by decide) ?_
      exact b_zret dX12_isRight_72 rfl ⟨by rw [er, decide_eq_false (Int32.not_lt.mpr c1)]; rfl, rfl⟩
    · skip
      refine b_iconst (v := nI 1) dX12_isRight_67 (by decide) ?_
      refine b_goto 72 dX12_isRight_68 (by decide) ?_
      exact b_zret dX12_isRight_72 rfl ⟨by rw [er, decide_eq_true (Int32.not_le.mp c1)]; rfl, rfl⟩
  refine b_if_eq 33 dX12_isRight_23 (by decide) (fun c1 => ?_) (fun c1 => ?_)
  · skip
    have c2 := (bI_0 _).mp c1
    refine b_aload_n dX12_isRight_33 rfl ?_
    refine g_callV [] dX12_isRight_34 kX12_worlds lX12_226 a77 rfl rfl (m_worlds hM) rfl rfl (Nat.le_of_ble_eq_true rfl) ?_
    refine b_aload_n dX12_isRight_37 rfl ?_
    refine g_callV [] dX12_isRight_38 kX12_guilty lX12_254 a77 rfl rfl (m_guilty hM) rfl rfl (Nat.le_of_ble_eq_true rfl) ?_
    refine b_iconst (v := -1) dX12_isRight_41 (by decide) ?_
    refine b_ixor dX12_isRight_42 ?_
    refine b_iand dX12_isRight_43 ?_
    refine b_istore dX12_isRight_44 (by decide) rfl ?_
    refine fin _ ?_ ?_
    · refine mWt_cg _ (fun i hi => ?_)
      rw [mAlike, if_neg (by simp [c2]), b_and, b_and, b_and, bt_all (by omega) (by omega), decide_eq_true hi, Bool.true_and]
    · refine mWt_cg _ (fun i hi => ?_)
      rw [mAlike, if_neg (by simp [c2]), b_and, b_and, not_bt (by omega), not_bt (by omega), b_and, b_and, bt_all (by omega) (by omega), decide_eq_true hi, Bool.true_and]
      cases bt (poss L p w) i <;> simp
  · skip
    have c2 := (bI_1 _).mp c1
    refine b_aload_n dX12_isRight_26 rfl ?_
    refine g_callV [] dX12_isRight_27 kX12_guilty lX12_254 a77 rfl rfl (m_guilty hM) rfl rfl (Nat.le_of_ble_eq_true rfl) ?_
    refine b_goto 44 dX12_isRight_30 (by decide) ?_
    refine b_istore dX12_isRight_44 (by decide) rfl ?_
    refine fin _ ?_ ?_
    · rw [mAlike, if_pos c2]
    · refine mWt_cg _ (fun i hi => ?_)
      rw [mAlike, if_pos c2, b_and, b_and, not_bt (by omega), not_bt (by omega), b_and]
      cases bt (poss L p w) i <;> simp
theorem m_X_right {G : GT} {d : Nat} {σ : ST} {μ : SL} {L : LD} {x : Int32} (hM : MV σ L) : Fn G (d + 3) mX12_right [.ref (G.b0 + 77), .int x] (sh G σ μ) (Ret (some (.int (oRight L x))) (sh G σ μ)) := by
  have hb := hM.b
  refine fn_of (ls := [some (.ref (G.b0 + 77)), some (.int x), none, none]) (by decide +kernel) (Nat.le_of_ble_eq_true rfl) 2 rfl ?_
  refine b_aload_n dX12_right_0 rfl ?_
  refine b_iconst (v := nI 0) dX12_right_1 (by decide) ?_
  refine g_put dX12_right_2 wX12_1 a77 tfX12_0 (Nat.le_of_ble_eq_true rfl) rfl ?_
  refine b_sig hM.t0 ?_
  refine b_aload_n dX12_right_5 rfl ?_
  refine b_iload_n dX12_right_6 rfl ?_
  refine b_i2l dX12_right_7 ?_
  refine g_callV [.long x.toInt64] dX12_right_8 kX12_isPerson lX12_245 a77 rfl rfl (m_isPersonI hM) rfl rfl (Nat.le_of_ble_eq_true rfl) ?_
  refine b_if_ne 17 dX12_right_11 (by decide) (fun c1 => ?_) (fun c1 => ?_)
  · skip
    have c2 := (bI_1 _).mp c1
    obtain ⟨j, hj, rfl⟩ := inR_of (by omega) c2
    have hjx := ix_nI (show j < 2 ^ 31 by omega)
    refine b_iconst (v := nI 0) dX12_right_17 (by decide) ?_
    refine b_istore_n dX12_right_18 (by decide) rfl ?_
    refine b_iconst (v := nI 0) dX12_right_19 (by decide) ?_
    refine b_istore_n dX12_right_20 (by decide) rfl ?_
    have lp : ∀ (n i : Nat), i + n = L.W → BB G RX12 cX12_right 4 (some .int) (d + 3) (QM G (Ret (some (.int (oRight L (nI j)))) (sh G σ μ))) 21 [some (.ref (G.b0 + 77)), some (.int (nI j)), some (.int (mSumW L.wt (isR L j) i)), some (.int (nI i))] [] (sh G σ μ) := by
      intro n
      induction n with
      | zero =>
        intro i hi
        refine b_iload_n dX12_right_21 rfl ?_
        refine b_aload_n dX12_right_22 rfl ?_
        refine g_get dX12_right_23 fX12_13 a77 rfl ?_
        refine b_iconst (v := nI 1) dX12_right_26 (by decide) ?_
        refine g_iald dX12_right_27 a78 rfl (by omega) ?_
        refine b_top hM.cW ?_
        refine b_icmp_ge_t 62 dX12_right_28 (by decide) (nI_le (by omega) (by omega)) ?_
        refine b_iload_n dX12_right_62 rfl ?_
        exact b_iret dX12_right_63 ⟨by simp [oRight, c2, hjx, show i = L.W by omega], rfl⟩
      | succ n ih =>
        intro i hi
        refine b_iload_n dX12_right_21 rfl ?_
        refine b_aload_n dX12_right_22 rfl ?_
        refine g_get dX12_right_23 fX12_13 a77 rfl ?_
        refine b_iconst (v := nI 1) dX12_right_26 (by decide) ?_
        refine g_iald dX12_right_27 a78 rfl (by omega) ?_
        refine b_top hM.cW ?_
        refine b_icmp_ge_f 62 dX12_right_28 (by decide) (nI_ge (by omega) (by omega)) ?_
        refine b_iload_n dX12_right_31 rfl ?_
        refine b_aload_n dX12_right_32 rfl ?_
        refine b_iload_n dX12_right_33 rfl ?_
        refine b_iload_n dX12_right_34 rfl ?_
        refine g_callV [.int (nI j), .int (nI i)] dX12_right_35 kX12_isRight lX12_369 a77 rfl rfl (m_isRight hM hj (by omega)) rfl rfl (Nat.le_of_ble_eq_true rfl) ?_
        refine b_if_eq 53 dX12_right_38 (by decide) (fun c3 => ?_) (fun c3 => ?_)
        · skip
          refine b_iconst (v := nI 0) dX12_right_53 (by decide) ?_
          refine b_iadd dX12_right_54 ?_
          refine b_istore_n dX12_right_55 (by decide) rfl ?_
          refine b_iinc dX12_right_56 rfl (nI_1 _) (by decide) rfl ?_
          refine b_goto 21 dX12_right_59 (by decide) ?_
          refine b_locs ?_ (ih (i + 1) (by omega))
          simp [mSumW, (bI_0 _).mp c3, nI_0]
        · skip
          refine b_aload_n dX12_right_41 rfl ?_
          refine g_get dX12_right_42 fX12_13 a77 rfl ?_
          refine b_bipush (v := nI 59) dX12_right_45 (by decide) ?_
          refine b_iload_n dX12_right_47 rfl ?_
          refine b_iaddN dX12_right_48 ?_
          refine g_iald dX12_right_49 a78 rfl (by omega) ?_
          refine b_top (hM.wt (by omega)) ?_
          refine b_goto 54 dX12_right_50 (by decide) ?_
          refine b_iadd dX12_right_54 ?_
          refine b_istore_n dX12_right_55 (by decide) rfl ?_
          refine b_iinc dX12_right_56 rfl (nI_1 _) (by decide) rfl ?_
          refine b_goto 21 dX12_right_59 (by decide) ?_
          refine b_locs ?_ (ih (i + 1) (by omega))
          simp [mSumW, (bI_1 _).mp c3]
    exact lp L.W 0 (by omega)
  · skip
    refine b_bipush (v := -2) dX12_right_14 (by decide) ?_
    exact b_iret dX12_right_16 ⟨by simp [oRight, (bI_0 _).mp (by simpa using c1)], rfl⟩
theorem lst_ok {L : LD} (hK : LBk L) {m : Nat} {tl : Nat → Int32} {w : Nat} (hP : 0 < L.P) : ∃ p, p < L.P ∧ lst L m tl w = nI p := by
  obtain ⟨n, hn⟩ : ∃ n, L.P = n + 1 := ⟨L.P - 1, by omega⟩
  obtain ⟨q, hq, e⟩ := mLst_w (amt := fun p => amq L m (mPoss L.hold L.W (tl p) w L.F)) n (fun p _ => amt_ok' hK m _)
  refine ⟨q, by omega, ?_⟩
  show (mLst (fun p => amq L m (mPoss L.hold L.W (tl p) w L.F)) L.P).1 = nI q
  rw [hn, e]
theorem m_justiceOf {G : GT} {d : Nat} {σ : ST} {μ : SL} {L : LD} {m : Nat} (hM : MV σ L) (hK : LBk L) (hm : m < 4) (hP : 0 < L.P) : Fn G (d + 4) mX12_justiceOf [.ref (G.b0 + 77), .int (nI m)] (sh G σ μ) (Ret (some (.int (jus L m))) (sh G σ μ)) := by
  have hb := hM.b
  refine fn_of (ls := [some (.ref (G.b0 + 77)), some (.int (nI m)), none, none]) (by decide +kernel) (Nat.le_of_ble_eq_true rfl) 2 rfl ?_
  refine b_iconst (v := nI 0) dX12_justiceOf_0 (by decide) ?_
  refine b_istore_n dX12_justiceOf_1 (by decide) rfl ?_
  refine b_iconst (v := nI 0) dX12_justiceOf_2 (by decide) ?_
  refine b_istore_n dX12_justiceOf_3 (by decide) rfl ?_
  have lp : ∀ (n i : Nat), i + n = L.W → BB G RX12 cX12_justiceOf 4 (some .int) (d + 4) (QM G (Ret (some (.int (jus L m))) (sh G σ μ))) 4 [some (.ref (G.b0 + 77)), some (.int (nI m)), some (.int (mSumW L.wt (jR L m) i)), some (.int (nI i))] [] (sh G σ μ) := by
    intro n
    induction n with
    | zero =>
      intro i hi
      refine b_iload_n dX12_justiceOf_4 rfl ?_
      refine b_aload_n dX12_justiceOf_5 rfl ?_
      refine g_get dX12_justiceOf_6 fX12_13 a77 rfl ?_
      refine b_iconst (v := nI 1) dX12_justiceOf_9 (by decide) ?_
      refine g_iald dX12_justiceOf_10 a78 rfl (by omega) ?_
      refine b_top hM.cW ?_
      refine b_icmp_ge_t 50 dX12_justiceOf_11 (by decide) (nI_le (by omega) (by omega)) ?_
      refine b_iload_n dX12_justiceOf_50 rfl ?_
      exact b_iret dX12_justiceOf_51 ⟨by rw [show i = L.W by omega]; rfl, rfl⟩
    | succ n ih =>
      intro i hi
      obtain ⟨q, hq, eq⟩ := lst_ok hK (m := m) (tl := L.told) (w := i) hP
      have ej : jR L m i = isR L q i := by
        unfold jR
        rw [eq, inR_nI (by omega) (by omega), decide_eq_true hq, ix_nI (by omega), Bool.true_and]
      refine b_iload_n dX12_justiceOf_4 rfl ?_
      refine b_aload_n dX12_justiceOf_5 rfl ?_
      refine g_get dX12_justiceOf_6 fX12_13 a77 rfl ?_
      refine b_iconst (v := nI 1) dX12_justiceOf_9 (by decide) ?_
      refine g_iald dX12_justiceOf_10 a78 rfl (by omega) ?_
      refine b_top hM.cW ?_
      refine b_icmp_ge_f 50 dX12_justiceOf_11 (by decide) (nI_ge (by omega) (by omega)) ?_
      refine b_iload_n dX12_justiceOf_14 rfl ?_
      refine b_aload_n dX12_justiceOf_15 rfl ?_
      refine b_aload_n dX12_justiceOf_16 rfl ?_
      refine b_iload_n dX12_justiceOf_17 rfl ?_
      refine b_iload_n dX12_justiceOf_18 rfl ?_
      refine g_callV [.int (nI m), .int (nI i)] dX12_justiceOf_19 kX12_leastOf lX12_294 a77 rfl rfl (m_leastOf hM hK hm (by omega)) rfl rfl (Nat.le_of_ble_eq_true rfl) ?_
      refine b_top eq ?_
      refine b_iload_n dX12_justiceOf_22 rfl ?_
      refine g_callV [.int (nI q), .int (nI i)] dX12_justiceOf_23 kX12_isRight lX12_369 a77 rfl rfl (m_isRight hM hq (by omega)) rfl rfl (Nat.le_of_ble_eq_true rfl) ?_
      rw [← ej]
      refine b_if_eq 41 dX12_justiceOf_26 (by decide) (fun c3 => ?_) (fun c3 => ?_)
      · skip
        refine b_iconst (v := nI 0) dX12_justiceOf_41 (by decide) ?_
        refine b_iadd dX12_justiceOf_42 ?_
        refine b_istore_n dX12_justiceOf_43 (by decide) rfl ?_
        refine b_iinc dX12_justiceOf_44 rfl (nI_1 _) (by decide) rfl ?_
        refine b_goto 4 dX12_justiceOf_47 (by decide) ?_
        refine b_locs ?_ (ih (i + 1) (by omega))
        simp [mSumW, (bI_0 _).mp c3, nI_0]
      · skip
        refine b_aload_n dX12_justiceOf_29 rfl ?_
        refine g_get dX12_justiceOf_30 fX12_13 a77 rfl ?_
        refine b_bipush (v := nI 59) dX12_justiceOf_33 (by decide) ?_
        refine b_iload_n dX12_justiceOf_35 rfl ?_
        refine b_iaddN dX12_justiceOf_36 ?_
        refine g_iald dX12_justiceOf_37 a78 rfl (by omega) ?_
        refine b_top (hM.wt (by omega)) ?_
        refine b_goto 42 dX12_justiceOf_38 (by decide) ?_
        refine b_iadd dX12_justiceOf_42 ?_
        refine b_istore_n dX12_justiceOf_43 (by decide) rfl ?_
        refine b_iinc dX12_justiceOf_44 rfl (nI_1 _) (by decide) rfl ?_
        refine b_goto 4 dX12_justiceOf_47 (by decide) ?_
        refine b_locs ?_ (ih (i + 1) (by omega))
        simp [mSumW, (bI_1 _).mp c3]
  exact lp L.W 0 (by omega)
theorem m_X_justice {G : GT} {d : Nat} {σ : ST} {μ : SL} {L : LD} {m : Int32} (hM : MV σ L) (hK : LBk L) : Fn G (d + 5) mX12_justice [.ref (G.b0 + 77), .int m] (sh G σ μ) (Ret (some (.int (oJustice L m))) (sh G σ μ)) := by
  have hb := hM.b
  refine fn_of (ls := [some (.ref (G.b0 + 77)), some (.int m)]) (by decide +kernel) (Nat.le_of_ble_eq_true rfl) 0 rfl ?_
  refine b_aload_n dX12_justice_0 rfl ?_
  refine b_iconst (v := nI 0) dX12_justice_1 (by decide) ?_
  refine g_put dX12_justice_2 wX12_1 a77 tfX12_0 (Nat.le_of_ble_eq_true rfl) rfl ?_
  refine b_sig hM.t0 ?_
  refine b_iload_n dX12_justice_5 rfl ?_
  refine b_i2l dX12_justice_6 ?_
  refine b_lconst (v := 0) dX12_justice_7 (by decide) ?_
  refine b_ldc2 dX12_justice_8 cvX12_289 ?_
  refine b_callSr [.long m.toInt64, .long 0, .long ((3))] dX12_justice_11 kX12_within lX12_145 c_within rfl rfl (Nat.le_of_ble_eq_true rfl) ?_
  rw [wi_m]
  refine b_if_ne 20 dX12_justice_14 (by decide) (fun c3 => ?_) (fun c3 => ?_)
  · skip
    have c4 := (bI_1 _).mp c3
    obtain ⟨k, hk, rfl⟩ := inR_of (by omega) c4
    have hkx := ix_nI (show k < 2 ^ 31 by omega)
    refine b_aload_n dX12_justice_20 rfl ?_
    refine g_get dX12_justice_21 fX12_13 a77 rfl ?_
    refine b_iconst (v := nI 3) dX12_justice_24 (by decide) ?_
    refine g_iald dX12_justice_25 a78 rfl (by omega) ?_
    refine b_top hM.cP ?_
    refine b_if_ne 34 dX12_justice_26 (by decide) (fun c5 => ?_) (fun c5 => ?_)
    · skip
      have h0 : 0 < L.P := Nat.pos_of_ne_zero (fun z => c5 (by rw [z]; rfl))
      refine b_aload_n dX12_justice_34 rfl ?_
      refine b_iload_n dX12_justice_35 rfl ?_
      refine g_callV [.int (nI k)] dX12_justice_36 kX12_justiceOf lX12_372 a77 rfl rfl (m_justiceOf hM hK hk h0) rfl rfl (Nat.le_of_ble_eq_true rfl) ?_
      exact b_iret dX12_justice_39 ⟨by simp [oJustice, c4, hkx, show ¬ L.P = 0 by omega], rfl⟩
    · skip
      have h0 : L.P = 0 := by
        have c6 : nI L.P = 0 := by simpa using c5
        rw [← nI_0, nI_eq (by omega) (by omega)] at c6; exact c6
      refine b_bipush (v := -5) dX12_justice_29 (by decide) ?_
      refine b_goto 39 dX12_justice_31 (by decide) ?_
      exact b_iret dX12_justice_39 ⟨by simp [oJustice, c4, hkx, h0], rfl⟩
  · skip
    refine b_bipush (v := -2) dX12_justice_17 (by decide) ?_
    exact b_iret dX12_justice_19 ⟨by simp [oJustice, (bI_0 _).mp (by simpa using c3)], rfl⟩
theorem m_X_bestLaw {G : GT} {d : Nat} {σ : ST} {μ : SL} {L : LD} (hM : MV σ L) (hK : LBk L) : Fn G (d + 5) mX12_bestLaw [.ref (G.b0 + 77)] (sh G σ μ) (Ret (some (.int (oBestLaw L))) (sh G σ μ)) := by
  have hb := hM.b
  refine fn_of (ls := [some (.ref (G.b0 + 77)), none, none]) (by decide +kernel) (Nat.le_of_ble_eq_true rfl) 2 rfl ?_
  refine b_aload_n dX12_bestLaw_0 rfl ?_
  refine b_iconst (v := nI 0) dX12_bestLaw_1 (by decide) ?_
  refine g_put dX12_bestLaw_2 wX12_1 a77 tfX12_0 (Nat.le_of_ble_eq_true rfl) rfl ?_
  refine b_sig hM.t0 ?_
  refine b_aload_n dX12_bestLaw_5 rfl ?_
  refine g_get dX12_bestLaw_6 fX12_13 a77 rfl ?_
  refine b_iconst (v := nI 3) dX12_bestLaw_9 (by decide) ?_
  refine g_iald dX12_bestLaw_10 a78 rfl (by omega) ?_
  refine b_top hM.cP ?_
  refine b_if_ne 17 dX12_bestLaw_11 (by decide) (fun c5 => ?_) (fun c5 => ?_)
  · skip
    have h0 : 0 < L.P := Nat.pos_of_ne_zero (fun z => c5 (by rw [z]; rfl))
    refine b_iconst (v := nI 0) dX12_bestLaw_17 (by decide) ?_
    refine b_istore_n dX12_bestLaw_18 (by decide) rfl ?_
    refine b_iconst (v := nI 1) dX12_bestLaw_19 (by decide) ?_
    refine b_istore_n dX12_bestLaw_20 (by decide) rfl ?_
    have lp : ∀ (n i : Nat), i + n = 3 → BB G RX12 cX12_bestLaw 3 (some .int) (d + 5) (QM G (Ret (some (.int (oBestLaw L))) (sh G σ μ))) 21 [some (.ref (G.b0 + 77)), some (.int (nI (mArg (jus L) i))), some (.int (nI (i + 1)))] [] (sh G σ μ) := by
      intro n
      induction n with
      | zero =>
        intro i hi
        refine b_iload_n dX12_bestLaw_21 rfl ?_
        refine b_iconst (v := nI 4) dX12_bestLaw_22 (by decide) ?_
        refine b_icmp_ge_t 47 dX12_bestLaw_23 (by decide) (nI_le (by omega) (by omega)) ?_
        refine b_iload_n dX12_bestLaw_47 rfl ?_
        exact b_iret dX12_bestLaw_48 ⟨by simp [oBestLaw, show ¬ L.P = 0 by omega, show i = 3 by omega], rfl⟩
      | succ n ih =>
        intro i hi
        have ha := mArg_le (jus L) i
        refine b_iload_n dX12_bestLaw_21 rfl ?_
        refine b_iconst (v := nI 4) dX12_bestLaw_22 (by decide) ?_
        refine b_icmp_ge_f 47 dX12_bestLaw_23 (by decide) (nI_ge (by omega) (by omega)) ?_
        refine b_aload_n dX12_bestLaw_26 rfl ?_
        refine b_iload_n dX12_bestLaw_27 rfl ?_
        refine g_callV [.int (nI (i + 1))] dX12_bestLaw_28 kX12_justiceOf lX12_372 a77 rfl rfl (m_justiceOf hM hK (by omega) h0) rfl rfl (Nat.le_of_ble_eq_true rfl) ?_
        refine b_aload_n dX12_bestLaw_31 rfl ?_
        refine b_iload_n dX12_bestLaw_32 rfl ?_
        refine g_callV [.int (nI (mArg (jus L) i))] dX12_bestLaw_33 kX12_justiceOf lX12_372 a77 rfl rfl (m_justiceOf hM hK (by omega) h0) rfl rfl (Nat.le_of_ble_eq_true rfl) ?_
        refine b_icmp_le 41 dX12_bestLaw_36 (by decide) (fun c3 => ?_) (fun c3 => ?_)
        · skip
          refine b_iinc dX12_bestLaw_41 rfl (nI_1 _) (by decide) rfl ?_
          refine b_goto 21 dX12_bestLaw_44 (by decide) ?_
          refine b_locs ?_ (ih (i + 1) (by omega))
          simp [mArg, Int32.not_lt.mpr c3]
        · skip
          refine b_iload_n dX12_bestLaw_39 rfl ?_
          refine b_istore_n dX12_bestLaw_40 (by decide) rfl ?_
          refine b_iinc dX12_bestLaw_41 rfl (nI_1 _) (by decide) rfl ?_
          refine b_goto 21 dX12_bestLaw_44 (by decide) ?_
          refine b_locs ?_ (ih (i + 1) (by omega))
          simp [mArg, Int32.not_le.mp c3]
    exact lp 3 0 (by omega)
  · skip
    have h0 : L.P = 0 := by
      have c6 : nI L.P = 0 := by simpa using c5
      rw [← nI_0, nI_eq (by omega) (by omega)] at c6; exact c6
    refine b_bipush (v := -5) dX12_bestLaw_14 (by decide) ?_
    exact b_iret dX12_bestLaw_16 ⟨by simp [oBestLaw, h0], rfl⟩
/-- a set that comes later is ahead only where it has fewer -/
theorem mBest_f {ok : Nat → Bool} {k : Nat} (hk : k < 2 ^ 16) : mFewer (nI k) (mBest ok k) = (decide (mBest ok k = -1) || decide (cnt (nI k) 16 < cnt (mBest ok k) 16)) := by
  rcases mBest_ok ok k with h | ⟨j, hj, h, -⟩
  · rw [h]; simp [mFewer]
  · rw [h]
    unfold mFewer
    rw [decide_eq_false (show ¬ nI k < nI j from nI_nlt (by omega) (by omega))]
    simp
theorem m_X_brief {G : GT} {d : Nat} {σ : ST} {μ : SL} {L : LD} {x : Int32} (hM : MV σ L) : Fn G (d + 2) mX12_brief [.ref (G.b0 + 77), .int x] (sh G σ μ) (Ret (some (.int (oBrief L x))) (sh G σ μ)) := by
  have hb := hM.b
  have hpw : 2 ^ L.F ≤ 256 := Nat.le_trans (Nat.pow_le_pow_right (by omega) hb.2.1) (by decide)
  refine fn_of (ls := [some (.ref (G.b0 + 77)), some (.int x), none, none]) (by decide +kernel) (Nat.le_of_ble_eq_true rfl) 2 rfl ?_
  refine b_aload_n dX12_brief_0 rfl ?_
  refine b_iconst (v := nI 0) dX12_brief_1 (by decide) ?_
  refine g_put dX12_brief_2 wX12_1 a77 tfX12_0 (Nat.le_of_ble_eq_true rfl) rfl ?_
  refine b_sig hM.t0 ?_
  refine b_aload_n dX12_brief_5 rfl ?_
  refine b_iload_n dX12_brief_6 rfl ?_
  refine b_i2l dX12_brief_7 ?_
  refine g_callV [.long x.toInt64] dX12_brief_8 kX12_isPerson lX12_245 a77 rfl rfl (m_isPersonI hM) rfl rfl (Nat.le_of_ble_eq_true rfl) ?_
  refine b_if_ne 17 dX12_brief_11 (by decide) (fun c1 => ?_) (fun c1 => ?_)
  · skip
    have c2 := (bI_1 _).mp c1
    obtain ⟨j, hj, rfl⟩ := inR_of (by omega) c2
    have hjx := ix_nI (show j < 2 ^ 31 by omega)
    refine b_aload_n dX12_brief_17 rfl ?_
    refine g_get dX12_brief_18 fX12_13 a77 rfl ?_
    refine b_iconst (v := nI 1) dX12_brief_21 (by decide) ?_
    refine g_iald dX12_brief_22 a78 rfl (by omega) ?_
    refine b_top hM.cW ?_
    refine b_if_ne 29 dX12_brief_23 (by decide) (fun c5 => ?_) (fun c5 => ?_)
    · skip
      have h0 : ¬ L.W = 0 := fun z => c5 (by rw [z]; rfl)
      refine b_iconst (v := -1) dX12_brief_29 (by decide) ?_
      refine b_istore_n dX12_brief_30 (by decide) rfl ?_
      refine b_iconst (v := nI 0) dX12_brief_31 (by decide) ?_
      refine b_istore_n dX12_brief_32 (by decide) rfl ?_
      have lp : ∀ (n i : Nat), i + n = 2 ^ L.F → BB G RX12 cX12_brief 4 (some .int) (d + 2) (QM G (Ret (some (.int (oBrief L (nI j)))) (sh G σ μ))) 33 [some (.ref (G.b0 + 77)), some (.int (nI j)), some (.int (mBest (fun k => mKn L.gl (mPoss L.hold L.W (L.told j ||| nI k) L.t L.F)) i)), some (.int (nI i))] [] (sh G σ μ) := by
        intro n
        induction n with
        | zero =>
          intro i hi
          refine b_iload_n dX12_brief_33 rfl ?_
          refine b_iconst (v := nI 1) dX12_brief_34 (by decide) ?_
          refine b_aload_n dX12_brief_35 rfl ?_
          refine g_get dX12_brief_36 fX12_13 a77 rfl ?_
          refine b_iconst (v := nI 2) dX12_brief_39 (by decide) ?_
          refine g_iald dX12_brief_40 a78 rfl (by omega) ?_
          refine b_top hM.cF ?_
          refine b_ishl dX12_brief_41 ?_
          refine b_top (shl_pow (by omega)) ?_
          refine b_icmp_ge_t 99 dX12_brief_42 (by decide) (nI_le (by omega) (by omega)) ?_
          refine b_iload_n dX12_brief_99 rfl ?_
          exact b_iret dX12_brief_100 ⟨by simp [oBrief, c2, hjx, h0, show i = 2 ^ L.F by omega], rfl⟩
        | succ n ih =>
          intro i hi
          have hf := mBest_f (ok := fun k => mKn L.gl (mPoss L.hold L.W (L.told j ||| nI k) L.t L.F)) (k := i) (by omega)
          generalize hbe : mBest (fun k => mKn L.gl (mPoss L.hold L.W (L.told j ||| nI k) L.t L.F)) i = bx at hf ⊢
          have nx : ∀ y, y = mBest (fun k => mKn L.gl (mPoss L.hold L.W (L.told j ||| nI k) L.t L.F)) (i + 1) → BB G RX12 cX12_brief 4 (some .int) (d + 2) (QM G (Ret (some (.int (oBrief L (nI j)))) (sh G σ μ))) 33 [some (.ref (G.b0 + 77)), some (.int (nI j)), some (.int y), some (.int (nI (i + 1)))] [] (sh G σ μ) := fun y hy => by rw [hy]; exact ih (i + 1) (by omega)
          have tst : (decide (bx = -1) || decide (cnt (nI i) 16 < cnt bx 16)) = true → BB G RX12 cX12_brief 4 (some .int) (d + 2) (QM G (Ret (some (.int (oBrief L (nI j)))) (sh G σ μ))) 61 [some (.ref (G.b0 + 77)), some (.int (nI j)), some (.int bx), some (.int (nI i))] [] (sh G σ μ) := by
            intro hy
            rw [hy] at hf
            refine b_aload_n dX12_brief_61 rfl ?_
            refine b_aload_n dX12_brief_62 rfl ?_
            refine g_get dX12_brief_63 fX12_13 a77 rfl ?_
            refine b_iconst (v := nI 5) dX12_brief_66 (by decide) ?_
            refine b_iload_n dX12_brief_67 rfl ?_
            refine b_iaddN dX12_brief_68 ?_
            refine g_iald dX12_brief_69 a78 rfl (by omega) ?_
            refine b_top (hM.told (by omega)) ?_
            refine b_iload_n dX12_brief_70 rfl ?_
            refine b_ior dX12_brief_71 ?_
            refine b_aload_n dX12_brief_72 rfl ?_
            refine g_get dX12_brief_73 fX12_13 a77 rfl ?_
            refine b_iconst (v := nI 4) dX12_brief_76 (by decide) ?_
            refine g_iald dX12_brief_77 a78 rfl (by omega) ?_
            refine b_top hM.ct ?_
            refine g_callV [.int ((L.told j) ||| (nI i)), .int (nI L.t)] dX12_brief_78 kX12_cellOf lX12_232 a77 rfl rfl (m_cellOf hM (by omega)) rfl rfl (Nat.le_of_ble_eq_true rfl) ?_
            refine b_aload_n dX12_brief_81 rfl ?_
            refine g_callV [] dX12_brief_82 kX12_guilty lX12_254 a77 rfl rfl (m_guilty hM) rfl rfl (Nat.le_of_ble_eq_true rfl) ?_
            refine b_callSr [.int (mPoss L.hold L.W (L.told j ||| nI i) L.t L.F), .int L.gl] dX12_brief_85 kX12_isPlain lX12_229 m_isPlain rfl rfl (Nat.le_of_ble_eq_true rfl) ?_
            refine b_if_eq 93 dX12_brief_88 (by decide) (fun c6 => ?_) (fun c6 => ?_)
            · skip
              refine b_iinc dX12_brief_93 rfl (nI_1 _) (by decide) rfl ?_
              refine b_goto 33 dX12_brief_96 (by decide) ?_
              exact nx _ (by rw [mBest, hbe, hf, (bI_0 _).mp c6]; simp)
            · skip
              refine b_iload_n dX12_brief_91 rfl ?_
              refine b_istore_n dX12_brief_92 (by decide) rfl ?_
              refine b_iinc dX12_brief_93 rfl (nI_1 _) (by decide) rfl ?_
              refine b_goto 33 dX12_brief_96 (by decide) ?_
              exact nx _ (by rw [mBest, hbe, hf, (bI_1 _).mp c6]; simp)
          refine b_iload_n dX12_brief_33 rfl ?_
          refine b_iconst (v := nI 1) dX12_brief_34 (by decide) ?_
          refine b_aload_n dX12_brief_35 rfl ?_
          refine g_get dX12_brief_36 fX12_13 a77 rfl ?_
          refine b_iconst (v := nI 2) dX12_brief_39 (by decide) ?_
          refine g_iald dX12_brief_40 a78 rfl (by omega) ?_
          refine b_top hM.cF ?_
          refine b_ishl dX12_brief_41 ?_
          refine b_top (shl_pow (by omega)) ?_
          refine b_icmp_ge_f 99 dX12_brief_42 (by decide) (nI_ge (by omega) (by omega)) ?_
          refine b_iload_n dX12_brief_45 rfl ?_
          refine b_iconst (v := -1) dX12_brief_46 (by decide) ?_
          refine b_icmp_eq 61 dX12_brief_47 (by decide) (fun c6 => ?_) (fun c6 => ?_)
          · skip
            exact tst (by simp [show bx = -1 from c6])
          · skip
            refine b_iload_n dX12_brief_50 rfl ?_
            refine b_callSr [.int (nI i)] dX12_brief_51 kX12_bitsOf lX12_266 m_bitsOf rfl rfl (Nat.le_of_ble_eq_true rfl) ?_
            refine b_iload_n dX12_brief_54 rfl ?_
            refine b_callSr [.int bx] dX12_brief_55 kX12_bitsOf lX12_266 m_bitsOf rfl rfl (Nat.le_of_ble_eq_true rfl) ?_
            have l1 := cnt_le (nI i) 16
            have l2 := cnt_le bx 16
            refine b_icmp_ge 93 dX12_brief_58 (by decide) (fun c7 => ?_) (fun c7 => ?_)
            · skip
              rw [nI_leI (by omega) (by omega)] at c7
              refine b_iinc dX12_brief_93 rfl (nI_1 _) (by decide) rfl ?_
              refine b_goto 33 dX12_brief_96 (by decide) ?_
              refine nx _ ?_
              rw [mBest, hbe, hf, decide_eq_false (show ¬ bx = -1 from c6), decide_eq_false (show ¬ cnt (nI i) 16 < cnt bx 16 by omega)]
              simp
            · skip
              rw [nI_leI (by omega) (by omega)] at c7
              exact tst (by rw [decide_eq_true (show cnt (nI i) 16 < cnt bx 16 by omega)]; simp)
      exact lp (2 ^ L.F) 0 (by omega)
    · skip
      have h0 : L.W = 0 := by
        have c6 : nI L.W = 0 := by simpa using c5
        rw [← nI_0, nI_eq (by omega) (by omega)] at c6; exact c6
      refine b_bipush (v := -5) dX12_brief_26 (by decide) ?_
      exact b_iret dX12_brief_28 ⟨by simp [oBrief, c2, hjx, h0], rfl⟩
  · skip
    refine b_bipush (v := -2) dX12_brief_14 (by decide) ?_
    exact b_iret dX12_brief_16 ⟨by simp [oBrief, (bI_0 _).mp (by simpa using c1)], rfl⟩

