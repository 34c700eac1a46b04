/-! ===== the reference: together, witnesses, questions, count ===== -/
theorem m_togetherOf {G : GT} {d : Nat} {σ : ST} {μ : SL} {L : LD} {s : Int32} (hM : MV σ L) : Fn G (d + 2) mX12_togetherOf [.ref (G.b0 + 77), .int s] (sh G σ μ) (Ret (some (.int (tog L s))) (sh G σ μ)) := by
  have hb := hM.b
  refine fn_of (ls := [some (.ref (G.b0 + 77)), some (.int s), none, none]) (by decide +kernel) (Nat.le_of_ble_eq_true rfl) 2 rfl ?_
  refine b_iconst (v := nI 0) dX12_togetherOf_0 (by decide) ?_
  refine b_istore_n dX12_togetherOf_1 (by decide) rfl ?_
  refine b_iconst (v := nI 0) dX12_togetherOf_2 (by decide) ?_
  refine b_istore_n dX12_togetherOf_3 (by decide) rfl ?_
  have lp : ∀ (n i : Nat), i + n = L.P → BB G RX12 cX12_togetherOf 4 (some .int) (d + 2) (QM G (Ret (some (.int (tog L s))) (sh G σ μ))) 4 [some (.ref (G.b0 + 77)), some (.int s), some (.int (mTog L.told s i)), some (.int (nI i))] [] (sh G σ μ) := by
    intro n
    induction n with
    | zero =>
      intro i hi
      refine b_iload_n dX12_togetherOf_4 rfl ?_
      refine b_aload_n dX12_togetherOf_5 rfl ?_
      refine g_get dX12_togetherOf_6 fX12_13 a77 rfl ?_
      refine b_iconst (v := nI 3) dX12_togetherOf_9 (by decide) ?_
      refine g_iald dX12_togetherOf_10 a78 rfl (by omega) ?_
      refine b_top hM.cP ?_
      refine b_icmp_ge_t 44 dX12_togetherOf_11 (by decide) (nI_le (by omega) (by omega)) ?_
      refine b_aload_n dX12_togetherOf_44 rfl ?_
      refine b_iload_n dX12_togetherOf_45 rfl ?_
      refine b_aload_n dX12_togetherOf_46 rfl ?_
      refine g_get dX12_togetherOf_47 fX12_13 a77 rfl ?_
      refine b_iconst (v := nI 4) dX12_togetherOf_50 (by decide) ?_
      refine g_iald dX12_togetherOf_51 a78 rfl (by omega) ?_
      refine b_top hM.ct ?_
      refine g_callV [.int (mTog L.told s i), .int (nI L.t)] dX12_togetherOf_52 kX12_cellOf lX12_232 a77 rfl rfl (m_cellOf hM (by omega)) rfl rfl (Nat.le_of_ble_eq_true rfl) ?_
      exact b_iret dX12_togetherOf_55 ⟨by rw [show i = L.P by omega]; rfl, rfl⟩
    | succ n ih =>
      intro i hi
      refine b_iload_n dX12_togetherOf_4 rfl ?_
      refine b_aload_n dX12_togetherOf_5 rfl ?_
      refine g_get dX12_togetherOf_6 fX12_13 a77 rfl ?_
      refine b_iconst (v := nI 3) dX12_togetherOf_9 (by decide) ?_
      refine g_iald dX12_togetherOf_10 a78 rfl (by omega) ?_
      refine b_top hM.cP ?_
      refine b_icmp_ge_f 44 dX12_togetherOf_11 (by decide) (nI_ge (by omega) (by omega)) ?_
      refine b_iload_n dX12_togetherOf_14 rfl ?_
      refine b_iload_n dX12_togetherOf_15 rfl ?_
      refine b_i2l dX12_togetherOf_16 ?_
      refine b_iload_n dX12_togetherOf_17 rfl ?_
      refine b_callSr [.long s.toInt64, .int (nI i)] dX12_togetherOf_18 kX12_isIn lX12_222 (c_isIn (by omega)) rfl rfl (Nat.le_of_ble_eq_true rfl) ?_
      refine b_if_eq 35 dX12_togetherOf_21 (by decide) (fun c3 => ?_) (fun c3 => ?_)
      · skip
        refine b_iconst (v := nI 0) dX12_togetherOf_35 (by decide) ?_
        refine b_ior dX12_togetherOf_36 ?_
        refine b_istore_n dX12_togetherOf_37 (by decide) rfl ?_
        refine b_iinc dX12_togetherOf_38 rfl (nI_1 _) (by decide) rfl ?_
        refine b_goto 4 dX12_togetherOf_41 (by decide) ?_
        refine b_locs ?_ (ih (i + 1) (by omega))
        simp [mTog, (bI_0 _).mp c3, or_0]
      · skip
        refine b_aload_n dX12_togetherOf_24 rfl ?_
        refine g_get dX12_togetherOf_25 fX12_13 a77 rfl ?_
        refine b_iconst (v := nI 5) dX12_togetherOf_28 (by decide) ?_
        refine b_iload_n dX12_togetherOf_29 rfl ?_
        refine b_iaddN dX12_togetherOf_30 ?_
        refine g_iald dX12_togetherOf_31 a78 rfl (by omega) ?_
        refine b_top (hM.told (by omega)) ?_
        refine b_goto 36 dX12_togetherOf_32 (by decide) ?_
        refine b_ior dX12_togetherOf_36 ?_
        refine b_istore_n dX12_togetherOf_37 (by decide) rfl ?_
        refine b_iinc dX12_togetherOf_38 rfl (nI_1 _) (by decide) rfl ?_
        refine b_goto 4 dX12_togetherOf_41 (by decide) ?_
        refine b_locs ?_ (ih (i + 1) (by omega))
        simp [mTog, (bI_1 _).mp c3]
  exact lp L.P 0 (by omega)
theorem shr_0 {s : Int32} {P : Nat} (hP : P ≤ 6) : s >>> (nI P &&& 31) = 0 ↔ inR s (2 ^ P) = true := by
  have hp : 2 ^ P ≤ 64 := Nat.le_trans (Nat.pow_le_pow_right (by omega) hP) (by decide)
  constructor
  · intro h
    have hl : lo P s := fun i h1 h2 => by
      have : bt (s >>> (nI P &&& 31)) (i - P) = bt 0 (i - P) := by rw [h]
      rw [b_sshr P (by omega) s (by omega), if_pos (by omega), b_0, show P + (i - P) = i by omega] at this
      exact this
    obtain ⟨n, hn, rfl⟩ := lo_nat (by omega) hl
    rw [inR_nI (by omega) (by omega)]
    simpa using hn
  · intro h
    obtain ⟨n, hn, rfl⟩ := inR_of (by omega) h
    apply b_ext
    intro i hi
    have hl := lo_nI hn
    rw [b_sshr P (by omega) _ hi, b_0]
    split
    · exact hl _ (by omega) (by omega)
    · exact hl 31 (by omega) (by omega)
theorem m_X_together {G : GT} {d : Nat} {σ : ST} {μ : SL} {L : LD} {s : Int32} (hM : MV σ L) : Fn G (d + 3) mX12_together [.ref (G.b0 + 77), .int s] (sh G σ μ) (Ret (some (.int (oTogether L s))) (sh G σ μ)) := by
  have hb := hM.b
  have hpw : 2 ^ L.P ≤ 64 := Nat.le_trans (Nat.pow_le_pow_right (by omega) hb.2.2.1) (by decide)
  have hsh := shr_0 (s := s) hb.2.2.1
  refine fn_of (ls := [some (.ref (G.b0 + 77)), some (.int s)]) (by decide +kernel) (Nat.le_of_ble_eq_true rfl) 0 rfl ?_
  refine b_aload_n dX12_together_0 rfl ?_
  refine b_iconst (v := nI 0) dX12_together_1 (by decide) ?_
  refine g_put dX12_together_2 wX12_1 a77 tfX12_0 (Nat.le_of_ble_eq_true rfl) rfl ?_
  refine b_sig hM.t0 ?_
  refine b_iload_n dX12_together_5 rfl ?_
  refine b_i2l dX12_together_6 ?_
  refine b_lconst (v := 0) dX12_together_7 (by decide) ?_
  refine b_iconst (v := nI 1) dX12_together_8 (by decide) ?_
  refine b_aload_n dX12_together_9 rfl ?_
  refine g_get dX12_together_10 fX12_13 a77 rfl ?_
  refine b_iconst (v := nI 3) dX12_together_13 (by decide) ?_
  refine g_iald dX12_together_14 a78 rfl (by omega) ?_
  refine b_top hM.cP ?_
  refine b_ishl dX12_together_15 ?_
  refine b_iconst (v := nI 1) dX12_together_16 (by decide) ?_
  refine b_isub dX12_together_17 ?_
  refine b_i2l dX12_together_18 ?_
  refine b_callSr [.long s.toInt64, .long 0, .long ((((nI 1) <<< ((nI L.P) &&& 31)) - (nI 1)).toInt64)] dX12_together_19 kX12_within lX12_145 c_within rfl rfl (Nat.le_of_ble_eq_true rfl) ?_
  rw [shl_pow (by omega), wi_L (by omega), inL_R (by omega)]
  refine b_if_ne 28 dX12_together_22 (by decide) (fun c1 => ?_) (fun c1 => ?_)
  · skip
    have c2 := hsh.mpr ((bI_1 _).mp c1)
    refine b_aload_n dX12_together_28 rfl ?_
    refine g_get dX12_together_29 fX12_13 a77 rfl ?_
    refine b_iconst (v := nI 1) dX12_together_32 (by decide) ?_
    refine g_iald dX12_together_33 a78 rfl (by omega) ?_
    refine b_top hM.cW ?_
    refine b_if_ne 42 dX12_together_34 (by decide) (fun c5 => ?_) (fun c5 => ?_)
    · skip
      have h0 : ¬ L.W = 0 := fun z => c5 (by rw [z]; rfl)
      refine b_aload_n dX12_together_42 rfl ?_
      refine b_iload_n dX12_together_43 rfl ?_
      refine g_callV [.int s] dX12_together_44 kX12_togetherOf lX12_318 a77 rfl rfl (m_togetherOf hM) rfl rfl (Nat.le_of_ble_eq_true rfl) ?_
      exact b_iret dX12_together_47 ⟨by simp [oTogether, c2, h0], rfl⟩
    · skip
      have h0 : L.W = 0 := by
        have c6 : nI L.W = 0 := by simpa using c5
        rw [← nI_0, nI_eq (by omega) (by omega)] at c6; exact c6
      refine b_bipush (v := -5) dX12_together_37 (by decide) ?_
      refine b_goto 47 dX12_together_39 (by decide) ?_
      exact b_iret dX12_together_47 ⟨by simp [oTogether, c2, h0], rfl⟩
  · skip
    have c2 : ¬ s >>> (nI L.P &&& 31) = 0 := fun z => by
      have := hsh.mp z
      rw [this] at c1
      exact absurd c1 (by decide)
    refine b_bipush (v := -3) dX12_together_25 (by decide) ?_
    exact b_iret dX12_together_27 ⟨by rw [oTogether, if_neg c2], rfl⟩
theorem m_X_witnesses {G : GT} {d : Nat} {σ : ST} {μ : SL} {L : LD} (hM : MV σ L) : Fn G (d + 3) mX12_witnesses [.ref (G.b0 + 77)] (sh G σ μ) (Ret (some (.int (oWit L))) (sh G σ μ)) := by
  have hb := hM.b
  have hpw : 2 ^ L.P ≤ 64 := Nat.le_trans (Nat.pow_le_pow_right (by omega) hb.2.2.1) (by decide)
  refine fn_of (ls := [some (.ref (G.b0 + 77)), none, none]) (by decide +kernel) (Nat.le_of_ble_eq_true rfl) 2 rfl ?_
  refine b_aload_n dX12_witnesses_0 rfl ?_
  refine b_iconst (v := nI 0) dX12_witnesses_1 (by decide) ?_
  refine g_put dX12_witnesses_2 wX12_1 a77 tfX12_0 (Nat.le_of_ble_eq_true rfl) rfl ?_
  refine b_sig hM.t0 ?_
  refine b_aload_n dX12_witnesses_5 rfl ?_
  refine g_get dX12_witnesses_6 fX12_13 a77 rfl ?_
  refine b_iconst (v := nI 1) dX12_witnesses_9 (by decide) ?_
  refine g_iald dX12_witnesses_10 a78 rfl (by omega) ?_
  refine b_top hM.cW ?_
  refine b_if_ne 17 dX12_witnesses_11 (by decide) (fun c5 => ?_) (fun c5 => ?_)
  · skip
    have h0 : ¬ L.W = 0 := fun z => c5 (by rw [z]; rfl)
    refine b_iconst (v := -1) dX12_witnesses_17 (by decide) ?_
    refine b_istore_n dX12_witnesses_18 (by decide) rfl ?_
    refine b_iconst (v := nI 0) dX12_witnesses_19 (by decide) ?_
    refine b_istore_n dX12_witnesses_20 (by decide) rfl ?_
    have lp : ∀ (n i : Nat), i + n = 2 ^ L.P → BB G RX12 cX12_witnesses 3 (some .int) (d + 3) (QM G (Ret (some (.int (oWit L))) (sh G σ μ))) 21 [some (.ref (G.b0 + 77)), some (.int (mBest (fun k => mKn L.gl (tog L (nI k))) i)), some (.int (nI i))] [] (sh G σ μ) := by
      intro n
      induction n with
      | zero =>
        intro i hi
        refine b_iload_n dX12_witnesses_21 rfl ?_
        refine b_iconst (v := nI 1) dX12_witnesses_22 (by decide) ?_
        refine b_aload_n dX12_witnesses_23 rfl ?_
        refine g_get dX12_witnesses_24 fX12_13 a77 rfl ?_
        refine b_iconst (v := nI 3) dX12_witnesses_27 (by decide) ?_
        refine g_iald dX12_witnesses_28 a78 rfl (by omega) ?_
        refine b_top hM.cP ?_
        refine b_ishl dX12_witnesses_29 ?_
        refine b_top (shl_pow (by omega)) ?_
        refine b_icmp_ge_t 72 dX12_witnesses_30 (by decide) (nI_le (by omega) (by omega)) ?_
        refine b_iload_n dX12_witnesses_72 rfl ?_
        exact b_iret dX12_witnesses_73 ⟨by simp [oWit, h0, show i = 2 ^ L.P by omega], rfl⟩
      | succ n ih =>
        intro i hi
        have hf := mBest_f (ok := fun k => mKn L.gl (tog L (nI k))) (k := i) (by omega)
        generalize hbe : mBest (fun k => mKn L.gl (tog L (nI k))) i = bx at hf ⊢
        have nx : ∀ y, y = mBest (fun k => mKn L.gl (tog L (nI k))) (i + 1) → BB G RX12 cX12_witnesses 3 (some .int) (d + 3) (QM G (Ret (some (.int (oWit L))) (sh G σ μ))) 21 [some (.ref (G.b0 + 77)), some (.int y), some (.int (nI (i + 1)))] [] (sh G σ μ) := fun y hy => by rw [hy]; exact ih (i + 1) (by omega)
        have tst : (decide (bx = -1) || decide (cnt (nI i) 16 < cnt bx 16)) = true → BB G RX12 cX12_witnesses 3 (some .int) (d + 3) (QM G (Ret (some (.int (oWit L))) (sh G σ μ))) 49 [some (.ref (G.b0 + 77)), some (.int bx), some (.int (nI i))] [] (sh G σ μ) := by
          intro hy
          rw [hy] at hf
          refine b_aload_n dX12_witnesses_49 rfl ?_
          refine b_iload_n dX12_witnesses_50 rfl ?_
          refine g_callV [.int (nI i)] dX12_witnesses_51 kX12_togetherOf lX12_318 a77 rfl rfl (m_togetherOf hM) rfl rfl (Nat.le_of_ble_eq_true rfl) ?_
          refine b_aload_n dX12_witnesses_54 rfl ?_
          refine g_callV [] dX12_witnesses_55 kX12_guilty lX12_254 a77 rfl rfl (m_guilty hM) rfl rfl (Nat.le_of_ble_eq_true rfl) ?_
          refine b_callSr [.int (tog L (nI i)), .int L.gl] dX12_witnesses_58 kX12_isPlain lX12_229 m_isPlain rfl rfl (Nat.le_of_ble_eq_true rfl) ?_
          refine b_if_eq 66 dX12_witnesses_61 (by decide) (fun c6 => ?_) (fun c6 => ?_)
          · skip
            refine b_iinc dX12_witnesses_66 rfl (nI_1 _) (by decide) rfl ?_
            refine b_goto 21 dX12_witnesses_69 (by decide) ?_
            exact nx _ (by rw [mBest, hbe, hf, (bI_0 _).mp c6]; simp)
          · skip
            refine b_iload_n dX12_witnesses_64 rfl ?_
            refine b_istore_n dX12_witnesses_65 (by decide) rfl ?_
            refine b_iinc dX12_witnesses_66 rfl (nI_1 _) (by decide) rfl ?_
            refine b_goto 21 dX12_witnesses_69 (by decide) ?_
            exact nx _ (by rw [mBest, hbe, hf, (bI_1 _).mp c6]; simp)
        refine b_iload_n dX12_witnesses_21 rfl ?_
        refine b_iconst (v := nI 1) dX12_witnesses_22 (by decide) ?_
        refine b_aload_n dX12_witnesses_23 rfl ?_
        refine g_get dX12_witnesses_24 fX12_13 a77 rfl ?_
        refine b_iconst (v := nI 3) dX12_witnesses_27 (by decide) ?_
        refine g_iald dX12_witnesses_28 a78 rfl (by omega) ?_
        refine b_top hM.cP ?_
        refine b_ishl dX12_witnesses_29 ?_
        refine b_top (shl_pow (by omega)) ?_
        refine b_icmp_ge_f 72 dX12_witnesses_30 (by decide) (nI_ge (by omega) (by omega)) ?_
        refine b_iload_n dX12_witnesses_33 rfl ?_
        refine b_iconst (v := -1) dX12_witnesses_34 (by decide) ?_
        refine b_icmp_eq 49 dX12_witnesses_35 (by decide) (fun c6 => ?_) (fun c6 => ?_)
        · skip
          exact tst (by simp [show bx = -1 from c6])
        · skip
          refine b_iload_n dX12_witnesses_38 rfl ?_
          refine b_callSr [.int (nI i)] dX12_witnesses_39 kX12_bitsOf lX12_266 m_bitsOf rfl rfl (Nat.le_of_ble_eq_true rfl) ?_
          refine b_iload_n dX12_witnesses_42 rfl ?_
          refine b_callSr [.int bx] dX12_witnesses_43 kX12_bitsOf lX12_266 m_bitsOf rfl rfl (Nat.le_of_ble_eq_true rfl) ?_
          have l1 := cnt_le (nI i) 16
          have l2 := cnt_le bx 16
          refine b_icmp_ge 66 dX12_witnesses_46 (by decide) (fun c7 => ?_) (fun c7 => ?_)
          · skip
            rw [nI_leI (by omega) (by omega)] at c7
            refine b_iinc dX12_witnesses_66 rfl (nI_1 _) (by decide) rfl ?_
            refine b_goto 21 dX12_witnesses_69 (by decide) ?_
            refine nx _ ?_
            rw [mBest, hbe, hf, decide_eq_false (show ¬ bx = -1 from c6), decide_eq_false (show ¬ cnt (nI i) 16 < cnt bx 16 by omega)]
            simp
          · skip
            rw [nI_leI (by omega) (by omega)] at c7
            exact tst (by rw [decide_eq_true (show cnt (nI i) 16 < cnt bx 16 by omega)]; simp)
    exact lp (2 ^ L.P) 0 (by omega)
  · skip
    have h0 : L.W = 0 := by
      have c6 : nI L.W = 0 := by simpa using c5
      rw [← nI_0, nI_eq (by omega) (by omega)] at c6; exact c6
    refine b_bipush (v := -5) dX12_witnesses_14 (by decide) ?_
    exact b_iret dX12_witnesses_16 ⟨by simp [oWit, h0], rfl⟩
/-! rows to ask -/
theorem Fn.dup {G : GT} {d d' : Nat} {M : MT} {av : List Value} {h : HT} {P : Option Value → HT → Prop} (e : d = d') (hM : Fn G d M av h P) : Fn G d' M av h P := by rw [← e]; exact hM
theorem bit_or {x : Int32} {f i : Nat} (hf : f < 32) (hi : i < 32) : bt (x ||| (nI 1 <<< (nI f &&& 31))) i = (bt x i || decide (i = f)) := by rw [b_or, b_bit hf hi]
theorem and_asc (x y z : Int32) : x &&& y &&& z = x &&& (y &&& z) := b_ext (fun i hi => by rw [b_and, b_and, b_and, b_and, Bool.and_assoc])
theorem and_self2 (x y : Int32) : x &&& y &&& y = x &&& y := b_ext (fun i hi => by rw [b_and, b_and, Bool.and_assoc, Bool.and_self])
theorem mPoss_or {hold : Nat → Int32} {W : Nat} {told : Int32} {w f : Nat} : ∀ n, n ≤ 32 → f < 32 → mPoss hold W (told ||| (nI 1 <<< (nI f &&& 31))) w n = if f < n then mPoss hold W told w n &&& mSide hold f w else mPoss hold W told w n
  | 0, _, _ => by simp [mPoss]
  | n + 1, hn, hf => by
    have ih := mPoss_or (hold := hold) (W := W) (told := told) (w := w) (f := f) n (by omega) hf
    rw [mPoss, mPoss, ih, bit_or hf (show n < 32 by omega)]
    by_cases h1 : f < n
    · rw [if_pos h1, if_pos (show f < n + 1 by omega), decide_eq_false (show ¬ n = f by omega), Bool.or_false]
      split
      · rw [and_rc]
      · rfl
    · rw [if_neg h1]
      by_cases h2 : n = f
      · subst h2
        rw [decide_eq_true rfl, Bool.or_true, if_pos rfl, if_pos (show n < n + 1 by omega)]
        split
        · rw [and_self2]
        · rfl
      · rw [decide_eq_false h2, Bool.or_false, if_neg (show ¬ f < n + 1 by omega)]
theorem mSel_cg {o : Int32} {g g' : Nat → Nat} : ∀ n, (∀ f, f < n → g f = g' f) → mSel o g n = mSel o g' n
  | 0, _ => rfl
  | n + 1, h => by rw [mSel, mSel, mSel_cg n (fun f hf => h f (by omega)), h n (by omega)]
theorem mSel_one {o : Int32} : ∀ n, mSel o (fun _ => 1) n = cnt o n
  | 0 => rfl
  | n + 1 => by rw [mSel, cnt, mSel_one n]
def rwF (L : LD) : Nat → Int32 → Nat
  | 0, _ => 1
  | n + 1, told => mSel (opn L (mPoss L.hold L.W told L.t L.F)) (fun f => rwF L n (told ||| (nI 1 <<< (nI f &&& 31)))) L.F
theorem bt_known {hold : Nat → Int32} {q : Int32} {f : Nat} : ∀ n, n ≤ 32 → f < 32 → bt (mKnown hold q n) f = (decide (f < n) && mKn (hold f) q)
  | 0, _, _ => by simp [mKnown, b_n0]
  | n + 1, h, hf => by
    have ih := bt_known (hold := hold) (q := q) (f := f) n (by omega) hf
    rw [mKnown]
    by_cases h2 : f = n
    · subst h2
      rw [decide_eq_false (show ¬ f < f by omega)] at ih
      rw [decide_eq_true (show f < f + 1 by omega)]
      cases hk : mKn (hold f) q
      · simpa using ih
      · simp [b_or, b_bit hf hf]
    · have e : decide (f < n + 1) = decide (f < n) := by rw [decide_eq_decide]; omega
      rw [e, ← ih]
      split
      · rw [b_or, b_bit (by omega) hf, decide_eq_false h2, Bool.or_false]
      · rfl
theorem bt_opn {L : LD} {q : Int32} {f : Nat} (hF : L.F ≤ 8) (hf : f < L.F) : bt (opn L q) f = !mKn (L.hold f) q := by
  unfold opn
  rw [b_and, bt_all (by omega) (by omega), not_bt (by omega), bt_known _ (by omega) (by omega), decide_eq_true hf]
  simp
theorem lo_opn {L : LD} {q : Int32} (hF : L.F ≤ 8) : lo L.F (opn L q) := lo_and (lo_all (by omega))
theorem cnt_opn {L : LD} {q : Int32} (hF : L.F ≤ 8) : cnt (opn L q) L.F = cnt (opn L q) 16 := by
  have := cnt_lo (lo_opn (q := q) hF) (16 - L.F) (by omega)
  rw [show L.F + (16 - L.F) = 16 by omega] at this
  exact this.symm
theorem rwF_eq {L : LD} (hF : L.F ≤ 8) : ∀ n told, rwF L (n + 1) told = mRw L n (mPoss L.hold L.W told L.t L.F)
  | 0, told => by
    rw [rwF, mRw]
    have : (fun f => rwF L 0 (told ||| (nI 1 <<< (nI f &&& 31)))) = fun _ => 1 := by funext f; rw [rwF]
    rw [this, mSel_one, cnt_opn hF]
  | n + 1, told => by
    rw [rwF, mRw]
    refine mSel_cg _ (fun f hf => ?_)
    rw [rwF_eq hF n, mPoss_or _ (by omega) (by omega), if_pos hf]
theorem mSel_le {o : Int32} {g : Nat → Nat} {B : Nat} : ∀ n, (∀ f, f < n → g f ≤ B) → mSel o g n ≤ B * n
  | 0, _ => by simp [mSel]
  | n + 1, h => by
    have ih := mSel_le (o := o) n (fun f hf => h f (by omega))
    have := h n (by omega)
    rw [mSel, Nat.mul_succ]
    split <;> omega
theorem m_rowsFrom {G : GT} {σ : ST} {μ : SL} {L : LD} (hM : MV σ L) : ∀ (n : Nat), n < 8 → ∀ (d : Nat) (told : Int32), Fn G (d + n + 2) mX12_rowsFrom [.ref (G.b0 + 77), .int told, .int (nI n)] (sh G σ μ) (Ret (some (.int (nI (rwF L n told)))) (sh G σ μ)) := by
  have hb := hM.b
  intro n
  induction n with
  | zero =>
    intro hn d told
    refine fn_of (ls := [some (.ref (G.b0 + 77)), some (.int told), some (.int (nI 0)), none, none, none]) (by decide +kernel) (Nat.le_of_ble_eq_true rfl) 3 rfl ?_
    refine b_iload_n dX12_rowsFrom_0 rfl ?_
    refine b_if_ne_f 6 dX12_rowsFrom_1 (by decide) (by decide) ?_
    refine b_iconst (v := nI 1) dX12_rowsFrom_4 (by decide) ?_
    exact b_iret dX12_rowsFrom_5 ⟨rfl, rfl⟩
  | succ n ih =>
    intro hn d told
    refine fn_of (ls := [some (.ref (G.b0 + 77)), some (.int told), some (.int (nI (n + 1))), none, none, none]) (by decide +kernel) (Nat.le_of_ble_eq_true rfl) 3 rfl ?_
    refine b_iload_n dX12_rowsFrom_0 rfl ?_
    refine b_if_ne_t 6 dX12_rowsFrom_1 (by decide) (nI_ne0 (by omega) (by omega)) ?_
    refine b_iconst (v := nI 0) dX12_rowsFrom_6 (by decide) ?_
    refine b_istore_n dX12_rowsFrom_7 (by decide) rfl ?_
    refine b_aload_n dX12_rowsFrom_8 rfl ?_
    refine b_aload_n dX12_rowsFrom_9 rfl ?_
    refine b_iload_n dX12_rowsFrom_10 rfl ?_
    refine b_aload_n dX12_rowsFrom_11 rfl ?_
    refine g_get dX12_rowsFrom_12 fX12_13 a77 rfl ?_
    refine b_iconst (v := nI 4) dX12_rowsFrom_15 (by decide) ?_
    refine g_iald dX12_rowsFrom_16 a78 rfl (by omega) ?_
    refine b_top hM.ct ?_
    refine g_callV [.int told, .int (nI L.t)] dX12_rowsFrom_17 kX12_cellOf lX12_232 a77 rfl rfl (m_cellOf (d := d + (n + 1)) hM (by omega)) rfl rfl (Nat.le_of_ble_eq_true rfl) ?_
    refine g_callV [.int (mPoss L.hold L.W told L.t L.F)] dX12_rowsFrom_20 kX12_knownIn lX12_251 a77 rfl rfl (m_knownIn (d := d + (n + 1)) hM) rfl rfl (Nat.le_of_ble_eq_true rfl) ?_
    refine b_istore dX12_rowsFrom_23 (by decide) rfl ?_
    refine b_iconst (v := nI 0) dX12_rowsFrom_25 (by decide) ?_
    refine b_istore dX12_rowsFrom_26 (by decide) rfl ?_
    generalize hq : mPoss L.hold L.W told L.t L.F = q
    have er : rwF L (n + 1) told = mSel (opn L q) (fun f => rwF L n (told ||| (nI 1 <<< (nI f &&& 31)))) L.F := by rw [rwF, hq]
    have lp : ∀ (m i : Nat), i + m = L.F → BB G RX12 cX12_rowsFrom 6 (some .int) (d + (n + 1) + 2) (QM G (Ret (some (.int (nI (rwF L (n + 1) told)))) (sh G σ μ))) 28 [some (.ref (G.b0 + 77)), some (.int told), some (.int (nI (n + 1))), some (.int (nI (mSel (opn L q) (fun f => rwF L n (told ||| (nI 1 <<< (nI f &&& 31)))) i))), some (.int (mKnown L.hold q L.F)), some (.int (nI i))] [] (sh G σ μ) := by
      intro m
      induction m with
      | zero =>
        intro i hi
        refine b_iload dX12_rowsFrom_28 rfl ?_
        refine b_aload_n dX12_rowsFrom_30 rfl ?_
        refine g_get dX12_rowsFrom_31 fX12_13 a77 rfl ?_
        refine b_iconst (v := nI 2) dX12_rowsFrom_34 (by decide) ?_
        refine g_iald dX12_rowsFrom_35 a78 rfl (by omega) ?_
        refine b_top hM.cF ?_
        refine b_icmp_ge_t 76 dX12_rowsFrom_36 (by decide) (nI_le (by omega) (by omega)) ?_
        refine b_iload_n dX12_rowsFrom_76 rfl ?_
        exact b_iret dX12_rowsFrom_77 ⟨by rw [er, show i = L.F by omega], rfl⟩
      | succ m ihm =>
        intro i hi
        have ho := bt_opn (L := L) (q := q) hb.2.1 (show i < L.F by omega)
        refine b_iload dX12_rowsFrom_28 rfl ?_
        refine b_aload_n dX12_rowsFrom_30 rfl ?_
        refine g_get dX12_rowsFrom_31 fX12_13 a77 rfl ?_
        refine b_iconst (v := nI 2) dX12_rowsFrom_34 (by decide) ?_
        refine g_iald dX12_rowsFrom_35 a78 rfl (by omega) ?_
        refine b_top hM.cF ?_
        refine b_icmp_ge_f 76 dX12_rowsFrom_36 (by decide) (nI_ge (by omega) (by omega)) ?_
        refine b_iload_n dX12_rowsFrom_39 rfl ?_
        refine b_iload dX12_rowsFrom_40 rfl ?_
        refine b_i2l dX12_rowsFrom_42 ?_
        refine b_iload dX12_rowsFrom_43 rfl ?_
        refine b_callSr [.long ((mKnown L.hold q L.F).toInt64), .int (nI i)] dX12_rowsFrom_45 kX12_isIn lX12_222 (c_isIn (d := d + (n + 1) + 1) (by omega)) rfl rfl (Nat.le_of_ble_eq_true rfl) ?_
        rw [bt_known _ (by omega) (by omega), decide_eq_true (show i < L.F by omega), Bool.true_and]
        refine b_if_eq 55 dX12_rowsFrom_48 (by decide) (fun c3 => ?_) (fun c3 => ?_)
        · skip
          have c4 := (bI_0 _).mp c3
          refine b_aload_n dX12_rowsFrom_55 rfl ?_
          refine b_iload_n dX12_rowsFrom_56 rfl ?_
          refine b_iconst (v := nI 1) dX12_rowsFrom_57 (by decide) ?_
          refine b_iload dX12_rowsFrom_58 rfl ?_
          refine b_ishl dX12_rowsFrom_60 ?_
          refine b_ior dX12_rowsFrom_61 ?_
          refine b_iload_n dX12_rowsFrom_62 rfl ?_
          refine b_iconst (v := nI 1) dX12_rowsFrom_63 (by decide) ?_
          refine b_isub dX12_rowsFrom_64 ?_
          refine b_top (y := nI ((n + 1) - 1)) (nI_sub (by omega)) ?_
          rw [show n + 1 - 1 = n by omega]
          refine g_callV [.int (told ||| ((nI 1) <<< ((nI i) &&& 31))), .int (nI n)] dX12_rowsFrom_65 kX12_rowsFrom lX12_386 a77 rfl rfl (ih (by omega) d (told ||| (nI 1 <<< (nI i &&& 31)))) rfl rfl (Nat.le_of_ble_eq_true rfl) ?_
          refine b_iaddN dX12_rowsFrom_68 ?_
          refine b_istore_n dX12_rowsFrom_69 (by decide) rfl ?_
          refine b_iinc dX12_rowsFrom_70 rfl (nI_1 _) (by decide) rfl ?_
          refine b_goto 28 dX12_rowsFrom_73 (by decide) ?_
          refine b_locs ?_ (ihm (i + 1) (by omega))
          simp [mSel, ho, c4] <;> rfl
        · skip
          have c4 := (bI_1 _).mp c3
          refine b_iconst (v := nI 0) dX12_rowsFrom_51 (by decide) ?_
          refine b_goto 68 dX12_rowsFrom_52 (by decide) ?_
          refine b_iaddN dX12_rowsFrom_68 ?_
          refine b_istore_n dX12_rowsFrom_69 (by decide) rfl ?_
          refine b_iinc dX12_rowsFrom_70 rfl (nI_1 _) (by decide) rfl ?_
          refine b_goto 28 dX12_rowsFrom_73 (by decide) ?_
          refine b_locs ?_ (ihm (i + 1) (by omega))
          simp [mSel, ho, c4] <;> rfl
    exact lp L.F 0 (by omega)
theorem wi_q {x : Int32} : (decide ((1 : Int64) ≤ x.toInt64) && decide (x.toInt64 ≤ 4)) = inB x 1 4 := wi_B (a := 1) (b := 4) (by omega) (by omega)
theorem m_X_questions {G : GT} {d : Nat} {σ : ST} {μ : SL} {L : LD} {p n : Int32} (hM : MV σ L) : Fn G (d + 8) mX12_questions [.ref (G.b0 + 77), .int p, .int n] (sh G σ μ) (Ret (some (.int (oQuest L p n))) (sh G σ μ)) := by
  have hb := hM.b
  refine fn_of (ls := [some (.ref (G.b0 + 77)), some (.int p), some (.int n)]) (by decide +kernel) (Nat.le_of_ble_eq_true rfl) 0 rfl ?_
  refine b_aload_n dX12_questions_0 rfl ?_
  refine b_iconst (v := nI 0) dX12_questions_1 (by decide) ?_
  refine g_put dX12_questions_2 wX12_1 a77 tfX12_0 (Nat.le_of_ble_eq_true rfl) rfl ?_
  refine b_sig hM.t0 ?_
  refine b_aload_n dX12_questions_5 rfl ?_
  refine b_iload_n dX12_questions_6 rfl ?_
  refine b_i2l dX12_questions_7 ?_
  refine g_callV [.long p.toInt64] dX12_questions_8 kX12_isPerson lX12_245 a77 rfl rfl (m_isPersonI hM) rfl rfl (Nat.le_of_ble_eq_true rfl) ?_
  refine b_if_ne 17 dX12_questions_11 (by decide) (fun c1 => ?_) (fun c1 => ?_)
  · skip
    have c2 := (bI_1 _).mp c1
    obtain ⟨j, hj, rfl⟩ := inR_of (by omega) c2
    have hjx := ix_nI (show j < 2 ^ 31 by omega)
    refine b_iload_n dX12_questions_17 rfl ?_
    refine b_i2l dX12_questions_18 ?_
    refine b_lconst (v := 1) dX12_questions_19 (by decide) ?_
    refine b_ldc2 dX12_questions_20 cvX12_389 ?_
    refine b_callSr [.long n.toInt64, .long 1, .long ((4))] dX12_questions_23 kX12_within lX12_145 c_within rfl rfl (Nat.le_of_ble_eq_true rfl) ?_
    rw [wi_q]
    refine b_if_ne 32 dX12_questions_26 (by decide) (fun c3 => ?_) (fun c3 => ?_)
    · skip
      have c4 := (bI_1 _).mp c3
      obtain ⟨k, hk1, hk4, rfl⟩ := inB_of (by omega) c4 (by omega)
      have hkx := ix_nI (show k < 2 ^ 31 by omega)
      refine b_aload_n dX12_questions_32 rfl ?_
      refine g_get dX12_questions_33 fX12_13 a77 rfl ?_
      refine b_iconst (v := nI 1) dX12_questions_36 (by decide) ?_
      refine g_iald dX12_questions_37 a78 rfl (by omega) ?_
      refine b_top hM.cW ?_
      refine b_if_ne 46 dX12_questions_38 (by decide) (fun c5 => ?_) (fun c5 => ?_)
      · skip
        have h0 : ¬ L.W = 0 := fun z => c5 (by rw [z]; rfl)
        refine b_aload_n dX12_questions_46 rfl ?_
        refine b_aload_n dX12_questions_47 rfl ?_
        refine g_get dX12_questions_48 fX12_13 a77 rfl ?_
        refine b_iconst (v := nI 5) dX12_questions_51 (by decide) ?_
        refine b_iload_n dX12_questions_52 rfl ?_
        refine b_iaddN dX12_questions_53 ?_
        refine g_iald dX12_questions_54 a78 rfl (by omega) ?_
        refine b_top (hM.told (by omega)) ?_
        refine b_iload_n dX12_questions_55 rfl ?_
        have er : rwF L k (L.told j) = mRw L (k - 1) (poss L j L.t) := by
          obtain ⟨k', rfl⟩ : ∃ k', k = k' + 1 := ⟨k - 1, by omega⟩
          rw [rwF_eq hb.2.1]; rfl
        refine g_callV [.int (L.told j), .int (nI k)] dX12_questions_56 kX12_rowsFrom lX12_386 a77 rfl rfl (Fn.dup (show d + (5 - k) + k + 2 = d + 7 by omega) (m_rowsFrom hM k (by omega) (d + (5 - k)) (L.told j))) rfl rfl (Nat.le_of_ble_eq_true rfl) ?_
        exact b_iret dX12_questions_59 ⟨by simp [oQuest, c2, c4, hjx, hkx, h0, er], rfl⟩
      · skip
        have h0 : L.W = 0 := by
          have c6 : nI L.W = 0 := by simpa using c5
          rw [← nI_0, nI_eq (by omega) (by omega)] at c6; exact c6
        refine b_bipush (v := -5) dX12_questions_41 (by decide) ?_
        refine b_goto 59 dX12_questions_43 (by decide) ?_
        exact b_iret dX12_questions_59 ⟨by simp [oQuest, c2, c4, hjx, hkx, h0], rfl⟩
    · skip
      refine b_bipush (v := -3) dX12_questions_29 (by decide) ?_
      exact b_iret dX12_questions_31 ⟨by simp [oQuest, c2, (bI_0 _).mp (by simpa using c3)], rfl⟩
  · skip
    refine b_bipush (v := -2) dX12_questions_14 (by decide) ?_
    exact b_iret dX12_questions_16 ⟨by simp [oQuest, (bI_0 _).mp (by simpa using c1)], rfl⟩

