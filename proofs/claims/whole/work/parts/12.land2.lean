/-! ===== Land: who is least, right, steps, deeds; clear, become ===== -/
theorem bt_all {n i : Nat} (hn : n ≤ 30) (hi : i < 32) : bt (mAll n) i = decide (i < n) := by
  have e : mAll n = nI (2 ^ n - 1) := by
    unfold mAll
    have h1 : 1 * 2 ^ n < 2 ^ 32 := by rw [Nat.one_mul]; exact Nat.pow_lt_pow_right (by omega) (by omega)
    have h2 : 1 ≤ 2 ^ n := Nat.one_le_two_pow
    rw [pk_shlN (nI n &&& 31) n (s_l n (by omega)) h1, Nat.one_mul, nI_sub h2]
  rw [e, bt_nI hi, Nat.testBit_two_pow_sub_one]
theorem lo_all {n : Nat} (hn : n ≤ 30) : lo n (mAll n) := fun i h1 h2 => by rw [bt_all hn h2]; simp; omega
theorem lo_poss {hold : Nat → Int32} {W : Nat} {told : Int32} {w : Nat} (hW : W ≤ 30) : ∀ n, lo W (mPoss hold W told w n)
  | 0 => lo_all hW
  | n + 1 => by
    unfold mPoss
    split
    · exact lo_and (lo_poss hW n)
    · exact lo_poss hW n
def mLst (amt : Nat → Int32) : Nat → Int32 × Int32
  | 0 => (-1, -1)
  | p + 1 => if amt p ≤ (mLst amt p).2 then mLst amt p else (nI p, amt p)
def mLeast (hold wt : Nat → Int32) (gl : Int32) (W F P m : Nat) (told : Nat → Int32) (w : Nat) : Int32 := (mLst (fun p => mAmt hold wt gl W F m (mPoss hold W (told p) w F)) P).1
theorem c_leastBy {G : GT} {d : Nat} {σ : ST} {μ : SL} {a t W F P m w : Nat} (La : Lnd G a) (At : AI G t 6) (hL : LV σ a W F P) (hm : m < 4) (hw : w < 32) : Fn G (d + 3) mX2_leastBy [.ref (G.b0 + a), .int (nI m), .ref (G.b0 + t), .int (nI w)] (sh G σ μ) (Ret (some (.int (mLeast (σ (a + 3)) (σ (a + 2)) (σ a 5) W F P m (σ t) w))) (sh G σ μ)) := by
  have hL' := hL
  obtain ⟨hW, hF, hP, hW16, hF8, hP6⟩ := hL
  refine fn_of (ls := [some (.ref (G.b0 + a)), some (.int (nI m)), some (.ref (G.b0 + t)), some (.int (nI w)), none, none, none, none]) (by decide +kernel) (Nat.le_of_ble_eq_true rfl) 4 rfl ?_
  refine b_iconst (v := -1) dX2_leastBy_0 (by decide) ?_
  refine b_istore dX2_leastBy_1 (by decide) rfl ?_
  refine b_iconst (v := -1) dX2_leastBy_3 (by decide) ?_
  refine b_istore dX2_leastBy_4 (by decide) rfl ?_
  refine b_iconst (v := nI 0) dX2_leastBy_6 (by decide) ?_
  refine b_istore dX2_leastBy_7 (by decide) rfl ?_
  have lp : ∀ (n i : Nat) (x y : Int32) (z : Option Value), i + n = P → (x, y) = mLst (fun p => mAmt (σ (a + 3)) (σ (a + 2)) (σ a 5) W F m (mPoss (σ (a + 3)) W (σ t p) w F)) i → BB G RX2 cX2_leastBy 8 (some .int) (d + 3) (QM G (Ret (some (.int (mLeast (σ (a + 3)) (σ (a + 2)) (σ a 5) W F P m (σ t) w))) (sh G σ μ))) 9 [some (.ref (G.b0 + a)), some (.int (nI m)), some (.ref (G.b0 + t)), some (.int (nI w)), some (.int x), some (.int y), some (.int (nI i)), z] [] (sh G σ μ) := by
    intro n
    induction n with
    | zero =>
      intro i x y z hi hx
      refine b_iload dX2_leastBy_9 rfl ?_
      refine b_aload_n dX2_leastBy_11 rfl ?_
      refine g_geti dX2_leastBy_12 fX2_43 La.1 rfl hP ?_
      refine b_icmp_ge_t 55 dX2_leastBy_15 (by decide) (nI_le (by omega) (by omega)) ?_
      refine b_iload dX2_leastBy_55 rfl ?_
      exact b_iret dX2_leastBy_57 ⟨by rw [mLeast, show P = i by omega, ← hx], rfl⟩
    | succ n ih =>
      intro i x y z hi hx
      refine b_iload dX2_leastBy_9 rfl ?_
      refine b_aload_n dX2_leastBy_11 rfl ?_
      refine g_geti dX2_leastBy_12 fX2_43 La.1 rfl hP ?_
      refine b_icmp_ge_f 55 dX2_leastBy_15 (by decide) (nI_ge (by omega) (by omega)) ?_
      refine b_aload_n dX2_leastBy_18 rfl ?_
      refine b_iload_n dX2_leastBy_19 rfl ?_
      refine b_aload_n dX2_leastBy_20 rfl ?_
      refine b_aload_n dX2_leastBy_21 rfl ?_
      refine b_iload dX2_leastBy_22 rfl ?_
      refine g_iald dX2_leastBy_24 At rfl (by omega) ?_
      refine b_iload_n dX2_leastBy_25 rfl ?_
      refine g_callV [.int (σ t i), .int (nI w)] dX2_leastBy_26 kX2_possible lX2_84 La.1 rfl rfl (c_possible La hL' hw) rfl rfl (Nat.le_of_ble_eq_true rfl) ?_
      refine g_callV [.int (nI m), .int (mPoss (σ (a + 3)) W (σ t i) w F)] dX2_leastBy_29 kX2_amountOf lX2_87 La.1 rfl rfl (c_amountOf La hL' hm (lo_mono (lo_poss (by omega) _) hW16)) rfl rfl (Nat.le_of_ble_eq_true rfl) ?_
      refine b_istore dX2_leastBy_32 (by decide) rfl ?_
      refine b_iload dX2_leastBy_34 rfl ?_
      refine b_iload dX2_leastBy_36 rfl ?_
      refine b_icmp_le 49 dX2_leastBy_38 (by decide) (fun c1 => ?_) (fun c1 => ?_)
      · skip
        refine b_iinc dX2_leastBy_49 rfl (nI_1 _) (by decide) rfl ?_
        refine b_goto 9 dX2_leastBy_52 (by decide) ?_
        exact ih (i + 1) _ _ _ (by omega) (by rw [mLst, ← hx, if_pos c1])
      · skip
        refine b_iload dX2_leastBy_41 rfl ?_
        refine b_istore dX2_leastBy_43 (by decide) rfl ?_
        refine b_iload dX2_leastBy_45 rfl ?_
        refine b_istore dX2_leastBy_47 (by decide) rfl ?_
        refine b_iinc dX2_leastBy_49 rfl (nI_1 _) (by decide) rfl ?_
        refine b_goto 9 dX2_leastBy_52 (by decide) ?_
        exact ih (i + 1) _ _ _ (by omega) (by rw [mLst, ← hx, if_neg c1])
  exact lp P 0 _ _ _ (by omega) rfl
def mAlike (gl s : Int32) (w : Nat) : Int32 := if bt gl w then s &&& gl else s &&& (gl ^^^ (-1))
def mRight (hold wt : Nat → Int32) (gl : Int32) (W F : Nat) (told : Int32) (w : Nat) : Bool := decide (mWt wt (mPoss hold W told w F &&& (mAlike gl (mPoss hold W told w F) w ^^^ (-1))) W < mWt wt (mAlike gl (mPoss hold W told w F) w) W)
theorem c_isRight {G : GT} {d : Nat} {σ : ST} {μ : SL} {a W F P w : Nat} {told : Int32} (La : Lnd G a) (hL : LV σ a W F P) (hw : w < 32) : Fn G (d + 2) mX2_isRight [.ref (G.b0 + a), .int told, .int (nI w)] (sh G σ μ) (Ret (some (.int (bI (mRight (σ (a + 3)) (σ (a + 2)) (σ a 5) W F told w)))) (sh G σ μ)) := by
  refine fn_of (ls := [some (.ref (G.b0 + a)), some (.int told), some (.int (nI w)), none, none]) (by decide +kernel) (Nat.le_of_ble_eq_true rfl) 2 rfl ?_
  refine b_aload_n dX2_isRight_0 rfl ?_
  refine b_iload_n dX2_isRight_1 rfl ?_
  refine b_iload_n dX2_isRight_2 rfl ?_
  refine g_callV [.int told, .int (nI w)] dX2_isRight_3 kX2_possible lX2_84 La.1 rfl rfl (c_possible La hL hw) rfl rfl (Nat.le_of_ble_eq_true rfl) ?_
  refine b_istore_n dX2_isRight_6 (by decide) rfl ?_
  refine b_aload_n dX2_isRight_7 rfl ?_
  refine g_get dX2_isRight_8 fX2_33 La.1 rfl ?_
  refine b_iload_n dX2_isRight_11 rfl ?_
  refine b_ishr dX2_isRight_12 ?_
  refine b_iconst (v := nI 1) dX2_isRight_13 (by decide) ?_
  refine b_iand dX2_isRight_14 ?_
  refine b_iconst (v := nI 1) dX2_isRight_15 (by decide) ?_
  have J : ∀ al : Int32, al = mAlike (σ a 5) (mPoss (σ (a + 3)) W told w F) w → BB G RX2 cX2_isRight 5 (some .boolean) (d + 2) (QM G (Ret (some (.int (bI (mRight (σ (a + 3)) (σ (a + 2)) (σ a 5) W F told w)))) (sh G σ μ))) 36 [some (.ref (G.b0 + a)), some (.int told), some (.int (nI w)), some (.int (mPoss (σ (a + 3)) W told w F)), none] [.int al] (sh G σ μ) := by
    intro al hal
    refine b_istore dX2_isRight_36 (by decide) rfl ?_
    refine b_aload_n dX2_isRight_38 rfl ?_
    refine b_iload dX2_isRight_39 rfl ?_
    refine g_callV [.int al] dX2_isRight_41 kX2_weightOf lX2_78 La.1 rfl rfl (c_weightOf La hL) rfl rfl (Nat.le_of_ble_eq_true rfl) ?_
    refine b_aload_n dX2_isRight_44 rfl ?_
    refine b_iload_n dX2_isRight_45 rfl ?_
    refine b_iload dX2_isRight_46 rfl ?_
    refine b_iconst (v := -1) dX2_isRight_48 (by decide) ?_
    refine b_ixor dX2_isRight_49 ?_
    refine b_iand dX2_isRight_50 ?_
    refine g_callV [.int ((mPoss (σ (a + 3)) W told w F) &&& (al ^^^ ((-1))))] dX2_isRight_51 kX2_weightOf lX2_78 La.1 rfl rfl (c_weightOf La hL) rfl rfl (Nat.le_of_ble_eq_true rfl) ?_
    refine b_icmp_le 61 dX2_isRight_54 (by decide) (fun c2 => ?_) (fun c2 => ?_)
    · skip
      refine b_iconst (v := nI 0) dX2_isRight_61 (by decide) ?_
      exact b_zret dX2_isRight_62 rfl ⟨by rw [mRight, ← hal, decide_eq_false (Int32.not_lt.mpr c2)]; rfl, rfl⟩
    · skip
      refine b_iconst (v := nI 1) dX2_isRight_57 (by decide) ?_
      refine b_goto 62 dX2_isRight_58 (by decide) ?_
      exact b_zret dX2_isRight_62 rfl ⟨by rw [mRight, ← hal, decide_eq_true (Int32.not_le.mp c2)]; rfl, rfl⟩
  refine b_icmp_ne 28 dX2_isRight_16 (by decide) (fun c1 => ?_) (fun c1 => ?_)
  · skip
    refine b_iload_n dX2_isRight_28 rfl ?_
    refine b_aload_n dX2_isRight_29 rfl ?_
    refine g_get dX2_isRight_30 fX2_33 La.1 rfl ?_
    refine b_iconst (v := -1) dX2_isRight_33 (by decide) ?_
    refine b_ixor dX2_isRight_34 ?_
    refine b_iand dX2_isRight_35 ?_
    have c2 : ¬ bt (σ a 5) w = true := fun z => c1 ((b_test hw).mpr z)
    refine J _ ?_
    simp [mAlike, c2]
  · skip
    refine b_iload_n dX2_isRight_19 rfl ?_
    refine b_aload_n dX2_isRight_20 rfl ?_
    refine g_get dX2_isRight_21 fX2_33 La.1 rfl ?_
    refine b_iand dX2_isRight_24 ?_
    refine b_goto 36 dX2_isRight_25 (by decide) ?_
    have c2 := (b_test hw).mp c1
    refine J _ ?_
    simp [mAlike, c2]
def mSt1 (hold : Nat → Int32) (W F : Nat) (s to0 told : Int32) : Nat → Int32
  | 0 => to0
  | w + 1 => if bt s w then mSt1 hold W F s to0 told w ||| mPoss hold W told w F else mSt1 hold W F s to0 told w
def mSt (hold : Nat → Int32) (W F : Nat) (told : Nat → Int32) (s : Int32) : Nat → Int32
  | 0 => s
  | p + 1 => mSt1 hold W F s (mSt hold W F told s p) (told p) W
theorem c_stepFrom {G : GT} {d : Nat} {σ : ST} {μ : SL} {a t W F P : Nat} {s : Int32} (La : Lnd G a) (At : AI G t 6) (hL : LV σ a W F P) : Fn G (d + 2) mX2_stepFrom [.ref (G.b0 + a), .int s, .ref (G.b0 + t)] (sh G σ μ) (Ret (some (.int (mSt (σ (a + 3)) W F (σ t) s P))) (sh G σ μ)) := by
  have hL' := hL
  obtain ⟨hW, hF, hP, hW16, hF8, hP6⟩ := hL
  refine fn_of (ls := [some (.ref (G.b0 + a)), some (.int s), some (.ref (G.b0 + t)), none, none, none]) (by decide +kernel) (Nat.le_of_ble_eq_true rfl) 3 rfl ?_
  refine b_iload_n dX2_stepFrom_0 rfl ?_
  refine b_istore_n dX2_stepFrom_1 (by decide) rfl ?_
  refine b_iconst (v := nI 0) dX2_stepFrom_2 (by decide) ?_
  refine b_istore dX2_stepFrom_3 (by decide) rfl ?_
  have lp : ∀ (n i : Nat) (x : Int32) (z : Option Value), i + n = P → x = mSt (σ (a + 3)) W F (σ t) s i → BB G RX2 cX2_stepFrom 6 (some .int) (d + 2) (QM G (Ret (some (.int (mSt (σ (a + 3)) W F (σ t) s P))) (sh G σ μ))) 5 [some (.ref (G.b0 + a)), some (.int s), some (.ref (G.b0 + t)), some (.int x), some (.int (nI i)), z] [] (sh G σ μ) := by
    intro n
    induction n with
    | zero =>
      intro i x z hi hx
      refine b_iload dX2_stepFrom_5 rfl ?_
      refine b_aload_n dX2_stepFrom_7 rfl ?_
      refine g_geti dX2_stepFrom_8 fX2_43 La.1 rfl hP ?_
      refine b_icmp_ge_t 61 dX2_stepFrom_11 (by decide) (nI_le (by omega) (by omega)) ?_
      refine b_iload_n dX2_stepFrom_61 rfl ?_
      exact b_iret dX2_stepFrom_62 ⟨by rw [hx, show i = P by omega], rfl⟩
    | succ n ih =>
      intro i x z hi hx
      refine b_iload dX2_stepFrom_5 rfl ?_
      refine b_aload_n dX2_stepFrom_7 rfl ?_
      refine g_geti dX2_stepFrom_8 fX2_43 La.1 rfl hP ?_
      refine b_icmp_ge_f 61 dX2_stepFrom_11 (by decide) (nI_ge (by omega) (by omega)) ?_
      refine b_iconst (v := nI 0) dX2_stepFrom_14 (by decide) ?_
      refine b_istore dX2_stepFrom_15 (by decide) rfl ?_
      have lq : ∀ (k j : Nat) (y : Int32), j + k = W → y = mSt1 (σ (a + 3)) W F s x (σ t i) j → BB G RX2 cX2_stepFrom 6 (some .int) (d + 2) (QM G (Ret (some (.int (mSt (σ (a + 3)) W F (σ t) s P))) (sh G σ μ))) 17 [some (.ref (G.b0 + a)), some (.int s), some (.ref (G.b0 + t)), some (.int y), some (.int (nI i)), some (.int (nI j))] [] (sh G σ μ) := by
        intro k
        induction k with
        | zero =>
          intro j y hj hy
          refine b_iload dX2_stepFrom_17 rfl ?_
          refine b_aload_n dX2_stepFrom_19 rfl ?_
          refine g_geti dX2_stepFrom_20 fX2_37 La.1 rfl hW ?_
          refine b_icmp_ge_t 55 dX2_stepFrom_23 (by decide) (nI_le (by omega) (by omega)) ?_
          refine b_iinc dX2_stepFrom_55 rfl (nI_1 _) (by decide) rfl ?_
          refine b_goto 5 dX2_stepFrom_58 (by decide) ?_
          exact ih (i + 1) _ _ (by omega) (by rw [mSt, ← hx, hy, show j = W by omega])
        | succ k ihk =>
          intro j y hj hy
          refine b_iload dX2_stepFrom_17 rfl ?_
          refine b_aload_n dX2_stepFrom_19 rfl ?_
          refine g_geti dX2_stepFrom_20 fX2_37 La.1 rfl hW ?_
          refine b_icmp_ge_f 55 dX2_stepFrom_23 (by decide) (nI_ge (by omega) (by omega)) ?_
          refine b_iload_n dX2_stepFrom_26 rfl ?_
          refine b_iload dX2_stepFrom_27 rfl ?_
          refine b_ishr dX2_stepFrom_29 ?_
          refine b_iconst (v := nI 1) dX2_stepFrom_30 (by decide) ?_
          refine b_iand dX2_stepFrom_31 ?_
          refine b_iconst (v := nI 1) dX2_stepFrom_32 (by decide) ?_
          refine b_icmp_ne 49 dX2_stepFrom_33 (by decide) (fun c1 => ?_) (fun c1 => ?_)
          · skip
            refine b_iinc dX2_stepFrom_49 rfl (nI_1 _) (by decide) rfl ?_
            refine b_goto 17 dX2_stepFrom_52 (by decide) ?_
            have c2 : ¬ bt s j = true := fun z => c1 ((b_test (by omega)).mpr z)
            exact ihk (j + 1) _ (by omega) (by simp [mSt1, c2, hy])
          · skip
            refine b_iload_n dX2_stepFrom_36 rfl ?_
            refine b_aload_n dX2_stepFrom_37 rfl ?_
            refine b_aload_n dX2_stepFrom_38 rfl ?_
            refine b_iload dX2_stepFrom_39 rfl ?_
            refine g_iald dX2_stepFrom_41 At rfl (by omega) ?_
            refine b_iload dX2_stepFrom_42 rfl ?_
            refine g_callV [.int (σ t i), .int (nI j)] dX2_stepFrom_44 kX2_possible lX2_84 La.1 rfl rfl (c_possible La hL' (by omega)) rfl rfl (Nat.le_of_ble_eq_true rfl) ?_
            refine b_ior dX2_stepFrom_47 ?_
            refine b_istore_n dX2_stepFrom_48 (by decide) rfl ?_
            refine b_iinc dX2_stepFrom_49 rfl (nI_1 _) (by decide) rfl ?_
            refine b_goto 17 dX2_stepFrom_52 (by decide) ?_
            have c2 := (b_test (by omega)).mp c1
            exact ihk (j + 1) _ (by omega) (by simp [mSt1, c2, hy])
      exact lq W 0 _ (by omega) rfl
  exact lp P 0 _ _ (by omega) rfl
/-- deeds: -1, or 0 to 199 with its person and its fact in the land -/
def mDeed (F P : Nat) (v : Int64) : Bool := decide (v = -1) || (decide (0 ≤ v.toInt) && decide (v.toInt < 200) && decide (v.toInt.toNat % 100 / 10 < P) && decide (v.toInt.toNat % 10 < F))
theorem mDeed_lN (F P n : Nat) (hn : n < 2 ^ 31) : mDeed F P (lN n) = (decide (n < 200) && decide (n % 100 / 10 < P) && decide (n % 10 < F)) := by
  have h1 : (lN n).toInt = (n : Int) := lN_toInt hn
  have h2 : ¬ lN n = -1 := fun z => by
    have := congrArg Int64.toInt z
    rw [h1] at this
    have h3 : (-1 : Int64).toInt = -1 := by decide
    rw [h3] at this
    omega
  have h4 : (n : Int).toNat = n := Int.toNat_natCast n
  simp only [mDeed, h1, h2, h4, decide_false, Bool.false_or]
  have h5 : ((n : Int) < 200) = (n < 200) := by simp; omega
  simp [h5]
theorem c_isDeed {G : GT} {d : Nat} {σ : ST} {μ : SL} {a W F P : Nat} {v : Int64} (La : Lnd G a) (hL : LV σ a W F P) : Fn G d mX2_isDeed [.ref (G.b0 + a), .long v] (sh G σ μ) (Ret (some (.int (bI (mDeed F P v)))) (sh G σ μ)) := by
  obtain ⟨hW, hF, hP, hW16, hF8, hP6⟩ := hL
  refine fn_of (ls := [some (.ref (G.b0 + a)), some (.long v), none]) (by decide +kernel) (Nat.le_of_ble_eq_true rfl) 0 rfl ?_
  refine b_lload_n dX2_isDeed_0 rfl ?_
  refine b_ldc2 dX2_isDeed_1 cvX2_90 ?_
  refine b_lcmp dX2_isDeed_4 ?_
  refine b_if_ne 10 dX2_isDeed_5 (by decide) (fun c1 => ?_) (fun c1 => ?_)
  · skip
    refine b_lload_n dX2_isDeed_10 rfl ?_
    refine b_lconst (v := 0) dX2_isDeed_11 (by decide) ?_
    refine b_lcmp dX2_isDeed_12 ?_
    have n1 : ¬ v = -1 := fun z => c1 ((lg_cmp_eq _ _).mpr z)
    refine b_if_lt 60 dX2_isDeed_13 (by decide) (fun c2 => ?_) (fun c2 => ?_)
    · skip
      refine b_iconst (v := nI 0) dX2_isDeed_60 (by decide) ?_
      have h0 : ¬ 0 ≤ v.toInt := fun z => Int64.not_le.mpr ((lg_cmp_lt _ _).mp c2) (Int64.le_iff_toInt_le.mpr z)
      exact b_zret dX2_isDeed_61 rfl ⟨by simp [mDeed, n1, h0, bI], rfl⟩
    · skip
      refine b_lload_n dX2_isDeed_16 rfl ?_
      refine b_ldc2 dX2_isDeed_17 cvX2_92 ?_
      refine b_lcmp dX2_isDeed_20 ?_
      have h0 : ¬ v < 0 := fun z => c2 ((lg_cmp_lt _ _).mpr z)
      obtain ⟨n, hn, rfl⟩ := pk_lOf h0
      refine b_if_ge 60 dX2_isDeed_21 (by decide) (fun c3 => ?_) (fun c3 => ?_)
      · skip
        refine b_iconst (v := nI 0) dX2_isDeed_60 (by decide) ?_
        have h3 := (lg_cmp_ge _ _).mp c3
        have h4 : ¬ n < 200 := fun z => by
          have h5 := (pk_lLE (a := 200) (b := n) (by omega) hn).mp h3
          omega
        have h6 : ¬ (lN n).toInt < 200 := by rw [pk_lT hn]; omega
        exact b_zret dX2_isDeed_61 rfl ⟨by simp [mDeed, n1, h6, bI], rfl⟩
      · skip
        have h3 : ¬ (lN 200 ≤ lN n) := fun z => c3 ((lg_cmp_ge _ _).mpr z)
        have h4 : n < 200 := Nat.not_le.mp (fun z => h3 ((pk_lLE (by omega) hn).mpr z))
        refine b_lload_n dX2_isDeed_24 rfl ?_
        refine b_ldc2 dX2_isDeed_25 cvX2_94 ?_
        refine b_lrem dX2_isDeed_28 (by decide) ?_
        refine b_topJ (y := lN (n % 100)) (pk_lRem (a := n) (b := 100) hn (by omega) (by omega)) ?_
        refine b_ldc2 dX2_isDeed_29 cvX2_96 ?_
        refine b_ldiv dX2_isDeed_32 (by decide) ?_
        refine b_topJ (y := lN (n % 100 / 10)) (pk_lDiv (a := n % 100) (b := 10) (by omega) (by omega) (by omega)) ?_
        refine b_aload_n dX2_isDeed_33 rfl ?_
        refine g_geti dX2_isDeed_34 fX2_43 La.1 rfl hP ?_
        refine b_i2l dX2_isDeed_37 ?_
        refine b_lcmp dX2_isDeed_38 ?_
        refine b_if_ge 60 dX2_isDeed_39 (by decide) (fun c4 => ?_) (fun c4 => ?_)
        · skip
          refine b_iconst (v := nI 0) dX2_isDeed_60 (by decide) ?_
          have h5 := (lg_cmp_ge _ _).mp c4
          rw [nI_l (by omega), lN_le (by omega) (by omega)] at h5
          exact b_zret dX2_isDeed_61 rfl ⟨by rw [mDeed_lN F P n (by omega)]; simp [bI]; omega, rfl⟩
        · skip
          have h5 : ¬ (nI P).toInt64 ≤ lN (n % 100 / 10) := fun z => c4 ((lg_cmp_ge _ _).mpr z)
          rw [nI_l (by omega), lN_le (by omega) (by omega)] at h5
          refine b_lload_n dX2_isDeed_42 rfl ?_
          refine b_ldc2 dX2_isDeed_43 cvX2_96 ?_
          refine b_lrem dX2_isDeed_46 (by decide) ?_
          refine b_topJ (y := lN (n % 10)) (pk_lRem (a := n) (b := 10) hn (by omega) (by omega)) ?_
          refine b_aload_n dX2_isDeed_47 rfl ?_
          refine g_geti dX2_isDeed_48 fX2_40 La.1 rfl hF ?_
          refine b_i2l dX2_isDeed_51 ?_
          refine b_lcmp dX2_isDeed_52 ?_
          refine b_if_ge 60 dX2_isDeed_53 (by decide) (fun c5 => ?_) (fun c5 => ?_)
          · skip
            refine b_iconst (v := nI 0) dX2_isDeed_60 (by decide) ?_
            have h6 := (lg_cmp_ge _ _).mp c5
            rw [nI_l (by omega), lN_le (by omega) (by omega)] at h6
            exact b_zret dX2_isDeed_61 rfl ⟨by rw [mDeed_lN F P n (by omega)]; simp [bI]; omega, rfl⟩
          · skip
            have h6 : ¬ (nI F).toInt64 ≤ lN (n % 10) := fun z => c5 ((lg_cmp_ge _ _).mpr z)
            rw [nI_l (by omega), lN_le (by omega) (by omega)] at h6
            refine b_iconst (v := nI 1) dX2_isDeed_56 (by decide) ?_
            refine b_goto 61 dX2_isDeed_57 (by decide) ?_
            exact b_zret dX2_isDeed_61 rfl ⟨by rw [mDeed_lN F P n (by omega)]; simp [bI]; omega, rfl⟩
  · skip
    refine b_iconst (v := nI 1) dX2_isDeed_8 (by decide) ?_
    have n1 : v = -1 := (lg_cmp_eq _ _).mp c1
    exact b_zret dX2_isDeed_9 rfl ⟨by simp [mDeed, n1, bI], rfl⟩

