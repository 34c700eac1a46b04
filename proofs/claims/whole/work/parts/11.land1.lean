/-! ===== Land: what is read ===== -/
/-- a land's counts -/
def LV (σ : ST) (a W F P : Nat) : Prop := σ a 6 = nI W ∧ σ a 7 = nI F ∧ σ a 8 = nI P ∧ W ≤ 16 ∧ F ≤ 8 ∧ P ≤ 6
def mAll (n : Nat) : Int32 := nI 1 <<< (nI n &&& 31) - nI 1
def mSide (hold : Nat → Int32) (f : Nat) (w : Nat) : Int32 := if bt (hold f) w then hold f else hold f ^^^ (-1)
def mPoss (hold : Nat → Int32) (W : Nat) (told : Int32) (w : Nat) : Nat → Int32
  | 0 => mAll W
  | f + 1 => if bt told f then mPoss hold W told w f &&& mSide hold f w else mPoss hold W told w f
def mKn (H : Int32) (p : Int32) : Bool := decide (p &&& H = 0) || decide (p &&& H = p)
def mKnown (hold : Nat → Int32) (p : Int32) : Nat → Int32
  | 0 => nI 0
  | f + 1 => if mKn (hold f) p then mKnown hold p f ||| (nI 1 <<< (nI f &&& 31)) else mKnown hold p f
theorem c_allWorlds {G : GT} {d : Nat} {σ : ST} {μ : SL} {a W : Nat} (La : Lnd G a) (hW : σ a 6 = nI W) : Fn G d mX2_allWorlds [.ref (G.b0 + a)] (sh G σ μ) (Ret (some (.int (mAll W))) (sh G σ μ)) := by
  refine fn_of (ls := [some (.ref (G.b0 + a))]) (by decide +kernel) (Nat.le_of_ble_eq_true rfl) 0 rfl ?_
  refine b_iconst (v := nI 1) dX2_allWorlds_0 (by decide) ?_
  refine b_aload_n dX2_allWorlds_1 rfl ?_
  refine g_geti dX2_allWorlds_2 fX2_37 La.1 rfl hW ?_
  refine b_ishl dX2_allWorlds_5 ?_
  refine b_iconst (v := nI 1) dX2_allWorlds_6 (by decide) ?_
  refine b_isub dX2_allWorlds_7 ?_
  exact b_iret dX2_allWorlds_8 ⟨rfl, rfl⟩
theorem c_allFacts {G : GT} {d : Nat} {σ : ST} {μ : SL} {a F : Nat} (La : Lnd G a) (hF : σ a 7 = nI F) : Fn G d mX2_allFacts [.ref (G.b0 + a)] (sh G σ μ) (Ret (some (.int (mAll F))) (sh G σ μ)) := by
  refine fn_of (ls := [some (.ref (G.b0 + a))]) (by decide +kernel) (Nat.le_of_ble_eq_true rfl) 0 rfl ?_
  refine b_iconst (v := nI 1) dX2_allFacts_0 (by decide) ?_
  refine b_aload_n dX2_allFacts_1 rfl ?_
  refine g_geti dX2_allFacts_2 fX2_40 La.1 rfl hF ?_
  refine b_ishl dX2_allFacts_5 ?_
  refine b_iconst (v := nI 1) dX2_allFacts_6 (by decide) ?_
  refine b_isub dX2_allFacts_7 ?_
  exact b_iret dX2_allFacts_8 ⟨rfl, rfl⟩
theorem c_sideOf {G : GT} {d : Nat} {σ : ST} {μ : SL} {a f w : Nat} (La : Lnd G a) (hf : f < 8) (hw : w < 32) : Fn G d mX2_sideOf [.ref (G.b0 + a), .int (nI f), .int (nI w)] (sh G σ μ) (Ret (some (.int (mSide (σ (a + 3)) f w))) (sh G σ μ)) := by
  refine fn_of (ls := [some (.ref (G.b0 + a)), some (.int (nI f)), some (.int (nI w))]) (by decide +kernel) (Nat.le_of_ble_eq_true rfl) 0 rfl ?_
  refine b_aload_n dX2_sideOf_0 rfl ?_
  refine g_get dX2_sideOf_1 fX2_18 La.1 rfl ?_
  refine b_iload_n dX2_sideOf_4 rfl ?_
  refine g_iald dX2_sideOf_5 La.2.2.2.1 rfl (by omega) ?_
  refine b_iload_n dX2_sideOf_6 rfl ?_
  refine b_ishr dX2_sideOf_7 ?_
  refine b_iconst (v := nI 1) dX2_sideOf_8 (by decide) ?_
  refine b_iand dX2_sideOf_9 ?_
  refine b_iconst (v := nI 1) dX2_sideOf_10 (by decide) ?_
  refine b_icmp_ne 23 dX2_sideOf_11 (by decide) (fun c1 => ?_) (fun c1 => ?_)
  · skip
    refine b_aload_n dX2_sideOf_23 rfl ?_
    refine g_get dX2_sideOf_24 fX2_18 La.1 rfl ?_
    refine b_iload_n dX2_sideOf_27 rfl ?_
    refine g_iald dX2_sideOf_28 La.2.2.2.1 rfl (by omega) ?_
    refine b_iconst (v := -1) dX2_sideOf_29 (by decide) ?_
    refine b_ixor dX2_sideOf_30 ?_
    have c2 : ¬ bt (σ (a + 3) f) w = true := fun z => c1 ((b_test hw).mpr z)
    exact b_iret dX2_sideOf_31 ⟨by simp [mSide, c2], rfl⟩
  · skip
    refine b_aload_n dX2_sideOf_14 rfl ?_
    refine g_get dX2_sideOf_15 fX2_18 La.1 rfl ?_
    refine b_iload_n dX2_sideOf_18 rfl ?_
    refine g_iald dX2_sideOf_19 La.2.2.2.1 rfl (by omega) ?_
    refine b_goto 31 dX2_sideOf_20 (by decide) ?_
    have c2 := (b_test hw).mp c1
    exact b_iret dX2_sideOf_31 ⟨by simp [mSide, c2], rfl⟩
theorem c_possible {G : GT} {d : Nat} {σ : ST} {μ : SL} {a W F P w : Nat} {told : Int32} (La : Lnd G a) (hL : LV σ a W F P) (hw : w < 32) : Fn G (d + 1) mX2_possible [.ref (G.b0 + a), .int told, .int (nI w)] (sh G σ μ) (Ret (some (.int (mPoss (σ (a + 3)) W told w F))) (sh G σ μ)) := by
  obtain ⟨hW, hF, hP, hW16, hF8, hP6⟩ := hL
  refine fn_of (ls := [some (.ref (G.b0 + a)), some (.int told), some (.int (nI w)), none, none]) (by decide +kernel) (Nat.le_of_ble_eq_true rfl) 2 rfl ?_
  refine b_aload_n dX2_possible_0 rfl ?_
  refine g_callV [] dX2_possible_1 kX2_allWorlds lX2_61 La.1 rfl rfl (c_allWorlds La hW) rfl rfl (Nat.le_of_ble_eq_true rfl) ?_
  refine b_istore_n dX2_possible_4 (by decide) rfl ?_
  refine b_iconst (v := nI 0) dX2_possible_5 (by decide) ?_
  refine b_istore dX2_possible_6 (by decide) rfl ?_
  have lp : ∀ (n i : Nat) (x : Int32), i + n = F → x = mPoss (σ (a + 3)) W told w i → BB G RX2 cX2_possible 5 (some .int) (d + 1) (QM G (Ret (some (.int (mPoss (σ (a + 3)) W told w F))) (sh G σ μ))) 8 [some (.ref (G.b0 + a)), some (.int told), some (.int (nI w)), some (.int x), some (.int (nI i))] [] (sh G σ μ) := by
    intro n
    induction n with
    | zero =>
      intro i x hi hx
      refine b_iload dX2_possible_8 rfl ?_
      refine b_aload_n dX2_possible_10 rfl ?_
      refine g_geti dX2_possible_11 fX2_40 La.1 rfl hF ?_
      refine b_icmp_ge_t 43 dX2_possible_14 (by decide) (nI_le (by omega) (by omega)) ?_
      refine b_iload_n dX2_possible_43 rfl ?_
      exact b_iret dX2_possible_44 ⟨by rw [hx, show i = F by omega], rfl⟩
    | succ n ih =>
      intro i x hi hx
      refine b_iload dX2_possible_8 rfl ?_
      refine b_aload_n dX2_possible_10 rfl ?_
      refine g_geti dX2_possible_11 fX2_40 La.1 rfl hF ?_
      refine b_icmp_ge_f 43 dX2_possible_14 (by decide) (nI_ge (by omega) (by omega)) ?_
      refine b_iload_n dX2_possible_17 rfl ?_
      refine b_iload dX2_possible_18 rfl ?_
      refine b_ishr dX2_possible_20 ?_
      refine b_iconst (v := nI 1) dX2_possible_21 (by decide) ?_
      refine b_iand dX2_possible_22 ?_
      refine b_iconst (v := nI 1) dX2_possible_23 (by decide) ?_
      refine b_icmp_ne 37 dX2_possible_24 (by decide) (fun c1 => ?_) (fun c1 => ?_)
      · skip
        refine b_iinc dX2_possible_37 rfl (nI_1 _) (by decide) rfl ?_
        refine b_goto 8 dX2_possible_40 (by decide) ?_
        have c2 : ¬ bt told i = true := fun z => c1 ((b_test (by omega)).mpr z)
        exact ih (i + 1) _ (by omega) (by simp [mPoss, c2, hx])
      · skip
        refine b_iload_n dX2_possible_27 rfl ?_
        refine b_aload_n dX2_possible_28 rfl ?_
        refine b_iload dX2_possible_29 rfl ?_
        refine b_iload_n dX2_possible_31 rfl ?_
        refine g_callV [.int (nI i), .int (nI w)] dX2_possible_32 kX2_sideOf lX2_65 La.1 rfl rfl (c_sideOf La (by omega) hw) rfl rfl (Nat.le_of_ble_eq_true rfl) ?_
        refine b_iand dX2_possible_35 ?_
        refine b_istore_n dX2_possible_36 (by decide) rfl ?_
        refine b_iinc dX2_possible_37 rfl (nI_1 _) (by decide) rfl ?_
        refine b_goto 8 dX2_possible_40 (by decide) ?_
        have c2 := (b_test (by omega)).mp c1
        exact ih (i + 1) _ (by omega) (by simp [mPoss, c2, hx])
  exact lp F 0 _ (by omega) rfl
theorem c_isKnown {G : GT} {d : Nat} {σ : ST} {μ : SL} {a f : Nat} {q : Int32} (La : Lnd G a) (hf : f < 8) : Fn G d mX2_isKnown [.ref (G.b0 + a), .int (nI f), .int q] (sh G σ μ) (Ret (some (.int (bI (mKn (σ (a + 3) f) q)))) (sh G σ μ)) := by
  refine fn_of (ls := [some (.ref (G.b0 + a)), some (.int (nI f)), some (.int q), none]) (by decide +kernel) (Nat.le_of_ble_eq_true rfl) 1 rfl ?_
  refine b_iload_n dX2_isKnown_0 rfl ?_
  refine b_aload_n dX2_isKnown_1 rfl ?_
  refine g_get dX2_isKnown_2 fX2_18 La.1 rfl ?_
  refine b_iload_n dX2_isKnown_5 rfl ?_
  refine g_iald dX2_isKnown_6 La.2.2.2.1 rfl (by omega) ?_
  refine b_iand dX2_isKnown_7 ?_
  refine b_istore_n dX2_isKnown_8 (by decide) rfl ?_
  refine b_iload_n dX2_isKnown_9 rfl ?_
  refine b_if_eq 18 dX2_isKnown_10 (by decide) (fun c1 => ?_) (fun c1 => ?_)
  · skip
    refine b_iconst (v := nI 1) dX2_isKnown_18 (by decide) ?_
    refine b_goto 23 dX2_isKnown_19 (by decide) ?_
    exact b_zret dX2_isKnown_23 rfl ⟨by simp [mKn, c1, bI], rfl⟩
  · skip
    refine b_iload_n dX2_isKnown_13 rfl ?_
    refine b_iload_n dX2_isKnown_14 rfl ?_
    refine b_icmp_ne 22 dX2_isKnown_15 (by decide) (fun c2 => ?_) (fun c2 => ?_)
    · skip
      refine b_iconst (v := nI 0) dX2_isKnown_22 (by decide) ?_
      exact b_zret dX2_isKnown_23 rfl ⟨by simp [mKn, c1, c2, bI], rfl⟩
    · skip
      refine b_iconst (v := nI 1) dX2_isKnown_18 (by decide) ?_
      refine b_goto 23 dX2_isKnown_19 (by decide) ?_
      exact b_zret dX2_isKnown_23 rfl ⟨by simp [mKn, c2, bI], rfl⟩
theorem c_knownBy {G : GT} {d : Nat} {σ : ST} {μ : SL} {a W F P : Nat} {q : Int32} (La : Lnd G a) (hL : LV σ a W F P) : Fn G (d + 1) mX2_knownBy [.ref (G.b0 + a), .int q] (sh G σ μ) (Ret (some (.int (mKnown (σ (a + 3)) q F))) (sh G σ μ)) := by
  obtain ⟨hW, hF, hP, hW16, hF8, hP6⟩ := hL
  refine fn_of (ls := [some (.ref (G.b0 + a)), some (.int q), none, none]) (by decide +kernel) (Nat.le_of_ble_eq_true rfl) 2 rfl ?_
  refine b_iconst (v := nI 0) dX2_knownBy_0 (by decide) ?_
  refine b_istore_n dX2_knownBy_1 (by decide) rfl ?_
  refine b_iconst (v := nI 0) dX2_knownBy_2 (by decide) ?_
  refine b_istore_n dX2_knownBy_3 (by decide) rfl ?_
  have lp : ∀ (n i : Nat) (x : Int32), i + n = F → x = mKnown (σ (a + 3)) q i → BB G RX2 cX2_knownBy 4 (some .int) (d + 1) (QM G (Ret (some (.int (mKnown (σ (a + 3)) q F))) (sh G σ μ))) 4 [some (.ref (G.b0 + a)), some (.int q), some (.int x), some (.int (nI i))] [] (sh G σ μ) := by
    intro n
    induction n with
    | zero =>
      intro i x hi hx
      refine b_iload_n dX2_knownBy_4 rfl ?_
      refine b_aload_n dX2_knownBy_5 rfl ?_
      refine g_geti dX2_knownBy_6 fX2_40 La.1 rfl hF ?_
      refine b_icmp_ge_t 33 dX2_knownBy_9 (by decide) (nI_le (by omega) (by omega)) ?_
      refine b_iload_n dX2_knownBy_33 rfl ?_
      exact b_iret dX2_knownBy_34 ⟨by rw [hx, show i = F by omega], rfl⟩
    | succ n ih =>
      intro i x hi hx
      refine b_iload_n dX2_knownBy_4 rfl ?_
      refine b_aload_n dX2_knownBy_5 rfl ?_
      refine g_geti dX2_knownBy_6 fX2_40 La.1 rfl hF ?_
      refine b_icmp_ge_f 33 dX2_knownBy_9 (by decide) (nI_ge (by omega) (by omega)) ?_
      refine b_aload_n dX2_knownBy_12 rfl ?_
      refine b_iload_n dX2_knownBy_13 rfl ?_
      refine b_iload_n dX2_knownBy_14 rfl ?_
      refine g_callV [.int (nI i), .int q] dX2_knownBy_15 kX2_isKnown lX2_69 La.1 rfl rfl (c_isKnown La (by omega)) rfl rfl (Nat.le_of_ble_eq_true rfl) ?_
      refine b_if_eq 27 dX2_knownBy_18 (by decide) (fun c1 => ?_) (fun c1 => ?_)
      · skip
        refine b_iinc dX2_knownBy_27 rfl (nI_1 _) (by decide) rfl ?_
        refine b_goto 4 dX2_knownBy_30 (by decide) ?_
        exact ih (i + 1) _ (by omega) (by simp [mKnown, (bI_0 _).mp c1, hx])
      · skip
        refine b_iload_n dX2_knownBy_21 rfl ?_
        refine b_iconst (v := nI 1) dX2_knownBy_22 (by decide) ?_
        refine b_iload_n dX2_knownBy_23 rfl ?_
        refine b_ishl dX2_knownBy_24 ?_
        refine b_ior dX2_knownBy_25 ?_
        refine b_istore_n dX2_knownBy_26 (by decide) rfl ?_
        refine b_iinc dX2_knownBy_27 rfl (nI_1 _) (by decide) rfl ?_
        refine b_goto 4 dX2_knownBy_30 (by decide) ?_
        exact ih (i + 1) _ (by omega) (by simp [mKnown, (bI_1 _).mp c1, hx])
  exact lp F 0 _ (by omega) rfl
theorem c_isGuiltKnown {G : GT} {d : Nat} {σ : ST} {μ : SL} {a : Nat} {q : Int32} (La : Lnd G a) : Fn G d mX2_isGuiltKnown [.ref (G.b0 + a), .int q] (sh G σ μ) (Ret (some (.int (bI (mKn (σ a 5) q)))) (sh G σ μ)) := by
  refine fn_of (ls := [some (.ref (G.b0 + a)), some (.int q), none]) (by decide +kernel) (Nat.le_of_ble_eq_true rfl) 1 rfl ?_
  refine b_iload_n dX2_isGuiltKnown_0 rfl ?_
  refine b_aload_n dX2_isGuiltKnown_1 rfl ?_
  refine g_get dX2_isGuiltKnown_2 fX2_33 La.1 rfl ?_
  refine b_iand dX2_isGuiltKnown_5 ?_
  refine b_istore_n dX2_isGuiltKnown_6 (by decide) rfl ?_
  refine b_iload_n dX2_isGuiltKnown_7 rfl ?_
  refine b_if_eq 16 dX2_isGuiltKnown_8 (by decide) (fun c1 => ?_) (fun c1 => ?_)
  · skip
    refine b_iconst (v := nI 1) dX2_isGuiltKnown_16 (by decide) ?_
    refine b_goto 21 dX2_isGuiltKnown_17 (by decide) ?_
    exact b_zret dX2_isGuiltKnown_21 rfl ⟨by simp [mKn, c1, bI], rfl⟩
  · skip
    refine b_iload_n dX2_isGuiltKnown_11 rfl ?_
    refine b_iload_n dX2_isGuiltKnown_12 rfl ?_
    refine b_icmp_ne 20 dX2_isGuiltKnown_13 (by decide) (fun c2 => ?_) (fun c2 => ?_)
    · skip
      refine b_iconst (v := nI 0) dX2_isGuiltKnown_20 (by decide) ?_
      exact b_zret dX2_isGuiltKnown_21 rfl ⟨by simp [mKn, c1, c2, bI], rfl⟩
    · skip
      refine b_iconst (v := nI 1) dX2_isGuiltKnown_16 (by decide) ?_
      refine b_goto 21 dX2_isGuiltKnown_17 (by decide) ?_
      exact b_zret dX2_isGuiltKnown_21 rfl ⟨by simp [mKn, c2, bI], rfl⟩
def mFacts (hold : Nat → Int32) (w : Nat) : Nat → Int32
  | 0 => nI 0
  | f + 1 => if bt (hold f) w then mFacts hold w f ||| (nI 1 <<< (nI f &&& 31)) else mFacts hold w f
theorem or_0 (x : Int32) : x ||| (nI 0) = x := by
  apply b_ext; intro i hi; rw [b_or, b_n0]; simp
theorem shl_0 {k : Nat} (hk : k < 32) : nI 0 <<< (nI k &&& 31) = nI 0 := by
  apply b_ext; intro i hi; rw [b_shl k hk _ hi, b_n0, b_n0]; simp
theorem c_factsIn {G : GT} {d : Nat} {σ : ST} {μ : SL} {a W F P w : Nat} (La : Lnd G a) (hL : LV σ a W F P) (hw : w < 32) : Fn G d mX2_factsIn [.ref (G.b0 + a), .int (nI w)] (sh G σ μ) (Ret (some (.int (mFacts (σ (a + 3)) w F))) (sh G σ μ)) := by
  obtain ⟨hW, hF, hP, hW16, hF8, hP6⟩ := hL
  refine fn_of (ls := [some (.ref (G.b0 + a)), some (.int (nI w)), none, none]) (by decide +kernel) (Nat.le_of_ble_eq_true rfl) 2 rfl ?_
  refine b_iconst (v := nI 0) dX2_factsIn_0 (by decide) ?_
  refine b_istore_n dX2_factsIn_1 (by decide) rfl ?_
  refine b_iconst (v := nI 0) dX2_factsIn_2 (by decide) ?_
  refine b_istore_n dX2_factsIn_3 (by decide) rfl ?_
  have lp : ∀ (n i : Nat) (x : Int32), i + n = F → x = mFacts (σ (a + 3)) w i → BB G RX2 cX2_factsIn 4 (some .int) d (QM G (Ret (some (.int (mFacts (σ (a + 3)) w F))) (sh G σ μ))) 4 [some (.ref (G.b0 + a)), some (.int (nI w)), some (.int x), some (.int (nI i))] [] (sh G σ μ) := by
    intro n
    induction n with
    | zero =>
      intro i x hi hx
      refine b_iload_n dX2_factsIn_4 rfl ?_
      refine b_aload_n dX2_factsIn_5 rfl ?_
      refine g_geti dX2_factsIn_6 fX2_40 La.1 rfl hF ?_
      refine b_icmp_ge_t 33 dX2_factsIn_9 (by decide) (nI_le (by omega) (by omega)) ?_
      refine b_iload_n dX2_factsIn_33 rfl ?_
      exact b_iret dX2_factsIn_34 ⟨by rw [hx, show i = F by omega], rfl⟩
    | succ n ih =>
      intro i x hi hx
      refine b_iload_n dX2_factsIn_4 rfl ?_
      refine b_aload_n dX2_factsIn_5 rfl ?_
      refine g_geti dX2_factsIn_6 fX2_40 La.1 rfl hF ?_
      refine b_icmp_ge_f 33 dX2_factsIn_9 (by decide) (nI_ge (by omega) (by omega)) ?_
      refine b_iload_n dX2_factsIn_12 rfl ?_
      refine b_aload_n dX2_factsIn_13 rfl ?_
      refine g_get dX2_factsIn_14 fX2_18 La.1 rfl ?_
      refine b_iload_n dX2_factsIn_17 rfl ?_
      refine g_iald dX2_factsIn_18 La.2.2.2.1 rfl (by omega) ?_
      refine b_iload_n dX2_factsIn_19 rfl ?_
      refine b_ishr dX2_factsIn_20 ?_
      refine b_iconst (v := nI 1) dX2_factsIn_21 (by decide) ?_
      refine b_iand dX2_factsIn_22 ?_
      refine b_iload_n dX2_factsIn_23 rfl ?_
      refine b_ishl dX2_factsIn_24 ?_
      refine b_ior dX2_factsIn_25 ?_
      refine b_istore_n dX2_factsIn_26 (by decide) rfl ?_
      refine b_iinc dX2_factsIn_27 rfl (nI_1 _) (by decide) rfl ?_
      refine b_goto 4 dX2_factsIn_30 (by decide) ?_
      refine ih (i + 1) _ (by omega) ?_
      rw [b_testv hw, hx, mFacts]
      cases hb : bt (σ (a + 3) i) w
      · simp [shl_0 (show i < 32 by omega), or_0]
      · simp
  exact lp F 0 _ (by omega) rfl
def mWt (wt : Nat → Int32) (s : Int32) : Nat → Int32
  | 0 => nI 0
  | w + 1 => if bt s w then mWt wt s w + wt w else mWt wt s w
theorem c_weightOf {G : GT} {d : Nat} {σ : ST} {μ : SL} {a W F P : Nat} {q : Int32} (La : Lnd G a) (hL : LV σ a W F P) : Fn G d mX2_weightOf [.ref (G.b0 + a), .int q] (sh G σ μ) (Ret (some (.int (mWt (σ (a + 2)) q W))) (sh G σ μ)) := by
  obtain ⟨hW, hF, hP, hW16, hF8, hP6⟩ := hL
  refine fn_of (ls := [some (.ref (G.b0 + a)), some (.int q), none, none]) (by decide +kernel) (Nat.le_of_ble_eq_true rfl) 2 rfl ?_
  refine b_iconst (v := nI 0) dX2_weightOf_0 (by decide) ?_
  refine b_istore_n dX2_weightOf_1 (by decide) rfl ?_
  refine b_iconst (v := nI 0) dX2_weightOf_2 (by decide) ?_
  refine b_istore_n dX2_weightOf_3 (by decide) rfl ?_
  have lp : ∀ (n i : Nat) (x : Int32), i + n = W → x = mWt (σ (a + 2)) q i → BB G RX2 cX2_weightOf 4 (some .int) d (QM G (Ret (some (.int (mWt (σ (a + 2)) q W))) (sh G σ μ))) 4 [some (.ref (G.b0 + a)), some (.int q), some (.int x), some (.int (nI i))] [] (sh G σ μ) := by
    intro n
    induction n with
    | zero =>
      intro i x hi hx
      refine b_iload_n dX2_weightOf_4 rfl ?_
      refine b_aload_n dX2_weightOf_5 rfl ?_
      refine g_geti dX2_weightOf_6 fX2_37 La.1 rfl hW ?_
      refine b_icmp_ge_t 36 dX2_weightOf_9 (by decide) (nI_le (by omega) (by omega)) ?_
      refine b_iload_n dX2_weightOf_36 rfl ?_
      exact b_iret dX2_weightOf_37 ⟨by rw [hx, show i = W by omega], rfl⟩
    | succ n ih =>
      intro i x hi hx
      refine b_iload_n dX2_weightOf_4 rfl ?_
      refine b_aload_n dX2_weightOf_5 rfl ?_
      refine g_geti dX2_weightOf_6 fX2_37 La.1 rfl hW ?_
      refine b_icmp_ge_f 36 dX2_weightOf_9 (by decide) (nI_ge (by omega) (by omega)) ?_
      refine b_iload_n dX2_weightOf_12 rfl ?_
      refine b_iload_n dX2_weightOf_13 rfl ?_
      refine b_ishr dX2_weightOf_14 ?_
      refine b_iconst (v := nI 1) dX2_weightOf_15 (by decide) ?_
      refine b_iand dX2_weightOf_16 ?_
      refine b_iconst (v := nI 1) dX2_weightOf_17 (by decide) ?_
      refine b_icmp_ne 30 dX2_weightOf_18 (by decide) (fun c1 => ?_) (fun c1 => ?_)
      · skip
        refine b_iinc dX2_weightOf_30 rfl (nI_1 _) (by decide) rfl ?_
        refine b_goto 4 dX2_weightOf_33 (by decide) ?_
        have c2 : ¬ bt q i = true := fun z => c1 ((b_test (by omega)).mpr z)
        exact ih (i + 1) _ (by omega) (by simp [mWt, c2, hx])
      · skip
        refine b_iload_n dX2_weightOf_21 rfl ?_
        refine b_aload_n dX2_weightOf_22 rfl ?_
        refine g_get dX2_weightOf_23 fX2_15 La.1 rfl ?_
        refine b_iload_n dX2_weightOf_26 rfl ?_
        refine g_iald dX2_weightOf_27 La.2.2.1 rfl (by omega) ?_
        refine b_iadd dX2_weightOf_28 ?_
        refine b_istore_n dX2_weightOf_29 (by decide) rfl ?_
        refine b_iinc dX2_weightOf_30 rfl (nI_1 _) (by decide) rfl ?_
        refine b_goto 4 dX2_weightOf_33 (by decide) ?_
        have c2 := (b_test (by omega)).mp c1
        exact ih (i + 1) _ (by omega) (by simp [mWt, c2, hx])
  exact lp W 0 _ (by omega) rfl
def mRoads (road : Nat → Int32) : Nat → Nat
  | 0 => 0
  | p + 1 => mRoads road p + cnt (road p) 16
theorem mRoads_le (road : Nat → Int32) : ∀ p, mRoads road p ≤ 16 * p
  | 0 => Nat.le_refl 0
  | p + 1 => by
    have h1 := mRoads_le road p
    have h2 := cnt_le (road p) 16
    unfold mRoads
    omega
theorem c_countRoads {G : GT} {d : Nat} {σ : ST} {μ : SL} {a W F P : Nat} (La : Lnd G a) (hL : LV σ a W F P) (hr : ∀ p, p < P → lo 16 (σ (a + 5) p)) : Fn G (d + 1) mX2_countRoads [.ref (G.b0 + a)] (sh G σ μ) (Ret (some (.int (nI (mRoads (σ (a + 5)) P / 2)))) (sh G σ μ)) := by
  obtain ⟨hW, hF, hP, hW16, hF8, hP6⟩ := hL
  refine fn_of (ls := [some (.ref (G.b0 + a)), none, none]) (by decide +kernel) (Nat.le_of_ble_eq_true rfl) 2 rfl ?_
  refine b_iconst (v := nI 0) dX2_countRoads_0 (by decide) ?_
  refine b_istore_n dX2_countRoads_1 (by decide) rfl ?_
  refine b_iconst (v := nI 0) dX2_countRoads_2 (by decide) ?_
  refine b_istore_n dX2_countRoads_3 (by decide) rfl ?_
  have lp : ∀ (n i : Nat), i + n = P → BB G RX2 cX2_countRoads 3 (some .int) (d + 1) (QM G (Ret (some (.int (nI (mRoads (σ (a + 5)) P / 2)))) (sh G σ μ))) 4 [some (.ref (G.b0 + a)), some (.int (nI (mRoads (σ (a + 5)) i))), some (.int (nI i))] [] (sh G σ μ) := by
    intro n
    induction n with
    | zero =>
      intro i hi
      refine b_iload_n dX2_countRoads_4 rfl ?_
      refine b_aload_n dX2_countRoads_5 rfl ?_
      refine g_geti dX2_countRoads_6 fX2_43 La.1 rfl hP ?_
      refine b_icmp_ge_t 30 dX2_countRoads_9 (by decide) (nI_le (by omega) (by omega)) ?_
      refine b_iload_n dX2_countRoads_30 rfl ?_
      refine b_iconst (v := nI 2) dX2_countRoads_31 (by decide) ?_
      have hb := mRoads_le (σ (a + 5)) i
      refine b_idiv dX2_countRoads_32 (nI_ne0 (by omega) (by omega)) ?_
      refine b_iret dX2_countRoads_33 ⟨?_, rfl⟩
      rw [pk_div (by omega) (by omega) (by omega), show i = P by omega]
    | succ n ih =>
      intro i hi
      refine b_iload_n dX2_countRoads_4 rfl ?_
      refine b_aload_n dX2_countRoads_5 rfl ?_
      refine g_geti dX2_countRoads_6 fX2_43 La.1 rfl hP ?_
      refine b_icmp_ge_f 30 dX2_countRoads_9 (by decide) (nI_ge (by omega) (by omega)) ?_
      refine b_iload_n dX2_countRoads_12 rfl ?_
      refine b_aload_n dX2_countRoads_13 rfl ?_
      refine g_get dX2_countRoads_14 fX2_24 La.1 rfl ?_
      refine b_iload_n dX2_countRoads_17 rfl ?_
      refine g_iald dX2_countRoads_18 La.2.2.2.2.2 rfl (by omega) ?_
      refine b_callSr [.int (σ (a + 5) i)] dX2_countRoads_19 kJ6_bitCount_0f7a4 lX2_55 (c_bitCount (hr i (by omega))) rfl rfl (Nat.le_of_ble_eq_true rfl) ?_
      refine b_iaddN dX2_countRoads_22 ?_
      refine b_istore_n dX2_countRoads_23 (by decide) rfl ?_
      refine b_iinc dX2_countRoads_24 rfl (nI_1 _) (by decide) rfl ?_
      refine b_goto 4 dX2_countRoads_27 (by decide) ?_
      exact ih (i + 1) (by omega)
  exact lp P 0 (by omega)
/-- the measures -/
def mAmt (hold wt : Nat → Int32) (gl : Int32) (W F m : Nat) (p : Int32) : Int32 :=
  if m = 0 then nI (cnt p 16) else if m = 1 then mMin (nI (cnt (p &&& gl) 16)) (nI (cnt (p &&& (gl ^^^ (-1))) 16)) else if m = 2 then mWt wt p W else nI F - nI (cnt (mKnown hold p F) 16)
theorem lo_known (hold : Nat → Int32) (p : Int32) : ∀ n, n < 32 → lo n (mKnown hold p n)
  | 0, _ => fun i _ _ => b_n0 i
  | n + 1, h => by
    have ih := lo_mono (lo_known hold p n (by omega)) (Nat.le_succ n)
    unfold mKnown
    split
    · exact lo_or ih (lo_bit (by omega) h)
    · exact ih
theorem c_amountOf {G : GT} {d : Nat} {σ : ST} {μ : SL} {a W F P m : Nat} {q : Int32} (La : Lnd G a) (hL : LV σ a W F P) (hm : m < 4) (hq : lo 16 q) : Fn G (d + 2) mX2_amountOf [.ref (G.b0 + a), .int (nI m), .int q] (sh G σ μ) (Ret (some (.int (mAmt (σ (a + 3)) (σ (a + 2)) (σ a 5) W F m q))) (sh G σ μ)) := by
  have hL' := hL
  obtain ⟨hW, hF, hP, hW16, hF8, hP6⟩ := hL
  refine fn_of (ls := [some (.ref (G.b0 + a)), some (.int (nI m)), some (.int q)]) (by decide +kernel) (Nat.le_of_ble_eq_true rfl) 0 rfl ?_
  refine b_iload_n dX2_amountOf_0 rfl ?_
  have hmi : (nI m).toInt = (m : Int) := nI_toInt (by omega)
  rcases (show m = 0 ∨ m = 1 ∨ m = 2 ∨ m = 3 by omega) with rfl | rfl | rfl | rfl
  · refine b_tableIn 28 dX2_amountOf_1 (by rw [hmi]; decide) (by rw [hmi]; decide) (by rw [hmi]; rfl) (by decide) ?_
    refine b_iload_n dX2_amountOf_28 rfl ?_
    refine b_callSr [.int q] dX2_amountOf_29 kJ6_bitCount_0f7a4 lX2_55 (c_bitCount hq) rfl rfl (Nat.le_of_ble_eq_true rfl) ?_
    exact b_iret dX2_amountOf_32 ⟨by simp [mAmt], rfl⟩
  · refine b_tableIn 33 dX2_amountOf_1 (by rw [hmi]; decide) (by rw [hmi]; decide) (by rw [hmi]; rfl) (by decide) ?_
    refine b_iload_n dX2_amountOf_33 rfl ?_
    refine b_aload_n dX2_amountOf_34 rfl ?_
    refine g_get dX2_amountOf_35 fX2_33 La.1 rfl ?_
    refine b_iand dX2_amountOf_38 ?_
    refine b_callSr [.int (q &&& (σ a 5))] dX2_amountOf_39 kJ6_bitCount_0f7a4 lX2_55 (c_bitCount (lo_and hq)) rfl rfl (Nat.le_of_ble_eq_true rfl) ?_
    refine b_iload_n dX2_amountOf_42 rfl ?_
    refine b_aload_n dX2_amountOf_43 rfl ?_
    refine g_get dX2_amountOf_44 fX2_33 La.1 rfl ?_
    refine b_iconst (v := -1) dX2_amountOf_47 (by decide) ?_
    refine b_ixor dX2_amountOf_48 ?_
    refine b_iand dX2_amountOf_49 ?_
    refine b_callSr [.int (q &&& ((σ a 5) ^^^ ((-1))))] dX2_amountOf_50 kJ6_bitCount_0f7a4 lX2_55 (c_bitCount (lo_and hq)) rfl rfl (Nat.le_of_ble_eq_true rfl) ?_
    refine b_mmin dX2_amountOf_53 lX2_73 (Nat.le_of_ble_eq_true rfl) ?_
    exact b_iret dX2_amountOf_56 ⟨by simp [mAmt], rfl⟩
  · refine b_tableIn 57 dX2_amountOf_1 (by rw [hmi]; decide) (by rw [hmi]; decide) (by rw [hmi]; rfl) (by decide) ?_
    refine b_aload_n dX2_amountOf_57 rfl ?_
    refine b_iload_n dX2_amountOf_58 rfl ?_
    refine g_callV [.int q] dX2_amountOf_59 kX2_weightOf lX2_78 La.1 rfl rfl (c_weightOf La hL') rfl rfl (Nat.le_of_ble_eq_true rfl) ?_
    exact b_iret dX2_amountOf_62 ⟨by simp [mAmt], rfl⟩
  · refine b_tableOut 63 dX2_amountOf_1 (by rw [hmi]; decide) (by decide) ?_
    refine b_aload_n dX2_amountOf_63 rfl ?_
    refine g_geti dX2_amountOf_64 fX2_40 La.1 rfl hF ?_
    refine b_aload_n dX2_amountOf_67 rfl ?_
    refine b_iload_n dX2_amountOf_68 rfl ?_
    refine g_callV [.int q] dX2_amountOf_69 kX2_knownBy lX2_81 La.1 rfl rfl (c_knownBy La hL') rfl rfl (Nat.le_of_ble_eq_true rfl) ?_
    refine b_callSr [.int _] dX2_amountOf_72 kJ6_bitCount_0f7a4 lX2_55 (c_bitCount (lo_mono (lo_known _ _ F (by omega)) (by omega))) rfl rfl (Nat.le_of_ble_eq_true rfl) ?_
    refine b_isub dX2_amountOf_75 ?_
    exact b_iret dX2_amountOf_76 ⟨by simp [mAmt], rfl⟩

