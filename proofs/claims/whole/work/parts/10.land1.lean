/-! ===== Land: what is read ===== -/
/-- a land's counts -/
def LV (σ : ST) (a W F P : Nat) : Prop := σ a 6 = nI W ∧ σ a 7 = nI F ∧ σ a 8 = nI P ∧ W ≤ 16 ∧ F ≤ 8 ∧ P ≤ 6
def mAll (n : Nat) : Int32 := nI 1 <<< (nI n &&& 31) - nI 1
def mSide (hold : Nat → Int32) (f : Nat) (w : Nat) : Int32 := if bt (hold f) w then hold f else hold f ^^^ (-1)
def mPoss (hold : Nat → Int32) (W : Nat) (told : Int32) (w : Nat) : Nat → Int32
  | 0 => mAll W
  | f + 1 => if bt told f then mPoss hold W told w f &&& mSide hold f w else mPoss hold W told w f
def mKn (H : Int32) (p : Int32) : Bool := decide (p &&& H = 0) || decide (p &&& H = p)
def mKnown (hold : Nat → Int32) (p : Int32) : Nat → Int32
  | 0 => nI 0
  | f + 1 => if mKn (hold f) p then mKnown hold p f ||| (nI 1 <<< (nI f &&& 31)) else mKnown hold p f
theorem c_allWorlds {G : GT} {d : Nat} {σ : ST} {μ : SL} {a W : Nat} (La : Lnd G a) (hW : σ a 6 = nI W) : Fn G d mX2_allWorlds [.ref (G.b0 + a)] (sh G σ μ) (Ret (some (.int (mAll W))) (sh G σ μ)) := by
  refine fn_of (ls := [some (.ref (G.b0 + a))]) (by decide +kernel) (Nat.le_of_ble_eq_true rfl) 0 rfl ?_
  refine b_iconst (v := nI 1) dX2_allWorlds_0 (by decide) ?_
  refine b_aload_n dX2_allWorlds_1 rfl ?_
  refine g_geti dX2_allWorlds_2 fX2_37 La.1 rfl hW ?_
  refine b_ishl dX2_allWorlds_5 ?_
  refine b_iconst (v := nI 1) dX2_allWorlds_6 (by decide) ?_
  refine b_isub dX2_allWorlds_7 ?_
  exact b_iret dX2_allWorlds_8 ⟨rfl, rfl⟩
theorem c_allFacts {G : GT} {d : Nat} {σ : ST} {μ : SL} {a F : Nat} (La : Lnd G a) (hF : σ a 7 = nI F) : Fn G d mX2_allFacts [.ref (G.b0 + a)] (sh G σ μ) (Ret (some (.int (mAll F))) (sh G σ μ)) := by
  refine fn_of (ls := [some (.ref (G.b0 + a))]) (by decide +kernel) (Nat.le_of_ble_eq_true rfl) 0 rfl ?_
  refine b_iconst (v := nI 1) dX2_allFacts_0 (by decide) ?_
  refine b_aload_n dX2_allFacts_1 rfl ?_
  refine g_geti dX2_allFacts_2 fX2_40 La.1 rfl hF ?_
  refine b_ishl dX2_allFacts_5 ?_
  refine b_iconst (v := nI 1) dX2_allFacts_6 (by decide) ?_
  refine b_isub dX2_allFacts_7 ?_
  exact b_iret dX2_allFacts_8 ⟨rfl, rfl⟩
theorem c_sideOf {G : GT} {d : Nat} {σ : ST} {μ : SL} {a f w : Nat} (La : Lnd G a) (hf : f < 8) (hw : w < 32) : Fn G d mX2_sideOf [.ref (G.b0 + a), .int (nI f), .int (nI w)] (sh G σ μ) (Ret (some (.int (mSide (σ (a + 3)) f w))) (sh G σ μ)) := by
  refine fn_of (ls := [some (.ref (G.b0 + a)), some (.int (nI f)), some (.int (nI w))]) (by decide +kernel) (Nat.le_of_ble_eq_true rfl) 0 rfl ?_
  refine b_aload_n dX2_sideOf_0 rfl ?_
  refine g_get dX2_sideOf_1 fX2_18 La.1 rfl ?_
  refine b_iload_n dX2_sideOf_4 rfl ?_
  refine g_iald dX2_sideOf_5 La.2.2.2.1 rfl (by omega) ?_
  refine b_iload_n dX2_sideOf_6 rfl ?_
  refine b_ishr dX2_sideOf_7 ?_
  refine b_iconst (v := nI 1) dX2_sideOf_8 (by decide) ?_
  refine b_iand dX2_sideOf_9 ?_
  refine b_iconst (v := nI 1) dX2_sideOf_10 (by decide) ?_
  refine b_icmp_ne 23 dX2_sideOf_11 (by decide) (fun c1 => ?_) (fun c1 => ?_)
  · skip
    refine b_aload_n dX2_sideOf_23 rfl ?_
    refine g_get dX2_sideOf_24 fX2_18 La.1 rfl ?_
    refine b_iload_n dX2_sideOf_27 rfl ?_
    refine g_iald dX2_sideOf_28 La.2.2.2.1 rfl (by omega) ?_
    refine b_iconst (v := -1) dX2_sideOf_29 (by decide) ?_
    refine b_ixor dX2_sideOf_30 ?_
    have c2 : ¬ bt (σ (a + 3) f) w = true := fun z => c1 ((b_test hw).mpr z)
    exact b_iret dX2_sideOf_31 ⟨by simp [mSide, c2], rfl⟩
  · skip
    refine b_aload_n dX2_sideOf_14 rfl ?_
    refine g_get dX2_sideOf_15 fX2_18 La.1 rfl ?_
    refine b_iload_n dX2_sideOf_18 rfl ?_
    refine g_iald dX2_sideOf_19 La.2.2.2.1 rfl (by omega) ?_
    refine b_goto 31 dX2_sideOf_20 (by decide) ?_
    have c2 := (b_test hw).mp c1
    exact b_iret dX2_sideOf_31 ⟨by simp [mSide, c2], rfl⟩
theorem c_possible {G : GT} {d : Nat} {σ : ST} {μ : SL} {a W F P w : Nat} {told : Int32} (La : Lnd G a) (hL : LV σ a W F P) (hw : w < 32) : Fn G (d + 1) mX2_possible [.ref (G.b0 + a), .int told, .int (nI w)] (sh G σ μ) (Ret (some (.int (mPoss (σ (a + 3)) W told w F))) (sh G σ μ)) := by
  obtain ⟨hW, hF, hP, hW16, hF8, hP6⟩ := hL
  refine fn_of (ls := [some (.ref (G.b0 + a)), some (.int told), some (.int (nI w)), none, none]) (by decide +kernel) (Nat.le_of_ble_eq_true rfl) 2 rfl ?_
  refine b_aload_n dX2_possible_0 rfl ?_
  refine g_callV [] dX2_possible_1 kX2_allWorlds lX2_61 La.1 rfl rfl (c_allWorlds La hW) rfl rfl (Nat.le_of_ble_eq_true rfl) ?_
  refine b_istore_n dX2_possible_4 (by decide) rfl ?_
  refine b_iconst (v := nI 0) dX2_possible_5 (by decide) ?_
  refine b_istore dX2_possible_6 (by decide) rfl ?_
  have lp : ∀ (n i : Nat) (x : Int32), i + n = F → x = mPoss (σ (a + 3)) W told w i → BB G RX2 cX2_possible 5 (some .int) (d + 1) (QM G (Ret (some (.int (mPoss (σ (a + 3)) W told w F))) (sh G σ μ))) 8 [some (.ref (G.b0 + a)), some (.int told), some (.int (nI w)), some (.int x), some (.int (nI i))] [] (sh G σ μ) := by
    intro n
    induction n with
    | zero =>
      intro i x hi hx
      refine b_iload dX2_possible_8 rfl ?_
      refine b_aload_n dX2_possible_10 rfl ?_
      refine g_geti dX2_possible_11 fX2_40 La.1 rfl hF ?_
      refine b_icmp_ge_t 43 dX2_possible_14 (by decide) (nI_le (by omega) (by omega)) ?_
      refine b_iload_n dX2_possible_43 rfl ?_
      exact b_iret dX2_possible_44 ⟨by rw [hx, show i = F by omega], rfl⟩
    | succ n ih =>
      intro i x hi hx
      refine b_iload dX2_possible_8 rfl ?_
      refine b_aload_n dX2_possible_10 rfl ?_
      refine g_geti dX2_possible_11 fX2_40 La.1 rfl hF ?_
      refine b_icmp_ge_f 43 dX2_possible_14 (by decide) (nI_ge (by omega) (by omega)) ?_
      refine b_iload_n dX2_possible_17 rfl ?_
      refine b_iload dX2_possible_18 rfl ?_
      refine b_ishr dX2_possible_20 ?_
      refine b_iconst (v := nI 1) dX2_possible_21 (by decide) ?_
      refine b_iand dX2_possible_22 ?_
      refine b_iconst (v := nI 1) dX2_possible_23 (by decide) ?_
      refine b_icmp_ne 37 dX2_possible_24 (by decide) (fun c1 => ?_) (fun c1 => ?_)
      · skip
        refine b_iinc dX2_possible_37 rfl (nI_1 _) (by decide) rfl ?_
        refine b_goto 8 dX2_possible_40 (by decide) ?_
        have c2 : ¬ bt told i = true := fun z => c1 ((b_test (by omega)).mpr z)
        exact ih (i + 1) _ (by omega) (by simp [mPoss, c2, hx])
      · skip
        refine b_iload_n dX2_possible_27 rfl ?_
        refine b_aload_n dX2_possible_28 rfl ?_
        refine b_iload dX2_possible_29 rfl ?_
        refine b_iload_n dX2_possible_31 rfl ?_
        refine g_callV [.int (nI i), .int (nI w)] dX2_possible_32 kX2_sideOf lX2_65 La.1 rfl rfl (c_sideOf La (by omega) hw) rfl rfl (Nat.le_of_ble_eq_true rfl) ?_
        refine b_iand dX2_possible_35 ?_
        refine b_istore_n dX2_possible_36 (by decide) rfl ?_
        refine b_iinc dX2_possible_37 rfl (nI_1 _) (by decide) rfl ?_
        refine b_goto 8 dX2_possible_40 (by decide) ?_
        have c2 := (b_test (by omega)).mp c1
        exact ih (i + 1) _ (by omega) (by simp [mPoss, c2, hx])
  exact lp F 0 _ (by omega) rfl

