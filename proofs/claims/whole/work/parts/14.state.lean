/-! ===== State: asked, days ===== -/
def askS (σ : ST) (a b p f : Nat) : ST := pt σ (b + 1) p (σ (b + 1) p ||| σ (a + 4) f)
def mAskK (σ : ST) (a b W F t p f : Nat) : Bool := mKn (σ (a + 3) f) (mPoss (σ (a + 3)) W (σ (b + 1) p) t F)
theorem c_isAsked {G : GT} {d : Nat} {σ : ST} {μ : SL} {a b W F P t p f : Nat} (Sb : Sta G b) (La : Lnd G a) (hL : LV σ a W F P) (ht : σ b 2 = nI t) (ht32 : t < 32) (hp : p < 6) (hf : f < 8) : Fn G (d + 2) mX8_isAsked [.ref (G.b0 + b), .ref (G.b0 + a), .int (nI p), .int (nI f)] (sh G σ μ) (Ret (some (.int (bI (mAskK σ a b W F t p f)))) (sh G (askS σ a b p f) μ)) := by
  refine fn_of (ls := [some (.ref (G.b0 + b)), some (.ref (G.b0 + a)), some (.int (nI p)), some (.int (nI f)), none]) (by decide +kernel) (Nat.le_of_ble_eq_true rfl) 1 rfl ?_
  refine b_aload_n dX8_isAsked_0 rfl ?_
  refine b_iload_n dX8_isAsked_1 rfl ?_
  refine b_aload_n dX8_isAsked_2 rfl ?_
  refine b_aload_n dX8_isAsked_3 rfl ?_
  refine g_get dX8_isAsked_4 fX8_9 Sb.1 rfl ?_
  refine b_iload_n dX8_isAsked_7 rfl ?_
  refine g_iald dX8_isAsked_8 Sb.2.1 rfl (by omega) ?_
  refine b_aload_n dX8_isAsked_9 rfl ?_
  refine g_geti dX8_isAsked_10 fX8_24 Sb.1 rfl ht ?_
  refine g_callV [.int (σ (b + 1) p), .int (nI t)] dX8_isAsked_13 kX2_possible lX8_34 La.1 rfl rfl (c_possible La hL ht32) rfl rfl (Nat.le_of_ble_eq_true rfl) ?_
  refine g_callV [.int (nI f), .int (mPoss (σ (a + 3)) W (σ (b + 1) p) t F)] dX8_isAsked_16 kX2_isKnown lX8_40 La.1 rfl rfl (c_isKnown La hf) rfl rfl (Nat.le_of_ble_eq_true rfl) ?_
  refine b_istore dX8_isAsked_19 (by decide) rfl ?_
  refine b_aload_n dX8_isAsked_21 rfl ?_
  refine g_get dX8_isAsked_22 fX8_9 Sb.1 rfl ?_
  refine b_iload_n dX8_isAsked_25 rfl ?_
  refine b_dup2 dX8_isAsked_26 rfl rfl ?_
  refine g_iald dX8_isAsked_27 Sb.2.1 rfl (by omega) ?_
  refine b_aload_n dX8_isAsked_28 rfl ?_
  refine g_get dX8_isAsked_29 fX8_44 La.1 rfl ?_
  refine b_iload_n dX8_isAsked_32 rfl ?_
  refine g_iald dX8_isAsked_33 La.2.2.2.2.1 rfl (by omega) ?_
  refine b_ior dX8_isAsked_34 ?_
  refine g_iast dX8_isAsked_35 Sb.2.1 rfl (by omega) ?_
  refine b_iload dX8_isAsked_36 rfl ?_
  exact b_zret dX8_isAsked_38 (bI_n _) ⟨rfl, rfl⟩
/-- what one was told when the day is over, q neighbours looked at -/
def mDay1 (road told : Nat → Int32) (p : Nat) : Nat → Int32
  | 0 => told p
  | q + 1 => if bt (road p) q then mDay1 road told p q ||| told q else mDay1 road told p q
def dayS (σ : ST) (a b P p : Nat) : ST := fun c q => if c = b + 1 ∧ q < p then mDay1 (σ (a + 5)) (σ (b + 1)) q P else if c = b + 2 ∧ q < 6 then σ (b + 1) q else σ c q
def mDayB (road told : Nat → Int32) (P : Nat) : Nat → Bool
  | 0 => false
  | p + 1 => mDayB road told P p || !decide (mDay1 road told p P = told p)
theorem dayS_0 (σ : ST) (a b P : Nat) : cpy σ (b + 1) 0 (b + 2) 0 6 = dayS σ a b P 0 := by
  funext c q
  simp only [cpy_at, dayS]
  by_cases h : c = b + 2 ∧ q < 6
  · simp [h]
  · simp [h]
theorem dayS_fr {σ : ST} {a b P p c q : Nat} (h1 : c ≠ b + 1) (h2 : c ≠ b + 2) : dayS σ a b P p c q = σ c q := by simp [dayS, h1, h2]
theorem dayS_mo {σ : ST} {a b P p q : Nat} (h : q < 6) : dayS σ a b P p (b + 2) q = σ (b + 1) q := by simp [dayS, h]
theorem dayS_to {σ : ST} {a b P p q : Nat} (h : p ≤ q) : dayS σ a b P p (b + 1) q = σ (b + 1) q := by simp [dayS, Nat.not_lt.mpr h]
theorem pt_self (σ : ST) (a j : Nat) {x : Int32} (h : x = σ a j) : pt σ a j x = σ := by
  funext c q
  simp only [pt_at]
  split
  · rename_i h1; rw [h, h1.1, h1.2]
  · rfl
theorem pt_pt (σ : ST) (a j : Nat) (x y : Int32) : pt (pt σ a j x) a j y = pt σ a j y := by
  funext c q
  simp only [pt_at]
  split <;> simp_all
theorem dayS_s (σ : ST) (a b P p : Nat) : pt (dayS σ a b P p) (b + 1) p (mDay1 (σ (a + 5)) (σ (b + 1)) p P) = dayS σ a b P (p + 1) := by
  funext c q
  simp only [pt_at, dayS]
  by_cases h : c = b + 1
  · by_cases h2 : q = p
    · subst h2; simp [h]
    · have : (q < p + 1) = (q < p) := by simp; omega
      simp [h, h2, this]
  · simp [h]
theorem bI_or (a b : Bool) : bI a ||| bI b = bI (a || b) := by cases a <;> cases b <;> decide
section Sig
variable {G : GT} {own : String} {cc : ByteArray} {nL : Nat} {ret : Option FieldType} {d : Nat} {Q : QT} {pc : Nat} {ls : LT} {st : List Value} {σ σ' : ST} {μ : SL}
theorem b_sig (e : σ = σ') (k : BB G own cc nL ret d Q pc ls st (sh G σ' μ)) : BB G own cc nL ret d Q pc ls st (sh G σ μ) := by rw [e]; exact k
end Sig
theorem c_passDay {G : GT} {d : Nat} {σ : ST} {μ : SL} {a b W F P : Nat} (Sb : Sta G b) (La : Lnd G a) (hL : LV σ a W F P) (hab : a + 5 < b ∨ b + 2 < a) : Fn G (d + 1) mX8_passDay [.ref (G.b0 + b), .ref (G.b0 + a)] (sh G σ μ) (Ret (some (.int (bI (mDayB (σ (a + 5)) (σ (b + 1)) P P)))) (sh G (dayS σ a b P P) μ)) := by
  obtain ⟨hW, hF, hP, hW16, hF8, hP6⟩ := hL
  refine fn_of (ls := [some (.ref (G.b0 + b)), some (.ref (G.b0 + a)), none, none, none]) (by decide +kernel) (Nat.le_of_ble_eq_true rfl) 3 rfl ?_
  refine b_aload_n dX8_passDay_0 rfl ?_
  refine g_get dX8_passDay_1 fX8_9 Sb.1 rfl ?_
  refine b_iconst (v := nI 0) dX8_passDay_4 (by decide) ?_
  refine b_aload_n dX8_passDay_5 rfl ?_
  refine g_get dX8_passDay_6 fX8_15 Sb.1 rfl ?_
  refine b_iconst (v := nI 0) dX8_passDay_9 (by decide) ?_
  refine b_bipush (v := nI 6) dX8_passDay_10 (by decide) ?_
  refine g_copy dX8_passDay_12 lX8_28 Sb.2.1 Sb.2.2 rfl rfl rfl (by omega) (by omega) (Nat.le_of_ble_eq_true rfl) ?_
  refine b_sig (dayS_0 σ a b P) ?_
  refine b_iconst (v := nI 0) dX8_passDay_15 (by decide) ?_
  refine b_istore_n dX8_passDay_16 (by decide) rfl ?_
  refine b_iconst (v := nI 0) dX8_passDay_17 (by decide) ?_
  refine b_istore_n dX8_passDay_18 (by decide) rfl ?_
  have lp : ∀ (n i : Nat) (x : Int32) (z : Option Value), i + n = P → x = bI (mDayB (σ (a + 5)) (σ (b + 1)) P i) → BB G RX8 cX8_passDay 5 (some .boolean) (d + 1) (QM G (Ret (some (.int (bI (mDayB (σ (a + 5)) (σ (b + 1)) P P)))) (sh G (dayS σ a b P P) μ))) 19 [some (.ref (G.b0 + b)), some (.ref (G.b0 + a)), some (.int x), some (.int (nI i)), z] [] (sh G (dayS σ a b P i) μ) := by
    intro n
    induction n with
    | zero =>
      intro i x z hi hx
      refine b_iload_n dX8_passDay_19 rfl ?_
      refine b_aload_n dX8_passDay_20 rfl ?_
      refine g_geti dX8_passDay_21 fX8_47 La.1 rfl ((dayS_fr (by omega) (by omega)).trans hP) ?_
      refine b_icmp_ge_t 105 dX8_passDay_24 (by decide) (nI_le (by omega) (by omega)) ?_
      refine b_iload_n dX8_passDay_105 rfl ?_
      exact b_zret dX8_passDay_106 (by rw [hx]; exact bI_n _) ⟨by rw [hx, show i = P by omega], by rw [show i = P by omega]⟩
    | succ n ih =>
      intro i x z hi hx
      refine b_iload_n dX8_passDay_19 rfl ?_
      refine b_aload_n dX8_passDay_20 rfl ?_
      refine g_geti dX8_passDay_21 fX8_47 La.1 rfl ((dayS_fr (by omega) (by omega)).trans hP) ?_
      refine b_icmp_ge_f 105 dX8_passDay_24 (by decide) (nI_ge (by omega) (by omega)) ?_
      refine b_iconst (v := nI 0) dX8_passDay_27 (by decide) ?_
      refine b_istore dX8_passDay_28 (by decide) rfl ?_
      have lq : ∀ (k j : Nat), j + k = P → BB G RX8 cX8_passDay 5 (some .boolean) (d + 1) (QM G (Ret (some (.int (bI (mDayB (σ (a + 5)) (σ (b + 1)) P P)))) (sh G (dayS σ a b P P) μ))) 30 [some (.ref (G.b0 + b)), some (.ref (G.b0 + a)), some (.int x), some (.int (nI i)), some (.int (nI j))] [] (sh G (pt (dayS σ a b P i) (b + 1) i (mDay1 (σ (a + 5)) (σ (b + 1)) i j)) μ) := by
        intro k
        induction k with
        | zero =>
          intro j hj
          refine b_iload dX8_passDay_30 rfl ?_
          refine b_aload_n dX8_passDay_32 rfl ?_
          refine g_geti dX8_passDay_33 fX8_47 La.1 rfl ((pt_a (by omega)).trans ((dayS_fr (by omega) (by omega)).trans hP)) ?_
          refine b_icmp_ge_t 76 dX8_passDay_36 (by decide) (nI_le (by omega) (by omega)) ?_
          have ej : j = P := by omega
          subst ej
          refine b_sig (dayS_s σ a b j i) ?_
          refine b_iload_n dX8_passDay_76 rfl ?_
          refine b_aload_n dX8_passDay_77 rfl ?_
          refine g_get dX8_passDay_78 fX8_9 Sb.1 rfl ?_
          refine b_iload_n dX8_passDay_81 rfl ?_
          refine g_iald dX8_passDay_82 Sb.2.1 rfl (by omega) ?_
          refine b_aload_n dX8_passDay_83 rfl ?_
          refine g_get dX8_passDay_84 fX8_15 Sb.1 rfl ?_
          refine b_iload_n dX8_passDay_87 rfl ?_
          refine g_iald dX8_passDay_88 Sb.2.2 rfl (by omega) ?_
          have e1 : dayS σ a b j (i + 1) (b + 1) i = mDay1 (σ (a + 5)) (σ (b + 1)) i j := by simp [dayS]
          have e2 : dayS σ a b j (i + 1) (b + 2) i = σ (b + 1) i := dayS_mo (by omega)
          refine b_icmp_eq 96 dX8_passDay_89 (by decide) (fun c1 => ?_) (fun c1 => ?_)
          · skip
            refine b_iconst (v := nI 0) dX8_passDay_96 (by decide) ?_
            refine b_ior dX8_passDay_97 ?_
            refine b_istore_n dX8_passDay_98 (by decide) rfl ?_
            refine b_iinc dX8_passDay_99 rfl (nI_1 _) (by decide) rfl ?_
            refine b_goto 19 dX8_passDay_102 (by decide) ?_
            rw [e1, e2] at c1
            have e3 : (mDayB (σ (a + 5)) (σ (b + 1)) j i || false) = mDayB (σ (a + 5)) (σ (b + 1)) j (i + 1) := by simp [mDayB, c1]
            exact ih (i + 1) _ _ (by omega) (by rw [hx, ← e3, ← bI_or]; rfl)
          · skip
            refine b_iconst (v := nI 1) dX8_passDay_92 (by decide) ?_
            refine b_goto 97 dX8_passDay_93 (by decide) ?_
            refine b_ior dX8_passDay_97 ?_
            refine b_istore_n dX8_passDay_98 (by decide) rfl ?_
            refine b_iinc dX8_passDay_99 rfl (nI_1 _) (by decide) rfl ?_
            refine b_goto 19 dX8_passDay_102 (by decide) ?_
            rw [e1, e2] at c1
            have e3 : (mDayB (σ (a + 5)) (σ (b + 1)) j i || true) = mDayB (σ (a + 5)) (σ (b + 1)) j (i + 1) := by simp [mDayB, c1]
            exact ih (i + 1) _ _ (by omega) (by rw [hx, ← e3, ← bI_or]; rfl)
        | succ k ihk =>
          intro j hj
          refine b_iload dX8_passDay_30 rfl ?_
          refine b_aload_n dX8_passDay_32 rfl ?_
          refine g_geti dX8_passDay_33 fX8_47 La.1 rfl ((pt_a (by omega)).trans ((dayS_fr (by omega) (by omega)).trans hP)) ?_
          refine b_icmp_ge_f 76 dX8_passDay_36 (by decide) (nI_ge (by omega) (by omega)) ?_
          refine b_aload_n dX8_passDay_39 rfl ?_
          refine g_get dX8_passDay_40 fX8_50 La.1 rfl ?_
          refine b_iload_n dX8_passDay_43 rfl ?_
          refine g_iald dX8_passDay_44 La.2.2.2.2.2 rfl (by omega) ?_
          refine b_iload dX8_passDay_45 rfl ?_
          refine b_ishr dX8_passDay_47 ?_
          refine b_iconst (v := nI 1) dX8_passDay_48 (by decide) ?_
          refine b_iand dX8_passDay_49 ?_
          refine b_iconst (v := nI 1) dX8_passDay_50 (by decide) ?_
          have e0 : pt (dayS σ a b P i) (b + 1) i (mDay1 (σ (a + 5)) (σ (b + 1)) i j) (a + 5) i = σ (a + 5) i := (pt_a (by omega)).trans (dayS_fr (by omega) (by omega))
          refine b_icmp_ne 70 dX8_passDay_51 (by decide) (fun c1 => ?_) (fun c1 => ?_)
          · skip
            refine b_iinc dX8_passDay_70 rfl (nI_1 _) (by decide) rfl ?_
            refine b_goto 30 dX8_passDay_73 (by decide) ?_
            rw [e0] at c1
            have c2 : ¬ bt (σ (a + 5) i) j = true := fun z => c1 ((b_test (by omega)).mpr z)
            have e1 : mDay1 (σ (a + 5)) (σ (b + 1)) i j = mDay1 (σ (a + 5)) (σ (b + 1)) i (j + 1) := by simp [mDay1, c2]
            rw [e1]
            exact ihk (j + 1) (by omega)
          · skip
            refine b_aload_n dX8_passDay_54 rfl ?_
            refine g_get dX8_passDay_55 fX8_9 Sb.1 rfl ?_
            refine b_iload_n dX8_passDay_58 rfl ?_
            refine b_dup2 dX8_passDay_59 rfl rfl ?_
            refine g_iald dX8_passDay_60 Sb.2.1 rfl (by omega) ?_
            refine b_aload_n dX8_passDay_61 rfl ?_
            refine g_get dX8_passDay_62 fX8_15 Sb.1 rfl ?_
            refine b_iload dX8_passDay_65 rfl ?_
            refine g_iald dX8_passDay_67 Sb.2.2 rfl (by omega) ?_
            refine b_ior dX8_passDay_68 ?_
            refine g_iast dX8_passDay_69 Sb.2.1 rfl (by omega) ?_
            refine b_iinc dX8_passDay_70 rfl (nI_1 _) (by decide) rfl ?_
            refine b_goto 30 dX8_passDay_73 (by decide) ?_
            rw [e0] at c1
            have c2 := (b_test (by omega)).mp c1
            have e1 : mDay1 (σ (a + 5)) (σ (b + 1)) i (j + 1) = mDay1 (σ (a + 5)) (σ (b + 1)) i j ||| σ (b + 1) j := by simp [mDay1, c2]
            have e2 : pt (dayS σ a b P i) (b + 1) i (mDay1 (σ (a + 5)) (σ (b + 1)) i j) (b + 2) j = σ (b + 1) j := (pt_a (by omega)).trans (dayS_mo (by omega))
            refine b_sig (σ' := pt (dayS σ a b P i) (b + 1) i (mDay1 (σ (a + 5)) (σ (b + 1)) i (j + 1))) (by rw [pt_pt, pt_s, e2, e1]) ?_
            exact ihk (j + 1) (by omega)
      have h0 := lq P 0 (by omega)
      refine b_sig (σ' := pt (dayS σ a b P i) (b + 1) i (mDay1 (σ (a + 5)) (σ (b + 1)) i 0)) (pt_self _ _ _ (by rw [dayS_to (Nat.le_refl i)]; rfl)).symm ?_
      exact h0
  exact lp P 0 _ _ (by omega) rfl

