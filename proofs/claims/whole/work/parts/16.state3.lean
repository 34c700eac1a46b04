/-! ===== State: a year; Past; Row ===== -/
def yrS (a b W F P : Nat) (σ : ST) : ST :=
  if mDr (mX (σ b 3)) 4 = 0 then dayS (pt σ b 3 (mX (σ b 3))) a b P P
  else if mDr (mX (σ b 3)) 4 = 1 then pt (pt σ b 3 (mX (mX (σ b 3)))) b 2 (nI (mDr (mX (mX (σ b 3))) W))
  else if mDr (mX (σ b 3)) 4 = 2 then askS (pt σ b 3 (mX (mX (mX (σ b 3))))) a b (mDr (mX (mX (σ b 3))) P) (mDr (mX (mX (mX (σ b 3)))) F)
  else pt (pt σ b 3 (mX (mX (mX (σ b 3))))) (b + 1) (mDr (mX (mX (σ b 3))) P) (pt σ b 3 (mX (mX (mX (σ b 3)))) (b + 1) (mDr (mX (mX (σ b 3))) P) ||| (nI 1 <<< (nI (mDr (mX (mX (mX (σ b 3)))) F) &&& 31)))
def yearS (a b W F P : Nat) : Nat → ST → ST
  | 0, σ => σ
  | n + 1, σ => yearS a b W F P n (yrS a b W F P σ)
theorem yrS_fr {a b W F P : Nat} {σ : ST} {c q : Nat} (h0 : c ≠ b) (h1 : c ≠ b + 1) (h2 : c ≠ b + 2) : yrS a b W F P σ c q = σ c q := by
  unfold yrS askS
  split
  · exact (dayS_fr h1 h2).trans (pt_a h0)
  · split
    · exact (pt_a h0).trans (pt_a h0)
    · split
      · exact (pt_a h1).trans (pt_a h0)
      · exact (pt_a h1).trans (pt_a h0)
theorem mDr_lt {x : Int32} {n : Nat} (h : 0 < n) : mDr x n < n := Nat.mod_lt _ h
theorem yrS_t {a b W F P t : Nat} {σ : ST} (hW : 0 < W) (ht : σ b 2 = nI t) (htW : t < W) : ∃ t', t' < W ∧ yrS a b W F P σ b 2 = nI t' := by
  unfold yrS askS
  split
  · exact ⟨t, htW, by rw [dayS_fr (by omega) (by omega), pt_j (by omega)]; exact ht⟩
  · split
    · exact ⟨_, mDr_lt hW, pt_s _ _ _ _⟩
    · split
      · exact ⟨t, htW, by rw [pt_a (by omega), pt_j (by omega)]; exact ht⟩
      · exact ⟨t, htW, by rw [pt_a (by omega), pt_j (by omega)]; exact ht⟩
theorem pt2 (σ : ST) (b : Nat) (x : Int32) : pt (pt σ b 3 x) b 3 (mX (pt σ b 3 x b 3)) = pt σ b 3 (mX x) := by rw [pt_s, pt_pt]
theorem c_passYear {G : GT} {d : Nat} {σ : ST} {μ : SL} {a b W F P n t : Nat} {seed : Int32} (Sb : Sta G b) (La : Lnd G a) (hL : LV σ a W F P) (hab : a + 5 < b ∨ b + 2 < a) (hW0 : 0 < W) (hF0 : 0 < F) (hP0 : 0 < P) (ht : σ b 2 = nI t) (htW : t < W) (hn : n < 2 ^ 30) : Fn G (d + 3) mX8_passYear [.ref (G.b0 + b), .ref (G.b0 + a), .int seed, .int (nI n)] (sh G σ μ) (Ret none (sh G (yearS a b W F P n (pt σ b 3 seed)) μ)) := by
  refine fn_of (ls := [some (.ref (G.b0 + b)), some (.ref (G.b0 + a)), some (.int seed), some (.int (nI n)), none, none, none, none]) (by decide +kernel) (Nat.le_of_ble_eq_true rfl) 4 rfl ?_
  refine b_aload_n dX8_passYear_0 rfl ?_
  refine b_iload_n dX8_passYear_1 rfl ?_
  refine g_put dX8_passYear_2 wX8_79 Sb.1 tfX8_3 (Nat.le_of_ble_eq_true rfl) rfl ?_
  refine b_iconst (v := nI 0) dX8_passYear_5 (by decide) ?_
  refine b_istore dX8_passYear_6 (by decide) rfl ?_
  have lp : ∀ (k i : Nat) (s : ST) (z1 z2 z3 : Option Value), i + k = n → LV s a W F P → (∃ t, t < W ∧ s b 2 = nI t) → yearS a b W F P k s = yearS a b W F P n (pt σ b 3 seed) → okst [some (.ref (G.b0 + b)), some (.ref (G.b0 + a)), some (.int seed), some (.int (nI n)), some (.int (nI i)), z1, z2, z3] 6 = true → okst [some (.ref (G.b0 + b)), some (.ref (G.b0 + a)), some (.int seed), some (.int (nI n)), some (.int (nI i)), z1, z2, z3] 7 = true → BB G RX8 cX8_passYear 8 none (d + 3) (QM G (Ret none (sh G (yearS a b W F P n (pt σ b 3 seed)) μ))) 8 [some (.ref (G.b0 + b)), some (.ref (G.b0 + a)), some (.int seed), some (.int (nI n)), some (.int (nI i)), z1, z2, z3] [] (sh G s μ) := by
    intro k
    induction k with
    | zero =>
      intro i s z1 z2 z3 hi hs hst he o1 o2
      refine b_iload dX8_passYear_8 rfl ?_
      refine b_iload_n dX8_passYear_10 rfl ?_
      refine b_icmp_ge_t 115 dX8_passYear_11 (by decide) (nI_le (by omega) (by omega)) ?_
      exact b_vret dX8_passYear_115 ⟨rfl, by rw [← he]; rfl⟩
    | succ k ih =>
      intro i s z1 z2 z3 hi hs hst he o1 o2
      obtain ⟨t, htW, ht⟩ := hst
      have hs' := hs
      obtain ⟨hW, hF, hP, hW16, hF8, hP6⟩ := hs'
      have hnext : LV (yrS a b W F P s) a W F P := LV_of hs (fun q => yrS_fr (by omega) (by omega) (by omega))
      have htn := yrS_t (a := a) (F := F) (P := P) hW0 ht htW
      have hm4 := mDr_lt (x := mX (s b 3)) (n := 4) (by omega)
      refine b_iload dX8_passYear_8 rfl ?_
      refine b_iload_n dX8_passYear_10 rfl ?_
      refine b_icmp_ge_f 115 dX8_passYear_11 (by decide) (nI_ge (by omega) (by omega)) ?_
      refine b_aload_n dX8_passYear_14 rfl ?_
      refine b_iconst (v := nI 4) dX8_passYear_15 (by decide) ?_
      refine g_callV [.int (nI 4)] dX8_passYear_16 kX8_draw lX8_82 Sb.1 rfl rfl (c_draw Sb (by omega) (by omega)) rfl rfl (Nat.le_of_ble_eq_true rfl) ?_
      have hs1 : LV (pt s b 3 (mX (s b 3))) a W F P := LV_of hs (fun q => pt_a (by omega))
      refine b_istore dX8_passYear_19 (by decide) rfl ?_
      refine b_iload dX8_passYear_21 rfl ?_
      refine b_if_ne 35 dX8_passYear_23 (by decide) (fun c1 => ?_) (fun c1 => ?_)
      · skip
        refine b_iload dX8_passYear_35 rfl ?_
        refine b_iconst (v := nI 1) dX8_passYear_37 (by decide) ?_
        have d0 : ¬ mDr (mX (s b 3)) 4 = 0 := fun z => c1 (by rw [z]; rfl)
        refine b_icmp_ne 56 dX8_passYear_38 (by decide) (fun c2 => ?_) (fun c2 => ?_)
        · skip
          have d1 : ¬ mDr (mX (s b 3)) 4 = 1 := fun z => c2 (by rw [z])
          refine b_aload_n dX8_passYear_56 rfl ?_
          refine b_aload_n dX8_passYear_57 rfl ?_
          refine g_geti (x := nI P) dX8_passYear_58 fX8_47 La.1 rfl ((pt_a (by omega)).trans hP) ?_
          refine g_callV [.int (nI P)] dX8_passYear_61 kX8_draw lX8_82 Sb.1 rfl rfl (c_draw Sb hP0 (by omega)) rfl rfl (Nat.le_of_ble_eq_true rfl) ?_
          refine b_sig (pt2 s b _) ?_
          refine b_top (y := nI (mDr (mX (mX (s b 3))) P)) (by rw [pt_s]) ?_
          refine b_istore dX8_passYear_64 (by decide) rfl ?_
          refine b_aload_n dX8_passYear_66 rfl ?_
          refine b_aload_n dX8_passYear_67 rfl ?_
          refine g_geti (x := nI F) dX8_passYear_68 fX8_89 La.1 rfl ((pt_a (by omega)).trans hF) ?_
          refine g_callV [.int (nI F)] dX8_passYear_71 kX8_draw lX8_82 Sb.1 rfl rfl (c_draw Sb hF0 (by omega)) rfl rfl (Nat.le_of_ble_eq_true rfl) ?_
          refine b_sig (pt2 s b _) ?_
          refine b_top (y := nI (mDr (mX (mX (mX (s b 3)))) F)) (by rw [pt_s]) ?_
          have hp6 := mDr_lt (x := mX (mX (s b 3))) hP0
          have hf8 := mDr_lt (x := mX (mX (mX (s b 3)))) hF0
          refine b_istore dX8_passYear_74 (by decide) rfl ?_
          refine b_iload dX8_passYear_76 rfl ?_
          refine b_iconst (v := nI 2) dX8_passYear_78 (by decide) ?_
          refine b_icmp_ne 95 dX8_passYear_79 (by decide) (fun c3 => ?_) (fun c3 => ?_)
          · skip
            have d2 : ¬ mDr (mX (s b 3)) 4 = 2 := fun z => c3 (by rw [z])
            refine b_aload_n dX8_passYear_95 rfl ?_
            refine g_get dX8_passYear_96 fX8_9 Sb.1 rfl ?_
            refine b_iload dX8_passYear_99 rfl ?_
            refine b_dup2 dX8_passYear_101 rfl rfl ?_
            refine g_iald dX8_passYear_102 Sb.2.1 rfl (by omega) ?_
            refine b_iconst (v := nI 1) dX8_passYear_103 (by decide) ?_
            refine b_iload dX8_passYear_104 rfl ?_
            refine b_ishl dX8_passYear_106 ?_
            refine b_ior dX8_passYear_107 ?_
            refine g_iast dX8_passYear_108 Sb.2.1 rfl (by omega) ?_
            refine b_iinc dX8_passYear_109 rfl (nI_1 _) (by decide) rfl ?_
            refine b_goto 8 dX8_passYear_112 (by decide) ?_
            have e : yrS a b W F P s = pt (pt s b 3 (mX (mX (mX (s b 3))))) (b + 1) (mDr (mX (mX (s b 3))) P) (pt s b 3 (mX (mX (mX (s b 3)))) (b + 1) (mDr (mX (mX (s b 3))) P) ||| (nI 1 <<< (nI (mDr (mX (mX (mX (s b 3)))) F) &&& 31))) := by rw [yrS, if_neg d0, if_neg d1, if_neg d2]
            rw [e] at hnext htn
            rw [yearS, e] at he
            exact ih (i + 1) _ _ _ _ (by omega) hnext htn he rfl rfl
          · skip
            refine b_aload_n dX8_passYear_82 rfl ?_
            refine b_aload_n dX8_passYear_83 rfl ?_
            refine b_iload dX8_passYear_84 rfl ?_
            refine b_iload dX8_passYear_86 rfl ?_
            have d2 : mDr (mX (s b 3)) 4 = 2 := by rw [nI_eq (by omega) (by omega)] at c3; exact c3
            refine g_callV [.ref (G.b0 + a), .int (nI (mDr (mX (mX (s b 3))) P)), .int (nI (mDr (mX (mX (mX (s b 3)))) F))] dX8_passYear_88 kX8_isAsked lX8_74 Sb.1 rfl rfl (c_isAsked Sb La (LV_of hs (fun q => pt_a (by omega))) ((pt_j (by omega)).trans ht) (by omega) (by omega) (by omega)) rfl rfl (Nat.le_of_ble_eq_true rfl) ?_
            refine b_pop dX8_passYear_91 rfl ?_
            refine b_goto 109 dX8_passYear_92 (by decide) ?_
            refine b_iinc dX8_passYear_109 rfl (nI_1 _) (by decide) rfl ?_
            refine b_goto 8 dX8_passYear_112 (by decide) ?_
            have e : yrS a b W F P s = askS (pt s b 3 (mX (mX (mX (s b 3))))) a b (mDr (mX (mX (s b 3))) P) (mDr (mX (mX (mX (s b 3)))) F) := by rw [yrS, if_neg d0, if_neg d1, if_pos d2]
            rw [e] at hnext htn
            rw [yearS, e] at he
            exact ih (i + 1) _ _ _ _ (by omega) hnext htn he rfl rfl
        · skip
          have d1 : mDr (mX (s b 3)) 4 = 1 := by rw [nI_eq (by omega) (by omega)] at c2; exact c2
          refine b_aload_n dX8_passYear_41 rfl ?_
          refine b_aload_n dX8_passYear_42 rfl ?_
          refine b_aload_n dX8_passYear_43 rfl ?_
          refine g_geti (x := nI W) dX8_passYear_44 fX8_86 La.1 rfl ((pt_a (by omega)).trans hW) ?_
          refine g_callV [.int (nI W)] dX8_passYear_47 kX8_draw lX8_82 Sb.1 rfl rfl (c_draw Sb hW0 (by omega)) rfl rfl (Nat.le_of_ble_eq_true rfl) ?_
          refine b_sig (pt2 s b _) ?_
          refine b_top (y := nI (mDr (mX (mX (s b 3))) W)) (by rw [pt_s]) ?_
          refine g_put dX8_passYear_50 wX8_24 Sb.1 tfX8_2 (Nat.le_of_ble_eq_true rfl) rfl ?_
          refine b_goto 109 dX8_passYear_53 (by decide) ?_
          refine b_iinc dX8_passYear_109 rfl (nI_1 _) (by decide) rfl ?_
          refine b_goto 8 dX8_passYear_112 (by decide) ?_
          have e : yrS a b W F P s = pt (pt s b 3 (mX (mX (s b 3)))) b 2 (nI (mDr (mX (mX (s b 3))) W)) := by rw [yrS, if_neg d0, if_pos d1]
          rw [e] at hnext htn
          rw [yearS, e] at he
          exact ih (i + 1) _ _ _ _ (by omega) hnext htn he rfl o2
      · skip
        have d0 : mDr (mX (s b 3)) 4 = 0 := by
          rw [← nI_0, nI_eq (by omega) (by omega)] at c1; exact c1
        refine b_aload_n dX8_passYear_26 rfl ?_
        refine b_aload_n dX8_passYear_27 rfl ?_
        refine g_callV [.ref (G.b0 + a)] dX8_passYear_28 kX8_passDay lX8_53 Sb.1 rfl rfl (c_passDay Sb La hs1 hab) rfl rfl (Nat.le_of_ble_eq_true rfl) ?_
        refine b_pop dX8_passYear_31 rfl ?_
        refine b_goto 109 dX8_passYear_32 (by decide) ?_
        refine b_iinc dX8_passYear_109 rfl (nI_1 _) (by decide) rfl ?_
        refine b_goto 8 dX8_passYear_112 (by decide) ?_
        have e : yrS a b W F P s = dayS (pt s b 3 (mX (s b 3))) a b P P := by rw [yrS, if_pos d0]
        rw [e] at hnext htn
        rw [yearS, e] at he
        exact ih (i + 1) _ _ _ _ (by omega) hnext htn he rfl o2
  exact lp n 0 _ _ _ _ (by omega) (LV_of hL (fun q => pt_a (by omega))) ⟨t, htW, (pt_j (by omega)).trans ht⟩ rfl rfl rfl
/-! ===== Past ===== -/
theorem c_forget {G : GT} {d : Nat} {σ : ST} {μ : SL} : Fn G d mX4_forget [.ref (G.b0 + 32)] (sh G σ μ) (Ret none (sh G (pt σ 32 1 (nI 0)) μ)) := by
  refine fn_of (ls := [some (.ref (G.b0 + 32))]) (by decide +kernel) (Nat.le_of_ble_eq_true rfl) 0 rfl ?_
  refine b_aload_n dX4_forget_0 rfl ?_
  refine b_iconst (v := nI 0) dX4_forget_1 (by decide) ?_
  refine g_put dX4_forget_2 wX4_15 a32 tfX4_1 (Nat.le_of_ble_eq_true rfl) rfl ?_
  exact b_vret dX4_forget_5 ⟨rfl, rfl⟩
def keepS (sz : Nat) (σ : ST) : ST := fun c q =>
  if c = 32 ∧ q = 1 then nI (if sz < 12 then sz + 1 else 12)
  else if sz < 12 then (if c = 33 ∧ sz * 7 ≤ q ∧ q < sz * 7 + 6 then σ 27 (q - sz * 7) else if c = 33 ∧ q = sz * 7 + 6 then σ 26 2 else σ c q)
  else (if c = 33 ∧ q < 77 then σ 33 (q + 7) else if c = 33 ∧ 77 ≤ q ∧ q < 83 then σ 27 (q - 77) else if c = 33 ∧ q = 83 then σ 26 2 else σ c q)
theorem c_keep {G : GT} {d : Nat} {σ : ST} {μ : SL} {sz : Nat} (hz : σ 32 1 = nI sz) (hz12 : sz ≤ 12) : Fn G (d + 1) mX4_keep [.ref (G.b0 + 32), .ref (G.b0 + 26)] (sh G σ μ) (Ret none (sh G (keepS sz σ) μ)) := by
  refine fn_of (ls := [some (.ref (G.b0 + 32)), some (.ref (G.b0 + 26))]) (by decide +kernel) (Nat.le_of_ble_eq_true rfl) 0 rfl ?_
  refine b_aload_n dX4_keep_0 rfl ?_
  refine g_geti (x := nI sz) dX4_keep_1 fX4_15 a32 rfl hz ?_
  refine b_bipush (v := nI 12) dX4_keep_4 (by decide) ?_
  refine b_icmp_lt 31 dX4_keep_6 (by decide) (fun c1 => ?_) (fun c1 => ?_)
  · skip
    rw [nI_ltI (by omega) (by omega)] at c1
    refine b_aload_n dX4_keep_31 rfl ?_
    refine g_get dX4_keep_32 fX4_25 a26 rfl ?_
    refine b_iconst (v := nI 0) dX4_keep_35 (by decide) ?_
    refine b_aload_n dX4_keep_36 rfl ?_
    refine g_get dX4_keep_37 fX4_11 a32 rfl ?_
    refine b_aload_n dX4_keep_40 rfl ?_
    refine g_geti (x := nI sz) dX4_keep_41 fX4_15 a32 rfl hz ?_
    refine b_bipush (v := nI 7) dX4_keep_44 (by decide) ?_
    refine b_imulN dX4_keep_46 ?_
    refine b_bipush (v := nI 6) dX4_keep_47 (by decide) ?_
    refine g_copy dX4_keep_49 lX4_19 a27 a33 rfl rfl rfl (by omega) (by omega) (Nat.le_of_ble_eq_true rfl) ?_
    refine b_aload_n dX4_keep_52 rfl ?_
    refine g_get dX4_keep_53 fX4_11 a32 rfl ?_
    refine b_aload_n dX4_keep_56 rfl ?_
    refine g_geti (x := nI sz) dX4_keep_57 fX4_15 a32 rfl (by simp [pt_at, cpy_at, hz]) ?_
    refine b_bipush (v := nI 7) dX4_keep_60 (by decide) ?_
    refine b_imulN dX4_keep_62 ?_
    refine b_bipush (v := nI 6) dX4_keep_63 (by decide) ?_
    refine b_iaddN dX4_keep_65 ?_
    refine b_aload_n dX4_keep_66 rfl ?_
    refine g_get dX4_keep_67 fX4_30 a26 rfl ?_
    refine g_iast dX4_keep_70 a33 rfl (by omega) ?_
    refine b_aload_n dX4_keep_71 rfl ?_
    refine b_dup dX4_keep_72 rfl ?_
    refine g_geti (x := nI sz) dX4_keep_73 fX4_15 a32 rfl (by simp [pt_at, cpy_at, hz]) ?_
    refine b_iconst (v := nI 1) dX4_keep_76 (by decide) ?_
    refine b_iaddN dX4_keep_77 ?_
    refine g_put dX4_keep_78 wX4_15 a32 tfX4_1 (Nat.le_of_ble_eq_true rfl) rfl ?_
    exact b_vret dX4_keep_81 ⟨rfl, congrArg (fun z => sh G z μ) (by funext c q; simp only [pt_at, cpy_at, keepS]; grind (splits := 60))⟩
  · skip
    rw [nI_ltI (by omega) (by omega)] at c1
    refine b_aload_n dX4_keep_9 rfl ?_
    refine g_get dX4_keep_10 fX4_11 a32 rfl ?_
    refine b_bipush (v := nI 7) dX4_keep_13 (by decide) ?_
    refine b_aload_n dX4_keep_15 rfl ?_
    refine g_get dX4_keep_16 fX4_11 a32 rfl ?_
    refine b_iconst (v := nI 0) dX4_keep_19 (by decide) ?_
    refine b_bipush (v := nI 77) dX4_keep_20 (by decide) ?_
    refine g_copy dX4_keep_22 lX4_19 a33 a33 rfl rfl rfl (by omega) (by omega) (Nat.le_of_ble_eq_true rfl) ?_
    refine b_aload_n dX4_keep_25 rfl ?_
    refine b_bipush (v := nI 11) dX4_keep_26 (by decide) ?_
    refine g_put dX4_keep_28 wX4_15 a32 tfX4_1 (Nat.le_of_ble_eq_true rfl) rfl ?_
    refine b_aload_n dX4_keep_31 rfl ?_
    refine g_get dX4_keep_32 fX4_25 a26 rfl ?_
    refine b_iconst (v := nI 0) dX4_keep_35 (by decide) ?_
    refine b_aload_n dX4_keep_36 rfl ?_
    refine g_get dX4_keep_37 fX4_11 a32 rfl ?_
    refine b_aload_n dX4_keep_40 rfl ?_
    refine g_geti (x := nI 11) dX4_keep_41 fX4_15 a32 rfl (by simp [pt_at, cpy_at]) ?_
    refine b_bipush (v := nI 7) dX4_keep_44 (by decide) ?_
    refine b_imulN dX4_keep_46 ?_
    refine b_bipush (v := nI 6) dX4_keep_47 (by decide) ?_
    refine g_copy dX4_keep_49 lX4_19 a27 a33 rfl rfl rfl (by omega) (by omega) (Nat.le_of_ble_eq_true rfl) ?_
    refine b_aload_n dX4_keep_52 rfl ?_
    refine g_get dX4_keep_53 fX4_11 a32 rfl ?_
    refine b_aload_n dX4_keep_56 rfl ?_
    refine g_geti (x := nI 11) dX4_keep_57 fX4_15 a32 rfl (by simp [pt_at, cpy_at]) ?_
    refine b_bipush (v := nI 7) dX4_keep_60 (by decide) ?_
    refine b_imulN dX4_keep_62 ?_
    refine b_bipush (v := nI 6) dX4_keep_63 (by decide) ?_
    refine b_iaddN dX4_keep_65 ?_
    refine b_aload_n dX4_keep_66 rfl ?_
    refine g_get dX4_keep_67 fX4_30 a26 rfl ?_
    refine g_iast dX4_keep_70 a33 rfl (by omega) ?_
    refine b_aload_n dX4_keep_71 rfl ?_
    refine b_dup dX4_keep_72 rfl ?_
    refine g_geti (x := nI 11) dX4_keep_73 fX4_15 a32 rfl (by simp [pt_at, cpy_at]) ?_
    refine b_iconst (v := nI 1) dX4_keep_76 (by decide) ?_
    refine b_iaddN dX4_keep_77 ?_
    refine g_put dX4_keep_78 wX4_15 a32 tfX4_1 (Nat.le_of_ble_eq_true rfl) rfl ?_
    exact b_vret dX4_keep_81 ⟨rfl, congrArg (fun z => sh G z μ) (by funext c q; simp only [pt_at, cpy_at, keepS]; grind (splits := 60))⟩
def gobS (sz : Nat) (σ : ST) : ST := fun c q => if c = 32 ∧ q = 1 then nI sz else if c = 27 ∧ q < 6 then σ 33 (sz * 7 + q) else if c = 26 ∧ q = 2 then σ 33 (sz * 7 + 6) else σ c q
theorem c_goBack {G : GT} {d : Nat} {σ : ST} {μ : SL} {sz n : Nat} (hz : σ 32 1 = nI sz) (hz12 : sz ≤ 12) (h1 : 1 ≤ n) (hn : n ≤ sz) : Fn G (d + 1) mX4_goBack [.ref (G.b0 + 32), .ref (G.b0 + 26), .int (nI n)] (sh G σ μ) (Ret none (sh G (gobS (sz - n) σ) μ)) := by
  refine fn_of (ls := [some (.ref (G.b0 + 32)), some (.ref (G.b0 + 26)), some (.int (nI n))]) (by decide +kernel) (Nat.le_of_ble_eq_true rfl) 0 rfl ?_
  refine b_iload_n dX4_goBack_0 rfl ?_
  refine b_iconst (v := nI 1) dX4_goBack_1 (by decide) ?_
  refine b_icmp_lt_f 13 dX4_goBack_2 (by decide) (nI_nlt h1 (by omega)) ?_
  refine b_iload_n dX4_goBack_5 rfl ?_
  refine b_aload_n dX4_goBack_6 rfl ?_
  refine g_geti (x := nI sz) dX4_goBack_7 fX4_15 a32 rfl hz ?_
  refine b_icmp_le_t 14 dX4_goBack_10 (by decide) (nI_le hn (by omega)) ?_
  refine b_aload_n dX4_goBack_14 rfl ?_
  refine b_dup dX4_goBack_15 rfl ?_
  refine g_geti (x := nI sz) dX4_goBack_16 fX4_15 a32 rfl hz ?_
  refine b_iload_n dX4_goBack_19 rfl ?_
  refine b_isub dX4_goBack_20 ?_
  refine b_top (nI_sub hn) ?_
  refine g_put dX4_goBack_21 wX4_15 a32 tfX4_1 (Nat.le_of_ble_eq_true rfl) rfl ?_
  refine b_aload_n dX4_goBack_24 rfl ?_
  refine g_get dX4_goBack_25 fX4_11 a32 rfl ?_
  refine b_aload_n dX4_goBack_28 rfl ?_
  refine g_geti (x := nI (sz - n)) dX4_goBack_29 fX4_15 a32 rfl (by simp [pt_at, cpy_at]) ?_
  refine b_bipush (v := nI 7) dX4_goBack_32 (by decide) ?_
  refine b_imulN dX4_goBack_34 ?_
  refine b_aload_n dX4_goBack_35 rfl ?_
  refine g_get dX4_goBack_36 fX4_25 a26 rfl ?_
  refine b_iconst (v := nI 0) dX4_goBack_39 (by decide) ?_
  refine b_bipush (v := nI 6) dX4_goBack_40 (by decide) ?_
  refine g_copy dX4_goBack_42 lX4_19 a33 a27 rfl rfl rfl (by omega) (by omega) (Nat.le_of_ble_eq_true rfl) ?_
  refine b_aload_n dX4_goBack_45 rfl ?_
  refine b_aload_n dX4_goBack_46 rfl ?_
  refine g_get dX4_goBack_47 fX4_11 a32 rfl ?_
  refine b_aload_n dX4_goBack_50 rfl ?_
  refine g_geti (x := nI (sz - n)) dX4_goBack_51 fX4_15 a32 rfl (by simp [pt_at, cpy_at]) ?_
  refine b_bipush (v := nI 7) dX4_goBack_54 (by decide) ?_
  refine b_imulN dX4_goBack_56 ?_
  refine b_bipush (v := nI 6) dX4_goBack_57 (by decide) ?_
  refine b_iaddN dX4_goBack_59 ?_
  refine g_iald dX4_goBack_60 a33 rfl (by omega) ?_
  refine g_put dX4_goBack_61 wX4_30 a26 tfX8_2 (Nat.le_of_ble_eq_true rfl) rfl ?_
  exact b_vret dX4_goBack_64 ⟨rfl, congrArg (fun z => sh G z μ) (by funext c q; simp only [pt_at, cpy_at, gobS]; grind (splits := 60))⟩
/-! ===== Row ===== -/
def mMiss (x : Int32) : Bool := decide (x < 0)
theorem c_isMissing {G : GT} {d : Nat} {σ : ST} {μ : SL} {r : Nat} (Rr : Rwo G r) : Fn G d mX6_isMissing [.ref (G.b0 + r)] (sh G σ μ) (Ret (some (.int (bI (mMiss (σ r 1))))) (sh G σ μ)) := by
  refine fn_of (ls := [some (.ref (G.b0 + r))]) (by decide +kernel) (Nat.le_of_ble_eq_true rfl) 0 rfl ?_
  refine b_aload_n dX6_isMissing_0 rfl ?_
  refine g_get dX6_isMissing_1 fX6_15 Rr.1 rfl ?_
  refine b_if_ge 11 dX6_isMissing_4 (by decide) (fun c1 => ?_) (fun c1 => ?_)
  · skip
    refine b_iconst (v := nI 0) dX6_isMissing_11 (by decide) ?_
    exact b_zret dX6_isMissing_12 rfl ⟨by rw [mMiss, decide_eq_false (Int32.not_lt.mpr c1)]; rfl, rfl⟩
  · skip
    refine b_iconst (v := nI 1) dX6_isMissing_7 (by decide) ?_
    refine b_goto 12 dX6_isMissing_8 (by decide) ?_
    exact b_zret dX6_isMissing_12 rfl ⟨by rw [mMiss, decide_eq_true (Int32.not_le.mp c1)]; rfl, rfl⟩
theorem c_renew {G : GT} {d : Nat} {σ : ST} {μ : SL} {r : Nat} {sort n : Int32} (Rr : Rwo G r) : Fn G (d + 1) mX6_renew [.ref (G.b0 + r), .int sort, .int n] (sh G σ μ) (Ret none (sh G (pt (pt σ r 2 sort) r 1 n) (flL μ (r + 1) 40 0))) := by
  refine fn_of (ls := [some (.ref (G.b0 + r)), some (.int sort), some (.int n)]) (by decide +kernel) (Nat.le_of_ble_eq_true rfl) 0 rfl ?_
  refine b_aload_n dX6_renew_0 rfl ?_
  refine g_get dX6_renew_1 fX6_9 Rr.1 rfl ?_
  refine b_lconst (v := 0) dX6_renew_4 (by decide) ?_
  refine b_callSr [.ref (G.b0 + (r + 1)), .long 0] dX6_renew_5 kJ7_fill_d0a16 lX6_19 (c_fillL Rr.2) rfl rfl (Nat.le_of_ble_eq_true rfl) ?_
  refine b_aload_n dX6_renew_8 rfl ?_
  refine b_iload_n dX6_renew_9 rfl ?_
  refine g_put dX6_renew_10 wX6_25 Rr.1 tfX6_2 (Nat.le_of_ble_eq_true rfl) rfl ?_
  refine b_aload_n dX6_renew_13 rfl ?_
  refine b_iload_n dX6_renew_14 rfl ?_
  refine g_put dX6_renew_15 wX6_15 Rr.1 tfX6_1 (Nat.le_of_ble_eq_true rfl) rfl ?_
  exact b_vret dX6_renew_18 ⟨rfl, rfl⟩
/-- a number cut to a sort -/
def mCut (sort : Nat) (v : Int64) : Int64 := if sort = 0 then v.toInt32.toInt8.toInt32.toInt64 else if sort = 1 then v.toInt32.toInt16.toInt32.toInt64 else if sort = 2 then v.toInt32.toInt64 else v
theorem c_put {G : GT} {d : Nat} {σ : ST} {μ : SL} {r i len sort : Nat} {v : Int64} (Rr : Rwo G r) (hlen : σ r 1 = nI len) (hsort : σ r 2 = nI sort) (hi : i < len) (hl40 : len ≤ 40) (hs4 : sort < 4) : Fn G d mX6_put [.ref (G.b0 + r), .int (nI i), .long v] (sh G σ μ) (Ret none (sh G σ (ptL μ (r + 1) i (mCut sort v)))) := by
  refine fn_of (ls := [some (.ref (G.b0 + r)), some (.int (nI i)), some (.long v), none]) (by decide +kernel) (Nat.le_of_ble_eq_true rfl) 0 rfl ?_
  refine b_iload_n dX6_put_0 rfl ?_
  refine b_if_lt_f 12 dX6_put_1 (by decide) (nI_pos (by omega)) ?_
  refine b_iload_n dX6_put_4 rfl ?_
  refine b_aload_n dX6_put_5 rfl ?_
  refine g_geti (x := nI len) dX6_put_6 fX6_15 Rr.1 rfl hlen ?_
  refine b_icmp_lt_t 13 dX6_put_9 (by decide) (nI_lt hi (by omega)) ?_
  refine b_aload_n dX6_put_13 rfl ?_
  refine g_geti (x := nI sort) dX6_put_14 fX6_25 Rr.1 rfl hsort ?_
  have hmi : (nI sort).toInt = (sort : Int) := nI_toInt (by omega)
  rcases (show sort = 0 ∨ sort = 1 ∨ sort = 2 ∨ sort = 3 by omega) with rfl | rfl | rfl | rfl
  · refine b_tableIn 44 dX6_put_17 (by rw [hmi]; decide) (by rw [hmi]; decide) (by rw [hmi]; rfl) (by decide) ?_
    refine b_aload_n dX6_put_44 rfl ?_
    refine g_get dX6_put_45 fX6_9 Rr.1 rfl ?_
    refine b_iload_n dX6_put_48 rfl ?_
    refine b_lload_n dX6_put_49 rfl ?_
    refine b_l2i dX6_put_50 ?_
    refine b_i2b dX6_put_51 ?_
    refine b_i2l dX6_put_52 ?_
    refine g_last dX6_put_53 Rr.2 rfl (by omega) ?_
    refine b_goto 89 dX6_put_54 (by decide) ?_
    exact b_vret dX6_put_89 ⟨rfl, by simp [mCut]⟩
  · refine b_tableIn 57 dX6_put_17 (by rw [hmi]; decide) (by rw [hmi]; decide) (by rw [hmi]; rfl) (by decide) ?_
    refine b_aload_n dX6_put_57 rfl ?_
    refine g_get dX6_put_58 fX6_9 Rr.1 rfl ?_
    refine b_iload_n dX6_put_61 rfl ?_
    refine b_lload_n dX6_put_62 rfl ?_
    refine b_l2i dX6_put_63 ?_
    refine b_i2s dX6_put_64 ?_
    refine b_i2l dX6_put_65 ?_
    refine g_last dX6_put_66 Rr.2 rfl (by omega) ?_
    refine b_goto 89 dX6_put_67 (by decide) ?_
    exact b_vret dX6_put_89 ⟨rfl, by simp [mCut]⟩
  · refine b_tableIn 70 dX6_put_17 (by rw [hmi]; decide) (by rw [hmi]; decide) (by rw [hmi]; rfl) (by decide) ?_
    refine b_aload_n dX6_put_70 rfl ?_
    refine g_get dX6_put_71 fX6_9 Rr.1 rfl ?_
    refine b_iload_n dX6_put_74 rfl ?_
    refine b_lload_n dX6_put_75 rfl ?_
    refine b_l2i dX6_put_76 ?_
    refine b_i2l dX6_put_77 ?_
    refine g_last dX6_put_78 Rr.2 rfl (by omega) ?_
    refine b_goto 89 dX6_put_79 (by decide) ?_
    exact b_vret dX6_put_89 ⟨rfl, by simp [mCut]⟩
  · refine b_tableOut 82 dX6_put_17 (by rw [hmi]; decide) (by decide) ?_
    refine b_aload_n dX6_put_82 rfl ?_
    refine g_get dX6_put_83 fX6_9 Rr.1 rfl ?_
    refine b_iload_n dX6_put_86 rfl ?_
    refine b_lload_n dX6_put_87 rfl ?_
    refine g_last dX6_put_88 Rr.2 rfl (by omega) ?_
    exact b_vret dX6_put_89 ⟨rfl, by simp [mCut]⟩

