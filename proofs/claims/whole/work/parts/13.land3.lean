/-! ===== Land: deedsAhead, clear, become ===== -/
/-- the first place from i on (n looked at) that is no deed -/
def mAbleF (F P : Nat) (v : Nat → Int64) : Nat → Nat → Nat
  | 0, i => i
  | n + 1, i => if mDeed F P (v i) then mAbleF F P v n (i + 1) else i
def mAble (F P : Nat) (v : Nat → Int64) (len : Nat) : Nat := mAbleF F P v len 0
theorem c_deedsAhead {G : GT} {d : Nat} {σ : ST} {μ : SL} {a r W F P len : Nat} (La : Lnd G a) (Rr : Rwo G r) (hL : LV σ a W F P) (hlen : σ r 1 = nI len) (hl40 : len ≤ 40) : Fn G (d + 1) mX2_deedsAhead [.ref (G.b0 + a), .ref (G.b0 + r)] (sh G σ μ) (Ret (some (.int (nI (mAble F P (μ (r + 1)) len)))) (sh G σ μ)) := by
  refine fn_of (ls := [some (.ref (G.b0 + a)), some (.ref (G.b0 + r)), none]) (by decide +kernel) (Nat.le_of_ble_eq_true rfl) 1 rfl ?_
  refine b_iconst (v := nI 0) dX2_deedsAhead_0 (by decide) ?_
  refine b_istore_n dX2_deedsAhead_1 (by decide) rfl ?_
  have lp : ∀ (n i : Nat), i + n = len → mAbleF F P (μ (r + 1)) n i = mAble F P (μ (r + 1)) len → BB G RX2 cX2_deedsAhead 3 (some .int) (d + 1) (QM G (Ret (some (.int (nI (mAble F P (μ (r + 1)) len)))) (sh G σ μ))) 2 [some (.ref (G.b0 + a)), some (.ref (G.b0 + r)), some (.int (nI i))] [] (sh G σ μ) := by
    intro n
    induction n with
    | zero =>
      intro i hi hx
      refine b_iload_n dX2_deedsAhead_2 rfl ?_
      refine b_aload_n dX2_deedsAhead_3 rfl ?_
      refine g_geti dX2_deedsAhead_4 fX2_98 Rr.1 rfl hlen ?_
      refine b_icmp_ge_t 29 dX2_deedsAhead_7 (by decide) (nI_le (by omega) (by omega)) ?_
      refine b_iload_n dX2_deedsAhead_29 rfl ?_
      exact b_iret dX2_deedsAhead_30 ⟨by rw [← hx]; rfl, rfl⟩
    | succ n ih =>
      intro i hi hx
      refine b_iload_n dX2_deedsAhead_2 rfl ?_
      refine b_aload_n dX2_deedsAhead_3 rfl ?_
      refine g_geti dX2_deedsAhead_4 fX2_98 Rr.1 rfl hlen ?_
      refine b_icmp_ge_f 29 dX2_deedsAhead_7 (by decide) (nI_ge (by omega) (by omega)) ?_
      refine b_aload_n dX2_deedsAhead_10 rfl ?_
      refine b_aload_n dX2_deedsAhead_11 rfl ?_
      refine g_get dX2_deedsAhead_12 fX2_103 Rr.1 rfl ?_
      refine b_iload_n dX2_deedsAhead_15 rfl ?_
      refine g_lald dX2_deedsAhead_16 Rr.2 rfl (by omega) ?_
      refine g_callV [.long (μ (r + 1) i)] dX2_deedsAhead_17 kX2_isDeed lX2_106 La.1 rfl rfl (c_isDeed La hL) rfl rfl (Nat.le_of_ble_eq_true rfl) ?_
      refine b_if_eq 29 dX2_deedsAhead_20 (by decide) (fun c1 => ?_) (fun c1 => ?_)
      · skip
        refine b_iload_n dX2_deedsAhead_29 rfl ?_
        exact b_iret dX2_deedsAhead_30 ⟨by rw [← hx, mAbleF, (bI_0 _).mp c1]; rfl, rfl⟩
      · skip
        refine b_iinc dX2_deedsAhead_23 rfl (nI_1 _) (by decide) rfl ?_
        refine b_goto 2 dX2_deedsAhead_26 (by decide) ?_
        exact ih (i + 1) (by omega) (by rw [← hx, mAbleF, (bI_1 _).mp c1]; rfl)
  exact lp len 0 (by omega) rfl
/-! states with several places changed -/
theorem cpy_at (σ : ST) (a0 sp a dp n c q : Nat) : cpy σ a0 sp a dp n c q = if c = a ∧ dp ≤ q ∧ q < dp + n then σ a0 (sp + (q - dp)) else σ c q := by
  unfold cpy va_up va_cpy
  by_cases hc : c = a
  · subst hc; simp
  · simp [hc]
theorem pt_at (σ : ST) (a j c q : Nat) (x : Int32) : pt σ a j x c q = if c = a ∧ q = j then x else σ c q := rfl
theorem flS_at (σ : ST) (a n c q : Nat) (x : Int32) : flS σ a n x c q = if c = a ∧ q < n then x else σ c q := rfl
def clrL (σ : ST) (a : Nat) : ST := fun c q =>
  if (c = a ∧ 5 ≤ q ∧ q ≤ 9) ∨ (c = a + 4 ∧ q < 8) ∨ (c = a + 5 ∧ q < 6) then nI 0 else σ c q
theorem c_Lclear {G : GT} {d : Nat} {σ : ST} {μ : SL} {a : Nat} (La : Lnd G a) : Fn G (d + 1) mX2_clear [.ref (G.b0 + a)] (sh G σ μ) (Ret none (sh G (clrL σ a) μ)) := by
  refine fn_of (ls := [some (.ref (G.b0 + a))]) (by decide +kernel) (Nat.le_of_ble_eq_true rfl) 0 rfl ?_
  refine b_aload_n dX2_clear_0 rfl ?_
  refine g_get dX2_clear_1 fX2_21 La.1 rfl ?_
  refine b_iconst (v := nI 0) dX2_clear_4 (by decide) ?_
  refine b_callSr [.ref (G.b0 + (a + 4)), .int (nI 0)] dX2_clear_5 kJ7_fill_53178 lX2_27 (c_fill La.2.2.2.2.1) rfl rfl (Nat.le_of_ble_eq_true rfl) ?_
  refine b_aload_n dX2_clear_8 rfl ?_
  refine g_get dX2_clear_9 fX2_24 La.1 rfl ?_
  refine b_iconst (v := nI 0) dX2_clear_12 (by decide) ?_
  refine b_callSr [.ref (G.b0 + (a + 5)), .int (nI 0)] dX2_clear_13 kJ7_fill_53178 lX2_27 (c_fill La.2.2.2.2.2) rfl rfl (Nat.le_of_ble_eq_true rfl) ?_
  refine b_aload_n dX2_clear_16 rfl ?_
  refine b_iconst (v := nI 0) dX2_clear_17 (by decide) ?_
  refine g_put dX2_clear_18 wX2_33 La.1 tfX2_5 (Nat.le_of_ble_eq_true rfl) rfl ?_
  refine b_aload_n dX2_clear_21 rfl ?_
  refine b_iconst (v := nI 0) dX2_clear_22 (by decide) ?_
  refine g_put dX2_clear_23 wX2_37 La.1 tfX2_6 (Nat.le_of_ble_eq_true rfl) rfl ?_
  refine b_aload_n dX2_clear_26 rfl ?_
  refine b_iconst (v := nI 0) dX2_clear_27 (by decide) ?_
  refine g_put dX2_clear_28 wX2_40 La.1 tfX2_7 (Nat.le_of_ble_eq_true rfl) rfl ?_
  refine b_aload_n dX2_clear_31 rfl ?_
  refine b_iconst (v := nI 0) dX2_clear_32 (by decide) ?_
  refine g_put dX2_clear_33 wX2_43 La.1 tfX2_8 (Nat.le_of_ble_eq_true rfl) rfl ?_
  refine b_aload_n dX2_clear_36 rfl ?_
  refine b_iconst (v := nI 0) dX2_clear_37 (by decide) ?_
  refine g_put dX2_clear_38 wX2_46 La.1 tfX2_9 (Nat.le_of_ble_eq_true rfl) rfl ?_
  exact b_vret dX2_clear_41 ⟨rfl, congrArg (fun z => sh G z μ) (by funext c q; simp only [pt_at, flS_at, clrL]; grind (splits := 60))⟩
def bcmL (σ : ST) (o a : Nat) : ST := fun c q =>
  if c = a ∧ 5 ≤ q ∧ q ≤ 9 then σ o q
  else if c = a + 1 ∧ q < 48 then σ (o + 1) q else if c = a + 2 ∧ q < 16 then σ (o + 2) q else if c = a + 3 ∧ q < 8 then σ (o + 3) q
  else if c = a + 4 ∧ q < 8 then σ (o + 4) q else if c = a + 5 ∧ q < 6 then σ (o + 5) q else σ c q
theorem c_Lbecome {G : GT} {d : Nat} {σ : ST} {μ : SL} {a o : Nat} (La : Lnd G a) (Lo : Lnd G o) (hao : a + 5 < o ∨ o + 5 < a) : Fn G (d + 1) mX2_become [.ref (G.b0 + a), .ref (G.b0 + o)] (sh G σ μ) (Ret none (sh G (bcmL σ o a) μ)) := by
  refine fn_of (ls := [some (.ref (G.b0 + a)), some (.ref (G.b0 + o))]) (by decide +kernel) (Nat.le_of_ble_eq_true rfl) 0 rfl ?_
  refine b_aload_n dX2_become_0 rfl ?_
  refine g_get dX2_become_1 fX2_9 Lo.1 rfl ?_
  refine b_iconst (v := nI 0) dX2_become_4 (by decide) ?_
  refine b_aload_n dX2_become_5 rfl ?_
  refine g_get dX2_become_6 fX2_9 La.1 rfl ?_
  refine b_iconst (v := nI 0) dX2_become_9 (by decide) ?_
  refine b_bipush (v := nI 48) dX2_become_10 (by decide) ?_
  refine g_copy dX2_become_12 lX2_49 Lo.2.1 La.2.1 rfl rfl rfl (by omega) (by omega) (Nat.le_of_ble_eq_true rfl) ?_
  refine b_aload_n dX2_become_15 rfl ?_
  refine g_get dX2_become_16 fX2_15 Lo.1 rfl ?_
  refine b_iconst (v := nI 0) dX2_become_19 (by decide) ?_
  refine b_aload_n dX2_become_20 rfl ?_
  refine g_get dX2_become_21 fX2_15 La.1 rfl ?_
  refine b_iconst (v := nI 0) dX2_become_24 (by decide) ?_
  refine b_bipush (v := nI 16) dX2_become_25 (by decide) ?_
  refine g_copy dX2_become_27 lX2_49 Lo.2.2.1 La.2.2.1 rfl rfl rfl (by omega) (by omega) (Nat.le_of_ble_eq_true rfl) ?_
  refine b_aload_n dX2_become_30 rfl ?_
  refine g_get dX2_become_31 fX2_18 Lo.1 rfl ?_
  refine b_iconst (v := nI 0) dX2_become_34 (by decide) ?_
  refine b_aload_n dX2_become_35 rfl ?_
  refine g_get dX2_become_36 fX2_18 La.1 rfl ?_
  refine b_iconst (v := nI 0) dX2_become_39 (by decide) ?_
  refine b_bipush (v := nI 8) dX2_become_40 (by decide) ?_
  refine g_copy dX2_become_42 lX2_49 Lo.2.2.2.1 La.2.2.2.1 rfl rfl rfl (by omega) (by omega) (Nat.le_of_ble_eq_true rfl) ?_
  refine b_aload_n dX2_become_45 rfl ?_
  refine g_get dX2_become_46 fX2_21 Lo.1 rfl ?_
  refine b_iconst (v := nI 0) dX2_become_49 (by decide) ?_
  refine b_aload_n dX2_become_50 rfl ?_
  refine g_get dX2_become_51 fX2_21 La.1 rfl ?_
  refine b_iconst (v := nI 0) dX2_become_54 (by decide) ?_
  refine b_bipush (v := nI 8) dX2_become_55 (by decide) ?_
  refine g_copy dX2_become_57 lX2_49 Lo.2.2.2.2.1 La.2.2.2.2.1 rfl rfl rfl (by omega) (by omega) (Nat.le_of_ble_eq_true rfl) ?_
  refine b_aload_n dX2_become_60 rfl ?_
  refine g_get dX2_become_61 fX2_24 Lo.1 rfl ?_
  refine b_iconst (v := nI 0) dX2_become_64 (by decide) ?_
  refine b_aload_n dX2_become_65 rfl ?_
  refine g_get dX2_become_66 fX2_24 La.1 rfl ?_
  refine b_iconst (v := nI 0) dX2_become_69 (by decide) ?_
  refine b_bipush (v := nI 6) dX2_become_70 (by decide) ?_
  refine g_copy dX2_become_72 lX2_49 Lo.2.2.2.2.2 La.2.2.2.2.2 rfl rfl rfl (by omega) (by omega) (Nat.le_of_ble_eq_true rfl) ?_
  refine b_aload_n dX2_become_75 rfl ?_
  refine b_aload_n dX2_become_76 rfl ?_
  refine g_get dX2_become_77 fX2_33 Lo.1 rfl ?_
  refine g_put dX2_become_80 wX2_33 La.1 tfX2_5 (Nat.le_of_ble_eq_true rfl) rfl ?_
  refine b_aload_n dX2_become_83 rfl ?_
  refine b_aload_n dX2_become_84 rfl ?_
  refine g_get dX2_become_85 fX2_37 Lo.1 rfl ?_
  refine g_put dX2_become_88 wX2_37 La.1 tfX2_6 (Nat.le_of_ble_eq_true rfl) rfl ?_
  refine b_aload_n dX2_become_91 rfl ?_
  refine b_aload_n dX2_become_92 rfl ?_
  refine g_get dX2_become_93 fX2_40 Lo.1 rfl ?_
  refine g_put dX2_become_96 wX2_40 La.1 tfX2_7 (Nat.le_of_ble_eq_true rfl) rfl ?_
  refine b_aload_n dX2_become_99 rfl ?_
  refine b_aload_n dX2_become_100 rfl ?_
  refine g_get dX2_become_101 fX2_43 Lo.1 rfl ?_
  refine g_put dX2_become_104 wX2_43 La.1 tfX2_8 (Nat.le_of_ble_eq_true rfl) rfl ?_
  refine b_aload_n dX2_become_107 rfl ?_
  refine b_aload_n dX2_become_108 rfl ?_
  refine g_get dX2_become_109 fX2_46 Lo.1 rfl ?_
  refine g_put dX2_become_112 wX2_46 La.1 tfX2_9 (Nat.le_of_ble_eq_true rfl) rfl ?_
  exact b_vret dX2_become_115 ⟨rfl, congrArg (fun z => sh G z μ) (by funext c q; simp only [pt_at, cpy_at, bcmL]; grind (splits := 60))⟩
def bcmS (σ : ST) (o b : Nat) : ST := fun c q => if c = b + 1 ∧ q < 6 then σ (o + 1) q else if c = b ∧ q = 2 then σ o 2 else σ c q
theorem c_Sbecome {G : GT} {d : Nat} {σ : ST} {μ : SL} {b o : Nat} (Sb : Sta G b) (So : Sta G o) (hao : b + 2 < o ∨ o + 2 < b) : Fn G (d + 1) mX8_become [.ref (G.b0 + b), .ref (G.b0 + o)] (sh G σ μ) (Ret none (sh G (bcmS σ o b) μ)) := by
  refine fn_of (ls := [some (.ref (G.b0 + b)), some (.ref (G.b0 + o))]) (by decide +kernel) (Nat.le_of_ble_eq_true rfl) 0 rfl ?_
  refine b_aload_n dX8_become_0 rfl ?_
  refine g_get dX8_become_1 fX8_9 So.1 rfl ?_
  refine b_iconst (v := nI 0) dX8_become_4 (by decide) ?_
  refine b_aload_n dX8_become_5 rfl ?_
  refine g_get dX8_become_6 fX8_9 Sb.1 rfl ?_
  refine b_iconst (v := nI 0) dX8_become_9 (by decide) ?_
  refine b_bipush (v := nI 6) dX8_become_10 (by decide) ?_
  refine g_copy dX8_become_12 lX8_28 So.2.1 Sb.2.1 rfl rfl rfl (by omega) (by omega) (Nat.le_of_ble_eq_true rfl) ?_
  refine b_aload_n dX8_become_15 rfl ?_
  refine b_aload_n dX8_become_16 rfl ?_
  refine g_get dX8_become_17 fX8_24 So.1 rfl ?_
  refine g_put dX8_become_20 wX8_24 Sb.1 tfX8_2 (Nat.le_of_ble_eq_true rfl) rfl ?_
  exact b_vret dX8_become_23 ⟨rfl, congrArg (fun z => sh G z μ) (by funext c q; simp only [pt_at, cpy_at, bcmS]; grind (splits := 60))⟩
def clrS (σ : ST) (b : Nat) : ST := fun c q => if (c = b + 1 ∧ q < 6) ∨ (c = b ∧ q = 2) then nI 0 else σ c q
theorem c_Sclear {G : GT} {d : Nat} {σ : ST} {μ : SL} {b : Nat} (Sb : Sta G b) : Fn G (d + 1) mX8_clear [.ref (G.b0 + b)] (sh G σ μ) (Ret none (sh G (clrS σ b) μ)) := by
  refine fn_of (ls := [some (.ref (G.b0 + b))]) (by decide +kernel) (Nat.le_of_ble_eq_true rfl) 0 rfl ?_
  refine b_aload_n dX8_clear_0 rfl ?_
  refine g_get dX8_clear_1 fX8_9 Sb.1 rfl ?_
  refine b_iconst (v := nI 0) dX8_clear_4 (by decide) ?_
  refine b_callSr [.ref (G.b0 + (b + 1)), .int (nI 0)] dX8_clear_5 kJ7_fill_53178 lX8_18 (c_fill Sb.2.1) rfl rfl (Nat.le_of_ble_eq_true rfl) ?_
  refine b_aload_n dX8_clear_8 rfl ?_
  refine b_iconst (v := nI 0) dX8_clear_9 (by decide) ?_
  refine g_put dX8_clear_10 wX8_24 Sb.1 tfX8_2 (Nat.le_of_ble_eq_true rfl) rfl ?_
  exact b_vret dX8_clear_13 ⟨rfl, congrArg (fun z => sh G z μ) (by funext c q; simp only [pt_at, flS_at, clrS]; grind (splits := 60))⟩

