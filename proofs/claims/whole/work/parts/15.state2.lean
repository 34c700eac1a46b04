/-! ===== State: days, deeds, draws, a year ===== -/
theorem LV_of {σ σ' : ST} {a W F P : Nat} (h : LV σ a W F P) (e : ∀ q, σ' a q = σ a q) : LV σ' a W F P := ⟨(e 6).trans h.1, (e 7).trans h.2.1, (e 8).trans h.2.2.1, h.2.2.2⟩
/-- n days, till one brings nothing: the state then, the days that brought something -/
def pdS (a b P : Nat) : Nat → ST → ST × Nat
  | 0, σ => (σ, 0)
  | n + 1, σ => if mDayB (σ (a + 5)) (σ (b + 1)) P P then ((pdS a b P n (dayS σ a b P P)).1, (pdS a b P n (dayS σ a b P P)).2 + 1) else (dayS σ a b P P, 0)
theorem pdS_le (a b P : Nat) : ∀ n σ, (pdS a b P n σ).2 ≤ n
  | 0, _ => Nat.le_refl 0
  | n + 1, σ => by
    unfold pdS
    split
    · exact Nat.succ_le_succ (pdS_le a b P n _)
    · exact Nat.zero_le _
theorem c_passDays {G : GT} {d : Nat} {σ : ST} {μ : SL} {a b W F P n : Nat} (Sb : Sta G b) (La : Lnd G a) (hL : LV σ a W F P) (hab : a + 5 < b ∨ b + 2 < a) (hn : n < 2 ^ 30) : Fn G (d + 2) mX8_passDays [.ref (G.b0 + b), .ref (G.b0 + a), .int (nI n)] (sh G σ μ) (Ret (some (.int (nI (pdS a b P n σ).2))) (sh G (pdS a b P n σ).1 μ)) := by
  refine fn_of (ls := [some (.ref (G.b0 + b)), some (.ref (G.b0 + a)), some (.int (nI n)), none]) (by decide +kernel) (Nat.le_of_ble_eq_true rfl) 1 rfl ?_
  refine b_iconst (v := nI 0) dX8_passDays_0 (by decide) ?_
  refine b_istore_n dX8_passDays_1 (by decide) rfl ?_
  have lp : ∀ (k i : Nat) (s : ST), i + k = n → LV s a W F P → i + (pdS a b P k s).2 = (pdS a b P n σ).2 → (pdS a b P k s).1 = (pdS a b P n σ).1 → BB G RX8 cX8_passDays 4 (some .int) (d + 2) (QM G (Ret (some (.int (nI (pdS a b P n σ).2))) (sh G (pdS a b P n σ).1 μ))) 2 [some (.ref (G.b0 + b)), some (.ref (G.b0 + a)), some (.int (nI n)), some (.int (nI i))] [] (sh G s μ) := by
    intro k
    induction k with
    | zero =>
      intro i s hi hs h1 h2
      refine b_iload_n dX8_passDays_2 rfl ?_
      refine b_iload_n dX8_passDays_3 rfl ?_
      refine b_icmp_ge_t 23 dX8_passDays_4 (by decide) (nI_le (by omega) (by omega)) ?_
      refine b_iload_n dX8_passDays_23 rfl ?_
      exact b_iret dX8_passDays_24 ⟨by rw [← h1, pdS, show i = n by omega]; rfl, by rw [← h2]; rfl⟩
    | succ k ih =>
      intro i s hi hs h1 h2
      refine b_iload_n dX8_passDays_2 rfl ?_
      refine b_iload_n dX8_passDays_3 rfl ?_
      refine b_icmp_ge_f 23 dX8_passDays_4 (by decide) (nI_ge (by omega) (by omega)) ?_
      refine b_aload_n dX8_passDays_7 rfl ?_
      refine b_aload_n dX8_passDays_8 rfl ?_
      refine g_callV [.ref (G.b0 + a)] dX8_passDays_9 kX8_passDay lX8_53 Sb.1 rfl rfl (c_passDay Sb La hs hab) rfl rfl (Nat.le_of_ble_eq_true rfl) ?_
      refine b_if_ne 17 dX8_passDays_12 (by decide) (fun c1 => ?_) (fun c1 => ?_)
      · skip
        refine b_iinc dX8_passDays_17 rfl (nI_1 _) (by decide) rfl ?_
        refine b_goto 2 dX8_passDays_20 (by decide) ?_
        have c2 := (bI_1 _).mp c1
        rw [pdS, if_pos c2] at h1 h2
        exact ih (i + 1) _ (by omega) (LV_of hs (fun q => dayS_fr (by omega) (by omega))) (by rw [← h1]; show _ = i + (_ + 1); omega) h2
      · skip
        refine b_iload_n dX8_passDays_15 rfl ?_
        have c2 := (bI_0 _).mp c1
        rw [pdS, if_neg (by rw [c2]; decide)] at h1 h2
        exact b_iret dX8_passDays_16 ⟨by rw [← h1]; rfl, by rw [← h2]⟩
  exact lp n 0 σ (by omega) hL (by omega) rfl
/-- a deed done -/
def dnS (a b P : Nat) (x : Int32) (σ : ST) : ST :=
  if x = -1 then dayS σ a b P P
  else if x.toNatClampNeg < 100 then pt σ (b + 1) (x.toNatClampNeg % 100 / 10) (σ (b + 1) (x.toNatClampNeg % 100 / 10) ||| (nI 1 <<< (nI (x.toNatClampNeg % 10) &&& 31)))
  else askS σ a b (x.toNatClampNeg % 100 / 10) (x.toNatClampNeg % 10)
def dnK (a b W F t : Nat) (x : Int32) (σ : ST) : Bool :=
  if x = -1 then false else if x.toNatClampNeg < 100 then false else mAskK σ a b W F t (x.toNatClampNeg % 100 / 10) (x.toNatClampNeg % 10)
def okD (F P : Nat) (x : Int32) : Prop := x = -1 ∨ ∃ n : Nat, x = nI n ∧ n < 200 ∧ n % 100 / 10 < P ∧ n % 10 < F
theorem nI_m1 {n : Nat} (h : n < 2 ^ 31) : ¬ nI n = -1 := fun z => by
  have h1 := congrArg Int32.toInt z
  rw [nI_toInt h] at h1
  have h3 : (-1 : Int32).toInt = -1 := by decide
  rw [h3] at h1
  omega
theorem c_isDone {G : GT} {d : Nat} {σ : ST} {μ : SL} {a b W F P t : Nat} {x : Int32} (Sb : Sta G b) (La : Lnd G a) (hL : LV σ a W F P) (hab : a + 5 < b ∨ b + 2 < a) (ht : σ b 2 = nI t) (ht32 : t < 32) (hx : okD F P x) : Fn G (d + 3) mX8_isDone [.ref (G.b0 + b), .ref (G.b0 + a), .int x] (sh G σ μ) (Ret (some (.int (bI (dnK a b W F t x σ)))) (sh G (dnS a b P x σ) μ)) := by
  have hL' := hL
  obtain ⟨hW, hF, hP, hW16, hF8, hP6⟩ := hL
  refine fn_of (ls := [some (.ref (G.b0 + b)), some (.ref (G.b0 + a)), some (.int x), none, none]) (by decide +kernel) (Nat.le_of_ble_eq_true rfl) 2 rfl ?_
  refine b_iload_n dX8_isDone_0 rfl ?_
  refine b_iconst (v := -1) dX8_isDone_1 (by decide) ?_
  refine b_icmp_ne 13 dX8_isDone_2 (by decide) (fun c1 => ?_) (fun c1 => ?_)
  · skip
    rcases hx with rfl | ⟨n, rfl, hn, h1, h2⟩
    · exact absurd rfl c1
    refine b_iload_n dX8_isDone_13 rfl ?_
    refine b_bipush (v := nI 100) dX8_isDone_14 (by decide) ?_
    have c0 : (nI n).toNatClampNeg = n := nI_clamp (by omega)
    refine b_irem dX8_isDone_16 (nI_ne0 (by omega) (by omega)) ?_
    refine b_top (y := nI (n % 100)) (pk_rem (by omega) (by omega) (by omega)) ?_
    refine b_bipush (v := nI 10) dX8_isDone_17 (by decide) ?_
    refine b_idiv dX8_isDone_19 (nI_ne0 (by omega) (by omega)) ?_
    refine b_top (y := nI (n % 100 / 10)) (pk_div (by omega) (by omega) (by omega)) ?_
    refine b_istore_n dX8_isDone_20 (by decide) rfl ?_
    refine b_iload_n dX8_isDone_21 rfl ?_
    refine b_bipush (v := nI 10) dX8_isDone_22 (by decide) ?_
    refine b_irem dX8_isDone_24 (nI_ne0 (by omega) (by omega)) ?_
    refine b_top (y := nI (n % 10)) (pk_rem (by omega) (by omega) (by omega)) ?_
    refine b_istore dX8_isDone_25 (by decide) rfl ?_
    refine b_iload_n dX8_isDone_27 rfl ?_
    refine b_bipush (v := nI 100) dX8_isDone_28 (by decide) ?_
    refine b_icmp_lt 42 dX8_isDone_30 (by decide) (fun c2 => ?_) (fun c2 => ?_)
    · skip
      refine b_aload_n dX8_isDone_42 rfl ?_
      refine g_get dX8_isDone_43 fX8_9 Sb.1 rfl ?_
      refine b_iload_n dX8_isDone_46 rfl ?_
      refine b_dup2 dX8_isDone_47 rfl rfl ?_
      refine g_iald dX8_isDone_48 Sb.2.1 rfl (by omega) ?_
      refine b_iconst (v := nI 1) dX8_isDone_49 (by decide) ?_
      refine b_iload dX8_isDone_50 rfl ?_
      refine b_ishl dX8_isDone_52 ?_
      refine b_ior dX8_isDone_53 ?_
      refine g_iast dX8_isDone_54 Sb.2.1 rfl (by omega) ?_
      refine b_iconst (v := nI 0) dX8_isDone_55 (by decide) ?_
      rw [nI_ltI (by omega) (by omega)] at c2
      exact b_zret dX8_isDone_56 rfl ⟨by simp [dnK, c1, c0, c2, bI], by simp [dnS, c1, c0, c2]⟩
    · skip
      refine b_aload_n dX8_isDone_33 rfl ?_
      refine b_aload_n dX8_isDone_34 rfl ?_
      refine b_iload_n dX8_isDone_35 rfl ?_
      refine b_iload dX8_isDone_36 rfl ?_
      rw [nI_ltI (by omega) (by omega)] at c2
      refine g_callV [.ref (G.b0 + a), .int (nI (n % 100 / 10)), .int (nI (n % 10))] dX8_isDone_38 kX8_isAsked lX8_74 Sb.1 rfl rfl (c_isAsked Sb La hL' ht ht32 (by omega) (by omega)) rfl rfl (Nat.le_of_ble_eq_true rfl) ?_
      exact b_zret dX8_isDone_41 (bI_n _) ⟨by simp [dnK, c1, c0, c2], by simp [dnS, c1, c0, c2]⟩
  · skip
    subst c1
    refine b_aload_n dX8_isDone_5 rfl ?_
    refine b_aload_n dX8_isDone_6 rfl ?_
    refine g_callV [.ref (G.b0 + a)] dX8_isDone_7 kX8_passDay lX8_53 Sb.1 rfl rfl (c_passDay Sb La hL' hab) rfl rfl (Nat.le_of_ble_eq_true rfl) ?_
    refine b_pop dX8_isDone_10 rfl ?_
    refine b_iconst (v := nI 0) dX8_isDone_11 (by decide) ?_
    exact b_zret dX8_isDone_12 rfl ⟨rfl, rfl⟩
def ddS (a b P : Nat) (v : Nat → Int64) (σ : ST) : Nat → ST
  | 0 => σ
  | i + 1 => dnS a b P (v i).toInt32 (ddS a b P v σ i)
def ddK (a b W F P t : Nat) (v : Nat → Int64) (σ : ST) : Nat → Nat
  | 0 => 0
  | i + 1 => ddK a b W F P t v σ i + if dnK a b W F t (v i).toInt32 (ddS a b P v σ i) then 1 else 0
theorem dnS_fr {a b P : Nat} {x : Int32} {σ : ST} {c q : Nat} (h1 : c ≠ b + 1) (h2 : c ≠ b + 2) : dnS a b P x σ c q = σ c q := by
  unfold dnS askS
  split
  · exact dayS_fr h1 h2
  · split
    · exact pt_a h1
    · exact pt_a h1
theorem ddS_fr {a b P : Nat} {v : Nat → Int64} {σ : ST} {c q : Nat} (h1 : c ≠ b + 1) (h2 : c ≠ b + 2) : ∀ i, ddS a b P v σ i c q = σ c q
  | 0 => rfl
  | i + 1 => (dnS_fr h1 h2).trans (ddS_fr h1 h2 i)
theorem okD_of {F P : Nat} {v : Int64} (h : mDeed F P v = true) : okD F P v.toInt32 := by
  by_cases h1 : v = -1
  · left; rw [h1]; decide
  · right
    simp only [mDeed, h1, decide_false, Bool.false_or, Bool.and_eq_true, decide_eq_true_eq] at h
    obtain ⟨⟨⟨h2, h3⟩, h4⟩, h5⟩ := h
    have h6 : ¬ v < 0 := fun z => by
      have := Int64.lt_iff_toInt_lt.mp z
      have e : (0 : Int64).toInt = 0 := by decide
      rw [e] at this
      omega
    obtain ⟨n, hn, rfl⟩ := pk_lOf h6
    rw [pk_lT hn] at h2 h3 h4 h5
    rw [Int.toNat_natCast] at h4 h5
    exact ⟨n, lN_i n, by omega, h4, h5⟩
theorem ddK_le (a b W F P t : Nat) (v : Nat → Int64) (σ : ST) : ∀ i, ddK a b W F P t v σ i ≤ i
  | 0 => Nat.le_refl 0
  | i + 1 => by
    have := ddK_le a b W F P t v σ i
    unfold ddK
    split <;> omega
theorem c_doDeeds {G : GT} {d : Nat} {σ : ST} {μ : SL} {a b r W F P t n len : Nat} (Sb : Sta G b) (La : Lnd G a) (Rr : Rwo G r) (hL : LV σ a W F P) (hab : a + 5 < b ∨ b + 2 < a) (hr : r < b ∨ b + 2 < r) (ht : σ b 2 = nI t) (ht32 : t < 32) (hlen : σ r 1 = nI len) (hl40 : len ≤ 40) (hn : n ≤ len) (hv : ∀ i, i < n → mDeed F P (μ (r + 1) i) = true) : Fn G (d + 4) mX8_doDeeds [.ref (G.b0 + b), .ref (G.b0 + a), .ref (G.b0 + r), .int (nI n)] (sh G σ μ) (Ret (some (.int (nI (ddK a b W F P t (μ (r + 1)) σ n)))) (sh G (ddS a b P (μ (r + 1)) σ n) μ)) := by
  refine fn_of (ls := [some (.ref (G.b0 + b)), some (.ref (G.b0 + a)), some (.ref (G.b0 + r)), some (.int (nI n)), none, none]) (by decide +kernel) (Nat.le_of_ble_eq_true rfl) 2 rfl ?_
  refine b_iconst (v := nI 0) dX8_doDeeds_0 (by decide) ?_
  refine b_istore dX8_doDeeds_1 (by decide) rfl ?_
  refine b_iconst (v := nI 0) dX8_doDeeds_3 (by decide) ?_
  refine b_istore dX8_doDeeds_4 (by decide) rfl ?_
  have lp : ∀ (k i : Nat), i + k = n → BB G RX8 cX8_doDeeds 6 (some .int) (d + 4) (QM G (Ret (some (.int (nI (ddK a b W F P t (μ (r + 1)) σ n)))) (sh G (ddS a b P (μ (r + 1)) σ n) μ))) 6 [some (.ref (G.b0 + b)), some (.ref (G.b0 + a)), some (.ref (G.b0 + r)), some (.int (nI n)), some (.int (nI (ddK a b W F P t (μ (r + 1)) σ i))), some (.int (nI i))] [] (sh G (ddS a b P (μ (r + 1)) σ i) μ) := by
    intro k
    induction k with
    | zero =>
      intro i hi
      refine b_iload dX8_doDeeds_6 rfl ?_
      refine b_iload_n dX8_doDeeds_8 rfl ?_
      refine b_icmp_ge_t 60 dX8_doDeeds_9 (by decide) (nI_le (by omega) (by omega)) ?_
      refine b_iload dX8_doDeeds_60 rfl ?_
      exact b_iret dX8_doDeeds_62 ⟨by rw [show i = n by omega], by rw [show i = n by omega]⟩
    | succ k ih =>
      intro i hi
      have hs : LV (ddS a b P (μ (r + 1)) σ i) a W F P := LV_of hL (fun q => ddS_fr (by omega) (by omega) i)
      refine b_iload dX8_doDeeds_6 rfl ?_
      refine b_iload_n dX8_doDeeds_8 rfl ?_
      refine b_icmp_ge_f 60 dX8_doDeeds_9 (by decide) (nI_ge (by omega) (by omega)) ?_
      refine b_iload dX8_doDeeds_12 rfl ?_
      refine b_aload_n dX8_doDeeds_14 rfl ?_
      refine g_geti dX8_doDeeds_15 fX8_57 Rr.1 rfl ((ddS_fr (by omega) (by omega) i).trans hlen) ?_
      refine b_icmp_ge_f 60 dX8_doDeeds_18 (by decide) (nI_ge (by omega) (by omega)) ?_
      refine b_aload_n dX8_doDeeds_21 rfl ?_
      refine b_aload_n dX8_doDeeds_22 rfl ?_
      refine g_get dX8_doDeeds_23 fX8_62 Rr.1 rfl ?_
      refine b_iload dX8_doDeeds_26 rfl ?_
      refine g_lald dX8_doDeeds_28 Rr.2 rfl (by omega) ?_
      refine g_callV [.long (μ (r + 1) i)] dX8_doDeeds_29 kX2_isDeed lX8_66 La.1 rfl rfl (c_isDeed La hs) rfl rfl (Nat.le_of_ble_eq_true rfl) ?_
      refine b_if_eq_f 54 dX8_doDeeds_32 (by decide) (by rw [hv i (by omega)]; decide) ?_
      refine b_aload_n dX8_doDeeds_35 rfl ?_
      refine b_aload_n dX8_doDeeds_36 rfl ?_
      refine b_aload_n dX8_doDeeds_37 rfl ?_
      refine g_get dX8_doDeeds_38 fX8_62 Rr.1 rfl ?_
      refine b_iload dX8_doDeeds_41 rfl ?_
      refine g_lald dX8_doDeeds_43 Rr.2 rfl (by omega) ?_
      refine b_l2i dX8_doDeeds_44 ?_
      refine g_callV [.ref (G.b0 + a), .int ((μ (r + 1) i).toInt32)] dX8_doDeeds_45 kX8_isDone lX8_70 Sb.1 rfl rfl (c_isDone Sb La hs hab ((ddS_fr (by omega) (by omega) i).trans ht) ht32 (okD_of (hv i (by omega)))) rfl rfl (Nat.le_of_ble_eq_true rfl) ?_
      refine b_if_eq 54 dX8_doDeeds_48 (by decide) (fun c1 => ?_) (fun c1 => ?_)
      · skip
        refine b_iinc dX8_doDeeds_54 rfl (nI_1 _) (by decide) rfl ?_
        refine b_goto 6 dX8_doDeeds_57 (by decide) ?_
        have e : ddK a b W F P t (μ (r + 1)) σ i = ddK a b W F P t (μ (r + 1)) σ (i + 1) := by rw [ddK, (bI_0 _).mp c1]; rfl
        rw [e]
        exact ih (i + 1) (by omega)
      · skip
        refine b_iinc dX8_doDeeds_51 rfl (nI_1 _) (by decide) rfl ?_
        refine b_iinc dX8_doDeeds_54 rfl (nI_1 _) (by decide) rfl ?_
        refine b_goto 6 dX8_doDeeds_57 (by decide) ?_
        have e : ddK a b W F P t (μ (r + 1)) σ i + 1 = ddK a b W F P t (μ (r + 1)) σ (i + 1) := by rw [ddK, (bI_1 _).mp c1]; rfl
        rw [e]
        exact ih (i + 1) (by omega)
  exact lp n 0 (by omega)
/-! draws -/
def mX (x : Int32) : Int32 := 1103515245 * x + nI 12345
def mDr (x : Int32) (n : Nat) : Nat := x.toBitVec.toNat / 65536 % n
theorem ush16 (x : Int32) : (x.toUInt32 >>> ((nI 16).toUInt32 &&& Int32.toUInt32 31)).toInt32 = nI (x.toBitVec.toNat / 65536) := by
  have e : x = nI x.toBitVec.toNat := by
    apply Int32.toBitVec_inj.mp
    show x.toBitVec = BitVec.ofNat 32 x.toBitVec.toNat
    simp
  have h := x.toBitVec.isLt
  generalize x.toBitVec.toNat = n at e h
  subst e
  rw [nI_ush (by omega) (by omega), Nat.shiftRight_eq_div_pow]
theorem c_draw {G : GT} {d : Nat} {σ : ST} {μ : SL} {b n : Nat} (Sb : Sta G b) (h0 : 0 < n) (hn : n < 2 ^ 30) : Fn G d mX8_draw [.ref (G.b0 + b), .int (nI n)] (sh G σ μ) (Ret (some (.int (nI (mDr (mX (σ b 3)) n)))) (sh G (pt σ b 3 (mX (σ b 3))) μ)) := by
  refine fn_of (ls := [some (.ref (G.b0 + b)), some (.int (nI n))]) (by decide +kernel) (Nat.le_of_ble_eq_true rfl) 0 rfl ?_
  refine b_aload_n dX8_draw_0 rfl ?_
  refine b_ldc dX8_draw_1 cvX8_78 ?_
  refine b_aload_n dX8_draw_3 rfl ?_
  refine g_get dX8_draw_4 fX8_79 Sb.1 rfl ?_
  refine b_imul dX8_draw_7 ?_
  refine b_sipush (v := nI 12345) dX8_draw_8 (by decide) ?_
  refine b_iadd dX8_draw_11 ?_
  refine g_put dX8_draw_12 wX8_79 Sb.1 tfX8_3 (Nat.le_of_ble_eq_true rfl) rfl ?_
  refine b_iload_n dX8_draw_15 rfl ?_
  refine b_if_le_f 31 dX8_draw_16 (by decide) (nI_nle h0 (by omega)) ?_
  refine b_aload_n dX8_draw_19 rfl ?_
  refine g_get dX8_draw_20 fX8_79 Sb.1 rfl ?_
  refine b_bipush (v := nI 16) dX8_draw_23 (by decide) ?_
  refine b_iushr dX8_draw_25 ?_
  refine b_iload_n dX8_draw_26 rfl ?_
  refine b_irem dX8_draw_27 (nI_ne0 h0 (by omega)) ?_
  refine b_goto 32 dX8_draw_28 (by decide) ?_
  refine b_iret dX8_draw_32 ⟨?_, rfl⟩
  have e : pt σ b 3 (mX (σ b 3)) b 3 = mX (σ b 3) := pt_s _ _ _ _
  have h1 := (mX (σ b 3)).toBitVec.isLt
  show some (Value.int ((((pt σ b 3 (mX (σ b 3)) b 3).toUInt32 >>> ((nI 16).toUInt32 &&& Int32.toUInt32 31)).toInt32 - ((pt σ b 3 (mX (σ b 3)) b 3).toUInt32 >>> ((nI 16).toUInt32 &&& Int32.toUInt32 31)).toInt32 / nI n * nI n))) = _
  rw [e, ush16, pk_rem (by omega) h0 (by omega)]
  rfl

