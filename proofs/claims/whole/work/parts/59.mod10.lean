/-! ===== the reference: deeds ===== -/
abbrev stT (L : LD) (tl : Nat → Int32) : LD := (L.1, (L.2.1, L.2.2.1, L.2.2.2.1, L.2.2.2.2.1, L.2.2.2.2.2.1, L.2.2.2.2.2.2.1, tl))
abbrev stW (L : LD) (t : Nat) : LD := ((L.1.1, L.1.2.1, L.1.2.2.1, t), L.2)
theorem MV_of {σ s : ST} {L : LD} (h : MV σ L) (e0 : s 77 0 = σ 77 0) (e : s 78 = σ 78) : MV s L := by
  unfold MV at h ⊢
  rw [e0, e]; exact h
/-- the block of the reference at 78 without the state -/
theorem MV_T {σ s : ST} {L : LD} {tl : Nat → Int32} (h : MV σ L) (e0 : s 77 0 = σ 77 0) (e : ∀ q, q < 5 ∨ 11 ≤ q → s 78 q = σ 78 q) (ht : ∀ p, p < L.P → s 78 (5 + p) = tl p) : MV s (stT L tl) := by
  obtain ⟨g0, ⟨g1, g2, g3, g4⟩, g5, g6, g7, g8, g9, g10, g11, g12, g13⟩ := h
  obtain ⟨b1, b2, b3, b4⟩ := id g5
  refine ⟨by rw [e0]; exact g0, ⟨by rw [e 1 (by omega)]; exact g1, by rw [e 2 (by omega)]; exact g2, by rw [e 3 (by omega)]; exact g3, by rw [e 4 (by omega)]; exact g4⟩, g5, ht, fun k w hk hw => ?_, fun w hw => ?_, fun w hw => ?_, fun w hw => ?_, fun w hw => ?_, fun w hw => ?_, g13⟩
  · rw [e _ (by omega)]; exact g7 k w hk hw
  · rw [e _ (by omega)]; exact g8 w hw
  · rw [e _ (by omega)]; exact g9 w hw
  · rw [e _ (by omega)]; exact g10 w hw
  · rw [e _ (by omega)]; exact g11 w hw
  · rw [e _ (by omega)]; exact g12 w hw
theorem MV_W {σ s : ST} {L : LD} {t : Nat} (h : MV σ L) (e0 : s 77 0 = σ 77 0) (e : ∀ q, q ≠ 4 → s 78 q = σ 78 q) (ht : s 78 4 = nI t) (htW : t < L.W) : MV s (stW L t) := by
  obtain ⟨g0, ⟨g1, g2, g3, g4⟩, ⟨b1, b2, b3, b4, b5⟩, g6, g7, g8, g9, g10, g11, g12, g13⟩ := h
  refine ⟨by rw [e0]; exact g0, ⟨by rw [e 1 (by omega)]; exact g1, by rw [e 2 (by omega)]; exact g2, by rw [e 3 (by omega)]; exact g3, ht⟩, ⟨b1, b2, b3, fun _ => htW, fun z => ?_⟩, fun p hp => ?_, fun k w hk hw => ?_, fun w hw => ?_, fun w hw => ?_, fun w hw => ?_, fun w hw => ?_, fun w hw => ?_, g13⟩
  · have z' : L.W = 0 := z; omega
  · rw [e _ (by omega)]; exact g6 p hp
  · rw [e _ (by omega)]; exact g7 k w hk hw
  · rw [e _ (by omega)]; exact g8 w hw
  · rw [e _ (by omega)]; exact g9 w hw
  · rw [e _ (by omega)]; exact g10 w hw
  · rw [e _ (by omega)]; exact g11 w hw
  · rw [e _ (by omega)]; exact g12 w hw
theorem cpy_0 (σ : ST) (a0 sp a dp : Nat) : cpy σ a0 sp a dp 0 = σ := by
  funext c q
  rw [cpy_at, if_neg (by omega)]
theorem cpy_s {σ : ST} {a0 sp a dp n : Nat} {x : Int32} (hx : x = σ a0 (sp + n)) : pt (cpy σ a0 sp a dp n) a (dp + n) x = cpy σ a0 sp a dp (n + 1) := by
  funext c q
  rw [pt_at, cpy_at, cpy_at]
  by_cases h : c = a ∧ q = dp + n
  · rw [if_pos h, if_pos (by omega), hx, show q - dp = n by omega]
  · rw [if_neg h]
    by_cases h2 : c = a ∧ dp ≤ q ∧ q < dp + n
    · rw [if_pos h2, if_pos (by omega)]
    · rw [if_neg h2, if_neg (by omega)]
theorem m_keeps {G : GT} {d : Nat} {σ : ST} {μ : SL} : Fn G d mX12_keeps [.ref (G.b0 + 77)] (sh G σ μ) (Ret none (sh G (cpy σ 78 4 86 0 7) μ)) := by
  refine fn_of (ls := [some (.ref (G.b0 + 77)), none]) (by decide +kernel) (Nat.le_of_ble_eq_true rfl) 1 rfl ?_
  refine b_iconst (v := nI 0) dX12_keeps_0 (by decide) ?_
  refine b_istore_n dX12_keeps_1 (by decide) rfl ?_
  have lp : ∀ (n i : Nat), i + n = 7 → BB G RX12 cX12_keeps 2 none d (QM G (Ret none (sh G (cpy σ 78 4 86 0 7) μ))) 2 [some (.ref (G.b0 + 77)), some (.int (nI i))] [] (sh G (cpy σ 78 4 86 0 i) μ) := by
    intro n
    induction n with
    | zero =>
      intro i hi
      refine b_iload_n dX12_keeps_2 rfl ?_
      refine b_bipush (v := nI 7) dX12_keeps_3 (by decide) ?_
      refine b_icmp_ge_t 28 dX12_keeps_5 (by decide) (nI_le (by omega) (by omega)) ?_
      exact b_vret dX12_keeps_28 ⟨rfl, by rw [show i = 7 by omega]⟩
    | succ n ih =>
      intro i hi
      refine b_iload_n dX12_keeps_2 rfl ?_
      refine b_bipush (v := nI 7) dX12_keeps_3 (by decide) ?_
      refine b_icmp_ge_f 28 dX12_keeps_5 (by decide) (nI_ge (by omega) (by omega)) ?_
      refine b_aload_n dX12_keeps_8 rfl ?_
      refine g_get dX12_keeps_9 fX12_42 a77 rfl ?_
      refine b_iload_n dX12_keeps_12 rfl ?_
      refine b_aload_n dX12_keeps_13 rfl ?_
      refine g_get dX12_keeps_14 fX12_13 a77 rfl ?_
      refine b_iconst (v := nI 4) dX12_keeps_17 (by decide) ?_
      refine b_iload_n dX12_keeps_18 rfl ?_
      refine b_iaddN dX12_keeps_19 ?_
      refine g_iald dX12_keeps_20 a78 rfl (by omega) ?_
      refine g_iast dX12_keeps_21 a86 rfl (by omega) ?_
      refine b_iinc dX12_keeps_22 rfl (nI_1 _) (by decide) rfl ?_
      refine b_goto 2 dX12_keeps_25 (by decide) ?_
      refine b_sig ?_ (ih (i + 1) (by omega))
      have := cpy_s (σ := σ) (a0 := 78) (sp := 4) (a := 86) (dp := 0) (n := i) (x := cpy σ 78 4 86 0 i 78 (4 + i)) (by rw [cpy_at, if_neg (by omega)])
      rw [Nat.zero_add] at this
      exact this
  have := lp 7 0 (by omega)
  rw [cpy_0] at this
  exact this
theorem m_isAgain {G : GT} {d : Nat} {σ : ST} {μ : SL} : Fn G d mX12_isAgain [.ref (G.b0 + 77)] (sh G σ μ) (Ret none (sh G (cpy σ 86 0 78 4 7) μ)) := by
  refine fn_of (ls := [some (.ref (G.b0 + 77)), none]) (by decide +kernel) (Nat.le_of_ble_eq_true rfl) 1 rfl ?_
  refine b_iconst (v := nI 0) dX12_isAgain_0 (by decide) ?_
  refine b_istore_n dX12_isAgain_1 (by decide) rfl ?_
  have lp : ∀ (n i : Nat), i + n = 7 → BB G RX12 cX12_isAgain 2 none d (QM G (Ret none (sh G (cpy σ 86 0 78 4 7) μ))) 2 [some (.ref (G.b0 + 77)), some (.int (nI i))] [] (sh G (cpy σ 86 0 78 4 i) μ) := by
    intro n
    induction n with
    | zero =>
      intro i hi
      refine b_iload_n dX12_isAgain_2 rfl ?_
      refine b_bipush (v := nI 7) dX12_isAgain_3 (by decide) ?_
      refine b_icmp_ge_t 28 dX12_isAgain_5 (by decide) (nI_le (by omega) (by omega)) ?_
      exact b_vret dX12_isAgain_28 ⟨rfl, by rw [show i = 7 by omega]⟩
    | succ n ih =>
      intro i hi
      refine b_iload_n dX12_isAgain_2 rfl ?_
      refine b_bipush (v := nI 7) dX12_isAgain_3 (by decide) ?_
      refine b_icmp_ge_f 28 dX12_isAgain_5 (by decide) (nI_ge (by omega) (by omega)) ?_
      refine b_aload_n dX12_isAgain_8 rfl ?_
      refine g_get dX12_isAgain_9 fX12_13 a77 rfl ?_
      refine b_iconst (v := nI 4) dX12_isAgain_12 (by decide) ?_
      refine b_iload_n dX12_isAgain_13 rfl ?_
      refine b_iaddN dX12_isAgain_14 ?_
      refine b_aload_n dX12_isAgain_15 rfl ?_
      refine g_get dX12_isAgain_16 fX12_42 a77 rfl ?_
      refine b_iload_n dX12_isAgain_19 rfl ?_
      refine g_iald dX12_isAgain_20 a86 rfl (by omega) ?_
      refine g_iast dX12_isAgain_21 a78 rfl (by omega) ?_
      refine b_iinc dX12_isAgain_22 rfl (nI_1 _) (by decide) rfl ?_
      refine b_goto 2 dX12_isAgain_25 (by decide) ?_
      refine b_sig ?_ (ih (i + 1) (by omega))
      exact cpy_s (σ := σ) (a0 := 86) (sp := 0) (a := 78) (dp := 4) (n := i) (x := cpy σ 86 0 78 4 i 86 i) (by rw [cpy_at, if_neg (by omega), Nat.zero_add])
  have := lp 7 0 (by omega)
  rw [cpy_0] at this
  exact this
def ntS (sz : Nat) (σ : ST) : ST := fun c q =>
  if c = 78 ∧ q = 113 then nI (if sz < 12 then sz + 1 else 12)
  else if sz < 12 then (if c = 78 ∧ 114 + 7 * sz ≤ q ∧ q < 121 + 7 * sz then σ 86 (q - (114 + 7 * sz)) else σ c q)
  else (if c = 78 ∧ 114 ≤ q ∧ q < 191 then σ 78 (q + 7) else if c = 78 ∧ 191 ≤ q ∧ q < 198 then σ 86 (q - 191) else σ c q)
def shS (σ : ST) (i : Nat) : ST := fun c q => if c = 78 ∧ 114 ≤ q ∧ q < 114 + i then σ 78 (q + 7) else σ c q
theorem m_notes {G : GT} {d : Nat} {σ : ST} {μ : SL} {sz : Nat} (hz : σ 78 113 = nI sz) (hz12 : sz ≤ 12) : Fn G d mX12_notes [.ref (G.b0 + 77)] (sh G σ μ) (Ret none (sh G (ntS sz σ) μ)) := by
  refine fn_of (ls := [some (.ref (G.b0 + 77)), none]) (by decide +kernel) (Nat.le_of_ble_eq_true rfl) 1 rfl ?_
  refine b_aload_n dX12_notes_0 rfl ?_
  refine g_get dX12_notes_1 fX12_13 a77 rfl ?_
  refine b_bipush (v := nI 113) dX12_notes_4 (by decide) ?_
  refine g_iald dX12_notes_6 a78 rfl (by omega) ?_
  refine b_top hz ?_
  refine b_bipush (v := nI 12) dX12_notes_7 (by decide) ?_
  have fin : ∀ (s : ST) (k : Nat) (z1 : Option Value), k < 12 → s 78 113 = nI k → pt (cpy s 86 0 78 (114 + 7 * k) 7) 78 113 (nI (k + 1)) = ntS sz σ → BB G RX12 cX12_notes 2 none d (QM G (Ret none (sh G (ntS sz σ) μ))) 55 [some (.ref (G.b0 + 77)), z1] [] (sh G s μ) := by
    intro s k z1 hk hs he
    refine b_iconst (v := nI 0) dX12_notes_55 (by decide) ?_
    refine b_istore_n dX12_notes_56 (by decide) rfl ?_
    have lp : ∀ (n i : Nat), i + n = 7 → BB G RX12 cX12_notes 2 none d (QM G (Ret none (sh G (ntS sz σ) μ))) 57 [some (.ref (G.b0 + 77)), some (.int (nI i))] [] (sh G (cpy s 86 0 78 (114 + 7 * k) i) μ) := by
      intro n
      induction n with
      | zero =>
        intro i hi
        have e7 : i = 7 := by omega
        subst e7
        refine b_iload_n dX12_notes_57 rfl ?_
        refine b_bipush (v := nI 7) dX12_notes_58 (by decide) ?_
        refine b_icmp_ge_t 95 dX12_notes_60 (by decide) (nI_le (by omega) (by omega)) ?_
        refine b_aload_n dX12_notes_95 rfl ?_
        refine g_get dX12_notes_96 fX12_13 a77 rfl ?_
        refine b_bipush (v := nI 113) dX12_notes_99 (by decide) ?_
        refine b_dup2 dX12_notes_101 rfl rfl ?_
        refine g_iald dX12_notes_102 a78 rfl (by omega) ?_
        refine b_top (show cpy s 86 0 78 (114 + 7 * k) 7 78 113 = nI k by rw [cpy_at, if_neg (by omega)]; exact hs) ?_
        refine b_iconst (v := nI 1) dX12_notes_103 (by decide) ?_
        refine b_iaddN dX12_notes_104 ?_
        refine g_iast dX12_notes_105 a78 rfl (by omega) ?_
        exact b_vret dX12_notes_106 ⟨rfl, by rw [← he]⟩
      | succ n ih =>
        intro i hi
        refine b_iload_n dX12_notes_57 rfl ?_
        refine b_bipush (v := nI 7) dX12_notes_58 (by decide) ?_
        refine b_icmp_ge_f 95 dX12_notes_60 (by decide) (nI_ge (by omega) (by omega)) ?_
        refine b_aload_n dX12_notes_63 rfl ?_
        refine g_get dX12_notes_64 fX12_13 a77 rfl ?_
        refine b_bipush (v := nI 114) dX12_notes_67 (by decide) ?_
        refine b_bipush (v := nI 7) dX12_notes_69 (by decide) ?_
        refine b_aload_n dX12_notes_71 rfl ?_
        refine g_get dX12_notes_72 fX12_13 a77 rfl ?_
        refine b_bipush (v := nI 113) dX12_notes_75 (by decide) ?_
        refine g_iald dX12_notes_77 a78 rfl (by omega) ?_
        refine b_top (show cpy s 86 0 78 (114 + 7 * k) i 78 113 = nI k by rw [cpy_at, if_neg (by omega)]; exact hs) ?_
        refine b_imulN dX12_notes_78 ?_
        refine b_iaddN dX12_notes_79 ?_
        refine b_iload_n dX12_notes_80 rfl ?_
        refine b_iaddN dX12_notes_81 ?_
        refine b_aload_n dX12_notes_82 rfl ?_
        refine g_get dX12_notes_83 fX12_42 a77 rfl ?_
        refine b_iload_n dX12_notes_86 rfl ?_
        refine g_iald dX12_notes_87 a86 rfl (by omega) ?_
        refine g_iast dX12_notes_88 a78 rfl (by omega) ?_
        refine b_iinc dX12_notes_89 rfl (nI_1 _) (by decide) rfl ?_
        refine b_goto 57 dX12_notes_92 (by decide) ?_
        refine b_sig ?_ (ih (i + 1) (by omega))
        exact cpy_s (σ := s) (a0 := 86) (sp := 0) (a := 78) (dp := 114 + 7 * k) (n := i) (x := cpy s 86 0 78 (114 + 7 * k) i 86 i) (by rw [cpy_at, if_neg (by omega), Nat.zero_add])
    have := lp 7 0 (by omega)
    rw [cpy_0] at this
    exact this
  refine b_icmp_ne 55 dX12_notes_9 (by decide) (fun c1 => ?_) (fun c1 => ?_)
  · skip
    have c2 : sz < 12 := by
      have : ¬ sz = 12 := fun z => c1 (by rw [z])
      omega
    refine fin σ sz none c2 hz ?_
    funext c q
    unfold ntS
    rw [pt_at, cpy_at, if_pos c2, if_pos c2]
    by_cases h1 : c = 78 ∧ q = 113
    · rw [if_pos h1, if_pos h1]
    · rw [if_neg h1, if_neg h1]
      by_cases h2 : c = 78 ∧ 114 + 7 * sz ≤ q ∧ q < 121 + 7 * sz
      · rw [if_pos h2, if_pos (by omega), Nat.zero_add]
      · rw [if_neg h2, if_neg (by omega)]
  · skip
    have c2 : sz = 12 := by rw [nI_eq (by omega) (by omega)] at c1; exact c1
    subst c2
    refine b_iconst (v := nI 0) dX12_notes_12 (by decide) ?_
    refine b_istore_n dX12_notes_13 (by decide) rfl ?_
    have lp : ∀ (n i : Nat), i + n = 77 → BB G RX12 cX12_notes 2 none d (QM G (Ret none (sh G (ntS 12 σ) μ))) 14 [some (.ref (G.b0 + 77)), some (.int (nI i))] [] (sh G (shS σ i) μ) := by
      intro n
      induction n with
      | zero =>
        intro i hi
        have e7 : i = 77 := by omega
        subst e7
        refine b_iload_n dX12_notes_14 rfl ?_
        refine b_bipush (v := nI 77) dX12_notes_15 (by decide) ?_
        refine b_icmp_ge_t 44 dX12_notes_17 (by decide) (nI_le (by omega) (by omega)) ?_
        refine b_aload_n dX12_notes_44 rfl ?_
        refine g_get dX12_notes_45 fX12_13 a77 rfl ?_
        refine b_bipush (v := nI 113) dX12_notes_48 (by decide) ?_
        refine b_dup2 dX12_notes_50 rfl rfl ?_
        refine g_iald dX12_notes_51 a78 rfl (by omega) ?_
        refine b_top (show shS σ 77 78 113 = nI 12 by unfold shS; rw [if_neg (by omega)]; exact hz) ?_
        refine b_iconst (v := nI 1) dX12_notes_52 (by decide) ?_
        refine b_isub dX12_notes_53 ?_
        refine b_top (y := nI (12 - 1)) (nI_sub (by omega)) ?_
        refine g_iast dX12_notes_54 a78 rfl (by omega) ?_
        refine fin _ 11 _ (by omega) (pt_s _ _ _ _) ?_
        funext c q
        unfold ntS
        rw [pt_at, cpy_at]
        by_cases h1 : c = 78 ∧ q = 113
        · rw [if_pos h1, if_pos h1]; rfl
        · rw [if_neg h1, if_neg h1]
          by_cases h2 : c = 78 ∧ 191 ≤ q ∧ q < 198
          · rw [if_pos (by omega), if_neg (show ¬ 12 < 12 by omega), if_neg (by omega), if_pos h2, pt_a (by omega)]
            unfold shS
            rw [if_neg (by omega), show 0 + (q - (114 + 7 * 11)) = q - 191 by omega]
          · rw [if_neg (by omega), if_neg (show ¬ 12 < 12 by omega), pt_at, if_neg (by omega)]
            unfold shS
            by_cases h3 : c = 78 ∧ 114 ≤ q ∧ q < 191
            · rw [if_pos (by omega), if_pos h3]
            · rw [if_neg (by omega), if_neg h3, if_neg h2]
      | succ n ih =>
        intro i hi
        refine b_iload_n dX12_notes_14 rfl ?_
        refine b_bipush (v := nI 77) dX12_notes_15 (by decide) ?_
        refine b_icmp_ge_f 44 dX12_notes_17 (by decide) (nI_ge (by omega) (by omega)) ?_
        refine b_aload_n dX12_notes_20 rfl ?_
        refine g_get dX12_notes_21 fX12_13 a77 rfl ?_
        refine b_bipush (v := nI 114) dX12_notes_24 (by decide) ?_
        refine b_iload_n dX12_notes_26 rfl ?_
        refine b_iaddN dX12_notes_27 ?_
        refine b_aload_n dX12_notes_28 rfl ?_
        refine g_get dX12_notes_29 fX12_13 a77 rfl ?_
        refine b_bipush (v := nI 121) dX12_notes_32 (by decide) ?_
        refine b_iload_n dX12_notes_34 rfl ?_
        refine b_iaddN dX12_notes_35 ?_
        refine g_iald dX12_notes_36 a78 rfl (by omega) ?_
        refine g_iast dX12_notes_37 a78 rfl (by omega) ?_
        refine b_iinc dX12_notes_38 rfl (nI_1 _) (by decide) rfl ?_
        refine b_goto 14 dX12_notes_41 (by decide) ?_
        refine b_sig ?_ (ih (i + 1) (by omega))
        funext c q
        rw [pt_at]
        unfold shS
        by_cases h1 : c = 78 ∧ q = 114 + i
        · rw [if_pos h1, if_neg (by omega), if_pos (by omega), h1.2, show 114 + i + 7 = 121 + i by omega]
        · rw [if_neg h1]
          by_cases h2 : c = 78 ∧ 114 ≤ q ∧ q < 114 + i
          · rw [if_pos h2, if_pos (by omega)]
          · rw [if_neg h2, if_neg (by omega)]
    have e0 : shS σ 0 = σ := by funext c q; unfold shS; rw [if_neg (by omega)]
    have := lp 77 0 (by omega)
    rw [e0] at this
    exact this
theorem m_asks {G : GT} {d : Nat} {σ : ST} {μ : SL} {L : LD} {p f : Nat} (hM : MV σ L) (hp : p < L.P) (hf : f < L.F) : Fn G (d + 4) mX12_asks [.ref (G.b0 + 77), .int (nI p), .int (nI f)] (sh G σ μ) (Ret (some (.int (bI (mKn (L.hold f) (poss L p L.t))))) (sh G (pt σ 78 (5 + p) (L.told p ||| L.hint f)) μ)) := by
  have hb := hM.b
  refine fn_of (ls := [some (.ref (G.b0 + 77)), some (.int (nI p)), some (.int (nI f)), none]) (by decide +kernel) (Nat.le_of_ble_eq_true rfl) 1 rfl ?_
  refine b_aload_n dX12_asks_0 rfl ?_
  refine b_iload_n dX12_asks_1 rfl ?_
  refine b_iload_n dX12_asks_2 rfl ?_
  refine g_callV [.int (nI p), .int (nI f)] dX12_asks_3 kX12_knowsNow lX12_257 a77 rfl rfl (m_knowsNow hM hp hf) rfl rfl (Nat.le_of_ble_eq_true rfl) ?_
  refine b_if_eq 13 dX12_asks_6 (by decide) (fun c1 => ?_) (fun c1 => ?_)
  · skip
    have c2 := (bI_0 _).mp c1
    refine b_iconst (v := nI 0) dX12_asks_13 (by decide) ?_
    refine b_istore_n dX12_asks_14 (by decide) rfl ?_
    refine b_aload_n dX12_asks_15 rfl ?_
    refine g_get dX12_asks_16 fX12_13 a77 rfl ?_
    refine b_iconst (v := nI 5) dX12_asks_19 (by decide) ?_
    refine b_iload_n dX12_asks_20 rfl ?_
    refine b_iaddN dX12_asks_21 ?_
    refine b_dup2 dX12_asks_22 rfl rfl ?_
    refine g_iald dX12_asks_23 a78 rfl (by omega) ?_
    refine b_top (hM.told (by omega)) ?_
    refine b_aload_n dX12_asks_24 rfl ?_
    refine g_get dX12_asks_25 fX12_13 a77 rfl ?_
    refine b_bipush (v := nI 97) dX12_asks_28 (by decide) ?_
    refine b_iload_n dX12_asks_30 rfl ?_
    refine b_iaddN dX12_asks_31 ?_
    refine g_iald dX12_asks_32 a78 rfl (by omega) ?_
    refine b_top (hM.hint (by omega)) ?_
    refine b_ior dX12_asks_33 ?_
    refine g_iast dX12_asks_34 a78 rfl (by omega) ?_
    refine b_iload_n dX12_asks_35 rfl ?_
    exact b_iret dX12_asks_36 ⟨by rw [c2]; rfl, rfl⟩
  · skip
    have c2 := (bI_1 _).mp c1
    refine b_iconst (v := nI 1) dX12_asks_9 (by decide) ?_
    refine b_goto 14 dX12_asks_10 (by decide) ?_
    refine b_istore_n dX12_asks_14 (by decide) rfl ?_
    refine b_aload_n dX12_asks_15 rfl ?_
    refine g_get dX12_asks_16 fX12_13 a77 rfl ?_
    refine b_iconst (v := nI 5) dX12_asks_19 (by decide) ?_
    refine b_iload_n dX12_asks_20 rfl ?_
    refine b_iaddN dX12_asks_21 ?_
    refine b_dup2 dX12_asks_22 rfl rfl ?_
    refine g_iald dX12_asks_23 a78 rfl (by omega) ?_
    refine b_top (hM.told (by omega)) ?_
    refine b_aload_n dX12_asks_24 rfl ?_
    refine g_get dX12_asks_25 fX12_13 a77 rfl ?_
    refine b_bipush (v := nI 97) dX12_asks_28 (by decide) ?_
    refine b_iload_n dX12_asks_30 rfl ?_
    refine b_iaddN dX12_asks_31 ?_
    refine g_iald dX12_asks_32 a78 rfl (by omega) ?_
    refine b_top (hM.hint (by omega)) ?_
    refine b_ior dX12_asks_33 ?_
    refine g_iast dX12_asks_34 a78 rfl (by omega) ?_
    refine b_iload_n dX12_asks_35 rfl ?_
    exact b_iret dX12_asks_36 ⟨by rw [c2]; rfl, rfl⟩
def DyM (σ s : ST) (L : LD) : Prop := (∀ c, c ≠ 78 → c ≠ 87 → s c = σ c) ∧ (∀ q, q < 5 ∨ 11 ≤ q → s 78 q = σ 78 q) ∧ MV s (stT L (mNext L.road L.told L.P))
theorem m_daysOne {G : GT} {d : Nat} {σ : ST} {μ : SL} {L : LD} (hM : MV σ L) : Fn G (d + 1) mX12_daysOne [.ref (G.b0 + 77)] (sh G σ μ) (fun r h' => r = some (.int (bI (mDayB L.road L.told L.P L.P))) ∧ ∃ s : ST, h' = sh G s μ ∧ DyM σ s L) := by
  have hb := hM.b
  refine fn_of (ls := [some (.ref (G.b0 + 77)), none, none, none]) (by decide +kernel) (Nat.le_of_ble_eq_true rfl) 3 rfl ?_
  refine b_iconst (v := nI 0) dX12_daysOne_0 (by decide) ?_
  refine b_istore_n dX12_daysOne_1 (by decide) rfl ?_
  refine b_iconst (v := nI 0) dX12_daysOne_2 (by decide) ?_
  refine b_istore_n dX12_daysOne_3 (by decide) rfl ?_
  have lpB : ∀ (n i : Nat) (s : ST) (z3 : Option Value), i + n = L.P → (∀ c, c ≠ 78 → c ≠ 87 → s c = σ c) → (∀ q, q < 5 ∨ 11 ≤ q → s 78 q = σ 78 q) → (∀ p, p < L.P → s 87 p = mDay1 L.road L.told p L.P) → (∀ p, p < L.P → s 78 (5 + p) = if p < i then mDay1 L.road L.told p L.P else L.told p) → BB G RX12 cX12_daysOne 4 (some .boolean) (d + 1) (QM G (fun r h' => r = some (.int (bI (mDayB L.road L.told L.P L.P))) ∧ ∃ s : ST, h' = sh G s μ ∧ DyM σ s L)) 92 [some (.ref (G.b0 + 77)), some (.int (bI (mDayB L.road L.told L.P i))), some (.int (nI i)), z3] [] (sh G s μ) := by
    intro n
    induction n with
    | zero =>
      intro i s z3 hi f1 f2 f3 f4
      refine b_iload_n dX12_daysOne_92 rfl ?_
      refine b_aload_n dX12_daysOne_93 rfl ?_
      refine g_get dX12_daysOne_94 fX12_13 a77 rfl ?_
      refine b_iconst (v := nI 3) dX12_daysOne_97 (by decide) ?_
      refine g_iald dX12_daysOne_98 a78 rfl (by omega) ?_
      refine b_top (show s 78 3 = nI L.P by rw [f2 3 (by omega)]; exact hM.cP) ?_
      refine b_icmp_ge_t 147 dX12_daysOne_99 (by decide) (nI_le (by omega) (by omega)) ?_
      refine b_iload_n dX12_daysOne_147 rfl ?_
      refine b_zret dX12_daysOne_148 (bI_n _) ⟨by rw [show i = L.P by omega], s, rfl, f1, f2, MV_T hM (by rw [f1 77 (by omega) (by omega)]) f2 (fun p hp => ?_)⟩
      rw [f4 p hp, if_pos (by omega), mNext, if_pos hp]
    | succ n ih =>
      intro i s z3 hi f1 f2 f3 f4
      refine b_iload_n dX12_daysOne_92 rfl ?_
      refine b_aload_n dX12_daysOne_93 rfl ?_
      refine g_get dX12_daysOne_94 fX12_13 a77 rfl ?_
      refine b_iconst (v := nI 3) dX12_daysOne_97 (by decide) ?_
      refine g_iald dX12_daysOne_98 a78 rfl (by omega) ?_
      refine b_top (show s 78 3 = nI L.P by rw [f2 3 (by omega)]; exact hM.cP) ?_
      refine b_icmp_ge_f 147 dX12_daysOne_99 (by decide) (nI_ge (by omega) (by omega)) ?_
      refine b_iload_n dX12_daysOne_102 rfl ?_
      refine b_aload_n dX12_daysOne_103 rfl ?_
      refine g_get dX12_daysOne_104 fX12_45 a77 rfl ?_
      refine b_iload_n dX12_daysOne_107 rfl ?_
      refine g_iald dX12_daysOne_108 a87 rfl (by omega) ?_
      refine b_top (f3 i (by omega)) ?_
      refine b_aload_n dX12_daysOne_109 rfl ?_
      refine g_get dX12_daysOne_110 fX12_13 a77 rfl ?_
      refine b_iconst (v := nI 5) dX12_daysOne_113 (by decide) ?_
      refine b_iload_n dX12_daysOne_114 rfl ?_
      refine b_iaddN dX12_daysOne_115 ?_
      refine g_iald dX12_daysOne_116 a78 rfl (by omega) ?_
      refine b_top (show s 78 (5 + i) = L.told i by rw [f4 i (by omega), if_neg (by omega)]) ?_
      have nx : ∀ b : Bool, b = mDayB L.road L.told L.P (i + 1) → BB G RX12 cX12_daysOne 4 (some .boolean) (d + 1) (QM G (fun r h' => r = some (.int (bI (mDayB L.road L.told L.P L.P))) ∧ ∃ s : ST, h' = sh G s μ ∧ DyM σ s L)) 126 [some (.ref (G.b0 + 77)), some (.int (bI (mDayB L.road L.told L.P i))), some (.int (nI i)), z3] [.int (bI b)] (sh G s μ) := by
        intro b hbb
        subst hbb
        refine b_istore_n dX12_daysOne_126 (by decide) rfl ?_
        refine b_aload_n dX12_daysOne_127 rfl ?_
        refine g_get dX12_daysOne_128 fX12_13 a77 rfl ?_
        refine b_iconst (v := nI 5) dX12_daysOne_131 (by decide) ?_
        refine b_iload_n dX12_daysOne_132 rfl ?_
        refine b_iaddN dX12_daysOne_133 ?_
        refine b_aload_n dX12_daysOne_134 rfl ?_
        refine g_get dX12_daysOne_135 fX12_45 a77 rfl ?_
        refine b_iload_n dX12_daysOne_138 rfl ?_
        refine g_iald dX12_daysOne_139 a87 rfl (by omega) ?_
        refine b_top (f3 i (by omega)) ?_
        refine g_iast dX12_daysOne_140 a78 rfl (by omega) ?_
        refine b_iinc dX12_daysOne_141 rfl (nI_1 _) (by decide) rfl ?_
        refine b_goto 92 dX12_daysOne_144 (by decide) ?_
        refine ih (i + 1) _ z3 (by omega) (fun c h1 h2 => by rw [pt_r h1]; exact f1 c h1 h2) (fun q hq => by rw [pt_j (by omega)]; exact f2 q hq) (fun p hp => by rw [pt_a (by omega)]; exact f3 p hp) (fun p hp => ?_)
        by_cases e : p = i
        · subst e; rw [pt_s, if_pos (by omega)]
        · rw [pt_j (by omega), f4 p hp]
          by_cases e2 : p < i
          · rw [if_pos e2, if_pos (by omega)]
          · rw [if_neg e2, if_neg (by omega)]
      refine b_icmp_eq 124 dX12_daysOne_117 (by decide) (fun c1 => ?_) (fun c1 => ?_)
      · skip
        refine b_iconst (v := nI 0) dX12_daysOne_124 (by decide) ?_
        refine b_ior dX12_daysOne_125 ?_
        refine b_top (y := bI (mDayB L.road L.told L.P (i + 1))) ?_ (nx _ rfl)
        rw [mDayB, decide_eq_true c1, show (nI 0) = bI false from rfl, bI_or]; rfl
      · skip
        refine b_iconst (v := nI 1) dX12_daysOne_120 (by decide) ?_
        refine b_goto 125 dX12_daysOne_121 (by decide) ?_
        refine b_ior dX12_daysOne_125 ?_
        refine b_top (y := bI (mDayB L.road L.told L.P (i + 1))) ?_ (nx _ rfl)
        rw [mDayB, decide_eq_false c1, show (nI 1) = bI true from rfl, bI_or]; rfl
  have lpA : ∀ (n i : Nat) (s : ST) (z3 : Option Value), i + n = L.P → (∀ c, c ≠ 87 → s c = σ c) → (∀ p, p < i → s 87 p = mDay1 L.road L.told p L.P) → BB G RX12 cX12_daysOne 4 (some .boolean) (d + 1) (QM G (fun r h' => r = some (.int (bI (mDayB L.road L.told L.P L.P))) ∧ ∃ s : ST, h' = sh G s μ ∧ DyM σ s L)) 4 [some (.ref (G.b0 + 77)), some (.int (nI 0)), some (.int (nI i)), z3] [] (sh G s μ) := by
    intro n
    induction n with
    | zero =>
      intro i s z3 hi f1 f3
      have hMs : MV s L := MV_of hM (by rw [f1 77 (by omega)]) (f1 78 (by omega))
      refine b_iload_n dX12_daysOne_4 rfl ?_
      refine b_aload_n dX12_daysOne_5 rfl ?_
      refine g_get dX12_daysOne_6 fX12_13 a77 rfl ?_
      refine b_iconst (v := nI 3) dX12_daysOne_9 (by decide) ?_
      refine g_iald dX12_daysOne_10 a78 rfl (by omega) ?_
      refine b_top hMs.cP ?_
      refine b_icmp_ge_t 90 dX12_daysOne_11 (by decide) (nI_le (by omega) (by omega)) ?_
      refine b_iconst (v := nI 0) dX12_daysOne_90 (by decide) ?_
      refine b_istore_n dX12_daysOne_91 (by decide) rfl ?_
      exact lpB L.P 0 s z3 (by omega) (fun c _ h => f1 c h) (fun q _ => by rw [f1 78 (by omega)]) (fun p hp => f3 p (by omega)) (fun p hp => by rw [hMs.told hp, if_neg (by omega)])
    | succ n ih =>
      intro i s z3 hi f1 f3
      have hMs : MV s L := MV_of hM (by rw [f1 77 (by omega)]) (f1 78 (by omega))
      refine b_iload_n dX12_daysOne_4 rfl ?_
      refine b_aload_n dX12_daysOne_5 rfl ?_
      refine g_get dX12_daysOne_6 fX12_13 a77 rfl ?_
      refine b_iconst (v := nI 3) dX12_daysOne_9 (by decide) ?_
      refine g_iald dX12_daysOne_10 a78 rfl (by omega) ?_
      refine b_top hMs.cP ?_
      refine b_icmp_ge_f 90 dX12_daysOne_11 (by decide) (nI_ge (by omega) (by omega)) ?_
      refine b_aload_n dX12_daysOne_14 rfl ?_
      refine g_get dX12_daysOne_15 fX12_45 a77 rfl ?_
      refine b_iload_n dX12_daysOne_18 rfl ?_
      refine b_aload_n dX12_daysOne_19 rfl ?_
      refine g_get dX12_daysOne_20 fX12_13 a77 rfl ?_
      refine b_iconst (v := nI 5) dX12_daysOne_23 (by decide) ?_
      refine b_iload_n dX12_daysOne_24 rfl ?_
      refine b_iaddN dX12_daysOne_25 ?_
      refine g_iald dX12_daysOne_26 a78 rfl (by omega) ?_
      refine b_top (hMs.told (by omega)) ?_
      refine g_iast dX12_daysOne_27 a87 rfl (by omega) ?_
      refine b_iconst (v := nI 0) dX12_daysOne_28 (by decide) ?_
      refine b_istore_n dX12_daysOne_29 (by decide) rfl ?_
      have lp2 : ∀ (m q : Nat) (s2 : ST), q + m = L.P → (∀ c, c ≠ 87 → s2 c = σ c) → (∀ p, p < i → s2 87 p = mDay1 L.road L.told p L.P) → s2 87 i = mDay1 L.road L.told i q → BB G RX12 cX12_daysOne 4 (some .boolean) (d + 1) (QM G (fun r h' => r = some (.int (bI (mDayB L.road L.told L.P L.P))) ∧ ∃ s : ST, h' = sh G s μ ∧ DyM σ s L)) 30 [some (.ref (G.b0 + 77)), some (.int (nI 0)), some (.int (nI i)), some (.int (nI q))] [] (sh G s2 μ) := by
        intro m
        induction m with
        | zero =>
          intro q s2 hq k1 k3 k4
          have hM2 : MV s2 L := MV_of hM (by rw [k1 77 (by omega)]) (k1 78 (by omega))
          refine b_iload_n dX12_daysOne_30 rfl ?_
          refine b_aload_n dX12_daysOne_31 rfl ?_
          refine g_get dX12_daysOne_32 fX12_13 a77 rfl ?_
          refine b_iconst (v := nI 3) dX12_daysOne_35 (by decide) ?_
          refine g_iald dX12_daysOne_36 a78 rfl (by omega) ?_
          refine b_top hM2.cP ?_
          refine b_icmp_ge_t 84 dX12_daysOne_37 (by decide) (nI_le (by omega) (by omega)) ?_
          refine b_iinc dX12_daysOne_84 rfl (nI_1 _) (by decide) rfl ?_
          refine b_goto 4 dX12_daysOne_87 (by decide) ?_
          refine ih (i + 1) s2 _ (by omega) k1 (fun p hp => ?_)
          by_cases e : p = i
          · subst e; rw [k4, show q = L.P by omega]
          · exact k3 p (by omega)
        | succ m ihm =>
          intro q s2 hq k1 k3 k4
          have hM2 : MV s2 L := MV_of hM (by rw [k1 77 (by omega)]) (k1 78 (by omega))
          refine b_iload_n dX12_daysOne_30 rfl ?_
          refine b_aload_n dX12_daysOne_31 rfl ?_
          refine g_get dX12_daysOne_32 fX12_13 a77 rfl ?_
          refine b_iconst (v := nI 3) dX12_daysOne_35 (by decide) ?_
          refine g_iald dX12_daysOne_36 a78 rfl (by omega) ?_
          refine b_top hM2.cP ?_
          refine b_icmp_ge_f 84 dX12_daysOne_37 (by decide) (nI_ge (by omega) (by omega)) ?_
          refine b_aload_n dX12_daysOne_40 rfl ?_
          refine g_get dX12_daysOne_41 fX12_45 a77 rfl ?_
          refine b_iload_n dX12_daysOne_44 rfl ?_
          refine b_dup2 dX12_daysOne_45 rfl rfl ?_
          refine g_iald dX12_daysOne_46 a87 rfl (by omega) ?_
          refine b_top k4 ?_
          refine b_aload_n dX12_daysOne_47 rfl ?_
          refine g_get dX12_daysOne_48 fX12_13 a77 rfl ?_
          refine b_bipush (v := nI 91) dX12_daysOne_51 (by decide) ?_
          refine b_iload_n dX12_daysOne_53 rfl ?_
          refine b_iaddN dX12_daysOne_54 ?_
          refine g_iald dX12_daysOne_55 a78 rfl (by omega) ?_
          refine b_top (hM2.road (by omega)) ?_
          refine b_i2l dX12_daysOne_56 ?_
          refine b_iload_n dX12_daysOne_57 rfl ?_
          refine b_callSr [.long ((L.road i).toInt64), .int (nI q)] dX12_daysOne_58 kX12_isIn lX12_222 (c_isIn (by omega)) rfl rfl (Nat.le_of_ble_eq_true rfl) ?_
          refine b_if_eq 75 dX12_daysOne_61 (by decide) (fun c2 => ?_) (fun c2 => ?_)
          · skip
            refine b_iconst (v := nI 0) dX12_daysOne_75 (by decide) ?_
            refine b_ior dX12_daysOne_76 ?_
            refine g_iast dX12_daysOne_77 a87 rfl (by omega) ?_
            refine b_iinc dX12_daysOne_78 rfl (nI_1 _) (by decide) rfl ?_
            refine b_goto 30 dX12_daysOne_81 (by decide) ?_
            refine ihm (q + 1) _ (by omega) (fun c h => by rw [pt_r h]; exact k1 c h) (fun p hp => by rw [pt_j (by omega)]; exact k3 p hp) ?_
            rw [pt_s, mDay1, if_neg (by rw [(bI_0 _).mp c2]; simp), or_0]
          · skip
            refine b_aload_n dX12_daysOne_64 rfl ?_
            refine g_get dX12_daysOne_65 fX12_13 a77 rfl ?_
            refine b_iconst (v := nI 5) dX12_daysOne_68 (by decide) ?_
            refine b_iload_n dX12_daysOne_69 rfl ?_
            refine b_iaddN dX12_daysOne_70 ?_
            refine g_iald dX12_daysOne_71 a78 rfl (by omega) ?_
            refine b_top (hM2.told (by omega)) ?_
            refine b_goto 76 dX12_daysOne_72 (by decide) ?_
            refine b_ior dX12_daysOne_76 ?_
            refine g_iast dX12_daysOne_77 a87 rfl (by omega) ?_
            refine b_iinc dX12_daysOne_78 rfl (nI_1 _) (by decide) rfl ?_
            refine b_goto 30 dX12_daysOne_81 (by decide) ?_
            refine ihm (q + 1) _ (by omega) (fun c h => by rw [pt_r h]; exact k1 c h) (fun p hp => by rw [pt_j (by omega)]; exact k3 p hp) ?_
            rw [pt_s, mDay1, if_pos ((bI_1 _).mp c2)]
      refine lp2 L.P 0 _ (by omega) (fun c h => by rw [pt_r h]; exact f1 c h) (fun p hp => by rw [pt_j (by omega)]; exact f3 p hp) (pt_s _ _ _ _)
  exact lpA L.P 0 σ _ (by omega) (fun _ _ => rfl) (fun p hp => absurd hp (by omega))

