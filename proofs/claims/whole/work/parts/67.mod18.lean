/-! ===== the reference: the tape; choices ===== -/
def fdv (a b c d e : Int32) (k : Nat) : Int32 := if k < 4 then a else if k < 8 then b else if k < 12 then c else if k < 16 then d else e
def fdb (a b c d e : Int32) (k : Nat) : Int32 := (fdv a b c d e k >>> (nI (24 - 8 * (k % 4)) &&& 31)) &&& nI 255
def PFd (G : GT) (μ : SL) (σ : ST) (T : Nat) (a b c d e : Int32) : Option Value → HT → Prop := fun r h' => r = some (.int (nI (T + 20))) ∧ ∃ s : ST, h' = sh G s μ ∧ (∀ c, c ≠ 80 → c ≠ 77 → s c = σ c) ∧ (∀ q, q ≠ 8 → s 77 q = σ 77 q) ∧ s 77 8 = nI (T + 20) ∧ (∀ q, q < T ∨ T + 20 ≤ q → s 80 q = σ 80 q) ∧ ∀ k, k < 20 → s 80 (T + k) = fdb a b c d e k
theorem m_X_feed {G : GT} {d : Nat} {σ : ST} {μ : SL} {L : LD} {T : Nat} {a b c d1 e : Int32} (hM : MV σ L) (hT : σ 77 8 = nI T) (hT9 : T ≤ 900) : Fn G d mX12_feed [.ref (G.b0 + 77), .int a, .int b, .int c, .int d1, .int e] (sh G σ μ) (if T + 20 ≤ 900 then PFd G μ σ T a b c d1 e else PNo G μ σ (-5)) := by
  refine fn_of (ls := [some (.ref (G.b0 + 77)), some (.int a), some (.int b), some (.int c), some (.int d1), some (.int e), none, none]) (by decide +kernel) (Nat.le_of_ble_eq_true rfl) 2 rfl ?_
  refine b_aload_n dX12_feed_0 rfl ?_
  refine b_iconst (v := nI 0) dX12_feed_1 (by decide) ?_
  refine g_put dX12_feed_2 wX12_1 a77 tfX12_0 (Nat.le_of_ble_eq_true rfl) rfl ?_
  refine b_sig hM.t0 ?_
  refine b_aload_n dX12_feed_5 rfl ?_
  refine g_geti (x := nI T) dX12_feed_6 fX12_83 a77 rfl hT ?_
  refine b_bipush (v := nI 20) dX12_feed_9 (by decide) ?_
  refine b_iaddN dX12_feed_11 ?_
  refine b_sipush (v := nI 900) dX12_feed_12 (by decide) ?_
  refine b_icmp_le 21 dX12_feed_15 (by decide) (fun c1 => ?_) (fun c1 => ?_)
  · skip
    rw [nI_leI (by omega) (by omega)] at c1
    rw [if_pos c1]
    refine b_iconst (v := nI 0) dX12_feed_21 (by decide) ?_
    refine b_istore dX12_feed_22 (by decide) rfl ?_
    have lp : ∀ (n i : Nat) (s : ST) (z7 : Option Value), i + n = 20 → (∀ c, c ≠ 80 → c ≠ 77 → s c = σ c) → (∀ q, q ≠ 8 → s 77 q = σ 77 q) → s 77 8 = nI (T + i) → (∀ q, q < T ∨ T + i ≤ q → s 80 q = σ 80 q) → (∀ k, k < i → s 80 (T + k) = fdb a b c d1 e k) → BB G RX12 cX12_feed 8 (some .int) d (QM G (PFd G μ σ T a b c d1 e)) 24 [some (.ref (G.b0 + 77)), some (.int a), some (.int b), some (.int c), some (.int d1), some (.int e), some (.int (nI i)), z7] [] (sh G s μ) := by
      intro n
      induction n with
      | zero =>
        intro i s z7 hi f1 f2 f3 f4 f5
        have ei : i = 20 := by omega
        subst ei
        refine b_iload dX12_feed_24 rfl ?_
        refine b_bipush (v := nI 20) dX12_feed_26 (by decide) ?_
        refine b_icmp_ge_t 121 dX12_feed_28 (by decide) (nI_le (by omega) (by omega)) ?_
        refine b_aload_n dX12_feed_121 rfl ?_
        refine g_geti (x := nI (T + 20)) dX12_feed_122 fX12_83 a77 rfl f3 ?_
        exact b_iret dX12_feed_125 ⟨rfl, s, rfl, f1, f2, f3, f4, f5⟩
      | succ n ih =>
        intro i s z7 hi f1 f2 f3 f4 f5
        have fin : ∀ v : Int32, v = fdv a b c d1 e i → BB G RX12 cX12_feed 8 (some .int) d (QM G (PFd G μ σ T a b c d1 e)) 77 [some (.ref (G.b0 + 77)), some (.int a), some (.int b), some (.int c), some (.int d1), some (.int e), some (.int (nI i)), z7] [.int v] (sh G s μ) := by
          intro v hv
          subst hv
          refine b_istore dX12_feed_77 (by decide) rfl ?_
          refine b_aload_n dX12_feed_79 rfl ?_
          refine g_get dX12_feed_80 fX12_21 a77 rfl ?_
          refine b_aload_n dX12_feed_83 rfl ?_
          refine g_geti (x := nI (T + i)) dX12_feed_84 fX12_83 a77 rfl f3 ?_
          refine b_iload dX12_feed_87 rfl ?_
          refine b_bipush (v := nI 24) dX12_feed_89 (by decide) ?_
          refine b_bipush (v := nI 8) dX12_feed_91 (by decide) ?_
          refine b_iload dX12_feed_93 rfl ?_
          refine b_iconst (v := nI 4) dX12_feed_95 (by decide) ?_
          refine b_irem dX12_feed_96 (nI_ne0 (by omega) (by omega)) ?_
          refine b_top (y := nI (i % 4)) (pk_rem (by omega) (by omega) (by omega)) ?_
          refine b_imulN dX12_feed_97 ?_
          refine b_isub dX12_feed_98 ?_
          refine b_top (y := nI (24 - (8 * (i % 4)))) (nI_sub (by omega)) ?_
          refine b_ishr dX12_feed_99 ?_
          refine b_sipush (v := nI 255) dX12_feed_100 (by decide) ?_
          refine b_iand dX12_feed_103 ?_
          refine g_iast dX12_feed_104 a80 rfl (by omega) ?_
          refine b_aload_n dX12_feed_105 rfl ?_
          refine b_dup dX12_feed_106 rfl ?_
          refine g_geti (x := nI (T + i)) dX12_feed_107 fX12_83 a77 rfl (by rw [pt_a (by omega)]; exact f3) ?_
          refine b_iconst (v := nI 1) dX12_feed_110 (by decide) ?_
          refine b_iaddN dX12_feed_111 ?_
          refine g_put dX12_feed_112 wX12_83 a77 tfX12_8 (Nat.le_of_ble_eq_true rfl) rfl ?_
          refine b_iinc dX12_feed_115 rfl (nI_1 _) (by decide) rfl ?_
          refine b_goto 24 dX12_feed_118 (by decide) ?_
          refine ih (i + 1) _ _ (by omega) (fun c h1 h2 => by rw [pt_r h2, pt_r h1]; exact f1 c h1 h2) (fun q hq => by rw [pt_j hq, pt_a (by omega)]; exact f2 q hq) (by rw [pt_s, Nat.add_assoc]) (fun q hq => by rw [pt_a (by omega), pt_j (by omega)]; exact f4 q (by omega)) (fun k hk => ?_)
          rw [pt_a (by omega)]
          by_cases ek : k = i
          · subst ek; rw [pt_s]; rfl
          · rw [pt_j (by omega)]; exact f5 k (by omega)
        refine b_iload dX12_feed_24 rfl ?_
        refine b_bipush (v := nI 20) dX12_feed_26 (by decide) ?_
        refine b_icmp_ge_f 121 dX12_feed_28 (by decide) (nI_ge (by omega) (by omega)) ?_
        refine b_iload dX12_feed_31 rfl ?_
        refine b_iconst (v := nI 4) dX12_feed_33 (by decide) ?_
        refine b_icmp_ge 41 dX12_feed_34 (by decide) (fun c2 => ?_) (fun c2 => ?_)
        · skip
          rw [nI_leI (by omega) (by omega)] at c2
          refine b_iload dX12_feed_41 rfl ?_
          refine b_bipush (v := nI 8) dX12_feed_43 (by decide) ?_
          refine b_icmp_ge 52 dX12_feed_45 (by decide) (fun c3 => ?_) (fun c3 => ?_)
          · skip
            rw [nI_leI (by omega) (by omega)] at c3
            refine b_iload dX12_feed_52 rfl ?_
            refine b_bipush (v := nI 12) dX12_feed_54 (by decide) ?_
            refine b_icmp_ge 63 dX12_feed_56 (by decide) (fun c4 => ?_) (fun c4 => ?_)
            · skip
              rw [nI_leI (by omega) (by omega)] at c4
              refine b_iload dX12_feed_63 rfl ?_
              refine b_bipush (v := nI 16) dX12_feed_65 (by decide) ?_
              refine b_icmp_ge 75 dX12_feed_67 (by decide) (fun c5 => ?_) (fun c5 => ?_)
              · skip
                rw [nI_leI (by omega) (by omega)] at c5
                refine b_iload dX12_feed_75 rfl ?_
                exact fin _ (by unfold fdv; rw [if_neg (by omega), if_neg (by omega), if_neg (by omega), if_neg (by omega)])
              · skip
                rw [nI_leI (by omega) (by omega)] at c5
                refine b_iload dX12_feed_70 rfl ?_
                refine b_goto 77 dX12_feed_72 (by decide) ?_
                exact fin _ (by unfold fdv; rw [if_neg (by omega), if_neg (by omega), if_neg (by omega), if_pos (by omega)])
            · skip
              rw [nI_leI (by omega) (by omega)] at c4
              refine b_iload_n dX12_feed_59 rfl ?_
              refine b_goto 77 dX12_feed_60 (by decide) ?_
              exact fin _ (by unfold fdv; rw [if_neg (by omega), if_neg (by omega), if_pos (by omega)])
          · skip
            rw [nI_leI (by omega) (by omega)] at c3
            refine b_iload_n dX12_feed_48 rfl ?_
            refine b_goto 77 dX12_feed_49 (by decide) ?_
            exact fin _ (by unfold fdv; rw [if_neg (by omega), if_pos (by omega)])
        · skip
          rw [nI_leI (by omega) (by omega)] at c2
          refine b_iload_n dX12_feed_37 rfl ?_
          refine b_goto 77 dX12_feed_38 (by decide) ?_
          exact fin _ (by unfold fdv; rw [if_pos (by omega)])
    exact lp 20 0 σ _ (by omega) (fun _ _ _ => rfl) (fun _ _ => rfl) hT (fun _ _ => rfl) (fun k hk => absurd hk (by omega))
  · skip
    rw [nI_leI (by omega) (by omega)] at c1
    rw [if_neg c1]
    refine b_bipush (v := -5) dX12_feed_18 (by decide) ?_
    exact b_iret dX12_feed_20 ⟨rfl, rfl⟩
theorem m_choices {G : GT} {d : Nat} {σ : ST} {μ : SL} {L : LD} (hM : MV σ L) : Fn G d mX12_choices [.ref (G.b0 + 77)] (sh G σ μ) (Ret (some (.int (nI (chN L.F L.P)))) (sh G σ μ)) := by
  refine fn_of (ls := [some (.ref (G.b0 + 77))]) (by decide +kernel) (Nat.le_of_ble_eq_true rfl) 0 rfl ?_
  refine b_iconst (v := nI 1) dX12_choices_0 (by decide) ?_
  refine b_aload_n dX12_choices_1 rfl ?_
  refine g_get dX12_choices_2 fX12_13 a77 rfl ?_
  refine b_iconst (v := nI 3) dX12_choices_5 (by decide) ?_
  refine g_iald dX12_choices_6 a78 rfl (by omega) ?_
  refine b_top hM.cP ?_
  refine b_aload_n dX12_choices_7 rfl ?_
  refine g_get dX12_choices_8 fX12_13 a77 rfl ?_
  refine b_iconst (v := nI 2) dX12_choices_11 (by decide) ?_
  refine g_iald dX12_choices_12 a78 rfl (by omega) ?_
  refine b_top hM.cF ?_
  refine b_imulN dX12_choices_13 ?_
  refine b_iaddN dX12_choices_14 ?_
  exact b_iret dX12_choices_15 ⟨rfl, rfl⟩
theorem m_tellsChoice {G : GT} {d : Nat} {σ s : ST} {μ : SL} {L : LD} {i : Nat} (hM : MV s L) (hS : S0 σ s) (hi : i < chN L.F L.P) : Fn G d mX12_tellsChoice [.ref (G.b0 + 77), .int (nI i)] (sh G s μ) (fun r h' => r = none ∧ ∃ s' : ST, h' = sh G s' μ ∧ S0 σ s' ∧ MV s' (stT L (chT L.told L.F i))) := by
  have hb := hM.b
  have hC := chN_le hb.2.1 hb.2.2.1
  refine fn_of (ls := [some (.ref (G.b0 + 77)), some (.int (nI i))]) (by decide +kernel) (Nat.le_of_ble_eq_true rfl) 0 rfl ?_
  refine b_iload_n dX12_tellsChoice_0 rfl ?_
  refine b_if_le 36 dX12_tellsChoice_1 (by decide) (fun c1 => ?_) (fun c1 => ?_)
  · skip
    have d1 : i = 0 := by
      rcases Nat.eq_zero_or_pos i with q | q
      · exact q
      · exact absurd c1 (nI_nle q (by omega))
    refine b_vret dX12_tellsChoice_36 ⟨rfl, s, rfl, hS, ?_⟩
    unfold chT
    rw [if_pos d1]
    exact hM
  · skip
    have d1 : 0 < i := Nat.pos_of_ne_zero (fun z => c1 (by rw [z]; decide))
    obtain ⟨hF, hp6⟩ := chN_i hb.2.2.1 hi d1
    have hpP : (i - 1) / L.F < L.P := by
      rw [Nat.div_lt_iff_lt_mul hF]
      unfold chN at hi; omega
    have hd1 : (i - 1) / L.F ≤ i - 1 := Nat.div_le_self _ _
    have hm1 : (i - 1) % L.F < L.F := Nat.mod_lt _ hF
    refine b_aload_n dX12_tellsChoice_4 rfl ?_
    refine g_get dX12_tellsChoice_5 fX12_13 a77 rfl ?_
    refine b_iconst (v := nI 5) dX12_tellsChoice_8 (by decide) ?_
    refine b_iload_n dX12_tellsChoice_9 rfl ?_
    refine b_iconst (v := nI 1) dX12_tellsChoice_10 (by decide) ?_
    refine b_isub dX12_tellsChoice_11 ?_
    refine b_top (y := nI (i - 1)) (nI_sub (by omega)) ?_
    refine b_aload_n dX12_tellsChoice_12 rfl ?_
    refine g_get dX12_tellsChoice_13 fX12_13 a77 rfl ?_
    refine b_iconst (v := nI 2) dX12_tellsChoice_16 (by decide) ?_
    refine g_iald dX12_tellsChoice_17 a78 rfl (by omega) ?_
    refine b_top hM.cF ?_
    refine b_idiv dX12_tellsChoice_18 (nI_ne0 (by omega) (by omega)) ?_
    refine b_top (y := nI ((i - 1) / L.F)) (pk_div (by omega) (by omega) (by omega)) ?_
    refine b_iaddN dX12_tellsChoice_19 ?_
    refine b_dup2 dX12_tellsChoice_20 rfl rfl ?_
    refine g_iald dX12_tellsChoice_21 a78 rfl (by omega) ?_
    refine b_top (hM.told (by omega)) ?_
    refine b_iconst (v := nI 1) dX12_tellsChoice_22 (by decide) ?_
    refine b_iload_n dX12_tellsChoice_23 rfl ?_
    refine b_iconst (v := nI 1) dX12_tellsChoice_24 (by decide) ?_
    refine b_isub dX12_tellsChoice_25 ?_
    refine b_top (y := nI (i - 1)) (nI_sub (by omega)) ?_
    refine b_aload_n dX12_tellsChoice_26 rfl ?_
    refine g_get dX12_tellsChoice_27 fX12_13 a77 rfl ?_
    refine b_iconst (v := nI 2) dX12_tellsChoice_30 (by decide) ?_
    refine g_iald dX12_tellsChoice_31 a78 rfl (by omega) ?_
    refine b_top hM.cF ?_
    refine b_irem dX12_tellsChoice_32 (nI_ne0 (by omega) (by omega)) ?_
    refine b_top (y := nI ((i - 1) % L.F)) (pk_rem (by omega) (by omega) (by omega)) ?_
    refine b_ishl dX12_tellsChoice_33 ?_
    refine b_ior dX12_tellsChoice_34 ?_
    refine g_iast dX12_tellsChoice_35 a78 rfl (by omega) ?_
    refine b_vret dX12_tellsChoice_36 ⟨rfl, _, rfl, S0_pt hS (Nat.le_trans (by omega) (Nat.le_add_right 5 _)) (by omega), ?_⟩
    have e : chT L.told L.F i = fun q => if q = (i - 1) / L.F then L.told ((i - 1) / L.F) ||| (nI 1 <<< (nI ((i - 1) % L.F) &&& 31)) else L.told q := by
      unfold chT
      rw [if_neg (by omega)]
      funext q
      by_cases h : q = (i - 1) / L.F
      · rw [if_pos h, if_pos h, h]
      · rw [if_neg h, if_neg h]
    rw [e]
    exact MV_pt hM hp6
theorem m_codeOf {G : GT} {d : Nat} {σ : ST} {μ : SL} {L : LD} {i : Nat} (hM : MV σ L) (hi : i < chN L.F L.P) : Fn G d mX12_codeOf [.ref (G.b0 + 77), .int (nI i)] (sh G σ μ) (Ret (some (.int (chc L.F i))) (sh G σ μ)) := by
  have hb := hM.b
  have hC := chN_le hb.2.1 hb.2.2.1
  refine fn_of (ls := [some (.ref (G.b0 + 77)), some (.int (nI i))]) (by decide +kernel) (Nat.le_of_ble_eq_true rfl) 0 rfl ?_
  refine b_iload_n dX12_codeOf_0 rfl ?_
  refine b_if_ne 9 dX12_codeOf_1 (by decide) (fun c1 => ?_) (fun c1 => ?_)
  · skip
    have d1 : 0 < i := Nat.pos_of_ne_zero (fun z => c1 (by rw [z]; rfl))
    obtain ⟨hF, hp6⟩ := chN_i hb.2.2.1 hi d1
    refine b_bipush (v := nI 10) dX12_codeOf_9 (by decide) ?_
    refine b_iload_n dX12_codeOf_11 rfl ?_
    refine b_iconst (v := nI 1) dX12_codeOf_12 (by decide) ?_
    refine b_isub dX12_codeOf_13 ?_
    refine b_top (y := nI (i - 1)) (nI_sub (by omega)) ?_
    refine b_aload_n dX12_codeOf_14 rfl ?_
    refine g_get dX12_codeOf_15 fX12_13 a77 rfl ?_
    refine b_iconst (v := nI 2) dX12_codeOf_18 (by decide) ?_
    refine g_iald dX12_codeOf_19 a78 rfl (by omega) ?_
    refine b_top hM.cF ?_
    refine b_idiv dX12_codeOf_20 (nI_ne0 (by omega) (by omega)) ?_
    refine b_top (y := nI ((i - 1) / L.F)) (pk_div (by omega) (by omega) (by omega)) ?_
    refine b_imulN dX12_codeOf_21 ?_
    refine b_iload_n dX12_codeOf_22 rfl ?_
    refine b_iconst (v := nI 1) dX12_codeOf_23 (by decide) ?_
    refine b_isub dX12_codeOf_24 ?_
    refine b_top (y := nI (i - 1)) (nI_sub (by omega)) ?_
    refine b_aload_n dX12_codeOf_25 rfl ?_
    refine g_get dX12_codeOf_26 fX12_13 a77 rfl ?_
    refine b_iconst (v := nI 2) dX12_codeOf_29 (by decide) ?_
    refine g_iald dX12_codeOf_30 a78 rfl (by omega) ?_
    refine b_top hM.cF ?_
    refine b_irem dX12_codeOf_31 (nI_ne0 (by omega) (by omega)) ?_
    refine b_top (y := nI ((i - 1) % L.F)) (pk_rem (by omega) (by omega) (by omega)) ?_
    refine b_iaddN dX12_codeOf_32 ?_
    exact b_iret dX12_codeOf_33 ⟨by rw [chc, if_neg (by omega)], rfl⟩
  · skip
    have d1 : i = 0 := nI_z (by omega) c1
    refine b_bipush (v := -100) dX12_codeOf_4 (by decide) ?_
    refine b_goto 33 dX12_codeOf_6 (by decide) ?_
    exact b_iret dX12_codeOf_33 ⟨by rw [chc, if_pos d1], rfl⟩
/-! inform -/
def fI (c : Nat → Bool) (F : Nat) : Nat → Nat → Int32
  | 0, _ => -1
  | n + 1, i => if c i then chc F i else fI c F n (i + 1)
def hitI (L : LD) (m : Nat) (want : Int32) (i : Nat) : Bool := decide (lst L m (chT L.told L.F i) L.t = want)
theorem ch_more {told : Nat → Int32} {F p f : Nat} (hf : f < F) : chT told F (1 + p * F + f) = more told p f := by
  have e1 : (1 + p * F + f - 1) / F = p := by
    rw [show 1 + p * F + f - 1 = f + F * p by rw [Nat.mul_comm]; omega, Nat.add_mul_div_left _ _ (by omega), Nat.div_eq_of_lt hf, Nat.zero_add]
  have e2 : (1 + p * F + f - 1) % F = f := by
    rw [show 1 + p * F + f - 1 = f + F * p by rw [Nat.mul_comm]; omega, Nat.add_mul_mod_self_left, Nat.mod_eq_of_lt hf]
  unfold chT more
  rw [if_neg (by omega), e1, e2]
  funext q
  by_cases h : q = p
  · rw [if_pos h, if_pos h, h]
  · rw [if_neg h, if_neg h]
theorem chc_pf {F p f : Nat} (hf : f < F) : chc F (1 + p * F + f) = nI (10 * p + f) := by
  have e1 : (1 + p * F + f - 1) / F = p := by
    rw [show 1 + p * F + f - 1 = f + F * p by rw [Nat.mul_comm]; omega, Nat.add_mul_div_left _ _ (by omega), Nat.div_eq_of_lt hf, Nat.zero_add]
  have e2 : (1 + p * F + f - 1) % F = f := by
    rw [show 1 + p * F + f - 1 = f + F * p by rw [Nat.mul_comm]; omega, Nat.add_mul_mod_self_left, Nat.mod_eq_of_lt hf]
  unfold chc
  rw [if_neg (by omega), e1, e2]
theorem fI_2 {L : LD} {m : Nat} {want : Int32} {p r : Nat} : ∀ n f, f + n = L.F → fI (hitI L m want) L.F (n + r) (1 + p * L.F + f) = match mInf2 L m want p n f with
    | some k => nI k
    | none => fI (hitI L m want) L.F r (1 + (p + 1) * L.F)
  | 0, f, h => by
    rw [mInf2, Nat.zero_add, show 1 + p * L.F + f = 1 + (p + 1) * L.F by rw [Nat.add_mul, Nat.one_mul]; omega]
  | n + 1, f, h => by
    rw [show n + 1 + r = (n + r) + 1 by omega, fI, mInf2]
    unfold hitI
    rw [ch_more (by omega), chc_pf (by omega)]
    by_cases c : lst L m (more L.told p f) L.t = want
    · rw [if_pos c, if_pos (by simp [c])]
    · rw [if_neg c, if_neg (by simp [c]), show 1 + p * L.F + f + 1 = 1 + p * L.F + (f + 1) by omega]
      exact fI_2 n (f + 1) (by omega)
theorem fI_1 {L : LD} {m : Nat} {want : Int32} : ∀ n p, p + n = L.P → fI (hitI L m want) L.F (n * L.F) (1 + p * L.F) = mInf L m want n p
  | 0, p, h => by rw [Nat.zero_mul, fI, mInf]
  | n + 1, p, h => by
    have := fI_2 (L := L) (m := m) (want := want) (p := p) (r := n * L.F) L.F 0 (by omega)
    rw [Nat.add_zero, show L.F + n * L.F = (n + 1) * L.F by rw [Nat.add_mul, Nat.one_mul]; omega] at this
    rw [this, mInf]
    cases mInf2 L m want p L.F 0 with
    | some k => rfl
    | none => exact fI_1 n (p + 1) (by omega)
theorem inf_eq {L : LD} {m : Nat} {want : Int32} : fI (hitI L m want) L.F (chN L.F L.P) 0 = if lst L m L.told L.t = want then -100 else mInf L m want L.P 0 := by
  unfold chN
  rw [Nat.add_comm, fI]
  have e0 : hitI L m want 0 = decide (lst L m L.told L.t = want) := rfl
  rw [e0]
  by_cases c : lst L m L.told L.t = want
  · rw [if_pos c, if_pos (by simp [c])]; rfl
  · rw [if_neg c, if_neg (by simp [c])]
    have := fI_1 (L := L) (m := m) (want := want) L.P 0 (by omega)
    rw [Nat.zero_mul] at this
    exact this
theorem chT_ok {L : LD} {i : Nat} (hK : LBk L) (hi : i < chN L.F L.P) {tl : Nat → Int32} (h : ∀ p, p < L.P → lo L.F (tl p)) : ∀ p, p < L.P → lo L.F (chT tl L.F i p) := fun p hp => chT_lo hK.2.2.2.2.2.2.2.2.1 (fun h0 => (chN_i hK.2.2.2.2.2.2.2.2.2 hi h0).1) (h p hp)
theorem m_X_inform {G : GT} {d : Nat} {σ : ST} {μ : SL} {L : LD} {want m : Int32} (hM : MV σ L) (hK : LBk L) : Fn G (d + 4) mX12_inform [.ref (G.b0 + 77), .int want, .int m] (sh G σ μ) (PFm G μ σ (oInform L want m)) := by
  have hb := hM.b
  have hC := chN_le hb.2.1 hb.2.2.1
  refine fn_of (ls := [some (.ref (G.b0 + 77)), some (.int want), some (.int m), none, none]) (by decide +kernel) (Nat.le_of_ble_eq_true rfl) 2 rfl ?_
  refine b_aload_n dX12_inform_0 rfl ?_
  refine b_iconst (v := nI 0) dX12_inform_1 (by decide) ?_
  refine g_put dX12_inform_2 wX12_1 a77 tfX12_0 (Nat.le_of_ble_eq_true rfl) rfl ?_
  refine b_sig hM.t0 ?_
  refine b_aload_n dX12_inform_5 rfl ?_
  refine b_iload_n dX12_inform_6 rfl ?_
  refine b_i2l dX12_inform_7 ?_
  refine g_callV [.long want.toInt64] dX12_inform_8 kX12_isPerson lX12_245 a77 rfl rfl (m_isPersonI hM) rfl rfl (Nat.le_of_ble_eq_true rfl) ?_
  refine b_if_eq 26 dX12_inform_11 (by decide) (fun c1 => ?_) (fun c1 => ?_)
  · skip
    refine b_bipush (v := -2) dX12_inform_26 (by decide) ?_
    exact b_iret dX12_inform_28 ⟨by simp [oInform, (bI_0 _).mp c1], σ, rfl, FT_r σ⟩
  · skip
    have c2 := (bI_1 _).mp c1
    refine b_iload_n dX12_inform_14 rfl ?_
    refine b_i2l dX12_inform_15 ?_
    refine b_lconst (v := 0) dX12_inform_16 (by decide) ?_
    refine b_ldc2 dX12_inform_17 cvX12_289 ?_
    refine b_callSr [.long m.toInt64, .long 0, .long ((3))] dX12_inform_20 kX12_within lX12_145 c_within rfl rfl (Nat.le_of_ble_eq_true rfl) ?_
    rw [wi_m]
    refine b_if_ne 29 dX12_inform_23 (by decide) (fun c3 => ?_) (fun c3 => ?_)
    · skip
      have c4 := (bI_1 _).mp c3
      obtain ⟨k, hk, rfl⟩ := inR_of (by omega) c4
      have hkx := ix_nI (show k < 2 ^ 31 by omega)
      refine b_aload_n dX12_inform_29 rfl ?_
      refine g_get dX12_inform_30 fX12_13 a77 rfl ?_
      refine b_iconst (v := nI 1) dX12_inform_33 (by decide) ?_
      refine g_iald dX12_inform_34 a78 rfl (by omega) ?_
      refine b_top hM.cW ?_
      refine b_if_ne 41 dX12_inform_35 (by decide) (fun c5 => ?_) (fun c5 => ?_)
      · skip
        have h0 : ¬ L.W = 0 := fun z => c5 (by rw [z]; rfl)
        have eo : oInform L want (nI k) = fI (hitI L k want) L.F (chN L.F L.P) 0 := by rw [inf_eq]; simp [oInform, c2, c4, hkx, h0]
        rw [eo]
        refine b_aload_n dX12_inform_41 rfl ?_
        refine g_callV [] dX12_inform_42 kX12_keeps lX12_260 a77 rfl rfl m_keeps rfl rfl (Nat.le_of_ble_eq_true rfl) ?_
        refine b_iconst (v := nI 0) dX12_inform_45 (by decide) ?_
        refine b_istore_n dX12_inform_46 (by decide) rfl ?_
        have lp : ∀ (n i : Nat) (s : ST) (z4 : Option Value), i + n = chN L.F L.P → FT σ s → (∀ q, q < 7 → s 86 q = σ 78 (4 + q)) → fI (hitI L k want) L.F n i = fI (hitI L k want) L.F (chN L.F L.P) 0 → BB G RX12 cX12_inform 5 (some .int) (d + 4) (QM G (PFm G μ σ (fI (hitI L k want) L.F (chN L.F L.P) 0))) 47 [some (.ref (G.b0 + 77)), some (.int want), some (.int (nI k)), some (.int (nI i)), z4] [] (sh G s μ) := by
          intro n
          induction n with
          | zero =>
            intro i s z4 hi hF h86 he
            have hMs := FT_MV hF hM
            refine b_iload_n dX12_inform_47 rfl ?_
            refine b_aload_n dX12_inform_48 rfl ?_
            refine g_callV [] dX12_inform_49 kX12_choices lX12_350 a77 rfl rfl (m_choices hMs) rfl rfl (Nat.le_of_ble_eq_true rfl) ?_
            refine b_icmp_ge_t 95 dX12_inform_52 (by decide) (nI_le (by omega) (by omega)) ?_
            refine b_iconst (v := -1) dX12_inform_95 (by decide) ?_
            exact b_iret dX12_inform_96 ⟨by rw [← he]; rfl, s, rfl, hF⟩
          | succ n ih =>
            intro i s z4 hi hF h86 he
            have hMs := FT_MV hF hM
            have h78 : s 78 = σ 78 := hF.1 78 (by omega) (by omega) (by omega)
            have hSs : S0 s s := ⟨fun q hq => by rw [h86 q hq, h78], fun _ _ _ _ _ => rfl, fun _ _ _ => rfl, fun _ _ => rfl⟩
            refine b_iload_n dX12_inform_47 rfl ?_
            refine b_aload_n dX12_inform_48 rfl ?_
            refine g_callV [] dX12_inform_49 kX12_choices lX12_350 a77 rfl rfl (m_choices hMs) rfl rfl (Nat.le_of_ble_eq_true rfl) ?_
            refine b_icmp_ge_f 95 dX12_inform_52 (by decide) (nI_ge (by omega) (by omega)) ?_
            refine b_aload_n dX12_inform_55 rfl ?_
            refine b_iload_n dX12_inform_56 rfl ?_
            refine g_callVp [.int (nI i)] dX12_inform_57 kX12_tellsChoice lX12_353 a77 rfl rfl (m_tellsChoice hMs hSs (by omega)) rfl rfl (Nat.le_of_ble_eq_true rfl) ?_
            rintro r h9 ⟨rfl, s1, rfl, hS1, hM1⟩
            refine b_aload_n dX12_inform_60 rfl ?_
            refine b_iload_n dX12_inform_61 rfl ?_
            refine b_aload_n dX12_inform_62 rfl ?_
            refine g_get dX12_inform_63 fX12_13 a77 rfl ?_
            refine b_iconst (v := nI 4) dX12_inform_66 (by decide) ?_
            refine g_iald dX12_inform_67 a78 rfl (by omega) ?_
            refine b_top (show s1 78 4 = nI L.t from hM1.ct) ?_
            refine g_callV [.int (nI k), .int (nI L.t)] dX12_inform_68 kX12_leastOf lX12_294 a77 rfl rfl (m_leastOf hM1 (LBk_T hK (chT_ok hK (show i < chN L.F L.P by omega) (fun p hp => LBk_told hK hp))) hk (show L.t < 32 by omega)) rfl rfl (Nat.le_of_ble_eq_true rfl) ?_
            refine b_istore dX12_inform_71 (by decide) rfl ?_
            refine b_aload_n dX12_inform_73 rfl ?_
            refine g_callV [] dX12_inform_74 kX12_isAgain lX12_297 a77 rfl rfl m_isAgain rfl rfl (Nat.le_of_ble_eq_true rfl) ?_
            refine b_iload dX12_inform_77 rfl ?_
            refine b_iload_n dX12_inform_79 rfl ?_
            have hF2 := FT_tr hF (FT_again hS1)
            have h862 : ∀ q, q < 7 → cpy s1 86 0 78 4 7 86 q = σ 78 (4 + q) := fun q hq => by rw [cpy_at, if_neg (by omega), hS1.1 q hq, h78]
            rw [fI] at he
            refine b_icmp_ne 89 dX12_inform_80 (by decide) (fun c6 => ?_) (fun c6 => ?_)
            · skip
              rw [if_neg (by unfold hitI; rw [decide_eq_false (show ¬ lst L k (chT L.told L.F i) L.t = want from c6)]; simp)] at he
              refine b_iinc dX12_inform_89 rfl (nI_1 _) (by decide) rfl ?_
              refine b_goto 47 dX12_inform_92 (by decide) ?_
              exact ih (i + 1) _ _ (by omega) hF2 h862 he
            · skip
              rw [if_pos (show hitI L k want i = true from decide_eq_true c6)] at he
              refine b_aload_n dX12_inform_83 rfl ?_
              refine b_iload_n dX12_inform_84 rfl ?_
              refine g_callV [.int (nI i)] dX12_inform_85 kX12_codeOf lX12_360 a77 rfl rfl (m_codeOf (FT_MV hF2 hM) (by omega)) rfl rfl (Nat.le_of_ble_eq_true rfl) ?_
              exact b_iret dX12_inform_88 ⟨by rw [← he], _, rfl, hF2⟩
        refine lp (chN L.F L.P) 0 _ _ (by omega) ⟨fun c h1 h2 h3 => ?_, fun q _ _ => ?_⟩ (S0_keeps σ).1 rfl
        · by_cases hc : c = 78
          · subst hc; funext q; rw [cpy_at, if_neg (by omega)]
          · exact (S0_keeps σ).2.1 c hc h1 h2 h3
        · rw [cpy_at, if_neg (by omega)]
      · skip
        have h0 : L.W = 0 := nI_z (by omega) c5
        refine b_bipush (v := -5) dX12_inform_38 (by decide) ?_
        exact b_iret dX12_inform_40 ⟨by simp [oInform, c2, c4, h0], σ, rfl, FT_r σ⟩
    · skip
      refine b_bipush (v := -2) dX12_inform_26 (by decide) ?_
      exact b_iret dX12_inform_28 ⟨by simp [oInform, (bI_0 _).mp c3], σ, rfl, FT_r σ⟩

