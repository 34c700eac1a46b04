theorem lk_ok : ∀ x, x < 256 → if sgK x = 18 then Op.lookupswitch.offset [(40, 105), (41, 105), (42, 105), (43, 105), (45, 105), (58, 105), (59, 105), (60, 105), (61, 105), (62, 105), (91, 105), (93, 105)] 107 (sby x).toInt = 107 else Op.lookupswitch.offset [(40, 105), (41, 105), (42, 105), (43, 105), (45, 105), (58, 105), (59, 105), (60, 105), (61, 105), (62, 105), (91, 105), (93, 105)] 107 (sby x).toInt = 105 ∧ sby x = nI (cK (sgK x)) := by decide +kernel
theorem cK_18 : cK 18 = 1 := rfl
theorem c_kindOf {G : GT} {d : Nat} {σ : ST} {μ : SL} {X : TX} {p e : Nat} (hT : TxA σ X) (hp : p < e) (he : e ≤ X.2) : Fn G (d + 6) mX9_kindOf [.ref (G.b0 + 1), .int (nI p), .int (nI e)] (sh G σ μ) (Ret (some (.int (nI (cK (kdT X p e))))) (sh G σ μ)) := by
  obtain ⟨h9, hb⟩ := id hT
  obtain ⟨b1, b2⟩ := hb p (by omega)
  refine fn_of (ls := [some (.ref (G.b0 + 1)), some (.int (nI p)), some (.int (nI e)), none]) (by decide +kernel) (Nat.le_of_ble_eq_true rfl) 1 rfl ?_
  refine b_aload_n dX9_kindOf_0 rfl ?_
  refine b_iload_n dX9_kindOf_1 rfl ?_
  refine g_bald dX9_kindOf_2 a1 rfl (by omega) ?_
  rw [b2]
  refine b_istore_n dX9_kindOf_3 (by decide) rfl ?_
  refine b_iload_n dX9_kindOf_4 rfl ?_
  refine b_callSr [.int (sby (X.1 p))] dX9_kindOf_5 kX9_isDigit lX9_39 c_isDigit rfl rfl (Nat.le_of_ble_eq_true rfl) ?_
  rw [sby_D _ b1]
  refine b_if_eq 24 dX9_kindOf_8 (by decide) (fun c1 => ?_) (fun c1 => ?_)
  · skip
    have c2 : isD (X.1 p) = false := (bI_0 _).mp c1
    refine b_iload_n dX9_kindOf_24 rfl ?_
    refine b_callSr [.int (sby (X.1 p))] dX9_kindOf_25 kX9_isLetter lX9_35 c_isLetter rfl rfl (Nat.le_of_ble_eq_true rfl) ?_
    rw [sby_L _ b1]
    refine b_if_eq 38 dX9_kindOf_28 (by decide) (fun c3 => ?_) (fun c3 => ?_)
    · skip
      have c4 : isL (X.1 p) = false := (bI_0 _).mp c3
      have hk : kdT X p e = sgK (X.1 p) := by simp [kdT, c2, c4]
      have hlk := lk_ok (X.1 p) b1
      refine b_iload_n dX9_kindOf_38 rfl ?_
      by_cases h18 : sgK (X.1 p) = 18
      · rw [if_pos h18] at hlk
        refine b_lookup 146 dX9_kindOf_39 (by decide) hlk (by decide) ?_
        refine b_iconst (v := nI 1) dX9_kindOf_146 (by decide) ?_
        exact b_iret dX9_kindOf_147 ⟨by rw [hk, h18]; rfl, rfl⟩
      · rw [if_neg h18] at hlk
        refine b_lookup 144 dX9_kindOf_39 (by decide) hlk.1 (by decide) ?_
        refine b_iload_n dX9_kindOf_144 rfl ?_
        exact b_iret dX9_kindOf_145 ⟨by rw [hk, ← hlk.2], rfl⟩
    · skip
      have c4 : isL (X.1 p) = true := (bI_1 _).mp c3
      refine b_aload_n dX9_kindOf_31 rfl ?_
      refine b_iload_n dX9_kindOf_32 rfl ?_
      refine b_iload_n dX9_kindOf_33 rfl ?_
      refine b_callSr [.ref (G.b0 + 1), .int (nI p), .int (nI e)] dX9_kindOf_34 kX9_wordKind lX9_42 (c_wordKind hT hp he c4) rfl rfl (Nat.le_of_ble_eq_true rfl) ?_
      exact b_iret dX9_kindOf_37 ⟨by simp [kdT, c2, c4], rfl⟩
  · skip
    have c2 : isD (X.1 p) = true := (bI_1 _).mp c1
    refine b_iload_n dX9_kindOf_11 rfl ?_
    refine b_iload_n dX9_kindOf_12 rfl ?_
    refine b_isub dX9_kindOf_13 ?_
    refine b_top (y := nI (e - p)) (nI_sub (by omega)) ?_
    refine b_iconst (v := nI 3) dX9_kindOf_14 (by decide) ?_
    refine b_icmp_gt 22 dX9_kindOf_15 (by decide) (fun c3 => ?_) (fun c3 => ?_)
    · skip
      rw [nI_ltI (by omega) (by omega)] at c3
      refine b_iconst (v := nI 1) dX9_kindOf_22 (by decide) ?_
      exact b_iret dX9_kindOf_23 ⟨by simp only [kdT, c2, if_true]; rw [if_neg (by omega)]; rfl, rfl⟩
    · skip
      rw [nI_ltI (by omega) (by omega)] at c3
      refine b_iconst (v := nI 2) dX9_kindOf_18 (by decide) ?_
      refine b_goto 23 dX9_kindOf_19 (by decide) ?_
      exact b_iret dX9_kindOf_23 ⟨by simp only [kdT, c2, if_true]; rw [if_pos (by omega)]; rfl, rfl⟩
theorem sgK_lt : ∀ x, sgK x < 32 := by
  intro x
  unfold sgK
  split
  · omega
  · omega
theorem wK_le (X : TX) (p e : Nat) : wK X p e ≤ 15 := List.findIdx_le_length
theorem kdT_lt (X : TX) (p e : Nat) : kdT X p e < 32 := by
  have h1 := wK_le X p e
  have h2 := sgK_lt (X.1 p)
  unfold kdT
  split
  · split <;> omega
  · split <;> omega
theorem cK_2 : ∀ k, k < 32 → (cK k = 2 ↔ k = 16) ∧ cK k < 200 := by decide +kernel
theorem kdT_16 {X : TX} {p e : Nat} (h : kdT X p e = 16) : isD (X.1 p) = true ∧ e - p ≤ 3 := by
  have h1 := wK_le X p e
  unfold kdT at h
  by_cases hd : isD (X.1 p) = true
  · rw [if_pos hd] at h
    refine ⟨hd, ?_⟩
    by_cases h3 : e - p ≤ 3
    · exact h3
    · rw [if_neg h3] at h; omega
  · rw [if_neg hd] at h
    exfalso
    by_cases hl : isL (X.1 p) = true
    · rw [if_pos hl] at h; omega
    · rw [if_neg hl] at h
      unfold sgK at h
      split at h <;> omega
theorem en_D {X : TX} {p : Nat} (hp : p < X.2) (hd : isD (X.1 p) = true) : ∀ q, p ≤ q → q < tEn X p → isD (X.1 q) = true := by
  intro q h1 h2
  have hnl : isL (X.1 p) = false := by
    simp only [isD, Bool.and_eq_true, decide_eq_true_eq] at hd
    simp only [isL, Bool.and_eq_false_iff, decide_eq_false_iff_not]
    omega
  unfold tEn at h2
  rw [hnl, hd] at h2
  simp only [Bool.false_eq_true, if_false, if_true] at h2
  by_cases e : q = p
  · subst e; exact hd
  · exact upto_in (c := fun q => isD (X.1 q)) _ (p + 1) rfl q (by omega) h2
/-- the tokens stand in the class's rows -/
def TkA (s : ST) (X : TX) (n : Nat) : Prop := ∀ i, i < n → s 4 i = nI (cK (tK X i)) ∧ s 5 i = nI (tS X i) ∧ s 6 i = nI (tV X i)
def kTok (c : Nat) : Prop := 3 ≤ c ∧ c ≤ 6
theorem c_cut {G : GT} {d : Nat} {σ : ST} {μ : SL} {X : TX} {n : Nat} (hT : TxA σ X) (hn : n = X.2) : Fn G (d + 7) mX9_cut [.ref (G.b0 + 3), .ref (G.b0 + 1), .int (nI n)] (sh G σ μ) (fun r h' => r = none ∧ ∃ (s : ST) (M : Nat), h' = sh G s μ ∧ (∀ c, ¬ kTok c → s c = σ c) ∧ isM X M ∧ s 3 3 = nI M ∧ TkA s X (M + 1)) := by
  obtain ⟨h9, hb⟩ := id hT
  refine fn_of (ls := [some (.ref (G.b0 + 3)), some (.ref (G.b0 + 1)), some (.int (nI n)), none, none, none]) (by decide +kernel) (Nat.le_of_ble_eq_true rfl) 3 rfl ?_
  refine b_aload_n dX9_cut_0 rfl ?_
  refine b_iconst (v := nI 0) dX9_cut_1 (by decide) ?_
  refine g_put dX9_cut_2 wX9_21 a3 tfX9_3 (Nat.le_of_ble_eq_true rfl) rfl ?_
  refine b_iconst (v := nI 0) dX9_cut_5 (by decide) ?_
  refine b_istore_n dX9_cut_6 (by decide) rfl ?_
  refine b_iconst (v := nI 0) dX9_cut_7 (by decide) ?_
  refine b_istore dX9_cut_8 (by decide) rfl ?_
  have hTs : ∀ s : ST, (∀ c, ¬ kTok c → s c = σ c) → TxA s X := fun s hs => ⟨h9, fun k hk => by rw [hs 1 (by unfold kTok; omega)]; exact hb k hk⟩
  have fin : ∀ (i k p : Nat) (s : ST) (z5 : Option Value), p = X.2 → tSk X p = tS X k → k ≤ p → (∀ c, ¬ kTok c → s c = σ c) → s 3 3 = nI k → (∀ j, j < k → tS X j < X.2) → TkA s X k → BB G RX9 cX9_cut 6 none (d + 7) (QM G (fun r h' => r = none ∧ ∃ (s : ST) (M : Nat), h' = sh G s μ ∧ (∀ c, ¬ kTok c → s c = σ c) ∧ isM X M ∧ s 3 3 = nI M ∧ TkA s X (M + 1))) 129 [some (.ref (G.b0 + 3)), some (.ref (G.b0 + 1)), some (.int (nI n)), some (.int (nI p)), some (.int (nI i)), z5] [] (sh G s μ) := by
    intro i k p s z5 hp hsk hkp hs h3 hlt hk
    have hM : isM X k := ⟨by rw [← hsk]; exact (upto_n (by omega)).trans hp, hlt⟩
    refine b_aload_n dX9_cut_129 rfl ?_
    refine g_get dX9_cut_130 fX9_15 a3 rfl ?_
    refine b_aload_n dX9_cut_133 rfl ?_
    refine g_geti (x := nI k) dX9_cut_134 fX9_21 a3 rfl h3 ?_
    refine b_iload_n dX9_cut_137 rfl ?_
    refine g_iast dX9_cut_138 a5 rfl (by omega) ?_
    refine b_aload_n dX9_cut_139 rfl ?_
    refine g_get dX9_cut_140 fX9_9 a3 rfl ?_
    refine b_aload_n dX9_cut_143 rfl ?_
    refine g_geti (x := nI k) dX9_cut_144 fX9_21 a3 rfl (by rw [pt_a (by omega)]; exact h3) ?_
    refine b_iconst (v := nI 0) dX9_cut_147 (by decide) ?_
    refine g_iast dX9_cut_148 a4 rfl (by omega) ?_
    refine b_aload_n dX9_cut_149 rfl ?_
    refine g_get dX9_cut_150 fX9_18 a3 rfl ?_
    refine b_aload_n dX9_cut_153 rfl ?_
    refine g_geti (x := nI k) dX9_cut_154 fX9_21 a3 rfl (by rw [pt_a (by omega), pt_a (by omega)]; exact h3) ?_
    refine b_iconst (v := nI 0) dX9_cut_157 (by decide) ?_
    refine g_iast dX9_cut_158 a6 rfl (by omega) ?_
    exact b_vret dX9_cut_159 ⟨rfl, _, k, rfl, fun c hc => by simp only [kTok] at hc; rw [pt_r (by omega), pt_r (by omega), pt_r (by omega)]; exact hs c (by unfold kTok; omega), hM, by rw [pt_a (by omega), pt_a (by omega), pt_a (by omega)]; exact h3, fun j hj => by
      by_cases e : j = k
      · subst e
        have hK := tK_M hM
        have hV : tV X j = 0 := by unfold tV; rw [if_neg (by omega)]
        rw [hK, hV, hM.1, hn]
        exact ⟨by simp [pt, cK, cKl], by simp [pt], by simp [pt]⟩
      · simp only [pt_at]
        rw [if_neg (by omega), if_neg (by omega), if_neg (by omega), if_neg (by omega), if_neg (by omega), if_neg (by omega), if_neg (by omega), if_neg (by omega), if_neg (by omega)]
        exact hk j (by omega)⟩
  have lp : ∀ (m i k p : Nat) (s : ST) (z5 : Option Value), i + m = X.2 → i ≤ p → p ≤ X.2 → k ≤ p → tSk X p = tS X k → (∀ c, ¬ kTok c → s c = σ c) → s 3 3 = nI k → (∀ j, j < k → tS X j < X.2) → TkA s X k → BB G RX9 cX9_cut 6 none (d + 7) (QM G (fun r h' => r = none ∧ ∃ (s : ST) (M : Nat), h' = sh G s μ ∧ (∀ c, ¬ kTok c → s c = σ c) ∧ isM X M ∧ s 3 3 = nI M ∧ TkA s X (M + 1))) 10 [some (.ref (G.b0 + 3)), some (.ref (G.b0 + 1)), some (.int (nI n)), some (.int (nI p)), some (.int (nI i)), z5] [] (sh G s μ) := by
    intro m
    induction m with
    | zero =>
      intro i k p s z5 hi hip hpn hkp hsk hs h3 hlt hk
      refine b_iload dX9_cut_10 rfl ?_
      refine b_iload_n dX9_cut_12 rfl ?_
      refine b_icmp_ge_t 129 dX9_cut_13 (by decide) (nI_le (by omega) (by omega)) ?_
      exact fin i k p s z5 (by omega) hsk hkp hs h3 hlt hk
    | succ m ih =>
      intro i k p s z5 hi hip hpn hkp hsk hs h3 hlt hk
      refine b_iload dX9_cut_10 rfl ?_
      refine b_iload_n dX9_cut_12 rfl ?_
      refine b_icmp_ge_f 129 dX9_cut_13 (by decide) (nI_ge (by omega) (by omega)) ?_
      refine b_iload_n dX9_cut_16 rfl ?_
      refine b_iload_n dX9_cut_17 rfl ?_
      by_cases hpe : p = X.2
      · skip
        refine b_icmp_ge_t 129 dX9_cut_18 (by decide) (nI_le (by omega) (by omega)) ?_
        exact fin i k p s z5 hpe hsk hkp hs h3 hlt hk
      · skip
        obtain ⟨b1, b2⟩ := hb p (by omega)
        have b3 : s 1 p = sby (X.1 p) := by rw [hs 1 (by unfold kTok; omega)]; exact b2
        refine b_icmp_ge_f 129 dX9_cut_18 (by decide) (nI_ge (by omega) (by omega)) ?_
        refine b_aload_n dX9_cut_21 rfl ?_
        refine b_iload_n dX9_cut_22 rfl ?_
        refine g_bald dX9_cut_23 a1 rfl (by omega) ?_
        refine b_bipush (v := nI 32) dX9_cut_24 (by decide) ?_
        rw [b3]
        have bl : isBl (X.1 p) = true → BB G RX9 cX9_cut 6 none (d + 7) (QM G (fun r h' => r = none ∧ ∃ (s : ST) (M : Nat), h' = sh G s μ ∧ (∀ c, ¬ kTok c → s c = σ c) ∧ isM X M ∧ s 3 3 = nI M ∧ TkA s X (M + 1))) 37 [some (.ref (G.b0 + 3)), some (.ref (G.b0 + 1)), some (.int (nI n)), some (.int (nI p)), some (.int (nI i)), z5] [] (sh G s μ) := by
          intro hbl
          refine b_iinc dX9_cut_37 rfl (nI_1 _) (by decide) rfl ?_
          refine b_goto 123 dX9_cut_40 (by decide) ?_
          refine b_iinc dX9_cut_123 rfl (nI_1 _) (by decide) rfl ?_
          refine b_goto 10 dX9_cut_126 (by decide) ?_
          exact ih (i + 1) k (p + 1) s _ (by omega) (by omega) (by omega) (by omega) (by rw [← hsk]; exact (upto_y (c := fun q => isBl (X.1 q)) (n := X.2) (p := p) (by omega) hbl).symm) hs h3 hlt hk
        refine b_icmp_eq 37 dX9_cut_26 (by decide) (fun c1 => ?_) (fun c1 => ?_)
        · skip
          have c2 := (sby_e b1 (by omega)).mp c1
          exact bl (by simp [isBl, c2])
        · skip
          have c2 : ¬ X.1 p = 32 := fun z => c1 ((sby_e b1 (by omega)).mpr z)
          refine b_aload_n dX9_cut_29 rfl ?_
          refine b_iload_n dX9_cut_30 rfl ?_
          refine g_bald dX9_cut_31 a1 rfl (by omega) ?_
          refine b_bipush (v := nI 10) dX9_cut_32 (by decide) ?_
          rw [b3]
          refine b_icmp_ne 43 dX9_cut_34 (by decide) (fun c3 => ?_) (fun c3 => ?_)
          · skip
            have c4 : ¬ X.1 p = 10 := fun z => c3 ((sby_e b1 (by omega)).mpr z)
            have hnb : isBl (X.1 p) = false := by simp [isBl, c2, c4]
            have hpk : tS X k = p := by rw [← hsk]; exact upto_n (fun z => by rw [hnb] at z; exact absurd z.2 (by decide))
            have hkn : tS X k < X.2 := by omega
            have hbk : bh X (k + 1) = tEn X p := by rw [bh_s hkn, hpk]
            have g1 := tEn_gt X p
            have g2 := tEn_le (X := X) (s := p) (by omega)
            have htK : tK X k = kdT X p (tEn X p) := by unfold tK; rw [if_pos hkn, hpk, hbk]
            have hkl := kdT_lt X p (tEn X p)
            have htV : tV X k = if kdT X p (tEn X p) = 16 then vlN X.1 p (tEn X p - p) else 0 := by unfold tV; rw [htK, hpk, hbk]
            refine b_aload_n dX9_cut_43 rfl ?_
            refine b_iload_n dX9_cut_44 rfl ?_
            refine b_iload_n dX9_cut_45 rfl ?_
            refine b_callSr [.ref (G.b0 + 1), .int (nI p), .int (nI n)] dX9_cut_46 kX9_endOf lX9_25 (c_endOf (hTs s hs) hn (by omega)) rfl rfl (Nat.le_of_ble_eq_true rfl) ?_
            refine b_istore dX9_cut_49 (by decide) rfl ?_
            refine b_aload_n dX9_cut_51 rfl ?_
            refine g_get dX9_cut_52 fX9_15 a3 rfl ?_
            refine b_aload_n dX9_cut_55 rfl ?_
            refine g_geti (x := nI k) dX9_cut_56 fX9_21 a3 rfl h3 ?_
            refine b_iload_n dX9_cut_59 rfl ?_
            refine g_iast dX9_cut_60 a5 rfl (by omega) ?_
            refine b_aload_n dX9_cut_61 rfl ?_
            refine g_get dX9_cut_62 fX9_9 a3 rfl ?_
            refine b_aload_n dX9_cut_65 rfl ?_
            refine g_geti (x := nI k) dX9_cut_66 fX9_21 a3 rfl (by simp [pt, h3]) ?_
            refine b_aload_n dX9_cut_69 rfl ?_
            refine b_iload_n dX9_cut_70 rfl ?_
            refine b_iload dX9_cut_71 rfl ?_
            refine b_callSr [.ref (G.b0 + 1), .int (nI p), .int (nI (tEn X p))] dX9_cut_73 kX9_kindOf lX9_29 (c_kindOf (hTs _ (fun c hc => by rw [pt_r (by simp only [kTok] at hc; omega)]; exact hs c hc)) g1 g2) rfl rfl (Nat.le_of_ble_eq_true rfl) ?_
            refine g_iast dX9_cut_76 a4 rfl (by omega) ?_
            refine b_aload_n dX9_cut_77 rfl ?_
            refine g_get dX9_cut_78 fX9_18 a3 rfl ?_
            refine b_aload_n dX9_cut_81 rfl ?_
            refine g_geti (x := nI k) dX9_cut_82 fX9_21 a3 rfl (by simp [pt, h3]) ?_
            refine b_aload_n dX9_cut_85 rfl ?_
            refine g_get dX9_cut_86 fX9_9 a3 rfl ?_
            refine b_aload_n dX9_cut_89 rfl ?_
            refine g_geti (x := nI k) dX9_cut_90 fX9_21 a3 rfl (by simp [pt, h3]) ?_
            refine g_iald dX9_cut_93 a4 rfl (by omega) ?_
            rw [show (3 : Nat) + 1 = 4 from rfl, pt_s]
            refine b_iconst (v := nI 2) dX9_cut_94 (by decide) ?_
            have hs2 : ∀ c, ¬ kTok c → pt (pt s 5 k (nI p)) 4 k (nI (cK (kdT X p (tEn X p)))) c = σ c := fun c hc => by
              have hc' := hc
              simp only [kTok] at hc
              rw [pt_r (by omega), pt_r (by omega)]; exact hs c hc'
            have nx : ∀ (v : Nat), v = tV X k → BB G RX9 cX9_cut 6 none (d + 7) (QM G (fun r h' => r = none ∧ ∃ (s : ST) (M : Nat), h' = sh G s μ ∧ (∀ c, ¬ kTok c → s c = σ c) ∧ isM X M ∧ s 3 3 = nI M ∧ TkA s X (M + 1))) 109 [some (.ref (G.b0 + 3)), some (.ref (G.b0 + 1)), some (.int (nI n)), some (.int (nI p)), some (.int (nI i)), some (.int (nI (tEn X p)))] [.int (nI v), .int (nI k), .ref (G.b0 + 6)] (sh G (pt (pt s 5 k (nI p)) 4 k (nI (cK (kdT X p (tEn X p))))) μ) := by
              intro v hv
              refine g_iast dX9_cut_109 a6 rfl (by omega) ?_
              refine b_aload_n dX9_cut_110 rfl ?_
              refine b_dup dX9_cut_111 rfl ?_
              refine g_geti (x := nI k) dX9_cut_112 fX9_21 a3 rfl (by simp [pt, h3]) ?_
              refine b_iconst (v := nI 1) dX9_cut_115 (by decide) ?_
              refine b_iaddN dX9_cut_116 ?_
              refine g_put dX9_cut_117 wX9_21 a3 tfX9_3 (Nat.le_of_ble_eq_true rfl) rfl ?_
              refine b_iload dX9_cut_120 rfl ?_
              refine b_istore_n dX9_cut_122 (by decide) rfl ?_
              refine b_iinc dX9_cut_123 rfl (nI_1 _) (by decide) rfl ?_
              refine b_goto 10 dX9_cut_126 (by decide) ?_
              refine ih (i + 1) (k + 1) (tEn X p) _ _ (by omega) (by omega) g2 (by omega) (by rw [← hbk]; rfl) (fun c hc => ?_) (pt_s _ _ _ _) (fun j hj => ?_) (fun j hj => ?_)
              · have hc' := hc
                simp only [kTok] at hc
                rw [pt_r (by omega), pt_r (by omega)]
                exact hs2 c hc'
              · by_cases e : j = k
                · rw [e]; exact hkn
                · exact hlt j (by omega)
              · by_cases e : j = k
                · subst e
                  rw [htK, hpk, ← hv]
                  exact ⟨by simp [pt], by simp [pt], by simp [pt]⟩
                · simp only [pt_at]
                  rw [if_neg (by omega), if_neg (by omega), if_neg (by omega), if_neg (by omega), if_neg (by omega), if_neg (by omega), if_neg (by omega), if_neg (by omega), if_neg (by omega), if_neg (by omega), if_neg (by omega), if_neg (by omega)]
                  exact hk j (by omega)
            refine b_icmp_ne 108 dX9_cut_95 (by decide) (fun c5 => ?_) (fun c5 => ?_)
            · skip
              have c6 : ¬ kdT X p (tEn X p) = 16 := fun z => c5 (by rw [z]; rfl)
              refine b_iconst (v := nI 0) dX9_cut_108 (by decide) ?_
              exact nx 0 (by rw [htV, if_neg c6])
            · skip
              have hkk := cK_2 _ hkl
              have c6 : kdT X p (tEn X p) = 16 := by rw [nI_eq (by omega) (by omega)] at c5; exact hkk.1.mp c5
              refine b_aload_n dX9_cut_98 rfl ?_
              refine b_iload_n dX9_cut_99 rfl ?_
              refine b_iload dX9_cut_100 rfl ?_
              refine b_callSr [.ref (G.b0 + 1), .int (nI p), .int (nI (tEn X p))] dX9_cut_102 kX9_valueOf lX9_32 (c_valueOf (hTs _ hs2) (by omega) g2 (en_D (by omega) (kdT_16 c6).1)) rfl rfl (Nat.le_of_ble_eq_true rfl) ?_
              refine b_goto 109 dX9_cut_105 (by decide) ?_
              exact nx _ (by rw [htV, if_pos c6])
          · skip
            have c4 := (sby_e b1 (by omega)).mp c3
            exact bl (by simp [isBl, c4])
  refine lp X.2 0 0 0 _ _ (by omega) (by omega) (by omega) (by omega) rfl (fun c hc => ?_) (pt_s _ _ _ _) (fun j hj => absurd hj (by omega)) (fun j hj => absurd hj (by omega))
  rw [pt_r (by simp only [kTok] at hc; omega)]

