/-! ===== Tokens: kinds, and the cut ===== -/
def sw : List (List Nat) := [[97, 110, 100], [98], [99], [102, 97, 99, 116], [103, 117, 105, 108, 116, 121], [104, 105, 110, 116], [110, 111, 116], [111, 114], [112, 101, 114, 115, 111, 110], [114, 111, 97, 100], [116, 111, 108, 100], [116, 114, 117, 101], [119, 111, 114, 108, 100], [119, 101, 105, 103, 104, 116]]
theorem sw_ok : ∀ q, q < 14 → slen.getD q 0 = (sw.getD q []).length ∧ ∀ j, j < (sw.getD q []).length → sch q j = nI ((sw.getD q []).getD j 0) ∧ (sw.getD q []).getD j 0 < 128 := by decide +kernel
theorem sw_len : ∀ q, q < 14 → (sw.getD q []).length < 10 := by decide +kernel
theorem tWd_len (X : TX) (p e : Nat) : (tWd X p e).length = e - p := by simp [tWd]
theorem tWd_get {X : TX} {p e j : Nat} (h : j < e - p) : (tWd X p e)[j]? = some (X.1 (p + j)) := by simp [tWd, h]
theorem tWd_eq {X : TX} {p e : Nat} {w : List Nat} (hl : e - p = w.length) (h : ∀ j, j < w.length → X.1 (p + j) = w.getD j 0) : tWd X p e = w := by
  apply List.ext_getElem?
  intro j
  by_cases hj : j < e - p
  · rw [tWd_get hj, h j (by omega), List.getD_eq_getElem?_getD, List.getElem?_eq_getElem (by omega)]
    rfl
  · rw [List.getElem?_eq_none (by rw [tWd_len]; omega), List.getElem?_eq_none (by omega)]
theorem tWd_at {X : TX} {p e : Nat} {w : List Nat} (he : tWd X p e = w) : e - p = w.length ∧ ∀ j, j < w.length → X.1 (p + j) = w.getD j 0 := by
  subst he
  refine ⟨(tWd_len X p e).symm, fun j hj => ?_⟩
  rw [tWd_len] at hj
  rw [List.getD_eq_getElem?_getD, tWd_get hj]
  rfl
theorem tWd_c {X : TX} {p e : Nat} (h : p < e) : tWd X p e = X.1 p :: tWd X (p + 1) e := by
  apply List.ext_getElem?
  intro j
  cases j with
  | zero => rw [tWd_get (by omega)]; rfl
  | succ j =>
    rw [List.getElem?_cons_succ]
    by_cases hj : j < e - (p + 1)
    · rw [tWd_get (by omega), tWd_get hj, show p + (j + 1) = p + 1 + j by omega]
    · rw [List.getElem?_eq_none (by rw [tWd_len]; omega), List.getElem?_eq_none (by rw [tWd_len]; omega)]
theorem c_spelled {G : GT} {d : Nat} {σ : ST} {μ : SL} {X : TX} {p e q k : Nat} (hT : TxA σ X) (hp : p ≤ e) (he : e ≤ X.2) (hq : q < 14) : Fn G (d + 4) mX9_spelled [.ref (G.b0 + 1), .int (nI p), .int (nI e), .ref (G.adK q), .int (nI k)] (sh G σ μ) (Ret (some (.int (nI (if tWd X p e = sw.getD q [] then k else 3)))) (sh G σ μ)) := by
  obtain ⟨h9, hb⟩ := hT
  obtain ⟨hl, hs⟩ := sw_ok q hq
  have hl9 := sw_len q hq
  generalize hw : sw.getD q [] = w at hl hs hl9
  refine fn_of (ls := [some (.ref (G.b0 + 1)), some (.int (nI p)), some (.int (nI e)), some (.ref (G.adK q)), some (.int (nI k)), none]) (by decide +kernel) (Nat.le_of_ble_eq_true rfl) 1 rfl ?_
  refine b_iload_n dX9_spelled_0 rfl ?_
  refine b_iload_n dX9_spelled_1 rfl ?_
  refine b_isub dX9_spelled_2 ?_
  refine b_top (y := nI (e - p)) (nI_sub (by omega)) ?_
  refine b_aload_n dX9_spelled_3 rfl ?_
  refine b_callStr [] dX9_spelled_4 kJ0_length_8abf5 lX9_83 (by omega) rfl (c_length (by omega)) rfl rfl (Nat.le_of_ble_eq_true rfl) ?_
  rw [hl]
  refine b_icmp_eq 12 dX9_spelled_7 (by decide) (fun c1 => ?_) (fun c1 => ?_)
  · skip
    have c2 : e - p = w.length := by rw [nI_eq (by omega) (by omega)] at c1; exact c1
    refine b_iload_n dX9_spelled_12 rfl ?_
    refine b_istore dX9_spelled_13 (by decide) rfl ?_
    have lp : ∀ (n i : Nat), i + n = e - p → (∀ j, j < i → X.1 (p + j) = w.getD j 0) → BB G RX9 cX9_spelled 6 (some .int) (d + 4) (QM G (Ret (some (.int (nI (if tWd X p e = w then k else 3)))) (sh G σ μ))) 15 [some (.ref (G.b0 + 1)), some (.int (nI p)), some (.int (nI e)), some (.ref (G.adK q)), some (.int (nI k)), some (.int (nI (p + i)))] [] (sh G σ μ) := by
      intro n
      induction n with
      | zero =>
        intro i hi hj
        refine b_iload dX9_spelled_15 rfl ?_
        refine b_iload_n dX9_spelled_17 rfl ?_
        refine b_icmp_ge_t 44 dX9_spelled_18 (by decide) (nI_le (by omega) (by omega)) ?_
        refine b_iload dX9_spelled_44 rfl ?_
        exact b_iret dX9_spelled_46 ⟨by rw [if_pos (tWd_eq c2 (fun j hjj => hj j (by omega)))], rfl⟩
      | succ n ih =>
        intro i hi hj
        obtain ⟨d1, d2⟩ := hb (p + i) (by omega)
        obtain ⟨s1, s2⟩ := hs i (by omega)
        refine b_iload dX9_spelled_15 rfl ?_
        refine b_iload_n dX9_spelled_17 rfl ?_
        refine b_icmp_ge_f 44 dX9_spelled_18 (by decide) (nI_ge (by omega) (by omega)) ?_
        refine b_aload_n dX9_spelled_21 rfl ?_
        refine b_iload dX9_spelled_22 rfl ?_
        refine g_bald dX9_spelled_24 a1 rfl (by omega) ?_
        refine b_aload_n dX9_spelled_25 rfl ?_
        refine b_iload dX9_spelled_26 rfl ?_
        refine b_iload_n dX9_spelled_28 rfl ?_
        refine b_isub dX9_spelled_29 ?_
        refine b_top (y := nI ((p + i) - p)) (nI_sub (by omega)) ?_
        rw [show p + i - p = i by omega]
        refine b_callStr [.int (nI i)] dX9_spelled_30 kJ0_charAt_5068e lX9_89 (by omega) rfl (c_charAt (by omega) (by omega)) rfl rfl (Nat.le_of_ble_eq_true rfl) ?_
        rw [d2, s1]
        refine b_icmp_eq 38 dX9_spelled_33 (by decide) (fun c3 => ?_) (fun c3 => ?_)
        · skip
          have c4 := (sby_e d1 s2).mp c3
          refine b_iinc dX9_spelled_38 rfl (nI_1 _) (by decide) rfl ?_
          refine b_goto 15 dX9_spelled_41 (by decide) ?_
          refine ih (i + 1) (by omega) (fun j hjj => ?_)
          by_cases ej : j = i
          · subst ej; exact c4
          · exact hj j (by omega)
        · skip
          refine b_iconst (v := nI 3) dX9_spelled_36 (by decide) ?_
          exact b_iret dX9_spelled_37 ⟨by rw [if_neg (fun z => c3 ((sby_e d1 s2).mpr ((tWd_at z).2 i (by omega))))], rfl⟩
    exact lp (e - p) 0 (by omega) (fun j hj => absurd hj (by omega))
  · skip
    refine b_iconst (v := nI 3) dX9_spelled_10 (by decide) ?_
    exact b_iret dX9_spelled_11 ⟨by rw [if_neg (fun z => c1 (by rw [(tWd_at z).1]))], rfl⟩
theorem wK_of {X : TX} {p e : Nat} {w : List Nat} (h : tWd X p e = w) : wK X p e = wds.findIdx (fun v => v == w) := by unfold wK; rw [h]
theorem c_wordKind {G : GT} {d : Nat} {σ : ST} {μ : SL} {X : TX} {p e : Nat} (hT : TxA σ X) (hp : p < e) (he : e ≤ X.2) (hL : isL (X.1 p) = true) : Fn G (d + 5) mX9_wordKind [.ref (G.b0 + 1), .int (nI p), .int (nI e)] (sh G σ μ) (Ret (some (.int (nI (cK (wK X p e))))) (sh G σ μ)) := by
  obtain ⟨h9, hb⟩ := id hT
  obtain ⟨b1, b2⟩ := hb p (by omega)
  simp only [isL, Bool.and_eq_true, decide_eq_true_eq] at hL
  have hc := tWd_c (X := X) hp
  generalize hr : tWd X (p + 1) e = r at hc
  generalize hx : X.1 p = x at hc b1 b2 hL
  refine fn_of (ls := [some (.ref (G.b0 + 1)), some (.int (nI p)), some (.int (nI e))]) (by decide +kernel) (Nat.le_of_ble_eq_true rfl) 0 rfl ?_
  refine b_aload_n dX9_wordKind_0 rfl ?_
  refine b_iload_n dX9_wordKind_1 rfl ?_
  refine g_bald dX9_wordKind_2 a1 rfl (by omega) ?_
  refine b_top (y := nI x) (by rw [b2, sby_lo _ (by omega)]) ?_
  have hmi : (nI x).toInt = (x : Int) := nI_toInt (by omega)
  rcases (show x = 97 ∨ x = 98 ∨ x = 99 ∨ x = 100 ∨ x = 101 ∨ x = 102 ∨ x = 103 ∨ x = 104 ∨ x = 105 ∨ x = 106 ∨ x = 107 ∨ x = 108 ∨ x = 109 ∨ x = 110 ∨ x = 111 ∨ x = 112 ∨ x = 113 ∨ x = 114 ∨ x = 115 ∨ x = 116 ∨ x = 117 ∨ x = 118 ∨ x = 119 ∨ x = 120 ∨ x = 121 ∨ x = 122 by omega) with rfl | rfl | rfl | rfl | rfl | rfl | rfl | rfl | rfl | rfl | rfl | rfl | rfl | rfl | rfl | rfl | rfl | rfl | rfl | rfl | rfl | rfl | rfl | rfl | rfl | rfl
  · refine b_tableIn 108 dX9_wordKind_3 (by rw [hmi]; decide) (by rw [hmi]; decide) (by rw [hmi]; rfl) (by decide) ?_
    refine b_iload_n dX9_wordKind_108 rfl ?_
    refine b_iload_n dX9_wordKind_109 rfl ?_
    refine b_isub dX9_wordKind_110 ?_
    refine b_top (y := nI (e - p)) (nI_sub (by omega)) ?_
    refine b_iconst (v := nI 1) dX9_wordKind_111 (by decide) ?_
    refine b_icmp_ne 120 dX9_wordKind_112 (by decide) (fun c1 => ?_) (fun c1 => ?_)
    · skip
      refine b_aload_n dX9_wordKind_120 rfl ?_
      refine b_iload_n dX9_wordKind_121 rfl ?_
      refine b_iload_n dX9_wordKind_122 rfl ?_
      refine b_ldcS (q := 0) dX9_wordKind_123 rfl ?_
      refine b_bipush (v := nI 111) dX9_wordKind_125 (by decide) ?_
      refine b_callSr [.ref (G.b0 + 1), .int (nI p), .int (nI e), .ref (G.adK 0), .int (nI 111)] dX9_wordKind_127 kX9_spelled lX9_47 (c_spelled hT (by omega) he (by omega)) rfl rfl (Nat.le_of_ble_eq_true rfl) ?_
      refine b_iret dX9_wordKind_130 ⟨?_, rfl⟩
      by_cases h1 : r = [110, 100]
      · subst h1; rw [wK_of hc, if_pos (by rw [hc]; rfl)]; rfl
      · have h2 : ([110, 100] == r) = false := beq_false_of_ne (fun z => h1 z.symm)
        have h3 : ¬ r = [] := fun z => c1 (by
          have := tWd_len X (p + 1) e
          rw [hr, z] at this
          rw [show e - p = 1 by simp at this; omega])
        have h4 : ([] == r) = false := beq_false_of_ne (fun z => h3 z.symm)
        rw [wK_of hc, if_neg (fun z => h1 (by rw [hc] at z; exact (List.cons.inj z).2))]
        have h5 : r.isEmpty = false := by cases r with | nil => exact absurd rfl h3 | cons => rfl
        simp [wds, List.findIdx_cons, cK, cKl, h1, h2, h3, h4, h5]
    · skip
      have c2 : e - p = 1 := by rw [nI_eq (by omega) (by omega)] at c1; exact c1
      refine b_bipush (v := nI 113) dX9_wordKind_115 (by decide) ?_
      refine b_goto 130 dX9_wordKind_117 (by decide) ?_
      have h3 : r = [] := by
        have := tWd_len X (p + 1) e
        rw [hr] at this
        exact List.eq_nil_of_length_eq_zero (by omega)
      subst h3
      exact b_iret dX9_wordKind_130 ⟨by rw [wK_of hc]; rfl, rfl⟩
  · refine b_tableIn 131 dX9_wordKind_3 (by rw [hmi]; decide) (by rw [hmi]; decide) (by rw [hmi]; rfl) (by decide) ?_
    refine b_aload_n dX9_wordKind_131 rfl ?_
    refine b_iload_n dX9_wordKind_132 rfl ?_
    refine b_iload_n dX9_wordKind_133 rfl ?_
    refine b_ldcS (q := 1) dX9_wordKind_134 rfl ?_
    refine b_bipush (v := nI 114) dX9_wordKind_136 (by decide) ?_
    refine b_callSr [.ref (G.b0 + 1), .int (nI p), .int (nI e), .ref (G.adK 1), .int (nI 114)] dX9_wordKind_138 kX9_spelled lX9_47 (c_spelled hT (by omega) he (by omega)) rfl rfl (Nat.le_of_ble_eq_true rfl) ?_
    refine b_iret dX9_wordKind_141 ⟨?_, rfl⟩
    by_cases h1 : r = []
    · subst h1; rw [wK_of hc, if_pos (by rw [hc]; rfl)]; rfl
    · have h2 : ([] == r) = false := beq_false_of_ne (fun z => h1 z.symm)
      rw [wK_of hc, if_neg (fun z => h1 (by rw [hc] at z; exact (List.cons.inj z).2))]
      have h5 : r.isEmpty = false := by cases r with | nil => exact absurd rfl h1 | cons => rfl
      simp [wds, List.findIdx_cons, cK, cKl, h1, h2, h5]
  · refine b_tableIn 142 dX9_wordKind_3 (by rw [hmi]; decide) (by rw [hmi]; decide) (by rw [hmi]; rfl) (by decide) ?_
    refine b_aload_n dX9_wordKind_142 rfl ?_
    refine b_iload_n dX9_wordKind_143 rfl ?_
    refine b_iload_n dX9_wordKind_144 rfl ?_
    refine b_ldcS (q := 2) dX9_wordKind_145 rfl ?_
    refine b_bipush (v := nI 115) dX9_wordKind_147 (by decide) ?_
    refine b_callSr [.ref (G.b0 + 1), .int (nI p), .int (nI e), .ref (G.adK 2), .int (nI 115)] dX9_wordKind_149 kX9_spelled lX9_47 (c_spelled hT (by omega) he (by omega)) rfl rfl (Nat.le_of_ble_eq_true rfl) ?_
    refine b_iret dX9_wordKind_152 ⟨?_, rfl⟩
    by_cases h1 : r = []
    · subst h1; rw [wK_of hc, if_pos (by rw [hc]; rfl)]; rfl
    · have h2 : ([] == r) = false := beq_false_of_ne (fun z => h1 z.symm)
      rw [wK_of hc, if_neg (fun z => h1 (by rw [hc] at z; exact (List.cons.inj z).2))]
      have h5 : r.isEmpty = false := by cases r with | nil => exact absurd rfl h1 | cons => rfl
      simp [wds, List.findIdx_cons, cK, cKl, h1, h2, h5]
  · refine b_tableIn 278 dX9_wordKind_3 (by rw [hmi]; decide) (by rw [hmi]; decide) (by rw [hmi]; rfl) (by decide) ?_
    refine b_iconst (v := nI 3) dX9_wordKind_278 (by decide) ?_
    exact b_iret dX9_wordKind_279 ⟨by rw [wK_of hc]; simp [wds, List.findIdx_cons, cK, cKl], rfl⟩
  · refine b_tableIn 278 dX9_wordKind_3 (by rw [hmi]; decide) (by rw [hmi]; decide) (by rw [hmi]; rfl) (by decide) ?_
    refine b_iconst (v := nI 3) dX9_wordKind_278 (by decide) ?_
    exact b_iret dX9_wordKind_279 ⟨by rw [wK_of hc]; simp [wds, List.findIdx_cons, cK, cKl], rfl⟩
  · refine b_tableIn 153 dX9_wordKind_3 (by rw [hmi]; decide) (by rw [hmi]; decide) (by rw [hmi]; rfl) (by decide) ?_
    refine b_aload_n dX9_wordKind_153 rfl ?_
    refine b_iload_n dX9_wordKind_154 rfl ?_
    refine b_iload_n dX9_wordKind_155 rfl ?_
    refine b_ldcS (q := 3) dX9_wordKind_156 rfl ?_
    refine b_bipush (v := nI 104) dX9_wordKind_158 (by decide) ?_
    refine b_callSr [.ref (G.b0 + 1), .int (nI p), .int (nI e), .ref (G.adK 3), .int (nI 104)] dX9_wordKind_160 kX9_spelled lX9_47 (c_spelled hT (by omega) he (by omega)) rfl rfl (Nat.le_of_ble_eq_true rfl) ?_
    refine b_iret dX9_wordKind_163 ⟨?_, rfl⟩
    by_cases h1 : r = [97, 99, 116]
    · subst h1; rw [wK_of hc, if_pos (by rw [hc]; rfl)]; rfl
    · have h2 : ([97, 99, 116] == r) = false := beq_false_of_ne (fun z => h1 z.symm)
      rw [wK_of hc, if_neg (fun z => h1 (by rw [hc] at z; exact (List.cons.inj z).2))]
      simp [wds, List.findIdx_cons, cK, cKl, h1, h2]
  · refine b_tableIn 164 dX9_wordKind_3 (by rw [hmi]; decide) (by rw [hmi]; decide) (by rw [hmi]; rfl) (by decide) ?_
    refine b_aload_n dX9_wordKind_164 rfl ?_
    refine b_iload_n dX9_wordKind_165 rfl ?_
    refine b_iload_n dX9_wordKind_166 rfl ?_
    refine b_ldcS (q := 4) dX9_wordKind_167 rfl ?_
    refine b_bipush (v := nI 103) dX9_wordKind_169 (by decide) ?_
    refine b_callSr [.ref (G.b0 + 1), .int (nI p), .int (nI e), .ref (G.adK 4), .int (nI 103)] dX9_wordKind_171 kX9_spelled lX9_47 (c_spelled hT (by omega) he (by omega)) rfl rfl (Nat.le_of_ble_eq_true rfl) ?_
    refine b_iret dX9_wordKind_174 ⟨?_, rfl⟩
    by_cases h1 : r = [117, 105, 108, 116, 121]
    · subst h1; rw [wK_of hc, if_pos (by rw [hc]; rfl)]; rfl
    · have h2 : ([117, 105, 108, 116, 121] == r) = false := beq_false_of_ne (fun z => h1 z.symm)
      rw [wK_of hc, if_neg (fun z => h1 (by rw [hc] at z; exact (List.cons.inj z).2))]
      simp [wds, List.findIdx_cons, cK, cKl, h1, h2]
  · refine b_tableIn 175 dX9_wordKind_3 (by rw [hmi]; decide) (by rw [hmi]; decide) (by rw [hmi]; rfl) (by decide) ?_
    refine b_aload_n dX9_wordKind_175 rfl ?_
    refine b_iload_n dX9_wordKind_176 rfl ?_
    refine b_iload_n dX9_wordKind_177 rfl ?_
    refine b_ldcS (q := 5) dX9_wordKind_178 rfl ?_
    refine b_bipush (v := nI 108) dX9_wordKind_180 (by decide) ?_
    refine b_callSr [.ref (G.b0 + 1), .int (nI p), .int (nI e), .ref (G.adK 5), .int (nI 108)] dX9_wordKind_182 kX9_spelled lX9_47 (c_spelled hT (by omega) he (by omega)) rfl rfl (Nat.le_of_ble_eq_true rfl) ?_
    refine b_iret dX9_wordKind_185 ⟨?_, rfl⟩
    by_cases h1 : r = [105, 110, 116]
    · subst h1; rw [wK_of hc, if_pos (by rw [hc]; rfl)]; rfl
    · have h2 : ([105, 110, 116] == r) = false := beq_false_of_ne (fun z => h1 z.symm)
      rw [wK_of hc, if_neg (fun z => h1 (by rw [hc] at z; exact (List.cons.inj z).2))]
      simp [wds, List.findIdx_cons, cK, cKl, h1, h2]
  · refine b_tableIn 278 dX9_wordKind_3 (by rw [hmi]; decide) (by rw [hmi]; decide) (by rw [hmi]; rfl) (by decide) ?_
    refine b_iconst (v := nI 3) dX9_wordKind_278 (by decide) ?_
    exact b_iret dX9_wordKind_279 ⟨by rw [wK_of hc]; simp [wds, List.findIdx_cons, cK, cKl], rfl⟩
  · refine b_tableIn 278 dX9_wordKind_3 (by rw [hmi]; decide) (by rw [hmi]; decide) (by rw [hmi]; rfl) (by decide) ?_
    refine b_iconst (v := nI 3) dX9_wordKind_278 (by decide) ?_
    exact b_iret dX9_wordKind_279 ⟨by rw [wK_of hc]; simp [wds, List.findIdx_cons, cK, cKl], rfl⟩
  · refine b_tableIn 278 dX9_wordKind_3 (by rw [hmi]; decide) (by rw [hmi]; decide) (by rw [hmi]; rfl) (by decide) ?_
    refine b_iconst (v := nI 3) dX9_wordKind_278 (by decide) ?_
    exact b_iret dX9_wordKind_279 ⟨by rw [wK_of hc]; simp [wds, List.findIdx_cons, cK, cKl], rfl⟩
  · refine b_tableIn 278 dX9_wordKind_3 (by rw [hmi]; decide) (by rw [hmi]; decide) (by rw [hmi]; rfl) (by decide) ?_
    refine b_iconst (v := nI 3) dX9_wordKind_278 (by decide) ?_
    exact b_iret dX9_wordKind_279 ⟨by rw [wK_of hc]; simp [wds, List.findIdx_cons, cK, cKl], rfl⟩
  · refine b_tableIn 278 dX9_wordKind_3 (by rw [hmi]; decide) (by rw [hmi]; decide) (by rw [hmi]; rfl) (by decide) ?_
    refine b_iconst (v := nI 3) dX9_wordKind_278 (by decide) ?_
    exact b_iret dX9_wordKind_279 ⟨by rw [wK_of hc]; simp [wds, List.findIdx_cons, cK, cKl], rfl⟩
  · refine b_tableIn 186 dX9_wordKind_3 (by rw [hmi]; decide) (by rw [hmi]; decide) (by rw [hmi]; rfl) (by decide) ?_
    refine b_aload_n dX9_wordKind_186 rfl ?_
    refine b_iload_n dX9_wordKind_187 rfl ?_
    refine b_iload_n dX9_wordKind_188 rfl ?_
    refine b_ldcS (q := 6) dX9_wordKind_189 rfl ?_
    refine b_bipush (v := nI 110) dX9_wordKind_191 (by decide) ?_
    refine b_callSr [.ref (G.b0 + 1), .int (nI p), .int (nI e), .ref (G.adK 6), .int (nI 110)] dX9_wordKind_193 kX9_spelled lX9_47 (c_spelled hT (by omega) he (by omega)) rfl rfl (Nat.le_of_ble_eq_true rfl) ?_
    refine b_iret dX9_wordKind_196 ⟨?_, rfl⟩
    by_cases h1 : r = [111, 116]
    · subst h1; rw [wK_of hc, if_pos (by rw [hc]; rfl)]; rfl
    · have h2 : ([111, 116] == r) = false := beq_false_of_ne (fun z => h1 z.symm)
      rw [wK_of hc, if_neg (fun z => h1 (by rw [hc] at z; exact (List.cons.inj z).2))]
      simp [wds, List.findIdx_cons, cK, cKl, h1, h2]
  · refine b_tableIn 197 dX9_wordKind_3 (by rw [hmi]; decide) (by rw [hmi]; decide) (by rw [hmi]; rfl) (by decide) ?_
    refine b_aload_n dX9_wordKind_197 rfl ?_
    refine b_iload_n dX9_wordKind_198 rfl ?_
    refine b_iload_n dX9_wordKind_199 rfl ?_
    refine b_ldcS (q := 7) dX9_wordKind_200 rfl ?_
    refine b_bipush (v := nI 112) dX9_wordKind_202 (by decide) ?_
    refine b_callSr [.ref (G.b0 + 1), .int (nI p), .int (nI e), .ref (G.adK 7), .int (nI 112)] dX9_wordKind_204 kX9_spelled lX9_47 (c_spelled hT (by omega) he (by omega)) rfl rfl (Nat.le_of_ble_eq_true rfl) ?_
    refine b_iret dX9_wordKind_207 ⟨?_, rfl⟩
    by_cases h1 : r = [114]
    · subst h1; rw [wK_of hc, if_pos (by rw [hc]; rfl)]; rfl
    · have h2 : ([114] == r) = false := beq_false_of_ne (fun z => h1 z.symm)
      rw [wK_of hc, if_neg (fun z => h1 (by rw [hc] at z; exact (List.cons.inj z).2))]
      simp [wds, List.findIdx_cons, cK, cKl, h1, h2]
  · refine b_tableIn 208 dX9_wordKind_3 (by rw [hmi]; decide) (by rw [hmi]; decide) (by rw [hmi]; rfl) (by decide) ?_
    refine b_aload_n dX9_wordKind_208 rfl ?_
    refine b_iload_n dX9_wordKind_209 rfl ?_
    refine b_iload_n dX9_wordKind_210 rfl ?_
    refine b_ldcS (q := 8) dX9_wordKind_211 rfl ?_
    refine b_bipush (v := nI 105) dX9_wordKind_213 (by decide) ?_
    refine b_callSr [.ref (G.b0 + 1), .int (nI p), .int (nI e), .ref (G.adK 8), .int (nI 105)] dX9_wordKind_215 kX9_spelled lX9_47 (c_spelled hT (by omega) he (by omega)) rfl rfl (Nat.le_of_ble_eq_true rfl) ?_
    refine b_iret dX9_wordKind_218 ⟨?_, rfl⟩
    by_cases h1 : r = [101, 114, 115, 111, 110]
    · subst h1; rw [wK_of hc, if_pos (by rw [hc]; rfl)]; rfl
    · have h2 : ([101, 114, 115, 111, 110] == r) = false := beq_false_of_ne (fun z => h1 z.symm)
      rw [wK_of hc, if_neg (fun z => h1 (by rw [hc] at z; exact (List.cons.inj z).2))]
      simp [wds, List.findIdx_cons, cK, cKl, h1, h2]
  · refine b_tableIn 278 dX9_wordKind_3 (by rw [hmi]; decide) (by rw [hmi]; decide) (by rw [hmi]; rfl) (by decide) ?_
    refine b_iconst (v := nI 3) dX9_wordKind_278 (by decide) ?_
    exact b_iret dX9_wordKind_279 ⟨by rw [wK_of hc]; simp [wds, List.findIdx_cons, cK, cKl], rfl⟩
  · refine b_tableIn 219 dX9_wordKind_3 (by rw [hmi]; decide) (by rw [hmi]; decide) (by rw [hmi]; rfl) (by decide) ?_
    refine b_aload_n dX9_wordKind_219 rfl ?_
    refine b_iload_n dX9_wordKind_220 rfl ?_
    refine b_iload_n dX9_wordKind_221 rfl ?_
    refine b_ldcS (q := 9) dX9_wordKind_222 rfl ?_
    refine b_bipush (v := nI 107) dX9_wordKind_224 (by decide) ?_
    refine b_callSr [.ref (G.b0 + 1), .int (nI p), .int (nI e), .ref (G.adK 9), .int (nI 107)] dX9_wordKind_226 kX9_spelled lX9_47 (c_spelled hT (by omega) he (by omega)) rfl rfl (Nat.le_of_ble_eq_true rfl) ?_
    refine b_iret dX9_wordKind_229 ⟨?_, rfl⟩
    by_cases h1 : r = [111, 97, 100]
    · subst h1; rw [wK_of hc, if_pos (by rw [hc]; rfl)]; rfl
    · have h2 : ([111, 97, 100] == r) = false := beq_false_of_ne (fun z => h1 z.symm)
      rw [wK_of hc, if_neg (fun z => h1 (by rw [hc] at z; exact (List.cons.inj z).2))]
      simp [wds, List.findIdx_cons, cK, cKl, h1, h2]
  · refine b_tableIn 278 dX9_wordKind_3 (by rw [hmi]; decide) (by rw [hmi]; decide) (by rw [hmi]; rfl) (by decide) ?_
    refine b_iconst (v := nI 3) dX9_wordKind_278 (by decide) ?_
    exact b_iret dX9_wordKind_279 ⟨by rw [wK_of hc]; simp [wds, List.findIdx_cons, cK, cKl], rfl⟩
  · refine b_tableIn 230 dX9_wordKind_3 (by rw [hmi]; decide) (by rw [hmi]; decide) (by rw [hmi]; rfl) (by decide) ?_
    refine b_aload_n dX9_wordKind_230 rfl ?_
    refine b_iload_n dX9_wordKind_231 rfl ?_
    refine b_iload_n dX9_wordKind_232 rfl ?_
    refine b_ldcS (q := 10) dX9_wordKind_233 rfl ?_
    refine b_bipush (v := nI 106) dX9_wordKind_235 (by decide) ?_
    refine b_callSr [.ref (G.b0 + 1), .int (nI p), .int (nI e), .ref (G.adK 10), .int (nI 106)] dX9_wordKind_237 kX9_spelled lX9_47 (c_spelled hT (by omega) he (by omega)) rfl rfl (Nat.le_of_ble_eq_true rfl) ?_
    refine b_aload_n dX9_wordKind_240 rfl ?_
    refine b_iload_n dX9_wordKind_241 rfl ?_
    refine b_iload_n dX9_wordKind_242 rfl ?_
    refine b_ldcS (q := 11) dX9_wordKind_243 rfl ?_
    refine b_bipush (v := nI 109) dX9_wordKind_245 (by decide) ?_
    refine b_callSr [.ref (G.b0 + 1), .int (nI p), .int (nI e), .ref (G.adK 11), .int (nI 109)] dX9_wordKind_247 kX9_spelled lX9_47 (c_spelled hT (by omega) he (by omega)) rfl rfl (Nat.le_of_ble_eq_true rfl) ?_
    refine b_mmax dX9_wordKind_250 lX9_73 (Nat.le_of_ble_eq_true rfl) ?_
    refine b_iret dX9_wordKind_253 ⟨?_, rfl⟩
    by_cases h1 : r = [111, 108, 100]
    · subst h1
      rw [wK_of hc, if_pos (by rw [hc]; rfl), if_neg (by rw [hc]; decide)]
      decide
    · by_cases g1 : r = [114, 117, 101]
      · subst g1
        rw [wK_of hc, if_neg (by rw [hc]; decide), if_pos (by rw [hc]; rfl)]
        decide
      · have h2 : ([111, 108, 100] == r) = false := beq_false_of_ne (fun z => h1 z.symm)
        have g2 : ([114, 117, 101] == r) = false := beq_false_of_ne (fun z => g1 z.symm)
        rw [wK_of hc, if_neg (fun z => h1 (by rw [hc] at z; exact (List.cons.inj z).2)), if_neg (fun z => g1 (by rw [hc] at z; exact (List.cons.inj z).2))]
        simp [wds, List.findIdx_cons, cK, cKl, h1, h2, g1, g2]
        decide
  · refine b_tableIn 278 dX9_wordKind_3 (by rw [hmi]; decide) (by rw [hmi]; decide) (by rw [hmi]; rfl) (by decide) ?_
    refine b_iconst (v := nI 3) dX9_wordKind_278 (by decide) ?_
    exact b_iret dX9_wordKind_279 ⟨by rw [wK_of hc]; simp [wds, List.findIdx_cons, cK, cKl], rfl⟩
  · refine b_tableIn 278 dX9_wordKind_3 (by rw [hmi]; decide) (by rw [hmi]; decide) (by rw [hmi]; rfl) (by decide) ?_
    refine b_iconst (v := nI 3) dX9_wordKind_278 (by decide) ?_
    exact b_iret dX9_wordKind_279 ⟨by rw [wK_of hc]; simp [wds, List.findIdx_cons, cK, cKl], rfl⟩
  · refine b_tableIn 254 dX9_wordKind_3 (by rw [hmi]; decide) (by rw [hmi]; decide) (by rw [hmi]; rfl) (by decide) ?_
    refine b_aload_n dX9_wordKind_254 rfl ?_
    refine b_iload_n dX9_wordKind_255 rfl ?_
    refine b_iload_n dX9_wordKind_256 rfl ?_
    refine b_ldcS (q := 12) dX9_wordKind_257 rfl ?_
    refine b_bipush (v := nI 101) dX9_wordKind_259 (by decide) ?_
    refine b_callSr [.ref (G.b0 + 1), .int (nI p), .int (nI e), .ref (G.adK 12), .int (nI 101)] dX9_wordKind_261 kX9_spelled lX9_47 (c_spelled hT (by omega) he (by omega)) rfl rfl (Nat.le_of_ble_eq_true rfl) ?_
    refine b_aload_n dX9_wordKind_264 rfl ?_
    refine b_iload_n dX9_wordKind_265 rfl ?_
    refine b_iload_n dX9_wordKind_266 rfl ?_
    refine b_ldcS (q := 13) dX9_wordKind_267 rfl ?_
    refine b_bipush (v := nI 102) dX9_wordKind_269 (by decide) ?_
    refine b_callSr [.ref (G.b0 + 1), .int (nI p), .int (nI e), .ref (G.adK 13), .int (nI 102)] dX9_wordKind_271 kX9_spelled lX9_47 (c_spelled hT (by omega) he (by omega)) rfl rfl (Nat.le_of_ble_eq_true rfl) ?_
    refine b_mmax dX9_wordKind_274 lX9_73 (Nat.le_of_ble_eq_true rfl) ?_
    refine b_iret dX9_wordKind_277 ⟨?_, rfl⟩
    by_cases h1 : r = [111, 114, 108, 100]
    · subst h1
      rw [wK_of hc, if_pos (by rw [hc]; rfl), if_neg (by rw [hc]; decide)]
      decide
    · by_cases g1 : r = [101, 105, 103, 104, 116]
      · subst g1
        rw [wK_of hc, if_neg (by rw [hc]; decide), if_pos (by rw [hc]; rfl)]
        decide
      · have h2 : ([111, 114, 108, 100] == r) = false := beq_false_of_ne (fun z => h1 z.symm)
        have g2 : ([101, 105, 103, 104, 116] == r) = false := beq_false_of_ne (fun z => g1 z.symm)
        rw [wK_of hc, if_neg (fun z => h1 (by rw [hc] at z; exact (List.cons.inj z).2)), if_neg (fun z => g1 (by rw [hc] at z; exact (List.cons.inj z).2))]
        simp [wds, List.findIdx_cons, cK, cKl, h1, h2, g1, g2]
        decide
  · refine b_tableOut 278 dX9_wordKind_3 (by rw [hmi]; decide) (by decide) ?_
    refine b_iconst (v := nI 3) dX9_wordKind_278 (by decide) ?_
    exact b_iret dX9_wordKind_279 ⟨by rw [wK_of hc]; simp [wds, List.findIdx_cons, cK, cKl], rfl⟩
  · refine b_tableOut 278 dX9_wordKind_3 (by rw [hmi]; decide) (by decide) ?_
    refine b_iconst (v := nI 3) dX9_wordKind_278 (by decide) ?_
    exact b_iret dX9_wordKind_279 ⟨by rw [wK_of hc]; simp [wds, List.findIdx_cons, cK, cKl], rfl⟩
  · refine b_tableOut 278 dX9_wordKind_3 (by rw [hmi]; decide) (by decide) ?_
    refine b_iconst (v := nI 3) dX9_wordKind_278 (by decide) ?_
    exact b_iret dX9_wordKind_279 ⟨by rw [wK_of hc]; simp [wds, List.findIdx_cons, cK, cKl], rfl⟩

