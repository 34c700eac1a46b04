/-! ===== the reference: tokens ===== -/
def TxM (s : ST) (X : TX) : Prop := X.2 ≤ 900 ∧ (∀ k, k < 900 → X.1 k < 256 ∧ s 80 k = nI (X.1 k)) ∧ s 77 11 = nI X.2
theorem m_isSmall {G : GT} {d : Nat} {h : HT} {x : Int32} : Fn G d mX12_isSmall [.int x] h (Ret (some (.int (bI (decide (nI 97 ≤ x) && decide (x ≤ nI 122))))) h) := by
  refine fn_of (ls := [some (.int x)]) (by decide +kernel) (Nat.le_of_ble_eq_true rfl) 0 rfl ?_
  refine b_iload_n dX12_isSmall_0 rfl ?_
  refine b_bipush (v := nI 97) dX12_isSmall_1 (by decide) ?_
  refine b_icmp_lt 16 dX12_isSmall_3 (by decide) (fun c1 => ?_) (fun c1 => ?_)
  · skip
    refine b_iconst (v := nI 0) dX12_isSmall_16 (by decide) ?_
    exact b_zret dX12_isSmall_17 rfl ⟨by rw [decide_eq_false (Int32.not_le.mpr c1)]; rfl, rfl⟩
  · skip
    refine b_iload_n dX12_isSmall_6 rfl ?_
    refine b_bipush (v := nI 122) dX12_isSmall_7 (by decide) ?_
    refine b_icmp_gt 16 dX12_isSmall_9 (by decide) (fun c2 => ?_) (fun c2 => ?_)
    · skip
      refine b_iconst (v := nI 0) dX12_isSmall_16 (by decide) ?_
      exact b_zret dX12_isSmall_17 rfl ⟨by rw [decide_eq_false (Int32.not_le.mpr c2), Bool.and_false]; rfl, rfl⟩
    · skip
      refine b_iconst (v := nI 1) dX12_isSmall_12 (by decide) ?_
      refine b_goto 17 dX12_isSmall_13 (by decide) ?_
      exact b_zret dX12_isSmall_17 rfl ⟨by rw [decide_eq_true (Int32.not_lt.mp c1), decide_eq_true (Int32.not_lt.mp c2)]; rfl, rfl⟩
theorem m_isDigit {G : GT} {d : Nat} {h : HT} {x : Int32} : Fn G d mX12_isDigit [.int x] h (Ret (some (.int (bI (decide (nI 48 ≤ x) && decide (x ≤ nI 57))))) h) := by
  refine fn_of (ls := [some (.int x)]) (by decide +kernel) (Nat.le_of_ble_eq_true rfl) 0 rfl ?_
  refine b_iload_n dX12_isDigit_0 rfl ?_
  refine b_bipush (v := nI 48) dX12_isDigit_1 (by decide) ?_
  refine b_icmp_lt 16 dX12_isDigit_3 (by decide) (fun c1 => ?_) (fun c1 => ?_)
  · skip
    refine b_iconst (v := nI 0) dX12_isDigit_16 (by decide) ?_
    exact b_zret dX12_isDigit_17 rfl ⟨by rw [decide_eq_false (Int32.not_le.mpr c1)]; rfl, rfl⟩
  · skip
    refine b_iload_n dX12_isDigit_6 rfl ?_
    refine b_bipush (v := nI 57) dX12_isDigit_7 (by decide) ?_
    refine b_icmp_gt 16 dX12_isDigit_9 (by decide) (fun c2 => ?_) (fun c2 => ?_)
    · skip
      refine b_iconst (v := nI 0) dX12_isDigit_16 (by decide) ?_
      exact b_zret dX12_isDigit_17 rfl ⟨by rw [decide_eq_false (Int32.not_le.mpr c2), Bool.and_false]; rfl, rfl⟩
    · skip
      refine b_iconst (v := nI 1) dX12_isDigit_12 (by decide) ?_
      refine b_goto 17 dX12_isDigit_13 (by decide) ?_
      exact b_zret dX12_isDigit_17 rfl ⟨by rw [decide_eq_true (Int32.not_lt.mp c1), decide_eq_true (Int32.not_lt.mp c2)]; rfl, rfl⟩
def seeV (X : TX) (k : Nat) : Int32 := if k < X.2 then nI (X.1 k) else -1
def seeL (X : TX) (k : Nat) : Bool := decide (k < X.2) && isL (X.1 k)
def seeD (X : TX) (k : Nat) : Bool := decide (k < X.2) && isD (X.1 k)
theorem see_L {X : TX} {k : Nat} (hb : X.1 k < 256) : (decide (nI 97 ≤ seeV X k) && decide (seeV X k ≤ nI 122)) = seeL X k := by
  unfold seeV seeL
  by_cases h : k < X.2
  · rw [if_pos h, decide_eq_true h, Bool.true_and]
    unfold isL
    congr 1
    · rw [decide_eq_decide]; exact nI_leI (by omega) (by omega)
    · rw [decide_eq_decide]; exact nI_leI (by omega) (by omega)
  · rw [if_neg h, decide_eq_false h, Bool.false_and]; decide
theorem see_D {X : TX} {k : Nat} (hb : X.1 k < 256) : (decide (nI 48 ≤ seeV X k) && decide (seeV X k ≤ nI 57)) = seeD X k := by
  unfold seeV seeD
  by_cases h : k < X.2
  · rw [if_pos h, decide_eq_true h, Bool.true_and]
    unfold isD
    congr 1
    · rw [decide_eq_decide]; exact nI_leI (by omega) (by omega)
    · rw [decide_eq_decide]; exact nI_leI (by omega) (by omega)
  · rw [if_neg h, decide_eq_false h, Bool.false_and]; decide
theorem see_e {X : TX} {k y : Nat} (hb : k < X.2 → X.1 k < 256) (hy : y < 256) : seeV X k = nI y ↔ k < X.2 ∧ X.1 k = y := by
  unfold seeV
  by_cases h : k < X.2
  · have hb' := hb h
    rw [if_pos h, nI_eq (by omega) (by omega)]; exact ⟨fun z => ⟨h, z⟩, fun z => z.2⟩
  · rw [if_neg h]
    exact ⟨fun z => absurd z.symm (nI_m1 (by omega)), fun z => absurd z.1 h⟩
theorem m_see {G : GT} {d : Nat} {s : ST} {μ : SL} {X : TX} {k : Nat} (hT : TxM s X) (hk : k ≤ 900) : Fn G d mX12_see [.ref (G.b0 + 77), .int (nI k)] (sh G s μ) (Ret (some (.int (seeV X k))) (sh G s μ)) := by
  have hX := hT.1
  refine fn_of (ls := [some (.ref (G.b0 + 77)), some (.int (nI k))]) (by decide +kernel) (Nat.le_of_ble_eq_true rfl) 0 rfl ?_
  refine b_iload_n dX12_see_0 rfl ?_
  refine b_aload_n dX12_see_1 rfl ?_
  refine g_geti (x := nI X.2) dX12_see_2 fX12_86 a77 rfl hT.2.2 ?_
  refine b_icmp_ge 17 dX12_see_5 (by decide) (fun c1 => ?_) (fun c1 => ?_)
  · skip
    rw [nI_leI (by omega) (by omega)] at c1
    refine b_iconst (v := -1) dX12_see_17 (by decide) ?_
    exact b_iret dX12_see_18 ⟨by unfold seeV; rw [if_neg (by omega)], rfl⟩
  · skip
    rw [nI_leI (by omega) (by omega)] at c1
    refine b_aload_n dX12_see_8 rfl ?_
    refine g_get dX12_see_9 fX12_21 a77 rfl ?_
    refine b_iload_n dX12_see_12 rfl ?_
    refine g_iald dX12_see_13 a80 rfl (by omega) ?_
    refine b_goto 18 dX12_see_14 (by decide) ?_
    refine b_iret dX12_see_18 ⟨?_, rfl⟩
    show some (Value.int (s 80 k)) = _
    unfold seeV
    rw [if_pos (by omega), (hT.2.1 k (by omega)).2]
/-! the words -/
def kst : List Nat := [1, 7, 14, 21, 26, 33, 38, 43, 48, 53, 56, 60, 64, 66, 68, 70]
theorem key_ok : ∀ n, n < 15 → (wds.getD n []).length ≤ 6 ∧ kst.getD (n + 1) 0 = kst.getD n 0 + (wds.getD n []).length + 1 ∧ kst.getD n 0 + (wds.getD n []).length < 70 ∧ sch 14 (kst.getD n 0 + (wds.getD n []).length) = nI 32 ∧ (∀ i, i < (wds.getD n []).length → sch 14 (kst.getD n 0 + i) = nI ((wds.getD n []).getD i 0) ∧ (wds.getD n []).getD i 0 < 128 ∧ (wds.getD n []).getD i 0 ≠ 32) := by decide +kernel
theorem wds_g {n : Nat} (h : n < wds.length) : wds[n] = wds.getD n [] := by
  rw [List.getD_eq_getElem?_getD, List.getElem?_eq_getElem h]; rfl
theorem wK_at {X : TX} {p e n : Nat} (hn : n < 15) (h : tWd X p e = wds.getD n []) (hno : ∀ m, m < n → tWd X p e ≠ wds.getD m []) : wK X p e = n := by
  unfold wK
  have hl : wds.length = 15 := rfl
  rw [List.findIdx_eq (by omega)]
  refine ⟨?_, fun j hj => ?_⟩
  · have : wds[n]'(by omega) = wds.getD n [] := wds_g (by omega)
    rw [beq_iff_eq]; exact this.trans h.symm
  · have : wds[j]'(by omega) = wds.getD j [] := wds_g (by omega)
    have h2 := hno j hj
    rw [beq_eq_false_iff_ne]
    exact fun z => h2 (z.symm.trans this)
theorem wK_15 {X : TX} {p e : Nat} (hno : ∀ m, m < 15 → tWd X p e ≠ wds.getD m []) : wK X p e = 15 := by
  unfold wK
  have hl : wds.length = 15 := rfl
  rw [← hl, List.findIdx_eq_length]
  intro x hx
  obtain ⟨j, hj, rfl⟩ := List.getElem_of_mem hx
  have h1 : wds[j] = wds.getD j [] := wds_g hj
  have h2 := hno j (by omega)
  rw [beq_eq_false_iff_ne]
  exact fun z => h2 (z.symm.trans h1)
theorem m_keyAt {G : GT} {d : Nat} {s : ST} {μ : SL} {X : TX} {p e : Nat} (hT : TxM s X) (hp : s 77 9 = nI p) (he : s 77 10 = nI e) (hpe : p < e) (heX : e ≤ X.2) : Fn G (d + 4) mX12_keyAt [.ref (G.b0 + 77)] (sh G s μ) (Ret (some (.int (nI (wK X p e)))) (sh G s μ)) := by
  have hX := hT.1
  have h70 : slen.getD 14 0 = 70 := by decide
  refine fn_of (ls := [some (.ref (G.b0 + 77)), none, none, none]) (by decide +kernel) (Nat.le_of_ble_eq_true rfl) 3 rfl ?_
  refine b_iconst (v := nI 0) dX12_keyAt_0 (by decide) ?_
  refine b_istore_n dX12_keyAt_1 (by decide) rfl ?_
  refine b_iconst (v := nI 1) dX12_keyAt_2 (by decide) ?_
  refine b_istore_n dX12_keyAt_3 (by decide) rfl ?_
  have lp : ∀ (m n : Nat) (z3 : Option Value), n + m = 15 → (∀ j, j < n → tWd X p e ≠ wds.getD j []) → BB G RX12 cX12_keyAt 4 (some .int) (d + 4) (QM G (Ret (some (.int (nI (wK X p e)))) (sh G s μ))) 4 [some (.ref (G.b0 + 77)), some (.int (nI n)), some (.int (nI (kst.getD n 0))), z3] [] (sh G s μ) := by
    intro m
    induction m with
    | zero =>
      intro n z3 hn hno
      have en : n = 15 := by omega
      subst en
      refine b_iload_n dX12_keyAt_4 rfl ?_
      refine b_ldcS (q := 14) dX12_keyAt_5 rfl ?_
      refine b_callStr [] dX12_keyAt_7 kJ0_length_8abf5 lX12_91 (by omega) rfl (c_length (d := d + 2) (q := 14) (by omega)) rfl rfl (Nat.le_of_ble_eq_true rfl) ?_
      rw [h70]
      refine b_icmp_ge_t 123 dX12_keyAt_10 (by decide) (by decide) ?_
      refine b_bipush (v := nI 15) dX12_keyAt_123 (by decide) ?_
      exact b_iret dX12_keyAt_125 ⟨by rw [wK_15 hno], rfl⟩
    | succ m ih =>
      intro n z3 hn hno
      obtain ⟨k1, k2, k3, k4, k5⟩ := key_ok n (by omega)
      generalize hk : kst.getD n 0 = k at *
      generalize hw : wds.getD n [] = w at *
      generalize hwl : w.length = wl at *
      -- on to the next word
      have nx : tWd X p e ≠ w → ∀ (z3 : Option Value) (i : Nat) (c : Nat), c + i = wl → BB G RX12 cX12_keyAt 4 (some .int) (d + 4) (QM G (Ret (some (.int (nI (wK X p e)))) (sh G s μ))) 97 [some (.ref (G.b0 + 77)), some (.int (nI n)), some (.int (nI (k + c))), z3] [] (sh G s μ) := by
        intro hne z3 i
        induction i with
        | zero =>
          intro c hc
          have ec : c = wl := by omega
          subst ec
          refine b_ldcS (q := 14) dX12_keyAt_97 rfl ?_
          refine b_iload_n dX12_keyAt_99 rfl ?_
          refine b_callStr [.int (nI (k + c))] dX12_keyAt_100 kJ0_charAt_5068e lX12_97 (by omega) rfl (c_charAt (d := d) (q := 14) (j := k + c) (by omega) (by omega)) rfl rfl (Nat.le_of_ble_eq_true rfl) ?_
          rw [k4]
          refine b_bipush (v := nI 32) dX12_keyAt_103 (by decide) ?_
          refine b_icmp_eq_t 114 dX12_keyAt_105 (by decide) rfl ?_
          refine b_iinc dX12_keyAt_114 rfl (nI_1 _) (by decide) rfl ?_
          refine b_iinc dX12_keyAt_117 rfl (nI_1 _) (by decide) rfl ?_
          refine b_goto 4 dX12_keyAt_120 (by decide) ?_
          refine b_locs ?_ (ih (n + 1) z3 (by omega) (fun j hj => ?_))
          · rw [k2]; rfl
          · by_cases ej : j = n
            · rw [ej, hw]; exact hne
            · exact hno j (by omega)
        | succ i ihi =>
          intro c hc
          obtain ⟨q1, q2, q3⟩ := k5 c (by omega)
          refine b_ldcS (q := 14) dX12_keyAt_97 rfl ?_
          refine b_iload_n dX12_keyAt_99 rfl ?_
          refine b_callStr [.int (nI (k + c))] dX12_keyAt_100 kJ0_charAt_5068e lX12_97 (by omega) rfl (c_charAt (d := d) (q := 14) (j := k + c) (by omega) (by omega)) rfl rfl (Nat.le_of_ble_eq_true rfl) ?_
          rw [q1]
          refine b_bipush (v := nI 32) dX12_keyAt_103 (by decide) ?_
          refine b_icmp_eq_f 114 dX12_keyAt_105 (by decide) (by rw [nI_eq (by omega) (by omega)]; exact q3) ?_
          refine b_iinc dX12_keyAt_108 rfl (nI_1 _) (by decide) rfl ?_
          refine b_goto 97 dX12_keyAt_111 (by decide) ?_
          exact ihi (c + 1) (by omega)
      refine b_iload_n dX12_keyAt_4 rfl ?_
      refine b_ldcS (q := 14) dX12_keyAt_5 rfl ?_
      refine b_callStr [] dX12_keyAt_7 kJ0_length_8abf5 lX12_91 (by omega) rfl (c_length (d := d + 2) (q := 14) (by omega)) rfl rfl (Nat.le_of_ble_eq_true rfl) ?_
      rw [h70]
      refine b_icmp_ge_f 123 dX12_keyAt_10 (by decide) (nI_ge (by omega) (by omega)) ?_
      refine b_iconst (v := nI 0) dX12_keyAt_13 (by decide) ?_
      refine b_istore_n dX12_keyAt_14 (by decide) rfl ?_
      have lp2 : ∀ (f i : Nat), i + f = wl → p + i ≤ e → (∀ j, j < i → X.1 (p + j) = w.getD j 0) → BB G RX12 cX12_keyAt 4 (some .int) (d + 4) (QM G (Ret (some (.int (nI (wK X p e)))) (sh G s μ))) 15 [some (.ref (G.b0 + 77)), some (.int (nI n)), some (.int (nI k)), some (.int (nI i))] [] (sh G s μ) := by
        -- at 69: is it the word?
        have ex : ∀ (i : Nat), i ≤ wl → p + i ≤ e → (∀ j, j < i → X.1 (p + j) = w.getD j 0) → (i < wl → p + i < e → X.1 (p + i) ≠ w.getD i 0) → BB G RX12 cX12_keyAt 4 (some .int) (d + 4) (QM G (Ret (some (.int (nI (wK X p e)))) (sh G s μ))) 69 [some (.ref (G.b0 + 77)), some (.int (nI n)), some (.int (nI k)), some (.int (nI i))] [] (sh G s μ) := by
          intro i hi hpi hj hs
          have nx0 := fun hne z3 => nx hne z3 wl 0 (by omega)
          simp only [Nat.add_zero] at nx0
          refine b_ldcS (q := 14) dX12_keyAt_69 rfl ?_
          refine b_iload_n dX12_keyAt_71 rfl ?_
          refine b_iload_n dX12_keyAt_72 rfl ?_
          refine b_iaddN dX12_keyAt_73 ?_
          refine b_callStr [.int (nI (k + i))] dX12_keyAt_74 kJ0_charAt_5068e lX12_97 (by omega) rfl (c_charAt (d := d) (q := 14) (j := k + i) (by omega) (by omega)) rfl rfl (Nat.le_of_ble_eq_true rfl) ?_
          by_cases hil : i = wl
          · rw [hil, k4]
            refine b_bipush (v := nI 32) dX12_keyAt_77 (by decide) ?_
            refine b_icmp_ne_f 97 dX12_keyAt_79 (by decide) (by simp) ?_
            refine b_aload_n dX12_keyAt_82 rfl ?_
            refine g_geti (x := nI p) dX12_keyAt_83 fX12_101 a77 rfl hp ?_
            refine b_iload_n dX12_keyAt_86 rfl ?_
            refine b_iaddN dX12_keyAt_87 ?_
            refine b_aload_n dX12_keyAt_88 rfl ?_
            refine g_geti (x := nI e) dX12_keyAt_89 fX12_104 a77 rfl he ?_
            refine b_icmp_ne 97 dX12_keyAt_92 (by decide) (fun c1 => ?_) (fun c1 => ?_)
            · skip
              have c2 : ¬ p + wl = e := fun z => c1 (by rw [z])
              refine nx0 (fun z => ?_) _
              have := (tWd_at z).1; omega
            · skip
              have c2 : p + wl = e := by rw [nI_eq (by omega) (by omega)] at c1; exact c1
              refine b_iload_n dX12_keyAt_95 rfl ?_
              have ew : tWd X p e = w := tWd_eq (by omega) (fun j hjj => hj j (by omega))
              exact b_iret dX12_keyAt_96 ⟨by rw [wK_at (n := n) (by omega) (by rw [hw]; exact ew) hno], rfl⟩
          · obtain ⟨q1, q2, q3⟩ := k5 i (by omega)
            rw [q1]
            refine b_bipush (v := nI 32) dX12_keyAt_77 (by decide) ?_
            refine b_icmp_ne_t 97 dX12_keyAt_79 (by decide) (by rw [nI_eq (by omega) (by omega)]; exact q3) ?_
            refine nx0 (fun z => ?_) _
            obtain ⟨z1, z2⟩ := tWd_at z
            exact hs (by omega) (by omega) (z2 i (by omega))
        intro f
        induction f with
        | zero =>
          intro i hi hpi hj
          have ei : i = wl := by omega
          subst ei
          refine b_ldcS (q := 14) dX12_keyAt_15 rfl ?_
          refine b_iload_n dX12_keyAt_17 rfl ?_
          refine b_iload_n dX12_keyAt_18 rfl ?_
          refine b_iaddN dX12_keyAt_19 ?_
          refine b_callStr [.int (nI (k + i))] dX12_keyAt_20 kJ0_charAt_5068e lX12_97 (by omega) rfl (c_charAt (d := d) (q := 14) (j := k + i) (by omega) (by omega)) rfl rfl (Nat.le_of_ble_eq_true rfl) ?_
          rw [k4]
          refine b_bipush (v := nI 32) dX12_keyAt_23 (by decide) ?_
          refine b_icmp_eq_t 69 dX12_keyAt_25 (by decide) rfl ?_
          exact ex i (Nat.le_refl _) hpi hj (fun z => absurd z (by omega))
        | succ f ihf =>
          intro i hi hpi hj
          obtain ⟨q1, q2, q3⟩ := k5 i (by omega)
          refine b_ldcS (q := 14) dX12_keyAt_15 rfl ?_
          refine b_iload_n dX12_keyAt_17 rfl ?_
          refine b_iload_n dX12_keyAt_18 rfl ?_
          refine b_iaddN dX12_keyAt_19 ?_
          refine b_callStr [.int (nI (k + i))] dX12_keyAt_20 kJ0_charAt_5068e lX12_97 (by omega) rfl (c_charAt (d := d) (q := 14) (j := k + i) (by omega) (by omega)) rfl rfl (Nat.le_of_ble_eq_true rfl) ?_
          rw [q1]
          refine b_bipush (v := nI 32) dX12_keyAt_23 (by decide) ?_
          refine b_icmp_eq_f 69 dX12_keyAt_25 (by decide) (by rw [nI_eq (by omega) (by omega)]; exact q3) ?_
          refine b_aload_n dX12_keyAt_28 rfl ?_
          refine g_geti (x := nI p) dX12_keyAt_29 fX12_101 a77 rfl hp ?_
          refine b_iload_n dX12_keyAt_32 rfl ?_
          refine b_iaddN dX12_keyAt_33 ?_
          refine b_aload_n dX12_keyAt_34 rfl ?_
          refine g_geti (x := nI e) dX12_keyAt_35 fX12_104 a77 rfl he ?_
          refine b_icmp_ge 69 dX12_keyAt_38 (by decide) (fun c2 => ?_) (fun c2 => ?_)
          · skip
            rw [nI_leI (by omega) (by omega)] at c2
            exact ex i (by omega) hpi hj (fun _ z => absurd z (by omega))
          · skip
            rw [nI_leI (by omega) (by omega)] at c2
            obtain ⟨t1, t2⟩ := hT.2.1 (p + i) (by omega)
            refine b_aload_n dX12_keyAt_41 rfl ?_
            refine g_get dX12_keyAt_42 fX12_21 a77 rfl ?_
            refine b_aload_n dX12_keyAt_45 rfl ?_
            refine g_geti (x := nI p) dX12_keyAt_46 fX12_101 a77 rfl hp ?_
            refine b_iload_n dX12_keyAt_49 rfl ?_
            refine b_iaddN dX12_keyAt_50 ?_
            refine g_iald dX12_keyAt_51 a80 rfl (by omega) ?_
            refine b_top t2 ?_
            refine b_ldcS (q := 14) dX12_keyAt_52 rfl ?_
            refine b_iload_n dX12_keyAt_54 rfl ?_
            refine b_iload_n dX12_keyAt_55 rfl ?_
            refine b_iaddN dX12_keyAt_56 ?_
            refine b_callStr [.int (nI (k + i))] dX12_keyAt_57 kJ0_charAt_5068e lX12_97 (by omega) rfl (c_charAt (d := d) (q := 14) (j := k + i) (by omega) (by omega)) rfl rfl (Nat.le_of_ble_eq_true rfl) ?_
            rw [q1]
            refine b_icmp_ne 69 dX12_keyAt_60 (by decide) (fun c3 => ?_) (fun c3 => ?_)
            · skip
              have c4 : ¬ X.1 (p + i) = w.getD i 0 := fun z => c3 (by rw [z])
              exact ex i (by omega) hpi hj (fun _ _ => c4)
            · skip
              have c4 : X.1 (p + i) = w.getD i 0 := by rw [nI_eq (by omega) (by omega)] at c3; exact c3
              refine b_iinc dX12_keyAt_63 rfl (nI_1 _) (by decide) rfl ?_
              refine b_goto 15 dX12_keyAt_66 (by decide) ?_
              refine ihf (i + 1) (by omega) (by omega) (fun j hjj => ?_)
              by_cases ej : j = i
              · rw [ej]; exact c4
              · exact hj j (by omega)
      exact lp2 wl 0 (by omega) (by omega) (fun j hj => absurd hj (by omega))
  exact lp 15 0 none (by omega) (fun j hj => absurd hj (by omega))

