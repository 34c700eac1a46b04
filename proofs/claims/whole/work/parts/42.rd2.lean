/-! ===== Reader: atoms, terms, sums, units, truths ===== -/
def RdC (G : GT) (μ : SL) (Y : PX) (M : MT) (F : FS → FS) (dp b : Nat) : Prop := ∀ (dd : Nat) (σ : ST) (S : FS), b ≤ dd → RF σ Y S → PO Y 0 S → Fn G dd M [.ref (G.b0 + 2), .int (nI dp)] (sh G σ μ) (PRd G μ σ Y (F S) none)
theorem kR_t {σ s s' : ST} (h : ∀ c, ¬ kR c → s c = σ c) (h' : ∀ c, ¬ kR c → s' c = s c) : ∀ c, ¬ kR c → s' c = σ c := fun c hc => (h' c hc).trans (h c hc)
theorem c_readTerm {G : GT} {μ : SL} {Y : PX} {inn : Option (FS → FS)} {dp b : Nat} (hY : PxO Y) (hb1 : 1 ≤ b) (hA : RdC G μ Y mX5_readAtom (atomF Y inn) dp b) (hPO : ∀ c s, PO Y c s → PO Y c ((atomF Y inn) s)) : RdC G μ Y mX5_readTerm (termF Y inn) dp (b + 1) := by
  intro dd σ S hdd hR hp
  obtain ⟨e, rfl⟩ : ∃ e, dd = e + 1 := ⟨dd - 1, by omega⟩
  refine fn_of (ls := [some (.ref (G.b0 + 2)), some (.int (nI dp)), none]) (by decide +kernel) (Nat.le_of_ble_eq_true rfl) 1 rfl ?_
  refine b_aload_n dX5_readTerm_0 rfl ?_
  refine b_iload_n dX5_readTerm_1 rfl ?_
  refine g_callVp [.int (nI dp)] dX5_readTerm_2 kX5_readAtom lX5_169 a2 rfl rfl (hA e σ S (by omega) hR hp) rfl rfl (Nat.le_of_ble_eq_true rfl) ?_
  rintro r h9 ⟨rfl, s0, rfl, hs0, hR0⟩
  refine b_iconst (v := nI 0) dX5_readTerm_5 (by decide) ?_
  refine b_istore_n dX5_readTerm_6 (by decide) rfl ?_
  have lp : ∀ (n i : Nat) (s : ST) (T : FS), i + n = 900 → (∀ c, ¬ kR c → s c = σ c) → RF s Y T → PO Y 0 T → lpF Y opT (atomF Y inn) n T = termF Y inn S → BB G RX5 cX5_readTerm 3 none (e + 1) (QM G (PRd G μ σ Y (termF Y inn S) none)) 7 [some (.ref (G.b0 + 2)), some (.int (nI dp)), some (.int (nI i))] [] (sh G s μ) := by
    intro n
    induction n with
    | zero =>
      intro i s T hi hs hT hpT he
      refine b_iload_n dX5_readTerm_7 rfl ?_
      refine b_sipush (v := nI 900) dX5_readTerm_8 (by decide) ?_
      refine b_icmp_ge_t 47 dX5_readTerm_11 (by decide) (nI_le (by omega) (by omega)) ?_
      exact b_vret dX5_readTerm_47 ⟨rfl, s, rfl, hs, by rw [← he]; exact hT⟩
    | succ n ih =>
      intro i s T hi hs hT hpT he
      refine b_iload_n dX5_readTerm_7 rfl ?_
      refine b_sipush (v := nI 900) dX5_readTerm_8 (by decide) ?_
      refine b_icmp_ge_f 47 dX5_readTerm_11 (by decide) (nI_ge (by omega) (by omega)) ?_
      refine b_aload_n dX5_readTerm_14 rfl ?_
      refine g_callV [] dX5_readTerm_15 kX5_kind lX5_58 a2 rfl rfl (c_kind hY hT hpT) rfl rfl (Nat.le_of_ble_eq_true rfl) ?_
      refine b_bipush (v := nI 42) dX5_readTerm_18 (by decide) ?_
      refine b_icmp_ne 47 dX5_readTerm_20 (by decide) (fun c1 => ?_) (fun c1 => ?_)
      · skip
        have c2 : ¬ kd Y T = 24 := fun z => c1 ((cK_e (k := 24) (by omega) (by omega)).mpr z)
        have e9 : lpF Y opT (atomF Y inn) (n + 1) T = T := by rw [lpF, opT, if_neg c2]
        exact b_vret dX5_readTerm_47 ⟨rfl, s, rfl, hs, by rw [← he, e9]; exact hT⟩
      · skip
        have c2 : kd Y T = 24 := (cK_e (k := 24) (by omega) (by omega)).mp c1
        have hp1 := PO_nxt hY hpT (by omega)
        have hp2 := hPO _ _ hp1
        refine b_aload_n dX5_readTerm_23 rfl ?_
        refine g_callVp [] dX5_readTerm_24 kX5_goOn lX5_79 a2 rfl rfl (c_goOn hY hT hpT) rfl rfl (Nat.le_of_ble_eq_true rfl) ?_
        rintro r h9 ⟨rfl, s1, rfl, hs1, hR1⟩
        refine b_aload_n dX5_readTerm_27 rfl ?_
        refine b_iload_n dX5_readTerm_28 rfl ?_
        refine g_callVp [.int (nI dp)] dX5_readTerm_29 kX5_readAtom lX5_169 a2 rfl rfl (hA e s1 _ (by omega) hR1 (PO_mono hp1 (by omega))) rfl rfl (Nat.le_of_ble_eq_true rfl) ?_
        rintro r h9 ⟨rfl, s2, rfl, hs2, hR2⟩
        refine b_aload_n dX5_readTerm_32 rfl ?_
        refine g_get dX5_readTerm_33 fX5_21 a2 rfl ?_
        refine b_bipush (v := -42) dX5_readTerm_36 (by decide) ?_
        refine g_callVp [.int ((-42))] dX5_readTerm_38 kX0_add lX5_153 a7 rfl rfl (c_add (c := 3002) hY hR2 hp2 (by decide)) rfl rfl (Nat.le_of_ble_eq_true rfl) ?_
        rintro r h9 ⟨rfl, s3, rfl, hs3, hR3⟩
        refine b_iinc dX5_readTerm_41 rfl (nI_1 _) (by decide) rfl ?_
        refine b_goto 7 dX5_readTerm_44 (by decide) ?_
        refine ih (i + 1) s3 _ (by omega) (kR_t (kR_t (kR_t hs hs1) hs2) hs3) hR3 (PO_tell hp2) ?_
        rw [← he, lpF, opT, if_pos c2]
  exact lp 900 0 s0 _ (by omega) hs0 hR0 (hPO _ _ hp) rfl
theorem c_readBoth {G : GT} {μ : SL} {Y : PX} {u : FS → FS} {dp b : Nat} (hY : PxO Y) (hb1 : 1 ≤ b) (hA : RdC G μ Y mX5_readUnit (u) dp b) (hPO : ∀ c s, PO Y c s → PO Y c ((u) s)) : RdC G μ Y mX5_readBoth (bothF Y u) dp (b + 1) := by
  intro dd σ S hdd hR hp
  obtain ⟨e, rfl⟩ : ∃ e, dd = e + 1 := ⟨dd - 1, by omega⟩
  refine fn_of (ls := [some (.ref (G.b0 + 2)), some (.int (nI dp)), none]) (by decide +kernel) (Nat.le_of_ble_eq_true rfl) 1 rfl ?_
  refine b_aload_n dX5_readBoth_0 rfl ?_
  refine b_iload_n dX5_readBoth_1 rfl ?_
  refine g_callVp [.int (nI dp)] dX5_readBoth_2 kX5_readUnit lX5_156 a2 rfl rfl (hA e σ S (by omega) hR hp) rfl rfl (Nat.le_of_ble_eq_true rfl) ?_
  rintro r h9 ⟨rfl, s0, rfl, hs0, hR0⟩
  refine b_iconst (v := nI 0) dX5_readBoth_5 (by decide) ?_
  refine b_istore_n dX5_readBoth_6 (by decide) rfl ?_
  have lp : ∀ (n i : Nat) (s : ST) (T : FS), i + n = 900 → (∀ c, ¬ kR c → s c = σ c) → RF s Y T → PO Y 0 T → lpF Y opA (u) n T = bothF Y u S → BB G RX5 cX5_readBoth 3 none (e + 1) (QM G (PRd G μ σ Y (bothF Y u S) none)) 7 [some (.ref (G.b0 + 2)), some (.int (nI dp)), some (.int (nI i))] [] (sh G s μ) := by
    intro n
    induction n with
    | zero =>
      intro i s T hi hs hT hpT he
      refine b_iload_n dX5_readBoth_7 rfl ?_
      refine b_sipush (v := nI 900) dX5_readBoth_8 (by decide) ?_
      refine b_icmp_ge_t 47 dX5_readBoth_11 (by decide) (nI_le (by omega) (by omega)) ?_
      exact b_vret dX5_readBoth_47 ⟨rfl, s, rfl, hs, by rw [← he]; exact hT⟩
    | succ n ih =>
      intro i s T hi hs hT hpT he
      refine b_iload_n dX5_readBoth_7 rfl ?_
      refine b_sipush (v := nI 900) dX5_readBoth_8 (by decide) ?_
      refine b_icmp_ge_f 47 dX5_readBoth_11 (by decide) (nI_ge (by omega) (by omega)) ?_
      refine b_aload_n dX5_readBoth_14 rfl ?_
      refine g_callV [] dX5_readBoth_15 kX5_kind lX5_58 a2 rfl rfl (c_kind hY hT hpT) rfl rfl (Nat.le_of_ble_eq_true rfl) ?_
      refine b_bipush (v := nI 111) dX5_readBoth_18 (by decide) ?_
      refine b_icmp_ne 47 dX5_readBoth_20 (by decide) (fun c1 => ?_) (fun c1 => ?_)
      · skip
        have c2 : ¬ kd Y T = 10 := fun z => c1 ((cK_e (k := 10) (by omega) (by omega)).mpr z)
        have e9 : lpF Y opA (u) (n + 1) T = T := by rw [lpF, opA, if_neg c2]
        exact b_vret dX5_readBoth_47 ⟨rfl, s, rfl, hs, by rw [← he, e9]; exact hT⟩
      · skip
        have c2 : kd Y T = 10 := (cK_e (k := 10) (by omega) (by omega)).mp c1
        have hp1 := PO_nxt hY hpT (by omega)
        have hp2 := hPO _ _ hp1
        refine b_aload_n dX5_readBoth_23 rfl ?_
        refine g_callVp [] dX5_readBoth_24 kX5_goOn lX5_79 a2 rfl rfl (c_goOn hY hT hpT) rfl rfl (Nat.le_of_ble_eq_true rfl) ?_
        rintro r h9 ⟨rfl, s1, rfl, hs1, hR1⟩
        refine b_aload_n dX5_readBoth_27 rfl ?_
        refine b_iload_n dX5_readBoth_28 rfl ?_
        refine g_callVp [.int (nI dp)] dX5_readBoth_29 kX5_readUnit lX5_156 a2 rfl rfl (hA e s1 _ (by omega) hR1 (PO_mono hp1 (by omega))) rfl rfl (Nat.le_of_ble_eq_true rfl) ?_
        rintro r h9 ⟨rfl, s2, rfl, hs2, hR2⟩
        refine b_aload_n dX5_readBoth_32 rfl ?_
        refine g_get dX5_readBoth_33 fX5_21 a2 rfl ?_
        refine b_bipush (v := -111) dX5_readBoth_36 (by decide) ?_
        refine g_callVp [.int ((-111))] dX5_readBoth_38 kX0_add lX5_153 a7 rfl rfl (c_add (c := 3006) hY hR2 hp2 (by decide)) rfl rfl (Nat.le_of_ble_eq_true rfl) ?_
        rintro r h9 ⟨rfl, s3, rfl, hs3, hR3⟩
        refine b_iinc dX5_readBoth_41 rfl (nI_1 _) (by decide) rfl ?_
        refine b_goto 7 dX5_readBoth_44 (by decide) ?_
        refine ih (i + 1) s3 _ (by omega) (kR_t (kR_t (kR_t hs hs1) hs2) hs3) hR3 (PO_tell hp2) ?_
        rw [← he, lpF, opA, if_pos c2]
  exact lp 900 0 s0 _ (by omega) hs0 hR0 (hPO _ _ hp) rfl
theorem c_readTruth {G : GT} {μ : SL} {Y : PX} {u : FS → FS} {dp b : Nat} (hY : PxO Y) (hb1 : 1 ≤ b) (hA : RdC G μ Y mX5_readBoth (bothF Y u) dp b) (hPO : ∀ c s, PO Y c s → PO Y c ((bothF Y u) s)) : RdC G μ Y mX5_readTruth (truthF Y u) dp (b + 1) := by
  intro dd σ S hdd hR hp
  obtain ⟨e, rfl⟩ : ∃ e, dd = e + 1 := ⟨dd - 1, by omega⟩
  refine fn_of (ls := [some (.ref (G.b0 + 2)), some (.int (nI dp)), none]) (by decide +kernel) (Nat.le_of_ble_eq_true rfl) 1 rfl ?_
  refine b_aload_n dX5_readTruth_0 rfl ?_
  refine b_iload_n dX5_readTruth_1 rfl ?_
  refine g_callVp [.int (nI dp)] dX5_readTruth_2 kX5_readBoth lX5_150 a2 rfl rfl (hA e σ S (by omega) hR hp) rfl rfl (Nat.le_of_ble_eq_true rfl) ?_
  rintro r h9 ⟨rfl, s0, rfl, hs0, hR0⟩
  refine b_iconst (v := nI 0) dX5_readTruth_5 (by decide) ?_
  refine b_istore_n dX5_readTruth_6 (by decide) rfl ?_
  have lp : ∀ (n i : Nat) (s : ST) (T : FS), i + n = 900 → (∀ c, ¬ kR c → s c = σ c) → RF s Y T → PO Y 0 T → lpF Y opO (bothF Y u) n T = truthF Y u S → BB G RX5 cX5_readTruth 3 none (e + 1) (QM G (PRd G μ σ Y (truthF Y u S) none)) 7 [some (.ref (G.b0 + 2)), some (.int (nI dp)), some (.int (nI i))] [] (sh G s μ) := by
    intro n
    induction n with
    | zero =>
      intro i s T hi hs hT hpT he
      refine b_iload_n dX5_readTruth_7 rfl ?_
      refine b_sipush (v := nI 900) dX5_readTruth_8 (by decide) ?_
      refine b_icmp_ge_t 47 dX5_readTruth_11 (by decide) (nI_le (by omega) (by omega)) ?_
      exact b_vret dX5_readTruth_47 ⟨rfl, s, rfl, hs, by rw [← he]; exact hT⟩
    | succ n ih =>
      intro i s T hi hs hT hpT he
      refine b_iload_n dX5_readTruth_7 rfl ?_
      refine b_sipush (v := nI 900) dX5_readTruth_8 (by decide) ?_
      refine b_icmp_ge_f 47 dX5_readTruth_11 (by decide) (nI_ge (by omega) (by omega)) ?_
      refine b_aload_n dX5_readTruth_14 rfl ?_
      refine g_callV [] dX5_readTruth_15 kX5_kind lX5_58 a2 rfl rfl (c_kind hY hT hpT) rfl rfl (Nat.le_of_ble_eq_true rfl) ?_
      refine b_bipush (v := nI 112) dX5_readTruth_18 (by decide) ?_
      refine b_icmp_ne 47 dX5_readTruth_20 (by decide) (fun c1 => ?_) (fun c1 => ?_)
      · skip
        have c2 : ¬ kd Y T = 9 := fun z => c1 ((cK_e (k := 9) (by omega) (by omega)).mpr z)
        have e9 : lpF Y opO (bothF Y u) (n + 1) T = T := by rw [lpF, opO, if_neg c2]
        exact b_vret dX5_readTruth_47 ⟨rfl, s, rfl, hs, by rw [← he, e9]; exact hT⟩
      · skip
        have c2 : kd Y T = 9 := (cK_e (k := 9) (by omega) (by omega)).mp c1
        have hp1 := PO_nxt hY hpT (by omega)
        have hp2 := hPO _ _ hp1
        refine b_aload_n dX5_readTruth_23 rfl ?_
        refine g_callVp [] dX5_readTruth_24 kX5_goOn lX5_79 a2 rfl rfl (c_goOn hY hT hpT) rfl rfl (Nat.le_of_ble_eq_true rfl) ?_
        rintro r h9 ⟨rfl, s1, rfl, hs1, hR1⟩
        refine b_aload_n dX5_readTruth_27 rfl ?_
        refine b_iload_n dX5_readTruth_28 rfl ?_
        refine g_callVp [.int (nI dp)] dX5_readTruth_29 kX5_readBoth lX5_150 a2 rfl rfl (hA e s1 _ (by omega) hR1 (PO_mono hp1 (by omega))) rfl rfl (Nat.le_of_ble_eq_true rfl) ?_
        rintro r h9 ⟨rfl, s2, rfl, hs2, hR2⟩
        refine b_aload_n dX5_readTruth_32 rfl ?_
        refine g_get dX5_readTruth_33 fX5_21 a2 rfl ?_
        refine b_bipush (v := -112) dX5_readTruth_36 (by decide) ?_
        refine g_callVp [.int ((-112))] dX5_readTruth_38 kX0_add lX5_153 a7 rfl rfl (c_add (c := 3007) hY hR2 hp2 (by decide)) rfl rfl (Nat.le_of_ble_eq_true rfl) ?_
        rintro r h9 ⟨rfl, s3, rfl, hs3, hR3⟩
        refine b_iinc dX5_readTruth_41 rfl (nI_1 _) (by decide) rfl ?_
        refine b_goto 7 dX5_readTruth_44 (by decide) ?_
        refine ih (i + 1) s3 _ (by omega) (kR_t (kR_t (kR_t hs hs1) hs2) hs3) hR3 (PO_tell hp2) ?_
        rw [← he, lpF, opO, if_pos c2]
  exact lp 900 0 s0 _ (by omega) hs0 hR0 (hPO _ _ hp) rfl
theorem c_readSum {G : GT} {μ : SL} {Y : PX} {inn : Option (FS → FS)} {dp b : Nat} (hY : PxO Y) (hb1 : 1 ≤ b) (hA : RdC G μ Y mX5_readTerm (termF Y inn) dp b) (hPO : ∀ c s, PO Y c s → PO Y c (termF Y inn s)) : RdC G μ Y mX5_readSum (sumF Y inn) dp (b + 1) := by
  intro dd σ S hdd hR hp
  obtain ⟨e, rfl⟩ : ∃ e, dd = e + 1 := ⟨dd - 1, by omega⟩
  refine fn_of (ls := [some (.ref (G.b0 + 2)), some (.int (nI dp)), none, none]) (by decide +kernel) (Nat.le_of_ble_eq_true rfl) 2 rfl ?_
  refine b_aload_n dX5_readSum_0 rfl ?_
  refine b_iload_n dX5_readSum_1 rfl ?_
  refine g_callVp [.int (nI dp)] dX5_readSum_2 kX5_readTerm lX5_166 a2 rfl rfl (hA e σ S (by omega) hR hp) rfl rfl (Nat.le_of_ble_eq_true rfl) ?_
  rintro r h9 ⟨rfl, s0, rfl, hs0, hR0⟩
  refine b_iconst (v := nI 0) dX5_readSum_5 (by decide) ?_
  refine b_istore_n dX5_readSum_6 (by decide) rfl ?_
  have lp : ∀ (n i : Nat) (s : ST) (T : FS) (z3 : Option Value), i + n = 900 → (∀ c, ¬ kR c → s c = σ c) → RF s Y T → PO Y 0 T → lpF Y opS (termF Y inn) n T = sumF Y inn S → BB G RX5 cX5_readSum 4 none (e + 1) (QM G (PRd G μ σ Y (sumF Y inn S) none)) 7 [some (.ref (G.b0 + 2)), some (.int (nI dp)), some (.int (nI i)), z3] [] (sh G s μ) := by
    intro n
    induction n with
    | zero =>
      intro i s T z3 hi hs hT hpT he
      refine b_iload_n dX5_readSum_7 rfl ?_
      refine b_sipush (v := nI 900) dX5_readSum_8 (by decide) ?_
      refine b_icmp_ge_t 61 dX5_readSum_11 (by decide) (nI_le (by omega) (by omega)) ?_
      exact b_vret dX5_readSum_61 ⟨rfl, s, rfl, hs, by rw [← he]; exact hT⟩
    | succ n ih =>
      intro i s T z3 hi hs hT hpT he
      have bdy : ∀ code : Nat, opS (kd Y T) = some code → -(nI (cK (kd Y T))) = ccd code → BB G RX5 cX5_readSum 4 none (e + 1) (QM G (PRd G μ σ Y (sumF Y inn S) none)) 32 [some (.ref (G.b0 + 2)), some (.int (nI dp)), some (.int (nI i)), z3] [] (sh G s μ) := by
        intro code hop hcc
        have hp1 := PO_nxt hY hpT (fun z => by rw [z] at hop; exact absurd hop (by simp [opS]))
        have hp2 := hPO _ _ hp1
        refine b_aload_n dX5_readSum_32 rfl ?_
        refine g_callV [] dX5_readSum_33 kX5_kind lX5_58 a2 rfl rfl (c_kind hY hT hpT) rfl rfl (Nat.le_of_ble_eq_true rfl) ?_
        refine b_istore_n dX5_readSum_36 (by decide) rfl ?_
        refine b_aload_n dX5_readSum_37 rfl ?_
        refine g_callVp [] dX5_readSum_38 kX5_goOn lX5_79 a2 rfl rfl (c_goOn hY hT hpT) rfl rfl (Nat.le_of_ble_eq_true rfl) ?_
        rintro r h9 ⟨rfl, s1, rfl, hs1, hR1⟩
        refine b_aload_n dX5_readSum_41 rfl ?_
        refine b_iload_n dX5_readSum_42 rfl ?_
        refine g_callVp [.int (nI dp)] dX5_readSum_43 kX5_readTerm lX5_166 a2 rfl rfl (hA e s1 _ (by omega) hR1 (PO_mono hp1 (by omega))) rfl rfl (Nat.le_of_ble_eq_true rfl) ?_
        rintro r h9 ⟨rfl, s2, rfl, hs2, hR2⟩
        refine b_aload_n dX5_readSum_46 rfl ?_
        refine g_get dX5_readSum_47 fX5_21 a2 rfl ?_
        refine b_iload_n dX5_readSum_50 rfl ?_
        refine b_ineg dX5_readSum_51 ?_
        refine g_callVp [.int (-(nI (cK (kd Y T))))] dX5_readSum_52 kX0_add lX5_153 a7 rfl rfl (c_add (c := code) hY hR2 hp2 hcc) rfl rfl (Nat.le_of_ble_eq_true rfl) ?_
        rintro r h9 ⟨rfl, s3, rfl, hs3, hR3⟩
        refine b_iinc dX5_readSum_55 rfl (nI_1 _) (by decide) rfl ?_
        refine b_goto 7 dX5_readSum_58 (by decide) ?_
        refine ih (i + 1) s3 _ _ (by omega) (kR_t (kR_t (kR_t hs hs1) hs2) hs3) hR3 (PO_tell hp2) ?_
        rw [← he, lpF, hop]
      refine b_iload_n dX5_readSum_7 rfl ?_
      refine b_sipush (v := nI 900) dX5_readSum_8 (by decide) ?_
      refine b_icmp_ge_f 61 dX5_readSum_11 (by decide) (nI_ge (by omega) (by omega)) ?_
      refine b_aload_n dX5_readSum_14 rfl ?_
      refine g_callV [] dX5_readSum_15 kX5_kind lX5_58 a2 rfl rfl (c_kind hY hT hpT) rfl rfl (Nat.le_of_ble_eq_true rfl) ?_
      refine b_bipush (v := nI 43) dX5_readSum_18 (by decide) ?_
      refine b_icmp_eq 32 dX5_readSum_20 (by decide) (fun c1 => ?_) (fun c1 => ?_)
      · skip
        have c2 : kd Y T = 22 := (cK_e (k := 22) (by omega) (by omega)).mp c1
        exact bdy 3000 (by rw [c2]; rfl) (by rw [c2]; decide)
      · skip
        have c2 : ¬ kd Y T = 22 := fun z => c1 ((cK_e (k := 22) (by omega) (by omega)).mpr z)
        refine b_aload_n dX5_readSum_23 rfl ?_
        refine g_callV [] dX5_readSum_24 kX5_kind lX5_58 a2 rfl rfl (c_kind hY hT hpT) rfl rfl (Nat.le_of_ble_eq_true rfl) ?_
        refine b_bipush (v := nI 45) dX5_readSum_27 (by decide) ?_
        refine b_icmp_ne 61 dX5_readSum_29 (by decide) (fun c3 => ?_) (fun c3 => ?_)
        · skip
          have c4 : ¬ kd Y T = 23 := fun z => c3 ((cK_e (k := 23) (by omega) (by omega)).mpr z)
          have e9 : lpF Y opS (termF Y inn) (n + 1) T = T := by rw [lpF, opS, if_neg c2, if_neg c4]
          exact b_vret dX5_readSum_61 ⟨rfl, s, rfl, hs, by rw [← he, e9]; exact hT⟩
        · skip
          have c4 : kd Y T = 23 := (cK_e (k := 23) (by omega) (by omega)).mp c3
          exact bdy 3001 (by rw [c4]; rfl) (by rw [c4]; decide)
  exact lp 900 0 s0 _ _ (by omega) hs0 hR0 (hPO _ _ hp) rfl
theorem lk_at : ∀ k, k < 32 → k ≠ 19 → Op.lookupswitch.offset [(2, 76), (40, 121), (101, 102), (102, 102), (103, 102), (113, 102), (114, 102), (115, 102)] 149 (nI (cK k)).toInt = if k = 16 then 76 else if isAt k then 102 else if k = 25 then 121 else 149 := by decide +kernel
theorem c_readAtom {G : GT} {μ : SL} {Y : PX} {dp k b : Nat} (hY : PxO Y) (hdp : dp + k = 6) (hb2 : 2 ≤ b) (hI : ∀ k', k = k' + 1 → RdC G μ Y mX5_readSum (sumN Y k') (dp + 1) b) : RdC G μ Y mX5_readAtom (atomF Y (innS Y k)) dp (b + 1) := by
  intro dd σ S hdd hR hp
  have h9 := hY.le
  obtain ⟨e, rfl⟩ : ∃ e, dd = e + 2 := ⟨dd - 2, by omega⟩
  have ha := aI_le hp
  obtain ⟨k1, k2⟩ := kd_ok Y S
  have hlk := lk_at _ k1 k2
  refine fn_of (ls := [some (.ref (G.b0 + 2)), some (.int (nI dp))]) (by decide +kernel) (Nat.le_of_ble_eq_true rfl) 0 rfl ?_
  refine b_aload_n dX5_readAtom_0 rfl ?_
  refine g_callV [] dX5_readAtom_1 kX5_kind lX5_58 a2 rfl rfl (c_kind hY hR hp) rfl rfl (Nat.le_of_ble_eq_true rfl) ?_
  have hl0 : S.2.1 = 0 → S.2.2.2.length ≤ 900 := fun h => by have := hp h; omega
  have ha2 : ∀ c, aI Y (tell c S) ≤ Y.2 := fun c => by
    unfold aI tell
    by_cases h : S.2.1 = 0
    · simp only [h, if_true]; exact (hp h).1
    · simp only [h, if_false]; exact Nat.le_refl _
  by_cases h16 : kd Y S = 16
  · obtain ⟨h0, h1⟩ := kd_lt hY hp (by omega)
    have ei : aI Y S = S.1 := by unfold aI; rw [if_pos h0]
    have hv := tV_lt (X := Y.1) S.1
    have ef : atomF Y (innS Y k) S = nxt Y (tell (tV Y.1 S.1) S) := by unfold atomF; rw [if_pos h16]
    rw [if_pos h16] at hlk
    refine b_lookup 80 dX5_readAtom_4 (by decide) hlk (by decide) ?_
    refine b_aload_n dX5_readAtom_80 rfl ?_
    refine g_get dX5_readAtom_81 fX5_21 a2 rfl ?_
    refine b_aload_n dX5_readAtom_84 rfl ?_
    refine g_get dX5_readAtom_85 fX5_12 a2 rfl ?_
    refine g_get dX5_readAtom_88 fX5_86 a3 rfl ?_
    refine b_aload_n dX5_readAtom_91 rfl ?_
    refine g_geti (x := nI (aI Y S)) dX5_readAtom_92 fX5_55 a2 rfl (RF_at hR) ?_
    refine g_iald dX5_readAtom_95 a6 rfl (by omega) ?_
    refine b_top (y := nI (tV Y.1 S.1)) (by rw [← ei]; exact tV_r hR hp) ?_
    refine g_callVp [.int (nI (tV Y.1 S.1))] dX5_readAtom_96 kX0_add lX5_153 a7 rfl rfl (c_add' (c := tV Y.1 S.1) hR hl0 (by rw [ccd, if_pos hv])) rfl rfl (Nat.le_of_ble_eq_true rfl) ?_
    rintro r h9 ⟨rfl, s1, rfl, hs1, hR1⟩
    refine b_aload_n dX5_readAtom_99 rfl ?_
    refine g_callVp [] dX5_readAtom_100 kX5_goOn lX5_79 a2 rfl rfl (c_goOn' hY hR1 (ha2 _)) rfl rfl (Nat.le_of_ble_eq_true rfl) ?_
    rintro r h9 ⟨rfl, s2, rfl, hs2, hR2⟩
    refine b_goto 158 dX5_readAtom_103 (by decide) ?_
    exact b_vret dX5_readAtom_158 ⟨rfl, s2, rfl, kR_t hs1 hs2, by rw [ef]; exact hR2⟩
  · rw [if_neg h16] at hlk
    by_cases hat : isAt (kd Y S) = true
    · have hk15 := isAt_lt hat
      have ef : atomF Y (innS Y k) S = nxt Y (tell (1000 + kd Y S) S) := by unfold atomF; rw [if_neg h16, if_pos hat]
      rw [if_pos hat] at hlk
      refine b_lookup 106 dX5_readAtom_4 (by decide) hlk (by decide) ?_
      refine b_aload_n dX5_readAtom_106 rfl ?_
      refine g_get dX5_readAtom_107 fX5_21 a2 rfl ?_
      refine b_aload_n dX5_readAtom_110 rfl ?_
      refine g_callV [] dX5_readAtom_111 kX5_kind lX5_58 a2 rfl rfl (c_kind hY hR hp) rfl rfl (Nat.le_of_ble_eq_true rfl) ?_
      refine b_ineg dX5_readAtom_114 ?_
      refine g_callVp [.int (-(nI (cK (kd Y S))))] dX5_readAtom_115 kX0_add lX5_153 a7 rfl rfl (c_add' (c := 1000 + kd Y S) hR hl0 (by rw [ccd, if_neg (by omega), if_pos (by omega), Nat.add_sub_cancel_left])) rfl rfl (Nat.le_of_ble_eq_true rfl) ?_
      rintro r h9 ⟨rfl, s1, rfl, hs1, hR1⟩
      refine b_aload_n dX5_readAtom_118 rfl ?_
      refine g_callVp [] dX5_readAtom_119 kX5_goOn lX5_79 a2 rfl rfl (c_goOn' hY hR1 (ha2 _)) rfl rfl (Nat.le_of_ble_eq_true rfl) ?_
      rintro r h9 ⟨rfl, s2, rfl, hs2, hR2⟩
      refine b_goto 158 dX5_readAtom_122 (by decide) ?_
      exact b_vret dX5_readAtom_158 ⟨rfl, s2, rfl, kR_t hs1 hs2, by rw [ef]; exact hR2⟩
    · rw [if_neg hat] at hlk
      by_cases h25 : kd Y S = 25
      · rw [if_pos h25] at hlk
        refine b_lookup 125 dX5_readAtom_4 (by decide) hlk (by decide) ?_
        refine b_aload_n dX5_readAtom_125 rfl ?_
        refine b_iload_n dX5_readAtom_126 rfl ?_
        refine g_callVp [.int (nI dp)] dX5_readAtom_127 kX5_isTooDeep lX5_162 a2 rfl rfl (c_isTooDeep (d := e) hY hR hp (by omega)) rfl rfl (Nat.le_of_ble_eq_true rfl) ?_
        rintro r h9 ⟨rfl, s1, rfl, hs1, hR1⟩
        cases k with
        | zero =>
          have h6 : decide (6 ≤ dp) = true := decide_eq_true (by omega)
          have ef : atomF Y (innS Y 0) S = fail Y 4 S := by unfold atomF; rw [if_neg h16, if_neg hat, if_pos h25]; rfl
          rw [if_pos (by omega)] at hR1
          rw [h6]
          refine b_if_ne_t 158 dX5_readAtom_130 (by decide) (by decide) ?_
          exact b_vret dX5_readAtom_158 ⟨rfl, s1, rfl, hs1, by rw [ef]; exact hR1⟩
        | succ k =>
          have h6 : decide (6 ≤ dp) = false := decide_eq_false (by omega)
          have ef : atomF Y (innS Y (k + 1)) S = takK Y 26 (sumN Y k (nxt Y S)) := by unfold atomF; rw [if_neg h16, if_neg hat, if_pos h25]; rfl
          rw [if_neg (by omega)] at hR1
          rw [h6]
          have hp1 := PO_mono (PO_nxt hY hp (by omega)) (show 0 ≤ 0 + 1 by omega)
          refine b_if_ne_f 158 dX5_readAtom_130 (by decide) (by decide) ?_
          refine b_aload_n dX5_readAtom_133 rfl ?_
          refine g_callVp [] dX5_readAtom_134 kX5_goOn lX5_79 a2 rfl rfl (c_goOn hY hR1 hp) rfl rfl (Nat.le_of_ble_eq_true rfl) ?_
          rintro r h9 ⟨rfl, s2, rfl, hs2, hR2⟩
          refine b_aload_n dX5_readAtom_137 rfl ?_
          refine b_iload_n dX5_readAtom_138 rfl ?_
          refine b_iconst (v := nI 1) dX5_readAtom_139 (by decide) ?_
          refine b_iaddN dX5_readAtom_140 ?_
          refine g_callVp [.int (nI (dp + 1))] dX5_readAtom_141 kX5_readSum lX5_159 a2 rfl rfl (hI k rfl (e + 1) s2 _ (by omega) hR2 hp1) rfl rfl (Nat.le_of_ble_eq_true rfl) ?_
          rintro r h9 ⟨rfl, s3, rfl, hs3, hR3⟩
          refine b_aload_n dX5_readAtom_144 rfl ?_
          refine b_bipush (v := nI 41) dX5_readAtom_145 (by decide) ?_
          refine g_callVp [.int (nI 41)] dX5_readAtom_147 kX5_take lX5_114 a2 rfl rfl (c_take (k := 26) hY hR3 (PO_sum hY k _ _ hp1) (by omega) (by omega)) rfl rfl (Nat.le_of_ble_eq_true rfl) ?_
          rintro r h9 ⟨rfl, s4, rfl, hs4, hR4⟩
          refine b_goto 158 dX5_readAtom_150 (by decide) ?_
          exact b_vret dX5_readAtom_158 ⟨rfl, s4, rfl, kR_t (kR_t (kR_t hs1 hs2) hs3) hs4, by rw [ef]; exact hR4⟩
      · have ef : atomF Y (innS Y k) S = fail Y 2 S := by unfold atomF; rw [if_neg h16, if_neg hat, if_neg h25]
        rw [if_neg h25] at hlk
        refine b_lookup 153 dX5_readAtom_4 (by decide) hlk (by decide) ?_
        refine b_aload_n dX5_readAtom_153 rfl ?_
        refine b_iconst (v := nI 2) dX5_readAtom_154 (by decide) ?_
        refine g_callVp [.int (nI 2)] dX5_readAtom_155 kX5_refuse lX5_82 a2 rfl rfl (c_refuse (f := 2) hY hR hp (by omega) (by omega)) rfl rfl (Nat.le_of_ble_eq_true rfl) ?_
        rintro r h9 ⟨rfl, s1, rfl, hs1, hR1⟩
        exact b_vret dX5_readAtom_158 ⟨rfl, s1, rfl, hs1, by rw [ef]; exact hR1⟩
theorem rd_sum {G : GT} {μ : SL} {Y : PX} (hY : PxO Y) : ∀ k dp, dp + k = 6 → RdC G μ Y mX5_readSum (sumN Y k) dp (3 * k + 5)
  | 0, dp, h => by
    have hA : RdC G μ Y mX5_readAtom (atomF Y (innS Y 0)) dp 3 := c_readAtom hY h (by omega) (fun k' hk' => by omega)
    have hT := c_readTerm hY (by omega) hA (PO_atom hY (PO_innS hY 0))
    have hS := c_readSum hY (by omega) hT (PO_term hY (PO_innS hY 0))
    rw [sumN_eq]
    exact hS
  | k + 1, dp, h => by
    have hA : RdC G μ Y mX5_readAtom (atomF Y (innS Y (k + 1))) dp (3 * k + 5 + 1) := c_readAtom hY h (by omega) (fun k' hk' => by
      have e : k' = k := by omega
      subst e
      exact rd_sum hY k' (dp + 1) (by omega))
    have hT := c_readTerm hY (by omega) hA (PO_atom hY (PO_innS hY (k + 1)))
    have hS := c_readSum hY (by omega) hT (PO_term hY (PO_innS hY (k + 1)))
    rw [sumN_eq]
    intro dd σ S hdd
    exact hS dd σ S (by omega)
theorem c_readUnit {G : GT} {μ : SL} {Y : PX} {dp k b : Nat} (hY : PxO Y) (hdp : dp + k = 6) (hb2 : 3 * k + 5 ≤ b) (hU : ∀ k', k = k' + 1 → RdC G μ Y mX5_readUnit (utN Y k').1 (dp + 1) b ∧ RdC G μ Y mX5_readTruth (utN Y k').2 (dp + 1) b) : RdC G μ Y mX5_readUnit (unitF Y (sumN Y k) (innU Y k)) dp (b + 1) := by
  intro dd σ S hdd hR hp
  have h9 := hY.le
  obtain ⟨e, rfl⟩ : ∃ e, dd = e + 2 := ⟨dd - 2, by omega⟩
  refine fn_of (ls := [some (.ref (G.b0 + 2)), some (.int (nI dp)), none, none]) (by decide +kernel) (Nat.le_of_ble_eq_true rfl) 2 rfl ?_
  refine b_aload_n dX5_readUnit_0 rfl ?_
  refine g_callV [] dX5_readUnit_1 kX5_kind lX5_58 a2 rfl rfl (c_kind hY hR hp) rfl rfl (Nat.le_of_ble_eq_true rfl) ?_
  refine b_istore_n dX5_readUnit_4 (by decide) rfl ?_
  refine b_iload_n dX5_readUnit_5 rfl ?_
  refine b_bipush (v := nI 110) dX5_readUnit_6 (by decide) ?_
  have deep : (kd Y S = 11 ∨ kd Y S = 27) → ∀ z3 : Option Value, BB G RX5 cX5_readUnit 4 none (e + 2) (QM G (PRd G μ σ Y (unitF Y (sumN Y k) (innU Y k) S) none)) 74 [some (.ref (G.b0 + 2)), some (.int (nI dp)), some (.int (nI (cK (kd Y S)))), z3] [] (sh G σ μ) := by
    intro hk z3
    refine b_aload_n dX5_readUnit_74 rfl ?_
    refine b_iload_n dX5_readUnit_75 rfl ?_
    refine g_callVp [.int (nI dp)] dX5_readUnit_76 kX5_isTooDeep lX5_162 a2 rfl rfl (c_isTooDeep (d := e) hY hR hp (by omega)) rfl rfl (Nat.le_of_ble_eq_true rfl) ?_
    rintro r h9 ⟨rfl, s1, rfl, hs1, hR1⟩
    cases k with
    | zero =>
      have h6 : decide (6 ≤ dp) = true := decide_eq_true (by omega)
      have ef : unitF Y (sumN Y 0) (innU Y 0) S = fail Y 4 S := by
        unfold unitF
        rcases hk with hk | hk
        · rw [if_pos hk]; rfl
        · rw [if_neg (by omega), if_pos hk]; rfl
      rw [if_pos (by omega)] at hR1
      rw [h6]
      refine b_if_ne_t 124 dX5_readUnit_79 (by decide) (by decide) ?_
      exact b_vret dX5_readUnit_124 ⟨rfl, s1, rfl, hs1, by rw [ef]; exact hR1⟩
    | succ k =>
      have h6 : decide (6 ≤ dp) = false := decide_eq_false (by omega)
      rw [if_neg (by omega)] at hR1
      rw [h6]
      have hp1 := PO_nxt hY hp (by omega)
      refine b_if_ne_f 124 dX5_readUnit_79 (by decide) (by decide) ?_
      refine b_aload_n dX5_readUnit_82 rfl ?_
      refine g_callVp [] dX5_readUnit_83 kX5_goOn lX5_79 a2 rfl rfl (c_goOn hY hR1 hp) rfl rfl (Nat.le_of_ble_eq_true rfl) ?_
      rintro r h9 ⟨rfl, s2, rfl, hs2, hR2⟩
      refine b_iload_n dX5_readUnit_86 rfl ?_
      refine b_bipush (v := nI 110) dX5_readUnit_87 (by decide) ?_
      refine b_icmp_ne 111 dX5_readUnit_89 (by decide) (fun c3 => ?_) (fun c3 => ?_)
      · skip
        have c4 : ¬ kd Y S = 11 := fun z => c3 ((cK_e (k := 11) (by omega) (by omega)).mpr z)
        have ef : unitF Y (sumN Y (k + 1)) (innU Y (k + 1)) S = takK Y 28 ((utN Y k).2 (nxt Y S)) := by unfold unitF; rw [if_neg c4, if_pos (by omega)]; rfl
        refine b_aload_n dX5_readUnit_111 rfl ?_
        refine b_iload_n dX5_readUnit_112 rfl ?_
        refine b_iconst (v := nI 1) dX5_readUnit_113 (by decide) ?_
        refine b_iaddN dX5_readUnit_114 ?_
        refine g_callVp [.int (nI (dp + 1))] dX5_readUnit_115 kX5_readTruth lX5_132 a2 rfl rfl ((hU k rfl).2 (e + 1) s2 _ (by omega) hR2 (PO_mono hp1 (by omega))) rfl rfl (Nat.le_of_ble_eq_true rfl) ?_
        rintro r h9 ⟨rfl, s3, rfl, hs3, hR3⟩
        refine b_aload_n dX5_readUnit_118 rfl ?_
        refine b_bipush (v := nI 93) dX5_readUnit_119 (by decide) ?_
        refine g_callVp [.int (nI 93)] dX5_readUnit_121 kX5_take lX5_114 a2 rfl rfl (c_take (k := 28) hY hR3 ((PO_ut hY k).2 _ _ (PO_mono hp1 (by omega))) (by omega) (by omega)) rfl rfl (Nat.le_of_ble_eq_true rfl) ?_
        rintro r h9 ⟨rfl, s4, rfl, hs4, hR4⟩
        exact b_vret dX5_readUnit_124 ⟨rfl, s4, rfl, kR_t (kR_t (kR_t hs1 hs2) hs3) hs4, by rw [ef]; exact hR4⟩
      · skip
        have c4 : kd Y S = 11 := (cK_e (k := 11) (by omega) (by omega)).mp c3
        have ef : unitF Y (sumN Y (k + 1)) (innU Y (k + 1)) S = tell 3008 ((utN Y k).1 (nxt Y S)) := by unfold unitF; rw [if_pos c4]; rfl
        refine b_aload_n dX5_readUnit_92 rfl ?_
        refine b_iload_n dX5_readUnit_93 rfl ?_
        refine b_iconst (v := nI 1) dX5_readUnit_94 (by decide) ?_
        refine b_iaddN dX5_readUnit_95 ?_
        refine g_callVp [.int (nI (dp + 1))] dX5_readUnit_96 kX5_readUnit lX5_156 a2 rfl rfl ((hU k rfl).1 (e + 1) s2 _ (by omega) hR2 (PO_mono hp1 (by omega))) rfl rfl (Nat.le_of_ble_eq_true rfl) ?_
        rintro r h9 ⟨rfl, s3, rfl, hs3, hR3⟩
        refine b_aload_n dX5_readUnit_99 rfl ?_
        refine g_get dX5_readUnit_100 fX5_21 a2 rfl ?_
        refine b_bipush (v := -110) dX5_readUnit_103 (by decide) ?_
        refine g_callVp [.int ((-110))] dX5_readUnit_105 kX0_add lX5_153 a7 rfl rfl (c_add (c := 3008) hY hR3 ((PO_ut hY k).1 _ _ hp1) (by decide)) rfl rfl (Nat.le_of_ble_eq_true rfl) ?_
        rintro r h9 ⟨rfl, s4, rfl, hs4, hR4⟩
        refine b_goto 124 dX5_readUnit_108 (by decide) ?_
        exact b_vret dX5_readUnit_124 ⟨rfl, s4, rfl, kR_t (kR_t (kR_t hs1 hs2) hs3) hs4, by rw [ef]; exact hR4⟩
  refine b_icmp_eq 74 dX5_readUnit_8 (by decide) (fun c1 => ?_) (fun c1 => ?_)
  · skip
    exact deep (Or.inl ((cK_e (k := 11) (by omega) (by omega)).mp c1)) _
  · skip
    have d1 : ¬ kd Y S = 11 := fun z => c1 ((cK_e (k := 11) (by omega) (by omega)).mpr z)
    refine b_iload_n dX5_readUnit_11 rfl ?_
    refine b_bipush (v := nI 91) dX5_readUnit_12 (by decide) ?_
    refine b_icmp_eq 74 dX5_readUnit_14 (by decide) (fun c2 => ?_) (fun c2 => ?_)
    · skip
      exact deep (Or.inr ((cK_e (k := 27) (by omega) (by omega)).mp c2)) _
    · skip
      have d2 : ¬ kd Y S = 27 := fun z => c2 ((cK_e (k := 27) (by omega) (by omega)).mpr z)
      refine b_aload_n dX5_readUnit_17 rfl ?_
      refine b_iload_n dX5_readUnit_18 rfl ?_
      refine g_callVp [.int (nI dp)] dX5_readUnit_19 kX5_readSum lX5_159 a2 rfl rfl (rd_sum hY k dp hdp (e + 1) σ S (by omega) hR hp) rfl rfl (Nat.le_of_ble_eq_true rfl) ?_
      rintro r h9 ⟨rfl, s1, rfl, hs1, hR1⟩
      have hp1 := PO_sum hY k _ _ hp
      generalize hT : sumN Y k S = T at hR1 hp1
      refine b_aload_n dX5_readUnit_22 rfl ?_
      refine g_callV [] dX5_readUnit_23 kX5_kind lX5_58 a2 rfl rfl (c_kind hY hR1 hp1) rfl rfl (Nat.le_of_ble_eq_true rfl) ?_
      refine b_istore_n dX5_readUnit_26 (by decide) rfl ?_
      refine b_iload_n dX5_readUnit_27 rfl ?_
      refine b_bipush (v := nI 61) dX5_readUnit_28 (by decide) ?_
      have cmp : ∀ code : Nat, opC (kd Y T) = some code → -(nI (cK (kd Y T))) = ccd code → BB G RX5 cX5_readUnit 4 none (e + 2) (QM G (PRd G μ σ Y (unitF Y (sumN Y k) (innU Y k) S) none)) 45 [some (.ref (G.b0 + 2)), some (.int (nI dp)), some (.int (nI (cK (kd Y S)))), some (.int (nI (cK (kd Y T))))] [] (sh G s1 μ) := by
        intro code hop hcc
        have hp2 := PO_nxt hY hp1 (fun z => by rw [z] at hop; exact absurd hop (by simp [opC]))
        have hp3 := PO_sum hY k _ _ hp2
        have ef : unitF Y (sumN Y k) (innU Y k) S = tell code (sumN Y k (nxt Y T)) := by unfold unitF; rw [if_neg d1, if_neg d2, hT, hop]
        refine b_aload_n dX5_readUnit_45 rfl ?_
        refine g_callVp [] dX5_readUnit_46 kX5_goOn lX5_79 a2 rfl rfl (c_goOn hY hR1 hp1) rfl rfl (Nat.le_of_ble_eq_true rfl) ?_
        rintro r h9 ⟨rfl, s2, rfl, hs2, hR2⟩
        refine b_aload_n dX5_readUnit_49 rfl ?_
        refine b_iload_n dX5_readUnit_50 rfl ?_
        refine g_callVp [.int (nI dp)] dX5_readUnit_51 kX5_readSum lX5_159 a2 rfl rfl (rd_sum hY k dp hdp (e + 1) s2 _ (by omega) hR2 (PO_mono hp2 (by omega))) rfl rfl (Nat.le_of_ble_eq_true rfl) ?_
        rintro r h9 ⟨rfl, s3, rfl, hs3, hR3⟩
        refine b_aload_n dX5_readUnit_54 rfl ?_
        refine g_get dX5_readUnit_55 fX5_21 a2 rfl ?_
        refine b_iload_n dX5_readUnit_58 rfl ?_
        refine b_ineg dX5_readUnit_59 ?_
        refine g_callVp [.int (-(nI (cK (kd Y T))))] dX5_readUnit_60 kX0_add lX5_153 a7 rfl rfl (c_add (c := code) hY hR3 hp3 hcc) rfl rfl (Nat.le_of_ble_eq_true rfl) ?_
        rintro r h9 ⟨rfl, s4, rfl, hs4, hR4⟩
        refine b_goto 71 dX5_readUnit_63 (by decide) ?_
        refine b_goto 124 dX5_readUnit_71 (by decide) ?_
        exact b_vret dX5_readUnit_124 ⟨rfl, s4, rfl, kR_t (kR_t (kR_t hs1 hs2) hs3) hs4, by rw [ef]; exact hR4⟩
      refine b_icmp_eq 45 dX5_readUnit_30 (by decide) (fun c3 => ?_) (fun c3 => ?_)
      · skip
        have d3 : kd Y T = 29 := (cK_e (k := 29) (by omega) (by omega)).mp c3
        exact cmp 3003 (by rw [d3]; rfl) (by rw [d3]; decide)
      · skip
        have d3 : ¬ kd Y T = 29 := fun z => c3 ((cK_e (k := 29) (by omega) (by omega)).mpr z)
        refine b_iload_n dX5_readUnit_33 rfl ?_
        refine b_bipush (v := nI 60) dX5_readUnit_34 (by decide) ?_
        refine b_icmp_eq 45 dX5_readUnit_36 (by decide) (fun c4 => ?_) (fun c4 => ?_)
        · skip
          have d4 : kd Y T = 30 := (cK_e (k := 30) (by omega) (by omega)).mp c4
          exact cmp 3004 (by rw [d4]; rfl) (by rw [d4]; decide)
        · skip
          have d4 : ¬ kd Y T = 30 := fun z => c4 ((cK_e (k := 30) (by omega) (by omega)).mpr z)
          refine b_iload_n dX5_readUnit_39 rfl ?_
          refine b_bipush (v := nI 62) dX5_readUnit_40 (by decide) ?_
          refine b_icmp_ne 66 dX5_readUnit_42 (by decide) (fun c5 => ?_) (fun c5 => ?_)
          · skip
            have d5 : ¬ kd Y T = 31 := fun z => c5 ((cK_e (k := 31) (by omega) (by omega)).mpr z)
            have ef : unitF Y (sumN Y k) (innU Y k) S = fail Y 2 T := by unfold unitF; rw [if_neg d1, if_neg d2, hT, opC, if_neg d3, if_neg d4, if_neg d5]
            refine b_aload_n dX5_readUnit_66 rfl ?_
            refine b_iconst (v := nI 2) dX5_readUnit_67 (by decide) ?_
            refine g_callVp [.int (nI 2)] dX5_readUnit_68 kX5_refuse lX5_82 a2 rfl rfl (c_refuse (f := 2) hY hR1 hp1 (by omega) (by omega)) rfl rfl (Nat.le_of_ble_eq_true rfl) ?_
            rintro r h9 ⟨rfl, s2, rfl, hs2, hR2⟩
            refine b_goto 124 dX5_readUnit_71 (by decide) ?_
            exact b_vret dX5_readUnit_124 ⟨rfl, s2, rfl, kR_t hs1 hs2, by rw [ef]; exact hR2⟩
          · skip
            have d5 : kd Y T = 31 := (cK_e (k := 31) (by omega) (by omega)).mp c5
            exact cmp 3005 (by rw [d5]; rfl) (by rw [d5]; decide)
theorem rd_ut {G : GT} {μ : SL} {Y : PX} (hY : PxO Y) : ∀ k dp, dp + k = 6 → RdC G μ Y mX5_readUnit (utN Y k).1 dp (3 * k + 6) ∧ RdC G μ Y mX5_readTruth (utN Y k).2 dp (3 * k + 8)
  | 0, dp, h => by
    have hU : RdC G μ Y mX5_readUnit (utN Y 0).1 dp 6 := by rw [utN_1]; exact c_readUnit (b := 5) hY h (by omega) (fun k' hk' => by omega)
    have hB := c_readBoth hY (by omega) hU (PO_ut hY 0).1
    have hT := c_readTruth hY (by omega) hB (PO_both hY (PO_ut hY 0).1)
    exact ⟨hU, by rw [utN_2]; exact hT⟩
  | k + 1, dp, h => by
    obtain ⟨a, b⟩ := rd_ut hY k (dp + 1) (by omega)
    have hU : RdC G μ Y mX5_readUnit (utN Y (k + 1)).1 dp (3 * (k + 1) + 6) := by
      rw [utN_1]
      refine c_readUnit (b := 3 * k + 8) hY h (by omega) (fun k' hk' => ?_)
      have e : k' = k := by omega
      subst e
      exact ⟨fun dd σ S hdd => a dd σ S (by omega), b⟩
    have hB := c_readBoth hY (by omega) hU (PO_ut hY (k + 1)).1
    have hT := c_readTruth hY (by omega) hB (PO_both hY (PO_ut hY (k + 1)).1)
    exact ⟨hU, by rw [utN_2]; exact hT⟩

