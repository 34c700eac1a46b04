/-! ===== the reference: sums, units, all of a formula ===== -/
theorem m_readSum {G : GT} {d : Nat} {μ : SL} {Y : PX} {n : Nat} {B : FS → FS} (hY : PxO Y) (hA : RdM G (d + 6) mX12_readTerm μ Y n B) (hBp : ∀ c s, PO Y c s → PO Y c (B s)) (hU : Up B) : RdM G (d + 7) mX12_readSum μ Y n (fun S => lpF Y opS B 900 (B S)) := by
  intro σ S hR hp
  refine fn_of (ls := [some (.ref (G.b0 + 77)), some (.int (nI n)), none]) (by decide +kernel) (Nat.le_of_ble_eq_true rfl) 1 rfl ?_
  refine b_aload_n dX12_readSum_0 rfl ?_
  refine b_iload_n dX12_readSum_1 rfl ?_
  refine g_callVp [.int (nI n)] dX12_readSum_2 kX12_readTerm lX12_177 a77 rfl rfl (hA σ S hR hp) rfl rfl (Nat.le_of_ble_eq_true rfl) ?_
  rintro r h9 ⟨rfl, s0, rfl, hs0, hR0⟩
  have lp : ∀ (m : Nat) (T : FS) (s : ST) (z2 : Option Value), kM σ s → RM s Y T → PO Y 0 T → (T.2.1 = 0 → Y.2 ≤ T.1 + m) → lpF Y opS B m T = lpF Y opS B 900 (B S) → BB G RX12 cX12_readSum 3 none (d + 7) (QM G (PRm G μ σ Y (lpF Y opS B 900 (B S)) none)) 5 [some (.ref (G.b0 + 77)), some (.int (nI n)), z2] [] (sh G s μ) := by
    have st : ∀ (T : FS) (s : ST) (z2 : Option Value), kM σ s → RM s Y T → PO Y 0 T → (opS (kd Y T) = none → T = lpF Y opS B 900 (B S)) → (∀ c, opS (kd Y T) = some c → ∀ s1, kM σ s1 → RM s1 Y (nxt Y T) → BB G RX12 cX12_readSum 3 none (d + 7) (QM G (PRm G μ σ Y (lpF Y opS B 900 (B S)) none)) 46 [some (.ref (G.b0 + 77)), some (.int (nI n)), some (.int (nI c))] [] (sh G s1 μ)) → BB G RX12 cX12_readSum 3 none (d + 7) (QM G (PRm G μ σ Y (lpF Y opS B 900 (B S)) none)) 5 [some (.ref (G.b0 + 77)), some (.int (nI n)), z2] [] (sh G s μ) := by
      intro T s z2 hs hRT hpT hno hgo
      have hkd := (kd_ok Y T).1
      have mid : ∀ c, opS (kd Y T) = some c → (kd Y T = 22 ∧ c = 3000 ∨ kd Y T = 23 ∧ c = 3001) → BB G RX12 cX12_readSum 3 none (d + 7) (QM G (PRm G μ σ Y (lpF Y opS B 900 (B S)) none)) 23 [some (.ref (G.b0 + 77)), some (.int (nI n)), z2] [] (sh G s μ) := by
        intro c hc hcc
        have h17 : kd Y T ≠ 17 := by omega
        have h0 := (kd_lt hY hpT h17).1
        refine b_aload_n dX12_readSum_23 rfl ?_
        refine g_geti (x := nI (kd Y T)) dX12_readSum_24 fX12_111 a77 rfl (hRT.k h0) ?_
        refine b_bipush (v := nI 22) dX12_readSum_27 (by decide) ?_
        refine b_icmp_ne 38 dX12_readSum_29 (by decide) (fun c1 => ?_) (fun c1 => ?_)
        · skip
          have c2 : ¬ kd Y T = 22 := fun z => c1 (by rw [z])
          have ec : c = 3001 := by omega
          subst ec
          refine b_sipush (v := nI 3001) dX12_readSum_38 (by decide) ?_
          refine b_istore_n dX12_readSum_41 (by decide) rfl ?_
          refine b_aload_n dX12_readSum_42 rfl ?_
          refine g_callVp [] dX12_readSum_43 kX12_next lX12_138 a77 rfl rfl (m_nx (d := d + 1) hY hRT hpT h17) rfl rfl (Nat.le_of_ble_eq_true rfl) ?_
          rintro r h9 ⟨rfl, s1, rfl, hs1, hR1⟩
          exact hgo 3001 hc s1 (kM_t hs hs1) hR1
        · skip
          rw [nI_eq (by omega) (by omega)] at c1
          have ec : c = 3000 := by omega
          subst ec
          refine b_sipush (v := nI 3000) dX12_readSum_32 (by decide) ?_
          refine b_goto 41 dX12_readSum_35 (by decide) ?_
          refine b_istore_n dX12_readSum_41 (by decide) rfl ?_
          refine b_aload_n dX12_readSum_42 rfl ?_
          refine g_callVp [] dX12_readSum_43 kX12_next lX12_138 a77 rfl rfl (m_nx (d := d + 1) hY hRT hpT h17) rfl rfl (Nat.le_of_ble_eq_true rfl) ?_
          rintro r h9 ⟨rfl, s1, rfl, hs1, hR1⟩
          exact hgo 3000 hc s1 (kM_t hs hs1) hR1
      refine b_aload_n dX12_readSum_5 rfl ?_
      refine b_bipush (v := nI 22) dX12_readSum_6 (by decide) ?_
      refine g_callV [.int (nI 22)] dX12_readSum_8 kX12_is lX12_135 a77 rfl rfl (m_is hRT (k := 22) (by omega) (by omega)) rfl rfl (Nat.le_of_ble_eq_true rfl) ?_
      refine b_if_ne 23 dX12_readSum_11 (by decide) (fun c1 => ?_) (fun c1 => ?_)
      · skip
        have c2 : kd Y T = 22 := of_decide_eq_true ((bI_1 _).mp c1)
        exact mid 3000 (by unfold opS; rw [if_pos c2]) (Or.inl ⟨c2, rfl⟩)
      · skip
        have c2 : ¬ kd Y T = 22 := of_decide_eq_false ((bI_0 _).mp c1)
        refine b_aload_n dX12_readSum_14 rfl ?_
        refine b_bipush (v := nI 23) dX12_readSum_15 (by decide) ?_
        refine g_callV [.int (nI 23)] dX12_readSum_17 kX12_is lX12_135 a77 rfl rfl (m_is hRT (k := 23) (by omega) (by omega)) rfl rfl (Nat.le_of_ble_eq_true rfl) ?_
        refine b_if_eq 59 dX12_readSum_20 (by decide) (fun c3 => ?_) (fun c3 => ?_)
        · skip
          have c4 : ¬ kd Y T = 23 := of_decide_eq_false ((bI_0 _).mp c3)
          exact b_vret dX12_readSum_59 ⟨rfl, s, rfl, hs, by rw [← hno (by unfold opS; rw [if_neg c2, if_neg c4])]; exact hRT⟩
        · skip
          have c4 : kd Y T = 23 := of_decide_eq_true ((bI_1 _).mp c3)
          exact mid 3001 (by unfold opS; rw [if_neg c2, if_pos c4]) (Or.inr ⟨c4, rfl⟩)
    intro m
    induction m with
    | zero =>
      intro T s z2 hs hRT hpT hm he
      have h17 := kd_end hY hpT (fun z => by have := hm z; omega)
      exact st T s z2 hs hRT hpT (fun _ => he) (fun c z => by rw [h17] at z; exact absurd z (by simp [opS]))
    | succ m ih =>
      intro T s z2 hs hRT hpT hm he
      refine st T s z2 hs hRT hpT (fun z => ?_) (fun c hc s1 hs1 hR1 => ?_)
      · rw [lpF, z] at he
        exact he
      · have h17 : kd Y T ≠ 17 := fun z => by rw [z] at hc; exact absurd hc (by simp [opS])
        obtain ⟨k1, k2⟩ := kd_lt hY hpT h17
        rw [lpF, hc] at he
        have hp1 := PO_nxt hY hpT h17
        have hp2 := hBp _ _ hp1
        refine b_aload_n dX12_readSum_46 rfl ?_
        refine b_iload_n dX12_readSum_47 rfl ?_
        refine g_callVp [.int (nI n)] dX12_readSum_48 kX12_readTerm lX12_177 a77 rfl rfl (hA s1 _ hR1 (PO_mono hp1 (by omega))) rfl rfl (Nat.le_of_ble_eq_true rfl) ?_
        rintro r h9 ⟨rfl, s2, rfl, hs2, hR2⟩
        refine b_aload_n dX12_readSum_51 rfl ?_
        refine b_iload_n dX12_readSum_52 rfl ?_
        refine g_callVp [.int (nI c)] dX12_readSum_53 kX12_tells lX12_159 a77 rfl rfl (m_tells (c := c) hR2 (len_1 hY hp2)) rfl rfl (Nat.le_of_ble_eq_true rfl) ?_
        rintro r h9 ⟨rfl, s3, rfl, hs3, hR3⟩
        refine b_goto 5 dX12_readSum_56 (by decide) ?_
        refine ih _ s3 _ (kM_t (kM_t hs1 hs2) hs3) hR3 (PO_tell hp2) (fun z => ?_) he
        obtain ⟨a1, a2⟩ := Up_tell _ _ z
        obtain ⟨b1, b2⟩ := hU _ a1
        rw [nxt_1 k1 k2] at b2
        have := hm k1
        omega
  exact lp 900 _ s0 _ hs0 hR0 (hBp 0 _ hp) (fun _ => by have := hY.le; omega) rfl
theorem m_readUnit {G : GT} {d : Nat} {μ : SL} {Y : PX} {n k : Nat} (hY : PxO Y) (hn : n + k = 6) (hA : RdM G (d + 7) mX12_readSum μ Y n (sumN Y k)) (hI : ∀ k', k = k' + 1 → RdM G (d + 7) mX12_readUnit μ Y (n + 1) (utN Y k').1 ∧ RdM G (d + 7) mX12_readTruth μ Y (n + 1) (utN Y k').2) : RdM G (d + 8) mX12_readUnit μ Y n (unitF Y (sumN Y k) (innU Y k)) := by
  intro σ S hR hp
  refine fn_of (ls := [some (.ref (G.b0 + 77)), some (.int (nI n)), none]) (by decide +kernel) (Nat.le_of_ble_eq_true rfl) 1 rfl ?_
  -- a sum, a sign, a sum
  have rest : ¬ kd Y S = 11 → ¬ kd Y S = 27 → BB G RX12 cX12_readUnit 3 none (d + 8) (QM G (PRm G μ σ Y (unitF Y (sumN Y k) (innU Y k) S) none)) 73 [some (.ref (G.b0 + 77)), some (.int (nI n)), none] [] (sh G σ μ) := by
    intro c1 c2
    have eu : unitF Y (sumN Y k) (innU Y k) S = match opC (kd Y (sumN Y k S)) with | some c => tell c (sumN Y k (nxt Y (sumN Y k S))) | none => fail Y 2 (sumN Y k S) := by unfold unitF; rw [if_neg c1, if_neg c2]; rfl
    obtain ⟨T, hT⟩ : ∃ T, T = sumN Y k S := ⟨_, rfl⟩
    rw [← hT] at eu
    have hpT : PO Y 0 T := by rw [hT]; exact PO_sum hY k 0 _ hp
    refine b_aload_n dX12_readUnit_73 rfl ?_
    refine b_iload_n dX12_readUnit_74 rfl ?_
    refine g_callVp [.int (nI n)] dX12_readUnit_75 kX12_readSum lX12_171 a77 rfl rfl (hA σ S hR hp) rfl rfl (Nat.le_of_ble_eq_true rfl) ?_
    rintro r h9 ⟨rfl, s1, rfl, hs1, hR1⟩
    rw [← hT] at hR1
    -- the second sum
    have tl : ∀ (c : Nat) (s2 : ST) (T' : FS), kM σ s2 → RM s2 Y T' → PO Y 1 T' → tell c (sumN Y k T') = unitF Y (sumN Y k) (innU Y k) S → BB G RX12 cX12_readUnit 3 none (d + 8) (QM G (PRm G μ σ Y (unitF Y (sumN Y k) (innU Y k) S) none)) 151 [some (.ref (G.b0 + 77)), some (.int (nI n)), some (.int (nI c))] [] (sh G s2 μ) := by
      intro c s2 T' hs2 hR2 hp2 he
      refine b_aload_n dX12_readUnit_151 rfl ?_
      refine b_iload_n dX12_readUnit_152 rfl ?_
      refine g_callVp [.int (nI n)] dX12_readUnit_153 kX12_readSum lX12_171 a77 rfl rfl (hA s2 T' hR2 (PO_mono hp2 (by omega))) rfl rfl (Nat.le_of_ble_eq_true rfl) ?_
      rintro r h9 ⟨rfl, s3, rfl, hs3, hR3⟩
      refine b_aload_n dX12_readUnit_156 rfl ?_
      refine b_iload_n dX12_readUnit_157 rfl ?_
      refine g_callVp [.int (nI c)] dX12_readUnit_158 kX12_tells lX12_159 a77 rfl rfl (m_tells (c := c) hR3 (len_1 hY (PO_sum hY k 1 _ hp2))) rfl rfl (Nat.le_of_ble_eq_true rfl) ?_
      rintro r h9 ⟨rfl, s4, rfl, hs4, hR4⟩
      exact b_vret dX12_readUnit_161 ⟨rfl, s4, rfl, kM_t (kM_t hs2 hs3) hs4, by rw [← he]; exact hR4⟩
    -- on
    have go : ∀ (c : Nat), opC (kd Y T) = some c → BB G RX12 cX12_readUnit 3 none (d + 8) (QM G (PRm G μ σ Y (unitF Y (sumN Y k) (innU Y k) S) none)) 139 [some (.ref (G.b0 + 77)), some (.int (nI n)), some (.int (nI c))] [] (sh G s1 μ) := by
      intro c hc
      have h17 : kd Y T ≠ 17 := fun z => by rw [z] at hc; exact absurd hc (by simp [opC])
      refine b_aload_n dX12_readUnit_139 rfl ?_
      refine g_callVp [] dX12_readUnit_140 kX12_next lX12_138 a77 rfl rfl (m_nx (d := d + 2) hY hR1 hpT h17) rfl rfl (Nat.le_of_ble_eq_true rfl) ?_
      rintro r h9 ⟨rfl, s2, rfl, hs2, hR2⟩
      refine b_goto 151 dX12_readUnit_143 (by decide) ?_
      refine tl c s2 (nxt Y T) (kM_t hs1 hs2) hR2 (PO_nxt hY hpT h17) ?_
      rw [eu, hc]
    refine b_aload_n dX12_readUnit_78 rfl ?_
    refine b_bipush (v := nI 29) dX12_readUnit_79 (by decide) ?_
    refine g_callV [.int (nI 29)] dX12_readUnit_81 kX12_is lX12_135 a77 rfl rfl (m_is hR1 (k := 29) (by omega) (by omega)) rfl rfl (Nat.le_of_ble_eq_true rfl) ?_
    refine b_if_eq 93 dX12_readUnit_84 (by decide) (fun d1 => ?_) (fun d1 => ?_)
    · skip
      have e1 : ¬ kd Y T = 29 := of_decide_eq_false ((bI_0 _).mp d1)
      refine b_aload_n dX12_readUnit_93 rfl ?_
      refine b_bipush (v := nI 30) dX12_readUnit_94 (by decide) ?_
      refine g_callV [.int (nI 30)] dX12_readUnit_96 kX12_is lX12_135 a77 rfl rfl (m_is hR1 (k := 30) (by omega) (by omega)) rfl rfl (Nat.le_of_ble_eq_true rfl) ?_
      refine b_if_eq 108 dX12_readUnit_99 (by decide) (fun d2 => ?_) (fun d2 => ?_)
      · skip
        have e2 : ¬ kd Y T = 30 := of_decide_eq_false ((bI_0 _).mp d2)
        refine b_sipush (v := nI 3005) dX12_readUnit_108 (by decide) ?_
        refine b_istore_n dX12_readUnit_111 (by decide) rfl ?_
        refine b_aload_n dX12_readUnit_112 rfl ?_
        refine b_bipush (v := nI 29) dX12_readUnit_113 (by decide) ?_
        refine g_callV [.int (nI 29)] dX12_readUnit_115 kX12_is lX12_135 a77 rfl rfl (m_is hR1 (k := 29) (by omega) (by omega)) rfl rfl (Nat.le_of_ble_eq_true rfl) ?_
        refine b_if_ne_f 139 dX12_readUnit_118 (by decide) d1 ?_
        refine b_aload_n dX12_readUnit_121 rfl ?_
        refine b_bipush (v := nI 30) dX12_readUnit_122 (by decide) ?_
        refine g_callV [.int (nI 30)] dX12_readUnit_124 kX12_is lX12_135 a77 rfl rfl (m_is hR1 (k := 30) (by omega) (by omega)) rfl rfl (Nat.le_of_ble_eq_true rfl) ?_
        refine b_if_ne_f 139 dX12_readUnit_127 (by decide) d2 ?_
        refine b_aload_n dX12_readUnit_130 rfl ?_
        refine b_bipush (v := nI 31) dX12_readUnit_131 (by decide) ?_
        refine g_callV [.int (nI 31)] dX12_readUnit_133 kX12_is lX12_135 a77 rfl rfl (m_is hR1 (k := 31) (by omega) (by omega)) rfl rfl (Nat.le_of_ble_eq_true rfl) ?_
        refine b_if_eq 146 dX12_readUnit_136 (by decide) (fun d3 => ?_) (fun d3 => ?_)
        · skip
          have e3 : ¬ kd Y T = 31 := of_decide_eq_false ((bI_0 _).mp d3)
          refine b_aload_n dX12_readUnit_146 rfl ?_
          refine b_iconst (v := nI 2) dX12_readUnit_147 (by decide) ?_
          refine g_callVp [.int (nI 2)] dX12_readUnit_148 kX12_fails lX12_141 a77 rfl rfl (m_fails hR1 (f := 2) (by omega) (by omega)) rfl rfl (Nat.le_of_ble_eq_true rfl) ?_
          rintro r h9 ⟨rfl, s2, rfl, hs2, hR2⟩
          have hne : (fail Y 2 T).2.1 ≠ 0 := fail_0 (by omega)
          refine tl 3005 s2 (fail Y 2 T) (kM_t hs1 hs2) hR2 (PO_fl hpT (by omega)) ?_
          rw [eu, show opC (kd Y T) = none by unfold opC; rw [if_neg e1, if_neg e2, if_neg e3], Fi_sum Y k _ hne, Fi_tell _ _ hne]
        · skip
          have e3 : kd Y T = 31 := of_decide_eq_true ((bI_1 _).mp d3)
          exact go 3005 (by unfold opC; rw [if_neg e1, if_neg e2, if_pos e3])
      · skip
        have e2 : kd Y T = 30 := of_decide_eq_true ((bI_1 _).mp d2)
        refine b_sipush (v := nI 3004) dX12_readUnit_102 (by decide) ?_
        refine b_goto 111 dX12_readUnit_105 (by decide) ?_
        refine b_istore_n dX12_readUnit_111 (by decide) rfl ?_
        refine b_aload_n dX12_readUnit_112 rfl ?_
        refine b_bipush (v := nI 29) dX12_readUnit_113 (by decide) ?_
        refine g_callV [.int (nI 29)] dX12_readUnit_115 kX12_is lX12_135 a77 rfl rfl (m_is hR1 (k := 29) (by omega) (by omega)) rfl rfl (Nat.le_of_ble_eq_true rfl) ?_
        refine b_if_ne_f 139 dX12_readUnit_118 (by decide) d1 ?_
        refine b_aload_n dX12_readUnit_121 rfl ?_
        refine b_bipush (v := nI 30) dX12_readUnit_122 (by decide) ?_
        refine g_callV [.int (nI 30)] dX12_readUnit_124 kX12_is lX12_135 a77 rfl rfl (m_is hR1 (k := 30) (by omega) (by omega)) rfl rfl (Nat.le_of_ble_eq_true rfl) ?_
        refine b_if_ne_t 139 dX12_readUnit_127 (by decide) d2 ?_
        exact go 3004 (by unfold opC; rw [if_neg e1, if_pos e2])
    · skip
      have e1 : kd Y T = 29 := of_decide_eq_true ((bI_1 _).mp d1)
      refine b_sipush (v := nI 3003) dX12_readUnit_87 (by decide) ?_
      refine b_goto 111 dX12_readUnit_90 (by decide) ?_
      refine b_istore_n dX12_readUnit_111 (by decide) rfl ?_
      refine b_aload_n dX12_readUnit_112 rfl ?_
      refine b_bipush (v := nI 29) dX12_readUnit_113 (by decide) ?_
      refine g_callV [.int (nI 29)] dX12_readUnit_115 kX12_is lX12_135 a77 rfl rfl (m_is hR1 (k := 29) (by omega) (by omega)) rfl rfl (Nat.le_of_ble_eq_true rfl) ?_
      refine b_if_ne_t 139 dX12_readUnit_118 (by decide) d1 ?_
      exact go 3003 (by unfold opC; rw [if_pos e1])
  refine b_aload_n dX12_readUnit_0 rfl ?_
  refine b_bipush (v := nI 11) dX12_readUnit_1 (by decide) ?_
  refine g_callV [.int (nI 11)] dX12_readUnit_3 kX12_is lX12_135 a77 rfl rfl (m_is hR (k := 11) (by omega) (by omega)) rfl rfl (Nat.le_of_ble_eq_true rfl) ?_
  refine b_if_eq 33 dX12_readUnit_6 (by decide) (fun c1 => ?_) (fun c1 => ?_)
  · skip
    have c2 : ¬ kd Y S = 11 := of_decide_eq_false ((bI_0 _).mp c1)
    refine b_aload_n dX12_readUnit_33 rfl ?_
    refine b_bipush (v := nI 27) dX12_readUnit_34 (by decide) ?_
    refine g_callV [.int (nI 27)] dX12_readUnit_36 kX12_is lX12_135 a77 rfl rfl (m_is hR (k := 27) (by omega) (by omega)) rfl rfl (Nat.le_of_ble_eq_true rfl) ?_
    refine b_if_eq 73 dX12_readUnit_39 (by decide) (fun c3 => ?_) (fun c3 => ?_)
    · skip
      exact rest c2 (of_decide_eq_false ((bI_0 _).mp c3))
    · skip
      have c4 : kd Y S = 27 := of_decide_eq_true ((bI_1 _).mp c3)
      have eu : unitF Y (sumN Y k) (innU Y k) S = match innU Y k with | none => fail Y 4 S | some g => takK Y 28 (g.2 (nxt Y S)) := by unfold unitF; rw [if_neg c2, if_pos c4]; rfl
      refine b_aload_n dX12_readUnit_42 rfl ?_
      refine b_iload_n dX12_readUnit_43 rfl ?_
      refine g_callVp [.int (nI n)] dX12_readUnit_44 kX12_goesIn lX12_168 a77 rfl rfl (m_goesIn (d := d + 1) (n := n) hY hR hp (by omega) (by omega)) rfl rfl (Nat.le_of_ble_eq_true rfl) ?_
      rintro r h9 ⟨rfl, s1, rfl, hs1, hR1⟩
      refine b_if_ne 51 dX12_readUnit_47 (by decide) (fun c5 => ?_) (fun c5 => ?_)
      · skip
        have c6 : ¬ n = 6 := of_decide_eq_true ((bI_1 _).mp c5)
        rw [if_neg c6] at hR1
        obtain ⟨k', rfl⟩ : ∃ k', k = k' + 1 := ⟨k - 1, by omega⟩
        have hp1 := PO_nx0 hp
        refine b_aload_n dX12_readUnit_51 rfl ?_
        refine b_iload_n dX12_readUnit_52 rfl ?_
        refine b_iconst (v := nI 1) dX12_readUnit_53 (by decide) ?_
        refine b_iaddN dX12_readUnit_54 ?_
        refine g_callVp [.int (nI (n + 1))] dX12_readUnit_55 kX12_readTruth lX12_183 a77 rfl rfl ((hI k' rfl).2 s1 _ hR1 hp1) rfl rfl (Nat.le_of_ble_eq_true rfl) ?_
        rintro r h9 ⟨rfl, s2, rfl, hs2, hR2⟩
        have hp2 := (PO_ut hY k').2 0 _ hp1
        refine b_aload_n dX12_readUnit_58 rfl ?_
        refine b_bipush (v := nI 28) dX12_readUnit_59 (by decide) ?_
        refine g_callVp [.int (nI 28)] dX12_readUnit_61 kX12_eats lX12_153 a77 rfl rfl (m_eats (d := d + 1) (k := 28) hY hR2 hp2 (by omega) (by omega)) rfl rfl (Nat.le_of_ble_eq_true rfl) ?_
        rintro r h9 ⟨rfl, s3, rfl, hs3, hR3⟩
        refine b_if_ne 72 dX12_readUnit_64 (by decide) (fun c7 => ?_) (fun c7 => ?_)
        · skip
          have c8 := of_decide_eq_true ((bI_1 _).mp c7)
          rw [if_pos c8] at hR3
          exact b_vret dX12_readUnit_72 ⟨rfl, s3, rfl, kM_t (kM_t hs1 hs2) hs3, by rw [eu]; show RM s3 Y (takK Y 28 ((utN Y k').2 (nxt Y S))); rw [tak_if, if_pos c8]; exact hR3⟩
        · skip
          have c8 := of_decide_eq_false ((bI_0 _).mp c7)
          rw [if_neg c8] at hR3
          refine b_aload_n dX12_readUnit_67 rfl ?_
          refine b_iconst (v := nI 2) dX12_readUnit_68 (by decide) ?_
          refine g_callVp [.int (nI 2)] dX12_readUnit_69 kX12_fails lX12_141 a77 rfl rfl (m_fails hR3 (f := 2) (by omega) (by omega)) rfl rfl (Nat.le_of_ble_eq_true rfl) ?_
          rintro r h9 ⟨rfl, s4, rfl, hs4, hR4⟩
          exact b_vret dX12_readUnit_72 ⟨rfl, s4, rfl, kM_t (kM_t (kM_t hs1 hs2) hs3) hs4, by rw [eu]; show RM s4 Y (takK Y 28 ((utN Y k').2 (nxt Y S))); rw [tak_if, if_neg c8]; exact hR4⟩
      · skip
        have c6 : n = 6 := Classical.not_not.mp (of_decide_eq_false ((bI_0 _).mp c5))
        rw [if_pos c6] at hR1
        have k0 : k = 0 := by omega
        subst k0
        exact b_vret dX12_readUnit_50 ⟨rfl, s1, rfl, hs1, by rw [eu]; exact hR1⟩
  · skip
    have c4 : kd Y S = 11 := of_decide_eq_true ((bI_1 _).mp c1)
    have eu : unitF Y (sumN Y k) (innU Y k) S = match innU Y k with | none => fail Y 4 S | some g => tell 3008 (g.1 (nxt Y S)) := by unfold unitF; rw [if_pos c4]; rfl
    refine b_aload_n dX12_readUnit_9 rfl ?_
    refine b_iload_n dX12_readUnit_10 rfl ?_
    refine g_callVp [.int (nI n)] dX12_readUnit_11 kX12_goesIn lX12_168 a77 rfl rfl (m_goesIn (d := d + 1) (n := n) hY hR hp (by omega) (by omega)) rfl rfl (Nat.le_of_ble_eq_true rfl) ?_
    rintro r h9 ⟨rfl, s1, rfl, hs1, hR1⟩
    refine b_if_ne 18 dX12_readUnit_14 (by decide) (fun c5 => ?_) (fun c5 => ?_)
    · skip
      have c6 : ¬ n = 6 := of_decide_eq_true ((bI_1 _).mp c5)
      rw [if_neg c6] at hR1
      obtain ⟨k', rfl⟩ : ∃ k', k = k' + 1 := ⟨k - 1, by omega⟩
      have hp1 := PO_nxt hY hp (show kd Y S ≠ 17 by omega)
      refine b_aload_n dX12_readUnit_18 rfl ?_
      refine b_iload_n dX12_readUnit_19 rfl ?_
      refine b_iconst (v := nI 1) dX12_readUnit_20 (by decide) ?_
      refine b_iaddN dX12_readUnit_21 ?_
      refine g_callVp [.int (nI (n + 1))] dX12_readUnit_22 kX12_readUnit lX12_180 a77 rfl rfl ((hI k' rfl).1 s1 _ hR1 (PO_mono hp1 (by omega))) rfl rfl (Nat.le_of_ble_eq_true rfl) ?_
      rintro r h9 ⟨rfl, s2, rfl, hs2, hR2⟩
      have hp2 := (PO_ut hY k').1 1 _ hp1
      refine b_aload_n dX12_readUnit_25 rfl ?_
      refine b_sipush (v := nI 3008) dX12_readUnit_26 (by decide) ?_
      refine g_callVp [.int (nI 3008)] dX12_readUnit_29 kX12_tells lX12_159 a77 rfl rfl (m_tells (c := 3008) hR2 (len_1 hY hp2)) rfl rfl (Nat.le_of_ble_eq_true rfl) ?_
      rintro r h9 ⟨rfl, s3, rfl, hs3, hR3⟩
      exact b_vret dX12_readUnit_32 ⟨rfl, s3, rfl, kM_t (kM_t hs1 hs2) hs3, by rw [eu]; exact hR3⟩
    · skip
      have c6 : n = 6 := Classical.not_not.mp (of_decide_eq_false ((bI_0 _).mp c5))
      rw [if_pos c6] at hR1
      have k0 : k = 0 := by omega
      subst k0
      exact b_vret dX12_readUnit_17 ⟨rfl, s1, rfl, hs1, by rw [eu]; exact hR1⟩
theorem m_rd {G : GT} {μ : SL} {Y : PX} (hY : PxO Y) : ∀ (k n d : Nat), n + k = 6 → RdM G (d + 3 * k + 9) mX12_readSum μ Y n (sumN Y k) ∧ RdM G (d + 3 * k + 10) mX12_readUnit μ Y n (utN Y k).1 ∧ RdM G (d + 3 * k + 12) mX12_readTruth μ Y n (utN Y k).2 := by
  have all : ∀ (k n d : Nat), n + k = 6 → (∀ k', k = k' + 1 → RdM G (d + 3 * k + 6) mX12_readSum μ Y (n + 1) (sumN Y k') ∧ RdM G (d + 3 * k + 9) mX12_readUnit μ Y (n + 1) (utN Y k').1 ∧ RdM G (d + 3 * k + 9) mX12_readTruth μ Y (n + 1) (utN Y k').2) → RdM G (d + 3 * k + 9) mX12_readSum μ Y n (sumN Y k) ∧ RdM G (d + 3 * k + 10) mX12_readUnit μ Y n (utN Y k).1 ∧ RdM G (d + 3 * k + 12) mX12_readTruth μ Y n (utN Y k).2 := by
    intro k n d hn hI
    have pA := PO_atom hY (PO_innS hY k)
    have uA := Up_atom (Y := Y) (Up_innS Y k)
    have a : RdM G (d + 3 * k + 7) mX12_readAtom μ Y n (atomF Y (innS Y k)) := m_readAtom (d := d + 3 * k) hY hn (fun k' e => (hI k' e).1)
    have t : RdM G (d + 3 * k + 8) mX12_readTerm μ Y n (termF Y (innS Y k)) := m_readTerm (d := d + 3 * k + 1) hY a pA uA
    have s : RdM G (d + 3 * k + 9) mX12_readSum μ Y n (sumN Y k) := by
      rw [sumN_eq]
      exact m_readSum (d := d + 3 * k + 2) hY t (PO_term hY (PO_innS hY k)) (Up_lb uA)
    have u : RdM G (d + 3 * k + 10) mX12_readUnit μ Y n (utN Y k).1 := by
      rw [utN_1]
      exact m_readUnit (d := d + 3 * k + 2) hY hn s (fun k' e => ⟨(hI k' e).2.1, (hI k' e).2.2⟩)
    have pU := (PO_ut hY k).1
    have uU := (Up_ut Y k).1
    have b : RdM G (d + 3 * k + 11) mX12_readBoth μ Y n (bothF Y (utN Y k).1) := m_readBoth (d := d + 3 * k + 4) hY u pU uU
    refine ⟨s, u, ?_⟩
    rw [utN_2]
    exact m_readTruth (d := d + 3 * k + 5) hY b (PO_both hY pU) (Up_lb uU)
  intro k
  induction k with
  | zero => intro n d hn; exact all 0 n d hn (fun k' e => absurd e (by omega))
  | succ k ih =>
    intro n d hn
    refine all (k + 1) n d hn (fun k' e => ?_)
    have ek : k' = k := by omega
    subst ek
    obtain ⟨i1, -, i3⟩ := ih (n + 1) d (by omega)
    obtain ⟨-, i2, -⟩ := ih (n + 1) (d + 2) (by omega)
    have e2 : d + 2 + 3 * k' + 10 = d + 3 * (k' + 1) + 9 := by omega
    rw [e2] at i2
    exact ⟨i1, i2, i3⟩

