/-! ===== the reference: the calls that only read ===== -/
theorem m_X_fact {G : GT} {d : Nat} {σ : ST} {μ : SL} {L : LD} {x : Int32} (hM : MV σ L) : Fn G (d + 2) mX12_fact [.ref (G.b0 + 77), .int x] (sh G σ μ) (Ret (some (.int (oFact L x))) (sh G σ μ)) := by
  have hb := hM.b
  refine fn_of (ls := [some (.ref (G.b0 + 77)), some (.int x)]) (by decide +kernel) (Nat.le_of_ble_eq_true rfl) 0 rfl ?_
  refine b_aload_n dX12_fact_0 rfl ?_
  refine b_iconst (v := nI 0) dX12_fact_1 (by decide) ?_
  refine g_put dX12_fact_2 wX12_1 a77 tfX12_0 (Nat.le_of_ble_eq_true rfl) rfl ?_
  refine b_sig hM.t0 ?_
  refine b_aload_n dX12_fact_5 rfl ?_
  refine b_iload_n dX12_fact_6 rfl ?_
  refine b_i2l dX12_fact_7 ?_
  refine g_callV [.long x.toInt64] dX12_fact_8 kX12_isFact lX12_241 a77 rfl rfl (m_isFactI hM) rfl rfl (Nat.le_of_ble_eq_true rfl) ?_
  refine b_if_eq 26 dX12_fact_11 (by decide) (fun c1 => ?_) (fun c1 => ?_)
  · skip
    refine b_bipush (v := -2) dX12_fact_26 (by decide) ?_
    exact b_iret dX12_fact_28 ⟨by simp [oFact, (bI_0 _).mp c1], rfl⟩
  · skip
    have c2 := (bI_1 _).mp c1
    obtain ⟨j, hj, rfl⟩ := inR_of (by omega) c2
    refine b_aload_n dX12_fact_14 rfl ?_
    refine g_get dX12_fact_15 fX12_13 a77 rfl ?_
    refine b_bipush (v := nI 105) dX12_fact_18 (by decide) ?_
    refine b_iload_n dX12_fact_20 rfl ?_
    refine b_iaddN dX12_fact_21 ?_
    refine g_iald dX12_fact_22 a78 rfl (by omega) ?_
    refine b_top (hM.hold (by omega)) ?_
    refine b_goto 28 dX12_fact_23 (by decide) ?_
    exact b_iret dX12_fact_28 ⟨by simp [oFact, c2, ix_nI (show j < 2 ^ 31 by omega)], rfl⟩
theorem m_X_hints {G : GT} {d : Nat} {σ : ST} {μ : SL} {L : LD} {x : Int32} (hM : MV σ L) : Fn G (d + 2) mX12_hints [.ref (G.b0 + 77), .int x] (sh G σ μ) (Ret (some (.int (oHints L x))) (sh G σ μ)) := by
  have hb := hM.b
  refine fn_of (ls := [some (.ref (G.b0 + 77)), some (.int x)]) (by decide +kernel) (Nat.le_of_ble_eq_true rfl) 0 rfl ?_
  refine b_aload_n dX12_hints_0 rfl ?_
  refine b_iconst (v := nI 0) dX12_hints_1 (by decide) ?_
  refine g_put dX12_hints_2 wX12_1 a77 tfX12_0 (Nat.le_of_ble_eq_true rfl) rfl ?_
  refine b_sig hM.t0 ?_
  refine b_aload_n dX12_hints_5 rfl ?_
  refine b_iload_n dX12_hints_6 rfl ?_
  refine b_i2l dX12_hints_7 ?_
  refine g_callV [.long x.toInt64] dX12_hints_8 kX12_isFact lX12_241 a77 rfl rfl (m_isFactI hM) rfl rfl (Nat.le_of_ble_eq_true rfl) ?_
  refine b_if_eq 26 dX12_hints_11 (by decide) (fun c1 => ?_) (fun c1 => ?_)
  · skip
    refine b_bipush (v := -2) dX12_hints_26 (by decide) ?_
    exact b_iret dX12_hints_28 ⟨by simp [oHints, (bI_0 _).mp c1], rfl⟩
  · skip
    have c2 := (bI_1 _).mp c1
    obtain ⟨j, hj, rfl⟩ := inR_of (by omega) c2
    refine b_aload_n dX12_hints_14 rfl ?_
    refine g_get dX12_hints_15 fX12_13 a77 rfl ?_
    refine b_bipush (v := nI 97) dX12_hints_18 (by decide) ?_
    refine b_iload_n dX12_hints_20 rfl ?_
    refine b_iaddN dX12_hints_21 ?_
    refine g_iald dX12_hints_22 a78 rfl (by omega) ?_
    refine b_top (hM.hint (by omega)) ?_
    refine b_goto 28 dX12_hints_23 (by decide) ?_
    exact b_iret dX12_hints_28 ⟨by simp [oHints, c2, ix_nI (show j < 2 ^ 31 by omega)], rfl⟩
theorem m_X_world {G : GT} {d : Nat} {σ : ST} {μ : SL} {L : LD} {w x : Int32} (hM : MV σ L) : Fn G (d + 2) mX12_world [.ref (G.b0 + 77), .int w, .int x] (sh G σ μ) (Ret (some (.int (oWorld L w x))) (sh G σ μ)) := by
  have hb := hM.b
  refine fn_of (ls := [some (.ref (G.b0 + 77)), some (.int w), some (.int x)]) (by decide +kernel) (Nat.le_of_ble_eq_true rfl) 0 rfl ?_
  refine b_aload_n dX12_world_0 rfl ?_
  refine b_iconst (v := nI 0) dX12_world_1 (by decide) ?_
  refine g_put dX12_world_2 wX12_1 a77 tfX12_0 (Nat.le_of_ble_eq_true rfl) rfl ?_
  refine b_sig hM.t0 ?_
  refine b_aload_n dX12_world_5 rfl ?_
  refine b_iload_n dX12_world_6 rfl ?_
  refine g_callV [.int w] dX12_world_7 kX12_isWorld lX12_235 a77 rfl rfl (m_isWorld hM) rfl rfl (Nat.le_of_ble_eq_true rfl) ?_
  refine b_if_ne 16 dX12_world_10 (by decide) (fun c1 => ?_) (fun c1 => ?_)
  · skip
    have c2 := (bI_1 _).mp c1
    obtain ⟨j, hj, rfl⟩ := inR_of (by omega) c2
    have hjx := ix_nI (show j < 2 ^ 31 by omega)
    refine b_iload_n dX12_world_16 rfl ?_
    by_cases c3 : inR x 6 = true
    · obtain ⟨k, hk, rfl⟩ := inR_of (by omega) c3
      have hkx := ix_nI (show k < 2 ^ 31 by omega)
      have hmi : (nI k).toInt = (k : Int) := nI_toInt (by omega)
      have nm : k < 3 → BB G RX12 cX12_world 3 (some .int) (d + 2) (QM G (Ret (some (.int (oWorld L (nI j) (nI k)))) (sh G σ μ))) 56 [some (.ref (G.b0 + 77)), some (.int (nI j)), some (.int (nI k))] [] (sh G σ μ) := by
        intro h3
        refine b_aload_n dX12_world_56 rfl ?_
        refine g_get dX12_world_57 fX12_13 a77 rfl ?_
        refine b_bipush (v := nI 11) dX12_world_60 (by decide) ?_
        refine b_bipush (v := nI 16) dX12_world_62 (by decide) ?_
        refine b_iload_n dX12_world_64 rfl ?_
        refine b_imulN dX12_world_65 ?_
        refine b_iaddN dX12_world_66 ?_
        refine b_iload_n dX12_world_67 rfl ?_
        refine b_iaddN dX12_world_68 ?_
        refine g_iald dX12_world_69 a78 rfl (by omega) ?_
        refine b_iret dX12_world_70 ⟨?_, rfl⟩
        rw [show (77 : Nat) + 1 = 78 from rfl, hM.num h3 hj]
        simp [oWorld, c2, c3, hjx, hkx, h3]
      rcases (show k = 0 ∨ k = 1 ∨ k = 2 ∨ k = 3 ∨ k = 4 ∨ k = 5 by omega) with rfl | rfl | rfl | rfl | rfl | rfl
      · exact b_tableIn 56 dX12_world_17 (by rw [hmi]; decide) (by rw [hmi]; decide) (by rw [hmi]; rfl) (by decide) (nm (by omega))
      · exact b_tableIn 56 dX12_world_17 (by rw [hmi]; decide) (by rw [hmi]; decide) (by rw [hmi]; rfl) (by decide) (nm (by omega))
      · exact b_tableIn 56 dX12_world_17 (by rw [hmi]; decide) (by rw [hmi]; decide) (by rw [hmi]; rfl) (by decide) (nm (by omega))
      · refine b_tableIn 71 dX12_world_17 (by rw [hmi]; decide) (by rw [hmi]; decide) (by rw [hmi]; rfl) (by decide) ?_
        refine b_aload_n dX12_world_71 rfl ?_
        refine g_get dX12_world_72 fX12_13 a77 rfl ?_
        refine b_bipush (v := nI 59) dX12_world_75 (by decide) ?_
        refine b_iload_n dX12_world_77 rfl ?_
        refine b_iaddN dX12_world_78 ?_
        refine g_iald dX12_world_79 a78 rfl (by omega) ?_
        refine b_top (hM.wt (by omega)) ?_
        exact b_iret dX12_world_80 ⟨by simp [oWorld, c2, c3, hjx, hkx], rfl⟩
      · refine b_tableIn 81 dX12_world_17 (by rw [hmi]; decide) (by rw [hmi]; decide) (by rw [hmi]; rfl) (by decide) ?_
        refine b_aload_n dX12_world_81 rfl ?_
        refine g_get dX12_world_82 fX12_13 a77 rfl ?_
        refine b_bipush (v := nI 75) dX12_world_85 (by decide) ?_
        refine b_iload_n dX12_world_87 rfl ?_
        refine b_iaddN dX12_world_88 ?_
        refine g_iald dX12_world_89 a78 rfl (by omega) ?_
        refine b_top (hM.gl (by omega)) ?_
        exact b_iret dX12_world_90 ⟨by simp [oWorld, c2, c3, hjx, hkx], rfl⟩
      · refine b_tableIn 91 dX12_world_17 (by rw [hmi]; decide) (by rw [hmi]; decide) (by rw [hmi]; rfl) (by decide) ?_
        refine b_aload_n dX12_world_91 rfl ?_
        refine b_iload_n dX12_world_92 rfl ?_
        refine g_callV [.int (nI j)] dX12_world_93 kX12_factsOf lX12_238 a77 rfl rfl (m_factsOf hM (by omega)) rfl rfl (Nat.le_of_ble_eq_true rfl) ?_
        exact b_iret dX12_world_96 ⟨by simp [oWorld, c2, c3, hjx, hkx], rfl⟩
    · have c4 : inR x 6 = false := by simpa using c3
      have h5 := inR_out (by omega) c4
      refine b_tableOut 97 dX12_world_17 (by omega) (by decide) ?_
      refine b_bipush (v := -2) dX12_world_97 (by decide) ?_
      exact b_iret dX12_world_99 ⟨by simp [oWorld, c4], rfl⟩
  · skip
    refine b_bipush (v := -2) dX12_world_13 (by decide) ?_
    exact b_iret dX12_world_15 ⟨by simp [oWorld, (bI_0 _).mp (by simpa using c1)], rfl⟩
theorem m_X_person {G : GT} {d : Nat} {σ : ST} {μ : SL} {L : LD} {p x : Int32} (hM : MV σ L) : Fn G (d + 3) mX12_person [.ref (G.b0 + 77), .int p, .int x] (sh G σ μ) (Ret (some (.int (oPerson L p x))) (sh G σ μ)) := by
  have hb := hM.b
  refine fn_of (ls := [some (.ref (G.b0 + 77)), some (.int p), some (.int x)]) (by decide +kernel) (Nat.le_of_ble_eq_true rfl) 0 rfl ?_
  refine b_aload_n dX12_person_0 rfl ?_
  refine b_iconst (v := nI 0) dX12_person_1 (by decide) ?_
  refine g_put dX12_person_2 wX12_1 a77 tfX12_0 (Nat.le_of_ble_eq_true rfl) rfl ?_
  refine b_sig hM.t0 ?_
  refine b_aload_n dX12_person_5 rfl ?_
  refine b_iload_n dX12_person_6 rfl ?_
  refine b_i2l dX12_person_7 ?_
  refine g_callV [.long p.toInt64] dX12_person_8 kX12_isPerson lX12_245 a77 rfl rfl (m_isPersonI hM) rfl rfl (Nat.le_of_ble_eq_true rfl) ?_
  refine b_if_ne 17 dX12_person_11 (by decide) (fun c1 => ?_) (fun c1 => ?_)
  · skip
    have c2 := (bI_1 _).mp c1
    obtain ⟨j, hj, rfl⟩ := inR_of (by omega) c2
    have hjx := ix_nI (show j < 2 ^ 31 by omega)
    refine b_iload_n dX12_person_17 rfl ?_
    by_cases c3 : inR x 5 = true
    · obtain ⟨k, hk, rfl⟩ := inR_of (by omega) c3
      have hkx := ix_nI (show k < 2 ^ 31 by omega)
      have hmi : (nI k).toInt = (k : Int) := nI_toInt (by omega)
      rcases (show k = 0 ∨ k = 1 ∨ k = 2 ∨ k = 3 ∨ k = 4 by omega) with rfl | rfl | rfl | rfl | rfl
      · refine b_tableIn 52 dX12_person_18 (by rw [hmi]; decide) (by rw [hmi]; decide) (by rw [hmi]; rfl) (by decide) ?_
        refine b_aload_n dX12_person_52 rfl ?_
        refine g_get dX12_person_53 fX12_13 a77 rfl ?_
        refine b_iconst (v := nI 5) dX12_person_56 (by decide) ?_
        refine b_iload_n dX12_person_57 rfl ?_
        refine b_iaddN dX12_person_58 ?_
        refine g_iald dX12_person_59 a78 rfl (by omega) ?_
        refine b_top (hM.told (by omega)) ?_
        exact b_iret dX12_person_60 ⟨by simp [oPerson, c2, c3, hjx, hkx], rfl⟩
      · refine b_tableIn 61 dX12_person_18 (by rw [hmi]; decide) (by rw [hmi]; decide) (by rw [hmi]; rfl) (by decide) ?_
        refine b_aload_n dX12_person_61 rfl ?_
        refine b_iload_n dX12_person_62 rfl ?_
        refine g_callV [.int (nI j)] dX12_person_63 kX12_cellNow lX12_248 a77 rfl rfl (m_cellNow hM hj) rfl rfl (Nat.le_of_ble_eq_true rfl) ?_
        exact b_iret dX12_person_66 ⟨by simp [oPerson, c2, c3, hjx, hkx], rfl⟩
      · refine b_tableIn 67 dX12_person_18 (by rw [hmi]; decide) (by rw [hmi]; decide) (by rw [hmi]; rfl) (by decide) ?_
        refine b_aload_n dX12_person_67 rfl ?_
        refine b_aload_n dX12_person_68 rfl ?_
        refine b_iload_n dX12_person_69 rfl ?_
        refine g_callV [.int (nI j)] dX12_person_70 kX12_cellNow lX12_248 a77 rfl rfl (m_cellNow hM hj) rfl rfl (Nat.le_of_ble_eq_true rfl) ?_
        refine g_callV [.int (poss L j L.t)] dX12_person_73 kX12_knownIn lX12_251 a77 rfl rfl (m_knownIn hM) rfl rfl (Nat.le_of_ble_eq_true rfl) ?_
        exact b_iret dX12_person_76 ⟨by simp [oPerson, c2, c3, hjx, hkx], rfl⟩
      · refine b_tableIn 77 dX12_person_18 (by rw [hmi]; decide) (by rw [hmi]; decide) (by rw [hmi]; rfl) (by decide) ?_
        refine b_aload_n dX12_person_77 rfl ?_
        refine b_iload_n dX12_person_78 rfl ?_
        refine g_callV [.int (nI j)] dX12_person_79 kX12_cellNow lX12_248 a77 rfl rfl (m_cellNow hM hj) rfl rfl (Nat.le_of_ble_eq_true rfl) ?_
        refine b_aload_n dX12_person_82 rfl ?_
        refine g_callV [] dX12_person_83 kX12_guilty lX12_254 a77 rfl rfl (m_guilty hM) rfl rfl (Nat.le_of_ble_eq_true rfl) ?_
        refine b_callSr [.int (poss L j L.t), .int L.gl] dX12_person_86 kX12_isPlain lX12_229 m_isPlain rfl rfl (Nat.le_of_ble_eq_true rfl) ?_
        refine b_if_eq 96 dX12_person_89 (by decide) (fun c4 => ?_) (fun c4 => ?_)
        · skip
          refine b_iconst (v := nI 0) dX12_person_96 (by decide) ?_
          exact b_iret dX12_person_97 ⟨by simp [oPerson, c2, c3, hjx, hkx, (bI_0 _).mp c4, bI], rfl⟩
        · skip
          refine b_iconst (v := nI 1) dX12_person_92 (by decide) ?_
          refine b_goto 97 dX12_person_93 (by decide) ?_
          exact b_iret dX12_person_97 ⟨by simp [oPerson, c2, c3, hjx, hkx, (bI_1 _).mp c4, bI], rfl⟩
      · refine b_tableIn 98 dX12_person_18 (by rw [hmi]; decide) (by rw [hmi]; decide) (by rw [hmi]; rfl) (by decide) ?_
        refine b_aload_n dX12_person_98 rfl ?_
        refine g_get dX12_person_99 fX12_13 a77 rfl ?_
        refine b_bipush (v := nI 91) dX12_person_102 (by decide) ?_
        refine b_iload_n dX12_person_104 rfl ?_
        refine b_iaddN dX12_person_105 ?_
        refine g_iald dX12_person_106 a78 rfl (by omega) ?_
        refine b_top (hM.road (by omega)) ?_
        exact b_iret dX12_person_107 ⟨by simp [oPerson, c2, c3, hjx, hkx], rfl⟩
    · have c4 : inR x 5 = false := by simpa using c3
      have h5 := inR_out (by omega) c4
      refine b_tableOut 108 dX12_person_18 (by omega) (by decide) ?_
      refine b_bipush (v := -2) dX12_person_108 (by decide) ?_
      exact b_iret dX12_person_110 ⟨by simp [oPerson, c4], rfl⟩
  · skip
    refine b_bipush (v := -2) dX12_person_14 (by decide) ?_
    exact b_iret dX12_person_16 ⟨by simp [oPerson, (bI_0 _).mp (by simpa using c1)], rfl⟩
theorem m_X_knows {G : GT} {d : Nat} {σ : ST} {μ : SL} {L : LD} {p f : Int32} (hM : MV σ L) : Fn G (d + 3) mX12_knows [.ref (G.b0 + 77), .int p, .int f] (sh G σ μ) (Ret (some (.int (oKnows L p f))) (sh G σ μ)) := by
  have hb := hM.b
  refine fn_of (ls := [some (.ref (G.b0 + 77)), some (.int p), some (.int f), none]) (by decide +kernel) (Nat.le_of_ble_eq_true rfl) 1 rfl ?_
  refine b_aload_n dX12_knows_0 rfl ?_
  refine b_iconst (v := nI 0) dX12_knows_1 (by decide) ?_
  refine g_put dX12_knows_2 wX12_1 a77 tfX12_0 (Nat.le_of_ble_eq_true rfl) rfl ?_
  refine b_sig hM.t0 ?_
  refine b_aload_n dX12_knows_5 rfl ?_
  refine b_iload_n dX12_knows_6 rfl ?_
  refine b_i2l dX12_knows_7 ?_
  refine g_callV [.long p.toInt64] dX12_knows_8 kX12_isPerson lX12_245 a77 rfl rfl (m_isPersonI hM) rfl rfl (Nat.le_of_ble_eq_true rfl) ?_
  refine b_if_eq 23 dX12_knows_11 (by decide) (fun c1 => ?_) (fun c1 => ?_)
  · skip
    refine b_bipush (v := -2) dX12_knows_23 (by decide) ?_
    exact b_iret dX12_knows_25 ⟨by simp [oKnows, (bI_0 _).mp c1], rfl⟩
  · skip
    have c2 := (bI_1 _).mp c1
    obtain ⟨j, hj, rfl⟩ := inR_of (by omega) c2
    have hjx := ix_nI (show j < 2 ^ 31 by omega)
    refine b_aload_n dX12_knows_14 rfl ?_
    refine b_iload_n dX12_knows_15 rfl ?_
    refine b_i2l dX12_knows_16 ?_
    refine g_callV [.long f.toInt64] dX12_knows_17 kX12_isFact lX12_241 a77 rfl rfl (m_isFactI hM) rfl rfl (Nat.le_of_ble_eq_true rfl) ?_
    refine b_if_ne 26 dX12_knows_20 (by decide) (fun c3 => ?_) (fun c3 => ?_)
    · skip
      have c4 := (bI_1 _).mp c3
      obtain ⟨k, hk, rfl⟩ := inR_of (by omega) c4
      have hkx := ix_nI (show k < 2 ^ 31 by omega)
      refine b_aload_n dX12_knows_26 rfl ?_
      refine b_iload_n dX12_knows_27 rfl ?_
      refine g_callV [.int (nI j)] dX12_knows_28 kX12_cellNow lX12_248 a77 rfl rfl (m_cellNow hM hj) rfl rfl (Nat.le_of_ble_eq_true rfl) ?_
      refine b_istore_n dX12_knows_31 (by decide) rfl ?_
      refine b_iload_n dX12_knows_32 rfl ?_
      refine b_aload_n dX12_knows_33 rfl ?_
      refine g_get dX12_knows_34 fX12_13 a77 rfl ?_
      refine b_bipush (v := nI 105) dX12_knows_37 (by decide) ?_
      refine b_iload_n dX12_knows_39 rfl ?_
      refine b_iaddN dX12_knows_40 ?_
      refine g_iald dX12_knows_41 a78 rfl (by omega) ?_
      refine b_top (hM.hold (by omega)) ?_
      refine b_iconst (v := -1) dX12_knows_42 (by decide) ?_
      refine b_ixor dX12_knows_43 ?_
      refine b_iand dX12_knows_44 ?_
      refine b_if_ne 52 dX12_knows_45 (by decide) (fun c5 => ?_) (fun c5 => ?_)
      · skip
        have d5 : ¬ poss L j L.t &&& L.hold k = poss L j L.t := fun z => c5 (kn_not.mpr z)
        refine b_iload_n dX12_knows_52 rfl ?_
        refine b_aload_n dX12_knows_53 rfl ?_
        refine g_get dX12_knows_54 fX12_13 a77 rfl ?_
        refine b_bipush (v := nI 105) dX12_knows_57 (by decide) ?_
        refine b_iload_n dX12_knows_59 rfl ?_
        refine b_iaddN dX12_knows_60 ?_
        refine g_iald dX12_knows_61 a78 rfl (by omega) ?_
        refine b_top (hM.hold (by omega)) ?_
        refine b_iand dX12_knows_62 ?_
        refine b_if_ne 70 dX12_knows_63 (by decide) (fun c6 => ?_) (fun c6 => ?_)
        · skip
          refine b_iconst (v := -1) dX12_knows_70 (by decide) ?_
          exact b_iret dX12_knows_71 ⟨by simp [oKnows, c2, c4, hjx, hkx, mKn, d5, c6], rfl⟩
        · skip
          have c7 : poss L j L.t &&& L.hold k = 0 := by simpa using c6
          refine b_iconst (v := nI 0) dX12_knows_66 (by decide) ?_
          refine b_goto 71 dX12_knows_67 (by decide) ?_
          have d6 : ¬ (0 : Int32) = poss L j L.t := fun z => d5 (by rw [c7]; exact z)
          exact b_iret dX12_knows_71 ⟨by simp [oKnows, c2, c4, hjx, hkx, mKn, c7, d6], rfl⟩
      · skip
        have c7 : poss L j L.t &&& (L.hold k ^^^ (-1)) = 0 := by simpa using c5
        have d5 : poss L j L.t &&& L.hold k = poss L j L.t := kn_not.mp c7
        refine b_iconst (v := nI 1) dX12_knows_48 (by decide) ?_
        refine b_goto 71 dX12_knows_49 (by decide) ?_
        exact b_iret dX12_knows_71 ⟨by simp [oKnows, c2, c4, hjx, hkx, mKn, d5], rfl⟩
    · skip
      refine b_bipush (v := -2) dX12_knows_23 (by decide) ?_
      exact b_iret dX12_knows_25 ⟨by simp [oKnows, (bI_0 _).mp (by simpa using c3)], rfl⟩
theorem m_X_cell {G : GT} {d : Nat} {σ : ST} {μ : SL} {L : LD} {p w : Int32} (hM : MV σ L) : Fn G (d + 2) mX12_cell [.ref (G.b0 + 77), .int p, .int w] (sh G σ μ) (Ret (some (.int (oCell L p w))) (sh G σ μ)) := by
  have hb := hM.b
  refine fn_of (ls := [some (.ref (G.b0 + 77)), some (.int p), some (.int w)]) (by decide +kernel) (Nat.le_of_ble_eq_true rfl) 0 rfl ?_
  refine b_aload_n dX12_cell_0 rfl ?_
  refine b_iconst (v := nI 0) dX12_cell_1 (by decide) ?_
  refine g_put dX12_cell_2 wX12_1 a77 tfX12_0 (Nat.le_of_ble_eq_true rfl) rfl ?_
  refine b_sig hM.t0 ?_
  refine b_aload_n dX12_cell_5 rfl ?_
  refine b_iload_n dX12_cell_6 rfl ?_
  refine b_i2l dX12_cell_7 ?_
  refine g_callV [.long p.toInt64] dX12_cell_8 kX12_isPerson lX12_245 a77 rfl rfl (m_isPersonI hM) rfl rfl (Nat.le_of_ble_eq_true rfl) ?_
  refine b_if_eq 38 dX12_cell_11 (by decide) (fun c1 => ?_) (fun c1 => ?_)
  · skip
    refine b_bipush (v := -2) dX12_cell_38 (by decide) ?_
    exact b_iret dX12_cell_40 ⟨by simp [oCell, (bI_0 _).mp c1], rfl⟩
  · skip
    have c2 := (bI_1 _).mp c1
    obtain ⟨j, hj, rfl⟩ := inR_of (by omega) c2
    have hjx := ix_nI (show j < 2 ^ 31 by omega)
    refine b_aload_n dX12_cell_14 rfl ?_
    refine b_iload_n dX12_cell_15 rfl ?_
    refine g_callV [.int w] dX12_cell_16 kX12_isWorld lX12_235 a77 rfl rfl (m_isWorld hM) rfl rfl (Nat.le_of_ble_eq_true rfl) ?_
    refine b_if_eq 38 dX12_cell_19 (by decide) (fun c3 => ?_) (fun c3 => ?_)
    · skip
      refine b_bipush (v := -2) dX12_cell_38 (by decide) ?_
      exact b_iret dX12_cell_40 ⟨by simp [oCell, (bI_0 _).mp c3], rfl⟩
    · skip
      have c4 := (bI_1 _).mp c3
      obtain ⟨k, hk, rfl⟩ := inR_of (by omega) c4
      have hkx := ix_nI (show k < 2 ^ 31 by omega)
      refine b_aload_n dX12_cell_22 rfl ?_
      refine b_aload_n dX12_cell_23 rfl ?_
      refine g_get dX12_cell_24 fX12_13 a77 rfl ?_
      refine b_iconst (v := nI 5) dX12_cell_27 (by decide) ?_
      refine b_iload_n dX12_cell_28 rfl ?_
      refine b_iaddN dX12_cell_29 ?_
      refine g_iald dX12_cell_30 a78 rfl (by omega) ?_
      refine b_top (hM.told (by omega)) ?_
      refine b_iload_n dX12_cell_31 rfl ?_
      refine g_callV [.int (L.told j), .int (nI k)] dX12_cell_32 kX12_cellOf lX12_232 a77 rfl rfl (m_cellOf hM (by omega)) rfl rfl (Nat.le_of_ble_eq_true rfl) ?_
      refine b_goto 40 dX12_cell_35 (by decide) ?_
      exact b_iret dX12_cell_40 ⟨by simp [oCell, c2, c4, hjx, hkx]; rfl, rfl⟩
theorem m_X_parting {G : GT} {d : Nat} {σ : ST} {μ : SL} {L : LD} {p q : Int32} (hM : MV σ L) : Fn G (d + 3) mX12_parting [.ref (G.b0 + 77), .int p, .int q] (sh G σ μ) (Ret (some (.int (oPart L p q))) (sh G σ μ)) := by
  have hb := hM.b
  refine fn_of (ls := [some (.ref (G.b0 + 77)), some (.int p), some (.int q)]) (by decide +kernel) (Nat.le_of_ble_eq_true rfl) 0 rfl ?_
  refine b_aload_n dX12_parting_0 rfl ?_
  refine b_iconst (v := nI 0) dX12_parting_1 (by decide) ?_
  refine g_put dX12_parting_2 wX12_1 a77 tfX12_0 (Nat.le_of_ble_eq_true rfl) rfl ?_
  refine b_sig hM.t0 ?_
  refine b_aload_n dX12_parting_5 rfl ?_
  refine b_iload_n dX12_parting_6 rfl ?_
  refine b_i2l dX12_parting_7 ?_
  refine g_callV [.long p.toInt64] dX12_parting_8 kX12_isPerson lX12_245 a77 rfl rfl (m_isPersonI hM) rfl rfl (Nat.le_of_ble_eq_true rfl) ?_
  refine b_if_eq 45 dX12_parting_11 (by decide) (fun c1 => ?_) (fun c1 => ?_)
  · skip
    refine b_bipush (v := -2) dX12_parting_45 (by decide) ?_
    exact b_iret dX12_parting_47 ⟨by simp [oPart, (bI_0 _).mp c1], rfl⟩
  · skip
    have c2 := (bI_1 _).mp c1
    obtain ⟨j, hj, rfl⟩ := inR_of (by omega) c2
    have hjx := ix_nI (show j < 2 ^ 31 by omega)
    refine b_aload_n dX12_parting_14 rfl ?_
    refine b_iload_n dX12_parting_15 rfl ?_
    refine b_i2l dX12_parting_16 ?_
    refine g_callV [.long q.toInt64] dX12_parting_17 kX12_isPerson lX12_245 a77 rfl rfl (m_isPersonI hM) rfl rfl (Nat.le_of_ble_eq_true rfl) ?_
    refine b_if_eq 45 dX12_parting_20 (by decide) (fun c3 => ?_) (fun c3 => ?_)
    · skip
      refine b_bipush (v := -2) dX12_parting_45 (by decide) ?_
      exact b_iret dX12_parting_47 ⟨by simp [oPart, (bI_0 _).mp c3], rfl⟩
    · skip
      have c4 := (bI_1 _).mp c3
      obtain ⟨k, hk, rfl⟩ := inR_of (by omega) c4
      have hkx := ix_nI (show k < 2 ^ 31 by omega)
      refine b_aload_n dX12_parting_23 rfl ?_
      refine b_aload_n dX12_parting_24 rfl ?_
      refine b_iload_n dX12_parting_25 rfl ?_
      refine g_callV [.int (nI j)] dX12_parting_26 kX12_cellNow lX12_248 a77 rfl rfl (m_cellNow hM hj) rfl rfl (Nat.le_of_ble_eq_true rfl) ?_
      refine g_callV [.int (poss L j L.t)] dX12_parting_29 kX12_knownIn lX12_251 a77 rfl rfl (m_knownIn hM) rfl rfl (Nat.le_of_ble_eq_true rfl) ?_
      refine b_aload_n dX12_parting_32 rfl ?_
      refine b_aload_n dX12_parting_33 rfl ?_
      refine b_iload_n dX12_parting_34 rfl ?_
      refine g_callV [.int (nI k)] dX12_parting_35 kX12_cellNow lX12_248 a77 rfl rfl (m_cellNow hM hk) rfl rfl (Nat.le_of_ble_eq_true rfl) ?_
      refine g_callV [.int (poss L k L.t)] dX12_parting_38 kX12_knownIn lX12_251 a77 rfl rfl (m_knownIn hM) rfl rfl (Nat.le_of_ble_eq_true rfl) ?_
      refine b_ixor dX12_parting_41 ?_
      refine b_goto 47 dX12_parting_42 (by decide) ?_
      exact b_iret dX12_parting_47 ⟨by simp [oPart, c2, c4, hjx, hkx], rfl⟩
theorem wi_m {x : Int32} : (decide ((0 : Int64) ≤ x.toInt64) && decide (x.toInt64 ≤ 3)) = inR x 4 := by
  rw [← inL_R (n := 4) (by omega), ← wi_L (n := 4) (by omega)]; rfl
theorem m_X_measure {G : GT} {d : Nat} {σ : ST} {μ : SL} {L : LD} {p m : Int32} (hM : MV σ L) : Fn G (d + 4) mX12_measure [.ref (G.b0 + 77), .int p, .int m] (sh G σ μ) (Ret (some (.int (oMeas L p m))) (sh G σ μ)) := by
  have hb := hM.b
  refine fn_of (ls := [some (.ref (G.b0 + 77)), some (.int p), some (.int m)]) (by decide +kernel) (Nat.le_of_ble_eq_true rfl) 0 rfl ?_
  refine b_aload_n dX12_measure_0 rfl ?_
  refine b_iconst (v := nI 0) dX12_measure_1 (by decide) ?_
  refine g_put dX12_measure_2 wX12_1 a77 tfX12_0 (Nat.le_of_ble_eq_true rfl) rfl ?_
  refine b_sig hM.t0 ?_
  refine b_aload_n dX12_measure_5 rfl ?_
  refine b_iload_n dX12_measure_6 rfl ?_
  refine b_i2l dX12_measure_7 ?_
  refine g_callV [.long p.toInt64] dX12_measure_8 kX12_isPerson lX12_245 a77 rfl rfl (m_isPersonI hM) rfl rfl (Nat.le_of_ble_eq_true rfl) ?_
  refine b_if_eq 35 dX12_measure_11 (by decide) (fun c1 => ?_) (fun c1 => ?_)
  · skip
    refine b_bipush (v := -2) dX12_measure_35 (by decide) ?_
    exact b_iret dX12_measure_37 ⟨by simp [oMeas, (bI_0 _).mp c1], rfl⟩
  · skip
    have c2 := (bI_1 _).mp c1
    obtain ⟨j, hj, rfl⟩ := inR_of (by omega) c2
    have hjx := ix_nI (show j < 2 ^ 31 by omega)
    refine b_iload_n dX12_measure_14 rfl ?_
    refine b_i2l dX12_measure_15 ?_
    refine b_lconst (v := 0) dX12_measure_16 (by decide) ?_
    refine b_ldc2 dX12_measure_17 cvX12_289 ?_
    refine b_callSr [.long m.toInt64, .long 0, .long ((3))] dX12_measure_20 kX12_within lX12_145 c_within rfl rfl (Nat.le_of_ble_eq_true rfl) ?_
    rw [wi_m]
    refine b_if_eq 35 dX12_measure_23 (by decide) (fun c3 => ?_) (fun c3 => ?_)
    · skip
      refine b_bipush (v := -2) dX12_measure_35 (by decide) ?_
      exact b_iret dX12_measure_37 ⟨by simp [oMeas, (bI_0 _).mp c3], rfl⟩
    · skip
      have c4 := (bI_1 _).mp c3
      obtain ⟨k, hk, rfl⟩ := inR_of (by omega) c4
      have hkx := ix_nI (show k < 2 ^ 31 by omega)
      refine b_aload_n dX12_measure_26 rfl ?_
      refine b_iload_n dX12_measure_27 rfl ?_
      refine b_iload_n dX12_measure_28 rfl ?_
      refine g_callV [.int (nI j), .int (nI k)] dX12_measure_29 kX12_measureNow lX12_327 a77 rfl rfl (m_measureNow hM hk hj) rfl rfl (Nat.le_of_ble_eq_true rfl) ?_
      refine b_goto 37 dX12_measure_32 (by decide) ?_
      exact b_iret dX12_measure_37 ⟨by simp [oMeas, c2, c4, hjx, hkx], rfl⟩
theorem m_X_least {G : GT} {d : Nat} {σ : ST} {μ : SL} {L : LD} {m : Int32} (hM : MV σ L) (hK : LBk L) : Fn G (d + 4) mX12_least [.ref (G.b0 + 77), .int m] (sh G σ μ) (Ret (some (.int (oLeast L m))) (sh G σ μ)) := by
  have hb := hM.b
  refine fn_of (ls := [some (.ref (G.b0 + 77)), some (.int m)]) (by decide +kernel) (Nat.le_of_ble_eq_true rfl) 0 rfl ?_
  refine b_aload_n dX12_least_0 rfl ?_
  refine b_iconst (v := nI 0) dX12_least_1 (by decide) ?_
  refine g_put dX12_least_2 wX12_1 a77 tfX12_0 (Nat.le_of_ble_eq_true rfl) rfl ?_
  refine b_sig hM.t0 ?_
  refine b_iload_n dX12_least_5 rfl ?_
  refine b_i2l dX12_least_6 ?_
  refine b_lconst (v := 0) dX12_least_7 (by decide) ?_
  refine b_ldc2 dX12_least_8 cvX12_289 ?_
  refine b_callSr [.long m.toInt64, .long 0, .long ((3))] dX12_least_11 kX12_within lX12_145 c_within rfl rfl (Nat.le_of_ble_eq_true rfl) ?_
  rw [wi_m]
  refine b_if_eq 31 dX12_least_14 (by decide) (fun c3 => ?_) (fun c3 => ?_)
  · skip
    refine b_bipush (v := -2) dX12_least_31 (by decide) ?_
    exact b_iret dX12_least_33 ⟨by simp [oLeast, (bI_0 _).mp c3], rfl⟩
  · skip
    have c4 := (bI_1 _).mp c3
    obtain ⟨k, hk, rfl⟩ := inR_of (by omega) c4
    have hkx := ix_nI (show k < 2 ^ 31 by omega)
    refine b_aload_n dX12_least_17 rfl ?_
    refine b_iload_n dX12_least_18 rfl ?_
    refine b_aload_n dX12_least_19 rfl ?_
    refine g_get dX12_least_20 fX12_13 a77 rfl ?_
    refine b_iconst (v := nI 4) dX12_least_23 (by decide) ?_
    refine g_iald dX12_least_24 a78 rfl (by omega) ?_
    refine b_top hM.ct ?_
    refine g_callV [.int (nI k), .int (nI L.t)] dX12_least_25 kX12_leastOf lX12_294 a77 rfl rfl (m_leastOf hM hK hk (by omega)) rfl rfl (Nat.le_of_ble_eq_true rfl) ?_
    refine b_goto 33 dX12_least_28 (by decide) ?_
    exact b_iret dX12_least_33 ⟨by simp [oLeast, c4, hkx], rfl⟩
theorem m_X_seats {G : GT} {d : Nat} {σ : ST} {μ : SL} {L : LD} {p m : Int32} (hM : MV σ L) (hK : LBk L) : Fn G (d + 4) mX12_seats [.ref (G.b0 + 77), .int p, .int m] (sh G σ μ) (Ret (some (.int (oSeats L p m))) (sh G σ μ)) := by
  have hb := hM.b
  refine fn_of (ls := [some (.ref (G.b0 + 77)), some (.int p), some (.int m), none, none]) (by decide +kernel) (Nat.le_of_ble_eq_true rfl) 2 rfl ?_
  refine b_aload_n dX12_seats_0 rfl ?_
  refine b_iconst (v := nI 0) dX12_seats_1 (by decide) ?_
  refine g_put dX12_seats_2 wX12_1 a77 tfX12_0 (Nat.le_of_ble_eq_true rfl) rfl ?_
  refine b_sig hM.t0 ?_
  refine b_aload_n dX12_seats_5 rfl ?_
  refine b_iload_n dX12_seats_6 rfl ?_
  refine b_i2l dX12_seats_7 ?_
  refine g_callV [.long p.toInt64] dX12_seats_8 kX12_isPerson lX12_245 a77 rfl rfl (m_isPersonI hM) rfl rfl (Nat.le_of_ble_eq_true rfl) ?_
  refine b_if_eq 26 dX12_seats_11 (by decide) (fun c1 => ?_) (fun c1 => ?_)
  · skip
    refine b_bipush (v := -2) dX12_seats_26 (by decide) ?_
    exact b_iret dX12_seats_28 ⟨by simp [oSeats, (bI_0 _).mp c1], rfl⟩
  · skip
    have c2 := (bI_1 _).mp c1
    refine b_iload_n dX12_seats_14 rfl ?_
    refine b_i2l dX12_seats_15 ?_
    refine b_lconst (v := 0) dX12_seats_16 (by decide) ?_
    refine b_ldc2 dX12_seats_17 cvX12_289 ?_
    refine b_callSr [.long m.toInt64, .long 0, .long ((3))] dX12_seats_20 kX12_within lX12_145 c_within rfl rfl (Nat.le_of_ble_eq_true rfl) ?_
    rw [wi_m]
    refine b_if_ne 29 dX12_seats_23 (by decide) (fun c3 => ?_) (fun c3 => ?_)
    · skip
      have c4 := (bI_1 _).mp c3
      obtain ⟨k, hk, rfl⟩ := inR_of (by omega) c4
      have hkx := ix_nI (show k < 2 ^ 31 by omega)
      refine b_iconst (v := nI 0) dX12_seats_29 (by decide) ?_
      refine b_istore_n dX12_seats_30 (by decide) rfl ?_
      refine b_iconst (v := nI 0) dX12_seats_31 (by decide) ?_
      refine b_istore dX12_seats_32 (by decide) rfl ?_
      have lp : ∀ (n i : Nat), i + n = L.W → BB G RX12 cX12_seats 5 (some .int) (d + 4) (QM G (Ret (some (.int (oSeats L p (nI k)))) (sh G σ μ))) 34 [some (.ref (G.b0 + 77)), some (.int p), some (.int (nI k)), some (.int (nI (mSeat L k p i))), some (.int (nI i))] [] (sh G σ μ) := by
        intro n
        induction n with
        | zero =>
          intro i hi
          refine b_iload dX12_seats_34 rfl ?_
          refine b_aload_n dX12_seats_36 rfl ?_
          refine g_get dX12_seats_37 fX12_13 a77 rfl ?_
          refine b_iconst (v := nI 1) dX12_seats_40 (by decide) ?_
          refine g_iald dX12_seats_41 a78 rfl (by omega) ?_
          refine b_top hM.cW ?_
          refine b_icmp_ge_t 70 dX12_seats_42 (by decide) (nI_le (by omega) (by omega)) ?_
          refine b_iload_n dX12_seats_70 rfl ?_
          exact b_iret dX12_seats_71 ⟨by simp [oSeats, c2, c4, hkx, show i = L.W by omega], rfl⟩
        | succ n ih =>
          intro i hi
          refine b_iload dX12_seats_34 rfl ?_
          refine b_aload_n dX12_seats_36 rfl ?_
          refine g_get dX12_seats_37 fX12_13 a77 rfl ?_
          refine b_iconst (v := nI 1) dX12_seats_40 (by decide) ?_
          refine g_iald dX12_seats_41 a78 rfl (by omega) ?_
          refine b_top hM.cW ?_
          refine b_icmp_ge_f 70 dX12_seats_42 (by decide) (nI_ge (by omega) (by omega)) ?_
          refine b_iload_n dX12_seats_45 rfl ?_
          refine b_aload_n dX12_seats_46 rfl ?_
          refine b_iload_n dX12_seats_47 rfl ?_
          refine b_iload dX12_seats_48 rfl ?_
          refine g_callV [.int (nI k), .int (nI i)] dX12_seats_50 kX12_leastOf lX12_294 a77 rfl rfl (m_leastOf hM hK hk (by omega)) rfl rfl (Nat.le_of_ble_eq_true rfl) ?_
          refine b_iload_n dX12_seats_53 rfl ?_
          refine b_icmp_ne 61 dX12_seats_54 (by decide) (fun c5 => ?_) (fun c5 => ?_)
          · skip
            refine b_iconst (v := nI 0) dX12_seats_61 (by decide) ?_
            refine b_iaddN dX12_seats_62 ?_
            refine b_istore_n dX12_seats_63 (by decide) rfl ?_
            refine b_iinc dX12_seats_64 rfl (nI_1 _) (by decide) rfl ?_
            refine b_goto 34 dX12_seats_67 (by decide) ?_
            refine b_locs ?_ (ih (i + 1) (by omega))
            simp [mSeat, c5]; rfl
          · skip
            refine b_iconst (v := nI 1) dX12_seats_57 (by decide) ?_
            refine b_goto 62 dX12_seats_58 (by decide) ?_
            refine b_iaddN dX12_seats_62 ?_
            refine b_istore_n dX12_seats_63 (by decide) rfl ?_
            refine b_iinc dX12_seats_64 rfl (nI_1 _) (by decide) rfl ?_
            refine b_goto 34 dX12_seats_67 (by decide) ?_
            refine b_locs ?_ (ih (i + 1) (by omega))
            have c6 : lst L k L.told i = p := by simpa using c5
            simp [mSeat, c6]; rfl
      exact lp L.W 0 (by omega)
    · skip
      refine b_bipush (v := -2) dX12_seats_26 (by decide) ?_
      exact b_iret dX12_seats_28 ⟨by simp [oSeats, (bI_0 _).mp (by simpa using c3)], rfl⟩

