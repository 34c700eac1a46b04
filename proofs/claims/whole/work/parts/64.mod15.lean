/-! ===== the reference: rows of deeds ===== -/
/-- the reference's rows -/
def MR (s : ST) (μ : SL) (R : Nat → Option (Nat × Nat)) (v : Nat → Nat → Int64) : Prop := ∀ j, j < 4 → match R j with
  | none => s 96 j = -1
  | some q => s 96 j = nI q.2 ∧ s 97 j = nI q.1 ∧ q.1 ≤ 40 ∧ q.2 < 4 ∧ ∀ i, i < q.1 → μ 98 (40 * j + i) = v j i
theorem MR_no {s : ST} {μ : SL} {R : Nat → Option (Nat × Nat)} {v : Nat → Nat → Int64} {j : Nat} (h : MR s μ R v) (hj : j < 4) (hR : R j = none) : s 96 j = -1 := by have := h j hj; rw [hR] at this; exact this
theorem MR_so {s : ST} {μ : SL} {R : Nat → Option (Nat × Nat)} {v : Nat → Nat → Int64} {j : Nat} {q : Nat × Nat} (h : MR s μ R v) (hj : j < 4) (hR : R j = some q) : s 96 j = nI q.2 ∧ s 97 j = nI q.1 ∧ q.1 ≤ 40 ∧ q.2 < 4 ∧ ∀ i, i < q.1 → μ 98 (40 * j + i) = v j i := by have := h j hj; rw [hR] at this; exact this
theorem w199 {v : Int64} : (decide ((0 : Int64) ≤ v) && decide (v ≤ 199)) = true → ∃ n, n < 200 ∧ v = lN n := by
  intro h
  simp only [Bool.and_eq_true, decide_eq_true_eq] at h
  obtain ⟨h1, h2⟩ := h
  rw [Int64.le_iff_toInt_le] at h1 h2
  have e0 : (0 : Int64).toInt = 0 := by decide
  have e9 : (199 : Int64).toInt = 199 := by decide
  rw [e0] at h1
  rw [e9] at h2
  refine ⟨v.toInt.toNat, by omega, ?_⟩
  apply Int64.toInt_inj.mp
  rw [lN_toInt (by omega)]; omega
theorem deed_no {F P : Nat} {v : Int64} (h1 : ¬ v = -1) (h : (decide ((0 : Int64) ≤ v) && decide (v ≤ 199)) = false) : mDeed F P v = false := by
  unfold mDeed
  rw [decide_eq_false h1, Bool.false_or]
  by_cases a : 0 ≤ v.toInt
  · by_cases b : v.toInt < 200
    · have e0 : (0 : Int64).toInt = 0 := by decide
      have e9 : (199 : Int64).toInt = 199 := by decide
      have : (decide ((0 : Int64) ≤ v) && decide (v ≤ 199)) = true := by
        simp only [Bool.and_eq_true, decide_eq_true_eq]
        exact ⟨by rw [Int64.le_iff_toInt_le, e0]; exact a, by rw [Int64.le_iff_toInt_le, e9]; omega⟩
      rw [this] at h; exact absurd h (by simp)
    · rw [decide_eq_false b]; simp
  · rw [decide_eq_false a]; simp
theorem inL_lN {a n : Nat} (ha : a < 2 ^ 31) (hn : n < 2 ^ 31) : inL (lN a) n = decide (a < n) := by
  unfold inL
  rw [decide_eq_true (show (0 : Int64) ≤ lN a by rw [Int64.le_iff_toInt_le, lN_toInt ha]; exact Int.natCast_nonneg a), Bool.true_and, decide_eq_decide]
  exact lN_lt ha hn
def PDd (G : GT) (μ : SL) (σ s : ST) (L : LD) (v : Nat → Int64) (k : Nat) : Option Value → HT → Prop := fun r h' => r = some (.int (nI k)) ∧ ∃ s' : ST, h' = sh G s' μ ∧ S0 σ s' ∧ MV s' (stT L (mDd L v L.told k)) ∧ s' 77 22 = nI (mDdK L v L.told k) ∧ (k = 0 → s' 78 = s 78)
set_option maxHeartbeats 4000000 in
theorem m_doesAll {G : GT} {d : Nat} {σ s : ST} {μ : SL} {L : LD} {j len : Nat} {v : Nat → Int64} (hS : S0 σ s) (hM : MV s L) (hj : j < 4) (hlen : s 97 j = nI len) (hl40 : len ≤ 40) (hv : ∀ i, i < len → μ 98 (40 * j + i) = v i) : Fn G (d + 5) mX12_doesAll [.ref (G.b0 + 77), .int (nI j)] (sh G s μ) (PDd G μ σ s L v (mAble L.F L.P v len)) := by
  have hb := hM.b
  refine fn_of (ls := [some (.ref (G.b0 + 77)), some (.int (nI j)), none, none, none, none, none, none, none]) (by decide +kernel) (Nat.le_of_ble_eq_true rfl) 7 rfl ?_
  refine b_aload_n dX12_doesAll_0 rfl ?_
  refine b_iconst (v := nI 0) dX12_doesAll_1 (by decide) ?_
  refine g_put dX12_doesAll_2 wX12_278 a77 tfX12_22 (Nat.le_of_ble_eq_true rfl) rfl ?_
  refine b_iconst (v := nI 0) dX12_doesAll_5 (by decide) ?_
  refine b_istore_n dX12_doesAll_6 (by decide) rfl ?_
  have lp : ∀ (n i : Nat) (s1 : ST) (z3 z5 z7 : Option Value), i + n = len → S0 σ s1 → MV s1 (stT L (mDd L v L.told i)) → s1 77 22 = nI (mDdK L v L.told i) → (i = 0 → s1 78 = s 78) → mAbleF L.F L.P v n i = mAble L.F L.P v len → (∃ w, z7 = none ∨ z7 = some (.long w)) → (∃ w, z5 = none ∨ z5 = some (.long w)) → (∃ w, z3 = none ∨ z3 = some (.long w)) → BB G RX12 cX12_doesAll 9 (some .int) (d + 5) (QM G (PDd G μ σ s L v (mAble L.F L.P v len))) 7 [some (.ref (G.b0 + 77)), some (.int (nI j)), some (.int (nI i)), z3, none, z5, none, z7, none] [] (sh G s1 μ) := by
    intro n
    induction n with
    | zero =>
      intro i s1 z3 z5 z7 hi hS1 hM1 hk1 h78 he q7 q5 q3
      have h97 : s1 97 j = nI len := by rw [hS1.2.1 97 (by omega) (by omega) (by omega) (by omega), ← hS.2.1 97 (by omega) (by omega) (by omega) (by omega)]; exact hlen
      have he' : i = mAble L.F L.P v len := he
      refine b_iload_n dX12_doesAll_7 rfl ?_
      refine b_aload_n dX12_doesAll_8 rfl ?_
      refine g_get dX12_doesAll_9 fX12_76 a77 rfl ?_
      refine b_iload_n dX12_doesAll_12 rfl ?_
      refine g_iald dX12_doesAll_13 a97 rfl (by omega) ?_
      refine b_top h97 ?_
      refine b_icmp_ge_t 148 dX12_doesAll_14 (by decide) (nI_le (by omega) (by omega)) ?_
      refine b_aload_n dX12_doesAll_148 rfl ?_
      refine g_get dX12_doesAll_149 fX12_76 a77 rfl ?_
      refine b_iload_n dX12_doesAll_152 rfl ?_
      refine g_iald dX12_doesAll_153 a97 rfl (by omega) ?_
      refine b_top h97 ?_
      exact b_iret dX12_doesAll_154 ⟨by rw [← he', show i = len by omega], s1, rfl, hS1, by rw [← he']; exact hM1, by rw [← he']; exact hk1, fun z => h78 (by omega)⟩
    | succ n ih =>
      intro i s1 z3 z5 z7 hi hS1 hM1 hk1 h78 he q7 q5 q3
      have h97 : s1 97 j = nI len := by rw [hS1.2.1 97 (by omega) (by omega) (by omega) (by omega), ← hS.2.1 97 (by omega) (by omega) (by omega) (by omega)]; exact hlen
      have hvi := hv i (by omega)
      have hkb : mDdK L v L.told i ≤ i := by
        have : ∀ m, mDdK L v L.told m ≤ m := by
          intro m
          induction m with
          | zero => exact Nat.le_refl _
          | succ m ihm => rw [mDdK]; split <;> omega
        exact this i
      rw [mAbleF] at he
      refine b_iload_n dX12_doesAll_7 rfl ?_
      refine b_aload_n dX12_doesAll_8 rfl ?_
      refine g_get dX12_doesAll_9 fX12_76 a77 rfl ?_
      refine b_iload_n dX12_doesAll_12 rfl ?_
      refine g_iald dX12_doesAll_13 a97 rfl (by omega) ?_
      refine b_top h97 ?_
      refine b_icmp_ge_f 148 dX12_doesAll_14 (by decide) (nI_ge (by omega) (by omega)) ?_
      refine b_aload_n dX12_doesAll_17 rfl ?_
      refine g_get dX12_doesAll_18 fX12_79 a77 rfl ?_
      refine b_bipush (v := nI 40) dX12_doesAll_21 (by decide) ?_
      refine b_iload_n dX12_doesAll_23 rfl ?_
      refine b_imulN dX12_doesAll_24 ?_
      refine b_iload_n dX12_doesAll_25 rfl ?_
      refine b_iaddN dX12_doesAll_26 ?_
      refine g_lald dX12_doesAll_27 a98 rfl (by omega) ?_
      refine b_topJ hvi ?_
      refine b_lstore_n dX12_doesAll_28 (by decide) rfl ?_
      refine b_lload_n dX12_doesAll_29 rfl ?_
      refine b_ldc2 dX12_doesAll_30 cvX12_281 ?_
      refine b_lcmp dX12_doesAll_33 ?_
      refine b_if_ne 45 dX12_doesAll_34 (by decide) (fun c1 => ?_) (fun c1 => ?_)
      · skip
        have d1 : ¬ v i = -1 := fun z => c1 ((lg_cmp_eq _ _).mpr z)
        refine b_lload_n dX12_doesAll_45 rfl ?_
        refine b_ldc2 dX12_doesAll_46 cvX12_283 ?_
        refine b_lrem dX12_doesAll_49 (by decide) ?_
        refine b_ldc2 dX12_doesAll_50 cvX12_285 ?_
        refine b_ldiv dX12_doesAll_53 (by decide) ?_
        refine b_lstore dX12_doesAll_54 (by decide) rfl ?_
        refine b_lload_n dX12_doesAll_56 rfl ?_
        refine b_ldc2 dX12_doesAll_57 cvX12_285 ?_
        refine b_lrem dX12_doesAll_60 (by decide) ?_
        refine b_lstore dX12_doesAll_61 (by decide) rfl ?_
        refine b_lload_n dX12_doesAll_63 rfl ?_
        refine b_lconst (v := 0) dX12_doesAll_64 (by decide) ?_
        refine b_ldc2 dX12_doesAll_65 cvX12_287 ?_
        refine b_callSr [.long (v i), .long 0, .long ((199))] dX12_doesAll_68 kX12_within lX12_145 c_within rfl rfl (Nat.le_of_ble_eq_true rfl) ?_
        refine b_if_eq 92 dX12_doesAll_71 (by decide) (fun c2 => ?_) (fun c2 => ?_)
        · skip
          have d2 : mDeed L.F L.P (v i) = false := deed_no d1 ((bI_0 _).mp c2)
          rw [d2] at he
          have he' : i = mAble L.F L.P v len := by simpa using he
          refine b_iload_n dX12_doesAll_92 rfl ?_
          exact b_iret dX12_doesAll_93 ⟨by rw [← he'], s1, rfl, hS1, by rw [← he']; exact hM1, by rw [← he']; exact hk1, fun z => h78 (by omega)⟩
        · skip
          obtain ⟨m, hm, em⟩ := w199 ((bI_1 _).mp c2)
          have ep : v i - v i / 100 * 100 = lN (m % 100) := by rw [em]; exact pk_lRem (a := m) (b := 100) (by omega) (by omega) (by omega)
          have ep2 : (v i - v i / 100 * 100) / 10 = lN (m % 100 / 10) := by rw [ep]; exact pk_lDiv (a := m % 100) (b := 10) (by omega) (by omega) (by omega)
          have ef : v i - v i / 10 * 10 = lN (m % 10) := by rw [em]; exact pk_lRem (a := m) (b := 10) (by omega) (by omega) (by omega)
          rw [ep2, ef]
          have dd : mDeed L.F L.P (v i) = (decide (m < 200) && decide (m % 100 / 10 < L.P) && decide (m % 10 < L.F)) := by rw [em]; exact mDeed_lN _ _ _ (by omega)
          rw [decide_eq_true hm, Bool.true_and] at dd
          refine b_aload_n dX12_doesAll_74 rfl ?_
          refine b_lload dX12_doesAll_75 rfl ?_
          refine g_callV [.long (lN (m % 100 / 10))] dX12_doesAll_77 kX12_isPerson lX12_245 a77 rfl rfl (m_isPerson (v := lN (m % 100 / 10)) hM1) rfl rfl (Nat.le_of_ble_eq_true rfl) ?_
          rw [inL_lN (by omega) (show L.P < 2 ^ 31 by omega)]
          refine b_if_eq 92 dX12_doesAll_80 (by decide) (fun c3 => ?_) (fun c3 => ?_)
          · skip
            have d3 := (bI_0 _).mp c3
            rw [d3, Bool.false_and] at dd
            rw [dd] at he
            have he' : i = mAble L.F L.P v len := by simpa using he
            refine b_iload_n dX12_doesAll_92 rfl ?_
            exact b_iret dX12_doesAll_93 ⟨by rw [← he'], s1, rfl, hS1, by rw [← he']; exact hM1, by rw [← he']; exact hk1, fun z => h78 (by omega)⟩
          · skip
            have d3 := (bI_1 _).mp c3
            have hp : m % 100 / 10 < L.P := by simpa using d3
            refine b_aload_n dX12_doesAll_83 rfl ?_
            refine b_lload dX12_doesAll_84 rfl ?_
            refine g_callV [.long (lN (m % 10))] dX12_doesAll_86 kX12_isFact lX12_241 a77 rfl rfl (m_isFact (v := lN (m % 10)) hM1) rfl rfl (Nat.le_of_ble_eq_true rfl) ?_
            rw [inL_lN (by omega) (show L.F < 2 ^ 31 by omega)]
            refine b_if_ne 94 dX12_doesAll_89 (by decide) (fun c4 => ?_) (fun c4 => ?_)
            · skip
              have d4 := (bI_1 _).mp c4
              have hf : m % 10 < L.F := by simpa using d4
              rw [d3, d4] at dd
              rw [dd] at he
              have he' : mAbleF L.F L.P v n (i + 1) = mAble L.F L.P v len := by simpa using he
              have ex : (v i).toInt32 = nI m := by rw [em]; exact lN_i m
              have eix : ix (v i).toInt32 = m := by rw [ex]; exact ix_nI (by omega)
              have en : ¬ (v i).toInt32 = -1 := by rw [ex]; exact nI_m1 (by omega)
              generalize hpg : m % 100 / 10 = p at *
              generalize hfg : m % 10 = f at *
              have lNp : (lN p).toInt32 = nI p := lN_i p
              have lNf : (lN f).toInt32 = nI f := lN_i f
              refine b_lload_n dX12_doesAll_94 rfl ?_
              refine b_ldc2 dX12_doesAll_95 cvX12_283 ?_
              refine b_lcmp dX12_doesAll_98 ?_
              refine b_if_ge 123 dX12_doesAll_99 (by decide) (fun c5 => ?_) (fun c5 => ?_)
              · skip
                have d5 : ¬ m < 100 := fun z => by
                  have h1 : ¬ lN 100 ≤ lN m := fun w => by have := (lN_le (by omega) (by omega)).mp w; omega
                  exact h1 (by rw [← em]; exact (lg_cmp_ge _ _).mp c5)
                have eD : mDd L v L.told (i + 1) = fun q => if q = p then mDd L v L.told i p ||| L.hint f else mDd L v L.told i q := by
                  rw [mDd, mDn, if_neg en, eix, if_neg d5, hpg, hfg]
                have eK : mDdK L v L.told (i + 1) = mDdK L v L.told i + if mKn (L.hold f) (poss (stT L (mDd L v L.told i)) p L.t) then 1 else 0 := by
                  rw [mDdK, mDnK, if_neg en, eix, if_neg d5, hpg, hfg]; rfl
                refine b_aload_n dX12_doesAll_123 rfl ?_
                refine b_dup dX12_doesAll_124 rfl ?_
                refine g_geti (x := nI (mDdK L v L.told i)) dX12_doesAll_125 fX12_278 a77 rfl hk1 ?_
                refine b_aload_n dX12_doesAll_128 rfl ?_
                refine b_lload dX12_doesAll_129 rfl ?_
                refine b_l2i dX12_doesAll_131 ?_
                refine b_lload dX12_doesAll_132 rfl ?_
                refine b_l2i dX12_doesAll_134 ?_
                rw [lNp, lNf]
                refine g_callV [.int (nI p), .int (nI f)] dX12_doesAll_135 kX12_asks lX12_269 a77 rfl rfl (m_asks hM1 hp hf) rfl rfl (Nat.le_of_ble_eq_true rfl) ?_
                refine b_iadd dX12_doesAll_138 ?_
                refine g_put dX12_doesAll_139 wX12_278 a77 tfX12_22 (Nat.le_of_ble_eq_true rfl) rfl ?_
                refine b_iinc dX12_doesAll_142 rfl (nI_1 _) (by decide) rfl ?_
                refine b_goto 7 dX12_doesAll_145 (by decide) ?_
                refine ih (i + 1) _ _ _ _ (by omega) (S0_77 (S0_pt hS1 (by omega) (by omega)) (Or.inl rfl)) ?_ ?_ (fun z => absurd z (by omega)) he' ⟨_, Or.inr rfl⟩ ⟨_, Or.inr rfl⟩ ⟨_, Or.inr rfl⟩
                · rw [eD]; exact MV_77 (MV_pt hM1 (by omega)) (by omega)
                · rw [pt_s, eK]
                  cases mKn (L.hold f) (poss (stT L (mDd L v L.told i)) p L.t)
                  · show _ + nI 0 = _; rw [nI_add]; rfl
                  · show _ + nI 1 = _; rw [nI_add]; rfl
              · skip
                have d5 : m < 100 := by
                  rcases Nat.lt_or_ge m 100 with q | q
                  · exact q
                  · exact absurd ((lg_cmp_ge _ _).mpr (by rw [em]; exact (lN_le (a := 100) (by omega) (by omega)).mpr q)) c5
                have eD : mDd L v L.told (i + 1) = fun q => if q = p then mDd L v L.told i p ||| (nI 1 <<< (nI f &&& 31)) else mDd L v L.told i q := by
                  rw [mDd, mDn, if_neg en, eix, if_pos d5, hpg, hfg]
                have eK : mDdK L v L.told (i + 1) = mDdK L v L.told i := by
                  rw [mDdK, mDnK, if_neg en, eix, if_pos d5]; rfl
                refine b_aload_n dX12_doesAll_102 rfl ?_
                refine g_get dX12_doesAll_103 fX12_13 a77 rfl ?_
                refine b_iconst (v := nI 5) dX12_doesAll_106 (by decide) ?_
                refine b_lload dX12_doesAll_107 rfl ?_
                refine b_l2i dX12_doesAll_109 ?_
                refine b_top lNp ?_
                refine b_iaddN dX12_doesAll_110 ?_
                refine b_dup2 dX12_doesAll_111 rfl rfl ?_
                refine g_iald dX12_doesAll_112 a78 rfl (by omega) ?_
                refine b_top (show s1 78 (5 + p) = mDd L v L.told i p from hM1.told (p := p) hp) ?_
                refine b_iconst (v := nI 1) dX12_doesAll_113 (by decide) ?_
                refine b_lload dX12_doesAll_114 rfl ?_
                refine b_l2i dX12_doesAll_116 ?_
                refine b_top lNf ?_
                refine b_ishl dX12_doesAll_117 ?_
                refine b_ior dX12_doesAll_118 ?_
                refine g_iast dX12_doesAll_119 a78 rfl (by omega) ?_
                refine b_goto 142 dX12_doesAll_120 (by decide) ?_
                refine b_iinc dX12_doesAll_142 rfl (nI_1 _) (by decide) rfl ?_
                refine b_goto 7 dX12_doesAll_145 (by decide) ?_
                refine ih (i + 1) _ _ _ _ (by omega) (S0_pt hS1 (by omega) (by omega)) ?_ ?_ (fun z => absurd z (by omega)) he' ⟨_, Or.inr rfl⟩ ⟨_, Or.inr rfl⟩ ⟨_, Or.inr rfl⟩
                · rw [eD]; exact MV_pt hM1 (by omega)
                · rw [pt_a (by omega), eK]; exact hk1
            · skip
              have d4 := (bI_0 _).mp c4
              rw [d4, Bool.and_false] at dd
              rw [dd] at he
              have he' : i = mAble L.F L.P v len := by simpa using he
              refine b_iload_n dX12_doesAll_92 rfl ?_
              exact b_iret dX12_doesAll_93 ⟨by rw [← he'], s1, rfl, hS1, by rw [← he']; exact hM1, by rw [← he']; exact hk1, fun z => h78 (by omega)⟩
      · skip
        have d1 : v i = -1 := (lg_cmp_eq _ _).mp c1
        have dd : mDeed L.F L.P (v i) = true := by rw [d1]; unfold mDeed; simp
        rw [dd] at he
        have he' : mAbleF L.F L.P v n (i + 1) = mAble L.F L.P v len := by simpa using he
        have ex : (v i).toInt32 = -1 := by rw [d1]; decide
        have eD : mDd L v L.told (i + 1) = mNext L.road (mDd L v L.told i) L.P := by rw [mDd, mDn, if_pos ex]
        have eK : mDdK L v L.told (i + 1) = mDdK L v L.told i := by rw [mDdK, mDnK, if_pos ex]; rfl
        refine b_aload_n dX12_doesAll_37 rfl ?_
        refine g_callVp [] dX12_doesAll_38 kX12_daysOne lX12_274 a77 rfl rfl (m_daysOne hM1) rfl rfl (Nat.le_of_ble_eq_true rfl) ?_
        rintro r h9 ⟨rfl, s2, rfl, hD⟩
        refine b_pop dX12_doesAll_41 rfl ?_
        refine b_goto 142 dX12_doesAll_42 (by decide) ?_
        refine b_iinc dX12_doesAll_142 rfl (nI_1 _) (by decide) rfl ?_
        refine b_goto 7 dX12_doesAll_145 (by decide) ?_
        refine ih (i + 1) s2 _ _ _ (by omega) (S0_day hS1 hD) ?_ ?_ (fun z => absurd z (by omega)) he' q7 q5 ⟨_, Or.inr rfl⟩
        · rw [eD]; exact hD.2.2
        · rw [hD.1 77 (by omega) (by omega), eK]; exact hk1
  refine lp len 0 _ none none none (by omega) (S0_77 hS (Or.inl rfl)) (MV_77 hM (by omega)) (pt_s _ _ _ _) (fun _ => pt_r (by omega)) rfl ⟨0, Or.inl rfl⟩ ⟨0, Or.inl rfl⟩ ⟨0, Or.inl rfl⟩

