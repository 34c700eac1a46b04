/-! ===== the reference: trial ===== -/
def k95 (c : Nat) : Prop := c = 95
theorem mFirst_cg {c c' : Nat → Bool} : ∀ n i, (∀ k, i ≤ k → k < i + n → c k = c' k) → mFirst c n i = mFirst c' n i
  | 0, _, _ => rfl
  | n + 1, i, h => by rw [mFirst, mFirst, h i (Nat.le_refl _) (by omega), mFirst_cg n (i + 1) (fun k a b => h k (by omega) (by omega))]
theorem mTrM_hit {g : Int32 → Nat} {hold : Nat → Int32} {q : Int32} : ∀ n, mTrM g hold q n < 100 → ∃ f, f < n ∧ mTrB g hold q f = mTrM g hold q n
  | 0, h => absurd h (by simp [mTrM])
  | n + 1, h => by
    rw [mTrM] at h ⊢
    by_cases c : mTrB g hold q n ≤ mTrM g hold q n
    · exact ⟨n, by omega, by omega⟩
    · obtain ⟨f, h1, h2⟩ := mTrM_hit (g := g) (hold := hold) (q := q) n (by omega)
      exact ⟨f, by omega, by omega⟩
theorem c99_i {a b : Nat} (ha : a ≤ 9 ∨ a = 100) (hb : b ≤ 9 ∨ b = 100) : c99 a = c99 b ↔ a = b := by
  unfold c99
  constructor
  · intro h; split at h <;> split at h <;> omega
  · intro h; rw [h]
theorem tB_7 {L : LD} (hF : L.F ≤ 8) {q : Int32} {f : Nat} (hf : f < L.F) : mTrB (mTr L.hold L.gl L.F 7) L.hold q f = mTrB (tT L 8) L.hold q f := by
  refine mTrB_cg (fun hk => ⟨(tT_st 7 _ ?_).symm, (tT_st 7 _ ?_).symm⟩)
  · have := npF_lt (L := L) hk (kn_own (q := q)) L.F hf; have := np_8 hF q; unfold np at this ⊢; omega
  · have := npF_lt (L := L) hk (kn_own' (q := q)) L.F hf; have := np_8 hF q; unfold np at this ⊢; omega
theorem m_X_trial {G : GT} {d : Nat} {σ : ST} {μ : SL} {L : LD} {p x : Int32} (hM : MV σ L) : Fn G (d + 19) mX12_trial [.ref (G.b0 + 77), .int p, .int x] (sh G σ μ) (PFK G μ k95 σ (oTrial L p x)) := by
  have hb := hM.b
  have hpw : 2 ^ L.W ≤ 65536 := Nat.le_trans (Nat.pow_le_pow_right (by omega) hb.1) (by decide)
  have hpw0 : 0 < 2 ^ L.W := Nat.pow_pos (by omega)
  refine fn_of (ls := [some (.ref (G.b0 + 77)), some (.int p), some (.int x), none, none, none]) (by decide +kernel) (Nat.le_of_ble_eq_true rfl) 3 rfl ?_
  refine b_aload_n dX12_trial_0 rfl ?_
  refine b_iconst (v := nI 0) dX12_trial_1 (by decide) ?_
  refine g_put dX12_trial_2 wX12_1 a77 tfX12_0 (Nat.le_of_ble_eq_true rfl) rfl ?_
  refine b_sig hM.t0 ?_
  refine b_aload_n dX12_trial_5 rfl ?_
  refine b_iload_n dX12_trial_6 rfl ?_
  refine b_i2l dX12_trial_7 ?_
  refine g_callV [.long p.toInt64] dX12_trial_8 kX12_isPerson lX12_245 a77 rfl rfl (m_isPersonI hM) rfl rfl (Nat.le_of_ble_eq_true rfl) ?_
  refine b_if_eq 24 dX12_trial_11 (by decide) (fun c1 => ?_) (fun c1 => ?_)
  · skip
    refine b_bipush (v := -2) dX12_trial_24 (by decide) ?_
    exact b_iret dX12_trial_26 ⟨by simp [oTrial, (bI_0 _).mp c1], σ, rfl, FK_r _ σ⟩
  · skip
    have c2 := (bI_1 _).mp c1
    obtain ⟨j, hj, rfl⟩ := inR_of (by omega) c2
    have hjx := ix_nI (show j < 2 ^ 31 by omega)
    refine b_iload_n dX12_trial_14 rfl ?_
    refine b_i2l dX12_trial_15 ?_
    refine b_lconst (v := 0) dX12_trial_16 (by decide) ?_
    refine b_lconst (v := 1) dX12_trial_17 (by decide) ?_
    refine b_callSr [.long x.toInt64, .long 0, .long 1] dX12_trial_18 kX12_within lX12_145 c_within rfl rfl (Nat.le_of_ble_eq_true rfl) ?_
    rw [wi_2]
    refine b_if_ne 27 dX12_trial_21 (by decide) (fun c3 => ?_) (fun c3 => ?_)
    · skip
      have c4 := (bI_1 _).mp c3
      obtain ⟨y, hy, rfl⟩ := inR_of (by omega) c4
      have hyx := ix_nI (show y < 2 ^ 31 by omega)
      refine b_aload_n dX12_trial_27 rfl ?_
      refine g_get dX12_trial_28 fX12_13 a77 rfl ?_
      refine b_iconst (v := nI 1) dX12_trial_31 (by decide) ?_
      refine g_iald dX12_trial_32 a78 rfl (by omega) ?_
      refine b_top hM.cW ?_
      refine b_if_ne 39 dX12_trial_33 (by decide) (fun c5 => ?_) (fun c5 => ?_)
      · skip
        have h0 : ¬ L.W = 0 := fun z => c5 (by rw [z]; rfl)
        generalize hq : poss L j L.t = q
        have hqlo : lo L.W q := by rw [← hq]; exact lo_poss (by omega) L.F
        have eo : oTrial L (nI j) (nI y) = if y = 0 then mNev (tT L 8 q) else if tT L 8 q < 100 then (if tT L 8 q = 0 then -1 else mFirst (fun f => decide (mTrB (mTr L.hold L.gl L.F 7) L.hold q f = tT L 8 q)) L.F 0) else -1 := by
          simp [oTrial, c2, c4, hjx, hyx, h0, hq]
        generalize hv : oTrial L (nI j) (nI y) = rv at eo ⊢
        have hT := tT_v (L := L) 8 q
        refine b_iconst (v := nI 0) dX12_trial_39 (by decide) ?_
        refine b_istore_n dX12_trial_40 (by decide) rfl ?_
        have fin : ∀ (s : ST), (∀ c, c ≠ 95 → s c = σ c) → WMm s L → ∀ z3, BB G RX12 cX12_trial 6 (some .int) (d + 19) (QM G (PFK G μ k95 σ rv)) 62 [some (.ref (G.b0 + 77)), some (.int (nI j)), some (.int (nI y)), some (.int z3), none, none] [] (sh G s μ) := by
          intro s hs hW z3
          have hMs : MV s L := MV_of hM (by rw [hs 77 (by omega)]) (hs 78 (by omega))
          have fk : ∀ s', (∀ c, c ≠ 95 → s' c = s c) → FK k95 σ s' := fun s' h => ⟨fun c g1 _ _ _ => (h c g1).trans (hs c g1), fun q' _ _ => by rw [h 77 (by omega), hs 77 (by omega)]⟩
          refine b_aload_n dX12_trial_62 rfl ?_
          refine b_iload_n dX12_trial_63 rfl ?_
          refine g_callV [.int (nI j)] dX12_trial_64 kX12_cellNow lX12_248 a77 rfl rfl (m_cellNow hMs hj) rfl rfl (Nat.le_of_ble_eq_true rfl) ?_
          refine b_top hq ?_
          refine b_istore_n dX12_trial_67 (by decide) rfl ?_
          refine b_aload_n dX12_trial_68 rfl ?_
          refine b_iload_n dX12_trial_69 rfl ?_
          refine g_callVp [.int q] dX12_trial_70 kX12_worstOf lX12_366 a77 rfl rfl (Fn.dup (show d + 2 * 8 + 2 = d + 18 by omega) (m_worstOf (G := G) (μ := μ) hb.2.1 hb.1 8 d s q (np_8 hb.2.1 q) hqlo hMs hW)) rfl rfl (Nat.le_of_ble_eq_true rfl) ?_
          rintro r h9 ⟨rfl, s1, rfl, hs1, hW1⟩
          have hMs1 : MV s1 L := MV_of hMs (by rw [hs1 77 (by omega)]) (hs1 78 (by omega))
          have wl := wv_le (L := L) q
          have wc : wv L q = c99 (tT L 8 q) := rfl
          refine b_istore dX12_trial_73 (by decide) rfl ?_
          refine b_iload dX12_trial_75 rfl ?_
          refine b_bipush (v := nI 99) dX12_trial_77 (by decide) ?_
          refine b_icmp_ne 84 dX12_trial_79 (by decide) (fun c6 => ?_) (fun c6 => ?_)
          · skip
            have d6 : ¬ wv L q = 99 := fun z => c6 (by rw [z])
            have t8 : tT L 8 q ≤ 8 := by
              rcases hT with h | h
              · exact h
              · exact absurd (by rw [wc, h]; rfl) d6
            have we : wv L q = tT L 8 q := by rw [wc]; unfold c99; rw [if_neg (by omega)]
            refine b_iload_n dX12_trial_84 rfl ?_
            refine b_if_eq 93 dX12_trial_85 (by decide) (fun c7 => ?_) (fun c7 => ?_)
            · skip
              have d7 : y = 0 := nI_z (by omega) c7
              refine b_iload_n dX12_trial_93 rfl ?_
              refine b_if_ne_f 102 dX12_trial_94 (by decide) (by rw [d7]; rfl) ?_
              refine b_iload dX12_trial_97 rfl ?_
              refine b_goto 103 dX12_trial_99 (by decide) ?_
              exact b_iret dX12_trial_103 ⟨by rw [eo, if_pos d7, mNev, if_pos (by omega), we], s1, rfl, fk s1 hs1⟩
            · skip
              have d7 : ¬ y = 0 := fun z => c7 (by rw [z]; rfl)
              refine b_iload dX12_trial_88 rfl ?_
              refine b_if_ne 104 dX12_trial_90 (by decide) (fun c8 => ?_) (fun c8 => ?_)
              · skip
                have d8 : ¬ tT L 8 q = 0 := fun z => c8 (by rw [we, z]; rfl)
                refine b_iconst (v := nI 0) dX12_trial_104 (by decide) ?_
                refine b_istore dX12_trial_105 (by decide) rfl ?_
                have er : rv = mFirst (fun f => decide (wB L q f = wv L q)) L.F 0 := by
                  rw [eo, if_neg d7, if_pos (by omega), if_neg d8]
                  refine mFirst_cg _ _ (fun f h1 h2 => ?_)
                  rw [decide_eq_decide, tB_7 hb.2.1 (by omega), wc]
                  unfold wB
                  rw [c99_i (wB_v q f) (by omega)]
                have hkn : mKn L.gl q = false := by
                  cases h : mKn L.gl q
                  · rfl
                  · exact absurd (by rw [tT_rec hb.2.1, h]; rfl) d8
                obtain ⟨f0, hf0, ef0⟩ : ∃ f, f < L.F ∧ wB L q f = wv L q := by
                  have h1 : tT L 8 q = mTrM (tT L 8) L.hold q L.F := by rw [tT_rec hb.2.1, hkn]; rfl
                  obtain ⟨f, a, b⟩ := mTrM_hit L.F (show mTrM (tT L 8) L.hold q L.F < 100 by rw [← h1]; omega)
                  exact ⟨f, a, by unfold wB; rw [b, ← h1]; exact wc.symm⟩
                have lp : ∀ (n i : Nat) (s2 : ST), i + n = L.F → i ≤ f0 → (∀ c, c ≠ 95 → s2 c = s c) → WMm s2 L → mFirst (fun f => decide (wB L q f = wv L q)) n i = rv → BB G RX12 cX12_trial 6 (some .int) (d + 19) (QM G (PFK G μ k95 σ rv)) 107 [some (.ref (G.b0 + 77)), some (.int (nI j)), some (.int (nI y)), some (.int q), some (.int (nI (wv L q))), some (.int (nI i))] [] (sh G s2 μ) := by
                  intro n
                  induction n with
                  | zero => intro i s2 hi hif; omega
                  | succ n ihn =>
                    intro i s2 hi hif hs2 hW2 he
                    have hM2 : MV s2 L := MV_of hMs (by rw [hs2 77 (by omega)]) (hs2 78 (by omega))
                    have bB : wB L q i ≤ 99 := by unfold wB c99; have := wB_v (L := L) q i; split <;> omega
                    rw [mFirst] at he
                    refine b_aload_n dX12_trial_107 rfl ?_
                    refine b_iload_n dX12_trial_108 rfl ?_
                    refine b_iload dX12_trial_109 rfl ?_
                    refine g_callVp [.int q, .int (nI i)] dX12_trial_111 kX12_worstBy lX12_363 a77 rfl rfl (Fn.dup (show d + 1 + 2 * 8 + 1 = d + 18 by omega) (m_worstBy (G := G) (μ := μ) (d := d + 1) (k := 8) (fun k' _ => m_worstOf hb.2.1 hb.1 k') (np_8 hb.2.1 q) (show i < L.F by omega) hqlo hM2 hW2)) rfl rfl (Nat.le_of_ble_eq_true rfl) ?_
                    rintro r h9 ⟨rfl, s3, rfl, hs3, hW3⟩
                    refine b_iload dX12_trial_114 rfl ?_
                    have hs4 : ∀ c, c ≠ 95 → s3 c = s c := fun c h => (hs3 c h).trans (hs2 c h)
                    refine b_icmp_eq 125 dX12_trial_116 (by decide) (fun c9 => ?_) (fun c9 => ?_)
                    · skip
                      have d9 : wB L q i = wv L q := by rw [nI_eq (by omega) (by omega)] at c9; exact c9
                      rw [if_pos (by simp [d9])] at he
                      refine b_iload dX12_trial_125 rfl ?_
                      exact b_iret dX12_trial_127 ⟨by rw [← he], s3, rfl, fk s3 hs4⟩
                    · skip
                      have d9 : ¬ wB L q i = wv L q := fun z => c9 (by rw [z])
                      rw [if_neg (by simp [d9])] at he
                      refine b_iinc dX12_trial_119 rfl (nI_1 _) (by decide) rfl ?_
                      refine b_goto 107 dX12_trial_122 (by decide) ?_
                      refine ihn (i + 1) s3 (by omega) ?_ hs4 hW3 he
                      rcases Nat.lt_or_ge i f0 with z | z
                      · omega
                      · exact absurd ef0 (by rw [show f0 = i by omega]; exact d9)
                exact lp L.F 0 s1 (by omega) (by omega) hs1 hW1 er.symm
              · skip
                have d8 : tT L 8 q = 0 := by rw [← we]; exact nI_z (by omega) c8
                refine b_iload_n dX12_trial_93 rfl ?_
                refine b_if_ne_t 102 dX12_trial_94 (by decide) (nI_ne0 (by omega) (by omega)) ?_
                refine b_iconst (v := -1) dX12_trial_102 (by decide) ?_
                exact b_iret dX12_trial_103 ⟨by rw [eo, if_neg d7, if_pos (by omega), if_pos d8], s1, rfl, fk s1 hs1⟩
          · skip
            have d6 : wv L q = 99 := by rw [nI_eq (by omega) (by omega)] at c6; exact c6
            have t8 : tT L 8 q = 100 := by
              rcases hT with h | h
              · rw [wc] at d6; unfold c99 at d6; rw [if_neg (by omega)] at d6; omega
              · exact h
            refine b_iconst (v := -1) dX12_trial_82 (by decide) ?_
            exact b_iret dX12_trial_83 ⟨by rw [eo, t8]; unfold mNev; simp, s1, rfl, fk s1 hs1⟩
        have lpZ : ∀ (n i : Nat) (s : ST), i + n = 2 ^ L.W → (∀ c, c ≠ 95 → s c = σ c) → (∀ k, k < i → s 95 k = -1) → BB G RX12 cX12_trial 6 (some .int) (d + 19) (QM G (PFK G μ k95 σ rv)) 41 [some (.ref (G.b0 + 77)), some (.int (nI j)), some (.int (nI y)), some (.int (nI i)), none, none] [] (sh G s μ) := by
          intro n
          induction n with
          | zero =>
            intro i s hi hs hz
            have hMs : MV s L := MV_of hM (by rw [hs 77 (by omega)]) (hs 78 (by omega))
            refine b_iload_n dX12_trial_41 rfl ?_
            refine b_aload_n dX12_trial_42 rfl ?_
            refine g_callV [] dX12_trial_43 kX12_worlds lX12_226 a77 rfl rfl (m_worlds hMs) rfl rfl (Nat.le_of_ble_eq_true rfl) ?_
            refine b_top (y := nI (2 ^ L.W - 1)) (by unfold mAll; rw [shl_pow (by omega), nI_sub hpw0]) ?_
            refine b_icmp_gt_t 62 dX12_trial_46 (by decide) (nI_lt (by omega) (by omega)) ?_
            exact fin s hs (fun n hn => Or.inl (hz n (by omega))) _
          | succ n ih =>
            intro i s hi hs hz
            have hMs : MV s L := MV_of hM (by rw [hs 77 (by omega)]) (hs 78 (by omega))
            refine b_iload_n dX12_trial_41 rfl ?_
            refine b_aload_n dX12_trial_42 rfl ?_
            refine g_callV [] dX12_trial_43 kX12_worlds lX12_226 a77 rfl rfl (m_worlds hMs) rfl rfl (Nat.le_of_ble_eq_true rfl) ?_
            refine b_top (y := nI (2 ^ L.W - 1)) (by unfold mAll; rw [shl_pow (by omega), nI_sub hpw0]) ?_
            refine b_icmp_gt_f 62 dX12_trial_46 (by decide) (nI_nlt (by omega) (by omega)) ?_
            refine b_aload_n dX12_trial_49 rfl ?_
            refine g_get dX12_trial_50 fX12_70 a77 rfl ?_
            refine b_iload_n dX12_trial_53 rfl ?_
            refine b_iconst (v := -1) dX12_trial_54 (by decide) ?_
            refine g_iast dX12_trial_55 a95 rfl (by omega) ?_
            refine b_iinc dX12_trial_56 rfl (nI_1 _) (by decide) rfl ?_
            refine b_goto 41 dX12_trial_59 (by decide) ?_
            refine ih (i + 1) _ (by omega) (fun c h => by rw [pt_r h]; exact hs c h) (fun k hk => ?_)
            by_cases e : k = i
            · subst e; rw [pt_s]
            · rw [pt_j e]; exact hz k (by omega)
        exact lpZ (2 ^ L.W) 0 σ (by omega) (fun _ _ => rfl) (fun k hk => absurd hk (by omega))
      · skip
        have h0 : L.W = 0 := nI_z (by omega) c5
        refine b_bipush (v := -5) dX12_trial_36 (by decide) ?_
        exact b_iret dX12_trial_38 ⟨by simp [oTrial, c2, c4, h0], σ, rfl, FK_r _ σ⟩
    · skip
      refine b_bipush (v := -2) dX12_trial_24 (by decide) ?_
      exact b_iret dX12_trial_26 ⟨by simp [oTrial, (bI_0 _).mp c3], σ, rfl, FK_r _ σ⟩

