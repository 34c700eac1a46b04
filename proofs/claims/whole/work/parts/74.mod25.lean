/-! ===== the reference: shown ===== -/
theorem wi_sh {x : Int32} {P : Nat} (hP : P ≤ 6) : (decide ((10 : Int64) ≤ x.toInt64) && decide (x.toInt64 ≤ (nI (9 + P)).toInt64)) = inR (x - nI 10) P := by
  rw [nI_l (by omega), show (10 : Int64) = lN 10 from rfl, wi_B (by omega) (by omega)]
  cases h : inR (x - nI 10) P
  · cases h2 : inB x 10 (9 + P)
    · rfl
    · obtain ⟨j, h3, h4, rfl⟩ := inB_of (by omega) h2 (by
        rcases Nat.eq_zero_or_pos P with q | q
        · subst q
          exfalso
          simp only [inB, Bool.and_eq_true, decide_eq_true_eq] at h2
          have := Int32.le_trans h2.1 h2.2
          exact absurd this (by decide)
        · omega)
      rw [nI_sub h3, inR_nI (by omega) (by omega), decide_eq_true (by omega)] at h
      exact absurd h (by simp)
  · obtain ⟨k, hk, e⟩ := inR_of (by omega) h
    have ex : x = nI (k + 10) := by rw [← nI_add, ← e]; exact (Int32.sub_add_cancel x (nI 10)).symm
    rw [ex]
    simp only [inB, Bool.and_eq_true, decide_eq_true_eq]
    exact ⟨nI_le (by omega) (by omega), nI_le (by omega) (by omega)⟩
theorem RB_sh {s : ST} {L : LD} {who : Nat} {sm : Bool} (hF : L.F ≤ 8) (hW : L.W ≤ 16) (hwho : who < L.P) (ht : lo L.F (L.told who)) (h : RB s L who sm (2 ^ L.F)) : (sm = false ∧ shT L who = none) ∨ (sm = true ∧ ∃ τ, shT L who = some τ ∧ ∀ p, p < L.P → s 93 p = nI (τ p)) := by
  rcases h with ⟨h1, h2⟩ | ⟨h1, a0, h2, h3, h4, h5⟩
  · refine Or.inl ⟨h1, shT_none (fun τ hτ => ?_)⟩
    obtain ⟨g1, g2, _⟩ := TS_tq hF hwho hτ
    exact h2 _ g1 g2
  · refine Or.inr ⟨h1, ?_⟩
    have hO : OptT L who (tq L who a0) := ⟨tq_TS hF hW ht h2 h3, fun τ hτ => by
      obtain ⟨g1, g2, g3⟩ := TS_tq hF hwho hτ
      exact Nat.le_trans (h5 _ g1 g2) g3⟩
    obtain ⟨τ, e1, e2, e3⟩ := shT_some hF hO
    exact ⟨τ, e1, fun p hp => by rw [e3 p hp]; exact h4 p hp⟩
theorem m_X_shown {G : GT} {d : Nat} {σ : ST} {μ : SL} {L : LD} {p x : Int32} (hM : MV σ L) (hK : LBk L) : Fn G (d + 4) mX12_shown [.ref (G.b0 + 77), .int p, .int x] (sh G σ μ) (PFK G μ k8893 σ (oShown L p x)) := by
  have hb := hM.b
  refine fn_of (ls := [some (.ref (G.b0 + 77)), some (.int p), some (.int x)]) (by decide +kernel) (Nat.le_of_ble_eq_true rfl) 0 rfl ?_
  refine b_aload_n dX12_shown_0 rfl ?_
  refine b_iconst (v := nI 0) dX12_shown_1 (by decide) ?_
  refine g_put dX12_shown_2 wX12_1 a77 tfX12_0 (Nat.le_of_ble_eq_true rfl) rfl ?_
  refine b_sig hM.t0 ?_
  refine b_aload_n dX12_shown_5 rfl ?_
  refine b_iload_n dX12_shown_6 rfl ?_
  refine b_i2l dX12_shown_7 ?_
  refine g_callV [.long p.toInt64] dX12_shown_8 kX12_isPerson lX12_245 a77 rfl rfl (m_isPersonI hM) rfl rfl (Nat.le_of_ble_eq_true rfl) ?_
  refine b_if_eq 39 dX12_shown_11 (by decide) (fun c1 => ?_) (fun c1 => ?_)
  · skip
    refine b_bipush (v := -2) dX12_shown_39 (by decide) ?_
    exact b_iret dX12_shown_41 ⟨by simp [oShown, (bI_0 _).mp c1], σ, rfl, FK_r _ σ⟩
  · skip
    have c2 := (bI_1 _).mp c1
    obtain ⟨j, hj, rfl⟩ := inR_of (by omega) c2
    have hjx := ix_nI (show j < 2 ^ 31 by omega)
    have bdy : (decide (x = 0) || inR (x - nI 10) L.P) = true → BB G RX12 cX12_shown 3 (some .int) (d + 4) (QM G (PFK G μ k8893 σ (oShown L (nI j) x))) 42 [some (.ref (G.b0 + 77)), some (.int (nI j)), some (.int x)] [] (sh G σ μ) := by
      intro h9
      have hO : oShown L (nI j) x = if lst L 0 L.told L.t = nI j then (match shT L j with
        | none => -1
        | some τ => if x = 0 then nI (sB τ L.P) else nI (τ (ix (x - nI 10)))) else -1 := by
        simp only [oShown, c2, h9, hjx, Bool.and_self, if_true]
        rfl
      rw [hO]
      refine b_aload_n dX12_shown_42 rfl ?_
      refine b_iconst (v := nI 0) dX12_shown_43 (by decide) ?_
      refine b_aload_n dX12_shown_44 rfl ?_
      refine g_get dX12_shown_45 fX12_13 a77 rfl ?_
      refine b_iconst (v := nI 4) dX12_shown_48 (by decide) ?_
      refine g_iald dX12_shown_49 a78 rfl (by omega) ?_
      refine b_top hM.ct ?_
      refine g_callV [.int (nI 0), .int (nI L.t)] dX12_shown_50 kX12_leastOf lX12_294 a77 rfl rfl (m_leastOf (m := 0) hM hK (by omega) (by omega)) rfl rfl (Nat.le_of_ble_eq_true rfl) ?_
      refine b_iload_n dX12_shown_53 rfl ?_
      refine b_icmp_ne 65 dX12_shown_54 (by decide) (fun c3 => ?_) (fun c3 => ?_)
      · skip
        refine b_iconst (v := -1) dX12_shown_65 (by decide) ?_
        exact b_iret dX12_shown_66 ⟨by rw [if_neg c3], σ, rfl, FK_r _ σ⟩
      · skip
        have c4 : lst L 0 L.told L.t = nI j := c3
        rw [if_pos c4]
        refine b_aload_n dX12_shown_57 rfl ?_
        refine b_iload_n dX12_shown_58 rfl ?_
        refine g_callVp [.int (nI j)] dX12_shown_59 kX12_laysShown lX12_347 a77 rfl rfl (m_laysShown hM hK hj) rfl rfl (Nat.le_of_ble_eq_true rfl) ?_
        rintro r h9 ⟨s1, sm, rfl, rfl, hs1, hB⟩
        have hM1 : MV s1 L := MV_of hM (by rw [hs1 77 (by unfold k8893; omega)]) (hs1 78 (by unfold k8893; omega))
        have fk : FK k8893 σ s1 := ⟨fun c h _ _ _ => hs1 c h, fun q _ _ => by rw [hs1 77 (by unfold k8893; omega)]⟩
        rcases RB_sh hb.2.1 hb.1 hj (LBk_told hK hj) hB with ⟨e1, e2⟩ | ⟨e1, τ, e2, e3⟩
        · rw [e2, e1]
          refine b_if_ne_f 67 dX12_shown_62 (by decide) (by decide) ?_
          refine b_iconst (v := -1) dX12_shown_65 (by decide) ?_
          exact b_iret dX12_shown_66 ⟨rfl, s1, rfl, fk⟩
        · rw [e2, e1]
          refine b_if_ne_t 67 dX12_shown_62 (by decide) (by decide) ?_
          refine b_iload_n dX12_shown_67 rfl ?_
          refine b_if_ne 82 dX12_shown_68 (by decide) (fun c5 => ?_) (fun c5 => ?_)
          · skip
            have h10 : inR (x - nI 10) L.P = true := by simpa [c5] using h9
            obtain ⟨k, hk, ek⟩ := inR_of (by omega) h10
            refine b_aload_n dX12_shown_82 rfl ?_
            refine g_get dX12_shown_83 fX12_63 a77 rfl ?_
            refine b_iload_n dX12_shown_86 rfl ?_
            refine b_bipush (v := nI 10) dX12_shown_87 (by decide) ?_
            refine b_isub dX12_shown_89 ?_
            refine b_top ek ?_
            refine g_iald dX12_shown_90 a93 rfl (by omega) ?_
            refine b_iret dX12_shown_91 ⟨?_, s1, rfl, fk⟩
            show some (Value.int (s1 93 k)) = some (Value.int (if x = 0 then _ else nI (τ (ix (x - nI 10)))))
            rw [if_neg c5, e3 k hk, ek, ix_nI (by omega)]
          · skip
            have c6 : x = 0 := c5
            refine b_aload_n dX12_shown_71 rfl ?_
            refine b_aload_n dX12_shown_72 rfl ?_
            refine g_get dX12_shown_73 fX12_63 a77 rfl ?_
            refine g_callV [.ref (G.b0 + 93)] dX12_shown_76 kX12_askedMany lX12_334 a77 rfl rfl (m_askedMany (α := τ) hM1 a93 e3) rfl rfl (Nat.le_of_ble_eq_true rfl) ?_
            refine b_goto 91 dX12_shown_79 (by decide) ?_
            refine b_iret dX12_shown_91 ⟨?_, s1, rfl, fk⟩
            show some (Value.int (nI (sB τ L.P))) = some (Value.int (if x = 0 then nI (sB τ L.P) else _))
            rw [if_pos c6]
    refine b_iload_n dX12_shown_14 rfl ?_
    refine b_if_eq 42 dX12_shown_15 (by decide) (fun c3 => ?_) (fun c3 => ?_)
    · skip
      exact bdy (by simp [show x = 0 from c3])
    · skip
      refine b_iload_n dX12_shown_18 rfl ?_
      refine b_i2l dX12_shown_19 ?_
      refine b_ldc2 dX12_shown_20 cvX12_285 ?_
      refine b_bipush (v := nI 9) dX12_shown_23 (by decide) ?_
      refine b_aload_n dX12_shown_25 rfl ?_
      refine g_get dX12_shown_26 fX12_13 a77 rfl ?_
      refine b_iconst (v := nI 3) dX12_shown_29 (by decide) ?_
      refine g_iald dX12_shown_30 a78 rfl (by omega) ?_
      refine b_top hM.cP ?_
      refine b_iaddN dX12_shown_31 ?_
      refine b_i2l dX12_shown_32 ?_
      refine b_callSr [.long x.toInt64, .long ((10)), .long ((nI (9 + L.P)).toInt64)] dX12_shown_33 kX12_within lX12_145 c_within rfl rfl (Nat.le_of_ble_eq_true rfl) ?_
      rw [wi_sh hb.2.2.1]
      refine b_if_ne 42 dX12_shown_36 (by decide) (fun c5 => ?_) (fun c5 => ?_)
      · skip
        exact bdy (by rw [(bI_1 _).mp c5]; simp)
      · skip
        refine b_bipush (v := -2) dX12_shown_39 (by decide) ?_
        exact b_iret dX12_shown_41 ⟨by simp [oShown, (bI_0 _).mp c5, show ¬ x = 0 from c3], σ, rfl, FK_r _ σ⟩

