/-! ===== the reference: parties ===== -/
theorem wi_3 {x : Int32} : (decide ((0 : Int64) ≤ x.toInt64) && decide (x.toInt64 ≤ 2)) = inR x 3 := by
  rw [← inL_R (n := 3) (by omega), ← wi_L (n := 3) (by omega)]; rfl
def PT (σ s : ST) : Prop := FK k94 σ s ∧ ∀ q, q < 7 → s 86 q = σ 78 (4 + q)
theorem fnd1_z {c : Nat → Bool} : ∀ n j, (∀ k, j ≤ k → k < j + n → c k = false) → fnd1 c n j = none
  | 0, _, _ => rfl
  | n + 1, j, h => by rw [fnd1, h j (Nat.le_refl _) (by omega), if_neg (by simp)]; exact fnd1_z n (j + 1) (fun k a b => h k (by omega) (by omega))
def pV (L : LD) (k y : Nat) : Option (Nat × Nat) → Int32
  | none => -1
  | some (i, j) => if y = 2 then jd L k i j else if y = 0 then chc L.F i else chc L.F j
set_option maxHeartbeats 4000000 in
theorem m_X_parties {G : GT} {d : Nat} {σ : ST} {μ : SL} {L : LD} {want other m x : Int32} (hM : MV σ L) (hK : LBk L) : Fn G (d + 4) mX12_parties [.ref (G.b0 + 77), .int want, .int other, .int m, .int x] (sh G σ μ) (PFK G μ k94 σ (oParties L want other m x)) := by
  have hb := hM.b
  have hC := chN_le hb.2.1 hb.2.2.1
  refine fn_of (ls := [some (.ref (G.b0 + 77)), some (.int want), some (.int other), some (.int m), some (.int x), none, none]) (by decide +kernel) (Nat.le_of_ble_eq_true rfl) 2 rfl ?_
  refine b_aload_n dX12_parties_0 rfl ?_
  refine b_iconst (v := nI 0) dX12_parties_1 (by decide) ?_
  refine g_put dX12_parties_2 wX12_1 a77 tfX12_0 (Nat.le_of_ble_eq_true rfl) rfl ?_
  refine b_sig hM.t0 ?_
  refine b_aload_n dX12_parties_5 rfl ?_
  refine b_iload_n dX12_parties_6 rfl ?_
  refine b_i2l dX12_parties_7 ?_
  refine g_callV [.long want.toInt64] dX12_parties_8 kX12_isPerson lX12_245 a77 rfl rfl (m_isPersonI hM) rfl rfl (Nat.le_of_ble_eq_true rfl) ?_
  refine b_if_eq 48 dX12_parties_11 (by decide) (fun c1 => ?_) (fun c1 => ?_)
  · skip
    refine b_bipush (v := -2) dX12_parties_48 (by decide) ?_
    exact b_iret dX12_parties_50 ⟨by simp [oParties, (bI_0 _).mp c1], σ, rfl, FK_r _ σ⟩
  · skip
    have c2 := (bI_1 _).mp c1
    refine b_aload_n dX12_parties_14 rfl ?_
    refine b_iload_n dX12_parties_15 rfl ?_
    refine b_i2l dX12_parties_16 ?_
    refine g_callV [.long other.toInt64] dX12_parties_17 kX12_isPerson lX12_245 a77 rfl rfl (m_isPersonI hM) rfl rfl (Nat.le_of_ble_eq_true rfl) ?_
    refine b_if_eq 48 dX12_parties_20 (by decide) (fun c3 => ?_) (fun c3 => ?_)
    · skip
      refine b_bipush (v := -2) dX12_parties_48 (by decide) ?_
      exact b_iret dX12_parties_50 ⟨by simp [oParties, (bI_0 _).mp c3], σ, rfl, FK_r _ σ⟩
    · skip
      have c4 := (bI_1 _).mp c3
      refine b_iload_n dX12_parties_23 rfl ?_
      refine b_i2l dX12_parties_24 ?_
      refine b_lconst (v := 0) dX12_parties_25 (by decide) ?_
      refine b_ldc2 dX12_parties_26 cvX12_289 ?_
      refine b_callSr [.long m.toInt64, .long 0, .long ((3))] dX12_parties_29 kX12_within lX12_145 c_within rfl rfl (Nat.le_of_ble_eq_true rfl) ?_
      rw [wi_m]
      refine b_if_eq 48 dX12_parties_32 (by decide) (fun c5 => ?_) (fun c5 => ?_)
      · skip
        refine b_bipush (v := -2) dX12_parties_48 (by decide) ?_
        exact b_iret dX12_parties_50 ⟨by simp [oParties, (bI_0 _).mp c5], σ, rfl, FK_r _ σ⟩
      · skip
        have c6 := (bI_1 _).mp c5
        obtain ⟨k, hk, rfl⟩ := inR_of (by omega) c6
        have hkx := ix_nI (show k < 2 ^ 31 by omega)
        refine b_iload dX12_parties_35 rfl ?_
        refine b_i2l dX12_parties_37 ?_
        refine b_lconst (v := 0) dX12_parties_38 (by decide) ?_
        refine b_ldc2 dX12_parties_39 cvX12_162 ?_
        refine b_callSr [.long x.toInt64, .long 0, .long ((2))] dX12_parties_42 kX12_within lX12_145 c_within rfl rfl (Nat.le_of_ble_eq_true rfl) ?_
        rw [wi_3]
        refine b_if_ne 51 dX12_parties_45 (by decide) (fun c7 => ?_) (fun c7 => ?_)
        · skip
          have c8 := (bI_1 _).mp c7
          obtain ⟨y, hy, rfl⟩ := inR_of (by omega) c8
          have hyx := ix_nI (show y < 2 ^ 31 by omega)
          refine b_aload_n dX12_parties_51 rfl ?_
          refine g_get dX12_parties_52 fX12_13 a77 rfl ?_
          refine b_iconst (v := nI 1) dX12_parties_55 (by decide) ?_
          refine g_iald dX12_parties_56 a78 rfl (by omega) ?_
          refine b_top hM.cW ?_
          refine b_if_ne 63 dX12_parties_57 (by decide) (fun c9 => ?_) (fun c9 => ?_)
          · skip
            have h0 : ¬ L.W = 0 := fun z => c9 (by rw [z]; rfl)
            have eo : oParties L want other (nI k) (nI y) = pV L k y (jRst L k want other) := by
              have hc : (inR want L.P && inR other L.P && inR (nI k) 4 && inR (nI y) 3) = true := by rw [c2, c4, c6, c8]; rfl
              unfold oParties
              rw [if_pos hc, if_neg h0, hkx, hyx]
              cases jRst L k want other with
              | none => rfl
              | some p => rfl
            generalize hv : oParties L want other (nI k) (nI y) = rv at eo ⊢
            refine b_aload_n dX12_parties_63 rfl ?_
            refine g_callV [] dX12_parties_64 kX12_keeps lX12_260 a77 rfl rfl m_keeps rfl rfl (Nat.le_of_ble_eq_true rfl) ?_
            refine b_iconst (v := nI 0) dX12_parties_67 (by decide) ?_
            refine b_istore dX12_parties_68 (by decide) rfl ?_
            have p0 : PT σ (cpy σ 78 4 86 0 7) := by
              refine ⟨⟨fun c h1 h2 h3 h4 => ?_, fun q _ _ => by rw [cpy_at, if_neg (by omega)]⟩, (S0_keeps σ).1⟩
              by_cases hc : c = 78
              · subst hc; funext q; rw [cpy_at, if_neg (by omega)]
              · exact (S0_keeps σ).2.1 c hc h2 h3 h4
            -- the search
            have lpC : ∀ (s : ST), PT σ s → JM s L k (fun _ _ => True) → ∀ (n i : Nat) (z6 : Option Value), i + n = chN L.F L.P → fnd2 (rst L k want other) (chN L.F L.P) n i = jRst L k want other → BB G RX12 cX12_parties 7 (some .int) (d + 4) (QM G (PFK G μ k94 σ rv)) 146 [some (.ref (G.b0 + 77)), some (.int want), some (.int other), some (.int (nI k)), some (.int (nI y)), some (.int (nI i)), z6] [] (sh G s μ) := by
              intro s hP hJ n
              have hMs : MV s L := FK_MV hP.1 hM (by unfold k94; omega)
              induction n with
              | zero =>
                intro i z6 hi he
                refine b_iload dX12_parties_146 rfl ?_
                refine b_aload_n dX12_parties_148 rfl ?_
                refine g_callV [] dX12_parties_149 kX12_choices lX12_350 a77 rfl rfl (m_choices hMs) rfl rfl (Nat.le_of_ble_eq_true rfl) ?_
                refine b_icmp_ge_t 235 dX12_parties_152 (by decide) (nI_le (by omega) (by omega)) ?_
                refine b_iconst (v := -1) dX12_parties_235 (by decide) ?_
                exact b_iret dX12_parties_236 ⟨by rw [eo, ← he]; rfl, s, rfl, hP.1⟩
              | succ n ih =>
                intro i z6 hi he
                rw [fnd2] at he
                refine b_iload dX12_parties_146 rfl ?_
                refine b_aload_n dX12_parties_148 rfl ?_
                refine g_callV [] dX12_parties_149 kX12_choices lX12_350 a77 rfl rfl (m_choices hMs) rfl rfl (Nat.le_of_ble_eq_true rfl) ?_
                refine b_icmp_ge_f 235 dX12_parties_152 (by decide) (nI_ge (by omega) (by omega)) ?_
                refine b_iconst (v := nI 0) dX12_parties_155 (by decide) ?_
                refine b_istore dX12_parties_156 (by decide) rfl ?_
                have lpD : ∀ (n' j : Nat), j + n' = chN L.F L.P → fnd1 (rst L k want other i) n' j = fnd1 (rst L k want other i) (chN L.F L.P) 0 → BB G RX12 cX12_parties 7 (some .int) (d + 4) (QM G (PFK G μ k94 σ rv)) 158 [some (.ref (G.b0 + 77)), some (.int want), some (.int other), some (.int (nI k)), some (.int (nI y)), some (.int (nI i)), some (.int (nI j))] [] (sh G s μ) := by
                  intro n'
                  induction n' with
                  | zero =>
                    intro j hj he1
                    refine b_iload dX12_parties_158 rfl ?_
                    refine b_aload_n dX12_parties_160 rfl ?_
                    refine g_callV [] dX12_parties_161 kX12_choices lX12_350 a77 rfl rfl (m_choices hMs) rfl rfl (Nat.le_of_ble_eq_true rfl) ?_
                    refine b_icmp_ge_t 229 dX12_parties_164 (by decide) (nI_le (by omega) (by omega)) ?_
                    refine b_iinc dX12_parties_229 rfl (nI_1 _) (by decide) rfl ?_
                    refine b_goto 146 dX12_parties_232 (by decide) ?_
                    refine ih (i + 1) _ (by omega) ?_
                    rw [← he1] at he
                    exact he
                  | succ n' ihn =>
                    intro j hj he1
                    rw [fnd1] at he1
                    refine b_iload dX12_parties_158 rfl ?_
                    refine b_aload_n dX12_parties_160 rfl ?_
                    refine g_callV [] dX12_parties_161 kX12_choices lX12_350 a77 rfl rfl (m_choices hMs) rfl rfl (Nat.le_of_ble_eq_true rfl) ?_
                    refine b_icmp_ge_f 229 dX12_parties_164 (by decide) (nI_ge (by omega) (by omega)) ?_
                    refine b_aload_n dX12_parties_167 rfl ?_
                    refine b_iload dX12_parties_168 rfl ?_
                    refine b_iload dX12_parties_170 rfl ?_
                    refine b_iload_n dX12_parties_172 rfl ?_
                    refine b_iload_n dX12_parties_173 rfl ?_
                    refine g_callV [.int (nI i), .int (nI j), .int want, .int other] dX12_parties_174 kX12_isRest lX12_356 a77 rfl rfl (m_isRest hMs hJ (show i < chN L.F L.P by omega) (show j < chN L.F L.P by omega)) rfl rfl (Nat.le_of_ble_eq_true rfl) ?_
                    refine b_if_eq 223 dX12_parties_177 (by decide) (fun c10 => ?_) (fun c10 => ?_)
                    · skip
                      rw [(bI_0 _).mp c10, if_neg (by simp)] at he1
                      refine b_iinc dX12_parties_223 rfl (nI_1 _) (by decide) rfl ?_
                      refine b_goto 158 dX12_parties_226 (by decide) ?_
                      exact ihn (j + 1) (by omega) he1
                    · skip
                      rw [(bI_1 _).mp c10, if_pos rfl] at he1
                      rw [← he1] at he
                      have hr : rv = if y = 2 then jd L k i j else if y = 0 then chc L.F i else chc L.F j := by rw [eo, ← he]; rfl
                      have hij : s 94 (49 * i + j) = jd L k i j := hJ i j (by omega) (by omega) trivial
                      refine b_iload dX12_parties_180 rfl ?_
                      refine b_if_ne 194 dX12_parties_182 (by decide) (fun c11 => ?_) (fun c11 => ?_)
                      · skip
                        have d11 : ¬ y = 0 := fun z => c11 (by rw [z]; rfl)
                        refine b_iload dX12_parties_194 rfl ?_
                        refine b_iconst (v := nI 1) dX12_parties_196 (by decide) ?_
                        refine b_icmp_ne 209 dX12_parties_197 (by decide) (fun c12 => ?_) (fun c12 => ?_)
                        · skip
                          have d12 : ¬ y = 1 := fun z => c12 (by rw [z])
                          refine b_aload_n dX12_parties_209 rfl ?_
                          refine g_get dX12_parties_210 fX12_66 a77 rfl ?_
                          refine b_bipush (v := nI 49) dX12_parties_213 (by decide) ?_
                          refine b_iload dX12_parties_215 rfl ?_
                          refine b_imulN dX12_parties_217 ?_
                          refine b_iload dX12_parties_218 rfl ?_
                          refine b_iaddN dX12_parties_220 ?_
                          refine g_iald dX12_parties_221 a94 rfl (by omega) ?_
                          refine b_top hij ?_
                          exact b_iret dX12_parties_222 ⟨by rw [hr, if_pos (by omega)], s, rfl, hP.1⟩
                        · skip
                          have d12 : y = 1 := by rw [nI_eq (by omega) (by omega)] at c12; exact c12
                          refine b_aload_n dX12_parties_200 rfl ?_
                          refine b_iload dX12_parties_201 rfl ?_
                          refine g_callV [.int (nI j)] dX12_parties_203 kX12_codeOf lX12_360 a77 rfl rfl (m_codeOf hMs (by omega)) rfl rfl (Nat.le_of_ble_eq_true rfl) ?_
                          refine b_goto 222 dX12_parties_206 (by decide) ?_
                          exact b_iret dX12_parties_222 ⟨by rw [hr, if_neg (by omega), if_neg (by omega)], s, rfl, hP.1⟩
                      · skip
                        have d11 : y = 0 := nI_z (by omega) c11
                        refine b_aload_n dX12_parties_185 rfl ?_
                        refine b_iload dX12_parties_186 rfl ?_
                        refine g_callV [.int (nI i)] dX12_parties_188 kX12_codeOf lX12_360 a77 rfl rfl (m_codeOf hMs (by omega)) rfl rfl (Nat.le_of_ble_eq_true rfl) ?_
                        refine b_goto 222 dX12_parties_191 (by decide) ?_
                        exact b_iret dX12_parties_222 ⟨by rw [hr, if_neg (by omega), if_pos d11], s, rfl, hP.1⟩
                exact lpD (chN L.F L.P) 0 (by omega) rfl
            -- the judges
            have lpA : ∀ (n i : Nat) (s : ST) (z6 : Option Value), i + n = chN L.F L.P → PT σ s → JM s L k (fun a _ => a < i) → BB G RX12 cX12_parties 7 (some .int) (d + 4) (QM G (PFK G μ k94 σ rv)) 70 [some (.ref (G.b0 + 77)), some (.int want), some (.int other), some (.int (nI k)), some (.int (nI y)), some (.int (nI i)), z6] [] (sh G s μ) := by
              intro n
              induction n with
              | zero =>
                intro i s z6 hi hP hJ
                have hMs : MV s L := FK_MV hP.1 hM (by unfold k94; omega)
                refine b_iload dX12_parties_70 rfl ?_
                refine b_aload_n dX12_parties_72 rfl ?_
                refine g_callV [] dX12_parties_73 kX12_choices lX12_350 a77 rfl rfl (m_choices hMs) rfl rfl (Nat.le_of_ble_eq_true rfl) ?_
                refine b_icmp_ge_t 143 dX12_parties_76 (by decide) (nI_le (by omega) (by omega)) ?_
                refine b_iconst (v := nI 0) dX12_parties_143 (by decide) ?_
                refine b_istore dX12_parties_144 (by decide) rfl ?_
                exact lpC s hP (fun a b h1 h2 _ => hJ a b h1 h2 (by omega)) (chN L.F L.P) 0 _ (by omega) rfl
              | succ n ih =>
                intro i s z6 hi hP hJ
                have hMs : MV s L := FK_MV hP.1 hM (by unfold k94; omega)
                refine b_iload dX12_parties_70 rfl ?_
                refine b_aload_n dX12_parties_72 rfl ?_
                refine g_callV [] dX12_parties_73 kX12_choices lX12_350 a77 rfl rfl (m_choices hMs) rfl rfl (Nat.le_of_ble_eq_true rfl) ?_
                refine b_icmp_ge_f 143 dX12_parties_76 (by decide) (nI_ge (by omega) (by omega)) ?_
                refine b_iconst (v := nI 0) dX12_parties_79 (by decide) ?_
                refine b_istore dX12_parties_80 (by decide) rfl ?_
                have lpB : ∀ (n' j : Nat) (s : ST), j + n' = chN L.F L.P → PT σ s → JM s L k (fun a b => a < i ∨ (a = i ∧ b < j)) → BB G RX12 cX12_parties 7 (some .int) (d + 4) (QM G (PFK G μ k94 σ rv)) 82 [some (.ref (G.b0 + 77)), some (.int want), some (.int other), some (.int (nI k)), some (.int (nI y)), some (.int (nI i)), some (.int (nI j))] [] (sh G s μ) := by
                  intro n'
                  induction n' with
                  | zero =>
                    intro j s hj hP hJ
                    have hMs : MV s L := FK_MV hP.1 hM (by unfold k94; omega)
                    refine b_iload dX12_parties_82 rfl ?_
                    refine b_aload_n dX12_parties_84 rfl ?_
                    refine g_callV [] dX12_parties_85 kX12_choices lX12_350 a77 rfl rfl (m_choices hMs) rfl rfl (Nat.le_of_ble_eq_true rfl) ?_
                    refine b_icmp_ge_t 137 dX12_parties_88 (by decide) (nI_le (by omega) (by omega)) ?_
                    refine b_iinc dX12_parties_137 rfl (nI_1 _) (by decide) rfl ?_
                    refine b_goto 70 dX12_parties_140 (by decide) ?_
                    exact ih (i + 1) s _ (by omega) hP (fun a b h1 h2 h3 => hJ a b h1 h2 (by omega))
                  | succ n' ihn =>
                    intro j s hj hP hJ
                    have hMs : MV s L := FK_MV hP.1 hM (by unfold k94; omega)
                    have h78 : s 78 = σ 78 := hP.1.1 78 (by unfold k94; omega) (by omega) (by omega) (by omega)
                    have hSs : S0 s s := ⟨fun q hq => by rw [hP.2 q hq, h78], fun _ _ _ _ _ => rfl, fun _ _ _ => rfl, fun _ _ => rfl⟩
                    refine b_iload dX12_parties_82 rfl ?_
                    refine b_aload_n dX12_parties_84 rfl ?_
                    refine g_callV [] dX12_parties_85 kX12_choices lX12_350 a77 rfl rfl (m_choices hMs) rfl rfl (Nat.le_of_ble_eq_true rfl) ?_
                    refine b_icmp_ge_f 137 dX12_parties_88 (by decide) (nI_ge (by omega) (by omega)) ?_
                    refine b_aload_n dX12_parties_91 rfl ?_
                    refine b_iload dX12_parties_92 rfl ?_
                    refine g_callVp [.int (nI i)] dX12_parties_94 kX12_tellsChoice lX12_353 a77 rfl rfl (m_tellsChoice hMs hSs (by omega)) rfl rfl (Nat.le_of_ble_eq_true rfl) ?_
                    rintro r h9 ⟨rfl, s1, rfl, hS1, hM1⟩
                    refine b_aload_n dX12_parties_97 rfl ?_
                    refine b_iload dX12_parties_98 rfl ?_
                    refine g_callVp [.int (nI j)] dX12_parties_100 kX12_tellsChoice lX12_353 a77 rfl rfl (m_tellsChoice (i := j) hM1 hS1 (show j < chN L.F L.P by omega)) rfl rfl (Nat.le_of_ble_eq_true rfl) ?_
                    rintro r h9 ⟨rfl, s2, rfl, hS2, hM2⟩
                    have hM2' : MV s2 (stT L (chT (chT L.told L.F i) L.F j)) := hM2
                    refine b_aload_n dX12_parties_103 rfl ?_
                    refine g_get dX12_parties_104 fX12_66 a77 rfl ?_
                    refine b_bipush (v := nI 49) dX12_parties_107 (by decide) ?_
                    refine b_iload dX12_parties_109 rfl ?_
                    refine b_imulN dX12_parties_111 ?_
                    refine b_iload dX12_parties_112 rfl ?_
                    refine b_iaddN dX12_parties_114 ?_
                    refine b_aload_n dX12_parties_115 rfl ?_
                    refine b_iload_n dX12_parties_116 rfl ?_
                    refine b_aload_n dX12_parties_117 rfl ?_
                    refine g_get dX12_parties_118 fX12_13 a77 rfl ?_
                    refine b_iconst (v := nI 4) dX12_parties_121 (by decide) ?_
                    refine g_iald dX12_parties_122 a78 rfl (by omega) ?_
                    refine b_top (show s2 78 4 = nI L.t from hM2.ct) ?_
                    have l1 := chT_ok hK (show i < chN L.F L.P by omega) (tl := L.told) (fun p hp => LBk_told hK hp)
                    refine g_callV [.int (nI k), .int (nI L.t)] dX12_parties_123 kX12_leastOf lX12_294 a77 rfl rfl (m_leastOf hM2' (LBk_T hK (chT_ok hK (show j < chN L.F L.P by omega) l1)) hk (show L.t < 32 by omega)) rfl rfl (Nat.le_of_ble_eq_true rfl) ?_
                    refine b_top (show lst (stT L (chT (chT L.told L.F i) L.F j)) k (chT (chT L.told L.F i) L.F j) L.t = jd L k i j from rfl) ?_
                    refine g_iast dX12_parties_126 a94 rfl (by omega) ?_
                    refine b_aload_n dX12_parties_127 rfl ?_
                    refine g_callV [] dX12_parties_128 kX12_isAgain lX12_297 a77 rfl rfl m_isAgain rfl rfl (Nat.le_of_ble_eq_true rfl) ?_
                    refine b_iinc dX12_parties_131 rfl (nI_1 _) (by decide) rfl ?_
                    refine b_goto 82 dX12_parties_134 (by decide) ?_
                    have hS3 := S0_94 (i := 49 * i + j) (v := jd L k i j) hS2
                    have hF3 := FT_again hS3
                    refine ihn (j + 1) _ (by omega) ⟨⟨fun c g1 g2 g3 g4 => ?_, fun q g1 g2 => ?_⟩, fun q hq => ?_⟩ (fun a b g1 g2 g3 => ?_)
                    · rw [hF3.1 c g2 g3 g4, pt_r (by unfold k94 at g1; omega)]; exact hP.1.1 c g1 g2 g3 g4
                    · rw [hF3.2 q g1 g2, pt_a (by omega)]; exact hP.1.2 q g1 g2
                    · rw [cpy_at, if_neg (by omega), pt_a (by omega), hS2.1 q hq, h78]
                    · rw [hF3.1 94 (by omega) (by omega) (by omega)]
                      by_cases e : a = i ∧ b = j
                      · rw [e.1, e.2, pt_s]
                      · rw [pt_j (by omega)]; exact hJ a b g1 g2 (by omega)
                exact lpB (chN L.F L.P) 0 s (by omega) hP (fun a b g1 g2 g3 => hJ a b g1 g2 (by omega))
            exact lpA (chN L.F L.P) 0 _ _ (by omega) p0 (fun a b _ _ g3 => absurd g3 (by omega))
          · skip
            have h0 : L.W = 0 := nI_z (by omega) c9
            refine b_bipush (v := -5) dX12_parties_60 (by decide) ?_
            exact b_iret dX12_parties_62 ⟨by simp [oParties, c2, c4, c6, c8, h0], σ, rfl, FK_r _ σ⟩
        · skip
          refine b_bipush (v := -2) dX12_parties_48 (by decide) ?_
          exact b_iret dX12_parties_50 ⟨by simp [oParties, (bI_0 _).mp c7], σ, rfl, FK_r _ σ⟩

