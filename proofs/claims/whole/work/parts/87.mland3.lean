/-! ===== the reference: land, a line ===== -/
set_option maxHeartbeats 2000000 in
theorem m_landL {G : GT} {d : Nat} {μ : SL} {Post : Option Value → HT → Prop} {x : Int32} {s : ST} {Y : PX} {Q : FS × LB} {z2 z3 : Option Value} (hY : PxO Y) (hR : RM s Y Q.1) (hp : PO Y 0 Q.1) (hk : kd Y Q.1 ≠ 17) (hL : LM s Q.2) (hO : LOk Q) (hgo : ∀ s' : ST, kN s s' → RM s' Y (xLine Y Q).1 → ((xLine Y Q).1.2.1 = 0 → LM s' (xLine Y Q).2) → BB G RX12 cX12_land 4 (some .int) (d + 32) (QM G (Post)) 73 [some (.ref (G.b0 + 77)), some (.int x), z2, z3] [] (sh G s' μ)) : BB G RX12 cX12_land 4 (some .int) (d + 32) (QM G (Post)) 89 [some (.ref (G.b0 + 77)), some (.int x), z2, z3] [] (sh G s μ) := by
  obtain ⟨h0, h1⟩ := kd_lt hY hp hk
  obtain ⟨o1, o2, o3⟩ := hO h0
  obtain ⟨N, hN⟩ : ∃ N, N = xLn Y Q.1 Q.2 := ⟨_, rfl⟩
  have hpN : PO Y 0 N.1 := by rw [hN]; exact PO_xLn hY hp
  have exL : xLine Y Q = (takK Y 20 N.1, (N.2.1, N.2.2.1 + 1, N.2.2.2)) := by unfold xLine; rw [← hN]
  -- behind the line
  have en : ∀ s' : ST, kN s s' → RM s' Y (takK Y 20 N.1) → ((takK Y 20 N.1).2.1 = 0 → LM s' N.2) → BB G RX12 cX12_land 4 (some .int) (d + 32) (QM G (Post)) 216 [some (.ref (G.b0 + 77)), some (.int x), z2, z3] [] (sh G s' μ) := by
    intro s' ks hRs hLs
    refine b_aload_n dX12_land_216 rfl ?_
    refine g_get dX12_land_217 fX12_24 a77 rfl ?_
    refine b_iconst (v := nI 0) dX12_land_220 (by decide) ?_
    refine b_dup2 dX12_land_221 rfl rfl ?_
    refine g_iald dX12_land_222 a81 rfl (by omega) ?_
    refine b_iconst (v := nI 1) dX12_land_223 (by decide) ?_
    refine b_iadd dX12_land_224 ?_
    refine g_iast dX12_land_225 a81 rfl (by omega) ?_
    refine b_goto 73 dX12_land_226 (by decide) ?_
    refine hgo _ (kN_p ks (by omega)) (RM_pt (by rw [exL]; exact hRs) (by omega) (by omega) (by omega)) (fun z => ?_)
    rw [exL] at z ⊢
    have l := hLs z
    refine LM_lines l (fun q hq => pt_j hq) ?_ (pt_r (by omega)) (pt_r (by omega))
    rw [pt_s, l.1.1, nI_add]
  have af : ∀ s' : ST, kN s s' → RM s' Y N.1 → (N.1.2.1 = 0 → LM s' N.2) → BB G RX12 cX12_land 4 (some .int) (d + 32) (QM G (Post)) 202 [some (.ref (G.b0 + 77)), some (.int x), z2, z3] [] (sh G s' μ) := by
    intro s' ks hRs hLs
    refine b_aload_n dX12_land_202 rfl ?_
    refine b_bipush (v := nI 20) dX12_land_203 (by decide) ?_
    refine g_callVp [.int (nI 20)] dX12_land_205 kX12_eats lX12_153 a77 rfl rfl (m_eats (d := d + 25) (k := 20) hY hRs hpN (by omega) (by omega)) rfl rfl (Nat.le_of_ble_eq_true rfl) ?_
    rintro r h9 ⟨rfl, s2, rfl, hs2, hR2⟩
    refine b_if_ne 216 dX12_land_208 (by decide) (fun c1 => ?_) (fun c1 => ?_)
    · skip
      have c2 := of_decide_eq_true ((bI_1 _).mp c1)
      rw [if_pos c2] at hR2
      exact en s2 (kN_t ks (kN_m hs2)) (by rw [tak_if, if_pos c2]; exact hR2) (fun z => LM_m (hLs (tak_0 z).1) hs2)
    · skip
      have c2 := of_decide_eq_false ((bI_0 _).mp c1)
      rw [if_neg c2] at hR2
      refine b_aload_n dX12_land_211 rfl ?_
      refine b_iconst (v := nI 2) dX12_land_212 (by decide) ?_
      refine g_callVp [.int (nI 2)] dX12_land_213 kX12_fails lX12_141 a77 rfl rfl (m_fails hR2 (f := 2) (by omega) (by omega)) rfl rfl (Nat.le_of_ble_eq_true rfl) ?_
      rintro r h9 ⟨rfl, s3, rfl, hs3, hR3⟩
      refine en s3 (kN_t (kN_t ks (kN_m hs2)) (kN_m hs3)) (by rw [tak_if, if_neg c2]; exact hR3) (fun z => ?_)
      rw [tak_if, if_neg c2] at z
      exact absurd z (fail_0 (by omega))
  refine b_aload_n dX12_land_89 rfl ?_
  refine b_iconst (v := nI 0) dX12_land_90 (by decide) ?_
  refine g_callV [.int (nI 0)] dX12_land_91 kX12_is lX12_135 a77 rfl rfl (m_is hR (k := 0) (by omega) (by omega)) rfl rfl (Nat.le_of_ble_eq_true rfl) ?_
  refine b_if_eq 104 dX12_land_94 (by decide) (fun c1 => ?_) (fun c1 => ?_)
  · skip
    have d0 : ¬ kd Y Q.1 = 0 := of_decide_eq_false ((bI_0 _).mp c1)
    refine b_aload_n dX12_land_104 rfl ?_
    refine b_iconst (v := nI 3) dX12_land_105 (by decide) ?_
    refine g_callV [.int (nI 3)] dX12_land_106 kX12_is lX12_135 a77 rfl rfl (m_is hR (k := 3) (by omega) (by omega)) rfl rfl (Nat.le_of_ble_eq_true rfl) ?_
    refine b_if_eq 119 dX12_land_109 (by decide) (fun c2 => ?_) (fun c2 => ?_)
    · skip
      have d3 : ¬ kd Y Q.1 = 3 := of_decide_eq_false ((bI_0 _).mp c2)
      refine b_aload_n dX12_land_119 rfl ?_
      refine b_iconst (v := nI 4) dX12_land_120 (by decide) ?_
      refine g_callV [.int (nI 4)] dX12_land_121 kX12_is lX12_135 a77 rfl rfl (m_is hR (k := 4) (by omega) (by omega)) rfl rfl (Nat.le_of_ble_eq_true rfl) ?_
      refine b_if_eq 134 dX12_land_124 (by decide) (fun c3 => ?_) (fun c3 => ?_)
      · skip
        have d4 : ¬ kd Y Q.1 = 4 := of_decide_eq_false ((bI_0 _).mp c3)
        refine b_aload_n dX12_land_134 rfl ?_
        refine b_bipush (v := nI 6) dX12_land_135 (by decide) ?_
        refine g_callVp [.int (nI 6)] dX12_land_137 kX12_eats lX12_153 a77 rfl rfl (m_eats (d := d + 25) (k := 6) hY hR hp (by omega) (by omega)) rfl rfl (Nat.le_of_ble_eq_true rfl) ?_
        rintro r h9 ⟨rfl, s1, rfl, hs1, hR1⟩
        refine b_if_eq 150 dX12_land_140 (by decide) (fun c4 => ?_) (fun c4 => ?_)
        · skip
          have d6 : ¬ kd Y Q.1 = 6 := of_decide_eq_false ((bI_0 _).mp c4)
          rw [if_neg d6] at hR1
          refine b_aload_n dX12_land_150 rfl ?_
          refine b_bipush (v := nI 7) dX12_land_151 (by decide) ?_
          refine g_callVp [.int (nI 7)] dX12_land_153 kX12_eats lX12_153 a77 rfl rfl (m_eats (d := d + 25) (k := 7) hY hR1 hp (by omega) (by omega)) rfl rfl (Nat.le_of_ble_eq_true rfl) ?_
          rintro r h9 ⟨rfl, s2, rfl, hs2, hR2⟩
          refine b_if_eq 166 dX12_land_156 (by decide) (fun c5 => ?_) (fun c5 => ?_)
          · skip
            have d7 : ¬ kd Y Q.1 = 7 := of_decide_eq_false ((bI_0 _).mp c5)
            rw [if_neg d7] at hR2
            refine b_aload_n dX12_land_166 rfl ?_
            refine b_bipush (v := nI 8) dX12_land_167 (by decide) ?_
            refine g_callVp [.int (nI 8)] dX12_land_169 kX12_eats lX12_153 a77 rfl rfl (m_eats (d := d + 25) (k := 8) hY hR2 hp (by omega) (by omega)) rfl rfl (Nat.le_of_ble_eq_true rfl) ?_
            rintro r h9 ⟨rfl, s3, rfl, hs3, hR3⟩
            have k3 := kM_t (kM_t hs1 hs2) hs3
            refine b_if_eq 197 dX12_land_172 (by decide) (fun c6 => ?_) (fun c6 => ?_)
            · skip
              have d8 : ¬ kd Y Q.1 = 8 := of_decide_eq_false ((bI_0 _).mp c6)
              rw [if_neg d8] at hR3
              have eN : N = (fail Y 2 Q.1, Q.2) := by rw [hN]; unfold xLn; rw [if_neg d0, if_neg d3, if_neg d4, if_neg d6, if_neg d7, if_neg d8]
              refine b_aload_n dX12_land_197 rfl ?_
              refine b_iconst (v := nI 2) dX12_land_198 (by decide) ?_
              refine g_callVp [.int (nI 2)] dX12_land_199 kX12_fails lX12_141 a77 rfl rfl (m_fails hR3 (f := 2) (by omega) (by omega)) rfl rfl (Nat.le_of_ble_eq_true rfl) ?_
              rintro r h9 ⟨rfl, s4, rfl, hs4, hR4⟩
              refine af s4 (kN_m (kM_t k3 hs4)) (by rw [eN]; exact hR4) (fun z => ?_)
              rw [eN] at z
              exact absurd z (fail_0 (by omega))
            · skip
              have d8 : kd Y Q.1 = 8 := of_decide_eq_true ((bI_1 _).mp c6)
              rw [if_pos d8] at hR3
              have eN : N = xTrue Y Q.1 Q.2 := by rw [hN]; unfold xLn; rw [if_neg d0, if_neg d3, if_neg d4, if_neg d6, if_neg d7, if_pos d8]
              have l3 := LM_m hL k3
              obtain ⟨W, hWe⟩ : ∃ W, Q.2.1.W = W := ⟨_, rfl⟩
              have hW16 : W ≤ 16 := by rw [← hWe]; exact l3.2.1.1
              refine b_aload_n dX12_land_175 rfl ?_
              refine g_get dX12_land_176 fX12_24 a77 rfl ?_
              refine b_iconst (v := nI 4) dX12_land_179 (by decide) ?_
              refine b_aload_n dX12_land_180 rfl ?_
              refine b_iconst (v := nI 0) dX12_land_181 (by decide) ?_
              refine b_aload_n dX12_land_182 rfl ?_
              refine g_get dX12_land_183 fX12_24 a77 rfl ?_
              refine b_iconst (v := nI 1) dX12_land_186 (by decide) ?_
              refine g_iald dX12_land_187 a81 rfl (by omega) ?_
              refine b_top (show s3 81 1 = nI W by rw [← hWe]; exact l3.1.2.1) ?_
              refine b_iconst (v := nI 1) dX12_land_188 (by decide) ?_
              refine b_isub dX12_land_189 ?_
              refine g_callVp [.int (nI 0), .int ((nI W) - (nI 1))] dX12_land_190 kX12_takes lX12_149 a77 rfl rfl (m_takes (d := d + 25) (zh := W) hY hR3 (PO_nx0 hp) (by omega) (by omega) rfl) rfl rfl (Nat.le_of_ble_eq_true rfl) ?_
              rintro r h9 ⟨v, s4, rfl, rfl, hs4, hR4, hv⟩
              refine g_iast dX12_land_193 a81 rfl (by omega) ?_
              refine b_goto 202 dX12_land_194 (by decide) ?_
              have k4 := kM_t k3 hs4
              unfold xTrue at eN
              rw [hWe] at eN
              refine af (pt s4 81 4 v) (kN_p (kN_m k4) (by omega)) (RM_pt (by rw [eN]; exact hR4) (by omega) (by omega) (by omega)) (fun z => ?_)
              rw [eN] at z ⊢
              rw [← hWe]
              exact LM_true (LM_m hL k4) (fun q hq => pt_j hq) (by rw [pt_s, hWe]; exact hv z) (pt_r (by omega)) (pt_r (by omega))
          · skip
            have d7 : kd Y Q.1 = 7 := of_decide_eq_true ((bI_1 _).mp c5)
            rw [if_pos d7] at hR2
            have eN : N = xHint Y Q.1 Q.2 := by rw [hN]; unfold xLn; rw [if_neg d0, if_neg d3, if_neg d4, if_neg d6, if_pos d7]
            have k2 := kM_t hs1 hs2
            refine b_aload_n dX12_land_159 rfl ?_
            refine g_callVp [] dX12_land_160 kX12_readHint lX12_212 a77 rfl rfl (m_readHint (d := d + 24) hY hR2 (PO_nx0 hp) (LM_m hL k2)) rfl rfl (Nat.le_of_ble_eq_true rfl) ?_
            rintro r h9 ⟨rfl, s3, rfl, hs3, hR3, hL3⟩
            rw [← eN] at hR3 hL3
            refine b_goto 202 dX12_land_163 (by decide) ?_
            exact af s3 (kN_t (kN_m k2) hs3) hR3 hL3
        · skip
          have d6 : kd Y Q.1 = 6 := of_decide_eq_true ((bI_1 _).mp c4)
          rw [if_pos d6] at hR1
          have eN : N = xRoad Y Q.1 Q.2 := by rw [hN]; unfold xLn; rw [if_neg d0, if_neg d3, if_neg d4, if_pos d6]
          refine b_aload_n dX12_land_143 rfl ?_
          refine g_callVp [] dX12_land_144 kX12_readRoad lX12_209 a77 rfl rfl (m_readRoad (d := d + 24) hY hR1 (PO_nx0 hp) (LM_m hL hs1)) rfl rfl (Nat.le_of_ble_eq_true rfl) ?_
          rintro r h9 ⟨rfl, s3, rfl, hs3, hR3, hL3⟩
          rw [← eN] at hR3 hL3
          refine b_goto 202 dX12_land_147 (by decide) ?_
          exact af s3 (kN_t (kN_m hs1) hs3) hR3 hL3
      · skip
        have d4 : kd Y Q.1 = 4 := of_decide_eq_true ((bI_1 _).mp c3)
        have eN : N = xPerson Y Q.1 Q.2 := by rw [hN]; unfold xLn; rw [if_neg d0, if_neg d3, if_pos d4]
        refine b_aload_n dX12_land_127 rfl ?_
        refine g_callVp [] dX12_land_128 kX12_readPerson lX12_206 a77 rfl rfl (m_readPerson (d := d + 24) hY hR hp hk hL) rfl rfl (Nat.le_of_ble_eq_true rfl) ?_
        rintro r h9 ⟨rfl, s3, rfl, hs3, hR3, hL3⟩
        rw [← eN] at hR3 hL3
        refine b_goto 202 dX12_land_131 (by decide) ?_
        exact af s3 hs3 hR3 hL3
    · skip
      have d3 : kd Y Q.1 = 3 := of_decide_eq_true ((bI_1 _).mp c2)
      have eN : N = xFact Y Q.1 Q.2 := by rw [hN]; unfold xLn; rw [if_neg d0, if_pos d3]
      refine b_aload_n dX12_land_112 rfl ?_
      refine g_callVp [] dX12_land_113 kX12_readFact lX12_203 a77 rfl rfl (m_readFact (d := d) hY hR hp hk hL o3) rfl rfl (Nat.le_of_ble_eq_true rfl) ?_
      rintro r h9 ⟨rfl, s3, rfl, hs3, hR3, hL3⟩
      rw [← eN] at hR3 hL3
      refine b_goto 202 dX12_land_116 (by decide) ?_
      exact af s3 hs3 hR3 hL3
  · skip
    have d0 : kd Y Q.1 = 0 := of_decide_eq_true ((bI_1 _).mp c1)
    have eN : N = xWorld Y Q.1 Q.2 := by rw [hN]; unfold xLn; rw [if_pos d0]
    refine b_aload_n dX12_land_97 rfl ?_
    refine g_callVp [] dX12_land_98 kX12_readWorld lX12_200 a77 rfl rfl (m_readWorld (d := d + 24) hY hR hp hk hL o1.2.2.2.1) rfl rfl (Nat.le_of_ble_eq_true rfl) ?_
    rintro r h9 ⟨rfl, s3, rfl, hs3, hR3, hL3⟩
    rw [← eN] at hR3 hL3
    refine b_goto 202 dX12_land_101 (by decide) ?_
    exact af s3 hs3 hR3 hL3

