/-! ===== the reference: all of land ===== -/
set_option maxHeartbeats 4000000 in
theorem m_X_land {G : GT} {d : Nat} {σ : ST} {μ : SL} {X : TX} {T n : Nat} (h0 : T0 σ) (hTp : σ 77 8 = nI T) (hT9 : T ≤ 900) (hn : n ≤ T) (hT : ∀ k, k < 900 → X.1 k < 256 ∧ σ 80 k = nI (X.1 k)) (hX : n = X.2) : Fn G (d + 32) mX12_land [.ref (G.b0 + 77), .int (nI n)] (sh G σ μ) (LandM G μ σ X) := by
  obtain ⟨M, hM⟩ := ex_M X
  have hY : PxO (X, M) := ⟨hM, show X.2 ≤ 900 by omega⟩
  have hM9 : M ≤ 900 := hY.le
  refine fn_of (ls := [some (.ref (G.b0 + 77)), some (.int (nI n)), none, none]) (by decide +kernel) (Nat.le_of_ble_eq_true rfl) 2 rfl ?_
  refine b_aload_n dX12_land_0 rfl ?_
  refine b_iconst (v := nI 0) dX12_land_1 (by decide) ?_
  refine g_put dX12_land_2 wX12_1 a77 tfX12_0 (Nat.le_of_ble_eq_true rfl) rfl ?_
  refine b_sig h0.t0 ?_
  refine b_iload_n dX12_land_5 rfl ?_
  refine b_i2l dX12_land_6 ?_
  refine b_lconst (v := 0) dX12_land_7 (by decide) ?_
  refine b_aload_n dX12_land_8 rfl ?_
  refine g_geti (x := nI T) dX12_land_9 fX12_83 a77 rfl hTp ?_
  refine b_i2l dX12_land_12 ?_
  refine b_callSr [.long ((nI n).toInt64), .long 0, .long ((nI T).toInt64)] dX12_land_13 kX12_within lX12_145 c_within rfl rfl (Nat.le_of_ble_eq_true rfl) ?_
  rw [wi_T hT9, inR_nI (by omega) (by omega), decide_eq_true (show n < T + 1 by omega)]
  refine b_if_ne_t 22 dX12_land_16 (by decide) (by decide) ?_
  refine b_aload_n dX12_land_22 rfl ?_
  refine b_iload_n dX12_land_23 rfl ?_
  refine g_put dX12_land_24 wX12_86 a77 tfX12_11 (Nat.le_of_ble_eq_true rfl) rfl ?_
  refine b_aload_n dX12_land_27 rfl ?_
  refine b_iconst (v := nI 0) dX12_land_28 (by decide) ?_
  refine g_put dX12_land_29 wX12_83 a77 tfX12_8 (Nat.le_of_ble_eq_true rfl) rfl ?_
  refine b_aload_n dX12_land_32 rfl ?_
  refine b_iconst (v := nI 0) dX12_land_33 (by decide) ?_
  refine g_put dX12_land_34 wX12_104 a77 tfX12_10 (Nat.le_of_ble_eq_true rfl) rfl ?_
  refine b_aload_n dX12_land_37 rfl ?_
  refine b_iconst (v := nI 0) dX12_land_38 (by decide) ?_
  refine g_put dX12_land_39 wX12_129 a77 tfX12_14 (Nat.le_of_ble_eq_true rfl) rfl ?_
  refine b_aload_n dX12_land_42 rfl ?_
  refine b_iconst (v := nI 0) dX12_land_43 (by decide) ?_
  refine g_put dX12_land_44 wX12_156 a77 tfX12_18 (Nat.le_of_ble_eq_true rfl) rfl ?_
  refine b_iconst (v := nI 0) dX12_land_47 (by decide) ?_
  refine b_istore_n dX12_land_48 (by decide) rfl ?_
  obtain ⟨s1, hs1⟩ : ∃ s1, s1 = pt (pt (pt (pt (pt σ 77 11 (nI n)) 77 8 (nI 0)) 77 10 (nI 0)) 77 14 (nI 0)) 77 18 (nI 0) := ⟨_, rfl⟩
  refine b_sig hs1.symm ?_
  have a8 : s1 77 8 = nI 0 := by rw [hs1, pt_j (by omega), pt_j (by omega), pt_j (by omega), pt_s]
  have a10 : s1 77 10 = nI 0 := by rw [hs1, pt_j (by omega), pt_j (by omega), pt_s]
  have a11 : s1 77 11 = nI n := by rw [hs1, pt_j (by omega), pt_j (by omega), pt_j (by omega), pt_j (by omega), pt_s]
  have a14 : s1 77 14 = nI 0 := by rw [hs1, pt_j (by omega), pt_s]
  have a18 : s1 77 18 = nI 0 := by rw [hs1, pt_s]
  have aq : ∀ q, q < 8 ∨ 18 < q → s1 77 q = σ 77 q := fun q hq => by rw [hs1, pt_j (by omega), pt_j (by omega), pt_j (by omega), pt_j (by omega), pt_j (by omega)]
  have ac : ∀ c, c ≠ 77 → s1 c = σ c := fun c hc => by rw [hs1, pt_r hc, pt_r hc, pt_r hc, pt_r hc, pt_r hc]
  clear hs1
  -- what is read is laid down
  have fin : ∀ (s : ST) (z2 z3 : Option Value), (∀ c, c ≠ 77 → ¬ (81 ≤ c ∧ c ≤ 84) → s c = σ c) → (∀ q, q < 8 ∨ 18 < q → s 77 q = σ 77 q) → s 77 8 = nI 0 → RM s (X, M) (xRes X M).1 → ((xRes X M).1.2.1 = 0 → LM s (xRes X M).2) → PO (X, M) 0 (xRes X M).1 → LOk (xRes X M) → BB G RX12 cX12_land 4 (some .int) (d + 32) (QM G (LandM G μ σ X)) 229 [some (.ref (G.b0 + 77)), some (.int (nI n)), z2, z3] [] (sh G s μ) := by
    intro s z2 z3 k1 k2 k8 hR hL hp hO
    have hl := hR.l
    obtain ⟨f, hf⟩ : ∃ f, f = (xRes X M).1.2.1 := ⟨_, rfl⟩
    have w14 : s 77 14 = nI f := by rw [hf]; exact hR.w
    have w14' : pt s 77 16 (nI f) 77 14 = nI f := by rw [pt_j (by omega)]; exact w14
    refine b_aload_n dX12_land_229 rfl ?_
    refine b_aload_n dX12_land_230 rfl ?_
    refine g_geti (x := nI f) dX12_land_231 fX12_129 a77 rfl w14 ?_
    refine g_put dX12_land_234 wX12_215 a77 tfX12_16 (Nat.le_of_ble_eq_true rfl) rfl ?_
    refine b_aload_n dX12_land_237 rfl ?_
    refine b_aload_n dX12_land_238 rfl ?_
    refine g_geti (x := nI f) dX12_land_239 fX12_129 a77 rfl w14' ?_
    have fr : ∀ y, kF σ (pt (pt s 77 16 (nI f)) 77 17 y) := fun y => ⟨fun c a b e => by rw [pt_r a, pt_r a]; exact k1 c a (by omega), fun q hq => by rw [pt_j (by omega), pt_j (by omega)]; exact k2 q hq⟩
    have f8 : ∀ y, pt (pt s 77 16 (nI f)) 77 17 y 77 8 = nI 0 := fun y => by rw [pt_j (by omega), pt_j (by omega)]; exact k8
    have f16 : ∀ y, pt (pt s 77 16 (nI f)) 77 17 y 77 16 = nI f := fun y => by rw [pt_j (by omega), pt_s]
    have f14 : ∀ y, pt (pt s 77 16 (nI f)) 77 17 y 77 14 = nI f := fun y => by rw [pt_j (by omega)]; exact w14'
    refine b_if_ne 249 dX12_land_242 (by decide) (fun c1 => ?_) (fun c1 => ?_)
    · skip
      have c2 : (xRes X M).1.2.1 ≠ 0 := fun z => c1 (by rw [hf, z]; rfl)
      refine b_aload_n dX12_land_249 rfl ?_
      refine g_geti (x := nI ((xRes X M).1.2.2.1)) dX12_land_250 fX12_132 a77 rfl (by rw [pt_j (by omega)]; exact hR.2.2.2.2 c2) ?_
      refine g_put dX12_land_253 wX12_36 a77 tfX12_17 (Nat.le_of_ble_eq_true rfl) rfl ?_
      refine b_aload_n dX12_land_256 rfl ?_
      refine g_geti (x := nI f) dX12_land_257 fX12_129 a77 rfl (f14 _) ?_
      refine b_if_eq_f 271 dX12_land_260 (by decide) (nI_ne0 (by omega) (by omega)) ?_
      refine b_bipush (v := -30) dX12_land_263 (by decide) ?_
      refine b_aload_n dX12_land_265 rfl ?_
      refine g_geti (x := nI f) dX12_land_266 fX12_129 a77 rfl (f14 _) ?_
      refine b_isub dX12_land_269 ?_
      exact b_iret dX12_land_270 ⟨_, M, hM, rfl, fr _, f8 _, by rw [f16, hf], by rw [pt_s, if_neg c2], fun _ => ⟨by rw [hf], by rw [pt_r (by omega), pt_r (by omega)]; exact k1 78 (by omega) (by omega)⟩, fun z => absurd z c2⟩
    · skip
      have c2 : (xRes X M).1.2.1 = 0 := by rw [← hf]; exact nI_z (by omega) c1
      refine b_iconst (v := -1) dX12_land_245 (by decide) ?_
      refine b_goto 253 dX12_land_246 (by decide) ?_
      refine g_put dX12_land_253 wX12_36 a77 tfX12_17 (Nat.le_of_ble_eq_true rfl) rfl ?_
      refine b_aload_n dX12_land_256 rfl ?_
      refine g_geti (x := nI f) dX12_land_257 fX12_129 a77 rfl (f14 _) ?_
      refine b_if_eq_t 271 dX12_land_260 (by decide) (by rw [hf, c2]; rfl) ?_
      obtain ⟨s', hs'⟩ : ∃ s', s' = pt (pt s 77 16 (nI f)) 77 17 (-1) := ⟨_, rfl⟩
      have fr' := fr (-1)
      have f8' := f8 (-1)
      have f16' := f16 (-1)
      have f17' : s' 77 17 = -1 := by rw [hs', pt_s]
      have ec : ∀ c, c ≠ 77 → s' c = s c := fun c hc => by rw [hs', pt_r hc, pt_r hc]
      rw [← hs'] at fr' f8' f16'
      refine b_sig hs'.symm ?_
      clear hs'
      have hL' : LM s' (xRes X M).2 := LM_of (hL c2) (ec 81 (by omega)) (ec 83 (by omega)) (ec 84 (by omega))
      obtain ⟨o1, o2, o3⟩ := hO c2
      have hpp := hp c2
      refine m_landH (d := d + 30) hL' (fun j c hj => by rw [ec 82 (by omega)]; exact (hR.2.2.2.1 c2).2.2 j c hj) (by have := hpp.1; have := hpp.2; omega) o2 (fun s3 y2 y3 hI => ?_)
      obtain ⟨i1, i2, i3⟩ := hI
      have hF8 := hL'.2.1.2.1
      refine m_landC (fun s4 j1 j2 j3 => ?_)
      have e7 : s4 77 = s' 77 := by rw [j1 77 (by omega), i1 77 (by omega) (by omega)]
      refine ⟨s4, M, hM, rfl, ⟨fun c a b e => ?_, fun q hq => ?_⟩, ?_, ?_, ?_, fun z => absurd c2 z, fun _ => ⟨?_, fun q hq => ?_, fun g hg => ?_, fun q h1 h2 => ?_, s', hL', fun q hq => ?_⟩⟩
      · rw [j1 c b, i1 c (by omega) (by omega)]; exact fr'.1 c a b e
      · rw [e7]; exact fr'.2 q hq
      · rw [e7]; exact f8'
      · rw [e7, f16', hf]
      · rw [e7, if_pos c2]; exact f17'
      · rw [i2 0 (by omega), hL'.1.1]
      · rw [j3 q hq, i1 78 (by omega) (by omega), ec 78 (by omega), k1 78 (by omega) (by omega)]
      · rw [j2 (105 + g) (by omega)]; exact i3 g hg
      · rw [j2 q h2, i2 q (by omega)]; exact hL'.2.2.2.2.2.2.2 q (by omega) h2
      · rw [j2 q (by omega), i2 q (by omega)]
  have lp0 : ∀ (m k : Nat) (s : ST), k + m = 198 → (∀ c, c ≠ 81 → s c = s1 c) → (∀ q, q < k → s 81 q = nI 0) → BB G RX12 cX12_land 4 (some .int) (d + 32) (QM G (LandM G μ σ X)) 49 [some (.ref (G.b0 + 77)), some (.int (nI n)), some (.int (nI k)), none] [] (sh G s μ) := by
    intro m
    induction m with
    | zero =>
      intro k s hk k1 k2
      have ek : k = 198 := by omega
      subst ek
      have e7 := k1 77 (by omega)
      have hTx : TxM s X := ⟨by omega, fun j hj => by rw [k1 80 (by omega), ac 80 (by omega)]; exact hT j hj, by rw [e7, a11, hX]⟩
      refine b_iload_n dX12_land_49 rfl ?_
      refine b_sipush (v := nI 198) dX12_land_50 (by decide) ?_
      refine b_icmp_ge_t 69 dX12_land_53 (by decide) (by decide) ?_
      refine b_aload_n dX12_land_69 rfl ?_
      refine g_callVp [] dX12_land_70 kX12_next lX12_138 a77 rfl rfl (m_next (d := d + 26) (i := 0) hTx (by rw [e7]; exact a10)) rfl rfl (Nat.le_of_ble_eq_true rfl) ?_
      rintro r h9 ⟨rfl, s2, rfl, hN, hTk⟩
      have b14 : s2 77 14 = nI 0 := by rw [hN.2 14 (by omega), e7]; exact a14
      have b18 : s2 77 18 = nI 0 := by rw [hN.2 18 (by omega), e7]; exact a18
      have b8 : s2 77 8 = nI 0 := by rw [hN.2 8 (by omega), e7]; exact a8
      have b81 : ∀ q, q < 198 → s2 81 q = nI 0 := fun q hq => by rw [hN.1 81 (by omega)]; exact k2 q hq
      have bq : ∀ q, q < 8 ∨ 18 < q → s2 77 q = σ 77 q := fun q hq => by rw [hN.2 q (by omega), e7]; exact aq q hq
      have bc : ∀ c, c ≠ 77 → ¬ (81 ≤ c ∧ c ≤ 84) → s2 c = σ c := fun c a b => by rw [hN.1 c a, k1 c (by omega)]; exact ac c a
      have lp : ∀ (m : Nat) (Q : FS × LB) (s : ST), kN s2 s → RM s (X, M) Q.1 → (Q.1.2.1 = 0 → LM s Q.2) → PO (X, M) 0 Q.1 → LOk Q → (Q.1.2.1 = 0 → M ≤ Q.1.1 + m) → xAll (X, M) m Q = xRes X M → BB G RX12 cX12_land 4 (some .int) (d + 32) (QM G (LandM G μ σ X)) 73 [some (.ref (G.b0 + 77)), some (.int (nI n)), some (.int (nI 198)), none] [] (sh G s μ) := by
        have st : ∀ (Q : FS × LB) (s : ST), kN s2 s → RM s (X, M) Q.1 → (Q.1.2.1 = 0 → LM s Q.2) → PO (X, M) 0 Q.1 → LOk Q → (kd (X, M) Q.1 = 17 → Q = xRes X M) → (kd (X, M) Q.1 ≠ 17 → BB G RX12 cX12_land 4 (some .int) (d + 32) (QM G (LandM G μ σ X)) 89 [some (.ref (G.b0 + 77)), some (.int (nI n)), some (.int (nI 198)), none] [] (sh G s μ)) → BB G RX12 cX12_land 4 (some .int) (d + 32) (QM G (LandM G μ σ X)) 73 [some (.ref (G.b0 + 77)), some (.int (nI n)), some (.int (nI 198)), none] [] (sh G s μ) := by
          intro Q s kk hR hL hp hO hno hgo
          have hl := hR.l
          have hkd := (kd_ok (X, M) Q.1).1
          have out : kd (X, M) Q.1 = 17 → BB G RX12 cX12_land 4 (some .int) (d + 32) (QM G (LandM G μ σ X)) 229 [some (.ref (G.b0 + 77)), some (.int (nI n)), some (.int (nI 198)), none] [] (sh G s μ) := fun z => by
            have e := hno z
            rw [e] at hR hL hp hO
            exact fin s _ _ (fun c a b => (kk.1 c a b).trans (bc c a b)) (fun q hq => (kk.2 q (by omega)).trans (bq q hq)) ((kk.2 8 (by omega)).trans b8) hR hL hp hO
          refine b_aload_n dX12_land_73 rfl ?_
          refine g_geti (x := nI Q.1.2.1) dX12_land_74 fX12_129 a77 rfl hR.w ?_
          refine b_if_ne 229 dX12_land_77 (by decide) (fun c1 => ?_) (fun c1 => ?_)
          · skip
            have c2 : Q.1.2.1 ≠ 0 := fun z => c1 (by rw [z]; rfl)
            exact out (kd_n c2)
          · skip
            have c2 : Q.1.2.1 = 0 := nI_z (by omega) c1
            refine b_aload_n dX12_land_80 rfl ?_
            refine g_geti (x := nI (kd (X, M) Q.1)) dX12_land_81 fX12_111 a77 rfl (hR.k c2) ?_
            refine b_bipush (v := nI 17) dX12_land_84 (by decide) ?_
            refine b_icmp_eq 229 dX12_land_86 (by decide) (fun c3 => ?_) (fun c3 => ?_)
            · skip
              rw [nI_eq (by omega) (by omega)] at c3
              exact out c3
            · skip
              exact hgo (fun z => c3 (by rw [z]))
        intro m
        induction m with
        | zero =>
          intro Q s kk hR hL hp hO hm he
          have h17 := kd_end hY hp (fun z => by have := hm z; exact this)
          exact st Q s kk hR hL hp hO (fun _ => he) (fun z => absurd h17 z)
        | succ m ih =>
          intro Q s kk hR hL hp hO hm he
          rw [xAll] at he
          refine st Q s kk hR hL hp hO (fun z => by rw [if_pos z] at he; exact he) (fun z => ?_)
          rw [if_neg z] at he
          have h00 := (kd_lt hY hp z).1
          refine m_landL (d := d) hY hR hp z (hL h00) hO (fun s' ks hR' hL' => ?_)
          exact ih _ s' (kN_t kk ks) hR' hL' (PO_xLine hY hp) (LOk_line hO) (xLine_go hY (PO_xLn hY hp) hm) he
      refine lp (X.2 + 1) Q0 s2 (kN_r s2) ⟨TxM_nx hTx hN, by decide, b14, fun _ => ⟨hTk, b18, fun j c hj => absurd hj (by simp [Q0])⟩, fun z => absurd rfl z⟩ (fun _ => ?_) (fun _ => ⟨Nat.zero_le _, Nat.le_refl _⟩) LOk_0 (fun _ => by show M ≤ 0 + (X.2 + 1); have := isM_le hM; omega) rfl
      refine ⟨⟨b81 0 (by omega), b81 1 (by omega), b81 2 (by omega), b81 3 (by omega), b81 4 (by omega)⟩, ⟨Nat.zero_le _, Nat.zero_le _, Nat.zero_le _⟩, fun w hw => absurd hw (Nat.not_lt_zero w), fun w hw => absurd hw (Nat.not_lt_zero w), fun p hp => b81 _ (by omega), fun p hp => b81 _ (by omega), fun w hw => absurd hw (Nat.not_lt_zero w), fun q _ h2 => b81 q h2⟩
    | succ m ih =>
      intro k s hk k1 k2
      refine b_iload_n dX12_land_49 rfl ?_
      refine b_sipush (v := nI 198) dX12_land_50 (by decide) ?_
      refine b_icmp_ge_f 69 dX12_land_53 (by decide) (nI_ge (by omega) (by omega)) ?_
      refine b_aload_n dX12_land_56 rfl ?_
      refine g_get dX12_land_57 fX12_24 a77 rfl ?_
      refine b_iload_n dX12_land_60 rfl ?_
      refine b_iconst (v := nI 0) dX12_land_61 (by decide) ?_
      refine g_iast dX12_land_62 a81 rfl (by omega) ?_
      refine b_iinc dX12_land_63 rfl (nI_1 _) (by decide) rfl ?_
      refine b_goto 49 dX12_land_66 (by decide) ?_
      refine ih (k + 1) _ (by omega) (fun c hc => by rw [pt_r hc]; exact k1 c hc) (fun q hq => ?_)
      by_cases e : q = k
      · subst e
        rw [pt_s]
      · rw [pt_j e]; exact k2 q (by omega)
  exact lp0 198 0 s1 (by omega) (fun _ _ => rfl) (fun q hq => absurd hq (by omega))

