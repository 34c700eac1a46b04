/-! ===== the reference: the other lines ===== -/
theorem LM_fact {σ s : ST} {B : LB} {F l : Nat} (hB : LM σ B) (hFe : F = B.1.F) (hF : F < 8) (e1 : ∀ q, q ≠ 2 → s 81 q = σ 81 q) (e2 : s 81 2 = nI (F + 1)) (e3 : ∀ q, q ≠ F → s 83 q = σ 83 q ∧ s 84 q = σ 84 q) (e4 : s 83 F = nI (fst0 B.2.2 F)) (e5 : s 84 F = nI (l - fst0 B.2.2 F)) : LM s (((B.1.W, B.1.F + 1, B.1.P, B.1.t), B.1.2), B.2.1, fun f => if f = B.1.F then l else B.2.2 f) := by
  subst hFe
  obtain ⟨⟨g0, g1, g2, g3, g4⟩, ⟨b1, b2, b3⟩, w, tl, rd, hi, fe, z⟩ := hB
  refine ⟨⟨by rw [e1 0 (by omega)]; exact g0, by rw [e1 1 (by omega)]; exact g1, e2, by rw [e1 3 (by omega)]; exact g3, by rw [e1 4 (by omega)]; exact g4⟩, ⟨b1, hF, b3⟩, fun v hv => ?_, fun p hp => ?_, fun p hp => ?_, fun f hf => ?_, fun f hf => ?_, fun q h1 h2 => ?_⟩
  · obtain ⟨a1, a2, a3⟩ := w v hv
    exact ⟨fun k hk => by rw [e1 _ (by omega)]; exact a1 k hk, by rw [e1 _ (by omega)]; exact a2, by rw [e1 _ (by omega)]; exact a3⟩
  · rw [e1 _ (by omega)]; exact tl p hp
  · rw [e1 _ (by omega)]; exact rd p hp
  · rw [e1 _ (by omega)]; exact hi f hf
  · have hf' : f < B.1.F + 1 := hf
    have ef : fst0 (fun f => if f = B.1.F then l else B.2.2 f) f = fst0 B.2.2 f := by
      unfold fst0
      by_cases h0 : f = 0
      · rw [if_pos h0, if_pos h0]
      · rw [if_neg h0, if_neg h0]; exact if_neg (by omega)
    show s 83 f = nI (fst0 (fun f => if f = B.1.F then l else B.2.2 f) f) ∧ s 84 f = nI ((if f = B.1.F then l else B.2.2 f) - fst0 (fun f => if f = B.1.F then l else B.2.2 f) f)
    rw [ef]
    by_cases e : f = B.1.F
    · subst e
      rw [if_pos rfl]; exact ⟨e4, e5⟩
    · rw [if_neg e, (e3 f e).1, (e3 f e).2]; exact fe f (by omega)
  · rw [e1 _ (by omega)]; exact z q h1 h2
set_option maxHeartbeats 1000000 in
theorem m_readFact {G : GT} {d : Nat} {σ : ST} {μ : SL} {Y : PX} {S : FS} {B : LB} (hY : PxO Y) (hR : RM σ Y S) (hp : PO Y 0 S) (hk : kd Y S ≠ 17) (hB : LM σ B) (hL : fst0 B.2.2 B.1.F = S.2.2.2.length) : Fn G (d + 31) mX12_readFact [.ref (G.b0 + 77)] (sh G σ μ) (PLm G μ σ Y (xFact Y S B)) := by
  have h0 := (kd_lt hY hp hk).1
  obtain ⟨F, hFe⟩ : ∃ F, F = B.1.F := ⟨_, rfl⟩
  have hF : σ 81 2 = nI F := by rw [hFe]; exact hB.1.2.2.1
  have hF8 : F ≤ 8 := by rw [hFe]; exact hB.2.1.2.1
  refine fn_of (ls := [some (.ref (G.b0 + 77)), none]) (by decide +kernel) (Nat.le_of_ble_eq_true rfl) 1 rfl ?_
  refine b_aload_n dX12_readFact_0 rfl ?_
  refine g_get dX12_readFact_1 fX12_24 a77 rfl ?_
  refine b_iconst (v := nI 2) dX12_readFact_4 (by decide) ?_
  refine g_iald dX12_readFact_5 a81 rfl (by omega) ?_
  refine b_top hF ?_
  refine b_istore_n dX12_readFact_6 (by decide) rfl ?_
  refine b_iload_n dX12_readFact_7 rfl ?_
  refine b_bipush (v := nI 8) dX12_readFact_8 (by decide) ?_
  refine b_icmp_ne 18 dX12_readFact_10 (by decide) (fun c1 => ?_) (fun c1 => ?_)
  · skip
    have c2 : ¬ F = 8 := fun z => c1 (by rw [z])
    obtain ⟨T, hT⟩ : ∃ T, T = takK Y 21 (nxt Y S) := ⟨_, rfl⟩
    have hpT : PO Y 0 T := by rw [hT]; exact PO_tak hY (PO_nx0 hp) (by omega)
    have hkT : T.2.1 = 0 → T.2 = S.2 := by rw [hT]; exact kp_tak (kp_nxt (kp_r S))
    have ex : xFact Y S B = ((utN Y 6).2 T, (((B.1.W, B.1.F + 1, B.1.P, B.1.t), B.1.2), B.2.1, fun f => if f = B.1.F then ((utN Y 6).2 T).2.2.2.length else B.2.2 f)) := by unfold xFact; rw [if_neg (by omega), hT]
    rw [ex]
    refine b_aload_n dX12_readFact_18 rfl ?_
    refine g_geti (x := nI S.2.1) dX12_readFact_19 fX12_129 a77 rfl hR.w ?_
    refine b_if_eq_t 26 dX12_readFact_22 (by decide) (by rw [h0]; rfl) ?_
    refine b_aload_n dX12_readFact_26 rfl ?_
    refine g_callVp [] dX12_readFact_27 kX12_next lX12_138 a77 rfl rfl (m_nx (d := d + 25) hY hR hp hk) rfl rfl (Nat.le_of_ble_eq_true rfl) ?_
    rintro r h9 ⟨rfl, s1, rfl, hs1, hR1⟩
    refine b_aload_n dX12_readFact_30 rfl ?_
    refine b_bipush (v := nI 21) dX12_readFact_31 (by decide) ?_
    have af : ∀ s : ST, kM σ s → RM s Y T → BB G RX12 cX12_readFact 2 none (d + 31) (QM G (PLm G μ σ Y ((utN Y 6).2 T, (((B.1.W, B.1.F + 1, B.1.P, B.1.t), B.1.2), B.2.1, fun f => if f = B.1.F then ((utN Y 6).2 T).2.2.2.length else B.2.2 f)))) 44 [some (.ref (G.b0 + 77)), some (.int (nI F))] [] (sh G s μ) := by
      intro s hs hRs
      have hTr := (m_rd (G := G) (μ := μ) hY 6 0 d rfl).2.2 (pt s 83 F (s 77 18)) T (RM_pt hRs (by omega) (by omega) (by omega)) hpT
      refine b_aload_n dX12_readFact_44 rfl ?_
      refine g_get dX12_readFact_45 fX12_30 a77 rfl ?_
      refine b_iload_n dX12_readFact_48 rfl ?_
      refine b_aload_n dX12_readFact_49 rfl ?_
      refine g_get dX12_readFact_50 fX12_156 a77 rfl ?_
      refine g_iast dX12_readFact_53 a83 rfl (by omega) ?_
      refine b_aload_n dX12_readFact_54 rfl ?_
      refine b_iconst (v := nI 0) dX12_readFact_55 (by decide) ?_
      refine g_callVp [.int (nI 0)] dX12_readFact_56 kX12_readTruth lX12_183 a77 rfl rfl hTr rfl rfl (Nat.le_of_ble_eq_true rfl) ?_
      rintro r h9 ⟨rfl, s3, rfl, hs3, hR3⟩
      have hl := hR3.l
      have hk3 : kN σ s3 := kN_t (kN_p (kN_m hs) (by omega)) (kN_m hs3)
      refine b_aload_n dX12_readFact_59 rfl ?_
      refine g_geti (x := nI (((utN Y 6).2 T).2.1)) dX12_readFact_60 fX12_129 a77 rfl hR3.w ?_
      refine b_if_eq 67 dX12_readFact_63 (by decide) (fun e1 => ?_) (fun e1 => ?_)
      · skip
        have e2 : ((utN Y 6).2 T).2.1 = 0 := by rw [← nI_0, nI_eq (by omega) (by omega)] at e1; exact e1
        obtain ⟨t1, cs, t2, -, -⟩ := (Tyd_ut (Y := Y) 6).2 T e2
        have eS := hkT t1
        have l3 := (hR3.2.2.2.1 e2).2.1
        have l2 := (hRs.2.2.2.1 t1).2.1
        have hlen : fst0 B.2.2 F = T.2.2.2.length := by rw [eS, hFe]; exact hL
        have hle : T.2.2.2.length ≤ ((utN Y 6).2 T).2.2.2.length := by rw [t2, List.length_append]; omega
        have r83 : s3 83 F = nI (T.2.2.2.length) := by rw [hs3.1 83 (by omega) (by omega), pt_s]; exact l2
        have r81 : ∀ q, s3 81 q = σ 81 q := fun q => by rw [hs3.1 81 (by omega) (by omega), pt_a (by omega), hs.1 81 (by omega) (by omega)]
        refine b_aload_n dX12_readFact_67 rfl ?_
        refine g_get dX12_readFact_68 fX12_33 a77 rfl ?_
        refine b_iload_n dX12_readFact_71 rfl ?_
        refine b_aload_n dX12_readFact_72 rfl ?_
        refine g_geti (x := nI (((utN Y 6).2 T).2.2.2.length)) dX12_readFact_73 fX12_156 a77 rfl l3 ?_
        refine b_aload_n dX12_readFact_76 rfl ?_
        refine g_get dX12_readFact_77 fX12_30 a77 rfl ?_
        refine b_iload_n dX12_readFact_80 rfl ?_
        refine g_iald dX12_readFact_81 a83 rfl (by omega) ?_
        refine b_top r83 ?_
        refine b_isub dX12_readFact_82 ?_
        refine b_top (y := nI ((((utN Y 6).2 T).2.2.2.length) - T.2.2.2.length)) (nI_sub (by omega)) ?_
        refine g_iast dX12_readFact_83 a84 rfl (by omega) ?_
        refine b_aload_n dX12_readFact_84 rfl ?_
        refine g_get dX12_readFact_85 fX12_24 a77 rfl ?_
        refine b_iconst (v := nI 2) dX12_readFact_88 (by decide) ?_
        refine b_dup2 dX12_readFact_89 rfl rfl ?_
        refine g_iald dX12_readFact_90 a81 rfl (by omega) ?_
        refine b_top (show pt s3 84 F (nI (((utN Y 6).2 T).2.2.2.length - T.2.2.2.length)) 81 2 = nI F by rw [pt_a (by omega), r81]; exact hF) ?_
        refine b_iconst (v := nI 1) dX12_readFact_91 (by decide) ?_
        refine b_iaddN dX12_readFact_92 ?_
        refine g_iast dX12_readFact_93 a81 rfl (by omega) ?_
        refine b_vret dX12_readFact_94 (PLm_mk (kN_p (kN_p hk3 (by omega)) (by omega)) (RM_pt (RM_pt hR3 (by omega) (by omega) (by omega)) (by omega) (by omega) (by omega)) (fun _ => LM_fact hB hFe (by omega) (fun q hq => ?_) (pt_s _ _ _ _) (fun q hq => ⟨?_, ?_⟩) ?_ ?_))
        · rw [pt_j hq, pt_a (by omega)]; exact r81 q
        · rw [pt_a (by omega), pt_a (by omega), hs3.1 83 (by omega) (by omega), pt_j hq, hs.1 83 (by omega) (by omega)]
        · rw [pt_a (by omega), pt_j hq, hs3.1 84 (by omega) (by omega), pt_a (by omega), hs.1 84 (by omega) (by omega)]
        · rw [pt_a (by omega), pt_a (by omega), hlen]; exact r83
        · rw [pt_a (by omega), pt_s, hlen]
      · skip
        have e2 : ((utN Y 6).2 T).2.1 ≠ 0 := fun z => e1 (by rw [z]; rfl)
        exact b_vret dX12_readFact_66 (PLm_mk hk3 hR3 (fun z => absurd z e2))
    refine g_callVp [.int (nI 21)] dX12_readFact_33 kX12_eats lX12_153 a77 rfl rfl (m_eats (d := d + 24) (k := 21) hY hR1 (PO_nx0 hp) (by omega) (by omega)) rfl rfl (Nat.le_of_ble_eq_true rfl) ?_
    rintro r h9 ⟨rfl, s2, rfl, hs2, hR2⟩
    refine b_if_ne 44 dX12_readFact_36 (by decide) (fun e1 => ?_) (fun e1 => ?_)
    · skip
      have e2 := of_decide_eq_true ((bI_1 _).mp e1)
      rw [if_pos e2] at hR2
      exact af s2 (kM_t hs1 hs2) (by rw [hT, tak_if, if_pos e2]; exact hR2)
    · skip
      have e2 := of_decide_eq_false ((bI_0 _).mp e1)
      rw [if_neg e2] at hR2
      refine b_aload_n dX12_readFact_39 rfl ?_
      refine b_iconst (v := nI 2) dX12_readFact_40 (by decide) ?_
      refine g_callVp [.int (nI 2)] dX12_readFact_41 kX12_fails lX12_141 a77 rfl rfl (m_fails hR2 (f := 2) (by omega) (by omega)) rfl rfl (Nat.le_of_ble_eq_true rfl) ?_
      rintro r h9 ⟨rfl, s3, rfl, hs3, hR3⟩
      exact af s3 (kM_t (kM_t hs1 hs2) hs3) (by rw [hT, tak_if, if_neg e2]; exact hR3)
  · skip
    rw [nI_eq (by omega) (by omega)] at c1
    have ex : xFact Y S B = (fail Y 4 S, B) := by unfold xFact; rw [if_pos (by omega)]
    rw [ex]
    refine b_aload_n dX12_readFact_13 rfl ?_
    refine b_iconst (v := nI 4) dX12_readFact_14 (by decide) ?_
    refine g_callVp [.int (nI 4)] dX12_readFact_15 kX12_fails lX12_141 a77 rfl rfl (m_fails hR (f := 4) (by omega) (by omega)) rfl rfl (Nat.le_of_ble_eq_true rfl) ?_
    rintro r h9 ⟨rfl, s1, rfl, hs1, hR1⟩
    have hne : (fail Y 4 S).2.1 ≠ 0 := fail_0 (by omega)
    have h10 := hR1.l
    refine b_aload_n dX12_readFact_18 rfl ?_
    refine g_geti (x := nI ((fail Y 4 S).2.1)) dX12_readFact_19 fX12_129 a77 rfl hR1.w ?_
    refine b_if_eq_f 26 dX12_readFact_22 (by decide) (nI_ne0 (by omega) (by omega)) ?_
    exact b_vret dX12_readFact_25 (PLm_mk (kN_m hs1) hR1 (fun z => absurd z hne))
theorem LM_person {σ s : ST} {B : LB} {P : Nat} {x : Int32} (hB : LM σ B) (hPe : P = B.1.P) (hP : P < 6) (e1 : ∀ q, q ≠ 3 → q ≠ 5 + P → s 81 q = σ 81 q) (e2 : s 81 3 = nI (P + 1)) (e5 : s 81 (5 + P) = x) (e3 : s 83 = σ 83) (e4 : s 84 = σ 84) : LM s (((B.1.W, B.1.F, B.1.P + 1, B.1.t), (B.1.num, B.1.wt, B.1.hold, B.1.hint, B.1.road, B.1.gl, fun p => if p = B.1.P then x else B.1.told p)), B.2) := by
  subst hPe
  obtain ⟨⟨g0, g1, g2, g3, g4⟩, ⟨b1, b2, b3⟩, w, tl, rd, hi, fe, z⟩ := hB
  refine ⟨⟨by rw [e1 0 (by omega) (by omega)]; exact g0, by rw [e1 1 (by omega) (by omega)]; exact g1, by rw [e1 2 (by omega) (by omega)]; exact g2, e2, by rw [e1 4 (by omega) (by omega)]; exact g4⟩, ⟨b1, b2, hP⟩, fun v hv => ?_, fun p hp => ?_, fun p hp => ?_, fun f hf => ?_, fun f hf => ?_, fun q h1 h2 => ?_⟩
  · obtain ⟨a1, a2, a3⟩ := w v hv
    exact ⟨fun k hk => by rw [e1 _ (by omega) (by omega)]; exact a1 k hk, by rw [e1 _ (by omega) (by omega)]; exact a2, by rw [e1 _ (by omega) (by omega)]; exact a3⟩
  · have hp' : p < B.1.P + 1 := hp
    show _ = if p = B.1.P then x else B.1.told p
    by_cases e : p = B.1.P
    · subst e
      rw [if_pos rfl]; exact e5
    · rw [if_neg e, e1 _ (by omega) (by omega)]; exact tl p (by omega)
  · rw [e1 _ (by omega) (by omega)]; exact rd p hp
  · rw [e1 _ (by omega) (by omega)]; exact hi f hf
  · rw [e3, e4]; exact fe f hf
  · rw [e1 _ (by omega) (by omega)]; exact z q h1 h2
theorem zor (x : Int32) : nI 0 ||| x = x := by
  apply b_ext; intro i hi; rw [b_or, b_n0]; simp
set_option maxHeartbeats 1000000 in
theorem m_readPerson {G : GT} {d : Nat} {σ : ST} {μ : SL} {Y : PX} {S : FS} {B : LB} (hY : PxO Y) (hR : RM σ Y S) (hp : PO Y 0 S) (hk : kd Y S ≠ 17) (hB : LM σ B) : Fn G (d + 7) mX12_readPerson [.ref (G.b0 + 77)] (sh G σ μ) (PLm G μ σ Y (xPerson Y S B)) := by
  have h0 := (kd_lt hY hp hk).1
  have hM9 := hY.le
  obtain ⟨P, hPe⟩ : ∃ P, P = B.1.P := ⟨_, rfl⟩
  obtain ⟨F, hFe⟩ : ∃ F, F = B.1.F := ⟨_, rfl⟩
  have hP : σ 81 3 = nI P := by rw [hPe]; exact hB.1.2.2.2.1
  have hP6 : P ≤ 6 := by rw [hPe]; exact hB.2.1.2.2
  have hF : σ 81 2 = nI F := by rw [hFe]; exact hB.1.2.2.1
  have hF8 : F ≤ 8 := by rw [hFe]; exact hB.2.1.2.1
  refine fn_of (ls := [some (.ref (G.b0 + 77)), none, none, none, none]) (by decide +kernel) (Nat.le_of_ble_eq_true rfl) 4 rfl ?_
  refine b_aload_n dX12_readPerson_0 rfl ?_
  refine g_get dX12_readPerson_1 fX12_24 a77 rfl ?_
  refine b_iconst (v := nI 3) dX12_readPerson_4 (by decide) ?_
  refine g_iald dX12_readPerson_5 a81 rfl (by omega) ?_
  refine b_top hP ?_
  refine b_istore_n dX12_readPerson_6 (by decide) rfl ?_
  refine b_iload_n dX12_readPerson_7 rfl ?_
  refine b_bipush (v := nI 6) dX12_readPerson_8 (by decide) ?_
  refine b_icmp_ne 18 dX12_readPerson_10 (by decide) (fun c1 => ?_) (fun c1 => ?_)
  · skip
    have c2 : ¬ P = 6 := fun z => c1 (by rw [z])
    obtain ⟨R, hRe⟩ : ∃ R, R = pTold Y F S := ⟨_, rfl⟩
    have ex : xPerson Y S B = (R.1, (((B.1.W, B.1.F, B.1.P + 1, B.1.t), (B.1.num, B.1.wt, B.1.hold, B.1.hint, B.1.road, B.1.gl, fun p => if p = B.1.P then R.2 else B.1.told p)), B.2)) := by unfold xPerson; rw [if_neg (by omega), hRe, hFe]
    rw [ex]
    refine b_aload_n dX12_readPerson_18 rfl ?_
    refine g_geti (x := nI S.2.1) dX12_readPerson_19 fX12_129 a77 rfl hR.w ?_
    refine b_if_eq_t 26 dX12_readPerson_22 (by decide) (by rw [h0]; rfl) ?_
    refine b_aload_n dX12_readPerson_26 rfl ?_
    refine g_callVp [] dX12_readPerson_27 kX12_next lX12_138 a77 rfl rfl (m_nx (d := d + 1) hY hR hp hk) rfl rfl (Nat.le_of_ble_eq_true rfl) ?_
    rintro r h9 ⟨rfl, s1, rfl, hs1, hR1⟩
    refine b_iconst (v := nI 0) dX12_readPerson_30 (by decide) ?_
    refine b_istore_n dX12_readPerson_31 (by decide) rfl ?_
    refine b_aload_n dX12_readPerson_32 rfl ?_
    refine b_iconst (v := nI 5) dX12_readPerson_33 (by decide) ?_
    have fin : ∀ (s : ST) (y : Int32) (z3 z4 : Option Value), kM σ s → RM s Y R.1 → (R.1.2.1 = 0 → y = R.2) → BB G RX12 cX12_readPerson 5 none (d + 7) (QM G (PLm G μ σ Y (R.1, (((B.1.W, B.1.F, B.1.P + 1, B.1.t), (B.1.num, B.1.wt, B.1.hold, B.1.hint, B.1.road, B.1.gl, fun p => if p = B.1.P then R.2 else B.1.told p)), B.2)))) 97 [some (.ref (G.b0 + 77)), some (.int (nI P)), some (.int y), z3, z4] [] (sh G s μ) := by
      intro s y z3 z4 hs hRs hy
      have hl := hRs.l
      have e81 := hs.1 81 (by omega) (by omega)
      refine b_aload_n dX12_readPerson_97 rfl ?_
      refine g_geti (x := nI R.1.2.1) dX12_readPerson_98 fX12_129 a77 rfl hRs.w ?_
      refine b_if_eq 105 dX12_readPerson_101 (by decide) (fun e1 => ?_) (fun e1 => ?_)
      · skip
        have e2 : R.1.2.1 = 0 := by rw [← nI_0, nI_eq (by omega) (by omega)] at e1; exact e1
        refine b_aload_n dX12_readPerson_105 rfl ?_
        refine g_get dX12_readPerson_106 fX12_24 a77 rfl ?_
        refine b_iconst (v := nI 5) dX12_readPerson_109 (by decide) ?_
        refine b_iload_n dX12_readPerson_110 rfl ?_
        refine b_iaddN dX12_readPerson_111 ?_
        refine b_iload_n dX12_readPerson_112 rfl ?_
        refine g_iast dX12_readPerson_113 a81 rfl (by omega) ?_
        refine b_aload_n dX12_readPerson_114 rfl ?_
        refine g_get dX12_readPerson_115 fX12_24 a77 rfl ?_
        refine b_iconst (v := nI 3) dX12_readPerson_118 (by decide) ?_
        refine b_dup2 dX12_readPerson_119 rfl rfl ?_
        refine g_iald dX12_readPerson_120 a81 rfl (by omega) ?_
        refine b_top (show pt s 81 (5 + P) y 81 3 = nI P by rw [pt_j (by omega), e81]; exact hP) ?_
        refine b_iconst (v := nI 1) dX12_readPerson_121 (by decide) ?_
        refine b_iaddN dX12_readPerson_122 ?_
        refine g_iast dX12_readPerson_123 a81 rfl (by omega) ?_
        refine b_vret dX12_readPerson_124 (PLm_mk (kN_p (kN_p (kN_m hs) (by omega)) (by omega)) (RM_pt (RM_pt hRs (by omega) (by omega) (by omega)) (by omega) (by omega) (by omega)) (fun _ => LM_person hB hPe (by omega) (fun q h1 h2 => ?_) (pt_s _ _ _ _) ?_ ?_ ?_))
        · rw [pt_j h1, pt_j h2, e81]
        · rw [pt_j (by omega), pt_s]; exact hy e2
        · rw [pt_r (by omega), pt_r (by omega)]; exact hs.1 83 (by omega) (by omega)
        · rw [pt_r (by omega), pt_r (by omega)]; exact hs.1 84 (by omega) (by omega)
      · skip
        have e2 : R.1.2.1 ≠ 0 := fun z => e1 (by rw [z]; rfl)
        exact b_vret dX12_readPerson_104 (PLm_mk (kN_m hs) hRs (fun z => absurd z e2))
    -- one number
    have tk : ∀ (T : FS) (y : Int32) (n : Nat) (s : ST) (z4 : Option Value), kM σ s → RM s Y T → PO Y 0 T → (∀ (s' : ST) (y' : Int32) (z : Option Value), kM σ s' → RM s' Y (tnum Y 0 F T) → ((tnum Y 0 F T).2.1 = 0 → y' = y ||| bit (vl Y 0 F T)) → BB G RX12 cX12_readPerson 5 none (d + 7) (QM G (PLm G μ σ Y (R.1, (((B.1.W, B.1.F, B.1.P + 1, B.1.t), (B.1.num, B.1.wt, B.1.hold, B.1.hint, B.1.road, B.1.gl, fun p => if p = B.1.P then R.2 else B.1.told p)), B.2)))) 42 [some (.ref (G.b0 + 77)), some (.int (nI P)), some (.int y'), some (.int (nI (n + 1))), z] [] (sh G s' μ)) → BB G RX12 cX12_readPerson 5 none (d + 7) (QM G (PLm G μ σ Y (R.1, (((B.1.W, B.1.F, B.1.P + 1, B.1.t), (B.1.num, B.1.wt, B.1.hold, B.1.hint, B.1.road, B.1.gl, fun p => if p = B.1.P then R.2 else B.1.told p)), B.2)))) 62 [some (.ref (G.b0 + 77)), some (.int (nI P)), some (.int y), some (.int (nI n)), z4] [] (sh G s μ) := by
      intro T y n s z4 hs hRs hpT hgo
      refine b_aload_n dX12_readPerson_62 rfl ?_
      refine b_iconst (v := nI 0) dX12_readPerson_63 (by decide) ?_
      refine b_aload_n dX12_readPerson_64 rfl ?_
      refine g_get dX12_readPerson_65 fX12_24 a77 rfl ?_
      refine b_iconst (v := nI 2) dX12_readPerson_68 (by decide) ?_
      refine g_iald dX12_readPerson_69 a81 rfl (by omega) ?_
      refine b_top (show s 81 2 = nI F by rw [hs.1 81 (by omega) (by omega)]; exact hF) ?_
      refine b_iconst (v := nI 1) dX12_readPerson_70 (by decide) ?_
      refine b_isub dX12_readPerson_71 ?_
      refine g_callVp [.int (nI 0), .int ((nI F) - (nI 1))] dX12_readPerson_72 kX12_takes lX12_149 a77 rfl rfl (m_takes (d := d) (zh := F) hY hRs hpT (by omega) (by omega) rfl) rfl rfl (Nat.le_of_ble_eq_true rfl) ?_
      rintro r h9 ⟨v, s2, rfl, rfl, hs2, hR2, hv⟩
      have hl := hR2.l
      refine b_istore dX12_readPerson_75 (by decide) rfl ?_
      refine b_aload_n dX12_readPerson_77 rfl ?_
      refine g_geti (x := nI ((tnum Y 0 F T).2.1)) dX12_readPerson_78 fX12_129 a77 rfl hR2.w ?_
      refine b_if_ne 91 dX12_readPerson_81 (by decide) (fun e1 => ?_) (fun e1 => ?_)
      · skip
        have e2 : (tnum Y 0 F T).2.1 ≠ 0 := fun z => e1 (by rw [z]; rfl)
        refine b_iinc dX12_readPerson_91 rfl (nI_1 _) (by decide) rfl ?_
        refine b_goto 42 dX12_readPerson_94 (by decide) ?_
        exact hgo s2 y _ (kM_t hs hs2) hR2 (fun z => absurd z e2)
      · skip
        have e2 : (tnum Y 0 F T).2.1 = 0 := by rw [← nI_0, nI_eq (by omega) (by omega)] at e1; exact e1
        refine b_iload_n dX12_readPerson_84 rfl ?_
        refine b_iconst (v := nI 1) dX12_readPerson_85 (by decide) ?_
        refine b_iload dX12_readPerson_86 rfl ?_
        refine b_ishl dX12_readPerson_88 ?_
        refine b_ior dX12_readPerson_89 ?_
        refine b_istore_n dX12_readPerson_90 (by decide) rfl ?_
        refine b_iinc dX12_readPerson_91 rfl (nI_1 _) (by decide) rfl ?_
        refine b_goto 42 dX12_readPerson_94 (by decide) ?_
        exact hgo s2 _ _ (kM_t hs hs2) hR2 (fun _ => by rw [hv e2]; rfl)
    have lp : ∀ (m n : Nat) (T : FS) (x y : Int32) (s : ST) (z4 : Option Value), 1 ≤ n → n + m ≤ 1000 → kM σ s → RM s Y T → PO Y 0 T → (T.2.1 = 0 → Y.2 ≤ T.1 + m) → (T.2.1 = 0 → y = x) → prS Y F m T x = R → BB G RX12 cX12_readPerson 5 none (d + 7) (QM G (PLm G μ σ Y (R.1, (((B.1.W, B.1.F, B.1.P + 1, B.1.t), (B.1.num, B.1.wt, B.1.hold, B.1.hint, B.1.road, B.1.gl, fun p => if p = B.1.P then R.2 else B.1.told p)), B.2)))) 42 [some (.ref (G.b0 + 77)), some (.int (nI P)), some (.int y), some (.int (nI n)), z4] [] (sh G s μ) := by
      have st : ∀ (n : Nat) (T : FS) (x y : Int32) (s : ST) (z4 : Option Value), 1 ≤ n → n ≤ 1000 → kM σ s → RM s Y T → PO Y 0 T → (T.2.1 = 0 → y = x) → (¬ kd Y T = 16 → (T, x) = R) → (kd Y T = 16 → BB G RX12 cX12_readPerson 5 none (d + 7) (QM G (PLm G μ σ Y (R.1, (((B.1.W, B.1.F, B.1.P + 1, B.1.t), (B.1.num, B.1.wt, B.1.hold, B.1.hint, B.1.road, B.1.gl, fun p => if p = B.1.P then R.2 else B.1.told p)), B.2)))) 62 [some (.ref (G.b0 + 77)), some (.int (nI P)), some (.int y), some (.int (nI n)), z4] [] (sh G s μ)) → BB G RX12 cX12_readPerson 5 none (d + 7) (QM G (PLm G μ σ Y (R.1, (((B.1.W, B.1.F, B.1.P + 1, B.1.t), (B.1.num, B.1.wt, B.1.hold, B.1.hint, B.1.road, B.1.gl, fun p => if p = B.1.P then R.2 else B.1.told p)), B.2)))) 42 [some (.ref (G.b0 + 77)), some (.int (nI P)), some (.int y), some (.int (nI n)), z4] [] (sh G s μ) := by
        intro n T x y s z4 hn hn9 hs hRs hpT hxy hno hgo
        have hl := hRs.l
        have hkd := (kd_ok Y T).1
        have out : ¬ kd Y T = 16 → BB G RX12 cX12_readPerson 5 none (d + 7) (QM G (PLm G μ σ Y (R.1, (((B.1.W, B.1.F, B.1.P + 1, B.1.t), (B.1.num, B.1.wt, B.1.hold, B.1.hint, B.1.road, B.1.gl, fun p => if p = B.1.P then R.2 else B.1.told p)), B.2)))) 97 [some (.ref (G.b0 + 77)), some (.int (nI P)), some (.int y), some (.int (nI n)), z4] [] (sh G s μ) := fun z => by
          have e := hno z
          exact fin s y _ _ hs (by rw [← e]; exact hRs) (fun q => by rw [← e] at q ⊢; exact hxy q)
        refine b_aload_n dX12_readPerson_42 rfl ?_
        refine g_geti (x := nI T.2.1) dX12_readPerson_43 fX12_129 a77 rfl hRs.w ?_
        refine b_if_ne 97 dX12_readPerson_46 (by decide) (fun e1 => ?_) (fun e1 => ?_)
        · skip
          have e2 : T.2.1 ≠ 0 := fun z => e1 (by rw [z]; rfl)
          exact out (by rw [kd_n e2]; omega)
        · skip
          have e2 : T.2.1 = 0 := by rw [← nI_0, nI_eq (by omega) (by omega)] at e1; exact e1
          refine b_iload_n dX12_readPerson_49 rfl ?_
          refine b_if_eq_f 62 dX12_readPerson_50 (by decide) (nI_ne0 (by omega) (by omega)) ?_
          refine b_aload_n dX12_readPerson_53 rfl ?_
          refine g_geti (x := nI (kd Y T)) dX12_readPerson_54 fX12_111 a77 rfl (hRs.k e2) ?_
          refine b_bipush (v := nI 16) dX12_readPerson_57 (by decide) ?_
          refine b_icmp_ne 97 dX12_readPerson_59 (by decide) (fun e3 => ?_) (fun e3 => ?_)
          · skip
            exact out (fun z => e3 (by rw [z]))
          · skip
            rw [nI_eq (by omega) (by omega)] at e3
            exact hgo e3
      intro m
      induction m with
      | zero =>
        intro n T x y s z4 hn hn9 hs hRs hpT hm hxy he
        have h17 := kd_end hY hpT (fun z => by have := hm z; omega)
        exact st n T x y s z4 hn (by omega) hs hRs hpT hxy (fun _ => he) (fun z => absurd z (by omega))
      | succ m ih =>
        intro n T x y s z4 hn hn9 hs hRs hpT hm hxy he
        rw [prS] at he
        refine st n T x y s z4 hn (by omega) hs hRs hpT hxy (fun z => by rw [if_neg z] at he; exact he) (fun z => ?_)
        obtain ⟨k1, k2⟩ := kd_lt hY hpT (show kd Y T ≠ 17 by omega)
        rw [if_pos z] at he
        refine tk T y n s z4 hs hRs hpT (fun s' y' z' hs' hR' hy' => ?_)
        refine ih (n + 1) _ _ y' s' z' (by omega) (by omega) hs' hR' (PO_tnum hpT) (fun q => ?_) (fun q => ?_) he
        · rw [(tnum_0 q).2.2.2.2, nxt_1 k1 k2]
          have := hm k1
          omega
        · rw [hy' q, hxy k1]
    refine g_callVp [.int (nI 5)] dX12_readPerson_34 kX12_eats lX12_153 a77 rfl rfl (m_eats (d := d) (k := 5) hY hR1 (PO_nx0 hp) (by omega) (by omega)) rfl rfl (Nat.le_of_ble_eq_true rfl) ?_
    rintro r h9 ⟨rfl, s2, rfl, hs2, hR2⟩
    refine b_if_eq 97 dX12_readPerson_37 (by decide) (fun e1 => ?_) (fun e1 => ?_)
    · skip
      have e2 := of_decide_eq_false ((bI_0 _).mp e1)
      rw [if_neg e2] at hR2
      have eR : R = (nxt Y S, nI 0) := by rw [hRe]; unfold pTold; rw [if_neg e2]
      exact fin s2 _ _ _ (kM_t hs1 hs2) (by rw [eR]; exact hR2) (fun _ => by rw [eR])
    · skip
      have e2 := of_decide_eq_true ((bI_1 _).mp e1)
      rw [if_pos e2] at hR2
      have eR : prS Y F 900 (tnum Y 0 F (nxt Y (nxt Y S))) (bit (vl Y 0 F (nxt Y (nxt Y S)))) = R := by rw [hRe]; unfold pTold; rw [if_pos e2]
      have h00 : (nxt Y (nxt Y S)).2.1 = 0 := by rw [nxt_f, nxt_f]; exact h0
      refine b_iconst (v := nI 0) dX12_readPerson_40 (by decide) ?_
      refine b_istore_n dX12_readPerson_41 (by decide) rfl ?_
      refine b_aload_n dX12_readPerson_42 rfl ?_
      refine g_geti (x := nI ((nxt Y (nxt Y S)).2.1)) dX12_readPerson_43 fX12_129 a77 rfl hR2.w ?_
      refine b_if_ne_f 97 dX12_readPerson_46 (by decide) (by rw [h00]; rfl) ?_
      refine b_iload_n dX12_readPerson_49 rfl ?_
      refine b_if_eq_t 62 dX12_readPerson_50 (by decide) rfl ?_
      refine tk _ (nI 0) 0 s2 _ (kM_t hs1 hs2) hR2 (PO_nx0 (PO_nx0 hp)) (fun s' y' z' hs' hR' hy' => ?_)
      exact lp 900 1 _ _ y' s' z' (by omega) (by omega) hs' hR' (PO_tnum (PO_nx0 (PO_nx0 hp))) (fun _ => by omega) (fun q => by rw [hy' q, zor]) eR
  · skip
    rw [nI_eq (by omega) (by omega)] at c1
    have ex : xPerson Y S B = (fail Y 4 S, B) := by unfold xPerson; rw [if_pos (by omega)]
    rw [ex]
    refine b_aload_n dX12_readPerson_13 rfl ?_
    refine b_iconst (v := nI 4) dX12_readPerson_14 (by decide) ?_
    refine g_callVp [.int (nI 4)] dX12_readPerson_15 kX12_fails lX12_141 a77 rfl rfl (m_fails hR (f := 4) (by omega) (by omega)) rfl rfl (Nat.le_of_ble_eq_true rfl) ?_
    rintro r h9 ⟨rfl, s1, rfl, hs1, hR1⟩
    have hne : (fail Y 4 S).2.1 ≠ 0 := fail_0 (by omega)
    have h10 := hR1.l
    refine b_aload_n dX12_readPerson_18 rfl ?_
    refine g_geti (x := nI ((fail Y 4 S).2.1)) dX12_readPerson_19 fX12_129 a77 rfl hR1.w ?_
    refine b_if_eq_f 26 dX12_readPerson_22 (by decide) (nI_ne0 (by omega) (by omega)) ?_
    exact b_vret dX12_readPerson_25 (PLm_mk (kN_m hs1) hR1 (fun z => absurd z hne))

