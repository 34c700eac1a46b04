/-! ===== Reader: the other lines ===== -/
theorem c_end {G : GT} {d : Nat} {σ : ST} {μ : SL} {f : Nat} (hf : f < 8) : Fn G d mX0_end [.ref (G.b0 + 7), .int (nI f)] (sh G σ μ) (Ret none (sh G (pt σ 9 f (σ 7 3)) μ)) := by
  refine fn_of (ls := [some (.ref (G.b0 + 7)), some (.int (nI f))]) (by decide +kernel) (Nat.le_of_ble_eq_true rfl) 0 rfl ?_
  refine b_iload_n dX0_end_0 rfl ?_
  refine b_if_lt_f 20 dX0_end_1 (by decide) (nI_pos (by omega)) ?_
  refine b_iload_n dX0_end_4 rfl ?_
  refine b_bipush (v := nI 8) dX0_end_5 (by decide) ?_
  refine b_icmp_ge_f 20 dX0_end_7 (by decide) (nI_ge (by omega) (by omega)) ?_
  refine b_aload_n dX0_end_10 rfl ?_
  refine g_get dX0_end_11 fX0_15 a7 rfl ?_
  refine b_iload_n dX0_end_14 rfl ?_
  refine b_aload_n dX0_end_15 rfl ?_
  refine g_get dX0_end_16 fX0_21 a7 rfl ?_
  refine g_iast dX0_end_19 a9 rfl (by omega) ?_
  exact b_vret dX0_end_20 ⟨rfl, rfl⟩
theorem c_Fclear {G : GT} {d : Nat} {σ : ST} {μ : SL} : Fn G d mX0_clear [.ref (G.b0 + 7)] (sh G σ μ) (Ret none (sh G (pt σ 7 3 (nI 0)) μ)) := by
  refine fn_of (ls := [some (.ref (G.b0 + 7))]) (by decide +kernel) (Nat.le_of_ble_eq_true rfl) 0 rfl ?_
  refine b_aload_n dX0_clear_0 rfl ?_
  refine b_iconst (v := nI 0) dX0_clear_1 (by decide) ?_
  refine g_put dX0_clear_2 wX0_21 a7 tfX0_3 (Nat.le_of_ble_eq_true rfl) rfl ?_
  exact b_vret dX0_clear_5 ⟨rfl, rfl⟩
theorem rd_truth {G : GT} {μ : SL} {Y : PX} (hY : PxO Y) : RdC G μ Y mX5_readTruth (utN Y 6).2 0 26 := (rd_ut hY 6 0 rfl).2
theorem c_readFact {G : GT} {d : Nat} {σ : ST} {μ : SL} {Y : PX} {S : FS} {B : LB} (hY : PxO Y) (hR : RF σ Y S) (hp : PO Y 0 S) (hB : RLd σ B) : Fn G (d + 27) mX5_readFact [.ref (G.b0 + 2)] (sh G σ μ) (PLn G μ σ Y (xFact Y S B)) := by
  obtain ⟨⟨hW, hF, hP, hW16, hF8, hP6⟩, g1, g2, g3, g4, g5, g6, g7, g8, g9⟩ := id hB
  obtain ⟨F, hFe⟩ : ∃ F, B.1.F = F := ⟨_, rfl⟩
  rw [hFe] at hF hF8 g9
  refine fn_of (ls := [some (.ref (G.b0 + 2))]) (by decide +kernel) (Nat.le_of_ble_eq_true rfl) 0 rfl ?_
  refine b_aload_n dX5_readFact_0 rfl ?_
  refine g_get dX5_readFact_1 fX5_28 a2 rfl ?_
  refine g_geti (x := nI F) dX5_readFact_4 fX5_129 a11 rfl hF ?_
  refine b_bipush (v := nI 8) dX5_readFact_7 (by decide) ?_
  refine b_icmp_lt 18 dX5_readFact_9 (by decide) (fun c1 => ?_) (fun c1 => ?_)
  · skip
    rw [nI_ltI (by omega) (by omega)] at c1
    have ex : xFact Y S B = ((utN Y 6).2 (takK Y 21 (nxt Y S)), (((B.1.W, B.1.F + 1, B.1.P, B.1.t), B.1.2), B.2.1, fun f => if f = B.1.F then ((utN Y 6).2 (takK Y 21 (nxt Y S))).2.2.2.length else B.2.2 f)) := by unfold xFact; rw [if_neg (by omega)]
    refine b_aload_n dX5_readFact_18 rfl ?_
    refine g_callVp [] dX5_readFact_19 kX5_goOn lX5_79 a2 rfl rfl (c_goOn hY hR hp) rfl rfl (Nat.le_of_ble_eq_true rfl) ?_
    rintro r h9 ⟨rfl, s1, rfl, hs1, hR1⟩
    have hp1 := PO_nx0 hp
    refine b_aload_n dX5_readFact_22 rfl ?_
    refine b_bipush (v := nI 58) dX5_readFact_23 (by decide) ?_
    refine g_callVp [.int (nI 58)] dX5_readFact_25 kX5_take lX5_114 a2 rfl rfl (c_take (k := 21) hY hR1 hp1 (by omega) (by omega)) rfl rfl (Nat.le_of_ble_eq_true rfl) ?_
    rintro r h9 ⟨rfl, s2, rfl, hs2, hR2⟩
    have hp2 := PO_tak (k := 21) hY hp1 (by omega)
    refine b_aload_n dX5_readFact_28 rfl ?_
    refine b_iconst (v := nI 0) dX5_readFact_29 (by decide) ?_
    refine g_callVp [.int (nI 0)] dX5_readFact_30 kX5_readTruth lX5_132 a2 rfl rfl (rd_truth hY (d + 26) s2 _ (by omega) hR2 hp2) rfl rfl (Nat.le_of_ble_eq_true rfl) ?_
    rintro r h9 ⟨rfl, s3, rfl, hs3, hR3⟩
    have hk : ∀ c, ¬ kR c → s3 c = σ c := kR_t (kR_t hs1 hs2) hs3
    have h11 : s3 11 = σ 11 := hk 11 (by unfold kR; omega)
    refine b_aload_n dX5_readFact_33 rfl ?_
    refine g_get dX5_readFact_34 fX5_21 a2 rfl ?_
    refine b_aload_n dX5_readFact_37 rfl ?_
    refine g_get dX5_readFact_38 fX5_28 a2 rfl ?_
    refine g_geti (x := nI F) dX5_readFact_41 fX5_129 a11 rfl (by rw [h11]; exact hF) ?_
    refine g_callV [.int (nI F)] dX5_readFact_44 kX0_end lX5_135 a7 rfl rfl (c_end (by omega)) rfl rfl (Nat.le_of_ble_eq_true rfl) ?_
    refine b_aload_n dX5_readFact_47 rfl ?_
    refine g_get dX5_readFact_48 fX5_28 a2 rfl ?_
    refine b_dup dX5_readFact_51 rfl ?_
    refine g_geti (x := nI F) dX5_readFact_52 fX5_129 a11 rfl (by rw [pt_a (by omega), h11]; exact hF) ?_
    refine b_iconst (v := nI 1) dX5_readFact_55 (by decide) ?_
    refine b_iaddN dX5_readFact_56 ?_
    refine g_put dX5_readFact_57 wX5_129 a11 tfX2_7 (Nat.le_of_ble_eq_true rfl) rfl ?_
    refine b_vret dX5_readFact_60 ?_
    rw [ex]
    refine PLn_mk (kL_p (kL_p (kL_s hk) (by unfold kL; omega)) (by unfold kL; omega)) (RF_pt (RF_pt hR3 (by omega)) (by omega)) (fun hz => ?_)
    have hl := (hR3.2.1 hz).2.2.2.1
    refine ⟨⟨?_, ?_, ?_, hW16, by show B.1.F + 1 ≤ 8; omega, hP6⟩, ?_, ?_, ?_, ?_, ?_, ?_, ?_, ?_, ?_⟩
    · rw [pt_j (by omega), pt_a (by omega), h11]; exact hW
    · rw [pt_s]; show _ = nI (B.1.F + 1); rw [hFe]
    · rw [pt_j (by omega), pt_a (by omega), h11]; exact hP
    · rw [pt_j (by omega), pt_a (by omega), h11]; exact g1
    · rw [pt_j (by omega), pt_a (by omega), h11]; exact g2
    · rw [pt_a (by omega), pt_a (by omega), hk 17 (by unfold kR; omega)]; exact g3
    · intro j hj; rw [pt_a (by omega), pt_a (by omega), hk 12 (by unfold kR; omega)]; exact g4 j hj
    · intro j hj; rw [pt_a (by omega), pt_a (by omega), hk 13 (by unfold kR; omega)]; exact g5 j hj
    · intro j hj; rw [pt_a (by omega), pt_a (by omega), hk 18 (by unfold kR; omega)]; exact g6 j hj
    · intro j hj; rw [pt_a (by omega), pt_a (by omega), hk 16 (by unfold kR; omega)]; exact g7 j hj
    · intro j hj; rw [pt_a (by omega), pt_a (by omega), hk 15 (by unfold kR; omega)]; exact g8 j hj
    · intro f hf
      have hf' : f < B.1.F + 1 := hf
      rw [pt_a (by omega)]
      show _ = nI (if f = B.1.F then _ else B.2.2 f)
      by_cases e : f = F
      · rw [if_pos (by omega), e, pt_s, hl]
      · rw [if_neg (by omega), pt_j e, hk 9 (by unfold kR; omega)]; exact g9 f (by omega)
  · skip
    rw [nI_ltI (by omega) (by omega)] at c1
    have ex : xFact Y S B = (fail Y 4 S, B) := by unfold xFact; rw [if_pos (by omega)]
    refine b_aload_n dX5_readFact_12 rfl ?_
    refine b_iconst (v := nI 4) dX5_readFact_13 (by decide) ?_
    refine g_callVp [.int (nI 4)] dX5_readFact_14 kX5_refuse lX5_82 a2 rfl rfl (c_refuse (f := 4) hY hR hp (by omega) (by omega)) rfl rfl (Nat.le_of_ble_eq_true rfl) ?_
    rintro r h9 ⟨rfl, s1, rfl, hs1, hR1⟩
    refine b_vret dX5_readFact_17 ?_
    rw [ex]
    exact PLn_mk (kL_s hs1) hR1 (fun hz => absurd hz (fail_0 (by omega)))
theorem or_comm' (a b : Int32) : a ||| b = b ||| a := b_ext (fun i hi => by rw [b_or, b_or, Bool.or_comm])
theorem c_readPerson {G : GT} {d : Nat} {σ : ST} {μ : SL} {Y : PX} {S : FS} {B : LB} (hY : PxO Y) (hR : RF σ Y S) (hp : PO Y 0 S) (hB : RLd σ B) : Fn G (d + 2) mX5_readPerson [.ref (G.b0 + 2)] (sh G σ μ) (PLn G μ σ Y (xPerson Y S B)) := by
  obtain ⟨⟨hW, hF, hP, hW16, hF8, hP6⟩, g1, g2, g3, g4, g5, g6, g7, g8, g9⟩ := id hB
  obtain ⟨F, hFe⟩ : ∃ F, B.1.F = F := ⟨_, rfl⟩
  rw [hFe] at hF hF8 g9
  obtain ⟨P, hPe⟩ : ∃ P, B.1.P = P := ⟨_, rfl⟩
  rw [hPe] at hP hP6 g6
  refine fn_of (ls := [some (.ref (G.b0 + 2)), none, none]) (by decide +kernel) (Nat.le_of_ble_eq_true rfl) 2 rfl ?_
  refine b_aload_n dX5_readPerson_0 rfl ?_
  refine g_get dX5_readPerson_1 fX5_28 a2 rfl ?_
  refine g_geti (x := nI P) dX5_readPerson_4 fX5_138 a11 rfl hP ?_
  refine b_istore_n dX5_readPerson_7 (by decide) rfl ?_
  refine b_iload_n dX5_readPerson_8 rfl ?_
  refine b_bipush (v := nI 6) dX5_readPerson_9 (by decide) ?_
  refine b_icmp_lt 20 dX5_readPerson_11 (by decide) (fun c1 => ?_) (fun c1 => ?_)
  · skip
    rw [nI_ltI (by omega) (by omega)] at c1
    have ex : xPerson Y S B = ((pTold Y F S).1, (((B.1.W, B.1.F, B.1.P + 1, B.1.t), (B.1.num, B.1.wt, B.1.hold, B.1.hint, B.1.road, B.1.gl, fun p => if p = B.1.P then (pTold Y F S).2 else B.1.told p)), B.2)) := by unfold xPerson; rw [if_neg (by omega), hFe]
    have fin : ∀ (s : ST) (z2 : Option Value), (∀ c, ¬ kR c → c ≠ 18 → s c = σ c) → (∀ p, p < 6 → s 18 p = if p = P then (pTold Y F S).2 else σ 18 p) → RF s Y (pTold Y F S).1 → BB G RX5 cX5_readPerson 3 none (d + 2) (QM G (PLn G μ σ Y (xPerson Y S B))) 113 [some (.ref (G.b0 + 2)), some (.int (nI P)), z2] [] (sh G s μ) := by
      intro s z2 hk h18 hRs
      have h11 : s 11 = σ 11 := hk 11 (by unfold kR; omega) (by omega)
      refine b_aload_n dX5_readPerson_113 rfl ?_
      refine g_get dX5_readPerson_114 fX5_28 a2 rfl ?_
      refine b_dup dX5_readPerson_117 rfl ?_
      refine g_geti (x := nI P) dX5_readPerson_118 fX5_138 a11 rfl (by rw [h11]; exact hP) ?_
      refine b_iconst (v := nI 1) dX5_readPerson_121 (by decide) ?_
      refine b_iaddN dX5_readPerson_122 ?_
      refine g_put dX5_readPerson_123 wX5_138 a11 tfX2_8 (Nat.le_of_ble_eq_true rfl) rfl ?_
      refine b_vret dX5_readPerson_126 ?_
      rw [ex]
      refine PLn_mk (kL_p (fun c hc => hk c (by unfold kL at hc; unfold kR; omega) (by unfold kL at hc; omega)) (by unfold kL; omega)) (RF_pt hRs (by omega)) (fun hz => ?_)
      refine ⟨⟨?_, ?_, ?_, hW16, by show B.1.F ≤ 8; omega, by show B.1.P + 1 ≤ 6; omega⟩, ?_, ?_, ?_, ?_, ?_, ?_, ?_, ?_, ?_⟩
      · rw [pt_j (by omega), h11]; exact hW
      · rw [pt_j (by omega), h11]; show _ = nI B.1.F; rw [hFe]; exact hF
      · rw [pt_s]; show _ = nI (B.1.P + 1); rw [hPe]
      · rw [pt_j (by omega), h11]; exact g1
      · rw [pt_j (by omega), h11]; exact g2
      · rw [pt_a (by omega), hk 17 (by unfold kR; omega) (by omega)]; exact g3
      · intro j hj; rw [pt_a (by omega), hk 12 (by unfold kR; omega) (by omega)]; exact g4 j hj
      · intro j hj; rw [pt_a (by omega), hk 13 (by unfold kR; omega) (by omega)]; exact g5 j hj
      · intro p hp9
        rw [pt_a (by omega), h18 p hp9, g6 p hp9]
        show _ = if p < B.1.P + 1 then (if p = B.1.P then (pTold Y F S).2 else B.1.told p) else nI 0
        rw [hPe]
        by_cases e : p = P
        · rw [if_pos e, if_pos (by omega), if_pos e]
        · rw [if_neg e]
          by_cases e2 : p < P
          · rw [if_pos e2, if_pos (by omega), if_neg e]
          · rw [if_neg e2, if_neg (by omega)]
      · intro j hj; rw [pt_a (by omega), hk 16 (by unfold kR; omega) (by omega)]; exact g7 j hj
      · intro j hj; rw [pt_a (by omega), hk 15 (by unfold kR; omega) (by omega)]; exact g8 j hj
      · intro j hj
        have hj' : j < B.1.F := hj
        rw [pt_a (by omega), hk 9 (by unfold kR; omega) (by omega)]; exact g9 j (by omega)
    refine b_aload_n dX5_readPerson_20 rfl ?_
    refine g_callVp [] dX5_readPerson_21 kX5_goOn lX5_79 a2 rfl rfl (c_goOn hY hR hp) rfl rfl (Nat.le_of_ble_eq_true rfl) ?_
    rintro r h9 ⟨rfl, s1, rfl, hs1, hR1⟩
    have hp1 := PO_nx0 hp
    refine b_aload_n dX5_readPerson_24 rfl ?_
    refine g_callV [] dX5_readPerson_25 kX5_kind lX5_58 a2 rfl rfl (c_kind hY hR1 hp1) rfl rfl (Nat.le_of_ble_eq_true rfl) ?_
    refine b_bipush (v := nI 106) dX5_readPerson_28 (by decide) ?_
    refine b_icmp_ne 113 dX5_readPerson_30 (by decide) (fun c2 => ?_) (fun c2 => ?_)
    · skip
      have c3 : ¬ kd Y (nxt Y S) = 5 := fun z => c2 ((cK_e (k := 5) (by omega) (by omega)).mpr z)
      have ep : pTold Y F S = (nxt Y S, nI 0) := by unfold pTold; rw [if_neg c3]
      refine fin s1 _ (fun c hc _ => hs1 c hc) (fun p hp9 => ?_) (by rw [ep]; exact hR1)
      rw [hs1 18 (by unfold kR; omega), ep]
      by_cases e : p = P
      · rw [if_pos e, g6 p hp9, if_neg (by omega)]
      · rw [if_neg e]
    · skip
      have c3 : kd Y (nxt Y S) = 5 := (cK_e (k := 5) (by omega) (by omega)).mp c2
      have ep : pTold Y F S = prS Y F 900 (tnum Y 0 F (nxt Y (nxt Y S))) (bit (vl Y 0 F (nxt Y (nxt Y S)))) := by unfold pTold; rw [if_pos c3]
      refine b_aload_n dX5_readPerson_33 rfl ?_
      refine g_callVp [] dX5_readPerson_34 kX5_goOn lX5_79 a2 rfl rfl (c_goOn hY hR1 hp1) rfl rfl (Nat.le_of_ble_eq_true rfl) ?_
      rintro r h9 ⟨rfl, s2, rfl, hs2, hR2⟩
      have hp2 := PO_nx0 hp1
      have k2 := kR_t hs1 hs2
      refine b_aload_n dX5_readPerson_37 rfl ?_
      refine g_get dX5_readPerson_38 fX5_35 a2 rfl ?_
      refine g_get dX5_readPerson_41 fX5_141 a17 rfl ?_
      refine b_iload_n dX5_readPerson_44 rfl ?_
      refine b_iconst (v := nI 1) dX5_readPerson_45 (by decide) ?_
      refine b_aload_n dX5_readPerson_46 rfl ?_
      refine b_iconst (v := nI 0) dX5_readPerson_47 (by decide) ?_
      refine b_aload_n dX5_readPerson_48 rfl ?_
      refine g_get dX5_readPerson_49 fX5_28 a2 rfl ?_
      refine g_geti (x := nI F) dX5_readPerson_52 fX5_129 a11 rfl (by rw [k2 11 (by unfold kR; omega)]; exact hF) ?_
      refine b_iconst (v := nI 1) dX5_readPerson_55 (by decide) ?_
      refine b_isub dX5_readPerson_56 ?_
      refine g_callVp [.int (nI 0), .int ((nI F) - (nI 1))] dX5_readPerson_57 kX5_takeNumber lX5_107 a2 rfl rfl (c_takeN (zh := F) hY hR2 hp2 (by omega) (by omega) rfl) rfl rfl (Nat.le_of_ble_eq_true rfl) ?_
      rintro r h9 ⟨rfl, s3, rfl, hs3, hR3⟩
      have hp3 := PO_tnum (lw := 0) (zh := F) hp2
      have k3 := kR_t k2 hs3
      refine b_ishl dX5_readPerson_60 ?_
      refine g_iast dX5_readPerson_61 a18 rfl (by omega) ?_
      refine b_iconst (v := nI 0) dX5_readPerson_62 (by decide) ?_
      refine b_istore_n dX5_readPerson_63 (by decide) rfl ?_
      have lp : ∀ (n i : Nat) (s : ST) (T : FS) (x : Int32), i + n = 900 → (∀ c, ¬ kR c → c ≠ 18 → s c = σ c) → (∀ p, p < 6 → s 18 p = if p = P then x else σ 18 p) → RF s Y T → PO Y 0 T → prS Y F n T x = pTold Y F S → BB G RX5 cX5_readPerson 3 none (d + 2) (QM G (PLn G μ σ Y (xPerson Y S B))) 64 [some (.ref (G.b0 + 2)), some (.int (nI P)), some (.int (nI i))] [] (sh G s μ) := by
        intro n
        induction n with
        | zero =>
          intro i s T x hi hk h18 hRs hps he
          refine b_iload_n dX5_readPerson_64 rfl ?_
          refine b_sipush (v := nI 900) dX5_readPerson_65 (by decide) ?_
          refine b_icmp_ge_t 113 dX5_readPerson_68 (by decide) (nI_le (by omega) (by omega)) ?_
          exact fin s _ hk (fun p hp9 => by rw [h18 p hp9, ← he]; rfl) (by rw [← he]; exact hRs)
        | succ n ih =>
          intro i s T x hi hk h18 hRs hps he
          refine b_iload_n dX5_readPerson_64 rfl ?_
          refine b_sipush (v := nI 900) dX5_readPerson_65 (by decide) ?_
          refine b_icmp_ge_f 113 dX5_readPerson_68 (by decide) (nI_ge (by omega) (by omega)) ?_
          refine b_aload_n dX5_readPerson_71 rfl ?_
          refine g_callV [] dX5_readPerson_72 kX5_kind lX5_58 a2 rfl rfl (c_kind hY hRs hps) rfl rfl (Nat.le_of_ble_eq_true rfl) ?_
          refine b_iconst (v := nI 2) dX5_readPerson_75 (by decide) ?_
          refine b_icmp_ne 113 dX5_readPerson_76 (by decide) (fun c4 => ?_) (fun c4 => ?_)
          · skip
            have c5 : ¬ kd Y T = 16 := fun z => c4 ((cK_e (k := 16) (by omega) (by omega)).mpr z)
            have e9 : prS Y F (n + 1) T x = (T, x) := by rw [prS, if_neg c5]
            exact fin s _ hk (fun p hp9 => by rw [h18 p hp9, ← he, e9]) (by rw [← he, e9]; exact hRs)
          · skip
            have c5 : kd Y T = 16 := (cK_e (k := 16) (by omega) (by omega)).mp c4
            refine b_aload_n dX5_readPerson_79 rfl ?_
            refine g_get dX5_readPerson_80 fX5_35 a2 rfl ?_
            refine g_get dX5_readPerson_83 fX5_141 a17 rfl ?_
            refine b_iload_n dX5_readPerson_86 rfl ?_
            refine b_dup2 dX5_readPerson_87 rfl rfl ?_
            refine g_iald dX5_readPerson_88 a18 rfl (by omega) ?_
            refine b_iconst (v := nI 1) dX5_readPerson_89 (by decide) ?_
            refine b_aload_n dX5_readPerson_90 rfl ?_
            refine b_iconst (v := nI 0) dX5_readPerson_91 (by decide) ?_
            refine b_aload_n dX5_readPerson_92 rfl ?_
            refine g_get dX5_readPerson_93 fX5_28 a2 rfl ?_
            refine g_geti (x := nI F) dX5_readPerson_96 fX5_129 a11 rfl (by rw [hk 11 (by unfold kR; omega) (by omega)]; exact hF) ?_
            refine b_iconst (v := nI 1) dX5_readPerson_99 (by decide) ?_
            refine b_isub dX5_readPerson_100 ?_
            refine g_callVp [.int (nI 0), .int ((nI F) - (nI 1))] dX5_readPerson_101 kX5_takeNumber lX5_107 a2 rfl rfl (c_takeN (zh := F) hY hRs hps (by omega) (by omega) rfl) rfl rfl (Nat.le_of_ble_eq_true rfl) ?_
            rintro r h9 ⟨rfl, s5, rfl, hs5, hR5⟩
            refine b_ishl dX5_readPerson_104 ?_
            refine b_ior dX5_readPerson_105 ?_
            refine g_iast dX5_readPerson_106 a18 rfl (by omega) ?_
            refine b_iinc dX5_readPerson_107 rfl (nI_1 _) (by decide) rfl ?_
            refine b_goto 64 dX5_readPerson_110 (by decide) ?_
            refine ih (i + 1) _ _ (x ||| bit (vl Y 0 F T)) (by omega) (fun c hc h => by rw [pt_r h, hs5 c hc]; exact hk c hc h) (fun p hp9 => ?_) (RF_pt hR5 (by omega)) (PO_tnum hps) (by rw [← he, prS, if_pos c5])
            by_cases e : p = P
            · rw [if_pos e, e, pt_s, show (17 : Nat) + 1 = 18 from rfl, h18 P (by omega), if_pos rfl]; rfl
            · rw [if_neg e, pt_j e, hs5 18 (by unfold kR; omega), h18 p hp9, if_neg e]
      refine lp 900 0 _ _ (bit (vl Y 0 F (nxt Y (nxt Y S)))) (by omega) (fun c hc h => by rw [pt_r h]; exact k3 c hc) (fun p hp9 => ?_) (RF_pt hR3 (by omega)) hp3 ep.symm
      by_cases e : p = P
      · rw [if_pos e, e, pt_s]; rfl
      · rw [if_neg e, pt_j e, k3 18 (by unfold kR; omega)]
  · skip
    rw [nI_ltI (by omega) (by omega)] at c1
    have ex : xPerson Y S B = (fail Y 4 S, B) := by unfold xPerson; rw [if_pos (by omega)]
    refine b_aload_n dX5_readPerson_14 rfl ?_
    refine b_iconst (v := nI 4) dX5_readPerson_15 (by decide) ?_
    refine g_callVp [.int (nI 4)] dX5_readPerson_16 kX5_refuse lX5_82 a2 rfl rfl (c_refuse (f := 4) hY hR hp (by omega) (by omega)) rfl rfl (Nat.le_of_ble_eq_true rfl) ?_
    rintro r h9 ⟨rfl, s1, rfl, hs1, hR1⟩
    refine b_vret dX5_readPerson_19 ?_
    rw [ex]
    exact PLn_mk (kL_s hs1) hR1 (fun hz => absurd hz (fail_0 (by omega)))
theorem r2_0 {Y : PX} {P : Nat} {S : FS} (h : (r2 Y P S).2.1 = 0) : (r1 Y P S).2.1 = 0 ∧ r2 Y P S = r1 Y P S ∧ ¬ (kd Y (r1 Y P S) = 16 ∧ tV Y.1 (r1 Y P S).1 = vl Y 0 P (nxt Y S)) := by
  unfold r2 at h ⊢
  by_cases h1 : kd Y (r1 Y P S) = 16 ∧ tV Y.1 (r1 Y P S).1 = vl Y 0 P (nxt Y S)
  · rw [if_pos h1] at h; exact absurd h (fail_0 (by omega))
  · rw [if_neg h1] at h ⊢; exact ⟨h, rfl, h1⟩
theorem r3_0 {Y : PX} {P : Nat} {S : FS} (h : (r3 Y P S).2.1 = 0) : vl Y 0 P (nxt Y S) < P ∧ vl Y 0 P (r2 Y P S) < P ∧ vl Y 0 P (r2 Y P S) ≠ vl Y 0 P (nxt Y S) := by
  have a1 := tnum_0 h
  obtain ⟨b1, b2, b3⟩ := r2_0 a1.1
  refine ⟨(vl_ok b1).2, (vl_ok h).2, fun e => ?_⟩
  have a2 := a1.2.1
  rw [b2] at a2
  refine b3 ⟨a2, ?_⟩
  rw [← e, vl_0 h, b2]
theorem c_readRoad {G : GT} {d : Nat} {σ : ST} {μ : SL} {Y : PX} {S : FS} {B : LB} (hY : PxO Y) (hR : RF σ Y S) (hp : PO Y 0 S) (hB : RLd σ B) : Fn G (d + 2) mX5_readRoad [.ref (G.b0 + 2)] (sh G σ μ) (PLn G μ σ Y (xRoad Y S B)) := by
  have h9 := hY.le
  obtain ⟨⟨hW, hF, hP, hW16, hF8, hP6⟩, g1, g2, g3, g4, g5, g6, g7, g8, g9⟩ := id hB
  obtain ⟨P, hPe⟩ : ∃ P, B.1.P = P := ⟨_, rfl⟩
  rw [hPe] at hP hP6 g6
  refine fn_of (ls := [some (.ref (G.b0 + 2)), none, none]) (by decide +kernel) (Nat.le_of_ble_eq_true rfl) 2 rfl ?_
  refine b_aload_n dX5_readRoad_0 rfl ?_
  refine g_callVp [] dX5_readRoad_1 kX5_goOn lX5_79 a2 rfl rfl (c_goOn hY hR hp) rfl rfl (Nat.le_of_ble_eq_true rfl) ?_
  rintro r h9 ⟨rfl, s1, rfl, hs1, hR1⟩
  have hp1 := PO_nx0 hp
  refine b_aload_n dX5_readRoad_4 rfl ?_
  refine b_iconst (v := nI 0) dX5_readRoad_5 (by decide) ?_
  refine b_aload_n dX5_readRoad_6 rfl ?_
  refine g_get dX5_readRoad_7 fX5_28 a2 rfl ?_
  refine g_geti (x := nI P) dX5_readRoad_10 fX5_138 a11 rfl (by rw [hs1 11 (by unfold kR; omega)]; exact hP) ?_
  refine b_iconst (v := nI 1) dX5_readRoad_13 (by decide) ?_
  refine b_isub dX5_readRoad_14 ?_
  refine g_callVp [.int (nI 0), .int ((nI P) - (nI 1))] dX5_readRoad_15 kX5_takeNumber lX5_107 a2 rfl rfl (c_takeN (zh := P) hY hR1 hp1 (by omega) (by omega) rfl) rfl rfl (Nat.le_of_ble_eq_true rfl) ?_
  rintro r h9 ⟨rfl, s2, rfl, hs2, hR2⟩
  have hp2 : PO Y 0 (r1 Y P S) := PO_tnum (lw := 0) (zh := P) hp1
  have hR2' : RF s2 Y (r1 Y P S) := hR2
  have k2 := kR_t hs1 hs2
  have lv1 : vl Y 0 P (nxt Y S) < 6 := vl_lt (by omega) (by omega)
  refine b_istore_n dX5_readRoad_18 (by decide) rfl ?_
  refine b_aload_n dX5_readRoad_19 rfl ?_
  have fin : ∀ s : ST, (∀ c, ¬ kR c → s c = σ c) → RF s Y (r2 Y P S) → PO Y 0 (r2 Y P S) → BB G RX5 cX5_readRoad 3 none (d + 2) (QM G (PLn G μ σ Y (xRoad Y S B))) 48 [some (.ref (G.b0 + 2)), some (.int (nI (vl Y 0 P (nxt Y S)))), none] [] (sh G s μ) := by
    intro s hk hRs hps
    refine b_aload_n dX5_readRoad_48 rfl ?_
    refine b_iconst (v := nI 0) dX5_readRoad_49 (by decide) ?_
    refine b_aload_n dX5_readRoad_50 rfl ?_
    refine g_get dX5_readRoad_51 fX5_28 a2 rfl ?_
    refine g_geti (x := nI P) dX5_readRoad_54 fX5_138 a11 rfl (by rw [hk 11 (by unfold kR; omega)]; exact hP) ?_
    refine b_iconst (v := nI 1) dX5_readRoad_57 (by decide) ?_
    refine b_isub dX5_readRoad_58 ?_
    refine g_callVp [.int (nI 0), .int ((nI P) - (nI 1))] dX5_readRoad_59 kX5_takeNumber lX5_107 a2 rfl rfl (c_takeN (zh := P) hY hRs hps (by omega) (by omega) rfl) rfl rfl (Nat.le_of_ble_eq_true rfl) ?_
    rintro r h9 ⟨rfl, s3, rfl, hs3, hR3⟩
    have hR3' : RF s3 Y (r3 Y P S) := hR3
    have k3 := kR_t hk hs3
    have lv2 : vl Y 0 P (r2 Y P S) < 6 := vl_lt (by omega) (by omega)
    by_cases h0 : (r3 Y P S).2.1 = 0
    · obtain ⟨v1, v2, v3⟩ := r3_0 h0
      refine b_istore_n dX5_readRoad_62 (by decide) rfl ?_
      refine b_aload_n dX5_readRoad_63 rfl ?_
      refine g_geti (x := nI 0) dX5_readRoad_64 fX5_52 a2 rfl (hR3'.2.1 h0).1 ?_
      refine b_if_ne_f 100 dX5_readRoad_67 (by decide) (by decide) ?_
      refine b_aload_n dX5_readRoad_70 rfl ?_
      refine g_get dX5_readRoad_71 fX5_28 a2 rfl ?_
      refine g_get dX5_readRoad_74 fX5_144 a11 rfl ?_
      refine b_iload_n dX5_readRoad_77 rfl ?_
      refine b_dup2 dX5_readRoad_78 rfl rfl ?_
      refine g_iald dX5_readRoad_79 a16 rfl (by omega) ?_
      refine b_iconst (v := nI 1) dX5_readRoad_80 (by decide) ?_
      refine b_iload_n dX5_readRoad_81 rfl ?_
      refine b_ishl dX5_readRoad_82 ?_
      refine b_ior dX5_readRoad_83 ?_
      refine g_iast dX5_readRoad_84 a16 rfl (by omega) ?_
      refine b_aload_n dX5_readRoad_85 rfl ?_
      refine g_get dX5_readRoad_86 fX5_28 a2 rfl ?_
      refine g_get dX5_readRoad_89 fX5_144 a11 rfl ?_
      refine b_iload_n dX5_readRoad_92 rfl ?_
      refine b_dup2 dX5_readRoad_93 rfl rfl ?_
      refine g_iald dX5_readRoad_94 a16 rfl (by omega) ?_
      refine b_iconst (v := nI 1) dX5_readRoad_95 (by decide) ?_
      refine b_iload_n dX5_readRoad_96 rfl ?_
      refine b_ishl dX5_readRoad_97 ?_
      refine b_ior dX5_readRoad_98 ?_
      refine g_iast dX5_readRoad_99 a16 rfl (by omega) ?_
      refine b_vret dX5_readRoad_100 ?_
      unfold xRoad
      rw [hPe]
      refine PLn_mk (kL_p (kL_p (kL_s k3) (by unfold kL; omega)) (by unfold kL; omega)) (RF_pt (RF_pt hR3' (by omega)) (by omega)) (fun hz => ?_)
      refine ⟨⟨?_, ?_, ?_, hW16, hF8, hP6⟩, ?_, ?_, ?_, ?_, ?_, ?_, ?_, ?_, ?_⟩
      · rw [pt_a (by omega), pt_a (by omega), k3 11 (by unfold kR; omega)]; exact hW
      · rw [pt_a (by omega), pt_a (by omega), k3 11 (by unfold kR; omega)]; exact hF
      · rw [pt_a (by omega), pt_a (by omega), k3 11 (by unfold kR; omega)]; exact hP
      · rw [pt_a (by omega), pt_a (by omega), k3 11 (by unfold kR; omega)]; exact g1
      · rw [pt_a (by omega), pt_a (by omega), k3 11 (by unfold kR; omega)]; exact g2
      · rw [pt_a (by omega), pt_a (by omega), k3 17 (by unfold kR; omega)]; exact g3
      · intro j hj; rw [pt_a (by omega), pt_a (by omega), k3 12 (by unfold kR; omega)]; exact g4 j hj
      · intro j hj; rw [pt_a (by omega), pt_a (by omega), k3 13 (by unfold kR; omega)]; exact g5 j hj
      · intro j hj
        rw [pt_a (by omega), pt_a (by omega), k3 18 (by unfold kR; omega)]; exact g6 j hj
      · intro j hj
        show _ = if j = vl Y 0 P (r2 Y P S) then B.1.road j ||| bit (vl Y 0 P (nxt Y S)) else if j = vl Y 0 P (nxt Y S) then B.1.road j ||| bit (vl Y 0 P (r2 Y P S)) else B.1.road j
        by_cases e : j = vl Y 0 P (r2 Y P S)
        · rw [if_pos e, e, pt_s, pt_j v3, show (11 : Nat) + 5 = 16 from rfl, k3 16 (by unfold kR; omega), g7 _ (by omega)]; rfl
        · rw [if_neg e, pt_j e]
          by_cases e2 : j = vl Y 0 P (nxt Y S)
          · rw [if_pos e2, e2, pt_s, show (11 : Nat) + 5 = 16 from rfl, k3 16 (by unfold kR; omega), g7 _ (by omega)]; rfl
          · rw [if_neg e2, pt_j e2, k3 16 (by unfold kR; omega)]; exact g7 j hj
      · intro j hj; rw [pt_a (by omega), pt_a (by omega), k3 15 (by unfold kR; omega)]; exact g8 j hj
      · intro j hj; rw [pt_a (by omega), pt_a (by omega), k3 9 (by unfold kR; omega)]; exact g9 j hj
    · obtain ⟨m0, m1, -⟩ := hR3'.2.2 h0
      refine b_istore_n dX5_readRoad_62 (by decide) rfl ?_
      refine b_aload_n dX5_readRoad_63 rfl ?_
      refine g_geti (x := nI ((r3 Y P S).2.1)) dX5_readRoad_64 fX5_52 a2 rfl m1 ?_
      refine b_if_ne_t 100 dX5_readRoad_67 (by decide) (nI_ne0 (by omega) (by omega)) ?_
      refine b_vret dX5_readRoad_100 ?_
      unfold xRoad
      rw [hPe]
      exact PLn_mk (kL_s k3) hR3' (fun hz => absurd hz h0)
  refine g_callV [] dX5_readRoad_20 kX5_kind lX5_58 a2 rfl rfl (c_kind hY hR2' hp2) rfl rfl (Nat.le_of_ble_eq_true rfl) ?_
  refine b_iconst (v := nI 2) dX5_readRoad_23 (by decide) ?_
  refine b_icmp_ne 48 dX5_readRoad_24 (by decide) (fun c1 => ?_) (fun c1 => ?_)
  · skip
    have c2 : ¬ kd Y (r1 Y P S) = 16 := fun z => c1 ((cK_e (k := 16) (by omega) (by omega)).mpr z)
    have e2 : r2 Y P S = r1 Y P S := by unfold r2; rw [if_neg (fun z => c2 z.1)]
    exact fin s2 k2 (by rw [e2]; exact hR2') (by rw [e2]; exact hp2)
  · skip
    have c2 : kd Y (r1 Y P S) = 16 := (cK_e (k := 16) (by omega) (by omega)).mp c1
    obtain ⟨h0, h1⟩ := kd_lt hY hp2 (by omega)
    have ei : aI Y (r1 Y P S) = (r1 Y P S).1 := by unfold aI; rw [if_pos h0]
    have hv := tV_lt (X := Y.1) (r1 Y P S).1
    have ha := aI_le hp2
    refine b_aload_n dX5_readRoad_27 rfl ?_
    refine g_get dX5_readRoad_28 fX5_12 a2 rfl ?_
    refine g_get dX5_readRoad_31 fX5_86 a3 rfl ?_
    refine b_aload_n dX5_readRoad_34 rfl ?_
    refine g_geti (x := nI (aI Y (r1 Y P S))) dX5_readRoad_35 fX5_55 a2 rfl (RF_at hR2') ?_
    refine g_iald dX5_readRoad_38 a6 rfl (by omega) ?_
    refine b_top (y := nI (tV Y.1 (r1 Y P S).1)) (by rw [← ei]; exact tV_r hR2' hp2) ?_
    refine b_iload_n dX5_readRoad_39 rfl ?_
    refine b_icmp_ne 48 dX5_readRoad_40 (by decide) (fun c3 => ?_) (fun c3 => ?_)
    · skip
      have c4 : ¬ tV Y.1 (r1 Y P S).1 = vl Y 0 P (nxt Y S) := fun z => c3 (by rw [z])
      have e2 : r2 Y P S = r1 Y P S := by unfold r2; rw [if_neg (fun z => c4 z.2)]
      exact fin s2 k2 (by rw [e2]; exact hR2') (by rw [e2]; exact hp2)
    · skip
      have c4 : tV Y.1 (r1 Y P S).1 = vl Y 0 P (nxt Y S) := by rw [nI_eq (by omega) (by omega)] at c3; exact c3
      have e2 : r2 Y P S = fail Y 3 (r1 Y P S) := by unfold r2; rw [if_pos ⟨c2, c4⟩]
      refine b_aload_n dX5_readRoad_43 rfl ?_
      refine b_iconst (v := nI 3) dX5_readRoad_44 (by decide) ?_
      refine g_callVp [.int (nI 3)] dX5_readRoad_45 kX5_refuse lX5_82 a2 rfl rfl (c_refuse (f := 3) hY hR2' hp2 (by omega) (by omega)) rfl rfl (Nat.le_of_ble_eq_true rfl) ?_
      rintro r h9 ⟨rfl, s3, rfl, hs3, hR3⟩
      exact fin s3 (kR_t k2 hs3) (by rw [e2]; exact hR3) (by rw [e2]; exact PO_fl hp2 (by omega))
theorem c_readHint {G : GT} {d : Nat} {σ : ST} {μ : SL} {Y : PX} {S : FS} {B : LB} (hY : PxO Y) (hR : RF σ Y S) (hp : PO Y 0 S) (hB : RLd σ B) : Fn G (d + 2) mX5_readHint [.ref (G.b0 + 2)] (sh G σ μ) (PLn G μ σ Y (xHint Y S B)) := by
  obtain ⟨⟨hW, hF, hP, hW16, hF8, hP6⟩, g1, g2, g3, g4, g5, g6, g7, g8, g9⟩ := id hB
  obtain ⟨F, hFe⟩ : ∃ F, B.1.F = F := ⟨_, rfl⟩
  rw [hFe] at hF hF8 g9
  refine fn_of (ls := [some (.ref (G.b0 + 2)), none]) (by decide +kernel) (Nat.le_of_ble_eq_true rfl) 1 rfl ?_
  refine b_aload_n dX5_readHint_0 rfl ?_
  refine g_callVp [] dX5_readHint_1 kX5_goOn lX5_79 a2 rfl rfl (c_goOn hY hR hp) rfl rfl (Nat.le_of_ble_eq_true rfl) ?_
  rintro r h9 ⟨rfl, s1, rfl, hs1, hR1⟩
  have hp1 := PO_nx0 hp
  refine b_aload_n dX5_readHint_4 rfl ?_
  refine b_iconst (v := nI 0) dX5_readHint_5 (by decide) ?_
  refine b_aload_n dX5_readHint_6 rfl ?_
  refine g_get dX5_readHint_7 fX5_28 a2 rfl ?_
  refine g_geti (x := nI F) dX5_readHint_10 fX5_129 a11 rfl (by rw [hs1 11 (by unfold kR; omega)]; exact hF) ?_
  refine b_iconst (v := nI 1) dX5_readHint_13 (by decide) ?_
  refine b_isub dX5_readHint_14 ?_
  refine g_callVp [.int (nI 0), .int ((nI F) - (nI 1))] dX5_readHint_15 kX5_takeNumber lX5_107 a2 rfl rfl (c_takeN (zh := F) hY hR1 hp1 (by omega) (by omega) rfl) rfl rfl (Nat.le_of_ble_eq_true rfl) ?_
  rintro r h9 ⟨rfl, s2, rfl, hs2, hR2⟩
  have hp2 : PO Y 0 (h1 Y F S) := PO_tnum (lw := 0) (zh := F) hp1
  have hR2' : RF s2 Y (h1 Y F S) := hR2
  have k2 := kR_t hs1 hs2
  have lv1 : vl Y 0 F (nxt Y S) < 8 := vl_lt (by omega) (by omega)
  refine b_istore_n dX5_readHint_18 (by decide) rfl ?_
  refine b_aload_n dX5_readHint_19 rfl ?_
  refine g_get dX5_readHint_20 fX5_28 a2 rfl ?_
  refine g_get dX5_readHint_23 fX5_147 a11 rfl ?_
  refine b_iload_n dX5_readHint_26 rfl ?_
  refine b_dup2 dX5_readHint_27 rfl rfl ?_
  refine g_iald dX5_readHint_28 a15 rfl (by omega) ?_
  refine b_iconst (v := nI 1) dX5_readHint_29 (by decide) ?_
  refine b_aload_n dX5_readHint_30 rfl ?_
  refine b_iconst (v := nI 0) dX5_readHint_31 (by decide) ?_
  refine b_aload_n dX5_readHint_32 rfl ?_
  refine g_get dX5_readHint_33 fX5_28 a2 rfl ?_
  refine g_geti (x := nI F) dX5_readHint_36 fX5_129 a11 rfl (by rw [k2 11 (by unfold kR; omega)]; exact hF) ?_
  refine b_iconst (v := nI 1) dX5_readHint_39 (by decide) ?_
  refine b_isub dX5_readHint_40 ?_
  refine g_callVp [.int (nI 0), .int ((nI F) - (nI 1))] dX5_readHint_41 kX5_takeNumber lX5_107 a2 rfl rfl (c_takeN (zh := F) hY hR2' hp2 (by omega) (by omega) rfl) rfl rfl (Nat.le_of_ble_eq_true rfl) ?_
  rintro r h9 ⟨rfl, s3, rfl, hs3, hR3⟩
  have k3 := kR_t k2 hs3
  refine b_ishl dX5_readHint_44 ?_
  refine b_ior dX5_readHint_45 ?_
  refine g_iast dX5_readHint_46 a15 rfl (by omega) ?_
  refine b_vret dX5_readHint_47 ?_
  unfold xHint
  rw [hFe]
  refine PLn_mk (kL_p (kL_s k3) (by unfold kL; omega)) (RF_pt hR3 (by omega)) (fun hz => ?_)
  refine ⟨⟨?_, ?_, ?_, hW16, hF8, hP6⟩, ?_, ?_, ?_, ?_, ?_, ?_, ?_, ?_, ?_⟩
  · rw [pt_a (by omega), k3 11 (by unfold kR; omega)]; exact hW
  · rw [pt_a (by omega), k3 11 (by unfold kR; omega)]; exact hF
  · rw [pt_a (by omega), k3 11 (by unfold kR; omega)]; exact hP
  · rw [pt_a (by omega), k3 11 (by unfold kR; omega)]; exact g1
  · rw [pt_a (by omega), k3 11 (by unfold kR; omega)]; exact g2
  · rw [pt_a (by omega), k3 17 (by unfold kR; omega)]; exact g3
  · intro j hj; rw [pt_a (by omega), k3 12 (by unfold kR; omega)]; exact g4 j hj
  · intro j hj; rw [pt_a (by omega), k3 13 (by unfold kR; omega)]; exact g5 j hj
  · intro j hj; rw [pt_a (by omega), k3 18 (by unfold kR; omega)]; exact g6 j hj
  · intro j hj; rw [pt_a (by omega), k3 16 (by unfold kR; omega)]; exact g7 j hj
  · intro j hj
    show _ = if j = vl Y 0 F (nxt Y S) then B.1.hint j ||| bit (vl Y 0 F (h1 Y F S)) else B.1.hint j
    by_cases e : j = vl Y 0 F (nxt Y S)
    · rw [if_pos e, e, pt_s, show (11 : Nat) + 4 = 15 from rfl, k2 15 (by unfold kR; omega), g8 _ (by omega)]; rfl
    · rw [if_neg e, pt_j e, k3 15 (by unfold kR; omega)]; exact g8 j hj
  · intro j hj; rw [pt_a (by omega), k3 9 (by unfold kR; omega)]; exact g9 j hj

