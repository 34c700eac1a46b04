/-! ===== the reference: roads, hints ===== -/
/-- only these places of the land in the making have changed, none of its head -/
theorem LM_road {σ s : ST} {B : LB} {r : Nat → Int32} (hB : LM σ B) (e1 : ∀ q, q < 91 ∨ 97 ≤ q → s 81 q = σ 81 q) (e2 : ∀ p, p < 6 → s 81 (91 + p) = r p) (e3 : s 83 = σ 83) (e4 : s 84 = σ 84) : LM s (((B.1.W, B.1.F, B.1.P, B.1.t), (B.1.num, B.1.wt, B.1.hold, B.1.hint, r, B.1.gl, B.1.told)), B.2) := by
  obtain ⟨⟨g0, g1, g2, g3, g4⟩, ⟨b1, b2, b3⟩, w, tl, rd, hi, fe, z⟩ := hB
  refine ⟨⟨by rw [e1 0 (by omega)]; exact g0, by rw [e1 1 (by omega)]; exact g1, by rw [e1 2 (by omega)]; exact g2, by rw [e1 3 (by omega)]; exact g3, by rw [e1 4 (by omega)]; exact g4⟩, ⟨b1, b2, b3⟩, fun v hv => ?_, fun p hp => ?_, e2, fun f hf => ?_, fun f hf => ?_, fun q h1 h2 => ?_⟩
  · have hv' : v < B.1.W := hv
    obtain ⟨a1, a2, a3⟩ := w v hv
    exact ⟨fun k hk => by rw [e1 _ (by omega)]; exact a1 k hk, by rw [e1 _ (by omega)]; exact a2, by rw [e1 _ (by omega)]; exact a3⟩
  · have hp' : p < B.1.P := hp
    rw [e1 _ (by omega)]; exact tl p hp
  · rw [e1 _ (by omega)]; exact hi f hf
  · rw [e3, e4]; exact fe f hf
  · rw [e1 _ (by omega)]; exact z q h1 h2
theorem LM_hint {σ s : ST} {B : LB} {r : Nat → Int32} (hB : LM σ B) (e1 : ∀ q, q < 97 ∨ 105 ≤ q → s 81 q = σ 81 q) (e2 : ∀ p, p < 8 → s 81 (97 + p) = r p) (e3 : s 83 = σ 83) (e4 : s 84 = σ 84) : LM s (((B.1.W, B.1.F, B.1.P, B.1.t), (B.1.num, B.1.wt, B.1.hold, r, B.1.road, B.1.gl, B.1.told)), B.2) := by
  obtain ⟨⟨g0, g1, g2, g3, g4⟩, ⟨b1, b2, b3⟩, w, tl, rd, hi, fe, z⟩ := hB
  refine ⟨⟨by rw [e1 0 (by omega)]; exact g0, by rw [e1 1 (by omega)]; exact g1, by rw [e1 2 (by omega)]; exact g2, by rw [e1 3 (by omega)]; exact g3, by rw [e1 4 (by omega)]; exact g4⟩, ⟨b1, b2, b3⟩, fun v hv => ?_, fun p hp => ?_, fun p hp => ?_, e2, fun f hf => ?_, fun q h1 h2 => ?_⟩
  · have hv' : v < B.1.W := hv
    obtain ⟨a1, a2, a3⟩ := w v hv
    exact ⟨fun k hk => by rw [e1 _ (by omega)]; exact a1 k hk, by rw [e1 _ (by omega)]; exact a2, by rw [e1 _ (by omega)]; exact a3⟩
  · have hp' : p < B.1.P := hp
    rw [e1 _ (by omega)]; exact tl p hp
  · rw [e1 _ (by omega)]; exact rd p hp
  · rw [e3, e4]; exact fe f hf
  · rw [e1 _ (by omega)]; exact z q h1 h2
theorem LM_true {σ s : ST} {B : LB} {t : Nat} (hB : LM σ B) (e1 : ∀ q, q ≠ 4 → s 81 q = σ 81 q) (e2 : s 81 4 = nI t) (e3 : s 83 = σ 83) (e4 : s 84 = σ 84) : LM s (((B.1.W, B.1.F, B.1.P, t), B.1.2), B.2) := by
  obtain ⟨⟨g0, g1, g2, g3, g4⟩, ⟨b1, b2, b3⟩, w, tl, rd, hi, fe, z⟩ := hB
  refine ⟨⟨by rw [e1 0 (by omega)]; exact g0, by rw [e1 1 (by omega)]; exact g1, by rw [e1 2 (by omega)]; exact g2, by rw [e1 3 (by omega)]; exact g3, e2⟩, ⟨b1, b2, b3⟩, fun v hv => ?_, fun p hp => ?_, fun p hp => ?_, fun f hf => ?_, fun f hf => ?_, fun q h1 h2 => ?_⟩
  · obtain ⟨a1, a2, a3⟩ := w v hv
    exact ⟨fun k hk => by rw [e1 _ (by omega)]; exact a1 k hk, by rw [e1 _ (by omega)]; exact a2, by rw [e1 _ (by omega)]; exact a3⟩
  · rw [e1 _ (by omega)]; exact tl p hp
  · rw [e1 _ (by omega)]; exact rd p hp
  · rw [e1 _ (by omega)]; exact hi f hf
  · rw [e3, e4]; exact fe f hf
  · rw [e1 _ (by omega)]; exact z q h1 h2
theorem LM_lines {σ s : ST} {B : LB} {n : Nat} (hB : LM σ B) (e1 : ∀ q, q ≠ 0 → s 81 q = σ 81 q) (e2 : s 81 0 = nI n) (e3 : s 83 = σ 83) (e4 : s 84 = σ 84) : LM s (B.1, n, B.2.2) := by
  obtain ⟨⟨g0, g1, g2, g3, g4⟩, ⟨b1, b2, b3⟩, w, tl, rd, hi, fe, z⟩ := hB
  refine ⟨⟨e2, by rw [e1 1 (by omega)]; exact g1, by rw [e1 2 (by omega)]; exact g2, by rw [e1 3 (by omega)]; exact g3, by rw [e1 4 (by omega)]; exact g4⟩, ⟨b1, b2, b3⟩, fun v hv => ?_, fun p hp => ?_, fun p hp => ?_, fun f hf => ?_, fun f hf => ?_, fun q h1 h2 => ?_⟩
  · obtain ⟨a1, a2, a3⟩ := w v hv
    exact ⟨fun k hk => by rw [e1 _ (by omega)]; exact a1 k hk, by rw [e1 _ (by omega)]; exact a2, by rw [e1 _ (by omega)]; exact a3⟩
  · rw [e1 _ (by omega)]; exact tl p hp
  · rw [e1 _ (by omega)]; exact rd p hp
  · rw [e1 _ (by omega)]; exact hi f hf
  · rw [e3, e4]; exact fe f hf
  · rw [e1 _ (by omega)]; exact z q h1 h2
set_option maxHeartbeats 1000000 in
theorem m_readRoad {G : GT} {d : Nat} {σ : ST} {μ : SL} {Y : PX} {S : FS} {B : LB} (hY : PxO Y) (hR : RM σ Y (nxt Y S)) (hp : PO Y 0 (nxt Y S)) (hB : LM σ B) : Fn G (d + 7) mX12_readRoad [.ref (G.b0 + 77)] (sh G σ μ) (PLm G μ σ Y (xRoad Y S B)) := by
  obtain ⟨P, hPe⟩ : ∃ P, B.1.P = P := ⟨_, rfl⟩
  have hP : σ 81 3 = nI P := by rw [← hPe]; exact hB.1.2.2.2.1
  have hP6 : P ≤ 6 := by rw [← hPe]; exact hB.2.1.2.2
  refine fn_of (ls := [some (.ref (G.b0 + 77)), none, none]) (by decide +kernel) (Nat.le_of_ble_eq_true rfl) 2 rfl ?_
  refine b_aload_n dX12_readRoad_0 rfl ?_
  refine b_iconst (v := nI 0) dX12_readRoad_1 (by decide) ?_
  refine b_aload_n dX12_readRoad_2 rfl ?_
  refine g_get dX12_readRoad_3 fX12_24 a77 rfl ?_
  refine b_iconst (v := nI 3) dX12_readRoad_6 (by decide) ?_
  refine g_iald dX12_readRoad_7 a81 rfl (by omega) ?_
  refine b_top hP ?_
  refine b_iconst (v := nI 1) dX12_readRoad_8 (by decide) ?_
  refine b_isub dX12_readRoad_9 ?_
  refine g_callVp [.int (nI 0), .int ((nI P) - (nI 1))] dX12_readRoad_10 kX12_takes lX12_149 a77 rfl rfl (m_takes (d := d) (zh := P) hY hR hp (by omega) (by omega) rfl) rfl rfl (Nat.le_of_ble_eq_true rfl) ?_
  rintro r h9 ⟨v1, s1, rfl, rfl, hs1, hR1, hv1⟩
  have hR1' : RM s1 Y (r1 Y P S) := hR1
  have hp1 : PO Y 0 (r1 Y P S) := PO_tnum hp
  have hv1' : (r1 Y P S).2.1 = 0 → v1 = nI (vl Y 0 P (nxt Y S)) := hv1
  refine b_istore_n dX12_readRoad_13 (by decide) rfl ?_
  refine b_aload_n dX12_readRoad_14 rfl ?_
  refine b_bipush (v := nI 16) dX12_readRoad_15 (by decide) ?_
  have fin : ∀ s : ST, kM σ s → RM s Y (r2 Y P S) → BB G RX12 cX12_readRoad 3 none (d + 7) (QM G (PLm G μ σ Y (xRoad Y S B))) 36 [some (.ref (G.b0 + 77)), some (.int v1), none] [] (sh G s μ) := by
    intro s hs hRs
    have hps : PO Y 0 (r2 Y P S) := by
      unfold r2
      split
      · exact PO_fl hp1 (by omega)
      · exact hp1
    refine b_aload_n dX12_readRoad_36 rfl ?_
    refine b_iconst (v := nI 0) dX12_readRoad_37 (by decide) ?_
    refine b_aload_n dX12_readRoad_38 rfl ?_
    refine g_get dX12_readRoad_39 fX12_24 a77 rfl ?_
    refine b_iconst (v := nI 3) dX12_readRoad_42 (by decide) ?_
    refine g_iald dX12_readRoad_43 a81 rfl (by omega) ?_
    refine b_top (show s 81 3 = nI P by rw [hs.1 81 (by omega) (by omega)]; exact hP) ?_
    refine b_iconst (v := nI 1) dX12_readRoad_44 (by decide) ?_
    refine b_isub dX12_readRoad_45 ?_
    refine g_callVp [.int (nI 0), .int ((nI P) - (nI 1))] dX12_readRoad_46 kX12_takes lX12_149 a77 rfl rfl (m_takes (d := d) (zh := P) hY hRs hps (by omega) (by omega) rfl) rfl rfl (Nat.le_of_ble_eq_true rfl) ?_
    rintro r h9 ⟨v2, s3, rfl, rfl, hs3, hR3, hv2⟩
    have hR3' : RM s3 Y (r3 Y P S) := hR3
    have hl := hR3'.l
    have k3 := kM_t hs hs3
    have e81 := k3.1 81 (by omega) (by omega)
    refine b_istore_n dX12_readRoad_49 (by decide) rfl ?_
    refine b_aload_n dX12_readRoad_50 rfl ?_
    refine g_geti (x := nI ((r3 Y P S).2.1)) dX12_readRoad_51 fX12_129 a77 rfl hR3'.w ?_
    refine b_if_eq 58 dX12_readRoad_54 (by decide) (fun c1 => ?_) (fun c1 => ?_)
    · skip
      have c2 : (r3 Y P S).2.1 = 0 := by rw [← nI_0, nI_eq (by omega) (by omega)] at c1; exact c1
      obtain ⟨a1, a2, a3⟩ := r3_0 c2
      have f1 := hv1' (r2_0 (tnum_0 c2).1).1
      have f2 := hv2 c2
      obtain ⟨p, hpe⟩ : ∃ p, p = vl Y 0 P (nxt Y S) := ⟨_, rfl⟩
      obtain ⟨q, hqe⟩ : ∃ q, q = vl Y 0 P (r2 Y P S) := ⟨_, rfl⟩
      rw [← hpe] at a1 a3 f1
      rw [← hqe] at a2 a3 f2
      subst f1 f2
      refine b_aload_n dX12_readRoad_58 rfl ?_
      refine g_get dX12_readRoad_59 fX12_24 a77 rfl ?_
      refine b_bipush (v := nI 91) dX12_readRoad_62 (by decide) ?_
      refine b_iload_n dX12_readRoad_64 rfl ?_
      refine b_iaddN dX12_readRoad_65 ?_
      refine b_dup2 dX12_readRoad_66 rfl rfl ?_
      refine g_iald dX12_readRoad_67 a81 rfl (by omega) ?_
      refine b_iconst (v := nI 1) dX12_readRoad_68 (by decide) ?_
      refine b_iload_n dX12_readRoad_69 rfl ?_
      refine b_ishl dX12_readRoad_70 ?_
      refine b_ior dX12_readRoad_71 ?_
      refine g_iast dX12_readRoad_72 a81 rfl (by omega) ?_
      refine b_aload_n dX12_readRoad_73 rfl ?_
      refine g_get dX12_readRoad_74 fX12_24 a77 rfl ?_
      refine b_bipush (v := nI 91) dX12_readRoad_77 (by decide) ?_
      refine b_iload_n dX12_readRoad_79 rfl ?_
      refine b_iaddN dX12_readRoad_80 ?_
      refine b_dup2 dX12_readRoad_81 rfl rfl ?_
      refine g_iald dX12_readRoad_82 a81 rfl (by omega) ?_
      refine b_iconst (v := nI 1) dX12_readRoad_83 (by decide) ?_
      refine b_iload_n dX12_readRoad_84 rfl ?_
      refine b_ishl dX12_readRoad_85 ?_
      refine b_ior dX12_readRoad_86 ?_
      refine g_iast dX12_readRoad_87 a81 rfl (by omega) ?_
      refine b_vret dX12_readRoad_88 ?_
      unfold xRoad
      rw [hPe, ← hpe, ← hqe]
      refine PLm_mk (kN_p (kN_p (kN_m k3) (by omega)) (by omega)) (RM_pt (RM_pt hR3' (by omega) (by omega) (by omega)) (by omega) (by omega) (by omega)) (fun _ => ?_)
      rw [← hPe]
      refine LM_road hB (fun j hj => ?_) (fun j hj => ?_) ?_ ?_
      · rw [pt_j (by omega), pt_j (by omega), e81]
      · have hrd := hB.2.2.2.2.1
        by_cases e : j = q
        · subst e
          rw [if_pos rfl, pt_s, pt_j (by omega), e81, hrd j hj]; rfl
        · rw [if_neg e]
          by_cases e' : j = p
          · subst e'
            rw [if_pos rfl, pt_j (by omega), pt_s, e81, hrd j hj]; rfl
          · rw [if_neg e', pt_j (by omega), pt_j (by omega), e81]; exact hrd j hj
      · rw [pt_r (by omega), pt_r (by omega)]; exact k3.1 83 (by omega) (by omega)
      · rw [pt_r (by omega), pt_r (by omega)]; exact k3.1 84 (by omega) (by omega)
    · skip
      have c2 : (r3 Y P S).2.1 ≠ 0 := fun z => c1 (by rw [z]; rfl)
      refine b_vret dX12_readRoad_57 ?_
      unfold xRoad
      rw [hPe]
      exact PLm_mk (kN_m k3) hR3' (fun z => absurd z c2)
  refine g_callV [.int (nI 16)] dX12_readRoad_17 kX12_is lX12_135 a77 rfl rfl (m_is hR1' (k := 16) (by omega) (by omega)) rfl rfl (Nat.le_of_ble_eq_true rfl) ?_
  refine b_if_eq 36 dX12_readRoad_20 (by decide) (fun c1 => ?_) (fun c1 => ?_)
  · skip
    have c2 : ¬ kd Y (r1 Y P S) = 16 := of_decide_eq_false ((bI_0 _).mp c1)
    exact fin s1 hs1 (by unfold r2; rw [if_neg (fun z => c2 z.1)]; exact hR1')
  · skip
    have c2 : kd Y (r1 Y P S) = 16 := of_decide_eq_true ((bI_1 _).mp c1)
    obtain ⟨h0, hn⟩ := hR1'.n c2
    have hv9 := tV_lt (X := Y.1) (r1 Y P S).1
    have f1 := hv1' h0
    have hlt : vl Y 0 P (nxt Y S) < P := (vl_ok (S := nxt Y S) h0).2
    refine b_aload_n dX12_readRoad_23 rfl ?_
    refine g_geti (x := nI (tV Y.1 (r1 Y P S).1)) dX12_readRoad_24 fX12_124 a77 rfl hn ?_
    refine b_iload_n dX12_readRoad_27 rfl ?_
    refine b_icmp_ne 36 dX12_readRoad_28 (by decide) (fun c3 => ?_) (fun c3 => ?_)
    · skip
      refine fin s1 hs1 ?_
      unfold r2
      rw [if_neg (fun z => c3 (by rw [f1, z.2]))]
      exact hR1'
    · skip
      have c4 : tV Y.1 (r1 Y P S).1 = vl Y 0 P (nxt Y S) := by rw [f1, nI_eq (by omega) (by omega)] at c3; exact c3
      refine b_aload_n dX12_readRoad_31 rfl ?_
      refine b_iconst (v := nI 3) dX12_readRoad_32 (by decide) ?_
      refine g_callVp [.int (nI 3)] dX12_readRoad_33 kX12_fails lX12_141 a77 rfl rfl (m_fails hR1' (f := 3) (by omega) (by omega)) rfl rfl (Nat.le_of_ble_eq_true rfl) ?_
      rintro r h9 ⟨rfl, s2, rfl, hs2, hR2⟩
      refine fin s2 (kM_t hs1 hs2) ?_
      unfold r2
      rw [if_pos ⟨c2, c4⟩]
      exact hR2
theorem m_readHint {G : GT} {d : Nat} {σ : ST} {μ : SL} {Y : PX} {S : FS} {B : LB} (hY : PxO Y) (hR : RM σ Y (nxt Y S)) (hp : PO Y 0 (nxt Y S)) (hB : LM σ B) : Fn G (d + 7) mX12_readHint [.ref (G.b0 + 77)] (sh G σ μ) (PLm G μ σ Y (xHint Y S B)) := by
  obtain ⟨F, hFe⟩ : ∃ F, B.1.F = F := ⟨_, rfl⟩
  have hF : σ 81 2 = nI F := by rw [← hFe]; exact hB.1.2.2.1
  have hF8 : F ≤ 8 := by rw [← hFe]; exact hB.2.1.2.1
  refine fn_of (ls := [some (.ref (G.b0 + 77)), none, none]) (by decide +kernel) (Nat.le_of_ble_eq_true rfl) 2 rfl ?_
  refine b_aload_n dX12_readHint_0 rfl ?_
  refine b_iconst (v := nI 0) dX12_readHint_1 (by decide) ?_
  refine b_aload_n dX12_readHint_2 rfl ?_
  refine g_get dX12_readHint_3 fX12_24 a77 rfl ?_
  refine b_iconst (v := nI 2) dX12_readHint_6 (by decide) ?_
  refine g_iald dX12_readHint_7 a81 rfl (by omega) ?_
  refine b_top hF ?_
  refine b_iconst (v := nI 1) dX12_readHint_8 (by decide) ?_
  refine b_isub dX12_readHint_9 ?_
  refine g_callVp [.int (nI 0), .int ((nI F) - (nI 1))] dX12_readHint_10 kX12_takes lX12_149 a77 rfl rfl (m_takes (d := d) (zh := F) hY hR hp (by omega) (by omega) rfl) rfl rfl (Nat.le_of_ble_eq_true rfl) ?_
  rintro r h9 ⟨v1, s1, rfl, rfl, hs1, hR1, hv1⟩
  have hR1' : RM s1 Y (h1 Y F S) := hR1
  have hp1 : PO Y 0 (h1 Y F S) := PO_tnum hp
  have hv1' : (h1 Y F S).2.1 = 0 → v1 = nI (vl Y 0 F (nxt Y S)) := hv1
  refine b_istore_n dX12_readHint_13 (by decide) rfl ?_
  refine b_aload_n dX12_readHint_14 rfl ?_
  refine b_iconst (v := nI 0) dX12_readHint_15 (by decide) ?_
  refine b_aload_n dX12_readHint_16 rfl ?_
  refine g_get dX12_readHint_17 fX12_24 a77 rfl ?_
  refine b_iconst (v := nI 2) dX12_readHint_20 (by decide) ?_
  refine g_iald dX12_readHint_21 a81 rfl (by omega) ?_
  refine b_top (show s1 81 2 = nI F by rw [hs1.1 81 (by omega) (by omega)]; exact hF) ?_
  refine b_iconst (v := nI 1) dX12_readHint_22 (by decide) ?_
  refine b_isub dX12_readHint_23 ?_
  refine g_callVp [.int (nI 0), .int ((nI F) - (nI 1))] dX12_readHint_24 kX12_takes lX12_149 a77 rfl rfl (m_takes (d := d) (zh := F) hY hR1' hp1 (by omega) (by omega) rfl) rfl rfl (Nat.le_of_ble_eq_true rfl) ?_
  rintro r h9 ⟨v2, s3, rfl, rfl, hs3, hR3, hv2⟩
  have hl := hR3.l
  have k3 := kM_t hs1 hs3
  have e81 := k3.1 81 (by omega) (by omega)
  refine b_istore_n dX12_readHint_27 (by decide) rfl ?_
  refine b_aload_n dX12_readHint_28 rfl ?_
  refine g_geti (x := nI ((tnum Y 0 F (h1 Y F S)).2.1)) dX12_readHint_29 fX12_129 a77 rfl hR3.w ?_
  refine b_if_ne 50 dX12_readHint_32 (by decide) (fun c1 => ?_) (fun c1 => ?_)
  · skip
    have c2 : (tnum Y 0 F (h1 Y F S)).2.1 ≠ 0 := fun z => c1 (by rw [z]; rfl)
    refine b_vret dX12_readHint_50 ?_
    unfold xHint
    rw [hFe]
    exact PLm_mk (kN_m k3) hR3 (fun z => absurd z c2)
  · skip
    have c2 : (tnum Y 0 F (h1 Y F S)).2.1 = 0 := by rw [← nI_0, nI_eq (by omega) (by omega)] at c1; exact c1
    have c3 := (tnum_0 c2).1
    have f1 := hv1' c3
    have f2 := hv2 c2
    have a1 : vl Y 0 F (nxt Y S) < F := (vl_ok (S := nxt Y S) c3).2
    have a2 : vl Y 0 F (h1 Y F S) < F := (vl_ok c2).2
    obtain ⟨p, hpe⟩ : ∃ p, p = vl Y 0 F (nxt Y S) := ⟨_, rfl⟩
    obtain ⟨q, hqe⟩ : ∃ q, q = vl Y 0 F (h1 Y F S) := ⟨_, rfl⟩
    rw [← hpe] at a1 f1
    rw [← hqe] at a2 f2
    subst f1 f2
    refine b_aload_n dX12_readHint_35 rfl ?_
    refine g_get dX12_readHint_36 fX12_24 a77 rfl ?_
    refine b_bipush (v := nI 97) dX12_readHint_39 (by decide) ?_
    refine b_iload_n dX12_readHint_41 rfl ?_
    refine b_iaddN dX12_readHint_42 ?_
    refine b_dup2 dX12_readHint_43 rfl rfl ?_
    refine g_iald dX12_readHint_44 a81 rfl (by omega) ?_
    refine b_iconst (v := nI 1) dX12_readHint_45 (by decide) ?_
    refine b_iload_n dX12_readHint_46 rfl ?_
    refine b_ishl dX12_readHint_47 ?_
    refine b_ior dX12_readHint_48 ?_
    refine g_iast dX12_readHint_49 a81 rfl (by omega) ?_
    refine b_vret dX12_readHint_50 ?_
    unfold xHint
    rw [hFe, ← hpe, ← hqe]
    refine PLm_mk (kN_p (kN_m k3) (by omega)) (RM_pt hR3 (by omega) (by omega) (by omega)) (fun _ => ?_)
    rw [← hFe]
    refine LM_hint hB (fun j hj => ?_) (fun j hj => ?_) ?_ ?_
    · rw [pt_j (by omega), e81]
    · have hrd := hB.2.2.2.2.2.1
      by_cases e : j = p
      · subst e
        rw [if_pos rfl, pt_s, e81, hrd j hj]; rfl
      · rw [if_neg e, pt_j (by omega), e81]; exact hrd j hj
    · rw [pt_r (by omega)]; exact k3.1 83 (by omega) (by omega)
    · rw [pt_r (by omega)]; exact k3.1 84 (by omega) (by omega)

