/-! ===== Reader.read, KnowsLeast.land ===== -/
theorem clrS_at (σ : ST) (b c q : Nat) : clrS σ b c q = if (c = b + 1 ∧ q < 6) ∨ (c = b ∧ q = 2) then nI 0 else σ c q := rfl
theorem clrL_at (σ : ST) (a c q : Nat) : clrL σ a c q = if (c = a ∧ 5 ≤ q ∧ q ≤ 9) ∨ (c = a + 4 ∧ q < 8) ∨ (c = a + 5 ∧ q < 6) then nI 0 else σ c q := rfl
theorem bcmS_at (σ : ST) (o b c q : Nat) : bcmS σ o b c q = if c = b + 1 ∧ q < 6 then σ (o + 1) q else if c = b ∧ q = 2 then σ o 2 else σ c q := rfl
theorem bcmL_no {σ : ST} {o a c q : Nat} (h : ¬ (a ≤ c ∧ c ≤ a + 5)) : bcmL σ o a c q = σ c q := by
  unfold bcmL
  rw [if_neg (by omega), if_neg (by omega), if_neg (by omega), if_neg (by omega), if_neg (by omega), if_neg (by omega)]
theorem bcmL_0 {σ : ST} {o a q : Nat} (h1 : 5 ≤ q) (h2 : q ≤ 9) : bcmL σ o a a q = σ o q := by unfold bcmL; rw [if_pos ⟨rfl, h1, h2⟩]
theorem bcmL_1 {σ : ST} {o a q : Nat} (h1 : q < 48) : bcmL σ o a (a + 1) q = σ (o + 1) q := by unfold bcmL; rw [if_neg (by omega), if_pos ⟨rfl, h1⟩]
theorem bcmL_2 {σ : ST} {o a q : Nat} (h1 : q < 16) : bcmL σ o a (a + 2) q = σ (o + 2) q := by unfold bcmL; rw [if_neg (by omega), if_neg (by omega), if_pos ⟨rfl, h1⟩]
theorem bcmL_3 {σ : ST} {o a q : Nat} (h1 : q < 8) : bcmL σ o a (a + 3) q = σ (o + 3) q := by unfold bcmL; rw [if_neg (by omega), if_neg (by omega), if_neg (by omega), if_pos ⟨rfl, h1⟩]
theorem bcmL_4 {σ : ST} {o a q : Nat} (h1 : q < 8) : bcmL σ o a (a + 4) q = σ (o + 4) q := by unfold bcmL; rw [if_neg (by omega), if_neg (by omega), if_neg (by omega), if_neg (by omega), if_pos ⟨rfl, h1⟩]
theorem bcmL_5 {σ : ST} {o a q : Nat} (h1 : q < 6) : bcmL σ o a (a + 5) q = σ (o + 5) q := by unfold bcmL; rw [if_neg (by omega), if_neg (by omega), if_neg (by omega), if_neg (by omega), if_neg (by omega), if_pos ⟨rfl, h1⟩]
theorem bcmS_no {σ : ST} {o b c q : Nat} (h : ¬ (b ≤ c ∧ c ≤ b + 1)) : bcmS σ o b c q = σ c q := by rw [bcmS_at, if_neg (by omega), if_neg (by omega)]
theorem bcmS_1 {σ : ST} {o b q : Nat} (h : q < 6) : bcmS σ o b (b + 1) q = σ (o + 1) q := by rw [bcmS_at, if_pos ⟨rfl, h⟩]
theorem bcmS_0 {σ : ST} {o b : Nat} : bcmS σ o b b 2 = σ o 2 := by rw [bcmS_at, if_neg (by omega), if_pos ⟨rfl, rfl⟩]
def kRd (c : Nat) : Prop := 2 ≤ c ∧ c ≤ 18
def xRes (X : TX) (M : Nat) : FS × LB := xAll (X, M) (X.2 + 1) Q0
/-- where the facts of a read land hold -/
def xHold (Q : FS × LB) (f : Nat) : Int32 := hdF Q.2.1 Q.1.2.2.2 (fst0 Q.2.2.2 f) (Q.2.2.2 f) Q.2.1.W
def RdP (G : GT) (μ : SL) (σ : ST) (X : TX) : Option Value → HT → Prop := fun r h' => ∃ (s : ST) (M : Nat), isM X M ∧ (xRes X M).1.2.1 < 10 ∧ r = some (.int (nI (xRes X M).1.2.1)) ∧ h' = sh G s μ ∧ (∀ c, ¬ kRd c → s c = σ c) ∧ s 2 4 = nI (xRes X M).1.2.1 ∧ s 2 5 = (if (xRes X M).1.2.1 = 0 then -1 else nI (xRes X M).1.2.2.1) ∧ ((xRes X M).1.2.1 = 0 → RLd s (xRes X M).2 ∧ ∀ f, f < (xRes X M).2.1.F → s 14 f = xHold (xRes X M) f)
theorem fst_0 {Y : PX} : kd Y Q0.1 = tK Y.1 0 := rfl
theorem RLd_of2 {s s' : ST} {B : LB} (h : RLd s B) (e : ∀ c, c = 9 ∨ (11 ≤ c ∧ c ≤ 18) → c ≠ 14 → s' c = s c) : RLd s' B := by
  obtain ⟨g0, g1, g2, g3, g4, g5, g6, g7, g8, g9⟩ := h
  have e11 := e 11 (by omega) (by omega)
  refine ⟨LV_of g0 (fun q => by rw [e11]), by rw [e11]; exact g1, by rw [e11]; exact g2, by rw [e 17 (by omega) (by omega)]; exact g3, fun j hj => by rw [e 12 (by omega) (by omega)]; exact g4 j hj, fun j hj => by rw [e 13 (by omega) (by omega)]; exact g5 j hj, fun j hj => by rw [e 18 (by omega) (by omega)]; exact g6 j hj, fun j hj => by rw [e 16 (by omega) (by omega)]; exact g7 j hj, fun j hj => by rw [e 15 (by omega) (by omega)]; exact g8 j hj, fun j hj => by rw [e 9 (by omega) (by omega)]; exact g9 j hj⟩
set_option maxHeartbeats 4000000 in
theorem c_read {G : GT} {d : Nat} {σ : ST} {μ : SL} {X : TX} {n : Nat} (hT : TxA σ X) (hn : n = X.2) : Fn G (d + 29) mX5_read [.ref (G.b0 + 2), .ref (G.b0 + 1), .int (nI n)] (sh G σ μ) (RdP G μ σ X) := by
  have hn9 := hT.1
  refine fn_of (ls := [some (.ref (G.b0 + 2)), some (.ref (G.b0 + 1)), some (.int (nI n)), none]) (by decide +kernel) (Nat.le_of_ble_eq_true rfl) 1 rfl ?_
  refine b_aload_n dX5_read_0 rfl ?_
  refine g_get dX5_read_1 fX5_28 a2 rfl ?_
  refine g_callV [] dX5_read_4 kX2_clear lX5_43 a11 rfl rfl (c_Lclear ln11) rfl rfl (Nat.le_of_ble_eq_true rfl) ?_
  refine b_aload_n dX5_read_7 rfl ?_
  refine g_get dX5_read_8 fX5_35 a2 rfl ?_
  refine g_callV [] dX5_read_11 kX8_clear lX5_46 a17 rfl rfl (c_Sclear sa17) rfl rfl (Nat.le_of_ble_eq_true rfl) ?_
  refine b_aload_n dX5_read_14 rfl ?_
  refine g_get dX5_read_15 fX5_21 a2 rfl ?_
  refine g_callV [] dX5_read_18 kX0_clear lX5_47 a7 rfl rfl c_Fclear rfl rfl (Nat.le_of_ble_eq_true rfl) ?_
  refine b_aload_n dX5_read_21 rfl ?_
  refine g_get dX5_read_22 fX5_12 a2 rfl ?_
  refine b_aload_n dX5_read_25 rfl ?_
  refine b_iload_n dX5_read_26 rfl ?_
  have h1 : ∀ c, ¬ kRd c → (pt (clrS (clrL σ 11) 17) 7 3 (nI 0)) c = σ c := fun c hc => by
    unfold kRd at hc
    rw [pt_r (by omega)]
    funext q
    rw [clrS_at, if_neg (by omega), clrL_at, if_neg (by omega)]
  have hT1 : TxA (pt (clrS (clrL σ 11) 17) 7 3 (nI 0)) X := ⟨hn9, fun k hk => by rw [h1 1 (by unfold kRd; omega)]; exact hT.2 k hk⟩
  refine g_callVp [.ref (G.b0 + 1), .int (nI n)] dX5_read_27 kX9_cut lX5_48 a3 rfl rfl (c_cut (d := d + 21) hT1 hn) rfl rfl (Nat.le_of_ble_eq_true rfl) ?_
  rintro r h9 ⟨rfl, s1, M, rfl, hs1, hM, hm, htk⟩
  have hk1 : ∀ c, ¬ kRd c → s1 c = σ c := fun c hc => (hs1 c (by unfold kRd at hc; unfold kTok; omega)).trans (h1 c hc)
  have hY : PxO (X, M) := ⟨hM, hn9⟩
  refine b_aload_n dX5_read_30 rfl ?_
  refine b_iconst (v := nI 0) dX5_read_31 (by decide) ?_
  refine g_put dX5_read_32 wX5_52 a2 tfX5_4 (Nat.le_of_ble_eq_true rfl) rfl ?_
  refine b_aload_n dX5_read_35 rfl ?_
  refine b_iconst (v := -1) dX5_read_36 (by decide) ?_
  refine g_put dX5_read_37 wX5_39 a2 tfX5_5 (Nat.le_of_ble_eq_true rfl) rfl ?_
  refine b_aload_n dX5_read_40 rfl ?_
  refine b_iconst (v := nI 0) dX5_read_41 (by decide) ?_
  refine g_put dX5_read_42 wX5_55 a2 tfX5_6 (Nat.le_of_ble_eq_true rfl) rfl ?_
  refine b_iconst (v := nI 0) dX5_read_45 (by decide) ?_
  refine b_istore_n dX5_read_46 (by decide) rfl ?_
  have e2 : ∀ c, c ≠ 2 → pt (pt (pt s1 2 4 (nI 0)) 2 5 (-1)) 2 6 (nI 0) c = s1 c := fun c hc => by rw [pt_r hc, pt_r hc, pt_r hc]
  have lp : ∀ (k i : Nat) (s : ST) (Q : FS × LB), i + k = n + 1 → (∀ c, ¬ kRd c → s c = σ c) → RF s (X, M) Q.1 → (Q.1.2.1 = 0 → RLd s Q.2) → PO (X, M) 0 Q.1 → LOk Q → xAll (X, M) k Q = xRes X M → BB G RX5 cX5_read 4 (some .int) (d + 29) (QM G (RdP G μ σ X)) 47 [some (.ref (G.b0 + 2)), some (.ref (G.b0 + 1)), some (.int (nI n)), some (.int (nI i))] [] (sh G s μ) := by
    have fin : ∀ (s : ST) (z : Option Value), (∀ c, ¬ kRd c → s c = σ c) → RF s (X, M) (xRes X M).1 → ((xRes X M).1.2.1 = 0 → RLd s (xRes X M).2) → PO (X, M) 0 (xRes X M).1 → LOk (xRes X M) → BB G RX5 cX5_read 4 (some .int) (d + 29) (QM G (RdP G μ σ X)) 69 [some (.ref (G.b0 + 2)), some (.ref (G.b0 + 1)), some (.int (nI n)), z] [] (sh G s μ) := by
      intro s z hk hRs hz hps hok
      by_cases h0 : (xRes X M).1.2.1 = 0
      · obtain ⟨g1, g2, g3, g4, g5⟩ := hRs.2.1 h0
        obtain ⟨o1, o2, o3⟩ := hok h0
        obtain ⟨l0, l1, l2, l3, l4, l5, l6, l7, l8, l9⟩ := id (hz h0)
        have hlen := (hps h0)
        have hM9 := hY.le
        refine b_aload_n dX5_read_69 rfl ?_
        refine g_geti (x := nI 0) dX5_read_70 fX5_52 a2 rfl g1 ?_
        refine b_if_ne_f 87 dX5_read_73 (by decide) (by decide) ?_
        refine b_aload_n dX5_read_76 rfl ?_
        refine g_get dX5_read_77 fX5_21 a2 rfl ?_
        refine b_aload_n dX5_read_80 rfl ?_
        refine g_get dX5_read_81 fX5_28 a2 rfl ?_
        refine g_callVp [.ref (G.b0 + 11)] dX5_read_84 kX0_settle lX5_65 a7 rfl rfl (c_settle (d := d + 24) (L := (((xRes X M).2.1.W, (xRes X M).2.1.F, (xRes X M).2.1.P, 0), (s 12, s 13, s 14, s 15, s 16, s 11 5, s 18))) (cds := (xRes X M).1.2.2.2) (fe := (xRes X M).2.2.2) l0 ⟨fun _ _ => rfl, fun _ _ => rfl, rfl⟩ g5 (by have := hlen.1; have := hlen.2; omega) l9 o2) rfl rfl (Nat.le_of_ble_eq_true rfl) ?_
        rintro r h9 ⟨rfl, s2, rfl, hs2, hh2⟩
        refine b_aload_n dX5_read_87 rfl ?_
        refine g_geti (x := nI 0) dX5_read_88 fX5_52 a2 rfl (by rw [hs2 2 (by omega) (by omega)]; exact g1) ?_
        refine b_iret dX5_read_91 ⟨s2, M, hM, by omega, by rw [h0], rfl, fun c hc => by unfold kRd at hc; rw [hs2 c (by omega) (by omega)]; exact hk c hc, by rw [h0, hs2 2 (by omega) (by omega)]; exact g1, by rw [if_pos h0, hs2 2 (by omega) (by omega)]; exact g2, fun _ => ⟨RLd_of2 (hz h0) (fun c hc h14 => ?_), fun f hf => ?_⟩⟩
        · exact hs2 c (by omega) (by omega)
        · rw [hh2 f hf]
          unfold xHold
          refine hdF_cg o2.1 _ (fun w hw k hk' => ?_)
          have hk15 := isAt_lt hk'
          have hw16 := l0.2.2.2.1
          unfold wdV
          by_cases c1 : 12 ≤ k
          · rw [if_pos c1, if_pos c1]; exact l4 _ (by omega)
          · rw [if_neg c1, if_neg c1]
            by_cases c2 : k = 0
            · rw [if_pos c2, if_pos c2]
            · rw [if_neg c2, if_neg c2]
              by_cases c3 : k = 1
              · rw [if_pos c3, if_pos c3]; exact l5 w hw
              · rw [if_neg c3, if_neg c3]; rw [show LD.gl _ = s 11 5 from rfl, l1]
      · obtain ⟨m0, m1, m2, m3, -⟩ := hRs.2.2 h0
        refine b_aload_n dX5_read_69 rfl ?_
        refine g_geti (x := nI ((xRes X M).1.2.1)) dX5_read_70 fX5_52 a2 rfl m1 ?_
        refine b_if_ne_t 87 dX5_read_73 (by decide) (nI_ne0 (by omega) (by omega)) ?_
        refine b_aload_n dX5_read_87 rfl ?_
        refine g_geti (x := nI ((xRes X M).1.2.1)) dX5_read_88 fX5_52 a2 rfl m1 ?_
        exact b_iret dX5_read_91 ⟨s, M, hM, m0, rfl, rfl, hk, m1, by rw [if_neg h0]; exact m2, fun z => absurd z h0⟩
    intro k
    induction k with
    | zero =>
      intro i s Q hi hk hRs hz hps hok he
      refine b_iload_n dX5_read_47 rfl ?_
      refine b_iload_n dX5_read_48 rfl ?_
      refine b_icmp_gt_t 69 dX5_read_49 (by decide) (nI_lt (by omega) (by omega)) ?_
      have he' : Q = xRes X M := he
      rw [he'] at hRs hz hps hok
      exact fin s _ hk hRs hz hps hok
    | succ k ih =>
      intro i s Q hi hk hRs hz hps hok he
      refine b_iload_n dX5_read_47 rfl ?_
      refine b_iload_n dX5_read_48 rfl ?_
      refine b_icmp_gt_f 69 dX5_read_49 (by decide) (nI_nlt (by omega) (by omega)) ?_
      refine b_aload_n dX5_read_52 rfl ?_
      refine g_callV [] dX5_read_53 kX5_kind lX5_58 a2 rfl rfl (c_kind hY hRs hps) rfl rfl (Nat.le_of_ble_eq_true rfl) ?_
      rw [xAll] at he
      refine b_if_eq 69 dX5_read_56 (by decide) (fun c1 => ?_) (fun c1 => ?_)
      · skip
        have c2 : kd (X, M) Q.1 = 17 := (cK_e (k := 17) (by omega) (by omega)).mp c1
        rw [if_pos c2] at he
        rw [he] at hRs hz hps hok
        exact fin s _ hk hRs hz hps hok
      · skip
        have c2 : ¬ kd (X, M) Q.1 = 17 := fun z => c1 ((cK_e (k := 17) (by omega) (by omega)).mpr z)
        rw [if_neg c2] at he
        have h0 := (kd_lt hY hps c2).1
        refine b_aload_n dX5_read_59 rfl ?_
        refine g_callVp [] dX5_read_60 kX5_readLine lX5_62 a2 rfl rfl (c_readLine (d := d) hY hRs hps (hz h0)) rfl rfl (Nat.le_of_ble_eq_true rfl) ?_
        rintro r h9 ⟨rfl, s2, rfl, hs2, hR2, hB2⟩
        refine b_iinc dX5_read_63 rfl (nI_1 _) (by decide) rfl ?_
        refine b_goto 47 dX5_read_66 (by decide) ?_
        exact ih (i + 1) s2 _ (by omega) (fun c hc => (hs2 c (by unfold kRd at hc; unfold kL; omega)).trans (hk c hc)) hR2 hB2 (PO_xLine hY hps) (LOk_line hok) he
  have hk3 : ∀ c, c ≠ 2 → ¬ kTok c → c ≠ 7 → pt (pt (pt s1 2 4 (nI 0)) 2 5 (-1)) 2 6 (nI 0) c = clrS (clrL σ 11) 17 c := fun c h1 h2 h3 => by rw [e2 c h1, hs1 c h2, pt_r h3]
  have u11 : ∀ q, 5 ≤ q → q ≤ 9 → clrS (clrL σ 11) 17 11 q = nI 0 := fun q h1 h2 => by rw [clrS_at, if_neg (by omega), clrL_at, if_pos (by omega)]
  refine lp (n + 1) 0 _ Q0 (by omega) (fun c hc => by rw [e2 c (by unfold kRd at hc; omega)]; exact hk1 c hc) ?_ (fun _ => ?_) (fun _ => ⟨Nat.zero_le _, Nat.le_refl _⟩) LOk_0 (by rw [hn]; rfl)
  · refine ⟨⟨by rw [e2 3 (by omega)]; exact hm, fun i hi => by rw [e2 4 (by omega), e2 5 (by omega), e2 6 (by omega)]; exact htk i hi⟩, fun _ => ⟨?_, ?_, pt_s _ _ _ _, ?_, fun j c hj => absurd hj (by simp [Q0])⟩, fun h => absurd rfl h⟩
    · rw [pt_j (by omega), pt_j (by omega), pt_s]
    · rw [pt_j (by omega), pt_s]
    · rw [e2 7 (by omega), hs1 7 (by unfold kTok; omega), pt_s]; rfl
  · have f := fun c h1 h2 h3 => hk3 c h1 h2 h3
    refine ⟨⟨?_, ?_, ?_, Nat.zero_le _, Nat.zero_le _, Nat.zero_le _⟩, ?_, ?_, ?_, fun j hj => absurd hj (Nat.not_lt_zero j), fun j hj => absurd hj (Nat.not_lt_zero j), fun p hp => ?_, fun p hp => ?_, fun p hp => ?_, fun j hj => absurd hj (Nat.not_lt_zero j)⟩
    · rw [f 11 (by omega) (by unfold kTok; omega) (by omega)]; exact u11 6 (by omega) (by omega)
    · rw [f 11 (by omega) (by unfold kTok; omega) (by omega)]; exact u11 7 (by omega) (by omega)
    · rw [f 11 (by omega) (by unfold kTok; omega) (by omega)]; exact u11 8 (by omega) (by omega)
    · rw [f 11 (by omega) (by unfold kTok; omega) (by omega)]; exact u11 5 (by omega) (by omega)
    · rw [f 11 (by omega) (by unfold kTok; omega) (by omega)]; exact u11 9 (by omega) (by omega)
    · rw [f 17 (by omega) (by unfold kTok; omega) (by omega)]; rw [clrS_at, if_pos (by omega)]; rfl
    · rw [f 18 (by omega) (by unfold kTok; omega) (by omega)]; rw [clrS_at, if_pos (by omega)]; rfl
    · rw [f 16 (by omega) (by unfold kTok; omega) (by omega)]; rw [clrS_at, if_neg (by omega), clrL_at, if_pos (by omega)]; rfl
    · rw [f 15 (by omega) (by unfold kTok; omega) (by omega)]; rw [clrS_at, if_neg (by omega), clrL_at, if_pos (by omega)]; rfl
/-- what land leaves in the class: nothing but the tape's length and the fault where it is refused -/
def kRd2 (c : Nat) : Prop := c = 0 ∨ (2 ≤ c ∧ c ≤ 18)
def LandX (G : GT) (μ : SL) (σ : ST) (X : TX) (T : Nat) : Option Value → HT → Prop := fun r h' => ∃ (s : ST) (M : Nat), isM X M ∧ h' = sh G s μ ∧ s 0 11 = nI 0 ∧ s 2 4 = nI (xRes X M).1.2.1 ∧ s 2 5 = (if (xRes X M).1.2.1 = 0 then -1 else nI (xRes X M).1.2.2.1) ∧ (xRes X M).1.2.1 < 10 ∧
  ((xRes X M).1.2.1 ≠ 0 → r = some (.int (-30 - nI (xRes X M).1.2.1)) ∧ ∀ c, ¬ kRd2 c → s c = σ c) ∧
  ((xRes X M).1.2.1 = 0 → r = some (.int (nI (xRes X M).2.2.1)) ∧ (∀ c, ¬ kRd2 c → ¬ (20 ≤ c ∧ c ≤ 27) → c ≠ 32 → s c = σ c) ∧ (∀ q, 5 ≤ q → q ≤ 9 → s 20 q = s 11 q) ∧ RLd s (xRes X M).2 ∧ (∀ f, f < (xRes X M).2.1.F → s 14 f = xHold (xRes X M) f) ∧ (∀ j, j < 48 → s 21 j = s 12 j) ∧ (∀ j, j < 16 → s 22 j = s 13 j) ∧ (∀ j, j < 8 → s 23 j = s 14 j) ∧ (∀ j, j < 8 → s 24 j = s 15 j) ∧ (∀ j, j < 6 → s 25 j = s 16 j) ∧ (∀ j, j < 6 → s 27 j = s 18 j) ∧ s 26 2 = s 17 2 ∧ s 32 1 = nI 0)
theorem c_X_land_no {G : GT} {d : Nat} {σ : ST} {μ : SL} {T : Nat} {x : Int32} (hTp : σ 0 11 = nI T) (hT9 : T ≤ 900) (hx : inR x (T + 1) = false) : Fn G d mX11_land [.ref (G.b0 + 0), .int x] (sh G σ μ) (Ret (some (.int (-3))) (sh G σ μ)) := by
  refine fn_of (ls := [some (.ref (G.b0 + 0)), some (.int x)]) (by decide +kernel) (Nat.le_of_ble_eq_true rfl) 0 rfl ?_
  refine b_iload_n dX11_land_0 rfl ?_
  refine b_if_lt 12 dX11_land_1 (by decide) (fun c1 => ?_) (fun c1 => ?_)
  · skip
    refine b_bipush (v := -3) dX11_land_12 (by decide) ?_
    exact b_iret dX11_land_14 ⟨rfl, rfl⟩
  · skip
    refine b_iload_n dX11_land_4 rfl ?_
    refine b_aload_n dX11_land_5 rfl ?_
    refine g_geti (x := nI T) dX11_land_6 fX11_79 a0 rfl hTp ?_
    refine b_icmp_le 15 dX11_land_9 (by decide) (fun c2 => ?_) (fun c2 => ?_)
    · skip
      obtain ⟨j, hj, rfl, h3⟩ := inR_up (by omega) c1 c2
      rw [h3] at hx
      exact absurd hx (by simp)
    · skip
      refine b_bipush (v := -3) dX11_land_12 (by decide) ?_
      exact b_iret dX11_land_14 ⟨rfl, rfl⟩
set_option maxHeartbeats 4000000 in
theorem c_X_land {G : GT} {d : Nat} {σ : ST} {μ : SL} {X : TX} {T n : Nat} (hTp : σ 0 11 = nI T) (hT9 : T ≤ 900) (hn : n ≤ T) (hT : TxA σ X) (hX : n = X.2) : Fn G (d + 30) mX11_land [.ref (G.b0 + 0), .int (nI n)] (sh G σ μ) (LandX G μ σ X T) := by
  refine fn_of (ls := [some (.ref (G.b0 + 0)), some (.int (nI n))]) (by decide +kernel) (Nat.le_of_ble_eq_true rfl) 0 rfl ?_
  refine b_iload_n dX11_land_0 rfl ?_
  refine b_if_lt_f 12 dX11_land_1 (by decide) (nI_pos (by omega)) ?_
  refine b_iload_n dX11_land_4 rfl ?_
  refine b_aload_n dX11_land_5 rfl ?_
  refine g_geti (x := nI T) dX11_land_6 fX11_79 a0 rfl hTp ?_
  refine b_icmp_le_t 15 dX11_land_9 (by decide) (nI_le (by omega) (by omega)) ?_
  refine b_aload_n dX11_land_15 rfl ?_
  refine b_iconst (v := nI 0) dX11_land_16 (by decide) ?_
  refine g_put dX11_land_17 wX11_79 a0 tfX11_11 (Nat.le_of_ble_eq_true rfl) rfl ?_
  refine b_aload_n dX11_land_20 rfl ?_
  refine g_get dX11_land_21 fX11_16 a0 rfl ?_
  refine b_aload_n dX11_land_24 rfl ?_
  refine g_get dX11_land_25 fX11_9 a0 rfl ?_
  refine b_iload_n dX11_land_28 rfl ?_
  refine g_callVp [.ref (G.b0 + 1), .int (nI n)] dX11_land_29 kX5_read lX11_87 a2 rfl rfl (c_read (d := d) (σ := pt σ 0 11 (nI 0)) ⟨hT.1, fun k hk => by rw [pt_a (by omega)]; exact hT.2 k hk⟩ hX) rfl rfl (Nat.le_of_ble_eq_true rfl) ?_
  rintro r h9 ⟨s, M, hM, h10, rfl, rfl, hk, hf1, hf2, hok⟩
  have h00 : s 0 11 = nI 0 := by rw [hk 0 (by unfold kRd; omega), pt_s]
  refine b_if_eq 46 dX11_land_32 (by decide) (fun c1 => ?_) (fun c1 => ?_)
  · skip
    have c2 : (xRes X M).1.2.1 = 0 := by rw [← nI_0, nI_eq (by omega) (by omega)] at c1; exact c1
    obtain ⟨l, lh⟩ := hok c2
    refine b_aload_n dX11_land_46 rfl ?_
    refine g_get dX11_land_47 fX11_23 a0 rfl ?_
    refine b_aload_n dX11_land_50 rfl ?_
    refine g_get dX11_land_51 fX11_16 a0 rfl ?_
    refine g_get dX11_land_54 fX11_94 a2 rfl ?_
    refine g_callV [.ref (G.b0 + 11)] dX11_land_57 kX2_become lX11_95 a20 rfl rfl (c_Lbecome ln20 ln11 (by omega)) rfl rfl (Nat.le_of_ble_eq_true rfl) ?_
    refine b_aload_n dX11_land_60 rfl ?_
    refine g_get dX11_land_61 fX11_30 a0 rfl ?_
    refine b_aload_n dX11_land_64 rfl ?_
    refine g_get dX11_land_65 fX11_16 a0 rfl ?_
    refine g_get dX11_land_68 fX11_99 a2 rfl ?_
    refine g_callV [.ref (G.b0 + 17)] dX11_land_71 kX8_become lX11_100 a26 rfl rfl (c_Sbecome sa26 sa17 (by omega)) rfl rfl (Nat.le_of_ble_eq_true rfl) ?_
    refine b_aload_n dX11_land_74 rfl ?_
    refine g_get dX11_land_75 fX11_40 a0 rfl ?_
    refine g_callV [] dX11_land_78 kX4_forget lX11_103 a32 rfl rfl c_forget rfl rfl (Nat.le_of_ble_eq_true rfl) ?_
    refine b_aload_n dX11_land_81 rfl ?_
    refine g_get dX11_land_82 fX11_23 a0 rfl ?_
    refine g_get dX11_land_85 fX11_106 a20 rfl ?_
    have fr : ∀ c, ¬ (20 ≤ c ∧ c ≤ 27) → c ≠ 32 → pt (bcmS (bcmL s 11 20) 17 26) 32 1 (nI 0) c = s c := fun c h1 h2 => by
      rw [pt_r h2]
      funext q
      rw [bcmS_no (by omega), bcmL_no (by omega)]
    have L20 : ∀ c q, c < 26 → pt (bcmS (bcmL s 11 20) 17 26) 32 1 (nI 0) c q = bcmL s 11 20 c q := fun c q h => by rw [pt_a (by omega), bcmS_no (by omega)]
    refine b_iret dX11_land_88 ⟨_, M, hM, rfl, ?_, ?_, ?_, h10, fun z => absurd c2 z, fun _ => ⟨?_, fun c h1 h2 h3 => ?_, fun q h1 h2 => ?_, ?_, fun f hf => ?_, fun j hj => ?_, fun j hj => ?_, fun j hj => ?_, fun j hj => ?_, fun j hj => ?_, fun j hj => ?_, ?_, pt_s _ _ _ _⟩⟩
    · rw [fr 0 (by omega) (by omega)]; exact h00
    · rw [fr 2 (by omega) (by omega)]; exact hf1
    · rw [fr 2 (by omega) (by omega)]; exact hf2
    · rw [show (0 : Nat) + 20 = 20 from rfl, L20 20 9 (by omega), bcmL_0 (by omega) (by omega), l.2.2.1]
    · rw [fr c h2 h3, hk c (by unfold kRd2 at h1; unfold kRd; omega), pt_r (by unfold kRd2 at h1; omega)]
    · rw [L20 20 q (by omega), bcmL_0 h1 h2, fr 11 (by omega) (by omega)]
    · exact RLd_of l (fun c hc => fr c (by omega) (by omega))
    · rw [fr 14 (by omega) (by omega)]; exact lh f hf
    · rw [L20 21 j (by omega), fr 12 (by omega) (by omega)]; exact bcmL_1 hj
    · rw [L20 22 j (by omega), fr 13 (by omega) (by omega)]; exact bcmL_2 hj
    · rw [L20 23 j (by omega), fr 14 (by omega) (by omega)]; exact bcmL_3 hj
    · rw [L20 24 j (by omega), fr 15 (by omega) (by omega)]; exact bcmL_4 hj
    · rw [L20 25 j (by omega), fr 16 (by omega) (by omega)]; exact bcmL_5 hj
    · rw [pt_a (by omega), fr 18 (by omega) (by omega), show (27 : Nat) = 26 + 1 from rfl, bcmS_1 hj, bcmL_no (by omega)]
    · rw [pt_a (by omega), bcmS_0, bcmL_no (by omega), fr 17 (by omega) (by omega)]
  · skip
    have c2 : ¬ (xRes X M).1.2.1 = 0 := fun z => c1 (by rw [z]; rfl)
    refine b_bipush (v := -30) dX11_land_35 (by decide) ?_
    refine b_aload_n dX11_land_37 rfl ?_
    refine g_get dX11_land_38 fX11_16 a0 rfl ?_
    refine g_geti (x := nI ((xRes X M).1.2.1)) dX11_land_41 fX11_91 a2 rfl hf1 ?_
    refine b_isub dX11_land_44 ?_
    exact b_iret dX11_land_45 ⟨s, M, hM, rfl, h00, hf1, hf2, h10, fun _ => ⟨rfl, fun c hc => by rw [hk c (by unfold kRd2 at hc; unfold kRd; omega), pt_r (by unfold kRd2 at hc; omega)]⟩, fun z => absurd z c2⟩

