/-! ===== the reference: everyone, depth, common, reach ===== -/
/-- a land whose facts hold in its own worlds -/
def LBh (L : LD) : Prop := LBk L ∧ ∀ f, f < L.F → lo L.W (L.hold f)
theorem LBk.tW {L : LD} (h : LBk L) (h0 : ¬ L.W = 0) : L.t < L.W := h.1 (by omega)
theorem m_knowsNow {G : GT} {d : Nat} {σ : ST} {μ : SL} {L : LD} {p f : Nat} (hM : MV σ L) (hp : p < L.P) (hf : f < L.F) : Fn G (d + 3) mX12_knowsNow [.ref (G.b0 + 77), .int (nI p), .int (nI f)] (sh G σ μ) (Ret (some (.int (bI (mKn (L.hold f) (poss L p L.t))))) (sh G σ μ)) := by
  have hb := hM.b
  refine fn_of (ls := [some (.ref (G.b0 + 77)), some (.int (nI p)), some (.int (nI f))]) (by decide +kernel) (Nat.le_of_ble_eq_true rfl) 0 rfl ?_
  refine b_aload_n dX12_knowsNow_0 rfl ?_
  refine b_iload_n dX12_knowsNow_1 rfl ?_
  refine g_callV [.int (nI p)] dX12_knowsNow_2 kX12_cellNow lX12_248 a77 rfl rfl (m_cellNow hM hp) rfl rfl (Nat.le_of_ble_eq_true rfl) ?_
  refine b_aload_n dX12_knowsNow_5 rfl ?_
  refine g_get dX12_knowsNow_6 fX12_13 a77 rfl ?_
  refine b_bipush (v := nI 105) dX12_knowsNow_9 (by decide) ?_
  refine b_iload_n dX12_knowsNow_11 rfl ?_
  refine b_iaddN dX12_knowsNow_12 ?_
  refine g_iald dX12_knowsNow_13 a78 rfl (by omega) ?_
  refine b_top (hM.hold (by omega)) ?_
  refine b_callSr [.int (poss L p L.t), .int (L.hold f)] dX12_knowsNow_14 kX12_isPlain lX12_229 m_isPlain rfl rfl (Nat.le_of_ble_eq_true rfl) ?_
  exact b_zret dX12_knowsNow_17 (bI_n _) ⟨rfl, rfl⟩
theorem every_eq {L : LD} {f : Nat} (hW : L.W ≤ 16) (ht : L.t < L.W) : mKn (L.hold f) (mRch L 1 (atT L)) = true ↔ ∀ p, p < L.P → mKn (L.hold f) (poss L p L.t) = true := by
  rw [mRch_eq, kn_S (by omega) (stp_t (by omega) 1)]
  have self : ∀ p, bt (poss L p L.t) L.t = true := fun p => bt_self ht (by omega) L.F
  constructor
  · intro h p hp
    rw [kn_S (by omega) (self p)]
    exact fun i hi hb => h i hi (step_bt.mpr (Or.inr ⟨p, hp, L.t, ht, (bit_bt (by omega) (by omega)).mpr rfl, hb⟩))
  · intro h i hi hb
    rcases step_bt.mp hb with q | ⟨p, hp, w, hw, h1, h2⟩
    · exact inS_0 (by omega) i hi q
    · rw [atT_bit, bit_bt (by omega) (by omega)] at h1
      subst h1
      exact (kn_S (by omega) (self p)).mp (h p hp) i hi h2
theorem m_X_everyone {G : GT} {d : Nat} {σ : ST} {μ : SL} {L : LD} {x : Int32} (hM : MV σ L) (hK : LBk L) : Fn G (d + 4) mX12_everyone [.ref (G.b0 + 77), .int x] (sh G σ μ) (Ret (some (.int (oEvery L x))) (sh G σ μ)) := by
  have hb := hM.b
  refine fn_of (ls := [some (.ref (G.b0 + 77)), some (.int x), none]) (by decide +kernel) (Nat.le_of_ble_eq_true rfl) 1 rfl ?_
  refine b_aload_n dX12_everyone_0 rfl ?_
  refine b_iconst (v := nI 0) dX12_everyone_1 (by decide) ?_
  refine g_put dX12_everyone_2 wX12_1 a77 tfX12_0 (Nat.le_of_ble_eq_true rfl) rfl ?_
  refine b_sig hM.t0 ?_
  refine b_aload_n dX12_everyone_5 rfl ?_
  refine b_iload_n dX12_everyone_6 rfl ?_
  refine b_i2l dX12_everyone_7 ?_
  refine g_callV [.long x.toInt64] dX12_everyone_8 kX12_isFact lX12_241 a77 rfl rfl (m_isFactI hM) rfl rfl (Nat.le_of_ble_eq_true rfl) ?_
  refine b_if_ne 17 dX12_everyone_11 (by decide) (fun c1 => ?_) (fun c1 => ?_)
  · skip
    have c2 := (bI_1 _).mp c1
    obtain ⟨j, hj, rfl⟩ := inR_of (by omega) c2
    have hjx := ix_nI (show j < 2 ^ 31 by omega)
    refine b_aload_n dX12_everyone_17 rfl ?_
    refine g_get dX12_everyone_18 fX12_13 a77 rfl ?_
    refine b_iconst (v := nI 1) dX12_everyone_21 (by decide) ?_
    refine g_iald dX12_everyone_22 a78 rfl (by omega) ?_
    refine b_top hM.cW ?_
    refine b_if_ne 29 dX12_everyone_23 (by decide) (fun c5 => ?_) (fun c5 => ?_)
    · skip
      have h0 : ¬ L.W = 0 := fun z => c5 (by rw [z]; rfl)
      have hev := every_eq (f := j) hb.1 (hK.tW h0)
      refine b_iconst (v := nI 0) dX12_everyone_29 (by decide) ?_
      refine b_istore_n dX12_everyone_30 (by decide) rfl ?_
      have lp : ∀ (n i : Nat), i + n = L.P → (∀ p, p < i → mKn (L.hold j) (poss L p L.t) = true) → BB G RX12 cX12_everyone 3 (some .int) (d + 4) (QM G (Ret (some (.int (oEvery L (nI j)))) (sh G σ μ))) 31 [some (.ref (G.b0 + 77)), some (.int (nI j)), some (.int (nI i))] [] (sh G σ μ) := by
        intro n
        induction n with
        | zero =>
          intro i hi ha
          refine b_iload_n dX12_everyone_31 rfl ?_
          refine b_aload_n dX12_everyone_32 rfl ?_
          refine g_get dX12_everyone_33 fX12_13 a77 rfl ?_
          refine b_iconst (v := nI 3) dX12_everyone_36 (by decide) ?_
          refine g_iald dX12_everyone_37 a78 rfl (by omega) ?_
          refine b_top hM.cP ?_
          refine b_icmp_ge_t 58 dX12_everyone_38 (by decide) (nI_le (by omega) (by omega)) ?_
          refine b_iconst (v := nI 1) dX12_everyone_58 (by decide) ?_
          have e := hev.mpr (fun p hp => ha p (by omega))
          exact b_iret dX12_everyone_59 ⟨by simp [oEvery, c2, hjx, h0, e, bI], rfl⟩
        | succ n ih =>
          intro i hi ha
          refine b_iload_n dX12_everyone_31 rfl ?_
          refine b_aload_n dX12_everyone_32 rfl ?_
          refine g_get dX12_everyone_33 fX12_13 a77 rfl ?_
          refine b_iconst (v := nI 3) dX12_everyone_36 (by decide) ?_
          refine g_iald dX12_everyone_37 a78 rfl (by omega) ?_
          refine b_top hM.cP ?_
          refine b_icmp_ge_f 58 dX12_everyone_38 (by decide) (nI_ge (by omega) (by omega)) ?_
          refine b_aload_n dX12_everyone_41 rfl ?_
          refine b_iload_n dX12_everyone_42 rfl ?_
          refine b_iload_n dX12_everyone_43 rfl ?_
          refine g_callV [.int (nI i), .int (nI j)] dX12_everyone_44 kX12_knowsNow lX12_257 a77 rfl rfl (m_knowsNow hM (by omega) hj) rfl rfl (Nat.le_of_ble_eq_true rfl) ?_
          refine b_if_ne 52 dX12_everyone_47 (by decide) (fun c6 => ?_) (fun c6 => ?_)
          · skip
            have c7 := (bI_1 _).mp c6
            refine b_iinc dX12_everyone_52 rfl (nI_1 _) (by decide) rfl ?_
            refine b_goto 31 dX12_everyone_55 (by decide) ?_
            refine ih (i + 1) (by omega) (fun p hp => ?_)
            by_cases e : p = i
            · rw [e]; exact c7
            · exact ha p (by omega)
          · skip
            have c7 : mKn (L.hold j) (poss L i L.t) = false := (bI_0 _).mp (by simpa using c6)
            refine b_iconst (v := nI 0) dX12_everyone_50 (by decide) ?_
            have e : mKn (L.hold j) (mRch L 1 (atT L)) = false := by
              cases h : mKn (L.hold j) (mRch L 1 (atT L))
              · rfl
              · have := hev.mp h i (by omega); rw [c7] at this; exact absurd this (by simp)
            exact b_iret dX12_everyone_51 ⟨by simp [oEvery, c2, hjx, h0, e, bI], rfl⟩
      exact lp L.P 0 (by omega) (fun p hp => absurd hp (by omega))
    · skip
      have h0 : L.W = 0 := by
        have c6 : nI L.W = 0 := by simpa using c5
        rw [← nI_0, nI_eq (by omega) (by omega)] at c6; exact c6
      refine b_bipush (v := -5) dX12_everyone_26 (by decide) ?_
      exact b_iret dX12_everyone_28 ⟨by simp [oEvery, c2, hjx, h0], rfl⟩
  · skip
    refine b_bipush (v := -2) dX12_everyone_14 (by decide) ?_
    exact b_iret dX12_everyone_16 ⟨by simp [oEvery, (bI_0 _).mp (by simpa using c1)], rfl⟩
theorem m_knownBy {G : GT} {d : Nat} {σ : ST} {μ : SL} {L : LD} {s : Int32} (hM : MV σ L) : Fn G (d + 2) mX12_knownBy [.ref (G.b0 + 77), .int s] (sh G σ μ) (Ret (some (.int (mE L s L.W))) (sh G σ μ)) := by
  have hb := hM.b
  refine fn_of (ls := [some (.ref (G.b0 + 77)), some (.int s), none, none, none, none]) (by decide +kernel) (Nat.le_of_ble_eq_true rfl) 4 rfl ?_
  refine b_iconst (v := nI 0) dX12_knownBy_0 (by decide) ?_
  refine b_istore_n dX12_knownBy_1 (by decide) rfl ?_
  refine b_iconst (v := nI 0) dX12_knownBy_2 (by decide) ?_
  refine b_istore_n dX12_knownBy_3 (by decide) rfl ?_
  have lp : ∀ (n i : Nat) (z4 z5 : Option Value), i + n = L.W → BB G RX12 cX12_knownBy 6 (some .int) (d + 2) (QM G (Ret (some (.int (mE L s L.W))) (sh G σ μ))) 4 [some (.ref (G.b0 + 77)), some (.int s), some (.int (mE L s i)), some (.int (nI i)), z4, z5] [] (sh G σ μ) := by
    intro n
    induction n with
    | zero =>
      intro i z4 z5 hi
      refine b_iload_n dX12_knownBy_4 rfl ?_
      refine b_aload_n dX12_knownBy_5 rfl ?_
      refine g_get dX12_knownBy_6 fX12_13 a77 rfl ?_
      refine b_iconst (v := nI 1) dX12_knownBy_9 (by decide) ?_
      refine g_iald dX12_knownBy_10 a78 rfl (by omega) ?_
      refine b_top hM.cW ?_
      refine b_icmp_ge_t 96 dX12_knownBy_11 (by decide) (nI_le (by omega) (by omega)) ?_
      refine b_iload_n dX12_knownBy_96 rfl ?_
      exact b_iret dX12_knownBy_97 ⟨by rw [show i = L.W by omega], rfl⟩
    | succ n ih =>
      intro i z4 z5 hi
      refine b_iload_n dX12_knownBy_4 rfl ?_
      refine b_aload_n dX12_knownBy_5 rfl ?_
      refine g_get dX12_knownBy_6 fX12_13 a77 rfl ?_
      refine b_iconst (v := nI 1) dX12_knownBy_9 (by decide) ?_
      refine g_iald dX12_knownBy_10 a78 rfl (by omega) ?_
      refine b_top hM.cW ?_
      refine b_icmp_ge_f 96 dX12_knownBy_11 (by decide) (nI_ge (by omega) (by omega)) ?_
      refine b_iload_n dX12_knownBy_14 rfl ?_
      refine b_i2l dX12_knownBy_15 ?_
      refine b_iload_n dX12_knownBy_16 rfl ?_
      refine b_callSr [.long s.toInt64, .int (nI i)] dX12_knownBy_17 kX12_isIn lX12_222 (c_isIn (by omega)) rfl rfl (Nat.le_of_ble_eq_true rfl) ?_
      refine b_istore dX12_knownBy_20 (by decide) rfl ?_
      refine b_iconst (v := nI 0) dX12_knownBy_22 (by decide) ?_
      refine b_istore dX12_knownBy_23 (by decide) rfl ?_
      have fin : ∀ z5 : Option Value, BB G RX12 cX12_knownBy 6 (some .int) (d + 2) (QM G (Ret (some (.int (mE L s L.W))) (sh G σ μ))) 75 [some (.ref (G.b0 + 77)), some (.int s), some (.int (mE L s i)), some (.int (nI i)), some (.int (bI (mE1 L s i L.P))), z5] [] (sh G σ μ) := by
        intro z5
        refine b_iload_n dX12_knownBy_75 rfl ?_
        refine b_iload dX12_knownBy_76 rfl ?_
        refine b_if_eq 87 dX12_knownBy_78 (by decide) (fun c6 => ?_) (fun c6 => ?_)
        · skip
          refine b_iconst (v := nI 0) dX12_knownBy_87 (by decide) ?_
          refine b_ior dX12_knownBy_88 ?_
          refine b_istore_n dX12_knownBy_89 (by decide) rfl ?_
          refine b_iinc dX12_knownBy_90 rfl (nI_1 _) (by decide) rfl ?_
          refine b_goto 4 dX12_knownBy_93 (by decide) ?_
          refine b_locs ?_ (ih (i + 1) (some (.int (bI (mE1 L s i L.P)))) z5 (by omega))
          have e1 : mE L s (i + 1) = mE L s i ||| nI 0 := by rw [mE, (bI_0 _).mp c6]; rfl
          rw [e1]; rfl
        · skip
          refine b_iconst (v := nI 1) dX12_knownBy_81 (by decide) ?_
          refine b_iload_n dX12_knownBy_82 rfl ?_
          refine b_ishl dX12_knownBy_83 ?_
          refine b_goto 88 dX12_knownBy_84 (by decide) ?_
          refine b_ior dX12_knownBy_88 ?_
          refine b_istore_n dX12_knownBy_89 (by decide) rfl ?_
          refine b_iinc dX12_knownBy_90 rfl (nI_1 _) (by decide) rfl ?_
          refine b_goto 4 dX12_knownBy_93 (by decide) ?_
          refine b_locs ?_ (ih (i + 1) (some (.int (bI (mE1 L s i L.P)))) z5 (by omega))
          have e1 : mE L s (i + 1) = mE L s i ||| bit i := by rw [mE, (bI_1 _).mp c6]; rfl
          rw [e1]; rfl
      have lp2 : ∀ (m p : Nat), p + m = L.P → BB G RX12 cX12_knownBy 6 (some .int) (d + 2) (QM G (Ret (some (.int (mE L s L.W))) (sh G σ μ))) 25 [some (.ref (G.b0 + 77)), some (.int s), some (.int (mE L s i)), some (.int (nI i)), some (.int (bI (mE1 L s i p))), some (.int (nI p))] [] (sh G σ μ) := by
        intro m
        induction m with
        | zero =>
          intro p hp
          refine b_iload dX12_knownBy_25 rfl ?_
          refine b_aload_n dX12_knownBy_27 rfl ?_
          refine g_get dX12_knownBy_28 fX12_13 a77 rfl ?_
          refine b_iconst (v := nI 3) dX12_knownBy_31 (by decide) ?_
          refine g_iald dX12_knownBy_32 a78 rfl (by omega) ?_
          refine b_top hM.cP ?_
          refine b_icmp_ge_t 75 dX12_knownBy_33 (by decide) (nI_le (by omega) (by omega)) ?_
          have e : p = L.P := by omega
          subst e
          exact fin _
        | succ m ihm =>
          intro p hp
          refine b_iload dX12_knownBy_25 rfl ?_
          refine b_aload_n dX12_knownBy_27 rfl ?_
          refine g_get dX12_knownBy_28 fX12_13 a77 rfl ?_
          refine b_iconst (v := nI 3) dX12_knownBy_31 (by decide) ?_
          refine g_iald dX12_knownBy_32 a78 rfl (by omega) ?_
          refine b_top hM.cP ?_
          refine b_icmp_ge_f 75 dX12_knownBy_33 (by decide) (nI_ge (by omega) (by omega)) ?_
          refine b_iload dX12_knownBy_36 rfl ?_
          refine b_if_eq 75 dX12_knownBy_38 (by decide) (fun c6 => ?_) (fun c6 => ?_)
          · skip
            have c7 := (bI_0 _).mp c6
            have e : mE1 L s i L.P = false := by
              cases h : mE1 L s i L.P
              · rfl
              · have q := (mE1_t L.P).mp h
                have := (mE1_t (L := L) (S := s) (w := i) p).mpr ⟨q.1, fun p' hp' => q.2 p' (by omega)⟩
                rw [c7] at this; exact absurd this (by simp)
            have := fin (some (.int (nI p)))
            rw [e] at this
            rw [c7]
            exact this
          · skip
            have c7 := (bI_1 _).mp c6
            refine b_aload_n dX12_knownBy_41 rfl ?_
            refine b_aload_n dX12_knownBy_42 rfl ?_
            refine g_get dX12_knownBy_43 fX12_13 a77 rfl ?_
            refine b_iconst (v := nI 5) dX12_knownBy_46 (by decide) ?_
            refine b_iload dX12_knownBy_47 rfl ?_
            refine b_iaddN dX12_knownBy_49 ?_
            refine g_iald dX12_knownBy_50 a78 rfl (by omega) ?_
            refine b_top (hM.told (by omega)) ?_
            refine b_iload_n dX12_knownBy_51 rfl ?_
            refine g_callV [.int (L.told p), .int (nI i)] dX12_knownBy_52 kX12_cellOf lX12_232 a77 rfl rfl (m_cellOf hM (by omega)) rfl rfl (Nat.le_of_ble_eq_true rfl) ?_
            refine b_iload_n dX12_knownBy_55 rfl ?_
            refine b_iconst (v := -1) dX12_knownBy_56 (by decide) ?_
            refine b_ixor dX12_knownBy_57 ?_
            refine b_iand dX12_knownBy_58 ?_
            refine b_if_ne 66 dX12_knownBy_59 (by decide) (fun c8 => ?_) (fun c8 => ?_)
            · skip
              refine b_iconst (v := nI 0) dX12_knownBy_66 (by decide) ?_
              refine b_istore dX12_knownBy_67 (by decide) rfl ?_
              refine b_iinc dX12_knownBy_69 rfl (nI_1 _) (by decide) rfl ?_
              refine b_goto 25 dX12_knownBy_72 (by decide) ?_
              refine b_locs ?_ (ihm (p + 1) (by omega))
              have e1 : mE1 L s i (p + 1) = false := by rw [mE1, decide_eq_false (show ¬ poss L p i &&& (s ^^^ (-1)) = 0 from c8), Bool.and_false]
              rw [e1]; rfl
            · skip
              have c9 : poss L p i &&& (s ^^^ (-1)) = 0 := c8
              refine b_iconst (v := nI 1) dX12_knownBy_62 (by decide) ?_
              refine b_goto 67 dX12_knownBy_63 (by decide) ?_
              refine b_istore dX12_knownBy_67 (by decide) rfl ?_
              refine b_iinc dX12_knownBy_69 rfl (nI_1 _) (by decide) rfl ?_
              refine b_goto 25 dX12_knownBy_72 (by decide) ?_
              refine b_locs ?_ (ihm (p + 1) (by omega))
              have e1 : mE1 L s i (p + 1) = true := by rw [mE1, c7, decide_eq_true c9]; rfl
              rw [e1]; rfl
      exact lp2 L.P 0 (by omega)
  exact lp L.W 0 none none (by omega)
def sd0 (L : LD) (f : Nat) : Int32 := if bt (L.hold f) L.t then L.hold f else mAll L.W &&& (L.hold f ^^^ (-1))
theorem sd0_bt {L : LD} {f i : Nat} (hW : L.W ≤ 16) (hi : i < L.W) : bt (sd0 L f) i = true ↔ sd L f i := by
  unfold sd0 sd
  split
  · rename_i h; rw [h]
  · rename_i h
    rw [b_and, bt_all (by omega) (by omega), not_bt (by omega), decide_eq_true hi]
    have h' : bt (L.hold f) L.t = false := by simpa using h
    rw [h']; simp
theorem lo_sd0 {L : LD} {f : Nat} (hW : L.W ≤ 16) (hh : lo L.W (L.hold f)) : lo L.W (sd0 L f) := by
  unfold sd0
  split
  · exact hh
  · exact lo_and (lo_all (by omega))
theorem enS_bad {L : LD} {f n : Nat} (hW : L.W ≤ 16) (ht : L.t < L.W) : bt (enS L (sd0 L f) n) L.t = true ↔ inS L f (stp L n (atT L)) := by
  rw [enS_t hW n _ ht, ← atT_bit]
  have hlo := lo_stp hW n _ (lo_at ht hW)
  constructor
  · intro h i hi hb
    have hiW : i < L.W := by
      rcases Nat.lt_or_ge i L.W with q | q
      · exact q
      · rw [hlo i q hi] at hb; exact absurd hb (by simp)
    exact (sd0_bt hW hiW).mp (h i hi hb)
  · intro h i hi hb
    have hiW : i < L.W := by
      rcases Nat.lt_or_ge i L.W with q | q
      · exact q
      · rw [hlo i q hi] at hb; exact absurd hb (by simp)
    exact (sd0_bt hW hiW).mpr (h i hi hb)
theorem mE_dn {L : LD} {S : Int32} (hW : L.W ≤ 16) : sbs (mE L S L.W) S := fun i hi hb => by
  have := (mE_t hi _ (by omega)).mp hb
  exact ((mE1_t L.P).mp this.2).1
theorem enS_fx {L : LD} {S : Int32} {n : Nat} (h : mE L (enS L S n) L.W = enS L S n) : ∀ k, enS L S (n + k) = enS L S n
  | 0 => rfl
  | k + 1 => by rw [← Nat.add_assoc, enS, enS_fx h k, h]
theorem m_depthOf {G : GT} {d : Nat} {σ : ST} {μ : SL} {L : LD} {f : Nat} (hM : MV σ L) (hK : LBh L) (hf : f < L.F) (h0 : ¬ L.W = 0) : Fn G (d + 3) mX12_depthOf [.ref (G.b0 + 77), .int (nI f)] (sh G σ μ) (Ret (some (.int (mDep L f 16 0 (atT L)))) (sh G σ μ)) := by
  have hb := hM.b
  have ht := hK.1.tW h0
  have hv := dep_v (f := f) hb.1 ht
  have hw0 := lo_sd0 (f := f) hb.1 (hK.2 f hf)
  refine fn_of (ls := [some (.ref (G.b0 + 77)), some (.int (nI f)), none, none, none]) (by decide +kernel) (Nat.le_of_ble_eq_true rfl) 3 rfl ?_
  refine b_aload_n dX12_depthOf_0 rfl ?_
  refine g_get dX12_depthOf_1 fX12_13 a77 rfl ?_
  refine b_bipush (v := nI 105) dX12_depthOf_4 (by decide) ?_
  refine b_iload_n dX12_depthOf_6 rfl ?_
  refine b_iaddN dX12_depthOf_7 ?_
  refine g_iald dX12_depthOf_8 a78 rfl (by omega) ?_
  refine b_top (hM.hold (by omega)) ?_
  refine b_i2l dX12_depthOf_9 ?_
  refine b_aload_n dX12_depthOf_10 rfl ?_
  refine g_get dX12_depthOf_11 fX12_13 a77 rfl ?_
  refine b_iconst (v := nI 4) dX12_depthOf_14 (by decide) ?_
  refine g_iald dX12_depthOf_15 a78 rfl (by omega) ?_
  refine b_top hM.ct ?_
  refine b_callSr [.long ((L.hold f).toInt64), .int (nI L.t)] dX12_depthOf_16 kX12_isIn lX12_222 (c_isIn (by omega)) rfl rfl (Nat.le_of_ble_eq_true rfl) ?_
  have lp : ∀ (k n : Nat) (z4 : Option Value), cnt (enS L (sd0 L f) n) 16 ≤ k → n + cnt (enS L (sd0 L f) n) 16 ≤ 16 → (∀ m, m < n → ¬ badN L f m) → BB G RX12 cX12_depthOf 5 (some .int) (d + 3) (QM G (Ret (some (.int (mDep L f 16 0 (atT L)))) (sh G σ μ))) 53 [some (.ref (G.b0 + 77)), some (.int (nI f)), some (.int (enS L (sd0 L f) n)), some (.int (nI n)), z4] [] (sh G σ μ) := by
    intro k
    induction k with
    | zero =>
      intro n z4 hc hcn hg
      exfalso
      have h1 : bt (enS L (sd0 L f) n) L.t = true := by
        rw [enS_bad hb.1 ht]
        cases n with
        | zero => exact inS_0 (by omega)
        | succ n' => have := hg n' (by omega); unfold badN at this; exact Classical.not_not.mp this
      have := cnt_st (a := nI 0) (b := enS L (sd0 L f) n) h1 (b_n0 _) 16 (by omega) (fun i hi h => by rw [b_n0] at h; exact absurd h (by simp))
      omega
    | succ k ih =>
      intro n z4 hc hcn hg
      refine b_aload_n dX12_depthOf_53 rfl ?_
      refine b_iload_n dX12_depthOf_54 rfl ?_
      refine g_callV [.int (enS L (sd0 L f) n)] dX12_depthOf_55 kX12_knownBy lX12_310 a77 rfl rfl (m_knownBy hM) rfl rfl (Nat.le_of_ble_eq_true rfl) ?_
      refine b_istore dX12_depthOf_58 (by decide) rfl ?_
      refine b_iload dX12_depthOf_60 rfl ?_
      refine b_i2l dX12_depthOf_62 ?_
      refine b_aload_n dX12_depthOf_63 rfl ?_
      refine g_get dX12_depthOf_64 fX12_13 a77 rfl ?_
      refine b_iconst (v := nI 4) dX12_depthOf_67 (by decide) ?_
      refine g_iald dX12_depthOf_68 a78 rfl (by omega) ?_
      refine b_top hM.ct ?_
      refine b_callSr [.long ((enS L (sd0 L f) (n + 1)).toInt64), .int (nI L.t)] dX12_depthOf_69 kX12_isIn lX12_222 (c_isIn (by omega)) rfl rfl (Nat.le_of_ble_eq_true rfl) ?_
      have hbd := enS_bad (f := f) (n := n + 1) hb.1 ht
      refine b_if_ne 77 dX12_depthOf_72 (by decide) (fun c6 => ?_) (fun c6 => ?_)
      · skip
        have c7 := (bI_1 _).mp c6
        have ng : ∀ m, m < n + 1 → ¬ badN L f m := fun m hm => by
          by_cases e : m = n
          · subst e; exact fun z => z (hbd.mp c7)
          · exact hg m (by omega)
        refine b_iload dX12_depthOf_77 rfl ?_
        refine b_iload_n dX12_depthOf_79 rfl ?_
        refine b_icmp_ne 86 dX12_depthOf_80 (by decide) (fun c8 => ?_) (fun c8 => ?_)
        · skip
          refine b_iload dX12_depthOf_86 rfl ?_
          refine b_istore_n dX12_depthOf_88 (by decide) rfl ?_
          refine b_iinc dX12_depthOf_89 rfl (nI_1 _) (by decide) rfl ?_
          refine b_goto 53 dX12_depthOf_92 (by decide) ?_
          have hsb : sbs (enS L (sd0 L f) (n + 1)) (enS L (sd0 L f) n) := mE_dn hb.1
          obtain ⟨j, hj, hj1, hj2⟩ : ∃ j, j < 32 ∧ bt (enS L (sd0 L f) n) j = true ∧ bt (enS L (sd0 L f) (n + 1)) j = false := by
            refine Classical.byContradiction (fun z => c8 (sbs_eq hsb (fun i hi hbi => ?_)))
            cases hbj : bt (enS L (sd0 L f) (n + 1)) i
            · exact absurd ⟨i, hi, hbi, hbj⟩ z
            · exact hbj
          have hlo : lo L.W (enS L (sd0 L f) n) := by
            cases n with
            | zero => exact hw0
            | succ n' => exact lo_mE hb.1
          have hj16 : j < 16 := by
            rcases Nat.lt_or_ge j L.W with q | q
            · omega
            · rw [hlo j q hj] at hj1; exact absurd hj1 (by simp)
          have hlt := cnt_st hj1 hj2 16 hj16 (fun i hi hbi => hsb i (by omega) hbi)
          exact ih (n + 1) _ (by omega) (by omega) ng
        · skip
          have c9 : enS L (sd0 L f) (n + 1) = enS L (sd0 L f) n := c8
          refine b_bipush (v := nI 100) dX12_depthOf_83 (by decide) ?_
          refine b_iret dX12_depthOf_85 ⟨?_, rfl⟩
          refine congrArg (fun z => some (Value.int z)) (DPv_u (Or.inr ⟨fun m => ?_, rfl⟩) hv)
          by_cases h2 : m < n + 1
          · exact ng m h2
          · have e2 := enS_fx c9 (m + 1 - n)
            rw [show n + (m + 1 - n) = m + 1 by omega] at e2
            have := (enS_bad (f := f) (n := m + 1) hb.1 ht).mp (by rw [e2, ← c9]; exact c7)
            exact fun z => z this
      · skip
        have c7 : bt (enS L (sd0 L f) (n + 1)) L.t = false := (bI_0 _).mp (by simpa using c6)
        refine b_iload_n dX12_depthOf_75 rfl ?_
        refine b_iret dX12_depthOf_76 ⟨?_, rfl⟩
        refine congrArg (fun z => some (Value.int z)) (DPv_u (Or.inl ⟨n, ?_, fun z => ?_, hg, rfl⟩) hv)
        · have h1 : bt (enS L (sd0 L f) n) L.t = true := by
            rw [enS_bad hb.1 ht]
            cases n with
            | zero => exact inS_0 (by omega)
            | succ n' => have := hg n' (by omega); unfold badN at this; exact Classical.not_not.mp this
          have := cnt_st (a := nI 0) (b := enS L (sd0 L f) n) h1 (b_n0 _) 16 (by omega) (fun i hi h => by rw [b_n0] at h; exact absurd h (by simp))
          omega
        · rw [hbd.mpr z] at c7; exact absurd c7 (by simp)
  have c16 := cnt_le (sd0 L f) 16
  refine b_if_eq 34 dX12_depthOf_19 (by decide) (fun c1 => ?_) (fun c1 => ?_)
  · skip
    have c2 := (bI_0 _).mp c1
    refine b_aload_n dX12_depthOf_34 rfl ?_
    refine g_callV [] dX12_depthOf_35 kX12_worlds lX12_226 a77 rfl rfl (m_worlds hM) rfl rfl (Nat.le_of_ble_eq_true rfl) ?_
    refine b_aload_n dX12_depthOf_38 rfl ?_
    refine g_get dX12_depthOf_39 fX12_13 a77 rfl ?_
    refine b_bipush (v := nI 105) dX12_depthOf_42 (by decide) ?_
    refine b_iload_n dX12_depthOf_44 rfl ?_
    refine b_iaddN dX12_depthOf_45 ?_
    refine g_iald dX12_depthOf_46 a78 rfl (by omega) ?_
    refine b_top (hM.hold (by omega)) ?_
    refine b_iconst (v := -1) dX12_depthOf_47 (by decide) ?_
    refine b_ixor dX12_depthOf_48 ?_
    refine b_iand dX12_depthOf_49 ?_
    refine b_istore_n dX12_depthOf_50 (by decide) rfl ?_
    refine b_iconst (v := nI 0) dX12_depthOf_51 (by decide) ?_
    refine b_istore_n dX12_depthOf_52 (by decide) rfl ?_
    have e : sd0 L f = mAll L.W &&& (L.hold f ^^^ (-1)) := by unfold sd0; rw [if_neg (by simp [c2])]
    refine b_locs ?_ (lp 16 0 none c16 (by rw [Nat.zero_add]; exact c16) (fun m hm => absurd hm (by omega)))
    show _ = [_, _, some (Value.int (sd0 L f)), _, _]
    rw [e]; rfl
  · skip
    have c2 := (bI_1 _).mp c1
    refine b_aload_n dX12_depthOf_22 rfl ?_
    refine g_get dX12_depthOf_23 fX12_13 a77 rfl ?_
    refine b_bipush (v := nI 105) dX12_depthOf_26 (by decide) ?_
    refine b_iload_n dX12_depthOf_28 rfl ?_
    refine b_iaddN dX12_depthOf_29 ?_
    refine g_iald dX12_depthOf_30 a78 rfl (by omega) ?_
    refine b_top (hM.hold (by omega)) ?_
    refine b_goto 50 dX12_depthOf_31 (by decide) ?_
    refine b_istore_n dX12_depthOf_50 (by decide) rfl ?_
    refine b_iconst (v := nI 0) dX12_depthOf_51 (by decide) ?_
    refine b_istore_n dX12_depthOf_52 (by decide) rfl ?_
    have e : sd0 L f = L.hold f := by unfold sd0; rw [if_pos c2]
    refine b_locs ?_ (lp 16 0 none c16 (by rw [Nat.zero_add]; exact c16) (fun m hm => absurd hm (by omega)))
    show _ = [_, _, some (Value.int (sd0 L f)), _, _]
    rw [e]; rfl

