/-! ===== the reference: years, rows of deeds ===== -/
theorem m_draw {G : GT} {d : Nat} {σ : ST} {μ : SL} {n : Nat} (h0 : 0 < n) (hn : n < 2 ^ 30) : Fn G d mX12_draw [.ref (G.b0 + 77), .int (nI n)] (sh G σ μ) (Ret (some (.int (nI (mDr (mX (σ 77 23)) n)))) (sh G (pt σ 77 23 (mX (σ 77 23))) μ)) := by
  refine fn_of (ls := [some (.ref (G.b0 + 77)), some (.int (nI n))]) (by decide +kernel) (Nat.le_of_ble_eq_true rfl) 0 rfl ?_
  refine b_aload_n dX12_draw_0 rfl ?_
  refine b_ldcw dX12_draw_1 cvX12_300 ?_
  refine b_aload_n dX12_draw_4 rfl ?_
  refine g_get dX12_draw_5 fX12_301 a77 rfl ?_
  refine b_imul dX12_draw_8 ?_
  refine b_sipush (v := nI 12345) dX12_draw_9 (by decide) ?_
  refine b_iadd dX12_draw_12 ?_
  refine g_put dX12_draw_13 wX12_301 a77 tfX12_23 (Nat.le_of_ble_eq_true rfl) rfl ?_
  refine b_aload_n dX12_draw_16 rfl ?_
  refine g_get dX12_draw_17 fX12_301 a77 rfl ?_
  refine b_bipush (v := nI 16) dX12_draw_20 (by decide) ?_
  refine b_iushr dX12_draw_22 ?_
  refine b_iload_n dX12_draw_23 rfl ?_
  refine b_irem dX12_draw_24 (nI_ne0 h0 (by omega)) ?_
  refine b_iret dX12_draw_25 ⟨?_, rfl⟩
  have e : pt σ 77 23 (mX (σ 77 23)) 77 23 = mX (σ 77 23) := pt_s _ _ _ _
  have h1 := (mX (σ 77 23)).toBitVec.isLt
  show some (Value.int ((((pt σ 77 23 (mX (σ 77 23)) 77 23).toUInt32 >>> ((nI 16).toUInt32 &&& Int32.toUInt32 31)).toInt32 - ((pt σ 77 23 (mX (σ 77 23)) 77 23).toUInt32 >>> ((nI 16).toUInt32 &&& Int32.toUInt32 31)).toInt32 / nI n * nI n))) = _
  rw [e, ush16, pk_rem (by omega) h0 (by omega)]
  rfl
/-- what all were told, what is true, what was drawn last -/
abbrev YS : Type := (Nat → Int32) × Nat × Int32
abbrev stY (L : LD) (y : YS) : LD := stT (stW L y.2.1) y.1
def yr1 (L : LD) (y : YS) : YS :=
  if mDr (mX y.2.2) 4 = 0 then (mNext L.road y.1 L.P, y.2.1, mX y.2.2)
  else if mDr (mX y.2.2) 4 = 1 then (y.1, mDr (mX (mX y.2.2)) L.W, mX (mX y.2.2))
  else if mDr (mX y.2.2) 4 = 2 then ((fun q => if q = mDr (mX (mX y.2.2)) L.P then y.1 (mDr (mX (mX y.2.2)) L.P) ||| L.hint (mDr (mX (mX (mX y.2.2))) L.F) else y.1 q), y.2.1, mX (mX (mX y.2.2)))
  else ((fun q => if q = mDr (mX (mX y.2.2)) L.P then y.1 (mDr (mX (mX y.2.2)) L.P) ||| bit (mDr (mX (mX (mX y.2.2))) L.F) else y.1 q), y.2.1, mX (mX (mX y.2.2)))
def yrN (L : LD) : Nat → YS → YS
  | 0, y => y
  | n + 1, y => yrN L n (yr1 L y)
def CF (s s' : ST) : Prop := (∀ c, c ≠ 78 → c ≠ 87 → c ≠ 77 → s' c = s c) ∧ (∀ q, q ≠ 23 → s' 77 q = s 77 q) ∧ ∀ q, q < 4 ∨ 11 ≤ q → s' 78 q = s 78 q
theorem S0_cf {σ s s' : ST} (h : S0 σ s) (hc : CF s s') : S0 σ s' := by
  obtain ⟨h1, h2, h3, h4⟩ := h
  obtain ⟨d1, d2, d3⟩ := hc
  exact ⟨fun q hq => by rw [d1 86 (by omega) (by omega) (by omega)]; exact h1 q hq, fun c a b e f => by rw [d1 c a e f]; exact h2 c a b e f, fun q a b => by rw [d2 q b]; exact h3 q a b, fun q hq => by rw [d3 q hq]; exact h4 q hq⟩
theorem CF_x (s : ST) (x : Int32) : CF s (pt s 77 23 x) := ⟨fun c _ _ h => pt_r h, fun q h => pt_j h, fun q _ => pt_a (by omega)⟩
theorem CF_tr {s s' s'' : ST} (h : CF s s') (h' : CF s' s'') : CF s s'' := ⟨fun c a b e => (h'.1 c a b e).trans (h.1 c a b e), fun q a => (h'.2.1 q a).trans (h.2.1 q a), fun q a => (h'.2.2 q a).trans (h.2.2 q a)⟩
theorem CF_p {s : ST} {q : Nat} {x : Int32} (h1 : 4 ≤ q) (h2 : q < 11) : CF s (pt s 78 q x) := ⟨fun c h _ _ => pt_r h, fun q _ => pt_a (by omega), fun q' h => pt_j (by omega)⟩
theorem CF_d {s s' : ST} {L : LD} (h : DyM s s' L) : CF s s' := ⟨fun c a b _ => h.1 c a b, fun q _ => by rw [h.1 77 (by omega) (by omega)], fun q a => h.2.1 q (by omega)⟩
theorem m_comes {G : GT} {d : Nat} {s : ST} {μ : SL} {L : LD} {y : YS} (hM : MV s (stY L y)) (hx : s 77 23 = y.2.2) (hW : 0 < L.W) (hF : 0 < L.F) (hP : 0 < L.P) : Fn G (d + 5) mX12_comes [.ref (G.b0 + 77)] (sh G s μ) (fun r h' => r = none ∧ ∃ s' : ST, h' = sh G s' μ ∧ CF s s' ∧ MV s' (stY L (yr1 L y)) ∧ s' 77 23 = (yr1 L y).2.2) := by
  have hb := hM.b
  have hbW : L.W ≤ 16 := hb.1
  have hbF : L.F ≤ 8 := hb.2.1
  have hbP : L.P ≤ 6 := hb.2.2.1
  obtain ⟨x1, hx1⟩ : ∃ x1, x1 = mX y.2.2 := ⟨_, rfl⟩
  refine fn_of (ls := [some (.ref (G.b0 + 77)), none, none, none]) (by decide +kernel) (Nat.le_of_ble_eq_true rfl) 3 rfl ?_
  refine b_aload_n dX12_comes_0 rfl ?_
  refine b_iconst (v := nI 4) dX12_comes_1 (by decide) ?_
  refine g_callV [.int (nI 4)] dX12_comes_2 kX12_draw lX12_304 a77 rfl rfl (m_draw (n := 4) (by omega) (by omega)) rfl rfl (Nat.le_of_ble_eq_true rfl) ?_
  rw [hx, ← hx1]
  have hM1 : MV (pt s 77 23 x1) (stY L y) := MV_77 hM (by omega)
  have l4 : mDr x1 4 < 4 := mDr_lt (by omega)
  refine b_istore_n dX12_comes_5 (by decide) rfl ?_
  refine b_iload_n dX12_comes_6 rfl ?_
  refine b_if_ne 16 dX12_comes_7 (by decide) (fun c1 => ?_) (fun c1 => ?_)
  · skip
    have d1 : ¬ mDr x1 4 = 0 := fun z => c1 (by rw [z]; rfl)
    refine b_iload_n dX12_comes_16 rfl ?_
    refine b_iconst (v := nI 1) dX12_comes_17 (by decide) ?_
    refine b_icmp_ne 38 dX12_comes_18 (by decide) (fun c2 => ?_) (fun c2 => ?_)
    · skip
      have d2 : ¬ mDr x1 4 = 1 := fun z => c2 (by rw [z])
      refine b_aload_n dX12_comes_38 rfl ?_
      refine b_aload_n dX12_comes_39 rfl ?_
      refine g_get dX12_comes_40 fX12_13 a77 rfl ?_
      refine b_iconst (v := nI 3) dX12_comes_43 (by decide) ?_
      refine g_iald dX12_comes_44 a78 rfl (by omega) ?_
      refine b_top (show pt s 77 23 x1 78 3 = nI L.P from hM1.cP) ?_
      refine g_callV [.int (nI L.P)] dX12_comes_45 kX12_draw lX12_304 a77 rfl rfl (m_draw hP (by omega)) rfl rfl (Nat.le_of_ble_eq_true rfl) ?_
      rw [pt_s, pt_pt]
      have hM2 : MV (pt s 77 23 (mX x1)) (stY L y) := MV_77 hM (by omega)
      refine b_istore_n dX12_comes_48 (by decide) rfl ?_
      refine b_aload_n dX12_comes_49 rfl ?_
      refine b_aload_n dX12_comes_50 rfl ?_
      refine g_get dX12_comes_51 fX12_13 a77 rfl ?_
      refine b_iconst (v := nI 2) dX12_comes_54 (by decide) ?_
      refine g_iald dX12_comes_55 a78 rfl (by omega) ?_
      refine b_top (show pt s 77 23 (mX x1) 78 2 = nI L.F from hM2.cF) ?_
      refine g_callV [.int (nI L.F)] dX12_comes_56 kX12_draw lX12_304 a77 rfl rfl (m_draw hF (by omega)) rfl rfl (Nat.le_of_ble_eq_true rfl) ?_
      rw [pt_s, pt_pt]
      have hM3 : MV (pt s 77 23 (mX (mX x1))) (stY L y) := MV_77 hM (by omega)
      have lp : mDr (mX x1) L.P < L.P := mDr_lt hP
      have lf : mDr (mX (mX x1)) L.F < L.F := mDr_lt hF
      generalize hp9 : mDr (mX x1) L.P = p at lp
      generalize hf9 : mDr (mX (mX x1)) L.F = f at lf
      refine b_istore_n dX12_comes_59 (by decide) rfl ?_
      refine b_iload_n dX12_comes_60 rfl ?_
      refine b_iconst (v := nI 2) dX12_comes_61 (by decide) ?_
      refine b_icmp_ne 75 dX12_comes_62 (by decide) (fun c3 => ?_) (fun c3 => ?_)
      · skip
        have d3 : ¬ mDr x1 4 = 2 := fun z => c3 (by rw [z])
        have ey : yr1 L y = ((fun q => if q = p then y.1 p ||| bit f else y.1 q), y.2.1, mX (mX x1)) := by
          unfold yr1; rw [← hx1, if_neg d1, if_neg d2, if_neg d3, hp9, hf9]
        refine b_aload_n dX12_comes_75 rfl ?_
        refine g_get dX12_comes_76 fX12_13 a77 rfl ?_
        refine b_iconst (v := nI 5) dX12_comes_79 (by decide) ?_
        refine b_iload_n dX12_comes_80 rfl ?_
        refine b_iaddN dX12_comes_81 ?_
        refine b_dup2 dX12_comes_82 rfl rfl ?_
        refine g_iald dX12_comes_83 a78 rfl (by omega) ?_
        refine b_top (show pt s 77 23 (mX (mX x1)) 78 (5 + p) = y.1 p from hM3.told (p := p) lp) ?_
        refine b_iconst (v := nI 1) dX12_comes_84 (by decide) ?_
        refine b_iload_n dX12_comes_85 rfl ?_
        refine b_ishl dX12_comes_86 ?_
        refine b_ior dX12_comes_87 ?_
        refine g_iast dX12_comes_88 a78 rfl (by omega) ?_
        refine b_vret dX12_comes_89 ⟨rfl, _, rfl, CF_tr (CF_x s _) (CF_p (by omega) (by omega)), ?_, ?_⟩
        · rw [ey]; exact MV_pt hM3 (by omega)
        · rw [ey, pt_a (by omega), pt_s]
      · skip
        have d3 : mDr x1 4 = 2 := by rw [nI_eq (by omega) (by omega)] at c3; exact c3
        have ey : yr1 L y = ((fun q => if q = p then y.1 p ||| L.hint f else y.1 q), y.2.1, mX (mX x1)) := by
          unfold yr1; rw [← hx1, if_neg d1, if_neg d2, if_pos d3, hp9, hf9]
        refine b_aload_n dX12_comes_65 rfl ?_
        refine b_iload_n dX12_comes_66 rfl ?_
        refine b_iload_n dX12_comes_67 rfl ?_
        refine g_callV [.int (nI p), .int (nI f)] dX12_comes_68 kX12_asks lX12_269 a77 rfl rfl (m_asks hM3 lp lf) rfl rfl (Nat.le_of_ble_eq_true rfl) ?_
        refine b_pop dX12_comes_71 rfl ?_
        refine b_goto 89 dX12_comes_72 (by decide) ?_
        refine b_vret dX12_comes_89 ⟨rfl, _, rfl, CF_tr (CF_x s _) (CF_p (by omega) (by omega)), ?_, ?_⟩
        · rw [ey]; exact MV_pt hM3 (by omega)
        · rw [ey, pt_a (by omega), pt_s]
    · skip
      have d2 : mDr x1 4 = 1 := by rw [nI_eq (by omega) (by omega)] at c2; exact c2
      have ey : yr1 L y = (y.1, mDr (mX x1) L.W, mX x1) := by unfold yr1; rw [← hx1, if_neg d1, if_pos d2]
      refine b_aload_n dX12_comes_21 rfl ?_
      refine g_get dX12_comes_22 fX12_13 a77 rfl ?_
      refine b_iconst (v := nI 4) dX12_comes_25 (by decide) ?_
      refine b_aload_n dX12_comes_26 rfl ?_
      refine b_aload_n dX12_comes_27 rfl ?_
      refine g_get dX12_comes_28 fX12_13 a77 rfl ?_
      refine b_iconst (v := nI 1) dX12_comes_31 (by decide) ?_
      refine g_iald dX12_comes_32 a78 rfl (by omega) ?_
      refine b_top (show pt s 77 23 x1 78 1 = nI L.W from hM1.cW) ?_
      refine g_callV [.int (nI L.W)] dX12_comes_33 kX12_draw lX12_304 a77 rfl rfl (m_draw hW (by omega)) rfl rfl (Nat.le_of_ble_eq_true rfl) ?_
      rw [pt_s, pt_pt]
      have hM2 : MV (pt s 77 23 (mX x1)) (stY L y) := MV_77 hM (by omega)
      refine g_iast dX12_comes_36 a78 rfl (by omega) ?_
      refine b_vret dX12_comes_37 ⟨rfl, _, rfl, CF_tr (CF_x s _) (CF_p (by omega) (by omega)), ?_, ?_⟩
      · rw [ey]; exact MV_W hM2 (by rw [pt_a (by omega)]) (fun q hq => by rw [pt_j hq]) (pt_s _ _ _ _) (mDr_lt hW)
      · rw [ey, pt_a (by omega), pt_s]
  · skip
    have d1 : mDr x1 4 = 0 := nI_z (by omega) c1
    have ey : yr1 L y = (mNext L.road y.1 L.P, y.2.1, x1) := by unfold yr1; rw [← hx1, if_pos d1]
    refine b_aload_n dX12_comes_10 rfl ?_
    refine g_callVp [] dX12_comes_11 kX12_daysOne lX12_274 a77 rfl rfl (m_daysOne hM1) rfl rfl (Nat.le_of_ble_eq_true rfl) ?_
    rintro r h9 ⟨rfl, s2, rfl, hD⟩
    refine b_pop dX12_comes_14 rfl ?_
    refine b_vret dX12_comes_15 ⟨rfl, s2, rfl, CF_tr (CF_x s _) (CF_d hD), ?_, ?_⟩
    · rw [ey]; exact hD.2.2
    · rw [ey, hD.1 77 (by omega) (by omega), pt_s]
theorem yr1_ok {L : LD} {y : YS} (hK : LBk L) (hW : 0 < L.W) (hF : 0 < L.F) (hP : 0 < L.P) (h1 : ∀ p, p < L.P → lo L.F (y.1 p)) (h2 : y.2.1 < L.W) : (∀ p, p < L.P → lo L.F ((yr1 L y).1 p)) ∧ (yr1 L y).2.1 < L.W := by
  have hF8 := hK.2.2.2.2.2.2.2.2.1
  unfold yr1
  split
  · exact ⟨lo_next h1, h2⟩
  · split
    · exact ⟨h1, mDr_lt hW⟩
    · split
      · refine ⟨fun p hp => ?_, h2⟩
        show lo L.F (if p = _ then _ else _)
        split
        · rename_i e; exact lo_or (h1 _ (mDr_lt hP)) (hK.2.2.2.2.2.1 _ (Nat.lt_of_lt_of_le (mDr_lt hF) hF8))
        · exact h1 p hp
      · refine ⟨fun p hp => ?_, h2⟩
        show lo L.F (if p = _ then _ else _)
        split
        · rename_i e; exact lo_or (h1 _ (mDr_lt hP)) (lo_bit' (mDr_lt hF) (by omega))
        · exact h1 p hp
theorem yrN_ok {L : LD} (hK : LBk L) (hW : 0 < L.W) (hF : 0 < L.F) (hP : 0 < L.P) : ∀ n (y : YS), (∀ p, p < L.P → lo L.F (y.1 p)) → y.2.1 < L.W → (∀ p, p < L.P → lo L.F ((yrN L n y).1 p)) ∧ (yrN L n y).2.1 < L.W
  | 0, _, h1, h2 => ⟨h1, h2⟩
  | n + 1, y, h1, h2 => by
    obtain ⟨a, b⟩ := yr1_ok hK hW hF hP h1 h2
    exact yrN_ok hK hW hF hP n _ a b
theorem LBk_W {L : LD} {t : Nat} (h : LBk L) (ht : t < L.W) : LBk (stW L t) := ⟨fun _ => ht, fun z => absurd z (show ¬ L.W = 0 by omega), h.2.2⟩
theorem m_X_year {G : GT} {d : Nat} {σ : ST} {μ : SL} {L : LD} {sz : Nat} {seed n : Int32} (hM : MV σ L) (hK : LBk L) (hz : σ 78 113 = nI sz) (hz12 : sz ≤ 12) : Fn G (d + 6) mX12_year [.ref (G.b0 + 77), .int seed, .int n] (sh G σ μ) (if inB n 1 60 then (if L.W = 0 ∨ L.P = 0 ∨ L.F = 0 then PNo G μ σ (-5) else PNt G μ σ sz (stY L (yrN L (ix n) (L.told, L.t, seed))) (lst L 0 (yrN L (ix n) (L.told, L.t, seed)).1 (yrN L (ix n) (L.told, L.t, seed)).2.1)) else PNo G μ σ (-3)) := by
  have hb := hM.b
  refine fn_of (ls := [some (.ref (G.b0 + 77)), some (.int seed), some (.int n), none]) (by decide +kernel) (Nat.le_of_ble_eq_true rfl) 1 rfl ?_
  refine b_aload_n dX12_year_0 rfl ?_
  refine b_iconst (v := nI 0) dX12_year_1 (by decide) ?_
  refine g_put dX12_year_2 wX12_1 a77 tfX12_0 (Nat.le_of_ble_eq_true rfl) rfl ?_
  refine b_sig hM.t0 ?_
  refine b_iload_n dX12_year_5 rfl ?_
  refine b_i2l dX12_year_6 ?_
  refine b_lconst (v := 1) dX12_year_7 (by decide) ?_
  refine b_ldc2 dX12_year_8 cvX12_272 ?_
  refine b_callSr [.long n.toInt64, .long 1, .long ((60))] dX12_year_11 kX12_within lX12_145 c_within rfl rfl (Nat.le_of_ble_eq_true rfl) ?_
  rw [wi_60]
  refine b_if_ne 20 dX12_year_14 (by decide) (fun c1 => ?_) (fun c1 => ?_)
  · skip
    have c2 := (bI_1 _).mp c1
    obtain ⟨k, hk1, hk4, rfl⟩ := inB_of (by omega) c2 (by omega)
    have hkx := ix_nI (show k < 2 ^ 31 by omega)
    rw [c2, hkx]
    have no : (L.W = 0 ∨ L.P = 0 ∨ L.F = 0) → BB G RX12 cX12_year 4 (some .int) (d + 6) (QM G (if true then (if L.W = 0 ∨ L.P = 0 ∨ L.F = 0 then PNo G μ σ (-5) else PNt G μ σ sz (stY L (yrN L k (L.told, L.t, seed))) (lst L 0 (yrN L k (L.told, L.t, seed)).1 (yrN L k (L.told, L.t, seed)).2.1)) else PNo G μ σ (-3))) 47 [some (.ref (G.b0 + 77)), some (.int seed), some (.int (nI k)), none] [] (sh G σ μ) := by
      intro hno
      refine b_bipush (v := -5) dX12_year_47 (by decide) ?_
      refine b_iret dX12_year_49 ?_
      show (if L.W = 0 ∨ L.P = 0 ∨ L.F = 0 then PNo G μ σ (-5) else _) _ _
      rw [if_pos hno]
      exact ⟨rfl, rfl⟩
    refine b_aload_n dX12_year_20 rfl ?_
    refine g_get dX12_year_21 fX12_13 a77 rfl ?_
    refine b_iconst (v := nI 1) dX12_year_24 (by decide) ?_
    refine g_iald dX12_year_25 a78 rfl (by omega) ?_
    refine b_top hM.cW ?_
    refine b_if_eq 47 dX12_year_26 (by decide) (fun c3 => ?_) (fun c3 => ?_)
    · skip
      exact no (Or.inl (nI_z (by omega) c3))
    · skip
      have hW : 0 < L.W := Nat.pos_of_ne_zero (fun z => c3 (by rw [z]; rfl))
      refine b_aload_n dX12_year_29 rfl ?_
      refine g_get dX12_year_30 fX12_13 a77 rfl ?_
      refine b_iconst (v := nI 3) dX12_year_33 (by decide) ?_
      refine g_iald dX12_year_34 a78 rfl (by omega) ?_
      refine b_top hM.cP ?_
      refine b_if_eq 47 dX12_year_35 (by decide) (fun c4 => ?_) (fun c4 => ?_)
      · skip
        exact no (Or.inr (Or.inl (nI_z (by omega) c4)))
      · skip
        have hP : 0 < L.P := Nat.pos_of_ne_zero (fun z => c4 (by rw [z]; rfl))
        refine b_aload_n dX12_year_38 rfl ?_
        refine g_get dX12_year_39 fX12_13 a77 rfl ?_
        refine b_iconst (v := nI 2) dX12_year_42 (by decide) ?_
        refine g_iald dX12_year_43 a78 rfl (by omega) ?_
        refine b_top hM.cF ?_
        refine b_if_ne 50 dX12_year_44 (by decide) (fun c5 => ?_) (fun c5 => ?_)
        · skip
          have hF : 0 < L.F := Nat.pos_of_ne_zero (fun z => c5 (by rw [z]; rfl))
          refine b_aload_n dX12_year_50 rfl ?_
          refine g_callV [] dX12_year_51 kX12_keeps lX12_260 a77 rfl rfl m_keeps rfl rfl (Nat.le_of_ble_eq_true rfl) ?_
          refine b_aload_n dX12_year_54 rfl ?_
          refine b_iload_n dX12_year_55 rfl ?_
          refine g_put dX12_year_56 wX12_301 a77 tfX12_23 (Nat.le_of_ble_eq_true rfl) rfl ?_
          refine b_iconst (v := nI 0) dX12_year_59 (by decide) ?_
          refine b_istore_n dX12_year_60 (by decide) rfl ?_
          have hno : ¬ (L.W = 0 ∨ L.P = 0 ∨ L.F = 0) := by omega
          have ht : L.t < L.W := hK.1 hW
          have lp : ∀ (n i : Nat) (s : ST) (y : YS), i + n = k → S0 σ s → MV s (stY L y) → s 77 23 = y.2.2 → (∀ p, p < L.P → lo L.F (y.1 p)) → y.2.1 < L.W → yrN L n y = yrN L k (L.told, L.t, seed) → BB G RX12 cX12_year 4 (some .int) (d + 6) (QM G (if true then (if L.W = 0 ∨ L.P = 0 ∨ L.F = 0 then PNo G μ σ (-5) else PNt G μ σ sz (stY L (yrN L k (L.told, L.t, seed))) (lst L 0 (yrN L k (L.told, L.t, seed)).1 (yrN L k (L.told, L.t, seed)).2.1)) else PNo G μ σ (-3))) 61 [some (.ref (G.b0 + 77)), some (.int seed), some (.int (nI k)), some (.int (nI i))] [] (sh G s μ) := by
            intro n
            induction n with
            | zero =>
              intro i s y hi hS hMs hx9 hl hy he
              have hz2 : s 78 113 = nI sz := by rw [hS.2.2.2 113 (by omega)]; exact hz
              have he' : y = yrN L k (L.told, L.t, seed) := he
              have hN := NTd_mk hS hMs hz12
              refine b_iload_n dX12_year_61 rfl ?_
              refine b_iload_n dX12_year_62 rfl ?_
              refine b_icmp_ge_t 76 dX12_year_63 (by decide) (nI_le (by omega) (by omega)) ?_
              refine b_aload_n dX12_year_76 rfl ?_
              refine g_callV [] dX12_year_77 kX12_notes lX12_263 a77 rfl rfl (m_notes hz2 hz12) rfl rfl (Nat.le_of_ble_eq_true rfl) ?_
              refine b_aload_n dX12_year_80 rfl ?_
              refine b_iconst (v := nI 0) dX12_year_81 (by decide) ?_
              refine b_aload_n dX12_year_82 rfl ?_
              refine g_get dX12_year_83 fX12_13 a77 rfl ?_
              refine b_iconst (v := nI 4) dX12_year_86 (by decide) ?_
              refine g_iald dX12_year_87 a78 rfl (by omega) ?_
              refine b_top (show ntS sz s 78 4 = nI y.2.1 from hN.2.2.2.2.ct) ?_
              refine g_callV [.int (nI 0), .int (nI y.2.1)] dX12_year_88 kX12_leastOf lX12_294 a77 rfl rfl (m_leastOf (m := 0) hN.2.2.2.2 (LBk_T (L := stW L y.2.1) (LBk_W hK hy) hl) (by omega) (show y.2.1 < 32 by omega)) rfl rfl (Nat.le_of_ble_eq_true rfl) ?_
              refine b_iret dX12_year_91 ?_
              show (if L.W = 0 ∨ L.P = 0 ∨ L.F = 0 then PNo G μ σ (-5) else _) _ _
              rw [if_neg hno, ← he']
              exact ⟨rfl, _, rfl, hN⟩
            | succ n ih =>
              intro i s y hi hS hMs hx9 hl hy he
              refine b_iload_n dX12_year_61 rfl ?_
              refine b_iload_n dX12_year_62 rfl ?_
              refine b_icmp_ge_f 76 dX12_year_63 (by decide) (nI_ge (by omega) (by omega)) ?_
              refine b_aload_n dX12_year_66 rfl ?_
              refine g_callVp [] dX12_year_67 kX12_comes lX12_307 a77 rfl rfl (m_comes hMs hx9 hW hF hP) rfl rfl (Nat.le_of_ble_eq_true rfl) ?_
              rintro r h9 ⟨rfl, s2, rfl, hC, hM2, hx2⟩
              refine b_iinc dX12_year_70 rfl (nI_1 _) (by decide) rfl ?_
              refine b_goto 61 dX12_year_73 (by decide) ?_
              obtain ⟨a1, a2⟩ := yr1_ok hK hW hF hP hl hy
              exact ih (i + 1) s2 (yr1 L y) (by omega) (S0_cf hS hC) hM2 hx2 a1 a2 he
          refine lp k 0 _ (L.told, L.t, seed) (by omega) (S0_77 (S0_keeps σ) (Or.inr rfl)) (MV_77 (S0_MV hM) (by omega)) (pt_s _ _ _ _) (fun p hp => LBk_told hK hp) ht rfl
        · skip
          exact no (Or.inr (Or.inr (nI_z (by omega) c5)))
  · skip
    refine b_bipush (v := -3) dX12_year_17 (by decide) ?_
    refine b_iret dX12_year_19 ?_
    rw [(bI_0 _).mp c1]
    exact ⟨rfl, rfl⟩

