/-! ===== the reference: days, news ===== -/
theorem mDays_s (road : Nat → Int32) (P : Nat) : ∀ n x, mDays road P (n + 1) x = mNext road (mDays road P n x) P
  | 0, _ => rfl
  | n + 1, x => by rw [mDays, mDays_s road P n]; rfl
abbrev tlD (L : LD) (n : Nat) : Nat → Int32 := mDays L.road L.P n L.told
theorem MV_day {s : ST} {L : LD} {n : Nat} (h : MV s (stT (stT L (tlD L n)) (mNext L.road (tlD L n) L.P))) : MV s (stT L (tlD L (n + 1))) := by
  have e : tlD L (n + 1) = mNext L.road (tlD L n) L.P := mDays_s _ _ _ _
  rw [e]; exact h
theorem wi_60 {x : Int32} : (decide ((1 : Int64) ≤ x.toInt64) && decide (x.toInt64 ≤ 60)) = inB x 1 60 := wi_B (a := 1) (b := 60) (by omega) (by omega)
theorem wi_61 {x : Int32} : (decide ((0 : Int64) ≤ x.toInt64) && decide (x.toInt64 ≤ 60)) = inR x 61 := by
  rw [← inL_R (n := 61) (by omega), ← wi_L (n := 61) (by omega)]; rfl
theorem m_X_days {G : GT} {d : Nat} {σ : ST} {μ : SL} {L : LD} {sz : Nat} {n : Int32} (hM : MV σ L) (hz : σ 78 113 = nI sz) (hz12 : sz ≤ 12) : Fn G (d + 2) mX12_days [.ref (G.b0 + 77), .int n] (sh G σ μ) (if inB n 1 60 then PNt G μ σ sz (stT L (tlD L (ix n))) (nI (mNew (tlD L (ix n)) L.told L.P)) else PNo G μ σ (-3)) := by
  have hb := hM.b
  refine fn_of (ls := [some (.ref (G.b0 + 77)), some (.int n), none, none]) (by decide +kernel) (Nat.le_of_ble_eq_true rfl) 2 rfl ?_
  refine b_aload_n dX12_days_0 rfl ?_
  refine b_iconst (v := nI 0) dX12_days_1 (by decide) ?_
  refine g_put dX12_days_2 wX12_1 a77 tfX12_0 (Nat.le_of_ble_eq_true rfl) rfl ?_
  refine b_sig hM.t0 ?_
  refine b_iload_n dX12_days_5 rfl ?_
  refine b_i2l dX12_days_6 ?_
  refine b_lconst (v := 1) dX12_days_7 (by decide) ?_
  refine b_ldc2 dX12_days_8 cvX12_272 ?_
  refine b_callSr [.long n.toInt64, .long 1, .long ((60))] dX12_days_11 kX12_within lX12_145 c_within rfl rfl (Nat.le_of_ble_eq_true rfl) ?_
  rw [wi_60]
  refine b_if_ne 20 dX12_days_14 (by decide) (fun c1 => ?_) (fun c1 => ?_)
  · skip
    have c2 := (bI_1 _).mp c1
    obtain ⟨k, hk1, hk4, rfl⟩ := inB_of (by omega) c2 (by omega)
    have hkx := ix_nI (show k < 2 ^ 31 by omega)
    rw [c2, hkx]
    refine b_aload_n dX12_days_20 rfl ?_
    refine g_callV [] dX12_days_21 kX12_keeps lX12_260 a77 rfl rfl m_keeps rfl rfl (Nat.le_of_ble_eq_true rfl) ?_
    refine b_iconst (v := nI 0) dX12_days_24 (by decide) ?_
    refine b_istore_n dX12_days_25 (by decide) rfl ?_
    have lp2 : ∀ (n i : Nat) (s : ST), i + n = L.P → NTd σ s sz (stT L (tlD L k)) → (∀ q, q < 7 → s 86 q = σ 78 (4 + q)) → BB G RX12 cX12_days 4 (some .int) (d + 2) (QM G (if true then PNt G μ σ sz (stT L (tlD L k)) (nI (mNew (tlD L k) L.told L.P)) else PNo G μ σ (-3))) 50 [some (.ref (G.b0 + 77)), some (.int (nI k)), some (.int (nI (mNew (tlD L k) L.told i))), some (.int (nI i))] [] (sh G s μ) := by
      intro n
      induction n with
      | zero =>
        intro i s hi hN h86
        have hMs := hN.2.2.2.2
        refine b_iload_n dX12_days_50 rfl ?_
        refine b_aload_n dX12_days_51 rfl ?_
        refine g_get dX12_days_52 fX12_13 a77 rfl ?_
        refine b_iconst (v := nI 3) dX12_days_55 (by decide) ?_
        refine g_iald dX12_days_56 a78 rfl (by omega) ?_
        refine b_top (show s 78 3 = nI L.P from hMs.cP) ?_
        refine b_icmp_ge_t 93 dX12_days_57 (by decide) (nI_le (by omega) (by omega)) ?_
        refine b_iload_n dX12_days_93 rfl ?_
        exact b_iret dX12_days_94 ⟨by rw [show i = L.P by omega], s, rfl, hN⟩
      | succ n ih =>
        intro i s hi hN h86
        have hMs := hN.2.2.2.2
        refine b_iload_n dX12_days_50 rfl ?_
        refine b_aload_n dX12_days_51 rfl ?_
        refine g_get dX12_days_52 fX12_13 a77 rfl ?_
        refine b_iconst (v := nI 3) dX12_days_55 (by decide) ?_
        refine g_iald dX12_days_56 a78 rfl (by omega) ?_
        refine b_top (show s 78 3 = nI L.P from hMs.cP) ?_
        refine b_icmp_ge_f 93 dX12_days_57 (by decide) (nI_ge (by omega) (by omega)) ?_
        refine b_iload_n dX12_days_60 rfl ?_
        refine b_aload_n dX12_days_61 rfl ?_
        refine g_get dX12_days_62 fX12_42 a77 rfl ?_
        refine b_iconst (v := nI 1) dX12_days_65 (by decide) ?_
        refine b_iload_n dX12_days_66 rfl ?_
        refine b_iaddN dX12_days_67 ?_
        refine g_iald dX12_days_68 a86 rfl (by omega) ?_
        refine b_top (show s 86 (1 + i) = L.told i by rw [h86 _ (by omega), show 4 + (1 + i) = 5 + i by omega]; exact hM.told (by omega)) ?_
        refine b_aload_n dX12_days_69 rfl ?_
        refine g_get dX12_days_70 fX12_13 a77 rfl ?_
        refine b_iconst (v := nI 5) dX12_days_73 (by decide) ?_
        refine b_iload_n dX12_days_74 rfl ?_
        refine b_iaddN dX12_days_75 ?_
        refine g_iald dX12_days_76 a78 rfl (by omega) ?_
        refine b_top (show s 78 (5 + i) = tlD L k i from hMs.told (p := i) (show i < L.P by omega)) ?_
        refine b_icmp_ne 84 dX12_days_77 (by decide) (fun c5 => ?_) (fun c5 => ?_)
        · skip
          refine b_iconst (v := nI 1) dX12_days_84 (by decide) ?_
          refine b_iaddN dX12_days_85 ?_
          refine b_istore_n dX12_days_86 (by decide) rfl ?_
          refine b_iinc dX12_days_87 rfl (nI_1 _) (by decide) rfl ?_
          refine b_goto 50 dX12_days_90 (by decide) ?_
          refine b_locs ?_ (ih (i + 1) s (by omega) hN h86)
          rw [mNew, if_neg (fun z => c5 z.symm)]; rfl
        · skip
          refine b_iconst (v := nI 0) dX12_days_80 (by decide) ?_
          refine b_goto 85 dX12_days_81 (by decide) ?_
          refine b_iaddN dX12_days_85 ?_
          refine b_istore_n dX12_days_86 (by decide) rfl ?_
          refine b_iinc dX12_days_87 rfl (nI_1 _) (by decide) rfl ?_
          refine b_goto 50 dX12_days_90 (by decide) ?_
          refine b_locs ?_ (ih (i + 1) s (by omega) hN h86)
          rw [mNew, if_pos (show tlD L k i = L.told i from Eq.symm c5)]; rfl
    have lp : ∀ (n i : Nat) (s : ST) (z3 : Option Value), i + n = k → S0 σ s → MV s (stT L (tlD L i)) → BB G RX12 cX12_days 4 (some .int) (d + 2) (QM G (if true then PNt G μ σ sz (stT L (tlD L k)) (nI (mNew (tlD L k) L.told L.P)) else PNo G μ σ (-3))) 26 [some (.ref (G.b0 + 77)), some (.int (nI k)), some (.int (nI i)), z3] [] (sh G s μ) := by
      intro n
      induction n with
      | zero =>
        intro i s z3 hi hS hMs
        have ei : i = k := by omega
        subst ei
        have hz2 : s 78 113 = nI sz := by rw [hS.2.2.2 113 (by omega)]; exact hz
        refine b_iload_n dX12_days_26 rfl ?_
        refine b_iload_n dX12_days_27 rfl ?_
        refine b_icmp_ge_t 42 dX12_days_28 (by decide) (nI_le (by omega) (by omega)) ?_
        refine b_aload_n dX12_days_42 rfl ?_
        refine g_callV [] dX12_days_43 kX12_notes lX12_263 a77 rfl rfl (m_notes hz2 hz12) rfl rfl (Nat.le_of_ble_eq_true rfl) ?_
        refine b_iconst (v := nI 0) dX12_days_46 (by decide) ?_
        refine b_istore_n dX12_days_47 (by decide) rfl ?_
        refine b_iconst (v := nI 0) dX12_days_48 (by decide) ?_
        refine b_istore_n dX12_days_49 (by decide) rfl ?_
        exact lp2 L.P 0 _ (by omega) (NTd_mk hS hMs hz12) (fun q hq => by rw [nt_no (by omega) hz12]; exact hS.1 q hq)
      | succ n ih =>
        intro i s z3 hi hS hMs
        refine b_iload_n dX12_days_26 rfl ?_
        refine b_iload_n dX12_days_27 rfl ?_
        refine b_icmp_ge_f 42 dX12_days_28 (by decide) (nI_ge (by omega) (by omega)) ?_
        refine b_aload_n dX12_days_31 rfl ?_
        refine g_callVp [] dX12_days_32 kX12_daysOne lX12_274 a77 rfl rfl (m_daysOne hMs) rfl rfl (Nat.le_of_ble_eq_true rfl) ?_
        rintro r h9 ⟨rfl, s2, rfl, hD⟩
        refine b_pop dX12_days_35 rfl ?_
        refine b_iinc dX12_days_36 rfl (nI_1 _) (by decide) rfl ?_
        refine b_goto 26 dX12_days_39 (by decide) ?_
        exact ih (i + 1) s2 z3 (by omega) (S0_day hS hD) (MV_day hD.2.2)
    exact lp k 0 _ _ (by omega) (S0_keeps σ) (S0_MV hM)
  · skip
    refine b_bipush (v := -3) dX12_days_17 (by decide) ?_
    refine b_iret dX12_days_19 ?_
    rw [(bI_0 _).mp c1]
    exact ⟨rfl, rfl⟩
theorem LBk_T {L : LD} {tl : Nat → Int32} (h : LBk L) (ht : ∀ p, p < L.P → lo L.F (tl p)) : LBk (stT L tl) := ⟨h.1, h.2.1, h.2.2.1, h.2.2.2.1, ht, h.2.2.2.2.2.1, h.2.2.2.2.2.2.1, h.2.2.2.2.2.2.2.1, h.2.2.2.2.2.2.2.2⟩
theorem LBk_told {L : LD} (h : LBk L) {p : Nat} (hp : p < L.P) : lo L.F (L.told p) := h.2.2.2.2.1 p hp
theorem lo_day1 {road tl : Nat → Int32} {F p : Nat} : ∀ n, lo F (tl p) → (∀ q, q < n → lo F (tl q)) → lo F (mDay1 road tl p n)
  | 0, h, _ => h
  | n + 1, h, hq => by
    rw [mDay1]
    have ih := lo_day1 (road := road) (tl := tl) (F := F) (p := p) n h (fun q h' => hq q (by omega))
    split
    · exact lo_or ih (hq n (by omega))
    · exact ih
theorem lo_next {road tl : Nat → Int32} {F P : Nat} (h : ∀ p, p < P → lo F (tl p)) : ∀ p, p < P → lo F (mNext road tl P p) := fun p hp => by
  rw [mNext, if_pos hp]; exact lo_day1 P (h p hp) h
theorem lo_days {road : Nat → Int32} {F P : Nat} : ∀ n (tl : Nat → Int32), (∀ p, p < P → lo F (tl p)) → ∀ p, p < P → lo F (mDays road P n tl p)
  | 0, _, h => h
  | n + 1, _, h => lo_days n _ (lo_next h)
theorem LBk_days {L : LD} (h : LBk L) (n : Nat) : LBk (stT L (tlD L n)) := LBk_T h (lo_days n _ (fun p hp => LBk_told h hp))
theorem m_X_leastIn {G : GT} {d : Nat} {σ : ST} {μ : SL} {L : LD} {m n : Int32} (hM : MV σ L) (hK : LBk L) : Fn G (d + 4) mX12_leastIn [.ref (G.b0 + 77), .int m, .int n] (sh G σ μ) (PFm G μ σ (oLeastIn L m n)) := by
  have hb := hM.b
  refine fn_of (ls := [some (.ref (G.b0 + 77)), some (.int m), some (.int n), none]) (by decide +kernel) (Nat.le_of_ble_eq_true rfl) 1 rfl ?_
  refine b_aload_n dX12_leastIn_0 rfl ?_
  refine b_iconst (v := nI 0) dX12_leastIn_1 (by decide) ?_
  refine g_put dX12_leastIn_2 wX12_1 a77 tfX12_0 (Nat.le_of_ble_eq_true rfl) rfl ?_
  refine b_sig hM.t0 ?_
  refine b_iload_n dX12_leastIn_5 rfl ?_
  refine b_i2l dX12_leastIn_6 ?_
  refine b_lconst (v := 0) dX12_leastIn_7 (by decide) ?_
  refine b_ldc2 dX12_leastIn_8 cvX12_289 ?_
  refine b_callSr [.long m.toInt64, .long 0, .long ((3))] dX12_leastIn_11 kX12_within lX12_145 c_within rfl rfl (Nat.le_of_ble_eq_true rfl) ?_
  rw [wi_m]
  refine b_if_ne 20 dX12_leastIn_14 (by decide) (fun c1 => ?_) (fun c1 => ?_)
  · skip
    have c2 := (bI_1 _).mp c1
    obtain ⟨j, hj, rfl⟩ := inR_of (by omega) c2
    have hjx := ix_nI (show j < 2 ^ 31 by omega)
    refine b_iload_n dX12_leastIn_20 rfl ?_
    refine b_i2l dX12_leastIn_21 ?_
    refine b_lconst (v := 0) dX12_leastIn_22 (by decide) ?_
    refine b_ldc2 dX12_leastIn_23 cvX12_272 ?_
    refine b_callSr [.long n.toInt64, .long 0, .long ((60))] dX12_leastIn_26 kX12_within lX12_145 c_within rfl rfl (Nat.le_of_ble_eq_true rfl) ?_
    rw [wi_61]
    refine b_if_ne 35 dX12_leastIn_29 (by decide) (fun c3 => ?_) (fun c3 => ?_)
    · skip
      have c4 := (bI_1 _).mp c3
      obtain ⟨k, hk, rfl⟩ := inR_of (by omega) c4
      have hkx := ix_nI (show k < 2 ^ 31 by omega)
      refine b_aload_n dX12_leastIn_35 rfl ?_
      refine g_callV [] dX12_leastIn_36 kX12_keeps lX12_260 a77 rfl rfl m_keeps rfl rfl (Nat.le_of_ble_eq_true rfl) ?_
      refine b_iconst (v := nI 0) dX12_leastIn_39 (by decide) ?_
      refine b_istore_n dX12_leastIn_40 (by decide) rfl ?_
      have lp : ∀ (n i : Nat) (s : ST), i + n = k → S0 σ s → MV s (stT L (tlD L i)) → BB G RX12 cX12_leastIn 4 (some .int) (d + 4) (QM G (PFm G μ σ (oLeastIn L (nI j) (nI k)))) 41 [some (.ref (G.b0 + 77)), some (.int (nI j)), some (.int (nI k)), some (.int (nI i))] [] (sh G s μ) := by
        intro n
        induction n with
        | zero =>
          intro i s hi hS hMs
          have ei : i = k := by omega
          subst ei
          refine b_iload_n dX12_leastIn_41 rfl ?_
          refine b_iload_n dX12_leastIn_42 rfl ?_
          refine b_icmp_ge_t 57 dX12_leastIn_43 (by decide) (nI_le (by omega) (by omega)) ?_
          refine b_aload_n dX12_leastIn_57 rfl ?_
          refine b_iload_n dX12_leastIn_58 rfl ?_
          refine b_aload_n dX12_leastIn_59 rfl ?_
          refine g_get dX12_leastIn_60 fX12_13 a77 rfl ?_
          refine b_iconst (v := nI 4) dX12_leastIn_63 (by decide) ?_
          refine g_iald dX12_leastIn_64 a78 rfl (by omega) ?_
          refine b_top (show s 78 4 = nI L.t from hMs.ct) ?_
          refine g_callV [.int (nI j), .int (nI L.t)] dX12_leastIn_65 kX12_leastOf lX12_294 a77 rfl rfl (m_leastOf hMs (LBk_days hK i) hj (show L.t < 32 by omega)) rfl rfl (Nat.le_of_ble_eq_true rfl) ?_
          refine b_istore_n dX12_leastIn_68 (by decide) rfl ?_
          refine b_aload_n dX12_leastIn_69 rfl ?_
          refine g_callV [] dX12_leastIn_70 kX12_isAgain lX12_297 a77 rfl rfl m_isAgain rfl rfl (Nat.le_of_ble_eq_true rfl) ?_
          refine b_iload_n dX12_leastIn_73 rfl ?_
          refine b_iret dX12_leastIn_74 ⟨?_, _, rfl, FT_again hS⟩
          simp [oLeastIn, c2, c4, hjx, hkx]; rfl
        | succ n ih =>
          intro i s hi hS hMs
          refine b_iload_n dX12_leastIn_41 rfl ?_
          refine b_iload_n dX12_leastIn_42 rfl ?_
          refine b_icmp_ge_f 57 dX12_leastIn_43 (by decide) (nI_ge (by omega) (by omega)) ?_
          refine b_aload_n dX12_leastIn_46 rfl ?_
          refine g_callVp [] dX12_leastIn_47 kX12_daysOne lX12_274 a77 rfl rfl (m_daysOne hMs) rfl rfl (Nat.le_of_ble_eq_true rfl) ?_
          rintro r h9 ⟨rfl, s2, rfl, hD⟩
          refine b_pop dX12_leastIn_50 rfl ?_
          refine b_iinc dX12_leastIn_51 rfl (nI_1 _) (by decide) rfl ?_
          refine b_goto 41 dX12_leastIn_54 (by decide) ?_
          exact ih (i + 1) s2 (by omega) (S0_day hS hD) (MV_day hD.2.2)
      exact lp k 0 _ (by omega) (S0_keeps σ) (S0_MV hM)
    · skip
      refine b_bipush (v := -3) dX12_leastIn_32 (by decide) ?_
      exact b_iret dX12_leastIn_34 ⟨by simp [oLeastIn, c2, (bI_0 _).mp c3], σ, rfl, FT_r σ⟩
  · skip
    refine b_bipush (v := -2) dX12_leastIn_17 (by decide) ?_
    exact b_iret dX12_leastIn_19 ⟨by simp [oLeastIn, (bI_0 _).mp c1], σ, rfl, FT_r σ⟩
/-! each day with news tells somebody more -/
def mz (tl : Nat → Int32) : Nat → Nat
  | 0 => 0
  | p + 1 => mz tl p + cnt (tl p) 16
theorem day1_up {road tl : Nat → Int32} {p : Nat} : ∀ n, sbs (tl p) (mDay1 road tl p n)
  | 0 => fun _ _ h => h
  | n + 1 => fun i hi h => by
    rw [mDay1]
    have ih := day1_up (road := road) (tl := tl) (p := p) n i hi h
    split
    · rw [b_or, ih]; rfl
    · exact ih
theorem mz_le {tl tl' : Nat → Int32} : ∀ n, (∀ p, p < n → cnt (tl p) 16 ≤ cnt (tl' p) 16) → mz tl n ≤ mz tl' n
  | 0, _ => Nat.le_refl _
  | n + 1, h => by
    have ih := mz_le n (fun p hp => h p (by omega))
    have := h n (by omega)
    unfold mz; omega
theorem mz_lt {tl tl' : Nat → Int32} {j : Nat} (hj : cnt (tl j) 16 < cnt (tl' j) 16) : ∀ n, j < n → (∀ p, p < n → cnt (tl p) 16 ≤ cnt (tl' p) 16) → mz tl n < mz tl' n
  | 0, h, _ => absurd h (by omega)
  | n + 1, hn, h => by
    unfold mz
    by_cases e : j = n
    · subst e
      have := mz_le (tl := tl) (tl' := tl') j (fun p hp => h p (by omega))
      omega
    · have ih := mz_lt hj n (by omega) (fun p hp => h p (by omega))
      have := h n (by omega)
      omega
theorem mz_b {tl : Nat → Int32} {F : Nat} (hF : F ≤ 8) : ∀ n, (∀ p, p < n → lo F (tl p)) → mz tl n ≤ 8 * n
  | 0, _ => Nat.le_refl _
  | n + 1, h => by
    have ih := mz_b (tl := tl) hF n (fun p hp => h p (by omega))
    have e := cnt_lo (lo_mono (h n (by omega)) hF) 8 (by omega)
    have := cnt_le (tl n) 8
    unfold mz
    rw [show (16 : Nat) = 8 + 8 from rfl, e]; omega
theorem dayB_yes {road tl : Nat → Int32} {P : Nat} : ∀ n, mDayB road tl P n = true → ∃ p, p < n ∧ mDay1 road tl p P ≠ tl p
  | 0, h => absurd h (by simp [mDayB])
  | n + 1, h => by
    rw [mDayB, Bool.or_eq_true] at h
    rcases h with h | h
    · obtain ⟨p, h1, h2⟩ := dayB_yes n h; exact ⟨p, by omega, h2⟩
    · exact ⟨n, by omega, by simpa using h⟩
theorem mz_day {road tl : Nat → Int32} {F P : Nat} (hF : F ≤ 8) (hlo : ∀ p, p < P → lo F (tl p)) (hB : mDayB road tl P P = true) : mz tl P < mz (mNext road tl P) P := by
  obtain ⟨p, hp, hne⟩ := dayB_yes P hB
  have mono : ∀ q, q < P → cnt (tl q) 16 ≤ cnt (mNext road tl P q) 16 := fun q hq => by
    rw [mNext, if_pos hq]; exact cnt_mono 16 (fun i hi h => day1_up P i (by omega) h)
  refine mz_lt (j := p) ?_ P hp mono
  rw [mNext, if_pos hp]
  obtain ⟨j, hj, hj1, hj2⟩ : ∃ j, j < 32 ∧ bt (mDay1 road tl p P) j = true ∧ bt (tl p) j = false := by
    refine Classical.byContradiction (fun z => hne (sbs_eq (fun i hi hb => ?_) (day1_up P)))
    cases hbi : bt (tl p) i
    · exact absurd ⟨i, hi, hb, hbi⟩ z
    · rfl
  have hlo2 := lo_day1 (road := road) (p := p) P (hlo p hp) hlo
  have hj16 : j < 16 := by
    rcases Nat.lt_or_ge j F with q | q
    · omega
    · rw [hlo2 j q hj] at hj1; exact absurd hj1 (by simp)
  exact cnt_st hj1 hj2 16 hj16 (fun i hi h => day1_up P i (by omega) h)
theorem m_X_calm {G : GT} {d : Nat} {σ : ST} {μ : SL} {L : LD} (hM : MV σ L) (hK : LBk L) : Fn G (d + 2) mX12_calm [.ref (G.b0 + 77)] (sh G σ μ) (PFm G μ σ (nI (mCalm L.road L.P 60 L.told))) := by
  have hb := hM.b
  refine fn_of (ls := [some (.ref (G.b0 + 77)), none]) (by decide +kernel) (Nat.le_of_ble_eq_true rfl) 1 rfl ?_
  refine b_aload_n dX12_calm_0 rfl ?_
  refine b_iconst (v := nI 0) dX12_calm_1 (by decide) ?_
  refine g_put dX12_calm_2 wX12_1 a77 tfX12_0 (Nat.le_of_ble_eq_true rfl) rfl ?_
  refine b_sig hM.t0 ?_
  refine b_aload_n dX12_calm_5 rfl ?_
  refine g_callV [] dX12_calm_6 kX12_keeps lX12_260 a77 rfl rfl m_keeps rfl rfl (Nat.le_of_ble_eq_true rfl) ?_
  refine b_iconst (v := nI 0) dX12_calm_9 (by decide) ?_
  refine b_istore_n dX12_calm_10 (by decide) rfl ?_
  have lp : ∀ (k i : Nat) (s : ST) (tl : Nat → Int32), i + k = 60 → S0 σ s → MV s (stT L tl) → (∀ p, p < L.P → lo L.F (tl p)) → 49 ≤ mz tl L.P + k → i + mCalm L.road L.P k tl = mCalm L.road L.P 60 L.told → BB G RX12 cX12_calm 2 (some .int) (d + 2) (QM G (PFm G μ σ (nI (mCalm L.road L.P 60 L.told)))) 11 [some (.ref (G.b0 + 77)), some (.int (nI i))] [] (sh G s μ) := by
    intro k
    induction k with
    | zero =>
      intro i s tl hi hS hMs hlo hmz he
      have := mz_b hb.2.1 L.P hlo
      omega
    | succ k ih =>
      intro i s tl hi hS hMs hlo hmz he
      refine b_aload_n dX12_calm_11 rfl ?_
      refine g_callVp [] dX12_calm_12 kX12_daysOne lX12_274 a77 rfl rfl (m_daysOne hMs) rfl rfl (Nat.le_of_ble_eq_true rfl) ?_
      rintro r h9 ⟨rfl, s2, rfl, hD⟩
      rw [mCalm] at he
      refine b_if_eq 24 dX12_calm_15 (by decide) (fun c1 => ?_) (fun c1 => ?_)
      · skip
        have c2 : mDayB L.road tl L.P L.P = false := (bI_0 _).mp c1
        rw [c2] at he
        have he' : i = mCalm L.road L.P 60 L.told := by simpa using he
        refine b_aload_n dX12_calm_24 rfl ?_
        refine g_callV [] dX12_calm_25 kX12_isAgain lX12_297 a77 rfl rfl m_isAgain rfl rfl (Nat.le_of_ble_eq_true rfl) ?_
        refine b_iload_n dX12_calm_28 rfl ?_
        exact b_iret dX12_calm_29 ⟨by rw [← he'], _, rfl, FT_again (S0_day hS hD)⟩
      · skip
        have c2 : mDayB L.road tl L.P L.P = true := (bI_1 _).mp c1
        rw [c2] at he
        have he' : i + (mCalm L.road L.P k (mNext L.road tl L.P) + 1) = mCalm L.road L.P 60 L.told := by simpa using he
        have hgt := mz_day hb.2.1 hlo c2
        refine b_iinc dX12_calm_18 rfl (nI_1 _) (by decide) rfl ?_
        refine b_goto 11 dX12_calm_21 (by decide) ?_
        exact ih (i + 1) s2 (mNext L.road tl L.P) (by omega) (S0_day hS hD) hD.2.2 (lo_next hlo) (by omega) (by omega)
  exact lp 60 0 _ L.told (by omega) (S0_keeps σ) (S0_MV hM) (fun p hp => LBk_told hK hp) (by omega) (by omega)

