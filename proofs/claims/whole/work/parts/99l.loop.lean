/-! ===== the law's loop ===== -/
theorem nI_own (x : Int32) : ∃ n : Nat, n < 2 ^ 32 ∧ x = nI n := ⟨x.toBitVec.toNat, x.toBitVec.isLt, Int32.toBitVec_inj.mp (BitVec.eq_of_toNat_eq (nI_nat x.toBitVec.isLt).symm)⟩
theorem and63 (x : Int32) : ∃ c : Nat, c < 64 ∧ x &&& nI 63 = nI c := by
  obtain ⟨n, -, rfl⟩ := nI_own x
  exact ⟨n &&& 63, Nat.lt_of_le_of_lt Nat.and_le_right (by decide), nI_and n 63⟩
theorem l_disp {G : GT} {b L : Nat} {xs : Nat → Int32} {d N : Nat} {σ : ST} {μ : SL} (hL : L ≤ 3072) (hN : 6 * N + 6 ≤ L) (hI : INV σ μ N) (K : ∀ (s : ST) (m : SL), INV s m (N + 1) → BL G b L xs (d + 41) 1699 (lN0 G b N) [] (sh G s m)) : ∀ c : Nat, c < 64 → BL G b L xs (d + 41) 33 (lN0 G b N) [.int (nI c)] (sh G σ μ) := fun c hc => match c, hc with
  | 0, _ => b_tableIn (off := 215) 248 dL_law_33 (by decide) (by decide) (by decide) (by decide) (lc_0 hL hN hI K)
  | 1, _ => b_tableIn (off := 278) 311 dL_law_33 (by decide) (by decide) (by decide) (by decide) (lc_1 hL hN hI K)
  | 2, _ => b_tableIn (off := 301) 334 dL_law_33 (by decide) (by decide) (by decide) (by decide) (lc_2 hL hN hI K)
  | 3, _ => b_tableIn (off := 324) 357 dL_law_33 (by decide) (by decide) (by decide) (by decide) (lc_3 hL hN hI K)
  | 4, _ => b_tableIn (off := 357) 390 dL_law_33 (by decide) (by decide) (by decide) (by decide) (lc_4 hL hN hI K)
  | 5, _ => b_tableIn (off := 380) 413 dL_law_33 (by decide) (by decide) (by decide) (by decide) (lc_5 hL hN hI K)
  | 6, _ => b_tableIn (off := 413) 446 dL_law_33 (by decide) (by decide) (by decide) (by decide) (lc_6 hL hN hI K)
  | 7, _ => b_tableIn (off := 436) 469 dL_law_33 (by decide) (by decide) (by decide) (by decide) (lc_7 hL hN hI K)
  | 8, _ => b_tableIn (off := 469) 502 dL_law_33 (by decide) (by decide) (by decide) (by decide) (lc_8 hL hN hI K)
  | 9, _ => b_tableIn (off := 502) 535 dL_law_33 (by decide) (by decide) (by decide) (by decide) (lc_9 hL hN hI K)
  | 10, _ => b_tableIn (off := 535) 568 dL_law_33 (by decide) (by decide) (by decide) (by decide) (lc_10 hL hN hI K)
  | 11, _ => b_tableIn (off := 568) 601 dL_law_33 (by decide) (by decide) (by decide) (by decide) (lc_11 hL hN hI K)
  | 12, _ => b_tableIn (off := 591) 624 dL_law_33 (by decide) (by decide) (by decide) (by decide) (lc_12 hL hN hI K)
  | 13, _ => b_tableIn (off := 614) 647 dL_law_33 (by decide) (by decide) (by decide) (by decide) (lc_13 hL hN hI K)
  | 14, _ => b_tableIn (off := 637) 670 dL_law_33 (by decide) (by decide) (by decide) (by decide) (lc_14 hL hN hI K)
  | 15, _ => b_tableIn (off := 670) 703 dL_law_33 (by decide) (by decide) (by decide) (by decide) (lc_15 hL hN hI K)
  | 16, _ => b_tableIn (off := 693) 726 dL_law_33 (by decide) (by decide) (by decide) (by decide) (lc_16 hL hN hI K)
  | 17, _ => b_tableIn (off := 726) 759 dL_law_33 (by decide) (by decide) (by decide) (by decide) (lc_17 hL hN hI K)
  | 18, _ => b_tableIn (off := 749) 782 dL_law_33 (by decide) (by decide) (by decide) (by decide) (lc_18 hL hN hI K)
  | 19, _ => b_tableIn (off := 772) 805 dL_law_33 (by decide) (by decide) (by decide) (by decide) (lc_19 hL hN hI K)
  | 20, _ => b_tableIn (off := 785) 818 dL_law_33 (by decide) (by decide) (by decide) (by decide) (lc_20 hL hN hI K)
  | 21, _ => b_tableIn (off := 808) 841 dL_law_33 (by decide) (by decide) (by decide) (by decide) (lc_21 hL hN hI K)
  | 22, _ => b_tableIn (off := 831) 864 dL_law_33 (by decide) (by decide) (by decide) (by decide) (lc_22 hL hN hI K)
  | 23, _ => b_tableIn (off := 844) 877 dL_law_33 (by decide) (by decide) (by decide) (by decide) (lc_23 hL hN hI K)
  | 24, _ => b_tableIn (off := 877) 910 dL_law_33 (by decide) (by decide) (by decide) (by decide) (lc_24 hL hN hI K)
  | 25, _ => b_tableIn (off := 910) 943 dL_law_33 (by decide) (by decide) (by decide) (by decide) (lc_25 hL hN hI K)
  | 26, _ => b_tableIn (off := 933) 966 dL_law_33 (by decide) (by decide) (by decide) (by decide) (lc_26 hL hN hI K)
  | 27, _ => b_tableIn (off := 966) 999 dL_law_33 (by decide) (by decide) (by decide) (by decide) (lc_27 hL hN hI K)
  | 28, _ => b_tableIn (off := 999) 1032 dL_law_33 (by decide) (by decide) (by decide) (by decide) (lc_28 hL hN hI K)
  | 29, _ => b_tableIn (off := 1032) 1065 dL_law_33 (by decide) (by decide) (by decide) (by decide) (lc_29 hL hN hI K)
  | 30, _ => b_tableIn (off := 1075) 1108 dL_law_33 (by decide) (by decide) (by decide) (by decide) (lc_30 hL hN hI K)
  | 31, _ => b_tableIn (off := 1128) 1161 dL_law_33 (by decide) (by decide) (by decide) (by decide) (lc_31 hL hN hI K)
  | 32, _ => b_tableIn (off := 1161) 1194 dL_law_33 (by decide) (by decide) (by decide) (by decide) (lc_32 hL hN hI K)
  | 33, _ => b_tableIn (off := 1194) 1227 dL_law_33 (by decide) (by decide) (by decide) (by decide) (lc_33 hL hN hI K)
  | 34, _ => b_tableIn (off := 1217) 1250 dL_law_33 (by decide) (by decide) (by decide) (by decide) (lc_34 hL hN hI K)
  | 35, _ => b_tableIn (off := 1240) 1273 dL_law_33 (by decide) (by decide) (by decide) (by decide) (lc_35 hL hN hI K)
  | 36, _ => b_tableIn (off := 1263) 1296 dL_law_33 (by decide) (by decide) (by decide) (by decide) (lc_36 hL hN hI K)
  | 37, _ => b_tableIn (off := 1276) 1309 dL_law_33 (by decide) (by decide) (by decide) (by decide) (lc_37 hL hN hI K)
  | 38, _ => b_tableIn (off := 1309) 1342 dL_law_33 (by decide) (by decide) (by decide) (by decide) (lc_38 hL hN hI K)
  | 39, _ => b_tableIn (off := 1332) 1365 dL_law_33 (by decide) (by decide) (by decide) (by decide) (lc_39 hL hN hI K)
  | 40, _ => b_tableIn (off := 1365) 1398 dL_law_33 (by decide) (by decide) (by decide) (by decide) (lc_40 hL hN hI K)
  | 41, _ => b_tableIn (off := 1378) 1411 dL_law_33 (by decide) (by decide) (by decide) (by decide) (lc_41 hL hN hI K)
  | 42, _ => b_tableIn (off := 1401) 1434 dL_law_33 (by decide) (by decide) (by decide) (by decide) (lc_42 hL hN hI K)
  | 43, _ => b_tableIn (off := 1424) 1457 dL_law_33 (by decide) (by decide) (by decide) (by decide) (lc_43 hL hN hI K)
  | 44, _ => b_tableIn (off := 1457) 1490 dL_law_33 (by decide) (by decide) (by decide) (by decide) (lc_44 hL hN hI K)
  | 45, _ => b_tableIn (off := 1500) 1533 dL_law_33 (by decide) (by decide) (by decide) (by decide) (lc_45 hL hN hI K)
  | 46, _ => b_tableIn (off := 1574) 1607 dL_law_33 (by decide) (by decide) (by decide) (by decide) (lc_46 hL hN hI K)
  | 47, _ => b_tableIn (off := 1597) 1630 dL_law_33 (by decide) (by decide) (by decide) (by decide) (lc_47 hL hN hI K)
  | 48, _ => b_tableIn (off := 1620) 1653 dL_law_33 (by decide) (by decide) (by decide) (by decide) (lc_48 hL hN hI K)
  | 49, _ => b_tableIn (off := 1643) 1676 dL_law_33 (by decide) (by decide) (by decide) (by decide) (lc_49 hL hN hI K)
  | n + 50, h9 => by
    refine b_tableOut 1699 dL_law_33 (Or.inr ?_) (by decide) (K σ μ (INV_up hI))
    rw [nI_toInt (by omega)]
    omega
theorem l_loop {G : GT} {b L : Nat} {xs : Nat → Int32} {d : Nat} (hL : L ≤ 3072) : ∀ (n N : Nat) (σ : ST) (μ : SL), L < 6 * N + 6 * n + 6 → 6 * N ≤ L → INV σ μ N → BL G b L xs (d + 41) 18 (lN0 G b N) [] (sh G σ μ) := by
  intro n
  induction n with
  | zero =>
    intro N σ μ h1 h2 hI
    refine b_iload_n (kk := 3) dL_law_18 rfl ?_
    refine b_aload_n (kk := 0) dL_law_19 rfl ?_
    refine l_len dL_law_20 ?_
    refine b_bipush (v := nI 6) dL_law_21 (by decide) ?_
    refine b_isub dL_law_23 ?_
    refine b_icmp_gt_t 1705 dL_law_24 (by decide) ?_ ?_
    · rw [Int32.lt_iff_toInt_lt, pk_sub_toInt (by omega) (by omega), nI_toInt (by omega)]
      omega
    · refine b_iconst (v := 1) dL_law_1705 (by decide) ?_
      exact l_end dL_law_1706
  | succ n ih =>
    intro N σ μ h1 h2 hI
    refine b_iload_n (kk := 3) dL_law_18 rfl ?_
    refine b_aload_n (kk := 0) dL_law_19 rfl ?_
    refine l_len dL_law_20 ?_
    refine b_bipush (v := nI 6) dL_law_21 (by decide) ?_
    refine b_isub dL_law_23 ?_
    by_cases hc : L < 6 * N + 6
    · refine b_icmp_gt_t 1705 dL_law_24 (by decide) ?_ ?_
      · rw [Int32.lt_iff_toInt_lt, pk_sub_toInt (by omega) (by omega), nI_toInt (by omega)]
        omega
      · refine b_iconst (v := 1) dL_law_1705 (by decide) ?_
        exact l_end dL_law_1706
    · refine b_icmp_gt_f 1705 dL_law_24 (by decide) ?_ ?_
      · rw [Int32.lt_iff_toInt_lt, pk_sub_toInt (by omega) (by omega), nI_toInt (by omega)]
        omega
      · refine b_aload_n (kk := 0) dL_law_27 rfl ?_
        refine b_iload_n (kk := 3) dL_law_28 rfl ?_
        refine l_sld dL_law_29 rfl (by omega) (by omega) ?_
        refine b_bipush (v := nI 63) dL_law_30 (by decide) ?_
        refine b_iand dL_law_32 ?_
        obtain ⟨c, hc64, ec⟩ := and63 (xs (6 * N))
        rw [ec]
        refine l_disp hL (by omega) hI (fun s m hI2 => ?_) c hc64
        refine b_iinc (i := 3) (v := nI (6 * (N + 1))) dL_law_1699 rfl (nI_k (6 * N) 6) (by decide) rfl ?_
        refine b_goto 18 dL_law_1702 (by decide) ?_
        exact ih (N + 1) s m (by omega) (by omega) hI2
/-- from the law's entry on -/
theorem l_start {G : GT} {b L : Nat} {xs : Nat → Int32} (hL : L ≤ 3072) : BN G RL cL_law 4 ret 100 600000 7302250 (QL G b L xs) 0 [some (.ref b), none, none, none] [] [] 0 0 := by
  refine n_make dL_law_0 dL_law_3 dL_law_4 mki11 clL_7 lL_9 (mk_X11 (d := 96)) rfl (by decide) (Nat.le_of_ble_eq_true rfl) (Nat.le_of_ble_eq_true rfl) ?_
  refine n_astore_n (kk := 1) dL_law_7 (by decide) rfl ?_
  refine n_make dL_law_8 dL_law_11 dL_law_12 mki12 clL_10 lL_12 (mk_X12 (d := 98) (a := 77) rfl) rfl (by decide) (Nat.le_of_ble_eq_true rfl) (Nat.le_of_ble_eq_true rfl) ?_
  refine n_astore_n (kk := 2) dL_law_15 (by decide) rfl ?_
  refine n_iconst (v := nI (6 * 0)) dL_law_16 (by decide) ?_
  refine n_istore_n (kk := 3) dL_law_17 (by decide) rfl ?_
  intro p e R s m args below meth c E hN hz H locs lsA hH hS hl
  have hlp : BL G b L xs (59 + 41) 18 (lN0 G b 0) [] (sh G s0 m0) := l_loop hL L 0 s0 m0 (by omega) (by omega) INV_start
  obtain ⟨e1, e2, e3, e4, e5, e6, e7, e8, e9, e10, e11⟩ := E
  exact hlp p e R s m args below meth c _ _ ⟨e1, e2, e3, e4, e5, e6, e7, e8, e9, e10, ⟨Nat.le_trans (Nat.le_of_ble_eq_true rfl) e11.1, Nat.le_trans (Nat.le_of_ble_eq_true rfl) e11.2⟩⟩ H locs lsA (HP_start hH) hS hl
