/-! ===== the reference: rows, images, tape, count ===== -/
theorem m_cut {G : GT} {d : Nat} {h : HT} {v : Int64} {k : Nat} (hk : k < 4) : Fn G d mX12_cut [.long v, .int (nI k)] h (Ret (some (.long (mCut k v))) h) := by
  refine fn_of (ls := [some (.long v), none, some (.int (nI k))]) (by decide +kernel) (Nat.le_of_ble_eq_true rfl) 0 rfl ?_
  refine b_iload_n dX12_cut_0 rfl ?_
  refine b_if_ne 11 dX12_cut_1 (by decide) (fun c1 => ?_) (fun c1 => ?_)
  · skip
    have d1 : ¬ k = 0 := fun z => c1 (by rw [z]; rfl)
    refine b_iload_n dX12_cut_11 rfl ?_
    refine b_iconst (v := nI 1) dX12_cut_12 (by decide) ?_
    refine b_icmp_ne 23 dX12_cut_13 (by decide) (fun c2 => ?_) (fun c2 => ?_)
    · skip
      have d2 : ¬ k = 1 := fun z => c2 (by rw [z])
      refine b_iload_n dX12_cut_23 rfl ?_
      refine b_iconst (v := nI 2) dX12_cut_24 (by decide) ?_
      refine b_icmp_ne 34 dX12_cut_25 (by decide) (fun c3 => ?_) (fun c3 => ?_)
      · skip
        have d3 : ¬ k = 2 := fun z => c3 (by rw [z])
        refine b_lload_n dX12_cut_34 rfl ?_
        exact b_lret dX12_cut_35 ⟨by rw [mCut, if_neg d1, if_neg d2, if_neg d3], rfl⟩
      · skip
        have d3 : k = 2 := by rw [nI_eq (by omega) (by omega)] at c3; exact c3
        refine b_lload_n dX12_cut_28 rfl ?_
        refine b_l2i dX12_cut_29 ?_
        refine b_i2l dX12_cut_30 ?_
        refine b_goto 35 dX12_cut_31 (by decide) ?_
        exact b_lret dX12_cut_35 ⟨by rw [mCut, if_neg d1, if_neg d2, if_pos d3], rfl⟩
    · skip
      have d2 : k = 1 := by rw [nI_eq (by omega) (by omega)] at c2; exact c2
      refine b_lload_n dX12_cut_16 rfl ?_
      refine b_l2i dX12_cut_17 ?_
      refine b_i2s dX12_cut_18 ?_
      refine b_i2l dX12_cut_19 ?_
      refine b_goto 35 dX12_cut_20 (by decide) ?_
      exact b_lret dX12_cut_35 ⟨by rw [mCut, if_neg d1, if_pos d2], rfl⟩
  · skip
    have d1 : k = 0 := nI_z (by omega) c1
    refine b_lload_n dX12_cut_4 rfl ?_
    refine b_l2i dX12_cut_5 ?_
    refine b_i2b dX12_cut_6 ?_
    refine b_i2l dX12_cut_7 ?_
    refine b_goto 35 dX12_cut_8 (by decide) ?_
    exact b_lret dX12_cut_35 ⟨by rw [mCut, if_pos d1], rfl⟩
theorem wi_41 {x : Int32} : (decide ((0 : Int64) ≤ x.toInt64) && decide (x.toInt64 ≤ 40)) = inR x 41 := by
  rw [← inL_R (n := 41) (by omega), ← wi_L (n := 41) (by omega)]; rfl
def zL (μ : SL) (b n : Nat) : SL := fun p q => if p = 98 ∧ b ≤ q ∧ q < b + n then 0 else μ p q
theorem m_X_numbers {G : GT} {d : Nat} {σ : ST} {μ : SL} {L : LD} {row sort n : Int32} (hM : MV σ L) : Fn G (d + 1) mX12_numbers [.ref (G.b0 + 77), .int row, .int sort, .int n] (sh G σ μ)
    (Ret (some (.int (if inR row 4 && inR sort 4 then (if inR n 41 then nI 0 else -3) else -2)))
      (sh G (if inR row 4 && inR sort 4 && inR n 41 then pt (pt σ 96 (ix row) sort) 97 (ix row) n else σ) (if inR row 4 && inR sort 4 && inR n 41 then zL μ (40 * ix row) (ix n) else μ))) := by
  refine fn_of (ls := [some (.ref (G.b0 + 77)), some (.int row), some (.int sort), some (.int n), none]) (by decide +kernel) (Nat.le_of_ble_eq_true rfl) 1 rfl ?_
  refine b_aload_n dX12_numbers_0 rfl ?_
  refine b_iconst (v := nI 0) dX12_numbers_1 (by decide) ?_
  refine g_put dX12_numbers_2 wX12_1 a77 tfX12_0 (Nat.le_of_ble_eq_true rfl) rfl ?_
  refine b_sig hM.t0 ?_
  refine b_iload_n dX12_numbers_5 rfl ?_
  refine b_i2l dX12_numbers_6 ?_
  refine b_lconst (v := 0) dX12_numbers_7 (by decide) ?_
  refine b_ldc2 dX12_numbers_8 cvX12_289 ?_
  refine b_callSr [.long row.toInt64, .long 0, .long ((3))] dX12_numbers_11 kX12_within lX12_145 c_within rfl rfl (Nat.le_of_ble_eq_true rfl) ?_
  rw [wi_m]
  refine b_if_eq 29 dX12_numbers_14 (by decide) (fun c1 => ?_) (fun c1 => ?_)
  · skip
    have c2 := (bI_0 _).mp c1
    refine b_bipush (v := -2) dX12_numbers_29 (by decide) ?_
    exact b_iret dX12_numbers_31 ⟨by simp [c2], by simp [c2]⟩
  · skip
    have c2 := (bI_1 _).mp c1
    obtain ⟨j, hj, rfl⟩ := inR_of (by omega) c2
    have hjx := ix_nI (show j < 2 ^ 31 by omega)
    refine b_iload_n dX12_numbers_17 rfl ?_
    refine b_i2l dX12_numbers_18 ?_
    refine b_lconst (v := 0) dX12_numbers_19 (by decide) ?_
    refine b_ldc2 dX12_numbers_20 cvX12_289 ?_
    refine b_callSr [.long sort.toInt64, .long 0, .long ((3))] dX12_numbers_23 kX12_within lX12_145 c_within rfl rfl (Nat.le_of_ble_eq_true rfl) ?_
    rw [wi_m]
    refine b_if_ne 32 dX12_numbers_26 (by decide) (fun c3 => ?_) (fun c3 => ?_)
    · skip
      have c4 := (bI_1 _).mp c3
      refine b_iload_n dX12_numbers_32 rfl ?_
      refine b_i2l dX12_numbers_33 ?_
      refine b_lconst (v := 0) dX12_numbers_34 (by decide) ?_
      refine b_ldc2 dX12_numbers_35 cvX12_391 ?_
      refine b_callSr [.long n.toInt64, .long 0, .long ((40))] dX12_numbers_38 kX12_within lX12_145 c_within rfl rfl (Nat.le_of_ble_eq_true rfl) ?_
      rw [wi_41]
      refine b_if_ne 47 dX12_numbers_41 (by decide) (fun c5 => ?_) (fun c5 => ?_)
      · skip
        have c6 := (bI_1 _).mp c5
        obtain ⟨k, hk, rfl⟩ := inR_of (by omega) c6
        have hkx := ix_nI (show k < 2 ^ 31 by omega)
        rw [c2, c4, c6, hjx, hkx]
        refine b_aload_n dX12_numbers_47 rfl ?_
        refine g_get dX12_numbers_48 fX12_73 a77 rfl ?_
        refine b_iload_n dX12_numbers_51 rfl ?_
        refine b_iload_n dX12_numbers_52 rfl ?_
        refine g_iast dX12_numbers_53 a96 rfl (by omega) ?_
        refine b_aload_n dX12_numbers_54 rfl ?_
        refine g_get dX12_numbers_55 fX12_76 a77 rfl ?_
        refine b_iload_n dX12_numbers_58 rfl ?_
        refine b_iload_n dX12_numbers_59 rfl ?_
        refine g_iast dX12_numbers_60 a97 rfl (by omega) ?_
        refine b_iconst (v := nI 0) dX12_numbers_61 (by decide) ?_
        refine b_istore dX12_numbers_62 (by decide) rfl ?_
        have lp : ∀ (m i : Nat), i + m = k → BB G RX12 cX12_numbers 5 (some .int) (d + 1) (QM G (Ret (some (.int (if true && true then (if true then nI 0 else -3) else -2))) (sh G (if true && true && true then pt (pt σ 96 j sort) 97 j (nI k) else σ) (if true && true && true then zL μ (40 * j) k else μ)))) 64 [some (.ref (G.b0 + 77)), some (.int (nI j)), some (.int sort), some (.int (nI k)), some (.int (nI i))] [] (sh G (pt (pt σ 96 j sort) 97 j (nI k)) (zL μ (40 * j) i)) := by
          intro m
          induction m with
          | zero =>
            intro i hi
            refine b_iload dX12_numbers_64 rfl ?_
            refine b_iload_n dX12_numbers_66 rfl ?_
            refine b_icmp_ge_t 89 dX12_numbers_67 (by decide) (nI_le (by omega) (by omega)) ?_
            refine b_iconst (v := nI 0) dX12_numbers_89 (by decide) ?_
            exact b_iret dX12_numbers_90 ⟨rfl, by rw [show i = k by omega]; rfl⟩
          | succ m ih =>
            intro i hi
            refine b_iload dX12_numbers_64 rfl ?_
            refine b_iload_n dX12_numbers_66 rfl ?_
            refine b_icmp_ge_f 89 dX12_numbers_67 (by decide) (nI_ge (by omega) (by omega)) ?_
            refine b_aload_n dX12_numbers_70 rfl ?_
            refine g_get dX12_numbers_71 fX12_79 a77 rfl ?_
            refine b_bipush (v := nI 40) dX12_numbers_74 (by decide) ?_
            refine b_iload_n dX12_numbers_76 rfl ?_
            refine b_imulN dX12_numbers_77 ?_
            refine b_iload dX12_numbers_78 rfl ?_
            refine b_iaddN dX12_numbers_80 ?_
            refine b_lconst (v := 0) dX12_numbers_81 (by decide) ?_
            refine g_last dX12_numbers_82 a98 rfl (by omega) ?_
            refine b_iinc dX12_numbers_83 rfl (nI_1 _) (by decide) rfl ?_
            refine b_goto 64 dX12_numbers_86 (by decide) ?_
            have e : ptL (zL μ (40 * j) i) 98 (40 * j + i) 0 = zL μ (40 * j) (i + 1) := by
              funext p q
              unfold ptL zL
              by_cases h1 : p = 98 ∧ q = 40 * j + i
              · rw [if_pos h1, if_pos (by omega)]
              · rw [if_neg h1]
                by_cases h2 : p = 98 ∧ 40 * j ≤ q ∧ q < 40 * j + i
                · rw [if_pos h2, if_pos (by omega)]
                · rw [if_neg h2, if_neg (by omega)]
            refine b_heap ?_ (ih (i + 1) (by omega))
            rw [← e]
        have := lp k 0 (by omega)
        rw [show zL μ (40 * j) 0 = μ by funext p q; unfold zL; rw [if_neg (by omega)]] at this
        exact this
      · skip
        have c6 := (bI_0 _).mp c5
        refine b_bipush (v := -3) dX12_numbers_44 (by decide) ?_
        exact b_iret dX12_numbers_46 ⟨by simp [c2, c4, c6], by simp [c6]⟩
    · skip
      have c4 := (bI_0 _).mp c3
      refine b_bipush (v := -2) dX12_numbers_29 (by decide) ?_
      exact b_iret dX12_numbers_31 ⟨by simp [c4], by simp [c4]⟩
theorem m_X_write {G : GT} {d : Nat} {σ : ST} {μ : SL} {L : LD} {row i : Int32} {v : Int64} {R : Nat → Option (Nat × Nat)} {w : Nat → Nat → Int64} (hM : MV σ L) (hR : MR σ μ R w) : Fn G (d + 1) mX12_write [.ref (G.b0 + 77), .int row, .int i, .long v] (sh G σ μ)
    (Ret (some (.long (if inR row 4 then (match R (ix row) with | none => -6 | some q => if inR i q.1 then mCut q.2 v else -7) else -2)))
      (sh G σ (if inR row 4 then (match R (ix row) with | none => μ | some q => if inR i q.1 then ptL μ 98 (40 * ix row + ix i) (mCut q.2 v) else μ) else μ))) := by
  refine fn_of (ls := [some (.ref (G.b0 + 77)), some (.int row), some (.int i), some (.long v), none]) (by decide +kernel) (Nat.le_of_ble_eq_true rfl) 0 rfl ?_
  refine b_aload_n dX12_write_0 rfl ?_
  refine b_iconst (v := nI 0) dX12_write_1 (by decide) ?_
  refine g_put dX12_write_2 wX12_1 a77 tfX12_0 (Nat.le_of_ble_eq_true rfl) rfl ?_
  refine b_sig hM.t0 ?_
  refine b_iload_n dX12_write_5 rfl ?_
  refine b_i2l dX12_write_6 ?_
  refine b_lconst (v := 0) dX12_write_7 (by decide) ?_
  refine b_ldc2 dX12_write_8 cvX12_289 ?_
  refine b_callSr [.long row.toInt64, .long 0, .long ((3))] dX12_write_11 kX12_within lX12_145 c_within rfl rfl (Nat.le_of_ble_eq_true rfl) ?_
  rw [wi_m]
  refine b_if_ne 21 dX12_write_14 (by decide) (fun c1 => ?_) (fun c1 => ?_)
  · skip
    have c2 := (bI_1 _).mp c1
    obtain ⟨j, hj, rfl⟩ := inR_of (by omega) c2
    have hjx := ix_nI (show j < 2 ^ 31 by omega)
    rw [c2, hjx, if_pos rfl, if_pos rfl]
    refine b_aload_n dX12_write_21 rfl ?_
    refine g_get dX12_write_22 fX12_73 a77 rfl ?_
    refine b_iload_n dX12_write_25 rfl ?_
    refine g_iald dX12_write_26 a96 rfl (by omega) ?_
    refine b_iconst (v := -1) dX12_write_27 (by decide) ?_
    cases hRj : R j with
    | none =>
      have h96 := MR_no hR hj hRj
      refine b_icmp_ne_f 35 dX12_write_28 (by decide) h96 ?_
      refine b_ldc2 dX12_write_31 cvX12_395 ?_
      exact b_lret dX12_write_34 ⟨rfl, rfl⟩
    | some q =>
      obtain ⟨h1, h2, h3, h4, h5⟩ := MR_so hR hj hRj
      dsimp only
      refine b_icmp_ne_t 35 dX12_write_28 (by decide) (by rw [h1]; exact nI_m1 (by omega)) ?_
      refine b_iload_n dX12_write_35 rfl ?_
      refine b_i2l dX12_write_36 ?_
      refine b_lconst (v := 0) dX12_write_37 (by decide) ?_
      refine b_aload_n dX12_write_38 rfl ?_
      refine g_get dX12_write_39 fX12_76 a77 rfl ?_
      refine b_iload_n dX12_write_42 rfl ?_
      refine g_iald dX12_write_43 a97 rfl (by omega) ?_
      refine b_top h2 ?_
      refine b_iconst (v := nI 1) dX12_write_44 (by decide) ?_
      refine b_isub dX12_write_45 ?_
      refine b_i2l dX12_write_46 ?_
      refine b_callSr [.long i.toInt64, .long 0, .long (((nI q.1) - (nI 1)).toInt64)] dX12_write_47 kX12_within lX12_145 c_within rfl rfl (Nat.le_of_ble_eq_true rfl) ?_
      rw [wi_L (by omega), inL_R (by omega)]
      refine b_if_ne 57 dX12_write_50 (by decide) (fun c3 => ?_) (fun c3 => ?_)
      · skip
        have c4 := (bI_1 _).mp c3
        obtain ⟨k, hk, rfl⟩ := inR_of (by omega) c4
        have hkx := ix_nI (show k < 2 ^ 31 by omega)
        rw [c4, hkx, if_pos rfl, if_pos rfl]
        refine b_aload_n dX12_write_57 rfl ?_
        refine g_get dX12_write_58 fX12_79 a77 rfl ?_
        refine b_bipush (v := nI 40) dX12_write_61 (by decide) ?_
        refine b_iload_n dX12_write_63 rfl ?_
        refine b_imulN dX12_write_64 ?_
        refine b_iload_n dX12_write_65 rfl ?_
        refine b_iaddN dX12_write_66 ?_
        refine b_lload_n dX12_write_67 rfl ?_
        refine b_aload_n dX12_write_68 rfl ?_
        refine g_get dX12_write_69 fX12_73 a77 rfl ?_
        refine b_iload_n dX12_write_72 rfl ?_
        refine g_iald dX12_write_73 a96 rfl (by omega) ?_
        refine b_top h1 ?_
        refine b_callSr [.long v, .int (nI q.2)] dX12_write_74 kX12_cut lX12_399 (m_cut h4) rfl rfl (Nat.le_of_ble_eq_true rfl) ?_
        refine g_last dX12_write_77 a98 rfl (by omega) ?_
        refine b_aload_n dX12_write_78 rfl ?_
        refine g_get dX12_write_79 fX12_79 a77 rfl ?_
        refine b_bipush (v := nI 40) dX12_write_82 (by decide) ?_
        refine b_iload_n dX12_write_84 rfl ?_
        refine b_imulN dX12_write_85 ?_
        refine b_iload_n dX12_write_86 rfl ?_
        refine b_iaddN dX12_write_87 ?_
        refine g_lald dX12_write_88 a98 rfl (by omega) ?_
        refine b_lret dX12_write_89 ⟨?_, rfl⟩
        have e : ptL μ 98 (40 * j + k) (mCut q.2 v) 98 (40 * j + k) = mCut q.2 v := by unfold ptL; rw [if_pos ⟨rfl, rfl⟩]
        exact congrArg (fun z => some (Value.long z)) e
      · skip
        rw [(bI_0 _).mp c3, if_neg (by simp), if_neg (by simp)]
        refine b_ldc2 dX12_write_53 cvX12_397 ?_
        exact b_lret dX12_write_56 ⟨rfl, rfl⟩
  · skip
    rw [(bI_0 _).mp c1, if_neg (by simp), if_neg (by simp)]
    refine b_ldc2 dX12_write_17 cvX12_393 ?_
    exact b_lret dX12_write_20 ⟨rfl, rfl⟩
def cpL (μ : SL) (b sort : Nat) (tl : Nat → Int32) (n : Nat) : SL := fun c q => if c = 98 ∧ b ≤ q ∧ q < b + n then mCut sort (tl (q - b)).toInt64 else μ c q
theorem m_X_copy {G : GT} {d : Nat} {σ : ST} {μ : SL} {L : LD} {row : Int32} {R : Nat → Option (Nat × Nat)} {w : Nat → Nat → Int64} (hM : MV σ L) (hR : MR σ μ R w) : Fn G (d + 1) mX12_copy [.ref (G.b0 + 77), .int row] (sh G σ μ)
    (Ret (some (.int (if inR row 4 then (match R (ix row) with | none => -6 | some q => nI (min L.P q.1)) else -2)))
      (sh G σ (if inR row 4 then (match R (ix row) with | none => μ | some q => cpL μ (40 * ix row) q.2 L.told (min L.P q.1)) else μ))) := by
  have hb := hM.b
  refine fn_of (ls := [some (.ref (G.b0 + 77)), some (.int row), none, none]) (by decide +kernel) (Nat.le_of_ble_eq_true rfl) 2 rfl ?_
  refine b_aload_n dX12_copy_0 rfl ?_
  refine b_iconst (v := nI 0) dX12_copy_1 (by decide) ?_
  refine g_put dX12_copy_2 wX12_1 a77 tfX12_0 (Nat.le_of_ble_eq_true rfl) rfl ?_
  refine b_sig hM.t0 ?_
  refine b_iload_n dX12_copy_5 rfl ?_
  refine b_i2l dX12_copy_6 ?_
  refine b_lconst (v := 0) dX12_copy_7 (by decide) ?_
  refine b_ldc2 dX12_copy_8 cvX12_289 ?_
  refine b_callSr [.long row.toInt64, .long 0, .long ((3))] dX12_copy_11 kX12_within lX12_145 c_within rfl rfl (Nat.le_of_ble_eq_true rfl) ?_
  rw [wi_m]
  refine b_if_ne 20 dX12_copy_14 (by decide) (fun c1 => ?_) (fun c1 => ?_)
  · skip
    have c2 := (bI_1 _).mp c1
    obtain ⟨j, hj, rfl⟩ := inR_of (by omega) c2
    have hjx := ix_nI (show j < 2 ^ 31 by omega)
    rw [c2, hjx, if_pos rfl, if_pos rfl]
    refine b_aload_n dX12_copy_20 rfl ?_
    refine g_get dX12_copy_21 fX12_73 a77 rfl ?_
    refine b_iload_n dX12_copy_24 rfl ?_
    refine g_iald dX12_copy_25 a96 rfl (by omega) ?_
    refine b_iconst (v := -1) dX12_copy_26 (by decide) ?_
    cases hRj : R j with
    | none =>
      have h96 := MR_no hR hj hRj
      refine b_icmp_ne_f 33 dX12_copy_27 (by decide) h96 ?_
      refine b_bipush (v := -6) dX12_copy_30 (by decide) ?_
      exact b_iret dX12_copy_32 ⟨rfl, rfl⟩
    | some q =>
      obtain ⟨h1, h2, h3, h4, h5⟩ := MR_so hR hj hRj
      dsimp only
      generalize hn : min L.P q.1 = n
      refine b_icmp_ne_t 33 dX12_copy_27 (by decide) (by rw [h1]; exact nI_m1 (by omega)) ?_
      refine b_aload_n dX12_copy_33 rfl ?_
      refine g_get dX12_copy_34 fX12_13 a77 rfl ?_
      refine b_iconst (v := nI 3) dX12_copy_37 (by decide) ?_
      refine g_iald dX12_copy_38 a78 rfl (by omega) ?_
      refine b_top hM.cP ?_
      refine b_aload_n dX12_copy_39 rfl ?_
      refine g_get dX12_copy_40 fX12_76 a77 rfl ?_
      refine b_iload_n dX12_copy_43 rfl ?_
      refine g_iald dX12_copy_44 a97 rfl (by omega) ?_
      refine b_top h2 ?_
      have fin : BB G RX12 cX12_copy 4 (some .int) (d + 1) (QM G (Ret (some (.int (nI n))) (sh G σ (cpL μ (40 * j) q.2 L.told n)))) 63 [some (.ref (G.b0 + 77)), some (.int (nI j)), none, none] [.int (nI n)] (sh G σ μ) := by
        refine b_istore_n dX12_copy_63 (by decide) rfl ?_
        refine b_iconst (v := nI 0) dX12_copy_64 (by decide) ?_
        refine b_istore_n dX12_copy_65 (by decide) rfl ?_
        have lp : ∀ (m i : Nat), i + m = n → BB G RX12 cX12_copy 4 (some .int) (d + 1) (QM G (Ret (some (.int (nI n))) (sh G σ (cpL μ (40 * j) q.2 L.told n)))) 66 [some (.ref (G.b0 + 77)), some (.int (nI j)), some (.int (nI n)), some (.int (nI i))] [] (sh G σ (cpL μ (40 * j) q.2 L.told i)) := by
          intro m
          induction m with
          | zero =>
            intro i hi
            refine b_iload_n dX12_copy_66 rfl ?_
            refine b_iload_n dX12_copy_67 rfl ?_
            refine b_icmp_ge_t 106 dX12_copy_68 (by decide) (nI_le (by omega) (by omega)) ?_
            refine b_iload_n dX12_copy_106 rfl ?_
            exact b_iret dX12_copy_107 ⟨rfl, by rw [show i = n by omega]⟩
          | succ m ih =>
            intro i hi
            refine b_iload_n dX12_copy_66 rfl ?_
            refine b_iload_n dX12_copy_67 rfl ?_
            refine b_icmp_ge_f 106 dX12_copy_68 (by decide) (nI_ge (by omega) (by omega)) ?_
            refine b_aload_n dX12_copy_71 rfl ?_
            refine g_get dX12_copy_72 fX12_79 a77 rfl ?_
            refine b_bipush (v := nI 40) dX12_copy_75 (by decide) ?_
            refine b_iload_n dX12_copy_77 rfl ?_
            refine b_imulN dX12_copy_78 ?_
            refine b_iload_n dX12_copy_79 rfl ?_
            refine b_iaddN dX12_copy_80 ?_
            refine b_aload_n dX12_copy_81 rfl ?_
            refine g_get dX12_copy_82 fX12_13 a77 rfl ?_
            refine b_iconst (v := nI 5) dX12_copy_85 (by decide) ?_
            refine b_iload_n dX12_copy_86 rfl ?_
            refine b_iaddN dX12_copy_87 ?_
            refine g_iald dX12_copy_88 a78 rfl (by omega) ?_
            refine b_top (hM.told (by omega)) ?_
            refine b_i2l dX12_copy_89 ?_
            refine b_aload_n dX12_copy_90 rfl ?_
            refine g_get dX12_copy_91 fX12_73 a77 rfl ?_
            refine b_iload_n dX12_copy_94 rfl ?_
            refine g_iald dX12_copy_95 a96 rfl (by omega) ?_
            refine b_top h1 ?_
            refine b_callSr [.long ((L.told i).toInt64), .int (nI q.2)] dX12_copy_96 kX12_cut lX12_399 (m_cut h4) rfl rfl (Nat.le_of_ble_eq_true rfl) ?_
            refine g_last dX12_copy_99 a98 rfl (by omega) ?_
            refine b_iinc dX12_copy_100 rfl (nI_1 _) (by decide) rfl ?_
            refine b_goto 66 dX12_copy_103 (by decide) ?_
            have e : ptL (cpL μ (40 * j) q.2 L.told i) 98 (40 * j + i) (mCut q.2 (L.told i).toInt64) = cpL μ (40 * j) q.2 L.told (i + 1) := by
              funext p r
              unfold ptL cpL
              by_cases g1 : p = 98 ∧ r = 40 * j + i
              · rw [if_pos g1, if_pos (by omega), show r - 40 * j = i by omega]
              · rw [if_neg g1]
                by_cases g2 : p = 98 ∧ 40 * j ≤ r ∧ r < 40 * j + i
                · rw [if_pos g2, if_pos (by omega)]
                · rw [if_neg g2, if_neg (by omega)]
            refine b_heap ?_ (ih (i + 1) (by omega))
            rw [← e]
        have := lp n 0 (by omega)
        rw [show cpL μ (40 * j) q.2 L.told 0 = μ by funext p r; unfold cpL; rw [if_neg (by omega)]] at this
        exact this
      refine b_icmp_ge 57 dX12_copy_45 (by decide) (fun c3 => ?_) (fun c3 => ?_)
      · skip
        rw [nI_leI (by omega) (by omega)] at c3
        refine b_aload_n dX12_copy_57 rfl ?_
        refine g_get dX12_copy_58 fX12_76 a77 rfl ?_
        refine b_iload_n dX12_copy_61 rfl ?_
        refine g_iald dX12_copy_62 a97 rfl (by omega) ?_
        refine b_top h2 ?_
        have e : q.1 = n := by omega
        rw [e]
        exact fin
      · skip
        rw [nI_leI (by omega) (by omega)] at c3
        refine b_aload_n dX12_copy_48 rfl ?_
        refine g_get dX12_copy_49 fX12_13 a77 rfl ?_
        refine b_iconst (v := nI 3) dX12_copy_52 (by decide) ?_
        refine g_iald dX12_copy_53 a78 rfl (by omega) ?_
        refine b_top hM.cP ?_
        refine b_goto 63 dX12_copy_54 (by decide) ?_
        have e : L.P = n := by omega
        refine b_top (y := nI n) (by rw [e]) fin
  · skip
    rw [(bI_0 _).mp c1, if_neg (by simp), if_neg (by simp)]
    refine b_bipush (v := -2) dX12_copy_17 (by decide) ?_
    exact b_iret dX12_copy_19 ⟨rfl, rfl⟩
theorem wi_2 {x : Int32} : (decide ((0 : Int64) ≤ x.toInt64) && decide (x.toInt64 ≤ 1)) = inR x 2 := by
  rw [← inL_R (n := 2) (by omega), ← wi_L (n := 2) (by omega)]; rfl
def imM (σ : ST) (i : Nat) : ST := pt (cpy σ 78 0 78 (198 * (i + 1)) 198) 79 i (nI 1)
theorem m_X_image {G : GT} {d : Nat} {σ : ST} {μ : SL} {L : LD} {x : Int32} (hM : MV σ L) : Fn G (d + 1) mX12_image [.ref (G.b0 + 77), .int x] (sh G σ μ) (Ret (some (.int (if inR x 2 then nI 0 else -2))) (sh G (if inR x 2 then imM σ (ix x) else σ) μ)) := by
  refine fn_of (ls := [some (.ref (G.b0 + 77)), some (.int x), none]) (by decide +kernel) (Nat.le_of_ble_eq_true rfl) 1 rfl ?_
  refine b_aload_n dX12_image_0 rfl ?_
  refine b_iconst (v := nI 0) dX12_image_1 (by decide) ?_
  refine g_put dX12_image_2 wX12_1 a77 tfX12_0 (Nat.le_of_ble_eq_true rfl) rfl ?_
  refine b_sig hM.t0 ?_
  refine b_iload_n dX12_image_5 rfl ?_
  refine b_i2l dX12_image_6 ?_
  refine b_lconst (v := 0) dX12_image_7 (by decide) ?_
  refine b_lconst (v := 1) dX12_image_8 (by decide) ?_
  refine b_callSr [.long x.toInt64, .long 0, .long 1] dX12_image_9 kX12_within lX12_145 c_within rfl rfl (Nat.le_of_ble_eq_true rfl) ?_
  rw [wi_2]
  refine b_if_ne 18 dX12_image_12 (by decide) (fun c1 => ?_) (fun c1 => ?_)
  · skip
    have c2 := (bI_1 _).mp c1
    obtain ⟨j, hj, rfl⟩ := inR_of (by omega) c2
    have hjx := ix_nI (show j < 2 ^ 31 by omega)
    rw [c2, hjx]
    refine b_iconst (v := nI 0) dX12_image_18 (by decide) ?_
    refine b_istore_n dX12_image_19 (by decide) rfl ?_
    have lp : ∀ (m i : Nat), i + m = 198 → BB G RX12 cX12_image 3 (some .int) (d + 1) (QM G (Ret (some (.int (if true then nI 0 else -2))) (sh G (if true then imM σ j else σ) μ))) 20 [some (.ref (G.b0 + 77)), some (.int (nI j)), some (.int (nI i))] [] (sh G (cpy σ 78 0 78 (198 * (j + 1)) i) μ) := by
      intro m
      induction m with
      | zero =>
        intro i hi
        refine b_iload_n dX12_image_20 rfl ?_
        refine b_sipush (v := nI 198) dX12_image_21 (by decide) ?_
        refine b_icmp_ge_t 53 dX12_image_24 (by decide) (nI_le (by omega) (by omega)) ?_
        refine b_aload_n dX12_image_53 rfl ?_
        refine g_get dX12_image_54 fX12_17 a77 rfl ?_
        refine b_iload_n dX12_image_57 rfl ?_
        refine b_iconst (v := nI 1) dX12_image_58 (by decide) ?_
        refine g_zast dX12_image_59 a79 rfl (by omega) ?_
        refine b_iconst (v := nI 0) dX12_image_60 (by decide) ?_
        exact b_iret dX12_image_61 ⟨rfl, by rw [show i = 198 by omega]; rfl⟩
      | succ m ih =>
        intro i hi
        refine b_iload_n dX12_image_20 rfl ?_
        refine b_sipush (v := nI 198) dX12_image_21 (by decide) ?_
        refine b_icmp_ge_f 53 dX12_image_24 (by decide) (nI_ge (by omega) (by omega)) ?_
        refine b_aload_n dX12_image_27 rfl ?_
        refine g_get dX12_image_28 fX12_13 a77 rfl ?_
        refine b_sipush (v := nI 198) dX12_image_31 (by decide) ?_
        refine b_iload_n dX12_image_34 rfl ?_
        refine b_iconst (v := nI 1) dX12_image_35 (by decide) ?_
        refine b_iaddN dX12_image_36 ?_
        refine b_imulN dX12_image_37 ?_
        refine b_iload_n dX12_image_38 rfl ?_
        refine b_iaddN dX12_image_39 ?_
        refine b_aload_n dX12_image_40 rfl ?_
        refine g_get dX12_image_41 fX12_13 a77 rfl ?_
        refine b_iload_n dX12_image_44 rfl ?_
        refine g_iald dX12_image_45 a78 rfl (by omega) ?_
        refine g_iast dX12_image_46 a78 rfl (by omega) ?_
        refine b_iinc dX12_image_47 rfl (nI_1 _) (by decide) rfl ?_
        refine b_goto 20 dX12_image_50 (by decide) ?_
        refine b_sig ?_ (ih (i + 1) (by omega))
        exact cpy_s (σ := σ) (a0 := 78) (sp := 0) (a := 78) (dp := 198 * (j + 1)) (n := i) (x := cpy σ 78 0 78 (198 * (j + 1)) i 78 i) (by rw [cpy_at, if_neg (by omega), Nat.zero_add])
    have := lp 198 0 (by omega)
    rw [cpy_0] at this
    exact this
  · skip
    rw [(bI_0 _).mp c1]
    refine b_bipush (v := -2) dX12_image_15 (by decide) ?_
    exact b_iret dX12_image_17 ⟨rfl, rfl⟩
def reM (σ : ST) (i : Nat) : ST := pt (cpy σ 78 (198 * (i + 1)) 78 0 198) 78 113 (nI 0)
theorem m_X_restore {G : GT} {d : Nat} {σ : ST} {μ : SL} {L : LD} {x : Int32} (hM : MV σ L) : Fn G (d + 1) mX12_restore [.ref (G.b0 + 77), .int x] (sh G σ μ) (Ret (some (.int (if inR x 2 then (if σ 79 (ix x) = 0 then -5 else nI 0) else -2))) (sh G (if inR x 2 then (if σ 79 (ix x) = 0 then σ else reM σ (ix x)) else σ) μ)) := by
  refine fn_of (ls := [some (.ref (G.b0 + 77)), some (.int x), none]) (by decide +kernel) (Nat.le_of_ble_eq_true rfl) 1 rfl ?_
  refine b_aload_n dX12_restore_0 rfl ?_
  refine b_iconst (v := nI 0) dX12_restore_1 (by decide) ?_
  refine g_put dX12_restore_2 wX12_1 a77 tfX12_0 (Nat.le_of_ble_eq_true rfl) rfl ?_
  refine b_sig hM.t0 ?_
  refine b_iload_n dX12_restore_5 rfl ?_
  refine b_i2l dX12_restore_6 ?_
  refine b_lconst (v := 0) dX12_restore_7 (by decide) ?_
  refine b_lconst (v := 1) dX12_restore_8 (by decide) ?_
  refine b_callSr [.long x.toInt64, .long 0, .long 1] dX12_restore_9 kX12_within lX12_145 c_within rfl rfl (Nat.le_of_ble_eq_true rfl) ?_
  rw [wi_2]
  refine b_if_ne 18 dX12_restore_12 (by decide) (fun c1 => ?_) (fun c1 => ?_)
  · skip
    have c2 := (bI_1 _).mp c1
    obtain ⟨j, hj, rfl⟩ := inR_of (by omega) c2
    have hjx := ix_nI (show j < 2 ^ 31 by omega)
    rw [c2, hjx, if_pos rfl, if_pos rfl]
    refine b_aload_n dX12_restore_18 rfl ?_
    refine g_get dX12_restore_19 fX12_17 a77 rfl ?_
    refine b_iload_n dX12_restore_22 rfl ?_
    refine g_zald dX12_restore_23 a79 rfl (by omega) ?_
    refine b_if_ne 30 dX12_restore_24 (by decide) (fun c3 => ?_) (fun c3 => ?_)
    · skip
      have c4 : ¬ σ 79 j = 0 := c3
      rw [if_neg c4, if_neg c4]
      refine b_iconst (v := nI 0) dX12_restore_30 (by decide) ?_
      refine b_istore_n dX12_restore_31 (by decide) rfl ?_
      have lp : ∀ (m i : Nat), i + m = 198 → BB G RX12 cX12_restore 3 (some .int) (d + 1) (QM G (Ret (some (.int (nI 0))) (sh G (reM σ j) μ))) 32 [some (.ref (G.b0 + 77)), some (.int (nI j)), some (.int (nI i))] [] (sh G (cpy σ 78 (198 * (j + 1)) 78 0 i) μ) := by
        intro m
        induction m with
        | zero =>
          intro i hi
          refine b_iload_n dX12_restore_32 rfl ?_
          refine b_sipush (v := nI 198) dX12_restore_33 (by decide) ?_
          refine b_icmp_ge_t 65 dX12_restore_36 (by decide) (nI_le (by omega) (by omega)) ?_
          refine b_aload_n dX12_restore_65 rfl ?_
          refine g_get dX12_restore_66 fX12_13 a77 rfl ?_
          refine b_bipush (v := nI 113) dX12_restore_69 (by decide) ?_
          refine b_iconst (v := nI 0) dX12_restore_71 (by decide) ?_
          refine g_iast dX12_restore_72 a78 rfl (by omega) ?_
          refine b_iconst (v := nI 0) dX12_restore_73 (by decide) ?_
          exact b_iret dX12_restore_74 ⟨rfl, by rw [show i = 198 by omega]; rfl⟩
        | succ m ih =>
          intro i hi
          refine b_iload_n dX12_restore_32 rfl ?_
          refine b_sipush (v := nI 198) dX12_restore_33 (by decide) ?_
          refine b_icmp_ge_f 65 dX12_restore_36 (by decide) (nI_ge (by omega) (by omega)) ?_
          refine b_aload_n dX12_restore_39 rfl ?_
          refine g_get dX12_restore_40 fX12_13 a77 rfl ?_
          refine b_iload_n dX12_restore_43 rfl ?_
          refine b_aload_n dX12_restore_44 rfl ?_
          refine g_get dX12_restore_45 fX12_13 a77 rfl ?_
          refine b_sipush (v := nI 198) dX12_restore_48 (by decide) ?_
          refine b_iload_n dX12_restore_51 rfl ?_
          refine b_iconst (v := nI 1) dX12_restore_52 (by decide) ?_
          refine b_iaddN dX12_restore_53 ?_
          refine b_imulN dX12_restore_54 ?_
          refine b_iload_n dX12_restore_55 rfl ?_
          refine b_iaddN dX12_restore_56 ?_
          refine g_iald dX12_restore_57 a78 rfl (by omega) ?_
          refine g_iast dX12_restore_58 a78 rfl (by omega) ?_
          refine b_iinc dX12_restore_59 rfl (nI_1 _) (by decide) rfl ?_
          refine b_goto 32 dX12_restore_62 (by decide) ?_
          refine b_sig ?_ (ih (i + 1) (by omega))
          have := cpy_s (σ := σ) (a0 := 78) (sp := 198 * (j + 1)) (a := 78) (dp := 0) (n := i) (x := cpy σ 78 (198 * (j + 1)) 78 0 i 78 (198 * (j + 1) + i)) (by rw [cpy_at, if_neg (by omega)])
          rw [Nat.zero_add] at this
          exact this
      have := lp 198 0 (by omega)
      rw [cpy_0] at this
      exact this
    · skip
      have c4 : σ 79 j = 0 := c3
      rw [if_pos c4, if_pos c4]
      refine b_bipush (v := -5) dX12_restore_27 (by decide) ?_
      exact b_iret dX12_restore_29 ⟨rfl, rfl⟩
  · skip
    rw [(bI_0 _).mp c1]
    refine b_bipush (v := -2) dX12_restore_15 (by decide) ?_
    exact b_iret dX12_restore_17 ⟨rfl, rfl⟩
theorem m_X_fault {G : GT} {d : Nat} {σ : ST} {μ : SL} {L : LD} {x : Int32} (hM : MV σ L) : Fn G d mX12_fault [.ref (G.b0 + 77), .int x] (sh G σ μ) (Ret (some (.int (if x = 0 then σ 77 16 else if x = nI 1 then σ 77 17 else -1))) (sh G σ μ)) := by
  refine fn_of (ls := [some (.ref (G.b0 + 77)), some (.int x)]) (by decide +kernel) (Nat.le_of_ble_eq_true rfl) 0 rfl ?_
  refine b_aload_n dX12_fault_0 rfl ?_
  refine b_iconst (v := nI 0) dX12_fault_1 (by decide) ?_
  refine g_put dX12_fault_2 wX12_1 a77 tfX12_0 (Nat.le_of_ble_eq_true rfl) rfl ?_
  refine b_sig hM.t0 ?_
  refine b_iload_n dX12_fault_5 rfl ?_
  refine b_if_ne 16 dX12_fault_6 (by decide) (fun c1 => ?_) (fun c1 => ?_)
  · skip
    refine b_iload_n dX12_fault_16 rfl ?_
    refine b_iconst (v := nI 1) dX12_fault_17 (by decide) ?_
    refine b_icmp_ne 28 dX12_fault_18 (by decide) (fun c2 => ?_) (fun c2 => ?_)
    · skip
      refine b_iconst (v := -1) dX12_fault_28 (by decide) ?_
      exact b_iret dX12_fault_29 ⟨by rw [if_neg c1, if_neg c2], rfl⟩
    · skip
      refine b_aload_n dX12_fault_21 rfl ?_
      refine g_get dX12_fault_22 fX12_36 a77 rfl ?_
      refine b_goto 29 dX12_fault_25 (by decide) ?_
      exact b_iret dX12_fault_29 ⟨by rw [if_neg c1, if_pos c2], rfl⟩
  · skip
    refine b_aload_n dX12_fault_9 rfl ?_
    refine g_get dX12_fault_10 fX12_215 a77 rfl ?_
    refine b_goto 29 dX12_fault_13 (by decide) ?_
    exact b_iret dX12_fault_29 ⟨by rw [if_pos c1], rfl⟩
theorem m_roadMany {G : GT} {d : Nat} {σ : ST} {μ : SL} {L : LD} (hM : MV σ L) : Fn G (d + 1) mX12_roadMany [.ref (G.b0 + 77)] (sh G σ μ) (Ret (some (.int (nI (mRoads L.road L.P / 2)))) (sh G σ μ)) := by
  have hb := hM.b
  refine fn_of (ls := [some (.ref (G.b0 + 77)), none, none]) (by decide +kernel) (Nat.le_of_ble_eq_true rfl) 2 rfl ?_
  refine b_iconst (v := nI 0) dX12_roadMany_0 (by decide) ?_
  refine b_istore_n dX12_roadMany_1 (by decide) rfl ?_
  refine b_iconst (v := nI 0) dX12_roadMany_2 (by decide) ?_
  refine b_istore_n dX12_roadMany_3 (by decide) rfl ?_
  have lp : ∀ (n i : Nat), i + n = L.P → BB G RX12 cX12_roadMany 3 (some .int) (d + 1) (QM G (Ret (some (.int (nI (mRoads L.road L.P / 2)))) (sh G σ μ))) 4 [some (.ref (G.b0 + 77)), some (.int (nI (mRoads L.road i))), some (.int (nI i))] [] (sh G σ μ) := by
    intro n
    induction n with
    | zero =>
      intro i hi
      have hr := mRoads_le L.road i
      refine b_iload_n dX12_roadMany_4 rfl ?_
      refine b_aload_n dX12_roadMany_5 rfl ?_
      refine g_get dX12_roadMany_6 fX12_13 a77 rfl ?_
      refine b_iconst (v := nI 3) dX12_roadMany_9 (by decide) ?_
      refine g_iald dX12_roadMany_10 a78 rfl (by omega) ?_
      refine b_top hM.cP ?_
      refine b_icmp_ge_t 35 dX12_roadMany_11 (by decide) (nI_le (by omega) (by omega)) ?_
      refine b_iload_n dX12_roadMany_35 rfl ?_
      refine b_iconst (v := nI 2) dX12_roadMany_36 (by decide) ?_
      refine b_idiv dX12_roadMany_37 (nI_ne0 (by omega) (by omega)) ?_
      refine b_top (y := nI ((mRoads L.road i) / 2)) (pk_div (by omega) (by omega) (by omega)) ?_
      exact b_iret dX12_roadMany_38 ⟨by rw [show i = L.P by omega], rfl⟩
    | succ n ih =>
      intro i hi
      refine b_iload_n dX12_roadMany_4 rfl ?_
      refine b_aload_n dX12_roadMany_5 rfl ?_
      refine g_get dX12_roadMany_6 fX12_13 a77 rfl ?_
      refine b_iconst (v := nI 3) dX12_roadMany_9 (by decide) ?_
      refine g_iald dX12_roadMany_10 a78 rfl (by omega) ?_
      refine b_top hM.cP ?_
      refine b_icmp_ge_f 35 dX12_roadMany_11 (by decide) (nI_ge (by omega) (by omega)) ?_
      refine b_iload_n dX12_roadMany_14 rfl ?_
      refine b_aload_n dX12_roadMany_15 rfl ?_
      refine g_get dX12_roadMany_16 fX12_13 a77 rfl ?_
      refine b_bipush (v := nI 91) dX12_roadMany_19 (by decide) ?_
      refine b_iload_n dX12_roadMany_21 rfl ?_
      refine b_iaddN dX12_roadMany_22 ?_
      refine g_iald dX12_roadMany_23 a78 rfl (by omega) ?_
      refine b_top (hM.road (by omega)) ?_
      refine b_callSr [.int (L.road i)] dX12_roadMany_24 kX12_bitsOf lX12_266 m_bitsOf rfl rfl (Nat.le_of_ble_eq_true rfl) ?_
      refine b_iaddN dX12_roadMany_27 ?_
      refine b_istore_n dX12_roadMany_28 (by decide) rfl ?_
      refine b_iinc dX12_roadMany_29 rfl (nI_1 _) (by decide) rfl ?_
      refine b_goto 4 dX12_roadMany_32 (by decide) ?_
      exact ih (i + 1) (by omega)
  exact lp L.P 0 (by omega)
theorem m_X_count {G : GT} {d : Nat} {σ : ST} {μ : SL} {L : LD} {sz T : Nat} {ln x : Int32} (hM : MV σ L) (hz : σ 78 113 = nI sz) (hT : σ 77 8 = nI T) (hl : σ 78 0 = ln) : Fn G (d + 2) mX12_count [.ref (G.b0 + 77), .int x] (sh G σ μ) (Ret (some (.int (oCount L ln sz T x))) (sh G σ μ)) := by
  have hb := hM.b
  refine fn_of (ls := [some (.ref (G.b0 + 77)), some (.int x)]) (by decide +kernel) (Nat.le_of_ble_eq_true rfl) 0 rfl ?_
  refine b_aload_n dX12_count_0 rfl ?_
  refine b_iconst (v := nI 0) dX12_count_1 (by decide) ?_
  refine g_put dX12_count_2 wX12_1 a77 tfX12_0 (Nat.le_of_ble_eq_true rfl) rfl ?_
  refine b_sig hM.t0 ?_
  refine b_iload_n dX12_count_5 rfl ?_
  by_cases c3 : inR x 10 = true
  · obtain ⟨k, hk, rfl⟩ := inR_of (by omega) c3
    have hkx := ix_nI (show k < 2 ^ 31 by omega)
    have hmi : (nI k).toInt = (k : Int) := nI_toInt (by omega)
    rcases (show k = 0 ∨ k = 1 ∨ k = 2 ∨ k = 3 ∨ k = 4 ∨ k = 5 ∨ k = 6 ∨ k = 7 ∨ k = 8 ∨ k = 9 by omega) with rfl | rfl | rfl | rfl | rfl | rfl | rfl | rfl | rfl | rfl
    · refine b_tableIn 60 dX12_count_6 (by rw [hmi]; decide) (by rw [hmi]; decide) (by rw [hmi]; rfl) (by decide) ?_
      refine b_aload_n dX12_count_60 rfl ?_
      refine g_get dX12_count_61 fX12_13 a77 rfl ?_
      refine b_iconst (v := nI 1) dX12_count_64 (by decide) ?_
      refine g_iald dX12_count_65 a78 rfl (by omega) ?_
      refine b_top hM.cW ?_
      exact b_iret dX12_count_66 ⟨by simp [oCount, c3, hkx], rfl⟩
    · refine b_tableIn 67 dX12_count_6 (by rw [hmi]; decide) (by rw [hmi]; decide) (by rw [hmi]; rfl) (by decide) ?_
      refine b_aload_n dX12_count_67 rfl ?_
      refine g_get dX12_count_68 fX12_13 a77 rfl ?_
      refine b_iconst (v := nI 2) dX12_count_71 (by decide) ?_
      refine g_iald dX12_count_72 a78 rfl (by omega) ?_
      refine b_top hM.cF ?_
      exact b_iret dX12_count_73 ⟨by simp [oCount, c3, hkx], rfl⟩
    · refine b_tableIn 74 dX12_count_6 (by rw [hmi]; decide) (by rw [hmi]; decide) (by rw [hmi]; rfl) (by decide) ?_
      refine b_aload_n dX12_count_74 rfl ?_
      refine g_get dX12_count_75 fX12_13 a77 rfl ?_
      refine b_iconst (v := nI 3) dX12_count_78 (by decide) ?_
      refine g_iald dX12_count_79 a78 rfl (by omega) ?_
      refine b_top hM.cP ?_
      exact b_iret dX12_count_80 ⟨by simp [oCount, c3, hkx], rfl⟩
    · refine b_tableIn 81 dX12_count_6 (by rw [hmi]; decide) (by rw [hmi]; decide) (by rw [hmi]; rfl) (by decide) ?_
      refine b_aload_n dX12_count_81 rfl ?_
      refine g_get dX12_count_82 fX12_13 a77 rfl ?_
      refine b_iconst (v := nI 1) dX12_count_85 (by decide) ?_
      refine g_iald dX12_count_86 a78 rfl (by omega) ?_
      refine b_top hM.cW ?_
      refine b_if_ne 94 dX12_count_87 (by decide) (fun c4 => ?_) (fun c4 => ?_)
      · skip
        have h0 : ¬ L.W = 0 := fun z => c4 (by rw [z]; rfl)
        refine b_aload_n dX12_count_94 rfl ?_
        refine g_get dX12_count_95 fX12_13 a77 rfl ?_
        refine b_iconst (v := nI 4) dX12_count_98 (by decide) ?_
        refine g_iald dX12_count_99 a78 rfl (by omega) ?_
        refine b_top hM.ct ?_
        exact b_iret dX12_count_100 ⟨by simp [oCount, c3, hkx, h0], rfl⟩
      · skip
        have h0 : L.W = 0 := nI_z (by omega) c4
        refine b_iconst (v := -1) dX12_count_90 (by decide) ?_
        refine b_goto 100 dX12_count_91 (by decide) ?_
        exact b_iret dX12_count_100 ⟨by simp [oCount, c3, hkx, h0], rfl⟩
    · refine b_tableIn 101 dX12_count_6 (by rw [hmi]; decide) (by rw [hmi]; decide) (by rw [hmi]; rfl) (by decide) ?_
      refine b_aload_n dX12_count_101 rfl ?_
      refine g_get dX12_count_102 fX12_13 a77 rfl ?_
      refine b_bipush (v := nI 113) dX12_count_105 (by decide) ?_
      refine g_iald dX12_count_107 a78 rfl (by omega) ?_
      refine b_top hz ?_
      exact b_iret dX12_count_108 ⟨by simp [oCount, c3, hkx], rfl⟩
    · refine b_tableIn 109 dX12_count_6 (by rw [hmi]; decide) (by rw [hmi]; decide) (by rw [hmi]; rfl) (by decide) ?_
      refine b_aload_n dX12_count_109 rfl ?_
      refine g_callV [] dX12_count_110 kX12_roadMany lX12_403 a77 rfl rfl (m_roadMany hM) rfl rfl (Nat.le_of_ble_eq_true rfl) ?_
      exact b_iret dX12_count_113 ⟨by simp [oCount, c3, hkx], rfl⟩
    · refine b_tableIn 114 dX12_count_6 (by rw [hmi]; decide) (by rw [hmi]; decide) (by rw [hmi]; rfl) (by decide) ?_
      refine b_aload_n dX12_count_114 rfl ?_
      refine g_callV [] dX12_count_115 kX12_guilty lX12_254 a77 rfl rfl (m_guilty hM) rfl rfl (Nat.le_of_ble_eq_true rfl) ?_
      refine b_callSr [.int L.gl] dX12_count_118 kX12_bitsOf lX12_266 m_bitsOf rfl rfl (Nat.le_of_ble_eq_true rfl) ?_
      exact b_iret dX12_count_121 ⟨by simp [oCount, c3, hkx], rfl⟩
    · refine b_tableIn 122 dX12_count_6 (by rw [hmi]; decide) (by rw [hmi]; decide) (by rw [hmi]; rfl) (by decide) ?_
      refine b_aload_n dX12_count_122 rfl ?_
      refine b_aload_n dX12_count_123 rfl ?_
      refine g_callV [] dX12_count_124 kX12_worlds lX12_226 a77 rfl rfl (m_worlds hM) rfl rfl (Nat.le_of_ble_eq_true rfl) ?_
      refine g_callV [.int (mAll L.W)] dX12_count_127 kX12_weightOf lX12_321 a77 rfl rfl (m_weightOf hM) rfl rfl (Nat.le_of_ble_eq_true rfl) ?_
      exact b_iret dX12_count_130 ⟨by simp [oCount, c3, hkx], rfl⟩
    · refine b_tableIn 131 dX12_count_6 (by rw [hmi]; decide) (by rw [hmi]; decide) (by rw [hmi]; rfl) (by decide) ?_
      refine b_aload_n dX12_count_131 rfl ?_
      refine g_geti (x := nI T) dX12_count_132 fX12_83 a77 rfl hT ?_
      exact b_iret dX12_count_135 ⟨by simp [oCount, c3, hkx], rfl⟩
    · refine b_tableIn 136 dX12_count_6 (by rw [hmi]; decide) (by rw [hmi]; decide) (by rw [hmi]; rfl) (by decide) ?_
      refine b_aload_n dX12_count_136 rfl ?_
      refine g_get dX12_count_137 fX12_13 a77 rfl ?_
      refine b_iconst (v := nI 0) dX12_count_140 (by decide) ?_
      refine g_iald dX12_count_141 a78 rfl (by omega) ?_
      refine b_top hl ?_
      exact b_iret dX12_count_142 ⟨by simp [oCount, c3, hkx], rfl⟩
  · have c4 : inR x 10 = false := by simpa using c3
    have h5 := inR_out (by omega) c4
    refine b_tableOut 143 dX12_count_6 (by omega) (by decide) ?_
    refine b_iconst (v := -1) dX12_count_143 (by decide) ?_
    exact b_iret dX12_count_144 ⟨by simp [oCount, c4], rfl⟩

