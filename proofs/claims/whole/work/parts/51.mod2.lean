/-! ===== the reference: reads that say what the class's say ===== -/
theorem cnt_split (x g : Int32) : ∀ n, n ≤ 32 → cnt (x &&& g) n + cnt (x &&& (g ^^^ (-1))) n = cnt x n
  | 0, _ => rfl
  | n + 1, h => by
    have ih := cnt_split x g n (by omega)
    unfold cnt
    rw [b_and, b_and, b_xor, b_m1 n (by omega)]
    generalize cnt (x &&& g) n = c1 at ih ⊢
    generalize cnt (x &&& (g ^^^ (-1))) n = c2 at ih ⊢
    cases bt x n <;> cases bt g n <;> simp <;> omega
theorem sub_back {a b : Nat} (h : a ≤ b) : nI a + (nI b - nI a) = nI b := by rw [nI_sub h, nI_add, show a + (b - a) = b by omega]
theorem m_weightOf {G : GT} {d : Nat} {σ : ST} {μ : SL} {L : LD} {q : Int32} (hM : MV σ L) : Fn G (d + 1) mX12_weightOf [.ref (G.b0 + 77), .int q] (sh G σ μ) (Ret (some (.int (mWt L.wt q L.W))) (sh G σ μ)) := by
  have hb := hM.b
  refine fn_of (ls := [some (.ref (G.b0 + 77)), some (.int q), none, none]) (by decide +kernel) (Nat.le_of_ble_eq_true rfl) 2 rfl ?_
  refine b_iconst (v := nI 0) dX12_weightOf_0 (by decide) ?_
  refine b_istore_n dX12_weightOf_1 (by decide) rfl ?_
  refine b_iconst (v := nI 0) dX12_weightOf_2 (by decide) ?_
  refine b_istore_n dX12_weightOf_3 (by decide) rfl ?_
  have lp : ∀ (n i : Nat) (x : Int32), i + n = L.W → x = mWt L.wt q i → BB G RX12 cX12_weightOf 4 (some .int) (d + 1) (QM G (Ret (some (.int (mWt L.wt q L.W))) (sh G σ μ))) 4 [some (.ref (G.b0 + 77)), some (.int q), some (.int x), some (.int (nI i))] [] (sh G σ μ) := by
    intro n
    induction n with
    | zero =>
      intro i x hi hx
      refine b_iload_n dX12_weightOf_4 rfl ?_
      refine b_aload_n dX12_weightOf_5 rfl ?_
      refine g_get dX12_weightOf_6 fX12_13 a77 rfl ?_
      refine b_iconst (v := nI 1) dX12_weightOf_9 (by decide) ?_
      refine g_iald dX12_weightOf_10 a78 rfl (by omega) ?_
      refine b_top hM.cW ?_
      refine b_icmp_ge_t 45 dX12_weightOf_11 (by decide) (nI_le (by omega) (by omega)) ?_
      refine b_iload_n dX12_weightOf_45 rfl ?_
      exact b_iret dX12_weightOf_46 ⟨by rw [hx, show i = L.W by omega], rfl⟩
    | succ n ih =>
      intro i x hi hx
      refine b_iload_n dX12_weightOf_4 rfl ?_
      refine b_aload_n dX12_weightOf_5 rfl ?_
      refine g_get dX12_weightOf_6 fX12_13 a77 rfl ?_
      refine b_iconst (v := nI 1) dX12_weightOf_9 (by decide) ?_
      refine g_iald dX12_weightOf_10 a78 rfl (by omega) ?_
      refine b_top hM.cW ?_
      refine b_icmp_ge_f 45 dX12_weightOf_11 (by decide) (nI_ge (by omega) (by omega)) ?_
      refine b_iload_n dX12_weightOf_14 rfl ?_
      refine b_iload_n dX12_weightOf_15 rfl ?_
      refine b_i2l dX12_weightOf_16 ?_
      refine b_iload_n dX12_weightOf_17 rfl ?_
      refine b_callSr [.long q.toInt64, .int (nI i)] dX12_weightOf_18 kX12_isIn lX12_222 (c_isIn (by omega)) rfl rfl (Nat.le_of_ble_eq_true rfl) ?_
      refine b_if_eq 36 dX12_weightOf_21 (by decide) (fun c1 => ?_) (fun c1 => ?_)
      · skip
        refine b_iconst (v := nI 0) dX12_weightOf_36 (by decide) ?_
        refine b_iadd dX12_weightOf_37 ?_
        refine b_istore_n dX12_weightOf_38 (by decide) rfl ?_
        refine b_iinc dX12_weightOf_39 rfl (nI_1 _) (by decide) rfl ?_
        refine b_goto 4 dX12_weightOf_42 (by decide) ?_
        exact ih (i + 1) _ (by omega) (by simp [mWt, (bI_0 _).mp c1, hx, nI_0])
      · skip
        refine b_aload_n dX12_weightOf_24 rfl ?_
        refine g_get dX12_weightOf_25 fX12_13 a77 rfl ?_
        refine b_bipush (v := nI 59) dX12_weightOf_28 (by decide) ?_
        refine b_iload_n dX12_weightOf_30 rfl ?_
        refine b_iaddN dX12_weightOf_31 ?_
        refine g_iald dX12_weightOf_32 a78 rfl (by omega) ?_
        refine b_top (hM.wt (by omega)) ?_
        refine b_goto 37 dX12_weightOf_33 (by decide) ?_
        refine b_iadd dX12_weightOf_37 ?_
        refine b_istore_n dX12_weightOf_38 (by decide) rfl ?_
        refine b_iinc dX12_weightOf_39 rfl (nI_1 _) (by decide) rfl ?_
        refine b_goto 4 dX12_weightOf_42 (by decide) ?_
        exact ih (i + 1) _ (by omega) (by simp [mWt, (bI_1 _).mp c1, hx])
  exact lp L.W 0 _ (by omega) rfl
def amq (L : LD) (m : Nat) (q : Int32) : Int32 := mAmt L.hold L.wt L.gl L.W L.F m q
theorem m_measureOf {G : GT} {d : Nat} {σ : ST} {μ : SL} {L : LD} {m : Nat} {q : Int32} (hM : MV σ L) (hm : m < 4) : Fn G (d + 2) mX12_measureOf [.ref (G.b0 + 77), .int (nI m), .int q] (sh G σ μ) (Ret (some (.int (amq L m q))) (sh G σ μ)) := by
  have hb := hM.b
  have hc := cnt_split q L.gl 16 (by omega)
  refine fn_of (ls := [some (.ref (G.b0 + 77)), some (.int (nI m)), some (.int q), none, none]) (by decide +kernel) (Nat.le_of_ble_eq_true rfl) 2 rfl ?_
  refine b_iload_n dX12_measureOf_0 rfl ?_
  refine b_aload_n dX12_measureOf_1 rfl ?_
  refine g_callV [] dX12_measureOf_2 kX12_guilty lX12_254 a77 rfl rfl (m_guilty hM) rfl rfl (Nat.le_of_ble_eq_true rfl) ?_
  refine b_iand dX12_measureOf_5 ?_
  refine b_callSr [.int (q &&& L.gl)] dX12_measureOf_6 kX12_bitsOf lX12_266 m_bitsOf rfl rfl (Nat.le_of_ble_eq_true rfl) ?_
  refine b_istore_n dX12_measureOf_9 (by decide) rfl ?_
  refine b_iload_n dX12_measureOf_10 rfl ?_
  refine b_callSr [.int q] dX12_measureOf_11 kX12_bitsOf lX12_266 m_bitsOf rfl rfl (Nat.le_of_ble_eq_true rfl) ?_
  refine b_iload_n dX12_measureOf_14 rfl ?_
  refine b_isub dX12_measureOf_15 ?_
  refine b_istore dX12_measureOf_16 (by decide) rfl ?_
  refine b_iload_n dX12_measureOf_18 rfl ?_
  rcases (show m = 0 ∨ m = 1 ∨ m = 2 ∨ m = 3 by omega) with rfl | rfl | rfl | rfl
  · refine b_if_ne_f 29 dX12_measureOf_19 (by decide) (by decide) ?_
    refine b_iload_n dX12_measureOf_22 rfl ?_
    refine b_iload dX12_measureOf_23 rfl ?_
    refine b_iadd dX12_measureOf_25 ?_
    refine b_goto 77 dX12_measureOf_26 (by decide) ?_
    exact b_iret dX12_measureOf_77 ⟨by rw [sub_back (by omega)]; rfl, rfl⟩
  · skip
    refine b_if_ne_t 29 dX12_measureOf_19 (by decide) (by decide) ?_
    refine b_iload_n dX12_measureOf_29 rfl ?_
    refine b_iconst (v := nI 1) dX12_measureOf_30 (by decide) ?_
    refine b_icmp_ne_f 49 dX12_measureOf_31 (by decide) (by decide) ?_
    refine b_iload_n dX12_measureOf_34 rfl ?_
    refine b_iload dX12_measureOf_35 rfl ?_
    rw [nI_sub (show cnt (q &&& L.gl) 16 ≤ cnt q 16 by omega), show cnt q 16 - cnt (q &&& L.gl) 16 = cnt (q &&& (L.gl ^^^ (-1))) 16 by omega]
    have e : amq L 1 q = mMin (nI (cnt (q &&& L.gl) 16)) (nI (cnt (q &&& (L.gl ^^^ (-1))) 16)) := rfl
    have l1 := cnt_le (q &&& L.gl) 16
    have l2 := cnt_le (q &&& (L.gl ^^^ (-1))) 16
    rw [mMin_nI (by omega) (by omega)] at e
    refine b_icmp_ge 44 dX12_measureOf_37 (by decide) (fun c1 => ?_) (fun c1 => ?_)
    · skip
      rw [nI_leI (by omega) (by omega)] at c1
      refine b_iload dX12_measureOf_44 rfl ?_
      refine b_goto 77 dX12_measureOf_46 (by decide) ?_
      exact b_iret dX12_measureOf_77 ⟨by rw [e, Nat.min_eq_right c1], rfl⟩
    · skip
      rw [nI_leI (by omega) (by omega)] at c1
      refine b_iload_n dX12_measureOf_40 rfl ?_
      refine b_goto 77 dX12_measureOf_41 (by decide) ?_
      exact b_iret dX12_measureOf_77 ⟨by rw [e, Nat.min_eq_left (by omega)], rfl⟩
  · skip
    refine b_if_ne_t 29 dX12_measureOf_19 (by decide) (by decide) ?_
    refine b_iload_n dX12_measureOf_29 rfl ?_
    refine b_iconst (v := nI 1) dX12_measureOf_30 (by decide) ?_
    refine b_icmp_ne_t 49 dX12_measureOf_31 (by decide) (by decide) ?_
    refine b_iload_n dX12_measureOf_49 rfl ?_
    refine b_iconst (v := nI 2) dX12_measureOf_50 (by decide) ?_
    refine b_icmp_ne_f 62 dX12_measureOf_51 (by decide) (by decide) ?_
    refine b_aload_n dX12_measureOf_54 rfl ?_
    refine b_iload_n dX12_measureOf_55 rfl ?_
    refine g_callV [.int q] dX12_measureOf_56 kX12_weightOf lX12_321 a77 rfl rfl (m_weightOf hM) rfl rfl (Nat.le_of_ble_eq_true rfl) ?_
    refine b_goto 77 dX12_measureOf_59 (by decide) ?_
    exact b_iret dX12_measureOf_77 ⟨rfl, rfl⟩
  · skip
    refine b_if_ne_t 29 dX12_measureOf_19 (by decide) (by decide) ?_
    refine b_iload_n dX12_measureOf_29 rfl ?_
    refine b_iconst (v := nI 1) dX12_measureOf_30 (by decide) ?_
    refine b_icmp_ne_t 49 dX12_measureOf_31 (by decide) (by decide) ?_
    refine b_iload_n dX12_measureOf_49 rfl ?_
    refine b_iconst (v := nI 2) dX12_measureOf_50 (by decide) ?_
    refine b_icmp_ne_t 62 dX12_measureOf_51 (by decide) (by decide) ?_
    refine b_aload_n dX12_measureOf_62 rfl ?_
    refine g_get dX12_measureOf_63 fX12_13 a77 rfl ?_
    refine b_iconst (v := nI 2) dX12_measureOf_66 (by decide) ?_
    refine g_iald dX12_measureOf_67 a78 rfl (by omega) ?_
    refine b_top hM.cF ?_
    refine b_aload_n dX12_measureOf_68 rfl ?_
    refine b_iload_n dX12_measureOf_69 rfl ?_
    refine g_callV [.int q] dX12_measureOf_70 kX12_knownIn lX12_251 a77 rfl rfl (m_knownIn hM) rfl rfl (Nat.le_of_ble_eq_true rfl) ?_
    refine b_callSr [.int (mKnown L.hold q L.F)] dX12_measureOf_73 kX12_bitsOf lX12_266 m_bitsOf rfl rfl (Nat.le_of_ble_eq_true rfl) ?_
    refine b_isub dX12_measureOf_76 ?_
    exact b_iret dX12_measureOf_77 ⟨rfl, rfl⟩
theorem m_measureNow {G : GT} {d : Nat} {σ : ST} {μ : SL} {L : LD} {p m : Nat} (hM : MV σ L) (hm : m < 4) (hp : p < L.P) : Fn G (d + 3) mX12_measureNow [.ref (G.b0 + 77), .int (nI p), .int (nI m)] (sh G σ μ) (Ret (some (.int (amt L m p L.t))) (sh G σ μ)) := by
  refine fn_of (ls := [some (.ref (G.b0 + 77)), some (.int (nI p)), some (.int (nI m))]) (by decide +kernel) (Nat.le_of_ble_eq_true rfl) 0 rfl ?_
  refine b_aload_n dX12_measureNow_0 rfl ?_
  refine b_iload_n dX12_measureNow_1 rfl ?_
  refine b_aload_n dX12_measureNow_2 rfl ?_
  refine b_iload_n dX12_measureNow_3 rfl ?_
  refine g_callV [.int (nI p)] dX12_measureNow_4 kX12_cellNow lX12_248 a77 rfl rfl (m_cellNow hM hp) rfl rfl (Nat.le_of_ble_eq_true rfl) ?_
  refine g_callV [.int (nI m), .int (poss L p L.t)] dX12_measureNow_7 kX12_measureOf lX12_324 a77 rfl rfl (m_measureOf hM hm) rfl rfl (Nat.le_of_ble_eq_true rfl) ?_
  exact b_iret dX12_measureNow_10 ⟨rfl, rfl⟩
theorem amt_ok {L : LD} (hK : LBk L) (m p w : Nat) : ∃ k : Nat, k ≤ 200 ∧ amt L m p w = nI k := mAmt_ok m _ hK.2.2.1 hK.2.2.2.2.2.2.2.1 hK.2.2.2.2.2.2.2.2.1
/-- the same with what was told as it may be -/
theorem amt_ok' {L : LD} (hK : LBk L) (m : Nat) (q : Int32) : ∃ k : Nat, k ≤ 200 ∧ amq L m q = nI k := mAmt_ok m _ hK.2.2.1 hK.2.2.2.2.2.2.2.1 hK.2.2.2.2.2.2.2.2.1
theorem m_leastOf {G : GT} {d : Nat} {σ : ST} {μ : SL} {L : LD} {m w : Nat} (hM : MV σ L) (hK : LBk L) (hm : m < 4) (hw : w < 32) : Fn G (d + 3) mX12_leastOf [.ref (G.b0 + 77), .int (nI m), .int (nI w)] (sh G σ μ) (Ret (some (.int (lst L m L.told w))) (sh G σ μ)) := by
  have hb := hM.b
  have ok : ∀ p, ∃ k : Nat, k ≤ 200 ∧ (fun p => amt L m p w) p = nI k := fun p => amt_ok hK m p w
  refine fn_of (ls := [some (.ref (G.b0 + 77)), some (.int (nI m)), some (.int (nI w)), none, none, none, none]) (by decide +kernel) (Nat.le_of_ble_eq_true rfl) 4 rfl ?_
  refine b_iconst (v := -1) dX12_leastOf_0 (by decide) ?_
  refine b_istore_n dX12_leastOf_1 (by decide) rfl ?_
  refine b_iconst (v := nI 0) dX12_leastOf_2 (by decide) ?_
  refine b_istore dX12_leastOf_3 (by decide) rfl ?_
  refine b_iconst (v := nI 0) dX12_leastOf_5 (by decide) ?_
  refine b_istore dX12_leastOf_6 (by decide) rfl ?_
  have lp : ∀ (n i : Nat) (x y : Int32) (z6 : Option Value), i + n = L.P → (i = 0 → x = -1) → (∀ j, i = j + 1 → (x, y) = mLst (fun p => amt L m p w) i) → BB G RX12 cX12_leastOf 7 (some .int) (d + 3) (QM G (Ret (some (.int (lst L m L.told w))) (sh G σ μ))) 8 [some (.ref (G.b0 + 77)), some (.int (nI m)), some (.int (nI w)), some (.int x), some (.int y), some (.int (nI i)), z6] [] (sh G σ μ) := by
    intro n
    induction n with
    | zero =>
      intro i x y z6 hi h0 h1
      refine b_iload dX12_leastOf_8 rfl ?_
      refine b_aload_n dX12_leastOf_10 rfl ?_
      refine g_get dX12_leastOf_11 fX12_13 a77 rfl ?_
      refine b_iconst (v := nI 3) dX12_leastOf_14 (by decide) ?_
      refine g_iald dX12_leastOf_15 a78 rfl (by omega) ?_
      refine b_top hM.cP ?_
      refine b_icmp_ge_t 68 dX12_leastOf_16 (by decide) (nI_le (by omega) (by omega)) ?_
      refine b_iload_n dX12_leastOf_68 rfl ?_
      refine b_iret dX12_leastOf_69 ⟨?_, rfl⟩
      have e : lst L m L.told w = (mLst (fun p => amt L m p w) i).1 := by rw [show i = L.P by omega]; rfl
      rw [e]
      cases i with
      | zero => rw [h0 rfl]; rfl
      | succ j => rw [← h1 j rfl]
    | succ n ih =>
      intro i x y z6 hi h0 h1
      refine b_iload dX12_leastOf_8 rfl ?_
      refine b_aload_n dX12_leastOf_10 rfl ?_
      refine g_get dX12_leastOf_11 fX12_13 a77 rfl ?_
      refine b_iconst (v := nI 3) dX12_leastOf_14 (by decide) ?_
      refine g_iald dX12_leastOf_15 a78 rfl (by omega) ?_
      refine b_top hM.cP ?_
      refine b_icmp_ge_f 68 dX12_leastOf_16 (by decide) (nI_ge (by omega) (by omega)) ?_
      refine b_aload_n dX12_leastOf_19 rfl ?_
      refine b_iload_n dX12_leastOf_20 rfl ?_
      refine b_aload_n dX12_leastOf_21 rfl ?_
      refine b_aload_n dX12_leastOf_22 rfl ?_
      refine g_get dX12_leastOf_23 fX12_13 a77 rfl ?_
      refine b_iconst (v := nI 5) dX12_leastOf_26 (by decide) ?_
      refine b_iload dX12_leastOf_27 rfl ?_
      refine b_iaddN dX12_leastOf_29 ?_
      refine g_iald dX12_leastOf_30 a78 rfl (by omega) ?_
      refine b_top (hM.told (by omega)) ?_
      refine b_iload_n dX12_leastOf_31 rfl ?_
      refine g_callV [.int (L.told i), .int (nI w)] dX12_leastOf_32 kX12_cellOf lX12_232 a77 rfl rfl (m_cellOf hM hw) rfl rfl (Nat.le_of_ble_eq_true rfl) ?_
      refine g_callV [.int (nI m), .int (poss L i w)] dX12_leastOf_35 kX12_measureOf lX12_324 a77 rfl rfl (m_measureOf hM hm) rfl rfl (Nat.le_of_ble_eq_true rfl) ?_
      refine b_istore dX12_leastOf_38 (by decide) rfl ?_
      refine b_iload_n dX12_leastOf_40 rfl ?_
      refine b_iconst (v := -1) dX12_leastOf_41 (by decide) ?_
      obtain ⟨k, hk, ek⟩ := ok i
      have ek' : amt L m i w = nI k := ek
      have tk : ∀ z6 : Option Value, mLst (fun p => amt L m p w) (i + 1) = (nI i, amt L m i w) → BB G RX12 cX12_leastOf 7 (some .int) (d + 3) (QM G (Ret (some (.int (lst L m L.told w))) (sh G σ μ))) 55 [some (.ref (G.b0 + 77)), some (.int (nI m)), some (.int (nI w)), some (.int x), some (.int y), some (.int (nI i)), some (.int (amt L m i w))] [] (sh G σ μ) := by
        intro z6 he
        refine b_iload dX12_leastOf_55 rfl ?_
        refine b_istore_n dX12_leastOf_57 (by decide) rfl ?_
        refine b_iload dX12_leastOf_58 rfl ?_
        refine b_istore dX12_leastOf_60 (by decide) rfl ?_
        refine b_iinc dX12_leastOf_62 rfl (nI_1 _) (by decide) rfl ?_
        refine b_goto 8 dX12_leastOf_65 (by decide) ?_
        exact ih (i + 1) _ _ _ (by omega) (fun h => absurd h (by omega)) (fun j hj => he.symm)
      cases i with
      | zero =>
        have hx := h0 rfl
        subst hx
        refine b_icmp_eq_t 55 dX12_leastOf_42 (by decide) rfl ?_
        refine tk none ?_
        rw [mLst, mLst]
        exact if_neg (by show ¬ amt L m 0 w ≤ -1; rw [ek']; exact Int32.not_le.mpr (Int32.lt_of_lt_of_le (show (-1 : Int32) < 0 by decide) (nI_pos' (by omega))))
      | succ j =>
        obtain ⟨w', hw', ew⟩ := mLst_w j (fun p _ => ok p)
        have h2 := h1 j rfl
        rw [ew] at h2
        have hx : x = nI w' := congrArg Prod.fst h2
        have hy : y = amt L m w' w := congrArg Prod.snd h2
        refine b_icmp_eq_f 55 dX12_leastOf_42 (by decide) (by rw [hx]; exact nI_m1 (by omega)) ?_
        refine b_iload dX12_leastOf_45 rfl ?_
        refine b_iload dX12_leastOf_47 rfl ?_
        refine b_icmp_gt 55 dX12_leastOf_49 (by decide) (fun c1 => ?_) (fun c1 => ?_)
        · skip
          refine tk none ?_
          rw [mLst, ew]
          exact if_neg (by show ¬ amt L m (j + 1) w ≤ amt L m w' w; rw [← hy]; exact Int32.not_le.mpr c1)
        · skip
          refine b_goto 62 dX12_leastOf_52 (by decide) ?_
          refine b_iinc dX12_leastOf_62 rfl (nI_1 _) (by decide) rfl ?_
          refine b_goto 8 dX12_leastOf_65 (by decide) ?_
          refine ih (j + 1 + 1) _ _ _ (by omega) (fun h => absurd h (by omega)) (fun _ _ => ?_)
          rw [mLst, ew, if_pos (by show amt L m (j + 1) w ≤ amt L m w' w; rw [← hy]; exact Int32.not_lt.mp c1), hx, hy]
  exact lp L.P 0 _ _ _ (by omega) (fun _ => rfl) (fun j hj => absurd hj (by omega))

