/-! ===== the reference: shown, the search ===== -/
theorem mBest_few {ok : Nat → Bool} : ∀ n, n ≤ 2 ^ 16 → FewR (fun a => ok a = true) n (mBest ok n)
  | 0, _ => FewR_0 _
  | n + 1, h => by
    have ih := mBest_few (ok := ok) n (by omega)
    rw [mBest]
    cases hf : mFewer (nI n) (mBest ok n)
    · simp only [Bool.false_and, Bool.false_eq_true, if_false]
      exact FewR_nf ih (by omega) hf
    · cases ho : ok n
      · simp only [Bool.and_false, Bool.false_eq_true, if_false]
        exact FewR_no ih (by simp [ho])
      · simp only [Bool.and_self, if_true]
        exact FewR_yes ih (by omega) ho hf
def okA (L : LD) (p b k : Nat) : Bool := decide (mxA L p k ≤ b)
def afV (L : LD) (p b : Nat) : Int32 := mBest (okA L p b) (2 ^ L.F)
theorem m_askedFor {G : GT} {d : Nat} {s : ST} {μ : SL} {L : LD} {p b : Nat} (hM : MV s L) (hC : CT s L (fun _ _ => True)) (hp : p < L.P) (hb9 : b < 200) : Fn G (d + 1) mX12_askedFor [.ref (G.b0 + 77), .int (nI p), .int (nI b)] (sh G s μ) (Ret (some (.int (afV L p b))) (sh G s μ)) := by
  have hb := hM.b
  have hpw : 2 ^ L.F ≤ 256 := Nat.pow_le_pow_right (by omega) hb.2.1
  refine fn_of (ls := [some (.ref (G.b0 + 77)), some (.int (nI p)), some (.int (nI b)), none, none]) (by decide +kernel) (Nat.le_of_ble_eq_true rfl) 2 rfl ?_
  refine b_iconst (v := -1) dX12_askedFor_0 (by decide) ?_
  refine b_istore_n dX12_askedFor_1 (by decide) rfl ?_
  refine b_iconst (v := nI 0) dX12_askedFor_2 (by decide) ?_
  refine b_istore dX12_askedFor_3 (by decide) rfl ?_
  have lp : ∀ (n i : Nat), i + n = 2 ^ L.F → BB G RX12 cX12_askedFor 5 (some .int) (d + 1) (QM G (Ret (some (.int (afV L p b))) (sh G s μ))) 5 [some (.ref (G.b0 + 77)), some (.int (nI p)), some (.int (nI b)), some (.int (mBest (okA L p b) i)), some (.int (nI i))] [] (sh G s μ) := by
    intro n
    induction n with
    | zero =>
      intro i hi
      refine b_iload dX12_askedFor_5 rfl ?_
      refine b_iconst (v := nI 1) dX12_askedFor_7 (by decide) ?_
      refine b_aload_n dX12_askedFor_8 rfl ?_
      refine g_get dX12_askedFor_9 fX12_13 a77 rfl ?_
      refine b_iconst (v := nI 2) dX12_askedFor_12 (by decide) ?_
      refine g_iald dX12_askedFor_13 a78 rfl (by omega) ?_
      refine b_top hM.cF ?_
      refine b_ishl dX12_askedFor_14 ?_
      refine b_top (shl_pow (by omega)) ?_
      refine b_icmp_ge_t 61 dX12_askedFor_15 (by decide) (nI_le (by omega) (by omega)) ?_
      refine b_iload_n dX12_askedFor_61 rfl ?_
      exact b_iret dX12_askedFor_62 ⟨by rw [show i = 2 ^ L.F by omega]; rfl, rfl⟩
    | succ n ih =>
      intro i hi
      have hf := mBest_f (ok := okA L p b) (k := i) (by omega)
      have hmx := (hC p i hp (by omega) trivial).2
      have hmb := mxA_b (L := L) p i
      generalize hbe : mBest (okA L p b) i = bx at hf ⊢
      have nx : ∀ y, y = mBest (okA L p b) (i + 1) → BB G RX12 cX12_askedFor 5 (some .int) (d + 1) (QM G (Ret (some (.int (afV L p b))) (sh G s μ))) 5 [some (.ref (G.b0 + 77)), some (.int (nI p)), some (.int (nI b)), some (.int y), some (.int (nI (i + 1)))] [] (sh G s μ) := fun y hy => by rw [hy]; exact ih (i + 1) (by omega)
      have tst : (decide (bx = -1) || decide (cnt (nI i) 16 < cnt bx 16)) = true → BB G RX12 cX12_askedFor 5 (some .int) (d + 1) (QM G (Ret (some (.int (afV L p b))) (sh G s μ))) 35 [some (.ref (G.b0 + 77)), some (.int (nI p)), some (.int (nI b)), some (.int bx), some (.int (nI i))] [] (sh G s μ) := by
        intro hy
        rw [hy] at hf
        refine b_aload_n dX12_askedFor_35 rfl ?_
        refine g_get dX12_askedFor_36 fX12_57 a77 rfl ?_
        refine b_sipush (v := nI 256) dX12_askedFor_39 (by decide) ?_
        refine b_iload_n dX12_askedFor_42 rfl ?_
        refine b_imulN dX12_askedFor_43 ?_
        refine b_iload dX12_askedFor_44 rfl ?_
        refine b_iaddN dX12_askedFor_46 ?_
        refine g_iald dX12_askedFor_47 a91 rfl (by omega) ?_
        refine b_top hmx ?_
        refine b_iload_n dX12_askedFor_48 rfl ?_
        refine b_icmp_gt 55 dX12_askedFor_49 (by decide) (fun c6 => ?_) (fun c6 => ?_)
        · skip
          rw [nI_ltI (by omega) (by omega)] at c6
          refine b_iinc dX12_askedFor_55 rfl (nI_1 _) (by decide) rfl ?_
          refine b_goto 5 dX12_askedFor_58 (by decide) ?_
          exact nx _ (by rw [mBest, hbe, hf, okA, decide_eq_false (by omega)]; simp)
        · skip
          rw [nI_ltI (by omega) (by omega)] at c6
          refine b_iload dX12_askedFor_52 rfl ?_
          refine b_istore_n dX12_askedFor_54 (by decide) rfl ?_
          refine b_iinc dX12_askedFor_55 rfl (nI_1 _) (by decide) rfl ?_
          refine b_goto 5 dX12_askedFor_58 (by decide) ?_
          exact nx _ (by rw [mBest, hbe, hf, okA, decide_eq_true (by omega)]; simp)
      refine b_iload dX12_askedFor_5 rfl ?_
      refine b_iconst (v := nI 1) dX12_askedFor_7 (by decide) ?_
      refine b_aload_n dX12_askedFor_8 rfl ?_
      refine g_get dX12_askedFor_9 fX12_13 a77 rfl ?_
      refine b_iconst (v := nI 2) dX12_askedFor_12 (by decide) ?_
      refine g_iald dX12_askedFor_13 a78 rfl (by omega) ?_
      refine b_top hM.cF ?_
      refine b_ishl dX12_askedFor_14 ?_
      refine b_top (shl_pow (by omega)) ?_
      refine b_icmp_ge_f 61 dX12_askedFor_15 (by decide) (nI_ge (by omega) (by omega)) ?_
      refine b_iload_n dX12_askedFor_18 rfl ?_
      refine b_iconst (v := -1) dX12_askedFor_19 (by decide) ?_
      refine b_icmp_eq 35 dX12_askedFor_20 (by decide) (fun c6 => ?_) (fun c6 => ?_)
      · skip
        exact tst (by simp [show bx = -1 from c6])
      · skip
        refine b_iload dX12_askedFor_23 rfl ?_
        refine b_callSr [.int (nI i)] dX12_askedFor_25 kX12_bitsOf lX12_266 m_bitsOf rfl rfl (Nat.le_of_ble_eq_true rfl) ?_
        refine b_iload_n dX12_askedFor_28 rfl ?_
        refine b_callSr [.int bx] dX12_askedFor_29 kX12_bitsOf lX12_266 m_bitsOf rfl rfl (Nat.le_of_ble_eq_true rfl) ?_
        have l1 := cnt_le (nI i) 16
        have l2 := cnt_le bx 16
        refine b_icmp_ge 55 dX12_askedFor_32 (by decide) (fun c7 => ?_) (fun c7 => ?_)
        · skip
          rw [nI_leI (by omega) (by omega)] at c7
          refine b_iinc dX12_askedFor_55 rfl (nI_1 _) (by decide) rfl ?_
          refine b_goto 5 dX12_askedFor_58 (by decide) ?_
          refine nx _ ?_
          rw [mBest, hbe, hf, decide_eq_false (show ¬ bx = -1 from c6), decide_eq_false (show ¬ cnt (nI i) 16 < cnt bx 16 by omega)]
          simp
        · skip
          rw [nI_leI (by omega) (by omega)] at c7
          exact tst (by rw [decide_eq_true (show cnt (nI i) 16 < cnt bx 16 by omega)]; simp)
  exact lp (2 ^ L.F) 0 (by omega)
theorem m_askedMany {G : GT} {d : Nat} {s : ST} {μ : SL} {L : LD} {x : Nat} {α : Nat → Nat} (hM : MV s L) (Ax : AI G x 6) (hα : ∀ p, p < L.P → s x p = nI (α p)) : Fn G (d + 1) mX12_askedMany [.ref (G.b0 + 77), .ref (G.b0 + x)] (sh G s μ) (Ret (some (.int (nI (sB α L.P)))) (sh G s μ)) := by
  have hb := hM.b
  refine fn_of (ls := [some (.ref (G.b0 + 77)), some (.ref (G.b0 + x)), none, none]) (by decide +kernel) (Nat.le_of_ble_eq_true rfl) 2 rfl ?_
  refine b_iconst (v := nI 0) dX12_askedMany_0 (by decide) ?_
  refine b_istore_n dX12_askedMany_1 (by decide) rfl ?_
  refine b_iconst (v := nI 0) dX12_askedMany_2 (by decide) ?_
  refine b_istore_n dX12_askedMany_3 (by decide) rfl ?_
  have lp : ∀ (n i : Nat), i + n = L.P → BB G RX12 cX12_askedMany 4 (some .int) (d + 1) (QM G (Ret (some (.int (nI (sB α L.P)))) (sh G s μ))) 4 [some (.ref (G.b0 + 77)), some (.ref (G.b0 + x)), some (.int (nI (sB α i))), some (.int (nI i))] [] (sh G s μ) := by
    intro n
    induction n with
    | zero =>
      intro i hi
      refine b_iload_n dX12_askedMany_4 rfl ?_
      refine b_aload_n dX12_askedMany_5 rfl ?_
      refine g_get dX12_askedMany_6 fX12_13 a77 rfl ?_
      refine b_iconst (v := nI 3) dX12_askedMany_9 (by decide) ?_
      refine g_iald dX12_askedMany_10 a78 rfl (by omega) ?_
      refine b_top hM.cP ?_
      refine b_icmp_ge_t 29 dX12_askedMany_11 (by decide) (nI_le (by omega) (by omega)) ?_
      refine b_iload_n dX12_askedMany_29 rfl ?_
      exact b_iret dX12_askedMany_30 ⟨by rw [show i = L.P by omega], rfl⟩
    | succ n ih =>
      intro i hi
      refine b_iload_n dX12_askedMany_4 rfl ?_
      refine b_aload_n dX12_askedMany_5 rfl ?_
      refine g_get dX12_askedMany_6 fX12_13 a77 rfl ?_
      refine b_iconst (v := nI 3) dX12_askedMany_9 (by decide) ?_
      refine g_iald dX12_askedMany_10 a78 rfl (by omega) ?_
      refine b_top hM.cP ?_
      refine b_icmp_ge_f 29 dX12_askedMany_11 (by decide) (nI_ge (by omega) (by omega)) ?_
      refine b_iload_n dX12_askedMany_14 rfl ?_
      refine b_aload_n dX12_askedMany_15 rfl ?_
      refine b_iload_n dX12_askedMany_16 rfl ?_
      refine g_iald dX12_askedMany_17 Ax rfl (by omega) ?_
      refine b_callSr [.int (s x i)] dX12_askedMany_18 kX12_bitsOf lX12_266 m_bitsOf rfl rfl (Nat.le_of_ble_eq_true rfl) ?_
      rw [hα i (by omega)]
      refine b_iaddN dX12_askedMany_21 ?_
      refine b_istore_n dX12_askedMany_22 (by decide) rfl ?_
      refine b_iinc dX12_askedMany_23 rfl (nI_1 _) (by decide) rfl ?_
      refine b_goto 4 dX12_askedMany_26 (by decide) ?_
      exact ih (i + 1) (by omega)
  exact lp L.P 0 (by omega)
theorem m_isBetter {G : GT} {d : Nat} {s : ST} {μ : SL} {L : LD} {α β : Nat → Nat} (hM : MV s L) (hα : ∀ p, p < L.P → α p < 256 ∧ s 92 p = nI (α p)) (hβ : ∀ p, p < L.P → β p < 256 ∧ s 93 p = nI (β p)) : Fn G (d + 2) mX12_isBetter [.ref (G.b0 + 77)] (sh G s μ) (Ret (some (.int (bI (decide (key α L.P < key β L.P))))) (sh G s μ)) := by
  have hb := hM.b
  have a256 : ∀ q, q < L.P → α q < 256 := fun q h => (hα q h).1
  have b256 : ∀ q, q < L.P → β q < 256 := fun q h => (hβ q h).1
  have sa := sB_le α L.P
  have sb := sB_le β L.P
  refine fn_of (ls := [some (.ref (G.b0 + 77)), none, none]) (by decide +kernel) (Nat.le_of_ble_eq_true rfl) 2 rfl ?_
  refine b_aload_n dX12_isBetter_0 rfl ?_
  refine b_aload_n dX12_isBetter_1 rfl ?_
  refine g_get dX12_isBetter_2 fX12_60 a77 rfl ?_
  refine g_callV [.ref (G.b0 + 92)] dX12_isBetter_5 kX12_askedMany lX12_334 a77 rfl rfl (m_askedMany hM a92 (fun p hp => (hα p hp).2)) rfl rfl (Nat.le_of_ble_eq_true rfl) ?_
  refine b_aload_n dX12_isBetter_8 rfl ?_
  refine b_aload_n dX12_isBetter_9 rfl ?_
  refine g_get dX12_isBetter_10 fX12_63 a77 rfl ?_
  refine g_callV [.ref (G.b0 + 93)] dX12_isBetter_13 kX12_askedMany lX12_334 a77 rfl rfl (m_askedMany hM a93 (fun p hp => (hβ p hp).2)) rfl rfl (Nat.le_of_ble_eq_true rfl) ?_
  refine b_isub dX12_isBetter_16 ?_
  refine b_istore_n dX12_isBetter_17 (by decide) rfl ?_
  refine b_iconst (v := nI 0) dX12_isBetter_18 (by decide) ?_
  refine b_istore_n dX12_isBetter_19 (by decide) rfl ?_
  have fin : ∀ (y : Int32) (i : Nat), (y < 0 ↔ key α L.P < key β L.P) → BB G RX12 cX12_isBetter 3 (some .boolean) (d + 2) (QM G (Ret (some (.int (bI (decide (key α L.P < key β L.P))))) (sh G s μ))) 54 [some (.ref (G.b0 + 77)), some (.int y), some (.int (nI i))] [] (sh G s μ) := by
    intro y i hy
    refine b_iload_n dX12_isBetter_54 rfl ?_
    refine b_if_ge 62 dX12_isBetter_55 (by decide) (fun c1 => ?_) (fun c1 => ?_)
    · skip
      have c2 : ¬ key α L.P < key β L.P := fun z => absurd c1 (Int32.not_le.mpr (hy.mpr z))
      refine b_iconst (v := nI 0) dX12_isBetter_62 (by decide) ?_
      exact b_zret dX12_isBetter_63 rfl ⟨by rw [decide_eq_false c2]; rfl, rfl⟩
    · skip
      have c2 : key α L.P < key β L.P := hy.mp (Int32.not_le.mp c1)
      refine b_iconst (v := nI 1) dX12_isBetter_58 (by decide) ?_
      refine b_goto 63 dX12_isBetter_59 (by decide) ?_
      exact b_zret dX12_isBetter_63 rfl ⟨by rw [decide_eq_true c2]; rfl, rfl⟩
  have lp : ∀ (n i : Nat), i + n = L.P → sB α L.P = sB β L.P → (∀ q, q < i → α q = β q) → BB G RX12 cX12_isBetter 3 (some .boolean) (d + 2) (QM G (Ret (some (.int (bI (decide (key α L.P < key β L.P))))) (sh G s μ))) 20 [some (.ref (G.b0 + 77)), some (.int 0), some (.int (nI i))] [] (sh G s μ) := by
    intro n
    induction n with
    | zero =>
      intro i hi es eq
      refine b_iload_n dX12_isBetter_20 rfl ?_
      refine b_aload_n dX12_isBetter_21 rfl ?_
      refine g_get dX12_isBetter_22 fX12_13 a77 rfl ?_
      refine b_iconst (v := nI 3) dX12_isBetter_25 (by decide) ?_
      refine g_iald dX12_isBetter_26 a78 rfl (by omega) ?_
      refine b_top hM.cP ?_
      refine b_icmp_ge_t 54 dX12_isBetter_27 (by decide) (nI_le (by omega) (by omega)) ?_
      refine fin 0 i ⟨fun z => absurd z (by decide), fun z => ?_⟩
      have e1 : key α L.P = key β L.P := by unfold key; rw [es, nm_cg L.P (fun p hp => eq p (by omega))]
      omega
    | succ n ih =>
      intro i hi es eq
      have hai := hα i (by omega)
      have hbi := hβ i (by omega)
      refine b_iload_n dX12_isBetter_20 rfl ?_
      refine b_aload_n dX12_isBetter_21 rfl ?_
      refine g_get dX12_isBetter_22 fX12_13 a77 rfl ?_
      refine b_iconst (v := nI 3) dX12_isBetter_25 (by decide) ?_
      refine g_iald dX12_isBetter_26 a78 rfl (by omega) ?_
      refine b_top hM.cP ?_
      refine b_icmp_ge_f 54 dX12_isBetter_27 (by decide) (nI_ge (by omega) (by omega)) ?_
      refine b_iload_n dX12_isBetter_30 rfl ?_
      refine b_if_ne_f 54 dX12_isBetter_31 (by decide) rfl ?_
      refine b_aload_n dX12_isBetter_34 rfl ?_
      refine g_get dX12_isBetter_35 fX12_60 a77 rfl ?_
      refine b_iload_n dX12_isBetter_38 rfl ?_
      refine g_iald dX12_isBetter_39 a92 rfl (by omega) ?_
      refine b_top hai.2 ?_
      refine b_aload_n dX12_isBetter_40 rfl ?_
      refine g_get dX12_isBetter_41 fX12_63 a77 rfl ?_
      refine b_iload_n dX12_isBetter_44 rfl ?_
      refine g_iald dX12_isBetter_45 a93 rfl (by omega) ?_
      refine b_top hbi.2 ?_
      refine b_isub dX12_isBetter_46 ?_
      refine b_istore_n dX12_isBetter_47 (by decide) rfl ?_
      refine b_iinc dX12_isBetter_48 rfl (nI_1 _) (by decide) rfl ?_
      refine b_goto 20 dX12_isBetter_51 (by decide) ?_
      by_cases e : α i = β i
      · have e0 : nI (α i) - nI (β i) = 0 := (sub_z (by omega) (by omega)).mpr e
        rw [e0]
        refine ih (i + 1) (by omega) es (fun q hq => ?_)
        by_cases eq2 : q = i
        · rw [eq2]; exact e
        · exact eq q (by omega)
      · -- the next look ends it
        have hlt := sub_neg (a := α i) (b := β i) (by omega) (by omega)
        have hz : ¬ nI (α i) - nI (β i) = 0 := fun z => e ((sub_z (by omega) (by omega)).mp z)
        have hkey : nI (α i) - nI (β i) < 0 ↔ key α L.P < key β L.P := by
          rw [hlt]
          constructor
          · intro h
            have := nm_first eq h L.P (by omega) a256 b256
            unfold key; rw [es]; omega
          · intro h
            rcases Nat.lt_or_ge (α i) (β i) with z | z
            · exact z
            · have := nm_first (fun q hq => (eq q hq).symm) (show β i < α i by omega) L.P (by omega) b256 a256
              unfold key at h; rw [es] at h; omega
        generalize nI (α i) - nI (β i) = yy at hz hkey ⊢
        show BB G RX12 cX12_isBetter 3 (some .boolean) (d + 2) (QM G (Ret (some (.int (bI (decide (key α L.P < key β L.P))))) (sh G s μ))) 20 [some (.ref (G.b0 + 77)), some (.int yy), some (.int (nI (i + 1)))] [] (sh G s μ)
        refine b_iload_n dX12_isBetter_20 rfl ?_
        refine b_aload_n dX12_isBetter_21 rfl ?_
        refine g_get dX12_isBetter_22 fX12_13 a77 rfl ?_
        refine b_iconst (v := nI 3) dX12_isBetter_25 (by decide) ?_
        refine g_iald dX12_isBetter_26 a78 rfl (by omega) ?_
        refine b_top hM.cP ?_
        by_cases e9 : L.P ≤ i + 1
        · skip
          refine b_icmp_ge_t 54 dX12_isBetter_27 (by decide) (nI_le e9 (by omega)) ?_
          exact fin yy (i + 1) hkey
        · skip
          refine b_icmp_ge_f 54 dX12_isBetter_27 (by decide) (nI_ge (by omega) (by omega)) ?_
          refine b_iload_n dX12_isBetter_30 rfl ?_
          refine b_if_ne_t 54 dX12_isBetter_31 (by decide) hz ?_
          exact fin yy (i + 1) hkey
  by_cases es : sB α L.P = sB β L.P
  · have e0 : nI (sB α L.P) - nI (sB β L.P) = 0 := (sub_z (by omega) (by omega)).mpr es
    rw [e0]
    exact lp L.P 0 (by omega) es (fun q hq => absurd hq (by omega))
  · have hlt := sub_neg (a := sB α L.P) (b := sB β L.P) (by omega) (by omega)
    have hz : ¬ nI (sB α L.P) - nI (sB β L.P) = 0 := fun z => es ((sub_z (by omega) (by omega)).mp z)
    have hkey : nI (sB α L.P) - nI (sB β L.P) < 0 ↔ key α L.P < key β L.P := by
      rw [hlt]
      constructor
      · intro h; exact key_s a256 h
      · intro h
        rcases Nat.lt_or_ge (sB α L.P) (sB β L.P) with z | z
        · exact z
        · have := key_s b256 (show sB β L.P < sB α L.P by omega); omega
    generalize nI (sB α L.P) - nI (sB β L.P) = yy at hz hkey ⊢
    show BB G RX12 cX12_isBetter 3 (some .boolean) (d + 2) (QM G (Ret (some (.int (bI (decide (key α L.P < key β L.P))))) (sh G s μ))) 20 [some (.ref (G.b0 + 77)), some (.int yy), some (.int (nI 0))] [] (sh G s μ)
    refine b_iload_n dX12_isBetter_20 rfl ?_
    refine b_aload_n dX12_isBetter_21 rfl ?_
    refine g_get dX12_isBetter_22 fX12_13 a77 rfl ?_
    refine b_iconst (v := nI 3) dX12_isBetter_25 (by decide) ?_
    refine g_iald dX12_isBetter_26 a78 rfl (by omega) ?_
    refine b_top hM.cP ?_
    by_cases e9 : L.P ≤ 0
    · skip
      refine b_icmp_ge_t 54 dX12_isBetter_27 (by decide) (nI_le e9 (by omega)) ?_
      exact fin yy 0 hkey
    · skip
      refine b_icmp_ge_f 54 dX12_isBetter_27 (by decide) (nI_ge (by omega) (by omega)) ?_
      refine b_iload_n dX12_isBetter_30 rfl ?_
      refine b_if_ne_t 54 dX12_isBetter_31 (by decide) hz ?_
      exact fin yy 0 hkey
/-! the search over the questions to the one -/
def tq (L : LD) (who a p : Nat) : Nat := if p = who then a else ix (afV L p (mnA L who a))
def vq (L : LD) (who a : Nat) : Prop := ∀ p, p < L.P → p ≠ who → ¬ afV L p (mnA L who a) = -1
theorem af_ok {L : LD} (hF : L.F ≤ 8) {p b : Nat} (h : ¬ afV L p b = -1) : ix (afV L p b) < 2 ^ L.F ∧ afV L p b = nI (ix (afV L p b)) ∧ mxA L p (ix (afV L p b)) ≤ b ∧ ∀ c, c < 2 ^ L.F → mxA L p c ≤ b → fle (ix (afV L p b)) c := by
  have hpw : 2 ^ L.F ≤ 256 := Nat.pow_le_pow_right (by omega) hF
  rcases mBest_few (ok := okA L p b) (2 ^ L.F) (by omega) with ⟨h1, _⟩ | ⟨a, h1, h2, h3, h4⟩
  · exact absurd h1 h
  · have e : afV L p b = nI a := h3
    have ei : ix (afV L p b) = a := by rw [e]; exact ix_nI (by omega)
    rw [ei]
    refine ⟨h1, e, by simpa [okA] using h2, fun c hc hm => h4 c hc (by simpa [okA] using hm)⟩
theorem af_no {L : LD} (hF : L.F ≤ 8) {p b c : Nat} (hc : c < 2 ^ L.F) (hm : mxA L p c ≤ b) : ¬ afV L p b = -1 := by
  have hpw : 2 ^ L.F ≤ 256 := Nat.pow_le_pow_right (by omega) hF
  rcases mBest_few (ok := okA L p b) (2 ^ L.F) (by omega) with ⟨_, h1⟩ | ⟨a, h1, h2, h3, h4⟩
  · exact absurd (by simpa [okA] using hm) (h1 c hc)
  · intro z
    have e : afV L p b = nI a := h3
    rw [e] at z; exact nI_m1 (by omega) z
theorem tq_TS {L : LD} {who a : Nat} (hF : L.F ≤ 8) (hW : L.W ≤ 16) (ht : lo L.F (L.told who)) (ha : a < 2 ^ L.F) (hv : vq L who a) : TS L who (tq L who a) := by
  refine ⟨mnA L who a, ?_, fun p hp => ?_⟩
  · obtain ⟨k1, k2⟩ := iN_ok (show L.F < 32 by omega) ht
    have := mnf_lb (c := cnd L who a) (g := szN L) (2 ^ L.F) (iN (L.told who)) k1 (cnd_self who a)
    have h2 := szN_W L (iN (L.told who)) hW
    unfold mnA; omega
  · unfold tq
    by_cases e : p = who
    · rw [if_pos e]
      refine ⟨ha, ?_⟩
      unfold lvC
      rw [decide_eq_true e]
      show mnA L who a ≤ lvN L who p a
      unfold lvN
      rw [if_pos e, e]; exact Nat.le_refl _
    · rw [if_neg e]
      obtain ⟨h1, h2, h3, h4⟩ := af_ok hF (hv p hp e)
      refine ⟨h1, ?_⟩
      unfold lvC
      rw [decide_eq_false e]
      show lvN L who p _ ≤ mnA L who a
      unfold lvN
      rw [if_neg e]; exact h3
theorem TS_tq {L : LD} {who : Nat} (hF : L.F ≤ 8) (hwho : who < L.P) {τ : Nat → Nat} (h : TS L who τ) : τ who < 2 ^ L.F ∧ vq L who (τ who) ∧ key (tq L who (τ who)) L.P ≤ key τ L.P := by
  have hpw : 2 ^ L.F ≤ 256 := Nat.pow_le_pow_right (by omega) hF
  obtain ⟨l, hl, h⟩ := h
  obtain ⟨hw1, hw2⟩ := h who hwho
  have hlw : l ≤ mnA L who (τ who) := by
    unfold lvC at hw2
    rw [decide_eq_true rfl] at hw2
    have : l ≤ lvN L who who (τ who) := hw2
    unfold lvN at this
    rw [if_pos rfl] at this; exact this
  have hm : ∀ p, p < L.P → p ≠ who → τ p < 2 ^ L.F ∧ mxA L p (τ p) ≤ mnA L who (τ who) := fun p hp hne => by
    obtain ⟨g1, g2⟩ := h p hp
    unfold lvC at g2
    rw [decide_eq_false hne] at g2
    have : lvN L who p (τ p) ≤ l := g2
    unfold lvN at this
    rw [if_neg hne] at this
    exact ⟨g1, Nat.le_trans this hlw⟩
  have hv : vq L who (τ who) := fun p hp hne => af_no hF (hm p hp hne).1 (hm p hp hne).2
  refine ⟨hw1, hv, fle_le (fun q hq => ?_) (fun p hp => ?_)⟩
  · unfold tq
    by_cases e : q = who
    · rw [if_pos e]; omega
    · rw [if_neg e]; have := (af_ok hF (hv q hq e)).1; omega
  · unfold tq
    by_cases e : p = who
    · rw [if_pos e, e]; exact fle_rf _
    · rw [if_neg e]
      exact (af_ok hF (hv p hp e)).2.2.2 _ (hm p hp e).1 (hm p hp e).2
/-- what the search has found among the first -/
def RB (s : ST) (L : LD) (who : Nat) (sm : Bool) (i : Nat) : Prop := (sm = false ∧ ∀ a, a < i → ¬ vq L who a) ∨ (sm = true ∧ ∃ a0, a0 < i ∧ vq L who a0 ∧ (∀ p, p < L.P → s 93 p = nI (tq L who a0 p)) ∧ ∀ a, a < i → vq L who a → key (tq L who a0) L.P ≤ key (tq L who a) L.P)
theorem tq_256 {L : LD} {who a : Nat} (hF : L.F ≤ 8) (ha : a < 2 ^ L.F) (hv : vq L who a) : ∀ p, p < L.P → tq L who a p < 256 := fun p hp => by
  have hpw : 2 ^ L.F ≤ 256 := Nat.pow_le_pow_right (by omega) hF
  unfold tq
  by_cases e : p = who
  · rw [if_pos e]; omega
  · rw [if_neg e]; have := (af_ok hF (hv p hp e)).1; omega
theorem CT_of {s s' : ST} {L : LD} (h : CT s L (fun _ _ => True)) (e : ∀ c, c = 90 ∨ c = 91 → s' c = s c) : CT s' L (fun _ _ => True) := fun p a h1 h2 _ => by
  rw [e 90 (by omega), e 91 (by omega)]; exact h p a h1 h2 trivial
set_option maxHeartbeats 4000000 in
theorem m_laysShown {G : GT} {d : Nat} {s : ST} {μ : SL} {L : LD} {who : Nat} (hM : MV s L) (hK : LBk L) (hwho : who < L.P) : Fn G (d + 3) mX12_laysShown [.ref (G.b0 + 77), .int (nI who)] (sh G s μ) (fun r h' => ∃ (s' : ST) (sm : Bool), r = some (.int (bI sm)) ∧ h' = sh G s' μ ∧ (∀ c, ¬ k8893 c → s' c = s c) ∧ RB s' L who sm (2 ^ L.F)) := by
  have hb := hM.b
  have hpw : 2 ^ L.F ≤ 256 := Nat.pow_le_pow_right (by omega) hb.2.1
  refine fn_of (ls := [some (.ref (G.b0 + 77)), some (.int (nI who)), none, none, none, none, none]) (by decide +kernel) (Nat.le_of_ble_eq_true rfl) 5 rfl ?_
  refine b_aload_n dX12_laysShown_0 rfl ?_
  refine g_callVp [] dX12_laysShown_1 kX12_laysTold lX12_338 a77 rfl rfl (m_laysTold hM hK) rfl rfl (Nat.le_of_ble_eq_true rfl) ?_
  rintro r h9 ⟨rfl, s0, rfl, hs0, hC0⟩
  refine b_iconst (v := nI 0) dX12_laysShown_4 (by decide) ?_
  refine b_istore_n dX12_laysShown_5 (by decide) rfl ?_
  refine b_iconst (v := nI 0) dX12_laysShown_6 (by decide) ?_
  refine b_istore_n dX12_laysShown_7 (by decide) rfl ?_
  have lp : ∀ (n i : Nat) (s1 : ST) (sm : Bool) (z4 z5 z6 : Option Value), i + n = 2 ^ L.F → (∀ c, ¬ k8893 c → s1 c = s c) → CT s1 L (fun _ _ => True) → RB s1 L who sm i → BB G RX12 cX12_laysShown 7 (some .boolean) (d + 3) (QM G (fun r h' => ∃ (s' : ST) (sm : Bool), r = some (.int (bI sm)) ∧ h' = sh G s' μ ∧ (∀ c, ¬ k8893 c → s' c = s c) ∧ RB s' L who sm (2 ^ L.F))) 8 [some (.ref (G.b0 + 77)), some (.int (nI who)), some (.int (bI sm)), some (.int (nI i)), z4, z5, z6] [] (sh G s1 μ) := by
    intro n
    induction n with
    | zero =>
      intro i s1 sm z4 z5 z6 hi hs hC hB
      have hM1 : MV s1 L := MV_of hM (by rw [hs 77 (by unfold k8893; omega)]) (hs 78 (by unfold k8893; omega))
      refine b_iload_n dX12_laysShown_8 rfl ?_
      refine b_iconst (v := nI 1) dX12_laysShown_9 (by decide) ?_
      refine b_aload_n dX12_laysShown_10 rfl ?_
      refine g_get dX12_laysShown_11 fX12_13 a77 rfl ?_
      refine b_iconst (v := nI 2) dX12_laysShown_14 (by decide) ?_
      refine g_iald dX12_laysShown_15 a78 rfl (by omega) ?_
      refine b_top hM1.cF ?_
      refine b_ishl dX12_laysShown_16 ?_
      refine b_top (shl_pow (by omega)) ?_
      refine b_icmp_ge_t 166 dX12_laysShown_17 (by decide) (nI_le (by omega) (by omega)) ?_
      refine b_iload_n dX12_laysShown_166 rfl ?_
      exact b_zret dX12_laysShown_167 (bI_n sm) ⟨s1, sm, rfl, rfl, hs, by rw [show 2 ^ L.F = i by omega]; exact hB⟩
    | succ n ih =>
      intro i s1 sm z4 z5 z6 hi hs hC hB
      have hM1 : MV s1 L := MV_of hM (by rw [hs 77 (by unfold k8893; omega)]) (hs 78 (by unfold k8893; omega))
      have hmn := (hC who i hwho (by omega) trivial).1
      have hmb := mnA_b (L := L) who i
      generalize hbd : mnA L who i = bd at hmn hmb
      have nxt9 : ∀ (s2 : ST) (sm2 : Bool) (z4 z5 z6 : Option Value), (∀ c, ¬ k8893 c → s2 c = s c) → CT s2 L (fun _ _ => True) → RB s2 L who sm2 (i + 1) → BB G RX12 cX12_laysShown 7 (some .boolean) (d + 3) (QM G (fun r h' => ∃ (s' : ST) (sm : Bool), r = some (.int (bI sm)) ∧ h' = sh G s' μ ∧ (∀ c, ¬ k8893 c → s' c = s c) ∧ RB s' L who sm (2 ^ L.F))) 160 [some (.ref (G.b0 + 77)), some (.int (nI who)), some (.int (bI sm2)), some (.int (nI i)), z4, z5, z6] [] (sh G s2 μ) := by
        intro s2 sm2 z4 z5 z6 h1 h2 h3
        refine b_iinc dX12_laysShown_160 rfl (nI_1 _) (by decide) rfl ?_
        refine b_goto 8 dX12_laysShown_163 (by decide) ?_
        exact ih (i + 1) s2 sm2 _ _ _ (by omega) h1 h2 h3
      have skp : ∀ s2 : ST, (∀ p, s2 93 p = s1 93 p) → (¬ vq L who i ∨ (vq L who i ∧ sm = true ∧ ∀ a0, a0 < i → (∀ p, p < L.P → s1 93 p = nI (tq L who a0 p)) → vq L who a0 → key (tq L who a0) L.P ≤ key (tq L who i) L.P)) → RB s2 L who sm (i + 1) := by
        intro s2 h93 hc
        rcases hB with ⟨e1, e2⟩ | ⟨e1, a0, e2, e3, e4, e5⟩
        · refine Or.inl ⟨e1, fun a ha => ?_⟩
          by_cases ea : a = i
          · rcases hc with hc | hc
            · rw [ea]; exact hc
            · rw [e1] at hc; exact absurd hc.2.1 (by simp)
          · exact e2 a (by omega)
        · refine Or.inr ⟨e1, a0, by omega, e3, fun p hp => by rw [h93]; exact e4 p hp, fun a ha hva => ?_⟩
          by_cases ea : a = i
          · rcases hc with hc | hc
            · rw [ea] at hva; exact absurd hva hc
            · rw [ea]; exact hc.2.2 a0 e2 e4 e3
          · exact e5 a (by omega) hva
      refine b_iload_n dX12_laysShown_8 rfl ?_
      refine b_iconst (v := nI 1) dX12_laysShown_9 (by decide) ?_
      refine b_aload_n dX12_laysShown_10 rfl ?_
      refine g_get dX12_laysShown_11 fX12_13 a77 rfl ?_
      refine b_iconst (v := nI 2) dX12_laysShown_14 (by decide) ?_
      refine g_iald dX12_laysShown_15 a78 rfl (by omega) ?_
      refine b_top hM1.cF ?_
      refine b_ishl dX12_laysShown_16 ?_
      refine b_top (shl_pow (by omega)) ?_
      refine b_icmp_ge_f 166 dX12_laysShown_17 (by decide) (nI_ge (by omega) (by omega)) ?_
      refine b_aload_n dX12_laysShown_20 rfl ?_
      refine g_get dX12_laysShown_21 fX12_54 a77 rfl ?_
      refine b_sipush (v := nI 256) dX12_laysShown_24 (by decide) ?_
      refine b_iload_n dX12_laysShown_27 rfl ?_
      refine b_imulN dX12_laysShown_28 ?_
      refine b_iload_n dX12_laysShown_29 rfl ?_
      refine b_iaddN dX12_laysShown_30 ?_
      refine g_iald dX12_laysShown_31 a90 rfl (by omega) ?_
      refine b_top hmn ?_
      refine b_istore dX12_laysShown_32 (by decide) rfl ?_
      refine b_iconst (v := nI 1) dX12_laysShown_34 (by decide) ?_
      refine b_istore dX12_laysShown_35 (by decide) rfl ?_
      refine b_iconst (v := nI 0) dX12_laysShown_37 (by decide) ?_
      refine b_istore dX12_laysShown_38 (by decide) rfl ?_
      -- behind the questions
      have cp : ∀ (s2 : ST) (z6 : Option Value), (∀ c, ¬ k8893 c → s2 c = s c) → CT s2 L (fun _ _ => True) → vq L who i → (∀ p, p < L.P → s2 92 p = nI (tq L who i p)) → (sm = true → ∃ a0, a0 < i ∧ vq L who a0 ∧ (∀ p, p < L.P → s1 93 p = nI (tq L who a0 p)) ∧ key (tq L who i) L.P ≤ key (tq L who a0) L.P) → BB G RX12 cX12_laysShown 7 (some .boolean) (d + 3) (QM G (fun r h' => ∃ (s' : ST) (sm : Bool), r = some (.int (bI sm)) ∧ h' = sh G s' μ ∧ (∀ c, ¬ k8893 c → s' c = s c) ∧ RB s' L who sm (2 ^ L.F))) 124 [some (.ref (G.b0 + 77)), some (.int (nI who)), some (.int (bI sm)), some (.int (nI i)), some (.int (nI bd)), some (.int (nI 1)), z6] [] (sh G s2 μ) := by
        intro s2 z6 h1 h2 hv hq hbest
        refine b_iconst (v := nI 0) dX12_laysShown_124 (by decide) ?_
        refine b_istore dX12_laysShown_125 (by decide) rfl ?_
        have lp4 : ∀ (m p : Nat) (s3 : ST), p + m = L.P → (∀ c, ¬ k8893 c → s3 c = s c) → CT s3 L (fun _ _ => True) → (∀ q, q < L.P → s3 92 q = nI (tq L who i q)) → (∀ q, q < p → s3 93 q = nI (tq L who i q)) → BB G RX12 cX12_laysShown 7 (some .boolean) (d + 3) (QM G (fun r h' => ∃ (s' : ST) (sm : Bool), r = some (.int (bI sm)) ∧ h' = sh G s' μ ∧ (∀ c, ¬ k8893 c → s' c = s c) ∧ RB s' L who sm (2 ^ L.F))) 127 [some (.ref (G.b0 + 77)), some (.int (nI who)), some (.int (bI sm)), some (.int (nI i)), some (.int (nI bd)), some (.int (nI 1)), some (.int (nI p))] [] (sh G s3 μ) := by
          intro m
          induction m with
          | zero =>
            intro p s3 hp g1 g2 g3 g4
            have hM3 : MV s3 L := MV_of hM (by rw [g1 77 (by unfold k8893; omega)]) (g1 78 (by unfold k8893; omega))
            refine b_iload dX12_laysShown_127 rfl ?_
            refine b_aload_n dX12_laysShown_129 rfl ?_
            refine g_get dX12_laysShown_130 fX12_13 a77 rfl ?_
            refine b_iconst (v := nI 3) dX12_laysShown_133 (by decide) ?_
            refine g_iald dX12_laysShown_134 a78 rfl (by omega) ?_
            refine b_top hM3.cP ?_
            refine b_icmp_ge_t 158 dX12_laysShown_135 (by decide) (nI_le (by omega) (by omega)) ?_
            refine b_iconst (v := nI 1) dX12_laysShown_158 (by decide) ?_
            refine b_istore_n dX12_laysShown_159 (by decide) rfl ?_
            refine nxt9 s3 true _ _ _ g1 g2 (Or.inr ⟨rfl, i, by omega, hv, fun q hq => g4 q (by omega), fun a ha hva => ?_⟩)
            by_cases ea : a = i
            · rw [ea]; exact Nat.le_refl _
            · rcases hB with ⟨e1, e2⟩ | ⟨e1, a1, e2, e3, e4, e5⟩
              · exact absurd hva (e2 a (by omega))
              · obtain ⟨a0, b1, b2, b3, b4⟩ := hbest e1
                have k1 := e5 a (by omega) hva
                have k2 : key (tq L who a0) L.P = key (tq L who a1) L.P := by
                  have : ∀ q, q < L.P → tq L who a0 q = tq L who a1 q := fun q hq => by
                    have t1 := tq_256 hb.2.1 (show a0 < 2 ^ L.F by omega) b2 q hq
                    have t2 := tq_256 hb.2.1 (show a1 < 2 ^ L.F by omega) e3 q hq
                    have := (b3 q hq).symm.trans (e4 q hq)
                    rw [nI_eq (by omega) (by omega)] at this; exact this
                  unfold key; rw [sB_cg L.P this, nm_cg L.P this]
                omega
          | succ m ihm =>
            intro p s3 hp g1 g2 g3 g4
            have hM3 : MV s3 L := MV_of hM (by rw [g1 77 (by unfold k8893; omega)]) (g1 78 (by unfold k8893; omega))
            have g3p := g3 p (by omega)
            refine b_iload dX12_laysShown_127 rfl ?_
            refine b_aload_n dX12_laysShown_129 rfl ?_
            refine g_get dX12_laysShown_130 fX12_13 a77 rfl ?_
            refine b_iconst (v := nI 3) dX12_laysShown_133 (by decide) ?_
            refine g_iald dX12_laysShown_134 a78 rfl (by omega) ?_
            refine b_top hM3.cP ?_
            refine b_icmp_ge_f 158 dX12_laysShown_135 (by decide) (nI_ge (by omega) (by omega)) ?_
            refine b_aload_n dX12_laysShown_138 rfl ?_
            refine g_get dX12_laysShown_139 fX12_63 a77 rfl ?_
            refine b_iload dX12_laysShown_142 rfl ?_
            refine b_aload_n dX12_laysShown_144 rfl ?_
            refine g_get dX12_laysShown_145 fX12_60 a77 rfl ?_
            refine b_iload dX12_laysShown_148 rfl ?_
            refine g_iald dX12_laysShown_150 a92 rfl (by omega) ?_
            refine b_top g3p ?_
            refine g_iast dX12_laysShown_151 a93 rfl (by omega) ?_
            refine b_iinc dX12_laysShown_152 rfl (nI_1 _) (by decide) rfl ?_
            refine b_goto 127 dX12_laysShown_155 (by decide) ?_
            refine ihm (p + 1) _ (by omega) (fun c h => by rw [pt_r (by unfold k8893 at h; omega)]; exact g1 c h) (CT_of g2 (fun c h => pt_r (by omega))) (fun q hq => by rw [pt_a (by omega)]; exact g3 q hq) (fun q hq => ?_)
            by_cases e : q = p
            · subst e; rw [pt_s]
            · rw [pt_j e]; exact g4 q (by omega)
        exact lp4 L.P 0 s2 (by omega) h1 h2 hq (fun q hq => absurd hq (by omega))
      -- all were asked, or one can't be
      have dn : ∀ (s2 : ST) (b : Bool) (z6 : Option Value), (∀ c, ¬ k8893 c → s2 c = s c) → CT s2 L (fun _ _ => True) → (∀ p, s2 93 p = s1 93 p) → (b = false → ¬ vq L who i) → (b = true → vq L who i ∧ ∀ p, p < L.P → s2 92 p = nI (tq L who i p)) → BB G RX12 cX12_laysShown 7 (some .boolean) (d + 3) (QM G (fun r h' => ∃ (s' : ST) (sm : Bool), r = some (.int (bI sm)) ∧ h' = sh G s' μ ∧ (∀ c, ¬ k8893 c → s' c = s c) ∧ RB s' L who sm (2 ^ L.F))) 105 [some (.ref (G.b0 + 77)), some (.int (nI who)), some (.int (bI sm)), some (.int (nI i)), some (.int (nI bd)), some (.int (bI b)), z6] [] (sh G s2 μ) := by
        intro s2 b z6 h1 h2 h93 hf ht
        cases b with
        | false =>
          refine b_iload dX12_laysShown_105 rfl ?_
          refine b_if_eq_t 160 dX12_laysShown_107 (by decide) (by decide) ?_
          exact nxt9 s2 sm _ _ _ h1 h2 (skp s2 h93 (Or.inl (hf rfl)))
        | true =>
          obtain ⟨hv, hq⟩ := ht rfl
          have hM2 : MV s2 L := MV_of hM (by rw [h1 77 (by unfold k8893; omega)]) (h1 78 (by unfold k8893; omega))
          refine b_iload dX12_laysShown_105 rfl ?_
          refine b_if_eq_f 160 dX12_laysShown_107 (by decide) (by decide) ?_
          refine b_iload_n dX12_laysShown_110 rfl ?_
          cases hsm : sm with
          | false =>
            rw [hsm] at cp
            refine b_if_eq_t 124 dX12_laysShown_111 (by decide) (by decide) ?_
            exact cp s2 z6 h1 h2 hv hq (fun z => absurd z (by simp))
          | true =>
            rw [hsm] at cp skp hB
            rcases hB with ⟨e1, e2⟩ | ⟨e1, a0, e2, e3, e4, e5⟩
            · exact absurd e1 (by simp)
            · skip
              refine b_if_eq_f 124 dX12_laysShown_111 (by decide) (by decide) ?_
              refine b_aload_n dX12_laysShown_114 rfl ?_
              refine g_callV [] dX12_laysShown_115 kX12_isBetter lX12_344 a77 rfl rfl (m_isBetter (α := tq L who i) (β := tq L who a0) hM2 (fun p hp => ⟨tq_256 hb.2.1 (show i < 2 ^ L.F by omega) hv p hp, hq p hp⟩) (fun p hp => ⟨tq_256 hb.2.1 (show a0 < 2 ^ L.F by omega) e3 p hp, by rw [h93]; exact e4 p hp⟩)) rfl rfl (Nat.le_of_ble_eq_true rfl) ?_
              refine b_if_ne 124 dX12_laysShown_118 (by decide) (fun c1 => ?_) (fun c1 => ?_)
              · skip
                have c2 : key (tq L who i) L.P < key (tq L who a0) L.P := by simpa using (bI_1 _).mp c1
                exact cp s2 z6 h1 h2 hv hq (fun _ => ⟨a0, e2, e3, e4, by omega⟩)
              · skip
                have c2 : ¬ key (tq L who i) L.P < key (tq L who a0) L.P := by simpa using (bI_0 _).mp c1
                refine b_goto 160 dX12_laysShown_121 (by decide) ?_
                refine nxt9 s2 true _ _ _ h1 h2 (skp s2 h93 (Or.inr ⟨hv, rfl, fun a1 b1 b2 b3 => ?_⟩))
                have : ∀ q, q < L.P → tq L who a1 q = tq L who a0 q := fun q hq9 => by
                  have t1 := tq_256 hb.2.1 (show a1 < 2 ^ L.F by omega) b3 q hq9
                  have t2 := tq_256 hb.2.1 (show a0 < 2 ^ L.F by omega) e3 q hq9
                  have := (b2 q hq9).symm.trans (e4 q hq9)
                  rw [nI_eq (by omega) (by omega)] at this; exact this
                have k2 : key (tq L who a1) L.P = key (tq L who a0) L.P := by unfold key; rw [sB_cg L.P this, nm_cg L.P this]
                omega
      have lp3 : ∀ (m p : Nat) (s2 : ST), p + m = L.P → (∀ c, ¬ k8893 c → s2 c = s c) → CT s2 L (fun _ _ => True) → (∀ q, s2 93 q = s1 93 q) → (∀ q, q < p → q ≠ who → ¬ afV L q bd = -1) → (∀ q, q < p → s2 92 q = nI (tq L who i q)) → BB G RX12 cX12_laysShown 7 (some .boolean) (d + 3) (QM G (fun r h' => ∃ (s' : ST) (sm : Bool), r = some (.int (bI sm)) ∧ h' = sh G s' μ ∧ (∀ c, ¬ k8893 c → s' c = s c) ∧ RB s' L who sm (2 ^ L.F))) 40 [some (.ref (G.b0 + 77)), some (.int (nI who)), some (.int (bI sm)), some (.int (nI i)), some (.int (nI bd)), some (.int (bI true)), some (.int (nI p))] [] (sh G s2 μ) := by
        intro m
        induction m with
        | zero =>
          intro p s2 hp h1 h2 h93 hv hq
          have hM2 : MV s2 L := MV_of hM (by rw [h1 77 (by unfold k8893; omega)]) (h1 78 (by unfold k8893; omega))
          refine b_iload dX12_laysShown_40 rfl ?_
          refine b_aload_n dX12_laysShown_42 rfl ?_
          refine g_get dX12_laysShown_43 fX12_13 a77 rfl ?_
          refine b_iconst (v := nI 3) dX12_laysShown_46 (by decide) ?_
          refine g_iald dX12_laysShown_47 a78 rfl (by omega) ?_
          refine b_top hM2.cP ?_
          refine b_icmp_ge_t 105 dX12_laysShown_48 (by decide) (nI_le (by omega) (by omega)) ?_
          exact dn s2 true _ h1 h2 h93 (fun z => absurd z (by simp)) (fun _ => ⟨fun q hq9 hne => by rw [hbd]; exact hv q (by omega) hne, fun q hq9 => hq q (by omega)⟩)
        | succ m ihm =>
          intro p s2 hp h1 h2 h93 hv hq
          have hM2 : MV s2 L := MV_of hM (by rw [h1 77 (by unfold k8893; omega)]) (h1 78 (by unfold k8893; omega))
          refine b_iload dX12_laysShown_40 rfl ?_
          refine b_aload_n dX12_laysShown_42 rfl ?_
          refine g_get dX12_laysShown_43 fX12_13 a77 rfl ?_
          refine b_iconst (v := nI 3) dX12_laysShown_46 (by decide) ?_
          refine g_iald dX12_laysShown_47 a78 rfl (by omega) ?_
          refine b_top hM2.cP ?_
          refine b_icmp_ge_f 105 dX12_laysShown_48 (by decide) (nI_ge (by omega) (by omega)) ?_
          refine b_iload dX12_laysShown_51 rfl ?_
          refine b_if_eq_f 105 dX12_laysShown_53 (by decide) (by decide) ?_
          refine b_aload_n dX12_laysShown_56 rfl ?_
          refine g_get dX12_laysShown_57 fX12_60 a77 rfl ?_
          refine b_iload dX12_laysShown_60 rfl ?_
          refine b_iload dX12_laysShown_62 rfl ?_
          refine b_iload_n dX12_laysShown_64 rfl ?_
          have st : ∀ v : Int32, (v = -1 → p ≠ who ∧ afV L p bd = -1) → (¬ v = -1 → v = nI (tq L who i p) ∧ (p ≠ who → ¬ afV L p bd = -1)) → BB G RX12 cX12_laysShown 7 (some .boolean) (d + 3) (QM G (fun r h' => ∃ (s' : ST) (sm : Bool), r = some (.int (bI sm)) ∧ h' = sh G s' μ ∧ (∀ c, ¬ k8893 c → s' c = s c) ∧ RB s' L who sm (2 ^ L.F))) 80 [some (.ref (G.b0 + 77)), some (.int (nI who)), some (.int (bI sm)), some (.int (nI i)), some (.int (nI bd)), some (.int (bI true)), some (.int (nI p))] [.int v, .int (nI p), .ref (G.b0 + 92)] (sh G s2 μ) := by
            intro v hv1 hv2
            refine g_iast dX12_laysShown_80 a92 rfl (by omega) ?_
            refine b_aload_n dX12_laysShown_81 rfl ?_
            refine g_get dX12_laysShown_82 fX12_60 a77 rfl ?_
            refine b_iload dX12_laysShown_85 rfl ?_
            refine g_iald dX12_laysShown_87 a92 rfl (by omega) ?_
            refine b_top (pt_s _ _ _ _) ?_
            refine b_iconst (v := -1) dX12_laysShown_88 (by decide) ?_
            have f1 : ∀ c, ¬ k8893 c → pt s2 92 p v c = s c := fun c h => by rw [pt_r (by unfold k8893 at h; omega)]; exact h1 c h
            have f2 := CT_of (s' := pt s2 92 p v) h2 (fun c h => pt_r (by omega))
            have f3 : ∀ q, pt s2 92 p v 93 q = s1 93 q := fun q => by rw [pt_a (by omega)]; exact h93 q
            refine b_icmp_eq 96 dX12_laysShown_89 (by decide) (fun c6 => ?_) (fun c6 => ?_)
            · skip
              obtain ⟨n1, n2⟩ := hv1 c6
              refine b_iconst (v := nI 0) dX12_laysShown_96 (by decide) ?_
              refine b_istore dX12_laysShown_97 (by decide) rfl ?_
              refine b_iinc dX12_laysShown_99 rfl (nI_1 _) (by decide) rfl ?_
              refine b_goto 40 dX12_laysShown_102 (by decide) ?_
              -- the next look ends it
              have hM3 : MV (pt s2 92 p v) L := MV_of hM2 (by rw [pt_a (by omega)]) (pt_r (by omega))
              show BB G RX12 cX12_laysShown 7 (some .boolean) (d + 3) (QM G (fun r h' => ∃ (s' : ST) (sm : Bool), r = some (.int (bI sm)) ∧ h' = sh G s' μ ∧ (∀ c, ¬ k8893 c → s' c = s c) ∧ RB s' L who sm (2 ^ L.F))) 40 [some (.ref (G.b0 + 77)), some (.int (nI who)), some (.int (bI sm)), some (.int (nI i)), some (.int (nI bd)), some (.int (bI false)), some (.int (nI (p + 1)))] [] (sh G (pt s2 92 p v) μ)
              have nv : ¬ vq L who i := fun z => z p (by omega) n1 (by rw [hbd]; exact n2)
              refine b_iload dX12_laysShown_40 rfl ?_
              refine b_aload_n dX12_laysShown_42 rfl ?_
              refine g_get dX12_laysShown_43 fX12_13 a77 rfl ?_
              refine b_iconst (v := nI 3) dX12_laysShown_46 (by decide) ?_
              refine g_iald dX12_laysShown_47 a78 rfl (by omega) ?_
              refine b_top hM3.cP ?_
              by_cases e9 : L.P ≤ p + 1
              · skip
                refine b_icmp_ge_t 105 dX12_laysShown_48 (by decide) (nI_le e9 (by omega)) ?_
                exact dn _ false _ f1 f2 f3 (fun _ => nv) (fun z => absurd z (by simp))
              · skip
                refine b_icmp_ge_f 105 dX12_laysShown_48 (by decide) (nI_ge (by omega) (by omega)) ?_
                refine b_iload dX12_laysShown_51 rfl ?_
                refine b_if_eq_t 105 dX12_laysShown_53 (by decide) (by decide) ?_
                exact dn _ false _ f1 f2 f3 (fun _ => nv) (fun z => absurd z (by simp))
            · skip
              obtain ⟨n1, n2⟩ := hv2 c6
              refine b_iconst (v := nI 1) dX12_laysShown_92 (by decide) ?_
              refine b_goto 97 dX12_laysShown_93 (by decide) ?_
              refine b_istore dX12_laysShown_97 (by decide) rfl ?_
              refine b_iinc dX12_laysShown_99 rfl (nI_1 _) (by decide) rfl ?_
              refine b_goto 40 dX12_laysShown_102 (by decide) ?_
              refine ihm (p + 1) _ (by omega) f1 f2 f3 (fun q hq9 hne => ?_) (fun q hq9 => ?_)
              · by_cases e : q = p
                · rw [e]; exact n2 (by rw [← e]; exact hne)
                · exact hv q (by omega) hne
              · by_cases e : q = p
                · subst e; rw [pt_s]; exact n1
                · rw [pt_j e]; exact hq q (by omega)
          refine b_icmp_ne 72 dX12_laysShown_65 (by decide) (fun c7 => ?_) (fun c7 => ?_)
          · skip
            have d7 : ¬ p = who := fun z => c7 (by rw [z])
            refine b_aload_n dX12_laysShown_72 rfl ?_
            refine b_iload dX12_laysShown_73 rfl ?_
            refine b_iload dX12_laysShown_75 rfl ?_
            refine g_callV [.int (nI p), .int (nI bd)] dX12_laysShown_77 kX12_askedFor lX12_341 a77 rfl rfl (m_askedFor hM2 h2 (show p < L.P by omega) (show bd < 200 by omega)) rfl rfl (Nat.le_of_ble_eq_true rfl) ?_
            refine st _ (fun z => ⟨d7, z⟩) (fun z => ⟨?_, fun _ => z⟩)
            have := (af_ok hb.2.1 z).2.1
            rw [tq, if_neg d7, hbd]; exact this
          · skip
            have d7 : p = who := by rw [nI_eq (by omega) (by omega)] at c7; exact c7
            refine b_iload_n dX12_laysShown_68 rfl ?_
            refine b_goto 80 dX12_laysShown_69 (by decide) ?_
            refine st _ (fun z => absurd z (nI_m1 (by omega))) (fun _ => ⟨by rw [tq, if_pos d7], fun z => absurd d7 z⟩)
      exact lp3 L.P 0 s1 (by omega) hs hC (fun _ => rfl) (fun q hq => absurd hq (by omega)) (fun q hq => absurd hq (by omega))
  exact lp (2 ^ L.F) 0 s0 false _ _ _ (by omega) hs0 hC0 (Or.inl ⟨rfl, fun a ha => absurd ha (by omega)⟩)

