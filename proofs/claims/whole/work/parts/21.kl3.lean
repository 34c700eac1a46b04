/-! ===== KnowsLeast: differ, appeals, right, justice, brief, questions ===== -/
def mDf1 (x y : Nat → Int32) (p : Nat) : Nat → Nat
  | 0 => 0
  | q + 1 => mDf1 x y p q + if p < q ∧ mCmp (x p) (x q) * mCmp (y p) (y q) < 0 then 1 else 0
def mDf (x y : Nat → Int32) (P : Nat) : Nat → Nat
  | 0 => 0
  | p + 1 => mDf x y P p + mDf1 x y p P
theorem mDf1_0 (x y : Nat → Int32) (p : Nat) : ∀ q, q ≤ p + 1 → mDf1 x y p q = 0
  | 0, _ => rfl
  | q + 1, h => by
    rw [mDf1, mDf1_0 x y p q (by omega), if_neg (by omega)]
def oDiffer (L : LD) (m n : Int32) : Int32 := if inR m 4 && inR n 4 then nI (mDf (fun p => amt L (ix m) p L.t) (fun p => amt L (ix n) p L.t) L.P L.P) else -2
theorem c_X_differ {G : GT} {d : Nat} {σ : ST} {μ : SL} {W F P t : Nat} {m n : Int32} (hX : XV σ W F P t) : Fn G (d + 4) mX11_differ [.ref (G.b0 + 0), .int m, .int n] (sh G σ μ) (Ret (some (.int (oDiffer (vX σ W F P t) m n))) (sh G σ μ)) := by
  obtain ⟨⟨hW, hF, hP, hW16, hF8, hP6⟩, -⟩ := id hX
  refine fn_of (ls := [some (.ref (G.b0 + 0)), some (.int m), some (.int n), none, none, none, none, none]) (by decide +kernel) (Nat.le_of_ble_eq_true rfl) 5 rfl ?_
  refine b_iload_n dX11_differ_0 rfl ?_
  refine b_callSr [.int m] dX11_differ_1 kX11_isMeasure lX11_239 c_isMeasure rfl rfl (Nat.le_of_ble_eq_true rfl) ?_
  refine b_if_eq 14 dX11_differ_4 (by decide) (fun c1 => ?_) (fun c1 => ?_)
  · skip
    refine b_bipush (v := -2) dX11_differ_14 (by decide) ?_
    exact b_iret dX11_differ_16 ⟨by simp [oDiffer, (bI_0 _).mp c1], rfl⟩
  · skip
    have c2 := (bI_1 _).mp c1
    obtain ⟨j, hj, rfl⟩ := inR_of (by omega) c2
    have hix := ix_nI (show j < 2 ^ 31 by omega)
    refine b_iload_n dX11_differ_7 rfl ?_
    refine b_callSr [.int n] dX11_differ_8 kX11_isMeasure lX11_239 c_isMeasure rfl rfl (Nat.le_of_ble_eq_true rfl) ?_
    refine b_if_ne 17 dX11_differ_11 (by decide) (fun c3 => ?_) (fun c3 => ?_)
    · skip
      have c4 := (bI_1 _).mp c3
      obtain ⟨k, hk, rfl⟩ := inR_of (by omega) c4
      have hkx := ix_nI (show k < 2 ^ 31 by omega)
      have hE : oDiffer (vX σ W F P t) (nI j) (nI k) = nI (mDf (fun p => amt (vX σ W F P t) j p t) (fun p => amt (vX σ W F P t) k p t) P P) := by simp only [oDiffer, c2, c4, hix, hkx, Bool.and_true, if_true]
      generalize hf : (fun p => amt (vX σ W F P t) j p t) = fx at hE
      generalize hg : (fun p => amt (vX σ W F P t) k p t) = fy at hE
      have ef : ∀ p, amt (vX σ W F P t) j p t = fx p := fun p => congrFun hf p
      have eg : ∀ p, amt (vX σ W F P t) k p t = fy p := fun p => congrFun hg p
      refine b_iconst (v := nI 0) dX11_differ_17 (by decide) ?_
      refine b_istore_n dX11_differ_18 (by decide) rfl ?_
      refine b_iconst (v := nI 0) dX11_differ_19 (by decide) ?_
      refine b_istore dX11_differ_20 (by decide) rfl ?_
      have lp : ∀ (n i : Nat) (z5 z6 z7 : Option Value), i + n = P → okst [some (.ref (G.b0 + 0)), some (.int (nI j)), some (.int (nI k)), some (.int (nI 0)), some (.int (nI 0)), z5, z6, z7] 6 = true → okst [some (.ref (G.b0 + 0)), some (.int (nI j)), some (.int (nI k)), some (.int (nI 0)), some (.int (nI 0)), z5, z6, z7] 7 = true → BB G RX11 cX11_differ 8 (some .int) (d + 4) (QM G (Ret (some (.int (oDiffer (vX σ W F P t) (nI j) (nI k)))) (sh G σ μ))) 22 [some (.ref (G.b0 + 0)), some (.int (nI j)), some (.int (nI k)), some (.int (nI (mDf fx fy P i))), some (.int (nI i)), z5, z6, z7] [] (sh G σ μ) := by
        intro n
        induction n with
        | zero =>
          intro i z5 z6 z7 hi o6 o7
          refine b_iload dX11_differ_22 rfl ?_
          refine b_aload_n dX11_differ_24 rfl ?_
          refine g_get dX11_differ_25 fX11_23 a0 rfl ?_
          refine g_geti (x := nI P) dX11_differ_28 fX11_171 a20 rfl hP ?_
          refine b_icmp_ge_t 113 dX11_differ_31 (by decide) (nI_le (by omega) (by omega)) ?_
          refine b_iload_n dX11_differ_113 rfl ?_
          exact b_iret dX11_differ_114 ⟨by rw [hE, show i = P by omega], rfl⟩
        | succ n ih =>
          intro i z5 z6 z7 hi o6 o7
          refine b_iload dX11_differ_22 rfl ?_
          refine b_aload_n dX11_differ_24 rfl ?_
          refine g_get dX11_differ_25 fX11_23 a0 rfl ?_
          refine g_geti (x := nI P) dX11_differ_28 fX11_171 a20 rfl hP ?_
          refine b_icmp_ge_f 113 dX11_differ_31 (by decide) (nI_ge (by omega) (by omega)) ?_
          refine b_iload dX11_differ_34 rfl ?_
          refine b_iconst (v := nI 1) dX11_differ_36 (by decide) ?_
          refine b_iaddN dX11_differ_37 ?_
          refine b_istore dX11_differ_38 (by decide) rfl ?_
          have lq : ∀ (u q : Nat) (z6 z7 : Option Value), q + u = P → i < q → okst [some (.ref (G.b0 + 0)), some (.int (nI j)), some (.int (nI k)), some (.int (nI 0)), some (.int (nI 0)), some (.int (nI q)), z6, z7] 7 = true → BB G RX11 cX11_differ 8 (some .int) (d + 4) (QM G (Ret (some (.int (oDiffer (vX σ W F P t) (nI j) (nI k)))) (sh G σ μ))) 40 [some (.ref (G.b0 + 0)), some (.int (nI j)), some (.int (nI k)), some (.int (nI (mDf fx fy P i + mDf1 fx fy i q))), some (.int (nI i)), some (.int (nI q)), z6, z7] [] (sh G σ μ) := by
            intro u
            induction u with
            | zero =>
              intro q z6 z7 hq hiq o7
              refine b_iload dX11_differ_40 rfl ?_
              refine b_aload_n dX11_differ_42 rfl ?_
              refine g_get dX11_differ_43 fX11_23 a0 rfl ?_
              refine g_geti (x := nI P) dX11_differ_46 fX11_171 a20 rfl hP ?_
              refine b_icmp_ge_t 107 dX11_differ_49 (by decide) (nI_le (by omega) (by omega)) ?_
              refine b_iinc dX11_differ_107 rfl (nI_1 _) (by decide) rfl ?_
              refine b_goto 22 dX11_differ_110 (by decide) ?_
              have e : mDf fx fy P i + mDf1 fx fy i q = mDf fx fy P (i + 1) := by rw [mDf, show q = P by omega]
              rw [e]
              exact ih (i + 1) _ _ _ (by omega) rfl o7
            | succ u ihu =>
              intro q z6 z7 hq hiq o7
              refine b_iload dX11_differ_40 rfl ?_
              refine b_aload_n dX11_differ_42 rfl ?_
              refine g_get dX11_differ_43 fX11_23 a0 rfl ?_
              refine g_geti (x := nI P) dX11_differ_46 fX11_171 a20 rfl hP ?_
              refine b_icmp_ge_f 107 dX11_differ_49 (by decide) (nI_ge (by omega) (by omega)) ?_
              refine b_aload_n dX11_differ_52 rfl ?_
              refine b_iload dX11_differ_53 rfl ?_
              refine b_iload_n dX11_differ_55 rfl ?_
              refine g_callV [.int (nI i), .int (nI j)] dX11_differ_56 kX11_amount lX11_242 a0 rfl rfl (c_amount hX (by omega) hj) rfl rfl (Nat.le_of_ble_eq_true rfl) ?_
              refine b_aload_n dX11_differ_59 rfl ?_
              refine b_iload dX11_differ_60 rfl ?_
              refine b_iload_n dX11_differ_62 rfl ?_
              refine g_callV [.int (nI q), .int (nI j)] dX11_differ_63 kX11_amount lX11_242 a0 rfl rfl (c_amount hX (by omega) hj) rfl rfl (Nat.le_of_ble_eq_true rfl) ?_
              refine b_callSr [.int (amt (vX σ W F P t) j i t), .int (amt (vX σ W F P t) j q t)] dX11_differ_66 kJ6_compare_7cf53 lX11_248 c_compare rfl rfl (Nat.le_of_ble_eq_true rfl) ?_
              refine b_istore dX11_differ_69 (by decide) rfl ?_
              refine b_aload_n dX11_differ_71 rfl ?_
              refine b_iload dX11_differ_72 rfl ?_
              refine b_iload_n dX11_differ_74 rfl ?_
              refine g_callV [.int (nI i), .int (nI k)] dX11_differ_75 kX11_amount lX11_242 a0 rfl rfl (c_amount hX (by omega) hk) rfl rfl (Nat.le_of_ble_eq_true rfl) ?_
              refine b_aload_n dX11_differ_78 rfl ?_
              refine b_iload dX11_differ_79 rfl ?_
              refine b_iload_n dX11_differ_81 rfl ?_
              refine g_callV [.int (nI q), .int (nI k)] dX11_differ_82 kX11_amount lX11_242 a0 rfl rfl (c_amount hX (by omega) hk) rfl rfl (Nat.le_of_ble_eq_true rfl) ?_
              refine b_callSr [.int (amt (vX σ W F P t) k i t), .int (amt (vX σ W F P t) k q t)] dX11_differ_85 kJ6_compare_7cf53 lX11_248 c_compare rfl rfl (Nat.le_of_ble_eq_true rfl) ?_
              refine b_istore dX11_differ_88 (by decide) rfl ?_
              refine b_iload dX11_differ_90 rfl ?_
              refine b_iload dX11_differ_92 rfl ?_
              refine b_imul dX11_differ_94 ?_
              refine b_if_ge 101 dX11_differ_95 (by decide) (fun c5 => ?_) (fun c5 => ?_)
              · skip
                refine b_iinc dX11_differ_101 rfl (nI_1 _) (by decide) rfl ?_
                refine b_goto 40 dX11_differ_104 (by decide) ?_
                rw [ef, ef, eg, eg] at c5
                have e : mDf fx fy P i + mDf1 fx fy i q = mDf fx fy P i + mDf1 fx fy i (q + 1) := by
                  rw [mDf1, if_neg (fun z => Int32.not_lt.mpr c5 z.2), Nat.add_zero]
                rw [e]
                exact ihu (q + 1) _ _ (by omega) (by omega) rfl
              · skip
                refine b_iinc dX11_differ_98 rfl (nI_1 _) (by decide) rfl ?_
                refine b_iinc dX11_differ_101 rfl (nI_1 _) (by decide) rfl ?_
                refine b_goto 40 dX11_differ_104 (by decide) ?_
                rw [ef, ef, eg, eg] at c5
                have e : mDf fx fy P i + mDf1 fx fy i q + 1 = mDf fx fy P i + mDf1 fx fy i (q + 1) := by
                  rw [mDf1, if_pos ⟨hiq, Int32.not_le.mp c5⟩]; omega
                rw [e]
                exact ihu (q + 1) _ _ (by omega) (by omega) rfl
          have h0 := lq (P - (i + 1)) (i + 1) z6 z7 (by omega) (by omega) o7
          rw [mDf1_0 fx fy i (i + 1) (by omega), Nat.add_zero] at h0
          exact h0
      exact lp P 0 _ _ _ (by omega) rfl rfl
    · skip
      refine b_bipush (v := -2) dX11_differ_14 (by decide) ?_
      exact b_iret dX11_differ_16 ⟨by simp [oDiffer, (bI_0 _).mp c3], rfl⟩
/-! appeals -/
def mUp (x : Nat → Int32) (has : Int32) : Nat → Int32 × Int32
  | 0 => (-1, nI 0)
  | q + 1 => if x q ≤ has then mUp x has q else if (mUp x has q).1 = -1 ∨ x q < (mUp x has q).2 then (nI q, x q) else mUp x has q
theorem mUp_ok (x : Nat → Int32) (has : Int32) : ∀ n, (mUp x has n).1 = -1 ∨ ∃ q, q < n ∧ (mUp x has n).1 = nI q
  | 0 => Or.inl rfl
  | n + 1 => by
    have ih := mUp_ok x has n
    have up : ((mUp x has n).1 = -1 ∨ ∃ q, q < n ∧ (mUp x has n).1 = nI q) → ((mUp x has n).1 = -1 ∨ ∃ q, q < n + 1 ∧ (mUp x has n).1 = nI q) := by
      rintro (h | ⟨q, h1, h2⟩)
      · exact Or.inl h
      · exact Or.inr ⟨q, by omega, h2⟩
    unfold mUp
    split
    · exact up ih
    · split
      · exact Or.inr ⟨n, by omega, rfl⟩
      · exact up ih
theorem c_nextAbove {G : GT} {d : Nat} {σ : ST} {μ : SL} {W F P t p m : Nat} (hX : XV σ W F P t) (hp : p < 6) (hm : m < 4) : Fn G (d + 4) mX11_nextAbove [.ref (G.b0 + 0), .int (nI p), .int (nI m)] (sh G σ μ) (Ret (some (.int (mUp (fun q => amt (vX σ W F P t) m q t) (amt (vX σ W F P t) m p t) P).1)) (sh G σ μ)) := by
  obtain ⟨⟨hW, hF, hP, hW16, hF8, hP6⟩, -⟩ := id hX
  refine fn_of (ls := [some (.ref (G.b0 + 0)), some (.int (nI p)), some (.int (nI m)), none, none, none, none, none]) (by decide +kernel) (Nat.le_of_ble_eq_true rfl) 5 rfl ?_
  refine b_aload_n dX11_nextAbove_0 rfl ?_
  refine b_iload_n dX11_nextAbove_1 rfl ?_
  refine b_iload_n dX11_nextAbove_2 rfl ?_
  refine g_callV [.int (nI p), .int (nI m)] dX11_nextAbove_3 kX11_amount lX11_242 a0 rfl rfl (c_amount hX (by omega) hm) rfl rfl (Nat.le_of_ble_eq_true rfl) ?_
  refine b_istore_n dX11_nextAbove_6 (by decide) rfl ?_
  refine b_iconst (v := -1) dX11_nextAbove_7 (by decide) ?_
  refine b_istore dX11_nextAbove_8 (by decide) rfl ?_
  refine b_iconst (v := nI 0) dX11_nextAbove_10 (by decide) ?_
  refine b_istore dX11_nextAbove_11 (by decide) rfl ?_
  refine b_iconst (v := nI 0) dX11_nextAbove_13 (by decide) ?_
  refine b_istore dX11_nextAbove_14 (by decide) rfl ?_
  have lp : ∀ (n i : Nat) (b bh : Int32) (z : Option Value), i + n = P → (b, bh) = mUp (fun q => amt (vX σ W F P t) m q t) (amt (vX σ W F P t) m p t) i → BB G RX11 cX11_nextAbove 8 (some .int) (d + 4) (QM G (Ret (some (.int (mUp (fun q => amt (vX σ W F P t) m q t) (amt (vX σ W F P t) m p t) P).1)) (sh G σ μ))) 16 [some (.ref (G.b0 + 0)), some (.int (nI p)), some (.int (nI m)), some (.int (amt (vX σ W F P t) m p t)), some (.int b), some (.int bh), some (.int (nI i)), z] [] (sh G σ μ) := by
    intro n
    induction n with
    | zero =>
      intro i b bh z hi hx
      refine b_iload dX11_nextAbove_16 rfl ?_
      refine b_aload_n dX11_nextAbove_18 rfl ?_
      refine g_get dX11_nextAbove_19 fX11_23 a0 rfl ?_
      refine g_geti (x := nI P) dX11_nextAbove_22 fX11_171 a20 rfl hP ?_
      refine b_icmp_ge_t 70 dX11_nextAbove_25 (by decide) (nI_le (by omega) (by omega)) ?_
      refine b_iload dX11_nextAbove_70 rfl ?_
      exact b_iret dX11_nextAbove_72 ⟨by have e : i = P := (by omega); subst e; rw [← hx], rfl⟩
    | succ n ih =>
      intro i b bh z hi hx
      refine b_iload dX11_nextAbove_16 rfl ?_
      refine b_aload_n dX11_nextAbove_18 rfl ?_
      refine g_get dX11_nextAbove_19 fX11_23 a0 rfl ?_
      refine g_geti (x := nI P) dX11_nextAbove_22 fX11_171 a20 rfl hP ?_
      refine b_icmp_ge_f 70 dX11_nextAbove_25 (by decide) (nI_ge (by omega) (by omega)) ?_
      refine b_aload_n dX11_nextAbove_28 rfl ?_
      refine b_iload dX11_nextAbove_29 rfl ?_
      refine b_iload_n dX11_nextAbove_31 rfl ?_
      refine g_callV [.int (nI i), .int (nI m)] dX11_nextAbove_32 kX11_amount lX11_242 a0 rfl rfl (c_amount hX (by omega) hm) rfl rfl (Nat.le_of_ble_eq_true rfl) ?_
      refine b_istore dX11_nextAbove_35 (by decide) rfl ?_
      refine b_iload dX11_nextAbove_37 rfl ?_
      refine b_iload_n dX11_nextAbove_39 rfl ?_
      refine b_icmp_le 64 dX11_nextAbove_40 (by decide) (fun c1 => ?_) (fun c1 => ?_)
      · skip
        refine b_iinc dX11_nextAbove_64 rfl (nI_1 _) (by decide) rfl ?_
        refine b_goto 16 dX11_nextAbove_67 (by decide) ?_
        exact ih (i + 1) _ _ _ (by omega) (by rw [mUp, ← hx]; exact (if_pos c1).symm)
      · skip
        refine b_iload dX11_nextAbove_43 rfl ?_
        refine b_iconst (v := -1) dX11_nextAbove_45 (by decide) ?_
        refine b_icmp_eq 56 dX11_nextAbove_46 (by decide) (fun c2 => ?_) (fun c2 => ?_)
        · skip
          refine b_iload dX11_nextAbove_56 rfl ?_
          refine b_istore dX11_nextAbove_58 (by decide) rfl ?_
          refine b_iload dX11_nextAbove_60 rfl ?_
          refine b_istore dX11_nextAbove_62 (by decide) rfl ?_
          refine b_iinc dX11_nextAbove_64 rfl (nI_1 _) (by decide) rfl ?_
          refine b_goto 16 dX11_nextAbove_67 (by decide) ?_
          exact ih (i + 1) _ _ _ (by omega) (by rw [mUp, ← hx, if_neg c1]; exact (if_pos (Or.inl c2)).symm)
        · skip
          refine b_iload dX11_nextAbove_49 rfl ?_
          refine b_iload dX11_nextAbove_51 rfl ?_
          refine b_icmp_ge 64 dX11_nextAbove_53 (by decide) (fun c3 => ?_) (fun c3 => ?_)
          · skip
            refine b_iinc dX11_nextAbove_64 rfl (nI_1 _) (by decide) rfl ?_
            refine b_goto 16 dX11_nextAbove_67 (by decide) ?_
            exact ih (i + 1) _ _ _ (by omega) (by rw [mUp, ← hx, if_neg c1]; exact (if_neg (fun z => z.elim c2 (Int32.not_lt.mpr c3))).symm)
          · skip
            refine b_iload dX11_nextAbove_56 rfl ?_
            refine b_istore dX11_nextAbove_58 (by decide) rfl ?_
            refine b_iload dX11_nextAbove_60 rfl ?_
            refine b_istore dX11_nextAbove_62 (by decide) rfl ?_
            refine b_iinc dX11_nextAbove_64 rfl (nI_1 _) (by decide) rfl ?_
            refine b_goto 16 dX11_nextAbove_67 (by decide) ?_
            exact ih (i + 1) _ _ _ (by omega) (by rw [mUp, ← hx, if_neg c1]; exact (if_pos (Or.inr (Int32.not_le.mp c3))).symm)
  exact lp P 0 _ _ _ (by omega) rfl
/-- so many appeals at most: how many, where it ends -/
def mApp (x : Nat → Int32) (P : Nat) : Nat → Nat → Nat × Nat
  | 0, j => (0, j)
  | k + 1, j => if (mUp x (x j) P).1 = -1 then (0, j) else ((mApp x P k (ix (mUp x (x j) P).1)).1 + 1, (mApp x P k (ix (mUp x (x j) P).1)).2)
def oAppeals (L : LD) (p m what : Int32) : Int32 := if inR p L.P && inR m 4 && inR what 2 then (if what = 0 then nI (mApp (fun q => amt L (ix m) q L.t) L.P 6 (ix p)).1 else nI (mApp (fun q => amt L (ix m) q L.t) L.P 6 (ix p)).2) else -2
theorem c_X_appeals {G : GT} {d : Nat} {σ : ST} {μ : SL} {W F P t : Nat} {p m x : Int32} (hX : XV σ W F P t) : Fn G (d + 5) mX11_appeals [.ref (G.b0 + 0), .int p, .int m, .int x] (sh G σ μ) (Ret (some (.int (oAppeals (vX σ W F P t) p m x))) (sh G σ μ)) := by
  obtain ⟨⟨hW, hF, hP, hW16, hF8, hP6⟩, -⟩ := id hX
  refine fn_of (ls := [some (.ref (G.b0 + 0)), some (.int p), some (.int m), some (.int x), none, none, none]) (by decide +kernel) (Nat.le_of_ble_eq_true rfl) 3 rfl ?_
  refine b_aload_n dX11_appeals_0 rfl ?_
  refine b_iload_n dX11_appeals_1 rfl ?_
  refine g_callV [.int p] dX11_appeals_2 kX11_isPerson lX11_136 a0 rfl rfl (c_isPerson hP) rfl rfl (Nat.le_of_ble_eq_true rfl) ?_
  refine b_if_eq 24 dX11_appeals_5 (by decide) (fun c1 => ?_) (fun c1 => ?_)
  · skip
    refine b_bipush (v := -2) dX11_appeals_24 (by decide) ?_
    exact b_iret dX11_appeals_26 ⟨by simp [oAppeals, (bI_0 _).mp c1], rfl⟩
  · skip
    have c2 := (bI_1 _).mp c1
    obtain ⟨j, hj, rfl⟩ := inR_of (by omega) c2
    have hix := ix_nI (show j < 2 ^ 31 by omega)
    refine b_iload_n dX11_appeals_8 rfl ?_
    refine b_callSr [.int m] dX11_appeals_9 kX11_isMeasure lX11_239 c_isMeasure rfl rfl (Nat.le_of_ble_eq_true rfl) ?_
    refine b_if_eq 24 dX11_appeals_12 (by decide) (fun c3 => ?_) (fun c3 => ?_)
    · skip
      refine b_bipush (v := -2) dX11_appeals_24 (by decide) ?_
      exact b_iret dX11_appeals_26 ⟨by simp [oAppeals, (bI_0 _).mp c3], rfl⟩
    · skip
      have c4 := (bI_1 _).mp c3
      obtain ⟨k, hk, rfl⟩ := inR_of (by omega) c4
      have hkx := ix_nI (show k < 2 ^ 31 by omega)
      refine b_iload_n dX11_appeals_15 rfl ?_
      refine b_if_lt 24 dX11_appeals_16 (by decide) (fun c5 => ?_) (fun c5 => ?_)
      · skip
        refine b_bipush (v := -2) dX11_appeals_24 (by decide) ?_
        exact b_iret dX11_appeals_26 ⟨by simp [oAppeals, inR, Int32.not_le.mpr c5], rfl⟩
      · skip
        refine b_iload_n dX11_appeals_19 rfl ?_
        refine b_iconst (v := nI 1) dX11_appeals_20 (by decide) ?_
        refine b_icmp_le 27 dX11_appeals_21 (by decide) (fun c6 => ?_) (fun c6 => ?_)
        · skip
          have c7 : inR x 2 = true := by
            obtain ⟨u, hu, rfl⟩ := nI_of2 (n := 1) (by decide) c5 c6
            rw [inR_nI (by omega) (by omega)]; simp; omega
          have hE : oAppeals (vX σ W F P t) (nI j) (nI k) x = if x = 0 then nI (mApp (fun q => amt (vX σ W F P t) k q t) P 6 j).1 else nI (mApp (fun q => amt (vX σ W F P t) k q t) P 6 j).2 := by simp only [oAppeals, c2, c4, c7, hix, hkx, Bool.and_true, if_true]
          refine b_iload_n dX11_appeals_27 rfl ?_
          refine b_istore dX11_appeals_28 (by decide) rfl ?_
          refine b_iconst (v := nI 0) dX11_appeals_30 (by decide) ?_
          refine b_istore dX11_appeals_31 (by decide) rfl ?_
          have J : ∀ (i q : Nat) (z : Option Value), i = (mApp (fun q => amt (vX σ W F P t) k q t) P 6 j).1 → q = (mApp (fun q => amt (vX σ W F P t) k q t) P 6 j).2 → BB G RX11 cX11_appeals 7 (some .int) (d + 5) (QM G (Ret (some (.int (oAppeals (vX σ W F P t) (nI j) (nI k) x))) (sh G σ μ))) 68 [some (.ref (G.b0 + 0)), some (.int (nI j)), some (.int (nI k)), some (.int x), some (.int (nI q)), some (.int (nI i)), z] [] (sh G σ μ) := by
            intro i q z h1 h2
            refine b_iload_n dX11_appeals_68 rfl ?_
            refine b_if_ne 77 dX11_appeals_69 (by decide) (fun c8 => ?_) (fun c8 => ?_)
            · skip
              refine b_iload dX11_appeals_77 rfl ?_
              exact b_iret dX11_appeals_79 ⟨by rw [hE, if_neg c8, h2], rfl⟩
            · skip
              refine b_iload dX11_appeals_72 rfl ?_
              refine b_goto 79 dX11_appeals_74 (by decide) ?_
              exact b_iret dX11_appeals_79 ⟨by rw [hE, if_pos c8, h1], rfl⟩
          have lp : ∀ (n i q : Nat) (z : Option Value), i + n = 6 → q < P → i + (mApp (fun q => amt (vX σ W F P t) k q t) P n q).1 = (mApp (fun q => amt (vX σ W F P t) k q t) P 6 j).1 → (mApp (fun q => amt (vX σ W F P t) k q t) P n q).2 = (mApp (fun q => amt (vX σ W F P t) k q t) P 6 j).2 → BB G RX11 cX11_appeals 7 (some .int) (d + 5) (QM G (Ret (some (.int (oAppeals (vX σ W F P t) (nI j) (nI k) x))) (sh G σ μ))) 33 [some (.ref (G.b0 + 0)), some (.int (nI j)), some (.int (nI k)), some (.int x), some (.int (nI q)), some (.int (nI i)), z] [] (sh G σ μ) := by
            intro n
            induction n with
            | zero =>
              intro i q z hi hq h1 h2
              refine b_iload dX11_appeals_33 rfl ?_
              refine b_bipush (v := nI 6) dX11_appeals_35 (by decide) ?_
              refine b_icmp_ge_t 68 dX11_appeals_37 (by decide) (nI_le (by omega) (by omega)) ?_
              exact J i q z (by rw [← h1]; rfl) (by rw [← h2]; rfl)
            | succ n ih =>
              intro i q z hi hq h1 h2
              refine b_iload dX11_appeals_33 rfl ?_
              refine b_bipush (v := nI 6) dX11_appeals_35 (by decide) ?_
              refine b_icmp_ge_f 68 dX11_appeals_37 (by decide) (nI_ge (by omega) (by omega)) ?_
              refine b_aload_n dX11_appeals_40 rfl ?_
              refine b_iload dX11_appeals_41 rfl ?_
              refine b_iload_n dX11_appeals_43 rfl ?_
              refine g_callV [.int (nI q), .int (nI k)] dX11_appeals_44 kX11_nextAbove lX11_261 a0 rfl rfl (c_nextAbove hX (by omega) hk) rfl rfl (Nat.le_of_ble_eq_true rfl) ?_
              refine b_istore dX11_appeals_47 (by decide) rfl ?_
              refine b_iload dX11_appeals_49 rfl ?_
              refine b_iconst (v := -1) dX11_appeals_51 (by decide) ?_
              refine b_icmp_ne 58 dX11_appeals_52 (by decide) (fun c8 => ?_) (fun c8 => ?_)
              · skip
                refine b_iload dX11_appeals_58 rfl ?_
                refine b_istore dX11_appeals_60 (by decide) rfl ?_
                refine b_iinc dX11_appeals_62 rfl (nI_1 _) (by decide) rfl ?_
                refine b_goto 33 dX11_appeals_65 (by decide) ?_
                rw [mApp, if_neg c8] at h1 h2
                rcases mUp_ok (fun q => amt (vX σ W F P t) k q t) (amt (vX σ W F P t) k q t) P with h3 | ⟨q', h3, h4⟩
                · exact absurd h3 c8
                rw [h4]
                rw [h4, ix_nI (by omega)] at h1 h2
                exact ih (i + 1) q' _ (by omega) h3 (by rw [← h1]; show _ = i + (_ + 1); omega) h2
              · skip
                refine b_goto 68 dX11_appeals_55 (by decide) ?_
                rw [mApp, if_pos c8] at h1 h2
                exact J i q _ h1 h2
          exact lp 6 0 j _ (by omega) hj (by omega) rfl
        · skip
          refine b_bipush (v := -2) dX11_appeals_24 (by decide) ?_
          have c7 : inR x 2 = false := by
            have h1 : ¬ x < nI 2 := fun z => by
              rcases pk_ix x (n := 2) (by omega) with h2 | h2 | ⟨u, hu, rfl⟩
              · exact c5 h2
              · exact absurd z (Int32.not_lt.mpr h2)
              · exact c6 (nI_le (by omega) (by omega))
            simp [inR, h1]
          exact b_iret dX11_appeals_26 ⟨by simp [oAppeals, c7], rfl⟩

