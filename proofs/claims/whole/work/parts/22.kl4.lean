/-! ===== KnowsLeast: right, justice, brief, questions ===== -/
section Locs
variable {G : GT} {own : String} {cc : ByteArray} {nL : Nat} {ret : Option FieldType} {d : Nat} {Q : QT} {pc : Nat} {ls ls' : LT} {st : List Value} {h : HT}
theorem b_locs (e : ls = ls') (k : BB G own cc nL ret d Q pc ls' st h) : BB G own cc nL ret d Q pc ls st h := by rw [e]; exact k
end Locs
def mSumW (wt : Nat → Int32) (ok : Nat → Bool) : Nat → Int32
  | 0 => nI 0
  | w + 1 => if ok w then mSumW wt ok w + wt w else mSumW wt ok w
def isR (L : LD) (p w : Nat) : Bool := mRight L.hold L.wt L.gl L.W L.F (L.told p) w
def oRight (L : LD) (p : Int32) : Int32 := if inR p L.P then mSumW L.wt (isR L (ix p)) L.W else -2
theorem c_X_right {G : GT} {d : Nat} {σ : ST} {μ : SL} {W F P t : Nat} {p : Int32} (hX : XV σ W F P t) : Fn G (d + 3) mX11_right [.ref (G.b0 + 0), .int p] (sh G σ μ) (Ret (some (.int (oRight (vX σ W F P t) p))) (sh G σ μ)) := by
  obtain ⟨⟨hW, hF, hP, hW16, hF8, hP6⟩, -⟩ := id hX
  refine fn_of (ls := [some (.ref (G.b0 + 0)), some (.int p), none, none]) (by decide +kernel) (Nat.le_of_ble_eq_true rfl) 2 rfl ?_
  refine b_aload_n dX11_right_0 rfl ?_
  refine b_iload_n dX11_right_1 rfl ?_
  refine g_callV [.int p] dX11_right_2 kX11_isPerson lX11_136 a0 rfl rfl (c_isPerson hP) rfl rfl (Nat.le_of_ble_eq_true rfl) ?_
  refine b_if_ne 11 dX11_right_5 (by decide) (fun c1 => ?_) (fun c1 => ?_)
  · skip
    have c2 := (bI_1 _).mp c1
    obtain ⟨j, hj, rfl⟩ := inR_of (by omega) c2
    have hix := ix_nI (show j < 2 ^ 31 by omega)
    refine b_iconst (v := nI 0) dX11_right_11 (by decide) ?_
    refine b_istore_n dX11_right_12 (by decide) rfl ?_
    refine b_iconst (v := nI 0) dX11_right_13 (by decide) ?_
    refine b_istore_n dX11_right_14 (by decide) rfl ?_
    have lp : ∀ (n i : Nat) (x : Int32), i + n = W → x = mSumW (σ 22) (isR (vX σ W F P t) j) i → BB G RX11 cX11_right 4 (some .int) (d + 3) (QM G (Ret (some (.int (oRight (vX σ W F P t) (nI j)))) (sh G σ μ))) 15 [some (.ref (G.b0 + 0)), some (.int (nI j)), some (.int x), some (.int (nI i))] [] (sh G σ μ) := by
      intro n
      induction n with
      | zero =>
        intro i x hi hx
        refine b_iload_n dX11_right_15 rfl ?_
        refine b_aload_n dX11_right_16 rfl ?_
        refine g_get dX11_right_17 fX11_23 a0 rfl ?_
        refine g_geti (x := nI W) dX11_right_20 fX11_165 a20 rfl hW ?_
        refine b_icmp_ge_t 64 dX11_right_23 (by decide) (nI_le (by omega) (by omega)) ?_
        refine b_iload_n dX11_right_64 rfl ?_
        exact b_iret dX11_right_65 ⟨by simp only [oRight, c2, hix, if_true]; rw [hx, show i = W by omega], rfl⟩
      | succ n ih =>
        intro i x hi hx
        refine b_iload_n dX11_right_15 rfl ?_
        refine b_aload_n dX11_right_16 rfl ?_
        refine g_get dX11_right_17 fX11_23 a0 rfl ?_
        refine g_geti (x := nI W) dX11_right_20 fX11_165 a20 rfl hW ?_
        refine b_icmp_ge_f 64 dX11_right_23 (by decide) (nI_ge (by omega) (by omega)) ?_
        refine b_aload_n dX11_right_26 rfl ?_
        refine g_get dX11_right_27 fX11_23 a0 rfl ?_
        refine b_aload_n dX11_right_30 rfl ?_
        refine g_get dX11_right_31 fX11_30 a0 rfl ?_
        refine g_get dX11_right_34 fX11_142 a26 rfl ?_
        refine b_iload_n dX11_right_37 rfl ?_
        refine g_iald dX11_right_38 a27 rfl (by omega) ?_
        refine b_iload_n dX11_right_39 rfl ?_
        refine g_callV [.int (σ 27 j), .int (nI i)] dX11_right_40 kX2_isRight lX11_289 a20 rfl rfl (c_isRight ln20 hX.1 (by omega)) rfl rfl (Nat.le_of_ble_eq_true rfl) ?_
        refine b_if_eq 58 dX11_right_43 (by decide) (fun c3 => ?_) (fun c3 => ?_)
        · skip
          refine b_iinc dX11_right_58 rfl (nI_1 _) (by decide) rfl ?_
          refine b_goto 15 dX11_right_61 (by decide) ?_
          have d3 : isR (vX σ W F P t) j i = false := (bI_0 _).mp c3
          exact ih (i + 1) _ (by omega) (by rw [mSumW, d3, hx]; rfl)
        · skip
          refine b_iload_n dX11_right_46 rfl ?_
          refine b_aload_n dX11_right_47 rfl ?_
          refine g_get dX11_right_48 fX11_23 a0 rfl ?_
          refine g_get dX11_right_51 fX11_120 a20 rfl ?_
          refine b_iload_n dX11_right_54 rfl ?_
          refine g_iald dX11_right_55 a22 rfl (by omega) ?_
          refine b_iadd dX11_right_56 ?_
          refine b_istore_n dX11_right_57 (by decide) rfl ?_
          refine b_iinc dX11_right_58 rfl (nI_1 _) (by decide) rfl ?_
          refine b_goto 15 dX11_right_61 (by decide) ?_
          have d3 : isR (vX σ W F P t) j i = true := (bI_1 _).mp c3
          exact ih (i + 1) _ (by omega) (by rw [mSumW, d3, hx]; rfl)
    exact lp W 0 _ (by omega) rfl
  · skip
    refine b_bipush (v := -2) dX11_right_8 (by decide) ?_
    exact b_iret dX11_right_10 ⟨by simp [oRight, (bI_0 _).mp c1], rfl⟩
theorem mLst_ok (a : Nat → Int32) : ∀ n, (mLst a n).1 = -1 ∨ ∃ q, q < n ∧ (mLst a n).1 = nI q
  | 0 => Or.inl rfl
  | n + 1 => by
    unfold mLst
    split
    · rcases mLst_ok a n with h | ⟨q, h1, h2⟩
      · exact Or.inl h
      · exact Or.inr ⟨q, by omega, h2⟩
    · exact Or.inr ⟨n, by omega, rfl⟩
theorem inR_m1 {n : Nat} : inR (-1) n = false := by
  have h : ¬ (0 : Int32) ≤ -1 := by decide
  simp [inR, h]
/-- the judge by measure m in world w is right there -/
def jR (L : LD) (m w : Nat) : Bool := inR (lst L m L.told w) L.P && isR L (ix (lst L m L.told w)) w
theorem c_justiceBy {G : GT} {d : Nat} {σ : ST} {μ : SL} {W F P t m : Nat} (hX : XV σ W F P t) (hm : m < 4) : Fn G (d + 4) mX11_justiceBy [.ref (G.b0 + 0), .int (nI m)] (sh G σ μ) (Ret (some (.int (mSumW (σ 22) (jR (vX σ W F P t) m) W))) (sh G σ μ)) := by
  obtain ⟨⟨hW, hF, hP, hW16, hF8, hP6⟩, -⟩ := id hX
  refine fn_of (ls := [some (.ref (G.b0 + 0)), some (.int (nI m)), none, none, none]) (by decide +kernel) (Nat.le_of_ble_eq_true rfl) 3 rfl ?_
  refine b_iconst (v := nI 0) dX11_justiceBy_0 (by decide) ?_
  refine b_istore_n dX11_justiceBy_1 (by decide) rfl ?_
  refine b_iconst (v := nI 0) dX11_justiceBy_2 (by decide) ?_
  refine b_istore_n dX11_justiceBy_3 (by decide) rfl ?_
  have lp : ∀ (n i : Nat) (x : Int32) (z : Option Value), i + n = W → x = mSumW (σ 22) (jR (vX σ W F P t) m) i → BB G RX11 cX11_justiceBy 5 (some .int) (d + 4) (QM G (Ret (some (.int (mSumW (σ 22) (jR (vX σ W F P t) m) W))) (sh G σ μ))) 4 [some (.ref (G.b0 + 0)), some (.int (nI m)), some (.int x), some (.int (nI i)), z] [] (sh G σ μ) := by
    intro n
    induction n with
    | zero =>
      intro i x z hi hx
      refine b_iload_n dX11_justiceBy_4 rfl ?_
      refine b_aload_n dX11_justiceBy_5 rfl ?_
      refine g_get dX11_justiceBy_6 fX11_23 a0 rfl ?_
      refine g_geti (x := nI W) dX11_justiceBy_9 fX11_165 a20 rfl hW ?_
      refine b_icmp_ge_t 81 dX11_justiceBy_12 (by decide) (nI_le (by omega) (by omega)) ?_
      refine b_iload_n dX11_justiceBy_81 rfl ?_
      exact b_iret dX11_justiceBy_82 ⟨by have e : i = W := (by omega); subst e; rw [hx], rfl⟩
    | succ n ih =>
      intro i x z hi hx
      refine b_iload_n dX11_justiceBy_4 rfl ?_
      refine b_aload_n dX11_justiceBy_5 rfl ?_
      refine g_get dX11_justiceBy_6 fX11_23 a0 rfl ?_
      refine g_geti (x := nI W) dX11_justiceBy_9 fX11_165 a20 rfl hW ?_
      refine b_icmp_ge_f 81 dX11_justiceBy_12 (by decide) (nI_ge (by omega) (by omega)) ?_
      refine b_aload_n dX11_justiceBy_15 rfl ?_
      refine g_get dX11_justiceBy_16 fX11_23 a0 rfl ?_
      refine b_iload_n dX11_justiceBy_19 rfl ?_
      refine b_aload_n dX11_justiceBy_20 rfl ?_
      refine g_get dX11_justiceBy_21 fX11_30 a0 rfl ?_
      refine g_get dX11_justiceBy_24 fX11_142 a26 rfl ?_
      refine b_iload_n dX11_justiceBy_27 rfl ?_
      refine g_callV [.int (nI m), .ref (G.b0 + 27), .int (nI i)] dX11_justiceBy_28 kX2_leastBy lX11_218 a20 rfl rfl (c_leastBy ln20 a27 hX.1 hm (by omega)) rfl rfl (Nat.le_of_ble_eq_true rfl) ?_
      refine b_istore dX11_justiceBy_31 (by decide) rfl ?_
      refine b_aload_n dX11_justiceBy_33 rfl ?_
      refine b_iload dX11_justiceBy_34 rfl ?_
      refine g_callV [.int (lst (vX σ W F P t) m (σ 27) i)] dX11_justiceBy_36 kX11_isPerson lX11_136 a0 rfl rfl (c_isPerson hP) rfl rfl (Nat.le_of_ble_eq_true rfl) ?_
      refine b_if_eq 75 dX11_justiceBy_39 (by decide) (fun c1 => ?_) (fun c1 => ?_)
      · skip
        refine b_iinc dX11_justiceBy_75 rfl (nI_1 _) (by decide) rfl ?_
        refine b_goto 4 dX11_justiceBy_78 (by decide) ?_
        have d1 : inR (lst (vX σ W F P t) m (σ 27) i) P = false := (bI_0 _).mp c1
        exact ih (i + 1) _ _ (by omega) (by rw [mSumW, jR, d1, hx]; rfl)
      · skip
        have d1 : inR (lst (vX σ W F P t) m (σ 27) i) P = true := (bI_1 _).mp c1
        obtain ⟨q, hq, hqe⟩ := inR_of (by omega) d1
        have hqx : ix (lst (vX σ W F P t) m (σ 27) i) = q := by rw [hqe]; exact ix_nI (by omega)
        rw [show mLeast (σ (20 + 3)) (σ (20 + 2)) (σ 20 5) W F P m (σ 27) i = nI q from hqe]
        refine b_aload_n dX11_justiceBy_42 rfl ?_
        refine g_get dX11_justiceBy_43 fX11_23 a0 rfl ?_
        refine b_aload_n dX11_justiceBy_46 rfl ?_
        refine g_get dX11_justiceBy_47 fX11_30 a0 rfl ?_
        refine g_get dX11_justiceBy_50 fX11_142 a26 rfl ?_
        refine b_iload dX11_justiceBy_53 rfl ?_
        refine g_iald dX11_justiceBy_55 a27 rfl (by omega) ?_
        refine b_iload_n dX11_justiceBy_56 rfl ?_
        refine g_callV [.int (σ 27 q), .int (nI i)] dX11_justiceBy_57 kX2_isRight lX11_289 a20 rfl rfl (c_isRight ln20 hX.1 (by omega)) rfl rfl (Nat.le_of_ble_eq_true rfl) ?_
        refine b_if_eq 75 dX11_justiceBy_60 (by decide) (fun c2 => ?_) (fun c2 => ?_)
        · skip
          refine b_iinc dX11_justiceBy_75 rfl (nI_1 _) (by decide) rfl ?_
          refine b_goto 4 dX11_justiceBy_78 (by decide) ?_
          have d2 : isR (vX σ W F P t) q i = false := (bI_0 _).mp c2
          exact ih (i + 1) _ _ (by omega) (by rw [mSumW, jR, d1, hqx, d2, hx]; rfl)
        · skip
          refine b_iload_n dX11_justiceBy_63 rfl ?_
          refine b_aload_n dX11_justiceBy_64 rfl ?_
          refine g_get dX11_justiceBy_65 fX11_23 a0 rfl ?_
          refine g_get dX11_justiceBy_68 fX11_120 a20 rfl ?_
          refine b_iload_n dX11_justiceBy_71 rfl ?_
          refine g_iald dX11_justiceBy_72 a22 rfl (by omega) ?_
          refine b_iadd dX11_justiceBy_73 ?_
          refine b_istore_n dX11_justiceBy_74 (by decide) rfl ?_
          refine b_iinc dX11_justiceBy_75 rfl (nI_1 _) (by decide) rfl ?_
          refine b_goto 4 dX11_justiceBy_78 (by decide) ?_
          have d2 : isR (vX σ W F P t) q i = true := (bI_1 _).mp c2
          exact ih (i + 1) _ _ (by omega) (by rw [mSumW, jR, d1, hqx, d2, hx]; rfl)
  exact lp W 0 _ _ (by omega) rfl
def jus (L : LD) (m : Nat) : Int32 := mSumW L.wt (jR L m) L.W
def oJustice (L : LD) (m : Int32) : Int32 := if inR m 4 then (if L.P = 0 then -5 else jus L (ix m)) else -2
theorem c_X_justice {G : GT} {d : Nat} {σ : ST} {μ : SL} {W F P t : Nat} {m : Int32} (hX : XV σ W F P t) : Fn G (d + 5) mX11_justice [.ref (G.b0 + 0), .int m] (sh G σ μ) (Ret (some (.int (oJustice (vX σ W F P t) m))) (sh G σ μ)) := by
  obtain ⟨⟨hW, hF, hP, hW16, hF8, hP6⟩, -⟩ := id hX
  refine fn_of (ls := [some (.ref (G.b0 + 0)), some (.int m)]) (by decide +kernel) (Nat.le_of_ble_eq_true rfl) 0 rfl ?_
  refine b_iload_n dX11_justice_0 rfl ?_
  refine b_callSr [.int m] dX11_justice_1 kX11_isMeasure lX11_239 c_isMeasure rfl rfl (Nat.le_of_ble_eq_true rfl) ?_
  refine b_if_ne 10 dX11_justice_4 (by decide) (fun c1 => ?_) (fun c1 => ?_)
  · skip
    have c2 := (bI_1 _).mp c1
    obtain ⟨k, hk, rfl⟩ := inR_of (by omega) c2
    have hkx := ix_nI (show k < 2 ^ 31 by omega)
    refine b_aload_n dX11_justice_10 rfl ?_
    refine g_get dX11_justice_11 fX11_23 a0 rfl ?_
    refine g_geti (x := nI P) dX11_justice_14 fX11_171 a20 rfl hP ?_
    refine b_if_ne 25 dX11_justice_17 (by decide) (fun c3 => ?_) (fun c3 => ?_)
    · skip
      have h0 : ¬ P = 0 := fun z => c3 (by rw [z]; rfl)
      refine b_aload_n dX11_justice_25 rfl ?_
      refine b_iload_n dX11_justice_26 rfl ?_
      refine g_callV [.int (nI k)] dX11_justice_27 kX11_justiceBy lX11_292 a0 rfl rfl (c_justiceBy hX hk) rfl rfl (Nat.le_of_ble_eq_true rfl) ?_
      exact b_iret dX11_justice_30 ⟨by simp only [oJustice, c2, hkx, if_true, h0, if_false]; rfl, rfl⟩
    · skip
      have h0 : P = 0 := by rw [← nI_0, nI_eq (by omega) (by omega)] at c3; exact c3
      refine b_bipush (v := -5) dX11_justice_20 (by decide) ?_
      refine b_goto 30 dX11_justice_22 (by decide) ?_
      exact b_iret dX11_justice_30 ⟨by simp [oJustice, c2, h0], rfl⟩
  · skip
    refine b_bipush (v := -2) dX11_justice_7 (by decide) ?_
    exact b_iret dX11_justice_9 ⟨by simp [oJustice, (bI_0 _).mp c1], rfl⟩
/-- the first of the greatest of x 0 .. x n -/
def mArg (x : Nat → Int32) : Nat → Nat
  | 0 => 0
  | n + 1 => if x (mArg x n) < x (n + 1) then n + 1 else mArg x n
theorem mArg_le (x : Nat → Int32) : ∀ n, mArg x n ≤ n
  | 0 => Nat.le_refl 0
  | n + 1 => by
    have := mArg_le x n
    unfold mArg
    split <;> omega
def oBestLaw (L : LD) : Int32 := if L.P = 0 then -5 else nI (mArg (jus L) 3)
theorem c_X_bestLaw {G : GT} {d : Nat} {σ : ST} {μ : SL} {W F P t : Nat} (hX : XV σ W F P t) : Fn G (d + 5) mX11_bestLaw [.ref (G.b0 + 0)] (sh G σ μ) (Ret (some (.int (oBestLaw (vX σ W F P t)))) (sh G σ μ)) := by
  obtain ⟨⟨hW, hF, hP, hW16, hF8, hP6⟩, -⟩ := id hX
  refine fn_of (ls := [some (.ref (G.b0 + 0)), none, none, none, none]) (by decide +kernel) (Nat.le_of_ble_eq_true rfl) 4 rfl ?_
  refine b_aload_n dX11_bestLaw_0 rfl ?_
  refine g_get dX11_bestLaw_1 fX11_23 a0 rfl ?_
  refine g_geti (x := nI P) dX11_bestLaw_4 fX11_171 a20 rfl hP ?_
  refine b_if_ne 13 dX11_bestLaw_7 (by decide) (fun c1 => ?_) (fun c1 => ?_)
  · skip
    have h0 : ¬ P = 0 := fun z => c1 (by rw [z]; rfl)
    refine b_iconst (v := nI 0) dX11_bestLaw_13 (by decide) ?_
    refine b_istore_n dX11_bestLaw_14 (by decide) rfl ?_
    refine b_aload_n dX11_bestLaw_15 rfl ?_
    refine b_iconst (v := nI 0) dX11_bestLaw_16 (by decide) ?_
    refine g_callV [.int (nI 0)] dX11_bestLaw_17 kX11_justiceBy lX11_292 a0 rfl rfl (c_justiceBy (m := 0) hX (by omega)) rfl rfl (Nat.le_of_ble_eq_true rfl) ?_
    refine b_istore_n dX11_bestLaw_20 (by decide) rfl ?_
    refine b_iconst (v := nI 1) dX11_bestLaw_21 (by decide) ?_
    refine b_istore_n dX11_bestLaw_22 (by decide) rfl ?_
    have lp : ∀ (n i : Nat) (z : Option Value), i + n = 3 → BB G RX11 cX11_bestLaw 5 (some .int) (d + 5) (QM G (Ret (some (.int (oBestLaw (vX σ W F P t)))) (sh G σ μ))) 23 [some (.ref (G.b0 + 0)), some (.int (nI (mArg (jus (vX σ W F P t)) i))), some (.int (jus (vX σ W F P t) (mArg (jus (vX σ W F P t)) i))), some (.int (nI (i + 1))), z] [] (sh G σ μ) := by
      intro n
      induction n with
      | zero =>
        intro i z hi
        refine b_iload_n dX11_bestLaw_23 rfl ?_
        refine b_iconst (v := nI 4) dX11_bestLaw_24 (by decide) ?_
        refine b_icmp_ge_t 52 dX11_bestLaw_25 (by decide) (nI_le (by omega) (by omega)) ?_
        refine b_iload_n dX11_bestLaw_52 rfl ?_
        exact b_iret dX11_bestLaw_53 ⟨by simp only [oBestLaw, h0, if_false]; rw [show i = 3 by omega], rfl⟩
      | succ n ih =>
        intro i z hi
        refine b_iload_n dX11_bestLaw_23 rfl ?_
        refine b_iconst (v := nI 4) dX11_bestLaw_24 (by decide) ?_
        refine b_icmp_ge_f 52 dX11_bestLaw_25 (by decide) (nI_ge (by omega) (by omega)) ?_
        refine b_aload_n dX11_bestLaw_28 rfl ?_
        refine b_iload_n dX11_bestLaw_29 rfl ?_
        refine g_callV [.int (nI (i + 1))] dX11_bestLaw_30 kX11_justiceBy lX11_292 a0 rfl rfl (c_justiceBy (m := i + 1) hX (by omega)) rfl rfl (Nat.le_of_ble_eq_true rfl) ?_
        refine b_istore dX11_bestLaw_33 (by decide) rfl ?_
        refine b_iload dX11_bestLaw_35 rfl ?_
        refine b_iload_n dX11_bestLaw_37 rfl ?_
        refine b_icmp_le 46 dX11_bestLaw_38 (by decide) (fun c2 => ?_) (fun c2 => ?_)
        · skip
          refine b_iinc dX11_bestLaw_46 rfl (nI_1 _) (by decide) rfl ?_
          refine b_goto 23 dX11_bestLaw_49 (by decide) ?_
          have e : mArg (jus (vX σ W F P t)) (i + 1) = mArg (jus (vX σ W F P t)) i := by rw [mArg]; exact if_neg (Int32.not_lt.mpr c2)
          have h1 := ih (i + 1) (some (.int (jus (vX σ W F P t) (i + 1)))) (by omega)
          rw [e] at h1
          exact h1
        · skip
          refine b_iload_n dX11_bestLaw_41 rfl ?_
          refine b_istore_n dX11_bestLaw_42 (by decide) rfl ?_
          refine b_iload dX11_bestLaw_43 rfl ?_
          refine b_istore_n dX11_bestLaw_45 (by decide) rfl ?_
          refine b_iinc dX11_bestLaw_46 rfl (nI_1 _) (by decide) rfl ?_
          refine b_goto 23 dX11_bestLaw_49 (by decide) ?_
          have e : mArg (jus (vX σ W F P t)) (i + 1) = i + 1 := by rw [mArg]; exact if_pos (Int32.not_le.mp c2)
          have h1 := ih (i + 1) (some (.int (jus (vX σ W F P t) (i + 1)))) (by omega)
          rw [e] at h1
          exact h1
    exact lp 3 0 _ (by omega)
  · skip
    have h0 : P = 0 := by rw [← nI_0, nI_eq (by omega) (by omega)] at c1; exact c1
    refine b_bipush (v := -5) dX11_bestLaw_10 (by decide) ?_
    exact b_iret dX11_bestLaw_12 ⟨by simp [oBestLaw, h0], rfl⟩
def oBrief (L : LD) (p : Int32) : Int32 := if inR p L.P then (if L.W = 0 then -5 else mBest (fun k => mKn L.gl (mPoss L.hold L.W (L.told (ix p) ||| nI k) L.t L.F)) (2 ^ L.F)) else -2
theorem c_X_brief {G : GT} {d : Nat} {σ : ST} {μ : SL} {W F P t : Nat} {p : Int32} (hX : XV σ W F P t) : Fn G (d + 3) mX11_brief [.ref (G.b0 + 0), .int p] (sh G σ μ) (Ret (some (.int (oBrief (vX σ W F P t) p))) (sh G σ μ)) := by
  have ht := hX.t32
  obtain ⟨⟨hW, hF, hP, hW16, hF8, hP6⟩, -⟩ := id hX
  have h256 : 2 ^ F ≤ 256 := Nat.pow_le_pow_right (by omega) hF8
  refine fn_of (ls := [some (.ref (G.b0 + 0)), some (.int p), none, none]) (by decide +kernel) (Nat.le_of_ble_eq_true rfl) 2 rfl ?_
  refine b_aload_n dX11_brief_0 rfl ?_
  refine b_iload_n dX11_brief_1 rfl ?_
  refine g_callV [.int p] dX11_brief_2 kX11_isPerson lX11_136 a0 rfl rfl (c_isPerson hP) rfl rfl (Nat.le_of_ble_eq_true rfl) ?_
  refine b_if_ne 11 dX11_brief_5 (by decide) (fun c1 => ?_) (fun c1 => ?_)
  · skip
    have c2 := (bI_1 _).mp c1
    obtain ⟨j, hj, rfl⟩ := inR_of (by omega) c2
    have hix := ix_nI (show j < 2 ^ 31 by omega)
    refine b_aload_n dX11_brief_11 rfl ?_
    refine g_get dX11_brief_12 fX11_23 a0 rfl ?_
    refine g_geti (x := nI W) dX11_brief_15 fX11_165 a20 rfl hW ?_
    refine b_if_ne 24 dX11_brief_18 (by decide) (fun c3 => ?_) (fun c3 => ?_)
    · skip
      have h0 : ¬ W = 0 := fun z => c3 (by rw [z]; rfl)
      refine b_iconst (v := -1) dX11_brief_24 (by decide) ?_
      refine b_istore_n dX11_brief_25 (by decide) rfl ?_
      refine b_iconst (v := nI 0) dX11_brief_26 (by decide) ?_
      refine b_istore_n dX11_brief_27 (by decide) rfl ?_
      have lp : ∀ (n i : Nat) (x : Int32), i + n = 2 ^ F → x = mBest (fun k => mKn (σ 20 5) (mPoss (σ 23) W (σ 27 j ||| nI k) t F)) i → BB G RX11 cX11_brief 4 (some .int) (d + 3) (QM G (Ret (some (.int (oBrief (vX σ W F P t) (nI j)))) (sh G σ μ))) 28 [some (.ref (G.b0 + 0)), some (.int (nI j)), some (.int x), some (.int (nI i))] [] (sh G σ μ) := by
        intro n
        induction n with
        | zero =>
          intro i x hi hx
          refine b_iload_n dX11_brief_28 rfl ?_
          refine b_iconst (v := nI 1) dX11_brief_29 (by decide) ?_
          refine b_aload_n dX11_brief_30 rfl ?_
          refine g_get dX11_brief_31 fX11_23 a0 rfl ?_
          refine g_geti (x := nI F) dX11_brief_34 fX11_168 a20 rfl hF ?_
          refine b_ishl dX11_brief_37 ?_
          refine b_top (shl_pow (by omega)) ?_
          refine b_icmp_ge_t 92 dX11_brief_38 (by decide) (nI_le (by omega) (by omega)) ?_
          refine b_iload_n dX11_brief_92 rfl ?_
          exact b_iret dX11_brief_93 ⟨by simp only [oBrief, c2, hix, if_true, h0, if_false]; rw [hx, show i = 2 ^ F by omega], rfl⟩
        | succ n ih =>
          intro i x hi hx
          have hlo : x = -1 ∨ lo 16 x := by rw [hx]; exact mBest_lo _ (by omega)
          refine b_iload_n dX11_brief_28 rfl ?_
          refine b_iconst (v := nI 1) dX11_brief_29 (by decide) ?_
          refine b_aload_n dX11_brief_30 rfl ?_
          refine g_get dX11_brief_31 fX11_23 a0 rfl ?_
          refine g_geti (x := nI F) dX11_brief_34 fX11_168 a20 rfl hF ?_
          refine b_ishl dX11_brief_37 ?_
          refine b_top (shl_pow (by omega)) ?_
          refine b_icmp_ge_f 92 dX11_brief_38 (by decide) (nI_ge (by omega) (by omega)) ?_
          refine b_iload_n dX11_brief_41 rfl ?_
          refine b_iload_n dX11_brief_42 rfl ?_
          refine b_callSr [.int (nI i), .int x] dX11_brief_43 kX11_isFewer lX11_236 (c_isFewer (lo_nI (by omega)) hlo) rfl rfl (Nat.le_of_ble_eq_true rfl) ?_
          refine b_if_eq 86 dX11_brief_46 (by decide) (fun c4 => ?_) (fun c4 => ?_)
          · skip
            refine b_iinc dX11_brief_86 rfl (nI_1 _) (by decide) rfl ?_
            refine b_goto 28 dX11_brief_89 (by decide) ?_
            have d2 := (bI_0 _).mp c4
            exact ih (i + 1) _ (by omega) (by rw [mBest, ← hx, d2]; rfl)
          · skip
            refine b_aload_n dX11_brief_49 rfl ?_
            refine g_get dX11_brief_50 fX11_23 a0 rfl ?_
            refine b_aload_n dX11_brief_53 rfl ?_
            refine g_get dX11_brief_54 fX11_23 a0 rfl ?_
            refine b_aload_n dX11_brief_57 rfl ?_
            refine g_get dX11_brief_58 fX11_30 a0 rfl ?_
            refine g_get dX11_brief_61 fX11_142 a26 rfl ?_
            refine b_iload_n dX11_brief_64 rfl ?_
            refine g_iald dX11_brief_65 a27 rfl (by omega) ?_
            refine b_iload_n dX11_brief_66 rfl ?_
            refine b_ior dX11_brief_67 ?_
            refine b_aload_n dX11_brief_68 rfl ?_
            refine g_get dX11_brief_69 fX11_30 a0 rfl ?_
            refine g_geti (x := nI t) dX11_brief_72 fX11_174 a26 rfl hX.2.1 ?_
            have d2 := (bI_1 _).mp c4
            refine g_callV [.int ((σ 27 j) ||| (nI i)), .int (nI t)] dX11_brief_75 kX2_possible lX11_161 a20 rfl rfl (c_possible ln20 hX.1 (by omega)) rfl rfl (Nat.le_of_ble_eq_true rfl) ?_
            refine g_callV [.int (mPoss (σ 23) W (σ 27 j ||| nI i) t F)] dX11_brief_78 kX2_isGuiltKnown lX11_148 a20 rfl rfl (c_isGuiltKnown ln20) rfl rfl (Nat.le_of_ble_eq_true rfl) ?_
            refine b_if_eq 86 dX11_brief_81 (by decide) (fun c5 => ?_) (fun c5 => ?_)
            · skip
              refine b_iinc dX11_brief_86 rfl (nI_1 _) (by decide) rfl ?_
              refine b_goto 28 dX11_brief_89 (by decide) ?_
              have d3 : mKn (σ 20 5) (mPoss (σ 23) W (σ 27 j ||| nI i) t F) = false := (bI_0 _).mp c5
              exact ih (i + 1) _ (by omega) (by rw [mBest, ← hx, d2, d3]; rfl)
            · skip
              refine b_iload_n dX11_brief_84 rfl ?_
              refine b_istore_n dX11_brief_85 (by decide) rfl ?_
              refine b_iinc dX11_brief_86 rfl (nI_1 _) (by decide) rfl ?_
              refine b_goto 28 dX11_brief_89 (by decide) ?_
              have d3 : mKn (σ 20 5) (mPoss (σ 23) W (σ 27 j ||| nI i) t F) = true := (bI_1 _).mp c5
              exact ih (i + 1) _ (by omega) (by rw [mBest, ← hx, d2, d3]; rfl)
      exact lp (2 ^ F) 0 _ (by omega) rfl
    · skip
      have h0 : W = 0 := by rw [← nI_0, nI_eq (by omega) (by omega)] at c3; exact c3
      refine b_bipush (v := -5) dX11_brief_21 (by decide) ?_
      exact b_iret dX11_brief_23 ⟨by simp [oBrief, c2, h0], rfl⟩
  · skip
    refine b_bipush (v := -2) dX11_brief_8 (by decide) ?_
    exact b_iret dX11_brief_10 ⟨by simp [oBrief, (bI_0 _).mp c1], rfl⟩
/-- facts that one who holds q possible doesn't know -/
def opn (L : LD) (q : Int32) : Int32 := mAll L.F &&& (mKnown L.hold q L.F ^^^ (-1))
def mSel (o : Int32) (g : Nat → Nat) : Nat → Nat
  | 0 => 0
  | f + 1 => mSel o g f + if bt o f then g f else 0
/-- rows of n + 1 questions -/
def mRw (L : LD) : Nat → Int32 → Nat
  | 0, q => cnt (opn L q) 16
  | n + 1, q => mSel (opn L q) (fun f => mRw L n (q &&& mSide L.hold f L.t)) L.F
theorem c_rowsToAsk {G : GT} {σ : ST} {μ : SL} {W F P t : Nat} (hX : XV σ W F P t) : ∀ (n : Nat), n < 8 → ∀ (d : Nat) (q : Int32), Fn G (d + n + 2) mX11_rowsToAsk [.ref (G.b0 + 0), .int q, .int (nI (n + 1))] (sh G σ μ) (Ret (some (.int (nI (mRw (vX σ W F P t) n q)))) (sh G σ μ)) := by
  have ht := hX.t32
  obtain ⟨⟨hW, hF, hP, hW16, hF8, hP6⟩, -⟩ := id hX
  have hop : ∀ q, lo 16 (opn (vX σ W F P t) q) := fun q => lo_and (lo_mono (lo_all (n := F) (by omega)) (by omega))
  intro n
  induction n with
  | zero =>
    intro hn8 d q
    refine fn_of (ls := [some (.ref (G.b0 + 0)), some (.int q), some (.int (nI (0 + 1))), none, none, none]) (by decide +kernel) (Nat.le_of_ble_eq_true rfl) 3 rfl ?_
    refine b_aload_n dX11_rowsToAsk_0 rfl ?_
    refine g_get dX11_rowsToAsk_1 fX11_23 a0 rfl ?_
    refine g_callV [] dX11_rowsToAsk_4 kX2_allFacts lX11_305 a20 rfl rfl (c_allFacts ln20 hF) rfl rfl (Nat.le_of_ble_eq_true rfl) ?_
    refine b_aload_n dX11_rowsToAsk_7 rfl ?_
    refine g_get dX11_rowsToAsk_8 fX11_23 a0 rfl ?_
    refine b_iload_n dX11_rowsToAsk_11 rfl ?_
    refine g_callV [.int q] dX11_rowsToAsk_12 kX2_knownBy lX11_145 a20 rfl rfl (c_knownBy ln20 hX.1) rfl rfl (Nat.le_of_ble_eq_true rfl) ?_
    refine b_iconst (v := -1) dX11_rowsToAsk_15 (by decide) ?_
    refine b_ixor dX11_rowsToAsk_16 ?_
    refine b_iand dX11_rowsToAsk_17 ?_
    refine b_istore_n dX11_rowsToAsk_18 (by decide) rfl ?_
    refine b_iload_n dX11_rowsToAsk_19 rfl ?_
    refine b_iconst (v := nI 1) dX11_rowsToAsk_20 (by decide) ?_
    refine b_icmp_gt_f 29 dX11_rowsToAsk_21 (by decide) (by decide) ?_
    refine b_iload_n dX11_rowsToAsk_24 rfl ?_
    refine b_callSr [.int ((mAll F) &&& ((mKnown (σ 23) q F) ^^^ ((-1))))] dX11_rowsToAsk_25 kJ6_bitCount_0f7a4 lX11_180 (c_bitCount (hop q)) rfl rfl (Nat.le_of_ble_eq_true rfl) ?_
    exact b_iret dX11_rowsToAsk_28 ⟨rfl, rfl⟩
  | succ n ihn =>
    intro hn8 d q
    refine fn_of (ls := [some (.ref (G.b0 + 0)), some (.int q), some (.int (nI (n + 1 + 1))), none, none, none]) (by decide +kernel) (Nat.le_of_ble_eq_true rfl) 3 rfl ?_
    refine b_aload_n dX11_rowsToAsk_0 rfl ?_
    refine g_get dX11_rowsToAsk_1 fX11_23 a0 rfl ?_
    refine g_callV [] dX11_rowsToAsk_4 kX2_allFacts lX11_305 a20 rfl rfl (c_allFacts ln20 hF) rfl rfl (Nat.le_of_ble_eq_true rfl) ?_
    refine b_aload_n dX11_rowsToAsk_7 rfl ?_
    refine g_get dX11_rowsToAsk_8 fX11_23 a0 rfl ?_
    refine b_iload_n dX11_rowsToAsk_11 rfl ?_
    refine g_callV [.int q] dX11_rowsToAsk_12 kX2_knownBy lX11_145 a20 rfl rfl (c_knownBy ln20 hX.1) rfl rfl (Nat.le_of_ble_eq_true rfl) ?_
    refine b_iconst (v := -1) dX11_rowsToAsk_15 (by decide) ?_
    refine b_ixor dX11_rowsToAsk_16 ?_
    refine b_iand dX11_rowsToAsk_17 ?_
    refine b_istore_n dX11_rowsToAsk_18 (by decide) rfl ?_
    refine b_iload_n dX11_rowsToAsk_19 rfl ?_
    refine b_iconst (v := nI 1) dX11_rowsToAsk_20 (by decide) ?_
    refine b_icmp_gt_t 29 dX11_rowsToAsk_21 (by decide) (nI_lt (by omega) (by omega)) ?_
    refine b_iconst (v := nI 0) dX11_rowsToAsk_29 (by decide) ?_
    refine b_istore dX11_rowsToAsk_30 (by decide) rfl ?_
    refine b_iconst (v := nI 0) dX11_rowsToAsk_32 (by decide) ?_
    refine b_istore dX11_rowsToAsk_33 (by decide) rfl ?_
    have lp : ∀ (k i : Nat), i + k = F → BB G RX11 cX11_rowsToAsk 6 (some .int) (d + n + 2 + 1) (QM G (Ret (some (.int (nI (mRw (vX σ W F P t) (n + 1) q)))) (sh G σ μ))) 35 [some (.ref (G.b0 + 0)), some (.int q), some (.int (nI (n + 1 + 1))), some (.int (opn (vX σ W F P t) q)), some (.int (nI (mSel (opn (vX σ W F P t) q) (fun f => mRw (vX σ W F P t) n (q &&& mSide (σ 23) f t)) i))), some (.int (nI i))] [] (sh G σ μ) := by
      intro k
      induction k with
      | zero =>
        intro i hi
        refine b_iload dX11_rowsToAsk_35 rfl ?_
        refine b_aload_n dX11_rowsToAsk_37 rfl ?_
        refine g_get dX11_rowsToAsk_38 fX11_23 a0 rfl ?_
        refine g_geti (x := nI F) dX11_rowsToAsk_41 fX11_168 a20 rfl hF ?_
        refine b_icmp_ge_t 93 dX11_rowsToAsk_44 (by decide) (nI_le (by omega) (by omega)) ?_
        refine b_iload dX11_rowsToAsk_93 rfl ?_
        exact b_iret dX11_rowsToAsk_95 ⟨by have e : i = F := (by omega); subst e; rfl, rfl⟩
      | succ k ih =>
        intro i hi
        refine b_iload dX11_rowsToAsk_35 rfl ?_
        refine b_aload_n dX11_rowsToAsk_37 rfl ?_
        refine g_get dX11_rowsToAsk_38 fX11_23 a0 rfl ?_
        refine g_geti (x := nI F) dX11_rowsToAsk_41 fX11_168 a20 rfl hF ?_
        refine b_icmp_ge_f 93 dX11_rowsToAsk_44 (by decide) (nI_ge (by omega) (by omega)) ?_
        refine b_iload_n dX11_rowsToAsk_47 rfl ?_
        refine b_iload dX11_rowsToAsk_48 rfl ?_
        refine b_ishr dX11_rowsToAsk_50 ?_
        refine b_iconst (v := nI 1) dX11_rowsToAsk_51 (by decide) ?_
        refine b_iand dX11_rowsToAsk_52 ?_
        refine b_iconst (v := nI 1) dX11_rowsToAsk_53 (by decide) ?_
        refine b_icmp_ne 87 dX11_rowsToAsk_54 (by decide) (fun c1 => ?_) (fun c1 => ?_)
        · skip
          refine b_iinc dX11_rowsToAsk_87 rfl (nI_1 _) (by decide) rfl ?_
          refine b_goto 35 dX11_rowsToAsk_90 (by decide) ?_
          have c2 : ¬ bt (opn (vX σ W F P t) q) i = true := fun z => c1 ((b_test (by omega)).mpr z)
          have e : mSel (opn (vX σ W F P t) q) (fun f => mRw (vX σ W F P t) n (q &&& mSide (σ 23) f t)) i = mSel (opn (vX σ W F P t) q) (fun f => mRw (vX σ W F P t) n (q &&& mSide (σ 23) f t)) (i + 1) := by rw [mSel, if_neg c2, Nat.add_zero]
          rw [e]
          exact ih (i + 1) (by omega)
        · skip
          refine b_iload dX11_rowsToAsk_57 rfl ?_
          refine b_aload_n dX11_rowsToAsk_59 rfl ?_
          refine b_iload_n dX11_rowsToAsk_60 rfl ?_
          refine b_aload_n dX11_rowsToAsk_61 rfl ?_
          refine g_get dX11_rowsToAsk_62 fX11_23 a0 rfl ?_
          refine b_iload dX11_rowsToAsk_65 rfl ?_
          refine b_aload_n dX11_rowsToAsk_67 rfl ?_
          refine g_get dX11_rowsToAsk_68 fX11_30 a0 rfl ?_
          refine g_geti (x := nI t) dX11_rowsToAsk_71 fX11_174 a26 rfl hX.2.1 ?_
          refine g_callV [.int (nI i), .int (nI t)] dX11_rowsToAsk_74 kX2_sideOf lX11_312 a20 rfl rfl (c_sideOf ln20 (by omega) (by omega)) rfl rfl (Nat.le_of_ble_eq_true rfl) ?_
          refine b_iand dX11_rowsToAsk_77 ?_
          refine b_iload_n dX11_rowsToAsk_78 rfl ?_
          refine b_iconst (v := nI 1) dX11_rowsToAsk_79 (by decide) ?_
          refine b_isub dX11_rowsToAsk_80 ?_
          refine b_top (pk_sub (a := n + 1 + 1) (b := 1) (by omega)) ?_
          refine g_callV [.int (q &&& (mSide (σ 23) i t)), .int (nI (n + 1))] dX11_rowsToAsk_81 kX11_rowsToAsk lX11_315 a0 rfl rfl (ihn (by omega) d _) rfl rfl (Nat.le_of_ble_eq_true rfl) ?_
          refine b_iaddN dX11_rowsToAsk_84 ?_
          refine b_istore dX11_rowsToAsk_85 (by decide) rfl ?_
          refine b_iinc dX11_rowsToAsk_87 rfl (nI_1 _) (by decide) rfl ?_
          refine b_goto 35 dX11_rowsToAsk_90 (by decide) ?_
          have c2 := (b_test (by omega)).mp c1
          have e : mSel (opn (vX σ W F P t) q) (fun f => mRw (vX σ W F P t) n (q &&& mSide (σ 23) f t)) i + mRw (vX σ W F P t) n (q &&& mSide (σ 23) i t) = mSel (opn (vX σ W F P t) q) (fun f => mRw (vX σ W F P t) n (q &&& mSide (σ 23) f t)) (i + 1) := by rw [mSel, if_pos c2]
          refine b_locs (ls' := [some (.ref (G.b0 + 0)), some (.int q), some (.int (nI (n + 1 + 1))), some (.int (opn (vX σ W F P t) q)), some (.int (nI (mSel (opn (vX σ W F P t) q) (fun f => mRw (vX σ W F P t) n (q &&& mSide (σ 23) f t)) i + mRw (vX σ W F P t) n (q &&& mSide (σ 23) i t)))), some (.int (nI (i + 1)))]) rfl ?_
          rw [e]
          exact ih (i + 1) (by omega)
    exact lp F 0 (by omega)
def oQuest (L : LD) (p n : Int32) : Int32 := if inR p L.P then (if inB n 1 4 then (if L.W = 0 then -5 else nI (mRw L (ix n - 1) (poss L (ix p) L.t))) else -3) else -2
theorem c_X_questions {G : GT} {d : Nat} {σ : ST} {μ : SL} {W F P t : Nat} {p n : Int32} (hX : XV σ W F P t) : Fn G (d + 8) mX11_questions [.ref (G.b0 + 0), .int p, .int n] (sh G σ μ) (Ret (some (.int (oQuest (vX σ W F P t) p n))) (sh G σ μ)) := by
  obtain ⟨⟨hW, hF, hP, hW16, hF8, hP6⟩, -⟩ := id hX
  refine fn_of (ls := [some (.ref (G.b0 + 0)), some (.int p), some (.int n)]) (by decide +kernel) (Nat.le_of_ble_eq_true rfl) 0 rfl ?_
  refine b_aload_n dX11_questions_0 rfl ?_
  refine b_iload_n dX11_questions_1 rfl ?_
  refine g_callV [.int p] dX11_questions_2 kX11_isPerson lX11_136 a0 rfl rfl (c_isPerson hP) rfl rfl (Nat.le_of_ble_eq_true rfl) ?_
  refine b_if_ne 11 dX11_questions_5 (by decide) (fun c1 => ?_) (fun c1 => ?_)
  · skip
    have c2 := (bI_1 _).mp c1
    obtain ⟨j, hj, rfl⟩ := inR_of (by omega) c2
    have hix := ix_nI (show j < 2 ^ 31 by omega)
    refine b_iload_n dX11_questions_11 rfl ?_
    refine b_iconst (v := nI 1) dX11_questions_12 (by decide) ?_
    refine b_icmp_lt 21 dX11_questions_13 (by decide) (fun c3 => ?_) (fun c3 => ?_)
    · skip
      refine b_bipush (v := -3) dX11_questions_21 (by decide) ?_
      exact b_iret dX11_questions_23 ⟨by simp [oQuest, c2, inB, Int32.not_le.mpr c3], rfl⟩
    · skip
      refine b_iload_n dX11_questions_16 rfl ?_
      refine b_iconst (v := nI 4) dX11_questions_17 (by decide) ?_
      refine b_icmp_le 24 dX11_questions_18 (by decide) (fun c4 => ?_) (fun c4 => ?_)
      · skip
        have c5 : inB n 1 4 = true := by simp [inB, Int32.not_lt.mp c3, c4]
        obtain ⟨k, hk1, hk2, rfl⟩ := inB_of (by omega) c5 (by omega)
        obtain ⟨k, rfl⟩ : ∃ k', k = k' + 1 := ⟨k - 1, by omega⟩
        have hkx := ix_nI (show k + 1 < 2 ^ 31 by omega)
        refine b_aload_n dX11_questions_24 rfl ?_
        refine g_get dX11_questions_25 fX11_23 a0 rfl ?_
        refine g_geti (x := nI W) dX11_questions_28 fX11_165 a20 rfl hW ?_
        refine b_if_ne 39 dX11_questions_31 (by decide) (fun c6 => ?_) (fun c6 => ?_)
        · skip
          have h0 : ¬ W = 0 := fun z => c6 (by rw [z]; rfl)
          refine b_aload_n dX11_questions_39 rfl ?_
          refine b_aload_n dX11_questions_40 rfl ?_
          refine b_iload_n dX11_questions_41 rfl ?_
          refine g_callV [.int (nI j)] dX11_questions_42 kX11_possibleTo lX11_139 a0 rfl rfl (c_possibleTo hX (by omega)) rfl rfl (Nat.le_of_ble_eq_true rfl) ?_
          refine b_iload_n dX11_questions_45 rfl ?_
          have hr := c_rowsToAsk (G := G) (μ := μ) hX k (by omega) (d + 5 - k) (poss (vX σ W F P t) j t)
          rw [show d + 5 - k + k + 2 = d + 7 by omega] at hr
          refine g_callV [.int (poss (vX σ W F P t) j t), .int (nI (k + 1))] dX11_questions_46 kX11_rowsToAsk lX11_315 a0 rfl rfl hr rfl rfl (Nat.le_of_ble_eq_true rfl) ?_
          exact b_iret dX11_questions_49 ⟨by simp only [oQuest, c2, c5, hix, hkx, if_true, h0, if_false, Nat.add_sub_cancel], rfl⟩
        · skip
          have h0 : W = 0 := by rw [← nI_0, nI_eq (by omega) (by omega)] at c6; exact c6
          refine b_bipush (v := -5) dX11_questions_34 (by decide) ?_
          refine b_goto 49 dX11_questions_36 (by decide) ?_
          exact b_iret dX11_questions_49 ⟨by simp [oQuest, c2, c5, h0], rfl⟩
      · skip
        refine b_bipush (v := -3) dX11_questions_21 (by decide) ?_
        exact b_iret dX11_questions_23 ⟨by simp [oQuest, c2, inB, c4], rfl⟩
  · skip
    refine b_bipush (v := -2) dX11_questions_8 (by decide) ?_
    exact b_iret dX11_questions_10 ⟨by simp [oQuest, (bI_0 _).mp c1], rfl⟩

