/-! ===== KnowsLeast: together, witnesses, parting; who knows least ===== -/
theorem shl_pow {n : Nat} (h : n < 31) : nI 1 <<< (nI n &&& 31) = nI (2 ^ n) := by
  have h1 : 1 * 2 ^ n < 2 ^ 32 := by rw [Nat.one_mul]; exact Nat.pow_lt_pow_right (by omega) (by omega)
  rw [pk_shlN (nI n &&& 31) n (s_l n (by omega)) h1, Nat.one_mul]
theorem lo_nI {j n : Nat} (h : j < 2 ^ n) : lo n (nI j) := fun i h1 h2 => by
  rw [bt_nI h2]
  exact Nat.testBit_lt_two_pow (Nat.lt_of_lt_of_le h (Nat.pow_le_pow_right (by omega) h1))
def mTog (told : Nat → Int32) (s : Int32) : Nat → Int32
  | 0 => nI 0
  | p + 1 => if bt s p then mTog told s p ||| told p else mTog told s p
def tog (L : LD) (s : Int32) : Int32 := mPoss L.hold L.W (mTog L.told s L.P) L.t L.F
theorem c_possibleTogether {G : GT} {d : Nat} {σ : ST} {μ : SL} {W F P t : Nat} {s : Int32} (hX : XV σ W F P t) : Fn G (d + 2) mX11_possibleTogether [.ref (G.b0 + 0), .int s] (sh G σ μ) (Ret (some (.int (tog (vX σ W F P t) s))) (sh G σ μ)) := by
  have ht := hX.t32
  obtain ⟨⟨hW, hF, hP, hW16, hF8, hP6⟩, -⟩ := id hX
  refine fn_of (ls := [some (.ref (G.b0 + 0)), some (.int s), none, none]) (by decide +kernel) (Nat.le_of_ble_eq_true rfl) 2 rfl ?_
  refine b_iconst (v := nI 0) dX11_possibleTogether_0 (by decide) ?_
  refine b_istore_n dX11_possibleTogether_1 (by decide) rfl ?_
  refine b_iconst (v := nI 0) dX11_possibleTogether_2 (by decide) ?_
  refine b_istore_n dX11_possibleTogether_3 (by decide) rfl ?_
  have lp : ∀ (n i : Nat) (x : Int32), i + n = P → x = mTog (σ 27) s i → BB G RX11 cX11_possibleTogether 4 (some .int) (d + 2) (QM G (Ret (some (.int (tog (vX σ W F P t) s))) (sh G σ μ))) 4 [some (.ref (G.b0 + 0)), some (.int s), some (.int x), some (.int (nI i))] [] (sh G σ μ) := by
    intro n
    induction n with
    | zero =>
      intro i x hi hx
      refine b_iload_n dX11_possibleTogether_4 rfl ?_
      refine b_aload_n dX11_possibleTogether_5 rfl ?_
      refine g_get dX11_possibleTogether_6 fX11_23 a0 rfl ?_
      refine g_geti (x := nI P) dX11_possibleTogether_9 fX11_171 a20 rfl hP ?_
      refine b_icmp_ge_t 42 dX11_possibleTogether_12 (by decide) (nI_le (by omega) (by omega)) ?_
      refine b_aload_n dX11_possibleTogether_42 rfl ?_
      refine g_get dX11_possibleTogether_43 fX11_23 a0 rfl ?_
      refine b_iload_n dX11_possibleTogether_46 rfl ?_
      refine b_aload_n dX11_possibleTogether_47 rfl ?_
      refine g_get dX11_possibleTogether_48 fX11_30 a0 rfl ?_
      refine g_geti (x := nI t) dX11_possibleTogether_51 fX11_174 a26 rfl hX.2.1 ?_
      refine g_callV [.int x, .int (nI t)] dX11_possibleTogether_54 kX2_possible lX11_161 a20 rfl rfl (c_possible ln20 hX.1 (by omega)) rfl rfl (Nat.le_of_ble_eq_true rfl) ?_
      exact b_iret dX11_possibleTogether_57 ⟨by rw [hx, show i = P by omega]; rfl, rfl⟩
    | succ n ih =>
      intro i x hi hx
      refine b_iload_n dX11_possibleTogether_4 rfl ?_
      refine b_aload_n dX11_possibleTogether_5 rfl ?_
      refine g_get dX11_possibleTogether_6 fX11_23 a0 rfl ?_
      refine g_geti (x := nI P) dX11_possibleTogether_9 fX11_171 a20 rfl hP ?_
      refine b_icmp_ge_f 42 dX11_possibleTogether_12 (by decide) (nI_ge (by omega) (by omega)) ?_
      refine b_iload_n dX11_possibleTogether_15 rfl ?_
      refine b_iload_n dX11_possibleTogether_16 rfl ?_
      refine b_ishr dX11_possibleTogether_17 ?_
      refine b_iconst (v := nI 1) dX11_possibleTogether_18 (by decide) ?_
      refine b_iand dX11_possibleTogether_19 ?_
      refine b_iconst (v := nI 1) dX11_possibleTogether_20 (by decide) ?_
      refine b_icmp_ne 36 dX11_possibleTogether_21 (by decide) (fun c1 => ?_) (fun c1 => ?_)
      · skip
        refine b_iinc dX11_possibleTogether_36 rfl (nI_1 _) (by decide) rfl ?_
        refine b_goto 4 dX11_possibleTogether_39 (by decide) ?_
        have c2 : ¬ bt s i = true := fun z => c1 ((b_test (by omega)).mpr z)
        exact ih (i + 1) _ (by omega) (by rw [mTog, if_neg c2, hx])
      · skip
        refine b_iload_n dX11_possibleTogether_24 rfl ?_
        refine b_aload_n dX11_possibleTogether_25 rfl ?_
        refine g_get dX11_possibleTogether_26 fX11_30 a0 rfl ?_
        refine g_get dX11_possibleTogether_29 fX11_142 a26 rfl ?_
        refine b_iload_n dX11_possibleTogether_32 rfl ?_
        refine g_iald dX11_possibleTogether_33 a27 rfl (by omega) ?_
        refine b_ior dX11_possibleTogether_34 ?_
        refine b_istore_n dX11_possibleTogether_35 (by decide) rfl ?_
        refine b_iinc dX11_possibleTogether_36 rfl (nI_1 _) (by decide) rfl ?_
        refine b_goto 4 dX11_possibleTogether_39 (by decide) ?_
        have c2 := (b_test (by omega)).mp c1
        exact ih (i + 1) _ (by omega) (by rw [mTog, if_pos c2, hx])
  exact lp P 0 _ (by omega) rfl
def oTogether (L : LD) (s : Int32) : Int32 := if s >>> (nI L.P &&& 31) = 0 then (if L.W = 0 then -5 else tog L s) else -3
theorem c_X_together {G : GT} {d : Nat} {σ : ST} {μ : SL} {W F P t : Nat} {s : Int32} (hX : XV σ W F P t) : Fn G (d + 3) mX11_together [.ref (G.b0 + 0), .int s] (sh G σ μ) (Ret (some (.int (oTogether (vX σ W F P t) s))) (sh G σ μ)) := by
  obtain ⟨⟨hW, hF, hP, hW16, hF8, hP6⟩, -⟩ := id hX
  refine fn_of (ls := [some (.ref (G.b0 + 0)), some (.int s)]) (by decide +kernel) (Nat.le_of_ble_eq_true rfl) 0 rfl ?_
  refine b_iload_n dX11_together_0 rfl ?_
  refine b_aload_n dX11_together_1 rfl ?_
  refine g_get dX11_together_2 fX11_23 a0 rfl ?_
  refine g_geti (x := nI P) dX11_together_5 fX11_171 a20 rfl hP ?_
  refine b_ishr dX11_together_8 ?_
  refine b_if_eq 15 dX11_together_9 (by decide) (fun c1 => ?_) (fun c1 => ?_)
  · skip
    refine b_aload_n dX11_together_15 rfl ?_
    refine g_get dX11_together_16 fX11_23 a0 rfl ?_
    refine g_geti (x := nI W) dX11_together_19 fX11_165 a20 rfl hW ?_
    refine b_if_ne 30 dX11_together_22 (by decide) (fun c2 => ?_) (fun c2 => ?_)
    · skip
      have h0 : ¬ W = 0 := fun z => c2 (by rw [z]; rfl)
      refine b_aload_n dX11_together_30 rfl ?_
      refine b_iload_n dX11_together_31 rfl ?_
      refine g_callV [.int s] dX11_together_32 kX11_possibleTogether lX11_233 a0 rfl rfl (c_possibleTogether hX) rfl rfl (Nat.le_of_ble_eq_true rfl) ?_
      exact b_iret dX11_together_35 ⟨by simp only [oTogether, c1, h0, if_true, if_false], rfl⟩
    · skip
      have h0 : W = 0 := by rw [← nI_0, nI_eq (by omega) (by omega)] at c2; exact c2
      refine b_bipush (v := -5) dX11_together_25 (by decide) ?_
      refine b_goto 35 dX11_together_27 (by decide) ?_
      exact b_iret dX11_together_35 ⟨by simp [oTogether, c1, h0], rfl⟩
  · skip
    refine b_bipush (v := -3) dX11_together_12 (by decide) ?_
    exact b_iret dX11_together_14 ⟨by simp [oTogether, c1], rfl⟩
/-- fewer, or as many and the less; all are ahead of none -/
def mFewer (s b : Int32) : Bool := decide (b = -1) || decide (cnt s 16 < cnt b 16) || (decide (cnt s 16 = cnt b 16) && decide (s < b))
theorem sub17 : ∀ a, a < 17 → ∀ b, b < 17 → ((nI a - nI b < 0 ↔ a < b) ∧ (nI a - nI b = 0 ↔ a = b)) := by decide +kernel
theorem c_isFewer {G : GT} {d : Nat} {h : HT} {s b : Int32} (hs : lo 16 s) (hb : b = -1 ∨ lo 16 b) : Fn G (d + 1) mX11_isFewer [.int s, .int b] h (Ret (some (.int (bI (mFewer s b)))) h) := by
  refine fn_of (ls := [some (.int s), some (.int b), none]) (by decide +kernel) (Nat.le_of_ble_eq_true rfl) 1 rfl ?_
  refine b_iload_n dX11_isFewer_0 rfl ?_
  refine b_iconst (v := -1) dX11_isFewer_1 (by decide) ?_
  refine b_icmp_ne 7 dX11_isFewer_2 (by decide) (fun c1 => ?_) (fun c1 => ?_)
  · skip
    have hb' : lo 16 b := hb.resolve_left c1
    refine b_iload_n dX11_isFewer_7 rfl ?_
    refine b_callSr [.int s] dX11_isFewer_8 kJ6_bitCount_0f7a4 lX11_180 (c_bitCount hs) rfl rfl (Nat.le_of_ble_eq_true rfl) ?_
    refine b_iload_n dX11_isFewer_11 rfl ?_
    refine b_callSr [.int b] dX11_isFewer_12 kJ6_bitCount_0f7a4 lX11_180 (c_bitCount hb') rfl rfl (Nat.le_of_ble_eq_true rfl) ?_
    refine b_isub dX11_isFewer_15 ?_
    refine b_istore_n dX11_isFewer_16 (by decide) rfl ?_
    refine b_iload_n dX11_isFewer_17 rfl ?_
    have h1 := cnt_le s 16
    have h2 := cnt_le b 16
    have hk := sub17 (cnt s 16) (by omega) (cnt b 16) (by omega)
    refine b_if_lt 30 dX11_isFewer_18 (by decide) (fun c2 => ?_) (fun c2 => ?_)
    · skip
      refine b_iconst (v := nI 1) dX11_isFewer_30 (by decide) ?_
      refine b_goto 35 dX11_isFewer_31 (by decide) ?_
      exact b_zret dX11_isFewer_35 rfl ⟨by simp [mFewer, hk.1.mp c2, bI], rfl⟩
    · skip
      have d2 : ¬ cnt s 16 < cnt b 16 := fun z => c2 (hk.1.mpr z)
      refine b_iload_n dX11_isFewer_21 rfl ?_
      refine b_if_ne 34 dX11_isFewer_22 (by decide) (fun c3 => ?_) (fun c3 => ?_)
      · skip
        refine b_iconst (v := nI 0) dX11_isFewer_34 (by decide) ?_
        have d3 : ¬ cnt s 16 = cnt b 16 := fun z => c3 (hk.2.mpr z)
        exact b_zret dX11_isFewer_35 rfl ⟨by simp only [mFewer, c1, d2, d3, decide_false, Bool.or_self, Bool.false_and]; rfl, rfl⟩
      · skip
        refine b_iload_n dX11_isFewer_25 rfl ?_
        refine b_iload_n dX11_isFewer_26 rfl ?_
        have d3 := hk.2.mp c3
        refine b_icmp_ge 34 dX11_isFewer_27 (by decide) (fun c4 => ?_) (fun c4 => ?_)
        · skip
          refine b_iconst (v := nI 0) dX11_isFewer_34 (by decide) ?_
          have d4 : ¬ s < b := Int32.not_lt.mpr c4
          exact b_zret dX11_isFewer_35 rfl ⟨by simp only [mFewer, c1, d2, d4, decide_false, Bool.or_self, Bool.and_false]; rfl, rfl⟩
        · skip
          refine b_iconst (v := nI 1) dX11_isFewer_30 (by decide) ?_
          refine b_goto 35 dX11_isFewer_31 (by decide) ?_
          have d4 : s < b := Int32.not_le.mp c4
          exact b_zret dX11_isFewer_35 rfl ⟨by simp [mFewer, d3, d4, bI], rfl⟩
  · skip
    refine b_iconst (v := nI 1) dX11_isFewer_5 (by decide) ?_
    exact b_zret dX11_isFewer_6 rfl ⟨by simp [mFewer, c1, bI], rfl⟩
/-- of sets 0 .. k-1 that will do the one of the fewest, then the least; none -/
def mBest (ok : Nat → Bool) : Nat → Int32
  | 0 => -1
  | k + 1 => if mFewer (nI k) (mBest ok k) && ok k then nI k else mBest ok k
theorem mBest_ok (ok : Nat → Bool) : ∀ k, mBest ok k = -1 ∨ ∃ j, j < k ∧ mBest ok k = nI j ∧ ok j = true
  | 0 => Or.inl rfl
  | k + 1 => by
    unfold mBest
    split
    · rename_i h
      simp only [Bool.and_eq_true] at h
      exact Or.inr ⟨k, by omega, rfl, h.2⟩
    · rcases mBest_ok ok k with h | ⟨j, h1, h2, h3⟩
      · exact Or.inl h
      · exact Or.inr ⟨j, by omega, h2, h3⟩
theorem mBest_lo (ok : Nat → Bool) {k n : Nat} (hk : k ≤ 2 ^ n) : mBest ok k = -1 ∨ lo n (mBest ok k) := by
  rcases mBest_ok ok k with h | ⟨j, h1, h2, -⟩
  · exact Or.inl h
  · right; rw [h2]; exact lo_nI (by omega)
def oWit (L : LD) : Int32 := if L.W = 0 then -5 else mBest (fun k => mKn L.gl (tog L (nI k))) (2 ^ L.P)
theorem c_X_witnesses {G : GT} {d : Nat} {σ : ST} {μ : SL} {W F P t : Nat} (hX : XV σ W F P t) : Fn G (d + 3) mX11_witnesses [.ref (G.b0 + 0)] (sh G σ μ) (Ret (some (.int (oWit (vX σ W F P t)))) (sh G σ μ)) := by
  obtain ⟨⟨hW, hF, hP, hW16, hF8, hP6⟩, -⟩ := id hX
  have h64 : 2 ^ P ≤ 64 := Nat.pow_le_pow_right (by omega) hP6
  refine fn_of (ls := [some (.ref (G.b0 + 0)), none, none]) (by decide +kernel) (Nat.le_of_ble_eq_true rfl) 2 rfl ?_
  refine b_aload_n dX11_witnesses_0 rfl ?_
  refine g_get dX11_witnesses_1 fX11_23 a0 rfl ?_
  refine g_geti (x := nI W) dX11_witnesses_4 fX11_165 a20 rfl hW ?_
  refine b_if_ne 13 dX11_witnesses_7 (by decide) (fun c1 => ?_) (fun c1 => ?_)
  · skip
    have h0 : ¬ W = 0 := fun z => c1 (by rw [z]; rfl)
    refine b_iconst (v := -1) dX11_witnesses_13 (by decide) ?_
    refine b_istore_n dX11_witnesses_14 (by decide) rfl ?_
    refine b_iconst (v := nI 0) dX11_witnesses_15 (by decide) ?_
    refine b_istore_n dX11_witnesses_16 (by decide) rfl ?_
    have lp : ∀ (n i : Nat) (x : Int32), i + n = 2 ^ P → x = mBest (fun k => mKn (σ 20 5) (tog (vX σ W F P t) (nI k))) i → BB G RX11 cX11_witnesses 3 (some .int) (d + 3) (QM G (Ret (some (.int (oWit (vX σ W F P t)))) (sh G σ μ))) 17 [some (.ref (G.b0 + 0)), some (.int x), some (.int (nI i))] [] (sh G σ μ) := by
      intro n
      induction n with
      | zero =>
        intro i x hi hx
        refine b_iload_n dX11_witnesses_17 rfl ?_
        refine b_iconst (v := nI 1) dX11_witnesses_18 (by decide) ?_
        refine b_aload_n dX11_witnesses_19 rfl ?_
        refine g_get dX11_witnesses_20 fX11_23 a0 rfl ?_
        refine g_geti (x := nI P) dX11_witnesses_23 fX11_171 a20 rfl hP ?_
        refine b_ishl dX11_witnesses_26 ?_
        refine b_top (shl_pow (by omega)) ?_
        refine b_icmp_ge_t 61 dX11_witnesses_27 (by decide) (nI_le (by omega) (by omega)) ?_
        refine b_iload_n dX11_witnesses_61 rfl ?_
        exact b_iret dX11_witnesses_62 ⟨by simp only [oWit, h0, if_false]; rw [hx, show i = 2 ^ P by omega], rfl⟩
      | succ n ih =>
        intro i x hi hx
        have hlo : x = -1 ∨ lo 16 x := by rw [hx]; exact mBest_lo _ (by omega)
        refine b_iload_n dX11_witnesses_17 rfl ?_
        refine b_iconst (v := nI 1) dX11_witnesses_18 (by decide) ?_
        refine b_aload_n dX11_witnesses_19 rfl ?_
        refine g_get dX11_witnesses_20 fX11_23 a0 rfl ?_
        refine g_geti (x := nI P) dX11_witnesses_23 fX11_171 a20 rfl hP ?_
        refine b_ishl dX11_witnesses_26 ?_
        refine b_top (shl_pow (by omega)) ?_
        refine b_icmp_ge_f 61 dX11_witnesses_27 (by decide) (nI_ge (by omega) (by omega)) ?_
        refine b_iload_n dX11_witnesses_30 rfl ?_
        refine b_iload_n dX11_witnesses_31 rfl ?_
        refine b_callSr [.int (nI i), .int x] dX11_witnesses_32 kX11_isFewer lX11_236 (c_isFewer (lo_nI (by omega)) hlo) rfl rfl (Nat.le_of_ble_eq_true rfl) ?_
        refine b_if_eq 55 dX11_witnesses_35 (by decide) (fun c2 => ?_) (fun c2 => ?_)
        · skip
          refine b_iinc dX11_witnesses_55 rfl (nI_1 _) (by decide) rfl ?_
          refine b_goto 17 dX11_witnesses_58 (by decide) ?_
          have d2 := (bI_0 _).mp c2
          exact ih (i + 1) _ (by omega) (by rw [mBest, ← hx, d2]; rfl)
        · skip
          refine b_aload_n dX11_witnesses_38 rfl ?_
          refine g_get dX11_witnesses_39 fX11_23 a0 rfl ?_
          refine b_aload_n dX11_witnesses_42 rfl ?_
          refine b_iload_n dX11_witnesses_43 rfl ?_
          have d2 := (bI_1 _).mp c2
          refine g_callV [.int (nI i)] dX11_witnesses_44 kX11_possibleTogether lX11_233 a0 rfl rfl (c_possibleTogether hX) rfl rfl (Nat.le_of_ble_eq_true rfl) ?_
          refine g_callV [.int _] dX11_witnesses_47 kX2_isGuiltKnown lX11_148 a20 rfl rfl (c_isGuiltKnown ln20) rfl rfl (Nat.le_of_ble_eq_true rfl) ?_
          refine b_if_eq 55 dX11_witnesses_50 (by decide) (fun c3 => ?_) (fun c3 => ?_)
          · skip
            refine b_iinc dX11_witnesses_55 rfl (nI_1 _) (by decide) rfl ?_
            refine b_goto 17 dX11_witnesses_58 (by decide) ?_
            have d3 : mKn (σ 20 5) (tog (vX σ W F P t) (nI i)) = false := (bI_0 _).mp c3
            exact ih (i + 1) _ (by omega) (by rw [mBest, ← hx, d2, d3]; rfl)
          · skip
            refine b_iload_n dX11_witnesses_53 rfl ?_
            refine b_istore_n dX11_witnesses_54 (by decide) rfl ?_
            refine b_iinc dX11_witnesses_55 rfl (nI_1 _) (by decide) rfl ?_
            refine b_goto 17 dX11_witnesses_58 (by decide) ?_
            have d3 : mKn (σ 20 5) (tog (vX σ W F P t) (nI i)) = true := (bI_1 _).mp c3
            exact ih (i + 1) _ (by omega) (by rw [mBest, ← hx, d2, d3]; rfl)
    exact lp (2 ^ P) 0 _ (by omega) rfl
  · skip
    have h0 : W = 0 := by rw [← nI_0, nI_eq (by omega) (by omega)] at c1; exact c1
    refine b_bipush (v := -5) dX11_witnesses_10 (by decide) ?_
    exact b_iret dX11_witnesses_12 ⟨by simp [oWit, h0], rfl⟩
def oPart (L : LD) (p q : Int32) : Int32 := if inR p L.P && inR q L.P then mKnown L.hold (poss L (ix p) L.t) L.F ^^^ mKnown L.hold (poss L (ix q) L.t) L.F else -2
theorem c_X_parting {G : GT} {d : Nat} {σ : ST} {μ : SL} {W F P t : Nat} {p q : Int32} (hX : XV σ W F P t) : Fn G (d + 3) mX11_parting [.ref (G.b0 + 0), .int p, .int q] (sh G σ μ) (Ret (some (.int (oPart (vX σ W F P t) p q))) (sh G σ μ)) := by
  obtain ⟨⟨hW, hF, hP, hW16, hF8, hP6⟩, -⟩ := id hX
  refine fn_of (ls := [some (.ref (G.b0 + 0)), some (.int p), some (.int q)]) (by decide +kernel) (Nat.le_of_ble_eq_true rfl) 0 rfl ?_
  refine b_aload_n dX11_parting_0 rfl ?_
  refine b_iload_n dX11_parting_1 rfl ?_
  refine g_callV [.int p] dX11_parting_2 kX11_isPerson lX11_136 a0 rfl rfl (c_isPerson hP) rfl rfl (Nat.le_of_ble_eq_true rfl) ?_
  refine b_if_eq 16 dX11_parting_5 (by decide) (fun c1 => ?_) (fun c1 => ?_)
  · skip
    refine b_bipush (v := -2) dX11_parting_16 (by decide) ?_
    exact b_iret dX11_parting_18 ⟨by simp [oPart, (bI_0 _).mp c1], rfl⟩
  · skip
    have c2 := (bI_1 _).mp c1
    obtain ⟨j, hj, rfl⟩ := inR_of (by omega) c2
    have hix := ix_nI (show j < 2 ^ 31 by omega)
    refine b_aload_n dX11_parting_8 rfl ?_
    refine b_iload_n dX11_parting_9 rfl ?_
    refine g_callV [.int q] dX11_parting_10 kX11_isPerson lX11_136 a0 rfl rfl (c_isPerson hP) rfl rfl (Nat.le_of_ble_eq_true rfl) ?_
    refine b_if_ne 19 dX11_parting_13 (by decide) (fun c3 => ?_) (fun c3 => ?_)
    · skip
      have c4 := (bI_1 _).mp c3
      obtain ⟨k, hk, rfl⟩ := inR_of (by omega) c4
      have hkx := ix_nI (show k < 2 ^ 31 by omega)
      refine b_aload_n dX11_parting_19 rfl ?_
      refine g_get dX11_parting_20 fX11_23 a0 rfl ?_
      refine b_aload_n dX11_parting_23 rfl ?_
      refine b_iload_n dX11_parting_24 rfl ?_
      refine g_callV [.int (nI j)] dX11_parting_25 kX11_possibleTo lX11_139 a0 rfl rfl (c_possibleTo hX (by omega)) rfl rfl (Nat.le_of_ble_eq_true rfl) ?_
      refine g_callV [.int (poss (vX σ W F P t) j t)] dX11_parting_28 kX2_knownBy lX11_145 a20 rfl rfl (c_knownBy ln20 hX.1) rfl rfl (Nat.le_of_ble_eq_true rfl) ?_
      refine b_aload_n dX11_parting_31 rfl ?_
      refine g_get dX11_parting_32 fX11_23 a0 rfl ?_
      refine b_aload_n dX11_parting_35 rfl ?_
      refine b_iload_n dX11_parting_36 rfl ?_
      refine g_callV [.int (nI k)] dX11_parting_37 kX11_possibleTo lX11_139 a0 rfl rfl (c_possibleTo hX (by omega)) rfl rfl (Nat.le_of_ble_eq_true rfl) ?_
      refine g_callV [.int (poss (vX σ W F P t) k t)] dX11_parting_40 kX2_knownBy lX11_145 a20 rfl rfl (c_knownBy ln20 hX.1) rfl rfl (Nat.le_of_ble_eq_true rfl) ?_
      refine b_ixor dX11_parting_43 ?_
      exact b_iret dX11_parting_44 ⟨by simp only [oPart, c2, c4, hix, hkx, Bool.and_true, if_true], rfl⟩
    · skip
      refine b_bipush (v := -2) dX11_parting_16 (by decide) ?_
      exact b_iret dX11_parting_18 ⟨by simp [oPart, (bI_0 _).mp c3], rfl⟩
def amt (L : LD) (m p w : Nat) : Int32 := mAmt L.hold L.wt L.gl L.W L.F m (poss L p w)
theorem c_amount {G : GT} {d : Nat} {σ : ST} {μ : SL} {W F P t p m : Nat} (hX : XV σ W F P t) (hp : p < 6) (hm : m < 4) : Fn G (d + 3) mX11_amount [.ref (G.b0 + 0), .int (nI p), .int (nI m)] (sh G σ μ) (Ret (some (.int (amt (vX σ W F P t) m p t))) (sh G σ μ)) := by
  obtain ⟨⟨hW, hF, hP, hW16, hF8, hP6⟩, -⟩ := id hX
  refine fn_of (ls := [some (.ref (G.b0 + 0)), some (.int (nI p)), some (.int (nI m))]) (by decide +kernel) (Nat.le_of_ble_eq_true rfl) 0 rfl ?_
  refine b_aload_n dX11_amount_0 rfl ?_
  refine g_get dX11_amount_1 fX11_23 a0 rfl ?_
  refine b_iload_n dX11_amount_4 rfl ?_
  refine b_aload_n dX11_amount_5 rfl ?_
  refine b_iload_n dX11_amount_6 rfl ?_
  refine g_callV [.int (nI p)] dX11_amount_7 kX11_possibleTo lX11_139 a0 rfl rfl (c_possibleTo hX (by omega)) rfl rfl (Nat.le_of_ble_eq_true rfl) ?_
  refine g_callV [.int (nI m), .int (poss (vX σ W F P t) p t)] dX11_amount_10 kX2_amountOf lX11_245 a20 rfl rfl (c_amountOf ln20 hX.1 hm (lo_mono (lo_poss (W := W) (by omega) _) hW16)) rfl rfl (Nat.le_of_ble_eq_true rfl) ?_
  exact b_iret dX11_amount_13 ⟨rfl, rfl⟩
def oMeas (L : LD) (p m : Int32) : Int32 := if inR p L.P && inR m 4 then amt L (ix m) (ix p) L.t else -2
theorem c_X_measure {G : GT} {d : Nat} {σ : ST} {μ : SL} {W F P t : Nat} {p m : Int32} (hX : XV σ W F P t) : Fn G (d + 4) mX11_measure [.ref (G.b0 + 0), .int p, .int m] (sh G σ μ) (Ret (some (.int (oMeas (vX σ W F P t) p m))) (sh G σ μ)) := by
  obtain ⟨⟨hW, hF, hP, hW16, hF8, hP6⟩, -⟩ := id hX
  refine fn_of (ls := [some (.ref (G.b0 + 0)), some (.int p), some (.int m)]) (by decide +kernel) (Nat.le_of_ble_eq_true rfl) 0 rfl ?_
  refine b_aload_n dX11_measure_0 rfl ?_
  refine b_iload_n dX11_measure_1 rfl ?_
  refine g_callV [.int p] dX11_measure_2 kX11_isPerson lX11_136 a0 rfl rfl (c_isPerson hP) rfl rfl (Nat.le_of_ble_eq_true rfl) ?_
  refine b_if_eq 15 dX11_measure_5 (by decide) (fun c1 => ?_) (fun c1 => ?_)
  · skip
    refine b_bipush (v := -2) dX11_measure_15 (by decide) ?_
    exact b_iret dX11_measure_17 ⟨by simp [oMeas, (bI_0 _).mp c1], rfl⟩
  · skip
    have c2 := (bI_1 _).mp c1
    obtain ⟨j, hj, rfl⟩ := inR_of (by omega) c2
    have hix := ix_nI (show j < 2 ^ 31 by omega)
    refine b_iload_n dX11_measure_8 rfl ?_
    refine b_callSr [.int m] dX11_measure_9 kX11_isMeasure lX11_239 c_isMeasure rfl rfl (Nat.le_of_ble_eq_true rfl) ?_
    refine b_if_ne 18 dX11_measure_12 (by decide) (fun c3 => ?_) (fun c3 => ?_)
    · skip
      have c4 := (bI_1 _).mp c3
      obtain ⟨k, hk, rfl⟩ := inR_of (by omega) c4
      have hkx := ix_nI (show k < 2 ^ 31 by omega)
      refine b_aload_n dX11_measure_18 rfl ?_
      refine b_iload_n dX11_measure_19 rfl ?_
      refine b_iload_n dX11_measure_20 rfl ?_
      refine g_callV [.int (nI j), .int (nI k)] dX11_measure_21 kX11_amount lX11_242 a0 rfl rfl (c_amount hX (by omega) hk) rfl rfl (Nat.le_of_ble_eq_true rfl) ?_
      exact b_iret dX11_measure_24 ⟨by simp only [oMeas, c2, c4, hix, hkx, Bool.and_true, if_true], rfl⟩
    · skip
      refine b_bipush (v := -2) dX11_measure_15 (by decide) ?_
      exact b_iret dX11_measure_17 ⟨by simp [oMeas, (bI_0 _).mp c3], rfl⟩
/-- who is least by measure m, told as tl, in world w -/
def lst (L : LD) (m : Nat) (tl : Nat → Int32) (w : Nat) : Int32 := mLeast L.hold L.wt L.gl L.W L.F L.P m tl w
def oLeast (L : LD) (m : Int32) : Int32 := if inR m 4 then lst L (ix m) L.told L.t else -2
theorem c_X_least {G : GT} {d : Nat} {σ : ST} {μ : SL} {W F P t : Nat} {m : Int32} (hX : XV σ W F P t) : Fn G (d + 4) mX11_least [.ref (G.b0 + 0), .int m] (sh G σ μ) (Ret (some (.int (oLeast (vX σ W F P t) m))) (sh G σ μ)) := by
  have ht := hX.t32
  refine fn_of (ls := [some (.ref (G.b0 + 0)), some (.int m)]) (by decide +kernel) (Nat.le_of_ble_eq_true rfl) 0 rfl ?_
  refine b_iload_n dX11_least_0 rfl ?_
  refine b_callSr [.int m] dX11_least_1 kX11_isMeasure lX11_239 c_isMeasure rfl rfl (Nat.le_of_ble_eq_true rfl) ?_
  refine b_if_eq 32 dX11_least_4 (by decide) (fun c1 => ?_) (fun c1 => ?_)
  · skip
    refine b_bipush (v := -2) dX11_least_32 (by decide) ?_
    exact b_iret dX11_least_34 ⟨by simp [oLeast, (bI_0 _).mp c1], rfl⟩
  · skip
    have c4 := (bI_1 _).mp c1
    obtain ⟨k, hk, rfl⟩ := inR_of (by omega) c4
    have hkx := ix_nI (show k < 2 ^ 31 by omega)
    refine b_aload_n dX11_least_7 rfl ?_
    refine g_get dX11_least_8 fX11_23 a0 rfl ?_
    refine b_iload_n dX11_least_11 rfl ?_
    refine b_aload_n dX11_least_12 rfl ?_
    refine g_get dX11_least_13 fX11_30 a0 rfl ?_
    refine g_get dX11_least_16 fX11_142 a26 rfl ?_
    refine b_aload_n dX11_least_19 rfl ?_
    refine g_get dX11_least_20 fX11_30 a0 rfl ?_
    refine g_geti (x := nI t) dX11_least_23 fX11_174 a26 rfl hX.2.1 ?_
    refine g_callV [.int (nI k), .ref (G.b0 + 27), .int (nI t)] dX11_least_26 kX2_leastBy lX11_218 a20 rfl rfl (c_leastBy ln20 a27 hX.1 hk (by omega)) rfl rfl (Nat.le_of_ble_eq_true rfl) ?_
    refine b_goto 34 dX11_least_29 (by decide) ?_
    exact b_iret dX11_least_34 ⟨by simp only [oLeast, c4, hkx, if_true]; rfl, rfl⟩
def mSeat (L : LD) (m : Nat) (p : Int32) : Nat → Nat
  | 0 => 0
  | w + 1 => mSeat L m p w + if lst L m L.told w = p then 1 else 0
def oSeats (L : LD) (p m : Int32) : Int32 := if inR p L.P && inR m 4 then nI (mSeat L (ix m) p L.W) else -2
theorem c_X_seats {G : GT} {d : Nat} {σ : ST} {μ : SL} {W F P t : Nat} {p m : Int32} (hX : XV σ W F P t) : Fn G (d + 4) mX11_seats [.ref (G.b0 + 0), .int p, .int m] (sh G σ μ) (Ret (some (.int (oSeats (vX σ W F P t) p m))) (sh G σ μ)) := by
  obtain ⟨⟨hW, hF, hP, hW16, hF8, hP6⟩, -⟩ := id hX
  refine fn_of (ls := [some (.ref (G.b0 + 0)), some (.int p), some (.int m), none, none]) (by decide +kernel) (Nat.le_of_ble_eq_true rfl) 2 rfl ?_
  refine b_aload_n dX11_seats_0 rfl ?_
  refine b_iload_n dX11_seats_1 rfl ?_
  refine g_callV [.int p] dX11_seats_2 kX11_isPerson lX11_136 a0 rfl rfl (c_isPerson hP) rfl rfl (Nat.le_of_ble_eq_true rfl) ?_
  refine b_if_eq 15 dX11_seats_5 (by decide) (fun c1 => ?_) (fun c1 => ?_)
  · skip
    refine b_bipush (v := -2) dX11_seats_15 (by decide) ?_
    exact b_iret dX11_seats_17 ⟨by simp [oSeats, (bI_0 _).mp c1], rfl⟩
  · skip
    have c2 := (bI_1 _).mp c1
    refine b_iload_n dX11_seats_8 rfl ?_
    refine b_callSr [.int m] dX11_seats_9 kX11_isMeasure lX11_239 c_isMeasure rfl rfl (Nat.le_of_ble_eq_true rfl) ?_
    refine b_if_ne 18 dX11_seats_12 (by decide) (fun c3 => ?_) (fun c3 => ?_)
    · skip
      have c4 := (bI_1 _).mp c3
      obtain ⟨k, hk, rfl⟩ := inR_of (by omega) c4
      have hkx := ix_nI (show k < 2 ^ 31 by omega)
      refine b_iconst (v := nI 0) dX11_seats_18 (by decide) ?_
      refine b_istore_n dX11_seats_19 (by decide) rfl ?_
      refine b_iconst (v := nI 0) dX11_seats_20 (by decide) ?_
      refine b_istore dX11_seats_21 (by decide) rfl ?_
      have lp : ∀ (n i : Nat), i + n = W → BB G RX11 cX11_seats 5 (some .int) (d + 4) (QM G (Ret (some (.int (oSeats (vX σ W F P t) p (nI k)))) (sh G σ μ))) 23 [some (.ref (G.b0 + 0)), some (.int p), some (.int (nI k)), some (.int (nI (mSeat (vX σ W F P t) k p i))), some (.int (nI i))] [] (sh G σ μ) := by
        intro n
        induction n with
        | zero =>
          intro i hi
          refine b_iload dX11_seats_23 rfl ?_
          refine b_aload_n dX11_seats_25 rfl ?_
          refine g_get dX11_seats_26 fX11_23 a0 rfl ?_
          refine g_geti (x := nI W) dX11_seats_29 fX11_165 a20 rfl hW ?_
          refine b_icmp_ge_t 65 dX11_seats_32 (by decide) (nI_le (by omega) (by omega)) ?_
          refine b_iload_n dX11_seats_65 rfl ?_
          exact b_iret dX11_seats_66 ⟨by simp only [oSeats, c2, c4, hkx, Bool.and_true, if_true]; rw [show i = W by omega], rfl⟩
        | succ n ih =>
          intro i hi
          refine b_iload dX11_seats_23 rfl ?_
          refine b_aload_n dX11_seats_25 rfl ?_
          refine g_get dX11_seats_26 fX11_23 a0 rfl ?_
          refine g_geti (x := nI W) dX11_seats_29 fX11_165 a20 rfl hW ?_
          refine b_icmp_ge_f 65 dX11_seats_32 (by decide) (nI_ge (by omega) (by omega)) ?_
          refine b_aload_n dX11_seats_35 rfl ?_
          refine g_get dX11_seats_36 fX11_23 a0 rfl ?_
          refine b_iload_n dX11_seats_39 rfl ?_
          refine b_aload_n dX11_seats_40 rfl ?_
          refine g_get dX11_seats_41 fX11_30 a0 rfl ?_
          refine g_get dX11_seats_44 fX11_142 a26 rfl ?_
          refine b_iload dX11_seats_47 rfl ?_
          refine g_callV [.int (nI k), .ref (G.b0 + 27), .int (nI i)] dX11_seats_49 kX2_leastBy lX11_218 a20 rfl rfl (c_leastBy ln20 a27 hX.1 hk (by omega)) rfl rfl (Nat.le_of_ble_eq_true rfl) ?_
          refine b_iload_n dX11_seats_52 rfl ?_
          refine b_icmp_ne 59 dX11_seats_53 (by decide) (fun c5 => ?_) (fun c5 => ?_)
          · skip
            refine b_iinc dX11_seats_59 rfl (nI_1 _) (by decide) rfl ?_
            refine b_goto 23 dX11_seats_62 (by decide) ?_
            have e : mSeat (vX σ W F P t) k p i = mSeat (vX σ W F P t) k p (i + 1) := by rw [mSeat]; simp [show ¬ lst (vX σ W F P t) k (σ 27) i = p from c5]
            rw [e]
            exact ih (i + 1) (by omega)
          · skip
            refine b_iinc dX11_seats_56 rfl (nI_1 _) (by decide) rfl ?_
            refine b_iinc dX11_seats_59 rfl (nI_1 _) (by decide) rfl ?_
            refine b_goto 23 dX11_seats_62 (by decide) ?_
            have e : mSeat (vX σ W F P t) k p i + 1 = mSeat (vX σ W F P t) k p (i + 1) := by rw [mSeat]; simp [show lst (vX σ W F P t) k (σ 27) i = p from c5]
            rw [e]
            exact ih (i + 1) (by omega)
      exact lp W 0 (by omega)
    · skip
      refine b_bipush (v := -2) dX11_seats_15 (by decide) ?_
      exact b_iret dX11_seats_17 ⟨by simp [oSeats, (bI_0 _).mp c3], rfl⟩

