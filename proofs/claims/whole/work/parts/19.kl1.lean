/-! ===== KnowsLeast: person, knows, cell; what is known ===== -/
theorem inR_out {x : Int32} {n : Nat} (hn : n < 2 ^ 31) (h : inR x n = false) : x.toInt < 0 ∨ (n : Int) ≤ x.toInt := by
  rcases pk_ix x hn with h1 | h1 | ⟨j, hj, rfl⟩
  · left; have := Int32.lt_iff_toInt_lt.mp h1; simpa using this
  · right; have := Int32.le_iff_toInt_le.mp h1; rwa [nI_toInt hn] at this
  · rw [inR_nI (by omega) hn] at h; simp at h; omega
theorem c_X_person {G : GT} {d : Nat} {σ : ST} {μ : SL} {W F P t : Nat} {p x : Int32} (hX : XV σ W F P t) : Fn G (d + 3) mX11_person [.ref (G.b0 + 0), .int p, .int x] (sh G σ μ) (Ret (some (.int (oPerson (vX σ W F P t) p x))) (sh G σ μ)) := by
  obtain ⟨⟨hW, hF, hP, hW16, hF8, hP6⟩, -⟩ := id hX
  refine fn_of (ls := [some (.ref (G.b0 + 0)), some (.int p), some (.int x), none]) (by decide +kernel) (Nat.le_of_ble_eq_true rfl) 1 rfl ?_
  refine b_aload_n dX11_person_0 rfl ?_
  refine b_iload_n dX11_person_1 rfl ?_
  refine g_callV [.int p] dX11_person_2 kX11_isPerson lX11_136 a0 rfl rfl (c_isPerson hP) rfl rfl (Nat.le_of_ble_eq_true rfl) ?_
  refine b_if_ne 11 dX11_person_5 (by decide) (fun c1 => ?_) (fun c1 => ?_)
  · skip
    have c2 := (bI_1 _).mp c1
    obtain ⟨j, hj, rfl⟩ := inR_of (by omega) c2
    have hix := ix_nI (show j < 2 ^ 31 by omega)
    refine b_aload_n dX11_person_11 rfl ?_
    refine b_iload_n dX11_person_12 rfl ?_
    refine g_callV [.int (nI j)] dX11_person_13 kX11_possibleTo lX11_139 a0 rfl rfl (c_possibleTo hX (by omega)) rfl rfl (Nat.le_of_ble_eq_true rfl) ?_
    refine b_istore_n dX11_person_16 (by decide) rfl ?_
    refine b_iload_n dX11_person_17 rfl ?_
    by_cases c3 : inR x 5 = true
    · obtain ⟨k, hk, rfl⟩ := inR_of (by omega) c3
      have hkx := ix_nI (show k < 2 ^ 31 by omega)
      have hmi : (nI k).toInt = (k : Int) := nI_toInt (by omega)
      rcases (show k = 0 ∨ k = 1 ∨ k = 2 ∨ k = 3 ∨ k = 4 by omega) with rfl | rfl | rfl | rfl | rfl
      · refine b_tableIn 52 dX11_person_18 (by rw [hmi]; decide) (by rw [hmi]; decide) (by rw [hmi]; rfl) (by decide) ?_
        refine b_aload_n dX11_person_52 rfl ?_
        refine g_get dX11_person_53 fX11_30 a0 rfl ?_
        refine g_get dX11_person_56 fX11_142 a26 rfl ?_
        refine b_iload_n dX11_person_59 rfl ?_
        refine g_iald dX11_person_60 a27 rfl (by omega) ?_
        exact b_iret dX11_person_61 ⟨by simp [oPerson, c2, c3, hix, hkx], rfl⟩
      · refine b_tableIn 62 dX11_person_18 (by rw [hmi]; decide) (by rw [hmi]; decide) (by rw [hmi]; rfl) (by decide) ?_
        refine b_iload_n dX11_person_62 rfl ?_
        exact b_iret dX11_person_63 ⟨by simp [oPerson, c2, c3, hix, hkx], rfl⟩
      · refine b_tableIn 64 dX11_person_18 (by rw [hmi]; decide) (by rw [hmi]; decide) (by rw [hmi]; rfl) (by decide) ?_
        refine b_aload_n dX11_person_64 rfl ?_
        refine g_get dX11_person_65 fX11_23 a0 rfl ?_
        refine b_iload_n dX11_person_68 rfl ?_
        refine g_callV [.int (poss (vX σ W F P t) j t)] dX11_person_69 kX2_knownBy lX11_145 a20 rfl rfl (c_knownBy ln20 hX.1) rfl rfl (Nat.le_of_ble_eq_true rfl) ?_
        exact b_iret dX11_person_72 ⟨by simp [oPerson, c2, c3, hix, hkx], rfl⟩
      · refine b_tableIn 73 dX11_person_18 (by rw [hmi]; decide) (by rw [hmi]; decide) (by rw [hmi]; rfl) (by decide) ?_
        refine b_aload_n dX11_person_73 rfl ?_
        refine g_get dX11_person_74 fX11_23 a0 rfl ?_
        refine b_iload_n dX11_person_77 rfl ?_
        refine g_callV [.int (poss (vX σ W F P t) j t)] dX11_person_78 kX2_isGuiltKnown lX11_148 a20 rfl rfl (c_isGuiltKnown ln20) rfl rfl (Nat.le_of_ble_eq_true rfl) ?_
        refine b_if_eq 88 dX11_person_81 (by decide) (fun c4 => ?_) (fun c4 => ?_)
        · skip
          refine b_iconst (v := nI 0) dX11_person_88 (by decide) ?_
          exact b_iret dX11_person_89 ⟨by simp [oPerson, c2, c3, hix, hkx, (bI_0 _).mp c4, bI], rfl⟩
        · skip
          refine b_iconst (v := nI 1) dX11_person_84 (by decide) ?_
          refine b_goto 89 dX11_person_85 (by decide) ?_
          exact b_iret dX11_person_89 ⟨by simp [oPerson, c2, c3, hix, hkx, (bI_1 _).mp c4, bI], rfl⟩
      · refine b_tableIn 90 dX11_person_18 (by rw [hmi]; decide) (by rw [hmi]; decide) (by rw [hmi]; rfl) (by decide) ?_
        refine b_aload_n dX11_person_90 rfl ?_
        refine g_get dX11_person_91 fX11_23 a0 rfl ?_
        refine g_get dX11_person_94 fX11_151 a20 rfl ?_
        refine b_iload_n dX11_person_97 rfl ?_
        refine g_iald dX11_person_98 a25 rfl (by omega) ?_
        exact b_iret dX11_person_99 ⟨by simp [oPerson, c2, c3, hix, hkx], rfl⟩
    · have c4 : inR x 5 = false := by simpa using c3
      have h5 := inR_out (by omega) c4
      refine b_tableOut 100 dX11_person_18 (by omega) (by decide) ?_
      refine b_bipush (v := -2) dX11_person_100 (by decide) ?_
      exact b_iret dX11_person_102 ⟨by simp [oPerson, c4], rfl⟩
  · skip
    refine b_bipush (v := -2) dX11_person_8 (by decide) ?_
    exact b_iret dX11_person_10 ⟨by simp [oPerson, (bI_0 _).mp c1], rfl⟩
theorem c_X_knows {G : GT} {d : Nat} {σ : ST} {μ : SL} {W F P t : Nat} {p f : Int32} (hX : XV σ W F P t) : Fn G (d + 3) mX11_knows [.ref (G.b0 + 0), .int p, .int f] (sh G σ μ) (Ret (some (.int (oKnows (vX σ W F P t) p f))) (sh G σ μ)) := by
  obtain ⟨⟨hW, hF, hP, hW16, hF8, hP6⟩, -⟩ := id hX
  refine fn_of (ls := [some (.ref (G.b0 + 0)), some (.int p), some (.int f), none]) (by decide +kernel) (Nat.le_of_ble_eq_true rfl) 1 rfl ?_
  refine b_aload_n dX11_knows_0 rfl ?_
  refine b_iload_n dX11_knows_1 rfl ?_
  refine g_callV [.int p] dX11_knows_2 kX11_isPerson lX11_136 a0 rfl rfl (c_isPerson hP) rfl rfl (Nat.le_of_ble_eq_true rfl) ?_
  refine b_if_eq 16 dX11_knows_5 (by decide) (fun c1 => ?_) (fun c1 => ?_)
  · skip
    refine b_bipush (v := -2) dX11_knows_16 (by decide) ?_
    exact b_iret dX11_knows_18 ⟨by simp [oKnows, (bI_0 _).mp c1], rfl⟩
  · skip
    have c2 := (bI_1 _).mp c1
    obtain ⟨j, hj, rfl⟩ := inR_of (by omega) c2
    have hix := ix_nI (show j < 2 ^ 31 by omega)
    refine b_aload_n dX11_knows_8 rfl ?_
    refine b_iload_n dX11_knows_9 rfl ?_
    refine g_callV [.int f] dX11_knows_10 kX11_isFact lX11_130 a0 rfl rfl (c_isFact hF) rfl rfl (Nat.le_of_ble_eq_true rfl) ?_
    refine b_if_ne 19 dX11_knows_13 (by decide) (fun c3 => ?_) (fun c3 => ?_)
    · skip
      have c4 := (bI_1 _).mp c3
      obtain ⟨k, hk, rfl⟩ := inR_of (by omega) c4
      have hkx := ix_nI (show k < 2 ^ 31 by omega)
      refine b_aload_n dX11_knows_19 rfl ?_
      refine b_iload_n dX11_knows_20 rfl ?_
      refine g_callV [.int (nI j)] dX11_knows_21 kX11_possibleTo lX11_139 a0 rfl rfl (c_possibleTo hX (by omega)) rfl rfl (Nat.le_of_ble_eq_true rfl) ?_
      refine b_istore_n dX11_knows_24 (by decide) rfl ?_
      refine b_aload_n dX11_knows_25 rfl ?_
      refine g_get dX11_knows_26 fX11_23 a0 rfl ?_
      refine b_iload_n dX11_knows_29 rfl ?_
      refine b_iload_n dX11_knows_30 rfl ?_
      refine g_callV [.int (nI k), .int (poss (vX σ W F P t) j t)] dX11_knows_31 kX2_isKnown lX11_157 a20 rfl rfl (c_isKnown ln20 (by omega)) rfl rfl (Nat.le_of_ble_eq_true rfl) ?_
      refine b_if_ne 39 dX11_knows_34 (by decide) (fun c5 => ?_) (fun c5 => ?_)
      · skip
        refine b_iload_n dX11_knows_39 rfl ?_
        refine b_aload_n dX11_knows_40 rfl ?_
        refine g_get dX11_knows_41 fX11_23 a0 rfl ?_
        refine g_get dX11_knows_44 fX11_133 a20 rfl ?_
        refine b_iload_n dX11_knows_47 rfl ?_
        refine g_iald dX11_knows_48 a23 rfl (by omega) ?_
        refine b_iand dX11_knows_49 ?_
        refine b_iload_n dX11_knows_50 rfl ?_
        refine b_icmp_ne 58 dX11_knows_51 (by decide) (fun c6 => ?_) (fun c6 => ?_)
        · skip
          refine b_iconst (v := nI 0) dX11_knows_58 (by decide) ?_
          exact b_iret dX11_knows_59 ⟨by simp only [oKnows, c2, c4, hix, hkx, Bool.and_true, if_true]; rw [if_pos ((bI_1 _).mp c5), if_neg c6], rfl⟩
        · skip
          refine b_iconst (v := nI 1) dX11_knows_54 (by decide) ?_
          refine b_goto 59 dX11_knows_55 (by decide) ?_
          exact b_iret dX11_knows_59 ⟨by simp only [oKnows, c2, c4, hix, hkx, Bool.and_true, if_true]; rw [if_pos ((bI_1 _).mp c5), if_pos c6], rfl⟩
      · skip
        refine b_iconst (v := -1) dX11_knows_37 (by decide) ?_
        exact b_iret dX11_knows_38 ⟨by simp only [oKnows, c2, c4, hix, hkx, Bool.and_true, if_true]; rw [if_neg (by rw [(bI_0 _).mp c5]; decide)], rfl⟩
    · skip
      refine b_bipush (v := -2) dX11_knows_16 (by decide) ?_
      exact b_iret dX11_knows_18 ⟨by simp [oKnows, (bI_0 _).mp c3], rfl⟩
theorem c_X_cell {G : GT} {d : Nat} {σ : ST} {μ : SL} {W F P t : Nat} {p w : Int32} (hX : XV σ W F P t) : Fn G (d + 2) mX11_cell [.ref (G.b0 + 0), .int p, .int w] (sh G σ μ) (Ret (some (.int (oCell (vX σ W F P t) p w))) (sh G σ μ)) := by
  obtain ⟨⟨hW, hF, hP, hW16, hF8, hP6⟩, -⟩ := id hX
  refine fn_of (ls := [some (.ref (G.b0 + 0)), some (.int p), some (.int w)]) (by decide +kernel) (Nat.le_of_ble_eq_true rfl) 0 rfl ?_
  refine b_aload_n dX11_cell_0 rfl ?_
  refine b_iload_n dX11_cell_1 rfl ?_
  refine g_callV [.int p] dX11_cell_2 kX11_isPerson lX11_136 a0 rfl rfl (c_isPerson hP) rfl rfl (Nat.le_of_ble_eq_true rfl) ?_
  refine b_if_eq 16 dX11_cell_5 (by decide) (fun c1 => ?_) (fun c1 => ?_)
  · skip
    refine b_bipush (v := -2) dX11_cell_16 (by decide) ?_
    exact b_iret dX11_cell_18 ⟨by simp [oCell, (bI_0 _).mp c1], rfl⟩
  · skip
    have c2 := (bI_1 _).mp c1
    obtain ⟨j, hj, rfl⟩ := inR_of (by omega) c2
    have hix := ix_nI (show j < 2 ^ 31 by omega)
    refine b_aload_n dX11_cell_8 rfl ?_
    refine b_iload_n dX11_cell_9 rfl ?_
    refine g_callV [.int w] dX11_cell_10 kX11_isWorld lX11_112 a0 rfl rfl (c_isWorld hW) rfl rfl (Nat.le_of_ble_eq_true rfl) ?_
    refine b_if_ne 19 dX11_cell_13 (by decide) (fun c3 => ?_) (fun c3 => ?_)
    · skip
      have c4 := (bI_1 _).mp c3
      obtain ⟨k, hk, rfl⟩ := inR_of (by omega) c4
      have hkx := ix_nI (show k < 2 ^ 31 by omega)
      refine b_aload_n dX11_cell_19 rfl ?_
      refine g_get dX11_cell_20 fX11_23 a0 rfl ?_
      refine b_aload_n dX11_cell_23 rfl ?_
      refine g_get dX11_cell_24 fX11_30 a0 rfl ?_
      refine g_get dX11_cell_27 fX11_142 a26 rfl ?_
      refine b_iload_n dX11_cell_30 rfl ?_
      refine g_iald dX11_cell_31 a27 rfl (by omega) ?_
      refine b_iload_n dX11_cell_32 rfl ?_
      refine g_callV [.int (σ 27 j), .int (nI k)] dX11_cell_33 kX2_possible lX11_161 a20 rfl rfl (c_possible ln20 hX.1 (by omega)) rfl rfl (Nat.le_of_ble_eq_true rfl) ?_
      exact b_iret dX11_cell_36 ⟨by simp only [oCell, c2, c4, hix, hkx, Bool.and_true, if_true]; rfl, rfl⟩
    · skip
      refine b_bipush (v := -2) dX11_cell_16 (by decide) ?_
      exact b_iret dX11_cell_18 ⟨by simp [oCell, (bI_0 _).mp c3], rfl⟩
/-! steps -/
def step (L : LD) (s : Int32) : Int32 := mSt L.hold L.W L.F L.told s L.P
def mRch (L : LD) : Nat → Int32 → Int32
  | 0, s => s
  | n + 1, s => if step L s = s then s else mRch L n (step L s)
def atT (L : LD) : Int32 := nI 1 <<< (nI L.t &&& 31)
theorem c_reached {G : GT} {d : Nat} {σ : ST} {μ : SL} {W F P t n : Nat} (hX : XV σ W F P t) (hn : n < 2 ^ 30) : Fn G (d + 3) mX11_reached [.ref (G.b0 + 0), .int (nI n)] (sh G σ μ) (Ret (some (.int (mRch (vX σ W F P t) n (atT (vX σ W F P t))))) (sh G σ μ)) := by
  refine fn_of (ls := [some (.ref (G.b0 + 0)), some (.int (nI n)), none, none, none]) (by decide +kernel) (Nat.le_of_ble_eq_true rfl) 3 rfl ?_
  refine b_iconst (v := nI 1) dX11_reached_0 (by decide) ?_
  refine b_aload_n dX11_reached_1 rfl ?_
  refine g_get dX11_reached_2 fX11_30 a0 rfl ?_
  refine g_geti (x := nI t) dX11_reached_5 fX11_174 a26 rfl hX.2.1 ?_
  refine b_ishl dX11_reached_8 ?_
  refine b_istore_n dX11_reached_9 (by decide) rfl ?_
  refine b_iconst (v := nI 0) dX11_reached_10 (by decide) ?_
  refine b_istore_n dX11_reached_11 (by decide) rfl ?_
  have lp : ∀ (k i : Nat) (s : Int32) (z : Option Value), i + k = n → mRch (vX σ W F P t) k s = mRch (vX σ W F P t) n (atT (vX σ W F P t)) → BB G RX11 cX11_reached 5 (some .int) (d + 3) (QM G (Ret (some (.int (mRch (vX σ W F P t) n (atT (vX σ W F P t))))) (sh G σ μ))) 12 [some (.ref (G.b0 + 0)), some (.int (nI n)), some (.int s), some (.int (nI i)), z] [] (sh G σ μ) := by
    intro k
    induction k with
    | zero =>
      intro i s z hi he
      refine b_iload_n dX11_reached_12 rfl ?_
      refine b_iload_n dX11_reached_13 rfl ?_
      refine b_icmp_ge_t 51 dX11_reached_14 (by decide) (nI_le (by omega) (by omega)) ?_
      refine b_iload_n dX11_reached_51 rfl ?_
      exact b_iret dX11_reached_52 ⟨by rw [← he]; rfl, rfl⟩
    | succ k ih =>
      intro i s z hi he
      refine b_iload_n dX11_reached_12 rfl ?_
      refine b_iload_n dX11_reached_13 rfl ?_
      refine b_icmp_ge_f 51 dX11_reached_14 (by decide) (nI_ge (by omega) (by omega)) ?_
      refine b_aload_n dX11_reached_17 rfl ?_
      refine g_get dX11_reached_18 fX11_23 a0 rfl ?_
      refine b_iload_n dX11_reached_21 rfl ?_
      refine b_aload_n dX11_reached_22 rfl ?_
      refine g_get dX11_reached_23 fX11_30 a0 rfl ?_
      refine g_get dX11_reached_26 fX11_142 a26 rfl ?_
      refine g_callV [.int s, .ref (G.b0 + 27)] dX11_reached_29 kX2_stepFrom lX11_229 a20 rfl rfl (c_stepFrom ln20 a27 hX.1) rfl rfl (Nat.le_of_ble_eq_true rfl) ?_
      refine b_istore dX11_reached_32 (by decide) rfl ?_
      refine b_iload dX11_reached_34 rfl ?_
      refine b_iload_n dX11_reached_36 rfl ?_
      refine b_icmp_ne 42 dX11_reached_37 (by decide) (fun c1 => ?_) (fun c1 => ?_)
      · skip
        refine b_iload dX11_reached_42 rfl ?_
        refine b_istore_n dX11_reached_44 (by decide) rfl ?_
        refine b_iinc dX11_reached_45 rfl (nI_1 _) (by decide) rfl ?_
        refine b_goto 12 dX11_reached_48 (by decide) ?_
        exact ih (i + 1) _ _ (by omega) (by rw [← he, mRch]; exact (if_neg c1).symm)
      · skip
        refine b_iload_n dX11_reached_40 rfl ?_
        exact b_iret dX11_reached_41 ⟨by rw [← he, mRch]; exact congrArg (fun z => some (Value.int z)) (if_pos c1).symm, rfl⟩
  exact lp n 0 _ _ (by omega) rfl
def oEvery (L : LD) (f : Int32) : Int32 := if inR f L.F then (if L.W = 0 then -5 else bI (mKn (L.hold (ix f)) (mRch L 1 (atT L)))) else -2
theorem c_X_everyone {G : GT} {d : Nat} {σ : ST} {μ : SL} {W F P t : Nat} {f : Int32} (hX : XV σ W F P t) : Fn G (d + 4) mX11_everyone [.ref (G.b0 + 0), .int f] (sh G σ μ) (Ret (some (.int (oEvery (vX σ W F P t) f))) (sh G σ μ)) := by
  obtain ⟨⟨hW, hF, hP, hW16, hF8, hP6⟩, -⟩ := id hX
  refine fn_of (ls := [some (.ref (G.b0 + 0)), some (.int f)]) (by decide +kernel) (Nat.le_of_ble_eq_true rfl) 0 rfl ?_
  refine b_aload_n dX11_everyone_0 rfl ?_
  refine b_iload_n dX11_everyone_1 rfl ?_
  refine g_callV [.int f] dX11_everyone_2 kX11_isFact lX11_130 a0 rfl rfl (c_isFact hF) rfl rfl (Nat.le_of_ble_eq_true rfl) ?_
  refine b_if_ne 11 dX11_everyone_5 (by decide) (fun c1 => ?_) (fun c1 => ?_)
  · skip
    have c2 := (bI_1 _).mp c1
    obtain ⟨k, hk, rfl⟩ := inR_of (by omega) c2
    have hkx := ix_nI (show k < 2 ^ 31 by omega)
    refine b_aload_n dX11_everyone_11 rfl ?_
    refine g_get dX11_everyone_12 fX11_23 a0 rfl ?_
    refine g_geti (x := nI W) dX11_everyone_15 fX11_165 a20 rfl hW ?_
    refine b_if_ne 24 dX11_everyone_18 (by decide) (fun c3 => ?_) (fun c3 => ?_)
    · skip
      have h0 : ¬ W = 0 := fun z => c3 (by rw [z]; rfl)
      refine b_aload_n dX11_everyone_24 rfl ?_
      refine g_get dX11_everyone_25 fX11_23 a0 rfl ?_
      refine b_iload_n dX11_everyone_28 rfl ?_
      refine b_aload_n dX11_everyone_29 rfl ?_
      refine b_iconst (v := nI 1) dX11_everyone_30 (by decide) ?_
      refine g_callV [.int (nI 1)] dX11_everyone_31 kX11_reached lX11_226 a0 rfl rfl (c_reached hX (by omega)) rfl rfl (Nat.le_of_ble_eq_true rfl) ?_
      refine g_callV [.int (nI k), .int _] dX11_everyone_34 kX2_isKnown lX11_157 a20 rfl rfl (c_isKnown ln20 (by omega)) rfl rfl (Nat.le_of_ble_eq_true rfl) ?_
      refine b_if_eq 44 dX11_everyone_37 (by decide) (fun c4 => ?_) (fun c4 => ?_)
      · skip
        refine b_iconst (v := nI 0) dX11_everyone_44 (by decide) ?_
        exact b_iret dX11_everyone_45 ⟨by simp only [oEvery, c2, hkx, if_true, h0, if_false]; rw [(bI_0 _).mp c4]; rfl, rfl⟩
      · skip
        refine b_iconst (v := nI 1) dX11_everyone_40 (by decide) ?_
        refine b_goto 45 dX11_everyone_41 (by decide) ?_
        exact b_iret dX11_everyone_45 ⟨by simp only [oEvery, c2, hkx, if_true, h0, if_false]; rw [(bI_1 _).mp c4]; rfl, rfl⟩
    · skip
      have h0 : W = 0 := by rw [← nI_0, nI_eq (by omega) (by omega)] at c3; exact c3
      refine b_bipush (v := -5) dX11_everyone_21 (by decide) ?_
      exact b_iret dX11_everyone_23 ⟨by simp [oEvery, c2, h0], rfl⟩
  · skip
    refine b_bipush (v := -2) dX11_everyone_8 (by decide) ?_
    exact b_iret dX11_everyone_10 ⟨by simp [oEvery, (bI_0 _).mp c1], rfl⟩
/-- the depth by steps from the true world on: k steps more may be looked at -/
def mDep (L : LD) (f : Nat) : Nat → Nat → Int32 → Int32
  | 0, _, _ => nI 100
  | k + 1, n, s => if step L s = s then nI 100 else if mKn (L.hold f) (step L s) then mDep L f k (n + 1) (step L s) else nI n
def oDepth (L : LD) (f : Int32) : Int32 := if inR f L.F then (if L.W = 0 then -5 else mDep L (ix f) 16 0 (atT L)) else -2
theorem c_X_depth {G : GT} {d : Nat} {σ : ST} {μ : SL} {W F P t : Nat} {f : Int32} (hX : XV σ W F P t) : Fn G (d + 3) mX11_depth [.ref (G.b0 + 0), .int f] (sh G σ μ) (Ret (some (.int (oDepth (vX σ W F P t) f))) (sh G σ μ)) := by
  obtain ⟨⟨hW, hF, hP, hW16, hF8, hP6⟩, -⟩ := id hX
  refine fn_of (ls := [some (.ref (G.b0 + 0)), some (.int f), none, none, none]) (by decide +kernel) (Nat.le_of_ble_eq_true rfl) 3 rfl ?_
  refine b_aload_n dX11_depth_0 rfl ?_
  refine b_iload_n dX11_depth_1 rfl ?_
  refine g_callV [.int f] dX11_depth_2 kX11_isFact lX11_130 a0 rfl rfl (c_isFact hF) rfl rfl (Nat.le_of_ble_eq_true rfl) ?_
  refine b_if_ne 11 dX11_depth_5 (by decide) (fun c1 => ?_) (fun c1 => ?_)
  · skip
    have c2 := (bI_1 _).mp c1
    obtain ⟨j, hj, rfl⟩ := inR_of (by omega) c2
    have hkx := ix_nI (show j < 2 ^ 31 by omega)
    refine b_aload_n dX11_depth_11 rfl ?_
    refine g_get dX11_depth_12 fX11_23 a0 rfl ?_
    refine g_geti (x := nI W) dX11_depth_15 fX11_165 a20 rfl hW ?_
    refine b_if_ne 24 dX11_depth_18 (by decide) (fun c3 => ?_) (fun c3 => ?_)
    · skip
      have h0 : ¬ W = 0 := fun z => c3 (by rw [z]; rfl)
      have hE : oDepth (vX σ W F P t) (nI j) = mDep (vX σ W F P t) j 16 0 (atT (vX σ W F P t)) := by simp only [oDepth, c2, hkx, if_true, h0, if_false]
      refine b_iconst (v := nI 1) dX11_depth_24 (by decide) ?_
      refine b_aload_n dX11_depth_25 rfl ?_
      refine g_get dX11_depth_26 fX11_30 a0 rfl ?_
      refine g_geti (x := nI t) dX11_depth_29 fX11_174 a26 rfl hX.2.1 ?_
      refine b_ishl dX11_depth_32 ?_
      refine b_istore_n dX11_depth_33 (by decide) rfl ?_
      refine b_iconst (v := nI 0) dX11_depth_34 (by decide) ?_
      refine b_istore_n dX11_depth_35 (by decide) rfl ?_
      have lp : ∀ (k i : Nat) (s : Int32) (z : Option Value), i + k = 16 → mDep (vX σ W F P t) j k i s = mDep (vX σ W F P t) j 16 0 (atT (vX σ W F P t)) → BB G RX11 cX11_depth 5 (some .int) (d + 3) (QM G (Ret (some (.int (oDepth (vX σ W F P t) (nI j)))) (sh G σ μ))) 36 [some (.ref (G.b0 + 0)), some (.int (nI j)), some (.int s), some (.int (nI i)), z] [] (sh G σ μ) := by
        intro k
        induction k with
        | zero =>
          intro i s z hi he
          refine b_iload_n dX11_depth_36 rfl ?_
          refine b_bipush (v := nI 16) dX11_depth_37 (by decide) ?_
          refine b_icmp_ge_t 92 dX11_depth_39 (by decide) (nI_le (by omega) (by omega)) ?_
          refine b_bipush (v := nI 100) dX11_depth_92 (by decide) ?_
          exact b_iret dX11_depth_94 ⟨by rw [hE, ← he]; rfl, rfl⟩
        | succ k ih =>
          intro i s z hi he
          refine b_iload_n dX11_depth_36 rfl ?_
          refine b_bipush (v := nI 16) dX11_depth_37 (by decide) ?_
          refine b_icmp_ge_f 92 dX11_depth_39 (by decide) (nI_ge (by omega) (by omega)) ?_
          refine b_aload_n dX11_depth_42 rfl ?_
          refine g_get dX11_depth_43 fX11_23 a0 rfl ?_
          refine b_iload_n dX11_depth_46 rfl ?_
          refine b_aload_n dX11_depth_47 rfl ?_
          refine g_get dX11_depth_48 fX11_30 a0 rfl ?_
          refine g_get dX11_depth_51 fX11_142 a26 rfl ?_
          refine g_callV [.int s, .ref (G.b0 + 27)] dX11_depth_54 kX2_stepFrom lX11_229 a20 rfl rfl (c_stepFrom ln20 a27 hX.1) rfl rfl (Nat.le_of_ble_eq_true rfl) ?_
          refine b_istore dX11_depth_57 (by decide) rfl ?_
          refine b_iload dX11_depth_59 rfl ?_
          refine b_iload_n dX11_depth_61 rfl ?_
          refine b_icmp_ne 68 dX11_depth_62 (by decide) (fun c4 => ?_) (fun c4 => ?_)
          · skip
            refine b_aload_n dX11_depth_68 rfl ?_
            refine g_get dX11_depth_69 fX11_23 a0 rfl ?_
            refine b_iload_n dX11_depth_72 rfl ?_
            refine b_iload dX11_depth_73 rfl ?_
            refine g_callV [.int (nI j), .int (step (vX σ W F P t) s)] dX11_depth_75 kX2_isKnown lX11_157 a20 rfl rfl (c_isKnown ln20 (by omega)) rfl rfl (Nat.le_of_ble_eq_true rfl) ?_
            have c4' : ¬ step (vX σ W F P t) s = s := c4
            rw [mDep, if_neg c4'] at he
            refine b_if_ne 83 dX11_depth_78 (by decide) (fun c5 => ?_) (fun c5 => ?_)
            · skip
              refine b_iload dX11_depth_83 rfl ?_
              refine b_istore_n dX11_depth_85 (by decide) rfl ?_
              refine b_iinc dX11_depth_86 rfl (nI_1 _) (by decide) rfl ?_
              refine b_goto 36 dX11_depth_89 (by decide) ?_
              have c5' : mKn ((vX σ W F P t).hold j) (step (vX σ W F P t) s) = true := (bI_1 _).mp c5
              rw [if_pos c5'] at he
              exact ih (i + 1) _ _ (by omega) he
            · skip
              refine b_iload_n dX11_depth_81 rfl ?_
              have c5' : mKn ((vX σ W F P t).hold j) (step (vX σ W F P t) s) = false := (bI_0 _).mp c5
              rw [if_neg (by rw [c5']; decide)] at he
              exact b_iret dX11_depth_82 ⟨by rw [hE, ← he], rfl⟩
          · skip
            refine b_bipush (v := nI 100) dX11_depth_65 (by decide) ?_
            have c4' : step (vX σ W F P t) s = s := c4
            rw [mDep, if_pos c4'] at he
            exact b_iret dX11_depth_67 ⟨by rw [hE, ← he], rfl⟩
      exact lp 16 0 _ _ (by omega) rfl
    · skip
      have h0 : W = 0 := by rw [← nI_0, nI_eq (by omega) (by omega)] at c3; exact c3
      refine b_bipush (v := -5) dX11_depth_21 (by decide) ?_
      exact b_iret dX11_depth_23 ⟨by simp [oDepth, c2, h0], rfl⟩
  · skip
    refine b_bipush (v := -2) dX11_depth_8 (by decide) ?_
    exact b_iret dX11_depth_10 ⟨by simp [oDepth, (bI_0 _).mp c1], rfl⟩
def oCommon (L : LD) : Int32 := if L.W = 0 then -5 else mKnown L.hold (mRch L 16 (atT L)) L.F
theorem c_X_common {G : GT} {d : Nat} {σ : ST} {μ : SL} {W F P t : Nat} (hX : XV σ W F P t) : Fn G (d + 4) mX11_common [.ref (G.b0 + 0)] (sh G σ μ) (Ret (some (.int (oCommon (vX σ W F P t)))) (sh G σ μ)) := by
  obtain ⟨⟨hW, hF, hP, hW16, hF8, hP6⟩, -⟩ := id hX
  refine fn_of (ls := [some (.ref (G.b0 + 0))]) (by decide +kernel) (Nat.le_of_ble_eq_true rfl) 0 rfl ?_
  refine b_aload_n dX11_common_0 rfl ?_
  refine g_get dX11_common_1 fX11_23 a0 rfl ?_
  refine g_geti (x := nI W) dX11_common_4 fX11_165 a20 rfl hW ?_
  refine b_if_ne 15 dX11_common_7 (by decide) (fun c1 => ?_) (fun c1 => ?_)
  · skip
    have h0 : ¬ W = 0 := fun z => c1 (by rw [z]; rfl)
    refine b_aload_n dX11_common_15 rfl ?_
    refine g_get dX11_common_16 fX11_23 a0 rfl ?_
    refine b_aload_n dX11_common_19 rfl ?_
    refine b_bipush (v := nI 16) dX11_common_20 (by decide) ?_
    refine g_callV [.int (nI 16)] dX11_common_22 kX11_reached lX11_226 a0 rfl rfl (c_reached hX (by omega)) rfl rfl (Nat.le_of_ble_eq_true rfl) ?_
    refine g_callV [.int _] dX11_common_25 kX2_knownBy lX11_145 a20 rfl rfl (c_knownBy ln20 hX.1) rfl rfl (Nat.le_of_ble_eq_true rfl) ?_
    exact b_iret dX11_common_28 ⟨by simp only [oCommon, h0, if_false], rfl⟩
  · skip
    have h0 : W = 0 := by rw [← nI_0, nI_eq (by omega) (by omega)] at c1; exact c1
    refine b_bipush (v := -5) dX11_common_10 (by decide) ?_
    refine b_goto 28 dX11_common_12 (by decide) ?_
    exact b_iret dX11_common_28 ⟨by simp [oCommon, h0], rfl⟩
/-- from a to b -/
def inB (x : Int32) (a b : Nat) : Bool := decide (nI a ≤ x) && decide (x ≤ nI b)
theorem inB_of {x : Int32} {a b : Nat} (hb : b < 2 ^ 31) (h : inB x a b = true) (ha : a ≤ b) : ∃ j, a ≤ j ∧ j ≤ b ∧ x = nI j := by
  simp only [inB, Bool.and_eq_true, decide_eq_true_eq] at h
  have h0 : ¬ x < 0 := fun z => by
    have h1 := Int32.le_trans h.1 (Int32.le_of_lt z)
    rw [← nI_0, nI_leI (by omega) (by omega)] at h1
    have h2 : a = 0 := by omega
    subst h2
    exact absurd h.1 (Int32.not_le.mpr z)
  obtain ⟨j, hj, rfl⟩ := nI_of h0
  exact ⟨j, (nI_leI (by omega) hj).mp h.1, (nI_leI hj hb).mp h.2, rfl⟩
def oReach (L : LD) (n : Int32) : Int32 := if inB n 1 20 then (if L.W = 0 then -5 else mRch L (ix n) (atT L)) else -3
theorem c_X_reach {G : GT} {d : Nat} {σ : ST} {μ : SL} {W F P t : Nat} {n : Int32} (hX : XV σ W F P t) : Fn G (d + 4) mX11_reach [.ref (G.b0 + 0), .int n] (sh G σ μ) (Ret (some (.int (oReach (vX σ W F P t) n))) (sh G σ μ)) := by
  obtain ⟨⟨hW, hF, hP, hW16, hF8, hP6⟩, -⟩ := id hX
  refine fn_of (ls := [some (.ref (G.b0 + 0)), some (.int n)]) (by decide +kernel) (Nat.le_of_ble_eq_true rfl) 0 rfl ?_
  refine b_iload_n dX11_reach_0 rfl ?_
  refine b_iconst (v := nI 1) dX11_reach_1 (by decide) ?_
  refine b_icmp_lt 11 dX11_reach_2 (by decide) (fun c1 => ?_) (fun c1 => ?_)
  · skip
    refine b_bipush (v := -3) dX11_reach_11 (by decide) ?_
    exact b_iret dX11_reach_13 ⟨by simp [oReach, inB, Int32.not_le.mpr c1], rfl⟩
  · skip
    refine b_iload_n dX11_reach_5 rfl ?_
    refine b_bipush (v := nI 20) dX11_reach_6 (by decide) ?_
    refine b_icmp_le 14 dX11_reach_8 (by decide) (fun c2 => ?_) (fun c2 => ?_)
    · skip
      have c3 : inB n 1 20 = true := by simp [inB, Int32.not_lt.mp c1, c2]
      obtain ⟨j, hj1, hj2, rfl⟩ := inB_of (by omega) c3 (by omega)
      have hkx := ix_nI (show j < 2 ^ 31 by omega)
      refine b_aload_n dX11_reach_14 rfl ?_
      refine g_get dX11_reach_15 fX11_23 a0 rfl ?_
      refine g_geti (x := nI W) dX11_reach_18 fX11_165 a20 rfl hW ?_
      refine b_if_ne 29 dX11_reach_21 (by decide) (fun c4 => ?_) (fun c4 => ?_)
      · skip
        have h0 : ¬ W = 0 := fun z => c4 (by rw [z]; rfl)
        refine b_aload_n dX11_reach_29 rfl ?_
        refine b_iload_n dX11_reach_30 rfl ?_
        refine g_callV [.int (nI j)] dX11_reach_31 kX11_reached lX11_226 a0 rfl rfl (c_reached hX (by omega)) rfl rfl (Nat.le_of_ble_eq_true rfl) ?_
        exact b_iret dX11_reach_34 ⟨by simp only [oReach, c3, hkx, if_true, h0, if_false], rfl⟩
      · skip
        have h0 : W = 0 := by rw [← nI_0, nI_eq (by omega) (by omega)] at c4; exact c4
        refine b_bipush (v := -5) dX11_reach_24 (by decide) ?_
        refine b_goto 34 dX11_reach_26 (by decide) ?_
        exact b_iret dX11_reach_34 ⟨by simp [oReach, c3, h0], rfl⟩
    · skip
      refine b_bipush (v := -3) dX11_reach_11 (by decide) ?_
      exact b_iret dX11_reach_13 ⟨by simp [oReach, inB, c2], rfl⟩

