/-! ===== KnowsLeast: fitting, sure, feed, count ===== -/
def fi (v : Int64) : Nat := ix v.toInt32
def mFit (L : LD) (v : Nat → Int64) : Nat → Nat → Int32 → Bool
  | 0, _, _ => true
  | n + 1, i, q => if mKn (L.hold (fi (v i))) q then false else mFit L v n (i + 1) (q &&& mSide L.hold (fi (v i)) L.t)
theorem askBad_no {F : Nat} {v : Nat → Int64} (hF : F < 2 ^ 31) : ∀ n, askBad F v n = false → ∀ i, i < n → fi (v i) < F ∧ v i = lN (fi (v i))
  | 0, _, i, hi => absurd hi (Nat.not_lt_zero i)
  | n + 1, h, i, hi => by
    rw [askBad, Bool.or_eq_false_iff] at h
    rcases Nat.lt_or_ge i n with q | q
    · exact askBad_no hF n h.1 i q
    · have e : i = n := by omega
      subst e
      have h2 := h.2
      simp only [Bool.not_eq_false', Bool.and_eq_true, decide_eq_true_eq] at h2
      obtain ⟨k, hk, he⟩ := pk_lOf (Int64.not_lt.mpr h2.1)
      rw [he] at h2
      have h3 := (pk_lLT hk (by omega)).mp h2.2
      have h4 : fi (v i) = k := by rw [he, fi, lN_i]; exact ix_nI (by omega)
      exact ⟨by omega, by rw [h4]; exact he⟩
theorem c_isFitting {G : GT} {d : Nat} {σ : ST} {μ : SL} {W F P t r len : Nat} {told : Int32} (Rr : Rwo G r) (hX : XV σ W F P t) (hlen : σ r 1 = nI len) (hl40 : len ≤ 40) (hb : askBad F (μ (r + 1)) len = false) : Fn G (d + 2) mX11_isFitting [.ref (G.b0 + 0), .int told, .ref (G.b0 + r)] (sh G σ μ) (Ret (some (.int (bI (mFit (vX σ W F P t) (μ (r + 1)) len 0 (mPoss (σ 23) W told t F))))) (sh G σ μ)) := by
  have ht := hX.t32
  obtain ⟨⟨hW, hF, hP, hW16, hF8, hP6⟩, -⟩ := id hX
  refine fn_of (ls := [some (.ref (G.b0 + 0)), some (.int told), some (.ref (G.b0 + r)), none, none, none]) (by decide +kernel) (Nat.le_of_ble_eq_true rfl) 3 rfl ?_
  refine b_aload_n dX11_isFitting_0 rfl ?_
  refine g_get dX11_isFitting_1 fX11_23 a0 rfl ?_
  refine b_iload_n dX11_isFitting_4 rfl ?_
  refine b_aload_n dX11_isFitting_5 rfl ?_
  refine g_get dX11_isFitting_6 fX11_30 a0 rfl ?_
  refine g_geti (x := nI t) dX11_isFitting_9 fX11_174 a26 rfl hX.2.1 ?_
  refine g_callV [.int told, .int (nI t)] dX11_isFitting_12 kX2_possible lX11_161 a20 rfl rfl (c_possible ln20 hX.1 (by omega)) rfl rfl (Nat.le_of_ble_eq_true rfl) ?_
  refine b_istore_n dX11_isFitting_15 (by decide) rfl ?_
  refine b_iconst (v := nI 0) dX11_isFitting_16 (by decide) ?_
  refine b_istore dX11_isFitting_17 (by decide) rfl ?_
  have lp : ∀ (n i : Nat) (q : Int32) (z : Option Value), i + n = len → mFit (vX σ W F P t) (μ (r + 1)) n i q = mFit (vX σ W F P t) (μ (r + 1)) len 0 (mPoss (σ 23) W told t F) → BB G RX11 cX11_isFitting 6 (some .boolean) (d + 2) (QM G (Ret (some (.int (bI (mFit (vX σ W F P t) (μ (r + 1)) len 0 (mPoss (σ 23) W told t F))))) (sh G σ μ))) 19 [some (.ref (G.b0 + 0)), some (.int told), some (.ref (G.b0 + r)), some (.int q), some (.int (nI i)), z] [] (sh G σ μ) := by
    intro n
    induction n with
    | zero =>
      intro i q z hi he
      refine b_iload dX11_isFitting_19 rfl ?_
      refine b_aload_n dX11_isFitting_21 rfl ?_
      refine g_geti (x := nI len) dX11_isFitting_22 fX11_211 Rr.1 rfl hlen ?_
      refine b_icmp_ge_t 87 dX11_isFitting_25 (by decide) (nI_le (by omega) (by omega)) ?_
      refine b_iconst (v := nI 1) dX11_isFitting_87 (by decide) ?_
      exact b_zret dX11_isFitting_88 rfl ⟨by rw [← he]; rfl, rfl⟩
    | succ n ih =>
      intro i q z hi he
      obtain ⟨hf1, hf2⟩ := askBad_no (by omega) len hb i (by omega)
      generalize hfe : fi (μ (r + 1) i) = f at hf1 hf2
      rw [mFit, hfe] at he
      refine b_iload dX11_isFitting_19 rfl ?_
      refine b_aload_n dX11_isFitting_21 rfl ?_
      refine g_geti (x := nI len) dX11_isFitting_22 fX11_211 Rr.1 rfl hlen ?_
      refine b_icmp_ge_f 87 dX11_isFitting_25 (by decide) (nI_ge (by omega) (by omega)) ?_
      refine b_aload_n dX11_isFitting_28 rfl ?_
      refine g_get dX11_isFitting_29 fX11_309 Rr.1 rfl ?_
      refine b_iload dX11_isFitting_32 rfl ?_
      refine g_lald dX11_isFitting_34 Rr.2 rfl (by omega) ?_
      refine b_l2i dX11_isFitting_35 ?_
      refine b_istore dX11_isFitting_36 (by decide) rfl ?_
      refine b_aload_n dX11_isFitting_38 rfl ?_
      refine b_iload dX11_isFitting_39 rfl ?_
      rw [show (μ (r + 1) i).toInt32 = nI f by rw [hf2]; exact lN_i f]
      refine g_callV [.int (nI f)] dX11_isFitting_41 kX11_isFact lX11_130 a0 rfl rfl (c_isFact hF) rfl rfl (Nat.le_of_ble_eq_true rfl) ?_
      refine b_if_eq_f 60 dX11_isFitting_44 (by decide) (by rw [inR_nI (by omega) (by omega), decide_eq_true hf1]; decide) ?_
      refine b_aload_n dX11_isFitting_47 rfl ?_
      refine g_get dX11_isFitting_48 fX11_23 a0 rfl ?_
      refine b_iload dX11_isFitting_51 rfl ?_
      refine b_iload_n dX11_isFitting_53 rfl ?_
      refine g_callV [.int (nI f), .int q] dX11_isFitting_54 kX2_isKnown lX11_157 a20 rfl rfl (c_isKnown ln20 (by omega)) rfl rfl (Nat.le_of_ble_eq_true rfl) ?_
      refine b_if_eq 62 dX11_isFitting_57 (by decide) (fun c1 => ?_) (fun c1 => ?_)
      · skip
        have c2 : mKn ((vX σ W F P t).hold f) q = false := (bI_0 _).mp c1
        rw [if_neg (by rw [c2]; decide)] at he
        refine b_iload_n dX11_isFitting_62 rfl ?_
        refine b_aload_n dX11_isFitting_63 rfl ?_
        refine g_get dX11_isFitting_64 fX11_23 a0 rfl ?_
        refine b_iload dX11_isFitting_67 rfl ?_
        refine b_aload_n dX11_isFitting_69 rfl ?_
        refine g_get dX11_isFitting_70 fX11_30 a0 rfl ?_
        refine g_geti (x := nI t) dX11_isFitting_73 fX11_174 a26 rfl hX.2.1 ?_
        refine g_callV [.int (nI f), .int (nI t)] dX11_isFitting_76 kX2_sideOf lX11_312 a20 rfl rfl (c_sideOf ln20 (by omega) (by omega)) rfl rfl (Nat.le_of_ble_eq_true rfl) ?_
        refine b_iand dX11_isFitting_79 ?_
        refine b_istore_n dX11_isFitting_80 (by decide) rfl ?_
        refine b_iinc dX11_isFitting_81 rfl (nI_1 _) (by decide) rfl ?_
        refine b_goto 19 dX11_isFitting_84 (by decide) ?_
        exact ih (i + 1) _ _ (by omega) he
      · skip
        have c2 : mKn ((vX σ W F P t).hold f) q = true := (bI_1 _).mp c1
        rw [if_pos c2] at he
        refine b_iconst (v := nI 0) dX11_isFitting_60 (by decide) ?_
        exact b_zret dX11_isFitting_61 rfl ⟨by rw [← he]; rfl, rfl⟩
  exact lp len 0 _ _ (by omega) rfl
def mCt (ok : Nat → Bool) : Nat → Nat
  | 0 => 0
  | k + 1 => mCt ok k + if ok k then 1 else 0
def mSome (ok : Nat → Bool) : Nat → Int32
  | 0 => nI 0
  | k + 1 => if ok k then mSome ok k ||| nI k else mSome ok k
def mAny (ok : Nat → Bool) : Nat → Bool
  | 0 => false
  | k + 1 => mAny ok k || ok k
def fitK (L : LD) (v : Nat → Int64) (len k : Nat) : Bool := mFit L v len 0 (mPoss L.hold L.W (nI k) L.t L.F)
def oFitting (L : LD) (R : Nat → Option (Nat × Nat)) (v : Nat → Nat → Int64) (row : Int32) : Int32 :=
  if oNoRow L R v row = 0 then (match R (ix row) with | none => 0 | some q => nI (mCt (fitK L (v (ix row)) q.1) (2 ^ L.F))) else oNoRow L R v row
def oSure (L : LD) (R : Nat → Option (Nat × Nat)) (v : Nat → Nat → Int64) (row : Int32) : Int32 :=
  if oNoRow L R v row = 0 then (match R (ix row) with | none => 0 | some q => if mAny (fitK L (v (ix row)) q.1) (2 ^ L.F) then mAll L.F &&& (mSome (fitK L (v (ix row)) q.1) (2 ^ L.F) ^^^ (-1)) else -1) else oNoRow L R v row
theorem oNoRow_ok {L : LD} {R : Nat → Option (Nat × Nat)} {v : Nat → Nat → Int64} {row : Int32} (h : oNoRow L R v row = 0) : inR row 4 = true ∧ ∃ q, R (ix row) = some q ∧ 1 ≤ q.1 ∧ q.1 ≤ 8 ∧ askBad L.F (v (ix row)) q.1 = false ∧ ¬ L.W = 0 := by
  unfold oNoRow at h
  split at h
  · rename_i h1
    refine ⟨h1, ?_⟩
    split at h
    · exact absurd h (by decide)
    · rename_i q hq
      split at h
      · exact absurd h (by decide)
      · rename_i h2
        split at h
        · exact absurd h (by decide)
        · rename_i h3
          split at h
          · exact absurd h (by decide)
          · rename_i h4
            exact ⟨q, hq, by omega, by omega, by simpa using h3, h4⟩
  · exact absurd h (by decide)
theorem c_X_fitting {G : GT} {d : Nat} {σ : ST} {μ : SL} {W F P t : Nat} {row : Int32} {R : Nat → Option (Nat × Nat)} (hX : XV σ W F P t) (hR : ∀ j, j < 4 → RowIs σ μ j (R j)) : Fn G (d + 3) mX11_fitting [.ref (G.b0 + 0), .int row] (sh G σ μ) (Ret (some (.int (oFitting (vX σ W F P t) R (fun j => μ (50 + 2 * j)) row))) (sh G σ μ)) := by
  obtain ⟨⟨hW, hF, hP, hW16, hF8, hP6⟩, -⟩ := id hX
  have h256 : 2 ^ F ≤ 256 := Nat.pow_le_pow_right (by omega) hF8
  refine fn_of (ls := [some (.ref (G.b0 + 0)), some (.int row), none, none, none]) (by decide +kernel) (Nat.le_of_ble_eq_true rfl) 3 rfl ?_
  refine b_aload_n dX11_fitting_0 rfl ?_
  refine b_iload_n dX11_fitting_1 rfl ?_
  refine g_callV [.int row] dX11_fitting_2 kX11_refusedAsked lX11_298 a0 rfl rfl (c_refusedAsked hX hR) rfl rfl (Nat.le_of_ble_eq_true rfl) ?_
  refine b_istore_n dX11_fitting_5 (by decide) rfl ?_
  refine b_iload_n dX11_fitting_6 rfl ?_
  refine b_if_eq 12 dX11_fitting_7 (by decide) (fun c1 => ?_) (fun c1 => ?_)
  · skip
    obtain ⟨c2, ⟨len, sort⟩, hRe, hl1, hl8, hb, hW0⟩ := oNoRow_ok c1
    obtain ⟨j, hj, rfl⟩ := inR_of (by omega) c2
    have hix := ix_nI (show j < 2 ^ 31 by omega)
    rw [hix] at hRe hb
    have hl8 : len ≤ 8 := hl8
    have hRj := hR j hj
    rw [hRe] at hRj
    have hl : σ (49 + 2 * j) 1 = nI len := hRj.1
    have hv9 : μ (49 + 2 * j + 1) = μ (50 + 2 * j) := by rw [show 49 + 2 * j + 1 = 50 + 2 * j by omega]
    have hb9 : askBad F (μ (49 + 2 * j + 1)) len = false := by rw [hv9]; exact hb
    have hE : oFitting (vX σ W F P t) R (fun j => μ (50 + 2 * j)) (nI j) = nI (mCt (fitK (vX σ W F P t) (μ (49 + 2 * j + 1)) len) (2 ^ F)) := by simp only [oFitting, c1, if_true, hix, hRe]; rw [hv9]
    refine b_iconst (v := nI 0) dX11_fitting_12 (by decide) ?_
    refine b_istore_n dX11_fitting_13 (by decide) rfl ?_
    refine b_iconst (v := nI 0) dX11_fitting_14 (by decide) ?_
    refine b_istore dX11_fitting_15 (by decide) rfl ?_
    have lp : ∀ (n i : Nat), i + n = 2 ^ F → BB G RX11 cX11_fitting 5 (some .int) (d + 3) (QM G (Ret (some (.int (oFitting (vX σ W F P t) R (fun j => μ (50 + 2 * j)) (nI j)))) (sh G σ μ))) 17 [some (.ref (G.b0 + 0)), some (.int (nI j)), some (.int (oNoRow (vX σ W F P t) R (fun j => μ (50 + 2 * j)) (nI j))), some (.int (nI (mCt (fitK (vX σ W F P t) (μ (49 + 2 * j + 1)) len) i))), some (.int (nI i))] [] (sh G σ μ) := by
      intro n
      induction n with
      | zero =>
        intro i hi
        refine b_iload dX11_fitting_17 rfl ?_
        refine b_iconst (v := nI 1) dX11_fitting_19 (by decide) ?_
        refine b_aload_n dX11_fitting_20 rfl ?_
        refine g_get dX11_fitting_21 fX11_23 a0 rfl ?_
        refine g_geti (x := nI F) dX11_fitting_24 fX11_168 a20 rfl hF ?_
        refine b_ishl dX11_fitting_27 ?_
        refine b_top (shl_pow (by omega)) ?_
        refine b_icmp_ge_t 55 dX11_fitting_28 (by decide) (nI_le (by omega) (by omega)) ?_
        refine b_iload_n dX11_fitting_55 rfl ?_
        exact b_iret dX11_fitting_56 ⟨by rw [hE, show i = 2 ^ F by omega], rfl⟩
      | succ n ih =>
        intro i hi
        refine b_iload dX11_fitting_17 rfl ?_
        refine b_iconst (v := nI 1) dX11_fitting_19 (by decide) ?_
        refine b_aload_n dX11_fitting_20 rfl ?_
        refine g_get dX11_fitting_21 fX11_23 a0 rfl ?_
        refine g_geti (x := nI F) dX11_fitting_24 fX11_168 a20 rfl hF ?_
        refine b_ishl dX11_fitting_27 ?_
        refine b_top (shl_pow (by omega)) ?_
        refine b_icmp_ge_f 55 dX11_fitting_28 (by decide) (nI_ge (by omega) (by omega)) ?_
        refine b_aload_n dX11_fitting_31 rfl ?_
        refine b_iload dX11_fitting_32 rfl ?_
        refine b_aload_n dX11_fitting_34 rfl ?_
        refine g_get dX11_fitting_35 fX11_67 a0 rfl ?_
        refine b_iload_n dX11_fitting_38 rfl ?_
        refine g_rowld (j := j) dX11_fitting_39 (by omega) ?_
        refine g_callV [.int (nI i), .ref (G.b0 + ((49 + 2 * j)))] dX11_fitting_40 kX11_isFitting lX11_301 a0 rfl rfl (c_isFitting (rwj hj) hX hl (by omega) hb9) rfl rfl (Nat.le_of_ble_eq_true rfl) ?_
        refine b_if_eq 49 dX11_fitting_43 (by decide) (fun c3 => ?_) (fun c3 => ?_)
        · skip
          refine b_iinc dX11_fitting_49 rfl (nI_1 _) (by decide) rfl ?_
          refine b_goto 17 dX11_fitting_52 (by decide) ?_
          have c4 : fitK (vX σ W F P t) (μ (49 + 2 * j + 1)) len i = false := (bI_0 _).mp c3
          have e : mCt (fitK (vX σ W F P t) (μ (49 + 2 * j + 1)) len) i = mCt (fitK (vX σ W F P t) (μ (49 + 2 * j + 1)) len) (i + 1) := by rw [mCt, c4]; rfl
          rw [e]
          exact ih (i + 1) (by omega)
        · skip
          refine b_iinc dX11_fitting_46 rfl (nI_1 _) (by decide) rfl ?_
          refine b_iinc dX11_fitting_49 rfl (nI_1 _) (by decide) rfl ?_
          refine b_goto 17 dX11_fitting_52 (by decide) ?_
          have c4 : fitK (vX σ W F P t) (μ (49 + 2 * j + 1)) len i = true := (bI_1 _).mp c3
          have e : mCt (fitK (vX σ W F P t) (μ (49 + 2 * j + 1)) len) i + 1 = mCt (fitK (vX σ W F P t) (μ (49 + 2 * j + 1)) len) (i + 1) := by rw [mCt, c4]; rfl
          rw [e]
          exact ih (i + 1) (by omega)
    exact lp (2 ^ F) 0 (by omega)
  · skip
    refine b_iload_n dX11_fitting_10 rfl ?_
    exact b_iret dX11_fitting_11 ⟨by simp only [oFitting, c1, if_false], rfl⟩
theorem c_X_sure {G : GT} {d : Nat} {σ : ST} {μ : SL} {W F P t : Nat} {row : Int32} {R : Nat → Option (Nat × Nat)} (hX : XV σ W F P t) (hR : ∀ j, j < 4 → RowIs σ μ j (R j)) : Fn G (d + 3) mX11_sure [.ref (G.b0 + 0), .int row] (sh G σ μ) (Ret (some (.int (oSure (vX σ W F P t) R (fun j => μ (50 + 2 * j)) row))) (sh G σ μ)) := by
  obtain ⟨⟨hW, hF, hP, hW16, hF8, hP6⟩, -⟩ := id hX
  have h256 : 2 ^ F ≤ 256 := Nat.pow_le_pow_right (by omega) hF8
  refine fn_of (ls := [some (.ref (G.b0 + 0)), some (.int row), none, none, none, none]) (by decide +kernel) (Nat.le_of_ble_eq_true rfl) 4 rfl ?_
  refine b_aload_n dX11_sure_0 rfl ?_
  refine b_iload_n dX11_sure_1 rfl ?_
  refine g_callV [.int row] dX11_sure_2 kX11_refusedAsked lX11_298 a0 rfl rfl (c_refusedAsked hX hR) rfl rfl (Nat.le_of_ble_eq_true rfl) ?_
  refine b_istore_n dX11_sure_5 (by decide) rfl ?_
  refine b_iload_n dX11_sure_6 rfl ?_
  refine b_if_eq 12 dX11_sure_7 (by decide) (fun c1 => ?_) (fun c1 => ?_)
  · skip
    obtain ⟨c2, ⟨len, sort⟩, hRe, hl1, hl8, hb, hW0⟩ := oNoRow_ok c1
    obtain ⟨j, hj, rfl⟩ := inR_of (by omega) c2
    have hix := ix_nI (show j < 2 ^ 31 by omega)
    rw [hix] at hRe hb
    have hl8 : len ≤ 8 := hl8
    have hRj := hR j hj
    rw [hRe] at hRj
    have hl : σ (49 + 2 * j) 1 = nI len := hRj.1
    have hv9 : μ (49 + 2 * j + 1) = μ (50 + 2 * j) := by rw [show 49 + 2 * j + 1 = 50 + 2 * j by omega]
    have hb9 : askBad F (μ (49 + 2 * j + 1)) len = false := by rw [hv9]; exact hb
    have hE : oSure (vX σ W F P t) R (fun j => μ (50 + 2 * j)) (nI j) = if mAny (fitK (vX σ W F P t) (μ (49 + 2 * j + 1)) len) (2 ^ F) then mAll F &&& (mSome (fitK (vX σ W F P t) (μ (49 + 2 * j + 1)) len) (2 ^ F) ^^^ (-1)) else -1 := by simp only [oSure, c1, if_true, hix, hRe]; rw [hv9]
    generalize hok : fitK (vX σ W F P t) (μ (49 + 2 * j + 1)) len = ok at hE
    have hok2 : ∀ i, mFit (vX σ W F P t) (μ (49 + 2 * j + 1)) len 0 (mPoss (σ 23) W (nI i) t F) = ok i := fun i => congrFun hok i
    refine b_iconst (v := nI 0) dX11_sure_12 (by decide) ?_
    refine b_istore_n dX11_sure_13 (by decide) rfl ?_
    refine b_iconst (v := nI 0) dX11_sure_14 (by decide) ?_
    refine b_istore dX11_sure_15 (by decide) rfl ?_
    refine b_iconst (v := nI 0) dX11_sure_17 (by decide) ?_
    refine b_istore dX11_sure_18 (by decide) rfl ?_
    have lp : ∀ (n i : Nat) (x y : Int32), i + n = 2 ^ F → x = mSome ok i → y = bI (mAny ok i) → BB G RX11 cX11_sure 6 (some .int) (d + 3) (QM G (Ret (some (.int (oSure (vX σ W F P t) R (fun j => μ (50 + 2 * j)) (nI j)))) (sh G σ μ))) 20 [some (.ref (G.b0 + 0)), some (.int (nI j)), some (.int (oNoRow (vX σ W F P t) R (fun j => μ (50 + 2 * j)) (nI j))), some (.int x), some (.int y), some (.int (nI i))] [] (sh G σ μ) := by
      intro n
      induction n with
      | zero =>
        intro i x y hi hx hy
        refine b_iload dX11_sure_20 rfl ?_
        refine b_iconst (v := nI 1) dX11_sure_22 (by decide) ?_
        refine b_aload_n dX11_sure_23 rfl ?_
        refine g_get dX11_sure_24 fX11_23 a0 rfl ?_
        refine g_geti (x := nI F) dX11_sure_27 fX11_168 a20 rfl hF ?_
        refine b_ishl dX11_sure_30 ?_
        refine b_top (shl_pow (by omega)) ?_
        refine b_icmp_ge_t 63 dX11_sure_31 (by decide) (nI_le (by omega) (by omega)) ?_
        have e : i = 2 ^ F := by omega
        subst e
        refine b_iload dX11_sure_63 rfl ?_
        rw [hy]
        refine b_if_eq 82 dX11_sure_65 (by decide) (fun c3 => ?_) (fun c3 => ?_)
        · skip
          refine b_iconst (v := -1) dX11_sure_82 (by decide) ?_
          exact b_iret dX11_sure_83 ⟨by rw [hE, (bI_0 _).mp c3]; rfl, rfl⟩
        · skip
          refine b_aload_n dX11_sure_68 rfl ?_
          refine g_get dX11_sure_69 fX11_23 a0 rfl ?_
          refine g_callV [] dX11_sure_72 kX2_allFacts lX11_305 a20 rfl rfl (c_allFacts ln20 hF) rfl rfl (Nat.le_of_ble_eq_true rfl) ?_
          refine b_iload_n dX11_sure_75 rfl ?_
          refine b_iconst (v := -1) dX11_sure_76 (by decide) ?_
          refine b_ixor dX11_sure_77 ?_
          refine b_iand dX11_sure_78 ?_
          refine b_goto 83 dX11_sure_79 (by decide) ?_
          exact b_iret dX11_sure_83 ⟨by rw [hE, (bI_1 _).mp c3, hx]; rfl, rfl⟩
      | succ n ih =>
        intro i x y hi hx hy
        refine b_iload dX11_sure_20 rfl ?_
        refine b_iconst (v := nI 1) dX11_sure_22 (by decide) ?_
        refine b_aload_n dX11_sure_23 rfl ?_
        refine g_get dX11_sure_24 fX11_23 a0 rfl ?_
        refine g_geti (x := nI F) dX11_sure_27 fX11_168 a20 rfl hF ?_
        refine b_ishl dX11_sure_30 ?_
        refine b_top (shl_pow (by omega)) ?_
        refine b_icmp_ge_f 63 dX11_sure_31 (by decide) (nI_ge (by omega) (by omega)) ?_
        refine b_aload_n dX11_sure_34 rfl ?_
        refine b_iload dX11_sure_35 rfl ?_
        refine b_aload_n dX11_sure_37 rfl ?_
        refine g_get dX11_sure_38 fX11_67 a0 rfl ?_
        refine b_iload_n dX11_sure_41 rfl ?_
        refine g_rowld (j := j) dX11_sure_42 (by omega) ?_
        refine g_callV [.int (nI i), .ref (G.b0 + ((49 + 2 * j)))] dX11_sure_43 kX11_isFitting lX11_301 a0 rfl rfl (c_isFitting (rwj hj) hX hl (by omega) hb9) rfl rfl (Nat.le_of_ble_eq_true rfl) ?_
        rw [hok2]
        refine b_if_eq 57 dX11_sure_46 (by decide) (fun c3 => ?_) (fun c3 => ?_)
        · skip
          refine b_iinc dX11_sure_57 rfl (nI_1 _) (by decide) rfl ?_
          refine b_goto 20 dX11_sure_60 (by decide) ?_
          have c4 := (bI_0 _).mp c3
          exact ih (i + 1) _ _ (by omega) (by rw [mSome, c4, hx]; rfl) (by rw [mAny, c4, Bool.or_false, hy])
        · skip
          refine b_iload_n dX11_sure_49 rfl ?_
          refine b_iload dX11_sure_50 rfl ?_
          refine b_ior dX11_sure_52 ?_
          refine b_istore_n dX11_sure_53 (by decide) rfl ?_
          refine b_iconst (v := nI 1) dX11_sure_54 (by decide) ?_
          refine b_istore dX11_sure_55 (by decide) rfl ?_
          refine b_iinc dX11_sure_57 rfl (nI_1 _) (by decide) rfl ?_
          refine b_goto 20 dX11_sure_60 (by decide) ?_
          have c4 := (bI_1 _).mp c3
          exact ih (i + 1) _ _ (by omega) (by rw [mSome, c4, hx]; rfl) (by rw [mAny, c4, Bool.or_true]; rfl)
    exact lp (2 ^ F) 0 _ _ (by omega) rfl rfl
  · skip
    refine b_iload_n dX11_sure_10 rfl ?_
    exact b_iret dX11_sure_11 ⟨by simp only [oSure, c1, if_false], rfl⟩
/-! the tape -/
def byt (x : Int32) (k : Nat) : Int32 := (x >>> (nI (24 - 8 * k) &&& 31)).toInt8.toInt32
def putS (σ : ST) (T : Nat) (x : Int32) : ST := fun c q => if c = 1 ∧ T ≤ q ∧ q < T + 4 then byt x (q - T) else if c = 0 ∧ q = 11 then nI (T + 4) else σ c q
theorem c_putOnTape {G : GT} {d : Nat} {σ : ST} {μ : SL} {T : Nat} {x : Int32} (hT : σ 0 11 = nI T) (hT9 : T + 4 ≤ 900) : Fn G d mX11_putOnTape [.ref (G.b0 + 0), .int x] (sh G σ μ) (Ret none (sh G (putS σ T x) μ)) := by
  refine fn_of (ls := [some (.ref (G.b0 + 0)), some (.int x), none]) (by decide +kernel) (Nat.le_of_ble_eq_true rfl) 1 rfl ?_
  refine b_bipush (v := nI 24) dX11_putOnTape_0 (by decide) ?_
  refine b_istore_n dX11_putOnTape_2 (by decide) rfl ?_
  refine b_iload_n dX11_putOnTape_3 rfl ?_
  refine b_if_lt_f 46 dX11_putOnTape_4 (by decide) (by decide) ?_
  refine b_aload_n dX11_putOnTape_7 rfl ?_
  refine g_geti (x := nI T) dX11_putOnTape_8 fX11_79 a0 rfl hT ?_
  refine b_sipush (v := nI 900) dX11_putOnTape_11 (by decide) ?_
  refine b_icmp_ge_f 46 dX11_putOnTape_14 (by decide) (nI_ge (by omega) (by omega)) ?_
  refine b_aload_n dX11_putOnTape_17 rfl ?_
  refine g_get dX11_putOnTape_18 fX11_9 a0 rfl ?_
  refine b_aload_n dX11_putOnTape_21 rfl ?_
  refine g_geti (x := nI T) dX11_putOnTape_22 fX11_79 a0 rfl hT ?_
  refine b_iload_n dX11_putOnTape_25 rfl ?_
  refine b_iload_n dX11_putOnTape_26 rfl ?_
  refine b_ishr dX11_putOnTape_27 ?_
  refine b_i2b dX11_putOnTape_28 ?_
  refine g_bast dX11_putOnTape_29 a1 rfl (by omega) ?_
  refine b_aload_n dX11_putOnTape_30 rfl ?_
  refine b_dup dX11_putOnTape_31 rfl ?_
  refine g_geti (x := nI T) dX11_putOnTape_32 fX11_79 a0 rfl hT ?_
  refine b_iconst (v := nI 1) dX11_putOnTape_35 (by decide) ?_
  refine b_iaddN dX11_putOnTape_36 ?_
  refine g_put dX11_putOnTape_37 wX11_79 a0 tfX11_11 (Nat.le_of_ble_eq_true rfl) rfl ?_
  refine b_iinc (v := nI 16) dX11_putOnTape_40 rfl (by decide) (by decide) rfl ?_
  refine b_goto 3 dX11_putOnTape_43 (by decide) ?_
  refine b_iload_n dX11_putOnTape_3 rfl ?_
  refine b_if_lt_f 46 dX11_putOnTape_4 (by decide) (by decide) ?_
  refine b_aload_n dX11_putOnTape_7 rfl ?_
  refine g_geti (x := nI (T + 1)) dX11_putOnTape_8 fX11_79 a0 rfl (by simp [pt_at]) ?_
  refine b_sipush (v := nI 900) dX11_putOnTape_11 (by decide) ?_
  refine b_icmp_ge_f 46 dX11_putOnTape_14 (by decide) (nI_ge (by omega) (by omega)) ?_
  refine b_aload_n dX11_putOnTape_17 rfl ?_
  refine g_get dX11_putOnTape_18 fX11_9 a0 rfl ?_
  refine b_aload_n dX11_putOnTape_21 rfl ?_
  refine g_geti (x := nI (T + 1)) dX11_putOnTape_22 fX11_79 a0 rfl (by simp [pt_at]) ?_
  refine b_iload_n dX11_putOnTape_25 rfl ?_
  refine b_iload_n dX11_putOnTape_26 rfl ?_
  refine b_ishr dX11_putOnTape_27 ?_
  refine b_i2b dX11_putOnTape_28 ?_
  refine g_bast dX11_putOnTape_29 a1 rfl (by omega) ?_
  refine b_aload_n dX11_putOnTape_30 rfl ?_
  refine b_dup dX11_putOnTape_31 rfl ?_
  refine g_geti (x := nI (T + 1)) dX11_putOnTape_32 fX11_79 a0 rfl (by simp [pt_at]) ?_
  refine b_iconst (v := nI 1) dX11_putOnTape_35 (by decide) ?_
  refine b_iaddN dX11_putOnTape_36 ?_
  refine g_put dX11_putOnTape_37 wX11_79 a0 tfX11_11 (Nat.le_of_ble_eq_true rfl) rfl ?_
  refine b_iinc (v := nI 8) dX11_putOnTape_40 rfl (by decide) (by decide) rfl ?_
  refine b_goto 3 dX11_putOnTape_43 (by decide) ?_
  refine b_iload_n dX11_putOnTape_3 rfl ?_
  refine b_if_lt_f 46 dX11_putOnTape_4 (by decide) (by decide) ?_
  refine b_aload_n dX11_putOnTape_7 rfl ?_
  refine g_geti (x := nI (T + 1 + 1)) dX11_putOnTape_8 fX11_79 a0 rfl (by simp [pt_at]) ?_
  refine b_sipush (v := nI 900) dX11_putOnTape_11 (by decide) ?_
  refine b_icmp_ge_f 46 dX11_putOnTape_14 (by decide) (nI_ge (by omega) (by omega)) ?_
  refine b_aload_n dX11_putOnTape_17 rfl ?_
  refine g_get dX11_putOnTape_18 fX11_9 a0 rfl ?_
  refine b_aload_n dX11_putOnTape_21 rfl ?_
  refine g_geti (x := nI (T + 1 + 1)) dX11_putOnTape_22 fX11_79 a0 rfl (by simp [pt_at]) ?_
  refine b_iload_n dX11_putOnTape_25 rfl ?_
  refine b_iload_n dX11_putOnTape_26 rfl ?_
  refine b_ishr dX11_putOnTape_27 ?_
  refine b_i2b dX11_putOnTape_28 ?_
  refine g_bast dX11_putOnTape_29 a1 rfl (by omega) ?_
  refine b_aload_n dX11_putOnTape_30 rfl ?_
  refine b_dup dX11_putOnTape_31 rfl ?_
  refine g_geti (x := nI (T + 1 + 1)) dX11_putOnTape_32 fX11_79 a0 rfl (by simp [pt_at]) ?_
  refine b_iconst (v := nI 1) dX11_putOnTape_35 (by decide) ?_
  refine b_iaddN dX11_putOnTape_36 ?_
  refine g_put dX11_putOnTape_37 wX11_79 a0 tfX11_11 (Nat.le_of_ble_eq_true rfl) rfl ?_
  refine b_iinc (v := nI 0) dX11_putOnTape_40 rfl (by decide) (by decide) rfl ?_
  refine b_goto 3 dX11_putOnTape_43 (by decide) ?_
  refine b_iload_n dX11_putOnTape_3 rfl ?_
  refine b_if_lt_f 46 dX11_putOnTape_4 (by decide) (by decide) ?_
  refine b_aload_n dX11_putOnTape_7 rfl ?_
  refine g_geti (x := nI (T + 1 + 1 + 1)) dX11_putOnTape_8 fX11_79 a0 rfl (by simp [pt_at]) ?_
  refine b_sipush (v := nI 900) dX11_putOnTape_11 (by decide) ?_
  refine b_icmp_ge_f 46 dX11_putOnTape_14 (by decide) (nI_ge (by omega) (by omega)) ?_
  refine b_aload_n dX11_putOnTape_17 rfl ?_
  refine g_get dX11_putOnTape_18 fX11_9 a0 rfl ?_
  refine b_aload_n dX11_putOnTape_21 rfl ?_
  refine g_geti (x := nI (T + 1 + 1 + 1)) dX11_putOnTape_22 fX11_79 a0 rfl (by simp [pt_at]) ?_
  refine b_iload_n dX11_putOnTape_25 rfl ?_
  refine b_iload_n dX11_putOnTape_26 rfl ?_
  refine b_ishr dX11_putOnTape_27 ?_
  refine b_i2b dX11_putOnTape_28 ?_
  refine g_bast dX11_putOnTape_29 a1 rfl (by omega) ?_
  refine b_aload_n dX11_putOnTape_30 rfl ?_
  refine b_dup dX11_putOnTape_31 rfl ?_
  refine g_geti (x := nI (T + 1 + 1 + 1)) dX11_putOnTape_32 fX11_79 a0 rfl (by simp [pt_at]) ?_
  refine b_iconst (v := nI 1) dX11_putOnTape_35 (by decide) ?_
  refine b_iaddN dX11_putOnTape_36 ?_
  refine g_put dX11_putOnTape_37 wX11_79 a0 tfX11_11 (Nat.le_of_ble_eq_true rfl) rfl ?_
  refine b_iinc (v := -8) dX11_putOnTape_40 rfl (by decide) (by decide) rfl ?_
  refine b_goto 3 dX11_putOnTape_43 (by decide) ?_
  refine b_iload_n dX11_putOnTape_3 rfl ?_
  refine b_if_lt_t 46 dX11_putOnTape_4 (by decide) (by decide) ?_
  refine b_vret dX11_putOnTape_46 ⟨rfl, congrArg (fun z => sh G z μ) ?_⟩
  funext c q
  simp only [pt_at, putS, pk_vb]
  by_cases hc : c = 1
  · subst hc
    rcases (show q = T ∨ q = T + 1 ∨ q = T + 1 + 1 ∨ q = T + 1 + 1 + 1 ∨ (q < T ∨ T + 4 ≤ q) by omega) with h | h | h | h | h
    · have h1 : ¬ q = T + 1 := by omega
      have h2 : ¬ q = T + 1 + 1 := by omega
      have h3 : ¬ q = T + 1 + 1 + 1 := by omega
      have h5 : T ≤ q ∧ q < T + 4 := by omega
      have h6 : 24 - 8 * (q - T) = 24 := by omega
      have h7 : (q = T) = True := eq_true h
      simp only [byt, h1, h2, h3, h5, h6, h7]
      simp
    · have h1 : ¬ q = T := by omega
      have h2 : ¬ q = T + 1 + 1 := by omega
      have h3 : ¬ q = T + 1 + 1 + 1 := by omega
      have h5 : T ≤ q ∧ q < T + 4 := by omega
      have h6 : 24 - 8 * (q - T) = 16 := by omega
      have h7 : (q = T + 1) = True := eq_true h
      simp only [byt, h1, h2, h3, h5, h6, h7]
      simp
    · have h1 : ¬ q = T := by omega
      have h2 : ¬ q = T + 1 := by omega
      have h3 : ¬ q = T + 1 + 1 + 1 := by omega
      have h5 : T ≤ q ∧ q < T + 4 := by omega
      have h6 : 24 - 8 * (q - T) = 8 := by omega
      have h7 : (q = T + 1 + 1) = True := eq_true h
      simp only [byt, h1, h2, h3, h5, h6, h7]
      simp
    · have h5 : T ≤ q ∧ q < T + 4 := by omega
      have h6 : 24 - 8 * (q - T) = 0 := by omega
      have h7 : (q = T + 1 + 1 + 1) = True := eq_true h
      simp only [byt, h5, h6, h7]
      simp
    · have h1 : ¬ q = T := by omega
      have h2 : ¬ q = T + 1 := by omega
      have h3 : ¬ q = T + 1 + 1 := by omega
      have h4 : ¬ q = T + 1 + 1 + 1 := by omega
      have h5 : ¬ (T ≤ q ∧ q < T + 4) := by omega
      simp [h1, h2, h3, h4, h5]
  · by_cases h0 : c = 0 ∧ q = 11
    · simp [h0]
    · simp [hc, h0]
def feedS (σ : ST) (T : Nat) (a b c d e : Int32) : ST := putS (putS (putS (putS (putS σ T a) (T + 4) b) (T + 4 + 4) c) (T + 4 + 4 + 4) d) (T + 4 + 4 + 4 + 4) e
theorem putS_T (σ : ST) (T : Nat) (x : Int32) : putS σ T x 0 11 = nI (T + 4) := by simp [putS]
theorem c_X_feed {G : GT} {d : Nat} {σ : ST} {μ : SL} {T : Nat} {a b c d1 e : Int32} (hT : σ 0 11 = nI T) (hT9 : T ≤ 900) : Fn G (d + 1) mX11_feed [.ref (G.b0 + 0), .int a, .int b, .int c, .int d1, .int e] (sh G σ μ) (Ret (some (.int (if T + 20 ≤ 900 then nI (T + 20) else -5))) (sh G (if T + 20 ≤ 900 then feedS σ T a b c d1 e else σ) μ)) := by
  refine fn_of (ls := [some (.ref (G.b0 + 0)), some (.int a), some (.int b), some (.int c), some (.int d1), some (.int e)]) (by decide +kernel) (Nat.le_of_ble_eq_true rfl) 0 rfl ?_
  refine b_aload_n dX11_feed_0 rfl ?_
  refine g_geti (x := nI T) dX11_feed_1 fX11_79 a0 rfl hT ?_
  refine b_bipush (v := nI 20) dX11_feed_4 (by decide) ?_
  refine b_iaddN dX11_feed_6 ?_
  refine b_sipush (v := nI 900) dX11_feed_7 (by decide) ?_
  refine b_icmp_le 16 dX11_feed_10 (by decide) (fun c1 => ?_) (fun c1 => ?_)
  · skip
    rw [nI_leI (by omega) (by omega)] at c1
    refine b_aload_n dX11_feed_16 rfl ?_
    refine b_iload_n dX11_feed_17 rfl ?_
    refine g_callV [.int a] dX11_feed_18 kX11_putOnTape lX11_83 a0 rfl rfl (c_putOnTape hT (by omega)) rfl rfl (Nat.le_of_ble_eq_true rfl) ?_
    refine b_aload_n dX11_feed_21 rfl ?_
    refine b_iload_n dX11_feed_22 rfl ?_
    refine g_callV [.int b] dX11_feed_23 kX11_putOnTape lX11_83 a0 rfl rfl (c_putOnTape (putS_T _ _ _) (by omega)) rfl rfl (Nat.le_of_ble_eq_true rfl) ?_
    refine b_aload_n dX11_feed_26 rfl ?_
    refine b_iload_n dX11_feed_27 rfl ?_
    refine g_callV [.int c] dX11_feed_28 kX11_putOnTape lX11_83 a0 rfl rfl (c_putOnTape (putS_T _ _ _) (by omega)) rfl rfl (Nat.le_of_ble_eq_true rfl) ?_
    refine b_aload_n dX11_feed_31 rfl ?_
    refine b_iload dX11_feed_32 rfl ?_
    refine g_callV [.int d1] dX11_feed_34 kX11_putOnTape lX11_83 a0 rfl rfl (c_putOnTape (putS_T _ _ _) (by omega)) rfl rfl (Nat.le_of_ble_eq_true rfl) ?_
    refine b_aload_n dX11_feed_37 rfl ?_
    refine b_iload dX11_feed_38 rfl ?_
    refine g_callV [.int e] dX11_feed_40 kX11_putOnTape lX11_83 a0 rfl rfl (c_putOnTape (putS_T _ _ _) (by omega)) rfl rfl (Nat.le_of_ble_eq_true rfl) ?_
    refine b_aload_n dX11_feed_43 rfl ?_
    refine g_get dX11_feed_44 fX11_79 a0 rfl ?_
    exact b_iret dX11_feed_47 ⟨by rw [if_pos c1]; exact congrArg (fun z => some (Value.int z)) (putS_T _ _ _), by rw [if_pos c1]; rfl⟩
  · skip
    rw [nI_leI (by omega) (by omega)] at c1
    refine b_bipush (v := -5) dX11_feed_13 (by decide) ?_
    exact b_iret dX11_feed_15 ⟨by rw [if_neg c1], by rw [if_neg c1]⟩
/-! count -/
def oCount (L : LD) (lines : Int32) (sz T : Nat) (x : Int32) : Int32 :=
  if inR x 10 then (if ix x = 0 then nI L.W else if ix x = 1 then nI L.F else if ix x = 2 then nI L.P else if ix x = 3 then (if L.W = 0 then -1 else nI L.t)
    else if ix x = 4 then nI sz else if ix x = 5 then nI (mRoads L.road L.P / 2) else if ix x = 6 then nI (cnt L.gl 16) else if ix x = 7 then mWt L.wt (mAll L.W) L.W else if ix x = 8 then nI T else lines) else -1
theorem c_X_count {G : GT} {d : Nat} {σ : ST} {μ : SL} {W F P t sz T : Nat} {x : Int32} (hX : XV σ W F P t) (hZ : XP σ sz) (hT : σ 0 11 = nI T) (hr : ∀ p, p < P → lo 16 (σ 25 p)) (hg : lo 16 (σ 20 5)) : Fn G (d + 2) mX11_count [.ref (G.b0 + 0), .int x] (sh G σ μ) (Ret (some (.int (oCount (vX σ W F P t) (σ 20 9) sz T x))) (sh G σ μ)) := by
  obtain ⟨⟨hW, hF, hP, hW16, hF8, hP6⟩, -⟩ := id hX
  refine fn_of (ls := [some (.ref (G.b0 + 0)), some (.int x)]) (by decide +kernel) (Nat.le_of_ble_eq_true rfl) 0 rfl ?_
  refine b_iload_n dX11_count_0 rfl ?_
  by_cases c3 : inR x 10 = true
  · obtain ⟨k, hk, rfl⟩ := inR_of (by omega) c3
    have hkx := ix_nI (show k < 2 ^ 31 by omega)
    have hmi : (nI k).toInt = (k : Int) := nI_toInt (by omega)
    rcases (show k = 0 ∨ k = 1 ∨ k = 2 ∨ k = 3 ∨ k = 4 ∨ k = 5 ∨ k = 6 ∨ k = 7 ∨ k = 8 ∨ k = 9 by omega) with rfl | rfl | rfl | rfl | rfl | rfl | rfl | rfl | rfl | rfl
    · refine b_tableIn 56 dX11_count_1 (by rw [hmi]; decide) (by rw [hmi]; decide) (by rw [hmi]; rfl) (by decide) ?_
      refine b_aload_n dX11_count_56 rfl ?_
      refine g_get dX11_count_57 fX11_23 a0 rfl ?_
      refine g_geti (x := nI W) dX11_count_60 fX11_165 a20 rfl hW ?_
      exact b_iret dX11_count_63 ⟨by simp [oCount, c3, hkx], rfl⟩
    · refine b_tableIn 64 dX11_count_1 (by rw [hmi]; decide) (by rw [hmi]; decide) (by rw [hmi]; rfl) (by decide) ?_
      refine b_aload_n dX11_count_64 rfl ?_
      refine g_get dX11_count_65 fX11_23 a0 rfl ?_
      refine g_geti (x := nI F) dX11_count_68 fX11_168 a20 rfl hF ?_
      exact b_iret dX11_count_71 ⟨by simp [oCount, c3, hkx], rfl⟩
    · refine b_tableIn 72 dX11_count_1 (by rw [hmi]; decide) (by rw [hmi]; decide) (by rw [hmi]; rfl) (by decide) ?_
      refine b_aload_n dX11_count_72 rfl ?_
      refine g_get dX11_count_73 fX11_23 a0 rfl ?_
      refine g_geti (x := nI P) dX11_count_76 fX11_171 a20 rfl hP ?_
      exact b_iret dX11_count_79 ⟨by simp [oCount, c3, hkx], rfl⟩
    · refine b_tableIn 80 dX11_count_1 (by rw [hmi]; decide) (by rw [hmi]; decide) (by rw [hmi]; rfl) (by decide) ?_
      refine b_aload_n dX11_count_80 rfl ?_
      refine g_get dX11_count_81 fX11_23 a0 rfl ?_
      refine g_geti (x := nI W) dX11_count_84 fX11_165 a20 rfl hW ?_
      refine b_if_ne 94 dX11_count_87 (by decide) (fun c4 => ?_) (fun c4 => ?_)
      · skip
        have h0 : ¬ W = 0 := fun z => c4 (by rw [z]; rfl)
        refine b_aload_n dX11_count_94 rfl ?_
        refine g_get dX11_count_95 fX11_30 a0 rfl ?_
        refine g_geti (x := nI t) dX11_count_98 fX11_174 a26 rfl hX.2.1 ?_
        exact b_iret dX11_count_101 ⟨by simp [oCount, c3, hkx, h0], rfl⟩
      · skip
        have h0 : W = 0 := by rw [← nI_0, nI_eq (by omega) (by omega)] at c4; exact c4
        refine b_iconst (v := -1) dX11_count_90 (by decide) ?_
        refine b_goto 101 dX11_count_91 (by decide) ?_
        exact b_iret dX11_count_101 ⟨by simp [oCount, c3, hkx, h0], rfl⟩
    · refine b_tableIn 102 dX11_count_1 (by rw [hmi]; decide) (by rw [hmi]; decide) (by rw [hmi]; rfl) (by decide) ?_
      refine b_aload_n dX11_count_102 rfl ?_
      refine g_get dX11_count_103 fX11_40 a0 rfl ?_
      refine g_geti (x := nI sz) dX11_count_106 fX11_193 a32 rfl hZ.1 ?_
      exact b_iret dX11_count_109 ⟨by simp [oCount, c3, hkx], rfl⟩
    · refine b_tableIn 110 dX11_count_1 (by rw [hmi]; decide) (by rw [hmi]; decide) (by rw [hmi]; rfl) (by decide) ?_
      refine b_aload_n dX11_count_110 rfl ?_
      refine g_get dX11_count_111 fX11_23 a0 rfl ?_
      refine g_callV [] dX11_count_114 kX2_countRoads lX11_343 a20 rfl rfl (c_countRoads ln20 hX.1 hr) rfl rfl (Nat.le_of_ble_eq_true rfl) ?_
      exact b_iret dX11_count_117 ⟨by simp [oCount, c3, hkx], rfl⟩
    · refine b_tableIn 118 dX11_count_1 (by rw [hmi]; decide) (by rw [hmi]; decide) (by rw [hmi]; rfl) (by decide) ?_
      refine b_aload_n dX11_count_118 rfl ?_
      refine g_get dX11_count_119 fX11_23 a0 rfl ?_
      refine g_get dX11_count_122 fX11_123 a20 rfl ?_
      refine b_callSr [.int (σ 20 5)] dX11_count_125 kJ6_bitCount_0f7a4 lX11_180 (c_bitCount hg) rfl rfl (Nat.le_of_ble_eq_true rfl) ?_
      exact b_iret dX11_count_128 ⟨by simp [oCount, c3, hkx], rfl⟩
    · refine b_tableIn 129 dX11_count_1 (by rw [hmi]; decide) (by rw [hmi]; decide) (by rw [hmi]; rfl) (by decide) ?_
      refine b_aload_n dX11_count_129 rfl ?_
      refine g_get dX11_count_130 fX11_23 a0 rfl ?_
      refine b_aload_n dX11_count_133 rfl ?_
      refine g_get dX11_count_134 fX11_23 a0 rfl ?_
      refine g_callV [] dX11_count_137 kX2_allWorlds lX11_346 a20 rfl rfl (c_allWorlds ln20 hW) rfl rfl (Nat.le_of_ble_eq_true rfl) ?_
      refine g_callV [.int (mAll W)] dX11_count_140 kX2_weightOf lX11_349 a20 rfl rfl (c_weightOf ln20 hX.1) rfl rfl (Nat.le_of_ble_eq_true rfl) ?_
      exact b_iret dX11_count_143 ⟨by simp [oCount, c3, hkx], rfl⟩
    · refine b_tableIn 144 dX11_count_1 (by rw [hmi]; decide) (by rw [hmi]; decide) (by rw [hmi]; rfl) (by decide) ?_
      refine b_aload_n dX11_count_144 rfl ?_
      refine g_geti (x := nI T) dX11_count_145 fX11_79 a0 rfl hT ?_
      exact b_iret dX11_count_148 ⟨by simp [oCount, c3, hkx], rfl⟩
    · refine b_tableIn 149 dX11_count_1 (by rw [hmi]; decide) (by rw [hmi]; decide) (by rw [hmi]; rfl) (by decide) ?_
      refine b_aload_n dX11_count_149 rfl ?_
      refine g_get dX11_count_150 fX11_23 a0 rfl ?_
      refine g_get dX11_count_153 fX11_106 a20 rfl ?_
      exact b_iret dX11_count_156 ⟨by simp [oCount, c3, hkx], rfl⟩
  · have c4 : inR x 10 = false := by simpa using c3
    have h5 := inR_out (by omega) c4
    refine b_tableOut 157 dX11_count_1 (by omega) (by decide) ?_
    refine b_iconst (v := -1) dX11_count_157 (by decide) ?_
    exact b_iret dX11_count_158 ⟨by simp [oCount, c4], rfl⟩

