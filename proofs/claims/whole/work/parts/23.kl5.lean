/-! ===== KnowsLeast: deeds ===== -/
theorem rwj {G : GT} {j : Nat} (h : j < 4) : Rwo G (49 + 2 * j) := by
  rcases (show j = 0 ∨ j = 1 ∨ j = 2 ∨ j = 3 by omega) with rfl | rfl | rfl | rfl
  · exact rw49
  · exact rw51
  · exact rw53
  · exact rw55
section Rows
variable {G : GT} {own : String} {cc : ByteArray} {nL : Nat} {ret : Option FieldType} {d : Nat} {Q : QT} {pc : Nat} {ls : LT} {st : List Value} {σ : ST} {μ : SL}
theorem g_rowld {j : Nat} (hd : decode cc pc = .ok (.aaload, 1)) (hj : j < 4) (k : BB G own cc nL ret d Q (pc + 1) ls (.ref (G.b0 + (49 + 2 * j)) :: st) (sh G σ μ)) : BB G own cc nL ret d Q pc ls (.int (nI j) :: .ref (G.b0 + 47) :: st) (sh G σ μ) := by
  refine g_aald (b := 49 + 2 * j) (t0 := 4) hd (by decide) a47 rfl rfl hj (by decide) ?_ k
  rcases (show j = 0 ∨ j = 1 ∨ j = 2 ∨ j = 3 by omega) with rfl | rfl | rfl | rfl <;> rfl
end Rows
def XP (σ : ST) (sz : Nat) : Prop := σ 32 1 = nI sz ∧ sz ≤ 12
theorem keepS_fr {sz : Nat} {σ : ST} {c q : Nat} (h1 : c ≠ 32) (h2 : c ≠ 33) : keepS sz σ c q = σ c q := by simp [keepS, h1, h2]
theorem keepS_r {sz : Nat} {σ : ST} {c : Nat} (h1 : c ≠ 32) (h2 : c ≠ 33) : keepS sz σ c = σ c := by funext q; exact keepS_fr h1 h2
theorem XV_of {σ σ' : ST} {W F P t : Nat} (h : XV σ W F P t) (e : ∀ q, σ' 20 q = σ 20 q) (e2 : σ' 26 2 = σ 26 2) : XV σ' W F P t := ⟨LV_of h.1 e, e2.trans h.2.1, h.2.2⟩
theorem XV_keep {σ : ST} {W F P t sz : Nat} (h : XV σ W F P t) : XV (keepS sz σ) W F P t := XV_of h (fun q => keepS_fr (by omega) (by omega)) (keepS_fr (by omega) (by omega))
theorem c_X_tell {G : GT} {d : Nat} {σ : ST} {μ : SL} {W F P t sz : Nat} {p f : Int32} (hX : XV σ W F P t) (hZ : XP σ sz) : Fn G (d + 3) mX11_tell [.ref (G.b0 + 0), .int p, .int f] (sh G σ μ) (Ret (some (.int (if inR p P && inR f F then nI (cnt (mPoss (σ 23) W (σ 27 (ix p) ||| (nI 1 <<< (nI (ix f) &&& 31))) t F) 16) else -2))) (sh G (if inR p P && inR f F then pt (keepS sz σ) 27 (ix p) (σ 27 (ix p) ||| (nI 1 <<< (nI (ix f) &&& 31))) else σ) μ)) := by
  obtain ⟨⟨hW, hF, hP, hW16, hF8, hP6⟩, -⟩ := id hX
  refine fn_of (ls := [some (.ref (G.b0 + 0)), some (.int p), some (.int f)]) (by decide +kernel) (Nat.le_of_ble_eq_true rfl) 0 rfl ?_
  refine b_aload_n dX11_tell_0 rfl ?_
  refine b_iload_n dX11_tell_1 rfl ?_
  refine g_callV [.int p] dX11_tell_2 kX11_isPerson lX11_136 a0 rfl rfl (c_isPerson hP) rfl rfl (Nat.le_of_ble_eq_true rfl) ?_
  refine b_if_eq 16 dX11_tell_5 (by decide) (fun c1 => ?_) (fun c1 => ?_)
  · skip
    refine b_bipush (v := -2) dX11_tell_16 (by decide) ?_
    exact b_iret dX11_tell_18 ⟨by simp [(bI_0 _).mp c1], by simp [(bI_0 _).mp c1]⟩
  · skip
    have c2 := (bI_1 _).mp c1
    obtain ⟨j, hj, rfl⟩ := inR_of (by omega) c2
    have hix := ix_nI (show j < 2 ^ 31 by omega)
    refine b_aload_n dX11_tell_8 rfl ?_
    refine b_iload_n dX11_tell_9 rfl ?_
    refine g_callV [.int f] dX11_tell_10 kX11_isFact lX11_130 a0 rfl rfl (c_isFact hF) rfl rfl (Nat.le_of_ble_eq_true rfl) ?_
    refine b_if_ne 19 dX11_tell_13 (by decide) (fun c3 => ?_) (fun c3 => ?_)
    · skip
      have c4 := (bI_1 _).mp c3
      obtain ⟨k, hk, rfl⟩ := inR_of (by omega) c4
      have hkx := ix_nI (show k < 2 ^ 31 by omega)
      refine b_aload_n dX11_tell_19 rfl ?_
      refine g_get dX11_tell_20 fX11_40 a0 rfl ?_
      refine b_aload_n dX11_tell_23 rfl ?_
      refine g_get dX11_tell_24 fX11_30 a0 rfl ?_
      refine g_callV [.ref (G.b0 + 26)] dX11_tell_27 kX4_keep lX11_177 a32 rfl rfl (c_keep hZ.1 hZ.2) rfl rfl (Nat.le_of_ble_eq_true rfl) ?_
      refine b_aload_n dX11_tell_30 rfl ?_
      refine g_get dX11_tell_31 fX11_30 a0 rfl ?_
      refine g_get dX11_tell_34 fX11_142 a26 rfl ?_
      refine b_iload_n dX11_tell_37 rfl ?_
      refine b_dup2 dX11_tell_38 rfl rfl ?_
      refine g_iald dX11_tell_39 a27 rfl (by omega) ?_
      refine b_iconst (v := nI 1) dX11_tell_40 (by decide) ?_
      refine b_iload_n dX11_tell_41 rfl ?_
      refine b_ishl dX11_tell_42 ?_
      refine b_ior dX11_tell_43 ?_
      refine g_iast dX11_tell_44 a27 rfl (by omega) ?_
      refine b_aload_n dX11_tell_45 rfl ?_
      refine b_iload_n dX11_tell_46 rfl ?_
      refine b_sig (σ' := pt (keepS sz σ) 27 j (σ 27 j ||| (nI 1 <<< (nI k &&& 31)))) (by rw [keepS_fr (c := 27) (by omega) (by omega)]) ?_
      have hX' : XV (pt (keepS sz σ) 27 j (σ 27 j ||| (nI 1 <<< (nI k &&& 31)))) W F P t := XV_of (XV_keep (sz := sz) hX) (fun q => pt_a (by omega)) (pt_a (by omega))
      refine g_callV [.int (nI j)] dX11_tell_47 kX11_possibleTo lX11_139 a0 rfl rfl (c_possibleTo hX' (by omega)) rfl rfl (Nat.le_of_ble_eq_true rfl) ?_
      refine b_callSr [.int _] dX11_tell_50 kJ6_bitCount_0f7a4 lX11_180 (c_bitCount (lo_mono (lo_poss (W := W) (by omega) _) hW16)) rfl rfl (Nat.le_of_ble_eq_true rfl) ?_
      have e1 : pt (keepS sz σ) 27 j (σ 27 j ||| (nI 1 <<< (nI k &&& 31))) 27 j = σ 27 j ||| (nI 1 <<< (nI k &&& 31)) := pt_s _ _ _ _
      have e2 : pt (keepS sz σ) 27 j (σ 27 j ||| (nI 1 <<< (nI k &&& 31))) 23 = σ 23 := (pt_r (by omega)).trans (keepS_r (by omega) (by omega))
      have e5 : poss (vX (pt (keepS sz σ) 27 j (σ 27 j ||| (nI 1 <<< (nI k &&& 31)))) W F P t) j t = mPoss (σ 23) W (σ 27 j ||| (nI 1 <<< (nI k &&& 31))) t F := by
        show mPoss (pt (keepS sz σ) 27 j (σ 27 j ||| (nI 1 <<< (nI k &&& 31))) 23) W (pt (keepS sz σ) 27 j (σ 27 j ||| (nI 1 <<< (nI k &&& 31))) 27 j) t F = _
        rw [e1, e2]
      exact b_iret dX11_tell_53 ⟨by simp only [c2, c4, hix, hkx, Bool.and_true, if_true]; exact congrArg (fun z => some (Value.int (nI (cnt z 16)))) e5, by simp only [c2, c4, hix, hkx, Bool.and_true, if_true]⟩
    · skip
      refine b_bipush (v := -2) dX11_tell_16 (by decide) ?_
      exact b_iret dX11_tell_18 ⟨by simp [(bI_0 _).mp c3], by simp [(bI_0 _).mp c3]⟩
theorem c_X_ask {G : GT} {d : Nat} {σ : ST} {μ : SL} {W F P t sz : Nat} {p f : Int32} (hX : XV σ W F P t) (hZ : XP σ sz) : Fn G (d + 3) mX11_ask [.ref (G.b0 + 0), .int p, .int f] (sh G σ μ) (Ret (some (.int (if inR p P && inR f F then bI (mKn (σ 23 (ix f)) (mPoss (σ 23) W (σ 27 (ix p)) t F)) else -2))) (sh G (if inR p P && inR f F then pt (keepS sz σ) 27 (ix p) (σ 27 (ix p) ||| σ 24 (ix f)) else σ) μ)) := by
  have ht := hX.t32
  obtain ⟨⟨hW, hF, hP, hW16, hF8, hP6⟩, -⟩ := id hX
  refine fn_of (ls := [some (.ref (G.b0 + 0)), some (.int p), some (.int f)]) (by decide +kernel) (Nat.le_of_ble_eq_true rfl) 0 rfl ?_
  refine b_aload_n dX11_ask_0 rfl ?_
  refine b_iload_n dX11_ask_1 rfl ?_
  refine g_callV [.int p] dX11_ask_2 kX11_isPerson lX11_136 a0 rfl rfl (c_isPerson hP) rfl rfl (Nat.le_of_ble_eq_true rfl) ?_
  refine b_if_eq 16 dX11_ask_5 (by decide) (fun c1 => ?_) (fun c1 => ?_)
  · skip
    refine b_bipush (v := -2) dX11_ask_16 (by decide) ?_
    exact b_iret dX11_ask_18 ⟨by simp [(bI_0 _).mp c1], by simp [(bI_0 _).mp c1]⟩
  · skip
    have c2 := (bI_1 _).mp c1
    obtain ⟨j, hj, rfl⟩ := inR_of (by omega) c2
    have hix := ix_nI (show j < 2 ^ 31 by omega)
    refine b_aload_n dX11_ask_8 rfl ?_
    refine b_iload_n dX11_ask_9 rfl ?_
    refine g_callV [.int f] dX11_ask_10 kX11_isFact lX11_130 a0 rfl rfl (c_isFact hF) rfl rfl (Nat.le_of_ble_eq_true rfl) ?_
    refine b_if_ne 19 dX11_ask_13 (by decide) (fun c3 => ?_) (fun c3 => ?_)
    · skip
      have c4 := (bI_1 _).mp c3
      obtain ⟨k, hk, rfl⟩ := inR_of (by omega) c4
      have hkx := ix_nI (show k < 2 ^ 31 by omega)
      refine b_aload_n dX11_ask_19 rfl ?_
      refine g_get dX11_ask_20 fX11_40 a0 rfl ?_
      refine b_aload_n dX11_ask_23 rfl ?_
      refine g_get dX11_ask_24 fX11_30 a0 rfl ?_
      refine g_callV [.ref (G.b0 + 26)] dX11_ask_27 kX4_keep lX11_177 a32 rfl rfl (c_keep hZ.1 hZ.2) rfl rfl (Nat.le_of_ble_eq_true rfl) ?_
      have hX' : XV (keepS sz σ) W F P t := XV_keep hX
      refine b_aload_n dX11_ask_30 rfl ?_
      refine g_get dX11_ask_31 fX11_30 a0 rfl ?_
      refine b_aload_n dX11_ask_34 rfl ?_
      refine g_get dX11_ask_35 fX11_23 a0 rfl ?_
      refine b_iload_n dX11_ask_38 rfl ?_
      refine b_iload_n dX11_ask_39 rfl ?_
      refine g_callV [.ref (G.b0 + 20), .int (nI j), .int (nI k)] dX11_ask_40 kX8_isAsked lX11_185 a26 rfl rfl (c_isAsked sa26 ln20 hX'.1 hX'.2.1 (by omega) (by omega) (by omega)) rfl rfl (Nat.le_of_ble_eq_true rfl) ?_
      have e3 : mAskK (keepS sz σ) 20 26 W F t j k = mKn (σ 23 k) (mPoss (σ 23) W (σ 27 j) t F) := by
        show mKn (keepS sz σ 23 k) (mPoss (keepS sz σ 23) W (keepS sz σ 27 j) t F) = _
        rw [keepS_r (c := 23) (by omega) (by omega), keepS_r (c := 27) (by omega) (by omega)]
      have e4 : askS (keepS sz σ) 20 26 j k = pt (keepS sz σ) 27 j (σ 27 j ||| σ 24 k) := by
        show pt (keepS sz σ) 27 j (keepS sz σ 27 j ||| keepS sz σ 24 k) = _
        rw [keepS_r (c := 27) (by omega) (by omega), keepS_r (c := 24) (by omega) (by omega)]
      rw [e3, e4]
      refine b_if_eq 50 dX11_ask_43 (by decide) (fun c5 => ?_) (fun c5 => ?_)
      · skip
        refine b_iconst (v := nI 0) dX11_ask_50 (by decide) ?_
        exact b_iret dX11_ask_51 ⟨by simp only [c2, c4, hix, hkx, Bool.and_true, if_true]; rw [(bI_0 _).mp c5]; rfl, by simp only [c2, c4, hix, hkx, Bool.and_true, if_true]⟩
      · skip
        refine b_iconst (v := nI 1) dX11_ask_46 (by decide) ?_
        refine b_goto 51 dX11_ask_47 (by decide) ?_
        exact b_iret dX11_ask_51 ⟨by simp only [c2, c4, hix, hkx, Bool.and_true, if_true]; rw [(bI_1 _).mp c5]; rfl, by simp only [c2, c4, hix, hkx, Bool.and_true, if_true]⟩
    · skip
      refine b_bipush (v := -2) dX11_ask_16 (by decide) ?_
      exact b_iret dX11_ask_18 ⟨by simp [(bI_0 _).mp c3], by simp [(bI_0 _).mp c3]⟩
theorem c_X_isTrue {G : GT} {d : Nat} {σ : ST} {μ : SL} {W F P t sz : Nat} {w : Int32} (hX : XV σ W F P t) (hZ : XP σ sz) : Fn G (d + 2) mX11_isTrue [.ref (G.b0 + 0), .int w] (sh G σ μ) (Ret (some (.int (if inR w W then nI t else -2))) (sh G (if inR w W then pt (keepS sz σ) 26 2 w else σ) μ)) := by
  obtain ⟨⟨hW, hF, hP, hW16, hF8, hP6⟩, -⟩ := id hX
  refine fn_of (ls := [some (.ref (G.b0 + 0)), some (.int w), none]) (by decide +kernel) (Nat.le_of_ble_eq_true rfl) 1 rfl ?_
  refine b_aload_n dX11_isTrue_0 rfl ?_
  refine b_iload_n dX11_isTrue_1 rfl ?_
  refine g_callV [.int w] dX11_isTrue_2 kX11_isWorld lX11_112 a0 rfl rfl (c_isWorld hW) rfl rfl (Nat.le_of_ble_eq_true rfl) ?_
  refine b_if_ne 11 dX11_isTrue_5 (by decide) (fun c1 => ?_) (fun c1 => ?_)
  · skip
    have c2 := (bI_1 _).mp c1
    refine b_aload_n dX11_isTrue_11 rfl ?_
    refine g_get dX11_isTrue_12 fX11_40 a0 rfl ?_
    refine b_aload_n dX11_isTrue_15 rfl ?_
    refine g_get dX11_isTrue_16 fX11_30 a0 rfl ?_
    refine g_callV [.ref (G.b0 + 26)] dX11_isTrue_19 kX4_keep lX11_177 a32 rfl rfl (c_keep hZ.1 hZ.2) rfl rfl (Nat.le_of_ble_eq_true rfl) ?_
    have hX' : XV (keepS sz σ) W F P t := XV_keep hX
    refine b_aload_n dX11_isTrue_22 rfl ?_
    refine g_get dX11_isTrue_23 fX11_30 a0 rfl ?_
    refine g_geti (x := nI t) dX11_isTrue_26 fX11_174 a26 rfl hX'.2.1 ?_
    refine b_istore_n dX11_isTrue_29 (by decide) rfl ?_
    refine b_aload_n dX11_isTrue_30 rfl ?_
    refine g_get dX11_isTrue_31 fX11_30 a0 rfl ?_
    refine b_iload_n dX11_isTrue_34 rfl ?_
    refine g_put dX11_isTrue_35 wX11_174 a26 tfX8_2 (Nat.le_of_ble_eq_true rfl) rfl ?_
    refine b_iload_n dX11_isTrue_38 rfl ?_
    exact b_iret dX11_isTrue_39 ⟨by simp only [c2, if_true], by simp only [c2, if_true]⟩
  · skip
    refine b_bipush (v := -2) dX11_isTrue_8 (by decide) ?_
    exact b_iret dX11_isTrue_10 ⟨by simp [(bI_0 _).mp c1], by simp [(bI_0 _).mp c1]⟩
theorem c_X_undo {G : GT} {d : Nat} {σ : ST} {μ : SL} {sz : Nat} {n : Int32} (hZ : XP σ sz) : Fn G (d + 2) mX11_undo [.ref (G.b0 + 0), .int n] (sh G σ μ) (Ret (some (.int (if inB n 1 sz then nI (sz - ix n) else -3))) (sh G (if inB n 1 sz then gobS (sz - ix n) σ else σ) μ)) := by
  have hz := hZ.1
  have hz12 := hZ.2
  refine fn_of (ls := [some (.ref (G.b0 + 0)), some (.int n)]) (by decide +kernel) (Nat.le_of_ble_eq_true rfl) 0 rfl ?_
  refine b_iload_n dX11_undo_0 rfl ?_
  refine b_iconst (v := nI 1) dX11_undo_1 (by decide) ?_
  refine b_icmp_lt 16 dX11_undo_2 (by decide) (fun c1 => ?_) (fun c1 => ?_)
  · skip
    refine b_bipush (v := -3) dX11_undo_16 (by decide) ?_
    have c3 : inB n 1 sz = false := by simp [inB, Int32.not_le.mpr c1]
    exact b_iret dX11_undo_18 ⟨by simp [c3], by simp [c3]⟩
  · skip
    refine b_iload_n dX11_undo_5 rfl ?_
    refine b_aload_n dX11_undo_6 rfl ?_
    refine g_get dX11_undo_7 fX11_40 a0 rfl ?_
    refine g_geti (x := nI sz) dX11_undo_10 fX11_193 a32 rfl hz ?_
    refine b_icmp_le 19 dX11_undo_13 (by decide) (fun c2 => ?_) (fun c2 => ?_)
    · skip
      have c3 : inB n 1 sz = true := by simp [inB, Int32.not_lt.mp c1, c2]
      have hs1 : 1 ≤ sz := by
        rcases Nat.eq_zero_or_pos sz with q | q
        · subst q
          have h1 := Int32.le_trans (Int32.not_lt.mp c1) c2
          rw [nI_leI (by omega) (by omega)] at h1
          omega
        · exact q
      obtain ⟨j, hj1, hj2, rfl⟩ := inB_of (by omega) c3 hs1
      have hkx := ix_nI (show j < 2 ^ 31 by omega)
      refine b_aload_n dX11_undo_19 rfl ?_
      refine g_get dX11_undo_20 fX11_40 a0 rfl ?_
      refine b_aload_n dX11_undo_23 rfl ?_
      refine g_get dX11_undo_24 fX11_30 a0 rfl ?_
      refine b_iload_n dX11_undo_27 rfl ?_
      refine g_callV [.ref (G.b0 + 26), .int (nI j)] dX11_undo_28 kX4_goBack lX11_196 a32 rfl rfl (c_goBack hz hz12 hj1 hj2) rfl rfl (Nat.le_of_ble_eq_true rfl) ?_
      refine b_aload_n dX11_undo_31 rfl ?_
      refine g_get dX11_undo_32 fX11_40 a0 rfl ?_
      refine g_get dX11_undo_35 fX11_193 a32 rfl ?_
      exact b_iret dX11_undo_38 ⟨by simp only [c3, if_true, hkx]; simp [gobS], by simp only [c3, if_true, hkx]⟩
    · skip
      refine b_bipush (v := -3) dX11_undo_16 (by decide) ?_
      have c3 : inB n 1 sz = false := by simp [inB, c2]
      exact b_iret dX11_undo_18 ⟨by simp [c3], by simp [c3]⟩
/-- people who were told something that they had not been told -/
def mNew (x y : Nat → Int32) : Nat → Nat
  | 0 => 0
  | p + 1 => mNew x y p + if x p = y p then 0 else 1
theorem pdS_fr {a b P : Nat} {c q : Nat} (h1 : c ≠ b + 1) (h2 : c ≠ b + 2) : ∀ n (σ : ST), (pdS a b P n σ).1 c q = σ c q
  | 0, _ => rfl
  | n + 1, σ => by
    unfold pdS
    split
    · exact (pdS_fr h1 h2 n _).trans (dayS_fr h1 h2)
    · exact dayS_fr h1 h2
theorem bcmS_fr {σ : ST} {o b c q : Nat} (h1 : c ≠ b) (h2 : c ≠ b + 1) : bcmS σ o b c q = σ c q := by simp [bcmS, h1, h2]
/-- days(): the state behind it -/
def daysX (sz P n : Nat) (σ : ST) : ST := (pdS 20 26 P n (bcmS (keepS sz σ) 26 29)).1
theorem c_X_days {G : GT} {d : Nat} {σ : ST} {μ : SL} {W F P t sz : Nat} {n : Int32} (hX : XV σ W F P t) (hZ : XP σ sz) : Fn G (d + 3) mX11_days [.ref (G.b0 + 0), .int n] (sh G σ μ) (Ret (some (.int (if inB n 1 60 then nI (mNew (daysX sz P (ix n) σ 27) (σ 27) P) else -3))) (sh G (if inB n 1 60 then daysX sz P (ix n) σ else σ) μ)) := by
  obtain ⟨⟨hW, hF, hP, hW16, hF8, hP6⟩, -⟩ := id hX
  refine fn_of (ls := [some (.ref (G.b0 + 0)), some (.int n), none, none]) (by decide +kernel) (Nat.le_of_ble_eq_true rfl) 2 rfl ?_
  refine b_iload_n dX11_days_0 rfl ?_
  refine b_iconst (v := nI 1) dX11_days_1 (by decide) ?_
  refine b_icmp_lt 11 dX11_days_2 (by decide) (fun c1 => ?_) (fun c1 => ?_)
  · skip
    refine b_bipush (v := -3) dX11_days_11 (by decide) ?_
    have c3 : inB n 1 60 = false := by simp [inB, Int32.not_le.mpr c1]
    exact b_iret dX11_days_13 ⟨by simp [c3], by simp [c3]⟩
  · skip
    refine b_iload_n dX11_days_5 rfl ?_
    refine b_bipush (v := nI 60) dX11_days_6 (by decide) ?_
    refine b_icmp_le 14 dX11_days_8 (by decide) (fun c2 => ?_) (fun c2 => ?_)
    · skip
      have c3 : inB n 1 60 = true := by simp [inB, Int32.not_lt.mp c1, c2]
      obtain ⟨j, hj1, hj2, rfl⟩ := inB_of (by omega) c3 (by omega)
      have hkx := ix_nI (show j < 2 ^ 31 by omega)
      refine b_aload_n dX11_days_14 rfl ?_
      refine g_get dX11_days_15 fX11_40 a0 rfl ?_
      refine b_aload_n dX11_days_18 rfl ?_
      refine g_get dX11_days_19 fX11_30 a0 rfl ?_
      refine g_callV [.ref (G.b0 + 26)] dX11_days_22 kX4_keep lX11_177 a32 rfl rfl (c_keep hZ.1 hZ.2) rfl rfl (Nat.le_of_ble_eq_true rfl) ?_
      refine b_aload_n dX11_days_25 rfl ?_
      refine g_get dX11_days_26 fX11_34 a0 rfl ?_
      refine b_aload_n dX11_days_29 rfl ?_
      refine g_get dX11_days_30 fX11_30 a0 rfl ?_
      refine g_callV [.ref (G.b0 + 26)] dX11_days_33 kX8_become lX11_100 a29 rfl rfl (c_Sbecome sa29 sa26 (by omega)) rfl rfl (Nat.le_of_ble_eq_true rfl) ?_
      refine b_aload_n dX11_days_36 rfl ?_
      refine g_get dX11_days_37 fX11_30 a0 rfl ?_
      refine b_aload_n dX11_days_40 rfl ?_
      refine g_get dX11_days_41 fX11_23 a0 rfl ?_
      refine b_iload_n dX11_days_44 rfl ?_
      have hL2 : LV (bcmS (keepS sz σ) 26 29) 20 W F P := LV_of hX.1 (fun q => (bcmS_fr (by omega) (by omega)).trans (keepS_fr (by omega) (by omega)))
      refine g_callV [.ref (G.b0 + 20), .int (nI j)] dX11_days_45 kX8_passDays lX11_189 a26 rfl rfl (c_passDays sa26 ln20 hL2 (by omega) (by omega)) rfl rfl (Nat.le_of_ble_eq_true rfl) ?_
      have hfr : ∀ c q, c ≠ 27 → c ≠ 28 → daysX sz P j σ c q = bcmS (keepS sz σ) 26 29 c q := fun c q h1 h2 => pdS_fr h1 h2 j _
      have hP' : daysX sz P j σ 20 8 = nI P := ((hfr 20 8 (by omega) (by omega)).trans ((bcmS_fr (by omega) (by omega)).trans (keepS_fr (by omega) (by omega)))).trans hP
      have h30 : ∀ q, q < 6 → daysX sz P j σ 30 q = σ 27 q := fun q hq => by
        rw [hfr 30 q (by omega) (by omega)]
        show bcmS (keepS sz σ) 26 29 (29 + 1) q = _
        simp only [bcmS, hq, and_self, if_true]
        exact keepS_fr (by omega) (by omega)
      refine b_pop dX11_days_48 rfl ?_
      refine b_iconst (v := nI 0) dX11_days_49 (by decide) ?_
      refine b_istore_n dX11_days_50 (by decide) rfl ?_
      refine b_iconst (v := nI 0) dX11_days_51 (by decide) ?_
      refine b_istore_n dX11_days_52 (by decide) rfl ?_
      have lp : ∀ (n i : Nat), i + n = P → BB G RX11 cX11_days 4 (some .int) (d + 3) (QM G (Ret (some (.int (if inB (nI j) 1 60 then nI (mNew (daysX sz P (ix (nI j)) σ 27) (σ 27) P) else -3))) (sh G (if inB (nI j) 1 60 then daysX sz P (ix (nI j)) σ else σ) μ))) 53 [some (.ref (G.b0 + 0)), some (.int (nI j)), some (.int (nI (mNew (daysX sz P j σ 27) (σ 27) i))), some (.int (nI i))] [] (sh G (daysX sz P j σ) μ) := by
        intro n
        induction n with
        | zero =>
          intro i hi
          refine b_iload_n dX11_days_53 rfl ?_
          refine b_aload_n dX11_days_54 rfl ?_
          refine g_get dX11_days_55 fX11_23 a0 rfl ?_
          refine g_geti (x := nI P) dX11_days_58 fX11_171 a20 rfl hP' ?_
          refine b_icmp_ge_t 94 dX11_days_61 (by decide) (nI_le (by omega) (by omega)) ?_
          refine b_iload_n dX11_days_94 rfl ?_
          exact b_iret dX11_days_95 ⟨by simp only [c3, if_true, hkx]; rw [show i = P by omega], by simp only [c3, if_true, hkx]⟩
        | succ n ih =>
          intro i hi
          refine b_iload_n dX11_days_53 rfl ?_
          refine b_aload_n dX11_days_54 rfl ?_
          refine g_get dX11_days_55 fX11_23 a0 rfl ?_
          refine g_geti (x := nI P) dX11_days_58 fX11_171 a20 rfl hP' ?_
          refine b_icmp_ge_f 94 dX11_days_61 (by decide) (nI_ge (by omega) (by omega)) ?_
          refine b_aload_n dX11_days_64 rfl ?_
          refine g_get dX11_days_65 fX11_30 a0 rfl ?_
          refine g_get dX11_days_68 fX11_142 a26 rfl ?_
          refine b_iload_n dX11_days_71 rfl ?_
          refine g_iald dX11_days_72 a27 rfl (by omega) ?_
          refine b_aload_n dX11_days_73 rfl ?_
          refine g_get dX11_days_74 fX11_34 a0 rfl ?_
          refine g_get dX11_days_77 fX11_142 a29 rfl ?_
          refine b_iload_n dX11_days_80 rfl ?_
          refine g_iald dX11_days_81 a30 rfl (by omega) ?_
          refine b_icmp_eq 88 dX11_days_82 (by decide) (fun c4 => ?_) (fun c4 => ?_)
          · skip
            refine b_iinc dX11_days_88 rfl (nI_1 _) (by decide) rfl ?_
            refine b_goto 53 dX11_days_91 (by decide) ?_
            rw [h30 i (by omega)] at c4
            have e : mNew (daysX sz P j σ 27) (σ 27) i = mNew (daysX sz P j σ 27) (σ 27) (i + 1) := by rw [mNew, if_pos c4, Nat.add_zero]
            rw [e]
            exact ih (i + 1) (by omega)
          · skip
            refine b_iinc dX11_days_85 rfl (nI_1 _) (by decide) rfl ?_
            refine b_iinc dX11_days_88 rfl (nI_1 _) (by decide) rfl ?_
            refine b_goto 53 dX11_days_91 (by decide) ?_
            rw [h30 i (by omega)] at c4
            have e : mNew (daysX sz P j σ 27) (σ 27) i + 1 = mNew (daysX sz P j σ 27) (σ 27) (i + 1) := by rw [mNew, if_neg c4]
            rw [e]
            exact ih (i + 1) (by omega)
      exact lp P 0 (by omega)
    · skip
      refine b_bipush (v := -3) dX11_days_11 (by decide) ?_
      have c3 : inB n 1 60 = false := by simp [inB, c2]
      exact b_iret dX11_days_13 ⟨by simp [c3], by simp [c3]⟩

