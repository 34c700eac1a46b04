/-! ===== Trial ===== -/
def mTrB (g : Int32 → Nat) (hold : Nat → Int32) (q : Int32) (f : Nat) : Nat := if mKn (hold f) q then 100 else min 100 (1 + max (g (q &&& hold f)) (g (q &&& (hold f ^^^ (-1)))))
def mTrM (g : Int32 → Nat) (hold : Nat → Int32) (q : Int32) : Nat → Nat
  | 0 => 100
  | f + 1 => min (mTrM g hold q f) (mTrB g hold q f)
/-- the fewest facts at worst, n facts at most; 100: never -/
def mTr (hold : Nat → Int32) (gl : Int32) (F : Nat) : Nat → Int32 → Nat
  | 0, q => if mKn gl q then 0 else 100
  | n + 1, q => if mKn gl q then 0 else mTrM (mTr hold gl F n) hold q F
theorem mTrM_le (g : Int32 → Nat) (hold : Nat → Int32) (q : Int32) : ∀ f, mTrM g hold q f ≤ 100
  | 0 => Nat.le_refl _
  | f + 1 => by have := mTrM_le g hold q f; unfold mTrM; omega
theorem mTr_le (hold : Nat → Int32) (gl : Int32) (F : Nat) (n : Nat) (q : Int32) : mTr hold gl F n q ≤ 100 := by
  cases n with
  | zero => unfold mTr; split <;> omega
  | succ n =>
    unfold mTr
    split
    · omega
    · exact mTrM_le _ _ _ _
/-! what was told so far, by threes -/
def dig (so f : Nat) : Nat := so / 3 ^ f % 3
def trQ (hold : Nat → Int32) (q0 : Int32) (so : Nat) : Nat → Int32
  | 0 => q0
  | f + 1 => if dig so f = 1 then trQ hold q0 so f &&& hold f else if dig so f = 2 then trQ hold q0 so f &&& (hold f ^^^ (-1)) else trQ hold q0 so f
def dep (so : Nat) : Nat := (if dig so 0 = 0 then 0 else 1) + (if dig so 1 = 0 then 0 else 1) + (if dig so 2 = 0 then 0 else 1) + (if dig so 3 = 0 then 0 else 1) + (if dig so 4 = 0 then 0 else 1) + (if dig so 5 = 0 then 0 else 1) + (if dig so 6 = 0 then 0 else 1) + (if dig so 7 = 0 then 0 else 1)
theorem dig_lt {so : Nat} (h : so < 6561) {f c : Nat} (hf : f < 8) (hc : c < 3) (h0 : dig so f = 0) : so + c * 3 ^ f < 6561 := by
  unfold dig at h0
  rcases (show f = 0 ∨ f = 1 ∨ f = 2 ∨ f = 3 ∨ f = 4 ∨ f = 5 ∨ f = 6 ∨ f = 7 by omega) with rfl | rfl | rfl | rfl | rfl | rfl | rfl | rfl <;> simp only [Nat.reducePow] at h0 ⊢ <;> omega
theorem dig_add {so : Nat} {f g c : Nat} (hf : f < 8) (hg : g < 8) (hc : c < 3) (h0 : dig so f = 0) : dig (so + c * 3 ^ f) g = if g = f then c else dig so g := by
  unfold dig at h0 ⊢
  rcases (show f = 0 ∨ f = 1 ∨ f = 2 ∨ f = 3 ∨ f = 4 ∨ f = 5 ∨ f = 6 ∨ f = 7 by omega) with rfl | rfl | rfl | rfl | rfl | rfl | rfl | rfl <;>
  rcases (show g = 0 ∨ g = 1 ∨ g = 2 ∨ g = 3 ∨ g = 4 ∨ g = 5 ∨ g = 6 ∨ g = 7 by omega) with rfl | rfl | rfl | rfl | rfl | rfl | rfl | rfl <;>
  simp only [Nat.reducePow] at h0 ⊢ <;> simp <;> omega
theorem and_rc (x y z : Int32) : x &&& y &&& z = x &&& z &&& y := by
  apply b_ext
  intro i hi
  simp only [b_and]
  cases bt x i <;> cases bt y i <;> cases bt z i <;> rfl
theorem trQ_add {hold : Nat → Int32} {q0 : Int32} {so f c : Nat} (hf : f < 8) (hc : c < 3) (h0 : dig so f = 0) (hc0 : c = 1 ∨ c = 2) : ∀ n, n ≤ 8 → trQ hold q0 (so + c * 3 ^ f) n = if f < n then trQ hold q0 so n &&& (if c = 1 then hold f else hold f ^^^ (-1)) else trQ hold q0 so n
  | 0, _ => by simp [trQ]
  | n + 1, hn => by
    have ih := trQ_add hf hc h0 hc0 (hold := hold) (q0 := q0) n (by omega)
    rw [trQ, trQ, dig_add hf (by omega) hc h0, ih]
    rcases Nat.lt_trichotomy n f with h | h | h
    · rw [if_neg (show ¬ n = f by omega), if_neg (show ¬ f < n by omega), if_neg (show ¬ f < n + 1 by omega)]
    · subst h
      rw [if_pos rfl, if_neg (Nat.lt_irrefl n), if_pos (Nat.lt_succ_self n), h0]
      rcases hc0 with rfl | rfl
      · simp
      · simp
    · rw [if_neg (show ¬ n = f by omega), if_pos (show f < n by omega), if_pos (show f < n + 1 by omega)]
      split
      · rw [and_rc]
      · split
        · rw [and_rc]
        · rfl
theorem trQ_in {hold : Nat → Int32} {q0 : Int32} {so f : Nat} : ∀ n, f < n → (dig so f = 1 → trQ hold q0 so n &&& hold f = trQ hold q0 so n) ∧ (dig so f = 2 → trQ hold q0 so n &&& hold f = 0)
  | 0, h => absurd h (Nat.not_lt_zero f)
  | n + 1, h => by
    rcases Nat.lt_or_ge f n with q | q
    · obtain ⟨h1, h2⟩ := trQ_in (hold := hold) (q0 := q0) (so := so) n q
      refine ⟨fun hd => ?_, fun hd => ?_⟩
      · rw [trQ]
        split
        · rw [and_rc, h1 hd]
        · split
          · rw [and_rc, h1 hd]
          · exact h1 hd
      · rw [trQ]
        split
        · rw [and_rc, h2 hd]; apply b_ext; intro i hi; simp [b_and, b_0]
        · split
          · rw [and_rc, h2 hd]; apply b_ext; intro i hi; simp [b_and, b_0]
          · exact h2 hd
    · have e : f = n := by omega
      subst e
      refine ⟨fun hd => ?_, fun hd => ?_⟩
      · rw [trQ, if_pos hd]
        apply b_ext; intro i hi; simp [b_and]
      · rw [trQ, if_neg (by omega), if_pos hd]
        apply b_ext
        intro i hi
        simp only [b_and, b_xor, b_m1 i hi, b_0]
        cases bt (trQ hold q0 so f) i <;> cases bt (hold f) i <;> rfl
/-- a fact that isn't known has not been told -/
theorem dig_0 {hold : Nat → Int32} {q0 : Int32} {so f : Nat} (hf : f < 8) (h : mKn (hold f) (trQ hold q0 so 8) = false) : dig so f = 0 := by
  have h3 : dig so f < 3 := Nat.mod_lt _ (by omega)
  obtain ⟨h1, h2⟩ := trQ_in (hold := hold) (q0 := q0) (so := so) 8 hf
  rcases (show dig so f = 0 ∨ dig so f = 1 ∨ dig so f = 2 by omega) with q | q | q
  · exact q
  · simp [mKn, h1 q] at h
  · simp [mKn, h2 q] at h
theorem dep_add {so f c : Nat} (hf : f < 8) (hc : c < 3) (hc0 : ¬ c = 0) (h0 : dig so f = 0) : dep (so + c * 3 ^ f) = dep so + 1 := by
  have e := fun g hg => dig_add (g := g) hf hg hc h0
  unfold dep
  rw [e 0 (by omega), e 1 (by omega), e 2 (by omega), e 3 (by omega), e 4 (by omega), e 5 (by omega), e 6 (by omega), e 7 (by omega)]
  rcases (show f = 0 ∨ f = 1 ∨ f = 2 ∨ f = 3 ∨ f = 4 ∨ f = 5 ∨ f = 6 ∨ f = 7 by omega) with rfl | rfl | rfl | rfl | rfl | rfl | rfl | rfl <;> simp [hc0, h0] <;> omega
theorem dep_0 : dep 0 = 0 := by decide
theorem trQ_0 (hold : Nat → Int32) (q0 : Int32) : ∀ n, n ≤ 8 → trQ hold q0 0 n = q0
  | 0, _ => rfl
  | n + 1, h => by
    have e : dig 0 n = 0 := by simp [dig]
    rw [trQ, e, trQ_0 hold q0 n (by omega)]
    simp
/-- what was found of this trial is right; of elder ones it bears a less number -/
def TrOk (σ : ST) (k F : Nat) (q0 : Int32) : Prop := σ 45 1 = nI k ∧ k < 2 ^ 20 ∧ ∀ so, so < 6561 → ∃ j b, j ≤ k ∧ b < 128 ∧ σ 46 so = nI (128 * j + b) ∧ (j = k → b = mTr (σ 23) (σ 20 5) F (8 - dep so) (trQ (σ 23) q0 so 8))
/-- an answer, found's cell alone otherwise, and it is right -/
def PTr (G : GT) (μ : SL) (σ : ST) (k F : Nat) (q0 : Int32) (v : Nat) : Option Value → HT → Prop := fun r h' => r = some (.int (nI v)) ∧ ∃ σ' : ST, h' = sh G σ' μ ∧ (∀ c, c ≠ 46 → σ' c = σ c) ∧ TrOk σ' k F q0
def t3n : List Nat := [1, 3, 9, 27, 81, 243, 729, 2187, 6561]
theorem t3_at {f : Nat} (h : f < 8) : t3f f = .int (nI (3 ^ f)) := by
  rcases (show f = 0 ∨ f = 1 ∨ f = 2 ∨ f = 3 ∨ f = 4 ∨ f = 5 ∨ f = 6 ∨ f = 7 by omega) with rfl | rfl | rfl | rfl | rfl | rfl | rfl | rfl <;> rfl
theorem TrOk_of {σ σ' : ST} {k F : Nat} {q0 : Int32} (h : TrOk σ k F q0) (e : ∀ c, c = 45 ∨ c = 46 ∨ c = 23 ∨ c = 20 → σ' c = σ c) : TrOk σ' k F q0 := by
  obtain ⟨h1, h2, h3⟩ := h
  refine ⟨by rw [e 45 (by omega)]; exact h1, h2, fun so hso => ?_⟩
  rw [e 46 (by omega), e 23 (by omega), e 20 (by omega)]
  exact h3 so hso
theorem mMin_nI {a b : Nat} (ha : a < 2 ^ 31) (hb : b < 2 ^ 31) : mMin (nI a) (nI b) = nI (min a b) := by
  unfold mMin
  by_cases h : b < a
  · rw [if_pos (nI_lt h ha), Nat.min_eq_right (by omega)]
  · rw [if_neg (nI_nlt (by omega) hb), Nat.min_eq_left (by omega)]
theorem mMax_nI {a b : Nat} (ha : a < 2 ^ 31) (hb : b < 2 ^ 31) : mMax (nI a) (nI b) = nI (max a b) := by
  unfold mMax
  by_cases h : a < b
  · rw [if_pos (nI_lt h hb), Nat.max_eq_right (by omega)]
  · rw [if_neg (nI_nlt (by omega) ha), Nat.max_eq_left (by omega)]
theorem tr_shr {j b : Nat} (h : 128 * j + b < 2 ^ 31) (hb : b < 128) : nI (128 * j + b) >>> (nI 7 &&& 31) = nI j := by
  apply b_ext
  intro i hi
  rw [b_sshr 7 (by omega) _ hi, bt_nI hi]
  have e : (128 * j + b).testBit (7 + i) = j.testBit i := by
    rw [Nat.testBit_eq_decide_div_mod_eq, Nat.testBit_eq_decide_div_mod_eq, Nat.pow_add, ← Nat.div_div_eq_div_mul]
    rw [show (128 * j + b) / 2 ^ 7 = j by omega]
  split
  · rw [bt_nI (by omega), e]
  · rw [bt_nI (by omega), Nat.testBit_lt_two_pow (Nat.lt_of_lt_of_le h (Nat.le_refl _)), ← e]
    exact (Nat.testBit_lt_two_pow (Nat.lt_of_lt_of_le h (Nat.pow_le_pow_right (by omega) (by omega)))).symm
theorem tr_and {j b : Nat} (hb : b < 128) : nI (128 * j + b) &&& nI 127 = nI b := by
  apply b_ext
  intro i hi
  rw [b_and, bt_nI hi, bt_nI hi, bt_nI hi, show (127 : Nat) = 2 ^ 7 - 1 by rfl, Nat.testBit_two_pow_sub_one]
  rcases Nat.lt_or_ge i 7 with h | h
  · rw [decide_eq_true h, Bool.and_true, show 128 * j + b = 2 ^ 7 * j + b by rfl, Nat.testBit_two_pow_mul_add _ (by omega)]
    simp [h]
  · rw [decide_eq_false (by omega), Bool.and_false]
    exact (Nat.testBit_lt_two_pow (Nat.lt_of_lt_of_le hb (by rw [show (128 : Nat) = 2 ^ 7 by rfl]; exact Nat.pow_le_pow_right (by omega) h))).symm
theorem tr_or {k b : Nat} (hk : k < 2 ^ 20) (hb : b < 128) : nI k <<< (nI 7 &&& 31) ||| nI b = nI (128 * k + b) := by
  rw [pk_shlN (nI 7 &&& 31) 7 (s_l 7 (by omega)) (by omega)]
  apply b_ext
  intro i hi
  rw [b_or, bt_nI hi, bt_nI hi, bt_nI hi, show 128 * k + b = 2 ^ 7 * k + b by rfl, Nat.testBit_two_pow_mul_add _ (by omega), Nat.mul_comm, Nat.testBit_two_pow_mul]
  rcases Nat.lt_or_ge i 7 with h | h
  · simp [h, Nat.not_le.mpr h]
  · rw [Nat.testBit_lt_two_pow (Nat.lt_of_lt_of_le hb (by rw [show (128 : Nat) = 2 ^ 7 by rfl]; exact Nat.pow_le_pow_right (by omega) h))]
    simp [h, Nat.not_lt.mpr h]
def IHt (G : GT) (μ : SL) (W F P k : Nat) (q0 : Int32) (n : Nat) : Prop := ∀ (d : Nat) (σ : ST) (so : Nat) (q : Int32), so < 6561 → dep so + n = 8 → TrOk σ k F q0 → LV σ 20 W F P → q = trQ (σ 23) q0 so 8 → Fn G (d + 2 * n + 1) mX10_fewestBehind [.ref (G.b0 + 45), .ref (G.b0 + 20), .int q, .int (nI so), .int (nI (dep so))] (sh G σ μ) (PTr G μ σ k F q0 (mTr (σ 23) (σ 20 5) F n q))
theorem c_fewestBy {G : GT} {d : Nat} {σ : ST} {μ : SL} {W F P k n f so e : Nat} {q q0 : Int32} (ih : IHt G μ W F P k q0 n) (hf : f < 8) (hso : so < 6561) (he : e = dep so) (hn : dep so + (n + 1) = 8) (hT : TrOk σ k F q0) (hL : LV σ 20 W F P) (hq : q = trQ (σ 23) q0 so 8) : Fn G (d + 2 * n + 1 + 1) mX10_fewestBy [.ref (G.b0 + 45), .ref (G.b0 + 20), .int q, .int (nI f), .int (nI so), .int (nI e)] (sh G σ μ) (PTr G μ σ k F q0 (mTrB (mTr (σ 23) (σ 20 5) F n) (σ 23) q f)) := by
  refine fn_of (ls := [some (.ref (G.b0 + 45)), some (.ref (G.b0 + 20)), some (.int q), some (.int (nI f)), some (.int (nI so)), some (.int (nI e)), none, none]) (by decide +kernel) (Nat.le_of_ble_eq_true rfl) 2 rfl ?_
  refine b_aload_n dX10_fewestBy_0 rfl ?_
  refine b_iload_n dX10_fewestBy_1 rfl ?_
  refine b_iload_n dX10_fewestBy_2 rfl ?_
  refine g_callV [.int (nI f), .int q] dX10_fewestBy_3 kX2_isKnown lX10_45 a20 rfl rfl (c_isKnown ln20 hf) rfl rfl (Nat.le_of_ble_eq_true rfl) ?_
  refine b_if_eq 12 dX10_fewestBy_6 (by decide) (fun c1 => ?_) (fun c1 => ?_)
  · skip
    have c2 : mKn (σ 23 f) q = false := (bI_0 _).mp c1
    have h0 : dig so f = 0 := dig_0 (hold := σ 23) (q0 := q0) hf (by rw [← hq]; exact c2)
    have e1 := dep_add (c := 1) hf (by omega) (by omega) h0
    have e2 := dep_add (c := 2) hf (by omega) (by omega) h0
    have l1 := dig_lt (c := 1) hso hf (by omega) h0
    have l2 := dig_lt (c := 2) hso hf (by omega) h0
    rw [Nat.one_mul] at e1 l1
    have hd1 : nI (e + 1) = nI (dep (so + 3 ^ f)) := by rw [e1, he]
    have hd2 : nI (e + 1) = nI (dep (so + 2 * 3 ^ f)) := by rw [e2, he]
    have t1 : q &&& σ 23 f = trQ (σ 23) q0 (so + 3 ^ f) 8 := by
      have := trQ_add (hold := σ 23) (q0 := q0) (c := 1) hf (by omega) h0 (Or.inl rfl) 8 (Nat.le_refl 8)
      rw [Nat.one_mul, if_pos hf, if_pos rfl] at this
      rw [this, hq]
    have t2 : q &&& (σ 23 f ^^^ (-1)) = trQ (σ 23) q0 (so + 2 * 3 ^ f) 8 := by
      have := trQ_add (hold := σ 23) (q0 := q0) (c := 2) hf (by omega) h0 (Or.inr rfl) 8 (Nat.le_refl 8)
      rw [if_pos hf, if_neg (by omega)] at this
      rw [this, hq]
    refine b_aload_n dX10_fewestBy_12 rfl ?_
    refine b_aload_n dX10_fewestBy_13 rfl ?_
    refine b_iload_n dX10_fewestBy_14 rfl ?_
    refine b_aload_n dX10_fewestBy_15 rfl ?_
    refine g_get dX10_fewestBy_16 fX10_49 a20 rfl ?_
    refine b_iload_n dX10_fewestBy_19 rfl ?_
    refine g_iald dX10_fewestBy_20 a23 rfl (by omega) ?_
    refine b_iand dX10_fewestBy_21 ?_
    refine b_iload dX10_fewestBy_22 rfl ?_
    refine g_gets3 dX10_fewestBy_24 flX10_9 ?_
    refine b_iload_n dX10_fewestBy_27 rfl ?_
    refine g_t3ld dX10_fewestBy_28 rfl (by omega) (t3_at (by omega)) ?_
    refine b_iaddN dX10_fewestBy_29 ?_
    refine b_iload dX10_fewestBy_30 rfl ?_
    refine b_iconst (v := nI 1) dX10_fewestBy_32 (by decide) ?_
    refine b_iaddN dX10_fewestBy_33 ?_
    rw [hd1]
    refine g_callVp [.ref (G.b0 + 20), .int (q &&& (σ 23 f)), .int (nI (so + (3 ^ f))), .int (nI (dep (so + 3 ^ f)))] dX10_fewestBy_34 kX10_fewestBehind lX10_22 a45 rfl rfl (ih d σ (so + 3 ^ f) _ l1 (by omega) hT hL t1) rfl rfl (Nat.le_of_ble_eq_true rfl) ?_
    rintro r h9 ⟨rfl, s1, rfl, hs1, hT1⟩
    have g1 : s1 23 = σ 23 := hs1 23 (by omega)
    have g2 : s1 20 = σ 20 := hs1 20 (by omega)
    have hL1 : LV s1 20 W F P := LV_of hL (fun x => congrFun g2 x)
    refine b_istore dX10_fewestBy_37 (by decide) rfl ?_
    refine b_aload_n dX10_fewestBy_39 rfl ?_
    refine b_aload_n dX10_fewestBy_40 rfl ?_
    refine b_iload_n dX10_fewestBy_41 rfl ?_
    refine b_aload_n dX10_fewestBy_42 rfl ?_
    refine g_get dX10_fewestBy_43 fX10_49 a20 rfl ?_
    refine b_iload_n dX10_fewestBy_46 rfl ?_
    refine g_iald dX10_fewestBy_47 a23 rfl (by omega) ?_
    refine b_iconst (v := -1) dX10_fewestBy_48 (by decide) ?_
    refine b_ixor dX10_fewestBy_49 ?_
    refine b_iand dX10_fewestBy_50 ?_
    refine b_iload dX10_fewestBy_51 rfl ?_
    refine b_iconst (v := nI 2) dX10_fewestBy_53 (by decide) ?_
    refine g_gets3 dX10_fewestBy_54 flX10_9 ?_
    refine b_iload_n dX10_fewestBy_57 rfl ?_
    refine g_t3ld dX10_fewestBy_58 rfl (by omega) (t3_at (by omega)) ?_
    refine b_imulN dX10_fewestBy_59 ?_
    refine b_iaddN dX10_fewestBy_60 ?_
    refine b_iload dX10_fewestBy_61 rfl ?_
    refine b_iconst (v := nI 1) dX10_fewestBy_63 (by decide) ?_
    refine b_iaddN dX10_fewestBy_64 ?_
    rw [hd2, g1]
    refine g_callVp [.ref (G.b0 + 20), .int (q &&& (σ 23 f ^^^ (-1))), .int (nI (so + (2 * (3 ^ f)))), .int (nI (dep (so + 2 * 3 ^ f)))] dX10_fewestBy_65 kX10_fewestBehind lX10_22 a45 rfl rfl (ih d s1 (so + 2 * 3 ^ f) _ l2 (by omega) hT1 hL1 (by rw [g1]; exact t2)) rfl rfl (Nat.le_of_ble_eq_true rfl) ?_
    rintro r h9 ⟨rfl, s2, rfl, hs2, hT2⟩
    rw [g1, g2]
    refine b_istore dX10_fewestBy_68 (by decide) rfl ?_
    refine b_bipush (v := nI 100) dX10_fewestBy_70 (by decide) ?_
    refine b_iconst (v := nI 1) dX10_fewestBy_72 (by decide) ?_
    refine b_iload dX10_fewestBy_73 rfl ?_
    refine b_iload dX10_fewestBy_75 rfl ?_
    refine b_mmax dX10_fewestBy_77 lX10_52 (Nat.le_of_ble_eq_true rfl) ?_
    rw [mMax_nI (by have := mTr_le (σ 23) (σ 20 5) F n (q &&& σ 23 f); omega) (by have := mTr_le (σ 23) (σ 20 5) F n (q &&& (σ 23 f ^^^ (-1))); omega)]
    refine b_iaddN dX10_fewestBy_80 ?_
    refine b_mmin dX10_fewestBy_81 lX10_39 (Nat.le_of_ble_eq_true rfl) ?_
    refine b_iret dX10_fewestBy_84 ⟨?_, s2, rfl, fun c hc => (hs2 c hc).trans (hs1 c hc), hT2⟩
    have b1 := mTr_le (σ 23) (σ 20 5) F n (q &&& σ 23 f)
    have b2 := mTr_le (σ 23) (σ 20 5) F n (q &&& (σ 23 f ^^^ (-1)))
    rw [mMin_nI (by omega) (by omega), mTrB, c2]
    rfl
  · skip
    refine b_bipush (v := nI 100) dX10_fewestBy_9 (by decide) ?_
    exact b_iret dX10_fewestBy_11 ⟨by simp only [mTrB, (bI_1 _).mp c1, if_true], σ, rfl, fun c _ => rfl, hT⟩
theorem c_fewestBehind {G : GT} {μ : SL} {W F P k : Nat} {q0 : Int32} : ∀ n, IHt G μ W F P k q0 n := by
  intro n
  induction n with
  | zero =>
    intro d σ so q hso hn hT hL hq
    generalize he : dep so = e at hn
    refine fn_of (ls := [some (.ref (G.b0 + 45)), some (.ref (G.b0 + 20)), some (.int q), some (.int (nI so)), some (.int (nI e)), none, none]) (by decide +kernel) (Nat.le_of_ble_eq_true rfl) 2 rfl ?_
    refine b_aload_n dX10_fewestBehind_0 rfl ?_
    refine b_iload_n dX10_fewestBehind_1 rfl ?_
    refine g_callV [.int q] dX10_fewestBehind_2 kX2_isGuiltKnown lX10_35 a20 rfl rfl (c_isGuiltKnown ln20) rfl rfl (Nat.le_of_ble_eq_true rfl) ?_
    refine b_if_eq 10 dX10_fewestBehind_5 (by decide) (fun c1 => ?_) (fun c1 => ?_)
    · skip
      refine b_iload dX10_fewestBehind_10 rfl ?_
      refine b_bipush (v := nI 8) dX10_fewestBehind_12 (by decide) ?_
      refine b_icmp_ge_t 30 dX10_fewestBehind_14 (by decide) (nI_le (by omega) (by omega)) ?_
      refine b_bipush (v := nI 100) dX10_fewestBehind_30 (by decide) ?_
      have c2 : mKn (σ 20 5) q = false := (bI_0 _).mp c1
      exact b_iret dX10_fewestBehind_32 ⟨by simp only [mTr, c2]; rfl, σ, rfl, fun c _ => rfl, hT⟩
    · skip
      refine b_iconst (v := nI 0) dX10_fewestBehind_8 (by decide) ?_
      have c2 : mKn (σ 20 5) q = true := (bI_1 _).mp c1
      exact b_iret dX10_fewestBehind_9 ⟨by simp only [mTr, c2]; rfl, σ, rfl, fun c _ => rfl, hT⟩
  | succ n ih =>
    intro d σ so q hso hn hT hL hq
    obtain ⟨hW, hF, hP, hW16, hF8, hP6⟩ := id hL
    obtain ⟨hk1, hk2, hk3⟩ := id hT
    generalize he : dep so = e at hn
    show Fn G (d + 2 * n + 1 + 1 + 1) _ _ _ _
    refine fn_of (ls := [some (.ref (G.b0 + 45)), some (.ref (G.b0 + 20)), some (.int q), some (.int (nI so)), some (.int (nI e)), none, none]) (by decide +kernel) (Nat.le_of_ble_eq_true rfl) 2 rfl ?_
    refine b_aload_n dX10_fewestBehind_0 rfl ?_
    refine b_iload_n dX10_fewestBehind_1 rfl ?_
    refine g_callV [.int q] dX10_fewestBehind_2 kX2_isGuiltKnown lX10_35 a20 rfl rfl (c_isGuiltKnown ln20) rfl rfl (Nat.le_of_ble_eq_true rfl) ?_
    refine b_if_eq 10 dX10_fewestBehind_5 (by decide) (fun c1 => ?_) (fun c1 => ?_)
    · skip
      have c2 : mKn (σ 20 5) q = false := (bI_0 _).mp c1
      refine b_iload dX10_fewestBehind_10 rfl ?_
      refine b_bipush (v := nI 8) dX10_fewestBehind_12 (by decide) ?_
      refine b_icmp_ge_f 30 dX10_fewestBehind_14 (by decide) (nI_ge (by omega) (by omega)) ?_
      refine b_iload_n dX10_fewestBehind_17 rfl ?_
      refine b_if_lt_f 30 dX10_fewestBehind_18 (by decide) (Int32.not_lt.mpr (nI_pos' (by omega))) ?_
      refine b_iload_n dX10_fewestBehind_21 rfl ?_
      refine b_aload_n dX10_fewestBehind_22 rfl ?_
      refine g_get dX10_fewestBehind_23 fX10_15 a45 rfl ?_
      refine g_ilen dX10_fewestBehind_26 a46 ?_
      refine b_icmp_lt_t 33 dX10_fewestBehind_27 (by decide) (nI_lt (by omega) (by omega)) ?_
      refine b_aload_n dX10_fewestBehind_33 rfl ?_
      refine g_get dX10_fewestBehind_34 fX10_15 a45 rfl ?_
      refine b_iload_n dX10_fewestBehind_37 rfl ?_
      refine g_iald dX10_fewestBehind_38 a46 rfl (by omega) ?_
      refine b_bipush (v := nI 7) dX10_fewestBehind_39 (by decide) ?_
      refine b_ishr dX10_fewestBehind_41 ?_
      refine b_aload_n dX10_fewestBehind_42 rfl ?_
      refine g_geti (x := nI k) dX10_fewestBehind_43 fX10_18 a45 rfl hk1 ?_
      obtain ⟨j, b, hj, hb, h46, hjk⟩ := hk3 so hso
      rw [h46, tr_shr (by omega) hb]
      refine b_icmp_ne 59 dX10_fewestBehind_46 (by decide) (fun c3 => ?_) (fun c3 => ?_)
      · skip
        refine b_bipush (v := nI 100) dX10_fewestBehind_59 (by decide) ?_
        refine b_istore dX10_fewestBehind_61 (by decide) rfl ?_
        refine b_iconst (v := nI 0) dX10_fewestBehind_63 (by decide) ?_
        refine b_istore dX10_fewestBehind_64 (by decide) rfl ?_
        have hE : mTr (σ 23) (σ 20 5) F (n + 1) q = mTrM (mTr (σ 23) (σ 20 5) F n) (σ 23) q F := by rw [mTr, c2]; rfl
        have lp : ∀ (m i x : Nat) (s : ST), i + m = F → x = mTrM (mTr (σ 23) (σ 20 5) F n) (σ 23) q i → (∀ c, c ≠ 46 → s c = σ c) → TrOk s k F q0 → BB G RX10 cX10_fewestBehind 7 (some .int) (d + 2 * n + 1 + 1 + 1) (QM G (PTr G μ σ k F q0 (mTr (σ 23) (σ 20 5) F (n + 1) q))) 66 [some (.ref (G.b0 + 45)), some (.ref (G.b0 + 20)), some (.int q), some (.int (nI so)), some (.int (nI e)), some (.int (nI x)), some (.int (nI i))] [] (sh G s μ) := by
          intro m
          induction m with
          | zero =>
            intro i x s hi hx hs hTs
            have hx1 := mTrM_le (mTr (σ 23) (σ 20 5) F n) (σ 23) q i
            refine b_iload dX10_fewestBehind_66 rfl ?_
            refine b_aload_n dX10_fewestBehind_68 rfl ?_
            refine g_geti (x := nI F) dX10_fewestBehind_69 fX10_26 a20 rfl (by rw [hs 20 (by omega)]; exact hF) ?_
            refine b_icmp_ge_t 99 dX10_fewestBehind_72 (by decide) (nI_le (by omega) (by omega)) ?_
            refine b_aload_n dX10_fewestBehind_99 rfl ?_
            refine g_get dX10_fewestBehind_100 fX10_15 a45 rfl ?_
            refine b_iload_n dX10_fewestBehind_103 rfl ?_
            refine b_aload_n dX10_fewestBehind_104 rfl ?_
            refine g_geti (x := nI k) dX10_fewestBehind_105 fX10_18 a45 rfl hTs.1 ?_
            refine b_bipush (v := nI 7) dX10_fewestBehind_108 (by decide) ?_
            refine b_ishl dX10_fewestBehind_110 ?_
            refine b_iload dX10_fewestBehind_111 rfl ?_
            refine b_ior dX10_fewestBehind_113 ?_
            refine g_iast dX10_fewestBehind_114 a46 rfl (by omega) ?_
            refine b_iload dX10_fewestBehind_115 rfl ?_
            refine b_iret dX10_fewestBehind_117 ⟨by rw [hE, hx, show i = F by omega], _, rfl, fun c hc => by rw [pt_r hc]; exact hs c hc, ?_⟩
            rw [tr_or hk2 (by omega)]
            obtain ⟨g1, g2, g3⟩ := hTs
            refine ⟨by rw [pt_a (by omega)]; exact g1, g2, fun so' hso' => ?_⟩
            rw [pt_r (show (23 : Nat) ≠ 46 by omega), pt_r (show (20 : Nat) ≠ 46 by omega)]
            by_cases hss : so' = so
            · subst hss
              refine ⟨k, x, Nat.le_refl k, by omega, pt_s _ _ _ _, fun _ => ?_⟩
              rw [hs 23 (by omega), hs 20 (by omega), ← hq, he, show 8 - e = n + 1 by omega, hE, hx, show i = F by omega]
            · rw [pt_j hss]
              exact g3 so' hso'
          | succ m ihm =>
            intro i x s hi hx hs hTs
            have hx1 := mTrM_le (mTr (σ 23) (σ 20 5) F n) (σ 23) q i
            have g23 : s 23 = σ 23 := hs 23 (by omega)
            have g20 : s 20 = σ 20 := hs 20 (by omega)
            refine b_iload dX10_fewestBehind_66 rfl ?_
            refine b_aload_n dX10_fewestBehind_68 rfl ?_
            refine g_geti (x := nI F) dX10_fewestBehind_69 fX10_26 a20 rfl (by rw [hs 20 (by omega)]; exact hF) ?_
            refine b_icmp_ge_f 99 dX10_fewestBehind_72 (by decide) (nI_ge (by omega) (by omega)) ?_
            refine b_iload dX10_fewestBehind_75 rfl ?_
            refine b_aload_n dX10_fewestBehind_77 rfl ?_
            refine b_aload_n dX10_fewestBehind_78 rfl ?_
            refine b_iload_n dX10_fewestBehind_79 rfl ?_
            refine b_iload dX10_fewestBehind_80 rfl ?_
            refine b_iload_n dX10_fewestBehind_82 rfl ?_
            refine b_iload dX10_fewestBehind_83 rfl ?_
            have hB := c_fewestBy (d := d) (f := i) (q := q) ih (by omega) hso he.symm (by omega) hTs (LV_of hL (fun y => congrFun g20 y)) (by rw [g23]; exact hq)
            rw [g23, g20] at hB
            refine g_callVp [.ref (G.b0 + 20), .int q, .int (nI i), .int (nI so), .int (nI e)] dX10_fewestBehind_85 kX10_fewestBy lX10_31 a45 rfl rfl hB rfl rfl (Nat.le_of_ble_eq_true rfl) ?_
            rintro r h9 ⟨rfl, s1, rfl, hs1, hT1⟩
            have hb1 : mTrB (mTr (σ 23) (σ 20 5) F n) (σ 23) q i ≤ 100 := by unfold mTrB; split <;> omega
            refine b_mmin dX10_fewestBehind_88 lX10_39 (Nat.le_of_ble_eq_true rfl) ?_
            rw [mMin_nI (by omega) (by omega)]
            refine b_istore dX10_fewestBehind_91 (by decide) rfl ?_
            refine b_iinc dX10_fewestBehind_93 rfl (nI_1 _) (by decide) rfl ?_
            refine b_goto 66 dX10_fewestBehind_96 (by decide) ?_
            exact ihm (i + 1) _ s1 (by omega) (by rw [mTrM, hx]) (fun c hc => (hs1 c hc).trans (hs c hc)) hT1
        exact lp F 0 100 σ (by omega) rfl (fun c _ => rfl) hT
      · skip
        refine b_aload_n dX10_fewestBehind_49 rfl ?_
        refine g_get dX10_fewestBehind_50 fX10_15 a45 rfl ?_
        refine b_iload_n dX10_fewestBehind_53 rfl ?_
        refine g_iald dX10_fewestBehind_54 a46 rfl (by omega) ?_
        refine b_bipush (v := nI 127) dX10_fewestBehind_55 (by decide) ?_
        refine b_iand dX10_fewestBehind_57 ?_
        rw [h46]
        rw [tr_and hb]
        have e9 : j = k := by rw [nI_eq (by omega) (by omega)] at c3; exact c3
        exact b_iret dX10_fewestBehind_58 ⟨by rw [hjk e9, he, ← hq, show 8 - e = n + 1 by omega], σ, rfl, fun c _ => rfl, hT⟩
    · skip
      refine b_iconst (v := nI 0) dX10_fewestBehind_8 (by decide) ?_
      have c2 : mKn (σ 20 5) q = true := (bI_1 _).mp c1
      exact b_iret dX10_fewestBehind_9 ⟨by simp only [mTr, c2]; rfl, σ, rfl, fun c _ => rfl, hT⟩
/-- between trials -/
def TI (σ : ST) (k : Nat) : Prop := σ 45 1 = nI k ∧ ∀ so, so < 6561 → ∃ j b, j ≤ k ∧ b < 128 ∧ σ 46 so = nI (128 * j + b)
theorem TrOk.ti {σ : ST} {k F : Nat} {q0 : Int32} (h : TrOk σ k F q0) : TI σ k := ⟨h.1, fun so hso => by obtain ⟨j, b, h1, h2, h3, -⟩ := h.2.2 so hso; exact ⟨j, b, h1, h2, h3⟩⟩
def kT (c : Nat) : Prop := c = 45 ∨ c = 46
def mNev (n : Nat) : Int32 := if n < 100 then nI n else -1
theorem c_fewestFacts {G : GT} {d : Nat} {σ : ST} {μ : SL} {W F P k : Nat} {q : Int32} (hL : LV σ 20 W F P) (hT : TI σ k) (hk : k + 1 < 2 ^ 20) : Fn G (d + 18) mX10_fewestFacts [.ref (G.b0 + 45), .ref (G.b0 + 20), .int q] (sh G σ μ) (fun r h' => r = some (.int (mNev (mTr (σ 23) (σ 20 5) F 8 q))) ∧ ∃ s : ST, h' = sh G s μ ∧ (∀ c, ¬ kT c → s c = σ c) ∧ TrOk s (k + 1) F q) := by
  refine fn_of (ls := [some (.ref (G.b0 + 45)), some (.ref (G.b0 + 20)), some (.int q), none]) (by decide +kernel) (Nat.le_of_ble_eq_true rfl) 1 rfl ?_
  refine b_aload_n dX10_fewestFacts_0 rfl ?_
  refine b_dup dX10_fewestFacts_1 rfl ?_
  refine g_geti (x := nI k) dX10_fewestFacts_2 fX10_18 a45 rfl hT.1 ?_
  refine b_iconst (v := nI 1) dX10_fewestFacts_5 (by decide) ?_
  refine b_iaddN dX10_fewestFacts_6 ?_
  refine g_put dX10_fewestFacts_7 wX10_18 a45 tfX10_1 (Nat.le_of_ble_eq_true rfl) rfl ?_
  refine b_aload_n dX10_fewestFacts_10 rfl ?_
  refine b_aload_n dX10_fewestFacts_11 rfl ?_
  refine b_iload_n dX10_fewestFacts_12 rfl ?_
  refine b_iconst (v := nI 0) dX10_fewestFacts_13 (by decide) ?_
  refine b_iconst (v := nI 0) dX10_fewestFacts_14 (by decide) ?_
  have hO : TrOk (pt σ 45 1 (nI (k + 1))) (k + 1) F q := by
    refine ⟨pt_s _ _ _ _, hk, fun so hso => ?_⟩
    obtain ⟨j, b, h1, h2, h3⟩ := hT.2 so hso
    exact ⟨j, b, by omega, h2, by rw [pt_a (by omega)]; exact h3, fun z => by omega⟩
  refine g_callVp [.ref (G.b0 + 20), .int q, .int (nI 0), .int (nI 0)] dX10_fewestFacts_15 kX10_fewestBehind lX10_22 a45 rfl rfl (c_fewestBehind 8 (d + 0) (pt σ 45 1 (nI (k + 1))) 0 q (by omega) (by rw [dep_0]) hO (LV_of hL (fun y => pt_a (by omega))) (by rw [trQ_0 _ _ 8 (by omega)])) rfl rfl (Nat.le_of_ble_eq_true rfl) ?_
  rintro r h9 ⟨rfl, s1, rfl, hs1, hT1⟩
  have hm := mTr_le (σ 23) (σ 20 5) F 8 q
  have hfr : ∀ c, ¬ kT c → s1 c = σ c := fun c hc => by
    simp only [kT] at hc
    rw [hs1 c (by omega), pt_r (by omega)]
  rw [pt_r (show (23 : Nat) ≠ 45 by omega), pt_r (show (20 : Nat) ≠ 45 by omega)]
  refine b_istore_n dX10_fewestFacts_18 (by decide) rfl ?_
  refine b_iload_n dX10_fewestFacts_19 rfl ?_
  refine b_bipush (v := nI 100) dX10_fewestFacts_20 (by decide) ?_
  refine b_icmp_lt 29 dX10_fewestFacts_22 (by decide) (fun c1 => ?_) (fun c1 => ?_)
  · skip
    rw [nI_ltI (by omega) (by omega)] at c1
    refine b_iload_n dX10_fewestFacts_29 rfl ?_
    exact b_iret dX10_fewestFacts_30 ⟨by rw [mNev, if_pos c1], s1, rfl, hfr, hT1⟩
  · skip
    rw [nI_ltI (by omega) (by omega)] at c1
    refine b_iconst (v := -1) dX10_fewestFacts_25 (by decide) ?_
    refine b_goto 30 dX10_fewestFacts_26 (by decide) ?_
    exact b_iret dX10_fewestFacts_30 ⟨by rw [mNev, if_neg c1], s1, rfl, hfr, hT1⟩
def mFirst (c : Nat → Bool) : Nat → Nat → Int32
  | 0, _ => -1
  | k + 1, i => if c i then nI i else mFirst c k (i + 1)
def PTr0 (G : GT) (μ : SL) (σ : ST) (k F : Nat) (q0 : Int32) (v : Int32) : Option Value → HT → Prop := fun r h' => r = some (.int v) ∧ ∃ σ' : ST, h' = sh G σ' μ ∧ (∀ c, c ≠ 46 → σ' c = σ c) ∧ TrOk σ' k F q0
theorem c_firstFact {G : GT} {d : Nat} {σ : ST} {μ : SL} {W F P k x : Nat} {q : Int32} (hL : LV σ 20 W F P) (hT : TrOk σ k F q) (hx9 : x < 100) : Fn G (d + 17) mX10_firstFact [.ref (G.b0 + 45), .ref (G.b0 + 20), .int q, .int (nI x)] (sh G σ μ) (PTr0 G μ σ k F q (mFirst (fun f => decide (mTrB (mTr (σ 23) (σ 20 5) F 7) (σ 23) q f = x)) F 0)) := by
  obtain ⟨hW, hF, hP, hW16, hF8, hP6⟩ := id hL
  refine fn_of (ls := [some (.ref (G.b0 + 45)), some (.ref (G.b0 + 20)), some (.int q), some (.int (nI x)), none]) (by decide +kernel) (Nat.le_of_ble_eq_true rfl) 1 rfl ?_
  refine b_iconst (v := nI 0) dX10_firstFact_0 (by decide) ?_
  refine b_istore dX10_firstFact_1 (by decide) rfl ?_
  have lp : ∀ (m i : Nat) (s : ST), i + m = F → (∀ c, c ≠ 46 → s c = σ c) → TrOk s k F q → mFirst (fun f => decide (mTrB (mTr (σ 23) (σ 20 5) F 7) (σ 23) q f = x)) m i = mFirst (fun f => decide (mTrB (mTr (σ 23) (σ 20 5) F 7) (σ 23) q f = x)) F 0 → BB G RX10 cX10_firstFact 5 (some .int) (d + 17) (QM G (PTr0 G μ σ k F q (mFirst (fun f => decide (mTrB (mTr (σ 23) (σ 20 5) F 7) (σ 23) q f = x)) F 0))) 3 [some (.ref (G.b0 + 45)), some (.ref (G.b0 + 20)), some (.int q), some (.int (nI x)), some (.int (nI i))] [] (sh G s μ) := by
    intro m
    induction m with
    | zero =>
      intro i s hi hs hTs he
      refine b_iload dX10_firstFact_3 rfl ?_
      refine b_aload_n dX10_firstFact_5 rfl ?_
      refine g_geti (x := nI F) dX10_firstFact_6 fX10_26 a20 rfl (by rw [hs 20 (by omega)]; exact hF) ?_
      refine b_icmp_ge_t 35 dX10_firstFact_9 (by decide) (nI_le (by omega) (by omega)) ?_
      refine b_iconst (v := -1) dX10_firstFact_35 (by decide) ?_
      exact b_iret dX10_firstFact_36 ⟨by rw [← he]; rfl, s, rfl, hs, hTs⟩
    | succ m ihm =>
      intro i s hi hs hTs he
      have g23 : s 23 = σ 23 := hs 23 (by omega)
      have g20 : s 20 = σ 20 := hs 20 (by omega)
      refine b_iload dX10_firstFact_3 rfl ?_
      refine b_aload_n dX10_firstFact_5 rfl ?_
      refine g_geti (x := nI F) dX10_firstFact_6 fX10_26 a20 rfl (by rw [hs 20 (by omega)]; exact hF) ?_
      refine b_icmp_ge_f 35 dX10_firstFact_9 (by decide) (nI_ge (by omega) (by omega)) ?_
      refine b_aload_n dX10_firstFact_12 rfl ?_
      refine b_aload_n dX10_firstFact_13 rfl ?_
      refine b_iload_n dX10_firstFact_14 rfl ?_
      refine b_iload dX10_firstFact_15 rfl ?_
      refine b_iconst (v := nI 0) dX10_firstFact_17 (by decide) ?_
      refine b_iconst (v := nI 0) dX10_firstFact_18 (by decide) ?_
      have hB := c_fewestBy (G := G) (μ := μ) (d := d) (f := i) (so := 0) (e := 0) (c_fewestBehind 7) (by omega) (by omega) dep_0.symm (by rw [dep_0]) hTs (LV_of hL (fun y => congrFun g20 y)) (q := q) (by rw [trQ_0 _ _ 8 (by omega)])
      rw [g23, g20, show d + 2 * 7 + 1 + 1 = d + 16 by omega] at hB
      refine g_callVp [.ref (G.b0 + 20), .int q, .int (nI i), .int (nI 0), .int (nI 0)] dX10_firstFact_19 kX10_fewestBy lX10_31 a45 rfl rfl hB rfl rfl (Nat.le_of_ble_eq_true rfl) ?_
      rintro r h9 ⟨rfl, s1, rfl, hs1, hT1⟩
      have hb1 : mTrB (mTr (σ 23) (σ 20 5) F 7) (σ 23) q i ≤ 100 := by unfold mTrB; split <;> omega
      refine b_iload_n dX10_firstFact_22 rfl ?_
      refine b_icmp_ne 29 dX10_firstFact_23 (by decide) (fun c1 => ?_) (fun c1 => ?_)
      · skip
        have c2 : ¬ mTrB (mTr (σ 23) (σ 20 5) F 7) (σ 23) q i = x := fun z => c1 (by rw [z])
        refine b_iinc dX10_firstFact_29 rfl (nI_1 _) (by decide) rfl ?_
        refine b_goto 3 dX10_firstFact_32 (by decide) ?_
        rw [mFirst, if_neg (by simpa using c2)] at he
        exact ihm (i + 1) s1 (by omega) (fun c hc => (hs1 c hc).trans (hs c hc)) hT1 he
      · skip
        have c2 : mTrB (mTr (σ 23) (σ 20 5) F 7) (σ 23) q i = x := by rw [nI_eq (by omega) (by omega)] at c1; exact c1
        refine b_iload dX10_firstFact_26 rfl ?_
        rw [mFirst, if_pos (by simpa using c2)] at he
        exact b_iret dX10_firstFact_28 ⟨by rw [← he], s1, rfl, fun c hc => (hs1 c hc).trans (hs c hc), hT1⟩
  exact lp F 0 σ (by omega) (fun c _ => rfl) hT rfl
def oTrial (L : LD) (p what : Int32) : Int32 := if inR p L.P && inR what 2 then (if L.W = 0 then -5 else if ix what = 0 then mNev (mTr L.hold L.gl L.F 8 (poss L (ix p) L.t)) else if mTr L.hold L.gl L.F 8 (poss L (ix p) L.t) < 100 then (if mTr L.hold L.gl L.F 8 (poss L (ix p) L.t) = 0 then -1 else mFirst (fun f => decide (mTrB (mTr L.hold L.gl L.F 7) L.hold (poss L (ix p) L.t) f = mTr L.hold L.gl L.F 8 (poss L (ix p) L.t))) L.F 0) else -1) else -2
theorem inR_up {n : Int32} {k : Nat} (hk : k + 1 < 2 ^ 31) (h1 : ¬ n < 0) (h2 : n ≤ nI k) : ∃ j, j < k + 1 ∧ n = nI j ∧ inR n (k + 1) = true := by
  obtain ⟨j, h3, h4, h5⟩ := inR_le hk h1 h2
  exact ⟨j, by omega, h4, h5⟩
theorem c_X_trial {G : GT} {d : Nat} {σ : ST} {μ : SL} {W F P t k : Nat} {p x : Int32} (hX : XV σ W F P t) (hT : TI σ k) (hk : k + 1 < 2 ^ 20) : Fn G (d + 19) mX11_trial [.ref (G.b0 + 0), .int p, .int x] (sh G σ μ) (fun r h' => r = some (.int (oTrial (vX σ W F P t) p x)) ∧ ∃ s : ST, h' = sh G s μ ∧ (∀ c, ¬ kT c → s c = σ c) ∧ ∃ k', k' ≤ k + 1 ∧ TI s k') := by
  have ht := hX.t32
  obtain ⟨⟨hW, hF, hP, hW16, hF8, hP6⟩, -⟩ := id hX
  refine fn_of (ls := [some (.ref (G.b0 + 0)), some (.int p), some (.int x), none, none]) (by decide +kernel) (Nat.le_of_ble_eq_true rfl) 2 rfl ?_
  refine b_aload_n dX11_trial_0 rfl ?_
  refine b_iload_n dX11_trial_1 rfl ?_
  refine g_callV [.int p] dX11_trial_2 kX11_isPerson lX11_136 a0 rfl rfl (c_isPerson hP) rfl rfl (Nat.le_of_ble_eq_true rfl) ?_
  refine b_if_eq 17 dX11_trial_5 (by decide) (fun c1 => ?_) (fun c1 => ?_)
  · skip
    refine b_bipush (v := -2) dX11_trial_17 (by decide) ?_
    exact b_iret dX11_trial_19 ⟨by simp [oTrial, (bI_0 _).mp c1], σ, rfl, fun c _ => rfl, k, by omega, hT⟩
  · skip
    have c2 := (bI_1 _).mp c1
    obtain ⟨j, hj, rfl⟩ := inR_of (by omega) c2
    have hix := ix_nI (show j < 2 ^ 31 by omega)
    refine b_iload_n dX11_trial_8 rfl ?_
    refine b_if_lt 17 dX11_trial_9 (by decide) (fun c3 => ?_) (fun c3 => ?_)
    · skip
      refine b_bipush (v := -2) dX11_trial_17 (by decide) ?_
      exact b_iret dX11_trial_19 ⟨by simp [oTrial, inR_neg c3], σ, rfl, fun c _ => rfl, k, by omega, hT⟩
    · skip
      refine b_iload_n dX11_trial_12 rfl ?_
      refine b_iconst (v := nI 1) dX11_trial_13 (by decide) ?_
      refine b_icmp_le 20 dX11_trial_14 (by decide) (fun c4 => ?_) (fun c4 => ?_)
      · skip
        obtain ⟨v, hv, rfl, c5⟩ := inR_up (k := 1) (by omega) c3 c4
        have hvx := ix_nI (show v < 2 ^ 31 by omega)
        refine b_aload_n dX11_trial_20 rfl ?_
        refine g_get dX11_trial_21 fX11_23 a0 rfl ?_
        refine g_geti (x := nI W) dX11_trial_24 fX11_165 a20 rfl hW ?_
        refine b_if_ne 33 dX11_trial_27 (by decide) (fun c6 => ?_) (fun c6 => ?_)
        · skip
          have h0 : ¬ W = 0 := fun z => c6 (by rw [z]; rfl)
          refine b_aload_n dX11_trial_33 rfl ?_
          refine b_iload_n dX11_trial_34 rfl ?_
          refine g_callV [.int (nI j)] dX11_trial_35 kX11_possibleTo lX11_139 a0 rfl rfl (c_possibleTo hX (by omega)) rfl rfl (Nat.le_of_ble_eq_true rfl) ?_
          refine b_istore_n dX11_trial_38 (by decide) rfl ?_
          refine b_aload_n dX11_trial_39 rfl ?_
          refine g_get dX11_trial_40 fX11_61 a0 rfl ?_
          refine b_aload_n dX11_trial_43 rfl ?_
          refine g_get dX11_trial_44 fX11_23 a0 rfl ?_
          refine b_iload_n dX11_trial_47 rfl ?_
          generalize hq : poss (vX σ W F P t) j t = q
          refine g_callVp [.ref (G.b0 + 20), .int q] dX11_trial_48 kX10_fewestFacts lX11_282 a45 rfl rfl (c_fewestFacts (d := d) hX.1 hT hk) rfl rfl (Nat.le_of_ble_eq_true rfl) ?_
          rintro r h9 ⟨rfl, s1, rfl, hs1, hT1⟩
          have hle := mTr_le (σ 23) (σ 20 5) F 8 q
          refine b_istore dX11_trial_51 (by decide) rfl ?_
          refine b_iload dX11_trial_53 rfl ?_
          refine b_iconst (v := -1) dX11_trial_55 (by decide) ?_
          by_cases h1 : mTr (σ 23) (σ 20 5) F 8 q < 100
          · rw [mNev, if_pos h1]
            generalize hz : mTr (σ 23) (σ 20 5) F 8 q = z at h1
            refine b_icmp_eq_f 63 dX11_trial_56 (by decide) (nI_m1 (by omega)) ?_
            refine b_iload_n dX11_trial_59 rfl ?_
            refine b_if_ne 66 dX11_trial_60 (by decide) (fun c7 => ?_) (fun c7 => ?_)
            · skip
              have hv0 : ¬ v = 0 := fun y => c7 (by rw [y]; rfl)
              refine b_iload dX11_trial_66 rfl ?_
              refine b_if_ne 75 dX11_trial_68 (by decide) (fun c8 => ?_) (fun c8 => ?_)
              · skip
                have hz0 : ¬ z = 0 := fun y => c8 (by rw [y]; rfl)
                refine b_aload_n dX11_trial_75 rfl ?_
                refine g_get dX11_trial_76 fX11_61 a0 rfl ?_
                refine b_aload_n dX11_trial_79 rfl ?_
                refine g_get dX11_trial_80 fX11_23 a0 rfl ?_
                refine b_iload_n dX11_trial_83 rfl ?_
                refine b_iload dX11_trial_84 rfl ?_
                refine g_callVp [.ref (G.b0 + 20), .int q, .int (nI z)] dX11_trial_86 kX10_firstFact lX11_285 a45 rfl rfl (c_firstFact (d := d + 1) (LV_of hX.1 (fun y => congrFun (hs1 20 (by unfold kT; omega)) y)) hT1 h1) rfl rfl (Nat.le_of_ble_eq_true rfl) ?_
                rintro r h9 ⟨rfl, s2, rfl, hs2, hT2⟩
                refine b_iret dX11_trial_89 ⟨?_, s2, rfl, fun c hc => (hs2 c (by simp only [kT] at hc; omega)).trans (hs1 c hc), k + 1, Nat.le_refl _, hT2.ti⟩
                rw [hs1 23 (by unfold kT; omega), hs1 20 (by unfold kT; omega)]
                simp only [oTrial, c2, c5, hix, hvx, hv0, h0, hq, hz, h1, hz0, Bool.and_self, if_true, if_false]
              · skip
                have hz0 : z = 0 := by rw [← nI_0, nI_eq (by omega) (by omega)] at c8; exact c8
                refine b_iconst (v := -1) dX11_trial_71 (by decide) ?_
                refine b_goto 89 dX11_trial_72 (by decide) ?_
                exact b_iret dX11_trial_89 ⟨by simp only [oTrial, c2, c5, hix, hvx, hv0, h0, hq, hz, hz0, Bool.and_self, if_true, if_false, ite_self], s1, rfl, hs1, k + 1, Nat.le_refl _, hT1.ti⟩
            · skip
              have hv0 : v = 0 := by rw [← nI_0, nI_eq (by omega) (by omega)] at c7; exact c7
              refine b_iload dX11_trial_63 rfl ?_
              exact b_iret dX11_trial_65 ⟨by subst hv0; simp only [oTrial, c2, c5, hix, hvx, h0, hq, hz, h1, mNev, Bool.and_self, if_true, if_false], s1, rfl, hs1, k + 1, Nat.le_refl _, hT1.ti⟩
          · skip
            rw [mNev, if_neg h1]
            refine b_icmp_eq_t 63 dX11_trial_56 (by decide) rfl ?_
            refine b_iload dX11_trial_63 rfl ?_
            exact b_iret dX11_trial_65 ⟨by simp only [oTrial, c2, c5, hix, hvx, h0, hq, h1, mNev, Bool.and_self, if_true, if_false, ite_self], s1, rfl, hs1, k + 1, Nat.le_refl _, hT1.ti⟩
        · skip
          have h0 : W = 0 := by rw [← nI_0, nI_eq (by omega) (by omega)] at c6; exact c6
          refine b_bipush (v := -5) dX11_trial_30 (by decide) ?_
          exact b_iret dX11_trial_32 ⟨by simp only [oTrial, c2, c5, h0, Bool.and_self, if_true], σ, rfl, fun c _ => rfl, k, by omega, hT⟩
      · skip
        refine b_bipush (v := -2) dX11_trial_17 (by decide) ?_
        exact b_iret dX11_trial_19 ⟨by simp [oTrial, inR_gt (k := 1) (by omega) c4], σ, rfl, fun c _ => rfl, k, by omega, hT⟩

