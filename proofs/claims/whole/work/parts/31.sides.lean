/-! ===== amounts are small ===== -/
def WtOk (wt : Nat → Int32) (W : Nat) : Prop := ∀ w, w < W → ∃ k : Nat, k ≤ 9 ∧ wt w = nI k
theorem mWt_ok {wt : Nat → Int32} {s : Int32} : ∀ n, WtOk wt n → ∃ k : Nat, k ≤ 9 * n ∧ mWt wt s n = nI k
  | 0, _ => ⟨0, by omega, rfl⟩
  | n + 1, h => by
    obtain ⟨k, hk, e⟩ := mWt_ok (wt := wt) (s := s) n (fun w hw => h w (by omega))
    obtain ⟨j, hj, e2⟩ := h n (by omega)
    unfold mWt
    split
    · exact ⟨k + j, by omega, by rw [e, e2, nI_add]⟩
    · exact ⟨k, by omega, e⟩
theorem cnt_lo {x : Int32} {k : Nat} (h : lo k x) : ∀ n, k + n ≤ 32 → cnt x (k + n) = cnt x k
  | 0, _ => rfl
  | n + 1, hn => by
    rw [← Nat.add_assoc, cnt, cnt_lo h n (by omega), h (k + n) (by omega) (by omega)]
    rfl
theorem mAmt_ok {hold wt : Nat → Int32} {gl : Int32} {W F : Nat} (m : Nat) (q : Int32) (hw : WtOk wt W) (hW : W ≤ 16) (hF : F ≤ 8) : ∃ k : Nat, k ≤ 200 ∧ mAmt hold wt gl W F m q = nI k := by
  unfold mAmt
  have c1 := cnt_le q 16
  have c2 := cnt_le (q &&& gl) 16
  have c3 := cnt_le (q &&& (gl ^^^ (-1))) 16
  split
  · exact ⟨_, by omega, rfl⟩
  · split
    · rw [mMin_nI (by omega) (by omega)]
      exact ⟨_, by omega, rfl⟩
    · split
      · obtain ⟨k, hk, e⟩ := mWt_ok (s := q) W hw
        exact ⟨k, by omega, e⟩
      · have h1 : cnt (mKnown hold q F) 16 ≤ F := by
          have e := cnt_lo (lo_known hold q F (by omega)) (16 - F) (by omega)
          rw [show F + (16 - F) = 16 by omega] at e
          rw [e]
          exact cnt_le _ _
        rw [nI_sub h1]
        exact ⟨_, by omega, rfl⟩
theorem mLst_w {amt : Nat → Int32} : ∀ n, (∀ p, p < n + 1 → ∃ k : Nat, k ≤ 200 ∧ amt p = nI k) → ∃ w, w ≤ n ∧ mLst amt (n + 1) = (nI w, amt w)
  | 0, h => by
    obtain ⟨k, hk, e⟩ := h 0 (by omega)
    refine ⟨0, by omega, ?_⟩
    have h1 : ¬ amt 0 ≤ -1 := by
      rw [e]
      exact Int32.not_le.mpr (Int32.lt_of_lt_of_le (by decide) (nI_pos' (by omega)))
    rw [mLst]
    simp only [mLst, h1, if_false]
  | n + 1, h => by
    obtain ⟨w, hw, e⟩ := mLst_w n (fun p hp => h p (by omega))
    rw [mLst]
    split
    · exact ⟨w, by omega, e⟩
    · exact ⟨n + 1, by omega, rfl⟩
/-! ===== Parties ===== -/
def chT (told : Nat → Int32) (F i : Nat) : Nat → Int32 := if i = 0 then told else fun p => if p = (i - 1) / F then told p ||| (nI 1 <<< (nI ((i - 1) % F) &&& 31)) else told p
def chS (σ : ST) (F i : Nat) : ST := if i = 0 then σ else pt σ 43 ((i - 1) / F) (σ 43 ((i - 1) / F) ||| (nI 1 <<< (nI ((i - 1) % F) &&& 31)))
theorem chS_43 (σ : ST) (F i : Nat) : chS σ F i 43 = chT (σ 43) F i := by
  unfold chS chT
  split
  · rfl
  · funext p
    by_cases h : p = (i - 1) / F
    · subst h; simp [pt]
    · simp [pt, h]
theorem chS_fr {σ : ST} {F i c : Nat} (h : c ≠ 43) : chS σ F i c = σ c := by
  unfold chS
  split
  · rfl
  · exact pt_r h
theorem or_rc (x a b : Int32) : x ||| a ||| b = x ||| b ||| a := by
  apply b_ext
  intro i hi
  simp only [b_or]
  cases bt x i <;> cases bt a i <;> cases bt b i <;> rfl
theorem chT_comm (told : Nat → Int32) (F i j : Nat) : chT (chT told F i) F j = chT (chT told F j) F i := by
  unfold chT
  by_cases hi : i = 0
  · simp [hi]
  · by_cases hj : j = 0
    · simp [hj]
    · simp only [hi, hj, if_false]
      funext p
      by_cases h1 : p = (i - 1) / F
      · by_cases h2 : p = (j - 1) / F
        · simp only [← h1, ← h2, if_true]
          exact or_rc _ _ _
        · simp only [← h1, h2, if_true, if_false]
      · by_cases h2 : p = (j - 1) / F
        · simp only [h1, ← h2, if_true, if_false]
        · simp only [h1, h2, if_false]
theorem chT_cg {x y : Nat → Int32} {F i q : Nat} (h : x q = y q) : chT x F i q = chT y F i q := by
  unfold chT
  split
  · exact h
  · by_cases h1 : q = (i - 1) / F
    · subst h1; simp [h]
    · simp [h1, h]
theorem chT_lo {x : Nat → Int32} {F i q : Nat} (hF : F ≤ 8) (h0 : 0 < i → 0 < F) (h : lo F (x q)) : lo F (chT x F i q) := by
  unfold chT
  split
  · exact h
  · have h1 := h0 (by omega)
    show lo F (if q = (i - 1) / F then x q ||| (nI 1 <<< (nI ((i - 1) % F) &&& 31)) else x q)
    by_cases h2 : q = (i - 1) / F
    · rw [if_pos h2]
      exact lo_or h (lo_bit (Nat.mod_lt _ h1) (by omega))
    · rw [if_neg h2]
      exact h
theorem c_choose {G : GT} {d : Nat} {σ : ST} {μ : SL} {F i : Nat} (hF : σ 40 5 = nI F) (hF8 : F ≤ 8) (hi : i < 2 ^ 31) (h0 : 0 < i → 0 < F ∧ (i - 1) / F < 6) : Fn G d mX3_choose [.ref (G.b0 + 40), .int (nI i)] (sh G σ μ) (Ret (some (.int (if i = 0 then nI 0 else σ 43 ((i - 1) / F)))) (sh G (chS σ F i) μ)) := by
  refine fn_of (ls := [some (.ref (G.b0 + 40)), some (.int (nI i)), none, none]) (by decide +kernel) (Nat.le_of_ble_eq_true rfl) 2 rfl ?_
  refine b_iload_n dX3_choose_0 rfl ?_
  refine b_if_le 11 dX3_choose_1 (by decide) (fun c1 => ?_) (fun c1 => ?_)
  · skip
    have h1 : i = 0 := by
      rw [← nI_0, nI_leI (by omega) (by omega)] at c1
      omega
    refine b_iconst (v := nI 0) dX3_choose_11 (by decide) ?_
    exact b_iret dX3_choose_12 ⟨by simp [h1], by simp [chS, h1]⟩
  · skip
    have h1 : 0 < i := by
      rw [← nI_0, nI_leI (by omega) (by omega)] at c1
      omega
    obtain ⟨g1, g2⟩ := h0 h1
    have g3 := Nat.mod_lt (i - 1) g1
    refine b_aload_n dX3_choose_4 rfl ?_
    refine g_geti (x := nI F) dX3_choose_5 fX3_31 a40 rfl hF ?_
    refine b_if_gt_t 13 dX3_choose_8 (by decide) (by rw [← nI_0]; exact nI_lt g1 (by omega)) ?_
    refine b_iload_n dX3_choose_13 rfl ?_
    refine b_iconst (v := nI 1) dX3_choose_14 (by decide) ?_
    refine b_isub dX3_choose_15 ?_
    refine b_top (y := nI (i - 1)) (nI_sub (by omega)) ?_
    refine b_aload_n dX3_choose_16 rfl ?_
    refine g_geti (x := nI F) dX3_choose_17 fX3_31 a40 rfl hF ?_
    refine b_idiv dX3_choose_20 (nI_ne0 (by omega) (by omega)) ?_
    refine b_top (y := nI ((i - 1) / F)) (pk_div (by omega) (by omega) (by omega)) ?_
    refine b_istore_n dX3_choose_21 (by decide) rfl ?_
    refine b_aload_n dX3_choose_22 rfl ?_
    refine g_get dX3_choose_23 fX3_18 a40 rfl ?_
    refine b_iload_n dX3_choose_26 rfl ?_
    refine g_iald dX3_choose_27 a43 rfl (by omega) ?_
    refine b_istore_n dX3_choose_28 (by decide) rfl ?_
    refine b_aload_n dX3_choose_29 rfl ?_
    refine g_get dX3_choose_30 fX3_18 a40 rfl ?_
    refine b_iload_n dX3_choose_33 rfl ?_
    refine b_dup2 dX3_choose_34 rfl rfl ?_
    refine g_iald dX3_choose_35 a43 rfl (by omega) ?_
    refine b_iconst (v := nI 1) dX3_choose_36 (by decide) ?_
    refine b_iload_n dX3_choose_37 rfl ?_
    refine b_iconst (v := nI 1) dX3_choose_38 (by decide) ?_
    refine b_isub dX3_choose_39 ?_
    refine b_top (y := nI (i - 1)) (nI_sub (by omega)) ?_
    refine b_aload_n dX3_choose_40 rfl ?_
    refine g_geti (x := nI F) dX3_choose_41 fX3_31 a40 rfl hF ?_
    refine b_irem dX3_choose_44 (nI_ne0 (by omega) (by omega)) ?_
    refine b_top (y := nI ((i - 1) % F)) (pk_rem (by omega) (by omega) (by omega)) ?_
    refine b_ishl dX3_choose_45 ?_
    refine b_ior dX3_choose_46 ?_
    refine g_iast dX3_choose_47 a43 rfl (by omega) ?_
    refine b_iload_n dX3_choose_48 rfl ?_
    exact b_iret dX3_choose_49 ⟨by rw [if_neg (by omega)], by rw [chS, if_neg (by omega)]⟩
theorem c_takeBack {G : GT} {d : Nat} {σ : ST} {μ : SL} {F i : Nat} {x : Int32} (hF : σ 40 5 = nI F) (hF8 : F ≤ 8) (hi : i < 2 ^ 31) (h0 : 0 < i → 0 < F ∧ (i - 1) / F < 6) : Fn G d mX3_takeBack [.ref (G.b0 + 40), .int (nI i), .int x] (sh G σ μ) (Ret none (sh G (if i = 0 then σ else pt σ 43 ((i - 1) / F) x) μ)) := by
  refine fn_of (ls := [some (.ref (G.b0 + 40)), some (.int (nI i)), some (.int x)]) (by decide +kernel) (Nat.le_of_ble_eq_true rfl) 0 rfl ?_
  refine b_iload_n dX3_takeBack_0 rfl ?_
  refine b_if_le 25 dX3_takeBack_1 (by decide) (fun c1 => ?_) (fun c1 => ?_)
  · skip
    have h1 : i = 0 := by
      rw [← nI_0, nI_leI (by omega) (by omega)] at c1
      omega
    exact b_vret dX3_takeBack_25 ⟨rfl, by simp [h1]⟩
  · skip
    have h1 : 0 < i := by
      rw [← nI_0, nI_leI (by omega) (by omega)] at c1
      omega
    obtain ⟨g1, g2⟩ := h0 h1
    refine b_aload_n dX3_takeBack_4 rfl ?_
    refine g_geti (x := nI F) dX3_takeBack_5 fX3_31 a40 rfl hF ?_
    refine b_if_le_f 25 dX3_takeBack_8 (by decide) (by rw [← nI_0]; exact nI_nle g1 (by omega)) ?_
    refine b_aload_n dX3_takeBack_11 rfl ?_
    refine g_get dX3_takeBack_12 fX3_18 a40 rfl ?_
    refine b_iload_n dX3_takeBack_15 rfl ?_
    refine b_iconst (v := nI 1) dX3_takeBack_16 (by decide) ?_
    refine b_isub dX3_takeBack_17 ?_
    refine b_top (y := nI (i - 1)) (nI_sub (by omega)) ?_
    refine b_aload_n dX3_takeBack_18 rfl ?_
    refine g_geti (x := nI F) dX3_takeBack_19 fX3_31 a40 rfl hF ?_
    refine b_idiv dX3_takeBack_22 (nI_ne0 (by omega) (by omega)) ?_
    refine b_top (y := nI ((i - 1) / F)) (pk_div (by omega) (by omega) (by omega)) ?_
    refine b_iload_n dX3_takeBack_23 rfl ?_
    refine g_iast dX3_takeBack_24 a43 rfl (by omega) ?_
    exact b_vret dX3_takeBack_25 ⟨rfl, by rw [if_neg (by omega)]⟩
theorem c_mostOf {G : GT} {d : Nat} {σ : ST} {μ : SL} {P : Nat} (hP : 0 < P) (hP6 : P ≤ 6) (h43 : ∀ p, p < P → ∃ n, n < 256 ∧ σ 43 p = nI n) (h41 : ∀ p, p < P → ∃ k, k ≤ 200 ∧ σ 41 (ix (σ 43 p)) = nI k) : Fn G d mX3_mostOf [.ref (G.b0 + 40), .int (nI P)] (sh G σ μ) (Ret (some (.int (mLst (fun p => σ 41 (ix (σ 43 p))) P).1)) (sh G σ μ)) := by
  refine fn_of (ls := [some (.ref (G.b0 + 40)), some (.int (nI P)), none, none]) (by decide +kernel) (Nat.le_of_ble_eq_true rfl) 2 rfl ?_
  refine b_iconst (v := nI 0) dX3_mostOf_0 (by decide) ?_
  refine b_istore_n dX3_mostOf_1 (by decide) rfl ?_
  refine b_iconst (v := nI 1) dX3_mostOf_2 (by decide) ?_
  refine b_istore_n dX3_mostOf_3 (by decide) rfl ?_
  have lp : ∀ (n i w : Nat), i + n = P → w < i → mLst (fun p => σ 41 (ix (σ 43 p))) i = (nI w, σ 41 (ix (σ 43 w))) → BB G RX3 cX3_mostOf 4 (some .int) d (QM G (Ret (some (.int (mLst (fun p => σ 41 (ix (σ 43 p))) P).1)) (sh G σ μ))) 4 [some (.ref (G.b0 + 40)), some (.int (nI P)), some (.int (nI w)), some (.int (nI i))] [] (sh G σ μ) := by
    intro n
    induction n with
    | zero =>
      intro i w hi hw he
      refine b_iload_n dX3_mostOf_4 rfl ?_
      refine b_iload_n dX3_mostOf_5 rfl ?_
      refine b_icmp_ge_t 42 dX3_mostOf_6 (by decide) (nI_le (by omega) (by omega)) ?_
      refine b_iload_n dX3_mostOf_42 rfl ?_
      exact b_iret dX3_mostOf_43 ⟨by rw [show P = i by omega, he], rfl⟩
    | succ n ih =>
      intro i w hi hw he
      obtain ⟨n1, hn1, e1⟩ := h43 i (by omega)
      obtain ⟨n2, hn2, e2⟩ := h43 w (by omega)
      refine b_iload_n dX3_mostOf_4 rfl ?_
      refine b_iload_n dX3_mostOf_5 rfl ?_
      refine b_icmp_ge_f 42 dX3_mostOf_6 (by decide) (nI_ge (by omega) (by omega)) ?_
      refine b_aload_n dX3_mostOf_9 rfl ?_
      refine g_get dX3_mostOf_10 fX3_9 a40 rfl ?_
      refine b_aload_n dX3_mostOf_13 rfl ?_
      refine g_get dX3_mostOf_14 fX3_18 a40 rfl ?_
      refine b_iload_n dX3_mostOf_17 rfl ?_
      refine g_iald dX3_mostOf_18 a43 rfl (by omega) ?_
      refine b_top e1 ?_
      refine g_iald dX3_mostOf_19 a41 rfl (by omega) ?_
      refine b_aload_n dX3_mostOf_20 rfl ?_
      refine g_get dX3_mostOf_21 fX3_9 a40 rfl ?_
      refine b_aload_n dX3_mostOf_24 rfl ?_
      refine g_get dX3_mostOf_25 fX3_18 a40 rfl ?_
      refine b_iload_n dX3_mostOf_28 rfl ?_
      refine g_iald dX3_mostOf_29 a43 rfl (by omega) ?_
      refine b_top e2 ?_
      refine g_iald dX3_mostOf_30 a41 rfl (by omega) ?_
      have hm : mLst (fun p => σ 41 (ix (σ 43 p))) (i + 1) = if σ 41 n1 ≤ σ 41 n2 then (nI w, σ 41 (ix (σ 43 w))) else (nI i, σ 41 (ix (σ 43 i))) := by
        rw [mLst, he, e1, e2, ix_nI (by omega), ix_nI (by omega)]
      refine b_icmp_le 36 dX3_mostOf_31 (by decide) (fun c1 => ?_) (fun c1 => ?_)
      · skip
        refine b_iinc dX3_mostOf_36 rfl (nI_1 _) (by decide) rfl ?_
        refine b_goto 4 dX3_mostOf_39 (by decide) ?_
        exact ih (i + 1) w (by omega) (by omega) (by rw [hm, if_pos c1])
      · skip
        refine b_iload_n dX3_mostOf_34 rfl ?_
        refine b_istore_n dX3_mostOf_35 (by decide) rfl ?_
        refine b_iinc dX3_mostOf_36 rfl (nI_1 _) (by decide) rfl ?_
        refine b_goto 4 dX3_mostOf_39 (by decide) ?_
        exact ih (i + 1) i (by omega) (by omega) (by rw [hm, if_neg c1])
  refine lp (P - 1) 1 0 (by omega) (by omega) ?_
  obtain ⟨k, hk, e⟩ := h41 0 hP
  obtain ⟨w, hw, e2⟩ := mLst_w (amt := fun p => σ 41 (ix (σ 43 p))) 0 (fun p hp => by rw [show p = 0 by omega]; exact ⟨k, hk, e⟩)
  rw [e2, show w = 0 by omega]
theorem ixC {C a b i j : Nat} (hb : b < C) (hj : j < C) (h : a * C + b = i * C + j) : a = i ∧ b = j := by
  have hC : 0 < C := by omega
  have h1 : (a * C + b) / C = a := by rw [Nat.mul_comm, Nat.mul_add_div hC, Nat.div_eq_of_lt hb, Nat.add_zero]
  have h2 : (i * C + j) / C = i := by rw [Nat.mul_comm, Nat.mul_add_div hC, Nat.div_eq_of_lt hj, Nat.add_zero]
  have e : a = i := by rw [← h1, ← h2, h]
  subst e
  exact ⟨rfl, by omega⟩
def ams (L : LD) (m k : Nat) : Int32 := mAmt L.hold L.wt L.gl L.W L.F m (mPoss L.hold L.W (nI k) L.t L.F)
/-- who judges when both have made their choices -/
def jd (L : LD) (m i j : Nat) : Int32 := lst L m (chT (chT L.told L.F i) L.F j) L.t
theorem jd_comm (L : LD) (m i j : Nat) : jd L m i j = jd L m j i := by unfold jd; rw [chT_comm]
theorem most_lst {L : LD} {m : Nat} {amt : Nat → Int32} {tl : Nat → Int32} (hF : L.F ≤ 8) (ht : ∀ p, p < L.P → lo L.F (tl p)) (ha : ∀ k, k < 2 ^ L.F → amt k = ams L m k) : (mLst (fun p => amt (ix (tl p))) L.P).1 = lst L m tl L.t := by
  unfold lst mLeast
  rw [mLst_cg L.P (fun p hp => ?_)]
  obtain ⟨n, hn, e⟩ := lo_nat (by omega) (ht p hp)
  have h256 : 2 ^ L.F ≤ 256 := Nat.pow_le_pow_right (by omega) hF
  rw [e, ix_nI (by omega), ha n hn]
  rfl
def kP (c : Nat) : Prop := 40 ≤ c ∧ c ≤ 44
def chN (F P : Nat) : Nat := 1 + P * F
theorem chN_le {F P : Nat} (hF : F ≤ 8) (hP : P ≤ 6) : chN F P ≤ 49 := by
  unfold chN
  have := Nat.mul_le_mul hP hF
  omega
theorem chN_i {F P i : Nat} (hP : P ≤ 6) (h : i < chN F P) (h0 : 0 < i) : 0 < F ∧ (i - 1) / F < 6 := by
  unfold chN at h
  have hF : 0 < F := by
    rcases Nat.eq_zero_or_pos F with q | q
    · subst q; simp at h; omega
    · exact q
  refine ⟨hF, Nat.lt_of_lt_of_le ((Nat.div_lt_iff_lt_mul hF).mpr (by omega)) hP⟩
theorem ixB {C i j : Nat} (hC : C ≤ 49) (hi : i < C) (hj : j < C) : i * C + j < 2401 := by
  have := Nat.mul_le_mul (show i ≤ 48 by omega) hC
  omega
theorem bk_43 {X s1 : ST} {F j : Nat} (h : X 43 = chT (s1 43) F j) : (if j = 0 then X else pt X 43 ((j - 1) / F) (if j = 0 then nI 0 else s1 43 ((j - 1) / F))) 43 = s1 43 := by
  by_cases hj : j = 0
  · simp only [hj, if_true]
    rw [h]
    simp [chT, hj]
  · simp only [hj, if_false]
    funext q
    by_cases hq : q = (j - 1) / F
    · rw [hq, pt_s]
    · rw [pt_j hq, h]
      simp [chT, hj, hq]
theorem bk_fr {X : ST} {F j c : Nat} {v : Int32} (h : c ≠ 43) : (if j = 0 then X else pt X 43 ((j - 1) / F) v) c = X c := by
  split
  · rfl
  · exact pt_r h
/-- what stands when all was judged -/
def JA (σ s : ST) (L : LD) (m : Nat) : Prop := (∀ c, ¬ kP c → s c = σ c) ∧ s 40 4 = nI (chN L.F L.P) ∧ s 40 5 = nI L.F ∧ ∀ a b, a < chN L.F L.P → b < chN L.F L.P → s 42 (a * chN L.F L.P + b) = jd L m a b
theorem c_judgeAll {G : GT} {d : Nat} {σ : ST} {μ : SL} {W F P t m : Nat} (hX : XV σ W F P t) (hm : m < 4) (hP0 : 0 < P) (hlo : ∀ p, p < P → lo F (σ 27 p)) (hwt : WtOk (σ 22) W) : Fn G (d + 3) mX3_judgeAll [.ref (G.b0 + 40), .ref (G.b0 + 20), .ref (G.b0 + 26), .int (nI m)] (sh G σ μ) (fun r h' => r = none ∧ ∃ s : ST, h' = sh G s μ ∧ JA σ s (vX σ W F P t) m) := by
  have ht := hX.t32
  obtain ⟨⟨hW, hF, hP, hW16, hF8, hP6⟩, hTr, -⟩ := id hX
  have h256 : 2 ^ F ≤ 256 := Nat.pow_le_pow_right (by omega) hF8
  have hC := chN_le hF8 hP6
  refine fn_of (ls := [some (.ref (G.b0 + 40)), some (.ref (G.b0 + 20)), some (.ref (G.b0 + 26)), some (.int (nI m)), none, none, none, none, none]) (by decide +kernel) (Nat.le_of_ble_eq_true rfl) 5 rfl ?_
  refine b_aload_n dX3_judgeAll_0 rfl ?_
  refine b_aload_n dX3_judgeAll_1 rfl ?_
  refine g_geti (x := nI F) dX3_judgeAll_2 fX3_25 a20 rfl hF ?_
  refine g_put dX3_judgeAll_5 wX3_31 a40 tfX3_5 (Nat.le_of_ble_eq_true rfl) rfl ?_
  refine b_aload_n dX3_judgeAll_8 rfl ?_
  refine b_iconst (v := nI 1) dX3_judgeAll_9 (by decide) ?_
  refine b_aload_n dX3_judgeAll_10 rfl ?_
  refine g_geti (x := nI P) dX3_judgeAll_11 fX3_32 a20 rfl hP ?_
  refine b_aload_n dX3_judgeAll_14 rfl ?_
  refine g_geti (x := nI F) dX3_judgeAll_15 fX3_25 a20 rfl hF ?_
  refine b_imulN dX3_judgeAll_18 ?_
  refine b_iaddN dX3_judgeAll_19 ?_
  refine g_put dX3_judgeAll_20 wX3_35 a40 tfX3_4 (Nat.le_of_ble_eq_true rfl) rfl ?_
  refine b_iconst (v := nI 0) dX3_judgeAll_23 (by decide) ?_
  refine b_istore dX3_judgeAll_24 (by decide) rfl ?_
  generalize hC' : chN F P = C at hC
  have e1 : 1 + P * F = C := hC'
  rw [e1]
  have lp1 : ∀ (n i : Nat) (s : ST), i + n = 2 ^ F → (∀ c, ¬ kP c → s c = σ c) → s 40 4 = nI C → s 40 5 = nI F → (∀ k, k < i → s 41 k = ams (vX σ W F P t) m k) → BB G RX3 cX3_judgeAll 9 none (d + 3) (QM G (fun r h' => r = none ∧ ∃ s : ST, h' = sh G s μ ∧ JA σ s (vX σ W F P t) m)) 26 [some (.ref (G.b0 + 40)), some (.ref (G.b0 + 20)), some (.ref (G.b0 + 26)), some (.int (nI m)), some (.int (nI i)), none, none, none, none] [] (sh G s μ) := by
    intro n
    induction n with
    | zero =>
      intro i s hi hs h4 h5 ha
      refine b_iload dX3_judgeAll_26 rfl ?_
      refine b_iconst (v := nI 1) dX3_judgeAll_28 (by decide) ?_
      refine b_aload_n dX3_judgeAll_29 rfl ?_
      refine g_geti (x := nI F) dX3_judgeAll_30 fX3_25 a20 rfl (by rw [hs 20 (by unfold kP; omega)]; exact hF) ?_
      refine b_ishl dX3_judgeAll_33 ?_
      refine b_top (shl_pow (by omega)) ?_
      refine b_icmp_ge_t 65 dX3_judgeAll_34 (by decide) (nI_le (by omega) (by omega)) ?_
      refine b_aload_n dX3_judgeAll_65 rfl ?_
      refine g_get dX3_judgeAll_66 fX3_50 a26 rfl ?_
      refine b_iconst (v := nI 0) dX3_judgeAll_69 (by decide) ?_
      refine b_aload_n dX3_judgeAll_70 rfl ?_
      refine g_get dX3_judgeAll_71 fX3_18 a40 rfl ?_
      refine b_iconst (v := nI 0) dX3_judgeAll_74 (by decide) ?_
      refine b_bipush (v := nI 6) dX3_judgeAll_75 (by decide) ?_
      refine g_copy dX3_judgeAll_77 lX3_51 a27 a43 rfl rfl rfl (by omega) (by omega) (Nat.le_of_ble_eq_true rfl) ?_
      refine b_iconst (v := nI 0) dX3_judgeAll_80 (by decide) ?_
      refine b_istore dX3_judgeAll_81 (by decide) rfl ?_
      have hs0 : ∀ c, ¬ kP c → cpy s 27 0 43 0 6 c = σ c := fun c hc => by
        simp only [kP] at hc
        rw [← hs c (by unfold kP; omega)]
        funext q
        simp [cpy, va_up, show ¬ c = 43 by omega]
      have h43 : ∀ q, q < 6 → cpy s 27 0 43 0 6 43 q = σ 27 q := fun q hq => by
        rw [← hs 27 (by unfold kP; omega)]
        simp [cpy, va_up, va_cpy, hq]
      have hoth : ∀ c, c ≠ 43 → cpy s 27 0 43 0 6 c = s c := fun c hc => by
        funext q
        simp [cpy, va_up, hc]
      have lp2 : ∀ (n i : Nat) (s : ST) (z5 z6 z7 z8 : Option Value), i + n = C → (∀ c, ¬ kP c → s c = σ c) → s 40 4 = nI C → s 40 5 = nI F → (∀ k, k < 2 ^ F → s 41 k = ams (vX σ W F P t) m k) → (∀ q, q < 6 → s 43 q = σ 27 q) → (∀ a b, a < C → b < C → (a < i ∨ b < i) → s 42 (a * C + b) = jd (vX σ W F P t) m a b) → BB G RX3 cX3_judgeAll 9 none (d + 3) (QM G (fun r h' => r = none ∧ ∃ s : ST, h' = sh G s μ ∧ JA σ s (vX σ W F P t) m)) 83 [some (.ref (G.b0 + 40)), some (.ref (G.b0 + 20)), some (.ref (G.b0 + 26)), some (.int (nI m)), some (.int (nI i)), z5, z6, z7, z8] [] (sh G s μ) := by
        intro n
        induction n with
        | zero =>
          intro i s z5 z6 z7 z8 hi hs h4 h5 ha ht' hj
          refine b_iload dX3_judgeAll_83 rfl ?_
          refine b_aload_n dX3_judgeAll_85 rfl ?_
          refine g_geti (x := nI C) dX3_judgeAll_86 fX3_35 a40 rfl h4 ?_
          refine b_icmp_ge_t 193 dX3_judgeAll_89 (by decide) (nI_le (by omega) (by omega)) ?_
          exact b_vret dX3_judgeAll_193 ⟨rfl, s, rfl, hs, by show s 40 4 = nI (chN F P); rw [hC']; exact h4, h5, fun a b h1 h2 => by
            have h1' : a < C := by rw [← hC']; exact h1
            have h2' : b < C := by rw [← hC']; exact h2
            show s 42 (a * chN F P + b) = _
            rw [hC']
            exact hj a b h1' h2' (Or.inl (by omega))⟩
        | succ n ih =>
          intro i s z5 z6 z7 z8 hi hs h4 h5 ha ht' hj
          have hci : 0 < i → 0 < F ∧ (i - 1) / F < 6 := fun h => chN_i hP6 (by rw [hC']; omega) h
          refine b_iload dX3_judgeAll_83 rfl ?_
          refine b_aload_n dX3_judgeAll_85 rfl ?_
          refine g_geti (x := nI C) dX3_judgeAll_86 fX3_35 a40 rfl h4 ?_
          refine b_icmp_ge_f 193 dX3_judgeAll_89 (by decide) (nI_ge (by omega) (by omega)) ?_
          refine b_aload_n dX3_judgeAll_92 rfl ?_
          refine b_iload dX3_judgeAll_93 rfl ?_
          refine g_callV [.int (nI i)] dX3_judgeAll_95 kX3_choose lX3_57 a40 rfl rfl (c_choose h5 hF8 (by omega) hci) rfl rfl (Nat.le_of_ble_eq_true rfl) ?_
          refine b_istore dX3_judgeAll_98 (by decide) rfl ?_
          refine b_iload dX3_judgeAll_100 rfl ?_
          refine b_istore dX3_judgeAll_102 (by decide) rfl ?_
          have lp3 : ∀ (n j : Nat) (s1 : ST) (z7 z8 : Option Value), j + n = C → i ≤ j → (∀ c, ¬ kP c → s1 c = σ c) → s1 40 4 = nI C → s1 40 5 = nI F → (∀ k, k < 2 ^ F → s1 41 k = ams (vX σ W F P t) m k) → (∀ q, q < 6 → s1 43 q = chT (σ 27) F i q) → (∀ a b, a < C → b < C → (a < i ∨ b < i ∨ (a = i ∧ b < j) ∨ (b = i ∧ a < j)) → s1 42 (a * C + b) = jd (vX σ W F P t) m a b) → BB G RX3 cX3_judgeAll 9 none (d + 3) (QM G (fun r h' => r = none ∧ ∃ s : ST, h' = sh G s μ ∧ JA σ s (vX σ W F P t) m)) 104 [some (.ref (G.b0 + 40)), some (.ref (G.b0 + 20)), some (.ref (G.b0 + 26)), some (.int (nI m)), some (.int (nI i)), some (.int (if i = 0 then nI 0 else s 43 ((i - 1) / F))), some (.int (nI j)), z7, z8] [] (sh G s1 μ) := by
            intro n
            induction n with
            | zero =>
              intro j s1 z7 z8 hj1 hij hs1 h41 h51 ha1 ht1 hjj
              refine b_iload dX3_judgeAll_104 rfl ?_
              refine b_aload_n dX3_judgeAll_106 rfl ?_
              refine g_geti (x := nI C) dX3_judgeAll_107 fX3_35 a40 rfl h41 ?_
              refine b_icmp_ge_t 179 dX3_judgeAll_110 (by decide) (nI_le (by omega) (by omega)) ?_
              refine b_aload_n dX3_judgeAll_179 rfl ?_
              refine b_iload dX3_judgeAll_180 rfl ?_
              refine b_iload dX3_judgeAll_182 rfl ?_
              refine g_callV [.int (nI i), .int (if i = 0 then nI 0 else s 43 ((i - 1) / F))] dX3_judgeAll_184 kX3_takeBack lX3_64 a40 rfl rfl (c_takeBack h51 hF8 (by omega) hci) rfl rfl (Nat.le_of_ble_eq_true rfl) ?_
              refine b_iinc dX3_judgeAll_187 rfl (nI_1 _) (by decide) rfl ?_
              refine b_goto 83 dX3_judgeAll_190 (by decide) ?_
              have hb43 : ∀ c, c ≠ 43 → (if i = 0 then s1 else pt s1 43 ((i - 1) / F) (if i = 0 then nI 0 else s 43 ((i - 1) / F))) c = s1 c := fun c hc => by
                split
                · rfl
                · exact pt_r hc
              refine ih (i + 1) _ _ _ _ _ (by omega) (fun c hc => by rw [hb43 c (by simp only [kP] at hc; omega)]; exact hs1 c hc) (by rw [hb43 40 (by omega)]; exact h41) (by rw [hb43 40 (by omega)]; exact h51) (fun k hk => by rw [hb43 41 (by omega)]; exact ha1 k hk) (fun q hq => ?_) (fun a b h1 h2 h3 => by rw [hb43 42 (by omega)]; exact hjj a b h1 h2 (by omega))
              by_cases hi0 : i = 0
              · simp only [hi0, if_true]
                rw [ht1 q hq]
                simp [chT, hi0]
              · simp only [hi0, if_false]
                by_cases hq0 : q = (i - 1) / F
                · rw [hq0, pt_s, ht' _ (hci (by omega)).2]
                · rw [pt_j hq0, ht1 q hq]
                  simp [chT, hi0, hq0]
            | succ n ihj =>
              intro j s1 z7 z8 hj1 hij hs1 h41 h51 ha1 ht1 hjj
              have hcj : 0 < j → 0 < F ∧ (j - 1) / F < 6 := fun h => chN_i hP6 (by rw [hC']; omega) h
              have hB1 := ixB hC (show i < C by omega) (show j < C by omega)
              have hB2 := ixB hC (show j < C by omega) (show i < C by omega)
              refine b_iload dX3_judgeAll_104 rfl ?_
              refine b_aload_n dX3_judgeAll_106 rfl ?_
              refine g_geti (x := nI C) dX3_judgeAll_107 fX3_35 a40 rfl h41 ?_
              refine b_icmp_ge_f 179 dX3_judgeAll_110 (by decide) (nI_ge (by omega) (by omega)) ?_
              refine b_aload_n dX3_judgeAll_113 rfl ?_
              refine b_iload dX3_judgeAll_114 rfl ?_
              refine g_callV [.int (nI j)] dX3_judgeAll_116 kX3_choose lX3_57 a40 rfl rfl (c_choose h51 hF8 (by omega) hcj) rfl rfl (Nat.le_of_ble_eq_true rfl) ?_
              refine b_istore dX3_judgeAll_119 (by decide) rfl ?_
              refine b_aload_n dX3_judgeAll_121 rfl ?_
              refine b_aload_n dX3_judgeAll_122 rfl ?_
              refine g_geti (x := nI P) dX3_judgeAll_123 fX3_32 a20 rfl (by rw [chS_fr (by omega), hs1 20 (by unfold kP; omega)]; exact hP) ?_
              have hjd : (mLst (fun p => chS s1 F j 41 (ix (chS s1 F j 43 p))) P).1 = jd (vX σ W F P t) m i j := by
                rw [chS_43, chS_fr (c := 41) (by omega)]
                have e0 : mLst (fun p => s1 41 (ix (chT (s1 43) F j p))) P = mLst (fun p => s1 41 (ix (chT (chT (σ 27) F i) F j p))) P := mLst_cg P (fun p hp => by rw [chT_cg (ht1 p (by omega))])
                rw [e0]
                exact most_lst (L := vX σ W F P t) (tl := chT (chT (σ 27) F i) F j) hF8 (fun p hp => chT_lo hF8 (fun h => (hcj h).1) (chT_lo hF8 (fun h => (hci h).1) (hlo p hp))) ha1
              have hlo2 : ∀ p, p < P → lo F (chS s1 F j 43 p) := fun p hp => by
                rw [chS_43, chT_cg (ht1 p (by omega))]
                exact chT_lo hF8 (fun h => (hcj h).1) (chT_lo hF8 (fun h => (hci h).1) (hlo p hp))
              refine g_callV [.int (nI P)] dX3_judgeAll_126 kX3_mostOf lX3_61 a40 rfl rfl (c_mostOf hP0 hP6 (fun p hp => by obtain ⟨n, hn, e⟩ := lo_nat (by omega) (hlo2 p hp); exact ⟨n, by omega, e⟩) (fun p hp => by obtain ⟨n, hn, e⟩ := lo_nat (by omega) (hlo2 p hp); rw [e, ix_nI (by omega), chS_fr (by omega), ha1 n hn]; exact mAmt_ok _ _ hwt hW16 hF8)) rfl rfl (Nat.le_of_ble_eq_true rfl) ?_
              rw [hjd]
              refine b_istore dX3_judgeAll_129 (by decide) rfl ?_
              refine b_aload_n dX3_judgeAll_131 rfl ?_
              refine g_get dX3_judgeAll_132 fX3_15 a40 rfl ?_
              refine b_iload dX3_judgeAll_135 rfl ?_
              refine b_aload_n dX3_judgeAll_137 rfl ?_
              refine g_geti (x := nI C) dX3_judgeAll_138 fX3_35 a40 rfl (by simp [pt, chS_fr, h41]) ?_
              refine b_imulN dX3_judgeAll_141 ?_
              refine b_iload dX3_judgeAll_142 rfl ?_
              refine b_iaddN dX3_judgeAll_144 ?_
              refine b_iload dX3_judgeAll_145 rfl ?_
              refine g_iast dX3_judgeAll_147 a42 rfl (by omega) ?_
              refine b_aload_n dX3_judgeAll_148 rfl ?_
              refine g_get dX3_judgeAll_149 fX3_15 a40 rfl ?_
              refine b_iload dX3_judgeAll_152 rfl ?_
              refine b_aload_n dX3_judgeAll_154 rfl ?_
              refine g_geti (x := nI C) dX3_judgeAll_155 fX3_35 a40 rfl (by simp [pt, chS_fr, h41]) ?_
              refine b_imulN dX3_judgeAll_158 ?_
              refine b_iload dX3_judgeAll_159 rfl ?_
              refine b_iaddN dX3_judgeAll_161 ?_
              refine b_iload dX3_judgeAll_162 rfl ?_
              refine g_iast dX3_judgeAll_164 a42 rfl (by omega) ?_
              refine b_aload_n dX3_judgeAll_165 rfl ?_
              refine b_iload dX3_judgeAll_166 rfl ?_
              refine b_iload dX3_judgeAll_168 rfl ?_
              refine g_callV [.int (nI j), .int (if j = 0 then nI 0 else s1 43 ((j - 1) / F))] dX3_judgeAll_170 kX3_takeBack lX3_64 a40 rfl rfl (c_takeBack (by rw [pt_a (by omega), pt_a (by omega), chS_fr (by omega)]; exact h51) hF8 (by omega) hcj) rfl rfl (Nat.le_of_ble_eq_true rfl) ?_
              refine b_iinc dX3_judgeAll_173 rfl (nI_1 _) (by decide) rfl ?_
              refine b_goto 104 dX3_judgeAll_176 (by decide) ?_
              have hfr : ∀ c, c ≠ 42 → c ≠ 43 → pt (pt (chS s1 F j) 42 (i * C + j) (jd (vX σ W F P t) m i j)) 42 (j * C + i) (jd (vX σ W F P t) m i j) c = s1 c := fun c h1 h2 => by rw [pt_r h1, pt_r h1, chS_fr h2]
              refine ihj (j + 1) _ _ _ (by omega) (by omega) (fun c hc => ?_) ?_ ?_ (fun k hk => ?_) (fun q hq => ?_) (fun a b h1 h2 h3 => ?_)
              · have hc' := hc
                simp only [kP] at hc
                rw [bk_fr (by omega)]
                exact (hfr c (by omega) (by omega)).trans (hs1 c hc')
              · rw [bk_fr (by omega)]
                exact (congrFun (hfr 40 (by omega) (by omega)) 4).trans h41
              · rw [bk_fr (by omega)]
                exact (congrFun (hfr 40 (by omega) (by omega)) 5).trans h51
              · rw [bk_fr (by omega)]
                exact (congrFun (hfr 41 (by omega) (by omega)) k).trans (ha1 k hk)
              · rw [bk_43 (by rw [pt_r (by omega), pt_r (by omega), chS_43])]
                exact ht1 q hq
              · rw [bk_fr (by omega)]
                by_cases g1 : a * C + b = j * C + i
                · obtain ⟨rfl, rfl⟩ := ixC h2 (by omega) g1
                  show pt _ 42 _ _ 42 _ = _
                  rw [pt_s, jd_comm]
                · show pt _ 42 _ _ 42 _ = _
                  rw [pt_j g1]
                  by_cases g2 : a * C + b = i * C + j
                  · obtain ⟨rfl, rfl⟩ := ixC h2 (by omega) g2
                    show pt _ 42 _ _ 42 _ = _
                    rw [pt_s]
                  · show pt _ 42 _ _ 42 _ = _
                    rw [pt_j g2, chS_fr (by omega)]
                    refine hjj a b h1 h2 ?_
                    rcases h3 with h3 | h3 | ⟨h3, h4⟩ | ⟨h3, h4⟩
                    · exact Or.inl h3
                    · exact Or.inr (Or.inl h3)
                    · subst h3
                      have : b ≠ j := fun z => g2 (by rw [z])
                      exact Or.inr (Or.inr (Or.inl ⟨rfl, by omega⟩))
                    · subst h3
                      have : a ≠ j := fun z => g1 (by rw [z])
                      exact Or.inr (Or.inr (Or.inr ⟨rfl, by omega⟩))
          refine lp3 (C - i) i _ _ _ (by omega) (Nat.le_refl i) (fun c hc => ?_) ?_ ?_ (fun k hk => ?_) (fun q hq => ?_) (fun a b h1 h2 h3 => ?_)
          · rw [chS_fr (by simp only [kP] at hc; omega)]
            exact hs c hc
          · rw [chS_fr (by omega)]; exact h4
          · rw [chS_fr (by omega)]; exact h5
          · rw [chS_fr (by omega)]; exact ha k hk
          · rw [chS_43]
            exact chT_cg (ht' q hq)
          · rw [chS_fr (by omega)]
            exact hj a b h1 h2 (by omega)
      refine lp2 C 0 _ _ _ _ _ (by omega) hs0 ?_ ?_ (fun k hk => ?_) h43 (fun a b _ _ h => absurd h (by omega))
      · rw [hoth 40 (by omega)]; exact h4
      · rw [hoth 40 (by omega)]; exact h5
      · rw [hoth 41 (by omega)]; exact ha k (by omega)
    | succ n ih =>
      intro i s hi hs h4 h5 ha
      refine b_iload dX3_judgeAll_26 rfl ?_
      refine b_iconst (v := nI 1) dX3_judgeAll_28 (by decide) ?_
      refine b_aload_n dX3_judgeAll_29 rfl ?_
      refine g_geti (x := nI F) dX3_judgeAll_30 fX3_25 a20 rfl (by rw [hs 20 (by unfold kP; omega)]; exact hF) ?_
      refine b_ishl dX3_judgeAll_33 ?_
      refine b_top (shl_pow (by omega)) ?_
      refine b_icmp_ge_f 65 dX3_judgeAll_34 (by decide) (nI_ge (by omega) (by omega)) ?_
      refine b_aload_n dX3_judgeAll_37 rfl ?_
      refine g_get dX3_judgeAll_38 fX3_9 a40 rfl ?_
      refine b_iload dX3_judgeAll_41 rfl ?_
      refine b_aload_n dX3_judgeAll_43 rfl ?_
      refine b_iload_n dX3_judgeAll_44 rfl ?_
      refine b_aload_n dX3_judgeAll_45 rfl ?_
      refine b_iload dX3_judgeAll_46 rfl ?_
      refine b_aload_n dX3_judgeAll_48 rfl ?_
      refine g_geti (x := nI t) dX3_judgeAll_49 fX3_38 a26 rfl (by rw [hs 26 (by unfold kP; omega)]; exact hTr) ?_
      have hL2 : LV s 20 W F P := LV_of hX.1 (fun q => congrFun (hs 20 (by unfold kP; omega)) q)
      refine g_callV [.int (nI i), .int (nI t)] dX3_judgeAll_52 kX2_possible lX3_43 a20 rfl rfl (c_possible ln20 hL2 (by omega)) rfl rfl (Nat.le_of_ble_eq_true rfl) ?_
      refine g_callV [.int (nI m), .int (mPoss (s 23) W (nI i) t F)] dX3_judgeAll_55 kX2_amountOf lX3_47 a20 rfl rfl (c_amountOf ln20 hL2 hm (lo_mono (lo_poss (by omega) _) hW16)) rfl rfl (Nat.le_of_ble_eq_true rfl) ?_
      refine g_iast dX3_judgeAll_58 a41 rfl (by omega) ?_
      refine b_iinc dX3_judgeAll_59 rfl (nI_1 _) (by decide) rfl ?_
      refine b_goto 26 dX3_judgeAll_62 (by decide) ?_
      refine ih (i + 1) _ (by omega) (fun c hc => ?_) ?_ ?_ (fun k hk => ?_)
      · rw [pt_r (by simp only [kP] at hc; omega)]
        exact hs c hc
      · rw [pt_a (by omega)]; exact h4
      · rw [pt_a (by omega)]; exact h5
      · by_cases hki : k = i
        · subst hki
          show pt _ 41 _ _ 41 _ = _
          rw [pt_s]
          show mAmt (s 23) (s 22) (s 20 5) W F m (mPoss (s 23) W (nI k) t F) = mAmt (σ 23) (σ 22) (σ 20 5) W F m (mPoss (σ 23) W (nI k) t F)
          rw [hs 23 (by unfold kP; omega), hs 22 (by unfold kP; omega), hs 20 (by unfold kP; omega)]
        · rw [pt_j hki]
          exact ha k (by omega)
  refine lp1 (2 ^ F) 0 _ (by omega) (fun c hc => ?_) ?_ ?_ (fun k hk => absurd hk (by omega))
  · simp only [kP] at hc
    rw [pt_r (by omega), pt_r (by omega)]
  · rw [pt_s]
  · rw [pt_j (by omega), pt_s]
def mAny1 (c : Nat → Bool) : Nat → Bool
  | 0 => false
  | k + 1 => mAny1 c k || c k
theorem mAny1_hit {c : Nat → Bool} {i : Nat} (hc : c i = true) : ∀ n, i < n → mAny1 c n = true
  | 0, h => absurd h (Nat.not_lt_zero i)
  | n + 1, h => by
    rw [mAny1]
    rcases Nat.lt_or_ge i n with q | q
    · rw [mAny1_hit hc n q]; rfl
    · rw [show n = i by omega, hc, Bool.or_true]
def canG (L : LD) (m a : Nat) (x : Int32) : Bool := mAny1 (fun k => decide (jd L m a k = x)) (chN L.F L.P)
theorem c_canGet {G : GT} {d : Nat} {σ s : ST} {μ : SL} {L : LD} {m a : Nat} {x : Int32} (hJ : JA σ s L m) (hC : chN L.F L.P ≤ 49) (ha : a < chN L.F L.P) : Fn G d mX3_canGet [.ref (G.b0 + 40), .int (nI a), .int x] (sh G s μ) (Ret (some (.int (bI (canG L m a x)))) (sh G s μ)) := by
  obtain ⟨hs, h4, h5, hj⟩ := id hJ
  unfold canG
  generalize chN L.F L.P = C at hC ha h4 hj
  refine fn_of (ls := [some (.ref (G.b0 + 40)), some (.int (nI a)), some (.int x), none]) (by decide +kernel) (Nat.le_of_ble_eq_true rfl) 1 rfl ?_
  refine b_iconst (v := nI 0) dX3_canGet_0 (by decide) ?_
  refine b_istore_n dX3_canGet_1 (by decide) rfl ?_
  have lp : ∀ (n i : Nat), i + n = C → mAny1 (fun k => decide (jd L m a k = x)) i = false → BB G RX3 cX3_canGet 4 (some .boolean) d (QM G (Ret (some (.int (bI (mAny1 (fun k => decide (jd L m a k = x)) C)))) (sh G s μ))) 2 [some (.ref (G.b0 + 40)), some (.int (nI a)), some (.int x), some (.int (nI i))] [] (sh G s μ) := by
    intro n
    induction n with
    | zero =>
      intro i hi he
      refine b_iload_n dX3_canGet_2 rfl ?_
      refine b_aload_n dX3_canGet_3 rfl ?_
      refine g_geti (x := nI C) dX3_canGet_4 fX3_35 a40 rfl h4 ?_
      refine b_icmp_ge_t 35 dX3_canGet_7 (by decide) (nI_le (by omega) (by omega)) ?_
      refine b_iconst (v := nI 0) dX3_canGet_35 (by decide) ?_
      exact b_zret dX3_canGet_36 (bI_n false) ⟨by rw [show C = i by omega, he]; rfl, rfl⟩
    | succ n ih =>
      intro i hi he
      have hB := ixB hC ha (show i < C by omega)
      refine b_iload_n dX3_canGet_2 rfl ?_
      refine b_aload_n dX3_canGet_3 rfl ?_
      refine g_geti (x := nI C) dX3_canGet_4 fX3_35 a40 rfl h4 ?_
      refine b_icmp_ge_f 35 dX3_canGet_7 (by decide) (nI_ge (by omega) (by omega)) ?_
      refine b_aload_n dX3_canGet_10 rfl ?_
      refine g_get dX3_canGet_11 fX3_15 a40 rfl ?_
      refine b_iload_n dX3_canGet_14 rfl ?_
      refine b_aload_n dX3_canGet_15 rfl ?_
      refine g_geti (x := nI C) dX3_canGet_16 fX3_35 a40 rfl h4 ?_
      refine b_imulN dX3_canGet_19 ?_
      refine b_iload_n dX3_canGet_20 rfl ?_
      refine b_iaddN dX3_canGet_21 ?_
      refine g_iald dX3_canGet_22 a42 rfl (by omega) ?_
      refine b_iload_n dX3_canGet_23 rfl ?_
      refine b_top2 (hj a i ha (by omega)) ?_
      refine b_icmp_ne 29 dX3_canGet_24 (by decide) (fun c1 => ?_) (fun c1 => ?_)
      · skip
        refine b_iinc dX3_canGet_29 rfl (nI_1 _) (by decide) rfl ?_
        refine b_goto 2 dX3_canGet_32 (by decide) ?_
        exact ih (i + 1) (by omega) (by rw [mAny1, he, decide_eq_false c1]; rfl)
      · skip
        refine b_iconst (v := nI 1) dX3_canGet_27 (by decide) ?_
        exact b_zret dX3_canGet_28 (bI_n true) ⟨by rw [mAny1_hit (i := i) (decide_eq_true c1) C (by omega)]; rfl, rfl⟩
  exact lp C 0 (by omega) rfl
def fnd1 (c : Nat → Bool) : Nat → Nat → Option Nat
  | 0, _ => none
  | k + 1, j => if c j then some j else fnd1 c k (j + 1)
def fnd2 (c : Nat → Nat → Bool) (C : Nat) : Nat → Nat → Option (Nat × Nat)
  | 0, _ => none
  | k + 1, i => match fnd1 (c i) C 0 with
    | some j => some (i, j)
    | none => fnd2 c C k (i + 1)
theorem fnd1_lt {c : Nat → Bool} : ∀ k j x, fnd1 c k j = some x → x < j + k
  | 0, _, _, h => by simp [fnd1] at h
  | k + 1, j, x, h => by
    rw [fnd1] at h
    split at h
    · have := Option.some.inj h; omega
    · have := fnd1_lt k (j + 1) x h; omega
def rst (L : LD) (m : Nat) (want other : Int32) (i j : Nat) : Bool := (decide (jd L m i j = want) || !canG L m j want) && (decide (jd L m i j = other) || !canG L m i other)
def jRst (L : LD) (m : Nat) (want other : Int32) : Option (Nat × Nat) := fnd2 (rst L m want other) (chN L.F L.P) (chN L.F L.P) 0
theorem fnd2_lt {c : Nat → Nat → Bool} {C : Nat} : ∀ k i x, fnd2 c C k i = some x → x.1 < i + k ∧ x.2 < C
  | 0, _, _, h => by simp [fnd2] at h
  | k + 1, i, x, h => by
    rw [fnd2] at h
    split at h
    · rename_i j hj
      have := fnd1_lt _ _ _ hj
      have := Option.some.inj h
      subst this
      exact ⟨by show i < i + (k + 1); omega, by show j < C; omega⟩
    · have := fnd2_lt k (i + 1) x h
      exact ⟨by omega, this.2⟩
/-- how findRest ends -/
def PRst (G : GT) (μ : SL) (σ : ST) (L : LD) (m : Nat) (o : Option (Nat × Nat)) : Option Value → HT → Prop := fun r h' => r = some (.int (bI o.isSome)) ∧ ∃ s : ST, h' = sh G s μ ∧ (∀ c, ¬ kP c → s c = σ c) ∧ s 40 5 = nI L.F ∧ ∀ i j, o = some (i, j) → s 40 6 = nI i ∧ s 40 7 = nI j ∧ s 40 8 = jd L m i j
theorem c_findRest {G : GT} {d : Nat} {σ s : ST} {μ : SL} {L : LD} {m : Nat} {want other : Int32} (hJ : JA σ s L m) (hC : chN L.F L.P ≤ 49) : Fn G (d + 1) mX3_findRest [.ref (G.b0 + 40), .int want, .int other] (sh G s μ) (PRst G μ σ L m (jRst L m want other)) := by
  unfold jRst
  generalize hC' : chN L.F L.P = C at hC
  refine fn_of (ls := [some (.ref (G.b0 + 40)), some (.int want), some (.int other), none, none, none, none]) (by decide +kernel) (Nat.le_of_ble_eq_true rfl) 4 rfl ?_
  refine b_iconst (v := nI 0) dX3_findRest_0 (by decide) ?_
  refine b_istore_n dX3_findRest_1 (by decide) rfl ?_
  have hJC : ∀ s1, JA σ s1 L m → s1 40 4 = nI C ∧ s1 40 5 = nI L.F ∧ ∀ a b, a < C → b < C → s1 42 (a * C + b) = jd L m a b := fun s1 h => by
    have h2 := h.2
    rw [hC'] at h2
    exact h2
  have lp1 : ∀ (n i : Nat) (s1 : ST), i + n = C → JA σ s1 L m → (∀ k, k < i → s1 44 k = bI (canG L m k want)) → BB G RX3 cX3_findRest 7 (some .boolean) (d + 1) (QM G (PRst G μ σ L m (fnd2 (rst L m want other) C C 0))) 2 [some (.ref (G.b0 + 40)), some (.int want), some (.int other), some (.int (nI i)), none, none, none] [] (sh G s1 μ) := by
    intro n
    induction n with
    | zero =>
      intro i s1 hi hJ1 h44
      obtain ⟨h4, h5, hj⟩ := hJC s1 hJ1
      refine b_iload_n dX3_findRest_2 rfl ?_
      refine b_aload_n dX3_findRest_3 rfl ?_
      refine g_geti (x := nI C) dX3_findRest_4 fX3_35 a40 rfl h4 ?_
      refine b_icmp_ge_t 28 dX3_findRest_7 (by decide) (nI_le (by omega) (by omega)) ?_
      refine b_iconst (v := nI 0) dX3_findRest_28 (by decide) ?_
      refine b_istore_n dX3_findRest_29 (by decide) rfl ?_
      have lp2 : ∀ (n i : Nat) (z4 z5 z6 : Option Value), i + n = C → fnd2 (rst L m want other) C n i = fnd2 (rst L m want other) C C 0 → BB G RX3 cX3_findRest 7 (some .boolean) (d + 1) (QM G (PRst G μ σ L m (fnd2 (rst L m want other) C C 0))) 30 [some (.ref (G.b0 + 40)), some (.int want), some (.int other), some (.int (nI i)), z4, z5, z6] [] (sh G s1 μ) := by
        intro n
        induction n with
        | zero =>
          intro i z4 z5 z6 hi2 he
          refine b_iload_n dX3_findRest_30 rfl ?_
          refine b_aload_n dX3_findRest_31 rfl ?_
          refine g_geti (x := nI C) dX3_findRest_32 fX3_35 a40 rfl h4 ?_
          refine b_icmp_ge_t 132 dX3_findRest_35 (by decide) (nI_le (by omega) (by omega)) ?_
          refine b_iconst (v := nI 0) dX3_findRest_132 (by decide) ?_
          exact b_zret dX3_findRest_133 (bI_n false) ⟨by rw [← he]; rfl, s1, rfl, hJ1.1, h5, fun a b h => by rw [← he] at h; simp [fnd2] at h⟩
        | succ n ih =>
          intro i z4 z5 z6 hi2 he
          refine b_iload_n dX3_findRest_30 rfl ?_
          refine b_aload_n dX3_findRest_31 rfl ?_
          refine g_geti (x := nI C) dX3_findRest_32 fX3_35 a40 rfl h4 ?_
          refine b_icmp_ge_f 132 dX3_findRest_35 (by decide) (nI_ge (by omega) (by omega)) ?_
          refine b_aload_n dX3_findRest_38 rfl ?_
          refine b_iload_n dX3_findRest_39 rfl ?_
          refine b_iload_n dX3_findRest_40 rfl ?_
          refine g_callV [.int (nI i), .int other] dX3_findRest_41 kX3_canGet lX3_68 a40 rfl rfl (c_canGet hJ1 (by omega) (by omega)) rfl rfl (Nat.le_of_ble_eq_true rfl) ?_
          refine b_istore dX3_findRest_44 (by decide) rfl ?_
          refine b_iconst (v := nI 0) dX3_findRest_46 (by decide) ?_
          refine b_istore dX3_findRest_47 (by decide) rfl ?_
          have lp3 : ∀ (k j : Nat) (z6 : Option Value), j + k = C → fnd1 (rst L m want other i) k j = fnd1 (rst L m want other i) C 0 → BB G RX3 cX3_findRest 7 (some .boolean) (d + 1) (QM G (PRst G μ σ L m (fnd2 (rst L m want other) C C 0))) 49 [some (.ref (G.b0 + 40)), some (.int want), some (.int other), some (.int (nI i)), some (.int (bI (canG L m i other))), some (.int (nI j)), z6] [] (sh G s1 μ) := by
            intro k
            induction k with
            | zero =>
              intro j z6 hj1 hf
              refine b_iload dX3_findRest_49 rfl ?_
              refine b_aload_n dX3_findRest_51 rfl ?_
              refine g_geti (x := nI C) dX3_findRest_52 fX3_35 a40 rfl h4 ?_
              refine b_icmp_ge_t 126 dX3_findRest_55 (by decide) (nI_le (by omega) (by omega)) ?_
              refine b_iinc dX3_findRest_126 rfl (nI_1 _) (by decide) rfl ?_
              refine b_goto 30 dX3_findRest_129 (by decide) ?_
              refine ih (i + 1) _ _ _ (by omega) ?_
              rw [← he, fnd2, ← hf]
              rfl
            | succ k ihk =>
              intro j z6 hj1 hf
              have hB := ixB hC (show i < C by omega) (show j < C by omega)
              refine b_iload dX3_findRest_49 rfl ?_
              refine b_aload_n dX3_findRest_51 rfl ?_
              refine g_geti (x := nI C) dX3_findRest_52 fX3_35 a40 rfl h4 ?_
              refine b_icmp_ge_f 126 dX3_findRest_55 (by decide) (nI_ge (by omega) (by omega)) ?_
              refine b_aload_n dX3_findRest_58 rfl ?_
              refine g_get dX3_findRest_59 fX3_15 a40 rfl ?_
              refine b_iload_n dX3_findRest_62 rfl ?_
              refine b_aload_n dX3_findRest_63 rfl ?_
              refine g_geti (x := nI C) dX3_findRest_64 fX3_35 a40 rfl h4 ?_
              refine b_imulN dX3_findRest_67 ?_
              refine b_iload dX3_findRest_68 rfl ?_
              refine b_iaddN dX3_findRest_70 ?_
              refine g_iald dX3_findRest_71 a42 rfl (by omega) ?_
              refine b_top (hj i j (by omega) (by omega)) ?_
              refine b_istore dX3_findRest_72 (by decide) rfl ?_
              refine b_iload dX3_findRest_74 rfl ?_
              refine b_iload_n dX3_findRest_76 rfl ?_
              have nxt : rst L m want other i j = false → BB G RX3 cX3_findRest 7 (some .boolean) (d + 1) (QM G (PRst G μ σ L m (fnd2 (rst L m want other) C C 0))) 120 [some (.ref (G.b0 + 40)), some (.int want), some (.int other), some (.int (nI i)), some (.int (bI (canG L m i other))), some (.int (nI j)), some (.int (jd L m i j))] [] (sh G s1 μ) := by
                intro hr
                refine b_iinc dX3_findRest_120 rfl (nI_1 _) (by decide) rfl ?_
                refine b_goto 49 dX3_findRest_123 (by decide) ?_
                exact ihk (j + 1) _ (by omega) (by rw [← hf, fnd1, hr]; rfl)
              have fin : rst L m want other i j = true → BB G RX3 cX3_findRest 7 (some .boolean) (d + 1) (QM G (PRst G μ σ L m (fnd2 (rst L m want other) C C 0))) 101 [some (.ref (G.b0 + 40)), some (.int want), some (.int other), some (.int (nI i)), some (.int (bI (canG L m i other))), some (.int (nI j)), some (.int (jd L m i j))] [] (sh G s1 μ) := by
                intro hr
                refine b_aload_n dX3_findRest_101 rfl ?_
                refine b_iload_n dX3_findRest_102 rfl ?_
                refine g_put dX3_findRest_103 wX3_72 a40 tfX3_6 (Nat.le_of_ble_eq_true rfl) rfl ?_
                refine b_aload_n dX3_findRest_106 rfl ?_
                refine b_iload dX3_findRest_107 rfl ?_
                refine g_put dX3_findRest_109 wX3_75 a40 tfX3_7 (Nat.le_of_ble_eq_true rfl) rfl ?_
                refine b_aload_n dX3_findRest_112 rfl ?_
                refine b_iload dX3_findRest_113 rfl ?_
                refine g_put dX3_findRest_115 wX3_78 a40 tfX3_8 (Nat.le_of_ble_eq_true rfl) rfl ?_
                refine b_iconst (v := nI 1) dX3_findRest_118 (by decide) ?_
                have e1 : fnd1 (rst L m want other i) C 0 = some j := by rw [← hf, fnd1, hr]; rfl
                have e2 : fnd2 (rst L m want other) C C 0 = some (i, j) := by rw [← he, fnd2, e1]
                exact b_zret dX3_findRest_119 (bI_n true) ⟨by rw [e2]; rfl, _, rfl, fun c hc => by simp only [kP] at hc; rw [pt_r (by omega), pt_r (by omega), pt_r (by omega)]; exact hJ1.1 c (by unfold kP; omega), by rw [pt_j (by omega), pt_j (by omega), pt_j (by omega)]; exact h5, fun a b h => by rw [e2] at h; cases h; exact ⟨by simp [pt], by simp [pt], by simp [pt]⟩⟩
              have p90 : (decide (jd L m i j = want) || !canG L m j want) = true → BB G RX3 cX3_findRest 7 (some .boolean) (d + 1) (QM G (PRst G μ σ L m (fnd2 (rst L m want other) C C 0))) 90 [some (.ref (G.b0 + 40)), some (.int want), some (.int other), some (.int (nI i)), some (.int (bI (canG L m i other))), some (.int (nI j)), some (.int (jd L m i j))] [] (sh G s1 μ) := by
                intro hr
                refine b_iload dX3_findRest_90 rfl ?_
                refine b_iload_n dX3_findRest_92 rfl ?_
                refine b_icmp_eq 101 dX3_findRest_93 (by decide) (fun c3 => ?_) (fun c3 => ?_)
                · skip
                  exact fin (by rw [rst, hr, decide_eq_true c3]; rfl)
                · skip
                  refine b_iload dX3_findRest_96 rfl ?_
                  refine b_if_ne 120 dX3_findRest_98 (by decide) (fun c4 => ?_) (fun c4 => ?_)
                  · skip
                    exact nxt (by rw [rst, hr, decide_eq_false c3, (bI_1 _).mp c4]; rfl)
                  · skip
                    have c5 : canG L m i other = false := (bI_0 _).mp c4
                    exact fin (by rw [rst, hr, decide_eq_false c3, c5]; rfl)
              refine b_icmp_eq 90 dX3_findRest_77 (by decide) (fun c1 => ?_) (fun c1 => ?_)
              · skip
                exact p90 (by rw [decide_eq_true c1]; rfl)
              · skip
                refine b_aload_n dX3_findRest_80 rfl ?_
                refine g_get dX3_findRest_81 fX3_21 a40 rfl ?_
                refine b_iload dX3_findRest_84 rfl ?_
                refine g_zald dX3_findRest_86 a44 rfl (by omega) ?_
                refine b_top (h44 j (by omega)) ?_
                refine b_if_ne 120 dX3_findRest_87 (by decide) (fun c2 => ?_) (fun c2 => ?_)
                · skip
                  exact nxt (by rw [rst, decide_eq_false c1, (bI_1 _).mp c2]; rfl)
                · skip
                  have c5 : canG L m j want = false := (bI_0 _).mp c2
                  exact p90 (by rw [c5, Bool.not_false, Bool.or_true])
          exact lp3 C 0 _ (by omega) rfl
      exact lp2 C 0 _ _ _ (by omega) rfl
    | succ n ih =>
      intro i s1 hi hJ1 h44
      obtain ⟨h4, h5, hj⟩ := hJC s1 hJ1
      refine b_iload_n dX3_findRest_2 rfl ?_
      refine b_aload_n dX3_findRest_3 rfl ?_
      refine g_geti (x := nI C) dX3_findRest_4 fX3_35 a40 rfl h4 ?_
      refine b_icmp_ge_f 28 dX3_findRest_7 (by decide) (nI_ge (by omega) (by omega)) ?_
      refine b_aload_n dX3_findRest_10 rfl ?_
      refine g_get dX3_findRest_11 fX3_21 a40 rfl ?_
      refine b_iload_n dX3_findRest_14 rfl ?_
      refine b_aload_n dX3_findRest_15 rfl ?_
      refine b_iload_n dX3_findRest_16 rfl ?_
      refine b_iload_n dX3_findRest_17 rfl ?_
      refine g_callV [.int (nI i), .int want] dX3_findRest_18 kX3_canGet lX3_68 a40 rfl rfl (c_canGet hJ1 (by omega) (by omega)) rfl rfl (Nat.le_of_ble_eq_true rfl) ?_
      refine g_zast dX3_findRest_21 a44 rfl (by omega) ?_
      refine b_iinc dX3_findRest_22 rfl (nI_1 _) (by decide) rfl ?_
      refine b_goto 2 dX3_findRest_25 (by decide) ?_
      have hnb : vp_nar .boolean (bI (canG L m i want)) = bI (canG L m i want) := by cases canG L m i want <;> decide
      rw [hnb]
      refine ih (i + 1) _ (by omega) ⟨fun c hc => ?_, ?_, ?_, fun a b h1 h2 => ?_⟩ (fun k hk => ?_)
      · rw [pt_r (by simp only [kP] at hc; omega)]
        exact hJ1.1 c hc
      · rw [pt_a (by omega)]; exact hJ1.2.1
      · rw [pt_a (by omega)]; exact hJ1.2.2.1
      · rw [pt_a (by omega)]; exact hJ1.2.2.2 a b h1 h2
      · by_cases hki : k = i
        · subst hki
          exact pt_s _ _ _ _
        · rw [pt_j hki]
          exact h44 k (by omega)
  exact lp1 C 0 s (by omega) hJ (fun k hk => absurd hk (by omega))
def chc (F i : Nat) : Int32 := if i = 0 then -100 else nI (10 * ((i - 1) / F) + (i - 1) % F)
theorem c_choice {G : GT} {d : Nat} {σ : ST} {μ : SL} {F i : Nat} (hF : σ 40 5 = nI F) (hF8 : F ≤ 8) (hi : i < 2 ^ 31) (h0 : 0 < i → 0 < F ∧ (i - 1) / F < 6) : Fn G d mX3_choice [.ref (G.b0 + 40), .int (nI i)] (sh G σ μ) (Ret (some (.int (chc F i))) (sh G σ μ)) := by
  refine fn_of (ls := [some (.ref (G.b0 + 40)), some (.int (nI i))]) (by decide +kernel) (Nat.le_of_ble_eq_true rfl) 0 rfl ?_
  refine b_iload_n dX3_choice_0 rfl ?_
  refine b_if_le 11 dX3_choice_1 (by decide) (fun c1 => ?_) (fun c1 => ?_)
  · skip
    have h1 : i = 0 := by
      rw [← nI_0, nI_leI (by omega) (by omega)] at c1
      omega
    refine b_bipush (v := -100) dX3_choice_11 (by decide) ?_
    exact b_iret dX3_choice_13 ⟨by simp [chc, h1], rfl⟩
  · skip
    have h1 : 0 < i := by
      rw [← nI_0, nI_leI (by omega) (by omega)] at c1
      omega
    obtain ⟨g1, g2⟩ := h0 h1
    refine b_aload_n dX3_choice_4 rfl ?_
    refine g_geti (x := nI F) dX3_choice_5 fX3_31 a40 rfl hF ?_
    refine b_if_gt_t 14 dX3_choice_8 (by decide) (by rw [← nI_0]; exact nI_lt g1 (by omega)) ?_
    refine b_bipush (v := nI 10) dX3_choice_14 (by decide) ?_
    refine b_iload_n dX3_choice_16 rfl ?_
    refine b_iconst (v := nI 1) dX3_choice_17 (by decide) ?_
    refine b_isub dX3_choice_18 ?_
    refine b_top (y := nI (i - 1)) (nI_sub (by omega)) ?_
    refine b_aload_n dX3_choice_19 rfl ?_
    refine g_geti (x := nI F) dX3_choice_20 fX3_31 a40 rfl hF ?_
    refine b_idiv dX3_choice_23 (nI_ne0 (by omega) (by omega)) ?_
    refine b_top (y := nI ((i - 1) / F)) (pk_div (by omega) (by omega) (by omega)) ?_
    refine b_imulN dX3_choice_24 ?_
    refine b_iload_n dX3_choice_25 rfl ?_
    refine b_iconst (v := nI 1) dX3_choice_26 (by decide) ?_
    refine b_isub dX3_choice_27 ?_
    refine b_top (y := nI (i - 1)) (nI_sub (by omega)) ?_
    refine b_aload_n dX3_choice_28 rfl ?_
    refine g_geti (x := nI F) dX3_choice_29 fX3_31 a40 rfl hF ?_
    refine b_irem dX3_choice_32 (nI_ne0 (by omega) (by omega)) ?_
    refine b_top (y := nI ((i - 1) % F)) (pk_rem (by omega) (by omega) (by omega)) ?_
    refine b_iaddN dX3_choice_33 ?_
    exact b_iret dX3_choice_34 ⟨by rw [chc, if_neg (by omega)], rfl⟩
def oParties (L : LD) (want other m what : Int32) : Int32 := if inR want L.P && inR other L.P && inR m 4 && inR what 3 then (if L.W = 0 then -5 else match jRst L (ix m) want other with
  | none => -1
  | some (i, j) => if ix what = 2 then jd L (ix m) i j else if ix what = 0 then chc L.F i else chc L.F j) else -2
theorem c_X_parties {G : GT} {d : Nat} {σ : ST} {μ : SL} {W F P t : Nat} {p q m x : Int32} (hX : XV σ W F P t) (hlo : ∀ p, p < P → lo F (σ 27 p)) (hwt : WtOk (σ 22) W) : Fn G (d + 4) mX11_parties [.ref (G.b0 + 0), .int p, .int q, .int m, .int x] (sh G σ μ) (PK G μ σ kP (oParties (vX σ W F P t) p q m x)) := by
  have ht := hX.t32
  obtain ⟨⟨hW, hF, hP, hW16, hF8, hP6⟩, -⟩ := id hX
  have hC := chN_le hF8 hP6
  refine fn_of (ls := [some (.ref (G.b0 + 0)), some (.int p), some (.int q), some (.int m), some (.int x)]) (by decide +kernel) (Nat.le_of_ble_eq_true rfl) 0 rfl ?_
  refine b_aload_n dX11_parties_0 rfl ?_
  refine b_iload_n dX11_parties_1 rfl ?_
  refine g_callV [.int p] dX11_parties_2 kX11_isPerson lX11_136 a0 rfl rfl (c_isPerson hP) rfl rfl (Nat.le_of_ble_eq_true rfl) ?_
  refine b_if_eq 34 dX11_parties_5 (by decide) (fun c1 => ?_) (fun c1 => ?_)
  · skip
    refine b_bipush (v := -2) dX11_parties_34 (by decide) ?_
    exact b_iret dX11_parties_36 ⟨by simp [oParties, (bI_0 _).mp c1], σ, rfl, fun c _ => rfl⟩
  · skip
    have c2 := (bI_1 _).mp c1
    refine b_aload_n dX11_parties_8 rfl ?_
    refine b_iload_n dX11_parties_9 rfl ?_
    refine g_callV [.int q] dX11_parties_10 kX11_isPerson lX11_136 a0 rfl rfl (c_isPerson hP) rfl rfl (Nat.le_of_ble_eq_true rfl) ?_
    refine b_if_eq 34 dX11_parties_13 (by decide) (fun c3 => ?_) (fun c3 => ?_)
    · skip
      refine b_bipush (v := -2) dX11_parties_34 (by decide) ?_
      exact b_iret dX11_parties_36 ⟨by simp [oParties, (bI_0 _).mp c3], σ, rfl, fun c _ => rfl⟩
    · skip
      have c4 := (bI_1 _).mp c3
      refine b_iload_n dX11_parties_16 rfl ?_
      refine b_callSr [.int m] dX11_parties_17 kX11_isMeasure lX11_239 c_isMeasure rfl rfl (Nat.le_of_ble_eq_true rfl) ?_
      refine b_if_eq 34 dX11_parties_20 (by decide) (fun c5 => ?_) (fun c5 => ?_)
      · skip
        refine b_bipush (v := -2) dX11_parties_34 (by decide) ?_
        exact b_iret dX11_parties_36 ⟨by simp [oParties, (bI_0 _).mp c5], σ, rfl, fun c _ => rfl⟩
      · skip
        have c6 := (bI_1 _).mp c5
        obtain ⟨k, hk, rfl⟩ := inR_of (by omega) c6
        have hkx := ix_nI (show k < 2 ^ 31 by omega)
        refine b_iload dX11_parties_23 rfl ?_
        refine b_if_lt 34 dX11_parties_25 (by decide) (fun c7 => ?_) (fun c7 => ?_)
        · skip
          refine b_bipush (v := -2) dX11_parties_34 (by decide) ?_
          exact b_iret dX11_parties_36 ⟨by simp [oParties, inR_neg c7], σ, rfl, fun c _ => rfl⟩
        · skip
          refine b_iload dX11_parties_28 rfl ?_
          refine b_iconst (v := nI 2) dX11_parties_30 (by decide) ?_
          refine b_icmp_le 37 dX11_parties_31 (by decide) (fun c8 => ?_) (fun c8 => ?_)
          · skip
            obtain ⟨v, hv, rfl, c9⟩ := inR_up (k := 2) (by omega) c7 c8
            have hvx := ix_nI (show v < 2 ^ 31 by omega)
            refine b_aload_n dX11_parties_37 rfl ?_
            refine g_get dX11_parties_38 fX11_23 a0 rfl ?_
            refine g_geti (x := nI W) dX11_parties_41 fX11_165 a20 rfl hW ?_
            refine b_if_ne 50 dX11_parties_44 (by decide) (fun c10 => ?_) (fun c10 => ?_)
            · skip
              have h0 : ¬ W = 0 := fun z => c10 (by rw [z]; rfl)
              have hP0 : 0 < P := by
                obtain ⟨j, hj, -⟩ := inR_of (by omega) c2
                have hj' : j < P := hj
                omega
              refine b_aload_n dX11_parties_50 rfl ?_
              refine g_get dX11_parties_51 fX11_54 a0 rfl ?_
              refine b_aload_n dX11_parties_54 rfl ?_
              refine g_get dX11_parties_55 fX11_23 a0 rfl ?_
              refine b_aload_n dX11_parties_58 rfl ?_
              refine g_get dX11_parties_59 fX11_30 a0 rfl ?_
              refine b_iload_n dX11_parties_62 rfl ?_
              refine g_callVp [.ref (G.b0 + 20), .ref (G.b0 + 26), .int (nI k)] dX11_parties_63 kX3_judgeAll lX11_264 a40 rfl rfl (c_judgeAll (d := d) hX hk hP0 hlo hwt) rfl rfl (Nat.le_of_ble_eq_true rfl) ?_
              rintro r h9 ⟨rfl, s, rfl, hJ⟩
              refine b_aload_n dX11_parties_66 rfl ?_
              refine g_get dX11_parties_67 fX11_54 a0 rfl ?_
              refine b_iload_n dX11_parties_70 rfl ?_
              refine b_iload_n dX11_parties_71 rfl ?_
              refine g_callVp [.int p, .int q] dX11_parties_72 kX3_findRest lX11_267 a40 rfl rfl (c_findRest (d := d + 2) (want := p) (other := q) hJ hC) rfl rfl (Nat.le_of_ble_eq_true rfl) ?_
              rintro r h9 ⟨rfl, s2, rfl, hs2, h5, hfd⟩
              have hO : oParties (vX σ W F P t) p q (nI k) (nI v) = match jRst (vX σ W F P t) k p q with
                | none => -1
                | some (i, j) => if v = 2 then jd (vX σ W F P t) k i j else if v = 0 then chc F i else chc F j := by
                simp only [oParties, c2, c4, c6, c9, hkx, hvx, Bool.and_self, if_true, if_neg h0]
              generalize hjr : jRst (vX σ W F P t) k p q = o at hfd hO
              cases o with
              | none =>
                refine b_if_ne_f 80 dX11_parties_75 (by decide) (by decide) ?_
                refine b_iconst (v := -1) dX11_parties_78 (by decide) ?_
                exact b_iret dX11_parties_79 ⟨by rw [hO], s2, rfl, hs2⟩
              | some ij =>
                obtain ⟨i, j⟩ := ij
                obtain ⟨g6, g7, g8⟩ := hfd i j rfl
                have hlt := fnd2_lt _ _ _ hjr
                have hi9 : i < chN F P := by have := hlt.1; simpa using this
                have hj9 : j < chN F P := hlt.2
                refine b_if_ne_t 80 dX11_parties_75 (by decide) (show ¬ bI true = 0 by decide) ?_
                refine b_iload dX11_parties_80 rfl ?_
                refine b_iconst (v := nI 2) dX11_parties_82 (by decide) ?_
                refine b_icmp_ne 94 dX11_parties_83 (by decide) (fun d1 => ?_) (fun d1 => ?_)
                · skip
                  have d2 : ¬ v = 2 := fun z => d1 (by rw [z])
                  refine b_aload_n dX11_parties_94 rfl ?_
                  refine g_get dX11_parties_95 fX11_54 a0 rfl ?_
                  refine b_iload dX11_parties_98 rfl ?_
                  refine b_if_ne 113 dX11_parties_100 (by decide) (fun d3 => ?_) (fun d3 => ?_)
                  · skip
                    have d4 : ¬ v = 0 := fun z => d3 (by rw [z]; rfl)
                    refine b_aload_n dX11_parties_113 rfl ?_
                    refine g_get dX11_parties_114 fX11_54 a0 rfl ?_
                    refine g_geti (x := nI j) dX11_parties_117 fX11_276 a40 rfl g7 ?_
                    refine g_callV [.int (nI j)] dX11_parties_120 kX3_choice lX11_279 a40 rfl rfl (c_choice h5 hF8 (by omega) (fun h => chN_i hP6 hj9 h)) rfl rfl (Nat.le_of_ble_eq_true rfl) ?_
                    exact b_iret dX11_parties_123 ⟨by rw [hO]; simp [d2, d4], s2, rfl, hs2⟩
                  · skip
                    have d4 : v = 0 := by rw [← nI_0, nI_eq (by omega) (by omega)] at d3; exact d3
                    refine b_aload_n dX11_parties_103 rfl ?_
                    refine g_get dX11_parties_104 fX11_54 a0 rfl ?_
                    refine g_geti (x := nI i) dX11_parties_107 fX11_273 a40 rfl g6 ?_
                    refine b_goto 120 dX11_parties_110 (by decide) ?_
                    refine g_callV [.int (nI i)] dX11_parties_120 kX3_choice lX11_279 a40 rfl rfl (c_choice h5 hF8 (by omega) (fun h => chN_i hP6 hi9 h)) rfl rfl (Nat.le_of_ble_eq_true rfl) ?_
                    exact b_iret dX11_parties_123 ⟨by rw [hO]; simp [d4], s2, rfl, hs2⟩
                · skip
                  have d2 : v = 2 := by rw [nI_eq (by omega) (by omega)] at d1; exact d1
                  refine b_aload_n dX11_parties_86 rfl ?_
                  refine g_get dX11_parties_87 fX11_54 a0 rfl ?_
                  refine g_get dX11_parties_90 fX11_270 a40 rfl ?_
                  exact b_iret dX11_parties_93 ⟨by rw [hO]; simp [d2]; exact g8, s2, rfl, hs2⟩
            · skip
              have h0 : W = 0 := by rw [← nI_0, nI_eq (by omega) (by omega)] at c10; exact c10
              refine b_bipush (v := -5) dX11_parties_47 (by decide) ?_
              exact b_iret dX11_parties_49 ⟨by simp only [oParties, c2, c4, c6, c9, h0, Bool.and_self, if_true], σ, rfl, fun c _ => rfl⟩
          · skip
            refine b_bipush (v := -2) dX11_parties_34 (by decide) ?_
            exact b_iret dX11_parties_36 ⟨by simp [oParties, inR_gt (k := 2) (by omega) c8], σ, rfl, fun c _ => rfl⟩

