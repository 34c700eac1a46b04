/-! ===== KnowsLeast: news ===== -/
/-- an answer, and all cells but some as they were -/
def PK (G : GT) (μ : SL) (σ : ST) (K : Nat → Prop) (v : Int32) : Option Value → HT → Prop := fun r h' => r = some (.int v) ∧ ∃ σ' : ST, h' = sh G σ' μ ∧ ∀ c, ¬ K c → σ' c = σ c
def kS (c : Nat) : Prop := 29 ≤ c ∧ c ≤ 31
def mNext (road told : Nat → Int32) (P : Nat) : Nat → Int32 := fun p => if p < P then mDay1 road told p P else told p
def mDays (road : Nat → Int32) (P : Nat) : Nat → (Nat → Int32) → (Nat → Int32)
  | 0, told => told
  | n + 1, told => mDays road P n (mNext road told P)
theorem mDay1_cg {road x y : Nat → Int32} {p : Nat} (hp : x p = y p) : ∀ n, (∀ q, q < n → x q = y q) → mDay1 road x p n = mDay1 road y p n
  | 0, _ => hp
  | n + 1, h => by rw [mDay1, mDay1, mDay1_cg hp n (fun q hq => h q (by omega)), h n (by omega)]
theorem mNext_cg {road x y : Nat → Int32} {P m : Nat} (hm : P ≤ m) (h : ∀ q, q < m → x q = y q) : ∀ q, q < m → mNext road x P q = mNext road y P q := by
  intro q hq
  unfold mNext
  split
  · exact mDay1_cg (h q hq) P (fun r hr => h r (by omega))
  · exact h q hq
theorem mDays_cg {road : Nat → Int32} {P m : Nat} (hm : P ≤ m) : ∀ n (x y : Nat → Int32), (∀ q, q < m → x q = y q) → ∀ q, q < m → mDays road P n x q = mDays road P n y q
  | 0, _, _, h => h
  | n + 1, x, y, h => mDays_cg hm n _ _ (mNext_cg hm h)
theorem mDayB_cg {road x y : Nat → Int32} {P : Nat} (h : ∀ q, q < P → x q = y q) : ∀ n, n ≤ P → mDayB road x P n = mDayB road y P n
  | 0, _ => rfl
  | n + 1, hn => by rw [mDayB, mDayB, mDayB_cg h n (by omega), mDay1_cg (h n (by omega)) P h, h n (by omega)]
theorem dayS_told (σ : ST) (a b P : Nat) : dayS σ a b P P (b + 1) = mNext (σ (a + 5)) (σ (b + 1)) P := by
  funext q
  simp [dayS, mNext]
/-- the days till nobody is told more, so many looked at -/
def mCalm (road : Nat → Int32) (P : Nat) : Nat → (Nat → Int32) → Nat
  | 0, _ => 0
  | n + 1, told => if mDayB road told P P then mCalm road P n (mNext road told P) + 1 else 0
theorem mCalm_cg {road : Nat → Int32} {P : Nat} : ∀ n (x y : Nat → Int32), (∀ q, q < P → x q = y q) → mCalm road P n x = mCalm road P n y
  | 0, _, _, _ => rfl
  | n + 1, x, y, h => by rw [mCalm, mCalm, mDayB_cg h P (Nat.le_refl P), mCalm_cg n _ _ (mNext_cg (Nat.le_refl P) h)]
theorem dayS_road {σ : ST} {a b P p : Nat} (hab : a + 5 < b ∨ b + 2 < a) : dayS σ a b P p (a + 5) = σ (a + 5) := by funext q; exact dayS_fr (by omega) (by omega)
theorem pdS_calm {a b P : Nat} (hab : a + 5 < b ∨ b + 2 < a) : ∀ n (σ : ST), (pdS a b P n σ).2 = mCalm (σ (a + 5)) P n (σ (b + 1))
  | 0, _ => rfl
  | n + 1, σ => by
    rw [pdS, mCalm]
    split
    · rw [pdS_calm hab n, dayS_road hab, dayS_told]
    · rfl
/-- a day that brings nothing changes nothing -/
theorem mDayB_no {road told : Nat → Int32} {P : Nat} : ∀ n, n ≤ P → mDayB road told P n = false → ∀ q, q < n → mDay1 road told q P = told q
  | 0, _, _, q, hq => absurd hq (Nat.not_lt_zero q)
  | n + 1, hn, h, q, hq => by
    rw [mDayB, Bool.or_eq_false_iff] at h
    rcases Nat.lt_or_ge q n with h1 | h1
    · exact mDayB_no n (by omega) h.1 q h1
    · have h2 := h.2
      rw [show q = n by omega]
      simpa using h2
theorem mNext_no {road told : Nat → Int32} {P : Nat} (h : mDayB road told P P = false) : mNext road told P = told := by
  funext q
  unfold mNext
  split
  · rename_i hq; exact mDayB_no P (Nat.le_refl P) h q hq
  · rfl
theorem mDays_no {road told : Nat → Int32} {P : Nat} (h : mNext road told P = told) : ∀ n, mDays road P n told = told
  | 0 => rfl
  | n + 1 => by rw [mDays, h]; exact mDays_no h n
theorem pdS_told {a b P : Nat} (hab : a + 5 < b ∨ b + 2 < a) : ∀ n (σ : ST), (pdS a b P n σ).1 (b + 1) = mDays (σ (a + 5)) P n (σ (b + 1))
  | 0, _ => rfl
  | n + 1, σ => by
    rw [pdS, mDays]
    split
    · rw [pdS_told hab n, dayS_road hab, dayS_told]
    · rename_i h
      have h1 := mNext_no (Bool.eq_false_iff.mpr h)
      show dayS σ a b P P (b + 1) = _
      rw [dayS_told, mDays_no (by rw [h1]; exact h1) n]
theorem bcm_told (σ : ST) {q : Nat} (h : q < 6) : bcmS σ 26 29 30 q = σ 27 q := by simp [bcmS, h]
theorem bcm_fr {σ : ST} {c : Nat} (h : ¬ kS c) : bcmS σ 26 29 c = σ c := by
  funext q
  simp only [kS] at h
  exact bcmS_fr (by omega) (by omega)
theorem pd_fr {σ : ST} {P n c : Nat} (h : ¬ kS c) : (pdS 20 29 P n (bcmS σ 26 29)).1 c = σ c := by
  funext q
  simp only [kS] at h
  exact (pdS_fr (by omega) (by omega) n _).trans (bcmS_fr (by omega) (by omega))
theorem c_X_calm {G : GT} {d : Nat} {σ : ST} {μ : SL} {W F P t : Nat} (hX : XV σ W F P t) : Fn G (d + 3) mX11_calm [.ref (G.b0 + 0)] (sh G σ μ) (PK G μ σ kS (nI (mCalm (σ 25) P 60 (σ 27)))) := by
  obtain ⟨⟨hW, hF, hP, hW16, hF8, hP6⟩, -⟩ := id hX
  refine fn_of (ls := [some (.ref (G.b0 + 0))]) (by decide +kernel) (Nat.le_of_ble_eq_true rfl) 0 rfl ?_
  refine b_aload_n dX11_calm_0 rfl ?_
  refine g_get dX11_calm_1 fX11_34 a0 rfl ?_
  refine b_aload_n dX11_calm_4 rfl ?_
  refine g_get dX11_calm_5 fX11_30 a0 rfl ?_
  refine g_callV [.ref (G.b0 + 26)] dX11_calm_8 kX8_become lX11_100 a29 rfl rfl (c_Sbecome sa29 sa26 (by omega)) rfl rfl (Nat.le_of_ble_eq_true rfl) ?_
  refine b_aload_n dX11_calm_11 rfl ?_
  refine g_get dX11_calm_12 fX11_34 a0 rfl ?_
  refine b_aload_n dX11_calm_15 rfl ?_
  refine g_get dX11_calm_16 fX11_23 a0 rfl ?_
  refine b_bipush (v := nI 60) dX11_calm_19 (by decide) ?_
  have hL2 : LV (bcmS σ 26 29) 20 W F P := LV_of hX.1 (fun q => bcmS_fr (by omega) (by omega))
  refine g_callV [.ref (G.b0 + 20), .int (nI 60)] dX11_calm_21 kX8_passDays lX11_189 a29 rfl rfl (c_passDays sa29 ln20 hL2 (by omega) (by omega)) rfl rfl (Nat.le_of_ble_eq_true rfl) ?_
  refine b_iret dX11_calm_24 ⟨?_, _, rfl, fun c hc => pd_fr hc⟩
  rw [pdS_calm (by omega)]
  show some (Value.int (nI (mCalm (bcmS σ 26 29 25) P 60 (bcmS σ 26 29 30)))) = _
  rw [bcm_fr (c := 25) (by unfold kS; omega), mCalm_cg 60 _ _ (fun q hq => bcm_told σ (by omega))]
theorem mLst_cg {x y : Nat → Int32} : ∀ n, (∀ q, q < n → x q = y q) → mLst x n = mLst y n
  | 0, _ => rfl
  | n + 1, h => by rw [mLst, mLst, mLst_cg n (fun q hq => h q (by omega)), h n (by omega)]
theorem mLeast_cg {hold wt : Nat → Int32} {gl : Int32} {W F P m w : Nat} {x y : Nat → Int32} (h : ∀ q, q < P → x q = y q) : mLeast hold wt gl W F P m x w = mLeast hold wt gl W F P m y w := by
  unfold mLeast
  rw [mLst_cg P (fun q hq => by rw [h q hq])]
def oLeastIn (L : LD) (m n : Int32) : Int32 := if inR m 4 then (if inR n 61 then lst L (ix m) (mDays L.road L.P (ix n) L.told) L.t else -3) else -2
theorem inR_le {n : Int32} {k : Nat} (hk : k + 1 < 2 ^ 31) (h1 : ¬ n < 0) (h2 : n ≤ nI k) : ∃ j, j ≤ k ∧ n = nI j ∧ inR n (k + 1) = true := by
  obtain ⟨j, hj, rfl⟩ := nI_of h1
  have h3 := (nI_leI hj (by omega)).mp h2
  exact ⟨j, h3, rfl, by rw [inR_nI hj hk]; simp; omega⟩
theorem inR_gt {n : Int32} {k : Nat} (hk : k + 1 < 2 ^ 31) (h2 : ¬ n ≤ nI k) : inR n (k + 1) = false := by
  have h1 : ¬ n < nI (k + 1) := fun z => by
    rcases pk_ix n (n := k + 1) hk with h3 | h3 | ⟨u, hu, rfl⟩
    · exact h2 (Int32.le_trans (Int32.le_of_lt h3) (nI_pos' (by omega)))
    · exact absurd z (Int32.not_lt.mpr h3)
    · exact h2 (nI_le (by omega) (by omega))
  simp [inR, h1]
theorem inR_neg {n : Int32} {k : Nat} (h : n < 0) : inR n k = false := by simp [inR, Int32.not_le.mpr h]
theorem c_X_leastIn {G : GT} {d : Nat} {σ : ST} {μ : SL} {W F P t : Nat} {m n : Int32} (hX : XV σ W F P t) : Fn G (d + 4) mX11_leastIn [.ref (G.b0 + 0), .int m, .int n] (sh G σ μ) (PK G μ σ kS (oLeastIn (vX σ W F P t) m n)) := by
  have ht := hX.t32
  obtain ⟨⟨hW, hF, hP, hW16, hF8, hP6⟩, -⟩ := id hX
  refine fn_of (ls := [some (.ref (G.b0 + 0)), some (.int m), some (.int n)]) (by decide +kernel) (Nat.le_of_ble_eq_true rfl) 0 rfl ?_
  refine b_iload_n dX11_leastIn_0 rfl ?_
  refine b_callSr [.int m] dX11_leastIn_1 kX11_isMeasure lX11_239 c_isMeasure rfl rfl (Nat.le_of_ble_eq_true rfl) ?_
  refine b_if_ne 10 dX11_leastIn_4 (by decide) (fun c1 => ?_) (fun c1 => ?_)
  · skip
    have c2 := (bI_1 _).mp c1
    obtain ⟨k, hk, rfl⟩ := inR_of (by omega) c2
    have hkx := ix_nI (show k < 2 ^ 31 by omega)
    refine b_iload_n dX11_leastIn_10 rfl ?_
    refine b_if_lt 20 dX11_leastIn_11 (by decide) (fun c3 => ?_) (fun c3 => ?_)
    · skip
      refine b_bipush (v := -3) dX11_leastIn_20 (by decide) ?_
      exact b_iret dX11_leastIn_22 ⟨by simp [oLeastIn, c2, inR_neg c3], σ, rfl, fun c _ => rfl⟩
    · skip
      refine b_iload_n dX11_leastIn_14 rfl ?_
      refine b_bipush (v := nI 60) dX11_leastIn_15 (by decide) ?_
      refine b_icmp_le 23 dX11_leastIn_17 (by decide) (fun c4 => ?_) (fun c4 => ?_)
      · skip
        obtain ⟨j, hj, rfl, c5⟩ := inR_le (k := 60) (by omega) c3 c4
        have hix := ix_nI (show j < 2 ^ 31 by omega)
        refine b_aload_n dX11_leastIn_23 rfl ?_
        refine g_get dX11_leastIn_24 fX11_34 a0 rfl ?_
        refine b_aload_n dX11_leastIn_27 rfl ?_
        refine g_get dX11_leastIn_28 fX11_30 a0 rfl ?_
        refine g_callV [.ref (G.b0 + 26)] dX11_leastIn_31 kX8_become lX11_100 a29 rfl rfl (c_Sbecome sa29 sa26 (by omega)) rfl rfl (Nat.le_of_ble_eq_true rfl) ?_
        refine b_aload_n dX11_leastIn_34 rfl ?_
        refine g_get dX11_leastIn_35 fX11_34 a0 rfl ?_
        refine b_aload_n dX11_leastIn_38 rfl ?_
        refine g_get dX11_leastIn_39 fX11_23 a0 rfl ?_
        refine b_iload_n dX11_leastIn_42 rfl ?_
        have hL2 : LV (bcmS σ 26 29) 20 W F P := LV_of hX.1 (fun q => bcmS_fr (by omega) (by omega))
        refine g_callV [.ref (G.b0 + 20), .int (nI j)] dX11_leastIn_43 kX8_passDays lX11_189 a29 rfl rfl (c_passDays sa29 ln20 hL2 (by omega) (by omega)) rfl rfl (Nat.le_of_ble_eq_true rfl) ?_
        have hL3 : LV (pdS 20 29 P j (bcmS σ 26 29)).1 20 W F P := LV_of hX.1 (fun q => congrFun (pd_fr (c := 20) (by unfold kS; omega)) q)
        have ht3 : (pdS 20 29 P j (bcmS σ 26 29)).1 29 2 = nI t := by
          rw [pdS_fr (by omega) (by omega)]
          show bcmS σ 26 29 29 2 = _
          simp [bcmS, hX.2.1]
        refine b_pop dX11_leastIn_46 rfl ?_
        refine b_aload_n dX11_leastIn_47 rfl ?_
        refine g_get dX11_leastIn_48 fX11_23 a0 rfl ?_
        refine b_iload_n dX11_leastIn_51 rfl ?_
        refine b_aload_n dX11_leastIn_52 rfl ?_
        refine g_get dX11_leastIn_53 fX11_34 a0 rfl ?_
        refine g_get dX11_leastIn_56 fX11_142 a29 rfl ?_
        refine b_aload_n dX11_leastIn_59 rfl ?_
        refine g_get dX11_leastIn_60 fX11_34 a0 rfl ?_
        refine g_geti (x := nI t) dX11_leastIn_63 fX11_174 a29 rfl ht3 ?_
        refine g_callV [.int (nI k), .ref (G.b0 + 30), .int (nI t)] dX11_leastIn_66 kX2_leastBy lX11_218 a20 rfl rfl (c_leastBy ln20 a30 hL3 hk (by omega)) rfl rfl (Nat.le_of_ble_eq_true rfl) ?_
        refine b_iret dX11_leastIn_69 ⟨?_, _, rfl, fun c hc => pd_fr hc⟩
        simp only [oLeastIn, c2, c5, hkx, hix, if_true]
        show some (Value.int (mLeast ((pdS 20 29 P j (bcmS σ 26 29)).1 23) ((pdS 20 29 P j (bcmS σ 26 29)).1 22) ((pdS 20 29 P j (bcmS σ 26 29)).1 20 5) W F P k ((pdS 20 29 P j (bcmS σ 26 29)).1 (29 + 1)) t)) = some (Value.int (mLeast (σ 23) (σ 22) (σ 20 5) W F P k (mDays (σ 25) P j (σ 27)) t))
        rw [pd_fr (c := 23) (by unfold kS; omega), pd_fr (c := 22) (by unfold kS; omega), pd_fr (c := 20) (by unfold kS; omega), pdS_told (by omega)]
        rw [mLeast_cg (y := mDays (σ 25) P j (σ 27)) (fun q hq => ?_)]
        show mDays (bcmS σ 26 29 25) P j (bcmS σ 26 29 30) q = _
        rw [bcm_fr (c := 25) (by unfold kS; omega)]
        exact mDays_cg (Nat.le_refl P) j _ _ (fun r hr => bcm_told σ (by omega)) q hq
      · skip
        refine b_bipush (v := -3) dX11_leastIn_20 (by decide) ?_
        exact b_iret dX11_leastIn_22 ⟨by simp [oLeastIn, c2, inR_gt (k := 60) (by omega) c4], σ, rfl, fun c _ => rfl⟩
  · skip
    refine b_bipush (v := -2) dX11_leastIn_7 (by decide) ?_
    exact b_iret dX11_leastIn_9 ⟨by simp [oLeastIn, (bI_0 _).mp c1], σ, rfl, fun c _ => rfl⟩
/-- the day on which one is told a fact: k days from day i on looked at -/
def mTill (road : Nat → Int32) (P p f : Nat) : Nat → Nat → (Nat → Int32) → Int32
  | 0, _, _ => -1
  | k + 1, i, told => if bt (told p) f then nI i else mTill road P p f k (i + 1) (mNext road told P)
theorem mTill_cg {road : Nat → Int32} {P p f m : Nat} (hm : P ≤ m) (hp : p < m) : ∀ k i (x y : Nat → Int32), (∀ q, q < m → x q = y q) → mTill road P p f k i x = mTill road P p f k i y
  | 0, _, _, _, _ => rfl
  | k + 1, i, x, y, h => by rw [mTill, mTill, h p hp, mTill_cg hm hp k (i + 1) _ _ (mNext_cg hm h)]
theorem pdS_1 (a b P : Nat) (σ : ST) : (pdS a b P 1 σ).1 = dayS σ a b P P := by
  rw [pdS]
  split <;> rfl
theorem c_daysTill {G : GT} {d : Nat} {σ : ST} {μ : SL} {W F P t p f : Nat} (hX : XV σ W F P t) (hp : p < 6) (hf : f < 8) : Fn G (d + 3) mX11_daysTill [.ref (G.b0 + 0), .int (nI p), .int (nI f)] (sh G σ μ) (PK G μ σ kS (mTill (σ 25) P p f 6 0 (σ 27))) := by
  obtain ⟨⟨hW, hF, hP, hW16, hF8, hP6⟩, -⟩ := id hX
  refine fn_of (ls := [some (.ref (G.b0 + 0)), some (.int (nI p)), some (.int (nI f)), none]) (by decide +kernel) (Nat.le_of_ble_eq_true rfl) 1 rfl ?_
  refine b_aload_n dX11_daysTill_0 rfl ?_
  refine g_get dX11_daysTill_1 fX11_34 a0 rfl ?_
  refine b_aload_n dX11_daysTill_4 rfl ?_
  refine g_get dX11_daysTill_5 fX11_30 a0 rfl ?_
  refine g_callV [.ref (G.b0 + 26)] dX11_daysTill_8 kX8_become lX11_100 a29 rfl rfl (c_Sbecome sa29 sa26 (by omega)) rfl rfl (Nat.le_of_ble_eq_true rfl) ?_
  refine b_iconst (v := nI 0) dX11_daysTill_11 (by decide) ?_
  refine b_istore_n dX11_daysTill_12 (by decide) rfl ?_
  have lp : ∀ (n i : Nat) (s : ST), i + n = 6 → (∀ c, ¬ kS c → s c = σ c) → mTill (σ 25) P p f n i (s 30) = mTill (σ 25) P p f 6 0 (σ 27) → BB G RX11 cX11_daysTill 4 (some .int) (d + 3) (QM G (PK G μ σ kS (mTill (σ 25) P p f 6 0 (σ 27)))) 13 [some (.ref (G.b0 + 0)), some (.int (nI p)), some (.int (nI f)), some (.int (nI i))] [] (sh G s μ) := by
    intro n
    induction n with
    | zero =>
      intro i s hi hs he
      refine b_iload_n dX11_daysTill_13 rfl ?_
      refine b_bipush (v := nI 6) dX11_daysTill_14 (by decide) ?_
      refine b_icmp_ge_t 57 dX11_daysTill_16 (by decide) (nI_le (by omega) (by omega)) ?_
      refine b_iconst (v := -1) dX11_daysTill_57 (by decide) ?_
      exact b_iret dX11_daysTill_58 ⟨by rw [← he]; rfl, s, rfl, hs⟩
    | succ n ih =>
      intro i s hi hs he
      have hL2 : LV s 20 W F P := LV_of hX.1 (fun q => congrFun (hs 20 (by unfold kS; omega)) q)
      refine b_iload_n dX11_daysTill_13 rfl ?_
      refine b_bipush (v := nI 6) dX11_daysTill_14 (by decide) ?_
      refine b_icmp_ge_f 57 dX11_daysTill_16 (by decide) (nI_ge (by omega) (by omega)) ?_
      refine b_aload_n dX11_daysTill_19 rfl ?_
      refine g_get dX11_daysTill_20 fX11_34 a0 rfl ?_
      refine g_get dX11_daysTill_23 fX11_142 a29 rfl ?_
      refine b_iload_n dX11_daysTill_26 rfl ?_
      refine g_iald dX11_daysTill_27 a30 rfl (by omega) ?_
      refine b_iload_n dX11_daysTill_28 rfl ?_
      refine b_ishr dX11_daysTill_29 ?_
      refine b_iconst (v := nI 1) dX11_daysTill_30 (by decide) ?_
      refine b_iand dX11_daysTill_31 ?_
      refine b_iconst (v := nI 1) dX11_daysTill_32 (by decide) ?_
      refine b_icmp_ne 38 dX11_daysTill_33 (by decide) (fun c1 => ?_) (fun c1 => ?_)
      · skip
        refine b_aload_n dX11_daysTill_38 rfl ?_
        refine g_get dX11_daysTill_39 fX11_34 a0 rfl ?_
        refine b_aload_n dX11_daysTill_42 rfl ?_
        refine g_get dX11_daysTill_43 fX11_23 a0 rfl ?_
        refine b_iconst (v := nI 1) dX11_daysTill_46 (by decide) ?_
        have c2 : ¬ bt (s 30 p) f = true := fun z => c1 ((b_test (by omega)).mpr z)
        refine g_callV [.ref (G.b0 + 20), .int (nI 1)] dX11_daysTill_47 kX8_passDays lX11_189 a29 rfl rfl (c_passDays (n := 1) sa29 ln20 hL2 (by omega) (by omega)) rfl rfl (Nat.le_of_ble_eq_true rfl) ?_
        refine b_pop dX11_daysTill_50 rfl ?_
        refine b_iinc dX11_daysTill_51 rfl (nI_1 _) (by decide) rfl ?_
        refine b_goto 13 dX11_daysTill_54 (by decide) ?_
        rw [mTill, if_neg c2] at he
        rw [pdS_1]
        refine ih (i + 1) _ (by omega) (fun c hc => ?_) ?_
        · funext q
          have hc' : ¬ (29 ≤ c ∧ c ≤ 31) := hc
          exact (dayS_fr (by omega) (by omega)).trans (congrFun (hs c hc) q)
        · rw [← he]
          show mTill (σ 25) P p f n (i + 1) (dayS s 20 29 P P (29 + 1)) = _
          rw [dayS_told]
          show mTill (σ 25) P p f n (i + 1) (mNext (s 25) (s 30) P) = _
          rw [hs 25 (by unfold kS; omega)]
      · skip
        refine b_iload_n dX11_daysTill_36 rfl ?_
        have c2 : bt (s 30 p) f = true := (b_test (by omega)).mp c1
        rw [mTill, if_pos c2] at he
        exact b_iret dX11_daysTill_37 ⟨by rw [← he], s, rfl, hs⟩
  exact lp 6 0 _ (by omega) (fun c hc => bcm_fr hc) (mTill_cg hP6 hp 6 0 _ _ (fun q hq => bcm_told σ hq))
def oNews (L : LD) (p f : Int32) : Int32 := if inR p L.P && inR f L.F then mTill L.road L.P (ix p) (ix f) 6 0 L.told else -2
theorem c_X_news {G : GT} {d : Nat} {σ : ST} {μ : SL} {W F P t : Nat} {p f : Int32} (hX : XV σ W F P t) : Fn G (d + 4) mX11_news [.ref (G.b0 + 0), .int p, .int f] (sh G σ μ) (PK G μ σ kS (oNews (vX σ W F P t) p f)) := by
  obtain ⟨⟨hW, hF, hP, hW16, hF8, hP6⟩, -⟩ := id hX
  refine fn_of (ls := [some (.ref (G.b0 + 0)), some (.int p), some (.int f)]) (by decide +kernel) (Nat.le_of_ble_eq_true rfl) 0 rfl ?_
  refine b_aload_n dX11_news_0 rfl ?_
  refine b_iload_n dX11_news_1 rfl ?_
  refine g_callV [.int p] dX11_news_2 kX11_isPerson lX11_136 a0 rfl rfl (c_isPerson hP) rfl rfl (Nat.le_of_ble_eq_true rfl) ?_
  refine b_if_eq 25 dX11_news_5 (by decide) (fun c1 => ?_) (fun c1 => ?_)
  · skip
    refine b_bipush (v := -2) dX11_news_25 (by decide) ?_
    exact b_iret dX11_news_27 ⟨by simp [oNews, (bI_0 _).mp c1], σ, rfl, fun c _ => rfl⟩
  · skip
    have c2 := (bI_1 _).mp c1
    obtain ⟨j, hj, rfl⟩ := inR_of (by omega) c2
    have hix := ix_nI (show j < 2 ^ 31 by omega)
    refine b_aload_n dX11_news_8 rfl ?_
    refine b_iload_n dX11_news_9 rfl ?_
    refine g_callV [.int f] dX11_news_10 kX11_isFact lX11_130 a0 rfl rfl (c_isFact hF) rfl rfl (Nat.le_of_ble_eq_true rfl) ?_
    refine b_if_eq 25 dX11_news_13 (by decide) (fun c3 => ?_) (fun c3 => ?_)
    · skip
      refine b_bipush (v := -2) dX11_news_25 (by decide) ?_
      exact b_iret dX11_news_27 ⟨by simp [oNews, (bI_0 _).mp c3], σ, rfl, fun c _ => rfl⟩
    · skip
      have c4 := (bI_1 _).mp c3
      obtain ⟨k, hk, rfl⟩ := inR_of (by omega) c4
      have hkx := ix_nI (show k < 2 ^ 31 by omega)
      refine b_aload_n dX11_news_16 rfl ?_
      refine b_iload_n dX11_news_17 rfl ?_
      refine b_iload_n dX11_news_18 rfl ?_
      refine g_callVp [.int (nI j), .int (nI k)] dX11_news_19 kX11_daysTill lX11_295 a0 rfl rfl (c_daysTill hX (by omega) (by omega)) rfl rfl (Nat.le_of_ble_eq_true rfl) ?_
      rintro r h' ⟨rfl, s, rfl, hs⟩
      refine b_goto 27 dX11_news_22 (by decide) ?_
      exact b_iret dX11_news_27 ⟨by simp only [oNews, c2, c4, hix, hkx, Bool.and_self, if_true], s, rfl, hs⟩

