/-! ===== the reference: differ, appeals, count, fault ===== -/
def rD1 (x y : Nat → Int32) (p : Nat) : Nat → Nat
  | 0 => 0
  | q + 1 => rD1 x y p q + if x q < x p ∧ y p < y q then 1 else 0
def rD (x y : Nat → Int32) (P : Nat) : Nat → Nat
  | 0 => 0
  | p + 1 => rD x y P p + rD1 x y p P
theorem cm_cases (a b : Int32) : (a < b ∧ mCmp a b = -1) ∨ (a = b ∧ mCmp a b = nI 0) ∨ (b < a ∧ mCmp a b = nI 1) := by
  unfold mCmp
  by_cases h1 : a < b
  · exact Or.inl ⟨h1, by rw [if_pos h1]⟩
  · rw [if_neg h1]
    by_cases h2 : a = b
    · exact Or.inr (Or.inl ⟨h2, by rw [if_pos h2]⟩)
    · refine Or.inr (Or.inr ⟨?_, by rw [if_neg h2]⟩)
      exact Int32.lt_of_le_of_ne (Int32.not_lt.mp h1) (Ne.symm h2)
theorem cm_neg {x y : Nat → Int32} {p q : Nat} : mCmp (x p) (x q) * mCmp (y p) (y q) < 0 ↔ (x q < x p ∧ y p < y q) ∨ (x p < x q ∧ y q < y p) := by
  have irr : ∀ a b : Int32, a < b → b < a → False := fun a b h1 h2 => Int32.lt_irrefl (Int32.lt_trans h1 h2)
  rcases cm_cases (x p) (x q) with ⟨h1, e1⟩ | ⟨h1, e1⟩ | ⟨h1, e1⟩ <;> rcases cm_cases (y p) (y q) with ⟨h2, e2⟩ | ⟨h2, e2⟩ | ⟨h2, e2⟩ <;> rw [e1, e2]
  · exact ⟨fun h => absurd h (by decide), fun h => h.elim (fun z => (irr _ _ z.1 h1).elim) (fun z => (irr _ _ z.2 h2).elim)⟩
  · exact ⟨fun h => absurd h (by decide), fun h => h.elim (fun z => (irr _ _ z.1 h1).elim) (fun z => by rw [h2] at z; exact absurd z.2 Int32.lt_irrefl)⟩
  · exact ⟨fun _ => Or.inr ⟨h1, h2⟩, fun _ => by decide⟩
  · exact ⟨fun h => absurd h (by decide), fun h => h.elim (fun z => by rw [h1] at z; exact absurd z.1 Int32.lt_irrefl) (fun z => by rw [h1] at z; exact absurd z.1 Int32.lt_irrefl)⟩
  · exact ⟨fun h => absurd h (by decide), fun h => h.elim (fun z => by rw [h1] at z; exact absurd z.1 Int32.lt_irrefl) (fun z => by rw [h1] at z; exact absurd z.1 Int32.lt_irrefl)⟩
  · exact ⟨fun h => absurd h (by decide), fun h => h.elim (fun z => by rw [h1] at z; exact absurd z.1 Int32.lt_irrefl) (fun z => by rw [h1] at z; exact absurd z.1 Int32.lt_irrefl)⟩
  · exact ⟨fun _ => Or.inl ⟨h1, h2⟩, fun _ => by decide⟩
  · exact ⟨fun h => absurd h (by decide), fun h => h.elim (fun z => by rw [h2] at z; exact absurd z.2 Int32.lt_irrefl) (fun z => (irr _ _ z.1 h1).elim)⟩
  · exact ⟨fun h => absurd h (by decide), fun h => h.elim (fun z => (irr _ _ z.2 h2).elim) (fun z => (irr _ _ z.1 h1).elim)⟩
def dC (x y : Nat → Int32) (p q : Nat) : Nat := if x q < x p ∧ y p < y q then 1 else 0
theorem dC_pair {x y : Nat → Int32} {p q : Nat} : (if mCmp (x p) (x q) * mCmp (y p) (y q) < 0 then 1 else 0) = dC x y p q + dC x y q p := by
  unfold dC
  have h := cm_neg (x := x) (y := y) (p := p) (q := q)
  by_cases h1 : x q < x p ∧ y p < y q
  · have h2 : ¬ (x p < x q ∧ y q < y p) := fun z => Int32.lt_irrefl (Int32.lt_trans h1.1 z.1)
    rw [if_pos (h.mpr (Or.inl h1)), if_pos h1, if_neg h2]
  · rw [if_neg h1]
    by_cases h2 : x p < x q ∧ y q < y p
    · rw [if_pos (h.mpr (Or.inr h2)), if_pos h2]
    · rw [if_neg (fun z => (h.mp z).elim h1 h2), if_neg h2]
theorem dC_self {x y : Nat → Int32} {p : Nat} : dC x y p p = 0 := if_neg (fun z => Int32.lt_irrefl z.1)
def sm (g : Nat → Nat) : Nat → Nat
  | 0 => 0
  | n + 1 => sm g n + g n
theorem sm_add {g h : Nat → Nat} : ∀ n, sm (fun k => g k + h k) n = sm g n + sm h n
  | 0 => rfl
  | n + 1 => by rw [sm, sm, sm, sm_add n]; omega
theorem rD1_sm {x y : Nat → Int32} {p : Nat} : ∀ n, rD1 x y p n = sm (dC x y p) n
  | 0 => rfl
  | n + 1 => by rw [rD1, sm, rD1_sm n]; rfl
theorem rD_sm {x y : Nat → Int32} {P : Nat} : ∀ n, rD x y P n = sm (fun p => sm (dC x y p) P) n
  | 0 => rfl
  | n + 1 => by rw [rD, sm, rD_sm n, rD1_sm]
theorem mDf_sm {x y : Nat → Int32} {P : Nat} : ∀ n, mDf x y P n = sm (fun p => mDf1 x y p P) n
  | 0 => rfl
  | n + 1 => by rw [mDf, sm, mDf_sm n]
theorem sm_cg {g h : Nat → Nat} : ∀ n, (∀ k, k < n → g k = h k) → sm g n = sm h n
  | 0, _ => rfl
  | n + 1, e => by rw [sm, sm, sm_cg n (fun k hk => e k (by omega)), e n (by omega)]
theorem df_eq {x y : Nat → Int32} : ∀ P, sm (fun p => mDf1 x y p P) P = sm (fun p => sm (dC x y p) P) P
  | 0 => rfl
  | P + 1 => by
    have ih := df_eq (x := x) (y := y) P
    have e1 : sm (fun p => mDf1 x y p (P + 1)) P = sm (fun p => mDf1 x y p P) P + sm (fun p => dC x y p P + dC x y P p) P := by
      rw [← sm_add]
      refine sm_cg P (fun p hp => ?_)
      rw [mDf1]
      have : (if p < P ∧ mCmp (x p) (x P) * mCmp (y p) (y P) < 0 then 1 else 0) = if mCmp (x p) (x P) * mCmp (y p) (y P) < 0 then 1 else 0 := by simp [hp]
      rw [this, dC_pair]
    have e2 : sm (fun p => sm (dC x y p) (P + 1)) P = sm (fun p => sm (dC x y p) P) P + sm (fun p => dC x y p P) P := by rw [← sm_add]; rfl
    have e3 : sm (fun p => dC x y p P + dC x y P p) P = sm (fun p => dC x y p P) P + sm (dC x y P) P := sm_add P
    rw [sm, sm, e1, e2, ih, e3]
    have e4 : mDf1 x y P (P + 1) = 0 := mDf1_0 x y P (P + 1) (by omega)
    have e5 : sm (dC x y P) (P + 1) = sm (dC x y P) P := by rw [sm, dC_self]; rfl
    show _ + mDf1 x y P (P + 1) = _ + sm (dC x y P) (P + 1)
    rw [e4, e5]; omega
theorem rD_eq {x y : Nat → Int32} {P : Nat} : rD x y P P = mDf x y P P := by rw [rD_sm, mDf_sm, df_eq]
theorem m_X_differ {G : GT} {d : Nat} {σ : ST} {μ : SL} {L : LD} {m n : Int32} (hM : MV σ L) : Fn G (d + 4) mX12_differ [.ref (G.b0 + 77), .int m, .int n] (sh G σ μ) (Ret (some (.int (oDiffer L m n))) (sh G σ μ)) := by
  have hb := hM.b
  refine fn_of (ls := [some (.ref (G.b0 + 77)), some (.int m), some (.int n), none, none, none]) (by decide +kernel) (Nat.le_of_ble_eq_true rfl) 3 rfl ?_
  refine b_aload_n dX12_differ_0 rfl ?_
  refine b_iconst (v := nI 0) dX12_differ_1 (by decide) ?_
  refine g_put dX12_differ_2 wX12_1 a77 tfX12_0 (Nat.le_of_ble_eq_true rfl) rfl ?_
  refine b_sig hM.t0 ?_
  refine b_iload_n dX12_differ_5 rfl ?_
  refine b_i2l dX12_differ_6 ?_
  refine b_lconst (v := 0) dX12_differ_7 (by decide) ?_
  refine b_ldc2 dX12_differ_8 cvX12_289 ?_
  refine b_callSr [.long m.toInt64, .long 0, .long ((3))] dX12_differ_11 kX12_within lX12_145 c_within rfl rfl (Nat.le_of_ble_eq_true rfl) ?_
  rw [wi_m]
  refine b_if_eq 29 dX12_differ_14 (by decide) (fun c1 => ?_) (fun c1 => ?_)
  · skip
    refine b_bipush (v := -2) dX12_differ_29 (by decide) ?_
    exact b_iret dX12_differ_31 ⟨by simp [oDiffer, (bI_0 _).mp c1], rfl⟩
  · skip
    have c2 := (bI_1 _).mp c1
    obtain ⟨j, hj, rfl⟩ := inR_of (by omega) c2
    have hjx := ix_nI (show j < 2 ^ 31 by omega)
    refine b_iload_n dX12_differ_17 rfl ?_
    refine b_i2l dX12_differ_18 ?_
    refine b_lconst (v := 0) dX12_differ_19 (by decide) ?_
    refine b_ldc2 dX12_differ_20 cvX12_289 ?_
    refine b_callSr [.long n.toInt64, .long 0, .long ((3))] dX12_differ_23 kX12_within lX12_145 c_within rfl rfl (Nat.le_of_ble_eq_true rfl) ?_
    rw [wi_m]
    refine b_if_ne 32 dX12_differ_26 (by decide) (fun c3 => ?_) (fun c3 => ?_)
    · skip
      have c4 := (bI_1 _).mp c3
      obtain ⟨k, hk, rfl⟩ := inR_of (by omega) c4
      have hkx := ix_nI (show k < 2 ^ 31 by omega)
      refine b_iconst (v := nI 0) dX12_differ_32 (by decide) ?_
      refine b_istore_n dX12_differ_33 (by decide) rfl ?_
      refine b_iconst (v := nI 0) dX12_differ_34 (by decide) ?_
      refine b_istore dX12_differ_35 (by decide) rfl ?_
      have eD : oDiffer L (nI j) (nI k) = nI (rD (fun p => amt L j p L.t) (fun p => amt L k p L.t) L.P L.P) := by rw [rD_eq]; simp [oDiffer, c2, c4, hjx, hkx]
      generalize hx : (fun p => amt L j p L.t) = xx at eD
      generalize hy : (fun p => amt L k p L.t) = yy at eD
      have ex : ∀ p, amt L j p L.t = xx p := fun p => by rw [← hx]
      have ey : ∀ p, amt L k p L.t = yy p := fun p => by rw [← hy]
      have lp : ∀ (n i : Nat) (z5 : Option Value), i + n = L.P → BB G RX12 cX12_differ 6 (some .int) (d + 4) (QM G (Ret (some (.int (oDiffer L (nI j) (nI k)))) (sh G σ μ))) 37 [some (.ref (G.b0 + 77)), some (.int (nI j)), some (.int (nI k)), some (.int (nI (rD xx yy L.P i))), some (.int (nI i)), z5] [] (sh G σ μ) := by
        intro n
        induction n with
        | zero =>
          intro i z5 hi
          refine b_iload dX12_differ_37 rfl ?_
          refine b_aload_n dX12_differ_39 rfl ?_
          refine g_get dX12_differ_40 fX12_13 a77 rfl ?_
          refine b_iconst (v := nI 3) dX12_differ_43 (by decide) ?_
          refine g_iald dX12_differ_44 a78 rfl (by omega) ?_
          refine b_top hM.cP ?_
          refine b_icmp_ge_t 116 dX12_differ_45 (by decide) (nI_le (by omega) (by omega)) ?_
          refine b_iload_n dX12_differ_116 rfl ?_
          exact b_iret dX12_differ_117 ⟨by rw [eD, show i = L.P by omega], rfl⟩
        | succ n ih =>
          intro i z5 hi
          refine b_iload dX12_differ_37 rfl ?_
          refine b_aload_n dX12_differ_39 rfl ?_
          refine g_get dX12_differ_40 fX12_13 a77 rfl ?_
          refine b_iconst (v := nI 3) dX12_differ_43 (by decide) ?_
          refine g_iald dX12_differ_44 a78 rfl (by omega) ?_
          refine b_top hM.cP ?_
          refine b_icmp_ge_f 116 dX12_differ_45 (by decide) (nI_ge (by omega) (by omega)) ?_
          refine b_iconst (v := nI 0) dX12_differ_48 (by decide) ?_
          refine b_istore dX12_differ_49 (by decide) rfl ?_
          have lp2 : ∀ (m q : Nat), q + m = L.P → BB G RX12 cX12_differ 6 (some .int) (d + 4) (QM G (Ret (some (.int (oDiffer L (nI j) (nI k)))) (sh G σ μ))) 51 [some (.ref (G.b0 + 77)), some (.int (nI j)), some (.int (nI k)), some (.int (nI (rD xx yy L.P i + rD1 xx yy i q))), some (.int (nI i)), some (.int (nI q))] [] (sh G σ μ) := by
            intro m
            induction m with
            | zero =>
              intro q hq
              refine b_iload dX12_differ_51 rfl ?_
              refine b_aload_n dX12_differ_53 rfl ?_
              refine g_get dX12_differ_54 fX12_13 a77 rfl ?_
              refine b_iconst (v := nI 3) dX12_differ_57 (by decide) ?_
              refine g_iald dX12_differ_58 a78 rfl (by omega) ?_
              refine b_top hM.cP ?_
              refine b_icmp_ge_t 110 dX12_differ_59 (by decide) (nI_le (by omega) (by omega)) ?_
              refine b_iinc dX12_differ_110 rfl (nI_1 _) (by decide) rfl ?_
              refine b_goto 37 dX12_differ_113 (by decide) ?_
              have e : q = L.P := by omega
              subst e
              exact ih (i + 1) _ (by omega)
            | succ m ihm =>
              intro q hq
              have no : ¬ (xx q < xx i ∧ yy i < yy q) → BB G RX12 cX12_differ 6 (some .int) (d + 4) (QM G (Ret (some (.int (oDiffer L (nI j) (nI k)))) (sh G σ μ))) 101 [some (.ref (G.b0 + 77)), some (.int (nI j)), some (.int (nI k)), some (.int (nI (rD xx yy L.P i + rD1 xx yy i q))), some (.int (nI i)), some (.int (nI q))] [.int (nI (rD xx yy L.P i + rD1 xx yy i q))] (sh G σ μ) := by
                intro hno
                refine b_iconst (v := nI 0) dX12_differ_101 (by decide) ?_
                refine b_iaddN dX12_differ_102 ?_
                refine b_istore_n dX12_differ_103 (by decide) rfl ?_
                refine b_iinc dX12_differ_104 rfl (nI_1 _) (by decide) rfl ?_
                refine b_goto 51 dX12_differ_107 (by decide) ?_
                refine b_locs ?_ (ihm (q + 1) (by omega))
                rw [rD1, if_neg hno]; rfl
              refine b_iload dX12_differ_51 rfl ?_
              refine b_aload_n dX12_differ_53 rfl ?_
              refine g_get dX12_differ_54 fX12_13 a77 rfl ?_
              refine b_iconst (v := nI 3) dX12_differ_57 (by decide) ?_
              refine g_iald dX12_differ_58 a78 rfl (by omega) ?_
              refine b_top hM.cP ?_
              refine b_icmp_ge_f 110 dX12_differ_59 (by decide) (nI_ge (by omega) (by omega)) ?_
              refine b_iload_n dX12_differ_62 rfl ?_
              refine b_aload_n dX12_differ_63 rfl ?_
              refine b_iload dX12_differ_64 rfl ?_
              refine b_iload_n dX12_differ_66 rfl ?_
              refine g_callV [.int (nI i), .int (nI j)] dX12_differ_67 kX12_measureNow lX12_327 a77 rfl rfl (m_measureNow hM hj (by omega)) rfl rfl (Nat.le_of_ble_eq_true rfl) ?_
              refine b_aload_n dX12_differ_70 rfl ?_
              refine b_iload dX12_differ_71 rfl ?_
              refine b_iload_n dX12_differ_73 rfl ?_
              refine g_callV [.int (nI q), .int (nI j)] dX12_differ_74 kX12_measureNow lX12_327 a77 rfl rfl (m_measureNow hM hj (by omega)) rfl rfl (Nat.le_of_ble_eq_true rfl) ?_
              rw [ex, ex]
              refine b_icmp_le 101 dX12_differ_77 (by decide) (fun c5 => ?_) (fun c5 => ?_)
              · skip
                exact no (fun z => absurd z.1 (Int32.not_lt.mpr c5))
              · skip
                refine b_aload_n dX12_differ_80 rfl ?_
                refine b_iload dX12_differ_81 rfl ?_
                refine b_iload_n dX12_differ_83 rfl ?_
                refine g_callV [.int (nI i), .int (nI k)] dX12_differ_84 kX12_measureNow lX12_327 a77 rfl rfl (m_measureNow hM hk (by omega)) rfl rfl (Nat.le_of_ble_eq_true rfl) ?_
                refine b_aload_n dX12_differ_87 rfl ?_
                refine b_iload dX12_differ_88 rfl ?_
                refine b_iload_n dX12_differ_90 rfl ?_
                refine g_callV [.int (nI q), .int (nI k)] dX12_differ_91 kX12_measureNow lX12_327 a77 rfl rfl (m_measureNow hM hk (by omega)) rfl rfl (Nat.le_of_ble_eq_true rfl) ?_
                rw [ey, ey]
                refine b_icmp_ge 101 dX12_differ_94 (by decide) (fun c6 => ?_) (fun c6 => ?_)
                · skip
                  exact no (fun z => absurd z.2 (Int32.not_lt.mpr c6))
                · skip
                  refine b_iconst (v := nI 1) dX12_differ_97 (by decide) ?_
                  refine b_goto 102 dX12_differ_98 (by decide) ?_
                  refine b_iaddN dX12_differ_102 ?_
                  refine b_istore_n dX12_differ_103 (by decide) rfl ?_
                  refine b_iinc dX12_differ_104 rfl (nI_1 _) (by decide) rfl ?_
                  refine b_goto 51 dX12_differ_107 (by decide) ?_
                  refine b_locs ?_ (ihm (q + 1) (by omega))
                  rw [rD1, if_pos ⟨Int32.not_le.mp c5, Int32.not_le.mp c6⟩]; rfl
          exact lp2 L.P 0 (by omega)
      exact lp L.P 0 _ (by omega)
    · skip
      refine b_bipush (v := -2) dX12_differ_29 (by decide) ?_
      exact b_iret dX12_differ_31 ⟨by simp [oDiffer, (bI_0 _).mp c3], rfl⟩
/-! appeals -/
def grC (x : Nat → Int32) (a : Int32) : Nat → Nat
  | 0 => 0
  | q + 1 => grC x a q + if a < x q then 1 else 0
theorem grC_le {x : Nat → Int32} {a b : Int32} (h : a ≤ b) : ∀ n, grC x b n ≤ grC x a n
  | 0 => Nat.le_refl _
  | n + 1 => by
    have ih := grC_le (x := x) h n
    unfold grC
    by_cases h1 : b < x n
    · rw [if_pos h1, if_pos (Int32.lt_of_le_of_lt h h1)]; omega
    · rw [if_neg h1]; split <;> omega
theorem grC_lt {x : Nat → Int32} {a : Int32} {j : Nat} (h : a < x j) : ∀ n, j < n → grC x (x j) n < grC x a n
  | 0, hn => absurd hn (by omega)
  | n + 1, hn => by
    unfold grC
    by_cases e : j = n
    · subst e
      have := grC_le (x := x) (Int32.le_of_lt h) j
      rw [if_neg Int32.lt_irrefl, if_pos h]; omega
    · have ih := grC_lt h n (by omega)
      by_cases h1 : x j < x n
      · rw [if_pos h1, if_pos (Int32.lt_trans h h1)]; omega
      · rw [if_neg h1]; split <;> omega
theorem grC_b {x : Nat → Int32} {j : Nat} : ∀ n, j < n → grC x (x j) n < n
  | 0, hn => absurd hn (by omega)
  | n + 1, hn => by
    have hb : ∀ m a, grC x a m ≤ m := by
      intro m
      induction m with
      | zero => intro a; exact Nat.le_refl _
      | succ m ih => intro a; unfold grC; have := ih a; split <;> omega
    unfold grC
    by_cases e : j = n
    · subst e
      rw [if_neg Int32.lt_irrefl]; have := hb j (x j); omega
    · have ih := grC_b (x := x) (j := j) n (by omega)
      split <;> omega
theorem mUp_gt {x : Nat → Int32} {a : Int32} : ∀ n, (mUp x a n).1 = -1 ∨ ∃ q, q < n ∧ (mUp x a n) = (nI q, x q) ∧ a < x q
  | 0 => Or.inl rfl
  | n + 1 => by
    rw [mUp]
    have ih := mUp_gt (x := x) (a := a) n
    have up : (mUp x a n).1 = -1 ∨ ∃ q, q < n + 1 ∧ (mUp x a n) = (nI q, x q) ∧ a < x q := ih.elim Or.inl (fun ⟨q, h1, h2⟩ => Or.inr ⟨q, by omega, h2⟩)
    split
    · exact up
    · rename_i h
      split
      · exact Or.inr ⟨n, by omega, rfl, Int32.not_le.mp h⟩
      · exact up
theorem m_X_appeals {G : GT} {d : Nat} {σ : ST} {μ : SL} {L : LD} {p m x : Int32} (hM : MV σ L) : Fn G (d + 4) mX12_appeals [.ref (G.b0 + 77), .int p, .int m, .int x] (sh G σ μ) (Ret (some (.int (oAppeals L p m x))) (sh G σ μ)) := by
  have hb := hM.b
  have wi2 : (decide ((0 : Int64) ≤ x.toInt64) && decide (x.toInt64 ≤ 1)) = inR x 2 := by
    rw [← inL_R (n := 2) (by omega), ← wi_L (n := 2) (by omega)]; rfl
  refine fn_of (ls := [some (.ref (G.b0 + 77)), some (.int p), some (.int m), some (.int x), none, none, none, none]) (by decide +kernel) (Nat.le_of_ble_eq_true rfl) 4 rfl ?_
  refine b_aload_n dX12_appeals_0 rfl ?_
  refine b_iconst (v := nI 0) dX12_appeals_1 (by decide) ?_
  refine g_put dX12_appeals_2 wX12_1 a77 tfX12_0 (Nat.le_of_ble_eq_true rfl) rfl ?_
  refine b_sig hM.t0 ?_
  refine b_aload_n dX12_appeals_5 rfl ?_
  refine b_iload_n dX12_appeals_6 rfl ?_
  refine b_i2l dX12_appeals_7 ?_
  refine g_callV [.long p.toInt64] dX12_appeals_8 kX12_isPerson lX12_245 a77 rfl rfl (m_isPersonI hM) rfl rfl (Nat.le_of_ble_eq_true rfl) ?_
  refine b_if_eq 36 dX12_appeals_11 (by decide) (fun c1 => ?_) (fun c1 => ?_)
  · skip
    refine b_bipush (v := -2) dX12_appeals_36 (by decide) ?_
    exact b_iret dX12_appeals_38 ⟨by simp [oAppeals, (bI_0 _).mp c1], rfl⟩
  · skip
    have c2 := (bI_1 _).mp c1
    obtain ⟨j, hj, rfl⟩ := inR_of (by omega) c2
    have hjx := ix_nI (show j < 2 ^ 31 by omega)
    refine b_iload_n dX12_appeals_14 rfl ?_
    refine b_i2l dX12_appeals_15 ?_
    refine b_lconst (v := 0) dX12_appeals_16 (by decide) ?_
    refine b_ldc2 dX12_appeals_17 cvX12_289 ?_
    refine b_callSr [.long m.toInt64, .long 0, .long ((3))] dX12_appeals_20 kX12_within lX12_145 c_within rfl rfl (Nat.le_of_ble_eq_true rfl) ?_
    rw [wi_m]
    refine b_if_eq 36 dX12_appeals_23 (by decide) (fun c3 => ?_) (fun c3 => ?_)
    · skip
      refine b_bipush (v := -2) dX12_appeals_36 (by decide) ?_
      exact b_iret dX12_appeals_38 ⟨by simp [oAppeals, (bI_0 _).mp c3], rfl⟩
    · skip
      have c4 := (bI_1 _).mp c3
      obtain ⟨k, hk, rfl⟩ := inR_of (by omega) c4
      have hkx := ix_nI (show k < 2 ^ 31 by omega)
      refine b_iload_n dX12_appeals_26 rfl ?_
      refine b_i2l dX12_appeals_27 ?_
      refine b_lconst (v := 0) dX12_appeals_28 (by decide) ?_
      refine b_lconst (v := 1) dX12_appeals_29 (by decide) ?_
      refine b_callSr [.long x.toInt64, .long 0, .long 1] dX12_appeals_30 kX12_within lX12_145 c_within rfl rfl (Nat.le_of_ble_eq_true rfl) ?_
      rw [wi2]
      refine b_if_ne 39 dX12_appeals_33 (by decide) (fun c5 => ?_) (fun c5 => ?_)
      · skip
        have c6 := (bI_1 _).mp c5
        refine b_iconst (v := nI 0) dX12_appeals_39 (by decide) ?_
        refine b_istore dX12_appeals_40 (by decide) rfl ?_
        refine b_iload_n dX12_appeals_42 rfl ?_
        refine b_istore dX12_appeals_43 (by decide) rfl ?_
        have eA : oAppeals L (nI j) (nI k) x = if x = 0 then nI (mApp (fun q => amt L k q L.t) L.P 6 j).1 else nI (mApp (fun q => amt L k q L.t) L.P 6 j).2 := by simp [oAppeals, c2, c4, c6, hjx, hkx]
        generalize hx : (fun p => amt L k p L.t) = xx at eA
        have ex : ∀ p, amt L k p L.t = xx p := fun p => by rw [← hx]
        have lp : ∀ (f i who : Nat) (z6 z7 : Option Value), who < L.P → grC xx (xx who) L.P < f → i + f ≤ 6 → (mApp xx L.P 6 j).1 = i + (mApp xx L.P f who).1 → (mApp xx L.P 6 j).2 = (mApp xx L.P f who).2 → BB G RX12 cX12_appeals 8 (some .int) (d + 4) (QM G (Ret (some (.int (oAppeals L (nI j) (nI k) x))) (sh G σ μ))) 45 [some (.ref (G.b0 + 77)), some (.int (nI j)), some (.int (nI k)), some (.int x), some (.int (nI i)), some (.int (nI who)), z6, z7] [] (sh G σ μ) := by
          intro f
          induction f with
          | zero => intro i who z6 z7 hw hg; omega
          | succ f ih =>
            intro i who z6 z7 hw hg hif e1 e2
            refine b_iconst (v := -1) dX12_appeals_45 (by decide) ?_
            refine b_istore dX12_appeals_46 (by decide) rfl ?_
            refine b_iconst (v := nI 0) dX12_appeals_48 (by decide) ?_
            refine b_istore dX12_appeals_49 (by decide) rfl ?_
            have lp2 : ∀ (n q : Nat), q + n = L.P → BB G RX12 cX12_appeals 8 (some .int) (d + 4) (QM G (Ret (some (.int (oAppeals L (nI j) (nI k) x))) (sh G σ μ))) 51 [some (.ref (G.b0 + 77)), some (.int (nI j)), some (.int (nI k)), some (.int x), some (.int (nI i)), some (.int (nI who)), some (.int (mUp xx (xx who) q).1), some (.int (nI q))] [] (sh G σ μ) := by
              intro n
              induction n with
              | zero =>
                intro q hq
                refine b_iload dX12_appeals_51 rfl ?_
                refine b_aload_n dX12_appeals_53 rfl ?_
                refine g_get dX12_appeals_54 fX12_13 a77 rfl ?_
                refine b_iconst (v := nI 3) dX12_appeals_57 (by decide) ?_
                refine g_iald dX12_appeals_58 a78 rfl (by omega) ?_
                refine b_top hM.cP ?_
                refine b_icmp_ge_t 112 dX12_appeals_59 (by decide) (nI_le (by omega) (by omega)) ?_
                have e : q = L.P := by omega
                subst e
                refine b_iload dX12_appeals_112 rfl ?_
                refine b_iconst (v := -1) dX12_appeals_114 (by decide) ?_
                refine b_icmp_ne 130 dX12_appeals_115 (by decide) (fun c8 => ?_) (fun c8 => ?_)
                · skip
                  rcases mUp_gt (x := xx) (a := xx who) L.P with h | ⟨w', h1, h2, h3⟩
                  · exact absurd h c8
                  · have h4 : (mUp xx (xx who) L.P).1 = nI w' := by rw [h2]
                    have e9 : mApp xx L.P (f + 1) who = ((mApp xx L.P f w').1 + 1, (mApp xx L.P f w').2) := by rw [mApp, if_neg c8, h4, ix_nI (by omega)]
                    rw [e9] at e1 e2
                    have e1' : (mApp xx L.P 6 j).1 = i + ((mApp xx L.P f w').1 + 1) := e1
                    refine b_iload dX12_appeals_130 rfl ?_
                    refine b_istore dX12_appeals_132 (by decide) rfl ?_
                    refine b_iinc dX12_appeals_134 rfl (nI_1 _) (by decide) rfl ?_
                    refine b_goto 45 dX12_appeals_137 (by decide) ?_
                    refine b_locs ?_ (ih (i + 1) w' (some (.int (nI w'))) (some (.int (nI L.P))) h1 ?_ (by omega) (by omega) e2)
                    · rw [h4]; rfl
                    · have := grC_lt h3 L.P h1; omega
                · skip
                  have e9 : mApp xx L.P (f + 1) who = (0, who) := by rw [mApp, if_pos c8]
                  rw [e9] at e1 e2
                  refine b_iload_n dX12_appeals_118 rfl ?_
                  refine b_if_ne 127 dX12_appeals_119 (by decide) (fun c9 => ?_) (fun c9 => ?_)
                  · skip
                    refine b_iload dX12_appeals_127 rfl ?_
                    exact b_iret dX12_appeals_129 ⟨by rw [eA, if_neg c9, e2], rfl⟩
                  · skip
                    refine b_iload dX12_appeals_122 rfl ?_
                    refine b_goto 129 dX12_appeals_124 (by decide) ?_
                    exact b_iret dX12_appeals_129 ⟨by rw [eA, if_pos c9, e1, Nat.add_zero], rfl⟩
              | succ n ihn =>
                intro q hq
                have hu := mUp_gt (x := xx) (a := xx who) q
                have eU : mUp xx (xx who) (q + 1) = if xx q ≤ xx who then mUp xx (xx who) q else if (mUp xx (xx who) q).1 = -1 ∨ xx q < (mUp xx (xx who) q).2 then (nI q, xx q) else mUp xx (xx who) q := by rw [mUp]
                have keep : (mUp xx (xx who) (q + 1)).1 = (mUp xx (xx who) q).1 → BB G RX12 cX12_appeals 8 (some .int) (d + 4) (QM G (Ret (some (.int (oAppeals L (nI j) (nI k) x))) (sh G σ μ))) 106 [some (.ref (G.b0 + 77)), some (.int (nI j)), some (.int (nI k)), some (.int x), some (.int (nI i)), some (.int (nI who)), some (.int (mUp xx (xx who) q).1), some (.int (nI q))] [] (sh G σ μ) := by
                  intro h9
                  refine b_iinc dX12_appeals_106 rfl (nI_1 _) (by decide) rfl ?_
                  refine b_goto 51 dX12_appeals_109 (by decide) ?_
                  refine b_locs ?_ (ihn (q + 1) (by omega))
                  rw [h9]; rfl
                have tk : (mUp xx (xx who) (q + 1)).1 = nI q → BB G RX12 cX12_appeals 8 (some .int) (d + 4) (QM G (Ret (some (.int (oAppeals L (nI j) (nI k) x))) (sh G σ μ))) 102 [some (.ref (G.b0 + 77)), some (.int (nI j)), some (.int (nI k)), some (.int x), some (.int (nI i)), some (.int (nI who)), some (.int (mUp xx (xx who) q).1), some (.int (nI q))] [] (sh G σ μ) := by
                  intro h9
                  refine b_iload dX12_appeals_102 rfl ?_
                  refine b_istore dX12_appeals_104 (by decide) rfl ?_
                  refine b_iinc dX12_appeals_106 rfl (nI_1 _) (by decide) rfl ?_
                  refine b_goto 51 dX12_appeals_109 (by decide) ?_
                  refine b_locs ?_ (ihn (q + 1) (by omega))
                  rw [h9]; rfl
                refine b_iload dX12_appeals_51 rfl ?_
                refine b_aload_n dX12_appeals_53 rfl ?_
                refine g_get dX12_appeals_54 fX12_13 a77 rfl ?_
                refine b_iconst (v := nI 3) dX12_appeals_57 (by decide) ?_
                refine g_iald dX12_appeals_58 a78 rfl (by omega) ?_
                refine b_top hM.cP ?_
                refine b_icmp_ge_f 112 dX12_appeals_59 (by decide) (nI_ge (by omega) (by omega)) ?_
                refine b_aload_n dX12_appeals_62 rfl ?_
                refine b_iload dX12_appeals_63 rfl ?_
                refine b_iload_n dX12_appeals_65 rfl ?_
                refine g_callV [.int (nI q), .int (nI k)] dX12_appeals_66 kX12_measureNow lX12_327 a77 rfl rfl (m_measureNow hM hk (by omega)) rfl rfl (Nat.le_of_ble_eq_true rfl) ?_
                refine b_aload_n dX12_appeals_69 rfl ?_
                refine b_iload dX12_appeals_70 rfl ?_
                refine b_iload_n dX12_appeals_72 rfl ?_
                refine g_callV [.int (nI who), .int (nI k)] dX12_appeals_73 kX12_measureNow lX12_327 a77 rfl rfl (m_measureNow hM hk (by omega)) rfl rfl (Nat.le_of_ble_eq_true rfl) ?_
                rw [ex, ex]
                refine b_icmp_le 106 dX12_appeals_76 (by decide) (fun c8 => ?_) (fun c8 => ?_)
                · skip
                  exact keep (by rw [eU, if_pos c8])
                · skip
                  refine b_iload dX12_appeals_79 rfl ?_
                  refine b_iconst (v := -1) dX12_appeals_81 (by decide) ?_
                  refine b_icmp_eq 102 dX12_appeals_82 (by decide) (fun c9 => ?_) (fun c9 => ?_)
                  · skip
                    exact tk (by rw [eU, if_neg c8, if_pos (Or.inl c9)])
                  · skip
                    rcases hu with h | ⟨w', h1, h2, h3⟩
                    · exact absurd h c9
                    · have h4 : (mUp xx (xx who) q).1 = nI w' := by rw [h2]
                      have h5 : (mUp xx (xx who) q).2 = xx w' := by rw [h2]
                      refine b_aload_n dX12_appeals_85 rfl ?_
                      refine b_iload dX12_appeals_86 rfl ?_
                      refine b_iload_n dX12_appeals_88 rfl ?_
                      refine g_callV [.int (nI q), .int (nI k)] dX12_appeals_89 kX12_measureNow lX12_327 a77 rfl rfl (m_measureNow hM hk (by omega)) rfl rfl (Nat.le_of_ble_eq_true rfl) ?_
                      refine b_aload_n dX12_appeals_92 rfl ?_
                      refine b_iload dX12_appeals_93 rfl ?_
                      refine b_iload_n dX12_appeals_95 rfl ?_
                      rw [h4]
                      refine g_callV [.int (nI (w')), .int (nI k)] dX12_appeals_96 kX12_measureNow lX12_327 a77 rfl rfl (m_measureNow hM hk (by omega)) rfl rfl (Nat.le_of_ble_eq_true rfl) ?_
                      rw [ex, ex]
                      rw [h4] at c9 keep tk
                      refine b_icmp_ge 106 dX12_appeals_99 (by decide) (fun c10 => ?_) (fun c10 => ?_)
                      · skip
                        refine keep ?_
                        rw [eU, if_neg c8, if_neg, h4]
                        rintro (z | z)
                        · rw [h4] at z; exact c9 z
                        · rw [h5] at z; exact absurd z (Int32.not_lt.mpr c10)
                      · skip
                        refine tk ?_
                        rw [eU, if_neg c8, if_pos]
                        exact Or.inr (by rw [h5]; exact Int32.not_le.mp c10)
            exact lp2 L.P 0 (by omega)
        exact lp 6 0 j none none hj (by have := grC_b (x := xx) L.P hj; omega) (by omega) (by omega) rfl
      · skip
        refine b_bipush (v := -2) dX12_appeals_36 (by decide) ?_
        exact b_iret dX12_appeals_38 ⟨by simp [oAppeals, (bI_0 _).mp c5], rfl⟩

