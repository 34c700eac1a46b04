/-! ===== Showing: the best of all ===== -/
def sB (τ : Nat → Nat) : Nat → Nat
  | 0 => 0
  | p + 1 => sB τ p + bN (τ p)
def nm (τ : Nat → Nat) : Nat → Nat
  | 0 => 0
  | p + 1 => nm τ p * 256 + τ p
def key (τ : Nat → Nat) (P : Nat) : Nat := sB τ P * 256 ^ P + nm τ P
theorem nm_lt {τ : Nat → Nat} : ∀ n, (∀ p, p < n → τ p < 256) → nm τ n < 256 ^ n
  | 0, _ => by simp [nm]
  | n + 1, h => by
    have h1 := nm_lt n (fun p hp => h p (by omega))
    have h2 := h n (by omega)
    rw [nm, Nat.pow_succ]
    omega
theorem nm_cg {a b : Nat → Nat} : ∀ n, (∀ p, p < n → a p = b p) → nm a n = nm b n
  | 0, _ => rfl
  | n + 1, h => by rw [nm, nm, nm_cg n (fun p hp => h p (by omega)), h n (by omega)]
theorem sB_cg {a b : Nat → Nat} : ∀ n, (∀ p, p < n → a p = b p) → sB a n = sB b n
  | 0, _ => rfl
  | n + 1, h => by rw [sB, sB, sB_cg n (fun p hp => h p (by omega)), h n (by omega)]
theorem nm_first {a b : Nat → Nat} {p : Nat} (heq : ∀ q, q < p → a q = b q) (hlt : a p < b p) : ∀ n, p < n → (∀ q, q < n → a q < 256) → (∀ q, q < n → b q < 256) → nm a n < nm b n
  | 0, h, _, _ => absurd h (by omega)
  | n + 1, h, ha, hb => by
    rw [nm, nm]
    rcases Nat.lt_or_ge p n with q | q
    · have h1 := nm_first heq hlt n q (fun r hr => ha r (by omega)) (fun r hr => hb r (by omega))
      have h2 := ha n (by omega)
      omega
    · have e : p = n := by omega
      subst e
      rw [nm_cg p heq]
      omega
theorem nm_inj {a b : Nat → Nat} : ∀ n, (∀ q, q < n → a q < 256) → (∀ q, q < n → b q < 256) → nm a n = nm b n → ∀ q, q < n → a q = b q
  | 0, _, _, _, q, hq => absurd hq (by omega)
  | n + 1, ha, hb, h, q, hq => by
    rw [nm, nm] at h
    have h1 := ha n (by omega)
    have h2 := hb n (by omega)
    rcases Nat.lt_or_ge q n with r | r
    · exact nm_inj n (fun x hx => ha x (by omega)) (fun x hx => hb x (by omega)) (by omega) q r
    · have e : q = n := by omega
      subst e
      omega
theorem key_s {a b : Nat → Nat} {P : Nat} (ha : ∀ q, q < P → a q < 256) (h : sB a P < sB b P) : key a P < key b P := by
  have h1 := nm_lt P ha
  unfold key
  have h2 : (sB a P + 1) * 256 ^ P ≤ sB b P * 256 ^ P := Nat.mul_le_mul_right _ h
  rw [Nat.add_mul, Nat.one_mul] at h2
  omega
theorem key_n {a b : Nat → Nat} {P : Nat} (h : sB a P = sB b P) : key a P ≤ key b P ↔ nm a P ≤ nm b P := by
  unfold key
  rw [h]
  omega
theorem key_inj {a b : Nat → Nat} {P : Nat} (ha : ∀ q, q < P → a q < 256) (hb : ∀ q, q < P → b q < 256) (h : key a P = key b P) : sB a P = sB b P ∧ ∀ q, q < P → a q = b q := by
  have h1 : sB a P = sB b P := by
    rcases Nat.lt_trichotomy (sB a P) (sB b P) with q | q | q
    · have := key_s ha q; omega
    · exact q
    · have := key_s hb q; omega
  refine ⟨h1, nm_inj P ha hb ?_⟩
  unfold key at h
  rw [h1] at h
  omega
theorem fle_key {a b : Nat → Nat} : ∀ n, (∀ p, p < n → fle (a p) (b p)) → sB a n ≤ sB b n ∧ (sB a n = sB b n → nm a n ≤ nm b n)
  | 0, _ => ⟨Nat.le_refl _, fun _ => Nat.le_refl _⟩
  | n + 1, h => by
    obtain ⟨h1, h2⟩ := fle_key n (fun p hp => h p (by omega))
    have h3 := h n (by omega)
    unfold fle at h3
    rw [sB, sB, nm, nm]
    refine ⟨by omega, fun e => ?_⟩
    have := h2 (by omega)
    omega
theorem fle_le {a b : Nat → Nat} {P : Nat} (ha : ∀ q, q < P → a q < 256) (h : ∀ p, p < P → fle (a p) (b p)) : key a P ≤ key b P := by
  obtain ⟨h1, h2⟩ := fle_key P h
  rcases Nat.lt_or_ge (sB a P) (sB b P) with q | q
  · exact Nat.le_of_lt (key_s ha q)
  · have e : sB a P = sB b P := by omega
    exact (key_n e).mpr (h2 e)
theorem bN_le (a : Nat) : bN a ≤ 16 := cnt_le _ _
theorem sB_le (τ : Nat → Nat) : ∀ n, sB τ n ≤ 16 * n
  | 0 => Nat.le_refl 0
  | n + 1 => by have := sB_le τ n; have := bN_le (τ n); rw [sB]; omega
/-- the best of T stands in the showing: its sum, and who is asked what -/
def OptC (s : ST) (P : Nat) (T : (Nat → Nat) → Prop) : Prop := (s 34 5 = -1 ∧ ∀ τ, ¬ T τ) ∨ ∃ α : Nat → Nat, T α ∧ (∀ p, p < P → α p < 256) ∧ s 34 5 = nI (sB α P) ∧ (∀ p, p < P → s 39 p = nI (α p)) ∧ ∀ τ, T τ → key α P ≤ key τ P
theorem c_isAhead {G : GT} {d : Nat} {σ : ST} {μ : SL} {P l : Nat} {α β : Nat → Nat} (hP : P ≤ 6) (hl : l < 17) (hα : ∀ p, p < P → α p < 256 ∧ σ 39 p = nI (α p)) (hβ : ∀ p, p < P → β p < 256 ∧ σ 38 (17 * p + l) = nI (β p)) : Fn G d mX7_isAhead [.ref (G.b0 + 34), .int (nI P), .int (nI l)] (sh G σ μ) (Ret (some (.int (bI (decide (nm β P < nm α P))))) (sh G σ μ)) := by
  refine fn_of (ls := [some (.ref (G.b0 + 34)), some (.int (nI P)), some (.int (nI l)), none, none]) (by decide +kernel) (Nat.le_of_ble_eq_true rfl) 2 rfl ?_
  refine b_iconst (v := nI 0) dX7_isAhead_0 (by decide) ?_
  refine b_istore_n dX7_isAhead_1 (by decide) rfl ?_
  have lp : ∀ (n i : Nat) (z4 : Option Value), i + n = P → (∀ q, q < i → β q = α q) → BB G RX7 cX7_isAhead 5 (some .boolean) d (QM G (Ret (some (.int (bI (decide (nm β P < nm α P))))) (sh G σ μ))) 2 [some (.ref (G.b0 + 34)), some (.int (nI P)), some (.int (nI l)), some (.int (nI i)), z4] [] (sh G σ μ) := by
    intro n
    induction n with
    | zero =>
      intro i z4 hi he
      refine b_iload_n dX7_isAhead_2 rfl ?_
      refine b_iload_n dX7_isAhead_3 rfl ?_
      refine b_icmp_ge_t 54 dX7_isAhead_4 (by decide) (nI_le (by omega) (by omega)) ?_
      refine b_iconst (v := nI 0) dX7_isAhead_54 (by decide) ?_
      exact b_zret dX7_isAhead_55 (bI_n false) ⟨by rw [nm_cg P (fun q hq => he q (by omega)), decide_eq_false (Nat.lt_irrefl _)]; rfl, rfl⟩
    | succ n ih =>
      intro i z4 hi he
      obtain ⟨b1, b2⟩ := hβ i (by omega)
      obtain ⟨a1, a2⟩ := hα i (by omega)
      refine b_iload_n dX7_isAhead_2 rfl ?_
      refine b_iload_n dX7_isAhead_3 rfl ?_
      refine b_icmp_ge_f 54 dX7_isAhead_4 (by decide) (nI_ge (by omega) (by omega)) ?_
      refine b_aload_n dX7_isAhead_7 rfl ?_
      refine g_get dX7_isAhead_8 fX7_21 a34 rfl ?_
      refine b_iload_n dX7_isAhead_11 rfl ?_
      refine b_bipush (v := nI 17) dX7_isAhead_12 (by decide) ?_
      refine b_imulN dX7_isAhead_14 ?_
      refine b_iload_n dX7_isAhead_15 rfl ?_
      refine b_iaddN dX7_isAhead_16 ?_
      refine g_iald dX7_isAhead_17 a38 rfl (by omega) ?_
      refine b_top (y := nI (β i)) (by rw [show i * 17 + l = 17 * i + l by omega]; exact b2) ?_
      refine b_istore dX7_isAhead_18 (by decide) rfl ?_
      refine b_iload dX7_isAhead_20 rfl ?_
      refine b_aload_n dX7_isAhead_22 rfl ?_
      refine g_get dX7_isAhead_23 fX7_24 a34 rfl ?_
      refine b_iload_n dX7_isAhead_26 rfl ?_
      refine g_iald dX7_isAhead_27 a39 rfl (by omega) ?_
      refine b_top a2 ?_
      refine b_icmp_eq 48 dX7_isAhead_28 (by decide) (fun c1 => ?_) (fun c1 => ?_)
      · skip
        have c2 : β i = α i := by rw [nI_eq (by omega) (by omega)] at c1; exact c1
        refine b_iinc dX7_isAhead_48 rfl (nI_1 _) (by decide) rfl ?_
        refine b_goto 2 dX7_isAhead_51 (by decide) ?_
        refine ih (i + 1) _ (by omega) (fun q hq => ?_)
        by_cases e : q = i
        · subst e; exact c2
        · exact he q (by omega)
      · skip
        have c2 : ¬ β i = α i := fun z => c1 (by rw [z])
        refine b_iload dX7_isAhead_31 rfl ?_
        refine b_aload_n dX7_isAhead_33 rfl ?_
        refine g_get dX7_isAhead_34 fX7_24 a34 rfl ?_
        refine b_iload_n dX7_isAhead_37 rfl ?_
        refine g_iald dX7_isAhead_38 a39 rfl (by omega) ?_
        refine b_top a2 ?_
        refine b_icmp_ge 46 dX7_isAhead_39 (by decide) (fun c3 => ?_) (fun c3 => ?_)
        · skip
          rw [nI_leI (by omega) (by omega)] at c3
          refine b_iconst (v := nI 0) dX7_isAhead_46 (by decide) ?_
          have h5 := nm_first (a := α) (b := β) (p := i) (fun q hq => (he q hq).symm) (by omega) P (by omega) (fun q hq => (hα q hq).1) (fun q hq => (hβ q hq).1)
          exact b_zret dX7_isAhead_47 (bI_n false) ⟨by rw [decide_eq_false (by omega)]; rfl, rfl⟩
        · skip
          rw [nI_leI (by omega) (by omega)] at c3
          refine b_iconst (v := nI 1) dX7_isAhead_42 (by decide) ?_
          refine b_goto 47 dX7_isAhead_43 (by decide) ?_
          have h5 := nm_first (a := β) (b := α) (p := i) he (by omega) P (by omega) (fun q hq => (hβ q hq).1) (fun q hq => (hα q hq).1)
          exact b_zret dX7_isAhead_47 (bI_n true) ⟨by rw [decide_eq_true h5]; rfl, rfl⟩
  exact lp P 0 _ (by omega) (fun q hq => absurd hq (by omega))
theorem c_takeIfBetter {G : GT} {d : Nat} {σ : ST} {μ : SL} {P l zN : Nat} {C : Nat → Nat → Prop} {T : (Nat → Nat) → Prop} (hP : P ≤ 6) (hl : l < 17) (hN : zN ≤ 256) (hF : ∀ p, p < P → FewR (C p) zN (σ 38 (17 * p + l))) (hO : OptC σ P T) : Fn G (d + 1) mX7_takeIfBetter [.ref (G.b0 + 34), .int (nI P), .int (nI l)] (sh G σ μ) (fun r h' => r = none ∧ ∃ s : ST, h' = sh G s μ ∧ (∀ c q, c ≠ 39 → ¬ (c = 34 ∧ q = 5) → s c q = σ c q) ∧ OptC s P (fun τ => T τ ∨ ∀ p, p < P → τ p < zN ∧ C p (τ p))) := by
  refine fn_of (ls := [some (.ref (G.b0 + 34)), some (.int (nI P)), some (.int (nI l)), none, none, none]) (by decide +kernel) (Nat.le_of_ble_eq_true rfl) 3 rfl ?_
  refine b_iconst (v := nI 0) dX7_takeIfBetter_0 (by decide) ?_
  refine b_istore_n dX7_takeIfBetter_1 (by decide) rfl ?_
  refine b_iconst (v := nI 0) dX7_takeIfBetter_2 (by decide) ?_
  refine b_istore dX7_takeIfBetter_3 (by decide) rfl ?_
  have lp : ∀ (n i x : Nat) (β : Nat → Nat) (z5 : Option Value), i + n = P → x = sB β i → (∀ p, p < i → β p < zN ∧ C p (β p) ∧ σ 38 (17 * p + l) = nI (β p) ∧ ∀ b, b < zN → C p b → fle (β p) b) → BB G RX7 cX7_takeIfBetter 6 none (d + 1) (QM G (fun r h' => r = none ∧ ∃ s : ST, h' = sh G s μ ∧ (∀ c q, c ≠ 39 → ¬ (c = 34 ∧ q = 5) → s c q = σ c q) ∧ OptC s P (fun τ => T τ ∨ ∀ p, p < P → τ p < zN ∧ C p (τ p)))) 5 [some (.ref (G.b0 + 34)), some (.int (nI P)), some (.int (nI l)), some (.int (nI x)), some (.int (nI i)), z5] [] (sh G σ μ) := by
    intro n
    induction n with
    | zero =>
      intro i x β z5 hi hx hβ
      have e : i = P := by omega
      rw [e] at hx hβ
      have hβ6 : ∀ q, q < P → β q < 256 := fun q hq => by have := (hβ q hq).1; omega
      have hsx := sB_le β P
      have hkey : ∀ τ : Nat → Nat, (∀ p, p < P → τ p < zN ∧ C p (τ p)) → key β P ≤ key τ P := fun τ h => fle_le hβ6 (fun p hp => (hβ p hp).2.2.2 _ (h p hp).1 (h p hp).2)
      -- what stands when the new one is taken
      have tk : (∀ τ, T τ → key β P ≤ key τ P) → ∀ (z4 z5 : Option Value), BB G RX7 cX7_takeIfBetter 6 none (d + 1) (QM G (fun r h' => r = none ∧ ∃ s : ST, h' = sh G s μ ∧ (∀ c q, c ≠ 39 → ¬ (c = 34 ∧ q = 5) → s c q = σ c q) ∧ OptC s P (fun τ => T τ ∨ ∀ p, p < P → τ p < zN ∧ C p (τ p)))) 79 [some (.ref (G.b0 + 34)), some (.int (nI P)), some (.int (nI l)), some (.int (nI x)), z4, z5] [] (sh G σ μ) := by
        intro hT z4 z5
        refine b_aload_n dX7_takeIfBetter_79 rfl ?_
        refine b_iload_n dX7_takeIfBetter_80 rfl ?_
        refine g_put dX7_takeIfBetter_81 wX7_64 a34 tfX7_5 (Nat.le_of_ble_eq_true rfl) rfl ?_
        refine b_iconst (v := nI 0) dX7_takeIfBetter_84 (by decide) ?_
        refine b_istore dX7_takeIfBetter_85 (by decide) rfl ?_
        have lp2 : ∀ (n i : Nat) (s : ST), i + n = P → (∀ c q, c ≠ 39 → ¬ (c = 34 ∧ q = 5) → s c q = σ c q) → s 34 5 = nI x → (∀ p, p < i → s 39 p = nI (β p)) → BB G RX7 cX7_takeIfBetter 6 none (d + 1) (QM G (fun r h' => r = none ∧ ∃ s : ST, h' = sh G s μ ∧ (∀ c q, c ≠ 39 → ¬ (c = 34 ∧ q = 5) → s c q = σ c q) ∧ OptC s P (fun τ => T τ ∨ ∀ p, p < P → τ p < zN ∧ C p (τ p)))) 87 [some (.ref (G.b0 + 34)), some (.int (nI P)), some (.int (nI l)), some (.int (nI x)), some (.int (nI i)), z5] [] (sh G s μ) := by
          intro n
          induction n with
          | zero =>
            intro i s hi hs h5 h39
            refine b_iload dX7_takeIfBetter_87 rfl ?_
            refine b_iload_n dX7_takeIfBetter_89 rfl ?_
            refine b_icmp_ge_t 118 dX7_takeIfBetter_90 (by decide) (nI_le (by omega) (by omega)) ?_
            exact b_vret dX7_takeIfBetter_118 ⟨rfl, s, rfl, hs, Or.inr ⟨β, Or.inr (fun p hp => ⟨(hβ p hp).1, (hβ p hp).2.1⟩), hβ6, by rw [h5, hx], fun p hp => h39 p (by omega), fun τ h => h.elim (hT τ) (hkey τ)⟩⟩
          | succ n ih =>
            intro i s hi hs h5 h39
            refine b_iload dX7_takeIfBetter_87 rfl ?_
            refine b_iload_n dX7_takeIfBetter_89 rfl ?_
            refine b_icmp_ge_f 118 dX7_takeIfBetter_90 (by decide) (nI_ge (by omega) (by omega)) ?_
            refine b_aload_n dX7_takeIfBetter_93 rfl ?_
            refine g_get dX7_takeIfBetter_94 fX7_24 a34 rfl ?_
            refine b_iload dX7_takeIfBetter_97 rfl ?_
            refine b_aload_n dX7_takeIfBetter_99 rfl ?_
            refine g_get dX7_takeIfBetter_100 fX7_21 a34 rfl ?_
            refine b_iload dX7_takeIfBetter_103 rfl ?_
            refine b_bipush (v := nI 17) dX7_takeIfBetter_105 (by decide) ?_
            refine b_imulN dX7_takeIfBetter_107 ?_
            refine b_iload_n dX7_takeIfBetter_108 rfl ?_
            refine b_iaddN dX7_takeIfBetter_109 ?_
            refine g_iald dX7_takeIfBetter_110 a38 rfl (by omega) ?_
            refine g_iast dX7_takeIfBetter_111 a39 rfl (by omega) ?_
            refine b_iinc dX7_takeIfBetter_112 rfl (nI_1 _) (by decide) rfl ?_
            refine b_goto 87 dX7_takeIfBetter_115 (by decide) ?_
            refine ih (i + 1) _ (by omega) (fun c q h1 h2 => by rw [pt_a h1]; exact hs c q h1 h2) (by rw [pt_a (by omega)]; exact h5) (fun p hp => ?_)
            by_cases e2 : p = i
            · subst e2
              refine (pt_s _ _ _ _).trans ?_
              rw [show 34 + 4 = 38 from rfl, hs 38 _ (by omega) (by omega), show p * 17 + l = 17 * p + l by omega]
              exact (hβ p (by omega)).2.2.1
            · rw [pt_j e2]; exact h39 p (by omega)
        refine lp2 P 0 _ (by omega) (fun c q h1 h2 => by rw [pt_at, if_neg h2]) (pt_s _ _ _ _) (fun p hp => absurd hp (by omega))
      have kp : (∃ α : Nat → Nat, T α ∧ (∀ p, p < P → α p < 256) ∧ σ 34 5 = nI (sB α P) ∧ (∀ p, p < P → σ 39 p = nI (α p)) ∧ (∀ τ, T τ → key α P ≤ key τ P) ∧ key α P ≤ key β P) → OptC σ P (fun τ => T τ ∨ ∀ p, p < P → τ p < zN ∧ C p (τ p)) := by
        rintro ⟨α, h1, h2, h3, h4, h5, h6⟩
        exact Or.inr ⟨α, Or.inl h1, h2, h3, h4, fun τ h => h.elim (h5 τ) (fun z => Nat.le_trans h6 (hkey τ z))⟩
      refine b_iload dX7_takeIfBetter_5 rfl ?_
      refine b_iload_n dX7_takeIfBetter_7 rfl ?_
      refine b_icmp_ge_t 46 dX7_takeIfBetter_8 (by decide) (nI_le (by omega) (by omega)) ?_
      refine b_aload_n dX7_takeIfBetter_46 rfl ?_
      refine g_get dX7_takeIfBetter_47 fX7_64 a34 rfl ?_
      refine b_iconst (v := -1) dX7_takeIfBetter_50 (by decide) ?_
      rcases hO with ⟨h5, hno⟩ | ⟨α, hα, hα6, h5, h39, hmin⟩
      · skip
        rw [h5]
        refine b_icmp_eq_t 79 dX7_takeIfBetter_51 (by decide) rfl ?_
        exact tk (fun τ h => absurd h (hno τ)) _ _
      · have hsa := sB_le α P
        rw [h5]
        refine b_icmp_eq_f 79 dX7_takeIfBetter_51 (by decide) (nI_m1 (by omega)) ?_
        refine b_iload_n dX7_takeIfBetter_54 rfl ?_
        refine b_aload_n dX7_takeIfBetter_55 rfl ?_
        refine g_geti (x := nI (sB α P)) dX7_takeIfBetter_56 fX7_64 a34 rfl h5 ?_
        refine b_icmp_lt 79 dX7_takeIfBetter_59 (by decide) (fun c1 => ?_) (fun c1 => ?_)
        · skip
          rw [nI_ltI (by omega) (by omega)] at c1
          exact tk (fun τ h => Nat.le_trans (Nat.le_of_lt (key_s hβ6 (by omega))) (hmin τ h)) _ _
        · skip
          rw [nI_ltI (by omega) (by omega)] at c1
          refine b_iload_n dX7_takeIfBetter_62 rfl ?_
          refine b_aload_n dX7_takeIfBetter_63 rfl ?_
          refine g_geti (x := nI (sB α P)) dX7_takeIfBetter_64 fX7_64 a34 rfl h5 ?_
          refine b_icmp_ne 118 dX7_takeIfBetter_67 (by decide) (fun c2 => ?_) (fun c2 => ?_)
          · skip
            have c3 : ¬ x = sB α P := fun z => c2 (by rw [z])
            exact b_vret dX7_takeIfBetter_118 ⟨rfl, σ, rfl, fun _ _ _ _ => rfl, kp ⟨α, hα, hα6, h5, h39, hmin, Nat.le_of_lt (key_s hα6 (by omega))⟩⟩
          · skip
            have c3 : x = sB α P := by rw [nI_eq (by omega) (by omega)] at c2; exact c2
            refine b_aload_n dX7_takeIfBetter_70 rfl ?_
            refine b_iload_n dX7_takeIfBetter_71 rfl ?_
            refine b_iload_n dX7_takeIfBetter_72 rfl ?_
            refine g_callV [.int (nI P), .int (nI l)] dX7_takeIfBetter_73 kX7_isAhead lX7_93 a34 rfl rfl (c_isAhead (α := α) (β := β) hP hl (fun p hp => ⟨hα6 p hp, h39 p hp⟩) (fun p hp => ⟨hβ6 p hp, (hβ p hp).2.2.1⟩)) rfl rfl (Nat.le_of_ble_eq_true rfl) ?_
            refine b_if_eq 118 dX7_takeIfBetter_76 (by decide) (fun c4 => ?_) (fun c4 => ?_)
            · skip
              have c5 : ¬ nm β P < nm α P := of_decide_eq_false ((bI_0 _).mp c4)
              exact b_vret dX7_takeIfBetter_118 ⟨rfl, σ, rfl, fun _ _ _ _ => rfl, kp ⟨α, hα, hα6, h5, h39, hmin, (key_n (by omega)).mpr (by omega)⟩⟩
            · skip
              have c5 : nm β P < nm α P := of_decide_eq_true ((bI_1 _).mp c4)
              exact tk (fun τ h => Nat.le_trans ((key_n (by omega)).mpr (by omega)) (hmin τ h)) _ _
    | succ n ih =>
      intro i x β z5 hi hx hβ
      have hsx := sB_le β i
      refine b_iload dX7_takeIfBetter_5 rfl ?_
      refine b_iload_n dX7_takeIfBetter_7 rfl ?_
      refine b_icmp_ge_f 46 dX7_takeIfBetter_8 (by decide) (nI_ge (by omega) (by omega)) ?_
      refine b_aload_n dX7_takeIfBetter_11 rfl ?_
      refine g_get dX7_takeIfBetter_12 fX7_21 a34 rfl ?_
      refine b_iload dX7_takeIfBetter_15 rfl ?_
      refine b_bipush (v := nI 17) dX7_takeIfBetter_17 (by decide) ?_
      refine b_imulN dX7_takeIfBetter_19 ?_
      refine b_iload_n dX7_takeIfBetter_20 rfl ?_
      refine b_iaddN dX7_takeIfBetter_21 ?_
      refine g_iald dX7_takeIfBetter_22 a38 rfl (by omega) ?_
      refine b_top (y := σ 38 (17 * i + l)) (by rw [show i * 17 + l = 17 * i + l by omega]) ?_
      refine b_istore dX7_takeIfBetter_23 (by decide) rfl ?_
      refine b_iload dX7_takeIfBetter_25 rfl ?_
      refine b_iconst (v := -1) dX7_takeIfBetter_27 (by decide) ?_
      rcases hF i (by omega) with ⟨h5, hno⟩ | ⟨a, ha1, ha2, ha3, ha4⟩
      · skip
        rw [h5]
        refine b_icmp_ne_f 32 dX7_takeIfBetter_28 (by decide) (by decide) ?_
        refine b_vret dX7_takeIfBetter_31 ⟨rfl, σ, rfl, fun _ _ _ _ => rfl, ?_⟩
        rcases hO with ⟨h6, hn2⟩ | ⟨α, hα, hα6, h6, h39, hmin⟩
        · exact Or.inl ⟨h6, fun τ h => h.elim (hn2 τ) (fun z => hno _ (z i (by omega)).1 (z i (by omega)).2)⟩
        · exact Or.inr ⟨α, Or.inl hα, hα6, h6, h39, fun τ h => h.elim (hmin τ) (fun z => absurd (z i (by omega)).2 (hno _ (z i (by omega)).1))⟩
      · skip
        rw [ha3]
        refine b_icmp_ne_t 32 dX7_takeIfBetter_28 (by decide) (nI_m1 (by omega)) ?_
        refine b_iload_n dX7_takeIfBetter_32 rfl ?_
        refine b_iload dX7_takeIfBetter_33 rfl ?_
        refine b_callSr [.int (nI a)] dX7_takeIfBetter_35 kJ6_bitCount_0f7a4 lX7_42 (c_bitCount (lo_nI (by omega))) rfl rfl (Nat.le_of_ble_eq_true rfl) ?_
        refine b_iaddN dX7_takeIfBetter_38 ?_
        refine b_istore_n dX7_takeIfBetter_39 (by decide) rfl ?_
        refine b_iinc dX7_takeIfBetter_40 rfl (nI_1 _) (by decide) rfl ?_
        refine b_goto 5 dX7_takeIfBetter_43 (by decide) ?_
        refine ih (i + 1) _ (fun p => if p = i then a else β p) _ (by omega) ?_ (fun p hp => ?_)
        · have := bN_le a
          have e9 : sB (fun p => if p = i then a else β p) i = sB β i := sB_cg i (fun p hp => if_neg (by omega))
          rw [sB, if_pos rfl, hx, e9]
          rfl
        · by_cases e2 : p = i
          · subst e2
            simp only [if_true]
            exact ⟨ha1, ha2, ha3, ha4⟩
          · simp only [e2, if_false]
            exact hβ p (by omega)
  exact lp P 0 0 (fun _ => 0) _ (by omega) rfl (fun p hp => absurd hp (by omega))

