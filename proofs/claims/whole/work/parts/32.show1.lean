/-! ===== Showing: extremes over subsets ===== -/
abbrev iI (e : Int) : Int32 := Int32.ofInt e
theorem iI_toInt {e : Int} (h1 : -5000 ≤ e) (h2 : e ≤ 5000) : (iI e).toInt = e := by
  rw [Int32.toInt_ofInt]
  have e4 : Int32.size = 4294967296 := rfl
  rw [e4]
  simp only [Int.bmod]
  omega
theorem iI_nI (n : Nat) : iI (n : Int) = nI n := rfl
theorem iI_le {a b : Int} (h1 : -5000 ≤ a) (h2 : a ≤ 5000) (h3 : -5000 ≤ b) (h4 : b ≤ 5000) : iI a < iI b ↔ a < b := by
  rw [Int32.lt_iff_toInt_lt, iI_toInt h1 h2, iI_toInt h3 h4]
theorem iI_max {a b : Int} (h1 : -5000 ≤ a) (h2 : a ≤ 5000) (h3 : -5000 ≤ b) (h4 : b ≤ 5000) : mMax (iI a) (iI b) = iI (max a b) := by
  unfold mMax
  have hh := iI_le h1 h2 h3 h4
  by_cases h : a < b
  · rw [if_pos (hh.mpr h), Int.max_eq_right (by omega)]
  · rw [if_neg (fun z => h (hh.mp z)), Int.max_eq_left (by omega)]
/-- the most of g over what c takes of 0 .. n-1; -1000 if there is none -/
def Mx (c : Nat → Prop) (g : Nat → Int) (n : Nat) (e : Int) : Prop := -1000 ≤ e ∧ e ≤ 16 ∧ (∀ k, k < n → c k → g k ≤ e) ∧ (e = -1000 ∨ ∃ k, k < n ∧ c k ∧ e = g k)
theorem Mx_0 (c : Nat → Prop) (g : Nat → Int) : Mx c g 0 (-1000) := ⟨by omega, by omega, fun k h => absurd h (by omega), Or.inl rfl⟩
theorem Mx_no {c : Nat → Prop} {g : Nat → Int} {n : Nat} {e : Int} (h : Mx c g n e) (hn : ¬ c n) : Mx c g (n + 1) e := by
  refine ⟨h.1, h.2.1, fun k hk hc => ?_, ?_⟩
  · have : k ≠ n := fun z => hn (z ▸ hc)
    exact h.2.2.1 k (by omega) hc
  · rcases h.2.2.2 with q | ⟨k, hk, hc, e⟩
    · exact Or.inl q
    · exact Or.inr ⟨k, by omega, hc, e⟩
theorem Mx_in {c : Nat → Prop} {g : Nat → Int} {n : Nat} {e : Int} (h : Mx c g n e) (hn : c n) (g1 : -16 ≤ g n) (g2 : g n ≤ 16) : Mx c g (n + 1) (max e (g n)) := by
  obtain ⟨h1, h2, h3, h4⟩ := h
  refine ⟨by omega, by omega, fun k hk hc => ?_, ?_⟩
  · by_cases hkn : k = n
    · subst hkn; omega
    · have := h3 k (by omega) hc
      omega
  · by_cases hle : e ≤ g n
    · exact Or.inr ⟨n, by omega, hn, by omega⟩
    · rcases h4 with q | ⟨k, hk, hc, e'⟩
      · omega
      · exact Or.inr ⟨k, by omega, hc, by omega⟩
theorem Mx_cg {c c' : Nat → Prop} {g : Nat → Int} {n : Nat} {e : Int} (h : Mx c g n e) (hc : ∀ k, k < n → (c k ↔ c' k)) : Mx c' g n e := by
  obtain ⟨h1, h2, h3, h4⟩ := h
  refine ⟨h1, h2, fun k hk q => h3 k hk ((hc k hk).mpr q), ?_⟩
  rcases h4 with q | ⟨k, hk, q, e'⟩
  · exact Or.inl q
  · exact Or.inr ⟨k, hk, (hc k hk).mp q, e'⟩
theorem Mx_or {c c1 c2 : Nat → Prop} {g : Nat → Int} {n : Nat} {e1 e2 : Int} (h1 : Mx c1 g n e1) (h2 : Mx c2 g n e2) (hc : ∀ k, k < n → (c k ↔ c1 k ∨ c2 k)) : Mx c g n (max e1 e2) := by
  obtain ⟨a1, a2, a3, a4⟩ := h1
  obtain ⟨b1, b2, b3, b4⟩ := h2
  refine ⟨by omega, by omega, fun k hk q => ?_, ?_⟩
  · rcases (hc k hk).mp q with q | q
    · have := a3 k hk q; omega
    · have := b3 k hk q; omega
  · by_cases hle : e1 ≤ e2
    · rcases b4 with q | ⟨k, hk, q, e'⟩
      · exact Or.inl (by omega)
      · exact Or.inr ⟨k, hk, (hc k hk).mpr (Or.inr q), by omega⟩
    · rcases a4 with q | ⟨k, hk, q, e'⟩
      · omega
      · exact Or.inr ⟨k, hk, (hc k hk).mpr (Or.inl q), by omega⟩
/-- x is within d, and as d from fact f on -/
def cf (f d x : Nat) : Prop := (∀ i, i < 8 → x.testBit i = true → d.testBit i = true) ∧ ∀ i, f ≤ i → i < 8 → x.testBit i = d.testBit i
theorem tb_hi {x i : Nat} (hx : x < 256) (hi : 8 ≤ i) : x.testBit i = false := Nat.testBit_lt_two_pow (Nat.lt_of_lt_of_le hx (by rw [show (256 : Nat) = 2 ^ 8 by rfl]; exact Nat.pow_le_pow_right (by omega) hi))
theorem cf_0 {d x : Nat} (hd : d < 256) (hx : x < 256) : cf 0 d x ↔ x = d := by
  constructor
  · intro h
    apply Nat.eq_of_testBit_eq
    intro i
    rcases Nat.lt_or_ge i 8 with q | q
    · exact h.2 i (by omega) q
    · rw [tb_hi hd q, tb_hi hx q]
  · intro h
    subst h
    exact ⟨fun _ _ h => h, fun _ _ _ => rfl⟩
theorem cf_no {f d x : Nat} (hf : f < 8) (hb : d.testBit f = false) : cf f d x ↔ cf (f + 1) d x := by
  constructor
  · exact fun h => ⟨h.1, fun i h1 h2 => h.2 i (by omega) h2⟩
  · intro h
    refine ⟨h.1, fun i h1 h2 => ?_⟩
    by_cases hi : i = f
    · subst hi
      rw [hb]
      cases hx : x.testBit i
      · rfl
      · rw [h.1 i h2 hx] at hb; exact absurd hb (by decide)
    · exact h.2 i (by omega) h2
theorem cf_yes {f d x : Nat} (hf : f < 8) (hb : d.testBit f = true) : cf (f + 1) d x ↔ cf f d x ∨ cf f (d ^^^ 2 ^ f) x := by
  have hx : ∀ i, (d ^^^ 2 ^ f).testBit i = (d.testBit i ^^ decide (f = i)) := fun i => by rw [Nat.testBit_xor, Nat.testBit_two_pow]
  constructor
  · intro h
    cases hb2 : x.testBit f
    · refine Or.inr ⟨fun i h1 h2 => ?_, fun i h1 h2 => ?_⟩
      · rw [hx]
        by_cases hi : f = i
        · subst hi; rw [hb2] at h2; exact absurd h2 (by decide)
        · simp [hi, h.1 i h1 h2]
      · rw [hx]
        by_cases hi : f = i
        · subst hi; simp [hb, hb2]
        · simp [hi, h.2 i (by omega) h2]
    · refine Or.inl ⟨h.1, fun i h1 h2 => ?_⟩
      by_cases hi : f = i
      · subst hi; rw [hb, hb2]
      · exact h.2 i (by omega) h2
  · rintro (h | h)
    · exact ⟨h.1, fun i h1 h2 => h.2 i (by omega) h2⟩
    · refine ⟨fun i h1 h2 => ?_, fun i h1 h2 => ?_⟩
      · have := h.1 i h1 h2
        rw [hx] at this
        by_cases hi : f = i
        · subst hi; exact hb
        · simpa [hi] using this
      · have := h.2 i (by omega) h2
        rw [hx] at this
        have hi : ¬ f = i := by omega
        simpa [hi] using this
theorem nI_xor (a b : Nat) : nI a ^^^ nI b = nI (a ^^^ b) := by
  apply b_ext
  intro i hi
  rw [b_xor, bt_nI hi, bt_nI hi, bt_nI hi, Nat.testBit_xor]
theorem xor_lt {a b F : Nat} (h1 : a < 2 ^ F) (h2 : b < 2 ^ F) : a ^^^ b < 2 ^ F := Nat.xor_lt_two_pow h1 h2
/-- what the table of extremes must hold -/
def XT (s : ST) (zN : Nat) (c : Nat → Nat → Prop) (g : Nat → Int) (n : Nat) : Prop := ∀ d, d < zN → ∃ e, s 37 d = iI e ∧ Mx (c d) g n e
theorem c_findExtremes {G : GT} {d : Nat} {σ : ST} {μ : SL} {W F P q : Nat} {sg : Int32} {kn sz : Nat → Nat} {g : Nat → Int} (hL : LV σ 20 W F P) (hq : q < 2 ^ F) (hkn : ∀ k, k < 2 ^ F → kn k < 2 ^ F ∧ σ 36 k = nI (kn k)) (hsz : ∀ k, k < 2 ^ F → σ 35 k = nI (sz k)) (hg : ∀ k, k < 2 ^ F → -16 ≤ g k ∧ g k ≤ 16 ∧ sg * nI (sz k) = iI (g k)) : Fn G (d + 1) mX7_findExtremes [.ref (G.b0 + 34), .ref (G.b0 + 20), .int (nI q), .int sg] (sh G σ μ) (fun r h' => r = none ∧ ∃ s : ST, h' = sh G s μ ∧ (∀ c, c ≠ 37 → s c = σ c) ∧ XT s (2 ^ F) (fun d k => cf F d (kn k ^^^ q)) g (2 ^ F)) := by
  obtain ⟨hW, hF, hP, hW16, hF8, hP6⟩ := id hL
  have h256 : 2 ^ F ≤ 256 := Nat.pow_le_pow_right (by omega) hF8
  generalize hN : 2 ^ F = zN at hq hkn hsz hg h256
  have hx : ∀ k, k < zN → kn k ^^^ q < zN := fun k hk => by
    rw [← hN]
    exact xor_lt (by rw [hN]; exact (hkn k hk).1) (by rw [hN]; exact hq)
  refine fn_of (ls := [some (.ref (G.b0 + 34)), some (.ref (G.b0 + 20)), some (.int (nI q)), some (.int sg), none, none, none]) (by decide +kernel) (Nat.le_of_ble_eq_true rfl) 3 rfl ?_
  refine b_iconst (v := nI 1) dX7_findExtremes_0 (by decide) ?_
  refine b_aload_n dX7_findExtremes_1 rfl ?_
  refine g_geti (x := nI F) dX7_findExtremes_2 fX7_27 a20 rfl hF ?_
  refine b_ishl dX7_findExtremes_5 ?_
  refine b_top (shl_pow (by omega)) ?_
  rw [hN]
  refine b_istore dX7_findExtremes_6 (by decide) rfl ?_
  refine b_aload_n dX7_findExtremes_8 rfl ?_
  refine g_get dX7_findExtremes_9 fX7_18 a34 rfl ?_
  refine b_sipush (v := -1000) dX7_findExtremes_12 (by decide) ?_
  refine b_callSr [.ref (G.b0 + 37), .int ((-1000))] dX7_findExtremes_15 kJ7_fill_53178 lX7_74 (c_fill a37) rfl rfl (Nat.le_of_ble_eq_true rfl) ?_
  refine b_iconst (v := nI 0) dX7_findExtremes_18 (by decide) ?_
  refine b_istore dX7_findExtremes_19 (by decide) rfl ?_
  have lp1 : ∀ (n i : Nat) (s : ST) (z6 : Option Value), i + n = zN → (∀ c, c ≠ 37 → s c = σ c) → XT s zN (fun d k => kn k ^^^ q = d) g i → BB G RX7 cX7_findExtremes 7 none (d + 1) (QM G (fun r h' => r = none ∧ ∃ s : ST, h' = sh G s μ ∧ (∀ c, c ≠ 37 → s c = σ c) ∧ XT s zN (fun d k => cf F d (kn k ^^^ q)) g zN)) 21 [some (.ref (G.b0 + 34)), some (.ref (G.b0 + 20)), some (.int (nI q)), some (.int sg), some (.int (nI zN)), some (.int (nI i)), z6] [] (sh G s μ) := by
    intro n
    induction n with
    | zero =>
      intro i s z6 hi hs hT
      refine b_iload dX7_findExtremes_21 rfl ?_
      refine b_iload dX7_findExtremes_23 rfl ?_
      refine b_icmp_ge_t 71 dX7_findExtremes_25 (by decide) (nI_le (by omega) (by omega)) ?_
      refine b_iconst (v := nI 0) dX7_findExtremes_71 (by decide) ?_
      refine b_istore dX7_findExtremes_72 (by decide) rfl ?_
      have e : i = zN := by omega
      rw [e] at hT
      have lp2 : ∀ (n f : Nat) (s : ST) (z6 : Option Value), f + n = F → (∀ c, c ≠ 37 → s c = σ c) → XT s zN (fun d k => cf f d (kn k ^^^ q)) g zN → BB G RX7 cX7_findExtremes 7 none (d + 1) (QM G (fun r h' => r = none ∧ ∃ s : ST, h' = sh G s μ ∧ (∀ c, c ≠ 37 → s c = σ c) ∧ XT s zN (fun d k => cf F d (kn k ^^^ q)) g zN)) 74 [some (.ref (G.b0 + 34)), some (.ref (G.b0 + 20)), some (.int (nI q)), some (.int sg), some (.int (nI zN)), some (.int (nI f)), z6] [] (sh G s μ) := by
        intro n
        induction n with
        | zero =>
          intro f s z6 hi2 hs hT
          refine b_iload dX7_findExtremes_74 rfl ?_
          refine b_aload_n dX7_findExtremes_76 rfl ?_
          refine g_geti (x := nI F) dX7_findExtremes_77 fX7_27 a20 rfl (by rw [hs 20 (by omega)]; exact hF) ?_
          refine b_icmp_ge_t 145 dX7_findExtremes_80 (by decide) (nI_le (by omega) (by omega)) ?_
          exact b_vret dX7_findExtremes_145 ⟨rfl, s, rfl, hs, by rw [show F = f by omega]; exact hT⟩
        | succ n ih =>
          intro f s z6 hi2 hs hT
          refine b_iload dX7_findExtremes_74 rfl ?_
          refine b_aload_n dX7_findExtremes_76 rfl ?_
          refine g_geti (x := nI F) dX7_findExtremes_77 fX7_27 a20 rfl (by rw [hs 20 (by omega)]; exact hF) ?_
          refine b_icmp_ge_f 145 dX7_findExtremes_80 (by decide) (nI_ge (by omega) (by omega)) ?_
          refine b_iconst (v := nI 0) dX7_findExtremes_83 (by decide) ?_
          refine b_istore dX7_findExtremes_84 (by decide) rfl ?_
          have lp3 : ∀ (k j : Nat) (s : ST), j + k = zN → (∀ c, c ≠ 37 → s c = σ c) → XT s zN (fun d k => cf (if d < j then f + 1 else f) d (kn k ^^^ q)) g zN → BB G RX7 cX7_findExtremes 7 none (d + 1) (QM G (fun r h' => r = none ∧ ∃ s : ST, h' = sh G s μ ∧ (∀ c, c ≠ 37 → s c = σ c) ∧ XT s zN (fun d k => cf F d (kn k ^^^ q)) g zN)) 86 [some (.ref (G.b0 + 34)), some (.ref (G.b0 + 20)), some (.int (nI q)), some (.int sg), some (.int (nI zN)), some (.int (nI f)), some (.int (nI j))] [] (sh G s μ) := by
            intro k
            induction k with
            | zero =>
              intro j s hj hs hT
              refine b_iload dX7_findExtremes_86 rfl ?_
              refine b_iload dX7_findExtremes_88 rfl ?_
              refine b_icmp_ge_t 139 dX7_findExtremes_90 (by decide) (nI_le (by omega) (by omega)) ?_
              refine b_iinc dX7_findExtremes_139 rfl (nI_1 _) (by decide) rfl ?_
              refine b_goto 74 dX7_findExtremes_142 (by decide) ?_
              refine ih (f + 1) s _ (by omega) hs (fun d hd => ?_)
              obtain ⟨e, h1, h2⟩ := hT d hd
              dsimp only at h2
              rw [if_pos (by omega)] at h2
              exact ⟨e, h1, h2⟩
            | succ k ihk =>
              intro j s hj hs hT
              refine b_iload dX7_findExtremes_86 rfl ?_
              refine b_iload dX7_findExtremes_88 rfl ?_
              refine b_icmp_ge_f 139 dX7_findExtremes_90 (by decide) (nI_ge (by omega) (by omega)) ?_
              refine b_iload dX7_findExtremes_93 rfl ?_
              refine b_iload dX7_findExtremes_95 rfl ?_
              refine b_ishr dX7_findExtremes_97 ?_
              refine b_iconst (v := nI 1) dX7_findExtremes_98 (by decide) ?_
              refine b_iand dX7_findExtremes_99 ?_
              refine b_iconst (v := nI 1) dX7_findExtremes_100 (by decide) ?_
              refine b_icmp_ne 133 dX7_findExtremes_101 (by decide) (fun c1 => ?_) (fun c1 => ?_)
              · skip
                refine b_iinc dX7_findExtremes_133 rfl (nI_1 _) (by decide) rfl ?_
                refine b_goto 86 dX7_findExtremes_136 (by decide) ?_
                have c2 : j.testBit f = false := by
                  have : ¬ bt (nI j) f = true := fun z => c1 ((b_test (by omega)).mpr z)
                  rw [bt_nI (by omega)] at this
                  simpa using this
                refine ihk (j + 1) s (by omega) hs (fun d hd => ?_)
                obtain ⟨e, h1, h2⟩ := hT d hd
                refine ⟨e, h1, Mx_cg h2 (fun k hk => ?_)⟩
                dsimp only
                by_cases hdj : d = j
                · subst hdj
                  rw [if_neg (Nat.lt_irrefl d), if_pos (Nat.lt_succ_self d)]
                  exact cf_no (by omega) c2
                · by_cases hlt : d < j
                  · rw [if_pos hlt, if_pos (by omega)]
                  · rw [if_neg hlt, if_neg (by omega)]
              · skip
                have c2 : j.testBit f = true := by
                  have : bt (nI j) f = true := (b_test (by omega)).mp c1
                  rwa [bt_nI (by omega)] at this
                have hjf : j ^^^ 2 ^ f < zN := by
                  rw [← hN]
                  exact xor_lt (by rw [hN]; omega) (Nat.pow_lt_pow_right (by omega) (by omega))
                obtain ⟨e1, h1, m1⟩ := hT j (by omega)
                obtain ⟨e2, h2, m2⟩ := hT (j ^^^ 2 ^ f) hjf
                dsimp only at m1
                rw [if_neg (Nat.lt_irrefl j)] at m1
                have m2' : Mx (fun k => cf f (j ^^^ 2 ^ f) (kn k ^^^ q)) g zN e2 := by
                  refine Mx_cg m2 (fun k hk => ?_)
                  have hb0 : (j ^^^ 2 ^ f).testBit f = false := by rw [Nat.testBit_xor, Nat.testBit_two_pow, c2]; simp
                  dsimp only
                  split
                  · exact (cf_no (by omega) hb0).symm
                  · exact Iff.rfl
                have m3 := Mx_or (c := fun k => cf (f + 1) j (kn k ^^^ q)) m1 m2' (fun k hk => cf_yes (by omega) c2)
                refine b_aload_n dX7_findExtremes_104 rfl ?_
                refine g_get dX7_findExtremes_105 fX7_18 a34 rfl ?_
                refine b_iload dX7_findExtremes_108 rfl ?_
                refine b_aload_n dX7_findExtremes_110 rfl ?_
                refine g_get dX7_findExtremes_111 fX7_18 a34 rfl ?_
                refine b_iload dX7_findExtremes_114 rfl ?_
                refine g_iald dX7_findExtremes_116 a37 rfl (by omega) ?_
                refine b_aload_n dX7_findExtremes_117 rfl ?_
                refine g_get dX7_findExtremes_118 fX7_18 a34 rfl ?_
                refine b_iload dX7_findExtremes_121 rfl ?_
                refine b_iconst (v := nI 1) dX7_findExtremes_123 (by decide) ?_
                refine b_iload dX7_findExtremes_124 rfl ?_
                refine b_ishl dX7_findExtremes_126 ?_
                refine b_ixor dX7_findExtremes_127 ?_
                refine b_top (y := nI (j ^^^ 2 ^ f)) (by rw [shl_pow (by omega), nI_xor]) ?_
                refine g_iald dX7_findExtremes_128 a37 rfl (by omega) ?_
                refine b_mmax dX7_findExtremes_129 lX7_80 (Nat.le_of_ble_eq_true rfl) ?_
                refine g_iast dX7_findExtremes_132 a37 rfl (by omega) ?_
                refine b_iinc dX7_findExtremes_133 rfl (nI_1 _) (by decide) rfl ?_
                refine b_goto 86 dX7_findExtremes_136 (by decide) ?_
                have hv : mMax (s 37 j) (s 37 (j ^^^ 2 ^ f)) = iI (max e1 e2) := by
                  rw [h1, h2]
                  exact iI_max (by have := m1.1; omega) (by have := m1.2.1; omega) (by have := m2.1; omega) (by have := m2.2.1; omega)
                refine ihk (j + 1) _ (by omega) (fun c hc => by rw [pt_r hc]; exact hs c hc) (fun d hd => ?_)
                by_cases hdj : d = j
                · subst hdj
                  refine ⟨max e1 e2, ?_, ?_⟩
                  · exact (pt_s _ _ _ _).trans hv
                  · dsimp only
                    rw [if_pos (Nat.lt_succ_self d)]
                    exact m3
                · obtain ⟨e, h1, h2⟩ := hT d hd
                  refine ⟨e, by rw [pt_j hdj]; exact h1, ?_⟩
                  dsimp only at h2 ⊢
                  by_cases hlt : d < j
                  · rw [if_pos hlt] at h2; rw [if_pos (by omega)]; exact h2
                  · rw [if_neg hlt] at h2; rw [if_neg (by omega)]; exact h2
          exact lp3 zN 0 s (by omega) hs (fun d hd => by
            obtain ⟨e, h1, h2⟩ := hT d hd
            exact ⟨e, h1, by dsimp only; rw [if_neg (by omega)]; exact h2⟩)
      refine lp2 F 0 s _ (by omega) hs (fun d hd => ?_)
      obtain ⟨e, h1, h2⟩ := hT d hd
      exact ⟨e, h1, Mx_cg h2 (fun k hk => (cf_0 (by omega) (by have := hx k hk; omega)).symm)⟩
    | succ n ih =>
      intro i s z6 hi hs hT
      have hxi := hx i (by omega)
      refine b_iload dX7_findExtremes_21 rfl ?_
      refine b_iload dX7_findExtremes_23 rfl ?_
      refine b_icmp_ge_f 71 dX7_findExtremes_25 (by decide) (nI_ge (by omega) (by omega)) ?_
      refine b_aload_n dX7_findExtremes_28 rfl ?_
      refine g_get dX7_findExtremes_29 fX7_15 a34 rfl ?_
      refine b_iload dX7_findExtremes_32 rfl ?_
      refine g_iald dX7_findExtremes_34 a36 rfl (by omega) ?_
      refine b_iload_n dX7_findExtremes_35 rfl ?_
      refine b_ixor dX7_findExtremes_36 ?_
      refine b_top (y := nI (kn i ^^^ q)) (by rw [hs 36 (by omega), (hkn i (by omega)).2, nI_xor]) ?_
      refine b_istore dX7_findExtremes_37 (by decide) rfl ?_
      refine b_aload_n dX7_findExtremes_39 rfl ?_
      refine g_get dX7_findExtremes_40 fX7_18 a34 rfl ?_
      refine b_iload dX7_findExtremes_43 rfl ?_
      refine b_aload_n dX7_findExtremes_45 rfl ?_
      refine g_get dX7_findExtremes_46 fX7_18 a34 rfl ?_
      refine b_iload dX7_findExtremes_49 rfl ?_
      refine g_iald dX7_findExtremes_51 a37 rfl (by omega) ?_
      refine b_iload_n dX7_findExtremes_52 rfl ?_
      refine b_aload_n dX7_findExtremes_53 rfl ?_
      refine g_get dX7_findExtremes_54 fX7_9 a34 rfl ?_
      refine b_iload dX7_findExtremes_57 rfl ?_
      refine g_iald dX7_findExtremes_59 a35 rfl (by omega) ?_
      refine b_imul dX7_findExtremes_60 ?_
      refine b_top (y := iI (g i)) (by rw [hs 35 (by omega), hsz i (by omega)]; exact (hg i (by omega)).2.2) ?_
      refine b_mmax dX7_findExtremes_61 lX7_80 (Nat.le_of_ble_eq_true rfl) ?_
      refine g_iast dX7_findExtremes_64 a37 rfl (by omega) ?_
      refine b_iinc dX7_findExtremes_65 rfl (nI_1 _) (by decide) rfl ?_
      refine b_goto 21 dX7_findExtremes_68 (by decide) ?_
      obtain ⟨e, h1, h2⟩ := hT _ hxi
      obtain ⟨g1, g2, -⟩ := hg i (by omega)
      have hv : mMax (s 37 (kn i ^^^ q)) (iI (g i)) = iI (max e (g i)) := by
        rw [h1]
        exact iI_max (by have := h2.1; omega) (by have := h2.2.1; omega) (by omega) (by omega)
      refine ih (i + 1) _ _ (by omega) (fun c hc => by rw [pt_r hc]; exact hs c hc) (fun d hd => ?_)
      by_cases hdj : d = kn i ^^^ q
      · subst hdj
        exact ⟨_, (pt_s _ _ _ _).trans hv, Mx_in h2 rfl g1 g2⟩
      · obtain ⟨e', h1', h2'⟩ := hT d hd
        exact ⟨e', by rw [pt_j hdj]; exact h1', Mx_no h2' (fun z => hdj z.symm)⟩
  refine lp1 zN 0 _ _ (by omega) (fun c hc => ?_) (fun d hd => ⟨-1000, ?_, Mx_0 _ _⟩)
  · funext y
    simp [flS, hc]
  · simp [flS, show d < 256 by omega]

