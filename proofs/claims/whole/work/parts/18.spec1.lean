/-! ===== what the calls answer, over a land as both sides hold it ===== -/
/-- counts (worlds, facts, people, the true world); numbers, weights, where facts hold, hints, roads, the guilty, what each was told -/
abbrev LD : Type := (Nat × Nat × Nat × Nat) × ((Nat → Int32) × (Nat → Int32) × (Nat → Int32) × (Nat → Int32) × (Nat → Int32) × Int32 × (Nat → Int32))
abbrev LD.W (L : LD) : Nat := L.1.1
abbrev LD.F (L : LD) : Nat := L.1.2.1
abbrev LD.P (L : LD) : Nat := L.1.2.2.1
abbrev LD.t (L : LD) : Nat := L.1.2.2.2
abbrev LD.num (L : LD) : Nat → Int32 := L.2.1
abbrev LD.wt (L : LD) : Nat → Int32 := L.2.2.1
abbrev LD.hold (L : LD) : Nat → Int32 := L.2.2.2.1
abbrev LD.hint (L : LD) : Nat → Int32 := L.2.2.2.2.1
abbrev LD.road (L : LD) : Nat → Int32 := L.2.2.2.2.2.1
abbrev LD.gl (L : LD) : Int32 := L.2.2.2.2.2.2.1
abbrev LD.told (L : LD) : Nat → Int32 := L.2.2.2.2.2.2.2
def inR (x : Int32) (n : Nat) : Bool := decide (0 ≤ x) && decide (x < nI n)
abbrev ix (x : Int32) : Nat := x.toNatClampNeg
theorem inR_of {x : Int32} {n : Nat} (hn : n < 2 ^ 31) (h : inR x n = true) : ∃ j, j < n ∧ x = nI j := by
  simp only [inR, Bool.and_eq_true, decide_eq_true_eq] at h
  rcases pk_ix x hn with h1 | h1 | h1
  · exact absurd h.1 (Int32.not_le.mpr h1)
  · exact absurd h.2 (Int32.not_lt.mpr h1)
  · exact h1
theorem inR_nI {j n : Nat} (hj : j < 2 ^ 31) (hn : n < 2 ^ 31) : inR (nI j) n = decide (j < n) := by
  have h1 : (0 : Int32) ≤ nI j := nI_pos' hj
  simp only [inR, h1, decide_true, Bool.true_and]
  rw [decide_eq_decide]
  exact nI_ltI hj hn
theorem ix_nI {j : Nat} (h : j < 2 ^ 31) : ix (nI j) = j := nI_clamp h
def poss (L : LD) (p w : Nat) : Int32 := mPoss L.hold L.W (L.told p) w L.F
def oWorld (L : LD) (w what : Int32) : Int32 := if inR w L.W && inR what 6 then (if ix what < 3 then L.num (3 * ix w + ix what) else if ix what = 3 then L.wt (ix w) else if ix what = 4 then bI (bt L.gl (ix w)) else mFacts L.hold (ix w) L.F) else -2
def oFact (L : LD) (f : Int32) : Int32 := if inR f L.F then L.hold (ix f) else -2
def oHints (L : LD) (f : Int32) : Int32 := if inR f L.F then L.hint (ix f) else -2
def oPerson (L : LD) (p what : Int32) : Int32 := if inR p L.P && inR what 5 then (if ix what = 0 then L.told (ix p) else if ix what = 1 then poss L (ix p) L.t else if ix what = 2 then mKnown L.hold (poss L (ix p) L.t) L.F else if ix what = 3 then bI (mKn L.gl (poss L (ix p) L.t)) else L.road (ix p)) else -2
def oKnows (L : LD) (p f : Int32) : Int32 := if inR p L.P && inR f L.F then (if mKn (L.hold (ix f)) (poss L (ix p) L.t) then (if poss L (ix p) L.t &&& L.hold (ix f) = poss L (ix p) L.t then nI 1 else nI 0) else -1) else -2
def oCell (L : LD) (p w : Int32) : Int32 := if inR p L.P && inR w L.W then poss L (ix p) (ix w) else -2
/-- the class's land as one -/
abbrev vX (σ : ST) (W F P t : Nat) : LD := ((W, F, P, t), (σ 21, σ 22, σ 23, σ 24, σ 25, σ 20 5, σ 27))
/-- what stands between calls in the class: its land's counts, what is true -/
def XV (σ : ST) (W F P t : Nat) : Prop := LV σ 20 W F P ∧ σ 26 2 = nI t ∧ (0 < W → t < W) ∧ (W = 0 → t = 0)
theorem XV.t32 {σ : ST} {W F P t : Nat} (h : XV σ W F P t) : t < 16 := by
  have h1 := h.1.2.2.2.1
  rcases Nat.eq_zero_or_pos W with q | q
  · have := h.2.2.2 q; omega
  · have := h.2.2.1 q; omega
theorem c_isWorld {G : GT} {d : Nat} {σ : ST} {μ : SL} {W : Nat} {x : Int32} (hW : σ 20 6 = nI W) : Fn G d mX11_isWorld [.ref (G.b0 + 0), .int x] (sh G σ μ) (Ret (some (.int (bI (inR x W)))) (sh G σ μ)) := by
  refine fn_of (ls := [some (.ref (G.b0 + 0)), some (.int x)]) (by decide +kernel) (Nat.le_of_ble_eq_true rfl) 0 rfl ?_
  refine b_iload_n dX11_isWorld_0 rfl ?_
  refine b_if_lt 19 dX11_isWorld_1 (by decide) (fun c1 => ?_) (fun c1 => ?_)
  · skip
    refine b_iconst (v := nI 0) dX11_isWorld_19 (by decide) ?_
    exact b_zret dX11_isWorld_20 rfl ⟨by simp [inR, Int32.not_le.mpr c1, bI], rfl⟩
  · skip
    refine b_iload_n dX11_isWorld_4 rfl ?_
    refine b_aload_n dX11_isWorld_5 rfl ?_
    refine g_get dX11_isWorld_6 fX11_23 a0 rfl ?_
    refine g_geti (x := nI W) dX11_isWorld_9 fX11_165 a20 rfl hW ?_
    refine b_icmp_ge 19 dX11_isWorld_12 (by decide) (fun c2 => ?_) (fun c2 => ?_)
    · skip
      refine b_iconst (v := nI 0) dX11_isWorld_19 (by decide) ?_
      exact b_zret dX11_isWorld_20 rfl ⟨by simp [inR, Int32.not_lt.mpr c2, bI], rfl⟩
    · skip
      refine b_iconst (v := nI 1) dX11_isWorld_15 (by decide) ?_
      refine b_goto 20 dX11_isWorld_16 (by decide) ?_
      exact b_zret dX11_isWorld_20 rfl ⟨by simp [inR, Int32.not_lt.mp c1, Int32.not_le.mp c2, bI], rfl⟩
theorem c_isFact {G : GT} {d : Nat} {σ : ST} {μ : SL} {F : Nat} {x : Int32} (hF : σ 20 7 = nI F) : Fn G d mX11_isFact [.ref (G.b0 + 0), .int x] (sh G σ μ) (Ret (some (.int (bI (inR x F)))) (sh G σ μ)) := by
  refine fn_of (ls := [some (.ref (G.b0 + 0)), some (.int x)]) (by decide +kernel) (Nat.le_of_ble_eq_true rfl) 0 rfl ?_
  refine b_iload_n dX11_isFact_0 rfl ?_
  refine b_if_lt 19 dX11_isFact_1 (by decide) (fun c1 => ?_) (fun c1 => ?_)
  · skip
    refine b_iconst (v := nI 0) dX11_isFact_19 (by decide) ?_
    exact b_zret dX11_isFact_20 rfl ⟨by simp [inR, Int32.not_le.mpr c1, bI], rfl⟩
  · skip
    refine b_iload_n dX11_isFact_4 rfl ?_
    refine b_aload_n dX11_isFact_5 rfl ?_
    refine g_get dX11_isFact_6 fX11_23 a0 rfl ?_
    refine g_geti (x := nI F) dX11_isFact_9 fX11_168 a20 rfl hF ?_
    refine b_icmp_ge 19 dX11_isFact_12 (by decide) (fun c2 => ?_) (fun c2 => ?_)
    · skip
      refine b_iconst (v := nI 0) dX11_isFact_19 (by decide) ?_
      exact b_zret dX11_isFact_20 rfl ⟨by simp [inR, Int32.not_lt.mpr c2, bI], rfl⟩
    · skip
      refine b_iconst (v := nI 1) dX11_isFact_15 (by decide) ?_
      refine b_goto 20 dX11_isFact_16 (by decide) ?_
      exact b_zret dX11_isFact_20 rfl ⟨by simp [inR, Int32.not_lt.mp c1, Int32.not_le.mp c2, bI], rfl⟩
theorem c_isPerson {G : GT} {d : Nat} {σ : ST} {μ : SL} {P : Nat} {x : Int32} (hP : σ 20 8 = nI P) : Fn G d mX11_isPerson [.ref (G.b0 + 0), .int x] (sh G σ μ) (Ret (some (.int (bI (inR x P)))) (sh G σ μ)) := by
  refine fn_of (ls := [some (.ref (G.b0 + 0)), some (.int x)]) (by decide +kernel) (Nat.le_of_ble_eq_true rfl) 0 rfl ?_
  refine b_iload_n dX11_isPerson_0 rfl ?_
  refine b_if_lt 19 dX11_isPerson_1 (by decide) (fun c1 => ?_) (fun c1 => ?_)
  · skip
    refine b_iconst (v := nI 0) dX11_isPerson_19 (by decide) ?_
    exact b_zret dX11_isPerson_20 rfl ⟨by simp [inR, Int32.not_le.mpr c1, bI], rfl⟩
  · skip
    refine b_iload_n dX11_isPerson_4 rfl ?_
    refine b_aload_n dX11_isPerson_5 rfl ?_
    refine g_get dX11_isPerson_6 fX11_23 a0 rfl ?_
    refine g_geti (x := nI P) dX11_isPerson_9 fX11_171 a20 rfl hP ?_
    refine b_icmp_ge 19 dX11_isPerson_12 (by decide) (fun c2 => ?_) (fun c2 => ?_)
    · skip
      refine b_iconst (v := nI 0) dX11_isPerson_19 (by decide) ?_
      exact b_zret dX11_isPerson_20 rfl ⟨by simp [inR, Int32.not_lt.mpr c2, bI], rfl⟩
    · skip
      refine b_iconst (v := nI 1) dX11_isPerson_15 (by decide) ?_
      refine b_goto 20 dX11_isPerson_16 (by decide) ?_
      exact b_zret dX11_isPerson_20 rfl ⟨by simp [inR, Int32.not_lt.mp c1, Int32.not_le.mp c2, bI], rfl⟩
theorem c_isMeasure {G : GT} {d : Nat} {h : HT} {x : Int32} : Fn G d mX11_isMeasure [.int x] h (Ret (some (.int (bI (inR x 4)))) h) := by
  refine fn_of (ls := [some (.int x)]) (by decide +kernel) (Nat.le_of_ble_eq_true rfl) 0 rfl ?_
  refine b_iload_n dX11_isMeasure_0 rfl ?_
  refine b_if_lt 13 dX11_isMeasure_1 (by decide) (fun c1 => ?_) (fun c1 => ?_)
  · skip
    refine b_iconst (v := nI 0) dX11_isMeasure_13 (by decide) ?_
    exact b_zret dX11_isMeasure_14 rfl ⟨by simp [inR, Int32.not_le.mpr c1, bI], rfl⟩
  · skip
    refine b_iload_n dX11_isMeasure_4 rfl ?_
    refine b_iconst (v := nI 4) dX11_isMeasure_5 (by decide) ?_
    refine b_icmp_ge 13 dX11_isMeasure_6 (by decide) (fun c2 => ?_) (fun c2 => ?_)
    · skip
      refine b_iconst (v := nI 0) dX11_isMeasure_13 (by decide) ?_
      exact b_zret dX11_isMeasure_14 rfl ⟨by simp [inR, Int32.not_lt.mpr c2, bI], rfl⟩
    · skip
      refine b_iconst (v := nI 1) dX11_isMeasure_9 (by decide) ?_
      refine b_goto 14 dX11_isMeasure_10 (by decide) ?_
      exact b_zret dX11_isMeasure_14 rfl ⟨by simp [inR, Int32.not_lt.mp c1, Int32.not_le.mp c2, bI], rfl⟩
theorem c_isRow {G : GT} {d : Nat} {h : HT} {x : Int32} : Fn G d mX11_isRow [.int x] h (Ret (some (.int (bI (inR x 4)))) h) := by
  refine fn_of (ls := [some (.int x)]) (by decide +kernel) (Nat.le_of_ble_eq_true rfl) 0 rfl ?_
  refine b_iload_n dX11_isRow_0 rfl ?_
  refine b_if_lt 13 dX11_isRow_1 (by decide) (fun c1 => ?_) (fun c1 => ?_)
  · skip
    refine b_iconst (v := nI 0) dX11_isRow_13 (by decide) ?_
    exact b_zret dX11_isRow_14 rfl ⟨by simp [inR, Int32.not_le.mpr c1, bI], rfl⟩
  · skip
    refine b_iload_n dX11_isRow_4 rfl ?_
    refine b_iconst (v := nI 4) dX11_isRow_5 (by decide) ?_
    refine b_icmp_ge 13 dX11_isRow_6 (by decide) (fun c2 => ?_) (fun c2 => ?_)
    · skip
      refine b_iconst (v := nI 0) dX11_isRow_13 (by decide) ?_
      exact b_zret dX11_isRow_14 rfl ⟨by simp [inR, Int32.not_lt.mpr c2, bI], rfl⟩
    · skip
      refine b_iconst (v := nI 1) dX11_isRow_9 (by decide) ?_
      refine b_goto 14 dX11_isRow_10 (by decide) ?_
      exact b_zret dX11_isRow_14 rfl ⟨by simp [inR, Int32.not_lt.mp c1, Int32.not_le.mp c2, bI], rfl⟩
theorem c_possibleTo {G : GT} {d : Nat} {σ : ST} {μ : SL} {W F P t p : Nat} (hX : XV σ W F P t) (hp : p < 6) : Fn G (d + 2) mX11_possibleTo [.ref (G.b0 + 0), .int (nI p)] (sh G σ μ) (Ret (some (.int (poss (vX σ W F P t) p t))) (sh G σ μ)) := by
  have ht := hX.t32
  refine fn_of (ls := [some (.ref (G.b0 + 0)), some (.int (nI p))]) (by decide +kernel) (Nat.le_of_ble_eq_true rfl) 0 rfl ?_
  refine b_aload_n dX11_possibleTo_0 rfl ?_
  refine g_get dX11_possibleTo_1 fX11_23 a0 rfl ?_
  refine b_aload_n dX11_possibleTo_4 rfl ?_
  refine g_get dX11_possibleTo_5 fX11_30 a0 rfl ?_
  refine g_get dX11_possibleTo_8 fX11_142 a26 rfl ?_
  refine b_iload_n dX11_possibleTo_11 rfl ?_
  refine g_iald dX11_possibleTo_12 a27 rfl (by omega) ?_
  refine b_aload_n dX11_possibleTo_13 rfl ?_
  refine g_get dX11_possibleTo_14 fX11_30 a0 rfl ?_
  refine g_geti (x := nI t) dX11_possibleTo_17 fX11_174 a26 rfl hX.2.1 ?_
  refine g_callV [.int (σ 27 p), .int (nI t)] dX11_possibleTo_20 kX2_possible lX11_161 a20 rfl rfl (c_possible ln20 hX.1 (by omega)) rfl rfl (Nat.le_of_ble_eq_true rfl) ?_
  exact b_iret dX11_possibleTo_23 ⟨rfl, rfl⟩
theorem c_fault {G : GT} {d : Nat} {σ : ST} {μ : SL} {x : Int32} : Fn G d mX11_fault [.ref (G.b0 + 0), .int x] (sh G σ μ) (Ret (some (.int (if x = 0 then σ 2 4 else if x = nI 1 then σ 2 5 else -1))) (sh G σ μ)) := by
  refine fn_of (ls := [some (.ref (G.b0 + 0)), some (.int x)]) (by decide +kernel) (Nat.le_of_ble_eq_true rfl) 0 rfl ?_
  refine b_iload_n dX11_fault_0 rfl ?_
  refine b_if_ne 12 dX11_fault_1 (by decide) (fun c1 => ?_) (fun c1 => ?_)
  · skip
    refine b_iload_n dX11_fault_12 rfl ?_
    refine b_iconst (v := nI 1) dX11_fault_13 (by decide) ?_
    refine b_icmp_ne 27 dX11_fault_14 (by decide) (fun c2 => ?_) (fun c2 => ?_)
    · skip
      refine b_iconst (v := -1) dX11_fault_27 (by decide) ?_
      exact b_iret dX11_fault_28 ⟨by simp [c1, c2], rfl⟩
    · skip
      refine b_aload_n dX11_fault_17 rfl ?_
      refine g_get dX11_fault_18 fX11_16 a0 rfl ?_
      refine g_get dX11_fault_21 fX11_109 a2 rfl ?_
      refine b_goto 28 dX11_fault_24 (by decide) ?_
      exact b_iret dX11_fault_28 ⟨by rw [if_neg c1, if_pos c2], rfl⟩
  · skip
    refine b_aload_n dX11_fault_4 rfl ?_
    refine g_get dX11_fault_5 fX11_16 a0 rfl ?_
    refine g_get dX11_fault_8 fX11_91 a2 rfl ?_
    exact b_iret dX11_fault_11 ⟨by simp [c1], rfl⟩
theorem c_X_fact {G : GT} {d : Nat} {σ : ST} {μ : SL} {W F P t : Nat} {x : Int32} (hX : XV σ W F P t) : Fn G (d + 1) mX11_fact [.ref (G.b0 + 0), .int x] (sh G σ μ) (Ret (some (.int (oFact (vX σ W F P t) x))) (sh G σ μ)) := by
  obtain ⟨⟨hW, hF, hP, hW16, hF8, hP6⟩, -⟩ := id hX
  refine fn_of (ls := [some (.ref (G.b0 + 0)), some (.int x)]) (by decide +kernel) (Nat.le_of_ble_eq_true rfl) 0 rfl ?_
  refine b_aload_n dX11_fact_0 rfl ?_
  refine b_iload_n dX11_fact_1 rfl ?_
  refine g_callV [.int x] dX11_fact_2 kX11_isFact lX11_130 a0 rfl rfl (c_isFact hF) rfl rfl (Nat.le_of_ble_eq_true rfl) ?_
  refine b_if_eq 20 dX11_fact_5 (by decide) (fun c1 => ?_) (fun c1 => ?_)
  · skip
    refine b_bipush (v := -2) dX11_fact_20 (by decide) ?_
    exact b_iret dX11_fact_22 ⟨by simp [oFact, (bI_0 _).mp c1], rfl⟩
  · skip
    have c2 := (bI_1 _).mp c1
    obtain ⟨j, hj, rfl⟩ := inR_of (by omega) c2
    refine b_aload_n dX11_fact_8 rfl ?_
    refine g_get dX11_fact_9 fX11_23 a0 rfl ?_
    refine g_get dX11_fact_12 fX11_133 a20 rfl ?_
    refine b_iload_n dX11_fact_15 rfl ?_
    refine g_iald dX11_fact_16 a23 rfl (by omega) ?_
    refine b_goto 22 dX11_fact_17 (by decide) ?_
    exact b_iret dX11_fact_22 ⟨by simp [oFact, c2, ix_nI (show j < 2 ^ 31 by omega)], rfl⟩
theorem c_X_hints {G : GT} {d : Nat} {σ : ST} {μ : SL} {W F P t : Nat} {x : Int32} (hX : XV σ W F P t) : Fn G (d + 1) mX11_hints [.ref (G.b0 + 0), .int x] (sh G σ μ) (Ret (some (.int (oHints (vX σ W F P t) x))) (sh G σ μ)) := by
  obtain ⟨⟨hW, hF, hP, hW16, hF8, hP6⟩, -⟩ := id hX
  refine fn_of (ls := [some (.ref (G.b0 + 0)), some (.int x)]) (by decide +kernel) (Nat.le_of_ble_eq_true rfl) 0 rfl ?_
  refine b_aload_n dX11_hints_0 rfl ?_
  refine b_iload_n dX11_hints_1 rfl ?_
  refine g_callV [.int x] dX11_hints_2 kX11_isFact lX11_130 a0 rfl rfl (c_isFact hF) rfl rfl (Nat.le_of_ble_eq_true rfl) ?_
  refine b_if_eq 20 dX11_hints_5 (by decide) (fun c1 => ?_) (fun c1 => ?_)
  · skip
    refine b_bipush (v := -2) dX11_hints_20 (by decide) ?_
    exact b_iret dX11_hints_22 ⟨by simp [oHints, (bI_0 _).mp c1], rfl⟩
  · skip
    have c2 := (bI_1 _).mp c1
    obtain ⟨j, hj, rfl⟩ := inR_of (by omega) c2
    refine b_aload_n dX11_hints_8 rfl ?_
    refine g_get dX11_hints_9 fX11_23 a0 rfl ?_
    refine g_get dX11_hints_12 fX11_154 a20 rfl ?_
    refine b_iload_n dX11_hints_15 rfl ?_
    refine g_iald dX11_hints_16 a24 rfl (by omega) ?_
    refine b_goto 22 dX11_hints_17 (by decide) ?_
    exact b_iret dX11_hints_22 ⟨by simp [oHints, c2, ix_nI (show j < 2 ^ 31 by omega)], rfl⟩
theorem c_X_world {G : GT} {d : Nat} {σ : ST} {μ : SL} {W F P t : Nat} {w x : Int32} (hX : XV σ W F P t) : Fn G (d + 1) mX11_world [.ref (G.b0 + 0), .int w, .int x] (sh G σ μ) (Ret (some (.int (oWorld (vX σ W F P t) w x))) (sh G σ μ)) := by
  obtain ⟨⟨hW, hF, hP, hW16, hF8, hP6⟩, -⟩ := id hX
  refine fn_of (ls := [some (.ref (G.b0 + 0)), some (.int w), some (.int x)]) (by decide +kernel) (Nat.le_of_ble_eq_true rfl) 0 rfl ?_
  refine b_aload_n dX11_world_0 rfl ?_
  refine b_iload_n dX11_world_1 rfl ?_
  refine g_callV [.int w] dX11_world_2 kX11_isWorld lX11_112 a0 rfl rfl (c_isWorld hW) rfl rfl (Nat.le_of_ble_eq_true rfl) ?_
  refine b_if_eq 17 dX11_world_5 (by decide) (fun c1 => ?_) (fun c1 => ?_)
  · skip
    refine b_bipush (v := -2) dX11_world_17 (by decide) ?_
    exact b_iret dX11_world_19 ⟨by simp [oWorld, (bI_0 _).mp c1], rfl⟩
  · skip
    have c2 := (bI_1 _).mp c1
    obtain ⟨j, hj, rfl⟩ := inR_of (by omega) c2
    have hix := ix_nI (show j < 2 ^ 31 by omega)
    refine b_iload_n dX11_world_8 rfl ?_
    refine b_if_lt 17 dX11_world_9 (by decide) (fun c3 => ?_) (fun c3 => ?_)
    · skip
      refine b_bipush (v := -2) dX11_world_17 (by decide) ?_
      exact b_iret dX11_world_19 ⟨by simp [oWorld, inR, Int32.not_le.mpr c3], rfl⟩
    · skip
      refine b_iload_n dX11_world_12 rfl ?_
      refine b_iconst (v := nI 5) dX11_world_13 (by decide) ?_
      refine b_icmp_le 20 dX11_world_14 (by decide) (fun c4 => ?_) (fun c4 => ?_)
      · skip
        obtain ⟨k, hk, rfl⟩ := nI_of2 (n := 5) (by decide) c3 c4
        have hkx := ix_nI (show k < 2 ^ 31 by omega)
        have c5 : inR (nI k) 6 = true := by rw [inR_nI (by omega) (by omega)]; simp; omega
        refine b_iload_n dX11_world_20 rfl ?_
        refine b_iconst (v := nI 3) dX11_world_21 (by decide) ?_
        refine b_icmp_ge 39 dX11_world_22 (by decide) (fun c6 => ?_) (fun c6 => ?_)
        · skip
          rw [nI_leI (by omega) (by omega)] at c6
          refine b_iload_n dX11_world_39 rfl ?_
          refine b_iconst (v := nI 3) dX11_world_40 (by decide) ?_
          refine b_icmp_ne 54 dX11_world_41 (by decide) (fun c7 => ?_) (fun c7 => ?_)
          · skip
            rw [nI_eq (by omega) (by omega)] at c7
            refine b_iload_n dX11_world_54 rfl ?_
            refine b_iconst (v := nI 4) dX11_world_55 (by decide) ?_
            refine b_icmp_ne 73 dX11_world_56 (by decide) (fun c8 => ?_) (fun c8 => ?_)
            · skip
              rw [nI_eq (by omega) (by omega)] at c8
              refine b_aload_n dX11_world_73 rfl ?_
              refine g_get dX11_world_74 fX11_23 a0 rfl ?_
              refine b_iload_n dX11_world_77 rfl ?_
              refine g_callV [.int (nI j)] dX11_world_78 kX2_factsIn lX11_126 a20 rfl rfl (c_factsIn ln20 hX.1 (by omega)) rfl rfl (Nat.le_of_ble_eq_true rfl) ?_
              exact b_iret dX11_world_81 ⟨by simp [oWorld, c2, c5, hix, hkx, show ¬ k < 3 by omega, c7, c8], rfl⟩
            · skip
              rw [nI_eq (by omega) (by omega)] at c8
              subst c8
              refine b_aload_n dX11_world_59 rfl ?_
              refine g_get dX11_world_60 fX11_23 a0 rfl ?_
              refine g_get dX11_world_63 fX11_123 a20 rfl ?_
              refine b_iload_n dX11_world_66 rfl ?_
              refine b_ishr dX11_world_67 ?_
              refine b_iconst (v := nI 1) dX11_world_68 (by decide) ?_
              refine b_iand dX11_world_69 ?_
              refine b_goto 81 dX11_world_70 (by decide) ?_
              exact b_iret dX11_world_81 ⟨by simp [oWorld, c2, c5, hix, hkx, b_testv (show j < 32 by omega), bI], rfl⟩
          · skip
            rw [nI_eq (by omega) (by omega)] at c7
            subst c7
            refine b_aload_n dX11_world_44 rfl ?_
            refine g_get dX11_world_45 fX11_23 a0 rfl ?_
            refine g_get dX11_world_48 fX11_120 a20 rfl ?_
            refine b_iload_n dX11_world_51 rfl ?_
            refine g_iald dX11_world_52 a22 rfl (by omega) ?_
            exact b_iret dX11_world_53 ⟨by simp [oWorld, c2, c5, hix, hkx], rfl⟩
        · skip
          rw [nI_leI (by omega) (by omega)] at c6
          refine b_aload_n dX11_world_25 rfl ?_
          refine g_get dX11_world_26 fX11_23 a0 rfl ?_
          refine g_get dX11_world_29 fX11_116 a20 rfl ?_
          refine b_iconst (v := nI 3) dX11_world_32 (by decide) ?_
          refine b_iload_n dX11_world_33 rfl ?_
          refine b_imulN dX11_world_34 ?_
          refine b_iload_n dX11_world_35 rfl ?_
          refine b_iaddN dX11_world_36 ?_
          refine g_iald dX11_world_37 a21 rfl (by omega) ?_
          exact b_iret dX11_world_38 ⟨by simp [oWorld, c2, c5, hix, hkx, show k < 3 by omega], rfl⟩
      · skip
        refine b_bipush (v := -2) dX11_world_17 (by decide) ?_
        have c5 : inR x 6 = false := by
          have h1 : ¬ x < nI 6 := fun z => by
            rcases pk_ix x (n := 6) (by omega) with h2 | h2 | ⟨k, hk, rfl⟩
            · exact c3 h2
            · exact absurd z (Int32.not_lt.mpr h2)
            · exact c4 (nI_le (by omega) (by omega))
          simp [inR, h1]
        exact b_iret dX11_world_19 ⟨by simp [oWorld, c5], rfl⟩

