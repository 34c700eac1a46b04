/-! ===== the reference: what is read ===== -/
/-- the reference holds this land -/
def MV (σ : ST) (L : LD) : Prop := σ 77 0 = nI 0 ∧ (σ 78 1 = nI L.W ∧ σ 78 2 = nI L.F ∧ σ 78 3 = nI L.P ∧ σ 78 4 = nI L.t) ∧ (L.W ≤ 16 ∧ L.F ≤ 8 ∧ L.P ≤ 6 ∧ (0 < L.W → L.t < L.W) ∧ (L.W = 0 → L.t = 0)) ∧ (∀ p, p < L.P → σ 78 (5 + p) = L.told p) ∧ (∀ k w, k < 3 → w < L.W → σ 78 (11 + 16 * k + w) = L.num (3 * w + k)) ∧ (∀ w, w < L.W → σ 78 (59 + w) = L.wt w) ∧ (∀ w, w < L.W → σ 78 (75 + w) = bI (bt L.gl w)) ∧ (∀ p, p < L.P → σ 78 (91 + p) = L.road p) ∧ (∀ f, f < L.F → σ 78 (97 + f) = L.hint f) ∧ (∀ f, f < L.F → σ 78 (105 + f) = L.hold f) ∧ lo L.W L.gl
theorem MV.th {σ : ST} {L : LD} (h : MV σ L) : σ 77 0 = nI 0 := h.1
theorem MV.cW {σ : ST} {L : LD} (h : MV σ L) : σ 78 1 = nI L.W := h.2.1.1
theorem MV.cF {σ : ST} {L : LD} (h : MV σ L) : σ 78 2 = nI L.F := h.2.1.2.1
theorem MV.cP {σ : ST} {L : LD} (h : MV σ L) : σ 78 3 = nI L.P := h.2.1.2.2.1
theorem MV.ct {σ : ST} {L : LD} (h : MV σ L) : σ 78 4 = nI L.t := h.2.1.2.2.2
theorem MV.b {σ : ST} {L : LD} (h : MV σ L) : L.W ≤ 16 ∧ L.F ≤ 8 ∧ L.P ≤ 6 ∧ L.t < 16 := by
  obtain ⟨-, -, ⟨a, b, c, d, e⟩, -⟩ := h
  refine ⟨a, b, c, ?_⟩
  rcases Nat.eq_zero_or_pos L.W with q | q
  · have := e q; omega
  · have := d q; omega
theorem MV.told {σ : ST} {L : LD} (h : MV σ L) {p : Nat} (hp : p < L.P) : σ 78 (5 + p) = L.told p := h.2.2.2.1 p hp
theorem MV.num {σ : ST} {L : LD} (h : MV σ L) {k w : Nat} (hk : k < 3) (hw : w < L.W) : σ 78 (11 + 16 * k + w) = L.num (3 * w + k) := h.2.2.2.2.1 k w hk hw
theorem MV.wt {σ : ST} {L : LD} (h : MV σ L) {w : Nat} (hw : w < L.W) : σ 78 (59 + w) = L.wt w := h.2.2.2.2.2.1 w hw
theorem MV.gl {σ : ST} {L : LD} (h : MV σ L) {w : Nat} (hw : w < L.W) : σ 78 (75 + w) = bI (bt L.gl w) := h.2.2.2.2.2.2.1 w hw
theorem MV.road {σ : ST} {L : LD} (h : MV σ L) {w : Nat} (hw : w < L.P) : σ 78 (91 + w) = L.road w := h.2.2.2.2.2.2.2.1 w hw
theorem MV.hint {σ : ST} {L : LD} (h : MV σ L) {w : Nat} (hw : w < L.F) : σ 78 (97 + w) = L.hint w := h.2.2.2.2.2.2.2.2.1 w hw
theorem MV.hold {σ : ST} {L : LD} (h : MV σ L) {w : Nat} (hw : w < L.F) : σ 78 (105 + w) = L.hold w := h.2.2.2.2.2.2.2.2.2.1 w hw
theorem MV.lgl {σ : ST} {L : LD} (h : MV σ L) : lo L.W L.gl := h.2.2.2.2.2.2.2.2.2.2
theorem MV.t0 {σ : ST} {L : LD} (h : MV σ L) : pt σ 77 0 (nI 0) = σ := pt_self σ 77 0 h.th.symm
theorem c_within {G : GT} {d : Nat} {h : HT} {a b c : Int64} : Fn G d mX12_within [.long a, .long b, .long c] h (Ret (some (.int (bI (decide (b ≤ a) && decide (a ≤ c))))) h) := by
  refine fn_of (ls := [some (.long a), none, some (.long b), none, some (.long c), none]) (by decide +kernel) (Nat.le_of_ble_eq_true rfl) 0 rfl ?_
  refine b_lload_n dX12_within_0 rfl ?_
  refine b_lload_n dX12_within_1 rfl ?_
  refine b_lcmp dX12_within_2 ?_
  refine b_if_lt 17 dX12_within_3 (by decide) (fun c1 => ?_) (fun c1 => ?_)
  · skip
    have c2 : ¬ b ≤ a := fun z => c1 |> fun q => absurd ((lg_cmp_lt _ _).mp q) (Int64.not_lt.mpr z)
    refine b_iconst (v := nI 0) dX12_within_17 (by decide) ?_
    exact b_zret dX12_within_18 rfl ⟨by simp [c2, bI], rfl⟩
  · skip
    have c2 : b ≤ a := Int64.not_lt.mp (fun z => c1 ((lg_cmp_lt _ _).mpr z))
    refine b_lload_n dX12_within_6 rfl ?_
    refine b_lload dX12_within_7 rfl ?_
    refine b_lcmp dX12_within_9 ?_
    refine b_if_gt 17 dX12_within_10 (by decide) (fun c3 => ?_) (fun c3 => ?_)
    · skip
      have c4 : ¬ a ≤ c := Int64.not_le.mpr ((lg_cmp_gt _ _).mp c3)
      refine b_iconst (v := nI 0) dX12_within_17 (by decide) ?_
      exact b_zret dX12_within_18 rfl ⟨by simp [c4, bI], rfl⟩
    · skip
      have c4 : a ≤ c := Int64.not_lt.mp (fun z => c3 ((lg_cmp_gt _ _).mpr z))
      refine b_iconst (v := nI 1) dX12_within_13 (by decide) ?_
      refine b_goto 18 dX12_within_14 (by decide) ?_
      exact b_zret dX12_within_18 rfl ⟨by simp [c2, c4, bI], rfl⟩
theorem wi_B {x : Int32} {a b : Nat} (ha : a < 2 ^ 31) (hb : b < 2 ^ 31) : (decide (lN a ≤ x.toInt64) && decide (x.toInt64 ≤ lN b)) = inB x a b := by
  unfold inB
  congr 1
  · rw [decide_eq_decide, Int64.le_iff_toInt_le, Int32.le_iff_toInt_le, Int32.toInt_toInt64, lN_toInt ha, nI_toInt ha]
  · rw [decide_eq_decide, Int64.le_iff_toInt_le, Int32.le_iff_toInt_le, Int32.toInt_toInt64, lN_toInt hb, nI_toInt hb]
theorem pr_toInt {n : Nat} (h : n < 2 ^ 31) : (nI n - nI 1).toInt = (n : Int) - 1 := by
  cases n with
  | zero => decide
  | succ n => rw [show nI (n + 1) - nI 1 = nI n from nI_pred n, nI_toInt (by omega)]; omega
/-- within 0 and one less than n, of a long -/
def inL (v : Int64) (n : Nat) : Bool := decide (0 ≤ v) && decide (v < lN n)
theorem wi_L {v : Int64} {n : Nat} (h : n < 2 ^ 31) : (decide (0 ≤ v) && decide (v ≤ (nI n - nI 1).toInt64)) = inL v n := by
  unfold inL
  congr 1
  rw [decide_eq_decide, Int64.le_iff_toInt_le, Int64.lt_iff_toInt_lt, Int32.toInt_toInt64, lN_toInt h, pr_toInt h]
  omega
theorem inL_R {x : Int32} {n : Nat} (h : n < 2 ^ 31) : inL x.toInt64 n = inR x n := by
  unfold inL inR
  congr 1
  · rw [decide_eq_decide, Int64.le_iff_toInt_le, Int32.le_iff_toInt_le, Int32.toInt_toInt64]; rfl
  · rw [decide_eq_decide, Int64.lt_iff_toInt_lt, Int32.lt_iff_toInt_lt, Int32.toInt_toInt64, lN_toInt h, nI_toInt h]
theorem s_j : ∀ n, n < 32 → (((nI n).toInt64 &&& 63).toBitVec.smod 64).toNat = n := by decide +kernel
theorem isin_l {x : Int32} {k : Nat} (hk : k < 32) : (x.toInt64 >>> ((nI k).toInt64 &&& 63)) &&& 1 = 1 ↔ bt x k = true := by
  have e : ∀ y : Int64, y &&& 1 = 1 ↔ y.toBitVec.getLsbD 0 = true := by
    intro y
    rw [← Int64.toBitVec_inj, Int64.toBitVec_and]
    constructor
    · intro h
      have := congrArg (fun z => BitVec.getLsbD z 0) h
      simpa using this
    · intro h
      apply BitVec.eq_of_getLsbD_eq
      intro i hi
      rw [BitVec.getLsbD_and]
      have h1 : (1 : Int64).toBitVec.getLsbD i = decide (i = 0) := by
        have : ∀ i, i < 64 → (1 : Int64).toBitVec.getLsbD i = decide (i = 0) := by decide +kernel
        exact this i hi
      rw [h1]
      by_cases h0 : i = 0
      · subst h0; simp [h]
      · simp [h0]
  rw [e, Int64.toBitVec_shiftRight]
  show (x.toInt64.toBitVec.sshiftRight (((nI k).toInt64 &&& 63).toBitVec.smod 64).toNat).getLsbD 0 = true ↔ _
  rw [s_j k hk, BitVec.getLsbD_sshiftRight, Int32.toBitVec_toInt64, if_pos (show k + 0 < 64 by omega), Nat.add_zero, BitVec.getLsbD_signExtend, if_pos hk, decide_eq_true (show k < 64 by omega), decide_eq_false (show ¬ 64 ≤ 0 by omega)]
  simp [bt]
theorem c_isIn {G : GT} {d : Nat} {h : HT} {x : Int32} {k : Nat} (hk : k < 32) : Fn G d mX12_isIn [.long x.toInt64, .int (nI k)] h (Ret (some (.int (bI (bt x k)))) h) := by
  refine fn_of (ls := [some (.long x.toInt64), none, some (.int (nI k))]) (by decide +kernel) (Nat.le_of_ble_eq_true rfl) 0 rfl ?_
  refine b_lload_n dX12_isIn_0 rfl ?_
  refine b_iload_n dX12_isIn_1 rfl ?_
  refine b_lshr dX12_isIn_2 ?_
  refine b_lconst (v := 1) dX12_isIn_3 (by decide) ?_
  refine b_land dX12_isIn_4 ?_
  refine b_lconst (v := 1) dX12_isIn_5 (by decide) ?_
  refine b_lcmp dX12_isIn_6 ?_
  refine b_if_ne 14 dX12_isIn_7 (by decide) (fun c1 => ?_) (fun c1 => ?_)
  · skip
    have c2 : ¬ bt x k = true := fun z => c1 ((lg_cmp_eq _ _).mpr ((isin_l hk).mpr z))
    refine b_iconst (v := nI 0) dX12_isIn_14 (by decide) ?_
    exact b_zret dX12_isIn_15 rfl ⟨by simp [c2, bI], rfl⟩
  · skip
    have c2 : bt x k = true := (isin_l hk).mp ((lg_cmp_eq _ _).mp c1)
    refine b_iconst (v := nI 1) dX12_isIn_10 (by decide) ?_
    refine b_goto 15 dX12_isIn_11 (by decide) ?_
    exact b_zret dX12_isIn_15 rfl ⟨by simp [c2, bI], rfl⟩
theorem m_isWorld {G : GT} {d : Nat} {σ : ST} {μ : SL} {L : LD} {x : Int32} (hM : MV σ L) : Fn G (d + 1) mX12_isWorld [.ref (G.b0 + 77), .int x] (sh G σ μ) (Ret (some (.int (bI (inR x L.W)))) (sh G σ μ)) := by
  have hb := hM.b
  refine fn_of (ls := [some (.ref (G.b0 + 77)), some (.int x)]) (by decide +kernel) (Nat.le_of_ble_eq_true rfl) 0 rfl ?_
  refine b_iload_n dX12_isWorld_0 rfl ?_
  refine b_i2l dX12_isWorld_1 ?_
  refine b_lconst (v := 0) dX12_isWorld_2 (by decide) ?_
  refine b_aload_n dX12_isWorld_3 rfl ?_
  refine g_get dX12_isWorld_4 fX12_13 a77 rfl ?_
  refine b_iconst (v := nI 1) dX12_isWorld_7 (by decide) ?_
  refine g_iald dX12_isWorld_8 a78 rfl (by omega) ?_
  refine b_top hM.cW ?_
  refine b_iconst (v := nI 1) dX12_isWorld_9 (by decide) ?_
  refine b_isub dX12_isWorld_10 ?_
  refine b_i2l dX12_isWorld_11 ?_
  refine b_callSr [.long x.toInt64, .long 0, .long (((nI L.W) - (nI 1)).toInt64)] dX12_isWorld_12 kX12_within lX12_145 c_within rfl rfl (Nat.le_of_ble_eq_true rfl) ?_
  exact b_zret dX12_isWorld_15 (bI_n _) ⟨by rw [← inL_R (by omega), ← wi_L (by omega)], rfl⟩
theorem m_isFact {G : GT} {d : Nat} {σ : ST} {μ : SL} {L : LD} {v : Int64} (hM : MV σ L) : Fn G (d + 1) mX12_isFact [.ref (G.b0 + 77), .long v] (sh G σ μ) (Ret (some (.int (bI (inL v L.F)))) (sh G σ μ)) := by
  have hb := hM.b
  refine fn_of (ls := [some (.ref (G.b0 + 77)), some (.long v), none]) (by decide +kernel) (Nat.le_of_ble_eq_true rfl) 0 rfl ?_
  refine b_lload_n dX12_isFact_0 rfl ?_
  refine b_lconst (v := 0) dX12_isFact_1 (by decide) ?_
  refine b_aload_n dX12_isFact_2 rfl ?_
  refine g_get dX12_isFact_3 fX12_13 a77 rfl ?_
  refine b_iconst (v := nI 2) dX12_isFact_6 (by decide) ?_
  refine g_iald dX12_isFact_7 a78 rfl (by omega) ?_
  refine b_top hM.cF ?_
  refine b_iconst (v := nI 1) dX12_isFact_8 (by decide) ?_
  refine b_isub dX12_isFact_9 ?_
  refine b_i2l dX12_isFact_10 ?_
  refine b_callSr [.long v, .long 0, .long (((nI L.F) - (nI 1)).toInt64)] dX12_isFact_11 kX12_within lX12_145 c_within rfl rfl (Nat.le_of_ble_eq_true rfl) ?_
  exact b_zret dX12_isFact_14 (bI_n _) ⟨by rw [← wi_L (by omega)], rfl⟩
theorem m_isPerson {G : GT} {d : Nat} {σ : ST} {μ : SL} {L : LD} {v : Int64} (hM : MV σ L) : Fn G (d + 1) mX12_isPerson [.ref (G.b0 + 77), .long v] (sh G σ μ) (Ret (some (.int (bI (inL v L.P)))) (sh G σ μ)) := by
  have hb := hM.b
  refine fn_of (ls := [some (.ref (G.b0 + 77)), some (.long v), none]) (by decide +kernel) (Nat.le_of_ble_eq_true rfl) 0 rfl ?_
  refine b_lload_n dX12_isPerson_0 rfl ?_
  refine b_lconst (v := 0) dX12_isPerson_1 (by decide) ?_
  refine b_aload_n dX12_isPerson_2 rfl ?_
  refine g_get dX12_isPerson_3 fX12_13 a77 rfl ?_
  refine b_iconst (v := nI 3) dX12_isPerson_6 (by decide) ?_
  refine g_iald dX12_isPerson_7 a78 rfl (by omega) ?_
  refine b_top hM.cP ?_
  refine b_iconst (v := nI 1) dX12_isPerson_8 (by decide) ?_
  refine b_isub dX12_isPerson_9 ?_
  refine b_i2l dX12_isPerson_10 ?_
  refine b_callSr [.long v, .long 0, .long (((nI L.P) - (nI 1)).toInt64)] dX12_isPerson_11 kX12_within lX12_145 c_within rfl rfl (Nat.le_of_ble_eq_true rfl) ?_
  exact b_zret dX12_isPerson_14 (bI_n _) ⟨by rw [← wi_L (by omega)], rfl⟩
theorem m_isFactI {G : GT} {d : Nat} {σ : ST} {μ : SL} {L : LD} {x : Int32} (hM : MV σ L) : Fn G (d + 1) mX12_isFact [.ref (G.b0 + 77), .long x.toInt64] (sh G σ μ) (Ret (some (.int (bI (inR x L.F)))) (sh G σ μ)) := by
  have hb := hM.b
  rw [← inL_R (by omega)]
  exact m_isFact hM
theorem m_isPersonI {G : GT} {d : Nat} {σ : ST} {μ : SL} {L : LD} {x : Int32} (hM : MV σ L) : Fn G (d + 1) mX12_isPerson [.ref (G.b0 + 77), .long x.toInt64] (sh G σ μ) (Ret (some (.int (bI (inR x L.P)))) (sh G σ μ)) := by
  have hb := hM.b
  rw [← inL_R (by omega)]
  exact m_isPerson hM
theorem m_worlds {G : GT} {d : Nat} {σ : ST} {μ : SL} {L : LD} (hM : MV σ L) : Fn G d mX12_worlds [.ref (G.b0 + 77)] (sh G σ μ) (Ret (some (.int (mAll L.W))) (sh G σ μ)) := by
  refine fn_of (ls := [some (.ref (G.b0 + 77))]) (by decide +kernel) (Nat.le_of_ble_eq_true rfl) 0 rfl ?_
  refine b_iconst (v := nI 1) dX12_worlds_0 (by decide) ?_
  refine b_aload_n dX12_worlds_1 rfl ?_
  refine g_get dX12_worlds_2 fX12_13 a77 rfl ?_
  refine b_iconst (v := nI 1) dX12_worlds_5 (by decide) ?_
  refine g_iald dX12_worlds_6 a78 rfl (by omega) ?_
  refine b_top hM.cW ?_
  refine b_ishl dX12_worlds_7 ?_
  refine b_iconst (v := nI 1) dX12_worlds_8 (by decide) ?_
  refine b_isub dX12_worlds_9 ?_
  exact b_iret dX12_worlds_10 ⟨rfl, rfl⟩
theorem m_bitsOf {G : GT} {d : Nat} {h : HT} {x : Int32} : Fn G d mX12_bitsOf [.int x] h (Ret (some (.int (nI (cnt x 16)))) h) := by
  refine fn_of (ls := [some (.int x), none, none]) (by decide +kernel) (Nat.le_of_ble_eq_true rfl) 2 rfl ?_
  refine b_iconst (v := nI 0) dX12_bitsOf_0 (by decide) ?_
  refine b_istore_n dX12_bitsOf_1 (by decide) rfl ?_
  refine b_iconst (v := nI 0) dX12_bitsOf_2 (by decide) ?_
  refine b_istore_n dX12_bitsOf_3 (by decide) rfl ?_
  have lp : ∀ (n i : Nat), i + n = 16 → BB G RX12 cX12_bitsOf 3 (some .int) d (QM G (Ret (some (.int (nI (cnt x 16)))) h)) 4 [some (.int x), some (.int (nI (cnt x i))), some (.int (nI i))] [] h := by
    intro n
    induction n with
    | zero =>
      intro i hi
      refine b_iload_n dX12_bitsOf_4 rfl ?_
      refine b_bipush (v := nI 16) dX12_bitsOf_5 (by decide) ?_
      refine b_icmp_ge_t 24 dX12_bitsOf_7 (by decide) (nI_le (by omega) (by omega)) ?_
      refine b_iload_n dX12_bitsOf_24 rfl ?_
      exact b_iret dX12_bitsOf_25 ⟨by rw [show i = 16 by omega], rfl⟩
    | succ n ih =>
      intro i hi
      refine b_iload_n dX12_bitsOf_4 rfl ?_
      refine b_bipush (v := nI 16) dX12_bitsOf_5 (by decide) ?_
      refine b_icmp_ge_f 24 dX12_bitsOf_7 (by decide) (nI_ge (by omega) (by omega)) ?_
      refine b_iload_n dX12_bitsOf_10 rfl ?_
      refine b_iload_n dX12_bitsOf_11 rfl ?_
      refine b_iload_n dX12_bitsOf_12 rfl ?_
      refine b_ishr dX12_bitsOf_13 ?_
      refine b_iconst (v := nI 1) dX12_bitsOf_14 (by decide) ?_
      refine b_iand dX12_bitsOf_15 ?_
      refine b_top (y := nI (if bt x i then 1 else 0)) (by rw [b_testv (by omega)]; split <;> rfl) ?_
      refine b_iaddN dX12_bitsOf_16 ?_
      refine b_istore_n dX12_bitsOf_17 (by decide) rfl ?_
      refine b_iinc dX12_bitsOf_18 rfl (nI_1 _) (by decide) rfl ?_
      refine b_goto 4 dX12_bitsOf_21 (by decide) ?_
      refine b_locs ?_ (ih (i + 1) (by omega))
      simp [cnt]
  exact lp 16 0 (by omega)
theorem m_factsOf {G : GT} {d : Nat} {σ : ST} {μ : SL} {L : LD} {w : Nat} (hM : MV σ L) (hw : w < 32) : Fn G (d + 1) mX12_factsOf [.ref (G.b0 + 77), .int (nI w)] (sh G σ μ) (Ret (some (.int (mFacts L.hold w L.F))) (sh G σ μ)) := by
  have hb := hM.b
  refine fn_of (ls := [some (.ref (G.b0 + 77)), some (.int (nI w)), none, none]) (by decide +kernel) (Nat.le_of_ble_eq_true rfl) 2 rfl ?_
  refine b_iconst (v := nI 0) dX12_factsOf_0 (by decide) ?_
  refine b_istore_n dX12_factsOf_1 (by decide) rfl ?_
  refine b_iconst (v := nI 0) dX12_factsOf_2 (by decide) ?_
  refine b_istore_n dX12_factsOf_3 (by decide) rfl ?_
  have lp : ∀ (n i : Nat) (x : Int32), i + n = L.F → x = mFacts L.hold w i → BB G RX12 cX12_factsOf 4 (some .int) (d + 1) (QM G (Ret (some (.int (mFacts L.hold w L.F))) (sh G σ μ))) 4 [some (.ref (G.b0 + 77)), some (.int (nI w)), some (.int x), some (.int (nI i))] [] (sh G σ μ) := by
    intro n
    induction n with
    | zero =>
      intro i x hi hx
      refine b_iload_n dX12_factsOf_4 rfl ?_
      refine b_aload_n dX12_factsOf_5 rfl ?_
      refine g_get dX12_factsOf_6 fX12_13 a77 rfl ?_
      refine b_iconst (v := nI 2) dX12_factsOf_9 (by decide) ?_
      refine g_iald dX12_factsOf_10 a78 rfl (by omega) ?_
      refine b_top hM.cF ?_
      refine b_icmp_ge_t 47 dX12_factsOf_11 (by decide) (nI_le (by omega) (by omega)) ?_
      refine b_iload_n dX12_factsOf_47 rfl ?_
      exact b_iret dX12_factsOf_48 ⟨by rw [hx, show i = L.F by omega], rfl⟩
    | succ n ih =>
      intro i x hi hx
      refine b_iload_n dX12_factsOf_4 rfl ?_
      refine b_aload_n dX12_factsOf_5 rfl ?_
      refine g_get dX12_factsOf_6 fX12_13 a77 rfl ?_
      refine b_iconst (v := nI 2) dX12_factsOf_9 (by decide) ?_
      refine g_iald dX12_factsOf_10 a78 rfl (by omega) ?_
      refine b_top hM.cF ?_
      refine b_icmp_ge_f 47 dX12_factsOf_11 (by decide) (nI_ge (by omega) (by omega)) ?_
      refine b_iload_n dX12_factsOf_14 rfl ?_
      refine b_aload_n dX12_factsOf_15 rfl ?_
      refine g_get dX12_factsOf_16 fX12_13 a77 rfl ?_
      refine b_bipush (v := nI 105) dX12_factsOf_19 (by decide) ?_
      refine b_iload_n dX12_factsOf_21 rfl ?_
      refine b_iaddN dX12_factsOf_22 ?_
      refine g_iald dX12_factsOf_23 a78 rfl (by omega) ?_
      refine b_top (hM.hold (by omega)) ?_
      refine b_i2l dX12_factsOf_24 ?_
      refine b_iload_n dX12_factsOf_25 rfl ?_
      refine b_callSr [.long ((L.hold i).toInt64), .int (nI w)] dX12_factsOf_26 kX12_isIn lX12_222 (c_isIn hw) rfl rfl (Nat.le_of_ble_eq_true rfl) ?_
      refine b_if_eq 38 dX12_factsOf_29 (by decide) (fun c1 => ?_) (fun c1 => ?_)
      · skip
        refine b_iconst (v := nI 0) dX12_factsOf_38 (by decide) ?_
        refine b_ior dX12_factsOf_39 ?_
        refine b_istore_n dX12_factsOf_40 (by decide) rfl ?_
        refine b_iinc dX12_factsOf_41 rfl (nI_1 _) (by decide) rfl ?_
        refine b_goto 4 dX12_factsOf_44 (by decide) ?_
        exact ih (i + 1) _ (by omega) (by simp [mFacts, (bI_0 _).mp c1, hx, or_0])
      · skip
        refine b_iconst (v := nI 1) dX12_factsOf_32 (by decide) ?_
        refine b_iload_n dX12_factsOf_33 rfl ?_
        refine b_ishl dX12_factsOf_34 ?_
        refine b_goto 39 dX12_factsOf_35 (by decide) ?_
        refine b_ior dX12_factsOf_39 ?_
        refine b_istore_n dX12_factsOf_40 (by decide) rfl ?_
        refine b_iinc dX12_factsOf_41 rfl (nI_1 _) (by decide) rfl ?_
        refine b_goto 4 dX12_factsOf_44 (by decide) ?_
        exact ih (i + 1) _ (by omega) (by simp [mFacts, (bI_1 _).mp c1, hx])
  exact lp L.F 0 _ (by omega) rfl
theorem mAll_0 : mAll 0 = nI 0 := by decide
theorem and_0l (x : Int32) : nI 0 &&& x = nI 0 := by apply b_ext; intro i hi; rw [b_and, b_n0]; rfl
theorem mPoss_0 (hold : Nat → Int32) (told : Int32) (w : Nat) : ∀ n, mPoss hold 0 told w n = nI 0
  | 0 => mAll_0
  | n + 1 => by rw [mPoss, mPoss_0 hold told w n, and_0l]; split <;> rfl
theorem m_cellOf {G : GT} {d : Nat} {σ : ST} {μ : SL} {L : LD} {told : Int32} {w : Nat} (hM : MV σ L) (hw : w < 32) : Fn G (d + 1) mX12_cellOf [.ref (G.b0 + 77), .int told, .int (nI w)] (sh G σ μ) (Ret (some (.int (mPoss L.hold L.W told w L.F))) (sh G σ μ)) := by
  have hb := hM.b
  refine fn_of (ls := [some (.ref (G.b0 + 77)), some (.int told), some (.int (nI w)), none, none]) (by decide +kernel) (Nat.le_of_ble_eq_true rfl) 2 rfl ?_
  refine b_aload_n dX12_cellOf_0 rfl ?_
  refine g_get dX12_cellOf_1 fX12_13 a77 rfl ?_
  refine b_iconst (v := nI 1) dX12_cellOf_4 (by decide) ?_
  refine g_iald dX12_cellOf_5 a78 rfl (by omega) ?_
  refine b_top hM.cW ?_
  refine b_if_ne 11 dX12_cellOf_6 (by decide) (fun c1 => ?_) (fun c1 => ?_)
  · skip
    refine b_aload_n dX12_cellOf_11 rfl ?_
    refine g_callV [] dX12_cellOf_12 kX12_worlds lX12_226 a77 rfl rfl (m_worlds hM) rfl rfl (Nat.le_of_ble_eq_true rfl) ?_
    refine b_istore_n dX12_cellOf_15 (by decide) rfl ?_
    refine b_iconst (v := nI 0) dX12_cellOf_16 (by decide) ?_
    refine b_istore dX12_cellOf_17 (by decide) rfl ?_
    have lp : ∀ (n i : Nat) (x : Int32), i + n = L.F → x = mPoss L.hold L.W told w i → BB G RX12 cX12_cellOf 5 (some .int) (d + 1) (QM G (Ret (some (.int (mPoss L.hold L.W told w L.F))) (sh G σ μ))) 19 [some (.ref (G.b0 + 77)), some (.int told), some (.int (nI w)), some (.int x), some (.int (nI i))] [] (sh G σ μ) := by
      intro n
      induction n with
      | zero =>
        intro i x hi hx
        refine b_iload dX12_cellOf_19 rfl ?_
        refine b_aload_n dX12_cellOf_21 rfl ?_
        refine g_get dX12_cellOf_22 fX12_13 a77 rfl ?_
        refine b_iconst (v := nI 2) dX12_cellOf_25 (by decide) ?_
        refine g_iald dX12_cellOf_26 a78 rfl (by omega) ?_
        refine b_top hM.cF ?_
        refine b_icmp_ge_t 92 dX12_cellOf_27 (by decide) (nI_le (by omega) (by omega)) ?_
        refine b_iload_n dX12_cellOf_92 rfl ?_
        exact b_iret dX12_cellOf_93 ⟨by rw [hx, show i = L.F by omega], rfl⟩
      | succ n ih =>
        intro i x hi hx
        refine b_iload dX12_cellOf_19 rfl ?_
        refine b_aload_n dX12_cellOf_21 rfl ?_
        refine g_get dX12_cellOf_22 fX12_13 a77 rfl ?_
        refine b_iconst (v := nI 2) dX12_cellOf_25 (by decide) ?_
        refine g_iald dX12_cellOf_26 a78 rfl (by omega) ?_
        refine b_top hM.cF ?_
        refine b_icmp_ge_f 92 dX12_cellOf_27 (by decide) (nI_ge (by omega) (by omega)) ?_
        refine b_iload_n dX12_cellOf_30 rfl ?_
        refine b_i2l dX12_cellOf_31 ?_
        refine b_iload dX12_cellOf_32 rfl ?_
        refine b_callSr [.long told.toInt64, .int (nI i)] dX12_cellOf_34 kX12_isIn lX12_222 (c_isIn (by omega)) rfl rfl (Nat.le_of_ble_eq_true rfl) ?_
        refine b_if_eq 86 dX12_cellOf_37 (by decide) (fun c2 => ?_) (fun c2 => ?_)
        · skip
          refine b_iinc dX12_cellOf_86 rfl (nI_1 _) (by decide) rfl ?_
          refine b_goto 19 dX12_cellOf_89 (by decide) ?_
          exact ih (i + 1) _ (by omega) (by simp [mPoss, (bI_0 _).mp c2, hx])
        · skip
          refine b_iload_n dX12_cellOf_40 rfl ?_
          refine b_aload_n dX12_cellOf_41 rfl ?_
          refine g_get dX12_cellOf_42 fX12_13 a77 rfl ?_
          refine b_bipush (v := nI 105) dX12_cellOf_45 (by decide) ?_
          refine b_iload dX12_cellOf_47 rfl ?_
          refine b_iaddN dX12_cellOf_49 ?_
          refine g_iald dX12_cellOf_50 a78 rfl (by omega) ?_
          refine b_top (hM.hold (by omega)) ?_
          refine b_i2l dX12_cellOf_51 ?_
          refine b_iload_n dX12_cellOf_52 rfl ?_
          refine b_callSr [.long ((L.hold i).toInt64), .int (nI w)] dX12_cellOf_53 kX12_isIn lX12_222 (c_isIn hw) rfl rfl (Nat.le_of_ble_eq_true rfl) ?_
          refine b_if_eq 72 dX12_cellOf_56 (by decide) (fun c3 => ?_) (fun c3 => ?_)
          · skip
            refine b_aload_n dX12_cellOf_72 rfl ?_
            refine g_get dX12_cellOf_73 fX12_13 a77 rfl ?_
            refine b_bipush (v := nI 105) dX12_cellOf_76 (by decide) ?_
            refine b_iload dX12_cellOf_78 rfl ?_
            refine b_iaddN dX12_cellOf_80 ?_
            refine g_iald dX12_cellOf_81 a78 rfl (by omega) ?_
            refine b_top (hM.hold (by omega)) ?_
            refine b_iconst (v := -1) dX12_cellOf_82 (by decide) ?_
            refine b_ixor dX12_cellOf_83 ?_
            refine b_iand dX12_cellOf_84 ?_
            refine b_istore_n dX12_cellOf_85 (by decide) rfl ?_
            refine b_iinc dX12_cellOf_86 rfl (nI_1 _) (by decide) rfl ?_
            refine b_goto 19 dX12_cellOf_89 (by decide) ?_
            exact ih (i + 1) _ (by omega) (by simp [mPoss, mSide, (bI_1 _).mp c2, (bI_0 _).mp c3, hx])
          · skip
            refine b_aload_n dX12_cellOf_59 rfl ?_
            refine g_get dX12_cellOf_60 fX12_13 a77 rfl ?_
            refine b_bipush (v := nI 105) dX12_cellOf_63 (by decide) ?_
            refine b_iload dX12_cellOf_65 rfl ?_
            refine b_iaddN dX12_cellOf_67 ?_
            refine g_iald dX12_cellOf_68 a78 rfl (by omega) ?_
            refine b_top (hM.hold (by omega)) ?_
            refine b_goto 84 dX12_cellOf_69 (by decide) ?_
            refine b_iand dX12_cellOf_84 ?_
            refine b_istore_n dX12_cellOf_85 (by decide) rfl ?_
            refine b_iinc dX12_cellOf_86 rfl (nI_1 _) (by decide) rfl ?_
            refine b_goto 19 dX12_cellOf_89 (by decide) ?_
            exact ih (i + 1) _ (by omega) (by simp [mPoss, mSide, (bI_1 _).mp c2, (bI_1 _).mp c3, hx])
    exact lp L.F 0 _ (by omega) rfl
  · skip
    have h0 : L.W = 0 := by rw [← nI_0, nI_eq (by omega) (by omega)] at c1; exact c1
    refine b_iconst (v := nI 0) dX12_cellOf_9 (by decide) ?_
    exact b_iret dX12_cellOf_10 ⟨by rw [h0, mPoss_0], rfl⟩
theorem m_guilty {G : GT} {d : Nat} {σ : ST} {μ : SL} {L : LD} (hM : MV σ L) : Fn G d mX12_guilty [.ref (G.b0 + 77)] (sh G σ μ) (Ret (some (.int L.gl)) (sh G σ μ)) := by
  have hb := hM.b
  refine fn_of (ls := [some (.ref (G.b0 + 77)), none, none]) (by decide +kernel) (Nat.le_of_ble_eq_true rfl) 2 rfl ?_
  refine b_iconst (v := nI 0) dX12_guilty_0 (by decide) ?_
  refine b_istore_n dX12_guilty_1 (by decide) rfl ?_
  refine b_iconst (v := nI 0) dX12_guilty_2 (by decide) ?_
  refine b_istore_n dX12_guilty_3 (by decide) rfl ?_
  have lp : ∀ (n i : Nat) (x : Int32), i + n = L.W → (∀ j, j < 32 → bt x j = (decide (j < i) && bt L.gl j)) → BB G RX12 cX12_guilty 3 (some .int) d (QM G (Ret (some (.int L.gl)) (sh G σ μ))) 4 [some (.ref (G.b0 + 77)), some (.int x), some (.int (nI i))] [] (sh G σ μ) := by
    intro n
    induction n with
    | zero =>
      intro i x hi hx
      refine b_iload_n dX12_guilty_4 rfl ?_
      refine b_aload_n dX12_guilty_5 rfl ?_
      refine g_get dX12_guilty_6 fX12_13 a77 rfl ?_
      refine b_iconst (v := nI 1) dX12_guilty_9 (by decide) ?_
      refine g_iald dX12_guilty_10 a78 rfl (by omega) ?_
      refine b_top hM.cW ?_
      refine b_icmp_ge_t 34 dX12_guilty_11 (by decide) (nI_le (by omega) (by omega)) ?_
      refine b_iload_n dX12_guilty_34 rfl ?_
      have e : x = L.gl := b_ext (fun j hj => by
        rw [hx j hj]
        by_cases h : j < i
        · simp [h]
        · rw [hM.lgl j (by omega) hj]; simp)
      exact b_iret dX12_guilty_35 ⟨by rw [e], rfl⟩
    | succ n ih =>
      intro i x hi hx
      refine b_iload_n dX12_guilty_4 rfl ?_
      refine b_aload_n dX12_guilty_5 rfl ?_
      refine g_get dX12_guilty_6 fX12_13 a77 rfl ?_
      refine b_iconst (v := nI 1) dX12_guilty_9 (by decide) ?_
      refine g_iald dX12_guilty_10 a78 rfl (by omega) ?_
      refine b_top hM.cW ?_
      refine b_icmp_ge_f 34 dX12_guilty_11 (by decide) (nI_ge (by omega) (by omega)) ?_
      refine b_iload_n dX12_guilty_14 rfl ?_
      refine b_aload_n dX12_guilty_15 rfl ?_
      refine g_get dX12_guilty_16 fX12_13 a77 rfl ?_
      refine b_bipush (v := nI 75) dX12_guilty_19 (by decide) ?_
      refine b_iload_n dX12_guilty_21 rfl ?_
      refine b_iaddN dX12_guilty_22 ?_
      refine g_iald dX12_guilty_23 a78 rfl (by omega) ?_
      refine b_top (hM.gl (by omega)) ?_
      refine b_iload_n dX12_guilty_24 rfl ?_
      refine b_ishl dX12_guilty_25 ?_
      refine b_ior dX12_guilty_26 ?_
      refine b_istore_n dX12_guilty_27 (by decide) rfl ?_
      refine b_iinc dX12_guilty_28 rfl (nI_1 _) (by decide) rfl ?_
      refine b_goto 4 dX12_guilty_31 (by decide) ?_
      refine ih (i + 1) _ (by omega) (fun j hj => ?_)
      rw [b_or, hx j hj, b_shl i (by omega) _ hj]
      by_cases h : j = i
      · subst h
        rw [decide_eq_false (by omega), decide_eq_true (Nat.le_refl _), decide_eq_true (by omega), Nat.sub_self]
        cases bt L.gl j <;> decide
      · by_cases h2 : j < i
        · rw [decide_eq_true h2, decide_eq_false (by omega), decide_eq_true (by omega)]; simp
        · rw [decide_eq_false h2, decide_eq_false (show ¬ j < i + 1 by omega)]
          have h3 : bt (bI (bt L.gl i)) (j - i) = false := by
            cases bt L.gl i
            · exact b_n0 _
            · show bt (nI 1) (j - i) = false
              rw [b_1, decide_eq_false (by omega)]
          rw [h3]; simp
  exact lp L.W 0 _ (by omega) (fun j hj => by rw [b_n0]; simp)
theorem kn_not {q H : Int32} : q &&& (H ^^^ (-1)) = 0 ↔ q &&& H = q := by
  constructor
  · intro h
    apply b_ext
    intro i hi
    have := congrArg (fun z => bt z i) h
    simp only [b_and, b_xor, b_m1 i hi, b_0] at this
    rw [b_and]
    revert this
    cases bt q i <;> cases bt H i <;> simp
  · intro h
    apply b_ext
    intro i hi
    have := congrArg (fun z => bt z i) h
    simp only [b_and] at this
    rw [b_and, b_xor, b_m1 i hi, b_0]
    revert this
    cases bt q i <;> cases bt H i <;> simp
theorem m_isPlain {G : GT} {d : Nat} {h : HT} {q H : Int32} : Fn G d mX12_isPlain [.int q, .int H] h (Ret (some (.int (bI (mKn H q)))) h) := by
  refine fn_of (ls := [some (.int q), some (.int H)]) (by decide +kernel) (Nat.le_of_ble_eq_true rfl) 0 rfl ?_
  refine b_iload_n dX12_isPlain_0 rfl ?_
  refine b_iload_n dX12_isPlain_1 rfl ?_
  refine b_iand dX12_isPlain_2 ?_
  refine b_if_eq 14 dX12_isPlain_3 (by decide) (fun c1 => ?_) (fun c1 => ?_)
  · skip
    refine b_iconst (v := nI 1) dX12_isPlain_14 (by decide) ?_
    refine b_goto 19 dX12_isPlain_15 (by decide) ?_
    exact b_zret dX12_isPlain_19 rfl ⟨by simp [mKn, c1, bI], rfl⟩
  · skip
    refine b_iload_n dX12_isPlain_6 rfl ?_
    refine b_iload_n dX12_isPlain_7 rfl ?_
    refine b_iconst (v := -1) dX12_isPlain_8 (by decide) ?_
    refine b_ixor dX12_isPlain_9 ?_
    refine b_iand dX12_isPlain_10 ?_
    refine b_if_ne 18 dX12_isPlain_11 (by decide) (fun c2 => ?_) (fun c2 => ?_)
    · skip
      have c3 : ¬ q &&& H = q := fun z => c2 (kn_not.mpr z)
      refine b_iconst (v := nI 0) dX12_isPlain_18 (by decide) ?_
      exact b_zret dX12_isPlain_19 rfl ⟨by simp [mKn, c1, c3, bI], rfl⟩
    · skip
      have c3 : q &&& H = q := kn_not.mp c2
      refine b_iconst (v := nI 1) dX12_isPlain_14 (by decide) ?_
      refine b_goto 19 dX12_isPlain_15 (by decide) ?_
      exact b_zret dX12_isPlain_19 rfl ⟨by simp [mKn, c3, bI], rfl⟩
theorem m_knownIn {G : GT} {d : Nat} {σ : ST} {μ : SL} {L : LD} {q : Int32} (hM : MV σ L) : Fn G (d + 1) mX12_knownIn [.ref (G.b0 + 77), .int q] (sh G σ μ) (Ret (some (.int (mKnown L.hold q L.F))) (sh G σ μ)) := by
  have hb := hM.b
  refine fn_of (ls := [some (.ref (G.b0 + 77)), some (.int q), none, none]) (by decide +kernel) (Nat.le_of_ble_eq_true rfl) 2 rfl ?_
  refine b_iconst (v := nI 0) dX12_knownIn_0 (by decide) ?_
  refine b_istore_n dX12_knownIn_1 (by decide) rfl ?_
  refine b_iconst (v := nI 0) dX12_knownIn_2 (by decide) ?_
  refine b_istore_n dX12_knownIn_3 (by decide) rfl ?_
  have lp : ∀ (n i : Nat) (x : Int32), i + n = L.F → x = mKnown L.hold q i → BB G RX12 cX12_knownIn 4 (some .int) (d + 1) (QM G (Ret (some (.int (mKnown L.hold q L.F))) (sh G σ μ))) 4 [some (.ref (G.b0 + 77)), some (.int q), some (.int x), some (.int (nI i))] [] (sh G σ μ) := by
    intro n
    induction n with
    | zero =>
      intro i x hi hx
      refine b_iload_n dX12_knownIn_4 rfl ?_
      refine b_aload_n dX12_knownIn_5 rfl ?_
      refine g_get dX12_knownIn_6 fX12_13 a77 rfl ?_
      refine b_iconst (v := nI 2) dX12_knownIn_9 (by decide) ?_
      refine g_iald dX12_knownIn_10 a78 rfl (by omega) ?_
      refine b_top hM.cF ?_
      refine b_icmp_ge_t 46 dX12_knownIn_11 (by decide) (nI_le (by omega) (by omega)) ?_
      refine b_iload_n dX12_knownIn_46 rfl ?_
      exact b_iret dX12_knownIn_47 ⟨by rw [hx, show i = L.F by omega], rfl⟩
    | succ n ih =>
      intro i x hi hx
      refine b_iload_n dX12_knownIn_4 rfl ?_
      refine b_aload_n dX12_knownIn_5 rfl ?_
      refine g_get dX12_knownIn_6 fX12_13 a77 rfl ?_
      refine b_iconst (v := nI 2) dX12_knownIn_9 (by decide) ?_
      refine g_iald dX12_knownIn_10 a78 rfl (by omega) ?_
      refine b_top hM.cF ?_
      refine b_icmp_ge_f 46 dX12_knownIn_11 (by decide) (nI_ge (by omega) (by omega)) ?_
      refine b_iload_n dX12_knownIn_14 rfl ?_
      refine b_iload_n dX12_knownIn_15 rfl ?_
      refine b_aload_n dX12_knownIn_16 rfl ?_
      refine g_get dX12_knownIn_17 fX12_13 a77 rfl ?_
      refine b_bipush (v := nI 105) dX12_knownIn_20 (by decide) ?_
      refine b_iload_n dX12_knownIn_22 rfl ?_
      refine b_iaddN dX12_knownIn_23 ?_
      refine g_iald dX12_knownIn_24 a78 rfl (by omega) ?_
      refine b_top (hM.hold (by omega)) ?_
      refine b_callSr [.int q, .int (L.hold i)] dX12_knownIn_25 kX12_isPlain lX12_229 m_isPlain rfl rfl (Nat.le_of_ble_eq_true rfl) ?_
      refine b_if_eq 37 dX12_knownIn_28 (by decide) (fun c1 => ?_) (fun c1 => ?_)
      · skip
        refine b_iconst (v := nI 0) dX12_knownIn_37 (by decide) ?_
        refine b_ior dX12_knownIn_38 ?_
        refine b_istore_n dX12_knownIn_39 (by decide) rfl ?_
        refine b_iinc dX12_knownIn_40 rfl (nI_1 _) (by decide) rfl ?_
        refine b_goto 4 dX12_knownIn_43 (by decide) ?_
        exact ih (i + 1) _ (by omega) (by simp [mKnown, (bI_0 _).mp c1, hx, or_0])
      · skip
        refine b_iconst (v := nI 1) dX12_knownIn_31 (by decide) ?_
        refine b_iload_n dX12_knownIn_32 rfl ?_
        refine b_ishl dX12_knownIn_33 ?_
        refine b_goto 38 dX12_knownIn_34 (by decide) ?_
        refine b_ior dX12_knownIn_38 ?_
        refine b_istore_n dX12_knownIn_39 (by decide) rfl ?_
        refine b_iinc dX12_knownIn_40 rfl (nI_1 _) (by decide) rfl ?_
        refine b_goto 4 dX12_knownIn_43 (by decide) ?_
        exact ih (i + 1) _ (by omega) (by simp [mKnown, (bI_1 _).mp c1, hx])
  exact lp L.F 0 _ (by omega) rfl
theorem m_cellNow {G : GT} {d : Nat} {σ : ST} {μ : SL} {L : LD} {p : Nat} (hM : MV σ L) (hp : p < L.P) : Fn G (d + 2) mX12_cellNow [.ref (G.b0 + 77), .int (nI p)] (sh G σ μ) (Ret (some (.int (poss L p L.t))) (sh G σ μ)) := by
  have hb := hM.b
  refine fn_of (ls := [some (.ref (G.b0 + 77)), some (.int (nI p))]) (by decide +kernel) (Nat.le_of_ble_eq_true rfl) 0 rfl ?_
  refine b_aload_n dX12_cellNow_0 rfl ?_
  refine b_aload_n dX12_cellNow_1 rfl ?_
  refine g_get dX12_cellNow_2 fX12_13 a77 rfl ?_
  refine b_iconst (v := nI 5) dX12_cellNow_5 (by decide) ?_
  refine b_iload_n dX12_cellNow_6 rfl ?_
  refine b_iaddN dX12_cellNow_7 ?_
  refine g_iald dX12_cellNow_8 a78 rfl (by omega) ?_
  refine b_top (hM.told (by omega)) ?_
  refine b_aload_n dX12_cellNow_9 rfl ?_
  refine g_get dX12_cellNow_10 fX12_13 a77 rfl ?_
  refine b_iconst (v := nI 4) dX12_cellNow_13 (by decide) ?_
  refine g_iald dX12_cellNow_14 a78 rfl (by omega) ?_
  refine b_top hM.ct ?_
  refine g_callV [.int (L.told p), .int (nI L.t)] dX12_cellNow_15 kX12_cellOf lX12_232 a77 rfl rfl (m_cellOf hM (by omega)) rfl rfl (Nat.le_of_ble_eq_true rfl) ?_
  exact b_iret dX12_cellNow_18 ⟨rfl, rfl⟩

