/-! ===== Showing: find; shown ===== -/
theorem nI_nat {n : Nat} (h : n < 2 ^ 32) : (nI n).toBitVec.toNat = n := by
  show (BitVec.ofNat 32 n).toNat = n
  rw [BitVec.toNat_ofNat, Nat.mod_eq_of_lt h]
def iN (x : Int32) : Nat := x.toBitVec.toNat
theorem iN_ok {x : Int32} {k : Nat} (hk : k < 32) (h : lo k x) : iN x < 2 ^ k ∧ x = nI (iN x) := by
  obtain ⟨n, hn, e⟩ := lo_nat hk h
  have h2 : n < 2 ^ 32 := Nat.lt_of_lt_of_le hn (Nat.pow_le_pow_right (by omega) (by omega))
  have h3 : iN x = n := by unfold iN; rw [e, nI_nat h2]
  exact ⟨by rw [h3]; exact hn, by rw [h3]; exact e⟩
def knN (L : LD) (k : Nat) : Nat := iN (mKnown L.hold (mPoss L.hold L.W (nI k) L.t L.F) L.F)
def szN (L : LD) (k : Nat) : Nat := cnt (mPoss L.hold L.W (nI k) L.t L.F) 16
def cnd (L : LD) (p a k : Nat) : Bool := decide ((knN L k ^^^ knN L (iN (L.told p))) &&& a = 0)
def mxf (c : Nat → Bool) (g : Nat → Nat) : Nat → Nat
  | 0 => 0
  | k + 1 => if c k then max (mxf c g k) (g k) else mxf c g k
def mnf (c : Nat → Bool) (g : Nat → Nat) : Nat → Nat
  | 0 => 99
  | k + 1 => if c k then min (mnf c g k) (g k) else mnf c g k
def lvN (L : LD) (who p a : Nat) : Nat := if p = who then mnf (cnd L p a) (szN L) (2 ^ L.F) else mxf (cnd L p a) (szN L) (2 ^ L.F)
theorem mxf_ub {c : Nat → Bool} {g : Nat → Nat} : ∀ n k, k < n → c k = true → g k ≤ mxf c g n
  | 0, k, h, _ => absurd h (by omega)
  | n + 1, k, h, hc => by
    rw [mxf]
    by_cases e : k = n
    · subst e; rw [if_pos hc]; omega
    · have := mxf_ub (g := g) n k (by omega) hc
      split <;> omega
theorem mxf_at {c : Nat → Bool} {g : Nat → Nat} : ∀ n, mxf c g n = 0 ∨ ∃ k, k < n ∧ c k = true ∧ mxf c g n = g k
  | 0 => Or.inl rfl
  | n + 1 => by
    rw [mxf]
    split
    · rename_i hc
      by_cases h : mxf c g n ≤ g n
      · exact Or.inr ⟨n, by omega, hc, by omega⟩
      · rcases mxf_at (c := c) (g := g) n with q | ⟨k, h1, h2, h3⟩
        · omega
        · exact Or.inr ⟨k, by omega, h2, by omega⟩
    · rcases mxf_at (c := c) (g := g) n with q | ⟨k, h1, h2, h3⟩
      · exact Or.inl q
      · exact Or.inr ⟨k, by omega, h2, h3⟩
theorem mnf_lb {c : Nat → Bool} {g : Nat → Nat} : ∀ n k, k < n → c k = true → mnf c g n ≤ g k
  | 0, k, h, _ => absurd h (by omega)
  | n + 1, k, h, hc => by
    rw [mnf]
    by_cases e : k = n
    · subst e; rw [if_pos hc]; omega
    · have := mnf_lb (g := g) n k (by omega) hc
      split <;> omega
theorem mnf_at {c : Nat → Bool} {g : Nat → Nat} : ∀ n, mnf c g n = 99 ∨ ∃ k, k < n ∧ c k = true ∧ mnf c g n = g k
  | 0 => Or.inl rfl
  | n + 1 => by
    rw [mnf]
    split
    · rename_i hc
      by_cases h : g n ≤ mnf c g n
      · exact Or.inr ⟨n, by omega, hc, by omega⟩
      · rcases mnf_at (c := c) (g := g) n with q | ⟨k, h1, h2, h3⟩
        · exact Or.inl (by omega)
        · exact Or.inr ⟨k, by omega, h2, by omega⟩
    · rcases mnf_at (c := c) (g := g) n with q | ⟨k, h1, h2, h3⟩
      · exact Or.inl q
      · exact Or.inr ⟨k, by omega, h2, h3⟩
theorem Mx_mxf {c : Nat → Bool} {g : Nat → Nat} {n k0 : Nat} {e : Int} (h : Mx (fun k => c k = true) (fun k => (g k : Int)) n e) (hk : k0 < n) (hc : c k0 = true) : e = (mxf c g n : Int) := by
  obtain ⟨h1, h2, h3, h4⟩ := h
  have h0 : (g k0 : Int) ≤ e := h3 k0 hk hc
  rcases h4 with q | ⟨k, a1, a2, a3⟩
  · omega
  · have a3' : e = (g k : Int) := a3
    have b1 := mxf_ub (g := g) n k a1 a2
    rcases mxf_at (c := c) (g := g) n with q | ⟨j, c1, c2, c3⟩
    · omega
    · have h5 : (g j : Int) ≤ e := h3 j c1 c2
      omega
theorem Mx_mnf {c : Nat → Bool} {g : Nat → Nat} {n k0 : Nat} {e : Int} (h : Mx (fun k => c k = true) (fun k => -(g k : Int)) n e) (hk : k0 < n) (hc : c k0 = true) (hg : g k0 ≤ 16) : e = -(mnf c g n : Int) := by
  obtain ⟨h1, h2, h3, h4⟩ := h
  have h0 : -(g k0 : Int) ≤ e := h3 k0 hk hc
  rcases h4 with q | ⟨k, a1, a2, a3⟩
  · omega
  · have a3' : e = -(g k : Int) := a3
    have b1 := mnf_lb (g := g) n k a1 a2
    have b2 := mnf_lb (g := g) n k0 hk hc
    rcases mnf_at (c := c) (g := g) n with q | ⟨j, c1, c2, c3⟩
    · omega
    · have h5 : -(g j : Int) ≤ e := h3 j c1 c2
      omega
theorem cf_and {F x a : Nat} (hF : F ≤ 8) (hx : x < 2 ^ F) (ha : a < 2 ^ F) : cf F (2 ^ F - 1 - a) x ↔ x &&& a = 0 := by
  have e : 2 ^ F - 1 - a = 2 ^ F - (a + 1) := by omega
  have hd : ∀ i, (2 ^ F - 1 - a).testBit i = (decide (i < F) && !a.testBit i) := fun i => by rw [e, Nat.testBit_two_pow_sub_succ ha]
  have hi : ∀ y i, y < 2 ^ F → F ≤ i → y.testBit i = false := fun y i hy h => Nat.testBit_lt_two_pow (Nat.lt_of_lt_of_le hy (Nat.pow_le_pow_right (by omega) h))
  constructor
  · intro h
    apply Nat.eq_of_testBit_eq
    intro i
    rw [Nat.testBit_and, Nat.zero_testBit]
    rcases Nat.lt_or_ge i F with q | q
    · cases hb : x.testBit i
      · rfl
      · have := h.1 i (by omega) hb
        rw [hd] at this
        simp [q] at this
        simp [this]
    · rw [hi x i hx q]; rfl
  · intro h
    have hb : ∀ i, (x.testBit i && a.testBit i) = false := fun i => by rw [← Nat.testBit_and, h, Nat.zero_testBit]
    refine ⟨fun i h1 h2 => ?_, fun i h1 h2 => ?_⟩
    · have := hb i
      rw [h2] at this
      have hiF : i < F := Nat.lt_of_not_le (fun z => by rw [hi x i hx z] at h2; exact absurd h2 (by decide))
      rw [hd]
      simp [hiF]
      simpa using this
    · rw [hi x i hx h1, hd]
      simp [Nat.not_lt.mpr h1]
theorem knN_ok (L : LD) (hF : L.F ≤ 8) (k : Nat) : knN L k < 2 ^ L.F ∧ mKnown L.hold (mPoss L.hold L.W (nI k) L.t L.F) L.F = nI (knN L k) := iN_ok (by omega) (lo_known _ _ _ (by omega))
theorem szN_le (L : LD) (k : Nat) : szN L k ≤ 16 := cnt_le _ _
theorem szN_W (L : LD) (k : Nat) (hW : L.W ≤ 16) : szN L k ≤ L.W := by
  unfold szN
  have e := cnt_lo (lo_poss (hold := L.hold) (told := nI k) (w := L.t) (show L.W ≤ 30 by omega) L.F) (16 - L.W) (by omega)
  rw [show L.W + (16 - L.W) = 16 by omega] at e
  rw [e]
  exact cnt_le _ _
theorem cnd_self {L : LD} (p a : Nat) : cnd L p a (iN (L.told p)) = true := by simp [cnd]
/-- levels out of the extremes -/
theorem lv_of {L : LD} {who p : Nat} {s : ST} {sg : Int32} (hF : L.F ≤ 8) (ht : lo L.F (L.told p)) (hsg : sgOk sg (!decide (p = who))) (hX : XT s (2 ^ L.F) (fun d k => cf L.F d (knN L k ^^^ knN L (iN (L.told p)))) (fun k => if p = who then -(szN L k : Int) else (szN L k : Int)) (2 ^ L.F)) : ∀ a, a < 2 ^ L.F → lvN L who p a ≤ 16 ∧ sg * s 37 (2 ^ L.F - 1 - a) = nI (lvN L who p a) := by
  intro a ha
  have h256 : 2 ^ L.F ≤ 256 := Nat.pow_le_pow_right (by omega) hF
  obtain ⟨e, h1, h2⟩ := hX (2 ^ L.F - 1 - a) (by omega)
  have ht0 := (iN_ok (by omega) ht).1
  have h3 := Mx_cg (c' := fun k => cnd L p a k = true) h2 (fun k hk => by
    dsimp only
    rw [cf_and hF (xor_lt (knN_ok L hF k).1 (knN_ok L hF _).1) ha]
    simp [cnd])
  rw [h1]
  unfold lvN
  by_cases hp : p = who
  · simp only [hp, if_true] at h3 ⊢
    rw [hp] at ht0
    have e2 := Mx_mnf h3 ht0 (cnd_self who a) (szN_le _ _)
    have b := mnf_lb (g := szN L) (2 ^ L.F) _ ht0 (cnd_self (L := L) who a)
    have b2 := szN_le L (iN (L.told who))
    refine ⟨by omega, ?_⟩
    have hs1 : sg = -1 := by have := hsg; simpa [sgOk, hp] using this
    rw [hs1, e2]
    generalize mnf (cnd L who a) (szN L) (2 ^ L.F) = z at b
    have hz : z ≤ 16 := by omega
    exact (by decide +kernel : ∀ z : Nat, z < 17 → (-1 : Int32) * iI (-(z : Int)) = nI z) z (by omega)
  · simp only [hp, if_false] at h3 ⊢
    have e2 := Mx_mxf h3 ht0 (cnd_self p a)
    have b : mxf (cnd L p a) (szN L) (2 ^ L.F) ≤ 16 := by
      rcases mxf_at (c := cnd L p a) (g := szN L) (2 ^ L.F) with q | ⟨k, h4, h5, h6⟩
      · omega
      · rw [h6]; exact szN_le _ _
    refine ⟨b, ?_⟩
    have hs1 : sg = nI 1 := by have := hsg; simpa [sgOk, hp] using this
    rw [hs1, e2, iI_nI, pk_mul, Nat.one_mul]
/-- who could be asked what, so that one is seen to know least -/
def TS (L : LD) (who : Nat) (τ : Nat → Nat) : Prop := ∃ l, l ≤ L.W ∧ ∀ p, p < L.P → τ p < 2 ^ L.F ∧ lvC (!decide (p = who)) (lvN L who p) l (τ p)
theorem OptC_cg {s : ST} {P : Nat} {T T' : (Nat → Nat) → Prop} (h : OptC s P T) (e : ∀ τ, T τ ↔ T' τ) : OptC s P T' := by
  rcases h with ⟨h1, h2⟩ | ⟨α, h1, h2, h3, h4, h5⟩
  · exact Or.inl ⟨h1, fun τ z => h2 τ ((e τ).mpr z)⟩
  · exact Or.inr ⟨α, (e α).mp h1, h2, h3, h4, fun τ z => h5 τ ((e τ).mpr z)⟩
theorem OptC_of {s s' : ST} {P : Nat} {T : (Nat → Nat) → Prop} (h : OptC s P T) (e1 : s' 34 5 = s 34 5) (e2 : ∀ p, p < P → s' 39 p = s 39 p) : OptC s' P T := by
  rcases h with ⟨h1, h2⟩ | ⟨α, h1, h2, h3, h4, h5⟩
  · exact Or.inl ⟨e1.trans h1, h2⟩
  · exact Or.inr ⟨α, h1, h2, e1.trans h3, fun p hp => (e2 p hp).trans (h4 p hp), h5⟩
def kH (c : Nat) : Prop := 34 ≤ c ∧ c ≤ 39
theorem c_find {G : GT} {d : Nat} {σ : ST} {μ : SL} {W F P t who : Nat} (hX : XV σ W F P t) (hlo : ∀ p, p < P → lo F (σ 27 p)) (hw : who < P) : Fn G (d + 3) mX7_find [.ref (G.b0 + 34), .ref (G.b0 + 20), .ref (G.b0 + 26), .int (nI who)] (sh G σ μ) (fun r h' => r = none ∧ ∃ s : ST, h' = sh G s μ ∧ (∀ c, ¬ kH c → s c = σ c) ∧ OptC s P (TS (vX σ W F P t) who)) := by
  have ht := hX.t32
  obtain ⟨⟨hW, hF, hP, hW16, hF8, hP6⟩, hTr, -⟩ := id hX
  have h256 : 2 ^ F ≤ 256 := Nat.pow_le_pow_right (by omega) hF8
  generalize hLd : vX σ W F P t = L
  have eF : L.F = F := by rw [← hLd]
  have eP : L.P = P := by rw [← hLd]
  have eW : L.W = W := by rw [← hLd]
  have eT : ∀ p, L.told p = σ 27 p := fun p => by rw [← hLd]
  refine fn_of (ls := [some (.ref (G.b0 + 34)), some (.ref (G.b0 + 20)), some (.ref (G.b0 + 26)), some (.int (nI who)), none, none]) (by decide +kernel) (Nat.le_of_ble_eq_true rfl) 2 rfl ?_
  refine b_iconst (v := nI 0) dX7_find_0 (by decide) ?_
  refine b_istore dX7_find_1 (by decide) rfl ?_
  have hLs : ∀ s : ST, (∀ c, ¬ kH c → s c = σ c) → LV s 20 W F P := fun s hs => LV_of hX.1 (fun q => congrFun (hs 20 (by unfold kH; omega)) q)
  have lp1 : ∀ (n i : Nat) (s : ST) (z5 : Option Value), i + n = 2 ^ F → (∀ c, ¬ kH c → s c = σ c) → (∀ k, k < i → s 35 k = nI (szN L k) ∧ s 36 k = nI (knN L k)) → BB G RX7 cX7_find 6 none (d + 3) (QM G (fun r h' => r = none ∧ ∃ s : ST, h' = sh G s μ ∧ (∀ c, ¬ kH c → s c = σ c) ∧ OptC s P (TS L who))) 3 [some (.ref (G.b0 + 34)), some (.ref (G.b0 + 20)), some (.ref (G.b0 + 26)), some (.int (nI who)), some (.int (nI i)), z5] [] (sh G s μ) := by
    intro n
    induction n with
    | zero =>
      intro i s z5 hi hs hk
      have hLV := hLs s hs
      refine b_iload dX7_find_3 rfl ?_
      refine b_iconst (v := nI 1) dX7_find_5 (by decide) ?_
      refine b_aload_n dX7_find_6 rfl ?_
      refine g_geti (x := nI F) dX7_find_7 fX7_27 a20 rfl hLV.2.1 ?_
      refine b_ishl dX7_find_10 ?_
      refine b_top (shl_pow (by omega)) ?_
      refine b_icmp_ge_t 57 dX7_find_11 (by decide) (nI_le (by omega) (by omega)) ?_
      refine b_iconst (v := nI 0) dX7_find_57 (by decide) ?_
      refine b_istore dX7_find_58 (by decide) rfl ?_
      have lp2 : ∀ (n p : Nat) (s : ST) (z5 : Option Value), p + n = P → (∀ c, ¬ kH c → s c = σ c) → (∀ k, k < 2 ^ F → s 35 k = nI (szN L k) ∧ s 36 k = nI (knN L k)) → (∀ q, q < p → BT s q (2 ^ F) (lvC (!decide (q = who)) (lvN L who q)) (2 ^ F)) → BB G RX7 cX7_find 6 none (d + 3) (QM G (fun r h' => r = none ∧ ∃ s : ST, h' = sh G s μ ∧ (∀ c, ¬ kH c → s c = σ c) ∧ OptC s P (TS L who))) 60 [some (.ref (G.b0 + 34)), some (.ref (G.b0 + 20)), some (.ref (G.b0 + 26)), some (.int (nI who)), some (.int (nI p)), z5] [] (sh G s μ) := by
        intro n
        induction n with
        | zero =>
          intro p s z5 hi hs hk hB
          have hLV := hLs s hs
          refine b_iload dX7_find_60 rfl ?_
          refine b_aload_n dX7_find_62 rfl ?_
          refine g_geti (x := nI P) dX7_find_63 fX7_51 a20 rfl hLV.2.2.1 ?_
          refine b_icmp_ge_t 116 dX7_find_66 (by decide) (nI_le (by omega) (by omega)) ?_
          refine b_aload_n dX7_find_116 rfl ?_
          refine b_iconst (v := -1) dX7_find_117 (by decide) ?_
          refine g_put dX7_find_118 wX7_64 a34 tfX7_5 (Nat.le_of_ble_eq_true rfl) rfl ?_
          refine b_iconst (v := nI 0) dX7_find_121 (by decide) ?_
          refine b_istore dX7_find_122 (by decide) rfl ?_
          have lp3 : ∀ (n l : Nat) (s1 : ST), l + n = W + 1 → (∀ c, ¬ kH c → s1 c = σ c) → (∀ q, q < P → BT s1 q (2 ^ F) (lvC (!decide (q = who)) (lvN L who q)) (2 ^ F)) → OptC s1 P (fun τ => ∃ l', l' < l ∧ ∀ p, p < P → τ p < 2 ^ F ∧ lvC (!decide (p = who)) (lvN L who p) l' (τ p)) → BB G RX7 cX7_find 6 none (d + 3) (QM G (fun r h' => r = none ∧ ∃ s : ST, h' = sh G s μ ∧ (∀ c, ¬ kH c → s c = σ c) ∧ OptC s P (TS L who))) 124 [some (.ref (G.b0 + 34)), some (.ref (G.b0 + 20)), some (.ref (G.b0 + 26)), some (.int (nI who)), some (.int (nI l)), z5] [] (sh G s1 μ) := by
            intro n
            induction n with
            | zero =>
              intro l s1 hl hs1 hB1 hO
              have hLV1 := hLs s1 hs1
              refine b_iload dX7_find_124 rfl ?_
              refine b_aload_n dX7_find_126 rfl ?_
              refine g_geti (x := nI W) dX7_find_127 fX7_67 a20 rfl hLV1.1 ?_
              refine b_icmp_gt_t 149 dX7_find_130 (by decide) (nI_lt (by omega) (by omega)) ?_
              exact b_vret dX7_find_149 ⟨rfl, s1, rfl, hs1, OptC_cg hO (fun τ => by
                constructor
                · rintro ⟨l', h1, h2⟩
                  exact ⟨l', by rw [eW]; omega, fun p hp => by rw [eF]; exact h2 p (by rw [← eP]; exact hp)⟩
                · rintro ⟨l', h1, h2⟩
                  exact ⟨l', by rw [eW] at h1; omega, fun p hp => by have := h2 p (by rw [eP]; exact hp); rw [eF] at this; exact this⟩)⟩
            | succ n ih =>
              intro l s1 hl hs1 hB1 hO
              have hLV1 := hLs s1 hs1
              refine b_iload dX7_find_124 rfl ?_
              refine b_aload_n dX7_find_126 rfl ?_
              refine g_geti (x := nI W) dX7_find_127 fX7_67 a20 rfl hLV1.1 ?_
              refine b_icmp_gt_f 149 dX7_find_130 (by decide) (nI_nlt (by omega) (by omega)) ?_
              refine b_aload_n dX7_find_133 rfl ?_
              refine b_aload_n dX7_find_134 rfl ?_
              refine g_geti (x := nI P) dX7_find_135 fX7_51 a20 rfl hLV1.2.2.1 ?_
              refine b_iload dX7_find_138 rfl ?_
              refine g_callVp [.int (nI P), .int (nI l)] dX7_find_140 kX7_takeIfBetter lX7_70 a34 rfl rfl (c_takeIfBetter (d := d + 1) (zN := 2 ^ F) (C := fun p => lvC (!decide (p = who)) (lvN L who p) l) hP6 (by omega) h256 (fun q hq => hB1 q hq l (by omega)) hO) rfl rfl (Nat.le_of_ble_eq_true rfl) ?_
              rintro r h9 ⟨rfl, s2, rfl, hs2, hO2⟩
              refine b_iinc dX7_find_143 rfl (nI_1 _) (by decide) rfl ?_
              refine b_goto 124 dX7_find_146 (by decide) ?_
              refine ih (l + 1) s2 (by omega) (fun c hc => ?_) (fun q hq l2 hl2 => ?_) (OptC_cg hO2 (fun τ => ?_))
              · rw [← hs1 c hc]
                simp only [kH] at hc
                funext q
                exact hs2 c q (by omega) (by omega)
              · rw [hs2 38 _ (by omega) (by omega)]
                exact hB1 q hq l2 hl2
              · constructor
                · rintro (⟨l', h1, h2⟩ | h)
                  · exact ⟨l', by omega, h2⟩
                  · exact ⟨l, by omega, h⟩
                · rintro ⟨l', h1, h2⟩
                  by_cases e : l' = l
                  · subst e; exact Or.inr h2
                  · exact Or.inl ⟨l', by omega, h2⟩
          refine lp3 (W + 1) 0 _ (by omega) (fun c hc => ?_) (fun q hq l hl => ?_) (Or.inl ⟨pt_s _ _ _ _, fun τ => by rintro ⟨l', h1, -⟩; omega⟩)
          · rw [pt_r (by simp only [kH] at hc; omega)]; exact hs c hc
          · rw [pt_a (by omega)]; exact hB q (by omega) l hl
        | succ n ih =>
          intro p s z5 hi hs hk hB
          have hLV := hLs s hs
          have htp : lo F (σ 27 p) := hlo p (by omega)
          obtain ⟨t1, t2⟩ := iN_ok (by omega) htp
          have hq9 := knN_ok L (by omega) (iN (σ 27 p))
          have bdy : ∀ (sg : Int32), sgOk sg (!decide (p = who)) → (∀ k, k < 2 ^ F → -16 ≤ (if p = who then -(szN L k : Int) else (szN L k : Int)) ∧ (if p = who then -(szN L k : Int) else (szN L k : Int)) ≤ 16 ∧ sg * nI (szN L k) = iI (if p = who then -(szN L k : Int) else (szN L k : Int))) → BB G RX7 cX7_find 6 none (d + 3) (QM G (fun r h' => r = none ∧ ∃ s : ST, h' = sh G s μ ∧ (∀ c, ¬ kH c → s c = σ c) ∧ OptC s P (TS L who))) 80 [some (.ref (G.b0 + 34)), some (.ref (G.b0 + 20)), some (.ref (G.b0 + 26)), some (.int (nI who)), some (.int (nI p)), z5] [.int sg] (sh G s μ) := by
            intro sg hsg hg
            refine b_istore dX7_find_80 (by decide) rfl ?_
            refine b_aload_n dX7_find_82 rfl ?_
            refine b_aload_n dX7_find_83 rfl ?_
            refine b_aload_n dX7_find_84 rfl ?_
            refine g_get dX7_find_85 fX7_15 a34 rfl ?_
            refine b_aload_n dX7_find_88 rfl ?_
            refine g_get dX7_find_89 fX7_54 a26 rfl ?_
            refine b_iload dX7_find_92 rfl ?_
            refine g_iald dX7_find_94 a27 rfl (by omega) ?_
            refine b_top (y := nI (iN (σ 27 p))) (by rw [show 26 + 1 = 27 from rfl, hs 27 (by unfold kH; omega)]; exact t2) ?_
            refine g_iald dX7_find_95 a36 rfl (by omega) ?_
            refine b_top (y := nI (knN L (iN (σ 27 p)))) (hk _ t1).2 ?_
            refine b_iload dX7_find_96 rfl ?_
            refine g_callVp [.ref (G.b0 + 20), .int (nI (knN L (iN (σ 27 p)))), .int sg] dX7_find_98 kX7_findExtremes lX7_57 a34 rfl rfl (c_findExtremes (d := d + 1) (kn := knN L) (sz := szN L) (g := fun k => if p = who then -(szN L k : Int) else (szN L k : Int)) hLV (by have := hq9.1; rw [eF] at this; exact this) (fun k hk' => ⟨by have := (knN_ok L (by omega) k).1; rw [eF] at this; exact this, (hk k hk').2⟩) (fun k hk' => (hk k hk').1) hg) rfl rfl (Nat.le_of_ble_eq_true rfl) ?_
            rintro r h9 ⟨rfl, s2, rfl, hs2, hXT⟩
            refine b_aload_n dX7_find_101 rfl ?_
            refine b_aload_n dX7_find_102 rfl ?_
            refine b_iload dX7_find_103 rfl ?_
            refine b_iload dX7_find_105 rfl ?_
            have hs2' : ∀ c, ¬ kH c → s2 c = σ c := fun c hc => by rw [hs2 c (by simp only [kH] at hc; omega)]; exact hs c hc
            have hlv := lv_of (L := L) (who := who) (p := p) (s := s2) (sg := sg) (by omega) (by rw [eF, eT]; exact htp) hsg (by rw [eF, eT]; exact hXT)
            rw [eF] at hlv
            refine g_callVp [.ref (G.b0 + 20), .int (nI p), .int sg] dX7_find_107 kX7_findBest lX7_61 a34 rfl rfl (c_findBest (d := d) (p := p) (up := !decide (p = who)) (lv := lvN L who p) (hLs s2 hs2') (by omega) hsg hlv) rfl rfl (Nat.le_of_ble_eq_true rfl) ?_
            rintro r h9 ⟨rfl, s3, rfl, hs3, hBT⟩
            refine b_iinc dX7_find_110 rfl (nI_1 _) (by decide) rfl ?_
            refine b_goto 60 dX7_find_113 (by decide) ?_
            refine ih (p + 1) s3 _ (by omega) (fun c hc => ?_) (fun k hk' => ?_) (fun q hq => ?_)
            · rw [← hs2' c hc]
              funext x
              exact hs3 c x (by simp only [kH] at hc; omega)
            · rw [hs3 35 k (by omega), hs3 36 k (by omega), hs2 35 (by omega), hs2 36 (by omega)]
              exact hk k hk'
            · by_cases e : q = p
              · subst e; exact hBT
              · intro l hl
                rw [hs3 38 _ (by omega), hs2 38 (by omega)]
                exact hB q (by omega) l hl
          refine b_iload dX7_find_60 rfl ?_
          refine b_aload_n dX7_find_62 rfl ?_
          refine g_geti (x := nI P) dX7_find_63 fX7_51 a20 rfl hLV.2.2.1 ?_
          refine b_icmp_ge_f 116 dX7_find_66 (by decide) (nI_ge (by omega) (by omega)) ?_
          refine b_iload dX7_find_69 rfl ?_
          refine b_iload_n dX7_find_71 rfl ?_
          refine b_icmp_ne 79 dX7_find_72 (by decide) (fun c1 => ?_) (fun c1 => ?_)
          · skip
            have c2 : ¬ p = who := fun z => c1 (by rw [z])
            refine b_iconst (v := nI 1) dX7_find_79 (by decide) ?_
            refine bdy (nI 1) (by simp [sgOk, c2]) (fun k _ => ?_)
            have := szN_le L k
            rw [if_neg c2, iI_nI, pk_mul, Nat.one_mul]
            exact ⟨by omega, by omega, rfl⟩
          · skip
            have c2 : p = who := by rw [nI_eq (by omega) (by omega)] at c1; exact c1
            refine b_iconst (v := -1) dX7_find_75 (by decide) ?_
            refine b_goto 80 dX7_find_76 (by decide) ?_
            refine bdy (-1) (by simp [sgOk, c2]) (fun k _ => ?_)
            have hz := szN_le L k
            rw [if_pos c2]
            refine ⟨by omega, by omega, ?_⟩
            exact (by decide +kernel : ∀ z : Nat, z < 17 → (-1 : Int32) * nI z = iI (-(z : Int))) _ (by omega)
      exact lp2 P 0 s _ (by omega) hs (fun k hk' => hk k (by omega)) (fun q hq => absurd hq (by omega))
    | succ n ih =>
      intro i s z5 hi hs hk
      have hLV := hLs s hs
      refine b_iload dX7_find_3 rfl ?_
      refine b_iconst (v := nI 1) dX7_find_5 (by decide) ?_
      refine b_aload_n dX7_find_6 rfl ?_
      refine g_geti (x := nI F) dX7_find_7 fX7_27 a20 rfl hLV.2.1 ?_
      refine b_ishl dX7_find_10 ?_
      refine b_top (shl_pow (by omega)) ?_
      refine b_icmp_ge_f 57 dX7_find_11 (by decide) (nI_ge (by omega) (by omega)) ?_
      refine b_aload_n dX7_find_14 rfl ?_
      refine b_iload dX7_find_15 rfl ?_
      refine b_aload_n dX7_find_17 rfl ?_
      refine g_geti (x := nI t) dX7_find_18 fX7_33 a26 rfl (by rw [hs 26 (by unfold kH; omega)]; exact hTr) ?_
      have hsz : mPoss (s (20 + 3)) W (nI i) t F = mPoss L.hold L.W (nI i) L.t L.F := by rw [← hLd, show 20 + 3 = 23 from rfl, hs 23 (by unfold kH; omega)]
      refine g_callV [.int (nI i), .int (nI t)] dX7_find_21 kX2_possible lX7_38 a20 rfl rfl (c_possible ln20 hLV (by omega)) rfl rfl (Nat.le_of_ble_eq_true rfl) ?_
      rw [hsz]
      refine b_istore dX7_find_24 (by decide) rfl ?_
      refine b_aload_n dX7_find_26 rfl ?_
      refine g_get dX7_find_27 fX7_9 a34 rfl ?_
      refine b_iload dX7_find_30 rfl ?_
      refine b_iload dX7_find_32 rfl ?_
      refine b_callSr [.int (mPoss L.hold L.W (nI i) L.t L.F)] dX7_find_34 kJ6_bitCount_0f7a4 lX7_42 (c_bitCount (lo_mono (lo_poss (by omega) _) (show L.W ≤ 16 by omega))) rfl rfl (Nat.le_of_ble_eq_true rfl) ?_
      refine g_iast dX7_find_37 a35 rfl (by omega) ?_
      refine b_aload_n dX7_find_38 rfl ?_
      refine g_get dX7_find_39 fX7_15 a34 rfl ?_
      refine b_iload dX7_find_42 rfl ?_
      refine b_aload_n dX7_find_44 rfl ?_
      refine b_iload dX7_find_45 rfl ?_
      have hLV2 : LV (pt s 35 i (nI (szN L i))) 20 W F P := LV_of hLV (fun q => pt_a (by omega))
      refine g_callV [.int (mPoss L.hold L.W (nI i) L.t L.F)] dX7_find_47 kX2_knownBy lX7_48 a20 rfl rfl (c_knownBy ln20 hLV2) rfl rfl (Nat.le_of_ble_eq_true rfl) ?_
      have hkn : mKnown (pt s 35 i (nI (szN L i)) (20 + 3)) (mPoss L.hold L.W (nI i) L.t L.F) F = nI (knN L i) := by
        rw [pt_r (show 20 + 3 ≠ 35 by omega), show 20 + 3 = 23 from rfl, hs 23 (by unfold kH; omega)]
        have := (knN_ok L (by omega) i).2
        rw [← this, ← hLd]
      refine b_top hkn ?_
      refine g_iast dX7_find_50 a36 rfl (by omega) ?_
      refine b_iinc dX7_find_51 rfl (nI_1 _) (by decide) rfl ?_
      refine b_goto 3 dX7_find_54 (by decide) ?_
      refine ih (i + 1) _ _ (by omega) (fun c hc => ?_) (fun k hk' => ?_)
      · simp only [kH] at hc
        rw [pt_r (by omega), pt_r (by omega)]
        exact hs c (by unfold kH; omega)
      · by_cases e : k = i
        · subst e
          exact ⟨by simp [pt, szN], by simp [pt]⟩
        · simp only [pt_at]
          rw [if_neg (by omega), if_neg (by omega), if_neg (by omega), if_neg (by omega)]
          exact hk k (by omega)
  exact lp1 (2 ^ F) 0 σ _ (by omega) (fun _ _ => rfl) (fun k hk => absurd hk (by omega))
/-- the best asking: who is asked what -/
def OptT (L : LD) (who : Nat) (τ : Nat → Nat) : Prop := TS L who τ ∧ ∀ τ', TS L who τ' → key τ L.P ≤ key τ' L.P
noncomputable def shT (L : LD) (who : Nat) : Option (Nat → Nat) := @dite (Option (Nat → Nat)) (∃ τ, OptT L who τ) (Classical.propDecidable _) (fun h => some (Classical.choose h)) (fun _ => none)
noncomputable def oShown (L : LD) (p what : Int32) : Int32 := if inR p L.P && (decide (what = 0) || inR (what - nI 10) L.P) then (if lst L 0 L.told L.t = p then (match shT L (ix p) with
  | none => -1
  | some τ => if what = 0 then nI (sB τ L.P) else nI (τ (ix (what - nI 10)))) else -1) else -2
theorem TS_256 {L : LD} {who : Nat} {τ : Nat → Nat} (hF : L.F ≤ 8) (h : TS L who τ) : ∀ p, p < L.P → τ p < 256 := by
  obtain ⟨l, -, h⟩ := h
  intro p hp
  have h256 : 2 ^ L.F ≤ 256 := Nat.pow_le_pow_right (by omega) hF
  have := (h p hp).1
  omega
theorem shT_none {L : LD} {who : Nat} (h : ∀ τ, ¬ TS L who τ) : shT L who = none := by
  unfold shT
  rw [dif_neg]
  rintro ⟨τ, h1, -⟩
  exact h τ h1
theorem shT_some {L : LD} {who : Nat} {τ : Nat → Nat} (hF : L.F ≤ 8) (h : OptT L who τ) : ∃ τ', shT L who = some τ' ∧ sB τ' L.P = sB τ L.P ∧ ∀ q, q < L.P → τ' q = τ q := by
  have hex : ∃ τ, OptT L who τ := ⟨τ, h⟩
  have h2 := Classical.choose_spec hex
  refine ⟨Classical.choose hex, by unfold shT; rw [dif_pos hex], ?_⟩
  exact key_inj (TS_256 hF h2.1) (TS_256 hF h.1) (Nat.le_antisymm (h2.2 _ h.1) (h.2 _ h2.1))
/-- what the showing holds is the best asking -/
theorem OptC_shT {L : LD} {who : Nat} {s : ST} (hF : L.F ≤ 8) (h : OptC s L.P (TS L who)) : (s 34 5 = -1 ∧ shT L who = none) ∨ ∃ τ, shT L who = some τ ∧ s 34 5 = nI (sB τ L.P) ∧ ∀ p, p < L.P → s 39 p = nI (τ p) := by
  rcases h with ⟨h1, h2⟩ | ⟨α, h1, h2, h3, h4, h5⟩
  · exact Or.inl ⟨h1, shT_none h2⟩
  · obtain ⟨τ, e1, e2, e3⟩ := shT_some hF ⟨h1, h5⟩
    exact Or.inr ⟨τ, e1, by rw [h3, e2], fun p hp => by rw [h4 p hp, e3 p hp]⟩
theorem c_X_shown {G : GT} {d : Nat} {σ : ST} {μ : SL} {W F P t : Nat} {p x : Int32} (hX : XV σ W F P t) (hlo : ∀ p, p < P → lo F (σ 27 p)) : Fn G (d + 4) mX11_shown [.ref (G.b0 + 0), .int p, .int x] (sh G σ μ) (PK G μ σ kH (oShown (vX σ W F P t) p x)) := by
  have ht := hX.t32
  obtain ⟨⟨hW, hF, hP, hW16, hF8, hP6⟩, hTr, -⟩ := id hX
  refine fn_of (ls := [some (.ref (G.b0 + 0)), some (.int p), some (.int x)]) (by decide +kernel) (Nat.le_of_ble_eq_true rfl) 0 rfl ?_
  refine b_aload_n dX11_shown_0 rfl ?_
  refine b_iload_n dX11_shown_1 rfl ?_
  refine g_callV [.int p] dX11_shown_2 kX11_isPerson lX11_136 a0 rfl rfl (c_isPerson hP) rfl rfl (Nat.le_of_ble_eq_true rfl) ?_
  refine b_if_eq 23 dX11_shown_5 (by decide) (fun c1 => ?_) (fun c1 => ?_)
  · skip
    refine b_bipush (v := -2) dX11_shown_23 (by decide) ?_
    exact b_iret dX11_shown_25 ⟨by simp [oShown, (bI_0 _).mp c1], σ, rfl, fun c _ => rfl⟩
  · skip
    have c2 := (bI_1 _).mp c1
    obtain ⟨j, hj, rfl⟩ := inR_of (by omega) c2
    have hix := ix_nI (show j < 2 ^ 31 by omega)
    have bdy : (decide (x = 0) || inR (x - nI 10) P) = true → BB G RX11 cX11_shown 3 (some .int) (d + 4) (QM G (PK G μ σ kH (oShown (vX σ W F P t) (nI j) x))) 26 [some (.ref (G.b0 + 0)), some (.int (nI j)), some (.int x)] [] (sh G σ μ) := by
      intro h9
      refine b_aload_n dX11_shown_26 rfl ?_
      refine g_get dX11_shown_27 fX11_23 a0 rfl ?_
      refine b_iconst (v := nI 0) dX11_shown_30 (by decide) ?_
      refine b_aload_n dX11_shown_31 rfl ?_
      refine g_get dX11_shown_32 fX11_30 a0 rfl ?_
      refine g_get dX11_shown_35 fX11_142 a26 rfl ?_
      refine b_aload_n dX11_shown_38 rfl ?_
      refine g_get dX11_shown_39 fX11_30 a0 rfl ?_
      refine g_geti (x := nI t) dX11_shown_42 fX11_174 a26 rfl hTr ?_
      refine g_callV [.int (nI 0), .ref (G.b0 + 27), .int (nI t)] dX11_shown_45 kX2_leastBy lX11_218 a20 rfl rfl (c_leastBy (m := 0) (t := 27) ln20 a27 hX.1 (by omega) (by omega)) rfl rfl (Nat.le_of_ble_eq_true rfl) ?_
      refine b_iload_n dX11_shown_48 rfl ?_
      have hO : oShown (vX σ W F P t) (nI j) x = if mLeast (σ 23) (σ 22) (σ 20 5) W F P 0 (σ 27) t = nI j then (match shT (vX σ W F P t) j with
        | none => -1
        | some τ => if x = 0 then nI (sB τ P) else nI (τ (ix (x - nI 10)))) else -1 := by
        simp only [oShown, c2, h9, hix, Bool.and_self, if_true]
        rfl
      refine b_icmp_eq 54 dX11_shown_49 (by decide) (fun c3 => ?_) (fun c3 => ?_)
      · skip
        rw [if_pos c3] at hO
        refine b_aload_n dX11_shown_54 rfl ?_
        refine g_get dX11_shown_55 fX11_47 a0 rfl ?_
        refine b_aload_n dX11_shown_58 rfl ?_
        refine g_get dX11_shown_59 fX11_23 a0 rfl ?_
        refine b_aload_n dX11_shown_62 rfl ?_
        refine g_get dX11_shown_63 fX11_30 a0 rfl ?_
        refine b_iload_n dX11_shown_66 rfl ?_
        refine g_callVp [.ref (G.b0 + 20), .ref (G.b0 + 26), .int (nI j)] dX11_shown_67 kX7_find lX11_251 a34 rfl rfl (c_find (d := d) hX hlo hj) rfl rfl (Nat.le_of_ble_eq_true rfl) ?_
        rintro r h9 ⟨rfl, s, rfl, hs, hOp⟩
        refine b_aload_n dX11_shown_70 rfl ?_
        refine g_get dX11_shown_71 fX11_47 a0 rfl ?_
        refine g_get dX11_shown_74 fX11_255 a34 rfl ?_
        refine b_iconst (v := -1) dX11_shown_77 (by decide) ?_
        rcases OptC_shT (L := vX σ W F P t) hF8 hOp with ⟨h1, h2⟩ | ⟨τ, h1, h2, h3⟩
        · skip
          rw [h1]
          refine b_icmp_ne_f 83 dX11_shown_78 (by decide) (by decide) ?_
          refine b_iconst (v := -1) dX11_shown_81 (by decide) ?_
          exact b_iret dX11_shown_82 ⟨by rw [hO, h2], s, rfl, hs⟩
        · have hsb := sB_le τ P
          rw [h2]
          refine b_icmp_ne_t 83 dX11_shown_78 (by decide) (nI_m1 (show sB τ P < 2 ^ 31 by omega)) ?_
          refine b_iload_n dX11_shown_83 rfl ?_
          refine b_if_ne 97 dX11_shown_84 (by decide) (fun c4 => ?_) (fun c4 => ?_)
          · skip
            refine b_aload_n dX11_shown_97 rfl ?_
            refine g_get dX11_shown_98 fX11_47 a0 rfl ?_
            refine g_get dX11_shown_101 fX11_258 a34 rfl ?_
            refine b_iload_n dX11_shown_104 rfl ?_
            refine b_bipush (v := nI 10) dX11_shown_105 (by decide) ?_
            refine b_isub dX11_shown_107 ?_
            have h10 : inR (x - nI 10) P = true := by simpa [c4] using h9
            obtain ⟨k, hk, e⟩ := inR_of (by omega) h10
            refine b_top e ?_
            refine g_iald dX11_shown_108 a39 rfl (by omega) ?_
            refine b_iret dX11_shown_109 ⟨?_, s, rfl, hs⟩
            rw [hO, h1]
            show some (Value.int (s 39 k)) = _
            simp only [c4, if_false]
            rw [h3 k hk, e, ix_nI (by omega)]
          · skip
            refine b_aload_n dX11_shown_87 rfl ?_
            refine g_get dX11_shown_88 fX11_47 a0 rfl ?_
            refine g_geti (x := nI (sB τ P)) dX11_shown_91 fX11_255 a34 rfl h2 ?_
            refine b_goto 109 dX11_shown_94 (by decide) ?_
            exact b_iret dX11_shown_109 ⟨by rw [hO, h1]; simp only [c4, if_true], s, rfl, hs⟩
      · skip
        rw [if_neg c3] at hO
        refine b_iconst (v := -1) dX11_shown_52 (by decide) ?_
        exact b_iret dX11_shown_53 ⟨by rw [hO], σ, rfl, fun c _ => rfl⟩
    refine b_iload_n dX11_shown_8 rfl ?_
    refine b_if_eq 26 dX11_shown_9 (by decide) (fun c3 => ?_) (fun c3 => ?_)
    · skip
      exact bdy (by rw [decide_eq_true c3]; rfl)
    · skip
      refine b_aload_n dX11_shown_12 rfl ?_
      refine b_iload_n dX11_shown_13 rfl ?_
      refine b_bipush (v := nI 10) dX11_shown_14 (by decide) ?_
      refine b_isub dX11_shown_16 ?_
      refine g_callV [.int (x - (nI 10))] dX11_shown_17 kX11_isPerson lX11_136 a0 rfl rfl (c_isPerson hP) rfl rfl (Nat.le_of_ble_eq_true rfl) ?_
      refine b_if_ne 26 dX11_shown_20 (by decide) (fun c4 => ?_) (fun c4 => ?_)
      · skip
        exact bdy (by rw [(bI_1 _).mp c4, Bool.or_true])
      · skip
        have c5 : inR (x - nI 10) P = false := (bI_0 _).mp c4
        refine b_bipush (v := -2) dX11_shown_23 (by decide) ?_
        exact b_iret dX11_shown_25 ⟨by simp [oShown, c3, c5], σ, rfl, fun c _ => rfl⟩

