/-! ===== both sides between two calls ===== -/
/-- a land and a state of the class, at these cells -/
abbrev vB (σ : ST) (l b W F P t : Nat) : LD := ((W, F, P, t), (σ (l + 1), σ (l + 2), σ (l + 3), σ (l + 4), σ (l + 5), σ l 5, σ (b + 1)))
/-- the reference holds it from this place on -/
def BM (σ : ST) (o : Nat) (L : LD) (ln : Int32) : Prop := (σ 78 (0 + o) = ln ∧ σ 78 (1 + o) = nI L.W ∧ σ 78 (2 + o) = nI L.F ∧ σ 78 (3 + o) = nI L.P ∧ σ 78 (4 + o) = nI L.t) ∧ (∀ p, p < L.P → σ 78 (5 + p + o) = L.told p) ∧ (∀ k w, k < 3 → w < L.W → σ 78 (11 + 16 * k + w + o) = L.num (3 * w + k)) ∧ (∀ w, w < L.W → σ 78 (59 + w + o) = L.wt w) ∧ (∀ w, w < L.W → σ 78 (75 + w + o) = bI (bt L.gl w)) ∧ (∀ p, p < L.P → σ 78 (91 + p + o) = L.road p) ∧ (∀ f, f < L.F → σ 78 (97 + f + o) = L.hint f) ∧ ∀ f, f < L.F → σ 78 (105 + f + o) = L.hold f
theorem MV_BM {σ : ST} {L : LD} {ln : Int32} (h0 : σ 77 0 = nI 0) (hK : LBh L) (h : BM σ 0 L ln) : MV σ L := by
  obtain ⟨⟨a0, a1, a2, a3, a4⟩, b1, b2, b3, b4, b5, b6, b7⟩ := h
  obtain ⟨⟨k1, k2, k3, k4, k5, k6, k7, k8, k9, k10⟩, -⟩ := hK
  exact ⟨h0, ⟨a1, a2, a3, a4⟩, ⟨k8, k9, k10, k1, k2⟩, b1, b2, b3, b4, b5, b6, b7, k4⟩
/-- one land, one state: valid, and the same on both sides -/
def BK (σ : ST) (l b o W F P t : Nat) : Prop := LV σ l W F P ∧ σ b 2 = nI t ∧ LBh (vB σ l b W F P t) ∧ BM σ o (vB σ l b W F P t) (σ l 9)
def PSt (σ : ST) (W F P sz : Nat) : Prop := XP σ sz ∧ σ 78 113 = nI sz ∧ ∀ i, i < sz → ∃ t : Nat, (0 < W → t < W) ∧ (W = 0 → t = 0) ∧ σ 33 (i * 7 + 6) = nI t ∧ σ 78 (114 + 7 * i) = nI t ∧ ∀ p, p < P → σ 33 (i * 7 + p) = σ 78 (115 + 7 * i + p) ∧ lo F (σ 33 (i * 7 + p))
def TPe (σ : ST) (T : Nat) : Prop := T ≤ 900 ∧ σ 0 11 = nI T ∧ σ 77 8 = nI T ∧ ∀ k, k < 900 → ∃ b, b < 256 ∧ σ 1 k = sby b ∧ σ 80 k = nI b
def IMs (σ : ST) : Prop := ∀ i, i < 2 → (σ (57 + 10 * i) 2 = nI 0 ∧ σ 79 i = nI 0) ∨ (σ (57 + 10 * i) 2 = nI 1 ∧ σ 79 i = nI 1 ∧ ∃ W F P t, BK σ (58 + 10 * i) (64 + 10 * i) (198 * (i + 1)) W F P t)
def RWs (σ : ST) (μ : SL) (R : Nat → Option (Nat × Nat)) : Prop := (∀ j, j < 4 → RowIs σ μ j (R j)) ∧ MR σ μ R (fun j => μ (50 + 2 * j))
def INV (σ : ST) (μ : SL) (N : Nat) : Prop := ∃ (W F P t sz T k : Nat) (R : Nat → Option (Nat × Nat)), σ 77 0 = nI 0 ∧ BK σ 20 26 0 W F P t ∧ PSt σ W F P sz ∧ TPe σ T ∧ (σ 2 4 = σ 77 16 ∧ σ 2 5 = σ 77 17) ∧ RWs σ μ R ∧ IMs σ ∧ k ≤ N ∧ TI σ k
theorem BK.x {σ : ST} {W F P t : Nat} (h : BK σ 20 26 0 W F P t) : XV σ W F P t := ⟨h.1, h.2.1, h.2.2.1.1.1, h.2.2.1.1.2.1⟩
theorem BK.h {σ : ST} {W F P t : Nat} (h : BK σ 20 26 0 W F P t) : LBh (vX σ W F P t) := h.2.2.1
theorem BK.m {σ : ST} {W F P t : Nat} (h : BK σ 20 26 0 W F P t) (h0 : σ 77 0 = nI 0) : MV σ (vX σ W F P t) := MV_BM h0 h.2.2.1 h.2.2.2
/-- cells that may change with nothing said -/
def kI (c : Nat) : Prop := (29 ≤ c ∧ c ≤ 31) ∨ (34 ≤ c ∧ c ≤ 46) ∨ c = 77 ∨ (81 ≤ c ∧ c ≤ 95)
theorem BM_cg {σ s : ST} {o : Nat} {L : LD} {ln : Int32} (h : BM σ o L ln) (e : s 78 = σ 78) : BM s o L ln := by
  unfold BM
  rw [e]
  exact h
theorem BK_cg {σ s : ST} {l b o W F P t : Nat} (h : BK σ l b o W F P t) (el : ∀ i, i < 6 → s (l + i) = σ (l + i)) (eb : ∀ i, i < 2 → s (b + i) = σ (b + i)) (e : s 78 = σ 78) : BK s l b o W F P t := by
  have e0 : s l = σ l := el 0 (by omega)
  have b0 : s b = σ b := eb 0 (by omega)
  have ev : vB s l b W F P t = vB σ l b W F P t := by
    unfold vB
    rw [el 1 (by omega), el 2 (by omega), el 3 (by omega), el 4 (by omega), el 5 (by omega), e0, eb 1 (by omega)]
  unfold BK
  rw [ev, e0, b0]
  exact ⟨LV_of h.1 (fun q => by rw [e0]), h.2.1, h.2.2.1, BM_cg h.2.2.2 e⟩
theorem INV_cg {σ s : ST} {μ : SL} {N N' : Nat} (h : INV σ μ N) (e : ∀ c, ¬ kI c → s c = σ c) (e7 : ∀ q, q < 9 ∨ q = 16 ∨ q = 17 → s 77 q = σ 77 q) (hN : ∀ k, k ≤ N → TI σ k → ∃ k', k' ≤ N' ∧ TI s k') : INV s μ N' := by
  obtain ⟨W, F, P, t, sz, T, k, R, h0, hB, hP, hT, hF, hR, hI, hk, hTI⟩ := h
  obtain ⟨k', hk', hTI'⟩ := hN k hk hTI
  have e78 := e 78 (by unfold kI; omega)
  refine ⟨W, F, P, t, sz, T, k', R, by rw [e7 0 (by omega)]; exact h0, BK_cg hB (fun i hi => e _ (by unfold kI; omega)) (fun i hi => e _ (by unfold kI; omega)) e78, ?_, ?_, ?_, ?_, ?_, hk', hTI'⟩
  · unfold PSt XP
    rw [e 32 (by unfold kI; omega), e 33 (by unfold kI; omega), e78]; exact hP
  · unfold TPe
    rw [e 0 (by unfold kI; omega), e7 8 (by omega), e 1 (by unfold kI; omega), e 80 (by unfold kI; omega)]; exact hT
  · rw [e 2 (by unfold kI; omega), e7 16 (by omega), e7 17 (by omega)]; exact hF
  · refine ⟨fun j hj => ?_, fun j hj => ?_⟩
    · have := hR.1 j hj
      unfold RowIs at this ⊢
      rw [e (49 + 2 * j) (by unfold kI; omega)]; exact this
    · have := hR.2 j hj
      rw [e 96 (by unfold kI; omega), e 97 (by unfold kI; omega)]; exact this
  · intro i hi
    rw [e (57 + 10 * i) (by unfold kI; omega), e 79 (by unfold kI; omega)]
    rcases hI i hi with q | ⟨q1, q2, W, F, P, t, q3⟩
    · exact Or.inl q
    · exact Or.inr ⟨q1, q2, W, F, P, t, BK_cg q3 (fun j hj => e _ (by unfold kI; omega)) (fun j hj => e _ (by unfold kI; omega)) e78⟩
/-- the same call on both sides: the same answer, and both stand again as they should -/
def Pair (G : GT) (d : Nat) (M1 M2 : MT) (a : List Value) (σ : ST) (μ : SL) (N : Nat) : Prop := Fn G d M1 (.ref (G.b0 + 0) :: a) (sh G σ μ) (fun r h' => ∃ (v : Int32) (s1 : ST) (μ1 : SL), r = some (.int v) ∧ h' = sh G s1 μ1 ∧ Fn G d M2 (.ref (G.b0 + 77) :: a) (sh G s1 μ1) (fun r' h'' => r' = some (.int v) ∧ ∃ (s2 : ST) (μ2 : SL), h'' = sh G s2 μ2 ∧ INV s2 μ2 (N + 1)))
/-- of a call that answers a long -/
def PairJ (G : GT) (d : Nat) (M1 M2 : MT) (a : List Value) (σ : ST) (μ : SL) (N : Nat) : Prop := Fn G d M1 (.ref (G.b0 + 0) :: a) (sh G σ μ) (fun r h' => ∃ (v : Int64) (s1 : ST) (μ1 : SL), r = some (.long v) ∧ h' = sh G s1 μ1 ∧ Fn G d M2 (.ref (G.b0 + 77) :: a) (sh G s1 μ1) (fun r' h'' => r' = some (.long v) ∧ ∃ (s2 : ST) (μ2 : SL), h'' = sh G s2 μ2 ∧ INV s2 μ2 (N + 1)))
theorem INV_up {σ : ST} {μ : SL} {N : Nat} (h : INV σ μ N) : INV σ μ (N + 1) := INV_cg h (fun _ _ => rfl) (fun _ _ => rfl) (fun k hk ht => ⟨k, by omega, ht⟩)
theorem pr_R {G : GT} {d : Nat} {M1 M2 : MT} {a : List Value} {σ : ST} {μ : SL} {N : Nat} {v : Int32} (hI : INV σ μ N) (h1 : Fn G d M1 (.ref (G.b0 + 0) :: a) (sh G σ μ) (Ret (some (.int v)) (sh G σ μ))) (h2 : Fn G d M2 (.ref (G.b0 + 77) :: a) (sh G σ μ) (Ret (some (.int v)) (sh G σ μ))) : Pair G d M1 M2 a σ μ N := by
  refine Fn.mono h1 ?_
  rintro r g ⟨e1, e2⟩
  refine ⟨v, σ, μ, e1, e2, Fn.mono h2 ?_⟩
  rintro r' g' ⟨f1, f2⟩
  exact ⟨f1, σ, μ, f2, INV_up hI⟩
theorem pr_RJ {G : GT} {d : Nat} {M1 M2 : MT} {a : List Value} {σ : ST} {μ : SL} {N : Nat} {v : Int64} (hI : INV σ μ N) (h1 : Fn G d M1 (.ref (G.b0 + 0) :: a) (sh G σ μ) (Ret (some (.long v)) (sh G σ μ))) (h2 : Fn G d M2 (.ref (G.b0 + 77) :: a) (sh G σ μ) (Ret (some (.long v)) (sh G σ μ))) : PairJ G d M1 M2 a σ μ N := by
  refine Fn.mono h1 ?_
  rintro r g ⟨e1, e2⟩
  refine ⟨v, σ, μ, e1, e2, Fn.mono h2 ?_⟩
  rintro r' g' ⟨f1, f2⟩
  exact ⟨f1, σ, μ, f2, INV_up hI⟩

