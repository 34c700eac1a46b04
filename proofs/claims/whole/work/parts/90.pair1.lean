/-! ===== pairs of calls that change nothing ===== -/
theorem p_fact {G : GT} {d : Nat} {σ : ST} {μ : SL} {N : Nat} {x : Int32} (hI : INV σ μ N) : Pair G (d + 40) mX11_fact mX12_fact [.int x] σ μ N := by
  obtain ⟨W, F, P, t, sz, T, k, R, h0, hB, hP, hT, hF, hR, hM, hk, hTI⟩ := id hI
  exact pr_R hI (c_X_fact (d := d + 39) hB.x) (m_X_fact (d := d + 38) (hB.m h0))
theorem p_hints {G : GT} {d : Nat} {σ : ST} {μ : SL} {N : Nat} {x : Int32} (hI : INV σ μ N) : Pair G (d + 40) mX11_hints mX12_hints [.int x] σ μ N := by
  obtain ⟨W, F, P, t, sz, T, k, R, h0, hB, hP, hT, hF, hR, hM, hk, hTI⟩ := id hI
  exact pr_R hI (c_X_hints (d := d + 39) hB.x) (m_X_hints (d := d + 38) (hB.m h0))
theorem p_world {G : GT} {d : Nat} {σ : ST} {μ : SL} {N : Nat} {w x : Int32} (hI : INV σ μ N) : Pair G (d + 40) mX11_world mX12_world [.int w, .int x] σ μ N := by
  obtain ⟨W, F, P, t, sz, T, k, R, h0, hB, hP, hT, hF, hR, hM, hk, hTI⟩ := id hI
  exact pr_R hI (c_X_world (d := d + 39) hB.x) (m_X_world (d := d + 38) (hB.m h0))
theorem p_person {G : GT} {d : Nat} {σ : ST} {μ : SL} {N : Nat} {p x : Int32} (hI : INV σ μ N) : Pair G (d + 40) mX11_person mX12_person [.int p, .int x] σ μ N := by
  obtain ⟨W, F, P, t, sz, T, k, R, h0, hB, hP, hT, hF, hR, hM, hk, hTI⟩ := id hI
  exact pr_R hI (c_X_person (d := d + 37) hB.x) (m_X_person (d := d + 37) (hB.m h0))
theorem p_knows {G : GT} {d : Nat} {σ : ST} {μ : SL} {N : Nat} {p f : Int32} (hI : INV σ μ N) : Pair G (d + 40) mX11_knows mX12_knows [.int p, .int f] σ μ N := by
  obtain ⟨W, F, P, t, sz, T, k, R, h0, hB, hP, hT, hF, hR, hM, hk, hTI⟩ := id hI
  exact pr_R hI (c_X_knows (d := d + 37) hB.x) (m_X_knows (d := d + 37) (hB.m h0))
theorem p_cell {G : GT} {d : Nat} {σ : ST} {μ : SL} {N : Nat} {p w : Int32} (hI : INV σ μ N) : Pair G (d + 40) mX11_cell mX12_cell [.int p, .int w] σ μ N := by
  obtain ⟨W, F, P, t, sz, T, k, R, h0, hB, hP, hT, hF, hR, hM, hk, hTI⟩ := id hI
  exact pr_R hI (c_X_cell (d := d + 38) hB.x) (m_X_cell (d := d + 38) (hB.m h0))
theorem p_everyone {G : GT} {d : Nat} {σ : ST} {μ : SL} {N : Nat} {f : Int32} (hI : INV σ μ N) : Pair G (d + 40) mX11_everyone mX12_everyone [.int f] σ μ N := by
  obtain ⟨W, F, P, t, sz, T, k, R, h0, hB, hP, hT, hF, hR, hM, hk, hTI⟩ := id hI
  exact pr_R hI (c_X_everyone (d := d + 36) hB.x) (m_X_everyone (d := d + 36) (hB.m h0) hB.h.1)
theorem p_depth {G : GT} {d : Nat} {σ : ST} {μ : SL} {N : Nat} {f : Int32} (hI : INV σ μ N) : Pair G (d + 40) mX11_depth mX12_depth [.int f] σ μ N := by
  obtain ⟨W, F, P, t, sz, T, k, R, h0, hB, hP, hT, hF, hR, hM, hk, hTI⟩ := id hI
  exact pr_R hI (c_X_depth (d := d + 37) hB.x) (m_X_depth (d := d + 36) (hB.m h0) hB.h)
theorem p_common {G : GT} {d : Nat} {σ : ST} {μ : SL} {N : Nat} (hI : INV σ μ N) : Pair G (d + 40) mX11_common mX12_common [] σ μ N := by
  obtain ⟨W, F, P, t, sz, T, k, R, h0, hB, hP, hT, hF, hR, hM, hk, hTI⟩ := id hI
  exact pr_R hI (c_X_common (d := d + 36) hB.x) (m_X_common (d := d + 36) (hB.m h0) hB.h)
theorem p_reach {G : GT} {d : Nat} {σ : ST} {μ : SL} {N : Nat} {n : Int32} (hI : INV σ μ N) : Pair G (d + 40) mX11_reach mX12_reach [.int n] σ μ N := by
  obtain ⟨W, F, P, t, sz, T, k, R, h0, hB, hP, hT, hF, hR, hM, hk, hTI⟩ := id hI
  exact pr_R hI (c_X_reach (d := d + 36) hB.x) (m_X_reach (d := d + 38) (hB.m h0) hB.h.1)
theorem p_together {G : GT} {d : Nat} {σ : ST} {μ : SL} {N : Nat} {s : Int32} (hI : INV σ μ N) : Pair G (d + 40) mX11_together mX12_together [.int s] σ μ N := by
  obtain ⟨W, F, P, t, sz, T, k, R, h0, hB, hP, hT, hF, hR, hM, hk, hTI⟩ := id hI
  exact pr_R hI (c_X_together (d := d + 37) hB.x) (m_X_together (d := d + 37) (hB.m h0))
theorem p_witnesses {G : GT} {d : Nat} {σ : ST} {μ : SL} {N : Nat} (hI : INV σ μ N) : Pair G (d + 40) mX11_witnesses mX12_witnesses [] σ μ N := by
  obtain ⟨W, F, P, t, sz, T, k, R, h0, hB, hP, hT, hF, hR, hM, hk, hTI⟩ := id hI
  exact pr_R hI (c_X_witnesses (d := d + 37) hB.x) (m_X_witnesses (d := d + 37) (hB.m h0))
theorem p_parting {G : GT} {d : Nat} {σ : ST} {μ : SL} {N : Nat} {p q : Int32} (hI : INV σ μ N) : Pair G (d + 40) mX11_parting mX12_parting [.int p, .int q] σ μ N := by
  obtain ⟨W, F, P, t, sz, T, k, R, h0, hB, hP, hT, hF, hR, hM, hk, hTI⟩ := id hI
  exact pr_R hI (c_X_parting (d := d + 37) hB.x) (m_X_parting (d := d + 37) (hB.m h0))
theorem p_measure {G : GT} {d : Nat} {σ : ST} {μ : SL} {N : Nat} {p m : Int32} (hI : INV σ μ N) : Pair G (d + 40) mX11_measure mX12_measure [.int p, .int m] σ μ N := by
  obtain ⟨W, F, P, t, sz, T, k, R, h0, hB, hP, hT, hF, hR, hM, hk, hTI⟩ := id hI
  exact pr_R hI (c_X_measure (d := d + 36) hB.x) (m_X_measure (d := d + 36) (hB.m h0))
theorem p_least {G : GT} {d : Nat} {σ : ST} {μ : SL} {N : Nat} {m : Int32} (hI : INV σ μ N) : Pair G (d + 40) mX11_least mX12_least [.int m] σ μ N := by
  obtain ⟨W, F, P, t, sz, T, k, R, h0, hB, hP, hT, hF, hR, hM, hk, hTI⟩ := id hI
  exact pr_R hI (c_X_least (d := d + 36) hB.x) (m_X_least (d := d + 36) (hB.m h0) hB.h.1)
theorem p_seats {G : GT} {d : Nat} {σ : ST} {μ : SL} {N : Nat} {p m : Int32} (hI : INV σ μ N) : Pair G (d + 40) mX11_seats mX12_seats [.int p, .int m] σ μ N := by
  obtain ⟨W, F, P, t, sz, T, k, R, h0, hB, hP, hT, hF, hR, hM, hk, hTI⟩ := id hI
  exact pr_R hI (c_X_seats (d := d + 36) hB.x) (m_X_seats (d := d + 36) (hB.m h0) hB.h.1)
theorem p_differ {G : GT} {d : Nat} {σ : ST} {μ : SL} {N : Nat} {m n : Int32} (hI : INV σ μ N) : Pair G (d + 40) mX11_differ mX12_differ [.int m, .int n] σ μ N := by
  obtain ⟨W, F, P, t, sz, T, k, R, h0, hB, hP, hT, hF, hR, hM, hk, hTI⟩ := id hI
  exact pr_R hI (c_X_differ (d := d + 36) hB.x) (m_X_differ (d := d + 36) (hB.m h0))
theorem p_appeals {G : GT} {d : Nat} {σ : ST} {μ : SL} {N : Nat} {p m x : Int32} (hI : INV σ μ N) : Pair G (d + 40) mX11_appeals mX12_appeals [.int p, .int m, .int x] σ μ N := by
  obtain ⟨W, F, P, t, sz, T, k, R, h0, hB, hP, hT, hF, hR, hM, hk, hTI⟩ := id hI
  exact pr_R hI (c_X_appeals (d := d + 35) hB.x) (m_X_appeals (d := d + 36) (hB.m h0))
theorem p_right {G : GT} {d : Nat} {σ : ST} {μ : SL} {N : Nat} {p : Int32} (hI : INV σ μ N) : Pair G (d + 40) mX11_right mX12_right [.int p] σ μ N := by
  obtain ⟨W, F, P, t, sz, T, k, R, h0, hB, hP, hT, hF, hR, hM, hk, hTI⟩ := id hI
  exact pr_R hI (c_X_right (d := d + 37) hB.x) (m_X_right (d := d + 37) (hB.m h0))
theorem p_justice {G : GT} {d : Nat} {σ : ST} {μ : SL} {N : Nat} {m : Int32} (hI : INV σ μ N) : Pair G (d + 40) mX11_justice mX12_justice [.int m] σ μ N := by
  obtain ⟨W, F, P, t, sz, T, k, R, h0, hB, hP, hT, hF, hR, hM, hk, hTI⟩ := id hI
  exact pr_R hI (c_X_justice (d := d + 35) hB.x) (m_X_justice (d := d + 35) (hB.m h0) hB.h.1)
theorem p_bestLaw {G : GT} {d : Nat} {σ : ST} {μ : SL} {N : Nat} (hI : INV σ μ N) : Pair G (d + 40) mX11_bestLaw mX12_bestLaw [] σ μ N := by
  obtain ⟨W, F, P, t, sz, T, k, R, h0, hB, hP, hT, hF, hR, hM, hk, hTI⟩ := id hI
  exact pr_R hI (c_X_bestLaw (d := d + 35) hB.x) (m_X_bestLaw (d := d + 35) (hB.m h0) hB.h.1)
theorem p_brief {G : GT} {d : Nat} {σ : ST} {μ : SL} {N : Nat} {p : Int32} (hI : INV σ μ N) : Pair G (d + 40) mX11_brief mX12_brief [.int p] σ μ N := by
  obtain ⟨W, F, P, t, sz, T, k, R, h0, hB, hP, hT, hF, hR, hM, hk, hTI⟩ := id hI
  exact pr_R hI (c_X_brief (d := d + 37) hB.x) (m_X_brief (d := d + 38) (hB.m h0))
theorem p_questions {G : GT} {d : Nat} {σ : ST} {μ : SL} {N : Nat} {p n : Int32} (hI : INV σ μ N) : Pair G (d + 40) mX11_questions mX12_questions [.int p, .int n] σ μ N := by
  obtain ⟨W, F, P, t, sz, T, k, R, h0, hB, hP, hT, hF, hR, hM, hk, hTI⟩ := id hI
  exact pr_R hI (c_X_questions (d := d + 32) hB.x) (m_X_questions (d := d + 32) (hB.m h0))
theorem p_fault {G : GT} {d : Nat} {σ : ST} {μ : SL} {N : Nat} {x : Int32} (hI : INV σ μ N) : Pair G (d + 40) mX11_fault mX12_fault [.int x] σ μ N := by
  obtain ⟨W, F, P, t, sz, T, k, R, h0, hB, hP, hT, hF, hR, hM, hk, hTI⟩ := id hI
  refine pr_R hI c_fault ?_
  rw [hF.1, hF.2]
  exact m_X_fault (hB.m h0)
theorem p_fitting {G : GT} {d : Nat} {σ : ST} {μ : SL} {N : Nat} {row : Int32} (hI : INV σ μ N) : Pair G (d + 40) mX11_fitting mX12_fitting [.int row] σ μ N := by
  obtain ⟨W, F, P, t, sz, T, k, R, h0, hB, hP, hT, hF, hR, hM, hk, hTI⟩ := id hI
  exact pr_R hI (c_X_fitting (d := d + 37) hB.x hR.1) (m_X_fitting (d := d + 37) (hB.m h0) hR.2)
theorem p_sure {G : GT} {d : Nat} {σ : ST} {μ : SL} {N : Nat} {row : Int32} (hI : INV σ μ N) : Pair G (d + 40) mX11_sure mX12_sure [.int row] σ μ N := by
  obtain ⟨W, F, P, t, sz, T, k, R, h0, hB, hP, hT, hF, hR, hM, hk, hTI⟩ := id hI
  exact pr_R hI (c_X_sure (d := d + 37) hB.x hR.1) (m_X_sure (d := d + 37) (hB.m h0) hR.2)
theorem p_count {G : GT} {d : Nat} {σ : ST} {μ : SL} {N : Nat} {x : Int32} (hI : INV σ μ N) : Pair G (d + 40) mX11_count mX12_count [.int x] σ μ N := by
  obtain ⟨W, F, P, t, sz, T, k, R, h0, hB, hP, hT, hF, hR, hM, hk, hTI⟩ := id hI
  have hK := hB.h.1
  refine pr_R hI (c_X_count (d := d + 38) hB.x hP.1 hT.2.1 (fun p hp => ?_) ?_) (m_X_count (d := d + 38) (hB.m h0) hP.2.1 hT.2.2.1 hB.2.2.2.1.1)
  · have hp6 : P ≤ 6 := hK.2.2.2.2.2.2.2.2.2
    exact lo_mono (hK.2.2.2.2.2.2.1 p (by omega)) (by show P ≤ 16; omega)
  · exact lo_mono hK.2.2.2.1 hK.2.2.2.2.2.2.2.1
/-! calls that use a room of their own -/
theorem MV_cg {σ s : ST} {L : LD} (h : MV σ L) (e0 : s 77 0 = σ 77 0) (e : s 78 = σ 78) : MV s L := by
  unfold MV
  rw [e0, e]
  exact h
theorem pr_K {G : GT} {d : Nat} {M1 M2 : MT} {a : List Value} {σ : ST} {μ : SL} {N : Nat} {v : Int32} {K K2 : Nat → Prop} (hI : INV σ μ N) (hK : ∀ c, K c → (29 ≤ c ∧ c ≤ 31) ∨ (34 ≤ c ∧ c ≤ 44)) (hK2 : ∀ c, K2 c → 88 ≤ c ∧ c ≤ 95) (h1 : Fn G d M1 (.ref (G.b0 + 0) :: a) (sh G σ μ) (PK G μ σ K v)) (h2 : ∀ s : ST, s 77 = σ 77 → s 78 = σ 78 → (∀ c, 77 ≤ c → s c = σ c) → Fn G d M2 (.ref (G.b0 + 77) :: a) (sh G s μ) (PFK G μ K2 s v)) : Pair G d M1 M2 a σ μ N := by
  refine Fn.mono h1 ?_
  rintro r g ⟨e1, s, e2, e3⟩
  have far : ∀ c, 77 ≤ c → s c = σ c := fun c hc => e3 c (fun z => by have := hK c z; omega)
  refine ⟨_, s, μ, e1, e2, Fn.mono (h2 s (far 77 (by omega)) (far 78 (by omega)) far) ?_⟩
  rintro r' g' ⟨f1, s2, f2, f3, f4⟩
  refine ⟨f1, s2, μ, f2, INV_cg hI (fun c hc => ?_) (fun q hq => ?_) (fun k hk ht => ⟨k, by omega, ?_⟩)⟩
  · unfold kI at hc
    rw [f3 c (fun z => by have := hK2 c z; omega) (by omega) (by omega) (by omega)]
    exact e3 c (fun z => by have := hK c z; omega)
  · rw [f4 q (by omega) (by omega), far 77 (by omega)]
  · have g45 : s2 45 = σ 45 := by
      rw [f3 45 (fun z => by have := hK2 45 z; omega) (by omega) (by omega) (by omega)]
      exact e3 45 (fun z => by have := hK 45 z; omega)
    have g46 : s2 46 = σ 46 := by
      rw [f3 46 (fun z => by have := hK2 46 z; omega) (by omega) (by omega) (by omega)]
      exact e3 46 (fun z => by have := hK 46 z; omega)
    unfold TI
    rw [g45, g46]
    exact ht
def k0 (_ : Nat) : Prop := False
theorem PFm_K {G : GT} {μ : SL} {σ : ST} {v : Int32} {r : Option Value} {h : HT} (x : PFm G μ σ v r h) : PFK G μ k0 σ v r h := by
  obtain ⟨a, s, b, c, e⟩ := x
  exact ⟨a, s, b, fun c' _ p q r => c c' p q r, e⟩
theorem p_calm {G : GT} {d : Nat} {σ : ST} {μ : SL} {N : Nat} (hI : INV σ μ N) : Pair G (d + 40) mX11_calm mX12_calm [] σ μ N := by
  obtain ⟨W, F, P, t, sz, T, k, R, h0, hB, hP, hT, hF, hR, hM, hk, hTI⟩ := id hI
  exact pr_K (K2 := k0) hI (fun c hc => by unfold kS at hc; omega) (fun c hc => hc.elim) (c_X_calm (d := d + 37) hB.x) (fun s e7 e8 _ => Fn.mono (m_X_calm (d := d + 38) (MV_cg (hB.m h0) (by rw [e7]) e8) hB.h.1) (fun r h x => PFm_K x))
theorem p_leastIn {G : GT} {d : Nat} {σ : ST} {μ : SL} {N : Nat} {m n : Int32} (hI : INV σ μ N) : Pair G (d + 40) mX11_leastIn mX12_leastIn [.int m, .int n] σ μ N := by
  obtain ⟨W, F, P, t, sz, T, k, R, h0, hB, hP, hT, hF, hR, hM, hk, hTI⟩ := id hI
  exact pr_K (K2 := k0) hI (fun c hc => by unfold kS at hc; omega) (fun c hc => hc.elim) (c_X_leastIn (d := d + 36) hB.x) (fun s e7 e8 _ => Fn.mono (m_X_leastIn (d := d + 36) (MV_cg (hB.m h0) (by rw [e7]) e8) hB.h.1) (fun r h x => PFm_K x))
theorem p_news {G : GT} {d : Nat} {σ : ST} {μ : SL} {N : Nat} {p f : Int32} (hI : INV σ μ N) : Pair G (d + 40) mX11_news mX12_news [.int p, .int f] σ μ N := by
  obtain ⟨W, F, P, t, sz, T, k, R, h0, hB, hP, hT, hF, hR, hM, hk, hTI⟩ := id hI
  exact pr_K (K2 := k0) hI (fun c hc => by unfold kS at hc; omega) (fun c hc => hc.elim) (c_X_news (d := d + 36) hB.x) (fun s e7 e8 _ => Fn.mono (m_X_news (d := d + 37) (MV_cg (hB.m h0) (by rw [e7]) e8) hB.h.1) (fun r h x => PFm_K x))
theorem p_latest {G : GT} {d : Nat} {σ : ST} {μ : SL} {N : Nat} {f : Int32} (hI : INV σ μ N) : Pair G (d + 40) mX11_latest mX12_latest [.int f] σ μ N := by
  obtain ⟨W, F, P, t, sz, T, k, R, h0, hB, hP, hT, hF, hR, hM, hk, hTI⟩ := id hI
  exact pr_K (K2 := k0) hI (fun c hc => by unfold kS at hc; omega) (fun c hc => hc.elim) (c_X_latest (d := d + 36) hB.x) (fun s e7 e8 _ => Fn.mono (m_X_latest (d := d + 37) (MV_cg (hB.m h0) (by rw [e7]) e8) hB.h.1) (fun r h x => PFm_K x))
theorem p_inform {G : GT} {d : Nat} {σ : ST} {μ : SL} {N : Nat} {want m : Int32} (hI : INV σ μ N) : Pair G (d + 40) mX11_inform mX12_inform [.int want, .int m] σ μ N := by
  obtain ⟨W, F, P, t, sz, T, k, R, h0, hB, hP, hT, hF, hR, hM, hk, hTI⟩ := id hI
  exact pr_K (K2 := k0) hI (fun c hc => by unfold kS at hc; omega) (fun c hc => hc.elim) (c_X_inform (d := d + 36) hB.x) (fun s e7 e8 _ => Fn.mono (m_X_inform (d := d + 36) (MV_cg (hB.m h0) (by rw [e7]) e8) hB.h.1) (fun r h x => PFm_K x))
theorem p_parties {G : GT} {d : Nat} {σ : ST} {μ : SL} {N : Nat} {p q m x : Int32} (hI : INV σ μ N) : Pair G (d + 40) mX11_parties mX12_parties [.int p, .int q, .int m, .int x] σ μ N := by
  obtain ⟨W, F, P, t, sz, T, k, R, h0, hB, hP, hT, hF, hR, hM, hk, hTI⟩ := id hI
  exact pr_K (K2 := k94) hI (fun c hc => by unfold kP at hc; omega) (fun c hc => by unfold k94 at hc; omega) (c_X_parties (d := d + 36) hB.x hB.h.1.2.2.2.2.1 hB.h.1.2.2.1) (fun s e7 e8 _ => m_X_parties (d := d + 36) (MV_cg (hB.m h0) (by rw [e7]) e8) hB.h.1)
theorem p_shown {G : GT} {d : Nat} {σ : ST} {μ : SL} {N : Nat} {p x : Int32} (hI : INV σ μ N) : Pair G (d + 40) mX11_shown mX12_shown [.int p, .int x] σ μ N := by
  obtain ⟨W, F, P, t, sz, T, k, R, h0, hB, hP, hT, hF, hR, hM, hk, hTI⟩ := id hI
  exact pr_K (K2 := k8893) hI (fun c hc => by unfold kH at hc; omega) (fun c hc => by unfold k8893 at hc; omega) (c_X_shown (d := d + 36) hB.x hB.h.1.2.2.2.2.1) (fun s e7 e8 _ => m_X_shown (d := d + 36) (MV_cg (hB.m h0) (by rw [e7]) e8) hB.h.1)
theorem p_trial {G : GT} {d : Nat} {σ : ST} {μ : SL} {N : Nat} {p x : Int32} (hI : INV σ μ N) (hN : N + 1 < 2 ^ 20) : Pair G (d + 40) mX11_trial mX12_trial [.int p, .int x] σ μ N := by
  obtain ⟨W, F, P, t, sz, T, k, R, h0, hB, hP, hT, hF, hR, hM, hk, hTI⟩ := id hI
  refine Fn.mono (c_X_trial (d := d + 21) hB.x hTI (by omega)) ?_
  rintro r g ⟨e1, s, e2, e3, k', hk', ht'⟩
  have far : ∀ c, 77 ≤ c → s c = σ c := fun c hc => e3 c (fun z => by unfold kT at z; omega)
  refine ⟨_, s, μ, e1, e2, Fn.mono (m_X_trial (d := d + 21) (MV_cg (hB.m h0) (by rw [far 77 (by omega)]) (far 78 (by omega)))) ?_⟩
  rintro r' g' ⟨f1, s2, f2, f3, f4⟩
  refine ⟨f1, s2, μ, f2, INV_cg hI (fun c hc => ?_) (fun q hq => ?_) (fun _ _ _ => ⟨k', by omega, ?_⟩)⟩
  · unfold kI at hc
    rw [f3 c (fun z => by unfold k95 at z; omega) (by omega) (by omega) (by omega)]
    exact e3 c (fun z => by unfold kT at z; omega)
  · rw [f4 q (by omega) (by omega), far 77 (by omega)]
  · have g45 : s2 45 = s 45 := f3 45 (fun z => by unfold k95 at z; omega) (by omega) (by omega) (by omega)
    have g46 : s2 46 = s 46 := f3 46 (fun z => by unfold k95 at z; omega) (by omega) (by omega) (by omega)
    unfold TI
    rw [g45, g46]
    exact ht'

