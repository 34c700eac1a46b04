/-! ===== pairs: tell, ask, isTrue, undo ===== -/
theorem keepS_c {σ : ST} {sz c : Nat} (h2 : c ≠ 32) (h3 : c ≠ 33) : keepS sz σ c = σ c := by
  funext q
  unfold keepS
  rw [if_neg (fun z => h2 z.1)]
  split
  · rw [if_neg (fun z => h3 z.1), if_neg (fun z => h3 z.1)]
  · rw [if_neg (fun z => h3 z.1), if_neg (fun z => h3 z.1), if_neg (fun z => h3 z.1)]
theorem k_27 {σ : ST} {sz j : Nat} {x : Int32} : (∀ c, c ≠ 26 → c ≠ 27 → ¬ kS8 c → c ≠ 32 → c ≠ 33 → pt (keepS sz σ) 27 j x c = σ c) ∧ pt (keepS sz σ) 27 j x 32 1 = keepS sz σ 32 1 ∧ (∀ q, pt (keepS sz σ) 27 j x 33 q = keepS sz σ 33 q) ∧ pt (keepS sz σ) 27 j x 26 2 = σ 26 2 ∧ ∀ q, pt (keepS sz σ) 27 j x 27 q = if q = j then x else σ 27 q := by
  refine ⟨fun c _ h27 _ h32 h33 => by rw [pt_r h27, keepS_c h32 h33], pt_a (by omega), fun q => pt_a (by omega), by rw [pt_a (by omega), keepS_c (by omega) (by omega)], fun q => ?_⟩
  by_cases e : q = j
  · subst e
    rw [pt_s, if_pos rfl]
  · rw [pt_j e, if_neg e, keepS_c (by omega) (by omega)]
theorem p_tell {G : GT} {d : Nat} {σ : ST} {μ : SL} {N : Nat} {p f : Int32} (hI : INV σ μ N) : Pair G (d + 40) mX11_tell mX12_tell [.int p, .int f] σ μ N := by
  obtain ⟨W, F, P, t, sz, T, k, R, h0, hB, hP, hT, hF, hR, hM, hk, hTI⟩ := id hI
  have hc := c_X_tell (G := G) (d := d + 37) (μ := μ) (p := p) (f := f) hB.x hP.1
  have hK := hB.h.1
  have hf8 : F ≤ 8 := hK.2.2.2.2.2.2.2.2.1
  have hp6 : P ≤ 6 := hK.2.2.2.2.2.2.2.2.2
  by_cases c : (inR p P && inR f F) = true
  · rw [if_pos c, if_pos c] at hc
    have c' := c
    rw [Bool.and_eq_true] at c'
    obtain ⟨i, hi, rfl⟩ := inR_of (by omega) c'.1
    obtain ⟨g, hg, rfl⟩ := inR_of (by omega) c'.2
    rw [ix_nI (by omega), ix_nI (by omega)] at hc
    obtain ⟨q1, q2, q3, q4, q5⟩ := k_27 (σ := σ) (sz := sz) (j := i) (x := σ 27 i ||| (nI 1 <<< (nI g &&& 31)))
    have hm := m_X_tell (G := G) (d := d + 37) (μ := μ) (p := nI i) (f := nI g) (MV_cg (hB.m h0) (by rw [q1 77 (by omega) (by omega) (by unfold kS8; omega) (by omega) (by omega)]) (q1 78 (by omega) (by omega) (by unfold kS8; omega) (by omega) (by omega))) (by rw [q1 78 (by omega) (by omega) (by unfold kS8; omega) (by omega) (by omega)]; exact hP.2.1) hP.1.2
    rw [if_pos c, ix_nI (by omega), ix_nI (by omega)] at hm
    refine Fn.mono hc ?_
    rintro r h ⟨e1, e2⟩
    refine ⟨_, _, μ, e1, e2, Fn.mono hm ?_⟩
    rintro r' h' ⟨f1, s2, f2, f3⟩
    refine ⟨f1, s2, μ, f2, INV_step h0 hB hP hT hF hR hM hk hTI q1 q2 q3 (q4.trans hB.2.1) (fun q _ => q5 q) ⟨hK.1, hK.2.1⟩ (fun q hq => ?_) f3 rfl (fun _ _ => rfl)⟩
    by_cases e : q = i
    · rw [if_pos e]; exact lo_or (hK.2.2.2.2.1 i hi) (lo_bit' hg (by omega))
    · rw [if_neg e]; exact hK.2.2.2.2.1 q hq
  · rw [if_neg c, if_neg c] at hc
    have hm := m_X_tell (G := G) (d := d + 37) (μ := μ) (p := p) (f := f) (hB.m h0) hP.2.1 hP.1.2
    rw [if_neg c] at hm
    exact pr_R hI hc hm
theorem p_ask {G : GT} {d : Nat} {σ : ST} {μ : SL} {N : Nat} {p f : Int32} (hI : INV σ μ N) : Pair G (d + 40) mX11_ask mX12_ask [.int p, .int f] σ μ N := by
  obtain ⟨W, F, P, t, sz, T, k, R, h0, hB, hP, hT, hF, hR, hM, hk, hTI⟩ := id hI
  have hc := c_X_ask (G := G) (d := d + 37) (μ := μ) (p := p) (f := f) hB.x hP.1
  have hK := hB.h.1
  have hf8 : F ≤ 8 := hK.2.2.2.2.2.2.2.2.1
  have hp6 : P ≤ 6 := hK.2.2.2.2.2.2.2.2.2
  by_cases c : (inR p P && inR f F) = true
  · rw [if_pos c, if_pos c] at hc
    have c' := c
    rw [Bool.and_eq_true] at c'
    obtain ⟨i, hi, rfl⟩ := inR_of (by omega) c'.1
    obtain ⟨g, hg, rfl⟩ := inR_of (by omega) c'.2
    rw [ix_nI (by omega), ix_nI (by omega)] at hc
    obtain ⟨q1, q2, q3, q4, q5⟩ := k_27 (σ := σ) (sz := sz) (j := i) (x := σ 27 i ||| σ 24 g)
    have hm := m_X_ask (G := G) (d := d + 35) (μ := μ) (p := nI i) (f := nI g) (MV_cg (hB.m h0) (by rw [q1 77 (by omega) (by omega) (by unfold kS8; omega) (by omega) (by omega)]) (q1 78 (by omega) (by omega) (by unfold kS8; omega) (by omega) (by omega))) (by rw [q1 78 (by omega) (by omega) (by unfold kS8; omega) (by omega) (by omega)]; exact hP.2.1) hP.1.2
    rw [if_pos c, ix_nI (by omega), ix_nI (by omega)] at hm
    refine Fn.mono hc ?_
    rintro r h ⟨e1, e2⟩
    refine ⟨_, _, μ, e1, e2, Fn.mono hm ?_⟩
    rintro r' h' ⟨f1, s2, f2, f3⟩
    refine ⟨f1, s2, μ, f2, INV_step h0 hB hP hT hF hR hM hk hTI q1 q2 q3 (q4.trans hB.2.1) (fun q _ => q5 q) ⟨hK.1, hK.2.1⟩ (fun q hq => ?_) f3 rfl (fun _ _ => rfl)⟩
    by_cases e : q = i
    · rw [if_pos e]; exact lo_or (hK.2.2.2.2.1 i hi) (hK.2.2.2.2.2.1 g (by omega))
    · rw [if_neg e]; exact hK.2.2.2.2.1 q hq
  · rw [if_neg c, if_neg c] at hc
    have hm := m_X_ask (G := G) (d := d + 35) (μ := μ) (p := p) (f := f) (hB.m h0) hP.2.1 hP.1.2
    rw [if_neg c] at hm
    exact pr_R hI hc hm
theorem p_isTrue {G : GT} {d : Nat} {σ : ST} {μ : SL} {N : Nat} {w : Int32} (hI : INV σ μ N) : Pair G (d + 40) mX11_isTrue mX12_isTrue [.int w] σ μ N := by
  obtain ⟨W, F, P, t, sz, T, k, R, h0, hB, hP, hT, hF, hR, hM, hk, hTI⟩ := id hI
  have hc := c_X_isTrue (G := G) (d := d + 38) (μ := μ) (w := w) hB.x hP.1
  have hK := hB.h.1
  have hw16 : W ≤ 16 := hK.2.2.2.2.2.2.2.1
  by_cases c : inR w W = true
  · rw [if_pos c, if_pos c] at hc
    obtain ⟨i, hi, rfl⟩ := inR_of (by omega) c
    have q1 : ∀ c, c ≠ 26 → c ≠ 32 → c ≠ 33 → pt (keepS sz σ) 26 2 (nI i) c = σ c := fun c h6 h2 h3 => by rw [pt_r h6, keepS_c h2 h3]
    have hm := m_X_isTrue (G := G) (d := d + 38) (μ := μ) (w := nI i) (MV_cg (hB.m h0) (by rw [q1 77 (by omega) (by omega) (by omega)]) (q1 78 (by omega) (by omega) (by omega))) (by rw [q1 78 (by omega) (by omega) (by omega)]; exact hP.2.1) hP.1.2
    rw [if_pos c, ix_nI (by omega)] at hm
    refine Fn.mono hc ?_
    rintro r h ⟨e1, e2⟩
    refine ⟨_, _, μ, e1, e2, Fn.mono hm ?_⟩
    rintro r' h' ⟨f1, s2, f2, f3⟩
    exact ⟨f1, s2, μ, f2, INV_step h0 hB hP hT hF hR hM hk hTI (fun c h6 _ _ h2 h3 => q1 c h6 h2 h3) (pt_a (by omega)) (fun q => pt_a (by omega)) (pt_s _ _ _ _) (fun q _ => by rw [q1 27 (by omega) (by omega) (by omega)]) ⟨fun _ => hi, fun z => by omega⟩ hK.2.2.2.2.1 f3 rfl (fun _ _ => rfl)⟩
  · rw [if_neg c, if_neg c] at hc
    have hm := m_X_isTrue (G := G) (d := d + 38) (μ := μ) (w := w) (hB.m h0) hP.2.1 hP.1.2
    rw [if_neg c] at hm
    exact pr_R hI hc hm

