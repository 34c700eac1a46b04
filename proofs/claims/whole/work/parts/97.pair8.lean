/-! ===== pairs: feed ===== -/
theorem and255 (y : Int32) : ∃ b : Nat, b < 256 ∧ y &&& nI 255 = nI b ∧ y.toInt8.toInt32 = sby b := by
  refine ⟨(y.toBitVec.toNat % 256), Nat.mod_lt _ (by omega), ?_, ?_⟩
  · apply Int32.toBitVec_inj.mp
    rw [Int32.toBitVec_and]
    apply BitVec.eq_of_toNat_eq
    rw [BitVec.toNat_and, nI_nat (n := 255) (by omega), nI_nat (n := y.toBitVec.toNat % 256) (by omega), show (255 : Nat) = 2 ^ 8 - 1 from rfl, Nat.and_two_pow_sub_one_eq_mod]
  · unfold sby
    congr 1
    apply Int8.toBitVec_inj.mp
    rw [Int32.toBitVec_toInt8, Int32.toBitVec_toInt8]
    rw [BitVec.signExtend_eq_setWidth_of_le _ (by omega), BitVec.signExtend_eq_setWidth_of_le _ (by omega)]
    apply BitVec.eq_of_toNat_eq
    rw [BitVec.toNat_setWidth, BitVec.toNat_setWidth, nI_nat (n := y.toBitVec.toNat % 256) (by omega)]
    omega
theorem fd_b {a b c d e : Int32} {k : Nat} (hk : k < 20) : ∃ x : Nat, x < 256 ∧ byt (fdv a b c d e k) (k % 4) = sby x ∧ fdb a b c d e k = nI x := by
  obtain ⟨x, h1, h2, h3⟩ := and255 (fdv a b c d e k >>> (nI (24 - 8 * (k % 4)) &&& 31))
  exact ⟨x, h1, h3, h2⟩
theorem feed_1 {σ : ST} {T q : Nat} {a b c d e : Int32} : feedS σ T a b c d e 1 q = if T ≤ q ∧ q < T + 20 then byt (fdv a b c d e (q - T)) ((q - T) % 4) else σ 1 q := by
  unfold feedS
  simp only [putS, true_and]
  by_cases h : T ≤ q ∧ q < T + 20
  · rw [if_pos h]
    obtain ⟨h1, h2⟩ := h
    unfold fdv
    by_cases c5 : T + 16 ≤ q
    · rw [if_pos (by omega), if_neg (by omega), if_neg (by omega), if_neg (by omega), if_neg (by omega)]
      congr 1; omega
    · rw [if_neg (by omega), if_neg (by omega)]
      by_cases c4 : T + 12 ≤ q
      · rw [if_pos (by omega), if_neg (by omega), if_neg (by omega), if_neg (by omega), if_pos (by omega)]
        congr 1; omega
      · rw [if_neg (by omega), if_neg (by omega)]
        by_cases c3 : T + 8 ≤ q
        · rw [if_pos (by omega), if_neg (by omega), if_neg (by omega), if_pos (by omega)]
          congr 1; omega
        · rw [if_neg (by omega), if_neg (by omega)]
          by_cases c2 : T + 4 ≤ q
          · rw [if_pos (by omega), if_neg (by omega), if_pos (by omega)]
            congr 1; omega
          · rw [if_neg (by omega), if_neg (by omega), if_pos (by omega), if_pos (by omega)]
            congr 1; omega
  · rw [if_neg h, if_neg (by omega), if_neg (by omega), if_neg (by omega), if_neg (by omega), if_neg (by omega), if_neg (by omega), if_neg (by omega), if_neg (by omega), if_neg (by omega), if_neg (by omega)]
theorem feed_c {σ : ST} {T c : Nat} {a b cc d e : Int32} (h0 : c ≠ 0) (h1 : c ≠ 1) : feedS σ T a b cc d e c = σ c := by
  funext q
  unfold feedS putS
  simp [h0, h1]
theorem feed_0 {σ : ST} {T : Nat} {a b c d e : Int32} : feedS σ T a b c d e 0 11 = nI (T + 20) := by
  unfold feedS putS
  rw [if_neg (by omega), if_pos ⟨rfl, rfl⟩]
theorem p_feed {G : GT} {d : Nat} {σ : ST} {μ : SL} {N : Nat} {a b c d1 e : Int32} (hI : INV σ μ N) : Pair G (d + 40) mX11_feed mX12_feed [.int a, .int b, .int c, .int d1, .int e] σ μ N := by
  obtain ⟨W, F, P, t, sz, T, k, R, h0, hB, hP, hT, hF, hR, hM, hk, hTI⟩ := id hI
  obtain ⟨hT9, t0, t7, tb⟩ := hT
  have hc := c_X_feed (G := G) (d := d + 39) (μ := μ) (a := a) (b := b) (c := c) (d1 := d1) (e := e) t0 hT9
  by_cases h : T + 20 ≤ 900
  · rw [if_pos h, if_pos h] at hc
    have q1 : ∀ c', c' ≠ 0 → c' ≠ 1 → feedS σ T a b c d1 e c' = σ c' := fun c' => feed_c
    have hm := m_X_feed (G := G) (d := d + 40) (μ := μ) (a := a) (b := b) (c := c) (d1 := d1) (e := e) (T := T) (MV_cg (hB.m h0) (by rw [q1 77 (by omega) (by omega)]) (q1 78 (by omega) (by omega))) (by rw [q1 77 (by omega) (by omega)]; exact t7) hT9
    rw [if_pos h] at hm
    refine Fn.mono hc ?_
    rintro r g ⟨e1, e2⟩
    refine ⟨_, _, μ, e1, e2, Fn.mono hm ?_⟩
    rintro r' g' ⟨f1, s2, f2, f3, f4, f5, f6, f7⟩
    have all : ∀ c', c' ≠ 0 → c' ≠ 1 → c' ≠ 80 → c' ≠ 77 → s2 c' = σ c' := fun c' a1 a2 a3 a4 => (f3 c' a3 a4).trans (q1 c' a1 a2)
    have e78 := all 78 (by omega) (by omega) (by omega) (by omega)
    refine ⟨f1, s2, μ, f2, W, F, P, t, sz, T + 20, k, R, ?_, BK_cg hB (fun i hi => all _ (by omega) (by omega) (by omega) (by omega)) (fun i hi => all _ (by omega) (by omega) (by omega) (by omega)) e78, ?_, ⟨h, ?_, f5, fun q hq => ?_⟩, ?_, ?_, ?_, by omega, ?_⟩
    · rw [f4 0 (by omega), q1 77 (by omega) (by omega)]; exact h0
    · unfold PSt XP
      rw [all 32 (by omega) (by omega) (by omega) (by omega), all 33 (by omega) (by omega) (by omega) (by omega), e78]; exact hP
    · rw [f3 0 (by omega) (by omega)]; exact feed_0
    · rw [f3 1 (by omega) (by omega), feed_1]
      by_cases z : T ≤ q ∧ q < T + 20
      · rw [if_pos z]
        obtain ⟨x, x1, x2, x3⟩ := fd_b (a := a) (b := b) (c := c) (d := d1) (e := e) (k := q - T) (by omega)
        refine ⟨x, x1, x2, ?_⟩
        have := f7 (q - T) (by omega)
        rw [show T + (q - T) = q by omega] at this
        rw [this]; exact x3
      · rw [if_neg z, f6 q (by omega), q1 80 (by omega) (by omega)]; exact tb q hq
    · rw [all 2 (by omega) (by omega) (by omega) (by omega), f4 16 (by omega), f4 17 (by omega), q1 77 (by omega) (by omega)]; exact hF
    · exact RWs_cg hR (fun c' _ _ => all c' (by omega) (by omega) (by omega) (by omega)) (all 96 (by omega) (by omega) (by omega) (by omega)) (all 97 (by omega) (by omega) (by omega) (by omega))
    · exact IMs_cg hM (fun c' _ _ => all c' (by omega) (by omega) (by omega) (by omega)) (all 79 (by omega) (by omega) (by omega) (by omega)) (fun q _ => by rw [e78])
    · exact TI_cg hTI (all 45 (by omega) (by omega) (by omega) (by omega)) (all 46 (by omega) (by omega) (by omega) (by omega))
  · rw [if_neg h, if_neg h] at hc
    have hm := m_X_feed (G := G) (d := d + 40) (μ := μ) (a := a) (b := b) (c := c) (d1 := d1) (e := e) (T := T) (hB.m h0) t7 hT9
    rw [if_neg h] at hm
    exact pr_R hI hc hm

