/-! ===== KnowsLeast: judge, who asked, feed, count ===== -/
/-- deeds done to the end, from what all were told: told, how often someone knew -/
def mDn (L : LD) (x : Int32) (told : Nat → Int32) : Nat → Int32 :=
  if x = -1 then mNext L.road told L.P
  else if ix x < 100 then fun q => if q = ix x % 100 / 10 then told (ix x % 100 / 10) ||| (nI 1 <<< (nI (ix x % 10) &&& 31)) else told q
  else fun q => if q = ix x % 100 / 10 then told (ix x % 100 / 10) ||| L.hint (ix x % 10) else told q
def mDnK (L : LD) (x : Int32) (told : Nat → Int32) : Bool :=
  if x = -1 then false else if ix x < 100 then false else mKn (L.hold (ix x % 10)) (mPoss L.hold L.W (told (ix x % 100 / 10)) L.t L.F)
def mDd (L : LD) (v : Nat → Int64) (told : Nat → Int32) : Nat → (Nat → Int32)
  | 0 => told
  | i + 1 => mDn L (v i).toInt32 (mDd L v told i)
def mDdK (L : LD) (v : Nat → Int64) (told : Nat → Int32) : Nat → Nat
  | 0 => 0
  | i + 1 => mDdK L v told i + if mDnK L (v i).toInt32 (mDd L v told i) then 1 else 0
theorem dnS_told (W F P t a b : Nat) (x : Int32) (σ : ST) (L : LD) (hL1 : L.road = σ (a + 5)) (hL2 : L.P = P) (hL3 : L.hint = σ (a + 4)) : dnS a b P x σ (b + 1) = mDn L x (σ (b + 1)) := by
  unfold dnS mDn askS
  split
  · rw [dayS_told, hL1, hL2]
  · split
    · funext q
      simp only [pt_at, true_and]
    · funext q
      simp only [pt_at, true_and, hL3]
theorem ddS_told {a b P : Nat} (v : Nat → Int64) (σ : ST) (L : LD) (hab : a + 5 < b ∨ b + 2 < a) (hL1 : L.road = σ (a + 5)) (hL2 : L.P = P) (hL3 : L.hint = σ (a + 4)) : ∀ i, ddS a b P v σ i (b + 1) = mDd L v (σ (b + 1)) i
  | 0 => rfl
  | i + 1 => by
    have e5 : ddS a b P v σ i (a + 5) = σ (a + 5) := by funext q; exact ddS_fr (by omega) (by omega) i
    have e4 : ddS a b P v σ i (a + 4) = σ (a + 4) := by funext q; exact ddS_fr (by omega) (by omega) i
    rw [ddS, mDd, dnS_told 0 0 P 0 a b _ _ L (by rw [e5]; exact hL1) hL2 (by rw [e4]; exact hL3), ddS_told v σ L hab hL1 hL2 hL3 i]
theorem ddK_eq {a b W F P t : Nat} (v : Nat → Int64) (σ : ST) (L : LD) (hab : a + 5 < b ∨ b + 2 < a) (hL1 : L.road = σ (a + 5)) (hL2 : L.P = P) (hL3 : L.hint = σ (a + 4)) (hL4 : L.hold = σ (a + 3)) (hL5 : L.W = W) (hL6 : L.F = F) (hL7 : L.t = t) : ∀ i, ddK a b W F P t v σ i = mDdK L v (σ (b + 1)) i
  | 0 => rfl
  | i + 1 => by
    have e3 : ddS a b P v σ i (a + 3) = σ (a + 3) := by funext q; exact ddS_fr (by omega) (by omega) i
    have e : dnK a b W F t (v i).toInt32 (ddS a b P v σ i) = mDnK L (v i).toInt32 (mDd L v (σ (b + 1)) i) := by
      unfold dnK mDnK mAskK
      rw [e3, ddS_told v σ L hab hL1 hL2 hL3 i, hL4, hL5, hL6, hL7]
    rw [ddK, mDdK, e, ddK_eq v σ L hab hL1 hL2 hL3 hL4 hL5 hL6 hL7 i]
theorem mDn_cg {L : LD} {x : Int32} {m : Nat} (hm : L.P ≤ m) (hx : x = -1 ∨ ix x % 100 / 10 < m) {y z : Nat → Int32} (h : ∀ q, q < m → y q = z q) : ∀ q, q < m → mDn L x y q = mDn L x z q := by
  intro q hq
  unfold mDn
  split
  · exact mNext_cg hm h q hq
  · rename_i hx1
    have h2 := hx.resolve_left hx1
    split
    · simp only []
      rw [h q hq, h _ h2]
    · simp only []
      rw [h q hq, h _ h2]
theorem okD_ix {F P : Nat} {x : Int32} (h : okD F P x) : x = -1 ∨ ix x % 100 / 10 < P := by
  rcases h with h | ⟨n, rfl, h1, h2, h3⟩
  · exact Or.inl h
  · right; rw [ix_nI (by omega)]; exact h2
theorem mDd_cg {L : LD} {v : Nat → Int64} {m : Nat} (hm : L.P ≤ m) {y z : Nat → Int32} (h : ∀ q, q < m → y q = z q) : ∀ i, (∀ k, k < i → mDeed L.F L.P (v k) = true) → ∀ q, q < m → mDd L v y i q = mDd L v z i q
  | 0, _ => h
  | i + 1, hv => mDn_cg hm ((okD_ix (okD_of (hv i (by omega)))).imp id (fun q => by omega)) (mDd_cg hm h i (fun k hk => hv k (by omega)))
theorem mDnK_cg {L : LD} {x : Int32} {m : Nat} (hx : x = -1 ∨ ix x % 100 / 10 < m) {y z : Nat → Int32} (h : ∀ q, q < m → y q = z q) : mDnK L x y = mDnK L x z := by
  unfold mDnK
  split
  · rfl
  · rename_i hx1
    split
    · rfl
    · rw [h _ (hx.resolve_left hx1)]
theorem mDdK_cg {L : LD} {v : Nat → Int64} {m : Nat} (hm : L.P ≤ m) {y z : Nat → Int32} (h : ∀ q, q < m → y q = z q) : ∀ i, (∀ k, k < i → mDeed L.F L.P (v k) = true) → mDdK L v y i = mDdK L v z i
  | 0, _ => rfl
  | i + 1, hv => by
    rw [mDdK, mDdK, mDdK_cg hm h i (fun k hk => hv k (by omega)), mDnK_cg ((okD_ix (okD_of (hv i (by omega)))).imp id (fun q => by omega)) (mDd_cg hm h i (fun k hk => hv k (by omega)))]
/-- judge(): of a row with so many numbers v -/
def oJudge (L : LD) (R : Nat → Option (Nat × Nat)) (v : Nat → Nat → Int64) (row what : Int32) : Int32 :=
  if inR row 4 && inR what 4 then (match R (ix row) with
    | none => -6
    | some q =>
      if ix what = 0 then (if mAble L.F L.P (v (ix row)) q.1 < q.1 then nI (mAble L.F L.P (v (ix row)) q.1) else -1)
      else if ix what = 1 then nI (mAble L.F L.P (v (ix row)) q.1)
      else if ix what = 2 then lst L 0 (mDd L (v (ix row)) L.told (mAble L.F L.P (v (ix row)) q.1)) L.t
      else nI (mDdK L (v (ix row)) L.told (mAble L.F L.P (v (ix row)) q.1))) else -2
theorem c_X_judge {G : GT} {d : Nat} {σ : ST} {μ : SL} {W F P t : Nat} {row x : Int32} {R : Nat → Option (Nat × Nat)} (hX : XV σ W F P t) (hR : ∀ j, j < 4 → RowIs σ μ j (R j)) : Fn G (d + 5) mX11_judge [.ref (G.b0 + 0), .int row, .int x] (sh G σ μ) (PK G μ σ kS (oJudge (vX σ W F P t) R (fun j => μ (50 + 2 * j)) row x)) := by
  have ht := hX.t32
  obtain ⟨⟨hW, hF, hP, hW16, hF8, hP6⟩, -⟩ := id hX
  refine fn_of (ls := [some (.ref (G.b0 + 0)), some (.int row), some (.int x), none, none]) (by decide +kernel) (Nat.le_of_ble_eq_true rfl) 2 rfl ?_
  refine b_iload_n dX11_judge_0 rfl ?_
  refine b_callSr [.int row] dX11_judge_1 kX11_isRow lX11_200 c_isRow rfl rfl (Nat.le_of_ble_eq_true rfl) ?_
  refine b_if_eq 16 dX11_judge_4 (by decide) (fun c1 => ?_) (fun c1 => ?_)
  · skip
    refine b_bipush (v := -2) dX11_judge_16 (by decide) ?_
    exact b_iret dX11_judge_18 ⟨by simp [oJudge, (bI_0 _).mp c1], σ, rfl, fun c _ => rfl⟩
  · skip
    have c2 := (bI_1 _).mp c1
    obtain ⟨j, hj, rfl⟩ := inR_of (by omega) c2
    have hix := ix_nI (show j < 2 ^ 31 by omega)
    refine b_iload_n dX11_judge_7 rfl ?_
    refine b_if_lt 16 dX11_judge_8 (by decide) (fun c3 => ?_) (fun c3 => ?_)
    · skip
      refine b_bipush (v := -2) dX11_judge_16 (by decide) ?_
      exact b_iret dX11_judge_18 ⟨by simp [oJudge, inR_neg c3], σ, rfl, fun c _ => rfl⟩
    · skip
      refine b_iload_n dX11_judge_11 rfl ?_
      refine b_iconst (v := nI 3) dX11_judge_12 (by decide) ?_
      refine b_icmp_le 19 dX11_judge_13 (by decide) (fun c4 => ?_) (fun c4 => ?_)
      · skip
        obtain ⟨k, hk, rfl, c5⟩ := inR_le (k := 3) (by omega) c3 c4
        have hkx := ix_nI (show k < 2 ^ 31 by omega)
        refine b_aload_n dX11_judge_19 rfl ?_
        refine g_get dX11_judge_20 fX11_67 a0 rfl ?_
        refine b_iload_n dX11_judge_23 rfl ?_
        refine g_rowld (j := j) dX11_judge_24 (by omega) ?_
        refine g_callV [] dX11_judge_25 kX6_isMissing lX11_203 (rwj (j := j) (by omega)).1 rfl rfl (c_isMissing (rwj hj)) rfl rfl (Nat.le_of_ble_eq_true rfl) ?_
        have hRj := hR j hj
        cases hRe : R j with
        | none =>
          rw [hRe] at hRj
          have hRj : σ (49 + 2 * j) 1 = -1 := hRj
          rw [hRj, mMiss_m]
          refine b_if_eq_f 34 dX11_judge_28 (by decide) (by decide) ?_
          refine b_bipush (v := -6) dX11_judge_31 (by decide) ?_
          exact b_iret dX11_judge_33 ⟨by simp only [oJudge, c2, c5, hix, hRe, Bool.and_self, if_true], σ, rfl, fun c _ => rfl⟩
        | some q =>
          obtain ⟨len, sort⟩ := q
          rw [hRe] at hRj
          obtain ⟨hl, hs, hl40, hs4⟩ := hRj
          have hl : σ (49 + 2 * j) 1 = nI len := hl
          have hl40 : len ≤ 40 := hl40
          rw [hl, mMiss_n (by omega)]
          refine b_if_eq_t 34 dX11_judge_28 (by decide) (by decide) ?_
          refine b_aload_n dX11_judge_34 rfl ?_
          refine g_get dX11_judge_35 fX11_23 a0 rfl ?_
          refine b_aload_n dX11_judge_38 rfl ?_
          refine g_get dX11_judge_39 fX11_67 a0 rfl ?_
          refine b_iload_n dX11_judge_42 rfl ?_
          refine g_rowld (j := j) dX11_judge_43 (by omega) ?_
          have hab := mAbleF_le F P (μ (49 + 2 * j + 1)) len 0
          refine g_callV [.ref (G.b0 + ((49 + 2 * j)))] dX11_judge_44 kX2_deedsAhead lX11_207 a20 rfl rfl (c_deedsAhead ln20 (rwj hj) hX.1 hl hl40) rfl rfl (Nat.le_of_ble_eq_true rfl) ?_
          refine b_istore_n dX11_judge_47 (by decide) rfl ?_
          refine b_iload_n dX11_judge_48 rfl ?_
          generalize hn : mAble F P (μ (49 + 2 * j + 1)) len = n
          have hv9 : μ (49 + 2 * j + 1) = μ (50 + 2 * j) := by rw [show 49 + 2 * j + 1 = 50 + 2 * j by omega]
          have hn' : mAble F P (μ (50 + 2 * j)) len = n := by rw [← hn, hv9]
          have hnl : n ≤ len := by rw [← hn]; show mAbleF _ _ _ _ _ ≤ _; omega
          refine b_if_ne 71 dX11_judge_49 (by decide) (fun c6 => ?_) (fun c6 => ?_)
          · skip
            have k0 : ¬ k = 0 := fun z => c6 (by rw [z]; rfl)
            refine b_iload_n dX11_judge_71 rfl ?_
            refine b_iconst (v := nI 1) dX11_judge_72 (by decide) ?_
            refine b_icmp_ne 78 dX11_judge_73 (by decide) (fun c7 => ?_) (fun c7 => ?_)
            · skip
              have k1 : ¬ k = 1 := fun z => c7 (by rw [z])
              refine b_aload_n dX11_judge_78 rfl ?_
              refine g_get dX11_judge_79 fX11_34 a0 rfl ?_
              refine b_aload_n dX11_judge_82 rfl ?_
              refine g_get dX11_judge_83 fX11_30 a0 rfl ?_
              refine g_callV [.ref (G.b0 + 26)] dX11_judge_86 kX8_become lX11_100 a29 rfl rfl (c_Sbecome sa29 sa26 (by omega)) rfl rfl (Nat.le_of_ble_eq_true rfl) ?_
              refine b_aload_n dX11_judge_89 rfl ?_
              refine g_get dX11_judge_90 fX11_34 a0 rfl ?_
              refine b_aload_n dX11_judge_93 rfl ?_
              refine g_get dX11_judge_94 fX11_23 a0 rfl ?_
              refine b_aload_n dX11_judge_97 rfl ?_
              refine g_get dX11_judge_98 fX11_67 a0 rfl ?_
              refine b_iload_n dX11_judge_101 rfl ?_
              refine g_rowld (j := j) dX11_judge_102 (by omega) ?_
              refine b_iload_n dX11_judge_103 rfl ?_
              have hL2 : LV (bcmS σ 26 29) 20 W F P := LV_of hX.1 (fun q => bcmS_fr (by omega) (by omega))
              have ht2 : bcmS σ 26 29 29 2 = nI t := by simp [bcmS, hX.2.1]
              have hv : ∀ i, i < n → mDeed F P (μ (49 + 2 * j + 1) i) = true := fun i hi => mAbleF_ok F P _ len 0 i (by omega) (by show i < mAble F P (μ (49 + 2 * j + 1)) len; omega)
              refine g_callV [.ref (G.b0 + 20), .ref (G.b0 + ((49 + 2 * j))), .int (nI n)] dX11_judge_104 kX8_doDeeds lX11_214 a29 rfl rfl (c_doDeeds (t := t) (len := len) sa29 ln20 (rwj hj) hL2 (by omega) (by omega) ht2 (by omega) ((bcmS_fr (by omega) (by omega)).trans hl) hl40 hnl hv) rfl rfl (Nat.le_of_ble_eq_true rfl) ?_
              have hfr : ∀ c, ¬ kS c → ddS 20 29 P (μ (49 + 2 * j + 1)) (bcmS σ 26 29) n c = σ c := fun c hc => by
                have hc' : ¬ (29 ≤ c ∧ c ≤ 31) := hc
                rw [show ddS 20 29 P (μ (49 + 2 * j + 1)) (bcmS σ 26 29) n c = bcmS σ 26 29 c from funext (fun q => ddS_fr (by omega) (by omega) n)]
                exact bcm_fr hc
              have hroad : (vX σ W F P t).road = bcmS σ 26 29 (20 + 5) := (bcm_fr (c := 25) (by unfold kS; omega)).symm
              have hhint : (vX σ W F P t).hint = bcmS σ 26 29 (20 + 4) := (bcm_fr (c := 24) (by unfold kS; omega)).symm
              have hhold : (vX σ W F P t).hold = bcmS σ 26 29 (20 + 3) := (bcm_fr (c := 23) (by unfold kS; omega)).symm
              have hcg : ∀ q, q < 6 → bcmS σ 26 29 (29 + 1) q = σ 27 q := fun q hq => bcm_told σ hq
              refine b_istore dX11_judge_107 (by decide) rfl ?_
              refine b_iload_n dX11_judge_109 rfl ?_
              refine b_iconst (v := nI 2) dX11_judge_110 (by decide) ?_
              refine b_icmp_ne 139 dX11_judge_111 (by decide) (fun c8 => ?_) (fun c8 => ?_)
              · skip
                have k2 : ¬ k = 2 := fun z => c8 (by rw [z])
                refine b_iload dX11_judge_139 rfl ?_
                refine b_iret dX11_judge_141 ⟨?_, _, rfl, hfr⟩
                simp only [oJudge, c2, c5, hix, hkx, hRe, Bool.and_self, if_true, k0, k1, k2, if_false, hn']
                rw [ddK_eq _ _ (vX σ W F P t) (by omega) hroad rfl hhint hhold rfl rfl rfl, mDdK_cg (m := 6) hP6 hcg n hv, hv9]
              · skip
                have k2 : k = 2 := by rw [nI_eq (by omega) (by omega)] at c8; exact c8
                refine b_aload_n dX11_judge_114 rfl ?_
                refine g_get dX11_judge_115 fX11_23 a0 rfl ?_
                refine b_iconst (v := nI 0) dX11_judge_118 (by decide) ?_
                refine b_aload_n dX11_judge_119 rfl ?_
                refine g_get dX11_judge_120 fX11_34 a0 rfl ?_
                refine g_get dX11_judge_123 fX11_142 a29 rfl ?_
                refine b_aload_n dX11_judge_126 rfl ?_
                refine g_get dX11_judge_127 fX11_34 a0 rfl ?_
                refine g_geti (x := nI t) dX11_judge_130 fX11_174 a29 rfl ((ddS_fr (by omega) (by omega) n).trans ht2) ?_
                have hL3 : LV (ddS 20 29 P (μ (49 + 2 * j + 1)) (bcmS σ 26 29) n) 20 W F P := LV_of hX.1 (fun q => congrFun (hfr 20 (by unfold kS; omega)) q)
                refine g_callV [.int (nI 0), .ref (G.b0 + 30), .int (nI t)] dX11_judge_133 kX2_leastBy lX11_218 a20 rfl rfl (c_leastBy (m := 0) ln20 a30 hL3 (by omega) (by omega)) rfl rfl (Nat.le_of_ble_eq_true rfl) ?_
                refine b_goto 141 dX11_judge_136 (by decide) ?_
                refine b_iret dX11_judge_141 ⟨?_, _, rfl, hfr⟩
                simp only [oJudge, c2, c5, hix, hkx, hRe, Bool.and_self, if_true, k0, k1, k2, if_false, hn']
                show some (Value.int (mLeast (ddS 20 29 P (μ (49 + 2 * j + 1)) (bcmS σ 26 29) n 23) (ddS 20 29 P (μ (49 + 2 * j + 1)) (bcmS σ 26 29) n 22) (ddS 20 29 P (μ (49 + 2 * j + 1)) (bcmS σ 26 29) n 20 5) W F P 0 (ddS 20 29 P (μ (49 + 2 * j + 1)) (bcmS σ 26 29) n (29 + 1)) t)) = some (Value.int (mLeast (σ 23) (σ 22) (σ 20 5) W F P 0 (mDd (vX σ W F P t) (μ (50 + 2 * j)) (σ 27) n) t))
                rw [hfr 23 (by unfold kS; omega), hfr 22 (by unfold kS; omega), hfr 20 (by unfold kS; omega), ddS_told _ _ (vX σ W F P t) (by omega) hroad rfl hhint n]
                rw [mLeast_cg (fun q hq => mDd_cg (L := vX σ W F P t) (m := 6) hP6 hcg n hv q (by omega)), hv9]
            · skip
              have k1 : k = 1 := by rw [nI_eq (by omega) (by omega)] at c7; exact c7
              subst k1
              refine b_iload_n dX11_judge_76 rfl ?_
              exact b_iret dX11_judge_77 ⟨by simp only [oJudge, c2, c5, hix, hkx, hRe, Bool.and_self, if_true, k0, if_false, hn'], σ, rfl, fun c _ => rfl⟩
          · skip
            have k0 : k = 0 := by rw [← nI_0, nI_eq (by omega) (by omega)] at c6; exact c6
            subst k0
            refine b_iload_n dX11_judge_52 rfl ?_
            refine b_aload_n dX11_judge_53 rfl ?_
            refine g_get dX11_judge_54 fX11_67 a0 rfl ?_
            refine b_iload_n dX11_judge_57 rfl ?_
            refine g_rowld (j := j) dX11_judge_58 (by omega) ?_
            refine g_geti (x := nI len) dX11_judge_59 fX11_211 (rwj (j := j) (by omega)).1 rfl hl ?_
            refine b_icmp_ge 69 dX11_judge_62 (by decide) (fun c7 => ?_) (fun c7 => ?_)
            · skip
              rw [nI_leI (by omega) (by omega)] at c7
              refine b_iconst (v := -1) dX11_judge_69 (by decide) ?_
              exact b_iret dX11_judge_70 ⟨by simp only [oJudge, c2, c5, hix, hkx, hRe, Bool.and_self, if_true, hn', show ¬ n < len by omega, if_false], σ, rfl, fun c _ => rfl⟩
            · skip
              rw [nI_leI (by omega) (by omega)] at c7
              refine b_iload_n dX11_judge_65 rfl ?_
              refine b_goto 70 dX11_judge_66 (by decide) ?_
              exact b_iret dX11_judge_70 ⟨by simp only [oJudge, c2, c5, hix, hkx, hRe, Bool.and_self, if_true, hn', show n < len by omega], σ, rfl, fun c _ => rfl⟩
      · skip
        refine b_bipush (v := -2) dX11_judge_16 (by decide) ?_
        exact b_iret dX11_judge_18 ⟨by simp [oJudge, inR_gt (k := 3) (by omega) c4], σ, rfl, fun c _ => rfl⟩
/-! who asked -/
/-- why a row can't have been asked; 0 -/
def askBad (F : Nat) (v : Nat → Int64) : Nat → Bool
  | 0 => false
  | n + 1 => askBad F v n || !(decide (0 ≤ v n) && decide (v n < lN F))
def oNoRow (L : LD) (R : Nat → Option (Nat × Nat)) (v : Nat → Nat → Int64) (row : Int32) : Int32 :=
  if inR row 4 then (match R (ix row) with
    | none => -6
    | some q => if q.1 < 1 ∨ 8 < q.1 then -4 else if askBad L.F (v (ix row)) q.1 then -3 else if L.W = 0 then -5 else nI 0) else -2
theorem c_refusedAsked {G : GT} {d : Nat} {σ : ST} {μ : SL} {W F P t : Nat} {row : Int32} {R : Nat → Option (Nat × Nat)} (hX : XV σ W F P t) (hR : ∀ j, j < 4 → RowIs σ μ j (R j)) : Fn G (d + 1) mX11_refusedAsked [.ref (G.b0 + 0), .int row] (sh G σ μ) (Ret (some (.int (oNoRow (vX σ W F P t) R (fun j => μ (50 + 2 * j)) row))) (sh G σ μ)) := by
  obtain ⟨⟨hW, hF, hP, hW16, hF8, hP6⟩, -⟩ := id hX
  refine fn_of (ls := [some (.ref (G.b0 + 0)), some (.int row), none, none, none, none]) (by decide +kernel) (Nat.le_of_ble_eq_true rfl) 4 rfl ?_
  refine b_iload_n dX11_refusedAsked_0 rfl ?_
  refine b_callSr [.int row] dX11_refusedAsked_1 kX11_isRow lX11_200 c_isRow rfl rfl (Nat.le_of_ble_eq_true rfl) ?_
  refine b_if_ne 10 dX11_refusedAsked_4 (by decide) (fun c1 => ?_) (fun c1 => ?_)
  · skip
    have c2 := (bI_1 _).mp c1
    obtain ⟨j, hj, rfl⟩ := inR_of (by omega) c2
    have hix := ix_nI (show j < 2 ^ 31 by omega)
    refine b_aload_n dX11_refusedAsked_10 rfl ?_
    refine g_get dX11_refusedAsked_11 fX11_67 a0 rfl ?_
    refine b_iload_n dX11_refusedAsked_14 rfl ?_
    refine g_rowld (j := j) dX11_refusedAsked_15 (by omega) ?_
    refine g_callV [] dX11_refusedAsked_16 kX6_isMissing lX11_203 (rwj (j := j) (by omega)).1 rfl rfl (c_isMissing (rwj hj)) rfl rfl (Nat.le_of_ble_eq_true rfl) ?_
    have hRj := hR j hj
    cases hRe : R j with
    | none =>
      rw [hRe] at hRj
      have hRj : σ (49 + 2 * j) 1 = -1 := hRj
      rw [hRj, mMiss_m]
      refine b_if_eq_f 25 dX11_refusedAsked_19 (by decide) (by decide) ?_
      refine b_bipush (v := -6) dX11_refusedAsked_22 (by decide) ?_
      exact b_iret dX11_refusedAsked_24 ⟨by simp only [oNoRow, c2, hix, hRe, if_true], rfl⟩
    | some q =>
      obtain ⟨len, sort⟩ := q
      rw [hRe] at hRj
      obtain ⟨hl, hs, hl40, hs4⟩ := hRj
      have hl : σ (49 + 2 * j) 1 = nI len := hl
      have hl40 : len ≤ 40 := hl40
      rw [hl, mMiss_n (by omega)]
      refine b_if_eq_t 25 dX11_refusedAsked_19 (by decide) (by decide) ?_
      refine b_aload_n dX11_refusedAsked_25 rfl ?_
      refine g_get dX11_refusedAsked_26 fX11_67 a0 rfl ?_
      refine b_iload_n dX11_refusedAsked_29 rfl ?_
      refine g_rowld (j := j) dX11_refusedAsked_30 (by omega) ?_
      refine g_geti (x := nI len) dX11_refusedAsked_31 fX11_211 (rwj (j := j) (by omega)).1 rfl hl ?_
      refine b_istore_n dX11_refusedAsked_34 (by decide) rfl ?_
      refine b_iload_n dX11_refusedAsked_35 rfl ?_
      refine b_iconst (v := nI 1) dX11_refusedAsked_36 (by decide) ?_
      refine b_icmp_lt 46 dX11_refusedAsked_37 (by decide) (fun c3 => ?_) (fun c3 => ?_)
      · skip
        rw [nI_ltI (by omega) (by omega)] at c3
        refine b_bipush (v := -4) dX11_refusedAsked_46 (by decide) ?_
        exact b_iret dX11_refusedAsked_48 ⟨by simp only [oNoRow, c2, hix, hRe, if_true, c3, true_or], rfl⟩
      · skip
        rw [nI_ltI (by omega) (by omega)] at c3
        refine b_iload_n dX11_refusedAsked_40 rfl ?_
        refine b_bipush (v := nI 8) dX11_refusedAsked_41 (by decide) ?_
        refine b_icmp_le 49 dX11_refusedAsked_43 (by decide) (fun c4 => ?_) (fun c4 => ?_)
        · skip
          rw [nI_leI (by omega) (by omega)] at c4
          have hE : oNoRow (vX σ W F P t) R (fun j => μ (50 + 2 * j)) (nI j) = if askBad F (μ (49 + 2 * j + 1)) len then -3 else if W = 0 then -5 else nI 0 := by
            rw [show 49 + 2 * j + 1 = 50 + 2 * j by omega]
            simp only [oNoRow, c2, hix, hRe, if_true, show ¬ (len < 1 ∨ 8 < len) by omega, if_false]
          refine b_iconst (v := nI 0) dX11_refusedAsked_49 (by decide) ?_
          refine b_istore_n dX11_refusedAsked_50 (by decide) rfl ?_
          have lp : ∀ (n i : Nat) (z : Option Value), i + n = len → askBad F (μ (49 + 2 * j + 1)) i = false → BB G RX11 cX11_refusedAsked 6 (some .int) (d + 1) (QM G (Ret (some (.int (oNoRow (vX σ W F P t) R (fun j => μ (50 + 2 * j)) (nI j)))) (sh G σ μ))) 51 [some (.ref (G.b0 + 0)), some (.int (nI j)), some (.int (nI len)), some (.int (nI i)), z, none] [] (sh G σ μ) := by
            intro n
            induction n with
            | zero =>
              intro i z hi hb
              refine b_iload_n dX11_refusedAsked_51 rfl ?_
              refine b_iload_n dX11_refusedAsked_52 rfl ?_
              refine b_icmp_ge_t 99 dX11_refusedAsked_53 (by decide) (nI_le (by omega) (by omega)) ?_
              rw [show i = len by omega] at hb
              refine b_aload_n dX11_refusedAsked_99 rfl ?_
              refine g_get dX11_refusedAsked_100 fX11_23 a0 rfl ?_
              refine g_geti (x := nI W) dX11_refusedAsked_103 fX11_165 a20 rfl hW ?_
              refine b_if_ne 114 dX11_refusedAsked_106 (by decide) (fun c5 => ?_) (fun c5 => ?_)
              · skip
                have h0 : ¬ W = 0 := fun z => c5 (by rw [z]; rfl)
                refine b_iconst (v := nI 0) dX11_refusedAsked_114 (by decide) ?_
                exact b_iret dX11_refusedAsked_115 ⟨by rw [hE, hb]; simp [h0], rfl⟩
              · skip
                have h0 : W = 0 := by rw [← nI_0, nI_eq (by omega) (by omega)] at c5; exact c5
                refine b_bipush (v := -5) dX11_refusedAsked_109 (by decide) ?_
                refine b_goto 115 dX11_refusedAsked_111 (by decide) ?_
                exact b_iret dX11_refusedAsked_115 ⟨by rw [hE, hb]; simp [h0], rfl⟩
            | succ n ih =>
              intro i z hi hb
              have hbad : ∀ m i, i ≤ m → askBad F (μ (49 + 2 * j + 1)) i = true → askBad F (μ (49 + 2 * j + 1)) m = true := by
                intro m
                induction m with
                | zero => intro i h1 h2; rw [show i = 0 by omega] at h2; exact h2
                | succ m ihm =>
                  intro i h1 h2
                  rcases Nat.lt_or_ge i (m + 1) with q | q
                  · rw [askBad, ihm i (by omega) h2, Bool.true_or]
                  · rw [show m + 1 = i by omega]; exact h2
              refine b_iload_n dX11_refusedAsked_51 rfl ?_
              refine b_iload_n dX11_refusedAsked_52 rfl ?_
              refine b_icmp_ge_f 99 dX11_refusedAsked_53 (by decide) (nI_ge (by omega) (by omega)) ?_
              refine b_aload_n dX11_refusedAsked_56 rfl ?_
              refine g_get dX11_refusedAsked_57 fX11_67 a0 rfl ?_
              refine b_iload_n dX11_refusedAsked_60 rfl ?_
              refine g_rowld (j := j) dX11_refusedAsked_61 (by omega) ?_
              refine g_get dX11_refusedAsked_62 fX11_309 (rwj (j := j) (by omega)).1 rfl ?_
              refine b_iload_n dX11_refusedAsked_65 rfl ?_
              refine g_lald dX11_refusedAsked_66 (rwj (j := j) (by omega)).2 rfl (by omega) ?_
              refine b_lstore dX11_refusedAsked_67 (by decide) rfl ?_
              refine b_lload dX11_refusedAsked_69 rfl ?_
              refine b_lconst (v := 0) dX11_refusedAsked_71 (by decide) ?_
              refine b_lcmp dX11_refusedAsked_72 ?_
              refine b_if_lt 90 dX11_refusedAsked_73 (by decide) (fun c5 => ?_) (fun c5 => ?_)
              · skip
                have h1 := (lg_cmp_lt _ _).mp c5
                have h2 : askBad F (μ (49 + 2 * j + 1)) (i + 1) = true := by
                  rw [askBad, decide_eq_false (Int64.not_le.mpr h1)]; simp
                refine b_bipush (v := -3) dX11_refusedAsked_90 (by decide) ?_
                exact b_iret dX11_refusedAsked_92 ⟨by rw [hE, hbad len (i + 1) (by omega) h2]; rfl, rfl⟩
              · skip
                have h1 : ¬ μ (49 + 2 * j + 1) i < 0 := fun z => c5 ((lg_cmp_lt _ _).mpr z)
                refine b_lload dX11_refusedAsked_76 rfl ?_
                refine b_aload_n dX11_refusedAsked_78 rfl ?_
                refine g_get dX11_refusedAsked_79 fX11_23 a0 rfl ?_
                refine g_geti (x := nI F) dX11_refusedAsked_82 fX11_168 a20 rfl hF ?_
                refine b_i2l dX11_refusedAsked_85 ?_
                refine b_lcmp dX11_refusedAsked_86 ?_
                refine b_if_lt 93 dX11_refusedAsked_87 (by decide) (fun c6 => ?_) (fun c6 => ?_)
                · skip
                  have h2 := (lg_cmp_lt _ _).mp c6
                  rw [nI_l (by omega)] at h2
                  refine b_iinc dX11_refusedAsked_93 rfl (nI_1 _) (by decide) rfl ?_
                  refine b_goto 51 dX11_refusedAsked_96 (by decide) ?_
                  exact ih (i + 1) _ (by omega) (by rw [askBad, hb, decide_eq_true (Int64.not_lt.mp h1), decide_eq_true h2]; rfl)
                · skip
                  have h2 : ¬ μ (49 + 2 * j + 1) i < lN F := fun z => c6 ((lg_cmp_lt _ _).mpr (by rw [nI_l (by omega)]; exact z))
                  have h3 : askBad F (μ (49 + 2 * j + 1)) (i + 1) = true := by
                    rw [askBad, decide_eq_false h2]; simp
                  refine b_bipush (v := -3) dX11_refusedAsked_90 (by decide) ?_
                  exact b_iret dX11_refusedAsked_92 ⟨by rw [hE, hbad len (i + 1) (by omega) h3]; rfl, rfl⟩
          exact lp len 0 _ (by omega) rfl
        · skip
          rw [nI_leI (by omega) (by omega)] at c4
          refine b_bipush (v := -4) dX11_refusedAsked_46 (by decide) ?_
          exact b_iret dX11_refusedAsked_48 ⟨by simp only [oNoRow, c2, hix, hRe, if_true, show 8 < len by omega, or_true], rfl⟩
  · skip
    refine b_bipush (v := -2) dX11_refusedAsked_7 (by decide) ?_
    exact b_iret dX11_refusedAsked_9 ⟨by simp [oNoRow, (bI_0 _).mp c1], rfl⟩

