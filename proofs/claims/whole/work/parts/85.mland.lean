/-! ===== the reference: land ===== -/
theorem ex_M (X : TX) : ∃ M, isM X M := by
  refine Classical.byContradiction (fun hn => ?_)
  have all : ∀ i j, j < i → tS X j < X.2 := by
    intro i
    induction i with
    | zero => intro j hj; exact absurd hj (by omega)
    | succ i ih =>
      intro j hj
      by_cases e : j = i
      · subst e
        rcases Nat.lt_or_ge (tS X j) X.2 with q | q
        · exact q
        · exact absurd ⟨j, Nat.le_antisymm (tS_le X j) q, ih⟩ hn
      · exact ih j (by omega)
  have h1 := tS_i (X := X) X.2 (fun j hj => all X.2 j hj)
  have h2 := all (X.2 + 1) X.2 (by omega)
  omega
def up (S T : FS) : Prop := T.2.1 = 0 → S.2.1 = 0 ∧ S.1 ≤ T.1
theorem up_r (S : FS) : up S S := fun h => ⟨h, Nat.le_refl _⟩
theorem up_f {S T : FS} {f : FS → FS} (h : up S T) (hf : Up f) : up S (f T) := fun h0 => by
  obtain ⟨a, b⟩ := hf T h0
  obtain ⟨c, e⟩ := h a
  exact ⟨c, Nat.le_trans e b⟩
theorem up_nxt {Y : PX} {S T : FS} (h : up S T) : up S (nxt Y T) := up_f h (Up_nxt Y)
theorem up_tnum {Y : PX} {S T : FS} {a b : Nat} (h : up S T) : up S (tnum Y a b T) := fun h0 => by
  obtain ⟨a1, -, -, -, e⟩ := tnum_0 h0
  have := up_nxt (Y := Y) h
  rw [← e] at this
  exact this h0
theorem up_fail {Y : PX} {S T : FS} {f : Nat} (hf : f ≠ 0) : up S (fail Y f T) := fun h0 => absurd h0 (fail_0 hf)
theorem up_if {S T U : FS} {c : Prop} [Decidable c] (h1 : up S T) (h2 : up S U) : up S (if c then T else U) := by split <;> assumption
theorem up_prS {Y : PX} {F : Nat} {S : FS} : ∀ n T x, up S T → up S (prS Y F n T x).1
  | 0, _, _, h => h
  | n + 1, T, x, h => by
    rw [prS]
    split
    · exact up_prS n _ _ (up_tnum h)
    · exact h
def up1 (S : FS) (Q : FS × LB) : Prop := up S Q.1
theorem up1_mk {S T : FS} {B : LB} (h : up S T) : up1 S (T, B) := h
theorem up_w6 {Y : PX} {S : FS} : up S (w6 Y S) := by
  have k4 : up S (w4 Y S) := up_tnum (up_tnum (up_tnum (up_nxt (up_r S))))
  have k5 : up S (w5 Y S) := up_if (up_tnum (up_nxt k4)) k4
  exact up_if (up_nxt k5) k5
theorem up_pT {Y : PX} {S : FS} {F : Nat} : up S (pTold Y F S).1 := by
  unfold pTold
  split
  · exact up_prS _ _ _ (up_tnum (up_nxt (up_nxt (up_r S))))
  · exact up_nxt (up_r S)
theorem up_r3 {Y : PX} {S : FS} {P : Nat} : up S (r3 Y P S) := by
  have q1 : up S (r1 Y P S) := up_tnum (up_nxt (up_r S))
  have q2 : up S (r2 Y P S) := up_if (up_fail (by omega)) q1
  exact up_tnum q2
theorem up_xLn {Y : PX} {S : FS} {B : LB} : up1 S (xLn Y S B) := by
  unfold xLn
  split
  · unfold xWorld
    split
    · exact up1_mk (up_fail (by omega))
    · exact up1_mk up_w6
  · split
    · unfold xFact
      split
      · exact up1_mk (up_fail (by omega))
      · exact up1_mk (up_f (up_f (up_nxt (up_r S)) (Up_tak Y 21)) (Up_ut Y 6).2)
    · split
      · unfold xPerson
        split
        · exact up1_mk (up_fail (by omega))
        · exact up1_mk up_pT
      · split
        · exact up1_mk up_r3
        · split
          · exact up1_mk (up_tnum (up_tnum (up_nxt (up_r S))))
          · split
            · exact up1_mk (up_tnum (up_nxt (up_r S)))
            · exact up1_mk (up_fail (by omega))
theorem xLine_go {Y : PX} {Q : FS × LB} {m : Nat} (hY : PxO Y) (hp : PO Y 0 (xLn Y Q.1 Q.2).1) (hm : Q.1.2.1 = 0 → Y.2 ≤ Q.1.1 + (m + 1)) : (xLine Y Q).1.2.1 = 0 → Y.2 ≤ (xLine Y Q).1.1 + m := fun h0 => by
  have h0' : (takK Y 20 (xLn Y Q.1 Q.2).1).2.1 = 0 := h0
  show Y.2 ≤ (takK Y 20 (xLn Y Q.1 Q.2).1).1 + m
  obtain ⟨a1, a2⟩ := up_xLn (Y := Y) (S := Q.1) (B := Q.2) (tak_0 h0').1
  have h1 := hm a1
  rw [tak_if] at h0' ⊢
  by_cases c : kd Y (xLn Y Q.1 Q.2).1 = 20
  · rw [if_pos c] at h0' ⊢
    obtain ⟨b1, b2⟩ := kd_lt hY hp (show kd Y (xLn Y Q.1 Q.2).1 ≠ 17 by omega)
    rw [nxt_1 b1 b2]
    omega
  · rw [if_neg c] at h0'
    exact absurd h0' (fail_0 (by omega))
def T0 (σ : ST) : Prop := σ 77 0 = nI 0
theorem T0.t0 {σ : ST} (h : T0 σ) : pt σ 77 0 (nI 0) = σ := pt_self σ 77 0 (Eq.symm h)
theorem wi_T {x : Int32} {T : Nat} (hT : T ≤ 900) : (decide ((0 : Int64) ≤ x.toInt64) && decide (x.toInt64 ≤ (nI T).toInt64)) = inR x (T + 1) := by
  rw [← inL_R (by omega), ← wi_L (by omega), show nI (T + 1) - nI 1 = nI T from nI_pred T]
/-- what land leaves in the reference -/
def kF (σ s : ST) : Prop := (∀ c, c ≠ 77 → c ≠ 78 → ¬ (81 ≤ c ∧ c ≤ 85) → s c = σ c) ∧ ∀ q, q < 8 ∨ 18 < q → s 77 q = σ 77 q
def LandM (G : GT) (μ : SL) (σ : ST) (X : TX) : Option Value → HT → Prop := fun r h' => ∃ (s : ST) (M : Nat), isM X M ∧ h' = sh G s μ ∧ kF σ s ∧ s 77 8 = nI 0 ∧ s 77 16 = nI (xRes X M).1.2.1 ∧ s 77 17 = (if (xRes X M).1.2.1 = 0 then -1 else nI (xRes X M).1.2.2.1) ∧
  ((xRes X M).1.2.1 ≠ 0 → r = some (.int (-30 - nI (xRes X M).1.2.1)) ∧ s 78 = σ 78) ∧
  ((xRes X M).1.2.1 = 0 → r = some (.int (nI (xRes X M).2.2.1)) ∧ (∀ q, 198 ≤ q → s 78 q = σ 78 q) ∧ (∀ f, f < (xRes X M).2.1.F → s 78 (105 + f) = xHold (xRes X M) f) ∧ (∀ q, 113 ≤ q → q < 198 → s 78 q = nI 0) ∧ ∃ s1 : ST, LM s1 (xRes X M).2 ∧ ∀ q, q < 105 → s 78 q = s1 81 q)
theorem m_X_land_no {G : GT} {d : Nat} {σ : ST} {μ : SL} {T : Nat} {x : Int32} (h0 : T0 σ) (hTp : σ 77 8 = nI T) (hT9 : T ≤ 900) (hx : inR x (T + 1) = false) : Fn G (d + 1) mX12_land [.ref (G.b0 + 77), .int x] (sh G σ μ) (Ret (some (.int (-3))) (sh G σ μ)) := by
  refine fn_of (ls := [some (.ref (G.b0 + 77)), some (.int x), none, none]) (by decide +kernel) (Nat.le_of_ble_eq_true rfl) 2 rfl ?_
  refine b_aload_n dX12_land_0 rfl ?_
  refine b_iconst (v := nI 0) dX12_land_1 (by decide) ?_
  refine g_put dX12_land_2 wX12_1 a77 tfX12_0 (Nat.le_of_ble_eq_true rfl) rfl ?_
  refine b_sig h0.t0 ?_
  refine b_iload_n dX12_land_5 rfl ?_
  refine b_i2l dX12_land_6 ?_
  refine b_lconst (v := 0) dX12_land_7 (by decide) ?_
  refine b_aload_n dX12_land_8 rfl ?_
  refine g_geti (x := nI T) dX12_land_9 fX12_83 a77 rfl hTp ?_
  refine b_i2l dX12_land_12 ?_
  refine b_callSr [.long x.toInt64, .long 0, .long ((nI T).toInt64)] dX12_land_13 kX12_within lX12_145 c_within rfl rfl (Nat.le_of_ble_eq_true rfl) ?_
  rw [wi_T hT9, hx]
  refine b_if_ne_f 22 dX12_land_16 (by decide) rfl ?_
  refine b_bipush (v := -3) dX12_land_19 (by decide) ?_
  exact b_iret dX12_land_21 ⟨rfl, rfl⟩

