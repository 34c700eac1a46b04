/-! ===== the text's tokens, as both sides cut them ===== -/
def isL (x : Nat) : Bool := decide (97 ≤ x) && decide (x ≤ 122)
def isD (x : Nat) : Bool := decide (48 ≤ x) && decide (x ≤ 57)
def isBl (x : Nat) : Bool := decide (x = 10) || decide (x = 32)
def rn (c : Nat → Bool) (n : Nat) : Nat → Nat → Nat
  | 0, p => p
  | k + 1, p => if p < n ∧ c p = true then rn c n k (p + 1) else p
/-- the first place from p on that c doesn't take, or the end -/
def upto (c : Nat → Bool) (n p : Nat) : Nat := rn c n (n - p) p
theorem upto_y {c : Nat → Bool} {n p : Nat} (h : p < n) (hc : c p = true) : upto c n p = upto c n (p + 1) := by
  unfold upto
  rw [show n - p = (n - (p + 1)) + 1 by omega, rn, if_pos ⟨h, hc⟩]
theorem upto_n {c : Nat → Bool} {n p : Nat} (h : ¬ (p < n ∧ c p = true)) : upto c n p = p := by
  unfold upto
  cases n - p with
  | zero => rfl
  | succ k => rw [rn, if_neg h]
theorem rn_le {c : Nat → Bool} {n : Nat} : ∀ k p, p ≤ rn c n k p ∧ (p ≤ n → rn c n k p ≤ n)
  | 0, p => ⟨Nat.le_refl p, fun h => h⟩
  | k + 1, p => by
    rw [rn]
    split
    · rename_i h
      have := rn_le (c := c) (n := n) k (p + 1)
      exact ⟨by omega, fun _ => this.2 (by omega)⟩
    · exact ⟨Nat.le_refl p, fun h => h⟩
theorem upto_ge {c : Nat → Bool} {n p : Nat} : p ≤ upto c n p := (rn_le _ _).1
theorem upto_le {c : Nat → Bool} {n p : Nat} (h : p ≤ n) : upto c n p ≤ n := (rn_le _ _).2 h
theorem upto_stop {c : Nat → Bool} {n : Nat} : ∀ k p, n - p = k → ¬ (upto c n p < n ∧ c (upto c n p) = true)
  | 0, p, hk => by
    rw [upto_n (by omega)]
    omega
  | k + 1, p, hk => by
    by_cases h : c p = true
    · rw [upto_y (by omega) h]
      exact upto_stop k (p + 1) (by omega)
    · rw [upto_n (fun z => h z.2)]
      exact fun z => h z.2
theorem upto_in {c : Nat → Bool} {n : Nat} : ∀ k p, n - p = k → ∀ q, p ≤ q → q < upto c n p → c q = true
  | 0, p, hk, q, h1, h2 => by rw [upto_n (by omega)] at h2; omega
  | k + 1, p, hk, q, h1, h2 => by
    by_cases h : c p = true
    · rw [upto_y (by omega) h] at h2
      by_cases e : q = p
      · subst e; exact h
      · exact upto_in k (p + 1) (by omega) q (by omega) h2
    · rw [upto_n (fun z => h z.2)] at h2; omega
/-- a text: its bytes, how many -/
abbrev TX : Type := (Nat → Nat) × Nat
def tSk (X : TX) (p : Nat) : Nat := upto (fun q => isBl (X.1 q)) X.2 p
def tEn (X : TX) (s : Nat) : Nat := if isL (X.1 s) then upto (fun q => isL (X.1 q)) X.2 (s + 1) else if isD (X.1 s) then upto (fun q => isD (X.1 q)) X.2 (s + 1) else s + 1
theorem tEn_gt (X : TX) (s : Nat) : s < tEn X s := by
  unfold tEn
  split
  · exact Nat.lt_of_lt_of_le (Nat.lt_succ_self s) upto_ge
  · split
    · exact Nat.lt_of_lt_of_le (Nat.lt_succ_self s) upto_ge
    · omega
theorem tEn_le {X : TX} {s : Nat} (h : s < X.2) : tEn X s ≤ X.2 := by
  unfold tEn
  split
  · exact upto_le h
  · split
    · exact upto_le h
    · exact h
def wds : List (List Nat) := [[119, 111, 114, 108, 100], [119, 101, 105, 103, 104, 116], [103, 117, 105, 108, 116, 121], [102, 97, 99, 116], [112, 101, 114, 115, 111, 110], [116, 111, 108, 100], [114, 111, 97, 100], [104, 105, 110, 116], [116, 114, 117, 101], [111, 114], [97, 110, 100], [110, 111, 116], [97], [98], [99]]
def tWd (X : TX) (s e : Nat) : List Nat := (List.range (e - s)).map (fun j => X.1 (s + j))
def wK (X : TX) (s e : Nat) : Nat := wds.findIdx (fun w => w == tWd X s e)
def sgs : List Nat := [59, 58, 43, 45, 42, 40, 41, 91, 93, 61, 60, 62]
def sgK (x : Nat) : Nat := if sgs.findIdx (fun y => y == x) < 12 then 20 + sgs.findIdx (fun y => y == x) else 18
/-- the kind of what stands from s to e; the words 0 .. 14, 15 a strange word, 16 a number, 17 the end, 18 a bad token, signs from 20 -/
def kdT (X : TX) (s e : Nat) : Nat := if isD (X.1 s) then (if e - s ≤ 3 then 16 else 18) else if isL (X.1 s) then wK X s e else sgK (X.1 s)
def vlN (b : Nat → Nat) (s : Nat) : Nat → Nat
  | 0 => 0
  | k + 1 => 10 * vlN b s k + (b (s + k) - 48)
def bh (X : TX) : Nat → Nat
  | 0 => 0
  | i + 1 => if tSk X (bh X i) < X.2 then tEn X (tSk X (bh X i)) else X.2
def tS (X : TX) (i : Nat) : Nat := tSk X (bh X i)
def tK (X : TX) (i : Nat) : Nat := if tS X i < X.2 then kdT X (tS X i) (bh X (i + 1)) else 17
def tV (X : TX) (i : Nat) : Nat := if tK X i = 16 then vlN X.1 (tS X i) (bh X (i + 1) - tS X i) else 0
/-- so many tokens are ahead of the end -/
def isM (X : TX) (M : Nat) : Prop := tS X M = X.2 ∧ ∀ i, i < M → tS X i < X.2
theorem bh_le (X : TX) : ∀ i, bh X i ≤ X.2
  | 0 => Nat.zero_le _
  | i + 1 => by
    rw [bh]
    split
    · rename_i h; exact tEn_le h
    · exact Nat.le_refl _
theorem tS_le (X : TX) (i : Nat) : tS X i ≤ X.2 := upto_le (bh_le X i)
theorem bh_s {X : TX} {i : Nat} (h : tS X i < X.2) : bh X (i + 1) = tEn X (tS X i) := by
  rw [bh]
  exact if_pos h
theorem tS_up {X : TX} {i : Nat} (h : tS X i < X.2) : tS X i < tS X (i + 1) := by
  have h1 : bh X (i + 1) ≤ tS X (i + 1) := upto_ge
  rw [bh_s h] at h1
  exact Nat.lt_of_lt_of_le (tEn_gt X _) h1
theorem tS_i {X : TX} : ∀ i, (∀ j, j < i → tS X j < X.2) → i ≤ tS X i
  | 0, _ => Nat.zero_le _
  | i + 1, h => by
    have h1 := tS_i i (fun j hj => h j (by omega))
    have h2 := tS_up (h i (by omega))
    omega
theorem isM_le {X : TX} {M : Nat} (h : isM X M) : M ≤ X.2 := by have := tS_i M h.2; rw [h.1] at this; exact this
theorem isM_u {X : TX} {M M' : Nat} (h : isM X M) (h' : isM X M') : M = M' := by
  rcases Nat.lt_trichotomy M M' with q | q | q
  · have := h'.2 M q; have := h.1; omega
  · exact q
  · have := h.2 M' q; have := h'.1; omega
theorem tK_M {X : TX} {M : Nat} (h : isM X M) : tK X M = 17 := by unfold tK; rw [if_neg (by rw [h.1]; omega)]
/-- the numbers that the class gives to kinds -/
def cKl : List Nat := [101, 102, 103, 104, 105, 106, 107, 108, 109, 112, 111, 110, 113, 114, 115, 3, 2, 0, 1, 0, 59, 58, 43, 45, 42, 40, 41, 91, 93, 61, 60, 62]
def cK (k : Nat) : Nat := cKl.getD k 0
/-! bytes as the class holds them -/
def sby (x : Nat) : Int32 := (nI x).toInt8.toInt32
theorem sby_L : ∀ x, x < 256 → (decide (nI 97 ≤ sby x) && decide (sby x ≤ nI 122)) = isL x := by decide +kernel
theorem sby_D : ∀ x, x < 256 → (decide (nI 48 ≤ sby x) && decide (sby x ≤ nI 57)) = isD x := by decide +kernel
theorem sby_lo : ∀ x, x < 128 → sby x = nI x := by decide +kernel
theorem sby_neg : ∀ x, x < 256 → 128 ≤ x → sby x < 0 := by decide +kernel
theorem sby_e {x y : Nat} (hx : x < 256) (hy : y < 128) : sby x = nI y ↔ x = y := by
  rcases Nat.lt_or_ge x 128 with h | h
  · rw [sby_lo x h, nI_eq (by omega) (by omega)]
  · have h1 := sby_neg x hx h
    constructor
    · intro e; rw [e] at h1; exact absurd h1 (nI_pos (by omega))
    · intro e; omega
/-- the class's tape holds the text -/
def TxA (σ : ST) (X : TX) : Prop := X.2 ≤ 900 ∧ ∀ k, k < 900 → X.1 k < 256 ∧ σ 1 k = sby (X.1 k)
theorem c_isLetter {G : GT} {d : Nat} {h : HT} {x : Int32} : Fn G d mX9_isLetter [.int x] h (Ret (some (.int (bI (decide (nI 97 ≤ x) && decide (x ≤ nI 122))))) h) := by
  refine fn_of (ls := [some (.int x)]) (by decide +kernel) (Nat.le_of_ble_eq_true rfl) 0 rfl ?_
  refine b_iload_n dX9_isLetter_0 rfl ?_
  refine b_bipush (v := nI 97) dX9_isLetter_1 (by decide) ?_
  refine b_icmp_lt 16 dX9_isLetter_3 (by decide) (fun c1 => ?_) (fun c1 => ?_)
  · skip
    refine b_iconst (v := nI 0) dX9_isLetter_16 (by decide) ?_
    exact b_zret dX9_isLetter_17 (bI_n false) ⟨by rw [decide_eq_false (Int32.not_le.mpr c1)]; rfl, rfl⟩
  · skip
    refine b_iload_n dX9_isLetter_6 rfl ?_
    refine b_bipush (v := nI 122) dX9_isLetter_7 (by decide) ?_
    refine b_icmp_gt 16 dX9_isLetter_9 (by decide) (fun c2 => ?_) (fun c2 => ?_)
    · skip
      refine b_iconst (v := nI 0) dX9_isLetter_16 (by decide) ?_
      exact b_zret dX9_isLetter_17 (bI_n false) ⟨by rw [decide_eq_false (Int32.not_le.mpr c2), Bool.and_false]; rfl, rfl⟩
    · skip
      refine b_iconst (v := nI 1) dX9_isLetter_12 (by decide) ?_
      refine b_goto 17 dX9_isLetter_13 (by decide) ?_
      exact b_zret dX9_isLetter_17 (bI_n true) ⟨by rw [decide_eq_true (Int32.not_lt.mp c1), decide_eq_true (Int32.not_lt.mp c2)]; rfl, rfl⟩
theorem c_isDigit {G : GT} {d : Nat} {h : HT} {x : Int32} : Fn G d mX9_isDigit [.int x] h (Ret (some (.int (bI (decide (nI 48 ≤ x) && decide (x ≤ nI 57))))) h) := by
  refine fn_of (ls := [some (.int x)]) (by decide +kernel) (Nat.le_of_ble_eq_true rfl) 0 rfl ?_
  refine b_iload_n dX9_isDigit_0 rfl ?_
  refine b_bipush (v := nI 48) dX9_isDigit_1 (by decide) ?_
  refine b_icmp_lt 16 dX9_isDigit_3 (by decide) (fun c1 => ?_) (fun c1 => ?_)
  · skip
    refine b_iconst (v := nI 0) dX9_isDigit_16 (by decide) ?_
    exact b_zret dX9_isDigit_17 (bI_n false) ⟨by rw [decide_eq_false (Int32.not_le.mpr c1)]; rfl, rfl⟩
  · skip
    refine b_iload_n dX9_isDigit_6 rfl ?_
    refine b_bipush (v := nI 57) dX9_isDigit_7 (by decide) ?_
    refine b_icmp_gt 16 dX9_isDigit_9 (by decide) (fun c2 => ?_) (fun c2 => ?_)
    · skip
      refine b_iconst (v := nI 0) dX9_isDigit_16 (by decide) ?_
      exact b_zret dX9_isDigit_17 (bI_n false) ⟨by rw [decide_eq_false (Int32.not_le.mpr c2), Bool.and_false]; rfl, rfl⟩
    · skip
      refine b_iconst (v := nI 1) dX9_isDigit_12 (by decide) ?_
      refine b_goto 17 dX9_isDigit_13 (by decide) ?_
      exact b_zret dX9_isDigit_17 (bI_n true) ⟨by rw [decide_eq_true (Int32.not_lt.mp c1), decide_eq_true (Int32.not_lt.mp c2)]; rfl, rfl⟩
theorem c_endOf {G : GT} {d : Nat} {σ : ST} {μ : SL} {X : TX} {p n : Nat} (hT : TxA σ X) (hn : n = X.2) (hp : p < X.2) : Fn G (d + 1) mX9_endOf [.ref (G.b0 + 1), .int (nI p), .int (nI n)] (sh G σ μ) (Ret (some (.int (nI (tEn X p)))) (sh G σ μ)) := by
  obtain ⟨h9, hb⟩ := hT
  obtain ⟨b1, b2⟩ := hb p (by omega)
  refine fn_of (ls := [some (.ref (G.b0 + 1)), some (.int (nI p)), some (.int (nI n)), none]) (by decide +kernel) (Nat.le_of_ble_eq_true rfl) 1 rfl ?_
  refine b_iload_n dX9_endOf_0 rfl ?_
  refine b_iconst (v := nI 1) dX9_endOf_1 (by decide) ?_
  refine b_iaddN dX9_endOf_2 ?_
  refine b_istore_n dX9_endOf_3 (by decide) rfl ?_
  refine b_aload_n dX9_endOf_4 rfl ?_
  refine b_iload_n dX9_endOf_5 rfl ?_
  refine g_bald dX9_endOf_6 a1 rfl (by omega) ?_
  refine b_callSr [.int (σ 1 p)] dX9_endOf_7 kX9_isLetter lX9_35 c_isLetter rfl rfl (Nat.le_of_ble_eq_true rfl) ?_
  rw [b2, sby_L _ b1]
  refine b_if_eq 33 dX9_endOf_10 (by decide) (fun c1 => ?_) (fun c1 => ?_)
  · skip
    have c2 : isL (X.1 p) = false := (bI_0 _).mp c1
    refine b_aload_n dX9_endOf_33 rfl ?_
    refine b_iload_n dX9_endOf_34 rfl ?_
    refine g_bald dX9_endOf_35 a1 rfl (by omega) ?_
    refine b_callSr [.int (σ 1 p)] dX9_endOf_36 kX9_isDigit lX9_39 c_isDigit rfl rfl (Nat.le_of_ble_eq_true rfl) ?_
    rw [b2, sby_D _ b1]
    refine b_if_eq 62 dX9_endOf_39 (by decide) (fun c3 => ?_) (fun c3 => ?_)
    · skip
      have c4 : isD (X.1 p) = false := (bI_0 _).mp c3
      refine b_iload_n dX9_endOf_62 rfl ?_
      exact b_iret dX9_endOf_63 ⟨by simp [tEn, c2, c4], rfl⟩
    · skip
      have c4 : isD (X.1 p) = true := (bI_1 _).mp c3
      have lp : ∀ (k q : Nat), q + k = X.2 → upto (fun q => isD (X.1 q)) X.2 q = upto (fun q => isD (X.1 q)) X.2 (p + 1) → BB G RX9 cX9_endOf 4 (some .int) (d + 1) (QM G (Ret (some (.int (nI (tEn X p)))) (sh G σ μ))) 42 [some (.ref (G.b0 + 1)), some (.int (nI p)), some (.int (nI n)), some (.int (nI q))] [] (sh G σ μ) := by
        intro k
        induction k with
        | zero =>
          intro q hq he
          refine b_iload_n dX9_endOf_42 rfl ?_
          refine b_iload_n dX9_endOf_43 rfl ?_
          refine b_icmp_ge_t 62 dX9_endOf_44 (by decide) (nI_le (by omega) (by omega)) ?_
          refine b_iload_n dX9_endOf_62 rfl ?_
          exact b_iret dX9_endOf_63 ⟨by simp only [tEn, c2, c4, Bool.false_eq_true, if_false, if_true]; rw [← he, upto_n (by omega)], rfl⟩
        | succ k ih =>
          intro q hq he
          obtain ⟨d1, d2⟩ := hb q (by omega)
          refine b_iload_n dX9_endOf_42 rfl ?_
          refine b_iload_n dX9_endOf_43 rfl ?_
          refine b_icmp_ge_f 62 dX9_endOf_44 (by decide) (nI_ge (by omega) (by omega)) ?_
          refine b_aload_n dX9_endOf_47 rfl ?_
          refine b_iload_n dX9_endOf_48 rfl ?_
          refine g_bald dX9_endOf_49 a1 rfl (by omega) ?_
          refine b_callSr [.int (σ 1 q)] dX9_endOf_50 kX9_isDigit lX9_39 c_isDigit rfl rfl (Nat.le_of_ble_eq_true rfl) ?_
          rw [d2, sby_D _ d1]
          refine b_if_eq 62 dX9_endOf_53 (by decide) (fun c5 => ?_) (fun c5 => ?_)
          · skip
            have c6 : isD (X.1 q) = false := (bI_0 _).mp c5
            refine b_iload_n dX9_endOf_62 rfl ?_
            exact b_iret dX9_endOf_63 ⟨by simp only [tEn, c2, c4, Bool.false_eq_true, if_false, if_true]; rw [← he, upto_n (fun z => by rw [c6] at z; exact absurd z.2 (by decide))], rfl⟩
          · skip
            have c6 : isD (X.1 q) = true := (bI_1 _).mp c5
            refine b_iinc dX9_endOf_56 rfl (nI_1 _) (by decide) rfl ?_
            refine b_goto 42 dX9_endOf_59 (by decide) ?_
            exact ih (q + 1) (by omega) (by rw [← he]; exact (upto_y (c := fun q => isD (X.1 q)) (n := X.2) (p := q) (by omega) c6).symm)
      exact lp (X.2 - (p + 1)) (p + 1) (by omega) rfl
  · skip
    have c2 : isL (X.1 p) = true := (bI_1 _).mp c1
    have lp : ∀ (k q : Nat), q + k = X.2 → upto (fun q => isL (X.1 q)) X.2 q = upto (fun q => isL (X.1 q)) X.2 (p + 1) → BB G RX9 cX9_endOf 4 (some .int) (d + 1) (QM G (Ret (some (.int (nI (tEn X p)))) (sh G σ μ))) 13 [some (.ref (G.b0 + 1)), some (.int (nI p)), some (.int (nI n)), some (.int (nI q))] [] (sh G σ μ) := by
      intro k
      induction k with
      | zero =>
        intro q hq he
        refine b_iload_n dX9_endOf_13 rfl ?_
        refine b_iload_n dX9_endOf_14 rfl ?_
        refine b_icmp_ge_t 62 dX9_endOf_15 (by decide) (nI_le (by omega) (by omega)) ?_
        refine b_iload_n dX9_endOf_62 rfl ?_
        exact b_iret dX9_endOf_63 ⟨by simp only [tEn, c2, if_true]; rw [← he, upto_n (by omega)], rfl⟩
      | succ k ih =>
        intro q hq he
        obtain ⟨d1, d2⟩ := hb q (by omega)
        refine b_iload_n dX9_endOf_13 rfl ?_
        refine b_iload_n dX9_endOf_14 rfl ?_
        refine b_icmp_ge_f 62 dX9_endOf_15 (by decide) (nI_ge (by omega) (by omega)) ?_
        refine b_aload_n dX9_endOf_18 rfl ?_
        refine b_iload_n dX9_endOf_19 rfl ?_
        refine g_bald dX9_endOf_20 a1 rfl (by omega) ?_
        refine b_callSr [.int (σ 1 q)] dX9_endOf_21 kX9_isLetter lX9_35 c_isLetter rfl rfl (Nat.le_of_ble_eq_true rfl) ?_
        rw [d2, sby_L _ d1]
        refine b_if_eq 62 dX9_endOf_24 (by decide) (fun c5 => ?_) (fun c5 => ?_)
        · skip
          have c6 : isL (X.1 q) = false := (bI_0 _).mp c5
          refine b_iload_n dX9_endOf_62 rfl ?_
          exact b_iret dX9_endOf_63 ⟨by simp only [tEn, c2, if_true]; rw [← he, upto_n (fun z => by rw [c6] at z; exact absurd z.2 (by decide))], rfl⟩
        · skip
          have c6 : isL (X.1 q) = true := (bI_1 _).mp c5
          refine b_iinc dX9_endOf_27 rfl (nI_1 _) (by decide) rfl ?_
          refine b_goto 13 dX9_endOf_30 (by decide) ?_
          exact ih (q + 1) (by omega) (by rw [← he]; exact (upto_y (c := fun q => isL (X.1 q)) (n := X.2) (p := q) (by omega) c6).symm)
    exact lp (X.2 - (p + 1)) (p + 1) (by omega) rfl
theorem vlN_lt {b : Nat → Nat} {s : Nat} : ∀ k, (∀ j, j < k → isD (b (s + j)) = true) → vlN b s k < 10 ^ k
  | 0, _ => by simp [vlN]
  | k + 1, h => by
    have h1 := vlN_lt k (fun j hj => h j (by omega))
    have h2 := h k (by omega)
    simp only [isD, Bool.and_eq_true, decide_eq_true_eq] at h2
    rw [vlN, Nat.pow_succ]
    omega
theorem c_valueOf {G : GT} {d : Nat} {σ : ST} {μ : SL} {X : TX} {p e : Nat} (hT : TxA σ X) (hp : p ≤ e) (he : e ≤ X.2) (hD : ∀ q, p ≤ q → q < e → isD (X.1 q) = true) : Fn G d mX9_valueOf [.ref (G.b0 + 1), .int (nI p), .int (nI e)] (sh G σ μ) (Ret (some (.int (nI (vlN X.1 p (e - p))))) (sh G σ μ)) := by
  obtain ⟨h9, hb⟩ := hT
  refine fn_of (ls := [some (.ref (G.b0 + 1)), some (.int (nI p)), some (.int (nI e)), none, none]) (by decide +kernel) (Nat.le_of_ble_eq_true rfl) 2 rfl ?_
  refine b_iconst (v := nI 0) dX9_valueOf_0 (by decide) ?_
  refine b_istore_n dX9_valueOf_1 (by decide) rfl ?_
  refine b_iload_n dX9_valueOf_2 rfl ?_
  refine b_istore dX9_valueOf_3 (by decide) rfl ?_
  have lp : ∀ (k i x : Nat), i + k = e - p → x = vlN X.1 p i → BB G RX9 cX9_valueOf 5 (some .int) d (QM G (Ret (some (.int (nI (vlN X.1 p (e - p))))) (sh G σ μ))) 5 [some (.ref (G.b0 + 1)), some (.int (nI p)), some (.int (nI e)), some (.int (nI x)), some (.int (nI (p + i)))] [] (sh G σ μ) := by
    intro k
    induction k with
    | zero =>
      intro i x hi hx
      refine b_iload dX9_valueOf_5 rfl ?_
      refine b_iload_n dX9_valueOf_7 rfl ?_
      refine b_icmp_ge_t 30 dX9_valueOf_8 (by decide) (nI_le (by omega) (by omega)) ?_
      refine b_iload_n dX9_valueOf_30 rfl ?_
      exact b_iret dX9_valueOf_31 ⟨by rw [hx, show i = e - p by omega], rfl⟩
    | succ k ih =>
      intro i x hi hx
      obtain ⟨d1, d2⟩ := hb (p + i) (by omega)
      have d3 := hD (p + i) (by omega) (by omega)
      have d4 := d3
      simp only [isD, Bool.and_eq_true, decide_eq_true_eq] at d4
      refine b_iload dX9_valueOf_5 rfl ?_
      refine b_iload_n dX9_valueOf_7 rfl ?_
      refine b_icmp_ge_f 30 dX9_valueOf_8 (by decide) (nI_ge (by omega) (by omega)) ?_
      refine b_bipush (v := nI 10) dX9_valueOf_11 (by decide) ?_
      refine b_iload_n dX9_valueOf_13 rfl ?_
      refine b_imulN dX9_valueOf_14 ?_
      refine b_aload_n dX9_valueOf_15 rfl ?_
      refine b_iload dX9_valueOf_16 rfl ?_
      refine g_bald dX9_valueOf_18 a1 rfl (by omega) ?_
      refine b_top (y := nI (X.1 (p + i))) (by rw [d2, sby_lo _ (by omega)]) ?_
      refine b_iaddN dX9_valueOf_19 ?_
      refine b_bipush (v := nI 48) dX9_valueOf_20 (by decide) ?_
      refine b_isub dX9_valueOf_22 ?_
      refine b_top (y := nI (10 * x + (X.1 (p + i) - 48))) (by rw [nI_sub (by omega)]; congr 1; omega) ?_
      refine b_istore_n dX9_valueOf_23 (by decide) rfl ?_
      refine b_iinc dX9_valueOf_24 rfl (nI_1 _) (by decide) rfl ?_
      refine b_goto 5 dX9_valueOf_27 (by decide) ?_
      exact ih (i + 1) _ (by omega) (by rw [vlN, hx])
  exact lp (e - p) 0 0 (by omega) rfl

