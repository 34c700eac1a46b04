/-! ===== Formulas: what a truth is in a world ===== -/
def kpt (v : Int64) : Int32 := if 1000000 < v then 1000000 else if v < -1000000 then -1000000 else v.toInt32
def bnF (c : Nat) (a b : Int32) : Int32 := if c = 3000 then kpt (a.toInt64 + b.toInt64) else if c = 3001 then kpt (a.toInt64 - b.toInt64) else if c = 3002 then kpt (a.toInt64 * b.toInt64) else if c = 3003 then bI (decide (a = b)) else if c = 3004 then bI (decide (a < b)) else if c = 3005 then bI (decide (b < a)) else if c = 3006 then a &&& b else a ||| b
def wdV (L : LD) (w k : Nat) : Int32 := if 12 ≤ k then L.num (3 * w + (k - 12)) else if k = 0 then nI w else if k = 1 then L.wt w else bI (bt L.gl w)
def evS (L : LD) (w c : Nat) (st : List Int32) : List Int32 :=
  if c < 1000 then nI c :: st else if c < 3000 then wdV L w (c - 1000) :: st
  else if c = 3008 then (match st with
    | a :: r => (nI 1 - a) :: r
    | [] => [])
  else (match st with
    | b :: a :: r => bnF c a b :: r
    | x => x)
def evL (L : LD) (w : Nat) : List Nat → List Int32 → List Int32
  | [], st => st
  | c :: cs, st => evL L w cs (evS L w c st)
/-- a stack's values in an array, the lowest first -/
def stM (f : Nat → Int32) : List Int32 → Prop
  | [] => True
  | v :: r => f r.length = v ∧ stM f r
theorem stM_pt {s : ST} {a n : Nat} {x : Int32} : ∀ r : List Int32, r.length ≤ n → stM (s a) r → stM (pt s a n x a) r
  | [], _, _ => trivial
  | v :: r, h, hm => ⟨by rw [pt_j (by simp at h; omega)]; exact hm.1, stM_pt r (by simp at h; omega) hm.2⟩
theorem kpt_cls (v : Int64) : (mMaxL (-1000000) (mMinL 1000000 v)).toInt32 = kpt v := by
  unfold mMaxL mMinL kpt
  by_cases h1 : v < 1000000
  · have h2 : ¬ 1000000 < v := fun z => by rw [Int64.lt_iff_toInt_lt] at h1 z; omega
    rw [if_pos h1, if_neg h2]
    by_cases h3 : v < -1000000
    · rw [if_pos h3, if_pos h3]; rfl
    · rw [if_neg h3, if_neg h3]
  · rw [if_neg h1]
    have h4 : ¬ (1000000 : Int64) < -1000000 := by decide
    rw [if_neg h4]
    by_cases h2 : 1000000 < v
    · rw [if_pos h2]; rfl
    · rw [if_neg h2]
      have e : v = 1000000 := Int64.le_antisymm (Int64.not_lt.mp h2) (Int64.not_lt.mp h1)
      subst e
      rw [if_neg h4]
theorem c_kept {G : GT} {d : Nat} {h : HT} {v : Int64} : Fn G (d + 1) mX0_kept [.long v] h (Ret (some (.int (kpt v))) h) := by
  refine fn_of (ls := [some (.long v), none]) (by decide +kernel) (Nat.le_of_ble_eq_true rfl) 0 rfl ?_
  refine b_ldc2 dX0_kept_0 cvX0_67 ?_
  refine b_ldc2 dX0_kept_3 cvX0_69 ?_
  refine b_lload_n dX0_kept_6 rfl ?_
  refine b_mminl dX0_kept_7 lX0_71 (Nat.le_of_ble_eq_true rfl) ?_
  refine b_mmaxl dX0_kept_10 lX0_77 (Nat.le_of_ble_eq_true rfl) ?_
  refine b_l2i dX0_kept_13 ?_
  exact b_iret dX0_kept_14 ⟨by rw [← kpt_cls], rfl⟩
def isA (n : Nat) : Bool := (decide (113 ≤ n) && decide (n ≤ 115)) || (decide (101 ≤ n) && decide (n ≤ 103))
theorem c_isAtom {G : GT} {d : Nat} {h : HT} {n : Nat} (hn : n < 200) : Fn G d mX0_isAtom [.int (nI n)] h (Ret (some (.int (bI (isA n)))) h) := by
  refine fn_of (ls := [some (.int (nI n))]) (by decide +kernel) (Nat.le_of_ble_eq_true rfl) 0 rfl ?_
  refine b_iload_n dX0_isAtom_0 rfl ?_
  refine b_bipush (v := nI 113) dX0_isAtom_1 (by decide) ?_
  refine b_icmp_lt 12 dX0_isAtom_3 (by decide) (fun c1 => ?_) (fun c1 => ?_)
  · skip
    rw [nI_ltI (by omega) (by omega)] at c1
    refine b_iload_n dX0_isAtom_12 rfl ?_
    refine b_bipush (v := nI 101) dX0_isAtom_13 (by decide) ?_
    refine b_icmp_lt 28 dX0_isAtom_15 (by decide) (fun c2 => ?_) (fun c2 => ?_)
    · skip
      rw [nI_ltI (by omega) (by omega)] at c2
      refine b_iconst (v := nI 0) dX0_isAtom_28 (by decide) ?_
      exact b_zret dX0_isAtom_29 (bI_n false) ⟨by rw [isA, decide_eq_false (show ¬ 113 ≤ n by omega), decide_eq_false (show ¬ 101 ≤ n by omega)]; rfl, rfl⟩
    · skip
      rw [nI_ltI (by omega) (by omega)] at c2
      refine b_iload_n dX0_isAtom_18 rfl ?_
      refine b_bipush (v := nI 103) dX0_isAtom_19 (by decide) ?_
      refine b_icmp_gt 28 dX0_isAtom_21 (by decide) (fun c3 => ?_) (fun c3 => ?_)
      · skip
        rw [nI_ltI (by omega) (by omega)] at c3
        refine b_iconst (v := nI 0) dX0_isAtom_28 (by decide) ?_
        exact b_zret dX0_isAtom_29 (bI_n false) ⟨by rw [isA, decide_eq_false (show ¬ 113 ≤ n by omega), decide_eq_false (show ¬ n ≤ 103 by omega), Bool.and_false]; rfl, rfl⟩
      · skip
        rw [nI_ltI (by omega) (by omega)] at c3
        refine b_iconst (v := nI 1) dX0_isAtom_24 (by decide) ?_
        refine b_goto 29 dX0_isAtom_25 (by decide) ?_
        exact b_zret dX0_isAtom_29 (bI_n true) ⟨by rw [isA, decide_eq_true (show 101 ≤ n by omega), decide_eq_true (show n ≤ 103 by omega), Bool.and_self, Bool.or_true]; rfl, rfl⟩
  · skip
    rw [nI_ltI (by omega) (by omega)] at c1
    refine b_iload_n dX0_isAtom_6 rfl ?_
    refine b_bipush (v := nI 115) dX0_isAtom_7 (by decide) ?_
    refine b_icmp_le 24 dX0_isAtom_9 (by decide) (fun c4 => ?_) (fun c4 => ?_)
    · skip
      rw [nI_leI (by omega) (by omega)] at c4
      refine b_iconst (v := nI 1) dX0_isAtom_24 (by decide) ?_
      refine b_goto 29 dX0_isAtom_25 (by decide) ?_
      exact b_zret dX0_isAtom_29 (bI_n true) ⟨by rw [isA, decide_eq_true (show 113 ≤ n by omega), decide_eq_true c4]; rfl, rfl⟩
    · skip
      rw [nI_leI (by omega) (by omega)] at c4
      refine b_iload_n dX0_isAtom_12 rfl ?_
      refine b_bipush (v := nI 101) dX0_isAtom_13 (by decide) ?_
      refine b_icmp_lt_f 28 dX0_isAtom_15 (by decide) (nI_nlt (by omega) (by omega)) ?_
      refine b_iload_n dX0_isAtom_18 rfl ?_
      refine b_bipush (v := nI 103) dX0_isAtom_19 (by decide) ?_
      refine b_icmp_gt_t 28 dX0_isAtom_21 (by decide) (nI_lt (by omega) (by omega)) ?_
      refine b_iconst (v := nI 0) dX0_isAtom_28 (by decide) ?_
      exact b_zret dX0_isAtom_29 (bI_n false) ⟨by rw [isA, decide_eq_false c4, decide_eq_false (show ¬ n ≤ 103 by omega), Bool.and_false, Bool.and_false]; rfl, rfl⟩
/-- the class's land in the reader holds these numbers, weights, guilty -/
def LdA (s : ST) (L : LD) : Prop := (∀ j, j < 48 → s 12 j = L.num j) ∧ (∀ w, w < 16 → s 13 w = L.wt w) ∧ s 11 5 = L.gl
theorem c_atomOf {G : GT} {d : Nat} {σ : ST} {μ : SL} {L : LD} {w k n : Nat} (hA : LdA σ L) (hw : w < 16) (hk : isAt k = true) (hn : n = cK k) : Fn G d mX0_atomOf [.ref (G.b0 + 11), .int (nI w), .int (nI n)] (sh G σ μ) (Ret (some (.int (wdV L w k))) (sh G σ μ)) := by
  refine fn_of (ls := [some (.ref (G.b0 + 11)), some (.int (nI w)), some (.int (nI n))]) (by decide +kernel) (Nat.le_of_ble_eq_true rfl) 0 rfl ?_
  refine b_iload_n dX0_atomOf_0 rfl ?_
  simp only [isAt, Bool.or_eq_true, Bool.and_eq_true, decide_eq_true_eq] at hk
  rcases (show k = 0 ∨ k = 1 ∨ k = 2 ∨ k = 12 ∨ k = 13 ∨ k = 14 by omega) with rfl | rfl | rfl | rfl | rfl | rfl <;> subst hn
  · refine b_tableIn 107 dX0_atomOf_1 (by decide) (by decide) (by rfl) (by decide) ?_
    refine b_iload_n dX0_atomOf_107 rfl ?_
    exact b_iret dX0_atomOf_108 ⟨rfl, rfl⟩
  · refine b_tableIn 109 dX0_atomOf_1 (by decide) (by decide) (by rfl) (by decide) ?_
    refine b_aload_n dX0_atomOf_109 rfl ?_
    refine g_get dX0_atomOf_110 fX0_57 a11 rfl ?_
    refine b_iload_n dX0_atomOf_113 rfl ?_
    refine g_iald dX0_atomOf_114 a13 rfl (by omega) ?_
    exact b_iret dX0_atomOf_115 ⟨congrArg (fun z => some (Value.int z)) (hA.2.1 w hw), rfl⟩
  · refine b_tableIn 116 dX0_atomOf_1 (by decide) (by decide) (by rfl) (by decide) ?_
    refine b_aload_n dX0_atomOf_116 rfl ?_
    refine g_get dX0_atomOf_117 fX0_60 a11 rfl ?_
    refine b_iload_n dX0_atomOf_120 rfl ?_
    refine b_ishr dX0_atomOf_121 ?_
    refine b_iconst (v := nI 1) dX0_atomOf_122 (by decide) ?_
    refine b_iand dX0_atomOf_123 ?_
    exact b_iret dX0_atomOf_124 ⟨by rw [b_testv (by omega), hA.2.2]; rfl, rfl⟩
  · refine b_tableIn 76 dX0_atomOf_1 (by decide) (by decide) (by rfl) (by decide) ?_
    refine b_aload_n dX0_atomOf_76 rfl ?_
    refine g_get dX0_atomOf_77 fX0_54 a11 rfl ?_
    refine b_iconst (v := nI 3) dX0_atomOf_80 (by decide) ?_
    refine b_iload_n dX0_atomOf_81 rfl ?_
    refine b_imulN dX0_atomOf_82 ?_
    refine g_iald dX0_atomOf_83 a12 rfl (by omega) ?_
    exact b_iret dX0_atomOf_84 ⟨congrArg (fun z => some (Value.int z)) (hA.1 _ (by omega)), rfl⟩
  · refine b_tableIn 85 dX0_atomOf_1 (by decide) (by decide) (by rfl) (by decide) ?_
    refine b_aload_n dX0_atomOf_85 rfl ?_
    refine g_get dX0_atomOf_86 fX0_54 a11 rfl ?_
    refine b_iconst (v := nI 3) dX0_atomOf_89 (by decide) ?_
    refine b_iload_n dX0_atomOf_90 rfl ?_
    refine b_imulN dX0_atomOf_91 ?_
    refine b_iconst (v := nI 1) dX0_atomOf_92 (by decide) ?_
    refine b_iaddN dX0_atomOf_93 ?_
    refine g_iald dX0_atomOf_94 a12 rfl (by omega) ?_
    exact b_iret dX0_atomOf_95 ⟨congrArg (fun z => some (Value.int z)) (hA.1 _ (by omega)), rfl⟩
  · refine b_tableIn 96 dX0_atomOf_1 (by decide) (by decide) (by rfl) (by decide) ?_
    refine b_aload_n dX0_atomOf_96 rfl ?_
    refine g_get dX0_atomOf_97 fX0_54 a11 rfl ?_
    refine b_iconst (v := nI 3) dX0_atomOf_100 (by decide) ?_
    refine b_iload_n dX0_atomOf_101 rfl ?_
    refine b_imulN dX0_atomOf_102 ?_
    refine b_iconst (v := nI 2) dX0_atomOf_103 (by decide) ?_
    refine b_iaddN dX0_atomOf_104 ?_
    refine g_iald dX0_atomOf_105 a12 rfl (by omega) ?_
    exact b_iret dX0_atomOf_106 ⟨congrArg (fun z => some (Value.int z)) (hA.1 _ (by omega)), rfl⟩
def jKl : List Nat := [43, 45, 42, 61, 60, 62, 111, 112]
theorem c_joined {G : GT} {d : Nat} {h : HT} {c n : Nat} {x y : Int32} (hc : 3000 ≤ c) (hc8 : c < 3008) (hn : n = jKl.getD (c - 3000) 0) : Fn G (d + 2) mX0_joined [.int (nI n), .int x, .int y] h (Ret (some (.int (bnF c x y))) h) := by
  refine fn_of (ls := [some (.int (nI n)), some (.int x), some (.int y)]) (by decide +kernel) (Nat.le_of_ble_eq_true rfl) 0 rfl ?_
  refine b_iload_n dX0_joined_0 rfl ?_
  rcases (show c = 3000 ∨ c = 3001 ∨ c = 3002 ∨ c = 3003 ∨ c = 3004 ∨ c = 3005 ∨ c = 3006 ∨ c = 3007 by omega) with rfl | rfl | rfl | rfl | rfl | rfl | rfl | rfl
  · have hn2 : n = 43 := by rw [hn]; decide
    subst hn2
    refine b_lookup (off := 67) 68 dX0_joined_1 (by decide) (by decide) (by decide) ?_
    refine b_iload_n dX0_joined_68 rfl ?_
    refine b_i2l dX0_joined_69 ?_
    refine b_iload_n dX0_joined_70 rfl ?_
    refine b_i2l dX0_joined_71 ?_
    refine b_ladd dX0_joined_72 ?_
    refine b_callSr [.long (x.toInt64 + y.toInt64)] dX0_joined_73 kX0_kept lX0_63 c_kept rfl rfl (Nat.le_of_ble_eq_true rfl) ?_
    exact b_iret dX0_joined_76 ⟨by simp [bnF], rfl⟩
  · have hn2 : n = 45 := by rw [hn]; decide
    subst hn2
    refine b_lookup (off := 76) 77 dX0_joined_1 (by decide) (by decide) (by decide) ?_
    refine b_iload_n dX0_joined_77 rfl ?_
    refine b_i2l dX0_joined_78 ?_
    refine b_iload_n dX0_joined_79 rfl ?_
    refine b_i2l dX0_joined_80 ?_
    refine b_lsub dX0_joined_81 ?_
    refine b_callSr [.long (x.toInt64 - y.toInt64)] dX0_joined_82 kX0_kept lX0_63 c_kept rfl rfl (Nat.le_of_ble_eq_true rfl) ?_
    exact b_iret dX0_joined_85 ⟨by simp [bnF], rfl⟩
  · have hn2 : n = 42 := by rw [hn]; decide
    subst hn2
    refine b_lookup (off := 85) 86 dX0_joined_1 (by decide) (by decide) (by decide) ?_
    refine b_iload_n dX0_joined_86 rfl ?_
    refine b_i2l dX0_joined_87 ?_
    refine b_iload_n dX0_joined_88 rfl ?_
    refine b_i2l dX0_joined_89 ?_
    refine b_lmul dX0_joined_90 ?_
    refine b_callSr [.long (x.toInt64 * y.toInt64)] dX0_joined_91 kX0_kept lX0_63 c_kept rfl rfl (Nat.le_of_ble_eq_true rfl) ?_
    exact b_iret dX0_joined_94 ⟨by simp [bnF], rfl⟩
  · have hn2 : n = 61 := by rw [hn]; decide
    subst hn2
    refine b_lookup (off := 94) 95 dX0_joined_1 (by decide) (by decide) (by decide) ?_
    refine b_iload_n dX0_joined_95 rfl ?_
    refine b_iload_n dX0_joined_96 rfl ?_
    refine b_icmp_ne 104 dX0_joined_97 (by decide) (fun c1 => ?_) (fun c1 => ?_)
    · skip
      refine b_iconst (v := nI 0) dX0_joined_104 (by decide) ?_
      exact b_iret dX0_joined_105 ⟨by simp [bnF, c1, bI], rfl⟩
    · skip
      refine b_iconst (v := nI 1) dX0_joined_100 (by decide) ?_
      refine b_goto 105 dX0_joined_101 (by decide) ?_
      exact b_iret dX0_joined_105 ⟨by simp [bnF, c1, bI], rfl⟩
  · have hn2 : n = 60 := by rw [hn]; decide
    subst hn2
    refine b_lookup (off := 105) 106 dX0_joined_1 (by decide) (by decide) (by decide) ?_
    refine b_iload_n dX0_joined_106 rfl ?_
    refine b_iload_n dX0_joined_107 rfl ?_
    refine b_icmp_ge 115 dX0_joined_108 (by decide) (fun c1 => ?_) (fun c1 => ?_)
    · skip
      refine b_iconst (v := nI 0) dX0_joined_115 (by decide) ?_
      exact b_iret dX0_joined_116 ⟨by simp [bnF, Int32.not_lt.mpr c1, bI], rfl⟩
    · skip
      refine b_iconst (v := nI 1) dX0_joined_111 (by decide) ?_
      refine b_goto 116 dX0_joined_112 (by decide) ?_
      exact b_iret dX0_joined_116 ⟨by simp [bnF, Int32.not_le.mp c1, bI], rfl⟩
  · have hn2 : n = 62 := by rw [hn]; decide
    subst hn2
    refine b_lookup (off := 116) 117 dX0_joined_1 (by decide) (by decide) (by decide) ?_
    refine b_iload_n dX0_joined_117 rfl ?_
    refine b_iload_n dX0_joined_118 rfl ?_
    refine b_icmp_le 126 dX0_joined_119 (by decide) (fun c1 => ?_) (fun c1 => ?_)
    · skip
      refine b_iconst (v := nI 0) dX0_joined_126 (by decide) ?_
      exact b_iret dX0_joined_127 ⟨by simp [bnF, Int32.not_lt.mpr c1, bI], rfl⟩
    · skip
      refine b_iconst (v := nI 1) dX0_joined_122 (by decide) ?_
      refine b_goto 127 dX0_joined_123 (by decide) ?_
      exact b_iret dX0_joined_127 ⟨by simp [bnF, Int32.not_le.mp c1, bI], rfl⟩
  · have hn2 : n = 111 := by rw [hn]; decide
    subst hn2
    refine b_lookup (off := 127) 128 dX0_joined_1 (by decide) (by decide) (by decide) ?_
    refine b_iload_n dX0_joined_128 rfl ?_
    refine b_iload_n dX0_joined_129 rfl ?_
    refine b_iand dX0_joined_130 ?_
    exact b_iret dX0_joined_131 ⟨by simp [bnF], rfl⟩
  · have hn2 : n = 112 := by rw [hn]; decide
    subst hn2
    refine b_lookup (off := 131) 132 dX0_joined_1 (by decide) (by decide) (by decide) ?_
    refine b_iload_n dX0_joined_132 rfl ?_
    refine b_iload_n dX0_joined_133 rfl ?_
    refine b_ior dX0_joined_134 ?_
    exact b_iret dX0_joined_135 ⟨by simp [bnF], rfl⟩
theorem at_ccd : ∀ k, k < 15 → isAt k = true → ccd (1000 + k) < 0 ∧ -(ccd (1000 + k)) = nI (cK k) ∧ isA (cK k) = true ∧ cK k < 200 := by decide +kernel
theorem bn_ccd : ∀ i, i < 8 → ccd (3000 + i) < 0 ∧ -(ccd (3000 + i)) = nI (jKl.getD i 0) ∧ isA (jKl.getD i 0) = false ∧ jKl.getD i 0 < 200 ∧ ccd (3000 + i) ≠ -110 := by decide +kernel
theorem tyS_push {c : Nat} {t u : List Bool} (hc : c < 3000) (h : tyS c t = some u) : t.length < 64 ∧ u.length = t.length + 1 := by
  unfold tyS at h
  rw [if_pos hc] at h
  split at h
  · cases h; exact ⟨by assumption, rfl⟩
  · cases h
theorem tyS_not {t u : List Bool} (h : tyS 3008 t = some u) : 1 ≤ t.length ∧ u.length = t.length := by
  match t, h with
  | true :: r, h => cases h; exact ⟨by simp, rfl⟩
  | [], h => cases h
  | false :: r, h => cases h
theorem tyS_bin {c : Nat} {t u : List Bool} (h1 : 3000 ≤ c) (h2 : c < 3008) (h : tyS c t = some u) : 2 ≤ t.length ∧ u.length + 1 = t.length := by
  unfold tyS at h
  rw [if_neg (by omega), if_neg (by omega)] at h
  split at h
  · split at h
    · cases h; exact ⟨by simp, by simp⟩
    · cases h
  · split at h
    · split at h
      · cases h; exact ⟨by simp, by simp⟩
      · cases h
    · split at h
      · cases h; exact ⟨by simp, by simp⟩
      · cases h
theorem nI_m (n : Nat) : nI (n + 1) + Int32.ofInt (-1) = nI n := by
  rw [show Int32.ofInt (-1) = -1 by decide, ← Int32.sub_eq_add_neg]
  exact nI_pred n
theorem c_valueIn {G : GT} {d : Nat} {σ : ST} {μ : SL} {L : LD} {w a e : Nat} {cs : List Nat} (hA : LdA σ L) (hw : w < 16) (hae : a + cs.length = e) (he : e ≤ 901) (hcs : ∀ j c, cs[j]? = some c → σ 8 (a + j) = ccd c) (hok : ∀ c ∈ cs, cOk c = true) (hty : tyL cs [] = some [true]) : Fn G (d + 3) mX0_valueIn [.ref (G.b0 + 7), .ref (G.b0 + 11), .int (nI w), .int (nI a), .int (nI e)] (sh G σ μ) (fun r h' => r = some (.int ((evL L w cs []).headD 0)) ∧ ∃ s : ST, h' = sh G s μ ∧ ∀ c, c ≠ 10 → s c = σ c) := by
  refine fn_of (ls := [some (.ref (G.b0 + 7)), some (.ref (G.b0 + 11)), some (.int (nI w)), some (.int (nI a)), some (.int (nI e)), none, none, none]) (by decide +kernel) (Nat.le_of_ble_eq_true rfl) 3 rfl ?_
  refine b_iconst (v := nI 0) dX0_valueIn_0 (by decide) ?_
  refine b_istore dX0_valueIn_1 (by decide) rfl ?_
  refine b_iload_n dX0_valueIn_3 rfl ?_
  refine b_istore dX0_valueIn_4 (by decide) rfl ?_
  have lp : ∀ (cs' : List Nat) (i : Nat) (st : List Int32) (t : List Bool) (s : ST) (z7 : Option Value), i + cs'.length = e → (∀ j c, cs'[j]? = some c → σ 8 (i + j) = ccd c) → (∀ c ∈ cs', cOk c = true) → tyL cs' t = some [true] → t.length = st.length → t.length ≤ 64 → stM (s 10) st → (∀ c, c ≠ 10 → s c = σ c) → evL L w cs' st = evL L w cs [] → BB G RX0 cX0_valueIn 8 (some .int) (d + 3) (QM G (fun r h' => r = some (.int ((evL L w cs []).headD 0)) ∧ ∃ s : ST, h' = sh G s μ ∧ ∀ c, c ≠ 10 → s c = σ c)) 6 [some (.ref (G.b0 + 7)), some (.ref (G.b0 + 11)), some (.int (nI w)), some (.int (nI a)), some (.int (nI e)), some (.int (nI st.length)), some (.int (nI i)), z7] [] (sh G s μ) := by
    intro cs'
    induction cs' with
    | nil =>
      intro i st t s z7 hi hc hok hty htl h64 hm hs hE
      refine b_iload dX0_valueIn_6 rfl ?_
      refine b_iload dX0_valueIn_8 rfl ?_
      refine b_icmp_ge_t 156 dX0_valueIn_10 (by decide) (nI_le (by simp at hi; omega) (by omega)) ?_
      refine b_aload_n dX0_valueIn_156 rfl ?_
      refine g_get dX0_valueIn_157 fX0_18 a7 rfl ?_
      refine b_iconst (v := nI 0) dX0_valueIn_160 (by decide) ?_
      refine g_iald dX0_valueIn_161 a10 rfl (by omega) ?_
      have ht1 : t = [true] := by simpa [tyL] using hty
      subst ht1
      match st, htl, hm, hE with
      | [v], _, hm, hE =>
        exact b_iret dX0_valueIn_162 ⟨by rw [← hE]; exact congrArg (fun z => some (Value.int z)) hm.1, s, rfl, hs⟩
    | cons c cs' ih =>
      intro i st t s z7 hi hc hok hty htl h64 hm hs hE
      have hi' : i + 1 + cs'.length = e := by simp at hi; omega
      have hc0 : s 8 i = ccd c := by rw [hs 8 (by omega)]; simpa using hc 0 c rfl
      have hcn : ∀ j x, cs'[j]? = some x → σ 8 (i + 1 + j) = ccd x := fun j x hj => by
        have := hc (j + 1) x (by simpa using hj)
        rw [show i + 1 + j = i + (j + 1) by omega]; exact this
      have hokn : ∀ x ∈ cs', cOk x = true := fun x hx => hok x (List.mem_cons_of_mem _ hx)
      have hokc := hok c List.mem_cons_self
      obtain ⟨u, hu, htn⟩ : ∃ u, tyS c t = some u ∧ tyL cs' u = some [true] := by
        rw [tyL] at hty
        cases hq : tyS c t with
        | none => rw [hq] at hty; cases hty
        | some u => rw [hq] at hty; exact ⟨u, rfl, hty⟩
      have hEn : evL L w cs' (evS L w c st) = evL L w cs [] := hE
      refine b_iload dX0_valueIn_6 rfl ?_
      refine b_iload dX0_valueIn_8 rfl ?_
      refine b_icmp_ge_f 156 dX0_valueIn_10 (by decide) (nI_ge (by omega) (by omega)) ?_
      refine b_aload_n dX0_valueIn_13 rfl ?_
      refine g_get dX0_valueIn_14 fX0_9 a7 rfl ?_
      refine b_iload dX0_valueIn_17 rfl ?_
      refine g_iald dX0_valueIn_19 a8 rfl (by omega) ?_
      rw [hc0]
      refine b_istore dX0_valueIn_20 (by decide) rfl ?_
      refine b_iload dX0_valueIn_22 rfl ?_
      -- what stands when a value is pushed
      have psh : ∀ v, t.length < 64 → u.length = t.length + 1 → evS L w c st = v :: st → ∀ z7 : Option Value, BB G RX0 cX0_valueIn 8 (some .int) (d + 3) (QM G (fun r h' => r = some (.int ((evL L w cs []).headD 0)) ∧ ∃ s : ST, h' = sh G s μ ∧ ∀ c, c ≠ 10 → s c = σ c)) 67 [some (.ref (G.b0 + 7)), some (.ref (G.b0 + 11)), some (.int (nI w)), some (.int (nI a)), some (.int (nI e)), some (.int (nI st.length)), some (.int (nI i)), z7] [.int v, .int (nI st.length), .ref (G.b0 + 10)] (sh G s μ) := by
        intro v h1 h2 h3 z7
        refine g_iast dX0_valueIn_67 a10 rfl (by omega) ?_
        refine b_iinc dX0_valueIn_68 rfl (nI_1 _) (by decide) rfl ?_
        refine b_goto 150 dX0_valueIn_71 (by decide) ?_
        refine b_iinc dX0_valueIn_150 rfl (nI_1 _) (by decide) rfl ?_
        refine b_goto 6 dX0_valueIn_153 (by decide) ?_
        refine ih (i + 1) (v :: st) u _ _ hi' hcn hokn htn (by simp; omega) (by omega) ⟨pt_s _ _ _ _, stM_pt st (Nat.le_refl _) hm⟩ (fun x hx => by rw [pt_r hx]; exact hs x hx) (by rw [← h3]; exact hEn)
      simp only [cOk, Bool.or_eq_true, Bool.and_eq_true, decide_eq_true_eq] at hokc
      rcases hokc with (h1 | ⟨h1, h2⟩) | ⟨h1, h2⟩
      · obtain ⟨g1, g2⟩ := tyS_push (by omega) hu
        have ec : ccd c = nI c := by rw [ccd, if_pos h1]
        rw [ec]
        refine b_if_ge_t 36 dX0_valueIn_24 (by decide) (nI_pos' (by omega)) ?_
        refine b_iload dX0_valueIn_36 rfl ?_
        refine b_bipush (v := nI 64) dX0_valueIn_38 (by decide) ?_
        refine b_icmp_ge_f 150 dX0_valueIn_40 (by decide) (nI_ge (by omega) (by omega)) ?_
        refine b_aload_n dX0_valueIn_43 rfl ?_
        refine g_get dX0_valueIn_44 fX0_18 a7 rfl ?_
        refine b_iload dX0_valueIn_47 rfl ?_
        refine b_iload dX0_valueIn_49 rfl ?_
        refine b_if_lt_f 59 dX0_valueIn_51 (by decide) (nI_pos (by omega)) ?_
        refine b_iload dX0_valueIn_54 rfl ?_
        refine b_goto 67 dX0_valueIn_56 (by decide) ?_
        exact psh (nI c) g1 g2 (by unfold evS; rw [if_pos h1]) _
      · have h15 := isAt_lt h2
        have ecc : c = 1000 + (c - 1000) := by omega
        obtain ⟨g1, g2⟩ := tyS_push (by omega) hu
        obtain ⟨a1, a2, a3, a4⟩ := at_ccd (c - 1000) h15 h2
        rw [← ecc] at a1 a2
        refine b_if_ge_f 36 dX0_valueIn_24 (by decide) (Int32.not_le.mpr a1) ?_
        refine b_iload dX0_valueIn_27 rfl ?_
        refine b_ineg dX0_valueIn_29 ?_
        refine b_top a2 ?_
        refine b_callSr [.int (nI (cK (c - 1000)))] dX0_valueIn_30 kX0_isAtom lX0_40 (c_isAtom a4) rfl rfl (Nat.le_of_ble_eq_true rfl) ?_
        rw [a3]
        refine b_if_eq_f 74 dX0_valueIn_33 (by decide) (by decide) ?_
        refine b_iload dX0_valueIn_36 rfl ?_
        refine b_bipush (v := nI 64) dX0_valueIn_38 (by decide) ?_
        refine b_icmp_ge_f 150 dX0_valueIn_40 (by decide) (nI_ge (by omega) (by omega)) ?_
        refine b_aload_n dX0_valueIn_43 rfl ?_
        refine g_get dX0_valueIn_44 fX0_18 a7 rfl ?_
        refine b_iload dX0_valueIn_47 rfl ?_
        refine b_iload dX0_valueIn_49 rfl ?_
        refine b_if_lt_t 59 dX0_valueIn_51 (by decide) a1 ?_
        refine b_aload_n dX0_valueIn_59 rfl ?_
        refine b_iload_n dX0_valueIn_60 rfl ?_
        refine b_iload dX0_valueIn_61 rfl ?_
        refine b_ineg dX0_valueIn_63 ?_
        refine b_top a2 ?_
        have hAs : LdA s L := ⟨fun j hj => by rw [hs 12 (by omega)]; exact hA.1 j hj, fun w hw => by rw [hs 13 (by omega)]; exact hA.2.1 w hw, by rw [hs 11 (by omega)]; exact hA.2.2⟩
        refine b_callSr [.ref (G.b0 + 11), .int (nI w), .int (nI (cK (c - 1000)))] dX0_valueIn_64 kX0_atomOf lX0_44 (c_atomOf hAs hw h2 rfl) rfl rfl (Nat.le_of_ble_eq_true rfl) ?_
        exact psh _ g1 g2 (by unfold evS; rw [if_neg (by omega), if_pos (by omega)]) _
      · by_cases h8 : c = 3008
        · subst h8
          obtain ⟨g1, g2⟩ := tyS_not hu
          refine b_if_ge_f 36 dX0_valueIn_24 (by decide) (by decide) ?_
          refine b_iload dX0_valueIn_27 rfl ?_
          refine b_ineg dX0_valueIn_29 ?_
          refine b_top (y := nI 110) (by decide) ?_
          refine b_callSr [.int (nI 110)] dX0_valueIn_30 kX0_isAtom lX0_40 (c_isAtom (by omega)) rfl rfl (Nat.le_of_ble_eq_true rfl) ?_
          refine b_if_eq_t 74 dX0_valueIn_33 (by decide) (by decide) ?_
          refine b_iload dX0_valueIn_74 rfl ?_
          refine b_bipush (v := -110) dX0_valueIn_76 (by decide) ?_
          refine b_icmp_ne_f 110 dX0_valueIn_78 (by decide) (by decide) ?_
          refine b_iload dX0_valueIn_81 rfl ?_
          refine b_iconst (v := nI 1) dX0_valueIn_83 (by decide) ?_
          refine b_icmp_lt_f 150 dX0_valueIn_84 (by decide) (nI_nlt (by omega) (by omega)) ?_
          obtain ⟨v, r, rfl⟩ : ∃ v r, st = v :: r := by
            cases st with
            | nil => have h5 : t.length = 0 := htl; omega
            | cons v r => exact ⟨v, r, rfl⟩
          have hl : (v :: r).length = r.length + 1 := rfl
          refine b_aload_n dX0_valueIn_87 rfl ?_
          refine g_get dX0_valueIn_88 fX0_18 a7 rfl ?_
          refine b_iload dX0_valueIn_91 rfl ?_
          refine b_iconst (v := nI 1) dX0_valueIn_93 (by decide) ?_
          refine b_isub dX0_valueIn_94 ?_
          refine b_top (y := nI ((r.length + 1) - 1)) (nI_sub (by omega)) ?_
          refine b_iconst (v := nI 1) dX0_valueIn_95 (by decide) ?_
          refine b_aload_n dX0_valueIn_96 rfl ?_
          refine g_get dX0_valueIn_97 fX0_18 a7 rfl ?_
          refine b_iload dX0_valueIn_100 rfl ?_
          refine b_iconst (v := nI 1) dX0_valueIn_102 (by decide) ?_
          refine b_isub dX0_valueIn_103 ?_
          refine b_top (y := nI ((r.length + 1) - 1)) (nI_sub (by omega)) ?_
          refine g_iald dX0_valueIn_104 a10 rfl (by omega) ?_
          refine b_isub dX0_valueIn_105 ?_
          refine g_iast dX0_valueIn_106 a10 rfl (by omega) ?_
          refine b_goto 150 dX0_valueIn_107 (by decide) ?_
          refine b_iinc dX0_valueIn_150 rfl (nI_1 _) (by decide) rfl ?_
          refine b_goto 6 dX0_valueIn_153 (by decide) ?_
          have e1 : r.length + 1 - 1 = r.length := by omega
          rw [e1]
          refine ih (i + 1) ((nI 1 - v) :: r) u _ _ hi' hcn hokn htn (by simp at htl ⊢; omega) (by omega) ⟨?_, stM_pt r (Nat.le_refl _) hm.2⟩ (fun x hx => by rw [pt_r hx]; exact hs x hx) hEn
          rw [pt_s, show s (7 + 3) r.length = v from hm.1]
        · obtain ⟨g1, g2⟩ := tyS_bin h1 (by omega) hu
          have ecc : c = 3000 + (c - 3000) := by omega
          obtain ⟨a1, a2, a3, a4, a5⟩ := bn_ccd (c - 3000) (by omega)
          rw [← ecc] at a1 a2 a5
          obtain ⟨v, x, r, rfl⟩ : ∃ v x r, st = v :: x :: r := by
            match st, htl with
            | [], htl => have h5 : t.length = 0 := htl; omega
            | [_], htl => have h5 : t.length = 1 := htl; omega
            | v :: x :: r, _ => exact ⟨v, x, r, rfl⟩
          have hl2 : (v :: x :: r).length = r.length + 2 := rfl
          refine b_if_ge_f 36 dX0_valueIn_24 (by decide) (Int32.not_le.mpr a1) ?_
          refine b_iload dX0_valueIn_27 rfl ?_
          refine b_ineg dX0_valueIn_29 ?_
          refine b_top a2 ?_
          refine b_callSr [.int (nI (jKl.getD (c - 3000) 0))] dX0_valueIn_30 kX0_isAtom lX0_40 (c_isAtom a4) rfl rfl (Nat.le_of_ble_eq_true rfl) ?_
          rw [a3]
          refine b_if_eq_t 74 dX0_valueIn_33 (by decide) (by decide) ?_
          refine b_iload dX0_valueIn_74 rfl ?_
          refine b_bipush (v := -110) dX0_valueIn_76 (by decide) ?_
          refine b_icmp_ne_t 110 dX0_valueIn_78 (by decide) a5 ?_
          refine b_iload dX0_valueIn_110 rfl ?_
          refine b_iconst (v := nI 2) dX0_valueIn_112 (by decide) ?_
          refine b_icmp_lt_f 150 dX0_valueIn_113 (by decide) (nI_nlt (by omega) (by omega)) ?_
          refine b_iinc (v := nI (r.length + 1)) dX0_valueIn_116 rfl (nI_m _) (by decide) rfl ?_
          refine b_aload_n dX0_valueIn_119 rfl ?_
          refine g_get dX0_valueIn_120 fX0_18 a7 rfl ?_
          refine b_iload dX0_valueIn_123 rfl ?_
          refine b_iconst (v := nI 1) dX0_valueIn_125 (by decide) ?_
          refine b_isub dX0_valueIn_126 ?_
          refine b_top (y := nI ((r.length + 1) - 1)) (nI_sub (by omega)) ?_
          refine b_iload dX0_valueIn_127 rfl ?_
          refine b_ineg dX0_valueIn_129 ?_
          refine b_top a2 ?_
          refine b_aload_n dX0_valueIn_130 rfl ?_
          refine g_get dX0_valueIn_131 fX0_18 a7 rfl ?_
          refine b_iload dX0_valueIn_134 rfl ?_
          refine b_iconst (v := nI 1) dX0_valueIn_136 (by decide) ?_
          refine b_isub dX0_valueIn_137 ?_
          refine b_top (y := nI ((r.length + 1) - 1)) (nI_sub (by omega)) ?_
          refine g_iald dX0_valueIn_138 a10 rfl (by omega) ?_
          refine b_aload_n dX0_valueIn_139 rfl ?_
          refine g_get dX0_valueIn_140 fX0_18 a7 rfl ?_
          refine b_iload dX0_valueIn_143 rfl ?_
          refine g_iald dX0_valueIn_145 a10 rfl (by omega) ?_
          have e1 : r.length + 1 - 1 = r.length := by omega
          rw [e1]
          have hm1 : s 10 (r.length + 1) = v := hm.1
          have hm2 : s 10 r.length = x := hm.2.1
          rw [show s (7 + 3) r.length = x from hm2, show s (7 + 3) (r.length + 1) = v from hm1]
          refine b_callSr [.int (nI (jKl.getD (c - 3000) 0)), .int x, .int v] dX0_valueIn_146 kX0_joined lX0_50 (c_joined (c := c) h1 (by omega) rfl) rfl rfl (Nat.le_of_ble_eq_true rfl) ?_
          refine g_iast dX0_valueIn_149 a10 rfl (by omega) ?_
          refine b_iinc dX0_valueIn_150 rfl (nI_1 _) (by decide) rfl ?_
          refine b_goto 6 dX0_valueIn_153 (by decide) ?_
          have hev : evS L w c (v :: x :: r) = bnF c x v :: r := by
            unfold evS
            rw [if_neg (by omega), if_neg (by omega), if_neg h8]
          refine ih (i + 1) (bnF c x v :: r) u _ _ hi' hcn hokn htn (by simp at htl ⊢; omega) (by omega) ⟨pt_s _ _ _ _, stM_pt r (Nat.le_refl _) hm.2.2⟩ (fun x hx => by rw [pt_r hx]; exact hs x hx) (by rw [← hev]; exact hEn)
  exact lp cs a [] [] σ _ hae hcs hok hty rfl (by simp) trivial (fun _ _ => rfl) rfl
/-- the codes of one fact -/
def csF (cds : List Nat) (a e : Nat) : List Nat := (cds.drop a).take (e - a)
def hdF (L : LD) (cds : List Nat) (a e : Nat) : Nat → Int32
  | 0 => nI 0
  | w + 1 => if (evL L w (csF cds a e) []).headD 0 = nI 1 then hdF L cds a e w ||| (nI 1 <<< (nI w &&& 31)) else hdF L cds a e w
def fst0 (fe : Nat → Nat) (f : Nat) : Nat := if f = 0 then 0 else fe (f - 1)
/-- all facts' codes are truths, one behind the other -/
def FeOk (cds : List Nat) (fe : Nat → Nat) (F : Nat) : Prop := (∀ c ∈ cds, cOk c = true) ∧ ∀ f, f < F → fst0 fe f ≤ fe f ∧ fe f ≤ cds.length ∧ tyL (csF cds (fst0 fe f) (fe f)) [] = some [true]
theorem csF_len {cds : List Nat} {a e : Nat} (h : a ≤ e) (he : e ≤ cds.length) : (csF cds a e).length = e - a := by
  unfold csF
  rw [List.length_take, List.length_drop]
  omega
theorem csF_get {cds : List Nat} {a e j c : Nat} (h : (csF cds a e)[j]? = some c) : cds[a + j]? = some c := by
  unfold csF at h
  rw [List.getElem?_take] at h
  split at h
  · rwa [List.getElem?_drop] at h
  · cases h
theorem c_settle {G : GT} {d : Nat} {σ : ST} {μ : SL} {L : LD} {W F P : Nat} {cds : List Nat} {fe : Nat → Nat} (hL : LV σ 11 W F P) (hA : LdA σ L) (hc : ∀ j c, cds[j]? = some c → σ 8 j = ccd c) (hlen : cds.length ≤ 901) (he : ∀ f, f < F → σ 9 f = nI (fe f)) (hF : FeOk cds fe F) : Fn G (d + 4) mX0_settle [.ref (G.b0 + 7), .ref (G.b0 + 11)] (sh G σ μ) (fun r h' => r = none ∧ ∃ s : ST, h' = sh G s μ ∧ (∀ c, c ≠ 10 → c ≠ 14 → s c = σ c) ∧ ∀ f, f < F → s 14 f = hdF L cds (fst0 fe f) (fe f) W) := by
  obtain ⟨hW, hFc, hP, hW16, hF8, hP6⟩ := id hL
  refine fn_of (ls := [some (.ref (G.b0 + 7)), some (.ref (G.b0 + 11)), none, none, none]) (by decide +kernel) (Nat.le_of_ble_eq_true rfl) 3 rfl ?_
  refine b_iconst (v := nI 0) dX0_settle_0 (by decide) ?_
  refine b_istore_n dX0_settle_1 (by decide) rfl ?_
  refine b_iconst (v := nI 0) dX0_settle_2 (by decide) ?_
  refine b_istore_n dX0_settle_3 (by decide) rfl ?_
  have lp : ∀ (n f : Nat) (s : ST) (z4 : Option Value), f + n = F → (∀ c, c ≠ 10 → c ≠ 14 → s c = σ c) → (∀ g, g < f → s 14 g = hdF L cds (fst0 fe g) (fe g) W) → BB G RX0 cX0_settle 5 none (d + 4) (QM G (fun r h' => r = none ∧ ∃ s : ST, h' = sh G s μ ∧ (∀ c, c ≠ 10 → c ≠ 14 → s c = σ c) ∧ ∀ f, f < F → s 14 f = hdF L cds (fst0 fe f) (fe f) W)) 4 [some (.ref (G.b0 + 7)), some (.ref (G.b0 + 11)), some (.int (nI (fst0 fe f))), some (.int (nI f)), z4] [] (sh G s μ) := by
    intro n
    induction n with
    | zero =>
      intro f s z4 hf hs hg
      refine b_iload_n dX0_settle_4 rfl ?_
      refine b_aload_n dX0_settle_5 rfl ?_
      refine g_geti (x := nI F) dX0_settle_6 fX0_25 a11 rfl (by rw [hs 11 (by omega) (by omega)]; exact hFc) ?_
      refine b_icmp_ge_t 81 dX0_settle_9 (by decide) (nI_le (by omega) (by omega)) ?_
      exact b_vret dX0_settle_81 ⟨rfl, s, rfl, hs, fun g hgg => hg g (by omega)⟩
    | succ n ih =>
      intro f s z4 hf hs hg
      obtain ⟨f1, f2, f3⟩ := hF.2 f (by omega)
      refine b_iload_n dX0_settle_4 rfl ?_
      refine b_aload_n dX0_settle_5 rfl ?_
      refine g_geti (x := nI F) dX0_settle_6 fX0_25 a11 rfl (by rw [hs 11 (by omega) (by omega)]; exact hFc) ?_
      refine b_icmp_ge_f 81 dX0_settle_9 (by decide) (nI_ge (by omega) (by omega)) ?_
      refine b_aload_n dX0_settle_12 rfl ?_
      refine g_get dX0_settle_13 fX0_30 a11 rfl ?_
      refine b_iload_n dX0_settle_16 rfl ?_
      refine b_iconst (v := nI 0) dX0_settle_17 (by decide) ?_
      refine g_iast dX0_settle_18 a14 rfl (by omega) ?_
      refine b_iconst (v := nI 0) dX0_settle_19 (by decide) ?_
      refine b_istore dX0_settle_20 (by decide) rfl ?_
      have lp2 : ∀ (m w : Nat) (s : ST), w + m = W → (∀ c, c ≠ 10 → c ≠ 14 → s c = σ c) → (∀ g, g < f → s 14 g = hdF L cds (fst0 fe g) (fe g) W) → s 14 f = hdF L cds (fst0 fe f) (fe f) w → BB G RX0 cX0_settle 5 none (d + 4) (QM G (fun r h' => r = none ∧ ∃ s : ST, h' = sh G s μ ∧ (∀ c, c ≠ 10 → c ≠ 14 → s c = σ c) ∧ ∀ f, f < F → s 14 f = hdF L cds (fst0 fe f) (fe f) W)) 22 [some (.ref (G.b0 + 7)), some (.ref (G.b0 + 11)), some (.int (nI (fst0 fe f))), some (.int (nI f)), some (.int (nI w))] [] (sh G s μ) := by
        intro m
        induction m with
        | zero =>
          intro w s hw hs hg hh
          refine b_iload dX0_settle_22 rfl ?_
          refine b_aload_n dX0_settle_24 rfl ?_
          refine g_geti (x := nI W) dX0_settle_25 fX0_33 a11 rfl (by rw [hs 11 (by omega) (by omega)]; exact hW) ?_
          refine b_icmp_ge_t 68 dX0_settle_28 (by decide) (nI_le (by omega) (by omega)) ?_
          refine b_aload_n dX0_settle_68 rfl ?_
          refine g_get dX0_settle_69 fX0_15 a7 rfl ?_
          refine b_iload_n dX0_settle_72 rfl ?_
          refine g_iald dX0_settle_73 a9 rfl (by omega) ?_
          refine b_top (y := nI (fst0 fe (f + 1))) (by rw [show (7 : Nat) + 2 = 9 from rfl, hs 9 (by omega) (by omega), he f (by omega)]; rfl) ?_
          refine b_istore_n dX0_settle_74 (by decide) rfl ?_
          refine b_iinc dX0_settle_75 rfl (nI_1 _) (by decide) rfl ?_
          refine b_goto 4 dX0_settle_78 (by decide) ?_
          refine ih (f + 1) s _ (by omega) hs (fun g hgg => ?_)
          by_cases e : g = f
          · subst e; rw [hh, show w = W by omega]
          · exact hg g (by omega)
        | succ m ihm =>
          intro w s hw hs hg hh
          refine b_iload dX0_settle_22 rfl ?_
          refine b_aload_n dX0_settle_24 rfl ?_
          refine g_geti (x := nI W) dX0_settle_25 fX0_33 a11 rfl (by rw [hs 11 (by omega) (by omega)]; exact hW) ?_
          refine b_icmp_ge_f 68 dX0_settle_28 (by decide) (nI_ge (by omega) (by omega)) ?_
          refine b_aload_n dX0_settle_31 rfl ?_
          refine b_aload_n dX0_settle_32 rfl ?_
          refine b_iload dX0_settle_33 rfl ?_
          refine b_iload_n dX0_settle_35 rfl ?_
          refine b_aload_n dX0_settle_36 rfl ?_
          refine g_get dX0_settle_37 fX0_15 a7 rfl ?_
          refine b_iload_n dX0_settle_40 rfl ?_
          refine g_iald dX0_settle_41 a9 rfl (by omega) ?_
          refine b_top (y := nI (fe f)) (by rw [show (7 : Nat) + 2 = 9 from rfl, hs 9 (by omega) (by omega)]; exact he f (by omega)) ?_
          have hAs : LdA s L := ⟨fun j hj => by rw [hs 12 (by omega) (by omega)]; exact hA.1 j hj, fun w hw => by rw [hs 13 (by omega) (by omega)]; exact hA.2.1 w hw, by rw [hs 11 (by omega) (by omega)]; exact hA.2.2⟩
          refine g_callVp [.ref (G.b0 + 11), .int (nI w), .int (nI (fst0 fe f)), .int (nI (fe f))] dX0_settle_42 kX0_valueIn lX0_36 a7 rfl rfl (c_valueIn (d := d) (cs := csF cds (fst0 fe f) (fe f)) hAs (by omega) (by rw [csF_len f1 f2]; omega) (by omega) (fun j c hj => by rw [hs 8 (by omega) (by omega)]; exact hc _ c (csF_get hj)) (fun c hcc => hF.1 c (List.mem_of_mem_drop (List.mem_of_mem_take hcc))) f3) rfl rfl (Nat.le_of_ble_eq_true rfl) ?_
          rintro r h9 ⟨rfl, s2, rfl, hs2⟩
          have hs3 : ∀ c, c ≠ 10 → c ≠ 14 → s2 c = σ c := fun c h1 h2 => by rw [hs2 c h1]; exact hs c h1 h2
          refine b_iconst (v := nI 1) dX0_settle_45 (by decide) ?_
          refine b_icmp_ne 62 dX0_settle_46 (by decide) (fun c1 => ?_) (fun c1 => ?_)
          · skip
            refine b_iinc dX0_settle_62 rfl (nI_1 _) (by decide) rfl ?_
            refine b_goto 22 dX0_settle_65 (by decide) ?_
            refine ihm (w + 1) s2 (by omega) hs3 (fun g hgg => by rw [hs2 14 (by omega)]; exact hg g hgg) ?_
            rw [hs2 14 (by omega), hh, hdF, if_neg c1]
          · skip
            refine b_aload_n dX0_settle_49 rfl ?_
            refine g_get dX0_settle_50 fX0_30 a11 rfl ?_
            refine b_iload_n dX0_settle_53 rfl ?_
            refine b_dup2 dX0_settle_54 rfl rfl ?_
            refine g_iald dX0_settle_55 a14 rfl (by omega) ?_
            refine b_iconst (v := nI 1) dX0_settle_56 (by decide) ?_
            refine b_iload dX0_settle_57 rfl ?_
            refine b_ishl dX0_settle_59 ?_
            refine b_ior dX0_settle_60 ?_
            refine g_iast dX0_settle_61 a14 rfl (by omega) ?_
            refine b_iinc dX0_settle_62 rfl (nI_1 _) (by decide) rfl ?_
            refine b_goto 22 dX0_settle_65 (by decide) ?_
            refine ihm (w + 1) _ (by omega) (fun c h1 h2 => by rw [pt_r h2]; exact hs3 c h1 h2) (fun g hgg => by rw [pt_j (by omega), hs2 14 (by omega)]; exact hg g hgg) ?_
            rw [pt_s, show (11 : Nat) + 3 = 14 from rfl, hs2 14 (by omega), hh, hdF, if_pos c1]
      refine lp2 W 0 _ (by omega) (fun c h1 h2 => by rw [pt_r h2]; exact hs c h1 h2) (fun g hgg => by rw [pt_j (by omega)]; exact hg g hgg) (pt_s _ _ _ _)
  exact lp F 0 σ _ (by omega) (fun _ _ _ => rfl) (fun g hg => absurd hg (by omega))

