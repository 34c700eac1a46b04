/-! ===== the JDK's own: bitCount, min, max, compare, fill ===== -/
theorem c_bitCountN {G : GT} {d n : Nat} {h : HT} (hn : n < 65536) : Fn G d mJ6_bitCount_0f7a4 [.int (nI n)] h (Ret (some (.int (nI (cnt (nI n) 16)))) h) := by
  refine fn_of (ls := [some (.int (nI n))]) (by decide +kernel) (Nat.le_of_ble_eq_true rfl) 0 rfl ?_
  refine b_iload_n dJ6_bitCount_0f7a4_0 rfl ?_
  refine b_iload_n dJ6_bitCount_0f7a4_1 rfl ?_
  refine b_iconst (v := nI 1) dJ6_bitCount_0f7a4_2 (by decide) ?_
  refine b_iushr dJ6_bitCount_0f7a4_3 ?_
  refine b_ldcw dJ6_bitCount_0f7a4_4 cvJ6_265 ?_
  refine b_iand dJ6_bitCount_0f7a4_7 ?_
  refine b_isub dJ6_bitCount_0f7a4_8 ?_
  refine b_istore_n dJ6_bitCount_0f7a4_9 (by decide) rfl ?_
  refine b_iload_n dJ6_bitCount_0f7a4_10 rfl ?_
  refine b_ldcw dJ6_bitCount_0f7a4_11 cvJ6_266 ?_
  refine b_iand dJ6_bitCount_0f7a4_14 ?_
  refine b_iload_n dJ6_bitCount_0f7a4_15 rfl ?_
  refine b_iconst (v := nI 2) dJ6_bitCount_0f7a4_16 (by decide) ?_
  refine b_iushr dJ6_bitCount_0f7a4_17 ?_
  refine b_ldcw dJ6_bitCount_0f7a4_18 cvJ6_266 ?_
  refine b_iand dJ6_bitCount_0f7a4_21 ?_
  refine b_iadd dJ6_bitCount_0f7a4_22 ?_
  refine b_istore_n dJ6_bitCount_0f7a4_23 (by decide) rfl ?_
  refine b_iload_n dJ6_bitCount_0f7a4_24 rfl ?_
  refine b_iload_n dJ6_bitCount_0f7a4_25 rfl ?_
  refine b_iconst (v := nI 4) dJ6_bitCount_0f7a4_26 (by decide) ?_
  refine b_iushr dJ6_bitCount_0f7a4_27 ?_
  refine b_iadd dJ6_bitCount_0f7a4_28 ?_
  refine b_ldcw dJ6_bitCount_0f7a4_29 cvJ6_267 ?_
  refine b_iand dJ6_bitCount_0f7a4_32 ?_
  refine b_istore_n dJ6_bitCount_0f7a4_33 (by decide) rfl ?_
  refine b_iload_n dJ6_bitCount_0f7a4_34 rfl ?_
  refine b_iload_n dJ6_bitCount_0f7a4_35 rfl ?_
  refine b_bipush (v := nI 8) dJ6_bitCount_0f7a4_36 (by decide) ?_
  refine b_iushr dJ6_bitCount_0f7a4_38 ?_
  refine b_iadd dJ6_bitCount_0f7a4_39 ?_
  refine b_istore_n dJ6_bitCount_0f7a4_40 (by decide) rfl ?_
  refine b_iload_n dJ6_bitCount_0f7a4_41 rfl ?_
  refine b_iload_n dJ6_bitCount_0f7a4_42 rfl ?_
  refine b_bipush (v := nI 16) dJ6_bitCount_0f7a4_43 (by decide) ?_
  refine b_iushr dJ6_bitCount_0f7a4_45 ?_
  refine b_iadd dJ6_bitCount_0f7a4_46 ?_
  refine b_istore_n dJ6_bitCount_0f7a4_47 (by decide) rfl ?_
  refine b_iload_n dJ6_bitCount_0f7a4_48 rfl ?_
  refine b_bipush (v := nI 63) dJ6_bitCount_0f7a4_49 (by decide) ?_
  refine b_iand dJ6_bitCount_0f7a4_51 ?_
  exact b_iret dJ6_bitCount_0f7a4_52 ⟨congrArg (fun z => some (Value.int z)) (pc_val hn), rfl⟩
theorem c_bitCount {G : GT} {d : Nat} {h : HT} {x : Int32} (hx : lo 16 x) : Fn G d mJ6_bitCount_0f7a4 [.int x] h (Ret (some (.int (nI (cnt x 16)))) h) := by
  obtain ⟨n, hn, rfl⟩ := lo_nat (by omega) hx
  exact c_bitCountN hn
def mMin (x y : Int32) : Int32 := if y < x then y else x
def mMax (x y : Int32) : Int32 := if x < y then y else x
theorem mx_code : Cond.code Lib.Math.max.name Lib.Math.max.code 2 (some .int) ∈ TB := by
  have e : Cond.code Lib.Math.max.name Lib.Math.max.code 2 (some .int) = Cond.code yJ9_max_7cf53 cJ9_max_7cf53 2 (some .int) := by decide +kernel
  rw [e]; exact cdJ9_max_7cf53
theorem mn_code : Cond.code Lib.Math.min.name Lib.Math.min.code 2 (some .int) ∈ TB := by
  have e : Cond.code Lib.Math.min.name Lib.Math.min.code 2 (some .int) = Cond.code yJ9_min_7cf53 cJ9_min_7cf53 2 (some .int) := by decide +kernel
  rw [e]; exact cdJ9_min_7cf53
theorem mxl_code : Cond.code Lib.MathLoose.max_long.x Lib.MathLoose.max_long.code 4 (some .long) ∈ TB := by
  have e : Cond.code Lib.MathLoose.max_long.x Lib.MathLoose.max_long.code 4 (some .long) = Cond.code yJ9_max_f86c9 cJ9_max_f86c9 4 (some .long) := by decide +kernel
  rw [e]; exact cdJ9_max_f86c9
theorem mnl_code : Cond.code Lib.MathLoose.min_long.x Lib.MathLoose.min_long.code 4 (some .long) ∈ TB := by
  have e : Cond.code Lib.MathLoose.min_long.x Lib.MathLoose.min_long.code 4 (some .long) = Cond.code yJ9_min_f86c9 cJ9_min_f86c9 4 (some .long) := by decide +kernel
  rw [e]; exact cdJ9_min_f86c9
section MathRules
variable {G : GT} {own : String} {cc : ByteArray} {nL : Nat} {ret : Option FieldType} {d : Nat} {Q : QT} {pc : Nat} {ls : LT} {st : List Value} {h : HT}
theorem b_mmax {idx : Nat} {x y : Int32} (hd : decode cc pc = .ok (.invokestatic idx, 3)) (hlk : Cond.methodLink own idx yJ9_max_7cf53 ∈ TB) (hw : (st.map fun v => v.category).sum ≤ 8) (k : BB G own cc nL ret (d + 1) Q (pc + 3) ls (.int (mMax x y) :: st) h) : BB G own cc nL ret (d + 1) Q pc ls (.int y :: .int x :: st) h :=
  fun p e R s m args below meth c cells slots E H locs lsA hH hS hl => va_mmax E.1 E.2.1 (E.2.2.1.trans hl.1.symm) E.2.2.2.2.2.1 (E.2.2.2.2.2.2.1 _ hlk) (E.2.2.2.2.2.2.1 _ stJ9_max_7cf53) (E.2.2.2.2.2.2.1 _ iniJ9) (E.2.2.2.2.2.2.1 _ mx_code) (by have := E.2.2.2.2.2.2.2.2.2.1; omega) (by have := E.2.2.2.2.2.2.2.2.2.1; omega) E.2.2.2.2.2.2.2.2.2.2.1 E.2.2.2.2.2.2.2.2.2.2.2 hd (k p e R s m args below meth c cells slots E H locs lsA hH hS hl)
theorem b_mmin {idx : Nat} {x y : Int32} (hd : decode cc pc = .ok (.invokestatic idx, 3)) (hlk : Cond.methodLink own idx yJ9_min_7cf53 ∈ TB) (hw : (st.map fun v => v.category).sum ≤ 8) (k : BB G own cc nL ret (d + 1) Q (pc + 3) ls (.int (mMin x y) :: st) h) : BB G own cc nL ret (d + 1) Q pc ls (.int y :: .int x :: st) h :=
  fun p e R s m args below meth c cells slots E H locs lsA hH hS hl => va_mmin E.1 E.2.1 (E.2.2.1.trans hl.1.symm) E.2.2.2.2.2.1 (E.2.2.2.2.2.2.1 _ hlk) (E.2.2.2.2.2.2.1 _ stJ9_min_7cf53) (E.2.2.2.2.2.2.1 _ iniJ9) (E.2.2.2.2.2.2.1 _ mn_code) (by have := E.2.2.2.2.2.2.2.2.2.1; omega) (by have := E.2.2.2.2.2.2.2.2.2.1; omega) E.2.2.2.2.2.2.2.2.2.2.1 E.2.2.2.2.2.2.2.2.2.2.2 hd (k p e R s m args below meth c cells slots E H locs lsA hH hS hl)
def mMaxL (x y : Int64) : Int64 := if y < x then x else y
def mMinL (x y : Int64) : Int64 := if y < x then y else x
theorem b_mmaxl {idx : Nat} {x y : Int64} (hd : decode cc pc = .ok (.invokestatic idx, 3)) (hlk : Cond.methodLink own idx yJ9_max_f86c9 ∈ TB) (hw : (st.map fun v => v.category).sum ≤ 8) (k : BB G own cc nL ret (d + 1) Q (pc + 3) ls (.long (mMaxL x y) :: st) h) : BB G own cc nL ret (d + 1) Q pc ls (.long y :: .long x :: st) h :=
  fun p e R s m args below meth c cells slots E H locs lsA hH hS hl => va_mmax_long E.1 E.2.1 (E.2.2.1.trans hl.1.symm) E.2.2.2.2.2.1 (E.2.2.2.2.2.2.1 _ hlk) (E.2.2.2.2.2.2.1 _ stJ9_max_f86c9) (E.2.2.2.2.2.2.1 _ iniJ9) (E.2.2.2.2.2.2.1 _ mxl_code) (by have := E.2.2.2.2.2.2.2.2.2.1; omega) (by have := E.2.2.2.2.2.2.2.2.2.1; omega) E.2.2.2.2.2.2.2.2.2.2.1 E.2.2.2.2.2.2.2.2.2.2.2 hd (k p e R s m args below meth c cells slots E H locs lsA hH hS hl)
theorem b_mminl {idx : Nat} {x y : Int64} (hd : decode cc pc = .ok (.invokestatic idx, 3)) (hlk : Cond.methodLink own idx yJ9_min_f86c9 ∈ TB) (hw : (st.map fun v => v.category).sum ≤ 8) (k : BB G own cc nL ret (d + 1) Q (pc + 3) ls (.long (mMinL x y) :: st) h) : BB G own cc nL ret (d + 1) Q pc ls (.long y :: .long x :: st) h :=
  fun p e R s m args below meth c cells slots E H locs lsA hH hS hl => va_mmin_long E.1 E.2.1 (E.2.2.1.trans hl.1.symm) E.2.2.2.2.2.1 (E.2.2.2.2.2.2.1 _ hlk) (E.2.2.2.2.2.2.1 _ stJ9_min_f86c9) (E.2.2.2.2.2.2.1 _ iniJ9) (E.2.2.2.2.2.2.1 _ mnl_code) (by have := E.2.2.2.2.2.2.2.2.2.1; omega) (by have := E.2.2.2.2.2.2.2.2.2.1; omega) E.2.2.2.2.2.2.2.2.2.2.1 E.2.2.2.2.2.2.2.2.2.2.2 hd (k p e R s m args below meth c cells slots E H locs lsA hH hS hl)
end MathRules
def mCmp (x y : Int32) : Int32 := if x < y then -1 else if x = y then nI 0 else nI 1
theorem c_compare {G : GT} {d : Nat} {h : HT} {x y : Int32} : Fn G d mJ6_compare_7cf53 [.int x, .int y] h (Ret (some (.int (mCmp x y))) h) := by
  refine fn_of (ls := [some (.int x), some (.int y)]) (by decide +kernel) (Nat.le_of_ble_eq_true rfl) 0 rfl ?_
  refine b_iload_n dJ6_compare_7cf53_0 rfl ?_
  refine b_iload_n dJ6_compare_7cf53_1 rfl ?_
  refine b_icmp_ge 9 dJ6_compare_7cf53_2 (by decide) (fun c1 => ?_) (fun c1 => ?_)
  · skip
    refine b_iload_n dJ6_compare_7cf53_9 rfl ?_
    refine b_iload_n dJ6_compare_7cf53_10 rfl ?_
    have c0 : ¬ x < y := fun z => by
      have := Int32.not_le.mpr z
      exact this c1
    refine b_icmp_ne 18 dJ6_compare_7cf53_11 (by decide) (fun c2 => ?_) (fun c2 => ?_)
    · skip
      refine b_iconst (v := nI 1) dJ6_compare_7cf53_18 (by decide) ?_
      exact b_iret dJ6_compare_7cf53_19 ⟨by simp [mCmp, c0, c2], rfl⟩
    · skip
      refine b_iconst (v := nI 0) dJ6_compare_7cf53_14 (by decide) ?_
      refine b_goto 19 dJ6_compare_7cf53_15 (by decide) ?_
      exact b_iret dJ6_compare_7cf53_19 ⟨by simp [mCmp, c0, c2], rfl⟩
  · skip
    refine b_iconst (v := -1) dJ6_compare_7cf53_5 (by decide) ?_
    refine b_goto 19 dJ6_compare_7cf53_6 (by decide) ?_
    exact b_iret dJ6_compare_7cf53_19 ⟨by simp [mCmp, Int32.not_le.mp c1], rfl⟩
/-- a row's first n places hold x -/
def flS (σ : ST) (a n : Nat) (x : Int32) : ST := fun p q => if p = a ∧ q < n then x else σ p q
theorem flS_0 (σ : ST) (a : Nat) (x : Int32) : flS σ a 0 x = σ := by funext p q; simp [flS]
theorem flS_s (σ : ST) (a n : Nat) (x : Int32) : pt (flS σ a n x) a n x = flS σ a (n + 1) x := by
  funext p q
  by_cases hp : p = a
  · by_cases hq : q = n
    · simp [pt, flS, hp, hq]
    · have : (q < n + 1) = (q < n) := by simp; omega
      simp [pt, flS, hp, hq, this]
  · simp [pt, flS, hp]
theorem c_fill {G : GT} {d : Nat} {σ : ST} {μ : SL} {a m : Nat} {x : Int32} (hA : AI G a m) : Fn G d mJ7_fill_53178 [.ref (G.b0 + a), .int x] (sh G σ μ) (Ret none (sh G (flS σ a m x) μ)) := by
  have hm := hA.2.1
  refine fn_of (ls := [some (.ref (G.b0 + a)), some (.int x), none, none]) (by decide +kernel) (Nat.le_of_ble_eq_true rfl) 2 rfl ?_
  refine b_iconst (v := nI 0) dJ7_fill_53178_0 (by decide) ?_
  refine b_istore_n dJ7_fill_53178_1 (by decide) rfl ?_
  refine b_aload_n dJ7_fill_53178_2 rfl ?_
  refine g_ilen dJ7_fill_53178_3 hA ?_
  refine b_istore_n dJ7_fill_53178_4 (by decide) rfl ?_
  have lp : ∀ (n i : Nat), i + n = m → BB G RJ7 cJ7_fill_53178 4 none d (QM G (Ret none (sh G (flS σ a m x) μ))) 5 [some (.ref (G.b0 + a)), some (.int x), some (.int (nI i)), some (.int (nI m))] [] (sh G (flS σ a i x) μ) := by
    intro n
    induction n with
    | zero =>
      intro i hi
      refine b_iload_n dJ7_fill_53178_5 rfl ?_
      refine b_iload_n dJ7_fill_53178_6 rfl ?_
      refine b_icmp_ge_t 20 dJ7_fill_53178_7 (by decide) (nI_le (by omega) (by omega)) ?_
      exact b_vret dJ7_fill_53178_20 ⟨rfl, by rw [show i = m by omega]⟩
    | succ n ih =>
      intro i hi
      refine b_iload_n dJ7_fill_53178_5 rfl ?_
      refine b_iload_n dJ7_fill_53178_6 rfl ?_
      refine b_icmp_ge_f 20 dJ7_fill_53178_7 (by decide) (nI_ge (by omega) (by omega)) ?_
      refine b_aload_n dJ7_fill_53178_10 rfl ?_
      refine b_iload_n dJ7_fill_53178_11 rfl ?_
      refine b_iload_n dJ7_fill_53178_12 rfl ?_
      refine g_iast dJ7_fill_53178_13 hA rfl (by omega) ?_
      refine b_iinc dJ7_fill_53178_14 rfl (nI_1 _) (by decide) rfl ?_
      refine b_goto 5 dJ7_fill_53178_17 (by decide) ?_
      rw [flS_s]
      exact ih (i + 1) (by omega)
  have h0 := lp m 0 (by omega)
  rw [flS_0] at h0
  exact h0
def flL (μ : SL) (a n : Nat) (x : Int64) : SL := fun p q => if p = a ∧ q < n then x else μ p q
theorem flL_0 (σ : SL) (a : Nat) (x : Int64) : flL σ a 0 x = σ := by funext p q; simp [flL]
theorem flL_s (σ : SL) (a n : Nat) (x : Int64) : ptL (flL σ a n x) a n x = flL σ a (n + 1) x := by
  funext p q
  by_cases hp : p = a
  · by_cases hq : q = n
    · simp [ptL, flL, hp, hq]
    · have : (q < n + 1) = (q < n) := by simp; omega
      simp [ptL, flL, hp, hq, this]
  · simp [ptL, flL, hp]
theorem c_fillL {G : GT} {d : Nat} {σ : ST} {μ : SL} {a m : Nat} {x : Int64} (hA : AL G a m) : Fn G d mJ7_fill_d0a16 [.ref (G.b0 + a), .long x] (sh G σ μ) (Ret none (sh G σ (flL μ a m x))) := by
  have hm := hA.2.1
  refine fn_of (ls := [some (.ref (G.b0 + a)), some (.long x), none, none, none]) (by decide +kernel) (Nat.le_of_ble_eq_true rfl) 2 rfl ?_
  refine b_iconst (v := nI 0) dJ7_fill_d0a16_0 (by decide) ?_
  refine b_istore_n dJ7_fill_d0a16_1 (by decide) rfl ?_
  refine b_aload_n dJ7_fill_d0a16_2 rfl ?_
  refine g_llen dJ7_fill_d0a16_3 hA ?_
  refine b_istore dJ7_fill_d0a16_4 (by decide) rfl ?_
  have lp : ∀ (n i : Nat), i + n = m → BB G RJ7 cJ7_fill_d0a16 5 none d (QM G (Ret none (sh G σ (flL μ a m x)))) 6 [some (.ref (G.b0 + a)), some (.long x), none, some (.int (nI i)), some (.int (nI m))] [] (sh G σ (flL μ a i x)) := by
    intro n
    induction n with
    | zero =>
      intro i hi
      refine b_iload_n dJ7_fill_d0a16_6 rfl ?_
      refine b_iload dJ7_fill_d0a16_7 rfl ?_
      refine b_icmp_ge_t 22 dJ7_fill_d0a16_9 (by decide) (nI_le (by omega) (by omega)) ?_
      exact b_vret dJ7_fill_d0a16_22 ⟨rfl, by rw [show i = m by omega]⟩
    | succ n ih =>
      intro i hi
      refine b_iload_n dJ7_fill_d0a16_6 rfl ?_
      refine b_iload dJ7_fill_d0a16_7 rfl ?_
      refine b_icmp_ge_f 22 dJ7_fill_d0a16_9 (by decide) (nI_ge (by omega) (by omega)) ?_
      refine b_aload_n dJ7_fill_d0a16_12 rfl ?_
      refine b_iload_n dJ7_fill_d0a16_13 rfl ?_
      refine b_lload_n dJ7_fill_d0a16_14 rfl ?_
      refine g_last dJ7_fill_d0a16_15 hA rfl (by omega) ?_
      refine b_iinc dJ7_fill_d0a16_16 rfl (nI_1 _) (by decide) rfl ?_
      refine b_goto 6 dJ7_fill_d0a16_19 (by decide) ?_
      rw [flL_s]
      exact ih (i + 1) (by omega)
  have h0 := lp m 0 (by omega)
  rw [flL_0] at h0
  exact h0

