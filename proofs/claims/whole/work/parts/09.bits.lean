/-! ===== Int32 by its bits: bt x i ===== -/
def bt (x : Int32) (i : Nat) : Bool := x.toBitVec.getLsbD i
theorem b_ext {x y : Int32} (h : ∀ i, i < 32 → bt x i = bt y i) : x = y := Int32.toBitVec_inj.mp (BitVec.eq_of_getLsbD_eq (fun i hi => h i hi))
theorem b_or (x y : Int32) (i : Nat) : bt (x ||| y) i = (bt x i || bt y i) := by unfold bt; rw [Int32.toBitVec_or, BitVec.getLsbD_or]
theorem b_and (x y : Int32) (i : Nat) : bt (x &&& y) i = (bt x i && bt y i) := by unfold bt; rw [Int32.toBitVec_and, BitVec.getLsbD_and]
theorem b_xor (x y : Int32) (i : Nat) : bt (x ^^^ y) i = (bt x i ^^ bt y i) := by unfold bt; rw [Int32.toBitVec_xor, BitVec.getLsbD_xor]
theorem b_big {x : Int32} {i : Nat} (h : 32 ≤ i) : bt x i = false := BitVec.getLsbD_of_ge _ _ h
theorem b_255 (i : Nat) : bt 255 i = decide (i < 8) := by
  rcases Nat.lt_or_ge i 32 with h | h
  · exact (by decide +kernel : ∀ i, i < 32 → bt 255 i = decide (i < 8)) i h
  · rw [b_big h, decide_eq_false (by omega)]
theorem b_65535 (i : Nat) : bt 65535 i = decide (i < 16) := by
  rcases Nat.lt_or_ge i 32 with h | h
  · exact (by decide +kernel : ∀ i, i < 32 → bt 65535 i = decide (i < 16)) i h
  · rw [b_big h, decide_eq_false (by omega)]
theorem b_m1 : ∀ i, i < 32 → bt (-1) i = true := by decide +kernel
theorem b_0 (i : Nat) : bt 0 i = false := BitVec.getLsbD_zero
theorem s_l : ∀ n, n < 32 → ((nI n &&& 31).toBitVec.smod 32).toNat = n := by decide +kernel
theorem s_u : ∀ n, n < 32 → (((nI n).toUInt32 &&& Int32.toUInt32 31).toBitVec % 32).toNat = n := by decide +kernel
theorem b_shl (n : Nat) (hn : n < 32) (x : Int32) {i : Nat} (hi : i < 32) : bt (x <<< (nI n &&& 31)) i = (decide (n ≤ i) && bt x (i - n)) := by
  unfold bt
  rw [Int32.toBitVec_shiftLeft]
  show (x.toBitVec <<< ((nI n &&& 31).toBitVec.smod 32).toNat).getLsbD i = _
  rw [s_l n hn, BitVec.getLsbD_shiftLeft]
  rcases Nat.lt_or_ge i n with h | h
  · simp [h, Nat.not_le.mpr h]
  · simp [hi, h, Nat.not_lt.mpr h]
theorem b_ushr (n : Nat) (hn : n < 32) (x : Int32) (i : Nat) : bt ((x.toUInt32 >>> ((nI n).toUInt32 &&& Int32.toUInt32 31)).toInt32) i = bt x (n + i) := by
  show (x.toUInt32 >>> ((nI n).toUInt32 &&& Int32.toUInt32 31)).toBitVec.getLsbD i = x.toUInt32.toBitVec.getLsbD (n + i)
  rw [UInt32.toBitVec_shiftRight]
  show (x.toUInt32.toBitVec >>> (((nI n).toUInt32 &&& Int32.toUInt32 31).toBitVec % 32).toNat).getLsbD i = _
  rw [s_u n hn, BitVec.getLsbD_ushiftRight]
theorem b_sshr (n : Nat) (hn : n < 32) (x : Int32) {i : Nat} (hi : i < 32) : bt (x >>> (nI n &&& 31)) i = if n + i < 32 then bt x (n + i) else bt x 31 := by
  unfold bt
  rw [Int32.toBitVec_shiftRight]
  show (x.toBitVec.sshiftRight ((nI n &&& 31).toBitVec.smod 32).toNat).getLsbD i = _
  rw [s_l n hn, BitVec.getLsbD_sshiftRight, BitVec.msb_eq_getLsbD_last]
  simp [hi]

theorem nI_k (a k : Nat) : nI a + Int32.ofInt (k : Int) = nI (a + k) := by
  rw [← nI_add]
  rfl
section NRules
variable {G : GT} {own : String} {cc : ByteArray} {nL : Nat} {ret : Option FieldType} {d : Nat} {Q : QT} {pc : Nat} {ls : LT} {st : List Value} {h : HT}
theorem b_iaddN {x y : Nat} (hd : decode cc pc = .ok (.iadd, 1)) (k : BB G own cc nL ret d Q (pc + 1) ls (.int (nI (x + y)) :: st) h) : BB G own cc nL ret d Q pc ls (.int (nI y) :: .int (nI x) :: st) h := by
  refine b_iadd hd ?_
  rw [nI_add]; exact k
theorem b_imulN {x y : Nat} (hd : decode cc pc = .ok (.imul, 1)) (k : BB G own cc nL ret d Q (pc + 1) ls (.int (nI (x * y)) :: st) h) : BB G own cc nL ret d Q pc ls (.int (nI y) :: .int (nI x) :: st) h := by
  refine b_imul hd ?_
  rw [pk_mul]; exact k
/-- another name for the value on top -/
theorem b_top {x y : Int32} (e : x = y) (k : BB G own cc nL ret d Q pc ls (.int y :: st) h) : BB G own cc nL ret d Q pc ls (.int x :: st) h := by rw [e]; exact k
theorem b_top2 {x y : Int32} {v : Value} (e : x = y) (k : BB G own cc nL ret d Q pc ls (v :: .int y :: st) h) : BB G own cc nL ret d Q pc ls (v :: .int x :: st) h := by rw [e]; exact k
theorem b_topJ {x y : Int64} (e : x = y) (k : BB G own cc nL ret d Q pc ls (.long y :: st) h) : BB G own cc nL ret d Q pc ls (.long x :: st) h := by rw [e]; exact k
theorem b_heap {h h' : HT} (e : h = h') (k : BB G own cc nL ret d Q pc ls st h') : BB G own cc nL ret d Q pc ls st h := by rw [e]; exact k
end NRules
theorem b_1 (i : Nat) : bt (nI 1) i = decide (i = 0) := by
  rcases Nat.lt_or_ge i 32 with h | h
  · exact (by decide +kernel : ∀ i, i < 32 → bt (nI 1) i = decide (i = 0)) i h
  · rw [b_big h, decide_eq_false (by omega)]
theorem b_n0 (i : Nat) : bt (nI 0) i = false := b_0 i
theorem b_one (x : Int32) : x &&& nI 1 = nI 1 ↔ bt x 0 = true := by
  constructor
  · intro h
    have := congrArg (fun z => bt z 0) h
    simpa [b_and, b_1] using this
  · intro h
    apply b_ext
    intro i hi
    rw [b_and, b_1]
    by_cases h0 : i = 0
    · subst h0; simp [h]
    · simp [h0]
theorem b_one0 (x : Int32) : x &&& nI 1 = if bt x 0 then nI 1 else nI 0 := by
  apply b_ext
  intro i hi
  rw [b_and, b_1]
  by_cases h0 : i = 0
  · subst h0
    cases h : bt x 0 <;> simp [b_1, b_n0]
  · cases h : bt x 0 <;> simp [b_1, b_n0, h0]
/-- the bit k of x, as (x >> k & 1) == 1 asks it -/
theorem b_test {x : Int32} {k : Nat} (hk : k < 32) : (x >>> (nI k &&& 31)) &&& nI 1 = nI 1 ↔ bt x k = true := by
  rw [b_one, b_sshr k hk x (by omega)]
  simp [hk]
theorem b_testv {x : Int32} {k : Nat} (hk : k < 32) : (x >>> (nI k &&& 31)) &&& nI 1 = if bt x k then nI 1 else nI 0 := by
  rw [b_one0, b_sshr k hk x (by omega)]
  simp [hk]
/-- 1 << k -/
theorem b_bit {k : Nat} (hk : k < 32) {i : Nat} (hi : i < 32) : bt (nI 1 <<< (nI k &&& 31)) i = decide (i = k) := by
  rw [b_shl k hk _ hi, b_1]
  by_cases h : i = k
  · subst h; simp
  · by_cases h2 : k ≤ i
    · have : ¬ i - k = 0 := by omega
      simp [h, h2, this]
    · simp [h, h2]
section MoreRules
variable {G : GT} {own : String} {cc : ByteArray} {nL : Nat} {ret : Option FieldType} {d : Nat} {Q : QT} {pc : Nat} {ls : LT} {st : List Value} {h : HT}
theorem b_ldcw {i : Nat} {v : Int32} (hd : decode cc pc = .ok (.ldc_w i, 3)) (hw : Cond.constant own i v ∈ TB) (k : BB G own cc nL ret d Q (pc + 3) ls (.int v :: st) h) : BB G own cc nL ret d Q pc ls st h :=
  fun p e R s m args below meth c cells slots E H locs lsA hH hS hl => lv_ldcw E.1 E.2.1 E.2.2.2.2.2.1 (E.2.2.2.2.2.2.1 _ hw) hd (k p e R s m args below meth c cells slots E H locs lsA hH hS hl)
end MoreRules
def bI (b : Bool) : Int32 := if b then nI 1 else nI 0
theorem bI_n (b : Bool) : narrow .boolean (.int (bI b)) = .int (bI b) := by cases b <;> decide
theorem bI_0 (b : Bool) : bI b = 0 ↔ b = false := by cases b <;> decide
theorem bI_1 (b : Bool) : ¬ bI b = 0 ↔ b = true := by cases b <;> decide
def cnt (x : Int32) : Nat → Nat
  | 0 => 0
  | k + 1 => cnt x k + if bt x k then 1 else 0
theorem cnt_le (x : Int32) : ∀ k, cnt x k ≤ k
  | 0 => Nat.le_refl 0
  | k + 1 => by
    have := cnt_le x k
    unfold cnt
    split <;> omega
theorem pck_all : ∀ n, pck n = true → ∀ h, h < n → ∀ k, k < 256 → pcn (256 * h + k) = ctn (256 * h + k)
  | 0, _, h, hh, _, _ => absurd hh (Nat.not_lt_zero h)
  | n + 1, hp, h, hh, k, hk => by
    simp only [pck, Bool.and_eq_true] at hp
    rcases Nat.lt_or_ge h n with q | q
    · exact pck_all n hp.1 h q k hk
    · have e : h = n := by omega
      subst e
      have key : ∀ m, pck.go h m = true → ∀ k, k < m → pcn (256 * h + k) = ctn (256 * h + k) := by
        intro m
        induction m with
        | zero => intro _ k hk; omega
        | succ m ih =>
          intro hg k hk
          simp only [pck.go, Bool.and_eq_true] at hg
          rcases Nat.lt_or_ge k m with q2 | q2
          · exact ih hg.1 k q2
          · have e2 : k = m := by omega
            subst e2
            exact Nat.eq_of_beq_eq_true hg.2
      exact key 256 hp.2 k hk
theorem pcn_ok {n : Nat} (h : n < 65536) : pcn n = ctn n := by
  have := pck_all 256 pck_ok (n / 256) (by omega) (n % 256) (by omega)
  rwa [show 256 * (n / 256) + n % 256 = n by omega] at this
theorem bt_nI {n k : Nat} (hk : k < 32) : bt (nI n) k = n.testBit k := by
  show (BitVec.ofNat 32 n).getLsbD k = _
  rw [BitVec.getLsbD_ofNat]
  simp [hk]
theorem cnt_ctn (n : Nat) : cnt (nI n) 16 = ctn n := by
  have e : ∀ k, k < 16 → (if bt (nI n) k then 1 else 0) = n / 2 ^ k % 2 := by
    intro k hk
    rw [bt_nI (by omega), Nat.testBit_eq_decide_div_mod_eq]
    rcases Nat.mod_two_eq_zero_or_one (n / 2 ^ k) with h | h <;> simp [h]
  simp only [cnt, e 0 (by omega), e 1 (by omega), e 2 (by omega), e 3 (by omega), e 4 (by omega), e 5 (by omega), e 6 (by omega), e 7 (by omega), e 8 (by omega), e 9 (by omega), e 10 (by omega), e 11 (by omega), e 12 (by omega), e 13 (by omega), e 14 (by omega), e 15 (by omega), ctn]
  simp
/-- no bit from k on -/
def lo (k : Nat) (x : Int32) : Prop := ∀ i, k ≤ i → i < 32 → bt x i = false
theorem lo_nat {k : Nat} {x : Int32} (hk : k < 32) (h : lo k x) : ∃ n, n < 2 ^ k ∧ x = nI n := by
  refine ⟨x.toBitVec.toNat, Nat.lt_pow_two_of_testBit _ (fun i hi => ?_), ?_⟩
  · rcases Nat.lt_or_ge i 32 with q | q
    · exact h i hi q
    · exact b_big (x := x) q
  · apply Int32.toBitVec_inj.mp
    show x.toBitVec = BitVec.ofNat 32 x.toBitVec.toNat
    simp
theorem lo_and {k : Nat} {x y : Int32} (h : lo k x) : lo k (x &&& y) := fun i h1 h2 => by rw [b_and, h i h1 h2]; rfl
theorem lo_and' {k : Nat} {x y : Int32} (h : lo k y) : lo k (x &&& y) := fun i h1 h2 => by rw [b_and, h i h1 h2]; simp
theorem lo_or {k : Nat} {x y : Int32} (h : lo k x) (h' : lo k y) : lo k (x ||| y) := fun i h1 h2 => by rw [b_or, h i h1 h2, h' i h1 h2]; rfl
theorem lo_mono {k k' : Nat} {x : Int32} (h : lo k x) (hk : k ≤ k') : lo k' x := fun i h1 h2 => h i (by omega) h2
theorem lo_0 (k : Nat) : lo k (nI 0) := fun i _ _ => b_n0 i
theorem lo_bit {k j : Nat} (hj : j < k) (hk : k < 32) : lo k (nI 1 <<< (nI j &&& 31)) := fun i h1 h2 => by rw [b_bit (by omega) h2]; simp; omega
theorem nI_sub {a b : Nat} (h : b ≤ a) : nI a - nI b = nI (a - b) := pk_sub h
theorem nI_and (a b : Nat) : nI a &&& nI b = nI (a &&& b) := by
  apply Int32.toBitVec_inj.1
  show BitVec.ofNat 32 a &&& BitVec.ofNat 32 b = BitVec.ofNat 32 (a &&& b)
  apply BitVec.eq_of_getLsbD_eq
  intro i hi
  simp [hi]
theorem nI_ush {n k : Nat} (hn : n < 2 ^ 32) (hk : k < 32) : ((nI n).toUInt32 >>> ((nI k).toUInt32 &&& Int32.toUInt32 31)).toInt32 = nI (n >>> k) := by
  rw [pk_ushrN hn (nI k) k (s_u k hk), Nat.shiftRight_eq_div_pow]
theorem pc_val {n : Nat} (h : n < 65536) :
    ((let a := nI n - ((((nI n).toUInt32 >>> ((nI 1).toUInt32 &&& Int32.toUInt32 31)).toInt32) &&& 1431655765)
      let b := (a &&& 858993459) + ((a.toUInt32 >>> ((nI 2).toUInt32 &&& Int32.toUInt32 31)).toInt32 &&& 858993459)
      let c := (b + (b.toUInt32 >>> ((nI 4).toUInt32 &&& Int32.toUInt32 31)).toInt32) &&& 252645135
      let e := c + (c.toUInt32 >>> ((nI 8).toUInt32 &&& Int32.toUInt32 31)).toInt32
      (e + (e.toUInt32 >>> ((nI 16).toUInt32 &&& Int32.toUInt32 31)).toInt32) &&& nI 63)) = nI (cnt (nI n) 16) := by
  have e1 : (1431655765 : Int32) = nI 1431655765 := rfl
  have e2 : (858993459 : Int32) = nI 858993459 := rfl
  have e3 : (252645135 : Int32) = nI 252645135 := rfl
  have s1 : (n >>> 1) &&& 1431655765 ≤ n := Nat.le_trans Nat.and_le_left (by rw [Nat.shiftRight_eq_div_pow]; omega)
  have hA : n - ((n >>> 1) &&& 1431655765) < 65536 := by omega
  rw [cnt_ctn, ← pcn_ok h]
  simp only [e1, e2, e3]
  rw [nI_ush (by omega) (by omega), nI_and, nI_sub s1]
  generalize hAe : n - ((n >>> 1) &&& 1431655765) = A at hA
  have b1 : A &&& 858993459 ≤ A := Nat.and_le_left
  have b2 : (A >>> 2) &&& 858993459 ≤ A := Nat.le_trans Nat.and_le_left (by rw [Nat.shiftRight_eq_div_pow]; omega)
  rw [nI_and, nI_ush (by omega) (by omega), nI_and, nI_add]
  generalize hBe : (A &&& 858993459) + ((A >>> 2) &&& 858993459) = B
  have hB : B < 131072 := by omega
  have b3 : B >>> 4 ≤ B := by rw [Nat.shiftRight_eq_div_pow]; omega
  have b4 : (B + B >>> 4) &&& 252645135 ≤ B + B >>> 4 := Nat.and_le_left
  rw [nI_ush (by omega) (by omega), nI_add, nI_and]
  generalize hCe : (B + B >>> 4) &&& 252645135 = C at b4
  have b5 : C >>> 8 ≤ C := by rw [Nat.shiftRight_eq_div_pow]; omega
  rw [nI_ush (by omega) (by omega), nI_add]
  generalize hEe : C + C >>> 8 = E
  have b6 : E >>> 16 ≤ E := by rw [Nat.shiftRight_eq_div_pow]; omega
  rw [nI_ush (by omega) (by omega), nI_add, nI_and]
  simp only [pcn, hAe, hBe, hCe, hEe]
