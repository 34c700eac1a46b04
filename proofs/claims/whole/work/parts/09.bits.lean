/-! ===== Int32 by its bits: bt x i ===== -/
def bt (x : Int32) (i : Nat) : Bool := x.toBitVec.getLsbD i
theorem b_ext {x y : Int32} (h : ∀ i, i < 32 → bt x i = bt y i) : x = y := Int32.toBitVec_inj.mp (BitVec.eq_of_getLsbD_eq (fun i hi => h i hi))
theorem b_or (x y : Int32) (i : Nat) : bt (x ||| y) i = (bt x i || bt y i) := by unfold bt; rw [Int32.toBitVec_or, BitVec.getLsbD_or]
theorem b_and (x y : Int32) (i : Nat) : bt (x &&& y) i = (bt x i && bt y i) := by unfold bt; rw [Int32.toBitVec_and, BitVec.getLsbD_and]
theorem b_xor (x y : Int32) (i : Nat) : bt (x ^^^ y) i = (bt x i ^^ bt y i) := by unfold bt; rw [Int32.toBitVec_xor, BitVec.getLsbD_xor]
theorem b_big {x : Int32} {i : Nat} (h : 32 ≤ i) : bt x i = false := BitVec.getLsbD_of_ge _ _ h
theorem b_255 (i : Nat) : bt 255 i = decide (i < 8) := by
  rcases Nat.lt_or_ge i 32 with h | h
  · exact (by decide +kernel : ∀ i, i < 32 → bt 255 i = decide (i < 8)) i h
  · rw [b_big h, decide_eq_false (by omega)]
theorem b_65535 (i : Nat) : bt 65535 i = decide (i < 16) := by
  rcases Nat.lt_or_ge i 32 with h | h
  · exact (by decide +kernel : ∀ i, i < 32 → bt 65535 i = decide (i < 16)) i h
  · rw [b_big h, decide_eq_false (by omega)]
theorem b_m1 : ∀ i, i < 32 → bt (-1) i = true := by decide +kernel
theorem b_0 (i : Nat) : bt 0 i = false := BitVec.getLsbD_zero
theorem s_l : ∀ n, n < 32 → ((nI n &&& 31).toBitVec.smod 32).toNat = n := by decide +kernel
theorem s_u : ∀ n, n < 32 → (((nI n).toUInt32 &&& Int32.toUInt32 31).toBitVec % 32).toNat = n := by decide +kernel
theorem b_shl (n : Nat) (hn : n < 32) (x : Int32) {i : Nat} (hi : i < 32) : bt (x <<< (nI n &&& 31)) i = (decide (n ≤ i) && bt x (i - n)) := by
  unfold bt
  rw [Int32.toBitVec_shiftLeft]
  show (x.toBitVec <<< ((nI n &&& 31).toBitVec.smod 32).toNat).getLsbD i = _
  rw [s_l n hn, BitVec.getLsbD_shiftLeft]
  rcases Nat.lt_or_ge i n with h | h
  · simp [h, Nat.not_le.mpr h]
  · simp [hi, h, Nat.not_lt.mpr h]
theorem b_ushr (n : Nat) (hn : n < 32) (x : Int32) (i : Nat) : bt ((x.toUInt32 >>> ((nI n).toUInt32 &&& Int32.toUInt32 31)).toInt32) i = bt x (n + i) := by
  show (x.toUInt32 >>> ((nI n).toUInt32 &&& Int32.toUInt32 31)).toBitVec.getLsbD i = x.toUInt32.toBitVec.getLsbD (n + i)
  rw [UInt32.toBitVec_shiftRight]
  show (x.toUInt32.toBitVec >>> (((nI n).toUInt32 &&& Int32.toUInt32 31).toBitVec % 32).toNat).getLsbD i = _
  rw [s_u n hn, BitVec.getLsbD_ushiftRight]
theorem b_sshr (n : Nat) (hn : n < 32) (x : Int32) {i : Nat} (hi : i < 32) : bt (x >>> (nI n &&& 31)) i = if n + i < 32 then bt x (n + i) else bt x 31 := by
  unfold bt
  rw [Int32.toBitVec_shiftRight]
  show (x.toBitVec.sshiftRight ((nI n &&& 31).toBitVec.smod 32).toNat).getLsbD i = _
  rw [s_l n hn, BitVec.getLsbD_sshiftRight, BitVec.msb_eq_getLsbD_last]
  simp [hi]

theorem nI_k (a k : Nat) : nI a + Int32.ofInt (k : Int) = nI (a + k) := by
  rw [← nI_add]
  rfl
section NRules
variable {G : GT} {own : String} {cc : ByteArray} {nL : Nat} {ret : Option FieldType} {d : Nat} {Q : QT} {pc : Nat} {ls : LT} {st : List Value} {h : HT}
theorem b_iaddN {x y : Nat} (hd : decode cc pc = .ok (.iadd, 1)) (k : BB G own cc nL ret d Q (pc + 1) ls (.int (nI (x + y)) :: st) h) : BB G own cc nL ret d Q pc ls (.int (nI y) :: .int (nI x) :: st) h := by
  refine b_iadd hd ?_
  rw [nI_add]; exact k
theorem b_imulN {x y : Nat} (hd : decode cc pc = .ok (.imul, 1)) (k : BB G own cc nL ret d Q (pc + 1) ls (.int (nI (x * y)) :: st) h) : BB G own cc nL ret d Q pc ls (.int (nI y) :: .int (nI x) :: st) h := by
  refine b_imul hd ?_
  rw [pk_mul]; exact k
/-- another name for the value on top -/
theorem b_top {x y : Int32} (e : x = y) (k : BB G own cc nL ret d Q pc ls (.int y :: st) h) : BB G own cc nL ret d Q pc ls (.int x :: st) h := by rw [e]; exact k
theorem b_top2 {x y : Int32} {v : Value} (e : x = y) (k : BB G own cc nL ret d Q pc ls (v :: .int y :: st) h) : BB G own cc nL ret d Q pc ls (v :: .int x :: st) h := by rw [e]; exact k
theorem b_topJ {x y : Int64} (e : x = y) (k : BB G own cc nL ret d Q pc ls (.long y :: st) h) : BB G own cc nL ret d Q pc ls (.long x :: st) h := by rw [e]; exact k
theorem b_heap {h h' : HT} (e : h = h') (k : BB G own cc nL ret d Q pc ls st h') : BB G own cc nL ret d Q pc ls st h := by rw [e]; exact k
end NRules
theorem b_1 (i : Nat) : bt (nI 1) i = decide (i = 0) := by
  rcases Nat.lt_or_ge i 32 with h | h
  · exact (by decide +kernel : ∀ i, i < 32 → bt (nI 1) i = decide (i = 0)) i h
  · rw [b_big h, decide_eq_false (by omega)]
theorem b_n0 (i : Nat) : bt (nI 0) i = false := b_0 i
theorem b_one (x : Int32) : x &&& nI 1 = nI 1 ↔ bt x 0 = true := by
  constructor
  · intro h
    have := congrArg (fun z => bt z 0) h
    simpa [b_and, b_1] using this
  · intro h
    apply b_ext
    intro i hi
    rw [b_and, b_1]
    by_cases h0 : i = 0
    · subst h0; simp [h]
    · simp [h0]
theorem b_one0 (x : Int32) : x &&& nI 1 = if bt x 0 then nI 1 else nI 0 := by
  apply b_ext
  intro i hi
  rw [b_and, b_1]
  by_cases h0 : i = 0
  · subst h0
    cases h : bt x 0 <;> simp [b_1, b_n0]
  · cases h : bt x 0 <;> simp [b_1, b_n0, h0]
/-- the bit k of x, as (x >> k & 1) == 1 asks it -/
theorem b_test {x : Int32} {k : Nat} (hk : k < 32) : (x >>> (nI k &&& 31)) &&& nI 1 = nI 1 ↔ bt x k = true := by
  rw [b_one, b_sshr k hk x (by omega)]
  simp [hk]
theorem b_testv {x : Int32} {k : Nat} (hk : k < 32) : (x >>> (nI k &&& 31)) &&& nI 1 = if bt x k then nI 1 else nI 0 := by
  rw [b_one0, b_sshr k hk x (by omega)]
  simp [hk]
/-- 1 << k -/
theorem b_bit {k : Nat} (hk : k < 32) {i : Nat} (hi : i < 32) : bt (nI 1 <<< (nI k &&& 31)) i = decide (i = k) := by
  rw [b_shl k hk _ hi, b_1]
  by_cases h : i = k
  · subst h; simp
  · by_cases h2 : k ≤ i
    · have : ¬ i - k = 0 := by omega
      simp [h, h2, this]
    · simp [h, h2]
