/-! ===== what the start gives ===== -/
theorem ca_l {a b : Cond} {args : Array Value} {s : State} (h : (Cond.and a b).before args s = true) : a.before args s = true := by
  rw [Cond.before_and, Bool.and_eq_true] at h
  exact h.1
theorem ca_r {a b : Cond} {args : Array Value} {s : State} (h : (Cond.and a b).before args s = true) : b.before args s = true := by
  rw [Cond.before_and, Bool.and_eq_true] at h
  exact h.2
def tmS (i : Nat) : Term := match i with
  | 0 => .string "KnowsLeast$Tokens" 45
  | 1 => .string "KnowsLeast$Tokens" 51
  | 2 => .string "KnowsLeast$Tokens" 53
  | 3 => .string "KnowsLeast$Tokens" 55
  | 4 => .string "KnowsLeast$Tokens" 57
  | 5 => .string "KnowsLeast$Tokens" 59
  | 6 => .string "KnowsLeast$Tokens" 61
  | 7 => .string "KnowsLeast$Tokens" 63
  | 8 => .string "KnowsLeast$Tokens" 65
  | 9 => .string "KnowsLeast$Tokens" 67
  | 10 => .string "KnowsLeast$Tokens" 69
  | 11 => .string "KnowsLeast$Tokens" 71
  | 12 => .string "KnowsLeast$Tokens" 79
  | 13 => .string "KnowsLeast$Tokens" 81
  | 14 => .string "KnowsLeastModel" 89
  | _ => .string "KnowsLeastModel" 127
def lenL : List Nat := [3, 1, 1, 4, 6, 4, 3, 2, 6, 4, 4, 4, 5, 6, 70, 12]
def byL0 : List Int32 := [97, 110, 100]
def byL1 : List Int32 := [98]
def byL2 : List Int32 := [99]
def byL3 : List Int32 := [102, 97, 99, 116]
def byL4 : List Int32 := [103, 117, 105, 108, 116, 121]
def byL5 : List Int32 := [104, 105, 110, 116]
def byL6 : List Int32 := [110, 111, 116]
def byL7 : List Int32 := [111, 114]
def byL8 : List Int32 := [112, 101, 114, 115, 111, 110]
def byL9 : List Int32 := [114, 111, 97, 100]
def byL10 : List Int32 := [116, 111, 108, 100]
def byL11 : List Int32 := [116, 114, 117, 101]
def byL12 : List Int32 := [119, 111, 114, 108, 100]
def byL13 : List Int32 := [119, 101, 105, 103, 104, 116]
def byL14 : List Int32 := [32, 119, 111, 114, 108, 100, 32, 119, 101, 105, 103, 104, 116, 32, 103, 117, 105, 108, 116, 121, 32, 102, 97, 99, 116, 32, 112, 101, 114, 115, 111, 110, 32, 116, 111, 108, 100, 32, 114, 111, 97, 100, 32, 104, 105, 110, 116, 32, 116, 114, 117, 101, 32, 111, 114, 32, 97, 110, 100, 32, 110, 111, 116, 32, 97, 32, 98, 32, 99, 32]
def byL15 : List Int32 := [59, 58, 43, 45, 42, 40, 41, 91, 93, 61, 60, 62]
def bytL : List (List Int32) := [byL0, byL1, byL2, byL3, byL4, byL5, byL6, byL7, byL8, byL9, byL10, byL11, byL12, byL13, byL14, byL15]
theorem len_eq : slen = lenL := by decide +kernel
theorem byt_eq : sbyt = bytL := by decide +kernel
theorem s_ex {args : Array Value} {s : State} (h : (Jvm.Cond.and given_1 narrow_1).before args s = true) : ∀ i : Nat, i < 16 → (Cond.exactly (tmS i) "java/lang/String").before args s = true := fun i hi => match i, hi with
  | 0, _ => (ca_l (ca_l (ca_l (ca_l (ca_l (ca_r (ca_l (ca_l (ca_r h)))))))))
  | 1, _ => (ca_r (ca_r (ca_l (ca_r (ca_l (ca_l (ca_r (ca_l (ca_l (ca_r h))))))))))
  | 2, _ => (ca_r (ca_r (ca_l (ca_l (ca_r (ca_l (ca_r (ca_l (ca_l (ca_r h))))))))))
  | 3, _ => (ca_l (ca_r (ca_r (ca_r (ca_l (ca_r (ca_l (ca_l (ca_r h)))))))))
  | 4, _ => (ca_l (ca_r (ca_r (ca_l (ca_r (ca_r (ca_l (ca_l (ca_r h)))))))))
  | 5, _ => (ca_r (ca_r (ca_r (ca_r (ca_r (ca_r (ca_r (ca_l (ca_l (ca_r h))))))))))
  | 6, _ => (ca_r (ca_l (ca_l (ca_r (ca_l (ca_l (ca_r (ca_l (ca_r h)))))))))
  | 7, _ => (ca_l (ca_r (ca_r (ca_l (ca_l (ca_r (ca_l (ca_r (ca_l (ca_r h))))))))))
  | 8, _ => (ca_r (ca_r (ca_r (ca_l (ca_r (ca_r (ca_l (ca_r (ca_l (ca_r h))))))))))
  | 9, _ => (ca_l (ca_l (ca_l (ca_r (ca_l (ca_r (ca_r (ca_l (ca_r h)))))))))
  | 10, _ => (ca_l (ca_l (ca_r (ca_l (ca_r (ca_r (ca_r (ca_l (ca_r h)))))))))
  | 11, _ => (ca_l (ca_l (ca_l (ca_l (ca_l (ca_l (ca_l (ca_r (ca_r h)))))))))
  | 12, _ => (ca_l (ca_r (ca_r (ca_r (ca_l (ca_l (ca_l (ca_r (ca_r h)))))))))
  | 13, _ => (ca_l (ca_r (ca_l (ca_r (ca_r (ca_r (ca_l (ca_l (ca_r (ca_r h))))))))))
  | 14, _ => (ca_l (ca_r (ca_l (ca_r (ca_r (ca_l (ca_r (ca_l (ca_r (ca_r h))))))))))
  | 15, _ => (ca_l (ca_r (ca_l (ca_r (ca_l (ca_r (ca_r (ca_r (ca_r h)))))))))
  | n + 16, h9 => absurd h9 (by omega)
theorem s_co {args : Array Value} {s : State} (h : (Jvm.Cond.and given_1 narrow_1).before args s = true) : ∀ i : Nat, i < 16 → (Cond.eq (.field (tmS i) "java/lang/String" "coder" "B") (.int 0)).before args s = true := fun i hi => match i, hi with
  | 0, _ => (ca_r (ca_l (ca_l (ca_l (ca_l (ca_r (ca_l (ca_l (ca_r h)))))))))
  | 1, _ => (ca_l (ca_r (ca_r (ca_l (ca_l (ca_r (ca_l (ca_l (ca_r h)))))))))
  | 2, _ => (ca_l (ca_r (ca_l (ca_r (ca_l (ca_r (ca_l (ca_l (ca_r h)))))))))
  | 3, _ => (ca_l (ca_r (ca_r (ca_r (ca_r (ca_l (ca_r (ca_l (ca_l (ca_r h))))))))))
  | 4, _ => (ca_l (ca_r (ca_r (ca_r (ca_l (ca_r (ca_r (ca_l (ca_l (ca_r h))))))))))
  | 5, _ => (ca_l (ca_l (ca_l (ca_l (ca_l (ca_l (ca_r (ca_l (ca_r h)))))))))
  | 6, _ => (ca_l (ca_r (ca_l (ca_r (ca_l (ca_l (ca_r (ca_l (ca_r h)))))))))
  | 7, _ => (ca_r (ca_r (ca_r (ca_l (ca_l (ca_r (ca_l (ca_r (ca_l (ca_r h))))))))))
  | 8, _ => (ca_l (ca_l (ca_r (ca_r (ca_r (ca_l (ca_r (ca_l (ca_r h)))))))))
  | 9, _ => (ca_l (ca_r (ca_l (ca_l (ca_r (ca_l (ca_r (ca_r (ca_l (ca_r h))))))))))
  | 10, _ => (ca_l (ca_r (ca_l (ca_r (ca_l (ca_r (ca_r (ca_r (ca_l (ca_r h))))))))))
  | 11, _ => (ca_r (ca_l (ca_l (ca_l (ca_l (ca_l (ca_l (ca_r (ca_r h)))))))))
  | 12, _ => (ca_l (ca_r (ca_r (ca_r (ca_r (ca_l (ca_l (ca_l (ca_r (ca_r h))))))))))
  | 13, _ => (ca_r (ca_r (ca_l (ca_r (ca_r (ca_r (ca_l (ca_l (ca_r (ca_r h))))))))))
  | 14, _ => (ca_r (ca_r (ca_l (ca_r (ca_r (ca_l (ca_r (ca_l (ca_r (ca_r h))))))))))
  | 15, _ => (ca_l (ca_r (ca_r (ca_l (ca_r (ca_l (ca_r (ca_r (ca_r (ca_r h))))))))))
  | n + 16, h9 => absurd h9 (by omega)
theorem s_ar {args : Array Value} {s : State} (h : (Jvm.Cond.and given_1 narrow_1).before args s = true) : ∀ i : Nat, i < 16 → (Cond.arrayOf (.field (tmS i) "java/lang/String" "value" "[B") .byte).before args s = true := fun i hi => match i, hi with
  | 0, _ => (ca_l (ca_r (ca_l (ca_l (ca_l (ca_r (ca_l (ca_l (ca_r h)))))))))
  | 1, _ => (ca_l (ca_r (ca_r (ca_r (ca_l (ca_l (ca_r (ca_l (ca_l (ca_r h))))))))))
  | 2, _ => (ca_l (ca_r (ca_r (ca_l (ca_r (ca_l (ca_r (ca_l (ca_l (ca_r h))))))))))
  | 3, _ => (ca_r (ca_r (ca_r (ca_r (ca_r (ca_l (ca_r (ca_l (ca_l (ca_r h))))))))))
  | 4, _ => (ca_r (ca_r (ca_r (ca_r (ca_l (ca_r (ca_r (ca_l (ca_l (ca_r h))))))))))
  | 5, _ => (ca_r (ca_l (ca_l (ca_l (ca_l (ca_l (ca_r (ca_l (ca_r h)))))))))
  | 6, _ => (ca_l (ca_r (ca_r (ca_l (ca_r (ca_l (ca_l (ca_r (ca_l (ca_r h))))))))))
  | 7, _ => (ca_l (ca_l (ca_r (ca_l (ca_r (ca_l (ca_r (ca_l (ca_r h)))))))))
  | 8, _ => (ca_l (ca_r (ca_l (ca_r (ca_r (ca_r (ca_l (ca_r (ca_l (ca_r h))))))))))
  | 9, _ => (ca_r (ca_r (ca_l (ca_l (ca_r (ca_l (ca_r (ca_r (ca_l (ca_r h))))))))))
  | 10, _ => (ca_r (ca_r (ca_l (ca_r (ca_l (ca_r (ca_r (ca_r (ca_l (ca_r h))))))))))
  | 11, _ => (ca_l (ca_r (ca_l (ca_l (ca_l (ca_l (ca_l (ca_r (ca_r h)))))))))
  | 12, _ => (ca_r (ca_r (ca_r (ca_r (ca_r (ca_l (ca_l (ca_l (ca_r (ca_r h))))))))))
  | 13, _ => (ca_l (ca_r (ca_r (ca_r (ca_r (ca_l (ca_l (ca_r (ca_r h)))))))))
  | 14, _ => (ca_l (ca_r (ca_r (ca_r (ca_l (ca_r (ca_l (ca_r (ca_r h)))))))))
  | 15, _ => (ca_r (ca_r (ca_r (ca_l (ca_r (ca_l (ca_r (ca_r (ca_r (ca_r h))))))))))
  | n + 16, h9 => absurd h9 (by omega)
theorem s_le {args : Array Value} {s : State} (h : (Jvm.Cond.and given_1 narrow_1).before args s = true) : ∀ i : Nat, i < 16 → (Cond.eq (.length (.field (tmS i) "java/lang/String" "value" "[B")) (.int (Int32.ofNat (lenL.getD i 0)))).before args s = true := fun i hi => match i, hi with
  | 0, _ => (ca_l (ca_r (ca_r (ca_l (ca_l (ca_l (ca_r (ca_l (ca_l (ca_r h))))))))))
  | 1, _ => (ca_r (ca_r (ca_r (ca_r (ca_l (ca_l (ca_r (ca_l (ca_l (ca_r h))))))))))
  | 2, _ => (ca_r (ca_r (ca_r (ca_l (ca_r (ca_l (ca_r (ca_l (ca_l (ca_r h))))))))))
  | 3, _ => (ca_l (ca_l (ca_l (ca_l (ca_r (ca_r (ca_l (ca_l (ca_r h)))))))))
  | 4, _ => (ca_l (ca_l (ca_l (ca_r (ca_r (ca_r (ca_l (ca_l (ca_r h)))))))))
  | 5, _ => (ca_l (ca_r (ca_l (ca_l (ca_l (ca_l (ca_r (ca_l (ca_r h)))))))))
  | 6, _ => (ca_r (ca_r (ca_r (ca_l (ca_r (ca_l (ca_l (ca_r (ca_l (ca_r h))))))))))
  | 7, _ => (ca_l (ca_r (ca_l (ca_r (ca_l (ca_r (ca_l (ca_r (ca_l (ca_r h))))))))))
  | 8, _ => (ca_r (ca_r (ca_l (ca_r (ca_r (ca_r (ca_l (ca_r (ca_l (ca_r h))))))))))
  | 9, _ => (ca_l (ca_r (ca_l (ca_r (ca_l (ca_r (ca_r (ca_l (ca_r h)))))))))
  | 10, _ => (ca_l (ca_r (ca_r (ca_l (ca_r (ca_r (ca_r (ca_l (ca_r h)))))))))
  | 11, _ => (ca_l (ca_r (ca_r (ca_l (ca_l (ca_l (ca_l (ca_l (ca_r (ca_r h))))))))))
  | 12, _ => (ca_l (ca_l (ca_l (ca_l (ca_r (ca_l (ca_l (ca_r (ca_r h)))))))))
  | 13, _ => (ca_l (ca_r (ca_r (ca_r (ca_r (ca_r (ca_l (ca_l (ca_r (ca_r h))))))))))
  | 14, _ => (ca_l (ca_r (ca_r (ca_r (ca_r (ca_l (ca_r (ca_l (ca_r (ca_r h))))))))))
  | 15, _ => (ca_l (ca_l (ca_r (ca_r (ca_l (ca_r (ca_r (ca_r (ca_r h)))))))))
  | n + 16, h9 => absurd h9 (by omega)
theorem s_el0 {args : Array Value} {s : State} (h : (Jvm.Cond.and given_1 narrow_1).before args s = true) : ∀ j : Nat, j < 3 → (Cond.eq (.elem (.field (tmS 0) "java/lang/String" "value" "[B") (.int (Int32.ofNat j))) (.int (byL0.getD j 0))).before args s = true := fun j hj => match j, hj with
  | 0, _ => (ca_r (ca_r (ca_r (ca_l (ca_l (ca_l (ca_r (ca_l (ca_l (ca_r h))))))))))
  | 1, _ => (ca_l (ca_l (ca_r (ca_l (ca_l (ca_r (ca_l (ca_l (ca_r h)))))))))
  | 2, _ => (ca_l (ca_r (ca_l (ca_r (ca_l (ca_l (ca_r (ca_l (ca_l (ca_r h))))))))))
  | n + 3, h9 => absurd h9 (by omega)
theorem s_el1 {args : Array Value} {s : State} (h : (Jvm.Cond.and given_1 narrow_1).before args s = true) : ∀ j : Nat, j < 1 → (Cond.eq (.elem (.field (tmS 1) "java/lang/String" "value" "[B") (.int (Int32.ofNat j))) (.int (byL1.getD j 0))).before args s = true := fun j hj => match j, hj with
  | 0, _ => (ca_l (ca_l (ca_l (ca_r (ca_l (ca_r (ca_l (ca_l (ca_r h)))))))))
  | n + 1, h9 => absurd h9 (by omega)
theorem s_el2 {args : Array Value} {s : State} (h : (Jvm.Cond.and given_1 narrow_1).before args s = true) : ∀ j : Nat, j < 1 → (Cond.eq (.elem (.field (tmS 2) "java/lang/String" "value" "[B") (.int (Int32.ofNat j))) (.int (byL2.getD j 0))).before args s = true := fun j hj => match j, hj with
  | 0, _ => (ca_l (ca_l (ca_r (ca_r (ca_l (ca_r (ca_l (ca_l (ca_r h)))))))))
  | n + 1, h9 => absurd h9 (by omega)
theorem s_el3 {args : Array Value} {s : State} (h : (Jvm.Cond.and given_1 narrow_1).before args s = true) : ∀ j : Nat, j < 4 → (Cond.eq (.elem (.field (tmS 3) "java/lang/String" "value" "[B") (.int (Int32.ofNat j))) (.int (byL3.getD j 0))).before args s = true := fun j hj => match j, hj with
  | 0, _ => (ca_r (ca_l (ca_l (ca_l (ca_r (ca_r (ca_l (ca_l (ca_r h)))))))))
  | 1, _ => (ca_l (ca_r (ca_l (ca_l (ca_r (ca_r (ca_l (ca_l (ca_r h)))))))))
  | 2, _ => (ca_l (ca_r (ca_r (ca_l (ca_l (ca_r (ca_r (ca_l (ca_l (ca_r h))))))))))
  | 3, _ => (ca_r (ca_r (ca_r (ca_l (ca_l (ca_r (ca_r (ca_l (ca_l (ca_r h))))))))))
  | n + 4, h9 => absurd h9 (by omega)
theorem s_el4 {args : Array Value} {s : State} (h : (Jvm.Cond.and given_1 narrow_1).before args s = true) : ∀ j : Nat, j < 6 → (Cond.eq (.elem (.field (tmS 4) "java/lang/String" "value" "[B") (.int (Int32.ofNat j))) (.int (byL4.getD j 0))).before args s = true := fun j hj => match j, hj with
  | 0, _ => (ca_l (ca_r (ca_l (ca_l (ca_r (ca_r (ca_r (ca_l (ca_l (ca_r h))))))))))
  | 1, _ => (ca_r (ca_r (ca_l (ca_l (ca_r (ca_r (ca_r (ca_l (ca_l (ca_r h))))))))))
  | 2, _ => (ca_l (ca_r (ca_l (ca_r (ca_r (ca_r (ca_l (ca_l (ca_r h)))))))))
  | 3, _ => (ca_l (ca_r (ca_r (ca_l (ca_r (ca_r (ca_r (ca_l (ca_l (ca_r h))))))))))
  | 4, _ => (ca_r (ca_r (ca_r (ca_l (ca_r (ca_r (ca_r (ca_l (ca_l (ca_r h))))))))))
  | 5, _ => (ca_l (ca_l (ca_r (ca_r (ca_r (ca_r (ca_l (ca_l (ca_r h)))))))))
  | n + 6, h9 => absurd h9 (by omega)
theorem s_el5 {args : Array Value} {s : State} (h : (Jvm.Cond.and given_1 narrow_1).before args s = true) : ∀ j : Nat, j < 4 → (Cond.eq (.elem (.field (tmS 5) "java/lang/String" "value" "[B") (.int (Int32.ofNat j))) (.int (byL5.getD j 0))).before args s = true := fun j hj => match j, hj with
  | 0, _ => (ca_l (ca_r (ca_r (ca_l (ca_l (ca_l (ca_l (ca_r (ca_l (ca_r h))))))))))
  | 1, _ => (ca_r (ca_r (ca_r (ca_l (ca_l (ca_l (ca_l (ca_r (ca_l (ca_r h))))))))))
  | 2, _ => (ca_l (ca_l (ca_r (ca_l (ca_l (ca_l (ca_r (ca_l (ca_r h)))))))))
  | 3, _ => (ca_l (ca_r (ca_l (ca_r (ca_l (ca_l (ca_l (ca_r (ca_l (ca_r h))))))))))
  | n + 4, h9 => absurd h9 (by omega)
theorem s_el6 {args : Array Value} {s : State} (h : (Jvm.Cond.and given_1 narrow_1).before args s = true) : ∀ j : Nat, j < 3 → (Cond.eq (.elem (.field (tmS 6) "java/lang/String" "value" "[B") (.int (Int32.ofNat j))) (.int (byL6.getD j 0))).before args s = true := fun j hj => match j, hj with
  | 0, _ => (ca_l (ca_l (ca_r (ca_r (ca_l (ca_l (ca_r (ca_l (ca_r h)))))))))
  | 1, _ => (ca_l (ca_r (ca_l (ca_r (ca_r (ca_l (ca_l (ca_r (ca_l (ca_r h))))))))))
  | 2, _ => (ca_r (ca_r (ca_l (ca_r (ca_r (ca_l (ca_l (ca_r (ca_l (ca_r h))))))))))
  | n + 3, h9 => absurd h9 (by omega)
theorem s_el7 {args : Array Value} {s : State} (h : (Jvm.Cond.and given_1 narrow_1).before args s = true) : ∀ j : Nat, j < 2 → (Cond.eq (.elem (.field (tmS 7) "java/lang/String" "value" "[B") (.int (Int32.ofNat j))) (.int (byL7.getD j 0))).before args s = true := fun j hj => match j, hj with
  | 0, _ => (ca_r (ca_r (ca_l (ca_r (ca_l (ca_r (ca_l (ca_r (ca_l (ca_r h))))))))))
  | 1, _ => (ca_l (ca_r (ca_r (ca_l (ca_r (ca_l (ca_r (ca_l (ca_r h)))))))))
  | n + 2, h9 => absurd h9 (by omega)
theorem s_el8 {args : Array Value} {s : State} (h : (Jvm.Cond.and given_1 narrow_1).before args s = true) : ∀ j : Nat, j < 6 → (Cond.eq (.elem (.field (tmS 8) "java/lang/String" "value" "[B") (.int (Int32.ofNat j))) (.int (byL8.getD j 0))).before args s = true := fun j hj => match j, hj with
  | 0, _ => (ca_l (ca_r (ca_r (ca_r (ca_r (ca_l (ca_r (ca_l (ca_r h)))))))))
  | 1, _ => (ca_l (ca_r (ca_r (ca_r (ca_r (ca_r (ca_l (ca_r (ca_l (ca_r h))))))))))
  | 2, _ => (ca_r (ca_r (ca_r (ca_r (ca_r (ca_r (ca_l (ca_r (ca_l (ca_r h))))))))))
  | 3, _ => (ca_l (ca_l (ca_l (ca_l (ca_l (ca_r (ca_r (ca_l (ca_r h)))))))))
  | 4, _ => (ca_r (ca_l (ca_l (ca_l (ca_l (ca_r (ca_r (ca_l (ca_r h)))))))))
  | 5, _ => (ca_l (ca_r (ca_l (ca_l (ca_l (ca_r (ca_r (ca_l (ca_r h)))))))))
  | n + 6, h9 => absurd h9 (by omega)
theorem s_el9 {args : Array Value} {s : State} (h : (Jvm.Cond.and given_1 narrow_1).before args s = true) : ∀ j : Nat, j < 4 → (Cond.eq (.elem (.field (tmS 9) "java/lang/String" "value" "[B") (.int (Int32.ofNat j))) (.int (byL9.getD j 0))).before args s = true := fun j hj => match j, hj with
  | 0, _ => (ca_l (ca_r (ca_r (ca_l (ca_r (ca_l (ca_r (ca_r (ca_l (ca_r h))))))))))
  | 1, _ => (ca_r (ca_r (ca_r (ca_l (ca_r (ca_l (ca_r (ca_r (ca_l (ca_r h))))))))))
  | 2, _ => (ca_l (ca_l (ca_r (ca_r (ca_l (ca_r (ca_r (ca_l (ca_r h)))))))))
  | 3, _ => (ca_l (ca_r (ca_l (ca_r (ca_r (ca_l (ca_r (ca_r (ca_l (ca_r h))))))))))
  | n + 4, h9 => absurd h9 (by omega)
theorem s_el10 {args : Array Value} {s : State} (h : (Jvm.Cond.and given_1 narrow_1).before args s = true) : ∀ j : Nat, j < 4 → (Cond.eq (.elem (.field (tmS 10) "java/lang/String" "value" "[B") (.int (Int32.ofNat j))) (.int (byL10.getD j 0))).before args s = true := fun j hj => match j, hj with
  | 0, _ => (ca_l (ca_r (ca_r (ca_r (ca_l (ca_r (ca_r (ca_r (ca_l (ca_r h))))))))))
  | 1, _ => (ca_r (ca_r (ca_r (ca_r (ca_l (ca_r (ca_r (ca_r (ca_l (ca_r h))))))))))
  | 2, _ => (ca_l (ca_l (ca_l (ca_r (ca_r (ca_r (ca_r (ca_l (ca_r h)))))))))
  | 3, _ => (ca_l (ca_r (ca_l (ca_l (ca_r (ca_r (ca_r (ca_r (ca_l (ca_r h))))))))))
  | n + 4, h9 => absurd h9 (by omega)
theorem s_el11 {args : Array Value} {s : State} (h : (Jvm.Cond.and given_1 narrow_1).before args s = true) : ∀ j : Nat, j < 4 → (Cond.eq (.elem (.field (tmS 11) "java/lang/String" "value" "[B") (.int (Int32.ofNat j))) (.int (byL11.getD j 0))).before args s = true := fun j hj => match j, hj with
  | 0, _ => (ca_r (ca_r (ca_r (ca_l (ca_l (ca_l (ca_l (ca_l (ca_r (ca_r h))))))))))
  | 1, _ => (ca_l (ca_l (ca_r (ca_l (ca_l (ca_l (ca_l (ca_r (ca_r h)))))))))
  | 2, _ => (ca_l (ca_r (ca_l (ca_r (ca_l (ca_l (ca_l (ca_l (ca_r (ca_r h))))))))))
  | 3, _ => (ca_r (ca_r (ca_l (ca_r (ca_l (ca_l (ca_l (ca_l (ca_r (ca_r h))))))))))
  | n + 4, h9 => absurd h9 (by omega)
theorem s_el12 {args : Array Value} {s : State} (h : (Jvm.Cond.and given_1 narrow_1).before args s = true) : ∀ j : Nat, j < 5 → (Cond.eq (.elem (.field (tmS 12) "java/lang/String" "value" "[B") (.int (Int32.ofNat j))) (.int (byL12.getD j 0))).before args s = true := fun j hj => match j, hj with
  | 0, _ => (ca_r (ca_l (ca_l (ca_l (ca_r (ca_l (ca_l (ca_r (ca_r h)))))))))
  | 1, _ => (ca_l (ca_r (ca_l (ca_l (ca_r (ca_l (ca_l (ca_r (ca_r h)))))))))
  | 2, _ => (ca_l (ca_r (ca_r (ca_l (ca_l (ca_r (ca_l (ca_l (ca_r (ca_r h))))))))))
  | 3, _ => (ca_r (ca_r (ca_r (ca_l (ca_l (ca_r (ca_l (ca_l (ca_r (ca_r h))))))))))
  | 4, _ => (ca_l (ca_l (ca_r (ca_l (ca_r (ca_l (ca_l (ca_r (ca_r h)))))))))
  | n + 5, h9 => absurd h9 (by omega)
theorem s_el13 {args : Array Value} {s : State} (h : (Jvm.Cond.and given_1 narrow_1).before args s = true) : ∀ j : Nat, j < 6 → (Cond.eq (.elem (.field (tmS 13) "java/lang/String" "value" "[B") (.int (Int32.ofNat j))) (.int (byL13.getD j 0))).before args s = true := fun j hj => match j, hj with
  | 0, _ => (ca_r (ca_r (ca_r (ca_r (ca_r (ca_r (ca_l (ca_l (ca_r (ca_r h))))))))))
  | 1, _ => (ca_l (ca_l (ca_l (ca_l (ca_l (ca_r (ca_l (ca_r (ca_r h)))))))))
  | 2, _ => (ca_r (ca_l (ca_l (ca_l (ca_l (ca_r (ca_l (ca_r (ca_r h)))))))))
  | 3, _ => (ca_l (ca_r (ca_l (ca_l (ca_l (ca_r (ca_l (ca_r (ca_r h)))))))))
  | 4, _ => (ca_l (ca_r (ca_r (ca_l (ca_l (ca_l (ca_r (ca_l (ca_r (ca_r h))))))))))
  | 5, _ => (ca_r (ca_r (ca_r (ca_l (ca_l (ca_l (ca_r (ca_l (ca_r (ca_r h))))))))))
  | n + 6, h9 => absurd h9 (by omega)
theorem s_el14 {args : Array Value} {s : State} (h : (Jvm.Cond.and given_1 narrow_1).before args s = true) : ∀ j : Nat, j < 70 → (Cond.eq (.elem (.field (tmS 14) "java/lang/String" "value" "[B") (.int (Int32.ofNat j))) (.int (byL14.getD j 0))).before args s = true := fun j hj => match j, hj with
  | 0, _ => (ca_r (ca_r (ca_r (ca_r (ca_r (ca_l (ca_r (ca_l (ca_r (ca_r h))))))))))
  | 1, _ => (ca_l (ca_l (ca_l (ca_l (ca_r (ca_r (ca_l (ca_r (ca_r h)))))))))
  | 2, _ => (ca_r (ca_l (ca_l (ca_l (ca_r (ca_r (ca_l (ca_r (ca_r h)))))))))
  | 3, _ => (ca_l (ca_r (ca_l (ca_l (ca_r (ca_r (ca_l (ca_r (ca_r h)))))))))
  | 4, _ => (ca_l (ca_r (ca_r (ca_l (ca_l (ca_r (ca_r (ca_l (ca_r (ca_r h))))))))))
  | 5, _ => (ca_r (ca_r (ca_r (ca_l (ca_l (ca_r (ca_r (ca_l (ca_r (ca_r h))))))))))
  | 6, _ => (ca_l (ca_l (ca_r (ca_l (ca_r (ca_r (ca_l (ca_r (ca_r h)))))))))
  | 7, _ => (ca_l (ca_r (ca_l (ca_r (ca_l (ca_r (ca_r (ca_l (ca_r (ca_r h))))))))))
  | 8, _ => (ca_r (ca_r (ca_l (ca_r (ca_l (ca_r (ca_r (ca_l (ca_r (ca_r h))))))))))
  | 9, _ => (ca_l (ca_r (ca_r (ca_l (ca_r (ca_r (ca_l (ca_r (ca_r h)))))))))
  | 10, _ => (ca_l (ca_r (ca_r (ca_r (ca_l (ca_r (ca_r (ca_l (ca_r (ca_r h))))))))))
  | 11, _ => (ca_r (ca_r (ca_r (ca_r (ca_l (ca_r (ca_r (ca_l (ca_r (ca_r h))))))))))
  | 12, _ => (ca_l (ca_l (ca_l (ca_r (ca_r (ca_r (ca_l (ca_r (ca_r h)))))))))
  | 13, _ => (ca_l (ca_r (ca_l (ca_l (ca_r (ca_r (ca_r (ca_l (ca_r (ca_r h))))))))))
  | 14, _ => (ca_r (ca_r (ca_l (ca_l (ca_r (ca_r (ca_r (ca_l (ca_r (ca_r h))))))))))
  | 15, _ => (ca_l (ca_r (ca_l (ca_r (ca_r (ca_r (ca_l (ca_r (ca_r h)))))))))
  | 16, _ => (ca_l (ca_r (ca_r (ca_l (ca_r (ca_r (ca_r (ca_l (ca_r (ca_r h))))))))))
  | 17, _ => (ca_r (ca_r (ca_r (ca_l (ca_r (ca_r (ca_r (ca_l (ca_r (ca_r h))))))))))
  | 18, _ => (ca_l (ca_l (ca_r (ca_r (ca_r (ca_r (ca_l (ca_r (ca_r h)))))))))
  | 19, _ => (ca_l (ca_r (ca_l (ca_r (ca_r (ca_r (ca_r (ca_l (ca_r (ca_r h))))))))))
  | 20, _ => (ca_r (ca_r (ca_l (ca_r (ca_r (ca_r (ca_r (ca_l (ca_r (ca_r h))))))))))
  | 21, _ => (ca_l (ca_r (ca_r (ca_r (ca_r (ca_r (ca_l (ca_r (ca_r h)))))))))
  | 22, _ => (ca_l (ca_r (ca_r (ca_r (ca_r (ca_r (ca_r (ca_l (ca_r (ca_r h))))))))))
  | 23, _ => (ca_r (ca_r (ca_r (ca_r (ca_r (ca_r (ca_r (ca_l (ca_r (ca_r h))))))))))
  | 24, _ => (ca_l (ca_l (ca_l (ca_l (ca_l (ca_l (ca_r (ca_r (ca_r h)))))))))
  | 25, _ => (ca_r (ca_l (ca_l (ca_l (ca_l (ca_l (ca_r (ca_r (ca_r h)))))))))
  | 26, _ => (ca_l (ca_r (ca_l (ca_l (ca_l (ca_l (ca_r (ca_r (ca_r h)))))))))
  | 27, _ => (ca_l (ca_r (ca_r (ca_l (ca_l (ca_l (ca_l (ca_r (ca_r (ca_r h))))))))))
  | 28, _ => (ca_r (ca_r (ca_r (ca_l (ca_l (ca_l (ca_l (ca_r (ca_r (ca_r h))))))))))
  | 29, _ => (ca_l (ca_l (ca_r (ca_l (ca_l (ca_l (ca_r (ca_r (ca_r h)))))))))
  | 30, _ => (ca_l (ca_r (ca_l (ca_r (ca_l (ca_l (ca_l (ca_r (ca_r (ca_r h))))))))))
  | 31, _ => (ca_r (ca_r (ca_l (ca_r (ca_l (ca_l (ca_l (ca_r (ca_r (ca_r h))))))))))
  | 32, _ => (ca_l (ca_r (ca_r (ca_l (ca_l (ca_l (ca_r (ca_r (ca_r h)))))))))
  | 33, _ => (ca_l (ca_r (ca_r (ca_r (ca_l (ca_l (ca_l (ca_r (ca_r (ca_r h))))))))))
  | 34, _ => (ca_r (ca_r (ca_r (ca_r (ca_l (ca_l (ca_l (ca_r (ca_r (ca_r h))))))))))
  | 35, _ => (ca_l (ca_l (ca_l (ca_r (ca_l (ca_l (ca_r (ca_r (ca_r h)))))))))
  | 36, _ => (ca_l (ca_r (ca_l (ca_l (ca_r (ca_l (ca_l (ca_r (ca_r (ca_r h))))))))))
  | 37, _ => (ca_r (ca_r (ca_l (ca_l (ca_r (ca_l (ca_l (ca_r (ca_r (ca_r h))))))))))
  | 38, _ => (ca_l (ca_r (ca_l (ca_r (ca_l (ca_l (ca_r (ca_r (ca_r h)))))))))
  | 39, _ => (ca_l (ca_r (ca_r (ca_l (ca_r (ca_l (ca_l (ca_r (ca_r (ca_r h))))))))))
  | 40, _ => (ca_r (ca_r (ca_r (ca_l (ca_r (ca_l (ca_l (ca_r (ca_r (ca_r h))))))))))
  | 41, _ => (ca_l (ca_l (ca_r (ca_r (ca_l (ca_l (ca_r (ca_r (ca_r h)))))))))
  | 42, _ => (ca_l (ca_r (ca_l (ca_r (ca_r (ca_l (ca_l (ca_r (ca_r (ca_r h))))))))))
  | 43, _ => (ca_r (ca_r (ca_l (ca_r (ca_r (ca_l (ca_l (ca_r (ca_r (ca_r h))))))))))
  | 44, _ => (ca_l (ca_r (ca_r (ca_r (ca_l (ca_l (ca_r (ca_r (ca_r h)))))))))
  | 45, _ => (ca_l (ca_r (ca_r (ca_r (ca_r (ca_l (ca_l (ca_r (ca_r (ca_r h))))))))))
  | 46, _ => (ca_r (ca_r (ca_r (ca_r (ca_r (ca_l (ca_l (ca_r (ca_r (ca_r h))))))))))
  | 47, _ => (ca_l (ca_l (ca_l (ca_l (ca_r (ca_l (ca_r (ca_r (ca_r h)))))))))
  | 48, _ => (ca_r (ca_l (ca_l (ca_l (ca_r (ca_l (ca_r (ca_r (ca_r h)))))))))
  | 49, _ => (ca_l (ca_r (ca_l (ca_l (ca_r (ca_l (ca_r (ca_r (ca_r h)))))))))
  | 50, _ => (ca_l (ca_r (ca_r (ca_l (ca_l (ca_r (ca_l (ca_r (ca_r (ca_r h))))))))))
  | 51, _ => (ca_r (ca_r (ca_r (ca_l (ca_l (ca_r (ca_l (ca_r (ca_r (ca_r h))))))))))
  | 52, _ => (ca_l (ca_l (ca_r (ca_l (ca_r (ca_l (ca_r (ca_r (ca_r h)))))))))
  | 53, _ => (ca_l (ca_r (ca_l (ca_r (ca_l (ca_r (ca_l (ca_r (ca_r (ca_r h))))))))))
  | 54, _ => (ca_r (ca_r (ca_l (ca_r (ca_l (ca_r (ca_l (ca_r (ca_r (ca_r h))))))))))
  | 55, _ => (ca_l (ca_r (ca_r (ca_l (ca_r (ca_l (ca_r (ca_r (ca_r h)))))))))
  | 56, _ => (ca_l (ca_r (ca_r (ca_r (ca_l (ca_r (ca_l (ca_r (ca_r (ca_r h))))))))))
  | 57, _ => (ca_r (ca_r (ca_r (ca_r (ca_l (ca_r (ca_l (ca_r (ca_r (ca_r h))))))))))
  | 58, _ => (ca_l (ca_l (ca_l (ca_r (ca_r (ca_l (ca_r (ca_r (ca_r h)))))))))
  | 59, _ => (ca_l (ca_r (ca_l (ca_l (ca_r (ca_r (ca_l (ca_r (ca_r (ca_r h))))))))))
  | 60, _ => (ca_r (ca_r (ca_l (ca_l (ca_r (ca_r (ca_l (ca_r (ca_r (ca_r h))))))))))
  | 61, _ => (ca_l (ca_r (ca_l (ca_r (ca_r (ca_l (ca_r (ca_r (ca_r h)))))))))
  | 62, _ => (ca_l (ca_r (ca_r (ca_l (ca_r (ca_r (ca_l (ca_r (ca_r (ca_r h))))))))))
  | 63, _ => (ca_r (ca_r (ca_r (ca_l (ca_r (ca_r (ca_l (ca_r (ca_r (ca_r h))))))))))
  | 64, _ => (ca_l (ca_l (ca_r (ca_r (ca_r (ca_l (ca_r (ca_r (ca_r h)))))))))
  | 65, _ => (ca_l (ca_r (ca_l (ca_r (ca_r (ca_r (ca_l (ca_r (ca_r (ca_r h))))))))))
  | 66, _ => (ca_r (ca_r (ca_l (ca_r (ca_r (ca_r (ca_l (ca_r (ca_r (ca_r h))))))))))
  | 67, _ => (ca_l (ca_r (ca_r (ca_r (ca_r (ca_l (ca_r (ca_r (ca_r h)))))))))
  | 68, _ => (ca_l (ca_r (ca_r (ca_r (ca_r (ca_r (ca_l (ca_r (ca_r (ca_r h))))))))))
  | 69, _ => (ca_r (ca_r (ca_r (ca_r (ca_r (ca_r (ca_l (ca_r (ca_r (ca_r h))))))))))
  | n + 70, h9 => absurd h9 (by omega)
theorem s_el15 {args : Array Value} {s : State} (h : (Jvm.Cond.and given_1 narrow_1).before args s = true) : ∀ j : Nat, j < 12 → (Cond.eq (.elem (.field (tmS 15) "java/lang/String" "value" "[B") (.int (Int32.ofNat j))) (.int (byL15.getD j 0))).before args s = true := fun j hj => match j, hj with
  | 0, _ => (ca_l (ca_r (ca_l (ca_r (ca_r (ca_l (ca_r (ca_r (ca_r (ca_r h))))))))))
  | 1, _ => (ca_r (ca_r (ca_l (ca_r (ca_r (ca_l (ca_r (ca_r (ca_r (ca_r h))))))))))
  | 2, _ => (ca_l (ca_r (ca_r (ca_r (ca_l (ca_r (ca_r (ca_r (ca_r h)))))))))
  | 3, _ => (ca_l (ca_r (ca_r (ca_r (ca_r (ca_l (ca_r (ca_r (ca_r (ca_r h))))))))))
  | 4, _ => (ca_r (ca_r (ca_r (ca_r (ca_r (ca_l (ca_r (ca_r (ca_r (ca_r h))))))))))
  | 5, _ => (ca_l (ca_l (ca_l (ca_l (ca_r (ca_r (ca_r (ca_r (ca_r h)))))))))
  | 6, _ => (ca_r (ca_l (ca_l (ca_l (ca_r (ca_r (ca_r (ca_r (ca_r h)))))))))
  | 7, _ => (ca_l (ca_r (ca_l (ca_l (ca_r (ca_r (ca_r (ca_r (ca_r h)))))))))
  | 8, _ => (ca_l (ca_r (ca_r (ca_l (ca_l (ca_r (ca_r (ca_r (ca_r (ca_r h))))))))))
  | 9, _ => (ca_r (ca_r (ca_r (ca_l (ca_l (ca_r (ca_r (ca_r (ca_r (ca_r h))))))))))
  | 10, _ => (ca_l (ca_l (ca_r (ca_l (ca_r (ca_r (ca_r (ca_r (ca_r h)))))))))
  | 11, _ => (ca_l (ca_r (ca_l (ca_r (ca_l (ca_r (ca_r (ca_r (ca_r (ca_r h))))))))))
  | n + 12, h9 => absurd h9 (by omega)
theorem s_el {args : Array Value} {s : State} (h : (Jvm.Cond.and given_1 narrow_1).before args s = true) : ∀ i : Nat, i < 16 → ∀ j : Nat, j < lenL.getD i 0 → (Cond.eq (.elem (.field (tmS i) "java/lang/String" "value" "[B") (.int (Int32.ofNat j))) (.int ((bytL.getD i []).getD j 0))).before args s = true := fun i hi => match i, hi with
  | 0, _ => s_el0 h
  | 1, _ => s_el1 h
  | 2, _ => s_el2 h
  | 3, _ => s_el3 h
  | 4, _ => s_el4 h
  | 5, _ => s_el5 h
  | 6, _ => s_el6 h
  | 7, _ => s_el7 h
  | 8, _ => s_el8 h
  | 9, _ => s_el9 h
  | 10, _ => s_el10 h
  | 11, _ => s_el11 h
  | 12, _ => s_el12 h
  | 13, _ => s_el13 h
  | 14, _ => s_el14 h
  | 15, _ => s_el15 h
  | n + 16, h9 => absurd h9 (by omega)
theorem s_ne1 {args : Array Value} {s : State} (h : (Jvm.Cond.and given_1 narrow_1).before args s = true) : ∀ i : Nat, i < 1 → (Cond.not (Cond.eq (tmS i) (tmS 1))).before args s = true := fun i hi => match i, hi with
  | 0, _ => (ca_l (ca_r (ca_l (ca_l (ca_r (ca_l (ca_r (ca_l (ca_l (ca_r h))))))))))
  | n + 1, h9 => absurd h9 (by omega)
theorem s_ne2 {args : Array Value} {s : State} (h : (Jvm.Cond.and given_1 narrow_1).before args s = true) : ∀ i : Nat, i < 2 → (Cond.not (Cond.eq (tmS i) (tmS 2))).before args s = true := fun i hi => match i, hi with
  | 0, _ => (ca_l (ca_r (ca_l (ca_r (ca_r (ca_l (ca_r (ca_l (ca_l (ca_r h))))))))))
  | 1, _ => (ca_r (ca_r (ca_l (ca_r (ca_r (ca_l (ca_r (ca_l (ca_l (ca_r h))))))))))
  | n + 2, h9 => absurd h9 (by omega)
theorem s_ne3 {args : Array Value} {s : State} (h : (Jvm.Cond.and given_1 narrow_1).before args s = true) : ∀ i : Nat, i < 3 → (Cond.not (Cond.eq (tmS i) (tmS 3))).before args s = true := fun i hi => match i, hi with
  | 0, _ => (ca_l (ca_l (ca_r (ca_l (ca_r (ca_r (ca_l (ca_l (ca_r h)))))))))
  | 1, _ => (ca_l (ca_r (ca_l (ca_r (ca_l (ca_r (ca_r (ca_l (ca_l (ca_r h))))))))))
  | 2, _ => (ca_r (ca_r (ca_l (ca_r (ca_l (ca_r (ca_r (ca_l (ca_l (ca_r h))))))))))
  | n + 3, h9 => absurd h9 (by omega)
theorem s_ne4 {args : Array Value} {s : State} (h : (Jvm.Cond.and given_1 narrow_1).before args s = true) : ∀ i : Nat, i < 4 → (Cond.not (Cond.eq (tmS i) (tmS 4))).before args s = true := fun i hi => match i, hi with
  | 0, _ => (ca_l (ca_r (ca_l (ca_r (ca_r (ca_r (ca_r (ca_l (ca_l (ca_r h))))))))))
  | 1, _ => (ca_r (ca_r (ca_l (ca_r (ca_r (ca_r (ca_r (ca_l (ca_l (ca_r h))))))))))
  | 2, _ => (ca_l (ca_r (ca_r (ca_r (ca_r (ca_r (ca_l (ca_l (ca_r h)))))))))
  | 3, _ => (ca_l (ca_r (ca_r (ca_r (ca_r (ca_r (ca_r (ca_l (ca_l (ca_r h))))))))))
  | n + 4, h9 => absurd h9 (by omega)
theorem s_ne5 {args : Array Value} {s : State} (h : (Jvm.Cond.and given_1 narrow_1).before args s = true) : ∀ i : Nat, i < 5 → (Cond.not (Cond.eq (tmS i) (tmS 5))).before args s = true := fun i hi => match i, hi with
  | 0, _ => (ca_r (ca_r (ca_l (ca_r (ca_l (ca_l (ca_l (ca_r (ca_l (ca_r h))))))))))
  | 1, _ => (ca_l (ca_r (ca_r (ca_l (ca_l (ca_l (ca_r (ca_l (ca_r h)))))))))
  | 2, _ => (ca_l (ca_r (ca_r (ca_r (ca_l (ca_l (ca_l (ca_r (ca_l (ca_r h))))))))))
  | 3, _ => (ca_r (ca_r (ca_r (ca_r (ca_l (ca_l (ca_l (ca_r (ca_l (ca_r h))))))))))
  | 4, _ => (ca_l (ca_l (ca_l (ca_r (ca_l (ca_l (ca_r (ca_l (ca_r h)))))))))
  | n + 5, h9 => absurd h9 (by omega)
theorem s_ne6 {args : Array Value} {s : State} (h : (Jvm.Cond.and given_1 narrow_1).before args s = true) : ∀ i : Nat, i < 6 → (Cond.not (Cond.eq (tmS i) (tmS 6))).before args s = true := fun i hi => match i, hi with
  | 0, _ => (ca_l (ca_r (ca_r (ca_r (ca_l (ca_l (ca_r (ca_l (ca_r h)))))))))
  | 1, _ => (ca_l (ca_r (ca_r (ca_r (ca_r (ca_l (ca_l (ca_r (ca_l (ca_r h))))))))))
  | 2, _ => (ca_r (ca_r (ca_r (ca_r (ca_r (ca_l (ca_l (ca_r (ca_l (ca_r h))))))))))
  | 3, _ => (ca_l (ca_l (ca_l (ca_l (ca_r (ca_l (ca_r (ca_l (ca_r h)))))))))
  | 4, _ => (ca_r (ca_l (ca_l (ca_l (ca_r (ca_l (ca_r (ca_l (ca_r h)))))))))
  | 5, _ => (ca_l (ca_r (ca_l (ca_l (ca_r (ca_l (ca_r (ca_l (ca_r h)))))))))
  | n + 6, h9 => absurd h9 (by omega)
theorem s_ne7 {args : Array Value} {s : State} (h : (Jvm.Cond.and given_1 narrow_1).before args s = true) : ∀ i : Nat, i < 7 → (Cond.not (Cond.eq (tmS i) (tmS 7))).before args s = true := fun i hi => match i, hi with
  | 0, _ => (ca_l (ca_r (ca_r (ca_r (ca_l (ca_r (ca_l (ca_r (ca_l (ca_r h))))))))))
  | 1, _ => (ca_r (ca_r (ca_r (ca_r (ca_l (ca_r (ca_l (ca_r (ca_l (ca_r h))))))))))
  | 2, _ => (ca_l (ca_l (ca_l (ca_r (ca_r (ca_l (ca_r (ca_l (ca_r h)))))))))
  | 3, _ => (ca_l (ca_r (ca_l (ca_l (ca_r (ca_r (ca_l (ca_r (ca_l (ca_r h))))))))))
  | 4, _ => (ca_r (ca_r (ca_l (ca_l (ca_r (ca_r (ca_l (ca_r (ca_l (ca_r h))))))))))
  | 5, _ => (ca_l (ca_r (ca_l (ca_r (ca_r (ca_l (ca_r (ca_l (ca_r h)))))))))
  | 6, _ => (ca_l (ca_r (ca_r (ca_l (ca_r (ca_r (ca_l (ca_r (ca_l (ca_r h))))))))))
  | n + 7, h9 => absurd h9 (by omega)
theorem s_ne8 {args : Array Value} {s : State} (h : (Jvm.Cond.and given_1 narrow_1).before args s = true) : ∀ i : Nat, i < 8 → (Cond.not (Cond.eq (tmS i) (tmS 8))).before args s = true := fun i hi => match i, hi with
  | 0, _ => (ca_l (ca_r (ca_r (ca_l (ca_l (ca_l (ca_r (ca_r (ca_l (ca_r h))))))))))
  | 1, _ => (ca_r (ca_r (ca_r (ca_l (ca_l (ca_l (ca_r (ca_r (ca_l (ca_r h))))))))))
  | 2, _ => (ca_l (ca_l (ca_r (ca_l (ca_l (ca_r (ca_r (ca_l (ca_r h)))))))))
  | 3, _ => (ca_l (ca_r (ca_l (ca_r (ca_l (ca_l (ca_r (ca_r (ca_l (ca_r h))))))))))
  | 4, _ => (ca_r (ca_r (ca_l (ca_r (ca_l (ca_l (ca_r (ca_r (ca_l (ca_r h))))))))))
  | 5, _ => (ca_l (ca_r (ca_r (ca_l (ca_l (ca_r (ca_r (ca_l (ca_r h)))))))))
  | 6, _ => (ca_l (ca_r (ca_r (ca_r (ca_l (ca_l (ca_r (ca_r (ca_l (ca_r h))))))))))
  | 7, _ => (ca_r (ca_r (ca_r (ca_r (ca_l (ca_l (ca_r (ca_r (ca_l (ca_r h))))))))))
  | n + 8, h9 => absurd h9 (by omega)
theorem s_ne9 {args : Array Value} {s : State} (h : (Jvm.Cond.and given_1 narrow_1).before args s = true) : ∀ i : Nat, i < 9 → (Cond.not (Cond.eq (tmS i) (tmS 9))).before args s = true := fun i hi => match i, hi with
  | 0, _ => (ca_r (ca_r (ca_l (ca_r (ca_r (ca_l (ca_r (ca_r (ca_l (ca_r h))))))))))
  | 1, _ => (ca_l (ca_r (ca_r (ca_r (ca_l (ca_r (ca_r (ca_l (ca_r h)))))))))
  | 2, _ => (ca_l (ca_r (ca_r (ca_r (ca_r (ca_l (ca_r (ca_r (ca_l (ca_r h))))))))))
  | 3, _ => (ca_r (ca_r (ca_r (ca_r (ca_r (ca_l (ca_r (ca_r (ca_l (ca_r h))))))))))
  | 4, _ => (ca_l (ca_l (ca_l (ca_l (ca_r (ca_r (ca_r (ca_l (ca_r h)))))))))
  | 5, _ => (ca_r (ca_l (ca_l (ca_l (ca_r (ca_r (ca_r (ca_l (ca_r h)))))))))
  | 6, _ => (ca_l (ca_r (ca_l (ca_l (ca_r (ca_r (ca_r (ca_l (ca_r h)))))))))
  | 7, _ => (ca_l (ca_r (ca_r (ca_l (ca_l (ca_r (ca_r (ca_r (ca_l (ca_r h))))))))))
  | 8, _ => (ca_r (ca_r (ca_r (ca_l (ca_l (ca_r (ca_r (ca_r (ca_l (ca_r h))))))))))
  | n + 9, h9 => absurd h9 (by omega)
theorem s_ne10 {args : Array Value} {s : State} (h : (Jvm.Cond.and given_1 narrow_1).before args s = true) : ∀ i : Nat, i < 10 → (Cond.not (Cond.eq (tmS i) (tmS 10))).before args s = true := fun i hi => match i, hi with
  | 0, _ => (ca_r (ca_r (ca_l (ca_l (ca_r (ca_r (ca_r (ca_r (ca_l (ca_r h))))))))))
  | 1, _ => (ca_l (ca_r (ca_l (ca_r (ca_r (ca_r (ca_r (ca_l (ca_r h)))))))))
  | 2, _ => (ca_l (ca_r (ca_r (ca_l (ca_r (ca_r (ca_r (ca_r (ca_l (ca_r h))))))))))
  | 3, _ => (ca_r (ca_r (ca_r (ca_l (ca_r (ca_r (ca_r (ca_r (ca_l (ca_r h))))))))))
  | 4, _ => (ca_l (ca_l (ca_r (ca_r (ca_r (ca_r (ca_r (ca_l (ca_r h)))))))))
  | 5, _ => (ca_l (ca_r (ca_l (ca_r (ca_r (ca_r (ca_r (ca_r (ca_l (ca_r h))))))))))
  | 6, _ => (ca_r (ca_r (ca_l (ca_r (ca_r (ca_r (ca_r (ca_r (ca_l (ca_r h))))))))))
  | 7, _ => (ca_l (ca_r (ca_r (ca_r (ca_r (ca_r (ca_r (ca_l (ca_r h)))))))))
  | 8, _ => (ca_l (ca_r (ca_r (ca_r (ca_r (ca_r (ca_r (ca_r (ca_l (ca_r h))))))))))
  | 9, _ => (ca_r (ca_r (ca_r (ca_r (ca_r (ca_r (ca_r (ca_r (ca_l (ca_r h))))))))))
  | n + 10, h9 => absurd h9 (by omega)
theorem s_ne11 {args : Array Value} {s : State} (h : (Jvm.Cond.and given_1 narrow_1).before args s = true) : ∀ i : Nat, i < 11 → (Cond.not (Cond.eq (tmS i) (tmS 11))).before args s = true := fun i hi => match i, hi with
  | 0, _ => (ca_l (ca_r (ca_r (ca_l (ca_l (ca_l (ca_l (ca_r (ca_r h)))))))))
  | 1, _ => (ca_l (ca_r (ca_r (ca_r (ca_l (ca_l (ca_l (ca_l (ca_r (ca_r h))))))))))
  | 2, _ => (ca_r (ca_r (ca_r (ca_r (ca_l (ca_l (ca_l (ca_l (ca_r (ca_r h))))))))))
  | 3, _ => (ca_l (ca_l (ca_l (ca_r (ca_l (ca_l (ca_l (ca_r (ca_r h)))))))))
  | 4, _ => (ca_r (ca_l (ca_l (ca_r (ca_l (ca_l (ca_l (ca_r (ca_r h)))))))))
  | 5, _ => (ca_l (ca_r (ca_l (ca_r (ca_l (ca_l (ca_l (ca_r (ca_r h)))))))))
  | 6, _ => (ca_l (ca_r (ca_r (ca_l (ca_r (ca_l (ca_l (ca_l (ca_r (ca_r h))))))))))
  | 7, _ => (ca_r (ca_r (ca_r (ca_l (ca_r (ca_l (ca_l (ca_l (ca_r (ca_r h))))))))))
  | 8, _ => (ca_l (ca_l (ca_r (ca_r (ca_l (ca_l (ca_l (ca_r (ca_r h)))))))))
  | 9, _ => (ca_l (ca_r (ca_l (ca_r (ca_r (ca_l (ca_l (ca_l (ca_r (ca_r h))))))))))
  | 10, _ => (ca_r (ca_r (ca_l (ca_r (ca_r (ca_l (ca_l (ca_l (ca_r (ca_r h))))))))))
  | n + 11, h9 => absurd h9 (by omega)
theorem s_ne12 {args : Array Value} {s : State} (h : (Jvm.Cond.and given_1 narrow_1).before args s = true) : ∀ i : Nat, i < 12 → (Cond.not (Cond.eq (tmS i) (tmS 12))).before args s = true := fun i hi => match i, hi with
  | 0, _ => (ca_l (ca_r (ca_l (ca_r (ca_l (ca_r (ca_l (ca_l (ca_r (ca_r h))))))))))
  | 1, _ => (ca_r (ca_r (ca_l (ca_r (ca_l (ca_r (ca_l (ca_l (ca_r (ca_r h))))))))))
  | 2, _ => (ca_l (ca_r (ca_r (ca_l (ca_r (ca_l (ca_l (ca_r (ca_r h)))))))))
  | 3, _ => (ca_l (ca_r (ca_r (ca_r (ca_l (ca_r (ca_l (ca_l (ca_r (ca_r h))))))))))
  | 4, _ => (ca_r (ca_r (ca_r (ca_r (ca_l (ca_r (ca_l (ca_l (ca_r (ca_r h))))))))))
  | 5, _ => (ca_l (ca_l (ca_l (ca_r (ca_r (ca_l (ca_l (ca_r (ca_r h)))))))))
  | 6, _ => (ca_l (ca_r (ca_l (ca_l (ca_r (ca_r (ca_l (ca_l (ca_r (ca_r h))))))))))
  | 7, _ => (ca_r (ca_r (ca_l (ca_l (ca_r (ca_r (ca_l (ca_l (ca_r (ca_r h))))))))))
  | 8, _ => (ca_l (ca_r (ca_l (ca_r (ca_r (ca_l (ca_l (ca_r (ca_r h)))))))))
  | 9, _ => (ca_l (ca_r (ca_r (ca_l (ca_r (ca_r (ca_l (ca_l (ca_r (ca_r h))))))))))
  | 10, _ => (ca_r (ca_r (ca_r (ca_l (ca_r (ca_r (ca_l (ca_l (ca_r (ca_r h))))))))))
  | 11, _ => (ca_l (ca_l (ca_r (ca_r (ca_r (ca_l (ca_l (ca_r (ca_r h)))))))))
  | n + 12, h9 => absurd h9 (by omega)
theorem s_ne13 {args : Array Value} {s : State} (h : (Jvm.Cond.and given_1 narrow_1).before args s = true) : ∀ i : Nat, i < 13 → (Cond.not (Cond.eq (tmS i) (tmS 13))).before args s = true := fun i hi => match i, hi with
  | 0, _ => (ca_l (ca_l (ca_r (ca_l (ca_l (ca_r (ca_l (ca_r (ca_r h)))))))))
  | 1, _ => (ca_l (ca_r (ca_l (ca_r (ca_l (ca_l (ca_r (ca_l (ca_r (ca_r h))))))))))
  | 2, _ => (ca_r (ca_r (ca_l (ca_r (ca_l (ca_l (ca_r (ca_l (ca_r (ca_r h))))))))))
  | 3, _ => (ca_l (ca_r (ca_r (ca_l (ca_l (ca_r (ca_l (ca_r (ca_r h)))))))))
  | 4, _ => (ca_l (ca_r (ca_r (ca_r (ca_l (ca_l (ca_r (ca_l (ca_r (ca_r h))))))))))
  | 5, _ => (ca_r (ca_r (ca_r (ca_r (ca_l (ca_l (ca_r (ca_l (ca_r (ca_r h))))))))))
  | 6, _ => (ca_l (ca_l (ca_l (ca_r (ca_l (ca_r (ca_l (ca_r (ca_r h)))))))))
  | 7, _ => (ca_l (ca_r (ca_l (ca_l (ca_r (ca_l (ca_r (ca_l (ca_r (ca_r h))))))))))
  | 8, _ => (ca_r (ca_r (ca_l (ca_l (ca_r (ca_l (ca_r (ca_l (ca_r (ca_r h))))))))))
  | 9, _ => (ca_l (ca_r (ca_l (ca_r (ca_l (ca_r (ca_l (ca_r (ca_r h)))))))))
  | 10, _ => (ca_l (ca_r (ca_r (ca_l (ca_r (ca_l (ca_r (ca_l (ca_r (ca_r h))))))))))
  | 11, _ => (ca_r (ca_r (ca_r (ca_l (ca_r (ca_l (ca_r (ca_l (ca_r (ca_r h))))))))))
  | 12, _ => (ca_l (ca_l (ca_r (ca_r (ca_l (ca_r (ca_l (ca_r (ca_r h)))))))))
  | n + 13, h9 => absurd h9 (by omega)
theorem s_ne14 {args : Array Value} {s : State} (h : (Jvm.Cond.and given_1 narrow_1).before args s = true) : ∀ i : Nat, i < 14 → (Cond.not (Cond.eq (tmS i) (tmS 14))).before args s = true := fun i hi => match i, hi with
  | 0, _ => (ca_l (ca_l (ca_l (ca_l (ca_l (ca_r (ca_r (ca_r (ca_r h)))))))))
  | 1, _ => (ca_r (ca_l (ca_l (ca_l (ca_l (ca_r (ca_r (ca_r (ca_r h)))))))))
  | 2, _ => (ca_l (ca_r (ca_l (ca_l (ca_l (ca_r (ca_r (ca_r (ca_r h)))))))))
  | 3, _ => (ca_l (ca_r (ca_r (ca_l (ca_l (ca_l (ca_r (ca_r (ca_r (ca_r h))))))))))
  | 4, _ => (ca_r (ca_r (ca_r (ca_l (ca_l (ca_l (ca_r (ca_r (ca_r (ca_r h))))))))))
  | 5, _ => (ca_l (ca_l (ca_r (ca_l (ca_l (ca_r (ca_r (ca_r (ca_r h)))))))))
  | 6, _ => (ca_l (ca_r (ca_l (ca_r (ca_l (ca_l (ca_r (ca_r (ca_r (ca_r h))))))))))
  | 7, _ => (ca_r (ca_r (ca_l (ca_r (ca_l (ca_l (ca_r (ca_r (ca_r (ca_r h))))))))))
  | 8, _ => (ca_l (ca_r (ca_r (ca_l (ca_l (ca_r (ca_r (ca_r (ca_r h)))))))))
  | 9, _ => (ca_l (ca_r (ca_r (ca_r (ca_l (ca_l (ca_r (ca_r (ca_r (ca_r h))))))))))
  | 10, _ => (ca_r (ca_r (ca_r (ca_r (ca_l (ca_l (ca_r (ca_r (ca_r (ca_r h))))))))))
  | 11, _ => (ca_l (ca_l (ca_l (ca_r (ca_l (ca_r (ca_r (ca_r (ca_r h)))))))))
  | 12, _ => (ca_l (ca_r (ca_l (ca_l (ca_r (ca_l (ca_r (ca_r (ca_r (ca_r h))))))))))
  | 13, _ => (ca_r (ca_r (ca_l (ca_l (ca_r (ca_l (ca_r (ca_r (ca_r (ca_r h))))))))))
  | n + 14, h9 => absurd h9 (by omega)
theorem s_ne15 {args : Array Value} {s : State} (h : (Jvm.Cond.and given_1 narrow_1).before args s = true) : ∀ i : Nat, i < 15 → (Cond.not (Cond.eq (tmS i) (tmS 15))).before args s = true := fun i hi => match i, hi with
  | 0, _ => (ca_r (ca_r (ca_l (ca_r (ca_l (ca_r (ca_r (ca_r (ca_r (ca_r h))))))))))
  | 1, _ => (ca_l (ca_r (ca_r (ca_l (ca_r (ca_r (ca_r (ca_r (ca_r h)))))))))
  | 2, _ => (ca_l (ca_r (ca_r (ca_r (ca_l (ca_r (ca_r (ca_r (ca_r (ca_r h))))))))))
  | 3, _ => (ca_r (ca_r (ca_r (ca_r (ca_l (ca_r (ca_r (ca_r (ca_r (ca_r h))))))))))
  | 4, _ => (ca_l (ca_l (ca_l (ca_r (ca_r (ca_r (ca_r (ca_r (ca_r h)))))))))
  | 5, _ => (ca_l (ca_r (ca_l (ca_l (ca_r (ca_r (ca_r (ca_r (ca_r (ca_r h))))))))))
  | 6, _ => (ca_r (ca_r (ca_l (ca_l (ca_r (ca_r (ca_r (ca_r (ca_r (ca_r h))))))))))
  | 7, _ => (ca_l (ca_r (ca_l (ca_r (ca_r (ca_r (ca_r (ca_r (ca_r h)))))))))
  | 8, _ => (ca_l (ca_r (ca_r (ca_l (ca_r (ca_r (ca_r (ca_r (ca_r (ca_r h))))))))))
  | 9, _ => (ca_r (ca_r (ca_r (ca_l (ca_r (ca_r (ca_r (ca_r (ca_r (ca_r h))))))))))
  | 10, _ => (ca_l (ca_l (ca_r (ca_r (ca_r (ca_r (ca_r (ca_r (ca_r h)))))))))
  | 11, _ => (ca_l (ca_r (ca_l (ca_r (ca_r (ca_r (ca_r (ca_r (ca_r (ca_r h))))))))))
  | 12, _ => (ca_r (ca_r (ca_l (ca_r (ca_r (ca_r (ca_r (ca_r (ca_r (ca_r h))))))))))
  | 13, _ => (ca_l (ca_r (ca_r (ca_r (ca_r (ca_r (ca_r (ca_r (ca_r h)))))))))
  | 14, _ => (ca_l (ca_r (ca_r (ca_r (ca_r (ca_r (ca_r (ca_r (ca_r (ca_r h))))))))))
  | n + 15, h9 => absurd h9 (by omega)
theorem s_neA {args : Array Value} {s : State} (h : (Jvm.Cond.and given_1 narrow_1).before args s = true) : ∀ j : Nat, j < 16 → ∀ i : Nat, i < j → (Cond.not (Cond.eq (tmS i) (tmS j))).before args s = true := fun j hj => match j, hj with
  | 0, _ => fun i hi => absurd hi (Nat.not_lt_zero _)
  | 1, _ => s_ne1 h
  | 2, _ => s_ne2 h
  | 3, _ => s_ne3 h
  | 4, _ => s_ne4 h
  | 5, _ => s_ne5 h
  | 6, _ => s_ne6 h
  | 7, _ => s_ne7 h
  | 8, _ => s_ne8 h
  | 9, _ => s_ne9 h
  | 10, _ => s_ne10 h
  | 11, _ => s_ne11 h
  | 12, _ => s_ne12 h
  | 13, _ => s_ne13 h
  | 14, _ => s_ne14 h
  | 15, _ => s_ne15 h
  | n + 16, h9 => absurd h9 (by omega)
theorem s_ne {args : Array Value} {s : State} (h : (Jvm.Cond.and given_1 narrow_1).before args s = true) : ∀ i j : Nat, i < 16 → j < 16 → i ≠ j → (Cond.not (Cond.eq (tmS i) (tmS j))).before args s = true ∨ (Cond.not (Cond.eq (tmS j) (tmS i))).before args s = true := fun i j hi hj hne => by
  rcases Nat.lt_or_gt_of_ne hne with h1 | h1
  · exact Or.inl (s_neA h j hj i h1)
  · exact Or.inr (s_neA h i hi j h1)
def tm3 : Term := .static "KnowsLeast$Trial" "THREES" "[I"
theorem t3_ar {args : Array Value} {s : State} (h : (Jvm.Cond.and given_1 narrow_1).before args s = true) : (Cond.arrayOf tm3 .int).before args s = true := (ca_l (ca_r (ca_r (ca_l (ca_l (ca_l (ca_l (ca_l (ca_l (ca_r h))))))))))
theorem t3_le {args : Array Value} {s : State} (h : (Jvm.Cond.and given_1 narrow_1).before args s = true) : (Cond.eq (.length tm3) (.int (Int32.ofNat 9))).before args s = true := (ca_r (ca_r (ca_r (ca_l (ca_l (ca_l (ca_l (ca_l (ca_l (ca_r h))))))))))
theorem t3_el {args : Array Value} {s : State} (h : (Jvm.Cond.and given_1 narrow_1).before args s = true) : ∀ j : Nat, j < 9 → (Cond.eq (.elem tm3 (.int (Int32.ofNat j))) (.int (([1, 3, 9, 27, 81, 243, 729, 2187, 6561] : List Int32).getD j 0))).before args s = true := fun j hj => match j, hj with
  | 0, _ => (ca_l (ca_l (ca_r (ca_l (ca_l (ca_l (ca_l (ca_l (ca_r h)))))))))
  | 1, _ => (ca_l (ca_r (ca_l (ca_r (ca_l (ca_l (ca_l (ca_l (ca_l (ca_r h))))))))))
  | 2, _ => (ca_r (ca_r (ca_l (ca_r (ca_l (ca_l (ca_l (ca_l (ca_l (ca_r h))))))))))
  | 3, _ => (ca_l (ca_r (ca_r (ca_l (ca_l (ca_l (ca_l (ca_l (ca_r h)))))))))
  | 4, _ => (ca_l (ca_r (ca_r (ca_r (ca_l (ca_l (ca_l (ca_l (ca_l (ca_r h))))))))))
  | 5, _ => (ca_r (ca_r (ca_r (ca_r (ca_l (ca_l (ca_l (ca_l (ca_l (ca_r h))))))))))
  | 6, _ => (ca_l (ca_l (ca_l (ca_r (ca_l (ca_l (ca_l (ca_l (ca_r h)))))))))
  | 7, _ => (ca_r (ca_l (ca_l (ca_r (ca_l (ca_l (ca_l (ca_l (ca_r h)))))))))
  | 8, _ => (ca_l (ca_r (ca_l (ca_r (ca_l (ca_l (ca_l (ca_l (ca_r h)))))))))
  | n + 9, h9 => absurd h9 (by omega)
theorem g_cs {args : Array Value} {s : State} (h : (Jvm.Cond.and given_1 narrow_1).before args s = true) : (Cond.eq (.static "java/lang/String" "COMPACT_STRINGS" "Z") (.int 1)).before args s = true := (ca_l (ca_r (ca_r (ca_l (ca_r (ca_l (ca_l (ca_l (ca_l (ca_r h))))))))))
theorem g_si {args : Array Value} {s : State} (h : (Jvm.Cond.and given_1 narrow_1).before args s = true) : (Cond.isRef (.static "jdk/internal/util/Preconditions" "SIOOBE_FORMATTER" "Ljava/util/function/BiFunction;")).before args s = true := (ca_r (ca_r (ca_r (ca_l (ca_r (ca_l (ca_l (ca_l (ca_l (ca_r h))))))))))
set_option maxRecDepth 100000 in
theorem ls_3 : Cond.laysStatic "KnowsLeast$Trial" "THREES" "[I" ∈ lw_tbl := tin_2 (TB_at 59 rfl)
set_option maxRecDepth 100000 in
theorem ls_c : Cond.laysStatic "java/lang/String" "COMPACT_STRINGS" "Z" ∈ lw_tbl := tin_2 (TB_at 215 rfl)
set_option maxRecDepth 100000 in
theorem ls_s : Cond.laysStatic "jdk/internal/util/Preconditions" "SIOOBE_FORMATTER" "Ljava/util/function/BiFunction;" ∈ lw_tbl := tin_2 (TB_at 231 rfl)
set_option maxRecDepth 100000 in
theorem in_c : Cond.initialized "java/lang/String" ∈ lw_tbl := tin_1 (TB_at 15 rfl)
set_option maxRecDepth 100000 in
theorem in_s : Cond.initialized "jdk/internal/util/Preconditions" ∈ lw_tbl := tin_1 (TB_at 17 rfl)
set_option maxRecDepth 100000 in
theorem in_3 : Cond.initialized "KnowsLeast$Trial" ∈ lw_tbl := tin_1 (TB_at 10 rfl)
set_option maxRecDepth 100000 in
theorem sr_0 : Cond.stringRef "KnowsLeast$Tokens" 45 "and" ∈ lw_tbl := tin_2 (TB_at 202 rfl)
set_option maxRecDepth 100000 in
theorem sr_1 : Cond.stringRef "KnowsLeast$Tokens" 51 "b" ∈ lw_tbl := tin_3 (TB_at 14 rfl)
set_option maxRecDepth 100000 in
theorem sr_2 : Cond.stringRef "KnowsLeast$Tokens" 53 "c" ∈ lw_tbl := tin_3 (TB_at 15 rfl)
set_option maxRecDepth 100000 in
theorem sr_3 : Cond.stringRef "KnowsLeast$Tokens" 55 "fact" ∈ lw_tbl := tin_3 (TB_at 16 rfl)
set_option maxRecDepth 100000 in
theorem sr_4 : Cond.stringRef "KnowsLeast$Tokens" 57 "guilty" ∈ lw_tbl := tin_3 (TB_at 17 rfl)
set_option maxRecDepth 100000 in
theorem sr_5 : Cond.stringRef "KnowsLeast$Tokens" 59 "hint" ∈ lw_tbl := tin_3 (TB_at 18 rfl)
set_option maxRecDepth 100000 in
theorem sr_6 : Cond.stringRef "KnowsLeast$Tokens" 61 "not" ∈ lw_tbl := tin_3 (TB_at 19 rfl)
set_option maxRecDepth 100000 in
theorem sr_7 : Cond.stringRef "KnowsLeast$Tokens" 63 "or" ∈ lw_tbl := tin_3 (TB_at 20 rfl)
set_option maxRecDepth 100000 in
theorem sr_8 : Cond.stringRef "KnowsLeast$Tokens" 65 "person" ∈ lw_tbl := tin_3 (TB_at 21 rfl)
set_option maxRecDepth 100000 in
theorem sr_9 : Cond.stringRef "KnowsLeast$Tokens" 67 "road" ∈ lw_tbl := tin_3 (TB_at 22 rfl)
set_option maxRecDepth 100000 in
theorem sr_10 : Cond.stringRef "KnowsLeast$Tokens" 69 "told" ∈ lw_tbl := tin_3 (TB_at 23 rfl)
set_option maxRecDepth 100000 in
theorem sr_11 : Cond.stringRef "KnowsLeast$Tokens" 71 "true" ∈ lw_tbl := tin_3 (TB_at 24 rfl)
set_option maxRecDepth 100000 in
theorem sr_12 : Cond.stringRef "KnowsLeast$Tokens" 79 "world" ∈ lw_tbl := tin_3 (TB_at 28 rfl)
set_option maxRecDepth 100000 in
theorem sr_13 : Cond.stringRef "KnowsLeast$Tokens" 81 "weight" ∈ lw_tbl := tin_3 (TB_at 29 rfl)
set_option maxRecDepth 100000 in
theorem sr_14 : Cond.stringRef "KnowsLeastModel" 89 " world weight guilty fact person told road hint true or and not a b c " ∈ lw_tbl := tin_6 (TB_at 56 rfl)
set_option maxRecDepth 100000 in
theorem sr_15 : Cond.stringRef "KnowsLeastModel" 127 ";:+-*()[]=<>" ∈ lw_tbl := tin_6 (TB_at 62 rfl)
set_option maxRecDepth 100000 in
theorem nest89 : Cond.methodLinkNest RX7 89 yX11_isFewer RX11 ∈ lw_tbl := tin_4 (TB_at 202 rfl)
set_option maxRecDepth 100000 in
theorem ao_6 : Cond.arrayOver (.object RX6) ∈ lw_tbl := tin_2 (TB_at 68 rfl)
set_option maxRecDepth 100000 in
theorem ao_1 : Cond.arrayOver (.object RX1) ∈ lw_tbl := tin_2 (TB_at 70 rfl)
theorem s_sr {args : Array Value} {s : State} {adK : Nat → Nat} (hts : ∀ w ∈ lw_tbl, w.before args s = true) (he : ∀ i : Nat, i < 16 → (tmS i).eval args s none [] s = some (.ref (adK i))) : ∀ (i : Nat) (q : String × Nat × String), strs[i]? = some q → vk_R q.1 q.2.1 q.2.2 (adK i) s := fun i q hq => by
  have hi : i < 16 := (List.getElem?_eq_some_iff.mp hq).1
  match i, hi with
  | 0, _ => cases hq; exact vk_R.of (hts _ sr_0) (he 0 (by decide))
  | 1, _ => cases hq; exact vk_R.of (hts _ sr_1) (he 1 (by decide))
  | 2, _ => cases hq; exact vk_R.of (hts _ sr_2) (he 2 (by decide))
  | 3, _ => cases hq; exact vk_R.of (hts _ sr_3) (he 3 (by decide))
  | 4, _ => cases hq; exact vk_R.of (hts _ sr_4) (he 4 (by decide))
  | 5, _ => cases hq; exact vk_R.of (hts _ sr_5) (he 5 (by decide))
  | 6, _ => cases hq; exact vk_R.of (hts _ sr_6) (he 6 (by decide))
  | 7, _ => cases hq; exact vk_R.of (hts _ sr_7) (he 7 (by decide))
  | 8, _ => cases hq; exact vk_R.of (hts _ sr_8) (he 8 (by decide))
  | 9, _ => cases hq; exact vk_R.of (hts _ sr_9) (he 9 (by decide))
  | 10, _ => cases hq; exact vk_R.of (hts _ sr_10) (he 10 (by decide))
  | 11, _ => cases hq; exact vk_R.of (hts _ sr_11) (he 11 (by decide))
  | 12, _ => cases hq; exact vk_R.of (hts _ sr_12) (he 12 (by decide))
  | 13, _ => cases hq; exact vk_R.of (hts _ sr_13) (he 13 (by decide))
  | 14, _ => cases hq; exact vk_R.of (hts _ sr_14) (he 14 (by decide))
  | 15, _ => cases hq; exact vk_R.of (hts _ sr_15) (he 15 (by decide))
  | n + 16, h9 => exact absurd h9 (by omega)
theorem arr_prim {args : Array Value} {s : State} {ty : FieldType} (h : (Cond.arrayClass ty).before args s = true) : ∃ cA : ClassId, ArrOfT s cA ty ∧ s.vm.findClass ("[" ++ ty.toString) = some cA := by
  obtain ⟨c, k, comp, h1, h2, h3⟩ := Cond.arrayClass_spec h
  exact ⟨c, fun n z => ⟨fun k h => (by cases h), k, h2, comp, h3⟩, h1⟩
theorem arr_obj {s : State} {C : String} (h : va_AO C s) : ∃ cA : ClassId, ArrOfT s cA (.object C) ∧ va_RA s cA (.object C) := by
  obtain ⟨comp, c, k, h1, h2, h3, h4, h5⟩ := Cond.arrayOver_spec h
  exact ⟨c, fun n z => ⟨fun k h => (by cases h), k, h3, comp, h4⟩, k, comp, h3, h4, h1, h5⟩
theorem cls_all {args : Array Value} {s : State} (hts : ∀ w ∈ TB, w.before args s = true) : ∀ (c : Nat), ∃ q : ClassId × (Nat → Nat), ∀ r : vw_C, vwCl[c]? = some r → u_Kn s r.1 r.2.1 r.2.2 q.1 q.2 := fun c => by
  match c with
  | 0 => obtain ⟨a, b, hk⟩ := u_known hts uX0 (hts _ insX0); exact ⟨(a, b), fun r hr => by cases hr; exact hk⟩
  | 1 => obtain ⟨a, b, hk⟩ := u_known hts uX1 (hts _ insX1); exact ⟨(a, b), fun r hr => by cases hr; exact hk⟩
  | 2 => obtain ⟨a, b, hk⟩ := u_known hts uX2 (hts _ insX2); exact ⟨(a, b), fun r hr => by cases hr; exact hk⟩
  | 3 => obtain ⟨a, b, hk⟩ := u_known hts uX3 (hts _ insX3); exact ⟨(a, b), fun r hr => by cases hr; exact hk⟩
  | 4 => obtain ⟨a, b, hk⟩ := u_known hts uX4 (hts _ insX4); exact ⟨(a, b), fun r hr => by cases hr; exact hk⟩
  | 5 => obtain ⟨a, b, hk⟩ := u_known hts uX5 (hts _ insX5); exact ⟨(a, b), fun r hr => by cases hr; exact hk⟩
  | 6 => obtain ⟨a, b, hk⟩ := u_known hts uX6 (hts _ insX6); exact ⟨(a, b), fun r hr => by cases hr; exact hk⟩
  | 7 => obtain ⟨a, b, hk⟩ := u_known hts uX7 (hts _ insX7); exact ⟨(a, b), fun r hr => by cases hr; exact hk⟩
  | 8 => obtain ⟨a, b, hk⟩ := u_known hts uX8 (hts _ insX8); exact ⟨(a, b), fun r hr => by cases hr; exact hk⟩
  | 9 => obtain ⟨a, b, hk⟩ := u_known hts uX9 (hts _ insX9); exact ⟨(a, b), fun r hr => by cases hr; exact hk⟩
  | 10 => obtain ⟨a, b, hk⟩ := u_known hts uX10 (hts _ insX10); exact ⟨(a, b), fun r hr => by cases hr; exact hk⟩
  | 11 => obtain ⟨a, b, hk⟩ := u_known hts uX11 (hts _ insX11); exact ⟨(a, b), fun r hr => by cases hr; exact hk⟩
  | 12 => obtain ⟨a, b, hk⟩ := u_known hts uX12 (hts _ insX12); exact ⟨(a, b), fun r hr => by cases hr; exact hk⟩
  | n + 13 => exact ⟨(0, fun _ => 0), fun r hr => by cases hr⟩
theorem kn_start {l : Launch} {args : Array Value} {s : State} (hts : ∀ w ∈ lw_tbl, w.before args s = true) (h : (Jvm.Cond.and given_1 narrow_1).before args s = true) : ∃ G : GT, G.l = l ∧ G.b0 = s.heap.size ∧ G.H0 = s.heap ∧ Kn G s ∧ va_AO RX6 s ∧ va_AO RX1 s := by
  have htb : ∀ w ∈ TB, w.before args s = true := TB_ok hts
  have hA : ∀ a : Nat, a < s.heap.size → ¬ (fun q => s.heap.size ≤ q) a := fun a ha hn => absurd ha (Nat.not_lt.mpr hn)
  obtain ⟨D, hD⟩ := Classical.axiomOfChoice (cls_all htb)
  obtain ⟨c0, p0, q0⟩ := arr_prim (htb _ ac_int)
  obtain ⟨c1, p1, q1⟩ := arr_prim (htb _ ac_byte)
  obtain ⟨c2, p2, q2⟩ := arr_prim (htb _ ac_long)
  obtain ⟨c3, p3, q3⟩ := arr_prim (htb _ ac_boolean)
  have a6 : va_AO RX6 s := va_AO.of (hts _ ao_6)
  have a1 : va_AO RX1 s := va_AO.of (hts _ ao_1)
  obtain ⟨c4, p4, q4⟩ := arr_obj a6
  obtain ⟨c5, p5, q5⟩ := arr_obj a1
  obtain ⟨t3, e3, T3⟩ := va_Tof (f := t3f) (A := fun q => s.heap.size ≤ q) (by decide) (t3_ar h) (va_eqt (t3_le h)) (fun j hj => va_eqt (t3_el h j hj)) hA
  obtain ⟨adK, adV, hS, hE⟩ := vk_Sof (N := 16) (tm := tmS) (len := lenL) (byt := bytL) (A := fun q => s.heap.size ≤ q) (by decide) (s_ex h) (s_co h) (s_ar h) (s_le h) (s_el h) (s_ne h) hA
  rw [← len_eq, ← byt_eq] at hS
  refine ⟨((l, (fun c => (D c).1, fun c => (D c).2)), (s.heap.size, 0), s.heap, (fun k => ([c0, c1, c2, c3, c4, c5] : List ClassId).getD k 0), (t3, adK, adV)), rfl, rfl, rfl, ⟨⟨fun c q hq => hD c q hq, fun k q hk => ?_⟩, va_Zof (hts _ ls_3) (hts _ in_3) e3 hA, T3, va_Zof (hts _ ls_c) (hts _ in_c) (va_eqt (g_cs h)) hA, va_Zqof (hts _ ls_s) (hts _ in_s) (g_si h) hA, hS, s_sr hts hE, va_tabs rfl rfl (hts _ nest89)⟩, a6, a1⟩
  have hk6 : k < 6 := (List.getElem?_eq_some_iff.mp hk).1
  match k, hk6 with
  | 0, _ => cases hk; exact ⟨p0, q0⟩
  | 1, _ => cases hk; exact ⟨p1, q1⟩
  | 2, _ => cases hk; exact ⟨p2, q2⟩
  | 3, _ => cases hk; exact ⟨p3, q3⟩
  | 4, _ => cases hk; exact ⟨p4, q4⟩
  | 5, _ => cases hk; exact ⟨p5, q5⟩
  | n + 6, h9 => exact absurd h9 (by omega)
