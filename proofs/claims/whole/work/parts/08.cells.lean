/-! ===== the cells by their numbers ===== -/
abbrev ST : Type := Nat → Nat → Int32
abbrev SL : Type := Nat → Nat → Int64
def fl0 (b a : Nat) (f : Nat → Int32) : List Value := [.ref (b + (a + 1)), .ref (b + (a + 2)), .ref (b + (a + 3)), .int (f 3)]
theorem fl0_s3 {b a : Nat} (f : Nat → Int32) (x : Int32) : (fl0 b a f).set 3 (.int x) = fl0 b a (upd f 3 x) := rfl
def fl1 (b a : Nat) (f : Nat → Int32) : List Value := [.ref (b + (a + 1)), .ref (b + (a + 7)), .int (f 2)]
theorem fl1_s2 {b a : Nat} (f : Nat → Int32) (x : Int32) : (fl1 b a f).set 2 (.int x) = fl1 b a (upd f 2 x) := rfl
def fl2 (b a : Nat) (f : Nat → Int32) : List Value := [.ref (b + (a + 1)), .ref (b + (a + 2)), .ref (b + (a + 3)), .ref (b + (a + 4)), .ref (b + (a + 5)), .int (f 5), .int (f 6), .int (f 7), .int (f 8), .int (f 9)]
theorem fl2_s5 {b a : Nat} (f : Nat → Int32) (x : Int32) : (fl2 b a f).set 5 (.int x) = fl2 b a (upd f 5 x) := rfl
theorem fl2_s6 {b a : Nat} (f : Nat → Int32) (x : Int32) : (fl2 b a f).set 6 (.int x) = fl2 b a (upd f 6 x) := rfl
theorem fl2_s7 {b a : Nat} (f : Nat → Int32) (x : Int32) : (fl2 b a f).set 7 (.int x) = fl2 b a (upd f 7 x) := rfl
theorem fl2_s8 {b a : Nat} (f : Nat → Int32) (x : Int32) : (fl2 b a f).set 8 (.int x) = fl2 b a (upd f 8 x) := rfl
theorem fl2_s9 {b a : Nat} (f : Nat → Int32) (x : Int32) : (fl2 b a f).set 9 (.int x) = fl2 b a (upd f 9 x) := rfl
def fl3 (b a : Nat) (f : Nat → Int32) : List Value := [.ref (b + (a + 1)), .ref (b + (a + 2)), .ref (b + (a + 3)), .ref (b + (a + 4)), .int (f 4), .int (f 5), .int (f 6), .int (f 7), .int (f 8)]
theorem fl3_s4 {b a : Nat} (f : Nat → Int32) (x : Int32) : (fl3 b a f).set 4 (.int x) = fl3 b a (upd f 4 x) := rfl
theorem fl3_s5 {b a : Nat} (f : Nat → Int32) (x : Int32) : (fl3 b a f).set 5 (.int x) = fl3 b a (upd f 5 x) := rfl
theorem fl3_s6 {b a : Nat} (f : Nat → Int32) (x : Int32) : (fl3 b a f).set 6 (.int x) = fl3 b a (upd f 6 x) := rfl
theorem fl3_s7 {b a : Nat} (f : Nat → Int32) (x : Int32) : (fl3 b a f).set 7 (.int x) = fl3 b a (upd f 7 x) := rfl
theorem fl3_s8 {b a : Nat} (f : Nat → Int32) (x : Int32) : (fl3 b a f).set 8 (.int x) = fl3 b a (upd f 8 x) := rfl
def fl4 (b a : Nat) (f : Nat → Int32) : List Value := [.ref (b + (a + 1)), .int (f 1)]
theorem fl4_s1 {b a : Nat} (f : Nat → Int32) (x : Int32) : (fl4 b a f).set 1 (.int x) = fl4 b a (upd f 1 x) := rfl
def fl5 (b a : Nat) (f : Nat → Int32) : List Value := [.ref (b + (a + 1)), .ref (b + (a + 5)), .ref (b + (a + 9)), .ref (b + (a + 15)), .int (f 4), .int (f 5), .int (f 6)]
theorem fl5_s4 {b a : Nat} (f : Nat → Int32) (x : Int32) : (fl5 b a f).set 4 (.int x) = fl5 b a (upd f 4 x) := rfl
theorem fl5_s5 {b a : Nat} (f : Nat → Int32) (x : Int32) : (fl5 b a f).set 5 (.int x) = fl5 b a (upd f 5 x) := rfl
theorem fl5_s6 {b a : Nat} (f : Nat → Int32) (x : Int32) : (fl5 b a f).set 6 (.int x) = fl5 b a (upd f 6 x) := rfl
def fl6 (b a : Nat) (f : Nat → Int32) : List Value := [.ref (b + (a + 1)), .int (f 1), .int (f 2)]
theorem fl6_s1 {b a : Nat} (f : Nat → Int32) (x : Int32) : (fl6 b a f).set 1 (.int x) = fl6 b a (upd f 1 x) := rfl
theorem fl6_s2 {b a : Nat} (f : Nat → Int32) (x : Int32) : (fl6 b a f).set 2 (.int x) = fl6 b a (upd f 2 x) := rfl
def fl7 (b a : Nat) (f : Nat → Int32) : List Value := [.ref (b + (a + 1)), .ref (b + (a + 2)), .ref (b + (a + 3)), .ref (b + (a + 4)), .ref (b + (a + 5)), .int (f 5)]
theorem fl7_s5 {b a : Nat} (f : Nat → Int32) (x : Int32) : (fl7 b a f).set 5 (.int x) = fl7 b a (upd f 5 x) := rfl
def fl8 (b a : Nat) (f : Nat → Int32) : List Value := [.ref (b + (a + 1)), .ref (b + (a + 2)), .int (f 2), .int (f 3)]
theorem fl8_s2 {b a : Nat} (f : Nat → Int32) (x : Int32) : (fl8 b a f).set 2 (.int x) = fl8 b a (upd f 2 x) := rfl
theorem fl8_s3 {b a : Nat} (f : Nat → Int32) (x : Int32) : (fl8 b a f).set 3 (.int x) = fl8 b a (upd f 3 x) := rfl
def fl9 (b a : Nat) (f : Nat → Int32) : List Value := [.ref (b + (a + 1)), .ref (b + (a + 2)), .ref (b + (a + 3)), .int (f 3)]
theorem fl9_s3 {b a : Nat} (f : Nat → Int32) (x : Int32) : (fl9 b a f).set 3 (.int x) = fl9 b a (upd f 3 x) := rfl
def fl10 (b a : Nat) (f : Nat → Int32) : List Value := [.ref (b + (a + 1)), .int (f 1)]
theorem fl10_s1 {b a : Nat} (f : Nat → Int32) (x : Int32) : (fl10 b a f).set 1 (.int x) = fl10 b a (upd f 1 x) := rfl
def fl11 (b a : Nat) (f : Nat → Int32) : List Value := [.ref (b + (a + 1)), .ref (b + (a + 2)), .ref (b + (a + 20)), .ref (b + (a + 26)), .ref (b + (a + 29)), .ref (b + (a + 32)), .ref (b + (a + 34)), .ref (b + (a + 40)), .ref (b + (a + 45)), .ref (b + (a + 47)), .ref (b + (a + 48)), .int (f 11)]
theorem fl11_s11 {b a : Nat} (f : Nat → Int32) (x : Int32) : (fl11 b a f).set 11 (.int x) = fl11 b a (upd f 11 x) := rfl
def fl12 (b a : Nat) (f : Nat → Int32) : List Value := [.int (f 0), .ref (b + (a + 1)), .ref (b + (a + 2)), .ref (b + (a + 3)), .ref (b + (a + 4)), .ref (b + (a + 5)), .ref (b + (a + 6)), .ref (b + (a + 7)), .int (f 8), .int (f 9), .int (f 10), .int (f 11), .int (f 12), .int (f 13), .int (f 14), .int (f 15), .int (f 16), .int (f 17), .int (f 18), .ref (b + (a + 8)), .ref (b + (a + 9)), .ref (b + (a + 10)), .int (f 22), .int (f 23), .ref (b + (a + 11)), .ref (b + (a + 12)), .ref (b + (a + 13)), .ref (b + (a + 14)), .ref (b + (a + 15)), .ref (b + (a + 16)), .ref (b + (a + 17)), .ref (b + (a + 18)), .ref (b + (a + 19)), .ref (b + (a + 20)), .ref (b + (a + 21))]
theorem fl12_s0 {b a : Nat} (f : Nat → Int32) (x : Int32) : (fl12 b a f).set 0 (.int x) = fl12 b a (upd f 0 x) := rfl
theorem fl12_s8 {b a : Nat} (f : Nat → Int32) (x : Int32) : (fl12 b a f).set 8 (.int x) = fl12 b a (upd f 8 x) := rfl
theorem fl12_s9 {b a : Nat} (f : Nat → Int32) (x : Int32) : (fl12 b a f).set 9 (.int x) = fl12 b a (upd f 9 x) := rfl
theorem fl12_s10 {b a : Nat} (f : Nat → Int32) (x : Int32) : (fl12 b a f).set 10 (.int x) = fl12 b a (upd f 10 x) := rfl
theorem fl12_s11 {b a : Nat} (f : Nat → Int32) (x : Int32) : (fl12 b a f).set 11 (.int x) = fl12 b a (upd f 11 x) := rfl
theorem fl12_s12 {b a : Nat} (f : Nat → Int32) (x : Int32) : (fl12 b a f).set 12 (.int x) = fl12 b a (upd f 12 x) := rfl
theorem fl12_s13 {b a : Nat} (f : Nat → Int32) (x : Int32) : (fl12 b a f).set 13 (.int x) = fl12 b a (upd f 13 x) := rfl
theorem fl12_s14 {b a : Nat} (f : Nat → Int32) (x : Int32) : (fl12 b a f).set 14 (.int x) = fl12 b a (upd f 14 x) := rfl
theorem fl12_s15 {b a : Nat} (f : Nat → Int32) (x : Int32) : (fl12 b a f).set 15 (.int x) = fl12 b a (upd f 15 x) := rfl
theorem fl12_s16 {b a : Nat} (f : Nat → Int32) (x : Int32) : (fl12 b a f).set 16 (.int x) = fl12 b a (upd f 16 x) := rfl
theorem fl12_s17 {b a : Nat} (f : Nat → Int32) (x : Int32) : (fl12 b a f).set 17 (.int x) = fl12 b a (upd f 17 x) := rfl
theorem fl12_s18 {b a : Nat} (f : Nat → Int32) (x : Int32) : (fl12 b a f).set 18 (.int x) = fl12 b a (upd f 18 x) := rfl
theorem fl12_s22 {b a : Nat} (f : Nat → Int32) (x : Int32) : (fl12 b a f).set 22 (.int x) = fl12 b a (upd f 22 x) := rfl
theorem fl12_s23 {b a : Nat} (f : Nat → Int32) (x : Int32) : (fl12 b a f).set 23 (.int x) = fl12 b a (upd f 23 x) := rfl
def cel (G : GT) (a : Nat) (f : Nat → Int32) (l : Nat → Int64) : va_E := match a with
  | 0 => .inr (11, fl11 G.b0 0 f)
  | 1 => .inl (G.ci 1, 900, .inl f)
  | 2 => .inr (5, fl5 G.b0 2 f)
  | 3 => .inr (9, fl9 G.b0 3 f)
  | 4 => .inl (G.ci 0, 901, .inl f)
  | 5 => .inl (G.ci 0, 901, .inl f)
  | 6 => .inl (G.ci 0, 901, .inl f)
  | 7 => .inr (0, fl0 G.b0 7 f)
  | 8 => .inl (G.ci 0, 901, .inl f)
  | 9 => .inl (G.ci 0, 8, .inl f)
  | 10 => .inl (G.ci 0, 64, .inl f)
  | 11 => .inr (2, fl2 G.b0 11 f)
  | 12 => .inl (G.ci 0, 48, .inl f)
  | 13 => .inl (G.ci 0, 16, .inl f)
  | 14 => .inl (G.ci 0, 8, .inl f)
  | 15 => .inl (G.ci 0, 8, .inl f)
  | 16 => .inl (G.ci 0, 6, .inl f)
  | 17 => .inr (8, fl8 G.b0 17 f)
  | 18 => .inl (G.ci 0, 6, .inl f)
  | 19 => .inl (G.ci 0, 6, .inl f)
  | 20 => .inr (2, fl2 G.b0 20 f)
  | 21 => .inl (G.ci 0, 48, .inl f)
  | 22 => .inl (G.ci 0, 16, .inl f)
  | 23 => .inl (G.ci 0, 8, .inl f)
  | 24 => .inl (G.ci 0, 8, .inl f)
  | 25 => .inl (G.ci 0, 6, .inl f)
  | 26 => .inr (8, fl8 G.b0 26 f)
  | 27 => .inl (G.ci 0, 6, .inl f)
  | 28 => .inl (G.ci 0, 6, .inl f)
  | 29 => .inr (8, fl8 G.b0 29 f)
  | 30 => .inl (G.ci 0, 6, .inl f)
  | 31 => .inl (G.ci 0, 6, .inl f)
  | 32 => .inr (4, fl4 G.b0 32 f)
  | 33 => .inl (G.ci 0, 84, .inl f)
  | 34 => .inr (7, fl7 G.b0 34 f)
  | 35 => .inl (G.ci 0, 256, .inl f)
  | 36 => .inl (G.ci 0, 256, .inl f)
  | 37 => .inl (G.ci 0, 256, .inl f)
  | 38 => .inl (G.ci 0, 102, .inl f)
  | 39 => .inl (G.ci 0, 6, .inl f)
  | 40 => .inr (3, fl3 G.b0 40 f)
  | 41 => .inl (G.ci 0, 256, .inl f)
  | 42 => .inl (G.ci 0, 2401, .inl f)
  | 43 => .inl (G.ci 0, 6, .inl f)
  | 44 => .inl (G.ci 3, 49, .inl f)
  | 45 => .inr (10, fl10 G.b0 45 f)
  | 46 => .inl (G.ci 0, 6561, .inl f)
  | 47 => .inl (G.ci 4, 4, .inr (.inr (.inr (.inr (fun i => (([49, 51, 53, 55] : List Nat)[i]?).map (fun x => G.b0 + x))))))
  | 48 => .inl (G.ci 5, 2, .inr (.inr (.inr (.inr (fun i => (([57, 67] : List Nat)[i]?).map (fun x => G.b0 + x))))))
  | 49 => .inr (6, fl6 G.b0 49 f)
  | 50 => .inl (G.ci 2, 40, .inr (.inl l))
  | 51 => .inr (6, fl6 G.b0 51 f)
  | 52 => .inl (G.ci 2, 40, .inr (.inl l))
  | 53 => .inr (6, fl6 G.b0 53 f)
  | 54 => .inl (G.ci 2, 40, .inr (.inl l))
  | 55 => .inr (6, fl6 G.b0 55 f)
  | 56 => .inl (G.ci 2, 40, .inr (.inl l))
  | 57 => .inr (1, fl1 G.b0 57 f)
  | 58 => .inr (2, fl2 G.b0 58 f)
  | 59 => .inl (G.ci 0, 48, .inl f)
  | 60 => .inl (G.ci 0, 16, .inl f)
  | 61 => .inl (G.ci 0, 8, .inl f)
  | 62 => .inl (G.ci 0, 8, .inl f)
  | 63 => .inl (G.ci 0, 6, .inl f)
  | 64 => .inr (8, fl8 G.b0 64 f)
  | 65 => .inl (G.ci 0, 6, .inl f)
  | 66 => .inl (G.ci 0, 6, .inl f)
  | 67 => .inr (1, fl1 G.b0 67 f)
  | 68 => .inr (2, fl2 G.b0 68 f)
  | 69 => .inl (G.ci 0, 48, .inl f)
  | 70 => .inl (G.ci 0, 16, .inl f)
  | 71 => .inl (G.ci 0, 8, .inl f)
  | 72 => .inl (G.ci 0, 8, .inl f)
  | 73 => .inl (G.ci 0, 6, .inl f)
  | 74 => .inr (8, fl8 G.b0 74 f)
  | 75 => .inl (G.ci 0, 6, .inl f)
  | 76 => .inl (G.ci 0, 6, .inl f)
  | 77 => .inr (12, fl12 G.b0 77 f)
  | 78 => .inl (G.ci 0, 594, .inl f)
  | 79 => .inl (G.ci 3, 2, .inl f)
  | 80 => .inl (G.ci 0, 900, .inl f)
  | 81 => .inl (G.ci 0, 198, .inl f)
  | 82 => .inl (G.ci 0, 900, .inl f)
  | 83 => .inl (G.ci 0, 8, .inl f)
  | 84 => .inl (G.ci 0, 8, .inl f)
  | 85 => .inl (G.ci 0, 900, .inl f)
  | 86 => .inl (G.ci 0, 7, .inl f)
  | 87 => .inl (G.ci 0, 6, .inl f)
  | 88 => .inl (G.ci 0, 256, .inl f)
  | 89 => .inl (G.ci 0, 256, .inl f)
  | 90 => .inl (G.ci 0, 1536, .inl f)
  | 91 => .inl (G.ci 0, 1536, .inl f)
  | 92 => .inl (G.ci 0, 6, .inl f)
  | 93 => .inl (G.ci 0, 6, .inl f)
  | 94 => .inl (G.ci 0, 2401, .inl f)
  | 95 => .inl (G.ci 0, 65536, .inl f)
  | 96 => .inl (G.ci 0, 4, .inl f)
  | 97 => .inl (G.ci 0, 4, .inl f)
  | 98 => .inl (G.ci 2, 160, .inr (.inl l))
  | _ => .inl (G.ci 0, 0, .inl f)
def sh (G : GT) (σ : ST) (μ : SL) : HT := fun a => cel G a (σ a) (μ a)
def pt (σ : ST) (a j : Nat) (x : Int32) : ST := fun p q => if p = a ∧ q = j then x else σ p q
def ptL (μ : SL) (a j : Nat) (x : Int64) : SL := fun p q => if p = a ∧ q = j then x else μ p q
theorem pt_eq (σ : ST) (a j : Nat) (x : Int32) : va_up σ a (upd (σ a) j x) = pt σ a j x := by
  funext p q
  by_cases hp : p = a
  · subst hp
    by_cases hq : q = j
    · simp [va_up, upd, pt, hq]
    · simp [va_up, upd, pt, hq]
  · simp [va_up, pt, hp]
theorem ptL_eq (σ : SL) (a j : Nat) (x : Int64) : va_up σ a (vp_updL (σ a) j x) = ptL σ a j x := by
  funext p q
  by_cases hp : p = a
  · subst hp
    by_cases hq : q = j
    · simp [va_up, vp_updL, ptL, hq]
    · simp [va_up, vp_updL, ptL, hq]
  · simp [va_up, ptL, hp]
theorem pt_s (σ : ST) (a j : Nat) (x : Int32) : pt σ a j x a j = x := by simp [pt]
theorem pt_a {σ : ST} {a j b k : Nat} {x : Int32} (h : b ≠ a) : pt σ a j x b k = σ b k := by simp [pt, h]
theorem pt_j {σ : ST} {a j b k : Nat} {x : Int32} (h : k ≠ j) : pt σ a j x b k = σ b k := by simp [pt, h]
theorem pt_r {σ : ST} {a j b : Nat} {x : Int32} (h : b ≠ a) : pt σ a j x b = σ b := by funext k; exact pt_a h
theorem sh_up {G : GT} {σ : ST} {μ : SL} {a : Nat} {f : Nat → Int32} {e : va_E} (he : e = cel G a f (μ a)) : va_up (sh G σ μ) a e = sh G (va_up σ a f) μ := by
  funext k
  by_cases hk : k = a
  · subst hk; simp [va_up, sh, he]
  · simp [va_up, sh, hk]
theorem sh_upL {G : GT} {σ : ST} {μ : SL} {a : Nat} {f : Nat → Int64} {e : va_E} (he : e = cel G a (σ a) f) : va_up (sh G σ μ) a e = sh G σ (va_up μ a f) := by
  funext k
  by_cases hk : k = a
  · subst hk; simp [va_up, sh, he]
  · simp [va_up, sh, hk]
def AI (G : GT) (a n : Nat) : Prop := a < 99 ∧ n < 2 ^ 31 ∧ ∀ f l, cel G a f l = .inl (G.ci 0, n, .inl f)
def AB (G : GT) (a n : Nat) : Prop := a < 99 ∧ n < 2 ^ 31 ∧ ∀ f l, cel G a f l = .inl (G.ci 1, n, .inl f)
def AZ (G : GT) (a n : Nat) : Prop := a < 99 ∧ n < 2 ^ 31 ∧ ∀ f l, cel G a f l = .inl (G.ci 3, n, .inl f)
def AL (G : GT) (a n : Nat) : Prop := a < 99 ∧ n < 2 ^ 31 ∧ ∀ f l, cel G a f l = .inl (G.ci 2, n, .inr (.inl l))
def AO (G : GT) (a ci : Nat) (fl : (Nat → Int32) → List Value) : Prop := a < 99 ∧ ∀ f l, cel G a f l = .inr (ci, fl f)
theorem a0 {G : GT} : AO G 0 11 (fl11 G.b0 0) := ⟨by decide, fun _ _ => rfl⟩
theorem a1 {G : GT} : AB G 1 900 := ⟨by decide, by decide, fun _ _ => rfl⟩
theorem a2 {G : GT} : AO G 2 5 (fl5 G.b0 2) := ⟨by decide, fun _ _ => rfl⟩
theorem a3 {G : GT} : AO G 3 9 (fl9 G.b0 3) := ⟨by decide, fun _ _ => rfl⟩
theorem a4 {G : GT} : AI G 4 901 := ⟨by decide, by decide, fun _ _ => rfl⟩
theorem a5 {G : GT} : AI G 5 901 := ⟨by decide, by decide, fun _ _ => rfl⟩
theorem a6 {G : GT} : AI G 6 901 := ⟨by decide, by decide, fun _ _ => rfl⟩
theorem a7 {G : GT} : AO G 7 0 (fl0 G.b0 7) := ⟨by decide, fun _ _ => rfl⟩
theorem a8 {G : GT} : AI G 8 901 := ⟨by decide, by decide, fun _ _ => rfl⟩
theorem a9 {G : GT} : AI G 9 8 := ⟨by decide, by decide, fun _ _ => rfl⟩
theorem a10 {G : GT} : AI G 10 64 := ⟨by decide, by decide, fun _ _ => rfl⟩
theorem a11 {G : GT} : AO G 11 2 (fl2 G.b0 11) := ⟨by decide, fun _ _ => rfl⟩
theorem a12 {G : GT} : AI G 12 48 := ⟨by decide, by decide, fun _ _ => rfl⟩
theorem a13 {G : GT} : AI G 13 16 := ⟨by decide, by decide, fun _ _ => rfl⟩
theorem a14 {G : GT} : AI G 14 8 := ⟨by decide, by decide, fun _ _ => rfl⟩
theorem a15 {G : GT} : AI G 15 8 := ⟨by decide, by decide, fun _ _ => rfl⟩
theorem a16 {G : GT} : AI G 16 6 := ⟨by decide, by decide, fun _ _ => rfl⟩
theorem a17 {G : GT} : AO G 17 8 (fl8 G.b0 17) := ⟨by decide, fun _ _ => rfl⟩
theorem a18 {G : GT} : AI G 18 6 := ⟨by decide, by decide, fun _ _ => rfl⟩
theorem a19 {G : GT} : AI G 19 6 := ⟨by decide, by decide, fun _ _ => rfl⟩
theorem a20 {G : GT} : AO G 20 2 (fl2 G.b0 20) := ⟨by decide, fun _ _ => rfl⟩
theorem a21 {G : GT} : AI G 21 48 := ⟨by decide, by decide, fun _ _ => rfl⟩
theorem a22 {G : GT} : AI G 22 16 := ⟨by decide, by decide, fun _ _ => rfl⟩
theorem a23 {G : GT} : AI G 23 8 := ⟨by decide, by decide, fun _ _ => rfl⟩
theorem a24 {G : GT} : AI G 24 8 := ⟨by decide, by decide, fun _ _ => rfl⟩
theorem a25 {G : GT} : AI G 25 6 := ⟨by decide, by decide, fun _ _ => rfl⟩
theorem a26 {G : GT} : AO G 26 8 (fl8 G.b0 26) := ⟨by decide, fun _ _ => rfl⟩
theorem a27 {G : GT} : AI G 27 6 := ⟨by decide, by decide, fun _ _ => rfl⟩
theorem a28 {G : GT} : AI G 28 6 := ⟨by decide, by decide, fun _ _ => rfl⟩
theorem a29 {G : GT} : AO G 29 8 (fl8 G.b0 29) := ⟨by decide, fun _ _ => rfl⟩
theorem a30 {G : GT} : AI G 30 6 := ⟨by decide, by decide, fun _ _ => rfl⟩
theorem a31 {G : GT} : AI G 31 6 := ⟨by decide, by decide, fun _ _ => rfl⟩
theorem a32 {G : GT} : AO G 32 4 (fl4 G.b0 32) := ⟨by decide, fun _ _ => rfl⟩
theorem a33 {G : GT} : AI G 33 84 := ⟨by decide, by decide, fun _ _ => rfl⟩
theorem a34 {G : GT} : AO G 34 7 (fl7 G.b0 34) := ⟨by decide, fun _ _ => rfl⟩
theorem a35 {G : GT} : AI G 35 256 := ⟨by decide, by decide, fun _ _ => rfl⟩
theorem a36 {G : GT} : AI G 36 256 := ⟨by decide, by decide, fun _ _ => rfl⟩
theorem a37 {G : GT} : AI G 37 256 := ⟨by decide, by decide, fun _ _ => rfl⟩
theorem a38 {G : GT} : AI G 38 102 := ⟨by decide, by decide, fun _ _ => rfl⟩
theorem a39 {G : GT} : AI G 39 6 := ⟨by decide, by decide, fun _ _ => rfl⟩
theorem a40 {G : GT} : AO G 40 3 (fl3 G.b0 40) := ⟨by decide, fun _ _ => rfl⟩
theorem a41 {G : GT} : AI G 41 256 := ⟨by decide, by decide, fun _ _ => rfl⟩
theorem a42 {G : GT} : AI G 42 2401 := ⟨by decide, by decide, fun _ _ => rfl⟩
theorem a43 {G : GT} : AI G 43 6 := ⟨by decide, by decide, fun _ _ => rfl⟩
theorem a44 {G : GT} : AZ G 44 49 := ⟨by decide, by decide, fun _ _ => rfl⟩
theorem a45 {G : GT} : AO G 45 10 (fl10 G.b0 45) := ⟨by decide, fun _ _ => rfl⟩
theorem a46 {G : GT} : AI G 46 6561 := ⟨by decide, by decide, fun _ _ => rfl⟩
theorem a47 {G : GT} {σ : ST} {μ : SL} : sh G σ μ 47 = .inl (G.ci 4, 4, .inr (.inr (.inr (.inr (fun i => (([49, 51, 53, 55] : List Nat)[i]?).map (fun x => G.b0 + x)))))) := rfl
theorem a48 {G : GT} {σ : ST} {μ : SL} : sh G σ μ 48 = .inl (G.ci 5, 2, .inr (.inr (.inr (.inr (fun i => (([57, 67] : List Nat)[i]?).map (fun x => G.b0 + x)))))) := rfl
theorem a49 {G : GT} : AO G 49 6 (fl6 G.b0 49) := ⟨by decide, fun _ _ => rfl⟩
theorem a50 {G : GT} : AL G 50 40 := ⟨by decide, by decide, fun _ _ => rfl⟩
theorem a51 {G : GT} : AO G 51 6 (fl6 G.b0 51) := ⟨by decide, fun _ _ => rfl⟩
theorem a52 {G : GT} : AL G 52 40 := ⟨by decide, by decide, fun _ _ => rfl⟩
theorem a53 {G : GT} : AO G 53 6 (fl6 G.b0 53) := ⟨by decide, fun _ _ => rfl⟩
theorem a54 {G : GT} : AL G 54 40 := ⟨by decide, by decide, fun _ _ => rfl⟩
theorem a55 {G : GT} : AO G 55 6 (fl6 G.b0 55) := ⟨by decide, fun _ _ => rfl⟩
theorem a56 {G : GT} : AL G 56 40 := ⟨by decide, by decide, fun _ _ => rfl⟩
theorem a57 {G : GT} : AO G 57 1 (fl1 G.b0 57) := ⟨by decide, fun _ _ => rfl⟩
theorem a58 {G : GT} : AO G 58 2 (fl2 G.b0 58) := ⟨by decide, fun _ _ => rfl⟩
theorem a59 {G : GT} : AI G 59 48 := ⟨by decide, by decide, fun _ _ => rfl⟩
theorem a60 {G : GT} : AI G 60 16 := ⟨by decide, by decide, fun _ _ => rfl⟩
theorem a61 {G : GT} : AI G 61 8 := ⟨by decide, by decide, fun _ _ => rfl⟩
theorem a62 {G : GT} : AI G 62 8 := ⟨by decide, by decide, fun _ _ => rfl⟩
theorem a63 {G : GT} : AI G 63 6 := ⟨by decide, by decide, fun _ _ => rfl⟩
theorem a64 {G : GT} : AO G 64 8 (fl8 G.b0 64) := ⟨by decide, fun _ _ => rfl⟩
theorem a65 {G : GT} : AI G 65 6 := ⟨by decide, by decide, fun _ _ => rfl⟩
theorem a66 {G : GT} : AI G 66 6 := ⟨by decide, by decide, fun _ _ => rfl⟩
theorem a67 {G : GT} : AO G 67 1 (fl1 G.b0 67) := ⟨by decide, fun _ _ => rfl⟩
theorem a68 {G : GT} : AO G 68 2 (fl2 G.b0 68) := ⟨by decide, fun _ _ => rfl⟩
theorem a69 {G : GT} : AI G 69 48 := ⟨by decide, by decide, fun _ _ => rfl⟩
theorem a70 {G : GT} : AI G 70 16 := ⟨by decide, by decide, fun _ _ => rfl⟩
theorem a71 {G : GT} : AI G 71 8 := ⟨by decide, by decide, fun _ _ => rfl⟩
theorem a72 {G : GT} : AI G 72 8 := ⟨by decide, by decide, fun _ _ => rfl⟩
theorem a73 {G : GT} : AI G 73 6 := ⟨by decide, by decide, fun _ _ => rfl⟩
theorem a74 {G : GT} : AO G 74 8 (fl8 G.b0 74) := ⟨by decide, fun _ _ => rfl⟩
theorem a75 {G : GT} : AI G 75 6 := ⟨by decide, by decide, fun _ _ => rfl⟩
theorem a76 {G : GT} : AI G 76 6 := ⟨by decide, by decide, fun _ _ => rfl⟩
theorem a77 {G : GT} : AO G 77 12 (fl12 G.b0 77) := ⟨by decide, fun _ _ => rfl⟩
theorem a78 {G : GT} : AI G 78 594 := ⟨by decide, by decide, fun _ _ => rfl⟩
theorem a79 {G : GT} : AZ G 79 2 := ⟨by decide, by decide, fun _ _ => rfl⟩
theorem a80 {G : GT} : AI G 80 900 := ⟨by decide, by decide, fun _ _ => rfl⟩
theorem a81 {G : GT} : AI G 81 198 := ⟨by decide, by decide, fun _ _ => rfl⟩
theorem a82 {G : GT} : AI G 82 900 := ⟨by decide, by decide, fun _ _ => rfl⟩
theorem a83 {G : GT} : AI G 83 8 := ⟨by decide, by decide, fun _ _ => rfl⟩
theorem a84 {G : GT} : AI G 84 8 := ⟨by decide, by decide, fun _ _ => rfl⟩
theorem a85 {G : GT} : AI G 85 900 := ⟨by decide, by decide, fun _ _ => rfl⟩
theorem a86 {G : GT} : AI G 86 7 := ⟨by decide, by decide, fun _ _ => rfl⟩
theorem a87 {G : GT} : AI G 87 6 := ⟨by decide, by decide, fun _ _ => rfl⟩
theorem a88 {G : GT} : AI G 88 256 := ⟨by decide, by decide, fun _ _ => rfl⟩
theorem a89 {G : GT} : AI G 89 256 := ⟨by decide, by decide, fun _ _ => rfl⟩
theorem a90 {G : GT} : AI G 90 1536 := ⟨by decide, by decide, fun _ _ => rfl⟩
theorem a91 {G : GT} : AI G 91 1536 := ⟨by decide, by decide, fun _ _ => rfl⟩
theorem a92 {G : GT} : AI G 92 6 := ⟨by decide, by decide, fun _ _ => rfl⟩
theorem a93 {G : GT} : AI G 93 6 := ⟨by decide, by decide, fun _ _ => rfl⟩
theorem a94 {G : GT} : AI G 94 2401 := ⟨by decide, by decide, fun _ _ => rfl⟩
theorem a95 {G : GT} : AI G 95 65536 := ⟨by decide, by decide, fun _ _ => rfl⟩
theorem a96 {G : GT} : AI G 96 4 := ⟨by decide, by decide, fun _ _ => rfl⟩
theorem a97 {G : GT} : AI G 97 4 := ⟨by decide, by decide, fun _ _ => rfl⟩
theorem a98 {G : GT} : AL G 98 160 := ⟨by decide, by decide, fun _ _ => rfl⟩
def Lnd (G : GT) (a : Nat) : Prop := AO G a 2 (fl2 G.b0 a) ∧ AI G (a + 1) 48 ∧ AI G (a + 2) 16 ∧ AI G (a + 3) 8 ∧ AI G (a + 4) 8 ∧ AI G (a + 5) 6
def Sta (G : GT) (a : Nat) : Prop := AO G a 8 (fl8 G.b0 a) ∧ AI G (a + 1) 6 ∧ AI G (a + 2) 6
def Rwo (G : GT) (a : Nat) : Prop := AO G a 6 (fl6 G.b0 a) ∧ AL G (a + 1) 40
theorem ln11 {G : GT} : Lnd G 11 := ⟨a11, a12, a13, a14, a15, a16⟩
theorem ln20 {G : GT} : Lnd G 20 := ⟨a20, a21, a22, a23, a24, a25⟩
theorem ln58 {G : GT} : Lnd G 58 := ⟨a58, a59, a60, a61, a62, a63⟩
theorem ln68 {G : GT} : Lnd G 68 := ⟨a68, a69, a70, a71, a72, a73⟩
theorem sa17 {G : GT} : Sta G 17 := ⟨a17, a18, a19⟩
theorem sa26 {G : GT} : Sta G 26 := ⟨a26, a27, a28⟩
theorem sa29 {G : GT} : Sta G 29 := ⟨a29, a30, a31⟩
theorem sa64 {G : GT} : Sta G 64 := ⟨a64, a65, a66⟩
theorem sa74 {G : GT} : Sta G 74 := ⟨a74, a75, a76⟩
theorem rw49 {G : GT} : Rwo G 49 := ⟨a49, a50⟩
theorem rw51 {G : GT} : Rwo G 51 := ⟨a51, a52⟩
theorem rw53 {G : GT} : Rwo G 53 := ⟨a53, a54⟩
theorem rw55 {G : GT} : Rwo G 55 := ⟨a55, a56⟩
section Cells
variable {G : GT} {own : String} {cc : ByteArray} {nL : Nat} {ret : Option FieldType} {d : Nat} {Q : QT} {pc : Nat} {ls : LT} {st : List Value} {σ : ST} {μ : SL}
theorem g_get {idx ci j a : Nat} {fl : (Nat → Int32) → List Value} {v : Value} (hd : decode cc pc = .ok (.getfield idx, 3)) (hg : GF own idx ci j) (hA : AO G a ci fl) (hv : (fl (σ a))[j]? = some v) (k : BB G own cc nL ret d Q (pc + 3) ls (v :: st) (sh G σ μ)) : BB G own cc nL ret d Q pc ls (.ref (G.b0 + a) :: st) (sh G σ μ) :=
  b_getf hd hg hA.1 (hA.2 _ _) hv k
/-- an int field whose value is known -/
theorem g_geti {idx ci j a : Nat} {fl : (Nat → Int32) → List Value} {x : Int32} (hd : decode cc pc = .ok (.getfield idx, 3)) (hg : GF own idx ci j) (hA : AO G a ci fl) (hv : (fl (σ a))[j]? = some (.int (σ a j))) (hx : σ a j = x) (k : BB G own cc nL ret d Q (pc + 3) ls (.int x :: st) (sh G σ μ)) : BB G own cc nL ret d Q pc ls (.ref (G.b0 + a) :: st) (sh G σ μ) := by
  subst hx
  exact b_getf hd hg hA.1 (hA.2 _ _) hv k
theorem g_put {idx ci j a : Nat} {fl : (Nat → Int32) → List Value} {x : Int32} (hd : decode cc pc = .ok (.putfield idx, 3)) (hg : GFw own idx ci j) (hA : AO G a ci fl) (ht : ∃ C T N, vwCl[ci]? = some (C, T, N) ∧ parseFieldDescriptor (T j).2.2.1 = some .int) (hl : j < (fl (σ a)).length) (hs : (fl (σ a)).set j (.int x) = fl (upd (σ a) j x)) (k : BB G own cc nL ret d Q (pc + 3) ls st (sh G (pt σ a j x) μ)) : BB G own cc nL ret d Q pc ls (.int x :: .ref (G.b0 + a) :: st) (sh G σ μ) := by
  refine b_putf hd hg hA.1 (hA.2 _ _) hl (Or.inr (Or.inr ht)) ?_
  rw [sh_up (f := upd (σ a) j x) (by rw [hA.2, hs]), pt_eq]
  exact k
theorem g_putz {idx ci j a : Nat} {fl : (Nat → Int32) → List Value} {x : Int32} (hd : decode cc pc = .ok (.putfield idx, 3)) (hg : GFw own idx ci j) (hA : AO G a ci fl) (hx : x = 0 ∨ x = 1) (hl : j < (fl (σ a)).length) (hs : (fl (σ a)).set j (.int x) = fl (upd (σ a) j x)) (k : BB G own cc nL ret d Q (pc + 3) ls st (sh G (pt σ a j x) μ)) : BB G own cc nL ret d Q pc ls (.int x :: .ref (G.b0 + a) :: st) (sh G σ μ) := by
  refine b_putf hd hg hA.1 (hA.2 _ _) hl (hx.elim Or.inl (fun e => Or.inr (Or.inl e))) ?_
  rw [sh_up (f := upd (σ a) j x) (by rw [hA.2, hs]), pt_eq]
  exact k
theorem g_iald {a n j : Nat} {i : Int32} (hd : decode cc pc = .ok (.iaload, 1)) (hA : AI G a n) (hi : i = nI j) (hj : j < n) (k : BB G own cc nL ret d Q (pc + 1) ls (.int (σ a j) :: st) (sh G σ μ)) : BB G own cc nL ret d Q pc ls (.int i :: .ref (G.b0 + a) :: st) (sh G σ μ) :=
  b_iald hd hA.1 (hA.2.2 _ _) hi hj hA.2.1 k
theorem g_bald {a n j : Nat} {i : Int32} (hd : decode cc pc = .ok (.baload, 1)) (hA : AB G a n) (hi : i = nI j) (hj : j < n) (k : BB G own cc nL ret d Q (pc + 1) ls (.int (σ a j) :: st) (sh G σ μ)) : BB G own cc nL ret d Q pc ls (.int i :: .ref (G.b0 + a) :: st) (sh G σ μ) :=
  b_bald hd hA.1 (hA.2.2 _ _) hi hj hA.2.1 k
theorem g_zald {a n j : Nat} {i : Int32} (hd : decode cc pc = .ok (.baload, 1)) (hA : AZ G a n) (hi : i = nI j) (hj : j < n) (k : BB G own cc nL ret d Q (pc + 1) ls (.int (σ a j) :: st) (sh G σ μ)) : BB G own cc nL ret d Q pc ls (.int i :: .ref (G.b0 + a) :: st) (sh G σ μ) :=
  b_zald hd hA.1 (hA.2.2 _ _) hi hj hA.2.1 k
theorem g_lald {a n j : Nat} {i : Int32} (hd : decode cc pc = .ok (.laload, 1)) (hA : AL G a n) (hi : i = nI j) (hj : j < n) (k : BB G own cc nL ret d Q (pc + 1) ls (.long (μ a j) :: st) (sh G σ μ)) : BB G own cc nL ret d Q pc ls (.int i :: .ref (G.b0 + a) :: st) (sh G σ μ) :=
  b_lald hd hA.1 (hA.2.2 _ _) hi hj hA.2.1 k
theorem g_iast {a n j : Nat} {i x : Int32} (hd : decode cc pc = .ok (.iastore, 1)) (hA : AI G a n) (hi : i = nI j) (hj : j < n) (k : BB G own cc nL ret d Q (pc + 1) ls st (sh G (pt σ a j x) μ)) : BB G own cc nL ret d Q pc ls (.int x :: .int i :: .ref (G.b0 + a) :: st) (sh G σ μ) := by
  refine b_iast hd hA.1 (hA.2.2 _ _) hi hj hA.2.1 ?_
  rw [sh_up (f := upd (σ a) j x) (by rw [hA.2.2]), pt_eq]
  exact k
theorem g_bast {a n j : Nat} {i x : Int32} (hd : decode cc pc = .ok (.bastore, 1)) (hA : AB G a n) (hi : i = nI j) (hj : j < n) (k : BB G own cc nL ret d Q (pc + 1) ls st (sh G (pt σ a j (vp_nar .byte x)) μ)) : BB G own cc nL ret d Q pc ls (.int x :: .int i :: .ref (G.b0 + a) :: st) (sh G σ μ) := by
  refine b_bast hd hA.1 (hA.2.2 _ _) hi hj hA.2.1 ?_
  rw [sh_up (f := upd (σ a) j (vp_nar .byte x)) (by rw [hA.2.2]), pt_eq]
  exact k
theorem g_zast {a n j : Nat} {i x : Int32} (hd : decode cc pc = .ok (.bastore, 1)) (hA : AZ G a n) (hi : i = nI j) (hj : j < n) (k : BB G own cc nL ret d Q (pc + 1) ls st (sh G (pt σ a j (vp_nar .boolean x)) μ)) : BB G own cc nL ret d Q pc ls (.int x :: .int i :: .ref (G.b0 + a) :: st) (sh G σ μ) := by
  refine b_zast hd hA.1 (hA.2.2 _ _) hi hj hA.2.1 ?_
  rw [sh_up (f := upd (σ a) j (vp_nar .boolean x)) (by rw [hA.2.2]), pt_eq]
  exact k
theorem g_last {a n j : Nat} {i : Int32} {x : Int64} (hd : decode cc pc = .ok (.lastore, 1)) (hA : AL G a n) (hi : i = nI j) (hj : j < n) (k : BB G own cc nL ret d Q (pc + 1) ls st (sh G σ (ptL μ a j x))) : BB G own cc nL ret d Q pc ls (.long x :: .int i :: .ref (G.b0 + a) :: st) (sh G σ μ) := by
  refine b_last hd hA.1 (hA.2.2 _ _) hi hj hA.2.1 ?_
  rw [sh_upL (f := vp_updL (μ a) j x) (by rw [hA.2.2]), ptL_eq]
  exact k
theorem g_aald {a n j b t0 : Nat} {C : String} {f : Nat → Option Nat} {i : Int32} (hd : decode cc pc = .ok (.aaload, 1)) (ha : a < 99) (he : sh G σ μ a = .inl (G.ci t0, n, .inr (.inr (.inr (.inr f))))) (ht : (tysG G)[t0]? = some (G.ci t0, .object C)) (hi : i = nI j) (hj : j < n) (hn : n < 2 ^ 31) (hf : f j = some (G.b0 + b)) (k : BB G own cc nL ret d Q (pc + 1) ls (.ref (G.b0 + b) :: st) (sh G σ μ)) : BB G own cc nL ret d Q pc ls (.int i :: .ref (G.b0 + a) :: st) (sh G σ μ) :=
  b_aald hd ha he ht hi hj hn hf k
theorem g_ilen {a n : Nat} (hd : decode cc pc = .ok (.arraylength, 1)) (hA : AI G a n) (k : BB G own cc nL ret d Q (pc + 1) ls (.int (nI n) :: st) (sh G σ μ)) : BB G own cc nL ret d Q pc ls (.ref (G.b0 + a) :: st) (sh G σ μ) :=
  b_alen (t0 := 0) (ty := .int) hd hA.1 (hA.2.2 _ _) rfl k
theorem g_llen {a n : Nat} (hd : decode cc pc = .ok (.arraylength, 1)) (hA : AL G a n) (k : BB G own cc nL ret d Q (pc + 1) ls (.int (nI n) :: st) (sh G σ μ)) : BB G own cc nL ret d Q pc ls (.ref (G.b0 + a) :: st) (sh G σ μ) :=
  b_alen (t0 := 2) (ty := .long) hd hA.1 (hA.2.2 _ _) rfl k
theorem g_blen {a n : Nat} (hd : decode cc pc = .ok (.arraylength, 1)) (hA : AB G a n) (k : BB G own cc nL ret d Q (pc + 1) ls (.int (nI n) :: st) (sh G σ μ)) : BB G own cc nL ret d Q pc ls (.ref (G.b0 + a) :: st) (sh G σ μ) :=
  b_alen (t0 := 1) (ty := .byte) hd hA.1 (hA.2.2 _ _) rfl k
/-- calls, told by 'Ret', over cells -/
theorem g_callV {M : MT} {idx n ci a : Nat} {fl : (Nat → Int32) → List Value} {q : vw_C} {v : Option Value} {h' : HT} (As : List Value) {st0 : List Value} (hd : decode cc pc = .ok (.invokevirtual idx, 3)) (mk : MKv M n) (hlk : Cond.methodLink own idx M.1 ∈ TB) (hA : AO G a ci fl) (hc : vwCl[ci]? = some q) (hq : q.1 = M.1.cls)
    (hM : Fn G d M (.ref (G.b0 + a) :: As) (sh G σ μ) (Ret v h')) (hn : As.length = n) (hst : st0 = As.reverse ++ .ref (G.b0 + a) :: st) (hw : (st.map fun v => v.category).sum ≤ 8)
    (k : BB G own cc nL ret (d + 1) Q (pc + 3) ls (v.toList ++ st) h') : BB G own cc nL ret (d + 1) Q pc ls st0 (sh G σ μ) :=
  b_callVr As hd mk hlk hA.1 (hA.2 _ _) hc hq hM hn hst hw k
theorem g_callVp {Post : Option Value → HT → Prop} {M : MT} {idx n ci a : Nat} {fl : (Nat → Int32) → List Value} {q : vw_C} (As : List Value) {st0 : List Value} (hd : decode cc pc = .ok (.invokevirtual idx, 3)) (mk : MKv M n) (hlk : Cond.methodLink own idx M.1 ∈ TB) (hA : AO G a ci fl) (hc : vwCl[ci]? = some q) (hq : q.1 = M.1.cls)
    (hM : Fn G d M (.ref (G.b0 + a) :: As) (sh G σ μ) Post) (hn : As.length = n) (hst : st0 = As.reverse ++ .ref (G.b0 + a) :: st) (hw : (st.map fun v => v.category).sum ≤ 8)
    (k : ∀ (r : Option Value) (h' : HT), Post r h' → BB G own cc nL ret (d + 1) Q (pc + 3) ls (r.toList ++ st) h') : BB G own cc nL ret (d + 1) Q pc ls st0 (sh G σ μ) :=
  b_callV As hd mk hlk hA.1 (hA.2 _ _) hc hq hM hn hst hw k
/-- THREES -/
theorem g_gets3 {idx : Nat} (hd : decode cc pc = .ok (.getstatic idx, 3)) (hlk : Cond.fieldLink own idx "KnowsLeast$Trial" "THREES" "[I" ∈ TB) {h : HT} (k : BB G own cc nL ret d Q (pc + 3) ls (.ref G.t3 :: st) h) : BB G own cc nL ret d Q pc ls st h :=
  fun p e R s m args below meth c cells slots E H locs lsA hH hS hl => va_gets E.1 E.2.1 (E.2.2.2.2.2.2.2.1.2.1.kept (fun a ha hA => E.2.2.2.2.2.2.2.2.1.2 a (Nat.not_le.mp hA))) hS E.2.2.2.2.2.1 (E.2.2.2.2.2.2.1 _ hlk) (fun _ h9 => h9) hd (k p e R s m args below meth c cells slots E H locs lsA hH hS hl)
theorem g_t3ld {j : Nat} {i x : Int32} (hd : decode cc pc = .ok (.iaload, 1)) (hi : i = nI j) (hj : j < 9) (hx : t3f j = .int x) {h : HT} (k : BB G own cc nL ret d Q (pc + 1) ls (.int x :: st) h) : BB G own cc nL ret d Q pc ls (.int i :: .ref G.t3 :: st) h := by
  subst hi
  have hin : vp_in (nI j) 9 := vp_in_nI hj (by decide)
  exact fun p e R s m args below meth c cells slots E H locs lsA hH hS hl => va_ti E.1 E.2.1 (E.2.2.2.2.2.2.2.1.2.2.1.kept (fun a ha hA => E.2.2.2.2.2.2.2.2.1.2 a (Nat.not_le.mp hA))) hS hin (by rw [nI_clamp (by omega)]; exact hx) hd (k p e R s m args below meth c cells slots E H locs lsA hH hS hl)
/-- System.arraycopy over int arrays -/
def cpy (σ : ST) (a0 sp a dp n : Nat) : ST := va_up σ a (va_cpy (σ a0) (σ a) sp dp n)
theorem g_copy {idx a0 a n0 n1 sp dp n : Nat} {isp idp im : Int32} (hd : decode cc pc = .ok (.invokestatic idx, 3)) (hlk : Cond.methodLink own idx arraycopyName ∈ TB) (h0 : AI G a0 n0) (h1 : AI G a n1) (hsp : isp = nI sp) (hdp : idp = nI dp) (hm : im = nI n) (b0 : sp + n ≤ n0) (b1 : dp + n ≤ n1) (hw : (st.map fun v => v.category).sum ≤ 8)
    (k : BB G own cc nL ret (d + 1) Q (pc + 3) ls st (sh G (cpy σ a0 sp a dp n) μ)) : BB G own cc nL ret (d + 1) Q pc ls (.int im :: .int idp :: .ref (G.b0 + a) :: .int isp :: .ref (G.b0 + a0) :: st) (sh G σ μ) := by
  subst hsp; subst hdp; subst hm
  have l0 := h0.2.1
  have l1 := h1.2.1
  have c1 : (nI sp).toNatClampNeg = sp := nI_clamp (by omega)
  have c2 : (nI dp).toNatClampNeg = dp := nI_clamp (by omega)
  have c3 : (nI n).toNatClampNeg = n := nI_clamp (by omega)
  intro p e R s m args below meth c cells slots E H locs lsA hH hS hl
  have hR := E.2.2.2.2.2.2.2.2.2.1
  refine va_copyi (H0 := s.heap) E.1 E.2.1 (E.2.2.1.trans hl.1.symm) E.2.2.2.2.2.1 (E.2.2.2.2.2.2.1 _ hlk) (E.2.2.2.2.2.2.1 _ cp_nat) (E.2.2.2.2.2.2.1 _ cp_st) (E.2.2.2.2.2.2.1 _ iniJ10) E.2.2.2.2.2.2.2.1.1 hH.2.2 wl_D hS a0 a 0 0 (by rw [wl_at h0.1]; show some (G.b0 + a0, cel G a0 (σ a0) (μ a0)) = _; rw [h0.2.2]) (by rw [wl_at h1.1]; show some (G.b0 + a, cel G a (σ a) (μ a)) = _; rw [h1.2.2]) rfl rfl rfl (nI_pos (by omega)) (nI_pos (by omega)) (nI_pos (by omega)) (by rw [c1, c3]; exact b0) (by rw [c2, c3]; exact b1) (fun _ _ => rfl) (by omega) ?_ hd (fun H1 locs1 hP1 hD1 hS1 => ?_)
  · have h9 : nativeFrameWords "java/lang/System" "arraycopy" 5 ≤ 70 := by decide
    omega
  · refine k p e R s m args below meth c cells slots E H1 locs1 lsA (mkHP E.2.2.2.2.2.2.2.2.1 hS1 ?_) hS1 hl
    rw [wl_set h1.1, c1, c2, c3] at hP1
    rw [sh_up (f := va_cpy (σ a0) (σ a) sp dp n) (by rw [h1.2.2])] at hP1
    exact hP1
end Cells
