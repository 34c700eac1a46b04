/-! ===== Showing: the fewest by level ===== -/
section NestCall
variable {G : GT} {own : String} {cc : ByteArray} {nL : Nat} {ret : Option FieldType} {d : Nat} {Q : QT} {pc : Nat} {ls : LT} {st : List Value} {h : HT}
theorem b_callSNr {M : MT} {idx n : Nat} {host : String} {v : Option Value} {h' : HT} (As : List Value) {st0 : List Value} (hd : decode cc pc = .ok (.invokestatic idx, 3)) (mk : MKs M n) (hlk : ∀ U, Kn G U → va_Nw (.methodLinkNest own idx M.1 host) U)
    (hM : Fn G d M As h (Ret v h')) (hn : As.length = n) (hst : st0 = As.reverse ++ st) (hw : (st.map fun v => v.category).sum ≤ 8)
    (k : BB G own cc nL ret (d + 1) Q (pc + 3) ls (v.toList ++ st) h') : BB G own cc nL ret (d + 1) Q pc ls st0 h :=
  b_callSN As hd mk hlk hM hn hst hw (fun r g hp => by obtain ⟨rfl, rfl⟩ := hp; exact k)
end NestCall
def bN (a : Nat) : Nat := cnt (nI a) 16
def fle (a b : Nat) : Prop := bN a < bN b ∨ (bN a = bN b ∧ a ≤ b)
theorem fle_rf (a : Nat) : fle a a := Or.inr ⟨rfl, Nat.le_refl a⟩
theorem fle_tr {a b c : Nat} (h1 : fle a b) (h2 : fle b c) : fle a c := by unfold fle at *; omega
theorem fle_tot {a b : Nat} (h : ¬ fle a b) : fle b a := by unfold fle at *; omega
/-- of what c takes of 0 .. n-1 the fewest, then the least; -1 if there is none -/
def FewR (c : Nat → Prop) (n : Nat) (x : Int32) : Prop := (x = -1 ∧ ∀ a, a < n → ¬ c a) ∨ ∃ a, a < n ∧ c a ∧ x = nI a ∧ ∀ b, b < n → c b → fle a b
theorem mFewer_nI {a b : Nat} (ha : a < 2 ^ 31) (hb : b < 2 ^ 31) : mFewer (nI a) (nI b) = true ↔ bN a < bN b ∨ (bN a = bN b ∧ a < b) := by
  have h1 := nI_m1 hb
  have h2 := nI_ltI ha hb
  simp [mFewer, h1, bN, h2]
theorem mFewer_m1 (x : Int32) : mFewer x (-1) = true := by simp [mFewer]
theorem FewR_0 (c : Nat → Prop) : FewR c 0 (-1) := Or.inl ⟨rfl, fun a h => absurd h (by omega)⟩
theorem FewR_no {c : Nat → Prop} {n : Nat} {x : Int32} (h : FewR c n x) (hc : ¬ c n) : FewR c (n + 1) x := by
  rcases h with ⟨h1, h2⟩ | ⟨a, h1, h2, h3, h4⟩
  · refine Or.inl ⟨h1, fun a ha q => ?_⟩
    by_cases e : a = n
    · subst e; exact hc q
    · exact h2 a (by omega) q
  · refine Or.inr ⟨a, by omega, h2, h3, fun b hb q => ?_⟩
    by_cases e : b = n
    · subst e; exact absurd q hc
    · exact h4 b (by omega) q
theorem FewR_yes {c : Nat → Prop} {n : Nat} {x : Int32} (h : FewR c n x) (hn : n < 2 ^ 30) (hc : c n) (hf : mFewer (nI n) x = true) : FewR c (n + 1) (nI n) := by
  refine Or.inr ⟨n, by omega, hc, rfl, fun b hb q => ?_⟩
  by_cases e : b = n
  · subst e; exact fle_rf b
  · rcases h with ⟨h1, h2⟩ | ⟨a, h1, h2, h3, h4⟩
    · exact absurd q (h2 b (by omega))
    · subst h3
      have := (mFewer_nI (by omega) (by omega)).mp hf
      exact fle_tr (by unfold fle; omega) (h4 b (by omega) q)
theorem FewR_nf {c : Nat → Prop} {n : Nat} {x : Int32} (h : FewR c n x) (hn : n < 2 ^ 30) (hf : mFewer (nI n) x = false) : FewR c (n + 1) x := by
  rcases h with ⟨h1, h2⟩ | ⟨a, h1, h2, h3, h4⟩
  · subst h1; rw [mFewer_m1] at hf; exact absurd hf (by decide)
  · refine Or.inr ⟨a, by omega, h2, h3, fun b hb q => ?_⟩
    by_cases e : b = n
    · subst e; subst h3
      have h5 : ¬ (bN b < bN a ∨ (bN b = bN a ∧ b < a)) := fun z => by
        rw [(mFewer_nI (by omega) (by omega)).mpr z] at hf; exact absurd hf (by decide)
      unfold fle; omega
    · exact h4 b (by omega) q
theorem FewR_cg {c c' : Nat → Prop} {n : Nat} {x : Int32} (h : FewR c n x) (hc : ∀ a, a < n → (c a ↔ c' a)) : FewR c' n x := by
  rcases h with ⟨h1, h2⟩ | ⟨a, h1, h2, h3, h4⟩
  · exact Or.inl ⟨h1, fun a ha q => h2 a ha ((hc a ha).mpr q)⟩
  · exact Or.inr ⟨a, h1, (hc a h1).mp h2, h3, fun b hb q => h4 b hb ((hc b hb).mpr q)⟩
theorem FewR_or1 {c c1 c2 : Nat → Prop} {n : Nat} {x y : Int32} (hx : FewR c1 n x) (hy : FewR c2 n y) (hn : n < 2 ^ 30) (hc : ∀ a, a < n → (c a ↔ c1 a ∨ c2 a)) (h1 : ¬ x = -1) (hf : mFewer x y = true) : FewR c n x := by
  rcases hx with ⟨q, -⟩ | ⟨a, a1, a2, a3, a4⟩
  · exact absurd q h1
  · refine Or.inr ⟨a, a1, (hc a a1).mpr (Or.inl a2), a3, fun b hb q => ?_⟩
    rcases (hc b hb).mp q with q | q
    · exact a4 b hb q
    · rcases hy with ⟨-, h2⟩ | ⟨b0, b1, b2, b3, b4⟩
      · exact absurd q (h2 b hb)
      · subst a3; subst b3
        have := (mFewer_nI (by omega) (by omega)).mp hf
        exact fle_tr (by unfold fle; omega) (b4 b hb q)
theorem FewR_or2 {c c1 c2 : Nat → Prop} {n : Nat} {x y : Int32} (hx : FewR c1 n x) (hy : FewR c2 n y) (hn : n < 2 ^ 30) (hc : ∀ a, a < n → (c a ↔ c1 a ∨ c2 a)) (hf : x = -1 ∨ mFewer x y = false) : FewR c n y := by
  rcases hy with ⟨q, h2⟩ | ⟨b0, b1, b2, b3, b4⟩
  · subst q
    have hx1 : x = -1 := by
      rcases hf with h | h
      · exact h
      · rw [mFewer_m1] at h; exact absurd h (by decide)
    refine Or.inl ⟨rfl, fun a ha q => ?_⟩
    rcases (hc a ha).mp q with q | q
    · rcases hx with ⟨-, h3⟩ | ⟨a0, a1, a2, a3, a4⟩
      · exact h3 a ha q
      · rw [a3] at hx1; exact nI_m1 (by omega) hx1
    · exact h2 a ha q
  · refine Or.inr ⟨b0, b1, (hc b0 b1).mpr (Or.inr b2), b3, fun b hb q => ?_⟩
    rcases (hc b hb).mp q with q | q
    · rcases hx with ⟨-, h3⟩ | ⟨a0, a1, a2, a3, a4⟩
      · exact absurd q (h3 b hb)
      · rcases hf with h | h
        · rw [a3] at h; exact absurd h (nI_m1 (by omega))
        · subst a3; subst b3
          have h5 : ¬ (bN a0 < bN b0 ∨ (bN a0 = bN b0 ∧ a0 < b0)) := fun z => by
            rw [(mFewer_nI (by omega) (by omega)).mpr z] at h; exact absurd h (by decide)
          exact fle_tr (by unfold fle; omega) (a4 b hb q)
    · exact b4 b hb q
theorem FewR_lo {c : Nat → Prop} {n : Nat} {x : Int32} (h : FewR c n x) (hn : n ≤ 256) : x = -1 ∨ lo 16 x := by
  rcases h with ⟨q, -⟩ | ⟨a, a1, a2, a3, a4⟩
  · exact Or.inl q
  · exact Or.inr (by rw [a3]; exact lo_nI (by omega))
theorem all_not {F a : Nat} (hF : F ≤ 8) (ha : a < 2 ^ F) : mAll F &&& (nI a ^^^ (-1)) = nI (2 ^ F - 1 - a) := by
  apply b_ext
  intro i hi
  have h256 : 2 ^ F ≤ 256 := Nat.pow_le_pow_right (by omega) hF
  rw [b_and, bt_all (by omega) hi, b_xor, bt_nI hi, b_m1 i hi, bt_nI hi]
  have e : 2 ^ F - 1 - a = 2 ^ F - (a + 1) := by omega
  rw [e, Nat.testBit_two_pow_sub_succ ha]
  cases a.testBit i <;> simp
/-- by levels, in one's part of the table -/
def BT (s : ST) (p N : Nat) (c : Nat → Nat → Prop) (n : Nat) : Prop := ∀ l, l < 17 → FewR (c l) n (s 38 (17 * p + l))
def sgOk (sg : Int32) (up : Bool) : Prop := sg = if up then nI 1 else -1
def lvC (up : Bool) (lv : Nat → Nat) (l a : Nat) : Prop := if up then lv a ≤ l else l ≤ lv a
theorem c_findBest {G : GT} {d : Nat} {σ : ST} {μ : SL} {W F P p : Nat} {sg : Int32} {up : Bool} {lv : Nat → Nat} (hL : LV σ 20 W F P) (hp : p < 6) (hsg : sgOk sg up) (hlv : ∀ a, a < 2 ^ F → lv a ≤ 16 ∧ sg * σ 37 (2 ^ F - 1 - a) = nI (lv a)) : Fn G (d + 2) mX7_findBest [.ref (G.b0 + 34), .ref (G.b0 + 20), .int (nI p), .int sg] (sh G σ μ) (fun r h' => r = none ∧ ∃ s : ST, h' = sh G s μ ∧ (∀ c q, c ≠ 38 ∨ q < 17 * p ∨ 17 * p + 17 ≤ q → s c q = σ c q) ∧ BT s p (2 ^ F) (lvC up lv) (2 ^ F)) := by
  obtain ⟨hW, hF, hP, hW16, hF8, hP6⟩ := id hL
  have h256 : 2 ^ F ≤ 256 := Nat.pow_le_pow_right (by omega) hF8
  have hno : ∀ a, a < 2 ^ F → mAll F &&& (nI a ^^^ (-1)) = nI (2 ^ F - 1 - a) := fun a ha => all_not hF8 ha
  generalize hN : 2 ^ F = zN at hlv h256 hno
  refine fn_of (ls := [some (.ref (G.b0 + 34)), some (.ref (G.b0 + 20)), some (.int (nI p)), some (.int sg), none, none, none, none]) (by decide +kernel) (Nat.le_of_ble_eq_true rfl) 4 rfl ?_
  refine b_iload_n dX7_findBest_0 rfl ?_
  refine b_bipush (v := nI 17) dX7_findBest_1 (by decide) ?_
  refine b_imulN dX7_findBest_3 ?_
  refine b_istore dX7_findBest_4 (by decide) rfl ?_
  refine b_iconst (v := nI 0) dX7_findBest_6 (by decide) ?_
  refine b_istore dX7_findBest_7 (by decide) rfl ?_
  rw [show p * 17 = 17 * p by omega]
  have lp1 : ∀ (n i : Nat) (s : ST) (z6 z7 : Option Value), i + n = 17 → (∀ c q, c ≠ 38 ∨ q < 17 * p ∨ 17 * p + 17 ≤ q → s c q = σ c q) → (∀ l, l < i → s 38 (17 * p + l) = -1) → BB G RX7 cX7_findBest 8 none (d + 2) (QM G (fun r h' => r = none ∧ ∃ s : ST, h' = sh G s μ ∧ (∀ c q, c ≠ 38 ∨ q < 17 * p ∨ 17 * p + 17 ≤ q → s c q = σ c q) ∧ BT s p zN (lvC up lv) zN)) 9 [some (.ref (G.b0 + 34)), some (.ref (G.b0 + 20)), some (.int (nI p)), some (.int sg), some (.int (nI (17 * p))), some (.int (nI i)), z6, z7] [] (sh G s μ) := by
    intro n
    induction n with
    | zero =>
      intro i s z6 z7 hi hs hb
      refine b_iload dX7_findBest_9 rfl ?_
      refine b_bipush (v := nI 17) dX7_findBest_11 (by decide) ?_
      refine b_icmp_ge_t 33 dX7_findBest_13 (by decide) (nI_le (by omega) (by omega)) ?_
      refine b_iconst (v := nI 0) dX7_findBest_33 (by decide) ?_
      refine b_istore dX7_findBest_34 (by decide) rfl ?_
      have lp2 : ∀ (n i : Nat) (s : ST) (z6 z7 : Option Value), i + n = zN → (∀ c q, c ≠ 38 ∨ q < 17 * p ∨ 17 * p + 17 ≤ q → s c q = σ c q) → BT s p zN (fun l a => lv a = l) i → BB G RX7 cX7_findBest 8 none (d + 2) (QM G (fun r h' => r = none ∧ ∃ s : ST, h' = sh G s μ ∧ (∀ c q, c ≠ 38 ∨ q < 17 * p ∨ 17 * p + 17 ≤ q → s c q = σ c q) ∧ BT s p zN (lvC up lv) zN)) 36 [some (.ref (G.b0 + 34)), some (.ref (G.b0 + 20)), some (.int (nI p)), some (.int sg), some (.int (nI (17 * p))), some (.int (nI i)), z6, z7] [] (sh G s μ) := by
        intro n
        induction n with
        | zero =>
          intro i s z6 z7 hi hs hb
          refine b_iload dX7_findBest_36 rfl ?_
          refine b_iconst (v := nI 1) dX7_findBest_38 (by decide) ?_
          refine b_aload_n dX7_findBest_39 rfl ?_
          refine g_geti (x := nI F) dX7_findBest_40 fX7_27 a20 rfl (by rw [hs 20 7 (by omega)]; exact hF) ?_
          refine b_ishl dX7_findBest_43 ?_
          refine b_top (shl_pow (by omega)) ?_
          rw [hN]
          refine b_icmp_ge_t 113 dX7_findBest_44 (by decide) (nI_le (by omega) (by omega)) ?_
          refine b_iconst (v := nI 1) dX7_findBest_113 (by decide) ?_
          refine b_istore dX7_findBest_114 (by decide) rfl ?_
          have e : i = zN := by omega
          rw [e] at hb
          have lp3 : ∀ (n i : Nat) (s : ST) (z6 z7 : Option Value), i + n = 17 → 1 ≤ i → (∀ c q, c ≠ 38 ∨ q < 17 * p ∨ 17 * p + 17 ≤ q → s c q = σ c q) → BT s p zN (fun l a => if (if up then l < i else 17 - i ≤ l) then lvC up lv l a else lv a = l) zN → BB G RX7 cX7_findBest 8 none (d + 2) (QM G (fun r h' => r = none ∧ ∃ s : ST, h' = sh G s μ ∧ (∀ c q, c ≠ 38 ∨ q < 17 * p ∨ 17 * p + 17 ≤ q → s c q = σ c q) ∧ BT s p zN (lvC up lv) zN)) 116 [some (.ref (G.b0 + 34)), some (.ref (G.b0 + 20)), some (.int (nI p)), some (.int sg), some (.int (nI (17 * p))), some (.int (nI i)), z6, z7] [] (sh G s μ) := by
            intro n
            induction n with
            | zero =>
              intro i s z6 z7 hi h1 hs hb
              refine b_iload dX7_findBest_116 rfl ?_
              refine b_bipush (v := nI 17) dX7_findBest_118 (by decide) ?_
              refine b_icmp_ge_t 195 dX7_findBest_120 (by decide) (nI_le (by omega) (by omega)) ?_
              exact b_vret dX7_findBest_195 ⟨rfl, s, rfl, hs, fun l hl => by
                have := hb l hl
                have hi17 : i = 17 := by omega
                subst hi17
                cases up
                · simpa using this
                · simpa [hl] using this⟩
            | succ n ih =>
              intro i s z6 z7 hi h1 hs hb
              refine b_iload dX7_findBest_116 rfl ?_
              refine b_bipush (v := nI 17) dX7_findBest_118 (by decide) ?_
              refine b_icmp_ge_f 195 dX7_findBest_120 (by decide) (nI_ge (by omega) (by omega)) ?_
              refine b_iload_n dX7_findBest_123 rfl ?_
              have go : ∀ (l l' : Nat) (x7 : Option Value), l < 17 → l' < 17 → (∀ a, (if (if up then l < i + 1 else 17 - (i + 1) ≤ l) then lvC up lv l a else lv a = l) ↔ lvC up lv l' a ∨ lv a = l) → (if up then l' < i else 17 - i ≤ l') → ¬ (if up then l < i else 17 - i ≤ l) → (∀ l2, l2 < 17 → l2 ≠ l → ((if up then l2 < i + 1 else 17 - (i + 1) ≤ l2) ↔ (if up then l2 < i else 17 - i ≤ l2))) → nI (17 * p + l) - sg = nI (17 * p + l') → BB G RX7 cX7_findBest 8 none (d + 2) (QM G (fun r h' => r = none ∧ ∃ s : ST, h' = sh G s μ ∧ (∀ c q, c ≠ 38 ∨ q < 17 * p ∨ 17 * p + 17 ≤ q → s c q = σ c q) ∧ BT s p zN (lvC up lv) zN)) 139 [some (.ref (G.b0 + 34)), some (.ref (G.b0 + 20)), some (.int (nI p)), some (.int sg), some (.int (nI (17 * p))), some (.int (nI i)), some (.int (nI l)), x7] [] (sh G s μ) := by
                intro l l' x7 hl hl' hc h2 h3 h4 hsub
                have f1 : FewR (lvC up lv l') zN (s 38 (17 * p + l')) := FewR_cg (hb l' hl') (fun a _ => by dsimp only; rw [if_pos h2])
                have f2 : FewR (fun a => lv a = l) zN (s 38 (17 * p + l)) := FewR_cg (hb l hl) (fun a _ => by dsimp only; rw [if_neg h3])
                have nx : FewR (fun a => if (if up then l < i + 1 else 17 - (i + 1) ≤ l) then lvC up lv l a else lv a = l) zN (s 38 (17 * p + l)) → ∀ (x6 x7 : Option Value), BB G RX7 cX7_findBest 8 none (d + 2) (QM G (fun r h' => r = none ∧ ∃ s : ST, h' = sh G s μ ∧ (∀ c q, c ≠ 38 ∨ q < 17 * p ∨ 17 * p + 17 ≤ q → s c q = σ c q) ∧ BT s p zN (lvC up lv) zN)) 189 [some (.ref (G.b0 + 34)), some (.ref (G.b0 + 20)), some (.int (nI p)), some (.int sg), some (.int (nI (17 * p))), some (.int (nI i)), x6, x7] [] (sh G s μ) := by
                  intro hf x6 x7
                  refine b_iinc dX7_findBest_189 rfl (nI_1 _) (by decide) rfl ?_
                  refine b_goto 116 dX7_findBest_192 (by decide) ?_
                  refine ih (i + 1) s _ _ (by omega) (by omega) hs (fun l2 hl2 => ?_)
                  by_cases e2 : l2 = l
                  · subst e2; exact hf
                  · have h5 := hb l2 hl2
                    by_cases h6 : (if up then l2 < i else 17 - i ≤ l2)
                    · exact FewR_cg h5 (fun a _ => by dsimp only; rw [if_pos ((h4 l2 hl2 e2).mpr h6), if_pos h6])
                    · exact FewR_cg h5 (fun a _ => by dsimp only; rw [if_neg (fun z => h6 ((h4 l2 hl2 e2).mp z)), if_neg h6])
                refine b_aload_n dX7_findBest_139 rfl ?_
                refine g_get dX7_findBest_140 fX7_21 a34 rfl ?_
                refine b_iload dX7_findBest_143 rfl ?_
                refine b_iload dX7_findBest_145 rfl ?_
                refine b_iaddN dX7_findBest_147 ?_
                refine b_iload_n dX7_findBest_148 rfl ?_
                refine b_isub dX7_findBest_149 ?_
                refine b_top hsub ?_
                refine g_iald dX7_findBest_150 a38 rfl (by omega) ?_
                refine b_istore dX7_findBest_151 (by decide) rfl ?_
                refine b_iload dX7_findBest_153 rfl ?_
                refine b_iconst (v := -1) dX7_findBest_155 (by decide) ?_
                refine b_icmp_eq 189 dX7_findBest_156 (by decide) (fun c3 => ?_) (fun c3 => ?_)
                · skip
                  exact nx (FewR_or2 f1 f2 (by omega) (fun a _ => hc a) (Or.inl c3)) _ _
                · skip
                  refine b_iload dX7_findBest_159 rfl ?_
                  refine b_aload_n dX7_findBest_161 rfl ?_
                  refine g_get dX7_findBest_162 fX7_21 a34 rfl ?_
                  refine b_iload dX7_findBest_165 rfl ?_
                  refine b_iload dX7_findBest_167 rfl ?_
                  refine b_iaddN dX7_findBest_169 ?_
                  refine g_iald dX7_findBest_170 a38 rfl (by omega) ?_
                  have lo1 : lo 16 (s 38 (17 * p + l')) := (FewR_lo f1 h256).resolve_left c3
                  refine b_callSNr [.int (s 38 (17 * p + l')), .int (s 38 ((17 * p) + l))] dX7_findBest_171 kX11_isFewer (lX7_89 G) (c_isFewer lo1 (FewR_lo f2 h256)) rfl rfl (Nat.le_of_ble_eq_true rfl) ?_
                  refine b_if_eq 189 dX7_findBest_174 (by decide) (fun c4 => ?_) (fun c4 => ?_)
                  · skip
                    exact nx (FewR_or2 f1 f2 (by omega) (fun a _ => hc a) (Or.inr ((bI_0 _).mp c4))) _ _
                  · skip
                    refine b_aload_n dX7_findBest_177 rfl ?_
                    refine g_get dX7_findBest_178 fX7_21 a34 rfl ?_
                    refine b_iload dX7_findBest_181 rfl ?_
                    refine b_iload dX7_findBest_183 rfl ?_
                    refine b_iaddN dX7_findBest_185 ?_
                    refine b_iload dX7_findBest_186 rfl ?_
                    refine g_iast dX7_findBest_188 a38 rfl (by omega) ?_
                    refine b_iinc dX7_findBest_189 rfl (nI_1 _) (by decide) rfl ?_
                    refine b_goto 116 dX7_findBest_192 (by decide) ?_
                    have f3 := FewR_or1 (c := fun a => if (if up then l < i + 1 else 17 - (i + 1) ≤ l) then lvC up lv l a else lv a = l) f1 f2 (by omega) (fun a _ => hc a) c3 ((bI_1 _).mp c4)
                    refine ih (i + 1) _ _ _ (by omega) (by omega) (fun c q h => ?_) (fun l2 hl2 => ?_)
                    · rw [pt_at, if_neg (by omega)]; exact hs c q h
                    · by_cases e2 : l2 = l
                      · subst e2; exact (pt_s s 38 (17 * p + l2) _).symm ▸ f3
                      · have h5 := hb l2 hl2
                        rw [pt_at, if_neg (by omega)]
                        by_cases h6 : (if up then l2 < i else 17 - i ≤ l2)
                        · exact FewR_cg h5 (fun a _ => by dsimp only; rw [if_pos ((h4 l2 hl2 e2).mpr h6), if_pos h6])
                        · exact FewR_cg h5 (fun a _ => by dsimp only; rw [if_neg (fun z => h6 ((h4 l2 hl2 e2).mp z)), if_neg h6])
              cases hup : up with
              | true =>
                rw [hup] at go hsg
                have hs1 : sg = nI 1 := hsg
                refine b_if_le_f 132 dX7_findBest_124 (by decide) (by rw [hs1]; decide) ?_
                refine b_iload dX7_findBest_127 rfl ?_
                refine b_goto 137 dX7_findBest_129 (by decide) ?_
                refine b_istore dX7_findBest_137 (by decide) rfl ?_
                refine go i (i - 1) _ (by omega) (by omega) (fun a => ?_) ?_ ?_ (fun l2 _ h => ?_) ?_
                · simp [lvC]; omega
                · simp; omega
                · simp
                · simp; omega
                · rw [hs1, nI_sub (by omega), show 17 * p + i - 1 = 17 * p + (i - 1) by omega]
              | false =>
                rw [hup] at go hsg
                have hs1 : sg = -1 := hsg
                refine b_if_le_t 132 dX7_findBest_124 (by decide) (by rw [hs1]; decide) ?_
                refine b_bipush (v := nI 16) dX7_findBest_132 (by decide) ?_
                refine b_iload dX7_findBest_134 rfl ?_
                refine b_isub dX7_findBest_136 ?_
                refine b_top (y := nI (16 - i)) (nI_sub (by omega)) ?_
                refine b_istore dX7_findBest_137 (by decide) rfl ?_
                refine go (16 - i) (17 - i) _ (by omega) (by omega) (fun a => ?_) ?_ ?_ (fun l2 _ h => ?_) ?_
                · simp [lvC]; omega
                · simp
                · simp; omega
                · simp; omega
                · rw [hs1, show 17 * p + (17 - i) = 17 * p + (16 - i) + 1 by omega, ← nI_1, Int32.sub_neg]
          refine lp3 16 1 s _ _ (by omega) (by omega) hs (fun l hl => FewR_cg (hb l hl) (fun a ha => ?_))
          cases up with
          | true =>
            simp only [lvC, if_true]
            by_cases hl1 : l < 1
            · rw [if_pos hl1]; omega
            · rw [if_neg hl1]
          | false =>
            have := (hlv a ha).1
            simp only [lvC, Bool.false_eq_true, if_false]
            by_cases hl1 : 17 - 1 ≤ l
            · rw [if_pos hl1]; omega
            · rw [if_neg hl1]
        | succ n ih =>
          intro i s z6 z7 hi hs hb
          obtain ⟨hl16, hl⟩ := hlv i (by omega)
          refine b_iload dX7_findBest_36 rfl ?_
          refine b_iconst (v := nI 1) dX7_findBest_38 (by decide) ?_
          refine b_aload_n dX7_findBest_39 rfl ?_
          refine g_geti (x := nI F) dX7_findBest_40 fX7_27 a20 rfl (by rw [hs 20 7 (by omega)]; exact hF) ?_
          refine b_ishl dX7_findBest_43 ?_
          refine b_top (shl_pow (by omega)) ?_
          rw [hN]
          refine b_icmp_ge_f 113 dX7_findBest_44 (by decide) (nI_ge (by omega) (by omega)) ?_
          refine b_iload_n dX7_findBest_47 rfl ?_
          refine b_aload_n dX7_findBest_48 rfl ?_
          refine g_get dX7_findBest_49 fX7_18 a34 rfl ?_
          refine b_aload_n dX7_findBest_52 rfl ?_
          refine g_callV [] dX7_findBest_53 kX2_allFacts lX7_85 a20 rfl rfl (c_allFacts ln20 (by rw [hs 20 7 (by omega)]; exact hF)) rfl rfl (Nat.le_of_ble_eq_true rfl) ?_
          refine b_iload dX7_findBest_56 rfl ?_
          refine b_iconst (v := -1) dX7_findBest_58 (by decide) ?_
          refine b_ixor dX7_findBest_59 ?_
          refine b_iand dX7_findBest_60 ?_
          refine b_top (hno i (by omega)) ?_
          refine g_iald dX7_findBest_61 a37 rfl (by omega) ?_
          refine b_imul dX7_findBest_62 ?_
          refine b_top (y := nI (lv i)) (by rw [hs 37 _ (by omega)]; exact hl) ?_
          refine b_istore dX7_findBest_63 (by decide) rfl ?_
          refine b_iload dX7_findBest_65 rfl ?_
          refine b_if_lt_f 107 dX7_findBest_67 (by decide) (Int32.not_lt.mpr (nI_pos' (by omega))) ?_
          refine b_iload dX7_findBest_70 rfl ?_
          refine b_bipush (v := nI 17) dX7_findBest_72 (by decide) ?_
          refine b_icmp_ge_f 107 dX7_findBest_74 (by decide) (nI_ge (by omega) (by omega)) ?_
          refine b_iload dX7_findBest_77 rfl ?_
          refine b_aload_n dX7_findBest_79 rfl ?_
          refine g_get dX7_findBest_80 fX7_21 a34 rfl ?_
          refine b_iload dX7_findBest_83 rfl ?_
          refine b_iload dX7_findBest_85 rfl ?_
          refine b_iaddN dX7_findBest_87 ?_
          refine g_iald dX7_findBest_88 a38 rfl (by omega) ?_
          have f0 := hb (lv i) (by omega)
          refine b_callSNr [.int (nI i), .int (s 38 ((17 * p) + (lv i)))] dX7_findBest_89 kX11_isFewer (lX7_89 G) (c_isFewer (lo_nI (by omega)) (FewR_lo f0 (by omega))) rfl rfl (Nat.le_of_ble_eq_true rfl) ?_
          refine b_if_eq 107 dX7_findBest_92 (by decide) (fun c5 => ?_) (fun c5 => ?_)
          · skip
            refine b_iinc dX7_findBest_107 rfl (nI_1 _) (by decide) rfl ?_
            refine b_goto 36 dX7_findBest_110 (by decide) ?_
            refine ih (i + 1) s _ _ (by omega) hs (fun l hl => ?_)
            by_cases e2 : l = lv i
            · rw [e2]; exact FewR_nf f0 (by omega) ((bI_0 _).mp c5)
            · exact FewR_no (hb l hl) (fun z => e2 z.symm)
          · skip
            refine b_aload_n dX7_findBest_95 rfl ?_
            refine g_get dX7_findBest_96 fX7_21 a34 rfl ?_
            refine b_iload dX7_findBest_99 rfl ?_
            refine b_iload dX7_findBest_101 rfl ?_
            refine b_iaddN dX7_findBest_103 ?_
            refine b_iload dX7_findBest_104 rfl ?_
            refine g_iast dX7_findBest_106 a38 rfl (by omega) ?_
            refine b_iinc dX7_findBest_107 rfl (nI_1 _) (by decide) rfl ?_
            refine b_goto 36 dX7_findBest_110 (by decide) ?_
            refine ih (i + 1) _ _ _ (by omega) (fun c q h => ?_) (fun l hl => ?_)
            · rw [pt_at, if_neg (by omega)]; exact hs c q h
            · by_cases e2 : l = lv i
              · rw [e2]
                exact (pt_s s 38 (17 * p + lv i) _).symm ▸ FewR_yes f0 (by omega) rfl ((bI_1 _).mp c5)
              · rw [pt_at, if_neg (by omega)]
                exact FewR_no (hb l hl) (fun z => e2 z.symm)
      exact lp2 zN 0 s _ _ (by omega) hs (fun l hl => by rw [hb l (by omega)]; exact FewR_0 _)
    | succ n ih =>
      intro i s z6 z7 hi hs hb
      refine b_iload dX7_findBest_9 rfl ?_
      refine b_bipush (v := nI 17) dX7_findBest_11 (by decide) ?_
      refine b_icmp_ge_f 33 dX7_findBest_13 (by decide) (nI_ge (by omega) (by omega)) ?_
      refine b_aload_n dX7_findBest_16 rfl ?_
      refine g_get dX7_findBest_17 fX7_21 a34 rfl ?_
      refine b_iload dX7_findBest_20 rfl ?_
      refine b_iload dX7_findBest_22 rfl ?_
      refine b_iaddN dX7_findBest_24 ?_
      refine b_iconst (v := -1) dX7_findBest_25 (by decide) ?_
      refine g_iast dX7_findBest_26 a38 rfl (by omega) ?_
      refine b_iinc dX7_findBest_27 rfl (nI_1 _) (by decide) rfl ?_
      refine b_goto 9 dX7_findBest_30 (by decide) ?_
      refine ih (i + 1) _ _ _ (by omega) (fun c q h => ?_) (fun l hl => ?_)
      · rw [pt_at, if_neg (by omega)]; exact hs c q h
      · by_cases e2 : l = i
        · rw [e2]; exact pt_s _ _ _ _
        · rw [pt_at, if_neg (by omega)]; exact hb l (by omega)
  exact lp1 17 0 σ _ _ (by omega) (fun _ _ _ => rfl) (fun l hl => absurd hl (by omega))

