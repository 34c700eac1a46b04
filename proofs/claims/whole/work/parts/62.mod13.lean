/-! ===== the reference: news ===== -/
/-- who has a fact after so many days -/
def cl (L : LD) (f n q : Nat) : Bool := bt (tlD L n q) f
theorem day1_bt {road tl : Nat → Int32} {p f : Nat} : ∀ n, (bt (mDay1 road tl p n) f = true ↔ bt (tl p) f = true ∨ ∃ q, q < n ∧ bt (road p) q = true ∧ bt (tl q) f = true)
  | 0 => ⟨Or.inl, fun h => h.elim id (fun ⟨q, h, _⟩ => absurd h (by omega))⟩
  | n + 1 => by
    have ih := day1_bt (road := road) (tl := tl) (p := p) (f := f) n
    rw [mDay1]
    constructor
    · intro h
      split at h
      · rename_i hr
        rw [b_or, Bool.or_eq_true, ih] at h
        rcases h with (h | ⟨q, h1, h2⟩) | h
        · exact Or.inl h
        · exact Or.inr ⟨q, by omega, h2⟩
        · exact Or.inr ⟨n, by omega, hr, h⟩
      · rcases ih.mp h with h | ⟨q, h1, h2⟩
        · exact Or.inl h
        · exact Or.inr ⟨q, by omega, h2⟩
    · intro h
      have h' : bt (mDay1 road tl p n) f = true ∨ (bt (road p) n = true ∧ bt (tl n) f = true) := by
        rcases h with h | ⟨q, h1, h2⟩
        · exact Or.inl (ih.mpr (Or.inl h))
        · by_cases e : q = n
          · subst e; exact Or.inr h2
          · exact Or.inl (ih.mpr (Or.inr ⟨q, by omega, h2⟩))
      split
      · rw [b_or, Bool.or_eq_true]; exact h'.elim Or.inl (fun z => Or.inr z.2)
      · rename_i hr
        rcases h' with h | h
        · exact h
        · exact absurd h.1 hr
theorem cl_s {L : LD} {f n p : Nat} (hp : p < L.P) : cl L f (n + 1) p = true ↔ cl L f n p = true ∨ ∃ q, q < L.P ∧ bt (L.road p) q = true ∧ cl L f n q = true := by
  unfold cl
  rw [show tlD L (n + 1) = mNext L.road (tlD L n) L.P from mDays_s _ _ _ _, mNext, if_pos hp, day1_bt]
def cc (L : LD) (f n : Nat) : Nat → Nat
  | 0 => 0
  | p + 1 => cc L f n p + if cl L f n p then 1 else 0
theorem cc_le {L : LD} {f n m : Nat} : ∀ k, (∀ p, p < k → cl L f n p = true → cl L f m p = true) → cc L f n k ≤ cc L f m k
  | 0, _ => Nat.le_refl _
  | k + 1, h => by
    have ih := cc_le k (fun p hp => h p (by omega))
    have := h k (by omega)
    unfold cc
    cases h1 : cl L f n k <;> cases h2 : cl L f m k <;> simp_all <;> omega
theorem cc_lt {L : LD} {f n m j : Nat} (h1 : cl L f n j = false) (h2 : cl L f m j = true) : ∀ k, j < k → (∀ p, p < k → cl L f n p = true → cl L f m p = true) → cc L f n k < cc L f m k
  | 0, h, _ => absurd h (by omega)
  | k + 1, hk, h => by
    unfold cc
    by_cases e : j = k
    · subst e
      have := cc_le (L := L) (f := f) (n := n) (m := m) j (fun p hp => h p (by omega))
      rw [h1, h2]; simp; omega
    · have ih := cc_lt h1 h2 k (by omega) (fun p hp => h p (by omega))
      have := h k (by omega)
      cases h3 : cl L f n k <;> cases h4 : cl L f m k <;> simp_all <;> omega
theorem cc_b {L : LD} {f n : Nat} : ∀ k, cc L f n k ≤ k
  | 0 => Nat.le_refl _
  | k + 1 => by have := cc_b (L := L) (f := f) (n := n) k; unfold cc; split <;> omega
theorem cc_all {L : LD} {f n j : Nat} : ∀ k, j < k → cc L f n k = k → cl L f n j = true
  | 0, h, _ => absurd h (by omega)
  | k + 1, hk, h => by
    unfold cc at h
    have hb := cc_b (L := L) (f := f) (n := n) k
    cases h1 : cl L f n k
    · rw [h1] at h; simp at h; omega
    · rw [h1] at h
      by_cases e : j = k
      · rw [e]; exact h1
      · exact cc_all k (by omega) (by simpa using h)
theorem cl_st {L : LD} {f n : Nat} (h : ∀ p, p < L.P → cl L f (n + 1) p = true → cl L f n p = true) : ∀ k p, p < L.P → cl L f (n + k) p = true → cl L f n p = true
  | 0, _, _, h' => h'
  | k + 1, p, hp, h' => by
    rw [← Nat.add_assoc] at h'
    rcases (cl_s hp).mp h' with q | ⟨q, hq, hr, hc⟩
    · exact cl_st h k p hp q
    · exact h p hp ((cl_s hp).mpr (Or.inr ⟨q, hq, hr, cl_st h k q hq hc⟩))
theorem cl_up {L : LD} {f n p : Nat} (hp : p < L.P) (h : cl L f n p = true) : cl L f (n + 1) p = true := (cl_s hp).mpr (Or.inl h)
/-- a fact that comes at all has come by the fifth day -/
theorem cl_5 {L : LD} {f p m : Nat} (hP : L.P ≤ 6) (hp : p < L.P) (h : cl L f m p = true) : cl L f 5 p = true := by
  have key : ∀ n, (∃ k, k ≤ n ∧ ∀ p, p < L.P → cl L f (k + 1) p = true → cl L f k p = true) ∨ n + cc L f 0 L.P ≤ cc L f n L.P := by
    intro n
    induction n with
    | zero => right; omega
    | succ n ih =>
      rcases ih with ⟨k, h1, h2⟩ | ih
      · exact Or.inl ⟨k, by omega, h2⟩
      · by_cases z : ∀ p, p < L.P → cl L f (n + 1) p = true → cl L f n p = true
        · exact Or.inl ⟨n, by omega, z⟩
        · right
          obtain ⟨j, hj⟩ := Classical.not_forall.mp z
          have hj1 : j < L.P := Classical.byContradiction (fun q => hj (fun w => absurd w q))
          have hj2 : cl L f (n + 1) j = true := Classical.byContradiction (fun q => hj (fun _ w => absurd w q))
          have hj3 : cl L f n j = false := by
            cases w : cl L f n j
            · rfl
            · exact absurd (fun _ _ => w) hj
          have := cc_lt (L := L) (f := f) hj3 hj2 L.P hj1 (fun p hp h => cl_up hp h)
          omega
  have st : ∀ k, k ≤ 5 → (∀ p, p < L.P → cl L f (k + 1) p = true → cl L f k p = true) → cl L f 5 p = true := by
    intro k hk hs
    have up : ∀ j, cl L f k p = true → cl L f (k + j) p = true := by
      intro j
      induction j with
      | zero => exact id
      | succ j ih => intro w; exact cl_up hp (ih w)
    have hk2 : cl L f k p = true := by
      rcases Nat.lt_or_ge m k with q | q
      · have upm : ∀ j, cl L f (m + j) p = true := by
          intro j
          induction j with
          | zero => exact h
          | succ j ih => exact cl_up hp ih
        have := upm (k - m); rw [show m + (k - m) = k by omega] at this; exact this
      · have := cl_st hs (m - k) p hp (by rw [show k + (m - k) = m by omega]; exact h); exact this
    have := up (5 - k) hk2
    rw [show k + (5 - k) = 5 by omega] at this; exact this
  rcases key 5 with ⟨k, h1, h2⟩ | hc
  · exact st k h1 h2
  · by_cases h0 : cc L f 0 L.P = 0
    · -- nobody has it at first: nobody ever
      have none : ∀ n q, q < L.P → cl L f n q = false := by
        intro n
        induction n with
        | zero =>
          intro q hq
          cases w : cl L f 0 q
          · rfl
          · have : ∀ k, q < k → 0 < cc L f 0 k := by
              intro k
              induction k with
              | zero => intro z; omega
              | succ k ih =>
                intro z
                unfold cc
                by_cases e : q = k
                · rw [← e, w]; simp
                · have := ih (by omega); omega
            have := this L.P hq; omega
        | succ n ih =>
          intro q hq
          cases w : cl L f (n + 1) q
          · rfl
          · rcases (cl_s hq).mp w with z | ⟨r, hr, _, z⟩
            · rw [ih q hq] at z; exact absurd z (by simp)
            · rw [ih r hr] at z; exact absurd z (by simp)
      rw [none m p hp] at h; exact absurd h (by simp)
    · have hb := cc_b (L := L) (f := f) (n := 5) L.P
      exact cc_all L.P hp (by omega)
theorem mTill_at {L : LD} {p f m : Nat} (hm : cl L f m p = true) : ∀ k n, n + k = 6 → n ≤ m → m < 6 → (∀ j, n ≤ j → j < m → cl L f j p = false) → mTill L.road L.P p f k n (tlD L n) = nI m
  | 0, n, h, h1, h2, _ => by omega
  | k + 1, n, h, h1, h2, hf => by
    rw [mTill]
    by_cases e : n = m
    · subst e
      exact if_pos hm
    · rw [if_neg (by have := hf n (Nat.le_refl _) (by omega); unfold cl at this; rw [this]; simp), show mNext L.road (tlD L n) L.P = tlD L (n + 1) from (mDays_s _ _ _ _).symm]
      exact mTill_at hm k (n + 1) (by omega) (by omega) h2 (fun j a b => hf j (by omega) b)
theorem mTill_no {L : LD} {p f : Nat} : ∀ k n, n + k = 6 → (∀ j, n ≤ j → j < 6 → cl L f j p = false) → mTill L.road L.P p f k n (tlD L n) = -1
  | 0, n, _, _ => rfl
  | k + 1, n, h, hf => by
    rw [mTill, if_neg (by have := hf n (Nat.le_refl _) (by omega); unfold cl at this; rw [this]; simp), show mNext L.road (tlD L n) L.P = tlD L (n + 1) from (mDays_s _ _ _ _).symm]
    exact mTill_no k (n + 1) (by omega) (fun j a b => hf j (by omega) b)
def tillV (L : LD) (p f : Nat) : Int32 := mTill L.road L.P p f 6 0 L.told
theorem m_newsOf {G : GT} {d : Nat} {σ : ST} {μ : SL} {L : LD} {p f : Nat} (hM : MV σ L) (hK : LBk L) (hp : p < L.P) (hf : f < L.F) : Fn G (d + 2) mX12_newsOf [.ref (G.b0 + 77), .int (nI p), .int (nI f)] (sh G σ μ) (PFm G μ σ (tillV L p f)) := by
  have hb := hM.b
  refine fn_of (ls := [some (.ref (G.b0 + 77)), some (.int (nI p)), some (.int (nI f)), none, none, none]) (by decide +kernel) (Nat.le_of_ble_eq_true rfl) 3 rfl ?_
  refine b_aload_n dX12_newsOf_0 rfl ?_
  refine g_callV [] dX12_newsOf_1 kX12_keeps lX12_260 a77 rfl rfl m_keeps rfl rfl (Nat.le_of_ble_eq_true rfl) ?_
  refine b_iconst (v := nI 0) dX12_newsOf_4 (by decide) ?_
  refine b_istore_n dX12_newsOf_5 (by decide) rfl ?_
  refine b_iconst (v := nI 1) dX12_newsOf_6 (by decide) ?_
  refine b_istore dX12_newsOf_7 (by decide) rfl ?_
  have fin : ∀ (s : ST) (i : Nat) (b4 : Int32) (z5 : Option Value), S0 σ s → MV s (stT L (tlD L i)) → (∀ j, j < i → cl L f j p = false) → (cl L f i p = false → ∀ j, cl L f j p = false) → BB G RX12 cX12_newsOf 6 (some .int) (d + 2) (QM G (PFm G μ σ (tillV L p f))) 42 [some (.ref (G.b0 + 77)), some (.int (nI p)), some (.int (nI f)), some (.int (nI i)), some (.int b4), z5] [] (sh G s μ) := by
    intro s i b4 z5 hS hMs hno hst
    refine b_aload_n dX12_newsOf_42 rfl ?_
    refine g_get dX12_newsOf_43 fX12_13 a77 rfl ?_
    refine b_iconst (v := nI 5) dX12_newsOf_46 (by decide) ?_
    refine b_iload_n dX12_newsOf_47 rfl ?_
    refine b_iaddN dX12_newsOf_48 ?_
    refine g_iald dX12_newsOf_49 a78 rfl (by omega) ?_
    refine b_top (show s 78 (5 + p) = tlD L i p from hMs.told (p := p) hp) ?_
    refine b_i2l dX12_newsOf_50 ?_
    refine b_iload_n dX12_newsOf_51 rfl ?_
    refine b_callSr [.long ((tlD L i p).toInt64), .int (nI f)] dX12_newsOf_52 kX12_isIn lX12_222 (c_isIn (by omega)) rfl rfl (Nat.le_of_ble_eq_true rfl) ?_
    refine b_istore dX12_newsOf_55 (by decide) rfl ?_
    refine b_aload_n dX12_newsOf_57 rfl ?_
    refine g_callV [] dX12_newsOf_58 kX12_isAgain lX12_297 a77 rfl rfl m_isAgain rfl rfl (Nat.le_of_ble_eq_true rfl) ?_
    refine b_iload dX12_newsOf_61 rfl ?_
    refine b_if_eq 70 dX12_newsOf_63 (by decide) (fun c1 => ?_) (fun c1 => ?_)
    · skip
      have c2 : cl L f i p = false := (bI_0 _).mp c1
      refine b_iconst (v := -1) dX12_newsOf_70 (by decide) ?_
      exact b_iret dX12_newsOf_71 ⟨by rw [tillV, show L.told = tlD L 0 from rfl, mTill_no 6 0 rfl (fun j _ _ => hst c2 j)], _, rfl, FT_again hS⟩
    · skip
      have c2 : cl L f i p = true := (bI_1 _).mp c1
      have h5 := cl_5 hb.2.2.1 hp c2
      have hi5 : i ≤ 5 := by
        rcases Nat.lt_or_ge 5 i with q | q
        · rw [hno 5 q] at h5; exact absurd h5 (by simp)
        · exact q
      refine b_iload_n dX12_newsOf_66 rfl ?_
      refine b_goto 71 dX12_newsOf_67 (by decide) ?_
      exact b_iret dX12_newsOf_71 ⟨by rw [tillV, show L.told = tlD L 0 from rfl, mTill_at c2 6 0 rfl (by omega) (by omega) (fun j _ h => hno j h)], _, rfl, FT_again hS⟩
  have lp : ∀ (k i : Nat) (s : ST) (z5 : Option Value), S0 σ s → MV s (stT L (tlD L i)) → (∀ j, j < i → cl L f j p = false) → 49 ≤ mz (tlD L i) L.P + k → BB G RX12 cX12_newsOf 6 (some .int) (d + 2) (QM G (PFm G μ σ (tillV L p f))) 9 [some (.ref (G.b0 + 77)), some (.int (nI p)), some (.int (nI f)), some (.int (nI i)), some (.int (nI 1)), z5] [] (sh G s μ) := by
    intro k
    induction k with
    | zero =>
      intro i s z5 hS hMs hno hmz
      have := mz_b hb.2.1 L.P (lo_days (road := L.road) i L.told (fun p hp => LBk_told hK hp))
      have e : mz (tlD L i) L.P ≤ 8 * L.P := this
      omega
    | succ k ih =>
      intro i s z5 hS hMs hno hmz
      refine b_iload dX12_newsOf_9 rfl ?_
      refine b_if_eq_f 42 dX12_newsOf_11 (by decide) (by decide) ?_
      refine b_aload_n dX12_newsOf_14 rfl ?_
      refine g_get dX12_newsOf_15 fX12_13 a77 rfl ?_
      refine b_iconst (v := nI 5) dX12_newsOf_18 (by decide) ?_
      refine b_iload_n dX12_newsOf_19 rfl ?_
      refine b_iaddN dX12_newsOf_20 ?_
      refine g_iald dX12_newsOf_21 a78 rfl (by omega) ?_
      refine b_top (show s 78 (5 + p) = tlD L i p from hMs.told (p := p) hp) ?_
      refine b_i2l dX12_newsOf_22 ?_
      refine b_iload_n dX12_newsOf_23 rfl ?_
      refine b_callSr [.long ((tlD L i p).toInt64), .int (nI f)] dX12_newsOf_24 kX12_isIn lX12_222 (c_isIn (by omega)) rfl rfl (Nat.le_of_ble_eq_true rfl) ?_
      refine b_if_ne 42 dX12_newsOf_27 (by decide) (fun c1 => ?_) (fun c1 => ?_)
      · skip
        have c2 : cl L f i p = true := (bI_1 _).mp c1
        exact fin s i _ z5 hS hMs hno (fun z => absurd c2 (by rw [z]; simp))
      · skip
        have c2 : cl L f i p = false := (bI_0 _).mp c1
        have hno' : ∀ j, j < i + 1 → cl L f j p = false := fun j hj => by
          by_cases e : j = i
          · rw [e]; exact c2
          · exact hno j (by omega)
        refine b_aload_n dX12_newsOf_30 rfl ?_
        refine g_callVp [] dX12_newsOf_31 kX12_daysOne lX12_274 a77 rfl rfl (m_daysOne hMs) rfl rfl (Nat.le_of_ble_eq_true rfl) ?_
        rintro r h9 ⟨rfl, s2, rfl, hD⟩
        refine b_istore dX12_newsOf_34 (by decide) rfl ?_
        refine b_iinc dX12_newsOf_36 rfl (nI_1 _) (by decide) rfl ?_
        refine b_goto 9 dX12_newsOf_39 (by decide) ?_
        have hM2 := MV_day hD.2.2
        have hS2 := S0_day hS hD
        cases hB : mDayB L.road (tlD L i) L.P L.P
        · -- no news: the loop ends
          have hsame : tlD L (i + 1) = tlD L i := (mDays_s _ _ _ _).trans (mNext_no hB)
          have hst : ∀ k, tlD L (i + k) = tlD L i := by
            intro k
            induction k with
            | zero => rfl
            | succ k ihk => rw [← Nat.add_assoc, show tlD L (i + k + 1) = mNext L.road (tlD L (i + k)) L.P from mDays_s _ _ _ _, ihk]; exact mNext_no hB
          show BB G RX12 cX12_newsOf 6 (some .int) (d + 2) (QM G (PFm G μ σ (tillV L p f))) 9 [some (.ref (G.b0 + 77)), some (.int (nI p)), some (.int (nI f)), some (.int (nI (i + 1))), some (.int (bI false)), z5] [] (sh G s2 μ)
          refine b_iload dX12_newsOf_9 rfl ?_
          refine b_if_eq_t 42 dX12_newsOf_11 (by decide) (by decide) ?_
          refine fin s2 (i + 1) _ z5 hS2 hM2 hno' (fun _ j => ?_)
          rcases Nat.lt_or_ge j (i + 1) with q | q
          · exact hno' j q
          · have := hst (j - i); rw [show i + (j - i) = j by omega] at this
            unfold cl; rw [this]; exact c2
        · have hgt : mz (tlD L i) L.P < mz (mNext L.road (tlD L i) L.P) L.P := mz_day hb.2.1 (lo_days (road := L.road) i L.told (fun p hp => LBk_told hK hp)) hB
          have e : mNext L.road (tlD L i) L.P = tlD L (i + 1) := (mDays_s _ _ _ _).symm
          rw [e] at hgt
          exact ih (i + 1) s2 z5 hS2 hM2 hno' (by omega)
  exact lp 49 0 _ _ (S0_keeps σ) (S0_MV hM) (fun j hj => absurd hj (by omega)) (by omega)
theorem m_X_news {G : GT} {d : Nat} {σ : ST} {μ : SL} {L : LD} {p f : Int32} (hM : MV σ L) (hK : LBk L) : Fn G (d + 3) mX12_news [.ref (G.b0 + 77), .int p, .int f] (sh G σ μ) (PFm G μ σ (oNews L p f)) := by
  have hb := hM.b
  refine fn_of (ls := [some (.ref (G.b0 + 77)), some (.int p), some (.int f)]) (by decide +kernel) (Nat.le_of_ble_eq_true rfl) 0 rfl ?_
  refine b_aload_n dX12_news_0 rfl ?_
  refine b_iconst (v := nI 0) dX12_news_1 (by decide) ?_
  refine g_put dX12_news_2 wX12_1 a77 tfX12_0 (Nat.le_of_ble_eq_true rfl) rfl ?_
  refine b_sig hM.t0 ?_
  refine b_aload_n dX12_news_5 rfl ?_
  refine b_iload_n dX12_news_6 rfl ?_
  refine b_i2l dX12_news_7 ?_
  refine g_callV [.long p.toInt64] dX12_news_8 kX12_isPerson lX12_245 a77 rfl rfl (m_isPersonI hM) rfl rfl (Nat.le_of_ble_eq_true rfl) ?_
  refine b_if_eq 32 dX12_news_11 (by decide) (fun c1 => ?_) (fun c1 => ?_)
  · skip
    refine b_bipush (v := -2) dX12_news_32 (by decide) ?_
    exact b_iret dX12_news_34 ⟨by simp [oNews, (bI_0 _).mp c1], σ, rfl, FT_r σ⟩
  · skip
    have c2 := (bI_1 _).mp c1
    obtain ⟨j, hj, rfl⟩ := inR_of (by omega) c2
    have hjx := ix_nI (show j < 2 ^ 31 by omega)
    refine b_aload_n dX12_news_14 rfl ?_
    refine b_iload_n dX12_news_15 rfl ?_
    refine b_i2l dX12_news_16 ?_
    refine g_callV [.long f.toInt64] dX12_news_17 kX12_isFact lX12_241 a77 rfl rfl (m_isFactI hM) rfl rfl (Nat.le_of_ble_eq_true rfl) ?_
    refine b_if_eq 32 dX12_news_20 (by decide) (fun c3 => ?_) (fun c3 => ?_)
    · skip
      refine b_bipush (v := -2) dX12_news_32 (by decide) ?_
      exact b_iret dX12_news_34 ⟨by simp [oNews, (bI_0 _).mp c3], σ, rfl, FT_r σ⟩
    · skip
      have c4 := (bI_1 _).mp c3
      obtain ⟨k, hk, rfl⟩ := inR_of (by omega) c4
      have hkx := ix_nI (show k < 2 ^ 31 by omega)
      refine b_aload_n dX12_news_23 rfl ?_
      refine b_iload_n dX12_news_24 rfl ?_
      refine b_iload_n dX12_news_25 rfl ?_
      refine g_callVp [.int (nI j), .int (nI k)] dX12_news_26 kX12_newsOf lX12_375 a77 rfl rfl (m_newsOf hM hK hj hk) rfl rfl (Nat.le_of_ble_eq_true rfl) ?_
      rintro r h9 ⟨rfl, s2, rfl, hF⟩
      refine b_goto 34 dX12_news_29 (by decide) ?_
      exact b_iret dX12_news_34 ⟨by simp [oNews, c2, c4, hjx, hkx]; rfl, s2, rfl, hF⟩
theorem till_v {L : LD} {p f : Nat} : tillV L p f = -1 ∨ ∃ m, m < 6 ∧ tillV L p f = nI m := by
  have : ∀ k n, n + k = 6 → mTill L.road L.P p f k n (tlD L n) = -1 ∨ ∃ m, m < 6 ∧ mTill L.road L.P p f k n (tlD L n) = nI m := by
    intro k
    induction k with
    | zero => intro n _; exact Or.inl rfl
    | succ k ih =>
      intro n h
      rw [mTill]
      split
      · exact Or.inr ⟨n, by omega, rfl⟩
      · rw [show mNext L.road (tlD L n) L.P = tlD L (n + 1) from (mDays_s _ _ _ _).symm]; exact ih (n + 1) (by omega)
  exact this 6 0 rfl
/-! latest: the first of the longest -/
def far (x : Int32) : Int32 := if x = -1 then nI 99 else x
def mLat (x : Nat → Int32) : Nat → Int32 × Int32
  | 0 => (-1, nI 0)
  | p + 1 => if (mLat x p).1 ≠ -1 ∧ far (x p) ≤ (mLat x p).2 then mLat x p else (nI p, far (x p))
def tOk (x : Nat → Int32) : Prop := ∀ p, x p = -1 ∨ ∃ m : Nat, m < 6 ∧ x p = nI m
theorem far_no {x : Int32} (h : x = -1) : far x = nI 99 := if_pos h
theorem far_nI {m : Nat} (h : m < 6) : far (nI m) = nI m := if_neg (nI_m1 (by omega))
/-- once somebody never hears it, he stays -/
theorem mLat_no {x : Nat → Int32} (ok : tOk x) {j : Nat} (hj9 : j < 100) : ∀ n i, i + n < 200 → mLat x i = (nI j, nI 99) → mLat x (i + n) = (nI j, nI 99)
  | 0, _, _, h => h
  | n + 1, i, hb, h => by
    have e : mLat x (i + 1) = (nI j, nI 99) := by
      rw [mLat, h]
      refine if_pos ⟨nI_m1 (by omega), ?_⟩
      rcases ok i with q | ⟨m, hm, q⟩
      · rw [far_no q]; exact Int32.le_refl _
      · rw [q, far_nI hm]; exact nI_le (by omega) (by omega)
    have := mLat_no ok hj9 n (i + 1) (by omega) e
    rw [show i + 1 + n = i + (n + 1) by omega] at this; exact this
theorem late_eq {x : Nat → Int32} (ok : tOk x) (P : Nat) (hP : P ≤ 6) : ∀ n i last most, i + n = P → ((i = 0 ∧ last = -1 ∧ most = -1) ∨ (∃ j m : Nat, j < i ∧ m < 6 ∧ last = nI j ∧ most = nI m ∧ mLat x i = (nI j, nI m))) → mLate x P n i last most = (mLat x P).1
  | 0, i, last, most, h, hc => by
    rw [mLate]
    rcases hc with ⟨h0, h1, h2⟩ | ⟨j, m, h1, h2, h3, h4, h5⟩
    · rw [h1, show P = 0 by omega]; rfl
    · rw [h3, show P = i by omega, h5]
  | n + 1, i, last, most, h, hc => by
    rw [mLate]
    rcases ok i with q | ⟨mi, hmi, q⟩
    · rw [if_pos q]
      have e : mLat x (i + 1) = (nI i, nI 99) := by
        rw [mLat]
        rw [far_no q]
        refine if_neg ?_
        rintro ⟨z1, z2⟩
        rcases hc with ⟨h0, h1, h2⟩ | ⟨j, m, h1, h2, h3, h4, h5⟩
        · rw [h0] at z1; exact z1 rfl
        · rw [h5] at z2
          have := (nI_leI (by omega) (by omega)).mp z2
          omega
      have := mLat_no ok (j := i) (by omega) n (i + 1) (by omega) e
      rw [show i + 1 + n = P by omega] at this
      rw [this]
    · rw [if_neg (by rw [q]; exact nI_m1 (by omega)), q]
      rcases hc with ⟨h0, h1, h2⟩ | ⟨j, m, h1, h2, h3, h4, h5⟩
      · rw [if_neg (by rw [h2]; exact Int32.not_le.mpr (Int32.lt_of_lt_of_le (show (-1 : Int32) < 0 by decide) (nI_pos' (by omega))))]
        refine late_eq ok P hP n (i + 1) _ _ (by omega) (Or.inr ⟨i, mi, by omega, hmi, rfl, rfl, ?_⟩)
        rw [mLat, q, far_nI hmi]
        exact if_neg (fun z => z.1 (by rw [h0]; rfl))
      · rw [h4]
        by_cases z : mi ≤ m
        · rw [if_pos (nI_le z (by omega))]
          refine late_eq ok P hP n (i + 1) _ _ (by omega) (Or.inr ⟨j, m, by omega, h2, h3, rfl, ?_⟩)
          rw [mLat, h5, q, far_nI hmi]
          exact if_pos ⟨nI_m1 (by omega), nI_le z (by omega)⟩
        · rw [if_neg (fun w => z ((nI_leI (by omega) (by omega)).mp w))]
          refine late_eq ok P hP n (i + 1) _ _ (by omega) (Or.inr ⟨i, mi, by omega, hmi, rfl, rfl, ?_⟩)
          rw [mLat, h5, q, far_nI hmi]
          exact if_neg (fun w => z ((nI_leI (by omega) (by omega)).mp w.2))
theorem m_X_latest {G : GT} {d : Nat} {σ : ST} {μ : SL} {L : LD} {f : Int32} (hM : MV σ L) (hK : LBk L) : Fn G (d + 3) mX12_latest [.ref (G.b0 + 77), .int f] (sh G σ μ) (PFm G μ σ (oLatest L f)) := by
  have hb := hM.b
  refine fn_of (ls := [some (.ref (G.b0 + 77)), some (.int f), none, none, none, none]) (by decide +kernel) (Nat.le_of_ble_eq_true rfl) 4 rfl ?_
  refine b_aload_n dX12_latest_0 rfl ?_
  refine b_iconst (v := nI 0) dX12_latest_1 (by decide) ?_
  refine g_put dX12_latest_2 wX12_1 a77 tfX12_0 (Nat.le_of_ble_eq_true rfl) rfl ?_
  refine b_sig hM.t0 ?_
  refine b_aload_n dX12_latest_5 rfl ?_
  refine b_iload_n dX12_latest_6 rfl ?_
  refine b_i2l dX12_latest_7 ?_
  refine g_callV [.long f.toInt64] dX12_latest_8 kX12_isFact lX12_241 a77 rfl rfl (m_isFactI hM) rfl rfl (Nat.le_of_ble_eq_true rfl) ?_
  refine b_if_ne 17 dX12_latest_11 (by decide) (fun c1 => ?_) (fun c1 => ?_)
  · skip
    have c2 := (bI_1 _).mp c1
    obtain ⟨j, hj, rfl⟩ := inR_of (by omega) c2
    have hjx := ix_nI (show j < 2 ^ 31 by omega)
    refine b_iconst (v := -1) dX12_latest_17 (by decide) ?_
    refine b_istore_n dX12_latest_18 (by decide) rfl ?_
    refine b_iconst (v := nI 0) dX12_latest_19 (by decide) ?_
    refine b_istore_n dX12_latest_20 (by decide) rfl ?_
    refine b_iconst (v := nI 0) dX12_latest_21 (by decide) ?_
    refine b_istore dX12_latest_22 (by decide) rfl ?_
    have eo : oLatest L (nI j) = (mLat (fun p => tillV L p j) L.P).1 := by
      rw [oLatest, c2, hjx]
      exact late_eq (x := fun p => tillV L p j) (fun p => till_v) L.P hb.2.2.1 L.P 0 _ _ (by omega) (Or.inl ⟨rfl, rfl, rfl⟩)
    have lp : ∀ (n i : Nat) (s : ST) (z5 : Option Value), i + n = L.P → FT σ s → BB G RX12 cX12_latest 6 (some .int) (d + 3) (QM G (PFm G μ σ (oLatest L (nI j)))) 24 [some (.ref (G.b0 + 77)), some (.int (nI j)), some (.int (mLat (fun p => tillV L p j) i).1), some (.int (mLat (fun p => tillV L p j) i).2), some (.int (nI i)), z5] [] (sh G s μ) := by
      intro n
      induction n with
      | zero =>
        intro i s z5 hi hF
        have hMs := FT_MV hF hM
        refine b_iload dX12_latest_24 rfl ?_
        refine b_aload_n dX12_latest_26 rfl ?_
        refine g_get dX12_latest_27 fX12_13 a77 rfl ?_
        refine b_iconst (v := nI 3) dX12_latest_30 (by decide) ?_
        refine g_iald dX12_latest_31 a78 rfl (by omega) ?_
        refine b_top hMs.cP ?_
        refine b_icmp_ge_t 85 dX12_latest_32 (by decide) (nI_le (by omega) (by omega)) ?_
        refine b_iload_n dX12_latest_85 rfl ?_
        exact b_iret dX12_latest_86 ⟨by rw [eo, show i = L.P by omega], s, rfl, hF⟩
      | succ n ih =>
        intro i s z5 hi hF
        have hMs := FT_MV hF hM
        generalize hl1 : (mLat (fun p => tillV L p j) i).1 = l1
        generalize hl2 : (mLat (fun p => tillV L p j) i).2 = l2
        have eL : mLat (fun p => tillV L p j) (i + 1) = if l1 ≠ -1 ∧ far (tillV L i j) ≤ l2 then mLat (fun p => tillV L p j) i else (nI i, far (tillV L i j)) := by rw [mLat, hl1, hl2]
        refine b_iload dX12_latest_24 rfl ?_
        refine b_aload_n dX12_latest_26 rfl ?_
        refine g_get dX12_latest_27 fX12_13 a77 rfl ?_
        refine b_iconst (v := nI 3) dX12_latest_30 (by decide) ?_
        refine g_iald dX12_latest_31 a78 rfl (by omega) ?_
        refine b_top hMs.cP ?_
        refine b_icmp_ge_f 85 dX12_latest_32 (by decide) (nI_ge (by omega) (by omega)) ?_
        refine b_aload_n dX12_latest_35 rfl ?_
        refine b_iload dX12_latest_36 rfl ?_
        refine b_iload_n dX12_latest_38 rfl ?_
        refine g_callVp [.int (nI i), .int (nI j)] dX12_latest_39 kX12_newsOf lX12_375 a77 rfl rfl (m_newsOf hMs hK (by omega) hj) rfl rfl (Nat.le_of_ble_eq_true rfl) ?_
        rintro r h9 ⟨rfl, s2, rfl, hF2⟩
        refine b_istore dX12_latest_42 (by decide) rfl ?_
        refine b_iload dX12_latest_44 rfl ?_
        refine b_iconst (v := -1) dX12_latest_46 (by decide) ?_
        have hF3 := FT_tr hF hF2
        have nx : ∀ v : Int32, v = far (tillV L i j) → BB G RX12 cX12_latest 6 (some .int) (d + 3) (QM G (PFm G μ σ (oLatest L (nI j)))) 57 [some (.ref (G.b0 + 77)), some (.int (nI j)), some (.int l1), some (.int l2), some (.int (nI i)), some (.int (tillV L i j))] [.int v] (sh G s2 μ) := by
          intro v hv
          subst hv
          refine b_istore dX12_latest_57 (by decide) rfl ?_
          refine b_iload_n dX12_latest_59 rfl ?_
          refine b_iconst (v := -1) dX12_latest_60 (by decide) ?_
          have tk : mLat (fun p => tillV L p j) (i + 1) = (nI i, far (tillV L i j)) → BB G RX12 cX12_latest 6 (some .int) (d + 3) (QM G (PFm G μ σ (oLatest L (nI j)))) 73 [some (.ref (G.b0 + 77)), some (.int (nI j)), some (.int l1), some (.int l2), some (.int (nI i)), some (.int (far (tillV L i j)))] [] (sh G s2 μ) := by
            intro he
            refine b_iload dX12_latest_73 rfl ?_
            refine b_istore_n dX12_latest_75 (by decide) rfl ?_
            refine b_iload dX12_latest_76 rfl ?_
            refine b_istore_n dX12_latest_78 (by decide) rfl ?_
            refine b_iinc dX12_latest_79 rfl (nI_1 _) (by decide) rfl ?_
            refine b_goto 24 dX12_latest_82 (by decide) ?_
            refine b_locs ?_ (ih (i + 1) s2 (some (.int (far (tillV L i j)))) (by omega) hF3)
            rw [he]; rfl
          refine b_icmp_eq 73 dX12_latest_61 (by decide) (fun c5 => ?_) (fun c5 => ?_)
          · skip
            exact tk (by rw [eL]; exact if_neg (fun z => z.1 c5))
          · skip
            refine b_iload dX12_latest_64 rfl ?_
            refine b_iload_n dX12_latest_66 rfl ?_
            refine b_icmp_gt 73 dX12_latest_67 (by decide) (fun c6 => ?_) (fun c6 => ?_)
            · skip
              exact tk (by rw [eL]; exact if_neg (fun z => absurd c6 (Int32.not_lt.mpr z.2)))
            · skip
              refine b_goto 79 dX12_latest_70 (by decide) ?_
              refine b_iinc dX12_latest_79 rfl (nI_1 _) (by decide) rfl ?_
              refine b_goto 24 dX12_latest_82 (by decide) ?_
              refine b_locs ?_ (ih (i + 1) s2 (some (.int (far (tillV L i j)))) (by omega) hF3)
              rw [eL, if_pos ⟨c5, Int32.not_lt.mp c6⟩, hl1, hl2]; rfl
        refine b_icmp_ne 55 dX12_latest_47 (by decide) (fun c5 => ?_) (fun c5 => ?_)
        · skip
          refine b_iload dX12_latest_55 rfl ?_
          exact nx _ (if_neg c5).symm
        · skip
          refine b_bipush (v := nI 99) dX12_latest_50 (by decide) ?_
          refine b_goto 57 dX12_latest_52 (by decide) ?_
          exact nx _ (if_pos c5).symm
    exact lp L.P 0 σ _ (by omega) (FT_r σ)
  · skip
    refine b_bipush (v := -2) dX12_latest_14 (by decide) ?_
    exact b_iret dX12_latest_16 ⟨by simp [oLatest, (bI_0 _).mp c1], σ, rfl, FT_r σ⟩

