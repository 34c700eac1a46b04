/-! ===== the reference: what is known of knowing ===== -/
def sbs (a b : Int32) : Prop := ∀ i, i < 32 → bt a i = true → bt b i = true
theorem sbs_eq {a b : Int32} (h1 : sbs a b) (h2 : sbs b a) : a = b := b_ext (fun i hi => by
  have := h1 i hi; have := h2 i hi
  cases ha : bt a i <;> cases hb : bt b i <;> simp_all)
theorem cnt_mono {a b : Int32} : ∀ n, (∀ i, i < n → bt a i = true → bt b i = true) → cnt a n ≤ cnt b n
  | 0, _ => Nat.le_refl _
  | n + 1, h => by
    have ih := cnt_mono n (fun i hi => h i (by omega))
    have hn := h n (by omega)
    unfold cnt
    cases ha : bt a n <;> cases hb : bt b n <;> simp_all <;> omega
theorem cnt_st {a b : Int32} {j : Nat} (hj : bt b j = true) (hj' : bt a j = false) : ∀ n, j < n → (∀ i, i < n → bt a i = true → bt b i = true) → cnt a n < cnt b n
  | 0, h, _ => absurd h (by omega)
  | n + 1, hjn, h => by
    have hn := h n (by omega)
    by_cases e : j = n
    · subst e
      have ih := cnt_mono (a := a) (b := b) j (fun i hi => h i (by omega))
      unfold cnt
      simp [hj, hj']; omega
    · have ih := cnt_st hj hj' n (by omega) (fun i hi => h i (by omega))
      unfold cnt
      cases ha : bt a n <;> cases hb : bt b n <;> simp_all <;> omega
theorem bt_self {hold : Nat → Int32} {W : Nat} {told : Int32} {w : Nat} (hw : w < W) (hW : W ≤ 30) : ∀ n, bt (mPoss hold W told w n) w = true
  | 0 => by rw [mPoss, bt_all hW (by omega)]; simpa using hw
  | n + 1 => by
    have ih := bt_self (hold := hold) (told := told) hw hW n
    rw [mPoss]
    split
    · rw [b_and, ih, mSide]
      split
      · rename_i h; simp [h]
      · rename_i h; rw [not_bt (by omega)]; simp [h]
    · exact ih
theorem kn_at {H q : Int32} {t : Nat} (ht : t < 32) (hq : bt q t = true) : mKn H q = true ↔ ∀ i, i < 32 → bt q i = true → bt H i = bt H t := by
  unfold mKn
  simp only [Bool.or_eq_true, decide_eq_true_eq]
  constructor
  · rintro (h | h) i hi hqi
    · have e1 : bt (q &&& H) i = bt 0 i := by rw [h]
      have e2 : bt (q &&& H) t = bt 0 t := by rw [h]
      rw [b_and, hqi, b_0] at e1
      rw [b_and, hq, b_0] at e2
      simp at e1 e2
      rw [e1, e2]
    · have e1 : bt (q &&& H) i = bt q i := by rw [h]
      have e2 : bt (q &&& H) t = bt q t := by rw [h]
      rw [b_and, hqi] at e1
      rw [b_and, hq] at e2
      simp at e1 e2
      rw [e1, e2]
  · intro h
    cases hb : bt H t
    · left
      apply b_ext
      intro i hi
      rw [b_and, b_0]
      cases hqi : bt q i
      · rfl
      · rw [h i hi hqi, hb]; rfl
    · right
      apply b_ext
      intro i hi
      rw [b_and]
      cases hqi : bt q i
      · rfl
      · rw [h i hi hqi, hb]; rfl
theorem st1_bt {hold : Nat → Int32} {W F : Nat} {s to0 told : Int32} {i : Nat} : ∀ n, (bt (mSt1 hold W F s to0 told n) i = true ↔ bt to0 i = true ∨ ∃ w, w < n ∧ bt s w = true ∧ bt (mPoss hold W told w F) i = true)
  | 0 => by
    rw [mSt1]
    exact ⟨Or.inl, fun h => h.elim id (fun ⟨w, h, _⟩ => absurd h (by omega))⟩
  | n + 1 => by
    have ih := st1_bt (hold := hold) (W := W) (F := F) (s := s) (to0 := to0) (told := told) (i := i) n
    rw [mSt1]
    constructor
    · intro h
      split at h
      · rename_i hs
        rw [b_or, Bool.or_eq_true, ih] at h
        rcases h with (h | ⟨w, h1, h2⟩) | h
        · exact Or.inl h
        · exact Or.inr ⟨w, by omega, h2⟩
        · exact Or.inr ⟨n, by omega, hs, h⟩
      · rcases ih.mp h with h | ⟨w, h1, h2⟩
        · exact Or.inl h
        · exact Or.inr ⟨w, by omega, h2⟩
    · intro h
      have h' : bt (mSt1 hold W F s to0 told n) i = true ∨ (bt s n = true ∧ bt (mPoss hold W told n F) i = true) := by
        rcases h with h | ⟨w, h1, h2⟩
        · exact Or.inl (ih.mpr (Or.inl h))
        · by_cases e : w = n
          · subst e; exact Or.inr h2
          · exact Or.inl (ih.mpr (Or.inr ⟨w, by omega, h2⟩))
      split
      · rw [b_or, Bool.or_eq_true]
        exact h'.elim Or.inl (fun z => Or.inr z.2)
      · rename_i hs
        rcases h' with h | h
        · exact h
        · exact absurd h.1 hs
theorem st_bt {hold : Nat → Int32} {W F : Nat} {told : Nat → Int32} {s : Int32} {i : Nat} : ∀ n, (bt (mSt hold W F told s n) i = true ↔ bt s i = true ∨ ∃ p, p < n ∧ ∃ w, w < W ∧ bt s w = true ∧ bt (mPoss hold W (told p) w F) i = true)
  | 0 => by
    rw [mSt]
    exact ⟨Or.inl, fun h => h.elim id (fun ⟨w, h, _⟩ => absurd h (by omega))⟩
  | n + 1 => by
    have ih := st_bt (hold := hold) (W := W) (F := F) (told := told) (s := s) (i := i) n
    rw [mSt, st1_bt, ih]
    constructor
    · rintro ((h | ⟨p, h1, h2⟩) | h)
      · exact Or.inl h
      · exact Or.inr ⟨p, by omega, h2⟩
      · exact Or.inr ⟨n, by omega, h⟩
    · rintro (h | ⟨p, h1, h2⟩)
      · exact Or.inl (Or.inl h)
      · by_cases e : p = n
        · subst e; exact Or.inr h2
        · exact Or.inl (Or.inr ⟨p, by omega, h2⟩)
theorem step_bt {L : LD} {s : Int32} {i : Nat} : bt (step L s) i = true ↔ bt s i = true ∨ ∃ p, p < L.P ∧ ∃ w, w < L.W ∧ bt s w = true ∧ bt (poss L p w) i = true := st_bt L.P
theorem bit_bt {w i : Nat} (hw : w < 32) (hi : i < 32) : bt (bit w) i = true ↔ i = w := by unfold bit; rw [b_bit hw hi]; simp
theorem step_add {L : LD} {s : Int32} {i : Nat} (hW : L.W ≤ 16) (hi : i < 32) : bt (step L s) i = true ↔ ∃ w, w < 32 ∧ bt s w = true ∧ bt (step L (bit w)) i = true := by
  rw [step_bt]
  constructor
  · rintro (h | ⟨p, hp, w, hw, h1, h2⟩)
    · exact ⟨i, hi, h, step_bt.mpr (Or.inl ((bit_bt hi hi).mpr rfl))⟩
    · exact ⟨w, by omega, h1, step_bt.mpr (Or.inr ⟨p, hp, w, hw, (bit_bt (by omega) (by omega)).mpr rfl, h2⟩)⟩
  · rintro ⟨w, hw, h1, h2⟩
    rcases step_bt.mp h2 with h | ⟨p, hp, w', hw', h3, h4⟩
    · rw [bit_bt hw hi] at h; subst h; exact Or.inl h1
    · rw [bit_bt hw (by omega)] at h3; subst h3; exact Or.inr ⟨p, hp, w', hw', h1, h4⟩
def stp (L : LD) : Nat → Int32 → Int32
  | 0, s => s
  | n + 1, s => stp L n (step L s)
theorem stp_s (L : LD) : ∀ n s, stp L (n + 1) s = step L (stp L n s)
  | 0, _ => rfl
  | n + 1, s => by rw [stp, stp_s L n (step L s)]; rfl
theorem stp_add {L : LD} (hW : L.W ≤ 16) : ∀ n s i, i < 32 → (bt (stp L n s) i = true ↔ ∃ w, w < 32 ∧ bt s w = true ∧ bt (stp L n (bit w)) i = true)
  | 0, s, i, hi => by
    constructor
    · intro h; exact ⟨i, hi, h, (bit_bt hi hi).mpr rfl⟩
    · rintro ⟨w, hw, h1, h2⟩
      have h3 : bt (bit w) i = true := h2
      rw [bit_bt hw hi] at h3; subst h3; exact h1
  | n + 1, s, i, hi => by
    rw [stp, stp_add hW n _ i hi]
    constructor
    · rintro ⟨k, hk, h1, h2⟩
      obtain ⟨w, hw, h3, h4⟩ := (step_add hW hk).mp h1
      exact ⟨w, hw, h3, by rw [stp]; exact (stp_add hW n _ i hi).mpr ⟨k, hk, h4, h2⟩⟩
    · rintro ⟨w, hw, h1, h2⟩
      rw [stp] at h2
      obtain ⟨k, hk, h3, h4⟩ := (stp_add hW n _ i hi).mp h2
      exact ⟨k, hk, (step_add hW hk).mpr ⟨w, hw, h1, h3⟩, h4⟩
theorem step_up {L : LD} {s : Int32} : sbs s (step L s) := fun i _ h => step_bt.mpr (Or.inl h)
theorem lo_step {L : LD} {s : Int32} (hW : L.W ≤ 16) (h : lo L.W s) : lo L.W (step L s) := fun i h1 h2 => by
  cases hb : bt (step L s) i
  · rfl
  · rcases step_bt.mp hb with q | ⟨p, hp, w, hw, h3, h4⟩
    · rw [h i h1 h2] at q; exact absurd q (by simp)
    · have h5 : bt (mPoss L.hold L.W (L.told p) w L.F) i = false := lo_poss (by omega) L.F i h1 h2
      have h6 : bt (mPoss L.hold L.W (L.told p) w L.F) i = true := h4
      rw [h5] at h6; exact absurd h6 (by simp)
theorem lo_stp {L : LD} (hW : L.W ≤ 16) : ∀ n s, lo L.W s → lo L.W (stp L n s)
  | 0, _, h => h
  | n + 1, _, h => lo_stp hW n _ (lo_step hW h)
theorem atT_bit (L : LD) : atT L = bit L.t := rfl
theorem lo_at {L : LD} (ht : L.t < L.W) (hW : L.W ≤ 16) : lo L.W (atT L) := lo_bit' ht (by omega)
theorem mRch_eq (L : LD) : ∀ n s, mRch L n s = stp L n s
  | 0, _ => rfl
  | n + 1, s => by
    have fx : step L s = s → ∀ k, stp L k s = s := by
      intro h k
      induction k with
      | zero => rfl
      | succ k ih => rw [stp, h]; exact ih
    rw [mRch, stp]
    split
    · rename_i h; rw [h]; exact (fx h n).symm
    · exact mRch_eq L n _
/-- the side of a fact on which the true world lies -/
def sd (L : LD) (f : Nat) (i : Nat) : Prop := bt (L.hold f) i = bt (L.hold f) L.t
def inS (L : LD) (f : Nat) (q : Int32) : Prop := ∀ i, i < 32 → bt q i = true → sd L f i
theorem kn_S {L : LD} {f : Nat} {q : Int32} (ht : L.t < 32) (hq : bt q L.t = true) : mKn (L.hold f) q = true ↔ inS L f q := kn_at ht hq
theorem stp_t {L : LD} (ht : L.t < 32) : ∀ n, bt (stp L n (atT L)) L.t = true
  | 0 => (bit_bt ht ht).mpr rfl
  | n + 1 => by rw [stp_s]; exact step_up _ ht (stp_t ht n)
def badN (L : LD) (f n : Nat) : Prop := ¬ inS L f (stp L (n + 1) (atT L))
def DPv (L : LD) (f : Nat) (v : Int32) : Prop := (∃ m, m < 16 ∧ badN L f m ∧ (∀ k, k < m → ¬ badN L f k) ∧ v = nI m) ∨ ((∀ m, ¬ badN L f m) ∧ v = nI 100)
theorem DPv_u {L : LD} {f : Nat} {v v' : Int32} (h : DPv L f v) (h' : DPv L f v') : v = v' := by
  rcases h with ⟨m, h1, h2, h3, h4⟩ | ⟨h1, h2⟩ <;> rcases h' with ⟨m', k1, k2, k3, k4⟩ | ⟨k1, k2⟩
  · have : m = m' := by
      rcases Nat.lt_trichotomy m m' with q | q | q
      · exact absurd h2 (k3 m q)
      · exact q
      · exact absurd k2 (h3 m' q)
    rw [h4, k4, this]
  · exact absurd h2 (k1 m)
  · exact absurd k2 (h1 m')
  · rw [h2, k2]
theorem inS_0 {L : LD} {f : Nat} (ht : L.t < 32) : inS L f (atT L) := fun i hi h => by
  rw [atT_bit, bit_bt ht hi] at h; rw [h]; rfl
theorem stp_fx {L : LD} {n : Nat} (h : step L (stp L n (atT L)) = stp L n (atT L)) : ∀ k, stp L (n + k) (atT L) = stp L n (atT L)
  | 0 => rfl
  | k + 1 => by rw [← Nat.add_assoc, stp_s, stp_fx h k, h]
theorem mDep_v {L : LD} {f : Nat} (hW : L.W ≤ 16) (ht : L.t < L.W) : ∀ k n s, k + n = 16 → s = stp L n (atT L) → n < cnt s 16 → (∀ m, m < n → ¬ badN L f m) → DPv L f (mDep L f k n s)
  | 0, n, s, hk, hs, hc, _ => by have := cnt_le s 16; omega
  | k + 1, n, s, hk, hs, hc, hg => by
    rw [mDep]
    have e1 : stp L (n + 1) (atT L) = step L s := by rw [stp_s, hs]
    have htn := stp_t (L := L) (by omega) (n + 1)
    have hks := kn_S (f := f) (by omega) htn
    by_cases h1 : step L s = s
    · rw [if_pos h1]
      right
      refine ⟨fun m => ?_, rfl⟩
      by_cases h2 : m < n
      · exact hg m h2
      · have e2 := stp_fx (by rw [← hs]; exact h1) (m + 1 - n)
        rw [show n + (m + 1 - n) = m + 1 by omega] at e2
        unfold badN
        rw [e2]
        simp only [Classical.not_not]
        cases n with
        | zero => exact inS_0 (by omega)
        | succ n' => have := hg n' (by omega); unfold badN at this; exact Classical.not_not.mp this
    · rw [if_neg h1]
      by_cases h2 : mKn (L.hold f) (step L s) = true
      · rw [if_pos h2]
        refine mDep_v hW ht k (n + 1) _ (by omega) e1.symm ?_ (fun m hm => ?_)
        · obtain ⟨j, hj, hj1, hj2⟩ : ∃ j, j < 32 ∧ bt (step L s) j = true ∧ bt s j = false := by
            refine Classical.byContradiction (fun z => h1 (sbs_eq (fun i hi hb => ?_) step_up))
            cases hbi : bt s i
            · exact absurd ⟨i, hi, hb, hbi⟩ z
            · rfl
          have hlo : lo L.W (step L s) := by rw [← e1]; exact lo_stp hW _ _ (lo_at ht hW)
          have hj16 : j < 16 := by
            rcases Nat.lt_or_ge j L.W with q | q
            · omega
            · rw [hlo j q hj] at hj1; exact absurd hj1 (by simp)
          have := cnt_st hj1 hj2 16 hj16 (fun i hi hb => step_up i (by omega) hb)
          omega
        · by_cases e : m = n
          · subst e
            unfold badN
            simp only [Classical.not_not]
            rw [e1] at hks ⊢
            exact hks.mp h2
          · exact hg m (by omega)
      · rw [if_neg h2]
        left
        refine ⟨n, by omega, ?_, hg, rfl⟩
        unfold badN
        rw [e1] at hks ⊢
        exact fun z => h2 (hks.mpr z)
theorem at_cnt {L : LD} (ht : L.t < 16) : 0 < cnt (atT L) 16 := by
  have := cnt_st (a := nI 0) (b := atT L) (j := L.t) ((bit_bt (by omega) (by omega)).mpr rfl) (b_n0 _) 16 ht (fun i hi h => by rw [b_n0] at h; exact absurd h (by simp))
  omega
theorem dep_v {L : LD} {f : Nat} (hW : L.W ≤ 16) (ht : L.t < L.W) : DPv L f (mDep L f 16 0 (atT L)) := mDep_v hW ht 16 0 _ rfl rfl (at_cnt (by omega)) (fun m hm => absurd hm (by omega))
/-! the dual: worlds in which all hold but worlds of a set possible -/
def mE1 (L : LD) (S : Int32) (w : Nat) : Nat → Bool
  | 0 => bt S w
  | p + 1 => mE1 L S w p && decide (poss L p w &&& (S ^^^ (-1)) = 0)
def mE (L : LD) (S : Int32) : Nat → Int32
  | 0 => nI 0
  | w + 1 => mE L S w ||| (if mE1 L S w L.P then bit w else nI 0)
theorem sb_not {a b : Int32} : a &&& (b ^^^ (-1)) = 0 ↔ sbs a b := by
  constructor
  · intro h i hi ha
    have e : bt (a &&& (b ^^^ (-1))) i = bt 0 i := by rw [h]
    rw [b_and, not_bt hi, ha, b_0] at e
    simpa using e
  · intro h
    apply b_ext
    intro i hi
    rw [b_and, not_bt hi, b_0]
    cases ha : bt a i
    · rfl
    · rw [h i hi ha]; rfl
theorem mE1_t {L : LD} {S : Int32} {w : Nat} : ∀ n, (mE1 L S w n = true ↔ bt S w = true ∧ ∀ p, p < n → sbs (poss L p w) S)
  | 0 => by simp [mE1]
  | n + 1 => by
    rw [mE1, Bool.and_eq_true, mE1_t n, decide_eq_true_eq, sb_not]
    constructor
    · rintro ⟨⟨h1, h2⟩, h3⟩
      refine ⟨h1, fun p hp => ?_⟩
      by_cases e : p = n
      · rw [e]; exact h3
      · exact h2 p (by omega)
    · rintro ⟨h1, h2⟩
      exact ⟨⟨h1, fun p hp => h2 p (by omega)⟩, h2 n (by omega)⟩
theorem mE_t {L : LD} {S : Int32} {w : Nat} (hw : w < 32) : ∀ n, n ≤ 32 → (bt (mE L S n) w = true ↔ w < n ∧ mE1 L S w L.P = true)
  | 0, _ => by simp [mE, b_n0]
  | n + 1, hn => by
    rw [mE, b_or, Bool.or_eq_true, mE_t hw n (by omega)]
    by_cases e : w = n
    · subst e
      cases h : mE1 L S w L.P
      · simp [b_n0]
      · simp [bit_bt hw hw]
    · have : bt (if mE1 L S n L.P = true then bit n else nI 0) w = false := by
        split
        · cases hb : bt (bit n) w
          · rfl
          · rw [bit_bt (by omega) hw] at hb; exact absurd hb e
        · exact b_n0 _
      rw [this]
      simp only [Bool.false_eq_true, or_false]
      constructor
      · rintro ⟨a, b⟩; exact ⟨by omega, b⟩
      · rintro ⟨a, b⟩; exact ⟨by omega, b⟩
theorem mE_step {L : LD} {S : Int32} {w : Nat} (hW : L.W ≤ 16) (hw : w < L.W) : bt (mE L S L.W) w = true ↔ sbs (step L (bit w)) S := by
  rw [mE_t (by omega) _ (by omega), mE1_t]
  constructor
  · rintro ⟨-, h1, h2⟩ i hi hb
    rcases step_bt.mp hb with h | ⟨p, hp, w', hw', h3, h4⟩
    · rw [bit_bt (by omega) hi] at h; rw [h]; exact h1
    · rw [bit_bt (by omega) (by omega)] at h3; subst h3; exact h2 p hp i hi h4
  · intro h
    refine ⟨hw, h w (by omega) (step_bt.mpr (Or.inl ((bit_bt (by omega) (by omega)).mpr rfl))), fun p hp i hi hb => h i hi (step_bt.mpr (Or.inr ⟨p, hp, w, hw, (bit_bt (by omega) (by omega)).mpr rfl, hb⟩))⟩
def enS (L : LD) (S : Int32) : Nat → Int32
  | 0 => S
  | n + 1 => mE L (enS L S n) L.W
theorem lo_mE {L : LD} {S : Int32} (hW : L.W ≤ 16) : lo L.W (mE L S L.W) := fun i h1 h2 => by
  cases hb : bt (mE L S L.W) i
  · rfl
  · have := ((mE_t h2 _ (by omega)).mp hb).1; omega
theorem enS_t {L : LD} {S : Int32} (hW : L.W ≤ 16) : ∀ n w, w < L.W → (bt (enS L S n) w = true ↔ sbs (stp L n (bit w)) S)
  | 0, w, hw => by
    show bt S w = true ↔ sbs (bit w) S
    constructor
    · intro h i hi hb; rw [bit_bt (by omega) hi] at hb; rw [hb]; exact h
    · intro h; exact h w (by omega) ((bit_bt (by omega) (by omega)).mpr rfl)
  | n + 1, w, hw => by
    rw [enS, mE_step hW hw, stp]
    have hlo := lo_step (L := L) hW (lo_bit' (k := L.W) hw (by omega))
    constructor
    · intro h i hi hb
      obtain ⟨k, hk, h1, h2⟩ := (stp_add hW n _ i hi).mp hb
      have hkW : k < L.W := by
        rcases Nat.lt_or_ge k L.W with q | q
        · exact q
        · rw [hlo k q hk] at h1; exact absurd h1 (by simp)
      exact (enS_t hW n k hkW).mp (h k hk h1) i hi h2
    · intro h k hk hb
      have hkW : k < L.W := by
        rcases Nat.lt_or_ge k L.W with q | q
        · exact q
        · rw [hlo k q hk] at hb; exact absurd hb (by simp)
      exact (enS_t hW n k hkW).mpr (fun i hi h2 => h i hi ((stp_add hW n _ i hi).mpr ⟨k, hk, hb, h2⟩))

