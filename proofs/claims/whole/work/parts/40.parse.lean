/-! ===== reading a text, as both sides do it ===== -/
/-- the text, the number of its tokens -/
abbrev PX : Type := TX × Nat
/-- where a reading is: the token, what is wrong (0: nothing), where it was, the codes told so far -/
abbrev FS : Type := Nat × Nat × Nat × List Nat
def kd (Y : PX) (s : FS) : Nat := if s.2.1 = 0 then tK Y.1 s.1 else 17
def nxt (Y : PX) (s : FS) : FS := if s.2.1 = 0 ∧ s.1 < Y.2 then (s.1 + 1, s.2) else s
def fail (Y : PX) (f : Nat) (s : FS) : FS := if s.2.1 = 0 then (s.1, (if tK Y.1 s.1 = 18 then 1 else f), tS Y.1 s.1, s.2.2.2) else s
def tell (c : Nat) (s : FS) : FS := if s.2.1 = 0 then (s.1, s.2.1, s.2.2.1, s.2.2.2 ++ [c]) else s
def takK (Y : PX) (k : Nat) (s : FS) : FS := if kd Y s = k then nxt Y s else fail Y 2 s
def tnum (Y : PX) (lw hi : Nat) (s : FS) : FS := if kd Y s = 16 then (if lw ≤ tV Y.1 s.1 ∧ tV Y.1 s.1 < hi then nxt Y s else fail Y 3 s) else fail Y 2 s
def isAt (k : Nat) : Bool := decide (k < 3) || (decide (12 ≤ k) && decide (k < 15))
def atomF (Y : PX) (inn : Option (FS → FS)) (s : FS) : FS :=
  if kd Y s = 16 then nxt Y (tell (tV Y.1 s.1) s)
  else if isAt (kd Y s) then nxt Y (tell (1000 + kd Y s) s)
  else if kd Y s = 25 then (match inn with
    | none => fail Y 4 s
    | some g => takK Y 26 (g (nxt Y s)))
  else fail Y 2 s
def lpF (Y : PX) (ops : Nat → Option Nat) (body : FS → FS) : Nat → FS → FS
  | 0, s => s
  | n + 1, s => match ops (kd Y s) with
    | none => s
    | some c => lpF Y ops body n (tell c (body (nxt Y s)))
def opT (k : Nat) : Option Nat := if k = 24 then some 3002 else none
def opS (k : Nat) : Option Nat := if k = 22 then some 3000 else if k = 23 then some 3001 else none
def opC (k : Nat) : Option Nat := if k = 29 then some 3003 else if k = 30 then some 3004 else if k = 31 then some 3005 else none
def opA (k : Nat) : Option Nat := if k = 10 then some 3006 else none
def opO (k : Nat) : Option Nat := if k = 9 then some 3007 else none
def termF (Y : PX) (inn : Option (FS → FS)) (s : FS) : FS := lpF Y opT (atomF Y inn) 900 (atomF Y inn s)
def sumF (Y : PX) (inn : Option (FS → FS)) (s : FS) : FS := lpF Y opS (termF Y inn) 900 (termF Y inn s)
/-- a sum, so many signs may stand within each other -/
def sumN (Y : PX) : Nat → FS → FS
  | 0 => sumF Y none
  | k + 1 => sumF Y (some (sumN Y k))
def unitF (Y : PX) (sm : FS → FS) (inn : Option ((FS → FS) × (FS → FS))) (s : FS) : FS :=
  if kd Y s = 11 then (match inn with
    | none => fail Y 4 s
    | some g => tell 3008 (g.1 (nxt Y s)))
  else if kd Y s = 27 then (match inn with
    | none => fail Y 4 s
    | some g => takK Y 28 (g.2 (nxt Y s)))
  else match opC (kd Y (sm s)) with
    | some c => tell c (sm (nxt Y (sm s)))
    | none => fail Y 2 (sm s)
def bothF (Y : PX) (u : FS → FS) (s : FS) : FS := lpF Y opA u 900 (u s)
def truthF (Y : PX) (u : FS → FS) (s : FS) : FS := lpF Y opO (bothF Y u) 900 (bothF Y u s)
def utN (Y : PX) : Nat → (FS → FS) × (FS → FS)
  | 0 => (unitF Y (sumN Y 0) none, truthF Y (unitF Y (sumN Y 0) none))
  | k + 1 => (unitF Y (sumN Y (k + 1)) (some (utN Y k)), truthF Y (unitF Y (sumN Y (k + 1)) (some (utN Y k))))
def innS (Y : PX) : Nat → Option (FS → FS)
  | 0 => none
  | k + 1 => some (sumN Y k)
def innU (Y : PX) : Nat → Option ((FS → FS) × (FS → FS))
  | 0 => none
  | k + 1 => some (utN Y k)
theorem sumN_eq (Y : PX) (k : Nat) : sumN Y k = sumF Y (innS Y k) := by cases k <;> rfl
theorem utN_1 (Y : PX) (k : Nat) : (utN Y k).1 = unitF Y (sumN Y k) (innU Y k) := by cases k <;> rfl
theorem utN_2 (Y : PX) (k : Nat) : (utN Y k).2 = truthF Y (utN Y k).1 := by cases k <;> rfl
/-! where it may be: at a token, fewer codes than tokens by c -/
def PO (Y : PX) (c : Nat) (s : FS) : Prop := s.2.1 = 0 → s.1 ≤ Y.2 ∧ s.2.2.2.length + c ≤ s.1
def PxO (Y : PX) : Prop := isM Y.1 Y.2 ∧ Y.1.2 ≤ 900
theorem PxO.le {Y : PX} (h : PxO Y) : Y.2 ≤ 900 := Nat.le_trans (isM_le h.1) h.2
theorem kd_lt {Y : PX} {s : FS} {c : Nat} (hY : PxO Y) (hp : PO Y c s) (h : kd Y s ≠ 17) : s.2.1 = 0 ∧ s.1 < Y.2 := by
  unfold kd at h
  by_cases h0 : s.2.1 = 0
  · refine ⟨h0, ?_⟩
    rw [if_pos h0] at h
    have h1 := (hp h0).1
    rcases Nat.lt_or_ge s.1 Y.2 with q | q
    · exact q
    · have e : s.1 = Y.2 := by omega
      rw [e, tK_M hY.1] at h
      exact absurd rfl h
  · rw [if_neg h0] at h; exact absurd rfl h
theorem PO_nxt {Y : PX} {s : FS} {c : Nat} (hY : PxO Y) (hp : PO Y c s) (h : kd Y s ≠ 17) : PO Y (c + 1) (nxt Y s) := by
  obtain ⟨h0, h1⟩ := kd_lt hY hp h
  unfold nxt
  rw [if_pos ⟨h0, h1⟩]
  intro _
  have := (hp h0).2
  exact ⟨h1, by show s.2.2.2.length + (c + 1) ≤ s.1 + 1; omega⟩
theorem PO_mono {Y : PX} {s : FS} {c c' : Nat} (hp : PO Y c s) (h : c' ≤ c) : PO Y c' s := fun h0 => ⟨(hp h0).1, by have := (hp h0).2; omega⟩
theorem PO_fail {Y : PX} {s : FS} {c f : Nat} (hf : f ≠ 0) : PO Y c (fail Y f s) ∨ s.2.1 ≠ 0 := by
  by_cases h0 : s.2.1 = 0
  · left
    unfold fail
    rw [if_pos h0]
    intro h
    have h2 : (if tK Y.1 s.1 = 18 then 1 else f) = 0 := h
    split at h2 <;> omega
  · exact Or.inr h0
theorem PO_fl {Y : PX} {s : FS} {c c' f : Nat} (hp : PO Y c s) (hf : f ≠ 0) : PO Y c' (fail Y f s) := by
  rcases PO_fail (Y := Y) (s := s) (c := c') hf with h | h
  · exact h
  · unfold fail
    rw [if_neg h]
    exact fun z => absurd z h
theorem PO_tell {Y : PX} {s : FS} {c x : Nat} (hp : PO Y (c + 1) s) : PO Y c (tell x s) := by
  unfold tell
  split
  · rename_i h0
    intro _
    have := hp h0
    exact ⟨this.1, by show (s.2.2.2 ++ [x]).length + c ≤ s.1; rw [List.length_append]; simp; omega⟩
  · exact PO_mono hp (by omega)
theorem tell_kd {Y : PX} {s : FS} {x : Nat} : kd Y (tell x s) = kd Y s := by
  unfold kd tell
  split <;> simp_all
theorem tell_nxt {Y : PX} {s : FS} {x : Nat} : nxt Y (tell x s) = tell x (nxt Y s) := by
  unfold nxt tell
  by_cases h0 : s.2.1 = 0
  · by_cases h1 : s.1 < Y.2
    · simp [h0, h1]
    · simp [h0, h1]
  · simp [h0]
theorem PO_tak {Y : PX} {s : FS} {c k : Nat} (hY : PxO Y) (hp : PO Y c s) (hk : k ≠ 17) : PO Y c (takK Y k s) := by
  unfold takK
  split
  · rename_i h; exact PO_mono (PO_nxt hY hp (by omega)) (by omega)
  · exact PO_fl hp (by omega)
theorem PO_atom {Y : PX} {inn : Option (FS → FS)} (hY : PxO Y) (hi : ∀ g, inn = some g → ∀ c s, PO Y c s → PO Y c (g s)) : ∀ c s, PO Y c s → PO Y c (atomF Y inn s) := by
  intro c s hp
  unfold atomF
  split
  · rename_i h
    rw [tell_nxt]
    exact PO_tell (PO_nxt hY hp (by omega))
  · split
    · rename_i h
      rw [tell_nxt]
      refine PO_tell (PO_nxt hY hp (fun z => ?_))
      rw [z] at h; exact absurd h (by decide)
    · split
      · rename_i h
        cases inn with
        | none => exact PO_fl hp (by omega)
        | some g => exact PO_tak hY (hi g rfl c _ (PO_mono (PO_nxt hY hp (by omega)) (by omega))) (by omega)
      · exact PO_fl hp (by omega)
theorem PO_lp {Y : PX} {ops : Nat → Option Nat} {body : FS → FS} (hY : PxO Y) (ho : ops 17 = none) (hb : ∀ c s, PO Y c s → PO Y c (body s)) : ∀ n c s, PO Y c s → PO Y c (lpF Y ops body n s)
  | 0, _, _, hp => hp
  | n + 1, c, s, hp => by
    rw [lpF]
    split
    · exact hp
    · rename_i x hx
      exact PO_lp hY ho hb n c _ (PO_tell (hb (c + 1) _ (PO_nxt hY hp (fun z => by rw [z, ho] at hx; exact absurd hx (by simp)))))
theorem PO_term {Y : PX} {inn : Option (FS → FS)} (hY : PxO Y) (hi : ∀ g, inn = some g → ∀ c s, PO Y c s → PO Y c (g s)) : ∀ c s, PO Y c s → PO Y c (termF Y inn s) :=
  fun c s hp => PO_lp hY rfl (PO_atom hY hi) 900 c _ (PO_atom hY hi c s hp)
theorem PO_sumF {Y : PX} {inn : Option (FS → FS)} (hY : PxO Y) (hi : ∀ g, inn = some g → ∀ c s, PO Y c s → PO Y c (g s)) : ∀ c s, PO Y c s → PO Y c (sumF Y inn s) :=
  fun c s hp => PO_lp hY rfl (PO_term hY hi) 900 c _ (PO_term hY hi c s hp)
theorem PO_sum {Y : PX} (hY : PxO Y) : ∀ k c s, PO Y c s → PO Y c (sumN Y k s)
  | 0 => PO_sumF hY (fun g h => by cases h)
  | k + 1 => PO_sumF hY (fun g h => by cases h; exact PO_sum hY k)
theorem PO_innS {Y : PX} (hY : PxO Y) (k : Nat) : ∀ g, innS Y k = some g → ∀ c s, PO Y c s → PO Y c (g s) := by
  cases k with
  | zero => intro g h; cases h
  | succ k => intro g h; cases h; exact PO_sum hY k
theorem PO_unitF {Y : PX} {sm : FS → FS} {inn : Option ((FS → FS) × (FS → FS))} (hY : PxO Y) (hs : ∀ c s, PO Y c s → PO Y c (sm s)) (hi : ∀ g, inn = some g → (∀ c s, PO Y c s → PO Y c (g.1 s)) ∧ ∀ c s, PO Y c s → PO Y c (g.2 s)) : ∀ c s, PO Y c s → PO Y c (unitF Y sm inn s) := by
  intro c s hp
  unfold unitF
  split
  · rename_i h
    cases inn with
    | none => exact PO_fl hp (by omega)
    | some g => exact PO_tell ((hi g rfl).1 _ _ (PO_nxt hY hp (by omega)))
  · split
    · rename_i h
      cases inn with
      | none => exact PO_fl hp (by omega)
      | some g => exact PO_tak hY ((hi g rfl).2 c _ (PO_mono (PO_nxt hY hp (by omega)) (by omega))) (by omega)
    · split
      · rename_i x hx
        exact PO_tell (hs _ _ (PO_nxt hY (hs c s hp) (fun z => by rw [z] at hx; exact absurd hx (by simp [opC]))))
      · exact PO_fl (hs c s hp) (by omega)
theorem PO_both {Y : PX} {u : FS → FS} (hY : PxO Y) (hu : ∀ c s, PO Y c s → PO Y c (u s)) : ∀ c s, PO Y c s → PO Y c (bothF Y u s) :=
  fun c s hp => PO_lp hY rfl hu 900 c _ (hu c s hp)
theorem PO_truth {Y : PX} {u : FS → FS} (hY : PxO Y) (hu : ∀ c s, PO Y c s → PO Y c (u s)) : ∀ c s, PO Y c s → PO Y c (truthF Y u s) :=
  fun c s hp => PO_lp hY rfl (PO_both hY hu) 900 c _ (PO_both hY hu c s hp)
theorem PO_ut {Y : PX} (hY : PxO Y) : ∀ k, (∀ c s, PO Y c s → PO Y c ((utN Y k).1 s)) ∧ ∀ c s, PO Y c s → PO Y c ((utN Y k).2 s)
  | 0 => by
    have h := PO_unitF (inn := none) hY (PO_sum hY 0) (fun g h => by cases h)
    exact ⟨h, PO_truth hY h⟩
  | k + 1 => by
    have h := PO_unitF (inn := some (utN Y k)) hY (PO_sum hY (k + 1)) (fun g h => by cases h; exact PO_ut hY k)
    exact ⟨h, PO_truth hY h⟩
/-! ===== codes by what they leave on the stack: ty = is it a truth ===== -/
/-- the stack of types behind a code; none where it can't stand -/
def tyS (c : Nat) (t : List Bool) : Option (List Bool) :=
  if c < 3000 then (if t.length < 64 then some (false :: t) else none)
  else if c = 3008 then (match t with
    | true :: r => some (true :: r)
    | _ => none)
  else if c < 3003 then (match t with
    | false :: false :: r => some (false :: r)
    | _ => none)
  else if c < 3006 then (match t with
    | false :: false :: r => some (true :: r)
    | _ => none)
  else (match t with
    | true :: true :: r => some (true :: r)
    | _ => none)
def tyL : List Nat → List Bool → Option (List Bool)
  | [], t => some t
  | c :: cs, t => match tyS c t with
    | none => none
    | some u => tyL cs u
theorem tyL_app : ∀ (a b : List Nat) (t : List Bool), tyL (a ++ b) t = match tyL a t with
    | none => none
    | some u => tyL b u
  | [], b, t => rfl
  | c :: cs, b, t => by
    rw [List.cons_append, tyL, tyL]
    cases tyS c t with
    | none => rfl
    | some u => exact tyL_app cs b u
def cOk (c : Nat) : Bool := decide (c < 1000) || (decide (1000 ≤ c) && isAt (c - 1000)) || (decide (3000 ≤ c) && decide (c ≤ 3008))
/-- a reading that goes well tells codes that leave one more on the stack; it needs a room of n -/
def Tyd (Y : PX) (f : FS → FS) (ty : Bool) (n : Nat) : Prop := ∀ s, (f s).2.1 = 0 → s.2.1 = 0 ∧ ∃ cs, (f s).2.2.2 = s.2.2.2 ++ cs ∧ (∀ c ∈ cs, cOk c = true) ∧ ∀ t, t.length + n ≤ 64 → tyL cs t = some (ty :: t)
theorem nxt_0 {Y : PX} {s : FS} : (nxt Y s).2 = s.2 := by unfold nxt; split <;> rfl
theorem fail_0 {Y : PX} {s : FS} {f : Nat} (hf : f ≠ 0) : (fail Y f s).2.1 ≠ 0 := by
  unfold fail
  split
  · show (if tK Y.1 s.1 = 18 then 1 else f) ≠ 0
    split <;> omega
  · assumption
theorem tell_0 {s : FS} {c : Nat} (h : (tell c s).2.1 = 0) : s.2.1 = 0 ∧ (tell c s).2.2.2 = s.2.2.2 ++ [c] := by
  unfold tell at h ⊢
  split at h
  · rename_i h0; exact ⟨h0, by rw [if_pos h0]⟩
  · rename_i h0; exact absurd h h0
theorem tak_0 {Y : PX} {s : FS} {k : Nat} (h : (takK Y k s).2.1 = 0) : s.2.1 = 0 ∧ (takK Y k s).2 = s.2 := by
  unfold takK at h ⊢
  split at h
  · rename_i hk
    rw [nxt_0] at h
    exact ⟨h, by rw [if_pos hk, nxt_0]⟩
  · exact absurd h (fail_0 (by omega))
theorem Tyd_lp {Y : PX} {ops : Nat → Option Nat} {body : FS → FS} {ty : Bool} {n : Nat} (hb : Tyd Y body ty n) (ho : ∀ k c, ops k = some c → cOk c = true ∧ ∀ t, tyS c (ty :: ty :: t) = some (ty :: t)) : ∀ m s, (lpF Y ops body m s).2.1 = 0 → s.2.1 = 0 ∧ ∃ cs, (lpF Y ops body m s).2.2.2 = s.2.2.2 ++ cs ∧ (∀ c ∈ cs, cOk c = true) ∧ ∀ t, t.length + 1 + n ≤ 64 → tyL cs (ty :: t) = some (ty :: t)
  | 0, s, h => ⟨h, [], by simp [lpF], fun c hc => absurd hc (by simp), fun t _ => rfl⟩
  | m + 1, s, h => by
    rw [lpF] at h ⊢
    cases hop : ops (kd Y s) with
    | none =>
      rw [hop] at h
      exact ⟨h, [], by simp, fun c hc => absurd hc (by simp), fun t _ => rfl⟩
    | some c =>
      rw [hop] at h
      obtain ⟨h1, cs, h2, h3, h4⟩ := Tyd_lp hb ho m _ h
      obtain ⟨h5, h6⟩ := tell_0 h1
      obtain ⟨h7, bs, h8, h9, h10⟩ := hb _ h5
      rw [nxt_0] at h7 h8
      obtain ⟨o1, o3⟩ := ho _ _ hop
      refine ⟨h7, bs ++ [c] ++ cs, ?_, ?_, ?_⟩
      · show (lpF Y ops body m (tell c (body (nxt Y s)))).2.2.2 = _
        rw [h2, h6, h8]; simp
      · intro x hx
        simp only [List.mem_append, List.mem_singleton] at hx
        rcases hx with (hx | hx) | hx
        · exact h9 x hx
        · rw [hx]; exact o1
        · exact h3 x hx
      · intro t ht
        rw [tyL_app, tyL_app, h10 (ty :: t) (by simpa using (by omega : t.length + 1 + n ≤ 64))]
        show (match (match (some (ty :: ty :: t) : Option (List Bool)) with | none => none | some u => tyL [c] u) with | none => none | some u => tyL cs u) = _
        simp only [tyL, o3]
        exact h4 t ht
theorem Tyd_seq {Y : PX} {ops : Nat → Option Nat} {body : FS → FS} {ty : Bool} {n : Nat} (hb : Tyd Y body ty n) (ho : ∀ k c, ops k = some c → cOk c = true ∧ ∀ t, tyS c (ty :: ty :: t) = some (ty :: t)) : Tyd Y (fun s => lpF Y ops body 900 (body s)) ty (n + 1) := by
  intro s h
  obtain ⟨h1, cs, h2, h3, h4⟩ := Tyd_lp hb ho 900 _ h
  obtain ⟨h5, bs, h6, h7, h8⟩ := hb s h1
  refine ⟨h5, bs ++ cs, by rw [h2, h6, List.append_assoc], fun c hc => (List.mem_append.mp hc).elim (h7 c) (h3 c), fun t ht => ?_⟩
  rw [tyL_app, h8 t (by omega)]
  exact h4 t (by omega)
theorem tV_lt {X : TX} (i : Nat) : tV X i < 1000 := by
  unfold tV
  split
  · rename_i h
    unfold tK at h
    split at h
    · rename_i h0
      obtain ⟨hd, h3⟩ := kdT_16 h
      rw [bh_s h0] at h3 ⊢
      have := vlN_lt (b := X.1) (s := tS X i) (tEn X (tS X i) - tS X i) (fun j hj => en_D h0 hd _ (by omega) (by omega))
      have h4 : 10 ^ (tEn X (tS X i) - tS X i) ≤ 10 ^ 3 := Nat.pow_le_pow_right (by omega) h3
      omega
    · omega
  · omega
theorem isAt_lt {k : Nat} (h : isAt k = true) : k < 15 := by
  simp only [isAt, Bool.or_eq_true, Bool.and_eq_true, decide_eq_true_eq] at h
  omega
theorem Tyd_atom {Y : PX} {inn : Option (FS → FS)} {n : Nat} (hn : 1 ≤ n) (hi : ∀ g, inn = some g → Tyd Y g false n) : Tyd Y (atomF Y inn) false n := by
  intro s h
  unfold atomF at h ⊢
  split at h
  · rename_i hk
    rw [if_pos hk]
    rw [nxt_0] at h ⊢
    obtain ⟨h1, h2⟩ := tell_0 h
    have hv := tV_lt (X := Y.1) s.1
    refine ⟨h1, [tV Y.1 s.1], h2, fun c hc => by simp at hc; rw [hc, cOk, decide_eq_true hv]; rfl, fun t ht => ?_⟩
    simp only [tyL, tyS]
    rw [if_pos (by omega), if_pos (by omega)]
  · rename_i hk
    rw [if_neg hk]
    split at h
    · rename_i ha
      rw [if_pos ha]
      rw [nxt_0] at h ⊢
      obtain ⟨h1, h2⟩ := tell_0 h
      have hv := isAt_lt ha
      refine ⟨h1, [1000 + kd Y s], h2, fun c hc => by simp at hc; rw [hc, cOk, Nat.add_sub_cancel_left, ha]; simp, fun t ht => ?_⟩
      simp only [tyL, tyS]
      rw [if_pos (by omega), if_pos (by omega)]
    · rename_i ha
      rw [if_neg ha]
      split at h
      · rename_i h25
        rw [if_pos h25]
        cases inn with
        | none => exact absurd h (fail_0 (by omega))
        | some g =>
          obtain ⟨h1, h2⟩ := tak_0 h
          obtain ⟨h3, cs, h4, h5, h6⟩ := hi g rfl _ h1
          rw [nxt_0] at h3 h4
          exact ⟨h3, cs, by show (takK Y 26 (g (nxt Y s))).2.2.2 = _; rw [h2, h4], h5, h6⟩
      · exact absurd h (fail_0 (by omega))
theorem ty_T : ∀ k c, opT k = some c → cOk c = true ∧ ∀ t, tyS c (false :: false :: t) = some (false :: t) := by
  intro k c h
  unfold opT at h
  split at h
  · cases h; exact ⟨rfl, fun t => rfl⟩
  · cases h
theorem ty_S : ∀ k c, opS k = some c → cOk c = true ∧ ∀ t, tyS c (false :: false :: t) = some (false :: t) := by
  intro k c h
  unfold opS at h
  split at h
  · cases h; exact ⟨rfl, fun t => rfl⟩
  · split at h
    · cases h; exact ⟨rfl, fun t => rfl⟩
    · cases h
theorem ty_C : ∀ k c, opC k = some c → cOk c = true ∧ ∀ t, tyS c (false :: false :: t) = some (true :: t) := by
  intro k c h
  unfold opC at h
  split at h
  · cases h; exact ⟨rfl, fun t => rfl⟩
  · split at h
    · cases h; exact ⟨rfl, fun t => rfl⟩
    · split at h
      · cases h; exact ⟨rfl, fun t => rfl⟩
      · cases h
theorem ty_A : ∀ k c, opA k = some c → cOk c = true ∧ ∀ t, tyS c (true :: true :: t) = some (true :: t) := by
  intro k c h
  unfold opA at h
  split at h
  · cases h; exact ⟨rfl, fun t => rfl⟩
  · cases h
theorem ty_O : ∀ k c, opO k = some c → cOk c = true ∧ ∀ t, tyS c (true :: true :: t) = some (true :: t) := by
  intro k c h
  unfold opO at h
  split at h
  · cases h; exact ⟨rfl, fun t => rfl⟩
  · cases h
theorem Tyd_mono {Y : PX} {f : FS → FS} {ty : Bool} {n n' : Nat} (h : Tyd Y f ty n) (hn : n ≤ n') : Tyd Y f ty n' := by
  intro s h0
  obtain ⟨h1, cs, h2, h3, h4⟩ := h s h0
  exact ⟨h1, cs, h2, h3, fun t ht => h4 t (by omega)⟩
theorem Tyd_sumF {Y : PX} {inn : Option (FS → FS)} {n : Nat} (hn : 1 ≤ n) (hi : ∀ g, inn = some g → Tyd Y g false n) : Tyd Y (sumF Y inn) false (n + 2) :=
  Tyd_seq (Tyd_seq (Tyd_atom hn hi) ty_T) ty_S
theorem Tyd_sum {Y : PX} : ∀ k, Tyd Y (sumN Y k) false (2 * k + 3)
  | 0 => Tyd_sumF (n := 1) (by omega) (fun g h => by cases h)
  | k + 1 => Tyd_mono (Tyd_sumF (n := 2 * k + 3) (by omega) (fun g h => by cases h; exact Tyd_sum k)) (by omega)
theorem Tyd_unitF {Y : PX} {sm : FS → FS} {inn : Option ((FS → FS) × (FS → FS))} {n : Nat} (hs : Tyd Y sm false n) (hi : ∀ g, inn = some g → Tyd Y g.1 true (n + 1) ∧ Tyd Y g.2 true (n + 1)) : Tyd Y (unitF Y sm inn) true (n + 1) := by
  intro s h
  unfold unitF at h ⊢
  split at h
  · rename_i hk
    rw [if_pos hk]
    cases inn with
    | none => exact absurd h (fail_0 (by omega))
    | some g =>
      obtain ⟨h1, h2⟩ := tell_0 h
      obtain ⟨h3, cs, h4, h5, h6⟩ := (hi g rfl).1 _ h1
      rw [nxt_0] at h3 h4
      refine ⟨h3, cs ++ [3008], by show (tell 3008 (g.1 (nxt Y s))).2.2.2 = _; rw [h2, h4, List.append_assoc], fun c hc => (List.mem_append.mp hc).elim (h5 c) (fun z => by simp at z; rw [z]; rfl), fun t ht => ?_⟩
      rw [tyL_app, h6 t ht]
      rfl
  · rename_i hk
    rw [if_neg hk]
    split at h
    · rename_i hk2
      rw [if_pos hk2]
      cases inn with
      | none => exact absurd h (fail_0 (by omega))
      | some g =>
        obtain ⟨h1, h2⟩ := tak_0 h
        obtain ⟨h3, cs, h4, h5, h6⟩ := (hi g rfl).2 _ h1
        rw [nxt_0] at h3 h4
        exact ⟨h3, cs, by show (takK Y 28 (g.2 (nxt Y s))).2.2.2 = _; rw [h2, h4], h5, h6⟩
    · rename_i hk2
      rw [if_neg hk2]
      cases hop : opC (kd Y (sm s)) with
      | none => rw [hop] at h; exact absurd h (fail_0 (by omega))
      | some c =>
        rw [hop] at h
        obtain ⟨h1, h2⟩ := tell_0 h
        obtain ⟨h3, cs, h4, h5, h6⟩ := hs _ h1
        rw [nxt_0] at h3 h4
        obtain ⟨g3, bs, g4, g5, g6⟩ := hs s h3
        obtain ⟨o1, o3⟩ := ty_C _ _ hop
        refine ⟨g3, bs ++ cs ++ [c], ?_, ?_, fun t ht => ?_⟩
        · show (tell c (sm (nxt Y (sm s)))).2.2.2 = _
          rw [h2, h4, g4]; simp
        · intro x hx
          simp only [List.mem_append, List.mem_singleton] at hx
          rcases hx with (hx | hx) | hx
          · exact g5 x hx
          · exact h5 x hx
          · rw [hx]; exact o1
        · rw [tyL_app, tyL_app, g6 t (by omega)]
          show (match tyL cs (false :: t) with | none => none | some u => tyL [c] u) = _
          rw [h6 (false :: t) (by simp; omega)]
          show tyL [c] (false :: false :: t) = _
          simp only [tyL, o3]
theorem Tyd_truthF {Y : PX} {u : FS → FS} {n : Nat} (hu : Tyd Y u true n) : Tyd Y (truthF Y u) true (n + 2) := Tyd_seq (Tyd_seq hu ty_A) ty_O
theorem Tyd_ut {Y : PX} : ∀ k, Tyd Y (utN Y k).1 true (2 * k + 4) ∧ Tyd Y (utN Y k).2 true (2 * k + 6)
  | 0 => by
    have h : Tyd Y (unitF Y (sumN Y 0) none) true 4 := Tyd_unitF (Tyd_sum 0) (fun g h => by cases h)
    exact ⟨h, Tyd_truthF h⟩
  | k + 1 => by
    obtain ⟨a, b⟩ := Tyd_ut (Y := Y) k
    have h : Tyd Y (unitF Y (sumN Y (k + 1)) (some (utN Y k))) true (2 * (k + 1) + 4) := Tyd_unitF (n := 2 * (k + 1) + 3) (Tyd_sum (k + 1)) (fun g h => by cases h; exact ⟨Tyd_mono a (by omega), Tyd_mono b (by omega)⟩)
    exact ⟨h, Tyd_truthF h⟩

