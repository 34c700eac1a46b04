/-! ===== Reader: a line, the whole text ===== -/
theorem PO_prS {Y : PX} {F : Nat} : ∀ n S x, PO Y 0 S → PO Y 0 (prS Y F n S x).1
  | 0, _, _, h => h
  | n + 1, S, x, h => by
    rw [prS]
    split
    · exact PO_prS n _ _ (PO_tnum h)
    · exact h
theorem PO_w6 {Y : PX} {S : FS} (hp : PO Y 0 S) : PO Y 0 (w6 Y S) := by
  have p4 : PO Y 0 (w4 Y S) := PO_tnum (PO_tnum (PO_tnum (PO_nx0 hp)))
  have p5 : PO Y 0 (w5 Y S) := by
    unfold w5
    split
    · exact PO_tnum (PO_nx0 p4)
    · exact p4
  unfold w6
  split
  · exact PO_nx0 p5
  · exact p5
theorem PO_pT {Y : PX} {S : FS} {F : Nat} (hp : PO Y 0 S) : PO Y 0 (pTold Y F S).1 := by
  unfold pTold
  split
  · exact PO_prS _ _ _ (PO_tnum (PO_nx0 (PO_nx0 hp)))
  · exact PO_nx0 hp
theorem PO_r3 {Y : PX} {S : FS} {P : Nat} (hp : PO Y 0 S) : PO Y 0 (r3 Y P S) := by
  have q1 : PO Y 0 (r1 Y P S) := PO_tnum (PO_nx0 hp)
  have q2 : PO Y 0 (r2 Y P S) := by
    unfold r2
    split
    · exact PO_fl q1 (by omega)
    · exact q1
  exact PO_tnum q2
def PO1 (Y : PX) (Q : FS × LB) : Prop := PO Y 0 Q.1
theorem PO1_mk {Y : PX} {S : FS} {B : LB} (h : PO Y 0 S) : PO1 Y (S, B) := h
theorem PO_xLn {Y : PX} {S : FS} {B : LB} (hY : PxO Y) (hp : PO Y 0 S) : PO1 Y (xLn Y S B) := by
  unfold xLn
  split
  · unfold xWorld
    split
    · exact PO1_mk (PO_fl hp (by omega))
    · exact PO1_mk (PO_w6 hp)
  · split
    · unfold xFact
      split
      · exact PO1_mk (PO_fl hp (by omega))
      · exact PO1_mk ((PO_ut hY 6).2 0 _ (PO_tak hY (PO_nx0 hp) (by omega)))
    · split
      · unfold xPerson
        split
        · exact PO1_mk (PO_fl hp (by omega))
        · exact PO1_mk (PO_pT hp)
      · split
        · exact PO1_mk (PO_r3 hp)
        · split
          · exact PO1_mk (PO_tnum (PO_tnum (PO_nx0 hp)))
          · split
            · exact PO1_mk (PO_tnum (PO_nx0 hp))
            · exact PO1_mk (PO_fl hp (by omega))
theorem PO_xLine {Y : PX} {Q : FS × LB} (hY : PxO Y) (hp : PO Y 0 Q.1) : PO Y 0 (xLine Y Q).1 := PO_tak hY (PO_xLn hY hp) (by omega)
/-- the codes stay, where no fault comes -/
def kp (S S' : FS) : Prop := S'.2.1 = 0 → S'.2 = S.2
theorem kp_r (S : FS) : kp S S := fun _ => rfl
theorem kp_nxt {Y : PX} {S T : FS} (h : kp S T) : kp S (nxt Y T) := fun h0 => by rw [nxt_0] at h0 ⊢; exact h h0
theorem kp_tnum {Y : PX} {S T : FS} {a b : Nat} (h : kp S T) : kp S (tnum Y a b T) := fun h0 => by
  obtain ⟨a1, -, -, -, e⟩ := tnum_0 h0
  rw [e, nxt_0]
  exact h a1
theorem kp_fail {Y : PX} {S T : FS} {f : Nat} (hf : f ≠ 0) : kp S (fail Y f T) := fun h0 => absurd h0 (fail_0 hf)
theorem kp_tak {Y : PX} {S T : FS} {k : Nat} (h : kp S T) : kp S (takK Y k T) := fun h0 => by
  obtain ⟨a, b⟩ := tak_0 h0
  rw [b]; exact h a
theorem kp_if {S T U : FS} {c : Prop} [Decidable c] (h1 : kp S T) (h2 : kp S U) : kp S (if c then T else U) := by split <;> assumption
theorem kp_prS {Y : PX} {F : Nat} {S : FS} : ∀ n T x, kp S T → kp S (prS Y F n T x).1
  | 0, _, _, h => h
  | n + 1, T, x, h => by
    rw [prS]
    split
    · exact kp_prS n _ _ (kp_tnum h)
    · exact h
/-- what holds of a land in the making -/
def LBk (L : LD) : Prop := (0 < L.W → L.t < L.W) ∧ (L.W = 0 → L.t = 0) ∧ (∀ w, w < L.W → ∃ k : Nat, k ≤ 9 ∧ L.wt w = nI k) ∧ lo L.W L.gl ∧ (∀ p, p < L.P → lo L.F (L.told p)) ∧ (∀ f, f < 8 → lo L.F (L.hint f)) ∧ (∀ p, p < 6 → lo L.P (L.road p)) ∧ L.W ≤ 16 ∧ L.F ≤ 8 ∧ L.P ≤ 6
def LOk (Q : FS × LB) : Prop := Q.1.2.1 = 0 → LBk Q.2.1 ∧ FeOk Q.1.2.2.2 Q.2.2.2 Q.2.1.F ∧ fst0 Q.2.2.2 Q.2.1.F = Q.1.2.2.2.length
theorem lo_bit' {k j : Nat} (hj : j < k) (hk : k < 32) : lo k (bit j) := lo_bit hj hk
theorem lo_prS {Y : PX} {F : Nat} (hF : F < 32) : ∀ n T x, lo F x → (prS Y F n T x).1.2.1 = 0 → lo F (prS Y F n T x).2
  | 0, _, _, h, _ => h
  | n + 1, T, x, h, h0 => by
    rw [prS] at h0 ⊢
    split at h0
    · rename_i c
      rw [if_pos c]
      have h1 : (tnum Y 0 F T).2.1 = 0 := by
        have := kp_prS (Y := Y) (F := F) n (tnum Y 0 F T) (x ||| bit (vl Y 0 F T)) (kp_r _) h0
        rw [this] at h0; exact h0
      exact lo_prS hF n _ _ (lo_or h (lo_bit' (vl_ok h1).2 hF)) h0
    · rename_i c
      rw [if_neg c]
      exact h
theorem csF_app {a b : List Nat} : csF (a ++ b) a.length (a ++ b).length = b := by
  unfold csF
  rw [List.drop_left, List.length_append, Nat.add_sub_cancel_left, List.take_length]
theorem csF_ext {a b : List Nat} {i j : Nat} (hj : j ≤ a.length) : csF (a ++ b) i j = csF a i j := by
  unfold csF
  by_cases h : i ≤ j
  · rw [List.drop_append_of_le_length (by omega), List.take_append_of_le_length (by rw [List.length_drop]; omega)]
  · rw [show j - i = 0 by omega]; simp
theorem FeOk_add {cds cs : List Nat} {fe : Nat → Nat} {F : Nat} (h : FeOk cds fe F) (hl : fst0 fe F = cds.length) (hc : ∀ c ∈ cs, cOk c = true) (ht : tyL cs [] = some [true]) : FeOk (cds ++ cs) (fun f => if f = F then (cds ++ cs).length else fe f) (F + 1) ∧ fst0 (fun f => if f = F then (cds ++ cs).length else fe f) (F + 1) = (cds ++ cs).length := by
  have e0 : ∀ f, f ≤ F → fst0 (fun f => if f = F then (cds ++ cs).length else fe f) f = fst0 fe f := by
    intro f hf
    unfold fst0
    by_cases h0 : f = 0
    · rw [if_pos h0, if_pos h0]
    · rw [if_neg h0, if_neg h0]; exact if_neg (by omega)
  refine ⟨⟨fun c hcc => (List.mem_append.mp hcc).elim (h.1 c) (hc c), fun f hf => ?_⟩, ?_⟩
  · rw [e0 f (by omega)]
    dsimp only
    by_cases e : f = F
    · subst e
      rw [if_pos rfl, hl, csF_app]
      exact ⟨by rw [List.length_append]; omega, Nat.le_refl _, ht⟩
    · rw [if_neg e]
      obtain ⟨a1, a2, a3⟩ := h.2 f (by omega)
      refine ⟨a1, by rw [List.length_append]; omega, ?_⟩
      rw [csF_ext a2]; exact a3
  · unfold fst0
    rw [if_neg (by omega), Nat.add_sub_cancel]; exact if_pos rfl
theorem LOk_kp {S S' : FS} {B B' : LB} (h : LOk (S, B)) (hk : kp S S') (hF : B'.1.F = B.1.F) (hfe : B'.2.2 = B.2.2) (hB : S'.2.1 = 0 → LBk B.1 → LBk B'.1) : LOk (S', B') := by
  intro h0
  have e := hk h0
  have h0' : S.2.1 = 0 := by rw [← e]; exact h0
  obtain ⟨a1, a2, a3⟩ := h h0'
  refine ⟨hB h0 a1, ?_, ?_⟩
  · show FeOk S'.2.2.2 B'.2.2 B'.1.F
    rw [e, hF, hfe]; exact a2
  · show fst0 B'.2.2 B'.1.F = S'.2.2.2.length
    rw [e, hF, hfe]; exact a3
theorem LOk_world {Y : PX} {S : FS} {B : LB} (h : LOk (S, B)) : LOk (xWorld Y S B) := by
  unfold xWorld
  split
  · exact LOk_kp h (kp_fail (by omega)) rfl rfl (fun _ a => a)
  · rename_i hW
    have k4 : kp S (w4 Y S) := kp_tnum (kp_tnum (kp_tnum (kp_nxt (kp_r S))))
    have k5 : kp S (w5 Y S) := kp_if (kp_tnum (kp_nxt k4)) k4
    have k6 : kp S (w6 Y S) := kp_if (kp_nxt k5) k5
    refine LOk_kp h k6 rfl rfl (fun h0 a => ?_)
    obtain ⟨b1, b2, b3, b4, b5, b6, b7, b8, b9, b10⟩ := a
    have h5 := w5_0 h0
    refine ⟨fun _ => ?_, fun z => absurd z (Nat.succ_ne_zero _), ?_, ?_, b5, b6, b7, by show B.1.W + 1 ≤ 16; omega, b9, b10⟩
    · show B.1.t < B.1.W + 1
      rcases Nat.eq_zero_or_pos B.1.W with q | q
      · have := b2 q; omega
      · have := b1 q; omega
    · intro w hw
      have hw' : w < B.1.W + 1 := hw
      show ∃ k : Nat, k ≤ 9 ∧ (if w = B.1.W then nI (wW Y S) else B.1.wt w) = nI k
      by_cases e : w = B.1.W
      · refine ⟨wW Y S, ?_, by rw [if_pos e]⟩
        unfold wW
        unfold w5 at h5
        split
        · rename_i c
          rw [if_pos c] at h5
          have := (vl_ok h5).2
          omega
        · omega
      · obtain ⟨k, hk, he⟩ := b3 w (by omega)
        exact ⟨k, hk, by rw [if_neg e]; exact he⟩
    · show lo (B.1.W + 1) (bWorld Y S B).1.gl
      unfold bWorld
      dsimp only [LD.gl]
      by_cases c : kd Y (w5 Y S) = 2
      · rw [if_pos c]; exact lo_or (lo_mono b4 (by omega)) (lo_bit' (by omega) (by omega))
      · rw [if_neg c]; exact lo_mono b4 (by omega)
theorem LOk_fact {Y : PX} {S : FS} {B : LB} (h : LOk (S, B)) : LOk (xFact Y S B) := by
  unfold xFact
  split
  · exact LOk_kp h (kp_fail (by omega)) rfl rfl (fun _ a => a)
  · rename_i hF
    intro h0
    obtain ⟨t1, cs, t2, t3, t4⟩ := (Tyd_ut (Y := Y) 6).2 _ h0
    have e := kp_tak (Y := Y) (k := 21) (kp_nxt (Y := Y) (kp_r S)) t1
    have hS : S.2.1 = 0 := by rw [e] at t1; exact t1
    obtain ⟨⟨b1, b2, b3, b4, b5, b6, b7, b8, b9, b10⟩, a2, a3⟩ := h hS
    have e2 : ((utN Y 6).2 (takK Y 21 (nxt Y S))).2.2.2 = S.2.2.2 ++ cs := by rw [t2, e]
    obtain ⟨c1, c2⟩ := FeOk_add a2 a3 t3 (t4 [] (by simp))
    refine ⟨⟨b1, b2, b3, b4, fun p hp => lo_mono (b5 p hp) (by show B.1.F ≤ B.1.F + 1; omega), fun f hf => lo_mono (b6 f hf) (by show B.1.F ≤ B.1.F + 1; omega), b7, b8, by show B.1.F + 1 ≤ 8; omega, b10⟩, ?_, ?_⟩
    · show FeOk ((utN Y 6).2 (takK Y 21 (nxt Y S))).2.2.2 (fun f => if f = B.1.F then ((utN Y 6).2 (takK Y 21 (nxt Y S))).2.2.2.length else B.2.2 f) (B.1.F + 1)
      rw [e2]; exact c1
    · show fst0 (fun f => if f = B.1.F then ((utN Y 6).2 (takK Y 21 (nxt Y S))).2.2.2.length else B.2.2 f) (B.1.F + 1) = ((utN Y 6).2 (takK Y 21 (nxt Y S))).2.2.2.length
      rw [e2]; exact c2
theorem LOk_person {Y : PX} {S : FS} {B : LB} (h : LOk (S, B)) : LOk (xPerson Y S B) := by
  unfold xPerson
  split
  · exact LOk_kp h (kp_fail (by omega)) rfl rfl (fun _ a => a)
  · rename_i hP
    have k1 : kp S (nxt Y S) := kp_nxt (kp_r S)
    have kt : kp S (pTold Y B.1.F S).1 := by
      unfold pTold
      split
      · exact kp_prS _ _ _ (kp_tnum (kp_nxt k1))
      · exact k1
    refine LOk_kp h kt rfl rfl (fun h0 a => ?_)
    obtain ⟨b1, b2, b3, b4, b5, b6, b7, b8, b9, b10⟩ := a
    refine ⟨b1, b2, b3, b4, ?_, b6, fun p hp => lo_mono (b7 p hp) (by show B.1.P ≤ B.1.P + 1; omega), b8, b9, by show B.1.P + 1 ≤ 6; omega⟩
    intro p hp
    have hp' : p < B.1.P + 1 := hp
    show lo B.1.F (if p = B.1.P then (pTold Y B.1.F S).2 else B.1.told p)
    by_cases e : p = B.1.P
    · rw [if_pos e]
      have h0' : (pTold Y B.1.F S).1.2.1 = 0 := h0
      unfold pTold at h0' ⊢
      by_cases c : kd Y (nxt Y S) = 5
      · rw [if_pos c] at h0' ⊢
        refine lo_prS (by omega) _ _ _ ?_ h0'
        have h1 : (tnum Y 0 B.1.F (nxt Y (nxt Y S))).2.1 = 0 := by
          have := kp_prS (Y := Y) (F := B.1.F) 900 (tnum Y 0 B.1.F (nxt Y (nxt Y S))) (bit (vl Y 0 B.1.F (nxt Y (nxt Y S)))) (kp_r _) h0'
          rw [this] at h0'; exact h0'
        exact lo_bit' (vl_ok h1).2 (by omega)
      · rw [if_neg c]; exact lo_0 _
    · rw [if_neg e]; exact b5 p (by omega)
theorem LOk_road {Y : PX} {S : FS} {B : LB} (h : LOk (S, B)) : LOk (xRoad Y S B) := by
  have k1 : kp S (r1 Y B.1.P S) := kp_tnum (kp_nxt (kp_r S))
  have k2 : kp S (r2 Y B.1.P S) := kp_if (kp_fail (by omega)) k1
  refine LOk_kp h (kp_tnum k2) rfl rfl (fun h0 a => ?_)
  obtain ⟨b1, b2, b3, b4, b5, b6, b7, b8, b9, b10⟩ := a
  have h0' : (r3 Y B.1.P S).2.1 = 0 := h0
  obtain ⟨v1, v2, v3⟩ := r3_0 h0'
  refine ⟨b1, b2, b3, b4, b5, b6, ?_, b8, b9, b10⟩
  intro p hp
  show lo B.1.P (if p = vl Y 0 B.1.P (r2 Y B.1.P S) then B.1.road p ||| bit (vl Y 0 B.1.P (nxt Y S)) else if p = vl Y 0 B.1.P (nxt Y S) then B.1.road p ||| bit (vl Y 0 B.1.P (r2 Y B.1.P S)) else B.1.road p)
  split
  · exact lo_or (b7 p hp) (lo_bit' v1 (by omega))
  · split
    · exact lo_or (b7 p hp) (lo_bit' v2 (by omega))
    · exact b7 p hp
theorem LOk_hint {Y : PX} {S : FS} {B : LB} (h : LOk (S, B)) : LOk (xHint Y S B) := by
  refine LOk_kp h (kp_tnum (kp_tnum (kp_nxt (kp_r S)))) rfl rfl (fun h0 a => ?_)
  obtain ⟨b1, b2, b3, b4, b5, b6, b7, b8, b9, b10⟩ := a
  have h0' : (tnum Y 0 B.1.F (h1 Y B.1.F S)).2.1 = 0 := h0
  refine ⟨b1, b2, b3, b4, b5, ?_, b7, b8, b9, b10⟩
  intro f hf
  show lo B.1.F (if f = vl Y 0 B.1.F (nxt Y S) then B.1.hint f ||| bit (vl Y 0 B.1.F (h1 Y B.1.F S)) else B.1.hint f)
  split
  · exact lo_or (b6 f hf) (lo_bit' (vl_ok h0').2 (by omega))
  · exact b6 f hf
theorem LOk_true {Y : PX} {S : FS} {B : LB} (h : LOk (S, B)) : LOk (xTrue Y S B) := by
  refine LOk_kp h (kp_tnum (kp_nxt (kp_r S))) rfl rfl (fun h0 a => ?_)
  obtain ⟨b1, b2, b3, b4, b5, b6, b7, b8, b9, b10⟩ := a
  have h0' : (tnum Y 0 B.1.W (nxt Y S)).2.1 = 0 := h0
  have v := (vl_ok h0').2
  refine ⟨fun _ => v, fun z => ?_, b3, b4, b5, b6, b7, b8, b9, b10⟩
  have z' : B.1.W = 0 := z
  omega
theorem LOk_ln {Y : PX} {S : FS} {B : LB} (h : LOk (S, B)) : LOk (xLn Y S B) := by
  unfold xLn
  split
  · exact LOk_world h
  · split
    · exact LOk_fact h
    · split
      · exact LOk_person h
      · split
        · exact LOk_road h
        · split
          · exact LOk_hint h
          · split
            · exact LOk_true h
            · exact LOk_kp h (kp_fail (by omega)) rfl rfl (fun _ a => a)
theorem LOk_line {Y : PX} {Q : FS × LB} (h : LOk Q) : LOk (xLine Y Q) :=
  LOk_kp (S := (xLn Y Q.1 Q.2).1) (B := (xLn Y Q.1 Q.2).2) (LOk_ln (S := Q.1) (B := Q.2) h) (kp_tak (kp_r _)) rfl rfl (fun _ a => a)
theorem LOk_all {Y : PX} : ∀ n Q, LOk Q → LOk (xAll Y n Q)
  | 0, _, h => h
  | n + 1, Q, h => by
    rw [xAll]
    split
    · exact h
    · exact LOk_all n _ (LOk_line h)
def B0 : LB := (((0, 0, 0, 0), (fun _ => nI 0, fun _ => nI 0, fun _ => nI 0, fun _ => nI 0, fun _ => nI 0, nI 0, fun _ => nI 0)), 0, fun _ => 0)
def Q0 : FS × LB := ((0, 0, 0, []), B0)
theorem LOk_0 : LOk Q0 := fun _ => ⟨⟨fun h => absurd h (Nat.lt_irrefl 0), fun _ => rfl, fun w hw => absurd hw (Nat.not_lt_zero w), lo_0 0, fun w hw => absurd hw (Nat.not_lt_zero w), fun _ _ => lo_0 0, fun _ _ => lo_0 0, Nat.zero_le _, Nat.zero_le _, Nat.zero_le _⟩, ⟨fun c hc => absurd hc (by simp [Q0]), fun f hf => absurd hf (Nat.not_lt_zero f)⟩, rfl⟩
/-! what a fact's codes come to depends on the world's own numbers -/
theorem evL_cg {L L' : LD} {w : Nat} (h : ∀ k, isAt k = true → wdV L w k = wdV L' w k) : ∀ (cs : List Nat) (st : List Int32), (∀ c ∈ cs, cOk c = true) → evL L w cs st = evL L' w cs st
  | [], _, _ => rfl
  | c :: cs, st, hc => by
    rw [evL, evL]
    have e : evS L w c st = evS L' w c st := by
      unfold evS
      by_cases h1 : c < 1000
      · rw [if_pos h1, if_pos h1]
      · rw [if_neg h1, if_neg h1]
        by_cases h2 : c < 3000
        · rw [if_pos h2, if_pos h2]
          have h3 := hc c (by simp)
          rw [cOk, decide_eq_false h1, decide_eq_false (show ¬ 3000 ≤ c by omega)] at h3
          simp only [Bool.false_or, Bool.false_and, Bool.or_false, Bool.and_eq_true] at h3
          rw [h _ h3.2]
        · rw [if_neg h2, if_neg h2]
    rw [e]
    exact evL_cg h cs _ (fun x hx => hc x (by simp [hx]))
theorem hdF_cg {L L' : LD} {cds : List Nat} {a e : Nat} (hc : ∀ c ∈ cds, cOk c = true) : ∀ W, (∀ w, w < W → ∀ k, isAt k = true → wdV L w k = wdV L' w k) → hdF L cds a e W = hdF L' cds a e W
  | 0, _ => rfl
  | W + 1, h => by
    rw [hdF, hdF, hdF_cg hc W (fun w hw => h w (by omega)), evL_cg (h W (by omega)) (csF cds a e) [] (fun c hcc => hc c (List.mem_of_mem_drop (List.mem_of_mem_take hcc)))]
theorem lk_ln : ∀ k, k < 32 → k ≠ 19 → (k = 0 ∨ k = 3 ∨ k = 4 ∨ k = 6 ∨ k = 7 ∨ k = 8) ∨ ((nI (cK k)).toInt < 101 ∨ 109 < (nI (cK k)).toInt ∨ k = 1 ∨ k = 2 ∨ k = 5) := by decide +kernel
set_option maxHeartbeats 4000000 in
theorem c_readLine {G : GT} {d : Nat} {σ : ST} {μ : SL} {Y : PX} {S : FS} {B : LB} (hY : PxO Y) (hR : RF σ Y S) (hp : PO Y 0 S) (hB : RLd σ B) : Fn G (d + 28) mX5_readLine [.ref (G.b0 + 2)] (sh G σ μ) (PLn G μ σ Y (xLine Y (S, B))) := by
  refine fn_of (ls := [some (.ref (G.b0 + 2))]) (by decide +kernel) (Nat.le_of_ble_eq_true rfl) 0 rfl ?_
  refine b_aload_n dX5_readLine_0 rfl ?_
  refine g_callV [] dX5_readLine_1 kX5_kind lX5_58 a2 rfl rfl (c_kind hY hR hp) rfl rfl (Nat.le_of_ble_eq_true rfl) ?_
  have fin : ∀ s : ST, (∀ c, ¬ kL c → s c = σ c) → RF s Y (xLn Y S B).1 → ((xLn Y S B).1.2.1 = 0 → RLd s (xLn Y S B).2) → BB G RX5 cX5_readLine 1 none (d + 28) (QM G (PLn G μ σ Y (xLine Y (S, B)))) 124 [some (.ref (G.b0 + 2))] [] (sh G s μ) := by
    intro s hk hRs hz
    refine b_aload_n dX5_readLine_124 rfl ?_
    refine b_bipush (v := nI 59) dX5_readLine_125 (by decide) ?_
    refine g_callVp [.int (nI 59)] dX5_readLine_127 kX5_take lX5_114 a2 rfl rfl (c_take (k := 20) hY hRs (PO_xLn hY hp) (by omega) (by omega)) rfl rfl (Nat.le_of_ble_eq_true rfl) ?_
    rintro r h9 ⟨rfl, s2, rfl, hs2, hR2⟩
    refine b_aload_n dX5_readLine_130 rfl ?_
    refine g_get dX5_readLine_131 fX5_28 a2 rfl ?_
    refine b_dup dX5_readLine_134 rfl ?_
    refine g_get dX5_readLine_135 fX5_117 a11 rfl ?_
    refine b_iconst (v := nI 1) dX5_readLine_138 (by decide) ?_
    refine b_iadd dX5_readLine_139 ?_
    refine g_put dX5_readLine_140 wX5_117 a11 tfX2_9 (Nat.le_of_ble_eq_true rfl) rfl ?_
    refine b_vret dX5_readLine_143 (PLn_mk (kL_p (kL_t hk hs2) (by unfold kL; omega)) (RF_pt hR2 (by omega)) (fun h0 => ?_))
    obtain ⟨g0, g1, g2, g3, g4, g5, g6, g7, g8, g9⟩ := RLd_of (hz (tak_0 h0).1) (kR_9 hs2)
    refine ⟨⟨by rw [pt_j (by omega)]; exact g0.1, by rw [pt_j (by omega)]; exact g0.2.1, by rw [pt_j (by omega)]; exact g0.2.2.1, g0.2.2.2⟩, by rw [pt_j (by omega)]; exact g1, ?_, ?_, ?_, ?_, ?_, ?_, ?_, ?_⟩
    · rw [pt_s, show s2 (2 + 9) 9 = _ from g2]; exact nI_1 _
    · rw [pt_a (by omega)]; exact g3
    · intro j hj; rw [pt_a (by omega)]; exact g4 j hj
    · intro j hj; rw [pt_a (by omega)]; exact g5 j hj
    · intro j hj; rw [pt_a (by omega)]; exact g6 j hj
    · intro j hj; rw [pt_a (by omega)]; exact g7 j hj
    · intro j hj; rw [pt_a (by omega)]; exact g8 j hj
    · intro j hj; rw [pt_a (by omega)]; exact g9 j hj
  obtain ⟨k1, k2⟩ := kd_ok Y S
  by_cases c0 : kd Y S = 0
  · have ex : xLn Y S B = xWorld Y S B := by unfold xLn; rw [if_pos c0]
    refine b_tableIn 56 dX5_readLine_4 (by rw [c0]; decide) (by rw [c0]; decide) (by rw [c0]; rfl) (by decide) ?_
    refine b_aload_n dX5_readLine_56 rfl ?_
    refine g_callVp [] dX5_readLine_57 kX5_readWorld lX5_89 a2 rfl rfl (c_readWorld (d := d + 25) hY hR hp hB) rfl rfl (Nat.le_of_ble_eq_true rfl) ?_
    rintro r h9 ⟨rfl, s1, rfl, hs1, hR1, hB1⟩
    refine b_goto 124 dX5_readLine_60 (by decide) ?_
    exact fin s1 hs1 (by rw [ex]; exact hR1) (by rw [ex]; exact hB1)
  by_cases c3 : kd Y S = 3
  · have ex : xLn Y S B = xFact Y S B := by unfold xLn; rw [if_neg c0, if_pos c3]
    refine b_tableIn 63 dX5_readLine_4 (by rw [c3]; decide) (by rw [c3]; decide) (by rw [c3]; rfl) (by decide) ?_
    refine b_aload_n dX5_readLine_63 rfl ?_
    refine g_callVp [] dX5_readLine_64 kX5_readFact lX5_92 a2 rfl rfl (c_readFact (d := d) hY hR hp hB) rfl rfl (Nat.le_of_ble_eq_true rfl) ?_
    rintro r h9 ⟨rfl, s1, rfl, hs1, hR1, hB1⟩
    refine b_goto 124 dX5_readLine_67 (by decide) ?_
    exact fin s1 hs1 (by rw [ex]; exact hR1) (by rw [ex]; exact hB1)
  by_cases c4 : kd Y S = 4
  · have ex : xLn Y S B = xPerson Y S B := by unfold xLn; rw [if_neg c0, if_neg c3, if_pos c4]
    refine b_tableIn 70 dX5_readLine_4 (by rw [c4]; decide) (by rw [c4]; decide) (by rw [c4]; rfl) (by decide) ?_
    refine b_aload_n dX5_readLine_70 rfl ?_
    refine g_callVp [] dX5_readLine_71 kX5_readPerson lX5_95 a2 rfl rfl (c_readPerson (d := d + 25) hY hR hp hB) rfl rfl (Nat.le_of_ble_eq_true rfl) ?_
    rintro r h9 ⟨rfl, s1, rfl, hs1, hR1, hB1⟩
    refine b_goto 124 dX5_readLine_74 (by decide) ?_
    exact fin s1 hs1 (by rw [ex]; exact hR1) (by rw [ex]; exact hB1)
  by_cases c6 : kd Y S = 6
  · have ex : xLn Y S B = xRoad Y S B := by unfold xLn; rw [if_neg c0, if_neg c3, if_neg c4, if_pos c6]
    refine b_tableIn 77 dX5_readLine_4 (by rw [c6]; decide) (by rw [c6]; decide) (by rw [c6]; rfl) (by decide) ?_
    refine b_aload_n dX5_readLine_77 rfl ?_
    refine g_callVp [] dX5_readLine_78 kX5_readRoad lX5_98 a2 rfl rfl (c_readRoad (d := d + 25) hY hR hp hB) rfl rfl (Nat.le_of_ble_eq_true rfl) ?_
    rintro r h9 ⟨rfl, s1, rfl, hs1, hR1, hB1⟩
    refine b_goto 124 dX5_readLine_81 (by decide) ?_
    exact fin s1 hs1 (by rw [ex]; exact hR1) (by rw [ex]; exact hB1)
  by_cases c7 : kd Y S = 7
  · have ex : xLn Y S B = xHint Y S B := by unfold xLn; rw [if_neg c0, if_neg c3, if_neg c4, if_neg c6, if_pos c7]
    refine b_tableIn 84 dX5_readLine_4 (by rw [c7]; decide) (by rw [c7]; decide) (by rw [c7]; rfl) (by decide) ?_
    refine b_aload_n dX5_readLine_84 rfl ?_
    refine g_callVp [] dX5_readLine_85 kX5_readHint lX5_101 a2 rfl rfl (c_readHint (d := d + 25) hY hR hp hB) rfl rfl (Nat.le_of_ble_eq_true rfl) ?_
    rintro r h9 ⟨rfl, s1, rfl, hs1, hR1, hB1⟩
    refine b_goto 124 dX5_readLine_88 (by decide) ?_
    exact fin s1 hs1 (by rw [ex]; exact hR1) (by rw [ex]; exact hB1)
  by_cases c8 : kd Y S = 8
  · have ex : xLn Y S B = xTrue Y S B := by unfold xLn; rw [if_neg c0, if_neg c3, if_neg c4, if_neg c6, if_neg c7, if_pos c8]
    obtain ⟨⟨hW, hF, hP, hW16, hF8, hP6⟩, g1, g2, g3, g4, g5, g6, g7, g8, g9⟩ := id hB
    obtain ⟨W, hWe⟩ : ∃ W, B.1.W = W := ⟨_, rfl⟩
    rw [hWe] at hW hW16
    refine b_tableIn 91 dX5_readLine_4 (by rw [c8]; decide) (by rw [c8]; decide) (by rw [c8]; rfl) (by decide) ?_
    refine b_aload_n dX5_readLine_91 rfl ?_
    refine g_callVp [] dX5_readLine_92 kX5_goOn lX5_79 a2 rfl rfl (c_goOn hY hR hp) rfl rfl (Nat.le_of_ble_eq_true rfl) ?_
    rintro r h9 ⟨rfl, s1, rfl, hs1, hR1⟩
    refine b_aload_n dX5_readLine_95 rfl ?_
    refine g_get dX5_readLine_96 fX5_35 a2 rfl ?_
    refine b_aload_n dX5_readLine_99 rfl ?_
    refine b_iconst (v := nI 0) dX5_readLine_100 (by decide) ?_
    refine b_aload_n dX5_readLine_101 rfl ?_
    refine g_get dX5_readLine_102 fX5_28 a2 rfl ?_
    refine g_geti (x := nI W) dX5_readLine_105 fX5_104 a11 rfl (by rw [hs1 11 (by unfold kR; omega)]; exact hW) ?_
    refine b_iconst (v := nI 1) dX5_readLine_108 (by decide) ?_
    refine b_isub dX5_readLine_109 ?_
    refine g_callVp [.int (nI 0), .int ((nI W) - (nI 1))] dX5_readLine_110 kX5_takeNumber lX5_107 a2 rfl rfl (c_takeN (zh := W) hY hR1 (PO_nx0 hp) (by omega) (by omega) rfl) rfl rfl (Nat.le_of_ble_eq_true rfl) ?_
    rintro r h9 ⟨rfl, s2, rfl, hs2, hR2⟩
    have k3 := kR_t hs1 hs2
    refine g_put dX5_readLine_113 wX5_111 a17 tfX8_2 (Nat.le_of_ble_eq_true rfl) rfl ?_
    refine b_goto 124 dX5_readLine_116 (by decide) ?_
    refine fin _ (kL_p (kL_s k3) (by unfold kL; omega)) (by rw [ex]; unfold xTrue; rw [hWe]; exact RF_pt hR2 (by omega)) (fun h0 => ?_)
    rw [ex]
    unfold xTrue
    have e := fun c (hc : ¬ kR c) => k3 c hc
    refine ⟨⟨?_, ?_, ?_, by show B.1.W ≤ 16; omega, hF8, hP6⟩, ?_, ?_, ?_, ?_, ?_, ?_, ?_, ?_, ?_⟩
    · rw [pt_a (by omega), e 11 (by unfold kR; omega)]; show _ = nI B.1.W; rw [hWe]; exact hW
    · rw [pt_a (by omega), e 11 (by unfold kR; omega)]; exact hF
    · rw [pt_a (by omega), e 11 (by unfold kR; omega)]; exact hP
    · rw [pt_a (by omega), e 11 (by unfold kR; omega)]; exact g1
    · rw [pt_a (by omega), e 11 (by unfold kR; omega)]; exact g2
    · rw [pt_s]; show _ = nI (vl Y 0 B.1.W (nxt Y S)); rw [hWe]
    · intro j hj; rw [pt_a (by omega), e 12 (by unfold kR; omega)]; exact g4 j hj
    · intro j hj; rw [pt_a (by omega), e 13 (by unfold kR; omega)]; exact g5 j hj
    · intro j hj; rw [pt_a (by omega), e 18 (by unfold kR; omega)]; exact g6 j hj
    · intro j hj; rw [pt_a (by omega), e 16 (by unfold kR; omega)]; exact g7 j hj
    · intro j hj; rw [pt_a (by omega), e 15 (by unfold kR; omega)]; exact g8 j hj
    · intro j hj; rw [pt_a (by omega), e 9 (by unfold kR; omega)]; exact g9 j hj
  have ex : xLn Y S B = (fail Y 2 S, B) := by unfold xLn; rw [if_neg c0, if_neg c3, if_neg c4, if_neg c6, if_neg c7, if_neg c8]
  have rf : BB G RX5 cX5_readLine 1 none (d + 28) (QM G (PLn G μ σ Y (xLine Y (S, B)))) 119 [some (.ref (G.b0 + 2))] [] (sh G σ μ) := by
    refine b_aload_n dX5_readLine_119 rfl ?_
    refine b_iconst (v := nI 2) dX5_readLine_120 (by decide) ?_
    refine g_callVp [.int (nI 2)] dX5_readLine_121 kX5_refuse lX5_82 a2 rfl rfl (c_refuse (f := 2) hY hR hp (by omega) (by omega)) rfl rfl (Nat.le_of_ble_eq_true rfl) ?_
    rintro r h9 ⟨rfl, s1, rfl, hs1, hR1⟩
    exact fin s1 (kL_s hs1) (by rw [ex]; exact hR1) (by rw [ex]; exact fun hz => absurd hz (fail_0 (by omega)))
  rcases lk_ln _ k1 k2 with h | h | h | h | h | h
  · omega
  · exact b_tableOut 119 dX5_readLine_4 (Or.inl h) (by decide) rf
  · exact b_tableOut 119 dX5_readLine_4 (Or.inr h) (by decide) rf
  · exact b_tableIn 119 dX5_readLine_4 (by rw [h]; decide) (by rw [h]; decide) (by rw [h]; rfl) (by decide) rf
  · exact b_tableIn 119 dX5_readLine_4 (by rw [h]; decide) (by rw [h]; decide) (by rw [h]; rfl) (by decide) rf
  · exact b_tableIn 119 dX5_readLine_4 (by rw [h]; decide) (by rw [h]; decide) (by rw [h]; rfl) (by decide) rf

