/-! ===== Reader: lines. The spec of both sides ===== -/
theorem pt_row (s : ST) (a j : Nat) (x : Int32) : pt s a j x a = upd (s a) j x := by
  funext q
  by_cases h : q = j <;> simp [pt, upd, h]
/-- the number that is read; the least where it is refused -/
def vl (Y : PX) (lw zh : Nat) (S : FS) : Nat := if (tnum Y lw zh S).2.1 = 0 then tV Y.1 S.1 else lw
theorem tnum_0 {Y : PX} {lw zh : Nat} {S : FS} (h : (tnum Y lw zh S).2.1 = 0) : S.2.1 = 0 ∧ kd Y S = 16 ∧ lw ≤ tV Y.1 S.1 ∧ tV Y.1 S.1 < zh ∧ tnum Y lw zh S = nxt Y S := by
  unfold tnum at h ⊢
  by_cases h1 : kd Y S = 16
  · rw [if_pos h1] at h ⊢
    by_cases h2 : lw ≤ tV Y.1 S.1 ∧ tV Y.1 S.1 < zh
    · rw [if_pos h2] at h ⊢
      rw [nxt_0] at h
      exact ⟨h, h1, h2.1, h2.2, rfl⟩
    · rw [if_neg h2] at h
      exact absurd h (fail_0 (by omega))
  · rw [if_neg h1] at h
    exact absurd h (fail_0 (by omega))
theorem vl_0 {Y : PX} {lw zh : Nat} {S : FS} (h : (tnum Y lw zh S).2.1 = 0) : vl Y lw zh S = tV Y.1 S.1 := by unfold vl; rw [if_pos h]
theorem vl_ok {Y : PX} {lw zh : Nat} {S : FS} (h : (tnum Y lw zh S).2.1 = 0) : lw ≤ vl Y lw zh S ∧ vl Y lw zh S < zh := by
  rw [vl_0 h]; exact ⟨(tnum_0 h).2.2.1, (tnum_0 h).2.2.2.1⟩
theorem vl_lt {Y : PX} {lw zh n : Nat} {S : FS} (hz : zh ≤ n) (hl : lw < n) : vl Y lw zh S < n := by
  by_cases h : (tnum Y lw zh S).2.1 = 0
  · have := (vl_ok h).2; omega
  · unfold vl; rw [if_neg h]; exact hl
theorem PO_nx0 {Y : PX} {S : FS} (hp : PO Y 0 S) : PO Y 0 (nxt Y S) := by
  unfold nxt
  split
  · rename_i h
    intro _
    have := (hp h.1).2
    exact ⟨h.2, by show S.2.2.2.length + 0 ≤ S.1 + 1; omega⟩
  · exact hp
theorem PO_tnum {Y : PX} {S : FS} {lw zh : Nat} (hp : PO Y 0 S) : PO Y 0 (tnum Y lw zh S) := by
  unfold tnum
  split
  · split
    · exact PO_nx0 hp
    · exact PO_fl hp (by omega)
  · exact PO_fl hp (by omega)
abbrev LB : Type := LD × Nat × (Nat → Nat)
def w2 (Y : PX) (S : FS) : FS := tnum Y 0 100 (nxt Y S)
def w3 (Y : PX) (S : FS) : FS := tnum Y 0 100 (w2 Y S)
def w4 (Y : PX) (S : FS) : FS := tnum Y 0 100 (w3 Y S)
def w5 (Y : PX) (S : FS) : FS := if kd Y (w4 Y S) = 1 then tnum Y 1 10 (nxt Y (w4 Y S)) else w4 Y S
def w6 (Y : PX) (S : FS) : FS := if kd Y (w5 Y S) = 2 then nxt Y (w5 Y S) else w5 Y S
def wV (Y : PX) (S : FS) (k : Nat) : Nat := if k = 0 then vl Y 0 100 (nxt Y S) else if k = 1 then vl Y 0 100 (w2 Y S) else vl Y 0 100 (w3 Y S)
def wW (Y : PX) (S : FS) : Nat := if kd Y (w4 Y S) = 1 then vl Y 1 10 (nxt Y (w4 Y S)) else 1
def bit (k : Nat) : Int32 := nI 1 <<< (nI k &&& 31)
def bWorld (Y : PX) (S : FS) (B : LB) : LB :=
  (((B.1.W + 1, B.1.F, B.1.P, B.1.t), ((fun j => if j < 3 * B.1.W then B.1.num j else nI (wV Y S (j - 3 * B.1.W))), (fun w => if w = B.1.W then nI (wW Y S) else B.1.wt w), B.1.hold, B.1.hint, B.1.road, (if kd Y (w5 Y S) = 2 then B.1.gl ||| bit B.1.W else B.1.gl), B.1.told)), B.2)
def xWorld (Y : PX) (S : FS) (B : LB) : FS × LB := if 16 ≤ B.1.W then (fail Y 4 S, B) else (w6 Y S, bWorld Y S B)
def xFact (Y : PX) (S : FS) (B : LB) : FS × LB := if 8 ≤ B.1.F then (fail Y 4 S, B) else
  ((utN Y 6).2 (takK Y 21 (nxt Y S)), (((B.1.W, B.1.F + 1, B.1.P, B.1.t), B.1.2), B.2.1, fun f => if f = B.1.F then ((utN Y 6).2 (takK Y 21 (nxt Y S))).2.2.2.length else B.2.2 f))
/-- the numbers of a person's line -/
def prS (Y : PX) (F : Nat) : Nat → FS → Int32 → FS × Int32
  | 0, S, x => (S, x)
  | n + 1, S, x => if kd Y S = 16 then prS Y F n (tnum Y 0 F S) (x ||| bit (vl Y 0 F S)) else (S, x)
def pTold (Y : PX) (F : Nat) (S : FS) : FS × Int32 := if kd Y (nxt Y S) = 5 then prS Y F 900 (tnum Y 0 F (nxt Y (nxt Y S))) (bit (vl Y 0 F (nxt Y (nxt Y S)))) else (nxt Y S, nI 0)
def xPerson (Y : PX) (S : FS) (B : LB) : FS × LB := if 6 ≤ B.1.P then (fail Y 4 S, B) else
  ((pTold Y B.1.F S).1, (((B.1.W, B.1.F, B.1.P + 1, B.1.t), (B.1.num, B.1.wt, B.1.hold, B.1.hint, B.1.road, B.1.gl, fun p => if p = B.1.P then (pTold Y B.1.F S).2 else B.1.told p)), B.2))
def r1 (Y : PX) (P : Nat) (S : FS) : FS := tnum Y 0 P (nxt Y S)
def r2 (Y : PX) (P : Nat) (S : FS) : FS := if kd Y (r1 Y P S) = 16 ∧ tV Y.1 (r1 Y P S).1 = vl Y 0 P (nxt Y S) then fail Y 3 (r1 Y P S) else r1 Y P S
def r3 (Y : PX) (P : Nat) (S : FS) : FS := tnum Y 0 P (r2 Y P S)
def xRoad (Y : PX) (S : FS) (B : LB) : FS × LB :=
  (r3 Y B.1.P S, (((B.1.W, B.1.F, B.1.P, B.1.t), (B.1.num, B.1.wt, B.1.hold, B.1.hint, (fun p => if p = vl Y 0 B.1.P (r2 Y B.1.P S) then B.1.road p ||| bit (vl Y 0 B.1.P (nxt Y S)) else if p = vl Y 0 B.1.P (nxt Y S) then B.1.road p ||| bit (vl Y 0 B.1.P (r2 Y B.1.P S)) else B.1.road p), B.1.gl, B.1.told)), B.2))
def h1 (Y : PX) (F : Nat) (S : FS) : FS := tnum Y 0 F (nxt Y S)
def xHint (Y : PX) (S : FS) (B : LB) : FS × LB :=
  (tnum Y 0 B.1.F (h1 Y B.1.F S), (((B.1.W, B.1.F, B.1.P, B.1.t), (B.1.num, B.1.wt, B.1.hold, (fun f => if f = vl Y 0 B.1.F (nxt Y S) then B.1.hint f ||| bit (vl Y 0 B.1.F (h1 Y B.1.F S)) else B.1.hint f), B.1.road, B.1.gl, B.1.told)), B.2))
def xTrue (Y : PX) (S : FS) (B : LB) : FS × LB := (tnum Y 0 B.1.W (nxt Y S), (((B.1.W, B.1.F, B.1.P, vl Y 0 B.1.W (nxt Y S)), B.1.2), B.2))
def xLn (Y : PX) (S : FS) (B : LB) : FS × LB :=
  if kd Y S = 0 then xWorld Y S B else if kd Y S = 3 then xFact Y S B else if kd Y S = 4 then xPerson Y S B else if kd Y S = 6 then xRoad Y S B else if kd Y S = 7 then xHint Y S B else if kd Y S = 8 then xTrue Y S B else (fail Y 2 S, B)
def xLine (Y : PX) (Q : FS × LB) : FS × LB := (takK Y 20 (xLn Y Q.1 Q.2).1, ((xLn Y Q.1 Q.2).2.1, (xLn Y Q.1 Q.2).2.2.1 + 1, (xLn Y Q.1 Q.2).2.2.2))
def xAll (Y : PX) : Nat → FS × LB → FS × LB
  | 0, Q => Q
  | n + 1, Q => if kd Y Q.1 = 17 then Q else xAll Y n (xLine Y Q)
/-! ===== the class ===== -/
theorem c_takeN {G : GT} {d : Nat} {σ : ST} {μ : SL} {Y : PX} {S : FS} {lw zh : Nat} {hi : Int32} (hY : PxO Y) (hR : RF σ Y S) (hp : PO Y 0 S) (hz : zh < 200) (hl : lw < 10) (hh : hi = nI zh - 1) : Fn G (d + 1) mX5_takeNumber [.ref (G.b0 + 2), .int (nI lw), .int hi] (sh G σ μ) (PRd G μ σ Y (tnum Y lw zh S) (some (.int (nI (vl Y lw zh S))))) := by
  refine Fn.mono (c_takeNumber hY hR hp hz hl hh) ?_
  rintro r g ⟨h1, h2⟩
  refine ⟨?_, h2⟩
  rw [h1]
  unfold vl
  split <;> rfl
/-- the class's reader holds a land in the making -/
def RLd (s : ST) (B : LB) : Prop := LV s 11 B.1.W B.1.F B.1.P ∧ s 11 5 = B.1.gl ∧ s 11 9 = nI B.2.1 ∧ s 17 2 = nI B.1.t ∧ (∀ j, j < 3 * B.1.W → s 12 j = B.1.num j) ∧ (∀ w, w < B.1.W → s 13 w = B.1.wt w) ∧ (∀ p, p < 6 → s 18 p = if p < B.1.P then B.1.told p else nI 0) ∧ (∀ p, p < 6 → s 16 p = B.1.road p) ∧ (∀ f, f < 8 → s 15 f = B.1.hint f) ∧ ∀ f, f < B.1.F → s 9 f = nI (B.2.2 f)
def kL (c : Nat) : Prop := c = 2 ∨ (7 ≤ c ∧ c ≤ 9) ∨ (11 ≤ c ∧ c ≤ 18)
theorem RLd_of {s s' : ST} {B : LB} (h : RLd s B) (e : ∀ c, c = 9 ∨ (11 ≤ c ∧ c ≤ 18) → s' c = s c) : RLd s' B := by
  obtain ⟨g0, g1, g2, g3, g4, g5, g6, g7, g8, g9⟩ := h
  have e11 := e 11 (by omega)
  refine ⟨LV_of g0 (fun q => by rw [e11]), by rw [e11]; exact g1, by rw [e11]; exact g2, by rw [e 17 (by omega)]; exact g3, fun j hj => by rw [e 12 (by omega)]; exact g4 j hj, fun j hj => by rw [e 13 (by omega)]; exact g5 j hj, fun j hj => by rw [e 18 (by omega)]; exact g6 j hj, fun j hj => by rw [e 16 (by omega)]; exact g7 j hj, fun j hj => by rw [e 15 (by omega)]; exact g8 j hj, fun j hj => by rw [e 9 (by omega)]; exact g9 j hj⟩
theorem RF_of {s s' : ST} {Y : PX} {S : FS} (h : RF s Y S) (e : ∀ c, 2 ≤ c → c ≤ 8 → s' c = s c) : RF s' Y S := by
  obtain ⟨⟨g1, g2⟩, g3, g4⟩ := h
  have e2 := e 2 (by omega) (by omega)
  have e7 := e 7 (by omega) (by omega)
  have e8 := e 8 (by omega) (by omega)
  refine ⟨⟨by rw [e 3 (by omega) (by omega)]; exact g1, fun i hi => ?_⟩, fun h0 => ?_, fun h0 => ?_⟩
  · rw [e 4 (by omega) (by omega), e 5 (by omega) (by omega), e 6 (by omega) (by omega)]; exact g2 i hi
  · rw [e2, e7, e8]; exact g3 h0
  · rw [e2, e7]; exact g4 h0
def PLn (G : GT) (μ : SL) (σ : ST) (Y : PX) (Q : FS × LB) : Option Value → HT → Prop := fun r h' => r = none ∧ ∃ s : ST, h' = sh G s μ ∧ (∀ c, ¬ kL c → s c = σ c) ∧ RF s Y Q.1 ∧ (Q.1.2.1 = 0 → RLd s Q.2)
theorem PLn_mk {G : GT} {μ : SL} {σ s : ST} {Y : PX} {S : FS} {B : LB} (hk : ∀ c, ¬ kL c → s c = σ c) (hR : RF s Y S) (hz : S.2.1 = 0 → RLd s B) : PLn G μ σ Y (S, B) none (sh G s μ) := ⟨rfl, s, rfl, hk, hR, hz⟩
theorem kL_t {σ s s' : ST} (h : ∀ c, ¬ kL c → s c = σ c) (h' : ∀ c, ¬ kR c → s' c = s c) : ∀ c, ¬ kL c → s' c = σ c := fun c hc => (h' c (by unfold kL at hc; unfold kR; omega)).trans (h c hc)
theorem kL_p {σ s : ST} {a j : Nat} {x : Int32} (h : ∀ c, ¬ kL c → s c = σ c) (ha : kL a) : ∀ c, ¬ kL c → pt s a j x c = σ c := fun c hc => by rw [pt_r (fun e => hc (by rw [e]; exact ha))]; exact h c hc
theorem kR_9 {σ s : ST} (h : ∀ c, ¬ kR c → s c = σ c) : ∀ c, c = 9 ∨ (11 ≤ c ∧ c ≤ 18) → s c = σ c := fun c hc => h c (by unfold kR; omega)
theorem kL_s {σ s : ST} (h : ∀ c, ¬ kR c → s c = σ c) : ∀ c, ¬ kL c → s c = σ c := kL_t (fun _ _ => rfl) h
/-- what a world's line has written -/
def WQ (σ s : ST) (g : Int32) (nf wf : Nat → Int32) : Prop := (∀ c, ¬ kL c → s c = σ c) ∧ (∀ c, c = 9 ∨ (14 ≤ c ∧ c ≤ 18) → s c = σ c) ∧ (∀ q, q ≠ 5 → s 11 q = σ 11 q) ∧ s 11 5 = g ∧ s 12 = nf ∧ s 13 = wf
theorem WQ_kR {σ s s' : ST} {g : Int32} {nf wf : Nat → Int32} (h : WQ σ s g nf wf) (e : ∀ c, ¬ kR c → s' c = s c) : WQ σ s' g nf wf := by
  obtain ⟨g1, g2, g3, g4, g5, g6⟩ := h
  have e11 := e 11 (by unfold kR; omega)
  exact ⟨kL_t g1 e, fun c hc => (e c (by unfold kR; omega)).trans (g2 c hc), fun q hq => by rw [e11]; exact g3 q hq, by rw [e11]; exact g4, by rw [e 12 (by unfold kR; omega)]; exact g5, by rw [e 13 (by unfold kR; omega)]; exact g6⟩
theorem WQ_12 {σ s : ST} {g : Int32} {nf wf : Nat → Int32} {j : Nat} {x : Int32} (h : WQ σ s g nf wf) : WQ σ (pt s 12 j x) g (upd nf j x) wf := by
  obtain ⟨g1, g2, g3, g4, g5, g6⟩ := h
  exact ⟨kL_p g1 (by unfold kL; omega), fun c hc => by rw [pt_r (by omega)]; exact g2 c hc, fun q hq => by rw [pt_a (by omega)]; exact g3 q hq, by rw [pt_a (by omega)]; exact g4, by rw [pt_row, g5], by rw [pt_r (by omega)]; exact g6⟩
theorem WQ_13 {σ s : ST} {g : Int32} {nf wf : Nat → Int32} {j : Nat} {x : Int32} (h : WQ σ s g nf wf) : WQ σ (pt s 13 j x) g nf (upd wf j x) := by
  obtain ⟨g1, g2, g3, g4, g5, g6⟩ := h
  exact ⟨kL_p g1 (by unfold kL; omega), fun c hc => by rw [pt_r (by omega)]; exact g2 c hc, fun q hq => by rw [pt_a (by omega)]; exact g3 q hq, by rw [pt_a (by omega)]; exact g4, by rw [pt_r (by omega)]; exact g5, by rw [pt_row, g6]⟩
theorem RF_pt {s : ST} {Y : PX} {S : FS} {a j : Nat} {x : Int32} (h : RF s Y S) (ha : 8 < a) : RF (pt s a j x) Y S := RF_of h (fun c h1 h2 => pt_r (by omega))
theorem nxt_f {Y : PX} {S : FS} : (nxt Y S).2.1 = S.2.1 := by rw [nxt_0]
theorem w5_0 {Y : PX} {S : FS} (h : (w6 Y S).2.1 = 0) : (w5 Y S).2.1 = 0 := by
  unfold w6 at h
  split at h
  · rwa [nxt_f] at h
  · exact h
def wnf (σ : ST) (Y : PX) (S : FS) (W : Nat) : Nat → Int32 := upd (upd (upd (σ 12) (3 * W + 0) (nI (vl Y 0 100 (nxt Y S)))) (3 * W + (0 + 1)) (nI (vl Y 0 100 (w2 Y S)))) (3 * W + (0 + 1 + 1)) (nI (vl Y 0 100 (w3 Y S)))
theorem wnf_at {σ : ST} {Y : PX} {S : FS} {W j : Nat} (h : j < 3 * W + 3) : wnf σ Y S W j = if j < 3 * W then σ 12 j else nI (wV Y S (j - 3 * W)) := by
  unfold wnf wV
  by_cases h9 : j < 3 * W
  · rw [if_pos h9]
    simp only [upd]
    rw [if_neg (by omega), if_neg (by omega), if_neg (by omega)]
  · rw [if_neg h9]
    simp only [upd]
    rcases (show j = 3 * W ∨ j = 3 * W + 1 ∨ j = 3 * W + 2 by omega) with rfl | rfl | rfl
    · rw [if_neg (by omega), if_neg (by omega), if_pos (by omega), if_pos (by omega)]
    · rw [if_neg (by omega), if_pos (by omega), if_neg (by omega), if_pos (by omega)]
    · rw [if_pos (by omega), if_neg (by omega), if_neg (by omega)]
theorem RLd_world {σ s : ST} {Y : PX} {S : FS} {B : LB} {W : Nat} {wf : Nat → Int32} (hB : RLd σ B) (hWe : W = B.1.W) (hW : W < 16) (hq : WQ σ s (if kd Y (w5 Y S) = 2 then B.1.gl ||| bit W else B.1.gl) (wnf σ Y S W) wf) (hwf : ∀ w, w < W + 1 → wf w = if w = W then nI (wW Y S) else σ 13 w) : RLd (pt s 11 6 (nI (W + 1))) (bWorld Y S B) := by
  subst hWe
  obtain ⟨⟨hW9, hF, hP, hW16, hF8, hP6⟩, g1, g2, g3, g4, g5, g6, g7, g8, g9⟩ := hB
  obtain ⟨k1, k2, k3, k4, k5, k6⟩ := hq
  unfold RLd bWorld
  refine ⟨⟨pt_s _ _ _ _, ?_, ?_, hW, hF8, hP6⟩, ?_, ?_, ?_, ?_, ?_, ?_, ?_, ?_, ?_⟩
  · rw [pt_j (by omega), k3 7 (by omega)]; exact hF
  · rw [pt_j (by omega), k3 8 (by omega)]; exact hP
  · rw [pt_j (by omega)]; dsimp only [LD.gl]; exact k4
  · rw [pt_j (by omega), k3 9 (by omega)]; exact g2
  · rw [pt_a (by omega), k2 17 (by omega)]; exact g3
  · intro j hj
    have hj' : j < 3 * B.1.W + 3 := by have h : j < 3 * (B.1.W + 1) := hj; omega
    rw [pt_a (by omega), k5, wnf_at hj']
    show _ = if j < 3 * B.1.W then B.1.num j else nI (wV Y S (j - 3 * B.1.W))
    by_cases h9 : j < 3 * B.1.W
    · rw [if_pos h9, if_pos h9]; exact g4 j h9
    · rw [if_neg h9, if_neg h9]
  · intro w hw
    have hw' : w < B.1.W + 1 := hw
    rw [pt_a (by omega), k6, hwf w hw']
    show _ = if w = B.1.W then nI (wW Y S) else B.1.wt w
    by_cases h9 : w = B.1.W
    · rw [if_pos h9, if_pos h9]
    · rw [if_neg h9, if_neg h9]; exact g5 w (by omega)
  · intro p hp9; rw [pt_a (by omega), k2 18 (by omega)]; exact g6 p hp9
  · intro p hp9; rw [pt_a (by omega), k2 16 (by omega)]; exact g7 p hp9
  · intro p hp9; rw [pt_a (by omega), k2 15 (by omega)]; exact g8 p hp9
  · intro p hp9; rw [pt_a (by omega), k2 9 (by omega)]; exact g9 p hp9

theorem c_readWorld {G : GT} {d : Nat} {σ : ST} {μ : SL} {Y : PX} {S : FS} {B : LB} (hY : PxO Y) (hR : RF σ Y S) (hp : PO Y 0 S) (hB : RLd σ B) : Fn G (d + 2) mX5_readWorld [.ref (G.b0 + 2)] (sh G σ μ) (PLn G μ σ Y (xWorld Y S B)) := by
  obtain ⟨⟨hW, hF, hP, hW16, hF8, hP6⟩, g1, g2, g3, g4, g5, g6, g7, g8, g9⟩ := id hB
  obtain ⟨W, hWe⟩ : ∃ W, W = B.1.W := ⟨_, rfl⟩
  rw [← hWe] at hW hW16
  refine fn_of (ls := [some (.ref (G.b0 + 2)), none, none]) (by decide +kernel) (Nat.le_of_ble_eq_true rfl) 2 rfl ?_
  refine b_aload_n dX5_readWorld_0 rfl ?_
  refine g_get dX5_readWorld_1 fX5_28 a2 rfl ?_
  refine g_geti (x := nI W) dX5_readWorld_4 fX5_104 a11 rfl hW ?_
  refine b_istore_n dX5_readWorld_7 (by decide) rfl ?_
  refine b_iload_n dX5_readWorld_8 rfl ?_
  refine b_bipush (v := nI 16) dX5_readWorld_9 (by decide) ?_
  refine b_icmp_lt 20 dX5_readWorld_11 (by decide) (fun c1 => ?_) (fun c1 => ?_)
  · skip
    rw [nI_ltI (by omega) (by omega)] at c1
    have ex : xWorld Y S B = (w6 Y S, bWorld Y S B) := by unfold xWorld; rw [if_neg (by omega)]
    rw [ex]
    refine b_aload_n dX5_readWorld_20 rfl ?_
    refine g_callVp [] dX5_readWorld_21 kX5_goOn lX5_79 a2 rfl rfl (c_goOn hY hR hp) rfl rfl (Nat.le_of_ble_eq_true rfl) ?_
    rintro r h9 ⟨rfl, s1, rfl, hs1, hR1⟩
    have hp1 := PO_nx0 hp
    refine b_iconst (v := nI 0) dX5_readWorld_24 (by decide) ?_
    refine b_istore_n dX5_readWorld_25 (by decide) rfl ?_
    refine b_iload_n dX5_readWorld_26 rfl ?_
    refine b_iconst (v := nI 3) dX5_readWorld_27 (by decide) ?_
    refine b_icmp_ge_f 57 dX5_readWorld_28 (by decide) (by decide) ?_
    refine b_aload_n dX5_readWorld_31 rfl ?_
    refine g_get dX5_readWorld_32 fX5_28 a2 rfl ?_
    refine g_get dX5_readWorld_35 fX5_120 a11 rfl ?_
    refine b_iconst (v := nI 3) dX5_readWorld_38 (by decide) ?_
    refine b_iload_n dX5_readWorld_39 rfl ?_
    refine b_imulN dX5_readWorld_40 ?_
    refine b_iload_n dX5_readWorld_41 rfl ?_
    refine b_iaddN dX5_readWorld_42 ?_
    refine b_aload_n dX5_readWorld_43 rfl ?_
    refine b_iconst (v := nI 0) dX5_readWorld_44 (by decide) ?_
    refine b_bipush (v := nI 99) dX5_readWorld_45 (by decide) ?_
    refine g_callVp [.int (nI 0), .int (nI 99)] dX5_readWorld_47 kX5_takeNumber lX5_107 a2 rfl rfl (c_takeN (zh := 100) hY hR1 hp1 (by omega) (by omega) (by decide)) rfl rfl (Nat.le_of_ble_eq_true rfl) ?_
    rintro r h9 ⟨rfl, s2, rfl, hs2, hR2⟩
    have hp2 := PO_tnum (lw := 0) (zh := 100) hp1
    have q0 : WQ σ σ B.1.gl (σ 12) (σ 13) := ⟨fun _ _ => rfl, fun _ _ => rfl, fun _ _ => rfl, g1, rfl, rfl⟩
    have q2 := WQ_12 (j := 3 * W + 0) (x := nI (vl Y 0 100 (nxt Y S))) (WQ_kR (WQ_kR q0 hs1) hs2)
    refine g_iast dX5_readWorld_50 a12 rfl (by omega) ?_
    refine b_iinc dX5_readWorld_51 rfl (nI_1 _) (by decide) rfl ?_
    refine b_goto 26 dX5_readWorld_54 (by decide) ?_
    refine b_iload_n dX5_readWorld_26 rfl ?_
    refine b_iconst (v := nI 3) dX5_readWorld_27 (by decide) ?_
    refine b_icmp_ge_f 57 dX5_readWorld_28 (by decide) (by decide) ?_
    refine b_aload_n dX5_readWorld_31 rfl ?_
    refine g_get dX5_readWorld_32 fX5_28 a2 rfl ?_
    refine g_get dX5_readWorld_35 fX5_120 a11 rfl ?_
    refine b_iconst (v := nI 3) dX5_readWorld_38 (by decide) ?_
    refine b_iload_n dX5_readWorld_39 rfl ?_
    refine b_imulN dX5_readWorld_40 ?_
    refine b_iload_n dX5_readWorld_41 rfl ?_
    refine b_iaddN dX5_readWorld_42 ?_
    refine b_aload_n dX5_readWorld_43 rfl ?_
    refine b_iconst (v := nI 0) dX5_readWorld_44 (by decide) ?_
    refine b_bipush (v := nI 99) dX5_readWorld_45 (by decide) ?_
    refine g_callVp [.int (nI 0), .int (nI 99)] dX5_readWorld_47 kX5_takeNumber lX5_107 a2 rfl rfl (c_takeN (zh := 100) hY (RF_pt hR2 (by omega)) hp2 (by omega) (by omega) (by decide)) rfl rfl (Nat.le_of_ble_eq_true rfl) ?_
    rintro r h9 ⟨rfl, s3, rfl, hs3, hR3⟩
    have hp3 := PO_tnum (lw := 0) (zh := 100) hp2
    have q3 := WQ_12 (j := 3 * W + (0 + 1)) (x := nI (vl Y 0 100 (w2 Y S))) (WQ_kR q2 hs3)
    refine g_iast dX5_readWorld_50 a12 rfl (by omega) ?_
    refine b_iinc dX5_readWorld_51 rfl (nI_1 _) (by decide) rfl ?_
    refine b_goto 26 dX5_readWorld_54 (by decide) ?_
    refine b_iload_n dX5_readWorld_26 rfl ?_
    refine b_iconst (v := nI 3) dX5_readWorld_27 (by decide) ?_
    refine b_icmp_ge_f 57 dX5_readWorld_28 (by decide) (by decide) ?_
    refine b_aload_n dX5_readWorld_31 rfl ?_
    refine g_get dX5_readWorld_32 fX5_28 a2 rfl ?_
    refine g_get dX5_readWorld_35 fX5_120 a11 rfl ?_
    refine b_iconst (v := nI 3) dX5_readWorld_38 (by decide) ?_
    refine b_iload_n dX5_readWorld_39 rfl ?_
    refine b_imulN dX5_readWorld_40 ?_
    refine b_iload_n dX5_readWorld_41 rfl ?_
    refine b_iaddN dX5_readWorld_42 ?_
    refine b_aload_n dX5_readWorld_43 rfl ?_
    refine b_iconst (v := nI 0) dX5_readWorld_44 (by decide) ?_
    refine b_bipush (v := nI 99) dX5_readWorld_45 (by decide) ?_
    refine g_callVp [.int (nI 0), .int (nI 99)] dX5_readWorld_47 kX5_takeNumber lX5_107 a2 rfl rfl (c_takeN (zh := 100) hY (RF_pt hR3 (by omega)) hp3 (by omega) (by omega) (by decide)) rfl rfl (Nat.le_of_ble_eq_true rfl) ?_
    rintro r h9 ⟨rfl, s4, rfl, hs4, hR4⟩
    have hp4 : PO Y 0 (w4 Y S) := PO_tnum (lw := 0) (zh := 100) hp3
    have q4 := WQ_12 (j := 3 * W + (0 + 1 + 1)) (x := nI (vl Y 0 100 (w3 Y S))) (WQ_kR q3 hs4)
    refine g_iast dX5_readWorld_50 a12 rfl (by omega) ?_
    refine b_iinc dX5_readWorld_51 rfl (nI_1 _) (by decide) rfl ?_
    refine b_goto 26 dX5_readWorld_54 (by decide) ?_
    refine b_iload_n dX5_readWorld_26 rfl ?_
    refine b_iconst (v := nI 3) dX5_readWorld_27 (by decide) ?_
    refine b_icmp_ge_t 57 dX5_readWorld_28 (by decide) (by decide) ?_
    refine b_aload_n dX5_readWorld_57 rfl ?_
    refine g_get dX5_readWorld_58 fX5_28 a2 rfl ?_
    refine g_get dX5_readWorld_61 fX5_123 a11 rfl ?_
    refine b_iload_n dX5_readWorld_64 rfl ?_
    refine b_iconst (v := nI 1) dX5_readWorld_65 (by decide) ?_
    refine g_iast dX5_readWorld_66 a13 rfl (by omega) ?_
    refine b_aload_n dX5_readWorld_67 rfl ?_
    have q5 := WQ_13 (j := W) (x := nI 1) q4
    have hR4' : RF (pt (pt s4 12 (3 * W + (0 + 1 + 1)) (nI (vl Y 0 100 (w3 Y S)))) 13 W (nI 1)) Y (w4 Y S) := RF_pt (RF_pt hR4 (by omega)) (by omega)
    obtain ⟨s5, hz5⟩ : ∃ s5, s5 = (pt (pt s4 12 (3 * W + (0 + 1 + 1)) (nI (vl Y 0 100 (w3 Y S)))) 13 W (nI 1)) := ⟨_, rfl⟩
    rw [← hz5] at hR4' q5
    refine b_sig hz5.symm ?_
    have fin : ∀ (s : ST) (wf : Nat → Int32), WQ σ s (if kd Y (w5 Y S) = 2 then B.1.gl ||| bit W else B.1.gl) (wnf σ Y S W) wf → (∀ w, w < W + 1 → wf w = if w = W then nI (wW Y S) else σ 13 w) → RF s Y (w6 Y S) → BB G RX5 cX5_readWorld 3 none (d + 2) (QM G (PLn G μ σ Y (w6 Y S, bWorld Y S B))) 124 [some (.ref (G.b0 + 2)), some (.int (nI W)), some (.int (nI (0 + 1 + 1 + 1)))] [] (sh G s μ) := by
      intro s wf hq hwf hRs
      refine b_aload_n dX5_readWorld_124 rfl ?_
      refine g_get dX5_readWorld_125 fX5_28 a2 rfl ?_
      refine b_dup dX5_readWorld_128 rfl ?_
      refine g_geti (x := nI W) dX5_readWorld_129 fX5_104 a11 rfl (by rw [hq.2.2.1 6 (by omega)]; exact hW) ?_
      refine b_iconst (v := nI 1) dX5_readWorld_132 (by decide) ?_
      refine b_iaddN dX5_readWorld_133 ?_
      refine g_put dX5_readWorld_134 wX5_104 a11 tfX2_6 (Nat.le_of_ble_eq_true rfl) rfl ?_
      exact b_vret dX5_readWorld_137 (PLn_mk (kL_p hq.1 (by unfold kL; omega)) (RF_pt hRs (by omega)) (fun _ => RLd_world hB hWe c1 hq hwf))
    have mid : ∀ (s : ST) (wf : Nat → Int32), WQ σ s B.1.gl (wnf σ Y S W) wf → (∀ w, w < W + 1 → wf w = if w = W then nI (wW Y S) else σ 13 w) → RF s Y (w5 Y S) → PO Y 0 (w5 Y S) → BB G RX5 cX5_readWorld 3 none (d + 2) (QM G (PLn G μ σ Y (w6 Y S, bWorld Y S B))) 96 [some (.ref (G.b0 + 2)), some (.int (nI W)), some (.int (nI (0 + 1 + 1 + 1)))] [] (sh G s μ) := by
      intro s wf hq hwf hRs hps
      refine b_aload_n dX5_readWorld_96 rfl ?_
      refine g_callV [] dX5_readWorld_97 kX5_kind lX5_58 a2 rfl rfl (c_kind hY hRs hps) rfl rfl (Nat.le_of_ble_eq_true rfl) ?_
      refine b_bipush (v := nI 103) dX5_readWorld_100 (by decide) ?_
      refine b_icmp_ne 124 dX5_readWorld_102 (by decide) (fun c2 => ?_) (fun c2 => ?_)
      · skip
        have c3 : ¬ kd Y (w5 Y S) = 2 := fun z => c2 ((cK_e (k := 2) (by omega) (by omega)).mpr z)
        refine fin s wf ?_ hwf ?_
        · rw [if_neg c3]; exact hq
        · rw [w6, if_neg c3]; exact hRs
      · skip
        have c3 : kd Y (w5 Y S) = 2 := (cK_e (k := 2) (by omega) (by omega)).mp c2
        refine b_aload_n dX5_readWorld_105 rfl ?_
        refine g_callVp [] dX5_readWorld_106 kX5_goOn lX5_79 a2 rfl rfl (c_goOn hY hRs hps) rfl rfl (Nat.le_of_ble_eq_true rfl) ?_
        rintro r h9 ⟨rfl, s7, rfl, hs7, hR7⟩
        have q7 := WQ_kR hq hs7
        obtain ⟨k1, k2, k3, k4, k5, k6⟩ := id q7
        refine b_aload_n dX5_readWorld_109 rfl ?_
        refine g_get dX5_readWorld_110 fX5_28 a2 rfl ?_
        refine b_dup dX5_readWorld_113 rfl ?_
        refine g_get dX5_readWorld_114 fX5_126 a11 rfl ?_
        refine b_iconst (v := nI 1) dX5_readWorld_117 (by decide) ?_
        refine b_iload_n dX5_readWorld_118 rfl ?_
        refine b_ishl dX5_readWorld_119 ?_
        refine b_ior dX5_readWorld_120 ?_
        refine g_put dX5_readWorld_121 wX5_126 a11 tfX2_5 (Nat.le_of_ble_eq_true rfl) rfl ?_
        refine fin _ wf ?_ hwf ?_
        · rw [if_pos c3]
          refine ⟨kL_p k1 (by unfold kL; omega), fun c hc => by rw [pt_r (by omega)]; exact k2 c hc, fun q hq => by rw [pt_j hq]; exact k3 q hq, ?_, by rw [pt_r (by omega)]; exact k5, by rw [pt_r (by omega)]; exact k6⟩
          rw [pt_s, k4]; rfl
        · rw [w6, if_pos c3]; exact RF_pt hR7 (by omega)
    refine g_callV [] dX5_readWorld_68 kX5_kind lX5_58 a2 rfl rfl (c_kind hY hR4' hp4) rfl rfl (Nat.le_of_ble_eq_true rfl) ?_
    refine b_bipush (v := nI 102) dX5_readWorld_71 (by decide) ?_
    refine b_icmp_ne 96 dX5_readWorld_73 (by decide) (fun c2 => ?_) (fun c2 => ?_)
    · skip
      have c3 : ¬ kd Y (w4 Y S) = 1 := fun z => c2 ((cK_e (k := 1) (by omega) (by omega)).mpr z)
      have e5 : w5 Y S = w4 Y S := by unfold w5; rw [if_neg c3]
      refine mid s5 _ q5 (fun w hw => ?_) (by rw [e5]; exact hR4') (by rw [e5]; exact hp4)
      simp only [upd, wW]
      rw [if_neg c3]
    · skip
      have c3 : kd Y (w4 Y S) = 1 := (cK_e (k := 1) (by omega) (by omega)).mp c2
      have e5 : w5 Y S = tnum Y 1 10 (nxt Y (w4 Y S)) := by unfold w5; rw [if_pos c3]
      refine b_aload_n dX5_readWorld_76 rfl ?_
      refine g_callVp [] dX5_readWorld_77 kX5_goOn lX5_79 a2 rfl rfl (c_goOn hY hR4' hp4) rfl rfl (Nat.le_of_ble_eq_true rfl) ?_
      rintro r h9 ⟨rfl, s6, rfl, hs6, hR6⟩
      refine b_aload_n dX5_readWorld_80 rfl ?_
      refine g_get dX5_readWorld_81 fX5_28 a2 rfl ?_
      refine g_get dX5_readWorld_84 fX5_123 a11 rfl ?_
      refine b_iload_n dX5_readWorld_87 rfl ?_
      refine b_aload_n dX5_readWorld_88 rfl ?_
      refine b_iconst (v := nI 1) dX5_readWorld_89 (by decide) ?_
      refine b_bipush (v := nI 9) dX5_readWorld_90 (by decide) ?_
      refine g_callVp [.int (nI 1), .int (nI 9)] dX5_readWorld_92 kX5_takeNumber lX5_107 a2 rfl rfl (c_takeN (zh := 10) hY hR6 (PO_nx0 hp4) (by omega) (by omega) (by decide)) rfl rfl (Nat.le_of_ble_eq_true rfl) ?_
      rintro r h9 ⟨rfl, s7, rfl, hs7, hR7⟩
      have q7 := WQ_13 (j := W) (x := nI (vl Y 1 10 (nxt Y (w4 Y S)))) (WQ_kR (WQ_kR q5 hs6) hs7)
      refine g_iast dX5_readWorld_95 a13 rfl (by omega) ?_
      refine mid _ _ q7 (fun w hw => ?_) (by rw [e5]; exact RF_pt hR7 (by omega)) (by rw [e5]; exact PO_tnum (PO_nx0 hp4))
      simp only [upd, wW]
      rw [if_pos c3]
      split <;> rfl
  · skip
    rw [nI_ltI (by omega) (by omega)] at c1
    have ex : xWorld Y S B = (fail Y 4 S, B) := by unfold xWorld; rw [if_pos (by omega)]
    rw [ex]
    refine b_aload_n dX5_readWorld_14 rfl ?_
    refine b_iconst (v := nI 4) dX5_readWorld_15 (by decide) ?_
    refine g_callVp [.int (nI 4)] dX5_readWorld_16 kX5_refuse lX5_82 a2 rfl rfl (c_refuse (f := 4) hY hR hp (by omega) (by omega)) rfl rfl (Nat.le_of_ble_eq_true rfl) ?_
    rintro r h9 ⟨rfl, s1, rfl, hs1, hR1⟩
    exact b_vret dX5_readWorld_19 (PLn_mk (kL_s hs1) hR1 (fun hz => absurd hz (fail_0 (by omega))))

