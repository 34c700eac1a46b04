/-! ===== the reference: a land in the making, a world's line ===== -/
def kN (σ s : ST) : Prop := (∀ c, c ≠ 77 → ¬ (81 ≤ c ∧ c ≤ 84) → s c = σ c) ∧ ∀ q, q < 9 ∨ q = 11 ∨ (15 < q ∧ q ≠ 18) → s 77 q = σ 77 q
theorem kN_r (σ : ST) : kN σ σ := ⟨fun _ _ _ => rfl, fun _ _ => rfl⟩
theorem kN_t {σ s s' : ST} (h : kN σ s) (h' : kN s s') : kN σ s' := ⟨fun c a b => (h'.1 c a b).trans (h.1 c a b), fun q a => (h'.2 q a).trans (h.2 q a)⟩
theorem kN_m {σ s : ST} (h : kM σ s) : kN σ s := ⟨fun c a b => h.1 c a (by omega), h.2⟩
theorem kN_p {σ s : ST} {c q : Nat} {x : Int32} (h : kN σ s) (hc : 81 ≤ c ∧ c ≤ 84) : kN σ (pt s c q x) := ⟨fun c' a b => by rw [pt_r (by omega)]; exact h.1 c' a b, fun k a => by rw [pt_a (by omega)]; exact h.2 k a⟩
/-- the reference's reader holds a land in the making -/
def LM (s : ST) (B : LB) : Prop := (s 81 0 = nI B.2.1 ∧ s 81 1 = nI B.1.W ∧ s 81 2 = nI B.1.F ∧ s 81 3 = nI B.1.P ∧ s 81 4 = nI B.1.t) ∧ (B.1.W ≤ 16 ∧ B.1.F ≤ 8 ∧ B.1.P ≤ 6) ∧
  (∀ w, w < B.1.W → (∀ k, k < 3 → s 81 (11 + 16 * k + w) = B.1.num (3 * w + k)) ∧ s 81 (59 + w) = B.1.wt w ∧ s 81 (75 + w) = bI (bt B.1.gl w)) ∧
  (∀ p, p < B.1.P → s 81 (5 + p) = B.1.told p) ∧ (∀ p, p < 6 → s 81 (91 + p) = B.1.road p) ∧ (∀ f, f < 8 → s 81 (97 + f) = B.1.hint f) ∧
  (∀ f, f < B.1.F → s 83 f = nI (fst0 B.2.2 f) ∧ s 84 f = nI (B.2.2 f - fst0 B.2.2 f)) ∧ ∀ q, 105 ≤ q → q < 198 → s 81 q = nI 0
theorem LM_of {s s' : ST} {B : LB} (h : LM s B) (e1 : s' 81 = s 81) (e3 : s' 83 = s 83) (e4 : s' 84 = s 84) : LM s' B := by
  unfold LM
  rw [e1, e3, e4]
  exact h
theorem LM_m {s s' : ST} {B : LB} (h : LM s B) (k : kM s s') : LM s' B := LM_of h (k.1 81 (by omega) (by omega)) (k.1 83 (by omega) (by omega)) (k.1 84 (by omega) (by omega))
theorem RM_pt {s : ST} {Y : PX} {S : FS} {c q : Nat} {x : Int32} (h : RM s Y S) (h7 : c ≠ 77) (h0 : c ≠ 80) (h2 : c ≠ 82) : RM (pt s c q x) Y S := RM_of h (fun k _ => by rw [pt_a (by omega)]) (pt_r (by omega)) (pt_r (by omega))
def PLm (G : GT) (μ : SL) (σ : ST) (Y : PX) (Q : FS × LB) : Option Value → HT → Prop := fun r h' => r = none ∧ ∃ s : ST, h' = sh G s μ ∧ kN σ s ∧ RM s Y Q.1 ∧ (Q.1.2.1 = 0 → LM s Q.2)
theorem PLm_mk {G : GT} {μ : SL} {σ s : ST} {Y : PX} {S : FS} {B : LB} (hk : kN σ s) (hR : RM s Y S) (hz : S.2.1 = 0 → LM s B) : PLm G μ σ Y (S, B) none (sh G s μ) := ⟨rfl, s, rfl, hk, hR, hz⟩
/-- a world's three numbers -/
def wS (Y : PX) (S : FS) : Nat → FS
  | 0 => nxt Y S
  | k + 1 => tnum Y 0 100 (wS Y S k)
theorem wS_3 (Y : PX) (S : FS) : wS Y S 3 = w4 Y S := rfl
theorem wS_v {Y : PX} {S : FS} {k : Nat} (hk : k < 3) : wV Y S k = vl Y 0 100 (wS Y S k) := by
  rcases (show k = 0 ∨ k = 1 ∨ k = 2 by omega) with rfl | rfl | rfl <;> rfl
theorem PO_wS {Y : PX} {S : FS} (hp : PO Y 0 S) : ∀ k, PO Y 0 (wS Y S k)
  | 0 => PO_nx0 hp
  | k + 1 => PO_tnum (PO_wS hp k)
theorem w4_0 {Y : PX} {S : FS} (h : (w5 Y S).2.1 = 0) : (w4 Y S).2.1 = 0 := by
  unfold w5 at h
  split at h
  · have := (tnum_0 h).1; rwa [nxt_f] at this
  · exact h
/-- what a world's line has changed in the reference -/
def WM (σ s : ST) (W : Nat) : Prop := kN σ s ∧ s 83 = σ 83 ∧ s 84 = σ 84 ∧ ∀ q, q ≠ 11 + W → q ≠ 27 + W → q ≠ 43 + W → s 81 q = σ 81 q
theorem WM_m {σ s s' : ST} {W : Nat} (h : WM σ s W) (k : kM s s') : WM σ s' W := ⟨kN_t h.1 (kN_m k), (k.1 83 (by omega) (by omega)).trans h.2.1, (k.1 84 (by omega) (by omega)).trans h.2.2.1, fun q a b c => by rw [k.1 81 (by omega) (by omega)]; exact h.2.2.2 q a b c⟩
theorem bWorld_gl {Y : PX} {S : FS} {B : LB} : (bWorld Y S B).1.gl = if kd Y (w5 Y S) = 2 then B.1.gl ||| bit B.1.W else B.1.gl := by
  unfold bWorld
  dsimp only [LD.gl]
theorem LM_world {σ s : ST} {Y : PX} {S : FS} {B : LB} {W : Nat} {x y : Int32} (hB : LM σ B) (hL : lo B.1.W B.1.gl) (hWe : W = B.1.W) (hW : W < 16) (hs : WM σ s W) (hn : ∀ j, j < 3 → s 81 (11 + 16 * j + W) = nI (wV Y S j)) (hx : x = nI (wW Y S)) (hy : y = bI (decide (kd Y (w5 Y S) = 2))) : LM (pt (pt (pt s 81 (59 + W) x) 81 (75 + W) y) 81 1 (nI (W + 1))) (bWorld Y S B) := by
  subst hWe
  obtain ⟨⟨g0, g1, g2, g3, g4⟩, ⟨b1, b2, b3⟩, w, tl, rd, hi, fe, z⟩ := hB
  obtain ⟨k0, k3, k4, k1⟩ := hs
  have far : ∀ q, q ≠ 1 → q ≠ 59 + B.1.W → q ≠ 75 + B.1.W → pt (pt (pt s 81 (59 + B.1.W) x) 81 (75 + B.1.W) y) 81 1 (nI (B.1.W + 1)) 81 q = s 81 q := fun q a b c => by rw [pt_j a, pt_j c, pt_j b]
  refine ⟨⟨?_, pt_s _ _ _ _, ?_, ?_, ?_⟩, ⟨hW, b2, b3⟩, fun v hv => ?_, fun p hp => ?_, fun p hp => ?_, fun f hf => ?_, fun f hf => ?_, fun q h1 h2 => ?_⟩
  · rw [far 0 (by omega) (by omega) (by omega), k1 0 (by omega) (by omega) (by omega)]; exact g0
  · rw [far 2 (by omega) (by omega) (by omega), k1 2 (by omega) (by omega) (by omega)]; exact g2
  · rw [far 3 (by omega) (by omega) (by omega), k1 3 (by omega) (by omega) (by omega)]; exact g3
  · rw [far 4 (by omega) (by omega) (by omega), k1 4 (by omega) (by omega) (by omega)]; exact g4
  · have hv' : v < B.1.W + 1 := hv
    refine ⟨fun k hk => ?_, ?_, ?_⟩
    · rw [far _ (by omega) (by omega) (by omega)]
      show _ = if 3 * v + k < 3 * B.1.W then B.1.num (3 * v + k) else nI (wV Y S (3 * v + k - 3 * B.1.W))
      by_cases e : v = B.1.W
      · subst e
        rw [if_neg (by omega), hn k hk, show 3 * B.1.W + k - 3 * B.1.W = k by omega]
      · rw [if_pos (by omega), k1 _ (by omega) (by omega) (by omega)]
        exact (w v (by omega)).1 k hk
    · show _ = if v = B.1.W then nI (wW Y S) else B.1.wt v
      by_cases e : v = B.1.W
      · subst e
        rw [if_pos rfl, pt_j (by omega), pt_j (by omega), pt_s]; exact hx
      · rw [if_neg e, far _ (by omega) (by omega) (by omega), k1 _ (by omega) (by omega) (by omega)]
        exact (w v (by omega)).2.1
    · rw [bWorld_gl]
      by_cases e : v = B.1.W
      · subst e
        rw [pt_j (by omega), pt_s, hy]
        by_cases c : kd Y (w5 Y S) = 2
        · rw [if_pos c, decide_eq_true c, show bt (B.1.gl ||| bit B.1.W) B.1.W = true by unfold bit; rw [bit_or (by omega) (by omega)]; simp]
        · rw [if_neg c, decide_eq_false c, hL B.1.W (Nat.le_refl _) (by omega)]
      · rw [far _ (by omega) (by omega) (by omega), k1 _ (by omega) (by omega) (by omega), (w v (by omega)).2.2]
        by_cases c : kd Y (w5 Y S) = 2
        · rw [if_pos c, show bt (B.1.gl ||| bit B.1.W) v = bt B.1.gl v by unfold bit; rw [bit_or (by omega) (by omega)]; simp [e]]
        · rw [if_neg c]
  · have hp' : p < B.1.P := hp
    rw [far _ (by omega) (by omega) (by omega), k1 _ (by omega) (by omega) (by omega)]; exact tl p hp
  · rw [far _ (by omega) (by omega) (by omega), k1 _ (by omega) (by omega) (by omega)]; exact rd p hp
  · rw [far _ (by omega) (by omega) (by omega), k1 _ (by omega) (by omega) (by omega)]; exact hi f hf
  · rw [pt_a (by omega), pt_a (by omega), pt_a (by omega), pt_a (by omega), pt_a (by omega), pt_a (by omega), k3, k4]; exact fe f hf
  · rw [far _ (by omega) (by omega) (by omega), k1 _ (by omega) (by omega) (by omega)]; exact z q h1 h2
set_option maxHeartbeats 1000000 in
theorem m_readWorld {G : GT} {d : Nat} {σ : ST} {μ : SL} {Y : PX} {S : FS} {B : LB} (hY : PxO Y) (hR : RM σ Y S) (hp : PO Y 0 S) (hk : kd Y S ≠ 17) (hB : LM σ B) (hL : lo B.1.W B.1.gl) : Fn G (d + 7) mX12_readWorld [.ref (G.b0 + 77)] (sh G σ μ) (PLm G μ σ Y (xWorld Y S B)) := by
  have h0 := (kd_lt hY hp hk).1
  obtain ⟨W, hWe⟩ : ∃ W, W = B.1.W := ⟨_, rfl⟩
  have hW : σ 81 1 = nI W := by rw [hWe]; exact hB.1.2.1
  have hW16 : W ≤ 16 := by rw [hWe]; exact hB.2.1.1
  refine fn_of (ls := [some (.ref (G.b0 + 77)), none, none, none]) (by decide +kernel) (Nat.le_of_ble_eq_true rfl) 3 rfl ?_
  refine b_aload_n dX12_readWorld_0 rfl ?_
  refine g_get dX12_readWorld_1 fX12_24 a77 rfl ?_
  refine b_iconst (v := nI 1) dX12_readWorld_4 (by decide) ?_
  refine g_iald dX12_readWorld_5 a81 rfl (by omega) ?_
  refine b_top hW ?_
  refine b_istore_n dX12_readWorld_6 (by decide) rfl ?_
  refine b_iload_n dX12_readWorld_7 rfl ?_
  refine b_bipush (v := nI 16) dX12_readWorld_8 (by decide) ?_
  refine b_icmp_ne 18 dX12_readWorld_10 (by decide) (fun c1 => ?_) (fun c1 => ?_)
  · skip
    have c2 : ¬ W = 16 := fun z => c1 (by rw [z])
    have ex : xWorld Y S B = (w6 Y S, bWorld Y S B) := by unfold xWorld; rw [if_neg (by omega)]
    rw [ex]
    refine b_aload_n dX12_readWorld_18 rfl ?_
    refine g_geti (x := nI S.2.1) dX12_readWorld_19 fX12_129 a77 rfl hR.w ?_
    refine b_if_eq_t 26 dX12_readWorld_22 (by decide) (by rw [h0]; rfl) ?_
    refine b_aload_n dX12_readWorld_26 rfl ?_
    refine g_callVp [] dX12_readWorld_27 kX12_next lX12_138 a77 rfl rfl (m_nx (d := d + 1) hY hR hp hk) rfl rfl (Nat.le_of_ble_eq_true rfl) ?_
    rintro r h9 ⟨rfl, s1, rfl, hs1, hR1⟩
    refine b_iconst (v := nI 0) dX12_readWorld_30 (by decide) ?_
    refine b_istore_n dX12_readWorld_31 (by decide) rfl ?_
    -- the end
    have fin : ∀ (s : ST) (x y : Int32), WM σ s W → RM s Y (w6 Y S) → ((w6 Y S).2.1 = 0 → (∀ j, j < 3 → s 81 (11 + 16 * j + W) = nI (wV Y S j)) ∧ x = nI (wW Y S) ∧ y = bI (decide (kd Y (w5 Y S) = 2))) → BB G RX12 cX12_readWorld 4 none (d + 7) (QM G (PLm G μ σ Y (w6 Y S, bWorld Y S B))) 107 [some (.ref (G.b0 + 77)), some (.int (nI W)), some (.int x), some (.int y)] [] (sh G s μ) := by
      intro s x y hs hRs hz
      have hl := hRs.l
      refine b_aload_n dX12_readWorld_107 rfl ?_
      refine g_geti (x := nI ((w6 Y S).2.1)) dX12_readWorld_108 fX12_129 a77 rfl hRs.w ?_
      refine b_if_eq 115 dX12_readWorld_111 (by decide) (fun e1 => ?_) (fun e1 => ?_)
      · skip
        have e2 : (w6 Y S).2.1 = 0 := by rw [← nI_0, nI_eq (by omega) (by omega)] at e1; exact e1
        obtain ⟨z1, z2, z3⟩ := hz e2
        refine b_aload_n dX12_readWorld_115 rfl ?_
        refine g_get dX12_readWorld_116 fX12_24 a77 rfl ?_
        refine b_bipush (v := nI 59) dX12_readWorld_119 (by decide) ?_
        refine b_iload_n dX12_readWorld_121 rfl ?_
        refine b_iaddN dX12_readWorld_122 ?_
        refine b_iload_n dX12_readWorld_123 rfl ?_
        refine g_iast dX12_readWorld_124 a81 rfl (by omega) ?_
        refine b_aload_n dX12_readWorld_125 rfl ?_
        refine g_get dX12_readWorld_126 fX12_24 a77 rfl ?_
        refine b_bipush (v := nI 75) dX12_readWorld_129 (by decide) ?_
        refine b_iload_n dX12_readWorld_131 rfl ?_
        refine b_iaddN dX12_readWorld_132 ?_
        refine b_iload_n dX12_readWorld_133 rfl ?_
        refine g_iast dX12_readWorld_134 a81 rfl (by omega) ?_
        refine b_aload_n dX12_readWorld_135 rfl ?_
        refine g_get dX12_readWorld_136 fX12_24 a77 rfl ?_
        refine b_iconst (v := nI 1) dX12_readWorld_139 (by decide) ?_
        refine b_dup2 dX12_readWorld_140 rfl rfl ?_
        refine g_iald dX12_readWorld_141 a81 rfl (by omega) ?_
        refine b_top (show pt (pt s 81 (59 + W) x) 81 (75 + W) y 81 1 = nI W by rw [pt_j (by omega), pt_j (by omega), hs.2.2.2 1 (by omega) (by omega) (by omega)]; exact hW) ?_
        refine b_iconst (v := nI 1) dX12_readWorld_142 (by decide) ?_
        refine b_iaddN dX12_readWorld_143 ?_
        refine g_iast dX12_readWorld_144 a81 rfl (by omega) ?_
        exact b_vret dX12_readWorld_145 (PLm_mk (kN_p (kN_p (kN_p hs.1 (by omega)) (by omega)) (by omega)) (RM_pt (RM_pt (RM_pt hRs (by omega) (by omega) (by omega)) (by omega) (by omega) (by omega)) (by omega) (by omega) (by omega)) (fun _ => LM_world hB hL hWe (by omega) hs z1 z2 z3))
      · skip
        have e2 : (w6 Y S).2.1 ≠ 0 := fun z => e1 (by rw [z]; rfl)
        exact b_vret dX12_readWorld_114 (PLm_mk hs.1 hRs (fun z => absurd z e2))
    -- guilty or not
    have mid : ∀ (s : ST) (x : Int32) (z3 : Option Value), WM σ s W → RM s Y (w5 Y S) → PO Y 0 (w5 Y S) → ((w5 Y S).2.1 = 0 → (∀ j, j < 3 → s 81 (11 + 16 * j + W) = nI (wV Y S j)) ∧ x = nI (wW Y S)) → BB G RX12 cX12_readWorld 4 none (d + 7) (QM G (PLm G μ σ Y (w6 Y S, bWorld Y S B))) 93 [some (.ref (G.b0 + 77)), some (.int (nI W)), some (.int x), z3] [] (sh G s μ) := by
      intro s x z3 hs hRs hps hz
      refine b_aload_n dX12_readWorld_93 rfl ?_
      refine b_iconst (v := nI 2) dX12_readWorld_94 (by decide) ?_
      refine g_callVp [.int (nI 2)] dX12_readWorld_95 kX12_eats lX12_153 a77 rfl rfl (m_eats (d := d) (k := 2) hY hRs hps (by omega) (by omega)) rfl rfl (Nat.le_of_ble_eq_true rfl) ?_
      rintro r h9 ⟨rfl, s2, rfl, hs2, hR2⟩
      have e81 := hs2.1 81 (by omega) (by omega)
      refine b_if_eq 105 dX12_readWorld_98 (by decide) (fun e1 => ?_) (fun e1 => ?_)
      · skip
        have e2 : ¬ kd Y (w5 Y S) = 2 := of_decide_eq_false ((bI_0 _).mp e1)
        rw [if_neg e2] at hR2
        have e6 : w6 Y S = w5 Y S := by unfold w6; rw [if_neg e2]
        refine b_iconst (v := nI 0) dX12_readWorld_105 (by decide) ?_
        refine b_istore_n dX12_readWorld_106 (by decide) rfl ?_
        refine fin s2 x _ (WM_m hs hs2) (by rw [e6]; exact hR2) (fun z => ?_)
        rw [e6] at z
        rw [e81]
        exact ⟨(hz z).1, (hz z).2, by rw [decide_eq_false e2]; rfl⟩
      · skip
        have e2 : kd Y (w5 Y S) = 2 := of_decide_eq_true ((bI_1 _).mp e1)
        rw [if_pos e2] at hR2
        have e6 : w6 Y S = nxt Y (w5 Y S) := by unfold w6; rw [if_pos e2]
        refine b_iconst (v := nI 1) dX12_readWorld_101 (by decide) ?_
        refine b_goto 106 dX12_readWorld_102 (by decide) ?_
        refine b_istore_n dX12_readWorld_106 (by decide) rfl ?_
        refine fin s2 x _ (WM_m hs hs2) (by rw [e6]; exact hR2) (fun z => ?_)
        rw [e6, nxt_f] at z
        rw [e81]
        exact ⟨(hz z).1, (hz z).2, by rw [decide_eq_true e2]; rfl⟩
    -- the weight
    have af : ∀ (s : ST) (z3 : Option Value), WM σ s W → RM s Y (w4 Y S) → ((w4 Y S).2.1 = 0 → ∀ j, j < 3 → s 81 (11 + 16 * j + W) = nI (wV Y S j)) → BB G RX12 cX12_readWorld 4 none (d + 7) (QM G (PLm G μ σ Y (w6 Y S, bWorld Y S B))) 73 [some (.ref (G.b0 + 77)), some (.int (nI W)), some (.int (nI 3)), z3] [] (sh G s μ) := by
      intro s z3 hs hRs hz
      have hp4 : PO Y 0 (w4 Y S) := PO_wS hp 3
      refine b_aload_n dX12_readWorld_73 rfl ?_
      refine b_iconst (v := nI 1) dX12_readWorld_74 (by decide) ?_
      refine g_callVp [.int (nI 1)] dX12_readWorld_75 kX12_eats lX12_153 a77 rfl rfl (m_eats (d := d) (k := 1) hY hRs hp4 (by omega) (by omega)) rfl rfl (Nat.le_of_ble_eq_true rfl) ?_
      rintro r h9 ⟨rfl, s2, rfl, hs2, hR2⟩
      have e81 := hs2.1 81 (by omega) (by omega)
      refine b_if_eq 91 dX12_readWorld_78 (by decide) (fun e1 => ?_) (fun e1 => ?_)
      · skip
        have e2 : ¬ kd Y (w4 Y S) = 1 := of_decide_eq_false ((bI_0 _).mp e1)
        rw [if_neg e2] at hR2
        have e6 : w5 Y S = w4 Y S := by unfold w5; rw [if_neg e2]
        refine b_iconst (v := nI 1) dX12_readWorld_91 (by decide) ?_
        refine b_istore_n dX12_readWorld_92 (by decide) rfl ?_
        refine mid s2 _ _ (WM_m hs hs2) (by rw [e6]; exact hR2) (by rw [e6]; exact hp4) (fun z => ?_)
        rw [e6] at z
        rw [e81]
        exact ⟨hz z, by unfold wW; rw [if_neg e2]⟩
      · skip
        have e2 : kd Y (w4 Y S) = 1 := of_decide_eq_true ((bI_1 _).mp e1)
        rw [if_pos e2] at hR2
        have e6 : w5 Y S = tnum Y 1 10 (nxt Y (w4 Y S)) := by unfold w5; rw [if_pos e2]
        refine b_aload_n dX12_readWorld_81 rfl ?_
        refine b_iconst (v := nI 1) dX12_readWorld_82 (by decide) ?_
        refine b_bipush (v := nI 9) dX12_readWorld_83 (by decide) ?_
        refine g_callVp [.int (nI 1), .int (nI 9)] dX12_readWorld_85 kX12_takes lX12_149 a77 rfl rfl (m_takes (d := d) (zh := 10) hY hR2 (PO_nx0 hp4) (by omega) (by omega) (by decide)) rfl rfl (Nat.le_of_ble_eq_true rfl) ?_
        rintro r h9 ⟨v, s3, rfl, rfl, hs3, hR3, hv⟩
        refine b_goto 92 dX12_readWorld_88 (by decide) ?_
        refine b_istore_n dX12_readWorld_92 (by decide) rfl ?_
        refine mid s3 v _ (WM_m (WM_m hs hs2) hs3) (by rw [e6]; exact hR3) (by rw [e6]; exact PO_tnum (PO_nx0 hp4)) (fun z => ?_)
        have z4 := w4_0 z
        rw [e6] at z
        rw [hs3.1 81 (by omega) (by omega), e81]
        exact ⟨hz z4, by unfold wW; rw [if_pos e2]; exact hv z⟩
    have lp : ∀ (m k : Nat) (s : ST) (z3 : Option Value), k + m = 3 → WM σ s W → RM s Y (wS Y S k) → ((wS Y S k).2.1 = 0 → ∀ j, j < k → s 81 (11 + 16 * j + W) = nI (wV Y S j)) → BB G RX12 cX12_readWorld 4 none (d + 7) (QM G (PLm G μ σ Y (w6 Y S, bWorld Y S B))) 32 [some (.ref (G.b0 + 77)), some (.int (nI W)), some (.int (nI k)), z3] [] (sh G s μ) := by
      intro m
      induction m with
      | zero =>
        intro k s z3 hm hs hRs hz
        have ek : k = 3 := by omega
        subst ek
        refine b_iload_n dX12_readWorld_32 rfl ?_
        refine b_iconst (v := nI 3) dX12_readWorld_33 (by decide) ?_
        refine b_icmp_ge_t 73 dX12_readWorld_34 (by decide) (by decide) ?_
        exact af s z3 hs hRs hz
      | succ m ih =>
        intro k s z3 hm hs hRs hz
        refine b_iload_n dX12_readWorld_32 rfl ?_
        refine b_iconst (v := nI 3) dX12_readWorld_33 (by decide) ?_
        refine b_icmp_ge_f 73 dX12_readWorld_34 (by decide) (nI_ge (by omega) (by omega)) ?_
        refine b_aload_n dX12_readWorld_37 rfl ?_
        refine b_iconst (v := nI 0) dX12_readWorld_38 (by decide) ?_
        refine b_bipush (v := nI 99) dX12_readWorld_39 (by decide) ?_
        refine g_callVp [.int (nI 0), .int (nI 99)] dX12_readWorld_41 kX12_takes lX12_149 a77 rfl rfl (m_takes (d := d) (zh := 100) hY hRs (PO_wS hp k) (by omega) (by omega) (by decide)) rfl rfl (Nat.le_of_ble_eq_true rfl) ?_
        rintro r h9 ⟨v, s2, rfl, rfl, hs2, hR2, hv⟩
        have hR2' : RM s2 Y (wS Y S (k + 1)) := hR2
        have hl := hR2'.l
        refine b_istore_n dX12_readWorld_44 (by decide) rfl ?_
        refine b_aload_n dX12_readWorld_45 rfl ?_
        refine g_geti (x := nI ((wS Y S (k + 1)).2.1)) dX12_readWorld_46 fX12_129 a77 rfl hR2'.w ?_
        refine b_if_ne 67 dX12_readWorld_49 (by decide) (fun e1 => ?_) (fun e1 => ?_)
        · skip
          have e2 : (wS Y S (k + 1)).2.1 ≠ 0 := fun z => e1 (by rw [z]; rfl)
          refine b_iinc dX12_readWorld_67 rfl (nI_1 _) (by decide) rfl ?_
          refine b_goto 32 dX12_readWorld_70 (by decide) ?_
          exact ih (k + 1) s2 _ (by omega) (WM_m hs hs2) hR2' (fun z => absurd z e2)
        · skip
          have e2 : (wS Y S (k + 1)).2.1 = 0 := by rw [← nI_0, nI_eq (by omega) (by omega)] at e1; exact e1
          have hv' := hv e2
          have hw2 := WM_m hs hs2
          refine b_aload_n dX12_readWorld_52 rfl ?_
          refine g_get dX12_readWorld_53 fX12_24 a77 rfl ?_
          refine b_bipush (v := nI 11) dX12_readWorld_56 (by decide) ?_
          refine b_bipush (v := nI 16) dX12_readWorld_58 (by decide) ?_
          refine b_iload_n dX12_readWorld_60 rfl ?_
          refine b_imulN dX12_readWorld_61 ?_
          refine b_iaddN dX12_readWorld_62 ?_
          refine b_iload_n dX12_readWorld_63 rfl ?_
          refine b_iaddN dX12_readWorld_64 ?_
          refine b_iload_n dX12_readWorld_65 rfl ?_
          refine g_iast dX12_readWorld_66 a81 rfl (by omega) ?_
          refine b_iinc dX12_readWorld_67 rfl (nI_1 _) (by decide) rfl ?_
          refine b_goto 32 dX12_readWorld_70 (by decide) ?_
          refine ih (k + 1) _ _ (by omega) ⟨kN_p hw2.1 (by omega), by rw [pt_r (by omega)]; exact hw2.2.1, by rw [pt_r (by omega)]; exact hw2.2.2.1, fun q a b c => ?_⟩ (RM_pt hR2' (by omega) (by omega) (by omega)) (fun _ j hj => ?_)
          · rw [pt_j (by omega)]; exact hw2.2.2.2 q a b c
          · by_cases e : j = k
            · subst e
              rw [pt_s, wS_v (by omega)]; exact hv'
            · rw [pt_j (by omega), hs2.1 81 (by omega) (by omega)]
              exact hz (tnum_0 e2).1 j (by omega)
    exact lp 3 0 s1 _ (by omega) ⟨kN_m hs1, hs1.1 83 (by omega) (by omega), hs1.1 84 (by omega) (by omega), fun q _ _ _ => by rw [hs1.1 81 (by omega) (by omega)]⟩ hR1 (fun _ j hj => absurd hj (by omega))
  · skip
    rw [nI_eq (by omega) (by omega)] at c1
    have ex : xWorld Y S B = (fail Y 4 S, B) := by unfold xWorld; rw [if_pos (by omega)]
    rw [ex]
    refine b_aload_n dX12_readWorld_13 rfl ?_
    refine b_iconst (v := nI 4) dX12_readWorld_14 (by decide) ?_
    refine g_callVp [.int (nI 4)] dX12_readWorld_15 kX12_fails lX12_141 a77 rfl rfl (m_fails hR (f := 4) (by omega) (by omega)) rfl rfl (Nat.le_of_ble_eq_true rfl) ?_
    rintro r h9 ⟨rfl, s1, rfl, hs1, hR1⟩
    have hne : (fail Y 4 S).2.1 ≠ 0 := fail_0 (by omega)
    have h10 := hR1.l
    refine b_aload_n dX12_readWorld_18 rfl ?_
    refine g_geti (x := nI ((fail Y 4 S).2.1)) dX12_readWorld_19 fX12_129 a77 rfl hR1.w ?_
    refine b_if_eq_f 26 dX12_readWorld_22 (by decide) (nI_ne0 (by omega) (by omega)) ?_
    exact b_vret dX12_readWorld_25 (PLm_mk (kN_m hs1) hR1 (fun z => absurd z hne))

