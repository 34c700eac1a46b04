/-! ===== the reference: formulas ===== -/
/-- it goes on, or a fault comes -/
def Up (f : FS → FS) : Prop := ∀ s, (f s).2.1 = 0 → s.2.1 = 0 ∧ s.1 ≤ (f s).1
/-- behind a fault nothing is done -/
def Fi (f : FS → FS) : Prop := ∀ s, s.2.1 ≠ 0 → f s = s
theorem Up_nxt (Y : PX) : Up (nxt Y) := by
  intro s h
  rw [nxt_f] at h
  refine ⟨h, ?_⟩
  unfold nxt
  split
  · show s.1 ≤ s.1 + 1; omega
  · exact Nat.le_refl _
theorem nxt_1 {Y : PX} {s : FS} (h0 : s.2.1 = 0) (h1 : s.1 < Y.2) : (nxt Y s).1 = s.1 + 1 := by unfold nxt; rw [if_pos ⟨h0, h1⟩]
theorem Up_tell (c : Nat) : Up (tell c) := by
  intro s h
  refine ⟨(tell_0 h).1, ?_⟩
  unfold tell
  split <;> exact Nat.le_refl _
theorem tell_1 {c : Nat} {s : FS} : (tell c s).1 = s.1 := by unfold tell; split <;> rfl
theorem Up_tak (Y : PX) (k : Nat) : Up (takK Y k) := by
  intro s h
  refine ⟨(tak_0 h).1, ?_⟩
  unfold takK at h ⊢
  split at h
  · rename_i c; rw [if_pos c]; exact (Up_nxt Y s h).2
  · exact absurd h (fail_0 (by omega))
theorem Fi_fail (Y : PX) (f : Nat) : Fi (fail Y f) := fun s h => by unfold fail; rw [if_neg h]
theorem Fi_tell (c : Nat) : Fi (tell c) := fun s h => by unfold tell; rw [if_neg h]
theorem Up_atom {Y : PX} {inn : Option (FS → FS)} (hi : ∀ g, inn = some g → Up g) : Up (atomF Y inn) := by
  intro s h
  unfold atomF at h ⊢
  split at h
  · rename_i c
    rw [if_pos c]
    obtain ⟨a1, a2⟩ := Up_nxt Y _ h
    obtain ⟨b1, b2⟩ := Up_tell _ _ a1
    exact ⟨b1, Nat.le_trans b2 a2⟩
  · rename_i c
    rw [if_neg c]
    split at h
    · rename_i c
      rw [if_pos c]
      obtain ⟨a1, a2⟩ := Up_nxt Y _ h
      obtain ⟨b1, b2⟩ := Up_tell _ _ a1
      exact ⟨b1, Nat.le_trans b2 a2⟩
    · rename_i c
      rw [if_neg c]
      split at h
      · rename_i c
        rw [if_pos c]
        cases inn with
        | none => exact absurd h (fail_0 (by omega))
        | some g =>
          obtain ⟨a1, a2⟩ := Up_tak Y 26 _ h
          obtain ⟨b1, b2⟩ := hi g rfl _ a1
          obtain ⟨e1, e2⟩ := Up_nxt Y _ b1
          exact ⟨e1, Nat.le_trans e2 (Nat.le_trans b2 a2)⟩
      · exact absurd h (fail_0 (by omega))
theorem Fi_atom {Y : PX} {inn : Option (FS → FS)} : Fi (atomF Y inn) := by
  intro s h
  unfold atomF
  rw [kd_n h, if_neg (by omega), if_neg (by decide), if_neg (by omega)]
  exact Fi_fail Y 2 s h
theorem Up_lp {Y : PX} {ops : Nat → Option Nat} {body : FS → FS} (hb : Up body) : ∀ n, Up (lpF Y ops body n)
  | 0 => fun s h => ⟨h, Nat.le_refl _⟩
  | n + 1 => by
    intro s h
    rw [lpF] at h ⊢
    cases ho : ops (kd Y s) with
    | none => rw [ho] at h; exact ⟨h, Nat.le_refl _⟩
    | some c =>
      rw [ho] at h
      obtain ⟨a1, a2⟩ := Up_lp hb n _ h
      obtain ⟨b1, b2⟩ := Up_tell _ _ a1
      obtain ⟨e1, e2⟩ := hb _ b1
      obtain ⟨f1, f2⟩ := Up_nxt Y _ e1
      exact ⟨f1, Nat.le_trans f2 (Nat.le_trans e2 (Nat.le_trans b2 a2))⟩
theorem Fi_lp {Y : PX} {ops : Nat → Option Nat} {body : FS → FS} (ho : ops 17 = none) : ∀ n, Fi (lpF Y ops body n)
  | 0 => fun s _ => rfl
  | n + 1 => fun s h => by rw [lpF, kd_n h, ho]
theorem Up_lb {Y : PX} {ops : Nat → Option Nat} {body : FS → FS} (hb : Up body) : Up (fun s => lpF Y ops body 900 (body s)) := fun s h => by
  obtain ⟨a1, a2⟩ := Up_lp hb 900 _ h
  obtain ⟨b1, b2⟩ := hb _ a1
  exact ⟨b1, Nat.le_trans b2 a2⟩
theorem Fi_lb {Y : PX} {ops : Nat → Option Nat} {body : FS → FS} (ho : ops 17 = none) (hb : Fi body) : Fi (fun s => lpF Y ops body 900 (body s)) := fun s h => by
  show lpF Y ops body 900 (body s) = s
  rw [hb s h, Fi_lp ho 900 s h]
theorem Up_sum (Y : PX) : ∀ k, Up (sumN Y k)
  | 0 => Up_lb (Up_lb (Up_atom (fun g h => by cases h)))
  | k + 1 => Up_lb (Up_lb (Up_atom (fun g h => by cases h; exact Up_sum Y k)))
theorem Fi_sum (Y : PX) (k : Nat) : Fi (sumN Y k) := by rw [sumN_eq]; exact Fi_lb rfl (Fi_lb rfl Fi_atom)
theorem Up_innS (Y : PX) (k : Nat) : ∀ g, innS Y k = some g → Up g := by
  cases k with
  | zero => intro g h; cases h
  | succ k => intro g h; cases h; exact Up_sum Y k
theorem Up_unitF {Y : PX} {sm : FS → FS} {inn : Option ((FS → FS) × (FS → FS))} (hs : Up sm) (hi : ∀ g, inn = some g → Up g.1 ∧ Up g.2) : Up (unitF Y sm inn) := by
  intro s h
  unfold unitF at h ⊢
  split at h
  · rename_i c
    rw [if_pos c]
    cases inn with
    | none => exact absurd h (fail_0 (by omega))
    | some g =>
      obtain ⟨a1, a2⟩ := Up_tell 3008 _ h
      obtain ⟨b1, b2⟩ := (hi g rfl).1 _ a1
      obtain ⟨e1, e2⟩ := Up_nxt Y _ b1
      exact ⟨e1, Nat.le_trans e2 (Nat.le_trans b2 a2)⟩
  · rename_i c
    rw [if_neg c]
    split at h
    · rename_i c
      rw [if_pos c]
      cases inn with
      | none => exact absurd h (fail_0 (by omega))
      | some g =>
        obtain ⟨a1, a2⟩ := Up_tak Y 28 _ h
        obtain ⟨b1, b2⟩ := (hi g rfl).2 _ a1
        obtain ⟨e1, e2⟩ := Up_nxt Y _ b1
        exact ⟨e1, Nat.le_trans e2 (Nat.le_trans b2 a2)⟩
    · rename_i c
      rw [if_neg c]
      cases ho : opC (kd Y (sm s)) with
      | none => rw [ho] at h; exact absurd h (fail_0 (by omega))
      | some x =>
        rw [ho] at h
        obtain ⟨a1, a2⟩ := Up_tell x _ h
        obtain ⟨b1, b2⟩ := hs _ a1
        obtain ⟨e1, e2⟩ := Up_nxt Y _ b1
        obtain ⟨f1, f2⟩ := hs _ e1
        exact ⟨f1, Nat.le_trans f2 (Nat.le_trans e2 (Nat.le_trans b2 a2))⟩
theorem Up_ut (Y : PX) : ∀ k, Up (utN Y k).1 ∧ Up (utN Y k).2
  | 0 => by
    have h : Up (unitF Y (sumN Y 0) none) := Up_unitF (Up_sum Y 0) (fun g h => by cases h)
    exact ⟨h, Up_lb (Up_lb h)⟩
  | k + 1 => by
    have h : Up (unitF Y (sumN Y (k + 1)) (some (utN Y k))) := Up_unitF (Up_sum Y (k + 1)) (fun g h => by cases h; exact Up_ut Y k)
    exact ⟨h, Up_lb (Up_lb h)⟩
theorem kd_end {Y : PX} {T : FS} (hY : PxO Y) (hp : PO Y 0 T) (h : T.2.1 = 0 → Y.2 ≤ T.1) : kd Y T = 17 := by
  by_cases h0 : T.2.1 = 0
  · have h1 := h h0
    have h2 := (hp h0).1
    rw [kd_0 h0, show T.1 = Y.2 by omega, tK_M hY.1]
  · exact kd_n h0
theorem len_1 {Y : PX} {T : FS} (hY : PxO Y) (hp : PO Y 1 T) : T.2.1 = 0 → T.2.2.2.length < 900 := fun h0 => by
  have h1 := hp h0
  have h2 := hY.le
  omega
theorem at_a : ∀ k, k < 32 → (decide ((0 : Int64) ≤ (nI k).toInt64) && decide ((nI k).toInt64 ≤ (2 : Int64))) = decide (k < 3) := by decide +kernel
theorem at_b : ∀ k, k < 32 → (decide ((12 : Int64) ≤ (nI k).toInt64) && decide ((nI k).toInt64 ≤ (14 : Int64))) = (decide (12 ≤ k) && decide (k < 15)) := by decide +kernel
/-- the contract of a piece of the reader that takes how deep it stands -/
def RdM (G : GT) (d : Nat) (m : MT) (μ : SL) (Y : PX) (n : Nat) (f : FS → FS) : Prop := ∀ (σ : ST) (S : FS), RM σ Y S → PO Y 0 S → Fn G d m [.ref (G.b0 + 77), .int (nI n)] (sh G σ μ) (PRm G μ σ Y (f S) none)
theorem m_readAtom {G : GT} {d : Nat} {μ : SL} {Y : PX} {n k : Nat} (hY : PxO Y) (hn : n + k = 6) (hS : ∀ k', k = k' + 1 → RdM G (d + 6) mX12_readSum μ Y (n + 1) (sumN Y k')) : RdM G (d + 7) mX12_readAtom μ Y n (atomF Y (innS Y k)) := by
  intro σ S hR hp
  have hl := hR.l
  have hkd := (kd_ok Y S).1
  refine fn_of (ls := [some (.ref (G.b0 + 77)), some (.int (nI n))]) (by decide +kernel) (Nat.le_of_ble_eq_true rfl) 0 rfl ?_
  -- no number, no word
  have rest : ¬ kd Y S = 16 → isAt (kd Y S) = false → BB G RX12 cX12_readAtom 2 none (d + 7) (QM G (PRm G μ σ Y (atomF Y (innS Y k) S) none)) 82 [some (.ref (G.b0 + 77)), some (.int (nI n))] [] (sh G σ μ) := by
    intro c1 c2
    refine b_aload_n dX12_readAtom_82 rfl ?_
    refine b_bipush (v := nI 25) dX12_readAtom_83 (by decide) ?_
    refine g_callV [.int (nI 25)] dX12_readAtom_85 kX12_is lX12_135 a77 rfl rfl (m_is hR (k := 25) (by omega) (by omega)) rfl rfl (Nat.le_of_ble_eq_true rfl) ?_
    refine b_if_eq 124 dX12_readAtom_88 (by decide) (fun c3 => ?_) (fun c3 => ?_)
    · skip
      have c4 : ¬ kd Y S = 25 := of_decide_eq_false ((bI_0 _).mp c3)
      have ea : atomF Y (innS Y k) S = fail Y 2 S := by unfold atomF; rw [if_neg c1, if_neg (by rw [c2]; decide), if_neg c4]
      refine b_aload_n dX12_readAtom_124 rfl ?_
      refine b_iconst (v := nI 2) dX12_readAtom_125 (by decide) ?_
      refine g_callVp [.int (nI 2)] dX12_readAtom_126 kX12_fails lX12_141 a77 rfl rfl (m_fails hR (f := 2) (by omega) (by omega)) rfl rfl (Nat.le_of_ble_eq_true rfl) ?_
      rintro r h9 ⟨rfl, s1, rfl, hs1, hR1⟩
      exact b_vret dX12_readAtom_129 ⟨rfl, s1, rfl, hs1, by rw [ea]; exact hR1⟩
    · skip
      have c4 : kd Y S = 25 := of_decide_eq_true ((bI_1 _).mp c3)
      have ea : atomF Y (innS Y k) S = match innS Y k with | none => fail Y 4 S | some g => takK Y 26 (g (nxt Y S)) := by unfold atomF; rw [if_neg c1, if_neg (by rw [c2]; decide), if_pos c4]; rfl
      refine b_aload_n dX12_readAtom_91 rfl ?_
      refine b_iload_n dX12_readAtom_92 rfl ?_
      refine g_callVp [.int (nI n)] dX12_readAtom_93 kX12_goesIn lX12_168 a77 rfl rfl (m_goesIn (n := n) hY hR hp (by omega) (by omega)) rfl rfl (Nat.le_of_ble_eq_true rfl) ?_
      rintro r h9 ⟨rfl, s1, rfl, hs1, hR1⟩
      refine b_if_ne 100 dX12_readAtom_96 (by decide) (fun c5 => ?_) (fun c5 => ?_)
      · skip
        have c6 : ¬ n = 6 := of_decide_eq_true ((bI_1 _).mp c5)
        rw [if_neg c6] at hR1
        obtain ⟨k', rfl⟩ : ∃ k', k = k' + 1 := ⟨k - 1, by omega⟩
        have hp1 := PO_nx0 hp
        refine b_aload_n dX12_readAtom_100 rfl ?_
        refine b_iload_n dX12_readAtom_101 rfl ?_
        refine b_iconst (v := nI 1) dX12_readAtom_102 (by decide) ?_
        refine b_iaddN dX12_readAtom_103 ?_
        refine g_callVp [.int (nI (n + 1))] dX12_readAtom_104 kX12_readSum lX12_171 a77 rfl rfl (hS k' rfl s1 _ hR1 hp1) rfl rfl (Nat.le_of_ble_eq_true rfl) ?_
        rintro r h9 ⟨rfl, s2, rfl, hs2, hR2⟩
        have hp2 := PO_sum hY k' 0 _ hp1
        refine b_aload_n dX12_readAtom_107 rfl ?_
        refine b_bipush (v := nI 26) dX12_readAtom_108 (by decide) ?_
        refine g_callVp [.int (nI 26)] dX12_readAtom_110 kX12_eats lX12_153 a77 rfl rfl (m_eats (d := d) (k := 26) hY hR2 hp2 (by omega) (by omega)) rfl rfl (Nat.le_of_ble_eq_true rfl) ?_
        rintro r h9 ⟨rfl, s3, rfl, hs3, hR3⟩
        refine b_if_ne 129 dX12_readAtom_113 (by decide) (fun c7 => ?_) (fun c7 => ?_)
        · skip
          have c8 := of_decide_eq_true ((bI_1 _).mp c7)
          rw [if_pos c8] at hR3
          exact b_vret dX12_readAtom_129 ⟨rfl, s3, rfl, kM_t (kM_t hs1 hs2) hs3, by rw [ea]; show RM s3 Y (takK Y 26 (sumN Y k' (nxt Y S))); rw [tak_if, if_pos c8]; exact hR3⟩
        · skip
          have c8 := of_decide_eq_false ((bI_0 _).mp c7)
          rw [if_neg c8] at hR3
          refine b_aload_n dX12_readAtom_116 rfl ?_
          refine b_iconst (v := nI 2) dX12_readAtom_117 (by decide) ?_
          refine g_callVp [.int (nI 2)] dX12_readAtom_118 kX12_fails lX12_141 a77 rfl rfl (m_fails hR3 (f := 2) (by omega) (by omega)) rfl rfl (Nat.le_of_ble_eq_true rfl) ?_
          rintro r h9 ⟨rfl, s4, rfl, hs4, hR4⟩
          refine b_goto 129 dX12_readAtom_121 (by decide) ?_
          exact b_vret dX12_readAtom_129 ⟨rfl, s4, rfl, kM_t (kM_t (kM_t hs1 hs2) hs3) hs4, by rw [ea]; show RM s4 Y (takK Y 26 (sumN Y k' (nxt Y S))); rw [tak_if, if_neg c8]; exact hR4⟩
      · skip
        have c6 : n = 6 := Classical.not_not.mp (of_decide_eq_false ((bI_0 _).mp c5))
        rw [if_pos c6] at hR1
        have k0 : k = 0 := by omega
        subst k0
        exact b_vret dX12_readAtom_99 ⟨rfl, s1, rfl, hs1, by rw [ea]; exact hR1⟩
  refine b_aload_n dX12_readAtom_0 rfl ?_
  refine b_bipush (v := nI 16) dX12_readAtom_1 (by decide) ?_
  refine g_callV [.int (nI 16)] dX12_readAtom_3 kX12_is lX12_135 a77 rfl rfl (m_is hR (k := 16) (by omega) (by omega)) rfl rfl (Nat.le_of_ble_eq_true rfl) ?_
  refine b_if_eq 24 dX12_readAtom_6 (by decide) (fun c1 => ?_) (fun c1 => ?_)
  · skip
    have c2 : ¬ kd Y S = 16 := of_decide_eq_false ((bI_0 _).mp c1)
    refine b_aload_n dX12_readAtom_24 rfl ?_
    refine g_geti (x := nI S.2.1) dX12_readAtom_25 fX12_129 a77 rfl hR.w ?_
    refine b_if_ne 82 dX12_readAtom_28 (by decide) (fun c3 => ?_) (fun c3 => ?_)
    · skip
      have c4 : S.2.1 ≠ 0 := fun z => c3 (by rw [z]; rfl)
      exact rest c2 (by rw [kd_n c4]; rfl)
    · skip
      have c4 : S.2.1 = 0 := by rw [← nI_0, nI_eq (by omega) (by omega)] at c3; exact c3
      -- a word
      have wd : isAt (kd Y S) = true → BB G RX12 cX12_readAtom 2 none (d + 7) (QM G (PRm G μ σ Y (atomF Y (innS Y k) S) none)) 63 [some (.ref (G.b0 + 77)), some (.int (nI n))] [] (sh G σ μ) := by
        intro ha
        have h17 : kd Y S ≠ 17 := fun z => by rw [z] at ha; exact absurd ha (by decide)
        obtain ⟨k1, k2⟩ := kd_lt hY hp h17
        have hM9 := hY.le
        have hp9 := hp k1
        have ea : atomF Y (innS Y k) S = nxt Y (tell (1000 + kd Y S) S) := by unfold atomF; rw [if_neg c2, if_pos ha]
        refine b_aload_n dX12_readAtom_63 rfl ?_
        refine b_sipush (v := nI 1000) dX12_readAtom_64 (by decide) ?_
        refine b_aload_n dX12_readAtom_67 rfl ?_
        refine g_geti (x := nI (kd Y S)) dX12_readAtom_68 fX12_111 a77 rfl (hR.k c4) ?_
        refine b_iaddN dX12_readAtom_71 ?_
        refine g_callVp [.int (nI (1000 + (kd Y S)))] dX12_readAtom_72 kX12_tells lX12_159 a77 rfl rfl (m_tells (c := 1000 + kd Y S) hR (fun _ => by omega)) rfl rfl (Nat.le_of_ble_eq_true rfl) ?_
        rintro r h9 ⟨rfl, s1, rfl, hs1, hR1⟩
        refine b_aload_n dX12_readAtom_75 rfl ?_
        refine g_callVp [] dX12_readAtom_76 kX12_next lX12_138 a77 rfl rfl (m_nx0 (d := d + 1) hR1 (by rw [tell]; split <;> exact k1) (by rw [tell_1]; exact k2)) rfl rfl (Nat.le_of_ble_eq_true rfl) ?_
        rintro r h9 ⟨rfl, s2, rfl, hs2, hR2⟩
        refine b_goto 129 dX12_readAtom_79 (by decide) ?_
        exact b_vret dX12_readAtom_129 ⟨rfl, s2, rfl, kM_t hs1 hs2, by rw [ea]; exact hR2⟩
      refine b_aload_n dX12_readAtom_31 rfl ?_
      refine g_geti (x := nI (kd Y S)) dX12_readAtom_32 fX12_111 a77 rfl (hR.k c4) ?_
      refine b_i2l dX12_readAtom_35 ?_
      refine b_lconst (v := 0) dX12_readAtom_36 (by decide) ?_
      refine b_ldc2 dX12_readAtom_37 cvX12_162 ?_
      refine b_callSr [.long ((nI (kd Y S)).toInt64), .long 0, .long ((2))] dX12_readAtom_40 kX12_within lX12_145 c_within rfl rfl (Nat.le_of_ble_eq_true rfl) ?_
      rw [at_a _ hkd]
      refine b_if_ne 63 dX12_readAtom_43 (by decide) (fun c5 => ?_) (fun c5 => ?_)
      · skip
        have c6 := (bI_1 _).mp c5
        exact wd (by unfold isAt; rw [c6]; rfl)
      · skip
        have c6 := (bI_0 _).mp c5
        refine b_aload_n dX12_readAtom_46 rfl ?_
        refine g_geti (x := nI (kd Y S)) dX12_readAtom_47 fX12_111 a77 rfl (hR.k c4) ?_
        refine b_i2l dX12_readAtom_50 ?_
        refine b_ldc2 dX12_readAtom_51 cvX12_164 ?_
        refine b_ldc2 dX12_readAtom_54 cvX12_166 ?_
        refine b_callSr [.long ((nI (kd Y S)).toInt64), .long ((12)), .long ((14))] dX12_readAtom_57 kX12_within lX12_145 c_within rfl rfl (Nat.le_of_ble_eq_true rfl) ?_
        rw [at_b _ hkd]
        refine b_if_eq 82 dX12_readAtom_60 (by decide) (fun c7 => ?_) (fun c7 => ?_)
        · skip
          have c8 := (bI_0 _).mp c7
          exact rest c2 (by unfold isAt; rw [c6, c8]; rfl)
        · skip
          have c8 := (bI_1 _).mp c7
          exact wd (by unfold isAt; rw [c6, c8]; rfl)
  · skip
    have c2 : kd Y S = 16 := of_decide_eq_true ((bI_1 _).mp c1)
    obtain ⟨h0, hnum⟩ := hR.n c2
    obtain ⟨k1, k2⟩ := kd_lt hY hp (show kd Y S ≠ 17 by omega)
    have hM9 := hY.le
    have hp9 := hp k1
    have ea : atomF Y (innS Y k) S = nxt Y (tell (tV Y.1 S.1) S) := by unfold atomF; rw [if_pos c2]
    refine b_aload_n dX12_readAtom_9 rfl ?_
    refine b_aload_n dX12_readAtom_10 rfl ?_
    refine g_geti (x := nI (tV Y.1 S.1)) dX12_readAtom_11 fX12_124 a77 rfl hnum ?_
    refine g_callVp [.int (nI (tV Y.1 S.1))] dX12_readAtom_14 kX12_tells lX12_159 a77 rfl rfl (m_tells (c := tV Y.1 S.1) hR (fun _ => by omega)) rfl rfl (Nat.le_of_ble_eq_true rfl) ?_
    rintro r h9 ⟨rfl, s1, rfl, hs1, hR1⟩
    refine b_aload_n dX12_readAtom_17 rfl ?_
    refine g_callVp [] dX12_readAtom_18 kX12_next lX12_138 a77 rfl rfl (m_nx0 (d := d + 1) hR1 (by rw [tell]; split <;> exact k1) (by rw [tell_1]; exact k2)) rfl rfl (Nat.le_of_ble_eq_true rfl) ?_
    rintro r h9 ⟨rfl, s2, rfl, hs2, hR2⟩
    refine b_goto 129 dX12_readAtom_21 (by decide) ?_
    exact b_vret dX12_readAtom_129 ⟨rfl, s2, rfl, kM_t hs1 hs2, by rw [ea]; exact hR2⟩
theorem m_readTerm {G : GT} {d : Nat} {μ : SL} {Y : PX} {n : Nat} {B : FS → FS} (hY : PxO Y) (hA : RdM G (d + 6) mX12_readAtom μ Y n B) (hBp : ∀ c s, PO Y c s → PO Y c (B s)) (hU : Up B) : RdM G (d + 7) mX12_readTerm μ Y n (fun S => lpF Y opT B 900 (B S)) := by
  intro σ S hR hp
  refine fn_of (ls := [some (.ref (G.b0 + 77)), some (.int (nI n))]) (by decide +kernel) (Nat.le_of_ble_eq_true rfl) 0 rfl ?_
  refine b_aload_n dX12_readTerm_0 rfl ?_
  refine b_iload_n dX12_readTerm_1 rfl ?_
  refine g_callVp [.int (nI n)] dX12_readTerm_2 kX12_readAtom lX12_174 a77 rfl rfl (hA σ S hR hp) rfl rfl (Nat.le_of_ble_eq_true rfl) ?_
  rintro r h9 ⟨rfl, s0, rfl, hs0, hR0⟩
  have lp : ∀ (m : Nat) (T : FS) (s : ST), kM σ s → RM s Y T → PO Y 0 T → (T.2.1 = 0 → Y.2 ≤ T.1 + m) → lpF Y opT B m T = lpF Y opT B 900 (B S) → BB G RX12 cX12_readTerm 2 none (d + 7) (QM G (PRm G μ σ Y (lpF Y opT B 900 (B S)) none)) 5 [some (.ref (G.b0 + 77)), some (.int (nI n))] [] (sh G s μ) := by
    have st : ∀ (T : FS) (s : ST), kM σ s → RM s Y T → PO Y 0 T → (¬ kd Y T = 24 → T = lpF Y opT B 900 (B S)) → (kd Y T = 24 → ∀ s1, kM σ s1 → RM s1 Y (nxt Y T) → BB G RX12 cX12_readTerm 2 none (d + 7) (QM G (PRm G μ σ Y (lpF Y opT B 900 (B S)) none)) 14 [some (.ref (G.b0 + 77)), some (.int (nI n))] [] (sh G s1 μ)) → BB G RX12 cX12_readTerm 2 none (d + 7) (QM G (PRm G μ σ Y (lpF Y opT B 900 (B S)) none)) 5 [some (.ref (G.b0 + 77)), some (.int (nI n))] [] (sh G s μ) := by
      intro T s hs hRT hpT hno hgo
      refine b_aload_n dX12_readTerm_5 rfl ?_
      refine b_bipush (v := nI 24) dX12_readTerm_6 (by decide) ?_
      refine g_callVp [.int (nI 24)] dX12_readTerm_8 kX12_eats lX12_153 a77 rfl rfl (m_eats (d := d) (k := 24) hY hRT hpT (by omega) (by omega)) rfl rfl (Nat.le_of_ble_eq_true rfl) ?_
      rintro r h9 ⟨rfl, s1, rfl, hs1, hR1⟩
      refine b_if_eq 29 dX12_readTerm_11 (by decide) (fun c1 => ?_) (fun c1 => ?_)
      · skip
        have c2 : ¬ kd Y T = 24 := of_decide_eq_false ((bI_0 _).mp c1)
        rw [if_neg c2] at hR1
        exact b_vret dX12_readTerm_29 ⟨rfl, s1, rfl, kM_t hs hs1, by rw [← hno c2]; exact hR1⟩
      · skip
        have c2 : kd Y T = 24 := of_decide_eq_true ((bI_1 _).mp c1)
        rw [if_pos c2] at hR1
        exact hgo c2 s1 (kM_t hs hs1) hR1
    intro m
    induction m with
    | zero =>
      intro T s hs hRT hpT hm he
      have h17 := kd_end hY hpT (fun z => by have := hm z; omega)
      exact st T s hs hRT hpT (fun _ => he) (fun z => absurd z (by omega))
    | succ m ih =>
      intro T s hs hRT hpT hm he
      refine st T s hs hRT hpT (fun z => ?_) (fun c2 s1 hs1 hR1 => ?_)
      · rw [lpF, show opT (kd Y T) = none by unfold opT; rw [if_neg z]] at he
        exact he
      · have h17 : kd Y T ≠ 17 := by omega
        obtain ⟨k1, k2⟩ := kd_lt hY hpT h17
        rw [lpF, show opT (kd Y T) = some 3002 by unfold opT; rw [if_pos c2]] at he
        have hp1 := PO_nxt hY hpT h17
        have hp2 := hBp _ _ hp1
        refine b_aload_n dX12_readTerm_14 rfl ?_
        refine b_iload_n dX12_readTerm_15 rfl ?_
        refine g_callVp [.int (nI n)] dX12_readTerm_16 kX12_readAtom lX12_174 a77 rfl rfl (hA s1 _ hR1 (PO_mono hp1 (by omega))) rfl rfl (Nat.le_of_ble_eq_true rfl) ?_
        rintro r h9 ⟨rfl, s2, rfl, hs2, hR2⟩
        refine b_aload_n dX12_readTerm_19 rfl ?_
        refine b_sipush (v := nI 3002) dX12_readTerm_20 (by decide) ?_
        refine g_callVp [.int (nI 3002)] dX12_readTerm_23 kX12_tells lX12_159 a77 rfl rfl (m_tells (c := 3002) hR2 (len_1 hY hp2)) rfl rfl (Nat.le_of_ble_eq_true rfl) ?_
        rintro r h9 ⟨rfl, s3, rfl, hs3, hR3⟩
        refine b_goto 5 dX12_readTerm_26 (by decide) ?_
        refine ih _ s3 (kM_t (kM_t hs1 hs2) hs3) hR3 (PO_tell hp2) (fun z => ?_) he
        obtain ⟨a1, a2⟩ := Up_tell _ _ z
        obtain ⟨b1, b2⟩ := hU _ a1
        rw [nxt_1 k1 k2] at b2
        have := hm k1
        omega
  exact lp 900 _ s0 hs0 hR0 (hBp 0 _ hp) (fun _ => by have := hY.le; omega) rfl
theorem m_readBoth {G : GT} {d : Nat} {μ : SL} {Y : PX} {n : Nat} {B : FS → FS} (hY : PxO Y) (hA : RdM G (d + 6) mX12_readUnit μ Y n B) (hBp : ∀ c s, PO Y c s → PO Y c (B s)) (hU : Up B) : RdM G (d + 7) mX12_readBoth μ Y n (fun S => lpF Y opA B 900 (B S)) := by
  intro σ S hR hp
  refine fn_of (ls := [some (.ref (G.b0 + 77)), some (.int (nI n))]) (by decide +kernel) (Nat.le_of_ble_eq_true rfl) 0 rfl ?_
  refine b_aload_n dX12_readBoth_0 rfl ?_
  refine b_iload_n dX12_readBoth_1 rfl ?_
  refine g_callVp [.int (nI n)] dX12_readBoth_2 kX12_readUnit lX12_180 a77 rfl rfl (hA σ S hR hp) rfl rfl (Nat.le_of_ble_eq_true rfl) ?_
  rintro r h9 ⟨rfl, s0, rfl, hs0, hR0⟩
  have lp : ∀ (m : Nat) (T : FS) (s : ST), kM σ s → RM s Y T → PO Y 0 T → (T.2.1 = 0 → Y.2 ≤ T.1 + m) → lpF Y opA B m T = lpF Y opA B 900 (B S) → BB G RX12 cX12_readBoth 2 none (d + 7) (QM G (PRm G μ σ Y (lpF Y opA B 900 (B S)) none)) 5 [some (.ref (G.b0 + 77)), some (.int (nI n))] [] (sh G s μ) := by
    have st : ∀ (T : FS) (s : ST), kM σ s → RM s Y T → PO Y 0 T → (¬ kd Y T = 10 → T = lpF Y opA B 900 (B S)) → (kd Y T = 10 → ∀ s1, kM σ s1 → RM s1 Y (nxt Y T) → BB G RX12 cX12_readBoth 2 none (d + 7) (QM G (PRm G μ σ Y (lpF Y opA B 900 (B S)) none)) 14 [some (.ref (G.b0 + 77)), some (.int (nI n))] [] (sh G s1 μ)) → BB G RX12 cX12_readBoth 2 none (d + 7) (QM G (PRm G μ σ Y (lpF Y opA B 900 (B S)) none)) 5 [some (.ref (G.b0 + 77)), some (.int (nI n))] [] (sh G s μ) := by
      intro T s hs hRT hpT hno hgo
      refine b_aload_n dX12_readBoth_5 rfl ?_
      refine b_bipush (v := nI 10) dX12_readBoth_6 (by decide) ?_
      refine g_callVp [.int (nI 10)] dX12_readBoth_8 kX12_eats lX12_153 a77 rfl rfl (m_eats (d := d) (k := 10) hY hRT hpT (by omega) (by omega)) rfl rfl (Nat.le_of_ble_eq_true rfl) ?_
      rintro r h9 ⟨rfl, s1, rfl, hs1, hR1⟩
      refine b_if_eq 29 dX12_readBoth_11 (by decide) (fun c1 => ?_) (fun c1 => ?_)
      · skip
        have c2 : ¬ kd Y T = 10 := of_decide_eq_false ((bI_0 _).mp c1)
        rw [if_neg c2] at hR1
        exact b_vret dX12_readBoth_29 ⟨rfl, s1, rfl, kM_t hs hs1, by rw [← hno c2]; exact hR1⟩
      · skip
        have c2 : kd Y T = 10 := of_decide_eq_true ((bI_1 _).mp c1)
        rw [if_pos c2] at hR1
        exact hgo c2 s1 (kM_t hs hs1) hR1
    intro m
    induction m with
    | zero =>
      intro T s hs hRT hpT hm he
      have h17 := kd_end hY hpT (fun z => by have := hm z; omega)
      exact st T s hs hRT hpT (fun _ => he) (fun z => absurd z (by omega))
    | succ m ih =>
      intro T s hs hRT hpT hm he
      refine st T s hs hRT hpT (fun z => ?_) (fun c2 s1 hs1 hR1 => ?_)
      · rw [lpF, show opA (kd Y T) = none by unfold opA; rw [if_neg z]] at he
        exact he
      · have h17 : kd Y T ≠ 17 := by omega
        obtain ⟨k1, k2⟩ := kd_lt hY hpT h17
        rw [lpF, show opA (kd Y T) = some 3006 by unfold opA; rw [if_pos c2]] at he
        have hp1 := PO_nxt hY hpT h17
        have hp2 := hBp _ _ hp1
        refine b_aload_n dX12_readBoth_14 rfl ?_
        refine b_iload_n dX12_readBoth_15 rfl ?_
        refine g_callVp [.int (nI n)] dX12_readBoth_16 kX12_readUnit lX12_180 a77 rfl rfl (hA s1 _ hR1 (PO_mono hp1 (by omega))) rfl rfl (Nat.le_of_ble_eq_true rfl) ?_
        rintro r h9 ⟨rfl, s2, rfl, hs2, hR2⟩
        refine b_aload_n dX12_readBoth_19 rfl ?_
        refine b_sipush (v := nI 3006) dX12_readBoth_20 (by decide) ?_
        refine g_callVp [.int (nI 3006)] dX12_readBoth_23 kX12_tells lX12_159 a77 rfl rfl (m_tells (c := 3006) hR2 (len_1 hY hp2)) rfl rfl (Nat.le_of_ble_eq_true rfl) ?_
        rintro r h9 ⟨rfl, s3, rfl, hs3, hR3⟩
        refine b_goto 5 dX12_readBoth_26 (by decide) ?_
        refine ih _ s3 (kM_t (kM_t hs1 hs2) hs3) hR3 (PO_tell hp2) (fun z => ?_) he
        obtain ⟨a1, a2⟩ := Up_tell _ _ z
        obtain ⟨b1, b2⟩ := hU _ a1
        rw [nxt_1 k1 k2] at b2
        have := hm k1
        omega
  exact lp 900 _ s0 hs0 hR0 (hBp 0 _ hp) (fun _ => by have := hY.le; omega) rfl
theorem m_readTruth {G : GT} {d : Nat} {μ : SL} {Y : PX} {n : Nat} {B : FS → FS} (hY : PxO Y) (hA : RdM G (d + 6) mX12_readBoth μ Y n B) (hBp : ∀ c s, PO Y c s → PO Y c (B s)) (hU : Up B) : RdM G (d + 7) mX12_readTruth μ Y n (fun S => lpF Y opO B 900 (B S)) := by
  intro σ S hR hp
  refine fn_of (ls := [some (.ref (G.b0 + 77)), some (.int (nI n))]) (by decide +kernel) (Nat.le_of_ble_eq_true rfl) 0 rfl ?_
  refine b_aload_n dX12_readTruth_0 rfl ?_
  refine b_iload_n dX12_readTruth_1 rfl ?_
  refine g_callVp [.int (nI n)] dX12_readTruth_2 kX12_readBoth lX12_186 a77 rfl rfl (hA σ S hR hp) rfl rfl (Nat.le_of_ble_eq_true rfl) ?_
  rintro r h9 ⟨rfl, s0, rfl, hs0, hR0⟩
  have lp : ∀ (m : Nat) (T : FS) (s : ST), kM σ s → RM s Y T → PO Y 0 T → (T.2.1 = 0 → Y.2 ≤ T.1 + m) → lpF Y opO B m T = lpF Y opO B 900 (B S) → BB G RX12 cX12_readTruth 2 none (d + 7) (QM G (PRm G μ σ Y (lpF Y opO B 900 (B S)) none)) 5 [some (.ref (G.b0 + 77)), some (.int (nI n))] [] (sh G s μ) := by
    have st : ∀ (T : FS) (s : ST), kM σ s → RM s Y T → PO Y 0 T → (¬ kd Y T = 9 → T = lpF Y opO B 900 (B S)) → (kd Y T = 9 → ∀ s1, kM σ s1 → RM s1 Y (nxt Y T) → BB G RX12 cX12_readTruth 2 none (d + 7) (QM G (PRm G μ σ Y (lpF Y opO B 900 (B S)) none)) 14 [some (.ref (G.b0 + 77)), some (.int (nI n))] [] (sh G s1 μ)) → BB G RX12 cX12_readTruth 2 none (d + 7) (QM G (PRm G μ σ Y (lpF Y opO B 900 (B S)) none)) 5 [some (.ref (G.b0 + 77)), some (.int (nI n))] [] (sh G s μ) := by
      intro T s hs hRT hpT hno hgo
      refine b_aload_n dX12_readTruth_5 rfl ?_
      refine b_bipush (v := nI 9) dX12_readTruth_6 (by decide) ?_
      refine g_callVp [.int (nI 9)] dX12_readTruth_8 kX12_eats lX12_153 a77 rfl rfl (m_eats (d := d) (k := 9) hY hRT hpT (by omega) (by omega)) rfl rfl (Nat.le_of_ble_eq_true rfl) ?_
      rintro r h9 ⟨rfl, s1, rfl, hs1, hR1⟩
      refine b_if_eq 29 dX12_readTruth_11 (by decide) (fun c1 => ?_) (fun c1 => ?_)
      · skip
        have c2 : ¬ kd Y T = 9 := of_decide_eq_false ((bI_0 _).mp c1)
        rw [if_neg c2] at hR1
        exact b_vret dX12_readTruth_29 ⟨rfl, s1, rfl, kM_t hs hs1, by rw [← hno c2]; exact hR1⟩
      · skip
        have c2 : kd Y T = 9 := of_decide_eq_true ((bI_1 _).mp c1)
        rw [if_pos c2] at hR1
        exact hgo c2 s1 (kM_t hs hs1) hR1
    intro m
    induction m with
    | zero =>
      intro T s hs hRT hpT hm he
      have h17 := kd_end hY hpT (fun z => by have := hm z; omega)
      exact st T s hs hRT hpT (fun _ => he) (fun z => absurd z (by omega))
    | succ m ih =>
      intro T s hs hRT hpT hm he
      refine st T s hs hRT hpT (fun z => ?_) (fun c2 s1 hs1 hR1 => ?_)
      · rw [lpF, show opO (kd Y T) = none by unfold opO; rw [if_neg z]] at he
        exact he
      · have h17 : kd Y T ≠ 17 := by omega
        obtain ⟨k1, k2⟩ := kd_lt hY hpT h17
        rw [lpF, show opO (kd Y T) = some 3007 by unfold opO; rw [if_pos c2]] at he
        have hp1 := PO_nxt hY hpT h17
        have hp2 := hBp _ _ hp1
        refine b_aload_n dX12_readTruth_14 rfl ?_
        refine b_iload_n dX12_readTruth_15 rfl ?_
        refine g_callVp [.int (nI n)] dX12_readTruth_16 kX12_readBoth lX12_186 a77 rfl rfl (hA s1 _ hR1 (PO_mono hp1 (by omega))) rfl rfl (Nat.le_of_ble_eq_true rfl) ?_
        rintro r h9 ⟨rfl, s2, rfl, hs2, hR2⟩
        refine b_aload_n dX12_readTruth_19 rfl ?_
        refine b_sipush (v := nI 3007) dX12_readTruth_20 (by decide) ?_
        refine g_callVp [.int (nI 3007)] dX12_readTruth_23 kX12_tells lX12_159 a77 rfl rfl (m_tells (c := 3007) hR2 (len_1 hY hp2)) rfl rfl (Nat.le_of_ble_eq_true rfl) ?_
        rintro r h9 ⟨rfl, s3, rfl, hs3, hR3⟩
        refine b_goto 5 dX12_readTruth_26 (by decide) ?_
        refine ih _ s3 (kM_t (kM_t hs1 hs2) hs3) hR3 (PO_tell hp2) (fun z => ?_) he
        obtain ⟨a1, a2⟩ := Up_tell _ _ z
        obtain ⟨b1, b2⟩ := hU _ a1
        rw [nxt_1 k1 k2] at b2
        have := hm k1
        omega
  exact lp 900 _ s0 hs0 hR0 (hBp 0 _ hp) (fun _ => by have := hY.le; omega) rfl

