/-! ===== the reference: reading, its small steps ===== -/
def kM (σ s : ST) : Prop := (∀ c, c ≠ 77 → c ≠ 82 → s c = σ c) ∧ ∀ q, q < 9 ∨ q = 11 ∨ (15 < q ∧ q ≠ 18) → s 77 q = σ 77 q
theorem kM_r (σ : ST) : kM σ σ := ⟨fun _ _ _ => rfl, fun _ _ => rfl⟩
theorem kM_t {σ s s' : ST} (h : kM σ s) (h' : kM s s') : kM σ s' := ⟨fun c a b => (h'.1 c a b).trans (h.1 c a b), fun q a => (h'.2 q a).trans (h.2 q a)⟩
theorem kM_nx {σ s : ST} (h : Nx σ s) : kM σ s := ⟨fun c a _ => h.1 c a, fun q a => h.2 q (by omega)⟩
theorem kM_p {σ s : ST} {q : Nat} {x : Int32} (h : kM σ s) (hq : ¬ (q < 9 ∨ q = 11 ∨ (15 < q ∧ q ≠ 18))) : kM σ (pt s 77 q x) := ⟨fun c a b => by rw [pt_r a]; exact h.1 c a b, fun k a => by rw [pt_j (by omega)]; exact h.2 k a⟩
theorem kM_82 {σ s : ST} {q : Nat} {x : Int32} (h : kM σ s) : kM σ (pt s 82 q x) := ⟨fun c a b => by rw [pt_r b]; exact h.1 c a b, fun k a => by rw [pt_a (by omega)]; exact h.2 k a⟩
/-- the reference's reader stands where the reading does -/
def RM (s : ST) (Y : PX) (S : FS) : Prop := TxM s Y.1 ∧ S.2.1 < 10 ∧ s 77 14 = nI S.2.1 ∧ (S.2.1 = 0 → TkM s Y.1 S.1 ∧ s 77 18 = nI S.2.2.2.length ∧ ∀ j c, S.2.2.2[j]? = some c → s 82 j = nI c) ∧ (S.2.1 ≠ 0 → s 77 15 = nI S.2.2.1)
theorem RM.w {s : ST} {Y : PX} {S : FS} (h : RM s Y S) : s 77 14 = nI S.2.1 := h.2.2.1
theorem RM.l {s : ST} {Y : PX} {S : FS} (h : RM s Y S) : S.2.1 < 10 := h.2.1
theorem kd_0 {Y : PX} {S : FS} (h : S.2.1 = 0) : kd Y S = tK Y.1 S.1 := by unfold kd; rw [if_pos h]
theorem kd_n {Y : PX} {S : FS} (h : S.2.1 ≠ 0) : kd Y S = 17 := by unfold kd; rw [if_neg h]
theorem RM.k {s : ST} {Y : PX} {S : FS} (h : RM s Y S) (h0 : S.2.1 = 0) : s 77 12 = nI (kd Y S) := by rw [kd_0 h0]; exact (h.2.2.2.1 h0).1.2.2.1
theorem RM.a {s : ST} {Y : PX} {S : FS} (h : RM s Y S) (h0 : S.2.1 = 0) : s 77 9 = nI (tS Y.1 S.1) := (h.2.2.2.1 h0).1.1
theorem RM.n {s : ST} {Y : PX} {S : FS} (h : RM s Y S) (h6 : kd Y S = 16) : S.2.1 = 0 ∧ s 77 13 = nI (tV Y.1 S.1) := by
  have h0 : S.2.1 = 0 := by
    by_cases z : S.2.1 = 0
    · exact z
    · rw [kd_n z] at h6; omega
  exact ⟨h0, (h.2.2.2.1 h0).1.2.2.2 (by rw [← kd_0 h0]; exact h6)⟩
/-- reading touches nothing else -/
theorem RM_of {s s' : ST} {Y : PX} {S : FS} (h : RM s Y S) (e7 : ∀ q, 9 ≤ q → s' 77 q = s 77 q) (e80 : s' 80 = s 80) (e82 : s' 82 = s 82) : RM s' Y S := by
  obtain ⟨⟨t1, t2, t3⟩, g2, g3, g4, g5⟩ := h
  refine ⟨⟨t1, by rw [e80]; exact t2, by rw [e7 11 (by omega)]; exact t3⟩, g2, by rw [e7 14 (by omega)]; exact g3, fun h0 => ?_, fun h0 => by rw [e7 15 (by omega)]; exact g5 h0⟩
  obtain ⟨⟨a1, a2, a3, a4⟩, l1, l2⟩ := g4 h0
  exact ⟨⟨by rw [e7 9 (by omega)]; exact a1, by rw [e7 10 (by omega)]; exact a2, by rw [e7 12 (by omega)]; exact a3, fun z => by rw [e7 13 (by omega)]; exact a4 z⟩, by rw [e7 18 (by omega)]; exact l1, by rw [e82]; exact l2⟩
def PRm (G : GT) (μ : SL) (σ : ST) (Y : PX) (S : FS) (v : Option Value) : Option Value → HT → Prop := fun r h' => r = v ∧ ∃ s : ST, h' = sh G s μ ∧ kM σ s ∧ RM s Y S
theorem m_nx0 {G : GT} {d : Nat} {σ : ST} {μ : SL} {Y : PX} {S : FS} (hR : RM σ Y S) (h0 : S.2.1 = 0) (h1 : S.1 < Y.2) : Fn G (d + 5) mX12_next [.ref (G.b0 + 77)] (sh G σ μ) (PRm G μ σ Y (nxt Y S) none) := by
  obtain ⟨g1, g2, g3, g4, g5⟩ := hR
  obtain ⟨⟨t1, t2, t3, t4⟩, l1, l2⟩ := g4 h0
  refine Fn.mono (m_next (i := S.1 + 1) g1 t2) ?_
  rintro r g ⟨e1, s, e2, n, tk⟩
  have en : nxt Y S = (S.1 + 1, S.2) := by unfold nxt; rw [if_pos ⟨h0, h1⟩]
  refine ⟨e1, s, e2, kM_nx n, ?_⟩
  rw [en]
  exact ⟨TxM_nx g1 n, g2, by rw [n.2 14 (by omega)]; exact g3, fun _ => ⟨tk, by rw [n.2 18 (by omega)]; exact l1, by rw [n.1 82 (by omega)]; exact l2⟩, fun z => absurd h0 z⟩
theorem m_nx {G : GT} {d : Nat} {σ : ST} {μ : SL} {Y : PX} {S : FS} (hY : PxO Y) (hR : RM σ Y S) (hp : PO Y 0 S) (hk : kd Y S ≠ 17) : Fn G (d + 5) mX12_next [.ref (G.b0 + 77)] (sh G σ μ) (PRm G μ σ Y (nxt Y S) none) := m_nx0 hR (kd_lt hY hp hk).1 (kd_lt hY hp hk).2
theorem m_is {G : GT} {d : Nat} {σ : ST} {μ : SL} {Y : PX} {S : FS} {k : Nat} (hR : RM σ Y S) (hk : k < 32) (h17 : k ≠ 17) : Fn G d mX12_is [.ref (G.b0 + 77), .int (nI k)] (sh G σ μ) (Ret (some (.int (bI (decide (kd Y S = k))))) (sh G σ μ)) := by
  have hl := hR.l
  have hkd := (kd_ok Y S).1
  refine fn_of (ls := [some (.ref (G.b0 + 77)), some (.int (nI k))]) (by decide +kernel) (Nat.le_of_ble_eq_true rfl) 0 rfl ?_
  refine b_aload_n dX12_is_0 rfl ?_
  refine g_geti (x := nI S.2.1) dX12_is_1 fX12_129 a77 rfl hR.w ?_
  refine b_if_ne 19 dX12_is_4 (by decide) (fun c1 => ?_) (fun c1 => ?_)
  · skip
    have c2 : S.2.1 ≠ 0 := fun z => c1 (by rw [z]; rfl)
    refine b_iconst (v := nI 0) dX12_is_19 (by decide) ?_
    exact b_zret dX12_is_20 rfl ⟨by rw [decide_eq_false (by rw [kd_n c2]; omega)]; rfl, rfl⟩
  · skip
    have c2 : S.2.1 = 0 := by rw [← nI_0, nI_eq (by omega) (by omega)] at c1; exact c1
    refine b_aload_n dX12_is_7 rfl ?_
    refine g_geti (x := nI (kd Y S)) dX12_is_8 fX12_111 a77 rfl (hR.k c2) ?_
    refine b_iload_n dX12_is_11 rfl ?_
    refine b_icmp_ne 19 dX12_is_12 (by decide) (fun c3 => ?_) (fun c3 => ?_)
    · skip
      refine b_iconst (v := nI 0) dX12_is_19 (by decide) ?_
      exact b_zret dX12_is_20 rfl ⟨by rw [decide_eq_false (fun z => c3 (by rw [z]))]; rfl, rfl⟩
    · skip
      rw [nI_eq (by omega) (by omega)] at c3
      refine b_iconst (v := nI 1) dX12_is_15 (by decide) ?_
      refine b_goto 20 dX12_is_16 (by decide) ?_
      exact b_zret dX12_is_20 rfl ⟨by rw [decide_eq_true c3]; rfl, rfl⟩
theorem m_fails {G : GT} {d : Nat} {σ : ST} {μ : SL} {Y : PX} {S : FS} {f : Nat} (hR : RM σ Y S) (hf : 1 ≤ f) (hf9 : f < 10) : Fn G d mX12_fails [.ref (G.b0 + 77), .int (nI f)] (sh G σ μ) (PRm G μ σ Y (fail Y f S) none) := by
  have hl := hR.l
  have hkd := (kd_ok Y S).1
  refine fn_of (ls := [some (.ref (G.b0 + 77)), some (.int (nI f))]) (by decide +kernel) (Nat.le_of_ble_eq_true rfl) 0 rfl ?_
  refine b_aload_n dX12_fails_0 rfl ?_
  refine g_geti (x := nI S.2.1) dX12_fails_1 fX12_129 a77 rfl hR.w ?_
  refine b_if_eq 8 dX12_fails_4 (by decide) (fun c1 => ?_) (fun c1 => ?_)
  · skip
    have c2 : S.2.1 = 0 := by rw [← nI_0, nI_eq (by omega) (by omega)] at c1; exact c1
    have ef : fail Y f S = (S.1, (if tK Y.1 S.1 = 18 then 1 else f), tS Y.1 S.1, S.2.2.2) := by unfold fail; rw [if_pos c2]
    have fin : ∀ v, v = nI (if tK Y.1 S.1 = 18 then 1 else f) → BB G RX12 cX12_fails 2 none d (QM G (PRm G μ σ Y (fail Y f S) none)) 23 [some (.ref (G.b0 + 77)), some (.int (nI f))] [.int v, .ref (G.b0 + 77)] (sh G σ μ) := by
      intro v hv
      refine g_put dX12_fails_23 wX12_129 a77 tfX12_14 (Nat.le_of_ble_eq_true rfl) rfl ?_
      refine b_aload_n dX12_fails_26 rfl ?_
      refine b_aload_n dX12_fails_27 rfl ?_
      refine g_geti (x := nI (tS Y.1 S.1)) dX12_fails_28 fX12_101 a77 rfl (by rw [pt_j (by omega)]; exact hR.a c2) ?_
      refine g_put dX12_fails_31 wX12_132 a77 tfX12_15 (Nat.le_of_ble_eq_true rfl) rfl ?_
      refine b_vret dX12_fails_34 ⟨rfl, _, rfl, kM_p (kM_p (kM_r σ) (by omega)) (by omega), ?_⟩
      rw [ef]
      refine ⟨⟨hR.1.1, fun k hk => by rw [pt_r (by omega), pt_r (by omega)]; exact hR.1.2.1 k hk, by rw [pt_j (by omega), pt_j (by omega)]; exact hR.1.2.2⟩, ?_, ?_, fun z => ?_, fun _ => pt_s _ _ _ _⟩
      · show (if tK Y.1 S.1 = 18 then 1 else f) < 10
        split <;> omega
      · rw [pt_j (by omega), pt_s]; exact hv
      · have z' : (if tK Y.1 S.1 = 18 then 1 else f) = 0 := z
        split at z' <;> omega
    refine b_aload_n dX12_fails_8 rfl ?_
    refine b_aload_n dX12_fails_9 rfl ?_
    refine g_geti (x := nI (kd Y S)) dX12_fails_10 fX12_111 a77 rfl (hR.k c2) ?_
    refine b_bipush (v := nI 18) dX12_fails_13 (by decide) ?_
    refine b_icmp_ne 22 dX12_fails_15 (by decide) (fun c3 => ?_) (fun c3 => ?_)
    · skip
      refine b_iload_n dX12_fails_22 rfl ?_
      exact fin _ (by rw [if_neg (fun z => c3 (by rw [kd_0 c2, z]))])
    · skip
      rw [nI_eq (by omega) (by omega), kd_0 c2] at c3
      refine b_iconst (v := nI 1) dX12_fails_18 (by decide) ?_
      refine b_goto 23 dX12_fails_19 (by decide) ?_
      exact fin _ (by rw [if_pos c3])
  · skip
    have c2 : S.2.1 ≠ 0 := fun z => c1 (by rw [z]; rfl)
    exact b_vret dX12_fails_7 ⟨rfl, σ, rfl, kM_r σ, by unfold fail; rw [if_neg c2]; exact hR⟩
theorem m_eats {G : GT} {d : Nat} {σ : ST} {μ : SL} {Y : PX} {S : FS} {k : Nat} (hY : PxO Y) (hR : RM σ Y S) (hp : PO Y 0 S) (hk : k < 32) (h17 : k ≠ 17) : Fn G (d + 6) mX12_eats [.ref (G.b0 + 77), .int (nI k)] (sh G σ μ) (PRm G μ σ Y (if kd Y S = k then nxt Y S else S) (some (.int (bI (decide (kd Y S = k)))))) := by
  refine fn_of (ls := [some (.ref (G.b0 + 77)), some (.int (nI k))]) (by decide +kernel) (Nat.le_of_ble_eq_true rfl) 0 rfl ?_
  refine b_aload_n dX12_eats_0 rfl ?_
  refine b_iload_n dX12_eats_1 rfl ?_
  refine g_callV [.int (nI k)] dX12_eats_2 kX12_is lX12_135 a77 rfl rfl (m_is hR hk h17) rfl rfl (Nat.le_of_ble_eq_true rfl) ?_
  refine b_if_ne 10 dX12_eats_5 (by decide) (fun c1 => ?_) (fun c1 => ?_)
  · skip
    have c2 : kd Y S = k := of_decide_eq_true ((bI_1 _).mp c1)
    refine b_aload_n dX12_eats_10 rfl ?_
    refine g_callVp [] dX12_eats_11 kX12_next lX12_138 a77 rfl rfl (m_nx hY hR hp (by omega)) rfl rfl (Nat.le_of_ble_eq_true rfl) ?_
    rintro r h9 ⟨rfl, s1, rfl, hs1, hR1⟩
    refine b_iconst (v := nI 1) dX12_eats_14 (by decide) ?_
    exact b_zret dX12_eats_15 rfl ⟨by rw [decide_eq_true c2]; rfl, s1, rfl, hs1, by rw [if_pos c2]; exact hR1⟩
  · skip
    have c2 : ¬ kd Y S = k := of_decide_eq_false ((bI_0 _).mp c1)
    refine b_iconst (v := nI 0) dX12_eats_8 (by decide) ?_
    exact b_zret dX12_eats_9 rfl ⟨by rw [decide_eq_false c2]; rfl, σ, rfl, kM_r σ, by rw [if_neg c2]; exact hR⟩
theorem wi_N {v lw zh : Nat} {hi : Int32} (hv : v < 2 ^ 30) (hl : lw < 2 ^ 30) (hz : zh < 2 ^ 30) (hh : hi = nI zh - nI 1) : (decide ((nI lw).toInt64 ≤ (nI v).toInt64) && decide ((nI v).toInt64 ≤ hi.toInt64)) = decide (lw ≤ v ∧ v < zh) := by
  rw [hh, Bool.decide_and]
  congr 1
  · rw [decide_eq_decide, Int64.le_iff_toInt_le, Int32.toInt_toInt64, Int32.toInt_toInt64, nI_toInt (by omega), nI_toInt (by omega)]; omega
  · rw [decide_eq_decide, Int64.le_iff_toInt_le, Int32.toInt_toInt64, Int32.toInt_toInt64, nI_toInt (by omega), pr_toInt (by omega)]; omega
def PTk (G : GT) (μ : SL) (σ : ST) (Y : PX) (S : FS) (n : Nat) : Option Value → HT → Prop := fun r h' => ∃ (v : Int32) (s : ST), r = some (.int v) ∧ h' = sh G s μ ∧ kM σ s ∧ RM s Y S ∧ (S.2.1 = 0 → v = nI n)
theorem m_takes {G : GT} {d : Nat} {σ : ST} {μ : SL} {Y : PX} {S : FS} {lw zh : Nat} {hi : Int32} (hY : PxO Y) (hR : RM σ Y S) (hp : PO Y 0 S) (hz : zh < 200) (hl : lw < 10) (hh : hi = nI zh - nI 1) : Fn G (d + 6) mX12_takes [.ref (G.b0 + 77), .int (nI lw), .int hi] (sh G σ μ) (PTk G μ σ Y (tnum Y lw zh S) (vl Y lw zh S)) := by
  have hv9 := tV_lt (X := Y.1) S.1
  refine fn_of (ls := [some (.ref (G.b0 + 77)), some (.int (nI lw)), some (.int hi), none]) (by decide +kernel) (Nat.le_of_ble_eq_true rfl) 1 rfl ?_
  have fin : ∀ s1 : ST, kM σ s1 → RM s1 Y (tnum Y lw zh S) → (tnum Y lw zh S).2.1 ≠ 0 → BB G RX12 cX12_takes 4 (some .int) (d + 6) (QM G (PTk G μ σ Y (tnum Y lw zh S) (vl Y lw zh S))) 37 [some (.ref (G.b0 + 77)), some (.int (nI lw)), some (.int hi), none] [] (sh G s1 μ) := by
    intro s1 hs1 hR1 h1
    have h10 := hR1.l
    refine b_aload_n dX12_takes_37 rfl ?_
    refine g_get dX12_takes_38 fX12_124 a77 rfl ?_
    refine b_istore_n dX12_takes_41 (by decide) rfl ?_
    refine b_aload_n dX12_takes_42 rfl ?_
    refine g_geti (x := nI ((tnum Y lw zh S).2.1)) dX12_takes_43 fX12_129 a77 rfl hR1.w ?_
    refine b_if_ne_t 53 dX12_takes_46 (by decide) (nI_ne0 (by omega) (by omega)) ?_
    refine b_iload_n dX12_takes_53 rfl ?_
    exact b_iret dX12_takes_54 ⟨_, s1, rfl, rfl, hs1, hR1, fun z => absurd z h1⟩
  refine b_aload_n dX12_takes_0 rfl ?_
  refine b_bipush (v := nI 16) dX12_takes_1 (by decide) ?_
  refine g_callV [.int (nI 16)] dX12_takes_3 kX12_is lX12_135 a77 rfl rfl (m_is hR (k := 16) (by omega) (by omega)) rfl rfl (Nat.le_of_ble_eq_true rfl) ?_
  refine b_if_ne 17 dX12_takes_6 (by decide) (fun c1 => ?_) (fun c1 => ?_)
  · skip
    have c2 : kd Y S = 16 := of_decide_eq_true ((bI_1 _).mp c1)
    obtain ⟨h0, hn⟩ := hR.n c2
    refine b_aload_n dX12_takes_17 rfl ?_
    refine g_geti (x := nI (tV Y.1 S.1)) dX12_takes_18 fX12_124 a77 rfl hn ?_
    refine b_i2l dX12_takes_21 ?_
    refine b_iload_n dX12_takes_22 rfl ?_
    refine b_i2l dX12_takes_23 ?_
    refine b_iload_n dX12_takes_24 rfl ?_
    refine b_i2l dX12_takes_25 ?_
    refine b_callSr [.long ((nI (tV Y.1 S.1)).toInt64), .long ((nI lw).toInt64), .long hi.toInt64] dX12_takes_26 kX12_within lX12_145 c_within rfl rfl (Nat.le_of_ble_eq_true rfl) ?_
    rw [wi_N (zh := zh) (by omega) (by omega) (by omega) hh]
    refine b_if_ne 37 dX12_takes_29 (by decide) (fun c3 => ?_) (fun c3 => ?_)
    · skip
      have c4 := of_decide_eq_true ((bI_1 _).mp c3)
      have et : tnum Y lw zh S = nxt Y S := by unfold tnum; rw [if_pos c2, if_pos c4]
      refine b_aload_n dX12_takes_37 rfl ?_
      refine g_geti (x := nI (tV Y.1 S.1)) dX12_takes_38 fX12_124 a77 rfl hn ?_
      refine b_istore_n dX12_takes_41 (by decide) rfl ?_
      refine b_aload_n dX12_takes_42 rfl ?_
      refine g_geti (x := nI S.2.1) dX12_takes_43 fX12_129 a77 rfl hR.w ?_
      refine b_if_ne_f 53 dX12_takes_46 (by decide) (by rw [h0]; rfl) ?_
      refine b_aload_n dX12_takes_49 rfl ?_
      refine g_callVp [] dX12_takes_50 kX12_next lX12_138 a77 rfl rfl (m_nx hY hR hp (by omega)) rfl rfl (Nat.le_of_ble_eq_true rfl) ?_
      rintro r h9 ⟨rfl, s1, rfl, hs1, hR1⟩
      refine b_iload_n dX12_takes_53 rfl ?_
      exact b_iret dX12_takes_54 ⟨_, s1, rfl, rfl, hs1, by rw [et]; exact hR1, fun z => by rw [vl_0 z]⟩
    · skip
      have c4 := of_decide_eq_false ((bI_0 _).mp c3)
      have et : tnum Y lw zh S = fail Y 3 S := by unfold tnum; rw [if_pos c2, if_neg c4]
      refine b_aload_n dX12_takes_32 rfl ?_
      refine b_iconst (v := nI 3) dX12_takes_33 (by decide) ?_
      refine g_callVp [.int (nI 3)] dX12_takes_34 kX12_fails lX12_141 a77 rfl rfl (m_fails hR (f := 3) (by omega) (by omega)) rfl rfl (Nat.le_of_ble_eq_true rfl) ?_
      rintro r h9 ⟨rfl, s1, rfl, hs1, hR1⟩
      exact fin s1 hs1 (by rw [et]; exact hR1) (by rw [et]; exact fail_0 (by omega))
  · skip
    have c2 : ¬ kd Y S = 16 := of_decide_eq_false ((bI_0 _).mp c1)
    have et : tnum Y lw zh S = fail Y 2 S := by unfold tnum; rw [if_neg c2]
    refine b_aload_n dX12_takes_9 rfl ?_
    refine b_iconst (v := nI 2) dX12_takes_10 (by decide) ?_
    refine g_callVp [.int (nI 2)] dX12_takes_11 kX12_fails lX12_141 a77 rfl rfl (m_fails hR (f := 2) (by omega) (by omega)) rfl rfl (Nat.le_of_ble_eq_true rfl) ?_
    rintro r h9 ⟨rfl, s1, rfl, hs1, hR1⟩
    refine b_goto 37 dX12_takes_14 (by decide) ?_
    exact fin s1 hs1 (by rw [et]; exact hR1) (by rw [et]; exact fail_0 (by omega))
theorem m_tells {G : GT} {d : Nat} {σ : ST} {μ : SL} {Y : PX} {S : FS} {c : Nat} (hR : RM σ Y S) (hlen : S.2.1 = 0 → S.2.2.2.length < 900) : Fn G d mX12_tells [.ref (G.b0 + 77), .int (nI c)] (sh G σ μ) (PRm G μ σ Y (tell c S) none) := by
  have hl := hR.l
  refine fn_of (ls := [some (.ref (G.b0 + 77)), some (.int (nI c))]) (by decide +kernel) (Nat.le_of_ble_eq_true rfl) 0 rfl ?_
  refine b_aload_n dX12_tells_0 rfl ?_
  refine g_geti (x := nI S.2.1) dX12_tells_1 fX12_129 a77 rfl hR.w ?_
  refine b_if_eq 8 dX12_tells_4 (by decide) (fun c1 => ?_) (fun c1 => ?_)
  · skip
    have c2 : S.2.1 = 0 := by rw [← nI_0, nI_eq (by omega) (by omega)] at c1; exact c1
    have hl9 := hlen c2
    obtain ⟨⟨a1, a2, a3, a4⟩, l1, l2⟩ := hR.2.2.2.1 c2
    have ef : tell c S = (S.1, S.2.1, S.2.2.1, S.2.2.2 ++ [c]) := by unfold tell; rw [if_pos c2]
    refine b_aload_n dX12_tells_8 rfl ?_
    refine g_get dX12_tells_9 fX12_27 a77 rfl ?_
    refine b_aload_n dX12_tells_12 rfl ?_
    refine g_geti (x := nI S.2.2.2.length) dX12_tells_13 fX12_156 a77 rfl l1 ?_
    refine b_iload_n dX12_tells_16 rfl ?_
    refine g_iast dX12_tells_17 a82 rfl (by omega) ?_
    refine b_aload_n dX12_tells_18 rfl ?_
    refine b_dup dX12_tells_19 rfl ?_
    refine g_geti (x := nI S.2.2.2.length) dX12_tells_20 fX12_156 a77 rfl (by rw [pt_a (by omega)]; exact l1) ?_
    refine b_iconst (v := nI 1) dX12_tells_23 (by decide) ?_
    refine b_iaddN dX12_tells_24 ?_
    refine g_put dX12_tells_25 wX12_156 a77 tfX12_18 (Nat.le_of_ble_eq_true rfl) rfl ?_
    refine b_vret dX12_tells_28 ⟨rfl, _, rfl, kM_p (kM_82 (kM_r σ)) (by omega), ?_⟩
    rw [ef]
    refine ⟨⟨hR.1.1, fun k hk => by rw [pt_r (by omega), pt_r (by omega)]; exact hR.1.2.1 k hk, by rw [pt_j (by omega), pt_a (by omega)]; exact hR.1.2.2⟩, hR.2.1, by rw [pt_j (by omega), pt_a (by omega)]; exact hR.w, fun _ => ⟨⟨?_, ?_, ?_, fun z => ?_⟩, ?_, fun j x hj => ?_⟩, fun z => absurd c2 z⟩
    · rw [pt_j (by omega), pt_a (by omega)]; exact a1
    · rw [pt_j (by omega), pt_a (by omega)]; exact a2
    · rw [pt_j (by omega), pt_a (by omega)]; exact a3
    · rw [pt_j (by omega), pt_a (by omega)]; exact a4 z
    · rw [pt_s]; simp
    · rw [pt_a (by omega)]
      have hj' : (S.2.2.2 ++ [c])[j]? = some x := hj
      by_cases e : j = S.2.2.2.length
      · subst e
        rw [List.getElem?_append_right (Nat.le_refl _), Nat.sub_self] at hj'
        rw [pt_s]
        cases hj'
        rfl
      · rw [pt_j e]
        have hjl : j < (S.2.2.2 ++ [c]).length := (List.getElem?_eq_some_iff.mp hj').1
        rw [List.length_append] at hjl
        rw [List.getElem?_append_left (by simp at hjl; omega)] at hj'
        exact l2 j x hj'
  · skip
    have c2 : S.2.1 ≠ 0 := fun z => c1 (by rw [z]; rfl)
    exact b_vret dX12_tells_7 ⟨rfl, σ, rfl, kM_r σ, by unfold tell; rw [if_neg c2]; exact hR⟩
/-- as `if (!eats(k)) fails(2)` -/
theorem tak_if {Y : PX} {S : FS} {k : Nat} : takK Y k S = if kd Y S = k then nxt Y S else fail Y 2 S := rfl
theorem m_goesIn {G : GT} {d : Nat} {σ : ST} {μ : SL} {Y : PX} {S : FS} {n : Nat} (hY : PxO Y) (hR : RM σ Y S) (hp : PO Y 0 S) (hk : kd Y S ≠ 17) (hn : n ≤ 6) : Fn G (d + 6) mX12_goesIn [.ref (G.b0 + 77), .int (nI n)] (sh G σ μ) (PRm G μ σ Y (if n = 6 then fail Y 4 S else nxt Y S) (some (.int (bI (decide (¬ n = 6)))))) := by
  have h0 := (kd_lt hY hp hk).1
  refine fn_of (ls := [some (.ref (G.b0 + 77)), some (.int (nI n))]) (by decide +kernel) (Nat.le_of_ble_eq_true rfl) 0 rfl ?_
  refine b_iload_n dX12_goesIn_0 rfl ?_
  refine b_bipush (v := nI 6) dX12_goesIn_1 (by decide) ?_
  refine b_icmp_ne 11 dX12_goesIn_3 (by decide) (fun c1 => ?_) (fun c1 => ?_)
  · skip
    have c2 : ¬ n = 6 := fun z => c1 (by rw [z])
    refine b_aload_n dX12_goesIn_11 rfl ?_
    refine g_geti (x := nI S.2.1) dX12_goesIn_12 fX12_129 a77 rfl hR.w ?_
    refine b_if_ne_f 22 dX12_goesIn_15 (by decide) (by rw [h0]; rfl) ?_
    refine b_aload_n dX12_goesIn_18 rfl ?_
    refine g_callVp [] dX12_goesIn_19 kX12_next lX12_138 a77 rfl rfl (m_nx hY hR hp hk) rfl rfl (Nat.le_of_ble_eq_true rfl) ?_
    rintro r h9 ⟨rfl, s1, rfl, hs1, hR1⟩
    refine b_aload_n dX12_goesIn_22 rfl ?_
    refine g_geti (x := nI ((nxt Y S).2.1)) dX12_goesIn_23 fX12_129 a77 rfl hR1.w ?_
    refine b_if_ne_f 33 dX12_goesIn_26 (by decide) (by rw [nxt_f, h0]; rfl) ?_
    refine b_iconst (v := nI 1) dX12_goesIn_29 (by decide) ?_
    refine b_goto 34 dX12_goesIn_30 (by decide) ?_
    exact b_zret dX12_goesIn_34 rfl ⟨by rw [decide_eq_true c2]; rfl, s1, rfl, hs1, by rw [if_neg c2]; exact hR1⟩
  · skip
    rw [nI_eq (by omega) (by omega)] at c1
    refine b_aload_n dX12_goesIn_6 rfl ?_
    refine b_iconst (v := nI 4) dX12_goesIn_7 (by decide) ?_
    refine g_callVp [.int (nI 4)] dX12_goesIn_8 kX12_fails lX12_141 a77 rfl rfl (m_fails hR (f := 4) (by omega) (by omega)) rfl rfl (Nat.le_of_ble_eq_true rfl) ?_
    rintro r h9 ⟨rfl, s1, rfl, hs1, hR1⟩
    have h1 : (fail Y 4 S).2.1 ≠ 0 := fail_0 (by omega)
    have h10 := hR1.l
    refine b_aload_n dX12_goesIn_11 rfl ?_
    refine g_geti (x := nI ((fail Y 4 S).2.1)) dX12_goesIn_12 fX12_129 a77 rfl hR1.w ?_
    refine b_if_ne_t 22 dX12_goesIn_15 (by decide) (nI_ne0 (by omega) (by omega)) ?_
    refine b_aload_n dX12_goesIn_22 rfl ?_
    refine g_geti (x := nI ((fail Y 4 S).2.1)) dX12_goesIn_23 fX12_129 a77 rfl hR1.w ?_
    refine b_if_ne_t 33 dX12_goesIn_26 (by decide) (nI_ne0 (by omega) (by omega)) ?_
    refine b_iconst (v := nI 0) dX12_goesIn_33 (by decide) ?_
    exact b_zret dX12_goesIn_34 rfl ⟨by rw [decide_eq_false (fun z => z c1)]; rfl, s1, rfl, hs1, by rw [if_pos c1]; exact hR1⟩

