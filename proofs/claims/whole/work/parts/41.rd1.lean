/-! ===== Reader: tokens, formulas ===== -/
def ccdl : List Int32 := [-43, -45, -42, -61, -60, -62, -111, -112, -110]
/-- a code as the class holds it -/
def ccd (c : Nat) : Int32 := if c < 1000 then nI c else if c < 3000 then -(nI (cK (c - 1000))) else ccdl.getD (c - 3000) 0
def RTk (s : ST) (Y : PX) : Prop := s 3 3 = nI Y.2 ∧ TkA s Y.1 (Y.2 + 1)
def aI (Y : PX) (S : FS) : Nat := if S.2.1 = 0 then S.1 else Y.2
def RF (s : ST) (Y : PX) (S : FS) : Prop := RTk s Y ∧ (S.2.1 = 0 → s 2 4 = nI 0 ∧ s 2 5 = -1 ∧ s 2 6 = nI S.1 ∧ s 7 3 = nI S.2.2.2.length ∧ ∀ j c, S.2.2.2[j]? = some c → s 8 j = ccd c) ∧ (S.2.1 ≠ 0 → S.2.1 < 10 ∧ s 2 4 = nI S.2.1 ∧ s 2 5 = nI S.2.2.1 ∧ s 2 6 = nI Y.2 ∧ ∃ l, l ≤ 901 ∧ s 7 3 = nI l)
def kR (c : Nat) : Prop := c = 2 ∨ c = 7 ∨ c = 8
def PRd (G : GT) (μ : SL) (σ : ST) (Y : PX) (S : FS) (v : Option Value) : Option Value → HT → Prop := fun r h' => r = v ∧ ∃ s : ST, h' = sh G s μ ∧ (∀ c, ¬ kR c → s c = σ c) ∧ RF s Y S
theorem tK_ok (X : TX) (i : Nat) : tK X i < 32 ∧ tK X i ≠ 19 := by
  unfold tK
  split
  · refine ⟨kdT_lt _ _ _, ?_⟩
    have h1 := wK_le X (tS X i) (bh X (i + 1))
    unfold kdT
    split
    · split <;> omega
    · split
      · omega
      · unfold sgK; split <;> omega
  · omega
theorem kd_ok (Y : PX) (S : FS) : kd Y S < 32 ∧ kd Y S ≠ 19 := by
  unfold kd
  split
  · exact tK_ok _ _
  · omega
theorem cK_inj : ∀ a, a < 32 → ∀ b, b < 32 → a ≠ 19 → b ≠ 19 → cK a = cK b → a = b := by decide +kernel
theorem cK_e {Y : PX} {S : FS} {k : Nat} (hk : k < 32) (h19 : k ≠ 19) : nI (cK (kd Y S)) = nI (cK k) ↔ kd Y S = k := by
  obtain ⟨h1, h2⟩ := kd_ok Y S
  have b1 := (cK_2 _ h1).2
  have b2 := (cK_2 _ hk).2
  rw [nI_eq (by omega) (by omega)]
  exact ⟨fun h => cK_inj _ h1 _ hk h2 h19 h, fun h => by rw [h]⟩
theorem RF_at {s : ST} {Y : PX} {S : FS} (h : RF s Y S) : s 2 6 = nI (aI Y S) := by
  unfold aI
  by_cases h0 : S.2.1 = 0
  · rw [if_pos h0]; exact (h.2.1 h0).2.2.1
  · rw [if_neg h0]; exact (h.2.2 h0).2.2.2.1
theorem aI_le {Y : PX} {S : FS} {c : Nat} (hp : PO Y c S) : aI Y S ≤ Y.2 := by
  unfold aI
  split
  · rename_i h0; exact (hp h0).1
  · exact Nat.le_refl _
theorem aI_kd {Y : PX} {S : FS} (hY : PxO Y) : tK Y.1 (aI Y S) = kd Y S := by
  unfold aI kd
  split
  · rfl
  · exact tK_M hY.1
theorem RTk_of {s s' : ST} {Y : PX} (h : RTk s Y) (e : ∀ c, ¬ kR c → s' c = s c) : RTk s' Y := by
  refine ⟨by rw [e 3 (by unfold kR; omega)]; exact h.1, fun i hi => ?_⟩
  rw [e 4 (by unfold kR; omega), e 5 (by unfold kR; omega), e 6 (by unfold kR; omega)]
  exact h.2 i hi
theorem c_kind {G : GT} {d : Nat} {σ : ST} {μ : SL} {Y : PX} {S : FS} (hY : PxO Y) (hR : RF σ Y S) (hp : PO Y 0 S) : Fn G d mX5_kind [.ref (G.b0 + 2)] (sh G σ μ) (Ret (some (.int (nI (cK (kd Y S))))) (sh G σ μ)) := by
  have h9 := hY.le
  have ha := aI_le hp
  refine fn_of (ls := [some (.ref (G.b0 + 2))]) (by decide +kernel) (Nat.le_of_ble_eq_true rfl) 0 rfl ?_
  refine b_aload_n dX5_kind_0 rfl ?_
  refine g_get dX5_kind_1 fX5_12 a2 rfl ?_
  refine g_get dX5_kind_4 fX5_69 a3 rfl ?_
  refine b_aload_n dX5_kind_7 rfl ?_
  refine g_geti (x := nI (aI Y S)) dX5_kind_8 fX5_55 a2 rfl (RF_at hR) ?_
  refine g_iald dX5_kind_11 a4 rfl (by omega) ?_
  exact b_iret dX5_kind_12 ⟨by rw [← aI_kd hY]; exact congrArg (fun z => some (Value.int z)) (hR.1.2 _ (by omega)).1, rfl⟩
theorem c_goOn' {G : GT} {d : Nat} {σ : ST} {μ : SL} {Y : PX} {S : FS} (hY : PxO Y) (hR : RF σ Y S) (ha : aI Y S ≤ Y.2) : Fn G d mX5_goOn [.ref (G.b0 + 2)] (sh G σ μ) (PRd G μ σ Y (nxt Y S) none) := by
  have h9 := hY.le
  refine fn_of (ls := [some (.ref (G.b0 + 2))]) (by decide +kernel) (Nat.le_of_ble_eq_true rfl) 0 rfl ?_
  refine b_aload_n dX5_goOn_0 rfl ?_
  refine g_geti (x := nI (aI Y S)) dX5_goOn_1 fX5_55 a2 rfl (RF_at hR) ?_
  refine b_aload_n dX5_goOn_4 rfl ?_
  refine g_get dX5_goOn_5 fX5_12 a2 rfl ?_
  refine g_geti (x := nI Y.2) dX5_goOn_8 fX5_73 a3 rfl hR.1.1 ?_
  refine b_icmp_ge 24 dX5_goOn_11 (by decide) (fun c1 => ?_) (fun c1 => ?_)
  · skip
    rw [nI_leI (by omega) (by omega)] at c1
    have hn : nxt Y S = S := by
      unfold nxt
      rw [if_neg]
      rintro ⟨h1, h2⟩
      unfold aI at c1
      rw [if_pos h1] at c1
      omega
    exact b_vret dX5_goOn_24 ⟨rfl, σ, rfl, fun c _ => rfl, by rw [hn]; exact hR⟩
  · skip
    rw [nI_leI (by omega) (by omega)] at c1
    have h0 : S.2.1 = 0 := by
      unfold aI at c1
      by_cases h : S.2.1 = 0
      · exact h
      · rw [if_neg h] at c1; omega
    have ei : aI Y S = S.1 := by unfold aI; rw [if_pos h0]
    have hn : nxt Y S = (S.1 + 1, S.2) := by unfold nxt; rw [if_pos ⟨h0, by omega⟩]
    refine b_aload_n dX5_goOn_14 rfl ?_
    refine b_dup dX5_goOn_15 rfl ?_
    refine g_geti (x := nI (aI Y S)) dX5_goOn_16 fX5_55 a2 rfl (RF_at hR) ?_
    refine b_iconst (v := nI 1) dX5_goOn_19 (by decide) ?_
    refine b_iaddN dX5_goOn_20 ?_
    refine g_put dX5_goOn_21 wX5_55 a2 tfX5_6 (Nat.le_of_ble_eq_true rfl) rfl ?_
    refine b_vret dX5_goOn_24 ⟨rfl, _, rfl, fun c hc => by rw [pt_r (by unfold kR at hc; omega)], ?_⟩
    rw [hn]
    obtain ⟨g1, g2, g3, g4, g5⟩ := hR.2.1 h0
    refine ⟨RTk_of hR.1 (fun c hc => by rw [pt_r (by unfold kR at hc; omega)]), fun _ => ⟨?_, ?_, ?_, ?_, ?_⟩, fun h => absurd h0 h⟩
    · rw [pt_j (by omega)]; exact g1
    · rw [pt_j (by omega)]; exact g2
    · rw [pt_s, ei]
    · rw [pt_a (by omega)]; exact g4
    · rw [pt_r (by omega)]; exact g5
theorem c_goOn {G : GT} {d : Nat} {σ : ST} {μ : SL} {Y : PX} {S : FS} (hY : PxO Y) (hR : RF σ Y S) (hp : PO Y 0 S) : Fn G d mX5_goOn [.ref (G.b0 + 2)] (sh G σ μ) (PRd G μ σ Y (nxt Y S) none) := c_goOn' hY hR (aI_le hp)
theorem c_refuse {G : GT} {d : Nat} {σ : ST} {μ : SL} {Y : PX} {S : FS} {f : Nat} (hY : PxO Y) (hR : RF σ Y S) (hp : PO Y 0 S) (hf : 1 ≤ f) (hf9 : f < 10) : Fn G d mX5_refuse [.ref (G.b0 + 2), .int (nI f)] (sh G σ μ) (PRd G μ σ Y (fail Y f S) none) := by
  have h9 := hY.le
  have ha := aI_le hp
  obtain ⟨t1, t2, t3⟩ := hR.1.2 (aI Y S) (by omega)
  refine fn_of (ls := [some (.ref (G.b0 + 2)), some (.int (nI f))]) (by decide +kernel) (Nat.le_of_ble_eq_true rfl) 0 rfl ?_
  by_cases h0 : S.2.1 = 0
  · obtain ⟨g1, g2, g3, g4, g5⟩ := hR.2.1 h0
    have ei : aI Y S = S.1 := by unfold aI; rw [if_pos h0]
    refine b_aload_n dX5_refuse_0 rfl ?_
    refine g_geti (x := nI 0) dX5_refuse_1 fX5_52 a2 rfl g1 ?_
    refine b_if_ne_f 48 dX5_refuse_4 (by decide) rfl ?_
    refine b_aload_n dX5_refuse_7 rfl ?_
    refine b_aload_n dX5_refuse_8 rfl ?_
    refine g_get dX5_refuse_9 fX5_12 a2 rfl ?_
    refine g_get dX5_refuse_12 fX5_69 a3 rfl ?_
    refine b_aload_n dX5_refuse_15 rfl ?_
    refine g_geti (x := nI (aI Y S)) dX5_refuse_16 fX5_55 a2 rfl (RF_at hR) ?_
    refine g_iald dX5_refuse_19 a4 rfl (by omega) ?_
    refine b_iconst (v := nI 1) dX5_refuse_20 (by decide) ?_
    refine b_top2 t1 ?_
    have hfl : fail Y f S = (S.1, (if tK Y.1 S.1 = 18 then 1 else f), tS Y.1 S.1, S.2.2.2) := by unfold fail; rw [if_pos h0]
    have hne : (if tK Y.1 S.1 = 18 then 1 else f) ≠ 0 := by split <;> omega
    have hlt : (if tK Y.1 S.1 = 18 then 1 else f) < 10 := by split <;> omega
    have fin : ∀ v, v = nI (if tK Y.1 S.1 = 18 then 1 else f) → BB G RX5 cX5_refuse 2 none d (QM G (PRd G μ σ Y (fail Y f S) none)) 29 [some (.ref (G.b0 + 2)), some (.int (nI f))] [.int v, .ref (G.b0 + 2)] (sh G σ μ) := by
      intro v hv
      refine g_put dX5_refuse_29 wX5_52 a2 tfX5_4 (Nat.le_of_ble_eq_true rfl) rfl ?_
      refine b_aload_n dX5_refuse_32 rfl ?_
      refine b_aload_n dX5_refuse_33 rfl ?_
      refine g_get dX5_refuse_34 fX5_12 a2 rfl ?_
      refine g_get dX5_refuse_37 fX5_76 a3 rfl ?_
      refine b_aload_n dX5_refuse_40 rfl ?_
      refine g_geti (x := nI (aI Y S)) dX5_refuse_41 fX5_55 a2 rfl (by rw [pt_j (by omega)]; exact RF_at hR) ?_
      refine g_iald dX5_refuse_44 a5 rfl (by omega) ?_
      refine g_put dX5_refuse_45 wX5_39 a2 tfX5_5 (Nat.le_of_ble_eq_true rfl) rfl ?_
      refine b_aload_n dX5_refuse_48 rfl ?_
      refine b_aload_n dX5_refuse_49 rfl ?_
      refine g_get dX5_refuse_50 fX5_12 a2 rfl ?_
      refine g_geti (x := nI Y.2) dX5_refuse_53 fX5_73 a3 rfl (by rw [pt_a (by omega), pt_a (by omega)]; exact hR.1.1) ?_
      refine g_put dX5_refuse_56 wX5_55 a2 tfX5_6 (Nat.le_of_ble_eq_true rfl) rfl ?_
      have hfr : ∀ c, ¬ kR c → pt (pt (pt σ 2 4 v) 2 5 (pt σ 2 4 v 5 (aI Y S))) 2 6 (nI Y.2) c = σ c := fun c hc => by
        have : c ≠ 2 := by unfold kR at hc; omega
        rw [pt_r this, pt_r this, pt_r this]
      refine b_vret dX5_refuse_59 ⟨rfl, _, rfl, hfr, ?_⟩
      rw [hfl]
      refine ⟨RTk_of hR.1 hfr, fun h => absurd h hne, fun _ => ⟨hlt, ?_, ?_, ?_, S.2.2.2.length, ?_, ?_⟩⟩
      · rw [pt_j (by omega), pt_j (by omega), pt_s]; exact hv
      · rw [pt_j (by omega), pt_s, pt_a (by omega), t2, ei]
      · rw [pt_s]
      · have := hp h0; omega
      · rw [pt_a (by omega), pt_a (by omega), pt_a (by omega)]; exact g4
    have hk18 := (cK_e (Y := Y) (S := S) (k := 18) (by omega) (by omega))
    rw [aI_kd hY]
    have hkd : kd Y S = tK Y.1 S.1 := by unfold kd; rw [if_pos h0]
    refine b_icmp_ne 28 dX5_refuse_21 (by decide) (fun c1 => ?_) (fun c1 => ?_)
    · skip
      have c2 : ¬ tK Y.1 S.1 = 18 := fun z => c1 (hk18.mpr (by rw [hkd]; exact z))
      refine b_iload_n dX5_refuse_28 rfl ?_
      exact fin _ (by rw [if_neg c2])
    · skip
      have c2 : tK Y.1 S.1 = 18 := by rw [← hkd]; exact hk18.mp c1
      refine b_iconst (v := nI 1) dX5_refuse_24 (by decide) ?_
      refine b_goto 29 dX5_refuse_25 (by decide) ?_
      exact fin _ (by rw [if_pos c2])
  · obtain ⟨g0, g1, g2, g3, l, g4, g5⟩ := hR.2.2 h0
    refine b_aload_n dX5_refuse_0 rfl ?_
    refine g_geti (x := nI S.2.1) dX5_refuse_1 fX5_52 a2 rfl g1 ?_
    refine b_if_ne_t 48 dX5_refuse_4 (by decide) (nI_ne0 (by omega) (by omega)) ?_
    refine b_aload_n dX5_refuse_48 rfl ?_
    refine b_aload_n dX5_refuse_49 rfl ?_
    refine g_get dX5_refuse_50 fX5_12 a2 rfl ?_
    refine g_geti (x := nI Y.2) dX5_refuse_53 fX5_73 a3 rfl hR.1.1 ?_
    refine g_put dX5_refuse_56 wX5_55 a2 tfX5_6 (Nat.le_of_ble_eq_true rfl) rfl ?_
    have hfl : fail Y f S = S := by unfold fail; rw [if_neg h0]
    have hpt : pt σ 2 6 (nI Y.2) = σ := pt_self σ 2 6 g3.symm
    exact b_vret dX5_refuse_59 ⟨rfl, σ, by rw [hpt], fun c _ => rfl, by rw [hfl]; exact hR⟩
theorem c_take {G : GT} {d : Nat} {σ : ST} {μ : SL} {Y : PX} {S : FS} {k : Nat} (hY : PxO Y) (hR : RF σ Y S) (hp : PO Y 0 S) (hk : k < 32) (h19 : k ≠ 19) : Fn G (d + 1) mX5_take [.ref (G.b0 + 2), .int (nI (cK k))] (sh G σ μ) (PRd G μ σ Y (takK Y k S) none) := by
  refine fn_of (ls := [some (.ref (G.b0 + 2)), some (.int (nI (cK k)))]) (by decide +kernel) (Nat.le_of_ble_eq_true rfl) 0 rfl ?_
  refine b_aload_n dX5_take_0 rfl ?_
  refine g_callV [] dX5_take_1 kX5_kind lX5_58 a2 rfl rfl (c_kind hY hR hp) rfl rfl (Nat.le_of_ble_eq_true rfl) ?_
  refine b_iload_n dX5_take_4 rfl ?_
  refine b_icmp_ne 15 dX5_take_5 (by decide) (fun c1 => ?_) (fun c1 => ?_)
  · skip
    have c2 : ¬ kd Y S = k := fun z => c1 ((cK_e hk h19).mpr z)
    refine b_aload_n dX5_take_15 rfl ?_
    refine b_iconst (v := nI 2) dX5_take_16 (by decide) ?_
    refine g_callVp [.int (nI 2)] dX5_take_17 kX5_refuse lX5_82 a2 rfl rfl (c_refuse (f := 2) hY hR hp (by omega) (by omega)) rfl rfl (Nat.le_of_ble_eq_true rfl) ?_
    rintro r h9 ⟨rfl, s, rfl, hs, hR2⟩
    exact b_vret dX5_take_20 ⟨rfl, s, rfl, hs, by rw [takK, if_neg c2]; exact hR2⟩
  · skip
    have c2 : kd Y S = k := (cK_e hk h19).mp c1
    refine b_aload_n dX5_take_8 rfl ?_
    refine g_callVp [] dX5_take_9 kX5_goOn lX5_79 a2 rfl rfl (c_goOn hY hR hp) rfl rfl (Nat.le_of_ble_eq_true rfl) ?_
    rintro r h9 ⟨rfl, s, rfl, hs, hR2⟩
    refine b_goto 20 dX5_take_12 (by decide) ?_
    exact b_vret dX5_take_20 ⟨rfl, s, rfl, hs, by rw [takK, if_pos c2]; exact hR2⟩
theorem tV_r {s : ST} {Y : PX} {S : FS} {c : Nat} (hR : RF s Y S) (hp : PO Y c S) : s 6 (aI Y S) = nI (tV Y.1 (aI Y S)) := (hR.1.2 _ (by have := aI_le hp; omega)).2.2
theorem c_takeNumber {G : GT} {d : Nat} {σ : ST} {μ : SL} {Y : PX} {S : FS} {lw zh : Nat} {hi : Int32} (hY : PxO Y) (hR : RF σ Y S) (hp : PO Y 0 S) (hz : zh < 200) (hl : lw < 10) (hh : hi = nI zh - 1) : Fn G (d + 1) mX5_takeNumber [.ref (G.b0 + 2), .int (nI lw), .int hi] (sh G σ μ) (PRd G μ σ Y (tnum Y lw zh S) (some (.int (if (tnum Y lw zh S).2.1 = 0 then nI (tV Y.1 S.1) else nI lw)))) := by
  have h9 := hY.le
  have ha := aI_le hp
  refine fn_of (ls := [some (.ref (G.b0 + 2)), some (.int (nI lw)), some (.int hi), none]) (by decide +kernel) (Nat.le_of_ble_eq_true rfl) 1 rfl ?_
  refine b_aload_n dX5_takeNumber_0 rfl ?_
  refine g_callV [] dX5_takeNumber_1 kX5_kind lX5_58 a2 rfl rfl (c_kind hY hR hp) rfl rfl (Nat.le_of_ble_eq_true rfl) ?_
  refine b_iconst (v := nI 2) dX5_takeNumber_4 (by decide) ?_
  refine b_icmp_eq 15 dX5_takeNumber_5 (by decide) (fun c1 => ?_) (fun c1 => ?_)
  · skip
    have c2 : kd Y S = 16 := (cK_e (k := 16) (by omega) (by omega)).mp c1
    obtain ⟨h0, h1⟩ := kd_lt hY hp (by omega)
    have ei : aI Y S = S.1 := by unfold aI; rw [if_pos h0]
    have hv := tV_lt (X := Y.1) S.1
    refine b_aload_n dX5_takeNumber_15 rfl ?_
    refine g_get dX5_takeNumber_16 fX5_12 a2 rfl ?_
    refine g_get dX5_takeNumber_19 fX5_86 a3 rfl ?_
    refine b_aload_n dX5_takeNumber_22 rfl ?_
    refine g_geti (x := nI (aI Y S)) dX5_takeNumber_23 fX5_55 a2 rfl (RF_at hR) ?_
    refine g_iald dX5_takeNumber_26 a6 rfl (by omega) ?_
    refine b_top (y := nI (tV Y.1 S.1)) (by rw [← ei]; exact tV_r hR hp) ?_
    refine b_istore_n dX5_takeNumber_27 (by decide) rfl ?_
    refine b_iload_n dX5_takeNumber_28 rfl ?_
    refine b_iload_n dX5_takeNumber_29 rfl ?_
    have rf : ¬ (lw ≤ tV Y.1 S.1 ∧ tV Y.1 S.1 < zh) → BB G RX5 cX5_takeNumber 4 (some .int) (d + 1) (QM G (PRd G μ σ Y (tnum Y lw zh S) (some (.int (if (tnum Y lw zh S).2.1 = 0 then nI (tV Y.1 S.1) else nI lw))))) 38 [some (.ref (G.b0 + 2)), some (.int (nI lw)), some (.int hi), some (.int (nI (tV Y.1 S.1)))] [] (sh G σ μ) := by
      intro hno
      have et : tnum Y lw zh S = fail Y 3 S := by rw [tnum, if_pos c2, if_neg hno]
      refine b_aload_n dX5_takeNumber_38 rfl ?_
      refine b_iconst (v := nI 3) dX5_takeNumber_39 (by decide) ?_
      refine g_callVp [.int (nI 3)] dX5_takeNumber_40 kX5_refuse lX5_82 a2 rfl rfl (c_refuse (f := 3) hY hR hp (by omega) (by omega)) rfl rfl (Nat.le_of_ble_eq_true rfl) ?_
      rintro r h9 ⟨rfl, s, rfl, hs, hR2⟩
      refine b_iload_n dX5_takeNumber_43 rfl ?_
      exact b_iret dX5_takeNumber_44 ⟨by rw [et, if_neg (fail_0 (by omega))], s, rfl, hs, by rw [et]; exact hR2⟩
    refine b_icmp_lt 38 dX5_takeNumber_30 (by decide) (fun c3 => ?_) (fun c3 => ?_)
    · skip
      rw [nI_ltI (by omega) (by omega)] at c3
      exact rf (by omega)
    · skip
      rw [nI_ltI (by omega) (by omega)] at c3
      refine b_iload_n dX5_takeNumber_33 rfl ?_
      refine b_iload_n dX5_takeNumber_34 rfl ?_
      have hle : nI (tV Y.1 S.1) ≤ hi ↔ tV Y.1 S.1 < zh := by
        rw [hh]
        cases zh with
        | zero => simp only [Nat.not_lt_zero, iff_false]; exact fun z => absurd (Int32.lt_of_lt_of_le (show (-1 : Int32) < 0 by decide) (nI_pos' (n := tV Y.1 S.1) (by omega))) (Int32.not_lt.mpr z)
        | succ z => rw [nI_pred, nI_leI (by omega) (by omega)]; omega
      refine b_icmp_le 45 dX5_takeNumber_35 (by decide) (fun c4 => ?_) (fun c4 => ?_)
      · skip
        have c5 := hle.mp c4
        have et : tnum Y lw zh S = nxt Y S := by rw [tnum, if_pos c2, if_pos ⟨by omega, c5⟩]
        refine b_aload_n dX5_takeNumber_45 rfl ?_
        refine g_callVp [] dX5_takeNumber_46 kX5_goOn lX5_79 a2 rfl rfl (c_goOn hY hR hp) rfl rfl (Nat.le_of_ble_eq_true rfl) ?_
        rintro r h9 ⟨rfl, s, rfl, hs, hR2⟩
        refine b_iload_n dX5_takeNumber_49 rfl ?_
        exact b_iret dX5_takeNumber_50 ⟨by rw [et, nxt_0, if_pos h0], s, rfl, hs, by rw [et]; exact hR2⟩
      · skip
        exact rf (fun z => c4 (hle.mpr z.2))
  · skip
    have c2 : ¬ kd Y S = 16 := fun z => c1 ((cK_e (k := 16) (by omega) (by omega)).mpr z)
    have et : tnum Y lw zh S = fail Y 2 S := by rw [tnum, if_neg c2]
    refine b_aload_n dX5_takeNumber_8 rfl ?_
    refine b_iconst (v := nI 2) dX5_takeNumber_9 (by decide) ?_
    refine g_callVp [.int (nI 2)] dX5_takeNumber_10 kX5_refuse lX5_82 a2 rfl rfl (c_refuse (f := 2) hY hR hp (by omega) (by omega)) rfl rfl (Nat.le_of_ble_eq_true rfl) ?_
    rintro r h9 ⟨rfl, s, rfl, hs, hR2⟩
    refine b_iload_n dX5_takeNumber_13 rfl ?_
    exact b_iret dX5_takeNumber_14 ⟨by rw [et, if_neg (fail_0 (by omega))], s, rfl, hs, by rw [et]; exact hR2⟩
theorem c_add' {G : GT} {d : Nat} {σ : ST} {μ : SL} {Y : PX} {S : FS} {c : Nat} {x : Int32} (hR : RF σ Y S) (hp : S.2.1 = 0 → S.2.2.2.length ≤ 900) (hx : x = ccd c) : Fn G d mX0_add [.ref (G.b0 + 7), .int x] (sh G σ μ) (PRd G μ σ Y (tell c S) none) := by
  refine fn_of (ls := [some (.ref (G.b0 + 7)), some (.int x)]) (by decide +kernel) (Nat.le_of_ble_eq_true rfl) 0 rfl ?_
  by_cases h0 : S.2.1 = 0
  · obtain ⟨g1, g2, g3, g4, g5⟩ := hR.2.1 h0
    have p2 := hp h0
    generalize hln : S.2.2.2.length = zl at g4 p2
    refine b_aload_n dX0_add_0 rfl ?_
    refine g_geti (x := nI zl) dX0_add_1 fX0_21 a7 rfl g4 ?_
    refine b_aload_n dX0_add_4 rfl ?_
    refine g_get dX0_add_5 fX0_9 a7 rfl ?_
    refine g_ilen dX0_add_8 a8 ?_
    refine b_icmp_ge_f 32 dX0_add_9 (by decide) (nI_ge (by omega) (by omega)) ?_
    refine b_aload_n dX0_add_12 rfl ?_
    refine g_get dX0_add_13 fX0_9 a7 rfl ?_
    refine b_aload_n dX0_add_16 rfl ?_
    refine g_geti (x := nI zl) dX0_add_17 fX0_21 a7 rfl g4 ?_
    refine b_iload_n dX0_add_20 rfl ?_
    refine g_iast dX0_add_21 a8 rfl (by omega) ?_
    refine b_aload_n dX0_add_22 rfl ?_
    refine b_dup dX0_add_23 rfl ?_
    refine g_geti (x := nI zl) dX0_add_24 fX0_21 a7 rfl (by rw [pt_a (by omega)]; exact g4) ?_
    refine b_iconst (v := nI 1) dX0_add_27 (by decide) ?_
    refine b_iaddN dX0_add_28 ?_
    refine g_put dX0_add_29 wX0_21 a7 tfX0_3 (Nat.le_of_ble_eq_true rfl) rfl ?_
    have hfr : ∀ c, ¬ kR c → pt (pt σ 8 zl x) 7 3 (nI (zl + 1)) c = σ c := fun c hc => by unfold kR at hc; rw [pt_r (by omega), pt_r (by omega)]
    refine b_vret dX0_add_32 ⟨rfl, _, rfl, hfr, ?_⟩
    have htl : tell c S = (S.1, S.2.1, S.2.2.1, S.2.2.2 ++ [c]) := by unfold tell; rw [if_pos h0]
    rw [htl]
    refine ⟨RTk_of hR.1 hfr, fun _ => ⟨?_, ?_, ?_, ?_, ?_⟩, fun h => absurd h0 h⟩
    · rw [pt_a (by omega), pt_a (by omega)]; exact g1
    · rw [pt_a (by omega), pt_a (by omega)]; exact g2
    · rw [pt_a (by omega), pt_a (by omega)]; exact g3
    · rw [pt_s]
      show _ = nI (S.2.2.2 ++ [c]).length
      rw [List.length_append, hln]; rfl
    · intro j y hj
      rw [pt_a (by omega)]
      have hj' : (S.2.2.2 ++ [c])[j]? = some y := hj
      by_cases e : j = zl
      · subst e
        rw [← hln, List.getElem?_append_right (Nat.le_refl _), Nat.sub_self] at hj'
        rw [pt_s, hx]
        simp at hj'
        rw [hj']
      · rw [pt_j e]
        refine g5 j y ?_
        rw [List.getElem?_append_left (by
          have := (List.getElem?_eq_some_iff.mp hj').1
          rw [List.length_append, hln] at this
          simp at this
          omega)] at hj'
        exact hj'
  · obtain ⟨g0, g1, g2, g3, l, g4, g5⟩ := hR.2.2 h0
    have htl : tell c S = S := by unfold tell; rw [if_neg h0]
    refine b_aload_n dX0_add_0 rfl ?_
    refine g_geti (x := nI l) dX0_add_1 fX0_21 a7 rfl g5 ?_
    refine b_aload_n dX0_add_4 rfl ?_
    refine g_get dX0_add_5 fX0_9 a7 rfl ?_
    refine g_ilen dX0_add_8 a8 ?_
    refine b_icmp_ge 32 dX0_add_9 (by decide) (fun c1 => ?_) (fun c1 => ?_)
    · skip
      exact b_vret dX0_add_32 ⟨rfl, σ, rfl, fun c _ => rfl, by rw [htl]; exact hR⟩
    · skip
      rw [nI_leI (by omega) (by omega)] at c1
      refine b_aload_n dX0_add_12 rfl ?_
      refine g_get dX0_add_13 fX0_9 a7 rfl ?_
      refine b_aload_n dX0_add_16 rfl ?_
      refine g_geti (x := nI l) dX0_add_17 fX0_21 a7 rfl g5 ?_
      refine b_iload_n dX0_add_20 rfl ?_
      refine g_iast dX0_add_21 a8 rfl (by omega) ?_
      refine b_aload_n dX0_add_22 rfl ?_
      refine b_dup dX0_add_23 rfl ?_
      refine g_geti (x := nI l) dX0_add_24 fX0_21 a7 rfl (by rw [pt_a (by omega)]; exact g5) ?_
      refine b_iconst (v := nI 1) dX0_add_27 (by decide) ?_
      refine b_iaddN dX0_add_28 ?_
      refine g_put dX0_add_29 wX0_21 a7 tfX0_3 (Nat.le_of_ble_eq_true rfl) rfl ?_
      have hfr : ∀ c, ¬ kR c → pt (pt σ 8 l x) 7 3 (nI (l + 1)) c = σ c := fun c hc => by unfold kR at hc; rw [pt_r (by omega), pt_r (by omega)]
      refine b_vret dX0_add_32 ⟨rfl, _, rfl, hfr, ?_⟩
      rw [htl]
      refine ⟨RTk_of hR.1 hfr, fun h => absurd h h0, fun _ => ⟨g0, ?_, ?_, ?_, l + 1, by omega, pt_s _ _ _ _⟩⟩
      · rw [pt_a (by omega), pt_a (by omega)]; exact g1
      · rw [pt_a (by omega), pt_a (by omega)]; exact g2
      · rw [pt_a (by omega), pt_a (by omega)]; exact g3
theorem c_add {G : GT} {d : Nat} {σ : ST} {μ : SL} {Y : PX} {S : FS} {c : Nat} {x : Int32} (hY : PxO Y) (hR : RF σ Y S) (hp : PO Y 1 S) (hx : x = ccd c) : Fn G d mX0_add [.ref (G.b0 + 7), .int x] (sh G σ μ) (PRd G μ σ Y (tell c S) none) := c_add' hR (fun h => by have := hp h; have := hY.le; omega) hx
theorem c_isTooDeep {G : GT} {d : Nat} {σ : ST} {μ : SL} {Y : PX} {S : FS} {dp : Nat} (hY : PxO Y) (hR : RF σ Y S) (hp : PO Y 0 S) (hd : dp < 100) : Fn G (d + 1) mX5_isTooDeep [.ref (G.b0 + 2), .int (nI dp)] (sh G σ μ) (PRd G μ σ Y (if 6 ≤ dp then fail Y 4 S else S) (some (.int (bI (decide (6 ≤ dp)))))) := by
  refine fn_of (ls := [some (.ref (G.b0 + 2)), some (.int (nI dp))]) (by decide +kernel) (Nat.le_of_ble_eq_true rfl) 0 rfl ?_
  refine b_iload_n dX5_isTooDeep_0 rfl ?_
  refine b_bipush (v := nI 6) dX5_isTooDeep_1 (by decide) ?_
  refine b_icmp_lt 13 dX5_isTooDeep_3 (by decide) (fun c1 => ?_) (fun c1 => ?_)
  · skip
    rw [nI_ltI (by omega) (by omega)] at c1
    refine b_iconst (v := nI 0) dX5_isTooDeep_13 (by decide) ?_
    exact b_zret dX5_isTooDeep_14 (bI_n false) ⟨by rw [decide_eq_false (by omega)]; rfl, σ, rfl, fun c _ => rfl, by rw [if_neg (by omega)]; exact hR⟩
  · skip
    rw [nI_ltI (by omega) (by omega)] at c1
    refine b_aload_n dX5_isTooDeep_6 rfl ?_
    refine b_iconst (v := nI 4) dX5_isTooDeep_7 (by decide) ?_
    refine g_callVp [.int (nI 4)] dX5_isTooDeep_8 kX5_refuse lX5_82 a2 rfl rfl (c_refuse (f := 4) hY hR hp (by omega) (by omega)) rfl rfl (Nat.le_of_ble_eq_true rfl) ?_
    rintro r h9 ⟨rfl, s, rfl, hs, hR2⟩
    refine b_iconst (v := nI 1) dX5_isTooDeep_11 (by decide) ?_
    exact b_zret dX5_isTooDeep_12 (bI_n true) ⟨by rw [decide_eq_true (by omega)]; rfl, s, rfl, hs, by rw [if_pos (by omega)]; exact hR2⟩

