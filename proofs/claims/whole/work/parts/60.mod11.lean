/-! ===== the reference: calls that change what is told and true ===== -/
/-- between keeps and isAgain, or notes -/
def S0 (σ s : ST) : Prop := (∀ q, q < 7 → s 86 q = σ 78 (4 + q)) ∧ (∀ c, c ≠ 78 → c ≠ 86 → c ≠ 87 → c ≠ 77 → s c = σ c) ∧ (∀ q, q ≠ 22 → q ≠ 23 → s 77 q = σ 77 q) ∧ ∀ q, q < 4 ∨ 11 ≤ q → s 78 q = σ 78 q
theorem S0_keeps (σ : ST) : S0 σ (cpy σ 78 4 86 0 7) := by
  refine ⟨fun q hq => ?_, fun c h1 h2 h3 h4 => ?_, fun q _ _ => ?_, fun q _ => ?_⟩
  · rw [cpy_at, if_pos (by omega), Nat.sub_zero]
  · funext q; rw [cpy_at, if_neg (by omega)]
  · rw [cpy_at, if_neg (by omega)]
  · rw [cpy_at, if_neg (by omega)]
theorem S0_MV {σ : ST} {L : LD} (h : MV σ L) : MV (cpy σ 78 4 86 0 7) L := MV_of h (by rw [cpy_at, if_neg (by omega)]) (by funext q; rw [cpy_at, if_neg (by omega)])
theorem S0_day {σ s s' : ST} {L : LD} (h : S0 σ s) (hd : DyM s s' L) : S0 σ s' := by
  obtain ⟨h1, h2, h3, h4⟩ := h
  obtain ⟨d1, d2, d3⟩ := hd
  refine ⟨fun q hq => by rw [d1 86 (by omega) (by omega)]; exact h1 q hq, fun c a b e f => by rw [d1 c a e]; exact h2 c a b e f, fun q a b => by rw [d1 77 (by omega) (by omega)]; exact h3 q a b, fun q hq => by rw [d2 q (by omega)]; exact h4 q hq⟩
theorem S0_pt {σ s : ST} {q : Nat} {x : Int32} (h : S0 σ s) (h1 : 4 ≤ q) (h2 : q < 11) : S0 σ (pt s 78 q x) := by
  obtain ⟨g1, g2, g3, g4⟩ := h
  refine ⟨fun q hq => by rw [pt_a (by omega)]; exact g1 q hq, fun c a b e f => by rw [pt_r a]; exact g2 c a b e f, fun q a b => by rw [pt_a (by omega)]; exact g3 q a b, fun q' hq => by rw [pt_j (by omega)]; exact g4 q' hq⟩
theorem S0_77 {σ s : ST} {q : Nat} {x : Int32} (h : S0 σ s) (h1 : q = 22 ∨ q = 23) : S0 σ (pt s 77 q x) := by
  obtain ⟨g1, g2, g3, g4⟩ := h
  refine ⟨fun q hq => by rw [pt_a (by omega)]; exact g1 q hq, fun c a b e f => by rw [pt_r f]; exact g2 c a b e f, fun q' a b => by rw [pt_j (by omega)]; exact g3 q' a b, fun q' hq => by rw [pt_a (by omega)]; exact g4 q' hq⟩
theorem MV_77 {σ : ST} {L : LD} {q : Nat} {x : Int32} (h : MV σ L) (h1 : q ≠ 0) : MV (pt σ 77 q x) L := MV_of h (by rw [pt_j (by omega)]) (by rw [pt_r (by omega)])
def FT (σ s : ST) : Prop := (∀ c, c ≠ 86 → c ≠ 87 → c ≠ 77 → s c = σ c) ∧ ∀ q, q ≠ 22 → q ≠ 23 → s 77 q = σ 77 q
theorem FT_again {σ s : ST} (h : S0 σ s) : FT σ (cpy s 86 0 78 4 7) := by
  obtain ⟨g1, g2, g3, g4⟩ := h
  refine ⟨fun c h1 h2 h3 => ?_, fun q h1 h2 => by rw [cpy_at, if_neg (by omega)]; exact g3 q h1 h2⟩
  funext q
  rw [cpy_at]
  by_cases hc : c = 78
  · subst hc
    by_cases hq : 4 ≤ q ∧ q < 11
    · rw [if_pos (by omega), Nat.zero_add, g1 _ (by omega), show 4 + (q - 4) = q by omega]
    · rw [if_neg (by omega)]; exact g4 q (by omega)
  · rw [if_neg (by omega), g2 c hc h1 h2 h3]
theorem FT_MV {σ s : ST} {L : LD} (h : FT σ s) (hM : MV σ L) : MV s L := MV_of hM (h.2 0 (by omega) (by omega)) (h.1 78 (by omega) (by omega) (by omega))
theorem FT_tr {σ s s' : ST} (h : FT σ s) (h' : FT s s') : FT σ s' := ⟨fun c a b e => (h'.1 c a b e).trans (h.1 c a b e), fun q a b => (h'.2 q a b).trans (h.2 q a b)⟩
theorem FT_r (σ : ST) : FT σ σ := ⟨fun _ _ _ _ => rfl, fun _ _ _ => rfl⟩
def PFm (G : GT) (μ : SL) (σ : ST) (v : Int32) : Option Value → HT → Prop := fun r h' => r = some (.int v) ∧ ∃ s : ST, h' = sh G s μ ∧ FT σ s
/-- the old state is noted, the new one stands -/
def NTd (σ s : ST) (sz : Nat) (L' : LD) : Prop := (∀ c, c ≠ 78 → c ≠ 86 → c ≠ 87 → c ≠ 77 → s c = σ c) ∧ (∀ q, q ≠ 22 → q ≠ 23 → s 77 q = σ 77 q) ∧ (∀ q, q < 4 ∨ (11 ≤ q ∧ q < 113) ∨ 198 ≤ q → s 78 q = σ 78 q) ∧ (∀ q, 113 ≤ q → q < 198 → s 78 q = ntS sz (cpy σ 78 4 86 0 7) 78 q) ∧ MV s L'
theorem nt_no {sz : Nat} {s : ST} {c q : Nat} (h : ¬ (c = 78 ∧ 113 ≤ q ∧ q < 198)) (hz : sz ≤ 12) : ntS sz s c q = s c q := by
  unfold ntS
  rw [if_neg (by omega)]
  split
  · rw [if_neg (by omega)]
  · rw [if_neg (by omega), if_neg (by omega)]
theorem nt_cg {sz : Nat} {s s' : ST} {q : Nat} (h1 : ∀ q, q < 7 → s 86 q = s' 86 q) (h2 : ∀ q, 113 ≤ q → q < 198 → s 78 q = s' 78 q) (hq1 : 113 ≤ q) (hq2 : q < 198) (hz : sz ≤ 12) : ntS sz s 78 q = ntS sz s' 78 q := by
  have a1 : ∀ x : ST, q = 113 → ntS sz x 78 q = nI (if sz < 12 then sz + 1 else 12) := fun x e => by unfold ntS; exact if_pos ⟨rfl, e⟩
  have a2 : ∀ x : ST, q ≠ 113 → sz < 12 → 114 + 7 * sz ≤ q ∧ q < 121 + 7 * sz → ntS sz x 78 q = x 86 (q - (114 + 7 * sz)) := fun x e h g => by
    unfold ntS; exact (if_neg (fun z => e z.2)).trans ((if_pos h).trans (if_pos ⟨rfl, g⟩))
  have a3 : ∀ x : ST, q ≠ 113 → sz < 12 → ¬ (114 + 7 * sz ≤ q ∧ q < 121 + 7 * sz) → ntS sz x 78 q = x 78 q := fun x e h g => by
    unfold ntS; exact (if_neg (fun z => e z.2)).trans ((if_pos h).trans (if_neg (fun z => g z.2)))
  have a4 : ∀ x : ST, q ≠ 113 → ¬ sz < 12 → 114 ≤ q ∧ q < 191 → ntS sz x 78 q = x 78 (q + 7) := fun x e h g => by
    unfold ntS; exact (if_neg (fun z => e z.2)).trans ((if_neg h).trans (if_pos ⟨rfl, g⟩))
  have a5 : ∀ x : ST, q ≠ 113 → ¬ sz < 12 → ¬ (114 ≤ q ∧ q < 191) → ntS sz x 78 q = x 86 (q - 191) := fun x e h g => by
    unfold ntS; exact (if_neg (fun z => e z.2)).trans ((if_neg h).trans ((if_neg (fun z => g z.2)).trans (if_pos ⟨rfl, by omega⟩)))
  by_cases e : q = 113
  · rw [a1 s e, a1 s' e]
  · by_cases h : sz < 12
    · by_cases g : 114 + 7 * sz ≤ q ∧ q < 121 + 7 * sz
      · rw [a2 s e h g, a2 s' e h g]; exact h1 _ (by omega)
      · rw [a3 s e h g, a3 s' e h g]; exact h2 q hq1 hq2
    · by_cases g : 114 ≤ q ∧ q < 191
      · rw [a4 s e h g, a4 s' e h g]; exact h2 _ (by omega) (by omega)
      · rw [a5 s e h g, a5 s' e h g]; exact h1 _ (by omega)
theorem NTd_mk {σ s : ST} {sz : Nat} {L' : LD} (h : S0 σ s) (hM : MV s L') (hz : sz ≤ 12) : NTd σ (ntS sz s) sz L' := by
  obtain ⟨g1, g2, g3, g4⟩ := h
  refine ⟨fun c a b e f => ?_, fun q a b => ?_, fun q hq => ?_, fun q h1 h2 => ?_, ?_⟩
  · funext q; rw [nt_no (by omega) hz, g2 c a b e f]
  · rw [nt_no (by omega) hz]; exact g3 q a b
  · rw [nt_no (by omega) hz]; exact g4 q (by omega)
  · refine nt_cg (fun q hq => ?_) (fun q a b => ?_) h1 h2 hz
    · rw [g1 q hq, cpy_at, if_pos (by omega), Nat.sub_zero]
    · rw [g4 q (by omega), cpy_at, if_neg (by omega)]
  · have hb := hM.b
    obtain ⟨m0, ⟨m1, m2, m3, m4⟩, m5, m6, m7, m8, m9, m10, m11, m12, m13⟩ := hM
    have e : ∀ q, q < 113 → ntS sz s 78 q = s 78 q := fun q hq => nt_no (by omega) hz
    refine ⟨by rw [nt_no (by omega) hz]; exact m0, ⟨by rw [e _ (by omega)]; exact m1, by rw [e _ (by omega)]; exact m2, by rw [e _ (by omega)]; exact m3, by rw [e _ (by omega)]; exact m4⟩, m5, fun p hp => ?_, fun k w hk hw => ?_, fun w hw => ?_, fun w hw => ?_, fun w hw => ?_, fun w hw => ?_, fun w hw => ?_, m13⟩
    · rw [e _ (by omega)]; exact m6 p hp
    · rw [e _ (by omega)]; exact m7 k w hk hw
    · rw [e _ (by omega)]; exact m8 w hw
    · rw [e _ (by omega)]; exact m9 w hw
    · rw [e _ (by omega)]; exact m10 w hw
    · rw [e _ (by omega)]; exact m11 w hw
    · rw [e _ (by omega)]; exact m12 w hw
theorem MV_pt {s : ST} {L : LD} {p : Nat} {x : Int32} (h : MV s L) (hp : p < 6) : MV (pt s 78 (5 + p) x) (stT L (fun q => if q = p then x else L.told q)) :=
  MV_T h (by rw [pt_a (by omega)]) (fun q hq => by rw [pt_j (by omega)]) (fun q hq => by
    by_cases e : q = p
    · subst e; rw [pt_s]; exact (if_pos rfl).symm
    · rw [pt_j (by omega), h.told hq]; exact (if_neg e).symm)
def PNt (G : GT) (μ : SL) (σ : ST) (sz : Nat) (L' : LD) (v : Int32) : Option Value → HT → Prop := fun r h' => r = some (.int v) ∧ ∃ s : ST, h' = sh G s μ ∧ NTd σ s sz L'
def PNo (G : GT) (μ : SL) (σ : ST) (v : Int32) : Option Value → HT → Prop := Ret (some (.int v)) (sh G σ μ)
theorem m_X_tell {G : GT} {d : Nat} {σ : ST} {μ : SL} {L : LD} {sz : Nat} {p f : Int32} (hM : MV σ L) (hz : σ 78 113 = nI sz) (hz12 : sz ≤ 12) : Fn G (d + 3) mX12_tell [.ref (G.b0 + 77), .int p, .int f] (sh G σ μ) (if inR p L.P && inR f L.F then PNt G μ σ sz (stT L (fun q => if q = ix p then L.told (ix p) ||| bit (ix f) else L.told q)) (nI (cnt (mPoss L.hold L.W (L.told (ix p) ||| bit (ix f)) L.t L.F) 16)) else PNo G μ σ (-2)) := by
  have hb := hM.b
  refine fn_of (ls := [some (.ref (G.b0 + 77)), some (.int p), some (.int f)]) (by decide +kernel) (Nat.le_of_ble_eq_true rfl) 0 rfl ?_
  refine b_aload_n dX12_tell_0 rfl ?_
  refine b_iconst (v := nI 0) dX12_tell_1 (by decide) ?_
  refine g_put dX12_tell_2 wX12_1 a77 tfX12_0 (Nat.le_of_ble_eq_true rfl) rfl ?_
  refine b_sig hM.t0 ?_
  refine b_aload_n dX12_tell_5 rfl ?_
  refine b_iload_n dX12_tell_6 rfl ?_
  refine b_i2l dX12_tell_7 ?_
  refine g_callV [.long p.toInt64] dX12_tell_8 kX12_isPerson lX12_245 a77 rfl rfl (m_isPersonI hM) rfl rfl (Nat.le_of_ble_eq_true rfl) ?_
  refine b_if_eq 23 dX12_tell_11 (by decide) (fun c1 => ?_) (fun c1 => ?_)
  · skip
    refine b_bipush (v := -2) dX12_tell_23 (by decide) ?_
    refine b_iret dX12_tell_25 ?_
    rw [(bI_0 _).mp c1]
    exact ⟨rfl, rfl⟩
  · skip
    have c2 := (bI_1 _).mp c1
    obtain ⟨j, hj, rfl⟩ := inR_of (by omega) c2
    have hjx := ix_nI (show j < 2 ^ 31 by omega)
    refine b_aload_n dX12_tell_14 rfl ?_
    refine b_iload_n dX12_tell_15 rfl ?_
    refine b_i2l dX12_tell_16 ?_
    refine g_callV [.long f.toInt64] dX12_tell_17 kX12_isFact lX12_241 a77 rfl rfl (m_isFactI hM) rfl rfl (Nat.le_of_ble_eq_true rfl) ?_
    refine b_if_ne 26 dX12_tell_20 (by decide) (fun c3 => ?_) (fun c3 => ?_)
    · skip
      have c4 := (bI_1 _).mp c3
      obtain ⟨k, hk, rfl⟩ := inR_of (by omega) c4
      have hkx := ix_nI (show k < 2 ^ 31 by omega)
      rw [c2, c4, hjx, hkx]
      refine b_aload_n dX12_tell_26 rfl ?_
      refine g_callV [] dX12_tell_27 kX12_keeps lX12_260 a77 rfl rfl m_keeps rfl rfl (Nat.le_of_ble_eq_true rfl) ?_
      have hM1 := S0_MV hM
      refine b_aload_n dX12_tell_30 rfl ?_
      refine g_get dX12_tell_31 fX12_13 a77 rfl ?_
      refine b_iconst (v := nI 5) dX12_tell_34 (by decide) ?_
      refine b_iload_n dX12_tell_35 rfl ?_
      refine b_iaddN dX12_tell_36 ?_
      refine b_dup2 dX12_tell_37 rfl rfl ?_
      refine g_iald dX12_tell_38 a78 rfl (by omega) ?_
      refine b_top (hM1.told (by omega)) ?_
      refine b_iconst (v := nI 1) dX12_tell_39 (by decide) ?_
      refine b_iload_n dX12_tell_40 rfl ?_
      refine b_ishl dX12_tell_41 ?_
      refine b_ior dX12_tell_42 ?_
      refine g_iast dX12_tell_43 a78 rfl (by omega) ?_
      refine b_aload_n dX12_tell_44 rfl ?_
      have hM2 := MV_pt (p := j) (x := L.told j ||| (nI 1 <<< (nI k &&& 31))) hM1 (by omega)
      have hS := S0_pt (q := 5 + j) (x := L.told j ||| (nI 1 <<< (nI k &&& 31))) (S0_keeps σ) (by omega) (by omega)
      have hz2 : pt (cpy σ 78 4 86 0 7) 78 (5 + j) (L.told j ||| (nI 1 <<< (nI k &&& 31))) 78 113 = nI sz := by rw [pt_j (by omega), cpy_at, if_neg (by omega)]; exact hz
      refine g_callV [] dX12_tell_45 kX12_notes lX12_263 a77 rfl rfl (m_notes hz2 hz12) rfl rfl (Nat.le_of_ble_eq_true rfl) ?_
      have hN := NTd_mk hS hM2 hz12
      refine b_aload_n dX12_tell_48 rfl ?_
      refine b_iload_n dX12_tell_49 rfl ?_
      refine g_callV [.int (nI j)] dX12_tell_50 kX12_cellNow lX12_248 a77 rfl rfl (m_cellNow hN.2.2.2.2 hj) rfl rfl (Nat.le_of_ble_eq_true rfl) ?_
      refine b_callSr [.int (poss (stT L (fun q => if q = j then L.told j ||| (nI 1 <<< (nI k &&& 31)) else L.told q)) j L.t)] dX12_tell_53 kX12_bitsOf lX12_266 m_bitsOf rfl rfl (Nat.le_of_ble_eq_true rfl) ?_
      refine b_iret dX12_tell_56 ⟨?_, _, rfl, hN⟩
      have e : poss (stT L (fun q => if q = j then L.told j ||| (nI 1 <<< (nI k &&& 31)) else L.told q)) j L.t = mPoss L.hold L.W (L.told j ||| bit k) L.t L.F := by
        show mPoss L.hold L.W (if j = j then L.told j ||| (nI 1 <<< (nI k &&& 31)) else L.told j) L.t L.F = _
        rw [if_pos rfl]; rfl
      exact congrArg (fun z => some (Value.int (nI (cnt z 16)))) e
    · skip
      refine b_bipush (v := -2) dX12_tell_23 (by decide) ?_
      refine b_iret dX12_tell_25 ?_
      rw [(bI_0 _).mp c3, Bool.and_false]
      exact ⟨rfl, rfl⟩
theorem m_X_ask {G : GT} {d : Nat} {σ : ST} {μ : SL} {L : LD} {sz : Nat} {p f : Int32} (hM : MV σ L) (hz : σ 78 113 = nI sz) (hz12 : sz ≤ 12) : Fn G (d + 5) mX12_ask [.ref (G.b0 + 77), .int p, .int f] (sh G σ μ) (if inR p L.P && inR f L.F then PNt G μ σ sz (stT L (fun q => if q = ix p then L.told (ix p) ||| L.hint (ix f) else L.told q)) (bI (mKn (L.hold (ix f)) (poss L (ix p) L.t))) else PNo G μ σ (-2)) := by
  have hb := hM.b
  refine fn_of (ls := [some (.ref (G.b0 + 77)), some (.int p), some (.int f), none]) (by decide +kernel) (Nat.le_of_ble_eq_true rfl) 1 rfl ?_
  refine b_aload_n dX12_ask_0 rfl ?_
  refine b_iconst (v := nI 0) dX12_ask_1 (by decide) ?_
  refine g_put dX12_ask_2 wX12_1 a77 tfX12_0 (Nat.le_of_ble_eq_true rfl) rfl ?_
  refine b_sig hM.t0 ?_
  refine b_aload_n dX12_ask_5 rfl ?_
  refine b_iload_n dX12_ask_6 rfl ?_
  refine b_i2l dX12_ask_7 ?_
  refine g_callV [.long p.toInt64] dX12_ask_8 kX12_isPerson lX12_245 a77 rfl rfl (m_isPersonI hM) rfl rfl (Nat.le_of_ble_eq_true rfl) ?_
  refine b_if_eq 23 dX12_ask_11 (by decide) (fun c1 => ?_) (fun c1 => ?_)
  · skip
    refine b_bipush (v := -2) dX12_ask_23 (by decide) ?_
    refine b_iret dX12_ask_25 ?_
    rw [(bI_0 _).mp c1]
    exact ⟨rfl, rfl⟩
  · skip
    have c2 := (bI_1 _).mp c1
    obtain ⟨j, hj, rfl⟩ := inR_of (by omega) c2
    have hjx := ix_nI (show j < 2 ^ 31 by omega)
    refine b_aload_n dX12_ask_14 rfl ?_
    refine b_iload_n dX12_ask_15 rfl ?_
    refine b_i2l dX12_ask_16 ?_
    refine g_callV [.long f.toInt64] dX12_ask_17 kX12_isFact lX12_241 a77 rfl rfl (m_isFactI hM) rfl rfl (Nat.le_of_ble_eq_true rfl) ?_
    refine b_if_ne 26 dX12_ask_20 (by decide) (fun c3 => ?_) (fun c3 => ?_)
    · skip
      have c4 := (bI_1 _).mp c3
      obtain ⟨k, hk, rfl⟩ := inR_of (by omega) c4
      have hkx := ix_nI (show k < 2 ^ 31 by omega)
      rw [c2, c4, hjx, hkx]
      refine b_aload_n dX12_ask_26 rfl ?_
      refine g_callV [] dX12_ask_27 kX12_keeps lX12_260 a77 rfl rfl m_keeps rfl rfl (Nat.le_of_ble_eq_true rfl) ?_
      have hM1 := S0_MV hM
      refine b_aload_n dX12_ask_30 rfl ?_
      refine b_iload_n dX12_ask_31 rfl ?_
      refine b_iload_n dX12_ask_32 rfl ?_
      refine g_callV [.int (nI j), .int (nI k)] dX12_ask_33 kX12_asks lX12_269 a77 rfl rfl (m_asks hM1 hj hk) rfl rfl (Nat.le_of_ble_eq_true rfl) ?_
      have hM2 := MV_pt (p := j) (x := L.told j ||| L.hint k) hM1 (by omega)
      have hS := S0_pt (q := 5 + j) (x := L.told j ||| L.hint k) (S0_keeps σ) (by omega) (by omega)
      have hz2 : pt (cpy σ 78 4 86 0 7) 78 (5 + j) (L.told j ||| L.hint k) 78 113 = nI sz := by rw [pt_j (by omega), cpy_at, if_neg (by omega)]; exact hz
      refine b_istore_n dX12_ask_36 (by decide) rfl ?_
      refine b_aload_n dX12_ask_37 rfl ?_
      refine g_callV [] dX12_ask_38 kX12_notes lX12_263 a77 rfl rfl (m_notes hz2 hz12) rfl rfl (Nat.le_of_ble_eq_true rfl) ?_
      refine b_iload_n dX12_ask_41 rfl ?_
      exact b_iret dX12_ask_42 ⟨rfl, _, rfl, NTd_mk hS hM2 hz12⟩
    · skip
      refine b_bipush (v := -2) dX12_ask_23 (by decide) ?_
      refine b_iret dX12_ask_25 ?_
      rw [(bI_0 _).mp c3, Bool.and_false]
      exact ⟨rfl, rfl⟩
theorem m_X_isTrue {G : GT} {d : Nat} {σ : ST} {μ : SL} {L : LD} {sz : Nat} {w : Int32} (hM : MV σ L) (hz : σ 78 113 = nI sz) (hz12 : sz ≤ 12) : Fn G (d + 2) mX12_isTrue [.ref (G.b0 + 77), .int w] (sh G σ μ) (if inR w L.W then PNt G μ σ sz (stW L (ix w)) (nI L.t) else PNo G μ σ (-2)) := by
  have hb := hM.b
  refine fn_of (ls := [some (.ref (G.b0 + 77)), some (.int w)]) (by decide +kernel) (Nat.le_of_ble_eq_true rfl) 0 rfl ?_
  refine b_aload_n dX12_isTrue_0 rfl ?_
  refine b_iconst (v := nI 0) dX12_isTrue_1 (by decide) ?_
  refine g_put dX12_isTrue_2 wX12_1 a77 tfX12_0 (Nat.le_of_ble_eq_true rfl) rfl ?_
  refine b_sig hM.t0 ?_
  refine b_aload_n dX12_isTrue_5 rfl ?_
  refine b_iload_n dX12_isTrue_6 rfl ?_
  refine g_callV [.int w] dX12_isTrue_7 kX12_isWorld lX12_235 a77 rfl rfl (m_isWorld hM) rfl rfl (Nat.le_of_ble_eq_true rfl) ?_
  refine b_if_ne 16 dX12_isTrue_10 (by decide) (fun c1 => ?_) (fun c1 => ?_)
  · skip
    have c2 := (bI_1 _).mp c1
    obtain ⟨j, hj, rfl⟩ := inR_of (by omega) c2
    have hjx := ix_nI (show j < 2 ^ 31 by omega)
    rw [c2, hjx]
    refine b_aload_n dX12_isTrue_16 rfl ?_
    refine g_callV [] dX12_isTrue_17 kX12_keeps lX12_260 a77 rfl rfl m_keeps rfl rfl (Nat.le_of_ble_eq_true rfl) ?_
    have hM1 := S0_MV hM
    refine b_aload_n dX12_isTrue_20 rfl ?_
    refine g_get dX12_isTrue_21 fX12_13 a77 rfl ?_
    refine b_iconst (v := nI 4) dX12_isTrue_24 (by decide) ?_
    refine b_iload_n dX12_isTrue_25 rfl ?_
    refine g_iast dX12_isTrue_26 a78 rfl (by omega) ?_
    refine b_aload_n dX12_isTrue_27 rfl ?_
    have hS := S0_pt (q := 4) (x := nI j) (S0_keeps σ) (by omega) (by omega)
    have hM2 : MV (pt (cpy σ 78 4 86 0 7) 78 4 (nI j)) (stW L j) := MV_W hM1 (by rw [pt_a (by omega)]) (fun q hq => by rw [pt_j hq]) (pt_s _ _ _ _) hj
    have hz2 : pt (cpy σ 78 4 86 0 7) 78 4 (nI j) 78 113 = nI sz := by rw [pt_j (by omega), cpy_at, if_neg (by omega)]; exact hz
    refine g_callV [] dX12_isTrue_28 kX12_notes lX12_263 a77 rfl rfl (m_notes hz2 hz12) rfl rfl (Nat.le_of_ble_eq_true rfl) ?_
    refine b_aload_n dX12_isTrue_31 rfl ?_
    refine g_get dX12_isTrue_32 fX12_42 a77 rfl ?_
    refine b_iconst (v := nI 0) dX12_isTrue_35 (by decide) ?_
    refine g_iald dX12_isTrue_36 a86 rfl (by omega) ?_
    refine b_iret dX12_isTrue_37 ⟨?_, _, rfl, NTd_mk hS hM2 hz12⟩
    have e : ntS sz (pt (cpy σ 78 4 86 0 7) 78 4 (nI j)) 86 0 = nI L.t := by
      rw [nt_no (by omega) hz12, pt_a (by omega), cpy_at, if_pos (by omega)]; exact hM.ct
    exact congrArg (fun z => some (Value.int z)) e
  · skip
    refine b_bipush (v := -2) dX12_isTrue_13 (by decide) ?_
    refine b_iret dX12_isTrue_15 ?_
    rw [(bI_0 _).mp c1]
    exact ⟨rfl, rfl⟩
theorem wi_12 {x : Int32} : (decide ((1 : Int64) ≤ x.toInt64) && decide (x.toInt64 ≤ 12)) = inB x 1 12 := wi_B (a := 1) (b := 12) (by omega) (by omega)
def unS (k : Nat) (σ : ST) : ST := pt (cpy σ 78 (114 + 7 * k) 78 4 7) 78 113 (nI k)
theorem m_X_undo {G : GT} {d : Nat} {σ : ST} {μ : SL} {L : LD} {sz : Nat} {n : Int32} (hM : MV σ L) (hz : σ 78 113 = nI sz) (hz12 : sz ≤ 12) : Fn G (d + 2) mX12_undo [.ref (G.b0 + 77), .int n] (sh G σ μ) (Ret (some (.int (if inB n 1 sz then nI (sz - ix n) else -3))) (sh G (if inB n 1 sz then unS (sz - ix n) σ else σ) μ)) := by
  have hb := hM.b
  refine fn_of (ls := [some (.ref (G.b0 + 77)), some (.int n), none]) (by decide +kernel) (Nat.le_of_ble_eq_true rfl) 1 rfl ?_
  refine b_aload_n dX12_undo_0 rfl ?_
  refine b_iconst (v := nI 0) dX12_undo_1 (by decide) ?_
  refine g_put dX12_undo_2 wX12_1 a77 tfX12_0 (Nat.le_of_ble_eq_true rfl) rfl ?_
  refine b_sig hM.t0 ?_
  refine b_iload_n dX12_undo_5 rfl ?_
  refine b_i2l dX12_undo_6 ?_
  refine b_lconst (v := 1) dX12_undo_7 (by decide) ?_
  refine b_ldc2 dX12_undo_8 cvX12_164 ?_
  refine b_callSr [.long n.toInt64, .long 1, .long ((12))] dX12_undo_11 kX12_within lX12_145 c_within rfl rfl (Nat.le_of_ble_eq_true rfl) ?_
  rw [wi_12]
  have no : inB n 1 sz = false → ∀ (z2 : Option Value), BB G RX12 cX12_undo 3 (some .int) (d + 2) (QM G (Ret (some (.int (if inB n 1 sz then nI (sz - ix n) else -3))) (sh G (if inB n 1 sz then unS (sz - ix n) σ else σ) μ))) 28 [some (.ref (G.b0 + 77)), some (.int n), z2] [] (sh G σ μ) := by
    intro hno z2
    refine b_bipush (v := -3) dX12_undo_28 (by decide) ?_
    exact b_iret dX12_undo_30 ⟨by rw [hno]; rfl, by rw [hno]; rfl⟩
  refine b_if_eq 28 dX12_undo_14 (by decide) (fun c3 => ?_) (fun c3 => ?_)
  · skip
    have c4 := (bI_0 _).mp c3
    refine no ?_ _
    cases h : inB n 1 sz
    · rfl
    · have h2 : inB n 1 12 = true := by
        rcases Nat.lt_or_ge sz 1 with q | q
        · have e : sz = 0 := by omega
          subst e
          simp only [inB, Bool.and_eq_true, decide_eq_true_eq] at h ⊢
          exact ⟨h.1, Int32.le_trans h.2 (by decide)⟩
        · simp only [inB, Bool.and_eq_true, decide_eq_true_eq] at h ⊢
          exact ⟨h.1, Int32.le_trans h.2 (nI_le hz12 (by omega))⟩
      rw [h2] at c4; exact absurd c4 (by simp)
  · skip
    have c4 := (bI_1 _).mp c3
    obtain ⟨k, hk1, hk4, rfl⟩ := inB_of (by omega) c4 (by omega)
    have hkx := ix_nI (show k < 2 ^ 31 by omega)
    refine b_iload_n dX12_undo_17 rfl ?_
    refine b_aload_n dX12_undo_18 rfl ?_
    refine g_get dX12_undo_19 fX12_13 a77 rfl ?_
    refine b_bipush (v := nI 113) dX12_undo_22 (by decide) ?_
    refine g_iald dX12_undo_24 a78 rfl (by omega) ?_
    refine b_top hz ?_
    refine b_icmp_le 31 dX12_undo_25 (by decide) (fun c5 => ?_) (fun c5 => ?_)
    · skip
      rw [nI_leI (by omega) (by omega)] at c5
      have hin : inB (nI k) 1 sz = true := by
        simp only [inB, Bool.and_eq_true, decide_eq_true_eq]
        exact ⟨nI_le hk1 (by omega), nI_le c5 (by omega)⟩
      rw [hin, hkx]
      refine b_aload_n dX12_undo_31 rfl ?_
      refine g_get dX12_undo_32 fX12_13 a77 rfl ?_
      refine b_bipush (v := nI 113) dX12_undo_35 (by decide) ?_
      refine b_dup2 dX12_undo_37 rfl rfl ?_
      refine g_iald dX12_undo_38 a78 rfl (by omega) ?_
      refine b_top hz ?_
      refine b_iload_n dX12_undo_39 rfl ?_
      refine b_isub dX12_undo_40 ?_
      refine b_top (y := nI (sz - k)) (nI_sub (by omega)) ?_
      refine g_iast dX12_undo_41 a78 rfl (by omega) ?_
      refine b_iconst (v := nI 0) dX12_undo_42 (by decide) ?_
      refine b_istore_n dX12_undo_43 (by decide) rfl ?_
      have lp : ∀ (n i : Nat), i + n = 7 → BB G RX12 cX12_undo 3 (some .int) (d + 2) (QM G (Ret (some (.int (if true then nI (sz - k) else -3))) (sh G (if true then unS (sz - k) σ else σ) μ))) 44 [some (.ref (G.b0 + 77)), some (.int (nI k)), some (.int (nI i))] [] (sh G (cpy (pt σ 78 113 (nI (sz - k))) 78 (114 + 7 * (sz - k)) 78 4 i) μ) := by
        intro n
        induction n with
        | zero =>
          intro i hi
          have e7 : i = 7 := by omega
          subst e7
          have e : cpy (pt σ 78 113 (nI (sz - k))) 78 (114 + 7 * (sz - k)) 78 4 7 = unS (sz - k) σ := by
            funext c q
            unfold unS
            rw [pt_at, cpy_at, cpy_at]
            by_cases h1 : c = 78 ∧ q = 113
            · rw [if_pos h1, if_neg (by omega), pt_at, if_pos h1]
            · rw [if_neg h1]
              by_cases h2 : c = 78 ∧ 4 ≤ q ∧ q < 4 + 7
              · rw [if_pos h2, if_pos h2, pt_j (by omega)]
              · rw [if_neg h2, if_neg h2, pt_at, if_neg h1]
          refine b_iload_n dX12_undo_44 rfl ?_
          refine b_bipush (v := nI 7) dX12_undo_45 (by decide) ?_
          refine b_icmp_ge_t 84 dX12_undo_47 (by decide) (nI_le (by omega) (by omega)) ?_
          refine b_aload_n dX12_undo_84 rfl ?_
          refine g_get dX12_undo_85 fX12_13 a77 rfl ?_
          refine b_bipush (v := nI 113) dX12_undo_88 (by decide) ?_
          refine g_iald dX12_undo_90 a78 rfl (by omega) ?_
          refine b_top (show cpy (pt σ 78 113 (nI (sz - k))) 78 (114 + 7 * (sz - k)) 78 4 7 78 113 = nI (sz - k) by rw [cpy_at, if_neg (by omega), pt_s]) ?_
          exact b_iret dX12_undo_91 ⟨rfl, by rw [e]; rfl⟩
        | succ n ih =>
          intro i hi
          refine b_iload_n dX12_undo_44 rfl ?_
          refine b_bipush (v := nI 7) dX12_undo_45 (by decide) ?_
          refine b_icmp_ge_f 84 dX12_undo_47 (by decide) (nI_ge (by omega) (by omega)) ?_
          refine b_aload_n dX12_undo_50 rfl ?_
          refine g_get dX12_undo_51 fX12_13 a77 rfl ?_
          refine b_iconst (v := nI 4) dX12_undo_54 (by decide) ?_
          refine b_iload_n dX12_undo_55 rfl ?_
          refine b_iaddN dX12_undo_56 ?_
          refine b_aload_n dX12_undo_57 rfl ?_
          refine g_get dX12_undo_58 fX12_13 a77 rfl ?_
          refine b_bipush (v := nI 114) dX12_undo_61 (by decide) ?_
          refine b_bipush (v := nI 7) dX12_undo_63 (by decide) ?_
          refine b_aload_n dX12_undo_65 rfl ?_
          refine g_get dX12_undo_66 fX12_13 a77 rfl ?_
          refine b_bipush (v := nI 113) dX12_undo_69 (by decide) ?_
          refine g_iald dX12_undo_71 a78 rfl (by omega) ?_
          refine b_top (show cpy (pt σ 78 113 (nI (sz - k))) 78 (114 + 7 * (sz - k)) 78 4 i 78 113 = nI (sz - k) by rw [cpy_at, if_neg (by omega), pt_s]) ?_
          refine b_imulN dX12_undo_72 ?_
          refine b_iaddN dX12_undo_73 ?_
          refine b_iload_n dX12_undo_74 rfl ?_
          refine b_iaddN dX12_undo_75 ?_
          refine g_iald dX12_undo_76 a78 rfl (by omega) ?_
          refine g_iast dX12_undo_77 a78 rfl (by omega) ?_
          refine b_iinc dX12_undo_78 rfl (nI_1 _) (by decide) rfl ?_
          refine b_goto 44 dX12_undo_81 (by decide) ?_
          refine b_sig ?_ (ih (i + 1) (by omega))
          exact cpy_s (σ := pt σ 78 113 (nI (sz - k))) (a0 := 78) (sp := 114 + 7 * (sz - k)) (a := 78) (dp := 4) (n := i) (x := cpy (pt σ 78 113 (nI (sz - k))) 78 (114 + 7 * (sz - k)) 78 4 i 78 (114 + 7 * (sz - k) + i)) (by rw [cpy_at, if_neg (by omega)])
      have := lp 7 0 (by omega)
      rw [cpy_0] at this
      exact this
    · skip
      rw [nI_leI (by omega) (by omega)] at c5
      have hin : inB (nI k) 1 sz = false := by
        cases h : inB (nI k) 1 sz
        · rfl
        · simp only [inB, Bool.and_eq_true, decide_eq_true_eq] at h
          have := (nI_leI (by omega) (by omega)).mp h.2
          omega
      exact no hin _

