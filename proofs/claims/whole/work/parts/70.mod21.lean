/-! ===== the reference: trials ===== -/
def npF (L : LD) (q : Int32) : Nat → Nat
  | 0 => 0
  | f + 1 => npF L q f + if mKn (L.hold f) q then 0 else 1
def np (L : LD) (q : Int32) : Nat := npF L q L.F
theorem kn_sub {H q x : Int32} (h : mKn H q = true) : mKn H (q &&& x) = true := by
  unfold mKn at h ⊢
  simp only [Bool.or_eq_true, decide_eq_true_eq] at h ⊢
  rcases h with h | h
  · left
    rw [and_rc, h]
    exact and_0l x
  · right
    rw [and_rc, h]
theorem kn_own {H q : Int32} : mKn H (q &&& H) = true := by
  unfold mKn
  rw [and_self2]; simp
theorem kn_own' {H q : Int32} : mKn H (q &&& (H ^^^ (-1))) = true := by
  unfold mKn
  have : q &&& (H ^^^ (-1)) &&& H = 0 := b_ext (fun i hi => by
    rw [b_and, b_and, not_bt hi, b_0]
    cases bt q i <;> cases bt H i <;> rfl)
  rw [this]; simp
theorem npF_le {L : LD} {q x : Int32} : ∀ n, npF L (q &&& x) n ≤ npF L q n
  | 0 => Nat.le_refl _
  | n + 1 => by
    have ih := npF_le (L := L) (q := q) (x := x) n
    unfold npF
    cases h : mKn (L.hold n) q
    · split <;> simp <;> omega
    · rw [kn_sub h]; simp; omega
theorem npF_lt {L : LD} {q x : Int32} {f : Nat} (h1 : mKn (L.hold f) q = false) (h2 : mKn (L.hold f) (q &&& x) = true) : ∀ n, f < n → npF L (q &&& x) n < npF L q n
  | 0, h => absurd h (by omega)
  | n + 1, h => by
    unfold npF
    by_cases e : f = n
    · subst e
      have := npF_le (L := L) (q := q) (x := x) f
      rw [h1, h2]; simp; omega
    · have ih := npF_lt h1 h2 n (by omega)
      cases g : mKn (L.hold n) q
      · split <;> simp <;> omega
      · rw [kn_sub g]; simp; omega
theorem npF_b {L : LD} {q : Int32} : ∀ n, npF L q n ≤ n
  | 0 => Nat.le_refl _
  | n + 1 => by have := npF_b (L := L) (q := q) n; unfold npF; split <;> omega
theorem npF_0 {L : LD} {q : Int32} {f : Nat} : ∀ n, f < n → npF L q n = 0 → mKn (L.hold f) q = true
  | 0, h, _ => absurd h (by omega)
  | n + 1, h, e => by
    unfold npF at e
    by_cases ef : f = n
    · subst ef
      cases g : mKn (L.hold f) q
      · rw [g] at e; simp at e
      · rfl
    · exact npF_0 n (by omega) (by omega)
abbrev tT (L : LD) (n : Nat) (q : Int32) : Nat := mTr L.hold L.gl L.F n q
theorem mTrB_cg {g g' : Int32 → Nat} {hold : Nat → Int32} {q : Int32} {f : Nat} (h : mKn (hold f) q = false → g (q &&& hold f) = g' (q &&& hold f) ∧ g (q &&& (hold f ^^^ (-1))) = g' (q &&& (hold f ^^^ (-1)))) : mTrB g hold q f = mTrB g' hold q f := by
  unfold mTrB
  cases hk : mKn (hold f) q
  · obtain ⟨h1, h2⟩ := h hk
    rw [h1, h2]
  · simp
theorem mTrM_cg {g g' : Int32 → Nat} {hold : Nat → Int32} {q : Int32} : ∀ n, (∀ f, f < n → mTrB g hold q f = mTrB g' hold q f) → mTrM g hold q n = mTrM g' hold q n
  | 0, _ => rfl
  | n + 1, h => by rw [mTrM, mTrM, mTrM_cg n (fun f hf => h f (by omega)), h n (by omega)]
theorem tT_st {L : LD} : ∀ n q, np L q ≤ n → tT L (n + 1) q = tT L n q
  | 0, q, h => by
    show mTr L.hold L.gl L.F 1 q = mTr L.hold L.gl L.F 0 q
    rw [mTr, mTr]
    split
    · rfl
    · have : ∀ m, m ≤ L.F → mTrM (mTr L.hold L.gl L.F 0) L.hold q m = 100 := by
        intro m
        induction m with
        | zero => intro _; rfl
        | succ m ih =>
          intro hm
          rw [mTrM, ih (by omega), mTrB, if_pos (npF_0 L.F (by omega) (by unfold np at h; omega))]; rfl
      exact this L.F (Nat.le_refl _)
  | n + 1, q, h => by
    show mTr L.hold L.gl L.F (n + 1 + 1) q = mTr L.hold L.gl L.F (n + 1) q
    rw [mTr, mTr]
    split
    · rfl
    · refine mTrM_cg L.F (fun f hf => mTrB_cg (fun hk => ⟨tT_st n _ ?_, tT_st n _ ?_⟩))
      · have := npF_lt (L := L) hk (kn_own (q := q)) L.F hf; unfold np at h ⊢; omega
      · have := npF_lt (L := L) hk (kn_own' (q := q)) L.F hf; unfold np at h ⊢; omega
theorem tT_8 {L : LD} (hF : L.F ≤ 8) : ∀ k n q, np L q ≤ n → tT L (n + k) q = tT L n q
  | 0, _, _, _ => rfl
  | k + 1, n, q, h => by rw [← Nat.add_assoc, tT_st (n + k) q (by omega)]; exact tT_8 hF k n q h
theorem np_8 {L : LD} (hF : L.F ≤ 8) (q : Int32) : np L q ≤ 8 := by have := npF_b (L := L) (q := q) L.F; unfold np; omega
theorem tT_rec {L : LD} (hF : L.F ≤ 8) (q : Int32) : tT L 8 q = if mKn L.gl q then 0 else mTrM (tT L 8) L.hold q L.F := by
  have := tT_st (L := L) 8 q (np_8 hF q)
  rw [← this]
  show mTr L.hold L.gl L.F (8 + 1) q = _
  rw [mTr]
theorem tT_v {L : LD} : ∀ n q, tT L n q ≤ n ∨ tT L n q = 100
  | 0, q => by
    show mTr L.hold L.gl L.F 0 q ≤ 0 ∨ mTr L.hold L.gl L.F 0 q = 100
    rw [mTr]; split
    · left; omega
    · right; rfl
  | n + 1, q => by
    show mTr L.hold L.gl L.F (n + 1) q ≤ n + 1 ∨ mTr L.hold L.gl L.F (n + 1) q = 100
    rw [mTr]
    split
    · left; omega
    · have hB : ∀ f, mTrB (mTr L.hold L.gl L.F n) L.hold q f ≤ n + 1 ∨ mTrB (mTr L.hold L.gl L.F n) L.hold q f = 100 := by
        intro f
        unfold mTrB
        split
        · right; rfl
        · have a : mTr L.hold L.gl L.F n (q &&& L.hold f) ≤ n ∨ mTr L.hold L.gl L.F n (q &&& L.hold f) = 100 := tT_v n (q &&& L.hold f)
          have b : mTr L.hold L.gl L.F n (q &&& (L.hold f ^^^ (-1))) ≤ n ∨ mTr L.hold L.gl L.F n (q &&& (L.hold f ^^^ (-1))) = 100 := tT_v n (q &&& (L.hold f ^^^ (-1)))
          omega
      have : ∀ m, mTrM (mTr L.hold L.gl L.F n) L.hold q m ≤ n + 1 ∨ mTrM (mTr L.hold L.gl L.F n) L.hold q m = 100 := by
        intro m
        induction m with
        | zero => right; rfl
        | succ m ih => rw [mTrM]; have := hB m; omega
      exact this L.F
def c99 (n : Nat) : Nat := if n = 100 then 99 else n
def wv (L : LD) (q : Int32) : Nat := c99 (tT L 8 q)
def wB (L : LD) (q : Int32) (f : Nat) : Nat := c99 (mTrB (tT L 8) L.hold q f)
theorem wv_le {L : LD} (q : Int32) : wv L q ≤ 99 := by
  unfold wv c99
  have := tT_v (L := L) 8 q
  split <;> omega
theorem wB_v {L : LD} (q : Int32) (f : Nat) : (mTrB (tT L 8) L.hold q f ≤ 9 ∨ mTrB (tT L 8) L.hold q f = 100) := by
  unfold mTrB
  split
  · right; rfl
  · have a := tT_v (L := L) 8 (q &&& L.hold f)
    have b := tT_v (L := L) 8 (q &&& (L.hold f ^^^ (-1)))
    omega
theorem wB_yes {L : LD} {q : Int32} {f : Nat} (h : mKn (L.hold f) q = false) : wB L q f = min 99 (1 + max (wv L (q &&& L.hold f)) (wv L (q &&& (L.hold f ^^^ (-1))))) := by
  unfold wB wv c99 mTrB
  rw [h]
  have a := tT_v (L := L) 8 (q &&& L.hold f)
  have b := tT_v (L := L) 8 (q &&& (L.hold f ^^^ (-1)))
  simp only [Bool.false_eq_true, if_false]
  split <;> split <;> split <;> omega
theorem wB_no {L : LD} {q : Int32} {f : Nat} (h : mKn (L.hold f) q = true) : wB L q f = 99 := by
  unfold wB c99 mTrB
  rw [h]; simp
def wM (L : LD) (q : Int32) : Nat → Nat
  | 0 => 99
  | f + 1 => min (wM L q f) (wB L q f)
theorem wM_c {L : LD} {q : Int32} : ∀ n, wM L q n = c99 (mTrM (tT L 8) L.hold q n)
  | 0 => rfl
  | n + 1 => by
    rw [wM, wM_c n, mTrM]
    unfold wB c99
    have a := wB_v (L := L) q n
    have b := mTrM_le (tT L 8) L.hold q n
    split <;> split <;> split <;> omega
theorem wv_rec {L : LD} (hF : L.F ≤ 8) {q : Int32} (h : mKn L.gl q = false) : wv L q = wM L q L.F := by
  unfold wv
  rw [tT_rec hF, h, wM_c]; rfl
theorem wM_le {L : LD} {q : Int32} : ∀ n, wM L q n ≤ 99
  | 0 => Nat.le_refl _
  | n + 1 => by have := wM_le (L := L) (q := q) n; rw [wM]; omega
/-- what was found before is right -/
def WMm (s : ST) (L : LD) : Prop := ∀ n, n < 2 ^ L.W → s 95 n = -1 ∨ s 95 n = nI (wv L (nI n))
def PWm (G : GT) (μ : SL) (s : ST) (L : LD) (v : Nat) : Option Value → HT → Prop := fun r h' => r = some (.int (nI v)) ∧ ∃ s' : ST, h' = sh G s' μ ∧ (∀ c, c ≠ 95 → s' c = s c) ∧ WMm s' L
def IHw (G : GT) (μ : SL) (L : LD) (k : Nat) : Prop := ∀ (d : Nat) (s : ST) (q : Int32), np L q ≤ k → lo L.W q → MV s L → WMm s L → Fn G (d + 2 * k + 2) mX12_worstOf [.ref (G.b0 + 77), .int q] (sh G s μ) (PWm G μ s L (wv L q))
theorem m_worstBy {G : GT} {d : Nat} {s : ST} {μ : SL} {L : LD} {k f : Nat} {q : Int32} (ih : ∀ k', k = k' + 1 → IHw G μ L k') (hk : np L q ≤ k) (hf : f < L.F) (hq : lo L.W q) (hM : MV s L) (hW : WMm s L) : Fn G (d + 2 * k + 1) mX12_worstBy [.ref (G.b0 + 77), .int q, .int (nI f)] (sh G s μ) (PWm G μ s L (wB L q f)) := by
  have hb := hM.b
  refine fn_of (ls := [some (.ref (G.b0 + 77)), some (.int q), some (.int (nI f)), none, none, none]) (by decide +kernel) (Nat.le_of_ble_eq_true rfl) 3 rfl ?_
  refine b_iload_n dX12_worstBy_0 rfl ?_
  refine b_aload_n dX12_worstBy_1 rfl ?_
  refine g_get dX12_worstBy_2 fX12_13 a77 rfl ?_
  refine b_bipush (v := nI 105) dX12_worstBy_5 (by decide) ?_
  refine b_iload_n dX12_worstBy_7 rfl ?_
  refine b_iaddN dX12_worstBy_8 ?_
  refine g_iald dX12_worstBy_9 a78 rfl (by omega) ?_
  refine b_top (hM.hold (by omega)) ?_
  refine b_callSr [.int q, .int (L.hold f)] dX12_worstBy_10 kX12_isPlain lX12_229 m_isPlain rfl rfl (Nat.le_of_ble_eq_true rfl) ?_
  refine b_if_eq 19 dX12_worstBy_13 (by decide) (fun c1 => ?_) (fun c1 => ?_)
  · skip
    have c2 := (bI_0 _).mp c1
    have l1 := npF_lt (L := L) c2 (kn_own (q := q)) L.F hf
    have l2 := npF_lt (L := L) c2 (kn_own' (q := q)) L.F hf
    obtain ⟨k', rfl⟩ : ∃ k', k = k' + 1 := ⟨k - 1, by unfold np at hk; omega⟩
    have ihk := ih k' rfl
    refine b_aload_n dX12_worstBy_19 rfl ?_
    refine b_iload_n dX12_worstBy_20 rfl ?_
    refine b_aload_n dX12_worstBy_21 rfl ?_
    refine g_get dX12_worstBy_22 fX12_13 a77 rfl ?_
    refine b_bipush (v := nI 105) dX12_worstBy_25 (by decide) ?_
    refine b_iload_n dX12_worstBy_27 rfl ?_
    refine b_iaddN dX12_worstBy_28 ?_
    refine g_iald dX12_worstBy_29 a78 rfl (by omega) ?_
    refine b_top (hM.hold (by omega)) ?_
    refine b_iand dX12_worstBy_30 ?_
    refine g_callVp [.int (q &&& (L.hold f))] dX12_worstBy_31 kX12_worstOf lX12_366 a77 rfl rfl (Fn.dup (show d + 2 * k' + 2 = d + 2 * (k' + 1) by omega) (ihk d s (q &&& L.hold f) (by unfold np at hk ⊢; omega) (lo_and hq) hM hW)) rfl rfl (Nat.le_of_ble_eq_true rfl) ?_
    rintro r h9 ⟨rfl, s1, rfl, hs1, hW1⟩
    have hM1 : MV s1 L := MV_of hM (by rw [hs1 77 (by omega)]) (hs1 78 (by omega))
    refine b_istore_n dX12_worstBy_34 (by decide) rfl ?_
    refine b_aload_n dX12_worstBy_35 rfl ?_
    refine b_iload_n dX12_worstBy_36 rfl ?_
    refine b_aload_n dX12_worstBy_37 rfl ?_
    refine g_get dX12_worstBy_38 fX12_13 a77 rfl ?_
    refine b_bipush (v := nI 105) dX12_worstBy_41 (by decide) ?_
    refine b_iload_n dX12_worstBy_43 rfl ?_
    refine b_iaddN dX12_worstBy_44 ?_
    refine g_iald dX12_worstBy_45 a78 rfl (by omega) ?_
    refine b_top (hM1.hold (by omega)) ?_
    refine b_iconst (v := -1) dX12_worstBy_46 (by decide) ?_
    refine b_ixor dX12_worstBy_47 ?_
    refine b_iand dX12_worstBy_48 ?_
    refine g_callVp [.int (q &&& ((L.hold f) ^^^ ((-1))))] dX12_worstBy_49 kX12_worstOf lX12_366 a77 rfl rfl (Fn.dup (show d + 2 * k' + 2 = d + 2 * (k' + 1) by omega) (ihk d s1 (q &&& (L.hold f ^^^ (-1))) (by unfold np at hk ⊢; omega) (lo_and hq) hM1 hW1)) rfl rfl (Nat.le_of_ble_eq_true rfl) ?_
    rintro r h9 ⟨rfl, s2, rfl, hs2, hW2⟩
    have hs : ∀ c, c ≠ 95 → s2 c = s c := fun c h => (hs2 c h).trans (hs1 c h)
    have e := wB_yes (L := L) c2
    have b1 := wv_le (L := L) (q &&& L.hold f)
    have b2 := wv_le (L := L) (q &&& (L.hold f ^^^ (-1)))
    generalize wv L (q &&& L.hold f) = a at *
    generalize wv L (q &&& (L.hold f ^^^ (-1))) = b at *
    refine b_istore dX12_worstBy_52 (by decide) rfl ?_
    refine b_iconst (v := nI 1) dX12_worstBy_54 (by decide) ?_
    refine b_iload_n dX12_worstBy_55 rfl ?_
    refine b_iload dX12_worstBy_56 rfl ?_
    have fin : ∀ m : Nat, m ≤ 99 → wB L q f = min 99 (1 + m) → BB G RX12 cX12_worstBy 6 (some .int) (d + 2 * (k' + 1) + 1) (QM G (PWm G μ s L (wB L q f))) 67 [some (.ref (G.b0 + 77)), some (.int q), some (.int (nI f)), some (.int (nI a)), some (.int (nI b)), none] [.int (nI m), .int (nI 1)] (sh G s2 μ) := by
      intro m hm em
      refine b_iaddN dX12_worstBy_67 ?_
      refine b_istore dX12_worstBy_68 (by decide) rfl ?_
      refine b_iload dX12_worstBy_70 rfl ?_
      refine b_bipush (v := nI 99) dX12_worstBy_72 (by decide) ?_
      refine b_icmp_le 82 dX12_worstBy_74 (by decide) (fun c5 => ?_) (fun c5 => ?_)
      · skip
        rw [nI_leI (by omega) (by omega)] at c5
        refine b_iload dX12_worstBy_82 rfl ?_
        exact b_iret dX12_worstBy_84 ⟨by rw [em, Nat.min_eq_right (by omega)], s2, rfl, hs, hW2⟩
      · skip
        rw [nI_leI (by omega) (by omega)] at c5
        refine b_bipush (v := nI 99) dX12_worstBy_77 (by decide) ?_
        refine b_goto 84 dX12_worstBy_79 (by decide) ?_
        exact b_iret dX12_worstBy_84 ⟨by rw [em, Nat.min_eq_left (by omega)], s2, rfl, hs, hW2⟩
    refine b_icmp_le 65 dX12_worstBy_58 (by decide) (fun c4 => ?_) (fun c4 => ?_)
    · skip
      rw [nI_leI (by omega) (by omega)] at c4
      refine b_iload dX12_worstBy_65 rfl ?_
      exact fin b b2 (by rw [e, Nat.max_eq_right c4])
    · skip
      rw [nI_leI (by omega) (by omega)] at c4
      refine b_iload_n dX12_worstBy_61 rfl ?_
      refine b_goto 67 dX12_worstBy_62 (by decide) ?_
      exact fin a b1 (by rw [e, Nat.max_eq_left (by omega)])
  · skip
    have c2 := (bI_1 _).mp c1
    refine b_bipush (v := nI 99) dX12_worstBy_16 (by decide) ?_
    exact b_iret dX12_worstBy_18 ⟨by rw [wB_no c2], s, rfl, fun _ _ => rfl, hW⟩
theorem m_worstOf {G : GT} {μ : SL} {L : LD} (hF8 : L.F ≤ 8) (hW16 : L.W ≤ 16) : ∀ k, IHw G μ L k := by
  intro k
  induction k using Nat.strongRecOn with
  | ind k IH =>
  intro d s q hk hq hM hW
  have hb := hM.b
  have ih : ∀ k', k = k' + 1 → IHw G μ L k' := fun k' h => IH k' (by omega)
  have hpw : 2 ^ L.W ≤ 65536 := Nat.le_trans (Nat.pow_le_pow_right (by omega) hW16) (by decide)
  obtain ⟨n, hn, rfl⟩ := lo_nat (by omega) hq
  refine fn_of (ls := [some (.ref (G.b0 + 77)), some (.int (nI n)), none, none, none]) (by decide +kernel) (Nat.le_of_ble_eq_true rfl) 3 rfl ?_
  refine b_iload_n dX12_worstOf_0 rfl ?_
  refine b_aload_n dX12_worstOf_1 rfl ?_
  refine g_callV [] dX12_worstOf_2 kX12_guilty lX12_254 a77 rfl rfl (m_guilty hM) rfl rfl (Nat.le_of_ble_eq_true rfl) ?_
  refine b_callSr [.int (nI n), .int L.gl] dX12_worstOf_5 kX12_isPlain lX12_229 m_isPlain rfl rfl (Nat.le_of_ble_eq_true rfl) ?_
  refine b_if_eq 13 dX12_worstOf_8 (by decide) (fun c1 => ?_) (fun c1 => ?_)
  · skip
    have c2 := (bI_0 _).mp c1
    have er := wv_rec hF8 c2
    refine b_aload_n dX12_worstOf_13 rfl ?_
    refine g_get dX12_worstOf_14 fX12_70 a77 rfl ?_
    refine b_iload_n dX12_worstOf_17 rfl ?_
    refine g_iald dX12_worstOf_18 a95 rfl (by omega) ?_
    refine b_iconst (v := -1) dX12_worstOf_19 (by decide) ?_
    refine b_icmp_eq 30 dX12_worstOf_20 (by decide) (fun c3 => ?_) (fun c3 => ?_)
    · skip
      refine b_bipush (v := nI 99) dX12_worstOf_30 (by decide) ?_
      refine b_istore_n dX12_worstOf_32 (by decide) rfl ?_
      refine b_iconst (v := nI 0) dX12_worstOf_33 (by decide) ?_
      refine b_istore_n dX12_worstOf_34 (by decide) rfl ?_
      have lp : ∀ (m i : Nat) (s1 : ST) (z4 : Option Value), i + m = L.F → (∀ c, c ≠ 95 → s1 c = s c) → WMm s1 L → BB G RX12 cX12_worstOf 5 (some .int) (d + 2 * k + 2) (QM G (PWm G μ s L (wv L (nI n)))) 35 [some (.ref (G.b0 + 77)), some (.int (nI n)), some (.int (nI (wM L (nI n) i))), some (.int (nI i)), z4] [] (sh G s1 μ) := by
        intro m
        induction m with
        | zero =>
          intro i s1 z4 hi hs hW1
          have hM1 : MV s1 L := MV_of hM (by rw [hs 77 (by omega)]) (hs 78 (by omega))
          refine b_iload_n dX12_worstOf_35 rfl ?_
          refine b_aload_n dX12_worstOf_36 rfl ?_
          refine g_get dX12_worstOf_37 fX12_13 a77 rfl ?_
          refine b_iconst (v := nI 2) dX12_worstOf_40 (by decide) ?_
          refine g_iald dX12_worstOf_41 a78 rfl (by omega) ?_
          refine b_top hM1.cF ?_
          refine b_icmp_ge_t 72 dX12_worstOf_42 (by decide) (nI_le (by omega) (by omega)) ?_
          refine b_aload_n dX12_worstOf_72 rfl ?_
          refine g_get dX12_worstOf_73 fX12_70 a77 rfl ?_
          refine b_iload_n dX12_worstOf_76 rfl ?_
          refine b_iload_n dX12_worstOf_77 rfl ?_
          refine g_iast dX12_worstOf_78 a95 rfl (by omega) ?_
          refine b_iload_n dX12_worstOf_79 rfl ?_
          have ei : wM L (nI n) i = wv L (nI n) := by rw [er, show i = L.F by omega]
          refine b_iret dX12_worstOf_80 ⟨by rw [ei], _, rfl, fun c h => by rw [pt_r h]; exact hs c h, fun n' hn' => ?_⟩
          by_cases e : n' = n
          · subst e; right; rw [pt_s, ei]
          · rw [pt_j e]; exact hW1 n' hn'
        | succ m ihm =>
          intro i s1 z4 hi hs hW1
          have hM1 : MV s1 L := MV_of hM (by rw [hs 77 (by omega)]) (hs 78 (by omega))
          have bM := wM_le (L := L) (q := nI n) i
          have bB : wB L (nI n) i ≤ 99 := by unfold wB c99; have := wB_v (L := L) (nI n) i; split <;> omega
          refine b_iload_n dX12_worstOf_35 rfl ?_
          refine b_aload_n dX12_worstOf_36 rfl ?_
          refine g_get dX12_worstOf_37 fX12_13 a77 rfl ?_
          refine b_iconst (v := nI 2) dX12_worstOf_40 (by decide) ?_
          refine g_iald dX12_worstOf_41 a78 rfl (by omega) ?_
          refine b_top hM1.cF ?_
          refine b_icmp_ge_f 72 dX12_worstOf_42 (by decide) (nI_ge (by omega) (by omega)) ?_
          refine b_aload_n dX12_worstOf_45 rfl ?_
          refine b_iload_n dX12_worstOf_46 rfl ?_
          refine b_iload_n dX12_worstOf_47 rfl ?_
          refine g_callVp [.int (nI n), .int (nI i)] dX12_worstOf_48 kX12_worstBy lX12_363 a77 rfl rfl (m_worstBy (d := d) ih hk (show i < L.F by omega) hq hM1 hW1) rfl rfl (Nat.le_of_ble_eq_true rfl) ?_
          rintro r h9 ⟨rfl, s2, rfl, hs2, hW2⟩
          refine b_istore dX12_worstOf_51 (by decide) rfl ?_
          refine b_iload dX12_worstOf_53 rfl ?_
          refine b_iload_n dX12_worstOf_55 rfl ?_
          refine b_icmp_ge 64 dX12_worstOf_56 (by decide) (fun c4 => ?_) (fun c4 => ?_)
          · skip
            rw [nI_leI (by omega) (by omega)] at c4
            refine b_iload_n dX12_worstOf_64 rfl ?_
            refine b_istore_n dX12_worstOf_65 (by decide) rfl ?_
            refine b_iinc dX12_worstOf_66 rfl (nI_1 _) (by decide) rfl ?_
            refine b_goto 35 dX12_worstOf_69 (by decide) ?_
            refine b_locs ?_ (ihm (i + 1) s2 (some (.int (nI (wB L (nI n) i)))) (by omega) (fun c h => (hs2 c h).trans (hs c h)) hW2)
            rw [wM, Nat.min_eq_left c4]; rfl
          · skip
            rw [nI_leI (by omega) (by omega)] at c4
            refine b_iload dX12_worstOf_59 rfl ?_
            refine b_goto 65 dX12_worstOf_61 (by decide) ?_
            refine b_istore_n dX12_worstOf_65 (by decide) rfl ?_
            refine b_iinc dX12_worstOf_66 rfl (nI_1 _) (by decide) rfl ?_
            refine b_goto 35 dX12_worstOf_69 (by decide) ?_
            refine b_locs ?_ (ihm (i + 1) s2 (some (.int (nI (wB L (nI n) i)))) (by omega) (fun c h => (hs2 c h).trans (hs c h)) hW2)
            rw [wM, Nat.min_eq_right (by omega)]; rfl
      exact lp L.F 0 s _ (by omega) (fun _ _ => rfl) hW
    · skip
      have h95 : s 95 n = nI (wv L (nI n)) := by
        rcases hW n hn with h | h
        · exact absurd h c3
        · exact h
      refine b_aload_n dX12_worstOf_23 rfl ?_
      refine g_get dX12_worstOf_24 fX12_70 a77 rfl ?_
      refine b_iload_n dX12_worstOf_27 rfl ?_
      refine g_iald dX12_worstOf_28 a95 rfl (by omega) ?_
      refine b_top h95 ?_
      exact b_iret dX12_worstOf_29 ⟨rfl, s, rfl, fun _ _ => rfl, hW⟩
  · skip
    have c2 := (bI_1 _).mp c1
    refine b_iconst (v := nI 0) dX12_worstOf_11 (by decide) ?_
    exact b_iret dX12_worstOf_12 ⟨by unfold wv; rw [tT_rec hF8, c2]; rfl, s, rfl, fun _ _ => rfl, hW⟩

