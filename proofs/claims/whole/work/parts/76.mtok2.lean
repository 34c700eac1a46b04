/-! ===== the reference: the next token ===== -/
def Nx (σ s : ST) : Prop := (∀ c, c ≠ 77 → s c = σ c) ∧ ∀ q, q < 9 ∨ q = 11 ∨ 13 < q → s 77 q = σ 77 q
theorem Nx_r (σ : ST) : Nx σ σ := ⟨fun _ _ => rfl, fun _ _ => rfl⟩
theorem Nx_t {σ s s' : ST} (h : Nx σ s) (h' : Nx s s') : Nx σ s' := ⟨fun c hc => (h'.1 c hc).trans (h.1 c hc), fun q hq => (h'.2 q hq).trans (h.2 q hq)⟩
theorem Nx_p {σ s : ST} {q : Nat} {x : Int32} (h : Nx σ s) (hq : ¬ (q < 9 ∨ q = 11 ∨ 13 < q)) : Nx σ (pt s 77 q x) := ⟨fun c hc => by rw [pt_r hc]; exact h.1 c hc, fun k hk => by rw [pt_j (by omega)]; exact h.2 k hk⟩
theorem TxM_nx {σ s : ST} {X : TX} (h : TxM σ X) (hn : Nx σ s) : TxM s X := ⟨h.1, fun k hk => by rw [hn.1 80 (by omega)]; exact h.2.1 k hk, by rw [hn.2 11 (by omega)]; exact h.2.2⟩
/-- the token that the reference stands at -/
def TkM (s : ST) (X : TX) (i : Nat) : Prop := s 77 9 = nI (tS X i) ∧ s 77 10 = nI (bh X (i + 1)) ∧ s 77 12 = nI (tK X i) ∧ (tK X i = 16 → s 77 13 = nI (tV X i))
def PNx (G : GT) (μ : SL) (σ : ST) (X : TX) (i : Nat) : Option Value → HT → Prop := fun r h' => r = none ∧ ∃ s : ST, h' = sh G s μ ∧ Nx σ s ∧ TkM s X i
theorem isL_D {x : Nat} (h : isL x = true) : isD x = false := by
  simp only [isL, isD, Bool.and_eq_true, decide_eq_true_eq, Bool.and_eq_false_iff, decide_eq_false_iff_not] at h ⊢
  omega
theorem sg_at : ∀ k, k < 12 → sch 15 k = nI (sgs.getD k 0) ∧ sgs.getD k 0 < 128 := by decide +kernel
theorem sg_ok : ∀ x, x < 256 → ∀ k, k < 12 → (sgs.getD k 0 = x ↔ sgs.findIdx (fun y => y == x) = k) := by decide +kernel
set_option maxHeartbeats 2000000 in
theorem m_next {G : GT} {d : Nat} {σ : ST} {μ : SL} {X : TX} {i : Nat} (hT : TxM σ X) (hb : σ 77 10 = nI (bh X i)) : Fn G (d + 5) mX12_next [.ref (G.b0 + 77)] (sh G σ μ) (PNx G μ σ X i) := by
  have hX := hT.1
  have hbl := bh_le X i
  have h12 : slen.getD 15 0 = 12 := by decide
  refine fn_of (ls := [some (.ref (G.b0 + 77)), none]) (by decide +kernel) (Nat.le_of_ble_eq_true rfl) 1 rfl ?_
  refine b_aload_n dX12_next_0 rfl ?_
  refine b_aload_n dX12_next_1 rfl ?_
  refine g_geti (x := nI (bh X i)) dX12_next_2 fX12_104 a77 rfl hb ?_
  refine g_put dX12_next_5 wX12_101 a77 tfX12_9 (Nat.le_of_ble_eq_true rfl) rfl ?_
  -- behind the blanks
  have af : ∀ (p : Nat) (s : ST), p ≤ X.2 → Nx σ s → s 77 9 = nI p → tS X i = p → BB G RX12 cX12_next 2 none (d + 5) (QM G (PNx G μ σ X i)) 47 [some (.ref (G.b0 + 77)), none] [] (sh G s μ) := by
    intro p s hp hN h9 hS
    have hN1 : Nx σ (pt s 77 10 (nI p)) := Nx_p hN (by omega)
    have h91 : pt s 77 10 (nI p) 77 9 = nI p := by rw [pt_j (by omega)]; exact h9
    obtain ⟨s1, hs1⟩ : ∃ s1, s1 = pt s 77 10 (nI p) := ⟨_, rfl⟩
    have h101 : s1 77 10 = nI p := by rw [hs1, pt_s]
    rw [← hs1] at hN1 h91
    have hT1 := TxM_nx hT hN1
    refine b_aload_n dX12_next_47 rfl ?_
    refine b_aload_n dX12_next_48 rfl ?_
    refine g_geti (x := nI p) dX12_next_49 fX12_101 a77 rfl h9 ?_
    refine g_put dX12_next_52 wX12_104 a77 tfX12_10 (Nat.le_of_ble_eq_true rfl) rfl ?_
    refine b_sig hs1.symm ?_
    refine b_aload_n dX12_next_55 rfl ?_
    refine g_geti (x := nI p) dX12_next_56 fX12_101 a77 rfl h91 ?_
    refine b_aload_n dX12_next_59 rfl ?_
    refine g_geti (x := nI X.2) dX12_next_60 fX12_86 a77 rfl hT1.2.2 ?_
    refine b_icmp_lt 75 dX12_next_63 (by decide) (fun c1 => ?_) (fun c1 => ?_)
    · skip
      rw [nI_ltI (by omega) (by omega)] at c1
      have hSX : tS X i < X.2 := by omega
      have hbE : bh X (i + 1) = tEn X p := by rw [bh_s hSX, hS]
      have hgt := tEn_gt X p
      have hle := tEn_le (X := X) (s := p) c1
      have hK : tK X i = kdT X p (tEn X p) := by unfold tK; rw [if_pos hSX, hS, hbE]
      have hV : tK X i = 16 → tV X i = vlN X.1 p (tEn X p - p) := fun z => by unfold tV; rw [if_pos z, hS, hbE]
      obtain ⟨b1, b2⟩ := hT1.2.1 p (by omega)
      refine b_aload_n dX12_next_75 rfl ?_
      refine b_aload_n dX12_next_76 rfl ?_
      refine g_geti (x := nI p) dX12_next_77 fX12_101 a77 rfl h91 ?_
      refine g_callV [.int (nI p)] dX12_next_80 kX12_see lX12_107 a77 rfl rfl (m_see hT1 (by omega)) rfl rfl (Nat.le_of_ble_eq_true rfl) ?_
      refine b_callSr [.int (seeV X p)] dX12_next_83 kX12_isSmall lX12_114 m_isSmall rfl rfl (Nat.le_of_ble_eq_true rfl) ?_
      rw [see_L b1, show seeL X p = isL (X.1 p) by unfold seeL; rw [decide_eq_true c1, Bool.true_and]]
      refine b_if_eq 127 dX12_next_86 (by decide) (fun c2 => ?_) (fun c2 => ?_)
      · skip
        have c3 : isL (X.1 p) = false := (bI_0 _).mp c2
        refine b_aload_n dX12_next_127 rfl ?_
        refine b_aload_n dX12_next_128 rfl ?_
        refine g_geti (x := nI p) dX12_next_129 fX12_101 a77 rfl h91 ?_
        refine g_callV [.int (nI p)] dX12_next_132 kX12_see lX12_107 a77 rfl rfl (m_see hT1 (by omega)) rfl rfl (Nat.le_of_ble_eq_true rfl) ?_
        refine b_callSr [.int (seeV X p)] dX12_next_135 kX12_isDigit lX12_121 m_isDigit rfl rfl (Nat.le_of_ble_eq_true rfl) ?_
        rw [see_D b1, show seeD X p = isD (X.1 p) by unfold seeD; rw [decide_eq_true c1, Bool.true_and]]
        refine b_if_eq 236 dX12_next_138 (by decide) (fun c4 => ?_) (fun c4 => ?_)
        · skip
          have c5 : isD (X.1 p) = false := (bI_0 _).mp c4
          have hE : tEn X p = p + 1 := by simp [tEn, c3, c5]
          have hKs : tK X i = sgK (X.1 p) := by rw [hK]; unfold kdT; rw [c5, c3]; rfl
          refine b_aload_n dX12_next_236 rfl ?_
          refine b_dup dX12_next_237 rfl ?_
          refine g_geti (x := nI p) dX12_next_238 fX12_104 a77 rfl h101 ?_
          refine b_iconst (v := nI 1) dX12_next_241 (by decide) ?_
          refine b_iaddN dX12_next_242 ?_
          refine g_put dX12_next_243 wX12_104 a77 tfX12_10 (Nat.le_of_ble_eq_true rfl) rfl ?_
          refine b_aload_n dX12_next_246 rfl ?_
          refine b_bipush (v := nI 18) dX12_next_247 (by decide) ?_
          refine g_put dX12_next_249 wX12_111 a77 tfX12_12 (Nat.le_of_ble_eq_true rfl) rfl ?_
          refine b_iconst (v := nI 0) dX12_next_252 (by decide) ?_
          refine b_istore_n dX12_next_253 (by decide) rfl ?_
          have lp : ∀ (m k : Nat) (s2 : ST), k + m = 12 → Nx σ s2 → s2 77 9 = nI p → s2 77 10 = nI (p + 1) → s2 77 12 = nI (if sgs.findIdx (fun y => y == X.1 p) < k then 20 + sgs.findIdx (fun y => y == X.1 p) else 18) → BB G RX12 cX12_next 2 none (d + 5) (QM G (PNx G μ σ X i)) 254 [some (.ref (G.b0 + 77)), some (.int (nI k))] [] (sh G s2 μ) := by
            intro m
            induction m with
            | zero =>
              intro k s2 hk n2 a9 a10 a12
              have ek : k = 12 := by omega
              subst ek
              refine b_iload_n dX12_next_254 rfl ?_
              refine b_ldcS (q := 15) dX12_next_255 rfl ?_
              refine b_callStr [] dX12_next_257 kJ0_length_8abf5 lX12_91 (by omega) rfl (c_length (d := d + 3) (q := 15) (by omega)) rfl rfl (Nat.le_of_ble_eq_true rfl) ?_
              rw [h12]
              refine b_icmp_ge_t 294 dX12_next_260 (by decide) (by decide) ?_
              refine b_vret dX12_next_294 ⟨rfl, s2, rfl, n2, by rw [hS]; exact a9, by rw [hbE, hE]; exact a10, by rw [hKs]; exact a12, fun z => ?_⟩
              exfalso
              rw [hKs] at z
              unfold sgK at z
              split at z <;> omega
            | succ m ih =>
              intro k s2 hk n2 a9 a10 a12
              obtain ⟨g1, g2⟩ := sg_at k (by omega)
              have g3 := sg_ok (X.1 p) b1 k (by omega)
              refine b_iload_n dX12_next_254 rfl ?_
              refine b_ldcS (q := 15) dX12_next_255 rfl ?_
              refine b_callStr [] dX12_next_257 kJ0_length_8abf5 lX12_91 (by omega) rfl (c_length (d := d + 3) (q := 15) (by omega)) rfl rfl (Nat.le_of_ble_eq_true rfl) ?_
              rw [h12]
              refine b_icmp_ge_f 294 dX12_next_260 (by decide) (nI_ge (by omega) (by omega)) ?_
              refine b_aload_n dX12_next_263 rfl ?_
              refine b_aload_n dX12_next_264 rfl ?_
              refine g_geti (x := nI p) dX12_next_265 fX12_101 a77 rfl a9 ?_
              refine g_callV [.int (nI p)] dX12_next_268 kX12_see lX12_107 a77 rfl rfl (m_see (TxM_nx hT n2) (by omega)) rfl rfl (Nat.le_of_ble_eq_true rfl) ?_
              refine b_ldcS (q := 15) dX12_next_271 rfl ?_
              refine b_iload_n dX12_next_273 rfl ?_
              refine b_callStr [.int (nI k)] dX12_next_274 kJ0_charAt_5068e lX12_97 (by omega) rfl (c_charAt (d := d + 1) (q := 15) (j := k) (by omega) (by omega)) rfl rfl (Nat.le_of_ble_eq_true rfl) ?_
              rw [g1]
              refine b_icmp_ne 288 dX12_next_277 (by decide) (fun c6 => ?_) (fun c6 => ?_)
              · skip
                have c7 : ¬ sgs.findIdx (fun y => y == X.1 p) = k := fun z => c6 ((see_e (fun _ => b1) (by omega)).mpr ⟨c1, (g3.mpr z).symm⟩)
                refine b_iinc dX12_next_288 rfl (nI_1 _) (by decide) rfl ?_
                refine b_goto 254 dX12_next_291 (by decide) ?_
                refine ih (k + 1) s2 (by omega) n2 a9 a10 ?_
                rw [a12]
                congr 1
                by_cases q : sgs.findIdx (fun y => y == X.1 p) < k
                · rw [if_pos q, if_pos (by omega)]
                · rw [if_neg q, if_neg (by omega)]
              · skip
                have c8 := ((see_e (fun _ => b1) (by omega)).mp c6).2
                have c7 : sgs.findIdx (fun y => y == X.1 p) = k := g3.mp c8.symm
                refine b_aload_n dX12_next_280 rfl ?_
                refine b_bipush (v := nI 20) dX12_next_281 (by decide) ?_
                refine b_iload_n dX12_next_283 rfl ?_
                refine b_iaddN dX12_next_284 ?_
                refine g_put dX12_next_285 wX12_111 a77 tfX12_12 (Nat.le_of_ble_eq_true rfl) rfl ?_
                refine b_iinc dX12_next_288 rfl (nI_1 _) (by decide) rfl ?_
                refine b_goto 254 dX12_next_291 (by decide) ?_
                refine ih (k + 1) _ (by omega) (Nx_p n2 (by omega)) (by rw [pt_j (by omega)]; exact a9) (by rw [pt_j (by omega)]; exact a10) ?_
                rw [pt_s, c7, if_pos (by omega)]
          refine lp 12 0 _ rfl (Nx_p (Nx_p hN1 (by omega)) (by omega)) (by rw [pt_j (by omega), pt_j (by omega)]; exact h91) (by rw [pt_j (by omega), pt_s]) ?_
          rw [pt_s, if_neg (by omega)]
        · skip
          have c5 : isD (X.1 p) = true := (bI_1 _).mp c4
          have hE : tEn X p = upto (fun q => isD (X.1 q)) X.2 (p + 1) := by simp only [tEn, c3, c5, Bool.false_eq_true, if_false, if_true]
          have hKs : tK X i = if tEn X p - p ≤ 3 then 16 else 18 := by rw [hK]; unfold kdT; rw [if_pos c5]
          refine b_aload_n dX12_next_141 rfl ?_
          refine b_iconst (v := nI 0) dX12_next_142 (by decide) ?_
          refine g_put dX12_next_143 wX12_124 a77 tfX12_13 (Nat.le_of_ble_eq_true rfl) rfl ?_
          have lp : ∀ (m e v : Nat) (s2 : ST), e + m = X.2 → p ≤ e → Nx σ s2 → s2 77 9 = nI p → s2 77 10 = nI e → s2 77 13 = nI v → v = vlN X.1 p (min (e - p) 3) → v < 10 ^ min (e - p) 3 → upto (fun q => isD (X.1 q)) X.2 e = upto (fun q => isD (X.1 q)) X.2 p → BB G RX12 cX12_next 2 none (d + 5) (QM G (PNx G μ σ X i)) 146 [some (.ref (G.b0 + 77)), none] [] (sh G s2 μ) := by
            have fin : ∀ (e v : Nat) (s2 : ST), e = tEn X p → Nx σ s2 → s2 77 9 = nI p → s2 77 10 = nI e → s2 77 13 = nI v → v = vlN X.1 p (min (e - p) 3) → BB G RX12 cX12_next 2 none (d + 5) (QM G (PNx G μ σ X i)) 209 [some (.ref (G.b0 + 77)), none] [] (sh G s2 μ) := by
              intro e v s2 he n2 a9 a10 a13 hv
              refine b_aload_n dX12_next_209 rfl ?_
              refine b_aload_n dX12_next_210 rfl ?_
              refine g_geti (x := nI e) dX12_next_211 fX12_104 a77 rfl a10 ?_
              refine b_aload_n dX12_next_214 rfl ?_
              refine g_geti (x := nI p) dX12_next_215 fX12_101 a77 rfl a9 ?_
              refine b_isub dX12_next_218 ?_
              refine b_top (y := nI (e - p)) (nI_sub (by omega)) ?_
              refine b_iconst (v := nI 3) dX12_next_219 (by decide) ?_
              refine b_icmp_le 228 dX12_next_220 (by decide) (fun c6 => ?_) (fun c6 => ?_)
              · skip
                rw [nI_leI (by omega) (by omega)] at c6
                refine b_bipush (v := nI 16) dX12_next_228 (by decide) ?_
                refine g_put dX12_next_230 wX12_111 a77 tfX12_12 (Nat.le_of_ble_eq_true rfl) rfl ?_
                refine b_goto 294 dX12_next_233 (by decide) ?_
                refine b_vret dX12_next_294 ⟨rfl, _, rfl, Nx_p n2 (by omega), by rw [hS, pt_j (by omega)]; exact a9, by rw [hbE, pt_j (by omega), ← he]; exact a10, by rw [hKs, if_pos (by omega), pt_s], fun z => ?_⟩
                rw [hV z, pt_j (by omega), a13, hv, ← he, Nat.min_eq_left c6]
              · skip
                rw [nI_leI (by omega) (by omega)] at c6
                refine b_bipush (v := nI 18) dX12_next_223 (by decide) ?_
                refine b_goto 230 dX12_next_225 (by decide) ?_
                refine g_put dX12_next_230 wX12_111 a77 tfX12_12 (Nat.le_of_ble_eq_true rfl) rfl ?_
                refine b_goto 294 dX12_next_233 (by decide) ?_
                refine b_vret dX12_next_294 ⟨rfl, _, rfl, Nx_p n2 (by omega), by rw [hS, pt_j (by omega)]; exact a9, by rw [hbE, pt_j (by omega), ← he]; exact a10, by rw [hKs, if_neg (by omega), pt_s], fun z => ?_⟩
                rw [hKs, if_neg (by omega)] at z
                omega
            have st : ∀ (e v : Nat) (s2 : ST), p ≤ e → e ≤ X.2 → Nx σ s2 → s2 77 9 = nI p → s2 77 10 = nI e → s2 77 13 = nI v → v = vlN X.1 p (min (e - p) 3) → upto (fun q => isD (X.1 q)) X.2 e = upto (fun q => isD (X.1 q)) X.2 p → (e < X.2 → isD (X.1 e) = true → BB G RX12 cX12_next 2 none (d + 5) (QM G (PNx G μ σ X i)) 160 [some (.ref (G.b0 + 77)), none] [] (sh G s2 μ)) → BB G RX12 cX12_next 2 none (d + 5) (QM G (PNx G μ σ X i)) 146 [some (.ref (G.b0 + 77)), none] [] (sh G s2 μ) := by
              intro e v s2 hpe heX n2 a9 a10 a13 hv hu hgo
              refine b_aload_n dX12_next_146 rfl ?_
              refine b_aload_n dX12_next_147 rfl ?_
              refine g_geti (x := nI e) dX12_next_148 fX12_104 a77 rfl a10 ?_
              refine g_callV [.int (nI e)] dX12_next_151 kX12_see lX12_107 a77 rfl rfl (m_see (TxM_nx hT n2) (by omega)) rfl rfl (Nat.le_of_ble_eq_true rfl) ?_
              refine b_callSr [.int (seeV X e)] dX12_next_154 kX12_isDigit lX12_121 m_isDigit rfl rfl (Nat.le_of_ble_eq_true rfl) ?_
              by_cases q : e < X.2
              · obtain ⟨e1, e2⟩ := hT1.2.1 e (by omega)
                rw [see_D e1, show seeD X e = isD (X.1 e) by unfold seeD; rw [decide_eq_true q, Bool.true_and]]
                refine b_if_eq 209 dX12_next_157 (by decide) (fun c6 => ?_) (fun c6 => ?_)
                · skip
                  have c7 : isD (X.1 e) = false := (bI_0 _).mp c6
                  refine fin e v s2 ?_ n2 a9 a10 a13 hv
                  rw [hE, ← upto_y (c := fun q => isD (X.1 q)) (n := X.2) (p := p) c1 c5, ← hu]
                  exact (upto_n (fun z => by rw [c7] at z; exact absurd z.2 (by decide))).symm
                · skip
                  exact hgo q ((bI_1 _).mp c6)
              · have e3 : seeV X e = -1 := by unfold seeV; rw [if_neg q]
                rw [e3]
                refine b_if_eq_t 209 dX12_next_157 (by decide) (by decide) ?_
                refine fin e v s2 ?_ n2 a9 a10 a13 hv
                rw [hE, ← upto_y (c := fun q => isD (X.1 q)) (n := X.2) (p := p) c1 c5, ← hu]
                exact (upto_n (by omega)).symm
            intro m
            induction m with
            | zero =>
              intro e v s2 hm hpe n2 a9 a10 a13 hv hv2 hu
              exact st e v s2 hpe (by omega) n2 a9 a10 a13 hv hu (fun z => absurd z (by omega))
            | succ m ih =>
              intro e v s2 hm hpe n2 a9 a10 a13 hv hv2 hu
              refine st e v s2 hpe (by omega) n2 a9 a10 a13 hv hu (fun heX hdg => ?_)
              obtain ⟨e1, e2⟩ := hT1.2.1 e (by omega)
              have hdg2 := hdg
              simp only [isD, Bool.and_eq_true, decide_eq_true_eq] at hdg2
              have hu' : upto (fun q => isD (X.1 q)) X.2 (e + 1) = upto (fun q => isD (X.1 q)) X.2 p := by rw [← hu]; exact (upto_y (c := fun q => isD (X.1 q)) (n := X.2) (p := e) heX hdg).symm
              refine b_aload_n dX12_next_160 rfl ?_
              refine g_geti (x := nI e) dX12_next_161 fX12_104 a77 rfl a10 ?_
              refine b_aload_n dX12_next_164 rfl ?_
              refine g_geti (x := nI p) dX12_next_165 fX12_101 a77 rfl a9 ?_
              refine b_isub dX12_next_168 ?_
              refine b_top (y := nI (e - p)) (nI_sub (by omega)) ?_
              refine b_iconst (v := nI 3) dX12_next_169 (by decide) ?_
              refine b_icmp_ge 196 dX12_next_170 (by decide) (fun c6 => ?_) (fun c6 => ?_)
              · skip
                rw [nI_leI (by omega) (by omega)] at c6
                refine b_aload_n dX12_next_196 rfl ?_
                refine b_dup dX12_next_197 rfl ?_
                refine g_geti (x := nI e) dX12_next_198 fX12_104 a77 rfl a10 ?_
                refine b_iconst (v := nI 1) dX12_next_201 (by decide) ?_
                refine b_iaddN dX12_next_202 ?_
                refine g_put dX12_next_203 wX12_104 a77 tfX12_10 (Nat.le_of_ble_eq_true rfl) rfl ?_
                refine b_goto 146 dX12_next_206 (by decide) ?_
                refine ih (e + 1) v _ (by omega) (by omega) (Nx_p n2 (by omega)) (by rw [pt_j (by omega)]; exact a9) (pt_s _ _ _ _) (by rw [pt_j (by omega)]; exact a13) ?_ ?_ hu'
                · rw [hv, Nat.min_eq_right (by omega), Nat.min_eq_right (by omega)]
                · rw [Nat.min_eq_right (by omega)]; rw [Nat.min_eq_right (by omega)] at hv2; exact hv2
              · skip
                rw [nI_leI (by omega) (by omega)] at c6
                rw [Nat.min_eq_left (by omega)] at hv hv2
                have hv3 : v < 10 ^ 3 := Nat.lt_of_lt_of_le hv2 (Nat.pow_le_pow_right (by omega) (by omega))
                refine b_aload_n dX12_next_173 rfl ?_
                refine b_bipush (v := nI 10) dX12_next_174 (by decide) ?_
                refine b_aload_n dX12_next_176 rfl ?_
                refine g_geti (x := nI v) dX12_next_177 fX12_124 a77 rfl a13 ?_
                refine b_imulN dX12_next_180 ?_
                refine b_aload_n dX12_next_181 rfl ?_
                refine b_aload_n dX12_next_182 rfl ?_
                refine g_geti (x := nI e) dX12_next_183 fX12_104 a77 rfl a10 ?_
                refine g_callV [.int (nI e)] dX12_next_186 kX12_see lX12_107 a77 rfl rfl (m_see (TxM_nx hT n2) (by omega)) rfl rfl (Nat.le_of_ble_eq_true rfl) ?_
                rw [show seeV X e = nI (X.1 e) by unfold seeV; rw [if_pos heX]]
                refine b_iaddN dX12_next_189 ?_
                refine b_bipush (v := nI 48) dX12_next_190 (by decide) ?_
                refine b_isub dX12_next_192 ?_
                refine b_top (y := nI (((10 * v) + (X.1 e)) - 48)) (nI_sub (by omega)) ?_
                refine g_put dX12_next_193 wX12_124 a77 tfX12_13 (Nat.le_of_ble_eq_true rfl) rfl ?_
                refine b_aload_n dX12_next_196 rfl ?_
                refine b_dup dX12_next_197 rfl ?_
                refine g_geti (x := nI e) dX12_next_198 fX12_104 a77 rfl (by rw [pt_j (by omega)]; exact a10) ?_
                refine b_iconst (v := nI 1) dX12_next_201 (by decide) ?_
                refine b_iaddN dX12_next_202 ?_
                refine g_put dX12_next_203 wX12_104 a77 tfX12_10 (Nat.le_of_ble_eq_true rfl) rfl ?_
                refine b_goto 146 dX12_next_206 (by decide) ?_
                refine ih (e + 1) (10 * v + X.1 e - 48) _ (by omega) (by omega) (Nx_p (Nx_p n2 (by omega)) (by omega)) (by rw [pt_j (by omega), pt_j (by omega)]; exact a9) (pt_s _ _ _ _) (by rw [pt_j (by omega), pt_s]) ?_ ?_ hu'
                · rw [Nat.min_eq_left (by omega), show e + 1 - p = (e - p) + 1 by omega, vlN, ← hv, show p + (e - p) = e by omega]; omega
                · rw [Nat.min_eq_left (by omega), show e + 1 - p = (e - p) + 1 by omega, Nat.pow_succ]; omega
          refine lp (X.2 - p) p 0 _ (by omega) (Nat.le_refl p) (Nx_p hN1 (by omega)) (by rw [pt_j (by omega)]; exact h91) (by rw [pt_j (by omega)]; exact h101) (pt_s _ _ _ _) ?_ ?_ rfl
          · rw [Nat.sub_self, Nat.zero_min]; rfl
          · rw [Nat.sub_self, Nat.zero_min]; decide
      · skip
        have c3 : isL (X.1 p) = true := (bI_1 _).mp c2
        have c5 := isL_D c3
        have hE : tEn X p = upto (fun q => isL (X.1 q)) X.2 (p + 1) := by simp only [tEn, c3, if_true]
        have hKs : tK X i = wK X p (tEn X p) := by rw [hK]; unfold kdT; rw [c5, c3]; rfl
        have hw := wK_le X p (tEn X p)
        have fin : ∀ (s2 : ST), Nx σ s2 → s2 77 9 = nI p → s2 77 10 = nI (tEn X p) → BB G RX12 cX12_next 2 none (d + 5) (QM G (PNx G μ σ X i)) 116 [some (.ref (G.b0 + 77)), none] [] (sh G s2 μ) := by
          intro s2 n2 a9 a10
          refine b_aload_n dX12_next_116 rfl ?_
          refine b_aload_n dX12_next_117 rfl ?_
          refine g_callV [] dX12_next_118 kX12_keyAt lX12_118 a77 rfl rfl (m_keyAt (d := d) (TxM_nx hT n2) a9 a10 hgt hle) rfl rfl (Nat.le_of_ble_eq_true rfl) ?_
          refine g_put dX12_next_121 wX12_111 a77 tfX12_12 (Nat.le_of_ble_eq_true rfl) rfl ?_
          refine b_goto 294 dX12_next_124 (by decide) ?_
          refine b_vret dX12_next_294 ⟨rfl, _, rfl, Nx_p n2 (by omega), by rw [hS, pt_j (by omega)]; exact a9, by rw [hbE, pt_j (by omega)]; exact a10, by rw [hKs, pt_s], fun z => ?_⟩
          omega
        have lp : ∀ (m e : Nat) (s2 : ST), e + m = X.2 → p ≤ e → Nx σ s2 → s2 77 9 = nI p → s2 77 10 = nI e → upto (fun q => isL (X.1 q)) X.2 e = upto (fun q => isL (X.1 q)) X.2 p → BB G RX12 cX12_next 2 none (d + 5) (QM G (PNx G μ σ X i)) 89 [some (.ref (G.b0 + 77)), none] [] (sh G s2 μ) := by
          have st : ∀ (e : Nat) (s2 : ST), p ≤ e → e ≤ X.2 → Nx σ s2 → s2 77 9 = nI p → s2 77 10 = nI e → upto (fun q => isL (X.1 q)) X.2 e = upto (fun q => isL (X.1 q)) X.2 p → (e < X.2 → isL (X.1 e) = true → BB G RX12 cX12_next 2 none (d + 5) (QM G (PNx G μ σ X i)) 103 [some (.ref (G.b0 + 77)), none] [] (sh G s2 μ)) → BB G RX12 cX12_next 2 none (d + 5) (QM G (PNx G μ σ X i)) 89 [some (.ref (G.b0 + 77)), none] [] (sh G s2 μ) := by
            intro e s2 hpe heX n2 a9 a10 hu hgo
            refine b_aload_n dX12_next_89 rfl ?_
            refine b_aload_n dX12_next_90 rfl ?_
            refine g_geti (x := nI e) dX12_next_91 fX12_104 a77 rfl a10 ?_
            refine g_callV [.int (nI e)] dX12_next_94 kX12_see lX12_107 a77 rfl rfl (m_see (TxM_nx hT n2) (by omega)) rfl rfl (Nat.le_of_ble_eq_true rfl) ?_
            refine b_callSr [.int (seeV X e)] dX12_next_97 kX12_isSmall lX12_114 m_isSmall rfl rfl (Nat.le_of_ble_eq_true rfl) ?_
            by_cases q : e < X.2
            · obtain ⟨e1, e2⟩ := hT1.2.1 e (by omega)
              rw [see_L e1, show seeL X e = isL (X.1 e) by unfold seeL; rw [decide_eq_true q, Bool.true_and]]
              refine b_if_eq 116 dX12_next_100 (by decide) (fun c6 => ?_) (fun c6 => ?_)
              · skip
                have c7 : isL (X.1 e) = false := (bI_0 _).mp c6
                refine fin s2 n2 a9 ?_
                rw [a10, hE, ← upto_y (c := fun q => isL (X.1 q)) (n := X.2) (p := p) c1 c3, ← hu]
                congr 1
                exact (upto_n (fun z => by rw [c7] at z; exact absurd z.2 (by decide))).symm
              · skip
                exact hgo q ((bI_1 _).mp c6)
            · have e3 : seeV X e = -1 := by unfold seeV; rw [if_neg q]
              rw [e3]
              refine b_if_eq_t 116 dX12_next_100 (by decide) (by decide) ?_
              refine fin s2 n2 a9 ?_
              rw [a10, hE, ← upto_y (c := fun q => isL (X.1 q)) (n := X.2) (p := p) c1 c3, ← hu]
              congr 1
              exact (upto_n (by omega)).symm
          intro m
          induction m with
          | zero =>
            intro e s2 hm hpe n2 a9 a10 hu
            exact st e s2 hpe (by omega) n2 a9 a10 hu (fun z => absurd z (by omega))
          | succ m ih =>
            intro e s2 hm hpe n2 a9 a10 hu
            refine st e s2 hpe (by omega) n2 a9 a10 hu (fun heX hdg => ?_)
            refine b_aload_n dX12_next_103 rfl ?_
            refine b_dup dX12_next_104 rfl ?_
            refine g_geti (x := nI e) dX12_next_105 fX12_104 a77 rfl a10 ?_
            refine b_iconst (v := nI 1) dX12_next_108 (by decide) ?_
            refine b_iaddN dX12_next_109 ?_
            refine g_put dX12_next_110 wX12_104 a77 tfX12_10 (Nat.le_of_ble_eq_true rfl) rfl ?_
            refine b_goto 89 dX12_next_113 (by decide) ?_
            exact ih (e + 1) _ (by omega) (by omega) (Nx_p n2 (by omega)) (by rw [pt_j (by omega)]; exact a9) (pt_s _ _ _ _) (by rw [← hu]; exact (upto_y (c := fun q => isL (X.1 q)) (n := X.2) (p := e) heX hdg).symm)
        exact lp (X.2 - p) p s1 (by omega) (Nat.le_refl p) hN1 h91 h101 rfl
    · skip
      rw [nI_ltI (by omega) (by omega)] at c1
      have ep : p = X.2 := by omega
      have hbX : bh X (i + 1) = X.2 := by rw [bh]; exact if_neg (by show ¬ tS X i < X.2; omega)
      have hK : tK X i = 17 := by unfold tK; rw [if_neg (by omega)]
      refine b_aload_n dX12_next_66 rfl ?_
      refine b_bipush (v := nI 17) dX12_next_67 (by decide) ?_
      refine g_put dX12_next_69 wX12_111 a77 tfX12_12 (Nat.le_of_ble_eq_true rfl) rfl ?_
      refine b_goto 294 dX12_next_72 (by decide) ?_
      refine b_vret dX12_next_294 ⟨rfl, _, rfl, Nx_p hN1 (by omega), by rw [hS, pt_j (by omega)]; exact h91, by rw [hbX, pt_j (by omega), ← ep]; exact h101, by rw [hK, pt_s], fun z => ?_⟩
      omega
  have lp : ∀ (m p : Nat) (s : ST), p + m = X.2 → Nx σ s → s 77 9 = nI p → tSk X p = tS X i → BB G RX12 cX12_next 2 none (d + 5) (QM G (PNx G μ σ X i)) 8 [some (.ref (G.b0 + 77)), none] [] (sh G s μ) := by
    have st : ∀ (p : Nat) (s : ST), p ≤ X.2 → Nx σ s → s 77 9 = nI p → tSk X p = tS X i → (p < X.2 → isBl (X.1 p) = true → BB G RX12 cX12_next 2 none (d + 5) (QM G (PNx G μ σ X i)) 34 [some (.ref (G.b0 + 77)), none] [] (sh G s μ)) → BB G RX12 cX12_next 2 none (d + 5) (QM G (PNx G μ σ X i)) 8 [some (.ref (G.b0 + 77)), none] [] (sh G s μ) := by
      intro p s hp n2 a9 hu hgo
      have e1 : p < X.2 → X.1 p < 256 := fun q => (hT.2.1 p (by omega)).1
      refine b_aload_n dX12_next_8 rfl ?_
      refine b_aload_n dX12_next_9 rfl ?_
      refine g_geti (x := nI p) dX12_next_10 fX12_101 a77 rfl a9 ?_
      refine g_callV [.int (nI p)] dX12_next_13 kX12_see lX12_107 a77 rfl rfl (m_see (TxM_nx hT n2) (by omega)) rfl rfl (Nat.le_of_ble_eq_true rfl) ?_
      refine b_bipush (v := nI 10) dX12_next_16 (by decide) ?_
      refine b_icmp_eq 34 dX12_next_18 (by decide) (fun c1 => ?_) (fun c1 => ?_)
      · skip
        obtain ⟨q1, q2⟩ := (see_e e1 (by omega)).mp c1
        exact hgo q1 (by rw [isBl, q2]; rfl)
      · skip
        refine b_aload_n dX12_next_21 rfl ?_
        refine b_aload_n dX12_next_22 rfl ?_
        refine g_geti (x := nI p) dX12_next_23 fX12_101 a77 rfl a9 ?_
        refine g_callV [.int (nI p)] dX12_next_26 kX12_see lX12_107 a77 rfl rfl (m_see (TxM_nx hT n2) (by omega)) rfl rfl (Nat.le_of_ble_eq_true rfl) ?_
        refine b_bipush (v := nI 32) dX12_next_29 (by decide) ?_
        refine b_icmp_ne 47 dX12_next_31 (by decide) (fun c2 => ?_) (fun c2 => ?_)
        · skip
          refine af p s hp n2 a9 ?_
          rw [← hu]
          refine upto_n (fun z => ?_)
          obtain ⟨z1, z2⟩ := z
          simp only [isBl, Bool.or_eq_true, decide_eq_true_eq] at z2
          rcases z2 with z2 | z2
          · exact c1 ((see_e e1 (by omega)).mpr ⟨z1, z2⟩)
          · exact c2 ((see_e e1 (by omega)).mpr ⟨z1, z2⟩)
        · skip
          obtain ⟨q1, q2⟩ := (see_e e1 (by omega)).mp c2
          exact hgo q1 (by rw [isBl, q2]; rfl)
    intro m
    induction m with
    | zero =>
      intro p s hm n2 a9 hu
      exact st p s (by omega) n2 a9 hu (fun z => absurd z (by omega))
    | succ m ih =>
      intro p s hm n2 a9 hu
      refine st p s (by omega) n2 a9 hu (fun hpX hbk => ?_)
      refine b_aload_n dX12_next_34 rfl ?_
      refine b_dup dX12_next_35 rfl ?_
      refine g_geti (x := nI p) dX12_next_36 fX12_101 a77 rfl a9 ?_
      refine b_iconst (v := nI 1) dX12_next_39 (by decide) ?_
      refine b_iaddN dX12_next_40 ?_
      refine g_put dX12_next_41 wX12_101 a77 tfX12_9 (Nat.le_of_ble_eq_true rfl) rfl ?_
      refine b_goto 8 dX12_next_44 (by decide) ?_
      exact ih (p + 1) _ (by omega) (Nx_p n2 (by omega)) (pt_s _ _ _ _) (by rw [← hu]; exact (upto_y (c := fun q => isBl (X.1 q)) (n := X.2) (p := p) hpX hbk).symm)
  exact lp (X.2 - bh X i) (bh X i) _ (by omega) (Nx_p (Nx_r σ) (by omega)) (pt_s _ _ _ _) rfl

