/-! ===== KnowsLeast: latest, inform, judge ===== -/
def mLate (x : Nat → Int32) (P : Nat) : Nat → Nat → Int32 → Int32 → Int32
  | 0, _, last, _ => last
  | n + 1, i, last, most => if x i = -1 then nI i else if x i ≤ most then mLate x P n (i + 1) last most else mLate x P n (i + 1) (nI i) (x i)
def oLatest (L : LD) (f : Int32) : Int32 := if inR f L.F then mLate (fun p => mTill L.road L.P p (ix f) 6 0 L.told) L.P L.P 0 (-1) (-1) else -2
theorem c_X_latest {G : GT} {d : Nat} {σ : ST} {μ : SL} {W F P t : Nat} {f : Int32} (hX : XV σ W F P t) : Fn G (d + 4) mX11_latest [.ref (G.b0 + 0), .int f] (sh G σ μ) (PK G μ σ kS (oLatest (vX σ W F P t) f)) := by
  obtain ⟨⟨hW, hF, hP, hW16, hF8, hP6⟩, -⟩ := id hX
  refine fn_of (ls := [some (.ref (G.b0 + 0)), some (.int f), none, none, none, none]) (by decide +kernel) (Nat.le_of_ble_eq_true rfl) 4 rfl ?_
  refine b_aload_n dX11_latest_0 rfl ?_
  refine b_iload_n dX11_latest_1 rfl ?_
  refine g_callV [.int f] dX11_latest_2 kX11_isFact lX11_130 a0 rfl rfl (c_isFact hF) rfl rfl (Nat.le_of_ble_eq_true rfl) ?_
  refine b_if_ne 11 dX11_latest_5 (by decide) (fun c1 => ?_) (fun c1 => ?_)
  · skip
    have c2 := (bI_1 _).mp c1
    obtain ⟨k, hk, rfl⟩ := inR_of (by omega) c2
    have hkx := ix_nI (show k < 2 ^ 31 by omega)
    have hE : oLatest (vX σ W F P t) (nI k) = mLate (fun p => mTill (σ 25) P p k 6 0 (σ 27)) P P 0 (-1) (-1) := by simp only [oLatest, c2, hkx, if_true]
    refine b_iconst (v := -1) dX11_latest_11 (by decide) ?_
    refine b_istore_n dX11_latest_12 (by decide) rfl ?_
    refine b_iconst (v := -1) dX11_latest_13 (by decide) ?_
    refine b_istore_n dX11_latest_14 (by decide) rfl ?_
    refine b_iconst (v := nI 0) dX11_latest_15 (by decide) ?_
    refine b_istore dX11_latest_16 (by decide) rfl ?_
    have lp : ∀ (n i : Nat) (x y : Int32) (z : Option Value) (s : ST), i + n = P → (∀ c, ¬ kS c → s c = σ c) → mLate (fun p => mTill (σ 25) P p k 6 0 (σ 27)) P n i x y = mLate (fun p => mTill (σ 25) P p k 6 0 (σ 27)) P P 0 (-1) (-1) → BB G RX11 cX11_latest 6 (some .int) (d + 4) (QM G (PK G μ σ kS (oLatest (vX σ W F P t) (nI k)))) 18 [some (.ref (G.b0 + 0)), some (.int (nI k)), some (.int x), some (.int y), some (.int (nI i)), z] [] (sh G s μ) := by
      intro n
      induction n with
      | zero =>
        intro i x y z s hi hs he
        refine b_iload dX11_latest_18 rfl ?_
        refine b_aload_n dX11_latest_20 rfl ?_
        refine g_get dX11_latest_21 fX11_23 a0 rfl ?_
        refine g_geti (x := nI P) dX11_latest_24 fX11_171 a20 rfl ((congrFun (hs 20 (by unfold kS; omega)) 8).trans hP) ?_
        refine b_icmp_ge_t 66 dX11_latest_27 (by decide) (nI_le (by omega) (by omega)) ?_
        refine b_iload_n dX11_latest_66 rfl ?_
        exact b_iret dX11_latest_67 ⟨by rw [hE, ← he]; rfl, s, rfl, hs⟩
      | succ n ih =>
        intro i x y z s hi hs he
        have hX2 : XV s W F P t := XV_of hX (fun q => congrFun (hs 20 (by unfold kS; omega)) q) (congrFun (hs 26 (by unfold kS; omega)) 2)
        refine b_iload dX11_latest_18 rfl ?_
        refine b_aload_n dX11_latest_20 rfl ?_
        refine g_get dX11_latest_21 fX11_23 a0 rfl ?_
        refine g_geti (x := nI P) dX11_latest_24 fX11_171 a20 rfl ((congrFun (hs 20 (by unfold kS; omega)) 8).trans hP) ?_
        refine b_icmp_ge_f 66 dX11_latest_27 (by decide) (nI_ge (by omega) (by omega)) ?_
        refine b_aload_n dX11_latest_30 rfl ?_
        refine b_iload dX11_latest_31 rfl ?_
        refine b_iload_n dX11_latest_33 rfl ?_
        refine g_callVp [.int (nI i), .int (nI k)] dX11_latest_34 kX11_daysTill lX11_295 a0 rfl rfl (c_daysTill hX2 (by omega) (by omega)) rfl rfl (Nat.le_of_ble_eq_true rfl) ?_
        rintro r h' ⟨rfl, s2, rfl, hs2⟩
        have hs3 : ∀ c, ¬ kS c → s2 c = σ c := fun c hc => (hs2 c hc).trans (hs c hc)
        rw [hs 25 (by unfold kS; omega), hs 27 (by unfold kS; omega)]
        refine b_istore dX11_latest_37 (by decide) rfl ?_
        refine b_iload dX11_latest_39 rfl ?_
        refine b_iconst (v := -1) dX11_latest_41 (by decide) ?_
        rw [mLate] at he
        refine b_icmp_ne 48 dX11_latest_42 (by decide) (fun c3 => ?_) (fun c3 => ?_)
        · skip
          rw [if_neg c3] at he
          refine b_iload dX11_latest_48 rfl ?_
          refine b_iload_n dX11_latest_50 rfl ?_
          refine b_icmp_le 60 dX11_latest_51 (by decide) (fun c4 => ?_) (fun c4 => ?_)
          · skip
            rw [if_pos c4] at he
            refine b_iinc dX11_latest_60 rfl (nI_1 _) (by decide) rfl ?_
            refine b_goto 18 dX11_latest_63 (by decide) ?_
            exact ih (i + 1) _ _ _ s2 (by omega) hs3 he
          · skip
            rw [if_neg c4] at he
            refine b_iload dX11_latest_54 rfl ?_
            refine b_istore_n dX11_latest_56 (by decide) rfl ?_
            refine b_iload dX11_latest_57 rfl ?_
            refine b_istore_n dX11_latest_59 (by decide) rfl ?_
            refine b_iinc dX11_latest_60 rfl (nI_1 _) (by decide) rfl ?_
            refine b_goto 18 dX11_latest_63 (by decide) ?_
            exact ih (i + 1) _ _ _ s2 (by omega) hs3 he
        · skip
          rw [if_pos c3] at he
          refine b_iload dX11_latest_45 rfl ?_
          exact b_iret dX11_latest_47 ⟨by rw [hE, ← he], s2, rfl, hs3⟩
    exact lp P 0 _ _ _ σ (by omega) (fun c _ => rfl) rfl
  · skip
    refine b_bipush (v := -2) dX11_latest_8 (by decide) ?_
    exact b_iret dX11_latest_10 ⟨by simp [oLatest, (bI_0 _).mp c1], σ, rfl, fun c _ => rfl⟩
/-- told, and one fact more to one person -/
def more (told : Nat → Int32) (p f : Nat) : Nat → Int32 := fun q => if q = p then told p ||| (nI 1 <<< (nI f &&& 31)) else told q
def mInf2 (L : LD) (m : Nat) (want : Int32) (p : Nat) : Nat → Nat → Option Nat
  | 0, _ => none
  | n + 1, f => if lst L m (more L.told p f) L.t = want then some (10 * p + f) else mInf2 L m want p n (f + 1)
def mInf (L : LD) (m : Nat) (want : Int32) : Nat → Nat → Int32
  | 0, _ => -1
  | n + 1, p => match mInf2 L m want p L.F 0 with
    | some k => nI k
    | none => mInf L m want n (p + 1)
def oInform (L : LD) (want m : Int32) : Int32 := if inR want L.P && inR m 4 then (if L.W = 0 then -5 else if lst L (ix m) L.told L.t = want then -100 else mInf L (ix m) want L.P 0) else -2
theorem c_X_inform {G : GT} {d : Nat} {σ : ST} {μ : SL} {W F P t : Nat} {want m : Int32} (hX : XV σ W F P t) : Fn G (d + 4) mX11_inform [.ref (G.b0 + 0), .int want, .int m] (sh G σ μ) (PK G μ σ kS (oInform (vX σ W F P t) want m)) := by
  have ht := hX.t32
  obtain ⟨⟨hW, hF, hP, hW16, hF8, hP6⟩, -⟩ := id hX
  refine fn_of (ls := [some (.ref (G.b0 + 0)), some (.int want), some (.int m), none, none]) (by decide +kernel) (Nat.le_of_ble_eq_true rfl) 2 rfl ?_
  refine b_aload_n dX11_inform_0 rfl ?_
  refine b_iload_n dX11_inform_1 rfl ?_
  refine g_callV [.int want] dX11_inform_2 kX11_isPerson lX11_136 a0 rfl rfl (c_isPerson hP) rfl rfl (Nat.le_of_ble_eq_true rfl) ?_
  refine b_if_eq 15 dX11_inform_5 (by decide) (fun c1 => ?_) (fun c1 => ?_)
  · skip
    refine b_bipush (v := -2) dX11_inform_15 (by decide) ?_
    exact b_iret dX11_inform_17 ⟨by simp [oInform, (bI_0 _).mp c1], σ, rfl, fun c _ => rfl⟩
  · skip
    have c2 := (bI_1 _).mp c1
    refine b_iload_n dX11_inform_8 rfl ?_
    refine b_callSr [.int m] dX11_inform_9 kX11_isMeasure lX11_239 c_isMeasure rfl rfl (Nat.le_of_ble_eq_true rfl) ?_
    refine b_if_ne 18 dX11_inform_12 (by decide) (fun c3 => ?_) (fun c3 => ?_)
    · skip
      have c4 := (bI_1 _).mp c3
      obtain ⟨k, hk, rfl⟩ := inR_of (by omega) c4
      have hkx := ix_nI (show k < 2 ^ 31 by omega)
      refine b_aload_n dX11_inform_18 rfl ?_
      refine g_get dX11_inform_19 fX11_23 a0 rfl ?_
      refine g_geti (x := nI W) dX11_inform_22 fX11_165 a20 rfl hW ?_
      refine b_if_ne 31 dX11_inform_25 (by decide) (fun c5 => ?_) (fun c5 => ?_)
      · skip
        have h0 : ¬ W = 0 := fun z => c5 (by rw [z]; rfl)
        refine b_aload_n dX11_inform_31 rfl ?_
        refine g_get dX11_inform_32 fX11_23 a0 rfl ?_
        refine b_iload_n dX11_inform_35 rfl ?_
        refine b_aload_n dX11_inform_36 rfl ?_
        refine g_get dX11_inform_37 fX11_30 a0 rfl ?_
        refine g_get dX11_inform_40 fX11_142 a26 rfl ?_
        refine b_aload_n dX11_inform_43 rfl ?_
        refine g_get dX11_inform_44 fX11_30 a0 rfl ?_
        refine g_geti (x := nI t) dX11_inform_47 fX11_174 a26 rfl hX.2.1 ?_
        refine g_callV [.int (nI k), .ref (G.b0 + 27), .int (nI t)] dX11_inform_50 kX2_leastBy lX11_218 a20 rfl rfl (c_leastBy ln20 a27 hX.1 hk (by omega)) rfl rfl (Nat.le_of_ble_eq_true rfl) ?_
        refine b_iload_n dX11_inform_53 rfl ?_
        refine b_icmp_ne 60 dX11_inform_54 (by decide) (fun c6 => ?_) (fun c6 => ?_)
        · skip
          have c6' : ¬ lst (vX σ W F P t) k (σ 27) t = want := c6
          have hE : oInform (vX σ W F P t) want (nI k) = mInf (vX σ W F P t) k want P 0 := by simp only [oInform, c2, c4, hkx, Bool.and_self, if_true, h0, if_false, c6']
          refine b_aload_n dX11_inform_60 rfl ?_
          refine g_get dX11_inform_61 fX11_34 a0 rfl ?_
          refine b_aload_n dX11_inform_64 rfl ?_
          refine g_get dX11_inform_65 fX11_30 a0 rfl ?_
          refine g_callV [.ref (G.b0 + 26)] dX11_inform_68 kX8_become lX11_100 a29 rfl rfl (c_Sbecome sa29 sa26 (by omega)) rfl rfl (Nat.le_of_ble_eq_true rfl) ?_
          refine b_iconst (v := nI 0) dX11_inform_71 (by decide) ?_
          refine b_istore_n dX11_inform_72 (by decide) rfl ?_
          have hfr : ∀ s : ST, (∀ c, ¬ kS c → s c = σ c) → LV s 20 W F P := fun s hs => LV_of hX.1 (fun q => congrFun (hs 20 (by unfold kS; omega)) q)
          have lp : ∀ (n p : Nat) (z : Option Value) (s : ST), p + n = P → (∀ c, ¬ kS c → s c = σ c) → (∀ q, q < 6 → s 30 q = σ 27 q) → s 29 2 = nI t → mInf (vX σ W F P t) k want n p = mInf (vX σ W F P t) k want P 0 → BB G RX11 cX11_inform 5 (some .int) (d + 4) (QM G (PK G μ σ kS (oInform (vX σ W F P t) want (nI k)))) 73 [some (.ref (G.b0 + 0)), some (.int want), some (.int (nI k)), some (.int (nI p)), z] [] (sh G s μ) := by
            intro n
            induction n with
            | zero =>
              intro p z s hp hs hq ht2 he
              refine b_iload_n dX11_inform_73 rfl ?_
              refine b_aload_n dX11_inform_74 rfl ?_
              refine g_get dX11_inform_75 fX11_23 a0 rfl ?_
              refine g_geti (x := nI P) dX11_inform_78 fX11_171 a20 rfl ((congrFun (hs 20 (by unfold kS; omega)) 8).trans hP) ?_
              refine b_icmp_ge_t 179 dX11_inform_81 (by decide) (nI_le (by omega) (by omega)) ?_
              refine b_iconst (v := -1) dX11_inform_179 (by decide) ?_
              exact b_iret dX11_inform_180 ⟨by rw [hE, ← he]; rfl, s, rfl, hs⟩
            | succ n ih =>
              intro p z s hp hs hq ht2 he
              refine b_iload_n dX11_inform_73 rfl ?_
              refine b_aload_n dX11_inform_74 rfl ?_
              refine g_get dX11_inform_75 fX11_23 a0 rfl ?_
              refine g_geti (x := nI P) dX11_inform_78 fX11_171 a20 rfl ((congrFun (hs 20 (by unfold kS; omega)) 8).trans hP) ?_
              refine b_icmp_ge_f 179 dX11_inform_81 (by decide) (nI_ge (by omega) (by omega)) ?_
              refine b_iconst (v := nI 0) dX11_inform_84 (by decide) ?_
              refine b_istore dX11_inform_85 (by decide) rfl ?_
              have lq : ∀ (u f : Nat) (s : ST), f + u = F → (∀ c, ¬ kS c → s c = σ c) → (∀ q, q < 6 → s 30 q = σ 27 q) → s 29 2 = nI t → mInf2 (vX σ W F P t) k want p u f = mInf2 (vX σ W F P t) k want p F 0 → BB G RX11 cX11_inform 5 (some .int) (d + 4) (QM G (PK G μ σ kS (oInform (vX σ W F P t) want (nI k)))) 87 [some (.ref (G.b0 + 0)), some (.int want), some (.int (nI k)), some (.int (nI p)), some (.int (nI f))] [] (sh G s μ) := by
                intro u
                induction u with
                | zero =>
                  intro f s hf hs hq ht2 he2
                  refine b_iload dX11_inform_87 rfl ?_
                  refine b_aload_n dX11_inform_89 rfl ?_
                  refine g_get dX11_inform_90 fX11_23 a0 rfl ?_
                  refine g_geti (x := nI F) dX11_inform_93 fX11_168 a20 rfl ((congrFun (hs 20 (by unfold kS; omega)) 7).trans hF) ?_
                  refine b_icmp_ge_t 173 dX11_inform_96 (by decide) (nI_le (by omega) (by omega)) ?_
                  refine b_iinc dX11_inform_173 rfl (nI_1 _) (by decide) rfl ?_
                  refine b_goto 73 dX11_inform_176 (by decide) ?_
                  refine ih (p + 1) _ s (by omega) hs hq ht2 ?_
                  rw [mInf] at he
                  rw [← he]
                  show _ = (match mInf2 (vX σ W F P t) k want p F 0 with | some k => nI k | none => mInf (vX σ W F P t) k want n (p + 1))
                  rw [← he2]
                  rfl
                | succ u ihu =>
                  intro f s hf hs hq ht2 he2
                  refine b_iload dX11_inform_87 rfl ?_
                  refine b_aload_n dX11_inform_89 rfl ?_
                  refine g_get dX11_inform_90 fX11_23 a0 rfl ?_
                  refine g_geti (x := nI F) dX11_inform_93 fX11_168 a20 rfl ((congrFun (hs 20 (by unfold kS; omega)) 7).trans hF) ?_
                  refine b_icmp_ge_f 173 dX11_inform_96 (by decide) (nI_ge (by omega) (by omega)) ?_
                  refine b_aload_n dX11_inform_99 rfl ?_
                  refine g_get dX11_inform_100 fX11_34 a0 rfl ?_
                  refine g_get dX11_inform_103 fX11_142 a29 rfl ?_
                  refine b_iload_n dX11_inform_106 rfl ?_
                  refine b_dup2 dX11_inform_107 rfl rfl ?_
                  refine g_iald dX11_inform_108 a30 rfl (by omega) ?_
                  refine b_iconst (v := nI 1) dX11_inform_109 (by decide) ?_
                  refine b_iload dX11_inform_110 rfl ?_
                  refine b_ishl dX11_inform_112 ?_
                  refine b_ior dX11_inform_113 ?_
                  refine g_iast dX11_inform_114 a30 rfl (by omega) ?_
                  have hs2 : ∀ c, ¬ kS c → pt s 30 p (s 30 p ||| (nI 1 <<< (nI f &&& 31))) c = σ c := fun c hc => by
                    rw [pt_r (fun z => hc (by unfold kS; omega))]
                    exact hs c hc
                  have htl : ∀ q, q < P → pt s 30 p (s 30 p ||| (nI 1 <<< (nI f &&& 31))) 30 q = more (σ 27) p f q := fun q hq2 => by
                    unfold more
                    split
                    · rename_i e; rw [e, pt_s, hq p (by omega)]
                    · rename_i e; rw [pt_j e, hq q (by omega)]
                  refine b_aload_n dX11_inform_115 rfl ?_
                  refine g_get dX11_inform_116 fX11_23 a0 rfl ?_
                  refine b_iload_n dX11_inform_119 rfl ?_
                  refine b_aload_n dX11_inform_120 rfl ?_
                  refine g_get dX11_inform_121 fX11_34 a0 rfl ?_
                  refine g_get dX11_inform_124 fX11_142 a29 rfl ?_
                  refine b_aload_n dX11_inform_127 rfl ?_
                  refine g_get dX11_inform_128 fX11_34 a0 rfl ?_
                  refine g_geti (x := nI t) dX11_inform_131 fX11_174 a29 rfl ((pt_a (by omega)).trans ht2) ?_
                  refine g_callV [.int (nI k), .ref (G.b0 + 30), .int (nI t)] dX11_inform_134 kX2_leastBy lX11_218 a20 rfl rfl (c_leastBy ln20 a30 (hfr _ hs2) hk (by omega)) rfl rfl (Nat.le_of_ble_eq_true rfl) ?_
                  have eL : mLeast (pt s 30 p (s 30 p ||| (nI 1 <<< (nI f &&& 31))) 23) (pt s 30 p (s 30 p ||| (nI 1 <<< (nI f &&& 31))) 22) (pt s 30 p (s 30 p ||| (nI 1 <<< (nI f &&& 31))) 20 5) W F P k (pt s 30 p (s 30 p ||| (nI 1 <<< (nI f &&& 31))) 30) t = lst (vX σ W F P t) k (more (σ 27) p f) t := by
                    rw [hs2 23 (by unfold kS; omega), hs2 22 (by unfold kS; omega), hs2 20 (by unfold kS; omega), mLeast_cg htl]
                    rfl
                  refine b_top eL ?_
                  refine b_iload_n dX11_inform_137 rfl ?_
                  rw [mInf2] at he2
                  refine b_icmp_ne 149 dX11_inform_138 (by decide) (fun c7 => ?_) (fun c7 => ?_)
                  · skip
                    rw [if_neg c7] at he2
                    refine b_aload_n dX11_inform_149 rfl ?_
                    refine g_get dX11_inform_150 fX11_34 a0 rfl ?_
                    refine g_get dX11_inform_153 fX11_142 a29 rfl ?_
                    refine b_iload_n dX11_inform_156 rfl ?_
                    refine b_aload_n dX11_inform_157 rfl ?_
                    refine g_get dX11_inform_158 fX11_30 a0 rfl ?_
                    refine g_get dX11_inform_161 fX11_142 a26 rfl ?_
                    refine b_iload_n dX11_inform_164 rfl ?_
                    refine g_iald dX11_inform_165 a27 rfl (by omega) ?_
                    refine g_iast dX11_inform_166 a30 rfl (by omega) ?_
                    refine b_iinc dX11_inform_167 rfl (nI_1 _) (by decide) rfl ?_
                    refine b_goto 87 dX11_inform_170 (by decide) ?_
                    refine ihu (f + 1) _ (by omega) (fun c hc => ?_) (fun q hq2 => ?_) ?_ he2
                    · rw [pt_r (fun z => hc (by unfold kS; omega))]
                      exact hs2 c hc
                    · rw [pt_pt]
                      by_cases e : q = p
                      · rw [e, pt_s]
                        exact congrFun (hs2 27 (by unfold kS; omega)) p
                      · rw [pt_j e, hq q hq2]
                    · rw [pt_a (by omega), pt_a (by omega)]; exact ht2
                  · skip
                    rw [if_pos c7] at he2
                    refine b_bipush (v := nI 10) dX11_inform_141 (by decide) ?_
                    refine b_iload_n dX11_inform_143 rfl ?_
                    refine b_imulN dX11_inform_144 ?_
                    refine b_iload dX11_inform_145 rfl ?_
                    refine b_iaddN dX11_inform_147 ?_
                    refine b_iret dX11_inform_148 ⟨?_, _, rfl, hs2⟩
                    rw [hE, ← he, mInf]
                    show _ = some (Value.int (match mInf2 (vX σ W F P t) k want p F 0 with | some k => nI k | none => mInf (vX σ W F P t) k want n (p + 1)))
                    rw [← he2]
              exact lq F 0 s (by omega) hs hq ht2 rfl
          exact lp P 0 _ _ (by omega) (fun c hc => bcm_fr hc) (fun q hq => bcm_told σ hq) (by simp [bcmS, hX.2.1]) rfl
        · skip
          have c6' : lst (vX σ W F P t) k (σ 27) t = want := c6
          refine b_bipush (v := -100) dX11_inform_57 (by decide) ?_
          exact b_iret dX11_inform_59 ⟨by simp only [oInform, c2, c4, hkx, Bool.and_self, if_true, h0, if_false, c6'], σ, rfl, fun c _ => rfl⟩
      · skip
        have h0 : W = 0 := by rw [← nI_0, nI_eq (by omega) (by omega)] at c5; exact c5
        refine b_bipush (v := -5) dX11_inform_28 (by decide) ?_
        exact b_iret dX11_inform_30 ⟨by simp [oInform, c2, c4, h0], σ, rfl, fun c _ => rfl⟩
    · skip
      refine b_bipush (v := -2) dX11_inform_15 (by decide) ?_
      exact b_iret dX11_inform_17 ⟨by simp [oInform, (bI_0 _).mp c3], σ, rfl, fun c _ => rfl⟩

