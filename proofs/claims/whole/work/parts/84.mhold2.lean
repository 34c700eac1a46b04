/-! ===== the reference: whether a fact holds in a world ===== -/
def TyV : List Bool → List Int32 → Prop
  | [], [] => True
  | b :: t, v :: st => (b = true → b01 v) ∧ TyV t st
  | _, _ => False
theorem TyV_len : ∀ (t : List Bool) (st : List Int32), TyV t st → t.length = st.length
  | [], [], _ => rfl
  | b :: t, v :: st, h => by
    have := TyV_len t st h.2
    simp [this]
  | [], _ :: _, h => h.elim
  | _ :: _, [], h => h.elim
theorem b01_not {x : Int32} (h : b01 x) : b01 (nI 1 - x) := by
  rcases h with rfl | rfl
  · exact Or.inr (by decide)
  · exact Or.inl (by decide)
theorem b01_and {x y : Int32} (h : b01 x) (h' : b01 y) : b01 (x &&& y) ∧ b01 (x ||| y) := by
  rcases h with rfl | rfl <;> rcases h' with rfl | rfl
  · exact ⟨Or.inl (by decide), Or.inl (by decide)⟩
  · exact ⟨Or.inl (by decide), Or.inr (by decide)⟩
  · exact ⟨Or.inl (by decide), Or.inr (by decide)⟩
  · exact ⟨Or.inr (by decide), Or.inr (by decide)⟩
theorem evS_w {L : LD} {w c : Nat} {st : List Int32} (h : c < 3000) : evS L w c st = wdC L w c :: st := by
  unfold evS wdC
  by_cases h1 : c < 1000
  · rw [if_pos h1, if_pos h1]
  · rw [if_neg h1, if_neg h1, if_pos h]
theorem evS_n {L : LD} {w : Nat} {x : Int32} {st : List Int32} : evS L w 3008 (x :: st) = (nI 1 - x) :: st := by simp [evS]
theorem evS_b {L : LD} {w c : Nat} {x y : Int32} {st : List Int32} (h : 3000 ≤ c) (h8 : c < 3008) : evS L w c (y :: x :: st) = bnF c x y :: st := by
  unfold evS
  rw [if_neg (by omega), if_neg (by omega), if_neg (by omega)]
/-- what stands below two that are joined -/
theorem TyV_b {c : Nat} {t u : List Bool} {st : List Int32} (h : TyV t st) (hu : tyS c t = some u) (h1 : 3000 ≤ c) (h2 : c < 3008) : ∃ x y r, st = y :: x :: r ∧ (3006 ≤ c → b01 x ∧ b01 y) ∧ TyV u (bnF c x y :: r) := by
  obtain ⟨l2, l3⟩ := tyS_bin h1 h2 hu
  unfold tyS at hu
  rw [if_neg (by omega), if_neg (by omega)] at hu
  match t, st, h, l2 with
  | b :: a :: t, y :: x :: r, h, _ =>
    refine ⟨x, y, r, rfl, fun h6 => ?_, ?_⟩
    · rw [if_neg (by omega), if_neg (by omega)] at hu
      cases b <;> cases a
      · cases hu
      · cases hu
      · cases hu
      · exact ⟨h.2.1 rfl, h.1 rfl⟩
    · by_cases h3 : c < 3003
      · rw [if_pos h3] at hu
        cases b <;> cases a
        · cases hu; exact ⟨fun z => (by cases z), h.2.2⟩
        · cases hu
        · cases hu
        · cases hu
      · rw [if_neg h3] at hu
        by_cases h6 : c < 3006
        · rw [if_pos h6] at hu
          cases b <;> cases a
          · cases hu
            refine ⟨fun _ => ?_, h.2.2⟩
            rcases (show c = 3003 ∨ c = 3004 ∨ c = 3005 by omega) with rfl | rfl | rfl
            · rw [bn3]; exact b01_I _
            · rw [bn4]; exact b01_I _
            · rw [bn5]; exact b01_I _
          · cases hu
          · cases hu
          · cases hu
        · rw [if_neg h6] at hu
          cases b <;> cases a
          · cases hu
          · cases hu
          · cases hu
          · cases hu
            refine ⟨fun _ => ?_, h.2.2⟩
            have q := b01_and (h.2.1 rfl) (h.1 rfl)
            rcases (show c = 3006 ∨ c = 3007 by omega) with rfl | rfl
            · rw [bn6]; exact q.1
            · rw [bn7]; exact q.2
  | [], _, _, l => simp at l
  | [_], _, _, l => simp at l
  | _ :: _ :: _, [], h, _ => exact h.elim
  | _ :: _ :: _, [_], h, _ => exact h.2.elim
theorem TyV_n {t u : List Bool} {st : List Int32} (h : TyV t st) (hu : tyS 3008 t = some u) : ∃ x r, st = x :: r ∧ TyV u ((nI 1 - x) :: r) := by
  match t, st, h, hu with
  | true :: t, x :: r, h, hu =>
    cases hu
    exact ⟨x, r, rfl, fun _ => b01_not (h.1 rfl), h.2⟩
  | false :: t, _, _, hu => cases hu
  | [], _, _, hu => cases hu
  | _ :: _, [], h, _ => exact h.elim
theorem TyV_w {L : LD} {w c : Nat} {t u : List Bool} {st : List Int32} (h : TyV t st) (hu : tyS c t = some u) (hc : c < 3000) : TyV u (wdC L w c :: st) := by
  unfold tyS at hu
  rw [if_pos hc] at hu
  split at hu
  · cases hu; exact ⟨fun z => (by cases z), h⟩
  · cases hu
set_option maxHeartbeats 1000000 in
theorem m_holdsIn {G : GT} {d : Nat} {σ : ST} {μ : SL} {B : LB} {f w a : Nat} {cs : List Nat} (hB : LW σ B) (hf : f < 8) (hw : w < B.1.W) (ha : σ 83 f = nI a) (hm : σ 84 f = nI cs.length) (hle : a + cs.length ≤ 900) (hcs : ∀ j c, cs[j]? = some c → σ 82 (a + j) = nI c) (hok : ∀ c ∈ cs, cOk c = true) (hty : tyL cs [] = some [true]) : Fn G (d + 1) mX12_holdsIn [.ref (G.b0 + 77), .int (nI f), .int (nI w)] (sh G σ μ) (fun r h' => r = some (.int (bI (decide ((evL B.1 w cs []).headD 0 = nI 1)))) ∧ ∃ s : ST, h' = sh G s μ ∧ ∀ c, c ≠ 85 → s c = σ c) := by
  have hW16 := hB.1
  refine fn_of (ls := [some (.ref (G.b0 + 77)), some (.int (nI f)), some (.int (nI w)), none, none, none]) (by decide +kernel) (Nat.le_of_ble_eq_true rfl) 3 rfl ?_
  refine b_iconst (v := nI 0) dX12_holdsIn_0 (by decide) ?_
  refine b_istore_n dX12_holdsIn_1 (by decide) rfl ?_
  refine b_iconst (v := nI 0) dX12_holdsIn_2 (by decide) ?_
  refine b_istore dX12_holdsIn_3 (by decide) rfl ?_
  have lp : ∀ (cs' : List Nat) (k : Nat) (st : List Int32) (t : List Bool) (s : ST) (z5 : Option Value), k + cs'.length = cs.length → (∀ j c, cs'[j]? = some c → σ 82 (a + (k + j)) = nI c) → (∀ c ∈ cs', cOk c = true) → tyL cs' t = some [true] → TyV t st → t.length ≤ 64 → stM (s 85) st → (∀ c, c ≠ 85 → s c = σ c) → evL B.1 w cs' st = evL B.1 w cs [] → BB G RX12 cX12_holdsIn 6 (some .boolean) (d + 1) (QM G (fun r h' => r = some (.int (bI (decide ((evL B.1 w cs []).headD 0 = nI 1)))) ∧ ∃ s : ST, h' = sh G s μ ∧ ∀ c, c ≠ 85 → s c = σ c)) 5 [some (.ref (G.b0 + 77)), some (.int (nI f)), some (.int (nI w)), some (.int (nI st.length)), some (.int (nI k)), z5] [] (sh G s μ) := by
    intro cs'
    induction cs' with
    | nil =>
      intro k st t s z5 hk hc hok hty hT h64 hM hs hE
      have m84 : s 84 f = nI cs.length := by rw [hs 84 (by omega)]; exact hm
      refine b_iload dX12_holdsIn_5 rfl ?_
      refine b_aload_n dX12_holdsIn_7 rfl ?_
      refine g_get dX12_holdsIn_8 fX12_33 a77 rfl ?_
      refine b_iload_n dX12_holdsIn_11 rfl ?_
      refine g_iald dX12_holdsIn_12 a84 rfl (by omega) ?_
      refine b_top m84 ?_
      refine b_icmp_ge_t 124 dX12_holdsIn_13 (by decide) (nI_le (by simp at hk; omega) (by omega)) ?_
      refine b_aload_n dX12_holdsIn_124 rfl ?_
      refine g_get dX12_holdsIn_125 fX12_39 a77 rfl ?_
      refine b_iconst (v := nI 0) dX12_holdsIn_128 (by decide) ?_
      refine g_iald dX12_holdsIn_129 a85 rfl (by omega) ?_
      refine b_iconst (v := nI 1) dX12_holdsIn_130 (by decide) ?_
      have ht1 : t = [true] := by simpa [tyL] using hty
      subst ht1
      match st, hT, hM, hE with
      | [v], _, hM, hE =>
        have hv : s 85 0 = v := hM.1
        have he : (evL B.1 w cs []).headD 0 = v := by rw [← hE]; rfl
        rw [he]
        rw [hv]
        refine b_icmp_ne 138 dX12_holdsIn_131 (by decide) (fun c1 => ?_) (fun c1 => ?_)
        · skip
          refine b_iconst (v := nI 0) dX12_holdsIn_138 (by decide) ?_
          exact b_zret dX12_holdsIn_139 rfl ⟨by rw [decide_eq_false c1]; rfl, s, rfl, hs⟩
        · skip
          refine b_iconst (v := nI 1) dX12_holdsIn_134 (by decide) ?_
          refine b_goto 139 dX12_holdsIn_135 (by decide) ?_
          exact b_zret dX12_holdsIn_139 rfl ⟨by rw [decide_eq_true c1]; rfl, s, rfl, hs⟩
      | [], hT, _, _ => exact hT.elim
      | _ :: _ :: _, hT, _, _ => exact hT.2.elim
    | cons c cs' ih =>
      intro k st t s z5 hk hc hok hty hT h64 hM hs hE
      have hk' : k + 1 + cs'.length = cs.length := by simp at hk; omega
      have hc0 : s 82 (a + k) = nI c := by rw [hs 82 (by omega)]; simpa using hc 0 c rfl
      have hcn : ∀ j x, cs'[j]? = some x → σ 82 (a + (k + 1 + j)) = nI x := fun j x hj => by
        have := hc (j + 1) x (by simpa using hj)
        rw [show k + 1 + j = k + (j + 1) by omega]; exact this
      have hokn : ∀ x ∈ cs', cOk x = true := fun x hx => hok x (List.mem_cons_of_mem _ hx)
      have hokc := hok c List.mem_cons_self
      obtain ⟨u, hu, htn⟩ : ∃ u, tyS c t = some u ∧ tyL cs' u = some [true] := by
        rw [tyL] at hty
        cases hq : tyS c t with
        | none => rw [hq] at hty; cases hty
        | some u => rw [hq] at hty; exact ⟨u, rfl, hty⟩
      have hEn : evL B.1 w cs' (evS B.1 w c st) = evL B.1 w cs [] := hE
      have m84 : s 84 f = nI cs.length := by rw [hs 84 (by omega)]; exact hm
      have m83 : s 83 f = nI a := by rw [hs 83 (by omega)]; exact ha
      have hBs : LW s B := LW_of hB (fun q _ => by rw [hs 81 (by omega)])
      have htl := TyV_len _ _ hT
      simp only [cOk, Bool.or_eq_true, Bool.and_eq_true, decide_eq_true_eq] at hokc
      have c9 : c < 4000 := by
        rcases hokc with (h1 | ⟨h1, h2⟩) | ⟨h1, h2⟩
        · omega
        · have := isAt_lt h2; omega
        · omega
      refine b_iload dX12_holdsIn_5 rfl ?_
      refine b_aload_n dX12_holdsIn_7 rfl ?_
      refine g_get dX12_holdsIn_8 fX12_33 a77 rfl ?_
      refine b_iload_n dX12_holdsIn_11 rfl ?_
      refine g_iald dX12_holdsIn_12 a84 rfl (by omega) ?_
      refine b_top m84 ?_
      refine b_icmp_ge_f 124 dX12_holdsIn_13 (by decide) (nI_ge (by omega) (by omega)) ?_
      refine b_aload_n dX12_holdsIn_16 rfl ?_
      refine g_get dX12_holdsIn_17 fX12_27 a77 rfl ?_
      refine b_aload_n dX12_holdsIn_20 rfl ?_
      refine g_get dX12_holdsIn_21 fX12_30 a77 rfl ?_
      refine b_iload_n dX12_holdsIn_24 rfl ?_
      refine g_iald dX12_holdsIn_25 a83 rfl (by omega) ?_
      refine b_top m83 ?_
      refine b_iload dX12_holdsIn_26 rfl ?_
      refine b_iaddN dX12_holdsIn_28 ?_
      refine g_iald dX12_holdsIn_29 a82 rfl (by omega) ?_
      refine b_top hc0 ?_
      refine b_istore dX12_holdsIn_30 (by decide) rfl ?_
      refine b_iload dX12_holdsIn_32 rfl ?_
      refine b_sipush (v := nI 3000) dX12_holdsIn_34 (by decide) ?_
      refine b_icmp_ge 59 dX12_holdsIn_37 (by decide) (fun c1 => ?_) (fun c1 => ?_)
      · skip
        rw [nI_leI (by omega) (by omega)] at c1
        refine b_iload dX12_holdsIn_59 rfl ?_
        refine b_sipush (v := nI 3008) dX12_holdsIn_61 (by decide) ?_
        refine b_icmp_ne 88 dX12_holdsIn_64 (by decide) (fun c2 => ?_) (fun c2 => ?_)
        · skip
          have c3 : ¬ c = 3008 := fun z => c2 (by rw [z])
          have c8 : c < 3008 := by
            rcases hokc with (h1 | ⟨h1, h2⟩) | ⟨h1, h2⟩
            · omega
            · have := isAt_lt h2; omega
            · omega
          obtain ⟨x, y, r, rfl, h01, hT'⟩ := TyV_b hT hu c1 c8
          obtain ⟨l2, l3⟩ := tyS_bin c1 c8 hu
          have hr : s 85 r.length = x := hM.2.1
          have hy : s 85 (r.length + 1) = y := hM.1
          have htl' : t.length = r.length + 2 := by rw [htl]; rfl
          have hlen : (y :: x :: r).length = r.length + 1 + 1 := rfl
          rw [hlen]
          refine b_iinc (v := nI (r.length + 1)) dX12_holdsIn_88 rfl (nI_m _) (by decide) rfl ?_
          refine b_aload_n dX12_holdsIn_91 rfl ?_
          refine g_get dX12_holdsIn_92 fX12_39 a77 rfl ?_
          refine b_iload_n dX12_holdsIn_95 rfl ?_
          refine b_iconst (v := nI 1) dX12_holdsIn_96 (by decide) ?_
          refine b_isub dX12_holdsIn_97 ?_
          refine b_top (y := nI ((r.length + 1) - 1)) (nI_sub (by omega)) ?_
          refine b_iload dX12_holdsIn_98 rfl ?_
          refine b_aload_n dX12_holdsIn_100 rfl ?_
          refine g_get dX12_holdsIn_101 fX12_39 a77 rfl ?_
          refine b_iload_n dX12_holdsIn_104 rfl ?_
          refine b_iconst (v := nI 1) dX12_holdsIn_105 (by decide) ?_
          refine b_isub dX12_holdsIn_106 ?_
          refine b_top (y := nI ((r.length + 1) - 1)) (nI_sub (by omega)) ?_
          refine g_iald dX12_holdsIn_107 a85 rfl (by omega) ?_
          refine b_top (show s 85 (r.length + 1 - 1) = x from hr) ?_
          refine b_aload_n dX12_holdsIn_108 rfl ?_
          refine g_get dX12_holdsIn_109 fX12_39 a77 rfl ?_
          refine b_iload_n dX12_holdsIn_112 rfl ?_
          refine g_iald dX12_holdsIn_113 a85 rfl (by omega) ?_
          refine b_top hy ?_
          refine b_callSr [.int (nI c), .int x, .int y] dX12_holdsIn_114 kX12_between lX12_196 (m_between (d := d) c1 c8 h01) rfl rfl (Nat.le_of_ble_eq_true rfl) ?_
          refine g_iast dX12_holdsIn_117 a85 rfl (by omega) ?_
          refine b_iinc dX12_holdsIn_118 rfl (nI_1 _) (by decide) rfl ?_
          refine b_goto 5 dX12_holdsIn_121 (by decide) ?_
          refine ih (k + 1) (bnF c x y :: r) u _ _ hk' hcn hokn htn hT' (by omega) ⟨pt_s _ _ _ _, stM_pt r (Nat.le_refl _) hM.2.2⟩ (fun z hz => by rw [pt_r hz]; exact hs z hz) ?_
          rw [← hEn, evS_b c1 c8]
        · skip
          have c3 : c = 3008 := by rw [nI_eq (by omega) (by omega)] at c2; exact c2
          subst c3
          obtain ⟨x, r, rfl, hT'⟩ := TyV_n hT hu
          obtain ⟨l2, l3⟩ := tyS_not hu
          have hr : s 85 r.length = x := hM.1
          have htl' : t.length = r.length + 1 := by rw [htl]; rfl
          have hlen : (x :: r).length = r.length + 1 := rfl
          rw [hlen]
          refine b_aload_n dX12_holdsIn_67 rfl ?_
          refine g_get dX12_holdsIn_68 fX12_39 a77 rfl ?_
          refine b_iload_n dX12_holdsIn_71 rfl ?_
          refine b_iconst (v := nI 1) dX12_holdsIn_72 (by decide) ?_
          refine b_isub dX12_holdsIn_73 ?_
          refine b_top (y := nI ((r.length + 1) - 1)) (nI_sub (by omega)) ?_
          refine b_iconst (v := nI 1) dX12_holdsIn_74 (by decide) ?_
          refine b_aload_n dX12_holdsIn_75 rfl ?_
          refine g_get dX12_holdsIn_76 fX12_39 a77 rfl ?_
          refine b_iload_n dX12_holdsIn_79 rfl ?_
          refine b_iconst (v := nI 1) dX12_holdsIn_80 (by decide) ?_
          refine b_isub dX12_holdsIn_81 ?_
          refine b_top (y := nI ((r.length + 1) - 1)) (nI_sub (by omega)) ?_
          refine g_iald dX12_holdsIn_82 a85 rfl (by omega) ?_
          refine b_top (show s 85 (r.length + 1 - 1) = x from hr) ?_
          refine b_isub dX12_holdsIn_83 ?_
          refine g_iast dX12_holdsIn_84 a85 rfl (by omega) ?_
          refine b_goto 118 dX12_holdsIn_85 (by decide) ?_
          refine b_iinc dX12_holdsIn_118 rfl (nI_1 _) (by decide) rfl ?_
          refine b_goto 5 dX12_holdsIn_121 (by decide) ?_
          refine ih (k + 1) ((nI 1 - x) :: r) u _ _ hk' hcn hokn htn hT' (by omega) ⟨pt_s _ _ _ _, stM_pt r (Nat.le_refl _) hM.2⟩ (fun z hz => by rw [pt_r hz]; exact hs z hz) ?_
          rw [← hEn, evS_n]
      · skip
        rw [nI_leI (by omega) (by omega)] at c1
        have c3 : c < 3000 := by omega
        obtain ⟨l2, l3⟩ := tyS_push c3 hu
        have hcc : c < 1000 ∨ (1000 ≤ c ∧ isAt (c - 1000) = true) := by
          rcases hokc with (h1 | h1) | ⟨h1, h2⟩
          · exact Or.inl h1
          · exact Or.inr h1
          · omega
        refine b_aload_n dX12_holdsIn_40 rfl ?_
        refine g_get dX12_holdsIn_41 fX12_39 a77 rfl ?_
        refine b_iload_n dX12_holdsIn_44 rfl ?_
        refine b_aload_n dX12_holdsIn_45 rfl ?_
        refine b_iload dX12_holdsIn_46 rfl ?_
        refine b_iload_n dX12_holdsIn_48 rfl ?_
        refine g_callV [.int (nI c), .int (nI w)] dX12_holdsIn_49 kX12_wordOf lX12_193 a77 rfl rfl (m_wordOf (d := d) hBs hw hcc) rfl rfl (Nat.le_of_ble_eq_true rfl) ?_
        refine g_iast dX12_holdsIn_52 a85 rfl (by omega) ?_
        refine b_iinc dX12_holdsIn_53 rfl (nI_1 _) (by decide) rfl ?_
        refine b_goto 118 dX12_holdsIn_56 (by decide) ?_
        refine b_iinc dX12_holdsIn_118 rfl (nI_1 _) (by decide) rfl ?_
        refine b_goto 5 dX12_holdsIn_121 (by decide) ?_
        refine ih (k + 1) (wdC B.1 w c :: st) u _ _ hk' hcn hokn htn (TyV_w hT hu c3) (by omega) ⟨pt_s _ _ _ _, stM_pt st (Nat.le_refl _) hM⟩ (fun z hz => by rw [pt_r hz]; exact hs z hz) ?_
        rw [← hEn, evS_w c3]
  exact lp cs 0 [] [] σ _ (by omega) (fun j c hj => by rw [Nat.zero_add]; exact hcs j c hj) hok hty trivial (by simp) trivial (fun _ _ => rfl) rfl

