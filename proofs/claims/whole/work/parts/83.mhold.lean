/-! ===== the reference: what a fact is in a world ===== -/
theorem wsub_neg : ∀ c, c < 1000 → ¬ (0 : Int32) ≤ nI c - nI 1000 := by decide +kernel
def wdC (L : LD) (w c : Nat) : Int32 := if c < 1000 then nI c else wdV L w (c - 1000)
/-- the worlds of the land in the making -/
def LW (s : ST) (B : LB) : Prop := B.1.W ≤ 16 ∧ ∀ w, w < B.1.W → (∀ k, k < 3 → s 81 (11 + 16 * k + w) = B.1.num (3 * w + k)) ∧ s 81 (59 + w) = B.1.wt w ∧ s 81 (75 + w) = bI (bt B.1.gl w)
theorem LM.w {s : ST} {B : LB} (h : LM s B) : LW s B := ⟨h.2.1.1, h.2.2.1⟩
theorem LW_of {s s' : ST} {B : LB} (h : LW s B) (e : ∀ q, q < 105 → s' 81 q = s 81 q) : LW s' B := by
  obtain ⟨h1, h2⟩ := h
  refine ⟨h1, fun w hw => ?_⟩
  obtain ⟨a1, a2, a3⟩ := h2 w hw
  exact ⟨fun k hk => by rw [e _ (by omega)]; exact a1 k hk, by rw [e _ (by omega)]; exact a2, by rw [e _ (by omega)]; exact a3⟩
theorem m_wordOf {G : GT} {d : Nat} {σ : ST} {μ : SL} {B : LB} {c w : Nat} (hB : LW σ B) (hw : w < B.1.W) (hc : c < 1000 ∨ (1000 ≤ c ∧ isAt (c - 1000) = true)) : Fn G d mX12_wordOf [.ref (G.b0 + 77), .int (nI c), .int (nI w)] (sh G σ μ) (Ret (some (.int (wdC B.1 w c))) (sh G σ μ)) := by
  have hW16 := hB.1
  obtain ⟨w1, w2, w3⟩ := hB.2 w hw
  refine fn_of (ls := [some (.ref (G.b0 + 77)), some (.int (nI c)), some (.int (nI w)), none]) (by decide +kernel) (Nat.le_of_ble_eq_true rfl) 1 rfl ?_
  by_cases h1 : c < 1000
  · skip
    refine b_iload_n dX12_wordOf_0 rfl ?_
    refine b_sipush (v := nI 1000) dX12_wordOf_1 (by decide) ?_
    refine b_isub dX12_wordOf_4 ?_
    refine b_istore_n dX12_wordOf_5 (by decide) rfl ?_
    refine b_iload_n dX12_wordOf_6 rfl ?_
    refine b_if_ge_f 12 dX12_wordOf_7 (by decide) (wsub_neg c h1) ?_
    refine b_iload_n dX12_wordOf_10 rfl ?_
    exact b_iret dX12_wordOf_11 ⟨by unfold wdC; rw [if_pos h1], rfl⟩
  · skip
    have ha : isAt (c - 1000) = true := by
      rcases hc with q | q
      · exact absurd q h1
      · exact q.2
    obtain ⟨k, hk⟩ : ∃ k, k = c - 1000 := ⟨_, rfl⟩
    have ew : wdC B.1 w c = wdV B.1 w k := by unfold wdC; rw [if_neg h1, hk]
    rw [← hk] at ha
    rw [ew]
    have h15 := isAt_lt ha
    refine b_iload_n dX12_wordOf_0 rfl ?_
    refine b_sipush (v := nI 1000) dX12_wordOf_1 (by decide) ?_
    refine b_isub dX12_wordOf_4 ?_
    refine b_top (y := nI k) (by rw [nI_sub (by omega), hk]) ?_
    refine b_istore_n dX12_wordOf_5 (by decide) rfl ?_
    refine b_iload_n dX12_wordOf_6 rfl ?_
    refine b_if_ge_t 12 dX12_wordOf_7 (by decide) (nI_pos' (by omega)) ?_
    refine b_iload_n dX12_wordOf_12 rfl ?_
    refine b_bipush (v := nI 12) dX12_wordOf_13 (by decide) ?_
    refine b_icmp_lt 36 dX12_wordOf_15 (by decide) (fun c1 => ?_) (fun c1 => ?_)
    · skip
      rw [nI_ltI (by omega) (by omega)] at c1
      refine b_iload_n dX12_wordOf_36 rfl ?_
      refine b_if_ne 44 dX12_wordOf_37 (by decide) (fun c2 => ?_) (fun c2 => ?_)
      · skip
        have c3 : ¬ k = 0 := fun z => c2 (by rw [z]; rfl)
        refine b_iload_n dX12_wordOf_44 rfl ?_
        refine b_iconst (v := nI 1) dX12_wordOf_45 (by decide) ?_
        refine b_icmp_ne 61 dX12_wordOf_46 (by decide) (fun c4 => ?_) (fun c4 => ?_)
        · skip
          have c5 : ¬ k = 1 := fun z => c4 (by rw [z])
          refine b_aload_n dX12_wordOf_61 rfl ?_
          refine g_get dX12_wordOf_62 fX12_24 a77 rfl ?_
          refine b_bipush (v := nI 75) dX12_wordOf_65 (by decide) ?_
          refine b_iload_n dX12_wordOf_67 rfl ?_
          refine b_iaddN dX12_wordOf_68 ?_
          refine g_iald dX12_wordOf_69 a81 rfl (by omega) ?_
          exact b_iret dX12_wordOf_70 ⟨by unfold wdV; rw [if_neg (by omega), if_neg c3, if_neg c5, ← w3], rfl⟩
        · skip
          rw [nI_eq (by omega) (by omega)] at c4
          refine b_aload_n dX12_wordOf_49 rfl ?_
          refine g_get dX12_wordOf_50 fX12_24 a77 rfl ?_
          refine b_bipush (v := nI 59) dX12_wordOf_53 (by decide) ?_
          refine b_iload_n dX12_wordOf_55 rfl ?_
          refine b_iaddN dX12_wordOf_56 ?_
          refine g_iald dX12_wordOf_57 a81 rfl (by omega) ?_
          refine b_goto 70 dX12_wordOf_58 (by decide) ?_
          exact b_iret dX12_wordOf_70 ⟨by unfold wdV; rw [if_neg (by omega), if_neg c3, if_pos c4, ← w2], rfl⟩
      · skip
        have c3 : k = 0 := by rw [← nI_0, nI_eq (by omega) (by omega)] at c2; exact c2
        refine b_iload_n dX12_wordOf_40 rfl ?_
        refine b_goto 70 dX12_wordOf_41 (by decide) ?_
        exact b_iret dX12_wordOf_70 ⟨by unfold wdV; rw [if_neg (by omega), if_pos c3], rfl⟩
    · skip
      rw [nI_ltI (by omega) (by omega)] at c1
      refine b_aload_n dX12_wordOf_18 rfl ?_
      refine g_get dX12_wordOf_19 fX12_24 a77 rfl ?_
      refine b_bipush (v := nI 11) dX12_wordOf_22 (by decide) ?_
      refine b_bipush (v := nI 16) dX12_wordOf_24 (by decide) ?_
      refine b_iload_n dX12_wordOf_26 rfl ?_
      refine b_bipush (v := nI 12) dX12_wordOf_27 (by decide) ?_
      refine b_isub dX12_wordOf_29 ?_
      refine b_top (y := nI (k - 12)) (nI_sub (by omega)) ?_
      refine b_imulN dX12_wordOf_30 ?_
      refine b_iaddN dX12_wordOf_31 ?_
      refine b_iload_n dX12_wordOf_32 rfl ?_
      refine b_iaddN dX12_wordOf_33 ?_
      refine g_iald dX12_wordOf_34 a81 rfl (by omega) ?_
      exact b_iret dX12_wordOf_35 ⟨by unfold wdV; rw [if_pos (by omega), ← w1 (k - 12) (by omega)], rfl⟩
/-- of 0 and 1 -/
def b01 (x : Int32) : Prop := x = nI 0 ∨ x = nI 1
theorem b01_I (b : Bool) : b01 (bI b) := by cases b; exact Or.inl rfl; exact Or.inr rfl
theorem bn0 (x y : Int32) : kpt (x.toInt64 + y.toInt64) = bnF 3000 x y := by simp [bnF]
theorem bn1 (x y : Int32) : kpt (x.toInt64 - y.toInt64) = bnF 3001 x y := by simp [bnF]
theorem bn2 (x y : Int32) : kpt (x.toInt64 * y.toInt64) = bnF 3002 x y := by simp [bnF]
theorem bn3 (x y : Int32) : bnF 3003 x y = bI (decide (x = y)) := by simp [bnF]
theorem bn4 (x y : Int32) : bnF 3004 x y = bI (decide (x < y)) := by simp [bnF]
theorem bn5 (x y : Int32) : bnF 3005 x y = bI (decide (y < x)) := by simp [bnF]
theorem bn6 (x y : Int32) : bnF 3006 x y = x &&& y := by simp [bnF]
theorem bn7 (x y : Int32) : bnF 3007 x y = x ||| y := by simp [bnF]
set_option maxHeartbeats 1000000 in
theorem m_between {G : GT} {d : Nat} {h : HT} {c : Nat} {x y : Int32} (hc : 3000 ≤ c) (hc8 : c < 3008) (h01 : 3006 ≤ c → b01 x ∧ b01 y) : Fn G d mX12_between [.int (nI c), .int x, .int y] h (Ret (some (.int (bnF c x y))) h) := by
  refine fn_of (ls := [some (.int (nI c)), some (.int x), some (.int y), none, none]) (by decide +kernel) (Nat.le_of_ble_eq_true rfl) 2 rfl ?_
  -- what is kept of a long
  have kp : ∀ v : Int64, kpt v = bnF c x y → BB G RX12 cX12_between 5 (some .int) d (QM G (Ret (some (.int (bnF c x y))) h)) 43 [some (.int (nI c)), some (.int x), some (.int y), some (.long v), none] [] h := by
    intro v hv
    refine b_lload_n dX12_between_43 rfl ?_
    refine b_ldc2 dX12_between_44 cvX12_189 ?_
    refine b_lcmp dX12_between_47 ?_
    refine b_if_le 57 dX12_between_48 (by decide) (fun c1 => ?_) (fun c1 => ?_)
    · skip
      have c2 : ¬ (1000000 : Int64) < v := fun z => absurd ((lg_cmp_gt _ _).mpr z) (Int32.not_lt.mpr c1)
      refine b_lload_n dX12_between_57 rfl ?_
      refine b_ldc2 dX12_between_58 cvX12_191 ?_
      refine b_lcmp dX12_between_61 ?_
      refine b_if_ge 71 dX12_between_62 (by decide) (fun c3 => ?_) (fun c3 => ?_)
      · skip
        have c4 : ¬ v < (-1000000 : Int64) := fun z => absurd ((lg_cmp_lt _ _).mpr z) (Int32.not_lt.mpr c3)
        refine b_lload_n dX12_between_71 rfl ?_
        refine b_l2i dX12_between_72 ?_
        exact b_iret dX12_between_73 ⟨by rw [← hv]; unfold kpt; rw [if_neg c2, if_neg c4], rfl⟩
      · skip
        have c4 : v < (-1000000 : Int64) := (lg_cmp_lt _ _).mp (Int32.not_le.mp c3)
        refine b_ldc2 dX12_between_65 cvX12_191 ?_
        refine b_goto 72 dX12_between_68 (by decide) ?_
        refine b_l2i dX12_between_72 ?_
        exact b_iret dX12_between_73 ⟨by rw [← hv]; unfold kpt; rw [if_neg c2, if_pos c4]; rfl, rfl⟩
    · skip
      have c2 : (1000000 : Int64) < v := (lg_cmp_gt _ _).mp (Int32.not_le.mp c1)
      refine b_ldc2 dX12_between_51 cvX12_189 ?_
      refine b_goto 72 dX12_between_54 (by decide) ?_
      refine b_l2i dX12_between_72 ?_
      exact b_iret dX12_between_73 ⟨by rw [← hv]; unfold kpt; rw [if_pos c2]; rfl, rfl⟩
  -- a truth
  have tr : ∀ b : Bool, bI b = bnF c x y → BB G RX12 cX12_between 5 (some .int) d (QM G (Ret (some (.int (bnF c x y))) h)) 167 [some (.int (nI c)), some (.int x), some (.int y), none, none] [.int (bI b)] h := by
    intro b hb
    refine b_istore_n dX12_between_167 (by decide) rfl ?_
    refine b_iload_n dX12_between_168 rfl ?_
    cases b with
    | false =>
      refine b_if_eq_t 176 dX12_between_169 (by decide) rfl ?_
      refine b_iconst (v := nI 0) dX12_between_176 (by decide) ?_
      exact b_iret dX12_between_177 ⟨by rw [← hb]; rfl, rfl⟩
    | true =>
      refine b_if_eq_f 176 dX12_between_169 (by decide) (by decide) ?_
      refine b_iconst (v := nI 1) dX12_between_172 (by decide) ?_
      refine b_goto 177 dX12_between_173 (by decide) ?_
      exact b_iret dX12_between_177 ⟨by rw [← hb]; rfl, rfl⟩
  refine b_iload_n dX12_between_0 rfl ?_
  refine b_sipush (v := nI 3002) dX12_between_1 (by decide) ?_
  rcases (show c = 3000 ∨ c = 3001 ∨ c = 3002 ∨ c = 3003 ∨ c = 3004 ∨ c = 3005 ∨ c = 3006 ∨ c = 3007 by omega) with rfl | rfl | rfl | rfl | rfl | rfl | rfl | rfl
  · skip
    refine b_icmp_gt_f 74 dX12_between_4 (by decide) (by decide) ?_
    refine b_iload_n dX12_between_7 rfl ?_
    refine b_sipush (v := nI 3000) dX12_between_8 (by decide) ?_
    refine b_icmp_ne_f 22 dX12_between_11 (by decide) (by decide) ?_
    refine b_iload_n dX12_between_14 rfl ?_
    refine b_i2l dX12_between_15 ?_
    refine b_iload_n dX12_between_16 rfl ?_
    refine b_i2l dX12_between_17 ?_
    refine b_ladd dX12_between_18 ?_
    refine b_goto 42 dX12_between_19 (by decide) ?_
    refine b_lstore_n dX12_between_42 (by decide) rfl ?_
    exact kp _ (bn0 x y)
  · skip
    refine b_icmp_gt_f 74 dX12_between_4 (by decide) (by decide) ?_
    refine b_iload_n dX12_between_7 rfl ?_
    refine b_sipush (v := nI 3000) dX12_between_8 (by decide) ?_
    refine b_icmp_ne_t 22 dX12_between_11 (by decide) (by decide) ?_
    refine b_iload_n dX12_between_22 rfl ?_
    refine b_sipush (v := nI 3001) dX12_between_23 (by decide) ?_
    refine b_icmp_ne_f 37 dX12_between_26 (by decide) (by decide) ?_
    refine b_iload_n dX12_between_29 rfl ?_
    refine b_i2l dX12_between_30 ?_
    refine b_iload_n dX12_between_31 rfl ?_
    refine b_i2l dX12_between_32 ?_
    refine b_lsub dX12_between_33 ?_
    refine b_goto 42 dX12_between_34 (by decide) ?_
    refine b_lstore_n dX12_between_42 (by decide) rfl ?_
    exact kp _ (bn1 x y)
  · skip
    refine b_icmp_gt_f 74 dX12_between_4 (by decide) (by decide) ?_
    refine b_iload_n dX12_between_7 rfl ?_
    refine b_sipush (v := nI 3000) dX12_between_8 (by decide) ?_
    refine b_icmp_ne_t 22 dX12_between_11 (by decide) (by decide) ?_
    refine b_iload_n dX12_between_22 rfl ?_
    refine b_sipush (v := nI 3001) dX12_between_23 (by decide) ?_
    refine b_icmp_ne_t 37 dX12_between_26 (by decide) (by decide) ?_
    refine b_iload_n dX12_between_37 rfl ?_
    refine b_i2l dX12_between_38 ?_
    refine b_iload_n dX12_between_39 rfl ?_
    refine b_i2l dX12_between_40 ?_
    refine b_lmul dX12_between_41 ?_
    refine b_lstore_n dX12_between_42 (by decide) rfl ?_
    exact kp _ (bn2 x y)
  · skip
    refine b_icmp_gt_t 74 dX12_between_4 (by decide) (by decide) ?_
    refine b_iload_n dX12_between_74 rfl ?_
    refine b_sipush (v := nI 3003) dX12_between_75 (by decide) ?_
    refine b_icmp_ne_f 94 dX12_between_78 (by decide) (by decide) ?_
    refine b_iload_n dX12_between_81 rfl ?_
    refine b_iload_n dX12_between_82 rfl ?_
    refine b_icmp_ne 90 dX12_between_83 (by decide) (fun c1 => ?_) (fun c1 => ?_)
    · skip
      refine b_iconst (v := nI 0) dX12_between_90 (by decide) ?_
      refine b_goto 167 dX12_between_91 (by decide) ?_
      exact tr false (by rw [bn3, decide_eq_false c1])
    · skip
      refine b_iconst (v := nI 1) dX12_between_86 (by decide) ?_
      refine b_goto 167 dX12_between_87 (by decide) ?_
      exact tr true (by rw [bn3, decide_eq_true c1])
  · skip
    refine b_icmp_gt_t 74 dX12_between_4 (by decide) (by decide) ?_
    refine b_iload_n dX12_between_74 rfl ?_
    refine b_sipush (v := nI 3003) dX12_between_75 (by decide) ?_
    refine b_icmp_ne_t 94 dX12_between_78 (by decide) (by decide) ?_
    refine b_iload_n dX12_between_94 rfl ?_
    refine b_sipush (v := nI 3004) dX12_between_95 (by decide) ?_
    refine b_icmp_ne_f 114 dX12_between_98 (by decide) (by decide) ?_
    refine b_iload_n dX12_between_101 rfl ?_
    refine b_iload_n dX12_between_102 rfl ?_
    refine b_icmp_ge 110 dX12_between_103 (by decide) (fun c1 => ?_) (fun c1 => ?_)
    · skip
      refine b_iconst (v := nI 0) dX12_between_110 (by decide) ?_
      refine b_goto 167 dX12_between_111 (by decide) ?_
      exact tr false (by rw [bn4, decide_eq_false (Int32.not_lt.mpr c1)])
    · skip
      refine b_iconst (v := nI 1) dX12_between_106 (by decide) ?_
      refine b_goto 167 dX12_between_107 (by decide) ?_
      exact tr true (by rw [bn4, decide_eq_true (Int32.not_le.mp c1)])
  · skip
    refine b_icmp_gt_t 74 dX12_between_4 (by decide) (by decide) ?_
    refine b_iload_n dX12_between_74 rfl ?_
    refine b_sipush (v := nI 3003) dX12_between_75 (by decide) ?_
    refine b_icmp_ne_t 94 dX12_between_78 (by decide) (by decide) ?_
    refine b_iload_n dX12_between_94 rfl ?_
    refine b_sipush (v := nI 3004) dX12_between_95 (by decide) ?_
    refine b_icmp_ne_t 114 dX12_between_98 (by decide) (by decide) ?_
    refine b_iload_n dX12_between_114 rfl ?_
    refine b_sipush (v := nI 3005) dX12_between_115 (by decide) ?_
    refine b_icmp_ne_f 134 dX12_between_118 (by decide) (by decide) ?_
    refine b_iload_n dX12_between_121 rfl ?_
    refine b_iload_n dX12_between_122 rfl ?_
    refine b_icmp_le 130 dX12_between_123 (by decide) (fun c1 => ?_) (fun c1 => ?_)
    · skip
      refine b_iconst (v := nI 0) dX12_between_130 (by decide) ?_
      refine b_goto 167 dX12_between_131 (by decide) ?_
      exact tr false (by rw [bn5, decide_eq_false (Int32.not_lt.mpr c1)])
    · skip
      refine b_iconst (v := nI 1) dX12_between_126 (by decide) ?_
      refine b_goto 167 dX12_between_127 (by decide) ?_
      exact tr true (by rw [bn5, decide_eq_true (Int32.not_le.mp c1)])
  · skip
    obtain ⟨hx, hy⟩ := h01 (by omega)
    refine b_icmp_gt_t 74 dX12_between_4 (by decide) (by decide) ?_
    refine b_iload_n dX12_between_74 rfl ?_
    refine b_sipush (v := nI 3003) dX12_between_75 (by decide) ?_
    refine b_icmp_ne_t 94 dX12_between_78 (by decide) (by decide) ?_
    refine b_iload_n dX12_between_94 rfl ?_
    refine b_sipush (v := nI 3004) dX12_between_95 (by decide) ?_
    refine b_icmp_ne_t 114 dX12_between_98 (by decide) (by decide) ?_
    refine b_iload_n dX12_between_114 rfl ?_
    refine b_sipush (v := nI 3005) dX12_between_115 (by decide) ?_
    refine b_icmp_ne_t 134 dX12_between_118 (by decide) (by decide) ?_
    refine b_iload_n dX12_between_134 rfl ?_
    refine b_sipush (v := nI 3006) dX12_between_135 (by decide) ?_
    refine b_icmp_ne_f 156 dX12_between_138 (by decide) (by decide) ?_
    refine b_iload_n dX12_between_141 rfl ?_
    refine b_iload_n dX12_between_142 rfl ?_
    refine b_iadd dX12_between_143 ?_
    refine b_iconst (v := nI 2) dX12_between_144 (by decide) ?_
    refine b_icmp_ne 152 dX12_between_145 (by decide) (fun c1 => ?_) (fun c1 => ?_)
    · skip
      refine b_iconst (v := nI 0) dX12_between_152 (by decide) ?_
      refine b_goto 167 dX12_between_153 (by decide) ?_
      refine tr false ?_
      rw [bn6]
      rcases hx with rfl | rfl <;> rcases hy with rfl | rfl
      · decide
      · decide
      · decide
      · exact absurd (by decide) c1
    · skip
      refine b_iconst (v := nI 1) dX12_between_148 (by decide) ?_
      refine b_goto 167 dX12_between_149 (by decide) ?_
      refine tr true ?_
      rw [bn6]
      rcases hx with rfl | rfl <;> rcases hy with rfl | rfl
      · exact absurd c1 (by decide)
      · exact absurd c1 (by decide)
      · exact absurd c1 (by decide)
      · decide
  · skip
    obtain ⟨hx, hy⟩ := h01 (by omega)
    refine b_icmp_gt_t 74 dX12_between_4 (by decide) (by decide) ?_
    refine b_iload_n dX12_between_74 rfl ?_
    refine b_sipush (v := nI 3003) dX12_between_75 (by decide) ?_
    refine b_icmp_ne_t 94 dX12_between_78 (by decide) (by decide) ?_
    refine b_iload_n dX12_between_94 rfl ?_
    refine b_sipush (v := nI 3004) dX12_between_95 (by decide) ?_
    refine b_icmp_ne_t 114 dX12_between_98 (by decide) (by decide) ?_
    refine b_iload_n dX12_between_114 rfl ?_
    refine b_sipush (v := nI 3005) dX12_between_115 (by decide) ?_
    refine b_icmp_ne_t 134 dX12_between_118 (by decide) (by decide) ?_
    refine b_iload_n dX12_between_134 rfl ?_
    refine b_sipush (v := nI 3006) dX12_between_135 (by decide) ?_
    refine b_icmp_ne_t 156 dX12_between_138 (by decide) (by decide) ?_
    refine b_iload_n dX12_between_156 rfl ?_
    refine b_iload_n dX12_between_157 rfl ?_
    refine b_iadd dX12_between_158 ?_
    refine b_if_le 166 dX12_between_159 (by decide) (fun c1 => ?_) (fun c1 => ?_)
    · skip
      refine b_iconst (v := nI 0) dX12_between_166 (by decide) ?_
      refine tr false ?_
      rw [bn7]
      rcases hx with rfl | rfl <;> rcases hy with rfl | rfl
      · decide
      · exact absurd c1 (by decide)
      · exact absurd c1 (by decide)
      · exact absurd c1 (by decide)
    · skip
      refine b_iconst (v := nI 1) dX12_between_162 (by decide) ?_
      refine b_goto 167 dX12_between_163 (by decide) ?_
      refine tr true ?_
      rw [bn7]
      rcases hx with rfl | rfl <;> rcases hy with rfl | rfl
      · exact absurd (by decide) c1
      · decide
      · decide
      · decide

