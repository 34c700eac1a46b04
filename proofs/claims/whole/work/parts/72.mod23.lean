/-! ===== the reference: shown ===== -/
theorem sub_ti {a b : Nat} (ha : a < 2 ^ 30) (hb : b < 2 ^ 30) : (nI a - nI b).toInt = (a : Int) - b := by
  rw [Int32.toInt_sub, nI_toInt (by omega), nI_toInt (by omega)]
  exact Int.bmod_eq_of_le (by omega) (by omega)
theorem sub_neg {a b : Nat} (ha : a < 2 ^ 30) (hb : b < 2 ^ 30) : nI a - nI b < 0 ↔ a < b := by
  rw [Int32.lt_iff_toInt_lt, sub_ti ha hb, show (0 : Int32).toInt = 0 by decide]; omega
theorem sub_z {a b : Nat} (ha : a < 2 ^ 30) (hb : b < 2 ^ 30) : nI a - nI b = 0 ↔ a = b := by
  constructor
  · intro h
    have := sub_ti ha hb
    rw [h, show (0 : Int32).toInt = 0 by decide] at this
    omega
  · intro h; rw [h, nI_sub (Nat.le_refl _), Nat.sub_self]; rfl
def mxA (L : LD) (p a : Nat) : Nat := mxf (cnd L p a) (szN L) (2 ^ L.F)
def mnA (L : LD) (p a : Nat) : Nat := mnf (cnd L p a) (szN L) (2 ^ L.F)
theorem mxA_b {L : LD} (p a : Nat) : mxA L p a ≤ 16 := by
  unfold mxA
  rcases mxf_at (c := cnd L p a) (g := szN L) (2 ^ L.F) with h | ⟨k, -, -, h⟩
  · omega
  · rw [h]; exact szN_le L k
theorem mnA_b {L : LD} (p a : Nat) : mnA L p a ≤ 99 := by
  unfold mnA
  rcases mnf_at (c := cnd L p a) (g := szN L) (2 ^ L.F) with h | ⟨k, -, -, h⟩
  · omega
  · rw [h]; have := szN_le L k; omega
/-- known, sizes -/
def KT (s : ST) (L : LD) (n : Nat) : Prop := ∀ k, k < n → s 88 k = nI (knN L k) ∧ s 89 k = nI (szN L k)
def CT (s : ST) (L : LD) (ok : Nat → Nat → Prop) : Prop := ∀ p a, p < L.P → a < 2 ^ L.F → ok p a → s 90 (256 * p + a) = nI (mnA L p a) ∧ s 91 (256 * p + a) = nI (mxA L p a)
theorem xorand {L : LD} {p a k : Nat} (hF : L.F ≤ 8) : (nI (knN L k) ^^^ nI (knN L (iN (L.told p)))) &&& nI a = 0 ↔ cnd L p a k = true := by
  have h1 := (knN_ok L hF k).1
  have h2 := (knN_ok L hF (iN (L.told p))).1
  have hp : 2 ^ L.F ≤ 256 := Nat.pow_le_pow_right (by omega) hF
  have h3 : knN L k ^^^ knN L (iN (L.told p)) < 2 ^ L.F := Nat.xor_lt_two_pow h1 h2
  rw [nI_xor, nI_and]
  unfold cnd
  rw [decide_eq_true_eq]
  have h4 : (knN L k ^^^ knN L (iN (L.told p))) &&& a < 2 ^ L.F := Nat.lt_of_le_of_lt Nat.and_le_left h3
  constructor
  · intro h; exact nI_z (by omega) h
  · intro h; rw [h]; rfl
theorem m_couldBe {G : GT} {d : Nat} {s : ST} {μ : SL} {L : LD} {p a : Nat} (hM : MV s L) (hK : LBk L) (hT : KT s L (2 ^ L.F)) (hp : p < L.P) (ha : a < 2 ^ L.F) : Fn G d mX12_couldBe [.ref (G.b0 + 77), .int (nI p), .int (nI a)] (sh G s μ) (fun r h' => r = none ∧ h' = sh G (pt (pt s 90 (256 * p + a) (nI (mnA L p a))) 91 (256 * p + a) (nI (mxA L p a))) μ) := by
  have hb := hM.b
  have hpw : 2 ^ L.F ≤ 256 := Nat.pow_le_pow_right (by omega) hb.2.1
  obtain ⟨t1, t2⟩ := iN_ok (show L.F < 32 by omega) (LBk_told hK hp)
  generalize htd : iN (L.told p) = td at t1 t2
  have hxa : ∀ k, (nI (knN L k) ^^^ nI (knN L td)) &&& nI a = 0 ↔ cnd L p a k = true := fun k => by rw [← htd]; exact xorand hb.2.1
  refine fn_of (ls := [some (.ref (G.b0 + 77)), some (.int (nI p)), some (.int (nI a)), none, none, none, none]) (by decide +kernel) (Nat.le_of_ble_eq_true rfl) 4 rfl ?_
  refine b_bipush (v := nI 99) dX12_couldBe_0 (by decide) ?_
  refine b_istore_n dX12_couldBe_2 (by decide) rfl ?_
  refine b_iconst (v := nI 0) dX12_couldBe_3 (by decide) ?_
  refine b_istore dX12_couldBe_4 (by decide) rfl ?_
  refine b_aload_n dX12_couldBe_6 rfl ?_
  refine g_get dX12_couldBe_7 fX12_48 a77 rfl ?_
  refine b_aload_n dX12_couldBe_10 rfl ?_
  refine g_get dX12_couldBe_11 fX12_13 a77 rfl ?_
  refine b_iconst (v := nI 5) dX12_couldBe_14 (by decide) ?_
  refine b_iload_n dX12_couldBe_15 rfl ?_
  refine b_iaddN dX12_couldBe_16 ?_
  refine g_iald dX12_couldBe_17 a78 rfl (by omega) ?_
  refine b_top (hM.told (by omega)) ?_
  refine b_top t2 ?_
  refine g_iald dX12_couldBe_18 a88 rfl (by omega) ?_
  refine b_top (hT td t1).1 ?_
  refine b_istore dX12_couldBe_19 (by decide) rfl ?_
  refine b_iconst (v := nI 0) dX12_couldBe_21 (by decide) ?_
  refine b_istore dX12_couldBe_22 (by decide) rfl ?_
  have lp : ∀ (n i : Nat), i + n = 2 ^ L.F → BB G RX12 cX12_couldBe 7 none d (QM G (fun r h' => r = none ∧ h' = sh G (pt (pt s 90 (256 * p + a) (nI (mnA L p a))) 91 (256 * p + a) (nI (mxA L p a))) μ)) 24 [some (.ref (G.b0 + 77)), some (.int (nI p)), some (.int (nI a)), some (.int (nI (mnf (cnd L p a) (szN L) i))), some (.int (nI (mxf (cnd L p a) (szN L) i))), some (.int (nI (knN L td))), some (.int (nI i))] [] (sh G s μ) := by
    intro n
    induction n with
    | zero =>
      intro i hi
      have ei : i = 2 ^ L.F := by omega
      refine b_iload dX12_couldBe_24 rfl ?_
      refine b_iconst (v := nI 1) dX12_couldBe_26 (by decide) ?_
      refine b_aload_n dX12_couldBe_27 rfl ?_
      refine g_get dX12_couldBe_28 fX12_13 a77 rfl ?_
      refine b_iconst (v := nI 2) dX12_couldBe_31 (by decide) ?_
      refine g_iald dX12_couldBe_32 a78 rfl (by omega) ?_
      refine b_top hM.cF ?_
      refine b_ishl dX12_couldBe_33 ?_
      refine b_top (shl_pow (by omega)) ?_
      refine b_icmp_ge_t 110 dX12_couldBe_34 (by decide) (nI_le (by omega) (by omega)) ?_
      refine b_aload_n dX12_couldBe_110 rfl ?_
      refine g_get dX12_couldBe_111 fX12_54 a77 rfl ?_
      refine b_sipush (v := nI 256) dX12_couldBe_114 (by decide) ?_
      refine b_iload_n dX12_couldBe_117 rfl ?_
      refine b_imulN dX12_couldBe_118 ?_
      refine b_iload_n dX12_couldBe_119 rfl ?_
      refine b_iaddN dX12_couldBe_120 ?_
      refine b_iload_n dX12_couldBe_121 rfl ?_
      refine g_iast dX12_couldBe_122 a90 rfl (by omega) ?_
      refine b_aload_n dX12_couldBe_123 rfl ?_
      refine g_get dX12_couldBe_124 fX12_57 a77 rfl ?_
      refine b_sipush (v := nI 256) dX12_couldBe_127 (by decide) ?_
      refine b_iload_n dX12_couldBe_130 rfl ?_
      refine b_imulN dX12_couldBe_131 ?_
      refine b_iload_n dX12_couldBe_132 rfl ?_
      refine b_iaddN dX12_couldBe_133 ?_
      refine b_iload dX12_couldBe_134 rfl ?_
      refine g_iast dX12_couldBe_136 a91 rfl (by omega) ?_
      exact b_vret dX12_couldBe_137 ⟨rfl, by rw [ei]; rfl⟩
    | succ n ih =>
      intro i hi
      obtain ⟨k1, k2⟩ := hT i (by omega)
      have hx := hxa i
      have b1 : mxf (cnd L p a) (szN L) i ≤ 16 := by
        rcases mxf_at (c := cnd L p a) (g := szN L) i with h | ⟨k, -, -, h⟩
        · omega
        · rw [h]; exact szN_le L k
      have b2 : mnf (cnd L p a) (szN L) i ≤ 99 := by
        rcases mnf_at (c := cnd L p a) (g := szN L) i with h | ⟨k, -, -, h⟩
        · omega
        · rw [h]; have := szN_le L k; omega
      have b3 := szN_le L i
      have nx : ∀ x y : Nat, x = mnf (cnd L p a) (szN L) (i + 1) → y = mxf (cnd L p a) (szN L) (i + 1) → BB G RX12 cX12_couldBe 7 none d (QM G (fun r h' => r = none ∧ h' = sh G (pt (pt s 90 (256 * p + a) (nI (mnA L p a))) 91 (256 * p + a) (nI (mxA L p a))) μ)) 104 [some (.ref (G.b0 + 77)), some (.int (nI p)), some (.int (nI a)), some (.int (nI x)), some (.int (nI y)), some (.int (nI (knN L td))), some (.int (nI i))] [] (sh G s μ) := by
        intro x y hx hy
        subst hx; subst hy
        refine b_iinc dX12_couldBe_104 rfl (nI_1 _) (by decide) rfl ?_
        refine b_goto 24 dX12_couldBe_107 (by decide) ?_
        exact ih (i + 1) (by omega)
      refine b_iload dX12_couldBe_24 rfl ?_
      refine b_iconst (v := nI 1) dX12_couldBe_26 (by decide) ?_
      refine b_aload_n dX12_couldBe_27 rfl ?_
      refine g_get dX12_couldBe_28 fX12_13 a77 rfl ?_
      refine b_iconst (v := nI 2) dX12_couldBe_31 (by decide) ?_
      refine g_iald dX12_couldBe_32 a78 rfl (by omega) ?_
      refine b_top hM.cF ?_
      refine b_ishl dX12_couldBe_33 ?_
      refine b_top (shl_pow (by omega)) ?_
      refine b_icmp_ge_f 110 dX12_couldBe_34 (by decide) (nI_ge (by omega) (by omega)) ?_
      refine b_aload_n dX12_couldBe_37 rfl ?_
      refine g_get dX12_couldBe_38 fX12_48 a77 rfl ?_
      refine b_iload dX12_couldBe_41 rfl ?_
      refine g_iald dX12_couldBe_43 a88 rfl (by omega) ?_
      refine b_top k1 ?_
      refine b_iload dX12_couldBe_44 rfl ?_
      refine b_ixor dX12_couldBe_46 ?_
      refine b_iload_n dX12_couldBe_47 rfl ?_
      refine b_iand dX12_couldBe_48 ?_
      refine b_if_eq 55 dX12_couldBe_49 (by decide) (fun c1 => ?_) (fun c1 => ?_)
      · skip
        have c2 := hx.mp c1
        refine b_aload_n dX12_couldBe_55 rfl ?_
        refine g_get dX12_couldBe_56 fX12_51 a77 rfl ?_
        refine b_iload dX12_couldBe_59 rfl ?_
        refine g_iald dX12_couldBe_61 a89 rfl (by omega) ?_
        refine b_top k2 ?_
        refine b_iload_n dX12_couldBe_62 rfl ?_
        have snd : ∀ x : Nat, x = mnf (cnd L p a) (szN L) (i + 1) → x ≤ 99 → BB G RX12 cX12_couldBe 7 none d (QM G (fun r h' => r = none ∧ h' = sh G (pt (pt s 90 (256 * p + a) (nI (mnA L p a))) 91 (256 * p + a) (nI (mxA L p a))) μ)) 77 [some (.ref (G.b0 + 77)), some (.int (nI p)), some (.int (nI a)), some (.int (nI (mnf (cnd L p a) (szN L) i))), some (.int (nI (mxf (cnd L p a) (szN L) i))), some (.int (nI (knN L td))), some (.int (nI i))] [.int (nI x)] (sh G s μ) := by
          intro x hx9 hx99
          refine b_istore_n dX12_couldBe_77 (by decide) rfl ?_
          refine b_aload_n dX12_couldBe_78 rfl ?_
          refine g_get dX12_couldBe_79 fX12_51 a77 rfl ?_
          refine b_iload dX12_couldBe_82 rfl ?_
          refine g_iald dX12_couldBe_84 a89 rfl (by omega) ?_
          refine b_top k2 ?_
          refine b_iload dX12_couldBe_85 rfl ?_
          refine b_icmp_le 100 dX12_couldBe_87 (by decide) (fun c3 => ?_) (fun c3 => ?_)
          · skip
            rw [nI_leI (by omega) (by omega)] at c3
            refine b_iload dX12_couldBe_100 rfl ?_
            refine b_istore dX12_couldBe_102 (by decide) rfl ?_
            exact nx x _ hx9 (by rw [mxf, if_pos c2, Nat.max_eq_left c3])
          · skip
            rw [nI_leI (by omega) (by omega)] at c3
            refine b_aload_n dX12_couldBe_90 rfl ?_
            refine g_get dX12_couldBe_91 fX12_51 a77 rfl ?_
            refine b_iload dX12_couldBe_94 rfl ?_
            refine g_iald dX12_couldBe_96 a89 rfl (by omega) ?_
            refine b_top k2 ?_
            refine b_goto 102 dX12_couldBe_97 (by decide) ?_
            refine b_istore dX12_couldBe_102 (by decide) rfl ?_
            exact nx x _ hx9 (by rw [mxf, if_pos c2, Nat.max_eq_right (by omega)])
        refine b_icmp_ge 76 dX12_couldBe_63 (by decide) (fun c3 => ?_) (fun c3 => ?_)
        · skip
          rw [nI_leI (by omega) (by omega)] at c3
          refine b_iload_n dX12_couldBe_76 rfl ?_
          exact snd _ (by rw [mnf, if_pos c2, Nat.min_eq_left c3]) b2
        · skip
          rw [nI_leI (by omega) (by omega)] at c3
          refine b_aload_n dX12_couldBe_66 rfl ?_
          refine g_get dX12_couldBe_67 fX12_51 a77 rfl ?_
          refine b_iload dX12_couldBe_70 rfl ?_
          refine g_iald dX12_couldBe_72 a89 rfl (by omega) ?_
          refine b_top k2 ?_
          refine b_goto 77 dX12_couldBe_73 (by decide) ?_
          exact snd _ (by rw [mnf, if_pos c2, Nat.min_eq_right (by omega)]) (by omega)
      · skip
        have c2 : ¬ cnd L p a i = true := fun z => c1 (hx.mpr z)
        refine b_goto 104 dX12_couldBe_52 (by decide) ?_
        exact nx _ _ (by rw [mnf, if_neg c2]) (by rw [mxf, if_neg c2])
  exact lp (2 ^ L.F) 0 (by omega)
def k8893 (c : Nat) : Prop := 88 ≤ c ∧ c ≤ 93
theorem m_laysTold {G : GT} {d : Nat} {s : ST} {μ : SL} {L : LD} (hM : MV s L) (hK : LBk L) : Fn G (d + 2) mX12_laysTold [.ref (G.b0 + 77)] (sh G s μ) (fun r h' => r = none ∧ ∃ s' : ST, h' = sh G s' μ ∧ (∀ c, ¬ k8893 c → s' c = s c) ∧ CT s' L (fun _ _ => True)) := by
  have hb := hM.b
  have hpw : 2 ^ L.F ≤ 256 := Nat.pow_le_pow_right (by omega) hb.2.1
  refine fn_of (ls := [some (.ref (G.b0 + 77)), none, none]) (by decide +kernel) (Nat.le_of_ble_eq_true rfl) 2 rfl ?_
  refine b_iconst (v := nI 0) dX12_laysTold_0 (by decide) ?_
  refine b_istore_n dX12_laysTold_1 (by decide) rfl ?_
  have lpB : ∀ (n p : Nat) (s1 : ST) (z2 : Option Value), p + n = L.P → (∀ c, ¬ k8893 c → s1 c = s c) → KT s1 L (2 ^ L.F) → CT s1 L (fun p' _ => p' < p) → BB G RX12 cX12_laysTold 3 none (d + 2) (QM G (fun r h' => r = none ∧ ∃ s' : ST, h' = sh G s' μ ∧ (∀ c, ¬ k8893 c → s' c = s c) ∧ CT s' L (fun _ _ => True))) 55 [some (.ref (G.b0 + 77)), some (.int (nI p)), z2] [] (sh G s1 μ) := by
    intro n
    induction n with
    | zero =>
      intro p s1 z2 hp hs hT hC
      have hM1 : MV s1 L := MV_of hM (by rw [hs 77 (by unfold k8893; omega)]) (hs 78 (by unfold k8893; omega))
      refine b_iload_n dX12_laysTold_55 rfl ?_
      refine b_aload_n dX12_laysTold_56 rfl ?_
      refine g_get dX12_laysTold_57 fX12_13 a77 rfl ?_
      refine b_iconst (v := nI 3) dX12_laysTold_60 (by decide) ?_
      refine g_iald dX12_laysTold_61 a78 rfl (by omega) ?_
      refine b_top hM1.cP ?_
      refine b_icmp_ge_t 97 dX12_laysTold_62 (by decide) (nI_le (by omega) (by omega)) ?_
      exact b_vret dX12_laysTold_97 ⟨rfl, s1, rfl, hs, fun p' a h1 h2 _ => hC p' a h1 h2 (by omega)⟩
    | succ n ih =>
      intro p s1 z2 hp hs hT hC
      have hM1 : MV s1 L := MV_of hM (by rw [hs 77 (by unfold k8893; omega)]) (hs 78 (by unfold k8893; omega))
      refine b_iload_n dX12_laysTold_55 rfl ?_
      refine b_aload_n dX12_laysTold_56 rfl ?_
      refine g_get dX12_laysTold_57 fX12_13 a77 rfl ?_
      refine b_iconst (v := nI 3) dX12_laysTold_60 (by decide) ?_
      refine g_iald dX12_laysTold_61 a78 rfl (by omega) ?_
      refine b_top hM1.cP ?_
      refine b_icmp_ge_f 97 dX12_laysTold_62 (by decide) (nI_ge (by omega) (by omega)) ?_
      refine b_iconst (v := nI 0) dX12_laysTold_65 (by decide) ?_
      refine b_istore_n dX12_laysTold_66 (by decide) rfl ?_
      have lpC : ∀ (m a : Nat) (s2 : ST), a + m = 2 ^ L.F → (∀ c, ¬ k8893 c → s2 c = s c) → KT s2 L (2 ^ L.F) → CT s2 L (fun p' a' => p' < p ∨ (p' = p ∧ a' < a)) → BB G RX12 cX12_laysTold 3 none (d + 2) (QM G (fun r h' => r = none ∧ ∃ s' : ST, h' = sh G s' μ ∧ (∀ c, ¬ k8893 c → s' c = s c) ∧ CT s' L (fun _ _ => True))) 67 [some (.ref (G.b0 + 77)), some (.int (nI p)), some (.int (nI a))] [] (sh G s2 μ) := by
        intro m
        induction m with
        | zero =>
          intro a s2 ha hs2 hT2 hC2
          have hM2 : MV s2 L := MV_of hM (by rw [hs2 77 (by unfold k8893; omega)]) (hs2 78 (by unfold k8893; omega))
          refine b_iload_n dX12_laysTold_67 rfl ?_
          refine b_iconst (v := nI 1) dX12_laysTold_68 (by decide) ?_
          refine b_aload_n dX12_laysTold_69 rfl ?_
          refine g_get dX12_laysTold_70 fX12_13 a77 rfl ?_
          refine b_iconst (v := nI 2) dX12_laysTold_73 (by decide) ?_
          refine g_iald dX12_laysTold_74 a78 rfl (by omega) ?_
          refine b_top hM2.cF ?_
          refine b_ishl dX12_laysTold_75 ?_
          refine b_top (shl_pow (by omega)) ?_
          refine b_icmp_ge_t 91 dX12_laysTold_76 (by decide) (nI_le (by omega) (by omega)) ?_
          refine b_iinc dX12_laysTold_91 rfl (nI_1 _) (by decide) rfl ?_
          refine b_goto 55 dX12_laysTold_94 (by decide) ?_
          exact ih (p + 1) s2 _ (by omega) hs2 hT2 (fun p' a' h1 h2 h3 => hC2 p' a' h1 h2 (by omega))
        | succ m ihm =>
          intro a s2 ha hs2 hT2 hC2
          have hM2 : MV s2 L := MV_of hM (by rw [hs2 77 (by unfold k8893; omega)]) (hs2 78 (by unfold k8893; omega))
          refine b_iload_n dX12_laysTold_67 rfl ?_
          refine b_iconst (v := nI 1) dX12_laysTold_68 (by decide) ?_
          refine b_aload_n dX12_laysTold_69 rfl ?_
          refine g_get dX12_laysTold_70 fX12_13 a77 rfl ?_
          refine b_iconst (v := nI 2) dX12_laysTold_73 (by decide) ?_
          refine g_iald dX12_laysTold_74 a78 rfl (by omega) ?_
          refine b_top hM2.cF ?_
          refine b_ishl dX12_laysTold_75 ?_
          refine b_top (shl_pow (by omega)) ?_
          refine b_icmp_ge_f 91 dX12_laysTold_76 (by decide) (nI_ge (by omega) (by omega)) ?_
          refine b_aload_n dX12_laysTold_79 rfl ?_
          refine b_iload_n dX12_laysTold_80 rfl ?_
          refine b_iload_n dX12_laysTold_81 rfl ?_
          refine g_callVp [.int (nI p), .int (nI a)] dX12_laysTold_82 kX12_couldBe lX12_330 a77 rfl rfl (m_couldBe hM2 hK hT2 (show p < L.P by omega) (show a < 2 ^ L.F by omega)) rfl rfl (Nat.le_of_ble_eq_true rfl) ?_
          rintro r h9 ⟨rfl, rfl⟩
          refine b_iinc dX12_laysTold_85 rfl (nI_1 _) (by decide) rfl ?_
          refine b_goto 67 dX12_laysTold_88 (by decide) ?_
          refine ihm (a + 1) _ (by omega) (fun c h => ?_) (fun k hk => ?_) (fun p' a' h1 h2 h3 => ?_)
          · rw [pt_r (by unfold k8893 at h; omega), pt_r (by unfold k8893 at h; omega)]; exact hs2 c h
          · rw [pt_a (by omega), pt_a (by omega), pt_a (by omega), pt_a (by omega)]; exact hT2 k hk
          · by_cases e : p' = p ∧ a' = a
            · rw [e.1, e.2, pt_a (by omega), pt_s, pt_s]; exact ⟨rfl, rfl⟩
            · have hne : 256 * p' + a' ≠ 256 * p + a := by omega
              rw [pt_a (by omega), pt_j hne, pt_j hne, pt_a (by omega)]
              exact hC2 p' a' h1 h2 (by omega)
      exact lpC (2 ^ L.F) 0 s1 (by omega) hs hT (fun p' a' h1 h2 h3 => hC p' a' h1 h2 (by omega))
  have lpA : ∀ (n i : Nat) (s1 : ST) (z2 : Option Value), i + n = 2 ^ L.F → (∀ c, ¬ k8893 c → s1 c = s c) → KT s1 L i → BB G RX12 cX12_laysTold 3 none (d + 2) (QM G (fun r h' => r = none ∧ ∃ s' : ST, h' = sh G s' μ ∧ (∀ c, ¬ k8893 c → s' c = s c) ∧ CT s' L (fun _ _ => True))) 2 [some (.ref (G.b0 + 77)), some (.int (nI i)), z2] [] (sh G s1 μ) := by
    intro n
    induction n with
    | zero =>
      intro i s1 z2 hi hs hT
      have hM1 : MV s1 L := MV_of hM (by rw [hs 77 (by unfold k8893; omega)]) (hs 78 (by unfold k8893; omega))
      refine b_iload_n dX12_laysTold_2 rfl ?_
      refine b_iconst (v := nI 1) dX12_laysTold_3 (by decide) ?_
      refine b_aload_n dX12_laysTold_4 rfl ?_
      refine g_get dX12_laysTold_5 fX12_13 a77 rfl ?_
      refine b_iconst (v := nI 2) dX12_laysTold_8 (by decide) ?_
      refine g_iald dX12_laysTold_9 a78 rfl (by omega) ?_
      refine b_top hM1.cF ?_
      refine b_ishl dX12_laysTold_10 ?_
      refine b_top (shl_pow (by omega)) ?_
      refine b_icmp_ge_t 53 dX12_laysTold_11 (by decide) (nI_le (by omega) (by omega)) ?_
      refine b_iconst (v := nI 0) dX12_laysTold_53 (by decide) ?_
      refine b_istore_n dX12_laysTold_54 (by decide) rfl ?_
      exact lpB L.P 0 s1 _ (by omega) hs (by rw [show 2 ^ L.F = i by omega]; exact hT) (fun p' a' _ _ h3 => absurd h3 (by omega))
    | succ n ih =>
      intro i s1 z2 hi hs hT
      have hM1 : MV s1 L := MV_of hM (by rw [hs 77 (by unfold k8893; omega)]) (hs 78 (by unfold k8893; omega))
      refine b_iload_n dX12_laysTold_2 rfl ?_
      refine b_iconst (v := nI 1) dX12_laysTold_3 (by decide) ?_
      refine b_aload_n dX12_laysTold_4 rfl ?_
      refine g_get dX12_laysTold_5 fX12_13 a77 rfl ?_
      refine b_iconst (v := nI 2) dX12_laysTold_8 (by decide) ?_
      refine g_iald dX12_laysTold_9 a78 rfl (by omega) ?_
      refine b_top hM1.cF ?_
      refine b_ishl dX12_laysTold_10 ?_
      refine b_top (shl_pow (by omega)) ?_
      refine b_icmp_ge_f 53 dX12_laysTold_11 (by decide) (nI_ge (by omega) (by omega)) ?_
      refine b_aload_n dX12_laysTold_14 rfl ?_
      refine b_iload_n dX12_laysTold_15 rfl ?_
      refine b_aload_n dX12_laysTold_16 rfl ?_
      refine g_get dX12_laysTold_17 fX12_13 a77 rfl ?_
      refine b_iconst (v := nI 4) dX12_laysTold_20 (by decide) ?_
      refine g_iald dX12_laysTold_21 a78 rfl (by omega) ?_
      refine b_top hM1.ct ?_
      refine g_callV [.int (nI i), .int (nI L.t)] dX12_laysTold_22 kX12_cellOf lX12_232 a77 rfl rfl (m_cellOf hM1 (by omega)) rfl rfl (Nat.le_of_ble_eq_true rfl) ?_
      refine b_istore_n dX12_laysTold_25 (by decide) rfl ?_
      refine b_aload_n dX12_laysTold_26 rfl ?_
      refine g_get dX12_laysTold_27 fX12_48 a77 rfl ?_
      refine b_iload_n dX12_laysTold_30 rfl ?_
      refine b_aload_n dX12_laysTold_31 rfl ?_
      refine b_iload_n dX12_laysTold_32 rfl ?_
      refine g_callV [.int (mPoss L.hold L.W (nI i) L.t L.F)] dX12_laysTold_33 kX12_knownIn lX12_251 a77 rfl rfl (m_knownIn hM1) rfl rfl (Nat.le_of_ble_eq_true rfl) ?_
      refine g_iast dX12_laysTold_36 a88 rfl (by omega) ?_
      refine b_aload_n dX12_laysTold_37 rfl ?_
      refine g_get dX12_laysTold_38 fX12_51 a77 rfl ?_
      refine b_iload_n dX12_laysTold_41 rfl ?_
      refine b_iload_n dX12_laysTold_42 rfl ?_
      refine b_callSr [.int (mPoss L.hold L.W (nI i) L.t L.F)] dX12_laysTold_43 kX12_bitsOf lX12_266 m_bitsOf rfl rfl (Nat.le_of_ble_eq_true rfl) ?_
      refine g_iast dX12_laysTold_46 a89 rfl (by omega) ?_
      refine b_iinc dX12_laysTold_47 rfl (nI_1 _) (by decide) rfl ?_
      refine b_goto 2 dX12_laysTold_50 (by decide) ?_
      refine ih (i + 1) _ _ (by omega) (fun c h => ?_) (fun k hk => ?_)
      · rw [pt_r (by unfold k8893 at h; omega), pt_r (by unfold k8893 at h; omega)]; exact hs c h
      · by_cases e : k = i
        · subst e
          rw [pt_a (by omega), pt_s, pt_s]
          exact ⟨(knN_ok L hb.2.1 k).2, rfl⟩
        · rw [pt_a (by omega), pt_j e, pt_j e, pt_a (by omega)]; exact hT k (by omega)
  exact lpA (2 ^ L.F) 0 s _ (by omega) (fun _ _ => rfl) (fun k hk => absurd hk (by omega))

