/-! ===== the reference: parties ===== -/
def FK (K : Nat → Prop) (σ s : ST) : Prop := (∀ c, ¬ K c → c ≠ 86 → c ≠ 87 → c ≠ 77 → s c = σ c) ∧ ∀ q, q ≠ 22 → q ≠ 23 → s 77 q = σ 77 q
def PFK (G : GT) (μ : SL) (K : Nat → Prop) (σ : ST) (v : Int32) : Option Value → HT → Prop := fun r h' => r = some (.int v) ∧ ∃ s : ST, h' = sh G s μ ∧ FK K σ s
theorem FK_r (K : Nat → Prop) (σ : ST) : FK K σ σ := ⟨fun _ _ _ _ _ => rfl, fun _ _ _ => rfl⟩
theorem FK_MV {K : Nat → Prop} {σ s : ST} {L : LD} (h : FK K σ s) (hM : MV σ L) (hK : ¬ K 78) : MV s L := MV_of hM (h.2 0 (by omega) (by omega)) (h.1 78 hK (by omega) (by omega) (by omega))
def k94 (c : Nat) : Prop := c = 94
/-- the judges found so far -/
def JM (s : ST) (L : LD) (m : Nat) (ok : Nat → Nat → Prop) : Prop := ∀ a b, a < chN L.F L.P → b < chN L.F L.P → ok a b → s 94 (49 * a + b) = jd L m a b
theorem S0_94 {s s1 : ST} {i : Nat} {v : Int32} (h : S0 s s1) : S0 (pt s 94 i v) (pt s1 94 i v) := by
  obtain ⟨g1, g2, g3, g4⟩ := h
  refine ⟨fun q hq => by rw [pt_a (by omega), pt_a (by omega)]; exact g1 q hq, fun c a b e f => ?_, fun q a b => by rw [pt_a (by omega), pt_a (by omega)]; exact g3 q a b, fun q hq => by rw [pt_a (by omega), pt_a (by omega)]; exact g4 q hq⟩
  funext q
  rw [pt_at, pt_at, g2 c a b e f]
theorem m_isRest {G : GT} {d : Nat} {s : ST} {μ : SL} {L : LD} {m i j : Nat} {want other : Int32} (hM : MV s L) (hJ : JM s L m (fun _ _ => True)) (hi : i < chN L.F L.P) (hj : j < chN L.F L.P) : Fn G (d + 1) mX12_isRest [.ref (G.b0 + 77), .int (nI i), .int (nI j), .int want, .int other] (sh G s μ) (Ret (some (.int (bI (rst L m want other i j)))) (sh G s μ)) := by
  have hb := hM.b
  have hC := chN_le hb.2.1 hb.2.2.1
  have hij : s 94 (49 * i + j) = jd L m i j := hJ i j hi hj trivial
  refine fn_of (ls := [some (.ref (G.b0 + 77)), some (.int (nI i)), some (.int (nI j)), some (.int want), some (.int other), none, none]) (by decide +kernel) (Nat.le_of_ble_eq_true rfl) 2 rfl ?_
  refine b_aload_n dX12_isRest_0 rfl ?_
  refine g_get dX12_isRest_1 fX12_66 a77 rfl ?_
  refine b_bipush (v := nI 49) dX12_isRest_4 (by decide) ?_
  refine b_iload_n dX12_isRest_6 rfl ?_
  refine b_imulN dX12_isRest_7 ?_
  refine b_iload_n dX12_isRest_8 rfl ?_
  refine b_iaddN dX12_isRest_9 ?_
  refine g_iald dX12_isRest_10 a94 rfl (by omega) ?_
  refine b_top hij ?_
  refine b_istore dX12_isRest_11 (by decide) rfl ?_
  refine b_iconst (v := nI 0) dX12_isRest_13 (by decide) ?_
  refine b_istore dX12_isRest_14 (by decide) rfl ?_
  have any : ∀ (c : Nat → Bool) n, mAny1 c n = true → ∃ k, k < n ∧ c k = true := by
    intro c n
    induction n with
    | zero => intro h; exact absurd h (by simp [mAny1])
    | succ n ih =>
      intro h
      rw [mAny1, Bool.or_eq_true] at h
      rcases h with h | h
      · obtain ⟨k, h1, h2⟩ := ih h; exact ⟨k, by omega, h2⟩
      · exact ⟨n, by omega, h⟩
  have lp : ∀ (n k : Nat), k + n = chN L.F L.P → (∀ k', k' < k → ¬ (jd L m i j ≠ want ∧ jd L m k' j = want) ∧ ¬ (jd L m i j ≠ other ∧ jd L m i k' = other)) → BB G RX12 cX12_isRest 7 (some .boolean) (d + 1) (QM G (Ret (some (.int (bI (rst L m want other i j)))) (sh G s μ))) 16 [some (.ref (G.b0 + 77)), some (.int (nI i)), some (.int (nI j)), some (.int want), some (.int other), some (.int (jd L m i j)), some (.int (nI k))] [] (sh G s μ) := by
    intro n
    induction n with
    | zero =>
      intro k hk ha
      refine b_iload dX12_isRest_16 rfl ?_
      refine b_aload_n dX12_isRest_18 rfl ?_
      refine g_callV [] dX12_isRest_19 kX12_choices lX12_350 a77 rfl rfl (m_choices hM) rfl rfl (Nat.le_of_ble_eq_true rfl) ?_
      refine b_icmp_ge_t 79 dX12_isRest_22 (by decide) (nI_le (by omega) (by omega)) ?_
      refine b_iconst (v := nI 1) dX12_isRest_79 (by decide) ?_
      refine b_zret dX12_isRest_80 rfl ⟨?_, rfl⟩
      have e : rst L m want other i j = true := by
        unfold rst
        have h1 : jd L m i j = want ∨ canG L m j want = false := by
          by_cases z : jd L m i j = want
          · exact Or.inl z
          · right
            cases hc : canG L m j want
            · rfl
            · obtain ⟨k', h1, h2⟩ := any _ _ hc
              have h3 : jd L m j k' = want := by simpa using h2
              exact absurd ⟨z, by rw [jd_comm]; exact h3⟩ (ha k' (by omega)).1
        have h2 : jd L m i j = other ∨ canG L m i other = false := by
          by_cases z : jd L m i j = other
          · exact Or.inl z
          · right
            cases hc : canG L m i other
            · rfl
            · obtain ⟨k', h1, h2⟩ := any _ _ hc
              have h3 : jd L m i k' = other := by simpa using h2
              exact absurd ⟨z, h3⟩ (ha k' (by omega)).2
        have a1 : (decide (jd L m i j = want) || !canG L m j want) = true := by rcases h1 with z | z <;> simp [z]
        have a2 : (decide (jd L m i j = other) || !canG L m i other) = true := by rcases h2 with z | z <;> simp [z]
        rw [a1, a2]; rfl
      rw [e]; rfl
    | succ n ih =>
      intro k hk ha
      have hkj : s 94 (49 * k + j) = jd L m k j := hJ k j (by omega) hj trivial
      have hik : s 94 (49 * i + k) = jd L m i k := hJ i k hi (by omega) trivial
      have bad : (jd L m i j ≠ want ∧ jd L m k j = want) ∨ (jd L m i j ≠ other ∧ jd L m i k = other) → BB G RX12 cX12_isRest 7 (some .boolean) (d + 1) (QM G (Ret (some (.int (bI (rst L m want other i j)))) (sh G s μ))) 71 [some (.ref (G.b0 + 77)), some (.int (nI i)), some (.int (nI j)), some (.int want), some (.int other), some (.int (jd L m i j)), some (.int (nI k))] [] (sh G s μ) := by
        intro hbd
        refine b_iconst (v := nI 0) dX12_isRest_71 (by decide) ?_
        refine b_zret dX12_isRest_72 rfl ⟨?_, rfl⟩
        have e : rst L m want other i j = false := by
          unfold rst
          rcases hbd with ⟨z1, z2⟩ | ⟨z1, z2⟩
          · have hc : canG L m j want = true := mAny1_hit (i := k) (by simp; rw [jd_comm]; exact z2) _ (by omega)
            rw [decide_eq_false z1, hc]; rfl
          · have hc : canG L m i other = true := mAny1_hit (i := k) (by simp; exact z2) _ (by omega)
            rw [decide_eq_false z1, hc]; simp
        rw [e]; rfl
      have good : ¬ (jd L m i j ≠ want ∧ jd L m k j = want) → ¬ (jd L m i j ≠ other ∧ jd L m i k = other) → BB G RX12 cX12_isRest 7 (some .boolean) (d + 1) (QM G (Ret (some (.int (bI (rst L m want other i j)))) (sh G s μ))) 73 [some (.ref (G.b0 + 77)), some (.int (nI i)), some (.int (nI j)), some (.int want), some (.int other), some (.int (jd L m i j)), some (.int (nI k))] [] (sh G s μ) := by
        intro g1 g2
        refine b_iinc dX12_isRest_73 rfl (nI_1 _) (by decide) rfl ?_
        refine b_goto 16 dX12_isRest_76 (by decide) ?_
        refine ih (k + 1) (by omega) (fun k' hk' => ?_)
        by_cases e : k' = k
        · subst e; exact ⟨g1, g2⟩
        · exact ha k' (by omega)
      have snd : ¬ (jd L m i j ≠ want ∧ jd L m k j = want) → BB G RX12 cX12_isRest 7 (some .boolean) (d + 1) (QM G (Ret (some (.int (bI (rst L m want other i j)))) (sh G s μ))) 47 [some (.ref (G.b0 + 77)), some (.int (nI i)), some (.int (nI j)), some (.int want), some (.int other), some (.int (jd L m i j)), some (.int (nI k))] [] (sh G s μ) := by
        intro g1
        refine b_iload dX12_isRest_47 rfl ?_
        refine b_iload dX12_isRest_49 rfl ?_
        refine b_icmp_eq 73 dX12_isRest_51 (by decide) (fun c1 => ?_) (fun c1 => ?_)
        · skip
          exact good g1 (fun z => z.1 c1)
        · skip
          refine b_aload_n dX12_isRest_54 rfl ?_
          refine g_get dX12_isRest_55 fX12_66 a77 rfl ?_
          refine b_bipush (v := nI 49) dX12_isRest_58 (by decide) ?_
          refine b_iload_n dX12_isRest_60 rfl ?_
          refine b_imulN dX12_isRest_61 ?_
          refine b_iload dX12_isRest_62 rfl ?_
          refine b_iaddN dX12_isRest_64 ?_
          refine g_iald dX12_isRest_65 a94 rfl (by omega) ?_
          refine b_top hik ?_
          refine b_iload dX12_isRest_66 rfl ?_
          refine b_icmp_ne 73 dX12_isRest_68 (by decide) (fun c2 => ?_) (fun c2 => ?_)
          · skip
            exact good g1 (fun z => c2 z.2)
          · skip
            exact bad (Or.inr ⟨c1, c2⟩)
      refine b_iload dX12_isRest_16 rfl ?_
      refine b_aload_n dX12_isRest_18 rfl ?_
      refine g_callV [] dX12_isRest_19 kX12_choices lX12_350 a77 rfl rfl (m_choices hM) rfl rfl (Nat.le_of_ble_eq_true rfl) ?_
      refine b_icmp_ge_f 79 dX12_isRest_22 (by decide) (nI_ge (by omega) (by omega)) ?_
      refine b_iload dX12_isRest_25 rfl ?_
      refine b_iload_n dX12_isRest_27 rfl ?_
      refine b_icmp_eq 47 dX12_isRest_28 (by decide) (fun c1 => ?_) (fun c1 => ?_)
      · skip
        exact snd (fun z => z.1 c1)
      · skip
        refine b_aload_n dX12_isRest_31 rfl ?_
        refine g_get dX12_isRest_32 fX12_66 a77 rfl ?_
        refine b_bipush (v := nI 49) dX12_isRest_35 (by decide) ?_
        refine b_iload dX12_isRest_37 rfl ?_
        refine b_imulN dX12_isRest_39 ?_
        refine b_iload_n dX12_isRest_40 rfl ?_
        refine b_iaddN dX12_isRest_41 ?_
        refine g_iald dX12_isRest_42 a94 rfl (by omega) ?_
        refine b_top hkj ?_
        refine b_iload_n dX12_isRest_43 rfl ?_
        refine b_icmp_eq 71 dX12_isRest_44 (by decide) (fun c2 => ?_) (fun c2 => ?_)
        · skip
          exact bad (Or.inl ⟨c1, c2⟩)
        · skip
          exact snd (fun z => c2 z.2)
  exact lp (chN L.F L.P) 0 (by omega) (fun k' h => absurd h (by omega))

