/-! ===== the reference: land, where the facts hold, the copy ===== -/
theorem m_landC {G : GT} {d : Nat} {μ : SL} {Post : Option Value → HT → Prop} {x : Int32} {s1 : ST} {z2 z3 : Option Value} (hP : ∀ s : ST, (∀ c, c ≠ 78 → s c = s1 c) → (∀ q, q < 198 → s 78 q = s1 81 q) → (∀ q, 198 ≤ q → s 78 q = s1 78 q) → Post (some (.int (s1 81 0))) (sh G s μ)) : BB G RX12 cX12_land 4 (some .int) d (QM G (Post)) 335 [some (.ref (G.b0 + 77)), some (.int x), z2, z3] [] (sh G s1 μ) := by
  refine b_iconst (v := nI 0) dX12_land_335 (by decide) ?_
  refine b_istore_n dX12_land_336 (by decide) rfl ?_
  have lp : ∀ (m k : Nat) (s : ST), k + m = 198 → (∀ c, c ≠ 78 → s c = s1 c) → (∀ q, q < k → s 78 q = s1 81 q) → (∀ q, k ≤ q → s 78 q = s1 78 q) → BB G RX12 cX12_land 4 (some .int) d (QM G (Post)) 337 [some (.ref (G.b0 + 77)), some (.int x), some (.int (nI k)), z3] [] (sh G s μ) := by
    intro m
    induction m with
    | zero =>
      intro k s hk h1 h2 h3
      have ek : k = 198 := by omega
      subst ek
      refine b_iload_n dX12_land_337 rfl ?_
      refine b_sipush (v := nI 198) dX12_land_338 (by decide) ?_
      refine b_icmp_ge_t 362 dX12_land_341 (by decide) (by decide) ?_
      refine b_aload_n dX12_land_362 rfl ?_
      refine g_get dX12_land_363 fX12_13 a77 rfl ?_
      refine b_iconst (v := nI 0) dX12_land_366 (by decide) ?_
      refine g_iald dX12_land_367 a78 rfl (by omega) ?_
      refine b_iret dX12_land_368 ?_
      have e := hP s h1 h2 h3
      rw [← h2 0 (by omega)] at e
      exact e
    | succ m ih =>
      intro k s hk h1 h2 h3
      refine b_iload_n dX12_land_337 rfl ?_
      refine b_sipush (v := nI 198) dX12_land_338 (by decide) ?_
      refine b_icmp_ge_f 362 dX12_land_341 (by decide) (nI_ge (by omega) (by omega)) ?_
      refine b_aload_n dX12_land_344 rfl ?_
      refine g_get dX12_land_345 fX12_13 a77 rfl ?_
      refine b_iload_n dX12_land_348 rfl ?_
      refine b_aload_n dX12_land_349 rfl ?_
      refine g_get dX12_land_350 fX12_24 a77 rfl ?_
      refine b_iload_n dX12_land_353 rfl ?_
      refine g_iald dX12_land_354 a81 rfl (by omega) ?_
      refine g_iast dX12_land_355 a78 rfl (by omega) ?_
      refine b_iinc dX12_land_356 rfl (nI_1 _) (by decide) rfl ?_
      refine b_goto 337 dX12_land_359 (by decide) ?_
      refine ih (k + 1) _ (by omega) (fun c hc => by rw [pt_r hc]; exact h1 c hc) (fun q hq => ?_) (fun q hq => by rw [pt_j (by omega)]; exact h3 q (by omega))
      by_cases e : q = k
      · subst e
        rw [pt_s, h1 81 (by omega)]
      · rw [pt_j e]; exact h2 q (by omega)
  exact lp 198 0 s1 (by omega) (fun _ _ => rfl) (fun q hq => absurd hq (by omega)) (fun _ _ => rfl)
/-- the state while the facts are laid down -/
def HI (Q : FS × LB) (s0 s : ST) (f : Nat) : Prop := (∀ c, c ≠ 81 → c ≠ 85 → s c = s0 c) ∧ (∀ q, q < 105 ∨ 105 + f ≤ q → s 81 q = s0 81 q) ∧ ∀ g, g < f → s 81 (105 + g) = xHold Q g
def HJ (Q : FS × LB) (s0 s : ST) (f w : Nat) : Prop := (∀ c, c ≠ 81 → c ≠ 85 → s c = s0 c) ∧ (∀ q, q < 105 ∨ 105 + f < q → s 81 q = s0 81 q) ∧ (∀ g, g < f → s 81 (105 + g) = xHold Q g) ∧ s 81 (105 + f) = hdF Q.2.1 Q.1.2.2.2 (fst0 Q.2.2.2 f) (Q.2.2.2 f) w
set_option maxHeartbeats 1000000 in
theorem m_landH {G : GT} {d : Nat} {μ : SL} {Post : Option Value → HT → Prop} {x : Int32} {s0 : ST} {Q : FS × LB} {z2 z3 : Option Value} (hL : LM s0 Q.2) (hcs : ∀ j c, Q.1.2.2.2[j]? = some c → s0 82 j = nI c) (hlen : Q.1.2.2.2.length ≤ 900) (hF : FeOk Q.1.2.2.2 Q.2.2.2 Q.2.1.F) (hP : ∀ (s : ST) (z2 z3 : Option Value), HI Q s0 s Q.2.1.F → BB G RX12 cX12_land 4 (some .int) (d + 2) (QM G (Post)) 335 [some (.ref (G.b0 + 77)), some (.int x), z2, z3] [] (sh G s μ)) : BB G RX12 cX12_land 4 (some .int) (d + 2) (QM G (Post)) 271 [some (.ref (G.b0 + 77)), some (.int x), z2, z3] [] (sh G s0 μ) := by
  obtain ⟨⟨g0, g1, g2, g3, g4⟩, ⟨b1, b2, b3⟩, w, tl, rd, hi, fe, z⟩ := id hL
  refine b_iconst (v := nI 0) dX12_land_271 (by decide) ?_
  refine b_istore_n dX12_land_272 (by decide) rfl ?_
  have lp : ∀ (m f : Nat) (s : ST) (z3 : Option Value), f + m = Q.2.1.F → HI Q s0 s f → BB G RX12 cX12_land 4 (some .int) (d + 2) (QM G (Post)) 273 [some (.ref (G.b0 + 77)), some (.int x), some (.int (nI f)), z3] [] (sh G s μ) := by
    intro m
    induction m with
    | zero =>
      intro f s z3 hf hI
      have ef : f = Q.2.1.F := by omega
      refine b_iload_n dX12_land_273 rfl ?_
      refine b_aload_n dX12_land_274 rfl ?_
      refine g_get dX12_land_275 fX12_24 a77 rfl ?_
      refine b_iconst (v := nI 2) dX12_land_278 (by decide) ?_
      refine g_iald dX12_land_279 a81 rfl (by omega) ?_
      refine b_top (show s 81 2 = nI Q.2.1.F by rw [hI.2.1 2 (by omega)]; exact g2) ?_
      refine b_icmp_ge_t 335 dX12_land_280 (by decide) (nI_le (by omega) (by omega)) ?_
      exact hP s _ _ (by rw [← ef]; exact hI)
    | succ m ih =>
      intro f s z3 hf hI
      obtain ⟨f1, f2, f3⟩ := hF.2 f (by omega)
      obtain ⟨fa, fb⟩ := fe f (by omega)
      refine b_iload_n dX12_land_273 rfl ?_
      refine b_aload_n dX12_land_274 rfl ?_
      refine g_get dX12_land_275 fX12_24 a77 rfl ?_
      refine b_iconst (v := nI 2) dX12_land_278 (by decide) ?_
      refine g_iald dX12_land_279 a81 rfl (by omega) ?_
      refine b_top (show s 81 2 = nI Q.2.1.F by rw [hI.2.1 2 (by omega)]; exact g2) ?_
      refine b_icmp_ge_f 335 dX12_land_280 (by decide) (nI_ge (by omega) (by omega)) ?_
      refine b_iconst (v := nI 0) dX12_land_283 (by decide) ?_
      refine b_istore_n dX12_land_284 (by decide) rfl ?_
      have lp2 : ∀ (n v : Nat) (s : ST), v + n = Q.2.1.W → HJ Q s0 s f v → BB G RX12 cX12_land 4 (some .int) (d + 2) (QM G (Post)) 285 [some (.ref (G.b0 + 77)), some (.int x), some (.int (nI f)), some (.int (nI v))] [] (sh G s μ) := by
        intro n
        induction n with
        | zero =>
          intro v s hv hJ
          have ev : v = Q.2.1.W := by omega
          refine b_iload_n dX12_land_285 rfl ?_
          refine b_aload_n dX12_land_286 rfl ?_
          refine g_get dX12_land_287 fX12_24 a77 rfl ?_
          refine b_iconst (v := nI 1) dX12_land_290 (by decide) ?_
          refine g_iald dX12_land_291 a81 rfl (by omega) ?_
          refine b_top (show s 81 1 = nI Q.2.1.W by rw [hJ.2.1 1 (by omega)]; exact g1) ?_
          refine b_icmp_ge_t 329 dX12_land_292 (by decide) (nI_le (by omega) (by omega)) ?_
          refine b_iinc dX12_land_329 rfl (nI_1 _) (by decide) rfl ?_
          refine b_goto 273 dX12_land_332 (by decide) ?_
          refine ih (f + 1) s _ (by omega) ⟨hJ.1, fun q hq => hJ.2.1 q (by omega), fun g hg => ?_⟩
          by_cases e : g = f
          · subst e
            rw [hJ.2.2.2, ev]; rfl
          · exact hJ.2.2.1 g (by omega)
        | succ n ih2 =>
          intro v s hv hJ
          obtain ⟨j1, j2, j3, j4⟩ := hJ
          have hW : LW s Q.2 := LW_of hL.w (fun q hq => j2 q (by omega))
          have hcl : (csF Q.1.2.2.2 (fst0 Q.2.2.2 f) (Q.2.2.2 f)).length = Q.2.2.2 f - fst0 Q.2.2.2 f := csF_len f1 f2
          have hH := m_holdsIn (G := G) (d := d) (μ := μ) (σ := s) (f := f) (w := v) (a := fst0 Q.2.2.2 f) (cs := csF Q.1.2.2.2 (fst0 Q.2.2.2 f) (Q.2.2.2 f)) hW (by omega) (by omega) (by rw [j1 83 (by omega) (by omega)]; exact fa) (by rw [j1 84 (by omega) (by omega), hcl]; exact fb) (by rw [hcl]; omega) (fun j c hj => by rw [j1 82 (by omega) (by omega)]; exact hcs _ c (csF_get hj)) (fun c hc => hF.1 c (List.mem_of_mem_drop (List.mem_of_mem_take hc))) f3
          refine b_iload_n dX12_land_285 rfl ?_
          refine b_aload_n dX12_land_286 rfl ?_
          refine g_get dX12_land_287 fX12_24 a77 rfl ?_
          refine b_iconst (v := nI 1) dX12_land_290 (by decide) ?_
          refine g_iald dX12_land_291 a81 rfl (by omega) ?_
          refine b_top (show s 81 1 = nI Q.2.1.W by rw [j2 1 (by omega)]; exact g1) ?_
          refine b_icmp_ge_f 329 dX12_land_292 (by decide) (nI_ge (by omega) (by omega)) ?_
          refine b_aload_n dX12_land_295 rfl ?_
          refine g_get dX12_land_296 fX12_24 a77 rfl ?_
          refine b_bipush (v := nI 105) dX12_land_299 (by decide) ?_
          refine b_iload_n dX12_land_301 rfl ?_
          refine b_iaddN dX12_land_302 ?_
          refine b_dup2 dX12_land_303 rfl rfl ?_
          refine g_iald dX12_land_304 a81 rfl (by omega) ?_
          refine b_top j4 ?_
          refine b_aload_n dX12_land_305 rfl ?_
          refine b_iload_n dX12_land_306 rfl ?_
          refine b_iload_n dX12_land_307 rfl ?_
          refine g_callVp [.int (nI f), .int (nI v)] dX12_land_308 kX12_holdsIn lX12_218 a77 rfl rfl hH rfl rfl (Nat.le_of_ble_eq_true rfl) ?_
          rintro r h9 ⟨rfl, s2, rfl, hs2⟩
          have st : ∀ y, y = hdF Q.2.1 Q.1.2.2.2 (fst0 Q.2.2.2 f) (Q.2.2.2 f) (v + 1) → HJ Q s0 (pt s2 81 (105 + f) y) f (v + 1) := fun y hy => by
            refine ⟨fun c a b => by rw [pt_r a, hs2 c b]; exact j1 c a b, fun q hq => by rw [pt_j (by omega), hs2 81 (by omega)]; exact j2 q hq, fun g hg => by rw [pt_j (by omega), hs2 81 (by omega)]; exact j3 g hg, by rw [pt_s]; exact hy⟩
          refine b_if_eq 320 dX12_land_311 (by decide) (fun c1 => ?_) (fun c1 => ?_)
          · skip
            have c2 := of_decide_eq_false ((bI_0 _).mp c1)
            refine b_iconst (v := nI 0) dX12_land_320 (by decide) ?_
            refine b_ior dX12_land_321 ?_
            refine g_iast dX12_land_322 a81 rfl (by omega) ?_
            refine b_iinc dX12_land_323 rfl (nI_1 _) (by decide) rfl ?_
            refine b_goto 285 dX12_land_326 (by decide) ?_
            exact ih2 (v + 1) _ (by omega) (st _ (by rw [hdF, if_neg c2, or_0]))
          · skip
            have c2 := of_decide_eq_true ((bI_1 _).mp c1)
            refine b_iconst (v := nI 1) dX12_land_314 (by decide) ?_
            refine b_iload_n dX12_land_315 rfl ?_
            refine b_ishl dX12_land_316 ?_
            refine b_goto 321 dX12_land_317 (by decide) ?_
            refine b_ior dX12_land_321 ?_
            refine g_iast dX12_land_322 a81 rfl (by omega) ?_
            refine b_iinc dX12_land_323 rfl (nI_1 _) (by decide) rfl ?_
            refine b_goto 285 dX12_land_326 (by decide) ?_
            exact ih2 (v + 1) _ (by omega) (st _ (by rw [hdF, if_pos c2]))
      refine lp2 Q.2.1.W 0 s (by omega) ⟨hI.1, fun q hq => hI.2.1 q (by omega), hI.2.2, ?_⟩
      rw [hI.2.1 (105 + f) (by omega), z (105 + f) (by omega) (by omega)]; rfl
  exact lp Q.2.1.F 0 s0 _ (by omega) ⟨fun _ _ _ => rfl, fun _ _ => rfl, fun g hg => absurd hg (by omega)⟩

