/-! ===== both sides as they are made ===== -/
def s0 : ST := fun a => match a with
  | 2 => upd zf 5 (-1)
  | 49 => upd zf 1 (-1)
  | 51 => upd zf 1 (-1)
  | 53 => upd zf 1 (-1)
  | 55 => upd zf 1 (-1)
  | 77 => upd zf 17 (-1)
  | 96 => upd (upd (upd (upd zf 0 (-1)) 1 (-1)) 2 (-1)) 3 (-1)
  | _ => zf
def m0 : SL := fun _ => zl
theorem up4 {b : Nat} : va_up (va_up (va_up (va_up (fun _ => none) 0 (some (b + 49))) 1 (some (b + 51))) 2 (some (b + 53))) 3 (some (b + 55)) = fun i => (([49, 51, 53, 55] : List Nat)[i]?).map (fun x => b + x) := by
  funext i
  match i with
  | 0 => rfl
  | 1 => rfl
  | 2 => rfl
  | 3 => rfl
  | n + 4 => simp [va_up]
theorem up2 {b : Nat} : va_up (va_up (fun _ => none) 0 (some (b + 57))) 1 (some (b + 67)) = fun i => (([57, 67] : List Nat)[i]?).map (fun x => b + x) := by
  funext i
  match i with
  | 0 => rfl
  | 1 => rfl
  | n + 2 => simp [va_up]
theorem w0_at {G : GT} : ∀ k : Nat, k < 99 → (bl11 G ++ bl12 G 77)[k]? = some (sh G s0 m0 k) := fun k hk => match k, hk with
  | 0, _ => rfl
  | 1, _ => rfl
  | 2, _ => rfl
  | 3, _ => rfl
  | 4, _ => rfl
  | 5, _ => rfl
  | 6, _ => rfl
  | 7, _ => rfl
  | 8, _ => rfl
  | 9, _ => rfl
  | 10, _ => rfl
  | 11, _ => rfl
  | 12, _ => rfl
  | 13, _ => rfl
  | 14, _ => rfl
  | 15, _ => rfl
  | 16, _ => rfl
  | 17, _ => rfl
  | 18, _ => rfl
  | 19, _ => rfl
  | 20, _ => rfl
  | 21, _ => rfl
  | 22, _ => rfl
  | 23, _ => rfl
  | 24, _ => rfl
  | 25, _ => rfl
  | 26, _ => rfl
  | 27, _ => rfl
  | 28, _ => rfl
  | 29, _ => rfl
  | 30, _ => rfl
  | 31, _ => rfl
  | 32, _ => rfl
  | 33, _ => rfl
  | 34, _ => rfl
  | 35, _ => rfl
  | 36, _ => rfl
  | 37, _ => rfl
  | 38, _ => rfl
  | 39, _ => rfl
  | 40, _ => rfl
  | 41, _ => rfl
  | 42, _ => rfl
  | 43, _ => rfl
  | 44, _ => rfl
  | 45, _ => rfl
  | 46, _ => rfl
  | 47, _ => by
    show _ = some (Sum.inl (G.ci 4, 4, Sum.inr (Sum.inr (Sum.inr (Sum.inr (fun i => (([49, 51, 53, 55] : List Nat)[i]?).map (fun x => G.b0 + x)))))) : va_E)
    rw [← up4]
    rfl
  | 48, _ => by
    show _ = some (Sum.inl (G.ci 5, 2, Sum.inr (Sum.inr (Sum.inr (Sum.inr (fun i => (([57, 67] : List Nat)[i]?).map (fun x => G.b0 + x)))))) : va_E)
    rw [← up2]
    rfl
  | 49, _ => rfl
  | 50, _ => rfl
  | 51, _ => rfl
  | 52, _ => rfl
  | 53, _ => rfl
  | 54, _ => rfl
  | 55, _ => rfl
  | 56, _ => rfl
  | 57, _ => rfl
  | 58, _ => rfl
  | 59, _ => rfl
  | 60, _ => rfl
  | 61, _ => rfl
  | 62, _ => rfl
  | 63, _ => rfl
  | 64, _ => rfl
  | 65, _ => rfl
  | 66, _ => rfl
  | 67, _ => rfl
  | 68, _ => rfl
  | 69, _ => rfl
  | 70, _ => rfl
  | 71, _ => rfl
  | 72, _ => rfl
  | 73, _ => rfl
  | 74, _ => rfl
  | 75, _ => rfl
  | 76, _ => rfl
  | 77, _ => rfl
  | 78, _ => rfl
  | 79, _ => rfl
  | 80, _ => rfl
  | 81, _ => rfl
  | 82, _ => rfl
  | 83, _ => rfl
  | 84, _ => rfl
  | 85, _ => rfl
  | 86, _ => rfl
  | 87, _ => rfl
  | 88, _ => rfl
  | 89, _ => rfl
  | 90, _ => rfl
  | 91, _ => rfl
  | 92, _ => rfl
  | 93, _ => rfl
  | 94, _ => rfl
  | 95, _ => rfl
  | 96, _ => rfl
  | 97, _ => rfl
  | 98, _ => rfl
  | n + 99, h9 => absurd h9 (by omega)
theorem HP_start {G : GT} {H : Heap} (h : HN G (bl11 G ++ bl12 G 77) H) : HP G (sh G s0 m0) H :=
  ⟨h.1, h.2.1, fun k q hk => by
    obtain ⟨hlt, rfl⟩ := wl_lt hk
    exact h.2.2 k _ (wm_at (w0_at k hlt))⟩
theorem lo_z {k : Nat} : lo k 0 := fun i _ _ => b_0 i
theorem n00 : (0 : Int32) = nI 0 := by decide
theorem INV_start : INV s0 m0 0 := by
  refine ⟨0, 0, 0, 0, 0, 0, 0, fun _ => none, n00, ⟨⟨n00, n00, n00, by decide, by decide, by decide⟩, n00, ⟨⟨fun h => absurd h (Nat.lt_irrefl 0), fun _ => rfl, fun w hw => absurd hw (Nat.not_lt_zero _), lo_z, fun p hp => absurd hp (Nat.not_lt_zero _), fun f _ => lo_z, fun p _ => lo_z, by decide, by decide, by decide⟩, fun f hf => absurd hf (Nat.not_lt_zero _)⟩, ⟨⟨rfl, n00, n00, n00, n00⟩, fun p hp => absurd hp (Nat.not_lt_zero _), fun k w _ hw => absurd hw (Nat.not_lt_zero _), fun w hw => absurd hw (Nat.not_lt_zero _), fun w hw => absurd hw (Nat.not_lt_zero _), fun p hp => absurd hp (Nat.not_lt_zero _), fun p hp => absurd hp (Nat.not_lt_zero _), fun p hp => absurd hp (Nat.not_lt_zero _)⟩⟩, ⟨⟨n00, by decide⟩, n00, fun i hi => absurd hi (Nat.not_lt_zero _)⟩, ⟨by decide, n00, n00, fun k _ => ⟨0, by decide, by show (0 : Int32) = sby 0; decide, n00⟩⟩, ⟨rfl, rfl⟩, ⟨fun j hj => ?_, fun j hj => ?_⟩, fun i hi => Or.inl ?_, Nat.le_refl 0, n00, fun so _ => ⟨0, 0, Nat.le_refl 0, by decide, n00⟩⟩
  · match j, hj with
    | 0, _ => exact (show s0 (49 + 2 * 0) 1 = -1 from rfl)
    | 1, _ => exact (show s0 (49 + 2 * 1) 1 = -1 from rfl)
    | 2, _ => exact (show s0 (49 + 2 * 2) 1 = -1 from rfl)
    | 3, _ => exact (show s0 (49 + 2 * 3) 1 = -1 from rfl)
    | n + 4, h9 => exact absurd h9 (by omega)
  · match j, hj with
    | 0, _ => exact (show s0 96 0 = -1 from rfl)
    | 1, _ => exact (show s0 96 1 = -1 from rfl)
    | 2, _ => exact (show s0 96 2 = -1 from rfl)
    | 3, _ => exact (show s0 96 3 = -1 from rfl)
    | n + 4, h9 => exact absurd h9 (by omega)
  · match i, hi with
    | 0, _ => exact ⟨n00, n00⟩
    | 1, _ => exact ⟨n00, n00⟩
    | n + 2, h9 => exact absurd h9 (by omega)
