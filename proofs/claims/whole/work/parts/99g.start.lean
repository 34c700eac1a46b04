/-! ===== both sides as they are made ===== -/
def s0 : ST := fun a => match a with
  | 2 => upd zf 5 (-1)
  | 49 => upd zf 1 (-1)
  | 51 => upd zf 1 (-1)
  | 53 => upd zf 1 (-1)
  | 55 => upd zf 1 (-1)
  | 77 => upd zf 17 (-1)
  | 96 => upd (upd (upd (upd zf 0 (-1)) 1 (-1)) 2 (-1)) 3 (-1)
  | _ => zf
def m0 : SL := fun _ => zl
theorem up4 {b : Nat} : va_up (va_up (va_up (va_up (fun _ => none) 0 (some (b + 49))) 1 (some (b + 51))) 2 (some (b + 53))) 3 (some (b + 55)) = fun i => (([49, 51, 53, 55] : List Nat)[i]?).map (fun x => b + x) := by
  funext i
  match i with
  | 0 => rfl
  | 1 => rfl
  | 2 => rfl
  | 3 => rfl
  | n + 4 => simp [va_up]
theorem up2 {b : Nat} : va_up (va_up (fun _ => none) 0 (some (b + 57))) 1 (some (b + 67)) = fun i => (([57, 67] : List Nat)[i]?).map (fun x => b + x) := by
  funext i
  match i with
  | 0 => rfl
  | 1 => rfl
  | n + 2 => simp [va_up]
theorem q_2 {G : GT} : bl5 G 2 = [sh G s0 m0 2, sh G s0 m0 3, sh G s0 m0 4, sh G s0 m0 5, sh G s0 m0 6, sh G s0 m0 7, sh G s0 m0 8, sh G s0 m0 9, sh G s0 m0 10, sh G s0 m0 11, sh G s0 m0 12, sh G s0 m0 13, sh G s0 m0 14, sh G s0 m0 15, sh G s0 m0 16, sh G s0 m0 17, sh G s0 m0 18, sh G s0 m0 19] := rfl
theorem q_20 {G : GT} : bl2 G 20 = [sh G s0 m0 20, sh G s0 m0 21, sh G s0 m0 22, sh G s0 m0 23, sh G s0 m0 24, sh G s0 m0 25] := rfl
theorem q_26 {G : GT} : bl8 G 26 = [sh G s0 m0 26, sh G s0 m0 27, sh G s0 m0 28] := rfl
theorem q_29 {G : GT} : bl8 G 29 = [sh G s0 m0 29, sh G s0 m0 30, sh G s0 m0 31] := rfl
theorem q_32 {G : GT} : bl4 G 32 = [sh G s0 m0 32, sh G s0 m0 33] := rfl
theorem q_34 {G : GT} : bl7 G 34 = [sh G s0 m0 34, sh G s0 m0 35, sh G s0 m0 36, sh G s0 m0 37, sh G s0 m0 38, sh G s0 m0 39] := rfl
theorem q_40 {G : GT} : bl3 G 40 = [sh G s0 m0 40, sh G s0 m0 41, sh G s0 m0 42, sh G s0 m0 43, sh G s0 m0 44] := rfl
theorem q_45 {G : GT} : bl10 G 45 = [sh G s0 m0 45, sh G s0 m0 46] := rfl
theorem q_49 {G : GT} : bl6 G 49 = [sh G s0 m0 49, sh G s0 m0 50] := rfl
theorem q_51 {G : GT} : bl6 G 51 = [sh G s0 m0 51, sh G s0 m0 52] := rfl
theorem q_53 {G : GT} : bl6 G 53 = [sh G s0 m0 53, sh G s0 m0 54] := rfl
theorem q_55 {G : GT} : bl6 G 55 = [sh G s0 m0 55, sh G s0 m0 56] := rfl
theorem q_57 {G : GT} : bl1 G 57 = [sh G s0 m0 57, sh G s0 m0 58, sh G s0 m0 59, sh G s0 m0 60, sh G s0 m0 61, sh G s0 m0 62, sh G s0 m0 63, sh G s0 m0 64, sh G s0 m0 65, sh G s0 m0 66] := rfl
theorem q_67 {G : GT} : bl1 G 67 = [sh G s0 m0 67, sh G s0 m0 68, sh G s0 m0 69, sh G s0 m0 70, sh G s0 m0 71, sh G s0 m0 72, sh G s0 m0 73, sh G s0 m0 74, sh G s0 m0 75, sh G s0 m0 76] := rfl
theorem q_77 {G : GT} : bl12 G 77 = [sh G s0 m0 77, sh G s0 m0 78, sh G s0 m0 79, sh G s0 m0 80, sh G s0 m0 81, sh G s0 m0 82, sh G s0 m0 83, sh G s0 m0 84, sh G s0 m0 85, sh G s0 m0 86, sh G s0 m0 87, sh G s0 m0 88, sh G s0 m0 89, sh G s0 m0 90, sh G s0 m0 91, sh G s0 m0 92, sh G s0 m0 93, sh G s0 m0 94, sh G s0 m0 95, sh G s0 m0 96, sh G s0 m0 97, sh G s0 m0 98] := rfl
set_option maxRecDepth 100000 in
theorem w0_eq {G : GT} : bl11 G ++ bl12 G 77 = [sh G s0 m0 0, sh G s0 m0 1, sh G s0 m0 2, sh G s0 m0 3, sh G s0 m0 4, sh G s0 m0 5, sh G s0 m0 6, sh G s0 m0 7, sh G s0 m0 8, sh G s0 m0 9, sh G s0 m0 10, sh G s0 m0 11, sh G s0 m0 12, sh G s0 m0 13, sh G s0 m0 14, sh G s0 m0 15, sh G s0 m0 16, sh G s0 m0 17, sh G s0 m0 18, sh G s0 m0 19, sh G s0 m0 20, sh G s0 m0 21, sh G s0 m0 22, sh G s0 m0 23, sh G s0 m0 24, sh G s0 m0 25, sh G s0 m0 26, sh G s0 m0 27, sh G s0 m0 28, sh G s0 m0 29, sh G s0 m0 30, sh G s0 m0 31, sh G s0 m0 32, sh G s0 m0 33, sh G s0 m0 34, sh G s0 m0 35, sh G s0 m0 36, sh G s0 m0 37, sh G s0 m0 38, sh G s0 m0 39, sh G s0 m0 40, sh G s0 m0 41, sh G s0 m0 42, sh G s0 m0 43, sh G s0 m0 44, sh G s0 m0 45, sh G s0 m0 46, sh G s0 m0 47, sh G s0 m0 48, sh G s0 m0 49, sh G s0 m0 50, sh G s0 m0 51, sh G s0 m0 52, sh G s0 m0 53, sh G s0 m0 54, sh G s0 m0 55, sh G s0 m0 56, sh G s0 m0 57, sh G s0 m0 58, sh G s0 m0 59, sh G s0 m0 60, sh G s0 m0 61, sh G s0 m0 62, sh G s0 m0 63, sh G s0 m0 64, sh G s0 m0 65, sh G s0 m0 66, sh G s0 m0 67, sh G s0 m0 68, sh G s0 m0 69, sh G s0 m0 70, sh G s0 m0 71, sh G s0 m0 72, sh G s0 m0 73, sh G s0 m0 74, sh G s0 m0 75, sh G s0 m0 76, sh G s0 m0 77, sh G s0 m0 78, sh G s0 m0 79, sh G s0 m0 80, sh G s0 m0 81, sh G s0 m0 82, sh G s0 m0 83, sh G s0 m0 84, sh G s0 m0 85, sh G s0 m0 86, sh G s0 m0 87, sh G s0 m0 88, sh G s0 m0 89, sh G s0 m0 90, sh G s0 m0 91, sh G s0 m0 92, sh G s0 m0 93, sh G s0 m0 94, sh G s0 m0 95, sh G s0 m0 96, sh G s0 m0 97, sh G s0 m0 98] := by
  unfold bl11
  rw [q_2, q_20, q_26, q_29, q_32, q_34, q_40, q_45, q_49, q_51, q_53, q_55, q_57, q_67, q_77, up4, up2]
  simp only [apE, List.cons_append, List.nil_append, List.append_assoc]
  rfl
set_option maxRecDepth 100000 in
theorem w0_at {G : GT} (k : Nat) (hk : k < 99) : (bl11 G ++ bl12 G 77)[k]? = some (sh G s0 m0 k) := by
  have e : [sh G s0 m0 0, sh G s0 m0 1, sh G s0 m0 2, sh G s0 m0 3, sh G s0 m0 4, sh G s0 m0 5, sh G s0 m0 6, sh G s0 m0 7, sh G s0 m0 8, sh G s0 m0 9, sh G s0 m0 10, sh G s0 m0 11, sh G s0 m0 12, sh G s0 m0 13, sh G s0 m0 14, sh G s0 m0 15, sh G s0 m0 16, sh G s0 m0 17, sh G s0 m0 18, sh G s0 m0 19, sh G s0 m0 20, sh G s0 m0 21, sh G s0 m0 22, sh G s0 m0 23, sh G s0 m0 24, sh G s0 m0 25, sh G s0 m0 26, sh G s0 m0 27, sh G s0 m0 28, sh G s0 m0 29, sh G s0 m0 30, sh G s0 m0 31, sh G s0 m0 32, sh G s0 m0 33, sh G s0 m0 34, sh G s0 m0 35, sh G s0 m0 36, sh G s0 m0 37, sh G s0 m0 38, sh G s0 m0 39, sh G s0 m0 40, sh G s0 m0 41, sh G s0 m0 42, sh G s0 m0 43, sh G s0 m0 44, sh G s0 m0 45, sh G s0 m0 46, sh G s0 m0 47, sh G s0 m0 48, sh G s0 m0 49, sh G s0 m0 50, sh G s0 m0 51, sh G s0 m0 52, sh G s0 m0 53, sh G s0 m0 54, sh G s0 m0 55, sh G s0 m0 56, sh G s0 m0 57, sh G s0 m0 58, sh G s0 m0 59, sh G s0 m0 60, sh G s0 m0 61, sh G s0 m0 62, sh G s0 m0 63, sh G s0 m0 64, sh G s0 m0 65, sh G s0 m0 66, sh G s0 m0 67, sh G s0 m0 68, sh G s0 m0 69, sh G s0 m0 70, sh G s0 m0 71, sh G s0 m0 72, sh G s0 m0 73, sh G s0 m0 74, sh G s0 m0 75, sh G s0 m0 76, sh G s0 m0 77, sh G s0 m0 78, sh G s0 m0 79, sh G s0 m0 80, sh G s0 m0 81, sh G s0 m0 82, sh G s0 m0 83, sh G s0 m0 84, sh G s0 m0 85, sh G s0 m0 86, sh G s0 m0 87, sh G s0 m0 88, sh G s0 m0 89, sh G s0 m0 90, sh G s0 m0 91, sh G s0 m0 92, sh G s0 m0 93, sh G s0 m0 94, sh G s0 m0 95, sh G s0 m0 96, sh G s0 m0 97, sh G s0 m0 98] = (List.range 99).map (sh G s0 m0) := rfl
  rw [w0_eq, e]
  simp [hk]
theorem HP_start {G : GT} {H : Heap} (h : HN G (bl11 G ++ bl12 G 77) H) : HP G (sh G s0 m0) H :=
  ⟨h.1, h.2.1, fun k q hk => by
    obtain ⟨hlt, rfl⟩ := wl_lt hk
    exact h.2.2 k _ (wm_at (w0_at k hlt))⟩
theorem lo_z {k : Nat} : lo k 0 := fun i _ _ => b_0 i
theorem n00 : (0 : Int32) = nI 0 := by decide
theorem INV_start : INV s0 m0 0 := by
  refine ⟨0, 0, 0, 0, 0, 0, 0, fun _ => none, n00, ⟨⟨n00, n00, n00, by decide, by decide, by decide⟩, n00, ⟨⟨fun h => absurd h (Nat.lt_irrefl 0), fun _ => rfl, fun w hw => absurd hw (Nat.not_lt_zero _), lo_z, fun p hp => absurd hp (Nat.not_lt_zero _), fun f _ => lo_z, fun p _ => lo_z, by decide, by decide, by decide⟩, fun f hf => absurd hf (Nat.not_lt_zero _)⟩, ⟨⟨rfl, n00, n00, n00, n00⟩, fun p hp => absurd hp (Nat.not_lt_zero _), fun k w _ hw => absurd hw (Nat.not_lt_zero _), fun w hw => absurd hw (Nat.not_lt_zero _), fun w hw => absurd hw (Nat.not_lt_zero _), fun p hp => absurd hp (Nat.not_lt_zero _), fun p hp => absurd hp (Nat.not_lt_zero _), fun p hp => absurd hp (Nat.not_lt_zero _)⟩⟩, ⟨⟨n00, by decide⟩, n00, fun i hi => absurd hi (Nat.not_lt_zero _)⟩, ⟨by decide, n00, n00, fun k _ => ⟨0, by decide, by show (0 : Int32) = sby 0; decide, n00⟩⟩, ⟨rfl, rfl⟩, ⟨fun j hj => ?_, fun j hj => ?_⟩, fun i hi => Or.inl ?_, Nat.le_refl 0, n00, fun so _ => ⟨0, 0, Nat.le_refl 0, by decide, n00⟩⟩
  · match j, hj with
    | 0, _ => exact (show s0 (49 + 2 * 0) 1 = -1 from rfl)
    | 1, _ => exact (show s0 (49 + 2 * 1) 1 = -1 from rfl)
    | 2, _ => exact (show s0 (49 + 2 * 2) 1 = -1 from rfl)
    | 3, _ => exact (show s0 (49 + 2 * 3) 1 = -1 from rfl)
    | n + 4, h9 => exact absurd h9 (by omega)
  · match j, hj with
    | 0, _ => exact (show s0 96 0 = -1 from rfl)
    | 1, _ => exact (show s0 96 1 = -1 from rfl)
    | 2, _ => exact (show s0 96 2 = -1 from rfl)
    | 3, _ => exact (show s0 96 3 = -1 from rfl)
    | n + 4, h9 => exact absurd h9 (by omega)
  · match i, hi with
    | 0, _ => exact ⟨n00, n00⟩
    | 1, _ => exact ⟨n00, n00⟩
    | n + 2, h9 => exact absurd h9 (by omega)
