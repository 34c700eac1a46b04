/-! THE CLAIM OUT OF ONE WALK OF THE LAW'S BODY. Your part is whole_start (and what it stands on); all else here is the same for every law, but numbers. -/
def R_law : String := "KnowsLeastLaw"
def lw_P (b : Addr) (xs : List Int32) (args : Array Value) (s : State) : Prop := args = #[.ref b] ∧ s.IntsAt b xs ∧ xs.length ≤ 3072 ∧ (Jvm.Cond.and given_1 narrow_1).before args s = true
def lw_Q (_ : Array Value) (s : State) (o : Outcome) (t : State) : Prop := o = .returned (some (.int 1)) ∧ Framed s o t [] 600000 7302250
def lw_Z (below : List Frame) (a : Array Value) (s : State) : State → Prop := fun t => ∃ o, t.status = .running ∧ Ended t below o ∧ lw_Q a s o t
/-- the law's own end, with 1 on the stack, nothing written that was there before, its room as the claim has it -/
theorem lw_ret {p : Program} {l : Launch} {e : Env} {s : State} {m : MethodId} {below : List Frame} {meth : Method} {c : Code} {b : Nat} (hx : p.tables.exec = Jvm.exec) (hb : c.code = code) (hr : meth.sig.returnType = ret) (hlocks : meth.locks = false) {pc : Nat} {H : Heap} {ls : Array Slot} (hdg : decode code pc = .ok (.ireturn, 1)) : W p l e room_1 s m #[Value.ref b] below meth c H [] 600000 7302250 (lw_Z below #[Value.ref b] s) (F0 m pc ls [.int 1]) := by
  intro T hT X
  obtain ⟨fs, hret, hrun, hended, hW, hframe⟩ := X.leave (v := some (.int 1)) (hlocks := hlocks) (fun h => by rw [hr] at h; cases h)
  have hmeth' : T.vm.method? m = some meth := X.method'
  refine ⟨T.setFrames fs, ?_, .returned (some (.int 1)), hrun, hended, rfl, ⟨_, rfl⟩, hW, hframe⟩
  jvm_step X.here [X.here.top, hx, hb, hdg, hmeth', hr, ret, narrow_b1]
  (try refine ⟨rfl, ?_⟩); (try refine ⟨rfl, ?_⟩)
  first | (intro acts; rw [hret _ acts rfl rfl rfl]) | rw [hret _ _ rfl rfl rfl]
  exact Steps.refl _
/-- what holds at the law's entry: the machine, the code, the tables' words (any of lw_tbl by 'hts w (by decide +kernel)'), the script of L ints xs at the cell b, what the Statement gives of the start (any of its parts by flat_of_before) -/
def lw_At (p : Program) (s : State) (m : MethodId) (meth : Method) (c : Code) (b L : Nat) (xs : Nat → Int32) : Prop :=
  p.tables.exec = Jvm.exec ∧ c.code = code ∧ meth.sig.returnType = ret ∧ c.maxLocals = 4 ∧ s.vm.findClass R_law = some m.cls ∧ (∀ w ∈ lw_tbl, w.before #[Value.ref b] s = true) ∧ va_X b L xs s s.heap ∧ b < s.heap.size ∧ meth.locks = false ∧ (Jvm.Cond.and given_1 narrow_1).before #[Value.ref b] s = true
/-! ===== the law's body: points in it ===== -/
/-- what holds of the law's own start -/
def Gd (G : GT) (b L : Nat) (xs : Nat → Int32) (R : Room) (s : State) (args : Array Value) : Prop := R = room_1 ∧ args = #[.ref b] ∧ s.heap.size = G.b0 ∧ va_X b L xs s s.heap ∧ b < G.b0
def QL (G : GT) (b L : Nat) (xs : Nat → Int32) : QT := fun _ _ R s _ args below _ _ _ _ => fun t => Gd G b L xs R s args → lw_Z below args s t
def BL (G : GT) (b L : Nat) (xs : Nat → Int32) (d pc : Nat) (ls : LT) (st : List Value) (h : HT) : Prop := BB G RL cL_law 4 ret d (QL G b L xs) pc ls st h
section Law
variable {G : GT} {b L : Nat} {xs : Nat → Int32} {d pc : Nat} {ls : LT} {st : List Value} {h : HT}
theorem l_in (k : ∀ (p : Program) (e : Env) (R : Room) (s : State) (m : MethodId) (args : Array Value) (below : List Frame) (meth : Method) (c : Code) (cells slots : Nat), EnvOk G RL cL_law 4 ret d p R s m args meth c cells slots → Gd G b L xs R s args → ∀ (H : Heap) (locs : List Loc) (lsA : Array Slot), HP G h H → va_S (GA G) s.heap H locs → LH lsA 4 ls → W p G.l e R s m args below meth c H locs cells slots (QL G b L xs p e R s m args below meth c cells slots) (F0 m pc lsA st)) : BL G b L xs d pc ls st h := by
  intro p e R s m args below meth c cells slots E H locs lsA hH hS hl
  by_cases hg : Gd G b L xs R s args
  · exact k p e R s m args below meth c cells slots E hg H locs lsA hH hS hl
  · intro T hT X
    exact ⟨_, Steps.refl _, fun h => absurd h hg⟩
theorem l_sld {i : Int32} {j : Nat} (hd : decode cL_law pc = .ok (.iaload, 1)) (hi : i = nI j) (hj : j < L) (hL : L < 2 ^ 31) (k : BL G b L xs d (pc + 1) ls (.int (xs j) :: st) h) : BL G b L xs d pc ls (.int i :: .ref b :: st) h := by
  subst hi
  have hin : vp_in (nI j) L := vp_in_nI hj hL
  have k' : BL G b L xs d (pc + 1) ls (.int (xs (nI j).toNatClampNeg) :: st) h := by
    rw [nI_clamp (Nat.lt_trans hj hL)]
    exact k
  refine l_in fun p e R s m args below meth c cells slots E hg H locs lsA hH hS hl => ?_
  exact va_sld (H0 := s.heap) E.1 E.2.1 hg.2.2.2.1 (by rw [hg.2.2.1]; exact hg.2.2.2.2) (Nat.not_le.mpr hg.2.2.2.2) hS hin hd (k' p e R s m args below meth c cells slots E H locs lsA hH hS hl)
theorem l_len (hd : decode cL_law pc = .ok (.arraylength, 1)) (k : BL G b L xs d (pc + 1) ls (.int (nI L) :: st) h) : BL G b L xs d pc ls (.ref b :: st) h := by
  refine l_in fun p e R s m args below meth c cells slots E hg H locs lsA hH hS hl => ?_
  exact va_slen (H0 := s.heap) E.1 E.2.1 hg.2.2.2.1 (by rw [hg.2.2.1]; exact hg.2.2.2.2) (Nat.not_le.mpr hg.2.2.2.2) hS hd (k p e R s m args below meth c cells slots E H locs lsA hH hS hl)
theorem l_end (hd : decode cL_law pc = .ok (.ireturn, 1)) : BL G b L xs d pc ls [.int 1] h := by
  refine l_in fun p e R s m args below meth c cells slots E hg H locs lsA hH hS hl => ?_
  obtain ⟨rfl, rfl, hsz, hX, hb⟩ := hg
  intro T hT X
  have hC := E.2.2.2.2.2.2.2.2.2.2
  have hw : W p G.l e room_1 s m #[Value.ref b] below meth c H locs cells slots (lw_Z below #[Value.ref b] s) (F0 m pc lsA [.int 1]) := va_forget (fun q hq => by rw [hsz]; exact hS.2.2 q hq) (W.widen hC.1 hC.2 (lw_ret E.1 E.2.1 E.2.2.2.1 E.2.2.2.2.1 hd))
  obtain ⟨t, a1, b1⟩ := hw T hT X
  exact ⟨t, a1, fun _ => b1⟩
/-- the law's locals before call number N -/
abbrev lN0 (G : GT) (b N : Nat) : LT := [some (.ref b), some (.ref (G.b0 + 0)), some (.ref (G.b0 + 77)), some (.int (nI (6 * N)))]
/-- an argument: the script's element j of this call -/
theorem l_arg {N : Nat} {J : Int} (j : Nat) (d1 : decode cL_law pc = .ok (.aload_n 0, 1)) (d2 : decode cL_law (pc + 1) = .ok (.iload_n 3, 1)) (d3 : decode cL_law (pc + 1 + 1) = .ok (.iconst J, 1)) (hJ : Int32.ofInt J = nI j) (d4 : decode cL_law (pc + 1 + 1 + 1) = .ok (.iadd, 1)) (d5 : decode cL_law (pc + 1 + 1 + 1 + 1) = .ok (.iaload, 1)) (hj : 6 * N + j < L) (hL : L ≤ 3072) (k : BL G b L xs d (pc + 1 + 1 + 1 + 1 + 1) (lN0 G b N) (.int (xs (6 * N + j)) :: st) h) : BL G b L xs d pc (lN0 G b N) st h := by
  refine b_aload_n (kk := 0) d1 rfl ?_
  refine b_iload_n (kk := 3) d2 rfl ?_
  refine b_iconst d3 hJ ?_
  refine b_iaddN d4 ?_
  exact l_sld d5 rfl hj (by omega) k
end Law
