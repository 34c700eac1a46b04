/-! ===== the tables' good words ===== -/
def TB : List Cond := lw_tbl.filter goodWord
theorem tin_0 {w : Cond} (h : w ∈ k2_sels lw_privs) : w ∈ lw_tbl := List.mem_append_left _ h
theorem tin_1 {w : Cond} (h : w ∈ tables_1_1) : w ∈ lw_tbl := List.mem_append_right _ (List.mem_append_left _ h)
theorem tin_2 {w : Cond} (h : w ∈ tables_1_2) : w ∈ lw_tbl := List.mem_append_right _ (List.mem_append_right _ (List.mem_append_left _ h))
theorem tin_3 {w : Cond} (h : w ∈ tables_1_3) : w ∈ lw_tbl := List.mem_append_right _ (List.mem_append_right _ (List.mem_append_right _ (List.mem_append_left _ h)))
theorem tin_4 {w : Cond} (h : w ∈ tables_1_4) : w ∈ lw_tbl := List.mem_append_right _ (List.mem_append_right _ (List.mem_append_right _ (List.mem_append_right _ (List.mem_append_left _ h))))
theorem tin_5 {w : Cond} (h : w ∈ tables_1_5) : w ∈ lw_tbl := List.mem_append_right _ (List.mem_append_right _ (List.mem_append_right _ (List.mem_append_right _ (List.mem_append_right _ (List.mem_append_left _ h)))))
theorem tin_6 {w : Cond} (h : w ∈ tables_1_6) : w ∈ lw_tbl := List.mem_append_right _ (List.mem_append_right _ (List.mem_append_right _ (List.mem_append_right _ (List.mem_append_right _ (List.mem_append_right _ (List.mem_append_left _ h))))))
theorem tin_7 {w : Cond} (h : w ∈ tables_1_7) : w ∈ lw_tbl := List.mem_append_right _ (List.mem_append_right _ (List.mem_append_right _ (List.mem_append_right _ (List.mem_append_right _ (List.mem_append_right _ (List.mem_append_right _ (List.mem_append_left _ h)))))))
theorem tin_8 {w : Cond} (h : w ∈ tables_1_8) : w ∈ lw_tbl := List.mem_append_right _ (List.mem_append_right _ (List.mem_append_right _ (List.mem_append_right _ (List.mem_append_right _ (List.mem_append_right _ (List.mem_append_right _ (List.mem_append_right _ h)))))))
theorem TB_of {w : Cond} (h : w ∈ lw_tbl) (g : goodWord w = true) : w ∈ TB := List.mem_filter.mpr ⟨h, g⟩
theorem TB_at {w : Cond} {l : List Cond} (i : Nat) (h : l[i]? = some w) : w ∈ l := List.mem_of_getElem? h
theorem TB_ok {args : Array Value} {s : State} (h : ∀ w ∈ lw_tbl, w.before args s = true) : ∀ w ∈ TB, w.before args s = true := fun w hw => h w (List.mem_filter.mp hw).1
theorem TB_good {w : Cond} (h : w ∈ TB) : (w.onTables && w.keeps) = true ∨ ∃ ty, w = .arrayClass ty := good_of_word (List.mem_filter.mp h).2
/-! ===== the world: all cells made since the law's start, by their numbers ===== -/
abbrev HT : Type := Nat → va_E
abbrev GT : Type := (Launch × va_G) × (Nat × Nat) × Heap × (Nat → ClassId) × (Nat × (Nat → Nat) × (Nat → Nat))
abbrev GT.l (G : GT) : Launch := G.1.1
abbrev GT.D (G : GT) : va_G := G.1.2
abbrev GT.b0 (G : GT) : Nat := G.2.1.1
abbrev GT.nC (_ : GT) : Nat := 99
abbrev GT.H0 (G : GT) : Heap := G.2.2.1
abbrev GT.ci (G : GT) : Nat → ClassId := G.2.2.2.1
abbrev GT.t3 (G : GT) : Nat := G.2.2.2.2.1
abbrev GT.adK (G : GT) : Nat → Nat := G.2.2.2.2.2.1
abbrev GT.adV (G : GT) : Nat → Nat := G.2.2.2.2.2.2
def GA (G : GT) : Nat → Prop := fun q => G.b0 ≤ q
def tysG (G : GT) : List (ClassId × FieldType) := [(G.ci 0, .int), (G.ci 1, .byte), (G.ci 2, .long), (G.ci 3, .boolean), (G.ci 4, .object "KnowsLeast$Row"), (G.ci 5, .object "KnowsLeast$Image")]
def wl (G : GT) (h : HT) : va_W := (List.range G.nC).map (fun k => (G.b0 + k, h k))
theorem wl_at {G : GT} {h : HT} {k : Nat} (hk : k < G.nC) : (wl G h)[k]? = some (G.b0 + k, h k) := by
  simp [wl, hk]
theorem wl_lt {G : GT} {h : HT} {k : Nat} {q : Nat × va_E} (hk : (wl G h)[k]? = some q) : k < G.nC ∧ q = (G.b0 + k, h k) := by
  have h1 := (List.getElem?_eq_some_iff.mp hk).1
  have h2 : k < G.nC := by simpa [wl] using h1
  rw [wl_at h2] at hk
  exact ⟨h2, (Option.some.inj hk).symm⟩
theorem wl_D {G : GT} {h : HT} : va_D (GA G) (wl G h) := by
  refine ⟨fun i j p q hi hj e => ?_, fun k q hk => ?_⟩
  · obtain ⟨-, rfl⟩ := wl_lt hi
    obtain ⟨-, rfl⟩ := wl_lt hj
    exact Nat.add_left_cancel e
  · obtain ⟨-, rfl⟩ := wl_lt hk
    exact Nat.le_add_right _ _
theorem wl_set {G : GT} {h : HT} {k : Nat} {e : va_E} (hk : k < G.nC) : (wl G h).set k (G.b0 + k, e) = wl G (va_up h k e) := by
  apply List.ext_getElem?
  intro i
  by_cases hi : i < G.nC
  · rw [wl_at hi]
    by_cases hik : k = i
    · subst hik
      rw [List.getElem?_set_self (by simpa [wl] using hi)]
      simp [va_up]
    · rw [List.getElem?_set_ne hik, wl_at hi]
      simp [va_up, Ne.symm hik]
  · rw [List.getElem?_eq_none (by simpa [wl] using Nat.le_of_not_lt hi), List.getElem?_eq_none (by simpa [wl] using Nat.le_of_not_lt hi)]
def HP (G : GT) (h : HT) (H : Heap) : Prop := G.b0 ≤ H.size ∧ (∀ q : Nat, q < G.b0 → H[q]? = G.H0[q]?) ∧ va_P G.D vwCl (wl G h) H
/-! ===== what the tables and the old cells hold ===== -/
def t3f : Nat → Value := fun j => .int (([1, 3, 9, 27, 81, 243, 729, 2187, 6561] : List Int32).getD j 0)
def strs : List (String × Nat × String) := [("KnowsLeast$Tokens", 45, "and"), ("KnowsLeast$Tokens", 51, "b"), ("KnowsLeast$Tokens", 53, "c"), ("KnowsLeast$Tokens", 55, "fact"), ("KnowsLeast$Tokens", 57, "guilty"), ("KnowsLeast$Tokens", 59, "hint"), ("KnowsLeast$Tokens", 61, "not"), ("KnowsLeast$Tokens", 63, "or"), ("KnowsLeast$Tokens", 65, "person"), ("KnowsLeast$Tokens", 67, "road"), ("KnowsLeast$Tokens", 69, "told"), ("KnowsLeast$Tokens", 71, "true"), ("KnowsLeast$Tokens", 79, "world"), ("KnowsLeast$Tokens", 81, "weight"), ("KnowsLeastModel", 89, " world weight guilty fact person told road hint true or and not a b c "), ("KnowsLeastModel", 127, ";:+-*()[]=<>")]
def slen : List Nat := strs.map (fun q => q.2.2.length)
def sbyt : List (List Int32) := strs.map (fun q => q.2.2.toList.map (fun c => Int32.ofNat c.toNat))
def Kn (G : GT) (U : State) : Prop := va_K G.D vwCl (tysG G) U ∧ va_Z "KnowsLeast$Trial" "THREES" "[I" (.ref G.t3) (GA G) U G.H0 ∧ va_T .int G.t3 9 t3f (GA G) U G.H0 ∧ va_Z "java/lang/String" "COMPACT_STRINGS" "Z" (.int 1) (GA G) U G.H0 ∧ va_Zq "jdk/internal/util/Preconditions" "SIOOBE_FORMATTER" "Ljava/util/function/BiFunction;" (GA G) U G.H0 ∧ vk_S 16 slen sbyt G.adK G.adV (GA G) U G.H0 ∧ (∀ (i : Nat) (q : String × Nat × String), strs[i]? = some q → vk_R q.1 q.2.1 q.2.2 (G.adK i) U) ∧ va_Nw (.methodLinkNest RX7 89 yX11_isFewer RX11) U
theorem Kn.warm {G : GT} {s U : State} (hW : s.WarmedH U.vm) (h : Kn G s) : Kn G U :=
  ⟨h.1.moved hW.alike, h.2.1.moved hW.alike, h.2.2.1.moved hW.alike, h.2.2.2.1.moved hW.alike, h.2.2.2.2.1.moved hW.alike, h.2.2.2.2.2.1.moved hW.alike, fun i q hq => (h.2.2.2.2.2.2.1 i q hq).warm hW, h.2.2.2.2.2.2.2.warmM hW⟩
theorem Kn.same {G : GT} {s U : State} (hv : U.vm = s.vm) (h : Kn G s) : Kn G U := by
  have ha : s.vm.Alike U.vm := by rw [hv]; exact Vm.Alike.refl _
  exact ⟨h.1.moved ha, h.2.1.moved ha, h.2.2.1.moved ha, h.2.2.2.1.moved ha, h.2.2.2.2.1.moved ha, h.2.2.2.2.2.1.moved ha, fun i q hq => (h.2.2.2.2.2.2.1 i q hq).same hv, h.2.2.2.2.2.2.2.same rfl hv.symm⟩
/-! ===== locals by their places ===== -/
abbrev LT : Type := List (Option Value)
def lvl : Nat → LT → List (Nat × Value)
  | _, [] => []
  | i, none :: t => lvl (i + 1) t
  | i, some v :: t => (i, v) :: lvl (i + 1) t
theorem lvl_iff : ∀ (ls : LT) (j k : Nat) (v : Value), (k, v) ∈ lvl j ls ↔ ∃ n, k = j + n ∧ ls[n]? = some (some v)
  | [], j, k, v => by simp [lvl]
  | none :: t, j, k, v => by
    rw [lvl, lvl_iff t (j + 1) k v]
    constructor
    · rintro ⟨n, h1, h2⟩
      exact ⟨n + 1, by omega, by simpa using h2⟩
    · rintro ⟨n, h1, h2⟩
      cases n with
      | zero => simp at h2
      | succ n => exact ⟨n, by omega, by simpa using h2⟩
  | some w :: t, j, k, v => by
    rw [lvl, List.mem_cons, lvl_iff t (j + 1) k v]
    constructor
    · rintro (h | ⟨n, h1, h2⟩)
      · cases h
        exact ⟨0, by omega, by simp⟩
      · exact ⟨n + 1, by omega, by simpa using h2⟩
    · rintro ⟨n, h1, h2⟩
      cases n with
      | zero =>
        simp at h2
        subst h2
        left
        simp at h1
        rw [h1]
      | succ n => exact Or.inr ⟨n, by omega, by simpa using h2⟩
def LH (lsA : Array Slot) (nL : Nat) (ls : LT) : Prop := lv_has lsA nL (lvl 0 ls)
theorem LH.get {lsA : Array Slot} {nL : Nat} {ls : LT} (h : LH lsA nL ls) {i : Nat} {v : Value} (hi : ls[i]? = some (some v)) : lsA[i]? = some (.val v) :=
  h.2.2 (i, v) ((lvl_iff ls 0 i v).mpr ⟨i, by omega, hi⟩)
def okst (ls : LT) : Nat → Bool
  | 0 => true
  | i + 1 => match ls[i]? with
    | some (some v) => v.category == 1
    | _ => true
theorem okst_1 {ls : LT} {i n : Nat} {v : Value} (h : okst ls i = true) (e : n + 1 = i) (hv : ls[n]? = some (some v)) : ¬ v.category = 2 := by
  subst e
  simp only [okst, hv, beq_iff_eq] at h
  omega
theorem LH.of {lsA : Array Slot} {nL : Nat} {ls : LT} {l : List (Nat × Value)} (h : lv_has lsA nL l) (hs : ∀ (n : Nat) (v : Value), ls[n]? = some (some v) → (n, v) ∈ l) : LH lsA nL ls :=
  ⟨h.1, h.2.1, fun q hq => h.2.2 q (by
    obtain ⟨n, h1, h2⟩ := (lvl_iff ls 0 q.1 q.2).mp hq
    have := hs n q.2 h2
    have e : n = q.1 := by omega
    rw [e] at this
    exact this)⟩
theorem LH.st1 {lsA : Array Slot} {nL : Nat} {ls : LT} {i : Nat} {v : Value} (ho : okst ls i = true) (h : lv_has lsA nL ((i, v) :: (lvl 0 ls).filter (fun q => !(q.1 == i) && !(q.1 + 1 == i && q.2.category == 2)))) : LH lsA nL (ls.set i (some v)) := by
  refine LH.of h fun n w hw => ?_
  by_cases hn : i = n
  · subst hn
    have hl : i < ls.length := by simpa using (List.getElem?_eq_some_iff.mp hw).1
    rw [List.getElem?_set_self hl] at hw
    cases hw
    exact List.mem_cons_self
  · rw [List.getElem?_set_ne hn] at hw
    refine List.mem_cons_of_mem _ (List.mem_filter.mpr ⟨(lvl_iff ls 0 n w).mpr ⟨n, by omega, hw⟩, ?_⟩)
    simp only [Bool.and_eq_true, Bool.not_eq_true', beq_eq_false_iff_ne, ne_eq, Bool.and_eq_false_iff]
    refine ⟨fun e => hn e.symm, ?_⟩
    by_cases e : n + 1 = i
    · exact Or.inr (okst_1 ho e hw)
    · exact Or.inl e
theorem LH.st2 {lsA : Array Slot} {nL : Nat} {ls : LT} {i : Nat} {v : Value} (ho : okst ls i = true) (h : lv_has lsA nL ((i, v) :: (lvl 0 ls).filter (fun q => !(q.1 == i) && (!(q.1 == i + 1) && !(q.1 + 1 == i && q.2.category == 2))))) : LH lsA nL ((ls.set i (some v)).set (i + 1) none) := by
  refine LH.of h fun n w hw => ?_
  by_cases hn1 : i + 1 = n
  · subst hn1
    by_cases hl : i + 1 < (ls.set i (some v)).length
    · rw [List.getElem?_set_self hl] at hw
      cases hw
    · rw [List.getElem?_eq_none (by simpa using Nat.le_of_not_lt hl)] at hw
      cases hw
  · rw [List.getElem?_set_ne hn1] at hw
    by_cases hn : i = n
    · subst hn
      have hl : i < ls.length := by simpa using (List.getElem?_eq_some_iff.mp hw).1
      rw [List.getElem?_set_self hl] at hw
      cases hw
      exact List.mem_cons_self
    · rw [List.getElem?_set_ne hn] at hw
      refine List.mem_cons_of_mem _ (List.mem_filter.mpr ⟨(lvl_iff ls 0 n w).mpr ⟨n, by omega, hw⟩, ?_⟩)
      simp only [Bool.and_eq_true, Bool.not_eq_true', beq_eq_false_iff_ne, ne_eq, Bool.and_eq_false_iff]
      refine ⟨fun e => hn e.symm, fun e => hn1 e.symm, ?_⟩
      by_cases e : n + 1 = i
      · exact Or.inr (okst_1 ho e hw)
      · exact Or.inl e
def locA : List Value → LT
  | [] => []
  | v :: t => if v.category = 2 then some v :: none :: locA t else some v :: locA t
theorem locA_lvl : ∀ (av : List Value) (i : Nat) (k : Nat), lvl i (locA av ++ List.replicate k none) = lv_args i av
  | [], i, k => by
    have : ∀ (k i : Nat), lvl i (List.replicate k none) = [] := by
      intro k
      induction k with
      | zero => intro i; rfl
      | succ k ih => intro i; rw [List.replicate_succ, lvl, ih]
    simpa [locA, lv_args] using this k i
  | v :: t, i, k => by
    by_cases hc : v.category = 2
    · simp only [locA, lv_args, hc, if_true, List.cons_append, lvl]
      rw [locA_lvl t (i + 1 + 1) k]
    · simp only [locA, lv_args, hc, if_false, List.cons_append, lvl]
      rw [locA_lvl t (i + 1) k]
/-! ===== a point in a method's body ===== -/
abbrev QT : Type := Program → Env → Room → State → MethodId → Array Value → List Frame → Method → Code → Nat → Nat → State → Prop
def EnvOk (G : GT) (own : String) (cc : ByteArray) (nL : Nat) (ret : Option FieldType) (d : Nat) (p : Program) (R : Room) (s : State) (m : MethodId) (args : Array Value) (meth : Method) (c : Code) (cells slots : Nat) : Prop :=
  p.tables.exec = Jvm.exec ∧ c.code = cc ∧ c.maxLocals = nL ∧ meth.sig.returnType = ret ∧ meth.locks = false ∧ s.vm.findClass own = some m.cls ∧ (∀ w ∈ TB, w.before args s = true) ∧ Kn G s ∧ (G.b0 ≤ s.heap.size ∧ ∀ q : Nat, q < G.b0 → s.heap[q]? = G.H0[q]?) ∧ (d ≤ R.frames ∧ 100 * d ≤ R.locals) ∧ (cells ≤ R.cells ∧ slots ≤ R.slots)
def BB (G : GT) (own : String) (cc : ByteArray) (nL : Nat) (ret : Option FieldType) (d : Nat) (Q : QT) (pc : Nat) (ls : LT) (st : List Value) (h : HT) : Prop :=
  ∀ (p : Program) (e : Env) (R : Room) (s : State) (m : MethodId) (args : Array Value) (below : List Frame) (meth : Method) (c : Code) (cells slots : Nat), EnvOk G own cc nL ret d p R s m args meth c cells slots → ∀ (H : Heap) (locs : List Loc) (lsA : Array Slot), HP G h H → va_S (GA G) s.heap H locs → LH lsA nL ls → W p G.l e R s m args below meth c H locs cells slots (Q p e R s m args below meth c cells slots) (F0 m pc lsA st)
theorem mkHP {G : GT} {s : State} {H : Heap} {locs : List Loc} {h : HT} (hs : G.b0 ≤ s.heap.size ∧ ∀ q : Nat, q < G.b0 → s.heap[q]? = G.H0[q]?) (hS : va_S (GA G) s.heap H locs) (hP : va_P G.D vwCl (wl G h) H) : HP G h H :=
  ⟨Nat.le_trans hs.1 hS.1, fun q hq => (hS.2.1 q (Nat.lt_of_lt_of_le hq hs.1) (Nat.not_le.mpr hq)).trans (hs.2 q hq), hP⟩
def QcOf (G : GT) (Post : Option Value → HT → Prop) : Array Value → State → Outcome → State → Prop := fun _ st oc t => (∃ (r : Option Value) (h' : HT), oc = .returned r ∧ Post r h' ∧ HP G h' t.heap) ∧ va_F (GA G) st t
def QM (G : GT) (Post : Option Value → HT → Prop) : QT := fun _ _ _ s _ args below _ _ cells slots => MQ below (QcOf G Post) args s cells slots (GA G)
abbrev MT : Type := MethodName × ByteArray × Nat × Option FieldType
def Rm (d : Nat) : Room := { frames := d, cells := 0, slots := 0, locals := 100 * d }
/-- a method's contract: from the world h, with these arguments, it returns, and Post holds of the answer and the world then -/
def Fn (G : GT) (d : Nat) (M : MT) (av : List Value) (h : HT) (Post : Option Value → HT → Prop) : Prop :=
  Met G.l M.1 (Cond.code M.1 M.2.1 M.2.2.1 M.2.2.2 :: TB) (Rm d) (va_Pc av (fun U => HP G h U.heap ∧ Kn G U)) (QcOf G Post) 0 0 (GA G)
def Ret (v : Option Value) (h' : HT) : Option Value → HT → Prop := fun r g => r = v ∧ g = h'
theorem fn_of {G : GT} {d : Nat} {y : MethodName} {cc : ByteArray} {nL : Nat} {ret : Option FieldType} {av : List Value} {h : HT} {Post : Option Value → HT → Prop} (hy : plainName y.cls = true) (hn : (lg_sl av).length ≤ nL) {ls : LT} (k : Nat) (hls : locA av ++ List.replicate k none = ls)
    (body : BB G y.cls cc nL ret d (QM G Post) 0 ls [] h) : Fn G d (y, cc, nL, ret) av h Post := by
  refine Met.ofW (cc := cc) (maxL := nL) (ret := ret) hy rfl ?_
  intro p e s m args below meth c s₁ B hml hv
  obtain ⟨rfl, hH, hK⟩ := hv
  have hts := atoms_spec (ws := Cond.code y cc nL ret :: TB) B.pre
  have hown : s.vm.findClass y.cls = some m.cls := findClass_of_methodNamed B.named
  have hl := lv_entry av (n := nL) hn
  rw [lg_entry_eq]
  refine body p e _ s m _ below meth c 0 0 ⟨B.exec, B.bytes, hml, B.returns, B.notSynchronized, hown, fun w hw => hts w (List.mem_cons_of_mem _ hw), hK, ⟨hH.1, hH.2.1⟩, ⟨Nat.le_refl _, Nat.le_refl _⟩, ⟨Nat.le_refl _, Nat.le_refl _⟩⟩ s.heap [] _ hH va_S.rf ?_
  unfold LH
  rw [← hls, locA_lvl av 0 k]
  exact hl
