/-! ===== the world while cells are made: a list ===== -/
def wm (G : GT) (es : List va_E) : va_W := es.mapIdx (fun i e => (G.b0 + i, e))
theorem wm_len {G : GT} {es : List va_E} : (wm G es).length = es.length := by simp [wm]
theorem wm_get {G : GT} {es : List va_E} {k : Nat} : (wm G es)[k]? = es[k]?.map (fun e => (G.b0 + k, e)) := by
  unfold wm
  rw [List.getElem?_mapIdx]
theorem wm_at {G : GT} {es : List va_E} {k : Nat} {e : va_E} (h : es[k]? = some e) : (wm G es)[k]? = some (G.b0 + k, e) := by
  rw [wm_get, h]
  rfl
theorem wm_lt {G : GT} {es : List va_E} {k : Nat} {q : Nat × va_E} (h : (wm G es)[k]? = some q) : k < es.length ∧ ∃ e, es[k]? = some e ∧ q = (G.b0 + k, e) := by
  rw [wm_get] at h
  cases he : es[k]? with
  | none => rw [he] at h; cases h
  | some e =>
    rw [he] at h
    exact ⟨(List.getElem?_eq_some_iff.mp he).1, e, rfl, (Option.some.inj h).symm⟩
theorem wm_D {G : GT} {es : List va_E} : va_D (GA G) (wm G es) := by
  refine ⟨fun i j p q hi hj e => ?_, fun k q hk => ?_⟩
  · obtain ⟨-, e1, -, rfl⟩ := wm_lt hi
    obtain ⟨-, e2, -, rfl⟩ := wm_lt hj
    exact Nat.add_left_cancel e
  · obtain ⟨-, e1, -, rfl⟩ := wm_lt hk
    exact Nat.le_add_right _ _
theorem wm_set {G : GT} {es : List va_E} {k : Nat} {e : va_E} : (wm G es).set k (G.b0 + k, e) = wm G (es.set k e) := by
  apply List.ext_getElem?
  intro i
  rw [wm_get, List.getElem?_set, List.getElem?_set, wm_get, wm_len]
  by_cases h : k = i
  · subst h
    by_cases h2 : k < es.length
    · rw [if_pos rfl, if_pos h2, if_pos rfl, if_pos h2]
      rfl
    · rw [if_pos rfl, if_neg h2, if_pos rfl, if_neg h2]
      rfl
  · rw [if_neg h, if_neg h]
theorem wm_push {G : GT} {es : List va_E} {e : va_E} : wm G es ++ [(G.b0 + es.length, e)] = wm G (es ++ [e]) := by
  apply List.ext_getElem?
  intro i
  rw [wm_get]
  have hl : (wm G es).length = es.length := wm_len
  by_cases h : i < es.length
  · rw [List.getElem?_append_left (by omega), List.getElem?_append_left h, wm_get]
  · rw [List.getElem?_append_right (by omega), List.getElem?_append_right (by omega), hl]
    by_cases h2 : i = es.length
    · subst h2
      simp
    · rw [List.getElem?_eq_none (by simp; omega), List.getElem?_eq_none (by simp; omega)]
      rfl
def HN (G : GT) (w : List va_E) (H : Heap) : Prop := G.b0 ≤ H.size ∧ (∀ q : Nat, q < G.b0 → H[q]? = G.H0[q]?) ∧ va_P G.D vwCl (wm G w) H
theorem HN.le {G : GT} {w : List va_E} {H : Heap} (h : HN G w H) : G.b0 + w.length ≤ H.size := by
  cases hn : w.length with
  | zero => exact h.1
  | succ n =>
    have he : w[n]? = some (w[n]'(by omega)) := List.getElem?_eq_getElem (by omega)
    exact (h.2.2 n _ (wm_at he)).lt
theorem mkHN {G : GT} {s : State} {H : Heap} {locs : List Loc} {w : List va_E} (hs : G.b0 ≤ s.heap.size ∧ ∀ q : Nat, q < G.b0 → s.heap[q]? = G.H0[q]?) (hS : va_S (GA G) s.heap H locs) (hP : va_P G.D vwCl (wm G w) H) : HN G w H :=
  ⟨Nat.le_trans hs.1 hS.1, fun q hq => (hS.2.1 q (Nat.lt_of_lt_of_le hq hs.1) (Nat.not_le.mpr hq)).trans (hs.2 q hq), hP⟩
theorem w_size {p : Program} {l : Launch} {e : Env} {R : Room} {s : State} {m : MethodId} {args : Array Value} {below : List Frame} {meth : Method} {c : Code} {H : Heap} {locs : List Loc} {cells slots : Nat} {Q : State → Prop} {g : JFrame} (k : H.size ≤ s.heap.size + cells → W p l e R s m args below meth c H locs cells slots Q g) : W p l e R s m args below meth c H locs cells slots Q g :=
  fun T hT X => k (by have h := X.same.2.2.1; rw [← hT]; exact h) T hT X
def NmOk (own : String) (meth : Method) (s : State) : Prop := (own ≠ RL → meth.name = "<init>") ∧ va_AO RX6 s ∧ va_AO RX1 s
/-- a point in a body that makes cells: w the cells made since the law's start, x and y the cells and slots that this body has made -/
def BN (G : GT) (own : String) (cc : ByteArray) (nL : Nat) (ret : Option FieldType) (d mc ms : Nat) (Q : QT) (pc : Nat) (ls : LT) (st : List Value) (w : List va_E) (x y : Nat) : Prop :=
  ∀ (p : Program) (e : Env) (R : Room) (s : State) (m : MethodId) (args : Array Value) (below : List Frame) (meth : Method) (c : Code), EnvOk G own cc nL ret d p R s m args meth c mc ms → NmOk own meth s → s.heap.size + x = G.b0 + w.length → ∀ (H : Heap) (locs : List Loc) (lsA : Array Slot), HN G w H → va_S (GA G) s.heap H locs → LH lsA nL ls → W p G.l e R s m args below meth c H locs x y (Q p e R s m args below meth c mc ms) (F0 m pc lsA st)
def KnN (G : GT) (U : State) : Prop := Kn G U ∧ va_AO RX6 U ∧ va_AO RX1 U
def RmN (d mc ms : Nat) : Room := { frames := d, cells := mc, slots := ms, locals := 100 * d }
def QcN (G : GT) (w : List va_E) : Array Value → State → Outcome → State → Prop := fun _ st oc t => (oc = .returned none ∧ HN G w t.heap) ∧ va_F (GA G) st t
def QMN (G : GT) (w : List va_E) : QT := fun _ _ _ s _ args below _ _ mc ms => MQ below (QcN G w) args s mc ms (GA G)
/-- a constructor's contract: the cell behind w is its blank object e0; then w and what it built -/
def Mk (G : GT) (d : Nat) (y : MethodName) (c0 : ByteArray) (nl : Nat) (mc ms : Nat) (w : List va_E) (e0 : va_E) (bl : List va_E) : Prop :=
  Met G.l y (Cond.code y c0 nl none :: TB) (RmN d mc ms) (va_Pc [.ref (G.b0 + w.length)] (fun U => U.heap.size = G.b0 + (w.length + 1) ∧ HN G (w ++ [e0]) U.heap ∧ KnN G U)) (QcN G (w ++ bl)) mc ms (GA G)
theorem mk_of {G : GT} {d mc ms : Nat} {y : MethodName} {cc : ByteArray} {nL : Nat} {w : List va_E} {e0 : va_E} {bl : List va_E} (hy : plainName y.cls = true) (hy1 : y.name = "<init>") (hn : 1 ≤ nL) {ls : LT} (k : Nat) (hls : (some (Value.ref (G.b0 + w.length)) :: List.replicate k none : LT) = ls)
    (body : BN G y.cls cc nL none d mc ms (QMN G (w ++ bl)) 0 ls [] (w ++ [e0]) 0 0) : Mk G d y cc nL mc ms w e0 bl := by
  refine Met.ofW (cc := cc) (maxL := nL) (ret := none) hy rfl ?_
  intro p e s m args below meth c s₁ B hml hv
  obtain ⟨rfl, hsz, hH, hK⟩ := hv
  have hts := atoms_spec (ws := Cond.code y cc nL none :: TB) B.pre
  have hown : s.vm.findClass y.cls = some m.cls := findClass_of_methodNamed B.named
  have hnm : meth.name = y.name := (name_of_methodNamed B.named B.method).1
  have hl := lv_entry [.ref (G.b0 + w.length)] (n := nL) hn
  rw [lg_entry_eq]
  refine body p e _ s m _ below meth c ⟨B.exec, B.bytes, hml, B.returns, B.notSynchronized, hown, fun w hw => hts w (List.mem_cons_of_mem _ hw), hK.1, ⟨hH.1, hH.2.1⟩, ⟨Nat.le_refl _, Nat.le_refl _⟩, ⟨Nat.le_refl _, Nat.le_refl _⟩⟩ ⟨fun _ => hnm.trans hy1, hK.2⟩ (by rw [List.length_append]; show s.heap.size + 0 = G.b0 + (w.length + 1); omega) s.heap [] _ hH va_S.rf ?_
  unfold LH
  rw [← hls]
  have e1 : lvl 0 (some (Value.ref (G.b0 + w.length)) :: List.replicate k none) = lv_args 0 [.ref (G.b0 + w.length)] := locA_lvl [.ref (G.b0 + w.length)] 0 k
  rw [e1]
  exact hl
section Make
variable {G : GT} {own : String} {cc : ByteArray} {nL : Nat} {ret : Option FieldType} {d mc ms : Nat} {Q : QT} {pc : Nat} {ls : LT} {st : List Value} {w : List va_E} {x y : Nat}
theorem n_iconst {n : Int} {v : Int32} (hd : decode cc pc = .ok (.iconst n, 1)) (hv : Int32.ofInt n = v) (k : BN G own cc nL ret d mc ms Q (pc + 1) ls (.int v :: st) w x y) : BN G own cc nL ret d mc ms Q (pc) ls (st) w x y :=
  fun p e R s m args below meth c E hN hz H locs lsA hH hS hl => lv_iconst E.1 E.2.1 hd hv (k p e R s m args below meth c E hN hz H locs lsA hH hS hl)
theorem n_bipush {n : Int} {v : Int32} (hd : decode cc pc = .ok (.bipush n, 2)) (hv : (Int8.ofInt n).toInt32 = v) (k : BN G own cc nL ret d mc ms Q (pc + 2) ls (.int v :: st) w x y) : BN G own cc nL ret d mc ms Q (pc) ls (st) w x y :=
  fun p e R s m args below meth c E hN hz H locs lsA hH hS hl => lv_bipush E.1 E.2.1 hd hv (k p e R s m args below meth c E hN hz H locs lsA hH hS hl)
theorem n_sipush {n : Int} {v : Int32} (hd : decode cc pc = .ok (.sipush n, 3)) (hv : (Int16.ofInt n).toInt32 = v) (k : BN G own cc nL ret d mc ms Q (pc + 3) ls (.int v :: st) w x y) : BN G own cc nL ret d mc ms Q (pc) ls (st) w x y :=
  fun p e R s m args below meth c E hN hz H locs lsA hH hS hl => lv_sipush E.1 E.2.1 hd hv (k p e R s m args below meth c E hN hz H locs lsA hH hS hl)
theorem n_iload_n {kk : Fin 4} {x1 : Int32} (hd : decode cc pc = .ok (.iload_n kk, 1)) (hi : ls[(kk : Nat)]? = some (some (.int x1))) (k : BN G own cc nL ret d mc ms Q (pc + 1) ls (.int x1 :: st) w x y) : BN G own cc nL ret d mc ms Q (pc) ls (st) w x y :=
  fun p e R s m args below meth c E hN hz H locs lsA hH hS hl => lv_iload_n E.1 E.2.1 hd rfl (hl.get hi) (k p e R s m args below meth c E hN hz H locs lsA hH hS hl)
theorem n_aload_n {kk : Fin 4} {x1 : Nat} (hd : decode cc pc = .ok (.aload_n kk, 1)) (hi : ls[(kk : Nat)]? = some (some (.ref x1))) (k : BN G own cc nL ret d mc ms Q (pc + 1) ls (.ref x1 :: st) w x y) : BN G own cc nL ret d mc ms Q (pc) ls (st) w x y :=
  fun p e R s m args below meth c E hN hz H locs lsA hH hS hl => lv_aload_n E.1 E.2.1 hd rfl (hl.get hi) (k p e R s m args below meth c E hN hz H locs lsA hH hS hl)
theorem n_istore_n {kk : Fin 4} {x1 : Int32} (hd : decode cc pc = .ok (.istore_n kk, 1)) (hn : (kk : Nat) < nL) (ho : okst ls (kk : Nat) = true) (k : BN G own cc nL ret d mc ms Q (pc + 1) (ls.set (kk : Nat) (some (.int x1))) (st) w x y) : BN G own cc nL ret d mc ms Q (pc) ls (.int x1 :: st) w x y :=
  fun p e R s m args below meth c E hN hz H locs lsA hH hS hl => lv_istore_n E.1 E.2.1 hd rfl hl hn rfl (fun lsA' hl' => k p e R s m args below meth c E hN hz H locs lsA' hH hS (LH.st1 ho hl'))
theorem n_astore_n {kk : Fin 4} {x1 : Nat} (hd : decode cc pc = .ok (.astore_n kk, 1)) (hn : (kk : Nat) < nL) (ho : okst ls (kk : Nat) = true) (k : BN G own cc nL ret d mc ms Q (pc + 1) (ls.set (kk : Nat) (some (.ref x1))) (st) w x y) : BN G own cc nL ret d mc ms Q (pc) ls (.ref x1 :: st) w x y :=
  fun p e R s m args below meth c E hN hz H locs lsA hH hS hl => lv_astore_n E.1 E.2.1 hd rfl hl hn rfl (fun lsA' hl' => k p e R s m args below meth c E hN hz H locs lsA' hH hS (LH.st1 ho hl'))
theorem n_iinc {i : Nat} {n : Int} {x1 v : Int32} (hd : decode cc pc = .ok (.iinc i n, 3)) (hi : ls[i]? = some (some (.int x1))) (hv : x1 + Int32.ofInt n = v) (hn : i < nL) (ho : okst ls i = true) (k : BN G own cc nL ret d mc ms Q (pc + 3) (ls.set i (some (.int v))) (st) w x y) : BN G own cc nL ret d mc ms Q (pc) ls (st) w x y := by
  intro p e R s m args below meth c E hN hz H locs lsA hH hS hl
  obtain ⟨k0, hk0⟩ := lvl_at hi
  exact lv_iinc E.1 E.2.1 hd hl hk0 hv hn rfl (fun lsA' hl' => k p e R s m args below meth c E hN hz H locs lsA' hH hS (LH.st1 ho hl'))
theorem n_dup {v : Value} (hd : decode cc pc = .ok (.dup, 1)) (hv : v.category = 1) (k : BN G own cc nL ret d mc ms Q (pc + 1) ls (v :: v :: st) w x y) : BN G own cc nL ret d mc ms Q (pc) ls (v :: st) w x y :=
  fun p e R s m args below meth c E hN hz H locs lsA hH hS hl => lv_dup E.1 E.2.1 hd hv (k p e R s m args below meth c E hN hz H locs lsA hH hS hl)
theorem n_icmp_ge {x1 y1 : Int32} {off : Int} (tgt : Nat) (hd : decode cc pc = .ok (.if_icmp .ge off, 3)) (ht : (pc : Int) + off = (tgt : Int)) (kt : y1 ≤ x1 → BN G own cc nL ret d mc ms Q (tgt) ls (st) w x y) (kf : ¬ y1 ≤ x1 → BN G own cc nL ret d mc ms Q (pc + 3) ls (st) w x y) : BN G own cc nL ret d mc ms Q (pc) ls (.int y1 :: .int x1 :: st) w x y :=
  fun p e R s m args below meth c E hN hz H locs lsA hH hS hl => lv_icmp_ge E.1 E.2.1 hd ht (fun h1 => kt h1 p e R s m args below meth c E hN hz H locs lsA hH hS hl) (fun h1 => kf h1 p e R s m args below meth c E hN hz H locs lsA hH hS hl)
theorem n_icmp_ge_t {x1 y1 : Int32} {off : Int} (tgt : Nat) (hd : decode cc pc = .ok (.if_icmp .ge off, 3)) (ht : (pc : Int) + off = (tgt : Int)) (hc : y1 ≤ x1) (kt : BN G own cc nL ret d mc ms Q (tgt) ls (st) w x y) : BN G own cc nL ret d mc ms Q (pc) ls (.int y1 :: .int x1 :: st) w x y :=
  n_icmp_ge tgt hd ht (fun _ => kt) (fun h1 => absurd hc (h1))
theorem n_icmp_ge_f {x1 y1 : Int32} {off : Int} (tgt : Nat) (hd : decode cc pc = .ok (.if_icmp .ge off, 3)) (ht : (pc : Int) + off = (tgt : Int)) (hc : ¬ y1 ≤ x1) (kf : BN G own cc nL ret d mc ms Q (pc + 3) ls (st) w x y) : BN G own cc nL ret d mc ms Q (pc) ls (.int y1 :: .int x1 :: st) w x y :=
  n_icmp_ge tgt hd ht (fun h1 => absurd h1 hc) (fun _ => kf)
theorem n_goto {off : Int} (tgt : Nat) (hd : decode cc pc = .ok (.goto off, 3)) (ht : (pc : Int) + off = (tgt : Int)) (k : BN G own cc nL ret d mc ms Q (tgt) ls (st) w x y) : BN G own cc nL ret d mc ms Q (pc) ls (st) w x y :=
  fun p e R s m args below meth c E hN hz H locs lsA hH hS hl => lv_goto E.1 E.2.1 hd ht (k p e R s m args below meth c E hN hz H locs lsA hH hS hl)
theorem n_ldc {i : Nat} {v : Int32} (hd : decode cc pc = .ok (.ldc i, 2)) (hw : Cond.constant own i v ∈ TB) (k : BN G own cc nL ret d mc ms Q (pc + 2) ls (.int v :: st) w x y) : BN G own cc nL ret d mc ms Q (pc) ls (st) w x y :=
  fun p e R s m args below meth c E hN hz H locs lsA hH hS hl => lv_ldc E.1 E.2.1 E.2.2.2.2.2.1 (E.2.2.2.2.2.2.1 _ hw) hd (k p e R s m args below meth c E hN hz H locs lsA hH hS hl)
theorem n_gets3 {idx : Nat} (hd : decode cc pc = .ok (.getstatic idx, 3)) (hlk : Cond.fieldLink own idx "KnowsLeast$Trial" "THREES" "[I" ∈ TB) (k : BN G own cc nL ret d mc ms Q (pc + 3) ls (.ref G.t3 :: st) w x y) : BN G own cc nL ret d mc ms Q pc ls st w x y :=
  fun p e R s m args below meth c E hN hz H locs lsA hH hS hl => va_gets E.1 E.2.1 (E.2.2.2.2.2.2.2.1.2.1.kept (fun a ha hA => E.2.2.2.2.2.2.2.2.1.2 a (Nat.not_le.mp hA))) hS E.2.2.2.2.2.1 (E.2.2.2.2.2.2.1 _ hlk) (fun _ h9 => h9) hd (k p e R s m args below meth c E hN hz H locs lsA hH hS hl)
theorem n_t3ld {j : Nat} {i x1 : Int32} (hd : decode cc pc = .ok (.iaload, 1)) (hi : i = nI j) (hj : j < 9) (hx : t3f j = .int x1) (k : BN G own cc nL ret d mc ms Q (pc + 1) ls (.int x1 :: st) w x y) : BN G own cc nL ret d mc ms Q pc ls (.int i :: .ref G.t3 :: st) w x y := by
  subst hi
  have hin : vp_in (nI j) 9 := vp_in_nI hj (by decide)
  exact fun p e R s m args below meth c E hN hz H locs lsA hH hS hl => va_ti E.1 E.2.1 (E.2.2.2.2.2.2.2.1.2.2.1.kept (fun a ha hA => E.2.2.2.2.2.2.2.2.1.2 a (Nat.not_le.mp hA))) hS hin (by rw [nI_clamp (by omega)]; exact hx) hd (k p e R s m args below meth c E hN hz H locs lsA hH hS hl)
theorem n_ret (hd : decode cc pc = .ok (.return_, 1)) : BN G own cc nL none d mc ms (QMN G w) pc ls [] w mc ms :=
  fun p e R s m args below meth c E hN hz H locs lsA hH hS hl => W.vret E.1 E.2.1 E.2.2.2.1 (fun t ht hW => ⟨⟨rfl, by rw [ht]; exact hH⟩, hS.F ht⟩) hS.2.2 hd (hlocks := E.2.2.2.2.1)
theorem n_obj {idx a : Nat} (hd : decode cc pc = .ok (.invokespecial idx, 3)) (hlk : Cond.methodLink own idx Lib.objectInit ∈ TB) (hw : (st.map fun v => v.category).sum ≤ 8) (k : BN G own cc nL ret (d + 1) mc ms Q (pc + 3) ls st w x y) : BN G own cc nL ret (d + 1) mc ms Q pc ls (.ref a :: st) w x y := by
  intro p e R s m args below meth c E hN hz H locs lsA hH hS hl
  have hts := E.2.2.2.2.2.2.1
  have hR := E.2.2.2.2.2.2.2.2.2.1
  refine W.objInit (g := F0 m pc lsA (.ref a :: st)) E.1 E.2.1 E.2.2.2.2.2.1 (hts _ hlk) (hts _ im_obj) (hts _ cd_obj) rfl (hl.1.trans E.2.2.1.symm) rfl hd (Nat.le_trans (Nat.le_add_left 1 d) hR.1) ?_ (k p e R s m args below meth c E hN hz H locs lsA hH hS hl)
  have h1 : 2 * (F0 m pc lsA (.ref a :: st)).monitorRoom + (st.map fun v => v.category).sum ≤ 8 := lv_room hw
  have h2 := hR.2
  omega
theorem n_getf {idx ci j a : Nat} {fs : List Value} {v : Value} (hd : decode cc pc = .ok (.getfield idx, 3)) (hg : GF own idx ci j) (he : w[a]? = some (.inr (ci, fs))) (hv : fs[j]? = some v) (k : BN G own cc nL ret d mc ms Q (pc + 3) ls (v :: st) w x y) : BN G own cc nL ret d mc ms Q (pc) ls (.ref (G.b0 + a) :: st) w x y := by
  obtain ⟨C, T, N, hc, hj, hin, hlk⟩ := hg
  exact fun p e R s m args below meth c E hN hz H locs lsA hH hS hl => va_get E.1 E.2.1 E.2.2.2.2.2.2.1 hin E.2.2.2.2.2.1 E.2.2.2.2.2.2.2.1.1 hH.2.2 a (wm_at he) hc j hj (E.2.2.2.2.2.2.1 _ hlk) (fun _ h9 => h9) hv hd (k p e R s m args below meth c E hN hz H locs lsA hH hS hl)
/-- a final field of references, of the class itself -/
def GFf (own : String) (idx ci j : Nat) : Prop := ∃ (C : String) (T : u_T) (N : Nat) (ty0 : Nat → FieldType), vwCl[ci]? = some (C, T, N) ∧ j < N ∧ (∀ w ∈ u_ws C T N, w ∈ TB) ∧ Cond.fieldLink own idx (T j).1 (T j).2.1 (T j).2.2.1 ∈ TB ∧ (∀ k, k < N → parseFieldDescriptor (T k).2.2.1 = some (ty0 k)) ∧ (∀ a, a < N → ∀ b, b < N → a ≠ b → (T a).2.1 ≠ (T b).2.1) ∧ (T j).2.2.2 = true ∧ (T j).1 = own ∧ own ≠ RL ∧ ∀ b : Nat, narrow (ty0 j) (.ref b) = .ref b ∧ fits (ty0 j) (.ref b) = true
theorem n_putF {idx ci j a b : Nat} {fs : List Value} (hd : decode cc pc = .ok (.putfield idx, 3)) (hg : GFf own idx ci j) (he : w[a]? = some (.inr (ci, fs))) (hl : j < fs.length) (k : BN G own cc nL ret d mc ms Q (pc + 3) ls st (w.set a (.inr (ci, fs.set j (.ref b)))) x y) : BN G own cc nL ret d mc ms Q (pc) ls (.ref b :: .ref (G.b0 + a) :: st) w x y := by
  obtain ⟨C, T, N, ty0, hc, hj, hin, hlk, hty, hnm, hfin, hown, hrl, hnf⟩ := hg
  exact fun p e R s m args below meth c E hN hz H locs lsA hH hS hl' => va_putF (H0 := s.heap) E.1 E.2.1 E.2.2.2.2.2.2.1 hin ty0 hty hnm E.2.2.2.2.2.1 E.2.2.2.2.2.2.2.1.1 hH.2.2 wm_D hS a (wm_at he) hc j hj (E.2.2.2.2.2.2.1 _ hlk) (fun _ h9 => h9) hfin (hN.1 hrl) hown (hty j hj) (hnf b).1 (hnf b).2 hl hd (fun H1 locs1 hP1 hD1 hS1 => k p e R s m args below meth c E hN (by rw [List.length_set]; exact hz) H1 locs1 lsA (mkHN E.2.2.2.2.2.2.2.2.1 hS1 (by rw [wm_set] at hP1; exact hP1)) hS1 hl')
theorem n_put {idx ci j a : Nat} {fs : List Value} {v : Int32} (hd : decode cc pc = .ok (.putfield idx, 3)) (hg : GFw own idx ci j) (he : w[a]? = some (.inr (ci, fs))) (hl : j < fs.length) (hx : ∃ C T N, vwCl[ci]? = some (C, T, N) ∧ parseFieldDescriptor (T j).2.2.1 = some .int) (k : BN G own cc nL ret d mc ms Q (pc + 3) ls st (w.set a (.inr (ci, fs.set j (.int v)))) x y) : BN G own cc nL ret d mc ms Q (pc) ls (.int v :: .ref (G.b0 + a) :: st) w x y := by
  obtain ⟨C, T, N, ty0, hc, hj, hin, hlk, hty, hnm, hfin, hint⟩ := hg
  obtain ⟨C', T', N', hc', hp'⟩ := hx
  cases hc.symm.trans hc'
  have hn : narrow .int (.int v) = .int v := rfl
  have hf : fits .int (.int v) = true := rfl
  exact fun p e R s m args below meth c E hN hz H locs lsA hH hS hl' => va_put (H0 := s.heap) E.1 E.2.1 E.2.2.2.2.2.2.1 hin ty0 hty hnm E.2.2.2.2.2.1 E.2.2.2.2.2.2.2.1.1 hH.2.2 wm_D hS a (wm_at he) hc j hj (E.2.2.2.2.2.2.1 _ hlk) (fun _ h9 => h9) hfin hp' hn hf hl hd (fun H1 locs1 hP1 hD1 hS1 => k p e R s m args below meth c E hN (by rw [List.length_set]; exact hz) H1 locs1 lsA (mkHN E.2.2.2.2.2.2.2.2.1 hS1 (by rw [wm_set] at hP1; exact hP1)) hS1 hl')
theorem n_iast {a n j : Nat} {f : Nat → Int32} {i : Int32} {v : Int32} (hd : decode cc pc = .ok (.iastore, 1)) (he : w[a]? = some (.inl (G.ci 0, n, .inl f))) (hi : i = nI j) (hj : j < n) (hn : n < 2 ^ 31) (k : BN G own cc nL ret d mc ms Q (pc + 1) ls st (w.set a (.inl (G.ci 0, n, .inl (upd f j v)))) x y) : BN G own cc nL ret d mc ms Q (pc) ls (.int v :: .int i :: .ref (G.b0 + a) :: st) w x y := by
  subst hi
  have hin : vp_in (nI j) n := vp_in_nI hj hn
  have hcl : (nI j).toNatClampNeg = j := nI_clamp (Nat.lt_trans hj hn)
  exact fun p e R s m args below meth c E hN hz H locs lsA hH hS hl => va_iast (H0 := s.heap) E.1 E.2.1 E.2.2.2.2.2.2.2.1.1 hH.2.2 wm_D hS a 0 (wm_at he) rfl hin hd (fun H1 locs1 hP1 hD1 hS1 => k p e R s m args below meth c E hN (by rw [List.length_set]; exact hz) H1 locs1 lsA (mkHN E.2.2.2.2.2.2.2.2.1 hS1 (by rw [wm_set, hcl] at hP1; exact hP1)) hS1 hl)
theorem n_aast {a n j t0 qk ci : Nat} {r : vw_C} {vs : List Value} {f : Nat → Option Nat} {i : Int32} (hd : decode cc pc = .ok (.aastore, 1)) (he : w[a]? = some (.inl (G.ci t0, n, .inr (.inr (.inr (.inr f)))))) (ht : (tysG G)[t0]? = some (G.ci t0, .object r.1)) (hv : w[qk]? = some (.inr (ci, vs))) (hc : vwCl[ci]? = some r) (hi : i = nI j) (hj : j < n) (hn : n < 2 ^ 31) (k : BN G own cc nL ret d mc ms Q (pc + 1) ls st (w.set a (.inl (G.ci t0, n, .inr (.inr (.inr (.inr (va_up f j (some (G.b0 + qk))))))))) x y) : BN G own cc nL ret d mc ms Q (pc) ls (.ref (G.b0 + qk) :: .int i :: .ref (G.b0 + a) :: st) w x y := by
  subst hi
  have hin : vp_in (nI j) n := vp_in_nI hj hn
  have hcl : (nI j).toNatClampNeg = j := nI_clamp (Nat.lt_trans hj hn)
  exact fun p e R s m args below meth c E hN hz H locs lsA hH hS hl => va_astq (H0 := s.heap) E.1 E.2.1 E.2.2.2.2.2.2.2.1.1 hH.2.2 wm_D hS a t0 qk ci (wm_at he) ht (wm_at hv) hc hin hd (fun H1 locs1 hP1 hD1 hS1 => k p e R s m args below meth c E hN (by rw [List.length_set]; exact hz) H1 locs1 lsA (mkHN E.2.2.2.2.2.2.2.2.1 hS1 (by rw [wm_set, hcl] at hP1; exact hP1)) hS1 hl)
theorem wm_born {H H1 : Heap} {e : va_E} (hH : HN G w H) (hh : H.size = G.b0 + w.length) (o1 : ∀ q, q < G.b0 + w.length → H1[q]? = H[q]?) (z1 : H1.size = G.b0 + w.length + 1) (he : va_at G.D vwCl (G.b0 + w.length, e) H1) : HN G (w ++ [e]) H1 := by
  refine ⟨by omega, fun q hq => by rw [o1 q (by omega)]; exact hH.2.1 q hq, ?_⟩
  rw [← wm_push]
  refine va_P.app (hH.2.2.kept fun k q hk => o1 _ (by rw [← hh]; exact (hH.2.2 k q hk).lt)) (fun k q hk => ?_)
  have hz : k < 1 := (List.getElem?_eq_some_iff.mp hk).1
  rw [show k = 0 by omega] at hk
  cases hk
  exact he
theorem va_S_born {s : State} {H H1 : Heap} {locs : List Loc} {n : Nat} (hS : va_S (GA G) s.heap H locs) (hh : H.size = n) (o1 : ∀ q, q < n → H1[q]? = H[q]?) (z1 : H1.size = n + 1) : va_S (GA G) s.heap H1 locs :=
  ⟨by have := hS.1; omega, fun q h1 h2 => (o1 q (by have := hS.1; omega)).trans (hS.2.1 q h1 h2), hS.2.2⟩
theorem n_arr {atype : ArrayType} {ty : FieldType} {t0 N : Nat} {v : Int32} {a0 : vp_A} (hd : decode cc pc = .ok (.newarray atype, 2)) (hac : Cond.arrayClass ty ∈ TB) (hty : newarray.typeOf atype = ty) (ht : (tysG G)[t0]? = some (G.ci t0, ty)) (hra : ∀ (U : State) (cA : ClassId), va_RA U cA ty → U.vm.findClass ("[" ++ ty.toString) = some cA) (ha : ∀ cA : ClassId, vp_cell cA a0 = arrV cA N (fun _ => defaultValue ty)) (hn : ¬ v < 0) (hN0 : v.toNatClampNeg = N) (hby : N * componentBytes ty ≤ 536870912) (hc : x + 1 ≤ mc) (hs : y + N ≤ ms)
    (k : BN G own cc nL ret d mc ms Q (pc + 2) ls (.ref (G.b0 + w.length) :: st) (w ++ [.inl (G.ci t0, a0)]) (x + 1) (y + N)) : BN G own cc nL ret d mc ms Q pc ls (.int v :: st) w x y := by
  subst hty
  intro p e R s m args below meth c E hN hz H locs lsA hH hS hl
  refine w_size fun hsz => ?_
  have hle := hH.le
  have hh : H.size = G.b0 + w.length := by omega
  have hC := E.2.2.2.2.2.2.2.2.2.2
  refine va_newaK (g := F0 m pc lsA (.int v :: st)) E.1 E.2.1 (E.2.2.2.2.2.2.1 _ hac) rfl hd rfl hn hN0 hby (Nat.le_trans hc hC.1) (Nat.le_trans hs hC.2) hh fun H1 cA e1 z1 o1 hAr hNm => ?_
  have hcA : cA = G.ci t0 := Option.some.inj (hNm.symm.trans (hra s _ (E.2.2.2.2.2.2.2.1.1.2 t0 _ ht).2))
  subst hcA
  refine k p e R s m args below meth c E hN (by rw [List.length_append]; show s.heap.size + (x + 1) = G.b0 + (w.length + 1); omega) H1 locs lsA (wm_born hH hh o1 z1 ?_) (va_S_born hS hh o1 z1) hl
  show H1[G.b0 + w.length]? = some (vp_cell _ _)
  rw [ha]
  exact e1
theorem n_anew {idx t0 N : Nat} {v : Int32} {C : String} (hd : decode cc pc = .ok (.anewarray idx, 3)) (hcl : Cond.classLink own idx C ∈ TB) (hC0 : C = RX6 ∨ C = RX1) (ht : (tysG G)[t0]? = some (G.ci t0, .object C)) (hn : ¬ v < 0) (hN0 : v.toNatClampNeg = N) (hby : N * 4 ≤ 536870912) (hc : x + 1 ≤ mc) (hs : y + N ≤ ms)
    (k : BN G own cc nL ret d mc ms Q (pc + 3) ls (.ref (G.b0 + w.length) :: st) (w ++ [.inl (G.ci t0, N, .inr (.inr (.inr (.inr (fun _ => none)))))]) (x + 1) (y + N)) : BN G own cc nL ret d mc ms Q pc ls (.int v :: st) w x y := by
  subst hN0
  intro p e R s m args below meth c E hN hz H locs lsA hH hS hl
  refine w_size fun hsz => ?_
  have hle := hH.le
  have hh : H.size = G.b0 + w.length := by omega
  have hC := E.2.2.2.2.2.2.2.2.2.2
  have hao : va_AO C s := by
    rcases hC0 with rfl | rfl
    · exact hN.2.1
    · exact hN.2.2
  refine W.anew (g := F0 m pc lsA (.int v :: st)) E.1 E.2.1 E.2.2.2.2.2.1 (E.2.2.2.2.2.2.1 _ hcl) (va_AO.use hao) rfl hd rfl hn hby (Nat.le_trans hc hC.1) (Nat.le_trans hs hC.2) fun cA kA comp f1 f2 f3 f4 => ?_
  obtain ⟨kA', comp', -, -, -, g4⟩ := (E.2.2.2.2.2.2.2.1.1.2 t0 _ ht).2
  have hcA : cA = G.ci t0 := Option.some.inj (f1.symm.trans g4)
  generalize hH1 : H.push ({ cls := cA, slots := Array.replicate v.toNatClampNeg .null, vm := .none } : Cell) = H1
  have z1 : H1.size = G.b0 + w.length + 1 := by rw [← hH1, Array.size_push, hh]
  have e1 : H1[G.b0 + w.length]? = some (arrV cA v.toNatClampNeg (fun _ => .null)) := by rw [← hH1, ← hh, Array.getElem?_push_size, ← arrV_new]
  have o1 : ∀ q : Nat, q < G.b0 + w.length → H1[q]? = H[q]? := fun q hq => by rw [← hH1, Array.getElem?_push, if_neg (by omega)]
  have kk := k p e R s m args below meth c E hN (by rw [List.length_append]; show s.heap.size + (x + 1) = G.b0 + (w.length + 1); omega) H1 locs lsA (wm_born hH hh o1 z1 (by
    show H1[G.b0 + w.length]? = some (vp_cell _ _)
    rw [e1, hcA]
    rfl)) (va_S_born hS hh o1 z1) hl
  rw [hh]
  exact kk
/-- what the tables say of a class of ours that is made, and of its constructor -/
def MKi (yM : MethodName) (c0 : ByteArray) (nl ci N : Nat) (fs : List Value) : Prop := ∃ (T : u_T) (ty : Nat → FieldType), vwCl[ci]? = some (yM.cls, T, N) ∧ (∀ w ∈ u_ws yM.cls T N, w ∈ TB) ∧ (∀ k, k < N → parseFieldDescriptor (T k).2.2.1 = some (ty k)) ∧ (∀ j, j < N → defaultValue (ty j) = vp_V fs j) ∧ Cond.instantiable yM.cls N ∈ TB ∧ Cond.initialized yM.cls ∈ TB ∧ Cond.instanceMethod yM ∈ TB ∧ Cond.code yM c0 nl none ∈ TB ∧ yM.name = "<init>" ∧ (yM.cls ≠ "java/lang/invoke/MethodHandle" ∧ yM.cls ≠ "java/lang/invoke/VarHandle") ∧ (parseMethodDescriptor yM.desc).map (fun d => d.parameters.length) = some 0 ∧ nl ≤ 80
theorem mk_blind {av : List Value} {n : Nat} : FrameBlind (va_Pc av (fun U => U.heap.size = n ∧ HN G w U.heap ∧ KnN G U)) := fun a U g mk q => ⟨q.1, q.2.1, q.2.2.1, Kn.same rfl q.2.2.2.1, va_AO.moved (Vm.Alike.refl _) q.2.2.2.2.1, va_AO.moved (Vm.Alike.refl _) q.2.2.2.2.2⟩
theorem n_make {yM : MethodName} {c0 : ByteArray} {nl i1 i2 ci N mc' ms' : Nat} {fs : List Value} {bl : List va_E} (hd1 : decode cc pc = .ok (.new i1, 3)) (hd2 : decode cc (pc + 3) = .ok (.dup, 1)) (hd3 : decode cc (pc + 3 + 1) = .ok (.invokespecial i2, 3)) (mk : MKi yM c0 nl ci N fs) (hcl : Cond.classLink own i1 yM.cls ∈ TB) (hlk : Cond.methodLink own i2 yM ∈ TB) (hM : Mk G d yM c0 nl mc' ms' w (.inr (ci, fs)) bl) (hbl : bl.length = mc' + 1) (hw : (st.map fun v => v.category).sum ≤ 7) (hc : x + 1 + mc' ≤ mc) (hs : y + N + ms' ≤ ms)
    (k : BN G own cc nL ret (d + 1) mc ms Q (pc + 3 + 1 + 3) ls (.ref (G.b0 + w.length) :: st) (w ++ bl) (x + 1 + mc') (y + N + ms')) : BN G own cc nL ret (d + 1) mc ms Q pc ls st w x y := by
  obtain ⟨T0, ty, hcl0, hin, hty, hfs, hinst, hini, him, hcd, hnm, hne, hpar, h80⟩ := mk
  intro p e R s m args below meth c E hN hz H locs lsA hH hS hl
  refine w_size fun hsz => ?_
  have hle := hH.le
  have hh : H.size = G.b0 + w.length := by omega
  have hC := E.2.2.2.2.2.2.2.2.2.2
  have hts := E.2.2.2.2.2.2.1
  have hR := E.2.2.2.2.2.2.2.2.2.1
  have hKn := E.2.2.2.2.2.2.2.1.1.1 ci _ hcl0
  refine W.newcK (g := F0 m pc lsA st) E.1 E.2.1 E.2.2.2.2.2.1 (hts _ hcl) (hts _ hinst) (hts _ hini) rfl hd1 (by omega) (by omega) hKn.2.1 hh fun H1 kC hkC e1 z1 o1 => ?_
  have hH1 : HN G (w ++ [.inr (ci, fs)]) H1 := wm_born hH hh o1 z1 ⟨_, hcl0, (u_born ty hts hin hKn hkC e1 hty).to hfs⟩
  have hS1 := va_S_born hS hh o1 z1
  refine lv_dup (va := .ref (G.b0 + w.length)) E.1 E.2.1 hd2 rfl ?_
  have hcat : (((.ref (G.b0 + w.length) : Value) :: st).map fun v => v.category).sum ≤ 8 := by
    rw [List.map_cons, List.sum_cons]
    show 1 + _ ≤ 8
    omega
  have hrun := va_runI (p := p) (e := e) (below := below) (meth := meth) (H := H1) (locs := locs) (cells := x + 1) (slots := y + N) (g := F0 m (pc + 3 + 1) lsA (.ref (G.b0 + w.length) :: .ref (G.b0 + w.length) :: st)) (As := []) (rest := .ref (G.b0 + w.length) :: st) (n := 0) (index := i2) (Ts := TB) (own := own) ⟨E.1, E.2.1, E.2.2.1, E.2.2.2.2.2.1, hts⟩ hM ⟨⟨rfl, rfl, hR.1, by show 8 + (nl + 11) + 100 * d ≤ R.locals; have h2 := hR.2; omega, tb_pay (M := (yM, c0, nl, none)) hts hcd, List.mem_cons_self, hts _ hcd, hts _ hini, hne, tb_len hpar, hts _ hlk⟩, hnm, hts _ him⟩ ⟨mk_blind, fun U hU hW => ⟨rfl, by rw [hU]; omega, by rw [hU]; exact hH1, E.2.2.2.2.2.2.2.1.warm hW, va_AO.moved hW.alike hN.2.1, va_AO.moved hW.alike hN.2.2⟩⟩ rfl rfl hl.1 rfl (lv_room hcat) hd3 ⟨by omega, by omega⟩
  intro T hT X
  obtain ⟨v, st₀, t, T', L, h0, X', hL, e1', e2', ⟨⟨hv, hH'⟩, hz', hk'⟩, stp⟩ := hrun T hT X
  cases hv
  rw [h0] at hz' hk'
  have hS' : va_S (GA G) s.heap T'.heap (locs ++ L) := ⟨Nat.le_trans hS1.1 (by rw [e1']; exact hz'), fun q h1 h2 => by rw [e1', hk' q (Nat.lt_of_lt_of_le h1 hS1.1) h2]; exact hS1.2.1 q h1 h2, fun q hq => by
    rcases List.mem_append.mp hq with h | h
    · exact hS1.2.2 q h
    · exact hL q h⟩
  obtain ⟨t2, a1, b1⟩ := k p e R s m args below meth c E hN (by rw [List.length_append, hbl]; omega) T'.heap (locs ++ L) lsA (by rw [e1']; exact hH') hS' hl T' rfl X'
  exact ⟨t2, stp t2 a1, b1⟩
end Make
