section Calls
variable {G : GT} {own : String} {cc : ByteArray} {nL : Nat} {ret : Option FieldType} {d : Nat} {Q : QT} {pc : Nat} {ls : LT} {st : List Value} {h : HT}
/-- what the tables say of a method of ours: of an instance, of a class -/
def MKv (M : MT) (n : Nat) : Prop := Cond.instanceMethod M.1 ∈ TB ∧ Cond.selects M.1.cls M.1 M.1 ∈ TB ∧ Cond.initialized M.1.cls ∈ TB ∧ Cond.code M.1 M.2.1 M.2.2.1 M.2.2.2 ∈ TB ∧ (M.1.cls ≠ "java/lang/invoke/MethodHandle" ∧ M.1.cls ≠ "java/lang/invoke/VarHandle") ∧ (parseMethodDescriptor M.1.desc).map (fun d => d.parameters.length) = some n ∧ M.2.2.1 ≤ 80
def MKs (M : MT) (n : Nat) : Prop := Cond.static M.1 ∈ TB ∧ Cond.initialized M.1.cls ∈ TB ∧ Cond.code M.1 M.2.1 M.2.2.1 M.2.2.2 ∈ TB ∧ (M.1.cls ≠ "java/lang/invoke/MethodHandle" ∧ M.1.cls ≠ "java/lang/invoke/VarHandle") ∧ (parseMethodDescriptor M.1.desc).map (fun d => d.parameters.length) = some n ∧ M.2.2.1 ≤ 80
theorem tb_pay {args : Array Value} {s : State} (hts : ∀ w ∈ TB, w.before args s = true) {M : MT} (hc : Cond.code M.1 M.2.1 M.2.2.1 M.2.2.2 ∈ TB) : ∀ w ∈ (Cond.code M.1 M.2.1 M.2.2.1 M.2.2.2 :: TB), ∀ (a' : Array Value) (U : State), s.WarmedH U.vm → w.before a' U = true := by
  intro w hw a' U hW
  have hm : w ∈ TB := by
    rcases List.mem_cons.mp hw with rfl | hw
    · exact hc
    · exact hw
  exact word_at hW (TB_good hm) (hts w hm)
theorem tb_len {y : MethodName} {n : Nat} (h2 : (parseMethodDescriptor y.desc).map (fun d => d.parameters.length) = some n) : ∀ sig, parseMethodDescriptor y.desc = some sig → n = sig.parameters.length := by
  intro sig h
  rw [h] at h2
  exact (Option.some.inj h2).symm
theorem fn_blind {G : GT} {av : List Value} {h : HT} : FrameBlind (va_Pc av (fun U => HP G h U.heap ∧ Kn G U)) := fun a U g mk q => ⟨q.1, q.2.1, Kn.same rfl q.2.2⟩
/-- behind a call -/
theorem bb_after {Post : Option Value → HT → Prop} {p : Program} {e : Env} {R : Room} {s : State} {m : MethodId} {args : Array Value} {below : List Frame} {meth : Method} {c : Code} {cells slots : Nat} {H : Heap} {locs : List Loc} {lsA : Array Slot} {st0 : List Value} {a : Array Value}
    (E : EnvOk G own cc nL ret d p R s m args meth c cells slots) (hS : va_S (GA G) s.heap H locs) (hl : LH lsA nL ls)
    (hr : va_Run p G.l e R s m args below meth c H locs cells slots 0 0 (F0 m pc lsA st0) st (QcOf G Post a) (GA G))
    (k : ∀ (r : Option Value) (h' : HT), Post r h' → BB G own cc nL ret d Q (pc + 3) ls (r.toList ++ st) h') : W p G.l e R s m args below meth c H locs cells slots (Q p e R s m args below meth c cells slots) (F0 m pc lsA st0) := by
  intro T hT X
  obtain ⟨v, st₀, t, T', L, h0, X', hL, e1, e2, ⟨⟨r, h', hv, hp, hH'⟩, hz, hk⟩, stp⟩ := hr T hT X
  cases hv
  rw [h0] at hz hk
  have hS' : va_S (GA G) s.heap T'.heap (locs ++ L) := ⟨Nat.le_trans hS.1 (by rw [e1]; exact hz), fun q h1 h2 => by rw [e1, hk q (Nat.lt_of_lt_of_le h1 hS.1) h2]; exact hS.2.1 q h1 h2, fun q hq => by
    rcases List.mem_append.mp hq with h | h
    · exact hS.2.2 q h
    · exact hL q h⟩
  obtain ⟨t2, a1, b1⟩ := k v h' hp p e R s m args below meth c cells slots E T'.heap (locs ++ L) lsA (by rw [e1]; exact hH') hS' hl T' rfl X'
  exact ⟨t2, stp t2 a1, b1⟩
theorem b_callV {Post : Option Value → HT → Prop} {M : MT} {idx n ci a : Nat} {fs : List Value} {q : vw_C} (As : List Value) {st0 : List Value} (hd : decode cc pc = .ok (.invokevirtual idx, 3)) (mk : MKv M n) (hlk : Cond.methodLink own idx M.1 ∈ TB) (ha : a < G.nC) (he : h a = .inr (ci, fs)) (hc : vwCl[ci]? = some q) (hq : q.1 = M.1.cls)
    (hM : Fn G d M (.ref (G.b0 + a) :: As) h Post) (hn : As.length = n) (hst : st0 = As.reverse ++ .ref (G.b0 + a) :: st) (hw : (st.map fun v => v.category).sum ≤ 8)
    (k : ∀ (r : Option Value) (h' : HT), Post r h' → BB G own cc nL ret (d + 1) Q (pc + 3) ls (r.toList ++ st) h') : BB G own cc nL ret (d + 1) Q pc ls st0 h := by
  intro p e R s m args below meth c cells slots E H locs lsA hH hS hl
  obtain ⟨mk1, mk2, mk3, mk4, mk5, mk6, mk7⟩ := mk
  have hts := E.2.2.2.2.2.2.1
  have hR := E.2.2.2.2.2.2.2.2.2.1
  have hC := E.2.2.2.2.2.2.2.2.2.2
  refine bb_after E hS hl (va_runV (As := As) (rest := st) (C := M.1.cls) (n := n) (index := idx) (Ts := TB) (own := own) ⟨E.1, E.2.1, E.2.2.1, E.2.2.2.2.2.1, hts⟩ hM ⟨⟨rfl, rfl, hR.1, ?_, tb_pay hts mk4, List.mem_cons_self, hts _ mk4, hts _ mk3, mk5, tb_len mk6, hts _ hlk⟩, hts _ mk1, hts _ mk2⟩ ⟨fn_blind, ?_, fun U hU hW => ⟨rfl, by rw [hU]; exact hH, E.2.2.2.2.2.2.2.1.warm hW⟩⟩ rfl hn hl.1 hst (lv_room hw) hd ⟨hC.1, hC.2⟩) k
  · have h2 := hR.2
    show 8 + (M.2.2.1 + 11) + 100 * d ≤ R.locals
    omega
  · rw [← hq]
    exact va_recv E.2.2.2.2.2.2.2.1.1 hH.2.2 hc (q0 := a) (by rw [wl_at ha, he])
theorem b_callS {Post : Option Value → HT → Prop} {M : MT} {idx n : Nat} (As : List Value) {st0 : List Value} (hd : decode cc pc = .ok (.invokestatic idx, 3)) (mk : MKs M n) (hlk : Cond.methodLink own idx M.1 ∈ TB)
    (hM : Fn G d M As h Post) (hn : As.length = n) (hst : st0 = As.reverse ++ st) (hw : (st.map fun v => v.category).sum ≤ 8)
    (k : ∀ (r : Option Value) (h' : HT), Post r h' → BB G own cc nL ret (d + 1) Q (pc + 3) ls (r.toList ++ st) h') : BB G own cc nL ret (d + 1) Q pc ls st0 h := by
  intro p e R s m args below meth c cells slots E H locs lsA hH hS hl
  obtain ⟨mk1, mk3, mk4, mk5, mk6, mk7⟩ := mk
  have hts := E.2.2.2.2.2.2.1
  have hR := E.2.2.2.2.2.2.2.2.2.1
  have hC := E.2.2.2.2.2.2.2.2.2.2
  refine bb_after E hS hl (va_runS (As := As) (rest := st) (n := n) (index := idx) (Ts := TB) (own := own) ⟨E.1, E.2.1, E.2.2.1, E.2.2.2.2.2.1, hts⟩ hM ⟨⟨rfl, rfl, hR.1, ?_, tb_pay hts mk4, List.mem_cons_self, hts _ mk4, hts _ mk3, mk5, tb_len mk6, hts _ hlk⟩, hts _ mk1⟩ ⟨fn_blind, fun U hU hW => ⟨rfl, by rw [hU]; exact hH, E.2.2.2.2.2.2.2.1.warm hW⟩⟩ rfl hn hl.1 hst (lv_room hw) hd ⟨hC.1, hC.2⟩) k
  have h2 := hR.2
  show 8 + (M.2.2.1 + 11) + 100 * d ≤ R.locals
  omega
/-- a private static method of another class of the nest -/
theorem b_callSN {Post : Option Value → HT → Prop} {M : MT} {idx n : Nat} {host : String} (As : List Value) {st0 : List Value} (hd : decode cc pc = .ok (.invokestatic idx, 3)) (mk : MKs M n) (hlk : ∀ U, Kn G U → va_Nw (.methodLinkNest own idx M.1 host) U)
    (hM : Fn G d M As h Post) (hn : As.length = n) (hst : st0 = As.reverse ++ st) (hw : (st.map fun v => v.category).sum ≤ 8)
    (k : ∀ (r : Option Value) (h' : HT), Post r h' → BB G own cc nL ret (d + 1) Q (pc + 3) ls (r.toList ++ st) h') : BB G own cc nL ret (d + 1) Q pc ls st0 h := by
  intro p e R s m args below meth c cells slots E H locs lsA hH hS hl
  obtain ⟨mk1, mk3, mk4, mk5, mk6, mk7⟩ := mk
  have hts := E.2.2.2.2.2.2.1
  have hR := E.2.2.2.2.2.2.2.2.2.1
  have hC := E.2.2.2.2.2.2.2.2.2.2
  refine bb_after E hS hl (va_runSN (As := As) (rest := st) (n := n) (index := idx) (Ts := TB) (own := own) ⟨E.1, E.2.1, E.2.2.1, E.2.2.2.2.2.1, hts⟩ hM ⟨⟨⟨rfl, rfl, hR.1, ?_, tb_pay hts mk4, List.mem_cons_self⟩, hts _ mk4, hts _ mk3, mk5, tb_len mk6, va_Nw.use rfl (hlk s E.2.2.2.2.2.2.2.1)⟩, hts _ mk1, trivial⟩ ⟨fn_blind, fun U hU hW => ⟨rfl, by rw [hU]; exact hH, E.2.2.2.2.2.2.2.1.warm hW⟩⟩ rfl hn hl.1 hst (lv_room hw) hd ⟨hC.1, hC.2⟩) k
  have h2 := hR.2
  show 8 + (M.2.2.1 + 11) + 100 * d ≤ R.locals
  omega
/-- answers that are told: the same with 'Ret' -/
theorem b_callVr {M : MT} {idx n ci a : Nat} {fs : List Value} {q : vw_C} {v : Option Value} {h' : HT} (As : List Value) {st0 : List Value} (hd : decode cc pc = .ok (.invokevirtual idx, 3)) (mk : MKv M n) (hlk : Cond.methodLink own idx M.1 ∈ TB) (ha : a < G.nC) (he : h a = .inr (ci, fs)) (hc : vwCl[ci]? = some q) (hq : q.1 = M.1.cls)
    (hM : Fn G d M (.ref (G.b0 + a) :: As) h (Ret v h')) (hn : As.length = n) (hst : st0 = As.reverse ++ .ref (G.b0 + a) :: st) (hw : (st.map fun v => v.category).sum ≤ 8)
    (k : BB G own cc nL ret (d + 1) Q (pc + 3) ls (v.toList ++ st) h') : BB G own cc nL ret (d + 1) Q pc ls st0 h :=
  b_callV As hd mk hlk ha he hc hq hM hn hst hw (fun r g hp => by obtain ⟨rfl, rfl⟩ := hp; exact k)
theorem b_callSr {M : MT} {idx n : Nat} {v : Option Value} {h' : HT} (As : List Value) {st0 : List Value} (hd : decode cc pc = .ok (.invokestatic idx, 3)) (mk : MKs M n) (hlk : Cond.methodLink own idx M.1 ∈ TB)
    (hM : Fn G d M As h (Ret v h')) (hn : As.length = n) (hst : st0 = As.reverse ++ st) (hw : (st.map fun v => v.category).sum ≤ 8)
    (k : BB G own cc nL ret (d + 1) Q (pc + 3) ls (v.toList ++ st) h') : BB G own cc nL ret (d + 1) Q pc ls st0 h :=
  b_callS As hd mk hlk hM hn hst hw (fun r g hp => by obtain ⟨rfl, rfl⟩ := hp; exact k)
/-- a weaker end -/
theorem Fn.mono {M : MT} {av : List Value} {P P' : Option Value → HT → Prop} (hM : Fn G d M av h P) (hp : ∀ r g, P r g → P' r g) : Fn G d M av h P' := by
  intro p e ha hc hk s m args below hf hfit hP
  intro hK
  obtain ⟨k, o, h1, h2, h3, ⟨⟨r, h', q1, q2, q3⟩, q4⟩, q5⟩ := hM p e ha hc hk s m args below hf hfit hP hK
  exact ⟨k, o, h1, h2, h3, ⟨⟨r, h', q1, hp _ _ q2, q3⟩, q4⟩, q5⟩
end Calls
