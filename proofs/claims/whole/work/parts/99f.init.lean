/-! ===== constructors ===== -/
def zf : Nat → Int32 := fun _ => 0
def zl : Nat → Int64 := fun _ => 0
abbrev apE (a b : List va_E) : List va_E := a ++ b
section MakeA
variable {G : GT} {own : String} {cc : ByteArray} {nL : Nat} {ret : Option FieldType} {d mc ms : Nat} {Q : QT} {pc : Nat} {ls : LT} {st : List Value} {w l : List va_E} {x y n : Nat}
theorem ap_at {k : Nat} : (w ++ l)[w.length + k]? = l[k]? := by
  rw [List.getElem?_append_right (by omega), Nat.add_sub_cancel_left]
theorem ap_set {k : Nat} {e : va_E} : (w ++ l).set (w.length + k) e = w ++ l.set k e := by
  rw [List.set_append_right _ _ (by omega), Nat.add_sub_cancel_left]
theorem n_arrA {atype : ArrayType} {ty : FieldType} {t0 N : Nat} {v : Int32} {a0 : vp_A} (hl : l.length = n) (hd : decode cc pc = .ok (.newarray atype, 2)) (hac : Cond.arrayClass ty ∈ TB) (hty : newarray.typeOf atype = ty) (ht : (tysG G)[t0]? = some (G.ci t0, ty)) (hra : ∀ (U : State) (cA : ClassId), va_RA U cA ty → U.vm.findClass ("[" ++ ty.toString) = some cA) (ha : ∀ cA : ClassId, vp_cell cA a0 = arrV cA N (fun _ => defaultValue ty)) (hn : ¬ v < 0) (hN0 : v.toNatClampNeg = N) (hby : N * componentBytes ty ≤ 536870912) (hc : x + 1 ≤ mc) (hs : y + N ≤ ms)
    (k : BN G own cc nL ret d mc ms Q (pc + 2) ls (.ref (G.b0 + (w.length + n)) :: st) (w ++ (l ++ [.inl (G.ci t0, a0)])) (x + 1) (y + N)) : BN G own cc nL ret d mc ms Q pc ls (.int v :: st) (w ++ l) x y := by
  refine n_arr hd hac hty ht hra ha hn hN0 hby hc hs ?_
  rw [List.length_append, hl, List.append_assoc]
  exact k
theorem n_anewA {idx t0 N : Nat} {v : Int32} {C : String} (hl : l.length = n) (hd : decode cc pc = .ok (.anewarray idx, 3)) (hcl : Cond.classLink own idx C ∈ TB) (hC0 : C = RX6 ∨ C = RX1) (ht : (tysG G)[t0]? = some (G.ci t0, .object C)) (hn : ¬ v < 0) (hN0 : v.toNatClampNeg = N) (hby : N * 4 ≤ 536870912) (hc : x + 1 ≤ mc) (hs : y + N ≤ ms)
    (k : BN G own cc nL ret d mc ms Q (pc + 3) ls (.ref (G.b0 + (w.length + n)) :: st) (w ++ (l ++ [.inl (G.ci t0, N, .inr (.inr (.inr (.inr (fun _ => none)))))])) (x + 1) (y + N)) : BN G own cc nL ret d mc ms Q pc ls (.int v :: st) (w ++ l) x y := by
  refine n_anew hd hcl hC0 ht hn hN0 hby hc hs ?_
  rw [List.length_append, hl, List.append_assoc]
  exact k
theorem n_putFA {idx ci j b : Nat} {fs : List Value} (hd : decode cc pc = .ok (.putfield idx, 3)) (hg : GFf own idx ci j) (hl : j < fs.length) (k : BN G own cc nL ret d mc ms Q (pc + 3) ls st (w ++ (.inr (ci, fs.set j (.ref b)) :: l)) x y) : BN G own cc nL ret d mc ms Q (pc) ls (.ref b :: .ref (G.b0 + w.length) :: st) (w ++ (.inr (ci, fs) :: l)) x y := by
  refine n_putF hd hg (fs := fs) (ap_at (k := 0)) hl ?_
  have e := ap_set (w := w) (l := .inr (ci, fs) :: l) (k := 0) (e := .inr (ci, fs.set j (.ref b)))
  rw [Nat.add_zero] at e
  rw [e]
  exact k
theorem n_putA {idx ci j : Nat} {fs : List Value} {v : Int32} (hd : decode cc pc = .ok (.putfield idx, 3)) (hg : GFw own idx ci j) (hl : j < fs.length) (hx : ∃ C T N, vwCl[ci]? = some (C, T, N) ∧ parseFieldDescriptor (T j).2.2.1 = some .int) (k : BN G own cc nL ret d mc ms Q (pc + 3) ls st (w ++ (.inr (ci, fs.set j (.int v)) :: l)) x y) : BN G own cc nL ret d mc ms Q (pc) ls (.int v :: .ref (G.b0 + w.length) :: st) (w ++ (.inr (ci, fs) :: l)) x y := by
  refine n_put hd hg (fs := fs) (ap_at (k := 0)) hl hx ?_
  have e := ap_set (w := w) (l := .inr (ci, fs) :: l) (k := 0) (e := .inr (ci, fs.set j (.int v)))
  rw [Nat.add_zero] at e
  rw [e]
  exact k
theorem n_getA {idx ci j : Nat} {fs : List Value} {v : Value} (hd : decode cc pc = .ok (.getfield idx, 3)) (hg : GF own idx ci j) (hv : fs[j]? = some v) (k : BN G own cc nL ret d mc ms Q (pc + 3) ls (v :: st) (w ++ (.inr (ci, fs) :: l)) x y) : BN G own cc nL ret d mc ms Q (pc) ls (.ref (G.b0 + w.length) :: st) (w ++ (.inr (ci, fs) :: l)) x y :=
  n_getf hd hg (fs := fs) (ap_at (k := 0)) hv k
theorem n_iastA {N j : Nat} {f : Nat → Int32} {i v : Int32} (hd : decode cc pc = .ok (.iastore, 1)) (he : l[n]? = some (.inl (G.ci 0, N, .inl f))) (hi : i = nI j) (hj : j < N) (hn : N < 2 ^ 31) (k : BN G own cc nL ret d mc ms Q (pc + 1) ls st (w ++ l.set n (.inl (G.ci 0, N, .inl (upd f j v)))) x y) : BN G own cc nL ret d mc ms Q (pc) ls (.int v :: .int i :: .ref (G.b0 + (w.length + n)) :: st) (w ++ l) x y := by
  refine n_iast hd (ap_at.trans he) hi hj hn ?_
  rw [ap_set]
  exact k
theorem n_aastA {N j t0 qk ci : Nat} {r : vw_C} {vs : List Value} {f : Nat → Option Nat} {i : Int32} (hd : decode cc pc = .ok (.aastore, 1)) (he : l[n]? = some (.inl (G.ci t0, N, .inr (.inr (.inr (.inr f)))))) (ht : (tysG G)[t0]? = some (G.ci t0, .object r.1)) (hv : l[qk]? = some (.inr (ci, vs))) (hc : vwCl[ci]? = some r) (hi : i = nI j) (hj : j < N) (hn : N < 2 ^ 31) (k : BN G own cc nL ret d mc ms Q (pc + 1) ls st (w ++ l.set n (.inl (G.ci t0, N, .inr (.inr (.inr (.inr (va_up f j (some (G.b0 + (w.length + qk))))))))) ) x y) : BN G own cc nL ret d mc ms Q (pc) ls (.ref (G.b0 + (w.length + qk)) :: .int i :: .ref (G.b0 + (w.length + n)) :: st) (w ++ l) x y := by
  refine n_aast hd (ap_at.trans he) ht (ap_at.trans hv) hc hi hj hn ?_
  rw [ap_set]
  exact k
theorem n_makeA {yM : MethodName} {c0 : ByteArray} {nl i1 i2 ci N mc' ms' : Nat} {fs : List Value} {bl : List va_E} (hl : l.length = n) (hd1 : decode cc pc = .ok (.new i1, 3)) (hd2 : decode cc (pc + 3) = .ok (.dup, 1)) (hd3 : decode cc (pc + 3 + 1) = .ok (.invokespecial i2, 3)) (mk : MKi yM c0 nl ci N fs) (hcl : Cond.classLink own i1 yM.cls ∈ TB) (hlk : Cond.methodLink own i2 yM ∈ TB) (hM : Mk G d yM c0 nl mc' ms' (w ++ l) (.inr (ci, fs)) bl) (hbl : bl.length = mc' + 1) (hw : (st.map fun v => v.category).sum ≤ 7) (hc : x + 1 + mc' ≤ mc) (hs : y + N + ms' ≤ ms)
    (k : BN G own cc nL ret (d + 1) mc ms Q (pc + 3 + 1 + 3) ls (.ref (G.b0 + (w.length + n)) :: st) (w ++ (l ++ bl)) (x + 1 + mc') (y + N + ms')) : BN G own cc nL ret (d + 1) mc ms Q pc ls st (w ++ l) x y := by
  refine n_make hd1 hd2 hd3 mk hcl hlk hM hbl hw hc hs ?_
  rw [List.length_append, hl, List.append_assoc]
  exact k
/-- the cell made last, an int array, is written -/
theorem n_iastL {N j : Nat} {f : Nat → Int32} {i v : Int32} (hl : l.length = n) (hd : decode cc pc = .ok (.iastore, 1)) (hi : i = nI j) (hj : j < N) (hn : N < 2 ^ 31) (k : BN G own cc nL ret d mc ms Q (pc + 1) ls st (w ++ (l ++ [.inl (G.ci 0, N, .inl (upd f j v))])) x y) : BN G own cc nL ret d mc ms Q (pc) ls (.int v :: .int i :: .ref (G.b0 + (w.length + n)) :: st) (w ++ (l ++ [.inl (G.ci 0, N, .inl f)])) x y := by
  subst hl
  have h0 : (l ++ [(.inl (G.ci 0, N, .inl f) : va_E)])[l.length]? = some (.inl (G.ci 0, N, .inl f)) := by
    rw [List.getElem?_append_right (Nat.le_refl _), Nat.sub_self]
    rfl
  refine n_iast hd (ap_at.trans h0) hi hj hn ?_
  rw [ap_set, List.set_append_right _ _ (Nat.le_refl _), Nat.sub_self]
  exact k
/-- a reference into the array of rows, of images: they stand behind l, then what was made since -/
theorem n_aastR {N j t0 ci m : Nat} {r : vw_C} {vs : List Value} {f : Nat → Option Nat} {i : Int32} {e2 : va_E} {B B1 : List va_E} (hl : l.length = n) (hB : B.length = m) (hd : decode cc pc = .ok (.aastore, 1)) (ht : (tysG G)[t0]? = some (G.ci t0, .object r.1)) (hc : vwCl[ci]? = some r) (hi : i = nI j) (hj : j < N) (hn : N < 2 ^ 31) (k : BN G own cc nL ret d mc ms Q (pc + 1) ls st (w ++ (l ++ (.inl (G.ci t0, N, .inr (.inr (.inr (.inr (va_up f j (some (G.b0 + (w.length + (n + 2 + m))))))))) :: e2 :: (B ++ (.inr (ci, vs) :: B1))))) x y) : BN G own cc nL ret d mc ms Q (pc) ls (.ref (G.b0 + (w.length + (n + 2 + m))) :: .int i :: .ref (G.b0 + (w.length + n)) :: st) (w ++ (l ++ (.inl (G.ci t0, N, .inr (.inr (.inr (.inr f)))) :: e2 :: (B ++ (.inr (ci, vs) :: B1))))) x y := by
  subst hl
  subst hB
  have h0 : (l ++ ((.inl (G.ci t0, N, .inr (.inr (.inr (.inr f)))) : va_E) :: e2 :: (B ++ (.inr (ci, vs) :: B1))))[l.length]? = some (.inl (G.ci t0, N, .inr (.inr (.inr (.inr f))))) := by
    rw [List.getElem?_append_right (Nat.le_refl _), Nat.sub_self]
    rfl
  have h1 : (l ++ ((.inl (G.ci t0, N, .inr (.inr (.inr (.inr f)))) : va_E) :: e2 :: (B ++ (.inr (ci, vs) :: B1))))[l.length + 2 + B.length]? = some (.inr (ci, vs)) := by
    rw [List.getElem?_append_right (by omega), show l.length + 2 + B.length - l.length = B.length + 1 + 1 by omega, List.getElem?_cons_succ, List.getElem?_cons_succ, List.getElem?_append_right (Nat.le_refl _), Nat.sub_self]
    rfl
  refine n_aast hd (ap_at.trans h0) ht (ap_at.trans h1) hc hi hj hn ?_
  rw [ap_set, List.set_append_right _ _ (Nat.le_refl _), Nat.sub_self]
  exact k
theorem n_aastI {N j t0 ci m : Nat} {r : vw_C} {vs : List Value} {f : Nat → Option Nat} {i : Int32} {e2 : va_E} {B B1 : List va_E} (hl : l.length = n) (hB : B.length = m) (hd : decode cc pc = .ok (.aastore, 1)) (ht : (tysG G)[t0]? = some (G.ci t0, .object r.1)) (hc : vwCl[ci]? = some r) (hi : i = nI j) (hj : j < N) (hn : N < 2 ^ 31) (k : BN G own cc nL ret d mc ms Q (pc + 1) ls st (w ++ (l ++ (e2 :: .inl (G.ci t0, N, .inr (.inr (.inr (.inr (va_up f j (some (G.b0 + (w.length + (n + 2 + m))))))))) :: (B ++ (.inr (ci, vs) :: B1))))) x y) : BN G own cc nL ret d mc ms Q (pc) ls (.ref (G.b0 + (w.length + (n + 2 + m))) :: .int i :: .ref (G.b0 + (w.length + (n + 1))) :: st) (w ++ (l ++ (e2 :: .inl (G.ci t0, N, .inr (.inr (.inr (.inr f)))) :: (B ++ (.inr (ci, vs) :: B1))))) x y := by
  subst hl
  subst hB
  have h0 : (l ++ (e2 :: (.inl (G.ci t0, N, .inr (.inr (.inr (.inr f)))) : va_E) :: (B ++ (.inr (ci, vs) :: B1))))[l.length + 1]? = some (.inl (G.ci t0, N, .inr (.inr (.inr (.inr f))))) := by
    rw [List.getElem?_append_right (by omega), Nat.add_sub_cancel_left]
    rfl
  have h1 : (l ++ (e2 :: (.inl (G.ci t0, N, .inr (.inr (.inr (.inr f)))) : va_E) :: (B ++ (.inr (ci, vs) :: B1))))[l.length + 2 + B.length]? = some (.inr (ci, vs)) := by
    rw [List.getElem?_append_right (by omega), show l.length + 2 + B.length - l.length = B.length + 1 + 1 by omega, List.getElem?_cons_succ, List.getElem?_cons_succ, List.getElem?_append_right (Nat.le_refl _), Nat.sub_self]
    rfl
  refine n_aast hd (ap_at.trans h0) ht (ap_at.trans h1) hc hi hj hn ?_
  rw [ap_set, List.set_append_right _ _ (by omega), Nat.add_sub_cancel_left]
  exact k
theorem swE {o r i : va_E} {A : List va_E} : o :: apE A [r, i] = (o :: A) ++ (r :: i :: []) := by
  simp only [apE, List.append_assoc, List.cons_append, List.nil_append]
theorem n_eqL {l' : List va_E} (e : l = l') (k : BN G own cc nL ret d mc ms Q pc ls st (w ++ l') x y) : BN G own cc nL ret d mc ms Q pc ls st (w ++ l) x y := e ▸ k
theorem n_eq {w' : List va_E} (e : w = w') (k : BN G own cc nL ret d mc ms Q pc ls st w' x y) : BN G own cc nL ret d mc ms Q pc ls st w x y := e ▸ k
/-- an object is made behind the two arrays -/
theorem n_makeS {yM : MethodName} {c0 : ByteArray} {nl i1 i2 ci N mc' ms' m : Nat} {fs : List Value} {bl B : List va_E} {e1 e2 : va_E} (hl : l.length = n) (hB : B.length = m) (hd1 : decode cc pc = .ok (.new i1, 3)) (hd2 : decode cc (pc + 3) = .ok (.dup, 1)) (hd3 : decode cc (pc + 3 + 1) = .ok (.invokespecial i2, 3)) (mk : MKi yM c0 nl ci N fs) (hcl : Cond.classLink own i1 yM.cls ∈ TB) (hlk : Cond.methodLink own i2 yM ∈ TB) (hM : ∀ w' : List va_E, w'.length = w.length + (n + 2 + m) → Mk G d yM c0 nl mc' ms' w' (.inr (ci, fs)) bl) (hbl : bl.length = mc' + 1) (hw : (st.map fun v => v.category).sum ≤ 7) (hc : x + 1 + mc' ≤ mc) (hs : y + N + ms' ≤ ms)
    (k : BN G own cc nL ret (d + 1) mc ms Q (pc + 3 + 1 + 3) ls (.ref (G.b0 + (w.length + (n + 2 + m))) :: st) (w ++ (l ++ (e1 :: e2 :: (B ++ bl)))) (x + 1 + mc') (y + N + ms')) : BN G own cc nL ret (d + 1) mc ms Q pc ls st (w ++ (l ++ (e1 :: e2 :: B))) x y := by
  have e0 : (w ++ (l ++ (e1 :: e2 :: B))).length = w.length + (n + 2 + m) := by
    rw [List.length_append, List.length_append, List.length_cons, List.length_cons, hl, hB]
    omega
  refine n_make hd1 hd2 hd3 mk hcl hlk (hM _ e0) hbl hw hc hs ?_
  rw [e0, List.append_assoc, List.append_assoc, List.cons_append, List.cons_append]
  exact k
end MakeA
abbrev bk9 : List Value := [.null, .null, .null, .int 0]
theorem mkf9 : ∀ j, j < 4 → defaultValue (tyX9 j) = vp_V bk9 j := fun j hj => match j, hj with
  | 0, _ => rfl
  | 1, _ => rfl
  | 2, _ => rfl
  | 3, _ => rfl
  | n + 4, h => absurd h (by omega)
theorem mki9 : MKi yX9_init cX9_init 1 9 4 bk9 := ⟨TX9, tyX9, rfl, uX9, tyX9_ok, mkf9, insX9, iniX9, imX9_init, cdX9_init, rfl, ⟨by decide +kernel, by decide +kernel⟩, by decide +kernel, by decide⟩
def bl9 (G : GT) (a : Nat) : List va_E := .inr (9, fl9 G.b0 a zf) :: ([.inl (G.ci 0, 901, .inl zf), .inl (G.ci 0, 901, .inl zf), .inl (G.ci 0, 901, .inl zf)])
theorem ffX9_9 : GFf RX9 9 9 0 := ⟨RX9, TX9, 4, tyX9, rfl, by decide, uX9, flX9_9, tyX9_ok, nmX9, rfl, rfl, by decide +kernel, fun _ => ⟨rfl, rfl⟩⟩
theorem ffX9_15 : GFf RX9 15 9 1 := ⟨RX9, TX9, 4, tyX9, rfl, by decide, uX9, flX9_15, tyX9_ok, nmX9, rfl, rfl, by decide +kernel, fun _ => ⟨rfl, rfl⟩⟩
theorem ffX9_18 : GFf RX9 18 9 2 := ⟨RX9, TX9, 4, tyX9, rfl, by decide, uX9, flX9_18, tyX9_ok, nmX9, rfl, rfl, by decide +kernel, fun _ => ⟨rfl, rfl⟩⟩
theorem mk_X9 {G : GT} {d : Nat} {w : List va_E} {a : Nat} (ha : w.length = a) : Mk G (d + 1) yX9_init cX9_init 1 3 2703 w (.inr (9, bk9)) (bl9 G a) := by
  subst ha
  refine mk_of (by decide +kernel) rfl (by decide) 0 rfl ?_
  refine n_aload_n dX9_init_0 rfl ?_
  refine n_obj dX9_init_1 lX9_3 (by decide) ?_
  refine n_aload_n dX9_init_4 rfl ?_
  refine n_sipush (v := nI 901) dX9_init_5 (by decide) ?_
  refine n_arrA (l := [.inr (9, [.null, .null, .null, .int 0])]) (n := 1) (N := 901) (t0 := 0) (a0 := (901, .inl zf)) (v := nI 901) (x := 0) (y := 0) (mc := 3) (ms := 2703) rfl dX9_init_8 ac_int rfl rfl (fun _ _ h => h) (fun _ => rfl) (by decide) (by decide) (Nat.le_of_ble_eq_true rfl) (Nat.le_of_ble_eq_true rfl) (Nat.le_of_ble_eq_true rfl) ?_
  refine n_putFA (l := [.inl (G.ci 0, 901, .inl zf)]) (fs := [.null, .null, .null, .int 0]) dX9_init_10 ffX9_9 (Nat.le_of_ble_eq_true rfl) ?_
  refine n_aload_n dX9_init_13 rfl ?_
  refine n_sipush (v := nI 901) dX9_init_14 (by decide) ?_
  refine n_arrA (l := .inr (9, [.ref (G.b0 + (w.length + 1)), .null, .null, .int 0]) :: [.inl (G.ci 0, 901, .inl zf)]) (n := 2) (N := 901) (t0 := 0) (a0 := (901, .inl zf)) (v := nI 901) (x := 1) (y := 901) (mc := 3) (ms := 2703) rfl dX9_init_17 ac_int rfl rfl (fun _ _ h => h) (fun _ => rfl) (by decide) (by decide) (Nat.le_of_ble_eq_true rfl) (Nat.le_of_ble_eq_true rfl) (Nat.le_of_ble_eq_true rfl) ?_
  refine n_putFA (l := [.inl (G.ci 0, 901, .inl zf), .inl (G.ci 0, 901, .inl zf)]) (fs := [.ref (G.b0 + (w.length + 1)), .null, .null, .int 0]) dX9_init_19 ffX9_15 (Nat.le_of_ble_eq_true rfl) ?_
  refine n_aload_n dX9_init_22 rfl ?_
  refine n_sipush (v := nI 901) dX9_init_23 (by decide) ?_
  refine n_arrA (l := .inr (9, [.ref (G.b0 + (w.length + 1)), .ref (G.b0 + (w.length + 2)), .null, .int 0]) :: [.inl (G.ci 0, 901, .inl zf), .inl (G.ci 0, 901, .inl zf)]) (n := 3) (N := 901) (t0 := 0) (a0 := (901, .inl zf)) (v := nI 901) (x := 2) (y := 1802) (mc := 3) (ms := 2703) rfl dX9_init_26 ac_int rfl rfl (fun _ _ h => h) (fun _ => rfl) (by decide) (by decide) (Nat.le_of_ble_eq_true rfl) (Nat.le_of_ble_eq_true rfl) (Nat.le_of_ble_eq_true rfl) ?_
  refine n_putFA (l := [.inl (G.ci 0, 901, .inl zf), .inl (G.ci 0, 901, .inl zf), .inl (G.ci 0, 901, .inl zf)]) (fs := [.ref (G.b0 + (w.length + 1)), .ref (G.b0 + (w.length + 2)), .null, .int 0]) dX9_init_28 ffX9_18 (Nat.le_of_ble_eq_true rfl) ?_
  exact n_ret dX9_init_31
abbrev bk0 : List Value := [.null, .null, .null, .int 0]
theorem mkf0 : ∀ j, j < 4 → defaultValue (tyX0 j) = vp_V bk0 j := fun j hj => match j, hj with
  | 0, _ => rfl
  | 1, _ => rfl
  | 2, _ => rfl
  | 3, _ => rfl
  | n + 4, h => absurd h (by omega)
theorem mki0 : MKi yX0_init cX0_init 1 0 4 bk0 := ⟨TX0, tyX0, rfl, uX0, tyX0_ok, mkf0, insX0, iniX0, imX0_init, cdX0_init, rfl, ⟨by decide +kernel, by decide +kernel⟩, by decide +kernel, by decide⟩
def bl0 (G : GT) (a : Nat) : List va_E := .inr (0, fl0 G.b0 a zf) :: ([.inl (G.ci 0, 901, .inl zf), .inl (G.ci 0, 8, .inl zf), .inl (G.ci 0, 64, .inl zf)])
theorem ffX0_9 : GFf RX0 9 0 0 := ⟨RX0, TX0, 4, tyX0, rfl, by decide, uX0, flX0_9, tyX0_ok, nmX0, rfl, rfl, by decide +kernel, fun _ => ⟨rfl, rfl⟩⟩
theorem ffX0_15 : GFf RX0 15 0 1 := ⟨RX0, TX0, 4, tyX0, rfl, by decide, uX0, flX0_15, tyX0_ok, nmX0, rfl, rfl, by decide +kernel, fun _ => ⟨rfl, rfl⟩⟩
theorem ffX0_18 : GFf RX0 18 0 2 := ⟨RX0, TX0, 4, tyX0, rfl, by decide, uX0, flX0_18, tyX0_ok, nmX0, rfl, rfl, by decide +kernel, fun _ => ⟨rfl, rfl⟩⟩
theorem mk_X0 {G : GT} {d : Nat} {w : List va_E} {a : Nat} (ha : w.length = a) : Mk G (d + 1) yX0_init cX0_init 1 3 973 w (.inr (0, bk0)) (bl0 G a) := by
  subst ha
  refine mk_of (by decide +kernel) rfl (by decide) 0 rfl ?_
  refine n_aload_n dX0_init_0 rfl ?_
  refine n_obj dX0_init_1 lX0_3 (by decide) ?_
  refine n_aload_n dX0_init_4 rfl ?_
  refine n_sipush (v := nI 901) dX0_init_5 (by decide) ?_
  refine n_arrA (l := [.inr (0, [.null, .null, .null, .int 0])]) (n := 1) (N := 901) (t0 := 0) (a0 := (901, .inl zf)) (v := nI 901) (x := 0) (y := 0) (mc := 3) (ms := 973) rfl dX0_init_8 ac_int rfl rfl (fun _ _ h => h) (fun _ => rfl) (by decide) (by decide) (Nat.le_of_ble_eq_true rfl) (Nat.le_of_ble_eq_true rfl) (Nat.le_of_ble_eq_true rfl) ?_
  refine n_putFA (l := [.inl (G.ci 0, 901, .inl zf)]) (fs := [.null, .null, .null, .int 0]) dX0_init_10 ffX0_9 (Nat.le_of_ble_eq_true rfl) ?_
  refine n_aload_n dX0_init_13 rfl ?_
  refine n_bipush (v := nI 8) dX0_init_14 (by decide) ?_
  refine n_arrA (l := .inr (0, [.ref (G.b0 + (w.length + 1)), .null, .null, .int 0]) :: [.inl (G.ci 0, 901, .inl zf)]) (n := 2) (N := 8) (t0 := 0) (a0 := (8, .inl zf)) (v := nI 8) (x := 1) (y := 901) (mc := 3) (ms := 973) rfl dX0_init_16 ac_int rfl rfl (fun _ _ h => h) (fun _ => rfl) (by decide) (by decide) (Nat.le_of_ble_eq_true rfl) (Nat.le_of_ble_eq_true rfl) (Nat.le_of_ble_eq_true rfl) ?_
  refine n_putFA (l := [.inl (G.ci 0, 901, .inl zf), .inl (G.ci 0, 8, .inl zf)]) (fs := [.ref (G.b0 + (w.length + 1)), .null, .null, .int 0]) dX0_init_18 ffX0_15 (Nat.le_of_ble_eq_true rfl) ?_
  refine n_aload_n dX0_init_21 rfl ?_
  refine n_bipush (v := nI 64) dX0_init_22 (by decide) ?_
  refine n_arrA (l := .inr (0, [.ref (G.b0 + (w.length + 1)), .ref (G.b0 + (w.length + 2)), .null, .int 0]) :: [.inl (G.ci 0, 901, .inl zf), .inl (G.ci 0, 8, .inl zf)]) (n := 3) (N := 64) (t0 := 0) (a0 := (64, .inl zf)) (v := nI 64) (x := 2) (y := 909) (mc := 3) (ms := 973) rfl dX0_init_24 ac_int rfl rfl (fun _ _ h => h) (fun _ => rfl) (by decide) (by decide) (Nat.le_of_ble_eq_true rfl) (Nat.le_of_ble_eq_true rfl) (Nat.le_of_ble_eq_true rfl) ?_
  refine n_putFA (l := [.inl (G.ci 0, 901, .inl zf), .inl (G.ci 0, 8, .inl zf), .inl (G.ci 0, 64, .inl zf)]) (fs := [.ref (G.b0 + (w.length + 1)), .ref (G.b0 + (w.length + 2)), .null, .int 0]) dX0_init_26 ffX0_18 (Nat.le_of_ble_eq_true rfl) ?_
  exact n_ret dX0_init_29
abbrev bk2 : List Value := [.null, .null, .null, .null, .null, .int 0, .int 0, .int 0, .int 0, .int 0]
theorem mkf2 : ∀ j, j < 10 → defaultValue (tyX2 j) = vp_V bk2 j := fun j hj => match j, hj with
  | 0, _ => rfl
  | 1, _ => rfl
  | 2, _ => rfl
  | 3, _ => rfl
  | 4, _ => rfl
  | 5, _ => rfl
  | 6, _ => rfl
  | 7, _ => rfl
  | 8, _ => rfl
  | 9, _ => rfl
  | n + 10, h => absurd h (by omega)
theorem mki2 : MKi yX2_init cX2_init 1 2 10 bk2 := ⟨TX2, tyX2, rfl, uX2, tyX2_ok, mkf2, insX2, iniX2, imX2_init, cdX2_init, rfl, ⟨by decide +kernel, by decide +kernel⟩, by decide +kernel, by decide⟩
def bl2 (G : GT) (a : Nat) : List va_E := .inr (2, fl2 G.b0 a zf) :: ([.inl (G.ci 0, 48, .inl zf), .inl (G.ci 0, 16, .inl zf), .inl (G.ci 0, 8, .inl zf), .inl (G.ci 0, 8, .inl zf), .inl (G.ci 0, 6, .inl zf)])
theorem ffX2_9 : GFf RX2 9 2 0 := ⟨RX2, TX2, 10, tyX2, rfl, by decide, uX2, flX2_9, tyX2_ok, nmX2, rfl, rfl, by decide +kernel, fun _ => ⟨rfl, rfl⟩⟩
theorem ffX2_15 : GFf RX2 15 2 1 := ⟨RX2, TX2, 10, tyX2, rfl, by decide, uX2, flX2_15, tyX2_ok, nmX2, rfl, rfl, by decide +kernel, fun _ => ⟨rfl, rfl⟩⟩
theorem ffX2_18 : GFf RX2 18 2 2 := ⟨RX2, TX2, 10, tyX2, rfl, by decide, uX2, flX2_18, tyX2_ok, nmX2, rfl, rfl, by decide +kernel, fun _ => ⟨rfl, rfl⟩⟩
theorem ffX2_21 : GFf RX2 21 2 3 := ⟨RX2, TX2, 10, tyX2, rfl, by decide, uX2, flX2_21, tyX2_ok, nmX2, rfl, rfl, by decide +kernel, fun _ => ⟨rfl, rfl⟩⟩
theorem ffX2_24 : GFf RX2 24 2 4 := ⟨RX2, TX2, 10, tyX2, rfl, by decide, uX2, flX2_24, tyX2_ok, nmX2, rfl, rfl, by decide +kernel, fun _ => ⟨rfl, rfl⟩⟩
theorem mk_X2 {G : GT} {d : Nat} {w : List va_E} {a : Nat} (ha : w.length = a) : Mk G (d + 1) yX2_init cX2_init 1 5 86 w (.inr (2, bk2)) (bl2 G a) := by
  subst ha
  refine mk_of (by decide +kernel) rfl (by decide) 0 rfl ?_
  refine n_aload_n dX2_init_0 rfl ?_
  refine n_obj dX2_init_1 lX2_3 (by decide) ?_
  refine n_aload_n dX2_init_4 rfl ?_
  refine n_bipush (v := nI 48) dX2_init_5 (by decide) ?_
  refine n_arrA (l := [.inr (2, [.null, .null, .null, .null, .null, .int 0, .int 0, .int 0, .int 0, .int 0])]) (n := 1) (N := 48) (t0 := 0) (a0 := (48, .inl zf)) (v := nI 48) (x := 0) (y := 0) (mc := 5) (ms := 86) rfl dX2_init_7 ac_int rfl rfl (fun _ _ h => h) (fun _ => rfl) (by decide) (by decide) (Nat.le_of_ble_eq_true rfl) (Nat.le_of_ble_eq_true rfl) (Nat.le_of_ble_eq_true rfl) ?_
  refine n_putFA (l := [.inl (G.ci 0, 48, .inl zf)]) (fs := [.null, .null, .null, .null, .null, .int 0, .int 0, .int 0, .int 0, .int 0]) dX2_init_9 ffX2_9 (Nat.le_of_ble_eq_true rfl) ?_
  refine n_aload_n dX2_init_12 rfl ?_
  refine n_bipush (v := nI 16) dX2_init_13 (by decide) ?_
  refine n_arrA (l := .inr (2, [.ref (G.b0 + (w.length + 1)), .null, .null, .null, .null, .int 0, .int 0, .int 0, .int 0, .int 0]) :: [.inl (G.ci 0, 48, .inl zf)]) (n := 2) (N := 16) (t0 := 0) (a0 := (16, .inl zf)) (v := nI 16) (x := 1) (y := 48) (mc := 5) (ms := 86) rfl dX2_init_15 ac_int rfl rfl (fun _ _ h => h) (fun _ => rfl) (by decide) (by decide) (Nat.le_of_ble_eq_true rfl) (Nat.le_of_ble_eq_true rfl) (Nat.le_of_ble_eq_true rfl) ?_
  refine n_putFA (l := [.inl (G.ci 0, 48, .inl zf), .inl (G.ci 0, 16, .inl zf)]) (fs := [.ref (G.b0 + (w.length + 1)), .null, .null, .null, .null, .int 0, .int 0, .int 0, .int 0, .int 0]) dX2_init_17 ffX2_15 (Nat.le_of_ble_eq_true rfl) ?_
  refine n_aload_n dX2_init_20 rfl ?_
  refine n_bipush (v := nI 8) dX2_init_21 (by decide) ?_
  refine n_arrA (l := .inr (2, [.ref (G.b0 + (w.length + 1)), .ref (G.b0 + (w.length + 2)), .null, .null, .null, .int 0, .int 0, .int 0, .int 0, .int 0]) :: [.inl (G.ci 0, 48, .inl zf), .inl (G.ci 0, 16, .inl zf)]) (n := 3) (N := 8) (t0 := 0) (a0 := (8, .inl zf)) (v := nI 8) (x := 2) (y := 64) (mc := 5) (ms := 86) rfl dX2_init_23 ac_int rfl rfl (fun _ _ h => h) (fun _ => rfl) (by decide) (by decide) (Nat.le_of_ble_eq_true rfl) (Nat.le_of_ble_eq_true rfl) (Nat.le_of_ble_eq_true rfl) ?_
  refine n_putFA (l := [.inl (G.ci 0, 48, .inl zf), .inl (G.ci 0, 16, .inl zf), .inl (G.ci 0, 8, .inl zf)]) (fs := [.ref (G.b0 + (w.length + 1)), .ref (G.b0 + (w.length + 2)), .null, .null, .null, .int 0, .int 0, .int 0, .int 0, .int 0]) dX2_init_25 ffX2_18 (Nat.le_of_ble_eq_true rfl) ?_
  refine n_aload_n dX2_init_28 rfl ?_
  refine n_bipush (v := nI 8) dX2_init_29 (by decide) ?_
  refine n_arrA (l := .inr (2, [.ref (G.b0 + (w.length + 1)), .ref (G.b0 + (w.length + 2)), .ref (G.b0 + (w.length + 3)), .null, .null, .int 0, .int 0, .int 0, .int 0, .int 0]) :: [.inl (G.ci 0, 48, .inl zf), .inl (G.ci 0, 16, .inl zf), .inl (G.ci 0, 8, .inl zf)]) (n := 4) (N := 8) (t0 := 0) (a0 := (8, .inl zf)) (v := nI 8) (x := 3) (y := 72) (mc := 5) (ms := 86) rfl dX2_init_31 ac_int rfl rfl (fun _ _ h => h) (fun _ => rfl) (by decide) (by decide) (Nat.le_of_ble_eq_true rfl) (Nat.le_of_ble_eq_true rfl) (Nat.le_of_ble_eq_true rfl) ?_
  refine n_putFA (l := [.inl (G.ci 0, 48, .inl zf), .inl (G.ci 0, 16, .inl zf), .inl (G.ci 0, 8, .inl zf), .inl (G.ci 0, 8, .inl zf)]) (fs := [.ref (G.b0 + (w.length + 1)), .ref (G.b0 + (w.length + 2)), .ref (G.b0 + (w.length + 3)), .null, .null, .int 0, .int 0, .int 0, .int 0, .int 0]) dX2_init_33 ffX2_21 (Nat.le_of_ble_eq_true rfl) ?_
  refine n_aload_n dX2_init_36 rfl ?_
  refine n_bipush (v := nI 6) dX2_init_37 (by decide) ?_
  refine n_arrA (l := .inr (2, [.ref (G.b0 + (w.length + 1)), .ref (G.b0 + (w.length + 2)), .ref (G.b0 + (w.length + 3)), .ref (G.b0 + (w.length + 4)), .null, .int 0, .int 0, .int 0, .int 0, .int 0]) :: [.inl (G.ci 0, 48, .inl zf), .inl (G.ci 0, 16, .inl zf), .inl (G.ci 0, 8, .inl zf), .inl (G.ci 0, 8, .inl zf)]) (n := 5) (N := 6) (t0 := 0) (a0 := (6, .inl zf)) (v := nI 6) (x := 4) (y := 80) (mc := 5) (ms := 86) rfl dX2_init_39 ac_int rfl rfl (fun _ _ h => h) (fun _ => rfl) (by decide) (by decide) (Nat.le_of_ble_eq_true rfl) (Nat.le_of_ble_eq_true rfl) (Nat.le_of_ble_eq_true rfl) ?_
  refine n_putFA (l := [.inl (G.ci 0, 48, .inl zf), .inl (G.ci 0, 16, .inl zf), .inl (G.ci 0, 8, .inl zf), .inl (G.ci 0, 8, .inl zf), .inl (G.ci 0, 6, .inl zf)]) (fs := [.ref (G.b0 + (w.length + 1)), .ref (G.b0 + (w.length + 2)), .ref (G.b0 + (w.length + 3)), .ref (G.b0 + (w.length + 4)), .null, .int 0, .int 0, .int 0, .int 0, .int 0]) dX2_init_41 ffX2_24 (Nat.le_of_ble_eq_true rfl) ?_
  exact n_ret dX2_init_44
abbrev bk8 : List Value := [.null, .null, .int 0, .int 0]
theorem mkf8 : ∀ j, j < 4 → defaultValue (tyX8 j) = vp_V bk8 j := fun j hj => match j, hj with
  | 0, _ => rfl
  | 1, _ => rfl
  | 2, _ => rfl
  | 3, _ => rfl
  | n + 4, h => absurd h (by omega)
theorem mki8 : MKi yX8_init cX8_init 1 8 4 bk8 := ⟨TX8, tyX8, rfl, uX8, tyX8_ok, mkf8, insX8, iniX8, imX8_init, cdX8_init, rfl, ⟨by decide +kernel, by decide +kernel⟩, by decide +kernel, by decide⟩
def bl8 (G : GT) (a : Nat) : List va_E := .inr (8, fl8 G.b0 a zf) :: ([.inl (G.ci 0, 6, .inl zf), .inl (G.ci 0, 6, .inl zf)])
theorem ffX8_9 : GFf RX8 9 8 0 := ⟨RX8, TX8, 4, tyX8, rfl, by decide, uX8, flX8_9, tyX8_ok, nmX8, rfl, rfl, by decide +kernel, fun _ => ⟨rfl, rfl⟩⟩
theorem ffX8_15 : GFf RX8 15 8 1 := ⟨RX8, TX8, 4, tyX8, rfl, by decide, uX8, flX8_15, tyX8_ok, nmX8, rfl, rfl, by decide +kernel, fun _ => ⟨rfl, rfl⟩⟩
theorem mk_X8 {G : GT} {d : Nat} {w : List va_E} {a : Nat} (ha : w.length = a) : Mk G (d + 1) yX8_init cX8_init 1 2 12 w (.inr (8, bk8)) (bl8 G a) := by
  subst ha
  refine mk_of (by decide +kernel) rfl (by decide) 0 rfl ?_
  refine n_aload_n dX8_init_0 rfl ?_
  refine n_obj dX8_init_1 lX8_3 (by decide) ?_
  refine n_aload_n dX8_init_4 rfl ?_
  refine n_bipush (v := nI 6) dX8_init_5 (by decide) ?_
  refine n_arrA (l := [.inr (8, [.null, .null, .int 0, .int 0])]) (n := 1) (N := 6) (t0 := 0) (a0 := (6, .inl zf)) (v := nI 6) (x := 0) (y := 0) (mc := 2) (ms := 12) rfl dX8_init_7 ac_int rfl rfl (fun _ _ h => h) (fun _ => rfl) (by decide) (by decide) (Nat.le_of_ble_eq_true rfl) (Nat.le_of_ble_eq_true rfl) (Nat.le_of_ble_eq_true rfl) ?_
  refine n_putFA (l := [.inl (G.ci 0, 6, .inl zf)]) (fs := [.null, .null, .int 0, .int 0]) dX8_init_9 ffX8_9 (Nat.le_of_ble_eq_true rfl) ?_
  refine n_aload_n dX8_init_12 rfl ?_
  refine n_bipush (v := nI 6) dX8_init_13 (by decide) ?_
  refine n_arrA (l := .inr (8, [.ref (G.b0 + (w.length + 1)), .null, .int 0, .int 0]) :: [.inl (G.ci 0, 6, .inl zf)]) (n := 2) (N := 6) (t0 := 0) (a0 := (6, .inl zf)) (v := nI 6) (x := 1) (y := 6) (mc := 2) (ms := 12) rfl dX8_init_15 ac_int rfl rfl (fun _ _ h => h) (fun _ => rfl) (by decide) (by decide) (Nat.le_of_ble_eq_true rfl) (Nat.le_of_ble_eq_true rfl) (Nat.le_of_ble_eq_true rfl) ?_
  refine n_putFA (l := [.inl (G.ci 0, 6, .inl zf), .inl (G.ci 0, 6, .inl zf)]) (fs := [.ref (G.b0 + (w.length + 1)), .null, .int 0, .int 0]) dX8_init_17 ffX8_15 (Nat.le_of_ble_eq_true rfl) ?_
  exact n_ret dX8_init_20
abbrev bk4 : List Value := [.null, .int 0]
theorem mkf4 : ∀ j, j < 2 → defaultValue (tyX4 j) = vp_V bk4 j := fun j hj => match j, hj with
  | 0, _ => rfl
  | 1, _ => rfl
  | n + 2, h => absurd h (by omega)
theorem mki4 : MKi yX4_init cX4_init 1 4 2 bk4 := ⟨TX4, tyX4, rfl, uX4, tyX4_ok, mkf4, insX4, iniX4, imX4_init, cdX4_init, rfl, ⟨by decide +kernel, by decide +kernel⟩, by decide +kernel, by decide⟩
def bl4 (G : GT) (a : Nat) : List va_E := .inr (4, fl4 G.b0 a zf) :: ([.inl (G.ci 0, 84, .inl zf)])
theorem ffX4_11 : GFf RX4 11 4 0 := ⟨RX4, TX4, 2, tyX4, rfl, by decide, uX4, flX4_11, tyX4_ok, nmX4, rfl, rfl, by decide +kernel, fun _ => ⟨rfl, rfl⟩⟩
theorem mk_X4 {G : GT} {d : Nat} {w : List va_E} {a : Nat} (ha : w.length = a) : Mk G (d + 1) yX4_init cX4_init 1 1 84 w (.inr (4, bk4)) (bl4 G a) := by
  subst ha
  refine mk_of (by decide +kernel) rfl (by decide) 0 rfl ?_
  refine n_aload_n dX4_init_0 rfl ?_
  refine n_obj dX4_init_1 lX4_3 (by decide) ?_
  refine n_aload_n dX4_init_4 rfl ?_
  refine n_bipush (v := nI 84) dX4_init_5 (by decide) ?_
  refine n_arrA (l := [.inr (4, [.null, .int 0])]) (n := 1) (N := 84) (t0 := 0) (a0 := (84, .inl zf)) (v := nI 84) (x := 0) (y := 0) (mc := 1) (ms := 84) rfl dX4_init_7 ac_int rfl rfl (fun _ _ h => h) (fun _ => rfl) (by decide) (by decide) (Nat.le_of_ble_eq_true rfl) (Nat.le_of_ble_eq_true rfl) (Nat.le_of_ble_eq_true rfl) ?_
  refine n_putFA (l := [.inl (G.ci 0, 84, .inl zf)]) (fs := [.null, .int 0]) dX4_init_9 ffX4_11 (Nat.le_of_ble_eq_true rfl) ?_
  exact n_ret dX4_init_12
abbrev bk7 : List Value := [.null, .null, .null, .null, .null, .int 0]
theorem mkf7 : ∀ j, j < 6 → defaultValue (tyX7 j) = vp_V bk7 j := fun j hj => match j, hj with
  | 0, _ => rfl
  | 1, _ => rfl
  | 2, _ => rfl
  | 3, _ => rfl
  | 4, _ => rfl
  | 5, _ => rfl
  | n + 6, h => absurd h (by omega)
theorem mki7 : MKi yX7_init cX7_init 1 7 6 bk7 := ⟨TX7, tyX7, rfl, uX7, tyX7_ok, mkf7, insX7, iniX7, imX7_init, cdX7_init, rfl, ⟨by decide +kernel, by decide +kernel⟩, by decide +kernel, by decide⟩
def bl7 (G : GT) (a : Nat) : List va_E := .inr (7, fl7 G.b0 a zf) :: ([.inl (G.ci 0, 256, .inl zf), .inl (G.ci 0, 256, .inl zf), .inl (G.ci 0, 256, .inl zf), .inl (G.ci 0, 102, .inl zf), .inl (G.ci 0, 6, .inl zf)])
theorem ffX7_9 : GFf RX7 9 7 0 := ⟨RX7, TX7, 6, tyX7, rfl, by decide, uX7, flX7_9, tyX7_ok, nmX7, rfl, rfl, by decide +kernel, fun _ => ⟨rfl, rfl⟩⟩
theorem ffX7_15 : GFf RX7 15 7 1 := ⟨RX7, TX7, 6, tyX7, rfl, by decide, uX7, flX7_15, tyX7_ok, nmX7, rfl, rfl, by decide +kernel, fun _ => ⟨rfl, rfl⟩⟩
theorem ffX7_18 : GFf RX7 18 7 2 := ⟨RX7, TX7, 6, tyX7, rfl, by decide, uX7, flX7_18, tyX7_ok, nmX7, rfl, rfl, by decide +kernel, fun _ => ⟨rfl, rfl⟩⟩
theorem ffX7_21 : GFf RX7 21 7 3 := ⟨RX7, TX7, 6, tyX7, rfl, by decide, uX7, flX7_21, tyX7_ok, nmX7, rfl, rfl, by decide +kernel, fun _ => ⟨rfl, rfl⟩⟩
theorem ffX7_24 : GFf RX7 24 7 4 := ⟨RX7, TX7, 6, tyX7, rfl, by decide, uX7, flX7_24, tyX7_ok, nmX7, rfl, rfl, by decide +kernel, fun _ => ⟨rfl, rfl⟩⟩
theorem mk_X7 {G : GT} {d : Nat} {w : List va_E} {a : Nat} (ha : w.length = a) : Mk G (d + 1) yX7_init cX7_init 1 5 876 w (.inr (7, bk7)) (bl7 G a) := by
  subst ha
  refine mk_of (by decide +kernel) rfl (by decide) 0 rfl ?_
  refine n_aload_n dX7_init_0 rfl ?_
  refine n_obj dX7_init_1 lX7_3 (by decide) ?_
  refine n_aload_n dX7_init_4 rfl ?_
  refine n_sipush (v := nI 256) dX7_init_5 (by decide) ?_
  refine n_arrA (l := [.inr (7, [.null, .null, .null, .null, .null, .int 0])]) (n := 1) (N := 256) (t0 := 0) (a0 := (256, .inl zf)) (v := nI 256) (x := 0) (y := 0) (mc := 5) (ms := 876) rfl dX7_init_8 ac_int rfl rfl (fun _ _ h => h) (fun _ => rfl) (by decide) (by decide) (Nat.le_of_ble_eq_true rfl) (Nat.le_of_ble_eq_true rfl) (Nat.le_of_ble_eq_true rfl) ?_
  refine n_putFA (l := [.inl (G.ci 0, 256, .inl zf)]) (fs := [.null, .null, .null, .null, .null, .int 0]) dX7_init_10 ffX7_9 (Nat.le_of_ble_eq_true rfl) ?_
  refine n_aload_n dX7_init_13 rfl ?_
  refine n_sipush (v := nI 256) dX7_init_14 (by decide) ?_
  refine n_arrA (l := .inr (7, [.ref (G.b0 + (w.length + 1)), .null, .null, .null, .null, .int 0]) :: [.inl (G.ci 0, 256, .inl zf)]) (n := 2) (N := 256) (t0 := 0) (a0 := (256, .inl zf)) (v := nI 256) (x := 1) (y := 256) (mc := 5) (ms := 876) rfl dX7_init_17 ac_int rfl rfl (fun _ _ h => h) (fun _ => rfl) (by decide) (by decide) (Nat.le_of_ble_eq_true rfl) (Nat.le_of_ble_eq_true rfl) (Nat.le_of_ble_eq_true rfl) ?_
  refine n_putFA (l := [.inl (G.ci 0, 256, .inl zf), .inl (G.ci 0, 256, .inl zf)]) (fs := [.ref (G.b0 + (w.length + 1)), .null, .null, .null, .null, .int 0]) dX7_init_19 ffX7_15 (Nat.le_of_ble_eq_true rfl) ?_
  refine n_aload_n dX7_init_22 rfl ?_
  refine n_sipush (v := nI 256) dX7_init_23 (by decide) ?_
  refine n_arrA (l := .inr (7, [.ref (G.b0 + (w.length + 1)), .ref (G.b0 + (w.length + 2)), .null, .null, .null, .int 0]) :: [.inl (G.ci 0, 256, .inl zf), .inl (G.ci 0, 256, .inl zf)]) (n := 3) (N := 256) (t0 := 0) (a0 := (256, .inl zf)) (v := nI 256) (x := 2) (y := 512) (mc := 5) (ms := 876) rfl dX7_init_26 ac_int rfl rfl (fun _ _ h => h) (fun _ => rfl) (by decide) (by decide) (Nat.le_of_ble_eq_true rfl) (Nat.le_of_ble_eq_true rfl) (Nat.le_of_ble_eq_true rfl) ?_
  refine n_putFA (l := [.inl (G.ci 0, 256, .inl zf), .inl (G.ci 0, 256, .inl zf), .inl (G.ci 0, 256, .inl zf)]) (fs := [.ref (G.b0 + (w.length + 1)), .ref (G.b0 + (w.length + 2)), .null, .null, .null, .int 0]) dX7_init_28 ffX7_18 (Nat.le_of_ble_eq_true rfl) ?_
  refine n_aload_n dX7_init_31 rfl ?_
  refine n_bipush (v := nI 102) dX7_init_32 (by decide) ?_
  refine n_arrA (l := .inr (7, [.ref (G.b0 + (w.length + 1)), .ref (G.b0 + (w.length + 2)), .ref (G.b0 + (w.length + 3)), .null, .null, .int 0]) :: [.inl (G.ci 0, 256, .inl zf), .inl (G.ci 0, 256, .inl zf), .inl (G.ci 0, 256, .inl zf)]) (n := 4) (N := 102) (t0 := 0) (a0 := (102, .inl zf)) (v := nI 102) (x := 3) (y := 768) (mc := 5) (ms := 876) rfl dX7_init_34 ac_int rfl rfl (fun _ _ h => h) (fun _ => rfl) (by decide) (by decide) (Nat.le_of_ble_eq_true rfl) (Nat.le_of_ble_eq_true rfl) (Nat.le_of_ble_eq_true rfl) ?_
  refine n_putFA (l := [.inl (G.ci 0, 256, .inl zf), .inl (G.ci 0, 256, .inl zf), .inl (G.ci 0, 256, .inl zf), .inl (G.ci 0, 102, .inl zf)]) (fs := [.ref (G.b0 + (w.length + 1)), .ref (G.b0 + (w.length + 2)), .ref (G.b0 + (w.length + 3)), .null, .null, .int 0]) dX7_init_36 ffX7_21 (Nat.le_of_ble_eq_true rfl) ?_
  refine n_aload_n dX7_init_39 rfl ?_
  refine n_bipush (v := nI 6) dX7_init_40 (by decide) ?_
  refine n_arrA (l := .inr (7, [.ref (G.b0 + (w.length + 1)), .ref (G.b0 + (w.length + 2)), .ref (G.b0 + (w.length + 3)), .ref (G.b0 + (w.length + 4)), .null, .int 0]) :: [.inl (G.ci 0, 256, .inl zf), .inl (G.ci 0, 256, .inl zf), .inl (G.ci 0, 256, .inl zf), .inl (G.ci 0, 102, .inl zf)]) (n := 5) (N := 6) (t0 := 0) (a0 := (6, .inl zf)) (v := nI 6) (x := 4) (y := 870) (mc := 5) (ms := 876) rfl dX7_init_42 ac_int rfl rfl (fun _ _ h => h) (fun _ => rfl) (by decide) (by decide) (Nat.le_of_ble_eq_true rfl) (Nat.le_of_ble_eq_true rfl) (Nat.le_of_ble_eq_true rfl) ?_
  refine n_putFA (l := [.inl (G.ci 0, 256, .inl zf), .inl (G.ci 0, 256, .inl zf), .inl (G.ci 0, 256, .inl zf), .inl (G.ci 0, 102, .inl zf), .inl (G.ci 0, 6, .inl zf)]) (fs := [.ref (G.b0 + (w.length + 1)), .ref (G.b0 + (w.length + 2)), .ref (G.b0 + (w.length + 3)), .ref (G.b0 + (w.length + 4)), .null, .int 0]) dX7_init_44 ffX7_24 (Nat.le_of_ble_eq_true rfl) ?_
  exact n_ret dX7_init_47
abbrev bk3 : List Value := [.null, .null, .null, .null, .int 0, .int 0, .int 0, .int 0, .int 0]
theorem mkf3 : ∀ j, j < 9 → defaultValue (tyX3 j) = vp_V bk3 j := fun j hj => match j, hj with
  | 0, _ => rfl
  | 1, _ => rfl
  | 2, _ => rfl
  | 3, _ => rfl
  | 4, _ => rfl
  | 5, _ => rfl
  | 6, _ => rfl
  | 7, _ => rfl
  | 8, _ => rfl
  | n + 9, h => absurd h (by omega)
theorem mki3 : MKi yX3_init cX3_init 1 3 9 bk3 := ⟨TX3, tyX3, rfl, uX3, tyX3_ok, mkf3, insX3, iniX3, imX3_init, cdX3_init, rfl, ⟨by decide +kernel, by decide +kernel⟩, by decide +kernel, by decide⟩
def bl3 (G : GT) (a : Nat) : List va_E := .inr (3, fl3 G.b0 a zf) :: ([.inl (G.ci 0, 256, .inl zf), .inl (G.ci 0, 2401, .inl zf), .inl (G.ci 0, 6, .inl zf), .inl (G.ci 3, 49, .inl zf)])
theorem ffX3_9 : GFf RX3 9 3 0 := ⟨RX3, TX3, 9, tyX3, rfl, by decide, uX3, flX3_9, tyX3_ok, nmX3, rfl, rfl, by decide +kernel, fun _ => ⟨rfl, rfl⟩⟩
theorem ffX3_15 : GFf RX3 15 3 1 := ⟨RX3, TX3, 9, tyX3, rfl, by decide, uX3, flX3_15, tyX3_ok, nmX3, rfl, rfl, by decide +kernel, fun _ => ⟨rfl, rfl⟩⟩
theorem ffX3_18 : GFf RX3 18 3 2 := ⟨RX3, TX3, 9, tyX3, rfl, by decide, uX3, flX3_18, tyX3_ok, nmX3, rfl, rfl, by decide +kernel, fun _ => ⟨rfl, rfl⟩⟩
theorem ffX3_21 : GFf RX3 21 3 3 := ⟨RX3, TX3, 9, tyX3, rfl, by decide, uX3, flX3_21, tyX3_ok, nmX3, rfl, rfl, by decide +kernel, fun _ => ⟨rfl, rfl⟩⟩
theorem mk_X3 {G : GT} {d : Nat} {w : List va_E} {a : Nat} (ha : w.length = a) : Mk G (d + 1) yX3_init cX3_init 1 4 2712 w (.inr (3, bk3)) (bl3 G a) := by
  subst ha
  refine mk_of (by decide +kernel) rfl (by decide) 0 rfl ?_
  refine n_aload_n dX3_init_0 rfl ?_
  refine n_obj dX3_init_1 lX3_3 (by decide) ?_
  refine n_aload_n dX3_init_4 rfl ?_
  refine n_sipush (v := nI 256) dX3_init_5 (by decide) ?_
  refine n_arrA (l := [.inr (3, [.null, .null, .null, .null, .int 0, .int 0, .int 0, .int 0, .int 0])]) (n := 1) (N := 256) (t0 := 0) (a0 := (256, .inl zf)) (v := nI 256) (x := 0) (y := 0) (mc := 4) (ms := 2712) rfl dX3_init_8 ac_int rfl rfl (fun _ _ h => h) (fun _ => rfl) (by decide) (by decide) (Nat.le_of_ble_eq_true rfl) (Nat.le_of_ble_eq_true rfl) (Nat.le_of_ble_eq_true rfl) ?_
  refine n_putFA (l := [.inl (G.ci 0, 256, .inl zf)]) (fs := [.null, .null, .null, .null, .int 0, .int 0, .int 0, .int 0, .int 0]) dX3_init_10 ffX3_9 (Nat.le_of_ble_eq_true rfl) ?_
  refine n_aload_n dX3_init_13 rfl ?_
  refine n_sipush (v := nI 2401) dX3_init_14 (by decide) ?_
  refine n_arrA (l := .inr (3, [.ref (G.b0 + (w.length + 1)), .null, .null, .null, .int 0, .int 0, .int 0, .int 0, .int 0]) :: [.inl (G.ci 0, 256, .inl zf)]) (n := 2) (N := 2401) (t0 := 0) (a0 := (2401, .inl zf)) (v := nI 2401) (x := 1) (y := 256) (mc := 4) (ms := 2712) rfl dX3_init_17 ac_int rfl rfl (fun _ _ h => h) (fun _ => rfl) (by decide) (by decide) (Nat.le_of_ble_eq_true rfl) (Nat.le_of_ble_eq_true rfl) (Nat.le_of_ble_eq_true rfl) ?_
  refine n_putFA (l := [.inl (G.ci 0, 256, .inl zf), .inl (G.ci 0, 2401, .inl zf)]) (fs := [.ref (G.b0 + (w.length + 1)), .null, .null, .null, .int 0, .int 0, .int 0, .int 0, .int 0]) dX3_init_19 ffX3_15 (Nat.le_of_ble_eq_true rfl) ?_
  refine n_aload_n dX3_init_22 rfl ?_
  refine n_bipush (v := nI 6) dX3_init_23 (by decide) ?_
  refine n_arrA (l := .inr (3, [.ref (G.b0 + (w.length + 1)), .ref (G.b0 + (w.length + 2)), .null, .null, .int 0, .int 0, .int 0, .int 0, .int 0]) :: [.inl (G.ci 0, 256, .inl zf), .inl (G.ci 0, 2401, .inl zf)]) (n := 3) (N := 6) (t0 := 0) (a0 := (6, .inl zf)) (v := nI 6) (x := 2) (y := 2657) (mc := 4) (ms := 2712) rfl dX3_init_25 ac_int rfl rfl (fun _ _ h => h) (fun _ => rfl) (by decide) (by decide) (Nat.le_of_ble_eq_true rfl) (Nat.le_of_ble_eq_true rfl) (Nat.le_of_ble_eq_true rfl) ?_
  refine n_putFA (l := [.inl (G.ci 0, 256, .inl zf), .inl (G.ci 0, 2401, .inl zf), .inl (G.ci 0, 6, .inl zf)]) (fs := [.ref (G.b0 + (w.length + 1)), .ref (G.b0 + (w.length + 2)), .null, .null, .int 0, .int 0, .int 0, .int 0, .int 0]) dX3_init_27 ffX3_18 (Nat.le_of_ble_eq_true rfl) ?_
  refine n_aload_n dX3_init_30 rfl ?_
  refine n_bipush (v := nI 49) dX3_init_31 (by decide) ?_
  refine n_arrA (l := .inr (3, [.ref (G.b0 + (w.length + 1)), .ref (G.b0 + (w.length + 2)), .ref (G.b0 + (w.length + 3)), .null, .int 0, .int 0, .int 0, .int 0, .int 0]) :: [.inl (G.ci 0, 256, .inl zf), .inl (G.ci 0, 2401, .inl zf), .inl (G.ci 0, 6, .inl zf)]) (n := 4) (N := 49) (t0 := 3) (a0 := (49, .inl zf)) (v := nI 49) (x := 3) (y := 2663) (mc := 4) (ms := 2712) rfl dX3_init_33 ac_boolean rfl rfl (fun _ _ h => h) (fun _ => rfl) (by decide) (by decide) (Nat.le_of_ble_eq_true rfl) (Nat.le_of_ble_eq_true rfl) (Nat.le_of_ble_eq_true rfl) ?_
  refine n_putFA (l := [.inl (G.ci 0, 256, .inl zf), .inl (G.ci 0, 2401, .inl zf), .inl (G.ci 0, 6, .inl zf), .inl (G.ci 3, 49, .inl zf)]) (fs := [.ref (G.b0 + (w.length + 1)), .ref (G.b0 + (w.length + 2)), .ref (G.b0 + (w.length + 3)), .null, .int 0, .int 0, .int 0, .int 0, .int 0]) dX3_init_35 ffX3_21 (Nat.le_of_ble_eq_true rfl) ?_
  exact n_ret dX3_init_38
abbrev bk10 : List Value := [.null, .int 0]
theorem mkf10 : ∀ j, j < 2 → defaultValue (tyX10 j) = vp_V bk10 j := fun j hj => match j, hj with
  | 0, _ => rfl
  | 1, _ => rfl
  | n + 2, h => absurd h (by omega)
theorem mki10 : MKi yX10_init cX10_init 1 10 2 bk10 := ⟨TX10, tyX10, rfl, uX10, tyX10_ok, mkf10, insX10, iniX10, imX10_init, cdX10_init, rfl, ⟨by decide +kernel, by decide +kernel⟩, by decide +kernel, by decide⟩
def bl10 (G : GT) (a : Nat) : List va_E := .inr (10, fl10 G.b0 a zf) :: ([.inl (G.ci 0, 6561, .inl zf)])
theorem ffX10_15 : GFf RX10 15 10 0 := ⟨RX10, TX10, 2, tyX10, rfl, by decide, uX10, flX10_15, tyX10_ok, nmX10, rfl, rfl, by decide +kernel, fun _ => ⟨rfl, rfl⟩⟩
theorem mk_X10 {G : GT} {d : Nat} {w : List va_E} {a : Nat} (ha : w.length = a) : Mk G (d + 1) yX10_init cX10_init 1 1 6561 w (.inr (10, bk10)) (bl10 G a) := by
  subst ha
  refine mk_of (by decide +kernel) rfl (by decide) 0 rfl ?_
  refine n_aload_n dX10_init_0 rfl ?_
  refine n_obj dX10_init_1 lX10_3 (by decide) ?_
  refine n_aload_n dX10_init_4 rfl ?_
  refine n_gets3 dX10_init_5 flX10_9 ?_
  refine n_bipush (v := nI 8) dX10_init_8 (by decide) ?_
  refine n_t3ld (j := 8) (x1 := 6561) dX10_init_10 rfl (by decide) rfl ?_
  refine n_arrA (l := [.inr (10, [.null, .int 0])]) (n := 1) (N := 6561) (t0 := 0) (a0 := (6561, .inl zf)) (v := 6561) (x := 0) (y := 0) (mc := 1) (ms := 6561) rfl dX10_init_11 ac_int rfl rfl (fun _ _ h => h) (fun _ => rfl) (by decide) (by decide) (Nat.le_of_ble_eq_true rfl) (Nat.le_of_ble_eq_true rfl) (Nat.le_of_ble_eq_true rfl) ?_
  refine n_putFA (l := [.inl (G.ci 0, 6561, .inl zf)]) (fs := [.null, .int 0]) dX10_init_13 ffX10_15 (Nat.le_of_ble_eq_true rfl) ?_
  exact n_ret dX10_init_16
abbrev bk6 : List Value := [.null, .int 0, .int 0]
theorem mkf6 : ∀ j, j < 3 → defaultValue (tyX6 j) = vp_V bk6 j := fun j hj => match j, hj with
  | 0, _ => rfl
  | 1, _ => rfl
  | 2, _ => rfl
  | n + 3, h => absurd h (by omega)
theorem mki6 : MKi yX6_init cX6_init 1 6 3 bk6 := ⟨TX6, tyX6, rfl, uX6, tyX6_ok, mkf6, insX6, iniX6, imX6_init, cdX6_init, rfl, ⟨by decide +kernel, by decide +kernel⟩, by decide +kernel, by decide⟩
def bl6 (G : GT) (a : Nat) : List va_E := .inr (6, fl6 G.b0 a (upd zf 1 (-1))) :: ([.inl (G.ci 2, 40, .inr (.inl zl))])
theorem ffX6_9 : GFf RX6 9 6 0 := ⟨RX6, TX6, 3, tyX6, rfl, by decide, uX6, flX6_9, tyX6_ok, nmX6, rfl, rfl, by decide +kernel, fun _ => ⟨rfl, rfl⟩⟩
theorem mk_X6 {G : GT} {d : Nat} {w : List va_E} {a : Nat} (ha : w.length = a) : Mk G (d + 1) yX6_init cX6_init 1 1 40 w (.inr (6, bk6)) (bl6 G a) := by
  subst ha
  refine mk_of (by decide +kernel) rfl (by decide) 0 rfl ?_
  refine n_aload_n dX6_init_0 rfl ?_
  refine n_obj dX6_init_1 lX6_3 (by decide) ?_
  refine n_aload_n dX6_init_4 rfl ?_
  refine n_bipush (v := nI 40) dX6_init_5 (by decide) ?_
  refine n_arrA (l := [.inr (6, [.null, .int 0, .int 0])]) (n := 1) (N := 40) (t0 := 2) (a0 := (40, .inr (.inl zl))) (v := nI 40) (x := 0) (y := 0) (mc := 1) (ms := 40) rfl dX6_init_7 ac_long rfl rfl (fun _ _ h => h) (fun _ => rfl) (by decide) (by decide) (Nat.le_of_ble_eq_true rfl) (Nat.le_of_ble_eq_true rfl) (Nat.le_of_ble_eq_true rfl) ?_
  refine n_putFA (l := [.inl (G.ci 2, 40, .inr (.inl zl))]) (fs := [.null, .int 0, .int 0]) dX6_init_9 ffX6_9 (Nat.le_of_ble_eq_true rfl) ?_
  refine n_aload_n dX6_init_12 rfl ?_
  refine n_iconst (v := -1) dX6_init_13 (by decide) ?_
  refine n_putA (l := [.inl (G.ci 2, 40, .inr (.inl zl))]) (fs := [.ref (G.b0 + (w.length + 1)), .int 0, .int 0]) dX6_init_14 wX6_15 (Nat.le_of_ble_eq_true rfl) tfX6_1 ?_
  exact n_ret dX6_init_17
abbrev bk5 : List Value := [.null, .null, .null, .null, .int 0, .int 0, .int 0]
theorem mkf5 : ∀ j, j < 7 → defaultValue (tyX5 j) = vp_V bk5 j := fun j hj => match j, hj with
  | 0, _ => rfl
  | 1, _ => rfl
  | 2, _ => rfl
  | 3, _ => rfl
  | 4, _ => rfl
  | 5, _ => rfl
  | 6, _ => rfl
  | n + 7, h => absurd h (by omega)
theorem mki5 : MKi yX5_init cX5_init 1 5 7 bk5 := ⟨TX5, tyX5, rfl, uX5, tyX5_ok, mkf5, insX5, iniX5, imX5_init, cdX5_init, rfl, ⟨by decide +kernel, by decide +kernel⟩, by decide +kernel, by decide⟩
def bl5 (G : GT) (a : Nat) : List va_E := .inr (5, fl5 G.b0 a (upd zf 5 (-1))) :: ((apE (apE (apE (bl9 G (a + 1)) (bl0 G (a + 5))) (bl2 G (a + 9))) (bl8 G (a + 15))))
theorem ffX5_12 : GFf RX5 12 5 0 := ⟨RX5, TX5, 7, tyX5, rfl, by decide, uX5, flX5_12, tyX5_ok, nmX5, rfl, rfl, by decide +kernel, fun _ => ⟨rfl, rfl⟩⟩
theorem ffX5_21 : GFf RX5 21 5 1 := ⟨RX5, TX5, 7, tyX5, rfl, by decide, uX5, flX5_21, tyX5_ok, nmX5, rfl, rfl, by decide +kernel, fun _ => ⟨rfl, rfl⟩⟩
theorem ffX5_28 : GFf RX5 28 5 2 := ⟨RX5, TX5, 7, tyX5, rfl, by decide, uX5, flX5_28, tyX5_ok, nmX5, rfl, rfl, by decide +kernel, fun _ => ⟨rfl, rfl⟩⟩
theorem ffX5_35 : GFf RX5 35 5 3 := ⟨RX5, TX5, 7, tyX5, rfl, by decide, uX5, flX5_35, tyX5_ok, nmX5, rfl, rfl, by decide +kernel, fun _ => ⟨rfl, rfl⟩⟩
theorem mk_X5 {G : GT} {d : Nat} {w : List va_E} {a : Nat} (ha : w.length = a) : Mk G (d + 2) yX5_init cX5_init 1 17 3796 w (.inr (5, bk5)) (bl5 G a) := by
  subst ha
  refine mk_of (by decide +kernel) rfl (by decide) 0 rfl ?_
  refine n_aload_n dX5_init_0 rfl ?_
  refine n_obj dX5_init_1 lX5_3 (by decide) ?_
  refine n_aload_n dX5_init_4 rfl ?_
  refine n_makeA (l := [.inr (5, [.null, .null, .null, .null, .int 0, .int 0, .int 0])]) (n := 1) rfl dX5_init_5 dX5_init_8 dX5_init_9 mki9 clX5_9 lX5_11 (mk_X9 (a := w.length + 1) (List.length_append.trans rfl)) rfl (Nat.le_of_ble_eq_true rfl) (Nat.le_of_ble_eq_true rfl) (Nat.le_of_ble_eq_true rfl) ?_
  refine n_putFA (l := (bl9 G (w.length + 1))) (fs := [.null, .null, .null, .null, .int 0, .int 0, .int 0]) dX5_init_12 ffX5_12 (Nat.le_of_ble_eq_true rfl) ?_
  refine n_aload_n dX5_init_15 rfl ?_
  refine n_makeA (l := .inr (5, [.ref (G.b0 + (w.length + 1)), .null, .null, .null, .int 0, .int 0, .int 0]) :: (bl9 G (w.length + 1))) (n := 5) rfl dX5_init_16 dX5_init_19 dX5_init_20 mki0 clX5_18 lX5_20 (mk_X0 (a := w.length + 5) (List.length_append.trans rfl)) rfl (Nat.le_of_ble_eq_true rfl) (Nat.le_of_ble_eq_true rfl) (Nat.le_of_ble_eq_true rfl) ?_
  refine n_putFA (l := (apE (bl9 G (w.length + 1)) (bl0 G (w.length + 5)))) (fs := [.ref (G.b0 + (w.length + 1)), .null, .null, .null, .int 0, .int 0, .int 0]) dX5_init_23 ffX5_21 (Nat.le_of_ble_eq_true rfl) ?_
  refine n_aload_n dX5_init_26 rfl ?_
  refine n_makeA (l := .inr (5, [.ref (G.b0 + (w.length + 1)), .ref (G.b0 + (w.length + 5)), .null, .null, .int 0, .int 0, .int 0]) :: (apE (bl9 G (w.length + 1)) (bl0 G (w.length + 5)))) (n := 9) rfl dX5_init_27 dX5_init_30 dX5_init_31 mki2 clX5_25 lX5_27 (mk_X2 (a := w.length + 9) (List.length_append.trans rfl)) rfl (Nat.le_of_ble_eq_true rfl) (Nat.le_of_ble_eq_true rfl) (Nat.le_of_ble_eq_true rfl) ?_
  refine n_putFA (l := (apE (apE (bl9 G (w.length + 1)) (bl0 G (w.length + 5))) (bl2 G (w.length + 9)))) (fs := [.ref (G.b0 + (w.length + 1)), .ref (G.b0 + (w.length + 5)), .null, .null, .int 0, .int 0, .int 0]) dX5_init_34 ffX5_28 (Nat.le_of_ble_eq_true rfl) ?_
  refine n_aload_n dX5_init_37 rfl ?_
  refine n_makeA (l := .inr (5, [.ref (G.b0 + (w.length + 1)), .ref (G.b0 + (w.length + 5)), .ref (G.b0 + (w.length + 9)), .null, .int 0, .int 0, .int 0]) :: (apE (apE (bl9 G (w.length + 1)) (bl0 G (w.length + 5))) (bl2 G (w.length + 9)))) (n := 15) rfl dX5_init_38 dX5_init_41 dX5_init_42 mki8 clX5_32 lX5_34 (mk_X8 (a := w.length + 15) (List.length_append.trans rfl)) rfl (Nat.le_of_ble_eq_true rfl) (Nat.le_of_ble_eq_true rfl) (Nat.le_of_ble_eq_true rfl) ?_
  refine n_putFA (l := (apE (apE (apE (bl9 G (w.length + 1)) (bl0 G (w.length + 5))) (bl2 G (w.length + 9))) (bl8 G (w.length + 15)))) (fs := [.ref (G.b0 + (w.length + 1)), .ref (G.b0 + (w.length + 5)), .ref (G.b0 + (w.length + 9)), .null, .int 0, .int 0, .int 0]) dX5_init_45 ffX5_35 (Nat.le_of_ble_eq_true rfl) ?_
  refine n_aload_n dX5_init_48 rfl ?_
  refine n_iconst (v := -1) dX5_init_49 (by decide) ?_
  refine n_putA (l := (apE (apE (apE (bl9 G (w.length + 1)) (bl0 G (w.length + 5))) (bl2 G (w.length + 9))) (bl8 G (w.length + 15)))) (fs := [.ref (G.b0 + (w.length + 1)), .ref (G.b0 + (w.length + 5)), .ref (G.b0 + (w.length + 9)), .ref (G.b0 + (w.length + 15)), .int 0, .int 0, .int 0]) dX5_init_50 wX5_39 (Nat.le_of_ble_eq_true rfl) tfX5_5 ?_
  exact n_ret dX5_init_53
abbrev bk1 : List Value := [.null, .null, .int 0]
theorem mkf1 : ∀ j, j < 3 → defaultValue (tyX1 j) = vp_V bk1 j := fun j hj => match j, hj with
  | 0, _ => rfl
  | 1, _ => rfl
  | 2, _ => rfl
  | n + 3, h => absurd h (by omega)
theorem mki1 : MKi yX1_init cX1_init 1 1 3 bk1 := ⟨TX1, tyX1, rfl, uX1, tyX1_ok, mkf1, insX1, iniX1, imX1_init, cdX1_init, rfl, ⟨by decide +kernel, by decide +kernel⟩, by decide +kernel, by decide⟩
def bl1 (G : GT) (a : Nat) : List va_E := .inr (1, fl1 G.b0 a zf) :: ((apE (bl2 G (a + 1)) (bl8 G (a + 7))))
theorem ffX1_10 : GFf RX1 10 1 0 := ⟨RX1, TX1, 3, tyX1, rfl, by decide, uX1, flX1_10, tyX1_ok, nmX1, rfl, rfl, by decide +kernel, fun _ => ⟨rfl, rfl⟩⟩
theorem ffX1_19 : GFf RX1 19 1 1 := ⟨RX1, TX1, 3, tyX1, rfl, by decide, uX1, flX1_19, tyX1_ok, nmX1, rfl, rfl, by decide +kernel, fun _ => ⟨rfl, rfl⟩⟩
theorem mk_X1 {G : GT} {d : Nat} {w : List va_E} {a : Nat} (ha : w.length = a) : Mk G (d + 2) yX1_init cX1_init 1 9 112 w (.inr (1, bk1)) (bl1 G a) := by
  subst ha
  refine mk_of (by decide +kernel) rfl (by decide) 0 rfl ?_
  refine n_aload_n dX1_init_0 rfl ?_
  refine n_obj dX1_init_1 lX1_1 (by decide) ?_
  refine n_aload_n dX1_init_4 rfl ?_
  refine n_makeA (l := [.inr (1, [.null, .null, .int 0])]) (n := 1) rfl dX1_init_5 dX1_init_8 dX1_init_9 mki2 clX1_7 lX1_9 (mk_X2 (a := w.length + 1) (List.length_append.trans rfl)) rfl (Nat.le_of_ble_eq_true rfl) (Nat.le_of_ble_eq_true rfl) (Nat.le_of_ble_eq_true rfl) ?_
  refine n_putFA (l := (bl2 G (w.length + 1))) (fs := [.null, .null, .int 0]) dX1_init_12 ffX1_10 (Nat.le_of_ble_eq_true rfl) ?_
  refine n_aload_n dX1_init_15 rfl ?_
  refine n_makeA (l := .inr (1, [.ref (G.b0 + (w.length + 1)), .null, .int 0]) :: (bl2 G (w.length + 1))) (n := 7) rfl dX1_init_16 dX1_init_19 dX1_init_20 mki8 clX1_16 lX1_18 (mk_X8 (a := w.length + 7) (List.length_append.trans rfl)) rfl (Nat.le_of_ble_eq_true rfl) (Nat.le_of_ble_eq_true rfl) (Nat.le_of_ble_eq_true rfl) ?_
  refine n_putFA (l := (apE (bl2 G (w.length + 1)) (bl8 G (w.length + 7)))) (fs := [.ref (G.b0 + (w.length + 1)), .null, .int 0]) dX1_init_23 ffX1_19 (Nat.le_of_ble_eq_true rfl) ?_
  exact n_ret dX1_init_26
abbrev bk12 : List Value := [.int 0, .null, .null, .null, .null, .null, .null, .null, .int 0, .int 0, .int 0, .int 0, .int 0, .int 0, .int 0, .int 0, .int 0, .int 0, .int 0, .null, .null, .null, .int 0, .int 0, .null, .null, .null, .null, .null, .null, .null, .null, .null, .null, .null]
theorem mkf12 : ∀ j, j < 35 → defaultValue (tyX12 j) = vp_V bk12 j := fun j hj => match j, hj with
  | 0, _ => rfl
  | 1, _ => rfl
  | 2, _ => rfl
  | 3, _ => rfl
  | 4, _ => rfl
  | 5, _ => rfl
  | 6, _ => rfl
  | 7, _ => rfl
  | 8, _ => rfl
  | 9, _ => rfl
  | 10, _ => rfl
  | 11, _ => rfl
  | 12, _ => rfl
  | 13, _ => rfl
  | 14, _ => rfl
  | 15, _ => rfl
  | 16, _ => rfl
  | 17, _ => rfl
  | 18, _ => rfl
  | 19, _ => rfl
  | 20, _ => rfl
  | 21, _ => rfl
  | 22, _ => rfl
  | 23, _ => rfl
  | 24, _ => rfl
  | 25, _ => rfl
  | 26, _ => rfl
  | 27, _ => rfl
  | 28, _ => rfl
  | 29, _ => rfl
  | 30, _ => rfl
  | 31, _ => rfl
  | 32, _ => rfl
  | 33, _ => rfl
  | 34, _ => rfl
  | n + 35, h => absurd h (by omega)
theorem mki12 : MKi yX12_init cX12_init 1 12 35 bk12 := ⟨TX12, tyX12, rfl, uX12, tyX12_ok, mkf12, insX12, iniX12, imX12_init, cdX12_init, rfl, ⟨by decide +kernel, by decide +kernel⟩, by decide +kernel, by decide⟩
def bl12 (G : GT) (a : Nat) : List va_E := .inr (12, fl12 G.b0 a (upd zf 17 (-1))) :: ([.inl (G.ci 0, 594, .inl zf), .inl (G.ci 3, 2, .inl zf), .inl (G.ci 0, 900, .inl zf), .inl (G.ci 0, 198, .inl zf), .inl (G.ci 0, 900, .inl zf), .inl (G.ci 0, 8, .inl zf), .inl (G.ci 0, 8, .inl zf), .inl (G.ci 0, 900, .inl zf), .inl (G.ci 0, 7, .inl zf), .inl (G.ci 0, 6, .inl zf), .inl (G.ci 0, 256, .inl zf), .inl (G.ci 0, 256, .inl zf), .inl (G.ci 0, 1536, .inl zf), .inl (G.ci 0, 1536, .inl zf), .inl (G.ci 0, 6, .inl zf), .inl (G.ci 0, 6, .inl zf), .inl (G.ci 0, 2401, .inl zf), .inl (G.ci 0, 65536, .inl zf), .inl (G.ci 0, 4, .inl (upd (upd (upd (upd zf 0 (-1)) 1 (-1)) 2 (-1)) 3 (-1))), .inl (G.ci 0, 4, .inl zf), .inl (G.ci 2, 160, .inr (.inl zl))])
theorem ffX12_13 : GFf RX12 13 12 1 := ⟨RX12, TX12, 35, tyX12, rfl, by decide, uX12, flX12_13, tyX12_ok, nmX12, rfl, rfl, by decide +kernel, fun _ => ⟨rfl, rfl⟩⟩
theorem ffX12_17 : GFf RX12 17 12 2 := ⟨RX12, TX12, 35, tyX12, rfl, by decide, uX12, flX12_17, tyX12_ok, nmX12, rfl, rfl, by decide +kernel, fun _ => ⟨rfl, rfl⟩⟩
theorem ffX12_21 : GFf RX12 21 12 3 := ⟨RX12, TX12, 35, tyX12, rfl, by decide, uX12, flX12_21, tyX12_ok, nmX12, rfl, rfl, by decide +kernel, fun _ => ⟨rfl, rfl⟩⟩
theorem ffX12_24 : GFf RX12 24 12 4 := ⟨RX12, TX12, 35, tyX12, rfl, by decide, uX12, flX12_24, tyX12_ok, nmX12, rfl, rfl, by decide +kernel, fun _ => ⟨rfl, rfl⟩⟩
theorem ffX12_27 : GFf RX12 27 12 5 := ⟨RX12, TX12, 35, tyX12, rfl, by decide, uX12, flX12_27, tyX12_ok, nmX12, rfl, rfl, by decide +kernel, fun _ => ⟨rfl, rfl⟩⟩
theorem ffX12_30 : GFf RX12 30 12 6 := ⟨RX12, TX12, 35, tyX12, rfl, by decide, uX12, flX12_30, tyX12_ok, nmX12, rfl, rfl, by decide +kernel, fun _ => ⟨rfl, rfl⟩⟩
theorem ffX12_33 : GFf RX12 33 12 7 := ⟨RX12, TX12, 35, tyX12, rfl, by decide, uX12, flX12_33, tyX12_ok, nmX12, rfl, rfl, by decide +kernel, fun _ => ⟨rfl, rfl⟩⟩
theorem ffX12_39 : GFf RX12 39 12 19 := ⟨RX12, TX12, 35, tyX12, rfl, by decide, uX12, flX12_39, tyX12_ok, nmX12, rfl, rfl, by decide +kernel, fun _ => ⟨rfl, rfl⟩⟩
theorem ffX12_42 : GFf RX12 42 12 20 := ⟨RX12, TX12, 35, tyX12, rfl, by decide, uX12, flX12_42, tyX12_ok, nmX12, rfl, rfl, by decide +kernel, fun _ => ⟨rfl, rfl⟩⟩
theorem ffX12_45 : GFf RX12 45 12 21 := ⟨RX12, TX12, 35, tyX12, rfl, by decide, uX12, flX12_45, tyX12_ok, nmX12, rfl, rfl, by decide +kernel, fun _ => ⟨rfl, rfl⟩⟩
theorem ffX12_48 : GFf RX12 48 12 24 := ⟨RX12, TX12, 35, tyX12, rfl, by decide, uX12, flX12_48, tyX12_ok, nmX12, rfl, rfl, by decide +kernel, fun _ => ⟨rfl, rfl⟩⟩
theorem ffX12_51 : GFf RX12 51 12 25 := ⟨RX12, TX12, 35, tyX12, rfl, by decide, uX12, flX12_51, tyX12_ok, nmX12, rfl, rfl, by decide +kernel, fun _ => ⟨rfl, rfl⟩⟩
theorem ffX12_54 : GFf RX12 54 12 26 := ⟨RX12, TX12, 35, tyX12, rfl, by decide, uX12, flX12_54, tyX12_ok, nmX12, rfl, rfl, by decide +kernel, fun _ => ⟨rfl, rfl⟩⟩
theorem ffX12_57 : GFf RX12 57 12 27 := ⟨RX12, TX12, 35, tyX12, rfl, by decide, uX12, flX12_57, tyX12_ok, nmX12, rfl, rfl, by decide +kernel, fun _ => ⟨rfl, rfl⟩⟩
theorem ffX12_60 : GFf RX12 60 12 28 := ⟨RX12, TX12, 35, tyX12, rfl, by decide, uX12, flX12_60, tyX12_ok, nmX12, rfl, rfl, by decide +kernel, fun _ => ⟨rfl, rfl⟩⟩
theorem ffX12_63 : GFf RX12 63 12 29 := ⟨RX12, TX12, 35, tyX12, rfl, by decide, uX12, flX12_63, tyX12_ok, nmX12, rfl, rfl, by decide +kernel, fun _ => ⟨rfl, rfl⟩⟩
theorem ffX12_66 : GFf RX12 66 12 30 := ⟨RX12, TX12, 35, tyX12, rfl, by decide, uX12, flX12_66, tyX12_ok, nmX12, rfl, rfl, by decide +kernel, fun _ => ⟨rfl, rfl⟩⟩
theorem ffX12_70 : GFf RX12 70 12 31 := ⟨RX12, TX12, 35, tyX12, rfl, by decide, uX12, flX12_70, tyX12_ok, nmX12, rfl, rfl, by decide +kernel, fun _ => ⟨rfl, rfl⟩⟩
theorem ffX12_73 : GFf RX12 73 12 32 := ⟨RX12, TX12, 35, tyX12, rfl, by decide, uX12, flX12_73, tyX12_ok, nmX12, rfl, rfl, by decide +kernel, fun _ => ⟨rfl, rfl⟩⟩
theorem ffX12_76 : GFf RX12 76 12 33 := ⟨RX12, TX12, 35, tyX12, rfl, by decide, uX12, flX12_76, tyX12_ok, nmX12, rfl, rfl, by decide +kernel, fun _ => ⟨rfl, rfl⟩⟩
theorem ffX12_79 : GFf RX12 79 12 34 := ⟨RX12, TX12, 35, tyX12, rfl, by decide, uX12, flX12_79, tyX12_ok, nmX12, rfl, rfl, by decide +kernel, fun _ => ⟨rfl, rfl⟩⟩
set_option maxRecDepth 100000 in
theorem mk_X12 {G : GT} {d : Nat} {w : List va_E} {a : Nat} (ha : w.length = a) : Mk G (d + 1) yX12_init cX12_init 1 21 75224 w (.inr (12, bk12)) (bl12 G a) := by
  subst ha
  refine mk_of (by decide +kernel) rfl (by decide) 0 rfl ?_
  refine n_aload_n dX12_init_0 rfl ?_
  refine n_obj dX12_init_1 lX12_7 (by decide) ?_
  refine n_aload_n dX12_init_4 rfl ?_
  refine n_sipush (v := nI 594) dX12_init_5 (by decide) ?_
  refine n_arrA (l := [.inr (12, [.int 0, .null, .null, .null, .null, .null, .null, .null, .int 0, .int 0, .int 0, .int 0, .int 0, .int 0, .int 0, .int 0, .int 0, .int 0, .int 0, .null, .null, .null, .int 0, .int 0, .null, .null, .null, .null, .null, .null, .null, .null, .null, .null, .null])]) (n := 1) (N := 594) (t0 := 0) (a0 := (594, .inl zf)) (v := nI 594) (x := 0) (y := 0) (mc := 21) (ms := 75224) rfl dX12_init_8 ac_int rfl rfl (fun _ _ h => h) (fun _ => rfl) (by decide) (by decide) (Nat.le_of_ble_eq_true rfl) (Nat.le_of_ble_eq_true rfl) (Nat.le_of_ble_eq_true rfl) ?_
  refine n_putFA (l := [.inl (G.ci 0, 594, .inl zf)]) (fs := [.int 0, .null, .null, .null, .null, .null, .null, .null, .int 0, .int 0, .int 0, .int 0, .int 0, .int 0, .int 0, .int 0, .int 0, .int 0, .int 0, .null, .null, .null, .int 0, .int 0, .null, .null, .null, .null, .null, .null, .null, .null, .null, .null, .null]) dX12_init_10 ffX12_13 (Nat.le_of_ble_eq_true rfl) ?_
  refine n_aload_n dX12_init_13 rfl ?_
  refine n_iconst (v := nI 2) dX12_init_14 (by decide) ?_
  refine n_arrA (l := .inr (12, [.int 0, .ref (G.b0 + (w.length + 1)), .null, .null, .null, .null, .null, .null, .int 0, .int 0, .int 0, .int 0, .int 0, .int 0, .int 0, .int 0, .int 0, .int 0, .int 0, .null, .null, .null, .int 0, .int 0, .null, .null, .null, .null, .null, .null, .null, .null, .null, .null, .null]) :: [.inl (G.ci 0, 594, .inl zf)]) (n := 2) (N := 2) (t0 := 3) (a0 := (2, .inl zf)) (v := nI 2) (x := 1) (y := 594) (mc := 21) (ms := 75224) rfl dX12_init_15 ac_boolean rfl rfl (fun _ _ h => h) (fun _ => rfl) (by decide) (by decide) (Nat.le_of_ble_eq_true rfl) (Nat.le_of_ble_eq_true rfl) (Nat.le_of_ble_eq_true rfl) ?_
  refine n_putFA (l := [.inl (G.ci 0, 594, .inl zf), .inl (G.ci 3, 2, .inl zf)]) (fs := [.int 0, .ref (G.b0 + (w.length + 1)), .null, .null, .null, .null, .null, .null, .int 0, .int 0, .int 0, .int 0, .int 0, .int 0, .int 0, .int 0, .int 0, .int 0, .int 0, .null, .null, .null, .int 0, .int 0, .null, .null, .null, .null, .null, .null, .null, .null, .null, .null, .null]) dX12_init_17 ffX12_17 (Nat.le_of_ble_eq_true rfl) ?_
  refine n_aload_n dX12_init_20 rfl ?_
  refine n_sipush (v := nI 900) dX12_init_21 (by decide) ?_
  refine n_arrA (l := .inr (12, [.int 0, .ref (G.b0 + (w.length + 1)), .ref (G.b0 + (w.length + 2)), .null, .null, .null, .null, .null, .int 0, .int 0, .int 0, .int 0, .int 0, .int 0, .int 0, .int 0, .int 0, .int 0, .int 0, .null, .null, .null, .int 0, .int 0, .null, .null, .null, .null, .null, .null, .null, .null, .null, .null, .null]) :: [.inl (G.ci 0, 594, .inl zf), .inl (G.ci 3, 2, .inl zf)]) (n := 3) (N := 900) (t0 := 0) (a0 := (900, .inl zf)) (v := nI 900) (x := 2) (y := 596) (mc := 21) (ms := 75224) rfl dX12_init_24 ac_int rfl rfl (fun _ _ h => h) (fun _ => rfl) (by decide) (by decide) (Nat.le_of_ble_eq_true rfl) (Nat.le_of_ble_eq_true rfl) (Nat.le_of_ble_eq_true rfl) ?_
  refine n_putFA (l := [.inl (G.ci 0, 594, .inl zf), .inl (G.ci 3, 2, .inl zf), .inl (G.ci 0, 900, .inl zf)]) (fs := [.int 0, .ref (G.b0 + (w.length + 1)), .ref (G.b0 + (w.length + 2)), .null, .null, .null, .null, .null, .int 0, .int 0, .int 0, .int 0, .int 0, .int 0, .int 0, .int 0, .int 0, .int 0, .int 0, .null, .null, .null, .int 0, .int 0, .null, .null, .null, .null, .null, .null, .null, .null, .null, .null, .null]) dX12_init_26 ffX12_21 (Nat.le_of_ble_eq_true rfl) ?_
  refine n_aload_n dX12_init_29 rfl ?_
  refine n_sipush (v := nI 198) dX12_init_30 (by decide) ?_
  refine n_arrA (l := .inr (12, [.int 0, .ref (G.b0 + (w.length + 1)), .ref (G.b0 + (w.length + 2)), .ref (G.b0 + (w.length + 3)), .null, .null, .null, .null, .int 0, .int 0, .int 0, .int 0, .int 0, .int 0, .int 0, .int 0, .int 0, .int 0, .int 0, .null, .null, .null, .int 0, .int 0, .null, .null, .null, .null, .null, .null, .null, .null, .null, .null, .null]) :: [.inl (G.ci 0, 594, .inl zf), .inl (G.ci 3, 2, .inl zf), .inl (G.ci 0, 900, .inl zf)]) (n := 4) (N := 198) (t0 := 0) (a0 := (198, .inl zf)) (v := nI 198) (x := 3) (y := 1496) (mc := 21) (ms := 75224) rfl dX12_init_33 ac_int rfl rfl (fun _ _ h => h) (fun _ => rfl) (by decide) (by decide) (Nat.le_of_ble_eq_true rfl) (Nat.le_of_ble_eq_true rfl) (Nat.le_of_ble_eq_true rfl) ?_
  refine n_putFA (l := [.inl (G.ci 0, 594, .inl zf), .inl (G.ci 3, 2, .inl zf), .inl (G.ci 0, 900, .inl zf), .inl (G.ci 0, 198, .inl zf)]) (fs := [.int 0, .ref (G.b0 + (w.length + 1)), .ref (G.b0 + (w.length + 2)), .ref (G.b0 + (w.length + 3)), .null, .null, .null, .null, .int 0, .int 0, .int 0, .int 0, .int 0, .int 0, .int 0, .int 0, .int 0, .int 0, .int 0, .null, .null, .null, .int 0, .int 0, .null, .null, .null, .null, .null, .null, .null, .null, .null, .null, .null]) dX12_init_35 ffX12_24 (Nat.le_of_ble_eq_true rfl) ?_
  refine n_aload_n dX12_init_38 rfl ?_
  refine n_sipush (v := nI 900) dX12_init_39 (by decide) ?_
  refine n_arrA (l := .inr (12, [.int 0, .ref (G.b0 + (w.length + 1)), .ref (G.b0 + (w.length + 2)), .ref (G.b0 + (w.length + 3)), .ref (G.b0 + (w.length + 4)), .null, .null, .null, .int 0, .int 0, .int 0, .int 0, .int 0, .int 0, .int 0, .int 0, .int 0, .int 0, .int 0, .null, .null, .null, .int 0, .int 0, .null, .null, .null, .null, .null, .null, .null, .null, .null, .null, .null]) :: [.inl (G.ci 0, 594, .inl zf), .inl (G.ci 3, 2, .inl zf), .inl (G.ci 0, 900, .inl zf), .inl (G.ci 0, 198, .inl zf)]) (n := 5) (N := 900) (t0 := 0) (a0 := (900, .inl zf)) (v := nI 900) (x := 4) (y := 1694) (mc := 21) (ms := 75224) rfl dX12_init_42 ac_int rfl rfl (fun _ _ h => h) (fun _ => rfl) (by decide) (by decide) (Nat.le_of_ble_eq_true rfl) (Nat.le_of_ble_eq_true rfl) (Nat.le_of_ble_eq_true rfl) ?_
  refine n_putFA (l := [.inl (G.ci 0, 594, .inl zf), .inl (G.ci 3, 2, .inl zf), .inl (G.ci 0, 900, .inl zf), .inl (G.ci 0, 198, .inl zf), .inl (G.ci 0, 900, .inl zf)]) (fs := [.int 0, .ref (G.b0 + (w.length + 1)), .ref (G.b0 + (w.length + 2)), .ref (G.b0 + (w.length + 3)), .ref (G.b0 + (w.length + 4)), .null, .null, .null, .int 0, .int 0, .int 0, .int 0, .int 0, .int 0, .int 0, .int 0, .int 0, .int 0, .int 0, .null, .null, .null, .int 0, .int 0, .null, .null, .null, .null, .null, .null, .null, .null, .null, .null, .null]) dX12_init_44 ffX12_27 (Nat.le_of_ble_eq_true rfl) ?_
  refine n_aload_n dX12_init_47 rfl ?_
  refine n_bipush (v := nI 8) dX12_init_48 (by decide) ?_
  refine n_arrA (l := .inr (12, [.int 0, .ref (G.b0 + (w.length + 1)), .ref (G.b0 + (w.length + 2)), .ref (G.b0 + (w.length + 3)), .ref (G.b0 + (w.length + 4)), .ref (G.b0 + (w.length + 5)), .null, .null, .int 0, .int 0, .int 0, .int 0, .int 0, .int 0, .int 0, .int 0, .int 0, .int 0, .int 0, .null, .null, .null, .int 0, .int 0, .null, .null, .null, .null, .null, .null, .null, .null, .null, .null, .null]) :: [.inl (G.ci 0, 594, .inl zf), .inl (G.ci 3, 2, .inl zf), .inl (G.ci 0, 900, .inl zf), .inl (G.ci 0, 198, .inl zf), .inl (G.ci 0, 900, .inl zf)]) (n := 6) (N := 8) (t0 := 0) (a0 := (8, .inl zf)) (v := nI 8) (x := 5) (y := 2594) (mc := 21) (ms := 75224) rfl dX12_init_50 ac_int rfl rfl (fun _ _ h => h) (fun _ => rfl) (by decide) (by decide) (Nat.le_of_ble_eq_true rfl) (Nat.le_of_ble_eq_true rfl) (Nat.le_of_ble_eq_true rfl) ?_
  refine n_putFA (l := [.inl (G.ci 0, 594, .inl zf), .inl (G.ci 3, 2, .inl zf), .inl (G.ci 0, 900, .inl zf), .inl (G.ci 0, 198, .inl zf), .inl (G.ci 0, 900, .inl zf), .inl (G.ci 0, 8, .inl zf)]) (fs := [.int 0, .ref (G.b0 + (w.length + 1)), .ref (G.b0 + (w.length + 2)), .ref (G.b0 + (w.length + 3)), .ref (G.b0 + (w.length + 4)), .ref (G.b0 + (w.length + 5)), .null, .null, .int 0, .int 0, .int 0, .int 0, .int 0, .int 0, .int 0, .int 0, .int 0, .int 0, .int 0, .null, .null, .null, .int 0, .int 0, .null, .null, .null, .null, .null, .null, .null, .null, .null, .null, .null]) dX12_init_52 ffX12_30 (Nat.le_of_ble_eq_true rfl) ?_
  refine n_aload_n dX12_init_55 rfl ?_
  refine n_bipush (v := nI 8) dX12_init_56 (by decide) ?_
  refine n_arrA (l := .inr (12, [.int 0, .ref (G.b0 + (w.length + 1)), .ref (G.b0 + (w.length + 2)), .ref (G.b0 + (w.length + 3)), .ref (G.b0 + (w.length + 4)), .ref (G.b0 + (w.length + 5)), .ref (G.b0 + (w.length + 6)), .null, .int 0, .int 0, .int 0, .int 0, .int 0, .int 0, .int 0, .int 0, .int 0, .int 0, .int 0, .null, .null, .null, .int 0, .int 0, .null, .null, .null, .null, .null, .null, .null, .null, .null, .null, .null]) :: [.inl (G.ci 0, 594, .inl zf), .inl (G.ci 3, 2, .inl zf), .inl (G.ci 0, 900, .inl zf), .inl (G.ci 0, 198, .inl zf), .inl (G.ci 0, 900, .inl zf), .inl (G.ci 0, 8, .inl zf)]) (n := 7) (N := 8) (t0 := 0) (a0 := (8, .inl zf)) (v := nI 8) (x := 6) (y := 2602) (mc := 21) (ms := 75224) rfl dX12_init_58 ac_int rfl rfl (fun _ _ h => h) (fun _ => rfl) (by decide) (by decide) (Nat.le_of_ble_eq_true rfl) (Nat.le_of_ble_eq_true rfl) (Nat.le_of_ble_eq_true rfl) ?_
  refine n_putFA (l := [.inl (G.ci 0, 594, .inl zf), .inl (G.ci 3, 2, .inl zf), .inl (G.ci 0, 900, .inl zf), .inl (G.ci 0, 198, .inl zf), .inl (G.ci 0, 900, .inl zf), .inl (G.ci 0, 8, .inl zf), .inl (G.ci 0, 8, .inl zf)]) (fs := [.int 0, .ref (G.b0 + (w.length + 1)), .ref (G.b0 + (w.length + 2)), .ref (G.b0 + (w.length + 3)), .ref (G.b0 + (w.length + 4)), .ref (G.b0 + (w.length + 5)), .ref (G.b0 + (w.length + 6)), .null, .int 0, .int 0, .int 0, .int 0, .int 0, .int 0, .int 0, .int 0, .int 0, .int 0, .int 0, .null, .null, .null, .int 0, .int 0, .null, .null, .null, .null, .null, .null, .null, .null, .null, .null, .null]) dX12_init_60 ffX12_33 (Nat.le_of_ble_eq_true rfl) ?_
  refine n_aload_n dX12_init_63 rfl ?_
  refine n_iconst (v := -1) dX12_init_64 (by decide) ?_
  refine n_putA (l := [.inl (G.ci 0, 594, .inl zf), .inl (G.ci 3, 2, .inl zf), .inl (G.ci 0, 900, .inl zf), .inl (G.ci 0, 198, .inl zf), .inl (G.ci 0, 900, .inl zf), .inl (G.ci 0, 8, .inl zf), .inl (G.ci 0, 8, .inl zf)]) (fs := [.int 0, .ref (G.b0 + (w.length + 1)), .ref (G.b0 + (w.length + 2)), .ref (G.b0 + (w.length + 3)), .ref (G.b0 + (w.length + 4)), .ref (G.b0 + (w.length + 5)), .ref (G.b0 + (w.length + 6)), .ref (G.b0 + (w.length + 7)), .int 0, .int 0, .int 0, .int 0, .int 0, .int 0, .int 0, .int 0, .int 0, .int 0, .int 0, .null, .null, .null, .int 0, .int 0, .null, .null, .null, .null, .null, .null, .null, .null, .null, .null, .null]) dX12_init_65 wX12_36 (Nat.le_of_ble_eq_true rfl) tfX12_17 ?_
  refine n_aload_n dX12_init_68 rfl ?_
  refine n_sipush (v := nI 900) dX12_init_69 (by decide) ?_
  refine n_arrA (l := .inr (12, [.int 0, .ref (G.b0 + (w.length + 1)), .ref (G.b0 + (w.length + 2)), .ref (G.b0 + (w.length + 3)), .ref (G.b0 + (w.length + 4)), .ref (G.b0 + (w.length + 5)), .ref (G.b0 + (w.length + 6)), .ref (G.b0 + (w.length + 7)), .int 0, .int 0, .int 0, .int 0, .int 0, .int 0, .int 0, .int 0, .int 0, .int (-1), .int 0, .null, .null, .null, .int 0, .int 0, .null, .null, .null, .null, .null, .null, .null, .null, .null, .null, .null]) :: [.inl (G.ci 0, 594, .inl zf), .inl (G.ci 3, 2, .inl zf), .inl (G.ci 0, 900, .inl zf), .inl (G.ci 0, 198, .inl zf), .inl (G.ci 0, 900, .inl zf), .inl (G.ci 0, 8, .inl zf), .inl (G.ci 0, 8, .inl zf)]) (n := 8) (N := 900) (t0 := 0) (a0 := (900, .inl zf)) (v := nI 900) (x := 7) (y := 2610) (mc := 21) (ms := 75224) rfl dX12_init_72 ac_int rfl rfl (fun _ _ h => h) (fun _ => rfl) (by decide) (by decide) (Nat.le_of_ble_eq_true rfl) (Nat.le_of_ble_eq_true rfl) (Nat.le_of_ble_eq_true rfl) ?_
  refine n_putFA (l := [.inl (G.ci 0, 594, .inl zf), .inl (G.ci 3, 2, .inl zf), .inl (G.ci 0, 900, .inl zf), .inl (G.ci 0, 198, .inl zf), .inl (G.ci 0, 900, .inl zf), .inl (G.ci 0, 8, .inl zf), .inl (G.ci 0, 8, .inl zf), .inl (G.ci 0, 900, .inl zf)]) (fs := [.int 0, .ref (G.b0 + (w.length + 1)), .ref (G.b0 + (w.length + 2)), .ref (G.b0 + (w.length + 3)), .ref (G.b0 + (w.length + 4)), .ref (G.b0 + (w.length + 5)), .ref (G.b0 + (w.length + 6)), .ref (G.b0 + (w.length + 7)), .int 0, .int 0, .int 0, .int 0, .int 0, .int 0, .int 0, .int 0, .int 0, .int (-1), .int 0, .null, .null, .null, .int 0, .int 0, .null, .null, .null, .null, .null, .null, .null, .null, .null, .null, .null]) dX12_init_74 ffX12_39 (Nat.le_of_ble_eq_true rfl) ?_
  refine n_aload_n dX12_init_77 rfl ?_
  refine n_bipush (v := nI 7) dX12_init_78 (by decide) ?_
  refine n_arrA (l := .inr (12, [.int 0, .ref (G.b0 + (w.length + 1)), .ref (G.b0 + (w.length + 2)), .ref (G.b0 + (w.length + 3)), .ref (G.b0 + (w.length + 4)), .ref (G.b0 + (w.length + 5)), .ref (G.b0 + (w.length + 6)), .ref (G.b0 + (w.length + 7)), .int 0, .int 0, .int 0, .int 0, .int 0, .int 0, .int 0, .int 0, .int 0, .int (-1), .int 0, .ref (G.b0 + (w.length + 8)), .null, .null, .int 0, .int 0, .null, .null, .null, .null, .null, .null, .null, .null, .null, .null, .null]) :: [.inl (G.ci 0, 594, .inl zf), .inl (G.ci 3, 2, .inl zf), .inl (G.ci 0, 900, .inl zf), .inl (G.ci 0, 198, .inl zf), .inl (G.ci 0, 900, .inl zf), .inl (G.ci 0, 8, .inl zf), .inl (G.ci 0, 8, .inl zf), .inl (G.ci 0, 900, .inl zf)]) (n := 9) (N := 7) (t0 := 0) (a0 := (7, .inl zf)) (v := nI 7) (x := 8) (y := 3510) (mc := 21) (ms := 75224) rfl dX12_init_80 ac_int rfl rfl (fun _ _ h => h) (fun _ => rfl) (by decide) (by decide) (Nat.le_of_ble_eq_true rfl) (Nat.le_of_ble_eq_true rfl) (Nat.le_of_ble_eq_true rfl) ?_
  refine n_putFA (l := [.inl (G.ci 0, 594, .inl zf), .inl (G.ci 3, 2, .inl zf), .inl (G.ci 0, 900, .inl zf), .inl (G.ci 0, 198, .inl zf), .inl (G.ci 0, 900, .inl zf), .inl (G.ci 0, 8, .inl zf), .inl (G.ci 0, 8, .inl zf), .inl (G.ci 0, 900, .inl zf), .inl (G.ci 0, 7, .inl zf)]) (fs := [.int 0, .ref (G.b0 + (w.length + 1)), .ref (G.b0 + (w.length + 2)), .ref (G.b0 + (w.length + 3)), .ref (G.b0 + (w.length + 4)), .ref (G.b0 + (w.length + 5)), .ref (G.b0 + (w.length + 6)), .ref (G.b0 + (w.length + 7)), .int 0, .int 0, .int 0, .int 0, .int 0, .int 0, .int 0, .int 0, .int 0, .int (-1), .int 0, .ref (G.b0 + (w.length + 8)), .null, .null, .int 0, .int 0, .null, .null, .null, .null, .null, .null, .null, .null, .null, .null, .null]) dX12_init_82 ffX12_42 (Nat.le_of_ble_eq_true rfl) ?_
  refine n_aload_n dX12_init_85 rfl ?_
  refine n_bipush (v := nI 6) dX12_init_86 (by decide) ?_
  refine n_arrA (l := .inr (12, [.int 0, .ref (G.b0 + (w.length + 1)), .ref (G.b0 + (w.length + 2)), .ref (G.b0 + (w.length + 3)), .ref (G.b0 + (w.length + 4)), .ref (G.b0 + (w.length + 5)), .ref (G.b0 + (w.length + 6)), .ref (G.b0 + (w.length + 7)), .int 0, .int 0, .int 0, .int 0, .int 0, .int 0, .int 0, .int 0, .int 0, .int (-1), .int 0, .ref (G.b0 + (w.length + 8)), .ref (G.b0 + (w.length + 9)), .null, .int 0, .int 0, .null, .null, .null, .null, .null, .null, .null, .null, .null, .null, .null]) :: [.inl (G.ci 0, 594, .inl zf), .inl (G.ci 3, 2, .inl zf), .inl (G.ci 0, 900, .inl zf), .inl (G.ci 0, 198, .inl zf), .inl (G.ci 0, 900, .inl zf), .inl (G.ci 0, 8, .inl zf), .inl (G.ci 0, 8, .inl zf), .inl (G.ci 0, 900, .inl zf), .inl (G.ci 0, 7, .inl zf)]) (n := 10) (N := 6) (t0 := 0) (a0 := (6, .inl zf)) (v := nI 6) (x := 9) (y := 3517) (mc := 21) (ms := 75224) rfl dX12_init_88 ac_int rfl rfl (fun _ _ h => h) (fun _ => rfl) (by decide) (by decide) (Nat.le_of_ble_eq_true rfl) (Nat.le_of_ble_eq_true rfl) (Nat.le_of_ble_eq_true rfl) ?_
  refine n_putFA (l := [.inl (G.ci 0, 594, .inl zf), .inl (G.ci 3, 2, .inl zf), .inl (G.ci 0, 900, .inl zf), .inl (G.ci 0, 198, .inl zf), .inl (G.ci 0, 900, .inl zf), .inl (G.ci 0, 8, .inl zf), .inl (G.ci 0, 8, .inl zf), .inl (G.ci 0, 900, .inl zf), .inl (G.ci 0, 7, .inl zf), .inl (G.ci 0, 6, .inl zf)]) (fs := [.int 0, .ref (G.b0 + (w.length + 1)), .ref (G.b0 + (w.length + 2)), .ref (G.b0 + (w.length + 3)), .ref (G.b0 + (w.length + 4)), .ref (G.b0 + (w.length + 5)), .ref (G.b0 + (w.length + 6)), .ref (G.b0 + (w.length + 7)), .int 0, .int 0, .int 0, .int 0, .int 0, .int 0, .int 0, .int 0, .int 0, .int (-1), .int 0, .ref (G.b0 + (w.length + 8)), .ref (G.b0 + (w.length + 9)), .null, .int 0, .int 0, .null, .null, .null, .null, .null, .null, .null, .null, .null, .null, .null]) dX12_init_90 ffX12_45 (Nat.le_of_ble_eq_true rfl) ?_
  refine n_aload_n dX12_init_93 rfl ?_
  refine n_sipush (v := nI 256) dX12_init_94 (by decide) ?_
  refine n_arrA (l := .inr (12, [.int 0, .ref (G.b0 + (w.length + 1)), .ref (G.b0 + (w.length + 2)), .ref (G.b0 + (w.length + 3)), .ref (G.b0 + (w.length + 4)), .ref (G.b0 + (w.length + 5)), .ref (G.b0 + (w.length + 6)), .ref (G.b0 + (w.length + 7)), .int 0, .int 0, .int 0, .int 0, .int 0, .int 0, .int 0, .int 0, .int 0, .int (-1), .int 0, .ref (G.b0 + (w.length + 8)), .ref (G.b0 + (w.length + 9)), .ref (G.b0 + (w.length + 10)), .int 0, .int 0, .null, .null, .null, .null, .null, .null, .null, .null, .null, .null, .null]) :: [.inl (G.ci 0, 594, .inl zf), .inl (G.ci 3, 2, .inl zf), .inl (G.ci 0, 900, .inl zf), .inl (G.ci 0, 198, .inl zf), .inl (G.ci 0, 900, .inl zf), .inl (G.ci 0, 8, .inl zf), .inl (G.ci 0, 8, .inl zf), .inl (G.ci 0, 900, .inl zf), .inl (G.ci 0, 7, .inl zf), .inl (G.ci 0, 6, .inl zf)]) (n := 11) (N := 256) (t0 := 0) (a0 := (256, .inl zf)) (v := nI 256) (x := 10) (y := 3523) (mc := 21) (ms := 75224) rfl dX12_init_97 ac_int rfl rfl (fun _ _ h => h) (fun _ => rfl) (by decide) (by decide) (Nat.le_of_ble_eq_true rfl) (Nat.le_of_ble_eq_true rfl) (Nat.le_of_ble_eq_true rfl) ?_
  refine n_putFA (l := [.inl (G.ci 0, 594, .inl zf), .inl (G.ci 3, 2, .inl zf), .inl (G.ci 0, 900, .inl zf), .inl (G.ci 0, 198, .inl zf), .inl (G.ci 0, 900, .inl zf), .inl (G.ci 0, 8, .inl zf), .inl (G.ci 0, 8, .inl zf), .inl (G.ci 0, 900, .inl zf), .inl (G.ci 0, 7, .inl zf), .inl (G.ci 0, 6, .inl zf), .inl (G.ci 0, 256, .inl zf)]) (fs := [.int 0, .ref (G.b0 + (w.length + 1)), .ref (G.b0 + (w.length + 2)), .ref (G.b0 + (w.length + 3)), .ref (G.b0 + (w.length + 4)), .ref (G.b0 + (w.length + 5)), .ref (G.b0 + (w.length + 6)), .ref (G.b0 + (w.length + 7)), .int 0, .int 0, .int 0, .int 0, .int 0, .int 0, .int 0, .int 0, .int 0, .int (-1), .int 0, .ref (G.b0 + (w.length + 8)), .ref (G.b0 + (w.length + 9)), .ref (G.b0 + (w.length + 10)), .int 0, .int 0, .null, .null, .null, .null, .null, .null, .null, .null, .null, .null, .null]) dX12_init_99 ffX12_48 (Nat.le_of_ble_eq_true rfl) ?_
  refine n_aload_n dX12_init_102 rfl ?_
  refine n_sipush (v := nI 256) dX12_init_103 (by decide) ?_
  refine n_arrA (l := .inr (12, [.int 0, .ref (G.b0 + (w.length + 1)), .ref (G.b0 + (w.length + 2)), .ref (G.b0 + (w.length + 3)), .ref (G.b0 + (w.length + 4)), .ref (G.b0 + (w.length + 5)), .ref (G.b0 + (w.length + 6)), .ref (G.b0 + (w.length + 7)), .int 0, .int 0, .int 0, .int 0, .int 0, .int 0, .int 0, .int 0, .int 0, .int (-1), .int 0, .ref (G.b0 + (w.length + 8)), .ref (G.b0 + (w.length + 9)), .ref (G.b0 + (w.length + 10)), .int 0, .int 0, .ref (G.b0 + (w.length + 11)), .null, .null, .null, .null, .null, .null, .null, .null, .null, .null]) :: [.inl (G.ci 0, 594, .inl zf), .inl (G.ci 3, 2, .inl zf), .inl (G.ci 0, 900, .inl zf), .inl (G.ci 0, 198, .inl zf), .inl (G.ci 0, 900, .inl zf), .inl (G.ci 0, 8, .inl zf), .inl (G.ci 0, 8, .inl zf), .inl (G.ci 0, 900, .inl zf), .inl (G.ci 0, 7, .inl zf), .inl (G.ci 0, 6, .inl zf), .inl (G.ci 0, 256, .inl zf)]) (n := 12) (N := 256) (t0 := 0) (a0 := (256, .inl zf)) (v := nI 256) (x := 11) (y := 3779) (mc := 21) (ms := 75224) rfl dX12_init_106 ac_int rfl rfl (fun _ _ h => h) (fun _ => rfl) (by decide) (by decide) (Nat.le_of_ble_eq_true rfl) (Nat.le_of_ble_eq_true rfl) (Nat.le_of_ble_eq_true rfl) ?_
  refine n_putFA (l := [.inl (G.ci 0, 594, .inl zf), .inl (G.ci 3, 2, .inl zf), .inl (G.ci 0, 900, .inl zf), .inl (G.ci 0, 198, .inl zf), .inl (G.ci 0, 900, .inl zf), .inl (G.ci 0, 8, .inl zf), .inl (G.ci 0, 8, .inl zf), .inl (G.ci 0, 900, .inl zf), .inl (G.ci 0, 7, .inl zf), .inl (G.ci 0, 6, .inl zf), .inl (G.ci 0, 256, .inl zf), .inl (G.ci 0, 256, .inl zf)]) (fs := [.int 0, .ref (G.b0 + (w.length + 1)), .ref (G.b0 + (w.length + 2)), .ref (G.b0 + (w.length + 3)), .ref (G.b0 + (w.length + 4)), .ref (G.b0 + (w.length + 5)), .ref (G.b0 + (w.length + 6)), .ref (G.b0 + (w.length + 7)), .int 0, .int 0, .int 0, .int 0, .int 0, .int 0, .int 0, .int 0, .int 0, .int (-1), .int 0, .ref (G.b0 + (w.length + 8)), .ref (G.b0 + (w.length + 9)), .ref (G.b0 + (w.length + 10)), .int 0, .int 0, .ref (G.b0 + (w.length + 11)), .null, .null, .null, .null, .null, .null, .null, .null, .null, .null]) dX12_init_108 ffX12_51 (Nat.le_of_ble_eq_true rfl) ?_
  refine n_aload_n dX12_init_111 rfl ?_
  refine n_sipush (v := nI 1536) dX12_init_112 (by decide) ?_
  refine n_arrA (l := .inr (12, [.int 0, .ref (G.b0 + (w.length + 1)), .ref (G.b0 + (w.length + 2)), .ref (G.b0 + (w.length + 3)), .ref (G.b0 + (w.length + 4)), .ref (G.b0 + (w.length + 5)), .ref (G.b0 + (w.length + 6)), .ref (G.b0 + (w.length + 7)), .int 0, .int 0, .int 0, .int 0, .int 0, .int 0, .int 0, .int 0, .int 0, .int (-1), .int 0, .ref (G.b0 + (w.length + 8)), .ref (G.b0 + (w.length + 9)), .ref (G.b0 + (w.length + 10)), .int 0, .int 0, .ref (G.b0 + (w.length + 11)), .ref (G.b0 + (w.length + 12)), .null, .null, .null, .null, .null, .null, .null, .null, .null]) :: [.inl (G.ci 0, 594, .inl zf), .inl (G.ci 3, 2, .inl zf), .inl (G.ci 0, 900, .inl zf), .inl (G.ci 0, 198, .inl zf), .inl (G.ci 0, 900, .inl zf), .inl (G.ci 0, 8, .inl zf), .inl (G.ci 0, 8, .inl zf), .inl (G.ci 0, 900, .inl zf), .inl (G.ci 0, 7, .inl zf), .inl (G.ci 0, 6, .inl zf), .inl (G.ci 0, 256, .inl zf), .inl (G.ci 0, 256, .inl zf)]) (n := 13) (N := 1536) (t0 := 0) (a0 := (1536, .inl zf)) (v := nI 1536) (x := 12) (y := 4035) (mc := 21) (ms := 75224) rfl dX12_init_115 ac_int rfl rfl (fun _ _ h => h) (fun _ => rfl) (by decide) (by decide) (Nat.le_of_ble_eq_true rfl) (Nat.le_of_ble_eq_true rfl) (Nat.le_of_ble_eq_true rfl) ?_
  refine n_putFA (l := [.inl (G.ci 0, 594, .inl zf), .inl (G.ci 3, 2, .inl zf), .inl (G.ci 0, 900, .inl zf), .inl (G.ci 0, 198, .inl zf), .inl (G.ci 0, 900, .inl zf), .inl (G.ci 0, 8, .inl zf), .inl (G.ci 0, 8, .inl zf), .inl (G.ci 0, 900, .inl zf), .inl (G.ci 0, 7, .inl zf), .inl (G.ci 0, 6, .inl zf), .inl (G.ci 0, 256, .inl zf), .inl (G.ci 0, 256, .inl zf), .inl (G.ci 0, 1536, .inl zf)]) (fs := [.int 0, .ref (G.b0 + (w.length + 1)), .ref (G.b0 + (w.length + 2)), .ref (G.b0 + (w.length + 3)), .ref (G.b0 + (w.length + 4)), .ref (G.b0 + (w.length + 5)), .ref (G.b0 + (w.length + 6)), .ref (G.b0 + (w.length + 7)), .int 0, .int 0, .int 0, .int 0, .int 0, .int 0, .int 0, .int 0, .int 0, .int (-1), .int 0, .ref (G.b0 + (w.length + 8)), .ref (G.b0 + (w.length + 9)), .ref (G.b0 + (w.length + 10)), .int 0, .int 0, .ref (G.b0 + (w.length + 11)), .ref (G.b0 + (w.length + 12)), .null, .null, .null, .null, .null, .null, .null, .null, .null]) dX12_init_117 ffX12_54 (Nat.le_of_ble_eq_true rfl) ?_
  refine n_aload_n dX12_init_120 rfl ?_
  refine n_sipush (v := nI 1536) dX12_init_121 (by decide) ?_
  refine n_arrA (l := .inr (12, [.int 0, .ref (G.b0 + (w.length + 1)), .ref (G.b0 + (w.length + 2)), .ref (G.b0 + (w.length + 3)), .ref (G.b0 + (w.length + 4)), .ref (G.b0 + (w.length + 5)), .ref (G.b0 + (w.length + 6)), .ref (G.b0 + (w.length + 7)), .int 0, .int 0, .int 0, .int 0, .int 0, .int 0, .int 0, .int 0, .int 0, .int (-1), .int 0, .ref (G.b0 + (w.length + 8)), .ref (G.b0 + (w.length + 9)), .ref (G.b0 + (w.length + 10)), .int 0, .int 0, .ref (G.b0 + (w.length + 11)), .ref (G.b0 + (w.length + 12)), .ref (G.b0 + (w.length + 13)), .null, .null, .null, .null, .null, .null, .null, .null]) :: [.inl (G.ci 0, 594, .inl zf), .inl (G.ci 3, 2, .inl zf), .inl (G.ci 0, 900, .inl zf), .inl (G.ci 0, 198, .inl zf), .inl (G.ci 0, 900, .inl zf), .inl (G.ci 0, 8, .inl zf), .inl (G.ci 0, 8, .inl zf), .inl (G.ci 0, 900, .inl zf), .inl (G.ci 0, 7, .inl zf), .inl (G.ci 0, 6, .inl zf), .inl (G.ci 0, 256, .inl zf), .inl (G.ci 0, 256, .inl zf), .inl (G.ci 0, 1536, .inl zf)]) (n := 14) (N := 1536) (t0 := 0) (a0 := (1536, .inl zf)) (v := nI 1536) (x := 13) (y := 5571) (mc := 21) (ms := 75224) rfl dX12_init_124 ac_int rfl rfl (fun _ _ h => h) (fun _ => rfl) (by decide) (by decide) (Nat.le_of_ble_eq_true rfl) (Nat.le_of_ble_eq_true rfl) (Nat.le_of_ble_eq_true rfl) ?_
  refine n_putFA (l := [.inl (G.ci 0, 594, .inl zf), .inl (G.ci 3, 2, .inl zf), .inl (G.ci 0, 900, .inl zf), .inl (G.ci 0, 198, .inl zf), .inl (G.ci 0, 900, .inl zf), .inl (G.ci 0, 8, .inl zf), .inl (G.ci 0, 8, .inl zf), .inl (G.ci 0, 900, .inl zf), .inl (G.ci 0, 7, .inl zf), .inl (G.ci 0, 6, .inl zf), .inl (G.ci 0, 256, .inl zf), .inl (G.ci 0, 256, .inl zf), .inl (G.ci 0, 1536, .inl zf), .inl (G.ci 0, 1536, .inl zf)]) (fs := [.int 0, .ref (G.b0 + (w.length + 1)), .ref (G.b0 + (w.length + 2)), .ref (G.b0 + (w.length + 3)), .ref (G.b0 + (w.length + 4)), .ref (G.b0 + (w.length + 5)), .ref (G.b0 + (w.length + 6)), .ref (G.b0 + (w.length + 7)), .int 0, .int 0, .int 0, .int 0, .int 0, .int 0, .int 0, .int 0, .int 0, .int (-1), .int 0, .ref (G.b0 + (w.length + 8)), .ref (G.b0 + (w.length + 9)), .ref (G.b0 + (w.length + 10)), .int 0, .int 0, .ref (G.b0 + (w.length + 11)), .ref (G.b0 + (w.length + 12)), .ref (G.b0 + (w.length + 13)), .null, .null, .null, .null, .null, .null, .null, .null]) dX12_init_126 ffX12_57 (Nat.le_of_ble_eq_true rfl) ?_
  refine n_aload_n dX12_init_129 rfl ?_
  refine n_bipush (v := nI 6) dX12_init_130 (by decide) ?_
  refine n_arrA (l := .inr (12, [.int 0, .ref (G.b0 + (w.length + 1)), .ref (G.b0 + (w.length + 2)), .ref (G.b0 + (w.length + 3)), .ref (G.b0 + (w.length + 4)), .ref (G.b0 + (w.length + 5)), .ref (G.b0 + (w.length + 6)), .ref (G.b0 + (w.length + 7)), .int 0, .int 0, .int 0, .int 0, .int 0, .int 0, .int 0, .int 0, .int 0, .int (-1), .int 0, .ref (G.b0 + (w.length + 8)), .ref (G.b0 + (w.length + 9)), .ref (G.b0 + (w.length + 10)), .int 0, .int 0, .ref (G.b0 + (w.length + 11)), .ref (G.b0 + (w.length + 12)), .ref (G.b0 + (w.length + 13)), .ref (G.b0 + (w.length + 14)), .null, .null, .null, .null, .null, .null, .null]) :: [.inl (G.ci 0, 594, .inl zf), .inl (G.ci 3, 2, .inl zf), .inl (G.ci 0, 900, .inl zf), .inl (G.ci 0, 198, .inl zf), .inl (G.ci 0, 900, .inl zf), .inl (G.ci 0, 8, .inl zf), .inl (G.ci 0, 8, .inl zf), .inl (G.ci 0, 900, .inl zf), .inl (G.ci 0, 7, .inl zf), .inl (G.ci 0, 6, .inl zf), .inl (G.ci 0, 256, .inl zf), .inl (G.ci 0, 256, .inl zf), .inl (G.ci 0, 1536, .inl zf), .inl (G.ci 0, 1536, .inl zf)]) (n := 15) (N := 6) (t0 := 0) (a0 := (6, .inl zf)) (v := nI 6) (x := 14) (y := 7107) (mc := 21) (ms := 75224) rfl dX12_init_132 ac_int rfl rfl (fun _ _ h => h) (fun _ => rfl) (by decide) (by decide) (Nat.le_of_ble_eq_true rfl) (Nat.le_of_ble_eq_true rfl) (Nat.le_of_ble_eq_true rfl) ?_
  refine n_putFA (l := [.inl (G.ci 0, 594, .inl zf), .inl (G.ci 3, 2, .inl zf), .inl (G.ci 0, 900, .inl zf), .inl (G.ci 0, 198, .inl zf), .inl (G.ci 0, 900, .inl zf), .inl (G.ci 0, 8, .inl zf), .inl (G.ci 0, 8, .inl zf), .inl (G.ci 0, 900, .inl zf), .inl (G.ci 0, 7, .inl zf), .inl (G.ci 0, 6, .inl zf), .inl (G.ci 0, 256, .inl zf), .inl (G.ci 0, 256, .inl zf), .inl (G.ci 0, 1536, .inl zf), .inl (G.ci 0, 1536, .inl zf), .inl (G.ci 0, 6, .inl zf)]) (fs := [.int 0, .ref (G.b0 + (w.length + 1)), .ref (G.b0 + (w.length + 2)), .ref (G.b0 + (w.length + 3)), .ref (G.b0 + (w.length + 4)), .ref (G.b0 + (w.length + 5)), .ref (G.b0 + (w.length + 6)), .ref (G.b0 + (w.length + 7)), .int 0, .int 0, .int 0, .int 0, .int 0, .int 0, .int 0, .int 0, .int 0, .int (-1), .int 0, .ref (G.b0 + (w.length + 8)), .ref (G.b0 + (w.length + 9)), .ref (G.b0 + (w.length + 10)), .int 0, .int 0, .ref (G.b0 + (w.length + 11)), .ref (G.b0 + (w.length + 12)), .ref (G.b0 + (w.length + 13)), .ref (G.b0 + (w.length + 14)), .null, .null, .null, .null, .null, .null, .null]) dX12_init_134 ffX12_60 (Nat.le_of_ble_eq_true rfl) ?_
  refine n_aload_n dX12_init_137 rfl ?_
  refine n_bipush (v := nI 6) dX12_init_138 (by decide) ?_
  refine n_arrA (l := .inr (12, [.int 0, .ref (G.b0 + (w.length + 1)), .ref (G.b0 + (w.length + 2)), .ref (G.b0 + (w.length + 3)), .ref (G.b0 + (w.length + 4)), .ref (G.b0 + (w.length + 5)), .ref (G.b0 + (w.length + 6)), .ref (G.b0 + (w.length + 7)), .int 0, .int 0, .int 0, .int 0, .int 0, .int 0, .int 0, .int 0, .int 0, .int (-1), .int 0, .ref (G.b0 + (w.length + 8)), .ref (G.b0 + (w.length + 9)), .ref (G.b0 + (w.length + 10)), .int 0, .int 0, .ref (G.b0 + (w.length + 11)), .ref (G.b0 + (w.length + 12)), .ref (G.b0 + (w.length + 13)), .ref (G.b0 + (w.length + 14)), .ref (G.b0 + (w.length + 15)), .null, .null, .null, .null, .null, .null]) :: [.inl (G.ci 0, 594, .inl zf), .inl (G.ci 3, 2, .inl zf), .inl (G.ci 0, 900, .inl zf), .inl (G.ci 0, 198, .inl zf), .inl (G.ci 0, 900, .inl zf), .inl (G.ci 0, 8, .inl zf), .inl (G.ci 0, 8, .inl zf), .inl (G.ci 0, 900, .inl zf), .inl (G.ci 0, 7, .inl zf), .inl (G.ci 0, 6, .inl zf), .inl (G.ci 0, 256, .inl zf), .inl (G.ci 0, 256, .inl zf), .inl (G.ci 0, 1536, .inl zf), .inl (G.ci 0, 1536, .inl zf), .inl (G.ci 0, 6, .inl zf)]) (n := 16) (N := 6) (t0 := 0) (a0 := (6, .inl zf)) (v := nI 6) (x := 15) (y := 7113) (mc := 21) (ms := 75224) rfl dX12_init_140 ac_int rfl rfl (fun _ _ h => h) (fun _ => rfl) (by decide) (by decide) (Nat.le_of_ble_eq_true rfl) (Nat.le_of_ble_eq_true rfl) (Nat.le_of_ble_eq_true rfl) ?_
  refine n_putFA (l := [.inl (G.ci 0, 594, .inl zf), .inl (G.ci 3, 2, .inl zf), .inl (G.ci 0, 900, .inl zf), .inl (G.ci 0, 198, .inl zf), .inl (G.ci 0, 900, .inl zf), .inl (G.ci 0, 8, .inl zf), .inl (G.ci 0, 8, .inl zf), .inl (G.ci 0, 900, .inl zf), .inl (G.ci 0, 7, .inl zf), .inl (G.ci 0, 6, .inl zf), .inl (G.ci 0, 256, .inl zf), .inl (G.ci 0, 256, .inl zf), .inl (G.ci 0, 1536, .inl zf), .inl (G.ci 0, 1536, .inl zf), .inl (G.ci 0, 6, .inl zf), .inl (G.ci 0, 6, .inl zf)]) (fs := [.int 0, .ref (G.b0 + (w.length + 1)), .ref (G.b0 + (w.length + 2)), .ref (G.b0 + (w.length + 3)), .ref (G.b0 + (w.length + 4)), .ref (G.b0 + (w.length + 5)), .ref (G.b0 + (w.length + 6)), .ref (G.b0 + (w.length + 7)), .int 0, .int 0, .int 0, .int 0, .int 0, .int 0, .int 0, .int 0, .int 0, .int (-1), .int 0, .ref (G.b0 + (w.length + 8)), .ref (G.b0 + (w.length + 9)), .ref (G.b0 + (w.length + 10)), .int 0, .int 0, .ref (G.b0 + (w.length + 11)), .ref (G.b0 + (w.length + 12)), .ref (G.b0 + (w.length + 13)), .ref (G.b0 + (w.length + 14)), .ref (G.b0 + (w.length + 15)), .null, .null, .null, .null, .null, .null]) dX12_init_142 ffX12_63 (Nat.le_of_ble_eq_true rfl) ?_
  refine n_aload_n dX12_init_145 rfl ?_
  refine n_sipush (v := nI 2401) dX12_init_146 (by decide) ?_
  refine n_arrA (l := .inr (12, [.int 0, .ref (G.b0 + (w.length + 1)), .ref (G.b0 + (w.length + 2)), .ref (G.b0 + (w.length + 3)), .ref (G.b0 + (w.length + 4)), .ref (G.b0 + (w.length + 5)), .ref (G.b0 + (w.length + 6)), .ref (G.b0 + (w.length + 7)), .int 0, .int 0, .int 0, .int 0, .int 0, .int 0, .int 0, .int 0, .int 0, .int (-1), .int 0, .ref (G.b0 + (w.length + 8)), .ref (G.b0 + (w.length + 9)), .ref (G.b0 + (w.length + 10)), .int 0, .int 0, .ref (G.b0 + (w.length + 11)), .ref (G.b0 + (w.length + 12)), .ref (G.b0 + (w.length + 13)), .ref (G.b0 + (w.length + 14)), .ref (G.b0 + (w.length + 15)), .ref (G.b0 + (w.length + 16)), .null, .null, .null, .null, .null]) :: [.inl (G.ci 0, 594, .inl zf), .inl (G.ci 3, 2, .inl zf), .inl (G.ci 0, 900, .inl zf), .inl (G.ci 0, 198, .inl zf), .inl (G.ci 0, 900, .inl zf), .inl (G.ci 0, 8, .inl zf), .inl (G.ci 0, 8, .inl zf), .inl (G.ci 0, 900, .inl zf), .inl (G.ci 0, 7, .inl zf), .inl (G.ci 0, 6, .inl zf), .inl (G.ci 0, 256, .inl zf), .inl (G.ci 0, 256, .inl zf), .inl (G.ci 0, 1536, .inl zf), .inl (G.ci 0, 1536, .inl zf), .inl (G.ci 0, 6, .inl zf), .inl (G.ci 0, 6, .inl zf)]) (n := 17) (N := 2401) (t0 := 0) (a0 := (2401, .inl zf)) (v := nI 2401) (x := 16) (y := 7119) (mc := 21) (ms := 75224) rfl dX12_init_149 ac_int rfl rfl (fun _ _ h => h) (fun _ => rfl) (by decide) (by decide) (Nat.le_of_ble_eq_true rfl) (Nat.le_of_ble_eq_true rfl) (Nat.le_of_ble_eq_true rfl) ?_
  refine n_putFA (l := [.inl (G.ci 0, 594, .inl zf), .inl (G.ci 3, 2, .inl zf), .inl (G.ci 0, 900, .inl zf), .inl (G.ci 0, 198, .inl zf), .inl (G.ci 0, 900, .inl zf), .inl (G.ci 0, 8, .inl zf), .inl (G.ci 0, 8, .inl zf), .inl (G.ci 0, 900, .inl zf), .inl (G.ci 0, 7, .inl zf), .inl (G.ci 0, 6, .inl zf), .inl (G.ci 0, 256, .inl zf), .inl (G.ci 0, 256, .inl zf), .inl (G.ci 0, 1536, .inl zf), .inl (G.ci 0, 1536, .inl zf), .inl (G.ci 0, 6, .inl zf), .inl (G.ci 0, 6, .inl zf), .inl (G.ci 0, 2401, .inl zf)]) (fs := [.int 0, .ref (G.b0 + (w.length + 1)), .ref (G.b0 + (w.length + 2)), .ref (G.b0 + (w.length + 3)), .ref (G.b0 + (w.length + 4)), .ref (G.b0 + (w.length + 5)), .ref (G.b0 + (w.length + 6)), .ref (G.b0 + (w.length + 7)), .int 0, .int 0, .int 0, .int 0, .int 0, .int 0, .int 0, .int 0, .int 0, .int (-1), .int 0, .ref (G.b0 + (w.length + 8)), .ref (G.b0 + (w.length + 9)), .ref (G.b0 + (w.length + 10)), .int 0, .int 0, .ref (G.b0 + (w.length + 11)), .ref (G.b0 + (w.length + 12)), .ref (G.b0 + (w.length + 13)), .ref (G.b0 + (w.length + 14)), .ref (G.b0 + (w.length + 15)), .ref (G.b0 + (w.length + 16)), .null, .null, .null, .null, .null]) dX12_init_151 ffX12_66 (Nat.le_of_ble_eq_true rfl) ?_
  refine n_aload_n dX12_init_154 rfl ?_
  refine n_ldc dX12_init_155 cvX12_69 ?_
  refine n_arrA (l := .inr (12, [.int 0, .ref (G.b0 + (w.length + 1)), .ref (G.b0 + (w.length + 2)), .ref (G.b0 + (w.length + 3)), .ref (G.b0 + (w.length + 4)), .ref (G.b0 + (w.length + 5)), .ref (G.b0 + (w.length + 6)), .ref (G.b0 + (w.length + 7)), .int 0, .int 0, .int 0, .int 0, .int 0, .int 0, .int 0, .int 0, .int 0, .int (-1), .int 0, .ref (G.b0 + (w.length + 8)), .ref (G.b0 + (w.length + 9)), .ref (G.b0 + (w.length + 10)), .int 0, .int 0, .ref (G.b0 + (w.length + 11)), .ref (G.b0 + (w.length + 12)), .ref (G.b0 + (w.length + 13)), .ref (G.b0 + (w.length + 14)), .ref (G.b0 + (w.length + 15)), .ref (G.b0 + (w.length + 16)), .ref (G.b0 + (w.length + 17)), .null, .null, .null, .null]) :: [.inl (G.ci 0, 594, .inl zf), .inl (G.ci 3, 2, .inl zf), .inl (G.ci 0, 900, .inl zf), .inl (G.ci 0, 198, .inl zf), .inl (G.ci 0, 900, .inl zf), .inl (G.ci 0, 8, .inl zf), .inl (G.ci 0, 8, .inl zf), .inl (G.ci 0, 900, .inl zf), .inl (G.ci 0, 7, .inl zf), .inl (G.ci 0, 6, .inl zf), .inl (G.ci 0, 256, .inl zf), .inl (G.ci 0, 256, .inl zf), .inl (G.ci 0, 1536, .inl zf), .inl (G.ci 0, 1536, .inl zf), .inl (G.ci 0, 6, .inl zf), .inl (G.ci 0, 6, .inl zf), .inl (G.ci 0, 2401, .inl zf)]) (n := 18) (N := 65536) (t0 := 0) (a0 := (65536, .inl zf)) (v := 65536) (x := 17) (y := 9520) (mc := 21) (ms := 75224) rfl dX12_init_157 ac_int rfl rfl (fun _ _ h => h) (fun _ => rfl) (by decide) (by decide) (Nat.le_of_ble_eq_true rfl) (Nat.le_of_ble_eq_true rfl) (Nat.le_of_ble_eq_true rfl) ?_
  refine n_putFA (l := [.inl (G.ci 0, 594, .inl zf), .inl (G.ci 3, 2, .inl zf), .inl (G.ci 0, 900, .inl zf), .inl (G.ci 0, 198, .inl zf), .inl (G.ci 0, 900, .inl zf), .inl (G.ci 0, 8, .inl zf), .inl (G.ci 0, 8, .inl zf), .inl (G.ci 0, 900, .inl zf), .inl (G.ci 0, 7, .inl zf), .inl (G.ci 0, 6, .inl zf), .inl (G.ci 0, 256, .inl zf), .inl (G.ci 0, 256, .inl zf), .inl (G.ci 0, 1536, .inl zf), .inl (G.ci 0, 1536, .inl zf), .inl (G.ci 0, 6, .inl zf), .inl (G.ci 0, 6, .inl zf), .inl (G.ci 0, 2401, .inl zf), .inl (G.ci 0, 65536, .inl zf)]) (fs := [.int 0, .ref (G.b0 + (w.length + 1)), .ref (G.b0 + (w.length + 2)), .ref (G.b0 + (w.length + 3)), .ref (G.b0 + (w.length + 4)), .ref (G.b0 + (w.length + 5)), .ref (G.b0 + (w.length + 6)), .ref (G.b0 + (w.length + 7)), .int 0, .int 0, .int 0, .int 0, .int 0, .int 0, .int 0, .int 0, .int 0, .int (-1), .int 0, .ref (G.b0 + (w.length + 8)), .ref (G.b0 + (w.length + 9)), .ref (G.b0 + (w.length + 10)), .int 0, .int 0, .ref (G.b0 + (w.length + 11)), .ref (G.b0 + (w.length + 12)), .ref (G.b0 + (w.length + 13)), .ref (G.b0 + (w.length + 14)), .ref (G.b0 + (w.length + 15)), .ref (G.b0 + (w.length + 16)), .ref (G.b0 + (w.length + 17)), .null, .null, .null, .null]) dX12_init_159 ffX12_70 (Nat.le_of_ble_eq_true rfl) ?_
  refine n_aload_n dX12_init_162 rfl ?_
  refine n_iconst (v := nI 4) dX12_init_163 (by decide) ?_
  refine n_arrA (l := .inr (12, [.int 0, .ref (G.b0 + (w.length + 1)), .ref (G.b0 + (w.length + 2)), .ref (G.b0 + (w.length + 3)), .ref (G.b0 + (w.length + 4)), .ref (G.b0 + (w.length + 5)), .ref (G.b0 + (w.length + 6)), .ref (G.b0 + (w.length + 7)), .int 0, .int 0, .int 0, .int 0, .int 0, .int 0, .int 0, .int 0, .int 0, .int (-1), .int 0, .ref (G.b0 + (w.length + 8)), .ref (G.b0 + (w.length + 9)), .ref (G.b0 + (w.length + 10)), .int 0, .int 0, .ref (G.b0 + (w.length + 11)), .ref (G.b0 + (w.length + 12)), .ref (G.b0 + (w.length + 13)), .ref (G.b0 + (w.length + 14)), .ref (G.b0 + (w.length + 15)), .ref (G.b0 + (w.length + 16)), .ref (G.b0 + (w.length + 17)), .ref (G.b0 + (w.length + 18)), .null, .null, .null]) :: [.inl (G.ci 0, 594, .inl zf), .inl (G.ci 3, 2, .inl zf), .inl (G.ci 0, 900, .inl zf), .inl (G.ci 0, 198, .inl zf), .inl (G.ci 0, 900, .inl zf), .inl (G.ci 0, 8, .inl zf), .inl (G.ci 0, 8, .inl zf), .inl (G.ci 0, 900, .inl zf), .inl (G.ci 0, 7, .inl zf), .inl (G.ci 0, 6, .inl zf), .inl (G.ci 0, 256, .inl zf), .inl (G.ci 0, 256, .inl zf), .inl (G.ci 0, 1536, .inl zf), .inl (G.ci 0, 1536, .inl zf), .inl (G.ci 0, 6, .inl zf), .inl (G.ci 0, 6, .inl zf), .inl (G.ci 0, 2401, .inl zf), .inl (G.ci 0, 65536, .inl zf)]) (n := 19) (N := 4) (t0 := 0) (a0 := (4, .inl zf)) (v := nI 4) (x := 18) (y := 75056) (mc := 21) (ms := 75224) rfl dX12_init_164 ac_int rfl rfl (fun _ _ h => h) (fun _ => rfl) (by decide) (by decide) (Nat.le_of_ble_eq_true rfl) (Nat.le_of_ble_eq_true rfl) (Nat.le_of_ble_eq_true rfl) ?_
  refine n_dup dX12_init_166 rfl ?_
  refine n_iconst (v := nI 0) dX12_init_167 (by decide) ?_
  refine n_iconst (v := -1) dX12_init_168 (by decide) ?_
  refine n_iastL (l := .inr (12, [.int 0, .ref (G.b0 + (w.length + 1)), .ref (G.b0 + (w.length + 2)), .ref (G.b0 + (w.length + 3)), .ref (G.b0 + (w.length + 4)), .ref (G.b0 + (w.length + 5)), .ref (G.b0 + (w.length + 6)), .ref (G.b0 + (w.length + 7)), .int 0, .int 0, .int 0, .int 0, .int 0, .int 0, .int 0, .int 0, .int 0, .int (-1), .int 0, .ref (G.b0 + (w.length + 8)), .ref (G.b0 + (w.length + 9)), .ref (G.b0 + (w.length + 10)), .int 0, .int 0, .ref (G.b0 + (w.length + 11)), .ref (G.b0 + (w.length + 12)), .ref (G.b0 + (w.length + 13)), .ref (G.b0 + (w.length + 14)), .ref (G.b0 + (w.length + 15)), .ref (G.b0 + (w.length + 16)), .ref (G.b0 + (w.length + 17)), .ref (G.b0 + (w.length + 18)), .null, .null, .null]) :: [.inl (G.ci 0, 594, .inl zf), .inl (G.ci 3, 2, .inl zf), .inl (G.ci 0, 900, .inl zf), .inl (G.ci 0, 198, .inl zf), .inl (G.ci 0, 900, .inl zf), .inl (G.ci 0, 8, .inl zf), .inl (G.ci 0, 8, .inl zf), .inl (G.ci 0, 900, .inl zf), .inl (G.ci 0, 7, .inl zf), .inl (G.ci 0, 6, .inl zf), .inl (G.ci 0, 256, .inl zf), .inl (G.ci 0, 256, .inl zf), .inl (G.ci 0, 1536, .inl zf), .inl (G.ci 0, 1536, .inl zf), .inl (G.ci 0, 6, .inl zf), .inl (G.ci 0, 6, .inl zf), .inl (G.ci 0, 2401, .inl zf), .inl (G.ci 0, 65536, .inl zf)]) (n := 19) (N := 4) (j := 0) (f := zf) (v := -1) rfl dX12_init_169 (by decide) (by decide) (by decide) ?_
  refine n_dup dX12_init_170 rfl ?_
  refine n_iconst (v := nI 1) dX12_init_171 (by decide) ?_
  refine n_iconst (v := -1) dX12_init_172 (by decide) ?_
  refine n_iastL (l := .inr (12, [.int 0, .ref (G.b0 + (w.length + 1)), .ref (G.b0 + (w.length + 2)), .ref (G.b0 + (w.length + 3)), .ref (G.b0 + (w.length + 4)), .ref (G.b0 + (w.length + 5)), .ref (G.b0 + (w.length + 6)), .ref (G.b0 + (w.length + 7)), .int 0, .int 0, .int 0, .int 0, .int 0, .int 0, .int 0, .int 0, .int 0, .int (-1), .int 0, .ref (G.b0 + (w.length + 8)), .ref (G.b0 + (w.length + 9)), .ref (G.b0 + (w.length + 10)), .int 0, .int 0, .ref (G.b0 + (w.length + 11)), .ref (G.b0 + (w.length + 12)), .ref (G.b0 + (w.length + 13)), .ref (G.b0 + (w.length + 14)), .ref (G.b0 + (w.length + 15)), .ref (G.b0 + (w.length + 16)), .ref (G.b0 + (w.length + 17)), .ref (G.b0 + (w.length + 18)), .null, .null, .null]) :: [.inl (G.ci 0, 594, .inl zf), .inl (G.ci 3, 2, .inl zf), .inl (G.ci 0, 900, .inl zf), .inl (G.ci 0, 198, .inl zf), .inl (G.ci 0, 900, .inl zf), .inl (G.ci 0, 8, .inl zf), .inl (G.ci 0, 8, .inl zf), .inl (G.ci 0, 900, .inl zf), .inl (G.ci 0, 7, .inl zf), .inl (G.ci 0, 6, .inl zf), .inl (G.ci 0, 256, .inl zf), .inl (G.ci 0, 256, .inl zf), .inl (G.ci 0, 1536, .inl zf), .inl (G.ci 0, 1536, .inl zf), .inl (G.ci 0, 6, .inl zf), .inl (G.ci 0, 6, .inl zf), .inl (G.ci 0, 2401, .inl zf), .inl (G.ci 0, 65536, .inl zf)]) (n := 19) (N := 4) (j := 1) (f := (upd zf 0 (-1))) (v := -1) rfl dX12_init_173 (by decide) (by decide) (by decide) ?_
  refine n_dup dX12_init_174 rfl ?_
  refine n_iconst (v := nI 2) dX12_init_175 (by decide) ?_
  refine n_iconst (v := -1) dX12_init_176 (by decide) ?_
  refine n_iastL (l := .inr (12, [.int 0, .ref (G.b0 + (w.length + 1)), .ref (G.b0 + (w.length + 2)), .ref (G.b0 + (w.length + 3)), .ref (G.b0 + (w.length + 4)), .ref (G.b0 + (w.length + 5)), .ref (G.b0 + (w.length + 6)), .ref (G.b0 + (w.length + 7)), .int 0, .int 0, .int 0, .int 0, .int 0, .int 0, .int 0, .int 0, .int 0, .int (-1), .int 0, .ref (G.b0 + (w.length + 8)), .ref (G.b0 + (w.length + 9)), .ref (G.b0 + (w.length + 10)), .int 0, .int 0, .ref (G.b0 + (w.length + 11)), .ref (G.b0 + (w.length + 12)), .ref (G.b0 + (w.length + 13)), .ref (G.b0 + (w.length + 14)), .ref (G.b0 + (w.length + 15)), .ref (G.b0 + (w.length + 16)), .ref (G.b0 + (w.length + 17)), .ref (G.b0 + (w.length + 18)), .null, .null, .null]) :: [.inl (G.ci 0, 594, .inl zf), .inl (G.ci 3, 2, .inl zf), .inl (G.ci 0, 900, .inl zf), .inl (G.ci 0, 198, .inl zf), .inl (G.ci 0, 900, .inl zf), .inl (G.ci 0, 8, .inl zf), .inl (G.ci 0, 8, .inl zf), .inl (G.ci 0, 900, .inl zf), .inl (G.ci 0, 7, .inl zf), .inl (G.ci 0, 6, .inl zf), .inl (G.ci 0, 256, .inl zf), .inl (G.ci 0, 256, .inl zf), .inl (G.ci 0, 1536, .inl zf), .inl (G.ci 0, 1536, .inl zf), .inl (G.ci 0, 6, .inl zf), .inl (G.ci 0, 6, .inl zf), .inl (G.ci 0, 2401, .inl zf), .inl (G.ci 0, 65536, .inl zf)]) (n := 19) (N := 4) (j := 2) (f := (upd (upd zf 0 (-1)) 1 (-1))) (v := -1) rfl dX12_init_177 (by decide) (by decide) (by decide) ?_
  refine n_dup dX12_init_178 rfl ?_
  refine n_iconst (v := nI 3) dX12_init_179 (by decide) ?_
  refine n_iconst (v := -1) dX12_init_180 (by decide) ?_
  refine n_iastL (l := .inr (12, [.int 0, .ref (G.b0 + (w.length + 1)), .ref (G.b0 + (w.length + 2)), .ref (G.b0 + (w.length + 3)), .ref (G.b0 + (w.length + 4)), .ref (G.b0 + (w.length + 5)), .ref (G.b0 + (w.length + 6)), .ref (G.b0 + (w.length + 7)), .int 0, .int 0, .int 0, .int 0, .int 0, .int 0, .int 0, .int 0, .int 0, .int (-1), .int 0, .ref (G.b0 + (w.length + 8)), .ref (G.b0 + (w.length + 9)), .ref (G.b0 + (w.length + 10)), .int 0, .int 0, .ref (G.b0 + (w.length + 11)), .ref (G.b0 + (w.length + 12)), .ref (G.b0 + (w.length + 13)), .ref (G.b0 + (w.length + 14)), .ref (G.b0 + (w.length + 15)), .ref (G.b0 + (w.length + 16)), .ref (G.b0 + (w.length + 17)), .ref (G.b0 + (w.length + 18)), .null, .null, .null]) :: [.inl (G.ci 0, 594, .inl zf), .inl (G.ci 3, 2, .inl zf), .inl (G.ci 0, 900, .inl zf), .inl (G.ci 0, 198, .inl zf), .inl (G.ci 0, 900, .inl zf), .inl (G.ci 0, 8, .inl zf), .inl (G.ci 0, 8, .inl zf), .inl (G.ci 0, 900, .inl zf), .inl (G.ci 0, 7, .inl zf), .inl (G.ci 0, 6, .inl zf), .inl (G.ci 0, 256, .inl zf), .inl (G.ci 0, 256, .inl zf), .inl (G.ci 0, 1536, .inl zf), .inl (G.ci 0, 1536, .inl zf), .inl (G.ci 0, 6, .inl zf), .inl (G.ci 0, 6, .inl zf), .inl (G.ci 0, 2401, .inl zf), .inl (G.ci 0, 65536, .inl zf)]) (n := 19) (N := 4) (j := 3) (f := (upd (upd (upd zf 0 (-1)) 1 (-1)) 2 (-1))) (v := -1) rfl dX12_init_181 (by decide) (by decide) (by decide) ?_
  refine n_putFA (l := [.inl (G.ci 0, 594, .inl zf), .inl (G.ci 3, 2, .inl zf), .inl (G.ci 0, 900, .inl zf), .inl (G.ci 0, 198, .inl zf), .inl (G.ci 0, 900, .inl zf), .inl (G.ci 0, 8, .inl zf), .inl (G.ci 0, 8, .inl zf), .inl (G.ci 0, 900, .inl zf), .inl (G.ci 0, 7, .inl zf), .inl (G.ci 0, 6, .inl zf), .inl (G.ci 0, 256, .inl zf), .inl (G.ci 0, 256, .inl zf), .inl (G.ci 0, 1536, .inl zf), .inl (G.ci 0, 1536, .inl zf), .inl (G.ci 0, 6, .inl zf), .inl (G.ci 0, 6, .inl zf), .inl (G.ci 0, 2401, .inl zf), .inl (G.ci 0, 65536, .inl zf), .inl (G.ci 0, 4, .inl (upd (upd (upd (upd zf 0 (-1)) 1 (-1)) 2 (-1)) 3 (-1)))]) (fs := [.int 0, .ref (G.b0 + (w.length + 1)), .ref (G.b0 + (w.length + 2)), .ref (G.b0 + (w.length + 3)), .ref (G.b0 + (w.length + 4)), .ref (G.b0 + (w.length + 5)), .ref (G.b0 + (w.length + 6)), .ref (G.b0 + (w.length + 7)), .int 0, .int 0, .int 0, .int 0, .int 0, .int 0, .int 0, .int 0, .int 0, .int (-1), .int 0, .ref (G.b0 + (w.length + 8)), .ref (G.b0 + (w.length + 9)), .ref (G.b0 + (w.length + 10)), .int 0, .int 0, .ref (G.b0 + (w.length + 11)), .ref (G.b0 + (w.length + 12)), .ref (G.b0 + (w.length + 13)), .ref (G.b0 + (w.length + 14)), .ref (G.b0 + (w.length + 15)), .ref (G.b0 + (w.length + 16)), .ref (G.b0 + (w.length + 17)), .ref (G.b0 + (w.length + 18)), .null, .null, .null]) dX12_init_182 ffX12_73 (Nat.le_of_ble_eq_true rfl) ?_
  refine n_aload_n dX12_init_185 rfl ?_
  refine n_iconst (v := nI 4) dX12_init_186 (by decide) ?_
  refine n_arrA (l := .inr (12, [.int 0, .ref (G.b0 + (w.length + 1)), .ref (G.b0 + (w.length + 2)), .ref (G.b0 + (w.length + 3)), .ref (G.b0 + (w.length + 4)), .ref (G.b0 + (w.length + 5)), .ref (G.b0 + (w.length + 6)), .ref (G.b0 + (w.length + 7)), .int 0, .int 0, .int 0, .int 0, .int 0, .int 0, .int 0, .int 0, .int 0, .int (-1), .int 0, .ref (G.b0 + (w.length + 8)), .ref (G.b0 + (w.length + 9)), .ref (G.b0 + (w.length + 10)), .int 0, .int 0, .ref (G.b0 + (w.length + 11)), .ref (G.b0 + (w.length + 12)), .ref (G.b0 + (w.length + 13)), .ref (G.b0 + (w.length + 14)), .ref (G.b0 + (w.length + 15)), .ref (G.b0 + (w.length + 16)), .ref (G.b0 + (w.length + 17)), .ref (G.b0 + (w.length + 18)), .ref (G.b0 + (w.length + 19)), .null, .null]) :: [.inl (G.ci 0, 594, .inl zf), .inl (G.ci 3, 2, .inl zf), .inl (G.ci 0, 900, .inl zf), .inl (G.ci 0, 198, .inl zf), .inl (G.ci 0, 900, .inl zf), .inl (G.ci 0, 8, .inl zf), .inl (G.ci 0, 8, .inl zf), .inl (G.ci 0, 900, .inl zf), .inl (G.ci 0, 7, .inl zf), .inl (G.ci 0, 6, .inl zf), .inl (G.ci 0, 256, .inl zf), .inl (G.ci 0, 256, .inl zf), .inl (G.ci 0, 1536, .inl zf), .inl (G.ci 0, 1536, .inl zf), .inl (G.ci 0, 6, .inl zf), .inl (G.ci 0, 6, .inl zf), .inl (G.ci 0, 2401, .inl zf), .inl (G.ci 0, 65536, .inl zf), .inl (G.ci 0, 4, .inl (upd (upd (upd (upd zf 0 (-1)) 1 (-1)) 2 (-1)) 3 (-1)))]) (n := 20) (N := 4) (t0 := 0) (a0 := (4, .inl zf)) (v := nI 4) (x := 19) (y := 75060) (mc := 21) (ms := 75224) rfl dX12_init_187 ac_int rfl rfl (fun _ _ h => h) (fun _ => rfl) (by decide) (by decide) (Nat.le_of_ble_eq_true rfl) (Nat.le_of_ble_eq_true rfl) (Nat.le_of_ble_eq_true rfl) ?_
  refine n_putFA (l := [.inl (G.ci 0, 594, .inl zf), .inl (G.ci 3, 2, .inl zf), .inl (G.ci 0, 900, .inl zf), .inl (G.ci 0, 198, .inl zf), .inl (G.ci 0, 900, .inl zf), .inl (G.ci 0, 8, .inl zf), .inl (G.ci 0, 8, .inl zf), .inl (G.ci 0, 900, .inl zf), .inl (G.ci 0, 7, .inl zf), .inl (G.ci 0, 6, .inl zf), .inl (G.ci 0, 256, .inl zf), .inl (G.ci 0, 256, .inl zf), .inl (G.ci 0, 1536, .inl zf), .inl (G.ci 0, 1536, .inl zf), .inl (G.ci 0, 6, .inl zf), .inl (G.ci 0, 6, .inl zf), .inl (G.ci 0, 2401, .inl zf), .inl (G.ci 0, 65536, .inl zf), .inl (G.ci 0, 4, .inl (upd (upd (upd (upd zf 0 (-1)) 1 (-1)) 2 (-1)) 3 (-1))), .inl (G.ci 0, 4, .inl zf)]) (fs := [.int 0, .ref (G.b0 + (w.length + 1)), .ref (G.b0 + (w.length + 2)), .ref (G.b0 + (w.length + 3)), .ref (G.b0 + (w.length + 4)), .ref (G.b0 + (w.length + 5)), .ref (G.b0 + (w.length + 6)), .ref (G.b0 + (w.length + 7)), .int 0, .int 0, .int 0, .int 0, .int 0, .int 0, .int 0, .int 0, .int 0, .int (-1), .int 0, .ref (G.b0 + (w.length + 8)), .ref (G.b0 + (w.length + 9)), .ref (G.b0 + (w.length + 10)), .int 0, .int 0, .ref (G.b0 + (w.length + 11)), .ref (G.b0 + (w.length + 12)), .ref (G.b0 + (w.length + 13)), .ref (G.b0 + (w.length + 14)), .ref (G.b0 + (w.length + 15)), .ref (G.b0 + (w.length + 16)), .ref (G.b0 + (w.length + 17)), .ref (G.b0 + (w.length + 18)), .ref (G.b0 + (w.length + 19)), .null, .null]) dX12_init_189 ffX12_76 (Nat.le_of_ble_eq_true rfl) ?_
  refine n_aload_n dX12_init_192 rfl ?_
  refine n_sipush (v := nI 160) dX12_init_193 (by decide) ?_
  refine n_arrA (l := .inr (12, [.int 0, .ref (G.b0 + (w.length + 1)), .ref (G.b0 + (w.length + 2)), .ref (G.b0 + (w.length + 3)), .ref (G.b0 + (w.length + 4)), .ref (G.b0 + (w.length + 5)), .ref (G.b0 + (w.length + 6)), .ref (G.b0 + (w.length + 7)), .int 0, .int 0, .int 0, .int 0, .int 0, .int 0, .int 0, .int 0, .int 0, .int (-1), .int 0, .ref (G.b0 + (w.length + 8)), .ref (G.b0 + (w.length + 9)), .ref (G.b0 + (w.length + 10)), .int 0, .int 0, .ref (G.b0 + (w.length + 11)), .ref (G.b0 + (w.length + 12)), .ref (G.b0 + (w.length + 13)), .ref (G.b0 + (w.length + 14)), .ref (G.b0 + (w.length + 15)), .ref (G.b0 + (w.length + 16)), .ref (G.b0 + (w.length + 17)), .ref (G.b0 + (w.length + 18)), .ref (G.b0 + (w.length + 19)), .ref (G.b0 + (w.length + 20)), .null]) :: [.inl (G.ci 0, 594, .inl zf), .inl (G.ci 3, 2, .inl zf), .inl (G.ci 0, 900, .inl zf), .inl (G.ci 0, 198, .inl zf), .inl (G.ci 0, 900, .inl zf), .inl (G.ci 0, 8, .inl zf), .inl (G.ci 0, 8, .inl zf), .inl (G.ci 0, 900, .inl zf), .inl (G.ci 0, 7, .inl zf), .inl (G.ci 0, 6, .inl zf), .inl (G.ci 0, 256, .inl zf), .inl (G.ci 0, 256, .inl zf), .inl (G.ci 0, 1536, .inl zf), .inl (G.ci 0, 1536, .inl zf), .inl (G.ci 0, 6, .inl zf), .inl (G.ci 0, 6, .inl zf), .inl (G.ci 0, 2401, .inl zf), .inl (G.ci 0, 65536, .inl zf), .inl (G.ci 0, 4, .inl (upd (upd (upd (upd zf 0 (-1)) 1 (-1)) 2 (-1)) 3 (-1))), .inl (G.ci 0, 4, .inl zf)]) (n := 21) (N := 160) (t0 := 2) (a0 := (160, .inr (.inl zl))) (v := nI 160) (x := 20) (y := 75064) (mc := 21) (ms := 75224) rfl dX12_init_196 ac_long rfl rfl (fun _ _ h => h) (fun _ => rfl) (by decide) (by decide) (Nat.le_of_ble_eq_true rfl) (Nat.le_of_ble_eq_true rfl) (Nat.le_of_ble_eq_true rfl) ?_
  refine n_putFA (l := [.inl (G.ci 0, 594, .inl zf), .inl (G.ci 3, 2, .inl zf), .inl (G.ci 0, 900, .inl zf), .inl (G.ci 0, 198, .inl zf), .inl (G.ci 0, 900, .inl zf), .inl (G.ci 0, 8, .inl zf), .inl (G.ci 0, 8, .inl zf), .inl (G.ci 0, 900, .inl zf), .inl (G.ci 0, 7, .inl zf), .inl (G.ci 0, 6, .inl zf), .inl (G.ci 0, 256, .inl zf), .inl (G.ci 0, 256, .inl zf), .inl (G.ci 0, 1536, .inl zf), .inl (G.ci 0, 1536, .inl zf), .inl (G.ci 0, 6, .inl zf), .inl (G.ci 0, 6, .inl zf), .inl (G.ci 0, 2401, .inl zf), .inl (G.ci 0, 65536, .inl zf), .inl (G.ci 0, 4, .inl (upd (upd (upd (upd zf 0 (-1)) 1 (-1)) 2 (-1)) 3 (-1))), .inl (G.ci 0, 4, .inl zf), .inl (G.ci 2, 160, .inr (.inl zl))]) (fs := [.int 0, .ref (G.b0 + (w.length + 1)), .ref (G.b0 + (w.length + 2)), .ref (G.b0 + (w.length + 3)), .ref (G.b0 + (w.length + 4)), .ref (G.b0 + (w.length + 5)), .ref (G.b0 + (w.length + 6)), .ref (G.b0 + (w.length + 7)), .int 0, .int 0, .int 0, .int 0, .int 0, .int 0, .int 0, .int 0, .int 0, .int (-1), .int 0, .ref (G.b0 + (w.length + 8)), .ref (G.b0 + (w.length + 9)), .ref (G.b0 + (w.length + 10)), .int 0, .int 0, .ref (G.b0 + (w.length + 11)), .ref (G.b0 + (w.length + 12)), .ref (G.b0 + (w.length + 13)), .ref (G.b0 + (w.length + 14)), .ref (G.b0 + (w.length + 15)), .ref (G.b0 + (w.length + 16)), .ref (G.b0 + (w.length + 17)), .ref (G.b0 + (w.length + 18)), .ref (G.b0 + (w.length + 19)), .ref (G.b0 + (w.length + 20)), .null]) dX12_init_198 ffX12_79 (Nat.le_of_ble_eq_true rfl) ?_
  exact n_ret dX12_init_201
abbrev bk11 : List Value := [.null, .null, .null, .null, .null, .null, .null, .null, .null, .null, .null, .int 0]
theorem mkf11 : ∀ j, j < 12 → defaultValue (tyX11 j) = vp_V bk11 j := fun j hj => match j, hj with
  | 0, _ => rfl
  | 1, _ => rfl
  | 2, _ => rfl
  | 3, _ => rfl
  | 4, _ => rfl
  | 5, _ => rfl
  | 6, _ => rfl
  | 7, _ => rfl
  | 8, _ => rfl
  | 9, _ => rfl
  | 10, _ => rfl
  | 11, _ => rfl
  | n + 12, h => absurd h (by omega)
theorem mki11 : MKi yX11_init cX11_init 2 11 12 bk11 := ⟨TX11, tyX11, rfl, uX11, tyX11_ok, mkf11, insX11, iniX11, imX11_init, cdX11_init, rfl, ⟨by decide +kernel, by decide +kernel⟩, by decide +kernel, by decide⟩
def bl11 (G : GT) : List va_E := apE (.inr (11, fl11 G.b0 0 zf) :: (apE (apE (apE (apE (apE (apE (apE (apE [.inl (G.ci 1, 900, .inl zf)] (bl5 G 2)) (bl2 G 20)) (bl8 G 26)) (bl8 G 29)) (bl4 G 32)) (bl7 G 34)) (bl3 G 40)) (bl10 G 45))) (.inl (G.ci 4, 4, .inr (.inr (.inr (.inr (va_up (va_up (va_up (va_up (fun _ => none) 0 (some (G.b0 + 49))) 1 (some (G.b0 + 51))) 2 (some (G.b0 + 53))) 3 (some (G.b0 + 55))))))) :: .inl (G.ci 5, 2, .inr (.inr (.inr (.inr (va_up (va_up (fun _ => none) 0 (some (G.b0 + 57))) 1 (some (G.b0 + 67))))))) :: (apE (apE (apE (apE (apE (apE [] (bl6 G 49)) (bl6 G 51)) (bl6 G 53)) (bl6 G 55)) (bl1 G 57)) (bl1 G 67)))
theorem ffX11_9 : GFf RX11 9 11 0 := ⟨RX11, TX11, 12, tyX11, rfl, by decide, uX11, flX11_9, tyX11_ok, nmX11, rfl, rfl, by decide +kernel, fun _ => ⟨rfl, rfl⟩⟩
theorem ffX11_16 : GFf RX11 16 11 1 := ⟨RX11, TX11, 12, tyX11, rfl, by decide, uX11, flX11_16, tyX11_ok, nmX11, rfl, rfl, by decide +kernel, fun _ => ⟨rfl, rfl⟩⟩
theorem ffX11_23 : GFf RX11 23 11 2 := ⟨RX11, TX11, 12, tyX11, rfl, by decide, uX11, flX11_23, tyX11_ok, nmX11, rfl, rfl, by decide +kernel, fun _ => ⟨rfl, rfl⟩⟩
theorem ffX11_30 : GFf RX11 30 11 3 := ⟨RX11, TX11, 12, tyX11, rfl, by decide, uX11, flX11_30, tyX11_ok, nmX11, rfl, rfl, by decide +kernel, fun _ => ⟨rfl, rfl⟩⟩
theorem ffX11_34 : GFf RX11 34 11 4 := ⟨RX11, TX11, 12, tyX11, rfl, by decide, uX11, flX11_34, tyX11_ok, nmX11, rfl, rfl, by decide +kernel, fun _ => ⟨rfl, rfl⟩⟩
theorem ffX11_40 : GFf RX11 40 11 5 := ⟨RX11, TX11, 12, tyX11, rfl, by decide, uX11, flX11_40, tyX11_ok, nmX11, rfl, rfl, by decide +kernel, fun _ => ⟨rfl, rfl⟩⟩
theorem ffX11_47 : GFf RX11 47 11 6 := ⟨RX11, TX11, 12, tyX11, rfl, by decide, uX11, flX11_47, tyX11_ok, nmX11, rfl, rfl, by decide +kernel, fun _ => ⟨rfl, rfl⟩⟩
theorem ffX11_54 : GFf RX11 54 11 7 := ⟨RX11, TX11, 12, tyX11, rfl, by decide, uX11, flX11_54, tyX11_ok, nmX11, rfl, rfl, by decide +kernel, fun _ => ⟨rfl, rfl⟩⟩
theorem ffX11_61 : GFf RX11 61 11 8 := ⟨RX11, TX11, 12, tyX11, rfl, by decide, uX11, flX11_61, tyX11_ok, nmX11, rfl, rfl, by decide +kernel, fun _ => ⟨rfl, rfl⟩⟩
theorem ffX11_67 : GFf RX11 67 11 9 := ⟨RX11, TX11, 12, tyX11, rfl, by decide, uX11, flX11_67, tyX11_ok, nmX11, rfl, rfl, by decide +kernel, fun _ => ⟨rfl, rfl⟩⟩
theorem ffX11_73 : GFf RX11 73 11 10 := ⟨RX11, TX11, 12, tyX11, rfl, by decide, uX11, flX11_73, tyX11_ok, nmX11, rfl, rfl, by decide +kernel, fun _ => ⟨rfl, rfl⟩⟩
set_option maxRecDepth 100000 in
theorem mk_X11 {G : GT} {d : Nat} : Mk G (d + 3) yX11_init cX11_init 2 76 15491 [] (.inr (11, bk11)) (bl11 G) := by
  refine mk_of (by decide +kernel) rfl (by decide) 1 rfl ?_
  refine n_aload_n dX11_init_0 rfl ?_
  refine n_obj dX11_init_1 lX11_3 (by decide) ?_
  refine n_aload_n dX11_init_4 rfl ?_
  refine n_sipush (v := nI 900) dX11_init_5 (by decide) ?_
  refine n_arrA (l := [.inr (11, [.null, .null, .null, .null, .null, .null, .null, .null, .null, .null, .null, .int 0])]) (n := 1) (N := 900) (t0 := 1) (a0 := (900, .inl zf)) (v := nI 900) (x := 0) (y := 0) (mc := 76) (ms := 15491) rfl dX11_init_8 ac_byte rfl rfl (fun _ _ h => h) (fun _ => rfl) (by decide) (by decide) (Nat.le_of_ble_eq_true rfl) (Nat.le_of_ble_eq_true rfl) (Nat.le_of_ble_eq_true rfl) ?_
  refine n_putFA (l := [.inl (G.ci 1, 900, .inl zf)]) (fs := [.null, .null, .null, .null, .null, .null, .null, .null, .null, .null, .null, .int 0]) dX11_init_10 ffX11_9 (Nat.le_of_ble_eq_true rfl) ?_
  refine n_aload_n dX11_init_13 rfl ?_
  refine n_makeA (l := .inr (11, [.ref (G.b0 + (0 + 1)), .null, .null, .null, .null, .null, .null, .null, .null, .null, .null, .int 0]) :: [.inl (G.ci 1, 900, .inl zf)]) (n := 2) rfl dX11_init_14 dX11_init_17 dX11_init_18 mki5 clX11_13 lX11_15 (mk_X5 (a := ([] : List va_E).length + 2) (List.length_append.trans rfl)) rfl (Nat.le_of_ble_eq_true rfl) (Nat.le_of_ble_eq_true rfl) (Nat.le_of_ble_eq_true rfl) ?_
  refine n_putFA (l := (apE [.inl (G.ci 1, 900, .inl zf)] (bl5 G 2))) (fs := [.ref (G.b0 + (0 + 1)), .null, .null, .null, .null, .null, .null, .null, .null, .null, .null, .int 0]) dX11_init_21 ffX11_16 (Nat.le_of_ble_eq_true rfl) ?_
  refine n_aload_n dX11_init_24 rfl ?_
  refine n_makeA (l := .inr (11, [.ref (G.b0 + (0 + 1)), .ref (G.b0 + (0 + 2)), .null, .null, .null, .null, .null, .null, .null, .null, .null, .int 0]) :: (apE [.inl (G.ci 1, 900, .inl zf)] (bl5 G 2))) (n := 20) rfl dX11_init_25 dX11_init_28 dX11_init_29 mki2 clX11_20 lX11_22 (mk_X2 (a := ([] : List va_E).length + 20) (List.length_append.trans rfl)) rfl (Nat.le_of_ble_eq_true rfl) (Nat.le_of_ble_eq_true rfl) (Nat.le_of_ble_eq_true rfl) ?_
  refine n_putFA (l := (apE (apE [.inl (G.ci 1, 900, .inl zf)] (bl5 G 2)) (bl2 G 20))) (fs := [.ref (G.b0 + (0 + 1)), .ref (G.b0 + (0 + 2)), .null, .null, .null, .null, .null, .null, .null, .null, .null, .int 0]) dX11_init_32 ffX11_23 (Nat.le_of_ble_eq_true rfl) ?_
  refine n_aload_n dX11_init_35 rfl ?_
  refine n_makeA (l := .inr (11, [.ref (G.b0 + (0 + 1)), .ref (G.b0 + (0 + 2)), .ref (G.b0 + (0 + 20)), .null, .null, .null, .null, .null, .null, .null, .null, .int 0]) :: (apE (apE [.inl (G.ci 1, 900, .inl zf)] (bl5 G 2)) (bl2 G 20))) (n := 26) rfl dX11_init_36 dX11_init_39 dX11_init_40 mki8 clX11_27 lX11_29 (mk_X8 (a := ([] : List va_E).length + 26) (List.length_append.trans rfl)) rfl (Nat.le_of_ble_eq_true rfl) (Nat.le_of_ble_eq_true rfl) (Nat.le_of_ble_eq_true rfl) ?_
  refine n_putFA (l := (apE (apE (apE [.inl (G.ci 1, 900, .inl zf)] (bl5 G 2)) (bl2 G 20)) (bl8 G 26))) (fs := [.ref (G.b0 + (0 + 1)), .ref (G.b0 + (0 + 2)), .ref (G.b0 + (0 + 20)), .null, .null, .null, .null, .null, .null, .null, .null, .int 0]) dX11_init_43 ffX11_30 (Nat.le_of_ble_eq_true rfl) ?_
  refine n_aload_n dX11_init_46 rfl ?_
  refine n_makeA (l := .inr (11, [.ref (G.b0 + (0 + 1)), .ref (G.b0 + (0 + 2)), .ref (G.b0 + (0 + 20)), .ref (G.b0 + (0 + 26)), .null, .null, .null, .null, .null, .null, .null, .int 0]) :: (apE (apE (apE [.inl (G.ci 1, 900, .inl zf)] (bl5 G 2)) (bl2 G 20)) (bl8 G 26))) (n := 29) rfl dX11_init_47 dX11_init_50 dX11_init_51 mki8 clX11_27 lX11_29 (mk_X8 (a := ([] : List va_E).length + 29) (List.length_append.trans rfl)) rfl (Nat.le_of_ble_eq_true rfl) (Nat.le_of_ble_eq_true rfl) (Nat.le_of_ble_eq_true rfl) ?_
  refine n_putFA (l := (apE (apE (apE (apE [.inl (G.ci 1, 900, .inl zf)] (bl5 G 2)) (bl2 G 20)) (bl8 G 26)) (bl8 G 29))) (fs := [.ref (G.b0 + (0 + 1)), .ref (G.b0 + (0 + 2)), .ref (G.b0 + (0 + 20)), .ref (G.b0 + (0 + 26)), .null, .null, .null, .null, .null, .null, .null, .int 0]) dX11_init_54 ffX11_34 (Nat.le_of_ble_eq_true rfl) ?_
  refine n_aload_n dX11_init_57 rfl ?_
  refine n_makeA (l := .inr (11, [.ref (G.b0 + (0 + 1)), .ref (G.b0 + (0 + 2)), .ref (G.b0 + (0 + 20)), .ref (G.b0 + (0 + 26)), .ref (G.b0 + (0 + 29)), .null, .null, .null, .null, .null, .null, .int 0]) :: (apE (apE (apE (apE [.inl (G.ci 1, 900, .inl zf)] (bl5 G 2)) (bl2 G 20)) (bl8 G 26)) (bl8 G 29))) (n := 32) rfl dX11_init_58 dX11_init_61 dX11_init_62 mki4 clX11_37 lX11_39 (mk_X4 (a := ([] : List va_E).length + 32) (List.length_append.trans rfl)) rfl (Nat.le_of_ble_eq_true rfl) (Nat.le_of_ble_eq_true rfl) (Nat.le_of_ble_eq_true rfl) ?_
  refine n_putFA (l := (apE (apE (apE (apE (apE [.inl (G.ci 1, 900, .inl zf)] (bl5 G 2)) (bl2 G 20)) (bl8 G 26)) (bl8 G 29)) (bl4 G 32))) (fs := [.ref (G.b0 + (0 + 1)), .ref (G.b0 + (0 + 2)), .ref (G.b0 + (0 + 20)), .ref (G.b0 + (0 + 26)), .ref (G.b0 + (0 + 29)), .null, .null, .null, .null, .null, .null, .int 0]) dX11_init_65 ffX11_40 (Nat.le_of_ble_eq_true rfl) ?_
  refine n_aload_n dX11_init_68 rfl ?_
  refine n_makeA (l := .inr (11, [.ref (G.b0 + (0 + 1)), .ref (G.b0 + (0 + 2)), .ref (G.b0 + (0 + 20)), .ref (G.b0 + (0 + 26)), .ref (G.b0 + (0 + 29)), .ref (G.b0 + (0 + 32)), .null, .null, .null, .null, .null, .int 0]) :: (apE (apE (apE (apE (apE [.inl (G.ci 1, 900, .inl zf)] (bl5 G 2)) (bl2 G 20)) (bl8 G 26)) (bl8 G 29)) (bl4 G 32))) (n := 34) rfl dX11_init_69 dX11_init_72 dX11_init_73 mki7 clX11_44 lX11_46 (mk_X7 (a := ([] : List va_E).length + 34) (List.length_append.trans rfl)) rfl (Nat.le_of_ble_eq_true rfl) (Nat.le_of_ble_eq_true rfl) (Nat.le_of_ble_eq_true rfl) ?_
  refine n_putFA (l := (apE (apE (apE (apE (apE (apE [.inl (G.ci 1, 900, .inl zf)] (bl5 G 2)) (bl2 G 20)) (bl8 G 26)) (bl8 G 29)) (bl4 G 32)) (bl7 G 34))) (fs := [.ref (G.b0 + (0 + 1)), .ref (G.b0 + (0 + 2)), .ref (G.b0 + (0 + 20)), .ref (G.b0 + (0 + 26)), .ref (G.b0 + (0 + 29)), .ref (G.b0 + (0 + 32)), .null, .null, .null, .null, .null, .int 0]) dX11_init_76 ffX11_47 (Nat.le_of_ble_eq_true rfl) ?_
  refine n_aload_n dX11_init_79 rfl ?_
  refine n_makeA (l := .inr (11, [.ref (G.b0 + (0 + 1)), .ref (G.b0 + (0 + 2)), .ref (G.b0 + (0 + 20)), .ref (G.b0 + (0 + 26)), .ref (G.b0 + (0 + 29)), .ref (G.b0 + (0 + 32)), .ref (G.b0 + (0 + 34)), .null, .null, .null, .null, .int 0]) :: (apE (apE (apE (apE (apE (apE [.inl (G.ci 1, 900, .inl zf)] (bl5 G 2)) (bl2 G 20)) (bl8 G 26)) (bl8 G 29)) (bl4 G 32)) (bl7 G 34))) (n := 40) rfl dX11_init_80 dX11_init_83 dX11_init_84 mki3 clX11_51 lX11_53 (mk_X3 (a := ([] : List va_E).length + 40) (List.length_append.trans rfl)) rfl (Nat.le_of_ble_eq_true rfl) (Nat.le_of_ble_eq_true rfl) (Nat.le_of_ble_eq_true rfl) ?_
  refine n_putFA (l := (apE (apE (apE (apE (apE (apE (apE [.inl (G.ci 1, 900, .inl zf)] (bl5 G 2)) (bl2 G 20)) (bl8 G 26)) (bl8 G 29)) (bl4 G 32)) (bl7 G 34)) (bl3 G 40))) (fs := [.ref (G.b0 + (0 + 1)), .ref (G.b0 + (0 + 2)), .ref (G.b0 + (0 + 20)), .ref (G.b0 + (0 + 26)), .ref (G.b0 + (0 + 29)), .ref (G.b0 + (0 + 32)), .ref (G.b0 + (0 + 34)), .null, .null, .null, .null, .int 0]) dX11_init_87 ffX11_54 (Nat.le_of_ble_eq_true rfl) ?_
  refine n_aload_n dX11_init_90 rfl ?_
  refine n_makeA (l := .inr (11, [.ref (G.b0 + (0 + 1)), .ref (G.b0 + (0 + 2)), .ref (G.b0 + (0 + 20)), .ref (G.b0 + (0 + 26)), .ref (G.b0 + (0 + 29)), .ref (G.b0 + (0 + 32)), .ref (G.b0 + (0 + 34)), .ref (G.b0 + (0 + 40)), .null, .null, .null, .int 0]) :: (apE (apE (apE (apE (apE (apE (apE [.inl (G.ci 1, 900, .inl zf)] (bl5 G 2)) (bl2 G 20)) (bl8 G 26)) (bl8 G 29)) (bl4 G 32)) (bl7 G 34)) (bl3 G 40))) (n := 45) rfl dX11_init_91 dX11_init_94 dX11_init_95 mki10 clX11_58 lX11_60 (mk_X10 (a := ([] : List va_E).length + 45) (List.length_append.trans rfl)) rfl (Nat.le_of_ble_eq_true rfl) (Nat.le_of_ble_eq_true rfl) (Nat.le_of_ble_eq_true rfl) ?_
  refine n_putFA (l := (apE (apE (apE (apE (apE (apE (apE (apE [.inl (G.ci 1, 900, .inl zf)] (bl5 G 2)) (bl2 G 20)) (bl8 G 26)) (bl8 G 29)) (bl4 G 32)) (bl7 G 34)) (bl3 G 40)) (bl10 G 45))) (fs := [.ref (G.b0 + (0 + 1)), .ref (G.b0 + (0 + 2)), .ref (G.b0 + (0 + 20)), .ref (G.b0 + (0 + 26)), .ref (G.b0 + (0 + 29)), .ref (G.b0 + (0 + 32)), .ref (G.b0 + (0 + 34)), .ref (G.b0 + (0 + 40)), .null, .null, .null, .int 0]) dX11_init_98 ffX11_61 (Nat.le_of_ble_eq_true rfl) ?_
  refine n_aload_n dX11_init_101 rfl ?_
  refine n_iconst (v := nI 4) dX11_init_102 (by decide) ?_
  refine n_anewA (l := .inr (11, [.ref (G.b0 + (0 + 1)), .ref (G.b0 + (0 + 2)), .ref (G.b0 + (0 + 20)), .ref (G.b0 + (0 + 26)), .ref (G.b0 + (0 + 29)), .ref (G.b0 + (0 + 32)), .ref (G.b0 + (0 + 34)), .ref (G.b0 + (0 + 40)), .ref (G.b0 + (0 + 45)), .null, .null, .int 0]) :: (apE (apE (apE (apE (apE (apE (apE (apE [.inl (G.ci 1, 900, .inl zf)] (bl5 G 2)) (bl2 G 20)) (bl8 G 26)) (bl8 G 29)) (bl4 G 32)) (bl7 G 34)) (bl3 G 40)) (bl10 G 45))) (n := 47) (N := 4) (t0 := 4) rfl dX11_init_103 clX11_65 (Or.inl rfl) rfl (by decide) (by decide) (Nat.le_of_ble_eq_true rfl) (Nat.le_of_ble_eq_true rfl) (Nat.le_of_ble_eq_true rfl) ?_
  refine n_putFA (l := (apE (apE (apE (apE (apE (apE (apE (apE (apE [.inl (G.ci 1, 900, .inl zf)] (bl5 G 2)) (bl2 G 20)) (bl8 G 26)) (bl8 G 29)) (bl4 G 32)) (bl7 G 34)) (bl3 G 40)) (bl10 G 45)) [.inl (G.ci 4, 4, .inr (.inr (.inr (.inr (fun _ => none)))))])) (fs := [.ref (G.b0 + (0 + 1)), .ref (G.b0 + (0 + 2)), .ref (G.b0 + (0 + 20)), .ref (G.b0 + (0 + 26)), .ref (G.b0 + (0 + 29)), .ref (G.b0 + (0 + 32)), .ref (G.b0 + (0 + 34)), .ref (G.b0 + (0 + 40)), .ref (G.b0 + (0 + 45)), .null, .null, .int 0]) dX11_init_106 ffX11_67 (Nat.le_of_ble_eq_true rfl) ?_
  refine n_aload_n dX11_init_109 rfl ?_
  refine n_iconst (v := nI 2) dX11_init_110 (by decide) ?_
  refine n_anewA (l := .inr (11, [.ref (G.b0 + (0 + 1)), .ref (G.b0 + (0 + 2)), .ref (G.b0 + (0 + 20)), .ref (G.b0 + (0 + 26)), .ref (G.b0 + (0 + 29)), .ref (G.b0 + (0 + 32)), .ref (G.b0 + (0 + 34)), .ref (G.b0 + (0 + 40)), .ref (G.b0 + (0 + 45)), .ref (G.b0 + (0 + 47)), .null, .int 0]) :: (apE (apE (apE (apE (apE (apE (apE (apE (apE [.inl (G.ci 1, 900, .inl zf)] (bl5 G 2)) (bl2 G 20)) (bl8 G 26)) (bl8 G 29)) (bl4 G 32)) (bl7 G 34)) (bl3 G 40)) (bl10 G 45)) [.inl (G.ci 4, 4, .inr (.inr (.inr (.inr (fun _ => none)))))])) (n := 48) (N := 2) (t0 := 5) rfl dX11_init_111 clX11_71 (Or.inr rfl) rfl (by decide) (by decide) (Nat.le_of_ble_eq_true rfl) (Nat.le_of_ble_eq_true rfl) (Nat.le_of_ble_eq_true rfl) ?_
  refine n_putFA (l := (apE (apE (apE (apE (apE (apE (apE (apE (apE [.inl (G.ci 1, 900, .inl zf)] (bl5 G 2)) (bl2 G 20)) (bl8 G 26)) (bl8 G 29)) (bl4 G 32)) (bl7 G 34)) (bl3 G 40)) (bl10 G 45)) [.inl (G.ci 4, 4, .inr (.inr (.inr (.inr (fun _ => none))))), .inl (G.ci 5, 2, .inr (.inr (.inr (.inr (fun _ => none)))))])) (fs := [.ref (G.b0 + (0 + 1)), .ref (G.b0 + (0 + 2)), .ref (G.b0 + (0 + 20)), .ref (G.b0 + (0 + 26)), .ref (G.b0 + (0 + 29)), .ref (G.b0 + (0 + 32)), .ref (G.b0 + (0 + 34)), .ref (G.b0 + (0 + 40)), .ref (G.b0 + (0 + 45)), .ref (G.b0 + (0 + 47)), .null, .int 0]) dX11_init_114 ffX11_73 (Nat.le_of_ble_eq_true rfl) ?_
  refine n_eqL (swE (o := .inr (11, [.ref (G.b0 + (0 + 1)), .ref (G.b0 + (0 + 2)), .ref (G.b0 + (0 + 20)), .ref (G.b0 + (0 + 26)), .ref (G.b0 + (0 + 29)), .ref (G.b0 + (0 + 32)), .ref (G.b0 + (0 + 34)), .ref (G.b0 + (0 + 40)), .ref (G.b0 + (0 + 45)), .ref (G.b0 + (0 + 47)), .ref (G.b0 + (0 + 48)), .int 0])) (A := (apE (apE (apE (apE (apE (apE (apE (apE [.inl (G.ci 1, 900, .inl zf)] (bl5 G 2)) (bl2 G 20)) (bl8 G 26)) (bl8 G 29)) (bl4 G 32)) (bl7 G 34)) (bl3 G 40)) (bl10 G 45))) (r := .inl (G.ci 4, 4, .inr (.inr (.inr (.inr (fun _ => none)))))) (i := .inl (G.ci 5, 2, .inr (.inr (.inr (.inr (fun _ => none))))))) ?_
  refine n_iconst (v := nI 0) dX11_init_117 (by decide) ?_
  refine n_istore_n dX11_init_118 (by decide) rfl ?_
  refine n_iload_n dX11_init_119 rfl ?_
  refine n_iconst (v := nI 4) dX11_init_120 (by decide) ?_
  refine n_icmp_ge_f 143 dX11_init_121 (by decide) (by decide) ?_
  refine n_aload_n dX11_init_124 rfl ?_
  refine n_getA (l := apE (apE (apE (apE (apE (apE (apE (apE (apE [.inl (G.ci 1, 900, .inl zf)] (bl5 G 2)) (bl2 G 20)) (bl8 G 26)) (bl8 G 29)) (bl4 G 32)) (bl7 G 34)) (bl3 G 40)) (bl10 G 45)) (.inl (G.ci 4, 4, .inr (.inr (.inr (.inr (fun _ => none))))) :: .inl (G.ci 5, 2, .inr (.inr (.inr (.inr (fun _ => none))))) :: [])) (fs := [.ref (G.b0 + (0 + 1)), .ref (G.b0 + (0 + 2)), .ref (G.b0 + (0 + 20)), .ref (G.b0 + (0 + 26)), .ref (G.b0 + (0 + 29)), .ref (G.b0 + (0 + 32)), .ref (G.b0 + (0 + 34)), .ref (G.b0 + (0 + 40)), .ref (G.b0 + (0 + 45)), .ref (G.b0 + (0 + 47)), .ref (G.b0 + (0 + 48)), .int 0]) dX11_init_125 fX11_67 rfl ?_
  refine n_iload_n dX11_init_128 rfl ?_
  refine n_makeS (l := .inr (11, [.ref (G.b0 + (0 + 1)), .ref (G.b0 + (0 + 2)), .ref (G.b0 + (0 + 20)), .ref (G.b0 + (0 + 26)), .ref (G.b0 + (0 + 29)), .ref (G.b0 + (0 + 32)), .ref (G.b0 + (0 + 34)), .ref (G.b0 + (0 + 40)), .ref (G.b0 + (0 + 45)), .ref (G.b0 + (0 + 47)), .ref (G.b0 + (0 + 48)), .int 0]) :: (apE (apE (apE (apE (apE (apE (apE (apE [.inl (G.ci 1, 900, .inl zf)] (bl5 G 2)) (bl2 G 20)) (bl8 G 26)) (bl8 G 29)) (bl4 G 32)) (bl7 G 34)) (bl3 G 40)) (bl10 G 45))) (n := 47) (B := []) (m := 0) (e1 := .inl (G.ci 4, 4, .inr (.inr (.inr (.inr (fun _ => none)))))) (e2 := .inl (G.ci 5, 2, .inr (.inr (.inr (.inr (fun _ => none)))))) (bl := bl6 G 49) rfl rfl dX11_init_129 dX11_init_132 dX11_init_133 mki6 clX11_65 lX11_77 (fun w' h => mk_X6 (a := 49) h) rfl (Nat.le_of_ble_eq_true rfl) (Nat.le_of_ble_eq_true rfl) (Nat.le_of_ble_eq_true rfl) ?_
  refine n_aastR (l := .inr (11, [.ref (G.b0 + (0 + 1)), .ref (G.b0 + (0 + 2)), .ref (G.b0 + (0 + 20)), .ref (G.b0 + (0 + 26)), .ref (G.b0 + (0 + 29)), .ref (G.b0 + (0 + 32)), .ref (G.b0 + (0 + 34)), .ref (G.b0 + (0 + 40)), .ref (G.b0 + (0 + 45)), .ref (G.b0 + (0 + 47)), .ref (G.b0 + (0 + 48)), .int 0]) :: (apE (apE (apE (apE (apE (apE (apE (apE [.inl (G.ci 1, 900, .inl zf)] (bl5 G 2)) (bl2 G 20)) (bl8 G 26)) (bl8 G 29)) (bl4 G 32)) (bl7 G 34)) (bl3 G 40)) (bl10 G 45))) (n := 47) (N := 4) (j := 0) (t0 := 4) (ci := 6) (m := 0) (f := (fun _ => none)) (e2 := .inl (G.ci 5, 2, .inr (.inr (.inr (.inr (fun _ => none)))))) (B := []) (r := (RX6, TX6, 3)) rfl rfl dX11_init_136 rfl rfl (by decide) (by decide) (by decide) ?_
  refine n_iinc (v := nI 1) dX11_init_137 rfl (by decide) (by decide) rfl ?_
  refine n_goto 119 dX11_init_140 (by decide) ?_
  refine n_iload_n dX11_init_119 rfl ?_
  refine n_iconst (v := nI 4) dX11_init_120 (by decide) ?_
  refine n_icmp_ge_f 143 dX11_init_121 (by decide) (by decide) ?_
  refine n_aload_n dX11_init_124 rfl ?_
  refine n_getA (l := apE (apE (apE (apE (apE (apE (apE (apE (apE [.inl (G.ci 1, 900, .inl zf)] (bl5 G 2)) (bl2 G 20)) (bl8 G 26)) (bl8 G 29)) (bl4 G 32)) (bl7 G 34)) (bl3 G 40)) (bl10 G 45)) (.inl (G.ci 4, 4, .inr (.inr (.inr (.inr (va_up (fun _ => none) 0 (some (G.b0 + 49))))))) :: .inl (G.ci 5, 2, .inr (.inr (.inr (.inr (fun _ => none))))) :: (apE [] (bl6 G 49)))) (fs := [.ref (G.b0 + (0 + 1)), .ref (G.b0 + (0 + 2)), .ref (G.b0 + (0 + 20)), .ref (G.b0 + (0 + 26)), .ref (G.b0 + (0 + 29)), .ref (G.b0 + (0 + 32)), .ref (G.b0 + (0 + 34)), .ref (G.b0 + (0 + 40)), .ref (G.b0 + (0 + 45)), .ref (G.b0 + (0 + 47)), .ref (G.b0 + (0 + 48)), .int 0]) dX11_init_125 fX11_67 rfl ?_
  refine n_iload_n dX11_init_128 rfl ?_
  refine n_makeS (l := .inr (11, [.ref (G.b0 + (0 + 1)), .ref (G.b0 + (0 + 2)), .ref (G.b0 + (0 + 20)), .ref (G.b0 + (0 + 26)), .ref (G.b0 + (0 + 29)), .ref (G.b0 + (0 + 32)), .ref (G.b0 + (0 + 34)), .ref (G.b0 + (0 + 40)), .ref (G.b0 + (0 + 45)), .ref (G.b0 + (0 + 47)), .ref (G.b0 + (0 + 48)), .int 0]) :: (apE (apE (apE (apE (apE (apE (apE (apE [.inl (G.ci 1, 900, .inl zf)] (bl5 G 2)) (bl2 G 20)) (bl8 G 26)) (bl8 G 29)) (bl4 G 32)) (bl7 G 34)) (bl3 G 40)) (bl10 G 45))) (n := 47) (B := (apE [] (bl6 G 49))) (m := 2) (e1 := .inl (G.ci 4, 4, .inr (.inr (.inr (.inr (va_up (fun _ => none) 0 (some (G.b0 + 49)))))))) (e2 := .inl (G.ci 5, 2, .inr (.inr (.inr (.inr (fun _ => none)))))) (bl := bl6 G 51) rfl rfl dX11_init_129 dX11_init_132 dX11_init_133 mki6 clX11_65 lX11_77 (fun w' h => mk_X6 (a := 51) h) rfl (Nat.le_of_ble_eq_true rfl) (Nat.le_of_ble_eq_true rfl) (Nat.le_of_ble_eq_true rfl) ?_
  refine n_aastR (l := .inr (11, [.ref (G.b0 + (0 + 1)), .ref (G.b0 + (0 + 2)), .ref (G.b0 + (0 + 20)), .ref (G.b0 + (0 + 26)), .ref (G.b0 + (0 + 29)), .ref (G.b0 + (0 + 32)), .ref (G.b0 + (0 + 34)), .ref (G.b0 + (0 + 40)), .ref (G.b0 + (0 + 45)), .ref (G.b0 + (0 + 47)), .ref (G.b0 + (0 + 48)), .int 0]) :: (apE (apE (apE (apE (apE (apE (apE (apE [.inl (G.ci 1, 900, .inl zf)] (bl5 G 2)) (bl2 G 20)) (bl8 G 26)) (bl8 G 29)) (bl4 G 32)) (bl7 G 34)) (bl3 G 40)) (bl10 G 45))) (n := 47) (N := 4) (j := 1) (t0 := 4) (ci := 6) (m := 2) (f := (va_up (fun _ => none) 0 (some (G.b0 + 49)))) (e2 := .inl (G.ci 5, 2, .inr (.inr (.inr (.inr (fun _ => none)))))) (B := (apE [] (bl6 G 49))) (r := (RX6, TX6, 3)) rfl rfl dX11_init_136 rfl rfl (by decide) (by decide) (by decide) ?_
  refine n_iinc (v := nI 2) dX11_init_137 rfl (by decide) (by decide) rfl ?_
  refine n_goto 119 dX11_init_140 (by decide) ?_
  refine n_iload_n dX11_init_119 rfl ?_
  refine n_iconst (v := nI 4) dX11_init_120 (by decide) ?_
  refine n_icmp_ge_f 143 dX11_init_121 (by decide) (by decide) ?_
  refine n_aload_n dX11_init_124 rfl ?_
  refine n_getA (l := apE (apE (apE (apE (apE (apE (apE (apE (apE [.inl (G.ci 1, 900, .inl zf)] (bl5 G 2)) (bl2 G 20)) (bl8 G 26)) (bl8 G 29)) (bl4 G 32)) (bl7 G 34)) (bl3 G 40)) (bl10 G 45)) (.inl (G.ci 4, 4, .inr (.inr (.inr (.inr (va_up (va_up (fun _ => none) 0 (some (G.b0 + 49))) 1 (some (G.b0 + 51))))))) :: .inl (G.ci 5, 2, .inr (.inr (.inr (.inr (fun _ => none))))) :: (apE (apE [] (bl6 G 49)) (bl6 G 51)))) (fs := [.ref (G.b0 + (0 + 1)), .ref (G.b0 + (0 + 2)), .ref (G.b0 + (0 + 20)), .ref (G.b0 + (0 + 26)), .ref (G.b0 + (0 + 29)), .ref (G.b0 + (0 + 32)), .ref (G.b0 + (0 + 34)), .ref (G.b0 + (0 + 40)), .ref (G.b0 + (0 + 45)), .ref (G.b0 + (0 + 47)), .ref (G.b0 + (0 + 48)), .int 0]) dX11_init_125 fX11_67 rfl ?_
  refine n_iload_n dX11_init_128 rfl ?_
  refine n_makeS (l := .inr (11, [.ref (G.b0 + (0 + 1)), .ref (G.b0 + (0 + 2)), .ref (G.b0 + (0 + 20)), .ref (G.b0 + (0 + 26)), .ref (G.b0 + (0 + 29)), .ref (G.b0 + (0 + 32)), .ref (G.b0 + (0 + 34)), .ref (G.b0 + (0 + 40)), .ref (G.b0 + (0 + 45)), .ref (G.b0 + (0 + 47)), .ref (G.b0 + (0 + 48)), .int 0]) :: (apE (apE (apE (apE (apE (apE (apE (apE [.inl (G.ci 1, 900, .inl zf)] (bl5 G 2)) (bl2 G 20)) (bl8 G 26)) (bl8 G 29)) (bl4 G 32)) (bl7 G 34)) (bl3 G 40)) (bl10 G 45))) (n := 47) (B := (apE (apE [] (bl6 G 49)) (bl6 G 51))) (m := 4) (e1 := .inl (G.ci 4, 4, .inr (.inr (.inr (.inr (va_up (va_up (fun _ => none) 0 (some (G.b0 + 49))) 1 (some (G.b0 + 51)))))))) (e2 := .inl (G.ci 5, 2, .inr (.inr (.inr (.inr (fun _ => none)))))) (bl := bl6 G 53) rfl rfl dX11_init_129 dX11_init_132 dX11_init_133 mki6 clX11_65 lX11_77 (fun w' h => mk_X6 (a := 53) h) rfl (Nat.le_of_ble_eq_true rfl) (Nat.le_of_ble_eq_true rfl) (Nat.le_of_ble_eq_true rfl) ?_
  refine n_aastR (l := .inr (11, [.ref (G.b0 + (0 + 1)), .ref (G.b0 + (0 + 2)), .ref (G.b0 + (0 + 20)), .ref (G.b0 + (0 + 26)), .ref (G.b0 + (0 + 29)), .ref (G.b0 + (0 + 32)), .ref (G.b0 + (0 + 34)), .ref (G.b0 + (0 + 40)), .ref (G.b0 + (0 + 45)), .ref (G.b0 + (0 + 47)), .ref (G.b0 + (0 + 48)), .int 0]) :: (apE (apE (apE (apE (apE (apE (apE (apE [.inl (G.ci 1, 900, .inl zf)] (bl5 G 2)) (bl2 G 20)) (bl8 G 26)) (bl8 G 29)) (bl4 G 32)) (bl7 G 34)) (bl3 G 40)) (bl10 G 45))) (n := 47) (N := 4) (j := 2) (t0 := 4) (ci := 6) (m := 4) (f := (va_up (va_up (fun _ => none) 0 (some (G.b0 + 49))) 1 (some (G.b0 + 51)))) (e2 := .inl (G.ci 5, 2, .inr (.inr (.inr (.inr (fun _ => none)))))) (B := (apE (apE [] (bl6 G 49)) (bl6 G 51))) (r := (RX6, TX6, 3)) rfl rfl dX11_init_136 rfl rfl (by decide) (by decide) (by decide) ?_
  refine n_iinc (v := nI 3) dX11_init_137 rfl (by decide) (by decide) rfl ?_
  refine n_goto 119 dX11_init_140 (by decide) ?_
  refine n_iload_n dX11_init_119 rfl ?_
  refine n_iconst (v := nI 4) dX11_init_120 (by decide) ?_
  refine n_icmp_ge_f 143 dX11_init_121 (by decide) (by decide) ?_
  refine n_aload_n dX11_init_124 rfl ?_
  refine n_getA (l := apE (apE (apE (apE (apE (apE (apE (apE (apE [.inl (G.ci 1, 900, .inl zf)] (bl5 G 2)) (bl2 G 20)) (bl8 G 26)) (bl8 G 29)) (bl4 G 32)) (bl7 G 34)) (bl3 G 40)) (bl10 G 45)) (.inl (G.ci 4, 4, .inr (.inr (.inr (.inr (va_up (va_up (va_up (fun _ => none) 0 (some (G.b0 + 49))) 1 (some (G.b0 + 51))) 2 (some (G.b0 + 53))))))) :: .inl (G.ci 5, 2, .inr (.inr (.inr (.inr (fun _ => none))))) :: (apE (apE (apE [] (bl6 G 49)) (bl6 G 51)) (bl6 G 53)))) (fs := [.ref (G.b0 + (0 + 1)), .ref (G.b0 + (0 + 2)), .ref (G.b0 + (0 + 20)), .ref (G.b0 + (0 + 26)), .ref (G.b0 + (0 + 29)), .ref (G.b0 + (0 + 32)), .ref (G.b0 + (0 + 34)), .ref (G.b0 + (0 + 40)), .ref (G.b0 + (0 + 45)), .ref (G.b0 + (0 + 47)), .ref (G.b0 + (0 + 48)), .int 0]) dX11_init_125 fX11_67 rfl ?_
  refine n_iload_n dX11_init_128 rfl ?_
  refine n_makeS (l := .inr (11, [.ref (G.b0 + (0 + 1)), .ref (G.b0 + (0 + 2)), .ref (G.b0 + (0 + 20)), .ref (G.b0 + (0 + 26)), .ref (G.b0 + (0 + 29)), .ref (G.b0 + (0 + 32)), .ref (G.b0 + (0 + 34)), .ref (G.b0 + (0 + 40)), .ref (G.b0 + (0 + 45)), .ref (G.b0 + (0 + 47)), .ref (G.b0 + (0 + 48)), .int 0]) :: (apE (apE (apE (apE (apE (apE (apE (apE [.inl (G.ci 1, 900, .inl zf)] (bl5 G 2)) (bl2 G 20)) (bl8 G 26)) (bl8 G 29)) (bl4 G 32)) (bl7 G 34)) (bl3 G 40)) (bl10 G 45))) (n := 47) (B := (apE (apE (apE [] (bl6 G 49)) (bl6 G 51)) (bl6 G 53))) (m := 6) (e1 := .inl (G.ci 4, 4, .inr (.inr (.inr (.inr (va_up (va_up (va_up (fun _ => none) 0 (some (G.b0 + 49))) 1 (some (G.b0 + 51))) 2 (some (G.b0 + 53)))))))) (e2 := .inl (G.ci 5, 2, .inr (.inr (.inr (.inr (fun _ => none)))))) (bl := bl6 G 55) rfl rfl dX11_init_129 dX11_init_132 dX11_init_133 mki6 clX11_65 lX11_77 (fun w' h => mk_X6 (a := 55) h) rfl (Nat.le_of_ble_eq_true rfl) (Nat.le_of_ble_eq_true rfl) (Nat.le_of_ble_eq_true rfl) ?_
  refine n_aastR (l := .inr (11, [.ref (G.b0 + (0 + 1)), .ref (G.b0 + (0 + 2)), .ref (G.b0 + (0 + 20)), .ref (G.b0 + (0 + 26)), .ref (G.b0 + (0 + 29)), .ref (G.b0 + (0 + 32)), .ref (G.b0 + (0 + 34)), .ref (G.b0 + (0 + 40)), .ref (G.b0 + (0 + 45)), .ref (G.b0 + (0 + 47)), .ref (G.b0 + (0 + 48)), .int 0]) :: (apE (apE (apE (apE (apE (apE (apE (apE [.inl (G.ci 1, 900, .inl zf)] (bl5 G 2)) (bl2 G 20)) (bl8 G 26)) (bl8 G 29)) (bl4 G 32)) (bl7 G 34)) (bl3 G 40)) (bl10 G 45))) (n := 47) (N := 4) (j := 3) (t0 := 4) (ci := 6) (m := 6) (f := (va_up (va_up (va_up (fun _ => none) 0 (some (G.b0 + 49))) 1 (some (G.b0 + 51))) 2 (some (G.b0 + 53)))) (e2 := .inl (G.ci 5, 2, .inr (.inr (.inr (.inr (fun _ => none)))))) (B := (apE (apE (apE [] (bl6 G 49)) (bl6 G 51)) (bl6 G 53))) (r := (RX6, TX6, 3)) rfl rfl dX11_init_136 rfl rfl (by decide) (by decide) (by decide) ?_
  refine n_iinc (v := nI 4) dX11_init_137 rfl (by decide) (by decide) rfl ?_
  refine n_goto 119 dX11_init_140 (by decide) ?_
  refine n_iload_n dX11_init_119 rfl ?_
  refine n_iconst (v := nI 4) dX11_init_120 (by decide) ?_
  refine n_icmp_ge_t 143 dX11_init_121 (by decide) (by decide) ?_
  refine n_iconst (v := nI 0) dX11_init_143 (by decide) ?_
  refine n_istore_n dX11_init_144 (by decide) rfl ?_
  refine n_iload_n dX11_init_145 rfl ?_
  refine n_iconst (v := nI 2) dX11_init_146 (by decide) ?_
  refine n_icmp_ge_f 169 dX11_init_147 (by decide) (by decide) ?_
  refine n_aload_n dX11_init_150 rfl ?_
  refine n_getA (l := apE (apE (apE (apE (apE (apE (apE (apE (apE [.inl (G.ci 1, 900, .inl zf)] (bl5 G 2)) (bl2 G 20)) (bl8 G 26)) (bl8 G 29)) (bl4 G 32)) (bl7 G 34)) (bl3 G 40)) (bl10 G 45)) (.inl (G.ci 4, 4, .inr (.inr (.inr (.inr (va_up (va_up (va_up (va_up (fun _ => none) 0 (some (G.b0 + 49))) 1 (some (G.b0 + 51))) 2 (some (G.b0 + 53))) 3 (some (G.b0 + 55))))))) :: .inl (G.ci 5, 2, .inr (.inr (.inr (.inr (fun _ => none))))) :: (apE (apE (apE (apE [] (bl6 G 49)) (bl6 G 51)) (bl6 G 53)) (bl6 G 55)))) (fs := [.ref (G.b0 + (0 + 1)), .ref (G.b0 + (0 + 2)), .ref (G.b0 + (0 + 20)), .ref (G.b0 + (0 + 26)), .ref (G.b0 + (0 + 29)), .ref (G.b0 + (0 + 32)), .ref (G.b0 + (0 + 34)), .ref (G.b0 + (0 + 40)), .ref (G.b0 + (0 + 45)), .ref (G.b0 + (0 + 47)), .ref (G.b0 + (0 + 48)), .int 0]) dX11_init_151 fX11_73 rfl ?_
  refine n_iload_n dX11_init_154 rfl ?_
  refine n_makeS (l := .inr (11, [.ref (G.b0 + (0 + 1)), .ref (G.b0 + (0 + 2)), .ref (G.b0 + (0 + 20)), .ref (G.b0 + (0 + 26)), .ref (G.b0 + (0 + 29)), .ref (G.b0 + (0 + 32)), .ref (G.b0 + (0 + 34)), .ref (G.b0 + (0 + 40)), .ref (G.b0 + (0 + 45)), .ref (G.b0 + (0 + 47)), .ref (G.b0 + (0 + 48)), .int 0]) :: (apE (apE (apE (apE (apE (apE (apE (apE [.inl (G.ci 1, 900, .inl zf)] (bl5 G 2)) (bl2 G 20)) (bl8 G 26)) (bl8 G 29)) (bl4 G 32)) (bl7 G 34)) (bl3 G 40)) (bl10 G 45))) (n := 47) (B := (apE (apE (apE (apE [] (bl6 G 49)) (bl6 G 51)) (bl6 G 53)) (bl6 G 55))) (m := 8) (e1 := .inl (G.ci 4, 4, .inr (.inr (.inr (.inr (va_up (va_up (va_up (va_up (fun _ => none) 0 (some (G.b0 + 49))) 1 (some (G.b0 + 51))) 2 (some (G.b0 + 53))) 3 (some (G.b0 + 55)))))))) (e2 := .inl (G.ci 5, 2, .inr (.inr (.inr (.inr (fun _ => none)))))) (bl := bl1 G 57) rfl rfl dX11_init_155 dX11_init_158 dX11_init_159 mki1 clX11_71 lX11_78 (fun w' h => mk_X1 (a := 57) h) rfl (Nat.le_of_ble_eq_true rfl) (Nat.le_of_ble_eq_true rfl) (Nat.le_of_ble_eq_true rfl) ?_
  refine n_aastI (l := .inr (11, [.ref (G.b0 + (0 + 1)), .ref (G.b0 + (0 + 2)), .ref (G.b0 + (0 + 20)), .ref (G.b0 + (0 + 26)), .ref (G.b0 + (0 + 29)), .ref (G.b0 + (0 + 32)), .ref (G.b0 + (0 + 34)), .ref (G.b0 + (0 + 40)), .ref (G.b0 + (0 + 45)), .ref (G.b0 + (0 + 47)), .ref (G.b0 + (0 + 48)), .int 0]) :: (apE (apE (apE (apE (apE (apE (apE (apE [.inl (G.ci 1, 900, .inl zf)] (bl5 G 2)) (bl2 G 20)) (bl8 G 26)) (bl8 G 29)) (bl4 G 32)) (bl7 G 34)) (bl3 G 40)) (bl10 G 45))) (n := 47) (N := 2) (j := 0) (t0 := 5) (ci := 1) (m := 8) (f := (fun _ => none)) (e2 := .inl (G.ci 4, 4, .inr (.inr (.inr (.inr (va_up (va_up (va_up (va_up (fun _ => none) 0 (some (G.b0 + 49))) 1 (some (G.b0 + 51))) 2 (some (G.b0 + 53))) 3 (some (G.b0 + 55)))))))) (B := (apE (apE (apE (apE [] (bl6 G 49)) (bl6 G 51)) (bl6 G 53)) (bl6 G 55))) (r := (RX1, TX1, 3)) rfl rfl dX11_init_162 rfl rfl (by decide) (by decide) (by decide) ?_
  refine n_iinc (v := nI 1) dX11_init_163 rfl (by decide) (by decide) rfl ?_
  refine n_goto 145 dX11_init_166 (by decide) ?_
  refine n_iload_n dX11_init_145 rfl ?_
  refine n_iconst (v := nI 2) dX11_init_146 (by decide) ?_
  refine n_icmp_ge_f 169 dX11_init_147 (by decide) (by decide) ?_
  refine n_aload_n dX11_init_150 rfl ?_
  refine n_getA (l := apE (apE (apE (apE (apE (apE (apE (apE (apE [.inl (G.ci 1, 900, .inl zf)] (bl5 G 2)) (bl2 G 20)) (bl8 G 26)) (bl8 G 29)) (bl4 G 32)) (bl7 G 34)) (bl3 G 40)) (bl10 G 45)) (.inl (G.ci 4, 4, .inr (.inr (.inr (.inr (va_up (va_up (va_up (va_up (fun _ => none) 0 (some (G.b0 + 49))) 1 (some (G.b0 + 51))) 2 (some (G.b0 + 53))) 3 (some (G.b0 + 55))))))) :: .inl (G.ci 5, 2, .inr (.inr (.inr (.inr (va_up (fun _ => none) 0 (some (G.b0 + 57))))))) :: (apE (apE (apE (apE (apE [] (bl6 G 49)) (bl6 G 51)) (bl6 G 53)) (bl6 G 55)) (bl1 G 57)))) (fs := [.ref (G.b0 + (0 + 1)), .ref (G.b0 + (0 + 2)), .ref (G.b0 + (0 + 20)), .ref (G.b0 + (0 + 26)), .ref (G.b0 + (0 + 29)), .ref (G.b0 + (0 + 32)), .ref (G.b0 + (0 + 34)), .ref (G.b0 + (0 + 40)), .ref (G.b0 + (0 + 45)), .ref (G.b0 + (0 + 47)), .ref (G.b0 + (0 + 48)), .int 0]) dX11_init_151 fX11_73 rfl ?_
  refine n_iload_n dX11_init_154 rfl ?_
  refine n_makeS (l := .inr (11, [.ref (G.b0 + (0 + 1)), .ref (G.b0 + (0 + 2)), .ref (G.b0 + (0 + 20)), .ref (G.b0 + (0 + 26)), .ref (G.b0 + (0 + 29)), .ref (G.b0 + (0 + 32)), .ref (G.b0 + (0 + 34)), .ref (G.b0 + (0 + 40)), .ref (G.b0 + (0 + 45)), .ref (G.b0 + (0 + 47)), .ref (G.b0 + (0 + 48)), .int 0]) :: (apE (apE (apE (apE (apE (apE (apE (apE [.inl (G.ci 1, 900, .inl zf)] (bl5 G 2)) (bl2 G 20)) (bl8 G 26)) (bl8 G 29)) (bl4 G 32)) (bl7 G 34)) (bl3 G 40)) (bl10 G 45))) (n := 47) (B := (apE (apE (apE (apE (apE [] (bl6 G 49)) (bl6 G 51)) (bl6 G 53)) (bl6 G 55)) (bl1 G 57))) (m := 18) (e1 := .inl (G.ci 4, 4, .inr (.inr (.inr (.inr (va_up (va_up (va_up (va_up (fun _ => none) 0 (some (G.b0 + 49))) 1 (some (G.b0 + 51))) 2 (some (G.b0 + 53))) 3 (some (G.b0 + 55)))))))) (e2 := .inl (G.ci 5, 2, .inr (.inr (.inr (.inr (va_up (fun _ => none) 0 (some (G.b0 + 57)))))))) (bl := bl1 G 67) rfl rfl dX11_init_155 dX11_init_158 dX11_init_159 mki1 clX11_71 lX11_78 (fun w' h => mk_X1 (a := 67) h) rfl (Nat.le_of_ble_eq_true rfl) (Nat.le_of_ble_eq_true rfl) (Nat.le_of_ble_eq_true rfl) ?_
  refine n_aastI (l := .inr (11, [.ref (G.b0 + (0 + 1)), .ref (G.b0 + (0 + 2)), .ref (G.b0 + (0 + 20)), .ref (G.b0 + (0 + 26)), .ref (G.b0 + (0 + 29)), .ref (G.b0 + (0 + 32)), .ref (G.b0 + (0 + 34)), .ref (G.b0 + (0 + 40)), .ref (G.b0 + (0 + 45)), .ref (G.b0 + (0 + 47)), .ref (G.b0 + (0 + 48)), .int 0]) :: (apE (apE (apE (apE (apE (apE (apE (apE [.inl (G.ci 1, 900, .inl zf)] (bl5 G 2)) (bl2 G 20)) (bl8 G 26)) (bl8 G 29)) (bl4 G 32)) (bl7 G 34)) (bl3 G 40)) (bl10 G 45))) (n := 47) (N := 2) (j := 1) (t0 := 5) (ci := 1) (m := 18) (f := (va_up (fun _ => none) 0 (some (G.b0 + 57)))) (e2 := .inl (G.ci 4, 4, .inr (.inr (.inr (.inr (va_up (va_up (va_up (va_up (fun _ => none) 0 (some (G.b0 + 49))) 1 (some (G.b0 + 51))) 2 (some (G.b0 + 53))) 3 (some (G.b0 + 55)))))))) (B := (apE (apE (apE (apE (apE [] (bl6 G 49)) (bl6 G 51)) (bl6 G 53)) (bl6 G 55)) (bl1 G 57))) (r := (RX1, TX1, 3)) rfl rfl dX11_init_162 rfl rfl (by decide) (by decide) (by decide) ?_
  refine n_iinc (v := nI 2) dX11_init_163 rfl (by decide) (by decide) rfl ?_
  refine n_goto 145 dX11_init_166 (by decide) ?_
  refine n_iload_n dX11_init_145 rfl ?_
  refine n_iconst (v := nI 2) dX11_init_146 (by decide) ?_
  refine n_icmp_ge_t 169 dX11_init_147 (by decide) (by decide) ?_
  exact n_ret dX11_init_169
