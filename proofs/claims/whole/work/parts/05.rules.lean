section Rules
variable {G : GT} {own : String} {cc : ByteArray} {nL : Nat} {ret : Option FieldType} {d : Nat} {Q : QT} {pc : Nat} {ls : LT} {st : List Value} {h : HT}
theorem b_iconst {n : Int} {v : Int32} (hd : decode cc pc = .ok (.iconst n, 1)) (hv : Int32.ofInt n = v) (k : BB G own cc nL ret d Q (pc + 1) ls (.int v :: st) h) : BB G own cc nL ret d Q (pc) ls (st) h :=
  fun p e R s m args below meth c cells slots E H locs lsA hH hS hl => lv_iconst E.1 E.2.1 hd hv (k p e R s m args below meth c cells slots E H locs lsA hH hS hl)
theorem b_bipush {n : Int} {v : Int32} (hd : decode cc pc = .ok (.bipush n, 2)) (hv : (Int8.ofInt n).toInt32 = v) (k : BB G own cc nL ret d Q (pc + 2) ls (.int v :: st) h) : BB G own cc nL ret d Q (pc) ls (st) h :=
  fun p e R s m args below meth c cells slots E H locs lsA hH hS hl => lv_bipush E.1 E.2.1 hd hv (k p e R s m args below meth c cells slots E H locs lsA hH hS hl)
theorem b_sipush {n : Int} {v : Int32} (hd : decode cc pc = .ok (.sipush n, 3)) (hv : (Int16.ofInt n).toInt32 = v) (k : BB G own cc nL ret d Q (pc + 3) ls (.int v :: st) h) : BB G own cc nL ret d Q (pc) ls (st) h :=
  fun p e R s m args below meth c cells slots E H locs lsA hH hS hl => lv_sipush E.1 E.2.1 hd hv (k p e R s m args below meth c cells slots E H locs lsA hH hS hl)
theorem b_lconst {n : Fin 2} {v : Int64} (hd : decode cc pc = .ok (.lconst n, 1)) (hv : Int64.ofNat (n : Nat) = v) (k : BB G own cc nL ret d Q (pc + 1) ls (.long v :: st) h) : BB G own cc nL ret d Q (pc) ls (st) h :=
  fun p e R s m args below meth c cells slots E H locs lsA hH hS hl => lv_lconst E.1 E.2.1 hd hv (k p e R s m args below meth c cells slots E H locs lsA hH hS hl)
theorem b_iload_n {kk : Fin 4} {x : Int32} (hd : decode cc pc = .ok (.iload_n kk, 1)) (hi : ls[(kk : Nat)]? = some (some (.int x))) (k : BB G own cc nL ret d Q (pc + 1) ls (.int x :: st) h) : BB G own cc nL ret d Q (pc) ls (st) h :=
  fun p e R s m args below meth c cells slots E H locs lsA hH hS hl => lv_iload_n E.1 E.2.1 hd rfl (hl.get hi) (k p e R s m args below meth c cells slots E H locs lsA hH hS hl)
theorem b_iload {i : Nat} {x : Int32} (hd : decode cc pc = .ok (.iload i, 2)) (hi : ls[i]? = some (some (.int x))) (k : BB G own cc nL ret d Q (pc + 2) ls (.int x :: st) h) : BB G own cc nL ret d Q (pc) ls (st) h :=
  fun p e R s m args below meth c cells slots E H locs lsA hH hS hl => lv_iload E.1 E.2.1 hd (hl.get hi) (k p e R s m args below meth c cells slots E H locs lsA hH hS hl)
theorem b_lload_n {kk : Fin 4} {x : Int64} (hd : decode cc pc = .ok (.lload_n kk, 1)) (hi : ls[(kk : Nat)]? = some (some (.long x))) (k : BB G own cc nL ret d Q (pc + 1) ls (.long x :: st) h) : BB G own cc nL ret d Q (pc) ls (st) h :=
  fun p e R s m args below meth c cells slots E H locs lsA hH hS hl => lv_lload_n E.1 E.2.1 hd rfl (hl.get hi) (k p e R s m args below meth c cells slots E H locs lsA hH hS hl)
theorem b_lload {i : Nat} {x : Int64} (hd : decode cc pc = .ok (.lload i, 2)) (hi : ls[i]? = some (some (.long x))) (k : BB G own cc nL ret d Q (pc + 2) ls (.long x :: st) h) : BB G own cc nL ret d Q (pc) ls (st) h :=
  fun p e R s m args below meth c cells slots E H locs lsA hH hS hl => lv_lload E.1 E.2.1 hd (hl.get hi) (k p e R s m args below meth c cells slots E H locs lsA hH hS hl)
theorem b_aload_n {kk : Fin 4} {x : Nat} (hd : decode cc pc = .ok (.aload_n kk, 1)) (hi : ls[(kk : Nat)]? = some (some (.ref x))) (k : BB G own cc nL ret d Q (pc + 1) ls (.ref x :: st) h) : BB G own cc nL ret d Q (pc) ls (st) h :=
  fun p e R s m args below meth c cells slots E H locs lsA hH hS hl => lv_aload_n E.1 E.2.1 hd rfl (hl.get hi) (k p e R s m args below meth c cells slots E H locs lsA hH hS hl)
theorem b_aload {i : Nat} {x : Nat} (hd : decode cc pc = .ok (.aload i, 2)) (hi : ls[i]? = some (some (.ref x))) (k : BB G own cc nL ret d Q (pc + 2) ls (.ref x :: st) h) : BB G own cc nL ret d Q (pc) ls (st) h :=
  fun p e R s m args below meth c cells slots E H locs lsA hH hS hl => lv_aload E.1 E.2.1 hd (hl.get hi) (k p e R s m args below meth c cells slots E H locs lsA hH hS hl)
theorem b_istore_n {kk : Fin 4} {x : Int32} (hd : decode cc pc = .ok (.istore_n kk, 1)) (hn : (kk : Nat) < nL) (ho : okst ls (kk : Nat) = true) (k : BB G own cc nL ret d Q (pc + 1) (ls.set (kk : Nat) (some (.int x))) (st) h) : BB G own cc nL ret d Q (pc) ls (.int x :: st) h :=
  fun p e R s m args below meth c cells slots E H locs lsA hH hS hl => lv_istore_n E.1 E.2.1 hd rfl hl hn rfl (fun lsA' hl' => k p e R s m args below meth c cells slots E H locs lsA' hH hS (LH.st1 ho hl'))
theorem b_istore {i : Nat} {x : Int32} (hd : decode cc pc = .ok (.istore i, 2)) (hn : i < nL) (ho : okst ls i = true) (k : BB G own cc nL ret d Q (pc + 2) (ls.set i (some (.int x))) (st) h) : BB G own cc nL ret d Q (pc) ls (.int x :: st) h :=
  fun p e R s m args below meth c cells slots E H locs lsA hH hS hl => lv_istore E.1 E.2.1 hd hl hn rfl (fun lsA' hl' => k p e R s m args below meth c cells slots E H locs lsA' hH hS (LH.st1 ho hl'))
theorem b_astore_n {kk : Fin 4} {x : Nat} (hd : decode cc pc = .ok (.astore_n kk, 1)) (hn : (kk : Nat) < nL) (ho : okst ls (kk : Nat) = true) (k : BB G own cc nL ret d Q (pc + 1) (ls.set (kk : Nat) (some (.ref x))) (st) h) : BB G own cc nL ret d Q (pc) ls (.ref x :: st) h :=
  fun p e R s m args below meth c cells slots E H locs lsA hH hS hl => lv_astore_n E.1 E.2.1 hd rfl hl hn rfl (fun lsA' hl' => k p e R s m args below meth c cells slots E H locs lsA' hH hS (LH.st1 ho hl'))
theorem b_astore {i : Nat} {x : Nat} (hd : decode cc pc = .ok (.astore i, 2)) (hn : i < nL) (ho : okst ls i = true) (k : BB G own cc nL ret d Q (pc + 2) (ls.set i (some (.ref x))) (st) h) : BB G own cc nL ret d Q (pc) ls (.ref x :: st) h :=
  fun p e R s m args below meth c cells slots E H locs lsA hH hS hl => lv_astore E.1 E.2.1 hd hl hn rfl (fun lsA' hl' => k p e R s m args below meth c cells slots E H locs lsA' hH hS (LH.st1 ho hl'))
theorem b_lstore_n {kk : Fin 4} {x : Int64} (hd : decode cc pc = .ok (.lstore_n kk, 1)) (hn : (kk : Nat) + 1 < nL) (ho : okst ls (kk : Nat) = true) (k : BB G own cc nL ret d Q (pc + 1) ((ls.set (kk : Nat) (some (.long x))).set ((kk : Nat) + 1) none) (st) h) : BB G own cc nL ret d Q (pc) ls (.long x :: st) h :=
  fun p e R s m args below meth c cells slots E H locs lsA hH hS hl => lv_lstore_n E.1 E.2.1 hd rfl hl hn rfl (fun lsA' hl' => k p e R s m args below meth c cells slots E H locs lsA' hH hS (LH.st2 ho hl'))
theorem b_lstore {i : Nat} {x : Int64} (hd : decode cc pc = .ok (.lstore i, 2)) (hn : i + 1 < nL) (ho : okst ls i = true) (k : BB G own cc nL ret d Q (pc + 2) ((ls.set i (some (.long x))).set (i + 1) none) (st) h) : BB G own cc nL ret d Q (pc) ls (.long x :: st) h :=
  fun p e R s m args below meth c cells slots E H locs lsA hH hS hl => lv_lstore E.1 E.2.1 hd hl hn rfl (fun lsA' hl' => k p e R s m args below meth c cells slots E H locs lsA' hH hS (LH.st2 ho hl'))
theorem lvl_at {ls : LT} {i : Nat} {v : Value} (hi : ls[i]? = some (some v)) : ∃ k : Nat, (lvl 0 ls)[k]? = some (i, v) := List.getElem?_of_mem ((lvl_iff ls 0 i v).mpr ⟨i, by omega, hi⟩)
theorem b_iinc {i : Nat} {n : Int} {x v : Int32} (hd : decode cc pc = .ok (.iinc i n, 3)) (hi : ls[i]? = some (some (.int x))) (hv : x + Int32.ofInt n = v) (hn : i < nL) (ho : okst ls i = true) (k : BB G own cc nL ret d Q (pc + 3) (ls.set i (some (.int v))) (st) h) : BB G own cc nL ret d Q (pc) ls (st) h := by
  intro p e R s m args below meth c cells slots E H locs lsA hH hS hl
  obtain ⟨k0, hk0⟩ := lvl_at hi
  exact lv_iinc E.1 E.2.1 hd hl hk0 hv hn rfl (fun lsA' hl' => k p e R s m args below meth c cells slots E H locs lsA' hH hS (LH.st1 ho hl'))
theorem b_iadd {x y : Int32} (hd : decode cc pc = .ok (.iadd, 1)) (k : BB G own cc nL ret d Q (pc + 1) ls (.int (x + y) :: st) h) : BB G own cc nL ret d Q (pc) ls (.int y :: .int x :: st) h :=
  fun p e R s m args below meth c cells slots E H locs lsA hH hS hl => lv_iadd E.1 E.2.1 hd (k p e R s m args below meth c cells slots E H locs lsA hH hS hl)
theorem b_isub {x y : Int32} (hd : decode cc pc = .ok (.isub, 1)) (k : BB G own cc nL ret d Q (pc + 1) ls (.int (x - y) :: st) h) : BB G own cc nL ret d Q (pc) ls (.int y :: .int x :: st) h :=
  fun p e R s m args below meth c cells slots E H locs lsA hH hS hl => lv_isub E.1 E.2.1 hd (k p e R s m args below meth c cells slots E H locs lsA hH hS hl)
theorem b_imul {x y : Int32} (hd : decode cc pc = .ok (.imul, 1)) (k : BB G own cc nL ret d Q (pc + 1) ls (.int (x * y) :: st) h) : BB G own cc nL ret d Q (pc) ls (.int y :: .int x :: st) h :=
  fun p e R s m args below meth c cells slots E H locs lsA hH hS hl => lv_imul E.1 E.2.1 hd (k p e R s m args below meth c cells slots E H locs lsA hH hS hl)
theorem b_iand {x y : Int32} (hd : decode cc pc = .ok (.iand, 1)) (k : BB G own cc nL ret d Q (pc + 1) ls (.int (x &&& y) :: st) h) : BB G own cc nL ret d Q (pc) ls (.int y :: .int x :: st) h :=
  fun p e R s m args below meth c cells slots E H locs lsA hH hS hl => lv_iand E.1 E.2.1 hd (k p e R s m args below meth c cells slots E H locs lsA hH hS hl)
theorem b_ior {x y : Int32} (hd : decode cc pc = .ok (.ior, 1)) (k : BB G own cc nL ret d Q (pc + 1) ls (.int (x ||| y) :: st) h) : BB G own cc nL ret d Q (pc) ls (.int y :: .int x :: st) h :=
  fun p e R s m args below meth c cells slots E H locs lsA hH hS hl => lv_ior E.1 E.2.1 hd (k p e R s m args below meth c cells slots E H locs lsA hH hS hl)
theorem b_ixor {x y : Int32} (hd : decode cc pc = .ok (.ixor, 1)) (k : BB G own cc nL ret d Q (pc + 1) ls (.int (x ^^^ y) :: st) h) : BB G own cc nL ret d Q (pc) ls (.int y :: .int x :: st) h :=
  fun p e R s m args below meth c cells slots E H locs lsA hH hS hl => lv_ixor E.1 E.2.1 hd (k p e R s m args below meth c cells slots E H locs lsA hH hS hl)
theorem b_ishl {x y : Int32} (hd : decode cc pc = .ok (.ishl, 1)) (k : BB G own cc nL ret d Q (pc + 1) ls (.int (x <<< (y &&& 31)) :: st) h) : BB G own cc nL ret d Q (pc) ls (.int y :: .int x :: st) h :=
  fun p e R s m args below meth c cells slots E H locs lsA hH hS hl => lv_ishl E.1 E.2.1 hd (k p e R s m args below meth c cells slots E H locs lsA hH hS hl)
theorem b_ishr {x y : Int32} (hd : decode cc pc = .ok (.ishr, 1)) (k : BB G own cc nL ret d Q (pc + 1) ls (.int (x >>> (y &&& 31)) :: st) h) : BB G own cc nL ret d Q (pc) ls (.int y :: .int x :: st) h :=
  fun p e R s m args below meth c cells slots E H locs lsA hH hS hl => lv_ishr E.1 E.2.1 hd (k p e R s m args below meth c cells slots E H locs lsA hH hS hl)
theorem b_ladd {x y : Int64} (hd : decode cc pc = .ok (.ladd, 1)) (k : BB G own cc nL ret d Q (pc + 1) ls (.long (x + y) :: st) h) : BB G own cc nL ret d Q (pc) ls (.long y :: .long x :: st) h :=
  fun p e R s m args below meth c cells slots E H locs lsA hH hS hl => lv_ladd E.1 E.2.1 hd (k p e R s m args below meth c cells slots E H locs lsA hH hS hl)
theorem b_lsub {x y : Int64} (hd : decode cc pc = .ok (.lsub, 1)) (k : BB G own cc nL ret d Q (pc + 1) ls (.long (x - y) :: st) h) : BB G own cc nL ret d Q (pc) ls (.long y :: .long x :: st) h :=
  fun p e R s m args below meth c cells slots E H locs lsA hH hS hl => lv_lsub E.1 E.2.1 hd (k p e R s m args below meth c cells slots E H locs lsA hH hS hl)
theorem b_lmul {x y : Int64} (hd : decode cc pc = .ok (.lmul, 1)) (k : BB G own cc nL ret d Q (pc + 1) ls (.long (x * y) :: st) h) : BB G own cc nL ret d Q (pc) ls (.long y :: .long x :: st) h :=
  fun p e R s m args below meth c cells slots E H locs lsA hH hS hl => lv_lmul E.1 E.2.1 hd (k p e R s m args below meth c cells slots E H locs lsA hH hS hl)
theorem b_land {x y : Int64} (hd : decode cc pc = .ok (.land, 1)) (k : BB G own cc nL ret d Q (pc + 1) ls (.long (x &&& y) :: st) h) : BB G own cc nL ret d Q (pc) ls (.long y :: .long x :: st) h :=
  fun p e R s m args below meth c cells slots E H locs lsA hH hS hl => lv_land E.1 E.2.1 hd (k p e R s m args below meth c cells slots E H locs lsA hH hS hl)
theorem b_lor {x y : Int64} (hd : decode cc pc = .ok (.lor, 1)) (k : BB G own cc nL ret d Q (pc + 1) ls (.long (x ||| y) :: st) h) : BB G own cc nL ret d Q (pc) ls (.long y :: .long x :: st) h :=
  fun p e R s m args below meth c cells slots E H locs lsA hH hS hl => lv_lor E.1 E.2.1 hd (k p e R s m args below meth c cells slots E H locs lsA hH hS hl)
theorem b_idiv {x y : Int32} (hd : decode cc pc = .ok (.idiv, 1)) (hne : ¬ y = 0) (k : BB G own cc nL ret d Q (pc + 1) ls (.int (x / y) :: st) h) : BB G own cc nL ret d Q (pc) ls (.int y :: .int x :: st) h :=
  fun p e R s m args below meth c cells slots E H locs lsA hH hS hl => lv_idiv E.1 E.2.1 hd hne (k p e R s m args below meth c cells slots E H locs lsA hH hS hl)
theorem b_irem {x y : Int32} (hd : decode cc pc = .ok (.irem, 1)) (hne : ¬ y = 0) (k : BB G own cc nL ret d Q (pc + 1) ls (.int (x - x / y * y) :: st) h) : BB G own cc nL ret d Q (pc) ls (.int y :: .int x :: st) h :=
  fun p e R s m args below meth c cells slots E H locs lsA hH hS hl => lv_irem E.1 E.2.1 hd hne (k p e R s m args below meth c cells slots E H locs lsA hH hS hl)
theorem b_ldiv {x y : Int64} (hd : decode cc pc = .ok (.ldiv, 1)) (hne : ¬ y = 0) (k : BB G own cc nL ret d Q (pc + 1) ls (.long (x / y) :: st) h) : BB G own cc nL ret d Q (pc) ls (.long y :: .long x :: st) h :=
  fun p e R s m args below meth c cells slots E H locs lsA hH hS hl => lv_ldiv E.1 E.2.1 hd hne (k p e R s m args below meth c cells slots E H locs lsA hH hS hl)
theorem b_lrem {x y : Int64} (hd : decode cc pc = .ok (.lrem, 1)) (hne : ¬ y = 0) (k : BB G own cc nL ret d Q (pc + 1) ls (.long (x - x / y * y) :: st) h) : BB G own cc nL ret d Q (pc) ls (.long y :: .long x :: st) h :=
  fun p e R s m args below meth c cells slots E H locs lsA hH hS hl => lv_lrem E.1 E.2.1 hd hne (k p e R s m args below meth c cells slots E H locs lsA hH hS hl)
theorem b_ineg {x : Int32} (hd : decode cc pc = .ok (.ineg, 1)) (k : BB G own cc nL ret d Q (pc + 1) ls (.int (-x) :: st) h) : BB G own cc nL ret d Q (pc) ls (.int x :: st) h :=
  fun p e R s m args below meth c cells slots E H locs lsA hH hS hl => lv_ineg E.1 E.2.1 hd (k p e R s m args below meth c cells slots E H locs lsA hH hS hl)
theorem b_iushr {x y : Int32} (hd : decode cc pc = .ok (.iushr, 1)) (k : BB G own cc nL ret d Q (pc + 1) ls (.int ((x.toUInt32 >>> (y.toUInt32 &&& Int32.toUInt32 31)).toInt32) :: st) h) : BB G own cc nL ret d Q (pc) ls (.int y :: .int x :: st) h :=
  fun p e R s m args below meth c cells slots E H locs lsA hH hS hl => lv_iushr E.1 E.2.1 hd rfl (k p e R s m args below meth c cells slots E H locs lsA hH hS hl)
theorem b_lshl {x : Int64} {y : Int32} (hd : decode cc pc = .ok (.lshl, 1)) (k : BB G own cc nL ret d Q (pc + 1) ls (.long (x <<< (y.toInt64 &&& 63)) :: st) h) : BB G own cc nL ret d Q (pc) ls (.int y :: .long x :: st) h :=
  fun p e R s m args below meth c cells slots E H locs lsA hH hS hl => lv_lshl E.1 E.2.1 hd rfl (k p e R s m args below meth c cells slots E H locs lsA hH hS hl)
theorem b_lshr {x : Int64} {y : Int32} (hd : decode cc pc = .ok (.lshr, 1)) (k : BB G own cc nL ret d Q (pc + 1) ls (.long (x >>> (y.toInt64 &&& 63)) :: st) h) : BB G own cc nL ret d Q (pc) ls (.int y :: .long x :: st) h :=
  fun p e R s m args below meth c cells slots E H locs lsA hH hS hl => lv_lshr E.1 E.2.1 hd rfl (k p e R s m args below meth c cells slots E H locs lsA hH hS hl)
theorem b_i2l {x : Int32} (hd : decode cc pc = .ok (.i2l, 1)) (k : BB G own cc nL ret d Q (pc + 1) ls (.long x.toInt64 :: st) h) : BB G own cc nL ret d Q (pc) ls (.int x :: st) h :=
  fun p e R s m args below meth c cells slots E H locs lsA hH hS hl => lv_i2l E.1 E.2.1 hd rfl (k p e R s m args below meth c cells slots E H locs lsA hH hS hl)
theorem b_l2i {x : Int64} (hd : decode cc pc = .ok (.l2i, 1)) (k : BB G own cc nL ret d Q (pc + 1) ls (.int x.toInt32 :: st) h) : BB G own cc nL ret d Q (pc) ls (.long x :: st) h :=
  fun p e R s m args below meth c cells slots E H locs lsA hH hS hl => lv_l2i E.1 E.2.1 hd rfl (k p e R s m args below meth c cells slots E H locs lsA hH hS hl)
theorem b_i2b {x : Int32} (hd : decode cc pc = .ok (.i2b, 1)) (k : BB G own cc nL ret d Q (pc + 1) ls (.int x.toInt8.toInt32 :: st) h) : BB G own cc nL ret d Q (pc) ls (.int x :: st) h :=
  fun p e R s m args below meth c cells slots E H locs lsA hH hS hl => lv_i2b E.1 E.2.1 hd rfl (k p e R s m args below meth c cells slots E H locs lsA hH hS hl)
theorem b_i2s {x : Int32} (hd : decode cc pc = .ok (.i2s, 1)) (k : BB G own cc nL ret d Q (pc + 1) ls (.int x.toInt16.toInt32 :: st) h) : BB G own cc nL ret d Q (pc) ls (.int x :: st) h :=
  fun p e R s m args below meth c cells slots E H locs lsA hH hS hl => lv_i2s E.1 E.2.1 hd rfl (k p e R s m args below meth c cells slots E H locs lsA hH hS hl)
theorem b_i2c {x : Int32} (hd : decode cc pc = .ok (.i2c, 1)) (k : BB G own cc nL ret d Q (pc + 1) ls (.int (x.toUInt32 % 65536).toInt32 :: st) h) : BB G own cc nL ret d Q (pc) ls (.int x :: st) h :=
  fun p e R s m args below meth c cells slots E H locs lsA hH hS hl => lv_i2c E.1 E.2.1 hd rfl (k p e R s m args below meth c cells slots E H locs lsA hH hS hl)
theorem b_lcmp {x y : Int64} (hd : decode cc pc = .ok (.lcmp, 1)) (k : BB G own cc nL ret d Q (pc + 1) ls (.int (lg_cmp x y) :: st) h) : BB G own cc nL ret d Q (pc) ls (.long y :: .long x :: st) h :=
  fun p e R s m args below meth c cells slots E H locs lsA hH hS hl => W.lcmp E.1 E.2.1 hd (k p e R s m args below meth c cells slots E H locs lsA hH hS hl)
theorem b_dup {v : Value} (hd : decode cc pc = .ok (.dup, 1)) (hv : v.category = 1) (k : BB G own cc nL ret d Q (pc + 1) ls (v :: v :: st) h) : BB G own cc nL ret d Q (pc) ls (v :: st) h :=
  fun p e R s m args below meth c cells slots E H locs lsA hH hS hl => lv_dup E.1 E.2.1 hd hv (k p e R s m args below meth c cells slots E H locs lsA hH hS hl)
theorem b_pop {v : Value} (hd : decode cc pc = .ok (.pop, 1)) (hv : v.category = 1) (k : BB G own cc nL ret d Q (pc + 1) ls (st) h) : BB G own cc nL ret d Q (pc) ls (v :: st) h :=
  fun p e R s m args below meth c cells slots E H locs lsA hH hS hl => lv_pop E.1 E.2.1 hd hv (k p e R s m args below meth c cells slots E H locs lsA hH hS hl)
theorem b_dup2 {v w : Value} (hd : decode cc pc = .ok (.dup2, 1)) (hv : v.category = 1) (hw : w.category = 1) (k : BB G own cc nL ret d Q (pc + 1) ls (v :: w :: v :: w :: st) h) : BB G own cc nL ret d Q (pc) ls (v :: w :: st) h :=
  fun p e R s m args below meth c cells slots E H locs lsA hH hS hl => lv_dup2_11 E.1 E.2.1 hd hv hw (k p e R s m args below meth c cells slots E H locs lsA hH hS hl)
theorem b_dup2l {v : Value} (hd : decode cc pc = .ok (.dup2, 1)) (hv : v.category = 2) (k : BB G own cc nL ret d Q (pc + 1) ls (v :: v :: st) h) : BB G own cc nL ret d Q (pc) ls (v :: st) h :=
  fun p e R s m args below meth c cells slots E H locs lsA hH hS hl => lv_dup2_2 E.1 E.2.1 hd hv (k p e R s m args below meth c cells slots E H locs lsA hH hS hl)
theorem b_if_eq {x : Int32} {off : Int} (tgt : Nat) (hd : decode cc pc = .ok (.ifCond .eq off, 3)) (ht : (pc : Int) + off = (tgt : Int)) (kt : x = 0 → BB G own cc nL ret d Q (tgt) ls (st) h) (kf : ¬ x = 0 → BB G own cc nL ret d Q (pc + 3) ls (st) h) : BB G own cc nL ret d Q (pc) ls (.int x :: st) h :=
  fun p e R s m args below meth c cells slots E H locs lsA hH hS hl => lv_if_eq E.1 E.2.1 hd ht (fun h1 => kt h1 p e R s m args below meth c cells slots E H locs lsA hH hS hl) (fun h1 => kf h1 p e R s m args below meth c cells slots E H locs lsA hH hS hl)
theorem b_if_eq_t {x : Int32} {off : Int} (tgt : Nat) (hd : decode cc pc = .ok (.ifCond .eq off, 3)) (ht : (pc : Int) + off = (tgt : Int)) (hc : x = 0) (kt : BB G own cc nL ret d Q (tgt) ls (st) h) : BB G own cc nL ret d Q (pc) ls (.int x :: st) h :=
  b_if_eq tgt hd ht (fun _ => kt) (fun h1 => absurd hc (h1))
theorem b_if_eq_f {x : Int32} {off : Int} (tgt : Nat) (hd : decode cc pc = .ok (.ifCond .eq off, 3)) (ht : (pc : Int) + off = (tgt : Int)) (hc : ¬ x = 0) (kf : BB G own cc nL ret d Q (pc + 3) ls (st) h) : BB G own cc nL ret d Q (pc) ls (.int x :: st) h :=
  b_if_eq tgt hd ht (fun h1 => absurd h1 hc) (fun _ => kf)
theorem b_icmp_eq {x y : Int32} {off : Int} (tgt : Nat) (hd : decode cc pc = .ok (.if_icmp .eq off, 3)) (ht : (pc : Int) + off = (tgt : Int)) (kt : x = y → BB G own cc nL ret d Q (tgt) ls (st) h) (kf : ¬ x = y → BB G own cc nL ret d Q (pc + 3) ls (st) h) : BB G own cc nL ret d Q (pc) ls (.int y :: .int x :: st) h :=
  fun p e R s m args below meth c cells slots E H locs lsA hH hS hl => lv_icmp_eq E.1 E.2.1 hd ht (fun h1 => kt h1 p e R s m args below meth c cells slots E H locs lsA hH hS hl) (fun h1 => kf h1 p e R s m args below meth c cells slots E H locs lsA hH hS hl)
theorem b_icmp_eq_t {x y : Int32} {off : Int} (tgt : Nat) (hd : decode cc pc = .ok (.if_icmp .eq off, 3)) (ht : (pc : Int) + off = (tgt : Int)) (hc : x = y) (kt : BB G own cc nL ret d Q (tgt) ls (st) h) : BB G own cc nL ret d Q (pc) ls (.int y :: .int x :: st) h :=
  b_icmp_eq tgt hd ht (fun _ => kt) (fun h1 => absurd hc (h1))
theorem b_icmp_eq_f {x y : Int32} {off : Int} (tgt : Nat) (hd : decode cc pc = .ok (.if_icmp .eq off, 3)) (ht : (pc : Int) + off = (tgt : Int)) (hc : ¬ x = y) (kf : BB G own cc nL ret d Q (pc + 3) ls (st) h) : BB G own cc nL ret d Q (pc) ls (.int y :: .int x :: st) h :=
  b_icmp_eq tgt hd ht (fun h1 => absurd h1 hc) (fun _ => kf)
theorem b_if_ne {x : Int32} {off : Int} (tgt : Nat) (hd : decode cc pc = .ok (.ifCond .ne off, 3)) (ht : (pc : Int) + off = (tgt : Int)) (kt : ¬ x = 0 → BB G own cc nL ret d Q (tgt) ls (st) h) (kf : x = 0 → BB G own cc nL ret d Q (pc + 3) ls (st) h) : BB G own cc nL ret d Q (pc) ls (.int x :: st) h :=
  fun p e R s m args below meth c cells slots E H locs lsA hH hS hl => lv_if_ne E.1 E.2.1 hd ht (fun h1 => kt h1 p e R s m args below meth c cells slots E H locs lsA hH hS hl) (fun h1 => kf h1 p e R s m args below meth c cells slots E H locs lsA hH hS hl)
theorem b_if_ne_t {x : Int32} {off : Int} (tgt : Nat) (hd : decode cc pc = .ok (.ifCond .ne off, 3)) (ht : (pc : Int) + off = (tgt : Int)) (hc : ¬ x = 0) (kt : BB G own cc nL ret d Q (tgt) ls (st) h) : BB G own cc nL ret d Q (pc) ls (.int x :: st) h :=
  b_if_ne tgt hd ht (fun _ => kt) (fun h1 => absurd hc (fun z => z h1))
theorem b_if_ne_f {x : Int32} {off : Int} (tgt : Nat) (hd : decode cc pc = .ok (.ifCond .ne off, 3)) (ht : (pc : Int) + off = (tgt : Int)) (hc : x = 0) (kf : BB G own cc nL ret d Q (pc + 3) ls (st) h) : BB G own cc nL ret d Q (pc) ls (.int x :: st) h :=
  b_if_ne tgt hd ht (fun h1 => absurd hc h1) (fun _ => kf)
theorem b_icmp_ne {x y : Int32} {off : Int} (tgt : Nat) (hd : decode cc pc = .ok (.if_icmp .ne off, 3)) (ht : (pc : Int) + off = (tgt : Int)) (kt : ¬ x = y → BB G own cc nL ret d Q (tgt) ls (st) h) (kf : x = y → BB G own cc nL ret d Q (pc + 3) ls (st) h) : BB G own cc nL ret d Q (pc) ls (.int y :: .int x :: st) h :=
  fun p e R s m args below meth c cells slots E H locs lsA hH hS hl => lv_icmp_ne E.1 E.2.1 hd ht (fun h1 => kt h1 p e R s m args below meth c cells slots E H locs lsA hH hS hl) (fun h1 => kf h1 p e R s m args below meth c cells slots E H locs lsA hH hS hl)
theorem b_icmp_ne_t {x y : Int32} {off : Int} (tgt : Nat) (hd : decode cc pc = .ok (.if_icmp .ne off, 3)) (ht : (pc : Int) + off = (tgt : Int)) (hc : ¬ x = y) (kt : BB G own cc nL ret d Q (tgt) ls (st) h) : BB G own cc nL ret d Q (pc) ls (.int y :: .int x :: st) h :=
  b_icmp_ne tgt hd ht (fun _ => kt) (fun h1 => absurd hc (fun z => z h1))
theorem b_icmp_ne_f {x y : Int32} {off : Int} (tgt : Nat) (hd : decode cc pc = .ok (.if_icmp .ne off, 3)) (ht : (pc : Int) + off = (tgt : Int)) (hc : x = y) (kf : BB G own cc nL ret d Q (pc + 3) ls (st) h) : BB G own cc nL ret d Q (pc) ls (.int y :: .int x :: st) h :=
  b_icmp_ne tgt hd ht (fun h1 => absurd hc h1) (fun _ => kf)
theorem b_if_lt {x : Int32} {off : Int} (tgt : Nat) (hd : decode cc pc = .ok (.ifCond .lt off, 3)) (ht : (pc : Int) + off = (tgt : Int)) (kt : x < 0 → BB G own cc nL ret d Q (tgt) ls (st) h) (kf : ¬ x < 0 → BB G own cc nL ret d Q (pc + 3) ls (st) h) : BB G own cc nL ret d Q (pc) ls (.int x :: st) h :=
  fun p e R s m args below meth c cells slots E H locs lsA hH hS hl => lv_if_lt E.1 E.2.1 hd ht (fun h1 => kt h1 p e R s m args below meth c cells slots E H locs lsA hH hS hl) (fun h1 => kf h1 p e R s m args below meth c cells slots E H locs lsA hH hS hl)
theorem b_if_lt_t {x : Int32} {off : Int} (tgt : Nat) (hd : decode cc pc = .ok (.ifCond .lt off, 3)) (ht : (pc : Int) + off = (tgt : Int)) (hc : x < 0) (kt : BB G own cc nL ret d Q (tgt) ls (st) h) : BB G own cc nL ret d Q (pc) ls (.int x :: st) h :=
  b_if_lt tgt hd ht (fun _ => kt) (fun h1 => absurd hc (h1))
theorem b_if_lt_f {x : Int32} {off : Int} (tgt : Nat) (hd : decode cc pc = .ok (.ifCond .lt off, 3)) (ht : (pc : Int) + off = (tgt : Int)) (hc : ¬ x < 0) (kf : BB G own cc nL ret d Q (pc + 3) ls (st) h) : BB G own cc nL ret d Q (pc) ls (.int x :: st) h :=
  b_if_lt tgt hd ht (fun h1 => absurd h1 hc) (fun _ => kf)
theorem b_icmp_lt {x y : Int32} {off : Int} (tgt : Nat) (hd : decode cc pc = .ok (.if_icmp .lt off, 3)) (ht : (pc : Int) + off = (tgt : Int)) (kt : x < y → BB G own cc nL ret d Q (tgt) ls (st) h) (kf : ¬ x < y → BB G own cc nL ret d Q (pc + 3) ls (st) h) : BB G own cc nL ret d Q (pc) ls (.int y :: .int x :: st) h :=
  fun p e R s m args below meth c cells slots E H locs lsA hH hS hl => lv_icmp_lt E.1 E.2.1 hd ht (fun h1 => kt h1 p e R s m args below meth c cells slots E H locs lsA hH hS hl) (fun h1 => kf h1 p e R s m args below meth c cells slots E H locs lsA hH hS hl)
theorem b_icmp_lt_t {x y : Int32} {off : Int} (tgt : Nat) (hd : decode cc pc = .ok (.if_icmp .lt off, 3)) (ht : (pc : Int) + off = (tgt : Int)) (hc : x < y) (kt : BB G own cc nL ret d Q (tgt) ls (st) h) : BB G own cc nL ret d Q (pc) ls (.int y :: .int x :: st) h :=
  b_icmp_lt tgt hd ht (fun _ => kt) (fun h1 => absurd hc (h1))
theorem b_icmp_lt_f {x y : Int32} {off : Int} (tgt : Nat) (hd : decode cc pc = .ok (.if_icmp .lt off, 3)) (ht : (pc : Int) + off = (tgt : Int)) (hc : ¬ x < y) (kf : BB G own cc nL ret d Q (pc + 3) ls (st) h) : BB G own cc nL ret d Q (pc) ls (.int y :: .int x :: st) h :=
  b_icmp_lt tgt hd ht (fun h1 => absurd h1 hc) (fun _ => kf)
theorem b_if_ge {x : Int32} {off : Int} (tgt : Nat) (hd : decode cc pc = .ok (.ifCond .ge off, 3)) (ht : (pc : Int) + off = (tgt : Int)) (kt : 0 ≤ x → BB G own cc nL ret d Q (tgt) ls (st) h) (kf : ¬ 0 ≤ x → BB G own cc nL ret d Q (pc + 3) ls (st) h) : BB G own cc nL ret d Q (pc) ls (.int x :: st) h :=
  fun p e R s m args below meth c cells slots E H locs lsA hH hS hl => lv_if_ge E.1 E.2.1 hd ht (fun h1 => kt h1 p e R s m args below meth c cells slots E H locs lsA hH hS hl) (fun h1 => kf h1 p e R s m args below meth c cells slots E H locs lsA hH hS hl)
theorem b_if_ge_t {x : Int32} {off : Int} (tgt : Nat) (hd : decode cc pc = .ok (.ifCond .ge off, 3)) (ht : (pc : Int) + off = (tgt : Int)) (hc : 0 ≤ x) (kt : BB G own cc nL ret d Q (tgt) ls (st) h) : BB G own cc nL ret d Q (pc) ls (.int x :: st) h :=
  b_if_ge tgt hd ht (fun _ => kt) (fun h1 => absurd hc (h1))
theorem b_if_ge_f {x : Int32} {off : Int} (tgt : Nat) (hd : decode cc pc = .ok (.ifCond .ge off, 3)) (ht : (pc : Int) + off = (tgt : Int)) (hc : ¬ 0 ≤ x) (kf : BB G own cc nL ret d Q (pc + 3) ls (st) h) : BB G own cc nL ret d Q (pc) ls (.int x :: st) h :=
  b_if_ge tgt hd ht (fun h1 => absurd h1 hc) (fun _ => kf)
theorem b_icmp_ge {x y : Int32} {off : Int} (tgt : Nat) (hd : decode cc pc = .ok (.if_icmp .ge off, 3)) (ht : (pc : Int) + off = (tgt : Int)) (kt : y ≤ x → BB G own cc nL ret d Q (tgt) ls (st) h) (kf : ¬ y ≤ x → BB G own cc nL ret d Q (pc + 3) ls (st) h) : BB G own cc nL ret d Q (pc) ls (.int y :: .int x :: st) h :=
  fun p e R s m args below meth c cells slots E H locs lsA hH hS hl => lv_icmp_ge E.1 E.2.1 hd ht (fun h1 => kt h1 p e R s m args below meth c cells slots E H locs lsA hH hS hl) (fun h1 => kf h1 p e R s m args below meth c cells slots E H locs lsA hH hS hl)
theorem b_icmp_ge_t {x y : Int32} {off : Int} (tgt : Nat) (hd : decode cc pc = .ok (.if_icmp .ge off, 3)) (ht : (pc : Int) + off = (tgt : Int)) (hc : y ≤ x) (kt : BB G own cc nL ret d Q (tgt) ls (st) h) : BB G own cc nL ret d Q (pc) ls (.int y :: .int x :: st) h :=
  b_icmp_ge tgt hd ht (fun _ => kt) (fun h1 => absurd hc (h1))
theorem b_icmp_ge_f {x y : Int32} {off : Int} (tgt : Nat) (hd : decode cc pc = .ok (.if_icmp .ge off, 3)) (ht : (pc : Int) + off = (tgt : Int)) (hc : ¬ y ≤ x) (kf : BB G own cc nL ret d Q (pc + 3) ls (st) h) : BB G own cc nL ret d Q (pc) ls (.int y :: .int x :: st) h :=
  b_icmp_ge tgt hd ht (fun h1 => absurd h1 hc) (fun _ => kf)
theorem b_if_gt {x : Int32} {off : Int} (tgt : Nat) (hd : decode cc pc = .ok (.ifCond .gt off, 3)) (ht : (pc : Int) + off = (tgt : Int)) (kt : 0 < x → BB G own cc nL ret d Q (tgt) ls (st) h) (kf : ¬ 0 < x → BB G own cc nL ret d Q (pc + 3) ls (st) h) : BB G own cc nL ret d Q (pc) ls (.int x :: st) h :=
  fun p e R s m args below meth c cells slots E H locs lsA hH hS hl => lv_if_gt E.1 E.2.1 hd ht (fun h1 => kt h1 p e R s m args below meth c cells slots E H locs lsA hH hS hl) (fun h1 => kf h1 p e R s m args below meth c cells slots E H locs lsA hH hS hl)
theorem b_if_gt_t {x : Int32} {off : Int} (tgt : Nat) (hd : decode cc pc = .ok (.ifCond .gt off, 3)) (ht : (pc : Int) + off = (tgt : Int)) (hc : 0 < x) (kt : BB G own cc nL ret d Q (tgt) ls (st) h) : BB G own cc nL ret d Q (pc) ls (.int x :: st) h :=
  b_if_gt tgt hd ht (fun _ => kt) (fun h1 => absurd hc (h1))
theorem b_if_gt_f {x : Int32} {off : Int} (tgt : Nat) (hd : decode cc pc = .ok (.ifCond .gt off, 3)) (ht : (pc : Int) + off = (tgt : Int)) (hc : ¬ 0 < x) (kf : BB G own cc nL ret d Q (pc + 3) ls (st) h) : BB G own cc nL ret d Q (pc) ls (.int x :: st) h :=
  b_if_gt tgt hd ht (fun h1 => absurd h1 hc) (fun _ => kf)
theorem b_icmp_gt {x y : Int32} {off : Int} (tgt : Nat) (hd : decode cc pc = .ok (.if_icmp .gt off, 3)) (ht : (pc : Int) + off = (tgt : Int)) (kt : y < x → BB G own cc nL ret d Q (tgt) ls (st) h) (kf : ¬ y < x → BB G own cc nL ret d Q (pc + 3) ls (st) h) : BB G own cc nL ret d Q (pc) ls (.int y :: .int x :: st) h :=
  fun p e R s m args below meth c cells slots E H locs lsA hH hS hl => lv_icmp_gt E.1 E.2.1 hd ht (fun h1 => kt h1 p e R s m args below meth c cells slots E H locs lsA hH hS hl) (fun h1 => kf h1 p e R s m args below meth c cells slots E H locs lsA hH hS hl)
theorem b_icmp_gt_t {x y : Int32} {off : Int} (tgt : Nat) (hd : decode cc pc = .ok (.if_icmp .gt off, 3)) (ht : (pc : Int) + off = (tgt : Int)) (hc : y < x) (kt : BB G own cc nL ret d Q (tgt) ls (st) h) : BB G own cc nL ret d Q (pc) ls (.int y :: .int x :: st) h :=
  b_icmp_gt tgt hd ht (fun _ => kt) (fun h1 => absurd hc (h1))
theorem b_icmp_gt_f {x y : Int32} {off : Int} (tgt : Nat) (hd : decode cc pc = .ok (.if_icmp .gt off, 3)) (ht : (pc : Int) + off = (tgt : Int)) (hc : ¬ y < x) (kf : BB G own cc nL ret d Q (pc + 3) ls (st) h) : BB G own cc nL ret d Q (pc) ls (.int y :: .int x :: st) h :=
  b_icmp_gt tgt hd ht (fun h1 => absurd h1 hc) (fun _ => kf)
theorem b_if_le {x : Int32} {off : Int} (tgt : Nat) (hd : decode cc pc = .ok (.ifCond .le off, 3)) (ht : (pc : Int) + off = (tgt : Int)) (kt : x ≤ 0 → BB G own cc nL ret d Q (tgt) ls (st) h) (kf : ¬ x ≤ 0 → BB G own cc nL ret d Q (pc + 3) ls (st) h) : BB G own cc nL ret d Q (pc) ls (.int x :: st) h :=
  fun p e R s m args below meth c cells slots E H locs lsA hH hS hl => lv_if_le E.1 E.2.1 hd ht (fun h1 => kt h1 p e R s m args below meth c cells slots E H locs lsA hH hS hl) (fun h1 => kf h1 p e R s m args below meth c cells slots E H locs lsA hH hS hl)
theorem b_if_le_t {x : Int32} {off : Int} (tgt : Nat) (hd : decode cc pc = .ok (.ifCond .le off, 3)) (ht : (pc : Int) + off = (tgt : Int)) (hc : x ≤ 0) (kt : BB G own cc nL ret d Q (tgt) ls (st) h) : BB G own cc nL ret d Q (pc) ls (.int x :: st) h :=
  b_if_le tgt hd ht (fun _ => kt) (fun h1 => absurd hc (h1))
theorem b_if_le_f {x : Int32} {off : Int} (tgt : Nat) (hd : decode cc pc = .ok (.ifCond .le off, 3)) (ht : (pc : Int) + off = (tgt : Int)) (hc : ¬ x ≤ 0) (kf : BB G own cc nL ret d Q (pc + 3) ls (st) h) : BB G own cc nL ret d Q (pc) ls (.int x :: st) h :=
  b_if_le tgt hd ht (fun h1 => absurd h1 hc) (fun _ => kf)
theorem b_icmp_le {x y : Int32} {off : Int} (tgt : Nat) (hd : decode cc pc = .ok (.if_icmp .le off, 3)) (ht : (pc : Int) + off = (tgt : Int)) (kt : x ≤ y → BB G own cc nL ret d Q (tgt) ls (st) h) (kf : ¬ x ≤ y → BB G own cc nL ret d Q (pc + 3) ls (st) h) : BB G own cc nL ret d Q (pc) ls (.int y :: .int x :: st) h :=
  fun p e R s m args below meth c cells slots E H locs lsA hH hS hl => lv_icmp_le E.1 E.2.1 hd ht (fun h1 => kt h1 p e R s m args below meth c cells slots E H locs lsA hH hS hl) (fun h1 => kf h1 p e R s m args below meth c cells slots E H locs lsA hH hS hl)
theorem b_icmp_le_t {x y : Int32} {off : Int} (tgt : Nat) (hd : decode cc pc = .ok (.if_icmp .le off, 3)) (ht : (pc : Int) + off = (tgt : Int)) (hc : x ≤ y) (kt : BB G own cc nL ret d Q (tgt) ls (st) h) : BB G own cc nL ret d Q (pc) ls (.int y :: .int x :: st) h :=
  b_icmp_le tgt hd ht (fun _ => kt) (fun h1 => absurd hc (h1))
theorem b_icmp_le_f {x y : Int32} {off : Int} (tgt : Nat) (hd : decode cc pc = .ok (.if_icmp .le off, 3)) (ht : (pc : Int) + off = (tgt : Int)) (hc : ¬ x ≤ y) (kf : BB G own cc nL ret d Q (pc + 3) ls (st) h) : BB G own cc nL ret d Q (pc) ls (.int y :: .int x :: st) h :=
  b_icmp_le tgt hd ht (fun h1 => absurd h1 hc) (fun _ => kf)
theorem b_goto {off : Int} (tgt : Nat) (hd : decode cc pc = .ok (.goto off, 3)) (ht : (pc : Int) + off = (tgt : Int)) (k : BB G own cc nL ret d Q (tgt) ls (st) h) : BB G own cc nL ret d Q (pc) ls (st) h :=
  fun p e R s m args below meth c cells slots E H locs lsA hH hS hl => lv_goto E.1 E.2.1 hd ht (k p e R s m args below meth c cells slots E H locs lsA hH hS hl)
theorem b_tableIn {dflt lo hi : Int} {offs : Array Int} {len : Nat} {x : Int32} {off : Int} (tgt : Nat) (hd : decode cc pc = .ok (.tableswitch dflt lo hi offs, len)) (h1 : ¬ x.toInt < lo) (h2 : ¬ hi < x.toInt) (ho : offs[(x.toInt - lo).toNat]? = some off) (ht : (pc : Int) + off = (tgt : Int)) (k : BB G own cc nL ret d Q (tgt) ls (st) h) : BB G own cc nL ret d Q (pc) ls (.int x :: st) h :=
  fun p e R s m args below meth c cells slots E H locs lsA hH hS hl => lv_tableIn E.1 E.2.1 hd h1 h2 ho ht (k p e R s m args below meth c cells slots E H locs lsA hH hS hl)
theorem b_tableOut {dflt lo hi : Int} {offs : Array Int} {len : Nat} {x : Int32} (tgt : Nat) (hd : decode cc pc = .ok (.tableswitch dflt lo hi offs, len)) (h1 : x.toInt < lo ∨ hi < x.toInt) (ht : (pc : Int) + dflt = (tgt : Int)) (k : BB G own cc nL ret d Q (tgt) ls (st) h) : BB G own cc nL ret d Q (pc) ls (.int x :: st) h :=
  fun p e R s m args below meth c cells slots E H locs lsA hH hS hl => lv_tableOut E.1 E.2.1 hd h1 ht (k p e R s m args below meth c cells slots E H locs lsA hH hS hl)
theorem b_lookup {dflt : Int} {ps : Array (Int × Int)} {len : Nat} {x : Int32} {off : Int} (tgt : Nat) (hd : decode cc pc = .ok (.lookupswitch dflt ps, len)) (hp : (ps.toList.zip (ps.toList.drop 1)).all (fun (a, next) => a.1 < next.1) = true) (ho : Op.lookupswitch.offset ps.toList dflt x.toInt = off) (ht : (pc : Int) + off = (tgt : Int)) (k : BB G own cc nL ret d Q (tgt) ls (st) h) : BB G own cc nL ret d Q (pc) ls (.int x :: st) h :=
  fun p e R s m args below meth c cells slots E H locs lsA hH hS hl => lv_lookup E.1 E.2.1 hd hp ho ht (k p e R s m args below meth c cells slots E H locs lsA hH hS hl)
theorem b_ldc {i : Nat} {v : Int32} (hd : decode cc pc = .ok (.ldc i, 2)) (hw : Cond.constant own i v ∈ TB) (k : BB G own cc nL ret d Q (pc + 2) ls (.int v :: st) h) : BB G own cc nL ret d Q (pc) ls (st) h :=
  fun p e R s m args below meth c cells slots E H locs lsA hH hS hl => lv_ldc E.1 E.2.1 E.2.2.2.2.2.1 (E.2.2.2.2.2.2.1 _ hw) hd (k p e R s m args below meth c cells slots E H locs lsA hH hS hl)
theorem b_ldc2 {i : Nat} {v : Int64} (hd : decode cc pc = .ok (.ldc2_w i, 3)) (hw : Cond.constantLong own i v ∈ TB) (k : BB G own cc nL ret d Q (pc + 3) ls (.long v :: st) h) : BB G own cc nL ret d Q (pc) ls (st) h :=
  fun p e R s m args below meth c cells slots E H locs lsA hH hS hl => W.ldc2 E.1 E.2.1 E.2.2.2.2.2.1 (E.2.2.2.2.2.2.1 _ hw) (g := F0 m pc lsA st) rfl hd (k p e R s m args below meth c cells slots E H locs lsA hH hS hl)
theorem b_ldcS {i q : Nat} {tx : String} (hd : decode cc pc = .ok (.ldc i, 2)) (hq : strs[q]? = some (own, i, tx)) (k : BB G own cc nL ret d Q (pc + 2) ls (.ref (G.adK q) :: st) h) : BB G own cc nL ret d Q (pc) ls (st) h :=
  fun p e R s m args below meth c cells slots E H locs lsA hH hS hl => va_ldcS E.1 E.2.1 E.2.2.2.2.2.1 (E.2.2.2.2.2.2.2.1.2.2.2.2.2.2.1 q _ hq) hd (k p e R s m args below meth c cells slots E H locs lsA hH hS hl)
theorem b_iret {Post : Option Value → HT → Prop} {x : Int32} (hd : decode cc pc = .ok (.ireturn, 1)) (hp : Post (some (.int x)) h) : BB G own cc nL (some .int) d (QM G Post) pc ls [.int x] h :=
  fun p e R s m args below meth c cells slots E H locs lsA hH hS hl => W.iret E.1 E.2.1 E.2.2.2.1 (fun t ht hW => ⟨⟨_, _, rfl, hp, by rw [ht]; exact hH⟩, hS.F ht⟩) hS.2.2 hd (hlocks := E.2.2.2.2.1)
theorem b_lret {Post : Option Value → HT → Prop} {x : Int64} (hd : decode cc pc = .ok (.lreturn, 1)) (hp : Post (some (.long x)) h) : BB G own cc nL (some .long) d (QM G Post) pc ls [.long x] h :=
  fun p e R s m args below meth c cells slots E H locs lsA hH hS hl => W.lret E.1 E.2.1 E.2.2.2.1 (fun t ht hW => ⟨⟨_, _, rfl, hp, by rw [ht]; exact hH⟩, hS.F ht⟩) hS.2.2 hd (hlocks := E.2.2.2.2.1)
theorem b_zret {Post : Option Value → HT → Prop} {ty : FieldType} {x : Int32} (hd : decode cc pc = .ok (.ireturn, 1)) (hn : narrow ty (.int x) = .int x) (hp : Post (some (.int x)) h) : BB G own cc nL (some ty) d (QM G Post) pc ls [.int x] h :=
  fun p e R s m args below meth c cells slots E H locs lsA hH hS hl => W.zret E.1 E.2.1 E.2.2.2.1 hn (fun t ht hW => ⟨⟨_, _, rfl, hp, by rw [ht]; exact hH⟩, hS.F ht⟩) hS.2.2 hd (hlocks := E.2.2.2.2.1)
theorem b_vret {Post : Option Value → HT → Prop} (hd : decode cc pc = .ok (.return_, 1)) (hp : Post none h) : BB G own cc nL none d (QM G Post) pc ls [] h :=
  fun p e R s m args below meth c cells slots E H locs lsA hH hS hl => W.vret E.1 E.2.1 E.2.2.2.1 (fun t ht hW => ⟨⟨_, _, rfl, hp, by rw [ht]; exact hH⟩, hS.F ht⟩) hS.2.2 hd (hlocks := E.2.2.2.2.1)
/-- a field that a class's code names: number j of class number ci -/
def GF (own : String) (idx ci j : Nat) : Prop := ∃ (C : String) (T : u_T) (N : Nat), vwCl[ci]? = some (C, T, N) ∧ j < N ∧ (∀ w ∈ u_ws C T N, w ∈ TB) ∧ Cond.fieldLink own idx (T j).1 (T j).2.1 (T j).2.2.1 ∈ TB
def GFw (own : String) (idx ci j : Nat) : Prop := ∃ (C : String) (T : u_T) (N : Nat) (ty0 : Nat → FieldType), vwCl[ci]? = some (C, T, N) ∧ j < N ∧ (∀ w ∈ u_ws C T N, w ∈ TB) ∧ Cond.fieldLink own idx (T j).1 (T j).2.1 (T j).2.2.1 ∈ TB ∧ (∀ k, k < N → parseFieldDescriptor (T k).2.2.1 = some (ty0 k)) ∧ (∀ a, a < N → ∀ b, b < N → a ≠ b → (T a).2.1 ≠ (T b).2.1) ∧ (T j).2.2.2 = false ∧ (ty0 j = .int ∨ ty0 j = .boolean)
theorem b_getf {idx ci j a : Nat} {fs : List Value} {v : Value} (hd : decode cc pc = .ok (.getfield idx, 3)) (hg : GF own idx ci j) (ha : a < G.nC) (he : h a = .inr (ci, fs)) (hv : fs[j]? = some v) (k : BB G own cc nL ret d Q (pc + 3) ls (v :: st) h) : BB G own cc nL ret d Q (pc) ls (.ref (G.b0 + a) :: st) h := by
  obtain ⟨C, T, N, hc, hj, hin, hlk⟩ := hg
  exact fun p e R s m args below meth c cells slots E H locs lsA hH hS hl => va_get E.1 E.2.1 E.2.2.2.2.2.2.1 hin E.2.2.2.2.2.1 E.2.2.2.2.2.2.2.1.1 hH.2.2 a (by rw [wl_at ha, he]) hc j hj (E.2.2.2.2.2.2.1 _ hlk) (fun _ h9 => h9) hv hd (k p e R s m args below meth c cells slots E H locs lsA hH hS hl)
theorem b_putf {idx ci j a : Nat} {fs : List Value} {x : Int32} (hd : decode cc pc = .ok (.putfield idx, 3)) (hg : GFw own idx ci j) (ha : a < G.nC) (he : h a = .inr (ci, fs)) (hl : j < fs.length) (hx : x = 0 ∨ x = 1 ∨ ∃ C T N, vwCl[ci]? = some (C, T, N) ∧ parseFieldDescriptor (T j).2.2.1 = some .int) (k : BB G own cc nL ret d Q (pc + 3) ls (st) (va_up h a (.inr (ci, fs.set j (.int x))))) : BB G own cc nL ret d Q (pc) ls (.int x :: .ref (G.b0 + a) :: st) h := by
  obtain ⟨C, T, N, ty0, hc, hj, hin, hlk, hty, hnm, hfin, hint⟩ := hg
  have hd2 : parseFieldDescriptor (T j).2.2.1 = some (ty0 j) := hty j hj
  have hnf : narrow (ty0 j) (.int x) = .int x ∧ fits (ty0 j) (.int x) = true := by
    rcases hint with e | e
    · rw [e]; exact ⟨rfl, rfl⟩
    · rw [e]
      rcases hx with rfl | rfl | ⟨C', T', N', hc', hp'⟩
      · exact ⟨by decide, by decide⟩
      · exact ⟨by decide, by decide⟩
      · cases hc.symm.trans hc'
        rw [hd2, e] at hp'
        cases hp'
  exact fun p e R s m args below meth c cells slots E H locs lsA hH hS hl' => va_put (H0 := s.heap) E.1 E.2.1 E.2.2.2.2.2.2.1 hin ty0 hty hnm E.2.2.2.2.2.1 E.2.2.2.2.2.2.2.1.1 hH.2.2 wl_D hS a (by rw [wl_at ha, he]) hc j hj (E.2.2.2.2.2.2.1 _ hlk) (fun _ h9 => h9) hfin hd2 hnf.1 hnf.2 hl hd (fun H1 locs1 hP1 hD1 hS1 => k p e R s m args below meth c cells slots E H1 locs1 lsA (mkHP E.2.2.2.2.2.2.2.2.1 hS1 (by rw [wl_set ha] at hP1; exact hP1)) hS1 hl')
theorem b_iald {a n j : Nat} {f : Nat → Int32} {i : Int32} (hd : decode cc pc = .ok (.iaload, 1)) (ha : a < G.nC) (he : h a = .inl (G.ci 0, n, .inl f)) (hi : i = nI j) (hj : j < n) (hn : n < 2 ^ 31) (k : BB G own cc nL ret d Q (pc + 1) ls (.int (f j) :: st) h) : BB G own cc nL ret d Q (pc) ls (.int i :: .ref (G.b0 + a) :: st) h := by
  subst hi
  have hin : vp_in (nI j) n := vp_in_nI hj hn
  have k' : BB G own cc nL ret d Q (pc + 1) ls (.int (f (nI j).toNatClampNeg) :: st) h := by rw [nI_clamp (Nat.lt_trans hj hn)]; exact k
  exact fun p e R s m args below meth c cells slots E H locs lsA hH hS hl => va_iald E.1 E.2.1 E.2.2.2.2.2.2.2.1.1 hH.2.2 a 0 (by rw [wl_at ha, he]) rfl hin hd (k' p e R s m args below meth c cells slots E H locs lsA hH hS hl)
theorem b_bald {a n j : Nat} {f : Nat → Int32} {i : Int32} (hd : decode cc pc = .ok (.baload, 1)) (ha : a < G.nC) (he : h a = .inl (G.ci 1, n, .inl f)) (hi : i = nI j) (hj : j < n) (hn : n < 2 ^ 31) (k : BB G own cc nL ret d Q (pc + 1) ls (.int (f j) :: st) h) : BB G own cc nL ret d Q (pc) ls (.int i :: .ref (G.b0 + a) :: st) h := by
  subst hi
  have hin : vp_in (nI j) n := vp_in_nI hj hn
  have k' : BB G own cc nL ret d Q (pc + 1) ls (.int (f (nI j).toNatClampNeg) :: st) h := by rw [nI_clamp (Nat.lt_trans hj hn)]; exact k
  exact fun p e R s m args below meth c cells slots E H locs lsA hH hS hl => va_bald E.1 E.2.1 E.2.2.2.2.2.2.2.1.1 hH.2.2 a 1 (by rw [wl_at ha, he]) rfl hin hd (k' p e R s m args below meth c cells slots E H locs lsA hH hS hl)
theorem b_zald {a n j : Nat} {f : Nat → Int32} {i : Int32} (hd : decode cc pc = .ok (.baload, 1)) (ha : a < G.nC) (he : h a = .inl (G.ci 3, n, .inl f)) (hi : i = nI j) (hj : j < n) (hn : n < 2 ^ 31) (k : BB G own cc nL ret d Q (pc + 1) ls (.int (f j) :: st) h) : BB G own cc nL ret d Q (pc) ls (.int i :: .ref (G.b0 + a) :: st) h := by
  subst hi
  have hin : vp_in (nI j) n := vp_in_nI hj hn
  have k' : BB G own cc nL ret d Q (pc + 1) ls (.int (f (nI j).toNatClampNeg) :: st) h := by rw [nI_clamp (Nat.lt_trans hj hn)]; exact k
  exact fun p e R s m args below meth c cells slots E H locs lsA hH hS hl => va_zald E.1 E.2.1 E.2.2.2.2.2.2.2.1.1 hH.2.2 a 3 (by rw [wl_at ha, he]) rfl hin hd (k' p e R s m args below meth c cells slots E H locs lsA hH hS hl)
theorem b_lald {a n j : Nat} {f : Nat → Int64} {i : Int32} (hd : decode cc pc = .ok (.laload, 1)) (ha : a < G.nC) (he : h a = .inl (G.ci 2, n, .inr (.inl f))) (hi : i = nI j) (hj : j < n) (hn : n < 2 ^ 31) (k : BB G own cc nL ret d Q (pc + 1) ls (.long (f j) :: st) h) : BB G own cc nL ret d Q (pc) ls (.int i :: .ref (G.b0 + a) :: st) h := by
  subst hi
  have hin : vp_in (nI j) n := vp_in_nI hj hn
  have k' : BB G own cc nL ret d Q (pc + 1) ls (.long (f (nI j).toNatClampNeg) :: st) h := by rw [nI_clamp (Nat.lt_trans hj hn)]; exact k
  exact fun p e R s m args below meth c cells slots E H locs lsA hH hS hl => va_lald E.1 E.2.1 E.2.2.2.2.2.2.2.1.1 hH.2.2 a 2 (by rw [wl_at ha, he]) rfl hin hd (k' p e R s m args below meth c cells slots E H locs lsA hH hS hl)
theorem b_iast {a n j : Nat} {f : Nat → Int32} {i : Int32} {x : Int32} (hd : decode cc pc = .ok (.iastore, 1)) (ha : a < G.nC) (he : h a = .inl (G.ci 0, n, .inl f)) (hi : i = nI j) (hj : j < n) (hn : n < 2 ^ 31) (k : BB G own cc nL ret d Q (pc + 1) ls (st) (va_up h a (.inl (G.ci 0, n, .inl (upd f j x))))) : BB G own cc nL ret d Q (pc) ls (.int x :: .int i :: .ref (G.b0 + a) :: st) h := by
  subst hi
  have hin : vp_in (nI j) n := vp_in_nI hj hn
  have hcl : (nI j).toNatClampNeg = j := nI_clamp (Nat.lt_trans hj hn)
  exact fun p e R s m args below meth c cells slots E H locs lsA hH hS hl => va_iast (H0 := s.heap) E.1 E.2.1 E.2.2.2.2.2.2.2.1.1 hH.2.2 wl_D hS a 0 (by rw [wl_at ha, he]) rfl hin hd (fun H1 locs1 hP1 hD1 hS1 => k p e R s m args below meth c cells slots E H1 locs1 lsA (mkHP E.2.2.2.2.2.2.2.2.1 hS1 (by rw [wl_set ha, hcl] at hP1; exact hP1)) hS1 hl)
theorem b_last {a n j : Nat} {f : Nat → Int64} {i : Int32} {x : Int64} (hd : decode cc pc = .ok (.lastore, 1)) (ha : a < G.nC) (he : h a = .inl (G.ci 2, n, .inr (.inl f))) (hi : i = nI j) (hj : j < n) (hn : n < 2 ^ 31) (k : BB G own cc nL ret d Q (pc + 1) ls (st) (va_up h a (.inl (G.ci 2, n, .inr (.inl (vp_updL f j x)))))) : BB G own cc nL ret d Q (pc) ls (.long x :: .int i :: .ref (G.b0 + a) :: st) h := by
  subst hi
  have hin : vp_in (nI j) n := vp_in_nI hj hn
  have hcl : (nI j).toNatClampNeg = j := nI_clamp (Nat.lt_trans hj hn)
  exact fun p e R s m args below meth c cells slots E H locs lsA hH hS hl => va_last (H0 := s.heap) E.1 E.2.1 E.2.2.2.2.2.2.2.1.1 hH.2.2 wl_D hS a 2 (by rw [wl_at ha, he]) rfl hin hd (fun H1 locs1 hP1 hD1 hS1 => k p e R s m args below meth c cells slots E H1 locs1 lsA (mkHP E.2.2.2.2.2.2.2.2.1 hS1 (by rw [wl_set ha, hcl] at hP1; exact hP1)) hS1 hl)
theorem b_bast {a n j : Nat} {f : Nat → Int32} {i : Int32} {x : Int32} (hd : decode cc pc = .ok (.bastore, 1)) (ha : a < G.nC) (he : h a = .inl (G.ci 1, n, .inl f)) (hi : i = nI j) (hj : j < n) (hn : n < 2 ^ 31) (k : BB G own cc nL ret d Q (pc + 1) ls (st) (va_up h a (.inl (G.ci 1, n, .inl (upd f j (vp_nar .byte x)))))) : BB G own cc nL ret d Q (pc) ls (.int x :: .int i :: .ref (G.b0 + a) :: st) h := by
  subst hi
  have hin : vp_in (nI j) n := vp_in_nI hj hn
  have hcl : (nI j).toNatClampNeg = j := nI_clamp (Nat.lt_trans hj hn)
  exact fun p e R s m args below meth c cells slots E H locs lsA hH hS hl => va_bast (H0 := s.heap) E.1 E.2.1 E.2.2.2.2.2.2.2.1.1 hH.2.2 wl_D hS a 1 (by rw [wl_at ha, he]) rfl hin hd (fun H1 locs1 hP1 hD1 hS1 => k p e R s m args below meth c cells slots E H1 locs1 lsA (mkHP E.2.2.2.2.2.2.2.2.1 hS1 (by rw [wl_set ha, hcl] at hP1; exact hP1)) hS1 hl)
theorem b_zast {a n j : Nat} {f : Nat → Int32} {i : Int32} {x : Int32} (hd : decode cc pc = .ok (.bastore, 1)) (ha : a < G.nC) (he : h a = .inl (G.ci 3, n, .inl f)) (hi : i = nI j) (hj : j < n) (hn : n < 2 ^ 31) (k : BB G own cc nL ret d Q (pc + 1) ls (st) (va_up h a (.inl (G.ci 3, n, .inl (upd f j (vp_nar .boolean x)))))) : BB G own cc nL ret d Q (pc) ls (.int x :: .int i :: .ref (G.b0 + a) :: st) h := by
  subst hi
  have hin : vp_in (nI j) n := vp_in_nI hj hn
  have hcl : (nI j).toNatClampNeg = j := nI_clamp (Nat.lt_trans hj hn)
  exact fun p e R s m args below meth c cells slots E H locs lsA hH hS hl => va_zast (H0 := s.heap) E.1 E.2.1 E.2.2.2.2.2.2.2.1.1 hH.2.2 wl_D hS a 3 (by rw [wl_at ha, he]) rfl hin hd (fun H1 locs1 hP1 hD1 hS1 => k p e R s m args below meth c cells slots E H1 locs1 lsA (mkHP E.2.2.2.2.2.2.2.2.1 hS1 (by rw [wl_set ha, hcl] at hP1; exact hP1)) hS1 hl)
theorem b_aald {a n j b t0 : Nat} {C : String} {f : Nat → Option Nat} {i : Int32} (hd : decode cc pc = .ok (.aaload, 1)) (ha : a < G.nC) (he : h a = .inl (G.ci t0, n, .inr (.inr (.inr (.inr f))))) (ht : (tysG G)[t0]? = some (G.ci t0, .object C)) (hi : i = nI j) (hj : j < n) (hn : n < 2 ^ 31) (hf : f j = some b) (k : BB G own cc nL ret d Q (pc + 1) ls (.ref b :: st) h) : BB G own cc nL ret d Q (pc) ls (.int i :: .ref (G.b0 + a) :: st) h := by
  subst hi
  have hin : vp_in (nI j) n := vp_in_nI hj hn
  have k' : BB G own cc nL ret d Q (pc + 1) ls (va_rf (f (nI j).toNatClampNeg) :: st) h := by rw [nI_clamp (Nat.lt_trans hj hn), hf]; exact k
  exact fun p e R s m args below meth c cells slots E H locs lsA hH hS hl => va_aldq E.1 E.2.1 E.2.2.2.2.2.2.2.1.1 hH.2.2 a t0 (by rw [wl_at ha, he]) ht hin hd (k' p e R s m args below meth c cells slots E H locs lsA hH hS hl)
theorem b_alen {a t0 : Nat} {x : vp_A} {ty : FieldType} (hd : decode cc pc = .ok (.arraylength, 1)) (ha : a < G.nC) (he : h a = .inl (G.ci t0, x)) (ht : (tysG G)[t0]? = some (G.ci t0, ty)) (k : BB G own cc nL ret d Q (pc + 1) ls (.int (nI x.1) :: st) h) : BB G own cc nL ret d Q (pc) ls (.ref (G.b0 + a) :: st) h :=
  fun p e R s m args below meth c cells slots E H locs lsA hH hS hl => va_alen E.1 E.2.1 E.2.2.2.2.2.2.2.1.1 hH.2.2 a t0 (by rw [wl_at ha, he]) ht rfl hd (k p e R s m args below meth c cells slots E H locs lsA hH hS hl)
end Rules
