/-! ===== strings of the constant pool ===== -/
def sch (q j : Nat) : Int32 := (sbyt.getD q []).getD j 0
section StrRules
variable {G : GT} {own : String} {cc : ByteArray} {nL : Nat} {ret : Option FieldType} {d : Nat} {Q : QT} {pc : Nat} {ls : LT} {st : List Value} {h : HT}
theorem kn_str {p : Program} {R : Room} {s : State} {m : MethodId} {args : Array Value} {meth : Method} {c : Code} {cells slots : Nat} (E : EnvOk G own cc nL ret d p R s m args meth c cells slots) : vk_S 16 slen sbyt G.adK G.adV (GA G) s s.heap :=
  E.2.2.2.2.2.2.2.1.2.2.2.2.2.1.kept (fun a ha hA => E.2.2.2.2.2.2.2.2.1.2 a (Nat.not_le.mp hA))
theorem b_sgetV {idx q : Nat} (hd : decode cc pc = .ok (.getfield idx, 3)) (hlk : Cond.fieldLink own idx "java/lang/String" "value" "[B" ∈ TB) (hq : q < 16) (k : BB G own cc nL ret d Q (pc + 3) ls (.ref (G.adV q) :: st) h) : BB G own cc nL ret d Q pc ls (.ref (G.adK q) :: st) h :=
  fun p e R s m args below meth c cells slots E H locs lsA hH hS hl => vk_getf E.1 E.2.1 ((kn_str E).1 q hq).2.2.1 hS E.2.2.2.2.2.1 (E.2.2.2.2.2.2.1 _ hlk) (fun _ h9 => h9) hd (k p e R s m args below meth c cells slots E H locs lsA hH hS hl)
theorem b_sgetC {idx q : Nat} (hd : decode cc pc = .ok (.getfield idx, 3)) (hlk : Cond.fieldLink own idx "java/lang/String" "coder" "B" ∈ TB) (hq : q < 16) (k : BB G own cc nL ret d Q (pc + 3) ls (.int (nI 0) :: st) h) : BB G own cc nL ret d Q pc ls (.ref (G.adK q) :: st) h :=
  fun p e R s m args below meth c cells slots E H locs lsA hH hS hl => vk_getf E.1 E.2.1 ((kn_str E).1 q hq).2.1 hS E.2.2.2.2.2.1 (E.2.2.2.2.2.2.1 _ hlk) (fun _ h9 => h9) hd (k p e R s m args below meth c cells slots E H locs lsA hH hS hl)
theorem b_gcs {idx : Nat} (hd : decode cc pc = .ok (.getstatic idx, 3)) (hlk : Cond.fieldLink own idx "java/lang/String" "COMPACT_STRINGS" "Z" ∈ TB) (k : BB G own cc nL ret d Q (pc + 3) ls (.int (nI 1) :: st) h) : BB G own cc nL ret d Q pc ls st h :=
  fun p e R s m args below meth c cells slots E H locs lsA hH hS hl => va_gets E.1 E.2.1 (E.2.2.2.2.2.2.2.1.2.2.2.1.kept (fun a ha hA => E.2.2.2.2.2.2.2.2.1.2 a (Nat.not_le.mp hA))) hS E.2.2.2.2.2.1 (E.2.2.2.2.2.2.1 _ hlk) (fun _ h9 => h9) hd (k p e R s m args below meth c cells slots E H locs lsA hH hS hl)
theorem b_gsf {idx : Nat} (hd : decode cc pc = .ok (.getstatic idx, 3)) (hlk : Cond.fieldLink own idx "jdk/internal/util/Preconditions" "SIOOBE_FORMATTER" "Ljava/util/function/BiFunction;" ∈ TB) (k : ∀ v : Value, (v = .null ∨ ∃ t, v = .ref t) → BB G own cc nL ret d Q (pc + 3) ls (v :: st) h) : BB G own cc nL ret d Q pc ls st h := by
  intro p e R s m args below meth c cells slots E H locs lsA hH hS hl
  rcases E.2.2.2.2.2.2.2.1.2.2.2.2.1 with hZ | ⟨t, hZ⟩
  · exact va_gets E.1 E.2.1 (hZ.kept (fun a ha hA => E.2.2.2.2.2.2.2.2.1.2 a (Nat.not_le.mp hA))) hS E.2.2.2.2.2.1 (E.2.2.2.2.2.2.1 _ hlk) (fun _ h9 => h9) hd (k _ (Or.inl rfl) p e R s m args below meth c cells slots E H locs lsA hH hS hl)
  · exact va_gets E.1 E.2.1 (hZ.kept (fun a ha hA => E.2.2.2.2.2.2.2.2.1.2 a (Nat.not_le.mp hA))) hS E.2.2.2.2.2.1 (E.2.2.2.2.2.2.1 _ hlk) (fun _ h9 => h9) hd (k _ (Or.inr ⟨t, rfl⟩) p e R s m args below meth c cells slots E H locs lsA hH hS hl)
theorem b_slen {q : Nat} (hd : decode cc pc = .ok (.arraylength, 1)) (hq : q < 16) (k : BB G own cc nL ret d Q (pc + 1) ls (.int (nI (slen.getD q 0)) :: st) h) : BB G own cc nL ret d Q pc ls (.ref (G.adV q) :: st) h :=
  fun p e R s m args below meth c cells slots E H locs lsA hH hS hl => va_tlen E.1 E.2.1 ((kn_str E).1 q hq).2.2.2 hS rfl hd (k p e R s m args below meth c cells slots E H locs lsA hH hS hl)
theorem slen_le : ∀ q, q < 16 → slen.getD q 0 < 80 := by decide +kernel
theorem b_sbald {q j : Nat} {i : Int32} (hd : decode cc pc = .ok (.baload, 1)) (hq : q < 16) (hi : i = nI j) (hj : j < slen.getD q 0) (k : BB G own cc nL ret d Q (pc + 1) ls (.int (sch q j) :: st) h) : BB G own cc nL ret d Q pc ls (.int i :: .ref (G.adV q) :: st) h := by
  subst hi
  have hs := slen_le q hq
  have hin : vp_in (nI j) (slen.getD q 0) := vp_in_nI hj (by omega)
  exact fun p e R s m args below meth c cells slots E H locs lsA hH hS hl => va_tb E.1 E.2.1 ((kn_str E).1 q hq).2.2.2 hS hin (by rw [nI_clamp (by omega)]; rfl) hd (k p e R s m args below meth c cells slots E H locs lsA hH hS hl)
theorem b_callStr {M : MT} {idx n q : Nat} {v : Option Value} {h' : HT} (As : List Value) {st0 : List Value} (hd : decode cc pc = .ok (.invokevirtual idx, 3)) (mk : MKv M n) (hlk : Cond.methodLink own idx M.1 ∈ TB) (hq : q < 16) (hc : M.1.cls = "java/lang/String")
    (hM : Fn G d M (.ref (G.adK q) :: As) h (Ret v h')) (hn : As.length = n) (hst : st0 = As.reverse ++ .ref (G.adK q) :: st) (hw : (st.map fun v => v.category).sum ≤ 8)
    (k : BB G own cc nL ret (d + 1) Q (pc + 3) ls (v.toList ++ st) h') : BB G own cc nL ret (d + 1) Q pc ls st0 h := by
  intro p e R s m args below meth c cells slots E H locs lsA hH hS hl
  obtain ⟨mk1, mk2, mk3, mk4, mk5, mk6, mk7⟩ := mk
  have hts := E.2.2.2.2.2.2.1
  have hR := E.2.2.2.2.2.2.2.2.2.1
  have hC := E.2.2.2.2.2.2.2.2.2.2
  refine bb_after (Post := Ret v h') E hS hl (va_runV (As := As) (rest := st) (C := M.1.cls) (n := n) (index := idx) (Ts := TB) (own := own) ⟨E.1, E.2.1, E.2.2.1, E.2.2.2.2.2.1, hts⟩ hM ⟨⟨rfl, rfl, hR.1, ?_, tb_pay hts mk4, List.mem_cons_self, hts _ mk4, hts _ mk3, mk5, tb_len mk6, hts _ hlk⟩, hts _ mk1, hts _ mk2⟩ ⟨fn_blind, ?_, fun U hU hW => ⟨rfl, by rw [hU]; exact hH, E.2.2.2.2.2.2.2.1.warm hW⟩⟩ rfl hn hl.1 hst (lv_room hw) hd ⟨hC.1, hC.2⟩) (fun r g hp => by obtain ⟨rfl, rfl⟩ := hp; exact k)
  · have h2 := hR.2
    show 8 + (M.2.2.1 + 11) + 100 * d ≤ R.locals
    omega
  · rw [hc]
    exact vk_recv (kn_str E) hq hS
end StrRules
theorem c_J3_checkIndex {G : GT} {d : Nat} {h : HT} {j n : Nat} {vz : Value} (hvz : vz = .null ∨ ∃ t, vz = .ref t) (hj : j < n) (hn : n < 2 ^ 31) : Fn G d mJ3_checkIndex_8e157 [.int (nI j), .int (nI n), vz] h (Ret (some (.int (nI j))) h) := by
  have hcat : locA [.int (nI j), .int (nI n), vz] = [some (.int (nI j)), some (.int (nI n)), some vz] := by
    rcases hvz with rfl | ⟨t, rfl⟩ <;> rfl
  have hsl : (lg_sl [.int (nI j), .int (nI n), vz]).length ≤ 3 := by
    rcases hvz with rfl | ⟨t, rfl⟩ <;> exact Nat.le_refl 3
  refine fn_of (ls := [some (.int (nI j)), some (.int (nI n)), some vz]) (by decide +kernel) hsl 0 (by rw [hcat]; rfl) ?_
  refine b_iload_n dJ3_checkIndex_8e157_0 rfl ?_
  refine b_if_lt_f 9 dJ3_checkIndex_8e157_1 (by decide) (nI_pos (by omega)) ?_
  refine b_iload_n dJ3_checkIndex_8e157_4 rfl ?_
  refine b_iload_n dJ3_checkIndex_8e157_5 rfl ?_
  refine b_icmp_lt_t 16 dJ3_checkIndex_8e157_6 (by decide) (nI_lt hj hn) ?_
  refine b_iload_n dJ3_checkIndex_8e157_16 rfl ?_
  exact b_iret dJ3_checkIndex_8e157_17 ⟨rfl, rfl⟩
theorem c_J0_checkIndex {G : GT} {d : Nat} {h : HT} {j n : Nat} (hj : j < n) (hn : n < 2 ^ 31) : Fn G (d + 1) mJ0_checkIndex_df160 [.int (nI j), .int (nI n)] h (Ret none h) := by
  refine fn_of (ls := [some (.int (nI j)), some (.int (nI n))]) (by decide +kernel) (Nat.le_of_ble_eq_true rfl) 0 rfl ?_
  refine b_iload_n dJ0_checkIndex_df160_0 rfl ?_
  refine b_iload_n dJ0_checkIndex_df160_1 rfl ?_
  refine b_gsf dJ0_checkIndex_df160_2 flJ0_1053 (fun vz hvz => ?_)
  refine b_callSr [.int (nI j), .int (nI n), vz] dJ0_checkIndex_df160_5 kJ3_checkIndex_8e157 lJ0_1059 (c_J3_checkIndex hvz hj hn) rfl rfl (Nat.le_of_ble_eq_true rfl) ?_
  refine b_pop dJ0_checkIndex_df160_8 rfl ?_
  exact b_vret dJ0_checkIndex_df160_9 ⟨rfl, rfl⟩
theorem sch_ok : ∀ q, q < 16 → ∀ j, j < slen.getD q 0 → ((sch q j &&& nI 255).toUInt32 % 65536).toInt32 = sch q j ∧ narrow .char (.int (sch q j)) = .int (sch q j) := by decide +kernel
theorem c_J1_charAt {G : GT} {d : Nat} {h : HT} {q j : Nat} (hq : q < 16) (hj : j < slen.getD q 0) : Fn G (d + 2) mJ1_charAt_3b067 [.ref (G.adV q), .int (nI j)] h (Ret (some (.int (sch q j))) h) := by
  have hl := slen_le q hq
  refine fn_of (ls := [some (.ref (G.adV q)), some (.int (nI j))]) (by decide +kernel) (Nat.le_of_ble_eq_true rfl) 0 rfl ?_
  refine b_iload_n dJ1_charAt_3b067_0 rfl ?_
  refine b_aload_n dJ1_charAt_3b067_1 rfl ?_
  refine b_slen dJ1_charAt_3b067_2 (by omega) ?_
  refine b_callSr [.int (nI j), .int (nI (slen.getD q 0))] dJ1_charAt_3b067_3 kJ0_checkIndex_df160 lJ1_9 (c_J0_checkIndex hj (by omega)) rfl rfl (Nat.le_of_ble_eq_true rfl) ?_
  refine b_aload_n dJ1_charAt_3b067_6 rfl ?_
  refine b_iload_n dJ1_charAt_3b067_7 rfl ?_
  refine b_sbald dJ1_charAt_3b067_8 (by omega) rfl (by omega) ?_
  refine b_sipush (v := nI 255) dJ1_charAt_3b067_9 (by decide) ?_
  refine b_iand dJ1_charAt_3b067_12 ?_
  refine b_i2c dJ1_charAt_3b067_13 ?_
  rw [(sch_ok q hq j hj).1]
  exact b_zret dJ1_charAt_3b067_14 (sch_ok q hq j hj).2 ⟨rfl, rfl⟩
theorem c_J0_isLatin1 {G : GT} {d : Nat} {h : HT} {q : Nat} (hq : q < 16) : Fn G d mJ0_isLatin1_aae02 [.ref (G.adK q)] h (Ret (some (.int (nI 1))) h) := by
  refine fn_of (ls := [some (.ref (G.adK q))]) (by decide +kernel) (Nat.le_of_ble_eq_true rfl) 0 rfl ?_
  refine b_gcs dJ0_isLatin1_aae02_0 flJ0_38 ?_
  refine b_if_eq_f 17 dJ0_isLatin1_aae02_3 (by decide) (by decide) ?_
  refine b_aload_n dJ0_isLatin1_aae02_6 rfl ?_
  refine b_sgetC dJ0_isLatin1_aae02_7 flJ0_15 (by omega) ?_
  refine b_if_ne_f 17 dJ0_isLatin1_aae02_10 (by decide) (by decide) ?_
  refine b_iconst (v := nI 1) dJ0_isLatin1_aae02_13 (by decide) ?_
  refine b_goto 18 dJ0_isLatin1_aae02_14 (by decide) ?_
  exact b_zret dJ0_isLatin1_aae02_18 rfl ⟨rfl, rfl⟩
theorem c_J0_coder {G : GT} {d : Nat} {h : HT} {q : Nat} (hq : q < 16) : Fn G d mJ0_coder_7d493 [.ref (G.adK q)] h (Ret (some (.int (nI 0))) h) := by
  refine fn_of (ls := [some (.ref (G.adK q))]) (by decide +kernel) (Nat.le_of_ble_eq_true rfl) 0 rfl ?_
  refine b_gcs dJ0_coder_7d493_0 flJ0_38 ?_
  refine b_if_eq_f 13 dJ0_coder_7d493_3 (by decide) (by decide) ?_
  refine b_aload_n dJ0_coder_7d493_6 rfl ?_
  refine b_sgetC dJ0_coder_7d493_7 flJ0_15 (by omega) ?_
  refine b_goto 14 dJ0_coder_7d493_10 (by decide) ?_
  exact b_zret dJ0_coder_7d493_14 rfl ⟨rfl, rfl⟩
theorem c_length {G : GT} {d : Nat} {h : HT} {q : Nat} (hq : q < 16) : Fn G (d + 1) mJ0_length_8abf5 [.ref (G.adK q)] h (Ret (some (.int (nI (slen.getD q 0)))) h) := by
  have hl := slen_le q hq
  refine fn_of (ls := [some (.ref (G.adK q))]) (by decide +kernel) (Nat.le_of_ble_eq_true rfl) 0 rfl ?_
  refine b_aload_n dJ0_length_8abf5_0 rfl ?_
  refine b_sgetV dJ0_length_8abf5_1 flJ0_9 (by omega) ?_
  refine b_slen dJ0_length_8abf5_4 (by omega) ?_
  refine b_aload_n dJ0_length_8abf5_5 rfl ?_
  refine b_callStr [] dJ0_length_8abf5_6 kJ0_coder_7d493 lJ0_335 (by omega) rfl (c_J0_coder hq) rfl rfl (Nat.le_of_ble_eq_true rfl) ?_
  refine b_ishr dJ0_length_8abf5_9 ?_
  exact b_iret dJ0_length_8abf5_10 ⟨by rw [(by decide +kernel : ∀ z : Nat, z < 80 → nI z >>> (nI 0 &&& 31) = nI z) _ hl], rfl⟩
theorem c_charAt {G : GT} {d : Nat} {h : HT} {q j : Nat} (hq : q < 16) (hj : j < slen.getD q 0) : Fn G (d + 3) mJ0_charAt_5068e [.ref (G.adK q), .int (nI j)] h (Ret (some (.int (sch q j))) h) := by
  refine fn_of (ls := [some (.ref (G.adK q)), some (.int (nI j))]) (by decide +kernel) (Nat.le_of_ble_eq_true rfl) 0 rfl ?_
  refine b_aload_n dJ0_charAt_5068e_0 rfl ?_
  refine b_callStr [] dJ0_charAt_5068e_1 kJ0_isLatin1_aae02 lJ0_492 (by omega) rfl (c_J0_isLatin1 hq) rfl rfl (Nat.le_of_ble_eq_true rfl) ?_
  refine b_if_eq_f 16 dJ0_charAt_5068e_4 (by decide) (by decide) ?_
  refine b_aload_n dJ0_charAt_5068e_7 rfl ?_
  refine b_sgetV dJ0_charAt_5068e_8 flJ0_9 (by omega) ?_
  refine b_iload_n dJ0_charAt_5068e_11 rfl ?_
  refine b_callSr [.ref (G.adV q), .int (nI j)] dJ0_charAt_5068e_12 kJ1_charAt_3b067 lJ0_495 (c_J1_charAt hq hj) rfl rfl (Nat.le_of_ble_eq_true rfl) ?_
  exact b_zret dJ0_charAt_5068e_15 (sch_ok q hq j hj).2 ⟨rfl, rfl⟩

