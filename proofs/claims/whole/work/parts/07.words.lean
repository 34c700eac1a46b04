theorem TB_all {C : String} {T : u_T} {N : Nat} (h : (u_ws C T N).all (fun w => decide (w ∈ lw_tbl) && goodWord w) = true) : ∀ w ∈ u_ws C T N, w ∈ TB := fun w hw => by
  have h1 := List.all_eq_true.mp h w hw
  simp only [Bool.and_eq_true, decide_eq_true_eq] at h1
  exact List.mem_filter.mpr ⟨h1.1, h1.2⟩
theorem uX0 : ∀ w ∈ u_ws RX0 TX0 4, w ∈ TB := TB_all (by decide +kernel)
theorem uX1 : ∀ w ∈ u_ws RX1 TX1 3, w ∈ TB := TB_all (by decide +kernel)
theorem uX2 : ∀ w ∈ u_ws RX2 TX2 10, w ∈ TB := TB_all (by decide +kernel)
theorem uX3 : ∀ w ∈ u_ws RX3 TX3 9, w ∈ TB := TB_all (by decide +kernel)
theorem uX4 : ∀ w ∈ u_ws RX4 TX4 2, w ∈ TB := TB_all (by decide +kernel)
theorem uX5 : ∀ w ∈ u_ws RX5 TX5 7, w ∈ TB := TB_all (by decide +kernel)
theorem uX6 : ∀ w ∈ u_ws RX6 TX6 3, w ∈ TB := TB_all (by decide +kernel)
theorem uX7 : ∀ w ∈ u_ws RX7 TX7 6, w ∈ TB := TB_all (by decide +kernel)
theorem uX8 : ∀ w ∈ u_ws RX8 TX8 4, w ∈ TB := TB_all (by decide +kernel)
theorem uX9 : ∀ w ∈ u_ws RX9 TX9 4, w ∈ TB := TB_all (by decide +kernel)
theorem uX10 : ∀ w ∈ u_ws RX10 TX10 2, w ∈ TB := TB_all (by decide +kernel)
theorem uX11 : ∀ w ∈ u_ws RX11 TX11 12, w ∈ TB := TB_all (by decide +kernel)
theorem uX12 : ∀ w ∈ u_ws RX12 TX12 35, w ∈ TB := TB_all (by decide +kernel)
set_option maxRecDepth 100000 in
theorem iniX11 : Cond.initialized RX11 ∈ TB := TB_of (tin_1 (TB_at 1 rfl)) rfl
set_option maxRecDepth 100000 in
theorem iniX0 : Cond.initialized RX0 ∈ TB := TB_of (tin_1 (TB_at 4 rfl)) rfl
set_option maxRecDepth 100000 in
theorem iniX1 : Cond.initialized RX1 ∈ TB := TB_of (tin_1 (TB_at 12 rfl)) rfl
set_option maxRecDepth 100000 in
theorem iniX2 : Cond.initialized RX2 ∈ TB := TB_of (tin_1 (TB_at 5 rfl)) rfl
set_option maxRecDepth 100000 in
theorem iniX3 : Cond.initialized RX3 ∈ TB := TB_of (tin_1 (TB_at 9 rfl)) rfl
set_option maxRecDepth 100000 in
theorem iniX4 : Cond.initialized RX4 ∈ TB := TB_of (tin_1 (TB_at 7 rfl)) rfl
set_option maxRecDepth 100000 in
theorem iniX5 : Cond.initialized RX5 ∈ TB := TB_of (tin_1 (TB_at 2 rfl)) rfl
set_option maxRecDepth 100000 in
theorem iniX6 : Cond.initialized RX6 ∈ TB := TB_of (tin_1 (TB_at 11 rfl)) rfl
set_option maxRecDepth 100000 in
theorem iniX7 : Cond.initialized RX7 ∈ TB := TB_of (tin_1 (TB_at 8 rfl)) rfl
set_option maxRecDepth 100000 in
theorem iniX8 : Cond.initialized RX8 ∈ TB := TB_of (tin_1 (TB_at 6 rfl)) rfl
set_option maxRecDepth 100000 in
theorem iniX9 : Cond.initialized RX9 ∈ TB := TB_of (tin_1 (TB_at 3 rfl)) rfl
set_option maxRecDepth 100000 in
theorem iniX10 : Cond.initialized RX10 ∈ TB := TB_of (tin_1 (TB_at 10 rfl)) rfl
set_option maxRecDepth 100000 in
theorem iniL : Cond.initialized RL ∈ TB := TB_of (tin_1 (TB_at 0 rfl)) rfl
set_option maxRecDepth 100000 in
theorem iniX12 : Cond.initialized RX12 ∈ TB := TB_of (tin_1 (TB_at 13 rfl)) rfl
set_option maxRecDepth 100000 in
theorem iniJ6 : Cond.initialized RJ6 ∈ TB := TB_of (tin_1 (TB_at 21 rfl)) rfl
set_option maxRecDepth 100000 in
theorem iniJ9 : Cond.initialized RJ9 ∈ TB := TB_of (tin_1 (TB_at 19 rfl)) rfl
set_option maxRecDepth 100000 in
theorem iniJ0 : Cond.initialized RJ0 ∈ TB := TB_of (tin_1 (TB_at 15 rfl)) rfl
set_option maxRecDepth 100000 in
theorem iniJ1 : Cond.initialized RJ1 ∈ TB := TB_of (tin_1 (TB_at 16 rfl)) rfl
set_option maxRecDepth 100000 in
theorem iniJ2 : Cond.initialized RJ2 ∈ TB := TB_of (tin_1 (TB_at 18 rfl)) rfl
set_option maxRecDepth 100000 in
theorem iniJ10 : Cond.initialized RJ10 ∈ TB := TB_of (tin_1 (TB_at 20 rfl)) rfl
set_option maxRecDepth 100000 in
theorem iniJ7 : Cond.initialized RJ7 ∈ TB := TB_of (tin_1 (TB_at 14 rfl)) rfl
set_option maxRecDepth 100000 in
theorem iniJ3 : Cond.initialized RJ3 ∈ TB := TB_of (tin_1 (TB_at 17 rfl)) rfl
abbrev mX0_init : MT := (yX0_init, cX0_init, 1, none)
abbrev mX0_clear : MT := (yX0_clear, cX0_clear, 1, none)
set_option maxRecDepth 100000 in
theorem cdX0_clear : Cond.code yX0_clear cX0_clear 1 none ∈ TB := TB_of (tin_2 (TB_at 182 rfl)) rfl
set_option maxRecDepth 100000 in
theorem imX0_clear : Cond.instanceMethod yX0_clear ∈ TB := TB_of (tin_2 (TB_at 180 rfl)) rfl
set_option maxRecDepth 100000 in
theorem seX0_clear : Cond.selects RX0 yX0_clear yX0_clear ∈ TB := TB_of (tin_2 (TB_at 181 rfl)) rfl
theorem kX0_clear : MKv mX0_clear 0 := ⟨imX0_clear, seX0_clear, iniX0, cdX0_clear, ⟨by decide +kernel, by decide +kernel⟩, by decide +kernel, by decide⟩
abbrev mX0_add : MT := (yX0_add, cX0_add, 2, none)
set_option maxRecDepth 100000 in
theorem cdX0_add : Cond.code yX0_add cX0_add 2 none ∈ TB := TB_of (tin_3 (TB_at 92 rfl)) rfl
set_option maxRecDepth 100000 in
theorem imX0_add : Cond.instanceMethod yX0_add ∈ TB := TB_of (tin_3 (TB_at 90 rfl)) rfl
set_option maxRecDepth 100000 in
theorem seX0_add : Cond.selects RX0 yX0_add yX0_add ∈ TB := TB_of (tin_3 (TB_at 91 rfl)) rfl
theorem kX0_add : MKv mX0_add 1 := ⟨imX0_add, seX0_add, iniX0, cdX0_add, ⟨by decide +kernel, by decide +kernel⟩, by decide +kernel, by decide⟩
abbrev mX0_end : MT := (yX0_end, cX0_end, 2, none)
set_option maxRecDepth 100000 in
theorem cdX0_end : Cond.code yX0_end cX0_end 2 none ∈ TB := TB_of (tin_3 (TB_at 100 rfl)) rfl
set_option maxRecDepth 100000 in
theorem imX0_end : Cond.instanceMethod yX0_end ∈ TB := TB_of (tin_3 (TB_at 98 rfl)) rfl
set_option maxRecDepth 100000 in
theorem seX0_end : Cond.selects RX0 yX0_end yX0_end ∈ TB := TB_of (tin_3 (TB_at 99 rfl)) rfl
theorem kX0_end : MKv mX0_end 1 := ⟨imX0_end, seX0_end, iniX0, cdX0_end, ⟨by decide +kernel, by decide +kernel⟩, by decide +kernel, by decide⟩
abbrev mX0_settle : MT := (yX0_settle, cX0_settle, 5, none)
set_option maxRecDepth 100000 in
theorem cdX0_settle : Cond.code yX0_settle cX0_settle 5 none ∈ TB := TB_of (tin_3 (TB_at 116 rfl)) rfl
set_option maxRecDepth 100000 in
theorem imX0_settle : Cond.instanceMethod yX0_settle ∈ TB := TB_of (tin_3 (TB_at 114 rfl)) rfl
set_option maxRecDepth 100000 in
theorem seX0_settle : Cond.selects RX0 yX0_settle yX0_settle ∈ TB := TB_of (tin_3 (TB_at 115 rfl)) rfl
theorem kX0_settle : MKv mX0_settle 1 := ⟨imX0_settle, seX0_settle, iniX0, cdX0_settle, ⟨by decide +kernel, by decide +kernel⟩, by decide +kernel, by decide⟩
abbrev mX0_valueIn : MT := (yX0_valueIn, cX0_valueIn, 8, (some .int))
set_option maxRecDepth 100000 in
theorem cdX0_valueIn : Cond.code yX0_valueIn cX0_valueIn 8 (some .int) ∈ TB := TB_of (tin_3 (TB_at 120 rfl)) rfl
set_option maxRecDepth 100000 in
theorem imX0_valueIn : Cond.instanceMethod yX0_valueIn ∈ TB := TB_of (tin_3 (TB_at 119 rfl)) rfl
set_option maxRecDepth 100000 in
theorem seX0_valueIn : Cond.selects RX0 yX0_valueIn yX0_valueIn ∈ TB := TB_of (tin_0 (TB_at 19 rfl)) rfl
theorem kX0_valueIn : MKv mX0_valueIn 4 := ⟨imX0_valueIn, seX0_valueIn, iniX0, cdX0_valueIn, ⟨by decide +kernel, by decide +kernel⟩, by decide +kernel, by decide⟩
abbrev mX0_isAtom : MT := (yX0_isAtom, cX0_isAtom, 1, (some .boolean))
set_option maxRecDepth 100000 in
theorem cdX0_isAtom : Cond.code yX0_isAtom cX0_isAtom 1 (some .boolean) ∈ TB := TB_of (tin_3 (TB_at 123 rfl)) rfl
set_option maxRecDepth 100000 in
theorem stX0_isAtom : Cond.static yX0_isAtom ∈ TB := TB_of (tin_3 (TB_at 122 rfl)) rfl
theorem kX0_isAtom : MKs mX0_isAtom 1 := ⟨stX0_isAtom, iniX0, cdX0_isAtom, ⟨by decide +kernel, by decide +kernel⟩, by decide +kernel, by decide⟩
abbrev mX0_atomOf : MT := (yX0_atomOf, cX0_atomOf, 3, (some .int))
set_option maxRecDepth 100000 in
theorem cdX0_atomOf : Cond.code yX0_atomOf cX0_atomOf 3 (some .int) ∈ TB := TB_of (tin_3 (TB_at 126 rfl)) rfl
set_option maxRecDepth 100000 in
theorem stX0_atomOf : Cond.static yX0_atomOf ∈ TB := TB_of (tin_3 (TB_at 125 rfl)) rfl
theorem kX0_atomOf : MKs mX0_atomOf 3 := ⟨stX0_atomOf, iniX0, cdX0_atomOf, ⟨by decide +kernel, by decide +kernel⟩, by decide +kernel, by decide⟩
abbrev mX0_joined : MT := (yX0_joined, cX0_joined, 3, (some .int))
set_option maxRecDepth 100000 in
theorem cdX0_joined : Cond.code yX0_joined cX0_joined 3 (some .int) ∈ TB := TB_of (tin_3 (TB_at 129 rfl)) rfl
set_option maxRecDepth 100000 in
theorem stX0_joined : Cond.static yX0_joined ∈ TB := TB_of (tin_3 (TB_at 128 rfl)) rfl
theorem kX0_joined : MKs mX0_joined 3 := ⟨stX0_joined, iniX0, cdX0_joined, ⟨by decide +kernel, by decide +kernel⟩, by decide +kernel, by decide⟩
abbrev mX0_kept : MT := (yX0_kept, cX0_kept, 2, (some .int))
set_option maxRecDepth 100000 in
theorem cdX0_kept : Cond.code yX0_kept cX0_kept 2 (some .int) ∈ TB := TB_of (tin_3 (TB_at 132 rfl)) rfl
set_option maxRecDepth 100000 in
theorem stX0_kept : Cond.static yX0_kept ∈ TB := TB_of (tin_3 (TB_at 131 rfl)) rfl
theorem kX0_kept : MKs mX0_kept 1 := ⟨stX0_kept, iniX0, cdX0_kept, ⟨by decide +kernel, by decide +kernel⟩, by decide +kernel, by decide⟩
abbrev mX1_init : MT := (yX1_init, cX1_init, 1, none)
abbrev mX2_init : MT := (yX2_init, cX2_init, 1, none)
abbrev mX2_clear : MT := (yX2_clear, cX2_clear, 1, none)
set_option maxRecDepth 100000 in
theorem cdX2_clear : Cond.code yX2_clear cX2_clear 1 none ∈ TB := TB_of (tin_2 (TB_at 170 rfl)) rfl
set_option maxRecDepth 100000 in
theorem imX2_clear : Cond.instanceMethod yX2_clear ∈ TB := TB_of (tin_2 (TB_at 168 rfl)) rfl
set_option maxRecDepth 100000 in
theorem seX2_clear : Cond.selects RX2 yX2_clear yX2_clear ∈ TB := TB_of (tin_2 (TB_at 169 rfl)) rfl
theorem kX2_clear : MKv mX2_clear 0 := ⟨imX2_clear, seX2_clear, iniX2, cdX2_clear, ⟨by decide +kernel, by decide +kernel⟩, by decide +kernel, by decide⟩
abbrev mX2_become : MT := (yX2_become, cX2_become, 2, none)
set_option maxRecDepth 100000 in
theorem cdX2_become : Cond.code yX2_become cX2_become 2 none ∈ TB := TB_of (tin_3 (TB_at 144 rfl)) rfl
set_option maxRecDepth 100000 in
theorem imX2_become : Cond.instanceMethod yX2_become ∈ TB := TB_of (tin_3 (TB_at 142 rfl)) rfl
set_option maxRecDepth 100000 in
theorem seX2_become : Cond.selects RX2 yX2_become yX2_become ∈ TB := TB_of (tin_3 (TB_at 143 rfl)) rfl
theorem kX2_become : MKv mX2_become 1 := ⟨imX2_become, seX2_become, iniX2, cdX2_become, ⟨by decide +kernel, by decide +kernel⟩, by decide +kernel, by decide⟩
abbrev mX2_allWorlds : MT := (yX2_allWorlds, cX2_allWorlds, 1, (some .int))
set_option maxRecDepth 100000 in
theorem cdX2_allWorlds : Cond.code yX2_allWorlds cX2_allWorlds 1 (some .int) ∈ TB := TB_of (tin_3 (TB_at 200 rfl)) rfl
set_option maxRecDepth 100000 in
theorem imX2_allWorlds : Cond.instanceMethod yX2_allWorlds ∈ TB := TB_of (tin_3 (TB_at 198 rfl)) rfl
set_option maxRecDepth 100000 in
theorem seX2_allWorlds : Cond.selects RX2 yX2_allWorlds yX2_allWorlds ∈ TB := TB_of (tin_3 (TB_at 199 rfl)) rfl
theorem kX2_allWorlds : MKv mX2_allWorlds 0 := ⟨imX2_allWorlds, seX2_allWorlds, iniX2, cdX2_allWorlds, ⟨by decide +kernel, by decide +kernel⟩, by decide +kernel, by decide⟩
abbrev mX2_allFacts : MT := (yX2_allFacts, cX2_allFacts, 1, (some .int))
set_option maxRecDepth 100000 in
theorem cdX2_allFacts : Cond.code yX2_allFacts cX2_allFacts 1 (some .int) ∈ TB := TB_of (tin_4 (TB_at 201 rfl)) rfl
set_option maxRecDepth 100000 in
theorem imX2_allFacts : Cond.instanceMethod yX2_allFacts ∈ TB := TB_of (tin_4 (TB_at 199 rfl)) rfl
set_option maxRecDepth 100000 in
theorem seX2_allFacts : Cond.selects RX2 yX2_allFacts yX2_allFacts ∈ TB := TB_of (tin_4 (TB_at 200 rfl)) rfl
theorem kX2_allFacts : MKv mX2_allFacts 0 := ⟨imX2_allFacts, seX2_allFacts, iniX2, cdX2_allFacts, ⟨by decide +kernel, by decide +kernel⟩, by decide +kernel, by decide⟩
abbrev mX2_factsIn : MT := (yX2_factsIn, cX2_factsIn, 4, (some .int))
set_option maxRecDepth 100000 in
theorem cdX2_factsIn : Cond.code yX2_factsIn cX2_factsIn 4 (some .int) ∈ TB := TB_of (tin_3 (TB_at 172 rfl)) rfl
set_option maxRecDepth 100000 in
theorem imX2_factsIn : Cond.instanceMethod yX2_factsIn ∈ TB := TB_of (tin_3 (TB_at 170 rfl)) rfl
set_option maxRecDepth 100000 in
theorem seX2_factsIn : Cond.selects RX2 yX2_factsIn yX2_factsIn ∈ TB := TB_of (tin_3 (TB_at 171 rfl)) rfl
theorem kX2_factsIn : MKv mX2_factsIn 1 := ⟨imX2_factsIn, seX2_factsIn, iniX2, cdX2_factsIn, ⟨by decide +kernel, by decide +kernel⟩, by decide +kernel, by decide⟩
abbrev mX2_countRoads : MT := (yX2_countRoads, cX2_countRoads, 3, (some .int))
set_option maxRecDepth 100000 in
theorem cdX2_countRoads : Cond.code yX2_countRoads cX2_countRoads 3 (some .int) ∈ TB := TB_of (tin_5 (TB_at 154 rfl)) rfl
set_option maxRecDepth 100000 in
theorem imX2_countRoads : Cond.instanceMethod yX2_countRoads ∈ TB := TB_of (tin_5 (TB_at 152 rfl)) rfl
set_option maxRecDepth 100000 in
theorem seX2_countRoads : Cond.selects RX2 yX2_countRoads yX2_countRoads ∈ TB := TB_of (tin_5 (TB_at 153 rfl)) rfl
theorem kX2_countRoads : MKv mX2_countRoads 0 := ⟨imX2_countRoads, seX2_countRoads, iniX2, cdX2_countRoads, ⟨by decide +kernel, by decide +kernel⟩, by decide +kernel, by decide⟩
abbrev mX2_sideOf : MT := (yX2_sideOf, cX2_sideOf, 3, (some .int))
set_option maxRecDepth 100000 in
theorem cdX2_sideOf : Cond.code yX2_sideOf cX2_sideOf 3 (some .int) ∈ TB := TB_of (tin_3 (TB_at 204 rfl)) rfl
set_option maxRecDepth 100000 in
theorem imX2_sideOf : Cond.instanceMethod yX2_sideOf ∈ TB := TB_of (tin_3 (TB_at 202 rfl)) rfl
set_option maxRecDepth 100000 in
theorem seX2_sideOf : Cond.selects RX2 yX2_sideOf yX2_sideOf ∈ TB := TB_of (tin_3 (TB_at 203 rfl)) rfl
theorem kX2_sideOf : MKv mX2_sideOf 2 := ⟨imX2_sideOf, seX2_sideOf, iniX2, cdX2_sideOf, ⟨by decide +kernel, by decide +kernel⟩, by decide +kernel, by decide⟩
abbrev mX2_possible : MT := (yX2_possible, cX2_possible, 5, (some .int))
set_option maxRecDepth 100000 in
theorem cdX2_possible : Cond.code yX2_possible cX2_possible 5 (some .int) ∈ TB := TB_of (tin_3 (TB_at 196 rfl)) rfl
set_option maxRecDepth 100000 in
theorem imX2_possible : Cond.instanceMethod yX2_possible ∈ TB := TB_of (tin_3 (TB_at 194 rfl)) rfl
set_option maxRecDepth 100000 in
theorem seX2_possible : Cond.selects RX2 yX2_possible yX2_possible ∈ TB := TB_of (tin_3 (TB_at 195 rfl)) rfl
theorem kX2_possible : MKv mX2_possible 2 := ⟨imX2_possible, seX2_possible, iniX2, cdX2_possible, ⟨by decide +kernel, by decide +kernel⟩, by decide +kernel, by decide⟩
abbrev mX2_isKnown : MT := (yX2_isKnown, cX2_isKnown, 4, (some .boolean))
set_option maxRecDepth 100000 in
theorem cdX2_isKnown : Cond.code yX2_isKnown cX2_isKnown 4 (some .boolean) ∈ TB := TB_of (tin_3 (TB_at 212 rfl)) rfl
set_option maxRecDepth 100000 in
theorem imX2_isKnown : Cond.instanceMethod yX2_isKnown ∈ TB := TB_of (tin_3 (TB_at 210 rfl)) rfl
set_option maxRecDepth 100000 in
theorem seX2_isKnown : Cond.selects RX2 yX2_isKnown yX2_isKnown ∈ TB := TB_of (tin_3 (TB_at 211 rfl)) rfl
theorem kX2_isKnown : MKv mX2_isKnown 2 := ⟨imX2_isKnown, seX2_isKnown, iniX2, cdX2_isKnown, ⟨by decide +kernel, by decide +kernel⟩, by decide +kernel, by decide⟩
abbrev mX2_knownBy : MT := (yX2_knownBy, cX2_knownBy, 4, (some .int))
set_option maxRecDepth 100000 in
theorem cdX2_knownBy : Cond.code yX2_knownBy cX2_knownBy 4 (some .int) ∈ TB := TB_of (tin_3 (TB_at 208 rfl)) rfl
set_option maxRecDepth 100000 in
theorem imX2_knownBy : Cond.instanceMethod yX2_knownBy ∈ TB := TB_of (tin_3 (TB_at 206 rfl)) rfl
set_option maxRecDepth 100000 in
theorem seX2_knownBy : Cond.selects RX2 yX2_knownBy yX2_knownBy ∈ TB := TB_of (tin_3 (TB_at 207 rfl)) rfl
theorem kX2_knownBy : MKv mX2_knownBy 1 := ⟨imX2_knownBy, seX2_knownBy, iniX2, cdX2_knownBy, ⟨by decide +kernel, by decide +kernel⟩, by decide +kernel, by decide⟩
abbrev mX2_isGuiltKnown : MT := (yX2_isGuiltKnown, cX2_isGuiltKnown, 3, (some .boolean))
set_option maxRecDepth 100000 in
theorem cdX2_isGuiltKnown : Cond.code yX2_isGuiltKnown cX2_isGuiltKnown 3 (some .boolean) ∈ TB := TB_of (tin_3 (TB_at 216 rfl)) rfl
set_option maxRecDepth 100000 in
theorem imX2_isGuiltKnown : Cond.instanceMethod yX2_isGuiltKnown ∈ TB := TB_of (tin_3 (TB_at 214 rfl)) rfl
set_option maxRecDepth 100000 in
theorem seX2_isGuiltKnown : Cond.selects RX2 yX2_isGuiltKnown yX2_isGuiltKnown ∈ TB := TB_of (tin_3 (TB_at 215 rfl)) rfl
theorem kX2_isGuiltKnown : MKv mX2_isGuiltKnown 1 := ⟨imX2_isGuiltKnown, seX2_isGuiltKnown, iniX2, cdX2_isGuiltKnown, ⟨by decide +kernel, by decide +kernel⟩, by decide +kernel, by decide⟩
abbrev mX2_weightOf : MT := (yX2_weightOf, cX2_weightOf, 4, (some .int))
set_option maxRecDepth 100000 in
theorem cdX2_weightOf : Cond.code yX2_weightOf cX2_weightOf 4 (some .int) ∈ TB := TB_of (tin_4 (TB_at 88 rfl)) rfl
set_option maxRecDepth 100000 in
theorem imX2_weightOf : Cond.instanceMethod yX2_weightOf ∈ TB := TB_of (tin_4 (TB_at 86 rfl)) rfl
set_option maxRecDepth 100000 in
theorem seX2_weightOf : Cond.selects RX2 yX2_weightOf yX2_weightOf ∈ TB := TB_of (tin_4 (TB_at 87 rfl)) rfl
theorem kX2_weightOf : MKv mX2_weightOf 1 := ⟨imX2_weightOf, seX2_weightOf, iniX2, cdX2_weightOf, ⟨by decide +kernel, by decide +kernel⟩, by decide +kernel, by decide⟩
abbrev mX2_amountOf : MT := (yX2_amountOf, cX2_amountOf, 3, (some .int))
set_option maxRecDepth 100000 in
theorem cdX2_amountOf : Cond.code yX2_amountOf cX2_amountOf 3 (some .int) ∈ TB := TB_of (tin_4 (TB_at 80 rfl)) rfl
set_option maxRecDepth 100000 in
theorem imX2_amountOf : Cond.instanceMethod yX2_amountOf ∈ TB := TB_of (tin_4 (TB_at 78 rfl)) rfl
set_option maxRecDepth 100000 in
theorem seX2_amountOf : Cond.selects RX2 yX2_amountOf yX2_amountOf ∈ TB := TB_of (tin_4 (TB_at 79 rfl)) rfl
theorem kX2_amountOf : MKv mX2_amountOf 2 := ⟨imX2_amountOf, seX2_amountOf, iniX2, cdX2_amountOf, ⟨by decide +kernel, by decide +kernel⟩, by decide +kernel, by decide⟩
abbrev mX2_leastBy : MT := (yX2_leastBy, cX2_leastBy, 8, (some .int))
set_option maxRecDepth 100000 in
theorem cdX2_leastBy : Cond.code yX2_leastBy cX2_leastBy 8 (some .int) ∈ TB := TB_of (tin_4 (TB_at 75 rfl)) rfl
set_option maxRecDepth 100000 in
theorem imX2_leastBy : Cond.instanceMethod yX2_leastBy ∈ TB := TB_of (tin_4 (TB_at 73 rfl)) rfl
set_option maxRecDepth 100000 in
theorem seX2_leastBy : Cond.selects RX2 yX2_leastBy yX2_leastBy ∈ TB := TB_of (tin_4 (TB_at 74 rfl)) rfl
theorem kX2_leastBy : MKv mX2_leastBy 3 := ⟨imX2_leastBy, seX2_leastBy, iniX2, cdX2_leastBy, ⟨by decide +kernel, by decide +kernel⟩, by decide +kernel, by decide⟩
abbrev mX2_isRight : MT := (yX2_isRight, cX2_isRight, 5, (some .boolean))
set_option maxRecDepth 100000 in
theorem cdX2_isRight : Cond.code yX2_isRight cX2_isRight 5 (some .boolean) ∈ TB := TB_of (tin_5 (TB_at 53 rfl)) rfl
set_option maxRecDepth 100000 in
theorem imX2_isRight : Cond.instanceMethod yX2_isRight ∈ TB := TB_of (tin_5 (TB_at 51 rfl)) rfl
set_option maxRecDepth 100000 in
theorem seX2_isRight : Cond.selects RX2 yX2_isRight yX2_isRight ∈ TB := TB_of (tin_5 (TB_at 52 rfl)) rfl
theorem kX2_isRight : MKv mX2_isRight 2 := ⟨imX2_isRight, seX2_isRight, iniX2, cdX2_isRight, ⟨by decide +kernel, by decide +kernel⟩, by decide +kernel, by decide⟩
abbrev mX2_stepFrom : MT := (yX2_stepFrom, cX2_stepFrom, 6, (some .int))
set_option maxRecDepth 100000 in
theorem cdX2_stepFrom : Cond.code yX2_stepFrom cX2_stepFrom 6 (some .int) ∈ TB := TB_of (tin_4 (TB_at 118 rfl)) rfl
set_option maxRecDepth 100000 in
theorem imX2_stepFrom : Cond.instanceMethod yX2_stepFrom ∈ TB := TB_of (tin_4 (TB_at 116 rfl)) rfl
set_option maxRecDepth 100000 in
theorem seX2_stepFrom : Cond.selects RX2 yX2_stepFrom yX2_stepFrom ∈ TB := TB_of (tin_4 (TB_at 117 rfl)) rfl
theorem kX2_stepFrom : MKv mX2_stepFrom 2 := ⟨imX2_stepFrom, seX2_stepFrom, iniX2, cdX2_stepFrom, ⟨by decide +kernel, by decide +kernel⟩, by decide +kernel, by decide⟩
abbrev mX2_isDeed : MT := (yX2_isDeed, cX2_isDeed, 3, (some .boolean))
set_option maxRecDepth 100000 in
theorem cdX2_isDeed : Cond.code yX2_isDeed cX2_isDeed 3 (some .boolean) ∈ TB := TB_of (tin_4 (TB_at 57 rfl)) rfl
set_option maxRecDepth 100000 in
theorem imX2_isDeed : Cond.instanceMethod yX2_isDeed ∈ TB := TB_of (tin_4 (TB_at 55 rfl)) rfl
set_option maxRecDepth 100000 in
theorem seX2_isDeed : Cond.selects RX2 yX2_isDeed yX2_isDeed ∈ TB := TB_of (tin_4 (TB_at 56 rfl)) rfl
theorem kX2_isDeed : MKv mX2_isDeed 1 := ⟨imX2_isDeed, seX2_isDeed, iniX2, cdX2_isDeed, ⟨by decide +kernel, by decide +kernel⟩, by decide +kernel, by decide⟩
abbrev mX2_deedsAhead : MT := (yX2_deedsAhead, cX2_deedsAhead, 3, (some .int))
set_option maxRecDepth 100000 in
theorem cdX2_deedsAhead : Cond.code yX2_deedsAhead cX2_deedsAhead 3 (some .int) ∈ TB := TB_of (tin_4 (TB_at 53 rfl)) rfl
set_option maxRecDepth 100000 in
theorem imX2_deedsAhead : Cond.instanceMethod yX2_deedsAhead ∈ TB := TB_of (tin_4 (TB_at 51 rfl)) rfl
set_option maxRecDepth 100000 in
theorem seX2_deedsAhead : Cond.selects RX2 yX2_deedsAhead yX2_deedsAhead ∈ TB := TB_of (tin_4 (TB_at 52 rfl)) rfl
theorem kX2_deedsAhead : MKv mX2_deedsAhead 1 := ⟨imX2_deedsAhead, seX2_deedsAhead, iniX2, cdX2_deedsAhead, ⟨by decide +kernel, by decide +kernel⟩, by decide +kernel, by decide⟩
abbrev mX3_init : MT := (yX3_init, cX3_init, 1, none)
abbrev mX3_judgeAll : MT := (yX3_judgeAll, cX3_judgeAll, 9, none)
set_option maxRecDepth 100000 in
theorem cdX3_judgeAll : Cond.code yX3_judgeAll cX3_judgeAll 9 none ∈ TB := TB_of (tin_4 (TB_at 226 rfl)) rfl
set_option maxRecDepth 100000 in
theorem imX3_judgeAll : Cond.instanceMethod yX3_judgeAll ∈ TB := TB_of (tin_4 (TB_at 224 rfl)) rfl
set_option maxRecDepth 100000 in
theorem seX3_judgeAll : Cond.selects RX3 yX3_judgeAll yX3_judgeAll ∈ TB := TB_of (tin_4 (TB_at 225 rfl)) rfl
theorem kX3_judgeAll : MKv mX3_judgeAll 3 := ⟨imX3_judgeAll, seX3_judgeAll, iniX3, cdX3_judgeAll, ⟨by decide +kernel, by decide +kernel⟩, by decide +kernel, by decide⟩
abbrev mX3_choose : MT := (yX3_choose, cX3_choose, 4, (some .int))
set_option maxRecDepth 100000 in
theorem cdX3_choose : Cond.code yX3_choose cX3_choose 4 (some .int) ∈ TB := TB_of (tin_4 (TB_at 233 rfl)) rfl
set_option maxRecDepth 100000 in
theorem imX3_choose : Cond.instanceMethod yX3_choose ∈ TB := TB_of (tin_4 (TB_at 232 rfl)) rfl
set_option maxRecDepth 100000 in
theorem seX3_choose : Cond.selects RX3 yX3_choose yX3_choose ∈ TB := TB_of (tin_0 (TB_at 35 rfl)) rfl
theorem kX3_choose : MKv mX3_choose 1 := ⟨imX3_choose, seX3_choose, iniX3, cdX3_choose, ⟨by decide +kernel, by decide +kernel⟩, by decide +kernel, by decide⟩
abbrev mX3_takeBack : MT := (yX3_takeBack, cX3_takeBack, 3, none)
set_option maxRecDepth 100000 in
theorem cdX3_takeBack : Cond.code yX3_takeBack cX3_takeBack 3 none ∈ TB := TB_of (tin_5 (TB_at 1 rfl)) rfl
set_option maxRecDepth 100000 in
theorem imX3_takeBack : Cond.instanceMethod yX3_takeBack ∈ TB := TB_of (tin_5 (TB_at 0 rfl)) rfl
set_option maxRecDepth 100000 in
theorem seX3_takeBack : Cond.selects RX3 yX3_takeBack yX3_takeBack ∈ TB := TB_of (tin_0 (TB_at 37 rfl)) rfl
theorem kX3_takeBack : MKv mX3_takeBack 2 := ⟨imX3_takeBack, seX3_takeBack, iniX3, cdX3_takeBack, ⟨by decide +kernel, by decide +kernel⟩, by decide +kernel, by decide⟩
abbrev mX3_mostOf : MT := (yX3_mostOf, cX3_mostOf, 4, (some .int))
set_option maxRecDepth 100000 in
theorem cdX3_mostOf : Cond.code yX3_mostOf cX3_mostOf 4 (some .int) ∈ TB := TB_of (tin_4 (TB_at 237 rfl)) rfl
set_option maxRecDepth 100000 in
theorem imX3_mostOf : Cond.instanceMethod yX3_mostOf ∈ TB := TB_of (tin_4 (TB_at 236 rfl)) rfl
set_option maxRecDepth 100000 in
theorem seX3_mostOf : Cond.selects RX3 yX3_mostOf yX3_mostOf ∈ TB := TB_of (tin_0 (TB_at 36 rfl)) rfl
theorem kX3_mostOf : MKv mX3_mostOf 1 := ⟨imX3_mostOf, seX3_mostOf, iniX3, cdX3_mostOf, ⟨by decide +kernel, by decide +kernel⟩, by decide +kernel, by decide⟩
abbrev mX3_findRest : MT := (yX3_findRest, cX3_findRest, 7, (some .boolean))
set_option maxRecDepth 100000 in
theorem cdX3_findRest : Cond.code yX3_findRest cX3_findRest 7 (some .boolean) ∈ TB := TB_of (tin_5 (TB_at 5 rfl)) rfl
set_option maxRecDepth 100000 in
theorem imX3_findRest : Cond.instanceMethod yX3_findRest ∈ TB := TB_of (tin_5 (TB_at 3 rfl)) rfl
set_option maxRecDepth 100000 in
theorem seX3_findRest : Cond.selects RX3 yX3_findRest yX3_findRest ∈ TB := TB_of (tin_5 (TB_at 4 rfl)) rfl
theorem kX3_findRest : MKv mX3_findRest 2 := ⟨imX3_findRest, seX3_findRest, iniX3, cdX3_findRest, ⟨by decide +kernel, by decide +kernel⟩, by decide +kernel, by decide⟩
abbrev mX3_canGet : MT := (yX3_canGet, cX3_canGet, 4, (some .boolean))
set_option maxRecDepth 100000 in
theorem cdX3_canGet : Cond.code yX3_canGet cX3_canGet 4 (some .boolean) ∈ TB := TB_of (tin_5 (TB_at 9 rfl)) rfl
set_option maxRecDepth 100000 in
theorem imX3_canGet : Cond.instanceMethod yX3_canGet ∈ TB := TB_of (tin_5 (TB_at 8 rfl)) rfl
set_option maxRecDepth 100000 in
theorem seX3_canGet : Cond.selects RX3 yX3_canGet yX3_canGet ∈ TB := TB_of (tin_0 (TB_at 38 rfl)) rfl
theorem kX3_canGet : MKv mX3_canGet 2 := ⟨imX3_canGet, seX3_canGet, iniX3, cdX3_canGet, ⟨by decide +kernel, by decide +kernel⟩, by decide +kernel, by decide⟩
abbrev mX3_choice : MT := (yX3_choice, cX3_choice, 2, (some .int))
set_option maxRecDepth 100000 in
theorem cdX3_choice : Cond.code yX3_choice cX3_choice 2 (some .int) ∈ TB := TB_of (tin_5 (TB_at 13 rfl)) rfl
set_option maxRecDepth 100000 in
theorem imX3_choice : Cond.instanceMethod yX3_choice ∈ TB := TB_of (tin_5 (TB_at 11 rfl)) rfl
set_option maxRecDepth 100000 in
theorem seX3_choice : Cond.selects RX3 yX3_choice yX3_choice ∈ TB := TB_of (tin_5 (TB_at 12 rfl)) rfl
theorem kX3_choice : MKv mX3_choice 1 := ⟨imX3_choice, seX3_choice, iniX3, cdX3_choice, ⟨by decide +kernel, by decide +kernel⟩, by decide +kernel, by decide⟩
abbrev mX4_init : MT := (yX4_init, cX4_init, 1, none)
abbrev mX4_forget : MT := (yX4_forget, cX4_forget, 1, none)
set_option maxRecDepth 100000 in
theorem cdX4_forget : Cond.code yX4_forget cX4_forget 1 none ∈ TB := TB_of (tin_3 (TB_at 156 rfl)) rfl
set_option maxRecDepth 100000 in
theorem imX4_forget : Cond.instanceMethod yX4_forget ∈ TB := TB_of (tin_3 (TB_at 154 rfl)) rfl
set_option maxRecDepth 100000 in
theorem seX4_forget : Cond.selects RX4 yX4_forget yX4_forget ∈ TB := TB_of (tin_3 (TB_at 155 rfl)) rfl
theorem kX4_forget : MKv mX4_forget 0 := ⟨imX4_forget, seX4_forget, iniX4, cdX4_forget, ⟨by decide +kernel, by decide +kernel⟩, by decide +kernel, by decide⟩
abbrev mX4_keep : MT := (yX4_keep, cX4_keep, 2, none)
set_option maxRecDepth 100000 in
theorem cdX4_keep : Cond.code yX4_keep cX4_keep 2 none ∈ TB := TB_of (tin_3 (TB_at 237 rfl)) rfl
set_option maxRecDepth 100000 in
theorem imX4_keep : Cond.instanceMethod yX4_keep ∈ TB := TB_of (tin_3 (TB_at 235 rfl)) rfl
set_option maxRecDepth 100000 in
theorem seX4_keep : Cond.selects RX4 yX4_keep yX4_keep ∈ TB := TB_of (tin_3 (TB_at 236 rfl)) rfl
theorem kX4_keep : MKv mX4_keep 1 := ⟨imX4_keep, seX4_keep, iniX4, cdX4_keep, ⟨by decide +kernel, by decide +kernel⟩, by decide +kernel, by decide⟩
abbrev mX4_goBack : MT := (yX4_goBack, cX4_goBack, 3, none)
set_option maxRecDepth 100000 in
theorem cdX4_goBack : Cond.code yX4_goBack cX4_goBack 3 none ∈ TB := TB_of (tin_4 (TB_at 38 rfl)) rfl
set_option maxRecDepth 100000 in
theorem imX4_goBack : Cond.instanceMethod yX4_goBack ∈ TB := TB_of (tin_4 (TB_at 36 rfl)) rfl
set_option maxRecDepth 100000 in
theorem seX4_goBack : Cond.selects RX4 yX4_goBack yX4_goBack ∈ TB := TB_of (tin_4 (TB_at 37 rfl)) rfl
theorem kX4_goBack : MKv mX4_goBack 2 := ⟨imX4_goBack, seX4_goBack, iniX4, cdX4_goBack, ⟨by decide +kernel, by decide +kernel⟩, by decide +kernel, by decide⟩
abbrev mX5_init : MT := (yX5_init, cX5_init, 1, none)
abbrev mX5_read : MT := (yX5_read, cX5_read, 4, (some .int))
set_option maxRecDepth 100000 in
theorem cdX5_read : Cond.code yX5_read cX5_read 4 (some .int) ∈ TB := TB_of (tin_2 (TB_at 166 rfl)) rfl
set_option maxRecDepth 100000 in
theorem imX5_read : Cond.instanceMethod yX5_read ∈ TB := TB_of (tin_2 (TB_at 164 rfl)) rfl
set_option maxRecDepth 100000 in
theorem seX5_read : Cond.selects RX5 yX5_read yX5_read ∈ TB := TB_of (tin_2 (TB_at 165 rfl)) rfl
theorem kX5_read : MKv mX5_read 2 := ⟨imX5_read, seX5_read, iniX5, cdX5_read, ⟨by decide +kernel, by decide +kernel⟩, by decide +kernel, by decide⟩
abbrev mX5_kind : MT := (yX5_kind, cX5_kind, 1, (some .int))
set_option maxRecDepth 100000 in
theorem cdX5_kind : Cond.code yX5_kind cX5_kind 1 (some .int) ∈ TB := TB_of (tin_3 (TB_at 36 rfl)) rfl
set_option maxRecDepth 100000 in
theorem imX5_kind : Cond.instanceMethod yX5_kind ∈ TB := TB_of (tin_3 (TB_at 35 rfl)) rfl
set_option maxRecDepth 100000 in
theorem seX5_kind : Cond.selects RX5 yX5_kind yX5_kind ∈ TB := TB_of (tin_0 (TB_at 1 rfl)) rfl
theorem kX5_kind : MKv mX5_kind 0 := ⟨imX5_kind, seX5_kind, iniX5, cdX5_kind, ⟨by decide +kernel, by decide +kernel⟩, by decide +kernel, by decide⟩
abbrev mX5_goOn : MT := (yX5_goOn, cX5_goOn, 1, none)
set_option maxRecDepth 100000 in
theorem cdX5_goOn : Cond.code yX5_goOn cX5_goOn 1 none ∈ TB := TB_of (tin_3 (TB_at 52 rfl)) rfl
set_option maxRecDepth 100000 in
theorem imX5_goOn : Cond.instanceMethod yX5_goOn ∈ TB := TB_of (tin_3 (TB_at 51 rfl)) rfl
set_option maxRecDepth 100000 in
theorem seX5_goOn : Cond.selects RX5 yX5_goOn yX5_goOn ∈ TB := TB_of (tin_0 (TB_at 5 rfl)) rfl
theorem kX5_goOn : MKv mX5_goOn 0 := ⟨imX5_goOn, seX5_goOn, iniX5, cdX5_goOn, ⟨by decide +kernel, by decide +kernel⟩, by decide +kernel, by decide⟩
abbrev mX5_refuse : MT := (yX5_refuse, cX5_refuse, 2, none)
set_option maxRecDepth 100000 in
theorem cdX5_refuse : Cond.code yX5_refuse cX5_refuse 2 none ∈ TB := TB_of (tin_3 (TB_at 48 rfl)) rfl
set_option maxRecDepth 100000 in
theorem imX5_refuse : Cond.instanceMethod yX5_refuse ∈ TB := TB_of (tin_3 (TB_at 47 rfl)) rfl
set_option maxRecDepth 100000 in
theorem seX5_refuse : Cond.selects RX5 yX5_refuse yX5_refuse ∈ TB := TB_of (tin_0 (TB_at 4 rfl)) rfl
theorem kX5_refuse : MKv mX5_refuse 1 := ⟨imX5_refuse, seX5_refuse, iniX5, cdX5_refuse, ⟨by decide +kernel, by decide +kernel⟩, by decide +kernel, by decide⟩
abbrev mX5_take : MT := (yX5_take, cX5_take, 2, none)
set_option maxRecDepth 100000 in
theorem cdX5_take : Cond.code yX5_take cX5_take 2 none ∈ TB := TB_of (tin_3 (TB_at 64 rfl)) rfl
set_option maxRecDepth 100000 in
theorem imX5_take : Cond.instanceMethod yX5_take ∈ TB := TB_of (tin_3 (TB_at 63 rfl)) rfl
set_option maxRecDepth 100000 in
theorem seX5_take : Cond.selects RX5 yX5_take yX5_take ∈ TB := TB_of (tin_0 (TB_at 8 rfl)) rfl
theorem kX5_take : MKv mX5_take 1 := ⟨imX5_take, seX5_take, iniX5, cdX5_take, ⟨by decide +kernel, by decide +kernel⟩, by decide +kernel, by decide⟩
abbrev mX5_takeNumber : MT := (yX5_takeNumber, cX5_takeNumber, 4, (some .int))
set_option maxRecDepth 100000 in
theorem cdX5_takeNumber : Cond.code yX5_takeNumber cX5_takeNumber 4 (some .int) ∈ TB := TB_of (tin_3 (TB_at 56 rfl)) rfl
set_option maxRecDepth 100000 in
theorem imX5_takeNumber : Cond.instanceMethod yX5_takeNumber ∈ TB := TB_of (tin_3 (TB_at 55 rfl)) rfl
set_option maxRecDepth 100000 in
theorem seX5_takeNumber : Cond.selects RX5 yX5_takeNumber yX5_takeNumber ∈ TB := TB_of (tin_0 (TB_at 6 rfl)) rfl
theorem kX5_takeNumber : MKv mX5_takeNumber 2 := ⟨imX5_takeNumber, seX5_takeNumber, iniX5, cdX5_takeNumber, ⟨by decide +kernel, by decide +kernel⟩, by decide +kernel, by decide⟩
abbrev mX5_readLine : MT := (yX5_readLine, cX5_readLine, 1, none)
set_option maxRecDepth 100000 in
theorem cdX5_readLine : Cond.code yX5_readLine cX5_readLine 1 none ∈ TB := TB_of (tin_3 (TB_at 40 rfl)) rfl
set_option maxRecDepth 100000 in
theorem imX5_readLine : Cond.instanceMethod yX5_readLine ∈ TB := TB_of (tin_3 (TB_at 39 rfl)) rfl
set_option maxRecDepth 100000 in
theorem seX5_readLine : Cond.selects RX5 yX5_readLine yX5_readLine ∈ TB := TB_of (tin_0 (TB_at 2 rfl)) rfl
theorem kX5_readLine : MKv mX5_readLine 0 := ⟨imX5_readLine, seX5_readLine, iniX5, cdX5_readLine, ⟨by decide +kernel, by decide +kernel⟩, by decide +kernel, by decide⟩
abbrev mX5_readWorld : MT := (yX5_readWorld, cX5_readWorld, 3, none)
set_option maxRecDepth 100000 in
theorem cdX5_readWorld : Cond.code yX5_readWorld cX5_readWorld 3 none ∈ TB := TB_of (tin_3 (TB_at 44 rfl)) rfl
set_option maxRecDepth 100000 in
theorem imX5_readWorld : Cond.instanceMethod yX5_readWorld ∈ TB := TB_of (tin_3 (TB_at 43 rfl)) rfl
set_option maxRecDepth 100000 in
theorem seX5_readWorld : Cond.selects RX5 yX5_readWorld yX5_readWorld ∈ TB := TB_of (tin_0 (TB_at 3 rfl)) rfl
theorem kX5_readWorld : MKv mX5_readWorld 0 := ⟨imX5_readWorld, seX5_readWorld, iniX5, cdX5_readWorld, ⟨by decide +kernel, by decide +kernel⟩, by decide +kernel, by decide⟩
abbrev mX5_readFact : MT := (yX5_readFact, cX5_readFact, 1, none)
set_option maxRecDepth 100000 in
theorem cdX5_readFact : Cond.code yX5_readFact cX5_readFact 1 none ∈ TB := TB_of (tin_3 (TB_at 60 rfl)) rfl
set_option maxRecDepth 100000 in
theorem imX5_readFact : Cond.instanceMethod yX5_readFact ∈ TB := TB_of (tin_3 (TB_at 59 rfl)) rfl
set_option maxRecDepth 100000 in
theorem seX5_readFact : Cond.selects RX5 yX5_readFact yX5_readFact ∈ TB := TB_of (tin_0 (TB_at 7 rfl)) rfl
theorem kX5_readFact : MKv mX5_readFact 0 := ⟨imX5_readFact, seX5_readFact, iniX5, cdX5_readFact, ⟨by decide +kernel, by decide +kernel⟩, by decide +kernel, by decide⟩
abbrev mX5_readPerson : MT := (yX5_readPerson, cX5_readPerson, 3, none)
set_option maxRecDepth 100000 in
theorem cdX5_readPerson : Cond.code yX5_readPerson cX5_readPerson 3 none ∈ TB := TB_of (tin_3 (TB_at 104 rfl)) rfl
set_option maxRecDepth 100000 in
theorem imX5_readPerson : Cond.instanceMethod yX5_readPerson ∈ TB := TB_of (tin_3 (TB_at 103 rfl)) rfl
set_option maxRecDepth 100000 in
theorem seX5_readPerson : Cond.selects RX5 yX5_readPerson yX5_readPerson ∈ TB := TB_of (tin_0 (TB_at 16 rfl)) rfl
theorem kX5_readPerson : MKv mX5_readPerson 0 := ⟨imX5_readPerson, seX5_readPerson, iniX5, cdX5_readPerson, ⟨by decide +kernel, by decide +kernel⟩, by decide +kernel, by decide⟩
abbrev mX5_readRoad : MT := (yX5_readRoad, cX5_readRoad, 3, none)
set_option maxRecDepth 100000 in
theorem cdX5_readRoad : Cond.code yX5_readRoad cX5_readRoad 3 none ∈ TB := TB_of (tin_3 (TB_at 108 rfl)) rfl
set_option maxRecDepth 100000 in
theorem imX5_readRoad : Cond.instanceMethod yX5_readRoad ∈ TB := TB_of (tin_3 (TB_at 107 rfl)) rfl
set_option maxRecDepth 100000 in
theorem seX5_readRoad : Cond.selects RX5 yX5_readRoad yX5_readRoad ∈ TB := TB_of (tin_0 (TB_at 17 rfl)) rfl
theorem kX5_readRoad : MKv mX5_readRoad 0 := ⟨imX5_readRoad, seX5_readRoad, iniX5, cdX5_readRoad, ⟨by decide +kernel, by decide +kernel⟩, by decide +kernel, by decide⟩
abbrev mX5_readHint : MT := (yX5_readHint, cX5_readHint, 2, none)
set_option maxRecDepth 100000 in
theorem cdX5_readHint : Cond.code yX5_readHint cX5_readHint 2 none ∈ TB := TB_of (tin_3 (TB_at 112 rfl)) rfl
set_option maxRecDepth 100000 in
theorem imX5_readHint : Cond.instanceMethod yX5_readHint ∈ TB := TB_of (tin_3 (TB_at 111 rfl)) rfl
set_option maxRecDepth 100000 in
theorem seX5_readHint : Cond.selects RX5 yX5_readHint yX5_readHint ∈ TB := TB_of (tin_0 (TB_at 18 rfl)) rfl
theorem kX5_readHint : MKv mX5_readHint 0 := ⟨imX5_readHint, seX5_readHint, iniX5, cdX5_readHint, ⟨by decide +kernel, by decide +kernel⟩, by decide +kernel, by decide⟩
abbrev mX5_isTooDeep : MT := (yX5_isTooDeep, cX5_isTooDeep, 2, (some .boolean))
set_option maxRecDepth 100000 in
theorem cdX5_isTooDeep : Cond.code yX5_isTooDeep cX5_isTooDeep 2 (some .boolean) ∈ TB := TB_of (tin_3 (TB_at 96 rfl)) rfl
set_option maxRecDepth 100000 in
theorem imX5_isTooDeep : Cond.instanceMethod yX5_isTooDeep ∈ TB := TB_of (tin_3 (TB_at 95 rfl)) rfl
set_option maxRecDepth 100000 in
theorem seX5_isTooDeep : Cond.selects RX5 yX5_isTooDeep yX5_isTooDeep ∈ TB := TB_of (tin_0 (TB_at 15 rfl)) rfl
theorem kX5_isTooDeep : MKv mX5_isTooDeep 1 := ⟨imX5_isTooDeep, seX5_isTooDeep, iniX5, cdX5_isTooDeep, ⟨by decide +kernel, by decide +kernel⟩, by decide +kernel, by decide⟩
abbrev mX5_readTruth : MT := (yX5_readTruth, cX5_readTruth, 3, none)
set_option maxRecDepth 100000 in
theorem cdX5_readTruth : Cond.code yX5_readTruth cX5_readTruth 3 none ∈ TB := TB_of (tin_3 (TB_at 68 rfl)) rfl
set_option maxRecDepth 100000 in
theorem imX5_readTruth : Cond.instanceMethod yX5_readTruth ∈ TB := TB_of (tin_3 (TB_at 67 rfl)) rfl
set_option maxRecDepth 100000 in
theorem seX5_readTruth : Cond.selects RX5 yX5_readTruth yX5_readTruth ∈ TB := TB_of (tin_0 (TB_at 9 rfl)) rfl
theorem kX5_readTruth : MKv mX5_readTruth 1 := ⟨imX5_readTruth, seX5_readTruth, iniX5, cdX5_readTruth, ⟨by decide +kernel, by decide +kernel⟩, by decide +kernel, by decide⟩
abbrev mX5_readBoth : MT := (yX5_readBoth, cX5_readBoth, 3, none)
set_option maxRecDepth 100000 in
theorem cdX5_readBoth : Cond.code yX5_readBoth cX5_readBoth 3 none ∈ TB := TB_of (tin_3 (TB_at 72 rfl)) rfl
set_option maxRecDepth 100000 in
theorem imX5_readBoth : Cond.instanceMethod yX5_readBoth ∈ TB := TB_of (tin_3 (TB_at 71 rfl)) rfl
set_option maxRecDepth 100000 in
theorem seX5_readBoth : Cond.selects RX5 yX5_readBoth yX5_readBoth ∈ TB := TB_of (tin_0 (TB_at 10 rfl)) rfl
theorem kX5_readBoth : MKv mX5_readBoth 1 := ⟨imX5_readBoth, seX5_readBoth, iniX5, cdX5_readBoth, ⟨by decide +kernel, by decide +kernel⟩, by decide +kernel, by decide⟩
abbrev mX5_readUnit : MT := (yX5_readUnit, cX5_readUnit, 4, none)
set_option maxRecDepth 100000 in
theorem cdX5_readUnit : Cond.code yX5_readUnit cX5_readUnit 4 none ∈ TB := TB_of (tin_3 (TB_at 76 rfl)) rfl
set_option maxRecDepth 100000 in
theorem imX5_readUnit : Cond.instanceMethod yX5_readUnit ∈ TB := TB_of (tin_3 (TB_at 75 rfl)) rfl
set_option maxRecDepth 100000 in
theorem seX5_readUnit : Cond.selects RX5 yX5_readUnit yX5_readUnit ∈ TB := TB_of (tin_0 (TB_at 11 rfl)) rfl
theorem kX5_readUnit : MKv mX5_readUnit 1 := ⟨imX5_readUnit, seX5_readUnit, iniX5, cdX5_readUnit, ⟨by decide +kernel, by decide +kernel⟩, by decide +kernel, by decide⟩
abbrev mX5_readSum : MT := (yX5_readSum, cX5_readSum, 4, none)
set_option maxRecDepth 100000 in
theorem cdX5_readSum : Cond.code yX5_readSum cX5_readSum 4 none ∈ TB := TB_of (tin_3 (TB_at 80 rfl)) rfl
set_option maxRecDepth 100000 in
theorem imX5_readSum : Cond.instanceMethod yX5_readSum ∈ TB := TB_of (tin_3 (TB_at 79 rfl)) rfl
set_option maxRecDepth 100000 in
theorem seX5_readSum : Cond.selects RX5 yX5_readSum yX5_readSum ∈ TB := TB_of (tin_0 (TB_at 12 rfl)) rfl
theorem kX5_readSum : MKv mX5_readSum 1 := ⟨imX5_readSum, seX5_readSum, iniX5, cdX5_readSum, ⟨by decide +kernel, by decide +kernel⟩, by decide +kernel, by decide⟩
abbrev mX5_readTerm : MT := (yX5_readTerm, cX5_readTerm, 3, none)
set_option maxRecDepth 100000 in
theorem cdX5_readTerm : Cond.code yX5_readTerm cX5_readTerm 3 none ∈ TB := TB_of (tin_3 (TB_at 84 rfl)) rfl
set_option maxRecDepth 100000 in
theorem imX5_readTerm : Cond.instanceMethod yX5_readTerm ∈ TB := TB_of (tin_3 (TB_at 83 rfl)) rfl
set_option maxRecDepth 100000 in
theorem seX5_readTerm : Cond.selects RX5 yX5_readTerm yX5_readTerm ∈ TB := TB_of (tin_0 (TB_at 13 rfl)) rfl
theorem kX5_readTerm : MKv mX5_readTerm 1 := ⟨imX5_readTerm, seX5_readTerm, iniX5, cdX5_readTerm, ⟨by decide +kernel, by decide +kernel⟩, by decide +kernel, by decide⟩
abbrev mX5_readAtom : MT := (yX5_readAtom, cX5_readAtom, 2, none)
set_option maxRecDepth 100000 in
theorem cdX5_readAtom : Cond.code yX5_readAtom cX5_readAtom 2 none ∈ TB := TB_of (tin_3 (TB_at 88 rfl)) rfl
set_option maxRecDepth 100000 in
theorem imX5_readAtom : Cond.instanceMethod yX5_readAtom ∈ TB := TB_of (tin_3 (TB_at 87 rfl)) rfl
set_option maxRecDepth 100000 in
theorem seX5_readAtom : Cond.selects RX5 yX5_readAtom yX5_readAtom ∈ TB := TB_of (tin_0 (TB_at 14 rfl)) rfl
theorem kX5_readAtom : MKv mX5_readAtom 1 := ⟨imX5_readAtom, seX5_readAtom, iniX5, cdX5_readAtom, ⟨by decide +kernel, by decide +kernel⟩, by decide +kernel, by decide⟩
abbrev mX6_init : MT := (yX6_init, cX6_init, 1, none)
abbrev mX6_isMissing : MT := (yX6_isMissing, cX6_isMissing, 1, (some .boolean))
set_option maxRecDepth 100000 in
theorem cdX6_isMissing : Cond.code yX6_isMissing cX6_isMissing 1 (some .boolean) ∈ TB := TB_of (tin_4 (TB_at 49 rfl)) rfl
set_option maxRecDepth 100000 in
theorem imX6_isMissing : Cond.instanceMethod yX6_isMissing ∈ TB := TB_of (tin_4 (TB_at 47 rfl)) rfl
set_option maxRecDepth 100000 in
theorem seX6_isMissing : Cond.selects RX6 yX6_isMissing yX6_isMissing ∈ TB := TB_of (tin_4 (TB_at 48 rfl)) rfl
theorem kX6_isMissing : MKv mX6_isMissing 0 := ⟨imX6_isMissing, seX6_isMissing, iniX6, cdX6_isMissing, ⟨by decide +kernel, by decide +kernel⟩, by decide +kernel, by decide⟩
abbrev mX6_renew : MT := (yX6_renew, cX6_renew, 3, none)
set_option maxRecDepth 100000 in
theorem cdX6_renew : Cond.code yX6_renew cX6_renew 3 none ∈ TB := TB_of (tin_5 (TB_at 119 rfl)) rfl
set_option maxRecDepth 100000 in
theorem imX6_renew : Cond.instanceMethod yX6_renew ∈ TB := TB_of (tin_5 (TB_at 117 rfl)) rfl
set_option maxRecDepth 100000 in
theorem seX6_renew : Cond.selects RX6 yX6_renew yX6_renew ∈ TB := TB_of (tin_5 (TB_at 118 rfl)) rfl
theorem kX6_renew : MKv mX6_renew 2 := ⟨imX6_renew, seX6_renew, iniX6, cdX6_renew, ⟨by decide +kernel, by decide +kernel⟩, by decide +kernel, by decide⟩
abbrev mX6_put : MT := (yX6_put, cX6_put, 4, none)
set_option maxRecDepth 100000 in
theorem cdX6_put : Cond.code yX6_put cX6_put 4 none ∈ TB := TB_of (tin_5 (TB_at 133 rfl)) rfl
set_option maxRecDepth 100000 in
theorem imX6_put : Cond.instanceMethod yX6_put ∈ TB := TB_of (tin_5 (TB_at 131 rfl)) rfl
set_option maxRecDepth 100000 in
theorem seX6_put : Cond.selects RX6 yX6_put yX6_put ∈ TB := TB_of (tin_5 (TB_at 132 rfl)) rfl
theorem kX6_put : MKv mX6_put 2 := ⟨imX6_put, seX6_put, iniX6, cdX6_put, ⟨by decide +kernel, by decide +kernel⟩, by decide +kernel, by decide⟩
abbrev mX7_init : MT := (yX7_init, cX7_init, 1, none)
abbrev mX7_find : MT := (yX7_find, cX7_find, 6, none)
set_option maxRecDepth 100000 in
theorem cdX7_find : Cond.code yX7_find cX7_find 6 none ∈ TB := TB_of (tin_4 (TB_at 184 rfl)) rfl
set_option maxRecDepth 100000 in
theorem imX7_find : Cond.instanceMethod yX7_find ∈ TB := TB_of (tin_4 (TB_at 182 rfl)) rfl
set_option maxRecDepth 100000 in
theorem seX7_find : Cond.selects RX7 yX7_find yX7_find ∈ TB := TB_of (tin_4 (TB_at 183 rfl)) rfl
theorem kX7_find : MKv mX7_find 3 := ⟨imX7_find, seX7_find, iniX7, cdX7_find, ⟨by decide +kernel, by decide +kernel⟩, by decide +kernel, by decide⟩
abbrev mX7_findExtremes : MT := (yX7_findExtremes, cX7_findExtremes, 7, none)
set_option maxRecDepth 100000 in
theorem cdX7_findExtremes : Cond.code yX7_findExtremes cX7_findExtremes 7 none ∈ TB := TB_of (tin_4 (TB_at 191 rfl)) rfl
set_option maxRecDepth 100000 in
theorem imX7_findExtremes : Cond.instanceMethod yX7_findExtremes ∈ TB := TB_of (tin_4 (TB_at 190 rfl)) rfl
set_option maxRecDepth 100000 in
theorem seX7_findExtremes : Cond.selects RX7 yX7_findExtremes yX7_findExtremes ∈ TB := TB_of (tin_0 (TB_at 30 rfl)) rfl
theorem kX7_findExtremes : MKv mX7_findExtremes 3 := ⟨imX7_findExtremes, seX7_findExtremes, iniX7, cdX7_findExtremes, ⟨by decide +kernel, by decide +kernel⟩, by decide +kernel, by decide⟩
abbrev mX7_findBest : MT := (yX7_findBest, cX7_findBest, 8, none)
set_option maxRecDepth 100000 in
theorem cdX7_findBest : Cond.code yX7_findBest cX7_findBest 8 none ∈ TB := TB_of (tin_4 (TB_at 197 rfl)) rfl
set_option maxRecDepth 100000 in
theorem imX7_findBest : Cond.instanceMethod yX7_findBest ∈ TB := TB_of (tin_4 (TB_at 196 rfl)) rfl
set_option maxRecDepth 100000 in
theorem seX7_findBest : Cond.selects RX7 yX7_findBest yX7_findBest ∈ TB := TB_of (tin_0 (TB_at 31 rfl)) rfl
theorem kX7_findBest : MKv mX7_findBest 3 := ⟨imX7_findBest, seX7_findBest, iniX7, cdX7_findBest, ⟨by decide +kernel, by decide +kernel⟩, by decide +kernel, by decide⟩
abbrev mX7_takeIfBetter : MT := (yX7_takeIfBetter, cX7_takeIfBetter, 6, none)
set_option maxRecDepth 100000 in
theorem cdX7_takeIfBetter : Cond.code yX7_takeIfBetter cX7_takeIfBetter 6 none ∈ TB := TB_of (tin_4 (TB_at 206 rfl)) rfl
set_option maxRecDepth 100000 in
theorem imX7_takeIfBetter : Cond.instanceMethod yX7_takeIfBetter ∈ TB := TB_of (tin_4 (TB_at 205 rfl)) rfl
set_option maxRecDepth 100000 in
theorem seX7_takeIfBetter : Cond.selects RX7 yX7_takeIfBetter yX7_takeIfBetter ∈ TB := TB_of (tin_0 (TB_at 32 rfl)) rfl
theorem kX7_takeIfBetter : MKv mX7_takeIfBetter 2 := ⟨imX7_takeIfBetter, seX7_takeIfBetter, iniX7, cdX7_takeIfBetter, ⟨by decide +kernel, by decide +kernel⟩, by decide +kernel, by decide⟩
abbrev mX7_isAhead : MT := (yX7_isAhead, cX7_isAhead, 5, (some .boolean))
set_option maxRecDepth 100000 in
theorem cdX7_isAhead : Cond.code yX7_isAhead cX7_isAhead 5 (some .boolean) ∈ TB := TB_of (tin_4 (TB_at 210 rfl)) rfl
set_option maxRecDepth 100000 in
theorem imX7_isAhead : Cond.instanceMethod yX7_isAhead ∈ TB := TB_of (tin_4 (TB_at 209 rfl)) rfl
set_option maxRecDepth 100000 in
theorem seX7_isAhead : Cond.selects RX7 yX7_isAhead yX7_isAhead ∈ TB := TB_of (tin_0 (TB_at 33 rfl)) rfl
theorem kX7_isAhead : MKv mX7_isAhead 2 := ⟨imX7_isAhead, seX7_isAhead, iniX7, cdX7_isAhead, ⟨by decide +kernel, by decide +kernel⟩, by decide +kernel, by decide⟩
abbrev mX8_init : MT := (yX8_init, cX8_init, 1, none)
abbrev mX8_clear : MT := (yX8_clear, cX8_clear, 1, none)
set_option maxRecDepth 100000 in
theorem cdX8_clear : Cond.code yX8_clear cX8_clear 1 none ∈ TB := TB_of (tin_2 (TB_at 177 rfl)) rfl
set_option maxRecDepth 100000 in
theorem imX8_clear : Cond.instanceMethod yX8_clear ∈ TB := TB_of (tin_2 (TB_at 175 rfl)) rfl
set_option maxRecDepth 100000 in
theorem seX8_clear : Cond.selects RX8 yX8_clear yX8_clear ∈ TB := TB_of (tin_2 (TB_at 176 rfl)) rfl
theorem kX8_clear : MKv mX8_clear 0 := ⟨imX8_clear, seX8_clear, iniX8, cdX8_clear, ⟨by decide +kernel, by decide +kernel⟩, by decide +kernel, by decide⟩
abbrev mX8_become : MT := (yX8_become, cX8_become, 2, none)
set_option maxRecDepth 100000 in
theorem cdX8_become : Cond.code yX8_become cX8_become 2 none ∈ TB := TB_of (tin_3 (TB_at 151 rfl)) rfl
set_option maxRecDepth 100000 in
theorem imX8_become : Cond.instanceMethod yX8_become ∈ TB := TB_of (tin_3 (TB_at 149 rfl)) rfl
set_option maxRecDepth 100000 in
theorem seX8_become : Cond.selects RX8 yX8_become yX8_become ∈ TB := TB_of (tin_3 (TB_at 150 rfl)) rfl
theorem kX8_become : MKv mX8_become 1 := ⟨imX8_become, seX8_become, iniX8, cdX8_become, ⟨by decide +kernel, by decide +kernel⟩, by decide +kernel, by decide⟩
abbrev mX8_isAsked : MT := (yX8_isAsked, cX8_isAsked, 5, (some .boolean))
set_option maxRecDepth 100000 in
theorem cdX8_isAsked : Cond.code yX8_isAsked cX8_isAsked 5 (some .boolean) ∈ TB := TB_of (tin_4 (TB_at 12 rfl)) rfl
set_option maxRecDepth 100000 in
theorem imX8_isAsked : Cond.instanceMethod yX8_isAsked ∈ TB := TB_of (tin_4 (TB_at 10 rfl)) rfl
set_option maxRecDepth 100000 in
theorem seX8_isAsked : Cond.selects RX8 yX8_isAsked yX8_isAsked ∈ TB := TB_of (tin_4 (TB_at 11 rfl)) rfl
theorem kX8_isAsked : MKv mX8_isAsked 3 := ⟨imX8_isAsked, seX8_isAsked, iniX8, cdX8_isAsked, ⟨by decide +kernel, by decide +kernel⟩, by decide +kernel, by decide⟩
abbrev mX8_passDay : MT := (yX8_passDay, cX8_passDay, 5, (some .boolean))
set_option maxRecDepth 100000 in
theorem cdX8_passDay : Cond.code yX8_passDay cX8_passDay 5 (some .boolean) ∈ TB := TB_of (tin_4 (TB_at 26 rfl)) rfl
set_option maxRecDepth 100000 in
theorem imX8_passDay : Cond.instanceMethod yX8_passDay ∈ TB := TB_of (tin_4 (TB_at 25 rfl)) rfl
set_option maxRecDepth 100000 in
theorem seX8_passDay : Cond.selects RX8 yX8_passDay yX8_passDay ∈ TB := TB_of (tin_0 (TB_at 24 rfl)) rfl
theorem kX8_passDay : MKv mX8_passDay 1 := ⟨imX8_passDay, seX8_passDay, iniX8, cdX8_passDay, ⟨by decide +kernel, by decide +kernel⟩, by decide +kernel, by decide⟩
abbrev mX8_passDays : MT := (yX8_passDays, cX8_passDays, 4, (some .int))
set_option maxRecDepth 100000 in
theorem cdX8_passDays : Cond.code yX8_passDays cX8_passDays 4 (some .int) ∈ TB := TB_of (tin_4 (TB_at 22 rfl)) rfl
set_option maxRecDepth 100000 in
theorem imX8_passDays : Cond.instanceMethod yX8_passDays ∈ TB := TB_of (tin_4 (TB_at 20 rfl)) rfl
set_option maxRecDepth 100000 in
theorem seX8_passDays : Cond.selects RX8 yX8_passDays yX8_passDays ∈ TB := TB_of (tin_4 (TB_at 21 rfl)) rfl
theorem kX8_passDays : MKv mX8_passDays 2 := ⟨imX8_passDays, seX8_passDays, iniX8, cdX8_passDays, ⟨by decide +kernel, by decide +kernel⟩, by decide +kernel, by decide⟩
abbrev mX8_doDeeds : MT := (yX8_doDeeds, cX8_doDeeds, 6, (some .int))
set_option maxRecDepth 100000 in
theorem cdX8_doDeeds : Cond.code yX8_doDeeds cX8_doDeeds 6 (some .int) ∈ TB := TB_of (tin_4 (TB_at 65 rfl)) rfl
set_option maxRecDepth 100000 in
theorem imX8_doDeeds : Cond.instanceMethod yX8_doDeeds ∈ TB := TB_of (tin_4 (TB_at 63 rfl)) rfl
set_option maxRecDepth 100000 in
theorem seX8_doDeeds : Cond.selects RX8 yX8_doDeeds yX8_doDeeds ∈ TB := TB_of (tin_4 (TB_at 64 rfl)) rfl
theorem kX8_doDeeds : MKv mX8_doDeeds 3 := ⟨imX8_doDeeds, seX8_doDeeds, iniX8, cdX8_doDeeds, ⟨by decide +kernel, by decide +kernel⟩, by decide +kernel, by decide⟩
abbrev mX8_isDone : MT := (yX8_isDone, cX8_isDone, 5, (some .boolean))
set_option maxRecDepth 100000 in
theorem cdX8_isDone : Cond.code yX8_isDone cX8_isDone 5 (some .boolean) ∈ TB := TB_of (tin_4 (TB_at 70 rfl)) rfl
set_option maxRecDepth 100000 in
theorem imX8_isDone : Cond.instanceMethod yX8_isDone ∈ TB := TB_of (tin_4 (TB_at 69 rfl)) rfl
set_option maxRecDepth 100000 in
theorem seX8_isDone : Cond.selects RX8 yX8_isDone yX8_isDone ∈ TB := TB_of (tin_0 (TB_at 25 rfl)) rfl
theorem kX8_isDone : MKv mX8_isDone 2 := ⟨imX8_isDone, seX8_isDone, iniX8, cdX8_isDone, ⟨by decide +kernel, by decide +kernel⟩, by decide +kernel, by decide⟩
abbrev mX8_draw : MT := (yX8_draw, cX8_draw, 2, (some .int))
set_option maxRecDepth 100000 in
theorem cdX8_draw : Cond.code yX8_draw cX8_draw 2 (some .int) ∈ TB := TB_of (tin_4 (TB_at 105 rfl)) rfl
set_option maxRecDepth 100000 in
theorem imX8_draw : Cond.instanceMethod yX8_draw ∈ TB := TB_of (tin_4 (TB_at 104 rfl)) rfl
set_option maxRecDepth 100000 in
theorem seX8_draw : Cond.selects RX8 yX8_draw yX8_draw ∈ TB := TB_of (tin_0 (TB_at 26 rfl)) rfl
theorem kX8_draw : MKv mX8_draw 1 := ⟨imX8_draw, seX8_draw, iniX8, cdX8_draw, ⟨by decide +kernel, by decide +kernel⟩, by decide +kernel, by decide⟩
abbrev mX8_passYear : MT := (yX8_passYear, cX8_passYear, 8, none)
set_option maxRecDepth 100000 in
theorem cdX8_passYear : Cond.code yX8_passYear cX8_passYear 8 none ∈ TB := TB_of (tin_4 (TB_at 101 rfl)) rfl
set_option maxRecDepth 100000 in
theorem imX8_passYear : Cond.instanceMethod yX8_passYear ∈ TB := TB_of (tin_4 (TB_at 99 rfl)) rfl
set_option maxRecDepth 100000 in
theorem seX8_passYear : Cond.selects RX8 yX8_passYear yX8_passYear ∈ TB := TB_of (tin_4 (TB_at 100 rfl)) rfl
theorem kX8_passYear : MKv mX8_passYear 3 := ⟨imX8_passYear, seX8_passYear, iniX8, cdX8_passYear, ⟨by decide +kernel, by decide +kernel⟩, by decide +kernel, by decide⟩
abbrev mX9_init : MT := (yX9_init, cX9_init, 1, none)
abbrev mX9_cut : MT := (yX9_cut, cX9_cut, 6, none)
set_option maxRecDepth 100000 in
theorem cdX9_cut : Cond.code yX9_cut cX9_cut 6 none ∈ TB := TB_of (tin_2 (TB_at 186 rfl)) rfl
set_option maxRecDepth 100000 in
theorem imX9_cut : Cond.instanceMethod yX9_cut ∈ TB := TB_of (tin_2 (TB_at 184 rfl)) rfl
set_option maxRecDepth 100000 in
theorem seX9_cut : Cond.selects RX9 yX9_cut yX9_cut ∈ TB := TB_of (tin_2 (TB_at 185 rfl)) rfl
theorem kX9_cut : MKv mX9_cut 2 := ⟨imX9_cut, seX9_cut, iniX9, cdX9_cut, ⟨by decide +kernel, by decide +kernel⟩, by decide +kernel, by decide⟩
abbrev mX9_isLetter : MT := (yX9_isLetter, cX9_isLetter, 1, (some .boolean))
set_option maxRecDepth 100000 in
theorem cdX9_isLetter : Cond.code yX9_isLetter cX9_isLetter 1 (some .boolean) ∈ TB := TB_of (tin_2 (TB_at 192 rfl)) rfl
set_option maxRecDepth 100000 in
theorem stX9_isLetter : Cond.static yX9_isLetter ∈ TB := TB_of (tin_2 (TB_at 191 rfl)) rfl
theorem kX9_isLetter : MKs mX9_isLetter 1 := ⟨stX9_isLetter, iniX9, cdX9_isLetter, ⟨by decide +kernel, by decide +kernel⟩, by decide +kernel, by decide⟩
abbrev mX9_isDigit : MT := (yX9_isDigit, cX9_isDigit, 1, (some .boolean))
set_option maxRecDepth 100000 in
theorem cdX9_isDigit : Cond.code yX9_isDigit cX9_isDigit 1 (some .boolean) ∈ TB := TB_of (tin_2 (TB_at 195 rfl)) rfl
set_option maxRecDepth 100000 in
theorem stX9_isDigit : Cond.static yX9_isDigit ∈ TB := TB_of (tin_2 (TB_at 194 rfl)) rfl
theorem kX9_isDigit : MKs mX9_isDigit 1 := ⟨stX9_isDigit, iniX9, cdX9_isDigit, ⟨by decide +kernel, by decide +kernel⟩, by decide +kernel, by decide⟩
abbrev mX9_endOf : MT := (yX9_endOf, cX9_endOf, 4, (some .int))
set_option maxRecDepth 100000 in
theorem cdX9_endOf : Cond.code yX9_endOf cX9_endOf 4 (some .int) ∈ TB := TB_of (tin_2 (TB_at 189 rfl)) rfl
set_option maxRecDepth 100000 in
theorem stX9_endOf : Cond.static yX9_endOf ∈ TB := TB_of (tin_2 (TB_at 188 rfl)) rfl
theorem kX9_endOf : MKs mX9_endOf 3 := ⟨stX9_endOf, iniX9, cdX9_endOf, ⟨by decide +kernel, by decide +kernel⟩, by decide +kernel, by decide⟩
abbrev mX9_valueOf : MT := (yX9_valueOf, cX9_valueOf, 5, (some .int))
set_option maxRecDepth 100000 in
theorem cdX9_valueOf : Cond.code yX9_valueOf cX9_valueOf 5 (some .int) ∈ TB := TB_of (tin_3 (TB_at 32 rfl)) rfl
set_option maxRecDepth 100000 in
theorem stX9_valueOf : Cond.static yX9_valueOf ∈ TB := TB_of (tin_3 (TB_at 31 rfl)) rfl
theorem kX9_valueOf : MKs mX9_valueOf 3 := ⟨stX9_valueOf, iniX9, cdX9_valueOf, ⟨by decide +kernel, by decide +kernel⟩, by decide +kernel, by decide⟩
abbrev mX9_kindOf : MT := (yX9_kindOf, cX9_kindOf, 4, (some .int))
set_option maxRecDepth 100000 in
theorem cdX9_kindOf : Cond.code yX9_kindOf cX9_kindOf 4 (some .int) ∈ TB := TB_of (tin_2 (TB_at 198 rfl)) rfl
set_option maxRecDepth 100000 in
theorem stX9_kindOf : Cond.static yX9_kindOf ∈ TB := TB_of (tin_2 (TB_at 197 rfl)) rfl
theorem kX9_kindOf : MKs mX9_kindOf 3 := ⟨stX9_kindOf, iniX9, cdX9_kindOf, ⟨by decide +kernel, by decide +kernel⟩, by decide +kernel, by decide⟩
abbrev mX9_wordKind : MT := (yX9_wordKind, cX9_wordKind, 3, (some .int))
set_option maxRecDepth 100000 in
theorem cdX9_wordKind : Cond.code yX9_wordKind cX9_wordKind 3 (some .int) ∈ TB := TB_of (tin_2 (TB_at 201 rfl)) rfl
set_option maxRecDepth 100000 in
theorem stX9_wordKind : Cond.static yX9_wordKind ∈ TB := TB_of (tin_2 (TB_at 200 rfl)) rfl
theorem kX9_wordKind : MKs mX9_wordKind 3 := ⟨stX9_wordKind, iniX9, cdX9_wordKind, ⟨by decide +kernel, by decide +kernel⟩, by decide +kernel, by decide⟩
abbrev mX9_spelled : MT := (yX9_spelled, cX9_spelled, 6, (some .int))
set_option maxRecDepth 100000 in
theorem cdX9_spelled : Cond.code yX9_spelled cX9_spelled 6 (some .int) ∈ TB := TB_of (tin_2 (TB_at 205 rfl)) rfl
set_option maxRecDepth 100000 in
theorem stX9_spelled : Cond.static yX9_spelled ∈ TB := TB_of (tin_2 (TB_at 204 rfl)) rfl
theorem kX9_spelled : MKs mX9_spelled 5 := ⟨stX9_spelled, iniX9, cdX9_spelled, ⟨by decide +kernel, by decide +kernel⟩, by decide +kernel, by decide⟩
abbrev mX10_init : MT := (yX10_init, cX10_init, 1, none)
abbrev mX10_fewestFacts : MT := (yX10_fewestFacts, cX10_fewestFacts, 4, (some .int))
set_option maxRecDepth 100000 in
theorem cdX10_fewestFacts : Cond.code yX10_fewestFacts cX10_fewestFacts 4 (some .int) ∈ TB := TB_of (tin_5 (TB_at 25 rfl)) rfl
set_option maxRecDepth 100000 in
theorem imX10_fewestFacts : Cond.instanceMethod yX10_fewestFacts ∈ TB := TB_of (tin_5 (TB_at 23 rfl)) rfl
set_option maxRecDepth 100000 in
theorem seX10_fewestFacts : Cond.selects RX10 yX10_fewestFacts yX10_fewestFacts ∈ TB := TB_of (tin_5 (TB_at 24 rfl)) rfl
theorem kX10_fewestFacts : MKv mX10_fewestFacts 2 := ⟨imX10_fewestFacts, seX10_fewestFacts, iniX10, cdX10_fewestFacts, ⟨by decide +kernel, by decide +kernel⟩, by decide +kernel, by decide⟩
abbrev mX10_firstFact : MT := (yX10_firstFact, cX10_firstFact, 5, (some .int))
set_option maxRecDepth 100000 in
theorem cdX10_firstFact : Cond.code yX10_firstFact cX10_firstFact 5 (some .int) ∈ TB := TB_of (tin_5 (TB_at 41 rfl)) rfl
set_option maxRecDepth 100000 in
theorem imX10_firstFact : Cond.instanceMethod yX10_firstFact ∈ TB := TB_of (tin_5 (TB_at 39 rfl)) rfl
set_option maxRecDepth 100000 in
theorem seX10_firstFact : Cond.selects RX10 yX10_firstFact yX10_firstFact ∈ TB := TB_of (tin_5 (TB_at 40 rfl)) rfl
theorem kX10_firstFact : MKv mX10_firstFact 3 := ⟨imX10_firstFact, seX10_firstFact, iniX10, cdX10_firstFact, ⟨by decide +kernel, by decide +kernel⟩, by decide +kernel, by decide⟩
abbrev mX10_fewestBehind : MT := (yX10_fewestBehind, cX10_fewestBehind, 7, (some .int))
set_option maxRecDepth 100000 in
theorem cdX10_fewestBehind : Cond.code yX10_fewestBehind cX10_fewestBehind 7 (some .int) ∈ TB := TB_of (tin_5 (TB_at 29 rfl)) rfl
set_option maxRecDepth 100000 in
theorem imX10_fewestBehind : Cond.instanceMethod yX10_fewestBehind ∈ TB := TB_of (tin_5 (TB_at 28 rfl)) rfl
set_option maxRecDepth 100000 in
theorem seX10_fewestBehind : Cond.selects RX10 yX10_fewestBehind yX10_fewestBehind ∈ TB := TB_of (tin_0 (TB_at 39 rfl)) rfl
theorem kX10_fewestBehind : MKv mX10_fewestBehind 4 := ⟨imX10_fewestBehind, seX10_fewestBehind, iniX10, cdX10_fewestBehind, ⟨by decide +kernel, by decide +kernel⟩, by decide +kernel, by decide⟩
abbrev mX10_fewestBy : MT := (yX10_fewestBy, cX10_fewestBy, 8, (some .int))
set_option maxRecDepth 100000 in
theorem cdX10_fewestBy : Cond.code yX10_fewestBy cX10_fewestBy 8 (some .int) ∈ TB := TB_of (tin_5 (TB_at 34 rfl)) rfl
set_option maxRecDepth 100000 in
theorem imX10_fewestBy : Cond.instanceMethod yX10_fewestBy ∈ TB := TB_of (tin_5 (TB_at 33 rfl)) rfl
set_option maxRecDepth 100000 in
theorem seX10_fewestBy : Cond.selects RX10 yX10_fewestBy yX10_fewestBy ∈ TB := TB_of (tin_0 (TB_at 40 rfl)) rfl
theorem kX10_fewestBy : MKv mX10_fewestBy 5 := ⟨imX10_fewestBy, seX10_fewestBy, iniX10, cdX10_fewestBy, ⟨by decide +kernel, by decide +kernel⟩, by decide +kernel, by decide⟩
abbrev mX11_init : MT := (yX11_init, cX11_init, 2, none)
abbrev mX11_feed : MT := (yX11_feed, cX11_feed, 6, (some .int))
set_option maxRecDepth 100000 in
theorem cdX11_feed : Cond.code yX11_feed cX11_feed 6 (some .int) ∈ TB := TB_of (tin_2 (TB_at 154 rfl)) rfl
set_option maxRecDepth 100000 in
theorem imX11_feed : Cond.instanceMethod yX11_feed ∈ TB := TB_of (tin_2 (TB_at 152 rfl)) rfl
set_option maxRecDepth 100000 in
theorem seX11_feed : Cond.selects RX11 yX11_feed yX11_feed ∈ TB := TB_of (tin_2 (TB_at 153 rfl)) rfl
theorem kX11_feed : MKv mX11_feed 5 := ⟨imX11_feed, seX11_feed, iniX11, cdX11_feed, ⟨by decide +kernel, by decide +kernel⟩, by decide +kernel, by decide⟩
abbrev mX11_putOnTape : MT := (yX11_putOnTape, cX11_putOnTape, 3, none)
set_option maxRecDepth 100000 in
theorem cdX11_putOnTape : Cond.code yX11_putOnTape cX11_putOnTape 3 none ∈ TB := TB_of (tin_2 (TB_at 158 rfl)) rfl
set_option maxRecDepth 100000 in
theorem imX11_putOnTape : Cond.instanceMethod yX11_putOnTape ∈ TB := TB_of (tin_2 (TB_at 157 rfl)) rfl
set_option maxRecDepth 100000 in
theorem seX11_putOnTape : Cond.selects RX11 yX11_putOnTape yX11_putOnTape ∈ TB := TB_of (tin_0 (TB_at 0 rfl)) rfl
theorem kX11_putOnTape : MKv mX11_putOnTape 1 := ⟨imX11_putOnTape, seX11_putOnTape, iniX11, cdX11_putOnTape, ⟨by decide +kernel, by decide +kernel⟩, by decide +kernel, by decide⟩
abbrev mX11_land : MT := (yX11_land, cX11_land, 2, (some .int))
set_option maxRecDepth 100000 in
theorem cdX11_land : Cond.code yX11_land cX11_land 2 (some .int) ∈ TB := TB_of (tin_2 (TB_at 162 rfl)) rfl
set_option maxRecDepth 100000 in
theorem imX11_land : Cond.instanceMethod yX11_land ∈ TB := TB_of (tin_2 (TB_at 160 rfl)) rfl
set_option maxRecDepth 100000 in
theorem seX11_land : Cond.selects RX11 yX11_land yX11_land ∈ TB := TB_of (tin_2 (TB_at 161 rfl)) rfl
theorem kX11_land : MKv mX11_land 1 := ⟨imX11_land, seX11_land, iniX11, cdX11_land, ⟨by decide +kernel, by decide +kernel⟩, by decide +kernel, by decide⟩
abbrev mX11_fault : MT := (yX11_fault, cX11_fault, 2, (some .int))
set_option maxRecDepth 100000 in
theorem cdX11_fault : Cond.code yX11_fault cX11_fault 2 (some .int) ∈ TB := TB_of (tin_3 (TB_at 160 rfl)) rfl
set_option maxRecDepth 100000 in
theorem imX11_fault : Cond.instanceMethod yX11_fault ∈ TB := TB_of (tin_3 (TB_at 158 rfl)) rfl
set_option maxRecDepth 100000 in
theorem seX11_fault : Cond.selects RX11 yX11_fault yX11_fault ∈ TB := TB_of (tin_3 (TB_at 159 rfl)) rfl
theorem kX11_fault : MKv mX11_fault 1 := ⟨imX11_fault, seX11_fault, iniX11, cdX11_fault, ⟨by decide +kernel, by decide +kernel⟩, by decide +kernel, by decide⟩
abbrev mX11_world : MT := (yX11_world, cX11_world, 3, (some .int))
set_option maxRecDepth 100000 in
theorem cdX11_world : Cond.code yX11_world cX11_world 3 (some .int) ∈ TB := TB_of (tin_3 (TB_at 164 rfl)) rfl
set_option maxRecDepth 100000 in
theorem imX11_world : Cond.instanceMethod yX11_world ∈ TB := TB_of (tin_3 (TB_at 162 rfl)) rfl
set_option maxRecDepth 100000 in
theorem seX11_world : Cond.selects RX11 yX11_world yX11_world ∈ TB := TB_of (tin_3 (TB_at 163 rfl)) rfl
theorem kX11_world : MKv mX11_world 2 := ⟨imX11_world, seX11_world, iniX11, cdX11_world, ⟨by decide +kernel, by decide +kernel⟩, by decide +kernel, by decide⟩
abbrev mX11_fact : MT := (yX11_fact, cX11_fact, 2, (some .int))
set_option maxRecDepth 100000 in
theorem cdX11_fact : Cond.code yX11_fact cX11_fact 2 (some .int) ∈ TB := TB_of (tin_3 (TB_at 176 rfl)) rfl
set_option maxRecDepth 100000 in
theorem imX11_fact : Cond.instanceMethod yX11_fact ∈ TB := TB_of (tin_3 (TB_at 174 rfl)) rfl
set_option maxRecDepth 100000 in
theorem seX11_fact : Cond.selects RX11 yX11_fact yX11_fact ∈ TB := TB_of (tin_3 (TB_at 175 rfl)) rfl
theorem kX11_fact : MKv mX11_fact 1 := ⟨imX11_fact, seX11_fact, iniX11, cdX11_fact, ⟨by decide +kernel, by decide +kernel⟩, by decide +kernel, by decide⟩
abbrev mX11_person : MT := (yX11_person, cX11_person, 4, (some .int))
set_option maxRecDepth 100000 in
theorem cdX11_person : Cond.code yX11_person cX11_person 4 (some .int) ∈ TB := TB_of (tin_3 (TB_at 184 rfl)) rfl
set_option maxRecDepth 100000 in
theorem imX11_person : Cond.instanceMethod yX11_person ∈ TB := TB_of (tin_3 (TB_at 182 rfl)) rfl
set_option maxRecDepth 100000 in
theorem seX11_person : Cond.selects RX11 yX11_person yX11_person ∈ TB := TB_of (tin_3 (TB_at 183 rfl)) rfl
theorem kX11_person : MKv mX11_person 2 := ⟨imX11_person, seX11_person, iniX11, cdX11_person, ⟨by decide +kernel, by decide +kernel⟩, by decide +kernel, by decide⟩
abbrev mX11_hints : MT := (yX11_hints, cX11_hints, 2, (some .int))
set_option maxRecDepth 100000 in
theorem cdX11_hints : Cond.code yX11_hints cX11_hints 2 (some .int) ∈ TB := TB_of (tin_3 (TB_at 220 rfl)) rfl
set_option maxRecDepth 100000 in
theorem imX11_hints : Cond.instanceMethod yX11_hints ∈ TB := TB_of (tin_3 (TB_at 218 rfl)) rfl
set_option maxRecDepth 100000 in
theorem seX11_hints : Cond.selects RX11 yX11_hints yX11_hints ∈ TB := TB_of (tin_3 (TB_at 219 rfl)) rfl
theorem kX11_hints : MKv mX11_hints 1 := ⟨imX11_hints, seX11_hints, iniX11, cdX11_hints, ⟨by decide +kernel, by decide +kernel⟩, by decide +kernel, by decide⟩
abbrev mX11_knows : MT := (yX11_knows, cX11_knows, 4, (some .int))
set_option maxRecDepth 100000 in
theorem cdX11_knows : Cond.code yX11_knows cX11_knows 4 (some .int) ∈ TB := TB_of (tin_3 (TB_at 224 rfl)) rfl
set_option maxRecDepth 100000 in
theorem imX11_knows : Cond.instanceMethod yX11_knows ∈ TB := TB_of (tin_3 (TB_at 222 rfl)) rfl
set_option maxRecDepth 100000 in
theorem seX11_knows : Cond.selects RX11 yX11_knows yX11_knows ∈ TB := TB_of (tin_3 (TB_at 223 rfl)) rfl
theorem kX11_knows : MKv mX11_knows 2 := ⟨imX11_knows, seX11_knows, iniX11, cdX11_knows, ⟨by decide +kernel, by decide +kernel⟩, by decide +kernel, by decide⟩
abbrev mX11_cell : MT := (yX11_cell, cX11_cell, 3, (some .int))
set_option maxRecDepth 100000 in
theorem cdX11_cell : Cond.code yX11_cell cX11_cell 3 (some .int) ∈ TB := TB_of (tin_3 (TB_at 229 rfl)) rfl
set_option maxRecDepth 100000 in
theorem imX11_cell : Cond.instanceMethod yX11_cell ∈ TB := TB_of (tin_3 (TB_at 227 rfl)) rfl
set_option maxRecDepth 100000 in
theorem seX11_cell : Cond.selects RX11 yX11_cell yX11_cell ∈ TB := TB_of (tin_3 (TB_at 228 rfl)) rfl
theorem kX11_cell : MKv mX11_cell 2 := ⟨imX11_cell, seX11_cell, iniX11, cdX11_cell, ⟨by decide +kernel, by decide +kernel⟩, by decide +kernel, by decide⟩
abbrev mX11_isWorld : MT := (yX11_isWorld, cX11_isWorld, 2, (some .boolean))
set_option maxRecDepth 100000 in
theorem cdX11_isWorld : Cond.code yX11_isWorld cX11_isWorld 2 (some .boolean) ∈ TB := TB_of (tin_3 (TB_at 168 rfl)) rfl
set_option maxRecDepth 100000 in
theorem imX11_isWorld : Cond.instanceMethod yX11_isWorld ∈ TB := TB_of (tin_3 (TB_at 167 rfl)) rfl
set_option maxRecDepth 100000 in
theorem seX11_isWorld : Cond.selects RX11 yX11_isWorld yX11_isWorld ∈ TB := TB_of (tin_0 (TB_at 20 rfl)) rfl
theorem kX11_isWorld : MKv mX11_isWorld 1 := ⟨imX11_isWorld, seX11_isWorld, iniX11, cdX11_isWorld, ⟨by decide +kernel, by decide +kernel⟩, by decide +kernel, by decide⟩
abbrev mX11_isFact : MT := (yX11_isFact, cX11_isFact, 2, (some .boolean))
set_option maxRecDepth 100000 in
theorem cdX11_isFact : Cond.code yX11_isFact cX11_isFact 2 (some .boolean) ∈ TB := TB_of (tin_3 (TB_at 180 rfl)) rfl
set_option maxRecDepth 100000 in
theorem imX11_isFact : Cond.instanceMethod yX11_isFact ∈ TB := TB_of (tin_3 (TB_at 179 rfl)) rfl
set_option maxRecDepth 100000 in
theorem seX11_isFact : Cond.selects RX11 yX11_isFact yX11_isFact ∈ TB := TB_of (tin_0 (TB_at 21 rfl)) rfl
theorem kX11_isFact : MKv mX11_isFact 1 := ⟨imX11_isFact, seX11_isFact, iniX11, cdX11_isFact, ⟨by decide +kernel, by decide +kernel⟩, by decide +kernel, by decide⟩
abbrev mX11_isPerson : MT := (yX11_isPerson, cX11_isPerson, 2, (some .boolean))
set_option maxRecDepth 100000 in
theorem cdX11_isPerson : Cond.code yX11_isPerson cX11_isPerson 2 (some .boolean) ∈ TB := TB_of (tin_3 (TB_at 188 rfl)) rfl
set_option maxRecDepth 100000 in
theorem imX11_isPerson : Cond.instanceMethod yX11_isPerson ∈ TB := TB_of (tin_3 (TB_at 187 rfl)) rfl
set_option maxRecDepth 100000 in
theorem seX11_isPerson : Cond.selects RX11 yX11_isPerson yX11_isPerson ∈ TB := TB_of (tin_0 (TB_at 22 rfl)) rfl
theorem kX11_isPerson : MKv mX11_isPerson 1 := ⟨imX11_isPerson, seX11_isPerson, iniX11, cdX11_isPerson, ⟨by decide +kernel, by decide +kernel⟩, by decide +kernel, by decide⟩
abbrev mX11_isMeasure : MT := (yX11_isMeasure, cX11_isMeasure, 1, (some .boolean))
set_option maxRecDepth 100000 in
theorem cdX11_isMeasure : Cond.code yX11_isMeasure cX11_isMeasure 1 (some .boolean) ∈ TB := TB_of (tin_4 (TB_at 156 rfl)) rfl
set_option maxRecDepth 100000 in
theorem stX11_isMeasure : Cond.static yX11_isMeasure ∈ TB := TB_of (tin_4 (TB_at 155 rfl)) rfl
theorem kX11_isMeasure : MKs mX11_isMeasure 1 := ⟨stX11_isMeasure, iniX11, cdX11_isMeasure, ⟨by decide +kernel, by decide +kernel⟩, by decide +kernel, by decide⟩
abbrev mX11_isRow : MT := (yX11_isRow, cX11_isRow, 1, (some .boolean))
set_option maxRecDepth 100000 in
theorem cdX11_isRow : Cond.code yX11_isRow cX11_isRow 1 (some .boolean) ∈ TB := TB_of (tin_4 (TB_at 45 rfl)) rfl
set_option maxRecDepth 100000 in
theorem stX11_isRow : Cond.static yX11_isRow ∈ TB := TB_of (tin_4 (TB_at 44 rfl)) rfl
theorem kX11_isRow : MKs mX11_isRow 1 := ⟨stX11_isRow, iniX11, cdX11_isRow, ⟨by decide +kernel, by decide +kernel⟩, by decide +kernel, by decide⟩
abbrev mX11_possibleTo : MT := (yX11_possibleTo, cX11_possibleTo, 2, (some .int))
set_option maxRecDepth 100000 in
theorem cdX11_possibleTo : Cond.code yX11_possibleTo cX11_possibleTo 2 (some .int) ∈ TB := TB_of (tin_3 (TB_at 192 rfl)) rfl
set_option maxRecDepth 100000 in
theorem imX11_possibleTo : Cond.instanceMethod yX11_possibleTo ∈ TB := TB_of (tin_3 (TB_at 191 rfl)) rfl
set_option maxRecDepth 100000 in
theorem seX11_possibleTo : Cond.selects RX11 yX11_possibleTo yX11_possibleTo ∈ TB := TB_of (tin_0 (TB_at 23 rfl)) rfl
theorem kX11_possibleTo : MKv mX11_possibleTo 1 := ⟨imX11_possibleTo, seX11_possibleTo, iniX11, cdX11_possibleTo, ⟨by decide +kernel, by decide +kernel⟩, by decide +kernel, by decide⟩
abbrev mX11_tell : MT := (yX11_tell, cX11_tell, 3, (some .int))
set_option maxRecDepth 100000 in
theorem cdX11_tell : Cond.code yX11_tell cX11_tell 3 (some .int) ∈ TB := TB_of (tin_3 (TB_at 233 rfl)) rfl
set_option maxRecDepth 100000 in
theorem imX11_tell : Cond.instanceMethod yX11_tell ∈ TB := TB_of (tin_3 (TB_at 231 rfl)) rfl
set_option maxRecDepth 100000 in
theorem seX11_tell : Cond.selects RX11 yX11_tell yX11_tell ∈ TB := TB_of (tin_3 (TB_at 232 rfl)) rfl
theorem kX11_tell : MKv mX11_tell 2 := ⟨imX11_tell, seX11_tell, iniX11, cdX11_tell, ⟨by decide +kernel, by decide +kernel⟩, by decide +kernel, by decide⟩
abbrev mX11_ask : MT := (yX11_ask, cX11_ask, 3, (some .int))
set_option maxRecDepth 100000 in
theorem cdX11_ask : Cond.code yX11_ask cX11_ask 3 (some .int) ∈ TB := TB_of (tin_4 (TB_at 8 rfl)) rfl
set_option maxRecDepth 100000 in
theorem imX11_ask : Cond.instanceMethod yX11_ask ∈ TB := TB_of (tin_4 (TB_at 6 rfl)) rfl
set_option maxRecDepth 100000 in
theorem seX11_ask : Cond.selects RX11 yX11_ask yX11_ask ∈ TB := TB_of (tin_4 (TB_at 7 rfl)) rfl
theorem kX11_ask : MKv mX11_ask 2 := ⟨imX11_ask, seX11_ask, iniX11, cdX11_ask, ⟨by decide +kernel, by decide +kernel⟩, by decide +kernel, by decide⟩
abbrev mX11_days : MT := (yX11_days, cX11_days, 4, (some .int))
set_option maxRecDepth 100000 in
theorem cdX11_days : Cond.code yX11_days cX11_days 4 (some .int) ∈ TB := TB_of (tin_4 (TB_at 18 rfl)) rfl
set_option maxRecDepth 100000 in
theorem imX11_days : Cond.instanceMethod yX11_days ∈ TB := TB_of (tin_4 (TB_at 16 rfl)) rfl
set_option maxRecDepth 100000 in
theorem seX11_days : Cond.selects RX11 yX11_days yX11_days ∈ TB := TB_of (tin_4 (TB_at 17 rfl)) rfl
theorem kX11_days : MKv mX11_days 1 := ⟨imX11_days, seX11_days, iniX11, cdX11_days, ⟨by decide +kernel, by decide +kernel⟩, by decide +kernel, by decide⟩
abbrev mX11_isTrue : MT := (yX11_isTrue, cX11_isTrue, 3, (some .int))
set_option maxRecDepth 100000 in
theorem cdX11_isTrue : Cond.code yX11_isTrue cX11_isTrue 3 (some .int) ∈ TB := TB_of (tin_4 (TB_at 30 rfl)) rfl
set_option maxRecDepth 100000 in
theorem imX11_isTrue : Cond.instanceMethod yX11_isTrue ∈ TB := TB_of (tin_4 (TB_at 28 rfl)) rfl
set_option maxRecDepth 100000 in
theorem seX11_isTrue : Cond.selects RX11 yX11_isTrue yX11_isTrue ∈ TB := TB_of (tin_4 (TB_at 29 rfl)) rfl
theorem kX11_isTrue : MKv mX11_isTrue 1 := ⟨imX11_isTrue, seX11_isTrue, iniX11, cdX11_isTrue, ⟨by decide +kernel, by decide +kernel⟩, by decide +kernel, by decide⟩
abbrev mX11_undo : MT := (yX11_undo, cX11_undo, 2, (some .int))
set_option maxRecDepth 100000 in
theorem cdX11_undo : Cond.code yX11_undo cX11_undo 2 (some .int) ∈ TB := TB_of (tin_4 (TB_at 34 rfl)) rfl
set_option maxRecDepth 100000 in
theorem imX11_undo : Cond.instanceMethod yX11_undo ∈ TB := TB_of (tin_4 (TB_at 32 rfl)) rfl
set_option maxRecDepth 100000 in
theorem seX11_undo : Cond.selects RX11 yX11_undo yX11_undo ∈ TB := TB_of (tin_4 (TB_at 33 rfl)) rfl
theorem kX11_undo : MKv mX11_undo 1 := ⟨imX11_undo, seX11_undo, iniX11, cdX11_undo, ⟨by decide +kernel, by decide +kernel⟩, by decide +kernel, by decide⟩
abbrev mX11_judge : MT := (yX11_judge, cX11_judge, 5, (some .int))
set_option maxRecDepth 100000 in
theorem cdX11_judge : Cond.code yX11_judge cX11_judge 5 (some .int) ∈ TB := TB_of (tin_4 (TB_at 42 rfl)) rfl
set_option maxRecDepth 100000 in
theorem imX11_judge : Cond.instanceMethod yX11_judge ∈ TB := TB_of (tin_4 (TB_at 40 rfl)) rfl
set_option maxRecDepth 100000 in
theorem seX11_judge : Cond.selects RX11 yX11_judge yX11_judge ∈ TB := TB_of (tin_4 (TB_at 41 rfl)) rfl
theorem kX11_judge : MKv mX11_judge 2 := ⟨imX11_judge, seX11_judge, iniX11, cdX11_judge, ⟨by decide +kernel, by decide +kernel⟩, by decide +kernel, by decide⟩
abbrev mX11_perform : MT := (yX11_perform, cX11_perform, 3, (some .int))
set_option maxRecDepth 100000 in
theorem cdX11_perform : Cond.code yX11_perform cX11_perform 3 (some .int) ∈ TB := TB_of (tin_4 (TB_at 93 rfl)) rfl
set_option maxRecDepth 100000 in
theorem imX11_perform : Cond.instanceMethod yX11_perform ∈ TB := TB_of (tin_4 (TB_at 91 rfl)) rfl
set_option maxRecDepth 100000 in
theorem seX11_perform : Cond.selects RX11 yX11_perform yX11_perform ∈ TB := TB_of (tin_4 (TB_at 92 rfl)) rfl
theorem kX11_perform : MKv mX11_perform 1 := ⟨imX11_perform, seX11_perform, iniX11, cdX11_perform, ⟨by decide +kernel, by decide +kernel⟩, by decide +kernel, by decide⟩
abbrev mX11_year : MT := (yX11_year, cX11_year, 3, (some .int))
set_option maxRecDepth 100000 in
theorem cdX11_year : Cond.code yX11_year cX11_year 3 (some .int) ∈ TB := TB_of (tin_4 (TB_at 97 rfl)) rfl
set_option maxRecDepth 100000 in
theorem imX11_year : Cond.instanceMethod yX11_year ∈ TB := TB_of (tin_4 (TB_at 95 rfl)) rfl
set_option maxRecDepth 100000 in
theorem seX11_year : Cond.selects RX11 yX11_year yX11_year ∈ TB := TB_of (tin_4 (TB_at 96 rfl)) rfl
theorem kX11_year : MKv mX11_year 2 := ⟨imX11_year, seX11_year, iniX11, cdX11_year, ⟨by decide +kernel, by decide +kernel⟩, by decide +kernel, by decide⟩
abbrev mX11_everyone : MT := (yX11_everyone, cX11_everyone, 2, (some .int))
set_option maxRecDepth 100000 in
theorem cdX11_everyone : Cond.code yX11_everyone cX11_everyone 2 (some .int) ∈ TB := TB_of (tin_4 (TB_at 110 rfl)) rfl
set_option maxRecDepth 100000 in
theorem imX11_everyone : Cond.instanceMethod yX11_everyone ∈ TB := TB_of (tin_4 (TB_at 108 rfl)) rfl
set_option maxRecDepth 100000 in
theorem seX11_everyone : Cond.selects RX11 yX11_everyone yX11_everyone ∈ TB := TB_of (tin_4 (TB_at 109 rfl)) rfl
theorem kX11_everyone : MKv mX11_everyone 1 := ⟨imX11_everyone, seX11_everyone, iniX11, cdX11_everyone, ⟨by decide +kernel, by decide +kernel⟩, by decide +kernel, by decide⟩
abbrev mX11_depth : MT := (yX11_depth, cX11_depth, 5, (some .int))
set_option maxRecDepth 100000 in
theorem cdX11_depth : Cond.code yX11_depth cX11_depth 5 (some .int) ∈ TB := TB_of (tin_4 (TB_at 122 rfl)) rfl
set_option maxRecDepth 100000 in
theorem imX11_depth : Cond.instanceMethod yX11_depth ∈ TB := TB_of (tin_4 (TB_at 120 rfl)) rfl
set_option maxRecDepth 100000 in
theorem seX11_depth : Cond.selects RX11 yX11_depth yX11_depth ∈ TB := TB_of (tin_4 (TB_at 121 rfl)) rfl
theorem kX11_depth : MKv mX11_depth 1 := ⟨imX11_depth, seX11_depth, iniX11, cdX11_depth, ⟨by decide +kernel, by decide +kernel⟩, by decide +kernel, by decide⟩
abbrev mX11_common : MT := (yX11_common, cX11_common, 1, (some .int))
set_option maxRecDepth 100000 in
theorem cdX11_common : Cond.code yX11_common cX11_common 1 (some .int) ∈ TB := TB_of (tin_4 (TB_at 126 rfl)) rfl
set_option maxRecDepth 100000 in
theorem imX11_common : Cond.instanceMethod yX11_common ∈ TB := TB_of (tin_4 (TB_at 124 rfl)) rfl
set_option maxRecDepth 100000 in
theorem seX11_common : Cond.selects RX11 yX11_common yX11_common ∈ TB := TB_of (tin_4 (TB_at 125 rfl)) rfl
theorem kX11_common : MKv mX11_common 0 := ⟨imX11_common, seX11_common, iniX11, cdX11_common, ⟨by decide +kernel, by decide +kernel⟩, by decide +kernel, by decide⟩
abbrev mX11_reach : MT := (yX11_reach, cX11_reach, 2, (some .int))
set_option maxRecDepth 100000 in
theorem cdX11_reach : Cond.code yX11_reach cX11_reach 2 (some .int) ∈ TB := TB_of (tin_4 (TB_at 130 rfl)) rfl
set_option maxRecDepth 100000 in
theorem imX11_reach : Cond.instanceMethod yX11_reach ∈ TB := TB_of (tin_4 (TB_at 128 rfl)) rfl
set_option maxRecDepth 100000 in
theorem seX11_reach : Cond.selects RX11 yX11_reach yX11_reach ∈ TB := TB_of (tin_4 (TB_at 129 rfl)) rfl
theorem kX11_reach : MKv mX11_reach 1 := ⟨imX11_reach, seX11_reach, iniX11, cdX11_reach, ⟨by decide +kernel, by decide +kernel⟩, by decide +kernel, by decide⟩
abbrev mX11_reached : MT := (yX11_reached, cX11_reached, 5, (some .int))
set_option maxRecDepth 100000 in
theorem cdX11_reached : Cond.code yX11_reached cX11_reached 5 (some .int) ∈ TB := TB_of (tin_4 (TB_at 114 rfl)) rfl
set_option maxRecDepth 100000 in
theorem imX11_reached : Cond.instanceMethod yX11_reached ∈ TB := TB_of (tin_4 (TB_at 113 rfl)) rfl
set_option maxRecDepth 100000 in
theorem seX11_reached : Cond.selects RX11 yX11_reached yX11_reached ∈ TB := TB_of (tin_0 (TB_at 27 rfl)) rfl
theorem kX11_reached : MKv mX11_reached 1 := ⟨imX11_reached, seX11_reached, iniX11, cdX11_reached, ⟨by decide +kernel, by decide +kernel⟩, by decide +kernel, by decide⟩
abbrev mX11_together : MT := (yX11_together, cX11_together, 2, (some .int))
set_option maxRecDepth 100000 in
theorem cdX11_together : Cond.code yX11_together cX11_together 2 (some .int) ∈ TB := TB_of (tin_4 (TB_at 134 rfl)) rfl
set_option maxRecDepth 100000 in
theorem imX11_together : Cond.instanceMethod yX11_together ∈ TB := TB_of (tin_4 (TB_at 132 rfl)) rfl
set_option maxRecDepth 100000 in
theorem seX11_together : Cond.selects RX11 yX11_together yX11_together ∈ TB := TB_of (tin_4 (TB_at 133 rfl)) rfl
theorem kX11_together : MKv mX11_together 1 := ⟨imX11_together, seX11_together, iniX11, cdX11_together, ⟨by decide +kernel, by decide +kernel⟩, by decide +kernel, by decide⟩
abbrev mX11_possibleTogether : MT := (yX11_possibleTogether, cX11_possibleTogether, 4, (some .int))
set_option maxRecDepth 100000 in
theorem cdX11_possibleTogether : Cond.code yX11_possibleTogether cX11_possibleTogether 4 (some .int) ∈ TB := TB_of (tin_4 (TB_at 138 rfl)) rfl
set_option maxRecDepth 100000 in
theorem imX11_possibleTogether : Cond.instanceMethod yX11_possibleTogether ∈ TB := TB_of (tin_4 (TB_at 137 rfl)) rfl
set_option maxRecDepth 100000 in
theorem seX11_possibleTogether : Cond.selects RX11 yX11_possibleTogether yX11_possibleTogether ∈ TB := TB_of (tin_0 (TB_at 28 rfl)) rfl
theorem kX11_possibleTogether : MKv mX11_possibleTogether 1 := ⟨imX11_possibleTogether, seX11_possibleTogether, iniX11, cdX11_possibleTogether, ⟨by decide +kernel, by decide +kernel⟩, by decide +kernel, by decide⟩
abbrev mX11_witnesses : MT := (yX11_witnesses, cX11_witnesses, 3, (some .int))
set_option maxRecDepth 100000 in
theorem cdX11_witnesses : Cond.code yX11_witnesses cX11_witnesses 3 (some .int) ∈ TB := TB_of (tin_4 (TB_at 142 rfl)) rfl
set_option maxRecDepth 100000 in
theorem imX11_witnesses : Cond.instanceMethod yX11_witnesses ∈ TB := TB_of (tin_4 (TB_at 140 rfl)) rfl
set_option maxRecDepth 100000 in
theorem seX11_witnesses : Cond.selects RX11 yX11_witnesses yX11_witnesses ∈ TB := TB_of (tin_4 (TB_at 141 rfl)) rfl
theorem kX11_witnesses : MKv mX11_witnesses 0 := ⟨imX11_witnesses, seX11_witnesses, iniX11, cdX11_witnesses, ⟨by decide +kernel, by decide +kernel⟩, by decide +kernel, by decide⟩
abbrev mX11_parting : MT := (yX11_parting, cX11_parting, 3, (some .int))
set_option maxRecDepth 100000 in
theorem cdX11_parting : Cond.code yX11_parting cX11_parting 3 (some .int) ∈ TB := TB_of (tin_4 (TB_at 149 rfl)) rfl
set_option maxRecDepth 100000 in
theorem imX11_parting : Cond.instanceMethod yX11_parting ∈ TB := TB_of (tin_4 (TB_at 147 rfl)) rfl
set_option maxRecDepth 100000 in
theorem seX11_parting : Cond.selects RX11 yX11_parting yX11_parting ∈ TB := TB_of (tin_4 (TB_at 148 rfl)) rfl
theorem kX11_parting : MKv mX11_parting 2 := ⟨imX11_parting, seX11_parting, iniX11, cdX11_parting, ⟨by decide +kernel, by decide +kernel⟩, by decide +kernel, by decide⟩
abbrev mX11_isFewer : MT := (yX11_isFewer, cX11_isFewer, 3, (some .boolean))
set_option maxRecDepth 100000 in
theorem cdX11_isFewer : Cond.code yX11_isFewer cX11_isFewer 3 (some .boolean) ∈ TB := TB_of (tin_4 (TB_at 145 rfl)) rfl
set_option maxRecDepth 100000 in
theorem stX11_isFewer : Cond.static yX11_isFewer ∈ TB := TB_of (tin_4 (TB_at 144 rfl)) rfl
theorem kX11_isFewer : MKs mX11_isFewer 2 := ⟨stX11_isFewer, iniX11, cdX11_isFewer, ⟨by decide +kernel, by decide +kernel⟩, by decide +kernel, by decide⟩
abbrev mX11_measure : MT := (yX11_measure, cX11_measure, 3, (some .int))
set_option maxRecDepth 100000 in
theorem cdX11_measure : Cond.code yX11_measure cX11_measure 3 (some .int) ∈ TB := TB_of (tin_4 (TB_at 153 rfl)) rfl
set_option maxRecDepth 100000 in
theorem imX11_measure : Cond.instanceMethod yX11_measure ∈ TB := TB_of (tin_4 (TB_at 151 rfl)) rfl
set_option maxRecDepth 100000 in
theorem seX11_measure : Cond.selects RX11 yX11_measure yX11_measure ∈ TB := TB_of (tin_4 (TB_at 152 rfl)) rfl
theorem kX11_measure : MKv mX11_measure 2 := ⟨imX11_measure, seX11_measure, iniX11, cdX11_measure, ⟨by decide +kernel, by decide +kernel⟩, by decide +kernel, by decide⟩
abbrev mX11_amount : MT := (yX11_amount, cX11_amount, 3, (some .int))
set_option maxRecDepth 100000 in
theorem cdX11_amount : Cond.code yX11_amount cX11_amount 3 (some .int) ∈ TB := TB_of (tin_4 (TB_at 160 rfl)) rfl
set_option maxRecDepth 100000 in
theorem imX11_amount : Cond.instanceMethod yX11_amount ∈ TB := TB_of (tin_4 (TB_at 159 rfl)) rfl
set_option maxRecDepth 100000 in
theorem seX11_amount : Cond.selects RX11 yX11_amount yX11_amount ∈ TB := TB_of (tin_0 (TB_at 29 rfl)) rfl
theorem kX11_amount : MKv mX11_amount 2 := ⟨imX11_amount, seX11_amount, iniX11, cdX11_amount, ⟨by decide +kernel, by decide +kernel⟩, by decide +kernel, by decide⟩
abbrev mX11_least : MT := (yX11_least, cX11_least, 2, (some .int))
set_option maxRecDepth 100000 in
theorem cdX11_least : Cond.code yX11_least cX11_least 2 (some .int) ∈ TB := TB_of (tin_4 (TB_at 165 rfl)) rfl
set_option maxRecDepth 100000 in
theorem imX11_least : Cond.instanceMethod yX11_least ∈ TB := TB_of (tin_4 (TB_at 163 rfl)) rfl
set_option maxRecDepth 100000 in
theorem seX11_least : Cond.selects RX11 yX11_least yX11_least ∈ TB := TB_of (tin_4 (TB_at 164 rfl)) rfl
theorem kX11_least : MKv mX11_least 1 := ⟨imX11_least, seX11_least, iniX11, cdX11_least, ⟨by decide +kernel, by decide +kernel⟩, by decide +kernel, by decide⟩
abbrev mX11_seats : MT := (yX11_seats, cX11_seats, 5, (some .int))
set_option maxRecDepth 100000 in
theorem cdX11_seats : Cond.code yX11_seats cX11_seats 5 (some .int) ∈ TB := TB_of (tin_4 (TB_at 169 rfl)) rfl
set_option maxRecDepth 100000 in
theorem imX11_seats : Cond.instanceMethod yX11_seats ∈ TB := TB_of (tin_4 (TB_at 167 rfl)) rfl
set_option maxRecDepth 100000 in
theorem seX11_seats : Cond.selects RX11 yX11_seats yX11_seats ∈ TB := TB_of (tin_4 (TB_at 168 rfl)) rfl
theorem kX11_seats : MKv mX11_seats 2 := ⟨imX11_seats, seX11_seats, iniX11, cdX11_seats, ⟨by decide +kernel, by decide +kernel⟩, by decide +kernel, by decide⟩
abbrev mX11_differ : MT := (yX11_differ, cX11_differ, 8, (some .int))
set_option maxRecDepth 100000 in
theorem cdX11_differ : Cond.code yX11_differ cX11_differ 8 (some .int) ∈ TB := TB_of (tin_4 (TB_at 173 rfl)) rfl
set_option maxRecDepth 100000 in
theorem imX11_differ : Cond.instanceMethod yX11_differ ∈ TB := TB_of (tin_4 (TB_at 171 rfl)) rfl
set_option maxRecDepth 100000 in
theorem seX11_differ : Cond.selects RX11 yX11_differ yX11_differ ∈ TB := TB_of (tin_4 (TB_at 172 rfl)) rfl
theorem kX11_differ : MKv mX11_differ 2 := ⟨imX11_differ, seX11_differ, iniX11, cdX11_differ, ⟨by decide +kernel, by decide +kernel⟩, by decide +kernel, by decide⟩
abbrev mX11_shown : MT := (yX11_shown, cX11_shown, 3, (some .int))
set_option maxRecDepth 100000 in
theorem cdX11_shown : Cond.code yX11_shown cX11_shown 3 (some .int) ∈ TB := TB_of (tin_4 (TB_at 180 rfl)) rfl
set_option maxRecDepth 100000 in
theorem imX11_shown : Cond.instanceMethod yX11_shown ∈ TB := TB_of (tin_4 (TB_at 178 rfl)) rfl
set_option maxRecDepth 100000 in
theorem seX11_shown : Cond.selects RX11 yX11_shown yX11_shown ∈ TB := TB_of (tin_4 (TB_at 179 rfl)) rfl
theorem kX11_shown : MKv mX11_shown 2 := ⟨imX11_shown, seX11_shown, iniX11, cdX11_shown, ⟨by decide +kernel, by decide +kernel⟩, by decide +kernel, by decide⟩
abbrev mX11_appeals : MT := (yX11_appeals, cX11_appeals, 7, (some .int))
set_option maxRecDepth 100000 in
theorem cdX11_appeals : Cond.code yX11_appeals cX11_appeals 7 (some .int) ∈ TB := TB_of (tin_4 (TB_at 214 rfl)) rfl
set_option maxRecDepth 100000 in
theorem imX11_appeals : Cond.instanceMethod yX11_appeals ∈ TB := TB_of (tin_4 (TB_at 212 rfl)) rfl
set_option maxRecDepth 100000 in
theorem seX11_appeals : Cond.selects RX11 yX11_appeals yX11_appeals ∈ TB := TB_of (tin_4 (TB_at 213 rfl)) rfl
theorem kX11_appeals : MKv mX11_appeals 3 := ⟨imX11_appeals, seX11_appeals, iniX11, cdX11_appeals, ⟨by decide +kernel, by decide +kernel⟩, by decide +kernel, by decide⟩
abbrev mX11_nextAbove : MT := (yX11_nextAbove, cX11_nextAbove, 8, (some .int))
set_option maxRecDepth 100000 in
theorem cdX11_nextAbove : Cond.code yX11_nextAbove cX11_nextAbove 8 (some .int) ∈ TB := TB_of (tin_4 (TB_at 218 rfl)) rfl
set_option maxRecDepth 100000 in
theorem imX11_nextAbove : Cond.instanceMethod yX11_nextAbove ∈ TB := TB_of (tin_4 (TB_at 217 rfl)) rfl
set_option maxRecDepth 100000 in
theorem seX11_nextAbove : Cond.selects RX11 yX11_nextAbove yX11_nextAbove ∈ TB := TB_of (tin_0 (TB_at 34 rfl)) rfl
theorem kX11_nextAbove : MKv mX11_nextAbove 2 := ⟨imX11_nextAbove, seX11_nextAbove, iniX11, cdX11_nextAbove, ⟨by decide +kernel, by decide +kernel⟩, by decide +kernel, by decide⟩
abbrev mX11_parties : MT := (yX11_parties, cX11_parties, 5, (some .int))
set_option maxRecDepth 100000 in
theorem cdX11_parties : Cond.code yX11_parties cX11_parties 5 (some .int) ∈ TB := TB_of (tin_4 (TB_at 222 rfl)) rfl
set_option maxRecDepth 100000 in
theorem imX11_parties : Cond.instanceMethod yX11_parties ∈ TB := TB_of (tin_4 (TB_at 220 rfl)) rfl
set_option maxRecDepth 100000 in
theorem seX11_parties : Cond.selects RX11 yX11_parties yX11_parties ∈ TB := TB_of (tin_4 (TB_at 221 rfl)) rfl
theorem kX11_parties : MKv mX11_parties 4 := ⟨imX11_parties, seX11_parties, iniX11, cdX11_parties, ⟨by decide +kernel, by decide +kernel⟩, by decide +kernel, by decide⟩
abbrev mX11_inform : MT := (yX11_inform, cX11_inform, 5, (some .int))
set_option maxRecDepth 100000 in
theorem cdX11_inform : Cond.code yX11_inform cX11_inform 5 (some .int) ∈ TB := TB_of (tin_5 (TB_at 17 rfl)) rfl
set_option maxRecDepth 100000 in
theorem imX11_inform : Cond.instanceMethod yX11_inform ∈ TB := TB_of (tin_5 (TB_at 15 rfl)) rfl
set_option maxRecDepth 100000 in
theorem seX11_inform : Cond.selects RX11 yX11_inform yX11_inform ∈ TB := TB_of (tin_5 (TB_at 16 rfl)) rfl
theorem kX11_inform : MKv mX11_inform 2 := ⟨imX11_inform, seX11_inform, iniX11, cdX11_inform, ⟨by decide +kernel, by decide +kernel⟩, by decide +kernel, by decide⟩
abbrev mX11_trial : MT := (yX11_trial, cX11_trial, 5, (some .int))
set_option maxRecDepth 100000 in
theorem cdX11_trial : Cond.code yX11_trial cX11_trial 5 (some .int) ∈ TB := TB_of (tin_5 (TB_at 21 rfl)) rfl
set_option maxRecDepth 100000 in
theorem imX11_trial : Cond.instanceMethod yX11_trial ∈ TB := TB_of (tin_5 (TB_at 19 rfl)) rfl
set_option maxRecDepth 100000 in
theorem seX11_trial : Cond.selects RX11 yX11_trial yX11_trial ∈ TB := TB_of (tin_5 (TB_at 20 rfl)) rfl
theorem kX11_trial : MKv mX11_trial 2 := ⟨imX11_trial, seX11_trial, iniX11, cdX11_trial, ⟨by decide +kernel, by decide +kernel⟩, by decide +kernel, by decide⟩
abbrev mX11_brief : MT := (yX11_brief, cX11_brief, 4, (some .int))
set_option maxRecDepth 100000 in
theorem cdX11_brief : Cond.code yX11_brief cX11_brief 4 (some .int) ∈ TB := TB_of (tin_5 (TB_at 45 rfl)) rfl
set_option maxRecDepth 100000 in
theorem imX11_brief : Cond.instanceMethod yX11_brief ∈ TB := TB_of (tin_5 (TB_at 43 rfl)) rfl
set_option maxRecDepth 100000 in
theorem seX11_brief : Cond.selects RX11 yX11_brief yX11_brief ∈ TB := TB_of (tin_5 (TB_at 44 rfl)) rfl
theorem kX11_brief : MKv mX11_brief 1 := ⟨imX11_brief, seX11_brief, iniX11, cdX11_brief, ⟨by decide +kernel, by decide +kernel⟩, by decide +kernel, by decide⟩
abbrev mX11_right : MT := (yX11_right, cX11_right, 4, (some .int))
set_option maxRecDepth 100000 in
theorem cdX11_right : Cond.code yX11_right cX11_right 4 (some .int) ∈ TB := TB_of (tin_5 (TB_at 49 rfl)) rfl
set_option maxRecDepth 100000 in
theorem imX11_right : Cond.instanceMethod yX11_right ∈ TB := TB_of (tin_5 (TB_at 47 rfl)) rfl
set_option maxRecDepth 100000 in
theorem seX11_right : Cond.selects RX11 yX11_right yX11_right ∈ TB := TB_of (tin_5 (TB_at 48 rfl)) rfl
theorem kX11_right : MKv mX11_right 1 := ⟨imX11_right, seX11_right, iniX11, cdX11_right, ⟨by decide +kernel, by decide +kernel⟩, by decide +kernel, by decide⟩
abbrev mX11_justice : MT := (yX11_justice, cX11_justice, 2, (some .int))
set_option maxRecDepth 100000 in
theorem cdX11_justice : Cond.code yX11_justice cX11_justice 2 (some .int) ∈ TB := TB_of (tin_5 (TB_at 57 rfl)) rfl
set_option maxRecDepth 100000 in
theorem imX11_justice : Cond.instanceMethod yX11_justice ∈ TB := TB_of (tin_5 (TB_at 55 rfl)) rfl
set_option maxRecDepth 100000 in
theorem seX11_justice : Cond.selects RX11 yX11_justice yX11_justice ∈ TB := TB_of (tin_5 (TB_at 56 rfl)) rfl
theorem kX11_justice : MKv mX11_justice 1 := ⟨imX11_justice, seX11_justice, iniX11, cdX11_justice, ⟨by decide +kernel, by decide +kernel⟩, by decide +kernel, by decide⟩
abbrev mX11_justiceBy : MT := (yX11_justiceBy, cX11_justiceBy, 5, (some .int))
set_option maxRecDepth 100000 in
theorem cdX11_justiceBy : Cond.code yX11_justiceBy cX11_justiceBy 5 (some .int) ∈ TB := TB_of (tin_5 (TB_at 61 rfl)) rfl
set_option maxRecDepth 100000 in
theorem imX11_justiceBy : Cond.instanceMethod yX11_justiceBy ∈ TB := TB_of (tin_5 (TB_at 60 rfl)) rfl
set_option maxRecDepth 100000 in
theorem seX11_justiceBy : Cond.selects RX11 yX11_justiceBy yX11_justiceBy ∈ TB := TB_of (tin_0 (TB_at 41 rfl)) rfl
theorem kX11_justiceBy : MKv mX11_justiceBy 1 := ⟨imX11_justiceBy, seX11_justiceBy, iniX11, cdX11_justiceBy, ⟨by decide +kernel, by decide +kernel⟩, by decide +kernel, by decide⟩
abbrev mX11_bestLaw : MT := (yX11_bestLaw, cX11_bestLaw, 5, (some .int))
set_option maxRecDepth 100000 in
theorem cdX11_bestLaw : Cond.code yX11_bestLaw cX11_bestLaw 5 (some .int) ∈ TB := TB_of (tin_5 (TB_at 65 rfl)) rfl
set_option maxRecDepth 100000 in
theorem imX11_bestLaw : Cond.instanceMethod yX11_bestLaw ∈ TB := TB_of (tin_5 (TB_at 63 rfl)) rfl
set_option maxRecDepth 100000 in
theorem seX11_bestLaw : Cond.selects RX11 yX11_bestLaw yX11_bestLaw ∈ TB := TB_of (tin_5 (TB_at 64 rfl)) rfl
theorem kX11_bestLaw : MKv mX11_bestLaw 0 := ⟨imX11_bestLaw, seX11_bestLaw, iniX11, cdX11_bestLaw, ⟨by decide +kernel, by decide +kernel⟩, by decide +kernel, by decide⟩
abbrev mX11_news : MT := (yX11_news, cX11_news, 3, (some .int))
set_option maxRecDepth 100000 in
theorem cdX11_news : Cond.code yX11_news cX11_news 3 (some .int) ∈ TB := TB_of (tin_5 (TB_at 69 rfl)) rfl
set_option maxRecDepth 100000 in
theorem imX11_news : Cond.instanceMethod yX11_news ∈ TB := TB_of (tin_5 (TB_at 67 rfl)) rfl
set_option maxRecDepth 100000 in
theorem seX11_news : Cond.selects RX11 yX11_news yX11_news ∈ TB := TB_of (tin_5 (TB_at 68 rfl)) rfl
theorem kX11_news : MKv mX11_news 2 := ⟨imX11_news, seX11_news, iniX11, cdX11_news, ⟨by decide +kernel, by decide +kernel⟩, by decide +kernel, by decide⟩
abbrev mX11_daysTill : MT := (yX11_daysTill, cX11_daysTill, 4, (some .int))
set_option maxRecDepth 100000 in
theorem cdX11_daysTill : Cond.code yX11_daysTill cX11_daysTill 4 (some .int) ∈ TB := TB_of (tin_5 (TB_at 73 rfl)) rfl
set_option maxRecDepth 100000 in
theorem imX11_daysTill : Cond.instanceMethod yX11_daysTill ∈ TB := TB_of (tin_5 (TB_at 72 rfl)) rfl
set_option maxRecDepth 100000 in
theorem seX11_daysTill : Cond.selects RX11 yX11_daysTill yX11_daysTill ∈ TB := TB_of (tin_0 (TB_at 42 rfl)) rfl
theorem kX11_daysTill : MKv mX11_daysTill 2 := ⟨imX11_daysTill, seX11_daysTill, iniX11, cdX11_daysTill, ⟨by decide +kernel, by decide +kernel⟩, by decide +kernel, by decide⟩
abbrev mX11_latest : MT := (yX11_latest, cX11_latest, 6, (some .int))
set_option maxRecDepth 100000 in
theorem cdX11_latest : Cond.code yX11_latest cX11_latest 6 (some .int) ∈ TB := TB_of (tin_5 (TB_at 77 rfl)) rfl
set_option maxRecDepth 100000 in
theorem imX11_latest : Cond.instanceMethod yX11_latest ∈ TB := TB_of (tin_5 (TB_at 75 rfl)) rfl
set_option maxRecDepth 100000 in
theorem seX11_latest : Cond.selects RX11 yX11_latest yX11_latest ∈ TB := TB_of (tin_5 (TB_at 76 rfl)) rfl
theorem kX11_latest : MKv mX11_latest 1 := ⟨imX11_latest, seX11_latest, iniX11, cdX11_latest, ⟨by decide +kernel, by decide +kernel⟩, by decide +kernel, by decide⟩
abbrev mX11_leastIn : MT := (yX11_leastIn, cX11_leastIn, 3, (some .int))
set_option maxRecDepth 100000 in
theorem cdX11_leastIn : Cond.code yX11_leastIn cX11_leastIn 3 (some .int) ∈ TB := TB_of (tin_5 (TB_at 81 rfl)) rfl
set_option maxRecDepth 100000 in
theorem imX11_leastIn : Cond.instanceMethod yX11_leastIn ∈ TB := TB_of (tin_5 (TB_at 79 rfl)) rfl
set_option maxRecDepth 100000 in
theorem seX11_leastIn : Cond.selects RX11 yX11_leastIn yX11_leastIn ∈ TB := TB_of (tin_5 (TB_at 80 rfl)) rfl
theorem kX11_leastIn : MKv mX11_leastIn 2 := ⟨imX11_leastIn, seX11_leastIn, iniX11, cdX11_leastIn, ⟨by decide +kernel, by decide +kernel⟩, by decide +kernel, by decide⟩
abbrev mX11_calm : MT := (yX11_calm, cX11_calm, 1, (some .int))
set_option maxRecDepth 100000 in
theorem cdX11_calm : Cond.code yX11_calm cX11_calm 1 (some .int) ∈ TB := TB_of (tin_5 (TB_at 85 rfl)) rfl
set_option maxRecDepth 100000 in
theorem imX11_calm : Cond.instanceMethod yX11_calm ∈ TB := TB_of (tin_5 (TB_at 83 rfl)) rfl
set_option maxRecDepth 100000 in
theorem seX11_calm : Cond.selects RX11 yX11_calm yX11_calm ∈ TB := TB_of (tin_5 (TB_at 84 rfl)) rfl
theorem kX11_calm : MKv mX11_calm 0 := ⟨imX11_calm, seX11_calm, iniX11, cdX11_calm, ⟨by decide +kernel, by decide +kernel⟩, by decide +kernel, by decide⟩
abbrev mX11_fitting : MT := (yX11_fitting, cX11_fitting, 5, (some .int))
set_option maxRecDepth 100000 in
theorem cdX11_fitting : Cond.code yX11_fitting cX11_fitting 5 (some .int) ∈ TB := TB_of (tin_5 (TB_at 89 rfl)) rfl
set_option maxRecDepth 100000 in
theorem imX11_fitting : Cond.instanceMethod yX11_fitting ∈ TB := TB_of (tin_5 (TB_at 87 rfl)) rfl
set_option maxRecDepth 100000 in
theorem seX11_fitting : Cond.selects RX11 yX11_fitting yX11_fitting ∈ TB := TB_of (tin_5 (TB_at 88 rfl)) rfl
theorem kX11_fitting : MKv mX11_fitting 1 := ⟨imX11_fitting, seX11_fitting, iniX11, cdX11_fitting, ⟨by decide +kernel, by decide +kernel⟩, by decide +kernel, by decide⟩
abbrev mX11_sure : MT := (yX11_sure, cX11_sure, 6, (some .int))
set_option maxRecDepth 100000 in
theorem cdX11_sure : Cond.code yX11_sure cX11_sure 6 (some .int) ∈ TB := TB_of (tin_5 (TB_at 102 rfl)) rfl
set_option maxRecDepth 100000 in
theorem imX11_sure : Cond.instanceMethod yX11_sure ∈ TB := TB_of (tin_5 (TB_at 100 rfl)) rfl
set_option maxRecDepth 100000 in
theorem seX11_sure : Cond.selects RX11 yX11_sure yX11_sure ∈ TB := TB_of (tin_5 (TB_at 101 rfl)) rfl
theorem kX11_sure : MKv mX11_sure 1 := ⟨imX11_sure, seX11_sure, iniX11, cdX11_sure, ⟨by decide +kernel, by decide +kernel⟩, by decide +kernel, by decide⟩
abbrev mX11_refusedAsked : MT := (yX11_refusedAsked, cX11_refusedAsked, 6, (some .int))
set_option maxRecDepth 100000 in
theorem cdX11_refusedAsked : Cond.code yX11_refusedAsked cX11_refusedAsked 6 (some .int) ∈ TB := TB_of (tin_5 (TB_at 93 rfl)) rfl
set_option maxRecDepth 100000 in
theorem imX11_refusedAsked : Cond.instanceMethod yX11_refusedAsked ∈ TB := TB_of (tin_5 (TB_at 92 rfl)) rfl
set_option maxRecDepth 100000 in
theorem seX11_refusedAsked : Cond.selects RX11 yX11_refusedAsked yX11_refusedAsked ∈ TB := TB_of (tin_0 (TB_at 43 rfl)) rfl
theorem kX11_refusedAsked : MKv mX11_refusedAsked 1 := ⟨imX11_refusedAsked, seX11_refusedAsked, iniX11, cdX11_refusedAsked, ⟨by decide +kernel, by decide +kernel⟩, by decide +kernel, by decide⟩
abbrev mX11_isFitting : MT := (yX11_isFitting, cX11_isFitting, 6, (some .boolean))
set_option maxRecDepth 100000 in
theorem cdX11_isFitting : Cond.code yX11_isFitting cX11_isFitting 6 (some .boolean) ∈ TB := TB_of (tin_5 (TB_at 97 rfl)) rfl
set_option maxRecDepth 100000 in
theorem imX11_isFitting : Cond.instanceMethod yX11_isFitting ∈ TB := TB_of (tin_5 (TB_at 96 rfl)) rfl
set_option maxRecDepth 100000 in
theorem seX11_isFitting : Cond.selects RX11 yX11_isFitting yX11_isFitting ∈ TB := TB_of (tin_0 (TB_at 44 rfl)) rfl
theorem kX11_isFitting : MKv mX11_isFitting 2 := ⟨imX11_isFitting, seX11_isFitting, iniX11, cdX11_isFitting, ⟨by decide +kernel, by decide +kernel⟩, by decide +kernel, by decide⟩
abbrev mX11_questions : MT := (yX11_questions, cX11_questions, 3, (some .int))
set_option maxRecDepth 100000 in
theorem cdX11_questions : Cond.code yX11_questions cX11_questions 3 (some .int) ∈ TB := TB_of (tin_5 (TB_at 107 rfl)) rfl
set_option maxRecDepth 100000 in
theorem imX11_questions : Cond.instanceMethod yX11_questions ∈ TB := TB_of (tin_5 (TB_at 105 rfl)) rfl
set_option maxRecDepth 100000 in
theorem seX11_questions : Cond.selects RX11 yX11_questions yX11_questions ∈ TB := TB_of (tin_5 (TB_at 106 rfl)) rfl
theorem kX11_questions : MKv mX11_questions 2 := ⟨imX11_questions, seX11_questions, iniX11, cdX11_questions, ⟨by decide +kernel, by decide +kernel⟩, by decide +kernel, by decide⟩
abbrev mX11_rowsToAsk : MT := (yX11_rowsToAsk, cX11_rowsToAsk, 6, (some .int))
set_option maxRecDepth 100000 in
theorem cdX11_rowsToAsk : Cond.code yX11_rowsToAsk cX11_rowsToAsk 6 (some .int) ∈ TB := TB_of (tin_5 (TB_at 111 rfl)) rfl
set_option maxRecDepth 100000 in
theorem imX11_rowsToAsk : Cond.instanceMethod yX11_rowsToAsk ∈ TB := TB_of (tin_5 (TB_at 110 rfl)) rfl
set_option maxRecDepth 100000 in
theorem seX11_rowsToAsk : Cond.selects RX11 yX11_rowsToAsk yX11_rowsToAsk ∈ TB := TB_of (tin_0 (TB_at 45 rfl)) rfl
theorem kX11_rowsToAsk : MKv mX11_rowsToAsk 2 := ⟨imX11_rowsToAsk, seX11_rowsToAsk, iniX11, cdX11_rowsToAsk, ⟨by decide +kernel, by decide +kernel⟩, by decide +kernel, by decide⟩
abbrev mX11_numbers : MT := (yX11_numbers, cX11_numbers, 4, (some .int))
set_option maxRecDepth 100000 in
theorem cdX11_numbers : Cond.code yX11_numbers cX11_numbers 4 (some .int) ∈ TB := TB_of (tin_5 (TB_at 115 rfl)) rfl
set_option maxRecDepth 100000 in
theorem imX11_numbers : Cond.instanceMethod yX11_numbers ∈ TB := TB_of (tin_5 (TB_at 113 rfl)) rfl
set_option maxRecDepth 100000 in
theorem seX11_numbers : Cond.selects RX11 yX11_numbers yX11_numbers ∈ TB := TB_of (tin_5 (TB_at 114 rfl)) rfl
theorem kX11_numbers : MKv mX11_numbers 3 := ⟨imX11_numbers, seX11_numbers, iniX11, cdX11_numbers, ⟨by decide +kernel, by decide +kernel⟩, by decide +kernel, by decide⟩
abbrev mX11_write : MT := (yX11_write, cX11_write, 5, (some .long))
set_option maxRecDepth 100000 in
theorem cdX11_write : Cond.code yX11_write cX11_write 5 (some .long) ∈ TB := TB_of (tin_5 (TB_at 126 rfl)) rfl
set_option maxRecDepth 100000 in
theorem imX11_write : Cond.instanceMethod yX11_write ∈ TB := TB_of (tin_5 (TB_at 124 rfl)) rfl
set_option maxRecDepth 100000 in
theorem seX11_write : Cond.selects RX11 yX11_write yX11_write ∈ TB := TB_of (tin_5 (TB_at 125 rfl)) rfl
theorem kX11_write : MKv mX11_write 3 := ⟨imX11_write, seX11_write, iniX11, cdX11_write, ⟨by decide +kernel, by decide +kernel⟩, by decide +kernel, by decide⟩
abbrev mX11_copy : MT := (yX11_copy, cX11_copy, 4, (some .int))
set_option maxRecDepth 100000 in
theorem cdX11_copy : Cond.code yX11_copy cX11_copy 4 (some .int) ∈ TB := TB_of (tin_5 (TB_at 137 rfl)) rfl
set_option maxRecDepth 100000 in
theorem imX11_copy : Cond.instanceMethod yX11_copy ∈ TB := TB_of (tin_5 (TB_at 135 rfl)) rfl
set_option maxRecDepth 100000 in
theorem seX11_copy : Cond.selects RX11 yX11_copy yX11_copy ∈ TB := TB_of (tin_5 (TB_at 136 rfl)) rfl
theorem kX11_copy : MKv mX11_copy 1 := ⟨imX11_copy, seX11_copy, iniX11, cdX11_copy, ⟨by decide +kernel, by decide +kernel⟩, by decide +kernel, by decide⟩
abbrev mX11_image : MT := (yX11_image, cX11_image, 2, (some .int))
set_option maxRecDepth 100000 in
theorem cdX11_image : Cond.code yX11_image cX11_image 2 (some .int) ∈ TB := TB_of (tin_5 (TB_at 142 rfl)) rfl
set_option maxRecDepth 100000 in
theorem imX11_image : Cond.instanceMethod yX11_image ∈ TB := TB_of (tin_5 (TB_at 140 rfl)) rfl
set_option maxRecDepth 100000 in
theorem seX11_image : Cond.selects RX11 yX11_image yX11_image ∈ TB := TB_of (tin_5 (TB_at 141 rfl)) rfl
theorem kX11_image : MKv mX11_image 1 := ⟨imX11_image, seX11_image, iniX11, cdX11_image, ⟨by decide +kernel, by decide +kernel⟩, by decide +kernel, by decide⟩
abbrev mX11_restore : MT := (yX11_restore, cX11_restore, 2, (some .int))
set_option maxRecDepth 100000 in
theorem cdX11_restore : Cond.code yX11_restore cX11_restore 2 (some .int) ∈ TB := TB_of (tin_5 (TB_at 146 rfl)) rfl
set_option maxRecDepth 100000 in
theorem imX11_restore : Cond.instanceMethod yX11_restore ∈ TB := TB_of (tin_5 (TB_at 144 rfl)) rfl
set_option maxRecDepth 100000 in
theorem seX11_restore : Cond.selects RX11 yX11_restore yX11_restore ∈ TB := TB_of (tin_5 (TB_at 145 rfl)) rfl
theorem kX11_restore : MKv mX11_restore 1 := ⟨imX11_restore, seX11_restore, iniX11, cdX11_restore, ⟨by decide +kernel, by decide +kernel⟩, by decide +kernel, by decide⟩
abbrev mX11_count : MT := (yX11_count, cX11_count, 2, (some .int))
set_option maxRecDepth 100000 in
theorem cdX11_count : Cond.code yX11_count cX11_count 2 (some .int) ∈ TB := TB_of (tin_5 (TB_at 150 rfl)) rfl
set_option maxRecDepth 100000 in
theorem imX11_count : Cond.instanceMethod yX11_count ∈ TB := TB_of (tin_5 (TB_at 148 rfl)) rfl
set_option maxRecDepth 100000 in
theorem seX11_count : Cond.selects RX11 yX11_count yX11_count ∈ TB := TB_of (tin_5 (TB_at 149 rfl)) rfl
theorem kX11_count : MKv mX11_count 1 := ⟨imX11_count, seX11_count, iniX11, cdX11_count, ⟨by decide +kernel, by decide +kernel⟩, by decide +kernel, by decide⟩
abbrev mX12_within : MT := (yX12_within, cX12_within, 6, (some .boolean))
set_option maxRecDepth 100000 in
theorem cdX12_within : Cond.code yX12_within cX12_within 6 (some .boolean) ∈ TB := TB_of (tin_6 (TB_at 40 rfl)) rfl
set_option maxRecDepth 100000 in
theorem stX12_within : Cond.static yX12_within ∈ TB := TB_of (tin_6 (TB_at 39 rfl)) rfl
theorem kX12_within : MKs mX12_within 3 := ⟨stX12_within, iniX12, cdX12_within, ⟨by decide +kernel, by decide +kernel⟩, by decide +kernel, by decide⟩
abbrev mX12_init : MT := (yX12_init, cX12_init, 1, none)
abbrev mX12_feed : MT := (yX12_feed, cX12_feed, 8, (some .int))
set_option maxRecDepth 100000 in
theorem cdX12_feed : Cond.code yX12_feed cX12_feed 8 (some .int) ∈ TB := TB_of (tin_6 (TB_at 33 rfl)) rfl
set_option maxRecDepth 100000 in
theorem imX12_feed : Cond.instanceMethod yX12_feed ∈ TB := TB_of (tin_6 (TB_at 31 rfl)) rfl
set_option maxRecDepth 100000 in
theorem seX12_feed : Cond.selects RX12 yX12_feed yX12_feed ∈ TB := TB_of (tin_6 (TB_at 32 rfl)) rfl
theorem kX12_feed : MKv mX12_feed 5 := ⟨imX12_feed, seX12_feed, iniX12, cdX12_feed, ⟨by decide +kernel, by decide +kernel⟩, by decide +kernel, by decide⟩
abbrev mX12_see : MT := (yX12_see, cX12_see, 2, (some .int))
set_option maxRecDepth 100000 in
theorem cdX12_see : Cond.code yX12_see cX12_see 2 (some .int) ∈ TB := TB_of (tin_6 (TB_at 48 rfl)) rfl
set_option maxRecDepth 100000 in
theorem imX12_see : Cond.instanceMethod yX12_see ∈ TB := TB_of (tin_6 (TB_at 47 rfl)) rfl
set_option maxRecDepth 100000 in
theorem seX12_see : Cond.selects RX12 yX12_see yX12_see ∈ TB := TB_of (tin_0 (TB_at 47 rfl)) rfl
theorem kX12_see : MKv mX12_see 1 := ⟨imX12_see, seX12_see, iniX12, cdX12_see, ⟨by decide +kernel, by decide +kernel⟩, by decide +kernel, by decide⟩
abbrev mX12_isSmall : MT := (yX12_isSmall, cX12_isSmall, 1, (some .boolean))
set_option maxRecDepth 100000 in
theorem cdX12_isSmall : Cond.code yX12_isSmall cX12_isSmall 1 (some .boolean) ∈ TB := TB_of (tin_6 (TB_at 51 rfl)) rfl
set_option maxRecDepth 100000 in
theorem stX12_isSmall : Cond.static yX12_isSmall ∈ TB := TB_of (tin_6 (TB_at 50 rfl)) rfl
theorem kX12_isSmall : MKs mX12_isSmall 1 := ⟨stX12_isSmall, iniX12, cdX12_isSmall, ⟨by decide +kernel, by decide +kernel⟩, by decide +kernel, by decide⟩
abbrev mX12_isDigit : MT := (yX12_isDigit, cX12_isDigit, 1, (some .boolean))
set_option maxRecDepth 100000 in
theorem cdX12_isDigit : Cond.code yX12_isDigit cX12_isDigit 1 (some .boolean) ∈ TB := TB_of (tin_6 (TB_at 61 rfl)) rfl
set_option maxRecDepth 100000 in
theorem stX12_isDigit : Cond.static yX12_isDigit ∈ TB := TB_of (tin_6 (TB_at 60 rfl)) rfl
theorem kX12_isDigit : MKs mX12_isDigit 1 := ⟨stX12_isDigit, iniX12, cdX12_isDigit, ⟨by decide +kernel, by decide +kernel⟩, by decide +kernel, by decide⟩
abbrev mX12_keyAt : MT := (yX12_keyAt, cX12_keyAt, 4, (some .int))
set_option maxRecDepth 100000 in
theorem cdX12_keyAt : Cond.code yX12_keyAt cX12_keyAt 4 (some .int) ∈ TB := TB_of (tin_6 (TB_at 55 rfl)) rfl
set_option maxRecDepth 100000 in
theorem imX12_keyAt : Cond.instanceMethod yX12_keyAt ∈ TB := TB_of (tin_6 (TB_at 54 rfl)) rfl
set_option maxRecDepth 100000 in
theorem seX12_keyAt : Cond.selects RX12 yX12_keyAt yX12_keyAt ∈ TB := TB_of (tin_0 (TB_at 48 rfl)) rfl
theorem kX12_keyAt : MKv mX12_keyAt 0 := ⟨imX12_keyAt, seX12_keyAt, iniX12, cdX12_keyAt, ⟨by decide +kernel, by decide +kernel⟩, by decide +kernel, by decide⟩
abbrev mX12_next : MT := (yX12_next, cX12_next, 2, none)
set_option maxRecDepth 100000 in
theorem cdX12_next : Cond.code yX12_next cX12_next 2 none ∈ TB := TB_of (tin_6 (TB_at 44 rfl)) rfl
set_option maxRecDepth 100000 in
theorem imX12_next : Cond.instanceMethod yX12_next ∈ TB := TB_of (tin_6 (TB_at 43 rfl)) rfl
set_option maxRecDepth 100000 in
theorem seX12_next : Cond.selects RX12 yX12_next yX12_next ∈ TB := TB_of (tin_0 (TB_at 46 rfl)) rfl
theorem kX12_next : MKv mX12_next 0 := ⟨imX12_next, seX12_next, iniX12, cdX12_next, ⟨by decide +kernel, by decide +kernel⟩, by decide +kernel, by decide⟩
abbrev mX12_fails : MT := (yX12_fails, cX12_fails, 2, none)
set_option maxRecDepth 100000 in
theorem cdX12_fails : Cond.code yX12_fails cX12_fails 2 none ∈ TB := TB_of (tin_6 (TB_at 74 rfl)) rfl
set_option maxRecDepth 100000 in
theorem imX12_fails : Cond.instanceMethod yX12_fails ∈ TB := TB_of (tin_6 (TB_at 73 rfl)) rfl
set_option maxRecDepth 100000 in
theorem seX12_fails : Cond.selects RX12 yX12_fails yX12_fails ∈ TB := TB_of (tin_0 (TB_at 51 rfl)) rfl
theorem kX12_fails : MKv mX12_fails 1 := ⟨imX12_fails, seX12_fails, iniX12, cdX12_fails, ⟨by decide +kernel, by decide +kernel⟩, by decide +kernel, by decide⟩
abbrev mX12_is : MT := (yX12_is, cX12_is, 2, (some .boolean))
set_option maxRecDepth 100000 in
theorem cdX12_is : Cond.code yX12_is cX12_is 2 (some .boolean) ∈ TB := TB_of (tin_6 (TB_at 66 rfl)) rfl
set_option maxRecDepth 100000 in
theorem imX12_is : Cond.instanceMethod yX12_is ∈ TB := TB_of (tin_6 (TB_at 65 rfl)) rfl
set_option maxRecDepth 100000 in
theorem seX12_is : Cond.selects RX12 yX12_is yX12_is ∈ TB := TB_of (tin_0 (TB_at 49 rfl)) rfl
theorem kX12_is : MKv mX12_is 1 := ⟨imX12_is, seX12_is, iniX12, cdX12_is, ⟨by decide +kernel, by decide +kernel⟩, by decide +kernel, by decide⟩
abbrev mX12_eats : MT := (yX12_eats, cX12_eats, 2, (some .boolean))
set_option maxRecDepth 100000 in
theorem cdX12_eats : Cond.code yX12_eats cX12_eats 2 (some .boolean) ∈ TB := TB_of (tin_6 (TB_at 82 rfl)) rfl
set_option maxRecDepth 100000 in
theorem imX12_eats : Cond.instanceMethod yX12_eats ∈ TB := TB_of (tin_6 (TB_at 81 rfl)) rfl
set_option maxRecDepth 100000 in
theorem seX12_eats : Cond.selects RX12 yX12_eats yX12_eats ∈ TB := TB_of (tin_0 (TB_at 53 rfl)) rfl
theorem kX12_eats : MKv mX12_eats 1 := ⟨imX12_eats, seX12_eats, iniX12, cdX12_eats, ⟨by decide +kernel, by decide +kernel⟩, by decide +kernel, by decide⟩
abbrev mX12_takes : MT := (yX12_takes, cX12_takes, 4, (some .int))
set_option maxRecDepth 100000 in
theorem cdX12_takes : Cond.code yX12_takes cX12_takes 4 (some .int) ∈ TB := TB_of (tin_6 (TB_at 78 rfl)) rfl
set_option maxRecDepth 100000 in
theorem imX12_takes : Cond.instanceMethod yX12_takes ∈ TB := TB_of (tin_6 (TB_at 77 rfl)) rfl
set_option maxRecDepth 100000 in
theorem seX12_takes : Cond.selects RX12 yX12_takes yX12_takes ∈ TB := TB_of (tin_0 (TB_at 52 rfl)) rfl
theorem kX12_takes : MKv mX12_takes 2 := ⟨imX12_takes, seX12_takes, iniX12, cdX12_takes, ⟨by decide +kernel, by decide +kernel⟩, by decide +kernel, by decide⟩
abbrev mX12_isIn : MT := (yX12_isIn, cX12_isIn, 3, (some .boolean))
set_option maxRecDepth 100000 in
theorem cdX12_isIn : Cond.code yX12_isIn cX12_isIn 3 (some .boolean) ∈ TB := TB_of (tin_6 (TB_at 165 rfl)) rfl
set_option maxRecDepth 100000 in
theorem stX12_isIn : Cond.static yX12_isIn ∈ TB := TB_of (tin_6 (TB_at 164 rfl)) rfl
theorem kX12_isIn : MKs mX12_isIn 2 := ⟨stX12_isIn, iniX12, cdX12_isIn, ⟨by decide +kernel, by decide +kernel⟩, by decide +kernel, by decide⟩
abbrev mX12_readWorld : MT := (yX12_readWorld, cX12_readWorld, 4, none)
set_option maxRecDepth 100000 in
theorem cdX12_readWorld : Cond.code yX12_readWorld cX12_readWorld 4 none ∈ TB := TB_of (tin_6 (TB_at 70 rfl)) rfl
set_option maxRecDepth 100000 in
theorem imX12_readWorld : Cond.instanceMethod yX12_readWorld ∈ TB := TB_of (tin_6 (TB_at 69 rfl)) rfl
set_option maxRecDepth 100000 in
theorem seX12_readWorld : Cond.selects RX12 yX12_readWorld yX12_readWorld ∈ TB := TB_of (tin_0 (TB_at 50 rfl)) rfl
theorem kX12_readWorld : MKv mX12_readWorld 0 := ⟨imX12_readWorld, seX12_readWorld, iniX12, cdX12_readWorld, ⟨by decide +kernel, by decide +kernel⟩, by decide +kernel, by decide⟩
abbrev mX12_readPerson : MT := (yX12_readPerson, cX12_readPerson, 5, none)
set_option maxRecDepth 100000 in
theorem cdX12_readPerson : Cond.code yX12_readPerson cX12_readPerson 5 none ∈ TB := TB_of (tin_6 (TB_at 125 rfl)) rfl
set_option maxRecDepth 100000 in
theorem imX12_readPerson : Cond.instanceMethod yX12_readPerson ∈ TB := TB_of (tin_6 (TB_at 124 rfl)) rfl
set_option maxRecDepth 100000 in
theorem seX12_readPerson : Cond.selects RX12 yX12_readPerson yX12_readPerson ∈ TB := TB_of (tin_0 (TB_at 63 rfl)) rfl
theorem kX12_readPerson : MKv mX12_readPerson 0 := ⟨imX12_readPerson, seX12_readPerson, iniX12, cdX12_readPerson, ⟨by decide +kernel, by decide +kernel⟩, by decide +kernel, by decide⟩
abbrev mX12_readRoad : MT := (yX12_readRoad, cX12_readRoad, 3, none)
set_option maxRecDepth 100000 in
theorem cdX12_readRoad : Cond.code yX12_readRoad cX12_readRoad 3 none ∈ TB := TB_of (tin_6 (TB_at 129 rfl)) rfl
set_option maxRecDepth 100000 in
theorem imX12_readRoad : Cond.instanceMethod yX12_readRoad ∈ TB := TB_of (tin_6 (TB_at 128 rfl)) rfl
set_option maxRecDepth 100000 in
theorem seX12_readRoad : Cond.selects RX12 yX12_readRoad yX12_readRoad ∈ TB := TB_of (tin_0 (TB_at 64 rfl)) rfl
theorem kX12_readRoad : MKv mX12_readRoad 0 := ⟨imX12_readRoad, seX12_readRoad, iniX12, cdX12_readRoad, ⟨by decide +kernel, by decide +kernel⟩, by decide +kernel, by decide⟩
abbrev mX12_readHint : MT := (yX12_readHint, cX12_readHint, 3, none)
set_option maxRecDepth 100000 in
theorem cdX12_readHint : Cond.code yX12_readHint cX12_readHint 3 none ∈ TB := TB_of (tin_6 (TB_at 133 rfl)) rfl
set_option maxRecDepth 100000 in
theorem imX12_readHint : Cond.instanceMethod yX12_readHint ∈ TB := TB_of (tin_6 (TB_at 132 rfl)) rfl
set_option maxRecDepth 100000 in
theorem seX12_readHint : Cond.selects RX12 yX12_readHint yX12_readHint ∈ TB := TB_of (tin_0 (TB_at 65 rfl)) rfl
theorem kX12_readHint : MKv mX12_readHint 0 := ⟨imX12_readHint, seX12_readHint, iniX12, cdX12_readHint, ⟨by decide +kernel, by decide +kernel⟩, by decide +kernel, by decide⟩
abbrev mX12_tells : MT := (yX12_tells, cX12_tells, 2, none)
set_option maxRecDepth 100000 in
theorem cdX12_tells : Cond.code yX12_tells cX12_tells 2 none ∈ TB := TB_of (tin_6 (TB_at 106 rfl)) rfl
set_option maxRecDepth 100000 in
theorem imX12_tells : Cond.instanceMethod yX12_tells ∈ TB := TB_of (tin_6 (TB_at 105 rfl)) rfl
set_option maxRecDepth 100000 in
theorem seX12_tells : Cond.selects RX12 yX12_tells yX12_tells ∈ TB := TB_of (tin_0 (TB_at 59 rfl)) rfl
theorem kX12_tells : MKv mX12_tells 1 := ⟨imX12_tells, seX12_tells, iniX12, cdX12_tells, ⟨by decide +kernel, by decide +kernel⟩, by decide +kernel, by decide⟩
abbrev mX12_goesIn : MT := (yX12_goesIn, cX12_goesIn, 2, (some .boolean))
set_option maxRecDepth 100000 in
theorem cdX12_goesIn : Cond.code yX12_goesIn cX12_goesIn 2 (some .boolean) ∈ TB := TB_of (tin_6 (TB_at 102 rfl)) rfl
set_option maxRecDepth 100000 in
theorem imX12_goesIn : Cond.instanceMethod yX12_goesIn ∈ TB := TB_of (tin_6 (TB_at 101 rfl)) rfl
set_option maxRecDepth 100000 in
theorem seX12_goesIn : Cond.selects RX12 yX12_goesIn yX12_goesIn ∈ TB := TB_of (tin_0 (TB_at 58 rfl)) rfl
theorem kX12_goesIn : MKv mX12_goesIn 1 := ⟨imX12_goesIn, seX12_goesIn, iniX12, cdX12_goesIn, ⟨by decide +kernel, by decide +kernel⟩, by decide +kernel, by decide⟩
abbrev mX12_readAtom : MT := (yX12_readAtom, cX12_readAtom, 2, none)
set_option maxRecDepth 100000 in
theorem cdX12_readAtom : Cond.code yX12_readAtom cX12_readAtom 2 none ∈ TB := TB_of (tin_6 (TB_at 118 rfl)) rfl
set_option maxRecDepth 100000 in
theorem imX12_readAtom : Cond.instanceMethod yX12_readAtom ∈ TB := TB_of (tin_6 (TB_at 117 rfl)) rfl
set_option maxRecDepth 100000 in
theorem seX12_readAtom : Cond.selects RX12 yX12_readAtom yX12_readAtom ∈ TB := TB_of (tin_0 (TB_at 62 rfl)) rfl
theorem kX12_readAtom : MKv mX12_readAtom 1 := ⟨imX12_readAtom, seX12_readAtom, iniX12, cdX12_readAtom, ⟨by decide +kernel, by decide +kernel⟩, by decide +kernel, by decide⟩
abbrev mX12_readTerm : MT := (yX12_readTerm, cX12_readTerm, 2, none)
set_option maxRecDepth 100000 in
theorem cdX12_readTerm : Cond.code yX12_readTerm cX12_readTerm 2 none ∈ TB := TB_of (tin_6 (TB_at 114 rfl)) rfl
set_option maxRecDepth 100000 in
theorem imX12_readTerm : Cond.instanceMethod yX12_readTerm ∈ TB := TB_of (tin_6 (TB_at 113 rfl)) rfl
set_option maxRecDepth 100000 in
theorem seX12_readTerm : Cond.selects RX12 yX12_readTerm yX12_readTerm ∈ TB := TB_of (tin_0 (TB_at 61 rfl)) rfl
theorem kX12_readTerm : MKv mX12_readTerm 1 := ⟨imX12_readTerm, seX12_readTerm, iniX12, cdX12_readTerm, ⟨by decide +kernel, by decide +kernel⟩, by decide +kernel, by decide⟩
abbrev mX12_readSum : MT := (yX12_readSum, cX12_readSum, 3, none)
set_option maxRecDepth 100000 in
theorem cdX12_readSum : Cond.code yX12_readSum cX12_readSum 3 none ∈ TB := TB_of (tin_6 (TB_at 110 rfl)) rfl
set_option maxRecDepth 100000 in
theorem imX12_readSum : Cond.instanceMethod yX12_readSum ∈ TB := TB_of (tin_6 (TB_at 109 rfl)) rfl
set_option maxRecDepth 100000 in
theorem seX12_readSum : Cond.selects RX12 yX12_readSum yX12_readSum ∈ TB := TB_of (tin_0 (TB_at 60 rfl)) rfl
theorem kX12_readSum : MKv mX12_readSum 1 := ⟨imX12_readSum, seX12_readSum, iniX12, cdX12_readSum, ⟨by decide +kernel, by decide +kernel⟩, by decide +kernel, by decide⟩
abbrev mX12_readUnit : MT := (yX12_readUnit, cX12_readUnit, 3, none)
set_option maxRecDepth 100000 in
theorem cdX12_readUnit : Cond.code yX12_readUnit cX12_readUnit 3 none ∈ TB := TB_of (tin_6 (TB_at 98 rfl)) rfl
set_option maxRecDepth 100000 in
theorem imX12_readUnit : Cond.instanceMethod yX12_readUnit ∈ TB := TB_of (tin_6 (TB_at 97 rfl)) rfl
set_option maxRecDepth 100000 in
theorem seX12_readUnit : Cond.selects RX12 yX12_readUnit yX12_readUnit ∈ TB := TB_of (tin_0 (TB_at 57 rfl)) rfl
theorem kX12_readUnit : MKv mX12_readUnit 1 := ⟨imX12_readUnit, seX12_readUnit, iniX12, cdX12_readUnit, ⟨by decide +kernel, by decide +kernel⟩, by decide +kernel, by decide⟩
abbrev mX12_readBoth : MT := (yX12_readBoth, cX12_readBoth, 2, none)
set_option maxRecDepth 100000 in
theorem cdX12_readBoth : Cond.code yX12_readBoth cX12_readBoth 2 none ∈ TB := TB_of (tin_6 (TB_at 94 rfl)) rfl
set_option maxRecDepth 100000 in
theorem imX12_readBoth : Cond.instanceMethod yX12_readBoth ∈ TB := TB_of (tin_6 (TB_at 93 rfl)) rfl
set_option maxRecDepth 100000 in
theorem seX12_readBoth : Cond.selects RX12 yX12_readBoth yX12_readBoth ∈ TB := TB_of (tin_0 (TB_at 56 rfl)) rfl
theorem kX12_readBoth : MKv mX12_readBoth 1 := ⟨imX12_readBoth, seX12_readBoth, iniX12, cdX12_readBoth, ⟨by decide +kernel, by decide +kernel⟩, by decide +kernel, by decide⟩
abbrev mX12_readTruth : MT := (yX12_readTruth, cX12_readTruth, 2, none)
set_option maxRecDepth 100000 in
theorem cdX12_readTruth : Cond.code yX12_readTruth cX12_readTruth 2 none ∈ TB := TB_of (tin_6 (TB_at 90 rfl)) rfl
set_option maxRecDepth 100000 in
theorem imX12_readTruth : Cond.instanceMethod yX12_readTruth ∈ TB := TB_of (tin_6 (TB_at 89 rfl)) rfl
set_option maxRecDepth 100000 in
theorem seX12_readTruth : Cond.selects RX12 yX12_readTruth yX12_readTruth ∈ TB := TB_of (tin_0 (TB_at 55 rfl)) rfl
theorem kX12_readTruth : MKv mX12_readTruth 1 := ⟨imX12_readTruth, seX12_readTruth, iniX12, cdX12_readTruth, ⟨by decide +kernel, by decide +kernel⟩, by decide +kernel, by decide⟩
abbrev mX12_readFact : MT := (yX12_readFact, cX12_readFact, 2, none)
set_option maxRecDepth 100000 in
theorem cdX12_readFact : Cond.code yX12_readFact cX12_readFact 2 none ∈ TB := TB_of (tin_6 (TB_at 86 rfl)) rfl
set_option maxRecDepth 100000 in
theorem imX12_readFact : Cond.instanceMethod yX12_readFact ∈ TB := TB_of (tin_6 (TB_at 85 rfl)) rfl
set_option maxRecDepth 100000 in
theorem seX12_readFact : Cond.selects RX12 yX12_readFact yX12_readFact ∈ TB := TB_of (tin_0 (TB_at 54 rfl)) rfl
theorem kX12_readFact : MKv mX12_readFact 0 := ⟨imX12_readFact, seX12_readFact, iniX12, cdX12_readFact, ⟨by decide +kernel, by decide +kernel⟩, by decide +kernel, by decide⟩
abbrev mX12_wordOf : MT := (yX12_wordOf, cX12_wordOf, 4, (some .int))
set_option maxRecDepth 100000 in
theorem cdX12_wordOf : Cond.code yX12_wordOf cX12_wordOf 4 (some .int) ∈ TB := TB_of (tin_6 (TB_at 141 rfl)) rfl
set_option maxRecDepth 100000 in
theorem imX12_wordOf : Cond.instanceMethod yX12_wordOf ∈ TB := TB_of (tin_6 (TB_at 140 rfl)) rfl
set_option maxRecDepth 100000 in
theorem seX12_wordOf : Cond.selects RX12 yX12_wordOf yX12_wordOf ∈ TB := TB_of (tin_0 (TB_at 67 rfl)) rfl
theorem kX12_wordOf : MKv mX12_wordOf 2 := ⟨imX12_wordOf, seX12_wordOf, iniX12, cdX12_wordOf, ⟨by decide +kernel, by decide +kernel⟩, by decide +kernel, by decide⟩
abbrev mX12_between : MT := (yX12_between, cX12_between, 5, (some .int))
set_option maxRecDepth 100000 in
theorem cdX12_between : Cond.code yX12_between cX12_between 5 (some .int) ∈ TB := TB_of (tin_6 (TB_at 144 rfl)) rfl
set_option maxRecDepth 100000 in
theorem stX12_between : Cond.static yX12_between ∈ TB := TB_of (tin_6 (TB_at 143 rfl)) rfl
theorem kX12_between : MKs mX12_between 3 := ⟨stX12_between, iniX12, cdX12_between, ⟨by decide +kernel, by decide +kernel⟩, by decide +kernel, by decide⟩
abbrev mX12_holdsIn : MT := (yX12_holdsIn, cX12_holdsIn, 6, (some .boolean))
set_option maxRecDepth 100000 in
theorem cdX12_holdsIn : Cond.code yX12_holdsIn cX12_holdsIn 6 (some .boolean) ∈ TB := TB_of (tin_6 (TB_at 137 rfl)) rfl
set_option maxRecDepth 100000 in
theorem imX12_holdsIn : Cond.instanceMethod yX12_holdsIn ∈ TB := TB_of (tin_6 (TB_at 136 rfl)) rfl
set_option maxRecDepth 100000 in
theorem seX12_holdsIn : Cond.selects RX12 yX12_holdsIn yX12_holdsIn ∈ TB := TB_of (tin_0 (TB_at 66 rfl)) rfl
theorem kX12_holdsIn : MKv mX12_holdsIn 2 := ⟨imX12_holdsIn, seX12_holdsIn, iniX12, cdX12_holdsIn, ⟨by decide +kernel, by decide +kernel⟩, by decide +kernel, by decide⟩
abbrev mX12_land : MT := (yX12_land, cX12_land, 4, (some .int))
set_option maxRecDepth 100000 in
theorem cdX12_land : Cond.code yX12_land cX12_land 4 (some .int) ∈ TB := TB_of (tin_6 (TB_at 37 rfl)) rfl
set_option maxRecDepth 100000 in
theorem imX12_land : Cond.instanceMethod yX12_land ∈ TB := TB_of (tin_6 (TB_at 35 rfl)) rfl
set_option maxRecDepth 100000 in
theorem seX12_land : Cond.selects RX12 yX12_land yX12_land ∈ TB := TB_of (tin_6 (TB_at 36 rfl)) rfl
theorem kX12_land : MKv mX12_land 1 := ⟨imX12_land, seX12_land, iniX12, cdX12_land, ⟨by decide +kernel, by decide +kernel⟩, by decide +kernel, by decide⟩
abbrev mX12_fault : MT := (yX12_fault, cX12_fault, 2, (some .int))
set_option maxRecDepth 100000 in
theorem cdX12_fault : Cond.code yX12_fault cX12_fault 2 (some .int) ∈ TB := TB_of (tin_6 (TB_at 150 rfl)) rfl
set_option maxRecDepth 100000 in
theorem imX12_fault : Cond.instanceMethod yX12_fault ∈ TB := TB_of (tin_6 (TB_at 148 rfl)) rfl
set_option maxRecDepth 100000 in
theorem seX12_fault : Cond.selects RX12 yX12_fault yX12_fault ∈ TB := TB_of (tin_6 (TB_at 149 rfl)) rfl
theorem kX12_fault : MKv mX12_fault 1 := ⟨imX12_fault, seX12_fault, iniX12, cdX12_fault, ⟨by decide +kernel, by decide +kernel⟩, by decide +kernel, by decide⟩
abbrev mX12_isWorld : MT := (yX12_isWorld, cX12_isWorld, 2, (some .boolean))
set_option maxRecDepth 100000 in
theorem cdX12_isWorld : Cond.code yX12_isWorld cX12_isWorld 2 (some .boolean) ∈ TB := TB_of (tin_6 (TB_at 158 rfl)) rfl
set_option maxRecDepth 100000 in
theorem imX12_isWorld : Cond.instanceMethod yX12_isWorld ∈ TB := TB_of (tin_6 (TB_at 157 rfl)) rfl
set_option maxRecDepth 100000 in
theorem seX12_isWorld : Cond.selects RX12 yX12_isWorld yX12_isWorld ∈ TB := TB_of (tin_0 (TB_at 68 rfl)) rfl
theorem kX12_isWorld : MKv mX12_isWorld 1 := ⟨imX12_isWorld, seX12_isWorld, iniX12, cdX12_isWorld, ⟨by decide +kernel, by decide +kernel⟩, by decide +kernel, by decide⟩
abbrev mX12_isFact : MT := (yX12_isFact, cX12_isFact, 3, (some .boolean))
set_option maxRecDepth 100000 in
theorem cdX12_isFact : Cond.code yX12_isFact cX12_isFact 3 (some .boolean) ∈ TB := TB_of (tin_6 (TB_at 173 rfl)) rfl
set_option maxRecDepth 100000 in
theorem imX12_isFact : Cond.instanceMethod yX12_isFact ∈ TB := TB_of (tin_6 (TB_at 172 rfl)) rfl
set_option maxRecDepth 100000 in
theorem seX12_isFact : Cond.selects RX12 yX12_isFact yX12_isFact ∈ TB := TB_of (tin_0 (TB_at 70 rfl)) rfl
theorem kX12_isFact : MKv mX12_isFact 1 := ⟨imX12_isFact, seX12_isFact, iniX12, cdX12_isFact, ⟨by decide +kernel, by decide +kernel⟩, by decide +kernel, by decide⟩
abbrev mX12_isPerson : MT := (yX12_isPerson, cX12_isPerson, 3, (some .boolean))
set_option maxRecDepth 100000 in
theorem cdX12_isPerson : Cond.code yX12_isPerson cX12_isPerson 3 (some .boolean) ∈ TB := TB_of (tin_6 (TB_at 181 rfl)) rfl
set_option maxRecDepth 100000 in
theorem imX12_isPerson : Cond.instanceMethod yX12_isPerson ∈ TB := TB_of (tin_6 (TB_at 180 rfl)) rfl
set_option maxRecDepth 100000 in
theorem seX12_isPerson : Cond.selects RX12 yX12_isPerson yX12_isPerson ∈ TB := TB_of (tin_0 (TB_at 71 rfl)) rfl
theorem kX12_isPerson : MKv mX12_isPerson 1 := ⟨imX12_isPerson, seX12_isPerson, iniX12, cdX12_isPerson, ⟨by decide +kernel, by decide +kernel⟩, by decide +kernel, by decide⟩
abbrev mX12_worlds : MT := (yX12_worlds, cX12_worlds, 1, (some .int))
set_option maxRecDepth 100000 in
theorem cdX12_worlds : Cond.code yX12_worlds cX12_worlds 1 (some .int) ∈ TB := TB_of (tin_6 (TB_at 193 rfl)) rfl
set_option maxRecDepth 100000 in
theorem imX12_worlds : Cond.instanceMethod yX12_worlds ∈ TB := TB_of (tin_6 (TB_at 192 rfl)) rfl
set_option maxRecDepth 100000 in
theorem seX12_worlds : Cond.selects RX12 yX12_worlds yX12_worlds ∈ TB := TB_of (tin_0 (TB_at 74 rfl)) rfl
theorem kX12_worlds : MKv mX12_worlds 0 := ⟨imX12_worlds, seX12_worlds, iniX12, cdX12_worlds, ⟨by decide +kernel, by decide +kernel⟩, by decide +kernel, by decide⟩
abbrev mX12_bitsOf : MT := (yX12_bitsOf, cX12_bitsOf, 3, (some .int))
set_option maxRecDepth 100000 in
theorem cdX12_bitsOf : Cond.code yX12_bitsOf cX12_bitsOf 3 (some .int) ∈ TB := TB_of (tin_6 (TB_at 231 rfl)) rfl
set_option maxRecDepth 100000 in
theorem stX12_bitsOf : Cond.static yX12_bitsOf ∈ TB := TB_of (tin_6 (TB_at 230 rfl)) rfl
theorem kX12_bitsOf : MKs mX12_bitsOf 1 := ⟨stX12_bitsOf, iniX12, cdX12_bitsOf, ⟨by decide +kernel, by decide +kernel⟩, by decide +kernel, by decide⟩
abbrev mX12_factsOf : MT := (yX12_factsOf, cX12_factsOf, 4, (some .int))
set_option maxRecDepth 100000 in
theorem cdX12_factsOf : Cond.code yX12_factsOf cX12_factsOf 4 (some .int) ∈ TB := TB_of (tin_6 (TB_at 162 rfl)) rfl
set_option maxRecDepth 100000 in
theorem imX12_factsOf : Cond.instanceMethod yX12_factsOf ∈ TB := TB_of (tin_6 (TB_at 161 rfl)) rfl
set_option maxRecDepth 100000 in
theorem seX12_factsOf : Cond.selects RX12 yX12_factsOf yX12_factsOf ∈ TB := TB_of (tin_0 (TB_at 69 rfl)) rfl
theorem kX12_factsOf : MKv mX12_factsOf 1 := ⟨imX12_factsOf, seX12_factsOf, iniX12, cdX12_factsOf, ⟨by decide +kernel, by decide +kernel⟩, by decide +kernel, by decide⟩
abbrev mX12_cellOf : MT := (yX12_cellOf, cX12_cellOf, 5, (some .int))
set_option maxRecDepth 100000 in
theorem cdX12_cellOf : Cond.code yX12_cellOf cX12_cellOf 5 (some .int) ∈ TB := TB_of (tin_6 (TB_at 189 rfl)) rfl
set_option maxRecDepth 100000 in
theorem imX12_cellOf : Cond.instanceMethod yX12_cellOf ∈ TB := TB_of (tin_6 (TB_at 188 rfl)) rfl
set_option maxRecDepth 100000 in
theorem seX12_cellOf : Cond.selects RX12 yX12_cellOf yX12_cellOf ∈ TB := TB_of (tin_0 (TB_at 73 rfl)) rfl
theorem kX12_cellOf : MKv mX12_cellOf 2 := ⟨imX12_cellOf, seX12_cellOf, iniX12, cdX12_cellOf, ⟨by decide +kernel, by decide +kernel⟩, by decide +kernel, by decide⟩
abbrev mX12_guilty : MT := (yX12_guilty, cX12_guilty, 3, (some .int))
set_option maxRecDepth 100000 in
theorem cdX12_guilty : Cond.code yX12_guilty cX12_guilty 3 (some .int) ∈ TB := TB_of (tin_6 (TB_at 204 rfl)) rfl
set_option maxRecDepth 100000 in
theorem imX12_guilty : Cond.instanceMethod yX12_guilty ∈ TB := TB_of (tin_6 (TB_at 203 rfl)) rfl
set_option maxRecDepth 100000 in
theorem seX12_guilty : Cond.selects RX12 yX12_guilty yX12_guilty ∈ TB := TB_of (tin_0 (TB_at 76 rfl)) rfl
theorem kX12_guilty : MKv mX12_guilty 0 := ⟨imX12_guilty, seX12_guilty, iniX12, cdX12_guilty, ⟨by decide +kernel, by decide +kernel⟩, by decide +kernel, by decide⟩
abbrev mX12_isPlain : MT := (yX12_isPlain, cX12_isPlain, 2, (some .boolean))
set_option maxRecDepth 100000 in
theorem cdX12_isPlain : Cond.code yX12_isPlain cX12_isPlain 2 (some .boolean) ∈ TB := TB_of (tin_6 (TB_at 200 rfl)) rfl
set_option maxRecDepth 100000 in
theorem stX12_isPlain : Cond.static yX12_isPlain ∈ TB := TB_of (tin_6 (TB_at 199 rfl)) rfl
theorem kX12_isPlain : MKs mX12_isPlain 2 := ⟨stX12_isPlain, iniX12, cdX12_isPlain, ⟨by decide +kernel, by decide +kernel⟩, by decide +kernel, by decide⟩
abbrev mX12_knownIn : MT := (yX12_knownIn, cX12_knownIn, 4, (some .int))
set_option maxRecDepth 100000 in
theorem cdX12_knownIn : Cond.code yX12_knownIn cX12_knownIn 4 (some .int) ∈ TB := TB_of (tin_6 (TB_at 197 rfl)) rfl
set_option maxRecDepth 100000 in
theorem imX12_knownIn : Cond.instanceMethod yX12_knownIn ∈ TB := TB_of (tin_6 (TB_at 196 rfl)) rfl
set_option maxRecDepth 100000 in
theorem seX12_knownIn : Cond.selects RX12 yX12_knownIn yX12_knownIn ∈ TB := TB_of (tin_0 (TB_at 75 rfl)) rfl
theorem kX12_knownIn : MKv mX12_knownIn 1 := ⟨imX12_knownIn, seX12_knownIn, iniX12, cdX12_knownIn, ⟨by decide +kernel, by decide +kernel⟩, by decide +kernel, by decide⟩
abbrev mX12_cellNow : MT := (yX12_cellNow, cX12_cellNow, 2, (some .int))
set_option maxRecDepth 100000 in
theorem cdX12_cellNow : Cond.code yX12_cellNow cX12_cellNow 2 (some .int) ∈ TB := TB_of (tin_6 (TB_at 185 rfl)) rfl
set_option maxRecDepth 100000 in
theorem imX12_cellNow : Cond.instanceMethod yX12_cellNow ∈ TB := TB_of (tin_6 (TB_at 184 rfl)) rfl
set_option maxRecDepth 100000 in
theorem seX12_cellNow : Cond.selects RX12 yX12_cellNow yX12_cellNow ∈ TB := TB_of (tin_0 (TB_at 72 rfl)) rfl
theorem kX12_cellNow : MKv mX12_cellNow 1 := ⟨imX12_cellNow, seX12_cellNow, iniX12, cdX12_cellNow, ⟨by decide +kernel, by decide +kernel⟩, by decide +kernel, by decide⟩
abbrev mX12_world : MT := (yX12_world, cX12_world, 3, (some .int))
set_option maxRecDepth 100000 in
theorem cdX12_world : Cond.code yX12_world cX12_world 3 (some .int) ∈ TB := TB_of (tin_6 (TB_at 154 rfl)) rfl
set_option maxRecDepth 100000 in
theorem imX12_world : Cond.instanceMethod yX12_world ∈ TB := TB_of (tin_6 (TB_at 152 rfl)) rfl
set_option maxRecDepth 100000 in
theorem seX12_world : Cond.selects RX12 yX12_world yX12_world ∈ TB := TB_of (tin_6 (TB_at 153 rfl)) rfl
theorem kX12_world : MKv mX12_world 2 := ⟨imX12_world, seX12_world, iniX12, cdX12_world, ⟨by decide +kernel, by decide +kernel⟩, by decide +kernel, by decide⟩
abbrev mX12_fact : MT := (yX12_fact, cX12_fact, 2, (some .int))
set_option maxRecDepth 100000 in
theorem cdX12_fact : Cond.code yX12_fact cX12_fact 2 (some .int) ∈ TB := TB_of (tin_6 (TB_at 169 rfl)) rfl
set_option maxRecDepth 100000 in
theorem imX12_fact : Cond.instanceMethod yX12_fact ∈ TB := TB_of (tin_6 (TB_at 167 rfl)) rfl
set_option maxRecDepth 100000 in
theorem seX12_fact : Cond.selects RX12 yX12_fact yX12_fact ∈ TB := TB_of (tin_6 (TB_at 168 rfl)) rfl
theorem kX12_fact : MKv mX12_fact 1 := ⟨imX12_fact, seX12_fact, iniX12, cdX12_fact, ⟨by decide +kernel, by decide +kernel⟩, by decide +kernel, by decide⟩
abbrev mX12_person : MT := (yX12_person, cX12_person, 3, (some .int))
set_option maxRecDepth 100000 in
theorem cdX12_person : Cond.code yX12_person cX12_person 3 (some .int) ∈ TB := TB_of (tin_6 (TB_at 177 rfl)) rfl
set_option maxRecDepth 100000 in
theorem imX12_person : Cond.instanceMethod yX12_person ∈ TB := TB_of (tin_6 (TB_at 175 rfl)) rfl
set_option maxRecDepth 100000 in
theorem seX12_person : Cond.selects RX12 yX12_person yX12_person ∈ TB := TB_of (tin_6 (TB_at 176 rfl)) rfl
theorem kX12_person : MKv mX12_person 2 := ⟨imX12_person, seX12_person, iniX12, cdX12_person, ⟨by decide +kernel, by decide +kernel⟩, by decide +kernel, by decide⟩
abbrev mX12_hints : MT := (yX12_hints, cX12_hints, 2, (some .int))
set_option maxRecDepth 100000 in
theorem cdX12_hints : Cond.code yX12_hints cX12_hints 2 (some .int) ∈ TB := TB_of (tin_6 (TB_at 208 rfl)) rfl
set_option maxRecDepth 100000 in
theorem imX12_hints : Cond.instanceMethod yX12_hints ∈ TB := TB_of (tin_6 (TB_at 206 rfl)) rfl
set_option maxRecDepth 100000 in
theorem seX12_hints : Cond.selects RX12 yX12_hints yX12_hints ∈ TB := TB_of (tin_6 (TB_at 207 rfl)) rfl
theorem kX12_hints : MKv mX12_hints 1 := ⟨imX12_hints, seX12_hints, iniX12, cdX12_hints, ⟨by decide +kernel, by decide +kernel⟩, by decide +kernel, by decide⟩
abbrev mX12_knows : MT := (yX12_knows, cX12_knows, 4, (some .int))
set_option maxRecDepth 100000 in
theorem cdX12_knows : Cond.code yX12_knows cX12_knows 4 (some .int) ∈ TB := TB_of (tin_6 (TB_at 212 rfl)) rfl
set_option maxRecDepth 100000 in
theorem imX12_knows : Cond.instanceMethod yX12_knows ∈ TB := TB_of (tin_6 (TB_at 210 rfl)) rfl
set_option maxRecDepth 100000 in
theorem seX12_knows : Cond.selects RX12 yX12_knows yX12_knows ∈ TB := TB_of (tin_6 (TB_at 211 rfl)) rfl
theorem kX12_knows : MKv mX12_knows 2 := ⟨imX12_knows, seX12_knows, iniX12, cdX12_knows, ⟨by decide +kernel, by decide +kernel⟩, by decide +kernel, by decide⟩
abbrev mX12_cell : MT := (yX12_cell, cX12_cell, 3, (some .int))
set_option maxRecDepth 100000 in
theorem cdX12_cell : Cond.code yX12_cell cX12_cell 3 (some .int) ∈ TB := TB_of (tin_6 (TB_at 216 rfl)) rfl
set_option maxRecDepth 100000 in
theorem imX12_cell : Cond.instanceMethod yX12_cell ∈ TB := TB_of (tin_6 (TB_at 214 rfl)) rfl
set_option maxRecDepth 100000 in
theorem seX12_cell : Cond.selects RX12 yX12_cell yX12_cell ∈ TB := TB_of (tin_6 (TB_at 215 rfl)) rfl
theorem kX12_cell : MKv mX12_cell 2 := ⟨imX12_cell, seX12_cell, iniX12, cdX12_cell, ⟨by decide +kernel, by decide +kernel⟩, by decide +kernel, by decide⟩
abbrev mX12_keeps : MT := (yX12_keeps, cX12_keeps, 2, none)
set_option maxRecDepth 100000 in
theorem cdX12_keeps : Cond.code yX12_keeps cX12_keeps 2 none ∈ TB := TB_of (tin_6 (TB_at 224 rfl)) rfl
set_option maxRecDepth 100000 in
theorem imX12_keeps : Cond.instanceMethod yX12_keeps ∈ TB := TB_of (tin_6 (TB_at 223 rfl)) rfl
set_option maxRecDepth 100000 in
theorem seX12_keeps : Cond.selects RX12 yX12_keeps yX12_keeps ∈ TB := TB_of (tin_0 (TB_at 77 rfl)) rfl
theorem kX12_keeps : MKv mX12_keeps 0 := ⟨imX12_keeps, seX12_keeps, iniX12, cdX12_keeps, ⟨by decide +kernel, by decide +kernel⟩, by decide +kernel, by decide⟩
abbrev mX12_isAgain : MT := (yX12_isAgain, cX12_isAgain, 2, none)
set_option maxRecDepth 100000 in
theorem cdX12_isAgain : Cond.code yX12_isAgain cX12_isAgain 2 none ∈ TB := TB_of (tin_7 (TB_at 49 rfl)) rfl
set_option maxRecDepth 100000 in
theorem imX12_isAgain : Cond.instanceMethod yX12_isAgain ∈ TB := TB_of (tin_7 (TB_at 48 rfl)) rfl
set_option maxRecDepth 100000 in
theorem seX12_isAgain : Cond.selects RX12 yX12_isAgain yX12_isAgain ∈ TB := TB_of (tin_0 (TB_at 86 rfl)) rfl
theorem kX12_isAgain : MKv mX12_isAgain 0 := ⟨imX12_isAgain, seX12_isAgain, iniX12, cdX12_isAgain, ⟨by decide +kernel, by decide +kernel⟩, by decide +kernel, by decide⟩
abbrev mX12_notes : MT := (yX12_notes, cX12_notes, 2, none)
set_option maxRecDepth 100000 in
theorem cdX12_notes : Cond.code yX12_notes cX12_notes 2 none ∈ TB := TB_of (tin_6 (TB_at 228 rfl)) rfl
set_option maxRecDepth 100000 in
theorem imX12_notes : Cond.instanceMethod yX12_notes ∈ TB := TB_of (tin_6 (TB_at 227 rfl)) rfl
set_option maxRecDepth 100000 in
theorem seX12_notes : Cond.selects RX12 yX12_notes yX12_notes ∈ TB := TB_of (tin_0 (TB_at 78 rfl)) rfl
theorem kX12_notes : MKv mX12_notes 0 := ⟨imX12_notes, seX12_notes, iniX12, cdX12_notes, ⟨by decide +kernel, by decide +kernel⟩, by decide +kernel, by decide⟩
abbrev mX12_knowsNow : MT := (yX12_knowsNow, cX12_knowsNow, 3, (some .boolean))
set_option maxRecDepth 100000 in
theorem cdX12_knowsNow : Cond.code yX12_knowsNow cX12_knowsNow 3 (some .boolean) ∈ TB := TB_of (tin_7 (TB_at 3 rfl)) rfl
set_option maxRecDepth 100000 in
theorem imX12_knowsNow : Cond.instanceMethod yX12_knowsNow ∈ TB := TB_of (tin_7 (TB_at 2 rfl)) rfl
set_option maxRecDepth 100000 in
theorem seX12_knowsNow : Cond.selects RX12 yX12_knowsNow yX12_knowsNow ∈ TB := TB_of (tin_0 (TB_at 80 rfl)) rfl
theorem kX12_knowsNow : MKv mX12_knowsNow 2 := ⟨imX12_knowsNow, seX12_knowsNow, iniX12, cdX12_knowsNow, ⟨by decide +kernel, by decide +kernel⟩, by decide +kernel, by decide⟩
abbrev mX12_asks : MT := (yX12_asks, cX12_asks, 4, (some .int))
set_option maxRecDepth 100000 in
theorem cdX12_asks : Cond.code yX12_asks cX12_asks 4 (some .int) ∈ TB := TB_of (tin_6 (TB_at 239 rfl)) rfl
set_option maxRecDepth 100000 in
theorem imX12_asks : Cond.instanceMethod yX12_asks ∈ TB := TB_of (tin_6 (TB_at 238 rfl)) rfl
set_option maxRecDepth 100000 in
theorem seX12_asks : Cond.selects RX12 yX12_asks yX12_asks ∈ TB := TB_of (tin_0 (TB_at 79 rfl)) rfl
theorem kX12_asks : MKv mX12_asks 2 := ⟨imX12_asks, seX12_asks, iniX12, cdX12_asks, ⟨by decide +kernel, by decide +kernel⟩, by decide +kernel, by decide⟩
abbrev mX12_daysOne : MT := (yX12_daysOne, cX12_daysOne, 4, (some .boolean))
set_option maxRecDepth 100000 in
theorem cdX12_daysOne : Cond.code yX12_daysOne cX12_daysOne 4 (some .boolean) ∈ TB := TB_of (tin_7 (TB_at 12 rfl)) rfl
set_option maxRecDepth 100000 in
theorem imX12_daysOne : Cond.instanceMethod yX12_daysOne ∈ TB := TB_of (tin_7 (TB_at 11 rfl)) rfl
set_option maxRecDepth 100000 in
theorem seX12_daysOne : Cond.selects RX12 yX12_daysOne yX12_daysOne ∈ TB := TB_of (tin_0 (TB_at 81 rfl)) rfl
theorem kX12_daysOne : MKv mX12_daysOne 0 := ⟨imX12_daysOne, seX12_daysOne, iniX12, cdX12_daysOne, ⟨by decide +kernel, by decide +kernel⟩, by decide +kernel, by decide⟩
abbrev mX12_tell : MT := (yX12_tell, cX12_tell, 3, (some .int))
set_option maxRecDepth 100000 in
theorem cdX12_tell : Cond.code yX12_tell cX12_tell 3 (some .int) ∈ TB := TB_of (tin_6 (TB_at 220 rfl)) rfl
set_option maxRecDepth 100000 in
theorem imX12_tell : Cond.instanceMethod yX12_tell ∈ TB := TB_of (tin_6 (TB_at 218 rfl)) rfl
set_option maxRecDepth 100000 in
theorem seX12_tell : Cond.selects RX12 yX12_tell yX12_tell ∈ TB := TB_of (tin_6 (TB_at 219 rfl)) rfl
theorem kX12_tell : MKv mX12_tell 2 := ⟨imX12_tell, seX12_tell, iniX12, cdX12_tell, ⟨by decide +kernel, by decide +kernel⟩, by decide +kernel, by decide⟩
abbrev mX12_ask : MT := (yX12_ask, cX12_ask, 4, (some .int))
set_option maxRecDepth 100000 in
theorem cdX12_ask : Cond.code yX12_ask cX12_ask 4 (some .int) ∈ TB := TB_of (tin_6 (TB_at 235 rfl)) rfl
set_option maxRecDepth 100000 in
theorem imX12_ask : Cond.instanceMethod yX12_ask ∈ TB := TB_of (tin_6 (TB_at 233 rfl)) rfl
set_option maxRecDepth 100000 in
theorem seX12_ask : Cond.selects RX12 yX12_ask yX12_ask ∈ TB := TB_of (tin_6 (TB_at 234 rfl)) rfl
theorem kX12_ask : MKv mX12_ask 2 := ⟨imX12_ask, seX12_ask, iniX12, cdX12_ask, ⟨by decide +kernel, by decide +kernel⟩, by decide +kernel, by decide⟩
abbrev mX12_days : MT := (yX12_days, cX12_days, 4, (some .int))
set_option maxRecDepth 100000 in
theorem cdX12_days : Cond.code yX12_days cX12_days 4 (some .int) ∈ TB := TB_of (tin_7 (TB_at 7 rfl)) rfl
set_option maxRecDepth 100000 in
theorem imX12_days : Cond.instanceMethod yX12_days ∈ TB := TB_of (tin_7 (TB_at 5 rfl)) rfl
set_option maxRecDepth 100000 in
theorem seX12_days : Cond.selects RX12 yX12_days yX12_days ∈ TB := TB_of (tin_7 (TB_at 6 rfl)) rfl
theorem kX12_days : MKv mX12_days 1 := ⟨imX12_days, seX12_days, iniX12, cdX12_days, ⟨by decide +kernel, by decide +kernel⟩, by decide +kernel, by decide⟩
abbrev mX12_isTrue : MT := (yX12_isTrue, cX12_isTrue, 2, (some .int))
set_option maxRecDepth 100000 in
theorem cdX12_isTrue : Cond.code yX12_isTrue cX12_isTrue 2 (some .int) ∈ TB := TB_of (tin_7 (TB_at 16 rfl)) rfl
set_option maxRecDepth 100000 in
theorem imX12_isTrue : Cond.instanceMethod yX12_isTrue ∈ TB := TB_of (tin_7 (TB_at 14 rfl)) rfl
set_option maxRecDepth 100000 in
theorem seX12_isTrue : Cond.selects RX12 yX12_isTrue yX12_isTrue ∈ TB := TB_of (tin_7 (TB_at 15 rfl)) rfl
theorem kX12_isTrue : MKv mX12_isTrue 1 := ⟨imX12_isTrue, seX12_isTrue, iniX12, cdX12_isTrue, ⟨by decide +kernel, by decide +kernel⟩, by decide +kernel, by decide⟩
abbrev mX12_undo : MT := (yX12_undo, cX12_undo, 3, (some .int))
set_option maxRecDepth 100000 in
theorem cdX12_undo : Cond.code yX12_undo cX12_undo 3 (some .int) ∈ TB := TB_of (tin_7 (TB_at 20 rfl)) rfl
set_option maxRecDepth 100000 in
theorem imX12_undo : Cond.instanceMethod yX12_undo ∈ TB := TB_of (tin_7 (TB_at 18 rfl)) rfl
set_option maxRecDepth 100000 in
theorem seX12_undo : Cond.selects RX12 yX12_undo yX12_undo ∈ TB := TB_of (tin_7 (TB_at 19 rfl)) rfl
theorem kX12_undo : MKv mX12_undo 1 := ⟨imX12_undo, seX12_undo, iniX12, cdX12_undo, ⟨by decide +kernel, by decide +kernel⟩, by decide +kernel, by decide⟩
abbrev mX12_doesAll : MT := (yX12_doesAll, cX12_doesAll, 9, (some .int))
set_option maxRecDepth 100000 in
theorem cdX12_doesAll : Cond.code yX12_doesAll cX12_doesAll 9 (some .int) ∈ TB := TB_of (tin_7 (TB_at 29 rfl)) rfl
set_option maxRecDepth 100000 in
theorem imX12_doesAll : Cond.instanceMethod yX12_doesAll ∈ TB := TB_of (tin_7 (TB_at 28 rfl)) rfl
set_option maxRecDepth 100000 in
theorem seX12_doesAll : Cond.selects RX12 yX12_doesAll yX12_doesAll ∈ TB := TB_of (tin_0 (TB_at 82 rfl)) rfl
theorem kX12_doesAll : MKv mX12_doesAll 1 := ⟨imX12_doesAll, seX12_doesAll, iniX12, cdX12_doesAll, ⟨by decide +kernel, by decide +kernel⟩, by decide +kernel, by decide⟩
abbrev mX12_judge : MT := (yX12_judge, cX12_judge, 5, (some .int))
set_option maxRecDepth 100000 in
theorem cdX12_judge : Cond.code yX12_judge cX12_judge 5 (some .int) ∈ TB := TB_of (tin_7 (TB_at 24 rfl)) rfl
set_option maxRecDepth 100000 in
theorem imX12_judge : Cond.instanceMethod yX12_judge ∈ TB := TB_of (tin_7 (TB_at 22 rfl)) rfl
set_option maxRecDepth 100000 in
theorem seX12_judge : Cond.selects RX12 yX12_judge yX12_judge ∈ TB := TB_of (tin_7 (TB_at 23 rfl)) rfl
theorem kX12_judge : MKv mX12_judge 2 := ⟨imX12_judge, seX12_judge, iniX12, cdX12_judge, ⟨by decide +kernel, by decide +kernel⟩, by decide +kernel, by decide⟩
abbrev mX12_perform : MT := (yX12_perform, cX12_perform, 3, (some .int))
set_option maxRecDepth 100000 in
theorem cdX12_perform : Cond.code yX12_perform cX12_perform 3 (some .int) ∈ TB := TB_of (tin_7 (TB_at 53 rfl)) rfl
set_option maxRecDepth 100000 in
theorem imX12_perform : Cond.instanceMethod yX12_perform ∈ TB := TB_of (tin_7 (TB_at 51 rfl)) rfl
set_option maxRecDepth 100000 in
theorem seX12_perform : Cond.selects RX12 yX12_perform yX12_perform ∈ TB := TB_of (tin_7 (TB_at 52 rfl)) rfl
theorem kX12_perform : MKv mX12_perform 1 := ⟨imX12_perform, seX12_perform, iniX12, cdX12_perform, ⟨by decide +kernel, by decide +kernel⟩, by decide +kernel, by decide⟩
abbrev mX12_draw : MT := (yX12_draw, cX12_draw, 2, (some .int))
set_option maxRecDepth 100000 in
theorem cdX12_draw : Cond.code yX12_draw cX12_draw 2 (some .int) ∈ TB := TB_of (tin_7 (TB_at 65 rfl)) rfl
set_option maxRecDepth 100000 in
theorem imX12_draw : Cond.instanceMethod yX12_draw ∈ TB := TB_of (tin_7 (TB_at 64 rfl)) rfl
set_option maxRecDepth 100000 in
theorem seX12_draw : Cond.selects RX12 yX12_draw yX12_draw ∈ TB := TB_of (tin_0 (TB_at 88 rfl)) rfl
theorem kX12_draw : MKv mX12_draw 1 := ⟨imX12_draw, seX12_draw, iniX12, cdX12_draw, ⟨by decide +kernel, by decide +kernel⟩, by decide +kernel, by decide⟩
abbrev mX12_comes : MT := (yX12_comes, cX12_comes, 4, none)
set_option maxRecDepth 100000 in
theorem cdX12_comes : Cond.code yX12_comes cX12_comes 4 none ∈ TB := TB_of (tin_7 (TB_at 61 rfl)) rfl
set_option maxRecDepth 100000 in
theorem imX12_comes : Cond.instanceMethod yX12_comes ∈ TB := TB_of (tin_7 (TB_at 60 rfl)) rfl
set_option maxRecDepth 100000 in
theorem seX12_comes : Cond.selects RX12 yX12_comes yX12_comes ∈ TB := TB_of (tin_0 (TB_at 87 rfl)) rfl
theorem kX12_comes : MKv mX12_comes 0 := ⟨imX12_comes, seX12_comes, iniX12, cdX12_comes, ⟨by decide +kernel, by decide +kernel⟩, by decide +kernel, by decide⟩
abbrev mX12_year : MT := (yX12_year, cX12_year, 4, (some .int))
set_option maxRecDepth 100000 in
theorem cdX12_year : Cond.code yX12_year cX12_year 4 (some .int) ∈ TB := TB_of (tin_7 (TB_at 57 rfl)) rfl
set_option maxRecDepth 100000 in
theorem imX12_year : Cond.instanceMethod yX12_year ∈ TB := TB_of (tin_7 (TB_at 55 rfl)) rfl
set_option maxRecDepth 100000 in
theorem seX12_year : Cond.selects RX12 yX12_year yX12_year ∈ TB := TB_of (tin_7 (TB_at 56 rfl)) rfl
theorem kX12_year : MKv mX12_year 2 := ⟨imX12_year, seX12_year, iniX12, cdX12_year, ⟨by decide +kernel, by decide +kernel⟩, by decide +kernel, by decide⟩
abbrev mX12_everyone : MT := (yX12_everyone, cX12_everyone, 3, (some .int))
set_option maxRecDepth 100000 in
theorem cdX12_everyone : Cond.code yX12_everyone cX12_everyone 3 (some .int) ∈ TB := TB_of (tin_7 (TB_at 70 rfl)) rfl
set_option maxRecDepth 100000 in
theorem imX12_everyone : Cond.instanceMethod yX12_everyone ∈ TB := TB_of (tin_7 (TB_at 68 rfl)) rfl
set_option maxRecDepth 100000 in
theorem seX12_everyone : Cond.selects RX12 yX12_everyone yX12_everyone ∈ TB := TB_of (tin_7 (TB_at 69 rfl)) rfl
theorem kX12_everyone : MKv mX12_everyone 1 := ⟨imX12_everyone, seX12_everyone, iniX12, cdX12_everyone, ⟨by decide +kernel, by decide +kernel⟩, by decide +kernel, by decide⟩
abbrev mX12_knownBy : MT := (yX12_knownBy, cX12_knownBy, 6, (some .int))
set_option maxRecDepth 100000 in
theorem cdX12_knownBy : Cond.code yX12_knownBy cX12_knownBy 6 (some .int) ∈ TB := TB_of (tin_7 (TB_at 82 rfl)) rfl
set_option maxRecDepth 100000 in
theorem imX12_knownBy : Cond.instanceMethod yX12_knownBy ∈ TB := TB_of (tin_7 (TB_at 81 rfl)) rfl
set_option maxRecDepth 100000 in
theorem seX12_knownBy : Cond.selects RX12 yX12_knownBy yX12_knownBy ∈ TB := TB_of (tin_0 (TB_at 90 rfl)) rfl
theorem kX12_knownBy : MKv mX12_knownBy 1 := ⟨imX12_knownBy, seX12_knownBy, iniX12, cdX12_knownBy, ⟨by decide +kernel, by decide +kernel⟩, by decide +kernel, by decide⟩
abbrev mX12_depthOf : MT := (yX12_depthOf, cX12_depthOf, 5, (some .int))
set_option maxRecDepth 100000 in
theorem cdX12_depthOf : Cond.code yX12_depthOf cX12_depthOf 5 (some .int) ∈ TB := TB_of (tin_7 (TB_at 78 rfl)) rfl
set_option maxRecDepth 100000 in
theorem imX12_depthOf : Cond.instanceMethod yX12_depthOf ∈ TB := TB_of (tin_7 (TB_at 77 rfl)) rfl
set_option maxRecDepth 100000 in
theorem seX12_depthOf : Cond.selects RX12 yX12_depthOf yX12_depthOf ∈ TB := TB_of (tin_0 (TB_at 89 rfl)) rfl
theorem kX12_depthOf : MKv mX12_depthOf 1 := ⟨imX12_depthOf, seX12_depthOf, iniX12, cdX12_depthOf, ⟨by decide +kernel, by decide +kernel⟩, by decide +kernel, by decide⟩
abbrev mX12_depth : MT := (yX12_depth, cX12_depth, 2, (some .int))
set_option maxRecDepth 100000 in
theorem cdX12_depth : Cond.code yX12_depth cX12_depth 2 (some .int) ∈ TB := TB_of (tin_7 (TB_at 74 rfl)) rfl
set_option maxRecDepth 100000 in
theorem imX12_depth : Cond.instanceMethod yX12_depth ∈ TB := TB_of (tin_7 (TB_at 72 rfl)) rfl
set_option maxRecDepth 100000 in
theorem seX12_depth : Cond.selects RX12 yX12_depth yX12_depth ∈ TB := TB_of (tin_7 (TB_at 73 rfl)) rfl
theorem kX12_depth : MKv mX12_depth 1 := ⟨imX12_depth, seX12_depth, iniX12, cdX12_depth, ⟨by decide +kernel, by decide +kernel⟩, by decide +kernel, by decide⟩
abbrev mX12_common : MT := (yX12_common, cX12_common, 3, (some .int))
set_option maxRecDepth 100000 in
theorem cdX12_common : Cond.code yX12_common cX12_common 3 (some .int) ∈ TB := TB_of (tin_7 (TB_at 86 rfl)) rfl
set_option maxRecDepth 100000 in
theorem imX12_common : Cond.instanceMethod yX12_common ∈ TB := TB_of (tin_7 (TB_at 84 rfl)) rfl
set_option maxRecDepth 100000 in
theorem seX12_common : Cond.selects RX12 yX12_common yX12_common ∈ TB := TB_of (tin_7 (TB_at 85 rfl)) rfl
theorem kX12_common : MKv mX12_common 0 := ⟨imX12_common, seX12_common, iniX12, cdX12_common, ⟨by decide +kernel, by decide +kernel⟩, by decide +kernel, by decide⟩
abbrev mX12_reach : MT := (yX12_reach, cX12_reach, 7, (some .int))
set_option maxRecDepth 100000 in
theorem cdX12_reach : Cond.code yX12_reach cX12_reach 7 (some .int) ∈ TB := TB_of (tin_7 (TB_at 90 rfl)) rfl
set_option maxRecDepth 100000 in
theorem imX12_reach : Cond.instanceMethod yX12_reach ∈ TB := TB_of (tin_7 (TB_at 88 rfl)) rfl
set_option maxRecDepth 100000 in
theorem seX12_reach : Cond.selects RX12 yX12_reach yX12_reach ∈ TB := TB_of (tin_7 (TB_at 89 rfl)) rfl
theorem kX12_reach : MKv mX12_reach 1 := ⟨imX12_reach, seX12_reach, iniX12, cdX12_reach, ⟨by decide +kernel, by decide +kernel⟩, by decide +kernel, by decide⟩
abbrev mX12_togetherOf : MT := (yX12_togetherOf, cX12_togetherOf, 4, (some .int))
set_option maxRecDepth 100000 in
theorem cdX12_togetherOf : Cond.code yX12_togetherOf cX12_togetherOf 4 (some .int) ∈ TB := TB_of (tin_7 (TB_at 99 rfl)) rfl
set_option maxRecDepth 100000 in
theorem imX12_togetherOf : Cond.instanceMethod yX12_togetherOf ∈ TB := TB_of (tin_7 (TB_at 98 rfl)) rfl
set_option maxRecDepth 100000 in
theorem seX12_togetherOf : Cond.selects RX12 yX12_togetherOf yX12_togetherOf ∈ TB := TB_of (tin_0 (TB_at 91 rfl)) rfl
theorem kX12_togetherOf : MKv mX12_togetherOf 1 := ⟨imX12_togetherOf, seX12_togetherOf, iniX12, cdX12_togetherOf, ⟨by decide +kernel, by decide +kernel⟩, by decide +kernel, by decide⟩
abbrev mX12_together : MT := (yX12_together, cX12_together, 2, (some .int))
set_option maxRecDepth 100000 in
theorem cdX12_together : Cond.code yX12_together cX12_together 2 (some .int) ∈ TB := TB_of (tin_7 (TB_at 95 rfl)) rfl
set_option maxRecDepth 100000 in
theorem imX12_together : Cond.instanceMethod yX12_together ∈ TB := TB_of (tin_7 (TB_at 93 rfl)) rfl
set_option maxRecDepth 100000 in
theorem seX12_together : Cond.selects RX12 yX12_together yX12_together ∈ TB := TB_of (tin_7 (TB_at 94 rfl)) rfl
theorem kX12_together : MKv mX12_together 1 := ⟨imX12_together, seX12_together, iniX12, cdX12_together, ⟨by decide +kernel, by decide +kernel⟩, by decide +kernel, by decide⟩
abbrev mX12_witnesses : MT := (yX12_witnesses, cX12_witnesses, 3, (some .int))
set_option maxRecDepth 100000 in
theorem cdX12_witnesses : Cond.code yX12_witnesses cX12_witnesses 3 (some .int) ∈ TB := TB_of (tin_7 (TB_at 103 rfl)) rfl
set_option maxRecDepth 100000 in
theorem imX12_witnesses : Cond.instanceMethod yX12_witnesses ∈ TB := TB_of (tin_7 (TB_at 101 rfl)) rfl
set_option maxRecDepth 100000 in
theorem seX12_witnesses : Cond.selects RX12 yX12_witnesses yX12_witnesses ∈ TB := TB_of (tin_7 (TB_at 102 rfl)) rfl
theorem kX12_witnesses : MKv mX12_witnesses 0 := ⟨imX12_witnesses, seX12_witnesses, iniX12, cdX12_witnesses, ⟨by decide +kernel, by decide +kernel⟩, by decide +kernel, by decide⟩
abbrev mX12_parting : MT := (yX12_parting, cX12_parting, 3, (some .int))
set_option maxRecDepth 100000 in
theorem cdX12_parting : Cond.code yX12_parting cX12_parting 3 (some .int) ∈ TB := TB_of (tin_7 (TB_at 107 rfl)) rfl
set_option maxRecDepth 100000 in
theorem imX12_parting : Cond.instanceMethod yX12_parting ∈ TB := TB_of (tin_7 (TB_at 105 rfl)) rfl
set_option maxRecDepth 100000 in
theorem seX12_parting : Cond.selects RX12 yX12_parting yX12_parting ∈ TB := TB_of (tin_7 (TB_at 106 rfl)) rfl
theorem kX12_parting : MKv mX12_parting 2 := ⟨imX12_parting, seX12_parting, iniX12, cdX12_parting, ⟨by decide +kernel, by decide +kernel⟩, by decide +kernel, by decide⟩
abbrev mX12_weightOf : MT := (yX12_weightOf, cX12_weightOf, 4, (some .int))
set_option maxRecDepth 100000 in
theorem cdX12_weightOf : Cond.code yX12_weightOf cX12_weightOf 4 (some .int) ∈ TB := TB_of (tin_7 (TB_at 45 rfl)) rfl
set_option maxRecDepth 100000 in
theorem imX12_weightOf : Cond.instanceMethod yX12_weightOf ∈ TB := TB_of (tin_7 (TB_at 44 rfl)) rfl
set_option maxRecDepth 100000 in
theorem seX12_weightOf : Cond.selects RX12 yX12_weightOf yX12_weightOf ∈ TB := TB_of (tin_0 (TB_at 85 rfl)) rfl
theorem kX12_weightOf : MKv mX12_weightOf 1 := ⟨imX12_weightOf, seX12_weightOf, iniX12, cdX12_weightOf, ⟨by decide +kernel, by decide +kernel⟩, by decide +kernel, by decide⟩
abbrev mX12_measureOf : MT := (yX12_measureOf, cX12_measureOf, 5, (some .int))
set_option maxRecDepth 100000 in
theorem cdX12_measureOf : Cond.code yX12_measureOf cX12_measureOf 5 (some .int) ∈ TB := TB_of (tin_7 (TB_at 41 rfl)) rfl
set_option maxRecDepth 100000 in
theorem imX12_measureOf : Cond.instanceMethod yX12_measureOf ∈ TB := TB_of (tin_7 (TB_at 40 rfl)) rfl
set_option maxRecDepth 100000 in
theorem seX12_measureOf : Cond.selects RX12 yX12_measureOf yX12_measureOf ∈ TB := TB_of (tin_0 (TB_at 84 rfl)) rfl
theorem kX12_measureOf : MKv mX12_measureOf 2 := ⟨imX12_measureOf, seX12_measureOf, iniX12, cdX12_measureOf, ⟨by decide +kernel, by decide +kernel⟩, by decide +kernel, by decide⟩
abbrev mX12_leastOf : MT := (yX12_leastOf, cX12_leastOf, 7, (some .int))
set_option maxRecDepth 100000 in
theorem cdX12_leastOf : Cond.code yX12_leastOf cX12_leastOf 7 (some .int) ∈ TB := TB_of (tin_7 (TB_at 37 rfl)) rfl
set_option maxRecDepth 100000 in
theorem imX12_leastOf : Cond.instanceMethod yX12_leastOf ∈ TB := TB_of (tin_7 (TB_at 36 rfl)) rfl
set_option maxRecDepth 100000 in
theorem seX12_leastOf : Cond.selects RX12 yX12_leastOf yX12_leastOf ∈ TB := TB_of (tin_0 (TB_at 83 rfl)) rfl
theorem kX12_leastOf : MKv mX12_leastOf 2 := ⟨imX12_leastOf, seX12_leastOf, iniX12, cdX12_leastOf, ⟨by decide +kernel, by decide +kernel⟩, by decide +kernel, by decide⟩
abbrev mX12_measureNow : MT := (yX12_measureNow, cX12_measureNow, 3, (some .int))
set_option maxRecDepth 100000 in
theorem cdX12_measureNow : Cond.code yX12_measureNow cX12_measureNow 3 (some .int) ∈ TB := TB_of (tin_7 (TB_at 115 rfl)) rfl
set_option maxRecDepth 100000 in
theorem imX12_measureNow : Cond.instanceMethod yX12_measureNow ∈ TB := TB_of (tin_7 (TB_at 114 rfl)) rfl
set_option maxRecDepth 100000 in
theorem seX12_measureNow : Cond.selects RX12 yX12_measureNow yX12_measureNow ∈ TB := TB_of (tin_0 (TB_at 92 rfl)) rfl
theorem kX12_measureNow : MKv mX12_measureNow 2 := ⟨imX12_measureNow, seX12_measureNow, iniX12, cdX12_measureNow, ⟨by decide +kernel, by decide +kernel⟩, by decide +kernel, by decide⟩
abbrev mX12_measure : MT := (yX12_measure, cX12_measure, 3, (some .int))
set_option maxRecDepth 100000 in
theorem cdX12_measure : Cond.code yX12_measure cX12_measure 3 (some .int) ∈ TB := TB_of (tin_7 (TB_at 111 rfl)) rfl
set_option maxRecDepth 100000 in
theorem imX12_measure : Cond.instanceMethod yX12_measure ∈ TB := TB_of (tin_7 (TB_at 109 rfl)) rfl
set_option maxRecDepth 100000 in
theorem seX12_measure : Cond.selects RX12 yX12_measure yX12_measure ∈ TB := TB_of (tin_7 (TB_at 110 rfl)) rfl
theorem kX12_measure : MKv mX12_measure 2 := ⟨imX12_measure, seX12_measure, iniX12, cdX12_measure, ⟨by decide +kernel, by decide +kernel⟩, by decide +kernel, by decide⟩
abbrev mX12_least : MT := (yX12_least, cX12_least, 2, (some .int))
set_option maxRecDepth 100000 in
theorem cdX12_least : Cond.code yX12_least cX12_least 2 (some .int) ∈ TB := TB_of (tin_7 (TB_at 119 rfl)) rfl
set_option maxRecDepth 100000 in
theorem imX12_least : Cond.instanceMethod yX12_least ∈ TB := TB_of (tin_7 (TB_at 117 rfl)) rfl
set_option maxRecDepth 100000 in
theorem seX12_least : Cond.selects RX12 yX12_least yX12_least ∈ TB := TB_of (tin_7 (TB_at 118 rfl)) rfl
theorem kX12_least : MKv mX12_least 1 := ⟨imX12_least, seX12_least, iniX12, cdX12_least, ⟨by decide +kernel, by decide +kernel⟩, by decide +kernel, by decide⟩
abbrev mX12_seats : MT := (yX12_seats, cX12_seats, 5, (some .int))
set_option maxRecDepth 100000 in
theorem cdX12_seats : Cond.code yX12_seats cX12_seats 5 (some .int) ∈ TB := TB_of (tin_7 (TB_at 123 rfl)) rfl
set_option maxRecDepth 100000 in
theorem imX12_seats : Cond.instanceMethod yX12_seats ∈ TB := TB_of (tin_7 (TB_at 121 rfl)) rfl
set_option maxRecDepth 100000 in
theorem seX12_seats : Cond.selects RX12 yX12_seats yX12_seats ∈ TB := TB_of (tin_7 (TB_at 122 rfl)) rfl
theorem kX12_seats : MKv mX12_seats 2 := ⟨imX12_seats, seX12_seats, iniX12, cdX12_seats, ⟨by decide +kernel, by decide +kernel⟩, by decide +kernel, by decide⟩
abbrev mX12_differ : MT := (yX12_differ, cX12_differ, 6, (some .int))
set_option maxRecDepth 100000 in
theorem cdX12_differ : Cond.code yX12_differ cX12_differ 6 (some .int) ∈ TB := TB_of (tin_7 (TB_at 127 rfl)) rfl
set_option maxRecDepth 100000 in
theorem imX12_differ : Cond.instanceMethod yX12_differ ∈ TB := TB_of (tin_7 (TB_at 125 rfl)) rfl
set_option maxRecDepth 100000 in
theorem seX12_differ : Cond.selects RX12 yX12_differ yX12_differ ∈ TB := TB_of (tin_7 (TB_at 126 rfl)) rfl
theorem kX12_differ : MKv mX12_differ 2 := ⟨imX12_differ, seX12_differ, iniX12, cdX12_differ, ⟨by decide +kernel, by decide +kernel⟩, by decide +kernel, by decide⟩
abbrev mX12_laysTold : MT := (yX12_laysTold, cX12_laysTold, 3, none)
set_option maxRecDepth 100000 in
theorem cdX12_laysTold : Cond.code yX12_laysTold cX12_laysTold 3 none ∈ TB := TB_of (tin_7 (TB_at 139 rfl)) rfl
set_option maxRecDepth 100000 in
theorem imX12_laysTold : Cond.instanceMethod yX12_laysTold ∈ TB := TB_of (tin_7 (TB_at 138 rfl)) rfl
set_option maxRecDepth 100000 in
theorem seX12_laysTold : Cond.selects RX12 yX12_laysTold yX12_laysTold ∈ TB := TB_of (tin_0 (TB_at 94 rfl)) rfl
theorem kX12_laysTold : MKv mX12_laysTold 0 := ⟨imX12_laysTold, seX12_laysTold, iniX12, cdX12_laysTold, ⟨by decide +kernel, by decide +kernel⟩, by decide +kernel, by decide⟩
abbrev mX12_couldBe : MT := (yX12_couldBe, cX12_couldBe, 7, none)
set_option maxRecDepth 100000 in
theorem cdX12_couldBe : Cond.code yX12_couldBe cX12_couldBe 7 none ∈ TB := TB_of (tin_7 (TB_at 143 rfl)) rfl
set_option maxRecDepth 100000 in
theorem imX12_couldBe : Cond.instanceMethod yX12_couldBe ∈ TB := TB_of (tin_7 (TB_at 142 rfl)) rfl
set_option maxRecDepth 100000 in
theorem seX12_couldBe : Cond.selects RX12 yX12_couldBe yX12_couldBe ∈ TB := TB_of (tin_0 (TB_at 95 rfl)) rfl
theorem kX12_couldBe : MKv mX12_couldBe 2 := ⟨imX12_couldBe, seX12_couldBe, iniX12, cdX12_couldBe, ⟨by decide +kernel, by decide +kernel⟩, by decide +kernel, by decide⟩
abbrev mX12_askedMany : MT := (yX12_askedMany, cX12_askedMany, 4, (some .int))
set_option maxRecDepth 100000 in
theorem cdX12_askedMany : Cond.code yX12_askedMany cX12_askedMany 4 (some .int) ∈ TB := TB_of (tin_7 (TB_at 155 rfl)) rfl
set_option maxRecDepth 100000 in
theorem imX12_askedMany : Cond.instanceMethod yX12_askedMany ∈ TB := TB_of (tin_7 (TB_at 154 rfl)) rfl
set_option maxRecDepth 100000 in
theorem seX12_askedMany : Cond.selects RX12 yX12_askedMany yX12_askedMany ∈ TB := TB_of (tin_0 (TB_at 98 rfl)) rfl
theorem kX12_askedMany : MKv mX12_askedMany 1 := ⟨imX12_askedMany, seX12_askedMany, iniX12, cdX12_askedMany, ⟨by decide +kernel, by decide +kernel⟩, by decide +kernel, by decide⟩
abbrev mX12_isBetter : MT := (yX12_isBetter, cX12_isBetter, 3, (some .boolean))
set_option maxRecDepth 100000 in
theorem cdX12_isBetter : Cond.code yX12_isBetter cX12_isBetter 3 (some .boolean) ∈ TB := TB_of (tin_7 (TB_at 151 rfl)) rfl
set_option maxRecDepth 100000 in
theorem imX12_isBetter : Cond.instanceMethod yX12_isBetter ∈ TB := TB_of (tin_7 (TB_at 150 rfl)) rfl
set_option maxRecDepth 100000 in
theorem seX12_isBetter : Cond.selects RX12 yX12_isBetter yX12_isBetter ∈ TB := TB_of (tin_0 (TB_at 97 rfl)) rfl
theorem kX12_isBetter : MKv mX12_isBetter 0 := ⟨imX12_isBetter, seX12_isBetter, iniX12, cdX12_isBetter, ⟨by decide +kernel, by decide +kernel⟩, by decide +kernel, by decide⟩
abbrev mX12_askedFor : MT := (yX12_askedFor, cX12_askedFor, 5, (some .int))
set_option maxRecDepth 100000 in
theorem cdX12_askedFor : Cond.code yX12_askedFor cX12_askedFor 5 (some .int) ∈ TB := TB_of (tin_7 (TB_at 147 rfl)) rfl
set_option maxRecDepth 100000 in
theorem imX12_askedFor : Cond.instanceMethod yX12_askedFor ∈ TB := TB_of (tin_7 (TB_at 146 rfl)) rfl
set_option maxRecDepth 100000 in
theorem seX12_askedFor : Cond.selects RX12 yX12_askedFor yX12_askedFor ∈ TB := TB_of (tin_0 (TB_at 96 rfl)) rfl
theorem kX12_askedFor : MKv mX12_askedFor 2 := ⟨imX12_askedFor, seX12_askedFor, iniX12, cdX12_askedFor, ⟨by decide +kernel, by decide +kernel⟩, by decide +kernel, by decide⟩
abbrev mX12_laysShown : MT := (yX12_laysShown, cX12_laysShown, 7, (some .boolean))
set_option maxRecDepth 100000 in
theorem cdX12_laysShown : Cond.code yX12_laysShown cX12_laysShown 7 (some .boolean) ∈ TB := TB_of (tin_7 (TB_at 135 rfl)) rfl
set_option maxRecDepth 100000 in
theorem imX12_laysShown : Cond.instanceMethod yX12_laysShown ∈ TB := TB_of (tin_7 (TB_at 134 rfl)) rfl
set_option maxRecDepth 100000 in
theorem seX12_laysShown : Cond.selects RX12 yX12_laysShown yX12_laysShown ∈ TB := TB_of (tin_0 (TB_at 93 rfl)) rfl
theorem kX12_laysShown : MKv mX12_laysShown 1 := ⟨imX12_laysShown, seX12_laysShown, iniX12, cdX12_laysShown, ⟨by decide +kernel, by decide +kernel⟩, by decide +kernel, by decide⟩
abbrev mX12_shown : MT := (yX12_shown, cX12_shown, 3, (some .int))
set_option maxRecDepth 100000 in
theorem cdX12_shown : Cond.code yX12_shown cX12_shown 3 (some .int) ∈ TB := TB_of (tin_7 (TB_at 131 rfl)) rfl
set_option maxRecDepth 100000 in
theorem imX12_shown : Cond.instanceMethod yX12_shown ∈ TB := TB_of (tin_7 (TB_at 129 rfl)) rfl
set_option maxRecDepth 100000 in
theorem seX12_shown : Cond.selects RX12 yX12_shown yX12_shown ∈ TB := TB_of (tin_7 (TB_at 130 rfl)) rfl
theorem kX12_shown : MKv mX12_shown 2 := ⟨imX12_shown, seX12_shown, iniX12, cdX12_shown, ⟨by decide +kernel, by decide +kernel⟩, by decide +kernel, by decide⟩
abbrev mX12_appeals : MT := (yX12_appeals, cX12_appeals, 8, (some .int))
set_option maxRecDepth 100000 in
theorem cdX12_appeals : Cond.code yX12_appeals cX12_appeals 8 (some .int) ∈ TB := TB_of (tin_7 (TB_at 159 rfl)) rfl
set_option maxRecDepth 100000 in
theorem imX12_appeals : Cond.instanceMethod yX12_appeals ∈ TB := TB_of (tin_7 (TB_at 157 rfl)) rfl
set_option maxRecDepth 100000 in
theorem seX12_appeals : Cond.selects RX12 yX12_appeals yX12_appeals ∈ TB := TB_of (tin_7 (TB_at 158 rfl)) rfl
theorem kX12_appeals : MKv mX12_appeals 3 := ⟨imX12_appeals, seX12_appeals, iniX12, cdX12_appeals, ⟨by decide +kernel, by decide +kernel⟩, by decide +kernel, by decide⟩
abbrev mX12_choices : MT := (yX12_choices, cX12_choices, 1, (some .int))
set_option maxRecDepth 100000 in
theorem cdX12_choices : Cond.code yX12_choices cX12_choices 1 (some .int) ∈ TB := TB_of (tin_7 (TB_at 167 rfl)) rfl
set_option maxRecDepth 100000 in
theorem imX12_choices : Cond.instanceMethod yX12_choices ∈ TB := TB_of (tin_7 (TB_at 166 rfl)) rfl
set_option maxRecDepth 100000 in
theorem seX12_choices : Cond.selects RX12 yX12_choices yX12_choices ∈ TB := TB_of (tin_0 (TB_at 99 rfl)) rfl
theorem kX12_choices : MKv mX12_choices 0 := ⟨imX12_choices, seX12_choices, iniX12, cdX12_choices, ⟨by decide +kernel, by decide +kernel⟩, by decide +kernel, by decide⟩
abbrev mX12_tellsChoice : MT := (yX12_tellsChoice, cX12_tellsChoice, 2, none)
set_option maxRecDepth 100000 in
theorem cdX12_tellsChoice : Cond.code yX12_tellsChoice cX12_tellsChoice 2 none ∈ TB := TB_of (tin_7 (TB_at 171 rfl)) rfl
set_option maxRecDepth 100000 in
theorem imX12_tellsChoice : Cond.instanceMethod yX12_tellsChoice ∈ TB := TB_of (tin_7 (TB_at 170 rfl)) rfl
set_option maxRecDepth 100000 in
theorem seX12_tellsChoice : Cond.selects RX12 yX12_tellsChoice yX12_tellsChoice ∈ TB := TB_of (tin_0 (TB_at 100 rfl)) rfl
theorem kX12_tellsChoice : MKv mX12_tellsChoice 1 := ⟨imX12_tellsChoice, seX12_tellsChoice, iniX12, cdX12_tellsChoice, ⟨by decide +kernel, by decide +kernel⟩, by decide +kernel, by decide⟩
abbrev mX12_codeOf : MT := (yX12_codeOf, cX12_codeOf, 2, (some .int))
set_option maxRecDepth 100000 in
theorem cdX12_codeOf : Cond.code yX12_codeOf cX12_codeOf 2 (some .int) ∈ TB := TB_of (tin_7 (TB_at 179 rfl)) rfl
set_option maxRecDepth 100000 in
theorem imX12_codeOf : Cond.instanceMethod yX12_codeOf ∈ TB := TB_of (tin_7 (TB_at 178 rfl)) rfl
set_option maxRecDepth 100000 in
theorem seX12_codeOf : Cond.selects RX12 yX12_codeOf yX12_codeOf ∈ TB := TB_of (tin_0 (TB_at 102 rfl)) rfl
theorem kX12_codeOf : MKv mX12_codeOf 1 := ⟨imX12_codeOf, seX12_codeOf, iniX12, cdX12_codeOf, ⟨by decide +kernel, by decide +kernel⟩, by decide +kernel, by decide⟩
abbrev mX12_isRest : MT := (yX12_isRest, cX12_isRest, 7, (some .boolean))
set_option maxRecDepth 100000 in
theorem cdX12_isRest : Cond.code yX12_isRest cX12_isRest 7 (some .boolean) ∈ TB := TB_of (tin_7 (TB_at 175 rfl)) rfl
set_option maxRecDepth 100000 in
theorem imX12_isRest : Cond.instanceMethod yX12_isRest ∈ TB := TB_of (tin_7 (TB_at 174 rfl)) rfl
set_option maxRecDepth 100000 in
theorem seX12_isRest : Cond.selects RX12 yX12_isRest yX12_isRest ∈ TB := TB_of (tin_0 (TB_at 101 rfl)) rfl
theorem kX12_isRest : MKv mX12_isRest 4 := ⟨imX12_isRest, seX12_isRest, iniX12, cdX12_isRest, ⟨by decide +kernel, by decide +kernel⟩, by decide +kernel, by decide⟩
abbrev mX12_parties : MT := (yX12_parties, cX12_parties, 7, (some .int))
set_option maxRecDepth 100000 in
theorem cdX12_parties : Cond.code yX12_parties cX12_parties 7 (some .int) ∈ TB := TB_of (tin_7 (TB_at 163 rfl)) rfl
set_option maxRecDepth 100000 in
theorem imX12_parties : Cond.instanceMethod yX12_parties ∈ TB := TB_of (tin_7 (TB_at 161 rfl)) rfl
set_option maxRecDepth 100000 in
theorem seX12_parties : Cond.selects RX12 yX12_parties yX12_parties ∈ TB := TB_of (tin_7 (TB_at 162 rfl)) rfl
theorem kX12_parties : MKv mX12_parties 4 := ⟨imX12_parties, seX12_parties, iniX12, cdX12_parties, ⟨by decide +kernel, by decide +kernel⟩, by decide +kernel, by decide⟩
abbrev mX12_inform : MT := (yX12_inform, cX12_inform, 5, (some .int))
set_option maxRecDepth 100000 in
theorem cdX12_inform : Cond.code yX12_inform cX12_inform 5 (some .int) ∈ TB := TB_of (tin_7 (TB_at 183 rfl)) rfl
set_option maxRecDepth 100000 in
theorem imX12_inform : Cond.instanceMethod yX12_inform ∈ TB := TB_of (tin_7 (TB_at 181 rfl)) rfl
set_option maxRecDepth 100000 in
theorem seX12_inform : Cond.selects RX12 yX12_inform yX12_inform ∈ TB := TB_of (tin_7 (TB_at 182 rfl)) rfl
theorem kX12_inform : MKv mX12_inform 2 := ⟨imX12_inform, seX12_inform, iniX12, cdX12_inform, ⟨by decide +kernel, by decide +kernel⟩, by decide +kernel, by decide⟩
abbrev mX12_worstOf : MT := (yX12_worstOf, cX12_worstOf, 5, (some .int))
set_option maxRecDepth 100000 in
theorem cdX12_worstOf : Cond.code yX12_worstOf cX12_worstOf 5 (some .int) ∈ TB := TB_of (tin_7 (TB_at 191 rfl)) rfl
set_option maxRecDepth 100000 in
theorem imX12_worstOf : Cond.instanceMethod yX12_worstOf ∈ TB := TB_of (tin_7 (TB_at 190 rfl)) rfl
set_option maxRecDepth 100000 in
theorem seX12_worstOf : Cond.selects RX12 yX12_worstOf yX12_worstOf ∈ TB := TB_of (tin_0 (TB_at 103 rfl)) rfl
theorem kX12_worstOf : MKv mX12_worstOf 1 := ⟨imX12_worstOf, seX12_worstOf, iniX12, cdX12_worstOf, ⟨by decide +kernel, by decide +kernel⟩, by decide +kernel, by decide⟩
abbrev mX12_worstBy : MT := (yX12_worstBy, cX12_worstBy, 6, (some .int))
set_option maxRecDepth 100000 in
theorem cdX12_worstBy : Cond.code yX12_worstBy cX12_worstBy 6 (some .int) ∈ TB := TB_of (tin_7 (TB_at 195 rfl)) rfl
set_option maxRecDepth 100000 in
theorem imX12_worstBy : Cond.instanceMethod yX12_worstBy ∈ TB := TB_of (tin_7 (TB_at 194 rfl)) rfl
set_option maxRecDepth 100000 in
theorem seX12_worstBy : Cond.selects RX12 yX12_worstBy yX12_worstBy ∈ TB := TB_of (tin_0 (TB_at 104 rfl)) rfl
theorem kX12_worstBy : MKv mX12_worstBy 2 := ⟨imX12_worstBy, seX12_worstBy, iniX12, cdX12_worstBy, ⟨by decide +kernel, by decide +kernel⟩, by decide +kernel, by decide⟩
abbrev mX12_trial : MT := (yX12_trial, cX12_trial, 6, (some .int))
set_option maxRecDepth 100000 in
theorem cdX12_trial : Cond.code yX12_trial cX12_trial 6 (some .int) ∈ TB := TB_of (tin_7 (TB_at 187 rfl)) rfl
set_option maxRecDepth 100000 in
theorem imX12_trial : Cond.instanceMethod yX12_trial ∈ TB := TB_of (tin_7 (TB_at 185 rfl)) rfl
set_option maxRecDepth 100000 in
theorem seX12_trial : Cond.selects RX12 yX12_trial yX12_trial ∈ TB := TB_of (tin_7 (TB_at 186 rfl)) rfl
theorem kX12_trial : MKv mX12_trial 2 := ⟨imX12_trial, seX12_trial, iniX12, cdX12_trial, ⟨by decide +kernel, by decide +kernel⟩, by decide +kernel, by decide⟩
abbrev mX12_brief : MT := (yX12_brief, cX12_brief, 4, (some .int))
set_option maxRecDepth 100000 in
theorem cdX12_brief : Cond.code yX12_brief cX12_brief 4 (some .int) ∈ TB := TB_of (tin_7 (TB_at 199 rfl)) rfl
set_option maxRecDepth 100000 in
theorem imX12_brief : Cond.instanceMethod yX12_brief ∈ TB := TB_of (tin_7 (TB_at 197 rfl)) rfl
set_option maxRecDepth 100000 in
theorem seX12_brief : Cond.selects RX12 yX12_brief yX12_brief ∈ TB := TB_of (tin_7 (TB_at 198 rfl)) rfl
theorem kX12_brief : MKv mX12_brief 1 := ⟨imX12_brief, seX12_brief, iniX12, cdX12_brief, ⟨by decide +kernel, by decide +kernel⟩, by decide +kernel, by decide⟩
abbrev mX12_isRight : MT := (yX12_isRight, cX12_isRight, 5, (some .boolean))
set_option maxRecDepth 100000 in
theorem cdX12_isRight : Cond.code yX12_isRight cX12_isRight 5 (some .boolean) ∈ TB := TB_of (tin_7 (TB_at 207 rfl)) rfl
set_option maxRecDepth 100000 in
theorem imX12_isRight : Cond.instanceMethod yX12_isRight ∈ TB := TB_of (tin_7 (TB_at 206 rfl)) rfl
set_option maxRecDepth 100000 in
theorem seX12_isRight : Cond.selects RX12 yX12_isRight yX12_isRight ∈ TB := TB_of (tin_0 (TB_at 105 rfl)) rfl
theorem kX12_isRight : MKv mX12_isRight 2 := ⟨imX12_isRight, seX12_isRight, iniX12, cdX12_isRight, ⟨by decide +kernel, by decide +kernel⟩, by decide +kernel, by decide⟩
abbrev mX12_right : MT := (yX12_right, cX12_right, 4, (some .int))
set_option maxRecDepth 100000 in
theorem cdX12_right : Cond.code yX12_right cX12_right 4 (some .int) ∈ TB := TB_of (tin_7 (TB_at 203 rfl)) rfl
set_option maxRecDepth 100000 in
theorem imX12_right : Cond.instanceMethod yX12_right ∈ TB := TB_of (tin_7 (TB_at 201 rfl)) rfl
set_option maxRecDepth 100000 in
theorem seX12_right : Cond.selects RX12 yX12_right yX12_right ∈ TB := TB_of (tin_7 (TB_at 202 rfl)) rfl
theorem kX12_right : MKv mX12_right 1 := ⟨imX12_right, seX12_right, iniX12, cdX12_right, ⟨by decide +kernel, by decide +kernel⟩, by decide +kernel, by decide⟩
abbrev mX12_justiceOf : MT := (yX12_justiceOf, cX12_justiceOf, 4, (some .int))
set_option maxRecDepth 100000 in
theorem cdX12_justiceOf : Cond.code yX12_justiceOf cX12_justiceOf 4 (some .int) ∈ TB := TB_of (tin_7 (TB_at 215 rfl)) rfl
set_option maxRecDepth 100000 in
theorem imX12_justiceOf : Cond.instanceMethod yX12_justiceOf ∈ TB := TB_of (tin_7 (TB_at 214 rfl)) rfl
set_option maxRecDepth 100000 in
theorem seX12_justiceOf : Cond.selects RX12 yX12_justiceOf yX12_justiceOf ∈ TB := TB_of (tin_0 (TB_at 106 rfl)) rfl
theorem kX12_justiceOf : MKv mX12_justiceOf 1 := ⟨imX12_justiceOf, seX12_justiceOf, iniX12, cdX12_justiceOf, ⟨by decide +kernel, by decide +kernel⟩, by decide +kernel, by decide⟩
abbrev mX12_justice : MT := (yX12_justice, cX12_justice, 2, (some .int))
set_option maxRecDepth 100000 in
theorem cdX12_justice : Cond.code yX12_justice cX12_justice 2 (some .int) ∈ TB := TB_of (tin_7 (TB_at 211 rfl)) rfl
set_option maxRecDepth 100000 in
theorem imX12_justice : Cond.instanceMethod yX12_justice ∈ TB := TB_of (tin_7 (TB_at 209 rfl)) rfl
set_option maxRecDepth 100000 in
theorem seX12_justice : Cond.selects RX12 yX12_justice yX12_justice ∈ TB := TB_of (tin_7 (TB_at 210 rfl)) rfl
theorem kX12_justice : MKv mX12_justice 1 := ⟨imX12_justice, seX12_justice, iniX12, cdX12_justice, ⟨by decide +kernel, by decide +kernel⟩, by decide +kernel, by decide⟩
abbrev mX12_bestLaw : MT := (yX12_bestLaw, cX12_bestLaw, 3, (some .int))
set_option maxRecDepth 100000 in
theorem cdX12_bestLaw : Cond.code yX12_bestLaw cX12_bestLaw 3 (some .int) ∈ TB := TB_of (tin_7 (TB_at 219 rfl)) rfl
set_option maxRecDepth 100000 in
theorem imX12_bestLaw : Cond.instanceMethod yX12_bestLaw ∈ TB := TB_of (tin_7 (TB_at 217 rfl)) rfl
set_option maxRecDepth 100000 in
theorem seX12_bestLaw : Cond.selects RX12 yX12_bestLaw yX12_bestLaw ∈ TB := TB_of (tin_7 (TB_at 218 rfl)) rfl
theorem kX12_bestLaw : MKv mX12_bestLaw 0 := ⟨imX12_bestLaw, seX12_bestLaw, iniX12, cdX12_bestLaw, ⟨by decide +kernel, by decide +kernel⟩, by decide +kernel, by decide⟩
abbrev mX12_newsOf : MT := (yX12_newsOf, cX12_newsOf, 6, (some .int))
set_option maxRecDepth 100000 in
theorem cdX12_newsOf : Cond.code yX12_newsOf cX12_newsOf 6 (some .int) ∈ TB := TB_of (tin_7 (TB_at 227 rfl)) rfl
set_option maxRecDepth 100000 in
theorem imX12_newsOf : Cond.instanceMethod yX12_newsOf ∈ TB := TB_of (tin_7 (TB_at 226 rfl)) rfl
set_option maxRecDepth 100000 in
theorem seX12_newsOf : Cond.selects RX12 yX12_newsOf yX12_newsOf ∈ TB := TB_of (tin_0 (TB_at 107 rfl)) rfl
theorem kX12_newsOf : MKv mX12_newsOf 2 := ⟨imX12_newsOf, seX12_newsOf, iniX12, cdX12_newsOf, ⟨by decide +kernel, by decide +kernel⟩, by decide +kernel, by decide⟩
abbrev mX12_news : MT := (yX12_news, cX12_news, 3, (some .int))
set_option maxRecDepth 100000 in
theorem cdX12_news : Cond.code yX12_news cX12_news 3 (some .int) ∈ TB := TB_of (tin_7 (TB_at 223 rfl)) rfl
set_option maxRecDepth 100000 in
theorem imX12_news : Cond.instanceMethod yX12_news ∈ TB := TB_of (tin_7 (TB_at 221 rfl)) rfl
set_option maxRecDepth 100000 in
theorem seX12_news : Cond.selects RX12 yX12_news yX12_news ∈ TB := TB_of (tin_7 (TB_at 222 rfl)) rfl
theorem kX12_news : MKv mX12_news 2 := ⟨imX12_news, seX12_news, iniX12, cdX12_news, ⟨by decide +kernel, by decide +kernel⟩, by decide +kernel, by decide⟩
abbrev mX12_latest : MT := (yX12_latest, cX12_latest, 6, (some .int))
set_option maxRecDepth 100000 in
theorem cdX12_latest : Cond.code yX12_latest cX12_latest 6 (some .int) ∈ TB := TB_of (tin_7 (TB_at 231 rfl)) rfl
set_option maxRecDepth 100000 in
theorem imX12_latest : Cond.instanceMethod yX12_latest ∈ TB := TB_of (tin_7 (TB_at 229 rfl)) rfl
set_option maxRecDepth 100000 in
theorem seX12_latest : Cond.selects RX12 yX12_latest yX12_latest ∈ TB := TB_of (tin_7 (TB_at 230 rfl)) rfl
theorem kX12_latest : MKv mX12_latest 1 := ⟨imX12_latest, seX12_latest, iniX12, cdX12_latest, ⟨by decide +kernel, by decide +kernel⟩, by decide +kernel, by decide⟩
abbrev mX12_leastIn : MT := (yX12_leastIn, cX12_leastIn, 4, (some .int))
set_option maxRecDepth 100000 in
theorem cdX12_leastIn : Cond.code yX12_leastIn cX12_leastIn 4 (some .int) ∈ TB := TB_of (tin_7 (TB_at 235 rfl)) rfl
set_option maxRecDepth 100000 in
theorem imX12_leastIn : Cond.instanceMethod yX12_leastIn ∈ TB := TB_of (tin_7 (TB_at 233 rfl)) rfl
set_option maxRecDepth 100000 in
theorem seX12_leastIn : Cond.selects RX12 yX12_leastIn yX12_leastIn ∈ TB := TB_of (tin_7 (TB_at 234 rfl)) rfl
theorem kX12_leastIn : MKv mX12_leastIn 2 := ⟨imX12_leastIn, seX12_leastIn, iniX12, cdX12_leastIn, ⟨by decide +kernel, by decide +kernel⟩, by decide +kernel, by decide⟩
abbrev mX12_calm : MT := (yX12_calm, cX12_calm, 2, (some .int))
set_option maxRecDepth 100000 in
theorem cdX12_calm : Cond.code yX12_calm cX12_calm 2 (some .int) ∈ TB := TB_of (tin_7 (TB_at 239 rfl)) rfl
set_option maxRecDepth 100000 in
theorem imX12_calm : Cond.instanceMethod yX12_calm ∈ TB := TB_of (tin_7 (TB_at 237 rfl)) rfl
set_option maxRecDepth 100000 in
theorem seX12_calm : Cond.selects RX12 yX12_calm yX12_calm ∈ TB := TB_of (tin_7 (TB_at 238 rfl)) rfl
theorem kX12_calm : MKv mX12_calm 0 := ⟨imX12_calm, seX12_calm, iniX12, cdX12_calm, ⟨by decide +kernel, by decide +kernel⟩, by decide +kernel, by decide⟩
abbrev mX12_noRow : MT := (yX12_noRow, cX12_noRow, 3, (some .int))
set_option maxRecDepth 100000 in
theorem cdX12_noRow : Cond.code yX12_noRow cX12_noRow 3 (some .int) ∈ TB := TB_of (tin_8 (TB_at 7 rfl)) rfl
set_option maxRecDepth 100000 in
theorem imX12_noRow : Cond.instanceMethod yX12_noRow ∈ TB := TB_of (tin_8 (TB_at 6 rfl)) rfl
set_option maxRecDepth 100000 in
theorem seX12_noRow : Cond.selects RX12 yX12_noRow yX12_noRow ∈ TB := TB_of (tin_0 (TB_at 108 rfl)) rfl
theorem kX12_noRow : MKv mX12_noRow 1 := ⟨imX12_noRow, seX12_noRow, iniX12, cdX12_noRow, ⟨by decide +kernel, by decide +kernel⟩, by decide +kernel, by decide⟩
abbrev mX12_isFit : MT := (yX12_isFit, cX12_isFit, 6, (some .boolean))
set_option maxRecDepth 100000 in
theorem cdX12_isFit : Cond.code yX12_isFit cX12_isFit 6 (some .boolean) ∈ TB := TB_of (tin_8 (TB_at 12 rfl)) rfl
set_option maxRecDepth 100000 in
theorem imX12_isFit : Cond.instanceMethod yX12_isFit ∈ TB := TB_of (tin_8 (TB_at 11 rfl)) rfl
set_option maxRecDepth 100000 in
theorem seX12_isFit : Cond.selects RX12 yX12_isFit yX12_isFit ∈ TB := TB_of (tin_0 (TB_at 109 rfl)) rfl
theorem kX12_isFit : MKv mX12_isFit 2 := ⟨imX12_isFit, seX12_isFit, iniX12, cdX12_isFit, ⟨by decide +kernel, by decide +kernel⟩, by decide +kernel, by decide⟩
abbrev mX12_fitting : MT := (yX12_fitting, cX12_fitting, 5, (some .int))
set_option maxRecDepth 100000 in
theorem cdX12_fitting : Cond.code yX12_fitting cX12_fitting 5 (some .int) ∈ TB := TB_of (tin_8 (TB_at 3 rfl)) rfl
set_option maxRecDepth 100000 in
theorem imX12_fitting : Cond.instanceMethod yX12_fitting ∈ TB := TB_of (tin_8 (TB_at 1 rfl)) rfl
set_option maxRecDepth 100000 in
theorem seX12_fitting : Cond.selects RX12 yX12_fitting yX12_fitting ∈ TB := TB_of (tin_8 (TB_at 2 rfl)) rfl
theorem kX12_fitting : MKv mX12_fitting 1 := ⟨imX12_fitting, seX12_fitting, iniX12, cdX12_fitting, ⟨by decide +kernel, by decide +kernel⟩, by decide +kernel, by decide⟩
abbrev mX12_sure : MT := (yX12_sure, cX12_sure, 5, (some .int))
set_option maxRecDepth 100000 in
theorem cdX12_sure : Cond.code yX12_sure cX12_sure 5 (some .int) ∈ TB := TB_of (tin_8 (TB_at 16 rfl)) rfl
set_option maxRecDepth 100000 in
theorem imX12_sure : Cond.instanceMethod yX12_sure ∈ TB := TB_of (tin_8 (TB_at 14 rfl)) rfl
set_option maxRecDepth 100000 in
theorem seX12_sure : Cond.selects RX12 yX12_sure yX12_sure ∈ TB := TB_of (tin_8 (TB_at 15 rfl)) rfl
theorem kX12_sure : MKv mX12_sure 1 := ⟨imX12_sure, seX12_sure, iniX12, cdX12_sure, ⟨by decide +kernel, by decide +kernel⟩, by decide +kernel, by decide⟩
abbrev mX12_rowsFrom : MT := (yX12_rowsFrom, cX12_rowsFrom, 6, (some .int))
set_option maxRecDepth 100000 in
theorem cdX12_rowsFrom : Cond.code yX12_rowsFrom cX12_rowsFrom 6 (some .int) ∈ TB := TB_of (tin_8 (TB_at 25 rfl)) rfl
set_option maxRecDepth 100000 in
theorem imX12_rowsFrom : Cond.instanceMethod yX12_rowsFrom ∈ TB := TB_of (tin_8 (TB_at 24 rfl)) rfl
set_option maxRecDepth 100000 in
theorem seX12_rowsFrom : Cond.selects RX12 yX12_rowsFrom yX12_rowsFrom ∈ TB := TB_of (tin_0 (TB_at 110 rfl)) rfl
theorem kX12_rowsFrom : MKv mX12_rowsFrom 2 := ⟨imX12_rowsFrom, seX12_rowsFrom, iniX12, cdX12_rowsFrom, ⟨by decide +kernel, by decide +kernel⟩, by decide +kernel, by decide⟩
abbrev mX12_questions : MT := (yX12_questions, cX12_questions, 3, (some .int))
set_option maxRecDepth 100000 in
theorem cdX12_questions : Cond.code yX12_questions cX12_questions 3 (some .int) ∈ TB := TB_of (tin_8 (TB_at 20 rfl)) rfl
set_option maxRecDepth 100000 in
theorem imX12_questions : Cond.instanceMethod yX12_questions ∈ TB := TB_of (tin_8 (TB_at 18 rfl)) rfl
set_option maxRecDepth 100000 in
theorem seX12_questions : Cond.selects RX12 yX12_questions yX12_questions ∈ TB := TB_of (tin_8 (TB_at 19 rfl)) rfl
theorem kX12_questions : MKv mX12_questions 2 := ⟨imX12_questions, seX12_questions, iniX12, cdX12_questions, ⟨by decide +kernel, by decide +kernel⟩, by decide +kernel, by decide⟩
abbrev mX12_cut : MT := (yX12_cut, cX12_cut, 3, (some .long))
set_option maxRecDepth 100000 in
theorem cdX12_cut : Cond.code yX12_cut cX12_cut 3 (some .long) ∈ TB := TB_of (tin_8 (TB_at 40 rfl)) rfl
set_option maxRecDepth 100000 in
theorem stX12_cut : Cond.static yX12_cut ∈ TB := TB_of (tin_8 (TB_at 39 rfl)) rfl
theorem kX12_cut : MKs mX12_cut 2 := ⟨stX12_cut, iniX12, cdX12_cut, ⟨by decide +kernel, by decide +kernel⟩, by decide +kernel, by decide⟩
abbrev mX12_numbers : MT := (yX12_numbers, cX12_numbers, 5, (some .int))
set_option maxRecDepth 100000 in
theorem cdX12_numbers : Cond.code yX12_numbers cX12_numbers 5 (some .int) ∈ TB := TB_of (tin_8 (TB_at 29 rfl)) rfl
set_option maxRecDepth 100000 in
theorem imX12_numbers : Cond.instanceMethod yX12_numbers ∈ TB := TB_of (tin_8 (TB_at 27 rfl)) rfl
set_option maxRecDepth 100000 in
theorem seX12_numbers : Cond.selects RX12 yX12_numbers yX12_numbers ∈ TB := TB_of (tin_8 (TB_at 28 rfl)) rfl
theorem kX12_numbers : MKv mX12_numbers 3 := ⟨imX12_numbers, seX12_numbers, iniX12, cdX12_numbers, ⟨by decide +kernel, by decide +kernel⟩, by decide +kernel, by decide⟩
abbrev mX12_write : MT := (yX12_write, cX12_write, 5, (some .long))
set_option maxRecDepth 100000 in
theorem cdX12_write : Cond.code yX12_write cX12_write 5 (some .long) ∈ TB := TB_of (tin_8 (TB_at 34 rfl)) rfl
set_option maxRecDepth 100000 in
theorem imX12_write : Cond.instanceMethod yX12_write ∈ TB := TB_of (tin_8 (TB_at 32 rfl)) rfl
set_option maxRecDepth 100000 in
theorem seX12_write : Cond.selects RX12 yX12_write yX12_write ∈ TB := TB_of (tin_8 (TB_at 33 rfl)) rfl
theorem kX12_write : MKv mX12_write 3 := ⟨imX12_write, seX12_write, iniX12, cdX12_write, ⟨by decide +kernel, by decide +kernel⟩, by decide +kernel, by decide⟩
abbrev mX12_copy : MT := (yX12_copy, cX12_copy, 4, (some .int))
set_option maxRecDepth 100000 in
theorem cdX12_copy : Cond.code yX12_copy cX12_copy 4 (some .int) ∈ TB := TB_of (tin_8 (TB_at 44 rfl)) rfl
set_option maxRecDepth 100000 in
theorem imX12_copy : Cond.instanceMethod yX12_copy ∈ TB := TB_of (tin_8 (TB_at 42 rfl)) rfl
set_option maxRecDepth 100000 in
theorem seX12_copy : Cond.selects RX12 yX12_copy yX12_copy ∈ TB := TB_of (tin_8 (TB_at 43 rfl)) rfl
theorem kX12_copy : MKv mX12_copy 1 := ⟨imX12_copy, seX12_copy, iniX12, cdX12_copy, ⟨by decide +kernel, by decide +kernel⟩, by decide +kernel, by decide⟩
abbrev mX12_image : MT := (yX12_image, cX12_image, 3, (some .int))
set_option maxRecDepth 100000 in
theorem cdX12_image : Cond.code yX12_image cX12_image 3 (some .int) ∈ TB := TB_of (tin_8 (TB_at 48 rfl)) rfl
set_option maxRecDepth 100000 in
theorem imX12_image : Cond.instanceMethod yX12_image ∈ TB := TB_of (tin_8 (TB_at 46 rfl)) rfl
set_option maxRecDepth 100000 in
theorem seX12_image : Cond.selects RX12 yX12_image yX12_image ∈ TB := TB_of (tin_8 (TB_at 47 rfl)) rfl
theorem kX12_image : MKv mX12_image 1 := ⟨imX12_image, seX12_image, iniX12, cdX12_image, ⟨by decide +kernel, by decide +kernel⟩, by decide +kernel, by decide⟩
abbrev mX12_restore : MT := (yX12_restore, cX12_restore, 3, (some .int))
set_option maxRecDepth 100000 in
theorem cdX12_restore : Cond.code yX12_restore cX12_restore 3 (some .int) ∈ TB := TB_of (tin_8 (TB_at 52 rfl)) rfl
set_option maxRecDepth 100000 in
theorem imX12_restore : Cond.instanceMethod yX12_restore ∈ TB := TB_of (tin_8 (TB_at 50 rfl)) rfl
set_option maxRecDepth 100000 in
theorem seX12_restore : Cond.selects RX12 yX12_restore yX12_restore ∈ TB := TB_of (tin_8 (TB_at 51 rfl)) rfl
theorem kX12_restore : MKv mX12_restore 1 := ⟨imX12_restore, seX12_restore, iniX12, cdX12_restore, ⟨by decide +kernel, by decide +kernel⟩, by decide +kernel, by decide⟩
abbrev mX12_roadMany : MT := (yX12_roadMany, cX12_roadMany, 3, (some .int))
set_option maxRecDepth 100000 in
theorem cdX12_roadMany : Cond.code yX12_roadMany cX12_roadMany 3 (some .int) ∈ TB := TB_of (tin_8 (TB_at 60 rfl)) rfl
set_option maxRecDepth 100000 in
theorem imX12_roadMany : Cond.instanceMethod yX12_roadMany ∈ TB := TB_of (tin_8 (TB_at 59 rfl)) rfl
set_option maxRecDepth 100000 in
theorem seX12_roadMany : Cond.selects RX12 yX12_roadMany yX12_roadMany ∈ TB := TB_of (tin_0 (TB_at 111 rfl)) rfl
theorem kX12_roadMany : MKv mX12_roadMany 0 := ⟨imX12_roadMany, seX12_roadMany, iniX12, cdX12_roadMany, ⟨by decide +kernel, by decide +kernel⟩, by decide +kernel, by decide⟩
abbrev mX12_count : MT := (yX12_count, cX12_count, 2, (some .int))
set_option maxRecDepth 100000 in
theorem cdX12_count : Cond.code yX12_count cX12_count 2 (some .int) ∈ TB := TB_of (tin_8 (TB_at 56 rfl)) rfl
set_option maxRecDepth 100000 in
theorem imX12_count : Cond.instanceMethod yX12_count ∈ TB := TB_of (tin_8 (TB_at 54 rfl)) rfl
set_option maxRecDepth 100000 in
theorem seX12_count : Cond.selects RX12 yX12_count yX12_count ∈ TB := TB_of (tin_8 (TB_at 55 rfl)) rfl
theorem kX12_count : MKv mX12_count 1 := ⟨imX12_count, seX12_count, iniX12, cdX12_count, ⟨by decide +kernel, by decide +kernel⟩, by decide +kernel, by decide⟩
abbrev mJ6_compare_7cf53 : MT := (yJ6_compare_7cf53, cJ6_compare_7cf53, 2, (some .int))
set_option maxRecDepth 100000 in
theorem cdJ6_compare_7cf53 : Cond.code yJ6_compare_7cf53 cJ6_compare_7cf53 2 (some .int) ∈ TB := TB_of (tin_4 (TB_at 176 rfl)) rfl
set_option maxRecDepth 100000 in
theorem stJ6_compare_7cf53 : Cond.static yJ6_compare_7cf53 ∈ TB := TB_of (tin_4 (TB_at 175 rfl)) rfl
theorem kJ6_compare_7cf53 : MKs mJ6_compare_7cf53 2 := ⟨stJ6_compare_7cf53, iniJ6, cdJ6_compare_7cf53, ⟨by decide +kernel, by decide +kernel⟩, by decide +kernel, by decide⟩
abbrev mJ6_bitCount_0f7a4 : MT := (yJ6_bitCount_0f7a4, cJ6_bitCount_0f7a4, 1, (some .int))
set_option maxRecDepth 100000 in
theorem cdJ6_bitCount_0f7a4 : Cond.code yJ6_bitCount_0f7a4 cJ6_bitCount_0f7a4 1 (some .int) ∈ TB := TB_of (tin_4 (TB_at 1 rfl)) rfl
set_option maxRecDepth 100000 in
theorem stJ6_bitCount_0f7a4 : Cond.static yJ6_bitCount_0f7a4 ∈ TB := TB_of (tin_4 (TB_at 0 rfl)) rfl
theorem kJ6_bitCount_0f7a4 : MKs mJ6_bitCount_0f7a4 1 := ⟨stJ6_bitCount_0f7a4, iniJ6, cdJ6_bitCount_0f7a4, ⟨by decide +kernel, by decide +kernel⟩, by decide +kernel, by decide⟩
abbrev mJ9_max_7cf53 : MT := (yJ9_max_7cf53, cJ9_max_7cf53, 2, (some .int))
set_option maxRecDepth 100000 in
theorem cdJ9_max_7cf53 : Cond.code yJ9_max_7cf53 cJ9_max_7cf53 2 (some .int) ∈ TB := TB_of (tin_3 (TB_at 27 rfl)) rfl
set_option maxRecDepth 100000 in
theorem stJ9_max_7cf53 : Cond.static yJ9_max_7cf53 ∈ TB := TB_of (tin_3 (TB_at 26 rfl)) rfl
theorem kJ9_max_7cf53 : MKs mJ9_max_7cf53 2 := ⟨stJ9_max_7cf53, iniJ9, cdJ9_max_7cf53, ⟨by decide +kernel, by decide +kernel⟩, by decide +kernel, by decide⟩
abbrev mJ9_max_f86c9 : MT := (yJ9_max_f86c9, cJ9_max_f86c9, 4, (some .long))
set_option maxRecDepth 100000 in
theorem cdJ9_max_f86c9 : Cond.code yJ9_max_f86c9 cJ9_max_f86c9 4 (some .long) ∈ TB := TB_of (tin_3 (TB_at 140 rfl)) rfl
set_option maxRecDepth 100000 in
theorem stJ9_max_f86c9 : Cond.static yJ9_max_f86c9 ∈ TB := TB_of (tin_3 (TB_at 139 rfl)) rfl
theorem kJ9_max_f86c9 : MKs mJ9_max_f86c9 2 := ⟨stJ9_max_f86c9, iniJ9, cdJ9_max_f86c9, ⟨by decide +kernel, by decide +kernel⟩, by decide +kernel, by decide⟩
abbrev mJ9_min_7cf53 : MT := (yJ9_min_7cf53, cJ9_min_7cf53, 2, (some .int))
set_option maxRecDepth 100000 in
theorem cdJ9_min_7cf53 : Cond.code yJ9_min_7cf53 cJ9_min_7cf53 2 (some .int) ∈ TB := TB_of (tin_4 (TB_at 84 rfl)) rfl
set_option maxRecDepth 100000 in
theorem stJ9_min_7cf53 : Cond.static yJ9_min_7cf53 ∈ TB := TB_of (tin_4 (TB_at 83 rfl)) rfl
theorem kJ9_min_7cf53 : MKs mJ9_min_7cf53 2 := ⟨stJ9_min_7cf53, iniJ9, cdJ9_min_7cf53, ⟨by decide +kernel, by decide +kernel⟩, by decide +kernel, by decide⟩
abbrev mJ9_min_f86c9 : MT := (yJ9_min_f86c9, cJ9_min_f86c9, 4, (some .long))
set_option maxRecDepth 100000 in
theorem cdJ9_min_f86c9 : Cond.code yJ9_min_f86c9 cJ9_min_f86c9 4 (some .long) ∈ TB := TB_of (tin_3 (TB_at 137 rfl)) rfl
set_option maxRecDepth 100000 in
theorem stJ9_min_f86c9 : Cond.static yJ9_min_f86c9 ∈ TB := TB_of (tin_3 (TB_at 136 rfl)) rfl
theorem kJ9_min_f86c9 : MKs mJ9_min_f86c9 2 := ⟨stJ9_min_f86c9, iniJ9, cdJ9_min_f86c9, ⟨by decide +kernel, by decide +kernel⟩, by decide +kernel, by decide⟩
abbrev mJ0_length_8abf5 : MT := (yJ0_length_8abf5, cJ0_length_8abf5, 1, (some .int))
set_option maxRecDepth 100000 in
theorem cdJ0_length_8abf5 : Cond.code yJ0_length_8abf5 cJ0_length_8abf5 1 (some .int) ∈ TB := TB_of (tin_2 (TB_at 209 rfl)) rfl
set_option maxRecDepth 100000 in
theorem imJ0_length_8abf5 : Cond.instanceMethod yJ0_length_8abf5 ∈ TB := TB_of (tin_2 (TB_at 207 rfl)) rfl
set_option maxRecDepth 100000 in
theorem seJ0_length_8abf5 : Cond.selects RJ0 yJ0_length_8abf5 yJ0_length_8abf5 ∈ TB := TB_of (tin_2 (TB_at 208 rfl)) rfl
theorem kJ0_length_8abf5 : MKv mJ0_length_8abf5 0 := ⟨imJ0_length_8abf5, seJ0_length_8abf5, iniJ0, cdJ0_length_8abf5, ⟨by decide +kernel, by decide +kernel⟩, by decide +kernel, by decide⟩
abbrev mJ0_charAt_5068e : MT := (yJ0_charAt_5068e, cJ0_charAt_5068e, 2, (some .char))
set_option maxRecDepth 100000 in
theorem cdJ0_charAt_5068e : Cond.code yJ0_charAt_5068e cJ0_charAt_5068e 2 (some .char) ∈ TB := TB_of (tin_2 (TB_at 219 rfl)) rfl
set_option maxRecDepth 100000 in
theorem imJ0_charAt_5068e : Cond.instanceMethod yJ0_charAt_5068e ∈ TB := TB_of (tin_2 (TB_at 217 rfl)) rfl
set_option maxRecDepth 100000 in
theorem seJ0_charAt_5068e : Cond.selects RJ0 yJ0_charAt_5068e yJ0_charAt_5068e ∈ TB := TB_of (tin_2 (TB_at 218 rfl)) rfl
theorem kJ0_charAt_5068e : MKv mJ0_charAt_5068e 1 := ⟨imJ0_charAt_5068e, seJ0_charAt_5068e, iniJ0, cdJ0_charAt_5068e, ⟨by decide +kernel, by decide +kernel⟩, by decide +kernel, by decide⟩
abbrev mJ0_coder_7d493 : MT := (yJ0_coder_7d493, cJ0_coder_7d493, 1, (some .byte))
set_option maxRecDepth 100000 in
theorem cdJ0_coder_7d493 : Cond.code yJ0_coder_7d493 cJ0_coder_7d493 1 (some .byte) ∈ TB := TB_of (tin_2 (TB_at 213 rfl)) rfl
set_option maxRecDepth 100000 in
theorem imJ0_coder_7d493 : Cond.instanceMethod yJ0_coder_7d493 ∈ TB := TB_of (tin_2 (TB_at 211 rfl)) rfl
set_option maxRecDepth 100000 in
theorem seJ0_coder_7d493 : Cond.selects RJ0 yJ0_coder_7d493 yJ0_coder_7d493 ∈ TB := TB_of (tin_2 (TB_at 212 rfl)) rfl
theorem kJ0_coder_7d493 : MKv mJ0_coder_7d493 0 := ⟨imJ0_coder_7d493, seJ0_coder_7d493, iniJ0, cdJ0_coder_7d493, ⟨by decide +kernel, by decide +kernel⟩, by decide +kernel, by decide⟩
abbrev mJ0_isLatin1_aae02 : MT := (yJ0_isLatin1_aae02, cJ0_isLatin1_aae02, 1, (some .boolean))
set_option maxRecDepth 100000 in
theorem cdJ0_isLatin1_aae02 : Cond.code yJ0_isLatin1_aae02 cJ0_isLatin1_aae02 1 (some .boolean) ∈ TB := TB_of (tin_2 (TB_at 223 rfl)) rfl
set_option maxRecDepth 100000 in
theorem imJ0_isLatin1_aae02 : Cond.instanceMethod yJ0_isLatin1_aae02 ∈ TB := TB_of (tin_2 (TB_at 221 rfl)) rfl
set_option maxRecDepth 100000 in
theorem seJ0_isLatin1_aae02 : Cond.selects RJ0 yJ0_isLatin1_aae02 yJ0_isLatin1_aae02 ∈ TB := TB_of (tin_2 (TB_at 222 rfl)) rfl
theorem kJ0_isLatin1_aae02 : MKv mJ0_isLatin1_aae02 0 := ⟨imJ0_isLatin1_aae02, seJ0_isLatin1_aae02, iniJ0, cdJ0_isLatin1_aae02, ⟨by decide +kernel, by decide +kernel⟩, by decide +kernel, by decide⟩
abbrev mJ0_checkIndex_df160 : MT := (yJ0_checkIndex_df160, cJ0_checkIndex_df160, 2, none)
set_option maxRecDepth 100000 in
theorem cdJ0_checkIndex_df160 : Cond.code yJ0_checkIndex_df160 cJ0_checkIndex_df160 2 none ∈ TB := TB_of (tin_2 (TB_at 229 rfl)) rfl
set_option maxRecDepth 100000 in
theorem stJ0_checkIndex_df160 : Cond.static yJ0_checkIndex_df160 ∈ TB := TB_of (tin_2 (TB_at 228 rfl)) rfl
theorem kJ0_checkIndex_df160 : MKs mJ0_checkIndex_df160 2 := ⟨stJ0_checkIndex_df160, iniJ0, cdJ0_checkIndex_df160, ⟨by decide +kernel, by decide +kernel⟩, by decide +kernel, by decide⟩
abbrev mJ1_charAt_3b067 : MT := (yJ1_charAt_3b067, cJ1_charAt_3b067, 2, (some .char))
set_option maxRecDepth 100000 in
theorem cdJ1_charAt_3b067 : Cond.code yJ1_charAt_3b067 cJ1_charAt_3b067 2 (some .char) ∈ TB := TB_of (tin_2 (TB_at 226 rfl)) rfl
set_option maxRecDepth 100000 in
theorem stJ1_charAt_3b067 : Cond.static yJ1_charAt_3b067 ∈ TB := TB_of (tin_2 (TB_at 225 rfl)) rfl
theorem kJ1_charAt_3b067 : MKs mJ1_charAt_3b067 2 := ⟨stJ1_charAt_3b067, iniJ1, cdJ1_charAt_3b067, ⟨by decide +kernel, by decide +kernel⟩, by decide +kernel, by decide⟩
abbrev mJ2_getChar_3b067 : MT := (yJ2_getChar_3b067, cJ2_getChar_3b067, 2, (some .char))
set_option maxRecDepth 100000 in
theorem cdJ2_getChar_3b067 : Cond.code yJ2_getChar_3b067 cJ2_getChar_3b067 2 (some .char) ∈ TB := TB_of (tin_3 (TB_at 7 rfl)) rfl
set_option maxRecDepth 100000 in
theorem stJ2_getChar_3b067 : Cond.static yJ2_getChar_3b067 ∈ TB := TB_of (tin_3 (TB_at 6 rfl)) rfl
theorem kJ2_getChar_3b067 : MKs mJ2_getChar_3b067 2 := ⟨stJ2_getChar_3b067, iniJ2, cdJ2_getChar_3b067, ⟨by decide +kernel, by decide +kernel⟩, by decide +kernel, by decide⟩
abbrev mJ2_length_9d52b : MT := (yJ2_length_9d52b, cJ2_length_9d52b, 1, (some .int))
set_option maxRecDepth 100000 in
theorem cdJ2_length_9d52b : Cond.code yJ2_length_9d52b cJ2_length_9d52b 1 (some .int) ∈ TB := TB_of (tin_3 (TB_at 3 rfl)) rfl
set_option maxRecDepth 100000 in
theorem stJ2_length_9d52b : Cond.static yJ2_length_9d52b ∈ TB := TB_of (tin_3 (TB_at 2 rfl)) rfl
theorem kJ2_length_9d52b : MKs mJ2_length_9d52b 1 := ⟨stJ2_length_9d52b, iniJ2, cdJ2_length_9d52b, ⟨by decide +kernel, by decide +kernel⟩, by decide +kernel, by decide⟩
abbrev mJ2_charAt_3b067 : MT := (yJ2_charAt_3b067, cJ2_charAt_3b067, 2, (some .char))
set_option maxRecDepth 100000 in
theorem cdJ2_charAt_3b067 : Cond.code yJ2_charAt_3b067 cJ2_charAt_3b067 2 (some .char) ∈ TB := TB_of (tin_2 (TB_at 237 rfl)) rfl
set_option maxRecDepth 100000 in
theorem stJ2_charAt_3b067 : Cond.static yJ2_charAt_3b067 ∈ TB := TB_of (tin_2 (TB_at 236 rfl)) rfl
theorem kJ2_charAt_3b067 : MKs mJ2_charAt_3b067 2 := ⟨stJ2_charAt_3b067, iniJ2, cdJ2_charAt_3b067, ⟨by decide +kernel, by decide +kernel⟩, by decide +kernel, by decide⟩
abbrev mJ2_checkIndex_2214a : MT := (yJ2_checkIndex_2214a, cJ2_checkIndex_2214a, 2, none)
set_option maxRecDepth 100000 in
theorem cdJ2_checkIndex_2214a : Cond.code yJ2_checkIndex_2214a cJ2_checkIndex_2214a 2 none ∈ TB := TB_of (tin_3 (TB_at 0 rfl)) rfl
set_option maxRecDepth 100000 in
theorem stJ2_checkIndex_2214a : Cond.static yJ2_checkIndex_2214a ∈ TB := TB_of (tin_2 (TB_at 239 rfl)) rfl
theorem kJ2_checkIndex_2214a : MKs mJ2_checkIndex_2214a 2 := ⟨stJ2_checkIndex_2214a, iniJ2, cdJ2_checkIndex_2214a, ⟨by decide +kernel, by decide +kernel⟩, by decide +kernel, by decide⟩
abbrev mJ7_fill_d0a16 : MT := (yJ7_fill_d0a16, cJ7_fill_d0a16, 5, none)
set_option maxRecDepth 100000 in
theorem cdJ7_fill_d0a16 : Cond.code yJ7_fill_d0a16 cJ7_fill_d0a16 5 none ∈ TB := TB_of (tin_5 (TB_at 122 rfl)) rfl
set_option maxRecDepth 100000 in
theorem stJ7_fill_d0a16 : Cond.static yJ7_fill_d0a16 ∈ TB := TB_of (tin_5 (TB_at 121 rfl)) rfl
theorem kJ7_fill_d0a16 : MKs mJ7_fill_d0a16 2 := ⟨stJ7_fill_d0a16, iniJ7, cdJ7_fill_d0a16, ⟨by decide +kernel, by decide +kernel⟩, by decide +kernel, by decide⟩
abbrev mJ7_fill_53178 : MT := (yJ7_fill_53178, cJ7_fill_53178, 4, none)
set_option maxRecDepth 100000 in
theorem cdJ7_fill_53178 : Cond.code yJ7_fill_53178 cJ7_fill_53178 4 none ∈ TB := TB_of (tin_2 (TB_at 173 rfl)) rfl
set_option maxRecDepth 100000 in
theorem stJ7_fill_53178 : Cond.static yJ7_fill_53178 ∈ TB := TB_of (tin_2 (TB_at 172 rfl)) rfl
theorem kJ7_fill_53178 : MKs mJ7_fill_53178 2 := ⟨stJ7_fill_53178, iniJ7, cdJ7_fill_53178, ⟨by decide +kernel, by decide +kernel⟩, by decide +kernel, by decide⟩
abbrev mJ3_checkIndex_8e157 : MT := (yJ3_checkIndex_8e157, cJ3_checkIndex_8e157, 3, (some .int))
set_option maxRecDepth 100000 in
theorem cdJ3_checkIndex_8e157 : Cond.code yJ3_checkIndex_8e157 cJ3_checkIndex_8e157 3 (some .int) ∈ TB := TB_of (tin_2 (TB_at 234 rfl)) rfl
set_option maxRecDepth 100000 in
theorem stJ3_checkIndex_8e157 : Cond.static yJ3_checkIndex_8e157 ∈ TB := TB_of (tin_2 (TB_at 233 rfl)) rfl
theorem kJ3_checkIndex_8e157 : MKs mJ3_checkIndex_8e157 3 := ⟨stJ3_checkIndex_8e157, iniJ3, cdJ3_checkIndex_8e157, ⟨by decide +kernel, by decide +kernel⟩, by decide +kernel, by decide⟩
set_option maxRecDepth 100000 in
theorem lL_9 : Cond.methodLink RL 9 yX11_init ∈ TB := TB_of (tin_1 (TB_at 24 rfl)) rfl
set_option maxRecDepth 100000 in
theorem lX11_15 : Cond.methodLink RX11 15 yX5_init ∈ TB := TB_of (tin_1 (TB_at 32 rfl)) rfl
set_option maxRecDepth 100000 in
theorem lX5_11 : Cond.methodLink RX5 11 yX9_init ∈ TB := TB_of (tin_1 (TB_at 38 rfl)) rfl
set_option maxRecDepth 100000 in
theorem flX9_9 : Cond.fieldLink RX9 9 "KnowsLeast$Tokens" "kinds" "[I" ∈ TB := TB_of (tin_1 (TB_at 42 rfl)) rfl
theorem fX9_9 : GF RX9 9 9 0 := ⟨RX9, TX9, 4, rfl, by decide, uX9, flX9_9⟩
set_option maxRecDepth 100000 in
theorem flX5_69 : Cond.fieldLink RX5 69 "KnowsLeast$Tokens" "kinds" "[I" ∈ TB := TB_of (tin_1 (TB_at 43 rfl)) rfl
theorem fX5_69 : GF RX5 69 9 0 := ⟨RX9, TX9, 4, rfl, by decide, uX9, flX5_69⟩
set_option maxRecDepth 100000 in
theorem flX9_15 : Cond.fieldLink RX9 15 "KnowsLeast$Tokens" "starts" "[I" ∈ TB := TB_of (tin_1 (TB_at 44 rfl)) rfl
theorem fX9_15 : GF RX9 15 9 1 := ⟨RX9, TX9, 4, rfl, by decide, uX9, flX9_15⟩
set_option maxRecDepth 100000 in
theorem flX5_76 : Cond.fieldLink RX5 76 "KnowsLeast$Tokens" "starts" "[I" ∈ TB := TB_of (tin_1 (TB_at 45 rfl)) rfl
theorem fX5_76 : GF RX5 76 9 1 := ⟨RX9, TX9, 4, rfl, by decide, uX9, flX5_76⟩
set_option maxRecDepth 100000 in
theorem flX9_18 : Cond.fieldLink RX9 18 "KnowsLeast$Tokens" "values" "[I" ∈ TB := TB_of (tin_1 (TB_at 46 rfl)) rfl
theorem fX9_18 : GF RX9 18 9 2 := ⟨RX9, TX9, 4, rfl, by decide, uX9, flX9_18⟩
set_option maxRecDepth 100000 in
theorem flX5_86 : Cond.fieldLink RX5 86 "KnowsLeast$Tokens" "values" "[I" ∈ TB := TB_of (tin_1 (TB_at 47 rfl)) rfl
theorem fX5_86 : GF RX5 86 9 2 := ⟨RX9, TX9, 4, rfl, by decide, uX9, flX5_86⟩
set_option maxRecDepth 100000 in
theorem flX9_21 : Cond.fieldLink RX9 21 "KnowsLeast$Tokens" "last" "I" ∈ TB := TB_of (tin_1 (TB_at 48 rfl)) rfl
theorem fX9_21 : GF RX9 21 9 3 := ⟨RX9, TX9, 4, rfl, by decide, uX9, flX9_21⟩
theorem wX9_21 : GFw RX9 21 9 3 := ⟨RX9, TX9, 4, tyX9, rfl, by decide, uX9, flX9_21, tyX9_ok, nmX9, rfl, Or.inl rfl⟩
set_option maxRecDepth 100000 in
theorem flX5_73 : Cond.fieldLink RX5 73 "KnowsLeast$Tokens" "last" "I" ∈ TB := TB_of (tin_1 (TB_at 49 rfl)) rfl
theorem fX5_73 : GF RX5 73 9 3 := ⟨RX9, TX9, 4, rfl, by decide, uX9, flX5_73⟩
theorem wX5_73 : GFw RX5 73 9 3 := ⟨RX9, TX9, 4, tyX9, rfl, by decide, uX9, flX5_73, tyX9_ok, nmX9, rfl, Or.inl rfl⟩
set_option maxRecDepth 100000 in
theorem lX5_20 : Cond.methodLink RX5 20 yX0_init ∈ TB := TB_of (tin_1 (TB_at 63 rfl)) rfl
set_option maxRecDepth 100000 in
theorem flX0_9 : Cond.fieldLink RX0 9 "KnowsLeast$Formulas" "codes" "[I" ∈ TB := TB_of (tin_1 (TB_at 67 rfl)) rfl
theorem fX0_9 : GF RX0 9 0 0 := ⟨RX0, TX0, 4, rfl, by decide, uX0, flX0_9⟩
set_option maxRecDepth 100000 in
theorem flX0_15 : Cond.fieldLink RX0 15 "KnowsLeast$Formulas" "ends" "[I" ∈ TB := TB_of (tin_1 (TB_at 68 rfl)) rfl
theorem fX0_15 : GF RX0 15 0 1 := ⟨RX0, TX0, 4, rfl, by decide, uX0, flX0_15⟩
set_option maxRecDepth 100000 in
theorem flX0_18 : Cond.fieldLink RX0 18 "KnowsLeast$Formulas" "stack" "[I" ∈ TB := TB_of (tin_1 (TB_at 69 rfl)) rfl
theorem fX0_18 : GF RX0 18 0 2 := ⟨RX0, TX0, 4, rfl, by decide, uX0, flX0_18⟩
set_option maxRecDepth 100000 in
theorem flX0_21 : Cond.fieldLink RX0 21 "KnowsLeast$Formulas" "length" "I" ∈ TB := TB_of (tin_1 (TB_at 70 rfl)) rfl
theorem fX0_21 : GF RX0 21 0 3 := ⟨RX0, TX0, 4, rfl, by decide, uX0, flX0_21⟩
theorem wX0_21 : GFw RX0 21 0 3 := ⟨RX0, TX0, 4, tyX0, rfl, by decide, uX0, flX0_21, tyX0_ok, nmX0, rfl, Or.inl rfl⟩
set_option maxRecDepth 100000 in
theorem lX5_27 : Cond.methodLink RX5 27 yX2_init ∈ TB := TB_of (tin_1 (TB_at 82 rfl)) rfl
set_option maxRecDepth 100000 in
theorem flX2_9 : Cond.fieldLink RX2 9 "KnowsLeast$Land" "numbers" "[I" ∈ TB := TB_of (tin_1 (TB_at 86 rfl)) rfl
theorem fX2_9 : GF RX2 9 2 0 := ⟨RX2, TX2, 10, rfl, by decide, uX2, flX2_9⟩
set_option maxRecDepth 100000 in
theorem flX11_116 : Cond.fieldLink RX11 116 "KnowsLeast$Land" "numbers" "[I" ∈ TB := TB_of (tin_1 (TB_at 87 rfl)) rfl
theorem fX11_116 : GF RX11 116 2 0 := ⟨RX2, TX2, 10, rfl, by decide, uX2, flX11_116⟩
set_option maxRecDepth 100000 in
theorem flX0_54 : Cond.fieldLink RX0 54 "KnowsLeast$Land" "numbers" "[I" ∈ TB := TB_of (tin_1 (TB_at 88 rfl)) rfl
theorem fX0_54 : GF RX0 54 2 0 := ⟨RX2, TX2, 10, rfl, by decide, uX2, flX0_54⟩
set_option maxRecDepth 100000 in
theorem flX5_120 : Cond.fieldLink RX5 120 "KnowsLeast$Land" "numbers" "[I" ∈ TB := TB_of (tin_1 (TB_at 89 rfl)) rfl
theorem fX5_120 : GF RX5 120 2 0 := ⟨RX2, TX2, 10, rfl, by decide, uX2, flX5_120⟩
set_option maxRecDepth 100000 in
theorem flX2_15 : Cond.fieldLink RX2 15 "KnowsLeast$Land" "weights" "[I" ∈ TB := TB_of (tin_1 (TB_at 90 rfl)) rfl
theorem fX2_15 : GF RX2 15 2 1 := ⟨RX2, TX2, 10, rfl, by decide, uX2, flX2_15⟩
set_option maxRecDepth 100000 in
theorem flX11_120 : Cond.fieldLink RX11 120 "KnowsLeast$Land" "weights" "[I" ∈ TB := TB_of (tin_1 (TB_at 91 rfl)) rfl
theorem fX11_120 : GF RX11 120 2 1 := ⟨RX2, TX2, 10, rfl, by decide, uX2, flX11_120⟩
set_option maxRecDepth 100000 in
theorem flX0_57 : Cond.fieldLink RX0 57 "KnowsLeast$Land" "weights" "[I" ∈ TB := TB_of (tin_1 (TB_at 92 rfl)) rfl
theorem fX0_57 : GF RX0 57 2 1 := ⟨RX2, TX2, 10, rfl, by decide, uX2, flX0_57⟩
set_option maxRecDepth 100000 in
theorem flX5_123 : Cond.fieldLink RX5 123 "KnowsLeast$Land" "weights" "[I" ∈ TB := TB_of (tin_1 (TB_at 93 rfl)) rfl
theorem fX5_123 : GF RX5 123 2 1 := ⟨RX2, TX2, 10, rfl, by decide, uX2, flX5_123⟩
set_option maxRecDepth 100000 in
theorem flX2_18 : Cond.fieldLink RX2 18 "KnowsLeast$Land" "holding" "[I" ∈ TB := TB_of (tin_1 (TB_at 94 rfl)) rfl
theorem fX2_18 : GF RX2 18 2 2 := ⟨RX2, TX2, 10, rfl, by decide, uX2, flX2_18⟩
set_option maxRecDepth 100000 in
theorem flX0_30 : Cond.fieldLink RX0 30 "KnowsLeast$Land" "holding" "[I" ∈ TB := TB_of (tin_1 (TB_at 95 rfl)) rfl
theorem fX0_30 : GF RX0 30 2 2 := ⟨RX2, TX2, 10, rfl, by decide, uX2, flX0_30⟩
set_option maxRecDepth 100000 in
theorem flX10_49 : Cond.fieldLink RX10 49 "KnowsLeast$Land" "holding" "[I" ∈ TB := TB_of (tin_1 (TB_at 96 rfl)) rfl
theorem fX10_49 : GF RX10 49 2 2 := ⟨RX2, TX2, 10, rfl, by decide, uX2, flX10_49⟩
set_option maxRecDepth 100000 in
theorem flX11_133 : Cond.fieldLink RX11 133 "KnowsLeast$Land" "holding" "[I" ∈ TB := TB_of (tin_1 (TB_at 97 rfl)) rfl
theorem fX11_133 : GF RX11 133 2 2 := ⟨RX2, TX2, 10, rfl, by decide, uX2, flX11_133⟩
set_option maxRecDepth 100000 in
theorem flX2_21 : Cond.fieldLink RX2 21 "KnowsLeast$Land" "hinted" "[I" ∈ TB := TB_of (tin_1 (TB_at 98 rfl)) rfl
theorem fX2_21 : GF RX2 21 2 3 := ⟨RX2, TX2, 10, rfl, by decide, uX2, flX2_21⟩
set_option maxRecDepth 100000 in
theorem flX8_44 : Cond.fieldLink RX8 44 "KnowsLeast$Land" "hinted" "[I" ∈ TB := TB_of (tin_1 (TB_at 99 rfl)) rfl
theorem fX8_44 : GF RX8 44 2 3 := ⟨RX2, TX2, 10, rfl, by decide, uX2, flX8_44⟩
set_option maxRecDepth 100000 in
theorem flX11_154 : Cond.fieldLink RX11 154 "KnowsLeast$Land" "hinted" "[I" ∈ TB := TB_of (tin_1 (TB_at 100 rfl)) rfl
theorem fX11_154 : GF RX11 154 2 3 := ⟨RX2, TX2, 10, rfl, by decide, uX2, flX11_154⟩
set_option maxRecDepth 100000 in
theorem flX5_147 : Cond.fieldLink RX5 147 "KnowsLeast$Land" "hinted" "[I" ∈ TB := TB_of (tin_1 (TB_at 101 rfl)) rfl
theorem fX5_147 : GF RX5 147 2 3 := ⟨RX2, TX2, 10, rfl, by decide, uX2, flX5_147⟩
set_option maxRecDepth 100000 in
theorem flX2_24 : Cond.fieldLink RX2 24 "KnowsLeast$Land" "roads" "[I" ∈ TB := TB_of (tin_1 (TB_at 102 rfl)) rfl
theorem fX2_24 : GF RX2 24 2 4 := ⟨RX2, TX2, 10, rfl, by decide, uX2, flX2_24⟩
set_option maxRecDepth 100000 in
theorem flX8_50 : Cond.fieldLink RX8 50 "KnowsLeast$Land" "roads" "[I" ∈ TB := TB_of (tin_1 (TB_at 103 rfl)) rfl
theorem fX8_50 : GF RX8 50 2 4 := ⟨RX2, TX2, 10, rfl, by decide, uX2, flX8_50⟩
set_option maxRecDepth 100000 in
theorem flX11_151 : Cond.fieldLink RX11 151 "KnowsLeast$Land" "roads" "[I" ∈ TB := TB_of (tin_1 (TB_at 104 rfl)) rfl
theorem fX11_151 : GF RX11 151 2 4 := ⟨RX2, TX2, 10, rfl, by decide, uX2, flX11_151⟩
set_option maxRecDepth 100000 in
theorem flX5_144 : Cond.fieldLink RX5 144 "KnowsLeast$Land" "roads" "[I" ∈ TB := TB_of (tin_1 (TB_at 105 rfl)) rfl
theorem fX5_144 : GF RX5 144 2 4 := ⟨RX2, TX2, 10, rfl, by decide, uX2, flX5_144⟩
set_option maxRecDepth 100000 in
theorem flX2_33 : Cond.fieldLink RX2 33 "KnowsLeast$Land" "guilty" "I" ∈ TB := TB_of (tin_1 (TB_at 106 rfl)) rfl
theorem fX2_33 : GF RX2 33 2 5 := ⟨RX2, TX2, 10, rfl, by decide, uX2, flX2_33⟩
theorem wX2_33 : GFw RX2 33 2 5 := ⟨RX2, TX2, 10, tyX2, rfl, by decide, uX2, flX2_33, tyX2_ok, nmX2, rfl, Or.inl rfl⟩
set_option maxRecDepth 100000 in
theorem flX11_123 : Cond.fieldLink RX11 123 "KnowsLeast$Land" "guilty" "I" ∈ TB := TB_of (tin_1 (TB_at 107 rfl)) rfl
theorem fX11_123 : GF RX11 123 2 5 := ⟨RX2, TX2, 10, rfl, by decide, uX2, flX11_123⟩
theorem wX11_123 : GFw RX11 123 2 5 := ⟨RX2, TX2, 10, tyX2, rfl, by decide, uX2, flX11_123, tyX2_ok, nmX2, rfl, Or.inl rfl⟩
set_option maxRecDepth 100000 in
theorem flX0_60 : Cond.fieldLink RX0 60 "KnowsLeast$Land" "guilty" "I" ∈ TB := TB_of (tin_1 (TB_at 108 rfl)) rfl
theorem fX0_60 : GF RX0 60 2 5 := ⟨RX2, TX2, 10, rfl, by decide, uX2, flX0_60⟩
theorem wX0_60 : GFw RX0 60 2 5 := ⟨RX2, TX2, 10, tyX2, rfl, by decide, uX2, flX0_60, tyX2_ok, nmX2, rfl, Or.inl rfl⟩
set_option maxRecDepth 100000 in
theorem flX5_126 : Cond.fieldLink RX5 126 "KnowsLeast$Land" "guilty" "I" ∈ TB := TB_of (tin_1 (TB_at 109 rfl)) rfl
theorem fX5_126 : GF RX5 126 2 5 := ⟨RX2, TX2, 10, rfl, by decide, uX2, flX5_126⟩
theorem wX5_126 : GFw RX5 126 2 5 := ⟨RX2, TX2, 10, tyX2, rfl, by decide, uX2, flX5_126, tyX2_ok, nmX2, rfl, Or.inl rfl⟩
set_option maxRecDepth 100000 in
theorem flX2_37 : Cond.fieldLink RX2 37 "KnowsLeast$Land" "worlds" "I" ∈ TB := TB_of (tin_1 (TB_at 110 rfl)) rfl
theorem fX2_37 : GF RX2 37 2 6 := ⟨RX2, TX2, 10, rfl, by decide, uX2, flX2_37⟩
theorem wX2_37 : GFw RX2 37 2 6 := ⟨RX2, TX2, 10, tyX2, rfl, by decide, uX2, flX2_37, tyX2_ok, nmX2, rfl, Or.inl rfl⟩
set_option maxRecDepth 100000 in
theorem flX7_67 : Cond.fieldLink RX7 67 "KnowsLeast$Land" "worlds" "I" ∈ TB := TB_of (tin_1 (TB_at 111 rfl)) rfl
theorem fX7_67 : GF RX7 67 2 6 := ⟨RX2, TX2, 10, rfl, by decide, uX2, flX7_67⟩
theorem wX7_67 : GFw RX7 67 2 6 := ⟨RX2, TX2, 10, tyX2, rfl, by decide, uX2, flX7_67, tyX2_ok, nmX2, rfl, Or.inl rfl⟩
set_option maxRecDepth 100000 in
theorem flX0_33 : Cond.fieldLink RX0 33 "KnowsLeast$Land" "worlds" "I" ∈ TB := TB_of (tin_1 (TB_at 112 rfl)) rfl
theorem fX0_33 : GF RX0 33 2 6 := ⟨RX2, TX2, 10, rfl, by decide, uX2, flX0_33⟩
theorem wX0_33 : GFw RX0 33 2 6 := ⟨RX2, TX2, 10, tyX2, rfl, by decide, uX2, flX0_33, tyX2_ok, nmX2, rfl, Or.inl rfl⟩
set_option maxRecDepth 100000 in
theorem flX5_104 : Cond.fieldLink RX5 104 "KnowsLeast$Land" "worlds" "I" ∈ TB := TB_of (tin_1 (TB_at 113 rfl)) rfl
theorem fX5_104 : GF RX5 104 2 6 := ⟨RX2, TX2, 10, rfl, by decide, uX2, flX5_104⟩
theorem wX5_104 : GFw RX5 104 2 6 := ⟨RX2, TX2, 10, tyX2, rfl, by decide, uX2, flX5_104, tyX2_ok, nmX2, rfl, Or.inl rfl⟩
set_option maxRecDepth 100000 in
theorem flX8_86 : Cond.fieldLink RX8 86 "KnowsLeast$Land" "worlds" "I" ∈ TB := TB_of (tin_1 (TB_at 114 rfl)) rfl
theorem fX8_86 : GF RX8 86 2 6 := ⟨RX2, TX2, 10, rfl, by decide, uX2, flX8_86⟩
theorem wX8_86 : GFw RX8 86 2 6 := ⟨RX2, TX2, 10, tyX2, rfl, by decide, uX2, flX8_86, tyX2_ok, nmX2, rfl, Or.inl rfl⟩
set_option maxRecDepth 100000 in
theorem flX11_165 : Cond.fieldLink RX11 165 "KnowsLeast$Land" "worlds" "I" ∈ TB := TB_of (tin_1 (TB_at 115 rfl)) rfl
theorem fX11_165 : GF RX11 165 2 6 := ⟨RX2, TX2, 10, rfl, by decide, uX2, flX11_165⟩
theorem wX11_165 : GFw RX11 165 2 6 := ⟨RX2, TX2, 10, tyX2, rfl, by decide, uX2, flX11_165, tyX2_ok, nmX2, rfl, Or.inl rfl⟩
set_option maxRecDepth 100000 in
theorem flX3_25 : Cond.fieldLink RX3 25 "KnowsLeast$Land" "facts" "I" ∈ TB := TB_of (tin_1 (TB_at 116 rfl)) rfl
theorem fX3_25 : GF RX3 25 2 7 := ⟨RX2, TX2, 10, rfl, by decide, uX2, flX3_25⟩
theorem wX3_25 : GFw RX3 25 2 7 := ⟨RX2, TX2, 10, tyX2, rfl, by decide, uX2, flX3_25, tyX2_ok, nmX2, rfl, Or.inl rfl⟩
set_option maxRecDepth 100000 in
theorem flX7_27 : Cond.fieldLink RX7 27 "KnowsLeast$Land" "facts" "I" ∈ TB := TB_of (tin_1 (TB_at 117 rfl)) rfl
theorem fX7_27 : GF RX7 27 2 7 := ⟨RX2, TX2, 10, rfl, by decide, uX2, flX7_27⟩
theorem wX7_27 : GFw RX7 27 2 7 := ⟨RX2, TX2, 10, tyX2, rfl, by decide, uX2, flX7_27, tyX2_ok, nmX2, rfl, Or.inl rfl⟩
set_option maxRecDepth 100000 in
theorem flX2_40 : Cond.fieldLink RX2 40 "KnowsLeast$Land" "facts" "I" ∈ TB := TB_of (tin_1 (TB_at 118 rfl)) rfl
theorem fX2_40 : GF RX2 40 2 7 := ⟨RX2, TX2, 10, rfl, by decide, uX2, flX2_40⟩
theorem wX2_40 : GFw RX2 40 2 7 := ⟨RX2, TX2, 10, tyX2, rfl, by decide, uX2, flX2_40, tyX2_ok, nmX2, rfl, Or.inl rfl⟩
set_option maxRecDepth 100000 in
theorem flX10_26 : Cond.fieldLink RX10 26 "KnowsLeast$Land" "facts" "I" ∈ TB := TB_of (tin_1 (TB_at 119 rfl)) rfl
theorem fX10_26 : GF RX10 26 2 7 := ⟨RX2, TX2, 10, rfl, by decide, uX2, flX10_26⟩
theorem wX10_26 : GFw RX10 26 2 7 := ⟨RX2, TX2, 10, tyX2, rfl, by decide, uX2, flX10_26, tyX2_ok, nmX2, rfl, Or.inl rfl⟩
set_option maxRecDepth 100000 in
theorem flX0_25 : Cond.fieldLink RX0 25 "KnowsLeast$Land" "facts" "I" ∈ TB := TB_of (tin_1 (TB_at 120 rfl)) rfl
theorem fX0_25 : GF RX0 25 2 7 := ⟨RX2, TX2, 10, rfl, by decide, uX2, flX0_25⟩
theorem wX0_25 : GFw RX0 25 2 7 := ⟨RX2, TX2, 10, tyX2, rfl, by decide, uX2, flX0_25, tyX2_ok, nmX2, rfl, Or.inl rfl⟩
set_option maxRecDepth 100000 in
theorem flX5_129 : Cond.fieldLink RX5 129 "KnowsLeast$Land" "facts" "I" ∈ TB := TB_of (tin_1 (TB_at 121 rfl)) rfl
theorem fX5_129 : GF RX5 129 2 7 := ⟨RX2, TX2, 10, rfl, by decide, uX2, flX5_129⟩
theorem wX5_129 : GFw RX5 129 2 7 := ⟨RX2, TX2, 10, tyX2, rfl, by decide, uX2, flX5_129, tyX2_ok, nmX2, rfl, Or.inl rfl⟩
set_option maxRecDepth 100000 in
theorem flX8_89 : Cond.fieldLink RX8 89 "KnowsLeast$Land" "facts" "I" ∈ TB := TB_of (tin_1 (TB_at 122 rfl)) rfl
theorem fX8_89 : GF RX8 89 2 7 := ⟨RX2, TX2, 10, rfl, by decide, uX2, flX8_89⟩
theorem wX8_89 : GFw RX8 89 2 7 := ⟨RX2, TX2, 10, tyX2, rfl, by decide, uX2, flX8_89, tyX2_ok, nmX2, rfl, Or.inl rfl⟩
set_option maxRecDepth 100000 in
theorem flX11_168 : Cond.fieldLink RX11 168 "KnowsLeast$Land" "facts" "I" ∈ TB := TB_of (tin_1 (TB_at 123 rfl)) rfl
theorem fX11_168 : GF RX11 168 2 7 := ⟨RX2, TX2, 10, rfl, by decide, uX2, flX11_168⟩
theorem wX11_168 : GFw RX11 168 2 7 := ⟨RX2, TX2, 10, tyX2, rfl, by decide, uX2, flX11_168, tyX2_ok, nmX2, rfl, Or.inl rfl⟩
set_option maxRecDepth 100000 in
theorem flX3_32 : Cond.fieldLink RX3 32 "KnowsLeast$Land" "people" "I" ∈ TB := TB_of (tin_1 (TB_at 124 rfl)) rfl
theorem fX3_32 : GF RX3 32 2 8 := ⟨RX2, TX2, 10, rfl, by decide, uX2, flX3_32⟩
theorem wX3_32 : GFw RX3 32 2 8 := ⟨RX2, TX2, 10, tyX2, rfl, by decide, uX2, flX3_32, tyX2_ok, nmX2, rfl, Or.inl rfl⟩
set_option maxRecDepth 100000 in
theorem flX2_43 : Cond.fieldLink RX2 43 "KnowsLeast$Land" "people" "I" ∈ TB := TB_of (tin_1 (TB_at 125 rfl)) rfl
theorem fX2_43 : GF RX2 43 2 8 := ⟨RX2, TX2, 10, rfl, by decide, uX2, flX2_43⟩
theorem wX2_43 : GFw RX2 43 2 8 := ⟨RX2, TX2, 10, tyX2, rfl, by decide, uX2, flX2_43, tyX2_ok, nmX2, rfl, Or.inl rfl⟩
set_option maxRecDepth 100000 in
theorem flX7_51 : Cond.fieldLink RX7 51 "KnowsLeast$Land" "people" "I" ∈ TB := TB_of (tin_1 (TB_at 126 rfl)) rfl
theorem fX7_51 : GF RX7 51 2 8 := ⟨RX2, TX2, 10, rfl, by decide, uX2, flX7_51⟩
theorem wX7_51 : GFw RX7 51 2 8 := ⟨RX2, TX2, 10, tyX2, rfl, by decide, uX2, flX7_51, tyX2_ok, nmX2, rfl, Or.inl rfl⟩
set_option maxRecDepth 100000 in
theorem flX8_47 : Cond.fieldLink RX8 47 "KnowsLeast$Land" "people" "I" ∈ TB := TB_of (tin_1 (TB_at 127 rfl)) rfl
theorem fX8_47 : GF RX8 47 2 8 := ⟨RX2, TX2, 10, rfl, by decide, uX2, flX8_47⟩
theorem wX8_47 : GFw RX8 47 2 8 := ⟨RX2, TX2, 10, tyX2, rfl, by decide, uX2, flX8_47, tyX2_ok, nmX2, rfl, Or.inl rfl⟩
set_option maxRecDepth 100000 in
theorem flX5_138 : Cond.fieldLink RX5 138 "KnowsLeast$Land" "people" "I" ∈ TB := TB_of (tin_1 (TB_at 128 rfl)) rfl
theorem fX5_138 : GF RX5 138 2 8 := ⟨RX2, TX2, 10, rfl, by decide, uX2, flX5_138⟩
theorem wX5_138 : GFw RX5 138 2 8 := ⟨RX2, TX2, 10, tyX2, rfl, by decide, uX2, flX5_138, tyX2_ok, nmX2, rfl, Or.inl rfl⟩
set_option maxRecDepth 100000 in
theorem flX11_171 : Cond.fieldLink RX11 171 "KnowsLeast$Land" "people" "I" ∈ TB := TB_of (tin_1 (TB_at 129 rfl)) rfl
theorem fX11_171 : GF RX11 171 2 8 := ⟨RX2, TX2, 10, rfl, by decide, uX2, flX11_171⟩
theorem wX11_171 : GFw RX11 171 2 8 := ⟨RX2, TX2, 10, tyX2, rfl, by decide, uX2, flX11_171, tyX2_ok, nmX2, rfl, Or.inl rfl⟩
set_option maxRecDepth 100000 in
theorem flX2_46 : Cond.fieldLink RX2 46 "KnowsLeast$Land" "lines" "I" ∈ TB := TB_of (tin_1 (TB_at 130 rfl)) rfl
theorem fX2_46 : GF RX2 46 2 9 := ⟨RX2, TX2, 10, rfl, by decide, uX2, flX2_46⟩
theorem wX2_46 : GFw RX2 46 2 9 := ⟨RX2, TX2, 10, tyX2, rfl, by decide, uX2, flX2_46, tyX2_ok, nmX2, rfl, Or.inl rfl⟩
set_option maxRecDepth 100000 in
theorem flX11_106 : Cond.fieldLink RX11 106 "KnowsLeast$Land" "lines" "I" ∈ TB := TB_of (tin_1 (TB_at 131 rfl)) rfl
theorem fX11_106 : GF RX11 106 2 9 := ⟨RX2, TX2, 10, rfl, by decide, uX2, flX11_106⟩
theorem wX11_106 : GFw RX11 106 2 9 := ⟨RX2, TX2, 10, tyX2, rfl, by decide, uX2, flX11_106, tyX2_ok, nmX2, rfl, Or.inl rfl⟩
set_option maxRecDepth 100000 in
theorem flX5_117 : Cond.fieldLink RX5 117 "KnowsLeast$Land" "lines" "I" ∈ TB := TB_of (tin_1 (TB_at 132 rfl)) rfl
theorem fX5_117 : GF RX5 117 2 9 := ⟨RX2, TX2, 10, rfl, by decide, uX2, flX5_117⟩
theorem wX5_117 : GFw RX5 117 2 9 := ⟨RX2, TX2, 10, tyX2, rfl, by decide, uX2, flX5_117, tyX2_ok, nmX2, rfl, Or.inl rfl⟩
set_option maxRecDepth 100000 in
theorem lX5_34 : Cond.methodLink RX5 34 yX8_init ∈ TB := TB_of (tin_1 (TB_at 156 rfl)) rfl
set_option maxRecDepth 100000 in
theorem flX8_9 : Cond.fieldLink RX8 9 "KnowsLeast$State" "told" "[I" ∈ TB := TB_of (tin_1 (TB_at 160 rfl)) rfl
theorem fX8_9 : GF RX8 9 8 0 := ⟨RX8, TX8, 4, rfl, by decide, uX8, flX8_9⟩
set_option maxRecDepth 100000 in
theorem flX3_50 : Cond.fieldLink RX3 50 "KnowsLeast$State" "told" "[I" ∈ TB := TB_of (tin_1 (TB_at 161 rfl)) rfl
theorem fX3_50 : GF RX3 50 8 0 := ⟨RX8, TX8, 4, rfl, by decide, uX8, flX3_50⟩
set_option maxRecDepth 100000 in
theorem flX7_54 : Cond.fieldLink RX7 54 "KnowsLeast$State" "told" "[I" ∈ TB := TB_of (tin_1 (TB_at 162 rfl)) rfl
theorem fX7_54 : GF RX7 54 8 0 := ⟨RX8, TX8, 4, rfl, by decide, uX8, flX7_54⟩
set_option maxRecDepth 100000 in
theorem flX4_25 : Cond.fieldLink RX4 25 "KnowsLeast$State" "told" "[I" ∈ TB := TB_of (tin_1 (TB_at 163 rfl)) rfl
theorem fX4_25 : GF RX4 25 8 0 := ⟨RX8, TX8, 4, rfl, by decide, uX8, flX4_25⟩
set_option maxRecDepth 100000 in
theorem flX11_142 : Cond.fieldLink RX11 142 "KnowsLeast$State" "told" "[I" ∈ TB := TB_of (tin_1 (TB_at 164 rfl)) rfl
theorem fX11_142 : GF RX11 142 8 0 := ⟨RX8, TX8, 4, rfl, by decide, uX8, flX11_142⟩
set_option maxRecDepth 100000 in
theorem flX5_141 : Cond.fieldLink RX5 141 "KnowsLeast$State" "told" "[I" ∈ TB := TB_of (tin_1 (TB_at 165 rfl)) rfl
theorem fX5_141 : GF RX5 141 8 0 := ⟨RX8, TX8, 4, rfl, by decide, uX8, flX5_141⟩
set_option maxRecDepth 100000 in
theorem flX8_15 : Cond.fieldLink RX8 15 "KnowsLeast$State" "morning" "[I" ∈ TB := TB_of (tin_1 (TB_at 166 rfl)) rfl
theorem fX8_15 : GF RX8 15 8 1 := ⟨RX8, TX8, 4, rfl, by decide, uX8, flX8_15⟩
set_option maxRecDepth 100000 in
theorem flX8_24 : Cond.fieldLink RX8 24 "KnowsLeast$State" "truth" "I" ∈ TB := TB_of (tin_1 (TB_at 167 rfl)) rfl
theorem fX8_24 : GF RX8 24 8 2 := ⟨RX8, TX8, 4, rfl, by decide, uX8, flX8_24⟩
theorem wX8_24 : GFw RX8 24 8 2 := ⟨RX8, TX8, 4, tyX8, rfl, by decide, uX8, flX8_24, tyX8_ok, nmX8, rfl, Or.inl rfl⟩
set_option maxRecDepth 100000 in
theorem flX7_33 : Cond.fieldLink RX7 33 "KnowsLeast$State" "truth" "I" ∈ TB := TB_of (tin_1 (TB_at 168 rfl)) rfl
theorem fX7_33 : GF RX7 33 8 2 := ⟨RX8, TX8, 4, rfl, by decide, uX8, flX7_33⟩
theorem wX7_33 : GFw RX7 33 8 2 := ⟨RX8, TX8, 4, tyX8, rfl, by decide, uX8, flX7_33, tyX8_ok, nmX8, rfl, Or.inl rfl⟩
set_option maxRecDepth 100000 in
theorem flX3_38 : Cond.fieldLink RX3 38 "KnowsLeast$State" "truth" "I" ∈ TB := TB_of (tin_1 (TB_at 169 rfl)) rfl
theorem fX3_38 : GF RX3 38 8 2 := ⟨RX8, TX8, 4, rfl, by decide, uX8, flX3_38⟩
theorem wX3_38 : GFw RX3 38 8 2 := ⟨RX8, TX8, 4, tyX8, rfl, by decide, uX8, flX3_38, tyX8_ok, nmX8, rfl, Or.inl rfl⟩
set_option maxRecDepth 100000 in
theorem flX4_30 : Cond.fieldLink RX4 30 "KnowsLeast$State" "truth" "I" ∈ TB := TB_of (tin_1 (TB_at 170 rfl)) rfl
theorem fX4_30 : GF RX4 30 8 2 := ⟨RX8, TX8, 4, rfl, by decide, uX8, flX4_30⟩
theorem wX4_30 : GFw RX4 30 8 2 := ⟨RX8, TX8, 4, tyX8, rfl, by decide, uX8, flX4_30, tyX8_ok, nmX8, rfl, Or.inl rfl⟩
set_option maxRecDepth 100000 in
theorem flX5_111 : Cond.fieldLink RX5 111 "KnowsLeast$State" "truth" "I" ∈ TB := TB_of (tin_1 (TB_at 171 rfl)) rfl
theorem fX5_111 : GF RX5 111 8 2 := ⟨RX8, TX8, 4, rfl, by decide, uX8, flX5_111⟩
theorem wX5_111 : GFw RX5 111 8 2 := ⟨RX8, TX8, 4, tyX8, rfl, by decide, uX8, flX5_111, tyX8_ok, nmX8, rfl, Or.inl rfl⟩
set_option maxRecDepth 100000 in
theorem flX11_174 : Cond.fieldLink RX11 174 "KnowsLeast$State" "truth" "I" ∈ TB := TB_of (tin_1 (TB_at 172 rfl)) rfl
theorem fX11_174 : GF RX11 174 8 2 := ⟨RX8, TX8, 4, rfl, by decide, uX8, flX11_174⟩
theorem wX11_174 : GFw RX11 174 8 2 := ⟨RX8, TX8, 4, tyX8, rfl, by decide, uX8, flX11_174, tyX8_ok, nmX8, rfl, Or.inl rfl⟩
set_option maxRecDepth 100000 in
theorem flX8_79 : Cond.fieldLink RX8 79 "KnowsLeast$State" "drawn" "I" ∈ TB := TB_of (tin_1 (TB_at 173 rfl)) rfl
theorem fX8_79 : GF RX8 79 8 3 := ⟨RX8, TX8, 4, rfl, by decide, uX8, flX8_79⟩
theorem wX8_79 : GFw RX8 79 8 3 := ⟨RX8, TX8, 4, tyX8, rfl, by decide, uX8, flX8_79, tyX8_ok, nmX8, rfl, Or.inl rfl⟩
set_option maxRecDepth 100000 in
theorem flX5_12 : Cond.fieldLink RX5 12 "KnowsLeast$Reader" "tokens" "LKnowsLeast$Tokens;" ∈ TB := TB_of (tin_1 (TB_at 183 rfl)) rfl
theorem fX5_12 : GF RX5 12 5 0 := ⟨RX5, TX5, 7, rfl, by decide, uX5, flX5_12⟩
set_option maxRecDepth 100000 in
theorem flX5_21 : Cond.fieldLink RX5 21 "KnowsLeast$Reader" "formulas" "LKnowsLeast$Formulas;" ∈ TB := TB_of (tin_1 (TB_at 184 rfl)) rfl
theorem fX5_21 : GF RX5 21 5 1 := ⟨RX5, TX5, 7, rfl, by decide, uX5, flX5_21⟩
set_option maxRecDepth 100000 in
theorem flX5_28 : Cond.fieldLink RX5 28 "KnowsLeast$Reader" "land" "LKnowsLeast$Land;" ∈ TB := TB_of (tin_1 (TB_at 185 rfl)) rfl
theorem fX5_28 : GF RX5 28 5 2 := ⟨RX5, TX5, 7, rfl, by decide, uX5, flX5_28⟩
set_option maxRecDepth 100000 in
theorem flX11_94 : Cond.fieldLink RX11 94 "KnowsLeast$Reader" "land" "LKnowsLeast$Land;" ∈ TB := TB_of (tin_1 (TB_at 186 rfl)) rfl
theorem fX11_94 : GF RX11 94 5 2 := ⟨RX5, TX5, 7, rfl, by decide, uX5, flX11_94⟩
set_option maxRecDepth 100000 in
theorem flX5_35 : Cond.fieldLink RX5 35 "KnowsLeast$Reader" "state" "LKnowsLeast$State;" ∈ TB := TB_of (tin_1 (TB_at 187 rfl)) rfl
theorem fX5_35 : GF RX5 35 5 3 := ⟨RX5, TX5, 7, rfl, by decide, uX5, flX5_35⟩
set_option maxRecDepth 100000 in
theorem flX11_99 : Cond.fieldLink RX11 99 "KnowsLeast$Reader" "state" "LKnowsLeast$State;" ∈ TB := TB_of (tin_1 (TB_at 188 rfl)) rfl
theorem fX11_99 : GF RX11 99 5 3 := ⟨RX5, TX5, 7, rfl, by decide, uX5, flX11_99⟩
set_option maxRecDepth 100000 in
theorem flX5_52 : Cond.fieldLink RX5 52 "KnowsLeast$Reader" "fault" "I" ∈ TB := TB_of (tin_1 (TB_at 189 rfl)) rfl
theorem fX5_52 : GF RX5 52 5 4 := ⟨RX5, TX5, 7, rfl, by decide, uX5, flX5_52⟩
theorem wX5_52 : GFw RX5 52 5 4 := ⟨RX5, TX5, 7, tyX5, rfl, by decide, uX5, flX5_52, tyX5_ok, nmX5, rfl, Or.inl rfl⟩
set_option maxRecDepth 100000 in
theorem flX11_91 : Cond.fieldLink RX11 91 "KnowsLeast$Reader" "fault" "I" ∈ TB := TB_of (tin_1 (TB_at 190 rfl)) rfl
theorem fX11_91 : GF RX11 91 5 4 := ⟨RX5, TX5, 7, rfl, by decide, uX5, flX11_91⟩
theorem wX11_91 : GFw RX11 91 5 4 := ⟨RX5, TX5, 7, tyX5, rfl, by decide, uX5, flX11_91, tyX5_ok, nmX5, rfl, Or.inl rfl⟩
set_option maxRecDepth 100000 in
theorem flX5_39 : Cond.fieldLink RX5 39 "KnowsLeast$Reader" "place" "I" ∈ TB := TB_of (tin_1 (TB_at 191 rfl)) rfl
theorem fX5_39 : GF RX5 39 5 5 := ⟨RX5, TX5, 7, rfl, by decide, uX5, flX5_39⟩
theorem wX5_39 : GFw RX5 39 5 5 := ⟨RX5, TX5, 7, tyX5, rfl, by decide, uX5, flX5_39, tyX5_ok, nmX5, rfl, Or.inl rfl⟩
set_option maxRecDepth 100000 in
theorem flX11_109 : Cond.fieldLink RX11 109 "KnowsLeast$Reader" "place" "I" ∈ TB := TB_of (tin_1 (TB_at 192 rfl)) rfl
theorem fX11_109 : GF RX11 109 5 5 := ⟨RX5, TX5, 7, rfl, by decide, uX5, flX11_109⟩
theorem wX11_109 : GFw RX11 109 5 5 := ⟨RX5, TX5, 7, tyX5, rfl, by decide, uX5, flX11_109, tyX5_ok, nmX5, rfl, Or.inl rfl⟩
set_option maxRecDepth 100000 in
theorem flX5_55 : Cond.fieldLink RX5 55 "KnowsLeast$Reader" "at" "I" ∈ TB := TB_of (tin_1 (TB_at 193 rfl)) rfl
theorem fX5_55 : GF RX5 55 5 6 := ⟨RX5, TX5, 7, rfl, by decide, uX5, flX5_55⟩
theorem wX5_55 : GFw RX5 55 5 6 := ⟨RX5, TX5, 7, tyX5, rfl, by decide, uX5, flX5_55, tyX5_ok, nmX5, rfl, Or.inl rfl⟩
set_option maxRecDepth 100000 in
theorem lX11_22 : Cond.methodLink RX11 22 yX2_init ∈ TB := TB_of (tin_1 (TB_at 210 rfl)) rfl
set_option maxRecDepth 100000 in
theorem lX11_29 : Cond.methodLink RX11 29 yX8_init ∈ TB := TB_of (tin_1 (TB_at 212 rfl)) rfl
set_option maxRecDepth 100000 in
theorem lX11_39 : Cond.methodLink RX11 39 yX4_init ∈ TB := TB_of (tin_1 (TB_at 215 rfl)) rfl
set_option maxRecDepth 100000 in
theorem flX4_11 : Cond.fieldLink RX4 11 "KnowsLeast$Past" "kept" "[I" ∈ TB := TB_of (tin_1 (TB_at 219 rfl)) rfl
theorem fX4_11 : GF RX4 11 4 0 := ⟨RX4, TX4, 2, rfl, by decide, uX4, flX4_11⟩
set_option maxRecDepth 100000 in
theorem flX4_15 : Cond.fieldLink RX4 15 "KnowsLeast$Past" "size" "I" ∈ TB := TB_of (tin_1 (TB_at 220 rfl)) rfl
theorem fX4_15 : GF RX4 15 4 1 := ⟨RX4, TX4, 2, rfl, by decide, uX4, flX4_15⟩
theorem wX4_15 : GFw RX4 15 4 1 := ⟨RX4, TX4, 2, tyX4, rfl, by decide, uX4, flX4_15, tyX4_ok, nmX4, rfl, Or.inl rfl⟩
set_option maxRecDepth 100000 in
theorem flX11_193 : Cond.fieldLink RX11 193 "KnowsLeast$Past" "size" "I" ∈ TB := TB_of (tin_1 (TB_at 221 rfl)) rfl
theorem fX11_193 : GF RX11 193 4 1 := ⟨RX4, TX4, 2, rfl, by decide, uX4, flX11_193⟩
theorem wX11_193 : GFw RX11 193 4 1 := ⟨RX4, TX4, 2, tyX4, rfl, by decide, uX4, flX11_193, tyX4_ok, nmX4, rfl, Or.inl rfl⟩
set_option maxRecDepth 100000 in
theorem lX11_46 : Cond.methodLink RX11 46 yX7_init ∈ TB := TB_of (tin_1 (TB_at 229 rfl)) rfl
set_option maxRecDepth 100000 in
theorem flX7_9 : Cond.fieldLink RX7 9 "KnowsLeast$Showing" "holds" "[I" ∈ TB := TB_of (tin_1 (TB_at 233 rfl)) rfl
theorem fX7_9 : GF RX7 9 7 0 := ⟨RX7, TX7, 6, rfl, by decide, uX7, flX7_9⟩
set_option maxRecDepth 100000 in
theorem flX7_15 : Cond.fieldLink RX7 15 "KnowsLeast$Showing" "known" "[I" ∈ TB := TB_of (tin_1 (TB_at 234 rfl)) rfl
theorem fX7_15 : GF RX7 15 7 1 := ⟨RX7, TX7, 6, rfl, by decide, uX7, flX7_15⟩
set_option maxRecDepth 100000 in
theorem flX7_18 : Cond.fieldLink RX7 18 "KnowsLeast$Showing" "extreme" "[I" ∈ TB := TB_of (tin_1 (TB_at 235 rfl)) rfl
theorem fX7_18 : GF RX7 18 7 2 := ⟨RX7, TX7, 6, rfl, by decide, uX7, flX7_18⟩
set_option maxRecDepth 100000 in
theorem flX7_21 : Cond.fieldLink RX7 21 "KnowsLeast$Showing" "best" "[I" ∈ TB := TB_of (tin_1 (TB_at 236 rfl)) rfl
theorem fX7_21 : GF RX7 21 7 3 := ⟨RX7, TX7, 6, rfl, by decide, uX7, flX7_21⟩
set_option maxRecDepth 100000 in
theorem flX7_24 : Cond.fieldLink RX7 24 "KnowsLeast$Showing" "asked" "[I" ∈ TB := TB_of (tin_1 (TB_at 237 rfl)) rfl
theorem fX7_24 : GF RX7 24 7 4 := ⟨RX7, TX7, 6, rfl, by decide, uX7, flX7_24⟩
set_option maxRecDepth 100000 in
theorem flX11_258 : Cond.fieldLink RX11 258 "KnowsLeast$Showing" "asked" "[I" ∈ TB := TB_of (tin_1 (TB_at 238 rfl)) rfl
theorem fX11_258 : GF RX11 258 7 4 := ⟨RX7, TX7, 6, rfl, by decide, uX7, flX11_258⟩
set_option maxRecDepth 100000 in
theorem flX7_64 : Cond.fieldLink RX7 64 "KnowsLeast$Showing" "total" "I" ∈ TB := TB_of (tin_1 (TB_at 239 rfl)) rfl
theorem fX7_64 : GF RX7 64 7 5 := ⟨RX7, TX7, 6, rfl, by decide, uX7, flX7_64⟩
theorem wX7_64 : GFw RX7 64 7 5 := ⟨RX7, TX7, 6, tyX7, rfl, by decide, uX7, flX7_64, tyX7_ok, nmX7, rfl, Or.inl rfl⟩
set_option maxRecDepth 100000 in
theorem flX11_255 : Cond.fieldLink RX11 255 "KnowsLeast$Showing" "total" "I" ∈ TB := TB_of (tin_2 (TB_at 0 rfl)) rfl
theorem fX11_255 : GF RX11 255 7 5 := ⟨RX7, TX7, 6, rfl, by decide, uX7, flX11_255⟩
theorem wX11_255 : GFw RX11 255 7 5 := ⟨RX7, TX7, 6, tyX7, rfl, by decide, uX7, flX11_255, tyX7_ok, nmX7, rfl, Or.inl rfl⟩
set_option maxRecDepth 100000 in
theorem lX11_53 : Cond.methodLink RX11 53 yX3_init ∈ TB := TB_of (tin_2 (TB_at 16 rfl)) rfl
set_option maxRecDepth 100000 in
theorem flX3_9 : Cond.fieldLink RX3 9 "KnowsLeast$Parties" "amounts" "[I" ∈ TB := TB_of (tin_2 (TB_at 20 rfl)) rfl
theorem fX3_9 : GF RX3 9 3 0 := ⟨RX3, TX3, 9, rfl, by decide, uX3, flX3_9⟩
set_option maxRecDepth 100000 in
theorem flX3_15 : Cond.fieldLink RX3 15 "KnowsLeast$Parties" "judges" "[I" ∈ TB := TB_of (tin_2 (TB_at 21 rfl)) rfl
theorem fX3_15 : GF RX3 15 3 1 := ⟨RX3, TX3, 9, rfl, by decide, uX3, flX3_15⟩
set_option maxRecDepth 100000 in
theorem flX3_18 : Cond.fieldLink RX3 18 "KnowsLeast$Parties" "told" "[I" ∈ TB := TB_of (tin_2 (TB_at 22 rfl)) rfl
theorem fX3_18 : GF RX3 18 3 2 := ⟨RX3, TX3, 9, rfl, by decide, uX3, flX3_18⟩
set_option maxRecDepth 100000 in
theorem flX3_21 : Cond.fieldLink RX3 21 "KnowsLeast$Parties" "canFirst" "[Z" ∈ TB := TB_of (tin_2 (TB_at 23 rfl)) rfl
theorem fX3_21 : GF RX3 21 3 3 := ⟨RX3, TX3, 9, rfl, by decide, uX3, flX3_21⟩
set_option maxRecDepth 100000 in
theorem flX3_35 : Cond.fieldLink RX3 35 "KnowsLeast$Parties" "choices" "I" ∈ TB := TB_of (tin_2 (TB_at 24 rfl)) rfl
theorem fX3_35 : GF RX3 35 3 4 := ⟨RX3, TX3, 9, rfl, by decide, uX3, flX3_35⟩
theorem wX3_35 : GFw RX3 35 3 4 := ⟨RX3, TX3, 9, tyX3, rfl, by decide, uX3, flX3_35, tyX3_ok, nmX3, rfl, Or.inl rfl⟩
set_option maxRecDepth 100000 in
theorem flX3_31 : Cond.fieldLink RX3 31 "KnowsLeast$Parties" "facts" "I" ∈ TB := TB_of (tin_2 (TB_at 25 rfl)) rfl
theorem fX3_31 : GF RX3 31 3 5 := ⟨RX3, TX3, 9, rfl, by decide, uX3, flX3_31⟩
theorem wX3_31 : GFw RX3 31 3 5 := ⟨RX3, TX3, 9, tyX3, rfl, by decide, uX3, flX3_31, tyX3_ok, nmX3, rfl, Or.inl rfl⟩
set_option maxRecDepth 100000 in
theorem flX3_72 : Cond.fieldLink RX3 72 "KnowsLeast$Parties" "first" "I" ∈ TB := TB_of (tin_2 (TB_at 26 rfl)) rfl
theorem fX3_72 : GF RX3 72 3 6 := ⟨RX3, TX3, 9, rfl, by decide, uX3, flX3_72⟩
theorem wX3_72 : GFw RX3 72 3 6 := ⟨RX3, TX3, 9, tyX3, rfl, by decide, uX3, flX3_72, tyX3_ok, nmX3, rfl, Or.inl rfl⟩
set_option maxRecDepth 100000 in
theorem flX11_273 : Cond.fieldLink RX11 273 "KnowsLeast$Parties" "first" "I" ∈ TB := TB_of (tin_2 (TB_at 27 rfl)) rfl
theorem fX11_273 : GF RX11 273 3 6 := ⟨RX3, TX3, 9, rfl, by decide, uX3, flX11_273⟩
theorem wX11_273 : GFw RX11 273 3 6 := ⟨RX3, TX3, 9, tyX3, rfl, by decide, uX3, flX11_273, tyX3_ok, nmX3, rfl, Or.inl rfl⟩
set_option maxRecDepth 100000 in
theorem flX3_75 : Cond.fieldLink RX3 75 "KnowsLeast$Parties" "second" "I" ∈ TB := TB_of (tin_2 (TB_at 28 rfl)) rfl
theorem fX3_75 : GF RX3 75 3 7 := ⟨RX3, TX3, 9, rfl, by decide, uX3, flX3_75⟩
theorem wX3_75 : GFw RX3 75 3 7 := ⟨RX3, TX3, 9, tyX3, rfl, by decide, uX3, flX3_75, tyX3_ok, nmX3, rfl, Or.inl rfl⟩
set_option maxRecDepth 100000 in
theorem flX11_276 : Cond.fieldLink RX11 276 "KnowsLeast$Parties" "second" "I" ∈ TB := TB_of (tin_2 (TB_at 29 rfl)) rfl
theorem fX11_276 : GF RX11 276 3 7 := ⟨RX3, TX3, 9, rfl, by decide, uX3, flX11_276⟩
theorem wX11_276 : GFw RX11 276 3 7 := ⟨RX3, TX3, 9, tyX3, rfl, by decide, uX3, flX11_276, tyX3_ok, nmX3, rfl, Or.inl rfl⟩
set_option maxRecDepth 100000 in
theorem flX3_78 : Cond.fieldLink RX3 78 "KnowsLeast$Parties" "judge" "I" ∈ TB := TB_of (tin_2 (TB_at 30 rfl)) rfl
theorem fX3_78 : GF RX3 78 3 8 := ⟨RX3, TX3, 9, rfl, by decide, uX3, flX3_78⟩
theorem wX3_78 : GFw RX3 78 3 8 := ⟨RX3, TX3, 9, tyX3, rfl, by decide, uX3, flX3_78, tyX3_ok, nmX3, rfl, Or.inl rfl⟩
set_option maxRecDepth 100000 in
theorem flX11_270 : Cond.fieldLink RX11 270 "KnowsLeast$Parties" "judge" "I" ∈ TB := TB_of (tin_2 (TB_at 31 rfl)) rfl
theorem fX11_270 : GF RX11 270 3 8 := ⟨RX3, TX3, 9, rfl, by decide, uX3, flX11_270⟩
theorem wX11_270 : GFw RX11 270 3 8 := ⟨RX3, TX3, 9, tyX3, rfl, by decide, uX3, flX11_270, tyX3_ok, nmX3, rfl, Or.inl rfl⟩
set_option maxRecDepth 100000 in
theorem lX11_60 : Cond.methodLink RX11 60 yX10_init ∈ TB := TB_of (tin_2 (TB_at 54 rfl)) rfl
set_option maxRecDepth 100000 in
theorem flX10_9 : Cond.fieldLink RX10 9 "KnowsLeast$Trial" "THREES" "[I" ∈ TB := TB_of (tin_2 (TB_at 58 rfl)) rfl
set_option maxRecDepth 100000 in
theorem flX10_15 : Cond.fieldLink RX10 15 "KnowsLeast$Trial" "found" "[I" ∈ TB := TB_of (tin_2 (TB_at 60 rfl)) rfl
theorem fX10_15 : GF RX10 15 10 0 := ⟨RX10, TX10, 2, rfl, by decide, uX10, flX10_15⟩
set_option maxRecDepth 100000 in
theorem flX10_18 : Cond.fieldLink RX10 18 "KnowsLeast$Trial" "trials" "I" ∈ TB := TB_of (tin_2 (TB_at 61 rfl)) rfl
theorem fX10_18 : GF RX10 18 10 1 := ⟨RX10, TX10, 2, rfl, by decide, uX10, flX10_18⟩
theorem wX10_18 : GFw RX10 18 10 1 := ⟨RX10, TX10, 2, tyX10, rfl, by decide, uX10, flX10_18, tyX10_ok, nmX10, rfl, Or.inl rfl⟩
set_option maxRecDepth 100000 in
theorem lX11_77 : Cond.methodLink RX11 77 yX6_init ∈ TB := TB_of (tin_2 (TB_at 72 rfl)) rfl
set_option maxRecDepth 100000 in
theorem flX6_9 : Cond.fieldLink RX6 9 "KnowsLeast$Row" "numbers" "[J" ∈ TB := TB_of (tin_2 (TB_at 76 rfl)) rfl
theorem fX6_9 : GF RX6 9 6 0 := ⟨RX6, TX6, 3, rfl, by decide, uX6, flX6_9⟩
set_option maxRecDepth 100000 in
theorem flX8_62 : Cond.fieldLink RX8 62 "KnowsLeast$Row" "numbers" "[J" ∈ TB := TB_of (tin_2 (TB_at 77 rfl)) rfl
theorem fX8_62 : GF RX8 62 6 0 := ⟨RX6, TX6, 3, rfl, by decide, uX6, flX8_62⟩
set_option maxRecDepth 100000 in
theorem flX2_103 : Cond.fieldLink RX2 103 "KnowsLeast$Row" "numbers" "[J" ∈ TB := TB_of (tin_2 (TB_at 78 rfl)) rfl
theorem fX2_103 : GF RX2 103 6 0 := ⟨RX6, TX6, 3, rfl, by decide, uX6, flX2_103⟩
set_option maxRecDepth 100000 in
theorem flX11_309 : Cond.fieldLink RX11 309 "KnowsLeast$Row" "numbers" "[J" ∈ TB := TB_of (tin_2 (TB_at 79 rfl)) rfl
theorem fX11_309 : GF RX11 309 6 0 := ⟨RX6, TX6, 3, rfl, by decide, uX6, flX11_309⟩
set_option maxRecDepth 100000 in
theorem flX6_15 : Cond.fieldLink RX6 15 "KnowsLeast$Row" "length" "I" ∈ TB := TB_of (tin_2 (TB_at 80 rfl)) rfl
theorem fX6_15 : GF RX6 15 6 1 := ⟨RX6, TX6, 3, rfl, by decide, uX6, flX6_15⟩
theorem wX6_15 : GFw RX6 15 6 1 := ⟨RX6, TX6, 3, tyX6, rfl, by decide, uX6, flX6_15, tyX6_ok, nmX6, rfl, Or.inl rfl⟩
set_option maxRecDepth 100000 in
theorem flX8_57 : Cond.fieldLink RX8 57 "KnowsLeast$Row" "length" "I" ∈ TB := TB_of (tin_2 (TB_at 81 rfl)) rfl
theorem fX8_57 : GF RX8 57 6 1 := ⟨RX6, TX6, 3, rfl, by decide, uX6, flX8_57⟩
theorem wX8_57 : GFw RX8 57 6 1 := ⟨RX6, TX6, 3, tyX6, rfl, by decide, uX6, flX8_57, tyX6_ok, nmX6, rfl, Or.inl rfl⟩
set_option maxRecDepth 100000 in
theorem flX2_98 : Cond.fieldLink RX2 98 "KnowsLeast$Row" "length" "I" ∈ TB := TB_of (tin_2 (TB_at 82 rfl)) rfl
theorem fX2_98 : GF RX2 98 6 1 := ⟨RX6, TX6, 3, rfl, by decide, uX6, flX2_98⟩
theorem wX2_98 : GFw RX2 98 6 1 := ⟨RX6, TX6, 3, tyX6, rfl, by decide, uX6, flX2_98, tyX6_ok, nmX6, rfl, Or.inl rfl⟩
set_option maxRecDepth 100000 in
theorem flX11_211 : Cond.fieldLink RX11 211 "KnowsLeast$Row" "length" "I" ∈ TB := TB_of (tin_2 (TB_at 83 rfl)) rfl
theorem fX11_211 : GF RX11 211 6 1 := ⟨RX6, TX6, 3, rfl, by decide, uX6, flX11_211⟩
theorem wX11_211 : GFw RX11 211 6 1 := ⟨RX6, TX6, 3, tyX6, rfl, by decide, uX6, flX11_211, tyX6_ok, nmX6, rfl, Or.inl rfl⟩
set_option maxRecDepth 100000 in
theorem flX6_25 : Cond.fieldLink RX6 25 "KnowsLeast$Row" "sort" "I" ∈ TB := TB_of (tin_2 (TB_at 84 rfl)) rfl
theorem fX6_25 : GF RX6 25 6 2 := ⟨RX6, TX6, 3, rfl, by decide, uX6, flX6_25⟩
theorem wX6_25 : GFw RX6 25 6 2 := ⟨RX6, TX6, 3, tyX6, rfl, by decide, uX6, flX6_25, tyX6_ok, nmX6, rfl, Or.inl rfl⟩
set_option maxRecDepth 100000 in
theorem lX11_78 : Cond.methodLink RX11 78 yX1_init ∈ TB := TB_of (tin_2 (TB_at 94 rfl)) rfl
set_option maxRecDepth 100000 in
theorem lX1_9 : Cond.methodLink RX1 9 yX2_init ∈ TB := TB_of (tin_2 (TB_at 99 rfl)) rfl
set_option maxRecDepth 100000 in
theorem lX1_18 : Cond.methodLink RX1 18 yX8_init ∈ TB := TB_of (tin_2 (TB_at 101 rfl)) rfl
set_option maxRecDepth 100000 in
theorem flX1_10 : Cond.fieldLink RX1 10 "KnowsLeast$Image" "land" "LKnowsLeast$Land;" ∈ TB := TB_of (tin_2 (TB_at 102 rfl)) rfl
theorem fX1_10 : GF RX1 10 1 0 := ⟨RX1, TX1, 3, rfl, by decide, uX1, flX1_10⟩
set_option maxRecDepth 100000 in
theorem flX11_337 : Cond.fieldLink RX11 337 "KnowsLeast$Image" "land" "LKnowsLeast$Land;" ∈ TB := TB_of (tin_2 (TB_at 103 rfl)) rfl
theorem fX11_337 : GF RX11 337 1 0 := ⟨RX1, TX1, 3, rfl, by decide, uX1, flX11_337⟩
set_option maxRecDepth 100000 in
theorem flX1_19 : Cond.fieldLink RX1 19 "KnowsLeast$Image" "state" "LKnowsLeast$State;" ∈ TB := TB_of (tin_2 (TB_at 104 rfl)) rfl
theorem fX1_19 : GF RX1 19 1 1 := ⟨RX1, TX1, 3, rfl, by decide, uX1, flX1_19⟩
set_option maxRecDepth 100000 in
theorem flX11_338 : Cond.fieldLink RX11 338 "KnowsLeast$Image" "state" "LKnowsLeast$State;" ∈ TB := TB_of (tin_2 (TB_at 105 rfl)) rfl
theorem fX11_338 : GF RX11 338 1 1 := ⟨RX1, TX1, 3, rfl, by decide, uX1, flX11_338⟩
set_option maxRecDepth 100000 in
theorem flX11_339 : Cond.fieldLink RX11 339 "KnowsLeast$Image" "made" "Z" ∈ TB := TB_of (tin_2 (TB_at 106 rfl)) rfl
theorem fX11_339 : GF RX11 339 1 2 := ⟨RX1, TX1, 3, rfl, by decide, uX1, flX11_339⟩
theorem wX11_339 : GFw RX11 339 1 2 := ⟨RX1, TX1, 3, tyX1, rfl, by decide, uX1, flX11_339, tyX1_ok, nmX1, rfl, Or.inr rfl⟩
set_option maxRecDepth 100000 in
theorem flX11_9 : Cond.fieldLink RX11 9 "KnowsLeast" "tape" "[B" ∈ TB := TB_of (tin_2 (TB_at 114 rfl)) rfl
theorem fX11_9 : GF RX11 9 11 0 := ⟨RX11, TX11, 12, rfl, by decide, uX11, flX11_9⟩
set_option maxRecDepth 100000 in
theorem flX11_16 : Cond.fieldLink RX11 16 "KnowsLeast" "reader" "LKnowsLeast$Reader;" ∈ TB := TB_of (tin_2 (TB_at 115 rfl)) rfl
theorem fX11_16 : GF RX11 16 11 1 := ⟨RX11, TX11, 12, rfl, by decide, uX11, flX11_16⟩
set_option maxRecDepth 100000 in
theorem flX11_23 : Cond.fieldLink RX11 23 "KnowsLeast" "land" "LKnowsLeast$Land;" ∈ TB := TB_of (tin_2 (TB_at 116 rfl)) rfl
theorem fX11_23 : GF RX11 23 11 2 := ⟨RX11, TX11, 12, rfl, by decide, uX11, flX11_23⟩
set_option maxRecDepth 100000 in
theorem flX11_30 : Cond.fieldLink RX11 30 "KnowsLeast" "state" "LKnowsLeast$State;" ∈ TB := TB_of (tin_2 (TB_at 117 rfl)) rfl
theorem fX11_30 : GF RX11 30 11 3 := ⟨RX11, TX11, 12, rfl, by decide, uX11, flX11_30⟩
set_option maxRecDepth 100000 in
theorem flX11_34 : Cond.fieldLink RX11 34 "KnowsLeast" "spare" "LKnowsLeast$State;" ∈ TB := TB_of (tin_2 (TB_at 118 rfl)) rfl
theorem fX11_34 : GF RX11 34 11 4 := ⟨RX11, TX11, 12, rfl, by decide, uX11, flX11_34⟩
set_option maxRecDepth 100000 in
theorem flX11_40 : Cond.fieldLink RX11 40 "KnowsLeast" "past" "LKnowsLeast$Past;" ∈ TB := TB_of (tin_2 (TB_at 119 rfl)) rfl
theorem fX11_40 : GF RX11 40 11 5 := ⟨RX11, TX11, 12, rfl, by decide, uX11, flX11_40⟩
set_option maxRecDepth 100000 in
theorem flX11_47 : Cond.fieldLink RX11 47 "KnowsLeast" "showing" "LKnowsLeast$Showing;" ∈ TB := TB_of (tin_2 (TB_at 120 rfl)) rfl
theorem fX11_47 : GF RX11 47 11 6 := ⟨RX11, TX11, 12, rfl, by decide, uX11, flX11_47⟩
set_option maxRecDepth 100000 in
theorem flX11_54 : Cond.fieldLink RX11 54 "KnowsLeast" "sides" "LKnowsLeast$Parties;" ∈ TB := TB_of (tin_2 (TB_at 121 rfl)) rfl
theorem fX11_54 : GF RX11 54 11 7 := ⟨RX11, TX11, 12, rfl, by decide, uX11, flX11_54⟩
set_option maxRecDepth 100000 in
theorem flX11_61 : Cond.fieldLink RX11 61 "KnowsLeast" "court" "LKnowsLeast$Trial;" ∈ TB := TB_of (tin_2 (TB_at 122 rfl)) rfl
theorem fX11_61 : GF RX11 61 11 8 := ⟨RX11, TX11, 12, rfl, by decide, uX11, flX11_61⟩
set_option maxRecDepth 100000 in
theorem flX11_67 : Cond.fieldLink RX11 67 "KnowsLeast" "rows" "[LKnowsLeast$Row;" ∈ TB := TB_of (tin_2 (TB_at 123 rfl)) rfl
theorem fX11_67 : GF RX11 67 11 9 := ⟨RX11, TX11, 12, rfl, by decide, uX11, flX11_67⟩
set_option maxRecDepth 100000 in
theorem flX11_73 : Cond.fieldLink RX11 73 "KnowsLeast" "images" "[LKnowsLeast$Image;" ∈ TB := TB_of (tin_2 (TB_at 124 rfl)) rfl
theorem fX11_73 : GF RX11 73 11 10 := ⟨RX11, TX11, 12, rfl, by decide, uX11, flX11_73⟩
set_option maxRecDepth 100000 in
theorem flX11_79 : Cond.fieldLink RX11 79 "KnowsLeast" "taped" "I" ∈ TB := TB_of (tin_2 (TB_at 125 rfl)) rfl
theorem fX11_79 : GF RX11 79 11 11 := ⟨RX11, TX11, 12, rfl, by decide, uX11, flX11_79⟩
theorem wX11_79 : GFw RX11 79 11 11 := ⟨RX11, TX11, 12, tyX11, rfl, by decide, uX11, flX11_79, tyX11_ok, nmX11, rfl, Or.inl rfl⟩
set_option maxRecDepth 100000 in
theorem lL_13 : Cond.methodLink RL 13 yX11_feed ∈ TB := TB_of (tin_2 (TB_at 151 rfl)) rfl
set_option maxRecDepth 100000 in
theorem lX11_83 : Cond.methodLink RX11 83 yX11_putOnTape ∈ TB := TB_of (tin_2 (TB_at 155 rfl)) rfl
set_option maxRecDepth 100000 in
theorem lL_18 : Cond.methodLink RL 18 yX11_land ∈ TB := TB_of (tin_2 (TB_at 159 rfl)) rfl
set_option maxRecDepth 100000 in
theorem lX11_87 : Cond.methodLink RX11 87 yX5_read ∈ TB := TB_of (tin_2 (TB_at 163 rfl)) rfl
set_option maxRecDepth 100000 in
theorem lX5_43 : Cond.methodLink RX5 43 yX2_clear ∈ TB := TB_of (tin_2 (TB_at 167 rfl)) rfl
set_option maxRecDepth 100000 in
theorem lX2_27 : Cond.methodLink RX2 27 yJ7_fill_53178 ∈ TB := TB_of (tin_2 (TB_at 171 rfl)) rfl
set_option maxRecDepth 100000 in
theorem lX5_46 : Cond.methodLink RX5 46 yX8_clear ∈ TB := TB_of (tin_2 (TB_at 174 rfl)) rfl
set_option maxRecDepth 100000 in
theorem lX8_18 : Cond.methodLink RX8 18 yJ7_fill_53178 ∈ TB := TB_of (tin_2 (TB_at 178 rfl)) rfl
set_option maxRecDepth 100000 in
theorem lX5_47 : Cond.methodLink RX5 47 yX0_clear ∈ TB := TB_of (tin_2 (TB_at 179 rfl)) rfl
set_option maxRecDepth 100000 in
theorem lX5_48 : Cond.methodLink RX5 48 yX9_cut ∈ TB := TB_of (tin_2 (TB_at 183 rfl)) rfl
set_option maxRecDepth 100000 in
theorem lX9_25 : Cond.methodLink RX9 25 yX9_endOf ∈ TB := TB_of (tin_2 (TB_at 187 rfl)) rfl
set_option maxRecDepth 100000 in
theorem lX9_35 : Cond.methodLink RX9 35 yX9_isLetter ∈ TB := TB_of (tin_2 (TB_at 190 rfl)) rfl
set_option maxRecDepth 100000 in
theorem lX9_39 : Cond.methodLink RX9 39 yX9_isDigit ∈ TB := TB_of (tin_2 (TB_at 193 rfl)) rfl
set_option maxRecDepth 100000 in
theorem lX9_29 : Cond.methodLink RX9 29 yX9_kindOf ∈ TB := TB_of (tin_2 (TB_at 196 rfl)) rfl
set_option maxRecDepth 100000 in
theorem lX9_42 : Cond.methodLink RX9 42 yX9_wordKind ∈ TB := TB_of (tin_2 (TB_at 199 rfl)) rfl
set_option maxRecDepth 100000 in
theorem lX9_47 : Cond.methodLink RX9 47 yX9_spelled ∈ TB := TB_of (tin_2 (TB_at 203 rfl)) rfl
set_option maxRecDepth 100000 in
theorem lX9_83 : Cond.methodLink RX9 83 yJ0_length_8abf5 ∈ TB := TB_of (tin_2 (TB_at 206 rfl)) rfl
set_option maxRecDepth 100000 in
theorem lJ0_335 : Cond.methodLink RJ0 335 yJ0_coder_7d493 ∈ TB := TB_of (tin_2 (TB_at 210 rfl)) rfl
set_option maxRecDepth 100000 in
theorem flJ0_38 : Cond.fieldLink RJ0 38 "java/lang/String" "COMPACT_STRINGS" "Z" ∈ TB := TB_of (tin_2 (TB_at 214 rfl)) rfl
set_option maxRecDepth 100000 in
theorem lX9_89 : Cond.methodLink RX9 89 yJ0_charAt_5068e ∈ TB := TB_of (tin_2 (TB_at 216 rfl)) rfl
set_option maxRecDepth 100000 in
theorem lJ0_492 : Cond.methodLink RJ0 492 yJ0_isLatin1_aae02 ∈ TB := TB_of (tin_2 (TB_at 220 rfl)) rfl
set_option maxRecDepth 100000 in
theorem lJ0_495 : Cond.methodLink RJ0 495 yJ1_charAt_3b067 ∈ TB := TB_of (tin_2 (TB_at 224 rfl)) rfl
set_option maxRecDepth 100000 in
theorem lJ1_9 : Cond.methodLink RJ1 9 yJ0_checkIndex_df160 ∈ TB := TB_of (tin_2 (TB_at 227 rfl)) rfl
set_option maxRecDepth 100000 in
theorem flJ0_1053 : Cond.fieldLink RJ0 1053 "jdk/internal/util/Preconditions" "SIOOBE_FORMATTER" "Ljava/util/function/BiFunction;" ∈ TB := TB_of (tin_2 (TB_at 230 rfl)) rfl
set_option maxRecDepth 100000 in
theorem lJ0_1059 : Cond.methodLink RJ0 1059 yJ3_checkIndex_8e157 ∈ TB := TB_of (tin_2 (TB_at 232 rfl)) rfl
set_option maxRecDepth 100000 in
theorem lJ0_498 : Cond.methodLink RJ0 498 yJ2_charAt_3b067 ∈ TB := TB_of (tin_2 (TB_at 235 rfl)) rfl
set_option maxRecDepth 100000 in
theorem lJ2_67 : Cond.methodLink RJ2 67 yJ2_checkIndex_2214a ∈ TB := TB_of (tin_2 (TB_at 238 rfl)) rfl
set_option maxRecDepth 100000 in
theorem lJ2_48 : Cond.methodLink RJ2 48 yJ2_length_9d52b ∈ TB := TB_of (tin_3 (TB_at 1 rfl)) rfl
set_option maxRecDepth 100000 in
theorem lJ2_414 : Cond.methodLink RJ2 414 yJ0_checkIndex_df160 ∈ TB := TB_of (tin_3 (TB_at 4 rfl)) rfl
set_option maxRecDepth 100000 in
theorem lJ2_71 : Cond.methodLink RJ2 71 yJ2_getChar_3b067 ∈ TB := TB_of (tin_3 (TB_at 5 rfl)) rfl
set_option maxRecDepth 100000 in
theorem flJ2_44 : Cond.fieldLink RJ2 44 "java/lang/StringUTF16" "$assertionsDisabled" "Z" ∈ TB := TB_of (tin_3 (TB_at 8 rfl)) rfl
set_option maxRecDepth 100000 in
theorem flJ2_59 : Cond.fieldLink RJ2 59 "java/lang/StringUTF16" "HI_BYTE_SHIFT" "I" ∈ TB := TB_of (tin_3 (TB_at 10 rfl)) rfl
set_option maxRecDepth 100000 in
theorem flJ2_63 : Cond.fieldLink RJ2 63 "java/lang/StringUTF16" "LO_BYTE_SHIFT" "I" ∈ TB := TB_of (tin_3 (TB_at 12 rfl)) rfl
set_option maxRecDepth 100000 in
theorem lX9_73 : Cond.methodLink RX9 73 yJ9_max_7cf53 ∈ TB := TB_of (tin_3 (TB_at 25 rfl)) rfl
set_option maxRecDepth 100000 in
theorem lX9_32 : Cond.methodLink RX9 32 yX9_valueOf ∈ TB := TB_of (tin_3 (TB_at 30 rfl)) rfl
set_option maxRecDepth 100000 in
theorem lX5_58 : Cond.methodLink RX5 58 yX5_kind ∈ TB := TB_of (tin_3 (TB_at 33 rfl)) rfl
set_option maxRecDepth 100000 in
theorem lX5_62 : Cond.methodLink RX5 62 yX5_readLine ∈ TB := TB_of (tin_3 (TB_at 37 rfl)) rfl
set_option maxRecDepth 100000 in
theorem lX5_89 : Cond.methodLink RX5 89 yX5_readWorld ∈ TB := TB_of (tin_3 (TB_at 41 rfl)) rfl
set_option maxRecDepth 100000 in
theorem lX5_82 : Cond.methodLink RX5 82 yX5_refuse ∈ TB := TB_of (tin_3 (TB_at 45 rfl)) rfl
set_option maxRecDepth 100000 in
theorem lX5_79 : Cond.methodLink RX5 79 yX5_goOn ∈ TB := TB_of (tin_3 (TB_at 49 rfl)) rfl
set_option maxRecDepth 100000 in
theorem lX5_107 : Cond.methodLink RX5 107 yX5_takeNumber ∈ TB := TB_of (tin_3 (TB_at 53 rfl)) rfl
set_option maxRecDepth 100000 in
theorem lX5_92 : Cond.methodLink RX5 92 yX5_readFact ∈ TB := TB_of (tin_3 (TB_at 57 rfl)) rfl
set_option maxRecDepth 100000 in
theorem lX5_114 : Cond.methodLink RX5 114 yX5_take ∈ TB := TB_of (tin_3 (TB_at 61 rfl)) rfl
set_option maxRecDepth 100000 in
theorem lX5_132 : Cond.methodLink RX5 132 yX5_readTruth ∈ TB := TB_of (tin_3 (TB_at 65 rfl)) rfl
set_option maxRecDepth 100000 in
theorem lX5_150 : Cond.methodLink RX5 150 yX5_readBoth ∈ TB := TB_of (tin_3 (TB_at 69 rfl)) rfl
set_option maxRecDepth 100000 in
theorem lX5_156 : Cond.methodLink RX5 156 yX5_readUnit ∈ TB := TB_of (tin_3 (TB_at 73 rfl)) rfl
set_option maxRecDepth 100000 in
theorem lX5_159 : Cond.methodLink RX5 159 yX5_readSum ∈ TB := TB_of (tin_3 (TB_at 77 rfl)) rfl
set_option maxRecDepth 100000 in
theorem lX5_166 : Cond.methodLink RX5 166 yX5_readTerm ∈ TB := TB_of (tin_3 (TB_at 81 rfl)) rfl
set_option maxRecDepth 100000 in
theorem lX5_169 : Cond.methodLink RX5 169 yX5_readAtom ∈ TB := TB_of (tin_3 (TB_at 85 rfl)) rfl
set_option maxRecDepth 100000 in
theorem lX5_153 : Cond.methodLink RX5 153 yX0_add ∈ TB := TB_of (tin_3 (TB_at 89 rfl)) rfl
set_option maxRecDepth 100000 in
theorem lX5_162 : Cond.methodLink RX5 162 yX5_isTooDeep ∈ TB := TB_of (tin_3 (TB_at 93 rfl)) rfl
set_option maxRecDepth 100000 in
theorem lX5_135 : Cond.methodLink RX5 135 yX0_end ∈ TB := TB_of (tin_3 (TB_at 97 rfl)) rfl
set_option maxRecDepth 100000 in
theorem lX5_95 : Cond.methodLink RX5 95 yX5_readPerson ∈ TB := TB_of (tin_3 (TB_at 101 rfl)) rfl
set_option maxRecDepth 100000 in
theorem lX5_98 : Cond.methodLink RX5 98 yX5_readRoad ∈ TB := TB_of (tin_3 (TB_at 105 rfl)) rfl
set_option maxRecDepth 100000 in
theorem lX5_101 : Cond.methodLink RX5 101 yX5_readHint ∈ TB := TB_of (tin_3 (TB_at 109 rfl)) rfl
set_option maxRecDepth 100000 in
theorem lX5_65 : Cond.methodLink RX5 65 yX0_settle ∈ TB := TB_of (tin_3 (TB_at 113 rfl)) rfl
set_option maxRecDepth 100000 in
theorem lX0_36 : Cond.methodLink RX0 36 yX0_valueIn ∈ TB := TB_of (tin_3 (TB_at 117 rfl)) rfl
set_option maxRecDepth 100000 in
theorem lX0_40 : Cond.methodLink RX0 40 yX0_isAtom ∈ TB := TB_of (tin_3 (TB_at 121 rfl)) rfl
set_option maxRecDepth 100000 in
theorem lX0_44 : Cond.methodLink RX0 44 yX0_atomOf ∈ TB := TB_of (tin_3 (TB_at 124 rfl)) rfl
set_option maxRecDepth 100000 in
theorem lX0_50 : Cond.methodLink RX0 50 yX0_joined ∈ TB := TB_of (tin_3 (TB_at 127 rfl)) rfl
set_option maxRecDepth 100000 in
theorem lX0_63 : Cond.methodLink RX0 63 yX0_kept ∈ TB := TB_of (tin_3 (TB_at 130 rfl)) rfl
set_option maxRecDepth 100000 in
theorem cvX0_67 : Cond.constantLong RX0 67 (-1000000) ∈ TB := TB_of (tin_3 (TB_at 133 rfl)) rfl
set_option maxRecDepth 100000 in
theorem cvX0_69 : Cond.constantLong RX0 69 (1000000) ∈ TB := TB_of (tin_3 (TB_at 134 rfl)) rfl
set_option maxRecDepth 100000 in
theorem lX0_71 : Cond.methodLink RX0 71 yJ9_min_f86c9 ∈ TB := TB_of (tin_3 (TB_at 135 rfl)) rfl
set_option maxRecDepth 100000 in
theorem lX0_77 : Cond.methodLink RX0 77 yJ9_max_f86c9 ∈ TB := TB_of (tin_3 (TB_at 138 rfl)) rfl
set_option maxRecDepth 100000 in
theorem lX11_95 : Cond.methodLink RX11 95 yX2_become ∈ TB := TB_of (tin_3 (TB_at 141 rfl)) rfl
set_option maxRecDepth 100000 in
theorem lX11_100 : Cond.methodLink RX11 100 yX8_become ∈ TB := TB_of (tin_3 (TB_at 148 rfl)) rfl
set_option maxRecDepth 100000 in
theorem lX11_103 : Cond.methodLink RX11 103 yX4_forget ∈ TB := TB_of (tin_3 (TB_at 153 rfl)) rfl
set_option maxRecDepth 100000 in
theorem lL_23 : Cond.methodLink RL 23 yX11_fault ∈ TB := TB_of (tin_3 (TB_at 157 rfl)) rfl
set_option maxRecDepth 100000 in
theorem lL_27 : Cond.methodLink RL 27 yX11_world ∈ TB := TB_of (tin_3 (TB_at 161 rfl)) rfl
set_option maxRecDepth 100000 in
theorem lX11_112 : Cond.methodLink RX11 112 yX11_isWorld ∈ TB := TB_of (tin_3 (TB_at 165 rfl)) rfl
set_option maxRecDepth 100000 in
theorem lX11_126 : Cond.methodLink RX11 126 yX2_factsIn ∈ TB := TB_of (tin_3 (TB_at 169 rfl)) rfl
set_option maxRecDepth 100000 in
theorem lL_32 : Cond.methodLink RL 32 yX11_fact ∈ TB := TB_of (tin_3 (TB_at 173 rfl)) rfl
set_option maxRecDepth 100000 in
theorem lX11_130 : Cond.methodLink RX11 130 yX11_isFact ∈ TB := TB_of (tin_3 (TB_at 177 rfl)) rfl
set_option maxRecDepth 100000 in
theorem lL_36 : Cond.methodLink RL 36 yX11_person ∈ TB := TB_of (tin_3 (TB_at 181 rfl)) rfl
set_option maxRecDepth 100000 in
theorem lX11_136 : Cond.methodLink RX11 136 yX11_isPerson ∈ TB := TB_of (tin_3 (TB_at 185 rfl)) rfl
set_option maxRecDepth 100000 in
theorem lX11_139 : Cond.methodLink RX11 139 yX11_possibleTo ∈ TB := TB_of (tin_3 (TB_at 189 rfl)) rfl
set_option maxRecDepth 100000 in
theorem lX11_161 : Cond.methodLink RX11 161 yX2_possible ∈ TB := TB_of (tin_3 (TB_at 193 rfl)) rfl
set_option maxRecDepth 100000 in
theorem lX2_61 : Cond.methodLink RX2 61 yX2_allWorlds ∈ TB := TB_of (tin_3 (TB_at 197 rfl)) rfl
set_option maxRecDepth 100000 in
theorem lX2_65 : Cond.methodLink RX2 65 yX2_sideOf ∈ TB := TB_of (tin_3 (TB_at 201 rfl)) rfl
set_option maxRecDepth 100000 in
theorem lX11_145 : Cond.methodLink RX11 145 yX2_knownBy ∈ TB := TB_of (tin_3 (TB_at 205 rfl)) rfl
set_option maxRecDepth 100000 in
theorem lX2_69 : Cond.methodLink RX2 69 yX2_isKnown ∈ TB := TB_of (tin_3 (TB_at 209 rfl)) rfl
set_option maxRecDepth 100000 in
theorem lX11_148 : Cond.methodLink RX11 148 yX2_isGuiltKnown ∈ TB := TB_of (tin_3 (TB_at 213 rfl)) rfl
set_option maxRecDepth 100000 in
theorem lL_40 : Cond.methodLink RL 40 yX11_hints ∈ TB := TB_of (tin_3 (TB_at 217 rfl)) rfl
set_option maxRecDepth 100000 in
theorem lL_44 : Cond.methodLink RL 44 yX11_knows ∈ TB := TB_of (tin_3 (TB_at 221 rfl)) rfl
set_option maxRecDepth 100000 in
theorem lX11_157 : Cond.methodLink RX11 157 yX2_isKnown ∈ TB := TB_of (tin_3 (TB_at 225 rfl)) rfl
set_option maxRecDepth 100000 in
theorem lL_48 : Cond.methodLink RL 48 yX11_cell ∈ TB := TB_of (tin_3 (TB_at 226 rfl)) rfl
set_option maxRecDepth 100000 in
theorem lL_52 : Cond.methodLink RL 52 yX11_tell ∈ TB := TB_of (tin_3 (TB_at 230 rfl)) rfl
set_option maxRecDepth 100000 in
theorem lX11_177 : Cond.methodLink RX11 177 yX4_keep ∈ TB := TB_of (tin_3 (TB_at 234 rfl)) rfl
set_option maxRecDepth 100000 in
theorem lX11_180 : Cond.methodLink RX11 180 yJ6_bitCount_0f7a4 ∈ TB := TB_of (tin_3 (TB_at 239 rfl)) rfl
set_option maxRecDepth 100000 in
theorem cvJ6_265 : Cond.constant RJ6 265 (1431655765) ∈ TB := TB_of (tin_4 (TB_at 2 rfl)) rfl
set_option maxRecDepth 100000 in
theorem cvJ6_266 : Cond.constant RJ6 266 (858993459) ∈ TB := TB_of (tin_4 (TB_at 3 rfl)) rfl
set_option maxRecDepth 100000 in
theorem cvJ6_267 : Cond.constant RJ6 267 (252645135) ∈ TB := TB_of (tin_4 (TB_at 4 rfl)) rfl
set_option maxRecDepth 100000 in
theorem lL_56 : Cond.methodLink RL 56 yX11_ask ∈ TB := TB_of (tin_4 (TB_at 5 rfl)) rfl
set_option maxRecDepth 100000 in
theorem lX11_185 : Cond.methodLink RX11 185 yX8_isAsked ∈ TB := TB_of (tin_4 (TB_at 9 rfl)) rfl
set_option maxRecDepth 100000 in
theorem lX8_34 : Cond.methodLink RX8 34 yX2_possible ∈ TB := TB_of (tin_4 (TB_at 13 rfl)) rfl
set_option maxRecDepth 100000 in
theorem lX8_40 : Cond.methodLink RX8 40 yX2_isKnown ∈ TB := TB_of (tin_4 (TB_at 14 rfl)) rfl
set_option maxRecDepth 100000 in
theorem lL_60 : Cond.methodLink RL 60 yX11_days ∈ TB := TB_of (tin_4 (TB_at 15 rfl)) rfl
set_option maxRecDepth 100000 in
theorem lX11_189 : Cond.methodLink RX11 189 yX8_passDays ∈ TB := TB_of (tin_4 (TB_at 19 rfl)) rfl
set_option maxRecDepth 100000 in
theorem lX8_53 : Cond.methodLink RX8 53 yX8_passDay ∈ TB := TB_of (tin_4 (TB_at 23 rfl)) rfl
set_option maxRecDepth 100000 in
theorem lL_64 : Cond.methodLink RL 64 yX11_isTrue ∈ TB := TB_of (tin_4 (TB_at 27 rfl)) rfl
set_option maxRecDepth 100000 in
theorem lL_68 : Cond.methodLink RL 68 yX11_undo ∈ TB := TB_of (tin_4 (TB_at 31 rfl)) rfl
set_option maxRecDepth 100000 in
theorem lX11_196 : Cond.methodLink RX11 196 yX4_goBack ∈ TB := TB_of (tin_4 (TB_at 35 rfl)) rfl
set_option maxRecDepth 100000 in
theorem lL_72 : Cond.methodLink RL 72 yX11_judge ∈ TB := TB_of (tin_4 (TB_at 39 rfl)) rfl
set_option maxRecDepth 100000 in
theorem lX11_200 : Cond.methodLink RX11 200 yX11_isRow ∈ TB := TB_of (tin_4 (TB_at 43 rfl)) rfl
set_option maxRecDepth 100000 in
theorem lX11_203 : Cond.methodLink RX11 203 yX6_isMissing ∈ TB := TB_of (tin_4 (TB_at 46 rfl)) rfl
set_option maxRecDepth 100000 in
theorem lX11_207 : Cond.methodLink RX11 207 yX2_deedsAhead ∈ TB := TB_of (tin_4 (TB_at 50 rfl)) rfl
set_option maxRecDepth 100000 in
theorem lX2_106 : Cond.methodLink RX2 106 yX2_isDeed ∈ TB := TB_of (tin_4 (TB_at 54 rfl)) rfl
set_option maxRecDepth 100000 in
theorem cvX2_90 : Cond.constantLong RX2 90 (-1) ∈ TB := TB_of (tin_4 (TB_at 58 rfl)) rfl
set_option maxRecDepth 100000 in
theorem cvX2_92 : Cond.constantLong RX2 92 (200) ∈ TB := TB_of (tin_4 (TB_at 59 rfl)) rfl
set_option maxRecDepth 100000 in
theorem cvX2_94 : Cond.constantLong RX2 94 (100) ∈ TB := TB_of (tin_4 (TB_at 60 rfl)) rfl
set_option maxRecDepth 100000 in
theorem cvX2_96 : Cond.constantLong RX2 96 (10) ∈ TB := TB_of (tin_4 (TB_at 61 rfl)) rfl
set_option maxRecDepth 100000 in
theorem lX11_214 : Cond.methodLink RX11 214 yX8_doDeeds ∈ TB := TB_of (tin_4 (TB_at 62 rfl)) rfl
set_option maxRecDepth 100000 in
theorem lX8_66 : Cond.methodLink RX8 66 yX2_isDeed ∈ TB := TB_of (tin_4 (TB_at 66 rfl)) rfl
set_option maxRecDepth 100000 in
theorem lX8_70 : Cond.methodLink RX8 70 yX8_isDone ∈ TB := TB_of (tin_4 (TB_at 67 rfl)) rfl
set_option maxRecDepth 100000 in
theorem lX8_74 : Cond.methodLink RX8 74 yX8_isAsked ∈ TB := TB_of (tin_4 (TB_at 71 rfl)) rfl
set_option maxRecDepth 100000 in
theorem lX11_218 : Cond.methodLink RX11 218 yX2_leastBy ∈ TB := TB_of (tin_4 (TB_at 72 rfl)) rfl
set_option maxRecDepth 100000 in
theorem lX2_84 : Cond.methodLink RX2 84 yX2_possible ∈ TB := TB_of (tin_4 (TB_at 76 rfl)) rfl
set_option maxRecDepth 100000 in
theorem lX2_87 : Cond.methodLink RX2 87 yX2_amountOf ∈ TB := TB_of (tin_4 (TB_at 77 rfl)) rfl
set_option maxRecDepth 100000 in
theorem lX2_55 : Cond.methodLink RX2 55 yJ6_bitCount_0f7a4 ∈ TB := TB_of (tin_4 (TB_at 81 rfl)) rfl
set_option maxRecDepth 100000 in
theorem lX2_73 : Cond.methodLink RX2 73 yJ9_min_7cf53 ∈ TB := TB_of (tin_4 (TB_at 82 rfl)) rfl
set_option maxRecDepth 100000 in
theorem lX2_78 : Cond.methodLink RX2 78 yX2_weightOf ∈ TB := TB_of (tin_4 (TB_at 85 rfl)) rfl
set_option maxRecDepth 100000 in
theorem lX2_81 : Cond.methodLink RX2 81 yX2_knownBy ∈ TB := TB_of (tin_4 (TB_at 89 rfl)) rfl
set_option maxRecDepth 100000 in
theorem lL_76 : Cond.methodLink RL 76 yX11_perform ∈ TB := TB_of (tin_4 (TB_at 90 rfl)) rfl
set_option maxRecDepth 100000 in
theorem lL_80 : Cond.methodLink RL 80 yX11_year ∈ TB := TB_of (tin_4 (TB_at 94 rfl)) rfl
set_option maxRecDepth 100000 in
theorem lX11_222 : Cond.methodLink RX11 222 yX8_passYear ∈ TB := TB_of (tin_4 (TB_at 98 rfl)) rfl
set_option maxRecDepth 100000 in
theorem lX8_82 : Cond.methodLink RX8 82 yX8_draw ∈ TB := TB_of (tin_4 (TB_at 102 rfl)) rfl
set_option maxRecDepth 100000 in
theorem cvX8_78 : Cond.constant RX8 78 (1103515245) ∈ TB := TB_of (tin_4 (TB_at 106 rfl)) rfl
set_option maxRecDepth 100000 in
theorem lL_84 : Cond.methodLink RL 84 yX11_everyone ∈ TB := TB_of (tin_4 (TB_at 107 rfl)) rfl
set_option maxRecDepth 100000 in
theorem lX11_226 : Cond.methodLink RX11 226 yX11_reached ∈ TB := TB_of (tin_4 (TB_at 111 rfl)) rfl
set_option maxRecDepth 100000 in
theorem lX11_229 : Cond.methodLink RX11 229 yX2_stepFrom ∈ TB := TB_of (tin_4 (TB_at 115 rfl)) rfl
set_option maxRecDepth 100000 in
theorem lL_88 : Cond.methodLink RL 88 yX11_depth ∈ TB := TB_of (tin_4 (TB_at 119 rfl)) rfl
set_option maxRecDepth 100000 in
theorem lL_92 : Cond.methodLink RL 92 yX11_common ∈ TB := TB_of (tin_4 (TB_at 123 rfl)) rfl
set_option maxRecDepth 100000 in
theorem lL_97 : Cond.methodLink RL 97 yX11_reach ∈ TB := TB_of (tin_4 (TB_at 127 rfl)) rfl
set_option maxRecDepth 100000 in
theorem lL_101 : Cond.methodLink RL 101 yX11_together ∈ TB := TB_of (tin_4 (TB_at 131 rfl)) rfl
set_option maxRecDepth 100000 in
theorem lX11_233 : Cond.methodLink RX11 233 yX11_possibleTogether ∈ TB := TB_of (tin_4 (TB_at 135 rfl)) rfl
set_option maxRecDepth 100000 in
theorem lL_105 : Cond.methodLink RL 105 yX11_witnesses ∈ TB := TB_of (tin_4 (TB_at 139 rfl)) rfl
set_option maxRecDepth 100000 in
theorem lX11_236 : Cond.methodLink RX11 236 yX11_isFewer ∈ TB := TB_of (tin_4 (TB_at 143 rfl)) rfl
set_option maxRecDepth 100000 in
theorem lL_109 : Cond.methodLink RL 109 yX11_parting ∈ TB := TB_of (tin_4 (TB_at 146 rfl)) rfl
set_option maxRecDepth 100000 in
theorem lL_113 : Cond.methodLink RL 113 yX11_measure ∈ TB := TB_of (tin_4 (TB_at 150 rfl)) rfl
set_option maxRecDepth 100000 in
theorem lX11_239 : Cond.methodLink RX11 239 yX11_isMeasure ∈ TB := TB_of (tin_4 (TB_at 154 rfl)) rfl
set_option maxRecDepth 100000 in
theorem lX11_242 : Cond.methodLink RX11 242 yX11_amount ∈ TB := TB_of (tin_4 (TB_at 157 rfl)) rfl
set_option maxRecDepth 100000 in
theorem lX11_245 : Cond.methodLink RX11 245 yX2_amountOf ∈ TB := TB_of (tin_4 (TB_at 161 rfl)) rfl
set_option maxRecDepth 100000 in
theorem lL_117 : Cond.methodLink RL 117 yX11_least ∈ TB := TB_of (tin_4 (TB_at 162 rfl)) rfl
set_option maxRecDepth 100000 in
theorem lL_121 : Cond.methodLink RL 121 yX11_seats ∈ TB := TB_of (tin_4 (TB_at 166 rfl)) rfl
set_option maxRecDepth 100000 in
theorem lL_125 : Cond.methodLink RL 125 yX11_differ ∈ TB := TB_of (tin_4 (TB_at 170 rfl)) rfl
set_option maxRecDepth 100000 in
theorem lX11_248 : Cond.methodLink RX11 248 yJ6_compare_7cf53 ∈ TB := TB_of (tin_4 (TB_at 174 rfl)) rfl
set_option maxRecDepth 100000 in
theorem lL_129 : Cond.methodLink RL 129 yX11_shown ∈ TB := TB_of (tin_4 (TB_at 177 rfl)) rfl
set_option maxRecDepth 100000 in
theorem lX11_251 : Cond.methodLink RX11 251 yX7_find ∈ TB := TB_of (tin_4 (TB_at 181 rfl)) rfl
set_option maxRecDepth 100000 in
theorem lX7_38 : Cond.methodLink RX7 38 yX2_possible ∈ TB := TB_of (tin_4 (TB_at 185 rfl)) rfl
set_option maxRecDepth 100000 in
theorem lX7_42 : Cond.methodLink RX7 42 yJ6_bitCount_0f7a4 ∈ TB := TB_of (tin_4 (TB_at 186 rfl)) rfl
set_option maxRecDepth 100000 in
theorem lX7_48 : Cond.methodLink RX7 48 yX2_knownBy ∈ TB := TB_of (tin_4 (TB_at 187 rfl)) rfl
set_option maxRecDepth 100000 in
theorem lX7_57 : Cond.methodLink RX7 57 yX7_findExtremes ∈ TB := TB_of (tin_4 (TB_at 188 rfl)) rfl
set_option maxRecDepth 100000 in
theorem lX7_74 : Cond.methodLink RX7 74 yJ7_fill_53178 ∈ TB := TB_of (tin_4 (TB_at 192 rfl)) rfl
set_option maxRecDepth 100000 in
theorem lX7_80 : Cond.methodLink RX7 80 yJ9_max_7cf53 ∈ TB := TB_of (tin_4 (TB_at 193 rfl)) rfl
set_option maxRecDepth 100000 in
theorem lX7_61 : Cond.methodLink RX7 61 yX7_findBest ∈ TB := TB_of (tin_4 (TB_at 194 rfl)) rfl
set_option maxRecDepth 100000 in
theorem lX7_85 : Cond.methodLink RX7 85 yX2_allFacts ∈ TB := TB_of (tin_4 (TB_at 198 rfl)) rfl
theorem lX7_89 : ∀ (G : GT) (U : State), Kn G U → va_Nw (.methodLinkNest RX7 89 yX11_isFewer RX11) U := fun G U h => h.2.2.2.2.2.2.2
set_option maxRecDepth 100000 in
theorem lX7_70 : Cond.methodLink RX7 70 yX7_takeIfBetter ∈ TB := TB_of (tin_4 (TB_at 203 rfl)) rfl
set_option maxRecDepth 100000 in
theorem lX7_93 : Cond.methodLink RX7 93 yX7_isAhead ∈ TB := TB_of (tin_4 (TB_at 207 rfl)) rfl
set_option maxRecDepth 100000 in
theorem lL_133 : Cond.methodLink RL 133 yX11_appeals ∈ TB := TB_of (tin_4 (TB_at 211 rfl)) rfl
set_option maxRecDepth 100000 in
theorem lX11_261 : Cond.methodLink RX11 261 yX11_nextAbove ∈ TB := TB_of (tin_4 (TB_at 215 rfl)) rfl
set_option maxRecDepth 100000 in
theorem lL_138 : Cond.methodLink RL 138 yX11_parties ∈ TB := TB_of (tin_4 (TB_at 219 rfl)) rfl
set_option maxRecDepth 100000 in
theorem lX11_264 : Cond.methodLink RX11 264 yX3_judgeAll ∈ TB := TB_of (tin_4 (TB_at 223 rfl)) rfl
set_option maxRecDepth 100000 in
theorem lX3_43 : Cond.methodLink RX3 43 yX2_possible ∈ TB := TB_of (tin_4 (TB_at 227 rfl)) rfl
set_option maxRecDepth 100000 in
theorem lX3_47 : Cond.methodLink RX3 47 yX2_amountOf ∈ TB := TB_of (tin_4 (TB_at 228 rfl)) rfl
set_option maxRecDepth 100000 in
theorem lX3_57 : Cond.methodLink RX3 57 yX3_choose ∈ TB := TB_of (tin_4 (TB_at 230 rfl)) rfl
set_option maxRecDepth 100000 in
theorem lX3_61 : Cond.methodLink RX3 61 yX3_mostOf ∈ TB := TB_of (tin_4 (TB_at 234 rfl)) rfl
set_option maxRecDepth 100000 in
theorem lX3_64 : Cond.methodLink RX3 64 yX3_takeBack ∈ TB := TB_of (tin_4 (TB_at 238 rfl)) rfl
set_option maxRecDepth 100000 in
theorem lX11_267 : Cond.methodLink RX11 267 yX3_findRest ∈ TB := TB_of (tin_5 (TB_at 2 rfl)) rfl
set_option maxRecDepth 100000 in
theorem lX3_68 : Cond.methodLink RX3 68 yX3_canGet ∈ TB := TB_of (tin_5 (TB_at 6 rfl)) rfl
set_option maxRecDepth 100000 in
theorem lX11_279 : Cond.methodLink RX11 279 yX3_choice ∈ TB := TB_of (tin_5 (TB_at 10 rfl)) rfl
set_option maxRecDepth 100000 in
theorem lL_143 : Cond.methodLink RL 143 yX11_inform ∈ TB := TB_of (tin_5 (TB_at 14 rfl)) rfl
set_option maxRecDepth 100000 in
theorem lL_147 : Cond.methodLink RL 147 yX11_trial ∈ TB := TB_of (tin_5 (TB_at 18 rfl)) rfl
set_option maxRecDepth 100000 in
theorem lX11_282 : Cond.methodLink RX11 282 yX10_fewestFacts ∈ TB := TB_of (tin_5 (TB_at 22 rfl)) rfl
set_option maxRecDepth 100000 in
theorem lX10_22 : Cond.methodLink RX10 22 yX10_fewestBehind ∈ TB := TB_of (tin_5 (TB_at 26 rfl)) rfl
set_option maxRecDepth 100000 in
theorem lX10_35 : Cond.methodLink RX10 35 yX2_isGuiltKnown ∈ TB := TB_of (tin_5 (TB_at 30 rfl)) rfl
set_option maxRecDepth 100000 in
theorem lX10_31 : Cond.methodLink RX10 31 yX10_fewestBy ∈ TB := TB_of (tin_5 (TB_at 31 rfl)) rfl
set_option maxRecDepth 100000 in
theorem lX10_45 : Cond.methodLink RX10 45 yX2_isKnown ∈ TB := TB_of (tin_5 (TB_at 35 rfl)) rfl
set_option maxRecDepth 100000 in
theorem lX10_52 : Cond.methodLink RX10 52 yJ9_max_7cf53 ∈ TB := TB_of (tin_5 (TB_at 36 rfl)) rfl
set_option maxRecDepth 100000 in
theorem lX10_39 : Cond.methodLink RX10 39 yJ9_min_7cf53 ∈ TB := TB_of (tin_5 (TB_at 37 rfl)) rfl
set_option maxRecDepth 100000 in
theorem lX11_285 : Cond.methodLink RX11 285 yX10_firstFact ∈ TB := TB_of (tin_5 (TB_at 38 rfl)) rfl
set_option maxRecDepth 100000 in
theorem lL_151 : Cond.methodLink RL 151 yX11_brief ∈ TB := TB_of (tin_5 (TB_at 42 rfl)) rfl
set_option maxRecDepth 100000 in
theorem lL_155 : Cond.methodLink RL 155 yX11_right ∈ TB := TB_of (tin_5 (TB_at 46 rfl)) rfl
set_option maxRecDepth 100000 in
theorem lX11_289 : Cond.methodLink RX11 289 yX2_isRight ∈ TB := TB_of (tin_5 (TB_at 50 rfl)) rfl
set_option maxRecDepth 100000 in
theorem lL_159 : Cond.methodLink RL 159 yX11_justice ∈ TB := TB_of (tin_5 (TB_at 54 rfl)) rfl
set_option maxRecDepth 100000 in
theorem lX11_292 : Cond.methodLink RX11 292 yX11_justiceBy ∈ TB := TB_of (tin_5 (TB_at 58 rfl)) rfl
set_option maxRecDepth 100000 in
theorem lL_163 : Cond.methodLink RL 163 yX11_bestLaw ∈ TB := TB_of (tin_5 (TB_at 62 rfl)) rfl
set_option maxRecDepth 100000 in
theorem lL_167 : Cond.methodLink RL 167 yX11_news ∈ TB := TB_of (tin_5 (TB_at 66 rfl)) rfl
set_option maxRecDepth 100000 in
theorem lX11_295 : Cond.methodLink RX11 295 yX11_daysTill ∈ TB := TB_of (tin_5 (TB_at 70 rfl)) rfl
set_option maxRecDepth 100000 in
theorem lL_171 : Cond.methodLink RL 171 yX11_latest ∈ TB := TB_of (tin_5 (TB_at 74 rfl)) rfl
set_option maxRecDepth 100000 in
theorem lL_175 : Cond.methodLink RL 175 yX11_leastIn ∈ TB := TB_of (tin_5 (TB_at 78 rfl)) rfl
set_option maxRecDepth 100000 in
theorem lL_179 : Cond.methodLink RL 179 yX11_calm ∈ TB := TB_of (tin_5 (TB_at 82 rfl)) rfl
set_option maxRecDepth 100000 in
theorem lL_183 : Cond.methodLink RL 183 yX11_fitting ∈ TB := TB_of (tin_5 (TB_at 86 rfl)) rfl
set_option maxRecDepth 100000 in
theorem lX11_298 : Cond.methodLink RX11 298 yX11_refusedAsked ∈ TB := TB_of (tin_5 (TB_at 90 rfl)) rfl
set_option maxRecDepth 100000 in
theorem lX11_301 : Cond.methodLink RX11 301 yX11_isFitting ∈ TB := TB_of (tin_5 (TB_at 94 rfl)) rfl
set_option maxRecDepth 100000 in
theorem lX11_312 : Cond.methodLink RX11 312 yX2_sideOf ∈ TB := TB_of (tin_5 (TB_at 98 rfl)) rfl
set_option maxRecDepth 100000 in
theorem lL_187 : Cond.methodLink RL 187 yX11_sure ∈ TB := TB_of (tin_5 (TB_at 99 rfl)) rfl
set_option maxRecDepth 100000 in
theorem lX11_305 : Cond.methodLink RX11 305 yX2_allFacts ∈ TB := TB_of (tin_5 (TB_at 103 rfl)) rfl
set_option maxRecDepth 100000 in
theorem lL_191 : Cond.methodLink RL 191 yX11_questions ∈ TB := TB_of (tin_5 (TB_at 104 rfl)) rfl
set_option maxRecDepth 100000 in
theorem lX11_315 : Cond.methodLink RX11 315 yX11_rowsToAsk ∈ TB := TB_of (tin_5 (TB_at 108 rfl)) rfl
set_option maxRecDepth 100000 in
theorem lL_195 : Cond.methodLink RL 195 yX11_numbers ∈ TB := TB_of (tin_5 (TB_at 112 rfl)) rfl
set_option maxRecDepth 100000 in
theorem lX11_318 : Cond.methodLink RX11 318 yX6_renew ∈ TB := TB_of (tin_5 (TB_at 116 rfl)) rfl
set_option maxRecDepth 100000 in
theorem lX6_19 : Cond.methodLink RX6 19 yJ7_fill_d0a16 ∈ TB := TB_of (tin_5 (TB_at 120 rfl)) rfl
set_option maxRecDepth 100000 in
theorem lL_201 : Cond.methodLink RL 201 yX11_write ∈ TB := TB_of (tin_5 (TB_at 123 rfl)) rfl
set_option maxRecDepth 100000 in
theorem cvX11_322 : Cond.constantLong RX11 322 (-2) ∈ TB := TB_of (tin_5 (TB_at 127 rfl)) rfl
set_option maxRecDepth 100000 in
theorem cvX11_324 : Cond.constantLong RX11 324 (-6) ∈ TB := TB_of (tin_5 (TB_at 128 rfl)) rfl
set_option maxRecDepth 100000 in
theorem cvX11_326 : Cond.constantLong RX11 326 (-7) ∈ TB := TB_of (tin_5 (TB_at 129 rfl)) rfl
set_option maxRecDepth 100000 in
theorem lX11_328 : Cond.methodLink RX11 328 yX6_put ∈ TB := TB_of (tin_5 (TB_at 130 rfl)) rfl
set_option maxRecDepth 100000 in
theorem lL_206 : Cond.methodLink RL 206 yX11_copy ∈ TB := TB_of (tin_5 (TB_at 134 rfl)) rfl
set_option maxRecDepth 100000 in
theorem lX11_332 : Cond.methodLink RX11 332 yJ9_min_7cf53 ∈ TB := TB_of (tin_5 (TB_at 138 rfl)) rfl
set_option maxRecDepth 100000 in
theorem lL_210 : Cond.methodLink RL 210 yX11_image ∈ TB := TB_of (tin_5 (TB_at 139 rfl)) rfl
set_option maxRecDepth 100000 in
theorem lL_214 : Cond.methodLink RL 214 yX11_restore ∈ TB := TB_of (tin_5 (TB_at 143 rfl)) rfl
set_option maxRecDepth 100000 in
theorem lL_218 : Cond.methodLink RL 218 yX11_count ∈ TB := TB_of (tin_5 (TB_at 147 rfl)) rfl
set_option maxRecDepth 100000 in
theorem lX11_343 : Cond.methodLink RX11 343 yX2_countRoads ∈ TB := TB_of (tin_5 (TB_at 151 rfl)) rfl
set_option maxRecDepth 100000 in
theorem lX11_346 : Cond.methodLink RX11 346 yX2_allWorlds ∈ TB := TB_of (tin_5 (TB_at 155 rfl)) rfl
set_option maxRecDepth 100000 in
theorem lX11_349 : Cond.methodLink RX11 349 yX2_weightOf ∈ TB := TB_of (tin_5 (TB_at 156 rfl)) rfl
set_option maxRecDepth 100000 in
theorem lL_12 : Cond.methodLink RL 12 yX12_init ∈ TB := TB_of (tin_5 (TB_at 159 rfl)) rfl
set_option maxRecDepth 100000 in
theorem cvX12_69 : Cond.constant RX12 69 (65536) ∈ TB := TB_of (tin_5 (TB_at 163 rfl)) rfl
set_option maxRecDepth 100000 in
theorem flX12_1 : Cond.fieldLink RX12 1 "KnowsLeastModel" "thrown" "I" ∈ TB := TB_of (tin_5 (TB_at 164 rfl)) rfl
theorem fX12_1 : GF RX12 1 12 0 := ⟨RX12, TX12, 35, rfl, by decide, uX12, flX12_1⟩
theorem wX12_1 : GFw RX12 1 12 0 := ⟨RX12, TX12, 35, tyX12, rfl, by decide, uX12, flX12_1, tyX12_ok, nmX12, rfl, Or.inl rfl⟩
set_option maxRecDepth 100000 in
theorem flX12_13 : Cond.fieldLink RX12 13 "KnowsLeastModel" "all" "[I" ∈ TB := TB_of (tin_5 (TB_at 165 rfl)) rfl
theorem fX12_13 : GF RX12 13 12 1 := ⟨RX12, TX12, 35, rfl, by decide, uX12, flX12_13⟩
set_option maxRecDepth 100000 in
theorem flX12_17 : Cond.fieldLink RX12 17 "KnowsLeastModel" "hasImage" "[Z" ∈ TB := TB_of (tin_5 (TB_at 166 rfl)) rfl
theorem fX12_17 : GF RX12 17 12 2 := ⟨RX12, TX12, 35, rfl, by decide, uX12, flX12_17⟩
set_option maxRecDepth 100000 in
theorem flX12_21 : Cond.fieldLink RX12 21 "KnowsLeastModel" "tape" "[I" ∈ TB := TB_of (tin_5 (TB_at 167 rfl)) rfl
theorem fX12_21 : GF RX12 21 12 3 := ⟨RX12, TX12, 35, rfl, by decide, uX12, flX12_21⟩
set_option maxRecDepth 100000 in
theorem flX12_24 : Cond.fieldLink RX12 24 "KnowsLeastModel" "fresh" "[I" ∈ TB := TB_of (tin_5 (TB_at 168 rfl)) rfl
theorem fX12_24 : GF RX12 24 12 4 := ⟨RX12, TX12, 35, rfl, by decide, uX12, flX12_24⟩
set_option maxRecDepth 100000 in
theorem flX12_27 : Cond.fieldLink RX12 27 "KnowsLeastModel" "codes" "[I" ∈ TB := TB_of (tin_5 (TB_at 169 rfl)) rfl
theorem fX12_27 : GF RX12 27 12 5 := ⟨RX12, TX12, 35, rfl, by decide, uX12, flX12_27⟩
set_option maxRecDepth 100000 in
theorem flX12_30 : Cond.fieldLink RX12 30 "KnowsLeastModel" "factFrom" "[I" ∈ TB := TB_of (tin_5 (TB_at 170 rfl)) rfl
theorem fX12_30 : GF RX12 30 12 6 := ⟨RX12, TX12, 35, rfl, by decide, uX12, flX12_30⟩
set_option maxRecDepth 100000 in
theorem flX12_33 : Cond.fieldLink RX12 33 "KnowsLeastModel" "factMany" "[I" ∈ TB := TB_of (tin_5 (TB_at 171 rfl)) rfl
theorem fX12_33 : GF RX12 33 12 7 := ⟨RX12, TX12, 35, rfl, by decide, uX12, flX12_33⟩
set_option maxRecDepth 100000 in
theorem flX12_83 : Cond.fieldLink RX12 83 "KnowsLeastModel" "taped" "I" ∈ TB := TB_of (tin_5 (TB_at 172 rfl)) rfl
theorem fX12_83 : GF RX12 83 12 8 := ⟨RX12, TX12, 35, rfl, by decide, uX12, flX12_83⟩
theorem wX12_83 : GFw RX12 83 12 8 := ⟨RX12, TX12, 35, tyX12, rfl, by decide, uX12, flX12_83, tyX12_ok, nmX12, rfl, Or.inl rfl⟩
set_option maxRecDepth 100000 in
theorem flX12_101 : Cond.fieldLink RX12 101 "KnowsLeastModel" "at" "I" ∈ TB := TB_of (tin_5 (TB_at 173 rfl)) rfl
theorem fX12_101 : GF RX12 101 12 9 := ⟨RX12, TX12, 35, rfl, by decide, uX12, flX12_101⟩
theorem wX12_101 : GFw RX12 101 12 9 := ⟨RX12, TX12, 35, tyX12, rfl, by decide, uX12, flX12_101, tyX12_ok, nmX12, rfl, Or.inl rfl⟩
set_option maxRecDepth 100000 in
theorem flX12_104 : Cond.fieldLink RX12 104 "KnowsLeastModel" "behind" "I" ∈ TB := TB_of (tin_5 (TB_at 174 rfl)) rfl
theorem fX12_104 : GF RX12 104 12 10 := ⟨RX12, TX12, 35, rfl, by decide, uX12, flX12_104⟩
theorem wX12_104 : GFw RX12 104 12 10 := ⟨RX12, TX12, 35, tyX12, rfl, by decide, uX12, flX12_104, tyX12_ok, nmX12, rfl, Or.inl rfl⟩
set_option maxRecDepth 100000 in
theorem flX12_86 : Cond.fieldLink RX12 86 "KnowsLeastModel" "size" "I" ∈ TB := TB_of (tin_5 (TB_at 175 rfl)) rfl
theorem fX12_86 : GF RX12 86 12 11 := ⟨RX12, TX12, 35, rfl, by decide, uX12, flX12_86⟩
theorem wX12_86 : GFw RX12 86 12 11 := ⟨RX12, TX12, 35, tyX12, rfl, by decide, uX12, flX12_86, tyX12_ok, nmX12, rfl, Or.inl rfl⟩
set_option maxRecDepth 100000 in
theorem flX12_111 : Cond.fieldLink RX12 111 "KnowsLeastModel" "kind" "I" ∈ TB := TB_of (tin_5 (TB_at 176 rfl)) rfl
theorem fX12_111 : GF RX12 111 12 12 := ⟨RX12, TX12, 35, rfl, by decide, uX12, flX12_111⟩
theorem wX12_111 : GFw RX12 111 12 12 := ⟨RX12, TX12, 35, tyX12, rfl, by decide, uX12, flX12_111, tyX12_ok, nmX12, rfl, Or.inl rfl⟩
set_option maxRecDepth 100000 in
theorem flX12_124 : Cond.fieldLink RX12 124 "KnowsLeastModel" "number" "I" ∈ TB := TB_of (tin_5 (TB_at 177 rfl)) rfl
theorem fX12_124 : GF RX12 124 12 13 := ⟨RX12, TX12, 35, rfl, by decide, uX12, flX12_124⟩
theorem wX12_124 : GFw RX12 124 12 13 := ⟨RX12, TX12, 35, tyX12, rfl, by decide, uX12, flX12_124, tyX12_ok, nmX12, rfl, Or.inl rfl⟩
set_option maxRecDepth 100000 in
theorem flX12_129 : Cond.fieldLink RX12 129 "KnowsLeastModel" "wrong" "I" ∈ TB := TB_of (tin_5 (TB_at 178 rfl)) rfl
theorem fX12_129 : GF RX12 129 12 14 := ⟨RX12, TX12, 35, rfl, by decide, uX12, flX12_129⟩
theorem wX12_129 : GFw RX12 129 12 14 := ⟨RX12, TX12, 35, tyX12, rfl, by decide, uX12, flX12_129, tyX12_ok, nmX12, rfl, Or.inl rfl⟩
set_option maxRecDepth 100000 in
theorem flX12_132 : Cond.fieldLink RX12 132 "KnowsLeastModel" "wrongAt" "I" ∈ TB := TB_of (tin_5 (TB_at 179 rfl)) rfl
theorem fX12_132 : GF RX12 132 12 15 := ⟨RX12, TX12, 35, rfl, by decide, uX12, flX12_132⟩
theorem wX12_132 : GFw RX12 132 12 15 := ⟨RX12, TX12, 35, tyX12, rfl, by decide, uX12, flX12_132, tyX12_ok, nmX12, rfl, Or.inl rfl⟩
set_option maxRecDepth 100000 in
theorem flX12_215 : Cond.fieldLink RX12 215 "KnowsLeastModel" "faultKind" "I" ∈ TB := TB_of (tin_5 (TB_at 180 rfl)) rfl
theorem fX12_215 : GF RX12 215 12 16 := ⟨RX12, TX12, 35, rfl, by decide, uX12, flX12_215⟩
theorem wX12_215 : GFw RX12 215 12 16 := ⟨RX12, TX12, 35, tyX12, rfl, by decide, uX12, flX12_215, tyX12_ok, nmX12, rfl, Or.inl rfl⟩
set_option maxRecDepth 100000 in
theorem flX12_36 : Cond.fieldLink RX12 36 "KnowsLeastModel" "faultPlace" "I" ∈ TB := TB_of (tin_5 (TB_at 181 rfl)) rfl
theorem fX12_36 : GF RX12 36 12 17 := ⟨RX12, TX12, 35, rfl, by decide, uX12, flX12_36⟩
theorem wX12_36 : GFw RX12 36 12 17 := ⟨RX12, TX12, 35, tyX12, rfl, by decide, uX12, flX12_36, tyX12_ok, nmX12, rfl, Or.inl rfl⟩
set_option maxRecDepth 100000 in
theorem flX12_156 : Cond.fieldLink RX12 156 "KnowsLeastModel" "codeMany" "I" ∈ TB := TB_of (tin_5 (TB_at 182 rfl)) rfl
theorem fX12_156 : GF RX12 156 12 18 := ⟨RX12, TX12, 35, rfl, by decide, uX12, flX12_156⟩
theorem wX12_156 : GFw RX12 156 12 18 := ⟨RX12, TX12, 35, tyX12, rfl, by decide, uX12, flX12_156, tyX12_ok, nmX12, rfl, Or.inl rfl⟩
set_option maxRecDepth 100000 in
theorem flX12_39 : Cond.fieldLink RX12 39 "KnowsLeastModel" "reckoned" "[I" ∈ TB := TB_of (tin_5 (TB_at 183 rfl)) rfl
theorem fX12_39 : GF RX12 39 12 19 := ⟨RX12, TX12, 35, rfl, by decide, uX12, flX12_39⟩
set_option maxRecDepth 100000 in
theorem flX12_42 : Cond.fieldLink RX12 42 "KnowsLeastModel" "was" "[I" ∈ TB := TB_of (tin_5 (TB_at 184 rfl)) rfl
theorem fX12_42 : GF RX12 42 12 20 := ⟨RX12, TX12, 35, rfl, by decide, uX12, flX12_42⟩
set_option maxRecDepth 100000 in
theorem flX12_45 : Cond.fieldLink RX12 45 "KnowsLeastModel" "heard" "[I" ∈ TB := TB_of (tin_5 (TB_at 185 rfl)) rfl
theorem fX12_45 : GF RX12 45 12 21 := ⟨RX12, TX12, 35, rfl, by decide, uX12, flX12_45⟩
set_option maxRecDepth 100000 in
theorem flX12_278 : Cond.fieldLink RX12 278 "KnowsLeastModel" "knewMany" "I" ∈ TB := TB_of (tin_5 (TB_at 186 rfl)) rfl
theorem fX12_278 : GF RX12 278 12 22 := ⟨RX12, TX12, 35, rfl, by decide, uX12, flX12_278⟩
theorem wX12_278 : GFw RX12 278 12 22 := ⟨RX12, TX12, 35, tyX12, rfl, by decide, uX12, flX12_278, tyX12_ok, nmX12, rfl, Or.inl rfl⟩
set_option maxRecDepth 100000 in
theorem flX12_301 : Cond.fieldLink RX12 301 "KnowsLeastModel" "x" "I" ∈ TB := TB_of (tin_5 (TB_at 187 rfl)) rfl
theorem fX12_301 : GF RX12 301 12 23 := ⟨RX12, TX12, 35, rfl, by decide, uX12, flX12_301⟩
theorem wX12_301 : GFw RX12 301 12 23 := ⟨RX12, TX12, 35, tyX12, rfl, by decide, uX12, flX12_301, tyX12_ok, nmX12, rfl, Or.inl rfl⟩
set_option maxRecDepth 100000 in
theorem flX12_48 : Cond.fieldLink RX12 48 "KnowsLeastModel" "knownOf" "[I" ∈ TB := TB_of (tin_5 (TB_at 188 rfl)) rfl
theorem fX12_48 : GF RX12 48 12 24 := ⟨RX12, TX12, 35, rfl, by decide, uX12, flX12_48⟩
set_option maxRecDepth 100000 in
theorem flX12_51 : Cond.fieldLink RX12 51 "KnowsLeastModel" "sizeOf" "[I" ∈ TB := TB_of (tin_5 (TB_at 189 rfl)) rfl
theorem fX12_51 : GF RX12 51 12 25 := ⟨RX12, TX12, 35, rfl, by decide, uX12, flX12_51⟩
set_option maxRecDepth 100000 in
theorem flX12_54 : Cond.fieldLink RX12 54 "KnowsLeastModel" "leastBy" "[I" ∈ TB := TB_of (tin_5 (TB_at 190 rfl)) rfl
theorem fX12_54 : GF RX12 54 12 26 := ⟨RX12, TX12, 35, rfl, by decide, uX12, flX12_54⟩
set_option maxRecDepth 100000 in
theorem flX12_57 : Cond.fieldLink RX12 57 "KnowsLeastModel" "mostBy" "[I" ∈ TB := TB_of (tin_5 (TB_at 191 rfl)) rfl
theorem fX12_57 : GF RX12 57 12 27 := ⟨RX12, TX12, 35, rfl, by decide, uX12, flX12_57⟩
set_option maxRecDepth 100000 in
theorem flX12_60 : Cond.fieldLink RX12 60 "KnowsLeastModel" "questions" "[I" ∈ TB := TB_of (tin_5 (TB_at 192 rfl)) rfl
theorem fX12_60 : GF RX12 60 12 28 := ⟨RX12, TX12, 35, rfl, by decide, uX12, flX12_60⟩
set_option maxRecDepth 100000 in
theorem flX12_63 : Cond.fieldLink RX12 63 "KnowsLeastModel" "best" "[I" ∈ TB := TB_of (tin_5 (TB_at 193 rfl)) rfl
theorem fX12_63 : GF RX12 63 12 29 := ⟨RX12, TX12, 35, rfl, by decide, uX12, flX12_63⟩
set_option maxRecDepth 100000 in
theorem flX12_66 : Cond.fieldLink RX12 66 "KnowsLeastModel" "judges" "[I" ∈ TB := TB_of (tin_5 (TB_at 194 rfl)) rfl
theorem fX12_66 : GF RX12 66 12 30 := ⟨RX12, TX12, 35, rfl, by decide, uX12, flX12_66⟩
set_option maxRecDepth 100000 in
theorem flX12_70 : Cond.fieldLink RX12 70 "KnowsLeastModel" "worst" "[I" ∈ TB := TB_of (tin_5 (TB_at 195 rfl)) rfl
theorem fX12_70 : GF RX12 70 12 31 := ⟨RX12, TX12, 35, rfl, by decide, uX12, flX12_70⟩
set_option maxRecDepth 100000 in
theorem flX12_73 : Cond.fieldLink RX12 73 "KnowsLeastModel" "rowSort" "[I" ∈ TB := TB_of (tin_5 (TB_at 196 rfl)) rfl
theorem fX12_73 : GF RX12 73 12 32 := ⟨RX12, TX12, 35, rfl, by decide, uX12, flX12_73⟩
set_option maxRecDepth 100000 in
theorem flX12_76 : Cond.fieldLink RX12 76 "KnowsLeastModel" "rowMany" "[I" ∈ TB := TB_of (tin_5 (TB_at 197 rfl)) rfl
theorem fX12_76 : GF RX12 76 12 33 := ⟨RX12, TX12, 35, rfl, by decide, uX12, flX12_76⟩
set_option maxRecDepth 100000 in
theorem flX12_79 : Cond.fieldLink RX12 79 "KnowsLeastModel" "numbers" "[J" ∈ TB := TB_of (tin_5 (TB_at 198 rfl)) rfl
theorem fX12_79 : GF RX12 79 12 34 := ⟨RX12, TX12, 35, rfl, by decide, uX12, flX12_79⟩
set_option maxRecDepth 100000 in
theorem lL_17 : Cond.methodLink RL 17 yX12_feed ∈ TB := TB_of (tin_6 (TB_at 30 rfl)) rfl
set_option maxRecDepth 100000 in
theorem lL_22 : Cond.methodLink RL 22 yX12_land ∈ TB := TB_of (tin_6 (TB_at 34 rfl)) rfl
set_option maxRecDepth 100000 in
theorem lX12_145 : Cond.methodLink RX12 145 yX12_within ∈ TB := TB_of (tin_6 (TB_at 38 rfl)) rfl
set_option maxRecDepth 100000 in
theorem lX12_138 : Cond.methodLink RX12 138 yX12_next ∈ TB := TB_of (tin_6 (TB_at 41 rfl)) rfl
set_option maxRecDepth 100000 in
theorem lX12_107 : Cond.methodLink RX12 107 yX12_see ∈ TB := TB_of (tin_6 (TB_at 45 rfl)) rfl
set_option maxRecDepth 100000 in
theorem lX12_114 : Cond.methodLink RX12 114 yX12_isSmall ∈ TB := TB_of (tin_6 (TB_at 49 rfl)) rfl
set_option maxRecDepth 100000 in
theorem lX12_118 : Cond.methodLink RX12 118 yX12_keyAt ∈ TB := TB_of (tin_6 (TB_at 52 rfl)) rfl
set_option maxRecDepth 100000 in
theorem lX12_91 : Cond.methodLink RX12 91 yJ0_length_8abf5 ∈ TB := TB_of (tin_6 (TB_at 57 rfl)) rfl
set_option maxRecDepth 100000 in
theorem lX12_97 : Cond.methodLink RX12 97 yJ0_charAt_5068e ∈ TB := TB_of (tin_6 (TB_at 58 rfl)) rfl
set_option maxRecDepth 100000 in
theorem lX12_121 : Cond.methodLink RX12 121 yX12_isDigit ∈ TB := TB_of (tin_6 (TB_at 59 rfl)) rfl
set_option maxRecDepth 100000 in
theorem lX12_135 : Cond.methodLink RX12 135 yX12_is ∈ TB := TB_of (tin_6 (TB_at 63 rfl)) rfl
set_option maxRecDepth 100000 in
theorem lX12_200 : Cond.methodLink RX12 200 yX12_readWorld ∈ TB := TB_of (tin_6 (TB_at 67 rfl)) rfl
set_option maxRecDepth 100000 in
theorem lX12_141 : Cond.methodLink RX12 141 yX12_fails ∈ TB := TB_of (tin_6 (TB_at 71 rfl)) rfl
set_option maxRecDepth 100000 in
theorem lX12_149 : Cond.methodLink RX12 149 yX12_takes ∈ TB := TB_of (tin_6 (TB_at 75 rfl)) rfl
set_option maxRecDepth 100000 in
theorem lX12_153 : Cond.methodLink RX12 153 yX12_eats ∈ TB := TB_of (tin_6 (TB_at 79 rfl)) rfl
set_option maxRecDepth 100000 in
theorem lX12_203 : Cond.methodLink RX12 203 yX12_readFact ∈ TB := TB_of (tin_6 (TB_at 83 rfl)) rfl
set_option maxRecDepth 100000 in
theorem lX12_183 : Cond.methodLink RX12 183 yX12_readTruth ∈ TB := TB_of (tin_6 (TB_at 87 rfl)) rfl
set_option maxRecDepth 100000 in
theorem lX12_186 : Cond.methodLink RX12 186 yX12_readBoth ∈ TB := TB_of (tin_6 (TB_at 91 rfl)) rfl
set_option maxRecDepth 100000 in
theorem lX12_180 : Cond.methodLink RX12 180 yX12_readUnit ∈ TB := TB_of (tin_6 (TB_at 95 rfl)) rfl
set_option maxRecDepth 100000 in
theorem lX12_168 : Cond.methodLink RX12 168 yX12_goesIn ∈ TB := TB_of (tin_6 (TB_at 99 rfl)) rfl
set_option maxRecDepth 100000 in
theorem lX12_159 : Cond.methodLink RX12 159 yX12_tells ∈ TB := TB_of (tin_6 (TB_at 103 rfl)) rfl
set_option maxRecDepth 100000 in
theorem lX12_171 : Cond.methodLink RX12 171 yX12_readSum ∈ TB := TB_of (tin_6 (TB_at 107 rfl)) rfl
set_option maxRecDepth 100000 in
theorem lX12_177 : Cond.methodLink RX12 177 yX12_readTerm ∈ TB := TB_of (tin_6 (TB_at 111 rfl)) rfl
set_option maxRecDepth 100000 in
theorem lX12_174 : Cond.methodLink RX12 174 yX12_readAtom ∈ TB := TB_of (tin_6 (TB_at 115 rfl)) rfl
set_option maxRecDepth 100000 in
theorem cvX12_162 : Cond.constantLong RX12 162 (2) ∈ TB := TB_of (tin_6 (TB_at 119 rfl)) rfl
set_option maxRecDepth 100000 in
theorem cvX12_164 : Cond.constantLong RX12 164 (12) ∈ TB := TB_of (tin_6 (TB_at 120 rfl)) rfl
set_option maxRecDepth 100000 in
theorem cvX12_166 : Cond.constantLong RX12 166 (14) ∈ TB := TB_of (tin_6 (TB_at 121 rfl)) rfl
set_option maxRecDepth 100000 in
theorem lX12_206 : Cond.methodLink RX12 206 yX12_readPerson ∈ TB := TB_of (tin_6 (TB_at 122 rfl)) rfl
set_option maxRecDepth 100000 in
theorem lX12_209 : Cond.methodLink RX12 209 yX12_readRoad ∈ TB := TB_of (tin_6 (TB_at 126 rfl)) rfl
set_option maxRecDepth 100000 in
theorem lX12_212 : Cond.methodLink RX12 212 yX12_readHint ∈ TB := TB_of (tin_6 (TB_at 130 rfl)) rfl
set_option maxRecDepth 100000 in
theorem lX12_218 : Cond.methodLink RX12 218 yX12_holdsIn ∈ TB := TB_of (tin_6 (TB_at 134 rfl)) rfl
set_option maxRecDepth 100000 in
theorem lX12_193 : Cond.methodLink RX12 193 yX12_wordOf ∈ TB := TB_of (tin_6 (TB_at 138 rfl)) rfl
set_option maxRecDepth 100000 in
theorem lX12_196 : Cond.methodLink RX12 196 yX12_between ∈ TB := TB_of (tin_6 (TB_at 142 rfl)) rfl
set_option maxRecDepth 100000 in
theorem cvX12_189 : Cond.constantLong RX12 189 (1000000) ∈ TB := TB_of (tin_6 (TB_at 145 rfl)) rfl
set_option maxRecDepth 100000 in
theorem cvX12_191 : Cond.constantLong RX12 191 (-1000000) ∈ TB := TB_of (tin_6 (TB_at 146 rfl)) rfl
set_option maxRecDepth 100000 in
theorem lL_26 : Cond.methodLink RL 26 yX12_fault ∈ TB := TB_of (tin_6 (TB_at 147 rfl)) rfl
set_option maxRecDepth 100000 in
theorem lL_31 : Cond.methodLink RL 31 yX12_world ∈ TB := TB_of (tin_6 (TB_at 151 rfl)) rfl
set_option maxRecDepth 100000 in
theorem lX12_235 : Cond.methodLink RX12 235 yX12_isWorld ∈ TB := TB_of (tin_6 (TB_at 155 rfl)) rfl
set_option maxRecDepth 100000 in
theorem lX12_238 : Cond.methodLink RX12 238 yX12_factsOf ∈ TB := TB_of (tin_6 (TB_at 159 rfl)) rfl
set_option maxRecDepth 100000 in
theorem lX12_222 : Cond.methodLink RX12 222 yX12_isIn ∈ TB := TB_of (tin_6 (TB_at 163 rfl)) rfl
set_option maxRecDepth 100000 in
theorem lL_35 : Cond.methodLink RL 35 yX12_fact ∈ TB := TB_of (tin_6 (TB_at 166 rfl)) rfl
set_option maxRecDepth 100000 in
theorem lX12_241 : Cond.methodLink RX12 241 yX12_isFact ∈ TB := TB_of (tin_6 (TB_at 170 rfl)) rfl
set_option maxRecDepth 100000 in
theorem lL_39 : Cond.methodLink RL 39 yX12_person ∈ TB := TB_of (tin_6 (TB_at 174 rfl)) rfl
set_option maxRecDepth 100000 in
theorem lX12_245 : Cond.methodLink RX12 245 yX12_isPerson ∈ TB := TB_of (tin_6 (TB_at 178 rfl)) rfl
set_option maxRecDepth 100000 in
theorem lX12_248 : Cond.methodLink RX12 248 yX12_cellNow ∈ TB := TB_of (tin_6 (TB_at 182 rfl)) rfl
set_option maxRecDepth 100000 in
theorem lX12_232 : Cond.methodLink RX12 232 yX12_cellOf ∈ TB := TB_of (tin_6 (TB_at 186 rfl)) rfl
set_option maxRecDepth 100000 in
theorem lX12_226 : Cond.methodLink RX12 226 yX12_worlds ∈ TB := TB_of (tin_6 (TB_at 190 rfl)) rfl
set_option maxRecDepth 100000 in
theorem lX12_251 : Cond.methodLink RX12 251 yX12_knownIn ∈ TB := TB_of (tin_6 (TB_at 194 rfl)) rfl
set_option maxRecDepth 100000 in
theorem lX12_229 : Cond.methodLink RX12 229 yX12_isPlain ∈ TB := TB_of (tin_6 (TB_at 198 rfl)) rfl
set_option maxRecDepth 100000 in
theorem lX12_254 : Cond.methodLink RX12 254 yX12_guilty ∈ TB := TB_of (tin_6 (TB_at 201 rfl)) rfl
set_option maxRecDepth 100000 in
theorem lL_43 : Cond.methodLink RL 43 yX12_hints ∈ TB := TB_of (tin_6 (TB_at 205 rfl)) rfl
set_option maxRecDepth 100000 in
theorem lL_47 : Cond.methodLink RL 47 yX12_knows ∈ TB := TB_of (tin_6 (TB_at 209 rfl)) rfl
set_option maxRecDepth 100000 in
theorem lL_51 : Cond.methodLink RL 51 yX12_cell ∈ TB := TB_of (tin_6 (TB_at 213 rfl)) rfl
set_option maxRecDepth 100000 in
theorem lL_55 : Cond.methodLink RL 55 yX12_tell ∈ TB := TB_of (tin_6 (TB_at 217 rfl)) rfl
set_option maxRecDepth 100000 in
theorem lX12_260 : Cond.methodLink RX12 260 yX12_keeps ∈ TB := TB_of (tin_6 (TB_at 221 rfl)) rfl
set_option maxRecDepth 100000 in
theorem lX12_263 : Cond.methodLink RX12 263 yX12_notes ∈ TB := TB_of (tin_6 (TB_at 225 rfl)) rfl
set_option maxRecDepth 100000 in
theorem lX12_266 : Cond.methodLink RX12 266 yX12_bitsOf ∈ TB := TB_of (tin_6 (TB_at 229 rfl)) rfl
set_option maxRecDepth 100000 in
theorem lL_59 : Cond.methodLink RL 59 yX12_ask ∈ TB := TB_of (tin_6 (TB_at 232 rfl)) rfl
set_option maxRecDepth 100000 in
theorem lX12_269 : Cond.methodLink RX12 269 yX12_asks ∈ TB := TB_of (tin_6 (TB_at 236 rfl)) rfl
set_option maxRecDepth 100000 in
theorem lX12_257 : Cond.methodLink RX12 257 yX12_knowsNow ∈ TB := TB_of (tin_7 (TB_at 0 rfl)) rfl
set_option maxRecDepth 100000 in
theorem lL_63 : Cond.methodLink RL 63 yX12_days ∈ TB := TB_of (tin_7 (TB_at 4 rfl)) rfl
set_option maxRecDepth 100000 in
theorem cvX12_272 : Cond.constantLong RX12 272 (60) ∈ TB := TB_of (tin_7 (TB_at 8 rfl)) rfl
set_option maxRecDepth 100000 in
theorem lX12_274 : Cond.methodLink RX12 274 yX12_daysOne ∈ TB := TB_of (tin_7 (TB_at 9 rfl)) rfl
set_option maxRecDepth 100000 in
theorem lL_67 : Cond.methodLink RL 67 yX12_isTrue ∈ TB := TB_of (tin_7 (TB_at 13 rfl)) rfl
set_option maxRecDepth 100000 in
theorem lL_71 : Cond.methodLink RL 71 yX12_undo ∈ TB := TB_of (tin_7 (TB_at 17 rfl)) rfl
set_option maxRecDepth 100000 in
theorem lL_75 : Cond.methodLink RL 75 yX12_judge ∈ TB := TB_of (tin_7 (TB_at 21 rfl)) rfl
set_option maxRecDepth 100000 in
theorem cvX12_289 : Cond.constantLong RX12 289 (3) ∈ TB := TB_of (tin_7 (TB_at 25 rfl)) rfl
set_option maxRecDepth 100000 in
theorem lX12_291 : Cond.methodLink RX12 291 yX12_doesAll ∈ TB := TB_of (tin_7 (TB_at 26 rfl)) rfl
set_option maxRecDepth 100000 in
theorem cvX12_281 : Cond.constantLong RX12 281 (-1) ∈ TB := TB_of (tin_7 (TB_at 30 rfl)) rfl
set_option maxRecDepth 100000 in
theorem cvX12_283 : Cond.constantLong RX12 283 (100) ∈ TB := TB_of (tin_7 (TB_at 31 rfl)) rfl
set_option maxRecDepth 100000 in
theorem cvX12_285 : Cond.constantLong RX12 285 (10) ∈ TB := TB_of (tin_7 (TB_at 32 rfl)) rfl
set_option maxRecDepth 100000 in
theorem cvX12_287 : Cond.constantLong RX12 287 (199) ∈ TB := TB_of (tin_7 (TB_at 33 rfl)) rfl
set_option maxRecDepth 100000 in
theorem lX12_294 : Cond.methodLink RX12 294 yX12_leastOf ∈ TB := TB_of (tin_7 (TB_at 34 rfl)) rfl
set_option maxRecDepth 100000 in
theorem lX12_324 : Cond.methodLink RX12 324 yX12_measureOf ∈ TB := TB_of (tin_7 (TB_at 38 rfl)) rfl
set_option maxRecDepth 100000 in
theorem lX12_321 : Cond.methodLink RX12 321 yX12_weightOf ∈ TB := TB_of (tin_7 (TB_at 42 rfl)) rfl
set_option maxRecDepth 100000 in
theorem lX12_297 : Cond.methodLink RX12 297 yX12_isAgain ∈ TB := TB_of (tin_7 (TB_at 46 rfl)) rfl
set_option maxRecDepth 100000 in
theorem lL_79 : Cond.methodLink RL 79 yX12_perform ∈ TB := TB_of (tin_7 (TB_at 50 rfl)) rfl
set_option maxRecDepth 100000 in
theorem lL_83 : Cond.methodLink RL 83 yX12_year ∈ TB := TB_of (tin_7 (TB_at 54 rfl)) rfl
set_option maxRecDepth 100000 in
theorem lX12_307 : Cond.methodLink RX12 307 yX12_comes ∈ TB := TB_of (tin_7 (TB_at 58 rfl)) rfl
set_option maxRecDepth 100000 in
theorem lX12_304 : Cond.methodLink RX12 304 yX12_draw ∈ TB := TB_of (tin_7 (TB_at 62 rfl)) rfl
set_option maxRecDepth 100000 in
theorem cvX12_300 : Cond.constant RX12 300 (1103515245) ∈ TB := TB_of (tin_7 (TB_at 66 rfl)) rfl
set_option maxRecDepth 100000 in
theorem lL_87 : Cond.methodLink RL 87 yX12_everyone ∈ TB := TB_of (tin_7 (TB_at 67 rfl)) rfl
set_option maxRecDepth 100000 in
theorem lL_91 : Cond.methodLink RL 91 yX12_depth ∈ TB := TB_of (tin_7 (TB_at 71 rfl)) rfl
set_option maxRecDepth 100000 in
theorem lX12_313 : Cond.methodLink RX12 313 yX12_depthOf ∈ TB := TB_of (tin_7 (TB_at 75 rfl)) rfl
set_option maxRecDepth 100000 in
theorem lX12_310 : Cond.methodLink RX12 310 yX12_knownBy ∈ TB := TB_of (tin_7 (TB_at 79 rfl)) rfl
set_option maxRecDepth 100000 in
theorem lL_96 : Cond.methodLink RL 96 yX12_common ∈ TB := TB_of (tin_7 (TB_at 83 rfl)) rfl
set_option maxRecDepth 100000 in
theorem lL_100 : Cond.methodLink RL 100 yX12_reach ∈ TB := TB_of (tin_7 (TB_at 87 rfl)) rfl
set_option maxRecDepth 100000 in
theorem cvX12_316 : Cond.constantLong RX12 316 (20) ∈ TB := TB_of (tin_7 (TB_at 91 rfl)) rfl
set_option maxRecDepth 100000 in
theorem lL_104 : Cond.methodLink RL 104 yX12_together ∈ TB := TB_of (tin_7 (TB_at 92 rfl)) rfl
set_option maxRecDepth 100000 in
theorem lX12_318 : Cond.methodLink RX12 318 yX12_togetherOf ∈ TB := TB_of (tin_7 (TB_at 96 rfl)) rfl
set_option maxRecDepth 100000 in
theorem lL_108 : Cond.methodLink RL 108 yX12_witnesses ∈ TB := TB_of (tin_7 (TB_at 100 rfl)) rfl
set_option maxRecDepth 100000 in
theorem lL_112 : Cond.methodLink RL 112 yX12_parting ∈ TB := TB_of (tin_7 (TB_at 104 rfl)) rfl
set_option maxRecDepth 100000 in
theorem lL_116 : Cond.methodLink RL 116 yX12_measure ∈ TB := TB_of (tin_7 (TB_at 108 rfl)) rfl
set_option maxRecDepth 100000 in
theorem lX12_327 : Cond.methodLink RX12 327 yX12_measureNow ∈ TB := TB_of (tin_7 (TB_at 112 rfl)) rfl
set_option maxRecDepth 100000 in
theorem lL_120 : Cond.methodLink RL 120 yX12_least ∈ TB := TB_of (tin_7 (TB_at 116 rfl)) rfl
set_option maxRecDepth 100000 in
theorem lL_124 : Cond.methodLink RL 124 yX12_seats ∈ TB := TB_of (tin_7 (TB_at 120 rfl)) rfl
set_option maxRecDepth 100000 in
theorem lL_128 : Cond.methodLink RL 128 yX12_differ ∈ TB := TB_of (tin_7 (TB_at 124 rfl)) rfl
set_option maxRecDepth 100000 in
theorem lL_132 : Cond.methodLink RL 132 yX12_shown ∈ TB := TB_of (tin_7 (TB_at 128 rfl)) rfl
set_option maxRecDepth 100000 in
theorem lX12_347 : Cond.methodLink RX12 347 yX12_laysShown ∈ TB := TB_of (tin_7 (TB_at 132 rfl)) rfl
set_option maxRecDepth 100000 in
theorem lX12_338 : Cond.methodLink RX12 338 yX12_laysTold ∈ TB := TB_of (tin_7 (TB_at 136 rfl)) rfl
set_option maxRecDepth 100000 in
theorem lX12_330 : Cond.methodLink RX12 330 yX12_couldBe ∈ TB := TB_of (tin_7 (TB_at 140 rfl)) rfl
set_option maxRecDepth 100000 in
theorem lX12_341 : Cond.methodLink RX12 341 yX12_askedFor ∈ TB := TB_of (tin_7 (TB_at 144 rfl)) rfl
set_option maxRecDepth 100000 in
theorem lX12_344 : Cond.methodLink RX12 344 yX12_isBetter ∈ TB := TB_of (tin_7 (TB_at 148 rfl)) rfl
set_option maxRecDepth 100000 in
theorem lX12_334 : Cond.methodLink RX12 334 yX12_askedMany ∈ TB := TB_of (tin_7 (TB_at 152 rfl)) rfl
set_option maxRecDepth 100000 in
theorem lL_137 : Cond.methodLink RL 137 yX12_appeals ∈ TB := TB_of (tin_7 (TB_at 156 rfl)) rfl
set_option maxRecDepth 100000 in
theorem lL_142 : Cond.methodLink RL 142 yX12_parties ∈ TB := TB_of (tin_7 (TB_at 160 rfl)) rfl
set_option maxRecDepth 100000 in
theorem lX12_350 : Cond.methodLink RX12 350 yX12_choices ∈ TB := TB_of (tin_7 (TB_at 164 rfl)) rfl
set_option maxRecDepth 100000 in
theorem lX12_353 : Cond.methodLink RX12 353 yX12_tellsChoice ∈ TB := TB_of (tin_7 (TB_at 168 rfl)) rfl
set_option maxRecDepth 100000 in
theorem lX12_356 : Cond.methodLink RX12 356 yX12_isRest ∈ TB := TB_of (tin_7 (TB_at 172 rfl)) rfl
set_option maxRecDepth 100000 in
theorem lX12_360 : Cond.methodLink RX12 360 yX12_codeOf ∈ TB := TB_of (tin_7 (TB_at 176 rfl)) rfl
set_option maxRecDepth 100000 in
theorem lL_146 : Cond.methodLink RL 146 yX12_inform ∈ TB := TB_of (tin_7 (TB_at 180 rfl)) rfl
set_option maxRecDepth 100000 in
theorem lL_150 : Cond.methodLink RL 150 yX12_trial ∈ TB := TB_of (tin_7 (TB_at 184 rfl)) rfl
set_option maxRecDepth 100000 in
theorem lX12_366 : Cond.methodLink RX12 366 yX12_worstOf ∈ TB := TB_of (tin_7 (TB_at 188 rfl)) rfl
set_option maxRecDepth 100000 in
theorem lX12_363 : Cond.methodLink RX12 363 yX12_worstBy ∈ TB := TB_of (tin_7 (TB_at 192 rfl)) rfl
set_option maxRecDepth 100000 in
theorem lL_154 : Cond.methodLink RL 154 yX12_brief ∈ TB := TB_of (tin_7 (TB_at 196 rfl)) rfl
set_option maxRecDepth 100000 in
theorem lL_158 : Cond.methodLink RL 158 yX12_right ∈ TB := TB_of (tin_7 (TB_at 200 rfl)) rfl
set_option maxRecDepth 100000 in
theorem lX12_369 : Cond.methodLink RX12 369 yX12_isRight ∈ TB := TB_of (tin_7 (TB_at 204 rfl)) rfl
set_option maxRecDepth 100000 in
theorem lL_162 : Cond.methodLink RL 162 yX12_justice ∈ TB := TB_of (tin_7 (TB_at 208 rfl)) rfl
set_option maxRecDepth 100000 in
theorem lX12_372 : Cond.methodLink RX12 372 yX12_justiceOf ∈ TB := TB_of (tin_7 (TB_at 212 rfl)) rfl
set_option maxRecDepth 100000 in
theorem lL_166 : Cond.methodLink RL 166 yX12_bestLaw ∈ TB := TB_of (tin_7 (TB_at 216 rfl)) rfl
set_option maxRecDepth 100000 in
theorem lL_170 : Cond.methodLink RL 170 yX12_news ∈ TB := TB_of (tin_7 (TB_at 220 rfl)) rfl
set_option maxRecDepth 100000 in
theorem lX12_375 : Cond.methodLink RX12 375 yX12_newsOf ∈ TB := TB_of (tin_7 (TB_at 224 rfl)) rfl
set_option maxRecDepth 100000 in
theorem lL_174 : Cond.methodLink RL 174 yX12_latest ∈ TB := TB_of (tin_7 (TB_at 228 rfl)) rfl
set_option maxRecDepth 100000 in
theorem lL_178 : Cond.methodLink RL 178 yX12_leastIn ∈ TB := TB_of (tin_7 (TB_at 232 rfl)) rfl
set_option maxRecDepth 100000 in
theorem lL_182 : Cond.methodLink RL 182 yX12_calm ∈ TB := TB_of (tin_7 (TB_at 236 rfl)) rfl
set_option maxRecDepth 100000 in
theorem lL_186 : Cond.methodLink RL 186 yX12_fitting ∈ TB := TB_of (tin_8 (TB_at 0 rfl)) rfl
set_option maxRecDepth 100000 in
theorem lX12_380 : Cond.methodLink RX12 380 yX12_noRow ∈ TB := TB_of (tin_8 (TB_at 4 rfl)) rfl
set_option maxRecDepth 100000 in
theorem cvX12_378 : Cond.constantLong RX12 378 (8) ∈ TB := TB_of (tin_8 (TB_at 8 rfl)) rfl
set_option maxRecDepth 100000 in
theorem lX12_383 : Cond.methodLink RX12 383 yX12_isFit ∈ TB := TB_of (tin_8 (TB_at 9 rfl)) rfl
set_option maxRecDepth 100000 in
theorem lL_190 : Cond.methodLink RL 190 yX12_sure ∈ TB := TB_of (tin_8 (TB_at 13 rfl)) rfl
set_option maxRecDepth 100000 in
theorem lL_194 : Cond.methodLink RL 194 yX12_questions ∈ TB := TB_of (tin_8 (TB_at 17 rfl)) rfl
set_option maxRecDepth 100000 in
theorem cvX12_389 : Cond.constantLong RX12 389 (4) ∈ TB := TB_of (tin_8 (TB_at 21 rfl)) rfl
set_option maxRecDepth 100000 in
theorem lX12_386 : Cond.methodLink RX12 386 yX12_rowsFrom ∈ TB := TB_of (tin_8 (TB_at 22 rfl)) rfl
set_option maxRecDepth 100000 in
theorem lL_198 : Cond.methodLink RL 198 yX12_numbers ∈ TB := TB_of (tin_8 (TB_at 26 rfl)) rfl
set_option maxRecDepth 100000 in
theorem cvX12_391 : Cond.constantLong RX12 391 (40) ∈ TB := TB_of (tin_8 (TB_at 30 rfl)) rfl
set_option maxRecDepth 100000 in
theorem lL_205 : Cond.methodLink RL 205 yX12_write ∈ TB := TB_of (tin_8 (TB_at 31 rfl)) rfl
set_option maxRecDepth 100000 in
theorem cvX12_393 : Cond.constantLong RX12 393 (-2) ∈ TB := TB_of (tin_8 (TB_at 35 rfl)) rfl
set_option maxRecDepth 100000 in
theorem cvX12_395 : Cond.constantLong RX12 395 (-6) ∈ TB := TB_of (tin_8 (TB_at 36 rfl)) rfl
set_option maxRecDepth 100000 in
theorem cvX12_397 : Cond.constantLong RX12 397 (-7) ∈ TB := TB_of (tin_8 (TB_at 37 rfl)) rfl
set_option maxRecDepth 100000 in
theorem lX12_399 : Cond.methodLink RX12 399 yX12_cut ∈ TB := TB_of (tin_8 (TB_at 38 rfl)) rfl
set_option maxRecDepth 100000 in
theorem lL_209 : Cond.methodLink RL 209 yX12_copy ∈ TB := TB_of (tin_8 (TB_at 41 rfl)) rfl
set_option maxRecDepth 100000 in
theorem lL_213 : Cond.methodLink RL 213 yX12_image ∈ TB := TB_of (tin_8 (TB_at 45 rfl)) rfl
set_option maxRecDepth 100000 in
theorem lL_217 : Cond.methodLink RL 217 yX12_restore ∈ TB := TB_of (tin_8 (TB_at 49 rfl)) rfl
set_option maxRecDepth 100000 in
theorem lL_221 : Cond.methodLink RL 221 yX12_count ∈ TB := TB_of (tin_8 (TB_at 53 rfl)) rfl
set_option maxRecDepth 100000 in
theorem lX12_403 : Cond.methodLink RX12 403 yX12_roadMany ∈ TB := TB_of (tin_8 (TB_at 57 rfl)) rfl
set_option maxRecDepth 100000 in
theorem cvL_199 : Cond.constantLong RL 199 (4294967295) ∈ TB := TB_of (tin_8 (TB_at 61 rfl)) rfl
set_option maxRecDepth 100000 in
theorem flJ0_9 : Cond.fieldLink RJ0 9 "java/lang/String" "value" "[B" ∈ TB := TB_of (tin_8 (TB_at 62 rfl)) rfl
set_option maxRecDepth 100000 in
theorem flJ0_15 : Cond.fieldLink RJ0 15 "java/lang/String" "coder" "B" ∈ TB := TB_of (tin_8 (TB_at 63 rfl)) rfl
set_option maxRecDepth 100000 in
theorem cp_nat : Cond.native arraycopyName ∈ TB := TB_of (tin_3 (TB_at 147 rfl)) rfl
set_option maxRecDepth 100000 in
theorem cp_st : Cond.static arraycopyName ∈ TB := TB_of (tin_3 (TB_at 146 rfl)) rfl
set_option maxRecDepth 100000 in
theorem lX2_49 : Cond.methodLink RX2 49 arraycopyName ∈ TB := TB_of (tin_3 (TB_at 145 rfl)) rfl
set_option maxRecDepth 100000 in
theorem lX8_28 : Cond.methodLink RX8 28 arraycopyName ∈ TB := TB_of (tin_3 (TB_at 152 rfl)) rfl
set_option maxRecDepth 100000 in
theorem lX4_19 : Cond.methodLink RX4 19 arraycopyName ∈ TB := TB_of (tin_3 (TB_at 238 rfl)) rfl
set_option maxRecDepth 100000 in
theorem lX3_51 : Cond.methodLink RX3 51 arraycopyName ∈ TB := TB_of (tin_4 (TB_at 229 rfl)) rfl
theorem tfX0_3 : ∃ C T N, vwCl[0]? = some (C, T, N) ∧ parseFieldDescriptor (T 3).2.2.1 = some .int := ⟨_, _, _, rfl, by decide +kernel⟩
theorem tfX2_5 : ∃ C T N, vwCl[2]? = some (C, T, N) ∧ parseFieldDescriptor (T 5).2.2.1 = some .int := ⟨_, _, _, rfl, by decide +kernel⟩
theorem tfX2_6 : ∃ C T N, vwCl[2]? = some (C, T, N) ∧ parseFieldDescriptor (T 6).2.2.1 = some .int := ⟨_, _, _, rfl, by decide +kernel⟩
theorem tfX2_7 : ∃ C T N, vwCl[2]? = some (C, T, N) ∧ parseFieldDescriptor (T 7).2.2.1 = some .int := ⟨_, _, _, rfl, by decide +kernel⟩
theorem tfX2_8 : ∃ C T N, vwCl[2]? = some (C, T, N) ∧ parseFieldDescriptor (T 8).2.2.1 = some .int := ⟨_, _, _, rfl, by decide +kernel⟩
theorem tfX2_9 : ∃ C T N, vwCl[2]? = some (C, T, N) ∧ parseFieldDescriptor (T 9).2.2.1 = some .int := ⟨_, _, _, rfl, by decide +kernel⟩
theorem tfX3_4 : ∃ C T N, vwCl[3]? = some (C, T, N) ∧ parseFieldDescriptor (T 4).2.2.1 = some .int := ⟨_, _, _, rfl, by decide +kernel⟩
theorem tfX3_5 : ∃ C T N, vwCl[3]? = some (C, T, N) ∧ parseFieldDescriptor (T 5).2.2.1 = some .int := ⟨_, _, _, rfl, by decide +kernel⟩
theorem tfX3_6 : ∃ C T N, vwCl[3]? = some (C, T, N) ∧ parseFieldDescriptor (T 6).2.2.1 = some .int := ⟨_, _, _, rfl, by decide +kernel⟩
theorem tfX3_7 : ∃ C T N, vwCl[3]? = some (C, T, N) ∧ parseFieldDescriptor (T 7).2.2.1 = some .int := ⟨_, _, _, rfl, by decide +kernel⟩
theorem tfX3_8 : ∃ C T N, vwCl[3]? = some (C, T, N) ∧ parseFieldDescriptor (T 8).2.2.1 = some .int := ⟨_, _, _, rfl, by decide +kernel⟩
theorem tfX4_1 : ∃ C T N, vwCl[4]? = some (C, T, N) ∧ parseFieldDescriptor (T 1).2.2.1 = some .int := ⟨_, _, _, rfl, by decide +kernel⟩
theorem tfX5_4 : ∃ C T N, vwCl[5]? = some (C, T, N) ∧ parseFieldDescriptor (T 4).2.2.1 = some .int := ⟨_, _, _, rfl, by decide +kernel⟩
theorem tfX5_5 : ∃ C T N, vwCl[5]? = some (C, T, N) ∧ parseFieldDescriptor (T 5).2.2.1 = some .int := ⟨_, _, _, rfl, by decide +kernel⟩
theorem tfX5_6 : ∃ C T N, vwCl[5]? = some (C, T, N) ∧ parseFieldDescriptor (T 6).2.2.1 = some .int := ⟨_, _, _, rfl, by decide +kernel⟩
theorem tfX6_1 : ∃ C T N, vwCl[6]? = some (C, T, N) ∧ parseFieldDescriptor (T 1).2.2.1 = some .int := ⟨_, _, _, rfl, by decide +kernel⟩
theorem tfX6_2 : ∃ C T N, vwCl[6]? = some (C, T, N) ∧ parseFieldDescriptor (T 2).2.2.1 = some .int := ⟨_, _, _, rfl, by decide +kernel⟩
theorem tfX7_5 : ∃ C T N, vwCl[7]? = some (C, T, N) ∧ parseFieldDescriptor (T 5).2.2.1 = some .int := ⟨_, _, _, rfl, by decide +kernel⟩
theorem tfX8_2 : ∃ C T N, vwCl[8]? = some (C, T, N) ∧ parseFieldDescriptor (T 2).2.2.1 = some .int := ⟨_, _, _, rfl, by decide +kernel⟩
theorem tfX8_3 : ∃ C T N, vwCl[8]? = some (C, T, N) ∧ parseFieldDescriptor (T 3).2.2.1 = some .int := ⟨_, _, _, rfl, by decide +kernel⟩
theorem tfX9_3 : ∃ C T N, vwCl[9]? = some (C, T, N) ∧ parseFieldDescriptor (T 3).2.2.1 = some .int := ⟨_, _, _, rfl, by decide +kernel⟩
theorem tfX10_1 : ∃ C T N, vwCl[10]? = some (C, T, N) ∧ parseFieldDescriptor (T 1).2.2.1 = some .int := ⟨_, _, _, rfl, by decide +kernel⟩
theorem tfX11_11 : ∃ C T N, vwCl[11]? = some (C, T, N) ∧ parseFieldDescriptor (T 11).2.2.1 = some .int := ⟨_, _, _, rfl, by decide +kernel⟩
theorem tfX12_0 : ∃ C T N, vwCl[12]? = some (C, T, N) ∧ parseFieldDescriptor (T 0).2.2.1 = some .int := ⟨_, _, _, rfl, by decide +kernel⟩
theorem tfX12_8 : ∃ C T N, vwCl[12]? = some (C, T, N) ∧ parseFieldDescriptor (T 8).2.2.1 = some .int := ⟨_, _, _, rfl, by decide +kernel⟩
theorem tfX12_9 : ∃ C T N, vwCl[12]? = some (C, T, N) ∧ parseFieldDescriptor (T 9).2.2.1 = some .int := ⟨_, _, _, rfl, by decide +kernel⟩
theorem tfX12_10 : ∃ C T N, vwCl[12]? = some (C, T, N) ∧ parseFieldDescriptor (T 10).2.2.1 = some .int := ⟨_, _, _, rfl, by decide +kernel⟩
theorem tfX12_11 : ∃ C T N, vwCl[12]? = some (C, T, N) ∧ parseFieldDescriptor (T 11).2.2.1 = some .int := ⟨_, _, _, rfl, by decide +kernel⟩
theorem tfX12_12 : ∃ C T N, vwCl[12]? = some (C, T, N) ∧ parseFieldDescriptor (T 12).2.2.1 = some .int := ⟨_, _, _, rfl, by decide +kernel⟩
theorem tfX12_13 : ∃ C T N, vwCl[12]? = some (C, T, N) ∧ parseFieldDescriptor (T 13).2.2.1 = some .int := ⟨_, _, _, rfl, by decide +kernel⟩
theorem tfX12_14 : ∃ C T N, vwCl[12]? = some (C, T, N) ∧ parseFieldDescriptor (T 14).2.2.1 = some .int := ⟨_, _, _, rfl, by decide +kernel⟩
theorem tfX12_15 : ∃ C T N, vwCl[12]? = some (C, T, N) ∧ parseFieldDescriptor (T 15).2.2.1 = some .int := ⟨_, _, _, rfl, by decide +kernel⟩
theorem tfX12_16 : ∃ C T N, vwCl[12]? = some (C, T, N) ∧ parseFieldDescriptor (T 16).2.2.1 = some .int := ⟨_, _, _, rfl, by decide +kernel⟩
theorem tfX12_17 : ∃ C T N, vwCl[12]? = some (C, T, N) ∧ parseFieldDescriptor (T 17).2.2.1 = some .int := ⟨_, _, _, rfl, by decide +kernel⟩
theorem tfX12_18 : ∃ C T N, vwCl[12]? = some (C, T, N) ∧ parseFieldDescriptor (T 18).2.2.1 = some .int := ⟨_, _, _, rfl, by decide +kernel⟩
theorem tfX12_22 : ∃ C T N, vwCl[12]? = some (C, T, N) ∧ parseFieldDescriptor (T 22).2.2.1 = some .int := ⟨_, _, _, rfl, by decide +kernel⟩
theorem tfX12_23 : ∃ C T N, vwCl[12]? = some (C, T, N) ∧ parseFieldDescriptor (T 23).2.2.1 = some .int := ⟨_, _, _, rfl, by decide +kernel⟩
