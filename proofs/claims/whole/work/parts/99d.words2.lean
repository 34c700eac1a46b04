set_option maxRecDepth 100000 in
theorem im_obj : Cond.instanceMethod Lib.objectInit ∈ TB := TB_of (tin_1 (TB_at 28 rfl)) rfl
set_option maxRecDepth 100000 in
theorem cd_obj : Cond.code Lib.objectInit ⟨#[0xb1]⟩ 1 none ∈ TB := TB_of (tin_1 (TB_at 29 rfl)) rfl
set_option maxRecDepth 100000 in
theorem clL_7 : Cond.classLink RL 7 RX11 ∈ TB := TB_of (tin_1 (TB_at 22 rfl)) rfl
set_option maxRecDepth 100000 in
theorem insX11 : Cond.instantiable RX11 12 ∈ TB := TB_of (tin_1 (TB_at 23 rfl)) rfl
set_option maxRecDepth 100000 in
theorem imX11_init : Cond.instanceMethod yX11_init ∈ TB := TB_of (tin_1 (TB_at 25 rfl)) rfl
set_option maxRecDepth 100000 in
theorem cdX11_init : Cond.code yX11_init cX11_init 2 none ∈ TB := TB_of (tin_1 (TB_at 26 rfl)) rfl
set_option maxRecDepth 100000 in
theorem lX11_3 : Cond.methodLink RX11 3 Lib.objectInit ∈ TB := TB_of (tin_1 (TB_at 27 rfl)) rfl
set_option maxRecDepth 100000 in
theorem clX11_13 : Cond.classLink RX11 13 RX5 ∈ TB := TB_of (tin_1 (TB_at 30 rfl)) rfl
set_option maxRecDepth 100000 in
theorem insX5 : Cond.instantiable RX5 7 ∈ TB := TB_of (tin_1 (TB_at 31 rfl)) rfl
set_option maxRecDepth 100000 in
theorem imX5_init : Cond.instanceMethod yX5_init ∈ TB := TB_of (tin_1 (TB_at 33 rfl)) rfl
set_option maxRecDepth 100000 in
theorem cdX5_init : Cond.code yX5_init cX5_init 1 none ∈ TB := TB_of (tin_1 (TB_at 34 rfl)) rfl
set_option maxRecDepth 100000 in
theorem lX5_3 : Cond.methodLink RX5 3 Lib.objectInit ∈ TB := TB_of (tin_1 (TB_at 35 rfl)) rfl
set_option maxRecDepth 100000 in
theorem clX5_9 : Cond.classLink RX5 9 RX9 ∈ TB := TB_of (tin_1 (TB_at 36 rfl)) rfl
set_option maxRecDepth 100000 in
theorem insX9 : Cond.instantiable RX9 4 ∈ TB := TB_of (tin_1 (TB_at 37 rfl)) rfl
set_option maxRecDepth 100000 in
theorem imX9_init : Cond.instanceMethod yX9_init ∈ TB := TB_of (tin_1 (TB_at 39 rfl)) rfl
set_option maxRecDepth 100000 in
theorem cdX9_init : Cond.code yX9_init cX9_init 1 none ∈ TB := TB_of (tin_1 (TB_at 40 rfl)) rfl
set_option maxRecDepth 100000 in
theorem lX9_3 : Cond.methodLink RX9 3 Lib.objectInit ∈ TB := TB_of (tin_1 (TB_at 41 rfl)) rfl
set_option maxRecDepth 100000 in
theorem ac_byte : Cond.arrayClass .byte ∈ TB := TB_of (tin_1 (TB_at 59 rfl)) rfl
set_option maxRecDepth 100000 in
theorem ac_int : Cond.arrayClass .int ∈ TB := TB_of (tin_1 (TB_at 60 rfl)) rfl
set_option maxRecDepth 100000 in
theorem clX5_18 : Cond.classLink RX5 18 RX0 ∈ TB := TB_of (tin_1 (TB_at 61 rfl)) rfl
set_option maxRecDepth 100000 in
theorem insX0 : Cond.instantiable RX0 4 ∈ TB := TB_of (tin_1 (TB_at 62 rfl)) rfl
set_option maxRecDepth 100000 in
theorem imX0_init : Cond.instanceMethod yX0_init ∈ TB := TB_of (tin_1 (TB_at 64 rfl)) rfl
set_option maxRecDepth 100000 in
theorem cdX0_init : Cond.code yX0_init cX0_init 1 none ∈ TB := TB_of (tin_1 (TB_at 65 rfl)) rfl
set_option maxRecDepth 100000 in
theorem lX0_3 : Cond.methodLink RX0 3 Lib.objectInit ∈ TB := TB_of (tin_1 (TB_at 66 rfl)) rfl
set_option maxRecDepth 100000 in
theorem clX5_25 : Cond.classLink RX5 25 RX2 ∈ TB := TB_of (tin_1 (TB_at 80 rfl)) rfl
set_option maxRecDepth 100000 in
theorem insX2 : Cond.instantiable RX2 10 ∈ TB := TB_of (tin_1 (TB_at 81 rfl)) rfl
set_option maxRecDepth 100000 in
theorem imX2_init : Cond.instanceMethod yX2_init ∈ TB := TB_of (tin_1 (TB_at 83 rfl)) rfl
set_option maxRecDepth 100000 in
theorem cdX2_init : Cond.code yX2_init cX2_init 1 none ∈ TB := TB_of (tin_1 (TB_at 84 rfl)) rfl
set_option maxRecDepth 100000 in
theorem lX2_3 : Cond.methodLink RX2 3 Lib.objectInit ∈ TB := TB_of (tin_1 (TB_at 85 rfl)) rfl
set_option maxRecDepth 100000 in
theorem clX5_32 : Cond.classLink RX5 32 RX8 ∈ TB := TB_of (tin_1 (TB_at 154 rfl)) rfl
set_option maxRecDepth 100000 in
theorem insX8 : Cond.instantiable RX8 4 ∈ TB := TB_of (tin_1 (TB_at 155 rfl)) rfl
set_option maxRecDepth 100000 in
theorem imX8_init : Cond.instanceMethod yX8_init ∈ TB := TB_of (tin_1 (TB_at 157 rfl)) rfl
set_option maxRecDepth 100000 in
theorem cdX8_init : Cond.code yX8_init cX8_init 1 none ∈ TB := TB_of (tin_1 (TB_at 158 rfl)) rfl
set_option maxRecDepth 100000 in
theorem lX8_3 : Cond.methodLink RX8 3 Lib.objectInit ∈ TB := TB_of (tin_1 (TB_at 159 rfl)) rfl
set_option maxRecDepth 100000 in
theorem clX11_20 : Cond.classLink RX11 20 RX2 ∈ TB := TB_of (tin_1 (TB_at 209 rfl)) rfl
set_option maxRecDepth 100000 in
theorem clX11_27 : Cond.classLink RX11 27 RX8 ∈ TB := TB_of (tin_1 (TB_at 211 rfl)) rfl
set_option maxRecDepth 100000 in
theorem clX11_37 : Cond.classLink RX11 37 RX4 ∈ TB := TB_of (tin_1 (TB_at 213 rfl)) rfl
set_option maxRecDepth 100000 in
theorem insX4 : Cond.instantiable RX4 2 ∈ TB := TB_of (tin_1 (TB_at 214 rfl)) rfl
set_option maxRecDepth 100000 in
theorem imX4_init : Cond.instanceMethod yX4_init ∈ TB := TB_of (tin_1 (TB_at 216 rfl)) rfl
set_option maxRecDepth 100000 in
theorem cdX4_init : Cond.code yX4_init cX4_init 1 none ∈ TB := TB_of (tin_1 (TB_at 217 rfl)) rfl
set_option maxRecDepth 100000 in
theorem lX4_3 : Cond.methodLink RX4 3 Lib.objectInit ∈ TB := TB_of (tin_1 (TB_at 218 rfl)) rfl
set_option maxRecDepth 100000 in
theorem clX11_44 : Cond.classLink RX11 44 RX7 ∈ TB := TB_of (tin_1 (TB_at 227 rfl)) rfl
set_option maxRecDepth 100000 in
theorem insX7 : Cond.instantiable RX7 6 ∈ TB := TB_of (tin_1 (TB_at 228 rfl)) rfl
set_option maxRecDepth 100000 in
theorem imX7_init : Cond.instanceMethod yX7_init ∈ TB := TB_of (tin_1 (TB_at 230 rfl)) rfl
set_option maxRecDepth 100000 in
theorem cdX7_init : Cond.code yX7_init cX7_init 1 none ∈ TB := TB_of (tin_1 (TB_at 231 rfl)) rfl
set_option maxRecDepth 100000 in
theorem lX7_3 : Cond.methodLink RX7 3 Lib.objectInit ∈ TB := TB_of (tin_1 (TB_at 232 rfl)) rfl
set_option maxRecDepth 100000 in
theorem clX11_51 : Cond.classLink RX11 51 RX3 ∈ TB := TB_of (tin_2 (TB_at 14 rfl)) rfl
set_option maxRecDepth 100000 in
theorem insX3 : Cond.instantiable RX3 9 ∈ TB := TB_of (tin_2 (TB_at 15 rfl)) rfl
set_option maxRecDepth 100000 in
theorem imX3_init : Cond.instanceMethod yX3_init ∈ TB := TB_of (tin_2 (TB_at 17 rfl)) rfl
set_option maxRecDepth 100000 in
theorem cdX3_init : Cond.code yX3_init cX3_init 1 none ∈ TB := TB_of (tin_2 (TB_at 18 rfl)) rfl
set_option maxRecDepth 100000 in
theorem lX3_3 : Cond.methodLink RX3 3 Lib.objectInit ∈ TB := TB_of (tin_2 (TB_at 19 rfl)) rfl
set_option maxRecDepth 100000 in
theorem ac_boolean : Cond.arrayClass .boolean ∈ TB := TB_of (tin_2 (TB_at 51 rfl)) rfl
set_option maxRecDepth 100000 in
theorem clX11_58 : Cond.classLink RX11 58 RX10 ∈ TB := TB_of (tin_2 (TB_at 52 rfl)) rfl
set_option maxRecDepth 100000 in
theorem insX10 : Cond.instantiable RX10 2 ∈ TB := TB_of (tin_2 (TB_at 53 rfl)) rfl
set_option maxRecDepth 100000 in
theorem imX10_init : Cond.instanceMethod yX10_init ∈ TB := TB_of (tin_2 (TB_at 55 rfl)) rfl
set_option maxRecDepth 100000 in
theorem cdX10_init : Cond.code yX10_init cX10_init 1 none ∈ TB := TB_of (tin_2 (TB_at 56 rfl)) rfl
set_option maxRecDepth 100000 in
theorem lX10_3 : Cond.methodLink RX10 3 Lib.objectInit ∈ TB := TB_of (tin_2 (TB_at 57 rfl)) rfl
set_option maxRecDepth 100000 in
theorem clX11_65 : Cond.classLink RX11 65 RX6 ∈ TB := TB_of (tin_2 (TB_at 67 rfl)) rfl
set_option maxRecDepth 100000 in
theorem clX11_71 : Cond.classLink RX11 71 RX1 ∈ TB := TB_of (tin_2 (TB_at 69 rfl)) rfl
set_option maxRecDepth 100000 in
theorem insX6 : Cond.instantiable RX6 3 ∈ TB := TB_of (tin_2 (TB_at 71 rfl)) rfl
set_option maxRecDepth 100000 in
theorem imX6_init : Cond.instanceMethod yX6_init ∈ TB := TB_of (tin_2 (TB_at 73 rfl)) rfl
set_option maxRecDepth 100000 in
theorem cdX6_init : Cond.code yX6_init cX6_init 1 none ∈ TB := TB_of (tin_2 (TB_at 74 rfl)) rfl
set_option maxRecDepth 100000 in
theorem lX6_3 : Cond.methodLink RX6 3 Lib.objectInit ∈ TB := TB_of (tin_2 (TB_at 75 rfl)) rfl
set_option maxRecDepth 100000 in
theorem ac_long : Cond.arrayClass .long ∈ TB := TB_of (tin_2 (TB_at 92 rfl)) rfl
set_option maxRecDepth 100000 in
theorem insX1 : Cond.instantiable RX1 3 ∈ TB := TB_of (tin_2 (TB_at 93 rfl)) rfl
set_option maxRecDepth 100000 in
theorem imX1_init : Cond.instanceMethod yX1_init ∈ TB := TB_of (tin_2 (TB_at 95 rfl)) rfl
set_option maxRecDepth 100000 in
theorem cdX1_init : Cond.code yX1_init cX1_init 1 none ∈ TB := TB_of (tin_2 (TB_at 96 rfl)) rfl
set_option maxRecDepth 100000 in
theorem lX1_1 : Cond.methodLink RX1 1 Lib.objectInit ∈ TB := TB_of (tin_2 (TB_at 97 rfl)) rfl
set_option maxRecDepth 100000 in
theorem clX1_7 : Cond.classLink RX1 7 RX2 ∈ TB := TB_of (tin_2 (TB_at 98 rfl)) rfl
set_option maxRecDepth 100000 in
theorem clX1_16 : Cond.classLink RX1 16 RX8 ∈ TB := TB_of (tin_2 (TB_at 100 rfl)) rfl
set_option maxRecDepth 100000 in
theorem clL_10 : Cond.classLink RL 10 RX12 ∈ TB := TB_of (tin_5 (TB_at 157 rfl)) rfl
set_option maxRecDepth 100000 in
theorem insX12 : Cond.instantiable RX12 35 ∈ TB := TB_of (tin_5 (TB_at 158 rfl)) rfl
set_option maxRecDepth 100000 in
theorem imX12_init : Cond.instanceMethod yX12_init ∈ TB := TB_of (tin_5 (TB_at 160 rfl)) rfl
set_option maxRecDepth 100000 in
theorem cdX12_init : Cond.code yX12_init cX12_init 1 none ∈ TB := TB_of (tin_5 (TB_at 161 rfl)) rfl
set_option maxRecDepth 100000 in
theorem lX12_7 : Cond.methodLink RX12 7 Lib.objectInit ∈ TB := TB_of (tin_5 (TB_at 162 rfl)) rfl
