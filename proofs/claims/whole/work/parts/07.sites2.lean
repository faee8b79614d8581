set_option maxRecDepth 100000 in
theorem iiX0 : Cond.initialized RX0 ∈ ws0 := tb1 3 rfl rfl
set_option maxRecDepth 100000 in
theorem neX0 : RX0 ≠ "java/lang/invoke/MethodHandle" ∧ RX0 ≠ "java/lang/invoke/VarHandle" := (by decide +kernel)
set_option maxRecDepth 100000 in
theorem iiX1 : Cond.initialized RX1 ∈ ws0 := tb1 5 rfl rfl
set_option maxRecDepth 100000 in
theorem neX1 : RX1 ≠ "java/lang/invoke/MethodHandle" ∧ RX1 ≠ "java/lang/invoke/VarHandle" := (by decide +kernel)
set_option maxRecDepth 100000 in
theorem iiX2 : Cond.initialized RX2 ∈ ws0 := tb1 7 rfl rfl
set_option maxRecDepth 100000 in
theorem neX2 : RX2 ≠ "java/lang/invoke/MethodHandle" ∧ RX2 ≠ "java/lang/invoke/VarHandle" := (by decide +kernel)
set_option maxRecDepth 100000 in
theorem iiX3 : Cond.initialized RX3 ∈ ws0 := tb1 8 rfl rfl
set_option maxRecDepth 100000 in
theorem neX3 : RX3 ≠ "java/lang/invoke/MethodHandle" ∧ RX3 ≠ "java/lang/invoke/VarHandle" := (by decide +kernel)
set_option maxRecDepth 100000 in
theorem iiX4 : Cond.initialized RX4 ∈ ws0 := tb1 6 rfl rfl
set_option maxRecDepth 100000 in
theorem neX4 : RX4 ≠ "java/lang/invoke/MethodHandle" ∧ RX4 ≠ "java/lang/invoke/VarHandle" := (by decide +kernel)
set_option maxRecDepth 100000 in
theorem iiX5 : Cond.initialized RX5 ∈ ws0 := tb1 12 rfl rfl
set_option maxRecDepth 100000 in
theorem neX5 : RX5 ≠ "java/lang/invoke/MethodHandle" ∧ RX5 ≠ "java/lang/invoke/VarHandle" := (by decide +kernel)
set_option maxRecDepth 100000 in
theorem iiX6 : Cond.initialized RX6 ∈ ws0 := tb1 4 rfl rfl
set_option maxRecDepth 100000 in
theorem neX6 : RX6 ≠ "java/lang/invoke/MethodHandle" ∧ RX6 ≠ "java/lang/invoke/VarHandle" := (by decide +kernel)
set_option maxRecDepth 100000 in
theorem iiX7 : Cond.initialized RX7 ∈ ws0 := tb1 1 rfl rfl
set_option maxRecDepth 100000 in
theorem neX7 : RX7 ≠ "java/lang/invoke/MethodHandle" ∧ RX7 ≠ "java/lang/invoke/VarHandle" := (by decide +kernel)
set_option maxRecDepth 100000 in
theorem iiX8 : Cond.initialized RX8 ∈ ws0 := tb1 11 rfl rfl
set_option maxRecDepth 100000 in
theorem neX8 : RX8 ≠ "java/lang/invoke/MethodHandle" ∧ RX8 ≠ "java/lang/invoke/VarHandle" := (by decide +kernel)
set_option maxRecDepth 100000 in
theorem iiJ6 : Cond.initialized RJ6 ∈ ws0 := tb1 10 rfl rfl
set_option maxRecDepth 100000 in
theorem neJ6 : RJ6 ≠ "java/lang/invoke/MethodHandle" ∧ RJ6 ≠ "java/lang/invoke/VarHandle" := (by decide +kernel)
set_option maxRecDepth 100000 in
theorem iiJ13 : Cond.initialized RJ13 ∈ ws0 := tb1 14 rfl rfl
set_option maxRecDepth 100000 in
theorem neJ13 : RJ13 ≠ "java/lang/invoke/MethodHandle" ∧ RJ13 ≠ "java/lang/invoke/VarHandle" := (by decide +kernel)
set_option maxRecDepth 100000 in
theorem iiJ9 : Cond.initialized RJ9 ∈ ws0 := tb1 2 rfl rfl
set_option maxRecDepth 100000 in
theorem neJ9 : RJ9 ≠ "java/lang/invoke/MethodHandle" ∧ RJ9 ≠ "java/lang/invoke/VarHandle" := (by decide +kernel)
set_option maxRecDepth 100000 in
theorem iiJxd2413 : Cond.initialized RJxd2413 ∈ ws0 := tb1 9 rfl rfl
set_option maxRecDepth 100000 in
theorem neJxd2413 : RJxd2413 ≠ "java/lang/invoke/MethodHandle" ∧ RJxd2413 ≠ "java/lang/invoke/VarHandle" := (by decide +kernel)
set_option maxRecDepth 100000 in
theorem iiJ7 : Cond.initialized RJ7 ∈ ws0 := tb1 13 rfl rfl
set_option maxRecDepth 100000 in
theorem neJ7 : RJ7 ≠ "java/lang/invoke/MethodHandle" ∧ RJ7 ≠ "java/lang/invoke/VarHandle" := (by decide +kernel)
set_option maxRecDepth 100000 in
theorem iiL : Cond.initialized RL ∈ ws0 := tb1 0 rfl rfl
set_option maxRecDepth 100000 in
theorem neL : RL ≠ "java/lang/invoke/MethodHandle" ∧ RL ≠ "java/lang/invoke/VarHandle" := (by decide +kernel)
set_option maxRecDepth 100000 in
theorem arI : Cond.arrayClass .int ∈ ws0 := tb1 49 rfl rfl
set_option maxRecDepth 100000 in
theorem arJ : Cond.arrayClass .long ∈ ws0 := tb1 108 rfl rfl
set_option maxRecDepth 100000 in
theorem arB : Cond.arrayClass .byte ∈ ws0 := tb1 48 rfl rfl
set_option maxRecDepth 100000 in
theorem obI : Cond.instanceMethod Lib.objectInit ∈ ws0 := tb1 21 rfl rfl
set_option maxRecDepth 100000 in
theorem obC : Cond.code Lib.objectInit ⟨#[0xb1]⟩ 1 none ∈ ws0 := tb1 22 rfl rfl
set_option maxRecDepth 100000 in
theorem fX7_18 : ab_F RX7 18 6 0 RX7 TX7 12 tyX7 := ⟨rfl, by decide, iwX7, tyX7_ok, nmX7, tb2 17 rfl rfl⟩
set_option maxRecDepth 100000 in
theorem fX7_22 : ab_F RX7 22 6 1 RX7 TX7 12 tyX7 := ⟨rfl, by decide, iwX7, tyX7_ok, nmX7, tb2 18 rfl rfl⟩
set_option maxRecDepth 100000 in
theorem fX7_25 : ab_F RX7 25 6 2 RX7 TX7 12 tyX7 := ⟨rfl, by decide, iwX7, tyX7_ok, nmX7, tb2 19 rfl rfl⟩
set_option maxRecDepth 100000 in
theorem fX7_31 : ab_F RX7 31 6 3 RX7 TX7 12 tyX7 := ⟨rfl, by decide, iwX7, tyX7_ok, nmX7, tb2 20 rfl rfl⟩
set_option maxRecDepth 100000 in
theorem fX7_40 : ab_F RX7 40 6 4 RX7 TX7 12 tyX7 := ⟨rfl, by decide, iwX7, tyX7_ok, nmX7, tb2 21 rfl rfl⟩
set_option maxRecDepth 100000 in
theorem fX7_49 : ab_F RX7 49 6 5 RX7 TX7 12 tyX7 := ⟨rfl, by decide, iwX7, tyX7_ok, nmX7, tb2 22 rfl rfl⟩
set_option maxRecDepth 100000 in
theorem fX7_56 : ab_F RX7 56 6 6 RX7 TX7 12 tyX7 := ⟨rfl, by decide, iwX7, tyX7_ok, nmX7, tb2 23 rfl rfl⟩
set_option maxRecDepth 100000 in
theorem fX7_60 : ab_F RX7 60 6 7 RX7 TX7 12 tyX7 := ⟨rfl, by decide, iwX7, tyX7_ok, nmX7, tb2 24 rfl rfl⟩
set_option maxRecDepth 100000 in
theorem fX7_64 : ab_F RX7 64 6 8 RX7 TX7 12 tyX7 := ⟨rfl, by decide, iwX7, tyX7_ok, nmX7, tb2 25 rfl rfl⟩
set_option maxRecDepth 100000 in
theorem fX7_67 : ab_F RX7 67 6 9 RX7 TX7 12 tyX7 := ⟨rfl, by decide, iwX7, tyX7_ok, nmX7, tb2 26 rfl rfl⟩
set_option maxRecDepth 100000 in
theorem fX7_125 : ab_F RX7 125 6 10 RX7 TX7 12 tyX7 := ⟨rfl, by decide, iwX7, tyX7_ok, nmX7, tb2 27 rfl rfl⟩
set_option maxRecDepth 100000 in
theorem fX7_128 : ab_F RX7 128 6 11 RX7 TX7 12 tyX7 := ⟨rfl, by decide, iwX7, tyX7_ok, nmX7, tb2 28 rfl rfl⟩
set_option maxRecDepth 100000 in
theorem sX7_190 : Cond.fieldLink RX7 190 (ab_S 5).1 (ab_S 5).2.1 (ab_S 5).2.2 ∈ ws0 := tb3 98 rfl rfl
set_option maxRecDepth 100000 in
theorem fX0_11 : ab_F RX0 11 0 0 RX0 TX0 5 tyX0 := ⟨rfl, by decide, iwX0, tyX0_ok, nmX0, tb1 50 rfl rfl⟩
set_option maxRecDepth 100000 in
theorem fX0_18 : ab_F RX0 18 0 1 RX0 TX0 5 tyX0 := ⟨rfl, by decide, iwX0, tyX0_ok, nmX0, tb1 51 rfl rfl⟩
set_option maxRecDepth 100000 in
theorem fX0_22 : ab_F RX0 22 0 2 RX0 TX0 5 tyX0 := ⟨rfl, by decide, iwX0, tyX0_ok, nmX0, tb1 52 rfl rfl⟩
set_option maxRecDepth 100000 in
theorem fX0_26 : ab_F RX0 26 0 3 RX0 TX0 5 tyX0 := ⟨rfl, by decide, iwX0, tyX0_ok, nmX0, tb1 53 rfl rfl⟩
set_option maxRecDepth 100000 in
theorem fX0_29 : ab_F RX0 29 0 4 RX0 TX0 5 tyX0 := ⟨rfl, by decide, iwX0, tyX0_ok, nmX0, tb1 54 rfl rfl⟩
set_option maxRecDepth 100000 in
theorem fX1_7 : ab_F RX1 7 1 0 RX1 TX1 14 tyX1 := ⟨rfl, by decide, iwX1, tyX1_ok, nmX1, tb1 109 rfl rfl⟩
set_option maxRecDepth 100000 in
theorem fX1_13 : ab_F RX1 13 1 1 RX1 TX1 14 tyX1 := ⟨rfl, by decide, iwX1, tyX1_ok, nmX1, tb1 110 rfl rfl⟩
set_option maxRecDepth 100000 in
theorem fX1_17 : ab_F RX1 17 1 2 RX1 TX1 14 tyX1 := ⟨rfl, by decide, iwX1, tyX1_ok, nmX1, tb1 111 rfl rfl⟩
set_option maxRecDepth 100000 in
theorem fX1_31 : ab_F RX1 31 1 3 RX1 TX1 14 tyX1 := ⟨rfl, by decide, iwX1, tyX1_ok, nmX1, tb1 112 rfl rfl⟩
set_option maxRecDepth 100000 in
theorem fX1_35 : ab_F RX1 35 1 4 RX1 TX1 14 tyX1 := ⟨rfl, by decide, iwX1, tyX1_ok, nmX1, tb1 113 rfl rfl⟩
set_option maxRecDepth 100000 in
theorem fX1_39 : ab_F RX1 39 1 5 RX1 TX1 14 tyX1 := ⟨rfl, by decide, iwX1, tyX1_ok, nmX1, tb1 114 rfl rfl⟩
set_option maxRecDepth 100000 in
theorem fX1_42 : ab_F RX1 42 1 6 RX1 TX1 14 tyX1 := ⟨rfl, by decide, iwX1, tyX1_ok, nmX1, tb1 115 rfl rfl⟩
set_option maxRecDepth 100000 in
theorem fX1_45 : ab_F RX1 45 1 7 RX1 TX1 14 tyX1 := ⟨rfl, by decide, iwX1, tyX1_ok, nmX1, tb1 116 rfl rfl⟩
set_option maxRecDepth 100000 in
theorem fX1_48 : ab_F RX1 48 1 8 RX1 TX1 14 tyX1 := ⟨rfl, by decide, iwX1, tyX1_ok, nmX1, tb1 117 rfl rfl⟩
set_option maxRecDepth 100000 in
theorem fX1_51 : ab_F RX1 51 1 9 RX1 TX1 14 tyX1 := ⟨rfl, by decide, iwX1, tyX1_ok, nmX1, tb1 118 rfl rfl⟩
set_option maxRecDepth 100000 in
theorem fX1_54 : ab_F RX1 54 1 10 RX1 TX1 14 tyX1 := ⟨rfl, by decide, iwX1, tyX1_ok, nmX1, tb1 119 rfl rfl⟩
set_option maxRecDepth 100000 in
theorem fX1_58 : ab_F RX1 58 1 11 RX1 TX1 14 tyX1 := ⟨rfl, by decide, iwX1, tyX1_ok, nmX1, tb1 120 rfl rfl⟩
set_option maxRecDepth 100000 in
theorem fX1_61 : ab_F RX1 61 1 12 RX1 TX1 14 tyX1 := ⟨rfl, by decide, iwX1, tyX1_ok, nmX1, tb1 121 rfl rfl⟩
set_option maxRecDepth 100000 in
theorem fX1_64 : ab_F RX1 64 1 13 RX1 TX1 14 tyX1 := ⟨rfl, by decide, iwX1, tyX1_ok, nmX1, tb1 122 rfl rfl⟩
set_option maxRecDepth 100000 in
theorem sX1_93 : Cond.fieldLink RX1 93 (ab_S 2).1 (ab_S 2).2.1 (ab_S 2).2.2 ∈ ws0 := tb2 112 rfl rfl
set_option maxRecDepth 100000 in
theorem sX1_120 : Cond.fieldLink RX1 120 (ab_S 3).1 (ab_S 3).2.1 (ab_S 3).2.2 ∈ ws0 := tb2 164 rfl rfl
set_option maxRecDepth 100000 in
theorem fX2_18 : ab_F RX2 18 2 0 RX2 TX2 17 tyX2 := ⟨rfl, by decide, iwX2, tyX2_ok, nmX2, tb1 161 rfl rfl⟩
set_option maxRecDepth 100000 in
theorem fX2_24 : ab_F RX2 24 2 1 RX2 TX2 17 tyX2 := ⟨rfl, by decide, iwX2, tyX2_ok, nmX2, tb1 162 rfl rfl⟩
set_option maxRecDepth 100000 in
theorem fX2_27 : ab_F RX2 27 2 2 RX2 TX2 17 tyX2 := ⟨rfl, by decide, iwX2, tyX2_ok, nmX2, tb1 163 rfl rfl⟩
set_option maxRecDepth 100000 in
theorem fX2_30 : ab_F RX2 30 2 3 RX2 TX2 17 tyX2 := ⟨rfl, by decide, iwX2, tyX2_ok, nmX2, tb1 164 rfl rfl⟩
set_option maxRecDepth 100000 in
theorem fX2_34 : ab_F RX2 34 2 4 RX2 TX2 17 tyX2 := ⟨rfl, by decide, iwX2, tyX2_ok, nmX2, tb1 165 rfl rfl⟩
set_option maxRecDepth 100000 in
theorem fX2_37 : ab_F RX2 37 2 5 RX2 TX2 17 tyX2 := ⟨rfl, by decide, iwX2, tyX2_ok, nmX2, tb1 166 rfl rfl⟩
set_option maxRecDepth 100000 in
theorem fX2_40 : ab_F RX2 40 2 6 RX2 TX2 17 tyX2 := ⟨rfl, by decide, iwX2, tyX2_ok, nmX2, tb1 167 rfl rfl⟩
set_option maxRecDepth 100000 in
theorem fX2_43 : ab_F RX2 43 2 7 RX2 TX2 17 tyX2 := ⟨rfl, by decide, iwX2, tyX2_ok, nmX2, tb1 168 rfl rfl⟩
set_option maxRecDepth 100000 in
theorem fX2_46 : ab_F RX2 46 2 8 RX2 TX2 17 tyX2 := ⟨rfl, by decide, iwX2, tyX2_ok, nmX2, tb1 169 rfl rfl⟩
set_option maxRecDepth 100000 in
theorem fX2_49 : ab_F RX2 49 2 9 RX2 TX2 17 tyX2 := ⟨rfl, by decide, iwX2, tyX2_ok, nmX2, tb1 170 rfl rfl⟩
set_option maxRecDepth 100000 in
theorem fX2_52 : ab_F RX2 52 2 10 RX2 TX2 17 tyX2 := ⟨rfl, by decide, iwX2, tyX2_ok, nmX2, tb1 171 rfl rfl⟩
set_option maxRecDepth 100000 in
theorem fX2_55 : ab_F RX2 55 2 11 RX2 TX2 17 tyX2 := ⟨rfl, by decide, iwX2, tyX2_ok, nmX2, tb1 172 rfl rfl⟩
set_option maxRecDepth 100000 in
theorem fX2_58 : ab_F RX2 58 2 12 RX2 TX2 17 tyX2 := ⟨rfl, by decide, iwX2, tyX2_ok, nmX2, tb1 173 rfl rfl⟩
set_option maxRecDepth 100000 in
theorem fX2_61 : ab_F RX2 61 2 13 RX2 TX2 17 tyX2 := ⟨rfl, by decide, iwX2, tyX2_ok, nmX2, tb1 174 rfl rfl⟩
set_option maxRecDepth 100000 in
theorem fX2_64 : ab_F RX2 64 2 14 RX2 TX2 17 tyX2 := ⟨rfl, by decide, iwX2, tyX2_ok, nmX2, tb1 175 rfl rfl⟩
set_option maxRecDepth 100000 in
theorem fX2_67 : ab_F RX2 67 2 15 RX2 TX2 17 tyX2 := ⟨rfl, by decide, iwX2, tyX2_ok, nmX2, tb1 176 rfl rfl⟩
set_option maxRecDepth 100000 in
theorem fX2_70 : ab_F RX2 70 2 16 RX2 TX2 17 tyX2 := ⟨rfl, by decide, iwX2, tyX2_ok, nmX2, tb1 177 rfl rfl⟩
set_option maxRecDepth 100000 in
theorem sX2_123 : Cond.fieldLink RX2 123 (ab_S 4).1 (ab_S 4).2.1 (ab_S 4).2.2 ∈ ws0 := tb3 134 rfl rfl
set_option maxRecDepth 100000 in
theorem fX3_9 : ab_F RX3 9 3 0 RX3 TX3 3 tyX3 := ⟨rfl, by decide, iwX3, tyX3_ok, nmX3, tb2 7 rfl rfl⟩
set_option maxRecDepth 100000 in
theorem fX3_16 : ab_F RX3 16 3 1 RX3 TX3 3 tyX3 := ⟨rfl, by decide, iwX3, tyX3_ok, nmX3, tb2 8 rfl rfl⟩
set_option maxRecDepth 100000 in
theorem fX3_23 : ab_F RX3 23 3 2 RX3 TX3 3 tyX3 := ⟨rfl, by decide, iwX3, tyX3_ok, nmX3, tb2 9 rfl rfl⟩
set_option maxRecDepth 100000 in
theorem fX4_13 : ab_F RX4 13 4 0 RX4 TX4 9 tyX4 := ⟨rfl, by decide, iwX4, tyX4_ok, nmX4, tb1 80 rfl rfl⟩
set_option maxRecDepth 100000 in
theorem fX4_19 : ab_F RX4 19 4 1 RX4 TX4 9 tyX4 := ⟨rfl, by decide, iwX4, tyX4_ok, nmX4, tb1 81 rfl rfl⟩
set_option maxRecDepth 100000 in
theorem fX4_23 : ab_F RX4 23 4 2 RX4 TX4 9 tyX4 := ⟨rfl, by decide, iwX4, tyX4_ok, nmX4, tb1 82 rfl rfl⟩
set_option maxRecDepth 100000 in
theorem fX4_26 : ab_F RX4 26 4 3 RX4 TX4 9 tyX4 := ⟨rfl, by decide, iwX4, tyX4_ok, nmX4, tb1 83 rfl rfl⟩
set_option maxRecDepth 100000 in
theorem fX4_29 : ab_F RX4 29 4 4 RX4 TX4 9 tyX4 := ⟨rfl, by decide, iwX4, tyX4_ok, nmX4, tb1 84 rfl rfl⟩
set_option maxRecDepth 100000 in
theorem fX4_32 : ab_F RX4 32 4 5 RX4 TX4 9 tyX4 := ⟨rfl, by decide, iwX4, tyX4_ok, nmX4, tb1 85 rfl rfl⟩
set_option maxRecDepth 100000 in
theorem fX4_35 : ab_F RX4 35 4 6 RX4 TX4 9 tyX4 := ⟨rfl, by decide, iwX4, tyX4_ok, nmX4, tb1 86 rfl rfl⟩
set_option maxRecDepth 100000 in
theorem fX4_38 : ab_F RX4 38 4 7 RX4 TX4 9 tyX4 := ⟨rfl, by decide, iwX4, tyX4_ok, nmX4, tb1 87 rfl rfl⟩
set_option maxRecDepth 100000 in
theorem fX4_53 : ab_F RX4 53 4 8 RX4 TX4 9 tyX4 := ⟨rfl, by decide, iwX4, tyX4_ok, nmX4, tb1 88 rfl rfl⟩
set_option maxRecDepth 100000 in
theorem fX6_7 : ab_F RX6 7 5 0 RX6 TX6 2 tyX6 := ⟨rfl, by decide, iwX6, tyX6_ok, nmX6, tb1 41 rfl rfl⟩
set_option maxRecDepth 100000 in
theorem fX6_13 : ab_F RX6 13 5 1 RX6 TX6 2 tyX6 := ⟨rfl, by decide, iwX6, tyX6_ok, nmX6, tb1 42 rfl rfl⟩
set_option maxRecDepth 100000 in
theorem sX6_16 : Cond.fieldLink RX6 16 (ab_S 0).1 (ab_S 0).2.1 (ab_S 0).2.2 ∈ ws0 := tb1 229 rfl rfl
set_option maxRecDepth 100000 in
theorem sX6_35 : Cond.fieldLink RX6 35 (ab_S 1).1 (ab_S 1).2.1 (ab_S 1).2.2 ∈ ws0 := tb2 5 rfl rfl
set_option maxRecDepth 100000 in
theorem fX8_7 : ab_F RX8 7 7 0 RX8 TX8 23 tyX8 := ⟨rfl, by decide, iwX8, tyX8_ok, nmX8, tb4 9 rfl rfl⟩
set_option maxRecDepth 100000 in
theorem fX8_13 : ab_F RX8 13 7 3 RX8 TX8 23 tyX8 := ⟨rfl, by decide, iwX8, tyX8_ok, nmX8, tb4 12 rfl rfl⟩
set_option maxRecDepth 100000 in
theorem fX8_16 : ab_F RX8 16 7 5 RX8 TX8 23 tyX8 := ⟨rfl, by decide, iwX8, tyX8_ok, nmX8, tb4 14 rfl rfl⟩
set_option maxRecDepth 100000 in
theorem fX8_19 : ab_F RX8 19 7 6 RX8 TX8 23 tyX8 := ⟨rfl, by decide, iwX8, tyX8_ok, nmX8, tb4 15 rfl rfl⟩
set_option maxRecDepth 100000 in
theorem fX8_30 : ab_F RX8 30 7 7 RX8 TX8 23 tyX8 := ⟨rfl, by decide, iwX8, tyX8_ok, nmX8, tb4 16 rfl rfl⟩
set_option maxRecDepth 100000 in
theorem fX8_97 : ab_F RX8 97 7 8 RX8 TX8 23 tyX8 := ⟨rfl, by decide, iwX8, tyX8_ok, nmX8, tb4 17 rfl rfl⟩
set_option maxRecDepth 100000 in
theorem fX8_100 : ab_F RX8 100 7 9 RX8 TX8 23 tyX8 := ⟨rfl, by decide, iwX8, tyX8_ok, nmX8, tb4 18 rfl rfl⟩
set_option maxRecDepth 100000 in
theorem fX8_103 : ab_F RX8 103 7 20 RX8 TX8 23 tyX8 := ⟨rfl, by decide, iwX8, tyX8_ok, nmX8, tb4 29 rfl rfl⟩
set_option maxRecDepth 100000 in
theorem fX8_106 : ab_F RX8 106 7 22 RX8 TX8 23 tyX8 := ⟨rfl, by decide, iwX8, tyX8_ok, nmX8, tb4 31 rfl rfl⟩
set_option maxRecDepth 100000 in
theorem fX8_109 : ab_F RX8 109 7 1 RX8 TX8 23 tyX8 := ⟨rfl, by decide, iwX8, tyX8_ok, nmX8, tb4 10 rfl rfl⟩
set_option maxRecDepth 100000 in
theorem fX8_113 : ab_F RX8 113 7 2 RX8 TX8 23 tyX8 := ⟨rfl, by decide, iwX8, tyX8_ok, nmX8, tb4 11 rfl rfl⟩
set_option maxRecDepth 100000 in
theorem fX8_156 : ab_F RX8 156 7 4 RX8 TX8 23 tyX8 := ⟨rfl, by decide, iwX8, tyX8_ok, nmX8, tb4 13 rfl rfl⟩
set_option maxRecDepth 100000 in
theorem fX8_169 : ab_F RX8 169 7 11 RX8 TX8 23 tyX8 := ⟨rfl, by decide, iwX8, tyX8_ok, nmX8, tb4 20 rfl rfl⟩
set_option maxRecDepth 100000 in
theorem fX8_173 : ab_F RX8 173 7 10 RX8 TX8 23 tyX8 := ⟨rfl, by decide, iwX8, tyX8_ok, nmX8, tb4 19 rfl rfl⟩
set_option maxRecDepth 100000 in
theorem fX8_179 : ab_F RX8 179 7 16 RX8 TX8 23 tyX8 := ⟨rfl, by decide, iwX8, tyX8_ok, nmX8, tb4 25 rfl rfl⟩
set_option maxRecDepth 100000 in
theorem fX8_185 : ab_F RX8 185 7 17 RX8 TX8 23 tyX8 := ⟨rfl, by decide, iwX8, tyX8_ok, nmX8, tb4 26 rfl rfl⟩
set_option maxRecDepth 100000 in
theorem fX8_216 : ab_F RX8 216 7 15 RX8 TX8 23 tyX8 := ⟨rfl, by decide, iwX8, tyX8_ok, nmX8, tb4 24 rfl rfl⟩
set_option maxRecDepth 100000 in
theorem fX8_220 : ab_F RX8 220 7 13 RX8 TX8 23 tyX8 := ⟨rfl, by decide, iwX8, tyX8_ok, nmX8, tb4 22 rfl rfl⟩
set_option maxRecDepth 100000 in
theorem fX8_237 : ab_F RX8 237 7 12 RX8 TX8 23 tyX8 := ⟨rfl, by decide, iwX8, tyX8_ok, nmX8, tb4 21 rfl rfl⟩
set_option maxRecDepth 100000 in
theorem fX8_248 : ab_F RX8 248 7 14 RX8 TX8 23 tyX8 := ⟨rfl, by decide, iwX8, tyX8_ok, nmX8, tb4 23 rfl rfl⟩
set_option maxRecDepth 100000 in
theorem fX8_271 : ab_F RX8 271 7 21 RX8 TX8 23 tyX8 := ⟨rfl, by decide, iwX8, tyX8_ok, nmX8, tb4 30 rfl rfl⟩
set_option maxRecDepth 100000 in
theorem fX8_274 : ab_F RX8 274 7 18 RX8 TX8 23 tyX8 := ⟨rfl, by decide, iwX8, tyX8_ok, nmX8, tb4 27 rfl rfl⟩
set_option maxRecDepth 100000 in
theorem fX8_277 : ab_F RX8 277 7 19 RX8 TX8 23 tyX8 := ⟨rfl, by decide, iwX8, tyX8_ok, nmX8, tb4 28 rfl rfl⟩
