set_option maxRecDepth 100000 in
theorem obX0 : Cond.methodLink RX0 3 Lib.objectInit ∈ ws0 := tb1 34 rfl rfl
set_option maxRecDepth 100000 in
theorem kX0_17 : ab_N RX0 17 1 MX6_init 0 := ⟨rfl, pdX6_init.1, pdX6_init.2.1, pdX6_init.2.2.1, pdX6_init.2.2.2, rfl, imX6_init⟩
set_option maxRecDepth 100000 in
theorem kX0_32 : ab_V RX0 32 MX0_putWord 1 := ⟨⟨tb2 70 rfl rfl, pdX0_putWord⟩, imX0_putWord, seX0_putWord⟩
set_option maxRecDepth 100000 in
theorem kX0_36 : ab_V RX0 36 MX6_hashFirst 2 := ⟨⟨tb2 98 rfl rfl, pdX6_hashFirst⟩, imX6_hashFirst, seX6_hashFirst⟩
set_option maxRecDepth 100000 in
theorem kX0_40 : ab_V RX0 40 MX6_byteAt 1 := ⟨⟨tb2 99 rfl rfl, pdX6_byteAt⟩, imX6_byteAt, seX6_byteAt⟩
set_option maxRecDepth 100000 in
theorem obX1 : Cond.methodLink RX1 1 Lib.objectInit ∈ ws0 := tb1 71 rfl rfl
set_option maxRecDepth 100000 in
theorem kX1_20 : ab_T RX1 20 MJ9_max_7cf53 2 := ⟨⟨tb1 72 rfl rfl, pdJ9_max_7cf53⟩, imJ9_max_7cf53⟩
set_option maxRecDepth 100000 in
theorem kX1_28 : ab_I RX1 28 MX4_init 1 := ⟨⟨tb1 75 rfl rfl, pdX4_init⟩, rfl, imX4_init⟩
set_option maxRecDepth 100000 in
theorem kX1_67 : ab_V RX1 67 MX1_drawCandidate 0 := ⟨⟨tb2 90 rfl rfl, pdX1_drawCandidate⟩, imX1_drawCandidate, seX1_drawCandidate⟩
set_option maxRecDepth 100000 in
theorem kX1_70 : ab_V RX1 70 MX1_hasSmallDivisor 0 := ⟨⟨tb2 108 rfl rfl, pdX1_hasSmallDivisor⟩, imX1_hasSmallDivisor, seX1_hasSmallDivisor⟩
set_option maxRecDepth 100000 in
theorem kX1_74 : ab_V RX1 74 MX1_isGood 0 := ⟨⟨tb2 117 rfl rfl, pdX1_isGood⟩, imX1_isGood, seX1_isGood⟩
set_option maxRecDepth 100000 in
theorem kX1_77 : ab_T RX1 77 MX5_copy 2 := ⟨⟨tb2 126 rfl rfl, pdX5_copy⟩, imX5_copy⟩
set_option maxRecDepth 100000 in
theorem kX1_83 : ab_V RX1 83 MX0_nextByte 0 := ⟨⟨tb2 94 rfl rfl, pdX0_nextByte⟩, imX0_nextByte, seX0_nextByte⟩
set_option maxRecDepth 100000 in
theorem kX1_89 : ab_T RX1 89 MX5_putByte 3 := ⟨⟨tb2 103 rfl rfl, pdX5_putByte⟩, imX5_putByte⟩
set_option maxRecDepth 100000 in
theorem kX1_97 : ab_T RX1 97 MX5_remainder 2 := ⟨⟨tb2 114 rfl rfl, pdX5_remainder⟩, imX5_remainder⟩
set_option maxRecDepth 100000 in
theorem kX1_104 : ab_T RX1 104 MX5_order 2 := ⟨⟨tb2 122 rfl rfl, pdX5_order⟩, imX5_order⟩
set_option maxRecDepth 100000 in
theorem kX1_108 : ab_T RX1 108 MX5_lessen 2 := ⟨⟨tb2 129 rfl rfl, pdX5_lessen⟩, imX5_lessen⟩
set_option maxRecDepth 100000 in
theorem kX1_112 : ab_T RX1 112 MX5_halveUntilOdd 1 := ⟨⟨tb2 133 rfl rfl, pdX5_halveUntilOdd⟩, imX5_halveUntilOdd⟩
set_option maxRecDepth 100000 in
theorem kX1_116 : ab_V RX1 116 MX4_choose 1 := ⟨⟨tb2 142 rfl rfl, pdX4_choose⟩, imX4_choose, seX4_choose⟩
set_option maxRecDepth 100000 in
theorem kX1_123 : ab_V RX1 123 MX1_passes 2 := ⟨⟨tb2 166 rfl rfl, pdX1_passes⟩, imX1_passes, seX1_passes⟩
set_option maxRecDepth 100000 in
theorem kX1_127 : ab_T RX1 127 MX5_putSmall 2 := ⟨⟨tb2 170 rfl rfl, pdX5_putSmall⟩, imX5_putSmall⟩
set_option maxRecDepth 100000 in
theorem kX1_130 : ab_V RX1 130 MX4_raise 3 := ⟨⟨tb2 171 rfl rfl, pdX4_raise⟩, imX4_raise, seX4_raise⟩
set_option maxRecDepth 100000 in
theorem kX1_134 : ab_T RX1 134 MX5_isOne 1 := ⟨⟨tb2 201 rfl rfl, pdX5_isOne⟩, imX5_isOne⟩
set_option maxRecDepth 100000 in
theorem kX1_138 : ab_V RX1 138 MX4_times 3 := ⟨⟨tb2 205 rfl rfl, pdX4_times⟩, imX4_times, seX4_times⟩
set_option maxRecDepth 100000 in
theorem obX2 : Cond.methodLink RX2 1 Lib.objectInit ∈ ws0 := tb1 157 rfl rfl
set_option maxRecDepth 100000 in
theorem kX2_7 : ab_T RX2 7 MJ9_max_7cf53 2 := ⟨⟨tb1 158 rfl rfl, pdJ9_max_7cf53⟩, imJ9_max_7cf53⟩
set_option maxRecDepth 100000 in
theorem kX2_15 : ab_I RX2 15 MX4_init 1 := ⟨⟨tb1 160 rfl rfl, pdX4_init⟩, rfl, imX4_init⟩
set_option maxRecDepth 100000 in
theorem kX2_74 : ab_T RX2 74 MX5_order 2 := ⟨⟨tb2 225 rfl rfl, pdX5_order⟩, imX5_order⟩
set_option maxRecDepth 100000 in
theorem kX2_80 : ab_T RX2 80 MX5_copy 2 := ⟨⟨tb2 226 rfl rfl, pdX5_copy⟩, imX5_copy⟩
set_option maxRecDepth 100000 in
theorem kX2_84 : ab_T RX2 84 MX5_multiply 3 := ⟨⟨tb2 227 rfl rfl, pdX5_multiply⟩, imX5_multiply⟩
set_option maxRecDepth 100000 in
theorem kX2_88 : ab_V RX2 88 MX4_choose 1 := ⟨⟨tb2 231 rfl rfl, pdX4_choose⟩, imX4_choose, seX4_choose⟩
set_option maxRecDepth 100000 in
theorem kX2_92 : ab_V RX2 92 MX2_findPrivateNumbers 0 := ⟨⟨tb2 232 rfl rfl, pdX2_findPrivateNumbers⟩, imX2_findPrivateNumbers, seX2_findPrivateNumbers⟩
set_option maxRecDepth 100000 in
theorem kX2_95 : ab_V RX2 95 MX2_findInverseOfQ 0 := ⟨⟨tb3 8 rfl rfl, pdX2_findInverseOfQ⟩, imX2_findInverseOfQ, seX2_findInverseOfQ⟩
set_option maxRecDepth 100000 in
theorem kX2_98 : ab_T RX2 98 MX5_lessen 2 := ⟨⟨tb2 236 rfl rfl, pdX5_lessen⟩, imX5_lessen⟩
set_option maxRecDepth 100000 in
theorem kX2_102 : ab_V RX2 102 MX2_invertE 2 := ⟨⟨tb2 237 rfl rfl, pdX2_invertE⟩, imX2_invertE, seX2_invertE⟩
set_option maxRecDepth 100000 in
theorem kX2_107 : ab_V RX2 107 MX4_raise 3 := ⟨⟨tb3 13 rfl rfl, pdX4_raise⟩, imX4_raise, seX4_raise⟩
set_option maxRecDepth 100000 in
theorem kX2_113 : ab_T RX2 113 MX5_remainder 2 := ⟨⟨tb3 3 rfl rfl, pdX5_remainder⟩, imX5_remainder⟩
set_option maxRecDepth 100000 in
theorem kX2_117 : ab_T RX2 117 MX2_inverseByE 1 := ⟨⟨tb3 4 rfl rfl, pdX2_inverseByE⟩, imX2_inverseByE⟩
set_option maxRecDepth 100000 in
theorem kX2_126 : ab_V RX2 126 MX4_reduce 2 := ⟨⟨tb3 113 rfl rfl, pdX4_reduce⟩, imX4_reduce, seX4_reduce⟩
set_option maxRecDepth 100000 in
theorem kX2_129 : ab_T RX2 129 MX5_subtract 3 := ⟨⟨tb3 117 rfl rfl, pdX5_subtract⟩, imX5_subtract⟩
set_option maxRecDepth 100000 in
theorem kX2_133 : ab_T RX2 133 MX5_add 2 := ⟨⟨tb3 118 rfl rfl, pdX5_add⟩, imX5_add⟩
set_option maxRecDepth 100000 in
theorem kX2_136 : ab_V RX2 136 MX4_times 3 := ⟨⟨tb3 121 rfl rfl, pdX4_times⟩, imX4_times, seX4_times⟩
set_option maxRecDepth 100000 in
theorem obX3 : Cond.methodLink RX3 1 Lib.objectInit ∈ ws0 := tb1 218 rfl rfl
set_option maxRecDepth 100000 in
theorem kX3_15 : ab_N RX3 15 2 MX6_init 0 := ⟨rfl, pdX6_init.1, pdX6_init.2.1, pdX6_init.2.2.1, pdX6_init.2.2.2, rfl, imX6_init⟩
set_option maxRecDepth 100000 in
theorem kX3_20 : ab_V RX3 20 MX3_makeHash 0 := ⟨⟨tb1 221 rfl rfl, pdX3_makeHash⟩, imX3_makeHash, seX3_makeHash⟩
set_option maxRecDepth 100000 in
theorem kX3_27 : ab_V RX3 27 MX6_byteAt 1 := ⟨⟨tb3 89 rfl rfl, pdX6_byteAt⟩, imX6_byteAt, seX6_byteAt⟩
set_option maxRecDepth 100000 in
theorem kX3_31 : ab_V RX3 31 MX6_hashFirst 2 := ⟨⟨tb1 225 rfl rfl, pdX6_hashFirst⟩, imX6_hashFirst, seX6_hashFirst⟩
set_option maxRecDepth 100000 in
theorem obX4 : Cond.methodLink RX4 1 Lib.objectInit ∈ ws0 := tb1 78 rfl rfl
set_option maxRecDepth 100000 in
theorem kX4_7 : ab_T RX4 7 MJ9_max_7cf53 2 := ⟨⟨tb1 79 rfl rfl, pdJ9_max_7cf53⟩, imJ9_max_7cf53⟩
set_option maxRecDepth 100000 in
theorem kX4_41 : ab_T RX4 41 MX5_copy 2 := ⟨⟨tb2 146 rfl rfl, pdX5_copy⟩, imX5_copy⟩
set_option maxRecDepth 100000 in
theorem kX4_47 : ab_V RX4 47 MX4_inverseOfLowLimb 0 := ⟨⟨tb2 147 rfl rfl, pdX4_inverseOfLowLimb⟩, imX4_inverseOfLowLimb, seX4_inverseOfLowLimb⟩
set_option maxRecDepth 100000 in
theorem kX4_57 : ab_T RX4 57 MX5_putSmall 2 := ⟨⟨tb2 153 rfl rfl, pdX5_putSmall⟩, imX5_putSmall⟩
set_option maxRecDepth 100000 in
theorem kX4_61 : ab_V RX4 61 MX4_twice 2 := ⟨⟨tb2 156 rfl rfl, pdX4_twice⟩, imX4_twice, seX4_twice⟩
set_option maxRecDepth 100000 in
theorem kX4_67 : ab_T RX4 67 MJ7_fill_d0a16 2 := ⟨⟨tb2 179 rfl rfl, pdJ7_fill_d0a16⟩, imJ7_fill_d0a16⟩
set_option maxRecDepth 100000 in
theorem kX4_72 : ab_T RX4 72 MX5_bitCount 1 := ⟨⟨tb2 190 rfl rfl, pdX5_bitCount⟩, imX5_bitCount⟩
set_option maxRecDepth 100000 in
theorem kX4_76 : ab_T RX4 76 MX5_bitAt 2 := ⟨⟨tb2 200 rfl rfl, pdX5_bitAt⟩, imX5_bitAt⟩
set_option maxRecDepth 100000 in
theorem kX4_80 : ab_V RX4 80 MX4_multiplyCarried 3 := ⟨⟨tb2 175 rfl rfl, pdX4_multiplyCarried⟩, imX4_multiplyCarried, seX4_multiplyCarried⟩
set_option maxRecDepth 100000 in
theorem kX4_84 : ab_T RX4 84 MX5_order 2 := ⟨⟨tb2 160 rfl rfl, pdX5_order⟩, imX5_order⟩
set_option maxRecDepth 100000 in
theorem kX4_88 : ab_T RX4 88 MX5_subtract 3 := ⟨⟨tb2 161 rfl rfl, pdX5_subtract⟩, imX5_subtract⟩
set_option maxRecDepth 100000 in
theorem kX4_92 : ab_V RX4 92 MX4_addProduct 2 := ⟨⟨tb2 182 rfl rfl, pdX4_addProduct⟩, imX4_addProduct, seX4_addProduct⟩
set_option maxRecDepth 100000 in
theorem kX4_95 : ab_V RX4 95 MX4_dropLowLimb 0 := ⟨⟨tb2 186 rfl rfl, pdX4_dropLowLimb⟩, imX4_dropLowLimb, seX4_dropLowLimb⟩
set_option maxRecDepth 100000 in
theorem kX5_13 : ab_T RX5 13 MJ13_numberOfLeadingZeros_95d88 1 := ⟨⟨tb2 193 rfl rfl, pdJ13_numberOfLeadingZeros_95d88⟩, imJ13_numberOfLeadingZeros_95d88⟩
set_option maxRecDepth 100000 in
theorem kX5_21 : ab_T RX5 21 MX5_bitCount 1 := ⟨⟨tb2 204 rfl rfl, pdX5_bitCount⟩, imX5_bitCount⟩
set_option maxRecDepth 100000 in
theorem kX5_25 : ab_T RX5 25 MJ9_min_7cf53 2 := ⟨⟨tb2 125 rfl rfl, pdJ9_min_7cf53⟩, imJ9_min_7cf53⟩
set_option maxRecDepth 100000 in
theorem kX5_31 : ab_T RX5 31 MX5_bitAt 2 := ⟨⟨tb2 136 rfl rfl, pdX5_bitAt⟩, imX5_bitAt⟩
set_option maxRecDepth 100000 in
theorem kX5_35 : ab_T RX5 35 MX5_halve 1 := ⟨⟨tb2 139 rfl rfl, pdX5_halve⟩, imX5_halve⟩
set_option maxRecDepth 100000 in
theorem kX5_39 : ab_T RX5 39 MJ7_fill_d0a16 2 := ⟨⟨tb2 230 rfl rfl, pdJ7_fill_d0a16⟩, imJ7_fill_d0a16⟩
set_option maxRecDepth 100000 in
theorem obX6 : Cond.methodLink RX6 1 Lib.objectInit ∈ ws0 := tb1 40 rfl rfl
set_option maxRecDepth 100000 in
theorem kX6_19 : ab_T RX6 19 MX6_paddedWord 4 := ⟨⟨tb1 231 rfl rfl, pdX6_paddedWord⟩, imX6_paddedWord⟩
set_option maxRecDepth 100000 in
theorem kX6_23 : ab_V RX6 23 MX6_extendSchedule 0 := ⟨⟨tb1 234 rfl rfl, pdX6_extendSchedule⟩, imX6_extendSchedule, seX6_extendSchedule⟩
set_option maxRecDepth 100000 in
theorem kX6_26 : ab_V RX6 26 MX6_mixBlock 0 := ⟨⟨tb2 1 rfl rfl, pdX6_mixBlock⟩, imX6_mixBlock, seX6_mixBlock⟩
set_option maxRecDepth 100000 in
theorem kX6_29 : ab_T RX6 29 MJ6_rotateRight_7cf53 2 := ⟨⟨tb1 238 rfl rfl, pdJ6_rotateRight_7cf53⟩, imJ6_rotateRight_7cf53⟩
set_option maxRecDepth 100000 in
theorem obX7 : Cond.methodLink RX7 1 Lib.objectInit ∈ ws0 := tb1 20 rfl rfl
set_option maxRecDepth 100000 in
theorem kX7_9 : ab_T RX7 9 MJ9_min_7cf53 2 := ⟨⟨tb1 23 rfl rfl, pdJ9_min_7cf53⟩, imJ9_min_7cf53⟩
set_option maxRecDepth 100000 in
theorem kX7_15 : ab_T RX7 15 MJ9_max_7cf53 2 := ⟨⟨tb1 26 rfl rfl, pdJ9_max_7cf53⟩, imJ9_max_7cf53⟩
set_option maxRecDepth 100000 in
theorem kX7_30 : ab_N RX7 30 0 MX0_init 0 := ⟨rfl, pdX0_init.1, pdX0_init.2.1, pdX0_init.2.2.1, pdX0_init.2.2.2, rfl, imX0_init⟩
set_option maxRecDepth 100000 in
theorem kX7_37 : ab_I RX7 37 MX1_init 4 := ⟨⟨tb1 68 rfl rfl, pdX1_init⟩, rfl, imX1_init⟩
set_option maxRecDepth 100000 in
theorem kX7_46 : ab_I RX7 46 MX2_init 1 := ⟨⟨tb1 154 rfl rfl, pdX2_init⟩, rfl, imX2_init⟩
set_option maxRecDepth 100000 in
theorem kX7_55 : ab_I RX7 55 MX3_init 0 := ⟨⟨tb1 215 rfl rfl, pdX3_init⟩, rfl, imX3_init⟩
set_option maxRecDepth 100000 in
theorem kX7_70 : ab_V RX7 70 MX1_hasBegun 0 := ⟨⟨tb2 58 rfl rfl, pdX1_hasBegun⟩, imX1_hasBegun, seX1_hasBegun⟩
set_option maxRecDepth 100000 in
theorem kX7_74 : ab_V RX7 74 MX0_wordCount 0 := ⟨⟨tb2 62 rfl rfl, pdX0_wordCount⟩, imX0_wordCount, seX0_wordCount⟩
set_option maxRecDepth 100000 in
theorem kX7_78 : ab_V RX7 78 MX0_addWord 1 := ⟨⟨tb2 66 rfl rfl, pdX0_addWord⟩, imX0_addWord, seX0_addWord⟩
set_option maxRecDepth 100000 in
theorem kX7_81 : ab_V RX7 81 MX1_begin 0 := ⟨⟨tb2 78 rfl rfl, pdX1_begin⟩, imX1_begin, seX1_begin⟩
set_option maxRecDepth 100000 in
theorem kX7_84 : ab_V RX7 84 MX2_stand 0 := ⟨⟨tb2 82 rfl rfl, pdX2_stand⟩, imX2_stand, seX2_stand⟩
set_option maxRecDepth 100000 in
theorem kX7_87 : ab_V RX7 87 MX1_examineNext 0 := ⟨⟨tb2 86 rfl rfl, pdX1_examineNext⟩, imX1_examineNext, seX1_examineNext⟩
set_option maxRecDepth 100000 in
theorem kX7_90 : ab_V RX7 90 MX1_hasBothPrimes 0 := ⟨⟨tb2 209 rfl rfl, pdX1_hasBothPrimes⟩, imX1_hasBothPrimes, seX1_hasBothPrimes⟩
set_option maxRecDepth 100000 in
theorem kX7_93 : ab_V RX7 93 MX1_firstPrime 0 := ⟨⟨tb2 213 rfl rfl, pdX1_firstPrime⟩, imX1_firstPrime, seX1_firstPrime⟩
set_option maxRecDepth 100000 in
theorem kX7_97 : ab_V RX7 97 MX1_secondPrime 0 := ⟨⟨tb2 217 rfl rfl, pdX1_secondPrime⟩, imX1_secondPrime, seX1_secondPrime⟩
set_option maxRecDepth 100000 in
theorem kX7_100 : ab_V RX7 100 MX2_make 2 := ⟨⟨tb2 221 rfl rfl, pdX2_make⟩, imX2_make, seX2_make⟩
set_option maxRecDepth 100000 in
theorem kX7_104 : ab_V RX7 104 MX1_examinedCount 0 := ⟨⟨tb3 18 rfl rfl, pdX1_examinedCount⟩, imX1_examinedCount, seX1_examinedCount⟩
set_option maxRecDepth 100000 in
theorem kX7_107 : ab_V RX7 107 MX0_clear 0 := ⟨⟨tb3 22 rfl rfl, pdX0_clear⟩, imX0_clear, seX0_clear⟩
set_option maxRecDepth 100000 in
theorem kX7_110 : ab_V RX7 110 MX1_clear 0 := ⟨⟨tb3 26 rfl rfl, pdX1_clear⟩, imX1_clear, seX1_clear⟩
set_option maxRecDepth 100000 in
theorem kX7_111 : ab_V RX7 111 MX2_clear 0 := ⟨⟨tb3 30 rfl rfl, pdX2_clear⟩, imX2_clear, seX2_clear⟩
set_option maxRecDepth 100000 in
theorem kX7_112 : ab_V RX7 112 MX7_bytesOfKeyPart 1 := ⟨⟨tb3 38 rfl rfl, pdX7_bytesOfKeyPart⟩, imX7_bytesOfKeyPart, seX7_bytesOfKeyPart⟩
set_option maxRecDepth 100000 in
theorem kX7_116 : ab_V RX7 116 MX7_byteOfKeyPart 2 := ⟨⟨tb3 42 rfl rfl, pdX7_byteOfKeyPart⟩, imX7_byteOfKeyPart, seX7_byteOfKeyPart⟩
set_option maxRecDepth 100000 in
theorem kX7_119 : ab_V RX7 119 MX1_undividedCount 0 := ⟨⟨tb3 57 rfl rfl, pdX1_undividedCount⟩, imX1_undividedCount, seX1_undividedCount⟩
set_option maxRecDepth 100000 in
theorem kX7_122 : ab_V RX7 122 MX3_byteCount 0 := ⟨⟨tb3 61 rfl rfl, pdX3_byteCount⟩, imX3_byteCount, seX3_byteCount⟩
set_option maxRecDepth 100000 in
theorem kX7_131 : ab_V RX7 131 MX3_append 2 := ⟨⟨tb3 69 rfl rfl, pdX3_append⟩, imX3_append, seX3_append⟩
set_option maxRecDepth 100000 in
theorem kX7_135 : ab_V RX7 135 MX3_keepFirst 1 := ⟨⟨tb3 77 rfl rfl, pdX3_keepFirst⟩, imX3_keepFirst, seX3_keepFirst⟩
set_option maxRecDepth 100000 in
theorem kX7_138 : ab_V RX7 138 MX3_hashByte 1 := ⟨⟨tb3 85 rfl rfl, pdX3_hashByte⟩, imX3_hashByte, seX3_hashByte⟩
set_option maxRecDepth 100000 in
theorem kX7_141 : ab_V RX7 141 MX7_encodedByte 1 := ⟨⟨tb3 94 rfl rfl, pdX7_encodedByte⟩, imX7_encodedByte, seX7_encodedByte⟩
set_option maxRecDepth 100000 in
theorem kX7_144 : ab_V RX7 144 MX7_writeEncoded 1 := ⟨⟨tb3 104 rfl rfl, pdX7_writeEncoded⟩, imX7_writeEncoded, seX7_writeEncoded⟩
set_option maxRecDepth 100000 in
theorem kX7_148 : ab_V RX7 148 MX2_makeSignature 2 := ⟨⟨tb3 109 rfl rfl, pdX2_makeSignature⟩, imX2_makeSignature, seX2_makeSignature⟩
set_option maxRecDepth 100000 in
theorem kX7_151 : ab_V RX7 151 MX2_isBelowN 1 := ⟨⟨tb3 126 rfl rfl, pdX2_isBelowN⟩, imX2_isBelowN, seX2_isBelowN⟩
set_option maxRecDepth 100000 in
theorem kX7_155 : ab_V RX7 155 MX2_raisePublic 2 := ⟨⟨tb3 130 rfl rfl, pdX2_raisePublic⟩, imX2_raisePublic, seX2_raisePublic⟩
set_option maxRecDepth 100000 in
theorem kX7_158 : ab_T RX7 158 MX5_order 2 := ⟨⟨tb3 136 rfl rfl, pdX5_order⟩, imX5_order⟩
set_option maxRecDepth 100000 in
theorem kX7_164 : ab_V RX7 164 MX2_raisePrivate 2 := ⟨⟨tb3 141 rfl rfl, pdX2_raisePrivate⟩, imX2_raisePrivate, seX2_raisePrivate⟩
set_option maxRecDepth 100000 in
theorem kX7_167 : ab_T RX7 167 MX5_byteAt 2 := ⟨⟨tb3 50 rfl rfl, pdX5_byteAt⟩, imX5_byteAt⟩
set_option maxRecDepth 100000 in
theorem kX7_171 : ab_T RX7 171 MX5_putByte 3 := ⟨⟨tb3 108 rfl rfl, pdX5_putByte⟩, imX5_putByte⟩
set_option maxRecDepth 100000 in
theorem kX7_179 : ab_V RX7 179 MX7_digestKey 1 := ⟨⟨tb3 163 rfl rfl, pdX7_digestKey⟩, imX7_digestKey, seX7_digestKey⟩
set_option maxRecDepth 100000 in
theorem kX7_183 : ab_V RX7 183 MX7_count 1 := ⟨⟨tb3 167 rfl rfl, pdX7_count⟩, imX7_count, seX7_count⟩
set_option maxRecDepth 100000 in
theorem kX7_186 : ab_V RX7 186 MX2_part 1 := ⟨⟨tb3 46 rfl rfl, pdX2_part⟩, imX2_part, seX2_part⟩
set_option maxRecDepth 100000 in
theorem obX8 : Cond.methodLink RX8 1 Lib.objectInit ∈ ws0 := tb3 176 rfl rfl
set_option maxRecDepth 100000 in
theorem kX8_116 : ab_V RX8 116 MX8_clear 1 := ⟨⟨tb4 94 rfl rfl, pdX8_clear⟩, imX8_clear, seX8_clear⟩
set_option maxRecDepth 100000 in
theorem kX8_120 : ab_V RX8 120 MX8_longOf 1 := ⟨⟨tb4 187 rfl rfl, pdX8_longOf⟩, imX8_longOf, seX8_longOf⟩
set_option maxRecDepth 100000 in
theorem kX8_128 : ab_V RX8 128 MX8_moveLeft 3 := ⟨⟨tb4 192 rfl rfl, pdX8_moveLeft⟩, imX8_moveLeft, seX8_moveLeft⟩
set_option maxRecDepth 100000 in
theorem kX8_132 : ab_V RX8 132 MX8_dividesAt 3 := ⟨⟨tb4 196 rfl rfl, pdX8_dividesAt⟩, imX8_dividesAt, seX8_dividesAt⟩
set_option maxRecDepth 100000 in
theorem kX8_135 : ab_V RX8 135 MX8_moveRight 2 := ⟨⟨tb4 164 rfl rfl, pdX8_moveRight⟩, imX8_moveRight, seX8_moveRight⟩
set_option maxRecDepth 100000 in
theorem kX8_139 : ab_V RX8 139 MX8_copy 2 := ⟨⟨tb4 151 rfl rfl, pdX8_copy⟩, imX8_copy, seX8_copy⟩
set_option maxRecDepth 100000 in
theorem kX8_142 : ab_V RX8 142 MX8_leaves 2 := ⟨⟨tb4 183 rfl rfl, pdX8_leaves⟩, imX8_leaves, seX8_leaves⟩
set_option maxRecDepth 100000 in
theorem kX8_145 : ab_V RX8 145 MX8_small 2 := ⟨⟨tb4 175 rfl rfl, pdX8_small⟩, imX8_small, seX8_small⟩
set_option maxRecDepth 100000 in
theorem kX8_148 : ab_V RX8 148 MX8_times 3 := ⟨⟨tb4 201 rfl rfl, pdX8_times⟩, imX8_times, seX8_times⟩
set_option maxRecDepth 100000 in
theorem kX8_151 : ab_V RX8 151 MX8_bit 2 := ⟨⟨tb4 160 rfl rfl, pdX8_bit⟩, imX8_bit, seX8_bit⟩
set_option maxRecDepth 100000 in
theorem kX8_159 : ab_V RX8 159 MX8_padded 2 := ⟨⟨tb4 114 rfl rfl, pdX8_padded⟩, imX8_padded, seX8_padded⟩
set_option maxRecDepth 100000 in
theorem kX8_163 : ab_T RX8 163 MX8_turned 2 := ⟨⟨tb4 118 rfl rfl, pdX8_turned⟩, imX8_turned⟩
set_option maxRecDepth 100000 in
theorem kX8_166 : ab_V RX8 166 MX8_block 2 := ⟨⟨tb4 110 rfl rfl, pdX8_block⟩, imX8_block, seX8_block⟩
set_option maxRecDepth 100000 in
theorem kX8_176 : ab_V RX8 176 MX8_lay 1 := ⟨⟨tb4 102 rfl rfl, pdX8_lay⟩, imX8_lay, seX8_lay⟩
set_option maxRecDepth 100000 in
theorem kX8_182 : ab_V RX8 182 MX8_hashes 0 := ⟨⟨tb4 106 rfl rfl, pdX8_hashes⟩, imX8_hashes, seX8_hashes⟩
set_option maxRecDepth 100000 in
theorem kX8_188 : ab_V RX8 188 MX8_hashByte 1 := ⟨⟨tb4 121 rfl rfl, pdX8_hashByte⟩, imX8_hashByte, seX8_hashByte⟩
set_option maxRecDepth 100000 in
theorem kX8_191 : ab_V RX8 191 MX8_restSmall 2 := ⟨⟨tb4 138 rfl rfl, pdX8_restSmall⟩, imX8_restSmall, seX8_restSmall⟩
set_option maxRecDepth 100000 in
theorem kX8_194 : ab_V RX8 194 MX8_powers 3 := ⟨⟨tb4 179 rfl rfl, pdX8_powers⟩, imX8_powers, seX8_powers⟩
set_option maxRecDepth 100000 in
theorem kX8_197 : ab_V RX8 197 MX8_isSmall 2 := ⟨⟨tb4 205 rfl rfl, pdX8_isSmall⟩, imX8_isSmall, seX8_isSmall⟩
set_option maxRecDepth 100000 in
theorem kX8_200 : ab_V RX8 200 MX8_compare 2 := ⟨⟨tb4 143 rfl rfl, pdX8_compare⟩, imX8_compare, seX8_compare⟩
set_option maxRecDepth 100000 in
theorem kX8_203 : ab_V RX8 203 MX8_takesSmall 2 := ⟨⟨tb4 155 rfl rfl, pdX8_takesSmall⟩, imX8_takesSmall, seX8_takesSmall⟩
set_option maxRecDepth 100000 in
theorem kX8_206 : ab_T RX8 206 MX8_base 1 := ⟨⟨tb4 168 rfl rfl, pdX8_base⟩, imX8_base⟩
set_option maxRecDepth 100000 in
theorem kX8_209 : ab_V RX8 209 MX8_passesBy 2 := ⟨⟨tb4 171 rfl rfl, pdX8_passesBy⟩, imX8_passesBy, seX8_passesBy⟩
set_option maxRecDepth 100000 in
theorem kX8_212 : ab_V RX8 212 MX8_isDivided 0 := ⟨⟨tb4 134 rfl rfl, pdX8_isDivided⟩, imX8_isDivided, seX8_isDivided⟩
set_option maxRecDepth 100000 in
theorem kX8_223 : ab_V RX8 223 MX8_passes 0 := ⟨⟨tb4 147 rfl rfl, pdX8_passes⟩, imX8_passes, seX8_passes⟩
set_option maxRecDepth 100000 in
theorem kX8_228 : ab_V RX8 228 MX8_growsSmall 3 := ⟨⟨tb4 218 rfl rfl, pdX8_growsSmall⟩, imX8_growsSmall, seX8_growsSmall⟩
set_option maxRecDepth 100000 in
theorem kX8_231 : ab_V RX8 231 MX8_shareSmall 2 := ⟨⟨tb4 222 rfl rfl, pdX8_shareSmall⟩, imX8_shareSmall, seX8_shareSmall⟩
set_option maxRecDepth 100000 in
theorem kX8_234 : ab_V RX8 234 MX8_inverse 2 := ⟨⟨tb4 213 rfl rfl, pdX8_inverse⟩, imX8_inverse, seX8_inverse⟩
set_option maxRecDepth 100000 in
theorem kX8_240 : ab_V RX8 240 MX8_draws 0 := ⟨⟨tb4 98 rfl rfl, pdX8_draws⟩, imX8_draws, seX8_draws⟩
set_option maxRecDepth 100000 in
theorem kX8_244 : ab_V RX8 244 MX8_byteTo 4 := ⟨⟨tb4 125 rfl rfl, pdX8_byteTo⟩, imX8_byteTo, seX8_byteTo⟩
set_option maxRecDepth 100000 in
theorem kX8_251 : ab_V RX8 251 MX8_isGood 0 := ⟨⟨tb4 130 rfl rfl, pdX8_isGood⟩, imX8_isGood, seX8_isGood⟩
set_option maxRecDepth 100000 in
theorem kX8_254 : ab_V RX8 254 MX8_makesKey 0 := ⟨⟨tb4 209 rfl rfl, pdX8_makesKey⟩, imX8_makesKey, seX8_makesKey⟩
set_option maxRecDepth 100000 in
theorem kX8_257 : ab_T RX8 257 MX8_in 3 := ⟨⟨tb4 87 rfl rfl, pdX8_in⟩, imX8_in⟩
set_option maxRecDepth 100000 in
theorem kX8_261 : ab_V RX8 261 MX8_examines 0 := ⟨⟨tb4 90 rfl rfl, pdX8_examines⟩, imX8_examines, seX8_examines⟩
set_option maxRecDepth 100000 in
theorem kX8_264 : ab_V RX8 264 MX8_sizeOf 1 := ⟨⟨tb4 234 rfl rfl, pdX8_sizeOf⟩, imX8_sizeOf, seX8_sizeOf⟩
set_option maxRecDepth 100000 in
theorem kX8_267 : ab_V RX8 267 MX8_byteAt 3 := ⟨⟨tb4 238 rfl rfl, pdX8_byteAt⟩, imX8_byteAt, seX8_byteAt⟩
set_option maxRecDepth 100000 in
theorem kX8_280 : ab_V RX8 280 MX8_hashesMessage 0 := ⟨⟨tb5 18 rfl rfl, pdX8_hashesMessage⟩, imX8_hashesMessage, seX8_hashesMessage⟩
set_option maxRecDepth 100000 in
theorem kX8_283 : ab_V RX8 283 MX8_encodes 0 := ⟨⟨tb5 26 rfl rfl, pdX8_encodes⟩, imX8_encodes, seX8_encodes⟩
set_option maxRecDepth 100000 in
theorem kX8_286 : ab_V RX8 286 MX8_adds 2 := ⟨⟨tb5 34 rfl rfl, pdX8_adds⟩, imX8_adds, seX8_adds⟩
set_option maxRecDepth 100000 in
theorem kX8_289 : ab_V RX8 289 MX8_takes 2 := ⟨⟨tb5 38 rfl rfl, pdX8_takes⟩, imX8_takes, seX8_takes⟩
set_option maxRecDepth 100000 in
theorem kX8_292 : ab_V RX8 292 MX8_exponentE 0 := ⟨⟨tb5 46 rfl rfl, pdX8_exponentE⟩, imX8_exponentE, seX8_exponentE⟩
set_option maxRecDepth 100000 in
theorem kX8_299 : ab_V RX8 299 MX8_mixed 3 := ⟨⟨tb5 71 rfl rfl, pdX8_mixed⟩, imX8_mixed, seX8_mixed⟩
set_option maxRecDepth 100000 in
theorem kX8_303 : ab_V RX8 303 MX8_count 1 := ⟨⟨tb5 76 rfl rfl, pdX8_count⟩, imX8_count, seX8_count⟩
set_option maxRecDepth 100000 in
theorem kJ13_308 : ab_T RJ13 308 MJ6_numberOfLeadingZeros_0f7a4 1 := ⟨⟨tb2 196 rfl rfl, pdJ6_numberOfLeadingZeros_0f7a4⟩, imJ6_numberOfLeadingZeros_0f7a4⟩
set_option maxRecDepth 100000 in
theorem kL_9 : ab_T RL 9 ML_cell 2 := ⟨⟨tb3 168 rfl rfl, pdL_cell⟩, imL_cell⟩
set_option maxRecDepth 100000 in
theorem kL_15 : ab_I RL 15 MX7_init 2 := ⟨⟨tb1 17 rfl rfl, pdX7_init⟩, rfl, imX7_init⟩
set_option maxRecDepth 100000 in
theorem kL_20 : ab_I RL 20 MX8_init 2 := ⟨⟨tb3 173 rfl rfl, pdX8_init⟩, rfl, imX8_init⟩
set_option maxRecDepth 100000 in
theorem kL_21 : ab_V RL 21 MX7_seed 1 := ⟨⟨tb2 54 rfl rfl, pdX7_seed⟩, imX7_seed, seX7_seed⟩
set_option maxRecDepth 100000 in
theorem kL_25 : ab_V RL 25 MX8_seed 1 := ⟨⟨tb4 79 rfl rfl, pdX8_seed⟩, imX8_seed, seX8_seed⟩
set_option maxRecDepth 100000 in
theorem kL_26 : ab_V RL 26 MX7_search 1 := ⟨⟨tb2 74 rfl rfl, pdX7_search⟩, imX7_search, seX7_search⟩
set_option maxRecDepth 100000 in
theorem kL_29 : ab_V RL 29 MX8_search 1 := ⟨⟨tb4 83 rfl rfl, pdX8_search⟩, imX8_search, seX8_search⟩
set_option maxRecDepth 100000 in
theorem kL_30 : ab_V RL 30 MX7_forget 0 := ⟨⟨tb3 14 rfl rfl, pdX7_forget⟩, imX7_forget, seX7_forget⟩
set_option maxRecDepth 100000 in
theorem kL_34 : ab_V RL 34 MX8_forget 0 := ⟨⟨tb4 226 rfl rfl, pdX8_forget⟩, imX8_forget, seX8_forget⟩
set_option maxRecDepth 100000 in
theorem kL_35 : ab_V RL 35 MX7_key 2 := ⟨⟨tb3 34 rfl rfl, pdX7_key⟩, imX7_key, seX7_key⟩
set_option maxRecDepth 100000 in
theorem kL_39 : ab_V RL 39 MX8_key 2 := ⟨⟨tb4 230 rfl rfl, pdX8_key⟩, imX8_key, seX8_key⟩
set_option maxRecDepth 100000 in
theorem kL_40 : ab_V RL 40 MX7_count 1 := ⟨⟨tb3 53 rfl rfl, pdX7_count⟩, imX7_count, seX7_count⟩
set_option maxRecDepth 100000 in
theorem kL_43 : ab_V RL 43 MX8_count 1 := ⟨⟨tb5 2 rfl rfl, pdX8_count⟩, imX8_count, seX8_count⟩
set_option maxRecDepth 100000 in
theorem kL_46 : ab_V RL 46 MX7_feed 2 := ⟨⟨tb3 65 rfl rfl, pdX7_feed⟩, imX7_feed, seX7_feed⟩
set_option maxRecDepth 100000 in
theorem kL_50 : ab_V RL 50 MX8_feed 2 := ⟨⟨tb5 6 rfl rfl, pdX8_feed⟩, imX8_feed, seX8_feed⟩
set_option maxRecDepth 100000 in
theorem kL_51 : ab_V RL 51 MX7_cut 1 := ⟨⟨tb3 73 rfl rfl, pdX7_cut⟩, imX7_cut, seX7_cut⟩
set_option maxRecDepth 100000 in
theorem kL_54 : ab_V RL 54 MX8_cut 1 := ⟨⟨tb5 10 rfl rfl, pdX8_cut⟩, imX8_cut, seX8_cut⟩
set_option maxRecDepth 100000 in
theorem kL_55 : ab_V RL 55 MX7_hash 1 := ⟨⟨tb3 81 rfl rfl, pdX7_hash⟩, imX7_hash, seX7_hash⟩
set_option maxRecDepth 100000 in
theorem kL_58 : ab_V RL 58 MX8_hash 1 := ⟨⟨tb5 14 rfl rfl, pdX8_hash⟩, imX8_hash, seX8_hash⟩
set_option maxRecDepth 100000 in
theorem kL_59 : ab_V RL 59 MX7_encoded 1 := ⟨⟨tb3 90 rfl rfl, pdX7_encoded⟩, imX7_encoded, seX7_encoded⟩
set_option maxRecDepth 100000 in
theorem kL_62 : ab_V RL 62 MX8_encoded 1 := ⟨⟨tb5 22 rfl rfl, pdX8_encoded⟩, imX8_encoded, seX8_encoded⟩
set_option maxRecDepth 100000 in
theorem kL_63 : ab_V RL 63 MX7_sign 0 := ⟨⟨tb3 100 rfl rfl, pdX7_sign⟩, imX7_sign, seX7_sign⟩
set_option maxRecDepth 100000 in
theorem kL_66 : ab_V RL 66 MX8_sign 0 := ⟨⟨tb5 30 rfl rfl, pdX8_sign⟩, imX8_sign, seX8_sign⟩
set_option maxRecDepth 100000 in
theorem kL_67 : ab_V RL 67 MX7_verify 0 := ⟨⟨tb3 122 rfl rfl, pdX7_verify⟩, imX7_verify, seX7_verify⟩
set_option maxRecDepth 100000 in
theorem kL_70 : ab_V RL 70 MX8_verify 0 := ⟨⟨tb5 42 rfl rfl, pdX8_verify⟩, imX8_verify, seX8_verify⟩
set_option maxRecDepth 100000 in
theorem kL_71 : ab_V RL 71 MX7_power 1 := ⟨⟨tb3 137 rfl rfl, pdX7_power⟩, imX7_power, seX7_power⟩
set_option maxRecDepth 100000 in
theorem kL_75 : ab_V RL 75 MX8_power 1 := ⟨⟨tb5 50 rfl rfl, pdX8_power⟩, imX8_power, seX8_power⟩
set_option maxRecDepth 100000 in
theorem kL_76 : ab_V RL 76 MX7_encode 0 := ⟨⟨tb3 145 rfl rfl, pdX7_encode⟩, imX7_encode, seX7_encode⟩
set_option maxRecDepth 100000 in
theorem kL_79 : ab_V RL 79 MX8_encode 0 := ⟨⟨tb5 54 rfl rfl, pdX8_encode⟩, imX8_encode, seX8_encode⟩
set_option maxRecDepth 100000 in
theorem kL_80 : ab_V RL 80 MX7_set 2 := ⟨⟨tb3 149 rfl rfl, pdX7_set⟩, imX7_set, seX7_set⟩
set_option maxRecDepth 100000 in
theorem kL_83 : ab_V RL 83 MX8_set 2 := ⟨⟨tb5 58 rfl rfl, pdX8_set⟩, imX8_set, seX8_set⟩
set_option maxRecDepth 100000 in
theorem kL_84 : ab_V RL 84 MX7_get 1 := ⟨⟨tb3 153 rfl rfl, pdX7_get⟩, imX7_get, seX7_get⟩
set_option maxRecDepth 100000 in
theorem kL_87 : ab_V RL 87 MX8_get 1 := ⟨⟨tb5 62 rfl rfl, pdX8_get⟩, imX8_get, seX8_get⟩
set_option maxRecDepth 100000 in
theorem kL_88 : ab_V RL 88 MX7_digest 0 := ⟨⟨tb3 157 rfl rfl, pdX7_digest⟩, imX7_digest, seX7_digest⟩
set_option maxRecDepth 100000 in
theorem kL_92 : ab_V RL 92 MX8_digest 0 := ⟨⟨tb5 66 rfl rfl, pdX8_digest⟩, imX8_digest, seX8_digest⟩
