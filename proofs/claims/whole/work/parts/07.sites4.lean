set_option maxRecDepth 100000 in
theorem pdX0_init : Cond.code (mY MX0_init) (mC MX0_init) (mN MX0_init) (mR MX0_init) ∈ ws0 ∧ Cond.initialized (mY MX0_init).cls ∈ ws0 ∧ ((mY MX0_init).cls ≠ "java/lang/invoke/MethodHandle" ∧ (mY MX0_init).cls ≠ "java/lang/invoke/VarHandle") ∧ (parseMethodDescriptor (mY MX0_init).desc).map (fun d => d.parameters.length) = some 0 := ⟨tb1 33 rfl rfl, iiX0, neX0, (by decide +kernel)⟩
set_option maxRecDepth 100000 in
theorem imX0_init : Cond.instanceMethod yX0_init ∈ ws0 := tb1 32 rfl rfl
set_option maxRecDepth 100000 in
theorem pdX0_clear : Cond.code (mY MX0_clear) (mC MX0_clear) (mN MX0_clear) (mR MX0_clear) ∈ ws0 ∧ Cond.initialized (mY MX0_clear).cls ∈ ws0 ∧ ((mY MX0_clear).cls ≠ "java/lang/invoke/MethodHandle" ∧ (mY MX0_clear).cls ≠ "java/lang/invoke/VarHandle") ∧ (parseMethodDescriptor (mY MX0_clear).desc).map (fun d => d.parameters.length) = some 0 := ⟨tb3 25 rfl rfl, iiX0, neX0, (by decide +kernel)⟩
set_option maxRecDepth 100000 in
theorem imX0_clear : Cond.instanceMethod yX0_clear ∈ ws0 := tb3 23 rfl rfl
set_option maxRecDepth 100000 in
theorem seX0_clear : Cond.selects (mY MX0_clear).cls (mY MX0_clear) (mY MX0_clear) ∈ ws0 := tb3 24 rfl rfl
set_option maxRecDepth 100000 in
theorem pdX0_wordCount : Cond.code (mY MX0_wordCount) (mC MX0_wordCount) (mN MX0_wordCount) (mR MX0_wordCount) ∈ ws0 ∧ Cond.initialized (mY MX0_wordCount).cls ∈ ws0 ∧ ((mY MX0_wordCount).cls ≠ "java/lang/invoke/MethodHandle" ∧ (mY MX0_wordCount).cls ≠ "java/lang/invoke/VarHandle") ∧ (parseMethodDescriptor (mY MX0_wordCount).desc).map (fun d => d.parameters.length) = some 0 := ⟨tb2 65 rfl rfl, iiX0, neX0, (by decide +kernel)⟩
set_option maxRecDepth 100000 in
theorem imX0_wordCount : Cond.instanceMethod yX0_wordCount ∈ ws0 := tb2 63 rfl rfl
set_option maxRecDepth 100000 in
theorem seX0_wordCount : Cond.selects (mY MX0_wordCount).cls (mY MX0_wordCount) (mY MX0_wordCount) ∈ ws0 := tb2 64 rfl rfl
set_option maxRecDepth 100000 in
theorem pdX0_addWord : Cond.code (mY MX0_addWord) (mC MX0_addWord) (mN MX0_addWord) (mR MX0_addWord) ∈ ws0 ∧ Cond.initialized (mY MX0_addWord).cls ∈ ws0 ∧ ((mY MX0_addWord).cls ≠ "java/lang/invoke/MethodHandle" ∧ (mY MX0_addWord).cls ≠ "java/lang/invoke/VarHandle") ∧ (parseMethodDescriptor (mY MX0_addWord).desc).map (fun d => d.parameters.length) = some 1 := ⟨tb2 69 rfl rfl, iiX0, neX0, (by decide +kernel)⟩
set_option maxRecDepth 100000 in
theorem imX0_addWord : Cond.instanceMethod yX0_addWord ∈ ws0 := tb2 67 rfl rfl
set_option maxRecDepth 100000 in
theorem seX0_addWord : Cond.selects (mY MX0_addWord).cls (mY MX0_addWord) (mY MX0_addWord) ∈ ws0 := tb2 68 rfl rfl
set_option maxRecDepth 100000 in
theorem pdX0_nextByte : Cond.code (mY MX0_nextByte) (mC MX0_nextByte) (mN MX0_nextByte) (mR MX0_nextByte) ∈ ws0 ∧ Cond.initialized (mY MX0_nextByte).cls ∈ ws0 ∧ ((mY MX0_nextByte).cls ≠ "java/lang/invoke/MethodHandle" ∧ (mY MX0_nextByte).cls ≠ "java/lang/invoke/VarHandle") ∧ (parseMethodDescriptor (mY MX0_nextByte).desc).map (fun d => d.parameters.length) = some 0 := ⟨tb2 97 rfl rfl, iiX0, neX0, (by decide +kernel)⟩
set_option maxRecDepth 100000 in
theorem imX0_nextByte : Cond.instanceMethod yX0_nextByte ∈ ws0 := tb2 95 rfl rfl
set_option maxRecDepth 100000 in
theorem seX0_nextByte : Cond.selects (mY MX0_nextByte).cls (mY MX0_nextByte) (mY MX0_nextByte) ∈ ws0 := tb2 96 rfl rfl
set_option maxRecDepth 100000 in
theorem pdX0_putWord : Cond.code (mY MX0_putWord) (mC MX0_putWord) (mN MX0_putWord) (mR MX0_putWord) ∈ ws0 ∧ Cond.initialized (mY MX0_putWord).cls ∈ ws0 ∧ ((mY MX0_putWord).cls ≠ "java/lang/invoke/MethodHandle" ∧ (mY MX0_putWord).cls ≠ "java/lang/invoke/VarHandle") ∧ (parseMethodDescriptor (mY MX0_putWord).desc).map (fun d => d.parameters.length) = some 1 := ⟨tb2 73 rfl rfl, iiX0, neX0, (by decide +kernel)⟩
set_option maxRecDepth 100000 in
theorem imX0_putWord : Cond.instanceMethod yX0_putWord ∈ ws0 := tb2 72 rfl rfl
set_option maxRecDepth 100000 in
theorem seX0_putWord : Cond.selects (mY MX0_putWord).cls (mY MX0_putWord) (mY MX0_putWord) ∈ ws0 := tb0 3 rfl rfl
set_option maxRecDepth 100000 in
theorem pdX1_init : Cond.code (mY MX1_init) (mC MX1_init) (mN MX1_init) (mR MX1_init) ∈ ws0 ∧ Cond.initialized (mY MX1_init).cls ∈ ws0 ∧ ((mY MX1_init).cls ≠ "java/lang/invoke/MethodHandle" ∧ (mY MX1_init).cls ≠ "java/lang/invoke/VarHandle") ∧ (parseMethodDescriptor (mY MX1_init).desc).map (fun d => d.parameters.length) = some 4 := ⟨tb1 70 rfl rfl, iiX1, neX1, (by decide +kernel)⟩
set_option maxRecDepth 100000 in
theorem imX1_init : Cond.instanceMethod yX1_init ∈ ws0 := tb1 69 rfl rfl
set_option maxRecDepth 100000 in
theorem pdX1_clear : Cond.code (mY MX1_clear) (mC MX1_clear) (mN MX1_clear) (mR MX1_clear) ∈ ws0 ∧ Cond.initialized (mY MX1_clear).cls ∈ ws0 ∧ ((mY MX1_clear).cls ≠ "java/lang/invoke/MethodHandle" ∧ (mY MX1_clear).cls ≠ "java/lang/invoke/VarHandle") ∧ (parseMethodDescriptor (mY MX1_clear).desc).map (fun d => d.parameters.length) = some 0 := ⟨tb3 29 rfl rfl, iiX1, neX1, (by decide +kernel)⟩
set_option maxRecDepth 100000 in
theorem imX1_clear : Cond.instanceMethod yX1_clear ∈ ws0 := tb3 27 rfl rfl
set_option maxRecDepth 100000 in
theorem seX1_clear : Cond.selects (mY MX1_clear).cls (mY MX1_clear) (mY MX1_clear) ∈ ws0 := tb3 28 rfl rfl
set_option maxRecDepth 100000 in
theorem pdX1_begin : Cond.code (mY MX1_begin) (mC MX1_begin) (mN MX1_begin) (mR MX1_begin) ∈ ws0 ∧ Cond.initialized (mY MX1_begin).cls ∈ ws0 ∧ ((mY MX1_begin).cls ≠ "java/lang/invoke/MethodHandle" ∧ (mY MX1_begin).cls ≠ "java/lang/invoke/VarHandle") ∧ (parseMethodDescriptor (mY MX1_begin).desc).map (fun d => d.parameters.length) = some 0 := ⟨tb2 81 rfl rfl, iiX1, neX1, (by decide +kernel)⟩
set_option maxRecDepth 100000 in
theorem imX1_begin : Cond.instanceMethod yX1_begin ∈ ws0 := tb2 79 rfl rfl
set_option maxRecDepth 100000 in
theorem seX1_begin : Cond.selects (mY MX1_begin).cls (mY MX1_begin) (mY MX1_begin) ∈ ws0 := tb2 80 rfl rfl
set_option maxRecDepth 100000 in
theorem pdX1_hasBegun : Cond.code (mY MX1_hasBegun) (mC MX1_hasBegun) (mN MX1_hasBegun) (mR MX1_hasBegun) ∈ ws0 ∧ Cond.initialized (mY MX1_hasBegun).cls ∈ ws0 ∧ ((mY MX1_hasBegun).cls ≠ "java/lang/invoke/MethodHandle" ∧ (mY MX1_hasBegun).cls ≠ "java/lang/invoke/VarHandle") ∧ (parseMethodDescriptor (mY MX1_hasBegun).desc).map (fun d => d.parameters.length) = some 0 := ⟨tb2 61 rfl rfl, iiX1, neX1, (by decide +kernel)⟩
set_option maxRecDepth 100000 in
theorem imX1_hasBegun : Cond.instanceMethod yX1_hasBegun ∈ ws0 := tb2 59 rfl rfl
set_option maxRecDepth 100000 in
theorem seX1_hasBegun : Cond.selects (mY MX1_hasBegun).cls (mY MX1_hasBegun) (mY MX1_hasBegun) ∈ ws0 := tb2 60 rfl rfl
set_option maxRecDepth 100000 in
theorem pdX1_hasBothPrimes : Cond.code (mY MX1_hasBothPrimes) (mC MX1_hasBothPrimes) (mN MX1_hasBothPrimes) (mR MX1_hasBothPrimes) ∈ ws0 ∧ Cond.initialized (mY MX1_hasBothPrimes).cls ∈ ws0 ∧ ((mY MX1_hasBothPrimes).cls ≠ "java/lang/invoke/MethodHandle" ∧ (mY MX1_hasBothPrimes).cls ≠ "java/lang/invoke/VarHandle") ∧ (parseMethodDescriptor (mY MX1_hasBothPrimes).desc).map (fun d => d.parameters.length) = some 0 := ⟨tb2 212 rfl rfl, iiX1, neX1, (by decide +kernel)⟩
set_option maxRecDepth 100000 in
theorem imX1_hasBothPrimes : Cond.instanceMethod yX1_hasBothPrimes ∈ ws0 := tb2 210 rfl rfl
set_option maxRecDepth 100000 in
theorem seX1_hasBothPrimes : Cond.selects (mY MX1_hasBothPrimes).cls (mY MX1_hasBothPrimes) (mY MX1_hasBothPrimes) ∈ ws0 := tb2 211 rfl rfl
set_option maxRecDepth 100000 in
theorem pdX1_firstPrime : Cond.code (mY MX1_firstPrime) (mC MX1_firstPrime) (mN MX1_firstPrime) (mR MX1_firstPrime) ∈ ws0 ∧ Cond.initialized (mY MX1_firstPrime).cls ∈ ws0 ∧ ((mY MX1_firstPrime).cls ≠ "java/lang/invoke/MethodHandle" ∧ (mY MX1_firstPrime).cls ≠ "java/lang/invoke/VarHandle") ∧ (parseMethodDescriptor (mY MX1_firstPrime).desc).map (fun d => d.parameters.length) = some 0 := ⟨tb2 216 rfl rfl, iiX1, neX1, (by decide +kernel)⟩
set_option maxRecDepth 100000 in
theorem imX1_firstPrime : Cond.instanceMethod yX1_firstPrime ∈ ws0 := tb2 214 rfl rfl
set_option maxRecDepth 100000 in
theorem seX1_firstPrime : Cond.selects (mY MX1_firstPrime).cls (mY MX1_firstPrime) (mY MX1_firstPrime) ∈ ws0 := tb2 215 rfl rfl
set_option maxRecDepth 100000 in
theorem pdX1_secondPrime : Cond.code (mY MX1_secondPrime) (mC MX1_secondPrime) (mN MX1_secondPrime) (mR MX1_secondPrime) ∈ ws0 ∧ Cond.initialized (mY MX1_secondPrime).cls ∈ ws0 ∧ ((mY MX1_secondPrime).cls ≠ "java/lang/invoke/MethodHandle" ∧ (mY MX1_secondPrime).cls ≠ "java/lang/invoke/VarHandle") ∧ (parseMethodDescriptor (mY MX1_secondPrime).desc).map (fun d => d.parameters.length) = some 0 := ⟨tb2 220 rfl rfl, iiX1, neX1, (by decide +kernel)⟩
set_option maxRecDepth 100000 in
theorem imX1_secondPrime : Cond.instanceMethod yX1_secondPrime ∈ ws0 := tb2 218 rfl rfl
set_option maxRecDepth 100000 in
theorem seX1_secondPrime : Cond.selects (mY MX1_secondPrime).cls (mY MX1_secondPrime) (mY MX1_secondPrime) ∈ ws0 := tb2 219 rfl rfl
set_option maxRecDepth 100000 in
theorem pdX1_examinedCount : Cond.code (mY MX1_examinedCount) (mC MX1_examinedCount) (mN MX1_examinedCount) (mR MX1_examinedCount) ∈ ws0 ∧ Cond.initialized (mY MX1_examinedCount).cls ∈ ws0 ∧ ((mY MX1_examinedCount).cls ≠ "java/lang/invoke/MethodHandle" ∧ (mY MX1_examinedCount).cls ≠ "java/lang/invoke/VarHandle") ∧ (parseMethodDescriptor (mY MX1_examinedCount).desc).map (fun d => d.parameters.length) = some 0 := ⟨tb3 21 rfl rfl, iiX1, neX1, (by decide +kernel)⟩
set_option maxRecDepth 100000 in
theorem imX1_examinedCount : Cond.instanceMethod yX1_examinedCount ∈ ws0 := tb3 19 rfl rfl
set_option maxRecDepth 100000 in
theorem seX1_examinedCount : Cond.selects (mY MX1_examinedCount).cls (mY MX1_examinedCount) (mY MX1_examinedCount) ∈ ws0 := tb3 20 rfl rfl
set_option maxRecDepth 100000 in
theorem pdX1_undividedCount : Cond.code (mY MX1_undividedCount) (mC MX1_undividedCount) (mN MX1_undividedCount) (mR MX1_undividedCount) ∈ ws0 ∧ Cond.initialized (mY MX1_undividedCount).cls ∈ ws0 ∧ ((mY MX1_undividedCount).cls ≠ "java/lang/invoke/MethodHandle" ∧ (mY MX1_undividedCount).cls ≠ "java/lang/invoke/VarHandle") ∧ (parseMethodDescriptor (mY MX1_undividedCount).desc).map (fun d => d.parameters.length) = some 0 := ⟨tb3 60 rfl rfl, iiX1, neX1, (by decide +kernel)⟩
set_option maxRecDepth 100000 in
theorem imX1_undividedCount : Cond.instanceMethod yX1_undividedCount ∈ ws0 := tb3 58 rfl rfl
set_option maxRecDepth 100000 in
theorem seX1_undividedCount : Cond.selects (mY MX1_undividedCount).cls (mY MX1_undividedCount) (mY MX1_undividedCount) ∈ ws0 := tb3 59 rfl rfl
set_option maxRecDepth 100000 in
theorem pdX1_examineNext : Cond.code (mY MX1_examineNext) (mC MX1_examineNext) (mN MX1_examineNext) (mR MX1_examineNext) ∈ ws0 ∧ Cond.initialized (mY MX1_examineNext).cls ∈ ws0 ∧ ((mY MX1_examineNext).cls ≠ "java/lang/invoke/MethodHandle" ∧ (mY MX1_examineNext).cls ≠ "java/lang/invoke/VarHandle") ∧ (parseMethodDescriptor (mY MX1_examineNext).desc).map (fun d => d.parameters.length) = some 0 := ⟨tb2 89 rfl rfl, iiX1, neX1, (by decide +kernel)⟩
set_option maxRecDepth 100000 in
theorem imX1_examineNext : Cond.instanceMethod yX1_examineNext ∈ ws0 := tb2 87 rfl rfl
set_option maxRecDepth 100000 in
theorem seX1_examineNext : Cond.selects (mY MX1_examineNext).cls (mY MX1_examineNext) (mY MX1_examineNext) ∈ ws0 := tb2 88 rfl rfl
set_option maxRecDepth 100000 in
theorem pdX1_drawCandidate : Cond.code (mY MX1_drawCandidate) (mC MX1_drawCandidate) (mN MX1_drawCandidate) (mR MX1_drawCandidate) ∈ ws0 ∧ Cond.initialized (mY MX1_drawCandidate).cls ∈ ws0 ∧ ((mY MX1_drawCandidate).cls ≠ "java/lang/invoke/MethodHandle" ∧ (mY MX1_drawCandidate).cls ≠ "java/lang/invoke/VarHandle") ∧ (parseMethodDescriptor (mY MX1_drawCandidate).desc).map (fun d => d.parameters.length) = some 0 := ⟨tb2 93 rfl rfl, iiX1, neX1, (by decide +kernel)⟩
set_option maxRecDepth 100000 in
theorem imX1_drawCandidate : Cond.instanceMethod yX1_drawCandidate ∈ ws0 := tb2 92 rfl rfl
set_option maxRecDepth 100000 in
theorem seX1_drawCandidate : Cond.selects (mY MX1_drawCandidate).cls (mY MX1_drawCandidate) (mY MX1_drawCandidate) ∈ ws0 := tb0 4 rfl rfl
set_option maxRecDepth 100000 in
theorem pdX1_hasSmallDivisor : Cond.code (mY MX1_hasSmallDivisor) (mC MX1_hasSmallDivisor) (mN MX1_hasSmallDivisor) (mR MX1_hasSmallDivisor) ∈ ws0 ∧ Cond.initialized (mY MX1_hasSmallDivisor).cls ∈ ws0 ∧ ((mY MX1_hasSmallDivisor).cls ≠ "java/lang/invoke/MethodHandle" ∧ (mY MX1_hasSmallDivisor).cls ≠ "java/lang/invoke/VarHandle") ∧ (parseMethodDescriptor (mY MX1_hasSmallDivisor).desc).map (fun d => d.parameters.length) = some 0 := ⟨tb2 111 rfl rfl, iiX1, neX1, (by decide +kernel)⟩
set_option maxRecDepth 100000 in
theorem imX1_hasSmallDivisor : Cond.instanceMethod yX1_hasSmallDivisor ∈ ws0 := tb2 110 rfl rfl
set_option maxRecDepth 100000 in
theorem seX1_hasSmallDivisor : Cond.selects (mY MX1_hasSmallDivisor).cls (mY MX1_hasSmallDivisor) (mY MX1_hasSmallDivisor) ∈ ws0 := tb0 5 rfl rfl
set_option maxRecDepth 100000 in
theorem pdX1_isGood : Cond.code (mY MX1_isGood) (mC MX1_isGood) (mN MX1_isGood) (mR MX1_isGood) ∈ ws0 ∧ Cond.initialized (mY MX1_isGood).cls ∈ ws0 ∧ ((mY MX1_isGood).cls ≠ "java/lang/invoke/MethodHandle" ∧ (mY MX1_isGood).cls ≠ "java/lang/invoke/VarHandle") ∧ (parseMethodDescriptor (mY MX1_isGood).desc).map (fun d => d.parameters.length) = some 0 := ⟨tb2 120 rfl rfl, iiX1, neX1, (by decide +kernel)⟩
set_option maxRecDepth 100000 in
theorem imX1_isGood : Cond.instanceMethod yX1_isGood ∈ ws0 := tb2 119 rfl rfl
set_option maxRecDepth 100000 in
theorem seX1_isGood : Cond.selects (mY MX1_isGood).cls (mY MX1_isGood) (mY MX1_isGood) ∈ ws0 := tb0 6 rfl rfl
set_option maxRecDepth 100000 in
theorem pdX1_passes : Cond.code (mY MX1_passes) (mC MX1_passes) (mN MX1_passes) (mR MX1_passes) ∈ ws0 ∧ Cond.initialized (mY MX1_passes).cls ∈ ws0 ∧ ((mY MX1_passes).cls ≠ "java/lang/invoke/MethodHandle" ∧ (mY MX1_passes).cls ≠ "java/lang/invoke/VarHandle") ∧ (parseMethodDescriptor (mY MX1_passes).desc).map (fun d => d.parameters.length) = some 2 := ⟨tb2 169 rfl rfl, iiX1, neX1, (by decide +kernel)⟩
set_option maxRecDepth 100000 in
theorem imX1_passes : Cond.instanceMethod yX1_passes ∈ ws0 := tb2 168 rfl rfl
set_option maxRecDepth 100000 in
theorem seX1_passes : Cond.selects (mY MX1_passes).cls (mY MX1_passes) (mY MX1_passes) ∈ ws0 := tb0 9 rfl rfl
set_option maxRecDepth 100000 in
theorem pdX2_init : Cond.code (mY MX2_init) (mC MX2_init) (mN MX2_init) (mR MX2_init) ∈ ws0 ∧ Cond.initialized (mY MX2_init).cls ∈ ws0 ∧ ((mY MX2_init).cls ≠ "java/lang/invoke/MethodHandle" ∧ (mY MX2_init).cls ≠ "java/lang/invoke/VarHandle") ∧ (parseMethodDescriptor (mY MX2_init).desc).map (fun d => d.parameters.length) = some 1 := ⟨tb1 156 rfl rfl, iiX2, neX2, (by decide +kernel)⟩
set_option maxRecDepth 100000 in
theorem imX2_init : Cond.instanceMethod yX2_init ∈ ws0 := tb1 155 rfl rfl
set_option maxRecDepth 100000 in
theorem pdX2_clear : Cond.code (mY MX2_clear) (mC MX2_clear) (mN MX2_clear) (mR MX2_clear) ∈ ws0 ∧ Cond.initialized (mY MX2_clear).cls ∈ ws0 ∧ ((mY MX2_clear).cls ≠ "java/lang/invoke/MethodHandle" ∧ (mY MX2_clear).cls ≠ "java/lang/invoke/VarHandle") ∧ (parseMethodDescriptor (mY MX2_clear).desc).map (fun d => d.parameters.length) = some 0 := ⟨tb3 33 rfl rfl, iiX2, neX2, (by decide +kernel)⟩
set_option maxRecDepth 100000 in
theorem imX2_clear : Cond.instanceMethod yX2_clear ∈ ws0 := tb3 31 rfl rfl
set_option maxRecDepth 100000 in
theorem seX2_clear : Cond.selects (mY MX2_clear).cls (mY MX2_clear) (mY MX2_clear) ∈ ws0 := tb3 32 rfl rfl
set_option maxRecDepth 100000 in
theorem pdX2_stand : Cond.code (mY MX2_stand) (mC MX2_stand) (mN MX2_stand) (mR MX2_stand) ∈ ws0 ∧ Cond.initialized (mY MX2_stand).cls ∈ ws0 ∧ ((mY MX2_stand).cls ≠ "java/lang/invoke/MethodHandle" ∧ (mY MX2_stand).cls ≠ "java/lang/invoke/VarHandle") ∧ (parseMethodDescriptor (mY MX2_stand).desc).map (fun d => d.parameters.length) = some 0 := ⟨tb2 85 rfl rfl, iiX2, neX2, (by decide +kernel)⟩
set_option maxRecDepth 100000 in
theorem imX2_stand : Cond.instanceMethod yX2_stand ∈ ws0 := tb2 83 rfl rfl
set_option maxRecDepth 100000 in
theorem seX2_stand : Cond.selects (mY MX2_stand).cls (mY MX2_stand) (mY MX2_stand) ∈ ws0 := tb2 84 rfl rfl
set_option maxRecDepth 100000 in
theorem pdX2_part : Cond.code (mY MX2_part) (mC MX2_part) (mN MX2_part) (mR MX2_part) ∈ ws0 ∧ Cond.initialized (mY MX2_part).cls ∈ ws0 ∧ ((mY MX2_part).cls ≠ "java/lang/invoke/MethodHandle" ∧ (mY MX2_part).cls ≠ "java/lang/invoke/VarHandle") ∧ (parseMethodDescriptor (mY MX2_part).desc).map (fun d => d.parameters.length) = some 1 := ⟨tb3 49 rfl rfl, iiX2, neX2, (by decide +kernel)⟩
set_option maxRecDepth 100000 in
theorem imX2_part : Cond.instanceMethod yX2_part ∈ ws0 := tb3 47 rfl rfl
set_option maxRecDepth 100000 in
theorem seX2_part : Cond.selects (mY MX2_part).cls (mY MX2_part) (mY MX2_part) ∈ ws0 := tb3 48 rfl rfl
set_option maxRecDepth 100000 in
theorem pdX2_make : Cond.code (mY MX2_make) (mC MX2_make) (mN MX2_make) (mR MX2_make) ∈ ws0 ∧ Cond.initialized (mY MX2_make).cls ∈ ws0 ∧ ((mY MX2_make).cls ≠ "java/lang/invoke/MethodHandle" ∧ (mY MX2_make).cls ≠ "java/lang/invoke/VarHandle") ∧ (parseMethodDescriptor (mY MX2_make).desc).map (fun d => d.parameters.length) = some 2 := ⟨tb2 224 rfl rfl, iiX2, neX2, (by decide +kernel)⟩
set_option maxRecDepth 100000 in
theorem imX2_make : Cond.instanceMethod yX2_make ∈ ws0 := tb2 222 rfl rfl
set_option maxRecDepth 100000 in
theorem seX2_make : Cond.selects (mY MX2_make).cls (mY MX2_make) (mY MX2_make) ∈ ws0 := tb2 223 rfl rfl
set_option maxRecDepth 100000 in
theorem pdX2_findPrivateNumbers : Cond.code (mY MX2_findPrivateNumbers) (mC MX2_findPrivateNumbers) (mN MX2_findPrivateNumbers) (mR MX2_findPrivateNumbers) ∈ ws0 ∧ Cond.initialized (mY MX2_findPrivateNumbers).cls ∈ ws0 ∧ ((mY MX2_findPrivateNumbers).cls ≠ "java/lang/invoke/MethodHandle" ∧ (mY MX2_findPrivateNumbers).cls ≠ "java/lang/invoke/VarHandle") ∧ (parseMethodDescriptor (mY MX2_findPrivateNumbers).desc).map (fun d => d.parameters.length) = some 0 := ⟨tb2 235 rfl rfl, iiX2, neX2, (by decide +kernel)⟩
set_option maxRecDepth 100000 in
theorem imX2_findPrivateNumbers : Cond.instanceMethod yX2_findPrivateNumbers ∈ ws0 := tb2 234 rfl rfl
set_option maxRecDepth 100000 in
theorem seX2_findPrivateNumbers : Cond.selects (mY MX2_findPrivateNumbers).cls (mY MX2_findPrivateNumbers) (mY MX2_findPrivateNumbers) ∈ ws0 := tb0 13 rfl rfl
set_option maxRecDepth 100000 in
theorem pdX2_findInverseOfQ : Cond.code (mY MX2_findInverseOfQ) (mC MX2_findInverseOfQ) (mN MX2_findInverseOfQ) (mR MX2_findInverseOfQ) ∈ ws0 ∧ Cond.initialized (mY MX2_findInverseOfQ).cls ∈ ws0 ∧ ((mY MX2_findInverseOfQ).cls ≠ "java/lang/invoke/MethodHandle" ∧ (mY MX2_findInverseOfQ).cls ≠ "java/lang/invoke/VarHandle") ∧ (parseMethodDescriptor (mY MX2_findInverseOfQ).desc).map (fun d => d.parameters.length) = some 0 := ⟨tb3 11 rfl rfl, iiX2, neX2, (by decide +kernel)⟩
set_option maxRecDepth 100000 in
theorem imX2_findInverseOfQ : Cond.instanceMethod yX2_findInverseOfQ ∈ ws0 := tb3 10 rfl rfl
set_option maxRecDepth 100000 in
theorem seX2_findInverseOfQ : Cond.selects (mY MX2_findInverseOfQ).cls (mY MX2_findInverseOfQ) (mY MX2_findInverseOfQ) ∈ ws0 := tb0 15 rfl rfl
set_option maxRecDepth 100000 in
theorem pdX2_invertE : Cond.code (mY MX2_invertE) (mC MX2_invertE) (mN MX2_invertE) (mR MX2_invertE) ∈ ws0 ∧ Cond.initialized (mY MX2_invertE).cls ∈ ws0 ∧ ((mY MX2_invertE).cls ≠ "java/lang/invoke/MethodHandle" ∧ (mY MX2_invertE).cls ≠ "java/lang/invoke/VarHandle") ∧ (parseMethodDescriptor (mY MX2_invertE).desc).map (fun d => d.parameters.length) = some 2 := ⟨tb3 0 rfl rfl, iiX2, neX2, (by decide +kernel)⟩
set_option maxRecDepth 100000 in
theorem imX2_invertE : Cond.instanceMethod yX2_invertE ∈ ws0 := tb2 239 rfl rfl
set_option maxRecDepth 100000 in
theorem seX2_invertE : Cond.selects (mY MX2_invertE).cls (mY MX2_invertE) (mY MX2_invertE) ∈ ws0 := tb0 14 rfl rfl
set_option maxRecDepth 100000 in
theorem pdX2_inverseByE : Cond.code (mY MX2_inverseByE) (mC MX2_inverseByE) (mN MX2_inverseByE) (mR MX2_inverseByE) ∈ ws0 ∧ Cond.initialized (mY MX2_inverseByE).cls ∈ ws0 ∧ ((mY MX2_inverseByE).cls ≠ "java/lang/invoke/MethodHandle" ∧ (mY MX2_inverseByE).cls ≠ "java/lang/invoke/VarHandle") ∧ (parseMethodDescriptor (mY MX2_inverseByE).desc).map (fun d => d.parameters.length) = some 1 := ⟨tb3 6 rfl rfl, iiX2, neX2, (by decide +kernel)⟩
set_option maxRecDepth 100000 in
theorem imX2_inverseByE : Cond.static yX2_inverseByE ∈ ws0 := tb3 5 rfl rfl
set_option maxRecDepth 100000 in
theorem pdX2_isBelowN : Cond.code (mY MX2_isBelowN) (mC MX2_isBelowN) (mN MX2_isBelowN) (mR MX2_isBelowN) ∈ ws0 ∧ Cond.initialized (mY MX2_isBelowN).cls ∈ ws0 ∧ ((mY MX2_isBelowN).cls ≠ "java/lang/invoke/MethodHandle" ∧ (mY MX2_isBelowN).cls ≠ "java/lang/invoke/VarHandle") ∧ (parseMethodDescriptor (mY MX2_isBelowN).desc).map (fun d => d.parameters.length) = some 1 := ⟨tb3 129 rfl rfl, iiX2, neX2, (by decide +kernel)⟩
set_option maxRecDepth 100000 in
theorem imX2_isBelowN : Cond.instanceMethod yX2_isBelowN ∈ ws0 := tb3 127 rfl rfl
set_option maxRecDepth 100000 in
theorem seX2_isBelowN : Cond.selects (mY MX2_isBelowN).cls (mY MX2_isBelowN) (mY MX2_isBelowN) ∈ ws0 := tb3 128 rfl rfl
set_option maxRecDepth 100000 in
theorem pdX2_raisePublic : Cond.code (mY MX2_raisePublic) (mC MX2_raisePublic) (mN MX2_raisePublic) (mR MX2_raisePublic) ∈ ws0 ∧ Cond.initialized (mY MX2_raisePublic).cls ∈ ws0 ∧ ((mY MX2_raisePublic).cls ≠ "java/lang/invoke/MethodHandle" ∧ (mY MX2_raisePublic).cls ≠ "java/lang/invoke/VarHandle") ∧ (parseMethodDescriptor (mY MX2_raisePublic).desc).map (fun d => d.parameters.length) = some 2 := ⟨tb3 133 rfl rfl, iiX2, neX2, (by decide +kernel)⟩
set_option maxRecDepth 100000 in
theorem imX2_raisePublic : Cond.instanceMethod yX2_raisePublic ∈ ws0 := tb3 131 rfl rfl
set_option maxRecDepth 100000 in
theorem seX2_raisePublic : Cond.selects (mY MX2_raisePublic).cls (mY MX2_raisePublic) (mY MX2_raisePublic) ∈ ws0 := tb3 132 rfl rfl
set_option maxRecDepth 100000 in
theorem pdX2_raisePrivate : Cond.code (mY MX2_raisePrivate) (mC MX2_raisePrivate) (mN MX2_raisePrivate) (mR MX2_raisePrivate) ∈ ws0 ∧ Cond.initialized (mY MX2_raisePrivate).cls ∈ ws0 ∧ ((mY MX2_raisePrivate).cls ≠ "java/lang/invoke/MethodHandle" ∧ (mY MX2_raisePrivate).cls ≠ "java/lang/invoke/VarHandle") ∧ (parseMethodDescriptor (mY MX2_raisePrivate).desc).map (fun d => d.parameters.length) = some 2 := ⟨tb3 144 rfl rfl, iiX2, neX2, (by decide +kernel)⟩
set_option maxRecDepth 100000 in
theorem imX2_raisePrivate : Cond.instanceMethod yX2_raisePrivate ∈ ws0 := tb3 142 rfl rfl
set_option maxRecDepth 100000 in
theorem seX2_raisePrivate : Cond.selects (mY MX2_raisePrivate).cls (mY MX2_raisePrivate) (mY MX2_raisePrivate) ∈ ws0 := tb3 143 rfl rfl
set_option maxRecDepth 100000 in
theorem pdX2_makeSignature : Cond.code (mY MX2_makeSignature) (mC MX2_makeSignature) (mN MX2_makeSignature) (mR MX2_makeSignature) ∈ ws0 ∧ Cond.initialized (mY MX2_makeSignature).cls ∈ ws0 ∧ ((mY MX2_makeSignature).cls ≠ "java/lang/invoke/MethodHandle" ∧ (mY MX2_makeSignature).cls ≠ "java/lang/invoke/VarHandle") ∧ (parseMethodDescriptor (mY MX2_makeSignature).desc).map (fun d => d.parameters.length) = some 2 := ⟨tb3 112 rfl rfl, iiX2, neX2, (by decide +kernel)⟩
set_option maxRecDepth 100000 in
theorem imX2_makeSignature : Cond.instanceMethod yX2_makeSignature ∈ ws0 := tb3 110 rfl rfl
set_option maxRecDepth 100000 in
theorem seX2_makeSignature : Cond.selects (mY MX2_makeSignature).cls (mY MX2_makeSignature) (mY MX2_makeSignature) ∈ ws0 := tb3 111 rfl rfl
set_option maxRecDepth 100000 in
theorem pdX3_init : Cond.code (mY MX3_init) (mC MX3_init) (mN MX3_init) (mR MX3_init) ∈ ws0 ∧ Cond.initialized (mY MX3_init).cls ∈ ws0 ∧ ((mY MX3_init).cls ≠ "java/lang/invoke/MethodHandle" ∧ (mY MX3_init).cls ≠ "java/lang/invoke/VarHandle") ∧ (parseMethodDescriptor (mY MX3_init).desc).map (fun d => d.parameters.length) = some 0 := ⟨tb1 217 rfl rfl, iiX3, neX3, (by decide +kernel)⟩
set_option maxRecDepth 100000 in
theorem imX3_init : Cond.instanceMethod yX3_init ∈ ws0 := tb1 216 rfl rfl
set_option maxRecDepth 100000 in
theorem pdX3_byteCount : Cond.code (mY MX3_byteCount) (mC MX3_byteCount) (mN MX3_byteCount) (mR MX3_byteCount) ∈ ws0 ∧ Cond.initialized (mY MX3_byteCount).cls ∈ ws0 ∧ ((mY MX3_byteCount).cls ≠ "java/lang/invoke/MethodHandle" ∧ (mY MX3_byteCount).cls ≠ "java/lang/invoke/VarHandle") ∧ (parseMethodDescriptor (mY MX3_byteCount).desc).map (fun d => d.parameters.length) = some 0 := ⟨tb3 64 rfl rfl, iiX3, neX3, (by decide +kernel)⟩
set_option maxRecDepth 100000 in
theorem imX3_byteCount : Cond.instanceMethod yX3_byteCount ∈ ws0 := tb3 62 rfl rfl
set_option maxRecDepth 100000 in
theorem seX3_byteCount : Cond.selects (mY MX3_byteCount).cls (mY MX3_byteCount) (mY MX3_byteCount) ∈ ws0 := tb3 63 rfl rfl
set_option maxRecDepth 100000 in
theorem pdX3_append : Cond.code (mY MX3_append) (mC MX3_append) (mN MX3_append) (mR MX3_append) ∈ ws0 ∧ Cond.initialized (mY MX3_append).cls ∈ ws0 ∧ ((mY MX3_append).cls ≠ "java/lang/invoke/MethodHandle" ∧ (mY MX3_append).cls ≠ "java/lang/invoke/VarHandle") ∧ (parseMethodDescriptor (mY MX3_append).desc).map (fun d => d.parameters.length) = some 2 := ⟨tb3 72 rfl rfl, iiX3, neX3, (by decide +kernel)⟩
set_option maxRecDepth 100000 in
theorem imX3_append : Cond.instanceMethod yX3_append ∈ ws0 := tb3 70 rfl rfl
set_option maxRecDepth 100000 in
theorem seX3_append : Cond.selects (mY MX3_append).cls (mY MX3_append) (mY MX3_append) ∈ ws0 := tb3 71 rfl rfl
set_option maxRecDepth 100000 in
theorem pdX3_keepFirst : Cond.code (mY MX3_keepFirst) (mC MX3_keepFirst) (mN MX3_keepFirst) (mR MX3_keepFirst) ∈ ws0 ∧ Cond.initialized (mY MX3_keepFirst).cls ∈ ws0 ∧ ((mY MX3_keepFirst).cls ≠ "java/lang/invoke/MethodHandle" ∧ (mY MX3_keepFirst).cls ≠ "java/lang/invoke/VarHandle") ∧ (parseMethodDescriptor (mY MX3_keepFirst).desc).map (fun d => d.parameters.length) = some 1 := ⟨tb3 80 rfl rfl, iiX3, neX3, (by decide +kernel)⟩
set_option maxRecDepth 100000 in
theorem imX3_keepFirst : Cond.instanceMethod yX3_keepFirst ∈ ws0 := tb3 78 rfl rfl
set_option maxRecDepth 100000 in
theorem seX3_keepFirst : Cond.selects (mY MX3_keepFirst).cls (mY MX3_keepFirst) (mY MX3_keepFirst) ∈ ws0 := tb3 79 rfl rfl
set_option maxRecDepth 100000 in
theorem pdX3_hashByte : Cond.code (mY MX3_hashByte) (mC MX3_hashByte) (mN MX3_hashByte) (mR MX3_hashByte) ∈ ws0 ∧ Cond.initialized (mY MX3_hashByte).cls ∈ ws0 ∧ ((mY MX3_hashByte).cls ≠ "java/lang/invoke/MethodHandle" ∧ (mY MX3_hashByte).cls ≠ "java/lang/invoke/VarHandle") ∧ (parseMethodDescriptor (mY MX3_hashByte).desc).map (fun d => d.parameters.length) = some 1 := ⟨tb3 88 rfl rfl, iiX3, neX3, (by decide +kernel)⟩
set_option maxRecDepth 100000 in
theorem imX3_hashByte : Cond.instanceMethod yX3_hashByte ∈ ws0 := tb3 86 rfl rfl
set_option maxRecDepth 100000 in
theorem seX3_hashByte : Cond.selects (mY MX3_hashByte).cls (mY MX3_hashByte) (mY MX3_hashByte) ∈ ws0 := tb3 87 rfl rfl
set_option maxRecDepth 100000 in
theorem pdX3_makeHash : Cond.code (mY MX3_makeHash) (mC MX3_makeHash) (mN MX3_makeHash) (mR MX3_makeHash) ∈ ws0 ∧ Cond.initialized (mY MX3_makeHash).cls ∈ ws0 ∧ ((mY MX3_makeHash).cls ≠ "java/lang/invoke/MethodHandle" ∧ (mY MX3_makeHash).cls ≠ "java/lang/invoke/VarHandle") ∧ (parseMethodDescriptor (mY MX3_makeHash).desc).map (fun d => d.parameters.length) = some 0 := ⟨tb1 224 rfl rfl, iiX3, neX3, (by decide +kernel)⟩
set_option maxRecDepth 100000 in
theorem imX3_makeHash : Cond.instanceMethod yX3_makeHash ∈ ws0 := tb1 223 rfl rfl
set_option maxRecDepth 100000 in
theorem seX3_makeHash : Cond.selects (mY MX3_makeHash).cls (mY MX3_makeHash) (mY MX3_makeHash) ∈ ws0 := tb0 0 rfl rfl
set_option maxRecDepth 100000 in
theorem pdX4_init : Cond.code (mY MX4_init) (mC MX4_init) (mN MX4_init) (mR MX4_init) ∈ ws0 ∧ Cond.initialized (mY MX4_init).cls ∈ ws0 ∧ ((mY MX4_init).cls ≠ "java/lang/invoke/MethodHandle" ∧ (mY MX4_init).cls ≠ "java/lang/invoke/VarHandle") ∧ (parseMethodDescriptor (mY MX4_init).desc).map (fun d => d.parameters.length) = some 1 := ⟨tb1 77 rfl rfl, iiX4, neX4, (by decide +kernel)⟩
set_option maxRecDepth 100000 in
theorem imX4_init : Cond.instanceMethod yX4_init ∈ ws0 := tb1 76 rfl rfl
set_option maxRecDepth 100000 in
theorem pdX4_choose : Cond.code (mY MX4_choose) (mC MX4_choose) (mN MX4_choose) (mR MX4_choose) ∈ ws0 ∧ Cond.initialized (mY MX4_choose).cls ∈ ws0 ∧ ((mY MX4_choose).cls ≠ "java/lang/invoke/MethodHandle" ∧ (mY MX4_choose).cls ≠ "java/lang/invoke/VarHandle") ∧ (parseMethodDescriptor (mY MX4_choose).desc).map (fun d => d.parameters.length) = some 1 := ⟨tb2 145 rfl rfl, iiX4, neX4, (by decide +kernel)⟩
set_option maxRecDepth 100000 in
theorem imX4_choose : Cond.instanceMethod yX4_choose ∈ ws0 := tb2 143 rfl rfl
set_option maxRecDepth 100000 in
theorem seX4_choose : Cond.selects (mY MX4_choose).cls (mY MX4_choose) (mY MX4_choose) ∈ ws0 := tb2 144 rfl rfl
set_option maxRecDepth 100000 in
theorem pdX4_inverseOfLowLimb : Cond.code (mY MX4_inverseOfLowLimb) (mC MX4_inverseOfLowLimb) (mN MX4_inverseOfLowLimb) (mR MX4_inverseOfLowLimb) ∈ ws0 ∧ Cond.initialized (mY MX4_inverseOfLowLimb).cls ∈ ws0 ∧ ((mY MX4_inverseOfLowLimb).cls ≠ "java/lang/invoke/MethodHandle" ∧ (mY MX4_inverseOfLowLimb).cls ≠ "java/lang/invoke/VarHandle") ∧ (parseMethodDescriptor (mY MX4_inverseOfLowLimb).desc).map (fun d => d.parameters.length) = some 0 := ⟨tb2 150 rfl rfl, iiX4, neX4, (by decide +kernel)⟩
set_option maxRecDepth 100000 in
theorem imX4_inverseOfLowLimb : Cond.instanceMethod yX4_inverseOfLowLimb ∈ ws0 := tb2 149 rfl rfl
set_option maxRecDepth 100000 in
theorem seX4_inverseOfLowLimb : Cond.selects (mY MX4_inverseOfLowLimb).cls (mY MX4_inverseOfLowLimb) (mY MX4_inverseOfLowLimb) ∈ ws0 := tb0 7 rfl rfl
set_option maxRecDepth 100000 in
theorem pdX4_reduce : Cond.code (mY MX4_reduce) (mC MX4_reduce) (mN MX4_reduce) (mR MX4_reduce) ∈ ws0 ∧ Cond.initialized (mY MX4_reduce).cls ∈ ws0 ∧ ((mY MX4_reduce).cls ≠ "java/lang/invoke/MethodHandle" ∧ (mY MX4_reduce).cls ≠ "java/lang/invoke/VarHandle") ∧ (parseMethodDescriptor (mY MX4_reduce).desc).map (fun d => d.parameters.length) = some 2 := ⟨tb3 116 rfl rfl, iiX4, neX4, (by decide +kernel)⟩
set_option maxRecDepth 100000 in
theorem imX4_reduce : Cond.instanceMethod yX4_reduce ∈ ws0 := tb3 114 rfl rfl
set_option maxRecDepth 100000 in
theorem seX4_reduce : Cond.selects (mY MX4_reduce).cls (mY MX4_reduce) (mY MX4_reduce) ∈ ws0 := tb3 115 rfl rfl
set_option maxRecDepth 100000 in
theorem pdX4_raise : Cond.code (mY MX4_raise) (mC MX4_raise) (mN MX4_raise) (mR MX4_raise) ∈ ws0 ∧ Cond.initialized (mY MX4_raise).cls ∈ ws0 ∧ ((mY MX4_raise).cls ≠ "java/lang/invoke/MethodHandle" ∧ (mY MX4_raise).cls ≠ "java/lang/invoke/VarHandle") ∧ (parseMethodDescriptor (mY MX4_raise).desc).map (fun d => d.parameters.length) = some 3 := ⟨tb2 174 rfl rfl, iiX4, neX4, (by decide +kernel)⟩
set_option maxRecDepth 100000 in
theorem imX4_raise : Cond.instanceMethod yX4_raise ∈ ws0 := tb2 172 rfl rfl
set_option maxRecDepth 100000 in
theorem seX4_raise : Cond.selects (mY MX4_raise).cls (mY MX4_raise) (mY MX4_raise) ∈ ws0 := tb2 173 rfl rfl
set_option maxRecDepth 100000 in
theorem pdX4_times : Cond.code (mY MX4_times) (mC MX4_times) (mN MX4_times) (mR MX4_times) ∈ ws0 ∧ Cond.initialized (mY MX4_times).cls ∈ ws0 ∧ ((mY MX4_times).cls ≠ "java/lang/invoke/MethodHandle" ∧ (mY MX4_times).cls ≠ "java/lang/invoke/VarHandle") ∧ (parseMethodDescriptor (mY MX4_times).desc).map (fun d => d.parameters.length) = some 3 := ⟨tb2 208 rfl rfl, iiX4, neX4, (by decide +kernel)⟩
set_option maxRecDepth 100000 in
theorem imX4_times : Cond.instanceMethod yX4_times ∈ ws0 := tb2 206 rfl rfl
set_option maxRecDepth 100000 in
theorem seX4_times : Cond.selects (mY MX4_times).cls (mY MX4_times) (mY MX4_times) ∈ ws0 := tb2 207 rfl rfl
set_option maxRecDepth 100000 in
theorem pdX4_twice : Cond.code (mY MX4_twice) (mC MX4_twice) (mN MX4_twice) (mR MX4_twice) ∈ ws0 ∧ Cond.initialized (mY MX4_twice).cls ∈ ws0 ∧ ((mY MX4_twice).cls ≠ "java/lang/invoke/MethodHandle" ∧ (mY MX4_twice).cls ≠ "java/lang/invoke/VarHandle") ∧ (parseMethodDescriptor (mY MX4_twice).desc).map (fun d => d.parameters.length) = some 2 := ⟨tb2 159 rfl rfl, iiX4, neX4, (by decide +kernel)⟩
set_option maxRecDepth 100000 in
theorem imX4_twice : Cond.instanceMethod yX4_twice ∈ ws0 := tb2 158 rfl rfl
set_option maxRecDepth 100000 in
theorem seX4_twice : Cond.selects (mY MX4_twice).cls (mY MX4_twice) (mY MX4_twice) ∈ ws0 := tb0 8 rfl rfl
set_option maxRecDepth 100000 in
theorem pdX4_multiplyCarried : Cond.code (mY MX4_multiplyCarried) (mC MX4_multiplyCarried) (mN MX4_multiplyCarried) (mR MX4_multiplyCarried) ∈ ws0 ∧ Cond.initialized (mY MX4_multiplyCarried).cls ∈ ws0 ∧ ((mY MX4_multiplyCarried).cls ≠ "java/lang/invoke/MethodHandle" ∧ (mY MX4_multiplyCarried).cls ≠ "java/lang/invoke/VarHandle") ∧ (parseMethodDescriptor (mY MX4_multiplyCarried).desc).map (fun d => d.parameters.length) = some 3 := ⟨tb2 178 rfl rfl, iiX4, neX4, (by decide +kernel)⟩
set_option maxRecDepth 100000 in
theorem imX4_multiplyCarried : Cond.instanceMethod yX4_multiplyCarried ∈ ws0 := tb2 177 rfl rfl
set_option maxRecDepth 100000 in
theorem seX4_multiplyCarried : Cond.selects (mY MX4_multiplyCarried).cls (mY MX4_multiplyCarried) (mY MX4_multiplyCarried) ∈ ws0 := tb0 10 rfl rfl
set_option maxRecDepth 100000 in
theorem pdX4_addProduct : Cond.code (mY MX4_addProduct) (mC MX4_addProduct) (mN MX4_addProduct) (mR MX4_addProduct) ∈ ws0 ∧ Cond.initialized (mY MX4_addProduct).cls ∈ ws0 ∧ ((mY MX4_addProduct).cls ≠ "java/lang/invoke/MethodHandle" ∧ (mY MX4_addProduct).cls ≠ "java/lang/invoke/VarHandle") ∧ (parseMethodDescriptor (mY MX4_addProduct).desc).map (fun d => d.parameters.length) = some 2 := ⟨tb2 185 rfl rfl, iiX4, neX4, (by decide +kernel)⟩
set_option maxRecDepth 100000 in
theorem imX4_addProduct : Cond.instanceMethod yX4_addProduct ∈ ws0 := tb2 184 rfl rfl
set_option maxRecDepth 100000 in
theorem seX4_addProduct : Cond.selects (mY MX4_addProduct).cls (mY MX4_addProduct) (mY MX4_addProduct) ∈ ws0 := tb0 11 rfl rfl
set_option maxRecDepth 100000 in
theorem pdX4_dropLowLimb : Cond.code (mY MX4_dropLowLimb) (mC MX4_dropLowLimb) (mN MX4_dropLowLimb) (mR MX4_dropLowLimb) ∈ ws0 ∧ Cond.initialized (mY MX4_dropLowLimb).cls ∈ ws0 ∧ ((mY MX4_dropLowLimb).cls ≠ "java/lang/invoke/MethodHandle" ∧ (mY MX4_dropLowLimb).cls ≠ "java/lang/invoke/VarHandle") ∧ (parseMethodDescriptor (mY MX4_dropLowLimb).desc).map (fun d => d.parameters.length) = some 0 := ⟨tb2 189 rfl rfl, iiX4, neX4, (by decide +kernel)⟩
set_option maxRecDepth 100000 in
theorem imX4_dropLowLimb : Cond.instanceMethod yX4_dropLowLimb ∈ ws0 := tb2 188 rfl rfl
set_option maxRecDepth 100000 in
theorem seX4_dropLowLimb : Cond.selects (mY MX4_dropLowLimb).cls (mY MX4_dropLowLimb) (mY MX4_dropLowLimb) ∈ ws0 := tb0 12 rfl rfl
set_option maxRecDepth 100000 in
theorem pdX5_byteAt : Cond.code (mY MX5_byteAt) (mC MX5_byteAt) (mN MX5_byteAt) (mR MX5_byteAt) ∈ ws0 ∧ Cond.initialized (mY MX5_byteAt).cls ∈ ws0 ∧ ((mY MX5_byteAt).cls ≠ "java/lang/invoke/MethodHandle" ∧ (mY MX5_byteAt).cls ≠ "java/lang/invoke/VarHandle") ∧ (parseMethodDescriptor (mY MX5_byteAt).desc).map (fun d => d.parameters.length) = some 2 := ⟨tb3 52 rfl rfl, iiX5, neX5, (by decide +kernel)⟩
set_option maxRecDepth 100000 in
theorem imX5_byteAt : Cond.static yX5_byteAt ∈ ws0 := tb3 51 rfl rfl
set_option maxRecDepth 100000 in
theorem pdX5_putByte : Cond.code (mY MX5_putByte) (mC MX5_putByte) (mN MX5_putByte) (mR MX5_putByte) ∈ ws0 ∧ Cond.initialized (mY MX5_putByte).cls ∈ ws0 ∧ ((mY MX5_putByte).cls ≠ "java/lang/invoke/MethodHandle" ∧ (mY MX5_putByte).cls ≠ "java/lang/invoke/VarHandle") ∧ (parseMethodDescriptor (mY MX5_putByte).desc).map (fun d => d.parameters.length) = some 3 := ⟨tb2 105 rfl rfl, iiX5, neX5, (by decide +kernel)⟩
set_option maxRecDepth 100000 in
theorem imX5_putByte : Cond.static yX5_putByte ∈ ws0 := tb2 104 rfl rfl
set_option maxRecDepth 100000 in
theorem pdX5_bitAt : Cond.code (mY MX5_bitAt) (mC MX5_bitAt) (mN MX5_bitAt) (mR MX5_bitAt) ∈ ws0 ∧ Cond.initialized (mY MX5_bitAt).cls ∈ ws0 ∧ ((mY MX5_bitAt).cls ≠ "java/lang/invoke/MethodHandle" ∧ (mY MX5_bitAt).cls ≠ "java/lang/invoke/VarHandle") ∧ (parseMethodDescriptor (mY MX5_bitAt).desc).map (fun d => d.parameters.length) = some 2 := ⟨tb2 138 rfl rfl, iiX5, neX5, (by decide +kernel)⟩
set_option maxRecDepth 100000 in
theorem imX5_bitAt : Cond.static yX5_bitAt ∈ ws0 := tb2 137 rfl rfl
set_option maxRecDepth 100000 in
theorem pdX5_bitCount : Cond.code (mY MX5_bitCount) (mC MX5_bitCount) (mN MX5_bitCount) (mR MX5_bitCount) ∈ ws0 ∧ Cond.initialized (mY MX5_bitCount).cls ∈ ws0 ∧ ((mY MX5_bitCount).cls ≠ "java/lang/invoke/MethodHandle" ∧ (mY MX5_bitCount).cls ≠ "java/lang/invoke/VarHandle") ∧ (parseMethodDescriptor (mY MX5_bitCount).desc).map (fun d => d.parameters.length) = some 1 := ⟨tb2 192 rfl rfl, iiX5, neX5, (by decide +kernel)⟩
set_option maxRecDepth 100000 in
theorem imX5_bitCount : Cond.static yX5_bitCount ∈ ws0 := tb2 191 rfl rfl
set_option maxRecDepth 100000 in
theorem pdX5_copy : Cond.code (mY MX5_copy) (mC MX5_copy) (mN MX5_copy) (mR MX5_copy) ∈ ws0 ∧ Cond.initialized (mY MX5_copy).cls ∈ ws0 ∧ ((mY MX5_copy).cls ≠ "java/lang/invoke/MethodHandle" ∧ (mY MX5_copy).cls ≠ "java/lang/invoke/VarHandle") ∧ (parseMethodDescriptor (mY MX5_copy).desc).map (fun d => d.parameters.length) = some 2 := ⟨tb2 128 rfl rfl, iiX5, neX5, (by decide +kernel)⟩
set_option maxRecDepth 100000 in
theorem imX5_copy : Cond.static yX5_copy ∈ ws0 := tb2 127 rfl rfl
set_option maxRecDepth 100000 in
theorem pdX5_putSmall : Cond.code (mY MX5_putSmall) (mC MX5_putSmall) (mN MX5_putSmall) (mR MX5_putSmall) ∈ ws0 ∧ Cond.initialized (mY MX5_putSmall).cls ∈ ws0 ∧ ((mY MX5_putSmall).cls ≠ "java/lang/invoke/MethodHandle" ∧ (mY MX5_putSmall).cls ≠ "java/lang/invoke/VarHandle") ∧ (parseMethodDescriptor (mY MX5_putSmall).desc).map (fun d => d.parameters.length) = some 2 := ⟨tb2 155 rfl rfl, iiX5, neX5, (by decide +kernel)⟩
set_option maxRecDepth 100000 in
theorem imX5_putSmall : Cond.static yX5_putSmall ∈ ws0 := tb2 154 rfl rfl
set_option maxRecDepth 100000 in
theorem pdX5_isOne : Cond.code (mY MX5_isOne) (mC MX5_isOne) (mN MX5_isOne) (mR MX5_isOne) ∈ ws0 ∧ Cond.initialized (mY MX5_isOne).cls ∈ ws0 ∧ ((mY MX5_isOne).cls ≠ "java/lang/invoke/MethodHandle" ∧ (mY MX5_isOne).cls ≠ "java/lang/invoke/VarHandle") ∧ (parseMethodDescriptor (mY MX5_isOne).desc).map (fun d => d.parameters.length) = some 1 := ⟨tb2 203 rfl rfl, iiX5, neX5, (by decide +kernel)⟩
set_option maxRecDepth 100000 in
theorem imX5_isOne : Cond.static yX5_isOne ∈ ws0 := tb2 202 rfl rfl
set_option maxRecDepth 100000 in
theorem pdX5_order : Cond.code (mY MX5_order) (mC MX5_order) (mN MX5_order) (mR MX5_order) ∈ ws0 ∧ Cond.initialized (mY MX5_order).cls ∈ ws0 ∧ ((mY MX5_order).cls ≠ "java/lang/invoke/MethodHandle" ∧ (mY MX5_order).cls ≠ "java/lang/invoke/VarHandle") ∧ (parseMethodDescriptor (mY MX5_order).desc).map (fun d => d.parameters.length) = some 2 := ⟨tb2 124 rfl rfl, iiX5, neX5, (by decide +kernel)⟩
set_option maxRecDepth 100000 in
theorem imX5_order : Cond.static yX5_order ∈ ws0 := tb2 123 rfl rfl
set_option maxRecDepth 100000 in
theorem pdX5_add : Cond.code (mY MX5_add) (mC MX5_add) (mN MX5_add) (mR MX5_add) ∈ ws0 ∧ Cond.initialized (mY MX5_add).cls ∈ ws0 ∧ ((mY MX5_add).cls ≠ "java/lang/invoke/MethodHandle" ∧ (mY MX5_add).cls ≠ "java/lang/invoke/VarHandle") ∧ (parseMethodDescriptor (mY MX5_add).desc).map (fun d => d.parameters.length) = some 2 := ⟨tb3 120 rfl rfl, iiX5, neX5, (by decide +kernel)⟩
set_option maxRecDepth 100000 in
theorem imX5_add : Cond.static yX5_add ∈ ws0 := tb3 119 rfl rfl
set_option maxRecDepth 100000 in
theorem pdX5_subtract : Cond.code (mY MX5_subtract) (mC MX5_subtract) (mN MX5_subtract) (mR MX5_subtract) ∈ ws0 ∧ Cond.initialized (mY MX5_subtract).cls ∈ ws0 ∧ ((mY MX5_subtract).cls ≠ "java/lang/invoke/MethodHandle" ∧ (mY MX5_subtract).cls ≠ "java/lang/invoke/VarHandle") ∧ (parseMethodDescriptor (mY MX5_subtract).desc).map (fun d => d.parameters.length) = some 3 := ⟨tb2 163 rfl rfl, iiX5, neX5, (by decide +kernel)⟩
set_option maxRecDepth 100000 in
theorem imX5_subtract : Cond.static yX5_subtract ∈ ws0 := tb2 162 rfl rfl
set_option maxRecDepth 100000 in
theorem pdX5_lessen : Cond.code (mY MX5_lessen) (mC MX5_lessen) (mN MX5_lessen) (mR MX5_lessen) ∈ ws0 ∧ Cond.initialized (mY MX5_lessen).cls ∈ ws0 ∧ ((mY MX5_lessen).cls ≠ "java/lang/invoke/MethodHandle" ∧ (mY MX5_lessen).cls ≠ "java/lang/invoke/VarHandle") ∧ (parseMethodDescriptor (mY MX5_lessen).desc).map (fun d => d.parameters.length) = some 2 := ⟨tb2 131 rfl rfl, iiX5, neX5, (by decide +kernel)⟩
set_option maxRecDepth 100000 in
theorem imX5_lessen : Cond.static yX5_lessen ∈ ws0 := tb2 130 rfl rfl
set_option maxRecDepth 100000 in
theorem pdX5_halveUntilOdd : Cond.code (mY MX5_halveUntilOdd) (mC MX5_halveUntilOdd) (mN MX5_halveUntilOdd) (mR MX5_halveUntilOdd) ∈ ws0 ∧ Cond.initialized (mY MX5_halveUntilOdd).cls ∈ ws0 ∧ ((mY MX5_halveUntilOdd).cls ≠ "java/lang/invoke/MethodHandle" ∧ (mY MX5_halveUntilOdd).cls ≠ "java/lang/invoke/VarHandle") ∧ (parseMethodDescriptor (mY MX5_halveUntilOdd).desc).map (fun d => d.parameters.length) = some 1 := ⟨tb2 135 rfl rfl, iiX5, neX5, (by decide +kernel)⟩
set_option maxRecDepth 100000 in
theorem imX5_halveUntilOdd : Cond.static yX5_halveUntilOdd ∈ ws0 := tb2 134 rfl rfl
set_option maxRecDepth 100000 in
theorem pdX5_halve : Cond.code (mY MX5_halve) (mC MX5_halve) (mN MX5_halve) (mR MX5_halve) ∈ ws0 ∧ Cond.initialized (mY MX5_halve).cls ∈ ws0 ∧ ((mY MX5_halve).cls ≠ "java/lang/invoke/MethodHandle" ∧ (mY MX5_halve).cls ≠ "java/lang/invoke/VarHandle") ∧ (parseMethodDescriptor (mY MX5_halve).desc).map (fun d => d.parameters.length) = some 1 := ⟨tb2 141 rfl rfl, iiX5, neX5, (by decide +kernel)⟩
set_option maxRecDepth 100000 in
theorem imX5_halve : Cond.static yX5_halve ∈ ws0 := tb2 140 rfl rfl
set_option maxRecDepth 100000 in
theorem pdX5_multiply : Cond.code (mY MX5_multiply) (mC MX5_multiply) (mN MX5_multiply) (mR MX5_multiply) ∈ ws0 ∧ Cond.initialized (mY MX5_multiply).cls ∈ ws0 ∧ ((mY MX5_multiply).cls ≠ "java/lang/invoke/MethodHandle" ∧ (mY MX5_multiply).cls ≠ "java/lang/invoke/VarHandle") ∧ (parseMethodDescriptor (mY MX5_multiply).desc).map (fun d => d.parameters.length) = some 3 := ⟨tb2 229 rfl rfl, iiX5, neX5, (by decide +kernel)⟩
set_option maxRecDepth 100000 in
theorem imX5_multiply : Cond.static yX5_multiply ∈ ws0 := tb2 228 rfl rfl
set_option maxRecDepth 100000 in
theorem pdX5_remainder : Cond.code (mY MX5_remainder) (mC MX5_remainder) (mN MX5_remainder) (mR MX5_remainder) ∈ ws0 ∧ Cond.initialized (mY MX5_remainder).cls ∈ ws0 ∧ ((mY MX5_remainder).cls ≠ "java/lang/invoke/MethodHandle" ∧ (mY MX5_remainder).cls ≠ "java/lang/invoke/VarHandle") ∧ (parseMethodDescriptor (mY MX5_remainder).desc).map (fun d => d.parameters.length) = some 2 := ⟨tb2 116 rfl rfl, iiX5, neX5, (by decide +kernel)⟩
set_option maxRecDepth 100000 in
theorem imX5_remainder : Cond.static yX5_remainder ∈ ws0 := tb2 115 rfl rfl
set_option maxRecDepth 100000 in
theorem pdX6_init : Cond.code (mY MX6_init) (mC MX6_init) (mN MX6_init) (mR MX6_init) ∈ ws0 ∧ Cond.initialized (mY MX6_init).cls ∈ ws0 ∧ ((mY MX6_init).cls ≠ "java/lang/invoke/MethodHandle" ∧ (mY MX6_init).cls ≠ "java/lang/invoke/VarHandle") ∧ (parseMethodDescriptor (mY MX6_init).desc).map (fun d => d.parameters.length) = some 0 := ⟨tb1 39 rfl rfl, iiX6, neX6, (by decide +kernel)⟩
set_option maxRecDepth 100000 in
theorem imX6_init : Cond.instanceMethod yX6_init ∈ ws0 := tb1 38 rfl rfl
set_option maxRecDepth 100000 in
theorem pdX6_hashFirst : Cond.code (mY MX6_hashFirst) (mC MX6_hashFirst) (mN MX6_hashFirst) (mR MX6_hashFirst) ∈ ws0 ∧ Cond.initialized (mY MX6_hashFirst).cls ∈ ws0 ∧ ((mY MX6_hashFirst).cls ≠ "java/lang/invoke/MethodHandle" ∧ (mY MX6_hashFirst).cls ≠ "java/lang/invoke/VarHandle") ∧ (parseMethodDescriptor (mY MX6_hashFirst).desc).map (fun d => d.parameters.length) = some 2 := ⟨tb1 228 rfl rfl, iiX6, neX6, (by decide +kernel)⟩
set_option maxRecDepth 100000 in
theorem imX6_hashFirst : Cond.instanceMethod yX6_hashFirst ∈ ws0 := tb1 226 rfl rfl
set_option maxRecDepth 100000 in
theorem seX6_hashFirst : Cond.selects (mY MX6_hashFirst).cls (mY MX6_hashFirst) (mY MX6_hashFirst) ∈ ws0 := tb1 227 rfl rfl
set_option maxRecDepth 100000 in
theorem pdX6_byteAt : Cond.code (mY MX6_byteAt) (mC MX6_byteAt) (mN MX6_byteAt) (mR MX6_byteAt) ∈ ws0 ∧ Cond.initialized (mY MX6_byteAt).cls ∈ ws0 ∧ ((mY MX6_byteAt).cls ≠ "java/lang/invoke/MethodHandle" ∧ (mY MX6_byteAt).cls ≠ "java/lang/invoke/VarHandle") ∧ (parseMethodDescriptor (mY MX6_byteAt).desc).map (fun d => d.parameters.length) = some 1 := ⟨tb2 102 rfl rfl, iiX6, neX6, (by decide +kernel)⟩
set_option maxRecDepth 100000 in
theorem imX6_byteAt : Cond.instanceMethod yX6_byteAt ∈ ws0 := tb2 100 rfl rfl
set_option maxRecDepth 100000 in
theorem seX6_byteAt : Cond.selects (mY MX6_byteAt).cls (mY MX6_byteAt) (mY MX6_byteAt) ∈ ws0 := tb2 101 rfl rfl
set_option maxRecDepth 100000 in
theorem pdX6_paddedWord : Cond.code (mY MX6_paddedWord) (mC MX6_paddedWord) (mN MX6_paddedWord) (mR MX6_paddedWord) ∈ ws0 ∧ Cond.initialized (mY MX6_paddedWord).cls ∈ ws0 ∧ ((mY MX6_paddedWord).cls ≠ "java/lang/invoke/MethodHandle" ∧ (mY MX6_paddedWord).cls ≠ "java/lang/invoke/VarHandle") ∧ (parseMethodDescriptor (mY MX6_paddedWord).desc).map (fun d => d.parameters.length) = some 4 := ⟨tb1 233 rfl rfl, iiX6, neX6, (by decide +kernel)⟩
set_option maxRecDepth 100000 in
theorem imX6_paddedWord : Cond.static yX6_paddedWord ∈ ws0 := tb1 232 rfl rfl
set_option maxRecDepth 100000 in
theorem pdX6_extendSchedule : Cond.code (mY MX6_extendSchedule) (mC MX6_extendSchedule) (mN MX6_extendSchedule) (mR MX6_extendSchedule) ∈ ws0 ∧ Cond.initialized (mY MX6_extendSchedule).cls ∈ ws0 ∧ ((mY MX6_extendSchedule).cls ≠ "java/lang/invoke/MethodHandle" ∧ (mY MX6_extendSchedule).cls ≠ "java/lang/invoke/VarHandle") ∧ (parseMethodDescriptor (mY MX6_extendSchedule).desc).map (fun d => d.parameters.length) = some 0 := ⟨tb1 237 rfl rfl, iiX6, neX6, (by decide +kernel)⟩
set_option maxRecDepth 100000 in
theorem imX6_extendSchedule : Cond.instanceMethod yX6_extendSchedule ∈ ws0 := tb1 236 rfl rfl
set_option maxRecDepth 100000 in
theorem seX6_extendSchedule : Cond.selects (mY MX6_extendSchedule).cls (mY MX6_extendSchedule) (mY MX6_extendSchedule) ∈ ws0 := tb0 1 rfl rfl
set_option maxRecDepth 100000 in
theorem pdX6_mixBlock : Cond.code (mY MX6_mixBlock) (mC MX6_mixBlock) (mN MX6_mixBlock) (mR MX6_mixBlock) ∈ ws0 ∧ Cond.initialized (mY MX6_mixBlock).cls ∈ ws0 ∧ ((mY MX6_mixBlock).cls ≠ "java/lang/invoke/MethodHandle" ∧ (mY MX6_mixBlock).cls ≠ "java/lang/invoke/VarHandle") ∧ (parseMethodDescriptor (mY MX6_mixBlock).desc).map (fun d => d.parameters.length) = some 0 := ⟨tb2 4 rfl rfl, iiX6, neX6, (by decide +kernel)⟩
set_option maxRecDepth 100000 in
theorem imX6_mixBlock : Cond.instanceMethod yX6_mixBlock ∈ ws0 := tb2 3 rfl rfl
set_option maxRecDepth 100000 in
theorem seX6_mixBlock : Cond.selects (mY MX6_mixBlock).cls (mY MX6_mixBlock) (mY MX6_mixBlock) ∈ ws0 := tb0 2 rfl rfl
set_option maxRecDepth 100000 in
theorem pdX7_init : Cond.code (mY MX7_init) (mC MX7_init) (mN MX7_init) (mR MX7_init) ∈ ws0 ∧ Cond.initialized (mY MX7_init).cls ∈ ws0 ∧ ((mY MX7_init).cls ≠ "java/lang/invoke/MethodHandle" ∧ (mY MX7_init).cls ≠ "java/lang/invoke/VarHandle") ∧ (parseMethodDescriptor (mY MX7_init).desc).map (fun d => d.parameters.length) = some 2 := ⟨tb1 19 rfl rfl, iiX7, neX7, (by decide +kernel)⟩
set_option maxRecDepth 100000 in
theorem imX7_init : Cond.instanceMethod yX7_init ∈ ws0 := tb1 18 rfl rfl
set_option maxRecDepth 100000 in
theorem pdX7_seed : Cond.code (mY MX7_seed) (mC MX7_seed) (mN MX7_seed) (mR MX7_seed) ∈ ws0 ∧ Cond.initialized (mY MX7_seed).cls ∈ ws0 ∧ ((mY MX7_seed).cls ≠ "java/lang/invoke/MethodHandle" ∧ (mY MX7_seed).cls ≠ "java/lang/invoke/VarHandle") ∧ (parseMethodDescriptor (mY MX7_seed).desc).map (fun d => d.parameters.length) = some 1 := ⟨tb2 57 rfl rfl, iiX7, neX7, (by decide +kernel)⟩
set_option maxRecDepth 100000 in
theorem imX7_seed : Cond.instanceMethod yX7_seed ∈ ws0 := tb2 55 rfl rfl
set_option maxRecDepth 100000 in
theorem seX7_seed : Cond.selects (mY MX7_seed).cls (mY MX7_seed) (mY MX7_seed) ∈ ws0 := tb2 56 rfl rfl
set_option maxRecDepth 100000 in
theorem pdX7_search : Cond.code (mY MX7_search) (mC MX7_search) (mN MX7_search) (mR MX7_search) ∈ ws0 ∧ Cond.initialized (mY MX7_search).cls ∈ ws0 ∧ ((mY MX7_search).cls ≠ "java/lang/invoke/MethodHandle" ∧ (mY MX7_search).cls ≠ "java/lang/invoke/VarHandle") ∧ (parseMethodDescriptor (mY MX7_search).desc).map (fun d => d.parameters.length) = some 1 := ⟨tb2 77 rfl rfl, iiX7, neX7, (by decide +kernel)⟩
set_option maxRecDepth 100000 in
theorem imX7_search : Cond.instanceMethod yX7_search ∈ ws0 := tb2 75 rfl rfl
set_option maxRecDepth 100000 in
theorem seX7_search : Cond.selects (mY MX7_search).cls (mY MX7_search) (mY MX7_search) ∈ ws0 := tb2 76 rfl rfl
set_option maxRecDepth 100000 in
theorem pdX7_forget : Cond.code (mY MX7_forget) (mC MX7_forget) (mN MX7_forget) (mR MX7_forget) ∈ ws0 ∧ Cond.initialized (mY MX7_forget).cls ∈ ws0 ∧ ((mY MX7_forget).cls ≠ "java/lang/invoke/MethodHandle" ∧ (mY MX7_forget).cls ≠ "java/lang/invoke/VarHandle") ∧ (parseMethodDescriptor (mY MX7_forget).desc).map (fun d => d.parameters.length) = some 0 := ⟨tb3 17 rfl rfl, iiX7, neX7, (by decide +kernel)⟩
set_option maxRecDepth 100000 in
theorem imX7_forget : Cond.instanceMethod yX7_forget ∈ ws0 := tb3 15 rfl rfl
set_option maxRecDepth 100000 in
theorem seX7_forget : Cond.selects (mY MX7_forget).cls (mY MX7_forget) (mY MX7_forget) ∈ ws0 := tb3 16 rfl rfl
set_option maxRecDepth 100000 in
theorem pdX7_key : Cond.code (mY MX7_key) (mC MX7_key) (mN MX7_key) (mR MX7_key) ∈ ws0 ∧ Cond.initialized (mY MX7_key).cls ∈ ws0 ∧ ((mY MX7_key).cls ≠ "java/lang/invoke/MethodHandle" ∧ (mY MX7_key).cls ≠ "java/lang/invoke/VarHandle") ∧ (parseMethodDescriptor (mY MX7_key).desc).map (fun d => d.parameters.length) = some 2 := ⟨tb3 37 rfl rfl, iiX7, neX7, (by decide +kernel)⟩
set_option maxRecDepth 100000 in
theorem imX7_key : Cond.instanceMethod yX7_key ∈ ws0 := tb3 35 rfl rfl
set_option maxRecDepth 100000 in
theorem seX7_key : Cond.selects (mY MX7_key).cls (mY MX7_key) (mY MX7_key) ∈ ws0 := tb3 36 rfl rfl
set_option maxRecDepth 100000 in
theorem pdX7_count : Cond.code (mY MX7_count) (mC MX7_count) (mN MX7_count) (mR MX7_count) ∈ ws0 ∧ Cond.initialized (mY MX7_count).cls ∈ ws0 ∧ ((mY MX7_count).cls ≠ "java/lang/invoke/MethodHandle" ∧ (mY MX7_count).cls ≠ "java/lang/invoke/VarHandle") ∧ (parseMethodDescriptor (mY MX7_count).desc).map (fun d => d.parameters.length) = some 1 := ⟨tb3 56 rfl rfl, iiX7, neX7, (by decide +kernel)⟩
set_option maxRecDepth 100000 in
theorem imX7_count : Cond.instanceMethod yX7_count ∈ ws0 := tb3 54 rfl rfl
set_option maxRecDepth 100000 in
theorem seX7_count : Cond.selects (mY MX7_count).cls (mY MX7_count) (mY MX7_count) ∈ ws0 := tb3 55 rfl rfl
set_option maxRecDepth 100000 in
theorem pdX7_feed : Cond.code (mY MX7_feed) (mC MX7_feed) (mN MX7_feed) (mR MX7_feed) ∈ ws0 ∧ Cond.initialized (mY MX7_feed).cls ∈ ws0 ∧ ((mY MX7_feed).cls ≠ "java/lang/invoke/MethodHandle" ∧ (mY MX7_feed).cls ≠ "java/lang/invoke/VarHandle") ∧ (parseMethodDescriptor (mY MX7_feed).desc).map (fun d => d.parameters.length) = some 2 := ⟨tb3 68 rfl rfl, iiX7, neX7, (by decide +kernel)⟩
set_option maxRecDepth 100000 in
theorem imX7_feed : Cond.instanceMethod yX7_feed ∈ ws0 := tb3 66 rfl rfl
set_option maxRecDepth 100000 in
theorem seX7_feed : Cond.selects (mY MX7_feed).cls (mY MX7_feed) (mY MX7_feed) ∈ ws0 := tb3 67 rfl rfl
set_option maxRecDepth 100000 in
theorem pdX7_cut : Cond.code (mY MX7_cut) (mC MX7_cut) (mN MX7_cut) (mR MX7_cut) ∈ ws0 ∧ Cond.initialized (mY MX7_cut).cls ∈ ws0 ∧ ((mY MX7_cut).cls ≠ "java/lang/invoke/MethodHandle" ∧ (mY MX7_cut).cls ≠ "java/lang/invoke/VarHandle") ∧ (parseMethodDescriptor (mY MX7_cut).desc).map (fun d => d.parameters.length) = some 1 := ⟨tb3 76 rfl rfl, iiX7, neX7, (by decide +kernel)⟩
set_option maxRecDepth 100000 in
theorem imX7_cut : Cond.instanceMethod yX7_cut ∈ ws0 := tb3 74 rfl rfl
set_option maxRecDepth 100000 in
theorem seX7_cut : Cond.selects (mY MX7_cut).cls (mY MX7_cut) (mY MX7_cut) ∈ ws0 := tb3 75 rfl rfl
set_option maxRecDepth 100000 in
theorem pdX7_hash : Cond.code (mY MX7_hash) (mC MX7_hash) (mN MX7_hash) (mR MX7_hash) ∈ ws0 ∧ Cond.initialized (mY MX7_hash).cls ∈ ws0 ∧ ((mY MX7_hash).cls ≠ "java/lang/invoke/MethodHandle" ∧ (mY MX7_hash).cls ≠ "java/lang/invoke/VarHandle") ∧ (parseMethodDescriptor (mY MX7_hash).desc).map (fun d => d.parameters.length) = some 1 := ⟨tb3 84 rfl rfl, iiX7, neX7, (by decide +kernel)⟩
set_option maxRecDepth 100000 in
theorem imX7_hash : Cond.instanceMethod yX7_hash ∈ ws0 := tb3 82 rfl rfl
set_option maxRecDepth 100000 in
theorem seX7_hash : Cond.selects (mY MX7_hash).cls (mY MX7_hash) (mY MX7_hash) ∈ ws0 := tb3 83 rfl rfl
set_option maxRecDepth 100000 in
theorem pdX7_encoded : Cond.code (mY MX7_encoded) (mC MX7_encoded) (mN MX7_encoded) (mR MX7_encoded) ∈ ws0 ∧ Cond.initialized (mY MX7_encoded).cls ∈ ws0 ∧ ((mY MX7_encoded).cls ≠ "java/lang/invoke/MethodHandle" ∧ (mY MX7_encoded).cls ≠ "java/lang/invoke/VarHandle") ∧ (parseMethodDescriptor (mY MX7_encoded).desc).map (fun d => d.parameters.length) = some 1 := ⟨tb3 93 rfl rfl, iiX7, neX7, (by decide +kernel)⟩
set_option maxRecDepth 100000 in
theorem imX7_encoded : Cond.instanceMethod yX7_encoded ∈ ws0 := tb3 91 rfl rfl
set_option maxRecDepth 100000 in
theorem seX7_encoded : Cond.selects (mY MX7_encoded).cls (mY MX7_encoded) (mY MX7_encoded) ∈ ws0 := tb3 92 rfl rfl
set_option maxRecDepth 100000 in
theorem pdX7_sign : Cond.code (mY MX7_sign) (mC MX7_sign) (mN MX7_sign) (mR MX7_sign) ∈ ws0 ∧ Cond.initialized (mY MX7_sign).cls ∈ ws0 ∧ ((mY MX7_sign).cls ≠ "java/lang/invoke/MethodHandle" ∧ (mY MX7_sign).cls ≠ "java/lang/invoke/VarHandle") ∧ (parseMethodDescriptor (mY MX7_sign).desc).map (fun d => d.parameters.length) = some 0 := ⟨tb3 103 rfl rfl, iiX7, neX7, (by decide +kernel)⟩
set_option maxRecDepth 100000 in
theorem imX7_sign : Cond.instanceMethod yX7_sign ∈ ws0 := tb3 101 rfl rfl
set_option maxRecDepth 100000 in
theorem seX7_sign : Cond.selects (mY MX7_sign).cls (mY MX7_sign) (mY MX7_sign) ∈ ws0 := tb3 102 rfl rfl
set_option maxRecDepth 100000 in
theorem pdX7_verify : Cond.code (mY MX7_verify) (mC MX7_verify) (mN MX7_verify) (mR MX7_verify) ∈ ws0 ∧ Cond.initialized (mY MX7_verify).cls ∈ ws0 ∧ ((mY MX7_verify).cls ≠ "java/lang/invoke/MethodHandle" ∧ (mY MX7_verify).cls ≠ "java/lang/invoke/VarHandle") ∧ (parseMethodDescriptor (mY MX7_verify).desc).map (fun d => d.parameters.length) = some 0 := ⟨tb3 125 rfl rfl, iiX7, neX7, (by decide +kernel)⟩
set_option maxRecDepth 100000 in
theorem imX7_verify : Cond.instanceMethod yX7_verify ∈ ws0 := tb3 123 rfl rfl
set_option maxRecDepth 100000 in
theorem seX7_verify : Cond.selects (mY MX7_verify).cls (mY MX7_verify) (mY MX7_verify) ∈ ws0 := tb3 124 rfl rfl
set_option maxRecDepth 100000 in
theorem pdX7_power : Cond.code (mY MX7_power) (mC MX7_power) (mN MX7_power) (mR MX7_power) ∈ ws0 ∧ Cond.initialized (mY MX7_power).cls ∈ ws0 ∧ ((mY MX7_power).cls ≠ "java/lang/invoke/MethodHandle" ∧ (mY MX7_power).cls ≠ "java/lang/invoke/VarHandle") ∧ (parseMethodDescriptor (mY MX7_power).desc).map (fun d => d.parameters.length) = some 1 := ⟨tb3 140 rfl rfl, iiX7, neX7, (by decide +kernel)⟩
set_option maxRecDepth 100000 in
theorem imX7_power : Cond.instanceMethod yX7_power ∈ ws0 := tb3 138 rfl rfl
set_option maxRecDepth 100000 in
theorem seX7_power : Cond.selects (mY MX7_power).cls (mY MX7_power) (mY MX7_power) ∈ ws0 := tb3 139 rfl rfl
set_option maxRecDepth 100000 in
theorem pdX7_encode : Cond.code (mY MX7_encode) (mC MX7_encode) (mN MX7_encode) (mR MX7_encode) ∈ ws0 ∧ Cond.initialized (mY MX7_encode).cls ∈ ws0 ∧ ((mY MX7_encode).cls ≠ "java/lang/invoke/MethodHandle" ∧ (mY MX7_encode).cls ≠ "java/lang/invoke/VarHandle") ∧ (parseMethodDescriptor (mY MX7_encode).desc).map (fun d => d.parameters.length) = some 0 := ⟨tb3 148 rfl rfl, iiX7, neX7, (by decide +kernel)⟩
set_option maxRecDepth 100000 in
theorem imX7_encode : Cond.instanceMethod yX7_encode ∈ ws0 := tb3 146 rfl rfl
set_option maxRecDepth 100000 in
theorem seX7_encode : Cond.selects (mY MX7_encode).cls (mY MX7_encode) (mY MX7_encode) ∈ ws0 := tb3 147 rfl rfl
set_option maxRecDepth 100000 in
theorem pdX7_set : Cond.code (mY MX7_set) (mC MX7_set) (mN MX7_set) (mR MX7_set) ∈ ws0 ∧ Cond.initialized (mY MX7_set).cls ∈ ws0 ∧ ((mY MX7_set).cls ≠ "java/lang/invoke/MethodHandle" ∧ (mY MX7_set).cls ≠ "java/lang/invoke/VarHandle") ∧ (parseMethodDescriptor (mY MX7_set).desc).map (fun d => d.parameters.length) = some 2 := ⟨tb3 152 rfl rfl, iiX7, neX7, (by decide +kernel)⟩
set_option maxRecDepth 100000 in
theorem imX7_set : Cond.instanceMethod yX7_set ∈ ws0 := tb3 150 rfl rfl
set_option maxRecDepth 100000 in
theorem seX7_set : Cond.selects (mY MX7_set).cls (mY MX7_set) (mY MX7_set) ∈ ws0 := tb3 151 rfl rfl
set_option maxRecDepth 100000 in
theorem pdX7_get : Cond.code (mY MX7_get) (mC MX7_get) (mN MX7_get) (mR MX7_get) ∈ ws0 ∧ Cond.initialized (mY MX7_get).cls ∈ ws0 ∧ ((mY MX7_get).cls ≠ "java/lang/invoke/MethodHandle" ∧ (mY MX7_get).cls ≠ "java/lang/invoke/VarHandle") ∧ (parseMethodDescriptor (mY MX7_get).desc).map (fun d => d.parameters.length) = some 1 := ⟨tb3 156 rfl rfl, iiX7, neX7, (by decide +kernel)⟩
set_option maxRecDepth 100000 in
theorem imX7_get : Cond.instanceMethod yX7_get ∈ ws0 := tb3 154 rfl rfl
set_option maxRecDepth 100000 in
theorem seX7_get : Cond.selects (mY MX7_get).cls (mY MX7_get) (mY MX7_get) ∈ ws0 := tb3 155 rfl rfl
set_option maxRecDepth 100000 in
theorem pdX7_digest : Cond.code (mY MX7_digest) (mC MX7_digest) (mN MX7_digest) (mR MX7_digest) ∈ ws0 ∧ Cond.initialized (mY MX7_digest).cls ∈ ws0 ∧ ((mY MX7_digest).cls ≠ "java/lang/invoke/MethodHandle" ∧ (mY MX7_digest).cls ≠ "java/lang/invoke/VarHandle") ∧ (parseMethodDescriptor (mY MX7_digest).desc).map (fun d => d.parameters.length) = some 0 := ⟨tb3 160 rfl rfl, iiX7, neX7, (by decide +kernel)⟩
set_option maxRecDepth 100000 in
theorem imX7_digest : Cond.instanceMethod yX7_digest ∈ ws0 := tb3 158 rfl rfl
set_option maxRecDepth 100000 in
theorem seX7_digest : Cond.selects (mY MX7_digest).cls (mY MX7_digest) (mY MX7_digest) ∈ ws0 := tb3 159 rfl rfl
set_option maxRecDepth 100000 in
theorem pdX7_digestKey : Cond.code (mY MX7_digestKey) (mC MX7_digestKey) (mN MX7_digestKey) (mR MX7_digestKey) ∈ ws0 ∧ Cond.initialized (mY MX7_digestKey).cls ∈ ws0 ∧ ((mY MX7_digestKey).cls ≠ "java/lang/invoke/MethodHandle" ∧ (mY MX7_digestKey).cls ≠ "java/lang/invoke/VarHandle") ∧ (parseMethodDescriptor (mY MX7_digestKey).desc).map (fun d => d.parameters.length) = some 1 := ⟨tb3 166 rfl rfl, iiX7, neX7, (by decide +kernel)⟩
set_option maxRecDepth 100000 in
theorem imX7_digestKey : Cond.instanceMethod yX7_digestKey ∈ ws0 := tb3 165 rfl rfl
set_option maxRecDepth 100000 in
theorem seX7_digestKey : Cond.selects (mY MX7_digestKey).cls (mY MX7_digestKey) (mY MX7_digestKey) ∈ ws0 := tb0 20 rfl rfl
set_option maxRecDepth 100000 in
theorem pdX7_bytesOfKeyPart : Cond.code (mY MX7_bytesOfKeyPart) (mC MX7_bytesOfKeyPart) (mN MX7_bytesOfKeyPart) (mR MX7_bytesOfKeyPart) ∈ ws0 ∧ Cond.initialized (mY MX7_bytesOfKeyPart).cls ∈ ws0 ∧ ((mY MX7_bytesOfKeyPart).cls ≠ "java/lang/invoke/MethodHandle" ∧ (mY MX7_bytesOfKeyPart).cls ≠ "java/lang/invoke/VarHandle") ∧ (parseMethodDescriptor (mY MX7_bytesOfKeyPart).desc).map (fun d => d.parameters.length) = some 1 := ⟨tb3 41 rfl rfl, iiX7, neX7, (by decide +kernel)⟩
set_option maxRecDepth 100000 in
theorem imX7_bytesOfKeyPart : Cond.instanceMethod yX7_bytesOfKeyPart ∈ ws0 := tb3 40 rfl rfl
set_option maxRecDepth 100000 in
theorem seX7_bytesOfKeyPart : Cond.selects (mY MX7_bytesOfKeyPart).cls (mY MX7_bytesOfKeyPart) (mY MX7_bytesOfKeyPart) ∈ ws0 := tb0 16 rfl rfl
set_option maxRecDepth 100000 in
theorem pdX7_byteOfKeyPart : Cond.code (mY MX7_byteOfKeyPart) (mC MX7_byteOfKeyPart) (mN MX7_byteOfKeyPart) (mR MX7_byteOfKeyPart) ∈ ws0 ∧ Cond.initialized (mY MX7_byteOfKeyPart).cls ∈ ws0 ∧ ((mY MX7_byteOfKeyPart).cls ≠ "java/lang/invoke/MethodHandle" ∧ (mY MX7_byteOfKeyPart).cls ≠ "java/lang/invoke/VarHandle") ∧ (parseMethodDescriptor (mY MX7_byteOfKeyPart).desc).map (fun d => d.parameters.length) = some 2 := ⟨tb3 45 rfl rfl, iiX7, neX7, (by decide +kernel)⟩
set_option maxRecDepth 100000 in
theorem imX7_byteOfKeyPart : Cond.instanceMethod yX7_byteOfKeyPart ∈ ws0 := tb3 44 rfl rfl
set_option maxRecDepth 100000 in
theorem seX7_byteOfKeyPart : Cond.selects (mY MX7_byteOfKeyPart).cls (mY MX7_byteOfKeyPart) (mY MX7_byteOfKeyPart) ∈ ws0 := tb0 17 rfl rfl
set_option maxRecDepth 100000 in
theorem pdX7_encodedByte : Cond.code (mY MX7_encodedByte) (mC MX7_encodedByte) (mN MX7_encodedByte) (mR MX7_encodedByte) ∈ ws0 ∧ Cond.initialized (mY MX7_encodedByte).cls ∈ ws0 ∧ ((mY MX7_encodedByte).cls ≠ "java/lang/invoke/MethodHandle" ∧ (mY MX7_encodedByte).cls ≠ "java/lang/invoke/VarHandle") ∧ (parseMethodDescriptor (mY MX7_encodedByte).desc).map (fun d => d.parameters.length) = some 1 := ⟨tb3 97 rfl rfl, iiX7, neX7, (by decide +kernel)⟩
set_option maxRecDepth 100000 in
theorem imX7_encodedByte : Cond.instanceMethod yX7_encodedByte ∈ ws0 := tb3 96 rfl rfl
set_option maxRecDepth 100000 in
theorem seX7_encodedByte : Cond.selects (mY MX7_encodedByte).cls (mY MX7_encodedByte) (mY MX7_encodedByte) ∈ ws0 := tb0 18 rfl rfl
set_option maxRecDepth 100000 in
theorem pdX7_writeEncoded : Cond.code (mY MX7_writeEncoded) (mC MX7_writeEncoded) (mN MX7_writeEncoded) (mR MX7_writeEncoded) ∈ ws0 ∧ Cond.initialized (mY MX7_writeEncoded).cls ∈ ws0 ∧ ((mY MX7_writeEncoded).cls ≠ "java/lang/invoke/MethodHandle" ∧ (mY MX7_writeEncoded).cls ≠ "java/lang/invoke/VarHandle") ∧ (parseMethodDescriptor (mY MX7_writeEncoded).desc).map (fun d => d.parameters.length) = some 1 := ⟨tb3 107 rfl rfl, iiX7, neX7, (by decide +kernel)⟩
set_option maxRecDepth 100000 in
theorem imX7_writeEncoded : Cond.instanceMethod yX7_writeEncoded ∈ ws0 := tb3 106 rfl rfl
set_option maxRecDepth 100000 in
theorem seX7_writeEncoded : Cond.selects (mY MX7_writeEncoded).cls (mY MX7_writeEncoded) (mY MX7_writeEncoded) ∈ ws0 := tb0 19 rfl rfl
set_option maxRecDepth 100000 in
theorem pdX8_in : Cond.code (mY MX8_in) (mC MX8_in) (mN MX8_in) (mR MX8_in) ∈ ws0 ∧ Cond.initialized (mY MX8_in).cls ∈ ws0 ∧ ((mY MX8_in).cls ≠ "java/lang/invoke/MethodHandle" ∧ (mY MX8_in).cls ≠ "java/lang/invoke/VarHandle") ∧ (parseMethodDescriptor (mY MX8_in).desc).map (fun d => d.parameters.length) = some 3 := ⟨tb4 89 rfl rfl, iiX8, neX8, (by decide +kernel)⟩
set_option maxRecDepth 100000 in
theorem imX8_in : Cond.static yX8_in ∈ ws0 := tb4 88 rfl rfl
set_option maxRecDepth 100000 in
theorem pdX8_init : Cond.code (mY MX8_init) (mC MX8_init) (mN MX8_init) (mR MX8_init) ∈ ws0 ∧ Cond.initialized (mY MX8_init).cls ∈ ws0 ∧ ((mY MX8_init).cls ≠ "java/lang/invoke/MethodHandle" ∧ (mY MX8_init).cls ≠ "java/lang/invoke/VarHandle") ∧ (parseMethodDescriptor (mY MX8_init).desc).map (fun d => d.parameters.length) = some 2 := ⟨tb3 175 rfl rfl, iiX8, neX8, (by decide +kernel)⟩
set_option maxRecDepth 100000 in
theorem imX8_init : Cond.instanceMethod yX8_init ∈ ws0 := tb3 174 rfl rfl
set_option maxRecDepth 100000 in
theorem pdX8_clear : Cond.code (mY MX8_clear) (mC MX8_clear) (mN MX8_clear) (mR MX8_clear) ∈ ws0 ∧ Cond.initialized (mY MX8_clear).cls ∈ ws0 ∧ ((mY MX8_clear).cls ≠ "java/lang/invoke/MethodHandle" ∧ (mY MX8_clear).cls ≠ "java/lang/invoke/VarHandle") ∧ (parseMethodDescriptor (mY MX8_clear).desc).map (fun d => d.parameters.length) = some 1 := ⟨tb4 97 rfl rfl, iiX8, neX8, (by decide +kernel)⟩
set_option maxRecDepth 100000 in
theorem imX8_clear : Cond.instanceMethod yX8_clear ∈ ws0 := tb4 96 rfl rfl
set_option maxRecDepth 100000 in
theorem seX8_clear : Cond.selects (mY MX8_clear).cls (mY MX8_clear) (mY MX8_clear) ∈ ws0 := tb0 22 rfl rfl
set_option maxRecDepth 100000 in
theorem pdX8_copy : Cond.code (mY MX8_copy) (mC MX8_copy) (mN MX8_copy) (mR MX8_copy) ∈ ws0 ∧ Cond.initialized (mY MX8_copy).cls ∈ ws0 ∧ ((mY MX8_copy).cls ≠ "java/lang/invoke/MethodHandle" ∧ (mY MX8_copy).cls ≠ "java/lang/invoke/VarHandle") ∧ (parseMethodDescriptor (mY MX8_copy).desc).map (fun d => d.parameters.length) = some 2 := ⟨tb4 154 rfl rfl, iiX8, neX8, (by decide +kernel)⟩
set_option maxRecDepth 100000 in
theorem imX8_copy : Cond.instanceMethod yX8_copy ∈ ws0 := tb4 153 rfl rfl
set_option maxRecDepth 100000 in
theorem seX8_copy : Cond.selects (mY MX8_copy).cls (mY MX8_copy) (mY MX8_copy) ∈ ws0 := tb0 35 rfl rfl
set_option maxRecDepth 100000 in
theorem pdX8_small : Cond.code (mY MX8_small) (mC MX8_small) (mN MX8_small) (mR MX8_small) ∈ ws0 ∧ Cond.initialized (mY MX8_small).cls ∈ ws0 ∧ ((mY MX8_small).cls ≠ "java/lang/invoke/MethodHandle" ∧ (mY MX8_small).cls ≠ "java/lang/invoke/VarHandle") ∧ (parseMethodDescriptor (mY MX8_small).desc).map (fun d => d.parameters.length) = some 2 := ⟨tb4 178 rfl rfl, iiX8, neX8, (by decide +kernel)⟩
set_option maxRecDepth 100000 in
theorem imX8_small : Cond.instanceMethod yX8_small ∈ ws0 := tb4 177 rfl rfl
set_option maxRecDepth 100000 in
theorem seX8_small : Cond.selects (mY MX8_small).cls (mY MX8_small) (mY MX8_small) ∈ ws0 := tb0 40 rfl rfl
set_option maxRecDepth 100000 in
theorem pdX8_longOf : Cond.code (mY MX8_longOf) (mC MX8_longOf) (mN MX8_longOf) (mR MX8_longOf) ∈ ws0 ∧ Cond.initialized (mY MX8_longOf).cls ∈ ws0 ∧ ((mY MX8_longOf).cls ≠ "java/lang/invoke/MethodHandle" ∧ (mY MX8_longOf).cls ≠ "java/lang/invoke/VarHandle") ∧ (parseMethodDescriptor (mY MX8_longOf).desc).map (fun d => d.parameters.length) = some 1 := ⟨tb4 190 rfl rfl, iiX8, neX8, (by decide +kernel)⟩
set_option maxRecDepth 100000 in
theorem imX8_longOf : Cond.instanceMethod yX8_longOf ∈ ws0 := tb4 189 rfl rfl
set_option maxRecDepth 100000 in
theorem seX8_longOf : Cond.selects (mY MX8_longOf).cls (mY MX8_longOf) (mY MX8_longOf) ∈ ws0 := tb0 43 rfl rfl
set_option maxRecDepth 100000 in
theorem pdX8_compare : Cond.code (mY MX8_compare) (mC MX8_compare) (mN MX8_compare) (mR MX8_compare) ∈ ws0 ∧ Cond.initialized (mY MX8_compare).cls ∈ ws0 ∧ ((mY MX8_compare).cls ≠ "java/lang/invoke/MethodHandle" ∧ (mY MX8_compare).cls ≠ "java/lang/invoke/VarHandle") ∧ (parseMethodDescriptor (mY MX8_compare).desc).map (fun d => d.parameters.length) = some 2 := ⟨tb4 146 rfl rfl, iiX8, neX8, (by decide +kernel)⟩
set_option maxRecDepth 100000 in
theorem imX8_compare : Cond.instanceMethod yX8_compare ∈ ws0 := tb4 145 rfl rfl
set_option maxRecDepth 100000 in
theorem seX8_compare : Cond.selects (mY MX8_compare).cls (mY MX8_compare) (mY MX8_compare) ∈ ws0 := tb0 33 rfl rfl
set_option maxRecDepth 100000 in
theorem pdX8_isSmall : Cond.code (mY MX8_isSmall) (mC MX8_isSmall) (mN MX8_isSmall) (mR MX8_isSmall) ∈ ws0 ∧ Cond.initialized (mY MX8_isSmall).cls ∈ ws0 ∧ ((mY MX8_isSmall).cls ≠ "java/lang/invoke/MethodHandle" ∧ (mY MX8_isSmall).cls ≠ "java/lang/invoke/VarHandle") ∧ (parseMethodDescriptor (mY MX8_isSmall).desc).map (fun d => d.parameters.length) = some 2 := ⟨tb4 208 rfl rfl, iiX8, neX8, (by decide +kernel)⟩
set_option maxRecDepth 100000 in
theorem imX8_isSmall : Cond.instanceMethod yX8_isSmall ∈ ws0 := tb4 207 rfl rfl
set_option maxRecDepth 100000 in
theorem seX8_isSmall : Cond.selects (mY MX8_isSmall).cls (mY MX8_isSmall) (mY MX8_isSmall) ∈ ws0 := tb0 47 rfl rfl
set_option maxRecDepth 100000 in
theorem pdX8_adds : Cond.code (mY MX8_adds) (mC MX8_adds) (mN MX8_adds) (mR MX8_adds) ∈ ws0 ∧ Cond.initialized (mY MX8_adds).cls ∈ ws0 ∧ ((mY MX8_adds).cls ≠ "java/lang/invoke/MethodHandle" ∧ (mY MX8_adds).cls ≠ "java/lang/invoke/VarHandle") ∧ (parseMethodDescriptor (mY MX8_adds).desc).map (fun d => d.parameters.length) = some 2 := ⟨tb5 37 rfl rfl, iiX8, neX8, (by decide +kernel)⟩
set_option maxRecDepth 100000 in
theorem imX8_adds : Cond.instanceMethod yX8_adds ∈ ws0 := tb5 36 rfl rfl
set_option maxRecDepth 100000 in
theorem seX8_adds : Cond.selects (mY MX8_adds).cls (mY MX8_adds) (mY MX8_adds) ∈ ws0 := tb0 56 rfl rfl
set_option maxRecDepth 100000 in
theorem pdX8_takes : Cond.code (mY MX8_takes) (mC MX8_takes) (mN MX8_takes) (mR MX8_takes) ∈ ws0 ∧ Cond.initialized (mY MX8_takes).cls ∈ ws0 ∧ ((mY MX8_takes).cls ≠ "java/lang/invoke/MethodHandle" ∧ (mY MX8_takes).cls ≠ "java/lang/invoke/VarHandle") ∧ (parseMethodDescriptor (mY MX8_takes).desc).map (fun d => d.parameters.length) = some 2 := ⟨tb5 41 rfl rfl, iiX8, neX8, (by decide +kernel)⟩
set_option maxRecDepth 100000 in
theorem imX8_takes : Cond.instanceMethod yX8_takes ∈ ws0 := tb5 40 rfl rfl
set_option maxRecDepth 100000 in
theorem seX8_takes : Cond.selects (mY MX8_takes).cls (mY MX8_takes) (mY MX8_takes) ∈ ws0 := tb0 57 rfl rfl
set_option maxRecDepth 100000 in
theorem pdX8_takesSmall : Cond.code (mY MX8_takesSmall) (mC MX8_takesSmall) (mN MX8_takesSmall) (mR MX8_takesSmall) ∈ ws0 ∧ Cond.initialized (mY MX8_takesSmall).cls ∈ ws0 ∧ ((mY MX8_takesSmall).cls ≠ "java/lang/invoke/MethodHandle" ∧ (mY MX8_takesSmall).cls ≠ "java/lang/invoke/VarHandle") ∧ (parseMethodDescriptor (mY MX8_takesSmall).desc).map (fun d => d.parameters.length) = some 2 := ⟨tb4 158 rfl rfl, iiX8, neX8, (by decide +kernel)⟩
set_option maxRecDepth 100000 in
theorem imX8_takesSmall : Cond.instanceMethod yX8_takesSmall ∈ ws0 := tb4 157 rfl rfl
set_option maxRecDepth 100000 in
theorem seX8_takesSmall : Cond.selects (mY MX8_takesSmall).cls (mY MX8_takesSmall) (mY MX8_takesSmall) ∈ ws0 := tb0 36 rfl rfl
set_option maxRecDepth 100000 in
theorem pdX8_growsSmall : Cond.code (mY MX8_growsSmall) (mC MX8_growsSmall) (mN MX8_growsSmall) (mR MX8_growsSmall) ∈ ws0 ∧ Cond.initialized (mY MX8_growsSmall).cls ∈ ws0 ∧ ((mY MX8_growsSmall).cls ≠ "java/lang/invoke/MethodHandle" ∧ (mY MX8_growsSmall).cls ≠ "java/lang/invoke/VarHandle") ∧ (parseMethodDescriptor (mY MX8_growsSmall).desc).map (fun d => d.parameters.length) = some 3 := ⟨tb4 221 rfl rfl, iiX8, neX8, (by decide +kernel)⟩
set_option maxRecDepth 100000 in
theorem imX8_growsSmall : Cond.instanceMethod yX8_growsSmall ∈ ws0 := tb4 220 rfl rfl
set_option maxRecDepth 100000 in
theorem seX8_growsSmall : Cond.selects (mY MX8_growsSmall).cls (mY MX8_growsSmall) (mY MX8_growsSmall) ∈ ws0 := tb0 50 rfl rfl
set_option maxRecDepth 100000 in
theorem pdX8_restSmall : Cond.code (mY MX8_restSmall) (mC MX8_restSmall) (mN MX8_restSmall) (mR MX8_restSmall) ∈ ws0 ∧ Cond.initialized (mY MX8_restSmall).cls ∈ ws0 ∧ ((mY MX8_restSmall).cls ≠ "java/lang/invoke/MethodHandle" ∧ (mY MX8_restSmall).cls ≠ "java/lang/invoke/VarHandle") ∧ (parseMethodDescriptor (mY MX8_restSmall).desc).map (fun d => d.parameters.length) = some 2 := ⟨tb4 141 rfl rfl, iiX8, neX8, (by decide +kernel)⟩
set_option maxRecDepth 100000 in
theorem imX8_restSmall : Cond.instanceMethod yX8_restSmall ∈ ws0 := tb4 140 rfl rfl
set_option maxRecDepth 100000 in
theorem seX8_restSmall : Cond.selects (mY MX8_restSmall).cls (mY MX8_restSmall) (mY MX8_restSmall) ∈ ws0 := tb0 32 rfl rfl
set_option maxRecDepth 100000 in
theorem pdX8_shareSmall : Cond.code (mY MX8_shareSmall) (mC MX8_shareSmall) (mN MX8_shareSmall) (mR MX8_shareSmall) ∈ ws0 ∧ Cond.initialized (mY MX8_shareSmall).cls ∈ ws0 ∧ ((mY MX8_shareSmall).cls ≠ "java/lang/invoke/MethodHandle" ∧ (mY MX8_shareSmall).cls ≠ "java/lang/invoke/VarHandle") ∧ (parseMethodDescriptor (mY MX8_shareSmall).desc).map (fun d => d.parameters.length) = some 2 := ⟨tb4 225 rfl rfl, iiX8, neX8, (by decide +kernel)⟩
set_option maxRecDepth 100000 in
theorem imX8_shareSmall : Cond.instanceMethod yX8_shareSmall ∈ ws0 := tb4 224 rfl rfl
set_option maxRecDepth 100000 in
theorem seX8_shareSmall : Cond.selects (mY MX8_shareSmall).cls (mY MX8_shareSmall) (mY MX8_shareSmall) ∈ ws0 := tb0 51 rfl rfl
set_option maxRecDepth 100000 in
theorem pdX8_moveLeft : Cond.code (mY MX8_moveLeft) (mC MX8_moveLeft) (mN MX8_moveLeft) (mR MX8_moveLeft) ∈ ws0 ∧ Cond.initialized (mY MX8_moveLeft).cls ∈ ws0 ∧ ((mY MX8_moveLeft).cls ≠ "java/lang/invoke/MethodHandle" ∧ (mY MX8_moveLeft).cls ≠ "java/lang/invoke/VarHandle") ∧ (parseMethodDescriptor (mY MX8_moveLeft).desc).map (fun d => d.parameters.length) = some 3 := ⟨tb4 195 rfl rfl, iiX8, neX8, (by decide +kernel)⟩
set_option maxRecDepth 100000 in
theorem imX8_moveLeft : Cond.instanceMethod yX8_moveLeft ∈ ws0 := tb4 194 rfl rfl
set_option maxRecDepth 100000 in
theorem seX8_moveLeft : Cond.selects (mY MX8_moveLeft).cls (mY MX8_moveLeft) (mY MX8_moveLeft) ∈ ws0 := tb0 44 rfl rfl
set_option maxRecDepth 100000 in
theorem pdX8_moveRight : Cond.code (mY MX8_moveRight) (mC MX8_moveRight) (mN MX8_moveRight) (mR MX8_moveRight) ∈ ws0 ∧ Cond.initialized (mY MX8_moveRight).cls ∈ ws0 ∧ ((mY MX8_moveRight).cls ≠ "java/lang/invoke/MethodHandle" ∧ (mY MX8_moveRight).cls ≠ "java/lang/invoke/VarHandle") ∧ (parseMethodDescriptor (mY MX8_moveRight).desc).map (fun d => d.parameters.length) = some 2 := ⟨tb4 167 rfl rfl, iiX8, neX8, (by decide +kernel)⟩
set_option maxRecDepth 100000 in
theorem imX8_moveRight : Cond.instanceMethod yX8_moveRight ∈ ws0 := tb4 166 rfl rfl
set_option maxRecDepth 100000 in
theorem seX8_moveRight : Cond.selects (mY MX8_moveRight).cls (mY MX8_moveRight) (mY MX8_moveRight) ∈ ws0 := tb0 38 rfl rfl
set_option maxRecDepth 100000 in
theorem pdX8_times : Cond.code (mY MX8_times) (mC MX8_times) (mN MX8_times) (mR MX8_times) ∈ ws0 ∧ Cond.initialized (mY MX8_times).cls ∈ ws0 ∧ ((mY MX8_times).cls ≠ "java/lang/invoke/MethodHandle" ∧ (mY MX8_times).cls ≠ "java/lang/invoke/VarHandle") ∧ (parseMethodDescriptor (mY MX8_times).desc).map (fun d => d.parameters.length) = some 3 := ⟨tb4 204 rfl rfl, iiX8, neX8, (by decide +kernel)⟩
set_option maxRecDepth 100000 in
theorem imX8_times : Cond.instanceMethod yX8_times ∈ ws0 := tb4 203 rfl rfl
set_option maxRecDepth 100000 in
theorem seX8_times : Cond.selects (mY MX8_times).cls (mY MX8_times) (mY MX8_times) ∈ ws0 := tb0 46 rfl rfl
set_option maxRecDepth 100000 in
theorem pdX8_dividesAt : Cond.code (mY MX8_dividesAt) (mC MX8_dividesAt) (mN MX8_dividesAt) (mR MX8_dividesAt) ∈ ws0 ∧ Cond.initialized (mY MX8_dividesAt).cls ∈ ws0 ∧ ((mY MX8_dividesAt).cls ≠ "java/lang/invoke/MethodHandle" ∧ (mY MX8_dividesAt).cls ≠ "java/lang/invoke/VarHandle") ∧ (parseMethodDescriptor (mY MX8_dividesAt).desc).map (fun d => d.parameters.length) = some 3 := ⟨tb4 199 rfl rfl, iiX8, neX8, (by decide +kernel)⟩
set_option maxRecDepth 100000 in
theorem imX8_dividesAt : Cond.instanceMethod yX8_dividesAt ∈ ws0 := tb4 198 rfl rfl
set_option maxRecDepth 100000 in
theorem seX8_dividesAt : Cond.selects (mY MX8_dividesAt).cls (mY MX8_dividesAt) (mY MX8_dividesAt) ∈ ws0 := tb0 45 rfl rfl
set_option maxRecDepth 100000 in
theorem pdX8_leaves : Cond.code (mY MX8_leaves) (mC MX8_leaves) (mN MX8_leaves) (mR MX8_leaves) ∈ ws0 ∧ Cond.initialized (mY MX8_leaves).cls ∈ ws0 ∧ ((mY MX8_leaves).cls ≠ "java/lang/invoke/MethodHandle" ∧ (mY MX8_leaves).cls ≠ "java/lang/invoke/VarHandle") ∧ (parseMethodDescriptor (mY MX8_leaves).desc).map (fun d => d.parameters.length) = some 2 := ⟨tb4 186 rfl rfl, iiX8, neX8, (by decide +kernel)⟩
set_option maxRecDepth 100000 in
theorem imX8_leaves : Cond.instanceMethod yX8_leaves ∈ ws0 := tb4 185 rfl rfl
set_option maxRecDepth 100000 in
theorem seX8_leaves : Cond.selects (mY MX8_leaves).cls (mY MX8_leaves) (mY MX8_leaves) ∈ ws0 := tb0 42 rfl rfl
set_option maxRecDepth 100000 in
theorem pdX8_bit : Cond.code (mY MX8_bit) (mC MX8_bit) (mN MX8_bit) (mR MX8_bit) ∈ ws0 ∧ Cond.initialized (mY MX8_bit).cls ∈ ws0 ∧ ((mY MX8_bit).cls ≠ "java/lang/invoke/MethodHandle" ∧ (mY MX8_bit).cls ≠ "java/lang/invoke/VarHandle") ∧ (parseMethodDescriptor (mY MX8_bit).desc).map (fun d => d.parameters.length) = some 2 := ⟨tb4 163 rfl rfl, iiX8, neX8, (by decide +kernel)⟩
set_option maxRecDepth 100000 in
theorem imX8_bit : Cond.instanceMethod yX8_bit ∈ ws0 := tb4 162 rfl rfl
set_option maxRecDepth 100000 in
theorem seX8_bit : Cond.selects (mY MX8_bit).cls (mY MX8_bit) (mY MX8_bit) ∈ ws0 := tb0 37 rfl rfl
set_option maxRecDepth 100000 in
theorem pdX8_powers : Cond.code (mY MX8_powers) (mC MX8_powers) (mN MX8_powers) (mR MX8_powers) ∈ ws0 ∧ Cond.initialized (mY MX8_powers).cls ∈ ws0 ∧ ((mY MX8_powers).cls ≠ "java/lang/invoke/MethodHandle" ∧ (mY MX8_powers).cls ≠ "java/lang/invoke/VarHandle") ∧ (parseMethodDescriptor (mY MX8_powers).desc).map (fun d => d.parameters.length) = some 3 := ⟨tb4 182 rfl rfl, iiX8, neX8, (by decide +kernel)⟩
set_option maxRecDepth 100000 in
theorem imX8_powers : Cond.instanceMethod yX8_powers ∈ ws0 := tb4 181 rfl rfl
set_option maxRecDepth 100000 in
theorem seX8_powers : Cond.selects (mY MX8_powers).cls (mY MX8_powers) (mY MX8_powers) ∈ ws0 := tb0 41 rfl rfl
set_option maxRecDepth 100000 in
theorem pdX8_byteAt : Cond.code (mY MX8_byteAt) (mC MX8_byteAt) (mN MX8_byteAt) (mR MX8_byteAt) ∈ ws0 ∧ Cond.initialized (mY MX8_byteAt).cls ∈ ws0 ∧ ((mY MX8_byteAt).cls ≠ "java/lang/invoke/MethodHandle" ∧ (mY MX8_byteAt).cls ≠ "java/lang/invoke/VarHandle") ∧ (parseMethodDescriptor (mY MX8_byteAt).desc).map (fun d => d.parameters.length) = some 3 := ⟨tb5 1 rfl rfl, iiX8, neX8, (by decide +kernel)⟩
set_option maxRecDepth 100000 in
theorem imX8_byteAt : Cond.instanceMethod yX8_byteAt ∈ ws0 := tb5 0 rfl rfl
set_option maxRecDepth 100000 in
theorem seX8_byteAt : Cond.selects (mY MX8_byteAt).cls (mY MX8_byteAt) (mY MX8_byteAt) ∈ ws0 := tb0 53 rfl rfl
set_option maxRecDepth 100000 in
theorem pdX8_byteTo : Cond.code (mY MX8_byteTo) (mC MX8_byteTo) (mN MX8_byteTo) (mR MX8_byteTo) ∈ ws0 ∧ Cond.initialized (mY MX8_byteTo).cls ∈ ws0 ∧ ((mY MX8_byteTo).cls ≠ "java/lang/invoke/MethodHandle" ∧ (mY MX8_byteTo).cls ≠ "java/lang/invoke/VarHandle") ∧ (parseMethodDescriptor (mY MX8_byteTo).desc).map (fun d => d.parameters.length) = some 4 := ⟨tb4 128 rfl rfl, iiX8, neX8, (by decide +kernel)⟩
set_option maxRecDepth 100000 in
theorem imX8_byteTo : Cond.instanceMethod yX8_byteTo ∈ ws0 := tb4 127 rfl rfl
set_option maxRecDepth 100000 in
theorem seX8_byteTo : Cond.selects (mY MX8_byteTo).cls (mY MX8_byteTo) (mY MX8_byteTo) ∈ ws0 := tb0 29 rfl rfl
set_option maxRecDepth 100000 in
theorem pdX8_padded : Cond.code (mY MX8_padded) (mC MX8_padded) (mN MX8_padded) (mR MX8_padded) ∈ ws0 ∧ Cond.initialized (mY MX8_padded).cls ∈ ws0 ∧ ((mY MX8_padded).cls ≠ "java/lang/invoke/MethodHandle" ∧ (mY MX8_padded).cls ≠ "java/lang/invoke/VarHandle") ∧ (parseMethodDescriptor (mY MX8_padded).desc).map (fun d => d.parameters.length) = some 2 := ⟨tb4 117 rfl rfl, iiX8, neX8, (by decide +kernel)⟩
set_option maxRecDepth 100000 in
theorem imX8_padded : Cond.instanceMethod yX8_padded ∈ ws0 := tb4 116 rfl rfl
set_option maxRecDepth 100000 in
theorem seX8_padded : Cond.selects (mY MX8_padded).cls (mY MX8_padded) (mY MX8_padded) ∈ ws0 := tb0 27 rfl rfl
set_option maxRecDepth 100000 in
theorem pdX8_turned : Cond.code (mY MX8_turned) (mC MX8_turned) (mN MX8_turned) (mR MX8_turned) ∈ ws0 ∧ Cond.initialized (mY MX8_turned).cls ∈ ws0 ∧ ((mY MX8_turned).cls ≠ "java/lang/invoke/MethodHandle" ∧ (mY MX8_turned).cls ≠ "java/lang/invoke/VarHandle") ∧ (parseMethodDescriptor (mY MX8_turned).desc).map (fun d => d.parameters.length) = some 2 := ⟨tb4 120 rfl rfl, iiX8, neX8, (by decide +kernel)⟩
set_option maxRecDepth 100000 in
theorem imX8_turned : Cond.static yX8_turned ∈ ws0 := tb4 119 rfl rfl
set_option maxRecDepth 100000 in
theorem pdX8_block : Cond.code (mY MX8_block) (mC MX8_block) (mN MX8_block) (mR MX8_block) ∈ ws0 ∧ Cond.initialized (mY MX8_block).cls ∈ ws0 ∧ ((mY MX8_block).cls ≠ "java/lang/invoke/MethodHandle" ∧ (mY MX8_block).cls ≠ "java/lang/invoke/VarHandle") ∧ (parseMethodDescriptor (mY MX8_block).desc).map (fun d => d.parameters.length) = some 2 := ⟨tb4 113 rfl rfl, iiX8, neX8, (by decide +kernel)⟩
set_option maxRecDepth 100000 in
theorem imX8_block : Cond.instanceMethod yX8_block ∈ ws0 := tb4 112 rfl rfl
set_option maxRecDepth 100000 in
theorem seX8_block : Cond.selects (mY MX8_block).cls (mY MX8_block) (mY MX8_block) ∈ ws0 := tb0 26 rfl rfl
set_option maxRecDepth 100000 in
theorem pdX8_hashes : Cond.code (mY MX8_hashes) (mC MX8_hashes) (mN MX8_hashes) (mR MX8_hashes) ∈ ws0 ∧ Cond.initialized (mY MX8_hashes).cls ∈ ws0 ∧ ((mY MX8_hashes).cls ≠ "java/lang/invoke/MethodHandle" ∧ (mY MX8_hashes).cls ≠ "java/lang/invoke/VarHandle") ∧ (parseMethodDescriptor (mY MX8_hashes).desc).map (fun d => d.parameters.length) = some 0 := ⟨tb4 109 rfl rfl, iiX8, neX8, (by decide +kernel)⟩
set_option maxRecDepth 100000 in
theorem imX8_hashes : Cond.instanceMethod yX8_hashes ∈ ws0 := tb4 108 rfl rfl
set_option maxRecDepth 100000 in
theorem seX8_hashes : Cond.selects (mY MX8_hashes).cls (mY MX8_hashes) (mY MX8_hashes) ∈ ws0 := tb0 25 rfl rfl
set_option maxRecDepth 100000 in
theorem pdX8_hashByte : Cond.code (mY MX8_hashByte) (mC MX8_hashByte) (mN MX8_hashByte) (mR MX8_hashByte) ∈ ws0 ∧ Cond.initialized (mY MX8_hashByte).cls ∈ ws0 ∧ ((mY MX8_hashByte).cls ≠ "java/lang/invoke/MethodHandle" ∧ (mY MX8_hashByte).cls ≠ "java/lang/invoke/VarHandle") ∧ (parseMethodDescriptor (mY MX8_hashByte).desc).map (fun d => d.parameters.length) = some 1 := ⟨tb4 124 rfl rfl, iiX8, neX8, (by decide +kernel)⟩
set_option maxRecDepth 100000 in
theorem imX8_hashByte : Cond.instanceMethod yX8_hashByte ∈ ws0 := tb4 123 rfl rfl
set_option maxRecDepth 100000 in
theorem seX8_hashByte : Cond.selects (mY MX8_hashByte).cls (mY MX8_hashByte) (mY MX8_hashByte) ∈ ws0 := tb0 28 rfl rfl
set_option maxRecDepth 100000 in
theorem pdX8_seed : Cond.code (mY MX8_seed) (mC MX8_seed) (mN MX8_seed) (mR MX8_seed) ∈ ws0 ∧ Cond.initialized (mY MX8_seed).cls ∈ ws0 ∧ ((mY MX8_seed).cls ≠ "java/lang/invoke/MethodHandle" ∧ (mY MX8_seed).cls ≠ "java/lang/invoke/VarHandle") ∧ (parseMethodDescriptor (mY MX8_seed).desc).map (fun d => d.parameters.length) = some 1 := ⟨tb4 82 rfl rfl, iiX8, neX8, (by decide +kernel)⟩
set_option maxRecDepth 100000 in
theorem imX8_seed : Cond.instanceMethod yX8_seed ∈ ws0 := tb4 80 rfl rfl
set_option maxRecDepth 100000 in
theorem seX8_seed : Cond.selects (mY MX8_seed).cls (mY MX8_seed) (mY MX8_seed) ∈ ws0 := tb4 81 rfl rfl
set_option maxRecDepth 100000 in
theorem pdX8_lay : Cond.code (mY MX8_lay) (mC MX8_lay) (mN MX8_lay) (mR MX8_lay) ∈ ws0 ∧ Cond.initialized (mY MX8_lay).cls ∈ ws0 ∧ ((mY MX8_lay).cls ≠ "java/lang/invoke/MethodHandle" ∧ (mY MX8_lay).cls ≠ "java/lang/invoke/VarHandle") ∧ (parseMethodDescriptor (mY MX8_lay).desc).map (fun d => d.parameters.length) = some 1 := ⟨tb4 105 rfl rfl, iiX8, neX8, (by decide +kernel)⟩
set_option maxRecDepth 100000 in
theorem imX8_lay : Cond.instanceMethod yX8_lay ∈ ws0 := tb4 104 rfl rfl
set_option maxRecDepth 100000 in
theorem seX8_lay : Cond.selects (mY MX8_lay).cls (mY MX8_lay) (mY MX8_lay) ∈ ws0 := tb0 24 rfl rfl
set_option maxRecDepth 100000 in
theorem pdX8_draws : Cond.code (mY MX8_draws) (mC MX8_draws) (mN MX8_draws) (mR MX8_draws) ∈ ws0 ∧ Cond.initialized (mY MX8_draws).cls ∈ ws0 ∧ ((mY MX8_draws).cls ≠ "java/lang/invoke/MethodHandle" ∧ (mY MX8_draws).cls ≠ "java/lang/invoke/VarHandle") ∧ (parseMethodDescriptor (mY MX8_draws).desc).map (fun d => d.parameters.length) = some 0 := ⟨tb4 101 rfl rfl, iiX8, neX8, (by decide +kernel)⟩
set_option maxRecDepth 100000 in
theorem imX8_draws : Cond.instanceMethod yX8_draws ∈ ws0 := tb4 100 rfl rfl
set_option maxRecDepth 100000 in
theorem seX8_draws : Cond.selects (mY MX8_draws).cls (mY MX8_draws) (mY MX8_draws) ∈ ws0 := tb0 23 rfl rfl
set_option maxRecDepth 100000 in
theorem pdX8_isDivided : Cond.code (mY MX8_isDivided) (mC MX8_isDivided) (mN MX8_isDivided) (mR MX8_isDivided) ∈ ws0 ∧ Cond.initialized (mY MX8_isDivided).cls ∈ ws0 ∧ ((mY MX8_isDivided).cls ≠ "java/lang/invoke/MethodHandle" ∧ (mY MX8_isDivided).cls ≠ "java/lang/invoke/VarHandle") ∧ (parseMethodDescriptor (mY MX8_isDivided).desc).map (fun d => d.parameters.length) = some 0 := ⟨tb4 137 rfl rfl, iiX8, neX8, (by decide +kernel)⟩
set_option maxRecDepth 100000 in
theorem imX8_isDivided : Cond.instanceMethod yX8_isDivided ∈ ws0 := tb4 136 rfl rfl
set_option maxRecDepth 100000 in
theorem seX8_isDivided : Cond.selects (mY MX8_isDivided).cls (mY MX8_isDivided) (mY MX8_isDivided) ∈ ws0 := tb0 31 rfl rfl
set_option maxRecDepth 100000 in
theorem pdX8_base : Cond.code (mY MX8_base) (mC MX8_base) (mN MX8_base) (mR MX8_base) ∈ ws0 ∧ Cond.initialized (mY MX8_base).cls ∈ ws0 ∧ ((mY MX8_base).cls ≠ "java/lang/invoke/MethodHandle" ∧ (mY MX8_base).cls ≠ "java/lang/invoke/VarHandle") ∧ (parseMethodDescriptor (mY MX8_base).desc).map (fun d => d.parameters.length) = some 1 := ⟨tb4 170 rfl rfl, iiX8, neX8, (by decide +kernel)⟩
set_option maxRecDepth 100000 in
theorem imX8_base : Cond.static yX8_base ∈ ws0 := tb4 169 rfl rfl
set_option maxRecDepth 100000 in
theorem pdX8_passesBy : Cond.code (mY MX8_passesBy) (mC MX8_passesBy) (mN MX8_passesBy) (mR MX8_passesBy) ∈ ws0 ∧ Cond.initialized (mY MX8_passesBy).cls ∈ ws0 ∧ ((mY MX8_passesBy).cls ≠ "java/lang/invoke/MethodHandle" ∧ (mY MX8_passesBy).cls ≠ "java/lang/invoke/VarHandle") ∧ (parseMethodDescriptor (mY MX8_passesBy).desc).map (fun d => d.parameters.length) = some 2 := ⟨tb4 174 rfl rfl, iiX8, neX8, (by decide +kernel)⟩
set_option maxRecDepth 100000 in
theorem imX8_passesBy : Cond.instanceMethod yX8_passesBy ∈ ws0 := tb4 173 rfl rfl
set_option maxRecDepth 100000 in
theorem seX8_passesBy : Cond.selects (mY MX8_passesBy).cls (mY MX8_passesBy) (mY MX8_passesBy) ∈ ws0 := tb0 39 rfl rfl
set_option maxRecDepth 100000 in
theorem pdX8_passes : Cond.code (mY MX8_passes) (mC MX8_passes) (mN MX8_passes) (mR MX8_passes) ∈ ws0 ∧ Cond.initialized (mY MX8_passes).cls ∈ ws0 ∧ ((mY MX8_passes).cls ≠ "java/lang/invoke/MethodHandle" ∧ (mY MX8_passes).cls ≠ "java/lang/invoke/VarHandle") ∧ (parseMethodDescriptor (mY MX8_passes).desc).map (fun d => d.parameters.length) = some 0 := ⟨tb4 150 rfl rfl, iiX8, neX8, (by decide +kernel)⟩
set_option maxRecDepth 100000 in
theorem imX8_passes : Cond.instanceMethod yX8_passes ∈ ws0 := tb4 149 rfl rfl
set_option maxRecDepth 100000 in
theorem seX8_passes : Cond.selects (mY MX8_passes).cls (mY MX8_passes) (mY MX8_passes) ∈ ws0 := tb0 34 rfl rfl
set_option maxRecDepth 100000 in
theorem pdX8_isGood : Cond.code (mY MX8_isGood) (mC MX8_isGood) (mN MX8_isGood) (mR MX8_isGood) ∈ ws0 ∧ Cond.initialized (mY MX8_isGood).cls ∈ ws0 ∧ ((mY MX8_isGood).cls ≠ "java/lang/invoke/MethodHandle" ∧ (mY MX8_isGood).cls ≠ "java/lang/invoke/VarHandle") ∧ (parseMethodDescriptor (mY MX8_isGood).desc).map (fun d => d.parameters.length) = some 0 := ⟨tb4 133 rfl rfl, iiX8, neX8, (by decide +kernel)⟩
set_option maxRecDepth 100000 in
theorem imX8_isGood : Cond.instanceMethod yX8_isGood ∈ ws0 := tb4 132 rfl rfl
set_option maxRecDepth 100000 in
theorem seX8_isGood : Cond.selects (mY MX8_isGood).cls (mY MX8_isGood) (mY MX8_isGood) ∈ ws0 := tb0 30 rfl rfl
set_option maxRecDepth 100000 in
theorem pdX8_inverse : Cond.code (mY MX8_inverse) (mC MX8_inverse) (mN MX8_inverse) (mR MX8_inverse) ∈ ws0 ∧ Cond.initialized (mY MX8_inverse).cls ∈ ws0 ∧ ((mY MX8_inverse).cls ≠ "java/lang/invoke/MethodHandle" ∧ (mY MX8_inverse).cls ≠ "java/lang/invoke/VarHandle") ∧ (parseMethodDescriptor (mY MX8_inverse).desc).map (fun d => d.parameters.length) = some 2 := ⟨tb4 216 rfl rfl, iiX8, neX8, (by decide +kernel)⟩
set_option maxRecDepth 100000 in
theorem imX8_inverse : Cond.instanceMethod yX8_inverse ∈ ws0 := tb4 215 rfl rfl
set_option maxRecDepth 100000 in
theorem seX8_inverse : Cond.selects (mY MX8_inverse).cls (mY MX8_inverse) (mY MX8_inverse) ∈ ws0 := tb0 49 rfl rfl
set_option maxRecDepth 100000 in
theorem pdX8_makesKey : Cond.code (mY MX8_makesKey) (mC MX8_makesKey) (mN MX8_makesKey) (mR MX8_makesKey) ∈ ws0 ∧ Cond.initialized (mY MX8_makesKey).cls ∈ ws0 ∧ ((mY MX8_makesKey).cls ≠ "java/lang/invoke/MethodHandle" ∧ (mY MX8_makesKey).cls ≠ "java/lang/invoke/VarHandle") ∧ (parseMethodDescriptor (mY MX8_makesKey).desc).map (fun d => d.parameters.length) = some 0 := ⟨tb4 212 rfl rfl, iiX8, neX8, (by decide +kernel)⟩
set_option maxRecDepth 100000 in
theorem imX8_makesKey : Cond.instanceMethod yX8_makesKey ∈ ws0 := tb4 211 rfl rfl
set_option maxRecDepth 100000 in
theorem seX8_makesKey : Cond.selects (mY MX8_makesKey).cls (mY MX8_makesKey) (mY MX8_makesKey) ∈ ws0 := tb0 48 rfl rfl
set_option maxRecDepth 100000 in
theorem pdX8_examines : Cond.code (mY MX8_examines) (mC MX8_examines) (mN MX8_examines) (mR MX8_examines) ∈ ws0 ∧ Cond.initialized (mY MX8_examines).cls ∈ ws0 ∧ ((mY MX8_examines).cls ≠ "java/lang/invoke/MethodHandle" ∧ (mY MX8_examines).cls ≠ "java/lang/invoke/VarHandle") ∧ (parseMethodDescriptor (mY MX8_examines).desc).map (fun d => d.parameters.length) = some 0 := ⟨tb4 93 rfl rfl, iiX8, neX8, (by decide +kernel)⟩
set_option maxRecDepth 100000 in
theorem imX8_examines : Cond.instanceMethod yX8_examines ∈ ws0 := tb4 92 rfl rfl
set_option maxRecDepth 100000 in
theorem seX8_examines : Cond.selects (mY MX8_examines).cls (mY MX8_examines) (mY MX8_examines) ∈ ws0 := tb0 21 rfl rfl
set_option maxRecDepth 100000 in
theorem pdX8_search : Cond.code (mY MX8_search) (mC MX8_search) (mN MX8_search) (mR MX8_search) ∈ ws0 ∧ Cond.initialized (mY MX8_search).cls ∈ ws0 ∧ ((mY MX8_search).cls ≠ "java/lang/invoke/MethodHandle" ∧ (mY MX8_search).cls ≠ "java/lang/invoke/VarHandle") ∧ (parseMethodDescriptor (mY MX8_search).desc).map (fun d => d.parameters.length) = some 1 := ⟨tb4 86 rfl rfl, iiX8, neX8, (by decide +kernel)⟩
set_option maxRecDepth 100000 in
theorem imX8_search : Cond.instanceMethod yX8_search ∈ ws0 := tb4 84 rfl rfl
set_option maxRecDepth 100000 in
theorem seX8_search : Cond.selects (mY MX8_search).cls (mY MX8_search) (mY MX8_search) ∈ ws0 := tb4 85 rfl rfl
set_option maxRecDepth 100000 in
theorem pdX8_forget : Cond.code (mY MX8_forget) (mC MX8_forget) (mN MX8_forget) (mR MX8_forget) ∈ ws0 ∧ Cond.initialized (mY MX8_forget).cls ∈ ws0 ∧ ((mY MX8_forget).cls ≠ "java/lang/invoke/MethodHandle" ∧ (mY MX8_forget).cls ≠ "java/lang/invoke/VarHandle") ∧ (parseMethodDescriptor (mY MX8_forget).desc).map (fun d => d.parameters.length) = some 0 := ⟨tb4 229 rfl rfl, iiX8, neX8, (by decide +kernel)⟩
set_option maxRecDepth 100000 in
theorem imX8_forget : Cond.instanceMethod yX8_forget ∈ ws0 := tb4 227 rfl rfl
set_option maxRecDepth 100000 in
theorem seX8_forget : Cond.selects (mY MX8_forget).cls (mY MX8_forget) (mY MX8_forget) ∈ ws0 := tb4 228 rfl rfl
set_option maxRecDepth 100000 in
theorem pdX8_sizeOf : Cond.code (mY MX8_sizeOf) (mC MX8_sizeOf) (mN MX8_sizeOf) (mR MX8_sizeOf) ∈ ws0 ∧ Cond.initialized (mY MX8_sizeOf).cls ∈ ws0 ∧ ((mY MX8_sizeOf).cls ≠ "java/lang/invoke/MethodHandle" ∧ (mY MX8_sizeOf).cls ≠ "java/lang/invoke/VarHandle") ∧ (parseMethodDescriptor (mY MX8_sizeOf).desc).map (fun d => d.parameters.length) = some 1 := ⟨tb4 237 rfl rfl, iiX8, neX8, (by decide +kernel)⟩
set_option maxRecDepth 100000 in
theorem imX8_sizeOf : Cond.instanceMethod yX8_sizeOf ∈ ws0 := tb4 236 rfl rfl
set_option maxRecDepth 100000 in
theorem seX8_sizeOf : Cond.selects (mY MX8_sizeOf).cls (mY MX8_sizeOf) (mY MX8_sizeOf) ∈ ws0 := tb0 52 rfl rfl
set_option maxRecDepth 100000 in
theorem pdX8_key : Cond.code (mY MX8_key) (mC MX8_key) (mN MX8_key) (mR MX8_key) ∈ ws0 ∧ Cond.initialized (mY MX8_key).cls ∈ ws0 ∧ ((mY MX8_key).cls ≠ "java/lang/invoke/MethodHandle" ∧ (mY MX8_key).cls ≠ "java/lang/invoke/VarHandle") ∧ (parseMethodDescriptor (mY MX8_key).desc).map (fun d => d.parameters.length) = some 2 := ⟨tb4 233 rfl rfl, iiX8, neX8, (by decide +kernel)⟩
set_option maxRecDepth 100000 in
theorem imX8_key : Cond.instanceMethod yX8_key ∈ ws0 := tb4 231 rfl rfl
set_option maxRecDepth 100000 in
theorem seX8_key : Cond.selects (mY MX8_key).cls (mY MX8_key) (mY MX8_key) ∈ ws0 := tb4 232 rfl rfl
set_option maxRecDepth 100000 in
theorem pdX8_count : Cond.code (mY MX8_count) (mC MX8_count) (mN MX8_count) (mR MX8_count) ∈ ws0 ∧ Cond.initialized (mY MX8_count).cls ∈ ws0 ∧ ((mY MX8_count).cls ≠ "java/lang/invoke/MethodHandle" ∧ (mY MX8_count).cls ≠ "java/lang/invoke/VarHandle") ∧ (parseMethodDescriptor (mY MX8_count).desc).map (fun d => d.parameters.length) = some 1 := ⟨tb5 5 rfl rfl, iiX8, neX8, (by decide +kernel)⟩
set_option maxRecDepth 100000 in
theorem imX8_count : Cond.instanceMethod yX8_count ∈ ws0 := tb5 3 rfl rfl
set_option maxRecDepth 100000 in
theorem seX8_count : Cond.selects (mY MX8_count).cls (mY MX8_count) (mY MX8_count) ∈ ws0 := tb5 4 rfl rfl
set_option maxRecDepth 100000 in
theorem pdX8_feed : Cond.code (mY MX8_feed) (mC MX8_feed) (mN MX8_feed) (mR MX8_feed) ∈ ws0 ∧ Cond.initialized (mY MX8_feed).cls ∈ ws0 ∧ ((mY MX8_feed).cls ≠ "java/lang/invoke/MethodHandle" ∧ (mY MX8_feed).cls ≠ "java/lang/invoke/VarHandle") ∧ (parseMethodDescriptor (mY MX8_feed).desc).map (fun d => d.parameters.length) = some 2 := ⟨tb5 9 rfl rfl, iiX8, neX8, (by decide +kernel)⟩
set_option maxRecDepth 100000 in
theorem imX8_feed : Cond.instanceMethod yX8_feed ∈ ws0 := tb5 7 rfl rfl
set_option maxRecDepth 100000 in
theorem seX8_feed : Cond.selects (mY MX8_feed).cls (mY MX8_feed) (mY MX8_feed) ∈ ws0 := tb5 8 rfl rfl
set_option maxRecDepth 100000 in
theorem pdX8_cut : Cond.code (mY MX8_cut) (mC MX8_cut) (mN MX8_cut) (mR MX8_cut) ∈ ws0 ∧ Cond.initialized (mY MX8_cut).cls ∈ ws0 ∧ ((mY MX8_cut).cls ≠ "java/lang/invoke/MethodHandle" ∧ (mY MX8_cut).cls ≠ "java/lang/invoke/VarHandle") ∧ (parseMethodDescriptor (mY MX8_cut).desc).map (fun d => d.parameters.length) = some 1 := ⟨tb5 13 rfl rfl, iiX8, neX8, (by decide +kernel)⟩
set_option maxRecDepth 100000 in
theorem imX8_cut : Cond.instanceMethod yX8_cut ∈ ws0 := tb5 11 rfl rfl
set_option maxRecDepth 100000 in
theorem seX8_cut : Cond.selects (mY MX8_cut).cls (mY MX8_cut) (mY MX8_cut) ∈ ws0 := tb5 12 rfl rfl
set_option maxRecDepth 100000 in
theorem pdX8_hashesMessage : Cond.code (mY MX8_hashesMessage) (mC MX8_hashesMessage) (mN MX8_hashesMessage) (mR MX8_hashesMessage) ∈ ws0 ∧ Cond.initialized (mY MX8_hashesMessage).cls ∈ ws0 ∧ ((mY MX8_hashesMessage).cls ≠ "java/lang/invoke/MethodHandle" ∧ (mY MX8_hashesMessage).cls ≠ "java/lang/invoke/VarHandle") ∧ (parseMethodDescriptor (mY MX8_hashesMessage).desc).map (fun d => d.parameters.length) = some 0 := ⟨tb5 21 rfl rfl, iiX8, neX8, (by decide +kernel)⟩
set_option maxRecDepth 100000 in
theorem imX8_hashesMessage : Cond.instanceMethod yX8_hashesMessage ∈ ws0 := tb5 20 rfl rfl
set_option maxRecDepth 100000 in
theorem seX8_hashesMessage : Cond.selects (mY MX8_hashesMessage).cls (mY MX8_hashesMessage) (mY MX8_hashesMessage) ∈ ws0 := tb0 54 rfl rfl
set_option maxRecDepth 100000 in
theorem pdX8_hash : Cond.code (mY MX8_hash) (mC MX8_hash) (mN MX8_hash) (mR MX8_hash) ∈ ws0 ∧ Cond.initialized (mY MX8_hash).cls ∈ ws0 ∧ ((mY MX8_hash).cls ≠ "java/lang/invoke/MethodHandle" ∧ (mY MX8_hash).cls ≠ "java/lang/invoke/VarHandle") ∧ (parseMethodDescriptor (mY MX8_hash).desc).map (fun d => d.parameters.length) = some 1 := ⟨tb5 17 rfl rfl, iiX8, neX8, (by decide +kernel)⟩
set_option maxRecDepth 100000 in
theorem imX8_hash : Cond.instanceMethod yX8_hash ∈ ws0 := tb5 15 rfl rfl
set_option maxRecDepth 100000 in
theorem seX8_hash : Cond.selects (mY MX8_hash).cls (mY MX8_hash) (mY MX8_hash) ∈ ws0 := tb5 16 rfl rfl
set_option maxRecDepth 100000 in
theorem pdX8_encodes : Cond.code (mY MX8_encodes) (mC MX8_encodes) (mN MX8_encodes) (mR MX8_encodes) ∈ ws0 ∧ Cond.initialized (mY MX8_encodes).cls ∈ ws0 ∧ ((mY MX8_encodes).cls ≠ "java/lang/invoke/MethodHandle" ∧ (mY MX8_encodes).cls ≠ "java/lang/invoke/VarHandle") ∧ (parseMethodDescriptor (mY MX8_encodes).desc).map (fun d => d.parameters.length) = some 0 := ⟨tb5 29 rfl rfl, iiX8, neX8, (by decide +kernel)⟩
set_option maxRecDepth 100000 in
theorem imX8_encodes : Cond.instanceMethod yX8_encodes ∈ ws0 := tb5 28 rfl rfl
set_option maxRecDepth 100000 in
theorem seX8_encodes : Cond.selects (mY MX8_encodes).cls (mY MX8_encodes) (mY MX8_encodes) ∈ ws0 := tb0 55 rfl rfl
set_option maxRecDepth 100000 in
theorem pdX8_encoded : Cond.code (mY MX8_encoded) (mC MX8_encoded) (mN MX8_encoded) (mR MX8_encoded) ∈ ws0 ∧ Cond.initialized (mY MX8_encoded).cls ∈ ws0 ∧ ((mY MX8_encoded).cls ≠ "java/lang/invoke/MethodHandle" ∧ (mY MX8_encoded).cls ≠ "java/lang/invoke/VarHandle") ∧ (parseMethodDescriptor (mY MX8_encoded).desc).map (fun d => d.parameters.length) = some 1 := ⟨tb5 25 rfl rfl, iiX8, neX8, (by decide +kernel)⟩
set_option maxRecDepth 100000 in
theorem imX8_encoded : Cond.instanceMethod yX8_encoded ∈ ws0 := tb5 23 rfl rfl
set_option maxRecDepth 100000 in
theorem seX8_encoded : Cond.selects (mY MX8_encoded).cls (mY MX8_encoded) (mY MX8_encoded) ∈ ws0 := tb5 24 rfl rfl
set_option maxRecDepth 100000 in
theorem pdX8_sign : Cond.code (mY MX8_sign) (mC MX8_sign) (mN MX8_sign) (mR MX8_sign) ∈ ws0 ∧ Cond.initialized (mY MX8_sign).cls ∈ ws0 ∧ ((mY MX8_sign).cls ≠ "java/lang/invoke/MethodHandle" ∧ (mY MX8_sign).cls ≠ "java/lang/invoke/VarHandle") ∧ (parseMethodDescriptor (mY MX8_sign).desc).map (fun d => d.parameters.length) = some 0 := ⟨tb5 33 rfl rfl, iiX8, neX8, (by decide +kernel)⟩
set_option maxRecDepth 100000 in
theorem imX8_sign : Cond.instanceMethod yX8_sign ∈ ws0 := tb5 31 rfl rfl
set_option maxRecDepth 100000 in
theorem seX8_sign : Cond.selects (mY MX8_sign).cls (mY MX8_sign) (mY MX8_sign) ∈ ws0 := tb5 32 rfl rfl
set_option maxRecDepth 100000 in
theorem pdX8_exponentE : Cond.code (mY MX8_exponentE) (mC MX8_exponentE) (mN MX8_exponentE) (mR MX8_exponentE) ∈ ws0 ∧ Cond.initialized (mY MX8_exponentE).cls ∈ ws0 ∧ ((mY MX8_exponentE).cls ≠ "java/lang/invoke/MethodHandle" ∧ (mY MX8_exponentE).cls ≠ "java/lang/invoke/VarHandle") ∧ (parseMethodDescriptor (mY MX8_exponentE).desc).map (fun d => d.parameters.length) = some 0 := ⟨tb5 49 rfl rfl, iiX8, neX8, (by decide +kernel)⟩
set_option maxRecDepth 100000 in
theorem imX8_exponentE : Cond.instanceMethod yX8_exponentE ∈ ws0 := tb5 48 rfl rfl
set_option maxRecDepth 100000 in
theorem seX8_exponentE : Cond.selects (mY MX8_exponentE).cls (mY MX8_exponentE) (mY MX8_exponentE) ∈ ws0 := tb0 58 rfl rfl
set_option maxRecDepth 100000 in
theorem pdX8_verify : Cond.code (mY MX8_verify) (mC MX8_verify) (mN MX8_verify) (mR MX8_verify) ∈ ws0 ∧ Cond.initialized (mY MX8_verify).cls ∈ ws0 ∧ ((mY MX8_verify).cls ≠ "java/lang/invoke/MethodHandle" ∧ (mY MX8_verify).cls ≠ "java/lang/invoke/VarHandle") ∧ (parseMethodDescriptor (mY MX8_verify).desc).map (fun d => d.parameters.length) = some 0 := ⟨tb5 45 rfl rfl, iiX8, neX8, (by decide +kernel)⟩
set_option maxRecDepth 100000 in
theorem imX8_verify : Cond.instanceMethod yX8_verify ∈ ws0 := tb5 43 rfl rfl
set_option maxRecDepth 100000 in
theorem seX8_verify : Cond.selects (mY MX8_verify).cls (mY MX8_verify) (mY MX8_verify) ∈ ws0 := tb5 44 rfl rfl
set_option maxRecDepth 100000 in
theorem pdX8_power : Cond.code (mY MX8_power) (mC MX8_power) (mN MX8_power) (mR MX8_power) ∈ ws0 ∧ Cond.initialized (mY MX8_power).cls ∈ ws0 ∧ ((mY MX8_power).cls ≠ "java/lang/invoke/MethodHandle" ∧ (mY MX8_power).cls ≠ "java/lang/invoke/VarHandle") ∧ (parseMethodDescriptor (mY MX8_power).desc).map (fun d => d.parameters.length) = some 1 := ⟨tb5 53 rfl rfl, iiX8, neX8, (by decide +kernel)⟩
set_option maxRecDepth 100000 in
theorem imX8_power : Cond.instanceMethod yX8_power ∈ ws0 := tb5 51 rfl rfl
set_option maxRecDepth 100000 in
theorem seX8_power : Cond.selects (mY MX8_power).cls (mY MX8_power) (mY MX8_power) ∈ ws0 := tb5 52 rfl rfl
set_option maxRecDepth 100000 in
theorem pdX8_encode : Cond.code (mY MX8_encode) (mC MX8_encode) (mN MX8_encode) (mR MX8_encode) ∈ ws0 ∧ Cond.initialized (mY MX8_encode).cls ∈ ws0 ∧ ((mY MX8_encode).cls ≠ "java/lang/invoke/MethodHandle" ∧ (mY MX8_encode).cls ≠ "java/lang/invoke/VarHandle") ∧ (parseMethodDescriptor (mY MX8_encode).desc).map (fun d => d.parameters.length) = some 0 := ⟨tb5 57 rfl rfl, iiX8, neX8, (by decide +kernel)⟩
set_option maxRecDepth 100000 in
theorem imX8_encode : Cond.instanceMethod yX8_encode ∈ ws0 := tb5 55 rfl rfl
set_option maxRecDepth 100000 in
theorem seX8_encode : Cond.selects (mY MX8_encode).cls (mY MX8_encode) (mY MX8_encode) ∈ ws0 := tb5 56 rfl rfl
set_option maxRecDepth 100000 in
theorem pdX8_set : Cond.code (mY MX8_set) (mC MX8_set) (mN MX8_set) (mR MX8_set) ∈ ws0 ∧ Cond.initialized (mY MX8_set).cls ∈ ws0 ∧ ((mY MX8_set).cls ≠ "java/lang/invoke/MethodHandle" ∧ (mY MX8_set).cls ≠ "java/lang/invoke/VarHandle") ∧ (parseMethodDescriptor (mY MX8_set).desc).map (fun d => d.parameters.length) = some 2 := ⟨tb5 61 rfl rfl, iiX8, neX8, (by decide +kernel)⟩
set_option maxRecDepth 100000 in
theorem imX8_set : Cond.instanceMethod yX8_set ∈ ws0 := tb5 59 rfl rfl
set_option maxRecDepth 100000 in
theorem seX8_set : Cond.selects (mY MX8_set).cls (mY MX8_set) (mY MX8_set) ∈ ws0 := tb5 60 rfl rfl
set_option maxRecDepth 100000 in
theorem pdX8_get : Cond.code (mY MX8_get) (mC MX8_get) (mN MX8_get) (mR MX8_get) ∈ ws0 ∧ Cond.initialized (mY MX8_get).cls ∈ ws0 ∧ ((mY MX8_get).cls ≠ "java/lang/invoke/MethodHandle" ∧ (mY MX8_get).cls ≠ "java/lang/invoke/VarHandle") ∧ (parseMethodDescriptor (mY MX8_get).desc).map (fun d => d.parameters.length) = some 1 := ⟨tb5 65 rfl rfl, iiX8, neX8, (by decide +kernel)⟩
set_option maxRecDepth 100000 in
theorem imX8_get : Cond.instanceMethod yX8_get ∈ ws0 := tb5 63 rfl rfl
set_option maxRecDepth 100000 in
theorem seX8_get : Cond.selects (mY MX8_get).cls (mY MX8_get) (mY MX8_get) ∈ ws0 := tb5 64 rfl rfl
set_option maxRecDepth 100000 in
theorem pdX8_mixed : Cond.code (mY MX8_mixed) (mC MX8_mixed) (mN MX8_mixed) (mR MX8_mixed) ∈ ws0 ∧ Cond.initialized (mY MX8_mixed).cls ∈ ws0 ∧ ((mY MX8_mixed).cls ≠ "java/lang/invoke/MethodHandle" ∧ (mY MX8_mixed).cls ≠ "java/lang/invoke/VarHandle") ∧ (parseMethodDescriptor (mY MX8_mixed).desc).map (fun d => d.parameters.length) = some 3 := ⟨tb5 74 rfl rfl, iiX8, neX8, (by decide +kernel)⟩
set_option maxRecDepth 100000 in
theorem imX8_mixed : Cond.instanceMethod yX8_mixed ∈ ws0 := tb5 73 rfl rfl
set_option maxRecDepth 100000 in
theorem seX8_mixed : Cond.selects (mY MX8_mixed).cls (mY MX8_mixed) (mY MX8_mixed) ∈ ws0 := tb0 59 rfl rfl
set_option maxRecDepth 100000 in
theorem pdX8_digest : Cond.code (mY MX8_digest) (mC MX8_digest) (mN MX8_digest) (mR MX8_digest) ∈ ws0 ∧ Cond.initialized (mY MX8_digest).cls ∈ ws0 ∧ ((mY MX8_digest).cls ≠ "java/lang/invoke/MethodHandle" ∧ (mY MX8_digest).cls ≠ "java/lang/invoke/VarHandle") ∧ (parseMethodDescriptor (mY MX8_digest).desc).map (fun d => d.parameters.length) = some 0 := ⟨tb5 69 rfl rfl, iiX8, neX8, (by decide +kernel)⟩
set_option maxRecDepth 100000 in
theorem imX8_digest : Cond.instanceMethod yX8_digest ∈ ws0 := tb5 67 rfl rfl
set_option maxRecDepth 100000 in
theorem seX8_digest : Cond.selects (mY MX8_digest).cls (mY MX8_digest) (mY MX8_digest) ∈ ws0 := tb5 68 rfl rfl
set_option maxRecDepth 100000 in
theorem pdJ6_numberOfLeadingZeros_0f7a4 : Cond.code (mY MJ6_numberOfLeadingZeros_0f7a4) (mC MJ6_numberOfLeadingZeros_0f7a4) (mN MJ6_numberOfLeadingZeros_0f7a4) (mR MJ6_numberOfLeadingZeros_0f7a4) ∈ ws0 ∧ Cond.initialized (mY MJ6_numberOfLeadingZeros_0f7a4).cls ∈ ws0 ∧ ((mY MJ6_numberOfLeadingZeros_0f7a4).cls ≠ "java/lang/invoke/MethodHandle" ∧ (mY MJ6_numberOfLeadingZeros_0f7a4).cls ≠ "java/lang/invoke/VarHandle") ∧ (parseMethodDescriptor (mY MJ6_numberOfLeadingZeros_0f7a4).desc).map (fun d => d.parameters.length) = some 1 := ⟨tb2 198 rfl rfl, iiJ6, neJ6, (by decide +kernel)⟩
set_option maxRecDepth 100000 in
theorem imJ6_numberOfLeadingZeros_0f7a4 : Cond.static yJ6_numberOfLeadingZeros_0f7a4 ∈ ws0 := tb2 197 rfl rfl
set_option maxRecDepth 100000 in
theorem pdJ6_rotateRight_7cf53 : Cond.code (mY MJ6_rotateRight_7cf53) (mC MJ6_rotateRight_7cf53) (mN MJ6_rotateRight_7cf53) (mR MJ6_rotateRight_7cf53) ∈ ws0 ∧ Cond.initialized (mY MJ6_rotateRight_7cf53).cls ∈ ws0 ∧ ((mY MJ6_rotateRight_7cf53).cls ≠ "java/lang/invoke/MethodHandle" ∧ (mY MJ6_rotateRight_7cf53).cls ≠ "java/lang/invoke/VarHandle") ∧ (parseMethodDescriptor (mY MJ6_rotateRight_7cf53).desc).map (fun d => d.parameters.length) = some 2 := ⟨tb2 0 rfl rfl, iiJ6, neJ6, (by decide +kernel)⟩
set_option maxRecDepth 100000 in
theorem imJ6_rotateRight_7cf53 : Cond.static yJ6_rotateRight_7cf53 ∈ ws0 := tb1 239 rfl rfl
set_option maxRecDepth 100000 in
theorem pdJ13_numberOfLeadingZeros_95d88 : Cond.code (mY MJ13_numberOfLeadingZeros_95d88) (mC MJ13_numberOfLeadingZeros_95d88) (mN MJ13_numberOfLeadingZeros_95d88) (mR MJ13_numberOfLeadingZeros_95d88) ∈ ws0 ∧ Cond.initialized (mY MJ13_numberOfLeadingZeros_95d88).cls ∈ ws0 ∧ ((mY MJ13_numberOfLeadingZeros_95d88).cls ≠ "java/lang/invoke/MethodHandle" ∧ (mY MJ13_numberOfLeadingZeros_95d88).cls ≠ "java/lang/invoke/VarHandle") ∧ (parseMethodDescriptor (mY MJ13_numberOfLeadingZeros_95d88).desc).map (fun d => d.parameters.length) = some 1 := ⟨tb2 195 rfl rfl, iiJ13, neJ13, (by decide +kernel)⟩
set_option maxRecDepth 100000 in
theorem imJ13_numberOfLeadingZeros_95d88 : Cond.static yJ13_numberOfLeadingZeros_95d88 ∈ ws0 := tb2 194 rfl rfl
set_option maxRecDepth 100000 in
theorem pdJ9_max_7cf53 : Cond.code (mY MJ9_max_7cf53) (mC MJ9_max_7cf53) (mN MJ9_max_7cf53) (mR MJ9_max_7cf53) ∈ ws0 ∧ Cond.initialized (mY MJ9_max_7cf53).cls ∈ ws0 ∧ ((mY MJ9_max_7cf53).cls ≠ "java/lang/invoke/MethodHandle" ∧ (mY MJ9_max_7cf53).cls ≠ "java/lang/invoke/VarHandle") ∧ (parseMethodDescriptor (mY MJ9_max_7cf53).desc).map (fun d => d.parameters.length) = some 2 := ⟨tb1 28 rfl rfl, iiJ9, neJ9, (by decide +kernel)⟩
set_option maxRecDepth 100000 in
theorem imJ9_max_7cf53 : Cond.static yJ9_max_7cf53 ∈ ws0 := tb1 27 rfl rfl
set_option maxRecDepth 100000 in
theorem pdJ9_min_7cf53 : Cond.code (mY MJ9_min_7cf53) (mC MJ9_min_7cf53) (mN MJ9_min_7cf53) (mR MJ9_min_7cf53) ∈ ws0 ∧ Cond.initialized (mY MJ9_min_7cf53).cls ∈ ws0 ∧ ((mY MJ9_min_7cf53).cls ≠ "java/lang/invoke/MethodHandle" ∧ (mY MJ9_min_7cf53).cls ≠ "java/lang/invoke/VarHandle") ∧ (parseMethodDescriptor (mY MJ9_min_7cf53).desc).map (fun d => d.parameters.length) = some 2 := ⟨tb1 25 rfl rfl, iiJ9, neJ9, (by decide +kernel)⟩
set_option maxRecDepth 100000 in
theorem imJ9_min_7cf53 : Cond.static yJ9_min_7cf53 ∈ ws0 := tb1 24 rfl rfl
set_option maxRecDepth 100000 in
theorem pdJ7_fill_d0a16 : Cond.code (mY MJ7_fill_d0a16) (mC MJ7_fill_d0a16) (mN MJ7_fill_d0a16) (mR MJ7_fill_d0a16) ∈ ws0 ∧ Cond.initialized (mY MJ7_fill_d0a16).cls ∈ ws0 ∧ ((mY MJ7_fill_d0a16).cls ≠ "java/lang/invoke/MethodHandle" ∧ (mY MJ7_fill_d0a16).cls ≠ "java/lang/invoke/VarHandle") ∧ (parseMethodDescriptor (mY MJ7_fill_d0a16).desc).map (fun d => d.parameters.length) = some 2 := ⟨tb2 181 rfl rfl, iiJ7, neJ7, (by decide +kernel)⟩
set_option maxRecDepth 100000 in
theorem imJ7_fill_d0a16 : Cond.static yJ7_fill_d0a16 ∈ ws0 := tb2 180 rfl rfl
set_option maxRecDepth 100000 in
theorem pdL_cell : Cond.code (mY ML_cell) (mC ML_cell) (mN ML_cell) (mR ML_cell) ∈ ws0 ∧ Cond.initialized (mY ML_cell).cls ∈ ws0 ∧ ((mY ML_cell).cls ≠ "java/lang/invoke/MethodHandle" ∧ (mY ML_cell).cls ≠ "java/lang/invoke/VarHandle") ∧ (parseMethodDescriptor (mY ML_cell).desc).map (fun d => d.parameters.length) = some 2 := ⟨tb3 170 rfl rfl, iiL, neL, (by decide +kernel)⟩
set_option maxRecDepth 100000 in
theorem imL_cell : Cond.static yL_cell ∈ ws0 := tb3 169 rfl rfl
