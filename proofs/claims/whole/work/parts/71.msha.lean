/-! SignHouseModel: SHA-256 -/
def bI (d : Nat → Nat) : Nat → Int32 := fun i => nI (d i)
abbrev mdS (A B : Value) (n : Nat) (rs : List Value) : ab_C := aO 7 (.ref 75 :: A :: B :: .ref 76 :: .int (nI n) :: .ref 77 :: .ref 78 :: .ref 79 :: .ref 80 :: .ref 81 :: rs)
theorem rot_sh : ∀ n, n < 32 → (nI (32 - n) &&& 31) = (-(nI n) &&& 31) := by decide +kernel
set_option maxRecDepth 100000 in
set_option maxHeartbeats 4000000 in
theorem c_turned {g : ab_G} {N n : Nat} {x : Int32} {w : ab_W} (hn : n < 32) : ab_Ct MX8_turned g [.int x, .int (nI n)] N w (rp (some (.int (rotr x (nI n)))) N w) := by
  refine ab_Ct.of (by decide +kernel) (Nat.le_of_ble_eq_true rfl) (by rintro _ _ _ ⟨rfl, rfl, rfl⟩; trivial) ?_
  show ab_St MX8_turned g 0 0 0 [(0, .int x), (1, .int (nI n))] [] _ _ _
  refine r_iload_n dX8_turned_0 rfl ?_
  refine r_iload_n dX8_turned_1 rfl ?_
  refine r_iushr dX8_turned_2 ?_
  refine r_iload_n dX8_turned_3 rfl ?_
  refine r_bipush (v := nI 32) dX8_turned_4 (by decide) ?_
  refine r_iload_n dX8_turned_6 rfl ?_
  first | refine r_isubN dX8_turned_7 (by omega) ?_ | refine r_isub dX8_turned_7 ?_
  refine r_ishl dX8_turned_8 ?_
  rw [rot_sh n hn]
  refine r_ior dX8_turned_9 ?_
  refine r_ret (r := (some (.int _))) dX8_turned_10 (by decide) (by decide) ?_
  exact ⟨rfl, rfl, rfl⟩
set_option maxRecDepth 100000 in
set_option maxHeartbeats 4000000 in
theorem c_padded {g : ab_G} {N n T i : Nat} {d : Nat → Nat} {A B : Value} {rs : List Value} {w : ab_W} (h : w 74 = mdS A B n rs) (h76 : w 76 = aI 300 (bI d)) (hn : n ≤ 300) (hnT : n + 9 ≤ T) (hT : T ≤ 2000) (hi : i < T) : ab_Ct MX8_padded g [.ref 74, .int (nI i), .int (nI T)] N w (rp (some (.int (nI (pbt d n T i)))) N w) := by
  have hsh : 8 * (T - 1 - i) < 32 ∨ i < T - 4 := by omega
  have hd : 8 * n / 2 ^ (8 * (T - 1 - i)) < 4294967296 := Nat.lt_of_le_of_lt (Nat.div_le_self _ _) (by omega)
  refine ab_Ct.of (by decide +kernel) (Nat.le_of_ble_eq_true rfl) (by rintro _ _ _ ⟨rfl, rfl, rfl⟩; trivial) ?_
  show ab_St MX8_padded g 0 0 0 [(0, .ref 74), (1, .int (nI i)), (2, .int (nI T))] [] _ _ _
  refine r_iload_n dX8_padded_0 rfl ?_
  refine r_aload_n dX8_padded_1 rfl ?_
  refine r_getf dX8_padded_2 fX8_156 (by repeat first | exact wu_eq | assumption | (apply wu_ne; first | omega | assumption | (apply Ne.symm; assumption))) (by rfl) ?_
  first | refine r_icmp_geN (tgt := 15) dX8_padded_5 (by decide) (by omega) (by omega) (fun h5 => ?_) (fun h5 => ?_) | refine r_icmp_ge (tgt := 15) dX8_padded_5 (by decide) (fun h5 => ?_) (fun h5 => ?_)
  · refine r_iload_n dX8_padded_15 rfl ?_
    refine r_aload_n dX8_padded_16 rfl ?_
    refine r_getf dX8_padded_17 fX8_156 (by repeat first | exact wu_eq | assumption | (apply wu_ne; first | omega | assumption | (apply Ne.symm; assumption))) (by rfl) ?_
    first | refine r_icmp_neN (tgt := 27) dX8_padded_20 (by decide) (by omega) (by omega) (fun h20 => ?_) (fun h20 => ?_) | refine r_icmp_ne (tgt := 27) dX8_padded_20 (by decide) (fun h20 => ?_) (fun h20 => ?_)
    · refine r_iload_n dX8_padded_27 rfl ?_
      refine r_iload_n dX8_padded_28 rfl ?_
      refine r_iconst (v := nI 4) dX8_padded_29 (by decide) ?_
      first | refine r_isubN dX8_padded_30 (by omega) ?_ | refine r_isub dX8_padded_30 ?_
      first | refine r_icmp_geN (tgt := 38) dX8_padded_31 (by decide) (by omega) (by omega) (fun h31 => ?_) (fun h31 => ?_) | refine r_icmp_ge (tgt := 38) dX8_padded_31 (by decide) (fun h31 => ?_) (fun h31 => ?_)
      · refine r_bipush (v := nI 8) dX8_padded_38 (by decide) ?_
        refine r_aload_n dX8_padded_40 rfl ?_
        refine r_getf dX8_padded_41 fX8_156 (by repeat first | exact wu_eq | assumption | (apply wu_ne; first | omega | assumption | (apply Ne.symm; assumption))) (by rfl) ?_
        first | refine r_imulN dX8_padded_44 ?_ | refine r_imul dX8_padded_44 ?_
        refine r_bipush (v := nI 8) dX8_padded_45 (by decide) ?_
        refine r_iload_n dX8_padded_47 rfl ?_
        refine r_iconst (v := nI 1) dX8_padded_48 (by decide) ?_
        first | refine r_isubN dX8_padded_49 (by omega) ?_ | refine r_isub dX8_padded_49 ?_
        refine r_iload_n dX8_padded_50 rfl ?_
        first | refine r_isubN dX8_padded_51 (by omega) ?_ | refine r_isub dX8_padded_51 ?_
        first | refine r_imulN dX8_padded_52 ?_ | refine r_imul dX8_padded_52 ?_
        refine r_iushr dX8_padded_53 ?_
        rw [pk_ushrN (by omega) _ _ (s_u' _ (by omega))]
        refine r_sipush (v := nI 255) dX8_padded_54 (by decide) ?_
        refine r_iandN 8 (by decide) dX8_padded_57 hd ?_
        refine r_ret (r := (some (.int _))) dX8_padded_58 (by decide) (by decide) ?_
        refine ⟨?_, rfl, rfl⟩
        unfold pbt
        rw [if_neg (by omega), if_neg h20, if_neg (by omega), show (2 : Nat) ^ (8 * (T - 1 - i)) = 256 ^ (T - 1 - i) by rw [Nat.pow_mul], show (2 : Nat) ^ 8 = 256 by decide]
      · refine r_iconst (v := nI 0) dX8_padded_34 (by decide) ?_
        refine r_goto (tgt := 58) dX8_padded_35 (by decide) ?_
        refine r_ret (r := (some (.int _))) dX8_padded_58 (by decide) (by decide) ?_
        refine ⟨?_, rfl, rfl⟩
        unfold pbt
        rw [if_neg (by omega), if_neg h20, if_pos (by omega)]
    · refine r_sipush (v := nI 128) dX8_padded_23 (by decide) ?_
      refine r_ret (r := (some (.int _))) dX8_padded_26 (by decide) (by decide) ?_
      refine ⟨?_, rfl, rfl⟩
      unfold pbt
      rw [if_neg (by omega), if_pos h20]
  · refine r_aload_n dX8_padded_8 rfl ?_
    refine r_getf dX8_padded_9 fX8_13 (by repeat first | exact wu_eq | assumption | (apply wu_ne; first | omega | assumption | (apply Ne.symm; assumption))) (by rfl) ?_
    refine r_iload_n dX8_padded_12 rfl ?_
    refine r_iaload' dX8_padded_13 (by repeat first | exact wu_eq | assumption | (apply wu_ne; first | omega | assumption | (apply Ne.symm; assumption))) (by rfl) _ rfl (by omega) (by omega) ?_
    refine r_ret (r := (some (.int _))) dX8_padded_14 (by decide) (by decide) ?_
    refine ⟨?_, rfl, rfl⟩
    unfold pbt
    rw [if_pos (by omega)]
    rfl
theorem or4_1 {a b : Nat} (hb : b < 256) : nI (a * 2 ^ 24) ||| nI (b * 2 ^ 16) = nI ((a * 256 + b) * 2 ^ 16) := by
  have e : (256 : Nat) * 2 ^ 16 = 2 ^ 24 := by decide
  rw [nI_or_sum (q := 24) (by omega), Nat.add_mul, Nat.mul_assoc, e]
theorem or4_2 {a b : Nat} (hb : b < 256) : nI (a * 2 ^ 16) ||| nI (b * 2 ^ 8) = nI ((a * 256 + b) * 2 ^ 8) := by
  have e : (256 : Nat) * 2 ^ 8 = 2 ^ 16 := by decide
  rw [nI_or_sum (q := 16) (by omega), Nat.add_mul, Nat.mul_assoc, e]
theorem or4_3 {a b : Nat} (hb : b < 256) : nI (a * 2 ^ 8) ||| nI b = nI (a * 256 + b) := nI_or_sum (q := 8) hb
set_option maxRecDepth 100000 in
set_option maxHeartbeats 4000000 in
theorem c_block {g : ab_G} {N n T j : Nat} {d : Nat → Nat} {st f : Nat → Int32} {A B : Value} {rs : List Value} {w : ab_W} (h : w 74 = mdS A B n rs) (h76 : w 76 = aI 300 (bI d)) (h77 : w 77 = aI 8 st) (h78 : w 78 = aI 64 f) (h80 : w 80 = aI 64 sK) (hd : ∀ i, d i < 256) (hn : n ≤ 300) (hnT : n + 9 ≤ T) (hT : T ≤ 2000) (hj : 64 * j + 64 ≤ T) : ab_Ct MX8_block g [.ref 74, .int (nI (64 * j)), .int (nI T)] N w (fun r N' w' => ∃ f', r = none ∧ N = N' ∧ w' = wu (wu w 78 (aI 64 f')) 77 (aI 8 (sC (sWt (sB d n T j) 48) st))) := by
  have KR : ∀ f2, (∀ k, k < 64 → f2 k = sWt (sB d n T j) 48 k) → ∀ k t, t + k = 64 → ab_St MX8_block g 0 0 245 [(11, .int (nI t)), (10, .int (sR f2 st t 7)), (9, .int (sR f2 st t 6)), (8, .int (sR f2 st t 5)), (7, .int (sR f2 st t 4)), (6, .int (sR f2 st t 3)), (5, .int (sR f2 st t 2)), (4, .int (sR f2 st t 1)), (3, .int (sR f2 st t 0)), (0, .ref 74)] [] N (wu w 78 (aI 64 f2)) (fun r N' w' => ∃ f', r = none ∧ N = N' ∧ w' = wu (wu w 78 (aI 64 f')) 77 (aI 8 (sC (sWt (sB d n T j) 48) st))) := by
    intro f2 hf2 k
    induction k with
    | zero =>
      intro t ht
      obtain rfl : t = 64 := by omega
      refine r_iload dX8_block_245 rfl ?_
      refine r_bipush (v := nI 64) dX8_block_247 (by decide) ?_
      first | refine r_icmp_geN (tgt := 389) dX8_block_249 (by decide) (by omega) (by omega) (fun h249 => ?_) (fun h249 => ?_) | refine r_icmp_ge (tgt := 389) dX8_block_249 (by decide) (fun h249 => ?_) (fun h249 => ?_)
      · refine r_aload_n dX8_block_389 rfl ?_
        refine r_getf dX8_block_390 fX8_16 (by repeat first | exact wu_eq | assumption | (apply wu_ne; first | omega | assumption | (apply Ne.symm; assumption))) (by rfl) ?_
        refine r_iconst (v := nI 0) dX8_block_393 (by decide) ?_
        first | refine r_dup2 dX8_block_394 rfl rfl ?_ | refine r_dup2w dX8_block_394 rfl ?_
        refine r_iaload' dX8_block_395 (by repeat first | exact wu_eq | assumption | (apply wu_ne; first | omega | assumption | (apply Ne.symm; assumption))) (by rfl) _ rfl (by omega) (by omega) ?_
        refine r_iload_n dX8_block_396 rfl ?_
        refine r_iadd dX8_block_397 ?_
        refine r_iastore dX8_block_398 (by repeat first | exact wu_eq | assumption | (apply wu_ne; first | omega | assumption | (apply Ne.symm; assumption))) _ rfl (by omega) (by omega) ?_
        refine r_aload_n dX8_block_399 rfl ?_
        refine r_getf dX8_block_400 fX8_16 (by repeat first | exact wu_eq | assumption | (apply wu_ne; first | omega | assumption | (apply Ne.symm; assumption))) (by rfl) ?_
        refine r_iconst (v := nI 1) dX8_block_403 (by decide) ?_
        first | refine r_dup2 dX8_block_404 rfl rfl ?_ | refine r_dup2w dX8_block_404 rfl ?_
        refine r_iaload' dX8_block_405 (by repeat first | exact wu_eq | assumption | (apply wu_ne; first | omega | assumption | (apply Ne.symm; assumption))) (by rfl) _ rfl (by omega) (by omega) ?_
        refine r_iload dX8_block_406 rfl ?_
        refine r_iadd dX8_block_408 ?_
        refine r_iastore dX8_block_409 (by repeat first | exact wu_eq | assumption | (apply wu_ne; first | omega | assumption | (apply Ne.symm; assumption))) _ rfl (by omega) (by omega) ?_
        refine r_aload_n dX8_block_410 rfl ?_
        refine r_getf dX8_block_411 fX8_16 (by repeat first | exact wu_eq | assumption | (apply wu_ne; first | omega | assumption | (apply Ne.symm; assumption))) (by rfl) ?_
        refine r_iconst (v := nI 2) dX8_block_414 (by decide) ?_
        first | refine r_dup2 dX8_block_415 rfl rfl ?_ | refine r_dup2w dX8_block_415 rfl ?_
        refine r_iaload' dX8_block_416 (by repeat first | exact wu_eq | assumption | (apply wu_ne; first | omega | assumption | (apply Ne.symm; assumption))) (by rfl) _ rfl (by omega) (by omega) ?_
        refine r_iload dX8_block_417 rfl ?_
        refine r_iadd dX8_block_419 ?_
        refine r_iastore dX8_block_420 (by repeat first | exact wu_eq | assumption | (apply wu_ne; first | omega | assumption | (apply Ne.symm; assumption))) _ rfl (by omega) (by omega) ?_
        refine r_aload_n dX8_block_421 rfl ?_
        refine r_getf dX8_block_422 fX8_16 (by repeat first | exact wu_eq | assumption | (apply wu_ne; first | omega | assumption | (apply Ne.symm; assumption))) (by rfl) ?_
        refine r_iconst (v := nI 3) dX8_block_425 (by decide) ?_
        first | refine r_dup2 dX8_block_426 rfl rfl ?_ | refine r_dup2w dX8_block_426 rfl ?_
        refine r_iaload' dX8_block_427 (by repeat first | exact wu_eq | assumption | (apply wu_ne; first | omega | assumption | (apply Ne.symm; assumption))) (by rfl) _ rfl (by omega) (by omega) ?_
        refine r_iload dX8_block_428 rfl ?_
        refine r_iadd dX8_block_430 ?_
        refine r_iastore dX8_block_431 (by repeat first | exact wu_eq | assumption | (apply wu_ne; first | omega | assumption | (apply Ne.symm; assumption))) _ rfl (by omega) (by omega) ?_
        refine r_aload_n dX8_block_432 rfl ?_
        refine r_getf dX8_block_433 fX8_16 (by repeat first | exact wu_eq | assumption | (apply wu_ne; first | omega | assumption | (apply Ne.symm; assumption))) (by rfl) ?_
        refine r_iconst (v := nI 4) dX8_block_436 (by decide) ?_
        first | refine r_dup2 dX8_block_437 rfl rfl ?_ | refine r_dup2w dX8_block_437 rfl ?_
        refine r_iaload' dX8_block_438 (by repeat first | exact wu_eq | assumption | (apply wu_ne; first | omega | assumption | (apply Ne.symm; assumption))) (by rfl) _ rfl (by omega) (by omega) ?_
        refine r_iload dX8_block_439 rfl ?_
        refine r_iadd dX8_block_441 ?_
        refine r_iastore dX8_block_442 (by repeat first | exact wu_eq | assumption | (apply wu_ne; first | omega | assumption | (apply Ne.symm; assumption))) _ rfl (by omega) (by omega) ?_
        refine r_aload_n dX8_block_443 rfl ?_
        refine r_getf dX8_block_444 fX8_16 (by repeat first | exact wu_eq | assumption | (apply wu_ne; first | omega | assumption | (apply Ne.symm; assumption))) (by rfl) ?_
        refine r_iconst (v := nI 5) dX8_block_447 (by decide) ?_
        first | refine r_dup2 dX8_block_448 rfl rfl ?_ | refine r_dup2w dX8_block_448 rfl ?_
        refine r_iaload' dX8_block_449 (by repeat first | exact wu_eq | assumption | (apply wu_ne; first | omega | assumption | (apply Ne.symm; assumption))) (by rfl) _ rfl (by omega) (by omega) ?_
        refine r_iload dX8_block_450 rfl ?_
        refine r_iadd dX8_block_452 ?_
        refine r_iastore dX8_block_453 (by repeat first | exact wu_eq | assumption | (apply wu_ne; first | omega | assumption | (apply Ne.symm; assumption))) _ rfl (by omega) (by omega) ?_
        refine r_aload_n dX8_block_454 rfl ?_
        refine r_getf dX8_block_455 fX8_16 (by repeat first | exact wu_eq | assumption | (apply wu_ne; first | omega | assumption | (apply Ne.symm; assumption))) (by rfl) ?_
        refine r_bipush (v := nI 6) dX8_block_458 (by decide) ?_
        first | refine r_dup2 dX8_block_460 rfl rfl ?_ | refine r_dup2w dX8_block_460 rfl ?_
        refine r_iaload' dX8_block_461 (by repeat first | exact wu_eq | assumption | (apply wu_ne; first | omega | assumption | (apply Ne.symm; assumption))) (by rfl) _ rfl (by omega) (by omega) ?_
        refine r_iload dX8_block_462 rfl ?_
        refine r_iadd dX8_block_464 ?_
        refine r_iastore dX8_block_465 (by repeat first | exact wu_eq | assumption | (apply wu_ne; first | omega | assumption | (apply Ne.symm; assumption))) _ rfl (by omega) (by omega) ?_
        refine r_aload_n dX8_block_466 rfl ?_
        refine r_getf dX8_block_467 fX8_16 (by repeat first | exact wu_eq | assumption | (apply wu_ne; first | omega | assumption | (apply Ne.symm; assumption))) (by rfl) ?_
        refine r_bipush (v := nI 7) dX8_block_470 (by decide) ?_
        first | refine r_dup2 dX8_block_472 rfl rfl ?_ | refine r_dup2w dX8_block_472 rfl ?_
        refine r_iaload' dX8_block_473 (by repeat first | exact wu_eq | assumption | (apply wu_ne; first | omega | assumption | (apply Ne.symm; assumption))) (by rfl) _ rfl (by omega) (by omega) ?_
        refine r_iload dX8_block_474 rfl ?_
        refine r_iadd dX8_block_476 ?_
        refine r_iastore dX8_block_477 (by repeat first | exact wu_eq | assumption | (apply wu_ne; first | omega | assumption | (apply Ne.symm; assumption))) _ rfl (by omega) (by omega) ?_
        refine r_ret (r := none) dX8_block_478 (by decide) (by decide) ?_
        refine ⟨f2, rfl, rfl, ?_⟩
        simp only [wu_wu]
        rw [← sC_cong (w := f2) hf2]
        congr 2
        funext j
        unfold sC va_up
        by_cases h8 : j < 8
        · rw [if_pos h8]
          rcases (show j = 0 ∨ j = 1 ∨ j = 2 ∨ j = 3 ∨ j = 4 ∨ j = 5 ∨ j = 6 ∨ j = 7 by omega) with rfl | rfl | rfl | rfl | rfl | rfl | rfl | rfl <;> rfl
        · rw [if_neg h8, if_neg (by omega), if_neg (by omega), if_neg (by omega), if_neg (by omega), if_neg (by omega), if_neg (by omega), if_neg (by omega), if_neg (by omega)]
      · omega
    | succ k ih =>
      intro t ht
      refine r_iload dX8_block_245 rfl ?_
      refine r_bipush (v := nI 64) dX8_block_247 (by decide) ?_
      first | refine r_icmp_geN (tgt := 389) dX8_block_249 (by decide) (by omega) (by omega) (fun h249 => ?_) (fun h249 => ?_) | refine r_icmp_ge (tgt := 389) dX8_block_249 (by decide) (fun h249 => ?_) (fun h249 => ?_)
      · omega
      · refine r_iload dX8_block_252 rfl ?_
        refine r_iload dX8_block_254 rfl ?_
        refine r_bipush (v := nI 6) dX8_block_256 (by decide) ?_
        refine r_invS dX8_block_258 kX8_163 (c_turned (by decide)) rfl rfl ⟨by decide, by decide⟩ (Nat.le_of_ble_eq_true rfl) ⟨by decide, by decide⟩ ⟨rfl, rfl⟩ ?_
        rintro _ _ _ ⟨rfl, rfl, rfl⟩
        refine r_iload dX8_block_261 rfl ?_
        refine r_bipush (v := nI 11) dX8_block_263 (by decide) ?_
        refine r_invS dX8_block_265 kX8_163 (c_turned (by decide)) rfl rfl ⟨by decide, by decide⟩ (Nat.le_of_ble_eq_true rfl) ⟨by decide, by decide⟩ ⟨rfl, rfl⟩ ?_
        rintro _ _ _ ⟨rfl, rfl, rfl⟩
        refine r_ixor dX8_block_268 ?_
        refine r_iload dX8_block_269 rfl ?_
        refine r_bipush (v := nI 25) dX8_block_271 (by decide) ?_
        refine r_invS dX8_block_273 kX8_163 (c_turned (by decide)) rfl rfl ⟨by decide, by decide⟩ (Nat.le_of_ble_eq_true rfl) ⟨by decide, by decide⟩ ⟨rfl, rfl⟩ ?_
        rintro _ _ _ ⟨rfl, rfl, rfl⟩
        refine r_ixor dX8_block_276 ?_
        refine r_iadd dX8_block_277 ?_
        refine r_iload dX8_block_278 rfl ?_
        refine r_iload dX8_block_280 rfl ?_
        refine r_iand dX8_block_282 ?_
        refine r_iload dX8_block_283 rfl ?_
        refine r_iconst (v := (-1)) dX8_block_285 (by decide) ?_
        refine r_ixor dX8_block_286 ?_
        refine r_iload dX8_block_287 rfl ?_
        refine r_iand dX8_block_289 ?_
        refine r_ixor dX8_block_290 ?_
        refine r_iadd dX8_block_291 ?_
        refine r_aload_n dX8_block_292 rfl ?_
        refine r_getf dX8_block_293 fX8_97 (by repeat first | exact wu_eq | assumption | (apply wu_ne; first | omega | assumption | (apply Ne.symm; assumption))) (by rfl) ?_
        refine r_iload dX8_block_296 rfl ?_
        refine r_iaload' dX8_block_298 (by repeat first | exact wu_eq | assumption | (apply wu_ne; first | omega | assumption | (apply Ne.symm; assumption))) (by rfl) _ rfl (by omega) (by omega) ?_
        refine r_iadd dX8_block_299 ?_
        refine r_aload_n dX8_block_300 rfl ?_
        refine r_getf dX8_block_301 fX8_19 (by repeat first | exact wu_eq | assumption | (apply wu_ne; first | omega | assumption | (apply Ne.symm; assumption))) (by rfl) ?_
        refine r_iload dX8_block_304 rfl ?_
        refine r_iaload' dX8_block_306 (by repeat first | exact wu_eq | assumption | (apply wu_ne; first | omega | assumption | (apply Ne.symm; assumption))) (by rfl) _ rfl (by omega) (by omega) ?_
        refine r_iadd dX8_block_307 ?_
        refine r_istore (i := 12) (L0 := [(11, _), (10, _), (9, _), (8, _), (7, _), (6, _), (5, _), (4, _), (3, _), (0, _)]) dX8_block_308 (by decide) rfl ?_
        refine r_iload_n dX8_block_310 rfl ?_
        refine r_iconst (v := nI 2) dX8_block_311 (by decide) ?_
        refine r_invS dX8_block_312 kX8_163 (c_turned (by decide)) rfl rfl ⟨by decide, by decide⟩ (Nat.le_of_ble_eq_true rfl) ⟨by decide, by decide⟩ ⟨rfl, rfl⟩ ?_
        rintro _ _ _ ⟨rfl, rfl, rfl⟩
        refine r_iload_n dX8_block_315 rfl ?_
        refine r_bipush (v := nI 13) dX8_block_316 (by decide) ?_
        refine r_invS dX8_block_318 kX8_163 (c_turned (by decide)) rfl rfl ⟨by decide, by decide⟩ (Nat.le_of_ble_eq_true rfl) ⟨by decide, by decide⟩ ⟨rfl, rfl⟩ ?_
        rintro _ _ _ ⟨rfl, rfl, rfl⟩
        refine r_ixor dX8_block_321 ?_
        refine r_iload_n dX8_block_322 rfl ?_
        refine r_bipush (v := nI 22) dX8_block_323 (by decide) ?_
        refine r_invS dX8_block_325 kX8_163 (c_turned (by decide)) rfl rfl ⟨by decide, by decide⟩ (Nat.le_of_ble_eq_true rfl) ⟨by decide, by decide⟩ ⟨rfl, rfl⟩ ?_
        rintro _ _ _ ⟨rfl, rfl, rfl⟩
        refine r_ixor dX8_block_328 ?_
        refine r_iload_n dX8_block_329 rfl ?_
        refine r_iload dX8_block_330 rfl ?_
        refine r_iand dX8_block_332 ?_
        refine r_iload_n dX8_block_333 rfl ?_
        refine r_iload dX8_block_334 rfl ?_
        refine r_iand dX8_block_336 ?_
        refine r_ixor dX8_block_337 ?_
        refine r_iload dX8_block_338 rfl ?_
        refine r_iload dX8_block_340 rfl ?_
        refine r_iand dX8_block_342 ?_
        refine r_ixor dX8_block_343 ?_
        refine r_iadd dX8_block_344 ?_
        refine r_istore (i := 13) (L0 := [(12, _), (11, _), (10, _), (9, _), (8, _), (7, _), (6, _), (5, _), (4, _), (3, _), (0, _)]) dX8_block_345 (by decide) rfl ?_
        refine r_iload dX8_block_347 rfl ?_
        refine r_istore (i := 10) (L0 := [(13, _), (12, _), (11, _), (9, _), (8, _), (7, _), (6, _), (5, _), (4, _), (3, _), (0, _)]) dX8_block_349 (by decide) rfl ?_
        refine r_iload dX8_block_351 rfl ?_
        refine r_istore (i := 9) (L0 := [(10, _), (13, _), (12, _), (11, _), (8, _), (7, _), (6, _), (5, _), (4, _), (3, _), (0, _)]) dX8_block_353 (by decide) rfl ?_
        refine r_iload dX8_block_355 rfl ?_
        refine r_istore (i := 8) (L0 := [(9, _), (10, _), (13, _), (12, _), (11, _), (7, _), (6, _), (5, _), (4, _), (3, _), (0, _)]) dX8_block_357 (by decide) rfl ?_
        refine r_iload dX8_block_359 rfl ?_
        refine r_iload dX8_block_361 rfl ?_
        refine r_iadd dX8_block_363 ?_
        refine r_istore (i := 7) (L0 := [(8, _), (9, _), (10, _), (13, _), (12, _), (11, _), (6, _), (5, _), (4, _), (3, _), (0, _)]) dX8_block_364 (by decide) rfl ?_
        refine r_iload dX8_block_366 rfl ?_
        refine r_istore (i := 6) (L0 := [(7, _), (8, _), (9, _), (10, _), (13, _), (12, _), (11, _), (5, _), (4, _), (3, _), (0, _)]) dX8_block_368 (by decide) rfl ?_
        refine r_iload dX8_block_370 rfl ?_
        refine r_istore (i := 5) (L0 := [(6, _), (7, _), (8, _), (9, _), (10, _), (13, _), (12, _), (11, _), (4, _), (3, _), (0, _)]) dX8_block_372 (by decide) rfl ?_
        refine r_iload_n dX8_block_374 rfl ?_
        refine r_istore (i := 4) (L0 := [(5, _), (6, _), (7, _), (8, _), (9, _), (10, _), (13, _), (12, _), (11, _), (3, _), (0, _)]) dX8_block_375 (by decide) rfl ?_
        refine r_iload dX8_block_377 rfl ?_
        refine r_iload dX8_block_379 rfl ?_
        refine r_iadd dX8_block_381 ?_
        refine r_toI (Int32.add_assoc _ _ _).symm ?_
        refine r_istore_n (i := 3) (L0 := [(4, _), (5, _), (6, _), (7, _), (8, _), (9, _), (10, _), (13, _), (12, _), (11, _), (0, _)]) dX8_block_382 rfl (by decide) rfl ?_
        refine r_iinc (L0 := [(3, _), (4, _), (5, _), (6, _), (7, _), (8, _), (9, _), (10, _), (13, _), (12, _), (0, _)]) dX8_block_383 rfl (by first | exact iinc1 _ | rfl) (by decide) rfl ?_
        refine r_goto (tgt := 245) dX8_block_386 (by decide) ?_
        refine r_sub [0, 8, 7, 6, 5, 4, 3, 2, 1, 11] rfl ?_
        exact ih (t + 1) (by omega)
  have KE : ∀ f1, (∀ k, k < 16 → f1 k = sB d n T j k) → ∀ k i, i + k = 48 → ab_St MX8_block g 0 0 76 [(3, .int (nI (i + 16))), (0, .ref 74)] [] N (wu w 78 (aI 64 (sWt f1 i))) (fun r N' w' => ∃ f', r = none ∧ N = N' ∧ w' = wu (wu w 78 (aI 64 f')) 77 (aI 8 (sC (sWt (sB d n T j) 48) st))) := by
    intro f1 hf1 k
    induction k with
    | zero =>
      intro i hi
      obtain rfl : i = 48 := by omega
      refine r_iload_n dX8_block_76 rfl ?_
      refine r_bipush (v := nI 64) dX8_block_77 (by decide) ?_
      first | refine r_icmp_geN (tgt := 177) dX8_block_79 (by decide) (by omega) (by omega) (fun h79 => ?_) (fun h79 => ?_) | refine r_icmp_ge (tgt := 177) dX8_block_79 (by decide) (fun h79 => ?_) (fun h79 => ?_)
      · refine r_aload_n dX8_block_177 rfl ?_
        refine r_getf dX8_block_178 fX8_16 (by repeat first | exact wu_eq | assumption | (apply wu_ne; first | omega | assumption | (apply Ne.symm; assumption))) (by rfl) ?_
        refine r_iconst (v := nI 0) dX8_block_181 (by decide) ?_
        refine r_iaload' dX8_block_182 (by repeat first | exact wu_eq | assumption | (apply wu_ne; first | omega | assumption | (apply Ne.symm; assumption))) (by rfl) _ rfl (by omega) (by omega) ?_
        refine r_istore_n (i := 3) (L0 := [(0, _)]) dX8_block_183 rfl (by decide) rfl ?_
        refine r_aload_n dX8_block_184 rfl ?_
        refine r_getf dX8_block_185 fX8_16 (by repeat first | exact wu_eq | assumption | (apply wu_ne; first | omega | assumption | (apply Ne.symm; assumption))) (by rfl) ?_
        refine r_iconst (v := nI 1) dX8_block_188 (by decide) ?_
        refine r_iaload' dX8_block_189 (by repeat first | exact wu_eq | assumption | (apply wu_ne; first | omega | assumption | (apply Ne.symm; assumption))) (by rfl) _ rfl (by omega) (by omega) ?_
        refine r_istore (i := 4) (L0 := [(3, _), (0, _)]) dX8_block_190 (by decide) rfl ?_
        refine r_aload_n dX8_block_192 rfl ?_
        refine r_getf dX8_block_193 fX8_16 (by repeat first | exact wu_eq | assumption | (apply wu_ne; first | omega | assumption | (apply Ne.symm; assumption))) (by rfl) ?_
        refine r_iconst (v := nI 2) dX8_block_196 (by decide) ?_
        refine r_iaload' dX8_block_197 (by repeat first | exact wu_eq | assumption | (apply wu_ne; first | omega | assumption | (apply Ne.symm; assumption))) (by rfl) _ rfl (by omega) (by omega) ?_
        refine r_istore (i := 5) (L0 := [(4, _), (3, _), (0, _)]) dX8_block_198 (by decide) rfl ?_
        refine r_aload_n dX8_block_200 rfl ?_
        refine r_getf dX8_block_201 fX8_16 (by repeat first | exact wu_eq | assumption | (apply wu_ne; first | omega | assumption | (apply Ne.symm; assumption))) (by rfl) ?_
        refine r_iconst (v := nI 3) dX8_block_204 (by decide) ?_
        refine r_iaload' dX8_block_205 (by repeat first | exact wu_eq | assumption | (apply wu_ne; first | omega | assumption | (apply Ne.symm; assumption))) (by rfl) _ rfl (by omega) (by omega) ?_
        refine r_istore (i := 6) (L0 := [(5, _), (4, _), (3, _), (0, _)]) dX8_block_206 (by decide) rfl ?_
        refine r_aload_n dX8_block_208 rfl ?_
        refine r_getf dX8_block_209 fX8_16 (by repeat first | exact wu_eq | assumption | (apply wu_ne; first | omega | assumption | (apply Ne.symm; assumption))) (by rfl) ?_
        refine r_iconst (v := nI 4) dX8_block_212 (by decide) ?_
        refine r_iaload' dX8_block_213 (by repeat first | exact wu_eq | assumption | (apply wu_ne; first | omega | assumption | (apply Ne.symm; assumption))) (by rfl) _ rfl (by omega) (by omega) ?_
        refine r_istore (i := 7) (L0 := [(6, _), (5, _), (4, _), (3, _), (0, _)]) dX8_block_214 (by decide) rfl ?_
        refine r_aload_n dX8_block_216 rfl ?_
        refine r_getf dX8_block_217 fX8_16 (by repeat first | exact wu_eq | assumption | (apply wu_ne; first | omega | assumption | (apply Ne.symm; assumption))) (by rfl) ?_
        refine r_iconst (v := nI 5) dX8_block_220 (by decide) ?_
        refine r_iaload' dX8_block_221 (by repeat first | exact wu_eq | assumption | (apply wu_ne; first | omega | assumption | (apply Ne.symm; assumption))) (by rfl) _ rfl (by omega) (by omega) ?_
        refine r_istore (i := 8) (L0 := [(7, _), (6, _), (5, _), (4, _), (3, _), (0, _)]) dX8_block_222 (by decide) rfl ?_
        refine r_aload_n dX8_block_224 rfl ?_
        refine r_getf dX8_block_225 fX8_16 (by repeat first | exact wu_eq | assumption | (apply wu_ne; first | omega | assumption | (apply Ne.symm; assumption))) (by rfl) ?_
        refine r_bipush (v := nI 6) dX8_block_228 (by decide) ?_
        refine r_iaload' dX8_block_230 (by repeat first | exact wu_eq | assumption | (apply wu_ne; first | omega | assumption | (apply Ne.symm; assumption))) (by rfl) _ rfl (by omega) (by omega) ?_
        refine r_istore (i := 9) (L0 := [(8, _), (7, _), (6, _), (5, _), (4, _), (3, _), (0, _)]) dX8_block_231 (by decide) rfl ?_
        refine r_aload_n dX8_block_233 rfl ?_
        refine r_getf dX8_block_234 fX8_16 (by repeat first | exact wu_eq | assumption | (apply wu_ne; first | omega | assumption | (apply Ne.symm; assumption))) (by rfl) ?_
        refine r_bipush (v := nI 7) dX8_block_237 (by decide) ?_
        refine r_iaload' dX8_block_239 (by repeat first | exact wu_eq | assumption | (apply wu_ne; first | omega | assumption | (apply Ne.symm; assumption))) (by rfl) _ rfl (by omega) (by omega) ?_
        refine r_istore (i := 10) (L0 := [(9, _), (8, _), (7, _), (6, _), (5, _), (4, _), (3, _), (0, _)]) dX8_block_240 (by decide) rfl ?_
        refine r_iconst (v := nI 0) dX8_block_242 (by decide) ?_
        refine r_istore (i := 11) (L0 := [(10, _), (9, _), (8, _), (7, _), (6, _), (5, _), (4, _), (3, _), (0, _)]) dX8_block_243 (by decide) rfl ?_
        refine r_sub [0, 1, 2, 3, 4, 5, 6, 7, 8, 9] rfl ?_
        exact KR (sWt f1 48) (fun k hk => sWt_cong (fun t ht => hf1 t ht) 48 k (by omega)) 64 0 (by omega)
      · omega
    | succ k ih =>
      intro i hi
      refine r_iload_n dX8_block_76 rfl ?_
      refine r_bipush (v := nI 64) dX8_block_77 (by decide) ?_
      first | refine r_icmp_geN (tgt := 177) dX8_block_79 (by decide) (by omega) (by omega) (fun h79 => ?_) (fun h79 => ?_) | refine r_icmp_ge (tgt := 177) dX8_block_79 (by decide) (fun h79 => ?_) (fun h79 => ?_)
      · omega
      · refine r_aload_n dX8_block_82 rfl ?_
        refine r_getf dX8_block_83 fX8_19 (by repeat first | exact wu_eq | assumption | (apply wu_ne; first | omega | assumption | (apply Ne.symm; assumption))) (by rfl) ?_
        refine r_iload_n dX8_block_86 rfl ?_
        refine r_bipush (v := nI 15) dX8_block_87 (by decide) ?_
        first | refine r_isubN dX8_block_89 (by omega) ?_ | refine r_isub dX8_block_89 ?_
        refine r_iaload' dX8_block_90 (by repeat first | exact wu_eq | assumption | (apply wu_ne; first | omega | assumption | (apply Ne.symm; assumption))) (by rfl) _ rfl (by omega) (by omega) ?_
        refine r_istore (i := 4) (L0 := [(3, _), (0, _)]) dX8_block_91 (by decide) rfl ?_
        refine r_aload_n dX8_block_93 rfl ?_
        refine r_getf dX8_block_94 fX8_19 (by repeat first | exact wu_eq | assumption | (apply wu_ne; first | omega | assumption | (apply Ne.symm; assumption))) (by rfl) ?_
        refine r_iload_n dX8_block_97 rfl ?_
        refine r_iconst (v := nI 2) dX8_block_98 (by decide) ?_
        first | refine r_isubN dX8_block_99 (by omega) ?_ | refine r_isub dX8_block_99 ?_
        refine r_iaload' dX8_block_100 (by repeat first | exact wu_eq | assumption | (apply wu_ne; first | omega | assumption | (apply Ne.symm; assumption))) (by rfl) _ rfl (by omega) (by omega) ?_
        refine r_istore (i := 5) (L0 := [(4, _), (3, _), (0, _)]) dX8_block_101 (by decide) rfl ?_
        refine r_aload_n dX8_block_103 rfl ?_
        refine r_getf dX8_block_104 fX8_19 (by repeat first | exact wu_eq | assumption | (apply wu_ne; first | omega | assumption | (apply Ne.symm; assumption))) (by rfl) ?_
        refine r_iload_n dX8_block_107 rfl ?_
        refine r_aload_n dX8_block_108 rfl ?_
        refine r_getf dX8_block_109 fX8_19 (by repeat first | exact wu_eq | assumption | (apply wu_ne; first | omega | assumption | (apply Ne.symm; assumption))) (by rfl) ?_
        refine r_iload_n dX8_block_112 rfl ?_
        refine r_bipush (v := nI 16) dX8_block_113 (by decide) ?_
        first | refine r_isubN dX8_block_115 (by omega) ?_ | refine r_isub dX8_block_115 ?_
        refine r_iaload' dX8_block_116 (by repeat first | exact wu_eq | assumption | (apply wu_ne; first | omega | assumption | (apply Ne.symm; assumption))) (by rfl) _ rfl (by omega) (by omega) ?_
        refine r_iload dX8_block_117 rfl ?_
        refine r_bipush (v := nI 7) dX8_block_119 (by decide) ?_
        refine r_invS dX8_block_121 kX8_163 (c_turned (by decide)) rfl rfl ⟨by decide, by decide⟩ (Nat.le_of_ble_eq_true rfl) ⟨by decide, by decide⟩ ⟨rfl, rfl⟩ ?_
        rintro _ _ _ ⟨rfl, rfl, rfl⟩
        refine r_iload dX8_block_124 rfl ?_
        refine r_bipush (v := nI 18) dX8_block_126 (by decide) ?_
        refine r_invS dX8_block_128 kX8_163 (c_turned (by decide)) rfl rfl ⟨by decide, by decide⟩ (Nat.le_of_ble_eq_true rfl) ⟨by decide, by decide⟩ ⟨rfl, rfl⟩ ?_
        rintro _ _ _ ⟨rfl, rfl, rfl⟩
        refine r_ixor dX8_block_131 ?_
        refine r_iload dX8_block_132 rfl ?_
        refine r_iconst (v := nI 3) dX8_block_134 (by decide) ?_
        refine r_iushr dX8_block_135 ?_
        refine r_ixor dX8_block_136 ?_
        refine r_iadd dX8_block_137 ?_
        refine r_aload_n dX8_block_138 rfl ?_
        refine r_getf dX8_block_139 fX8_19 (by repeat first | exact wu_eq | assumption | (apply wu_ne; first | omega | assumption | (apply Ne.symm; assumption))) (by rfl) ?_
        refine r_iload_n dX8_block_142 rfl ?_
        refine r_bipush (v := nI 7) dX8_block_143 (by decide) ?_
        first | refine r_isubN dX8_block_145 (by omega) ?_ | refine r_isub dX8_block_145 ?_
        refine r_iaload' dX8_block_146 (by repeat first | exact wu_eq | assumption | (apply wu_ne; first | omega | assumption | (apply Ne.symm; assumption))) (by rfl) _ rfl (by omega) (by omega) ?_
        refine r_iadd dX8_block_147 ?_
        refine r_iload dX8_block_148 rfl ?_
        refine r_bipush (v := nI 17) dX8_block_150 (by decide) ?_
        refine r_invS dX8_block_152 kX8_163 (c_turned (by decide)) rfl rfl ⟨by decide, by decide⟩ (Nat.le_of_ble_eq_true rfl) ⟨by decide, by decide⟩ ⟨rfl, rfl⟩ ?_
        rintro _ _ _ ⟨rfl, rfl, rfl⟩
        refine r_iload dX8_block_155 rfl ?_
        refine r_bipush (v := nI 19) dX8_block_157 (by decide) ?_
        refine r_invS dX8_block_159 kX8_163 (c_turned (by decide)) rfl rfl ⟨by decide, by decide⟩ (Nat.le_of_ble_eq_true rfl) ⟨by decide, by decide⟩ ⟨rfl, rfl⟩ ?_
        rintro _ _ _ ⟨rfl, rfl, rfl⟩
        refine r_ixor dX8_block_162 ?_
        refine r_iload dX8_block_163 rfl ?_
        refine r_bipush (v := nI 10) dX8_block_165 (by decide) ?_
        refine r_iushr dX8_block_167 ?_
        refine r_ixor dX8_block_168 ?_
        refine r_iadd dX8_block_169 ?_
        refine r_iastore dX8_block_170 (by repeat first | exact wu_eq | assumption | (apply wu_ne; first | omega | assumption | (apply Ne.symm; assumption))) _ rfl (by omega) (by omega) ?_
        refine r_iinc (L0 := [(5, _), (4, _), (0, _)]) dX8_block_171 rfl (by first | exact iinc1 _ | rfl) (by decide) rfl ?_
        refine r_goto (tgt := 76) dX8_block_174 (by decide) ?_
        refine r_sub [0, 3] rfl ?_
        rw [wu_wu, show i + 16 - 15 = i + 1 by omega, show i + 16 - 2 = i + 14 by omega, show i + 16 - 16 = i by omega, show i + 16 - 7 = i + 9 by omega]
        exact ih (i + 1) (by omega)
  have KB : ∀ k t, t + k = 16 → ab_St MX8_block g 0 0 2 [(3, .int (nI t)), (0, .ref 74), (1, .int (nI (64 * j))), (2, .int (nI T))] [] N (wu w 78 (aI 64 (fl t (sB d n T j) f))) (fun r N' w' => ∃ f', r = none ∧ N = N' ∧ w' = wu (wu w 78 (aI 64 f')) 77 (aI 8 (sC (sWt (sB d n T j) 48) st))) := by
    intro k
    induction k with
    | zero =>
      intro t ht
      obtain rfl : t = 16 := by omega
      refine r_iload_n dX8_block_2 rfl ?_
      refine r_bipush (v := nI 16) dX8_block_3 (by decide) ?_
      first | refine r_icmp_geN (tgt := 73) dX8_block_5 (by decide) (by omega) (by omega) (fun h5 => ?_) (fun h5 => ?_) | refine r_icmp_ge (tgt := 73) dX8_block_5 (by decide) (fun h5 => ?_) (fun h5 => ?_)
      · refine r_bipush (v := nI 16) dX8_block_73 (by decide) ?_
        refine r_istore_n (i := 3) (L0 := [(0, _), (1, _), (2, _)]) dX8_block_75 rfl (by decide) rfl ?_
        refine r_sub [0, 1] rfl ?_
        exact KE _ (fun k hk => fl_lo hk) 48 0 (by omega)
      · omega
    | succ k ih =>
      intro t ht
      have c0 := pbt_lt hd n T (64 * j + 4 * t)
      have c1 := pbt_lt hd n T (64 * j + 4 * t + 1)
      have c2 := pbt_lt hd n T (64 * j + 4 * t + 2)
      have c3 := pbt_lt hd n T (64 * j + 4 * t + 3)
      refine r_iload_n dX8_block_2 rfl ?_
      refine r_bipush (v := nI 16) dX8_block_3 (by decide) ?_
      first | refine r_icmp_geN (tgt := 73) dX8_block_5 (by decide) (by omega) (by omega) (fun h5 => ?_) (fun h5 => ?_) | refine r_icmp_ge (tgt := 73) dX8_block_5 (by decide) (fun h5 => ?_) (fun h5 => ?_)
      · omega
      · refine r_iload_n dX8_block_8 rfl ?_
        refine r_iconst (v := nI 4) dX8_block_9 (by decide) ?_
        refine r_iload_n dX8_block_10 rfl ?_
        first | refine r_imulN dX8_block_11 ?_ | refine r_imul dX8_block_11 ?_
        first | refine r_iaddN dX8_block_12 ?_ | refine r_iadd dX8_block_12 ?_
        refine r_istore (i := 4) (L0 := [(3, _), (0, _), (1, _), (2, _)]) dX8_block_13 (by decide) rfl ?_
        refine r_aload_n dX8_block_15 rfl ?_
        refine r_getf dX8_block_16 fX8_19 (by repeat first | exact wu_eq | assumption | (apply wu_ne; first | omega | assumption | (apply Ne.symm; assumption))) (by rfl) ?_
        refine r_iload_n dX8_block_19 rfl ?_
        refine r_aload_n dX8_block_20 rfl ?_
        refine r_iload dX8_block_21 rfl ?_
        refine r_iload_n dX8_block_23 rfl ?_
        refine r_invV dX8_block_24 kX8_159 (c_padded (n := n) (T := T) (i := 64 * j + 4 * t) (d := d) (by repeat first | exact wu_eq | assumption | (apply wu_ne; first | omega | assumption | (apply Ne.symm; assumption))) (by repeat first | exact wu_eq | assumption | (apply wu_ne; first | omega | assumption | (apply Ne.symm; assumption))) hn hnT hT (by omega)) rfl rfl (by repeat first | exact wu_eq | assumption | (apply wu_ne; first | omega | assumption | (apply Ne.symm; assumption))) rfl rfl ⟨by decide, by decide⟩ (Nat.le_of_ble_eq_true rfl) ⟨by decide, by decide⟩ ⟨rfl, rfl⟩ ?_
        rintro _ _ _ ⟨rfl, rfl, rfl⟩
        refine r_bipush (v := nI 24) dX8_block_27 (by decide) ?_
        refine r_ishlN 24 (by decide) dX8_block_29 (by omega) ?_
        refine r_aload_n dX8_block_30 rfl ?_
        refine r_iload dX8_block_31 rfl ?_
        refine r_iconst (v := nI 1) dX8_block_33 (by decide) ?_
        first | refine r_iaddN dX8_block_34 ?_ | refine r_iadd dX8_block_34 ?_
        refine r_iload_n dX8_block_35 rfl ?_
        refine r_invV dX8_block_36 kX8_159 (c_padded (n := n) (T := T) (i := 64 * j + 4 * t + 1) (d := d) (by repeat first | exact wu_eq | assumption | (apply wu_ne; first | omega | assumption | (apply Ne.symm; assumption))) (by repeat first | exact wu_eq | assumption | (apply wu_ne; first | omega | assumption | (apply Ne.symm; assumption))) hn hnT hT (by omega)) rfl rfl (by repeat first | exact wu_eq | assumption | (apply wu_ne; first | omega | assumption | (apply Ne.symm; assumption))) rfl rfl ⟨by decide, by decide⟩ (Nat.le_of_ble_eq_true rfl) ⟨by decide, by decide⟩ ⟨rfl, rfl⟩ ?_
        rintro _ _ _ ⟨rfl, rfl, rfl⟩
        refine r_bipush (v := nI 16) dX8_block_39 (by decide) ?_
        refine r_ishlN 16 (by decide) dX8_block_41 (by omega) ?_
        refine r_ior dX8_block_42 ?_
        rw [or4_1 c1]
        refine r_aload_n dX8_block_43 rfl ?_
        refine r_iload dX8_block_44 rfl ?_
        refine r_iconst (v := nI 2) dX8_block_46 (by decide) ?_
        first | refine r_iaddN dX8_block_47 ?_ | refine r_iadd dX8_block_47 ?_
        refine r_iload_n dX8_block_48 rfl ?_
        refine r_invV dX8_block_49 kX8_159 (c_padded (n := n) (T := T) (i := 64 * j + 4 * t + 2) (d := d) (by repeat first | exact wu_eq | assumption | (apply wu_ne; first | omega | assumption | (apply Ne.symm; assumption))) (by repeat first | exact wu_eq | assumption | (apply wu_ne; first | omega | assumption | (apply Ne.symm; assumption))) hn hnT hT (by omega)) rfl rfl (by repeat first | exact wu_eq | assumption | (apply wu_ne; first | omega | assumption | (apply Ne.symm; assumption))) rfl rfl ⟨by decide, by decide⟩ (Nat.le_of_ble_eq_true rfl) ⟨by decide, by decide⟩ ⟨rfl, rfl⟩ ?_
        rintro _ _ _ ⟨rfl, rfl, rfl⟩
        refine r_bipush (v := nI 8) dX8_block_52 (by decide) ?_
        refine r_ishlN 8 (by decide) dX8_block_54 (by omega) ?_
        refine r_ior dX8_block_55 ?_
        rw [or4_2 c2]
        refine r_aload_n dX8_block_56 rfl ?_
        refine r_iload dX8_block_57 rfl ?_
        refine r_iconst (v := nI 3) dX8_block_59 (by decide) ?_
        first | refine r_iaddN dX8_block_60 ?_ | refine r_iadd dX8_block_60 ?_
        refine r_iload_n dX8_block_61 rfl ?_
        refine r_invV dX8_block_62 kX8_159 (c_padded (n := n) (T := T) (i := 64 * j + 4 * t + 3) (d := d) (by repeat first | exact wu_eq | assumption | (apply wu_ne; first | omega | assumption | (apply Ne.symm; assumption))) (by repeat first | exact wu_eq | assumption | (apply wu_ne; first | omega | assumption | (apply Ne.symm; assumption))) hn hnT hT (by omega)) rfl rfl (by repeat first | exact wu_eq | assumption | (apply wu_ne; first | omega | assumption | (apply Ne.symm; assumption))) rfl rfl ⟨by decide, by decide⟩ (Nat.le_of_ble_eq_true rfl) ⟨by decide, by decide⟩ ⟨rfl, rfl⟩ ?_
        rintro _ _ _ ⟨rfl, rfl, rfl⟩
        refine r_ior dX8_block_65 ?_
        rw [or4_3 c3]
        refine r_iastore dX8_block_66 (by repeat first | exact wu_eq | assumption | (apply wu_ne; first | omega | assumption | (apply Ne.symm; assumption))) _ rfl (by omega) (by omega) ?_
        refine r_iinc (L0 := [(4, _), (0, _), (1, _), (2, _)]) dX8_block_67 rfl (by first | exact iinc1 _ | rfl) (by decide) rfl ?_
        refine r_goto (tgt := 2) dX8_block_70 (by decide) ?_
        refine r_sub [0, 2, 3, 4] rfl ?_
        have hh := ih (t + 1) (by omega)
        rw [← fl_up' (show nI (((pbt d n T (64 * j + 4 * t) * 256 + pbt d n T (64 * j + 4 * t + 1)) * 256 + pbt d n T (64 * j + 4 * t + 2)) * 256 + pbt d n T (64 * j + 4 * t + 3)) = sB d n T j t by simp only [sB, pw, Nat.zero_mul, Nat.zero_add, Nat.add_zero])] at hh
        rw [wu_wu]
        exact hh
  refine ab_Ct.of (by decide +kernel) (Nat.le_of_ble_eq_true rfl) (by rintro _ _ _ ⟨_, rfl, -, -⟩; trivial) ?_
  show ab_St MX8_block g 0 0 0 [(0, .ref 74), (1, .int (nI (64 * j))), (2, .int (nI T))] [] _ _ _
  refine r_iconst (v := nI 0) dX8_block_0 (by decide) ?_
  refine r_istore_n (i := 3) (L0 := [(0, _), (1, _), (2, _)]) dX8_block_1 rfl (by decide) rfl ?_
  have hh := KB 16 0 (by omega)
  rw [fl_0, wu_self h78] at hh
  exact hh
set_option maxRecDepth 100000 in
set_option maxHeartbeats 4000000 in
theorem c_hashes {g : ab_G} {N n : Nat} {d : Nat → Nat} {st f : Nat → Int32} {A B : Value} {rs : List Value} {w : ab_W} (h : w 74 = mdS A B n rs) (h76 : w 76 = aI 300 (bI d)) (h77 : w 77 = aI 8 st) (h78 : w 78 = aI 64 f) (h79 : w 79 = aI 8 sH) (h80 : w 80 = aI 64 sK) (hst0 : ∀ k, 8 ≤ k → st k = 0) (hd : ∀ i, d i < 256) (hn : n ≤ 300) : ab_Ct MX8_hashes g [.ref 74] N w (fun r N' w' => ∃ f', r = none ∧ N = N' ∧ w' = wu (wu w 78 (aI 64 f')) 77 (aI 8 (sha d n))) := by
  have hT : 64 * ((n + 72) / 64) ≤ 2000 := by omega
  have hNB : (n + 72) / 64 ≤ 20 := by omega
  have hnT : n + 9 ≤ 64 * ((n + 72) / 64) := by omega
  have hall : (n + 8) / 64 * 64 + 64 = 64 * ((n + 72) / 64) := by omega
  unfold sha
  generalize hNe : (n + 72) / 64 = NB at hT hNB hnT hall
  have J : ∀ k j, j + k = NB → ∀ f, ab_St MX8_hashes g 0 0 45 [(2, .int (nI (64 * j))), (1, .int (nI (64 * NB))), (0, .ref 74)] [] N (wu (wu w 78 (aI 64 f)) 77 (aI 8 (sS d n (64 * NB) j))) (fun r N' w' => ∃ f', r = none ∧ N = N' ∧ w' = wu (wu w 78 (aI 64 f')) 77 (aI 8 (sS d n (64 * NB) NB))) := by
    intro k
    induction k with
    | zero =>
      intro j hj f
      obtain rfl : j = NB := by omega
      refine r_iload_n dX8_hashes_45 rfl ?_
      refine r_iload_n dX8_hashes_46 rfl ?_
      first | refine r_icmp_geN (tgt := 62) dX8_hashes_47 (by decide) (by omega) (by omega) (fun h47 => ?_) (fun h47 => ?_) | refine r_icmp_ge (tgt := 62) dX8_hashes_47 (by decide) (fun h47 => ?_) (fun h47 => ?_)
      · refine r_ret (r := none) dX8_hashes_62 (by decide) (by decide) ?_
        exact ⟨f, rfl, rfl, rfl⟩
      · omega
    | succ k ih =>
      intro j hj f
      refine r_iload_n dX8_hashes_45 rfl ?_
      refine r_iload_n dX8_hashes_46 rfl ?_
      first | refine r_icmp_geN (tgt := 62) dX8_hashes_47 (by decide) (by omega) (by omega) (fun h47 => ?_) (fun h47 => ?_) | refine r_icmp_ge (tgt := 62) dX8_hashes_47 (by decide) (fun h47 => ?_) (fun h47 => ?_)
      · omega
      · refine r_aload_n dX8_hashes_50 rfl ?_
        refine r_iload_n dX8_hashes_51 rfl ?_
        refine r_iload_n dX8_hashes_52 rfl ?_
        refine r_invV dX8_hashes_53 kX8_166 (c_block (n := n) (T := 64 * NB) (j := j) (d := d) (st := sS d n (64 * NB) j) (f := f) (by repeat first | exact wu_eq | assumption | (apply wu_ne; first | omega | assumption | (apply Ne.symm; assumption))) (by repeat first | exact wu_eq | assumption | (apply wu_ne; first | omega | assumption | (apply Ne.symm; assumption))) (by repeat first | exact wu_eq | assumption | (apply wu_ne; first | omega | assumption | (apply Ne.symm; assumption))) (by repeat first | exact wu_eq | assumption | (apply wu_ne; first | omega | assumption | (apply Ne.symm; assumption))) (by repeat first | exact wu_eq | assumption | (apply wu_ne; first | omega | assumption | (apply Ne.symm; assumption))) hd hn hnT hT (by omega)) rfl rfl (by repeat first | exact wu_eq | assumption | (apply wu_ne; first | omega | assumption | (apply Ne.symm; assumption))) rfl rfl ⟨by decide, by decide⟩ (Nat.le_of_ble_eq_true rfl) ⟨by decide, by decide⟩ ⟨rfl, rfl⟩ ?_
        rintro _ _ _ ⟨f', rfl, rfl, rfl⟩
        refine r_iinc (L0 := [(1, _), (0, _)]) dX8_hashes_56 rfl (by first | exact iinc64 _ | rfl) (by decide) rfl ?_
        refine r_goto (tgt := 45) dX8_hashes_59 (by decide) ?_
        rw [show 64 * j + 64 = 64 * (j + 1) by omega]
        rw [show ∀ X Y Z V, wu (wu (wu (wu w 78 X) 77 Y) 78 Z) 77 V = wu (wu w 78 Z) 77 V from fun X Y Z V => by funext i; simp only [wu]; (repeat' split) <;> first | rfl | omega]
        exact ih (j + 1) (by omega) f'
  have A8 : ∀ k i, i + k = 8 → ab_St MX8_hashes g 0 0 19 [(2, .int (nI i)), (1, .int (nI (64 * NB))), (0, .ref 74)] [] N (wu w 77 (aI 8 (fl i sH st))) (fun r N' w' => ∃ f', r = none ∧ N = N' ∧ w' = wu (wu w 78 (aI 64 f')) 77 (aI 8 (sS d n (64 * NB) NB))) := by
    intro k
    induction k with
    | zero =>
      intro i hi
      obtain rfl : i = 8 := by omega
      have e8 : fl 8 sH st = sS d n (64 * NB) 0 := by
        funext k
        unfold fl
        show _ = if k < 8 then sH k else 0
        by_cases h : k < 8
        · rw [if_pos h, if_pos h]
        · rw [if_neg h, if_neg h, hst0 k (by omega)]
      rw [e8]
      refine r_iload_n dX8_hashes_19 rfl ?_
      refine r_bipush (v := nI 8) dX8_hashes_20 (by decide) ?_
      first | refine r_icmp_geN (tgt := 43) dX8_hashes_22 (by decide) (by omega) (by omega) (fun h22 => ?_) (fun h22 => ?_) | refine r_icmp_ge (tgt := 43) dX8_hashes_22 (by decide) (fun h22 => ?_) (fun h22 => ?_)
      · refine r_iconst (v := nI 0) dX8_hashes_43 (by decide) ?_
        refine r_istore_n (i := 2) (L0 := [(1, _), (0, _)]) dX8_hashes_44 rfl (by decide) rfl ?_
        have hh := J NB 0 (by omega) f
        rw [show wu (wu w 78 (aI 64 f)) 77 (aI 8 (sS d n (64 * NB) 0)) = wu w 77 (aI 8 (sS d n (64 * NB) 0)) by rw [wu_self h78]] at hh
        exact hh
      · omega
    | succ k ih =>
      intro i hi
      refine r_iload_n dX8_hashes_19 rfl ?_
      refine r_bipush (v := nI 8) dX8_hashes_20 (by decide) ?_
      first | refine r_icmp_geN (tgt := 43) dX8_hashes_22 (by decide) (by omega) (by omega) (fun h22 => ?_) (fun h22 => ?_) | refine r_icmp_ge (tgt := 43) dX8_hashes_22 (by decide) (fun h22 => ?_) (fun h22 => ?_)
      · omega
      · refine r_aload_n dX8_hashes_25 rfl ?_
        refine r_getf dX8_hashes_26 fX8_16 (by repeat first | exact wu_eq | assumption | (apply wu_ne; first | omega | assumption | (apply Ne.symm; assumption))) (by rfl) ?_
        refine r_iload_n dX8_hashes_29 rfl ?_
        refine r_aload_n dX8_hashes_30 rfl ?_
        refine r_getf dX8_hashes_31 fX8_30 (by repeat first | exact wu_eq | assumption | (apply wu_ne; first | omega | assumption | (apply Ne.symm; assumption))) (by rfl) ?_
        refine r_iload_n dX8_hashes_34 rfl ?_
        refine r_iaload' dX8_hashes_35 (by repeat first | exact wu_eq | assumption | (apply wu_ne; first | omega | assumption | (apply Ne.symm; assumption))) (by rfl) _ rfl (by omega) (by omega) ?_
        refine r_iastore dX8_hashes_36 (by repeat first | exact wu_eq | assumption | (apply wu_ne; first | omega | assumption | (apply Ne.symm; assumption))) _ rfl (by omega) (by omega) ?_
        refine r_iinc (L0 := [(1, _), (0, _)]) dX8_hashes_37 rfl (by first | exact iinc1 _ | rfl) (by decide) rfl ?_
        refine r_goto (tgt := 19) dX8_hashes_40 (by decide) ?_
        rw [wu_wu, fl_up]
        exact ih (i + 1) (by omega)
  refine ab_Ct.of (by decide +kernel) (Nat.le_of_ble_eq_true rfl) (by rintro _ _ _ ⟨_, rfl, -, -⟩; trivial) ?_
  show ab_St MX8_hashes g 0 0 0 [(0, .ref 74)] [] _ _ _
  refine r_aload_n dX8_hashes_0 rfl ?_
  refine r_getf dX8_hashes_1 fX8_156 (by repeat first | exact wu_eq | assumption | (apply wu_ne; first | omega | assumption | (apply Ne.symm; assumption))) (by rfl) ?_
  refine r_bipush (v := nI 8) dX8_hashes_4 (by decide) ?_
  first | refine r_iaddN dX8_hashes_6 ?_ | refine r_iadd dX8_hashes_6 ?_
  refine r_bipush (v := nI 64) dX8_hashes_7 (by decide) ?_
  refine r_idivN dX8_hashes_9 (by omega) (by omega) (by omega) ?_
  refine r_bipush (v := nI 64) dX8_hashes_10 (by decide) ?_
  first | refine r_imulN dX8_hashes_12 ?_ | refine r_imul dX8_hashes_12 ?_
  refine r_bipush (v := nI 64) dX8_hashes_13 (by decide) ?_
  first | refine r_iaddN dX8_hashes_15 ?_ | refine r_iadd dX8_hashes_15 ?_
  refine r_istore_n (i := 1) (L0 := [(0, _)]) dX8_hashes_16 rfl (by decide) rfl ?_
  refine r_iconst (v := nI 0) dX8_hashes_17 (by decide) ?_
  refine r_istore_n (i := 2) (L0 := [(1, _), (0, _)]) dX8_hashes_18 rfl (by decide) rfl ?_
  rw [hall]
  have hh := A8 8 0 (by omega)
  rw [fl_0, wu_self h77] at hh
  exact hh
set_option maxRecDepth 100000 in
set_option maxHeartbeats 4000000 in
theorem c_mhashByte {g : ab_G} {N n q : Nat} {st : Nat → Int32} {A B : Value} {rs : List Value} {w : ab_W} (h : w 74 = mdS A B n rs) (h77 : w 77 = aI 8 st) (hq : q < 32) : ab_Ct MX8_hashByte g [.ref 74, .int (nI q)] N w (rp (some (.int (nI (hby st q)))) N w) := by
  have hu := u32_lt (st (q / 4))
  have hx : u32 (st (q / 4)) / 2 ^ (24 - 8 * (q % 4)) < 4294967296 := Nat.lt_of_le_of_lt (Nat.div_le_self _ _) hu
  refine ab_Ct.of (by decide +kernel) (Nat.le_of_ble_eq_true rfl) (by rintro _ _ _ ⟨rfl, rfl, rfl⟩; trivial) ?_
  show ab_St MX8_hashByte g 0 0 0 [(0, .ref 74), (1, .int (nI q))] [] _ _ _
  refine r_aload_n dX8_hashByte_0 rfl ?_
  refine r_getf dX8_hashByte_1 fX8_16 (by repeat first | exact wu_eq | assumption | (apply wu_ne; first | omega | assumption | (apply Ne.symm; assumption))) (by rfl) ?_
  refine r_iload_n dX8_hashByte_4 rfl ?_
  refine r_iconst (v := nI 4) dX8_hashByte_5 (by decide) ?_
  refine r_idivN dX8_hashByte_6 (by omega) (by omega) (by omega) ?_
  refine r_iaload' dX8_hashByte_7 (by repeat first | exact wu_eq | assumption | (apply wu_ne; first | omega | assumption | (apply Ne.symm; assumption))) (by rfl) _ rfl (by omega) (by omega) ?_
  refine r_toI (u32_nI _) ?_
  refine r_bipush (v := nI 24) dX8_hashByte_8 (by decide) ?_
  refine r_bipush (v := nI 8) dX8_hashByte_10 (by decide) ?_
  refine r_iload_n dX8_hashByte_12 rfl ?_
  refine r_iconst (v := nI 4) dX8_hashByte_13 (by decide) ?_
  refine r_iremN dX8_hashByte_14 (by omega) (by omega) (by omega) ?_
  first | refine r_imulN dX8_hashByte_15 ?_ | refine r_imul dX8_hashByte_15 ?_
  first | refine r_isubN dX8_hashByte_16 (by omega) ?_ | refine r_isub dX8_hashByte_16 ?_
  refine r_iushrN _ (by omega) dX8_hashByte_17 hu ?_
  refine r_sipush (v := nI 255) dX8_hashByte_18 (by decide) ?_
  refine r_iandN 8 (by decide) dX8_hashByte_21 hx ?_
  refine r_ret (r := (some (.int _))) dX8_hashByte_22 (by decide) (by decide) ?_
  exact ⟨rfl, rfl, rfl⟩
