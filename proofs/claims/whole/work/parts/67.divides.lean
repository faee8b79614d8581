/-! SignHouseModel: dividesAt -/
theorem ins_out {j m T k : Nat} {g : Nat → Nat} (h : k < j ∨ j + m ≤ k) : ins j m T g k = g k := by
  unfold ins
  rw [if_neg (by omega)]
theorem i64_sub {a b c : Nat} (hb : b < 65536) (hc : c ≤ 1) : (a + 18446744073709551616 - b - c) % 65536 = (a + 4294967296 - b - c) % 65536 := by omega
theorem dg_two {a b : Nat} (ha : a < 65536) (hb : b < 65536) : a * 65536 + b < 4294967296 := by omega
theorem kd_6 {x A B u0 : Nat} (h : (x + 1) * 65536 ≤ A) (h0 : u0 < 65536) : x * 65536 + u0 + 1 ≤ A + B := by omega
theorem kd_7 {A B C X ul : Nat} (h : C + X ≤ A) (h0 : ul < X) : C + ul < A + B := by omega
/-- the first guess is not too low -/
theorem KD_guess {U V n f1 f2 u2 u1 u0 q rest : Nat} (h : KD U V n f1 f2 u2 u1 u0) (hi : q * f1 + rest = u2 * 65536 + u1) (hr : rest < f1) : U < (q + 1) * V := by
  obtain ⟨X, vl, ul, e1, e2, e3, e4, e5, e6, e7, e8, e9, e10, e11⟩ := h
  have g1 : (u2 * 65536 + u1) * 65536 + u0 + 1 ≤ (q + 1) * (f1 * 65536 + f2) := by
    have g0 : u2 * 65536 + u1 + 1 ≤ (q + 1) * f1 := by rw [Nat.add_mul, Nat.one_mul]; omega
    have g2 := Nat.mul_le_mul_right 65536 g0
    rw [Nat.mul_add, ← Nat.mul_assoc]
    exact kd_6 g2 e10
  have g2 : ((u2 * 65536 + u1) * 65536 + u0 + 1) * X ≤ (q + 1) * (f1 * 65536 + f2) * X := Nat.mul_le_mul_right X g1
  rw [Nat.add_mul _ 1, Nat.one_mul] at g2
  have g3 : (q + 1) * V = (q + 1) * (f1 * 65536 + f2) * X + (q + 1) * vl := by rw [e1, Nat.mul_add, Nat.mul_assoc]
  rw [g3, e3]
  exact kd_7 g2 e4
set_option maxRecDepth 100000 in
set_option maxHeartbeats 4000000 in
theorem c_dividesAt {g : ab_G} {N s j n : Nat} {v : Nat → Nat} {fs : List Value} {w : ab_W} (h : w 74 = mdX fs) (hx : w 75 = xA v) (hs : s < 19) (hs12 : s ≠ 12) (hn : 2 ≤ n) (hjn : j + n < 84) (hV : v 12 < 65536 ^ n) (hV2 : 65536 ^ n ≤ 2 * v 12) (hS : v s < v 12 * 65536 ^ (j + 1)) : ab_Ct MX8_dividesAt g [.ref 74, .int (nI s), .int (nI j), .int (nI n)] N w (rt none N (wu w 75 (xA (us v s (v s / 65536 ^ j % v 12 * 65536 ^ j + v s % 65536 ^ j))))) := by
  have hpj : 0 < 65536 ^ j := Nat.pow_pos (by decide)
  have hU : v s / 65536 ^ j < v 12 * 65536 := Nat.div_lt_of_lt_mul (by rw [Nat.mul_left_comm, ← Nat.pow_succ]; exact hS)
  have hS2 : v s < 65536 ^ (j + (n + 1)) := by
    refine Nat.lt_trans hS ?_
    rw [show j + (n + 1) = n + (j + 1) by omega, Nat.pow_add 65536 n]
    exact Nat.mul_lt_mul_of_pos_right hV (Nat.pow_pos (by decide))
  have hK := KD_of hn hV hV2 hU
  rw [dg_div, dg_div, dg_div] at hK
  have hdU := fun i => dg_div 65536 (v s) j i
  have hg0 : ∀ k, j + (n + 1) ≤ k → dg 65536 (v s) k = 0 := fun k hk => dg_big hS2 hk (by decide)
  have hUZ : v s / 65536 ^ j < 65536 ^ (n + 1) := by
    rw [Nat.pow_succ]
    exact Nat.lt_trans hU (Nat.mul_lt_mul_of_pos_right hV (by decide))
  have hVZ : v 12 < 65536 ^ (n + 1) := Nat.lt_trans hV (Nat.pow_lt_pow_right (by decide) (by omega))
  have hV0 : 0 < v 12 := by
    have : 0 < 65536 ^ n := Nat.pow_pos (by decide)
    omega
  have hYZ : v s / 65536 ^ j % v 12 < 65536 ^ (n + 1) := Nat.lt_trans (Nat.mod_lt _ hV0) hVZ
  -- behind the guess
  have K159 : ∀ q, q ≤ 65535 → v s / 65536 ^ j < (q + 1) * v 12 → q * v 12 < v s / 65536 ^ j + v 12 → ab_St MX8_dividesAt g 0 0 159 [(12, .long (lN q)), (5, .int (nI 1008)), (4, .int (nI (84 * s + j))), (0, .ref 74), (1, .int (nI s)), (2, .int (nI j)), (3, .int (nI n))] [] N w (rt none N (wu w 75 (xA (us v s (v s / 65536 ^ j % v 12 * 65536 ^ j + v s % 65536 ^ j))))) := by
    intro q hq hq1 hq2
    have hqV : q * v 12 < 65536 ^ (n + 1) := by
      rw [Nat.pow_succ, Nat.mul_comm (65536 ^ n)]
      exact Nat.lt_of_le_of_lt (Nat.mul_le_mul_right _ hq) (Nat.mul_lt_mul_of_lt_of_le (by decide : 65535 < 65536) (Nat.le_of_lt hV) (Nat.pow_pos (by decide)))
    obtain ⟨F1, F2⟩ := div_fin (Z := 65536 ^ (n + 1)) hq1 hq2 hUZ (Nat.le_of_lt hVZ) hqV
    have hbo := fun i (hi : i < n + 1) => bo6_dg (va := v s / 65536 ^ j) (vb := q * v 12) (n := n + 1) (i := i) hi hqV
    have hboe := bo6_end hUZ hqV
    have hTZ : (v s / 65536 ^ j + 65536 ^ (n + 1) - q * v 12) % 65536 ^ (n + 1) < 65536 ^ (n + 1) := Nat.mod_lt _ (Nat.pow_pos (by decide))
    have hcn : gq6 q 0 (v 12) n = dg 65536 (q * v 12) n := by
      rw [gq6_end hV, Nat.zero_add]
      unfold dg
      rw [Nat.mod_eq_of_lt (Nat.div_lt_of_lt_mul (by rw [← Nat.pow_succ]; exact hqV))]
    have hVn : dg 65536 (v 12) n = 0 := dg_big hV (Nat.le_refl _) (by decide)
    generalize hTe : (v s / 65536 ^ j + 65536 ^ (n + 1) - q * v 12) % 65536 ^ (n + 1) = T at F1 F2 hbo hTZ
    clear hTe
    -- the two ends
    have E1 : ¬ v s / 65536 ^ j < q * v 12 → wu w 75 (xB v s (ins j (n + 1) T (dg 65536 (v s)))) = wu w 75 (xA (us v s (v s / 65536 ^ j % v 12 * 65536 ^ j + v s % 65536 ^ j))) := by
      intro hh
      obtain ⟨q1, -⟩ := F1 hh
      rw [q1]
      unfold xB
      rw [xw_us fun k _ => ins_num (fun _ _ => rfl) hg0 hYZ (fun _ _ => rfl) k]
    have E2 : v s / 65536 ^ j < q * v 12 → wu w 75 (xB v s (ins j (n + 1) (T + v 12) (ins j (n + 1) T (dg 65536 (v s))))) = wu w 75 (xA (us v s (v s / 65536 ^ j % v 12 * 65536 ^ j + v s % 65536 ^ j))) := by
      intro hh
      have q1 := F2 hh
      unfold xB
      rw [xw_us fun k _ => ins_num (fun k hk => ins_out (Or.inl hk)) (fun k hk => (ins_out (Or.inr hk)).trans (hg0 k hk)) hYZ (fun i hi => by rw [← q1, dg_mod hi]) k]
    clear F1 F2 hg0 hS2 hqV hTZ hYZ hS hK hU hUZ hVZ hq1 hq2
    have KA : v s / 65536 ^ j < q * v 12 → ∀ z i, i + z = n → ab_St MX8_dividesAt g 0 0 307 [(24, .int (nI i)), (23, .int (nI (ca6 T (v 12) i))), (5, .int (nI 1008)), (4, .int (nI (84 * s + j))), (0, .ref 74), (1, .int (nI s)), (2, .int (nI j)), (3, .int (nI n))] [] N (wu w 75 (xB v s (ins j i (T + v 12) (ins j (n + 1) T (dg 65536 (v s)))))) (rt none N (wu w 75 (xA (us v s (v s / 65536 ^ j % v 12 * 65536 ^ j + v s % 65536 ^ j))))) := by
      intro hlt z
      rw [← E2 hlt]
      clear E1 E2 hlt hbo hboe
      induction z with
      | zero =>
        intro i hi
        obtain rfl : i = n := by omega
        have e1 := ca6_dg T (v 12) i
        rw [hVn, Nat.add_zero] at e1
        refine r_iload dX8_dividesAt_307 rfl ?_
        refine r_iload_n dX8_dividesAt_309 rfl ?_
        first | refine r_icmp_geN (tgt := 367) dX8_dividesAt_310 (by decide) (by omega) (by omega) (fun h310 => ?_) (fun h310 => ?_) | refine r_icmp_ge (tgt := 367) dX8_dividesAt_310 (by decide) (fun h310 => ?_) (fun h310 => ?_)
        · refine r_aload_n dX8_dividesAt_367 rfl ?_
          refine r_getf dX8_dividesAt_368 fX8_7 (by repeat first | exact wu_eq | assumption | (apply wu_ne; first | omega | assumption | (apply Ne.symm; assumption))) (by rfl) ?_
          refine r_iload dX8_dividesAt_371 rfl ?_
          refine r_iload_n dX8_dividesAt_373 rfl ?_
          first | refine r_iaddN dX8_dividesAt_374 ?_ | refine r_iadd dX8_dividesAt_374 ?_
          refine r_aload_n dX8_dividesAt_375 rfl ?_
          refine r_getf dX8_dividesAt_376 fX8_7 (by repeat first | exact wu_eq | assumption | (apply wu_ne; first | omega | assumption | (apply Ne.symm; assumption))) (by rfl) ?_
          refine r_iload dX8_dividesAt_379 rfl ?_
          refine r_iload_n dX8_dividesAt_381 rfl ?_
          first | refine r_iaddN dX8_dividesAt_382 ?_ | refine r_iadd dX8_dividesAt_382 ?_
          refine r_xlS (s := s) (k := j + i) dX8_dividesAt_383 (by repeat first | exact wu_eq | assumption | (apply wu_ne; first | omega | assumption | (apply Ne.symm; assumption))) (congrArg nI (by omega)) (by omega) (by omega) ?_
          rw [ins_hi, ins_lo (Nat.lt_succ_self i)]
          refine r_iload dX8_dividesAt_384 rfl ?_
          first | refine r_iaddN dX8_dividesAt_386 ?_ | refine r_iadd dX8_dividesAt_386 ?_
          refine r_ldc dX8_dividesAt_387 qX8_124 ?_
          refine r_toI (y := nI 65535) rfl ?_
          refine r_iand dX8_dividesAt_389 ?_
          rw [nI_and16, e1]
          refine r_xs (s := s) (k := j + i) dX8_dividesAt_390 (by repeat first | exact wu_eq | assumption | (apply wu_ne; first | omega | assumption | (apply Ne.symm; assumption))) (congrArg nI (by omega)) (by omega) (by omega) ?_
          refine r_ret (r := none) dX8_dividesAt_391 (by decide) (by decide) ?_
          rw [wu_wu, ins_up rfl]
          exact ⟨rfl, rfl, rfl⟩
        · omega
      | succ z ih =>
        intro i hi
        have e1 := ca6_dg T (v 12) i
        have e2 := ca6_succ T (v 12) i
        have d1 := dg6_lt T i
        have d2 := dg6_lt (v 12) i
        have d3 := ca6_le T (v 12) i
        refine r_iload dX8_dividesAt_307 rfl ?_
        refine r_iload_n dX8_dividesAt_309 rfl ?_
        first | refine r_icmp_geN (tgt := 367) dX8_dividesAt_310 (by decide) (by omega) (by omega) (fun h310 => ?_) (fun h310 => ?_) | refine r_icmp_ge (tgt := 367) dX8_dividesAt_310 (by decide) (fun h310 => ?_) (fun h310 => ?_)
        · omega
        · refine r_aload_n dX8_dividesAt_313 rfl ?_
          refine r_getf dX8_dividesAt_314 fX8_7 (by repeat first | exact wu_eq | assumption | (apply wu_ne; first | omega | assumption | (apply Ne.symm; assumption))) (by rfl) ?_
          refine r_iload dX8_dividesAt_317 rfl ?_
          refine r_iload dX8_dividesAt_319 rfl ?_
          first | refine r_iaddN dX8_dividesAt_321 ?_ | refine r_iadd dX8_dividesAt_321 ?_
          refine r_xlS (s := s) (k := j + i) dX8_dividesAt_322 (by repeat first | exact wu_eq | assumption | (apply wu_ne; first | omega | assumption | (apply Ne.symm; assumption))) (congrArg nI (by omega)) (by omega) (by omega) ?_
          rw [ins_hi, ins_lo (by omega : i < n + 1)]
          refine r_aload_n dX8_dividesAt_323 rfl ?_
          refine r_getf dX8_dividesAt_324 fX8_7 (by repeat first | exact wu_eq | assumption | (apply wu_ne; first | omega | assumption | (apply Ne.symm; assumption))) (by rfl) ?_
          refine r_iload dX8_dividesAt_327 rfl ?_
          refine r_iload dX8_dividesAt_329 rfl ?_
          first | refine r_iaddN dX8_dividesAt_331 ?_ | refine r_iadd dX8_dividesAt_331 ?_
          refine r_xlO (s := 12) (k := i) dX8_dividesAt_332 (by repeat first | exact wu_eq | assumption | (apply wu_ne; first | omega | assumption | (apply Ne.symm; assumption))) (congrArg nI (by omega)) (by omega) (by omega) (by first | assumption | omega) ?_
          first | refine r_iaddN dX8_dividesAt_333 ?_ | refine r_iadd dX8_dividesAt_333 ?_
          refine r_iload dX8_dividesAt_334 rfl ?_
          first | refine r_iaddN dX8_dividesAt_336 ?_ | refine r_iadd dX8_dividesAt_336 ?_
          refine r_istore (i := 25) (L0 := [(24, _), (23, _), (5, _), (4, _), (0, _), (1, _), (2, _), (3, _)]) dX8_dividesAt_337 (by decide) rfl ?_
          refine r_aload_n dX8_dividesAt_339 rfl ?_
          refine r_getf dX8_dividesAt_340 fX8_7 (by repeat first | exact wu_eq | assumption | (apply wu_ne; first | omega | assumption | (apply Ne.symm; assumption))) (by rfl) ?_
          refine r_iload dX8_dividesAt_343 rfl ?_
          refine r_iload dX8_dividesAt_345 rfl ?_
          first | refine r_iaddN dX8_dividesAt_347 ?_ | refine r_iadd dX8_dividesAt_347 ?_
          refine r_iload dX8_dividesAt_348 rfl ?_
          refine r_ldc dX8_dividesAt_350 qX8_124 ?_
          refine r_toI (y := nI 65535) rfl ?_
          refine r_iand dX8_dividesAt_352 ?_
          rw [nI_and16, e1]
          refine r_xs (s := s) (k := j + i) dX8_dividesAt_353 (by repeat first | exact wu_eq | assumption | (apply wu_ne; first | omega | assumption | (apply Ne.symm; assumption))) (congrArg nI (by omega)) (by omega) (by omega) ?_
          refine r_iload dX8_dividesAt_354 rfl ?_
          refine r_bipush (v := nI 16) dX8_dividesAt_356 (by decide) ?_
          refine r_ishrN 16 (by decide) dX8_dividesAt_358 (by omega) ?_
          rw [show 2 ^ 16 = 65536 by decide, e2]
          refine r_istore (i := 23) (L0 := [(25, _), (24, _), (5, _), (4, _), (0, _), (1, _), (2, _), (3, _)]) dX8_dividesAt_359 (by decide) rfl ?_
          refine r_iinc (L0 := [(23, _), (25, _), (5, _), (4, _), (0, _), (1, _), (2, _), (3, _)]) dX8_dividesAt_361 rfl (by first | exact iinc1 _ | rfl) (by decide) rfl ?_
          refine r_goto (tgt := 307) dX8_dividesAt_364 (by decide) ?_
          rw [wu_wu, ins_up rfl]
          refine r_sub [0, 1, 3, 4, 5, 6, 7, 8] rfl ?_
          exact ih (i + 1) (by omega)
    have KM : ∀ z i, i + z = n → ab_St MX8_dividesAt g 0 0 168 [(21, .int (nI i)), (19, .long (lN (bo6 (v s / 65536 ^ j) (q * v 12) i))), (17, .long (lN (gq6 q 0 (v 12) i))), (12, .long (lN q)), (5, .int (nI 1008)), (4, .int (nI (84 * s + j))), (0, .ref 74), (1, .int (nI s)), (2, .int (nI j)), (3, .int (nI n))] [] N (wu w 75 (xB v s (ins j i T (dg 65536 (v s))))) (rt none N (wu w 75 (xA (us v s (v s / 65536 ^ j % v 12 * 65536 ^ j + v s % 65536 ^ j))))) := by
      intro z
      induction z with
      | zero =>
        intro i hi
        obtain rfl : i = n := by omega
        have e1 := hbo i (Nat.lt_succ_self i)
        have e2 := bo6_succ (v s / 65536 ^ j) (q * v 12) i
        rw [hdU] at e1 e2
        rw [hboe] at e2
        have d1 := dg6_lt (v s) (j + i)
        have d2 := dg6_lt (q * v 12) i
        have d3 := bo6_le (v s / 65536 ^ j) (q * v 12) i
        have hKA := fun hlt => KA hlt i 0 (by omega)
        rw [ins_0, ca6_0] at hKA
        rw [hcn]
        generalize bo6 (v s / 65536 ^ j) (q * v 12) i = bo at *
        generalize dg 65536 (q * v 12) i = pd at *
        have e3 := i64_sub (a := dg 65536 (v s) (j + i)) d2 d3
        rw [e1] at e3
        clear KA hbo hboe
        refine r_iload dX8_dividesAt_168 rfl ?_
        refine r_iload_n dX8_dividesAt_170 rfl ?_
        first | refine r_icmp_geN (tgt := 260) dX8_dividesAt_171 (by decide) (by omega) (by omega) (fun h171 => ?_) (fun h171 => ?_) | refine r_icmp_ge (tgt := 260) dX8_dividesAt_171 (by decide) (fun h171 => ?_) (fun h171 => ?_)
        · refine r_aload_n dX8_dividesAt_260 rfl ?_
          refine r_getf dX8_dividesAt_261 fX8_7 (by repeat first | exact wu_eq | assumption | (apply wu_ne; first | omega | assumption | (apply Ne.symm; assumption))) (by rfl) ?_
          refine r_iload dX8_dividesAt_264 rfl ?_
          refine r_iload_n dX8_dividesAt_266 rfl ?_
          first | refine r_iaddN dX8_dividesAt_267 ?_ | refine r_iadd dX8_dividesAt_267 ?_
          refine r_xlS (s := s) (k := j + i) dX8_dividesAt_268 (by repeat first | exact wu_eq | assumption | (apply wu_ne; first | omega | assumption | (apply Ne.symm; assumption))) (congrArg nI (by omega)) (by omega) (by omega) ?_
          rw [ins_hi]
          refine r_i2lN dX8_dividesAt_269 (by omega) ?_
          refine r_lload dX8_dividesAt_270 rfl ?_
          refine r_lsub dX8_dividesAt_272 ?_
          refine r_lload dX8_dividesAt_273 rfl ?_
          refine r_lsub dX8_dividesAt_275 ?_
          rw [lN_sub2 (by omega) (by omega)]
          refine r_lstore (i := 21) (L0 := [(19, _), (17, _), (12, _), (5, _), (4, _), (0, _), (1, _), (2, _), (3, _)]) dX8_dividesAt_276 (by decide) rfl ?_
          refine r_aload_n dX8_dividesAt_278 rfl ?_
          refine r_getf dX8_dividesAt_279 fX8_7 (by repeat first | exact wu_eq | assumption | (apply wu_ne; first | omega | assumption | (apply Ne.symm; assumption))) (by rfl) ?_
          refine r_iload dX8_dividesAt_282 rfl ?_
          refine r_iload_n dX8_dividesAt_284 rfl ?_
          first | refine r_iaddN dX8_dividesAt_285 ?_ | refine r_iadd dX8_dividesAt_285 ?_
          refine r_lload dX8_dividesAt_286 rfl ?_
          refine r_ldc2 dX8_dividesAt_288 qX8_125 ?_
          refine r_toJ (y := lN 65535) rfl ?_
          refine r_land dX8_dividesAt_291 ?_
          rw [lN_and16, e3]
          first | refine r_l2iN dX8_dividesAt_292 ?_ | refine r_l2i dX8_dividesAt_292 ?_
          refine r_xs (s := s) (k := j + i) dX8_dividesAt_293 (by repeat first | exact wu_eq | assumption | (apply wu_ne; first | omega | assumption | (apply Ne.symm; assumption))) (congrArg nI (by omega)) (by omega) (by omega) ?_
          refine r_lload dX8_dividesAt_294 rfl ?_
          refine r_lconst (v := lN 0) dX8_dividesAt_296 (by decide) ?_
          rw [wu_wu, ins_up rfl]
          by_cases hlt : v s / 65536 ^ j < q * v 12
          · have hlt2 : dg 65536 (v s) (j + i) < pd + bo := by
              rw [if_pos hlt] at e2
              refine Classical.not_not.mp fun hh => ?_
              rw [if_neg hh] at e2
              exact absurd e2 (by decide)
            refine r_lcmp_ge (tgt := 391) dX8_dividesAt_297 dX8_dividesAt_298 (by decide) (fun hh => absurd (lN_neg (by omega) (by omega)) hh) (fun _ => ?_)
            refine r_iconst (v := nI 0) dX8_dividesAt_301 (by decide) ?_
            refine r_istore (i := 23) (L0 := [(21, _), (19, _), (17, _), (12, _), (5, _), (4, _), (0, _), (1, _), (2, _), (3, _)]) dX8_dividesAt_302 (by decide) rfl ?_
            refine r_iconst (v := nI 0) dX8_dividesAt_304 (by decide) ?_
            refine r_istore (i := 24) (L0 := [(23, _), (21, _), (19, _), (17, _), (12, _), (5, _), (4, _), (0, _), (1, _), (2, _), (3, _)]) dX8_dividesAt_305 (by decide) rfl ?_
            refine r_sub [0, 1, 6, 7, 8, 9, 10, 11] rfl ?_
            exact hKA hlt
          · have hlt2 : ¬ dg 65536 (v s) (j + i) < pd + bo := by
              rw [if_neg hlt] at e2
              intro hh
              rw [if_pos hh] at e2
              exact absurd e2 (by decide)
            refine r_lcmp_ge (tgt := 391) dX8_dividesAt_297 dX8_dividesAt_298 (by decide) (fun _ => ?_) (fun hh => absurd hh (lN_nneg (by omega) (by omega)))
            refine r_ret (r := none) dX8_dividesAt_391 (by decide) (by decide) ?_
            rw [E1 hlt]
            exact ⟨rfl, rfl, rfl⟩
        · omega
      | succ z ih =>
        intro i hi
        have e1 := hbo i (by omega)
        have e2 := bo6_succ (v s / 65536 ^ j) (q * v 12) i
        have g1 := gq6_dg q 0 (v 12) i
        have g2 := gq6_succ q 0 (v 12) i
        have g3 := gq6_le q 0 (v 12) i
        have ih1 := ih (i + 1) (by omega)
        rw [hdU] at e1 e2
        rw [e2, ← g2] at ih1
        rw [Nat.zero_add] at g1
        have d1 := dg6_lt (v s) (j + i)
        have d2 := dg6_lt (q * v 12) i
        have d3 := bo6_le (v s / 65536 ^ j) (q * v 12) i
        have d4 := dg6_lt (v 12) i
        have d5 : q * dg 65536 (v 12) i ≤ 65535 * 65535 := Nat.mul_le_mul hq (by omega)
        have e3 := i64_sub (a := dg 65536 (v s) (j + i)) d2 d3
        rw [e1] at e3
        clear KA hbo hboe E1 E2 ih e2 g2
        refine r_iload dX8_dividesAt_168 rfl ?_
        refine r_iload_n dX8_dividesAt_170 rfl ?_
        first | refine r_icmp_geN (tgt := 260) dX8_dividesAt_171 (by decide) (by omega) (by omega) (fun h171 => ?_) (fun h171 => ?_) | refine r_icmp_ge (tgt := 260) dX8_dividesAt_171 (by decide) (fun h171 => ?_) (fun h171 => ?_)
        · omega
        · refine r_lload dX8_dividesAt_174 rfl ?_
          refine r_aload_n dX8_dividesAt_176 rfl ?_
          refine r_getf dX8_dividesAt_177 fX8_7 (by repeat first | exact wu_eq | assumption | (apply wu_ne; first | omega | assumption | (apply Ne.symm; assumption))) (by rfl) ?_
          refine r_iload dX8_dividesAt_180 rfl ?_
          refine r_iload dX8_dividesAt_182 rfl ?_
          first | refine r_iaddN dX8_dividesAt_184 ?_ | refine r_iadd dX8_dividesAt_184 ?_
          refine r_xlO (s := 12) (k := i) dX8_dividesAt_185 (by repeat first | exact wu_eq | assumption | (apply wu_ne; first | omega | assumption | (apply Ne.symm; assumption))) (congrArg nI (by omega)) (by omega) (by omega) (by first | assumption | omega) ?_
          first | refine r_i2lN dX8_dividesAt_186 (by omega) ?_ | refine r_i2l dX8_dividesAt_186 ?_
          first | refine r_lmulN dX8_dividesAt_187 ?_ | refine r_lmul dX8_dividesAt_187 ?_
          refine r_lload dX8_dividesAt_188 rfl ?_
          first | refine r_laddN dX8_dividesAt_190 ?_ | refine r_ladd dX8_dividesAt_190 ?_
          refine r_lstore (i := 22) (L0 := [(21, _), (19, _), (17, _), (12, _), (5, _), (4, _), (0, _), (1, _), (2, _), (3, _)]) dX8_dividesAt_191 (by decide) rfl ?_
          refine r_lload dX8_dividesAt_193 rfl ?_
          refine r_bipush (v := nI 16) dX8_dividesAt_195 (by decide) ?_
          refine r_lshrN 16 (by decide) dX8_dividesAt_197 (by omega) ?_
          rw [show 2 ^ 16 = 65536 by decide]
          refine r_lstore (i := 17) (L0 := [(22, _), (21, _), (19, _), (12, _), (5, _), (4, _), (0, _), (1, _), (2, _), (3, _)]) dX8_dividesAt_198 (by decide) rfl ?_
          refine r_aload_n dX8_dividesAt_200 rfl ?_
          refine r_getf dX8_dividesAt_201 fX8_7 (by repeat first | exact wu_eq | assumption | (apply wu_ne; first | omega | assumption | (apply Ne.symm; assumption))) (by rfl) ?_
          refine r_iload dX8_dividesAt_204 rfl ?_
          refine r_iload dX8_dividesAt_206 rfl ?_
          first | refine r_iaddN dX8_dividesAt_208 ?_ | refine r_iadd dX8_dividesAt_208 ?_
          refine r_xlS (s := s) (k := j + i) dX8_dividesAt_209 (by repeat first | exact wu_eq | assumption | (apply wu_ne; first | omega | assumption | (apply Ne.symm; assumption))) (congrArg nI (by omega)) (by omega) (by omega) ?_
          rw [ins_hi]
          refine r_i2lN dX8_dividesAt_210 (by omega) ?_
          refine r_lload dX8_dividesAt_211 rfl ?_
          refine r_ldc2 dX8_dividesAt_213 qX8_125 ?_
          refine r_toJ (y := lN 65535) rfl ?_
          refine r_land dX8_dividesAt_216 ?_
          rw [lN_and16, g1]
          refine r_lsub dX8_dividesAt_217 ?_
          refine r_lload dX8_dividesAt_218 rfl ?_
          refine r_lsub dX8_dividesAt_220 ?_
          rw [lN_sub2 (by omega) (by omega)]
          refine r_lstore (i := 24) (L0 := [(17, _), (22, _), (21, _), (19, _), (12, _), (5, _), (4, _), (0, _), (1, _), (2, _), (3, _)]) dX8_dividesAt_221 (by decide) rfl ?_
          refine r_aload_n dX8_dividesAt_223 rfl ?_
          refine r_getf dX8_dividesAt_224 fX8_7 (by repeat first | exact wu_eq | assumption | (apply wu_ne; first | omega | assumption | (apply Ne.symm; assumption))) (by rfl) ?_
          refine r_iload dX8_dividesAt_227 rfl ?_
          refine r_iload dX8_dividesAt_229 rfl ?_
          first | refine r_iaddN dX8_dividesAt_231 ?_ | refine r_iadd dX8_dividesAt_231 ?_
          refine r_lload dX8_dividesAt_232 rfl ?_
          refine r_ldc2 dX8_dividesAt_234 qX8_125 ?_
          refine r_toJ (y := lN 65535) rfl ?_
          refine r_land dX8_dividesAt_237 ?_
          rw [lN_and16, e3]
          first | refine r_l2iN dX8_dividesAt_238 ?_ | refine r_l2i dX8_dividesAt_238 ?_
          refine r_xs (s := s) (k := j + i) dX8_dividesAt_239 (by repeat first | exact wu_eq | assumption | (apply wu_ne; first | omega | assumption | (apply Ne.symm; assumption))) (congrArg nI (by omega)) (by omega) (by omega) ?_
          refine r_lload dX8_dividesAt_240 rfl ?_
          refine r_lconst (v := lN 0) dX8_dividesAt_242 (by decide) ?_
          rw [wu_wu, ins_up rfl]
          by_cases hlt2 : dg 65536 (v s) (j + i) < dg 65536 (q * v 12) i + bo6 (v s / 65536 ^ j) (q * v 12) i
          · rw [if_pos hlt2] at ih1
            refine r_lcmp_ge (tgt := 251) dX8_dividesAt_243 dX8_dividesAt_244 (by decide) (fun hh => absurd (lN_neg (by omega) (by omega)) hh) (fun _ => ?_)
            refine r_lconst (v := lN 1) dX8_dividesAt_247 (by decide) ?_
            refine r_goto (tgt := 252) dX8_dividesAt_248 (by decide) ?_
            refine r_lstore (i := 19) (L0 := [(24, _), (17, _), (22, _), (21, _), (12, _), (5, _), (4, _), (0, _), (1, _), (2, _), (3, _)]) dX8_dividesAt_252 (by decide) rfl ?_
            refine r_iinc (L0 := [(19, _), (24, _), (17, _), (22, _), (12, _), (5, _), (4, _), (0, _), (1, _), (2, _), (3, _)]) dX8_dividesAt_254 rfl (by first | exact iinc1 _ | rfl) (by decide) rfl ?_
            refine r_goto (tgt := 168) dX8_dividesAt_257 (by decide) ?_
            refine r_sub [0, 1, 3, 5, 6, 7, 8, 9, 10, 11] rfl ?_
            exact ih1
          · rw [if_neg hlt2] at ih1
            refine r_lcmp_ge (tgt := 251) dX8_dividesAt_243 dX8_dividesAt_244 (by decide) (fun _ => ?_) (fun hh => absurd hh (lN_nneg (by omega) (by omega)))
            refine r_lconst (v := lN 0) dX8_dividesAt_251 (by decide) ?_
            refine r_lstore (i := 19) (L0 := [(24, _), (17, _), (22, _), (21, _), (12, _), (5, _), (4, _), (0, _), (1, _), (2, _), (3, _)]) dX8_dividesAt_252 (by decide) rfl ?_
            refine r_iinc (L0 := [(19, _), (24, _), (17, _), (22, _), (12, _), (5, _), (4, _), (0, _), (1, _), (2, _), (3, _)]) dX8_dividesAt_254 rfl (by first | exact iinc1 _ | rfl) (by decide) rfl ?_
            refine r_goto (tgt := 168) dX8_dividesAt_257 (by decide) ?_
            refine r_sub [0, 1, 3, 5, 6, 7, 8, 9, 10, 11] rfl ?_
            exact ih1
    have hh := KM n 0 (by omega)
    rw [ins_0, bo6_0, gq6_0] at hh
    unfold xB at hh
    rw [xw_v, wu_self hx] at hh
    refine r_lconst (v := lN 0) dX8_dividesAt_159 (by decide) ?_
    refine r_lstore (i := 17) (L0 := [(12, _), (5, _), (4, _), (0, _), (1, _), (2, _), (3, _)]) dX8_dividesAt_160 (by decide) rfl ?_
    refine r_lconst (v := lN 0) dX8_dividesAt_162 (by decide) ?_
    refine r_lstore (i := 19) (L0 := [(17, _), (12, _), (5, _), (4, _), (0, _), (1, _), (2, _), (3, _)]) dX8_dividesAt_163 (by decide) rfl ?_
    refine r_iconst (v := nI 0) dX8_dividesAt_165 (by decide) ?_
    refine r_istore (i := 21) (L0 := [(19, _), (17, _), (12, _), (5, _), (4, _), (0, _), (1, _), (2, _), (3, _)]) dX8_dividesAt_166 (by decide) rfl ?_
    refine r_sub [0, 1, 2, 3, 4, 5, 6, 7, 8, 9] rfl ?_
    exact hh
  have d1 := dg6_lt (v s) (j + n)
  have d2 := dg6_lt (v s) (j + (n - 1))
  have d3 := dg6_lt (v s) (j + (n - 2))
  have d4 := dg6_lt (v 12) (n - 1)
  have d5 := dg6_lt (v 12) (n - 2)
  have hf1 : 32768 ≤ dg 65536 (v 12) (n - 1) := by
    obtain ⟨X, vl, ul, -, -, -, -, e5, -⟩ := id hK
    exact e5
  clear hdU hg0 hS2 hUZ hVZ hYZ hS hV hV2 hU hpj
  -- the guess made smaller
  have K86 : ∀ q rest, q * dg 65536 (v 12) (n - 1) + rest = dg 65536 (v s) (j + n) * 65536 + dg 65536 (v s) (j + (n - 1)) → v s / 65536 ^ j < (q + 1) * v 12 → rest ≤ 65535 → ab_St MX8_dividesAt g 0 0 86 [(16, .int (nI 1)), (14, .long (lN rest)), (12, .long (lN q)), (8, .long (lN (dg 65536 (v 12) (n - 2)))), (6, .long (lN (dg 65536 (v 12) (n - 1)))), (5, .int (nI 1008)), (4, .int (nI (84 * s + j))), (0, .ref 74), (1, .int (nI s)), (2, .int (nI j)), (3, .int (nI n))] [] N w (rt none N (wu w 75 (xA (us v s (v s / 65536 ^ j % v 12 * 65536 ^ j + v s % 65536 ^ j))))) := by
    intro q
    induction q with
    | zero =>
      intro rest hi hlt hr
      refine r_iload dX8_dividesAt_86 rfl ?_
      first | refine r_if_eqN (tgt := 159) dX8_dividesAt_88 (by decide) (by omega) (fun h88 => ?_) (fun h88 => ?_) | refine r_if_eq (tgt := 159) dX8_dividesAt_88 (by decide) (fun h88 => ?_) (fun h88 => ?_)
      · omega
      · refine r_lload dX8_dividesAt_91 rfl ?_
        refine r_ldc2 dX8_dividesAt_93 qX8_125 ?_
        refine r_toJ (y := lN 65535) rfl ?_
        first | refine r_lcmp_gtN (tgt := 127) dX8_dividesAt_96 dX8_dividesAt_97 (by decide) (by omega) (by omega) (fun h96 => ?_) (fun h96 => ?_) | refine r_lcmp_gt (tgt := 127) dX8_dividesAt_96 dX8_dividesAt_97 (by decide) (fun h96 => ?_) (fun h96 => ?_)
        · omega
        · refine r_lload dX8_dividesAt_100 rfl ?_
          refine r_lload dX8_dividesAt_102 rfl ?_
          refine r_lmulN (a := 0) (b := dg 65536 (v 12) (n - 2)) dX8_dividesAt_104 ?_
          rw [Nat.zero_mul]
          refine r_lload dX8_dividesAt_105 rfl ?_
          refine r_bipush (v := nI 16) dX8_dividesAt_107 (by decide) ?_
          first | refine r_lshlN 16 (by decide) dX8_dividesAt_109 ?_ | refine r_lshl dX8_dividesAt_109 ?_
          refine r_aload_n dX8_dividesAt_110 rfl ?_
          refine r_getf dX8_dividesAt_111 fX8_7 (by repeat first | exact wu_eq | assumption | (apply wu_ne; first | omega | assumption | (apply Ne.symm; assumption))) (by rfl) ?_
          refine r_iload dX8_dividesAt_114 rfl ?_
          refine r_iload_n dX8_dividesAt_116 rfl ?_
          first | refine r_iaddN dX8_dividesAt_117 ?_ | refine r_iadd dX8_dividesAt_117 ?_
          refine r_iconst (v := nI 2) dX8_dividesAt_118 (by decide) ?_
          first | refine r_isubN dX8_dividesAt_119 (by omega) ?_ | refine r_isub dX8_dividesAt_119 ?_
          refine r_xlV (s := s) (k := j + (n - 2)) dX8_dividesAt_120 (by repeat first | exact wu_eq | assumption | (apply wu_ne; first | omega | assumption | (apply Ne.symm; assumption))) (congrArg nI (by omega)) (by omega) (by omega) ?_
          first | refine r_i2lN dX8_dividesAt_121 (by omega) ?_ | refine r_i2l dX8_dividesAt_121 ?_
          refine r_lor dX8_dividesAt_122 ?_
          rw [lN_or_sum (q := 16) (by omega) (by omega), show 2 ^ 16 = 65536 by decide]
          first | refine r_lcmp_leN (tgt := 159) dX8_dividesAt_123 dX8_dividesAt_124 (by decide) (by omega) (by omega) (fun h123 => ?_) (fun h123 => ?_) | refine r_lcmp_le (tgt := 159) dX8_dividesAt_123 dX8_dividesAt_124 (by decide) (fun h123 => ?_) (fun h123 => ?_)
          · refine r_sub [2, 5, 6, 7, 8, 9, 10] rfl ?_
            exact K159 0 (by decide) hlt (KD_end hK hi (by decide) (by omega))
          · omega
    | succ q ih =>
      intro rest hi hlt hr
      have hqm : (q + 1) * 32768 ≤ (q + 1) * dg 65536 (v 12) (n - 1) := Nat.mul_le_mul_left _ hf1
      have hq2 : q + 1 < 131072 := by omega
      have hm : (q + 1) * dg 65536 (v 12) (n - 2) ≤ 131072 * 65535 := Nat.mul_le_mul (by omega) (by omega)
      have hi2 : q * dg 65536 (v 12) (n - 1) + (rest + dg 65536 (v 12) (n - 1)) = dg 65536 (v s) (j + n) * 65536 + dg 65536 (v s) (j + (n - 1)) := by
        rw [← hi, Nat.add_mul, Nat.one_mul]
        omega
      have K127 : (65535 < q + 1 ∨ rest * 65536 + dg 65536 (v s) (j + (n - 2)) < (q + 1) * dg 65536 (v 12) (n - 2)) → ab_St MX8_dividesAt g 0 0 127 [(16, .int (nI 1)), (14, .long (lN rest)), (12, .long (lN (q + 1))), (8, .long (lN (dg 65536 (v 12) (n - 2)))), (6, .long (lN (dg 65536 (v 12) (n - 1)))), (5, .int (nI 1008)), (4, .int (nI (84 * s + j))), (0, .ref 74), (1, .int (nI s)), (2, .int (nI j)), (3, .int (nI n))] [] N w (rt none N (wu w 75 (xA (us v s (v s / 65536 ^ j % v 12 * 65536 ^ j + v s % 65536 ^ j))))) := by
        intro hc
        have hlt2 := KD_dec hK hi hc
        refine r_lload dX8_dividesAt_127 rfl ?_
        refine r_lconst (v := lN 1) dX8_dividesAt_129 (by decide) ?_
        refine r_lsubN (b := 1) dX8_dividesAt_130 (by omega) ?_
        rw [Nat.add_sub_cancel]
        refine r_lstore (i := 12) (L0 := [(16, _), (14, _), (8, _), (6, _), (5, _), (4, _), (0, _), (1, _), (2, _), (3, _)]) dX8_dividesAt_131 (by decide) rfl ?_
        refine r_lload dX8_dividesAt_133 rfl ?_
        refine r_lload dX8_dividesAt_135 rfl ?_
        first | refine r_laddN dX8_dividesAt_137 ?_ | refine r_ladd dX8_dividesAt_137 ?_
        refine r_lstore (i := 14) (L0 := [(12, _), (16, _), (8, _), (6, _), (5, _), (4, _), (0, _), (1, _), (2, _), (3, _)]) dX8_dividesAt_138 (by decide) rfl ?_
        refine r_lload dX8_dividesAt_140 rfl ?_
        refine r_ldc2 dX8_dividesAt_142 qX8_125 ?_
        refine r_toJ (y := lN 65535) rfl ?_
        first | refine r_lcmp_gtN (tgt := 153) dX8_dividesAt_145 dX8_dividesAt_146 (by decide) (by omega) (by omega) (fun h145 => ?_) (fun h145 => ?_) | refine r_lcmp_gt (tgt := 153) dX8_dividesAt_145 dX8_dividesAt_146 (by decide) (fun h145 => ?_) (fun h145 => ?_)
        · refine r_iconst (v := nI 0) dX8_dividesAt_153 (by decide) ?_
          refine r_istore (i := 16) (L0 := [(14, _), (12, _), (8, _), (6, _), (5, _), (4, _), (0, _), (1, _), (2, _), (3, _)]) dX8_dividesAt_154 (by decide) rfl ?_
          refine r_goto (tgt := 86) dX8_dividesAt_156 (by decide) ?_
          have hmm := KD_more hK hi2 (by omega)
          refine r_iload dX8_dividesAt_86 rfl ?_
          first | refine r_if_eqN (tgt := 159) dX8_dividesAt_88 (by decide) (by omega) (fun h88 => ?_) (fun h88 => ?_) | refine r_if_eq (tgt := 159) dX8_dividesAt_88 (by decide) (fun h88 => ?_) (fun h88 => ?_)
          · refine r_sub [2, 5, 6, 7, 8, 9, 10] rfl ?_
            exact K159 q hmm.1 hlt2 (KD_end hK hi2 hmm.1 hmm.2)
          · omega
        · refine r_iconst (v := nI 1) dX8_dividesAt_149 (by decide) ?_
          refine r_goto (tgt := 154) dX8_dividesAt_150 (by decide) ?_
          refine r_istore (i := 16) (L0 := [(14, _), (12, _), (8, _), (6, _), (5, _), (4, _), (0, _), (1, _), (2, _), (3, _)]) dX8_dividesAt_154 (by decide) rfl ?_
          refine r_goto (tgt := 86) dX8_dividesAt_156 (by decide) ?_
          refine r_sub [0, 1, 2, 3, 4, 5, 6, 7, 8, 9, 10] rfl ?_
          exact ih _ hi2 hlt2 (by omega)
      refine r_iload dX8_dividesAt_86 rfl ?_
      first | refine r_if_eqN (tgt := 159) dX8_dividesAt_88 (by decide) (by omega) (fun h88 => ?_) (fun h88 => ?_) | refine r_if_eq (tgt := 159) dX8_dividesAt_88 (by decide) (fun h88 => ?_) (fun h88 => ?_)
      · omega
      · refine r_lload dX8_dividesAt_91 rfl ?_
        refine r_ldc2 dX8_dividesAt_93 qX8_125 ?_
        refine r_toJ (y := lN 65535) rfl ?_
        first | refine r_lcmp_gtN (tgt := 127) dX8_dividesAt_96 dX8_dividesAt_97 (by decide) (by omega) (by omega) (fun h96 => ?_) (fun h96 => ?_) | refine r_lcmp_gt (tgt := 127) dX8_dividesAt_96 dX8_dividesAt_97 (by decide) (fun h96 => ?_) (fun h96 => ?_)
        · exact K127 (Or.inl (by omega))
        · refine r_lload dX8_dividesAt_100 rfl ?_
          refine r_lload dX8_dividesAt_102 rfl ?_
          refine r_lmulN (a := q + 1) (b := dg 65536 (v 12) (n - 2)) dX8_dividesAt_104 ?_
          refine r_lload dX8_dividesAt_105 rfl ?_
          refine r_bipush (v := nI 16) dX8_dividesAt_107 (by decide) ?_
          first | refine r_lshlN 16 (by decide) dX8_dividesAt_109 ?_ | refine r_lshl dX8_dividesAt_109 ?_
          refine r_aload_n dX8_dividesAt_110 rfl ?_
          refine r_getf dX8_dividesAt_111 fX8_7 (by repeat first | exact wu_eq | assumption | (apply wu_ne; first | omega | assumption | (apply Ne.symm; assumption))) (by rfl) ?_
          refine r_iload dX8_dividesAt_114 rfl ?_
          refine r_iload_n dX8_dividesAt_116 rfl ?_
          first | refine r_iaddN dX8_dividesAt_117 ?_ | refine r_iadd dX8_dividesAt_117 ?_
          refine r_iconst (v := nI 2) dX8_dividesAt_118 (by decide) ?_
          first | refine r_isubN dX8_dividesAt_119 (by omega) ?_ | refine r_isub dX8_dividesAt_119 ?_
          refine r_xlV (s := s) (k := j + (n - 2)) dX8_dividesAt_120 (by repeat first | exact wu_eq | assumption | (apply wu_ne; first | omega | assumption | (apply Ne.symm; assumption))) (congrArg nI (by omega)) (by omega) (by omega) ?_
          first | refine r_i2lN dX8_dividesAt_121 (by omega) ?_ | refine r_i2l dX8_dividesAt_121 ?_
          refine r_lor dX8_dividesAt_122 ?_
          rw [lN_or_sum (q := 16) (by omega) (by omega), show 2 ^ 16 = 65536 by decide]
          first | refine r_lcmp_leN (tgt := 159) dX8_dividesAt_123 dX8_dividesAt_124 (by decide) (by omega) (by omega) (fun h123 => ?_) (fun h123 => ?_) | refine r_lcmp_le (tgt := 159) dX8_dividesAt_123 dX8_dividesAt_124 (by decide) (fun h123 => ?_) (fun h123 => ?_)
          · refine r_sub [2, 5, 6, 7, 8, 9, 10] rfl ?_
            exact K159 (q + 1) (by omega) hlt (KD_end hK hi (by omega) (by omega))
          · exact K127 (Or.inr (by omega))
  have hm0 : dg 65536 (v s) (j + n) * 65536 + dg 65536 (v s) (j + (n - 1)) < 4294967296 := dg_two d1 d2
  have hf0 : 0 < dg 65536 (v 12) (n - 1) := by omega
  have hdm := Nat.div_add_mod (dg 65536 (v s) (j + n) * 65536 + dg 65536 (v s) (j + (n - 1))) (dg 65536 (v 12) (n - 1))
  have hrm := Nat.mod_lt (dg 65536 (v s) (j + n) * 65536 + dg 65536 (v s) (j + (n - 1))) hf0
  rw [Nat.mul_comm] at hdm
  have hg := KD_guess hK hdm hrm
  have hy0 : ¬ lN (dg 65536 (v 12) (n - 1)) = 0 := fun q => absurd ((pk_lEQ (by omega) (by decide)).mp (show lN (dg 65536 (v 12) (n - 1)) = lN 0 from q)) (by omega)
  refine ab_Ct.of (by decide +kernel) (Nat.le_of_ble_eq_true rfl) (by rintro _ _ _ ⟨rfl, rfl, rfl⟩; trivial) ?_
  show ab_St MX8_dividesAt g 0 0 0 [(0, .ref 74), (1, .int (nI s)), (2, .int (nI j)), (3, .int (nI n))] [] _ _ _
  refine r_bipush (v := nI 84) dX8_dividesAt_0 (by decide) ?_
  refine r_iload_n dX8_dividesAt_2 rfl ?_
  first | refine r_imulN dX8_dividesAt_3 ?_ | refine r_imul dX8_dividesAt_3 ?_
  refine r_iload_n dX8_dividesAt_4 rfl ?_
  first | refine r_iaddN dX8_dividesAt_5 ?_ | refine r_iadd dX8_dividesAt_5 ?_
  refine r_istore (i := 4) (L0 := [(0, _), (1, _), (2, _), (3, _)]) dX8_dividesAt_6 (by decide) rfl ?_
  refine r_sipush (v := nI 1008) dX8_dividesAt_8 (by decide) ?_
  refine r_istore (i := 5) (L0 := [(4, _), (0, _), (1, _), (2, _), (3, _)]) dX8_dividesAt_11 (by decide) rfl ?_
  refine r_aload_n dX8_dividesAt_13 rfl ?_
  refine r_getf dX8_dividesAt_14 fX8_7 (by repeat first | exact wu_eq | assumption | (apply wu_ne; first | omega | assumption | (apply Ne.symm; assumption))) (by rfl) ?_
  refine r_iload dX8_dividesAt_17 rfl ?_
  refine r_iload_n dX8_dividesAt_19 rfl ?_
  first | refine r_iaddN dX8_dividesAt_20 ?_ | refine r_iadd dX8_dividesAt_20 ?_
  refine r_iconst (v := nI 1) dX8_dividesAt_21 (by decide) ?_
  first | refine r_isubN dX8_dividesAt_22 (by omega) ?_ | refine r_isub dX8_dividesAt_22 ?_
  refine r_xlV (s := 12) (k := n - 1) dX8_dividesAt_23 (by repeat first | exact wu_eq | assumption | (apply wu_ne; first | omega | assumption | (apply Ne.symm; assumption))) (congrArg nI (by omega)) (by omega) (by omega) ?_
  first | refine r_i2lN dX8_dividesAt_24 (by omega) ?_ | refine r_i2l dX8_dividesAt_24 ?_
  refine r_lstore (i := 6) (L0 := [(5, _), (4, _), (0, _), (1, _), (2, _), (3, _)]) dX8_dividesAt_25 (by decide) rfl ?_
  refine r_aload_n dX8_dividesAt_27 rfl ?_
  refine r_getf dX8_dividesAt_28 fX8_7 (by repeat first | exact wu_eq | assumption | (apply wu_ne; first | omega | assumption | (apply Ne.symm; assumption))) (by rfl) ?_
  refine r_iload dX8_dividesAt_31 rfl ?_
  refine r_iload_n dX8_dividesAt_33 rfl ?_
  first | refine r_iaddN dX8_dividesAt_34 ?_ | refine r_iadd dX8_dividesAt_34 ?_
  refine r_iconst (v := nI 2) dX8_dividesAt_35 (by decide) ?_
  first | refine r_isubN dX8_dividesAt_36 (by omega) ?_ | refine r_isub dX8_dividesAt_36 ?_
  refine r_xlV (s := 12) (k := n - 2) dX8_dividesAt_37 (by repeat first | exact wu_eq | assumption | (apply wu_ne; first | omega | assumption | (apply Ne.symm; assumption))) (congrArg nI (by omega)) (by omega) (by omega) ?_
  first | refine r_i2lN dX8_dividesAt_38 (by omega) ?_ | refine r_i2l dX8_dividesAt_38 ?_
  refine r_lstore (i := 8) (L0 := [(6, _), (5, _), (4, _), (0, _), (1, _), (2, _), (3, _)]) dX8_dividesAt_39 (by decide) rfl ?_
  refine r_aload_n dX8_dividesAt_41 rfl ?_
  refine r_getf dX8_dividesAt_42 fX8_7 (by repeat first | exact wu_eq | assumption | (apply wu_ne; first | omega | assumption | (apply Ne.symm; assumption))) (by rfl) ?_
  refine r_iload dX8_dividesAt_45 rfl ?_
  refine r_iload_n dX8_dividesAt_47 rfl ?_
  first | refine r_iaddN dX8_dividesAt_48 ?_ | refine r_iadd dX8_dividesAt_48 ?_
  refine r_xlV (s := s) (k := j + n) dX8_dividesAt_49 (by repeat first | exact wu_eq | assumption | (apply wu_ne; first | omega | assumption | (apply Ne.symm; assumption))) (congrArg nI (by omega)) (by omega) (by omega) ?_
  first | refine r_i2lN dX8_dividesAt_50 (by omega) ?_ | refine r_i2l dX8_dividesAt_50 ?_
  refine r_bipush (v := nI 16) dX8_dividesAt_51 (by decide) ?_
  first | refine r_lshlN 16 (by decide) dX8_dividesAt_53 ?_ | refine r_lshl dX8_dividesAt_53 ?_
  refine r_aload_n dX8_dividesAt_54 rfl ?_
  refine r_getf dX8_dividesAt_55 fX8_7 (by repeat first | exact wu_eq | assumption | (apply wu_ne; first | omega | assumption | (apply Ne.symm; assumption))) (by rfl) ?_
  refine r_iload dX8_dividesAt_58 rfl ?_
  refine r_iload_n dX8_dividesAt_60 rfl ?_
  first | refine r_iaddN dX8_dividesAt_61 ?_ | refine r_iadd dX8_dividesAt_61 ?_
  refine r_iconst (v := nI 1) dX8_dividesAt_62 (by decide) ?_
  first | refine r_isubN dX8_dividesAt_63 (by omega) ?_ | refine r_isub dX8_dividesAt_63 ?_
  refine r_xlV (s := s) (k := j + (n - 1)) dX8_dividesAt_64 (by repeat first | exact wu_eq | assumption | (apply wu_ne; first | omega | assumption | (apply Ne.symm; assumption))) (congrArg nI (by omega)) (by omega) (by omega) ?_
  first | refine r_i2lN dX8_dividesAt_65 (by omega) ?_ | refine r_i2l dX8_dividesAt_65 ?_
  refine r_lor dX8_dividesAt_66 ?_
  rw [lN_or_sum (q := 16) d2 (by rw [show (2 : Nat) ^ 16 = 65536 by decide]; exact Nat.lt_trans hm0 (by decide)), show 2 ^ 16 = 65536 by decide]
  refine r_lstore (i := 10) (L0 := [(8, _), (6, _), (5, _), (4, _), (0, _), (1, _), (2, _), (3, _)]) dX8_dividesAt_67 (by decide) rfl ?_
  refine r_lload dX8_dividesAt_69 rfl ?_
  refine r_lload dX8_dividesAt_71 rfl ?_
  refine r_ldiv dX8_dividesAt_73 hy0 ?_
  rw [pk_lDiv (Nat.lt_trans hm0 (by decide)) hf0 (Nat.lt_trans d4 (by decide))]
  refine r_lstore (i := 12) (L0 := [(10, _), (8, _), (6, _), (5, _), (4, _), (0, _), (1, _), (2, _), (3, _)]) dX8_dividesAt_74 (by decide) rfl ?_
  refine r_lload dX8_dividesAt_76 rfl ?_
  refine r_lload dX8_dividesAt_78 rfl ?_
  refine r_lrem dX8_dividesAt_80 hy0 ?_
  rw [lN_rem (Nat.lt_trans hm0 (by decide)) hf0 (Nat.lt_trans d4 (by decide))]
  refine r_lstore (i := 14) (L0 := [(12, _), (10, _), (8, _), (6, _), (5, _), (4, _), (0, _), (1, _), (2, _), (3, _)]) dX8_dividesAt_81 (by decide) rfl ?_
  refine r_iconst (v := nI 1) dX8_dividesAt_83 (by decide) ?_
  refine r_istore (i := 16) (L0 := [(14, _), (12, _), (10, _), (8, _), (6, _), (5, _), (4, _), (0, _), (1, _), (2, _), (3, _)]) dX8_dividesAt_84 (by decide) rfl ?_
  refine r_sub [0, 1, 2, 4, 5, 6, 7, 8, 9, 10, 11] rfl ?_
  exact K86 _ _ hdm hg (by omega)
