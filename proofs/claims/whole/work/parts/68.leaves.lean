/-! SignHouseModel: leaves, bit -/
theorem nI_and (a b : Nat) : nI a &&& nI b = nI (a &&& b) := by
  apply Int32.toBitVec_inj.mp
  show BitVec.ofNat 32 a &&& BitVec.ofNat 32 b = BitVec.ofNat 32 (a &&& b)
  rw [BitVec.ofNat_and]
theorem and_top {x : Nat} (h : x < 65536) : x &&& 32768 = if x < 32768 then 0 else 32768 := by
  have e15 : (32768 : Nat) = 2 ^ 15 := by decide
  apply Nat.eq_of_testBit_eq
  intro j
  by_cases h1 : x < 32768
  · rw [if_pos h1, Nat.testBit_and, e15, Nat.testBit_two_pow, Nat.zero_testBit]
    by_cases hj : 15 = j
    · rw [← hj, Nat.testBit_lt_two_pow (by rw [← e15]; exact h1)]
      rfl
    · rw [decide_eq_false hj, Bool.and_false]
  · rw [if_neg h1, Nat.testBit_and, e15, Nat.testBit_two_pow]
    by_cases hj : 15 = j
    · rw [← hj, Nat.testBit_of_two_pow_le_and_two_pow_add_one_gt (by omega) (by omega)]
      rfl
    · rw [decide_eq_false hj, Bool.and_false]
theorem lv_1 {Z P A B : Nat} (h1 : Z = P * 65536) (h2 : A ≤ B) (h3 : 32768 * P ≤ A) : Z ≤ 2 * B := by omega
theorem lv_2 {t b : Nat} (hb : b < 16) (h : t * 2 ^ b < 65536) : (t + 1) * 2 ^ b ≤ 65536 := by
  have e : (65536 : Nat) = 2 ^ (16 - b) * 2 ^ b := by rw [← Nat.pow_add, show 16 - b + b = 16 by omega]
  rw [e] at h ⊢
  exact Nat.mul_le_mul_right _ (Nat.lt_of_mul_lt_mul_right h)
theorem lv_3 {A C D F : Nat} (h1 : A < C) (h2 : C ≤ D * 32768) (h3 : D * 65536 ≤ 2 * F) : A < F := by omega
theorem leaves_step {S M P : Nat} (hP : 0 < P) (hM : 0 < M) : (S / P % M * P + S % P < M * P) ∧ (S / P % M * P + S % P) % M = S % M := by
  have h1 := Nat.mod_lt (S / P) hM
  have h2 := Nat.mod_lt S hP
  constructor
  · have h3 : (S / P % M + 1) * P ≤ M * P := Nat.mul_le_mul_right P h1
    rw [Nat.add_mul, Nat.one_mul] at h3
    omega
  · have h4 := Nat.div_add_mod S P
    rw [Nat.mul_comm] at h4
    conv => rhs; rw [← h4]
    rw [Nat.add_mod, Nat.mul_mod, Nat.mod_mod, ← Nat.mul_mod, ← Nat.add_mod]
theorem xA_cong {v v' : Nat → Nat} (h : ∀ k, k < 19 → v k = v' k) : xA v = xA v' := by
  unfold xA xv xd
  congr 3
  funext i
  split
  · show nI (dg 65536 (v (i / 84)) (i % 84)) = nI (dg 65536 (v' (i / 84)) (i % 84))
    rw [h (i / 84) (by omega)]
  · rfl
set_option maxRecDepth 100000 in
set_option maxHeartbeats 4000000 in
theorem c_leaves {g : ab_G} {N s m : Nat} {v : Nat → Nat} {fs : List Value} {w : ab_W} (h : w 74 = mdX fs) (hx : w 75 = xA v) (hs : s < 19) (hm : m < 19) (hs12 : s ≠ 12) (hm12 : m ≠ 12) (hms : m ≠ s) (hM : 65536 ≤ v m) (hM2 : v m < 65536 ^ 40) (hS : v s < 65536 ^ 83) : ab_Ct MX8_leaves g [.ref 74, .int (nI s), .int (nI m)] N w (fun r N' w' => (∃ v', w' = wu w 75 (xA v') ∧ v' s = v s % v m ∧ ∀ k, k ≠ s → k ≠ 12 → v' k = v k) ∧ r = none ∧ N = N') := by
  have bs : bnd (v s) := Nat.lt_trans hS (Nat.pow_lt_pow_right (by decide) (by decide))
  have bm : bnd (v m) := Nat.lt_trans hM2 (Nat.pow_lt_pow_right (by decide) (by decide))
  have hn2 : 1 < ll (v m) := ll_ge (show 65536 ^ 1 ≤ v m from hM)
  have hn40 := ll_le hM2
  have ht83 := ll_le hS
  have hM0 : 0 < v m := Nat.lt_of_lt_of_le (by decide) hM
  have hMn := ll_lt (v m)
  have hMt := ll_top (v := v m) (by omega)
  have hSt := ll_lt (v s)
  clear hM hM2 hS
  have hd1 := dg6_lt (v m) (ll (v m) - 1)
  have hd0 : 1 ≤ dg 65536 (v m) (ll (v m) - 1) := by
    refine Nat.pos_of_ne_zero fun e => ?_
    have := dg_z (b := 65536) (n := ll (v m) - 1) (by decide) (by rw [show ll (v m) - 1 + 1 = ll (v m) by omega]; exact hMn) e
    omega
  have hdiv : v m / 65536 ^ (ll (v m) - 1) = dg 65536 (v m) (ll (v m) - 1) := by
    unfold dg
    rw [Nat.mod_eq_of_lt (Nat.div_lt_of_lt_mul (by rw [← Nat.pow_succ, Nat.succ_eq_add_one, show ll (v m) - 1 + 1 = ll (v m) by omega]; exact hMn))]
  -- behind the moving
  have K51 : ∀ b, b < 16 → 32768 ≤ dg 65536 (v m) (ll (v m) - 1) * 2 ^ b → dg 65536 (v m) (ll (v m) - 1) * 2 ^ b < 65536 → ll (v m) ≤ ll (v s) → ab_St MX8_leaves g 0 0 51 [(5, .int (nI b)), (4, .int (nI (ll (v s)))), (3, .int (nI (ll (v m)))), (0, .ref 74), (1, .int (nI s)), (2, .int (nI m))] [] N w (fun r N' w' => (∃ v', w' = wu w 75 (xA v') ∧ v' s = v s % v m ∧ ∀ k, k ≠ s → k ≠ 12 → v' k = v k) ∧ r = none ∧ N = N') := by
    intro b hb hb1 hb2 hle
    have h2b : 0 < 2 ^ b := Nat.two_pow_pos b
    have hMM : 65536 ^ ll (v m) ≤ 2 * (v m * 2 ^ b) := by
      have q1 : dg 65536 (v m) (ll (v m) - 1) * 65536 ^ (ll (v m) - 1) ≤ v m := dg_le _ _ _
      have q2 := Nat.mul_le_mul_right (2 ^ b) q1
      have q3 := Nat.mul_le_mul_right (65536 ^ (ll (v m) - 1)) hb1
      have q4 : 65536 ^ ll (v m) = 65536 ^ (ll (v m) - 1) * 65536 := by rw [← Nat.pow_succ, Nat.succ_eq_add_one, show ll (v m) - 1 + 1 = ll (v m) by omega]
      rw [Nat.mul_right_comm] at q2
      exact lv_1 q4 q2 q3
    have hMM2 : v m * 2 ^ b < 65536 ^ ll (v m) := by
      have q1 : v m < (dg 65536 (v m) (ll (v m) - 1) + 1) * 65536 ^ (ll (v m) - 1) := by
        rw [← hdiv, Nat.mul_comm]
        exact Nat.lt_mul_div_succ _ (Nat.pow_pos (by decide))
      have q5 : (dg 65536 (v m) (ll (v m) - 1) + 1) * 2 ^ b ≤ 65536 := lv_2 hb hb2
      have q2 := Nat.mul_lt_mul_of_pos_right q1 h2b
      rw [Nat.mul_right_comm] at q2
      have q3 := Nat.mul_le_mul_right (65536 ^ (ll (v m) - 1)) q5
      have q4 : 65536 ^ ll (v m) = 65536 * 65536 ^ (ll (v m) - 1) := by rw [Nat.mul_comm, ← Nat.pow_succ, Nat.succ_eq_add_one, show ll (v m) - 1 + 1 = ll (v m) by omega]
      rw [q4]
      exact Nat.lt_of_lt_of_le q2 q3
    have hSS : v s * 2 ^ b < v m * 2 ^ b * 65536 ^ (ll (v s) - ll (v m) + 1) := by
      have q1 : v s * 2 ^ b < 65536 ^ ll (v s) * 2 ^ b := Nat.mul_lt_mul_of_pos_right hSt h2b
      have q2 : 65536 ^ ll (v s) * 2 ^ b ≤ 65536 ^ ll (v s) * 32768 := Nat.mul_le_mul_left _ (Nat.le_trans (Nat.pow_le_pow_right (by decide) (by omega : b ≤ 15)) (by decide))
      have q3 := Nat.mul_le_mul_right (65536 ^ (ll (v s) - ll (v m) + 1)) hMM
      rw [← Nat.pow_add, show ll (v m) + (ll (v s) - ll (v m) + 1) = ll (v s) + 1 by omega, Nat.pow_succ, Nat.mul_assoc 2] at q3
      exact lv_3 q1 q2 q3
    have hY : v s * 2 ^ b % (v m * 2 ^ b) / 2 ^ b = v s % v m := by
      rw [Nat.mul_mod_mul_right, Nat.mul_div_cancel _ h2b]
    have hM1 : 0 < v m * 2 ^ b := Nat.mul_pos hM0 h2b
    generalize hM1e : v m * 2 ^ b = M1 at *
    have K : ∀ k S, k ≤ ll (v s) - ll (v m) + 1 → S < M1 * 65536 ^ k → S % M1 = v s * 2 ^ b % M1 → ab_St MX8_leaves g 0 0 74 [(6, .int (nI k - 1)), (5, .int (nI b)), (4, .int (nI (ll (v s)))), (3, .int (nI (ll (v m)))), (0, .ref 74), (1, .int (nI s)), (2, .int (nI m))] [] N (wu w 75 (xA (us (us v 12 M1) s S))) (fun r N' w' => (∃ v', w' = wu w 75 (xA v') ∧ v' s = v s % v m ∧ ∀ k, k ≠ s → k ≠ 12 → v' k = v k) ∧ r = none ∧ N = N') := by
      intro k
      induction k with
      | zero =>
        intro S _ hS1 hS2
        rw [Nat.pow_zero, Nat.mul_one] at hS1
        rw [Nat.mod_eq_of_lt hS1] at hS2
        have hbS : bnd (us (us v 12 M1) s S s) := by
          rw [us_eq]
          exact Nat.lt_trans hS1 (Nat.lt_of_lt_of_le hMM2 (Nat.pow_le_pow_right (by decide) (by omega)))
        refine r_iload dX8_leaves_74 rfl ?_
        refine r_if_lt (tgt := 93) dX8_leaves_76 (by decide) (fun _ => ?_) (fun h => absurd nI0lt h)
        refine r_aload_n dX8_leaves_93 rfl ?_
        refine r_iload_n dX8_leaves_94 rfl ?_
        refine r_iload dX8_leaves_95 rfl ?_
        refine r_invV dX8_leaves_97 kX8_135 (c_moveRight (v := us (us v 12 M1) s S) (by repeat first | exact wu_eq | assumption | (apply wu_ne; first | omega | assumption | (apply Ne.symm; assumption))) wu_eq hs hb hbS) rfl rfl (by repeat first | exact wu_eq | assumption | (apply wu_ne; first | omega | assumption | (apply Ne.symm; assumption))) rfl rfl ⟨by decide, by decide⟩ (Nat.le_of_ble_eq_true rfl) ⟨by decide, by decide⟩ ⟨rfl, rfl⟩ ?_
        rintro _ _ _ ⟨rfl, rfl, rfl⟩
        refine r_ret (r := none) dX8_leaves_100 (by decide) (by decide) ?_
        rw [wu_wu]
        refine ⟨⟨_, rfl, ?_, fun k hk hk2 => ?_⟩, rfl, rfl⟩
        · rw [us_eq, us_eq, hS2, hY]
        · rw [us_ne hk, us_ne hk, us_ne hk2]
      | succ k ih =>
        intro S hk hS1 hS2
        rw [i32_pm]
        have hp : 0 < 65536 ^ k := Nat.pow_pos (by decide)
        obtain ⟨q1, q2⟩ := leaves_step (S := S) hp hM1
        have e12 : us (us v 12 M1) s S 12 = M1 := by rw [us_ne (by omega), us_eq]
        have es : us (us v 12 M1) s S s = S := us_eq
        refine r_iload dX8_leaves_74 rfl ?_
        first | refine r_if_ltN (tgt := 93) dX8_leaves_76 (by decide) (by omega) (fun h76 => ?_) | refine r_if_lt (tgt := 93) dX8_leaves_76 (by decide) (fun h76 => ?_) (fun h76 => ?_)
        refine r_aload_n dX8_leaves_79 rfl ?_
        refine r_iload_n dX8_leaves_80 rfl ?_
        refine r_iload dX8_leaves_81 rfl ?_
        refine r_iload_n dX8_leaves_83 rfl ?_
        refine r_invV dX8_leaves_84 kX8_132 (c_dividesAt (s := s) (j := k) (n := ll (v m)) (v := us (us v 12 M1) s S) (by repeat first | exact wu_eq | assumption | (apply wu_ne; first | omega | assumption | (apply Ne.symm; assumption))) wu_eq hs hs12 hn2 (by omega) (by rw [e12]; exact hMM2) (by rw [e12]; exact hMM) (by rw [e12, es]; exact hS1)) rfl rfl (by repeat first | exact wu_eq | assumption | (apply wu_ne; first | omega | assumption | (apply Ne.symm; assumption))) rfl rfl ⟨by decide, by decide⟩ (Nat.le_of_ble_eq_true rfl) ⟨by decide, by decide⟩ ⟨rfl, rfl⟩ ?_
        rintro _ _ _ ⟨rfl, rfl, rfl⟩
        rw [wu_wu, es, e12, us_us]
        refine r_iinc (L0 := [(5, _), (4, _), (3, _), (0, _), (1, _), (2, _)]) dX8_leaves_87 rfl (by first | exact iincm1' _ | rfl) (by decide) rfl ?_
        refine r_goto (tgt := 74) dX8_leaves_90 (by decide) ?_
        exact ih _ (by omega) q1 (q2.trans hS2)
    have hKK := K (ll (v s) - ll (v m) + 1) (v s * 2 ^ b) (Nat.le_refl _) hSS rfl
    have eus : us (us v 12 M1) s (us v 12 M1 s * 2 ^ b) = us (us v 12 M1) s (v s * 2 ^ b) := by rw [us_ne hs12]
    refine r_aload_n dX8_leaves_51 rfl ?_
    refine r_bipush (v := nI 12) dX8_leaves_52 (by decide) ?_
    refine r_iload_n dX8_leaves_54 rfl ?_
    refine r_iload dX8_leaves_55 rfl ?_
    refine r_invV dX8_leaves_57 kX8_128 (c_moveLeft (t := 12) (a := m) (v := v) h hx (by decide) hm hb) rfl rfl (by repeat first | exact wu_eq | assumption | (apply wu_ne; first | omega | assumption | (apply Ne.symm; assumption))) rfl rfl ⟨by decide, by decide⟩ (Nat.le_of_ble_eq_true rfl) ⟨by decide, by decide⟩ ⟨rfl, rfl⟩ ?_
    rintro _ _ _ ⟨rfl, rfl, rfl⟩
    rw [hM1e]
    refine r_aload_n dX8_leaves_60 rfl ?_
    refine r_iload_n dX8_leaves_61 rfl ?_
    refine r_iload_n dX8_leaves_62 rfl ?_
    refine r_iload dX8_leaves_63 rfl ?_
    refine r_invV dX8_leaves_65 kX8_128 (c_moveLeft (t := s) (a := s) (v := us v 12 M1) (by repeat first | exact wu_eq | assumption | (apply wu_ne; first | omega | assumption | (apply Ne.symm; assumption))) wu_eq hs hs hb) rfl rfl (by repeat first | exact wu_eq | assumption | (apply wu_ne; first | omega | assumption | (apply Ne.symm; assumption))) rfl rfl ⟨by decide, by decide⟩ (Nat.le_of_ble_eq_true rfl) ⟨by decide, by decide⟩ ⟨rfl, rfl⟩ ?_
    rintro _ _ _ ⟨rfl, rfl, rfl⟩
    rw [wu_wu, eus]
    refine r_iload dX8_leaves_68 rfl ?_
    refine r_iload_n dX8_leaves_70 rfl ?_
    first | refine r_isubN dX8_leaves_71 (by omega) ?_ | refine r_isub dX8_leaves_71 ?_
    refine r_istore (i := 6) (L0 := [(5, _), (4, _), (3, _), (0, _), (1, _), (2, _)]) dX8_leaves_72 (by decide) rfl ?_
    rw [show nI (ll (v s) - ll (v m)) = nI (ll (v s) - ll (v m) + 1) - 1 from (i32_pm _).symm]
    exact hKK
  have K23 : ∀ z b, b + z = 16 → dg 65536 (v m) (ll (v m) - 1) * 2 ^ b < 65536 → ll (v m) ≤ ll (v s) → ab_St MX8_leaves g 0 0 23 [(5, .int (nI b)), (4, .int (nI (ll (v s)))), (3, .int (nI (ll (v m)))), (0, .ref 74), (1, .int (nI s)), (2, .int (nI m))] [] N w (fun r N' w' => (∃ v', w' = wu w 75 (xA v') ∧ v' s = v s % v m ∧ ∀ k, k ≠ s → k ≠ 12 → v' k = v k) ∧ r = none ∧ N = N') := by
    intro z
    induction z with
    | zero =>
      intro b hb hb2 hle
      obtain rfl : b = 16 := by omega
      rw [show (2 : Nat) ^ 16 = 65536 by decide] at hb2
      exact absurd hb2 (by omega)
    | succ z ih =>
      intro b hb hb2 hle
      have ih1 := ih (b + 1) (by omega)
      rw [Nat.pow_succ, ← Nat.mul_assoc] at ih1
      have hK := K51 b (by omega)
      have hsh := shl_n (s := b) (b := dg 65536 (v m) (ll (v m) - 1)) (by omega) hd1
      have hat := and_top hb2
      clear ih K51
      refine r_aload_n dX8_leaves_23 rfl ?_
      refine r_getf dX8_leaves_24 fX8_7 (by repeat first | exact wu_eq | assumption | (apply wu_ne; first | omega | assumption | (apply Ne.symm; assumption))) (by rfl) ?_
      refine r_bipush (v := nI 84) dX8_leaves_27 (by decide) ?_
      refine r_iload_n dX8_leaves_29 rfl ?_
      first | refine r_imulN dX8_leaves_30 ?_ | refine r_imul dX8_leaves_30 ?_
      refine r_iload_n dX8_leaves_31 rfl ?_
      first | refine r_iaddN dX8_leaves_32 ?_ | refine r_iadd dX8_leaves_32 ?_
      refine r_iconst (v := nI 1) dX8_leaves_33 (by decide) ?_
      first | refine r_isubN dX8_leaves_34 (by omega) ?_ | refine r_isub dX8_leaves_34 ?_
      refine r_xlV (s := m) (k := ll (v m) - 1) dX8_leaves_35 (by repeat first | exact wu_eq | assumption | (apply wu_ne; first | omega | assumption | (apply Ne.symm; assumption))) (congrArg nI (by omega)) (by omega) (by omega) ?_
      refine r_iload dX8_leaves_36 rfl ?_
      refine r_ishl dX8_leaves_38 ?_
      rw [hsh]
      refine r_ldc dX8_leaves_39 qX8_127 ?_
      refine r_toI (y := nI 32768) rfl ?_
      refine r_iand dX8_leaves_41 ?_
      rw [nI_and, hat]
      by_cases hlt : dg 65536 (v m) (ll (v m) - 1) * 2 ^ b < 32768
      · rw [if_pos hlt]
        first | refine r_if_neN (tgt := 51) dX8_leaves_42 (by decide) (by omega) (fun h42 => ?_) (fun h42 => ?_) | refine r_if_ne (tgt := 51) dX8_leaves_42 (by decide) (fun h42 => ?_) (fun h42 => ?_)
        · omega
        · refine r_iinc (L0 := [(4, _), (3, _), (0, _), (1, _), (2, _)]) dX8_leaves_45 rfl (by first | exact iinc1 _ | rfl) (by decide) rfl ?_
          refine r_goto (tgt := 23) dX8_leaves_48 (by decide) ?_
          exact ih1 (by omega) hle
      · rw [if_neg hlt]
        first | refine r_if_neN (tgt := 51) dX8_leaves_42 (by decide) (by omega) (fun h42 => ?_) (fun h42 => ?_) | refine r_if_ne (tgt := 51) dX8_leaves_42 (by decide) (fun h42 => ?_) (fun h42 => ?_)
        · exact hK (by omega) hb2 hle
        · omega
  refine ab_Ct.of (by decide +kernel) (Nat.le_of_ble_eq_true rfl) (by rintro _ _ _ ⟨-, rfl, -⟩; trivial) ?_
  show ab_St MX8_leaves g 0 0 0 [(0, .ref 74), (1, .int (nI s)), (2, .int (nI m))] [] _ _ _
  refine r_aload_n dX8_leaves_0 rfl ?_
  refine r_iload_n dX8_leaves_1 rfl ?_
  refine r_invV dX8_leaves_2 kX8_120 (c_longOf (s := m) h hx hm bm) rfl rfl (by repeat first | exact wu_eq | assumption | (apply wu_ne; first | omega | assumption | (apply Ne.symm; assumption))) rfl rfl ⟨by decide, by decide⟩ (Nat.le_of_ble_eq_true rfl) ⟨by decide, by decide⟩ ⟨rfl, rfl⟩ ?_
  rintro _ _ _ ⟨rfl, rfl, rfl⟩
  refine r_istore_n (i := 3) (L0 := [(0, _), (1, _), (2, _)]) dX8_leaves_5 rfl (by decide) rfl ?_
  refine r_aload_n dX8_leaves_6 rfl ?_
  refine r_iload_n dX8_leaves_7 rfl ?_
  refine r_invV dX8_leaves_8 kX8_120 (c_longOf (s := s) h hx hs bs) rfl rfl (by repeat first | exact wu_eq | assumption | (apply wu_ne; first | omega | assumption | (apply Ne.symm; assumption))) rfl rfl ⟨by decide, by decide⟩ (Nat.le_of_ble_eq_true rfl) ⟨by decide, by decide⟩ ⟨rfl, rfl⟩ ?_
  rintro _ _ _ ⟨rfl, rfl, rfl⟩
  refine r_istore (i := 4) (L0 := [(3, _), (0, _), (1, _), (2, _)]) dX8_leaves_11 (by decide) rfl ?_
  refine r_iload dX8_leaves_13 rfl ?_
  refine r_iload_n dX8_leaves_15 rfl ?_
  first | refine r_icmp_geN (tgt := 20) dX8_leaves_16 (by decide) (by omega) (by omega) (fun h16 => ?_) (fun h16 => ?_) | refine r_icmp_ge (tgt := 20) dX8_leaves_16 (by decide) (fun h16 => ?_) (fun h16 => ?_)
  · refine r_iconst (v := nI 0) dX8_leaves_20 (by decide) ?_
    refine r_istore (i := 5) (L0 := [(4, _), (3, _), (0, _), (1, _), (2, _)]) dX8_leaves_21 (by decide) rfl ?_
    exact K23 16 0 (by omega) (by rw [Nat.pow_zero, Nat.mul_one]; exact hd1) (by omega)
  · refine r_ret (r := none) dX8_leaves_19 (by decide) (by decide) ?_
    refine ⟨⟨v, (wu_self hx).symm, ?_, fun _ _ _ => rfl⟩, rfl, rfl⟩
    refine (Nat.mod_eq_of_lt (Nat.lt_of_lt_of_le hSt (Nat.le_trans ?_ hMt))).symm
    exact Nat.pow_le_pow_right (by decide) (by omega)
