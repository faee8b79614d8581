/-! SignHouse$Modulus: how a modulus is chosen, how the object is made -/
theorem lN_negN (n : Nat) : -lN n = lN (18446744073709551615 * n) := by
  have h : lN (18446744073709551615 * n) + lN n = 0 := by
    rw [lN_add, show 18446744073709551615 * n + n = 18446744073709551616 * n by omega, wb_mod, show 18446744073709551616 * n % 2 ^ 64 = 0 by omega]
    rfl
  have h2 := congrArg (fun z => z - lN n) h
  simp only [Int64.add_sub_cancel] at h2
  rw [h2, Int64.zero_sub]
theorem lN_2sub (y : Nat) : lN 2 - lN y = lN (2 + 18446744073709551615 * y) := by
  rw [Int64.sub_eq_add_neg, lN_negN, lN_add]
/-- a step of Newton's: the bits that hold are doubled -/
theorem newton {y : Nat} {D E : Int} (hE : E * E ∣ 18446744073709551616) (hD : D = E * E) (h : E ∣ (y : Int) - 1) : D ∣ ((y * (2 + 18446744073709551615 * y) : Nat) : Int) - 1 := by
  obtain ⟨t, ht⟩ := h
  obtain ⟨q, hq⟩ := hE
  have e : ((y * (2 + 18446744073709551615 * y) : Nat) : Int) - 1 = 18446744073709551616 * ((y : Int) * y) - ((y : Int) - 1) * ((y : Int) - 1) := by
    have e0 : ((y * (2 + 18446744073709551615 * y) : Nat) : Int) = (y : Int) * (2 + 18446744073709551615 * (y : Int)) := by
      rw [Int.natCast_mul, Int.natCast_add, Int.natCast_mul]
      rfl
    rw [e0, Int.mul_add, Int.sub_mul, Int.mul_sub, Int.mul_left_comm (y : Int) 18446744073709551615]
    generalize (y : Int) * y = s
    omega
  rw [e, ht, hD, hq]
  refine ⟨q * ((y : Int) * y) - t * t, ?_⟩
  rw [Int.mul_sub]
  congr 1
  · rw [Int.mul_assoc]
  · rw [Int.mul_assoc, Int.mul_assoc, Int.mul_left_comm t E t]
theorem newton4 {l : Nat} (hl : l % 2 = 1) : ∀ I1 I2 I3 I4 : Nat, I1 = l * (2 + 18446744073709551615 * (l * l)) → I2 = I1 * (2 + 18446744073709551615 * (l * I1)) → I3 = I2 * (2 + 18446744073709551615 * (l * I2)) → I4 = I3 * (2 + 18446744073709551615 * (l * I3)) → l * I4 % 4294967296 = 1 := by
  intro I1 I2 I3 I4 h1 h2 h3 h4
  have h0 : (8 : Int) ∣ ((l * l : Nat) : Int) - 1 := by
    have h : l * l % 8 = 1 := by
      rw [Nat.mul_mod]
      have h8 : l % 8 < 8 := Nat.mod_lt _ (by decide)
      have hodd : l % 8 % 2 = 1 := by omega
      generalize l % 8 = r at h8 hodd
      rcases (show r = 1 ∨ r = 3 ∨ r = 5 ∨ r = 7 by omega) with rfl | rfl | rfl | rfl <;> rfl
    generalize l * l = s at h
    omega
  have step : ∀ (I I' : Nat) (D E : Int), I' = I * (2 + 18446744073709551615 * (l * I)) → E * E ∣ 18446744073709551616 → D = E * E → E ∣ ((l * I : Nat) : Int) - 1 → D ∣ ((l * I' : Nat) : Int) - 1 := by
    intro I I' D E hI hE hD h
    rw [hI, ← Nat.mul_assoc]
    exact newton hE hD h
  have s1 := step l I1 64 8 h1 ⟨288230376151711744, by decide⟩ (by decide) h0
  have s2 := step I1 I2 4096 64 h2 ⟨4503599627370496, by decide⟩ (by decide) s1
  have s3 := step I2 I3 16777216 4096 h3 ⟨1099511627776, by decide⟩ (by decide) s2
  have s4 := step I3 I4 281474976710656 16777216 h4 ⟨65536, by decide⟩ (by decide) s3
  generalize l * I4 = y at s4
  omega
set_option maxRecDepth 100000 in
set_option maxHeartbeats 4000000 in
theorem c_inverseOfLowLimb {g : ab_G} {N M W ni c : Nat} {w : ab_W} (hM : w M = moO M W ni) (hc : w (M + 1) = aN W c) (h1W : 1 ≤ W) (hW : W ≤ 500) (hodd : c % 2 = 1) : ab_Ct MX4_inverseOfLowLimb g [.ref M] N w (fun r N' w' => ∃ I, c * I % 4294967296 = 1 ∧ r = some (.long (lN I)) ∧ N = N' ∧ w' = w) := by
  have hl : dg 4294967296 c 0 % 2 = 1 := by rw [dg_0]; omega
  have hlc : ∀ I, dg 4294967296 c 0 * I % 4294967296 = 1 → c * I % 4294967296 = 1 := fun I h => by
    rw [← Nat.mod_mul_mod c I 4294967296, ← dg_0 4294967296 c]
    exact h
  have hf : rJ c 0 = lN (dg 4294967296 c 0) := rfl
  generalize dg 4294967296 c 0 = l at hl hlc hf
  have H := newton4 hl _ _ _ _ rfl rfl rfl rfl
  have K48 : ∀ I, l * I % 4294967296 = 1 → ab_St MX4_inverseOfLowLimb g 0 0 12 [(5, .int (nI 48)), (3, .long (lN I)), (1, .long (lN l)), (0, .ref M)] [] N w (fun r N' w' => ∃ I, c * I % 4294967296 = 1 ∧ r = some (.long (lN I)) ∧ N = N' ∧ w' = w) := by
    intro I hI
    refine r_iload dX4_inverseOfLowLimb_12 rfl ?_
    refine r_bipush (v := nI 32) dX4_inverseOfLowLimb_14 (by decide) ?_
    first | refine r_icmp_geN (tgt := 38) dX4_inverseOfLowLimb_16 (by decide) (by omega) (by omega) (fun h16 => ?_) (fun h16 => ?_) | refine r_icmp_ge (tgt := 38) dX4_inverseOfLowLimb_16 (by decide) (fun h16 => ?_) (fun h16 => ?_)
    · refine r_lload_n dX4_inverseOfLowLimb_38 rfl ?_
      refine r_ret (r := (some (.long _))) dX4_inverseOfLowLimb_39 (by decide) (by decide) ?_
      exact ⟨I, hlc I hI, rfl, rfl, rfl⟩
    · omega
  have S : ∀ b I, b < 32 → ab_St MX4_inverseOfLowLimb g 0 0 12 [(5, .int (nI (b * 2))), (3, .long (lN (I * (2 + 18446744073709551615 * (l * I))))), (1, .long (lN l)), (0, .ref M)] [] N w (fun r N' w' => ∃ I, c * I % 4294967296 = 1 ∧ r = some (.long (lN I)) ∧ N = N' ∧ w' = w) → ab_St MX4_inverseOfLowLimb g 0 0 12 [(5, .int (nI b)), (3, .long (lN I)), (1, .long (lN l)), (0, .ref M)] [] N w (fun r N' w' => ∃ I, c * I % 4294967296 = 1 ∧ r = some (.long (lN I)) ∧ N = N' ∧ w' = w) := by
    intro b I hb h
    refine r_iload dX4_inverseOfLowLimb_12 rfl ?_
    refine r_bipush (v := nI 32) dX4_inverseOfLowLimb_14 (by decide) ?_
    first | refine r_icmp_geN (tgt := 38) dX4_inverseOfLowLimb_16 (by decide) (by omega) (by omega) (fun h16 => ?_) (fun h16 => ?_) | refine r_icmp_ge (tgt := 38) dX4_inverseOfLowLimb_16 (by decide) (fun h16 => ?_) (fun h16 => ?_)
    · omega
    · refine r_lload_n dX4_inverseOfLowLimb_19 rfl ?_
      refine r_ldc2 dX4_inverseOfLowLimb_20 qX4_65 ?_
      refine r_toJ (y := lN 2) rfl ?_
      refine r_lload_n dX4_inverseOfLowLimb_23 rfl ?_
      refine r_lload_n dX4_inverseOfLowLimb_24 rfl ?_
      first | refine r_lmulN dX4_inverseOfLowLimb_25 ?_ | refine r_lmul dX4_inverseOfLowLimb_25 ?_
      refine r_lsub dX4_inverseOfLowLimb_26 ?_
      rw [lN_2sub]
      first | refine r_lmulN dX4_inverseOfLowLimb_27 ?_ | refine r_lmul dX4_inverseOfLowLimb_27 ?_
      refine r_lstore_n (i := 3) (L0 := [(5, _), (1, _), (0, _)]) dX4_inverseOfLowLimb_28 rfl (by decide) rfl ?_
      refine r_iload dX4_inverseOfLowLimb_29 rfl ?_
      refine r_iconst (v := nI 2) dX4_inverseOfLowLimb_31 (by decide) ?_
      first | refine r_imulN dX4_inverseOfLowLimb_32 ?_ | refine r_imul dX4_inverseOfLowLimb_32 ?_
      refine r_istore (i := 5) (L0 := [(3, _), (1, _), (0, _)]) dX4_inverseOfLowLimb_33 (by decide) rfl ?_
      refine r_goto (tgt := 12) dX4_inverseOfLowLimb_35 (by decide) ?_
      exact h
  refine ab_Ct.of (by decide +kernel) (Nat.le_of_ble_eq_true rfl) (by rintro _ _ _ ⟨_, -, rfl, -, -⟩; trivial) ?_
  show ab_St MX4_inverseOfLowLimb g 0 0 0 [(0, .ref M)] [] _ _ _
  refine r_aload_n dX4_inverseOfLowLimb_0 rfl ?_
  refine r_getf dX4_inverseOfLowLimb_1 fX4_19 (by repeat first | exact wu_eq | assumption | (apply wu_ne; first | omega | assumption | (apply Ne.symm; assumption))) (by rfl) ?_
  refine r_iconst (v := nI 0) dX4_inverseOfLowLimb_4 (by decide) ?_
  refine r_laload' dX4_inverseOfLowLimb_5 hc (by rfl) _ rfl (by omega) (by omega) ?_
  rw [hf]
  refine r_lstore_n (i := 1) (L0 := [(0, _)]) dX4_inverseOfLowLimb_6 rfl (by decide) rfl ?_
  refine r_lload_n dX4_inverseOfLowLimb_7 rfl ?_
  refine r_lstore_n (i := 3) (L0 := [(1, _), (0, _)]) dX4_inverseOfLowLimb_8 rfl (by decide) rfl ?_
  refine r_iconst (v := nI 3) dX4_inverseOfLowLimb_9 (by decide) ?_
  refine r_istore (i := 5) (L0 := [(3, _), (1, _), (0, _)]) dX4_inverseOfLowLimb_10 (by decide) rfl ?_
  exact S 3 _ (by decide) (S 6 _ (by decide) (S 12 _ (by decide) (S 24 _ (by decide) (K48 _ H))))
theorem choose_inv {c I : Nat} (h : c * I % 4294967296 = 1) : (c * (18446744073709551615 * I % 4294967296) + 1) % 4294967296 = 0 := by
  have e : c * (18446744073709551615 * I % 4294967296) % 4294967296 = 18446744073709551615 * (c * I) % 4294967296 := by
    rw [Nat.mul_mod, Nat.mod_mod, ← Nat.mul_mod, Nat.mul_left_comm]
  generalize c * (18446744073709551615 * I % 4294967296) = u at e ⊢
  generalize c * I = v at h e
  omega
theorem two_pow32 (W : Nat) : (2 : Nat) ^ (32 * W) = 4294967296 ^ W := by rw [Nat.pow_mul]
theorem dbl_mod (c v : Nat) : (2 * (v % c) + 0) % c = v * 2 % c := by
  rw [Nat.add_zero, Nat.mul_mod, Nat.mod_mod, ← Nat.mul_mod, Nat.mul_comm]
set_option maxRecDepth 100000 in
set_option maxHeartbeats 4000000 in
theorem c_choose {g : ab_G} {N M W c o : Nat} {w : ab_W} (hM : MSH w M W) (ho : w o = aN W c) (hoM : o < M ∨ M + 7 < o) (hodd : c % 2 = 1) (h1 : 1 < c) (hcW : c < 4294967296 ^ W) : ab_Ct MX4_choose g [.ref M, .ref o] N w (fun r N' w' => MOK w' M W c ∧ FR w w' M M ∧ r = none ∧ N = N') := by
  obtain ⟨ni0, v1, v2, v3, v4, b0, r0, S0, a0, a1, a2, a3, a4, a5, a6, a7, e1, e2, e3, e4, e5, e6, e7, h1W, hW⟩ := hM
  have hc0 : 0 < c := by omega
  have hone := one_lt_pow h1W
  refine ab_Ct.of (by decide +kernel) (Nat.le_of_ble_eq_true rfl) (by rintro _ _ _ ⟨-, -, rfl, -⟩; trivial) ?_
  show ab_St MX4_choose g 0 0 0 [(0, .ref M), (1, .ref o)] [] _ _ _
  refine r_aload_n dX4_choose_0 rfl ?_
  refine r_getf dX4_choose_1 fX4_19 (by repeat first | exact wu_eq | assumption | (apply wu_ne; first | omega | assumption | (apply Ne.symm; assumption))) (by rfl) ?_
  refine r_aload_n dX4_choose_4 rfl ?_
  refine r_invS dX4_choose_5 kX4_41 (c_copy (n := W) (m := W) (u := v1) (v := c) (by omega) a1 ho (by omega) (by omega) e1 hcW) rfl rfl ⟨by decide, by decide⟩ (Nat.le_of_ble_eq_true rfl) ⟨by decide, by decide⟩ ⟨rfl, rfl⟩ ?_
  rintro _ _ _ ⟨rfl, rfl, rfl⟩
  refine r_aload_n dX4_choose_8 rfl ?_
  refine r_aload_n dX4_choose_9 rfl ?_
  rw [Nat.mod_eq_of_lt hcW]
  refine r_invV dX4_choose_10 kX4_47 (c_inverseOfLowLimb (W := W) (ni := ni0) (c := c) (wu_ne (by omega) a0) wu_eq h1W hW hodd) rfl rfl (by repeat first | exact wu_eq | assumption | (apply wu_ne; first | omega | assumption | (apply Ne.symm; assumption))) rfl rfl ⟨by decide, by decide⟩ (Nat.le_of_ble_eq_true rfl) ⟨by decide, by decide⟩ ⟨rfl, rfl⟩ ?_
  rintro _ _ _ ⟨I, hI, rfl, rfl, rfl⟩
  have hinv := choose_inv hI
  have hni : 18446744073709551615 * I % 4294967296 < 4294967296 := Nat.mod_lt _ (by decide)
  refine r_lneg dX4_choose_13 ?_
  rw [lN_negN]
  refine r_ldc2 dX4_choose_14 qX4_51 ?_
  refine r_land32 dX4_choose_17 ?_
  refine r_putf dX4_choose_18 fX4_53 (by repeat first | exact wu_eq | assumption | (apply wu_ne; first | omega | assumption | (apply Ne.symm; assumption))) rfl (by exact Nat.le_of_ble_eq_true rfl) (by rfl) (by rfl) ?_
  refine r_aload_n dX4_choose_21 rfl ?_
  refine r_getf dX4_choose_22 fX4_23 (by repeat first | exact wu_eq | assumption | (apply wu_ne; first | omega | assumption | (apply Ne.symm; assumption))) (by rfl) ?_
  refine r_lconst (v := lN 1) dX4_choose_25 (by decide) ?_
  generalize 18446744073709551615 * I % 4294967296 = ni at hinv hni
  have hset : (wu (wu w (M + 1) (aN W c)) M (aO 4 (List.set [.int (nI W), .ref (M + 1), .ref (M + 2), .ref (M + 3), .ref (M + 4), .ref (M + 5), .ref (M + 6), .ref (M + 7), .long (lN ni0)] 8 (.long (lN ni))))) = wu (wu w (M + 1) (aN W c)) M (moO M W ni) := rfl
  rw [hset]
  refine r_invS dX4_choose_26 kX4_57 (c_putSmall (n := W) (u := v2) (v := 1) (by repeat first | exact wu_eq | assumption | (apply wu_ne; first | omega | assumption | (apply Ne.symm; assumption))) h1W (by omega) e2) rfl rfl ⟨by decide, by decide⟩ (Nat.le_of_ble_eq_true rfl) ⟨by decide, by decide⟩ ⟨rfl, rfl⟩ ?_
  rintro _ _ _ ⟨rfl, rfl, rfl⟩
  refine r_aload_n dX4_choose_29 rfl ?_
  refine r_getf dX4_choose_30 fX4_26 (by repeat first | exact wu_eq | assumption | (apply wu_ne; first | omega | assumption | (apply Ne.symm; assumption))) (by rfl) ?_
  refine r_aload_n dX4_choose_33 rfl ?_
  refine r_getf dX4_choose_34 fX4_23 (by repeat first | exact wu_eq | assumption | (apply wu_ne; first | omega | assumption | (apply Ne.symm; assumption))) (by rfl) ?_
  refine r_invS dX4_choose_37 kX4_41 (c_copy (n := W) (m := W) (u := v3) (v := 1) (by omega) (by repeat first | exact wu_eq | assumption | (apply wu_ne; first | omega | assumption | (apply Ne.symm; assumption))) (by repeat first | exact wu_eq | assumption | (apply wu_ne; first | omega | assumption | (apply Ne.symm; assumption))) (by omega) (by omega) e3 hone) rfl rfl ⟨by decide, by decide⟩ (Nat.le_of_ble_eq_true rfl) ⟨by decide, by decide⟩ ⟨rfl, rfl⟩ ?_
  rintro _ _ _ ⟨rfl, rfl, rfl⟩
  rw [Nat.mod_eq_of_lt hone]
  have J2 : ∀ k i, i + k = 32 * W → ab_St MX4_choose g 0 0 81 [(2, .int (nI i)), (0, .ref M), (1, .ref o)] [] N (wu (wu (wu (wu (wu w (M + 1) (aN W c)) M (moO M W ni)) (M + 2) (aN W 1)) (M + 3) (aN W (4294967296 ^ W % c))) (M + 4) (aN W (4294967296 ^ W * 2 ^ i % c))) (fun r N' w' => MOK w' M W c ∧ FR w w' M M ∧ r = none ∧ N = N') := by
    intro k
    induction k with
    | zero =>
      intro i hi
      obtain rfl : i = 32 * W := by omega
      refine r_iload_n dX4_choose_81 rfl ?_
      refine r_bipush (v := nI 32) dX4_choose_82 (by decide) ?_
      refine r_aload_n dX4_choose_84 rfl ?_
      refine r_getf dX4_choose_85 fX4_13 (by repeat first | exact wu_eq | assumption | (apply wu_ne; first | omega | assumption | (apply Ne.symm; assumption))) (by rfl) ?_
      first | refine r_imulN dX4_choose_88 ?_ | refine r_imul dX4_choose_88 ?_
      first | refine r_icmp_geN (tgt := 107) dX4_choose_89 (by decide) (by omega) (by omega) (fun h89 => ?_) (fun h89 => ?_) | refine r_icmp_ge (tgt := 107) dX4_choose_89 (by decide) (fun h89 => ?_) (fun h89 => ?_)
      · refine r_ret (r := none) dX4_choose_107 (by decide) (by decide) ?_
        rw [two_pow32]
        refine ⟨⟨ni, b0, r0, S0, (by repeat first | exact wu_eq | assumption | (apply wu_ne; first | omega | assumption | (apply Ne.symm; assumption))), (by repeat first | exact wu_eq | assumption | (apply wu_ne; first | omega | assumption | (apply Ne.symm; assumption))), (by repeat first | exact wu_eq | assumption | (apply wu_ne; first | omega | assumption | (apply Ne.symm; assumption))), (by repeat first | exact wu_eq | assumption | (apply wu_ne; first | omega | assumption | (apply Ne.symm; assumption))), (by repeat first | exact wu_eq | assumption | (apply wu_ne; first | omega | assumption | (apply Ne.symm; assumption))), (by repeat first | exact wu_eq | assumption | (apply wu_ne; first | omega | assumption | (apply Ne.symm; assumption))), (by repeat first | exact wu_eq | assumption | (apply wu_ne; first | omega | assumption | (apply Ne.symm; assumption))), (by repeat first | exact wu_eq | assumption | (apply wu_ne; first | omega | assumption | (apply Ne.symm; assumption))), e5, e6, e7, hni, hinv, h1, hcW, h1W, hW⟩, ?_, rfl, rfl⟩
        intro j h2 h3
        exact wu_ne (by omega) (wu_ne (by omega) (wu_ne (by omega) (wu_ne (by omega) (wu_ne (by omega) rfl))))
      · omega
    | succ k ih =>
      intro i hi
      refine r_iload_n dX4_choose_81 rfl ?_
      refine r_bipush (v := nI 32) dX4_choose_82 (by decide) ?_
      refine r_aload_n dX4_choose_84 rfl ?_
      refine r_getf dX4_choose_85 fX4_13 (by repeat first | exact wu_eq | assumption | (apply wu_ne; first | omega | assumption | (apply Ne.symm; assumption))) (by rfl) ?_
      first | refine r_imulN dX4_choose_88 ?_ | refine r_imul dX4_choose_88 ?_
      first | refine r_icmp_geN (tgt := 107) dX4_choose_89 (by decide) (by omega) (by omega) (fun h89 => ?_) (fun h89 => ?_) | refine r_icmp_ge (tgt := 107) dX4_choose_89 (by decide) (fun h89 => ?_) (fun h89 => ?_)
      · omega
      · refine r_aload_n dX4_choose_92 rfl ?_
        refine r_aload_n dX4_choose_93 rfl ?_
        refine r_getf dX4_choose_94 fX4_29 (by repeat first | exact wu_eq | assumption | (apply wu_ne; first | omega | assumption | (apply Ne.symm; assumption))) (by rfl) ?_
        refine r_iconst (v := nI 0) dX4_choose_97 (by decide) ?_
        refine r_invV dX4_choose_98 kX4_61 (c_twice (W := W) (ni := ni) (c := c) (x := 4294967296 ^ W * 2 ^ i % c) (b := 0) (by repeat first | exact wu_eq | assumption | (apply wu_ne; first | omega | assumption | (apply Ne.symm; assumption))) (by repeat first | exact wu_eq | assumption | (apply wu_ne; first | omega | assumption | (apply Ne.symm; assumption))) (by repeat first | exact wu_eq | assumption | (apply wu_ne; first | omega | assumption | (apply Ne.symm; assumption))) (by omega) (by omega) hW hcW (Nat.mod_lt _ hc0) (by decide)) rfl rfl (by repeat first | exact wu_eq | assumption | (apply wu_ne; first | omega | assumption | (apply Ne.symm; assumption))) rfl rfl ⟨by decide, by decide⟩ (Nat.le_of_ble_eq_true rfl) ⟨by decide, by decide⟩ ⟨rfl, rfl⟩ ?_
        rintro _ _ _ ⟨rfl, rfl, rfl⟩
        refine r_iinc (L0 := [(0, _), (1, _)]) dX4_choose_101 rfl (by first | exact iinc1 _ | rfl) (by decide) rfl ?_
        refine r_goto (tgt := 81) dX4_choose_104 (by decide) ?_
        rw [wu_wu, dbl_mod, Nat.mul_assoc, ← Nat.pow_succ]
        exact ih (i + 1) (by omega)
  have J1 : ∀ k i, i + k = 32 * W → ab_St MX4_choose g 0 0 42 [(2, .int (nI i)), (0, .ref M), (1, .ref o)] [] N (wu (wu (wu (wu w (M + 1) (aN W c)) M (moO M W ni)) (M + 2) (aN W 1)) (M + 3) (aN W (2 ^ i % c))) (fun r N' w' => MOK w' M W c ∧ FR w w' M M ∧ r = none ∧ N = N') := by
    intro k
    induction k with
    | zero =>
      intro i hi
      obtain rfl : i = 32 * W := by omega
      refine r_iload_n dX4_choose_42 rfl ?_
      refine r_bipush (v := nI 32) dX4_choose_43 (by decide) ?_
      refine r_aload_n dX4_choose_45 rfl ?_
      refine r_getf dX4_choose_46 fX4_13 (by repeat first | exact wu_eq | assumption | (apply wu_ne; first | omega | assumption | (apply Ne.symm; assumption))) (by rfl) ?_
      first | refine r_imulN dX4_choose_49 ?_ | refine r_imul dX4_choose_49 ?_
      first | refine r_icmp_geN (tgt := 68) dX4_choose_50 (by decide) (by omega) (by omega) (fun h50 => ?_) (fun h50 => ?_) | refine r_icmp_ge (tgt := 68) dX4_choose_50 (by decide) (fun h50 => ?_) (fun h50 => ?_)
      · refine r_aload_n dX4_choose_68 rfl ?_
        refine r_getf dX4_choose_69 fX4_29 (by repeat first | exact wu_eq | assumption | (apply wu_ne; first | omega | assumption | (apply Ne.symm; assumption))) (by rfl) ?_
        refine r_aload_n dX4_choose_72 rfl ?_
        refine r_getf dX4_choose_73 fX4_26 (by repeat first | exact wu_eq | assumption | (apply wu_ne; first | omega | assumption | (apply Ne.symm; assumption))) (by rfl) ?_
        refine r_invS dX4_choose_76 kX4_41 (c_copy (n := W) (m := W) (u := v4) (v := 2 ^ (32 * W) % c) (by omega) (by repeat first | exact wu_eq | assumption | (apply wu_ne; first | omega | assumption | (apply Ne.symm; assumption))) (by repeat first | exact wu_eq | assumption | (apply wu_ne; first | omega | assumption | (apply Ne.symm; assumption))) (by omega) (by omega) e4 (Nat.lt_trans (Nat.mod_lt _ hc0) hcW)) rfl rfl ⟨by decide, by decide⟩ (Nat.le_of_ble_eq_true rfl) ⟨by decide, by decide⟩ ⟨rfl, rfl⟩ ?_
        rintro _ _ _ ⟨rfl, rfl, rfl⟩
        refine r_iconst (v := nI 0) dX4_choose_79 (by decide) ?_
        refine r_istore_n (i := 2) (L0 := [(0, _), (1, _)]) dX4_choose_80 rfl (by decide) rfl ?_
        rw [Nat.mod_eq_of_lt (Nat.lt_trans (Nat.mod_lt (2 ^ (32 * W)) hc0) hcW), two_pow32]
        have h := J2 (32 * W) 0 (by omega)
        rw [Nat.pow_zero, Nat.mul_one] at h
        exact h
      · omega
    | succ k ih =>
      intro i hi
      refine r_iload_n dX4_choose_42 rfl ?_
      refine r_bipush (v := nI 32) dX4_choose_43 (by decide) ?_
      refine r_aload_n dX4_choose_45 rfl ?_
      refine r_getf dX4_choose_46 fX4_13 (by repeat first | exact wu_eq | assumption | (apply wu_ne; first | omega | assumption | (apply Ne.symm; assumption))) (by rfl) ?_
      first | refine r_imulN dX4_choose_49 ?_ | refine r_imul dX4_choose_49 ?_
      first | refine r_icmp_geN (tgt := 68) dX4_choose_50 (by decide) (by omega) (by omega) (fun h50 => ?_) (fun h50 => ?_) | refine r_icmp_ge (tgt := 68) dX4_choose_50 (by decide) (fun h50 => ?_) (fun h50 => ?_)
      · omega
      · refine r_aload_n dX4_choose_53 rfl ?_
        refine r_aload_n dX4_choose_54 rfl ?_
        refine r_getf dX4_choose_55 fX4_26 (by repeat first | exact wu_eq | assumption | (apply wu_ne; first | omega | assumption | (apply Ne.symm; assumption))) (by rfl) ?_
        refine r_iconst (v := nI 0) dX4_choose_58 (by decide) ?_
        refine r_invV dX4_choose_59 kX4_61 (c_twice (W := W) (ni := ni) (c := c) (x := 2 ^ i % c) (b := 0) (by repeat first | exact wu_eq | assumption | (apply wu_ne; first | omega | assumption | (apply Ne.symm; assumption))) (by repeat first | exact wu_eq | assumption | (apply wu_ne; first | omega | assumption | (apply Ne.symm; assumption))) (by repeat first | exact wu_eq | assumption | (apply wu_ne; first | omega | assumption | (apply Ne.symm; assumption))) (by omega) (by omega) hW hcW (Nat.mod_lt _ hc0) (by decide)) rfl rfl (by repeat first | exact wu_eq | assumption | (apply wu_ne; first | omega | assumption | (apply Ne.symm; assumption))) rfl rfl ⟨by decide, by decide⟩ (Nat.le_of_ble_eq_true rfl) ⟨by decide, by decide⟩ ⟨rfl, rfl⟩ ?_
        rintro _ _ _ ⟨rfl, rfl, rfl⟩
        refine r_iinc (L0 := [(0, _), (1, _)]) dX4_choose_62 rfl (by first | exact iinc1 _ | rfl) (by decide) rfl ?_
        refine r_goto (tgt := 42) dX4_choose_65 (by decide) ?_
        rw [wu_wu, dbl_mod, ← Nat.pow_succ]
        exact ih (i + 1) (by omega)
  refine r_iconst (v := nI 0) dX4_choose_40 (by decide) ?_
  refine r_istore_n (i := 2) (L0 := [(0, _), (1, _)]) dX4_choose_41 rfl (by decide) rfl ?_
  have h := J1 (32 * W) 0 (by omega)
  rw [Nat.pow_zero, Nat.mod_eq_of_lt h1] at h
  exact h
