/-! SignHouse$KeyRows: the private numbers -/
theorem dE_lt {v m : Nat} (hv : v < 4294967296 ^ m) : dE v < 4294967296 ^ m := by
  unfold dE
  refine Nat.div_lt_of_lt_mul ?_
  have h2 : v * (65537 - iE (v % 65537)) ≤ v * 65537 := Nat.mul_le_mul_left v (Nat.sub_le _ _)
  have h3 : (v + 1) * 65537 ≤ 4294967296 ^ m * 65537 := Nat.mul_le_mul_right _ hv
  rw [Nat.add_mul] at h3
  omega
set_option maxRecDepth 100000 in
set_option maxHeartbeats 4000000 in
theorem c_findPrivateNumbers {g : ab_G} {N made W n d p q dP dQ qI : Nat} {w : ab_W} (h : w 28 = krO made) (hK : KN w W n d p q dP dQ qI) (hT : KT w W) (hp : 1 ≤ p) (hq : 1 ≤ q) (hW : 1 ≤ W) (hW2 : W ≤ 10) : ab_Ct MX2_findPrivateNumbers g [.ref 28] N w (fun r N' w' => KN w' W n (dE ((p - 1) * (q - 1))) p q (dE (p - 1)) (dE (q - 1)) qI ∧ KT w' W ∧ (∀ k, (k < 53 ∨ 65 < k) → w' k = w k) ∧ r = none ∧ N = N') := by
  obtain ⟨n53, n54, n55, n56, n57, n58, n59, b53, b54, b55, b56, b57, b58, b59⟩ := hK
  obtain ⟨v0, v1, v2, f, v4, v5, t60, t61, t62, t63, t64, t65, c0, c1, c2, c4, c5⟩ := hT
  have hpm : p % 4294967296 ^ W = p := Nat.mod_eq_of_lt b55
  have hqm : q % 4294967296 ^ W = q := Nat.mod_eq_of_lt b56
  have lp : p - 1 < 4294967296 ^ W := by omega
  have lq : q - 1 < 4294967296 ^ W := by omega
  have lb : (p - 1) * (q - 1) < 4294967296 ^ (2 * W) := by
    rw [show 2 * W = W + W by omega, Nat.pow_add]
    exact Nat.mul_lt_mul'' lp lq
  refine ab_Ct.of (by decide +kernel) (Nat.le_of_ble_eq_true rfl) (by rintro _ _ _ ⟨-, -, -, rfl, -⟩; trivial) ?_
  show ab_St MX2_findPrivateNumbers g 0 0 0 [(0, .ref 28)] [] _ _ _
  refine r_aload_n dX2_findPrivateNumbers_0 rfl ?_
  refine r_getf dX2_findPrivateNumbers_1 fX2_52 (by repeat first | exact wu_eq | assumption | (apply wu_ne; first | omega | assumption | (apply Ne.symm; assumption))) (by rfl) ?_
  refine r_aload_n dX2_findPrivateNumbers_4 rfl ?_
  refine r_getf dX2_findPrivateNumbers_5 fX2_37 (by repeat first | exact wu_eq | assumption | (apply wu_ne; first | omega | assumption | (apply Ne.symm; assumption))) (by rfl) ?_
  refine r_invS dX2_findPrivateNumbers_8 kX2_80 (c_copy (n := W) (m := W) (u := v0) (v := p) (by decide) t60 n55 (by omega) (by omega) c0 b55) rfl rfl ⟨by decide, by decide⟩ (Nat.le_of_ble_eq_true rfl) ⟨by decide, by decide⟩ ⟨rfl, rfl⟩ ?_
  rintro _ _ _ ⟨rfl, rfl, rfl⟩
  rw [hpm]
  refine r_aload_n dX2_findPrivateNumbers_11 rfl ?_
  refine r_getf dX2_findPrivateNumbers_12 fX2_52 (by repeat first | exact wu_eq | assumption | (apply wu_ne; first | omega | assumption | (apply Ne.symm; assumption))) (by rfl) ?_
  refine r_lconst (v := lN 1) dX2_findPrivateNumbers_15 (by decide) ?_
  refine r_invS dX2_findPrivateNumbers_16 kX2_98 (c_lessen (n := W) (u := p) (y := 1) wu_eq (by omega) b55 (by decide) hp) rfl rfl ⟨by decide, by decide⟩ (Nat.le_of_ble_eq_true rfl) ⟨by decide, by decide⟩ ⟨rfl, rfl⟩ ?_
  rintro _ _ _ ⟨rfl, rfl, rfl⟩
  rw [wu_wu]
  refine r_aload_n dX2_findPrivateNumbers_19 rfl ?_
  refine r_getf dX2_findPrivateNumbers_20 fX2_55 (by repeat first | exact wu_eq | assumption | (apply wu_ne; first | omega | assumption | (apply Ne.symm; assumption))) (by rfl) ?_
  refine r_aload_n dX2_findPrivateNumbers_23 rfl ?_
  refine r_getf dX2_findPrivateNumbers_24 fX2_40 (by repeat first | exact wu_eq | assumption | (apply wu_ne; first | omega | assumption | (apply Ne.symm; assumption))) (by rfl) ?_
  refine r_invS dX2_findPrivateNumbers_27 kX2_80 (c_copy (n := W) (m := W) (u := v1) (v := q) (by decide) (wu_ne (by decide) t61) (wu_ne (by decide) n56) (by omega) (by omega) c1 b56) rfl rfl ⟨by decide, by decide⟩ (Nat.le_of_ble_eq_true rfl) ⟨by decide, by decide⟩ ⟨rfl, rfl⟩ ?_
  rintro _ _ _ ⟨rfl, rfl, rfl⟩
  rw [hqm]
  refine r_aload_n dX2_findPrivateNumbers_30 rfl ?_
  refine r_getf dX2_findPrivateNumbers_31 fX2_55 (by repeat first | exact wu_eq | assumption | (apply wu_ne; first | omega | assumption | (apply Ne.symm; assumption))) (by rfl) ?_
  refine r_lconst (v := lN 1) dX2_findPrivateNumbers_34 (by decide) ?_
  refine r_invS dX2_findPrivateNumbers_35 kX2_98 (c_lessen (n := W) (u := q) (y := 1) wu_eq (by omega) b56 (by decide) hq) rfl rfl ⟨by decide, by decide⟩ (Nat.le_of_ble_eq_true rfl) ⟨by decide, by decide⟩ ⟨rfl, rfl⟩ ?_
  rintro _ _ _ ⟨rfl, rfl, rfl⟩
  rw [wu_wu]
  refine r_aload_n dX2_findPrivateNumbers_38 rfl ?_
  refine r_getf dX2_findPrivateNumbers_39 fX2_58 (by repeat first | exact wu_eq | assumption | (apply wu_ne; first | omega | assumption | (apply Ne.symm; assumption))) (by rfl) ?_
  refine r_aload_n dX2_findPrivateNumbers_42 rfl ?_
  refine r_getf dX2_findPrivateNumbers_43 fX2_52 (by repeat first | exact wu_eq | assumption | (apply wu_ne; first | omega | assumption | (apply Ne.symm; assumption))) (by rfl) ?_
  refine r_aload_n dX2_findPrivateNumbers_46 rfl ?_
  refine r_getf dX2_findPrivateNumbers_47 fX2_55 (by repeat first | exact wu_eq | assumption | (apply wu_ne; first | omega | assumption | (apply Ne.symm; assumption))) (by rfl) ?_
  refine r_invS dX2_findPrivateNumbers_50 kX2_84 (c_multiply (n := 2 * W) (lb := W) (lc := W) (u := v2) (vb := p - 1) (vc := q - 1) (by decide) (by decide) (by repeat first | exact wu_eq | assumption | (apply wu_ne; first | omega | assumption | (apply Ne.symm; assumption))) (by repeat first | exact wu_eq | assumption | (apply wu_ne; first | omega | assumption | (apply Ne.symm; assumption))) (by repeat first | exact wu_eq | assumption | (apply wu_ne; first | omega | assumption | (apply Ne.symm; assumption))) (by omega) (by omega) c2 lp lq) rfl rfl ⟨by decide, by decide⟩ (Nat.le_of_ble_eq_true rfl) ⟨by decide, by decide⟩ ⟨rfl, rfl⟩ ?_
  rintro _ _ _ ⟨rfl, rfl, rfl⟩
  refine r_aload_n dX2_findPrivateNumbers_53 rfl ?_
  refine r_aload_n dX2_findPrivateNumbers_54 rfl ?_
  refine r_getf dX2_findPrivateNumbers_55 fX2_34 (by repeat first | exact wu_eq | assumption | (apply wu_ne; first | omega | assumption | (apply Ne.symm; assumption))) (by rfl) ?_
  refine r_aload_n dX2_findPrivateNumbers_58 rfl ?_
  refine r_getf dX2_findPrivateNumbers_59 fX2_58 (by repeat first | exact wu_eq | assumption | (apply wu_ne; first | omega | assumption | (apply Ne.symm; assumption))) (by rfl) ?_
  refine r_invV dX2_findPrivateNumbers_62 kX2_102 (c_invertE (m := 2 * W) (M' := 2 * W + 1) (u := d) (v := (p - 1) * (q - 1)) (f0 := f) (by repeat first | exact wu_eq | assumption | (apply wu_ne; first | omega | assumption | (apply Ne.symm; assumption))) (by repeat first | exact wu_eq | assumption | (apply wu_ne; first | omega | assumption | (apply Ne.symm; assumption))) (by repeat first | exact wu_eq | assumption | (apply wu_ne; first | omega | assumption | (apply Ne.symm; assumption))) (by repeat first | exact wu_eq | assumption | (apply wu_ne; first | omega | assumption | (apply Ne.symm; assumption))) (by decide) (by decide) (by decide) (by decide) (by omega) (by omega) b54 lb) rfl rfl (by repeat first | exact wu_eq | assumption | (apply wu_ne; first | omega | assumption | (apply Ne.symm; assumption))) rfl rfl ⟨by decide, by decide⟩ (Nat.le_of_ble_eq_true rfl) ⟨by decide, by decide⟩ ⟨rfl, rfl⟩ ?_
  rintro _ _ _ ⟨f1, rfl, rfl, rfl⟩
  refine r_aload_n dX2_findPrivateNumbers_65 rfl ?_
  refine r_aload_n dX2_findPrivateNumbers_66 rfl ?_
  refine r_getf dX2_findPrivateNumbers_67 fX2_43 (by repeat first | exact wu_eq | assumption | (apply wu_ne; first | omega | assumption | (apply Ne.symm; assumption))) (by rfl) ?_
  refine r_aload_n dX2_findPrivateNumbers_70 rfl ?_
  refine r_getf dX2_findPrivateNumbers_71 fX2_52 (by repeat first | exact wu_eq | assumption | (apply wu_ne; first | omega | assumption | (apply Ne.symm; assumption))) (by rfl) ?_
  refine r_invV dX2_findPrivateNumbers_74 kX2_102 (c_invertE (m := W) (M' := 2 * W + 1) (u := dP) (v := p - 1) (f0 := f1) (by repeat first | exact wu_eq | assumption | (apply wu_ne; first | omega | assumption | (apply Ne.symm; assumption))) (by repeat first | exact wu_eq | assumption | (apply wu_ne; first | omega | assumption | (apply Ne.symm; assumption))) (by repeat first | exact wu_eq | assumption | (apply wu_ne; first | omega | assumption | (apply Ne.symm; assumption))) (by repeat first | exact wu_eq | assumption | (apply wu_ne; first | omega | assumption | (apply Ne.symm; assumption))) (by decide) (by decide) (by decide) (by decide) (by omega) (by omega) b57 lp) rfl rfl (by repeat first | exact wu_eq | assumption | (apply wu_ne; first | omega | assumption | (apply Ne.symm; assumption))) rfl rfl ⟨by decide, by decide⟩ (Nat.le_of_ble_eq_true rfl) ⟨by decide, by decide⟩ ⟨rfl, rfl⟩ ?_
  rintro _ _ _ ⟨f2, rfl, rfl, rfl⟩
  refine r_aload_n dX2_findPrivateNumbers_77 rfl ?_
  refine r_aload_n dX2_findPrivateNumbers_78 rfl ?_
  refine r_getf dX2_findPrivateNumbers_79 fX2_46 (by repeat first | exact wu_eq | assumption | (apply wu_ne; first | omega | assumption | (apply Ne.symm; assumption))) (by rfl) ?_
  refine r_aload_n dX2_findPrivateNumbers_82 rfl ?_
  refine r_getf dX2_findPrivateNumbers_83 fX2_55 (by repeat first | exact wu_eq | assumption | (apply wu_ne; first | omega | assumption | (apply Ne.symm; assumption))) (by rfl) ?_
  refine r_invV dX2_findPrivateNumbers_86 kX2_102 (c_invertE (m := W) (M' := 2 * W + 1) (u := dQ) (v := q - 1) (f0 := f2) (by repeat first | exact wu_eq | assumption | (apply wu_ne; first | omega | assumption | (apply Ne.symm; assumption))) (by repeat first | exact wu_eq | assumption | (apply wu_ne; first | omega | assumption | (apply Ne.symm; assumption))) (by repeat first | exact wu_eq | assumption | (apply wu_ne; first | omega | assumption | (apply Ne.symm; assumption))) (by repeat first | exact wu_eq | assumption | (apply wu_ne; first | omega | assumption | (apply Ne.symm; assumption))) (by decide) (by decide) (by decide) (by decide) (by omega) (by omega) b58 lq) rfl rfl (by repeat first | exact wu_eq | assumption | (apply wu_ne; first | omega | assumption | (apply Ne.symm; assumption))) rfl rfl ⟨by decide, by decide⟩ (Nat.le_of_ble_eq_true rfl) ⟨by decide, by decide⟩ ⟨rfl, rfl⟩ ?_
  rintro _ _ _ ⟨f3, rfl, rfl, rfl⟩
  refine r_ret (r := none) dX2_findPrivateNumbers_89 (by decide) (by decide) ?_
  refine ⟨⟨?_, ?_, ?_, ?_, ?_, ?_, ?_, b53, dE_lt lb, b55, b56, dE_lt lp, dE_lt lq, b59⟩, ⟨p - 1, q - 1, (p - 1) * (q - 1), f3, v4, v5, ?_, ?_, ?_, ?_, ?_, ?_, lp, lq, lb, c4, c5⟩, fun k hk => ?_, rfl, rfl⟩
  · (repeat first | exact wu_eq | assumption | (apply wu_ne; first | omega | assumption | (apply Ne.symm; assumption)))
  · (repeat first | exact wu_eq | assumption | (apply wu_ne; first | omega | assumption | (apply Ne.symm; assumption)))
  · (repeat first | exact wu_eq | assumption | (apply wu_ne; first | omega | assumption | (apply Ne.symm; assumption)))
  · (repeat first | exact wu_eq | assumption | (apply wu_ne; first | omega | assumption | (apply Ne.symm; assumption)))
  · (repeat first | exact wu_eq | assumption | (apply wu_ne; first | omega | assumption | (apply Ne.symm; assumption)))
  · (repeat first | exact wu_eq | assumption | (apply wu_ne; first | omega | assumption | (apply Ne.symm; assumption)))
  · (repeat first | exact wu_eq | assumption | (apply wu_ne; first | omega | assumption | (apply Ne.symm; assumption)))
  · (repeat first | exact wu_eq | assumption | (apply wu_ne; first | omega | assumption | (apply Ne.symm; assumption)))
  · (repeat first | exact wu_eq | assumption | (apply wu_ne; first | omega | assumption | (apply Ne.symm; assumption)))
  · (repeat first | exact wu_eq | assumption | (apply wu_ne; first | omega | assumption | (apply Ne.symm; assumption)))
  · (repeat first | exact wu_eq | assumption | (apply wu_ne; first | omega | assumption | (apply Ne.symm; assumption)))
  · (repeat first | exact wu_eq | assumption | (apply wu_ne; first | omega | assumption | (apply Ne.symm; assumption)))
  · (repeat first | exact wu_eq | assumption | (apply wu_ne; first | omega | assumption | (apply Ne.symm; assumption)))
  · repeat (first | rfl | (apply wu_ne; omega))
