/-! SignHouseModel: powers -/
def bn83 (x : Nat) : Prop := x < 65536 ^ 83
def bn40 (x : Nat) : Prop := 65536 ≤ x ∧ x < 65536 ^ 40
theorem sq_mod (x y M : Nat) : x % M * (y % M) % M = x * y % M := (Nat.mul_mod x y M).symm
set_option maxRecDepth 100000 in
set_option maxHeartbeats 4000000 in
theorem c_powers {g : ab_G} {N b e m : Nat} {v : Nat → Nat} {fs : List Value} {w : ab_W} (h : w 74 = mdX fs) (hx : w 75 = xA v) (hb : b < 19) (he : e < 19) (hm : m < 19) (hb9 : b < 9 ∨ 12 < b) (he9 : e < 9 ∨ 12 < e) (hm9 : m < 9 ∨ 12 < m) (hMM : bn40 (v m)) (hB : bn83 (v b)) (hE : bnd (v e)) : ab_Ct MX8_powers g [.ref 74, .int (nI b), .int (nI e), .int (nI m)] N w (fun r N' w' => (∃ v', w' = wu w 75 (xA v') ∧ v' 10 = v b ^ v e % v m ∧ ∀ k, (k < 9 ∨ 12 < k) → v' k = v k) ∧ r = none ∧ N = N') := by
  have hM := hMM.1
  have hM2 := hMM.2
  have hM0 : 0 < v m := Nat.lt_of_lt_of_le (by decide) hM
  have hle := ll_le hE
  have hlt := ll_lt (v e)
  have h80 : ∀ x y, x < v m → y < v m → bn83 (x * y) := fun x y q1 q2 => Nat.lt_trans (Nat.mul_lt_mul'' (Nat.lt_trans q1 hM2) (Nat.lt_trans q2 hM2)) (by rw [← Nat.pow_add]; exact Nat.pow_lt_pow_right (by decide) (by decide))
  have h40 : ∀ x, x < v m → x < 65536 ^ 40 := fun x q => Nat.lt_trans q hM2
  clear hM hM2
  have K : ∀ k, k ≤ 16 * ll (v e) → ∀ v1, v1 10 = v b ^ (v e / 2 ^ k) % v m → v1 9 = v b % v m → (∀ j, (j < 9 ∨ 12 < j) → v1 j = v j) → ab_St MX8_powers g 0 0 33 [(4, .int (nI k - 1)), (0, .ref 74), (1, .int (nI b)), (2, .int (nI e)), (3, .int (nI m))] [] N (wu w 75 (xA v1)) (fun r N' w' => (∃ v', w' = wu w 75 (xA v') ∧ v' 10 = v b ^ v e % v m ∧ ∀ k, (k < 9 ∨ 12 < k) → v' k = v k) ∧ r = none ∧ N = N') := by
    intro k
    induction k with
    | zero =>
      intro _ v1 h1 h2 h3
      rw [Nat.pow_zero, Nat.div_one] at h1
      refine r_iload dX8_powers_33 rfl ?_
      refine r_if_lt (tgt := 104) dX8_powers_35 (by decide) (fun _ => ?_) (fun h => absurd nI0lt h)
      refine r_ret (r := none) dX8_powers_104 (by decide) (by decide) ?_
      exact ⟨⟨v1, rfl, h1, h3⟩, rfl, rfl⟩
    | succ k ih =>
      intro hk v1 h1 h2 h3
      have ih1 := ih (by omega)
      clear ih
      rw [i32_pm]
      have hR : v1 10 < v m := by rw [h1]; exact Nat.mod_lt _ hM0
      have em1 := h3 m hm9
      have ee1 := h3 e he9
      clear hlt
      have hstep := mt_pow_step (c := 0) (W := 0) (x := v b) (e := v e) (k := k)
      refine r_iload dX8_powers_33 rfl ?_
      first | refine r_if_ltN (tgt := 104) dX8_powers_35 (by decide) (by omega) (fun h35 => ?_) | refine r_if_lt (tgt := 104) dX8_powers_35 (by decide) (fun h35 => ?_) (fun h35 => ?_)
      refine r_aload_n dX8_powers_38 rfl ?_
      refine r_bipush (v := nI 11) dX8_powers_39 (by decide) ?_
      refine r_bipush (v := nI 10) dX8_powers_41 (by decide) ?_
      refine r_bipush (v := nI 10) dX8_powers_43 (by decide) ?_
      refine r_invV dX8_powers_45 kX8_148 (c_times6 (t := 11) (a := 10) (b := 10) (v := v1) (by repeat first | exact wu_eq | assumption | (apply wu_ne; first | omega | assumption | (apply Ne.symm; assumption))) wu_eq (by decide) (by decide) (by decide) (by decide) (by decide) (h40 _ hR) (h40 _ hR) (by decide)) rfl rfl (by repeat first | exact wu_eq | assumption | (apply wu_ne; first | omega | assumption | (apply Ne.symm; assumption))) rfl rfl ⟨by decide, by decide⟩ (Nat.le_of_ble_eq_true rfl) ⟨by decide, by decide⟩ ⟨rfl, rfl⟩ ?_
      rintro _ _ _ ⟨rfl, rfl, rfl⟩
      rw [wu_wu]
      have e11 : us v1 11 (v1 10 * v1 10) 11 = v1 10 * v1 10 := us_eq
      have em2 : us v1 11 (v1 10 * v1 10) m = v m := (us_ne (by omega)).trans em1
      have f2 : ∀ j, j ≠ 11 → us v1 11 (v1 10 * v1 10) j = v1 j := fun j hj => us_ne hj
      generalize us v1 11 (v1 10 * v1 10) = v2 at e11 em2 f2 ⊢
      refine r_aload_n dX8_powers_48 rfl ?_
      refine r_bipush (v := nI 11) dX8_powers_49 (by decide) ?_
      refine r_iload_n dX8_powers_51 rfl ?_
      refine r_invV dX8_powers_52 kX8_142 (c_leaves (s := 11) (m := m) (v := v2) (by repeat first | exact wu_eq | assumption | (apply wu_ne; first | omega | assumption | (apply Ne.symm; assumption))) wu_eq (by decide) hm (by decide) (by omega) (by omega) (by rw [em2]; exact hMM.1) (by rw [em2]; exact hMM.2) (by rw [e11]; exact h80 _ _ hR hR)) rfl rfl (by repeat first | exact wu_eq | assumption | (apply wu_ne; first | omega | assumption | (apply Ne.symm; assumption))) rfl rfl ⟨by decide, by decide⟩ (Nat.le_of_ble_eq_true rfl) ⟨by decide, by decide⟩ ⟨rfl, rfl⟩ ?_
      rintro _ _ _ ⟨⟨v3, rfl, g11, f3⟩, rfl, rfl⟩
      rw [wu_wu]
      rw [e11, em2] at g11
      refine r_aload_n dX8_powers_55 rfl ?_
      refine r_bipush (v := nI 10) dX8_powers_56 (by decide) ?_
      refine r_bipush (v := nI 11) dX8_powers_58 (by decide) ?_
      refine r_invV dX8_powers_60 kX8_139 (c_mcopy (t := 10) (s := 11) (v := v3) (by repeat first | exact wu_eq | assumption | (apply wu_ne; first | omega | assumption | (apply Ne.symm; assumption))) wu_eq (by decide) (by decide) (by decide)) rfl rfl (by repeat first | exact wu_eq | assumption | (apply wu_ne; first | omega | assumption | (apply Ne.symm; assumption))) rfl rfl ⟨by decide, by decide⟩ (Nat.le_of_ble_eq_true rfl) ⟨by decide, by decide⟩ ⟨rfl, rfl⟩ ?_
      rintro _ _ _ ⟨rfl, rfl, rfl⟩
      rw [wu_wu]
      have i10 : us v3 10 (v3 11) 10 = v1 10 * v1 10 % v m := us_eq.trans g11
      have f4 : ∀ j, j ≠ 10 → j ≠ 11 → j ≠ 12 → us v3 10 (v3 11) j = v1 j := fun j a1 a2 a3 => (us_ne a1).trans ((f3 j a2 a3).trans (f2 j a2))
      generalize us v3 10 (v3 11) = v4 at i10 f4 ⊢
      have ee4 : v4 e = v e := (f4 e (by omega) (by omega) (by omega)).trans ee1
      have em4 : v4 m = v m := (f4 m (by omega) (by omega) (by omega)).trans em1
      have e94 : v4 9 = v b % v m := (f4 9 (by decide) (by decide) (by decide)).trans h2
      have hR4 : v4 10 < v m := by rw [i10]; exact Nat.mod_lt _ hM0
      have h94 : v4 9 < v m := by rw [e94]; exact Nat.mod_lt _ hM0
      have hbit : dg 2 (v e) k < 2 := Nat.mod_lt _ (by decide)
      have i10' : v4 10 = v b ^ (v e / 2 ^ (k + 1)) * v b ^ (v e / 2 ^ (k + 1)) % v m := by rw [i10, h1, sq_mod]
      refine r_aload_n dX8_powers_63 rfl ?_
      refine r_iload_n dX8_powers_64 rfl ?_
      refine r_iload dX8_powers_65 rfl ?_
      refine r_invV dX8_powers_67 kX8_151 (c_bit (s := e) (k := k) (v := v4) (by repeat first | exact wu_eq | assumption | (apply wu_ne; first | omega | assumption | (apply Ne.symm; assumption))) wu_eq he (by omega)) rfl rfl (by repeat first | exact wu_eq | assumption | (apply wu_ne; first | omega | assumption | (apply Ne.symm; assumption))) rfl rfl ⟨by decide, by decide⟩ (Nat.le_of_ble_eq_true rfl) ⟨by decide, by decide⟩ ⟨rfl, rfl⟩ ?_
      rintro _ _ _ ⟨rfl, rfl, rfl⟩
      rw [ee4]
      first | refine r_if_eqN (tgt := 98) dX8_powers_70 (by decide) (by omega) (fun h70 => ?_) (fun h70 => ?_) | refine r_if_eq (tgt := 98) dX8_powers_70 (by decide) (fun h70 => ?_) (fun h70 => ?_)
      · refine r_iinc (L0 := [(0, _), (1, _), (2, _), (3, _)]) dX8_powers_98 rfl (by first | exact iincm1' _ | rfl) (by decide) rfl ?_
        refine r_goto (tgt := 33) dX8_powers_101 (by decide) ?_
        rw [if_pos h70, Nat.mul_one] at hstep
        rw [hstep] at i10'
        exact ih1 v4 i10' e94 fun j hj => (f4 j (by omega) (by omega) (by omega)).trans (h3 j hj)
      · rw [if_neg h70] at hstep
        refine r_aload_n dX8_powers_73 rfl ?_
        refine r_bipush (v := nI 11) dX8_powers_74 (by decide) ?_
        refine r_bipush (v := nI 10) dX8_powers_76 (by decide) ?_
        refine r_bipush (v := nI 9) dX8_powers_78 (by decide) ?_
        refine r_invV dX8_powers_80 kX8_148 (c_times6 (t := 11) (a := 10) (b := 9) (v := v4) (by repeat first | exact wu_eq | assumption | (apply wu_ne; first | omega | assumption | (apply Ne.symm; assumption))) wu_eq (by decide) (by decide) (by decide) (by decide) (by decide) (h40 _ hR4) (h40 _ h94) (by decide)) rfl rfl (by repeat first | exact wu_eq | assumption | (apply wu_ne; first | omega | assumption | (apply Ne.symm; assumption))) rfl rfl ⟨by decide, by decide⟩ (Nat.le_of_ble_eq_true rfl) ⟨by decide, by decide⟩ ⟨rfl, rfl⟩ ?_
        rintro _ _ _ ⟨rfl, rfl, rfl⟩
        rw [wu_wu]
        have j11 : us v4 11 (v4 10 * v4 9) 11 = v4 10 * v4 9 := us_eq
        have jm : us v4 11 (v4 10 * v4 9) m = v m := (us_ne (by omega)).trans em4
        have f5 : ∀ j, j ≠ 11 → us v4 11 (v4 10 * v4 9) j = v4 j := fun j hj => us_ne hj
        generalize us v4 11 (v4 10 * v4 9) = v5 at j11 jm f5 ⊢
        refine r_aload_n dX8_powers_83 rfl ?_
        refine r_bipush (v := nI 11) dX8_powers_84 (by decide) ?_
        refine r_iload_n dX8_powers_86 rfl ?_
        refine r_invV dX8_powers_87 kX8_142 (c_leaves (s := 11) (m := m) (v := v5) (by repeat first | exact wu_eq | assumption | (apply wu_ne; first | omega | assumption | (apply Ne.symm; assumption))) wu_eq (by decide) hm (by decide) (by omega) (by omega) (by rw [jm]; exact hMM.1) (by rw [jm]; exact hMM.2) (by rw [j11]; exact h80 _ _ hR4 h94)) rfl rfl (by repeat first | exact wu_eq | assumption | (apply wu_ne; first | omega | assumption | (apply Ne.symm; assumption))) rfl rfl ⟨by decide, by decide⟩ (Nat.le_of_ble_eq_true rfl) ⟨by decide, by decide⟩ ⟨rfl, rfl⟩ ?_
        rintro _ _ _ ⟨⟨v6, rfl, k11, f6⟩, rfl, rfl⟩
        rw [wu_wu]
        rw [j11, jm, i10', e94, sq_mod, hstep] at k11
        refine r_aload_n dX8_powers_90 rfl ?_
        refine r_bipush (v := nI 10) dX8_powers_91 (by decide) ?_
        refine r_bipush (v := nI 11) dX8_powers_93 (by decide) ?_
        refine r_invV dX8_powers_95 kX8_139 (c_mcopy (t := 10) (s := 11) (v := v6) (by repeat first | exact wu_eq | assumption | (apply wu_ne; first | omega | assumption | (apply Ne.symm; assumption))) wu_eq (by decide) (by decide) (by decide)) rfl rfl (by repeat first | exact wu_eq | assumption | (apply wu_ne; first | omega | assumption | (apply Ne.symm; assumption))) rfl rfl ⟨by decide, by decide⟩ (Nat.le_of_ble_eq_true rfl) ⟨by decide, by decide⟩ ⟨rfl, rfl⟩ ?_
        rintro _ _ _ ⟨rfl, rfl, rfl⟩
        rw [wu_wu]
        refine r_iinc (L0 := [(0, _), (1, _), (2, _), (3, _)]) dX8_powers_98 rfl (by first | exact iincm1' _ | rfl) (by decide) rfl ?_
        refine r_goto (tgt := 33) dX8_powers_101 (by decide) ?_
        refine ih1 _ (us_eq.trans k11) ((us_ne (by decide)).trans ((f6 9 (by decide) (by decide)).trans ((f5 9 (by decide)).trans e94))) fun j hj => ?_
        exact (us_ne (by omega)).trans ((f6 j (by omega) (by omega)).trans ((f5 j (by omega)).trans ((f4 j (by omega) (by omega) (by omega)).trans (h3 j hj))))
  refine ab_Ct.of (by decide +kernel) (Nat.le_of_ble_eq_true rfl) (by rintro _ _ _ ⟨-, rfl, -⟩; trivial) ?_
  show ab_St MX8_powers g 0 0 0 [(0, .ref 74), (1, .int (nI b)), (2, .int (nI e)), (3, .int (nI m))] [] _ _ _
  refine r_aload_n dX8_powers_0 rfl ?_
  refine r_bipush (v := nI 9) dX8_powers_1 (by decide) ?_
  refine r_iload_n dX8_powers_3 rfl ?_
  refine r_invV dX8_powers_4 kX8_139 (c_mcopy (t := 9) (s := b) (v := v) h hx (by decide) hb (by omega)) rfl rfl (by repeat first | exact wu_eq | assumption | (apply wu_ne; first | omega | assumption | (apply Ne.symm; assumption))) rfl rfl ⟨by decide, by decide⟩ (Nat.le_of_ble_eq_true rfl) ⟨by decide, by decide⟩ ⟨rfl, rfl⟩ ?_
  rintro _ _ _ ⟨rfl, rfl, rfl⟩
  have e9 : us v 9 (v b) 9 = v b := us_eq
  have em : us v 9 (v b) m = v m := us_ne (by omega)
  have f1 : ∀ j, j ≠ 9 → us v 9 (v b) j = v j := fun j hj => us_ne hj
  generalize us v 9 (v b) = v1 at e9 em f1 ⊢
  refine r_aload_n dX8_powers_7 rfl ?_
  refine r_bipush (v := nI 9) dX8_powers_8 (by decide) ?_
  refine r_iload_n dX8_powers_10 rfl ?_
  refine r_invV dX8_powers_11 kX8_142 (c_leaves (s := 9) (m := m) (v := v1) (by repeat first | exact wu_eq | assumption | (apply wu_ne; first | omega | assumption | (apply Ne.symm; assumption))) wu_eq (by decide) hm (by decide) (by omega) (by omega) (by rw [em]; exact hMM.1) (by rw [em]; exact hMM.2) (by rw [e9]; exact hB)) rfl rfl (by repeat first | exact wu_eq | assumption | (apply wu_ne; first | omega | assumption | (apply Ne.symm; assumption))) rfl rfl ⟨by decide, by decide⟩ (Nat.le_of_ble_eq_true rfl) ⟨by decide, by decide⟩ ⟨rfl, rfl⟩ ?_
  rintro _ _ _ ⟨⟨v2, rfl, g9, f2⟩, rfl, rfl⟩
  rw [wu_wu]
  rw [e9, em] at g9
  refine r_aload_n dX8_powers_14 rfl ?_
  refine r_bipush (v := nI 10) dX8_powers_15 (by decide) ?_
  refine r_iconst (v := nI 1) dX8_powers_17 (by decide) ?_
  refine r_invV dX8_powers_18 kX8_145 (c_small (s := 10) (x := 1) (v := v2) (by repeat first | exact wu_eq | assumption | (apply wu_ne; first | omega | assumption | (apply Ne.symm; assumption))) wu_eq (by decide) (by decide)) rfl rfl (by repeat first | exact wu_eq | assumption | (apply wu_ne; first | omega | assumption | (apply Ne.symm; assumption))) rfl rfl ⟨by decide, by decide⟩ (Nat.le_of_ble_eq_true rfl) ⟨by decide, by decide⟩ ⟨rfl, rfl⟩ ?_
  rintro _ _ _ ⟨rfl, rfl, rfl⟩
  rw [wu_wu]
  have f3 : ∀ j, (j < 9 ∨ 12 < j) → us v2 10 1 j = v j := fun j hj => (us_ne (by omega)).trans ((f2 j (by omega) (by omega)).trans (f1 j (by omega)))
  have i9 : us v2 10 1 9 = v b % v m := (us_ne (by decide)).trans g9
  have i10 : us v2 10 1 10 = 1 := us_eq
  generalize us v2 10 1 = v3 at f3 i9 i10 ⊢
  have ee : v3 e = v e := f3 e he9
  refine r_bipush (v := nI 16) dX8_powers_21 (by decide) ?_
  refine r_aload_n dX8_powers_23 rfl ?_
  refine r_iload_n dX8_powers_24 rfl ?_
  refine r_invV dX8_powers_25 kX8_120 (c_longOf (s := e) (v := v3) (by repeat first | exact wu_eq | assumption | (apply wu_ne; first | omega | assumption | (apply Ne.symm; assumption))) wu_eq he (by rw [ee]; exact hE)) rfl rfl (by repeat first | exact wu_eq | assumption | (apply wu_ne; first | omega | assumption | (apply Ne.symm; assumption))) rfl rfl ⟨by decide, by decide⟩ (Nat.le_of_ble_eq_true rfl) ⟨by decide, by decide⟩ ⟨rfl, rfl⟩ ?_
  rintro _ _ _ ⟨rfl, rfl, rfl⟩
  rw [ee]
  first | refine r_imulN dX8_powers_28 ?_ | refine r_imul dX8_powers_28 ?_
  refine r_iconst (v := nI 1) dX8_powers_29 (by decide) ?_
  rw [show (nI 1 : Int32) = 1 by decide]
  refine r_isub dX8_powers_30 ?_
  refine r_istore (i := 4) (L0 := [(0, _), (1, _), (2, _), (3, _)]) dX8_powers_31 (by decide) rfl ?_
  refine K (16 * ll (v e)) (Nat.le_refl _) v3 ?_ i9 f3
  rw [i10, Nat.div_eq_of_lt (by rw [← p16]; exact hlt), Nat.pow_zero, Nat.mod_eq_of_lt]
  exact Nat.lt_of_lt_of_le (by decide) hMM.1
