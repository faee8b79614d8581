/-! SignHouseModel: makesKey -/
def bn20 (x : Nat) : Prop := 65536 ≤ x ∧ x < 65536 ^ 20
theorem bn20.b {x : Nat} (h : bn20 x) : bnd x := Nat.lt_trans h.2 (Nat.pow_lt_pow_right (by decide) (by decide))
theorem bn20.b40 {x : Nat} (h : bn20 x) : bn40 x := ⟨h.1, Nat.lt_trans h.2 (Nat.pow_lt_pow_right (by decide) (by decide))⟩
theorem bn20.b42 {x : Nat} (h : bn20 x) : bn42 x := Nat.lt_trans h.2 (Nat.pow_lt_pow_right (by decide) (by decide))
theorem bn20.b83 {x : Nat} (h : bn20 x) : bn83 x := Nat.lt_trans h.2 (Nat.pow_lt_pow_right (by decide) (by decide))
theorem bn42.le {x y : Nat} (h : bn42 y) (hx : x ≤ y) : bn42 x := Nat.lt_of_le_of_lt hx h
theorem mod_pred {x : Nat} (h1 : 1 ≤ x) (h : x % 65537 ≠ 1) : (x - 1) % 65537 ≠ 0 := by
  intro h0
  refine h ?_
  obtain ⟨y, rfl⟩ : ∃ y, x = y + 1 := ⟨x - 1, by omega⟩
  rw [Nat.add_sub_cancel] at h0
  rw [Nat.add_mod, h0]
theorem c_mk1 {P Q : Nat} (hP : bn20 P) (hQ : bn20 Q) : (P - 1) * (Q - 1) ≤ P * Q ∧ bn42 (P * Q) ∧ P * Q < 65536 ^ 40 := by
  have h1 : P * Q < 65536 ^ 20 * 65536 ^ 20 := Nat.mul_lt_mul'' hP.2 hQ.2
  rw [← Nat.pow_add] at h1
  exact ⟨Nat.mul_le_mul (Nat.sub_le _ _) (Nat.sub_le _ _), Nat.lt_trans h1 (Nat.pow_lt_pow_right (by decide) (by decide)), h1⟩
set_option maxRecDepth 100000 in
set_option maxHeartbeats 4000000 in
theorem c_makesKey {g : ab_G} {N half rounds bu c bg ik hp ex un db da sg vf len p0 q0 : Nat} {v : Nat → Nat} {w : ab_W} (h : w 74 = mdO half rounds bu c bg ik hp ex un db da sg vf len) (hx : w 75 = xA v) (h2 : v 2 = p0) (h3 : v 3 = q0) (hp0 : bn20 p0) (hq0 : bn20 q0) (hp1 : p0 % 65537 ≠ 1) (hq1 : q0 % 65537 ≠ 1) : ab_Ct MX8_makesKey g [.ref 74] N w (fun r N' w' => w' 74 = mdO half rounds bu c bg 1 hp ex un db da sg vf len ∧ (∃ v', w' 75 = xA v' ∧ (∀ k, k < 7 → v' k = kvp (max p0 q0) (min p0 q0) k) ∧ v' 7 = v 7) ∧ (∀ k, k ≠ 74 → k ≠ 75 → w' k = w k) ∧ r = none ∧ N = N') := by
  have T : ∀ P Q v1, bn20 P → bn20 Q → P % 65537 ≠ 1 → Q % 65537 ≠ 1 → v1 2 = P → v1 3 = Q → v1 7 = v 7 → ab_St MX8_makesKey g 0 0 29 [(0, .ref 74)] [] N (wu w 75 (xA v1)) (fun r N' w' => w' 74 = mdO half rounds bu c bg 1 hp ex un db da sg vf len ∧ (∃ v', w' 75 = xA v' ∧ (∀ k, k < 7 → v' k = kvp P Q k) ∧ v' 7 = v 7) ∧ (∀ k, k ≠ 74 → k ≠ 75 → w' k = w k) ∧ r = none ∧ N = N') := by
    intro P Q v1 hP hQ hP1 hQ1 e2 e3 e7
    obtain ⟨m1, m2, m3⟩ := c_mk1 hP hQ
    have p1 : 1 ≤ P := Nat.le_trans (by decide) hP.1
    have q1 : 1 ≤ Q := Nat.le_trans (by decide) hQ.1
    have p2 : 2 ≤ P := Nat.le_trans (by decide) hP.1
    have rP := mod_pred p1 hP1
    have rQ := mod_pred q1 hQ1
    have rPQ := e_mul rP rQ
    have lP := Nat.sub_le P 1
    have lQ := Nat.sub_le Q 1
    clear hP1 hQ1
    refine r_aload_n dX8_makesKey_29 rfl ?_
    refine r_iconst (v := nI 0) dX8_makesKey_30 (by decide) ?_
    refine r_iconst (v := nI 2) dX8_makesKey_31 (by decide) ?_
    refine r_iconst (v := nI 3) dX8_makesKey_32 (by decide) ?_
    refine r_invV dX8_makesKey_33 kX8_148 (c_times6 (t := 0) (a := 2) (b := 3) (n := 20) (m := 20) (v := v1) (by repeat first | exact wu_eq | assumption | (apply wu_ne; first | omega | assumption | (apply Ne.symm; assumption))) wu_eq (by decide) (by decide) (by decide) (by decide) (by decide) (by rw [e2]; exact hP.2) (by rw [e3]; exact hQ.2) (by decide)) rfl rfl (by repeat first | exact wu_eq | assumption | (apply wu_ne; first | omega | assumption | (apply Ne.symm; assumption))) rfl rfl ⟨by decide, by decide⟩ (Nat.le_of_ble_eq_true rfl) ⟨by decide, by decide⟩ ⟨rfl, rfl⟩ ?_
    rintro _ _ _ ⟨rfl, rfl, rfl⟩
    rw [wu_wu, e2, e3]
    have a0 : us v1 0 (P * Q) 0 = P * Q := us_eq
    have a2 : us v1 0 (P * Q) 2 = P := (us_ne (by decide)).trans e2
    have a3 : us v1 0 (P * Q) 3 = Q := (us_ne (by decide)).trans e3
    have a7 : us v1 0 (P * Q) 7 = v 7 := (us_ne (by decide)).trans e7
    generalize us v1 0 (P * Q) = v2 at a0 a2 a3 a7 ⊢
    refine r_aload_n dX8_makesKey_36 rfl ?_
    refine r_bipush (v := nI 15) dX8_makesKey_37 (by decide) ?_
    refine r_iconst (v := nI 2) dX8_makesKey_39 (by decide) ?_
    refine r_invV dX8_makesKey_40 kX8_139 (c_mcopy (t := 15) (s := 2) (v := v2) (by repeat first | exact wu_eq | assumption | (apply wu_ne; first | omega | assumption | (apply Ne.symm; assumption))) wu_eq (by decide) (by decide) (by decide)) rfl rfl (by repeat first | exact wu_eq | assumption | (apply wu_ne; first | omega | assumption | (apply Ne.symm; assumption))) rfl rfl ⟨by decide, by decide⟩ (Nat.le_of_ble_eq_true rfl) ⟨by decide, by decide⟩ ⟨rfl, rfl⟩ ?_
    rintro _ _ _ ⟨rfl, rfl, rfl⟩
    rw [wu_wu, a2]
    refine r_aload_n dX8_makesKey_43 rfl ?_
    refine r_bipush (v := nI 15) dX8_makesKey_44 (by decide) ?_
    refine r_iconst (v := nI 1) dX8_makesKey_46 (by decide) ?_
    refine r_invV dX8_makesKey_47 kX8_203 (c_takesSmall (a := 15) (y := 1) (v := us v2 15 P) (by repeat first | exact wu_eq | assumption | (apply wu_ne; first | omega | assumption | (apply Ne.symm; assumption))) wu_eq (by decide) (by rw [us_eq]; exact hP.b) (by decide) (by rw [us_eq]; exact p1)) rfl rfl (by repeat first | exact wu_eq | assumption | (apply wu_ne; first | omega | assumption | (apply Ne.symm; assumption))) rfl rfl ⟨by decide, by decide⟩ (Nat.le_of_ble_eq_true rfl) ⟨by decide, by decide⟩ ⟨rfl, rfl⟩ ?_
    rintro _ _ _ ⟨rfl, rfl, rfl⟩
    rw [wu_wu, us_eq, us_us]
    refine r_aload_n dX8_makesKey_50 rfl ?_
    refine r_bipush (v := nI 16) dX8_makesKey_51 (by decide) ?_
    refine r_iconst (v := nI 3) dX8_makesKey_53 (by decide) ?_
    refine r_invV dX8_makesKey_54 kX8_139 (c_mcopy (t := 16) (s := 3) (v := us v2 15 (P - 1)) (by repeat first | exact wu_eq | assumption | (apply wu_ne; first | omega | assumption | (apply Ne.symm; assumption))) wu_eq (by decide) (by decide) (by decide)) rfl rfl (by repeat first | exact wu_eq | assumption | (apply wu_ne; first | omega | assumption | (apply Ne.symm; assumption))) rfl rfl ⟨by decide, by decide⟩ (Nat.le_of_ble_eq_true rfl) ⟨by decide, by decide⟩ ⟨rfl, rfl⟩ ?_
    rintro _ _ _ ⟨rfl, rfl, rfl⟩
    rw [wu_wu, show us v2 15 (P - 1) 3 = Q from (us_ne (by decide)).trans a3]
    refine r_aload_n dX8_makesKey_57 rfl ?_
    refine r_bipush (v := nI 16) dX8_makesKey_58 (by decide) ?_
    refine r_iconst (v := nI 1) dX8_makesKey_60 (by decide) ?_
    refine r_invV dX8_makesKey_61 kX8_203 (c_takesSmall (a := 16) (y := 1) (v := us (us v2 15 (P - 1)) 16 Q) (by repeat first | exact wu_eq | assumption | (apply wu_ne; first | omega | assumption | (apply Ne.symm; assumption))) wu_eq (by decide) (by rw [us_eq]; exact hQ.b) (by decide) (by rw [us_eq]; exact q1)) rfl rfl (by repeat first | exact wu_eq | assumption | (apply wu_ne; first | omega | assumption | (apply Ne.symm; assumption))) rfl rfl ⟨by decide, by decide⟩ (Nat.le_of_ble_eq_true rfl) ⟨by decide, by decide⟩ ⟨rfl, rfl⟩ ?_
    rintro _ _ _ ⟨rfl, rfl, rfl⟩
    rw [wu_wu, us_eq, us_us]
    have b0 : us (us v2 15 (P - 1)) 16 (Q - 1) 0 = P * Q := (us_ne (by decide)).trans ((us_ne (by decide)).trans a0)
    have b2 : us (us v2 15 (P - 1)) 16 (Q - 1) 2 = P := (us_ne (by decide)).trans ((us_ne (by decide)).trans a2)
    have b3 : us (us v2 15 (P - 1)) 16 (Q - 1) 3 = Q := (us_ne (by decide)).trans ((us_ne (by decide)).trans a3)
    have b7 : us (us v2 15 (P - 1)) 16 (Q - 1) 7 = v 7 := (us_ne (by decide)).trans ((us_ne (by decide)).trans a7)
    have b15 : us (us v2 15 (P - 1)) 16 (Q - 1) 15 = P - 1 := (us_ne (by decide)).trans us_eq
    have b16 : us (us v2 15 (P - 1)) 16 (Q - 1) 16 = Q - 1 := us_eq
    generalize us (us v2 15 (P - 1)) 16 (Q - 1) = v3 at b0 b2 b3 b7 b15 b16 ⊢
    refine r_aload_n dX8_makesKey_64 rfl ?_
    refine r_iconst (v := nI 4) dX8_makesKey_65 (by decide) ?_
    refine r_bipush (v := nI 15) dX8_makesKey_66 (by decide) ?_
    refine r_invV dX8_makesKey_68 kX8_234 (c_inverse (t := 4) (s := 15) (v := v3) (by repeat first | exact wu_eq | assumption | (apply wu_ne; first | omega | assumption | (apply Ne.symm; assumption))) wu_eq (by decide) (by decide) (by decide) (by rw [b15]; exact hP.b42.le lP) (by rw [b15]; exact rP)) rfl rfl (by repeat first | exact wu_eq | assumption | (apply wu_ne; first | omega | assumption | (apply Ne.symm; assumption))) rfl rfl ⟨by decide, by decide⟩ (Nat.le_of_ble_eq_true rfl) ⟨by decide, by decide⟩ ⟨rfl, rfl⟩ ?_
    rintro _ _ _ ⟨rfl, rfl, rfl⟩
    rw [wu_wu, b15]
    refine r_aload_n dX8_makesKey_71 rfl ?_
    refine r_iconst (v := nI 5) dX8_makesKey_72 (by decide) ?_
    refine r_bipush (v := nI 16) dX8_makesKey_73 (by decide) ?_
    refine r_invV dX8_makesKey_75 kX8_234 (c_inverse (t := 5) (s := 16) (v := us v3 4 (dE (P - 1))) (by repeat first | exact wu_eq | assumption | (apply wu_ne; first | omega | assumption | (apply Ne.symm; assumption))) wu_eq (by decide) (by decide) (by decide) (by rw [us_ne (by decide), b16]; exact hQ.b42.le lQ) (by rw [us_ne (by decide), b16]; exact rQ)) rfl rfl (by repeat first | exact wu_eq | assumption | (apply wu_ne; first | omega | assumption | (apply Ne.symm; assumption))) rfl rfl ⟨by decide, by decide⟩ (Nat.le_of_ble_eq_true rfl) ⟨by decide, by decide⟩ ⟨rfl, rfl⟩ ?_
    rintro _ _ _ ⟨rfl, rfl, rfl⟩
    rw [wu_wu, us_ne (by decide), b16]
    have c0 : us (us v3 4 (dE (P - 1))) 5 (dE (Q - 1)) 0 = P * Q := (us_ne (by decide)).trans ((us_ne (by decide)).trans b0)
    have c2 : us (us v3 4 (dE (P - 1))) 5 (dE (Q - 1)) 2 = P := (us_ne (by decide)).trans ((us_ne (by decide)).trans b2)
    have c3 : us (us v3 4 (dE (P - 1))) 5 (dE (Q - 1)) 3 = Q := (us_ne (by decide)).trans ((us_ne (by decide)).trans b3)
    have c4 : us (us v3 4 (dE (P - 1))) 5 (dE (Q - 1)) 4 = dE (P - 1) := (us_ne (by decide)).trans us_eq
    have c5 : us (us v3 4 (dE (P - 1))) 5 (dE (Q - 1)) 5 = dE (Q - 1) := us_eq
    have c7 : us (us v3 4 (dE (P - 1))) 5 (dE (Q - 1)) 7 = v 7 := (us_ne (by decide)).trans ((us_ne (by decide)).trans b7)
    have c15 : us (us v3 4 (dE (P - 1))) 5 (dE (Q - 1)) 15 = P - 1 := (us_ne (by decide)).trans ((us_ne (by decide)).trans b15)
    have c16 : us (us v3 4 (dE (P - 1))) 5 (dE (Q - 1)) 16 = Q - 1 := (us_ne (by decide)).trans ((us_ne (by decide)).trans b16)
    generalize us (us v3 4 (dE (P - 1))) 5 (dE (Q - 1)) = v4 at c0 c2 c3 c4 c5 c7 c15 c16 ⊢
    refine r_aload_n dX8_makesKey_78 rfl ?_
    refine r_bipush (v := nI 18) dX8_makesKey_79 (by decide) ?_
    refine r_bipush (v := nI 15) dX8_makesKey_81 (by decide) ?_
    refine r_bipush (v := nI 16) dX8_makesKey_83 (by decide) ?_
    refine r_invV dX8_makesKey_85 kX8_148 (c_times6 (t := 18) (a := 15) (b := 16) (n := 20) (m := 20) (v := v4) (by repeat first | exact wu_eq | assumption | (apply wu_ne; first | omega | assumption | (apply Ne.symm; assumption))) wu_eq (by decide) (by decide) (by decide) (by decide) (by decide) (by rw [c15]; exact Nat.lt_of_le_of_lt lP hP.2) (by rw [c16]; exact Nat.lt_of_le_of_lt lQ hQ.2) (by decide)) rfl rfl (by repeat first | exact wu_eq | assumption | (apply wu_ne; first | omega | assumption | (apply Ne.symm; assumption))) rfl rfl ⟨by decide, by decide⟩ (Nat.le_of_ble_eq_true rfl) ⟨by decide, by decide⟩ ⟨rfl, rfl⟩ ?_
    rintro _ _ _ ⟨rfl, rfl, rfl⟩
    rw [wu_wu, c15, c16]
    refine r_aload_n dX8_makesKey_88 rfl ?_
    refine r_iconst (v := nI 1) dX8_makesKey_89 (by decide) ?_
    refine r_bipush (v := nI 18) dX8_makesKey_90 (by decide) ?_
    refine r_invV dX8_makesKey_92 kX8_234 (c_inverse (t := 1) (s := 18) (v := us v4 18 ((P - 1) * (Q - 1))) (by repeat first | exact wu_eq | assumption | (apply wu_ne; first | omega | assumption | (apply Ne.symm; assumption))) wu_eq (by decide) (by decide) (by decide) (by rw [us_eq]; exact m2.le m1) (by rw [us_eq]; exact rPQ)) rfl rfl (by repeat first | exact wu_eq | assumption | (apply wu_ne; first | omega | assumption | (apply Ne.symm; assumption))) rfl rfl ⟨by decide, by decide⟩ (Nat.le_of_ble_eq_true rfl) ⟨by decide, by decide⟩ ⟨rfl, rfl⟩ ?_
    rintro _ _ _ ⟨rfl, rfl, rfl⟩
    rw [wu_wu, us_eq]
    have d0 : us (us v4 18 ((P - 1) * (Q - 1))) 1 (dE ((P - 1) * (Q - 1))) 0 = P * Q := (us_ne (by decide)).trans ((us_ne (by decide)).trans c0)
    have d1 : us (us v4 18 ((P - 1) * (Q - 1))) 1 (dE ((P - 1) * (Q - 1))) 1 = dE ((P - 1) * (Q - 1)) := us_eq
    have d2 : us (us v4 18 ((P - 1) * (Q - 1))) 1 (dE ((P - 1) * (Q - 1))) 2 = P := (us_ne (by decide)).trans ((us_ne (by decide)).trans c2)
    have d3 : us (us v4 18 ((P - 1) * (Q - 1))) 1 (dE ((P - 1) * (Q - 1))) 3 = Q := (us_ne (by decide)).trans ((us_ne (by decide)).trans c3)
    have d4 : us (us v4 18 ((P - 1) * (Q - 1))) 1 (dE ((P - 1) * (Q - 1))) 4 = dE (P - 1) := (us_ne (by decide)).trans ((us_ne (by decide)).trans c4)
    have d5 : us (us v4 18 ((P - 1) * (Q - 1))) 1 (dE ((P - 1) * (Q - 1))) 5 = dE (Q - 1) := (us_ne (by decide)).trans ((us_ne (by decide)).trans c5)
    have d7 : us (us v4 18 ((P - 1) * (Q - 1))) 1 (dE ((P - 1) * (Q - 1))) 7 = v 7 := (us_ne (by decide)).trans ((us_ne (by decide)).trans c7)
    have d15 : us (us v4 18 ((P - 1) * (Q - 1))) 1 (dE ((P - 1) * (Q - 1))) 15 = P - 1 := (us_ne (by decide)).trans ((us_ne (by decide)).trans c15)
    generalize us (us v4 18 ((P - 1) * (Q - 1))) 1 (dE ((P - 1) * (Q - 1))) = v5 at d0 d1 d2 d3 d4 d5 d7 d15 ⊢
    refine r_aload_n dX8_makesKey_95 rfl ?_
    refine r_bipush (v := nI 15) dX8_makesKey_96 (by decide) ?_
    refine r_iconst (v := nI 1) dX8_makesKey_98 (by decide) ?_
    refine r_invV dX8_makesKey_99 kX8_203 (c_takesSmall (a := 15) (y := 1) (v := v5) (by repeat first | exact wu_eq | assumption | (apply wu_ne; first | omega | assumption | (apply Ne.symm; assumption))) wu_eq (by decide) (by rw [d15]; exact hP.b.le lP) (by decide) (by rw [d15]; omega)) rfl rfl (by repeat first | exact wu_eq | assumption | (apply wu_ne; first | omega | assumption | (apply Ne.symm; assumption))) rfl rfl ⟨by decide, by decide⟩ (Nat.le_of_ble_eq_true rfl) ⟨by decide, by decide⟩ ⟨rfl, rfl⟩ ?_
    rintro _ _ _ ⟨rfl, rfl, rfl⟩
    rw [wu_wu, d15, show P - 1 - 1 = P - 2 by omega]
    have F6 : ∀ k, k ≠ 15 → us v5 15 (P - 2) k = v5 k := fun k a => us_ne a
    have f15 : us v5 15 (P - 2) 15 = P - 2 := us_eq
    generalize us v5 15 (P - 2) = v6 at F6 f15 ⊢
    have g2 := (F6 2 (by decide)).trans d2
    have g3 := (F6 3 (by decide)).trans d3
    refine r_aload_n dX8_makesKey_102 rfl ?_
    refine r_iconst (v := nI 3) dX8_makesKey_103 (by decide) ?_
    refine r_bipush (v := nI 15) dX8_makesKey_104 (by decide) ?_
    refine r_iconst (v := nI 2) dX8_makesKey_106 (by decide) ?_
    refine r_invV dX8_makesKey_107 kX8_194 (c_powers (b := 3) (e := 15) (m := 2) (v := v6) (by repeat first | exact wu_eq | assumption | (apply wu_ne; first | omega | assumption | (apply Ne.symm; assumption))) wu_eq (by decide) (by decide) (by decide) (by decide) (by decide) (by decide) (by rw [g2]; exact hP.b40) (by rw [g3]; exact hQ.b83) (by rw [f15]; exact hP.b.le (Nat.sub_le _ _))) rfl rfl (by repeat first | exact wu_eq | assumption | (apply wu_ne; first | omega | assumption | (apply Ne.symm; assumption))) rfl rfl ⟨by decide, by decide⟩ (Nat.le_of_ble_eq_true rfl) ⟨by decide, by decide⟩ ⟨rfl, rfl⟩ ?_
    rintro _ _ _ ⟨⟨v7, rfl, e10, F7⟩, rfl, rfl⟩
    rw [wu_wu]
    rw [g2, g3, f15] at e10
    refine r_aload_n dX8_makesKey_110 rfl ?_
    refine r_bipush (v := nI 6) dX8_makesKey_111 (by decide) ?_
    refine r_bipush (v := nI 10) dX8_makesKey_113 (by decide) ?_
    refine r_invV dX8_makesKey_115 kX8_139 (c_mcopy (t := 6) (s := 10) (v := v7) (by repeat first | exact wu_eq | assumption | (apply wu_ne; first | omega | assumption | (apply Ne.symm; assumption))) wu_eq (by decide) (by decide) (by decide)) rfl rfl (by repeat first | exact wu_eq | assumption | (apply wu_ne; first | omega | assumption | (apply Ne.symm; assumption))) rfl rfl ⟨by decide, by decide⟩ (Nat.le_of_ble_eq_true rfl) ⟨by decide, by decide⟩ ⟨rfl, rfl⟩ ?_
    rintro _ _ _ ⟨rfl, rfl, rfl⟩
    rw [wu_wu, e10]
    refine r_aload_n dX8_makesKey_118 rfl ?_
    refine r_iconst (v := nI 1) dX8_makesKey_119 (by decide) ?_
    refine r_putf dX8_makesKey_120 fX8_237 (by repeat first | exact wu_eq | assumption | (apply wu_ne; first | omega | assumption | (apply Ne.symm; assumption))) rfl (by exact Nat.le_of_ble_eq_true rfl) (by rfl) (by rfl) ?_
    refine r_ret (r := none) dX8_makesKey_123 (by decide) (by decide) ?_
    have L : ∀ k, k < 9 → k ≠ 6 → us v7 6 (Q ^ (P - 2) % P) k = v5 k := fun k a b => (us_ne b).trans ((F7 k (by omega)).trans (F6 k (by omega)))
    refine ⟨wu_eq, ⟨_, wu_ne (by decide) wu_eq, ?_, (L 7 (by decide) (by decide)).trans d7⟩, fun k a b => wu_ne a (wu_ne b rfl), rfl, rfl⟩
    intro k hk
    rcases (by omega : k = 0 ∨ k = 1 ∨ k = 2 ∨ k = 3 ∨ k = 4 ∨ k = 5 ∨ k = 6) with rfl | rfl | rfl | rfl | rfl | rfl | rfl
    · exact (L 0 (by decide) (by decide)).trans d0
    · exact (L 1 (by decide) (by decide)).trans d1
    · exact (L 2 (by decide) (by decide)).trans d2
    · exact (L 3 (by decide) (by decide)).trans d3
    · exact (L 4 (by decide) (by decide)).trans d4
    · exact (L 5 (by decide) (by decide)).trans d5
    · exact us_eq
  refine ab_Ct.of (by decide +kernel) (Nat.le_of_ble_eq_true rfl) (by rintro _ _ _ ⟨-, -, -, rfl, -⟩; trivial) ?_
  show ab_St MX8_makesKey g 0 0 0 [(0, .ref 74)] [] _ _ _
  refine r_aload_n dX8_makesKey_0 rfl ?_
  refine r_iconst (v := nI 2) dX8_makesKey_1 (by decide) ?_
  refine r_iconst (v := nI 3) dX8_makesKey_2 (by decide) ?_
  refine r_invV dX8_makesKey_3 kX8_200 (c_compare (a := 2) (b := 3) (v := v) h hx (by decide) (by decide) (by rw [h2]; exact hp0.b) (by rw [h3]; exact hq0.b)) rfl rfl (by repeat first | exact wu_eq | assumption | (apply wu_ne; first | omega | assumption | (apply Ne.symm; assumption))) rfl rfl ⟨by decide, by decide⟩ (Nat.le_of_ble_eq_true rfl) ⟨by decide, by decide⟩ ⟨rfl, rfl⟩ ?_
  rintro _ _ _ ⟨rfl, rfl, rfl⟩
  refine r_if_ge (tgt := 29) dX8_makesKey_6 (by decide) (fun h6 => ?_) (fun h6 => ?_)
  all_goals rw [h2, h3] at h6
  · have hl : q0 ≤ p0 := by
      refine Nat.le_of_not_lt fun q => ?_
      rw [if_pos q] at h6
      exact absurd h6 (by decide)
    rw [Nat.max_eq_left hl, Nat.min_eq_right hl]
    have hh := T p0 q0 v hp0 hq0 hp1 hq1 h2 h3 rfl
    rw [wu_self hx] at hh
    exact hh
  · have hl : p0 < q0 := by
      refine Nat.lt_of_not_le fun q => h6 ?_
      rw [if_neg (by omega)]
      split <;> decide
    rw [Nat.max_eq_right (Nat.le_of_lt hl), Nat.min_eq_left (Nat.le_of_lt hl)]
    refine r_aload_n dX8_makesKey_9 rfl ?_
    refine r_bipush (v := nI 15) dX8_makesKey_10 (by decide) ?_
    refine r_iconst (v := nI 2) dX8_makesKey_12 (by decide) ?_
    refine r_invV dX8_makesKey_13 kX8_139 (c_mcopy (t := 15) (s := 2) (v := v) h hx (by decide) (by decide) (by decide)) rfl rfl (by repeat first | exact wu_eq | assumption | (apply wu_ne; first | omega | assumption | (apply Ne.symm; assumption))) rfl rfl ⟨by decide, by decide⟩ (Nat.le_of_ble_eq_true rfl) ⟨by decide, by decide⟩ ⟨rfl, rfl⟩ ?_
    rintro _ _ _ ⟨rfl, rfl, rfl⟩
    rw [h2]
    refine r_aload_n dX8_makesKey_16 rfl ?_
    refine r_iconst (v := nI 2) dX8_makesKey_17 (by decide) ?_
    refine r_iconst (v := nI 3) dX8_makesKey_18 (by decide) ?_
    refine r_invV dX8_makesKey_19 kX8_139 (c_mcopy (t := 2) (s := 3) (v := us v 15 p0) (by repeat first | exact wu_eq | assumption | (apply wu_ne; first | omega | assumption | (apply Ne.symm; assumption))) wu_eq (by decide) (by decide) (by decide)) rfl rfl (by repeat first | exact wu_eq | assumption | (apply wu_ne; first | omega | assumption | (apply Ne.symm; assumption))) rfl rfl ⟨by decide, by decide⟩ (Nat.le_of_ble_eq_true rfl) ⟨by decide, by decide⟩ ⟨rfl, rfl⟩ ?_
    rintro _ _ _ ⟨rfl, rfl, rfl⟩
    rw [wu_wu, show us v 15 p0 3 = q0 from (us_ne (by decide)).trans h3]
    refine r_aload_n dX8_makesKey_22 rfl ?_
    refine r_iconst (v := nI 3) dX8_makesKey_23 (by decide) ?_
    refine r_bipush (v := nI 15) dX8_makesKey_24 (by decide) ?_
    refine r_invV dX8_makesKey_26 kX8_139 (c_mcopy (t := 3) (s := 15) (v := us (us v 15 p0) 2 q0) (by repeat first | exact wu_eq | assumption | (apply wu_ne; first | omega | assumption | (apply Ne.symm; assumption))) wu_eq (by decide) (by decide) (by decide)) rfl rfl (by repeat first | exact wu_eq | assumption | (apply wu_ne; first | omega | assumption | (apply Ne.symm; assumption))) rfl rfl ⟨by decide, by decide⟩ (Nat.le_of_ble_eq_true rfl) ⟨by decide, by decide⟩ ⟨rfl, rfl⟩ ?_
    rintro _ _ _ ⟨rfl, rfl, rfl⟩
    rw [wu_wu, show us (us v 15 p0) 2 q0 15 = p0 from (us_ne (by decide)).trans us_eq]
    exact T q0 p0 _ hq0 hp0 hq1 hp1 ((us_ne (by decide)).trans us_eq) us_eq ((us_ne (by decide)).trans ((us_ne (by decide)).trans (us_ne (by decide))))
