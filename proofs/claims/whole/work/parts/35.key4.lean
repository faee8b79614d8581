/-! SignHouse$KeyRows: the powers -/
set_option maxRecDepth 100000 in
set_option maxHeartbeats 4000000 in
theorem c_raisePublic {g : ab_G} {N made W n t a u x : Nat} {w : ab_W} (h : w 28 = krO made) (hM : MOK w 29 (2 * W) n) (x4 : w 4 = xJ 1 (rJ 65537)) (ht : w t = aN (2 * W) u) (hu : u < 4294967296 ^ (2 * W)) (ha : w a = aN (2 * W) x) (hx : x < n) (ht1 : 36 < t) (ha1 : 36 < a) : ab_Ct MX2_raisePublic g [.ref 28, .ref t, .ref a] N w (fun r N' w' => MOK w' 29 (2 * W) n ∧ w' t = aN (2 * W) (x ^ 65537 % n) ∧ FR w w' 29 t ∧ r = none ∧ N = N') := by
  obtain ⟨ni, b0, r0, S0, k0, -⟩ := id hM
  refine ab_Ct.of (by decide +kernel) (Nat.le_of_ble_eq_true rfl) (by rintro _ _ _ ⟨-, -, -, rfl, -⟩; trivial) ?_
  show ab_St MX2_raisePublic g 0 0 0 [(0, .ref 28), (1, .ref t), (2, .ref a)] [] _ _ _
  refine r_aload_n dX2_raisePublic_0 rfl ?_
  refine r_getf dX2_raisePublic_1 fX2_18 (by repeat first | exact wu_eq | assumption | (apply wu_ne; first | omega | assumption | (apply Ne.symm; assumption))) (by rfl) ?_
  refine r_aload_n dX2_raisePublic_4 rfl ?_
  refine r_aload_n dX2_raisePublic_5 rfl ?_
  refine r_gets dX2_raisePublic_6 (by decide) sX2_123 ?_
  refine r_invV dX2_raisePublic_9 kX2_107 (c_raise (n := 1) (ev := 65537) hM ht hu ha hx x4 (Or.inr rfl) (by decide) (by decide) (by decide) (Or.inr ht1) (Or.inr ha1) (Or.inl (by decide))) rfl rfl (by repeat first | exact wu_eq | assumption | (apply wu_ne; first | omega | assumption | (apply Ne.symm; assumption))) rfl rfl ⟨by decide, by decide⟩ (Nat.le_of_ble_eq_true rfl) ⟨by decide, by decide⟩ ⟨rfl, rfl⟩ ?_
  rintro _ _ _ ⟨q1, q2, q3, rfl, rfl⟩
  refine r_ret (r := none) dX2_raisePublic_12 (by decide) (by decide) ?_
  exact ⟨q1, q2, q3, rfl, rfl⟩
set_option maxRecDepth 100000 in
set_option maxHeartbeats 4000000 in
theorem c_raisePrivate {g : ab_G} {N made W n d t a u x : Nat} {w : ab_W} (h : w 28 = krO made) (hM : MOK w 29 (2 * W) n) (hd : w 54 = aN (2 * W) d) (hd2 : d < 4294967296 ^ (2 * W)) (hW : 1 ≤ W) (hW2 : W ≤ 10) (ht : w t = aN (2 * W) u) (hu : u < 4294967296 ^ (2 * W)) (ha : w a = aN (2 * W) x) (hx : x < n) (ht1 : 36 < t) (ha1 : 36 < a) : ab_Ct MX2_raisePrivate g [.ref 28, .ref t, .ref a] N w (fun r N' w' => MOK w' 29 (2 * W) n ∧ w' t = aN (2 * W) (x ^ d % n) ∧ FR w w' 29 t ∧ r = none ∧ N = N') := by
  obtain ⟨ni, b0, r0, S0, k0, -⟩ := id hM
  refine ab_Ct.of (by decide +kernel) (Nat.le_of_ble_eq_true rfl) (by rintro _ _ _ ⟨-, -, -, rfl, -⟩; trivial) ?_
  show ab_St MX2_raisePrivate g 0 0 0 [(0, .ref 28), (1, .ref t), (2, .ref a)] [] _ _ _
  refine r_aload_n dX2_raisePrivate_0 rfl ?_
  refine r_getf dX2_raisePrivate_1 fX2_18 (by repeat first | exact wu_eq | assumption | (apply wu_ne; first | omega | assumption | (apply Ne.symm; assumption))) (by rfl) ?_
  refine r_aload_n dX2_raisePrivate_4 rfl ?_
  refine r_aload_n dX2_raisePrivate_5 rfl ?_
  refine r_aload_n dX2_raisePrivate_6 rfl ?_
  refine r_getf dX2_raisePrivate_7 fX2_34 (by repeat first | exact wu_eq | assumption | (apply wu_ne; first | omega | assumption | (apply Ne.symm; assumption))) (by rfl) ?_
  refine r_invV dX2_raisePrivate_10 kX2_107 (c_raise (n := 2 * W) (ev := d) hM ht hu ha hx hd (Or.inl rfl) (by omega) (by omega) hd2 (Or.inr ht1) (Or.inr ha1) (Or.inr (by decide))) rfl rfl (by repeat first | exact wu_eq | assumption | (apply wu_ne; first | omega | assumption | (apply Ne.symm; assumption))) rfl rfl ⟨by decide, by decide⟩ (Nat.le_of_ble_eq_true rfl) ⟨by decide, by decide⟩ ⟨rfl, rfl⟩ ?_
  rintro _ _ _ ⟨q1, q2, q3, rfl, rfl⟩
  refine r_ret (r := none) dX2_raisePrivate_13 (by decide) (by decide) ?_
  exact ⟨q1, q2, q3, rfl, rfl⟩
