/-! SignHouseModel: sign, verify, power, digest -/
theorem b256 {x half : Nat} (h : x < 256 ^ (2 * half)) (h2 : half ≤ 40) : x < 65536 ^ 40 := by
  refine Nat.lt_of_lt_of_le h ?_
  rw [show (65536 : Nat) = 256 ^ 2 by decide, ← Nat.pow_mul]
  exact Nat.pow_le_pow_right (by decide) (by omega)
def bnR (x : Nat) : Prop := x < 65536 ^ 40
theorem bnR.b {x : Nat} (h : bnR x) : bnd x := Nat.lt_trans h (Nat.pow_lt_pow_right (by decide) (by decide))
theorem bnR.b83 {x : Nat} (h : bnR x) : bn83 x := Nat.lt_trans h (Nat.pow_lt_pow_right (by decide) (by decide))
theorem bnR.le {x y : Nat} (h : bnR y) (hx : x ≤ y) : bnR x := Nat.lt_of_le_of_lt hx h
theorem cmp_lt {u v : Nat} : (if u < v then (-1 : Int32) else if v < u then 1 else 0) < 0 ↔ u < v := by
  by_cases h : u < v
  · rw [if_pos h]
    exact ⟨fun _ => h, fun _ => by decide⟩
  · rw [if_neg h]
    refine ⟨fun q => absurd q ?_, fun q => absurd q h⟩
    split <;> decide
theorem cmp_ge {u v : Nat} : 0 ≤ (if u < v then (-1 : Int32) else if v < u then 1 else 0) ↔ v ≤ u := by
  by_cases h : u < v
  · rw [if_pos h]
    exact ⟨fun q => absurd q (by decide), fun q => absurd h (by omega)⟩
  · rw [if_neg h]
    refine ⟨fun _ => by omega, fun _ => ?_⟩
    split <;> decide
set_option maxRecDepth 100000 in
set_option maxHeartbeats 4000000 in
theorem c_exponentE {g : ab_G} {N : Nat} {v : Nat → Nat} {fs : List Value} {w : ab_W} (h : w 74 = mdX fs) (hx : w 75 = xA v) : ab_Ct MX8_exponentE g [.ref 74] N w (rt none N (wu w 75 (xA (us v 17 65537)))) := by
  have e : ud 65536 (ud 65536 0 0 1) 1 1 = 65537 := by decide
  refine ab_Ct.of (by decide +kernel) (Nat.le_of_ble_eq_true rfl) (by rintro _ _ _ ⟨rfl, rfl, rfl⟩; trivial) ?_
  show ab_St MX8_exponentE g 0 0 0 [(0, .ref 74)] [] _ _ _
  refine r_aload_n dX8_exponentE_0 rfl ?_
  refine r_bipush (v := nI 17) dX8_exponentE_1 (by decide) ?_
  refine r_invV dX8_exponentE_3 kX8_116 (c_clear (s := 17) (v := v) h hx (by decide)) rfl rfl (by repeat first | exact wu_eq | assumption | (apply wu_ne; first | omega | assumption | (apply Ne.symm; assumption))) rfl rfl ⟨by decide, by decide⟩ (Nat.le_of_ble_eq_true rfl) ⟨by decide, by decide⟩ ⟨rfl, rfl⟩ ?_
  rintro _ _ _ ⟨rfl, rfl, rfl⟩
  refine r_aload_n dX8_exponentE_6 rfl ?_
  refine r_getf dX8_exponentE_7 fX8_7 (by repeat first | exact wu_eq | assumption | (apply wu_ne; first | omega | assumption | (apply Ne.symm; assumption))) (by rfl) ?_
  refine r_sipush (v := nI 1428) dX8_exponentE_10 (by decide) ?_
  refine r_iconst (v := nI 1) dX8_exponentE_13 (by decide) ?_
  refine r_xsU (v := v) (s := 17) (k := 0) (X := 0) dX8_exponentE_14 (by repeat first | exact wu_eq | assumption | (apply wu_ne; first | omega | assumption | (apply Ne.symm; assumption))) (by decide) (by decide) (by decide) (by decide) ?_
  refine r_aload_n dX8_exponentE_15 rfl ?_
  refine r_getf dX8_exponentE_16 fX8_7 (by repeat first | exact wu_eq | assumption | (apply wu_ne; first | omega | assumption | (apply Ne.symm; assumption))) (by rfl) ?_
  refine r_sipush (v := nI 1429) dX8_exponentE_19 (by decide) ?_
  refine r_iconst (v := nI 1) dX8_exponentE_22 (by decide) ?_
  refine r_xsU (v := v) (s := 17) (k := 1) (X := ud 65536 0 0 1) dX8_exponentE_23 (by repeat first | exact wu_eq | assumption | (apply wu_ne; first | omega | assumption | (apply Ne.symm; assumption))) (by decide) (by decide) (by decide) (by decide) ?_
  refine r_ret (r := none) dX8_exponentE_24 (by decide) (by decide) ?_
  rw [wu_wu, wu_wu, e]
  exact ⟨rfl, rfl, rfl⟩
set_option maxRecDepth 100000 in
set_option maxHeartbeats 4000000 in
theorem c_msign_no {g : ab_G} {N : Nat} {half rounds c bg : Nat} {ω d : Nat → Nat} {σ : hT} {len R sg vf : Nat} {w : ab_W} (h : MH w half rounds c ω bg σ d len R sg vf) (hp : hF σ ≠ 2) : ab_Ct MX8_sign g [.ref 74] N w (rp (some (.int (-3))) N w) := by
  obtain ⟨bu, v, m1, m2, m3, m4, m5, m6, m7, m8, m9, m10, m11⟩ := id h
  have hm := mk1_lt (hF σ)
  refine ab_Ct.of (by decide +kernel) (Nat.le_of_ble_eq_true rfl) (by rintro _ _ _ ⟨rfl, rfl, rfl⟩; trivial) ?_
  show ab_St MX8_sign g 0 0 0 [(0, .ref 74)] [] _ _ _
  refine r_aload_n dX8_sign_0 rfl ?_
  refine r_getf dX8_sign_1 fX8_237 (by repeat first | exact wu_eq | assumption | (apply wu_ne; first | omega | assumption | (apply Ne.symm; assumption))) (by rfl) ?_
  first | refine r_if_neN (tgt := 10) dX8_sign_4 (by decide) (by omega) (fun h4 => ?_) (fun h4 => ?_) | refine r_if_ne (tgt := 10) dX8_sign_4 (by decide) (fun h4 => ?_) (fun h4 => ?_)
  · exact absurd (mk1_1 h4) hp
  · refine r_bipush (v := (-3)) dX8_sign_7 (by decide) ?_
    refine r_ret (r := (some (.int _))) dX8_sign_9 (by decide) (by decide) ?_
    exact ⟨rfl, rfl, rfl⟩
set_option maxRecDepth 100000 in
set_option maxHeartbeats 4000000 in
theorem c_mverify_no {g : ab_G} {N : Nat} {half rounds c bg : Nat} {ω d : Nat → Nat} {σ : hT} {len R sg vf : Nat} {w : ab_W} (h : MH w half rounds c ω bg σ d len R sg vf) (hp : hF σ ≠ 2) : ab_Ct MX8_verify g [.ref 74] N w (rp (some (.int (-3))) N w) := by
  obtain ⟨bu, v, m1, m2, m3, m4, m5, m6, m7, m8, m9, m10, m11⟩ := id h
  have hm := mk1_lt (hF σ)
  refine ab_Ct.of (by decide +kernel) (Nat.le_of_ble_eq_true rfl) (by rintro _ _ _ ⟨rfl, rfl, rfl⟩; trivial) ?_
  show ab_St MX8_verify g 0 0 0 [(0, .ref 74)] [] _ _ _
  refine r_aload_n dX8_verify_0 rfl ?_
  refine r_getf dX8_verify_1 fX8_237 (by repeat first | exact wu_eq | assumption | (apply wu_ne; first | omega | assumption | (apply Ne.symm; assumption))) (by rfl) ?_
  first | refine r_if_neN (tgt := 10) dX8_verify_4 (by decide) (by omega) (fun h4 => ?_) (fun h4 => ?_) | refine r_if_ne (tgt := 10) dX8_verify_4 (by decide) (fun h4 => ?_) (fun h4 => ?_)
  · exact absurd (mk1_1 h4) hp
  · refine r_bipush (v := (-3)) dX8_verify_7 (by decide) ?_
    refine r_ret (r := (some (.int _))) dX8_verify_9 (by decide) (by decide) ?_
    exact ⟨rfl, rfl, rfl⟩
set_option maxRecDepth 100000 in
set_option maxHeartbeats 4000000 in
theorem c_mpower_no {g : ab_G} {N : Nat} {x : Int32} {half rounds c bg : Nat} {ω d : Nat → Nat} {σ : hT} {len R sg vf : Nat} {w : ab_W} (h : MH w half rounds c ω bg σ d len R sg vf) (hp : hF σ ≠ 2) : ab_Ct MX8_power g [.ref 74, .int x] N w (rp (some (.int (-3))) N w) := by
  obtain ⟨bu, v, m1, m2, m3, m4, m5, m6, m7, m8, m9, m10, m11⟩ := id h
  have hm := mk1_lt (hF σ)
  refine ab_Ct.of (by decide +kernel) (Nat.le_of_ble_eq_true rfl) (by rintro _ _ _ ⟨rfl, rfl, rfl⟩; trivial) ?_
  show ab_St MX8_power g 0 0 0 [(0, .ref 74), (1, .int x)] [] _ _ _
  refine r_aload_n dX8_power_0 rfl ?_
  refine r_getf dX8_power_1 fX8_237 (by repeat first | exact wu_eq | assumption | (apply wu_ne; first | omega | assumption | (apply Ne.symm; assumption))) (by rfl) ?_
  first | refine r_if_eqN (tgt := 17) dX8_power_4 (by decide) (by omega) (fun h4 => ?_) (fun h4 => ?_) | refine r_if_eq (tgt := 17) dX8_power_4 (by decide) (fun h4 => ?_) (fun h4 => ?_)
  · refine r_bipush (v := (-3)) dX8_power_17 (by decide) ?_
    refine r_ret (r := (some (.int _))) dX8_power_19 (by decide) (by decide) ?_
    exact ⟨rfl, rfl, rfl⟩
  · exact absurd (mk1_1 h4) hp
set_option maxRecDepth 100000 in
set_option maxHeartbeats 4000000 in
theorem c_mpower_no2 {g : ab_G} {N : Nat} {x : Int32} {half rounds c bg : Nat} {ω d : Nat → Nat} {σ : hT} {len R sg vf : Nat} {w : ab_W} (h : MH w half rounds c ω bg σ d len R sg vf) (hI : INV half σ) (hp : hF σ = 2) (hRb : R < 256 ^ (2 * half)) (hR : kP σ * kQ σ ≤ R) : ab_Ct MX8_power g [.ref 74, .int x] N w (rp (some (.int (-3))) N w) := by
  obtain ⟨bu, v, m1, m2, m3, m4, m5, m6, m7, m8, m9, m10, m11⟩ := id h
  have hm := mk1_lt (hF σ)
  have hRR : bnR R := b256 hRb m10
  have v0 : v 0 = kP σ * kQ σ := m7 hp 0 (by decide)
  refine ab_Ct.of (by decide +kernel) (Nat.le_of_ble_eq_true rfl) (by rintro _ _ _ ⟨rfl, rfl, rfl⟩; trivial) ?_
  show ab_St MX8_power g 0 0 0 [(0, .ref 74), (1, .int x)] [] _ _ _
  refine r_aload_n dX8_power_0 rfl ?_
  refine r_getf dX8_power_1 fX8_237 (by repeat first | exact wu_eq | assumption | (apply wu_ne; first | omega | assumption | (apply Ne.symm; assumption))) (by rfl) ?_
  first | refine r_if_eqN (tgt := 17) dX8_power_4 (by decide) (by omega) (fun h4 => ?_) (fun h4 => ?_) | refine r_if_eq (tgt := 17) dX8_power_4 (by decide) (fun h4 => ?_) (fun h4 => ?_)
  · exact absurd hp (mk1_0 h4)
  · refine r_aload_n dX8_power_7 rfl ?_
    refine r_bipush (v := nI 7) dX8_power_8 (by decide) ?_
    refine r_iconst (v := nI 0) dX8_power_10 (by decide) ?_
    refine r_invV dX8_power_11 kX8_200 (c_compare (a := 7) (b := 0) (v := v) m1 m2 (by decide) (by decide) (by rw [m5]; exact hRR.b) (by rw [v0]; exact (hRR.le hR).b)) rfl rfl (by repeat first | exact wu_eq | assumption | (apply wu_ne; first | omega | assumption | (apply Ne.symm; assumption))) rfl rfl ⟨by decide, by decide⟩ (Nat.le_of_ble_eq_true rfl) ⟨by decide, by decide⟩ ⟨rfl, rfl⟩ ?_
    rintro _ _ _ ⟨rfl, rfl, rfl⟩
    refine r_if_lt (tgt := 20) dX8_power_14 (by decide) (fun h14 => ?_) (fun h14 => ?_)
    all_goals rw [cmp_lt, m5, v0] at h14
    · exact absurd hR (Nat.not_le.mpr h14)
    · refine r_bipush (v := (-3)) dX8_power_17 (by decide) ?_
      refine r_ret (r := (some (.int _))) dX8_power_19 (by decide) (by decide) ?_
      exact ⟨rfl, rfl, rfl⟩
set_option maxRecDepth 100000 in
set_option maxHeartbeats 4000000 in
theorem c_mpower {g : ab_G} {N b : Nat} {half rounds c bg : Nat} {ω d : Nat → Nat} {σ : hT} {len R sg vf : Nat} {w : ab_W} (h : MH w half rounds c ω bg σ d len R sg vf) (hI : INV half σ) (hp : hF σ = 2) (hR : R < kP σ * kQ σ) (hb : b < 2) : ab_Ct MX8_power g [.ref 74, .int (nI b)] N w (fun r N' w' => MH w' half rounds c ω bg σ d len (if b = 0 then R ^ dE ((kP σ - 1) * (kQ σ - 1)) % (kP σ * kQ σ) else R ^ 65537 % (kP σ * kQ σ)) sg vf ∧ (∀ k, k < 74 → w' k = w k) ∧ r = some (.int (nI 1)) ∧ N = N') := by
  obtain ⟨bu, v, m1, m2, m3, m4, m5, m6, m7, m8, m9, m10, m11⟩ := id h
  have hm := mk1_lt (hF σ)
  obtain ⟨p1, p2, p3, p4, p5, p6⟩ := hI.pq hp m9
  have bP := p1.b20 m9 m10
  have bQ := p2.b20 m9 m10
  have hnn : bnR (kP σ * kQ σ) := b256 p4 m10
  have hn40 : bn40 (kP σ * kQ σ) := ⟨Nat.le_trans bP.1 (Nat.le_mul_of_pos_right _ (by omega)), hnn⟩
  have hRR : bnR R := hnn.le (Nat.le_of_lt hR)
  have v0 : v 0 = kP σ * kQ σ := m7 hp 0 (by decide)
  have v1 : v 1 = dE ((kP σ - 1) * (kQ σ - 1)) := m7 hp 1 (by decide)
  have hd : bnd (dE ((kP σ - 1) * (kQ σ - 1))) := hnn.b.le (Nat.le_trans (dE_le _) (Nat.mul_le_mul (Nat.sub_le _ _) (Nat.sub_le _ _)))
  have K38 : ∀ e E, (e < 9 ∨ 12 < e) → e < 19 → us v 17 65537 e = E → bnd E → ab_St MX8_power g 0 0 38 [(0, .ref 74), (1, .int (nI b))] [.int (nI 0), .int (nI e), .int (nI 7), .ref 74] N (wu w 75 (xA (us v 17 65537))) (fun r N' w' => MH w' half rounds c ω bg σ d len (R ^ E % (kP σ * kQ σ)) sg vf ∧ (∀ k, k < 74 → w' k = w k) ∧ r = some (.int (nI 1)) ∧ N = N') := by
    intro e E he1 he2 hE hEb
    have q7 : us v 17 65537 7 = R := (us_ne (by decide)).trans m5
    have q0 : us v 17 65537 0 = kP σ * kQ σ := (us_ne (by decide)).trans v0
    refine r_invV dX8_power_38 kX8_194 (c_powers (b := 7) (e := e) (m := 0) (v := us v 17 65537) (wu_ne (by decide) m1) wu_eq (by decide) he2 (by decide) (by decide) he1 (by decide) (by rw [q0]; exact hn40) (by rw [q7]; exact hRR.b83) (by rw [hE]; exact hEb)) rfl rfl (by repeat first | exact wu_eq | assumption | (apply wu_ne; first | omega | assumption | (apply Ne.symm; assumption))) rfl rfl ⟨by decide, by decide⟩ (Nat.le_of_ble_eq_true rfl) ⟨by decide, by decide⟩ ⟨rfl, rfl⟩ ?_
    rintro _ _ _ ⟨⟨v2, rfl, e10, f2⟩, rfl, rfl⟩
    rw [wu_wu]
    rw [q7, hE, q0] at e10
    refine r_aload_n dX8_power_41 rfl ?_
    refine r_bipush (v := nI 7) dX8_power_42 (by decide) ?_
    refine r_bipush (v := nI 10) dX8_power_44 (by decide) ?_
    refine r_invV dX8_power_46 kX8_139 (c_mcopy (t := 7) (s := 10) (v := v2) (wu_ne (by decide) m1) wu_eq (by decide) (by decide) (by decide)) rfl rfl (by repeat first | exact wu_eq | assumption | (apply wu_ne; first | omega | assumption | (apply Ne.symm; assumption))) rfl rfl ⟨by decide, by decide⟩ (Nat.le_of_ble_eq_true rfl) ⟨by decide, by decide⟩ ⟨rfl, rfl⟩ ?_
    rintro _ _ _ ⟨rfl, rfl, rfl⟩
    rw [wu_wu, e10]
    refine r_iconst (v := nI 1) dX8_power_49 (by decide) ?_
    refine r_ret (r := (some (.int _))) dX8_power_50 (by decide) (by decide) ?_
    exact ⟨⟨bu, _, wu_ne (by decide) m1, wu_eq, m3.keep fun k a b => wu_ne (by omega) rfl, m4.keep fun k a b => wu_ne (by omega) rfl, us_eq, fun q => absurd (hp.symm.trans q) (by decide), fun q k hk => (us_ne (by omega)).trans ((f2 k (by omega)).trans ((us_ne (by omega)).trans (m7 q k hk))), m8, m9, m10, m11⟩, fun k a => wu_ne (by omega) rfl, rfl, rfl⟩
  refine ab_Ct.of (by decide +kernel) (Nat.le_of_ble_eq_true rfl) (by rintro _ _ _ ⟨-, -, rfl, -⟩; trivial) ?_
  show ab_St MX8_power g 0 0 0 [(0, .ref 74), (1, .int (nI b))] [] _ _ _
  refine r_aload_n dX8_power_0 rfl ?_
  refine r_getf dX8_power_1 fX8_237 (by repeat first | exact wu_eq | assumption | (apply wu_ne; first | omega | assumption | (apply Ne.symm; assumption))) (by rfl) ?_
  first | refine r_if_eqN (tgt := 17) dX8_power_4 (by decide) (by omega) (fun h4 => ?_) (fun h4 => ?_) | refine r_if_eq (tgt := 17) dX8_power_4 (by decide) (fun h4 => ?_) (fun h4 => ?_)
  · exact absurd hp (mk1_0 h4)
  · refine r_aload_n dX8_power_7 rfl ?_
    refine r_bipush (v := nI 7) dX8_power_8 (by decide) ?_
    refine r_iconst (v := nI 0) dX8_power_10 (by decide) ?_
    refine r_invV dX8_power_11 kX8_200 (c_compare (a := 7) (b := 0) (v := v) m1 m2 (by decide) (by decide) (by rw [m5]; exact hRR.b) (by rw [v0]; exact hnn.b)) rfl rfl (by repeat first | exact wu_eq | assumption | (apply wu_ne; first | omega | assumption | (apply Ne.symm; assumption))) rfl rfl ⟨by decide, by decide⟩ (Nat.le_of_ble_eq_true rfl) ⟨by decide, by decide⟩ ⟨rfl, rfl⟩ ?_
    rintro _ _ _ ⟨rfl, rfl, rfl⟩
    refine r_if_lt (tgt := 20) dX8_power_14 (by decide) (fun h14 => ?_) (fun h14 => ?_)
    all_goals rw [cmp_lt, m5, v0] at h14
    · refine r_aload_n dX8_power_20 rfl ?_
      refine r_invV dX8_power_21 kX8_292 (c_exponentE (v := v) m1 m2) rfl rfl (by repeat first | exact wu_eq | assumption | (apply wu_ne; first | omega | assumption | (apply Ne.symm; assumption))) rfl rfl ⟨by decide, by decide⟩ (Nat.le_of_ble_eq_true rfl) ⟨by decide, by decide⟩ ⟨rfl, rfl⟩ ?_
      rintro _ _ _ ⟨rfl, rfl, rfl⟩
      refine r_aload_n dX8_power_24 rfl ?_
      refine r_bipush (v := nI 7) dX8_power_25 (by decide) ?_
      refine r_iload_n dX8_power_27 rfl ?_
      first | refine r_if_eqN (tgt := 36) dX8_power_28 (by decide) (by omega) (fun h28 => ?_) (fun h28 => ?_) | refine r_if_eq (tgt := 36) dX8_power_28 (by decide) (fun h28 => ?_) (fun h28 => ?_)
      · refine r_iconst (v := nI 1) dX8_power_36 (by decide) ?_
        refine r_iconst (v := nI 0) dX8_power_37 (by decide) ?_
        rw [if_pos h28]
        exact K38 1 _ (by decide) (by decide) ((us_ne (by decide)).trans v1) hd
      · refine r_bipush (v := nI 17) dX8_power_31 (by decide) ?_
        refine r_goto (tgt := 37) dX8_power_33 (by decide) ?_
        refine r_iconst (v := nI 0) dX8_power_37 (by decide) ?_
        rw [if_neg h28]
        exact K38 17 65537 (by decide) (by decide) us_eq (Nat.lt_of_lt_of_le (show 65537 < 65536 ^ 2 by decide) (Nat.pow_le_pow_right (by decide) (by decide)))
    · exact absurd hR h14
set_option maxRecDepth 100000 in
set_option maxHeartbeats 4000000 in
theorem c_mverify {g : ab_G} {N : Nat} {half rounds c bg : Nat} {ω d : Nat → Nat} {σ : hT} {len R sg vf : Nat} {w : ab_W} (h : MH w half rounds c ω bg σ d len R sg vf) (hI : INV half σ) (hp : hF σ = 2) (hRb : R < 256 ^ (2 * half)) : ab_Ct MX8_verify g [.ref 74] N w (fun r N' w' => MH w' half rounds c ω bg σ d len R sg (vf + 1) ∧ (∀ k, k < 74 → w' k = w k) ∧ r = some (.int (nI (if R < kP σ * kQ σ then (if R ^ 65537 % (kP σ * kQ σ) = emn d len half (2 * half) then 1 else 0) else 0))) ∧ N = N') := by
  obtain ⟨bu, v, m1, m2, m3, m4, m5, m6, m7, m8, m9, m10, m11⟩ := id h
  have hm := mk1_lt (hF σ)
  obtain ⟨p1, p2, p3, p4, p5, p6⟩ := hI.pq hp m9
  have bP := p1.b20 m9 m10
  have hnn : bnR (kP σ * kQ σ) := b256 p4 m10
  have hn40 : bn40 (kP σ * kQ σ) := ⟨Nat.le_trans bP.1 (Nat.le_mul_of_pos_right _ (by omega)), hnn⟩
  have hRR : bnR R := b256 hRb m10
  have hEE : bnR (emn d len half (2 * half)) := b256 (emn_lt d len half (2 * half)) m10
  have hn0 : 0 < kP σ * kQ σ := Nat.mul_pos (by omega) (by omega)
  have v0 : v 0 = kP σ * kQ σ := m7 hp 0 (by decide)
  refine ab_Ct.of (by decide +kernel) (Nat.le_of_ble_eq_true rfl) (by rintro _ _ _ ⟨-, -, rfl, -⟩; trivial) ?_
  show ab_St MX8_verify g 0 0 0 [(0, .ref 74)] [] _ _ _
  refine r_aload_n dX8_verify_0 rfl ?_
  refine r_getf dX8_verify_1 fX8_237 (by repeat first | exact wu_eq | assumption | (apply wu_ne; first | omega | assumption | (apply Ne.symm; assumption))) (by rfl) ?_
  first | refine r_if_neN (tgt := 10) dX8_verify_4 (by decide) (by omega) (fun h4 => ?_) (fun h4 => ?_) | refine r_if_ne (tgt := 10) dX8_verify_4 (by decide) (fun h4 => ?_) (fun h4 => ?_)
  · refine r_aload_n dX8_verify_10 rfl ?_
    refine r_dup dX8_verify_11 rfl ?_
    refine r_getf dX8_verify_12 fX8_277 (by repeat first | exact wu_eq | assumption | (apply wu_ne; first | omega | assumption | (apply Ne.symm; assumption))) (by rfl) ?_
    refine r_iconst (v := nI 1) dX8_verify_15 (by decide) ?_
    first | refine r_iaddN dX8_verify_16 ?_ | refine r_iadd dX8_verify_16 ?_
    refine r_putf dX8_verify_17 fX8_277 (by repeat first | exact wu_eq | assumption | (apply wu_ne; first | omega | assumption | (apply Ne.symm; assumption))) rfl (by exact Nat.le_of_ble_eq_true rfl) (by rfl) (by rfl) ?_
    refine r_toW (w' := wu w 74 (mdO half rounds bu c bg (mk1 (hF σ)) (mkp (hF σ)) (hX σ) (hU σ) (hP σ / 32) (hP σ % 32) sg (vf + 1) len)) rfl ?_
    have f74 : (wu w 74 (mdO half rounds bu c bg (mk1 (hF σ)) (mkp (hF σ)) (hX σ) (hU σ) (hP σ / 32) (hP σ % 32) sg (vf + 1) len)) 74 = mdO half rounds bu c bg (mk1 (hF σ)) (mkp (hF σ)) (hX σ) (hU σ) (hP σ / 32) (hP σ % 32) sg (vf + 1) len := wu_eq
    have fF : ∀ k, k ≠ 74 → (wu w 74 (mdO half rounds bu c bg (mk1 (hF σ)) (mkp (hF σ)) (hX σ) (hU σ) (hP σ / 32) (hP σ % 32) sg (vf + 1) len)) k = w k := fun k a => wu_ne a rfl
    generalize wu w 74 (mdO half rounds bu c bg (mk1 (hF σ)) (mkp (hF σ)) (hX σ) (hU σ) (hP σ / 32) (hP σ % 32) sg (vf + 1) len) = w0 at f74 fF ⊢
    have f75 := (fF 75 (by decide)).trans m2
    have fB : MB w0 := m3.keep fun k a b => fF k (by omega)
    have fE : ME w0 c ω d := m4.keep fun k a b => fF k (by omega)
    have HH : MH w0 half rounds c ω bg σ d len R sg (vf + 1) := ⟨bu, v, f74, f75, fB, fE, m5, m6, m7, m8, m9, m10, m11⟩
    refine r_aload_n dX8_verify_20 rfl ?_
    refine r_bipush (v := nI 7) dX8_verify_21 (by decide) ?_
    refine r_iconst (v := nI 0) dX8_verify_23 (by decide) ?_
    refine r_invV dX8_verify_24 kX8_200 (c_compare (a := 7) (b := 0) (v := v) f74 f75 (by decide) (by decide) (by rw [m5]; exact hRR.b) (by rw [v0]; exact hnn.b)) rfl rfl (by repeat first | exact wu_eq | assumption | (apply wu_ne; first | omega | assumption | (apply Ne.symm; assumption))) rfl rfl ⟨by decide, by decide⟩ (Nat.le_of_ble_eq_true rfl) ⟨by decide, by decide⟩ ⟨rfl, rfl⟩ ?_
    rintro _ _ _ ⟨rfl, rfl, rfl⟩
    refine r_if_lt (tgt := 32) dX8_verify_27 (by decide) (fun h27 => ?_) (fun h27 => ?_)
    all_goals rw [cmp_lt, m5, v0] at h27
    · rw [if_pos h27]
      refine r_aload_n dX8_verify_32 rfl ?_
      refine r_invV dX8_verify_33 kX8_292 (c_exponentE (v := v) f74 f75) rfl rfl (by repeat first | exact wu_eq | assumption | (apply wu_ne; first | omega | assumption | (apply Ne.symm; assumption))) rfl rfl ⟨by decide, by decide⟩ (Nat.le_of_ble_eq_true rfl) ⟨by decide, by decide⟩ ⟨rfl, rfl⟩ ?_
      rintro _ _ _ ⟨rfl, rfl, rfl⟩
      have q7 : us v 17 65537 7 = R := (us_ne (by decide)).trans m5
      have q0 : us v 17 65537 0 = kP σ * kQ σ := (us_ne (by decide)).trans v0
      have q17 : us v 17 65537 17 = 65537 := us_eq
      have hb17 : bnd 65537 := Nat.lt_of_lt_of_le (show 65537 < 65536 ^ 2 by decide) (Nat.pow_le_pow_right (by decide) (by decide))
      refine r_aload_n dX8_verify_36 rfl ?_
      refine r_bipush (v := nI 7) dX8_verify_37 (by decide) ?_
      refine r_bipush (v := nI 17) dX8_verify_39 (by decide) ?_
      refine r_iconst (v := nI 0) dX8_verify_41 (by decide) ?_
      refine r_invV dX8_verify_42 kX8_194 (c_powers (b := 7) (e := 17) (m := 0) (v := us v 17 65537) (wu_ne (by decide) f74) wu_eq (by decide) (by decide) (by decide) (by decide) (by decide) (by decide) (by rw [q0]; exact hn40) (by rw [q7]; exact hRR.b83) (by rw [q17]; exact hb17)) rfl rfl (by repeat first | exact wu_eq | assumption | (apply wu_ne; first | omega | assumption | (apply Ne.symm; assumption))) rfl rfl ⟨by decide, by decide⟩ (Nat.le_of_ble_eq_true rfl) ⟨by decide, by decide⟩ ⟨rfl, rfl⟩ ?_
      rintro _ _ _ ⟨⟨v2, rfl, e10, f2⟩, rfl, rfl⟩
      rw [wu_wu]
      rw [q7, q17, q0] at e10
      have k7 : v2 7 = R := (f2 7 (by decide)).trans q7
      have kk : ∀ k, k < 7 → v2 k = v k := fun k a => (f2 k (by omega)).trans (us_ne (by omega))
      refine r_aload_n dX8_verify_45 rfl ?_
      refine r_invV dX8_verify_46 kX8_283 (c_encodes (v := v2) (wu_ne (by decide) f74) wu_eq (fB.keep fun k a b ↦ wu_ne (by omega) rfl) (fE.keep fun k a b ↦ wu_ne (by omega) rfl) m8 m9 m10) rfl rfl (by repeat first | exact wu_eq | assumption | (apply wu_ne; first | omega | assumption | (apply Ne.symm; assumption))) rfl rfl ⟨by decide, by decide⟩ (Nat.le_of_ble_eq_true rfl) ⟨by decide, by decide⟩ ⟨rfl, rfl⟩ ?_
      rintro _ _ w3 ⟨g74, g75, gB, gF, rfl, rfl⟩
      have c10 : us v2 18 (emn d len half (2 * half)) 10 = R ^ 65537 % (kP σ * kQ σ) := (us_ne (by decide)).trans e10
      have c18 : us v2 18 (emn d len half (2 * half)) 18 = emn d len half (2 * half) := us_eq
      have hX : bnR (R ^ 65537 % (kP σ * kQ σ)) := hnn.le (Nat.le_of_lt (Nat.mod_lt _ hn0))
      have H3 : MH w3 half rounds c ω bg σ d len R sg (vf + 1) := ⟨len, _, g74, g75, gB, fE.keep fun k a b => (gF k (by omega) (by omega) (by omega)).trans (wu_ne (by omega) rfl), (us_ne (by decide)).trans k7, fun q => absurd (hp.symm.trans q) (by decide), fun q k hk => (us_ne (by omega)).trans ((kk k hk).trans (m7 q k hk)), m8, m9, m10, m11⟩
      have F3 : ∀ k, k < 74 → w3 k = w k := fun k a => (gF k (by omega) (by omega) (by omega)).trans ((wu_ne (by omega) rfl).trans (fF k (by omega)))
      refine r_aload_n dX8_verify_49 rfl ?_
      refine r_bipush (v := nI 10) dX8_verify_50 (by decide) ?_
      refine r_bipush (v := nI 18) dX8_verify_52 (by decide) ?_
      refine r_invV dX8_verify_54 kX8_200 (c_compare (a := 10) (b := 18) (v := us v2 18 (emn d len half (2 * half))) g74 g75 (by decide) (by decide) (by rw [c10]; exact hX.b) (by rw [c18]; exact hEE.b)) rfl rfl (by repeat first | exact wu_eq | assumption | (apply wu_ne; first | omega | assumption | (apply Ne.symm; assumption))) rfl rfl ⟨by decide, by decide⟩ (Nat.le_of_ble_eq_true rfl) ⟨by decide, by decide⟩ ⟨rfl, rfl⟩ ?_
      rintro _ _ _ ⟨rfl, rfl, rfl⟩
      refine r_if_ne (tgt := 64) dX8_verify_57 (by decide) (fun h57 => ?_) (fun h57 => ?_)
      all_goals rw [ord0, c10, c18] at h57
      · refine r_iconst (v := nI 0) dX8_verify_64 (by decide) ?_
        refine r_ret (r := (some (.int _))) dX8_verify_65 (by decide) (by decide) ?_
        rw [if_neg h57]
        exact ⟨H3, F3, rfl, rfl⟩
      · refine r_iconst (v := nI 1) dX8_verify_60 (by decide) ?_
        refine r_goto (tgt := 65) dX8_verify_61 (by decide) ?_
        refine r_ret (r := (some (.int _))) dX8_verify_65 (by decide) (by decide) ?_
        rw [if_pos h57]
        exact ⟨H3, F3, rfl, rfl⟩
    · rw [if_neg h27]
      refine r_iconst (v := nI 0) dX8_verify_30 (by decide) ?_
      refine r_ret (r := (some (.int _))) dX8_verify_31 (by decide) (by decide) ?_
      exact ⟨HH, fun k a => fF k (by omega), rfl, rfl⟩
  · exact absurd hp (mk1_0 h4)
