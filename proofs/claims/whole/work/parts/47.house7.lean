/-! SignHouse: sign, verify, power -/
abbrev kP (σ : hT) : Nat := max (hA σ) (hB σ)
abbrev kQ (σ : hT) : Nat := min (hA σ) (hB σ)
def sgk (p q x : Nat) : Nat := sgn x p q (dE (p - 1)) (dE (q - 1)) (q ^ (p - 2) % p)
theorem sgn_lt {x p q a b e : Nat} (hp : 0 < p) (hq : 0 < q) : sgn x p q a b e < p * q := by
  unfold sgn
  have o1 : ∀ z, z % p * q + (x % q) ^ b % q < p * q := fun z => by
    have o2 := Nat.mod_lt z hp
    have o3 := Nat.mod_lt ((x % q) ^ b) hq
    have o4 : (z % p + 1) * q ≤ p * q := Nat.mul_le_mul_right q o2
    rw [Nat.add_mul] at o4
    omega
  exact o1 _
theorem INV.pq {half : Nat} {σ : hT} (h : INV half σ) (o2 : hF σ = 2) (hh : 31 ≤ half) : PRM (kP σ) half ∧ PRM (kQ σ) half ∧ kQ σ < kP σ ∧ kP σ * kQ σ < 256 ^ (2 * half) ∧ 1 < kP σ ∧ 1 < kQ σ := by
  obtain ⟨o1, o3, -⟩ := h
  have a1 := o1 (by omega)
  obtain ⟨a2, a3⟩ := o3 o2
  have b1 := a1.one hh
  have b2 := a2.one hh
  unfold kP kQ
  have hm : hA σ * hB σ < 256 ^ (2 * half) := by
    rw [show 2 * half = half + half by omega, Nat.pow_add]
    exact Nat.mul_lt_mul'' a1.2.2.1 a2.2.2.1
  rcases Nat.lt_or_ge (hA σ) (hB σ) with hl | hl
  · rw [Nat.max_eq_right (Nat.le_of_lt hl), Nat.min_eq_left (Nat.le_of_lt hl)]
    exact ⟨a2, a1, hl, by rw [Nat.mul_comm]; exact hm, b2, b1⟩
  · rw [Nat.max_eq_left hl, Nat.min_eq_right hl]
    exact ⟨a1, a2, Nat.lt_of_le_of_ne hl (Ne.symm a3), hm, b1, b2⟩
theorem HW.obj {w : ab_W} {half rounds c : Nat} {ω : Nat → Nat} {bg : Nat} {σ : hT} {d : Nat → Nat} {len R sg vf : Nat} (sg' vf' : Nat) (h : HW w half rounds c ω bg σ d len R sg vf) : HW (wu w 7 (hoO half rounds sg' vf')) half rounds c ω bg σ d len R sg' vf' := by
  obtain ⟨o1, o2, o3, o4, ⟨n, dd, p, q, dP, dQ, qI, o5⟩, o6, ⟨o7, o8, o9⟩, o10, o11, ⟨o12, o13⟩, ⟨e, o14, o15⟩, ⟨e2, o16, o17⟩, o18⟩ := h
  have hk : ∀ k, k ≠ 7 → wu w 7 (hoO half rounds sg' vf') k = w k := fun k a => wu_ne a rfl
  exact ⟨wu_eq, o2.keep fun k a b => hk k (by omega), o3.keep fun k a b => hk k (by omega), (hk 28 (by decide)).trans o4, ⟨n, dd, p, q, dP, dQ, qI, o5.keep fun k a b => hk k (by omega)⟩, o6.keep fun k a b => hk k (by omega), ⟨o7.keep fun k a b => hk k (by omega), o8.keep fun k a b => hk k (by omega), o9.keep fun k a b => hk k (by omega)⟩, fun e => (o10 e).keep fun k a b => hk k (by omega), o11.keep fun k a b => hk k (by omega), ⟨(hk 71 (by decide)).trans o12, o13⟩, ⟨e, (hk 72 (by decide)).trans o14, o15⟩, ⟨e2, (hk 73 (by decide)).trans o16, o17⟩, o18.keep fun k a => hk k (by omega)⟩
set_option maxRecDepth 100000 in
set_option maxHeartbeats 4000000 in
theorem c_sign_no {g : ab_G} {N : Nat} {half rounds c bg : Nat} {ω : Nat → Nat} {σ : hT} {d : Nat → Nat} {len R sg vf : Nat} {w : ab_W} (h : HW w half rounds c ω bg σ d len R sg vf) (hp : hF σ ≠ 2) : ab_Ct MX7_sign g [.ref 7] N w (rp (some (.int (-3))) N w) := by
  obtain ⟨o1, o2, o3, o4, ⟨n, dd, p, q, dP, dQ, qI, o5⟩, o6, ⟨o7, o8, o9⟩, o10, o11, ⟨o12, o13⟩, ⟨e, o14, o15⟩, ⟨e2, o16, o17⟩, o18⟩ := id h
  have hm := mk1_lt (hF σ)
  refine ab_Ct.of (by decide +kernel) (Nat.le_of_ble_eq_true rfl) (by rintro _ _ _ ⟨rfl, rfl, rfl⟩; trivial) ?_
  show ab_St MX7_sign g 0 0 0 [(0, .ref 7)] [] _ _ _
  refine r_aload_n dX7_sign_0 rfl ?_
  refine r_getf dX7_sign_1 fX7_49 (by repeat first | exact wu_eq | assumption | exact HS.o (by assumption) | exact MSG.o (by assumption) | exact DRW.o (by assumption) | (apply wu_ne; first | omega | assumption | (apply Ne.symm; assumption))) (by rfl) ?_
  refine r_invV dX7_sign_4 kX7_84 (c_stand o4 (mk1_lt _)) rfl rfl (by repeat first | exact wu_eq | assumption | exact HS.o (by assumption) | exact MSG.o (by assumption) | exact DRW.o (by assumption) | (apply wu_ne; first | omega | assumption | (apply Ne.symm; assumption))) rfl rfl ⟨by decide, by decide⟩ (Nat.le_of_ble_eq_true rfl) ⟨by decide, by decide⟩ ⟨rfl, rfl⟩ ?_
  rintro _ _ _ ⟨rfl, rfl, rfl⟩
  first | refine r_if_neN (tgt := 13) dX7_sign_7 (by decide) (by omega) (fun h7 => ?_) (fun h7 => ?_) | refine r_if_ne (tgt := 13) dX7_sign_7 (by decide) (fun h7 => ?_) (fun h7 => ?_)
  · exact absurd (mk1_1 h7) hp
  · refine r_bipush (v := (-3)) dX7_sign_10 (by decide) ?_
    refine r_ret (r := (some (.int _))) dX7_sign_12 (by decide) (by decide) ?_
    exact ⟨rfl, rfl, rfl⟩
set_option maxRecDepth 100000 in
set_option maxHeartbeats 4000000 in
theorem c_verify_no {g : ab_G} {N : Nat} {half rounds c bg : Nat} {ω : Nat → Nat} {σ : hT} {d : Nat → Nat} {len R sg vf : Nat} {w : ab_W} (h : HW w half rounds c ω bg σ d len R sg vf) (hp : hF σ ≠ 2) : ab_Ct MX7_verify g [.ref 7] N w (rp (some (.int (-3))) N w) := by
  obtain ⟨o1, o2, o3, o4, ⟨n, dd, p, q, dP, dQ, qI, o5⟩, o6, ⟨o7, o8, o9⟩, o10, o11, ⟨o12, o13⟩, ⟨e, o14, o15⟩, ⟨e2, o16, o17⟩, o18⟩ := id h
  have hm := mk1_lt (hF σ)
  refine ab_Ct.of (by decide +kernel) (Nat.le_of_ble_eq_true rfl) (by rintro _ _ _ ⟨rfl, rfl, rfl⟩; trivial) ?_
  show ab_St MX7_verify g 0 0 0 [(0, .ref 7)] [] _ _ _
  refine r_aload_n dX7_verify_0 rfl ?_
  refine r_getf dX7_verify_1 fX7_49 (by repeat first | exact wu_eq | assumption | exact HS.o (by assumption) | exact MSG.o (by assumption) | exact DRW.o (by assumption) | (apply wu_ne; first | omega | assumption | (apply Ne.symm; assumption))) (by rfl) ?_
  refine r_invV dX7_verify_4 kX7_84 (c_stand o4 (mk1_lt _)) rfl rfl (by repeat first | exact wu_eq | assumption | exact HS.o (by assumption) | exact MSG.o (by assumption) | exact DRW.o (by assumption) | (apply wu_ne; first | omega | assumption | (apply Ne.symm; assumption))) rfl rfl ⟨by decide, by decide⟩ (Nat.le_of_ble_eq_true rfl) ⟨by decide, by decide⟩ ⟨rfl, rfl⟩ ?_
  rintro _ _ _ ⟨rfl, rfl, rfl⟩
  first | refine r_if_neN (tgt := 13) dX7_verify_7 (by decide) (by omega) (fun h7 => ?_) (fun h7 => ?_) | refine r_if_ne (tgt := 13) dX7_verify_7 (by decide) (fun h7 => ?_) (fun h7 => ?_)
  · exact absurd (mk1_1 h7) hp
  · refine r_bipush (v := (-3)) dX7_verify_10 (by decide) ?_
    refine r_ret (r := (some (.int _))) dX7_verify_12 (by decide) (by decide) ?_
    exact ⟨rfl, rfl, rfl⟩
set_option maxRecDepth 100000 in
set_option maxHeartbeats 4000000 in
theorem c_power_no {g : ab_G} {N : Nat} {x : Int32} {half rounds c bg : Nat} {ω : Nat → Nat} {σ : hT} {d : Nat → Nat} {len R sg vf : Nat} {w : ab_W} (h : HW w half rounds c ω bg σ d len R sg vf) (hp : hF σ ≠ 2) : ab_Ct MX7_power g [.ref 7, .int x] N w (rp (some (.int (-3))) N w) := by
  obtain ⟨o1, o2, o3, o4, ⟨n, dd, p, q, dP, dQ, qI, o5⟩, o6, ⟨o7, o8, o9⟩, o10, o11, ⟨o12, o13⟩, ⟨e, o14, o15⟩, ⟨e2, o16, o17⟩, o18⟩ := id h
  have hm := mk1_lt (hF σ)
  refine ab_Ct.of (by decide +kernel) (Nat.le_of_ble_eq_true rfl) (by rintro _ _ _ ⟨rfl, rfl, rfl⟩; trivial) ?_
  show ab_St MX7_power g 0 0 0 [(0, .ref 7), (1, .int x)] [] _ _ _
  refine r_aload_n dX7_power_0 rfl ?_
  refine r_getf dX7_power_1 fX7_49 (by repeat first | exact wu_eq | assumption | exact HS.o (by assumption) | exact MSG.o (by assumption) | exact DRW.o (by assumption) | (apply wu_ne; first | omega | assumption | (apply Ne.symm; assumption))) (by rfl) ?_
  refine r_invV dX7_power_4 kX7_84 (c_stand o4 (mk1_lt _)) rfl rfl (by repeat first | exact wu_eq | assumption | exact HS.o (by assumption) | exact MSG.o (by assumption) | exact DRW.o (by assumption) | (apply wu_ne; first | omega | assumption | (apply Ne.symm; assumption))) rfl rfl ⟨by decide, by decide⟩ (Nat.le_of_ble_eq_true rfl) ⟨by decide, by decide⟩ ⟨rfl, rfl⟩ ?_
  rintro _ _ _ ⟨rfl, rfl, rfl⟩
  first | refine r_if_eqN (tgt := 24) dX7_power_7 (by decide) (by omega) (fun h7 => ?_) (fun h7 => ?_) | refine r_if_eq (tgt := 24) dX7_power_7 (by decide) (fun h7 => ?_) (fun h7 => ?_)
  · refine r_bipush (v := (-3)) dX7_power_24 (by decide) ?_
    refine r_ret (r := (some (.int _))) dX7_power_26 (by decide) (by decide) ?_
    exact ⟨rfl, rfl, rfl⟩
  · exact absurd (mk1_1 h7) hp
set_option maxRecDepth 100000 in
set_option maxHeartbeats 4000000 in
theorem c_power_no2 {g : ab_G} {N : Nat} {x : Int32} {half rounds c bg : Nat} {ω : Nat → Nat} {σ : hT} {d : Nat → Nat} {len R sg vf : Nat} {w : ab_W} (h : HW w half rounds c ω bg σ d len R sg vf) (hp : hF σ = 2) (hR : kP σ * kQ σ ≤ R) : ab_Ct MX7_power g [.ref 7, .int x] N w (rp (some (.int (-3))) N w) := by
  obtain ⟨o1, o2, o3, o4, ⟨n, dd, p, q, dP, dQ, qI, o5⟩, o6, ⟨o7, o8, o9⟩, o10, o11, ⟨o12, o13⟩, ⟨e, o14, o15⟩, ⟨e2, o16, o17⟩, o18⟩ := id h
  obtain ⟨⟨n53, -, -, -, -, -, -, b53, -⟩, -⟩ := id (o10 hp)
  have hm := mk1_lt (hF σ)
  have hh := h.half
  refine ab_Ct.of (by decide +kernel) (Nat.le_of_ble_eq_true rfl) (by rintro _ _ _ ⟨rfl, rfl, rfl⟩; trivial) ?_
  show ab_St MX7_power g 0 0 0 [(0, .ref 7), (1, .int x)] [] _ _ _
  refine r_aload_n dX7_power_0 rfl ?_
  refine r_getf dX7_power_1 fX7_49 (by repeat first | exact wu_eq | assumption | exact HS.o (by assumption) | exact MSG.o (by assumption) | exact DRW.o (by assumption) | (apply wu_ne; first | omega | assumption | (apply Ne.symm; assumption))) (by rfl) ?_
  refine r_invV dX7_power_4 kX7_84 (c_stand o4 (mk1_lt _)) rfl rfl (by repeat first | exact wu_eq | assumption | exact HS.o (by assumption) | exact MSG.o (by assumption) | exact DRW.o (by assumption) | (apply wu_ne; first | omega | assumption | (apply Ne.symm; assumption))) rfl rfl ⟨by decide, by decide⟩ (Nat.le_of_ble_eq_true rfl) ⟨by decide, by decide⟩ ⟨rfl, rfl⟩ ?_
  rintro _ _ _ ⟨rfl, rfl, rfl⟩
  first | refine r_if_eqN (tgt := 24) dX7_power_7 (by decide) (by omega) (fun h7 => ?_) (fun h7 => ?_) | refine r_if_eq (tgt := 24) dX7_power_7 (by decide) (fun h7 => ?_) (fun h7 => ?_)
  · exact absurd hp (mk1_0 h7)
  · refine r_aload_n dX7_power_10 rfl ?_
    refine r_getf dX7_power_11 fX7_49 (by repeat first | exact wu_eq | assumption | exact HS.o (by assumption) | exact MSG.o (by assumption) | exact DRW.o (by assumption) | (apply wu_ne; first | omega | assumption | (apply Ne.symm; assumption))) (by rfl) ?_
    refine r_aload_n dX7_power_14 rfl ?_
    refine r_getf dX7_power_15 fX7_60 (by repeat first | exact wu_eq | assumption | exact HS.o (by assumption) | exact MSG.o (by assumption) | exact DRW.o (by assumption) | (apply wu_ne; first | omega | assumption | (apply Ne.symm; assumption))) (by rfl) ?_
    refine r_invV dX7_power_18 kX7_151 (c_isBelowN (W := (half + 3) / 4) (u := R) o4 o12 n53 (by omega) (Nat.lt_of_lt_of_le o13 pow_2W) b53) rfl rfl (by repeat first | exact wu_eq | assumption | exact HS.o (by assumption) | exact MSG.o (by assumption) | exact DRW.o (by assumption) | (apply wu_ne; first | omega | assumption | (apply Ne.symm; assumption))) rfl rfl ⟨by decide, by decide⟩ (Nat.le_of_ble_eq_true rfl) ⟨by decide, by decide⟩ ⟨rfl, rfl⟩ ?_
    rintro _ _ _ ⟨rfl, rfl, rfl⟩
    rw [if_neg (by exact Nat.not_lt.mpr hR)]
    first | refine r_if_neN (tgt := 27) dX7_power_21 (by decide) (by omega) (fun h21 => ?_) (fun h21 => ?_) | refine r_if_ne (tgt := 27) dX7_power_21 (by decide) (fun h21 => ?_) (fun h21 => ?_)
    · omega
    · refine r_bipush (v := (-3)) dX7_power_24 (by decide) ?_
      refine r_ret (r := (some (.int _))) dX7_power_26 (by decide) (by decide) ?_
      exact ⟨rfl, rfl, rfl⟩
set_option maxRecDepth 100000 in
set_option maxHeartbeats 4000000 in
theorem c_power {g : ab_G} {N b : Nat} {half rounds c bg : Nat} {ω : Nat → Nat} {σ : hT} {d : Nat → Nat} {len R sg vf : Nat} {w : ab_W} (h : HW w half rounds c ω bg σ d len R sg vf) (hI : INV half σ) (hp : hF σ = 2) (hR : R < kP σ * kQ σ) (hb : b < 2) : ab_Ct MX7_power g [.ref 7, .int (nI b)] N w (fun r N' w' => HW w' half rounds c ω bg σ d len (if b = 0 then R ^ dE ((kP σ - 1) * (kQ σ - 1)) % (kP σ * kQ σ) else R ^ 65537 % (kP σ * kQ σ)) sg vf ∧ (∀ k, 73 < k → w' k = w k) ∧ r = some (.int (nI 1)) ∧ N = N') := by
  obtain ⟨o1, o2, o3, o4, ⟨n, dd, p, q, dP, dQ, qI, o5⟩, o6, ⟨o7, o8, o9⟩, o10, o11, ⟨o12, o13⟩, ⟨e, o14, o15⟩, ⟨e2, o16, o17⟩, o18⟩ := id h
  obtain ⟨⟨n53, n54, n55, n56, n57, n58, n59, b53, b54, bb⟩, M1, M2, M3⟩ := id (o10 hp)
  obtain ⟨x0, x1, x2, x3, x4, x5⟩ := id o18
  have hm := mk1_lt (hF σ)
  have hh := h.half
  obtain ⟨p1, p2, p3, p4, p5, p6⟩ := hI.pq hp hh.1
  have hn0 : 0 < kP σ * kQ σ := Nat.mul_pos (by omega) (by omega)
  have hRW := Nat.lt_of_lt_of_le o13 (pow_2W (half := half))
  have T : ∀ (w1 : ab_W) (X : Nat), MOK w1 29 (2 * ((half + 3) / 4)) (kP σ * kQ σ) → w1 71 = aN (2 * ((half + 3) / 4)) (X % (kP σ * kQ σ)) → FR w w1 29 71 → HW w1 half rounds c ω bg σ d len (X % (kP σ * kQ σ)) sg vf := by
    intro w1 X MM e71 F
    exact ⟨(F 7 (by decide) (by decide)).trans o1, o2.keep fun k a b => F k (by omega) (by omega), o3.keep fun k a b => F k (by omega) (by omega), (F 28 (by decide) (by decide)).trans o4, ⟨n, dd, p, q, dP, dQ, qI, o5.keep fun k a b => F k (by omega) (by omega)⟩, o6.keep fun k a b => F k (by omega) (by omega), ⟨MM.sh, o8.keep fun k a b => F k (by omega) (by omega), o9.keep fun k a b => F k (by omega) (by omega)⟩, fun _ => ⟨(o10 hp).1.keep fun k a b => F k (by omega) (by omega), MM, M2.keep fun k a b => F k (by omega) (by omega), M3.keep fun k a b => F k (by omega) (by omega)⟩, o11.keep fun k a b => F k (by omega) (by omega), ⟨e71, Nat.lt_trans (Nat.mod_lt _ hn0) p4⟩, ⟨e, (F 72 (by decide) (by decide)).trans o14, o15⟩, ⟨e2, (F 73 (by decide) (by decide)).trans o16, o17⟩, o18.keep fun k a => F k (by omega) (by omega)⟩
  refine ab_Ct.of (by decide +kernel) (Nat.le_of_ble_eq_true rfl) (by rintro _ _ _ ⟨-, -, rfl, -⟩; trivial) ?_
  show ab_St MX7_power g 0 0 0 [(0, .ref 7), (1, .int (nI b))] [] _ _ _
  refine r_aload_n dX7_power_0 rfl ?_
  refine r_getf dX7_power_1 fX7_49 (by repeat first | exact wu_eq | assumption | exact HS.o (by assumption) | exact MSG.o (by assumption) | exact DRW.o (by assumption) | (apply wu_ne; first | omega | assumption | (apply Ne.symm; assumption))) (by rfl) ?_
  refine r_invV dX7_power_4 kX7_84 (c_stand o4 (mk1_lt _)) rfl rfl (by repeat first | exact wu_eq | assumption | exact HS.o (by assumption) | exact MSG.o (by assumption) | exact DRW.o (by assumption) | (apply wu_ne; first | omega | assumption | (apply Ne.symm; assumption))) rfl rfl ⟨by decide, by decide⟩ (Nat.le_of_ble_eq_true rfl) ⟨by decide, by decide⟩ ⟨rfl, rfl⟩ ?_
  rintro _ _ _ ⟨rfl, rfl, rfl⟩
  first | refine r_if_eqN (tgt := 24) dX7_power_7 (by decide) (by omega) (fun h7 => ?_) (fun h7 => ?_) | refine r_if_eq (tgt := 24) dX7_power_7 (by decide) (fun h7 => ?_) (fun h7 => ?_)
  · exact absurd hp (mk1_0 h7)
  · refine r_aload_n dX7_power_10 rfl ?_
    refine r_getf dX7_power_11 fX7_49 (by repeat first | exact wu_eq | assumption | exact HS.o (by assumption) | exact MSG.o (by assumption) | exact DRW.o (by assumption) | (apply wu_ne; first | omega | assumption | (apply Ne.symm; assumption))) (by rfl) ?_
    refine r_aload_n dX7_power_14 rfl ?_
    refine r_getf dX7_power_15 fX7_60 (by repeat first | exact wu_eq | assumption | exact HS.o (by assumption) | exact MSG.o (by assumption) | exact DRW.o (by assumption) | (apply wu_ne; first | omega | assumption | (apply Ne.symm; assumption))) (by rfl) ?_
    refine r_invV dX7_power_18 kX7_151 (c_isBelowN (W := (half + 3) / 4) (u := R) o4 o12 n53 (by omega) (Nat.lt_of_lt_of_le o13 pow_2W) b53) rfl rfl (by repeat first | exact wu_eq | assumption | exact HS.o (by assumption) | exact MSG.o (by assumption) | exact DRW.o (by assumption) | (apply wu_ne; first | omega | assumption | (apply Ne.symm; assumption))) rfl rfl ⟨by decide, by decide⟩ (Nat.le_of_ble_eq_true rfl) ⟨by decide, by decide⟩ ⟨rfl, rfl⟩ ?_
    rintro _ _ _ ⟨rfl, rfl, rfl⟩
    rw [if_pos (by exact hR)]
    first | refine r_if_neN (tgt := 27) dX7_power_21 (by decide) (by omega) (fun h21 => ?_) (fun h21 => ?_) | refine r_if_ne (tgt := 27) dX7_power_21 (by decide) (fun h21 => ?_) (fun h21 => ?_)
    · refine r_iload_n dX7_power_27 rfl ?_
      first | refine r_if_eqN (tgt := 49) dX7_power_28 (by decide) (by omega) (fun h28 => ?_) (fun h28 => ?_) | refine r_if_eq (tgt := 49) dX7_power_28 (by decide) (fun h28 => ?_) (fun h28 => ?_)
      · refine r_aload_n dX7_power_49 rfl ?_
        refine r_getf dX7_power_50 fX7_49 (by repeat first | exact wu_eq | assumption | exact HS.o (by assumption) | exact MSG.o (by assumption) | exact DRW.o (by assumption) | (apply wu_ne; first | omega | assumption | (apply Ne.symm; assumption))) (by rfl) ?_
        refine r_aload_n dX7_power_53 rfl ?_
        refine r_getf dX7_power_54 fX7_60 (by repeat first | exact wu_eq | assumption | exact HS.o (by assumption) | exact MSG.o (by assumption) | exact DRW.o (by assumption) | (apply wu_ne; first | omega | assumption | (apply Ne.symm; assumption))) (by rfl) ?_
        refine r_aload_n dX7_power_57 rfl ?_
        refine r_getf dX7_power_58 fX7_60 (by repeat first | exact wu_eq | assumption | exact HS.o (by assumption) | exact MSG.o (by assumption) | exact DRW.o (by assumption) | (apply wu_ne; first | omega | assumption | (apply Ne.symm; assumption))) (by rfl) ?_
        refine r_invV dX7_power_61 kX7_164 (c_raisePrivate (W := (half + 3) / 4) (n := kP σ * kQ σ) (u := R) (x := R) o4 M1 n54 b54 (by omega) (by omega) o12 hRW o12 hR (by decide) (by decide)) rfl rfl (by repeat first | exact wu_eq | assumption | exact HS.o (by assumption) | exact MSG.o (by assumption) | exact DRW.o (by assumption) | (apply wu_ne; first | omega | assumption | (apply Ne.symm; assumption))) rfl rfl ⟨by decide, by decide⟩ (Nat.le_of_ble_eq_true rfl) ⟨by decide, by decide⟩ ⟨rfl, rfl⟩ ?_
        rintro _ _ w1 ⟨MM, e71, F, rfl, rfl⟩
        refine r_iconst (v := nI 1) dX7_power_64 (by decide) ?_
        refine r_ret (r := (some (.int _))) dX7_power_65 (by decide) (by decide) ?_
        rw [if_pos h28]
        exact ⟨T w1 _ MM e71 F, fun k a => F k (by omega) (by omega), rfl, rfl⟩
      · refine r_aload_n dX7_power_31 rfl ?_
        refine r_getf dX7_power_32 fX7_49 (by repeat first | exact wu_eq | assumption | exact HS.o (by assumption) | exact MSG.o (by assumption) | exact DRW.o (by assumption) | (apply wu_ne; first | omega | assumption | (apply Ne.symm; assumption))) (by rfl) ?_
        refine r_aload_n dX7_power_35 rfl ?_
        refine r_getf dX7_power_36 fX7_60 (by repeat first | exact wu_eq | assumption | exact HS.o (by assumption) | exact MSG.o (by assumption) | exact DRW.o (by assumption) | (apply wu_ne; first | omega | assumption | (apply Ne.symm; assumption))) (by rfl) ?_
        refine r_aload_n dX7_power_39 rfl ?_
        refine r_getf dX7_power_40 fX7_60 (by repeat first | exact wu_eq | assumption | exact HS.o (by assumption) | exact MSG.o (by assumption) | exact DRW.o (by assumption) | (apply wu_ne; first | omega | assumption | (apply Ne.symm; assumption))) (by rfl) ?_
        refine r_invV dX7_power_43 kX7_155 (c_raisePublic (W := (half + 3) / 4) (n := kP σ * kQ σ) (u := R) (x := R) o4 M1 x4 o12 hRW o12 hR (by decide) (by decide)) rfl rfl (by repeat first | exact wu_eq | assumption | exact HS.o (by assumption) | exact MSG.o (by assumption) | exact DRW.o (by assumption) | (apply wu_ne; first | omega | assumption | (apply Ne.symm; assumption))) rfl rfl ⟨by decide, by decide⟩ (Nat.le_of_ble_eq_true rfl) ⟨by decide, by decide⟩ ⟨rfl, rfl⟩ ?_
        rintro _ _ w1 ⟨MM, e71, F, rfl, rfl⟩
        refine r_goto (tgt := 64) dX7_power_46 (by decide) ?_
        refine r_iconst (v := nI 1) dX7_power_64 (by decide) ?_
        refine r_ret (r := (some (.int _))) dX7_power_65 (by decide) (by decide) ?_
        rw [if_neg h28]
        exact ⟨T w1 _ MM e71 F, fun k a => F k (by omega) (by omega), rfl, rfl⟩
    · omega
set_option maxRecDepth 100000 in
set_option maxHeartbeats 4000000 in
theorem c_sign {g : ab_G} {N : Nat} {half rounds c bg : Nat} {ω : Nat → Nat} {σ : hT} {d : Nat → Nat} {len R sg vf : Nat} {w : ab_W} (h : HW w half rounds c ω bg σ d len R sg vf) (hI : INV half σ) (hp : hF σ = 2) : ab_Ct MX7_sign g [.ref 7] N w (fun r N' w' => HW w' half rounds c ω bg σ d len (sgk (kP σ) (kQ σ) (emn d len half (2 * half))) (sg + 1) vf ∧ (∀ k, 73 < k → w' k = w k) ∧ r = some (.int (nI 1)) ∧ N = N') := by
  obtain ⟨o1, o2, o3, o4, ⟨n, dd, p, q, dP, dQ, qI, o5⟩, o6, ⟨o7, o8, o9⟩, o10, o11, ⟨o12, o13⟩, ⟨e, o14, o15⟩, ⟨e2, o16, o17⟩, o18⟩ := id h
  obtain ⟨K1, M1, M2, M3⟩ := id (o10 hp)
  obtain ⟨x0, x1, x2, x3, x4, x5⟩ := id o18
  have hm := mk1_lt (hF σ)
  have hh := h.half
  obtain ⟨p1, p2, p3, p4, p5, p6⟩ := hI.pq hp hh.1
  have hE := emn_lt d len half (2 * half)
  refine ab_Ct.of (by decide +kernel) (Nat.le_of_ble_eq_true rfl) (by rintro _ _ _ ⟨-, -, rfl, -⟩; trivial) ?_
  show ab_St MX7_sign g 0 0 0 [(0, .ref 7)] [] _ _ _
  refine r_aload_n dX7_sign_0 rfl ?_
  refine r_getf dX7_sign_1 fX7_49 (by repeat first | exact wu_eq | assumption | exact HS.o (by assumption) | exact MSG.o (by assumption) | exact DRW.o (by assumption) | (apply wu_ne; first | omega | assumption | (apply Ne.symm; assumption))) (by rfl) ?_
  refine r_invV dX7_sign_4 kX7_84 (c_stand o4 (mk1_lt _)) rfl rfl (by repeat first | exact wu_eq | assumption | exact HS.o (by assumption) | exact MSG.o (by assumption) | exact DRW.o (by assumption) | (apply wu_ne; first | omega | assumption | (apply Ne.symm; assumption))) rfl rfl ⟨by decide, by decide⟩ (Nat.le_of_ble_eq_true rfl) ⟨by decide, by decide⟩ ⟨rfl, rfl⟩ ?_
  rintro _ _ _ ⟨rfl, rfl, rfl⟩
  first | refine r_if_neN (tgt := 13) dX7_sign_7 (by decide) (by omega) (fun h7 => ?_) (fun h7 => ?_) | refine r_if_ne (tgt := 13) dX7_sign_7 (by decide) (fun h7 => ?_) (fun h7 => ?_)
  · refine r_aload_n dX7_sign_13 rfl ?_
    refine r_aload_n dX7_sign_14 rfl ?_
    refine r_getf dX7_sign_15 fX7_64 (by repeat first | exact wu_eq | assumption | exact HS.o (by assumption) | exact MSG.o (by assumption) | exact DRW.o (by assumption) | (apply wu_ne; first | omega | assumption | (apply Ne.symm; assumption))) (by rfl) ?_
    refine r_invV dX7_sign_18 kX7_144 (c_writeEncoded (half := half) (W := (half + 3) / 4) (u := e) o1 hh.1 hh.2.1 rfl o11 x5 o14 (by decide) o15) rfl rfl (by repeat first | exact wu_eq | assumption | exact HS.o (by assumption) | exact MSG.o (by assumption) | exact DRW.o (by assumption) | (apply wu_ne; first | omega | assumption | (apply Ne.symm; assumption))) rfl rfl ⟨by decide, by decide⟩ (Nat.le_of_ble_eq_true rfl) ⟨by decide, by decide⟩ ⟨rfl, rfl⟩ ?_
    rintro _ _ _ ⟨rfl, rfl, rfl⟩
    have hk : ∀ k, k ≠ 72 → (wu w 72 (aN (2 * ((half + 3) / 4)) (emn d len half (2 * half)))) k = w k := fun k a => wu_ne a rfl
    have k72 : (wu w 72 (aN (2 * ((half + 3) / 4)) (emn d len half (2 * half)))) 72 = aN (2 * ((half + 3) / 4)) (emn d len half (2 * half)) := wu_eq
    generalize wu w 72 (aN (2 * ((half + 3) / 4)) (emn d len half (2 * half))) = w1 at hk k72 ⊢
    have e7 := (hk 7 (by decide)).trans o1
    have e28 := (hk 28 (by decide)).trans o4
    have e71 := (hk 71 (by decide)).trans o12
    refine r_aload_n dX7_sign_21 rfl ?_
    refine r_getf dX7_sign_22 fX7_49 (by repeat first | exact wu_eq | assumption | exact HS.o (by assumption) | exact MSG.o (by assumption) | exact DRW.o (by assumption) | (apply wu_ne; first | omega | assumption | (apply Ne.symm; assumption))) (by rfl) ?_
    refine r_aload_n dX7_sign_25 rfl ?_
    refine r_getf dX7_sign_26 fX7_60 (by repeat first | exact wu_eq | assumption | exact HS.o (by assumption) | exact MSG.o (by assumption) | exact DRW.o (by assumption) | (apply wu_ne; first | omega | assumption | (apply Ne.symm; assumption))) (by rfl) ?_
    refine r_aload_n dX7_sign_29 rfl ?_
    refine r_getf dX7_sign_30 fX7_64 (by repeat first | exact wu_eq | assumption | exact HS.o (by assumption) | exact MSG.o (by assumption) | exact DRW.o (by assumption) | (apply wu_ne; first | omega | assumption | (apply Ne.symm; assumption))) (by rfl) ?_
    refine r_invV dX7_sign_33 kX7_148 (c_makeSignature (W := (half + 3) / 4) (u := R) (x := emn d len half (2 * half)) e28 (M2.keep fun k a b ↦ hk k (by omega)) (M3.keep fun k a b ↦ hk k (by omega)) (K1.keep fun k a b ↦ hk k (by omega)) (o6.keep fun k a b ↦ hk k (by omega)) (Nat.le_of_lt p3) (by omega) (by omega) e71 (Nat.lt_of_lt_of_le o13 pow_2W) k72 (Nat.lt_of_lt_of_le hE pow_2W) (by decide) (by decide) (by decide)) rfl rfl (by repeat first | exact wu_eq | assumption | exact HS.o (by assumption) | exact MSG.o (by assumption) | exact DRW.o (by assumption) | (apply wu_ne; first | omega | assumption | (apply Ne.symm; assumption))) rfl rfl ⟨by decide, by decide⟩ (Nat.le_of_ble_eq_true rfl) ⟨by decide, by decide⟩ ⟨rfl, rfl⟩ ?_
    rintro _ _ w2 ⟨f71, N2, N3, T2, F, rfl, rfl⟩
    have g7 := (F 7 (by decide) (by decide) (by decide) (by decide)).trans e7
    have G : ∀ k, k ≠ 71 → k ≠ 72 → (k < 37 ∨ 52 < k) → k ≠ 64 → k ≠ 65 → w2 k = w k := fun k a b c d1 e1 => (F k a c d1 e1).trans (hk k b)
    have H2 : HW w2 half rounds c ω bg σ d len (sgk (kP σ) (kQ σ) (emn d len half (2 * half))) sg vf := by
      exact ⟨g7, o2.keep fun k a b => G k (by omega) (by omega) (by omega) (by omega) (by omega), o3.keep fun k a b => G k (by omega) (by omega) (by omega) (by omega) (by omega), (G 28 (by decide) (by decide) (by decide) (by decide) (by decide)).trans o4, ⟨n, dd, p, q, dP, dQ, qI, o5.keep fun k a b => G k (by omega) (by omega) (by omega) (by omega) (by omega)⟩, T2, ⟨o7.keep fun k a b => G k (by omega) (by omega) (by omega) (by omega) (by omega), N2.sh, N3.sh⟩, fun _ => ⟨K1.keep fun k a b => G k (by omega) (by omega) (by omega) (by omega) (by omega), M1.keep fun k a b => G k (by omega) (by omega) (by omega) (by omega) (by omega), N2, N3⟩, o11.keep fun k a b => G k (by omega) (by omega) (by omega) (by omega) (by omega), ⟨f71, Nat.lt_trans (sgn_lt (by omega) (by omega)) p4⟩, ⟨_, (F 72 (by decide) (by decide) (by decide) (by decide)).trans k72, hE⟩, ⟨e2, (G 73 (by decide) (by decide) (by decide) (by decide) (by decide)).trans o16, o17⟩, o18.keep fun k a => G k (by omega) (by omega) (by omega) (by omega) (by omega)⟩
    refine r_aload_n dX7_sign_36 rfl ?_
    refine r_dup dX7_sign_37 rfl ?_
    refine r_getf dX7_sign_38 fX7_125 (by repeat first | exact wu_eq | assumption | exact HS.o (by assumption) | exact MSG.o (by assumption) | exact DRW.o (by assumption) | (apply wu_ne; first | omega | assumption | (apply Ne.symm; assumption))) (by rfl) ?_
    refine r_iconst (v := nI 1) dX7_sign_41 (by decide) ?_
    first | refine r_iaddN dX7_sign_42 ?_ | refine r_iadd dX7_sign_42 ?_
    refine r_putf dX7_sign_43 fX7_125 (by repeat first | exact wu_eq | assumption | exact HS.o (by assumption) | exact MSG.o (by assumption) | exact DRW.o (by assumption) | (apply wu_ne; first | omega | assumption | (apply Ne.symm; assumption))) rfl (by exact Nat.le_of_ble_eq_true rfl) (by rfl) (by rfl) ?_
    refine r_iconst (v := nI 1) dX7_sign_46 (by decide) ?_
    refine r_ret (r := (some (.int _))) dX7_sign_47 (by decide) (by decide) ?_
    exact ⟨H2.obj (sg + 1) vf, fun k a => (wu_ne (by omega) rfl).trans (G k (by omega) (by omega) (by omega) (by omega) (by omega)), rfl, rfl⟩
  · exact absurd hp (mk1_0 h7)
set_option maxRecDepth 100000 in
set_option maxHeartbeats 4000000 in
theorem c_verify {g : ab_G} {N : Nat} {half rounds c bg : Nat} {ω : Nat → Nat} {σ : hT} {d : Nat → Nat} {len R sg vf : Nat} {w : ab_W} (h : HW w half rounds c ω bg σ d len R sg vf) (hI : INV half σ) (hp : hF σ = 2) : ab_Ct MX7_verify g [.ref 7] N w (fun r N' w' => HW w' half rounds c ω bg σ d len R sg (vf + 1) ∧ (∀ k, 73 < k → w' k = w k) ∧ r = some (.int (nI (if R < kP σ * kQ σ then (if R ^ 65537 % (kP σ * kQ σ) = emn d len half (2 * half) then 1 else 0) else 0))) ∧ N = N') := by
  have H1 := h.obj sg (vf + 1)
  have hh := h.half
  have hm := mk1_lt (hF σ)
  obtain ⟨p1, p2, p3, p4, p5, p6⟩ := hI.pq hp hh.1
  have hE := emn_lt d len half (2 * half)
  obtain ⟨k7, -, -, k28, -⟩ := id h
  have hn0 : 0 < kP σ * kQ σ := Nat.mul_pos (by omega) (by omega)
  refine ab_Ct.of (by decide +kernel) (Nat.le_of_ble_eq_true rfl) (by rintro _ _ _ ⟨-, -, rfl, -⟩; trivial) ?_
  show ab_St MX7_verify g 0 0 0 [(0, .ref 7)] [] _ _ _
  refine r_aload_n dX7_verify_0 rfl ?_
  refine r_getf dX7_verify_1 fX7_49 (by repeat first | exact wu_eq | assumption | exact HS.o (by assumption) | exact MSG.o (by assumption) | exact DRW.o (by assumption) | (apply wu_ne; first | omega | assumption | (apply Ne.symm; assumption))) (by rfl) ?_
  refine r_invV dX7_verify_4 kX7_84 (c_stand k28 (mk1_lt _)) rfl rfl (by repeat first | exact wu_eq | assumption | exact HS.o (by assumption) | exact MSG.o (by assumption) | exact DRW.o (by assumption) | (apply wu_ne; first | omega | assumption | (apply Ne.symm; assumption))) rfl rfl ⟨by decide, by decide⟩ (Nat.le_of_ble_eq_true rfl) ⟨by decide, by decide⟩ ⟨rfl, rfl⟩ ?_
  rintro _ _ _ ⟨rfl, rfl, rfl⟩
  first | refine r_if_neN (tgt := 13) dX7_verify_7 (by decide) (by omega) (fun h7 => ?_) (fun h7 => ?_) | refine r_if_ne (tgt := 13) dX7_verify_7 (by decide) (fun h7 => ?_) (fun h7 => ?_)
  · refine r_aload_n dX7_verify_13 rfl ?_
    refine r_dup dX7_verify_14 rfl ?_
    refine r_getf dX7_verify_15 fX7_128 (by repeat first | exact wu_eq | assumption | exact HS.o (by assumption) | exact MSG.o (by assumption) | exact DRW.o (by assumption) | (apply wu_ne; first | omega | assumption | (apply Ne.symm; assumption))) (by rfl) ?_
    refine r_iconst (v := nI 1) dX7_verify_18 (by decide) ?_
    first | refine r_iaddN dX7_verify_19 ?_ | refine r_iadd dX7_verify_19 ?_
    refine r_putf dX7_verify_20 fX7_128 (by repeat first | exact wu_eq | assumption | exact HS.o (by assumption) | exact MSG.o (by assumption) | exact DRW.o (by assumption) | (apply wu_ne; first | omega | assumption | (apply Ne.symm; assumption))) rfl (by exact Nat.le_of_ble_eq_true rfl) (by rfl) (by rfl) ?_
    refine r_toW (w' := wu w 7 (hoO half rounds sg (vf + 1))) rfl ?_
    have F0' : ∀ k, 73 < k → wu w 7 (hoO half rounds sg (vf + 1)) k = w k := fun k a => wu_ne (by omega) rfl
    generalize wu w 7 (hoO half rounds sg (vf + 1)) = w0 at H1 F0' ⊢
    obtain ⟨o1, o2, o3, o4, ⟨n, dd, p, q, dP, dQ, qI, o5⟩, o6, ⟨o7, o8, o9⟩, o10, o11, ⟨o12, o13⟩, ⟨e, o14, o15⟩, ⟨e2, o16, o17⟩, o18⟩ := id H1
    obtain ⟨K1, M1, M2, M3⟩ := id (o10 hp)
    obtain ⟨n53, -, -, -, -, -, -, b53, -⟩ := id K1
    obtain ⟨x0, x1, x2, x3, x4, x5⟩ := id o18
    refine r_aload_n dX7_verify_23 rfl ?_
    refine r_getf dX7_verify_24 fX7_49 (by repeat first | exact wu_eq | assumption | exact HS.o (by assumption) | exact MSG.o (by assumption) | exact DRW.o (by assumption) | (apply wu_ne; first | omega | assumption | (apply Ne.symm; assumption))) (by rfl) ?_
    refine r_aload_n dX7_verify_27 rfl ?_
    refine r_getf dX7_verify_28 fX7_60 (by repeat first | exact wu_eq | assumption | exact HS.o (by assumption) | exact MSG.o (by assumption) | exact DRW.o (by assumption) | (apply wu_ne; first | omega | assumption | (apply Ne.symm; assumption))) (by rfl) ?_
    refine r_invV dX7_verify_31 kX7_151 (c_isBelowN (W := (half + 3) / 4) (u := R) o4 o12 n53 (by omega) (Nat.lt_of_lt_of_le o13 pow_2W) b53) rfl rfl (by repeat first | exact wu_eq | assumption | exact HS.o (by assumption) | exact MSG.o (by assumption) | exact DRW.o (by assumption) | (apply wu_ne; first | omega | assumption | (apply Ne.symm; assumption))) rfl rfl ⟨by decide, by decide⟩ (Nat.le_of_ble_eq_true rfl) ⟨by decide, by decide⟩ ⟨rfl, rfl⟩ ?_
    rintro _ _ _ ⟨rfl, rfl, rfl⟩
    by_cases hR : R < kP σ * kQ σ
    · rw [if_pos hR, if_pos hR]
      first | refine r_if_neN (tgt := 39) dX7_verify_34 (by decide) (by omega) (fun h34 => ?_) (fun h34 => ?_) | refine r_if_ne (tgt := 39) dX7_verify_34 (by decide) (fun h34 => ?_) (fun h34 => ?_)
      · refine r_aload_n dX7_verify_39 rfl ?_
        refine r_getf dX7_verify_40 fX7_49 (by repeat first | exact wu_eq | assumption | exact HS.o (by assumption) | exact MSG.o (by assumption) | exact DRW.o (by assumption) | (apply wu_ne; first | omega | assumption | (apply Ne.symm; assumption))) (by rfl) ?_
        refine r_aload_n dX7_verify_43 rfl ?_
        refine r_getf dX7_verify_44 fX7_67 (by repeat first | exact wu_eq | assumption | exact HS.o (by assumption) | exact MSG.o (by assumption) | exact DRW.o (by assumption) | (apply wu_ne; first | omega | assumption | (apply Ne.symm; assumption))) (by rfl) ?_
        refine r_aload_n dX7_verify_47 rfl ?_
        refine r_getf dX7_verify_48 fX7_60 (by repeat first | exact wu_eq | assumption | exact HS.o (by assumption) | exact MSG.o (by assumption) | exact DRW.o (by assumption) | (apply wu_ne; first | omega | assumption | (apply Ne.symm; assumption))) (by rfl) ?_
        refine r_invV dX7_verify_51 kX7_155 (c_raisePublic (W := (half + 3) / 4) (n := kP σ * kQ σ) (u := e2) (x := R) o4 M1 x4 o16 o17 o12 hR (by decide) (by decide)) rfl rfl (by repeat first | exact wu_eq | assumption | exact HS.o (by assumption) | exact MSG.o (by assumption) | exact DRW.o (by assumption) | (apply wu_ne; first | omega | assumption | (apply Ne.symm; assumption))) rfl rfl ⟨by decide, by decide⟩ (Nat.le_of_ble_eq_true rfl) ⟨by decide, by decide⟩ ⟨rfl, rfl⟩ ?_
        rintro _ _ w1 ⟨MM, e73, F, rfl, rfl⟩
        have j7 := (F 7 (by decide) (by decide)).trans o1
        have j72 := (F 72 (by decide) (by decide)).trans o14
        have j11 : MSG w1 d len := o11.keep fun k a b => F k (by omega) (by omega)
        have j5 := (F 5 (by decide) (by decide)).trans x5
        have hX : R ^ 65537 % (kP σ * kQ σ) < 4294967296 ^ (2 * ((half + 3) / 4)) := Nat.lt_trans (Nat.mod_lt _ hn0) b53
        refine r_aload_n dX7_verify_54 rfl ?_
        refine r_aload_n dX7_verify_55 rfl ?_
        refine r_getf dX7_verify_56 fX7_64 (by repeat first | exact wu_eq | assumption | exact HS.o (by assumption) | exact MSG.o (by assumption) | exact DRW.o (by assumption) | (apply wu_ne; first | omega | assumption | (apply Ne.symm; assumption))) (by rfl) ?_
        refine r_invV dX7_verify_59 kX7_144 (c_writeEncoded (half := half) (W := (half + 3) / 4) (u := e) j7 hh.1 hh.2.1 rfl j11 j5 j72 (by decide) o15) rfl rfl (by repeat first | exact wu_eq | assumption | exact HS.o (by assumption) | exact MSG.o (by assumption) | exact DRW.o (by assumption) | (apply wu_ne; first | omega | assumption | (apply Ne.symm; assumption))) rfl rfl ⟨by decide, by decide⟩ (Nat.le_of_ble_eq_true rfl) ⟨by decide, by decide⟩ ⟨rfl, rfl⟩ ?_
        rintro _ _ _ ⟨rfl, rfl, rfl⟩
        refine r_aload_n dX7_verify_62 rfl ?_
        refine r_getf dX7_verify_63 fX7_67 (by repeat first | exact wu_eq | assumption | exact HS.o (by assumption) | exact MSG.o (by assumption) | exact DRW.o (by assumption) | (apply wu_ne; first | omega | assumption | (apply Ne.symm; assumption))) (by rfl) ?_
        refine r_aload_n dX7_verify_66 rfl ?_
        refine r_getf dX7_verify_67 fX7_64 (by repeat first | exact wu_eq | assumption | exact HS.o (by assumption) | exact MSG.o (by assumption) | exact DRW.o (by assumption) | (apply wu_ne; first | omega | assumption | (apply Ne.symm; assumption))) (by rfl) ?_
        refine r_invS dX7_verify_70 kX7_158 (c_order (n := 2 * ((half + 3) / 4)) (u := R ^ 65537 % (kP σ * kQ σ)) (v := emn d len half (2 * half)) (by repeat first | exact wu_eq | assumption | exact HS.o (by assumption) | exact MSG.o (by assumption) | exact DRW.o (by assumption) | (apply wu_ne; first | omega | assumption | (apply Ne.symm; assumption))) (by repeat first | exact wu_eq | assumption | exact HS.o (by assumption) | exact MSG.o (by assumption) | exact DRW.o (by assumption) | (apply wu_ne; first | omega | assumption | (apply Ne.symm; assumption))) (by omega) hX (Nat.lt_of_lt_of_le hE pow_2W)) rfl rfl ⟨by decide, by decide⟩ (Nat.le_of_ble_eq_true rfl) ⟨by decide, by decide⟩ ⟨rfl, rfl⟩ ?_
        rintro _ _ _ ⟨rfl, rfl, rfl⟩
        refine r_if_ne (tgt := 80) dX7_verify_73 (by decide) (fun h73 => ?_) (fun h73 => ?_)
        all_goals rw [ord0] at h73
        all_goals have G : ∀ k, k ≠ 72 → k ≠ 73 → (k < 29 ∨ 36 < k) → wu w1 72 (aN (2 * ((half + 3) / 4)) (emn d len half (2 * half))) k = w0 k := fun k a b c => (wu_ne a rfl).trans (F k b c)
        all_goals have H2 : HW (wu w1 72 (aN (2 * ((half + 3) / 4)) (emn d len half (2 * half)))) half rounds c ω bg σ d len R sg (vf + 1) := ⟨(G 7 (by decide) (by decide) (by decide)).trans o1, o2.keep fun k a b => G k (by omega) (by omega) (by omega), o3.keep fun k a b => G k (by omega) (by omega) (by omega), (G 28 (by decide) (by decide) (by decide)).trans o4, ⟨n, dd, p, q, dP, dQ, qI, o5.keep fun k a b => G k (by omega) (by omega) (by omega)⟩, o6.keep fun k a b => G k (by omega) (by omega) (by omega), ⟨MM.sh.keep fun k a b => wu_ne (by omega) rfl, o8.keep fun k a b => G k (by omega) (by omega) (by omega), o9.keep fun k a b => G k (by omega) (by omega) (by omega)⟩, fun _ => ⟨K1.keep fun k a b => G k (by omega) (by omega) (by omega), MM.keep fun k a b => wu_ne (by omega) rfl, M2.keep fun k a b => G k (by omega) (by omega) (by omega), M3.keep fun k a b => G k (by omega) (by omega) (by omega)⟩, o11.keep fun k a b => G k (by omega) (by omega) (by omega), ⟨(G 71 (by decide) (by decide) (by decide)).trans o12, o13⟩, ⟨_, wu_eq, hE⟩, ⟨_, (wu_ne (by decide) rfl).trans e73, hX⟩, o18.keep fun k a => G k (by omega) (by omega) (by omega)⟩
        · refine r_iconst (v := nI 0) dX7_verify_80 (by decide) ?_
          refine r_ret (r := (some (.int _))) dX7_verify_81 (by decide) (by decide) ?_
          rw [if_neg h73]
          exact ⟨H2, fun k a => (G k (by omega) (by omega) (by omega)).trans (F0' k a), rfl, rfl⟩
        · refine r_iconst (v := nI 1) dX7_verify_76 (by decide) ?_
          refine r_goto (tgt := 81) dX7_verify_77 (by decide) ?_
          refine r_ret (r := (some (.int _))) dX7_verify_81 (by decide) (by decide) ?_
          rw [if_pos h73]
          exact ⟨H2, fun k a => (G k (by omega) (by omega) (by omega)).trans (F0' k a), rfl, rfl⟩
      · omega
    · rw [if_neg hR, if_neg hR]
      first | refine r_if_neN (tgt := 39) dX7_verify_34 (by decide) (by omega) (fun h34 => ?_) (fun h34 => ?_) | refine r_if_ne (tgt := 39) dX7_verify_34 (by decide) (fun h34 => ?_) (fun h34 => ?_)
      · omega
      · refine r_iconst (v := nI 0) dX7_verify_37 (by decide) ?_
        refine r_ret (r := (some (.int _))) dX7_verify_38 (by decide) (by decide) ?_
        exact ⟨H1, F0', rfl, rfl⟩
  · exact absurd hp (mk1_0 h7)
