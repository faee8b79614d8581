/-! SignHouseModel: sign, digest -/
set_option maxRecDepth 100000 in
set_option maxHeartbeats 4000000 in
theorem c_msign {g : ab_G} {N : Nat} {half rounds c bg : Nat} {ω d : Nat → Nat} {σ : hT} {len R sg vf : Nat} {w : ab_W} (h : MH w half rounds c ω bg σ d len R sg vf) (hI : INV half σ) (hp : hF σ = 2) : ab_Ct MX8_sign g [.ref 74] N w (fun r N' w' => MH w' half rounds c ω bg σ d len (sgk (kP σ) (kQ σ) (emn d len half (2 * half))) (sg + 1) vf ∧ (∀ k, k < 74 → w' k = w k) ∧ r = some (.int (nI 1)) ∧ N = N') := by
  obtain ⟨bu, v, m1, m2, m3, m4, m5, m6, m7, m8, m9, m10, m11⟩ := id h
  have hm := mk1_lt (hF σ)
  obtain ⟨p1, p2, p3, p4, p5, p6⟩ := hI.pq hp m9
  have bP := p1.b20 m9 m10
  have bQ := p2.b20 m9 m10
  have hP0 : 0 < kP σ := by omega
  have hQ0 : 0 < kQ σ := by omega
  have hEE : bnR (emn d len half (2 * half)) := b256 (emn_lt d len half (2 * half)) m10
  have g2 : v 2 = kP σ := m7 hp 2 (by decide)
  have g3 : v 3 = kQ σ := m7 hp 3 (by decide)
  have g4 : v 4 = dE (kP σ - 1) := m7 hp 4 (by decide)
  have g5 : v 5 = dE (kQ σ - 1) := m7 hp 5 (by decide)
  have g6 : v 6 = kQ σ ^ (kP σ - 2) % kP σ := m7 hp 6 (by decide)
  have hkv := m7 hp
  have h4b : bnd (dE (kP σ - 1)) := bP.b.le (Nat.le_trans (dE_le _) (Nat.sub_le _ _))
  have h5b : bnd (dE (kQ σ - 1)) := bQ.b.le (Nat.le_trans (dE_le _) (Nat.sub_le _ _))
  have hqi : kQ σ ^ (kP σ - 2) % kP σ < kP σ := Nat.mod_lt _ hP0
  have hP2 := bP.2
  have hQ2 := bQ.2
  generalize eX0 : emn d len half (2 * half) = X at *
  generalize hPP : kP σ = P at *
  generalize hQQ : kQ σ = Q at *
  clear p4 p1 p2 p6
  have hsg : sgk P Q X = ((if X ^ dE (P - 1) % P < X ^ dE (Q - 1) % Q then X ^ dE (P - 1) % P + P - X ^ dE (Q - 1) % Q else X ^ dE (P - 1) % P - X ^ dE (Q - 1) % Q) * (Q ^ (P - 2) % P) % P) * Q + X ^ dE (Q - 1) % Q := by
    unfold sgk sgn
    rw [← Nat.pow_mod, ← Nat.pow_mod]
  have ha : X ^ dE (P - 1) % P < P := Nat.mod_lt _ hP0
  have hb : X ^ dE (Q - 1) % Q < Q := Nat.mod_lt _ hQ0
  generalize eA0 : X ^ dE (P - 1) % P = A at hsg ha
  generalize eB0 : X ^ dE (Q - 1) % Q = B at hsg hb
  generalize hqI : Q ^ (P - 2) % P = qI at hsg hqi g6
  have hBP : B % P = B := Nat.mod_eq_of_lt (by omega)
  have hbA : bnd A := bP.b.le (Nat.le_of_lt ha)
  have hbB : bnd B := bQ.b.le (Nat.le_of_lt hb)
  have hb83 : ∀ x, x < P → bn83 x := fun x q => Nat.lt_trans q bP.b83
  have hbAP : bnd (A + P) := by
    have q1 : A + P < 65536 ^ 20 + 65536 ^ 20 := Nat.add_lt_add (Nat.lt_trans ha bP.2) bP.2
    exact Nat.lt_trans q1 (by decide)
  -- from the comparing on
  have KT : ∀ D v3 w3, D < P → w3 74 = mdO half rounds len c bg (mk1 (hF σ)) (mkp (hF σ)) (hX σ) (hU σ) (hP σ / 32) (hP σ % 32) (sg + 1) vf len → w3 75 = xA v3 → MB w3 → (∀ k, k ≠ 75 → (k < 74 ∨ 78 < k) → w3 k = w k) → v3 15 = D → v3 16 = B → v3 6 = qI → v3 2 = P → v3 3 = Q → (∀ k, k < 7 → v3 k = v k) → sgk P Q X = D * qI % P * Q + B → ab_St MX8_sign g 0 0 97 [(0, .ref 74)] [] N w3 (fun r N' w' => MH w' half rounds c ω bg σ d len (sgk P Q X) (sg + 1) vf ∧ (∀ k, k < 74 → w' k = w k) ∧ r = some (.int (nI 1)) ∧ N = N') := by
    intro D v3 w3 hD f74 f75 fB fF e15 e16 e6 e2 e3 ek hs
    have hDq : D * qI % P < P := Nat.mod_lt _ hP0
    have hSn : D * qI % P * Q + B < P * Q := by
      have q1 : (D * qI % P + 1) * Q ≤ P * Q := Nat.mul_le_mul_right Q hDq
      rw [Nat.add_mul, Nat.one_mul] at q1
      omega
    have hSb : bnd (D * qI % P * Q + B) := (c_mk1 bP bQ).2.1.b.le (Nat.le_of_lt hSn)
    refine r_aload_n dX8_sign_97 rfl ?_
    refine r_bipush (v := nI 11) dX8_sign_98 (by decide) ?_
    refine r_bipush (v := nI 6) dX8_sign_100 (by decide) ?_
    refine r_bipush (v := nI 15) dX8_sign_102 (by decide) ?_
    refine r_invV dX8_sign_104 kX8_148 (c_times6 (t := 11) (a := 6) (b := 15) (n := 20) (m := 20) (v := v3) f74 f75 (by decide) (by decide) (by decide) (by decide) (by decide) (by rw [e6]; exact Nat.lt_trans hqi hP2) (by rw [e15]; exact Nat.lt_trans hD hP2) (by decide)) rfl rfl (by repeat first | exact wu_eq | assumption | (apply wu_ne; first | omega | assumption | (apply Ne.symm; assumption))) rfl rfl ⟨by decide, by decide⟩ (Nat.le_of_ble_eq_true rfl) ⟨by decide, by decide⟩ ⟨rfl, rfl⟩ ?_
    rintro _ _ _ ⟨rfl, rfl, rfl⟩
    rw [e6, e15, Nat.mul_comm qI D]
    have a11 : us v3 11 (D * qI) 11 = D * qI := us_eq
    have aK : ∀ k, k ≠ 11 → us v3 11 (D * qI) k = v3 k := fun k a => us_ne a
    have hpr : bn83 (D * qI) := Nat.lt_trans (Nat.mul_lt_mul'' (Nat.lt_trans hD hP2) (Nat.lt_trans hqi hP2)) (by rw [← Nat.pow_add]; exact Nat.pow_lt_pow_right (by decide) (by decide))
    generalize us v3 11 (D * qI) = v4 at a11 aK ⊢
    have b2 := (aK 2 (by decide)).trans e2
    refine r_aload_n dX8_sign_107 rfl ?_
    refine r_bipush (v := nI 11) dX8_sign_108 (by decide) ?_
    refine r_iconst (v := nI 2) dX8_sign_110 (by decide) ?_
    refine r_invV dX8_sign_111 kX8_142 (c_leaves (s := 11) (m := 2) (v := v4) (wu_ne (by decide) f74) wu_eq (by decide) (by decide) (by decide) (by decide) (by decide) (by rw [b2]; exact bP.1) (by rw [b2]; exact bP.b40.2) (by rw [a11]; exact hpr)) rfl rfl (by repeat first | exact wu_eq | assumption | (apply wu_ne; first | omega | assumption | (apply Ne.symm; assumption))) rfl rfl ⟨by decide, by decide⟩ (Nat.le_of_ble_eq_true rfl) ⟨by decide, by decide⟩ ⟨rfl, rfl⟩ ?_
    rintro _ _ _ ⟨⟨v5, rfl, c11, cK⟩, rfl, rfl⟩
    rw [wu_wu]
    rw [a11, b2] at c11
    refine r_aload_n dX8_sign_114 rfl ?_
    refine r_bipush (v := nI 15) dX8_sign_115 (by decide) ?_
    refine r_bipush (v := nI 11) dX8_sign_117 (by decide) ?_
    refine r_invV dX8_sign_119 kX8_139 (c_mcopy (t := 15) (s := 11) (v := v5) (wu_ne (by decide) f74) wu_eq (by decide) (by decide) (by decide)) rfl rfl (by repeat first | exact wu_eq | assumption | (apply wu_ne; first | omega | assumption | (apply Ne.symm; assumption))) rfl rfl ⟨by decide, by decide⟩ (Nat.le_of_ble_eq_true rfl) ⟨by decide, by decide⟩ ⟨rfl, rfl⟩ ?_
    rintro _ _ _ ⟨rfl, rfl, rfl⟩
    rw [wu_wu, c11]
    have d15 : us v5 15 (D * qI % P) 15 = D * qI % P := us_eq
    have dK : ∀ k, k ≠ 15 → k ≠ 11 → k ≠ 12 → us v5 15 (D * qI % P) k = v3 k := fun k a1 a2 a3 => (us_ne a1).trans ((cK k a2 a3).trans (aK k a2))
    generalize us v5 15 (D * qI % P) = v6 at d15 dK ⊢
    have d3 := (dK 3 (by decide) (by decide) (by decide)).trans e3
    have d16 := (dK 16 (by decide) (by decide) (by decide)).trans e16
    refine r_aload_n dX8_sign_122 rfl ?_
    refine r_bipush (v := nI 11) dX8_sign_123 (by decide) ?_
    refine r_bipush (v := nI 15) dX8_sign_125 (by decide) ?_
    refine r_iconst (v := nI 3) dX8_sign_127 (by decide) ?_
    refine r_invV dX8_sign_128 kX8_148 (c_times6 (t := 11) (a := 15) (b := 3) (n := 20) (m := 20) (v := v6) (wu_ne (by decide) f74) wu_eq (by decide) (by decide) (by decide) (by decide) (by decide) (by rw [d15]; exact Nat.lt_trans hDq hP2) (by rw [d3]; exact hQ2) (by decide)) rfl rfl (by repeat first | exact wu_eq | assumption | (apply wu_ne; first | omega | assumption | (apply Ne.symm; assumption))) rfl rfl ⟨by decide, by decide⟩ (Nat.le_of_ble_eq_true rfl) ⟨by decide, by decide⟩ ⟨rfl, rfl⟩ ?_
    rintro _ _ _ ⟨rfl, rfl, rfl⟩
    rw [wu_wu, d15, d3]
    refine r_aload_n dX8_sign_131 rfl ?_
    refine r_bipush (v := nI 11) dX8_sign_132 (by decide) ?_
    refine r_bipush (v := nI 16) dX8_sign_134 (by decide) ?_
    refine r_invV dX8_sign_136 kX8_286 (c_adds (a := 11) (b := 16) (v := us v6 11 (D * qI % P * Q)) (wu_ne (by decide) f74) wu_eq (by decide) (by decide) (by decide) (by rw [us_eq, us_ne (by decide), d16]; exact hSb)) rfl rfl (by repeat first | exact wu_eq | assumption | (apply wu_ne; first | omega | assumption | (apply Ne.symm; assumption))) rfl rfl ⟨by decide, by decide⟩ (Nat.le_of_ble_eq_true rfl) ⟨by decide, by decide⟩ ⟨rfl, rfl⟩ ?_
    rintro _ _ _ ⟨rfl, rfl, rfl⟩
    rw [wu_wu, us_eq, us_us, us_ne (by decide : (16 : Nat) ≠ 11), d16]
    refine r_aload_n dX8_sign_139 rfl ?_
    refine r_bipush (v := nI 7) dX8_sign_140 (by decide) ?_
    refine r_bipush (v := nI 11) dX8_sign_142 (by decide) ?_
    refine r_invV dX8_sign_144 kX8_139 (c_mcopy (t := 7) (s := 11) (v := us v6 11 (D * qI % P * Q + B)) (wu_ne (by decide) f74) wu_eq (by decide) (by decide) (by decide)) rfl rfl (by repeat first | exact wu_eq | assumption | (apply wu_ne; first | omega | assumption | (apply Ne.symm; assumption))) rfl rfl ⟨by decide, by decide⟩ (Nat.le_of_ble_eq_true rfl) ⟨by decide, by decide⟩ ⟨rfl, rfl⟩ ?_
    rintro _ _ _ ⟨rfl, rfl, rfl⟩
    rw [wu_wu, us_eq]
    refine r_iconst (v := nI 1) dX8_sign_147 (by decide) ?_
    refine r_ret (r := (some (.int _))) dX8_sign_148 (by decide) (by decide) ?_
    refine ⟨⟨len, _, wu_ne (by decide) f74, wu_eq, fB.keep fun k a b => wu_ne (by omega) rfl, m4.keep fun k a b => (wu_ne (by omega) rfl).trans (fF k (by omega) (by omega)), us_eq.trans hs.symm, fun q => absurd (hp.symm.trans q) (by decide), fun q k hk => ?_, m8, m9, m10, m11⟩, fun k a => (wu_ne (by omega) rfl).trans (fF k (by omega) (by omega)), rfl, rfl⟩
    rw [hPP, hQQ]
    exact (us_ne (by omega)).trans ((us_ne (by omega)).trans ((dK k (by omega) (by omega) (by omega)).trans ((ek k hk).trans (hkv k hk))))
  refine ab_Ct.of (by decide +kernel) (Nat.le_of_ble_eq_true rfl) (by rintro _ _ _ ⟨-, -, rfl, -⟩; trivial) ?_
  show ab_St MX8_sign g 0 0 0 [(0, .ref 74)] [] _ _ _
  refine r_aload_n dX8_sign_0 rfl ?_
  refine r_getf dX8_sign_1 fX8_237 (by repeat first | exact wu_eq | assumption | (apply wu_ne; first | omega | assumption | (apply Ne.symm; assumption))) (by rfl) ?_
  first | refine r_if_neN (tgt := 10) dX8_sign_4 (by decide) (by omega) (fun h4 => ?_) (fun h4 => ?_) | refine r_if_ne (tgt := 10) dX8_sign_4 (by decide) (fun h4 => ?_) (fun h4 => ?_)
  · refine r_aload_n dX8_sign_10 rfl ?_
    refine r_dup dX8_sign_11 rfl ?_
    refine r_getf dX8_sign_12 fX8_274 (by repeat first | exact wu_eq | assumption | (apply wu_ne; first | omega | assumption | (apply Ne.symm; assumption))) (by rfl) ?_
    refine r_iconst (v := nI 1) dX8_sign_15 (by decide) ?_
    first | refine r_iaddN dX8_sign_16 ?_ | refine r_iadd dX8_sign_16 ?_
    refine r_putf dX8_sign_17 fX8_274 (by repeat first | exact wu_eq | assumption | (apply wu_ne; first | omega | assumption | (apply Ne.symm; assumption))) rfl (by exact Nat.le_of_ble_eq_true rfl) (by rfl) (by rfl) ?_
    refine r_toW (w' := wu w 74 (mdO half rounds bu c bg (mk1 (hF σ)) (mkp (hF σ)) (hX σ) (hU σ) (hP σ / 32) (hP σ % 32) (sg + 1) vf len)) rfl ?_
    have f74 : (wu w 74 (mdO half rounds bu c bg (mk1 (hF σ)) (mkp (hF σ)) (hX σ) (hU σ) (hP σ / 32) (hP σ % 32) (sg + 1) vf len)) 74 = mdO half rounds bu c bg (mk1 (hF σ)) (mkp (hF σ)) (hX σ) (hU σ) (hP σ / 32) (hP σ % 32) (sg + 1) vf len := wu_eq
    have fF : ∀ k, k ≠ 74 → (wu w 74 (mdO half rounds bu c bg (mk1 (hF σ)) (mkp (hF σ)) (hX σ) (hU σ) (hP σ / 32) (hP σ % 32) (sg + 1) vf len)) k = w k := fun k a => wu_ne a rfl
    generalize wu w 74 (mdO half rounds bu c bg (mk1 (hF σ)) (mkp (hF σ)) (hX σ) (hU σ) (hP σ / 32) (hP σ % 32) (sg + 1) vf len) = w0 at f74 fF ⊢
    have f75 := (fF 75 (by decide)).trans m2
    have fB : MB w0 := m3.keep fun k a b => fF k (by omega)
    have fE : ME w0 c ω d := m4.keep fun k a b => fF k (by omega)
    refine r_aload_n dX8_sign_20 rfl ?_
    refine r_invV dX8_sign_21 kX8_283 (c_encodes (v := v) f74 f75 fB fE m8 m9 m10) rfl rfl (by repeat first | exact wu_eq | assumption | (apply wu_ne; first | omega | assumption | (apply Ne.symm; assumption))) rfl rfl ⟨by decide, by decide⟩ (Nat.le_of_ble_eq_true rfl) ⟨by decide, by decide⟩ ⟨rfl, rfl⟩ ?_
    rintro _ _ w1 ⟨e74, e75, eB, eF, rfl, rfl⟩
    rw [eX0] at e75
    have E : ∀ k, k ≠ 75 → (k < 74 ∨ 78 < k) → w1 k = w k := fun k a b => (eF k (by omega) a (by omega)).trans (fF k (by omega))
    have a18 : us v 18 X 18 = X := us_eq
    have aK : ∀ k, k ≠ 18 → us v 18 X k = v k := fun k a => us_ne a
    generalize us v 18 X = v1 at e75 a18 aK
    have a2 := (aK 2 (by decide)).trans g2
    have a3 := (aK 3 (by decide)).trans g3
    have a5 := (aK 5 (by decide)).trans g5
    refine r_aload_n dX8_sign_24 rfl ?_
    refine r_bipush (v := nI 18) dX8_sign_25 (by decide) ?_
    refine r_iconst (v := nI 5) dX8_sign_27 (by decide) ?_
    refine r_iconst (v := nI 3) dX8_sign_28 (by decide) ?_
    refine r_invV dX8_sign_29 kX8_194 (c_powers (b := 18) (e := 5) (m := 3) (v := v1) e74 e75 (by decide) (by decide) (by decide) (by decide) (by decide) (by decide) (by rw [a3]; exact bQ.b40) (by rw [a18]; exact hEE.b83) (by rw [a5]; exact h5b)) rfl rfl (by repeat first | exact wu_eq | assumption | (apply wu_ne; first | omega | assumption | (apply Ne.symm; assumption))) rfl rfl ⟨by decide, by decide⟩ (Nat.le_of_ble_eq_true rfl) ⟨by decide, by decide⟩ ⟨rfl, rfl⟩ ?_
    rintro _ _ _ ⟨⟨v2, rfl, b10, bK⟩, rfl, rfl⟩
    rw [a18, a5, a3, eB0] at b10
    refine r_aload_n dX8_sign_32 rfl ?_
    refine r_bipush (v := nI 16) dX8_sign_33 (by decide) ?_
    refine r_bipush (v := nI 10) dX8_sign_35 (by decide) ?_
    refine r_invV dX8_sign_37 kX8_139 (c_mcopy (t := 16) (s := 10) (v := v2) (wu_ne (by decide) e74) wu_eq (by decide) (by decide) (by decide)) rfl rfl (by repeat first | exact wu_eq | assumption | (apply wu_ne; first | omega | assumption | (apply Ne.symm; assumption))) rfl rfl ⟨by decide, by decide⟩ (Nat.le_of_ble_eq_true rfl) ⟨by decide, by decide⟩ ⟨rfl, rfl⟩ ?_
    rintro _ _ _ ⟨rfl, rfl, rfl⟩
    rw [wu_wu, b10]
    have c16 : us v2 16 B 16 = B := us_eq
    have cK : ∀ k, k ≠ 16 → (k < 9 ∨ 12 < k) → us v2 16 B k = v1 k := fun k a b => (us_ne a).trans (bK k b)
    generalize us v2 16 B = v3 at c16 cK ⊢
    have c2 := (cK 2 (by decide) (by decide)).trans a2
    have c4 := (cK 4 (by decide) (by decide)).trans ((aK 4 (by decide)).trans g4)
    have c18 := (cK 18 (by decide) (by decide)).trans a18
    refine r_aload_n dX8_sign_40 rfl ?_
    refine r_bipush (v := nI 18) dX8_sign_41 (by decide) ?_
    refine r_iconst (v := nI 4) dX8_sign_43 (by decide) ?_
    refine r_iconst (v := nI 2) dX8_sign_44 (by decide) ?_
    refine r_invV dX8_sign_45 kX8_194 (c_powers (b := 18) (e := 4) (m := 2) (v := v3) (wu_ne (by decide) e74) wu_eq (by decide) (by decide) (by decide) (by decide) (by decide) (by decide) (by rw [c2]; exact bP.b40) (by rw [c18]; exact hEE.b83) (by rw [c4]; exact h4b)) rfl rfl (by repeat first | exact wu_eq | assumption | (apply wu_ne; first | omega | assumption | (apply Ne.symm; assumption))) rfl rfl ⟨by decide, by decide⟩ (Nat.le_of_ble_eq_true rfl) ⟨by decide, by decide⟩ ⟨rfl, rfl⟩ ?_
    rintro _ _ _ ⟨⟨v4, rfl, d10, dK⟩, rfl, rfl⟩
    rw [wu_wu]
    rw [c18, c4, c2, eA0] at d10
    refine r_aload_n dX8_sign_48 rfl ?_
    refine r_bipush (v := nI 15) dX8_sign_49 (by decide) ?_
    refine r_bipush (v := nI 10) dX8_sign_51 (by decide) ?_
    refine r_invV dX8_sign_53 kX8_139 (c_mcopy (t := 15) (s := 10) (v := v4) (wu_ne (by decide) e74) wu_eq (by decide) (by decide) (by decide)) rfl rfl (by repeat first | exact wu_eq | assumption | (apply wu_ne; first | omega | assumption | (apply Ne.symm; assumption))) rfl rfl ⟨by decide, by decide⟩ (Nat.le_of_ble_eq_true rfl) ⟨by decide, by decide⟩ ⟨rfl, rfl⟩ ?_
    rintro _ _ _ ⟨rfl, rfl, rfl⟩
    rw [wu_wu, d10]
    have x16 : us v4 15 A 16 = B := (us_ne (by decide)).trans ((dK 16 (by decide)).trans c16)
    refine r_aload_n dX8_sign_56 rfl ?_
    refine r_bipush (v := nI 13) dX8_sign_57 (by decide) ?_
    refine r_bipush (v := nI 16) dX8_sign_59 (by decide) ?_
    refine r_invV dX8_sign_61 kX8_139 (c_mcopy (t := 13) (s := 16) (v := us v4 15 A) (wu_ne (by decide) e74) wu_eq (by decide) (by decide) (by decide)) rfl rfl (by repeat first | exact wu_eq | assumption | (apply wu_ne; first | omega | assumption | (apply Ne.symm; assumption))) rfl rfl ⟨by decide, by decide⟩ (Nat.le_of_ble_eq_true rfl) ⟨by decide, by decide⟩ ⟨rfl, rfl⟩ ?_
    rintro _ _ _ ⟨rfl, rfl, rfl⟩
    rw [wu_wu, x16]
    have y13 : us (us v4 15 A) 13 B 13 = B := us_eq
    have y15 : us (us v4 15 A) 13 B 15 = A := (us_ne (by decide)).trans us_eq
    have y16 : us (us v4 15 A) 13 B 16 = B := (us_ne (by decide)).trans x16
    have yK : ∀ k, k < 7 → us (us v4 15 A) 13 B k = v k := fun k a => (us_ne (by omega)).trans ((us_ne (by omega)).trans ((dK k (by omega)).trans ((cK k (by omega) (by omega)).trans (aK k (by omega)))))
    generalize us (us v4 15 A) 13 B = v5 at y13 y15 y16 yK ⊢
    have y2 := (yK 2 (by decide)).trans g2
    refine r_aload_n dX8_sign_64 rfl ?_
    refine r_bipush (v := nI 13) dX8_sign_65 (by decide) ?_
    refine r_iconst (v := nI 2) dX8_sign_67 (by decide) ?_
    refine r_invV dX8_sign_68 kX8_142 (c_leaves (s := 13) (m := 2) (v := v5) (wu_ne (by decide) e74) wu_eq (by decide) (by decide) (by decide) (by decide) (by decide) (by rw [y2]; exact bP.1) (by rw [y2]; exact bP.b40.2) (by rw [y13]; exact hb83 B (by omega))) rfl rfl (by repeat first | exact wu_eq | assumption | (apply wu_ne; first | omega | assumption | (apply Ne.symm; assumption))) rfl rfl ⟨by decide, by decide⟩ (Nat.le_of_ble_eq_true rfl) ⟨by decide, by decide⟩ ⟨rfl, rfl⟩ ?_
    rintro _ _ _ ⟨⟨v6, rfl, z13, zK⟩, rfl, rfl⟩
    rw [wu_wu]
    rw [y13, y2, hBP] at z13
    have z15 := (zK 15 (by decide) (by decide)).trans y15
    have z16 := (zK 16 (by decide) (by decide)).trans y16
    have zk : ∀ k, k < 7 → v6 k = v k := fun k a => (zK k (by omega) (by omega)).trans (yK k a)
    have z2 := (zk 2 (by decide)).trans g2
    have z3 := (zk 3 (by decide)).trans g3
    have z6 := (zk 6 (by decide)).trans g6
    refine r_aload_n dX8_sign_71 rfl ?_
    refine r_bipush (v := nI 15) dX8_sign_72 (by decide) ?_
    refine r_bipush (v := nI 13) dX8_sign_74 (by decide) ?_
    refine r_invV dX8_sign_76 kX8_200 (c_compare (a := 15) (b := 13) (v := v6) (wu_ne (by decide) e74) wu_eq (by decide) (by decide) (by rw [z15]; exact hbA) (by rw [z13]; exact hbB)) rfl rfl (by repeat first | exact wu_eq | assumption | (apply wu_ne; first | omega | assumption | (apply Ne.symm; assumption))) rfl rfl ⟨by decide, by decide⟩ (Nat.le_of_ble_eq_true rfl) ⟨by decide, by decide⟩ ⟨rfl, rfl⟩ ?_
    rintro _ _ _ ⟨rfl, rfl, rfl⟩
    refine r_if_ge (tgt := 89) dX8_sign_79 (by decide) (fun h79 => ?_) (fun h79 => ?_)
    all_goals rw [cmp_ge, z15, z13] at h79
    · rw [if_neg (by omega)] at hsg
      refine r_aload_n dX8_sign_89 rfl ?_
      refine r_bipush (v := nI 15) dX8_sign_90 (by decide) ?_
      refine r_bipush (v := nI 13) dX8_sign_92 (by decide) ?_
      refine r_invV dX8_sign_94 kX8_289 (c_takes (a := 15) (b := 13) (v := v6) (wu_ne (by decide) e74) wu_eq (by decide) (by decide) (by decide) (by rw [z15]; exact hbA) (by rw [z15, z13]; exact h79)) rfl rfl (by repeat first | exact wu_eq | assumption | (apply wu_ne; first | omega | assumption | (apply Ne.symm; assumption))) rfl rfl ⟨by decide, by decide⟩ (Nat.le_of_ble_eq_true rfl) ⟨by decide, by decide⟩ ⟨rfl, rfl⟩ ?_
      rintro _ _ _ ⟨rfl, rfl, rfl⟩
      rw [wu_wu, z15, z13]
      exact KT (A - B) _ _ (by omega) (wu_ne (by decide) e74) wu_eq (eB.keep fun k a b => wu_ne (by omega) rfl) (fun k a b => (wu_ne a rfl).trans (E k a b)) us_eq ((us_ne (by decide)).trans z16) ((us_ne (by decide)).trans z6) ((us_ne (by decide)).trans z2) ((us_ne (by decide)).trans z3) (fun k a => (us_ne (by omega)).trans (zk k a)) hsg
    · rw [if_pos (by omega)] at hsg
      refine r_aload_n dX8_sign_82 rfl ?_
      refine r_bipush (v := nI 15) dX8_sign_83 (by decide) ?_
      refine r_iconst (v := nI 2) dX8_sign_85 (by decide) ?_
      refine r_invV dX8_sign_86 kX8_286 (c_adds (a := 15) (b := 2) (v := v6) (wu_ne (by decide) e74) wu_eq (by decide) (by decide) (by decide) (by rw [z15, z2]; exact hbAP)) rfl rfl (by repeat first | exact wu_eq | assumption | (apply wu_ne; first | omega | assumption | (apply Ne.symm; assumption))) rfl rfl ⟨by decide, by decide⟩ (Nat.le_of_ble_eq_true rfl) ⟨by decide, by decide⟩ ⟨rfl, rfl⟩ ?_
      rintro _ _ _ ⟨rfl, rfl, rfl⟩
      rw [wu_wu, z15, z2]
      have s13 : us v6 15 (A + P) 13 = B := (us_ne (by decide)).trans z13
      refine r_aload_n dX8_sign_89 rfl ?_
      refine r_bipush (v := nI 15) dX8_sign_90 (by decide) ?_
      refine r_bipush (v := nI 13) dX8_sign_92 (by decide) ?_
      refine r_invV dX8_sign_94 kX8_289 (c_takes (a := 15) (b := 13) (v := us v6 15 (A + P)) (wu_ne (by decide) e74) wu_eq (by decide) (by decide) (by decide) (by rw [us_eq]; exact hbAP) (by rw [us_eq, s13]; omega)) rfl rfl (by repeat first | exact wu_eq | assumption | (apply wu_ne; first | omega | assumption | (apply Ne.symm; assumption))) rfl rfl ⟨by decide, by decide⟩ (Nat.le_of_ble_eq_true rfl) ⟨by decide, by decide⟩ ⟨rfl, rfl⟩ ?_
      rintro _ _ _ ⟨rfl, rfl, rfl⟩
      rw [wu_wu, us_eq, s13, us_us]
      exact KT (A + P - B) _ _ (by omega) (wu_ne (by decide) e74) wu_eq (eB.keep fun k a b => wu_ne (by omega) rfl) (fun k a b => (wu_ne a rfl).trans (E k a b)) us_eq ((us_ne (by decide)).trans z16) ((us_ne (by decide)).trans z6) ((us_ne (by decide)).trans z2) ((us_ne (by decide)).trans z3) (fun k a => (us_ne (by omega)).trans (zk k a)) hsg
  · exact absurd hp (mk1_0 h4)
set_option maxRecDepth 100000 in
set_option maxHeartbeats 4000000 in
theorem c_mixed {g : ab_G} {N H s z : Nat} {v : Nat → Nat} {fs : List Value} {w : ab_W} (h : w 74 = mdX fs) (hx : w 75 = xA v) (hs : s < 19) (hz : z ≤ 168) : ab_Ct MX8_mixed g [.ref 74, .long (lN H), .int (nI s), .int (nI z)] N w (rp (some (.long (lN (mx (v s) z z H)))) N w) := by
  have K : ∀ k i, i + k = z → ab_St MX8_mixed g 0 0 6 [(7, .int (nI i)), (5, .long (lN (mx (v s) z i H))), (0, .ref 74), (3, .int (nI s)), (4, .int (nI z))] [] N w (rp (some (.long (lN (mx (v s) z z H)))) N w) := by
    intro k
    induction k with
    | zero =>
      intro i hi
      obtain rfl : i = z := by omega
      refine r_iload dX8_mixed_6 rfl ?_
      refine r_iload dX8_mixed_8 rfl ?_
      first | refine r_icmp_geN (tgt := 38) dX8_mixed_10 (by decide) (by omega) (by omega) (fun h10 => ?_) (fun h10 => ?_) | refine r_icmp_ge (tgt := 38) dX8_mixed_10 (by decide) (fun h10 => ?_) (fun h10 => ?_)
      · refine r_lload dX8_mixed_38 rfl ?_
        refine r_ret (r := (some (.long _))) dX8_mixed_40 (by decide) (by decide) ?_
        exact ⟨rfl, rfl, rfl⟩
      · omega
    | succ k ih =>
      intro i hi
      refine r_iload dX8_mixed_6 rfl ?_
      refine r_iload dX8_mixed_8 rfl ?_
      first | refine r_icmp_geN (tgt := 38) dX8_mixed_10 (by decide) (by omega) (by omega) (fun h10 => ?_) (fun h10 => ?_) | refine r_icmp_ge (tgt := 38) dX8_mixed_10 (by decide) (fun h10 => ?_) (fun h10 => ?_)
      · omega
      · refine r_ldc2 dX8_mixed_13 qX8_295 ?_
        refine r_toJ (y := lN 31) rfl ?_
        refine r_lload dX8_mixed_16 rfl ?_
        first | refine r_lmulN dX8_mixed_18 ?_ | refine r_lmul dX8_mixed_18 ?_
        refine r_aload_n dX8_mixed_19 rfl ?_
        refine r_iload_n dX8_mixed_20 rfl ?_
        refine r_iload dX8_mixed_21 rfl ?_
        refine r_iload dX8_mixed_23 rfl ?_
        have hd := dg_lt' (b := 256) (by decide) (v s) (z - 1 - i)
        refine r_invV dX8_mixed_25 kX8_267 (c_mbyteAt (s := s) (z := z) (i := i) (v := v) h hx hs (by omega) hz) rfl rfl (by repeat first | exact wu_eq | assumption | (apply wu_ne; first | omega | assumption | (apply Ne.symm; assumption))) rfl rfl ⟨by decide, by decide⟩ (Nat.le_of_ble_eq_true rfl) ⟨by decide, by decide⟩ ⟨rfl, rfl⟩ ?_
        rintro _ _ _ ⟨rfl, rfl, rfl⟩
        first | refine r_i2lN dX8_mixed_28 (by omega) ?_ | refine r_i2l dX8_mixed_28 ?_
        first | refine r_laddN dX8_mixed_29 ?_ | refine r_ladd dX8_mixed_29 ?_
        refine r_lstore (i := 5) (L0 := [(7, _), (0, _), (3, _), (4, _)]) dX8_mixed_30 (by decide) rfl ?_
        refine r_iinc (L0 := [(5, _), (0, _), (3, _), (4, _)]) dX8_mixed_32 rfl (by first | exact iinc1 _ | rfl) (by decide) rfl ?_
        refine r_goto (tgt := 6) dX8_mixed_35 (by decide) ?_
        refine r_sub [0, 1, 2, 3, 4] rfl ?_
        exact ih (i + 1) (by omega)
  refine ab_Ct.of (by decide +kernel) (Nat.le_of_ble_eq_true rfl) (by rintro _ _ _ ⟨rfl, rfl, rfl⟩; trivial) ?_
  show ab_St MX8_mixed g 0 0 0 [(0, .ref 74), (1, .long (lN H)), (3, .int (nI s)), (4, .int (nI z))] [] _ _ _
  refine r_lload_n dX8_mixed_0 rfl ?_
  refine r_lstore (i := 5) (L0 := [(0, _), (1, _), (3, _), (4, _)]) dX8_mixed_1 (by decide) rfl ?_
  refine r_iconst (v := nI 0) dX8_mixed_3 (by decide) ?_
  refine r_istore (i := 7) (L0 := [(5, _), (0, _), (1, _), (3, _), (4, _)]) dX8_mixed_4 (by decide) rfl ?_
  refine r_sub [0, 1, 2, 4, 5] rfl ?_
  exact K z 0 (by omega)
set_option maxRecDepth 100000 in
set_option maxHeartbeats 4000000 in
theorem c_mdigest {g : ab_G} {N : Nat} {half rounds c bg : Nat} {ω d : Nat → Nat} {σ : hT} {len R sg vf : Nat} {w : ab_W} (h : MH w half rounds c ω bg σ d len R sg vf) : ab_Ct MX8_digest g [.ref 74] N w (rp (some (.long (dgs half rounds c σ len R sg vf))) N w) := by
  obtain ⟨bu, v, m1, m2, m3, m4, m5, m6, m7, m8, m9, m10, m11⟩ := id h
  have hm := mk1_lt (hF σ)
  have K3 : ∀ X z j, j + z = 6 → ab_St MX8_digest g 0 0 51 [(3, .int (nI (2 + j))), (1, .long (dct (cnt half rounds c (hX σ) (hU σ) len sg vf) j X)), (0, .ref 74)] [] N w (rp (some (.long (dct (cnt half rounds c (hX σ) (hU σ) len sg vf) 6 X))) N w) := by
    intro X z
    induction z with
    | zero =>
      intro j hj
      obtain rfl : j = 6 := by omega
      refine r_iload_n dX8_digest_51 rfl ?_
      refine r_bipush (v := nI 8) dX8_digest_52 (by decide) ?_
      first | refine r_icmp_geN (tgt := 76) dX8_digest_54 (by decide) (by omega) (by omega) (fun h54 => ?_) (fun h54 => ?_) | refine r_icmp_ge (tgt := 76) dX8_digest_54 (by decide) (fun h54 => ?_) (fun h54 => ?_)
      · refine r_lload_n dX8_digest_76 rfl ?_
        refine r_ret (r := (some (.long _))) dX8_digest_77 (by decide) (by decide) ?_
        exact ⟨rfl, rfl, rfl⟩
      · omega
    | succ z ih =>
      intro j hj
      refine r_iload_n dX8_digest_51 rfl ?_
      refine r_bipush (v := nI 8) dX8_digest_52 (by decide) ?_
      first | refine r_icmp_geN (tgt := 76) dX8_digest_54 (by decide) (by omega) (by omega) (fun h54 => ?_) (fun h54 => ?_) | refine r_icmp_ge (tgt := 76) dX8_digest_54 (by decide) (fun h54 => ?_) (fun h54 => ?_)
      · omega
      · refine r_ldc2 dX8_digest_57 qX8_295 ?_
        refine r_toJ (y := lN 31) rfl ?_
        refine r_lload_n dX8_digest_60 rfl ?_
        refine r_lmul dX8_digest_61 ?_
        refine r_aload_n dX8_digest_62 rfl ?_
        refine r_iload_n dX8_digest_63 rfl ?_
        refine r_invV dX8_digest_64 kX8_303 (c_mcount (k := 2 + j) h (by omega)) rfl rfl (by repeat first | exact wu_eq | assumption | (apply wu_ne; first | omega | assumption | (apply Ne.symm; assumption))) rfl rfl ⟨by decide, by decide⟩ (Nat.le_of_ble_eq_true rfl) ⟨by decide, by decide⟩ ⟨rfl, rfl⟩ ?_
        rintro _ _ _ ⟨rfl, rfl, rfl⟩
        refine r_toI (y := nI (cnt half rounds c (hX σ) (hU σ) len sg vf (2 + j))) rfl ?_
        refine r_i2l dX8_digest_67 ?_
        refine r_ladd dX8_digest_68 ?_
        refine r_lstore_n (i := 1) (L0 := [(3, _), (0, _)]) dX8_digest_69 rfl (by decide) rfl ?_
        refine r_iinc (L0 := [(1, _), (0, _)]) dX8_digest_70 rfl (by first | exact iinc1 _ | rfl) (by decide) rfl ?_
        refine r_goto (tgt := 51) dX8_digest_73 (by decide) ?_
        rw [show 2 + j + 1 = 2 + (j + 1) by omega]
        refine r_sub [0, 1, 2] rfl ?_
        exact ih (j + 1) (by omega)
  have K2 : hF σ = 2 → ∀ z k, k + z = 7 → ab_St MX8_digest g 0 0 18 [(3, .int (nI k)), (1, .long (lN (mxk (kP σ) (kQ σ) half k (mx R (2 * half) (2 * half) 37)))), (0, .ref 74)] [] N w (rp (some (.long (dgs half rounds c σ len R sg vf))) N w) := by
    intro hp z
    have hmk : mk1 (hF σ) = 1 := by unfold mk1; rw [if_pos hp]
    induction z with
    | zero =>
      intro k hk
      obtain rfl : k = 7 := by omega
      refine r_iload_n dX8_digest_18 rfl ?_
      refine r_bipush (v := nI 6) dX8_digest_19 (by decide) ?_
      first | refine r_icmp_gtN (tgt := 49) dX8_digest_21 (by decide) (by omega) (by omega) (fun h21 => ?_) (fun h21 => ?_) | refine r_icmp_gt (tgt := 49) dX8_digest_21 (by decide) (fun h21 => ?_) (fun h21 => ?_)
      · refine r_iconst (v := nI 2) dX8_digest_49 (by decide) ?_
        refine r_istore_n (i := 3) (L0 := [(1, _), (0, _)]) dX8_digest_50 rfl (by decide) rfl ?_
        unfold dgs
        rw [if_pos hp]
        refine r_sub [0, 1, 2] rfl ?_
        exact K3 _ 6 0 (by omega)
      · omega
    | succ z ih =>
      intro k hk
      have hkw : kw half k ≤ 80 := by unfold kw; split <;> omega
      refine r_iload_n dX8_digest_18 rfl ?_
      refine r_bipush (v := nI 6) dX8_digest_19 (by decide) ?_
      first | refine r_icmp_gtN (tgt := 49) dX8_digest_21 (by decide) (by omega) (by omega) (fun h21 => ?_) (fun h21 => ?_) | refine r_icmp_gt (tgt := 49) dX8_digest_21 (by decide) (fun h21 => ?_) (fun h21 => ?_)
      · omega
      · refine r_aload_n dX8_digest_24 rfl ?_
        refine r_getf dX8_digest_25 fX8_237 (by repeat first | exact wu_eq | assumption | (apply wu_ne; first | omega | assumption | (apply Ne.symm; assumption))) (by rfl) ?_
        first | refine r_if_eqN (tgt := 49) dX8_digest_28 (by decide) (by omega) (fun h28 => ?_) (fun h28 => ?_) | refine r_if_eq (tgt := 49) dX8_digest_28 (by decide) (fun h28 => ?_) (fun h28 => ?_)
        · omega
        · refine r_aload_n dX8_digest_31 rfl ?_
          refine r_lload_n dX8_digest_32 rfl ?_
          refine r_iload_n dX8_digest_33 rfl ?_
          refine r_aload_n dX8_digest_34 rfl ?_
          refine r_iload_n dX8_digest_35 rfl ?_
          refine r_invV dX8_digest_36 kX8_264 (c_sizeOf (k := k) h (by omega)) rfl rfl (by repeat first | exact wu_eq | assumption | (apply wu_ne; first | omega | assumption | (apply Ne.symm; assumption))) rfl rfl ⟨by decide, by decide⟩ (Nat.le_of_ble_eq_true rfl) ⟨by decide, by decide⟩ ⟨rfl, rfl⟩ ?_
          rintro _ _ _ ⟨rfl, rfl, rfl⟩
          refine r_invV dX8_digest_39 kX8_299 (c_mixed (s := k) (z := kw half k) (v := v) m1 m2 (by omega) (by omega)) rfl rfl (by repeat first | exact wu_eq | assumption | (apply wu_ne; first | omega | assumption | (apply Ne.symm; assumption))) rfl rfl ⟨by decide, by decide⟩ (Nat.le_of_ble_eq_true rfl) ⟨by decide, by decide⟩ ⟨rfl, rfl⟩ ?_
          rintro _ _ _ ⟨rfl, rfl, rfl⟩
          rw [m7 hp k (by omega)]
          refine r_lstore_n (i := 1) (L0 := [(3, _), (0, _)]) dX8_digest_42 rfl (by decide) rfl ?_
          refine r_iinc (L0 := [(1, _), (0, _)]) dX8_digest_43 rfl (by first | exact iinc1 _ | rfl) (by decide) rfl ?_
          refine r_goto (tgt := 18) dX8_digest_46 (by decide) ?_
          refine r_sub [0, 1, 2] rfl ?_
          exact ih (k + 1) (by omega)
  refine ab_Ct.of (by decide +kernel) (Nat.le_of_ble_eq_true rfl) (by rintro _ _ _ ⟨rfl, rfl, rfl⟩; trivial) ?_
  show ab_St MX8_digest g 0 0 0 [(0, .ref 74)] [] _ _ _
  refine r_aload_n dX8_digest_0 rfl ?_
  refine r_ldc2 dX8_digest_1 qX8_297 ?_
  refine r_toJ (y := lN 37) rfl ?_
  refine r_bipush (v := nI 7) dX8_digest_4 (by decide) ?_
  refine r_iconst (v := nI 2) dX8_digest_6 (by decide) ?_
  refine r_aload_n dX8_digest_7 rfl ?_
  refine r_getf dX8_digest_8 fX8_109 (by repeat first | exact wu_eq | assumption | (apply wu_ne; first | omega | assumption | (apply Ne.symm; assumption))) (by rfl) ?_
  first | refine r_imulN dX8_digest_11 ?_ | refine r_imul dX8_digest_11 ?_
  refine r_invV dX8_digest_12 kX8_299 (c_mixed (s := 7) (z := 2 * half) (H := 37) (v := v) m1 m2 (by decide) (by omega)) rfl rfl (by repeat first | exact wu_eq | assumption | (apply wu_ne; first | omega | assumption | (apply Ne.symm; assumption))) rfl rfl ⟨by decide, by decide⟩ (Nat.le_of_ble_eq_true rfl) ⟨by decide, by decide⟩ ⟨rfl, rfl⟩ ?_
  rintro _ _ _ ⟨rfl, rfl, rfl⟩
  rw [m5]
  refine r_lstore_n (i := 1) (L0 := [(0, _)]) dX8_digest_15 rfl (by decide) rfl ?_
  refine r_iconst (v := nI 0) dX8_digest_16 (by decide) ?_
  refine r_istore_n (i := 3) (L0 := [(1, _), (0, _)]) dX8_digest_17 rfl (by decide) rfl ?_
  by_cases hp : hF σ = 2
  · exact K2 hp 7 0 (by decide)
  · have hmk : mk1 (hF σ) = 0 := by unfold mk1; rw [if_neg hp]
    refine r_iload_n dX8_digest_18 rfl ?_
    refine r_bipush (v := nI 6) dX8_digest_19 (by decide) ?_
    first | refine r_icmp_gtN (tgt := 49) dX8_digest_21 (by decide) (by omega) (by omega) (fun h21 => ?_) (fun h21 => ?_) | refine r_icmp_gt (tgt := 49) dX8_digest_21 (by decide) (fun h21 => ?_) (fun h21 => ?_)
    · omega
    · refine r_aload_n dX8_digest_24 rfl ?_
      refine r_getf dX8_digest_25 fX8_237 (by repeat first | exact wu_eq | assumption | (apply wu_ne; first | omega | assumption | (apply Ne.symm; assumption))) (by rfl) ?_
      first | refine r_if_eqN (tgt := 49) dX8_digest_28 (by decide) (by omega) (fun h28 => ?_) (fun h28 => ?_) | refine r_if_eq (tgt := 49) dX8_digest_28 (by decide) (fun h28 => ?_) (fun h28 => ?_)
      · refine r_iconst (v := nI 2) dX8_digest_49 (by decide) ?_
        refine r_istore_n (i := 3) (L0 := [(1, _), (0, _)]) dX8_digest_50 rfl (by decide) rfl ?_
        unfold dgs
        rw [if_neg hp]
        refine r_sub [0, 1, 2] rfl ?_
        exact K3 _ 6 0 (by omega)
      · omega
