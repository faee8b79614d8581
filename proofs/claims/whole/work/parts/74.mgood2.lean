/-! SignHouseModel: passes, isGood -/
abbrev mdR (A : Value) (rounds : Nat) (rs : List Value) : ab_C := aO 7 (.ref 75 :: A :: .int (nI rounds) :: rs)
theorem twos_bound {C m k : Nat} (h : m * 2 ^ k = C - 1) (hm : 0 < m) (hC : bn40 C) : k < 2000 := by
  refine Nat.lt_of_not_le fun hk => ?_
  have h1 : 2 ^ 2000 ≤ 2 ^ k := Nat.pow_le_pow_right (by decide) hk
  have h2 : 2 ^ k ≤ m * 2 ^ k := Nat.le_mul_of_pos_left _ hm
  have h3 : (65536 : Nat) ^ 40 ≤ 2 ^ 2000 := by rw [p16]; exact Nat.pow_le_pow_right (by decide) (by decide)
  have h4 := hC.2
  generalize 65536 ^ 40 = X at *
  generalize 2 ^ 2000 = Y at *
  omega
set_option maxRecDepth 100000 in
set_option maxHeartbeats 4000000 in
theorem c_mpasses {g : ab_G} {N C rounds : Nat} {v : Nat → Nat} {A : Value} {rs : List Value} {w : ab_W} (h : w 74 = mdR A rounds rs) (hx : w 75 = xA v) (h8 : v 8 = C) (hC : bn40 C) (hodd : C % 2 = 1) (hr : rounds ≤ 8) : ab_Ct MX8_passes g [.ref 74] N w (fun r N' w' => (∃ b, b < 2 ∧ r = some (.int (nI b)) ∧ (b = 1 ↔ ∀ i, i < rounds → MRC C (bse i))) ∧ (∃ v', w' = wu w 75 (xA v') ∧ ∀ j, (j < 9 ∨ 12 < j) → j ≠ 13 → j ≠ 14 → j ≠ 17 → v' j = v j) ∧ N = N') := by
  have hC0 : 1 < C := Nat.lt_of_lt_of_le (by decide) hC.1
  have hCb : bnd C := Nat.lt_trans hC.2 (Nat.pow_lt_pow_right (by decide) (by decide))
  have K52 : ∀ m k, C - 1 = m * 2 ^ k → m % 2 = 1 → k < 2000 → bnd m → ∀ z i b v1, i + z = rounds → b < 2 → (b = 1 → ∀ q, q < i → MRC C (bse q)) → (b = 0 → ∃ q, q < rounds ∧ ¬ MRC C (bse q)) → v1 8 = C → v1 13 = C - 1 → v1 14 = m → (∀ j, (j < 9 ∨ 12 < j) → j ≠ 13 → j ≠ 14 → j ≠ 17 → v1 j = v j) → ab_St MX8_passes g 0 0 52 [(3, .int (nI i)), (2, .int (nI b)), (1, .int (nI k)), (0, .ref 74)] [] N (wu w 75 (xA v1)) (fun r N' w' => (∃ b, b < 2 ∧ r = some (.int (nI b)) ∧ (b = 1 ↔ ∀ i, i < rounds → MRC C (bse i))) ∧ (∃ v', w' = wu w 75 (xA v') ∧ ∀ j, (j < 9 ∨ 12 < j) → j ≠ 13 → j ≠ 14 → j ≠ 17 → v' j = v j) ∧ N = N') := by
    intro m k hmk hm hk hbm z
    have hiff := fun a => MRC_iff (a := a) hmk hm
    induction z with
    | zero =>
      intro i b v1 hi hb hb1 hb0 e8 e13 e14 hfr
      refine r_iload_n dX8_passes_52 rfl ?_
      refine r_aload_n dX8_passes_53 rfl ?_
      refine r_getf dX8_passes_54 fX8_113 (by repeat first | exact wu_eq | assumption | (apply wu_ne; first | omega | assumption | (apply Ne.symm; assumption))) (by rfl) ?_
      first | refine r_icmp_geN (tgt := 80) dX8_passes_57 (by decide) (by omega) (by omega) (fun h57 => ?_) (fun h57 => ?_) | refine r_icmp_ge (tgt := 80) dX8_passes_57 (by decide) (fun h57 => ?_) (fun h57 => ?_)
      · refine r_iload_n dX8_passes_80 rfl ?_
        refine r_ret (r := (some (.int _))) dX8_passes_81 (by decide) (by decide) ?_
        refine ⟨⟨b, hb, rfl, ?_, ?_⟩, ⟨v1, rfl, hfr⟩, rfl⟩
        · intro q j hj
          exact hb1 q j (by omega)
        · intro q
          refine Classical.not_not.mp fun q2 => ?_
          obtain ⟨j, q3, q4⟩ := hb0 (by omega)
          exact q4 (q j q3)
      · omega
    | succ z ih =>
      intro i b v1 hi hb hb1 hb0 e8 e13 e14 hfr
      have hbs := bse_in i (by omega)
      refine r_iload_n dX8_passes_52 rfl ?_
      refine r_aload_n dX8_passes_53 rfl ?_
      refine r_getf dX8_passes_54 fX8_113 (by repeat first | exact wu_eq | assumption | (apply wu_ne; first | omega | assumption | (apply Ne.symm; assumption))) (by rfl) ?_
      first | refine r_icmp_geN (tgt := 80) dX8_passes_57 (by decide) (by omega) (by omega) (fun h57 => ?_) (fun h57 => ?_) | refine r_icmp_ge (tgt := 80) dX8_passes_57 (by decide) (fun h57 => ?_) (fun h57 => ?_)
      · omega
      · refine r_iload_n dX8_passes_60 rfl ?_
        first | refine r_if_eqN (tgt := 80) dX8_passes_61 (by decide) (by omega) (fun h61 => ?_) (fun h61 => ?_) | refine r_if_eq (tgt := 80) dX8_passes_61 (by decide) (fun h61 => ?_) (fun h61 => ?_)
        · refine r_iload_n dX8_passes_80 rfl ?_
          refine r_ret (r := (some (.int _))) dX8_passes_81 (by decide) (by decide) ?_
          refine ⟨⟨b, hb, rfl, ?_, ?_⟩, ⟨v1, rfl, hfr⟩, rfl⟩
          · intro q
            omega
          · intro q
            obtain ⟨j, q3, q4⟩ := hb0 h61
            exact absurd (q j q3) q4
        · refine r_aload_n dX8_passes_64 rfl ?_
          refine r_iload_n dX8_passes_65 rfl ?_
          refine r_invS dX8_passes_66 kX8_206 (c_base (k := i) (by omega)) rfl rfl ⟨by decide, by decide⟩ (Nat.le_of_ble_eq_true rfl) ⟨by decide, by decide⟩ ⟨rfl, rfl⟩ ?_
          rintro _ _ _ ⟨rfl, rfl, rfl⟩
          refine r_iload_n dX8_passes_69 rfl ?_
          refine r_invV dX8_passes_70 kX8_209 (c_passesBy (C := C) (m := m) (a := bse i) (k := k) (v := v1) (by repeat first | exact wu_eq | assumption | (apply wu_ne; first | omega | assumption | (apply Ne.symm; assumption))) wu_eq e8 e13 e14 hC hbm (by omega) hk) rfl rfl (by repeat first | exact wu_eq | assumption | (apply wu_ne; first | omega | assumption | (apply Ne.symm; assumption))) rfl rfl ⟨by decide, by decide⟩ (Nat.le_of_ble_eq_true rfl) ⟨by decide, by decide⟩ ⟨rfl, rfl⟩ ?_
          rintro _ _ _ ⟨⟨b', hb', rfl, hbi⟩, ⟨v2, rfl, f2⟩, rfl⟩
          rw [wu_wu]
          refine r_istore_n (i := 2) (L0 := [(3, _), (1, _), (0, _)]) dX8_passes_73 rfl (by decide) rfl ?_
          refine r_iinc (L0 := [(2, _), (1, _), (0, _)]) dX8_passes_74 rfl (by first | exact iinc1 _ | rfl) (by decide) rfl ?_
          refine r_goto (tgt := 52) dX8_passes_77 (by decide) ?_
          refine r_sub [0, 1, 2, 3] rfl ?_
          refine ih (i + 1) b' v2 (by omega) hb' ?_ ?_ ((f2 8 (by decide) (by decide)).trans e8) ((f2 13 (by decide) (by decide)).trans e13) ((f2 14 (by decide) (by decide)).trans e14) fun j q1 q2 q3 q4 => (f2 j q1 q4).trans (hfr j q1 q2 q3 q4)
          · intro q j hj
            by_cases e : j = i
            · rw [e]
              exact (hiff _).mpr (hbi.mp q)
            · exact hb1 (by omega) j (by omega)
          · intro q
            exact ⟨i, by omega, fun q2 => by have := hbi.mpr ((hiff _).mp q2); omega⟩
  have K25 : ∀ n m, m ≤ n → ∀ k v1, 0 < m → m * 2 ^ k = C - 1 → v1 8 = C → v1 13 = C - 1 → v1 14 = m → (∀ j, (j < 9 ∨ 12 < j) → j ≠ 13 → j ≠ 14 → j ≠ 17 → v1 j = v j) → ab_St MX8_passes g 0 0 25 [(1, .int (nI k)), (0, .ref 74)] [] N (wu w 75 (xA v1)) (fun r N' w' => (∃ b, b < 2 ∧ r = some (.int (nI b)) ∧ (b = 1 ↔ ∀ i, i < rounds → MRC C (bse i))) ∧ (∃ v', w' = wu w 75 (xA v') ∧ ∀ j, (j < 9 ∨ 12 < j) → j ≠ 13 → j ≠ 14 → j ≠ 17 → v' j = v j) ∧ N = N') := by
    intro n
    induction n with
    | zero => intro m hm k v1 h0; omega
    | succ n ih =>
      intro m hm k v1 h0 hmk e8 e13 e14 hfr
      have hk := twos_bound hmk h0 hC
      have hbm : bnd m := hCb.le (by
        have : m * 1 ≤ m * 2 ^ k := Nat.mul_le_mul_left _ (Nat.two_pow_pos k)
        omega)
      have hd : dg 2 m 0 = m % 2 := dg_0 2 m
      refine r_aload_n dX8_passes_25 rfl ?_
      refine r_bipush (v := nI 14) dX8_passes_26 (by decide) ?_
      refine r_iconst (v := nI 0) dX8_passes_28 (by decide) ?_
      refine r_invV dX8_passes_29 kX8_151 (c_bit (s := 14) (k := 0) (v := v1) (by repeat first | exact wu_eq | assumption | (apply wu_ne; first | omega | assumption | (apply Ne.symm; assumption))) wu_eq (by decide) (by decide)) rfl rfl (by repeat first | exact wu_eq | assumption | (apply wu_ne; first | omega | assumption | (apply Ne.symm; assumption))) rfl rfl ⟨by decide, by decide⟩ (Nat.le_of_ble_eq_true rfl) ⟨by decide, by decide⟩ ⟨rfl, rfl⟩ ?_
      rintro _ _ _ ⟨rfl, rfl, rfl⟩
      rw [e14, hd]
      first | refine r_if_neN (tgt := 48) dX8_passes_32 (by decide) (by omega) (fun h32 => ?_) (fun h32 => ?_) | refine r_if_ne (tgt := 48) dX8_passes_32 (by decide) (fun h32 => ?_) (fun h32 => ?_)
      · refine r_iconst (v := nI 1) dX8_passes_48 (by decide) ?_
        refine r_istore_n (i := 2) (L0 := [(1, _), (0, _)]) dX8_passes_49 rfl (by decide) rfl ?_
        refine r_iconst (v := nI 0) dX8_passes_50 (by decide) ?_
        refine r_istore_n (i := 3) (L0 := [(2, _), (1, _), (0, _)]) dX8_passes_51 rfl (by decide) rfl ?_
        exact K52 m k hmk.symm (by omega) hk hbm rounds 0 1 v1 (by omega) (by decide) (fun _ q hq => absurd hq (by omega)) (fun q => absurd q (by decide)) e8 e13 e14 hfr
      · refine r_aload_n dX8_passes_35 rfl ?_
        refine r_bipush (v := nI 14) dX8_passes_36 (by decide) ?_
        refine r_iconst (v := nI 1) dX8_passes_38 (by decide) ?_
        refine r_invV dX8_passes_39 kX8_135 (c_moveRight (a := 14) (s := 1) (v := v1) (by repeat first | exact wu_eq | assumption | (apply wu_ne; first | omega | assumption | (apply Ne.symm; assumption))) wu_eq (by decide) (by decide) (by rw [e14]; exact hbm)) rfl rfl (by repeat first | exact wu_eq | assumption | (apply wu_ne; first | omega | assumption | (apply Ne.symm; assumption))) rfl rfl ⟨by decide, by decide⟩ (Nat.le_of_ble_eq_true rfl) ⟨by decide, by decide⟩ ⟨rfl, rfl⟩ ?_
        rintro _ _ _ ⟨rfl, rfl, rfl⟩
        rw [wu_wu, e14]
        refine r_iinc (L0 := [(0, _)]) dX8_passes_42 rfl (by first | exact iinc1 _ | rfl) (by decide) rfl ?_
        refine r_goto (tgt := 25) dX8_passes_45 (by decide) ?_
        refine ih (m / 2 ^ 1) ?_ (k + 1) _ ?_ ?_ ((us_ne (by decide)).trans e8) ((us_ne (by decide)).trans e13) us_eq fun j q1 q2 q3 q4 => (us_ne q3).trans (hfr j q1 q2 q3 q4)
        · rw [Nat.pow_one]
          omega
        · rw [Nat.pow_one]
          omega
        · rw [← hmk, show m / 2 ^ 1 = m / 2 by rw [Nat.pow_one], Nat.pow_succ, Nat.mul_comm (2 ^ k), ← Nat.mul_assoc]
          congr 1
          omega
  refine ab_Ct.of (by decide +kernel) (Nat.le_of_ble_eq_true rfl) (by rintro _ _ _ ⟨⟨b, hb, rfl, -⟩, -, -⟩; exact nI_zk hb) ?_
  show ab_St MX8_passes g 0 0 0 [(0, .ref 74)] [] _ _ _
  refine r_aload_n dX8_passes_0 rfl ?_
  refine r_bipush (v := nI 13) dX8_passes_1 (by decide) ?_
  refine r_bipush (v := nI 8) dX8_passes_3 (by decide) ?_
  refine r_invV dX8_passes_5 kX8_139 (c_mcopy (t := 13) (s := 8) (v := v) h hx (by decide) (by decide) (by decide)) rfl rfl (by repeat first | exact wu_eq | assumption | (apply wu_ne; first | omega | assumption | (apply Ne.symm; assumption))) rfl rfl ⟨by decide, by decide⟩ (Nat.le_of_ble_eq_true rfl) ⟨by decide, by decide⟩ ⟨rfl, rfl⟩ ?_
  rintro _ _ _ ⟨rfl, rfl, rfl⟩
  refine r_aload_n dX8_passes_8 rfl ?_
  refine r_bipush (v := nI 13) dX8_passes_9 (by decide) ?_
  refine r_iconst (v := nI 1) dX8_passes_11 (by decide) ?_
  refine r_invV dX8_passes_12 kX8_203 (c_takesSmall (a := 13) (y := 1) (v := us v 13 (v 8)) (by repeat first | exact wu_eq | assumption | (apply wu_ne; first | omega | assumption | (apply Ne.symm; assumption))) wu_eq (by decide) (by rw [us_eq, h8]; exact hCb) (by decide) (by rw [us_eq, h8]; omega)) rfl rfl (by repeat first | exact wu_eq | assumption | (apply wu_ne; first | omega | assumption | (apply Ne.symm; assumption))) rfl rfl ⟨by decide, by decide⟩ (Nat.le_of_ble_eq_true rfl) ⟨by decide, by decide⟩ ⟨rfl, rfl⟩ ?_
  rintro _ _ _ ⟨rfl, rfl, rfl⟩
  rw [wu_wu, us_eq, us_us, h8]
  refine r_aload_n dX8_passes_15 rfl ?_
  refine r_bipush (v := nI 14) dX8_passes_16 (by decide) ?_
  refine r_bipush (v := nI 13) dX8_passes_18 (by decide) ?_
  refine r_invV dX8_passes_20 kX8_139 (c_mcopy (t := 14) (s := 13) (v := us v 13 (C - 1)) (by repeat first | exact wu_eq | assumption | (apply wu_ne; first | omega | assumption | (apply Ne.symm; assumption))) wu_eq (by decide) (by decide) (by decide)) rfl rfl (by repeat first | exact wu_eq | assumption | (apply wu_ne; first | omega | assumption | (apply Ne.symm; assumption))) rfl rfl ⟨by decide, by decide⟩ (Nat.le_of_ble_eq_true rfl) ⟨by decide, by decide⟩ ⟨rfl, rfl⟩ ?_
  rintro _ _ _ ⟨rfl, rfl, rfl⟩
  rw [wu_wu, us_eq]
  refine r_iconst (v := nI 0) dX8_passes_23 (by decide) ?_
  refine r_istore_n (i := 1) (L0 := [(0, _)]) dX8_passes_24 rfl (by decide) rfl ?_
  exact K25 (C - 1) (C - 1) (Nat.le_refl _) 0 _ (by omega) (by rw [Nat.pow_zero, Nat.mul_one]) ((us_ne (by decide)).trans ((us_ne (by decide)).trans h8)) ((us_ne (by decide)).trans us_eq) us_eq fun j q1 q2 q3 q4 => (us_ne q3).trans (us_ne q2)
set_option maxRecDepth 100000 in
set_option maxHeartbeats 4000000 in
theorem c_misGood {g : ab_G} {N C half rounds bu c bg ik hp ex un db da sg vf len pf fi : Nat} {v : Nat → Nat} {w : ab_W} (h : w 74 = mdO half rounds bu c bg ik hp ex un db da sg vf len) (hx : w 75 = xA v) (h8 : v 8 = C) (hC : bn40 C) (hodd : C % 2 = 1) (hr : rounds ≤ 8) (hhp : hp = if pf = 0 then 0 else 1) (hfi : 0 < pf → v 2 = fi ∧ bnd fi) : ab_Ct MX8_isGood g [.ref 74] N w (fun r N' w' => (∃ b, b < 2 ∧ r = some (.int (nI b)) ∧ (b = 1 ↔ ND C ∧ GD C rounds pf fi)) ∧ w' 74 = mdO half rounds bu c bg ik hp ex (xif (ND C) (un + 1) un) db da sg vf len ∧ (∃ v', w' 75 = xA v' ∧ ∀ j, (j < 9 ∨ 12 < j) → j ≠ 13 → j ≠ 14 → j ≠ 17 → v' j = v j) ∧ (∀ k, k ≠ 74 → k ≠ 75 → w' k = w k) ∧ N = N') := by
  have hCb : bnd C := Nat.lt_trans hC.2 (Nat.pow_lt_pow_right (by decide) (by decide))
  have hhp2 : hp < 2 := by rw [hhp]; split <;> decide
  refine ab_Ct.of (by decide +kernel) (Nat.le_of_ble_eq_true rfl) (by rintro _ _ _ ⟨⟨b, hb, rfl, -⟩, -, -, -, -⟩; exact nI_zk hb) ?_
  show ab_St MX8_isGood g 0 0 0 [(0, .ref 74)] [] _ _ _
  refine r_aload_n dX8_isGood_0 rfl ?_
  refine r_invV dX8_isGood_1 kX8_212 (c_isDivided (v := v) h hx (by rw [h8]; exact hCb)) rfl rfl (by repeat first | exact wu_eq | assumption | (apply wu_ne; first | omega | assumption | (apply Ne.symm; assumption))) rfl rfl ⟨by decide, by decide⟩ (Nat.le_of_ble_eq_true rfl) ⟨by decide, by decide⟩ ⟨rfl, rfl⟩ ?_
  rintro _ _ _ ⟨⟨b, hb, rfl, hbi⟩, rfl, rfl⟩
  rw [h8] at hbi
  first | refine r_if_eqN (tgt := 9) dX8_isGood_4 (by decide) (by omega) (fun h4 => ?_) (fun h4 => ?_) | refine r_if_eq (tgt := 9) dX8_isGood_4 (by decide) (fun h4 => ?_) (fun h4 => ?_)
  · have hnd : ND C := Classical.not_not.mp fun q => by have := hbi.mpr q; omega
    rw [xif_t hnd]
    refine r_aload_n dX8_isGood_9 rfl ?_
    refine r_dup dX8_isGood_10 rfl ?_
    refine r_getf dX8_isGood_11 fX8_216 (by repeat first | exact wu_eq | assumption | (apply wu_ne; first | omega | assumption | (apply Ne.symm; assumption))) (by rfl) ?_
    refine r_iconst (v := nI 1) dX8_isGood_14 (by decide) ?_
    first | refine r_iaddN dX8_isGood_15 ?_ | refine r_iadd dX8_isGood_15 ?_
    refine r_putf dX8_isGood_16 fX8_216 (by repeat first | exact wu_eq | assumption | (apply wu_ne; first | omega | assumption | (apply Ne.symm; assumption))) rfl (by exact Nat.le_of_ble_eq_true rfl) (by rfl) (by rfl) ?_
    refine r_toW (w' := wu w 74 (mdO half rounds bu c bg ik hp ex (un + 1) db da sg vf len)) rfl ?_
    have e74 : wu w 74 (mdO half rounds bu c bg ik hp ex (un + 1) db da sg vf len) 74 = mdO half rounds bu c bg ik hp ex (un + 1) db da sg vf len := wu_eq
    have e75 : wu w 74 (mdO half rounds bu c bg ik hp ex (un + 1) db da sg vf len) 75 = xA v := wu_ne (by decide) hx
    have F : ∀ k, k ≠ 74 → k ≠ 75 → wu w 74 (mdO half rounds bu c bg ik hp ex (un + 1) db da sg vf len) k = w k := fun k a _ => wu_ne a rfl
    generalize wu w 74 (mdO half rounds bu c bg ik hp ex (un + 1) db da sg vf len) = w1 at e74 e75 F ⊢
    have hcr : C % 65537 < 65537 := Nat.mod_lt _ (by decide)
    have K59 : ¬ GD C rounds pf fi → ∀ v', (∀ j, (j < 9 ∨ 12 < j) → j ≠ 13 → j ≠ 14 → j ≠ 17 → v' j = v j) → ab_St MX8_isGood g 0 0 59 [(0, .ref 74)] [] N (wu w1 75 (xA v')) (fun r N' w' => (∃ b, b < 2 ∧ r = some (.int (nI b)) ∧ (b = 1 ↔ ND C ∧ GD C rounds pf fi)) ∧ w' 74 = mdO half rounds bu c bg ik hp ex (un + 1) db da sg vf len ∧ (∃ v', w' 75 = xA v' ∧ ∀ j, (j < 9 ∨ 12 < j) → j ≠ 13 → j ≠ 14 → j ≠ 17 → v' j = v j) ∧ (∀ k, k ≠ 74 → k ≠ 75 → w' k = w k) ∧ N = N') := by
      intro hng v' hv'
      refine r_iconst (v := nI 0) dX8_isGood_59 (by decide) ?_
      refine r_ret (r := (some (.int _))) dX8_isGood_60 (by decide) (by decide) ?_
      exact ⟨⟨0, by decide, rfl, ⟨fun q => absurd q (by decide), fun q => absurd q.2 hng⟩⟩, (wu_ne (by decide) rfl).trans e74, ⟨v', wu_eq, hv'⟩, fun k a b => (wu_ne b rfl).trans (F k a b), rfl⟩
    have K59' : ¬ GD C rounds pf fi → ab_St MX8_isGood g 0 0 59 [(0, .ref 74)] [] N w1 (fun r N' w' => (∃ b, b < 2 ∧ r = some (.int (nI b)) ∧ (b = 1 ↔ ND C ∧ GD C rounds pf fi)) ∧ w' 74 = mdO half rounds bu c bg ik hp ex (un + 1) db da sg vf len ∧ (∃ v', w' 75 = xA v' ∧ ∀ j, (j < 9 ∨ 12 < j) → j ≠ 13 → j ≠ 14 → j ≠ 17 → v' j = v j) ∧ (∀ k, k ≠ 74 → k ≠ 75 → w' k = w k) ∧ N = N') := by
      intro hng
      have q := K59 hng v fun _ _ _ _ _ => rfl
      rw [wu_self e75] at q
      exact q
    have K48 : C % 65537 ≠ 1 → ¬ (0 < pf ∧ C = fi) → ab_St MX8_isGood g 0 0 48 [(0, .ref 74)] [] N w1 (fun r N' w' => (∃ b, b < 2 ∧ r = some (.int (nI b)) ∧ (b = 1 ↔ ND C ∧ GD C rounds pf fi)) ∧ w' 74 = mdO half rounds bu c bg ik hp ex (un + 1) db da sg vf len ∧ (∃ v', w' 75 = xA v' ∧ ∀ j, (j < 9 ∨ 12 < j) → j ≠ 13 → j ≠ 14 → j ≠ 17 → v' j = v j) ∧ (∀ k, k ≠ 74 → k ≠ 75 → w' k = w k) ∧ N = N') := by
      intro hc1 hc2
      have hGD : GD C rounds pf fi ↔ ∀ i, i < rounds → MRC C (bse i) := ⟨fun q => q.2.2, fun q => ⟨hc1, hc2, q⟩⟩
      clear hc1 hcr
      refine r_aload_n dX8_isGood_48 rfl ?_
      refine r_invV dX8_isGood_49 kX8_223 (c_mpasses (C := C) (rounds := rounds) (v := v) e74 e75 h8 hC hodd hr) rfl rfl (by repeat first | exact wu_eq | assumption | (apply wu_ne; first | omega | assumption | (apply Ne.symm; assumption))) rfl rfl ⟨by decide, by decide⟩ (Nat.le_of_ble_eq_true rfl) ⟨by decide, by decide⟩ ⟨rfl, rfl⟩ ?_
      rintro _ _ _ ⟨⟨b2, hb2, rfl, hbi2⟩, ⟨v2, rfl, f2⟩, rfl⟩
      rw [← hGD] at hbi2
      first | refine r_if_eqN (tgt := 59) dX8_isGood_52 (by decide) (by omega) (fun h52 => ?_) (fun h52 => ?_) | refine r_if_eq (tgt := 59) dX8_isGood_52 (by decide) (fun h52 => ?_) (fun h52 => ?_)
      · exact K59 (fun q => by have := hbi2.mpr q; omega) v2 f2
      · refine r_iconst (v := nI 1) dX8_isGood_55 (by decide) ?_
        refine r_goto (tgt := 60) dX8_isGood_56 (by decide) ?_
        refine r_ret (r := (some (.int _))) dX8_isGood_60 (by decide) (by decide) ?_
        exact ⟨⟨1, by decide, rfl, ⟨fun _ => ⟨hnd, hbi2.mp (by omega)⟩, fun _ => rfl⟩⟩, (wu_ne (by decide) rfl).trans e74, ⟨v2, wu_eq, f2⟩, fun k a b => (wu_ne b rfl).trans (F k a b), rfl⟩
    refine r_aload_n dX8_isGood_19 rfl ?_
    refine r_bipush (v := nI 8) dX8_isGood_20 (by decide) ?_
    refine r_ldc dX8_isGood_22 qX8_219 ?_
    refine r_toI (y := nI 65537) rfl ?_
    refine r_invV dX8_isGood_24 kX8_191 (c_restSmall (a := 8) (y := 65537) (v := v) e74 e75 (by decide) (by rw [h8]; exact hCb) (by decide) (by decide)) rfl rfl (by repeat first | exact wu_eq | assumption | (apply wu_ne; first | omega | assumption | (apply Ne.symm; assumption))) rfl rfl ⟨by decide, by decide⟩ (Nat.le_of_ble_eq_true rfl) ⟨by decide, by decide⟩ ⟨rfl, rfl⟩ ?_
    rintro _ _ _ ⟨rfl, rfl, rfl⟩
    rw [h8]
    refine r_iconst (v := nI 1) dX8_isGood_27 (by decide) ?_
    refine r_icmp_eqN (tgt := 59) dX8_isGood_28 (by decide) (Nat.lt_trans hcr (by decide)) (by decide) (fun h28 => ?_) (fun h28 => ?_)
    · exact K59' fun q => q.1 h28
    · clear hcr
      have hCne : C % 65537 ≠ 1 := h28
      have K48' := K48 hCne
      have hGx : (0 < pf ∧ C = fi) → ¬ GD C rounds pf fi := fun q q2 => q2.2.1 q
      clear h28 hCne K48
      refine r_aload_n dX8_isGood_31 rfl ?_
      refine r_getf dX8_isGood_32 fX8_220 (by repeat first | exact wu_eq | assumption | (apply wu_ne; first | omega | assumption | (apply Ne.symm; assumption))) (by rfl) ?_
      first | refine r_if_eqN (tgt := 48) dX8_isGood_35 (by decide) (by omega) (fun h35 => ?_) (fun h35 => ?_) | refine r_if_eq (tgt := 48) dX8_isGood_35 (by decide) (fun h35 => ?_) (fun h35 => ?_)
      · exact K48' fun q => by rw [if_neg (by omega)] at hhp; omega
      · have hpf : 0 < pf := Nat.pos_of_ne_zero fun q => by rw [if_pos q] at hhp; omega
        obtain ⟨e2, hb2⟩ := hfi hpf
        refine r_aload_n dX8_isGood_38 rfl ?_
        refine r_bipush (v := nI 8) dX8_isGood_39 (by decide) ?_
        refine r_iconst (v := nI 2) dX8_isGood_41 (by decide) ?_
        refine r_invV dX8_isGood_42 kX8_200 (c_compare (a := 8) (b := 2) (v := v) e74 e75 (by decide) (by decide) (by rw [h8]; exact hCb) (by rw [e2]; exact hb2)) rfl rfl (by repeat first | exact wu_eq | assumption | (apply wu_ne; first | omega | assumption | (apply Ne.symm; assumption))) rfl rfl ⟨by decide, by decide⟩ (Nat.le_of_ble_eq_true rfl) ⟨by decide, by decide⟩ ⟨rfl, rfl⟩ ?_
        rintro _ _ _ ⟨rfl, rfl, rfl⟩
        refine r_if_eq (tgt := 59) dX8_isGood_45 (by decide) (fun h45 => ?_) (fun h45 => ?_)
        all_goals rw [ord0, h8, e2] at h45
        · exact K59' (hGx ⟨hpf, h45⟩)
        · exact K48' fun q => h45 q.2
  · have hnd : ¬ ND C := hbi.mp (by omega)
    rw [xif_f hnd]
    refine r_iconst (v := nI 0) dX8_isGood_7 (by decide) ?_
    refine r_ret (r := (some (.int _))) dX8_isGood_8 (by decide) (by decide) ?_
    exact ⟨⟨0, by decide, rfl, ⟨fun q => absurd q (by decide), fun q => absurd q.1 hnd⟩⟩, h, ⟨v, hx, fun _ _ _ _ _ => rfl⟩, fun _ _ _ => rfl, rfl⟩
