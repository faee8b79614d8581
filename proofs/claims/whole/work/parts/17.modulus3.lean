/-! SignHouse$Modulus: powers, products; the choice of a modulus -/
/-- a modulus that is chosen -/
def MOK (w : ab_W) (M W c : Nat) : Prop := ∃ ni b r S, w M = moO M W ni ∧ w (M + 1) = aN W c ∧ w (M + 2) = aN W 1 ∧ w (M + 3) = aN W (4294967296 ^ W % c) ∧ w (M + 4) = aN W (4294967296 ^ W * 4294967296 ^ W % c) ∧ w (M + 5) = aN W b ∧ w (M + 6) = aN W r ∧ w (M + 7) = aN (W + 2) S ∧ b < 4294967296 ^ W ∧ r < 4294967296 ^ W ∧ S < 4294967296 ^ (W + 2) ∧ ni < 4294967296 ∧ (c * ni + 1) % 4294967296 = 0 ∧ 1 < c ∧ c < 4294967296 ^ W ∧ 1 ≤ W ∧ W ≤ 500
/-- its rows are there -/
def MSH (w : ab_W) (M W : Nat) : Prop := ∃ ni v1 v2 v3 v4 b r S, w M = moO M W ni ∧ w (M + 1) = aN W v1 ∧ w (M + 2) = aN W v2 ∧ w (M + 3) = aN W v3 ∧ w (M + 4) = aN W v4 ∧ w (M + 5) = aN W b ∧ w (M + 6) = aN W r ∧ w (M + 7) = aN (W + 2) S ∧ v1 < 4294967296 ^ W ∧ v2 < 4294967296 ^ W ∧ v3 < 4294967296 ^ W ∧ v4 < 4294967296 ^ W ∧ b < 4294967296 ^ W ∧ r < 4294967296 ^ W ∧ S < 4294967296 ^ (W + 2) ∧ 1 ≤ W ∧ W ≤ 500
theorem one_lt_pow {W : Nat} (h : 1 ≤ W) : 1 < 4294967296 ^ W := Nat.one_lt_pow (by omega) (by decide)
theorem MOK.sh {w : ab_W} {M W c : Nat} (h : MOK w M W c) : MSH w M W := by
  obtain ⟨ni, b, r, S, a0, a1, a2, a3, a4, a5, a6, a7, b1, b2, b3, b4, b5, b6, b7, b8, b9⟩ := h
  have hc : 0 < c := by omega
  exact ⟨ni, _, _, _, _, b, r, S, a0, a1, a2, a3, a4, a5, a6, a7, b7, one_lt_pow b8, Nat.lt_trans (Nat.mod_lt _ hc) b7, Nat.lt_trans (Nat.mod_lt _ hc) b7, b1, b2, b3, b8, b9⟩
/-- outside M .. M + 7 and t the cells are as they were -/
def FR (w w' : ab_W) (M t : Nat) : Prop := ∀ k, k ≠ t → (k < M ∨ M + 7 < k) → w' k = w k
theorem MOK.keep {w w' : ab_W} {M W c : Nat} (h : MOK w M W c) (hk : ∀ k, M ≤ k → k ≤ M + 7 → w' k = w k) : MOK w' M W c := by
  obtain ⟨ni, b, r, S, a0, a1, a2, a3, a4, a5, a6, a7, hb⟩ := h
  exact ⟨ni, b, r, S, (hk _ (by omega) (by omega)).trans a0, (hk _ (by omega) (by omega)).trans a1, (hk _ (by omega) (by omega)).trans a2, (hk _ (by omega) (by omega)).trans a3, (hk _ (by omega) (by omega)).trans a4, (hk _ (by omega) (by omega)).trans a5, (hk _ (by omega) (by omega)).trans a6, (hk _ (by omega) (by omega)).trans a7, hb⟩
theorem MSH.keep {w w' : ab_W} {M W : Nat} (h : MSH w M W) (hk : ∀ k, M ≤ k → k ≤ M + 7 → w' k = w k) : MSH w' M W := by
  obtain ⟨ni, v1, v2, v3, v4, b, r, S, a0, a1, a2, a3, a4, a5, a6, a7, hb⟩ := h
  exact ⟨ni, v1, v2, v3, v4, b, r, S, (hk _ (by omega) (by omega)).trans a0, (hk _ (by omega) (by omega)).trans a1, (hk _ (by omega) (by omega)).trans a2, (hk _ (by omega) (by omega)).trans a3, (hk _ (by omega) (by omega)).trans a4, (hk _ (by omega) (by omega)).trans a5, (hk _ (by omega) (by omega)).trans a6, (hk _ (by omega) (by omega)).trans a7, hb⟩
theorem mt_pow_step {c W x e k : Nat} : x ^ (e / 2 ^ (k + 1)) * x ^ (e / 2 ^ (k + 1)) * (if dg 2 e k = 0 then 1 else x) = x ^ (e / 2 ^ k) := by
  have h := div_dg 2 e k
  have hb := dg_lt' (b := 2) (by decide) e k
  rw [h]
  generalize e / 2 ^ (k + 1) = m
  rw [← Nat.pow_add]
  by_cases h0 : dg 2 e k = 0
  · rw [if_pos h0, h0, Nat.mul_one]
    congr 1
    omega
  · rw [if_neg h0, ← Nat.pow_succ]
    congr 1
    omega
theorem mt_times {c ni n x y z : Nat} (h : (c * ni + 1) % 4294967296 = 0) (hc : 0 < c) (hz : z < c) (e : z * 4294967296 ^ n % c = mt c n x * y % c) : z = x * y % c := by
  refine mont_cancel (n := n) h hz (Nat.mod_lt _ hc) ?_
  rw [e]
  unfold mt
  rw [Nat.mod_mul_mod, Nat.mod_mul_mod, Nat.mul_right_comm]
set_option maxRecDepth 100000 in
set_option maxHeartbeats 4000000 in
theorem c_raise {g : ab_G} {N M W c t a e n u x ev : Nat} {w : ab_W} {cE : ab_C} (hM : MOK w M W c) (ht : w t = aN W u) (hu : u < 4294967296 ^ W) (ha : w a = aN W x) (hx : x < c) (he : w e = cE) (hcE : cE = aN n ev ∨ cE = xJ n (rJ ev)) (hn : n ≤ 500) (hn0 : 0 < n) (hev : ev < 4294967296 ^ n) (htM : t < M ∨ M + 7 < t) (haM : a < M ∨ M + 7 < a) (heM : e < M ∨ M + 7 < e) : ab_Ct MX4_raise g [.ref M, .ref t, .ref a, .ref e] N w (fun r N' w' => MOK w' M W c ∧ w' t = aN W (x ^ ev % c) ∧ FR w w' M t ∧ r = none ∧ N = N') := by
  obtain ⟨ni, b0, r0, S0, a0, a1, a2, a3, a4, a5, a6, a7, b1, b2, b3, b4, b5, b6, b7, b8, b9⟩ := hM
  have hc0 : 0 < c := by omega
  have hmW : ∀ y, mt c W y < 4294967296 ^ W := fun y => Nat.lt_trans (mt_lt hc0) b7
  have hbl : bl ev ≤ 32 * n := bl_le (by rw [Nat.pow_mul]; exact hev)
  have K : ∀ k, k ≤ bl ev → ∀ S, S < 4294967296 ^ (W + 2) → ab_St MX4_raise g 0 0 32 [(4, .int (nI k - 1)), (0, .ref M), (1, .ref t), (2, .ref a), (3, .ref e)] [] N (wu (wu (wu w (M + 5) (aN W (mt c W x))) (M + 6) (aN W (mt c W (x ^ (ev / 2 ^ k))))) (M + 7) (aN (W + 2) S)) (fun r N' w' => MOK w' M W c ∧ w' t = aN W (x ^ ev % c) ∧ FR w w' M t ∧ r = none ∧ N = N') := by
    intro k
    induction k with
    | zero =>
      intro _ S hS
      rw [Nat.pow_zero, Nat.div_one]
      refine r_iload dX4_raise_32 rfl ?_
      refine r_if_lt (tgt := 84) dX4_raise_34 (by decide) (fun _ => ?_) (fun h => absurd nI0lt h)
      refine r_aload_n dX4_raise_84 rfl ?_
      refine r_aload_n dX4_raise_85 rfl ?_
      refine r_aload_n dX4_raise_86 rfl ?_
      refine r_getf dX4_raise_87 fX4_35 (by repeat first | exact wu_eq | assumption | (apply wu_ne; first | omega | assumption | (apply Ne.symm; assumption))) (by rfl) ?_
      refine r_aload_n dX4_raise_90 rfl ?_
      refine r_getf dX4_raise_91 fX4_23 (by repeat first | exact wu_eq | assumption | (apply wu_ne; first | omega | assumption | (apply Ne.symm; assumption))) (by rfl) ?_
      refine r_invV dX4_raise_94 kX4_80 (c_mc (W := W) (ni := ni) (c := c) (S := S) (u := u) (x := mt c W (x ^ ev)) (y := 1) (by repeat first | exact wu_eq | assumption | (apply wu_ne; first | omega | assumption | (apply Ne.symm; assumption))) (by repeat first | exact wu_eq | assumption | (apply wu_ne; first | omega | assumption | (apply Ne.symm; assumption))) (by repeat first | exact wu_eq | assumption | (apply wu_ne; first | omega | assumption | (apply Ne.symm; assumption))) (by repeat first | exact wu_eq | assumption | (apply wu_ne; first | omega | assumption | (apply Ne.symm; assumption))) (by repeat first | exact wu_eq | assumption | (apply wu_ne; first | omega | assumption | (apply Ne.symm; assumption))) (by repeat first | exact wu_eq | assumption | (apply wu_ne; first | omega | assumption | (apply Ne.symm; assumption))) (by omega) (by omega) (by omega) (by omega) (by omega) b8 b9 b7 hu (mt_lt hc0) (by omega) hS b4 b5) rfl rfl (by repeat first | exact wu_eq | assumption | (apply wu_ne; first | omega | assumption | (apply Ne.symm; assumption))) rfl rfl ⟨by decide, by decide⟩ (Nat.le_of_ble_eq_true rfl) ⟨by decide, by decide⟩ ⟨rfl, rfl⟩ ?_
      rintro _ _ _ ⟨S', z, hS', hz, hzc, rfl, rfl, rfl⟩
      refine r_ret (r := none) dX4_raise_97 (by decide) (by decide) ?_
      have hz1 := mt_out b5 hc0 hz hzc
      subst hz1
      refine ⟨⟨ni, mt c W x, mt c W (x ^ ev), S', (by repeat first | exact wu_eq | assumption | (apply wu_ne; first | omega | assumption | (apply Ne.symm; assumption))), (by repeat first | exact wu_eq | assumption | (apply wu_ne; first | omega | assumption | (apply Ne.symm; assumption))), (by repeat first | exact wu_eq | assumption | (apply wu_ne; first | omega | assumption | (apply Ne.symm; assumption))), (by repeat first | exact wu_eq | assumption | (apply wu_ne; first | omega | assumption | (apply Ne.symm; assumption))), (by repeat first | exact wu_eq | assumption | (apply wu_ne; first | omega | assumption | (apply Ne.symm; assumption))), (by repeat first | exact wu_eq | assumption | (apply wu_ne; first | omega | assumption | (apply Ne.symm; assumption))), (by repeat first | exact wu_eq | assumption | (apply wu_ne; first | omega | assumption | (apply Ne.symm; assumption))), (by repeat first | exact wu_eq | assumption | (apply wu_ne; first | omega | assumption | (apply Ne.symm; assumption))), hmW _, hmW _, hS', b4, b5, b6, b7, b8, b9⟩, wu_eq, ?_, rfl, rfl⟩
      intro j h1 h2
      exact wu_ne h1 (wu_ne (by omega) (wu_ne (by omega) (wu_ne (by omega) (wu_ne (by omega) rfl))))
    | succ k ih =>
      intro hk S hS
      rw [i32_pm]
      have hb2 : dg 2 ev k < 2 := dg_lt' (by decide) ev k
      have hst := mt_pow_step (c := c) (W := W) (x := x) (e := ev) (k := k)
      refine r_iload dX4_raise_32 rfl ?_
      first | refine r_if_ltN (tgt := 84) dX4_raise_34 (by decide) (by omega) (fun h34 => ?_) | refine r_if_lt (tgt := 84) dX4_raise_34 (by decide) (fun h34 => ?_) (fun h34 => ?_)
      refine r_aload_n dX4_raise_37 rfl ?_
      refine r_aload_n dX4_raise_38 rfl ?_
      refine r_getf dX4_raise_39 fX4_35 (by repeat first | exact wu_eq | assumption | (apply wu_ne; first | omega | assumption | (apply Ne.symm; assumption))) (by rfl) ?_
      refine r_aload_n dX4_raise_42 rfl ?_
      refine r_getf dX4_raise_43 fX4_35 (by repeat first | exact wu_eq | assumption | (apply wu_ne; first | omega | assumption | (apply Ne.symm; assumption))) (by rfl) ?_
      refine r_aload_n dX4_raise_46 rfl ?_
      refine r_getf dX4_raise_47 fX4_35 (by repeat first | exact wu_eq | assumption | (apply wu_ne; first | omega | assumption | (apply Ne.symm; assumption))) (by rfl) ?_
      refine r_invV dX4_raise_50 kX4_80 (c_mc (W := W) (ni := ni) (c := c) (S := S) (u := mt c W (x ^ (ev / 2 ^ (k + 1)))) (x := mt c W (x ^ (ev / 2 ^ (k + 1)))) (y := mt c W (x ^ (ev / 2 ^ (k + 1)))) (by repeat first | exact wu_eq | assumption | (apply wu_ne; first | omega | assumption | (apply Ne.symm; assumption))) (by repeat first | exact wu_eq | assumption | (apply wu_ne; first | omega | assumption | (apply Ne.symm; assumption))) (by repeat first | exact wu_eq | assumption | (apply wu_ne; first | omega | assumption | (apply Ne.symm; assumption))) (by repeat first | exact wu_eq | assumption | (apply wu_ne; first | omega | assumption | (apply Ne.symm; assumption))) (by repeat first | exact wu_eq | assumption | (apply wu_ne; first | omega | assumption | (apply Ne.symm; assumption))) (by repeat first | exact wu_eq | assumption | (apply wu_ne; first | omega | assumption | (apply Ne.symm; assumption))) (by omega) (by omega) (by omega) (by omega) (by omega) b8 b9 b7 (hmW _) (mt_lt hc0) (hmW _) hS b4 b5) rfl rfl (by repeat first | exact wu_eq | assumption | (apply wu_ne; first | omega | assumption | (apply Ne.symm; assumption))) rfl rfl ⟨by decide, by decide⟩ (Nat.le_of_ble_eq_true rfl) ⟨by decide, by decide⟩ ⟨rfl, rfl⟩ ?_
      rintro _ _ _ ⟨S', z, hS', hz, hzc, rfl, rfl, rfl⟩
      refine r_aload_n dX4_raise_53 rfl ?_
      refine r_iload dX4_raise_54 rfl ?_
      have hz1 := mt_mul b5 hc0 hz hzc
      subst hz1
      rw [show wu (wu (wu (wu (wu w (M + 5) (aN W (mt c W x))) (M + 6) (aN W (mt c W (x ^ (ev / 2 ^ (k + 1)))))) (M + 7) (aN (W + 2) S)) (M + 7) (aN (W + 2) S')) (M + 6) (aN W (mt c W (x ^ (ev / 2 ^ (k + 1)) * x ^ (ev / 2 ^ (k + 1))))) = wu (wu (wu w (M + 5) (aN W (mt c W x))) (M + 6) (aN W (mt c W (x ^ (ev / 2 ^ (k + 1)) * x ^ (ev / 2 ^ (k + 1)))))) (M + 7) (aN (W + 2) S') by funext j; simp only [wu]; (repeat' split) <;> first | rfl | omega]
      refine r_invS dX4_raise_56 kX4_76 (c_bitAt (n := n) (v := ev) (q := k) (c := cE) (by repeat first | exact wu_eq | assumption | (apply wu_ne; first | omega | assumption | (apply Ne.symm; assumption))) hcE (by omega) hev (by omega)) rfl rfl ⟨by decide, by decide⟩ (Nat.le_of_ble_eq_true rfl) ⟨by decide, by decide⟩ ⟨rfl, rfl⟩ ?_
      rintro _ _ _ ⟨rfl, rfl, rfl⟩
      first | refine r_if_eqN (tgt := 78) dX4_raise_59 (by decide) (by omega) (fun h59 => ?_) (fun h59 => ?_) | refine r_if_eq (tgt := 78) dX4_raise_59 (by decide) (fun h59 => ?_) (fun h59 => ?_)
      · refine r_iinc (L0 := [(0, _), (1, _), (2, _), (3, _)]) dX4_raise_78 rfl (by first | exact iincm1' _ | rfl) (by decide) rfl ?_
        refine r_goto (tgt := 32) dX4_raise_81 (by decide) ?_
        rw [if_pos h59, Nat.mul_one] at hst
        rw [hst]
        exact ih (by omega) S' hS'
      · refine r_aload_n dX4_raise_62 rfl ?_
        refine r_aload_n dX4_raise_63 rfl ?_
        refine r_getf dX4_raise_64 fX4_35 (by repeat first | exact wu_eq | assumption | (apply wu_ne; first | omega | assumption | (apply Ne.symm; assumption))) (by rfl) ?_
        refine r_aload_n dX4_raise_67 rfl ?_
        refine r_getf dX4_raise_68 fX4_35 (by repeat first | exact wu_eq | assumption | (apply wu_ne; first | omega | assumption | (apply Ne.symm; assumption))) (by rfl) ?_
        refine r_aload_n dX4_raise_71 rfl ?_
        refine r_getf dX4_raise_72 fX4_32 (by repeat first | exact wu_eq | assumption | (apply wu_ne; first | omega | assumption | (apply Ne.symm; assumption))) (by rfl) ?_
        refine r_invV dX4_raise_75 kX4_80 (c_mc (W := W) (ni := ni) (c := c) (S := S') (u := mt c W (x ^ (ev / 2 ^ (k + 1)) * x ^ (ev / 2 ^ (k + 1)))) (x := mt c W (x ^ (ev / 2 ^ (k + 1)) * x ^ (ev / 2 ^ (k + 1)))) (y := mt c W x) (by repeat first | exact wu_eq | assumption | (apply wu_ne; first | omega | assumption | (apply Ne.symm; assumption))) (by repeat first | exact wu_eq | assumption | (apply wu_ne; first | omega | assumption | (apply Ne.symm; assumption))) (by repeat first | exact wu_eq | assumption | (apply wu_ne; first | omega | assumption | (apply Ne.symm; assumption))) (by repeat first | exact wu_eq | assumption | (apply wu_ne; first | omega | assumption | (apply Ne.symm; assumption))) (by repeat first | exact wu_eq | assumption | (apply wu_ne; first | omega | assumption | (apply Ne.symm; assumption))) (by repeat first | exact wu_eq | assumption | (apply wu_ne; first | omega | assumption | (apply Ne.symm; assumption))) (by omega) (by omega) (by omega) (by omega) (by omega) b8 b9 b7 (hmW _) (mt_lt hc0) (hmW _) hS' b4 b5) rfl rfl (by repeat first | exact wu_eq | assumption | (apply wu_ne; first | omega | assumption | (apply Ne.symm; assumption))) rfl rfl ⟨by decide, by decide⟩ (Nat.le_of_ble_eq_true rfl) ⟨by decide, by decide⟩ ⟨rfl, rfl⟩ ?_
        rintro _ _ _ ⟨S2, z, hS2, hz, hzc, rfl, rfl, rfl⟩
        refine r_iinc (L0 := [(0, _), (1, _), (2, _), (3, _)]) dX4_raise_78 rfl (by first | exact iincm1' _ | rfl) (by decide) rfl ?_
        refine r_goto (tgt := 32) dX4_raise_81 (by decide) ?_
        have hz1 := mt_mul b5 hc0 hz hzc
        subst hz1
        rw [if_neg h59] at hst
        rw [hst, show wu (wu (wu (wu (wu w (M + 5) (aN W (mt c W x))) (M + 6) (aN W (mt c W (x ^ (ev / 2 ^ (k + 1)) * x ^ (ev / 2 ^ (k + 1)))))) (M + 7) (aN (W + 2) S')) (M + 7) (aN (W + 2) S2)) (M + 6) (aN W (mt c W (x ^ (ev / 2 ^ k)))) = wu (wu (wu w (M + 5) (aN W (mt c W x))) (M + 6) (aN W (mt c W (x ^ (ev / 2 ^ k))))) (M + 7) (aN (W + 2) S2) by funext j; simp only [wu]; (repeat' split) <;> first | rfl | omega]
        exact ih (by omega) S2 hS2
  refine ab_Ct.of (by decide +kernel) (Nat.le_of_ble_eq_true rfl) (by rintro _ _ _ ⟨-, -, -, rfl, -⟩; trivial) ?_
  show ab_St MX4_raise g 0 0 0 [(0, .ref M), (1, .ref t), (2, .ref a), (3, .ref e)] [] _ _ _
  refine r_aload_n dX4_raise_0 rfl ?_
  refine r_aload_n dX4_raise_1 rfl ?_
  refine r_getf dX4_raise_2 fX4_32 (by repeat first | exact wu_eq | assumption | (apply wu_ne; first | omega | assumption | (apply Ne.symm; assumption))) (by rfl) ?_
  refine r_aload_n dX4_raise_5 rfl ?_
  refine r_aload_n dX4_raise_6 rfl ?_
  refine r_getf dX4_raise_7 fX4_29 (by repeat first | exact wu_eq | assumption | (apply wu_ne; first | omega | assumption | (apply Ne.symm; assumption))) (by rfl) ?_
  refine r_invV dX4_raise_10 kX4_80 (c_mc (W := W) (ni := ni) (c := c) (S := S0) (u := b0) (x := x) (y := 4294967296 ^ W * 4294967296 ^ W % c) a0 a1 a7 a5 ha a4 (by omega) (by omega) (by omega) (by omega) (by omega) b8 b9 b7 b1 hx (Nat.lt_trans (Nat.mod_lt _ hc0) b7) b3 b4 b5) rfl rfl (by repeat first | exact wu_eq | assumption | (apply wu_ne; first | omega | assumption | (apply Ne.symm; assumption))) rfl rfl ⟨by decide, by decide⟩ (Nat.le_of_ble_eq_true rfl) ⟨by decide, by decide⟩ ⟨rfl, rfl⟩ ?_
  rintro _ _ _ ⟨S', z, hS', hz, hzc, rfl, rfl, rfl⟩
  refine r_aload_n dX4_raise_13 rfl ?_
  refine r_getf dX4_raise_14 fX4_35 (by repeat first | exact wu_eq | assumption | (apply wu_ne; first | omega | assumption | (apply Ne.symm; assumption))) (by rfl) ?_
  refine r_aload_n dX4_raise_17 rfl ?_
  refine r_getf dX4_raise_18 fX4_26 (by repeat first | exact wu_eq | assumption | (apply wu_ne; first | omega | assumption | (apply Ne.symm; assumption))) (by rfl) ?_
  have hz1 := mt_in b5 hc0 hz hzc
  subst hz1
  refine r_invS dX4_raise_21 kX4_41 (c_copy (n := W) (m := W) (u := r0) (v := 4294967296 ^ W % c) (by omega) (by repeat first | exact wu_eq | assumption | (apply wu_ne; first | omega | assumption | (apply Ne.symm; assumption))) (by repeat first | exact wu_eq | assumption | (apply wu_ne; first | omega | assumption | (apply Ne.symm; assumption))) (by omega) (by omega) b2 (Nat.lt_trans (Nat.mod_lt _ hc0) b7)) rfl rfl ⟨by decide, by decide⟩ (Nat.le_of_ble_eq_true rfl) ⟨by decide, by decide⟩ ⟨rfl, rfl⟩ ?_
  rintro _ _ _ ⟨rfl, rfl, rfl⟩
  refine r_aload_n dX4_raise_24 rfl ?_
  refine r_invS dX4_raise_25 kX4_72 (c_bitCount (n := n) (v := ev) (c := cE) (by repeat first | exact wu_eq | assumption | (apply wu_ne; first | omega | assumption | (apply Ne.symm; assumption))) hcE (by omega) hn0 hev) rfl rfl ⟨by decide, by decide⟩ (Nat.le_of_ble_eq_true rfl) ⟨by decide, by decide⟩ ⟨rfl, rfl⟩ ?_
  rintro _ _ _ ⟨rfl, rfl, rfl⟩
  refine r_iconst (v := nI 1) dX4_raise_28 (by decide) ?_
  rw [show (nI 1 : Int32) = 1 by decide]
  refine r_isub dX4_raise_29 ?_
  refine r_istore (i := 4) (L0 := [(0, _), (1, _), (2, _), (3, _)]) dX4_raise_30 (by decide) rfl ?_
  have h := K (bl ev) (Nat.le_refl _) S' hS'
  rw [Nat.div_eq_of_lt bl_lt, Nat.pow_zero] at h
  rw [Nat.mod_eq_of_lt (Nat.lt_trans (Nat.mod_lt (4294967296 ^ W) hc0) b7), show wu (wu (wu w (M + 7) (aN (W + 2) S')) (M + 5) (aN W (mt c W x))) (M + 6) (aN W (4294967296 ^ W % c)) = wu (wu (wu w (M + 5) (aN W (mt c W x))) (M + 6) (aN W (mt c W 1))) (M + 7) (aN (W + 2) S') by unfold mt; rw [Nat.one_mul]; funext j; simp only [wu]; (repeat' split) <;> first | rfl | omega]
  exact h
set_option maxRecDepth 100000 in
set_option maxHeartbeats 4000000 in
theorem c_times {g : ab_G} {N M W c t a b u x y : Nat} {w : ab_W} (hM : MOK w M W c) (ht : w t = aN W u) (hu : u < 4294967296 ^ W) (ha : w a = aN W x) (hx : x < c) (hb : w b = aN W y) (hy : y < 4294967296 ^ W) (htM : t < M ∨ M + 7 < t) (haM : a < M ∨ M + 7 < a) (hbM : b < M ∨ M + 7 < b) : ab_Ct MX4_times g [.ref M, .ref t, .ref a, .ref b] N w (fun r N' w' => MOK w' M W c ∧ w' t = aN W (x * y % c) ∧ FR w w' M t ∧ r = none ∧ N = N') := by
  obtain ⟨ni, b0, r0, S0, a0, a1, a2, a3, a4, a5, a6, a7, b1, b2, b3, b4, b5, b6, b7, b8, b9⟩ := hM
  have hc0 : 0 < c := by omega
  have hmW : ∀ y, mt c W y < 4294967296 ^ W := fun y => Nat.lt_trans (mt_lt hc0) b7
  refine ab_Ct.of (by decide +kernel) (Nat.le_of_ble_eq_true rfl) (by rintro _ _ _ ⟨-, -, -, rfl, -⟩; trivial) ?_
  show ab_St MX4_times g 0 0 0 [(0, .ref M), (1, .ref t), (2, .ref a), (3, .ref b)] [] _ _ _
  refine r_aload_n dX4_times_0 rfl ?_
  refine r_aload_n dX4_times_1 rfl ?_
  refine r_getf dX4_times_2 fX4_32 (by repeat first | exact wu_eq | assumption | (apply wu_ne; first | omega | assumption | (apply Ne.symm; assumption))) (by rfl) ?_
  refine r_aload_n dX4_times_5 rfl ?_
  refine r_aload_n dX4_times_6 rfl ?_
  refine r_getf dX4_times_7 fX4_29 (by repeat first | exact wu_eq | assumption | (apply wu_ne; first | omega | assumption | (apply Ne.symm; assumption))) (by rfl) ?_
  refine r_invV dX4_times_10 kX4_80 (c_mc (W := W) (ni := ni) (c := c) (S := S0) (u := b0) (x := x) (y := 4294967296 ^ W * 4294967296 ^ W % c) a0 a1 a7 a5 ha a4 (by omega) (by omega) (by omega) (by omega) (by omega) b8 b9 b7 b1 hx (Nat.lt_trans (Nat.mod_lt _ hc0) b7) b3 b4 b5) rfl rfl (by repeat first | exact wu_eq | assumption | (apply wu_ne; first | omega | assumption | (apply Ne.symm; assumption))) rfl rfl ⟨by decide, by decide⟩ (Nat.le_of_ble_eq_true rfl) ⟨by decide, by decide⟩ ⟨rfl, rfl⟩ ?_
  rintro _ _ _ ⟨S', z, hS', hz, hzc, rfl, rfl, rfl⟩
  refine r_aload_n dX4_times_13 rfl ?_
  refine r_aload_n dX4_times_14 rfl ?_
  refine r_aload_n dX4_times_15 rfl ?_
  refine r_getf dX4_times_16 fX4_32 (by repeat first | exact wu_eq | assumption | (apply wu_ne; first | omega | assumption | (apply Ne.symm; assumption))) (by rfl) ?_
  refine r_aload_n dX4_times_19 rfl ?_
  have hz1 := mt_in b5 hc0 hz hzc
  subst hz1
  refine r_invV dX4_times_20 kX4_80 (c_mc (W := W) (ni := ni) (c := c) (S := S') (u := u) (x := mt c W x) (y := y) (by repeat first | exact wu_eq | assumption | (apply wu_ne; first | omega | assumption | (apply Ne.symm; assumption))) (by repeat first | exact wu_eq | assumption | (apply wu_ne; first | omega | assumption | (apply Ne.symm; assumption))) (by repeat first | exact wu_eq | assumption | (apply wu_ne; first | omega | assumption | (apply Ne.symm; assumption))) (by repeat first | exact wu_eq | assumption | (apply wu_ne; first | omega | assumption | (apply Ne.symm; assumption))) (by repeat first | exact wu_eq | assumption | (apply wu_ne; first | omega | assumption | (apply Ne.symm; assumption))) (by repeat first | exact wu_eq | assumption | (apply wu_ne; first | omega | assumption | (apply Ne.symm; assumption))) (by omega) (by omega) (by omega) (by omega) (by omega) b8 b9 b7 hu (mt_lt hc0) hy hS' b4 b5) rfl rfl (by repeat first | exact wu_eq | assumption | (apply wu_ne; first | omega | assumption | (apply Ne.symm; assumption))) rfl rfl ⟨by decide, by decide⟩ (Nat.le_of_ble_eq_true rfl) ⟨by decide, by decide⟩ ⟨rfl, rfl⟩ ?_
  rintro _ _ _ ⟨S2, z, hS2, hz, hzc, rfl, rfl, rfl⟩
  refine r_ret (r := none) dX4_times_23 (by decide) (by decide) ?_
  have hz1 := mt_times b5 hc0 hz hzc
  subst hz1
  refine ⟨⟨ni, mt c W x, r0, S2, (by repeat first | exact wu_eq | assumption | (apply wu_ne; first | omega | assumption | (apply Ne.symm; assumption))), (by repeat first | exact wu_eq | assumption | (apply wu_ne; first | omega | assumption | (apply Ne.symm; assumption))), (by repeat first | exact wu_eq | assumption | (apply wu_ne; first | omega | assumption | (apply Ne.symm; assumption))), (by repeat first | exact wu_eq | assumption | (apply wu_ne; first | omega | assumption | (apply Ne.symm; assumption))), (by repeat first | exact wu_eq | assumption | (apply wu_ne; first | omega | assumption | (apply Ne.symm; assumption))), (by repeat first | exact wu_eq | assumption | (apply wu_ne; first | omega | assumption | (apply Ne.symm; assumption))), (by repeat first | exact wu_eq | assumption | (apply wu_ne; first | omega | assumption | (apply Ne.symm; assumption))), (by repeat first | exact wu_eq | assumption | (apply wu_ne; first | omega | assumption | (apply Ne.symm; assumption))), hmW _, b2, hS2, b4, b5, b6, b7, b8, b9⟩, wu_eq, ?_, rfl, rfl⟩
  intro j h1 h2
  exact wu_ne h1 (wu_ne (by omega) (wu_ne (by omega) (wu_ne (by omega) rfl)))
