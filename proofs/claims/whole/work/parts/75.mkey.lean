/-! SignHouseModel: inverse, makesKey -/
theorem p65537 : ∀ d, d < 257 → 65537 % d = 0 → d = 1 := by decide +kernel
theorem e_cop {r : Nat} (h : r % 65537 ≠ 0) : Nat.gcd r 65537 = 1 := by
  have h1 : Nat.gcd r 65537 ∣ 65537 := Nat.gcd_dvd_right r 65537
  have h2 : Nat.gcd r 65537 ∣ r := Nat.gcd_dvd_left r 65537
  obtain ⟨e, he⟩ := h1
  generalize Nat.gcd r 65537 = g at *
  by_cases hg : g < 257
  · exact p65537 g hg (by rw [he]; exact Nat.mul_mod_right g e)
  · exfalso
    have he2 : e < 257 := by
      refine Nat.lt_of_not_le fun q => ?_
      have : 257 * 257 ≤ g * e := Nat.mul_le_mul (by omega) q
      omega
    have h3 := p65537 e he2 (by rw [he]; exact Nat.mul_mod_left g e)
    rw [h3, Nat.mul_one] at he
    rw [← he] at h2
    exact h (Nat.mod_eq_zero_of_dvd h2)
theorem iE_ne {r : Nat} (h : r % 65537 ≠ 0) : iE r ≠ 0 := by
  intro h0
  have h1 : 65537 ∣ r ^ 65535 := Nat.dvd_of_mod_eq_zero h0
  have h2 : Nat.Coprime (r ^ 65535) 65537 := Nat.Coprime.pow_left _ (e_cop h)
  have h3 : (65537 : Nat) ∣ Nat.gcd (r ^ 65535) 65537 := Nat.dvd_gcd h1 (Nat.dvd_refl _)
  rw [h2] at h3
  exact absurd (Nat.le_of_dvd (by decide) h3) (by decide)
theorem e_mul {a b : Nat} (ha : a % 65537 ≠ 0) (hb : b % 65537 ≠ 0) : a * b % 65537 ≠ 0 := by
  intro h0
  have h1 : 65537 ∣ a * b := Nat.dvd_of_mod_eq_zero h0
  have h2 : Nat.Coprime 65537 a := by
    rw [Nat.coprime_comm]
    exact e_cop ha
  exact hb (Nat.mod_eq_zero_of_dvd (h2.dvd_of_dvd_mul_left h1))
theorem dE_le (x : Nat) : dE x ≤ x := by
  unfold dE
  have h1 : x * (65537 - iE (x % 65537)) ≤ x * 65537 := Nat.mul_le_mul_left x (Nat.sub_le _ _)
  have h2 : (x * 65537 + 1) / 65537 = x := by omega
  exact Nat.le_trans (Nat.div_le_div_right (by omega)) (Nat.le_of_eq h2)
theorem pow_stepE (r k : Nat) : r ^ k % 65537 * r % 65537 = r ^ (k + 1) % 65537 := by
  rw [Nat.pow_succ, Nat.mul_mod (r ^ k), Nat.mul_mod (r ^ k % 65537), Nat.mod_mod]
def bn42 (x : Nat) : Prop := x < 65536 ^ 42
theorem bn_aux {k x Y : Nat} (h2 : k * x ≤ 65537 * x) (h3 : (x + 1) * 65537 ≤ Y) : 1 + k * x ≤ Y := by
  rw [Nat.add_mul, Nat.mul_comm x] at h3
  omega
theorem bn42.e {x k : Nat} (h : bn42 x) (hk : k ≤ 65537) : bnd (1 + k * x) := by
  have h1 : 1 + k * x ≤ 65536 ^ 42 * 65537 := by
    have h2 : k * x ≤ 65537 * x := Nat.mul_le_mul_right x hk
    have h3 : (x + 1) * 65537 ≤ 65536 ^ 42 * 65537 := Nat.mul_le_mul_right 65537 h
    exact bn_aux h2 h3
  refine Nat.lt_of_le_of_lt h1 ?_
  have h4 : 65536 ^ 42 * 65537 < 65536 ^ 42 * 65536 ^ 42 := Nat.mul_lt_mul_of_pos_left (Nat.lt_of_lt_of_le (by decide : 65537 < 65536 ^ 2) (Nat.pow_le_pow_right (by decide) (by decide))) (Nat.pow_pos (by decide))
  rw [← Nat.pow_add] at h4
  exact h4
theorem bn42.b {x : Nat} (h : bn42 x) : bnd x := Nat.lt_trans h (Nat.pow_lt_pow_right (by decide) (by decide))
set_option maxRecDepth 100000 in
set_option maxHeartbeats 4000000 in
theorem c_inverse {g : ab_G} {N t s : Nat} {v : Nat → Nat} {fs : List Value} {w : ab_W} (h : w 74 = mdX fs) (hx : w 75 = xA v) (ht : t < 19) (hs : s < 19) (hst : s ≠ t) (hV : bn42 (v s)) (hr : v s % 65537 ≠ 0) : ab_Ct MX8_inverse g [.ref 74, .int (nI t), .int (nI s)] N w (rt none N (wu w 75 (xA (us v t (dE (v s)))))) := by
  have hr1 : v s % 65537 < 65537 := Nat.mod_lt _ (by decide)
  have hr2 : v s % 65537 % 65537 ≠ 0 := by rw [Nat.mod_mod]; exact hr
  have hi0 := iE_ne hr2
  have hi1 := iE_lt (v s % 65537)
  have hdE : dE (v s) = (1 + (65537 - iE (v s % 65537)) * v s) / 65537 := by
    unfold dE
    rw [Nat.mul_comm, Nat.add_comm]
  have hpe : iE (v s % 65537) = (v s % 65537) ^ 65535 % 65537 := rfl
  have hbV := hV.b
  have hbE := hV.e (k := 65537 - iE (v s % 65537)) (Nat.sub_le _ _)
  generalize hre : v s % 65537 = r at *
  generalize hie : iE r = ie at *
  clear hr hr2 hV
  have K : ∀ z k, k + z = 65535 → ab_St MX8_inverse g 0 0 15 [(7, .int (nI k)), (5, .long (lN (r ^ k % 65537))), (3, .long (lN r)), (0, .ref 74), (1, .int (nI t)), (2, .int (nI s))] [] N w (rt none N (wu w 75 (xA (us v t (dE (v s)))))) := by
    intro z
    induction z with
    | zero =>
      intro k hk
      obtain rfl : k = 65535 := by omega
      rw [← hpe]
      clear hpe
      have hkk : 65537 - ie < 65537 := by omega
      refine r_iload dX8_inverse_15 rfl ?_
      refine r_ldc dX8_inverse_17 qX8_124 ?_
      refine r_toI (y := nI 65535) rfl ?_
      first | refine r_icmp_geN (tgt := 38) dX8_inverse_19 (by decide) (by omega) (by omega) (fun h19 => ?_) (fun h19 => ?_) | refine r_icmp_ge (tgt := 38) dX8_inverse_19 (by decide) (fun h19 => ?_) (fun h19 => ?_)
      · refine r_aload_n dX8_inverse_38 rfl ?_
        refine r_iload_n dX8_inverse_39 rfl ?_
        refine r_iload_n dX8_inverse_40 rfl ?_
        refine r_invV dX8_inverse_41 kX8_139 (c_mcopy (t := t) (s := s) (v := v) h hx ht hs hst) rfl rfl (by repeat first | exact wu_eq | assumption | (apply wu_ne; first | omega | assumption | (apply Ne.symm; assumption))) rfl rfl ⟨by decide, by decide⟩ (Nat.le_of_ble_eq_true rfl) ⟨by decide, by decide⟩ ⟨rfl, rfl⟩ ?_
        rintro _ _ _ ⟨rfl, rfl, rfl⟩
        refine r_aload_n dX8_inverse_44 rfl ?_
        refine r_iload_n dX8_inverse_45 rfl ?_
        refine r_ldc2 dX8_inverse_46 qX8_226 ?_
        refine r_toJ (y := lN 65537) rfl ?_
        refine r_lload dX8_inverse_49 rfl ?_
        first | refine r_lsubN dX8_inverse_51 (by omega) ?_ | refine r_lsub dX8_inverse_51 ?_
        refine r_ldc2 dX8_inverse_52 qX8_226 ?_
        refine r_toJ (y := lN 65537) rfl ?_
        refine r_lrem dX8_inverse_55 (by decide) ?_
        rw [lN_rem (by omega) (by decide) (by decide), Nat.mod_eq_of_lt hkk]
        first | refine r_l2iN dX8_inverse_56 ?_ | refine r_l2i dX8_inverse_56 ?_
        refine r_iconst (v := nI 1) dX8_inverse_57 (by decide) ?_
        refine r_invV dX8_inverse_58 kX8_228 (c_growsSmall (a := t) (y := 65537 - ie) (e := 1) (v := us v t (v s)) (by repeat first | exact wu_eq | assumption | (apply wu_ne; first | omega | assumption | (apply Ne.symm; assumption))) wu_eq ht (by omega) (by decide) (by rw [us_eq]; exact hbE)) rfl rfl (by repeat first | exact wu_eq | assumption | (apply wu_ne; first | omega | assumption | (apply Ne.symm; assumption))) rfl rfl ⟨by decide, by decide⟩ (Nat.le_of_ble_eq_true rfl) ⟨by decide, by decide⟩ ⟨rfl, rfl⟩ ?_
        rintro _ _ _ ⟨rfl, rfl, rfl⟩
        rw [wu_wu, us_eq, us_us]
        refine r_aload_n dX8_inverse_61 rfl ?_
        refine r_iload_n dX8_inverse_62 rfl ?_
        refine r_ldc dX8_inverse_63 qX8_219 ?_
        refine r_toI (y := nI 65537) rfl ?_
        refine r_invV dX8_inverse_65 kX8_231 (c_shareSmall (a := t) (y := 65537) (v := us v t (1 + (65537 - ie) * v s)) (by repeat first | exact wu_eq | assumption | (apply wu_ne; first | omega | assumption | (apply Ne.symm; assumption))) wu_eq ht (by rw [us_eq]; exact hbE) (by decide) (by decide)) rfl rfl (by repeat first | exact wu_eq | assumption | (apply wu_ne; first | omega | assumption | (apply Ne.symm; assumption))) rfl rfl ⟨by decide, by decide⟩ (Nat.le_of_ble_eq_true rfl) ⟨by decide, by decide⟩ ⟨rfl, rfl⟩ ?_
        rintro _ _ _ ⟨rfl, rfl, rfl⟩
        rw [wu_wu, us_eq, us_us, ← hdE]
        refine r_ret (r := none) dX8_inverse_68 (by decide) (by decide) ?_
        exact ⟨rfl, rfl, rfl⟩
      · omega
    | succ z ih =>
      intro k hk
      have ih1 := ih (k + 1) (by omega)
      rw [← pow_stepE r k] at ih1
      have hlt : r ^ k % 65537 < 65537 := Nat.mod_lt _ (by decide)
      generalize r ^ k % 65537 = x at ih1 hlt ⊢
      have hm : x * r ≤ 65536 * 65536 := Nat.mul_le_mul (by omega) (by omega)
      clear hpe ih hbE hbV hdE hie hre
      refine r_iload dX8_inverse_15 rfl ?_
      refine r_ldc dX8_inverse_17 qX8_124 ?_
      refine r_toI (y := nI 65535) rfl ?_
      first | refine r_icmp_geN (tgt := 38) dX8_inverse_19 (by decide) (by omega) (by omega) (fun h19 => ?_) (fun h19 => ?_) | refine r_icmp_ge (tgt := 38) dX8_inverse_19 (by decide) (fun h19 => ?_) (fun h19 => ?_)
      · omega
      · refine r_lload dX8_inverse_22 rfl ?_
        refine r_lload_n dX8_inverse_24 rfl ?_
        first | refine r_lmulN dX8_inverse_25 ?_ | refine r_lmul dX8_inverse_25 ?_
        refine r_ldc2 dX8_inverse_26 qX8_226 ?_
        refine r_toJ (y := lN 65537) rfl ?_
        refine r_lrem dX8_inverse_29 (by decide) ?_
        rw [lN_rem (by omega) (by decide) (by decide)]
        refine r_lstore (i := 5) (L0 := [(7, _), (3, _), (0, _), (1, _), (2, _)]) dX8_inverse_30 (by decide) rfl ?_
        refine r_iinc (L0 := [(5, _), (3, _), (0, _), (1, _), (2, _)]) dX8_inverse_32 rfl (by first | exact iinc1 _ | rfl) (by decide) rfl ?_
        refine r_goto (tgt := 15) dX8_inverse_35 (by decide) ?_
        refine r_sub [0, 1, 2, 3, 4, 5] rfl ?_
        exact ih1
  refine ab_Ct.of (by decide +kernel) (Nat.le_of_ble_eq_true rfl) (by rintro _ _ _ ⟨rfl, rfl, rfl⟩; trivial) ?_
  show ab_St MX8_inverse g 0 0 0 [(0, .ref 74), (1, .int (nI t)), (2, .int (nI s))] [] _ _ _
  refine r_aload_n dX8_inverse_0 rfl ?_
  refine r_iload_n dX8_inverse_1 rfl ?_
  refine r_ldc dX8_inverse_2 qX8_219 ?_
  refine r_toI (y := nI 65537) rfl ?_
  refine r_invV dX8_inverse_4 kX8_191 (c_restSmall (a := s) (y := 65537) h hx hs hbV (by decide) (by decide)) rfl rfl (by repeat first | exact wu_eq | assumption | (apply wu_ne; first | omega | assumption | (apply Ne.symm; assumption))) rfl rfl ⟨by decide, by decide⟩ (Nat.le_of_ble_eq_true rfl) ⟨by decide, by decide⟩ ⟨rfl, rfl⟩ ?_
  rintro _ _ _ ⟨rfl, rfl, rfl⟩
  rw [hre]
  clear hpe
  first | refine r_i2lN dX8_inverse_7 (by omega) ?_ | refine r_i2l dX8_inverse_7 ?_
  refine r_lstore_n (i := 3) (L0 := [(0, _), (1, _), (2, _)]) dX8_inverse_8 rfl (by decide) rfl ?_
  refine r_lconst (v := lN 1) dX8_inverse_9 (by decide) ?_
  refine r_lstore (i := 5) (L0 := [(3, _), (0, _), (1, _), (2, _)]) dX8_inverse_10 (by decide) rfl ?_
  refine r_iconst (v := nI 0) dX8_inverse_12 (by decide) ?_
  refine r_istore (i := 7) (L0 := [(5, _), (3, _), (0, _), (1, _), (2, _)]) dX8_inverse_13 (by decide) rfl ?_
  have hh := K 65535 0 (by decide)
  rw [Nat.pow_zero] at hh
  refine r_sub [0, 1, 2, 3, 4, 5] rfl ?_
  exact hh
