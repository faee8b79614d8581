/-! SignHouse$KeyRows: invertE -/
abbrev krO (made : Nat) : ab_C := aO 2 [.ref 29, .ref 37, .ref 45, .ref 53, .ref 54, .ref 55, .ref 56, .ref 57, .ref 58, .ref 59, .ref 60, .ref 61, .ref 62, .ref 63, .ref 64, .ref 65, .int (nI made)]
/-- the inverse of r, by powering -/
def iE (r : Nat) : Nat := r ^ 65535 % 65537
theorem iE_lt (r : Nat) : iE r < 65537 := Nat.mod_lt _ (by decide)
theorem c_iE {g : ab_G} {N r : Nat} {w : ab_W} (hr : r < 65537) : ab_Ct MX2_inverseByE g [.long (lN r)] N w (rp (some (.long (lN (iE r)))) N w) := c_inverseByE hr
/-- the one number of v * k + 1 that E divides, divided -/
def dE (v : Nat) : Nat := (v * (65537 - iE (v % 65537)) + 1) / 65537
/-- the carry before limb i of v * k + 1 -/
def ik (v k i : Nat) : Nat := (v % 4294967296 ^ i * k + 1) / 4294967296 ^ i
theorem ik_0 (v k : Nat) : ik v k 0 = 1 := by
  unfold ik
  rw [Nat.pow_zero, Nat.mod_one, Nat.zero_mul, Nat.div_one]
theorem ik_step (v k i : Nat) : dg 4294967296 v i * k + ik v k i = (v % 4294967296 ^ (i + 1) * k + 1) / 4294967296 ^ i := by
  unfold ik
  rw [dg_succ, Nat.add_mul, Nat.mul_assoc, show v % 4294967296 ^ i * k + 4294967296 ^ i * (dg 4294967296 v i * k) + 1 = v % 4294967296 ^ i * k + 1 + 4294967296 ^ i * (dg 4294967296 v i * k) by omega, Nat.add_mul_div_left _ _ (Nat.pow_pos (by decide)), Nat.add_comm]
theorem ik_succ (v k i : Nat) : (dg 4294967296 v i * k + ik v k i) / 4294967296 = ik v k (i + 1) := by
  rw [ik_step, Nat.div_div_eq_div_mul, ← Nat.pow_succ]
  rfl
theorem ik_dg (v k i : Nat) : (dg 4294967296 v i * k + ik v k i) % 4294967296 = dg 4294967296 (v * k + 1) i := by
  rw [ik_step]
  unfold dg
  have h : v * k + 1 = v % 4294967296 ^ (i + 1) * k + 1 + 4294967296 ^ i * (4294967296 * (v / 4294967296 ^ (i + 1) * k)) := by
    have e := Nat.mod_add_div v (4294967296 ^ (i + 1))
    have e2 : 4294967296 ^ i * (4294967296 * (v / 4294967296 ^ (i + 1) * k)) = 4294967296 ^ (i + 1) * (v / 4294967296 ^ (i + 1)) * k := by
      rw [← Nat.mul_assoc, ← Nat.pow_succ, Nat.mul_assoc]
    rw [e2]
    conv => lhs; rw [← e]
    rw [Nat.add_mul]
    omega
  rw [h, Nat.add_mul_div_left _ _ (Nat.pow_pos (by decide)), Nat.add_mul_mod_self_left]
theorem ik_le {v k i : Nat} (hk : 1 ≤ k) : ik v k i ≤ k := by
  unfold ik
  have hp : 0 < 4294967296 ^ i := Nat.pow_pos (by decide)
  have h1 : v % 4294967296 ^ i < 4294967296 ^ i := Nat.mod_lt _ hp
  refine Nat.div_le_of_le_mul ?_
  have h2 : (v % 4294967296 ^ i + 1) * k ≤ 4294967296 ^ i * k := Nat.mul_le_mul_right k h1
  rw [Nat.add_mul, Nat.one_mul] at h2
  omega
theorem ik_end {v k m : Nat} (hv : v < 4294967296 ^ m) (hk : 1 ≤ k) (hk2 : k < 4294967296) : ik v k m = dg 4294967296 (v * k + 1) m := by
  have h := ik_dg v k m
  rw [dg_big hv (Nat.le_refl m) (by decide), Nat.zero_mul, Nat.zero_add] at h
  rw [← h, Nat.mod_eq_of_lt (Nat.lt_of_le_of_lt (ik_le hk) hk2)]
/-- a limb of a quotient -/
theorem quo_step {d : Nat} (hd : 0 < d) (X i : Nat) : (X / 4294967296 ^ (i + 1) % d * 4294967296 + dg 4294967296 X i) / d = dg 4294967296 (X / d) i := by
  have h1 := dg_lt X i
  have hr : X / 4294967296 ^ (i + 1) % d < d := Nat.mod_lt _ hd
  have e := div_dg 4294967296 X i
  have e2 := Nat.div_add_mod (X / 4294967296 ^ (i + 1)) d
  unfold dg at h1 e ⊢
  rw [Nat.div_div_eq_div_mul, Nat.mul_comm d, ← Nat.div_div_eq_div_mul]
  generalize X / 4294967296 ^ i % 4294967296 = y at *
  rw [e]
  generalize X / 4294967296 ^ (i + 1) = Q at *
  generalize hR : Q % d = R at *
  have e3 : Q * 4294967296 + y = R * 4294967296 + y + d * (Q / d * 4294967296) := by
    rw [← Nat.mul_assoc]
    conv => lhs; rw [← e2]
    rw [Nat.add_mul]
    omega
  rw [e3, Nat.add_mul_div_left _ _ hd, Nat.add_mul_mod_self_right]
  refine (Nat.mod_eq_of_lt (Nat.div_lt_of_lt_mul ?_)).symm
  have : (R + 1) * 4294967296 ≤ d * 4294967296 := Nat.mul_le_mul_right _ hr
  omega
set_option maxRecDepth 100000 in
set_option maxHeartbeats 4000000 in
theorem c_invertE {g : ab_G} {N a b m M' u v made : Nat} {f0 : Nat → Int64} {w : ab_W} (h28 : w 28 = krO made) (ha : w a = aN m u) (hb : w b = aN m v) (hmu : w 63 = aJ M' f0) (hab : a ≠ b) (ha63 : a ≠ 63) (hb63 : b ≠ 63) (ha28 : a ≠ 28) (hm : m < M') (hM : M' ≤ 100) (hu : u < 4294967296 ^ m) (hv : v < 4294967296 ^ m) : ab_Ct MX2_invertE g [.ref 28, .ref a, .ref b] N w (fun r N' w' => ∃ f', r = none ∧ N = N' ∧ w' = wu (wu w 63 (aJ M' f')) a (aN m (dE v))) := by
  have hne : ¬ lN 65537 = 0 := by decide
  have hi := iE_lt (v % 65537)
  have hdE : dE v = (v * (65537 - iE (v % 65537)) + 1) / 65537 := rfl
  generalize hp : iE (v % 65537) = p at hi hdE
  have hk1 : 1 ≤ 65537 - p := by omega
  have hk2 : 65537 - p ≤ 65537 := by omega
  generalize hkk : 65537 - p = k at hk1 hk2 hdE
  generalize hX : v * k + 1 = X at hdE
  have hXB : X < 4294967296 ^ m * 65537 := by
    have h2 : v * k ≤ v * 65537 := Nat.mul_le_mul_left v hk2
    have h3 : (v + 1) * 65537 ≤ 4294967296 ^ m * 65537 := Nat.mul_le_mul_right _ hv
    rw [← hX]
    refine Nat.lt_of_lt_of_le ?_ h3
    rw [Nat.add_mul]
    omega
  have hD : X / 65537 < 4294967296 ^ m := Nat.div_lt_of_lt_mul (by rw [Nat.mul_comm]; exact hXB)
  have hend : ik v k m = dg 4294967296 X m := by rw [← hX]; exact ik_end hv hk1 (by omega)
  have htop : X / 4294967296 ^ (m + 1) = 0 := Nat.div_eq_of_lt (Nat.lt_of_lt_of_le hXB (by rw [Nat.pow_succ]; exact Nat.mul_le_mul_left _ (by decide)))
  have K2 : ∀ t, t ≤ m + 1 → ab_St MX2_invertE g 0 0 91 [(9, .int (nI t - 1)), (7, .long (lN (X / 4294967296 ^ t % 65537))), (0, .ref 28), (1, .ref a), (2, .ref b)] [] N (wu (wu w 63 (aJ M' (fl (m + 1) (rJ X) f0))) a (aJ m (fl t (rJ u) (rJ (X / 65537))))) (fun r N' w' => ∃ f', r = none ∧ N = N' ∧ w' = wu (wu w 63 (aJ M' f')) a (aN m (dE v))) := by
    intro t
    induction t with
    | zero =>
      intro _
      refine r_iload dX2_invertE_91 rfl ?_
      refine r_if_lt (tgt := 142) dX2_invertE_93 (by decide) (fun _ => ?_) (fun h => absurd nI0lt h)
      refine r_ret (r := none) dX2_invertE_142 (by decide) (by decide) ?_
      rw [fl_0, hdE]
      exact ⟨_, rfl, rfl, rfl⟩
    | succ t ih =>
      intro ht
      rw [i32_pm]
      have h1 := dg_lt X t
      have h2 : X / 4294967296 ^ (t + 1) % 65537 < 65537 := Nat.mod_lt _ (by decide)
      have e1 := rem_step X 65537 t
      have e2 := quo_step (d := 65537) (by decide) X t
      generalize X / 4294967296 ^ (t + 1) % 65537 = rr at h2 e1 e2 ⊢
      refine r_iload dX2_invertE_91 rfl ?_
      first | refine r_if_ltN (tgt := 142) dX2_invertE_93 (by decide) (by omega) (fun h93 => ?_) | refine r_if_lt (tgt := 142) dX2_invertE_93 (by decide) (fun h93 => ?_) (fun h93 => ?_)
      refine r_lload dX2_invertE_96 rfl ?_
      refine r_bipush (v := nI 32) dX2_invertE_98 (by decide) ?_
      first | refine r_lshlN 32 (by decide) dX2_invertE_100 ?_ | refine r_lshl dX2_invertE_100 ?_
      refine r_aload_n dX2_invertE_101 rfl ?_
      refine r_getf dX2_invertE_102 fX2_61 (by repeat first | exact wu_eq | assumption | (apply wu_ne; first | omega | assumption | (apply Ne.symm; assumption))) (by rfl) ?_
      refine r_iload dX2_invertE_105 rfl ?_
      refine r_laload' dX2_invertE_107 (wu_ne (Ne.symm ha63) wu_eq) (by rfl) _ rfl (by omega) (by omega) ?_
      rw [show fl (m + 1) (rJ X) f0 t = lN (dg 4294967296 X t) from fl_lo ht]
      refine r_lor dX2_invertE_108 ?_
      rw [lN_or_sum (q := 32) (by omega) (by omega), show (2 : Nat) ^ 32 = 4294967296 by decide]
      refine r_lstore (i := 10) (L0 := [(9, _), (7, _), (0, _), (1, _), (2, _)]) dX2_invertE_109 (by decide) rfl ?_
      refine r_iload dX2_invertE_111 rfl ?_
      refine r_aload_n dX2_invertE_113 rfl ?_
      refine r_alen' dX2_invertE_114 (by repeat first | exact wu_eq | assumption | (apply wu_ne; first | omega | assumption | (apply Ne.symm; assumption))) (by rfl) ?_
      first | refine r_icmp_geN (tgt := 128) dX2_invertE_115 (by decide) (by omega) (by omega) (fun h115 => ?_) (fun h115 => ?_) | refine r_icmp_ge (tgt := 128) dX2_invertE_115 (by decide) (fun h115 => ?_) (fun h115 => ?_)
      · refine r_lload dX2_invertE_128 rfl ?_
        refine r_ldc2 dX2_invertE_130 qX2_110 ?_
        refine r_toJ (y := lN 65537) rfl ?_
        refine r_lrem dX2_invertE_133 hne ?_
        rw [lN_rem (by omega) (by decide) (by decide), e1]
        refine r_lstore (i := 7) (L0 := [(10, _), (9, _), (0, _), (1, _), (2, _)]) dX2_invertE_134 (by decide) rfl ?_
        refine r_iinc (L0 := [(7, _), (10, _), (0, _), (1, _), (2, _)]) dX2_invertE_136 rfl (by first | exact iincm1' _ | rfl) (by decide) rfl ?_
        refine r_goto (tgt := 91) dX2_invertE_139 (by decide) ?_
        refine r_sub [0, 1, 3, 4, 5] rfl ?_
        have h := ih (by omega)
        rw [show fl t (rJ u) (rJ (X / 65537)) = fl (t + 1) (rJ u) (rJ (X / 65537)) by
          funext q
          unfold fl
          by_cases h1 : q < t
          · rw [if_pos h1, if_pos (by omega)]
          · rw [if_neg h1]
            by_cases h3 : q < t + 1
            · rw [if_pos h3]
              unfold rJ
              rw [dg_big hD (by omega) (by decide), dg_big hu (by omega) (by decide)]
            · rw [if_neg h3]] at h
        exact h
      · refine r_aload_n dX2_invertE_118 rfl ?_
        refine r_iload dX2_invertE_119 rfl ?_
        refine r_lload dX2_invertE_121 rfl ?_
        refine r_ldc2 dX2_invertE_123 qX2_110 ?_
        refine r_toJ (y := lN 65537) rfl ?_
        refine r_ldiv dX2_invertE_126 hne ?_
        rw [pk_lDiv (by omega) (by decide) (by decide), e2]
        refine r_lastore dX2_invertE_127 (by repeat first | exact wu_eq | assumption | (apply wu_ne; first | omega | assumption | (apply Ne.symm; assumption))) _ rfl (by omega) (by omega) ?_
        refine r_lload dX2_invertE_128 rfl ?_
        refine r_ldc2 dX2_invertE_130 qX2_110 ?_
        refine r_toJ (y := lN 65537) rfl ?_
        refine r_lrem dX2_invertE_133 hne ?_
        rw [lN_rem (by omega) (by decide) (by decide), e1]
        refine r_lstore (i := 7) (L0 := [(10, _), (9, _), (0, _), (1, _), (2, _)]) dX2_invertE_134 (by decide) rfl ?_
        refine r_iinc (L0 := [(7, _), (10, _), (0, _), (1, _), (2, _)]) dX2_invertE_136 rfl (by first | exact iincm1' _ | rfl) (by decide) rfl ?_
        refine r_goto (tgt := 91) dX2_invertE_139 (by decide) ?_
        refine r_sub [0, 1, 3, 4, 5] rfl ?_
        rw [wu_wu, fl_dn' (g := rJ (X / 65537)) (show lN (dg 4294967296 (X / 65537) t) = rJ (X / 65537) t from rfl)]
        exact ih (by omega)
  have K1 : ∀ j i, i + j = m → ab_St MX2_invertE g 0 0 31 [(7, .int (nI i)), (5, .long (lN (ik v k i))), (3, .long (lN k)), (0, .ref 28), (1, .ref a), (2, .ref b)] [] N (wu w 63 (aJ M' (fl i (rJ X) f0))) (fun r N' w' => ∃ f', r = none ∧ N = N' ∧ w' = wu (wu w 63 (aJ M' f')) a (aN m (dE v))) := by
    intro j
    induction j with
    | zero =>
      intro i hj
      obtain rfl : i = m := by omega
      refine r_iload dX2_invertE_31 rfl ?_
      refine r_aload_n dX2_invertE_33 rfl ?_
      refine r_alen' dX2_invertE_34 (by repeat first | exact wu_eq | assumption | (apply wu_ne; first | omega | assumption | (apply Ne.symm; assumption))) (by rfl) ?_
      first | refine r_icmp_geN (tgt := 75) dX2_invertE_35 (by decide) (by omega) (by omega) (fun h35 => ?_) (fun h35 => ?_) | refine r_icmp_ge (tgt := 75) dX2_invertE_35 (by decide) (fun h35 => ?_) (fun h35 => ?_)
      · refine r_aload_n dX2_invertE_75 rfl ?_
        refine r_getf dX2_invertE_76 fX2_61 (by repeat first | exact wu_eq | assumption | (apply wu_ne; first | omega | assumption | (apply Ne.symm; assumption))) (by rfl) ?_
        refine r_aload_n dX2_invertE_79 rfl ?_
        refine r_alen' dX2_invertE_80 (by repeat first | exact wu_eq | assumption | (apply wu_ne; first | omega | assumption | (apply Ne.symm; assumption))) (by rfl) ?_
        refine r_lload dX2_invertE_81 rfl ?_
        refine r_lastore dX2_invertE_83 (by repeat first | exact wu_eq | assumption | (apply wu_ne; first | omega | assumption | (apply Ne.symm; assumption))) _ rfl (by omega) (by omega) ?_
        refine r_lconst (v := lN 0) dX2_invertE_84 (by decide) ?_
        refine r_lstore (i := 7) (L0 := [(5, _), (3, _), (0, _), (1, _), (2, _)]) dX2_invertE_85 (by decide) rfl ?_
        refine r_aload_n dX2_invertE_87 rfl ?_
        refine r_alen' dX2_invertE_88 (by repeat first | exact wu_eq | assumption | (apply wu_ne; first | omega | assumption | (apply Ne.symm; assumption))) (by rfl) ?_
        refine r_istore (i := 9) (L0 := [(7, _), (5, _), (3, _), (0, _), (1, _), (2, _)]) dX2_invertE_89 (by decide) rfl ?_
        refine r_sub [0, 1, 4, 5, 6] rfl ?_
        have h := K2 (i + 1) (Nat.le_refl _)
        rw [i32_pm, htop, Nat.zero_mod, fl_end (n := i + 1) (f := rJ u) (g := rJ (X / 65537)) fun k hk => by unfold rJ; rw [dg_big hu (by omega) (by decide), dg_big hD (by omega) (by decide)], wu_self (wu_ne ha63 ha)] at h
        rw [wu_wu, hend, fl_up' (f := rJ X) (show lN _ = rJ X i from rfl)]
        exact h
      · omega
    | succ j ih =>
      intro i hj
      have h1 := dg_lt v i
      have h4 : ik v k i ≤ k := ik_le hk1
      have hm2 : dg 4294967296 v i * k ≤ 4294967295 * 65537 := Nat.mul_le_mul (by omega) hk2
      have e1 := ik_dg v k i
      have e2 := ik_succ v k i
      rw [hX] at e1
      refine r_iload dX2_invertE_31 rfl ?_
      refine r_aload_n dX2_invertE_33 rfl ?_
      refine r_alen' dX2_invertE_34 (by repeat first | exact wu_eq | assumption | (apply wu_ne; first | omega | assumption | (apply Ne.symm; assumption))) (by rfl) ?_
      first | refine r_icmp_geN (tgt := 75) dX2_invertE_35 (by decide) (by omega) (by omega) (fun h35 => ?_) (fun h35 => ?_) | refine r_icmp_ge (tgt := 75) dX2_invertE_35 (by decide) (fun h35 => ?_) (fun h35 => ?_)
      · omega
      · refine r_aload_n dX2_invertE_38 rfl ?_
        refine r_iload dX2_invertE_39 rfl ?_
        refine r_laload' dX2_invertE_41 (wu_ne hb63 hb) (by rfl) _ rfl (by omega) (by omega) ?_
        rw [show rJ v i = lN (dg 4294967296 v i) from rfl]
        refine r_lload_n dX2_invertE_42 rfl ?_
        first | refine r_lmulN dX2_invertE_43 ?_ | refine r_lmul dX2_invertE_43 ?_
        refine r_lload dX2_invertE_44 rfl ?_
        first | refine r_laddN dX2_invertE_46 ?_ | refine r_ladd dX2_invertE_46 ?_
        refine r_lstore (i := 8) (L0 := [(7, _), (5, _), (3, _), (0, _), (1, _), (2, _)]) dX2_invertE_47 (by decide) rfl ?_
        refine r_aload_n dX2_invertE_49 rfl ?_
        refine r_getf dX2_invertE_50 fX2_61 (by repeat first | exact wu_eq | assumption | (apply wu_ne; first | omega | assumption | (apply Ne.symm; assumption))) (by rfl) ?_
        refine r_iload dX2_invertE_53 rfl ?_
        refine r_lload dX2_invertE_55 rfl ?_
        refine r_ldc2 dX2_invertE_57 qX2_121 ?_
        refine r_land32 dX2_invertE_60 ?_
        refine r_lastore dX2_invertE_61 (by repeat first | exact wu_eq | assumption | (apply wu_ne; first | omega | assumption | (apply Ne.symm; assumption))) _ rfl (by omega) (by omega) ?_
        refine r_lload dX2_invertE_62 rfl ?_
        refine r_bipush (v := nI 32) dX2_invertE_64 (by decide) ?_
        first | refine r_lushrN 32 (by decide) dX2_invertE_66 (by omega) ?_ | refine r_lushr dX2_invertE_66 ?_
        refine r_lstore (i := 5) (L0 := [(8, _), (7, _), (3, _), (0, _), (1, _), (2, _)]) dX2_invertE_67 (by decide) rfl ?_
        refine r_iinc (L0 := [(5, _), (8, _), (3, _), (0, _), (1, _), (2, _)]) dX2_invertE_69 rfl (by first | exact iinc1 _ | rfl) (by decide) rfl ?_
        refine r_goto (tgt := 31) dX2_invertE_72 (by decide) ?_
        refine r_sub [0, 1, 3, 4, 5, 6] rfl ?_
        rw [show (2 : Nat) ^ 32 = 4294967296 by decide, e1, e2, wu_wu, fl_up' (f := rJ X) (show lN _ = rJ X i from rfl)]
        exact ih (i + 1) (by omega)
  refine ab_Ct.of (by decide +kernel) (Nat.le_of_ble_eq_true rfl) (by rintro _ _ _ ⟨_, rfl, -, -⟩; trivial) ?_
  show ab_St MX2_invertE g 0 0 0 [(0, .ref 28), (1, .ref a), (2, .ref b)] [] _ _ _
  refine r_ldc2 dX2_invertE_0 qX2_110 ?_
  refine r_toJ (y := lN 65537) rfl ?_
  refine r_aload_n dX2_invertE_3 rfl ?_
  refine r_ldc dX2_invertE_4 qX2_112 ?_
  refine r_toI (y := nI 65537) rfl ?_
  refine r_invS dX2_invertE_6 kX2_113 (c_remainder hb (by omega) hv (by decide) (by decide)) rfl rfl ⟨by decide, by decide⟩ (Nat.le_of_ble_eq_true rfl) ⟨by decide, by decide⟩ ⟨rfl, rfl⟩ ?_
  rintro _ _ _ ⟨rfl, rfl, rfl⟩
  refine r_invS dX2_invertE_9 kX2_117 (c_iE (Nat.mod_lt _ (by decide))) rfl rfl ⟨by decide, by decide⟩ (Nat.le_of_ble_eq_true rfl) ⟨by decide, by decide⟩ ⟨rfl, rfl⟩ ?_
  rintro _ _ _ ⟨rfl, rfl, rfl⟩
  rw [hp]
  refine r_lsubN dX2_invertE_12 (by omega) ?_
  rw [hkk]
  refine r_lstore_n (i := 3) (L0 := [(0, _), (1, _), (2, _)]) dX2_invertE_13 rfl (by decide) rfl ?_
  refine r_aload_n dX2_invertE_14 rfl ?_
  refine r_alen' dX2_invertE_15 (by repeat first | exact wu_eq | assumption | (apply wu_ne; first | omega | assumption | (apply Ne.symm; assumption))) (by rfl) ?_
  refine r_aload_n dX2_invertE_16 rfl ?_
  refine r_getf dX2_invertE_17 fX2_61 (by repeat first | exact wu_eq | assumption | (apply wu_ne; first | omega | assumption | (apply Ne.symm; assumption))) (by rfl) ?_
  refine r_alen' dX2_invertE_20 (by repeat first | exact wu_eq | assumption | (apply wu_ne; first | omega | assumption | (apply Ne.symm; assumption))) (by rfl) ?_
  first | refine r_icmp_ltN (tgt := 25) dX2_invertE_21 (by decide) (by omega) (by omega) (fun h21 => ?_) (fun h21 => ?_) | refine r_icmp_lt (tgt := 25) dX2_invertE_21 (by decide) (fun h21 => ?_) (fun h21 => ?_)
  · refine r_lconst (v := lN 1) dX2_invertE_25 (by decide) ?_
    refine r_lstore (i := 5) (L0 := [(3, _), (0, _), (1, _), (2, _)]) dX2_invertE_26 (by decide) rfl ?_
    refine r_iconst (v := nI 0) dX2_invertE_28 (by decide) ?_
    refine r_istore (i := 7) (L0 := [(5, _), (3, _), (0, _), (1, _), (2, _)]) dX2_invertE_29 (by decide) rfl ?_
    refine r_sub [0, 1, 2, 3, 4, 5] rfl ?_
    have h := K1 m 0 (by omega)
    rw [ik_0, fl_0, wu_self hmu] at h
    exact h
  · omega
