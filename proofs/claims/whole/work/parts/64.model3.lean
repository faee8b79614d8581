/-! SignHouseModel: growsSmall, restSmall, shareSmall, moveLeft, moveRight -/
set_option maxRecDepth 100000 in
set_option maxHeartbeats 4000000 in
theorem c_growsSmall {g : ab_G} {N a y e : Nat} {v : Nat → Nat} {fs : List Value} {w : ab_W} (h : w 74 = mdX fs) (hx : w 75 = xA v) (ha : a < 19) (hy : y < 65538) (he : e < 65536) (hv : bnd (e + y * v a)) : ab_Ct MX8_growsSmall g [.ref 74, .int (nI a), .int (nI y), .int (nI e)] N w (rt none N (wu w 75 (xA (us v a (e + y * v a))))) := by
  clear hv
  have K : ∀ z i, i + z = 84 → ab_St MX8_growsSmall g 0 0 7 [(6, .int (nI i)), (4, .long (lN (gq6 y e (v a) i))), (0, .ref 74), (1, .int (nI a)), (2, .int (nI y))] [] N (wu w 75 (xB v a (fl i (dg 65536 (e + y * v a)) (dg 65536 (v a))))) (rt none N (wu w 75 (xA (us v a (e + y * v a))))) := by
    intro z
    induction z with
    | zero =>
      intro i hi
      obtain rfl : i = 84 := by omega
      unfold xB
      rw [xw_fl]
      refine r_iload dX8_growsSmall_7 rfl ?_
      refine r_bipush (v := nI 84) dX8_growsSmall_9 (by decide) ?_
      first | refine r_icmp_geN (tgt := 67) dX8_growsSmall_11 (by decide) (by omega) (by omega) (fun h11 => ?_) (fun h11 => ?_) | refine r_icmp_ge (tgt := 67) dX8_growsSmall_11 (by decide) (fun h11 => ?_) (fun h11 => ?_)
      · refine r_ret (r := none) dX8_growsSmall_67 (by decide) (by decide) ?_
        exact ⟨rfl, rfl, rfl⟩
      · omega
    | succ z ih =>
      intro i hi
      have hda := dg6_lt (v a) i
      have hc := gq6_le y e (v a) i
      have hm : dg 65536 (v a) i * y ≤ 65536 * 65538 := Nat.mul_le_mul (by omega) (by omega)
      have e1 := gq6_dg y e (v a) i
      have e2 := gq6_succ y e (v a) i
      rw [Nat.mul_comm y (dg 65536 (v a) i)] at e1 e2
      refine r_iload dX8_growsSmall_7 rfl ?_
      refine r_bipush (v := nI 84) dX8_growsSmall_9 (by decide) ?_
      first | refine r_icmp_geN (tgt := 67) dX8_growsSmall_11 (by decide) (by omega) (by omega) (fun h11 => ?_) (fun h11 => ?_) | refine r_icmp_ge (tgt := 67) dX8_growsSmall_11 (by decide) (fun h11 => ?_) (fun h11 => ?_)
      · omega
      · refine r_aload_n dX8_growsSmall_14 rfl ?_
        refine r_getf dX8_growsSmall_15 fX8_7 (by repeat first | exact wu_eq | assumption | (apply wu_ne; first | omega | assumption | (apply Ne.symm; assumption))) (by rfl) ?_
        refine r_bipush (v := nI 84) dX8_growsSmall_18 (by decide) ?_
        refine r_iload_n dX8_growsSmall_20 rfl ?_
        first | refine r_imulN dX8_growsSmall_21 ?_ | refine r_imul dX8_growsSmall_21 ?_
        refine r_iload dX8_growsSmall_22 rfl ?_
        first | refine r_iaddN dX8_growsSmall_24 ?_ | refine r_iadd dX8_growsSmall_24 ?_
        refine r_xlS (s := a) (k := i) dX8_growsSmall_25 (by repeat first | exact wu_eq | assumption | (apply wu_ne; first | omega | assumption | (apply Ne.symm; assumption))) (congrArg nI (by omega)) (by omega) (by omega) ?_
        rw [fl_hi (Nat.le_refl i)]
        first | refine r_i2lN dX8_growsSmall_26 (by omega) ?_ | refine r_i2l dX8_growsSmall_26 ?_
        refine r_iload_n dX8_growsSmall_27 rfl ?_
        first | refine r_i2lN dX8_growsSmall_28 (by omega) ?_ | refine r_i2l dX8_growsSmall_28 ?_
        first | refine r_lmulN dX8_growsSmall_29 ?_ | refine r_lmul dX8_growsSmall_29 ?_
        refine r_lload dX8_growsSmall_30 rfl ?_
        first | refine r_laddN dX8_growsSmall_32 ?_ | refine r_ladd dX8_growsSmall_32 ?_
        refine r_lstore (i := 7) (L0 := [(6, _), (4, _), (0, _), (1, _), (2, _)]) dX8_growsSmall_33 (by decide) rfl ?_
        refine r_aload_n dX8_growsSmall_35 rfl ?_
        refine r_getf dX8_growsSmall_36 fX8_7 (by repeat first | exact wu_eq | assumption | (apply wu_ne; first | omega | assumption | (apply Ne.symm; assumption))) (by rfl) ?_
        refine r_bipush (v := nI 84) dX8_growsSmall_39 (by decide) ?_
        refine r_iload_n dX8_growsSmall_41 rfl ?_
        first | refine r_imulN dX8_growsSmall_42 ?_ | refine r_imul dX8_growsSmall_42 ?_
        refine r_iload dX8_growsSmall_43 rfl ?_
        first | refine r_iaddN dX8_growsSmall_45 ?_ | refine r_iadd dX8_growsSmall_45 ?_
        refine r_lload dX8_growsSmall_46 rfl ?_
        refine r_ldc2 dX8_growsSmall_48 qX8_125 ?_
        refine r_toJ (y := lN 65535) rfl ?_
        refine r_land dX8_growsSmall_51 ?_
        rw [lN_and16]
        first | refine r_l2iN dX8_growsSmall_52 ?_ | refine r_l2i dX8_growsSmall_52 ?_
        refine r_xs (s := a) (k := i) dX8_growsSmall_53 (by repeat first | exact wu_eq | assumption | (apply wu_ne; first | omega | assumption | (apply Ne.symm; assumption))) (congrArg nI (by omega)) (by omega) (by omega) ?_
        refine r_lload dX8_growsSmall_54 rfl ?_
        refine r_bipush (v := nI 16) dX8_growsSmall_56 (by decide) ?_
        first | refine r_lshrN 16 (by decide) dX8_growsSmall_58 (by omega) ?_ | refine r_lshr dX8_growsSmall_58 ?_
        refine r_lstore (i := 4) (L0 := [(7, _), (6, _), (0, _), (1, _), (2, _)]) dX8_growsSmall_59 (by decide) rfl ?_
        refine r_iinc (L0 := [(4, _), (7, _), (0, _), (1, _), (2, _)]) dX8_growsSmall_61 rfl (by first | exact iinc1 _ | rfl) (by decide) rfl ?_
        refine r_goto (tgt := 7) dX8_growsSmall_64 (by decide) ?_
        rw [wu_wu, e1, fl_up, show 2 ^ 16 = 65536 by decide, e2]
        refine r_sub [0, 1, 3, 4, 5] rfl ?_
        exact ih (i + 1) (by omega)
  refine ab_Ct.of (by decide +kernel) (Nat.le_of_ble_eq_true rfl) (by rintro _ _ _ ⟨rfl, rfl, rfl⟩; trivial) ?_
  show ab_St MX8_growsSmall g 0 0 0 [(0, .ref 74), (1, .int (nI a)), (2, .int (nI y)), (3, .int (nI e))] [] _ _ _
  refine r_iload_n dX8_growsSmall_0 rfl ?_
  first | refine r_i2lN dX8_growsSmall_1 (by omega) ?_ | refine r_i2l dX8_growsSmall_1 ?_
  refine r_lstore (i := 4) (L0 := [(0, _), (1, _), (2, _), (3, _)]) dX8_growsSmall_2 (by decide) rfl ?_
  refine r_iconst (v := nI 0) dX8_growsSmall_4 (by decide) ?_
  refine r_istore (i := 6) (L0 := [(4, _), (0, _), (1, _), (2, _), (3, _)]) dX8_growsSmall_5 (by decide) rfl ?_
  have hh := K 84 0 (by omega)
  rw [xw_start hx, gq6_0] at hh
  refine r_sub [0, 1, 2, 3, 4] rfl ?_
  exact hh
theorem nI_lm {k : Nat} : nI (k + 1) + Int32.ofInt (-1) = nI k := pk_m1 k
set_option maxRecDepth 100000 in
set_option maxHeartbeats 4000000 in
theorem c_restSmall {g : ab_G} {N a y : Nat} {v : Nat → Nat} {fs : List Value} {w : ab_W} (h : w 74 = mdX fs) (hx : w 75 = xA v) (ha : a < 19) (hv : bnd (v a)) (hy : 0 < y) (hy2 : y < 65538) : ab_Ct MX8_restSmall g [.ref 74, .int (nI a), .int (nI y)] N w (rp (some (.int (nI (v a % y)))) N w) := by
  have K : ∀ k, k ≤ 84 → ab_St MX8_restSmall g 0 0 6 [(5, .int (nI k - 1)), (3, .long (lN (v a / 65536 ^ k % y))), (0, .ref 74), (1, .int (nI a)), (2, .int (nI y))] [] N w (rp (some (.int (nI (v a % y)))) N w) := by
    intro k
    induction k with
    | zero =>
      intro _
      rw [Nat.pow_zero, Nat.div_one]
      refine r_iload dX8_restSmall_6 rfl ?_
      refine r_if_lt (tgt := 39) dX8_restSmall_8 (by decide) (fun _ => ?_) (fun h => absurd nI0lt h)
      refine r_lload_n dX8_restSmall_39 rfl ?_
      first | refine r_l2iN dX8_restSmall_40 ?_ | refine r_l2i dX8_restSmall_40 ?_
      refine r_ret (r := (some (.int _))) dX8_restSmall_41 (by decide) (by decide) ?_
      exact ⟨rfl, rfl, rfl⟩
    | succ k ih =>
      intro hk
      rw [i32_pm]
      have hda := dg6_lt (v a) k
      have hr : v a / 65536 ^ (k + 1) % y < y := Nat.mod_lt _ hy
      have e1 := rem6_step (v a) y k
      refine r_iload dX8_restSmall_6 rfl ?_
      first | refine r_if_ltN (tgt := 39) dX8_restSmall_8 (by decide) (by omega) (fun h8 => ?_) | refine r_if_lt (tgt := 39) dX8_restSmall_8 (by decide) (fun h8 => ?_) (fun h8 => ?_)
      refine r_lload_n dX8_restSmall_11 rfl ?_
      refine r_bipush (v := nI 16) dX8_restSmall_12 (by decide) ?_
      first | refine r_lshlN 16 (by decide) dX8_restSmall_14 ?_ | refine r_lshl dX8_restSmall_14 ?_
      refine r_aload_n dX8_restSmall_15 rfl ?_
      refine r_getf dX8_restSmall_16 fX8_7 (by repeat first | exact wu_eq | assumption | (apply wu_ne; first | omega | assumption | (apply Ne.symm; assumption))) (by rfl) ?_
      refine r_bipush (v := nI 84) dX8_restSmall_19 (by decide) ?_
      refine r_iload_n dX8_restSmall_21 rfl ?_
      first | refine r_imulN dX8_restSmall_22 ?_ | refine r_imul dX8_restSmall_22 ?_
      refine r_iload dX8_restSmall_23 rfl ?_
      first | refine r_iaddN dX8_restSmall_25 ?_ | refine r_iadd dX8_restSmall_25 ?_
      refine r_xlV (s := a) (k := k) dX8_restSmall_26 (by repeat first | exact wu_eq | assumption | (apply wu_ne; first | omega | assumption | (apply Ne.symm; assumption))) (congrArg nI (by omega)) (by omega) (by omega) ?_
      first | refine r_i2lN dX8_restSmall_27 (by omega) ?_ | refine r_i2l dX8_restSmall_27 ?_
      refine r_lor dX8_restSmall_28 ?_
      rw [lN_or_sum (q := 16) (by omega) (by omega), show 2 ^ 16 = 65536 by decide]
      refine r_iload_n dX8_restSmall_29 rfl ?_
      first | refine r_i2lN dX8_restSmall_30 (by omega) ?_ | refine r_i2l dX8_restSmall_30 ?_
      refine r_lrem dX8_restSmall_31 (fun q => absurd ((pk_lEQ (by omega) (by decide)).mp (show lN y = lN 0 from q)) (by omega)) ?_
      rw [lN_rem (by omega) hy (by omega), e1]
      refine r_lstore_n (i := 3) (L0 := [(5, _), (0, _), (1, _), (2, _)]) dX8_restSmall_32 rfl (by decide) rfl ?_
      refine r_iinc (L0 := [(3, _), (0, _), (1, _), (2, _)]) dX8_restSmall_33 rfl (by first | exact iincm1' _ | rfl) (by decide) rfl ?_
      refine r_goto (tgt := 6) dX8_restSmall_36 (by decide) ?_
      refine r_sub [0, 1, 2, 3, 4] rfl ?_
      exact ih (by omega)
  refine ab_Ct.of (by decide +kernel) (Nat.le_of_ble_eq_true rfl) (by rintro _ _ _ ⟨rfl, rfl, rfl⟩; trivial) ?_
  show ab_St MX8_restSmall g 0 0 0 [(0, .ref 74), (1, .int (nI a)), (2, .int (nI y))] [] _ _ _
  refine r_lconst (v := lN 0) dX8_restSmall_0 (by decide) ?_
  refine r_lstore_n (i := 3) (L0 := [(0, _), (1, _), (2, _)]) dX8_restSmall_1 rfl (by decide) rfl ?_
  refine r_bipush (v := nI 83) dX8_restSmall_2 (by decide) ?_
  refine r_istore (i := 5) (L0 := [(3, _), (0, _), (1, _), (2, _)]) dX8_restSmall_4 (by decide) rfl ?_
  have hh := K 84 (by decide)
  rw [Nat.div_eq_of_lt hv, Nat.zero_mod] at hh
  exact hh
set_option maxRecDepth 100000 in
set_option maxHeartbeats 4000000 in
theorem c_shareSmall {g : ab_G} {N a y : Nat} {v : Nat → Nat} {fs : List Value} {w : ab_W} (h : w 74 = mdX fs) (hx : w 75 = xA v) (ha : a < 19) (hv : bnd (v a)) (hy : 0 < y) (hy2 : y < 65538) : ab_Ct MX8_shareSmall g [.ref 74, .int (nI a), .int (nI y)] N w (rt none N (wu w 75 (xA (us v a (v a / y))))) := by
  have K : ∀ k, k ≤ 84 → ab_St MX8_shareSmall g 0 0 6 [(5, .int (nI k - 1)), (3, .long (lN (v a / 65536 ^ k % y))), (0, .ref 74), (1, .int (nI a)), (2, .int (nI y))] [] N (wu w 75 (xB v a (fl k (dg 65536 (v a)) (dg 65536 (v a / y))))) (rt none N (wu w 75 (xA (us v a (v a / y))))) := by
    intro k
    induction k with
    | zero =>
      intro _
      rw [fl_0]
      unfold xB
      rw [xw_us fun _ _ => rfl]
      refine r_iload dX8_shareSmall_6 rfl ?_
      refine r_if_lt (tgt := 61) dX8_shareSmall_8 (by decide) (fun _ => ?_) (fun h => absurd nI0lt h)
      refine r_ret (r := none) dX8_shareSmall_61 (by decide) (by decide) ?_
      exact ⟨rfl, rfl, rfl⟩
    | succ k ih =>
      intro hk
      rw [i32_pm]
      have hda := dg6_lt (v a) k
      have hr : v a / 65536 ^ (k + 1) % y < y := Nat.mod_lt _ hy
      have e1 := rem6_step (v a) y k
      have e2 := quo6_step hy (v a) k
      have hy0 : ¬ lN y = 0 := fun q => absurd ((pk_lEQ (by omega) (by decide)).mp (show lN y = lN 0 from q)) (by omega)
      refine r_iload dX8_shareSmall_6 rfl ?_
      first | refine r_if_ltN (tgt := 61) dX8_shareSmall_8 (by decide) (by omega) (fun h8 => ?_) | refine r_if_lt (tgt := 61) dX8_shareSmall_8 (by decide) (fun h8 => ?_) (fun h8 => ?_)
      refine r_lload_n dX8_shareSmall_11 rfl ?_
      refine r_bipush (v := nI 16) dX8_shareSmall_12 (by decide) ?_
      first | refine r_lshlN 16 (by decide) dX8_shareSmall_14 ?_ | refine r_lshl dX8_shareSmall_14 ?_
      refine r_aload_n dX8_shareSmall_15 rfl ?_
      refine r_getf dX8_shareSmall_16 fX8_7 (by repeat first | exact wu_eq | assumption | (apply wu_ne; first | omega | assumption | (apply Ne.symm; assumption))) (by rfl) ?_
      refine r_bipush (v := nI 84) dX8_shareSmall_19 (by decide) ?_
      refine r_iload_n dX8_shareSmall_21 rfl ?_
      first | refine r_imulN dX8_shareSmall_22 ?_ | refine r_imul dX8_shareSmall_22 ?_
      refine r_iload dX8_shareSmall_23 rfl ?_
      first | refine r_iaddN dX8_shareSmall_25 ?_ | refine r_iadd dX8_shareSmall_25 ?_
      refine r_xlS (s := a) (k := k) dX8_shareSmall_26 (by repeat first | exact wu_eq | assumption | (apply wu_ne; first | omega | assumption | (apply Ne.symm; assumption))) (congrArg nI (by omega)) (by omega) (by omega) ?_
      rw [fl_lo (Nat.lt_succ_self k)]
      first | refine r_i2lN dX8_shareSmall_27 (by omega) ?_ | refine r_i2l dX8_shareSmall_27 ?_
      refine r_lor dX8_shareSmall_28 ?_
      rw [lN_or_sum (q := 16) (by omega) (by omega), show 2 ^ 16 = 65536 by decide]
      refine r_lstore (i := 6) (L0 := [(5, _), (3, _), (0, _), (1, _), (2, _)]) dX8_shareSmall_29 (by decide) rfl ?_
      refine r_aload_n dX8_shareSmall_31 rfl ?_
      refine r_getf dX8_shareSmall_32 fX8_7 (by repeat first | exact wu_eq | assumption | (apply wu_ne; first | omega | assumption | (apply Ne.symm; assumption))) (by rfl) ?_
      refine r_bipush (v := nI 84) dX8_shareSmall_35 (by decide) ?_
      refine r_iload_n dX8_shareSmall_37 rfl ?_
      first | refine r_imulN dX8_shareSmall_38 ?_ | refine r_imul dX8_shareSmall_38 ?_
      refine r_iload dX8_shareSmall_39 rfl ?_
      first | refine r_iaddN dX8_shareSmall_41 ?_ | refine r_iadd dX8_shareSmall_41 ?_
      refine r_lload dX8_shareSmall_42 rfl ?_
      refine r_iload_n dX8_shareSmall_44 rfl ?_
      first | refine r_i2lN dX8_shareSmall_45 (by omega) ?_ | refine r_i2l dX8_shareSmall_45 ?_
      refine r_ldiv dX8_shareSmall_46 hy0 ?_
      rw [pk_lDiv (by omega) hy (by omega), e2]
      first | refine r_l2iN dX8_shareSmall_47 ?_ | refine r_l2i dX8_shareSmall_47 ?_
      refine r_xs (s := a) (k := k) dX8_shareSmall_48 (by repeat first | exact wu_eq | assumption | (apply wu_ne; first | omega | assumption | (apply Ne.symm; assumption))) (congrArg nI (by omega)) (by omega) (by omega) ?_
      refine r_lload dX8_shareSmall_49 rfl ?_
      refine r_iload_n dX8_shareSmall_51 rfl ?_
      first | refine r_i2lN dX8_shareSmall_52 (by omega) ?_ | refine r_i2l dX8_shareSmall_52 ?_
      refine r_lrem dX8_shareSmall_53 hy0 ?_
      rw [lN_rem (by omega) hy (by omega), e1]
      refine r_lstore_n (i := 3) (L0 := [(6, _), (5, _), (0, _), (1, _), (2, _)]) dX8_shareSmall_54 rfl (by decide) rfl ?_
      refine r_iinc (L0 := [(3, _), (6, _), (0, _), (1, _), (2, _)]) dX8_shareSmall_55 rfl (by first | exact iincm1' _ | rfl) (by decide) rfl ?_
      refine r_goto (tgt := 6) dX8_shareSmall_58 (by decide) ?_
      rw [wu_wu, fl_dn' rfl]
      refine r_sub [0, 1, 3, 4, 5] rfl ?_
      exact ih (by omega)
  refine ab_Ct.of (by decide +kernel) (Nat.le_of_ble_eq_true rfl) (by rintro _ _ _ ⟨rfl, rfl, rfl⟩; trivial) ?_
  show ab_St MX8_shareSmall g 0 0 0 [(0, .ref 74), (1, .int (nI a)), (2, .int (nI y))] [] _ _ _
  refine r_lconst (v := lN 0) dX8_shareSmall_0 (by decide) ?_
  refine r_lstore_n (i := 3) (L0 := [(0, _), (1, _), (2, _)]) dX8_shareSmall_1 rfl (by decide) rfl ?_
  refine r_bipush (v := nI 83) dX8_shareSmall_2 (by decide) ?_
  refine r_istore (i := 5) (L0 := [(3, _), (0, _), (1, _), (2, _)]) dX8_shareSmall_4 (by decide) rfl ?_
  have hh := K 84 (by decide)
  have hd0 : ∀ k, 84 ≤ k → dg 65536 (v a) k = 0 := fun k hk => dg_big hv hk (by decide)
  have hd1 : ∀ k, 84 ≤ k → dg 65536 (v a / y) k = 0 := fun k hk => dg_big (Nat.lt_of_le_of_lt (Nat.div_le_self _ _) hv) hk (by decide)
  rw [Nat.div_eq_of_lt hv, Nat.zero_mod, show fl 84 (dg 65536 (v a)) (dg 65536 (v a / y)) = dg 65536 (v a) from fl_end fun k hk => by rw [hd0 k hk, hd1 k hk]] at hh
  unfold xB at hh
  rw [xw_v, wu_self hx] at hh
  exact hh
theorem shl_n {b s : Nat} (hs : s < 16) (hb : b < 65536) : nI b <<< (nI s &&& 31) = nI (b * 2 ^ s) := by
  rw [pk_shlN _ s (s_l' s (by omega))]
  have : 2 ^ s ≤ 2 ^ 15 := Nat.pow_le_pow_right (by decide) (by omega)
  have h2 : b * 2 ^ s ≤ 65535 * 2 ^ 15 := Nat.mul_le_mul (by omega) this
  omega
theorem nI_or_lo {a b s : Nat} (ha : a < 2 ^ s) : nI (b * 2 ^ s) ||| nI a = nI (b * 2 ^ s + a) := nI_or_sum ha
/-- the carry of a shift -/
def sc6 (v s i : Nat) : Nat := v % 65536 ^ i * 2 ^ s / 65536 ^ i
theorem sc6_0 (v s : Nat) : sc6 v s 0 = 0 := by
  unfold sc6
  rw [Nat.pow_zero, Nat.mod_one, Nat.zero_mul, Nat.zero_div]
theorem sc6_lt (v s i : Nat) : sc6 v s i < 2 ^ s := by
  unfold sc6
  have hp : 0 < 65536 ^ i := Nat.pow_pos (by decide)
  refine Nat.div_lt_of_lt_mul ?_
  exact Nat.mul_lt_mul_of_pos_right (Nat.mod_lt _ hp) (Nat.two_pow_pos s)
theorem sc6_eq (v s i : Nat) : sc6 v s i = gq6 (2 ^ s) 0 v i := by
  unfold sc6 gq6
  rw [Nat.zero_add, Nat.mul_comm]
theorem sc6_dg (v s i : Nat) : (dg 65536 v i * 2 ^ s + sc6 v s i) % 65536 = dg 65536 (v * 2 ^ s) i := by
  rw [sc6_eq, Nat.mul_comm (dg 65536 v i), gq6_dg, Nat.zero_add, Nat.mul_comm]
theorem sc6_succ (v s i : Nat) : (dg 65536 v i * 2 ^ s + sc6 v s i) / 65536 = sc6 v s (i + 1) := by
  rw [sc6_eq, sc6_eq, Nat.mul_comm (dg 65536 v i), gq6_succ]
set_option maxRecDepth 100000 in
set_option maxHeartbeats 4000000 in
theorem c_moveLeft {g : ab_G} {N t a s : Nat} {v : Nat → Nat} {fs : List Value} {w : ab_W} (h : w 74 = mdX fs) (hx : w 75 = xA v) (ht : t < 19) (ha : a < 19) (hs : s < 16) : ab_Ct MX8_moveLeft g [.ref 74, .int (nI t), .int (nI a), .int (nI s)] N w (rt none N (wu w 75 (xA (us v t (v a * 2 ^ s))))) := by
  have h2s : 2 ^ s ≤ 2 ^ 15 := Nat.pow_le_pow_right (by decide) (by omega)
  have K : ∀ z i, i + z = 84 → ab_St MX8_moveLeft g 0 0 6 [(5, .int (nI i)), (4, .int (nI (sc6 (v a) s i))), (0, .ref 74), (1, .int (nI t)), (2, .int (nI a)), (3, .int (nI s))] [] N (wu w 75 (xB v t (fl i (dg 65536 (v a * 2 ^ s)) (dg 65536 (v t))))) (rt none N (wu w 75 (xA (us v t (v a * 2 ^ s))))) := by
    intro z
    induction z with
    | zero =>
      intro i hi
      obtain rfl : i = 84 := by omega
      unfold xB
      rw [xw_fl]
      refine r_iload dX8_moveLeft_6 rfl ?_
      refine r_bipush (v := nI 84) dX8_moveLeft_8 (by decide) ?_
      first | refine r_icmp_geN (tgt := 62) dX8_moveLeft_10 (by decide) (by omega) (by omega) (fun h10 => ?_) (fun h10 => ?_) | refine r_icmp_ge (tgt := 62) dX8_moveLeft_10 (by decide) (fun h10 => ?_) (fun h10 => ?_)
      · refine r_ret (r := none) dX8_moveLeft_62 (by decide) (by decide) ?_
        exact ⟨rfl, rfl, rfl⟩
      · omega
    | succ z ih =>
      intro i hi
      have hda := dg6_lt (v a) i
      have hc := sc6_lt (v a) s i
      have e1 := sc6_dg (v a) s i
      have e2 := sc6_succ (v a) s i
      have hm : dg 65536 (v a) i * 2 ^ s ≤ 65535 * 2 ^ 15 := Nat.mul_le_mul (by omega) h2s
      have hsm : dg 65536 (v a) i * 2 ^ s + sc6 (v a) s i < 4294967296 := by omega
      refine r_iload dX8_moveLeft_6 rfl ?_
      refine r_bipush (v := nI 84) dX8_moveLeft_8 (by decide) ?_
      first | refine r_icmp_geN (tgt := 62) dX8_moveLeft_10 (by decide) (by omega) (by omega) (fun h10 => ?_) (fun h10 => ?_) | refine r_icmp_ge (tgt := 62) dX8_moveLeft_10 (by decide) (fun h10 => ?_) (fun h10 => ?_)
      · omega
      · refine r_aload_n dX8_moveLeft_13 rfl ?_
        refine r_getf dX8_moveLeft_14 fX8_7 (by repeat first | exact wu_eq | assumption | (apply wu_ne; first | omega | assumption | (apply Ne.symm; assumption))) (by rfl) ?_
        refine r_bipush (v := nI 84) dX8_moveLeft_17 (by decide) ?_
        refine r_iload_n dX8_moveLeft_19 rfl ?_
        first | refine r_imulN dX8_moveLeft_20 ?_ | refine r_imul dX8_moveLeft_20 ?_
        refine r_iload dX8_moveLeft_21 rfl ?_
        first | refine r_iaddN dX8_moveLeft_23 ?_ | refine r_iadd dX8_moveLeft_23 ?_
        refine r_iaload (n := 1596) (f := xw v t (fl i (dg 65536 (v a * 2 ^ s)) (dg 65536 (v t)))) dX8_moveLeft_24 (by rw [show (wu w 75 (xB v t (fl i (dg 65536 (v a * 2 ^ s)) (dg 65536 (v t))))) 75 = xB v t (fl i (dg 65536 (v a * 2 ^ s)) (dg 65536 (v t))) from wu_eq]; rfl) (84 * a + i) rfl (by omega) (by decide) ?_
        refine r_toI (y := nI (dg 65536 (v a) i)) ?_ ?_
        · by_cases hat : a = t
          · rw [hat, xw_rs ht (by omega), fl_hi (Nat.le_refl i)]
          · rw [xw_ro ha (by omega) hat]
        refine r_iload_n dX8_moveLeft_25 rfl ?_
        refine r_ishl dX8_moveLeft_26 ?_
        rw [shl_n hs hda]
        refine r_iload dX8_moveLeft_27 rfl ?_
        refine r_ior dX8_moveLeft_29 ?_
        rw [nI_or_lo hc]
        refine r_istore (i := 6) (L0 := [(5, _), (4, _), (0, _), (1, _), (2, _), (3, _)]) dX8_moveLeft_30 (by decide) rfl ?_
        refine r_aload_n dX8_moveLeft_32 rfl ?_
        refine r_getf dX8_moveLeft_33 fX8_7 (by repeat first | exact wu_eq | assumption | (apply wu_ne; first | omega | assumption | (apply Ne.symm; assumption))) (by rfl) ?_
        refine r_bipush (v := nI 84) dX8_moveLeft_36 (by decide) ?_
        refine r_iload_n dX8_moveLeft_38 rfl ?_
        first | refine r_imulN dX8_moveLeft_39 ?_ | refine r_imul dX8_moveLeft_39 ?_
        refine r_iload dX8_moveLeft_40 rfl ?_
        first | refine r_iaddN dX8_moveLeft_42 ?_ | refine r_iadd dX8_moveLeft_42 ?_
        refine r_iload dX8_moveLeft_43 rfl ?_
        refine r_ldc dX8_moveLeft_45 qX8_124 ?_
        refine r_toI (y := nI 65535) rfl ?_
        refine r_iand dX8_moveLeft_47 ?_
        rw [nI_and16]
        refine r_xs (s := t) (k := i) dX8_moveLeft_48 (by repeat first | exact wu_eq | assumption | (apply wu_ne; first | omega | assumption | (apply Ne.symm; assumption))) (congrArg nI (by omega)) (by omega) (by omega) ?_
        refine r_iload dX8_moveLeft_49 rfl ?_
        refine r_bipush (v := nI 16) dX8_moveLeft_51 (by decide) ?_
        refine r_iushrN 16 (by decide) dX8_moveLeft_53 hsm ?_
        refine r_istore (i := 4) (L0 := [(6, _), (5, _), (0, _), (1, _), (2, _), (3, _)]) dX8_moveLeft_54 (by decide) rfl ?_
        refine r_iinc (L0 := [(4, _), (6, _), (0, _), (1, _), (2, _), (3, _)]) dX8_moveLeft_56 rfl (by first | exact iinc1 _ | rfl) (by decide) rfl ?_
        refine r_goto (tgt := 6) dX8_moveLeft_59 (by decide) ?_
        rw [wu_wu, e1, fl_up, show 2 ^ 16 = 65536 by decide, e2]
        refine r_sub [0, 1, 3, 4, 5, 6] rfl ?_
        exact ih (i + 1) (by omega)
  refine ab_Ct.of (by decide +kernel) (Nat.le_of_ble_eq_true rfl) (by rintro _ _ _ ⟨rfl, rfl, rfl⟩; trivial) ?_
  show ab_St MX8_moveLeft g 0 0 0 [(0, .ref 74), (1, .int (nI t)), (2, .int (nI a)), (3, .int (nI s))] [] _ _ _
  refine r_iconst (v := nI 0) dX8_moveLeft_0 (by decide) ?_
  refine r_istore (i := 4) (L0 := [(0, _), (1, _), (2, _), (3, _)]) dX8_moveLeft_1 (by decide) rfl ?_
  refine r_iconst (v := nI 0) dX8_moveLeft_3 (by decide) ?_
  refine r_istore (i := 5) (L0 := [(4, _), (0, _), (1, _), (2, _), (3, _)]) dX8_moveLeft_4 (by decide) rfl ?_
  have hh := K 84 0 (by omega)
  rw [xw_start hx, sc6_0] at hh
  exact hh
theorem mr_dg {v s i : Nat} (hs : s < 16) : (dg 65536 v (i + 1) * 65536 + dg 65536 v i) / 2 ^ s % 65536 = dg 65536 (v / 2 ^ s) i := by
  have e : 65536 ^ (i + 1) = 65536 ^ i * 65536 := Nat.pow_succ ..
  unfold dg
  rw [Nat.div_div_eq_div_mul v (2 ^ s), Nat.mul_comm (2 ^ s), ← Nat.div_div_eq_div_mul, e, ← Nat.div_div_eq_div_mul]
  generalize v / 65536 ^ i = x
  have h1 : x / 65536 % 65536 * 65536 + x % 65536 = x % 4294967296 := by omega
  rw [h1]
  have h2 : (65536 : Nat) = 2 ^ 16 := by decide
  have h3 : (4294967296 : Nat) = 2 ^ s * 2 ^ (32 - s) := by rw [← Nat.pow_add, show s + (32 - s) = 32 by omega]
  rw [h3, Nat.mod_mul_right_div_self]
  have h4 : (2 : Nat) ^ (32 - s) = 65536 * 2 ^ (16 - s) := by
    rw [h2, ← Nat.pow_add]
    congr 1
    omega
  rw [h4, Nat.mod_mul_right_mod]
set_option maxRecDepth 100000 in
set_option maxHeartbeats 4000000 in
theorem c_moveRight {g : ab_G} {N a s : Nat} {v : Nat → Nat} {fs : List Value} {w : ab_W} (h : w 74 = mdX fs) (hx : w 75 = xA v) (ha : a < 19) (hs : s < 16) (hv : bnd (v a)) : ab_Ct MX8_moveRight g [.ref 74, .int (nI a), .int (nI s)] N w (rt none N (wu w 75 (xA (us v a (v a / 2 ^ s))))) := by
  have K : ∀ z i, i + z = 84 → ab_St MX8_moveRight g 0 0 2 [(3, .int (nI i)), (0, .ref 74), (1, .int (nI a)), (2, .int (nI s))] [] N (wu w 75 (xB v a (fl i (dg 65536 (v a / 2 ^ s)) (dg 65536 (v a))))) (rt none N (wu w 75 (xA (us v a (v a / 2 ^ s))))) := by
    intro z
    induction z with
    | zero =>
      intro i hi
      obtain rfl : i = 84 := by omega
      unfold xB
      rw [xw_fl]
      refine r_iload_n dX8_moveRight_2 rfl ?_
      refine r_bipush (v := nI 84) dX8_moveRight_3 (by decide) ?_
      first | refine r_icmp_geN (tgt := 74) dX8_moveRight_5 (by decide) (by omega) (by omega) (fun h5 => ?_) (fun h5 => ?_) | refine r_icmp_ge (tgt := 74) dX8_moveRight_5 (by decide) (fun h5 => ?_) (fun h5 => ?_)
      · refine r_ret (r := none) dX8_moveRight_74 (by decide) (by decide) ?_
        exact ⟨rfl, rfl, rfl⟩
      · omega
    | succ z ih =>
      intro i hi
      have hda := dg6_lt (v a) i
      have hdb := dg6_lt (v a) (i + 1)
      have hsm : dg 65536 (v a) (i + 1) * 65536 + dg 65536 (v a) i < 4294967296 := by omega
      have hsl : dg 65536 (v a) (i + 1) * 2 ^ 16 < 4294967296 := by
        exact Nat.lt_of_lt_of_le (Nat.mul_lt_mul_of_pos_right hdb (by decide)) (by decide)
      have K35 : ab_St MX8_moveRight g 0 0 35 [(4, .int (nI (dg 65536 (v a) (i + 1)))), (3, .int (nI i)), (0, .ref 74), (1, .int (nI a)), (2, .int (nI s))] [] N (wu w 75 (xB v a (fl i (dg 65536 (v a / 2 ^ s)) (dg 65536 (v a))))) (rt none N (wu w 75 (xA (us v a (v a / 2 ^ s))))) := by
        refine r_aload_n dX8_moveRight_35 rfl ?_
        refine r_getf dX8_moveRight_36 fX8_7 (by repeat first | exact wu_eq | assumption | (apply wu_ne; first | omega | assumption | (apply Ne.symm; assumption))) (by rfl) ?_
        refine r_bipush (v := nI 84) dX8_moveRight_39 (by decide) ?_
        refine r_iload_n dX8_moveRight_41 rfl ?_
        first | refine r_imulN dX8_moveRight_42 ?_ | refine r_imul dX8_moveRight_42 ?_
        refine r_iload_n dX8_moveRight_43 rfl ?_
        first | refine r_iaddN dX8_moveRight_44 ?_ | refine r_iadd dX8_moveRight_44 ?_
        refine r_iload dX8_moveRight_45 rfl ?_
        refine r_bipush (v := nI 16) dX8_moveRight_47 (by decide) ?_
        refine r_ishlN 16 (by decide) dX8_moveRight_49 hsl ?_
        refine r_aload_n dX8_moveRight_50 rfl ?_
        refine r_getf dX8_moveRight_51 fX8_7 (by repeat first | exact wu_eq | assumption | (apply wu_ne; first | omega | assumption | (apply Ne.symm; assumption))) (by rfl) ?_
        refine r_bipush (v := nI 84) dX8_moveRight_54 (by decide) ?_
        refine r_iload_n dX8_moveRight_56 rfl ?_
        first | refine r_imulN dX8_moveRight_57 ?_ | refine r_imul dX8_moveRight_57 ?_
        refine r_iload_n dX8_moveRight_58 rfl ?_
        first | refine r_iaddN dX8_moveRight_59 ?_ | refine r_iadd dX8_moveRight_59 ?_
        refine r_xlS (s := a) (k := i) dX8_moveRight_60 (by repeat first | exact wu_eq | assumption | (apply wu_ne; first | omega | assumption | (apply Ne.symm; assumption))) (congrArg nI (by omega)) (by omega) (by omega) ?_
        rw [fl_hi (Nat.le_refl i)]
        refine r_ior dX8_moveRight_61 ?_
        rw [nI_or_lo (s := 16) (by omega), show 2 ^ 16 = 65536 by decide]
        refine r_iload_n dX8_moveRight_62 rfl ?_
        refine r_iushr dX8_moveRight_63 ?_
        rw [pk_ushrN hsm _ s (s_u' s (by omega))]
        refine r_ldc dX8_moveRight_64 qX8_124 ?_
        refine r_toI (y := nI 65535) rfl ?_
        refine r_iand dX8_moveRight_66 ?_
        rw [nI_and16, mr_dg hs]
        refine r_xs (s := a) (k := i) dX8_moveRight_67 (by repeat first | exact wu_eq | assumption | (apply wu_ne; first | omega | assumption | (apply Ne.symm; assumption))) (congrArg nI (by omega)) (by omega) (by omega) ?_
        refine r_iinc (L0 := [(4, _), (0, _), (1, _), (2, _)]) dX8_moveRight_68 rfl (by first | exact iinc1 _ | rfl) (by decide) rfl ?_
        refine r_goto (tgt := 2) dX8_moveRight_71 (by decide) ?_
        rw [wu_wu, fl_up]
        refine r_sub [0, 2, 3, 4] rfl ?_
        exact ih (i + 1) (by omega)
      refine r_iload_n dX8_moveRight_2 rfl ?_
      refine r_bipush (v := nI 84) dX8_moveRight_3 (by decide) ?_
      first | refine r_icmp_geN (tgt := 74) dX8_moveRight_5 (by decide) (by omega) (by omega) (fun h5 => ?_) (fun h5 => ?_) | refine r_icmp_ge (tgt := 74) dX8_moveRight_5 (by decide) (fun h5 => ?_) (fun h5 => ?_)
      · omega
      · refine r_iload_n dX8_moveRight_8 rfl ?_
        refine r_iconst (v := nI 1) dX8_moveRight_9 (by decide) ?_
        first | refine r_iaddN dX8_moveRight_10 ?_ | refine r_iadd dX8_moveRight_10 ?_
        refine r_bipush (v := nI 84) dX8_moveRight_11 (by decide) ?_
        first | refine r_icmp_geN (tgt := 32) dX8_moveRight_13 (by decide) (by omega) (by omega) (fun h13 => ?_) (fun h13 => ?_) | refine r_icmp_ge (tgt := 32) dX8_moveRight_13 (by decide) (fun h13 => ?_) (fun h13 => ?_)
        · refine r_iconst (v := nI 0) dX8_moveRight_32 (by decide) ?_
          refine r_istore (i := 4) (L0 := [(3, _), (0, _), (1, _), (2, _)]) dX8_moveRight_33 (by decide) rfl ?_
          rw [show dg 65536 (v a) (i + 1) = 0 from dg_big hv (by omega) (by decide)] at K35
          exact K35
        · refine r_aload_n dX8_moveRight_16 rfl ?_
          refine r_getf dX8_moveRight_17 fX8_7 (by repeat first | exact wu_eq | assumption | (apply wu_ne; first | omega | assumption | (apply Ne.symm; assumption))) (by rfl) ?_
          refine r_bipush (v := nI 84) dX8_moveRight_20 (by decide) ?_
          refine r_iload_n dX8_moveRight_22 rfl ?_
          first | refine r_imulN dX8_moveRight_23 ?_ | refine r_imul dX8_moveRight_23 ?_
          refine r_iload_n dX8_moveRight_24 rfl ?_
          first | refine r_iaddN dX8_moveRight_25 ?_ | refine r_iadd dX8_moveRight_25 ?_
          refine r_iconst (v := nI 1) dX8_moveRight_26 (by decide) ?_
          first | refine r_iaddN dX8_moveRight_27 ?_ | refine r_iadd dX8_moveRight_27 ?_
          refine r_xlS (s := a) (k := i + 1) dX8_moveRight_28 (by repeat first | exact wu_eq | assumption | (apply wu_ne; first | omega | assumption | (apply Ne.symm; assumption))) (congrArg nI (by omega)) (by omega) (by omega) ?_
          refine r_goto (tgt := 33) dX8_moveRight_29 (by decide) ?_
          refine r_istore (i := 4) (L0 := [(3, _), (0, _), (1, _), (2, _)]) dX8_moveRight_33 (by decide) rfl ?_
          rw [fl_hi (Nat.le_succ i)]
          exact K35
  refine ab_Ct.of (by decide +kernel) (Nat.le_of_ble_eq_true rfl) (by rintro _ _ _ ⟨rfl, rfl, rfl⟩; trivial) ?_
  show ab_St MX8_moveRight g 0 0 0 [(0, .ref 74), (1, .int (nI a)), (2, .int (nI s))] [] _ _ _
  refine r_iconst (v := nI 0) dX8_moveRight_0 (by decide) ?_
  refine r_istore_n (i := 3) (L0 := [(0, _), (1, _), (2, _)]) dX8_moveRight_1 rfl (by decide) rfl ?_
  have hh := K 84 0 (by omega)
  rw [xw_start hx] at hh
  exact hh
