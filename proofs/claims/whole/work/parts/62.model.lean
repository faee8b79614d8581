/-! SignHouseModel: clear, copy, small, longOf, compare, isSmall, in -/
set_option maxRecDepth 100000 in
set_option maxHeartbeats 4000000 in
theorem c_in {g : ab_G} {N a lo hi : Nat} {w : ab_W} (ha : a < 2147483648) (hl : lo < 2147483648) (hh : hi < 2147483648) : ab_Ct MX8_in g [.int (nI a), .int (nI lo), .int (nI hi)] N w (rp (some (.int (nI (if lo ≤ a ∧ a ≤ hi then 1 else 0)))) N w) := by
  refine ab_Ct.of (by decide +kernel) (Nat.le_of_ble_eq_true rfl) (by rintro _ _ _ ⟨rfl, -, -⟩; exact nI_zk (by split <;> decide)) ?_
  show ab_St MX8_in g 0 0 0 [(0, .int (nI a)), (1, .int (nI lo)), (2, .int (nI hi))] [] _ _ _
  refine r_iload_n dX8_in_0 rfl ?_
  refine r_iload_n dX8_in_1 rfl ?_
  first | refine r_icmp_ltN (tgt := 14) dX8_in_2 (by decide) (by omega) (by omega) (fun h2 => ?_) (fun h2 => ?_) | refine r_icmp_lt (tgt := 14) dX8_in_2 (by decide) (fun h2 => ?_) (fun h2 => ?_)
  · refine r_iconst (v := nI 0) dX8_in_14 (by decide) ?_
    refine r_ret (r := (some (.int _))) dX8_in_15 (by decide) (by decide) ?_
    rw [if_neg (by omega)]
    exact ⟨rfl, rfl, rfl⟩
  · refine r_iload_n dX8_in_5 rfl ?_
    refine r_iload_n dX8_in_6 rfl ?_
    first | refine r_icmp_gtN (tgt := 14) dX8_in_7 (by decide) (by omega) (by omega) (fun h7 => ?_) (fun h7 => ?_) | refine r_icmp_gt (tgt := 14) dX8_in_7 (by decide) (fun h7 => ?_) (fun h7 => ?_)
    · refine r_iconst (v := nI 0) dX8_in_14 (by decide) ?_
      refine r_ret (r := (some (.int _))) dX8_in_15 (by decide) (by decide) ?_
      rw [if_neg (by omega)]
      exact ⟨rfl, rfl, rfl⟩
    · refine r_iconst (v := nI 1) dX8_in_10 (by decide) ?_
      refine r_goto (tgt := 15) dX8_in_11 (by decide) ?_
      refine r_ret (r := (some (.int _))) dX8_in_15 (by decide) (by decide) ?_
      rw [if_pos (by omega)]
      exact ⟨rfl, rfl, rfl⟩
set_option maxRecDepth 100000 in
set_option maxHeartbeats 4000000 in
theorem c_in_neg {g : ab_G} {N lo : Nat} {x hi : Int32} {w : ab_W} (hx : x < 0) (hl : lo < 2147483648) : ab_Ct MX8_in g [.int x, .int (nI lo), .int hi] N w (rp (some (.int (nI 0))) N w) := by
  refine ab_Ct.of (by decide +kernel) (Nat.le_of_ble_eq_true rfl) (by rintro _ _ _ ⟨rfl, -, -⟩; exact nI_zk (by decide)) ?_
  show ab_St MX8_in g 0 0 0 [(0, .int x), (1, .int (nI lo)), (2, .int hi)] [] _ _ _
  refine r_iload_n dX8_in_0 rfl ?_
  refine r_iload_n dX8_in_1 rfl ?_
  first | refine r_icmp_ltN (tgt := 14) dX8_in_2 (by decide) (by omega) (by omega) (fun h2 => ?_) (fun h2 => ?_) | refine r_icmp_lt (tgt := 14) dX8_in_2 (by decide) (fun h2 => ?_) (fun h2 => ?_)
  · refine r_iconst (v := nI 0) dX8_in_14 (by decide) ?_
    refine r_ret (r := (some (.int _))) dX8_in_15 (by decide) (by decide) ?_
    exact ⟨rfl, rfl, rfl⟩
  · exact absurd (neg_lt hx hl) (by assumption)
set_option maxRecDepth 100000 in
set_option maxHeartbeats 4000000 in
theorem c_clear {g : ab_G} {N s : Nat} {v : Nat → Nat} {fs : List Value} {w : ab_W} (h : w 74 = mdX fs) (hx : w 75 = xA v) (hs : s < 19) : ab_Ct MX8_clear g [.ref 74, .int (nI s)] N w (rt none N (wu w 75 (xA (us v s 0)))) := by
  have hz : ∀ i, dg 65536 0 i = 0 := fun i => by unfold dg; rw [Nat.zero_div, Nat.zero_mod]
  have K : ∀ z i, i + z = 84 → ab_St MX8_clear g 0 0 2 [(2, .int (nI i)), (0, .ref 74), (1, .int (nI s))] [] N (wu w 75 (xB v s (fl i (dg 65536 0) (dg 65536 (v s))))) (rt none N (wu w 75 (xA (us v s 0)))) := by
    intro z
    induction z with
    | zero =>
      intro i hi
      obtain rfl : i = 84 := by omega
      unfold xB
      rw [xw_fl]
      refine r_iload_n dX8_clear_2 rfl ?_
      refine r_bipush (v := nI 84) dX8_clear_3 (by decide) ?_
      first | refine r_icmp_geN (tgt := 26) dX8_clear_5 (by decide) (by omega) (by omega) (fun h5 => ?_) (fun h5 => ?_) | refine r_icmp_ge (tgt := 26) dX8_clear_5 (by decide) (fun h5 => ?_) (fun h5 => ?_)
      · refine r_ret (r := none) dX8_clear_26 (by decide) (by decide) ?_
        exact ⟨rfl, rfl, rfl⟩
      · omega
    | succ z ih =>
      intro i hi
      refine r_iload_n dX8_clear_2 rfl ?_
      refine r_bipush (v := nI 84) dX8_clear_3 (by decide) ?_
      first | refine r_icmp_geN (tgt := 26) dX8_clear_5 (by decide) (by omega) (by omega) (fun h5 => ?_) (fun h5 => ?_) | refine r_icmp_ge (tgt := 26) dX8_clear_5 (by decide) (fun h5 => ?_) (fun h5 => ?_)
      · omega
      · refine r_aload_n dX8_clear_8 rfl ?_
        refine r_getf dX8_clear_9 fX8_7 (by repeat first | exact wu_eq | assumption | (apply wu_ne; first | omega | assumption | (apply Ne.symm; assumption))) (by rfl) ?_
        refine r_bipush (v := nI 84) dX8_clear_12 (by decide) ?_
        refine r_iload_n dX8_clear_14 rfl ?_
        first | refine r_imulN dX8_clear_15 ?_ | refine r_imul dX8_clear_15 ?_
        refine r_iload_n dX8_clear_16 rfl ?_
        first | refine r_iaddN dX8_clear_17 ?_ | refine r_iadd dX8_clear_17 ?_
        refine r_iconst (v := nI 0) dX8_clear_18 (by decide) ?_
        refine r_xs (s := s) (k := i) dX8_clear_19 (by repeat first | exact wu_eq | assumption | (apply wu_ne; first | omega | assumption | (apply Ne.symm; assumption))) (congrArg nI (by omega)) (by omega) (by omega) ?_
        refine r_iinc (L0 := [(0, _), (1, _)]) dX8_clear_20 rfl (by first | exact iinc1 _ | rfl) (by decide) rfl ?_
        refine r_goto (tgt := 2) dX8_clear_23 (by decide) ?_
        rw [wu_wu, fl_up' (hz i).symm]
        refine r_sub [0, 1, 2] rfl ?_
        exact ih (i + 1) (by omega)
  refine ab_Ct.of (by decide +kernel) (Nat.le_of_ble_eq_true rfl) (by rintro _ _ _ ⟨rfl, rfl, rfl⟩; trivial) ?_
  show ab_St MX8_clear g 0 0 0 [(0, .ref 74), (1, .int (nI s))] [] _ _ _
  refine r_iconst (v := nI 0) dX8_clear_0 (by decide) ?_
  refine r_istore_n (i := 2) (L0 := [(0, _), (1, _)]) dX8_clear_1 rfl (by decide) rfl ?_
  have hh := K 84 0 (by omega)
  rw [xw_start hx] at hh
  exact hh
set_option maxRecDepth 100000 in
set_option maxHeartbeats 4000000 in
theorem c_mcopy {g : ab_G} {N t s : Nat} {v : Nat → Nat} {fs : List Value} {w : ab_W} (h : w 74 = mdX fs) (hx : w 75 = xA v) (ht : t < 19) (hs : s < 19) (hn : s ≠ t) : ab_Ct MX8_copy g [.ref 74, .int (nI t), .int (nI s)] N w (rt none N (wu w 75 (xA (us v t (v s))))) := by
  have K : ∀ z i, i + z = 84 → ab_St MX8_copy g 0 0 2 [(3, .int (nI i)), (0, .ref 74), (1, .int (nI t)), (2, .int (nI s))] [] N (wu w 75 (xB v t (fl i (dg 65536 (v s)) (dg 65536 (v t))))) (rt none N (wu w 75 (xA (us v t (v s))))) := by
    intro z
    induction z with
    | zero =>
      intro i hi
      obtain rfl : i = 84 := by omega
      unfold xB
      rw [xw_fl]
      refine r_iload_n dX8_copy_2 rfl ?_
      refine r_bipush (v := nI 84) dX8_copy_3 (by decide) ?_
      first | refine r_icmp_geN (tgt := 36) dX8_copy_5 (by decide) (by omega) (by omega) (fun h5 => ?_) (fun h5 => ?_) | refine r_icmp_ge (tgt := 36) dX8_copy_5 (by decide) (fun h5 => ?_) (fun h5 => ?_)
      · refine r_ret (r := none) dX8_copy_36 (by decide) (by decide) ?_
        exact ⟨rfl, rfl, rfl⟩
      · omega
    | succ z ih =>
      intro i hi
      refine r_iload_n dX8_copy_2 rfl ?_
      refine r_bipush (v := nI 84) dX8_copy_3 (by decide) ?_
      first | refine r_icmp_geN (tgt := 36) dX8_copy_5 (by decide) (by omega) (by omega) (fun h5 => ?_) (fun h5 => ?_) | refine r_icmp_ge (tgt := 36) dX8_copy_5 (by decide) (fun h5 => ?_) (fun h5 => ?_)
      · omega
      · refine r_aload_n dX8_copy_8 rfl ?_
        refine r_getf dX8_copy_9 fX8_7 (by repeat first | exact wu_eq | assumption | (apply wu_ne; first | omega | assumption | (apply Ne.symm; assumption))) (by rfl) ?_
        refine r_bipush (v := nI 84) dX8_copy_12 (by decide) ?_
        refine r_iload_n dX8_copy_14 rfl ?_
        first | refine r_imulN dX8_copy_15 ?_ | refine r_imul dX8_copy_15 ?_
        refine r_iload_n dX8_copy_16 rfl ?_
        first | refine r_iaddN dX8_copy_17 ?_ | refine r_iadd dX8_copy_17 ?_
        refine r_aload_n dX8_copy_18 rfl ?_
        refine r_getf dX8_copy_19 fX8_7 (by repeat first | exact wu_eq | assumption | (apply wu_ne; first | omega | assumption | (apply Ne.symm; assumption))) (by rfl) ?_
        refine r_bipush (v := nI 84) dX8_copy_22 (by decide) ?_
        refine r_iload_n dX8_copy_24 rfl ?_
        first | refine r_imulN dX8_copy_25 ?_ | refine r_imul dX8_copy_25 ?_
        refine r_iload_n dX8_copy_26 rfl ?_
        first | refine r_iaddN dX8_copy_27 ?_ | refine r_iadd dX8_copy_27 ?_
        refine r_xlO (s := s) (k := i) dX8_copy_28 (by repeat first | exact wu_eq | assumption | (apply wu_ne; first | omega | assumption | (apply Ne.symm; assumption))) (congrArg nI (by omega)) (by omega) (by omega) (by first | assumption | omega) ?_
        refine r_xs (s := t) (k := i) dX8_copy_29 (by repeat first | exact wu_eq | assumption | (apply wu_ne; first | omega | assumption | (apply Ne.symm; assumption))) (congrArg nI (by omega)) (by omega) (by omega) ?_
        refine r_iinc (L0 := [(0, _), (1, _), (2, _)]) dX8_copy_30 rfl (by first | exact iinc1 _ | rfl) (by decide) rfl ?_
        refine r_goto (tgt := 2) dX8_copy_33 (by decide) ?_
        rw [wu_wu, fl_up]
        refine r_sub [0, 1, 2, 3] rfl ?_
        exact ih (i + 1) (by omega)
  refine ab_Ct.of (by decide +kernel) (Nat.le_of_ble_eq_true rfl) (by rintro _ _ _ ⟨rfl, rfl, rfl⟩; trivial) ?_
  show ab_St MX8_copy g 0 0 0 [(0, .ref 74), (1, .int (nI t)), (2, .int (nI s))] [] _ _ _
  refine r_iconst (v := nI 0) dX8_copy_0 (by decide) ?_
  refine r_istore_n (i := 3) (L0 := [(0, _), (1, _), (2, _)]) dX8_copy_1 rfl (by decide) rfl ?_
  have hh := K 84 0 (by omega)
  rw [xw_start hx] at hh
  exact hh
set_option maxRecDepth 100000 in
set_option maxHeartbeats 4000000 in
theorem c_small {g : ab_G} {N s x : Nat} {v : Nat → Nat} {fs : List Value} {w : ab_W} (h : w 74 = mdX fs) (hx : w 75 = xA v) (hs : s < 19) (hx2 : x < 65536) : ab_Ct MX8_small g [.ref 74, .int (nI s), .int (nI x)] N w (rt none N (wu w 75 (xA (us v s x)))) := by
  refine ab_Ct.of (by decide +kernel) (Nat.le_of_ble_eq_true rfl) (by rintro _ _ _ ⟨rfl, rfl, rfl⟩; trivial) ?_
  show ab_St MX8_small g 0 0 0 [(0, .ref 74), (1, .int (nI s)), (2, .int (nI x))] [] _ _ _
  refine r_aload_n dX8_small_0 rfl ?_
  refine r_iload_n dX8_small_1 rfl ?_
  refine r_invV dX8_small_2 kX8_116 (c_clear (v := v) h hx hs) rfl rfl (by repeat first | exact wu_eq | assumption | (apply wu_ne; first | omega | assumption | (apply Ne.symm; assumption))) rfl rfl ⟨by decide, by decide⟩ (Nat.le_of_ble_eq_true rfl) ⟨by decide, by decide⟩ ⟨rfl, rfl⟩ ?_
  rintro _ _ _ ⟨rfl, rfl, rfl⟩
  refine r_toW (w' := wu w 75 (xB (us v s 0) s (dg 65536 (us v s 0 s)))) (by unfold xB; rw [xw_v]) ?_
  refine r_aload_n dX8_small_5 rfl ?_
  refine r_getf dX8_small_6 fX8_7 (by repeat first | exact wu_eq | assumption | (apply wu_ne; first | omega | assumption | (apply Ne.symm; assumption))) (by rfl) ?_
  refine r_bipush (v := nI 84) dX8_small_9 (by decide) ?_
  refine r_iload_n dX8_small_11 rfl ?_
  first | refine r_imulN dX8_small_12 ?_ | refine r_imul dX8_small_12 ?_
  refine r_iload_n dX8_small_13 rfl ?_
  refine r_xs (s := s) (k := 0) dX8_small_14 (by repeat first | exact wu_eq | assumption | (apply wu_ne; first | omega | assumption | (apply Ne.symm; assumption))) (congrArg nI (by omega)) (by omega) (by omega) ?_
  refine r_ret (r := none) dX8_small_15 (by decide) (by decide) ?_
  rw [wu_wu, us_eq]
  unfold xB
  rw [xw_us (u := x), us_us]
  · exact ⟨rfl, rfl, rfl⟩
  · intro k hk
    unfold va_up dg
    by_cases h0 : k = 0
    · rw [if_pos h0, h0, Nat.pow_zero, Nat.div_one, Nat.mod_eq_of_lt hx2]
    · rw [if_neg h0, Nat.zero_div, Nat.zero_mod, Nat.div_eq_of_lt, Nat.zero_mod]
      exact Nat.lt_of_lt_of_le hx2 (Nat.le_trans (by decide : 65536 ≤ 65536 ^ 1) (Nat.pow_le_pow_right (by decide) (by omega)))
set_option maxRecDepth 100000 in
set_option maxHeartbeats 4000000 in
theorem c_longOf {g : ab_G} {N s : Nat} {v : Nat → Nat} {fs : List Value} {w : ab_W} (h : w 74 = mdX fs) (hx : w 75 = xA v) (hs : s < 19) (hv : bnd (v s)) : ab_Ct MX8_longOf g [.ref 74, .int (nI s)] N w (rp (some (.int (nI (ll (v s))))) N w) := by
  have K : ∀ k, k ≤ 84 → v s < 65536 ^ k → ab_St MX8_longOf g 0 0 3 [(2, .int (nI k)), (0, .ref 74), (1, .int (nI s))] [] N w (rp (some (.int (nI (ll (v s))))) N w) := by
    intro k
    induction k with
    | zero =>
      intro _ h0
      rw [Nat.pow_zero] at h0
      refine r_iload_n dX8_longOf_3 rfl ?_
      first | refine r_if_leN (tgt := 29) dX8_longOf_4 (by decide) (by omega) (fun h4 => ?_) (fun h4 => ?_) | refine r_if_le (tgt := 29) dX8_longOf_4 (by decide) (fun h4 => ?_) (fun h4 => ?_)
      · refine r_iload_n dX8_longOf_29 rfl ?_
        refine r_ret (r := (some (.int _))) dX8_longOf_30 (by decide) (by decide) ?_
        rw [show v s = 0 by omega, ll_0]
        exact ⟨rfl, rfl, rfl⟩
      · omega
    | succ k ih =>
      intro hk h0
      have hd := dg6_lt (v s) k
      refine r_iload_n dX8_longOf_3 rfl ?_
      first | refine r_if_leN (tgt := 29) dX8_longOf_4 (by decide) (by omega) (fun h4 => ?_) (fun h4 => ?_) | refine r_if_le (tgt := 29) dX8_longOf_4 (by decide) (fun h4 => ?_) (fun h4 => ?_)
      · omega
      · refine r_aload_n dX8_longOf_7 rfl ?_
        refine r_getf dX8_longOf_8 fX8_7 (by repeat first | exact wu_eq | assumption | (apply wu_ne; first | omega | assumption | (apply Ne.symm; assumption))) (by rfl) ?_
        refine r_bipush (v := nI 84) dX8_longOf_11 (by decide) ?_
        refine r_iload_n dX8_longOf_13 rfl ?_
        first | refine r_imulN dX8_longOf_14 ?_ | refine r_imul dX8_longOf_14 ?_
        refine r_iload_n dX8_longOf_15 rfl ?_
        first | refine r_iaddN dX8_longOf_16 ?_ | refine r_iadd dX8_longOf_16 ?_
        refine r_iconst (v := nI 1) dX8_longOf_17 (by decide) ?_
        first | refine r_isubN dX8_longOf_18 (by omega) ?_ | refine r_isub dX8_longOf_18 ?_
        refine r_xlV (s := s) (k := k) dX8_longOf_19 (by repeat first | exact wu_eq | assumption | (apply wu_ne; first | omega | assumption | (apply Ne.symm; assumption))) (congrArg nI (by omega)) (by omega) (by omega) ?_
        first | refine r_if_neN (tgt := 29) dX8_longOf_20 (by decide) (by omega) (fun h20 => ?_) (fun h20 => ?_) | refine r_if_ne (tgt := 29) dX8_longOf_20 (by decide) (fun h20 => ?_) (fun h20 => ?_)
        · refine r_iload_n dX8_longOf_29 rfl ?_
          refine r_ret (r := (some (.int _))) dX8_longOf_30 (by decide) (by decide) ?_
          rw [ll_of (dg_nz h20) h0]
          exact ⟨rfl, rfl, rfl⟩
        · refine r_iinc (L0 := [(0, _), (1, _)]) dX8_longOf_23 rfl (by first | exact iincm1' _ | rfl) (by decide) rfl ?_
          refine r_goto (tgt := 3) dX8_longOf_26 (by decide) ?_
          rw [i32_pm]
          exact ih (by omega) (dg_z (by decide) h0 h20)
  refine ab_Ct.of (by decide +kernel) (Nat.le_of_ble_eq_true rfl) (by rintro _ _ _ ⟨rfl, rfl, rfl⟩; trivial) ?_
  show ab_St MX8_longOf g 0 0 0 [(0, .ref 74), (1, .int (nI s))] [] _ _ _
  refine r_bipush (v := nI 84) dX8_longOf_0 (by decide) ?_
  refine r_istore_n (i := 2) (L0 := [(0, _), (1, _)]) dX8_longOf_2 rfl (by decide) rfl ?_
  exact K 84 (by decide) hv
set_option maxRecDepth 100000 in
set_option maxHeartbeats 4000000 in
theorem c_compare {g : ab_G} {N a b : Nat} {v : Nat → Nat} {fs : List Value} {w : ab_W} (h : w 74 = mdX fs) (hx : w 75 = xA v) (ha : a < 19) (hb : b < 19) (hva : bnd (v a)) (hvb : bnd (v b)) : ab_Ct MX8_compare g [.ref 74, .int (nI a), .int (nI b)] N w (rp (some (.int (if v a < v b then -1 else if v b < v a then 1 else 0))) N w) := by
  have K38 : ∀ k, k < 84 → (k = 0 ∨ dg 65536 (v a) k ≠ dg 65536 (v b) k) → v a / 65536 ^ (k + 1) = v b / 65536 ^ (k + 1) → ab_St MX8_compare g 0 0 38 [(3, .int (nI k)), (0, .ref 74), (1, .int (nI a)), (2, .int (nI b))] [] N w (rp (some (.int (if v a < v b then -1 else if v b < v a then 1 else 0))) N w) := by
    intro k hk hor he
    have hda := dg6_lt (v a) k
    have hdb := dg6_lt (v b) k
    have ea := div_dg 65536 (v a) k
    have eb := div_dg 65536 (v b) k
    rw [he] at ea
    refine r_aload_n dX8_compare_38 rfl ?_
    refine r_getf dX8_compare_39 fX8_7 (by repeat first | exact wu_eq | assumption | (apply wu_ne; first | omega | assumption | (apply Ne.symm; assumption))) (by rfl) ?_
    refine r_bipush (v := nI 84) dX8_compare_42 (by decide) ?_
    refine r_iload_n dX8_compare_44 rfl ?_
    first | refine r_imulN dX8_compare_45 ?_ | refine r_imul dX8_compare_45 ?_
    refine r_iload_n dX8_compare_46 rfl ?_
    first | refine r_iaddN dX8_compare_47 ?_ | refine r_iadd dX8_compare_47 ?_
    refine r_xlV (s := a) (k := k) dX8_compare_48 (by repeat first | exact wu_eq | assumption | (apply wu_ne; first | omega | assumption | (apply Ne.symm; assumption))) (congrArg nI (by omega)) (by omega) (by omega) ?_
    refine r_istore (i := 4) (L0 := [(3, _), (0, _), (1, _), (2, _)]) dX8_compare_49 (by decide) rfl ?_
    refine r_aload_n dX8_compare_51 rfl ?_
    refine r_getf dX8_compare_52 fX8_7 (by repeat first | exact wu_eq | assumption | (apply wu_ne; first | omega | assumption | (apply Ne.symm; assumption))) (by rfl) ?_
    refine r_bipush (v := nI 84) dX8_compare_55 (by decide) ?_
    refine r_iload_n dX8_compare_57 rfl ?_
    first | refine r_imulN dX8_compare_58 ?_ | refine r_imul dX8_compare_58 ?_
    refine r_iload_n dX8_compare_59 rfl ?_
    first | refine r_iaddN dX8_compare_60 ?_ | refine r_iadd dX8_compare_60 ?_
    refine r_xlV (s := b) (k := k) dX8_compare_61 (by repeat first | exact wu_eq | assumption | (apply wu_ne; first | omega | assumption | (apply Ne.symm; assumption))) (congrArg nI (by omega)) (by omega) (by omega) ?_
    refine r_istore (i := 5) (L0 := [(4, _), (3, _), (0, _), (1, _), (2, _)]) dX8_compare_62 (by decide) rfl ?_
    refine r_iload dX8_compare_64 rfl ?_
    refine r_iload dX8_compare_66 rfl ?_
    first | refine r_icmp_geN (tgt := 75) dX8_compare_68 (by decide) (by omega) (by omega) (fun h68 => ?_) (fun h68 => ?_) | refine r_icmp_ge (tgt := 75) dX8_compare_68 (by decide) (fun h68 => ?_) (fun h68 => ?_)
    · refine r_iload dX8_compare_75 rfl ?_
      refine r_iload dX8_compare_77 rfl ?_
      first | refine r_icmp_leN (tgt := 86) dX8_compare_79 (by decide) (by omega) (by omega) (fun h79 => ?_) (fun h79 => ?_) | refine r_icmp_le (tgt := 86) dX8_compare_79 (by decide) (fun h79 => ?_) (fun h79 => ?_)
      · refine r_iconst (v := nI 0) dX8_compare_86 (by decide) ?_
        refine r_ret (r := (some (.int _))) dX8_compare_87 (by decide) (by decide) ?_
        have e3 : dg 65536 (v a) k = dg 65536 (v b) k := by omega
        have k0 : k = 0 := by rcases hor with q | q; exact q; exact absurd e3 q
        subst k0
        rw [Nat.pow_zero, Nat.div_one] at ea eb
        rw [if_neg (by omega), if_neg (by omega)]
        exact ⟨rfl, rfl, rfl⟩
      · refine r_iconst (v := nI 1) dX8_compare_82 (by decide) ?_
        refine r_goto (tgt := 87) dX8_compare_83 (by decide) ?_
        refine r_ret (r := (some (.int _))) dX8_compare_87 (by decide) (by decide) ?_
        have h1 := dg6_cmp (va := v b) (vb := v a) (i := k) (by omega)
        rw [if_neg (by omega), if_pos h1]
        exact ⟨rfl, rfl, rfl⟩
    · refine r_iconst (v := (-1)) dX8_compare_71 (by decide) ?_
      refine r_goto (tgt := 87) dX8_compare_72 (by decide) ?_
      refine r_ret (r := (some (.int _))) dX8_compare_87 (by decide) (by decide) ?_
      have h1 := dg6_cmp (va := v a) (vb := v b) (i := k) (by omega)
      rw [if_pos h1]
      exact ⟨rfl, rfl, rfl⟩
  have K : ∀ k, k < 84 → v a / 65536 ^ (k + 1) = v b / 65536 ^ (k + 1) → ab_St MX8_compare g 0 0 3 [(3, .int (nI k)), (0, .ref 74), (1, .int (nI a)), (2, .int (nI b))] [] N w (rp (some (.int (if v a < v b then -1 else if v b < v a then 1 else 0))) N w) := by
    intro k
    induction k with
    | zero =>
      intro hk he
      refine r_iload_n dX8_compare_3 rfl ?_
      first | refine r_if_leN (tgt := 38) dX8_compare_4 (by decide) (by omega) (fun h4 => ?_) (fun h4 => ?_) | refine r_if_le (tgt := 38) dX8_compare_4 (by decide) (fun h4 => ?_) (fun h4 => ?_)
      · exact K38 0 hk (Or.inl rfl) he
      · omega
    | succ k ih =>
      intro hk he
      have hda := dg6_lt (v a) (k + 1)
      have hdb := dg6_lt (v b) (k + 1)
      refine r_iload_n dX8_compare_3 rfl ?_
      first | refine r_if_leN (tgt := 38) dX8_compare_4 (by decide) (by omega) (fun h4 => ?_) (fun h4 => ?_) | refine r_if_le (tgt := 38) dX8_compare_4 (by decide) (fun h4 => ?_) (fun h4 => ?_)
      · omega
      · refine r_aload_n dX8_compare_7 rfl ?_
        refine r_getf dX8_compare_8 fX8_7 (by repeat first | exact wu_eq | assumption | (apply wu_ne; first | omega | assumption | (apply Ne.symm; assumption))) (by rfl) ?_
        refine r_bipush (v := nI 84) dX8_compare_11 (by decide) ?_
        refine r_iload_n dX8_compare_13 rfl ?_
        first | refine r_imulN dX8_compare_14 ?_ | refine r_imul dX8_compare_14 ?_
        refine r_iload_n dX8_compare_15 rfl ?_
        first | refine r_iaddN dX8_compare_16 ?_ | refine r_iadd dX8_compare_16 ?_
        refine r_xlV (s := a) (k := k + 1) dX8_compare_17 (by repeat first | exact wu_eq | assumption | (apply wu_ne; first | omega | assumption | (apply Ne.symm; assumption))) (congrArg nI (by omega)) (by omega) (by omega) ?_
        refine r_aload_n dX8_compare_18 rfl ?_
        refine r_getf dX8_compare_19 fX8_7 (by repeat first | exact wu_eq | assumption | (apply wu_ne; first | omega | assumption | (apply Ne.symm; assumption))) (by rfl) ?_
        refine r_bipush (v := nI 84) dX8_compare_22 (by decide) ?_
        refine r_iload_n dX8_compare_24 rfl ?_
        first | refine r_imulN dX8_compare_25 ?_ | refine r_imul dX8_compare_25 ?_
        refine r_iload_n dX8_compare_26 rfl ?_
        first | refine r_iaddN dX8_compare_27 ?_ | refine r_iadd dX8_compare_27 ?_
        refine r_xlV (s := b) (k := k + 1) dX8_compare_28 (by repeat first | exact wu_eq | assumption | (apply wu_ne; first | omega | assumption | (apply Ne.symm; assumption))) (congrArg nI (by omega)) (by omega) (by omega) ?_
        first | refine r_icmp_neN (tgt := 38) dX8_compare_29 (by decide) (by omega) (by omega) (fun h29 => ?_) (fun h29 => ?_) | refine r_icmp_ne (tgt := 38) dX8_compare_29 (by decide) (fun h29 => ?_) (fun h29 => ?_)
        · exact K38 (k + 1) hk (Or.inr h29) he
        · refine r_iinc (L0 := [(0, _), (1, _), (2, _)]) dX8_compare_32 rfl (by first | exact iincm1' _ | rfl) (by decide) rfl ?_
          refine r_goto (tgt := 3) dX8_compare_35 (by decide) ?_
          rw [i32_pm]
          refine ih (by omega) ?_
          rw [div_dg 65536 (v a) (k + 1), div_dg 65536 (v b) (k + 1), he, h29]
  refine ab_Ct.of (by decide +kernel) (Nat.le_of_ble_eq_true rfl) (by rintro _ _ _ ⟨rfl, rfl, rfl⟩; trivial) ?_
  show ab_St MX8_compare g 0 0 0 [(0, .ref 74), (1, .int (nI a)), (2, .int (nI b))] [] _ _ _
  refine r_bipush (v := nI 83) dX8_compare_0 (by decide) ?_
  refine r_istore_n (i := 3) (L0 := [(0, _), (1, _), (2, _)]) dX8_compare_2 rfl (by decide) rfl ?_
  exact K 83 (by decide) (by rw [Nat.div_eq_of_lt hva, Nat.div_eq_of_lt hvb])
set_option maxRecDepth 100000 in
set_option maxHeartbeats 4000000 in
theorem c_isSmall {g : ab_G} {N s x : Nat} {v : Nat → Nat} {fs : List Value} {w : ab_W} (h : w 74 = mdX fs) (hx : w 75 = xA v) (hs : s < 19) (hv : bnd (v s)) (hx2 : x < 65536) : ab_Ct MX8_isSmall g [.ref 74, .int (nI s), .int (nI x)] N w (rp (some (.int (nI (if v s = x then 1 else 0)))) N w) := by
  have hl := ll_le hv
  have hd := dg6_lt (v s) 0
  have e0 := dg_0 65536 (v s)
  refine ab_Ct.of (by decide +kernel) (Nat.le_of_ble_eq_true rfl) (by rintro _ _ _ ⟨rfl, -, -⟩; exact nI_zk (by split <;> decide)) ?_
  show ab_St MX8_isSmall g 0 0 0 [(0, .ref 74), (1, .int (nI s)), (2, .int (nI x))] [] _ _ _
  refine r_aload_n dX8_isSmall_0 rfl ?_
  refine r_iload_n dX8_isSmall_1 rfl ?_
  refine r_invV dX8_isSmall_2 kX8_120 (c_longOf (s := s) h hx hs hv) rfl rfl (by repeat first | exact wu_eq | assumption | (apply wu_ne; first | omega | assumption | (apply Ne.symm; assumption))) rfl rfl ⟨by decide, by decide⟩ (Nat.le_of_ble_eq_true rfl) ⟨by decide, by decide⟩ ⟨rfl, rfl⟩ ?_
  rintro _ _ _ ⟨rfl, rfl, rfl⟩
  refine r_iconst (v := nI 1) dX8_isSmall_5 (by decide) ?_
  first | refine r_icmp_gtN (tgt := 26) dX8_isSmall_6 (by decide) (by omega) (by omega) (fun h6 => ?_) (fun h6 => ?_) | refine r_icmp_gt (tgt := 26) dX8_isSmall_6 (by decide) (fun h6 => ?_) (fun h6 => ?_)
  · refine r_iconst (v := nI 0) dX8_isSmall_26 (by decide) ?_
    refine r_ret (r := (some (.int _))) dX8_isSmall_27 (by decide) (by decide) ?_
    rw [if_neg fun e => ?_]
    · exact ⟨rfl, rfl, rfl⟩
    · have := ll_le (v := v s) (n := 1) (by rw [e]; exact hx2)
      omega
  · have h1 : v s < 65536 := by
      have := Nat.lt_of_lt_of_le (ll_lt (v s)) (Nat.pow_le_pow_right (by decide : 0 < 65536) (show ll (v s) ≤ 1 by omega))
      exact this
    rw [Nat.mod_eq_of_lt h1] at e0
    refine r_aload_n dX8_isSmall_9 rfl ?_
    refine r_getf dX8_isSmall_10 fX8_7 (by repeat first | exact wu_eq | assumption | (apply wu_ne; first | omega | assumption | (apply Ne.symm; assumption))) (by rfl) ?_
    refine r_bipush (v := nI 84) dX8_isSmall_13 (by decide) ?_
    refine r_iload_n dX8_isSmall_15 rfl ?_
    first | refine r_imulN dX8_isSmall_16 ?_ | refine r_imul dX8_isSmall_16 ?_
    refine r_xlV (s := s) (k := 0) dX8_isSmall_17 (by repeat first | exact wu_eq | assumption | (apply wu_ne; first | omega | assumption | (apply Ne.symm; assumption))) (congrArg nI (by omega)) (by omega) (by omega) ?_
    refine r_iload_n dX8_isSmall_18 rfl ?_
    first | refine r_icmp_neN (tgt := 26) dX8_isSmall_19 (by decide) (by omega) (by omega) (fun h19 => ?_) (fun h19 => ?_) | refine r_icmp_ne (tgt := 26) dX8_isSmall_19 (by decide) (fun h19 => ?_) (fun h19 => ?_)
    · refine r_iconst (v := nI 0) dX8_isSmall_26 (by decide) ?_
      refine r_ret (r := (some (.int _))) dX8_isSmall_27 (by decide) (by decide) ?_
      rw [if_neg (by omega)]
      exact ⟨rfl, rfl, rfl⟩
    · refine r_iconst (v := nI 1) dX8_isSmall_22 (by decide) ?_
      refine r_goto (tgt := 27) dX8_isSmall_23 (by decide) ?_
      refine r_ret (r := (some (.int _))) dX8_isSmall_27 (by decide) (by decide) ?_
      rw [if_pos (by omega)]
      exact ⟨rfl, rfl, rfl⟩
