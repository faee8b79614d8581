/-! SignHouse$Rows, the other methods -/
set_option maxRecDepth 100000 in
set_option maxHeartbeats 4000000 in
theorem c_order {g : ab_G} {N a b n u v : Nat} {w : ab_W} (ha : w a = aN n u) (hb : w b = aN n v) (hn : n ≤ 1000) (hu : u < 4294967296 ^ n) (hv : v < 4294967296 ^ n) : ab_Ct MX5_order g [.ref a, .ref b] N w (rp (some (.int (if u < v then -1 else if v < u then 1 else 0))) N w) := by
  have K : ∀ k, k ≤ n → u / 4294967296 ^ k = v / 4294967296 ^ k → ab_St MX5_order g 0 0 10 [(2, .int (nI k - 1)), (0, .ref a), (1, .ref b)] [] N w (rp (some (.int (if u < v then -1 else if v < u then 1 else 0))) N w) := by
    intro k
    induction k with
    | zero =>
      intro _ hk
      rw [Nat.pow_zero, Nat.div_one, Nat.div_one] at hk
      refine r_iload_n dX5_order_10 rfl ?_
      refine r_if_lt (tgt := 46) dX5_order_11 (by decide) (fun _ => ?_) (fun h => absurd nI0lt h)
      refine r_iconst (v := nI 0) dX5_order_46 (by decide) ?_
      refine r_ret (r := (some (.int _))) dX5_order_47 (by decide) (by decide) ?_
      refine ⟨?_, rfl, rfl⟩
      rw [hk, if_neg (Nat.lt_irrefl v), if_neg (Nat.lt_irrefl v)]
      rfl
    | succ k ih =>
      intro hkn hk
      rw [i32_pm]
      have hd := dg_lt u k
      have hd2 := dg_lt v k
      have e1 := div_dg 4294967296 u k
      have e2 := div_dg 4294967296 v k
      refine r_iload_n dX5_order_10 rfl ?_
      first | refine r_if_ltN (tgt := 46) dX5_order_11 (by decide) (by omega) (fun h11 => ?_) | refine r_if_lt (tgt := 46) dX5_order_11 (by decide) (fun h11 => ?_) (fun h11 => ?_)
      refine r_aload_n dX5_order_14 rfl ?_
      refine r_iload_n dX5_order_15 rfl ?_
      refine r_laload' dX5_order_16 (by repeat first | exact wu_eq | assumption | (apply wu_ne; first | omega | assumption | (apply Ne.symm; assumption))) (by rfl) _ rfl (by omega) (by omega) ?_
      refine r_aload_n dX5_order_17 rfl ?_
      refine r_iload_n dX5_order_18 rfl ?_
      refine r_laload' dX5_order_19 (by repeat first | exact wu_eq | assumption | (apply wu_ne; first | omega | assumption | (apply Ne.symm; assumption))) (by rfl) _ rfl (by omega) (by omega) ?_
      first | refine r_lcmp_eqN (tgt := 40) dX5_order_20 dX5_order_21 (by decide) (by omega) (by omega) (fun h20 => ?_) (fun h20 => ?_) | refine r_lcmp_eq (tgt := 40) dX5_order_20 dX5_order_21 (by decide) (fun h20 => ?_) (fun h20 => ?_)
      · refine r_iinc (L0 := [(0, _), (1, _)]) dX5_order_40 rfl (by first | exact iincm1' _ | rfl) (by decide) rfl ?_
        refine r_goto (tgt := 10) dX5_order_43 (by decide) ?_
        exact ih (by omega) (by rw [e1, e2, hk, h20])
      · refine r_aload_n dX5_order_24 rfl ?_
        refine r_iload_n dX5_order_25 rfl ?_
        refine r_laload' dX5_order_26 (by repeat first | exact wu_eq | assumption | (apply wu_ne; first | omega | assumption | (apply Ne.symm; assumption))) (by rfl) _ rfl (by omega) (by omega) ?_
        refine r_aload_n dX5_order_27 rfl ?_
        refine r_iload_n dX5_order_28 rfl ?_
        refine r_laload' dX5_order_29 (by repeat first | exact wu_eq | assumption | (apply wu_ne; first | omega | assumption | (apply Ne.symm; assumption))) (by rfl) _ rfl (by omega) (by omega) ?_
        first | refine r_lcmp_geN (tgt := 38) dX5_order_30 dX5_order_31 (by decide) (by omega) (by omega) (fun h30 => ?_) (fun h30 => ?_) | refine r_lcmp_ge (tgt := 38) dX5_order_30 dX5_order_31 (by decide) (fun h30 => ?_) (fun h30 => ?_)
        · refine r_iconst (v := nI 1) dX5_order_38 (by decide) ?_
          refine r_ret (r := (some (.int _))) dX5_order_39 (by decide) (by decide) ?_
          have hlt : v < u := dg_cmp (i := k) (by omega)
          refine ⟨?_, rfl, rfl⟩
          rw [if_neg (by omega), if_pos hlt]
          rfl
        · refine r_iconst (v := (-1)) dX5_order_34 (by decide) ?_
          refine r_goto (tgt := 39) dX5_order_35 (by decide) ?_
          refine r_ret (r := (some (.int _))) dX5_order_39 (by decide) (by decide) ?_
          have hlt : u < v := dg_cmp (i := k) (by omega)
          refine ⟨?_, rfl, rfl⟩
          rw [if_pos hlt]
  refine ab_Ct.of (by decide +kernel) (Nat.le_of_ble_eq_true rfl) (by rintro _ _ _ ⟨rfl, rfl, rfl⟩; trivial) ?_
  show ab_St MX5_order g 0 0 0 [(0, .ref a), (1, .ref b)] [] _ _ _
  refine r_aload_n dX5_order_0 rfl ?_
  refine r_alen' dX5_order_1 (by repeat first | exact wu_eq | assumption | (apply wu_ne; first | omega | assumption | (apply Ne.symm; assumption))) (by rfl) ?_
  refine r_aload_n dX5_order_2 rfl ?_
  refine r_alen' dX5_order_3 (by repeat first | exact wu_eq | assumption | (apply wu_ne; first | omega | assumption | (apply Ne.symm; assumption))) (by rfl) ?_
  first | refine r_minN dX5_order_4 kX5_25 (by decide) (Nat.le_of_ble_eq_true rfl) (by decide) (by decide) (by omega) (by omega) ?_ | refine r_min dX5_order_4 kX5_25 (by decide) (Nat.le_of_ble_eq_true rfl) (by decide) (by decide) ?_
  refine r_iconst (v := nI 1) dX5_order_7 (by decide) ?_
  rw [show (nI 1 : Int32) = 1 by decide, Nat.min_self]
  refine r_isub dX5_order_8 ?_
  refine r_istore_n (i := 2) (L0 := [(0, _), (1, _)]) dX5_order_9 rfl (by decide) rfl ?_
  exact K n (Nat.le_refl n) (by rw [Nat.div_eq_of_lt hu, Nat.div_eq_of_lt hv])
set_option maxRecDepth 100000 in
set_option maxHeartbeats 4000000 in
theorem c_add {g : ab_G} {N a b n m u v : Nat} {w : ab_W} (hab : a ≠ b) (ha : w a = aN n u) (hb : w b = aN m v) (hn : n ≤ 1000) (hm : m ≤ 1000) (hu : u < 4294967296 ^ n) (hv : v < 4294967296 ^ m) : ab_Ct MX5_add g [.ref a, .ref b] N w (rt none N (wu w a (aN n ((u + v) % 4294967296 ^ n)))) := by
  have K : ∀ k i, i + k = n → ab_St MX5_add g 0 0 5 [(4, .int (nI i)), (2, .long (lN (ca u v i))), (0, .ref a), (1, .ref b)] [] N (wu w a (aJ n (fl i (rJ ((u + v) % 4294967296 ^ n)) (rJ u)))) (rt none N (wu w a (aN n ((u + v) % 4294967296 ^ n)))) := by
    intro k
    induction k with
    | zero =>
      intro i hi
      refine r_iload dX5_add_5 rfl ?_
      refine r_aload_n dX5_add_7 rfl ?_
      refine r_alen' dX5_add_8 (by repeat first | exact wu_eq | assumption | (apply wu_ne; first | omega | assumption | (apply Ne.symm; assumption))) (by rfl) ?_
      first | refine r_icmp_geN (tgt := 58) dX5_add_9 (by decide) (by omega) (by omega) (fun h9 => ?_) (fun h9 => ?_) | refine r_icmp_ge (tgt := 58) dX5_add_9 (by decide) (fun h9 => ?_) (fun h9 => ?_)
      · refine r_ret (r := none) dX5_add_58 (by decide) (by decide) ?_
        refine ⟨rfl, rfl, ?_⟩
        rw [show i = n by omega, fl_end fun k hk => by unfold rJ; rw [dg_big hu hk (by decide), dg_big (v := (u + v) % 4294967296 ^ n) (Nat.mod_lt _ (Nat.pow_pos (by decide))) hk (by decide)]]
      · omega
    | succ k ih =>
      intro i hi
      have h1 := dg_lt u i
      have h2 := dg_lt v i
      have h3 := ca_le u v i
      have e1 := ca_dg u v i
      have e2 := ca_succ u v i
      have ef : fl i (rJ ((u + v) % 4294967296 ^ n)) (rJ u) i = lN (dg 4294967296 u i) := fl_hi (Nat.le_refl i)
      have K31 : ab_St MX5_add g 0 0 31 [(4, .int (nI i)), (2, .long (lN (ca u v i))), (0, .ref a), (1, .ref b)] [.long (lN (dg 4294967296 v i)), .long (lN (dg 4294967296 u i))] N (wu w a (aJ n (fl i (rJ ((u + v) % 4294967296 ^ n)) (rJ u)))) (rt none N (wu w a (aN n ((u + v) % 4294967296 ^ n)))) := by
        first | refine r_laddN dX5_add_31 ?_ | refine r_ladd dX5_add_31 ?_
        refine r_lload_n dX5_add_32 rfl ?_
        first | refine r_laddN dX5_add_33 ?_ | refine r_ladd dX5_add_33 ?_
        refine r_lstore (i := 5) (L0 := [(4, _), (2, _), (0, _), (1, _)]) dX5_add_34 (by decide) rfl ?_
        refine r_aload_n dX5_add_36 rfl ?_
        refine r_iload dX5_add_37 rfl ?_
        refine r_lload dX5_add_39 rfl ?_
        refine r_ldc2 dX5_add_41 qX5_19 ?_
        refine r_land32 dX5_add_44 ?_
        refine r_lastore dX5_add_45 (by repeat first | exact wu_eq | assumption | (apply wu_ne; first | omega | assumption | (apply Ne.symm; assumption))) _ rfl (by omega) (by omega) ?_
        refine r_lload dX5_add_46 rfl ?_
        refine r_bipush (v := nI 32) dX5_add_48 (by decide) ?_
        first | refine r_lushrN 32 (by decide) dX5_add_50 (by omega) ?_ | refine r_lushr dX5_add_50 ?_
        refine r_lstore_n (i := 2) (L0 := [(5, _), (4, _), (0, _), (1, _)]) dX5_add_51 rfl (by decide) rfl ?_
        refine r_iinc (L0 := [(2, _), (5, _), (0, _), (1, _)]) dX5_add_52 rfl (by first | exact iinc1 _ | rfl) (by decide) rfl ?_
        refine r_goto (tgt := 5) dX5_add_55 (by decide) ?_
        rw [wu_wu, fl_up' (f := rJ ((u + v) % 4294967296 ^ n)) (show lN ((dg 4294967296 u i + dg 4294967296 v i + ca u v i) % 4294967296) = rJ ((u + v) % 4294967296 ^ n) i by unfold rJ; rw [dg_mod (by omega), e1])]
        refine r_sub [0, 1, 3, 4] rfl ?_
        rw [show (2 : Nat) ^ 32 = 4294967296 by decide, e2]
        exact ih (i + 1) (by omega)
      refine r_iload dX5_add_5 rfl ?_
      refine r_aload_n dX5_add_7 rfl ?_
      refine r_alen' dX5_add_8 (by repeat first | exact wu_eq | assumption | (apply wu_ne; first | omega | assumption | (apply Ne.symm; assumption))) (by rfl) ?_
      first | refine r_icmp_geN (tgt := 58) dX5_add_9 (by decide) (by omega) (by omega) (fun h9 => ?_) (fun h9 => ?_) | refine r_icmp_ge (tgt := 58) dX5_add_9 (by decide) (fun h9 => ?_) (fun h9 => ?_)
      · omega
      · refine r_aload_n dX5_add_12 rfl ?_
        refine r_iload dX5_add_13 rfl ?_
        refine r_laload' dX5_add_15 wu_eq (by rfl) _ rfl (by omega) (by omega) ?_
        rw [ef]
        refine r_iload dX5_add_16 rfl ?_
        refine r_aload_n dX5_add_18 rfl ?_
        refine r_alen' dX5_add_19 (by repeat first | exact wu_eq | assumption | (apply wu_ne; first | omega | assumption | (apply Ne.symm; assumption))) (by rfl) ?_
        first | refine r_icmp_geN (tgt := 30) dX5_add_20 (by decide) (by omega) (by omega) (fun h20 => ?_) (fun h20 => ?_) | refine r_icmp_ge (tgt := 30) dX5_add_20 (by decide) (fun h20 => ?_) (fun h20 => ?_)
        · refine r_lconst (v := lN 0) dX5_add_30 (by decide) ?_
          rw [show lN 0 = lN (dg 4294967296 v i) by rw [dg_big hv h20 (by decide)]]
          exact K31
        · refine r_aload_n dX5_add_23 rfl ?_
          refine r_iload dX5_add_24 rfl ?_
          refine r_laload' dX5_add_26 (by repeat first | exact wu_eq | assumption | (apply wu_ne; first | omega | assumption | (apply Ne.symm; assumption))) (by rfl) _ rfl (by omega) (by omega) ?_
          refine r_goto (tgt := 31) dX5_add_27 (by decide) ?_
          exact K31
  refine ab_Ct.of (by decide +kernel) (Nat.le_of_ble_eq_true rfl) (by rintro _ _ _ ⟨rfl, rfl, rfl⟩; trivial) ?_
  show ab_St MX5_add g 0 0 0 [(0, .ref a), (1, .ref b)] [] _ _ _
  refine r_lconst (v := lN 0) dX5_add_0 (by decide) ?_
  refine r_lstore_n (i := 2) (L0 := [(0, _), (1, _)]) dX5_add_1 rfl (by decide) rfl ?_
  refine r_iconst (v := nI 0) dX5_add_2 (by decide) ?_
  refine r_istore (i := 4) (L0 := [(2, _), (0, _), (1, _)]) dX5_add_3 (by decide) rfl ?_
  have h := K n 0 (by omega)
  rw [fl_0, wu_self ha, ca_0] at h
  exact h
set_option maxRecDepth 100000 in
set_option maxHeartbeats 4000000 in
theorem c_subtract {g : ab_G} {N a b n u v : Nat} {w : ab_W} (hab : a ≠ b) (ha : w a = aN n u) (hb : w b = aN n v) (hn : n ≤ 1000) (hu : u < 4294967296 ^ n) (hv : v < 4294967296 ^ n) : ab_Ct MX5_subtract g [.ref a, .ref a, .ref b] N w (rt (some (.int (if u < v then 1 else 0))) N (wu w a (aN n ((u + 4294967296 ^ n - v) % 4294967296 ^ n)))) := by
  generalize hV : (u + 4294967296 ^ n - v) % 4294967296 ^ n = V
  have hVn : V < 4294967296 ^ n := by rw [← hV]; exact Nat.mod_lt _ (Nat.pow_pos (by decide))
  have K : ∀ k i, i + k = n → ab_St MX5_subtract g 0 0 5 [(5, .int (nI i)), (3, .long (lN (bo u v i))), (0, .ref a), (1, .ref a), (2, .ref b)] [] N (wu w a (aJ n (fl i (rJ V) (rJ u)))) (rt (some (.int (if u < v then 1 else 0))) N (wu w a (aN n V))) := by
    intro k
    induction k with
    | zero =>
      intro i hi
      refine r_iload dX5_subtract_5 rfl ?_
      refine r_aload_n dX5_subtract_7 rfl ?_
      refine r_alen' dX5_subtract_8 (by repeat first | exact wu_eq | assumption | (apply wu_ne; first | omega | assumption | (apply Ne.symm; assumption))) (by rfl) ?_
      first | refine r_icmp_geN (tgt := 68) dX5_subtract_9 (by decide) (by omega) (by omega) (fun h9 => ?_) (fun h9 => ?_) | refine r_icmp_ge (tgt := 68) dX5_subtract_9 (by decide) (fun h9 => ?_) (fun h9 => ?_)
      · obtain rfl : i = n := by omega
        rw [bo_end hu hv, fl_end fun k hk => by unfold rJ; rw [dg_big hu hk (by decide), dg_big hVn hk (by decide)]]
        have hle : (if u < v then 1 else 0) ≤ 1 := by split <;> omega
        refine r_lload_n dX5_subtract_68 rfl ?_
        refine r_lconst (v := lN 0) dX5_subtract_69 (by decide) ?_
        first | refine r_lcmp_eqN (tgt := 78) dX5_subtract_70 dX5_subtract_71 (by decide) (by omega) (by omega) (fun h70 => ?_) (fun h70 => ?_) | refine r_lcmp_eq (tgt := 78) dX5_subtract_70 dX5_subtract_71 (by decide) (fun h70 => ?_) (fun h70 => ?_)
        · refine r_iconst (v := nI 0) dX5_subtract_78 (by decide) ?_
          refine r_ret (r := (some (.int _))) dX5_subtract_79 (by decide) (by decide) ?_
          refine ⟨?_, rfl, rfl⟩
          by_cases h : u < v
          · rw [if_pos h] at h70
            omega
          · rw [if_neg h]
            rfl
        · refine r_iconst (v := nI 1) dX5_subtract_74 (by decide) ?_
          refine r_goto (tgt := 79) dX5_subtract_75 (by decide) ?_
          refine r_ret (r := (some (.int _))) dX5_subtract_79 (by decide) (by decide) ?_
          refine ⟨?_, rfl, rfl⟩
          by_cases h : u < v
          · rw [if_pos h]
            rfl
          · rw [if_neg h] at h70
            omega
      · omega
    | succ k ih =>
      intro i hi
      have h1 := dg_lt u i
      have h2 := dg_lt v i
      have h3 := bo_le u v i
      have e1 := bo_dg (va := u) (i := i) (by omega) hv
      rw [hV] at e1
      have e2 := bo_succ u v i
      have ef : fl i (rJ V) (rJ u) i = lN (dg 4294967296 u i) := fl_hi (Nat.le_refl i)
      refine r_iload dX5_subtract_5 rfl ?_
      refine r_aload_n dX5_subtract_7 rfl ?_
      refine r_alen' dX5_subtract_8 (by repeat first | exact wu_eq | assumption | (apply wu_ne; first | omega | assumption | (apply Ne.symm; assumption))) (by rfl) ?_
      first | refine r_icmp_geN (tgt := 68) dX5_subtract_9 (by decide) (by omega) (by omega) (fun h9 => ?_) (fun h9 => ?_) | refine r_icmp_ge (tgt := 68) dX5_subtract_9 (by decide) (fun h9 => ?_) (fun h9 => ?_)
      · omega
      · refine r_iload dX5_subtract_12 rfl ?_
        refine r_aload_n dX5_subtract_14 rfl ?_
        refine r_alen' dX5_subtract_15 (by repeat first | exact wu_eq | assumption | (apply wu_ne; first | omega | assumption | (apply Ne.symm; assumption))) (by rfl) ?_
        first | refine r_icmp_geN (tgt := 68) dX5_subtract_16 (by decide) (by omega) (by omega) (fun h16 => ?_) (fun h16 => ?_) | refine r_icmp_ge (tgt := 68) dX5_subtract_16 (by decide) (fun h16 => ?_) (fun h16 => ?_)
        · omega
        · refine r_iload dX5_subtract_19 rfl ?_
          refine r_aload_n dX5_subtract_21 rfl ?_
          refine r_alen' dX5_subtract_22 (by repeat first | exact wu_eq | assumption | (apply wu_ne; first | omega | assumption | (apply Ne.symm; assumption))) (by rfl) ?_
          first | refine r_icmp_geN (tgt := 68) dX5_subtract_23 (by decide) (by omega) (by omega) (fun h23 => ?_) (fun h23 => ?_) | refine r_icmp_ge (tgt := 68) dX5_subtract_23 (by decide) (fun h23 => ?_) (fun h23 => ?_)
          · omega
          · refine r_aload_n dX5_subtract_26 rfl ?_
            refine r_iload dX5_subtract_27 rfl ?_
            refine r_laload' dX5_subtract_29 wu_eq (by rfl) _ rfl (by omega) (by omega) ?_
            rw [ef]
            refine r_aload_n dX5_subtract_30 rfl ?_
            refine r_iload dX5_subtract_31 rfl ?_
            refine r_laload' dX5_subtract_33 (by repeat first | exact wu_eq | assumption | (apply wu_ne; first | omega | assumption | (apply Ne.symm; assumption))) (by rfl) _ rfl (by omega) (by omega) ?_
            refine r_lsub dX5_subtract_34 ?_
            refine r_lload_n dX5_subtract_35 rfl ?_
            refine r_lsub dX5_subtract_36 ?_
            rw [show rJ v i = lN (dg 4294967296 v i) from rfl, lN_sub2 h2 (by omega)]
            refine r_lstore (i := 6) (L0 := [(5, _), (3, _), (0, _), (1, _), (2, _)]) dX5_subtract_37 (by decide) rfl ?_
            refine r_aload_n dX5_subtract_39 rfl ?_
            refine r_iload dX5_subtract_40 rfl ?_
            refine r_lload dX5_subtract_42 rfl ?_
            refine r_ldc2 dX5_subtract_44 qX5_19 ?_
            refine r_land32 dX5_subtract_47 ?_
            refine r_lastore dX5_subtract_48 (by repeat first | exact wu_eq | assumption | (apply wu_ne; first | omega | assumption | (apply Ne.symm; assumption))) _ rfl (by omega) (by omega) ?_
            refine r_lload dX5_subtract_49 rfl ?_
            refine r_lconst (v := lN 0) dX5_subtract_51 (by decide) ?_
            refine r_lcmp_ge (tgt := 60) dX5_subtract_52 dX5_subtract_53 (by decide) (fun h52 => ?_) (fun h52 => ?_)
            · refine r_lconst (v := lN 0) dX5_subtract_60 (by decide) ?_
              refine r_lstore_n (i := 3) (L0 := [(6, _), (5, _), (0, _), (1, _), (2, _)]) dX5_subtract_61 rfl (by decide) rfl ?_
              refine r_iinc (L0 := [(3, _), (6, _), (0, _), (1, _), (2, _)]) dX5_subtract_62 rfl (by first | exact iinc1 _ | rfl) (by decide) rfl ?_
              refine r_goto (tgt := 5) dX5_subtract_65 (by decide) ?_
              rw [wu_wu, fl_up' (f := rJ V) (show lN _ = rJ V i by rw [e1]; rfl)]
              refine r_sub [0, 1, 3, 4, 5] rfl ?_
              have h := ih (i + 1) (by omega)
              rw [e2, if_neg fun h => h52 (lN_neg (by omega) (by omega))] at h
              exact h
            · refine r_lconst (v := lN 1) dX5_subtract_56 (by decide) ?_
              refine r_goto (tgt := 61) dX5_subtract_57 (by decide) ?_
              refine r_lstore_n (i := 3) (L0 := [(6, _), (5, _), (0, _), (1, _), (2, _)]) dX5_subtract_61 rfl (by decide) rfl ?_
              refine r_iinc (L0 := [(3, _), (6, _), (0, _), (1, _), (2, _)]) dX5_subtract_62 rfl (by first | exact iinc1 _ | rfl) (by decide) rfl ?_
              refine r_goto (tgt := 5) dX5_subtract_65 (by decide) ?_
              rw [wu_wu, fl_up' (f := rJ V) (show lN _ = rJ V i by rw [e1]; rfl)]
              refine r_sub [0, 1, 3, 4, 5] rfl ?_
              have h := ih (i + 1) (by omega)
              rw [e2, if_pos (Nat.lt_of_not_le fun h => lN_nneg (by omega) (by omega) h52)] at h
              exact h
  refine ab_Ct.of (by decide +kernel) (Nat.le_of_ble_eq_true rfl) (by rintro _ _ _ ⟨rfl, rfl, rfl⟩; show _ ∨ _; split <;> simp) ?_
  show ab_St MX5_subtract g 0 0 0 [(0, .ref a), (1, .ref a), (2, .ref b)] [] _ _ _
  refine r_lconst (v := lN 0) dX5_subtract_0 (by decide) ?_
  refine r_lstore_n (i := 3) (L0 := [(0, _), (1, _), (2, _)]) dX5_subtract_1 rfl (by decide) rfl ?_
  refine r_iconst (v := nI 0) dX5_subtract_2 (by decide) ?_
  refine r_istore (i := 5) (L0 := [(3, _), (0, _), (1, _), (2, _)]) dX5_subtract_3 (by decide) rfl ?_
  have h := K n 0 (by omega)
  rw [fl_0, wu_self ha, bo_0] at h
  exact h
set_option maxRecDepth 100000 in
set_option maxHeartbeats 4000000 in
theorem c_lessen {g : ab_G} {N a n u y : Nat} {w : ab_W} (ha : w a = aN n u) (hn : n ≤ 1000) (hu : u < 4294967296 ^ n) (hy : y < 4294967296) (hyu : y ≤ u) : ab_Ct MX5_lessen g [.ref a, .long (lN y)] N w (rt none N (wu w a (aN n (u - y)))) := by
  have hV : u - y < 4294967296 ^ n := Nat.lt_of_le_of_lt (Nat.sub_le _ _) hu
  have K : ∀ k i c, i + k = n → c < 4294967296 → (u - y) % 4294967296 ^ i + y = u % 4294967296 ^ i + c * 4294967296 ^ i → ab_St MX5_lessen g 0 0 5 [(5, .int (nI i)), (3, .long (lN c)), (0, .ref a), (1, .long (lN y))] [] N (wu w a (aJ n (fl i (rJ (u - y)) (rJ u)))) (rt none N (wu w a (aN n (u - y)))) := by
    intro k
    induction k with
    | zero =>
      intro i c hi hc hinv
      refine r_iload dX5_lessen_5 rfl ?_
      refine r_aload_n dX5_lessen_7 rfl ?_
      refine r_alen' dX5_lessen_8 (by repeat first | exact wu_eq | assumption | (apply wu_ne; first | omega | assumption | (apply Ne.symm; assumption))) (by rfl) ?_
      first | refine r_icmp_geN (tgt := 55) dX5_lessen_9 (by decide) (by omega) (by omega) (fun h9 => ?_) (fun h9 => ?_) | refine r_icmp_ge (tgt := 55) dX5_lessen_9 (by decide) (fun h9 => ?_) (fun h9 => ?_)
      · obtain rfl : i = n := by omega
        rw [fl_end fun k hk => by unfold rJ; rw [dg_big hu hk (by decide), dg_big hV hk (by decide)]]
        refine r_ret (r := none) dX5_lessen_55 (by decide) (by decide) ?_
        exact ⟨rfl, rfl, rfl⟩
      · omega
    | succ k ih =>
      intro i c hi hc hinv
      have hp : 0 < 4294967296 ^ i := Nat.pow_pos (by decide)
      have h1 := dg_lt u i
      have s1 := dg_succ 4294967296 u i
      have s2 := dg_succ 4294967296 (u - y) i
      have ef : fl i (rJ (u - y)) (rJ u) i = lN (dg 4294967296 u i) := fl_hi (Nat.le_refl i)
      -- the digits from i on: u's less c
      have hq : u / 4294967296 ^ i = (u - y) / 4294967296 ^ i + c := by
        have d1 := Nat.div_add_mod u (4294967296 ^ i)
        have d2 := Nat.div_add_mod (u - y) (4294967296 ^ i)
        have m1 : u % 4294967296 ^ i < 4294967296 ^ i := Nat.mod_lt _ hp
        have m2 : (u - y) % 4294967296 ^ i < 4294967296 ^ i := Nat.mod_lt _ hp
        rw [Nat.mul_comm c] at hinv
        generalize (u - y) / 4294967296 ^ i = q2 at d2 ⊢
        generalize u / 4294967296 ^ i = q1 at d1 ⊢
        have e : 4294967296 ^ i * q1 = 4294967296 ^ i * (q2 + c) := by
          rw [Nat.mul_add]
          omega
        exact Nat.eq_of_mul_eq_mul_left hp e
      have hd : dg 4294967296 (u - y) i = (dg 4294967296 u i + 18446744073709551616 - c) % 4294967296 := by
        unfold dg
        rw [hq]
        generalize (u - y) / 4294967296 ^ i = q2
        omega
      have hdc : dg 4294967296 (u - y) i + c = dg 4294967296 u i + (if dg 4294967296 u i < c then 1 else 0) * 4294967296 := by
        have h2 := dg_lt (u - y) i
        split <;> omega
      have hstep : (u - y) % 4294967296 ^ (i + 1) + y = u % 4294967296 ^ (i + 1) + (if dg 4294967296 u i < c then 1 else 0) * 4294967296 ^ (i + 1) := by
        rw [s1, s2, Nat.pow_succ]
        have e := congrArg (fun z => 4294967296 ^ i * z) hdc
        simp only [Nat.mul_add] at e
        rw [Nat.mul_comm c] at hinv
        have e3 : (if dg 4294967296 u i < c then 1 else 0) * (4294967296 ^ i * 4294967296) = 4294967296 ^ i * ((if dg 4294967296 u i < c then 1 else 0) * 4294967296) := by
          rw [Nat.mul_left_comm]
        rw [e3]
        omega
      refine r_iload dX5_lessen_5 rfl ?_
      refine r_aload_n dX5_lessen_7 rfl ?_
      refine r_alen' dX5_lessen_8 (by repeat first | exact wu_eq | assumption | (apply wu_ne; first | omega | assumption | (apply Ne.symm; assumption))) (by rfl) ?_
      first | refine r_icmp_geN (tgt := 55) dX5_lessen_9 (by decide) (by omega) (by omega) (fun h9 => ?_) (fun h9 => ?_) | refine r_icmp_ge (tgt := 55) dX5_lessen_9 (by decide) (fun h9 => ?_) (fun h9 => ?_)
      · omega
      · refine r_lload_n dX5_lessen_12 rfl ?_
        refine r_lconst (v := lN 0) dX5_lessen_13 (by decide) ?_
        first | refine r_lcmp_eqN (tgt := 55) dX5_lessen_14 dX5_lessen_15 (by decide) (by omega) (by omega) (fun h14 => ?_) (fun h14 => ?_) | refine r_lcmp_eq (tgt := 55) dX5_lessen_14 dX5_lessen_15 (by decide) (fun h14 => ?_) (fun h14 => ?_)
        · refine r_ret (r := none) dX5_lessen_55 (by decide) (by decide) ?_
          refine ⟨rfl, rfl, ?_⟩
          rw [h14] at hq hinv
          congr 2
          funext j
          unfold fl
          split
          · rfl
          · unfold rJ
            obtain ⟨m, rfl⟩ : ∃ m, j = i + m := ⟨j - i, by omega⟩
            rw [← dg_div, ← dg_div, hq, Nat.add_zero]
        · refine r_aload_n dX5_lessen_18 rfl ?_
          refine r_iload dX5_lessen_19 rfl ?_
          refine r_laload' dX5_lessen_21 wu_eq (by rfl) _ rfl (by omega) (by omega) ?_
          rw [ef]
          refine r_lload_n dX5_lessen_22 rfl ?_
          refine r_lsub dX5_lessen_23 ?_
          rw [lN_subw hc]
          refine r_lstore (i := 6) (L0 := [(5, _), (3, _), (0, _), (1, _)]) dX5_lessen_24 (by decide) rfl ?_
          refine r_aload_n dX5_lessen_26 rfl ?_
          refine r_iload dX5_lessen_27 rfl ?_
          refine r_lload dX5_lessen_29 rfl ?_
          refine r_ldc2 dX5_lessen_31 qX5_19 ?_
          refine r_land32 dX5_lessen_34 ?_
          refine r_lastore dX5_lessen_35 (by repeat first | exact wu_eq | assumption | (apply wu_ne; first | omega | assumption | (apply Ne.symm; assumption))) _ rfl (by omega) (by omega) ?_
          refine r_lload dX5_lessen_36 rfl ?_
          refine r_lconst (v := lN 0) dX5_lessen_38 (by decide) ?_
          refine r_lcmp_ge (tgt := 47) dX5_lessen_39 dX5_lessen_40 (by decide) (fun h39 => ?_) (fun h39 => ?_)
          · refine r_lconst (v := lN 0) dX5_lessen_47 (by decide) ?_
            refine r_lstore_n (i := 3) (L0 := [(6, _), (5, _), (0, _), (1, _)]) dX5_lessen_48 rfl (by decide) rfl ?_
            refine r_iinc (L0 := [(3, _), (6, _), (0, _), (1, _)]) dX5_lessen_49 rfl (by first | exact iinc1 _ | rfl) (by decide) rfl ?_
            refine r_goto (tgt := 5) dX5_lessen_52 (by decide) ?_
            have h := ih (i + 1) _ (by omega) (by split <;> omega) hstep
            rw [if_neg fun h => h39 (lN_neg (by omega) (by omega))] at h
            rw [wu_wu, fl_up' (f := rJ (u - y)) (show lN _ = rJ (u - y) i by rw [← hd]; rfl)]
            refine r_sub [0, 1, 3, 4] rfl ?_
            exact h
          · refine r_lconst (v := lN 1) dX5_lessen_43 (by decide) ?_
            refine r_goto (tgt := 48) dX5_lessen_44 (by decide) ?_
            refine r_lstore_n (i := 3) (L0 := [(6, _), (5, _), (0, _), (1, _)]) dX5_lessen_48 rfl (by decide) rfl ?_
            refine r_iinc (L0 := [(3, _), (6, _), (0, _), (1, _)]) dX5_lessen_49 rfl (by first | exact iinc1 _ | rfl) (by decide) rfl ?_
            refine r_goto (tgt := 5) dX5_lessen_52 (by decide) ?_
            have h := ih (i + 1) _ (by omega) (by split <;> omega) hstep
            rw [if_pos (Nat.lt_of_not_le fun h => lN_nneg (by omega) (by omega) h39)] at h
            rw [wu_wu, fl_up' (f := rJ (u - y)) (show lN _ = rJ (u - y) i by rw [← hd]; rfl)]
            refine r_sub [0, 1, 3, 4] rfl ?_
            exact h
  refine ab_Ct.of (by decide +kernel) (Nat.le_of_ble_eq_true rfl) (by rintro _ _ _ ⟨rfl, rfl, rfl⟩; trivial) ?_
  show ab_St MX5_lessen g 0 0 0 [(0, .ref a), (1, .long (lN y))] [] _ _ _
  refine r_lload_n dX5_lessen_0 rfl ?_
  refine r_lstore_n (i := 3) (L0 := [(0, _), (1, _)]) dX5_lessen_1 rfl (by decide) rfl ?_
  refine r_iconst (v := nI 0) dX5_lessen_2 (by decide) ?_
  refine r_istore (i := 5) (L0 := [(3, _), (0, _), (1, _)]) dX5_lessen_3 (by decide) rfl ?_
  have h := K n 0 y (by omega) hy (by simp [Nat.mod_one])
  rw [fl_0, wu_self ha] at h
  exact h
set_option maxRecDepth 100000 in
set_option maxHeartbeats 4000000 in
theorem c_halve {g : ab_G} {N a n u : Nat} {w : ab_W} (ha : w a = aN n u) (hn : n ≤ 1000) (hu : u < 4294967296 ^ n) : ab_Ct MX5_halve g [.ref a] N w (rt none N (wu w a (aN n (u / 2)))) := by
  have hV : u / 2 < 4294967296 ^ n := Nat.lt_of_le_of_lt (Nat.div_le_self _ _) hu
  have K : ∀ k, k ≤ n → ab_St MX5_halve g 0 0 7 [(3, .int (nI k - 1)), (1, .long (lN (dg 4294967296 u k % 2))), (0, .ref a)] [] N (wu w a (aJ n (fl k (rJ u) (rJ (u / 2))))) (rt none N (wu w a (aN n (u / 2)))) := by
    intro k
    induction k with
    | zero =>
      intro _
      refine r_iload_n dX5_halve_7 rfl ?_
      refine r_if_lt (tgt := 39) dX5_halve_8 (by decide) (fun _ => ?_) (fun h => absurd nI0lt h)
      refine r_ret (r := none) dX5_halve_39 (by decide) (by decide) ?_
      refine ⟨rfl, rfl, ?_⟩
      rw [fl_0]
    | succ k ih =>
      intro hk
      rw [i32_pm]
      have h1 := dg_lt u k
      have h2 : dg 4294967296 u (k + 1) % 2 < 2 := Nat.mod_lt _ (by decide)
      have ef : fl (k + 1) (rJ u) (rJ (u / 2)) k = lN (dg 4294967296 u k) := fl_lo (Nat.lt_succ_self k)
      have eh := half_dg u k
      refine r_iload_n dX5_halve_7 rfl ?_
      first | refine r_if_ltN (tgt := 39) dX5_halve_8 (by decide) (by omega) (fun h8 => ?_) | refine r_if_lt (tgt := 39) dX5_halve_8 (by decide) (fun h8 => ?_) (fun h8 => ?_)
      refine r_aload_n dX5_halve_11 rfl ?_
      refine r_iload_n dX5_halve_12 rfl ?_
      refine r_laload' dX5_halve_13 wu_eq (by rfl) _ rfl (by omega) (by omega) ?_
      rw [ef]
      refine r_lstore (i := 4) (L0 := [(3, _), (1, _), (0, _)]) dX5_halve_14 (by decide) rfl ?_
      refine r_aload_n dX5_halve_16 rfl ?_
      refine r_iload_n dX5_halve_17 rfl ?_
      refine r_lload dX5_halve_18 rfl ?_
      refine r_iconst (v := nI 1) dX5_halve_20 (by decide) ?_
      first | refine r_lushrN 1 (by decide) dX5_halve_21 (by omega) ?_ | refine r_lushr dX5_halve_21 ?_
      refine r_lload_n dX5_halve_22 rfl ?_
      refine r_bipush (v := nI 31) dX5_halve_23 (by decide) ?_
      first | refine r_lshlN 31 (by decide) dX5_halve_25 ?_ | refine r_lshl dX5_halve_25 ?_
      refine r_lor dX5_halve_26 ?_
      rw [lN_or_sum' (a := dg 4294967296 u k / 2 ^ 1) (by omega) (by omega)]
      refine r_lastore dX5_halve_27 (by repeat first | exact wu_eq | assumption | (apply wu_ne; first | omega | assumption | (apply Ne.symm; assumption))) _ rfl (by omega) (by omega) ?_
      refine r_lload dX5_halve_28 rfl ?_
      refine r_lconst (v := lN 1) dX5_halve_30 (by decide) ?_
      refine r_land dX5_halve_31 (r_toJ (wb_a1 (by omega)) ?_)
      refine r_lstore_n (i := 1) (L0 := [(4, _), (3, _), (0, _)]) dX5_halve_32 rfl (by decide) rfl ?_
      refine r_iinc (L0 := [(1, _), (4, _), (0, _)]) dX5_halve_33 rfl (by first | exact iincm1' _ | rfl) (by decide) rfl ?_
      refine r_goto (tgt := 7) dX5_halve_36 (by decide) ?_
      rw [wu_wu, fl_dn' (g := rJ (u / 2)) (show lN _ = rJ (u / 2) k by unfold rJ; rw [← eh]; congr 1; omega)]
      refine r_sub [0, 1, 3] rfl ?_
      exact ih (by omega)
  refine ab_Ct.of (by decide +kernel) (Nat.le_of_ble_eq_true rfl) (by rintro _ _ _ ⟨rfl, rfl, rfl⟩; trivial) ?_
  show ab_St MX5_halve g 0 0 0 [(0, .ref a)] [] _ _ _
  refine r_lconst (v := lN 0) dX5_halve_0 (by decide) ?_
  refine r_lstore_n (i := 1) (L0 := [(0, _)]) dX5_halve_1 rfl (by decide) rfl ?_
  refine r_aload_n dX5_halve_2 rfl ?_
  refine r_alen' dX5_halve_3 (by repeat first | exact wu_eq | assumption | (apply wu_ne; first | omega | assumption | (apply Ne.symm; assumption))) (by rfl) ?_
  refine r_iconst (v := nI 1) dX5_halve_4 (by decide) ?_
  rw [show (nI 1 : Int32) = 1 by decide]
  refine r_isub dX5_halve_5 ?_
  refine r_istore_n (i := 3) (L0 := [(1, _), (0, _)]) dX5_halve_6 rfl (by decide) rfl ?_
  have h := K n (Nat.le_refl n)
  rw [fl_end (f := rJ u) fun k hk => by unfold rJ; rw [dg_big hu hk (by decide), dg_big hV hk (by decide)], wu_self ha, dg_big hu (Nat.le_refl n) (by decide)] at h
  exact h
set_option maxRecDepth 100000 in
set_option maxHeartbeats 4000000 in
theorem c_halveUntilOdd {g : ab_G} {N a n u : Nat} {w : ab_W} (ha : w a = aN n u) (h0 : 0 < n) (hn : n ≤ 1000) (hu : u < 4294967296 ^ n) (hpos : 0 < u) : ab_Ct MX5_halveUntilOdd g [.ref a] N w (fun r N' w' => ∃ k m, u = m * 2 ^ k ∧ m % 2 = 1 ∧ k < 32000 ∧ r = some (.int (nI k)) ∧ N = N' ∧ w' = wu w a (aN n m)) := by
  have hu2 : u < 2 ^ (32 * n) := by rw [Nat.pow_mul]; exact hu
  have K : ∀ j k m, k + j = 32 * n → u = m * 2 ^ k → 0 < m → ab_St MX5_halveUntilOdd g 0 0 8 [(2, .int (nI k)), (1, .int (nI (32 * n))), (0, .ref a)] [] N (wu w a (aN n m)) (fun r N' w' => ∃ k m, u = m * 2 ^ k ∧ m % 2 = 1 ∧ k < 32000 ∧ r = some (.int (nI k)) ∧ N = N' ∧ w' = wu w a (aN n m)) := by
    intro j
    induction j with
    | zero =>
      intro k m hk hm hm0
      exfalso
      obtain rfl : k = 32 * n := by omega
      have := Nat.mul_le_mul_right (2 ^ (32 * n)) hm0
      omega
    | succ j ih =>
      intro k m hk hm hm0
      have hkp : 0 < 2 ^ k := Nat.two_pow_pos k
      have hmu : m ≤ u := by
        have := Nat.mul_le_mul_left m hkp
        omega
      have hb : dg 2 m 0 = m % 2 := dg_0 2 m
      refine r_iload_n dX5_halveUntilOdd_8 rfl ?_
      refine r_iload_n dX5_halveUntilOdd_9 rfl ?_
      first | refine r_icmp_geN (tgt := 31) dX5_halveUntilOdd_10 (by decide) (by omega) (by omega) (fun h10 => ?_) (fun h10 => ?_) | refine r_icmp_ge (tgt := 31) dX5_halveUntilOdd_10 (by decide) (fun h10 => ?_) (fun h10 => ?_)
      · omega
      · refine r_aload_n dX5_halveUntilOdd_13 rfl ?_
        refine r_iconst (v := nI 0) dX5_halveUntilOdd_14 (by decide) ?_
        refine r_invS dX5_halveUntilOdd_15 kX5_31 (c_bitAt (n := n) (v := m) (q := 0) wu_eq (Or.inl rfl) hn (by omega) (by decide)) rfl rfl ⟨by decide, by decide⟩ (Nat.le_of_ble_eq_true rfl) ⟨by decide, by decide⟩ ⟨rfl, rfl⟩ ?_
        rintro _ _ _ ⟨rfl, rfl, rfl⟩
        first | refine r_if_neN (tgt := 31) dX5_halveUntilOdd_18 (by decide) (by omega) (fun h18 => ?_) (fun h18 => ?_) | refine r_if_ne (tgt := 31) dX5_halveUntilOdd_18 (by decide) (fun h18 => ?_) (fun h18 => ?_)
        · refine r_iload_n dX5_halveUntilOdd_31 rfl ?_
          refine r_ret (r := (some (.int _))) dX5_halveUntilOdd_32 (by decide) (by decide) ?_
          exact ⟨k, m, hm, by omega, by omega, rfl, rfl, rfl⟩
        · refine r_aload_n dX5_halveUntilOdd_21 rfl ?_
          refine r_invS dX5_halveUntilOdd_22 kX5_35 (c_halve (n := n) (u := m) wu_eq hn (by omega)) rfl rfl ⟨by decide, by decide⟩ (Nat.le_of_ble_eq_true rfl) ⟨by decide, by decide⟩ ⟨rfl, rfl⟩ ?_
          rintro _ _ _ ⟨rfl, rfl, rfl⟩
          refine r_iinc (L0 := [(1, _), (0, _)]) dX5_halveUntilOdd_25 rfl (by first | exact iinc1 _ | rfl) (by decide) rfl ?_
          refine r_goto (tgt := 8) dX5_halveUntilOdd_28 (by decide) ?_
          rw [wu_wu]
          refine ih (k + 1) (m / 2) (by omega) ?_ (by omega)
          rw [Nat.pow_succ, Nat.mul_comm (2 ^ k) 2, ← Nat.mul_assoc, show m / 2 * 2 = m by omega]
          exact hm
  refine ab_Ct.of (by decide +kernel) (Nat.le_of_ble_eq_true rfl) (by rintro _ _ _ ⟨k, m, -, -, -, rfl, -, -⟩; trivial) ?_
  show ab_St MX5_halveUntilOdd g 0 0 0 [(0, .ref a)] [] _ _ _
  refine r_bipush (v := nI 32) dX5_halveUntilOdd_0 (by decide) ?_
  refine r_aload_n dX5_halveUntilOdd_2 rfl ?_
  refine r_alen' dX5_halveUntilOdd_3 (by repeat first | exact wu_eq | assumption | (apply wu_ne; first | omega | assumption | (apply Ne.symm; assumption))) (by rfl) ?_
  first | refine r_imulN dX5_halveUntilOdd_4 ?_ | refine r_imul dX5_halveUntilOdd_4 ?_
  refine r_istore_n (i := 1) (L0 := [(0, _)]) dX5_halveUntilOdd_5 rfl (by decide) rfl ?_
  refine r_iconst (v := nI 0) dX5_halveUntilOdd_6 (by decide) ?_
  refine r_istore_n (i := 2) (L0 := [(1, _), (0, _)]) dX5_halveUntilOdd_7 rfl (by decide) rfl ?_
  have h := K (32 * n) 0 u (by omega) (by simp) hpos
  rw [wu_self ha] at h
  exact h
set_option maxRecDepth 100000 in
set_option maxHeartbeats 4000000 in
theorem c_remainder {g : ab_G} {N a n u d : Nat} {w : ab_W} (ha : w a = aN n u) (hn : n ≤ 1000) (hu : u < 4294967296 ^ n) (hd : 0 < d) (hd2 : d < 2147483648) : ab_Ct MX5_remainder g [.ref a, .int (nI d)] N w (rp (some (.long (lN (u % d)))) N w) := by
  have hne : ¬ lN d = 0 := fun h => by
    have := (pk_lEQ (a := d) (b := 0) (by omega) (by decide)).mp h
    omega
  have K : ∀ k, k ≤ n → ab_St MX5_remainder g 0 0 14 [(4, .int (nI k - 1)), (2, .long (lN (u / 4294967296 ^ k % d))), (0, .ref a), (1, .int (nI d))] [] N w (rp (some (.long (lN (u % d)))) N w) := by
    intro k
    induction k with
    | zero =>
      intro _
      rw [Nat.pow_zero, Nat.div_one]
      refine r_iload dX5_remainder_14 rfl ?_
      refine r_if_lt (tgt := 38) dX5_remainder_16 (by decide) (fun _ => ?_) (fun h => absurd nI0lt h)
      refine r_lload_n dX5_remainder_38 rfl ?_
      refine r_ret (r := (some (.long _))) dX5_remainder_39 (by decide) (by decide) ?_
      exact ⟨rfl, rfl, rfl⟩
    | succ k ih =>
      intro hk
      rw [i32_pm]
      have h1 := dg_lt u k
      have h2 : u / 4294967296 ^ (k + 1) % d < d := Nat.mod_lt _ hd
      have e := rem_step u d k
      refine r_iload dX5_remainder_14 rfl ?_
      first | refine r_if_ltN (tgt := 38) dX5_remainder_16 (by decide) (by omega) (fun h16 => ?_) | refine r_if_lt (tgt := 38) dX5_remainder_16 (by decide) (fun h16 => ?_) (fun h16 => ?_)
      refine r_lload_n dX5_remainder_19 rfl ?_
      refine r_bipush (v := nI 32) dX5_remainder_20 (by decide) ?_
      first | refine r_lshlN 32 (by decide) dX5_remainder_22 ?_ | refine r_lshl dX5_remainder_22 ?_
      refine r_aload_n dX5_remainder_23 rfl ?_
      refine r_iload dX5_remainder_24 rfl ?_
      refine r_laload' dX5_remainder_26 (by repeat first | exact wu_eq | assumption | (apply wu_ne; first | omega | assumption | (apply Ne.symm; assumption))) (by rfl) _ rfl (by omega) (by omega) ?_
      refine r_lor dX5_remainder_27 ?_
      rw [show rJ u k = lN (dg 4294967296 u k) from rfl, lN_or_sum (q := 32) (by omega) (by omega)]
      refine r_iload_n dX5_remainder_28 rfl ?_
      first | refine r_i2lN dX5_remainder_29 (by omega) ?_ | refine r_i2l dX5_remainder_29 ?_
      refine r_lrem dX5_remainder_30 hne ?_
      rw [lN_rem (by omega) hd (by omega), show (2 : Nat) ^ 32 = 4294967296 by decide, e]
      refine r_lstore_n (i := 2) (L0 := [(4, _), (0, _), (1, _)]) dX5_remainder_31 rfl (by decide) rfl ?_
      refine r_iinc (L0 := [(2, _), (0, _), (1, _)]) dX5_remainder_32 rfl (by first | exact iincm1' _ | rfl) (by decide) rfl ?_
      refine r_goto (tgt := 14) dX5_remainder_35 (by decide) ?_
      refine r_sub [0, 1, 2, 3] rfl ?_
      exact ih (by omega)
  refine ab_Ct.of (by decide +kernel) (Nat.le_of_ble_eq_true rfl) (by rintro _ _ _ ⟨rfl, rfl, rfl⟩; trivial) ?_
  show ab_St MX5_remainder g 0 0 0 [(0, .ref a), (1, .int (nI d))] [] _ _ _
  refine r_iload_n dX5_remainder_0 rfl ?_
  first | refine r_if_gtN (tgt := 6) dX5_remainder_1 (by decide) (by omega) (fun h1 => ?_) (fun h1 => ?_) | refine r_if_gt (tgt := 6) dX5_remainder_1 (by decide) (fun h1 => ?_) (fun h1 => ?_)
  · refine r_lconst (v := lN 0) dX5_remainder_6 (by decide) ?_
    refine r_lstore_n (i := 2) (L0 := [(0, _), (1, _)]) dX5_remainder_7 rfl (by decide) rfl ?_
    refine r_aload_n dX5_remainder_8 rfl ?_
    refine r_alen' dX5_remainder_9 (by repeat first | exact wu_eq | assumption | (apply wu_ne; first | omega | assumption | (apply Ne.symm; assumption))) (by rfl) ?_
    refine r_iconst (v := nI 1) dX5_remainder_10 (by decide) ?_
    rw [show (nI 1 : Int32) = 1 by decide]
    refine r_isub dX5_remainder_11 ?_
    refine r_istore (i := 4) (L0 := [(2, _), (0, _), (1, _)]) dX5_remainder_12 (by decide) rfl ?_
    have h := K n (Nat.le_refl n)
    rw [Nat.div_eq_of_lt hu, Nat.zero_mod] at h
    exact h
  · omega
