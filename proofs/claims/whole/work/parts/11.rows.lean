/-! SignHouse$Rows: what each method does to the numbers in its rows -/
set_option maxRecDepth 100000 in
set_option maxHeartbeats 4000000 in
theorem c_byteAt {g : ab_G} {N a n v q : Nat} {w : ab_W} (hw : w a = aN n v) (hn : n ≤ 1000) (hv : v < 4294967296 ^ n) (hq : q < 100000) : ab_Ct MX5_byteAt g [.ref a, .int (nI q)] N w (rp (some (.int (nI (dg 256 v q)))) N w) := by
  have hx : dg 4294967296 v (q / 2 ^ 2) / 2 ^ (8 * (q % 2 ^ 2)) < 4294967296 := Nat.lt_of_le_of_lt (Nat.div_le_self _ _) (dg_lt v _)
  have hd := dg_lt v (q / 2 ^ 2)
  refine ab_Ct.of (by decide +kernel) (Nat.le_of_ble_eq_true rfl) (by rintro _ _ _ ⟨rfl, rfl, rfl⟩; trivial) ?_
  show ab_St MX5_byteAt g 0 0 0 [(0, .ref a), (1, .int (nI q))] [] _ _ _
  refine r_iload_n dX5_byteAt_0 rfl ?_
  refine r_iconst (v := nI 2) dX5_byteAt_1 (by decide) ?_
  first | refine r_ishrN 2 (by decide) dX5_byteAt_2 (by omega) ?_ | refine r_ishr dX5_byteAt_2 ?_
  refine r_istore_n (i := 2) (L0 := [(0, _), (1, _)]) dX5_byteAt_3 rfl (by decide) rfl ?_
  refine r_iload_n dX5_byteAt_4 rfl ?_
  first | refine r_if_ltN (tgt := 14) dX5_byteAt_5 (by decide) (by omega) (fun h5 => ?_) | refine r_if_lt (tgt := 14) dX5_byteAt_5 (by decide) (fun h5 => ?_) (fun h5 => ?_)
  refine r_iload_n dX5_byteAt_8 rfl ?_
  refine r_aload_n dX5_byteAt_9 rfl ?_
  refine r_alen' dX5_byteAt_10 (by repeat first | exact wu_eq | assumption | (apply wu_ne; first | omega | assumption | (apply Ne.symm; assumption))) (by rfl) ?_
  first | refine r_icmp_ltN (tgt := 16) dX5_byteAt_11 (by decide) (by omega) (by omega) (fun h11 => ?_) (fun h11 => ?_) | refine r_icmp_lt (tgt := 16) dX5_byteAt_11 (by decide) (fun h11 => ?_) (fun h11 => ?_)
  · refine r_aload_n dX5_byteAt_16 rfl ?_
    refine r_iload_n dX5_byteAt_17 rfl ?_
    refine r_laload' dX5_byteAt_18 (by repeat first | exact wu_eq | assumption | (apply wu_ne; first | omega | assumption | (apply Ne.symm; assumption))) (by rfl) _ rfl (by omega) (by omega) ?_
    refine r_bipush (v := nI 8) dX5_byteAt_19 (by decide) ?_
    refine r_iload_n dX5_byteAt_21 rfl ?_
    refine r_iconst (v := nI 3) dX5_byteAt_22 (by decide) ?_
    first | refine r_iandN 2 (by decide) dX5_byteAt_23 (by omega) ?_ | refine r_iand dX5_byteAt_23 ?_
    first | refine r_imulN dX5_byteAt_24 ?_ | refine r_imul dX5_byteAt_24 ?_
    refine r_lushrN _ (by omega) dX5_byteAt_25 (by omega) ?_
    first | refine r_l2iN dX5_byteAt_26 ?_ | refine r_l2i dX5_byteAt_26 ?_
    refine r_sipush (v := nI 255) dX5_byteAt_27 (by decide) ?_
    refine r_iandN 8 (by decide) dX5_byteAt_30 hx ?_
    refine r_ret (r := (some (.int _))) dX5_byteAt_31 (by decide) (by decide) ?_
    rw [dg_byte]
    exact ⟨rfl, rfl, rfl⟩
  · refine r_iconst (v := nI 0) dX5_byteAt_14 (by decide) ?_
    refine r_ret (r := (some (.int _))) dX5_byteAt_15 (by decide) (by decide) ?_
    rw [dg_big (k := q) (b := 256) (n := 4 * n) (by rw [Nat.pow_mul]; exact hv) (by omega) (by decide)]
    exact ⟨rfl, rfl, rfl⟩
set_option maxRecDepth 100000 in
set_option maxHeartbeats 4000000 in
theorem c_putByte {g : ab_G} {N a n u q b : Nat} {w : ab_W} (hw : w a = aN n u) (hn : n ≤ 1000) (hq : q < 4 * n) (hb : b < 256) : ab_Ct MX5_putByte g [.ref a, .int (nI q), .int (nI b)] N w (rt none N (wu w a (aN n (ud 256 u q b)))) := by
  have hd := dg_lt u (q / 2 ^ 2)
  have hr : q % 2 ^ 2 < 4 := Nat.mod_lt _ (by decide)
  have e4 : (256 : Nat) ^ 4 = 4294967296 := by decide
  have hlim : ud 256 (dg 4294967296 u (q / 2 ^ 2)) (q % 2 ^ 2) b < 4294967296 := by
    have h := ud_lt (b := 256) (v := dg 4294967296 u (q / 2 ^ 2)) (i := q % 2 ^ 2) (x := b) (n := 4) (by decide) hb (by rw [e4]; exact hd) hr
    rw [e4] at h
    exact h
  refine ab_Ct.of (by decide +kernel) (Nat.le_of_ble_eq_true rfl) (by rintro _ _ _ ⟨rfl, rfl, rfl⟩; trivial) ?_
  show ab_St MX5_putByte g 0 0 0 [(0, .ref a), (1, .int (nI q)), (2, .int (nI b))] [] _ _ _
  refine r_iload_n dX5_putByte_0 rfl ?_
  refine r_iconst (v := nI 2) dX5_putByte_1 (by decide) ?_
  first | refine r_ishrN 2 (by decide) dX5_putByte_2 (by omega) ?_ | refine r_ishr dX5_putByte_2 ?_
  refine r_istore_n (i := 3) (L0 := [(0, _), (1, _), (2, _)]) dX5_putByte_3 rfl (by decide) rfl ?_
  refine r_iload_n dX5_putByte_4 rfl ?_
  first | refine r_if_ltN (tgt := 14) dX5_putByte_5 (by decide) (by omega) (fun h5 => ?_) | refine r_if_lt (tgt := 14) dX5_putByte_5 (by decide) (fun h5 => ?_) (fun h5 => ?_)
  refine r_iload_n dX5_putByte_8 rfl ?_
  refine r_aload_n dX5_putByte_9 rfl ?_
  refine r_alen' dX5_putByte_10 (by repeat first | exact wu_eq | assumption | (apply wu_ne; first | omega | assumption | (apply Ne.symm; assumption))) (by rfl) ?_
  first | refine r_icmp_ltN (tgt := 15) dX5_putByte_11 (by decide) (by omega) (by omega) (fun h11 => ?_) (fun h11 => ?_) | refine r_icmp_lt (tgt := 15) dX5_putByte_11 (by decide) (fun h11 => ?_) (fun h11 => ?_)
  · refine r_bipush (v := nI 8) dX5_putByte_15 (by decide) ?_
    refine r_iload_n dX5_putByte_17 rfl ?_
    refine r_iconst (v := nI 3) dX5_putByte_18 (by decide) ?_
    first | refine r_iandN 2 (by decide) dX5_putByte_19 (by omega) ?_ | refine r_iand dX5_putByte_19 ?_
    first | refine r_imulN dX5_putByte_20 ?_ | refine r_imul dX5_putByte_20 ?_
    refine r_istore (i := 4) (L0 := [(3, _), (0, _), (1, _), (2, _)]) dX5_putByte_21 (by decide) rfl ?_
    refine r_aload_n dX5_putByte_23 rfl ?_
    refine r_iload_n dX5_putByte_24 rfl ?_
    refine r_aload_n dX5_putByte_25 rfl ?_
    refine r_iload_n dX5_putByte_26 rfl ?_
    refine r_laload' dX5_putByte_27 (by repeat first | exact wu_eq | assumption | (apply wu_ne; first | omega | assumption | (apply Ne.symm; assumption))) (by rfl) _ rfl (by omega) (by omega) ?_
    refine r_ldc2 dX5_putByte_28 qX5_7 ?_
    refine r_toJ (y := lN 255) rfl ?_
    refine r_iload dX5_putByte_31 rfl ?_
    refine r_lshl dX5_putByte_33 ?_
    refine r_ldc2 dX5_putByte_34 qX5_9 ?_
    refine r_lxor dX5_putByte_37 ?_
    refine r_land dX5_putByte_38 ?_
    refine r_iload_n dX5_putByte_39 rfl ?_
    first | refine r_i2lN dX5_putByte_40 (by omega) ?_ | refine r_i2l dX5_putByte_40 ?_
    refine r_ldc2 dX5_putByte_41 qX5_7 ?_
    refine r_toJ (y := lN 255) rfl ?_
    refine r_land dX5_putByte_44 ?_
    refine r_iload dX5_putByte_45 rfl ?_
    refine r_lshl dX5_putByte_47 ?_
    refine r_lor dX5_putByte_48 ?_
    refine r_lastore dX5_putByte_49 (by repeat first | exact wu_eq | assumption | (apply wu_ne; first | omega | assumption | (apply Ne.symm; assumption))) _ rfl (by omega) (by omega) ?_
    refine r_ret (r := none) dX5_putByte_50 (by decide) (by decide) ?_
    refine ⟨rfl, rfl, ?_⟩
    rw [show rJ u (q / 2 ^ 2) = lN (dg 4294967296 u (q / 2 ^ 2)) from rfl, lN_put hd hb hr, rJ_ud hlim, ud_word hb]
  · omega
theorem nI_zk {d : Nat} (h : d < 2) : nI d = 0 ∨ nI d = 1 := by
  rcases (show d = 0 ∨ d = 1 by omega) with rfl | rfl
  · exact Or.inl (by decide)
  · exact Or.inr (by decide)
set_option maxRecDepth 100000 in
set_option maxHeartbeats 4000000 in
theorem c_bitAt {g : ab_G} {N a n v q : Nat} {w : ab_W} {c : ab_C} (hw : w a = c) (hc : c = aN n v ∨ c = xJ n (rJ v)) (hn : n ≤ 1000) (hv : v < 4294967296 ^ n) (hq : q < 100000) : ab_Ct MX5_bitAt g [.ref a, .int (nI q)] N w (rp (some (.int (nI (dg 2 v q)))) N w) := by
  have hd := dg_lt v (q / 2 ^ 5)
  have hL : rdL c = some n := by rcases hc with rfl | rfl <;> rfl
  have hJ : rdJ c = some (n, rJ v) := by rcases hc with rfl | rfl <;> rfl
  have hx : dg 4294967296 v (q / 2 ^ 5) / 2 ^ (q % 2 ^ 5) < 4294967296 := Nat.lt_of_le_of_lt (Nat.div_le_self _ _) hd
  have hb : dg 2 v q < 2 := dg_lt' (by decide) v q
  refine ab_Ct.of (by decide +kernel) (Nat.le_of_ble_eq_true rfl) (by rintro _ _ _ ⟨rfl, rfl, rfl⟩; exact nI_zk hb) ?_
  show ab_St MX5_bitAt g 0 0 0 [(0, .ref a), (1, .int (nI q))] [] _ _ _
  refine r_iload_n dX5_bitAt_0 rfl ?_
  refine r_iconst (v := nI 5) dX5_bitAt_1 (by decide) ?_
  first | refine r_ishrN 5 (by decide) dX5_bitAt_2 (by omega) ?_ | refine r_ishr dX5_bitAt_2 ?_
  refine r_istore_n (i := 2) (L0 := [(0, _), (1, _)]) dX5_bitAt_3 rfl (by decide) rfl ?_
  refine r_iload_n dX5_bitAt_4 rfl ?_
  first | refine r_if_ltN (tgt := 33) dX5_bitAt_5 (by decide) (by omega) (fun h5 => ?_) | refine r_if_lt (tgt := 33) dX5_bitAt_5 (by decide) (fun h5 => ?_) (fun h5 => ?_)
  refine r_iload_n dX5_bitAt_8 rfl ?_
  refine r_aload_n dX5_bitAt_9 rfl ?_
  refine r_alen' dX5_bitAt_10 hw hL ?_
  first | refine r_icmp_geN (tgt := 33) dX5_bitAt_11 (by decide) (by omega) (by omega) (fun h11 => ?_) (fun h11 => ?_) | refine r_icmp_ge (tgt := 33) dX5_bitAt_11 (by decide) (fun h11 => ?_) (fun h11 => ?_)
  · refine r_iconst (v := nI 0) dX5_bitAt_33 (by decide) ?_
    refine r_ret (r := (some (.int _))) dX5_bitAt_34 (by decide) (by decide) ?_
    rw [dg_big (k := q) (b := 2) (n := 32 * n) (by rw [Nat.pow_mul]; exact hv) (by omega) (by decide)]
    exact ⟨rfl, rfl, rfl⟩
  · refine r_aload_n dX5_bitAt_14 rfl ?_
    refine r_iload_n dX5_bitAt_15 rfl ?_
    refine r_laload' dX5_bitAt_16 hw hJ _ rfl (by omega) (by omega) ?_
    refine r_iload_n dX5_bitAt_17 rfl ?_
    refine r_bipush (v := nI 31) dX5_bitAt_18 (by decide) ?_
    first | refine r_iandN 5 (by decide) dX5_bitAt_20 (by omega) ?_ | refine r_iand dX5_bitAt_20 ?_
    refine r_lushrN _ (by omega) dX5_bitAt_21 (by omega) ?_
    refine r_lconst (v := lN 1) dX5_bitAt_22 (by decide) ?_
    refine r_land dX5_bitAt_23 (r_toJ (wb_a1 (by omega)) ?_)
    rw [dg_bit]
    refine r_lconst (v := lN 1) dX5_bitAt_24 (by decide) ?_
    first | refine r_lcmp_neN (tgt := 33) dX5_bitAt_25 dX5_bitAt_26 (by decide) (by omega) (by omega) (fun h25 => ?_) (fun h25 => ?_) | refine r_lcmp_ne (tgt := 33) dX5_bitAt_25 dX5_bitAt_26 (by decide) (fun h25 => ?_) (fun h25 => ?_)
    · refine r_iconst (v := nI 0) dX5_bitAt_33 (by decide) ?_
      refine r_ret (r := (some (.int _))) dX5_bitAt_34 (by decide) (by decide) ?_
      rw [show dg 2 v q = 0 by omega]
      exact ⟨rfl, rfl, rfl⟩
    · refine r_iconst (v := nI 1) dX5_bitAt_29 (by decide) ?_
      refine r_goto (tgt := 34) dX5_bitAt_30 (by decide) ?_
      refine r_ret (r := (some (.int _))) dX5_bitAt_34 (by decide) (by decide) ?_
      rw [h25]
      exact ⟨rfl, rfl, rfl⟩
set_option maxRecDepth 100000 in
set_option maxHeartbeats 4000000 in
theorem c_bitCount {g : ab_G} {N a n v : Nat} {w : ab_W} {c : ab_C} (hw : w a = c) (hc : c = aN n v ∨ c = xJ n (rJ v)) (hn : n ≤ 1000) (h0 : 0 < n) (hv : v < 4294967296 ^ n) : ab_Ct MX5_bitCount g [.ref a] N w (rp (some (.int (nI (bl v)))) N w) := by
  have hL : rdL c = some n := by rcases hc with rfl | rfl <;> rfl
  have hJ : rdJ c = some (n, rJ v) := by rcases hc with rfl | rfl <;> rfl
  have K : ∀ k, k ≤ n → v < 4294967296 ^ k → ab_St MX5_bitCount g 0 0 5 [(1, .int (nI k - 1)), (0, .ref a)] [] N w (rp (some (.int (nI (bl v)))) N w) := by
    intro k
    induction k with
    | zero =>
      intro _ hk
      refine r_iload_n dX5_bitCount_5 rfl ?_
      refine r_if_lt (tgt := 38) dX5_bitCount_6 (by decide) (fun _ => ?_) (fun h => absurd nI0lt h)
      refine r_iconst (v := nI 0) dX5_bitCount_38 (by decide) ?_
      refine r_ret (r := (some (.int _))) dX5_bitCount_39 (by decide) (by decide) ?_
      rw [show v = 0 by simpa using hk]
      exact ⟨rfl, rfl, rfl⟩
    | succ k ih =>
      intro hkn hk
      rw [i32_pm]
      have hd := dg_lt v k
      refine r_iload_n dX5_bitCount_5 rfl ?_
      first | refine r_if_ltN (tgt := 38) dX5_bitCount_6 (by decide) (by omega) (fun h6 => ?_) | refine r_if_lt (tgt := 38) dX5_bitCount_6 (by decide) (fun h6 => ?_) (fun h6 => ?_)
      refine r_aload_n dX5_bitCount_9 rfl ?_
      refine r_iload_n dX5_bitCount_10 rfl ?_
      refine r_laload' dX5_bitCount_11 hw hJ _ rfl (by omega) (by omega) ?_
      refine r_lconst (v := lN 0) dX5_bitCount_12 (by decide) ?_
      first | refine r_lcmp_eqN (tgt := 32) dX5_bitCount_13 dX5_bitCount_14 (by decide) (by omega) (by omega) (fun h13 => ?_) (fun h13 => ?_) | refine r_lcmp_eq (tgt := 32) dX5_bitCount_13 dX5_bitCount_14 (by decide) (fun h13 => ?_) (fun h13 => ?_)
      · refine r_iinc (L0 := [(0, _)]) dX5_bitCount_32 rfl (by first | exact iincm1' _ | rfl) (by decide) rfl ?_
        refine r_goto (tgt := 5) dX5_bitCount_35 (by decide) ?_
        refine ih (by omega) ?_
        have e := div_dg 4294967296 v k
        rw [h13, Nat.div_eq_of_lt hk] at e
        exact Nat.lt_of_div_eq_zero (Nat.pow_pos (by decide)) e
      · have hbl := bl_le (v := dg 4294967296 v k) (n := 32) hd
        have hbt := bl_top hk h13
        refine r_bipush (v := nI 32) dX5_bitCount_17 (by decide) ?_
        refine r_iload_n dX5_bitCount_19 rfl ?_
        first | refine r_imulN dX5_bitCount_20 ?_ | refine r_imul dX5_bitCount_20 ?_
        refine r_bipush (v := nI 64) dX5_bitCount_21 (by decide) ?_
        first | refine r_iaddN dX5_bitCount_23 ?_ | refine r_iadd dX5_bitCount_23 ?_
        refine r_aload_n dX5_bitCount_24 rfl ?_
        refine r_iload_n dX5_bitCount_25 rfl ?_
        refine r_laload' dX5_bitCount_26 hw hJ _ rfl (by omega) (by omega) ?_
        refine r_invS dX5_bitCount_27 kX5_13 (c_nlzL (Nat.pos_of_ne_zero h13) hd) rfl rfl ⟨by decide, by decide⟩ (Nat.le_of_ble_eq_true rfl) ⟨by decide, by decide⟩ ⟨rfl, rfl⟩ ?_
        rintro _ _ _ ⟨rfl, rfl, rfl⟩
        first | refine r_isubN dX5_bitCount_30 (by omega) ?_ | refine r_isub dX5_bitCount_30 ?_
        refine r_ret (r := (some (.int _))) dX5_bitCount_31 (by decide) (by decide) ?_
        refine ⟨?_, rfl, rfl⟩
        rw [show 32 * k + 64 - (64 - bl (dg 4294967296 v k)) = bl v by omega]
  refine ab_Ct.of (by decide +kernel) (Nat.le_of_ble_eq_true rfl) (by rintro _ _ _ ⟨rfl, rfl, rfl⟩; trivial) ?_
  show ab_St MX5_bitCount g 0 0 0 [(0, .ref a)] [] _ _ _
  refine r_aload_n dX5_bitCount_0 rfl ?_
  refine r_alen' dX5_bitCount_1 hw hL ?_
  refine r_iconst (v := nI 1) dX5_bitCount_2 (by decide) ?_
  rw [show (nI 1 : Int32) = 1 by decide]
  refine r_isub dX5_bitCount_3 ?_
  refine r_istore_n (i := 1) (L0 := [(0, _)]) dX5_bitCount_4 rfl (by decide) rfl ?_
  exact K n (Nat.le_refl n) hv
set_option maxRecDepth 100000 in
set_option maxHeartbeats 4000000 in
theorem c_copy {g : ab_G} {N a b n m u v : Nat} {w : ab_W} (hab : a ≠ b) (ha : w a = aN n u) (hb : w b = aN m v) (hn : n ≤ 1000) (hm : m ≤ 1000) (hu : u < 4294967296 ^ n) (hv : v < 4294967296 ^ m) : ab_Ct MX5_copy g [.ref a, .ref b] N w (rt none N (wu w a (aN n (v % 4294967296 ^ n)))) := by
  have K : ∀ k i, i + k = n → ab_St MX5_copy g 0 0 2 [(2, .int (nI i)), (0, .ref a), (1, .ref b)] [] N (wu w a (aJ n (fl i (rJ (v % 4294967296 ^ n)) (rJ u)))) (rt none N (wu w a (aN n (v % 4294967296 ^ n)))) := by
    intro k
    induction k with
    | zero =>
      intro i hi
      refine r_iload_n dX5_copy_2 rfl ?_
      refine r_aload_n dX5_copy_3 rfl ?_
      refine r_alen' dX5_copy_4 (by repeat first | exact wu_eq | assumption | (apply wu_ne; first | omega | assumption | (apply Ne.symm; assumption))) (by rfl) ?_
      first | refine r_icmp_geN (tgt := 30) dX5_copy_5 (by decide) (by omega) (by omega) (fun h5 => ?_) (fun h5 => ?_) | refine r_icmp_ge (tgt := 30) dX5_copy_5 (by decide) (fun h5 => ?_) (fun h5 => ?_)
      · refine r_ret (r := none) dX5_copy_30 (by decide) (by decide) ?_
        refine ⟨rfl, rfl, ?_⟩
        rw [show i = n by omega, fl_end fun k hk => by unfold rJ; rw [dg_big hu hk (by decide), dg_big (v := v % 4294967296 ^ n) (Nat.mod_lt _ (Nat.pow_pos (by decide))) hk (by decide)]]
      · omega
    | succ k ih =>
      intro i hi
      refine r_iload_n dX5_copy_2 rfl ?_
      refine r_aload_n dX5_copy_3 rfl ?_
      refine r_alen' dX5_copy_4 (by repeat first | exact wu_eq | assumption | (apply wu_ne; first | omega | assumption | (apply Ne.symm; assumption))) (by rfl) ?_
      first | refine r_icmp_geN (tgt := 30) dX5_copy_5 (by decide) (by omega) (by omega) (fun h5 => ?_) (fun h5 => ?_) | refine r_icmp_ge (tgt := 30) dX5_copy_5 (by decide) (fun h5 => ?_) (fun h5 => ?_)
      · omega
      · refine r_aload_n dX5_copy_8 rfl ?_
        refine r_iload_n dX5_copy_9 rfl ?_
        refine r_iload_n dX5_copy_10 rfl ?_
        refine r_aload_n dX5_copy_11 rfl ?_
        refine r_alen' dX5_copy_12 (by repeat first | exact wu_eq | assumption | (apply wu_ne; first | omega | assumption | (apply Ne.symm; assumption))) (by rfl) ?_
        first | refine r_icmp_geN (tgt := 22) dX5_copy_13 (by decide) (by omega) (by omega) (fun h13 => ?_) (fun h13 => ?_) | refine r_icmp_ge (tgt := 22) dX5_copy_13 (by decide) (fun h13 => ?_) (fun h13 => ?_)
        · refine r_lconst (v := lN 0) dX5_copy_22 (by decide) ?_
          refine r_lastore dX5_copy_23 (by repeat first | exact wu_eq | assumption | (apply wu_ne; first | omega | assumption | (apply Ne.symm; assumption))) _ rfl (by omega) (by omega) ?_
          refine r_iinc (L0 := [(0, _), (1, _)]) dX5_copy_24 rfl (by first | exact iinc1 _ | rfl) (by decide) rfl ?_
          refine r_goto (tgt := 2) dX5_copy_27 (by decide) ?_
          rw [wu_wu, fl_up' (f := rJ (v % 4294967296 ^ n)) (show lN 0 = rJ (v % 4294967296 ^ n) i by unfold rJ; rw [dg_mod (by omega), dg_big hv h13 (by decide)])]
          exact ih (i + 1) (by omega)
        · refine r_aload_n dX5_copy_16 rfl ?_
          refine r_iload_n dX5_copy_17 rfl ?_
          refine r_laload' dX5_copy_18 (by repeat first | exact wu_eq | assumption | (apply wu_ne; first | omega | assumption | (apply Ne.symm; assumption))) (by rfl) _ rfl (by omega) (by omega) ?_
          refine r_goto (tgt := 23) dX5_copy_19 (by decide) ?_
          refine r_lastore dX5_copy_23 (by repeat first | exact wu_eq | assumption | (apply wu_ne; first | omega | assumption | (apply Ne.symm; assumption))) _ rfl (by omega) (by omega) ?_
          refine r_iinc (L0 := [(0, _), (1, _)]) dX5_copy_24 rfl (by first | exact iinc1 _ | rfl) (by decide) rfl ?_
          refine r_goto (tgt := 2) dX5_copy_27 (by decide) ?_
          rw [wu_wu, fl_up' (f := rJ (v % 4294967296 ^ n)) (show rJ v i = rJ (v % 4294967296 ^ n) i by unfold rJ; rw [dg_mod (by omega)])]
          exact ih (i + 1) (by omega)
  refine ab_Ct.of (by decide +kernel) (Nat.le_of_ble_eq_true rfl) (by rintro _ _ _ ⟨rfl, rfl, rfl⟩; trivial) ?_
  show ab_St MX5_copy g 0 0 0 [(0, .ref a), (1, .ref b)] [] _ _ _
  refine r_iconst (v := nI 0) dX5_copy_0 (by decide) ?_
  refine r_istore_n (i := 2) (L0 := [(0, _), (1, _)]) dX5_copy_1 rfl (by decide) rfl ?_
  have h := K n 0 (by omega)
  rw [fl_0, wu_self ha] at h
  exact h
set_option maxRecDepth 100000 in
set_option maxHeartbeats 4000000 in
theorem c_putSmall {g : ab_G} {N a n u v : Nat} {w : ab_W} (ha : w a = aN n u) (h0 : 0 < n) (hn : n ≤ 1000) (hu : u < 4294967296 ^ n) : ab_Ct MX5_putSmall g [.ref a, .long (lN v)] N w (rt none N (wu w a (aN n (v % 4294967296)))) := by
  have hv1 : v % 4294967296 < 4294967296 ^ 1 := Nat.mod_lt _ (by decide)
  have K : ∀ k i, i + k = n → ab_St MX5_putSmall g 0 0 2 [(3, .int (nI i)), (0, .ref a), (1, .long (lN v))] [] N (wu w a (aJ n (fl i (rJ (v % 4294967296)) (rJ u)))) (rt none N (wu w a (aN n (v % 4294967296)))) := by
    intro k
    induction k with
    | zero =>
      intro i hi
      refine r_iload_n dX5_putSmall_2 rfl ?_
      refine r_aload_n dX5_putSmall_3 rfl ?_
      refine r_alen' dX5_putSmall_4 (by repeat first | exact wu_eq | assumption | (apply wu_ne; first | omega | assumption | (apply Ne.symm; assumption))) (by rfl) ?_
      first | refine r_icmp_geN (tgt := 30) dX5_putSmall_5 (by decide) (by omega) (by omega) (fun h5 => ?_) (fun h5 => ?_) | refine r_icmp_ge (tgt := 30) dX5_putSmall_5 (by decide) (fun h5 => ?_) (fun h5 => ?_)
      · refine r_ret (r := none) dX5_putSmall_30 (by decide) (by decide) ?_
        refine ⟨rfl, rfl, ?_⟩
        rw [show i = n by omega, fl_end fun k hk => by unfold rJ; rw [dg_big hu hk (by decide), dg_big (n := 1) (v := v % 4294967296) hv1 (by omega) (by decide)]]
      · omega
    | succ k ih =>
      intro i hi
      refine r_iload_n dX5_putSmall_2 rfl ?_
      refine r_aload_n dX5_putSmall_3 rfl ?_
      refine r_alen' dX5_putSmall_4 (by repeat first | exact wu_eq | assumption | (apply wu_ne; first | omega | assumption | (apply Ne.symm; assumption))) (by rfl) ?_
      first | refine r_icmp_geN (tgt := 30) dX5_putSmall_5 (by decide) (by omega) (by omega) (fun h5 => ?_) (fun h5 => ?_) | refine r_icmp_ge (tgt := 30) dX5_putSmall_5 (by decide) (fun h5 => ?_) (fun h5 => ?_)
      · omega
      · refine r_aload_n dX5_putSmall_8 rfl ?_
        refine r_iload_n dX5_putSmall_9 rfl ?_
        refine r_iload_n dX5_putSmall_10 rfl ?_
        first | refine r_if_neN (tgt := 22) dX5_putSmall_11 (by decide) (by omega) (fun h11 => ?_) (fun h11 => ?_) | refine r_if_ne (tgt := 22) dX5_putSmall_11 (by decide) (fun h11 => ?_) (fun h11 => ?_)
        · refine r_lconst (v := lN 0) dX5_putSmall_22 (by decide) ?_
          refine r_lastore dX5_putSmall_23 (by repeat first | exact wu_eq | assumption | (apply wu_ne; first | omega | assumption | (apply Ne.symm; assumption))) _ rfl (by omega) (by omega) ?_
          refine r_iinc (L0 := [(0, _), (1, _)]) dX5_putSmall_24 rfl (by first | exact iinc1 _ | rfl) (by decide) rfl ?_
          refine r_goto (tgt := 2) dX5_putSmall_27 (by decide) ?_
          rw [wu_wu, fl_up' (f := rJ (v % 4294967296)) (show lN 0 = rJ (v % 4294967296) i by unfold rJ; rw [dg_big hv1 (by omega) (by decide)])]
          exact ih (i + 1) (by omega)
        · refine r_lload_n dX5_putSmall_14 rfl ?_
          refine r_ldc2 dX5_putSmall_15 qX5_19 ?_
          refine r_land32 dX5_putSmall_18 ?_
          refine r_goto (tgt := 23) dX5_putSmall_19 (by decide) ?_
          refine r_lastore dX5_putSmall_23 (by repeat first | exact wu_eq | assumption | (apply wu_ne; first | omega | assumption | (apply Ne.symm; assumption))) _ rfl (by omega) (by omega) ?_
          refine r_iinc (L0 := [(0, _), (1, _)]) dX5_putSmall_24 rfl (by first | exact iinc1 _ | rfl) (by decide) rfl ?_
          refine r_goto (tgt := 2) dX5_putSmall_27 (by decide) ?_
          subst h11
          rw [wu_wu, fl_up' (f := rJ (v % 4294967296)) (show lN (v % 4294967296) = rJ (v % 4294967296) 0 by unfold rJ; rw [dg_0, Nat.mod_mod])]
          exact ih 1 (by omega)
  refine ab_Ct.of (by decide +kernel) (Nat.le_of_ble_eq_true rfl) (by rintro _ _ _ ⟨rfl, rfl, rfl⟩; trivial) ?_
  show ab_St MX5_putSmall g 0 0 0 [(0, .ref a), (1, .long (lN v))] [] _ _ _
  refine r_iconst (v := nI 0) dX5_putSmall_0 (by decide) ?_
  refine r_istore_n (i := 3) (L0 := [(0, _), (1, _)]) dX5_putSmall_1 rfl (by decide) rfl ?_
  have h := K n 0 (by omega)
  rw [fl_0, wu_self ha] at h
  exact h
set_option maxRecDepth 100000 in
set_option maxHeartbeats 4000000 in
theorem c_isOne {g : ab_G} {N a n v : Nat} {w : ab_W} (hw : w a = aN n v) (hn : n ≤ 1000) (h0 : 0 < n) (hv : v < 4294967296 ^ n) : ab_Ct MX5_isOne g [.ref a] N w (rp (some (.int (if v = 1 then 1 else 0))) N w) := by
  have hb : bl v ≤ 32 * n := bl_le (by rw [Nat.pow_mul]; exact hv)
  refine ab_Ct.of (by decide +kernel) (Nat.le_of_ble_eq_true rfl) (by rintro _ _ _ ⟨rfl, rfl, rfl⟩; show _ ∨ _; by_cases h : v = 1 <;> simp [h]) ?_
  show ab_St MX5_isOne g 0 0 0 [(0, .ref a)] [] _ _ _
  refine r_aload_n dX5_isOne_0 rfl ?_
  refine r_invS dX5_isOne_1 kX5_21 (c_bitCount hw (Or.inl rfl) hn h0 hv) rfl rfl ⟨by decide, by decide⟩ (Nat.le_of_ble_eq_true rfl) ⟨by decide, by decide⟩ ⟨rfl, rfl⟩ ?_
  rintro _ _ _ ⟨rfl, rfl, rfl⟩
  refine r_iconst (v := nI 1) dX5_isOne_4 (by decide) ?_
  first | refine r_icmp_neN (tgt := 12) dX5_isOne_5 (by decide) (by omega) (by omega) (fun h5 => ?_) (fun h5 => ?_) | refine r_icmp_ne (tgt := 12) dX5_isOne_5 (by decide) (fun h5 => ?_) (fun h5 => ?_)
  · refine r_iconst (v := nI 0) dX5_isOne_12 (by decide) ?_
    refine r_ret (r := (some (.int _))) dX5_isOne_13 (by decide) (by decide) ?_
    rw [if_neg fun h => h5 ((bl_1 v).mpr h)]
    exact ⟨rfl, rfl, rfl⟩
  · refine r_iconst (v := nI 1) dX5_isOne_8 (by decide) ?_
    refine r_goto (tgt := 13) dX5_isOne_9 (by decide) ?_
    refine r_ret (r := (some (.int _))) dX5_isOne_13 (by decide) (by decide) ?_
    rw [if_pos ((bl_1 v).mp h5)]
    exact ⟨rfl, rfl, rfl⟩
