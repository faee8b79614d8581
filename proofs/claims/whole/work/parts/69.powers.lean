/-! SignHouseModel: bit, powers, byteAt, byteTo -/
theorem dg_bit6 (v k : Nat) : dg 65536 v (k / 16) / 2 ^ (k % 16) % 2 = dg 2 v k := by
  have h := dg_dg (b := 2) (v := v) (m := 16) (i := k / 16) (r := k % 16) (Nat.mod_lt _ (by decide))
  rw [show 16 * (k / 16) + k % 16 = k by omega] at h
  exact h
theorem dg_byte6 (v k : Nat) : dg 65536 v (k / 2) / 2 ^ (8 * (k % 2)) % 256 = dg 256 v k := by
  have h := dg_dg (b := 256) (v := v) (m := 2) (i := k / 2) (r := k % 2) (Nat.mod_lt _ (by decide))
  rw [show 2 * (k / 2) + k % 2 = k by omega] at h
  rw [show (2 : Nat) ^ (8 * (k % 2)) = 256 ^ (k % 2) by rw [Nat.pow_mul]]
  exact h
set_option maxRecDepth 100000 in
set_option maxHeartbeats 4000000 in
theorem c_bit {g : ab_G} {N s k : Nat} {v : Nat → Nat} {fs : List Value} {w : ab_W} (h : w 74 = mdX fs) (hx : w 75 = xA v) (hs : s < 19) (hk : k < 1344) : ab_Ct MX8_bit g [.ref 74, .int (nI s), .int (nI k)] N w (rp (some (.int (nI (dg 2 (v s) k)))) N w) := by
  have hd := dg6_lt (v s) (k / 16)
  have e1 := dg_bit6 (v s) k
  have h2 : dg 2 (v s) k < 2 := Nat.mod_lt _ (by decide)
  have hkm : k % 16 < 32 := by omega
  have hdd : dg 65536 (v s) (k / 16) / 2 ^ (k % 16) < 65536 := Nat.lt_of_le_of_lt (Nat.div_le_self _ _) hd
  refine ab_Ct.of (by decide +kernel) (Nat.le_of_ble_eq_true rfl) (by rintro _ _ _ ⟨rfl, -, -⟩; exact nI_zk (Nat.mod_lt _ (by decide))) ?_
  show ab_St MX8_bit g 0 0 0 [(0, .ref 74), (1, .int (nI s)), (2, .int (nI k))] [] _ _ _
  refine r_aload_n dX8_bit_0 rfl ?_
  refine r_getf dX8_bit_1 fX8_7 (by repeat first | exact wu_eq | assumption | (apply wu_ne; first | omega | assumption | (apply Ne.symm; assumption))) (by rfl) ?_
  refine r_bipush (v := nI 84) dX8_bit_4 (by decide) ?_
  refine r_iload_n dX8_bit_6 rfl ?_
  first | refine r_imulN dX8_bit_7 ?_ | refine r_imul dX8_bit_7 ?_
  refine r_iload_n dX8_bit_8 rfl ?_
  refine r_bipush (v := nI 16) dX8_bit_9 (by decide) ?_
  refine r_idivN dX8_bit_11 (by omega) (by omega) (by omega) ?_
  first | refine r_iaddN dX8_bit_12 ?_ | refine r_iadd dX8_bit_12 ?_
  refine r_xlV (s := s) (k := k / 16) dX8_bit_13 (by repeat first | exact wu_eq | assumption | (apply wu_ne; first | omega | assumption | (apply Ne.symm; assumption))) (congrArg nI (by omega)) (by omega) (by omega) ?_
  refine r_iload_n dX8_bit_14 rfl ?_
  refine r_bipush (v := nI 16) dX8_bit_15 (by decide) ?_
  refine r_iremN dX8_bit_17 (by omega) (by omega) (by omega) ?_
  refine r_ishr dX8_bit_18 ?_
  rw [pk_shrN (Nat.lt_trans hd (by decide)) _ _ (s_l' _ hkm)]
  refine r_iconst (v := nI 1) dX8_bit_19 (by decide) ?_
  refine r_iandN 1 (by decide) dX8_bit_20 (Nat.lt_trans hdd (by decide)) ?_
  rw [show (2 : Nat) ^ 1 = 2 from rfl, e1]
  refine r_iconst (v := nI 1) dX8_bit_21 (by decide) ?_
  first | refine r_icmp_neN (tgt := 29) dX8_bit_22 (by decide) (by omega) (by omega) (fun h22 => ?_) (fun h22 => ?_) | refine r_icmp_ne (tgt := 29) dX8_bit_22 (by decide) (fun h22 => ?_) (fun h22 => ?_)
  · refine r_iconst (v := nI 0) dX8_bit_29 (by decide) ?_
    refine r_ret (r := (some (.int _))) dX8_bit_30 (by decide) (by decide) ?_
    rw [show dg 2 (v s) k = 0 by omega]
    exact ⟨rfl, rfl, rfl⟩
  · refine r_iconst (v := nI 1) dX8_bit_25 (by decide) ?_
    refine r_goto (tgt := 30) dX8_bit_26 (by decide) ?_
    refine r_ret (r := (some (.int _))) dX8_bit_30 (by decide) (by decide) ?_
    rw [show dg 2 (v s) k = 1 by omega]
    exact ⟨rfl, rfl, rfl⟩
set_option maxRecDepth 100000 in
set_option maxHeartbeats 4000000 in
theorem c_mbyteAt {g : ab_G} {N s z i : Nat} {v : Nat → Nat} {fs : List Value} {w : ab_W} (h : w 74 = mdX fs) (hx : w 75 = xA v) (hs : s < 19) (hi : i < z) (hz : z ≤ 168) : ab_Ct MX8_byteAt g [.ref 74, .int (nI s), .int (nI z), .int (nI i)] N w (rp (some (.int (nI (dg 256 (v s) (z - 1 - i))))) N w) := by
  have hd := dg6_lt (v s) ((z - 1 - i) / 2)
  have e1 := dg_byte6 (v s) (z - 1 - i)
  have hkm : 8 * ((z - 1 - i) % 2) < 32 := by omega
  have hdd : dg 65536 (v s) ((z - 1 - i) / 2) / 2 ^ (8 * ((z - 1 - i) % 2)) < 65536 := Nat.lt_of_le_of_lt (Nat.div_le_self _ _) hd
  refine ab_Ct.of (by decide +kernel) (Nat.le_of_ble_eq_true rfl) (by rintro _ _ _ ⟨rfl, rfl, rfl⟩; trivial) ?_
  show ab_St MX8_byteAt g 0 0 0 [(0, .ref 74), (1, .int (nI s)), (2, .int (nI z)), (3, .int (nI i))] [] _ _ _
  refine r_iload_n dX8_byteAt_0 rfl ?_
  refine r_iconst (v := nI 1) dX8_byteAt_1 (by decide) ?_
  first | refine r_isubN dX8_byteAt_2 (by omega) ?_ | refine r_isub dX8_byteAt_2 ?_
  refine r_iload_n dX8_byteAt_3 rfl ?_
  first | refine r_isubN dX8_byteAt_4 (by omega) ?_ | refine r_isub dX8_byteAt_4 ?_
  refine r_istore (i := 4) (L0 := [(0, _), (1, _), (2, _), (3, _)]) dX8_byteAt_5 (by decide) rfl ?_
  refine r_aload_n dX8_byteAt_7 rfl ?_
  refine r_getf dX8_byteAt_8 fX8_7 (by repeat first | exact wu_eq | assumption | (apply wu_ne; first | omega | assumption | (apply Ne.symm; assumption))) (by rfl) ?_
  refine r_bipush (v := nI 84) dX8_byteAt_11 (by decide) ?_
  refine r_iload_n dX8_byteAt_13 rfl ?_
  first | refine r_imulN dX8_byteAt_14 ?_ | refine r_imul dX8_byteAt_14 ?_
  refine r_iload dX8_byteAt_15 rfl ?_
  refine r_iconst (v := nI 2) dX8_byteAt_17 (by decide) ?_
  refine r_idivN dX8_byteAt_18 (by omega) (by omega) (by omega) ?_
  first | refine r_iaddN dX8_byteAt_19 ?_ | refine r_iadd dX8_byteAt_19 ?_
  refine r_xlV (s := s) (k := (z - 1 - i) / 2) dX8_byteAt_20 (by repeat first | exact wu_eq | assumption | (apply wu_ne; first | omega | assumption | (apply Ne.symm; assumption))) (congrArg nI (by omega)) (by omega) (by omega) ?_
  refine r_bipush (v := nI 8) dX8_byteAt_21 (by decide) ?_
  refine r_iload dX8_byteAt_23 rfl ?_
  refine r_iconst (v := nI 2) dX8_byteAt_25 (by decide) ?_
  refine r_iremN dX8_byteAt_26 (by omega) (by omega) (by omega) ?_
  first | refine r_imulN dX8_byteAt_27 ?_ | refine r_imul dX8_byteAt_27 ?_
  refine r_ishr dX8_byteAt_28 ?_
  rw [pk_shrN (Nat.lt_trans hd (by decide)) _ _ (s_l' _ hkm)]
  refine r_sipush (v := nI 255) dX8_byteAt_29 (by decide) ?_
  refine r_iandN 8 (by decide) dX8_byteAt_32 (Nat.lt_trans hdd (by decide)) ?_
  rw [show (2 : Nat) ^ 8 = 256 by decide, e1]
  refine r_ret (r := (some (.int _))) dX8_byteAt_33 (by decide) (by decide) ?_
  exact ⟨rfl, rfl, rfl⟩
theorem put_lo {d b : Nat} (hd : d < 65536) (hb : b < 256) : (d &&& 65280) ||| b = ud 256 d 0 b := by
  have e1 : d &&& 65280 = d &&& 18446744073709551360 := by
    rw [show (65280 : Nat) = (2 ^ 16 - 1) &&& 18446744073709551360 by decide, ← Nat.and_assoc, Nat.and_two_pow_sub_one_of_lt_two_pow (show d < 2 ^ 16 from hd)]
  have h := nat_put (d := d) (b := b) (s := 0) (M := 18446744073709551360) (by decide +kernel) (by omega) hb
  rw [e1]
  rw [Nat.pow_zero, Nat.mul_one, Nat.mul_one, Nat.div_one] at h
  rw [h]
  unfold ud
  rw [Nat.pow_zero, Nat.mul_one, Nat.mul_one]
theorem put_hi {d b : Nat} (hd : d < 65536) (hb : b < 256) : (d &&& 255) ||| (b * 2 ^ 8) = ud 256 d 1 b := by
  have e1 : d &&& 255 = d &&& 18446744073709486335 := by
    rw [show (255 : Nat) = (2 ^ 16 - 1) &&& 18446744073709486335 by decide, ← Nat.and_assoc, Nat.and_two_pow_sub_one_of_lt_two_pow (show d < 2 ^ 16 from hd)]
  have h := nat_put (d := d) (b := b) (s := 8) (M := 18446744073709486335) (by decide +kernel) (by omega) hb
  rw [e1, h]
  unfold ud
  have e2 : dg 256 (d / 2 ^ 8) 0 = dg 256 d 1 := by
    have := dg_div 256 d 1 0
    rw [Nat.pow_one] at this
    rw [show (2 : Nat) ^ 8 = 256 by decide]
    exact this
  rw [e2, Nat.pow_one, show (2 : Nat) ^ 8 = 256 by decide]
theorem ud_byte6 {v k x : Nat} (hx : x < 256) : ud 65536 v (k / 2) (ud 256 (dg 65536 v (k / 2)) (k % 2) x) = ud 256 v k x := ud_ud (b := 256) (v := v) (m := 2) (q := k) (by decide) (by decide) hx
set_option maxRecDepth 100000 in
set_option maxHeartbeats 4000000 in
theorem c_byteTo {g : ab_G} {N s z i b : Nat} {v : Nat → Nat} {fs : List Value} {w : ab_W} (h : w 74 = mdX fs) (hx : w 75 = xA v) (hs : s < 19) (hi : i < z) (hz : z ≤ 168) (hb : b < 256) : ab_Ct MX8_byteTo g [.ref 74, .int (nI s), .int (nI z), .int (nI i), .int (nI b)] N w (rt none N (wu w 75 (xA (us v s (ud 256 (v s) (z - 1 - i) b))))) := by
  have hk2 : z - 1 - i < 168 := by omega
  have hd := dg6_lt (v s) ((z - 1 - i) / 2)
  have e1 := ud_byte6 (v := v s) (k := z - 1 - i) hb
  have hxx : w 75 = xA (us v s (v s)) := by rw [us_self rfl]; exact hx
  have hlt : ud 256 (dg 65536 (v s) ((z - 1 - i) / 2)) ((z - 1 - i) % 2) b < 65536 := ud_lt (n := 2) (by decide) hb hd (Nat.mod_lt _ (by decide))
  have p1 := put_lo hd hb
  have p2 := put_hi hd hb
  have hbm : b * 2 ^ 8 < 4294967296 := by rw [show (2 : Nat) ^ 8 = 256 by decide]; omega
  generalize hkk : z - 1 - i = k at *
  have K64 : ∀ x, x = ud 256 (dg 65536 (v s) (k / 2)) (k % 2) b → ab_St MX8_byteTo g 0 0 64 [(6, .int (nI (84 * s + k / 2))), (0, .ref 74)] [.int (nI x), .int (nI (84 * s + k / 2)), .ref 75] N w (rt none N (wu w 75 (xA (us v s (ud 256 (v s) k b))))) := by
    rintro x rfl
    refine r_xsU (s := s) (k := k / 2) dX8_byteTo_64 (by repeat first | exact wu_eq | assumption | (apply wu_ne; first | omega | assumption | (apply Ne.symm; assumption))) (congrArg nI (by omega)) (by omega) (by omega) (by first | assumption | omega | exact Nat.mod_lt _ (by decide)) ?_
    refine r_ret (r := none) dX8_byteTo_65 (by decide) (by decide) ?_
    rw [e1]
    exact ⟨rfl, rfl, rfl⟩
  refine ab_Ct.of (by decide +kernel) (Nat.le_of_ble_eq_true rfl) (by rintro _ _ _ ⟨rfl, rfl, rfl⟩; trivial) ?_
  show ab_St MX8_byteTo g 0 0 0 [(0, .ref 74), (1, .int (nI s)), (2, .int (nI z)), (3, .int (nI i)), (4, .int (nI b))] [] _ _ _
  refine r_iload_n dX8_byteTo_0 rfl ?_
  refine r_iconst (v := nI 1) dX8_byteTo_1 (by decide) ?_
  first | refine r_isubN dX8_byteTo_2 (by omega) ?_ | refine r_isub dX8_byteTo_2 ?_
  refine r_iload_n dX8_byteTo_3 rfl ?_
  first | refine r_isubN dX8_byteTo_4 (by omega) ?_ | refine r_isub dX8_byteTo_4 ?_
  refine r_istore (i := 5) (L0 := [(0, _), (1, _), (2, _), (3, _), (4, _)]) dX8_byteTo_5 (by decide) rfl ?_
  refine r_bipush (v := nI 84) dX8_byteTo_7 (by decide) ?_
  refine r_iload_n dX8_byteTo_9 rfl ?_
  first | refine r_imulN dX8_byteTo_10 ?_ | refine r_imul dX8_byteTo_10 ?_
  refine r_iload dX8_byteTo_11 rfl ?_
  refine r_iconst (v := nI 2) dX8_byteTo_13 (by decide) ?_
  refine r_idivN dX8_byteTo_14 (by omega) (by omega) (by omega) ?_
  first | refine r_iaddN dX8_byteTo_15 ?_ | refine r_iadd dX8_byteTo_15 ?_
  refine r_istore (i := 6) (L0 := [(5, _), (0, _), (1, _), (2, _), (3, _), (4, _)]) dX8_byteTo_16 (by decide) rfl ?_
  refine r_aload_n dX8_byteTo_18 rfl ?_
  refine r_getf dX8_byteTo_19 fX8_7 (by repeat first | exact wu_eq | assumption | (apply wu_ne; first | omega | assumption | (apply Ne.symm; assumption))) (by rfl) ?_
  refine r_iload dX8_byteTo_22 rfl ?_
  refine r_iload dX8_byteTo_24 rfl ?_
  refine r_iconst (v := nI 2) dX8_byteTo_26 (by decide) ?_
  refine r_iremN dX8_byteTo_27 (by omega) (by omega) (by omega) ?_
  first | refine r_if_neN (tgt := 47) dX8_byteTo_28 (by decide) (by omega) (fun h28 => ?_) (fun h28 => ?_) | refine r_if_ne (tgt := 47) dX8_byteTo_28 (by decide) (fun h28 => ?_) (fun h28 => ?_)
  · refine r_aload_n dX8_byteTo_47 rfl ?_
    refine r_getf dX8_byteTo_48 fX8_7 (by repeat first | exact wu_eq | assumption | (apply wu_ne; first | omega | assumption | (apply Ne.symm; assumption))) (by rfl) ?_
    refine r_iload dX8_byteTo_51 rfl ?_
    refine r_xlV (s := s) (k := k / 2) dX8_byteTo_53 (by repeat first | exact wu_eq | assumption | (apply wu_ne; first | omega | assumption | (apply Ne.symm; assumption))) (congrArg nI (by omega)) (by omega) (by omega) ?_
    refine r_sipush (v := nI 255) dX8_byteTo_54 (by decide) ?_
    refine r_iand dX8_byteTo_57 ?_
    rw [nI_and]
    refine r_iload dX8_byteTo_58 rfl ?_
    refine r_bipush (v := nI 8) dX8_byteTo_60 (by decide) ?_
    refine r_ishlN 8 (by decide) dX8_byteTo_62 hbm ?_
    refine r_ior dX8_byteTo_63 ?_
    rw [nI_or]
    refine r_sub [0, 2] rfl ?_
    rw [hkk] at *
    refine K64 _ ?_
    rw [us_eq, p2, show k % 2 = 1 by omega]
  · refine r_aload_n dX8_byteTo_31 rfl ?_
    refine r_getf dX8_byteTo_32 fX8_7 (by repeat first | exact wu_eq | assumption | (apply wu_ne; first | omega | assumption | (apply Ne.symm; assumption))) (by rfl) ?_
    refine r_iload dX8_byteTo_35 rfl ?_
    refine r_xlV (s := s) (k := k / 2) dX8_byteTo_37 (by repeat first | exact wu_eq | assumption | (apply wu_ne; first | omega | assumption | (apply Ne.symm; assumption))) (congrArg nI (by omega)) (by omega) (by omega) ?_
    refine r_ldc dX8_byteTo_38 qX8_155 ?_
    refine r_toI (y := nI 65280) rfl ?_
    refine r_iand dX8_byteTo_40 ?_
    rw [nI_and]
    refine r_iload dX8_byteTo_41 rfl ?_
    refine r_ior dX8_byteTo_43 ?_
    rw [nI_or]
    refine r_goto (tgt := 64) dX8_byteTo_44 (by decide) ?_
    refine r_sub [0, 2] rfl ?_
    rw [hkk] at *
    refine K64 _ ?_
    rw [us_eq, p1, show k % 2 = 0 by omega]
