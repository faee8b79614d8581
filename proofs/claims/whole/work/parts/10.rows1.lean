/-! SignHouse$Rows: what each method does to the numbers in its rows -/
set_option maxRecDepth 100000 in
set_option maxHeartbeats 4000000 in
theorem c_byteAt {g : ab_G} {N a n v q : Nat} {w : ab_W} (hw : w a = aN n v) (hn : n ≤ 1000) (hv : v < 4294967296 ^ n) (hq : q < 100000) : ab_Ct MX5_byteAt g [.ref a, .int (nI q)] N w (rt (some (.int (nI (dg 256 v q)))) N w) := by
  have hx : dg 4294967296 v (q / 2 ^ 2) / 2 ^ (8 * (q % 2 ^ 2)) < 4294967296 := Nat.lt_of_le_of_lt (Nat.div_le_self _ _) (dg_lt v _)
  have hd := dg_lt v (q / 2 ^ 2)
  refine ab_Ct.of (by decide +kernel) (Nat.le_of_ble_eq_true rfl) (by rintro _ _ _ ⟨rfl, rfl, rfl⟩; trivial) ?_
  show ab_St MX5_byteAt g 0 0 0 [(0, .ref a), (1, .int (nI q))] [] _ _ _
  refine r_iload_n dX5_byteAt_0 rfl ?_
  refine r_iconst (v := nI 2) dX5_byteAt_1 (by decide) ?_
  first | refine r_ishrN 2 (by decide) dX5_byteAt_2 (by omega) ?_ | refine r_ishr dX5_byteAt_2 ?_
  refine r_istore_n (i := 2) (L0 := [(0, _), (1, _)]) dX5_byteAt_3 rfl (by decide) rfl ?_
  refine r_iload_n dX5_byteAt_4 rfl ?_
  first | refine r_if_ltN (tgt := 14) dX5_byteAt_5 (by decide) (by omega) (fun h5 => ?_) | refine r_if_lt (tgt := 14) dX5_byteAt_5 (by decide) (fun h5 => ?_) (fun h5 => ?_)
  refine r_iload_n dX5_byteAt_8 rfl ?_
  refine r_aload_n dX5_byteAt_9 rfl ?_
  refine r_alen' dX5_byteAt_10 (by repeat first | exact wu_eq | assumption | refine wu_ne (by omega) ?_) (by rfl) ?_
  first | refine r_icmp_ltN (tgt := 16) dX5_byteAt_11 (by decide) (by omega) (by omega) (fun h11 => ?_) (fun h11 => ?_) | refine r_icmp_lt (tgt := 16) dX5_byteAt_11 (by decide) (fun h11 => ?_) (fun h11 => ?_)
  · refine r_aload_n dX5_byteAt_16 rfl ?_
    refine r_iload_n dX5_byteAt_17 rfl ?_
    refine r_laload' dX5_byteAt_18 (by repeat first | exact wu_eq | assumption | refine wu_ne (by omega) ?_) (by rfl) _ rfl (by omega) (by omega) ?_
    refine r_bipush (v := nI 8) dX5_byteAt_19 (by decide) ?_
    refine r_iload_n dX5_byteAt_21 rfl ?_
    refine r_iconst (v := nI 3) dX5_byteAt_22 (by decide) ?_
    first | refine r_iandN 2 (by decide) dX5_byteAt_23 (by omega) ?_ | refine r_iand dX5_byteAt_23 ?_
    first | refine r_imulN dX5_byteAt_24 ?_ | refine r_imul dX5_byteAt_24 ?_
    refine r_lushrN _ (by omega) dX5_byteAt_25 (by omega) ?_
    first | refine r_l2iN dX5_byteAt_26 ?_ | refine r_l2i dX5_byteAt_26 ?_
    refine r_sipush (v := nI 255) dX5_byteAt_27 (by decide) ?_
    refine r_iandN 8 (by decide) dX5_byteAt_30 hx ?_
    refine r_ret (r := (some (.int _))) dX5_byteAt_31 (by decide) (by decide) ?_
    rw [dg_byte]
    exact ⟨rfl, rfl, rfl⟩
  · refine r_iconst (v := nI 0) dX5_byteAt_14 (by decide) ?_
    refine r_ret (r := (some (.int _))) dX5_byteAt_15 (by decide) (by decide) ?_
    rw [dg_big (k := q) (b := 256) (n := 4 * n) (by rw [Nat.pow_mul]; exact hv) (by omega) (by decide)]
    exact ⟨rfl, rfl, rfl⟩
