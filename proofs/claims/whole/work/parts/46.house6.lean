/-! SignHouse: feed, cut, hash, encoded, set, get, encode -/
theorem HW.msg {w w' : ab_W} {half rounds c : Nat} {ω : Nat → Nat} {bg : Nat} {σ : hT} {d : Nat → Nat} {len R sg vf : Nat} {d' : Nat → Nat} {len' : Nat} (h : HW w half rounds c ω bg σ d len R sg vf) (hM : MSG w' d' len') (hk : ∀ k, (k < 66 ∨ 70 < k) → w' k = w k) : HW w' half rounds c ω bg σ d' len' R sg vf := by
  obtain ⟨o1, o2, o3, o4, ⟨n, dd, p, q, dP, dQ, qI, o5⟩, o6, ⟨o7, o8, o9⟩, o10, o11, ⟨o12, o13⟩, ⟨e, o14, o15⟩, ⟨e2, o16, o17⟩, o18⟩ := h
  exact ⟨(hk 7 (by decide)).trans o1, o2.keep fun k a b => hk k (by omega), o3.keep fun k a b => hk k (by omega), (hk 28 (by decide)).trans o4, ⟨n, dd, p, q, dP, dQ, qI, o5.keep fun k a b => hk k (by omega)⟩, o6.keep fun k a b => hk k (by omega), ⟨o7.keep fun k a b => hk k (by omega), o8.keep fun k a b => hk k (by omega), o9.keep fun k a b => hk k (by omega)⟩, fun e => (o10 e).keep fun k a b => hk k (by omega), hM, ⟨(hk 71 (by decide)).trans o12, o13⟩, ⟨e, (hk 72 (by decide)).trans o14, o15⟩, ⟨e2, (hk 73 (by decide)).trans o16, o17⟩, o18.keep fun k a => hk k (by omega)⟩
set_option maxRecDepth 100000 in
set_option maxHeartbeats 4000000 in
theorem c_feed_neg {g : ab_G} {N : Nat} {y : Int64} {x : Int32} {w : ab_W} (hx : x < 0) : ab_Ct MX7_feed g [.ref 7, .long y, .int x] N w (rp (some (.int (-2))) N w) := by
  refine ab_Ct.of (by decide +kernel) (Nat.le_of_ble_eq_true rfl) (by rintro _ _ _ ⟨rfl, rfl, rfl⟩; trivial) ?_
  show ab_St MX7_feed g 0 0 0 [(0, .ref 7), (1, .long y), (3, .int x)] [] _ _ _
  refine r_iload_n dX7_feed_0 rfl ?_
  refine r_iconst (v := nI 1) dX7_feed_1 (by decide) ?_
  first | refine r_icmp_ltN (tgt := 11) dX7_feed_2 (by decide) (by omega) (by omega) (fun h2 => ?_) (fun h2 => ?_) | refine r_icmp_lt (tgt := 11) dX7_feed_2 (by decide) (fun h2 => ?_) (fun h2 => ?_)
  · refine r_bipush (v := (-2)) dX7_feed_11 (by decide) ?_
    refine r_ret (r := (some (.int _))) dX7_feed_13 (by decide) (by decide) ?_
    exact ⟨rfl, rfl, rfl⟩
  · exact absurd (neg_lt (n := 1) hx (by decide)) (by assumption)
set_option maxRecDepth 100000 in
set_option maxHeartbeats 4000000 in
theorem c_feed_bad {g : ab_G} {N m : Nat} {y : Int64} {w : ab_W} (hm : m < 2147483648) (hb : m < 1 ∨ 8 < m) : ab_Ct MX7_feed g [.ref 7, .long y, .int (nI m)] N w (rp (some (.int (-2))) N w) := by
  refine ab_Ct.of (by decide +kernel) (Nat.le_of_ble_eq_true rfl) (by rintro _ _ _ ⟨rfl, rfl, rfl⟩; trivial) ?_
  show ab_St MX7_feed g 0 0 0 [(0, .ref 7), (1, .long y), (3, .int (nI m))] [] _ _ _
  refine r_iload_n dX7_feed_0 rfl ?_
  refine r_iconst (v := nI 1) dX7_feed_1 (by decide) ?_
  first | refine r_icmp_ltN (tgt := 11) dX7_feed_2 (by decide) (by omega) (by omega) (fun h2 => ?_) (fun h2 => ?_) | refine r_icmp_lt (tgt := 11) dX7_feed_2 (by decide) (fun h2 => ?_) (fun h2 => ?_)
  · refine r_bipush (v := (-2)) dX7_feed_11 (by decide) ?_
    refine r_ret (r := (some (.int _))) dX7_feed_13 (by decide) (by decide) ?_
    exact ⟨rfl, rfl, rfl⟩
  · refine r_iload_n dX7_feed_5 rfl ?_
    refine r_bipush (v := nI 8) dX7_feed_6 (by decide) ?_
    first | refine r_icmp_leN (tgt := 14) dX7_feed_8 (by decide) (by omega) (by omega) (fun h8 => ?_) (fun h8 => ?_) | refine r_icmp_le (tgt := 14) dX7_feed_8 (by decide) (fun h8 => ?_) (fun h8 => ?_)
    · omega
    · refine r_bipush (v := (-2)) dX7_feed_11 (by decide) ?_
      refine r_ret (r := (some (.int _))) dX7_feed_13 (by decide) (by decide) ?_
      exact ⟨rfl, rfl, rfl⟩
set_option maxRecDepth 100000 in
set_option maxHeartbeats 4000000 in
theorem c_feed_full {g : ab_G} {N m : Nat} {y : Int64} {half rounds c bg : Nat} {ω : Nat → Nat} {σ : hT} {d : Nat → Nat} {len R sg vf : Nat} {w : ab_W} (h : HW w half rounds c ω bg σ d len R sg vf) (h1m : 1 ≤ m) (h8m : m ≤ 8) (hf : 300 < len + m) : ab_Ct MX7_feed g [.ref 7, .long y, .int (nI m)] N w (rp (some (.int (-4))) N w) := by
  obtain ⟨o1, o2, o3, o4, ⟨n, dd, p, q, dP, dQ, qI, o5⟩, o6, ⟨o7, o8, o9⟩, o10, o11, ⟨o12, o13⟩, ⟨e, o14, o15⟩, ⟨e2, o16, o17⟩, o18⟩ := id h
  obtain ⟨f66, k66, -, -, -, -, -, hl⟩ := id o11
  refine ab_Ct.of (by decide +kernel) (Nat.le_of_ble_eq_true rfl) (by rintro _ _ _ ⟨rfl, rfl, rfl⟩; trivial) ?_
  show ab_St MX7_feed g 0 0 0 [(0, .ref 7), (1, .long y), (3, .int (nI m))] [] _ _ _
  refine r_iload_n dX7_feed_0 rfl ?_
  refine r_iconst (v := nI 1) dX7_feed_1 (by decide) ?_
  first | refine r_icmp_ltN (tgt := 11) dX7_feed_2 (by decide) (by omega) (by omega) (fun h2 => ?_) (fun h2 => ?_) | refine r_icmp_lt (tgt := 11) dX7_feed_2 (by decide) (fun h2 => ?_) (fun h2 => ?_)
  · omega
  · refine r_iload_n dX7_feed_5 rfl ?_
    refine r_bipush (v := nI 8) dX7_feed_6 (by decide) ?_
    first | refine r_icmp_leN (tgt := 14) dX7_feed_8 (by decide) (by omega) (by omega) (fun h8 => ?_) (fun h8 => ?_) | refine r_icmp_le (tgt := 14) dX7_feed_8 (by decide) (fun h8 => ?_) (fun h8 => ?_)
    · refine r_aload_n dX7_feed_14 rfl ?_
      refine r_getf dX7_feed_15 fX7_56 (by repeat first | exact wu_eq | assumption | exact HS.o (by assumption) | exact MSG.o (by assumption) | exact DRW.o (by assumption) | (apply wu_ne; first | omega | assumption | (apply Ne.symm; assumption))) (by rfl) ?_
      refine r_invV dX7_feed_18 kX7_122 (c_Message_byteCount o11) rfl rfl (by repeat first | exact wu_eq | assumption | exact HS.o (by assumption) | exact MSG.o (by assumption) | exact DRW.o (by assumption) | (apply wu_ne; first | omega | assumption | (apply Ne.symm; assumption))) rfl rfl ⟨by decide, by decide⟩ (Nat.le_of_ble_eq_true rfl) ⟨by decide, by decide⟩ ⟨rfl, rfl⟩ ?_
      rintro _ _ _ ⟨rfl, rfl, rfl⟩
      refine r_iload_n dX7_feed_21 rfl ?_
      first | refine r_iaddN dX7_feed_22 ?_ | refine r_iadd dX7_feed_22 ?_
      refine r_sipush (v := nI 300) dX7_feed_23 (by decide) ?_
      first | refine r_icmp_leN (tgt := 32) dX7_feed_26 (by decide) (by omega) (by omega) (fun h26 => ?_) (fun h26 => ?_) | refine r_icmp_le (tgt := 32) dX7_feed_26 (by decide) (fun h26 => ?_) (fun h26 => ?_)
      · omega
      · refine r_bipush (v := (-4)) dX7_feed_29 (by decide) ?_
        refine r_ret (r := (some (.int _))) dX7_feed_31 (by decide) (by decide) ?_
        exact ⟨rfl, rfl, rfl⟩
    · omega
set_option maxRecDepth 100000 in
set_option maxHeartbeats 4000000 in
theorem c_feed {g : ab_G} {N u m : Nat} {half rounds c bg : Nat} {ω : Nat → Nat} {σ : hT} {d : Nat → Nat} {len R sg vf : Nat} {w : ab_W} (h : HW w half rounds c ω bg σ d len R sg vf) (h1m : 1 ≤ m) (h8m : m ≤ 8) (hf : len + m ≤ 300) (hu : u < 18446744073709551616) : ab_Ct MX7_feed g [.ref 7, .long (lN u), .int (nI m)] N w (fun r N' w' => HW w' half rounds c ω bg σ (med d len u m m) (len + m) R sg vf ∧ (∀ k, 73 < k → w' k = w k) ∧ r = some (.int (nI (len + m))) ∧ N = N') := by
  obtain ⟨o1, o2, o3, o4, ⟨n, dd, p, q, dP, dQ, qI, o5⟩, o6, ⟨o7, o8, o9⟩, o10, o11, ⟨o12, o13⟩, ⟨e, o14, o15⟩, ⟨e2, o16, o17⟩, o18⟩ := id h
  obtain ⟨f66, k66, -, -, -, -, -, hl⟩ := id o11
  obtain ⟨x0, x1, -⟩ := id o18
  refine ab_Ct.of (by decide +kernel) (Nat.le_of_ble_eq_true rfl) (by rintro _ _ _ ⟨-, -, rfl, -⟩; trivial) ?_
  show ab_St MX7_feed g 0 0 0 [(0, .ref 7), (1, .long (lN u)), (3, .int (nI m))] [] _ _ _
  refine r_iload_n dX7_feed_0 rfl ?_
  refine r_iconst (v := nI 1) dX7_feed_1 (by decide) ?_
  first | refine r_icmp_ltN (tgt := 11) dX7_feed_2 (by decide) (by omega) (by omega) (fun h2 => ?_) (fun h2 => ?_) | refine r_icmp_lt (tgt := 11) dX7_feed_2 (by decide) (fun h2 => ?_) (fun h2 => ?_)
  · omega
  · refine r_iload_n dX7_feed_5 rfl ?_
    refine r_bipush (v := nI 8) dX7_feed_6 (by decide) ?_
    first | refine r_icmp_leN (tgt := 14) dX7_feed_8 (by decide) (by omega) (by omega) (fun h8 => ?_) (fun h8 => ?_) | refine r_icmp_le (tgt := 14) dX7_feed_8 (by decide) (fun h8 => ?_) (fun h8 => ?_)
    · refine r_aload_n dX7_feed_14 rfl ?_
      refine r_getf dX7_feed_15 fX7_56 (by repeat first | exact wu_eq | assumption | exact HS.o (by assumption) | exact MSG.o (by assumption) | exact DRW.o (by assumption) | (apply wu_ne; first | omega | assumption | (apply Ne.symm; assumption))) (by rfl) ?_
      refine r_invV dX7_feed_18 kX7_122 (c_Message_byteCount o11) rfl rfl (by repeat first | exact wu_eq | assumption | exact HS.o (by assumption) | exact MSG.o (by assumption) | exact DRW.o (by assumption) | (apply wu_ne; first | omega | assumption | (apply Ne.symm; assumption))) rfl rfl ⟨by decide, by decide⟩ (Nat.le_of_ble_eq_true rfl) ⟨by decide, by decide⟩ ⟨rfl, rfl⟩ ?_
      rintro _ _ _ ⟨rfl, rfl, rfl⟩
      refine r_iload_n dX7_feed_21 rfl ?_
      first | refine r_iaddN dX7_feed_22 ?_ | refine r_iadd dX7_feed_22 ?_
      refine r_sipush (v := nI 300) dX7_feed_23 (by decide) ?_
      first | refine r_icmp_leN (tgt := 32) dX7_feed_26 (by decide) (by omega) (by omega) (fun h26 => ?_) (fun h26 => ?_) | refine r_icmp_le (tgt := 32) dX7_feed_26 (by decide) (fun h26 => ?_) (fun h26 => ?_)
      · refine r_aload_n dX7_feed_32 rfl ?_
        refine r_getf dX7_feed_33 fX7_56 (by repeat first | exact wu_eq | assumption | exact HS.o (by assumption) | exact MSG.o (by assumption) | exact DRW.o (by assumption) | (apply wu_ne; first | omega | assumption | (apply Ne.symm; assumption))) (by rfl) ?_
        refine r_lload_n dX7_feed_36 rfl ?_
        refine r_iload_n dX7_feed_37 rfl ?_
        refine r_invV dX7_feed_38 kX7_131 (c_append (u := u) (m := m) o11 hu hf h8m x0 x1) rfl rfl (by repeat first | exact wu_eq | assumption | exact HS.o (by assumption) | exact MSG.o (by assumption) | exact DRW.o (by assumption) | (apply wu_ne; first | omega | assumption | (apply Ne.symm; assumption))) rfl rfl ⟨by decide, by decide⟩ (Nat.le_of_ble_eq_true rfl) ⟨by decide, by decide⟩ ⟨rfl, rfl⟩ ?_
        rintro _ _ w1 ⟨M1, f1, rfl, rfl⟩
        have e7 := (f1 7 (by decide)).trans o1
        refine r_aload_n dX7_feed_41 rfl ?_
        refine r_getf dX7_feed_42 fX7_56 (by repeat first | exact wu_eq | assumption | exact HS.o (by assumption) | exact MSG.o (by assumption) | exact DRW.o (by assumption) | (apply wu_ne; first | omega | assumption | (apply Ne.symm; assumption))) (by rfl) ?_
        refine r_invV dX7_feed_45 kX7_122 (c_Message_byteCount M1) rfl rfl (by repeat first | exact wu_eq | assumption | exact HS.o (by assumption) | exact MSG.o (by assumption) | exact DRW.o (by assumption) | (apply wu_ne; first | omega | assumption | (apply Ne.symm; assumption))) rfl rfl ⟨by decide, by decide⟩ (Nat.le_of_ble_eq_true rfl) ⟨by decide, by decide⟩ ⟨rfl, rfl⟩ ?_
        rintro _ _ _ ⟨rfl, rfl, rfl⟩
        refine r_ret (r := (some (.int _))) dX7_feed_48 (by decide) (by decide) ?_
        exact ⟨h.msg M1 f1, fun k a => f1 k (by omega), rfl, rfl⟩
      · omega
    · omega
set_option maxRecDepth 100000 in
set_option maxHeartbeats 4000000 in
theorem c_cut_neg {g : ab_G} {N : Nat} {x : Int32} {half rounds c bg : Nat} {ω : Nat → Nat} {σ : hT} {d : Nat → Nat} {len R sg vf : Nat} {w : ab_W} (h : HW w half rounds c ω bg σ d len R sg vf) (hx : x < 0) : ab_Ct MX7_cut g [.ref 7, .int x] N w (rp (some (.int (-2))) N w) := by
  obtain ⟨o1, o2, o3, o4, ⟨n, dd, p, q, dP, dQ, qI, o5⟩, o6, ⟨o7, o8, o9⟩, o10, o11, ⟨o12, o13⟩, ⟨e, o14, o15⟩, ⟨e2, o16, o17⟩, o18⟩ := id h
  obtain ⟨f66, k66, -, -, -, -, -, hl⟩ := id o11
  refine ab_Ct.of (by decide +kernel) (Nat.le_of_ble_eq_true rfl) (by rintro _ _ _ ⟨rfl, rfl, rfl⟩; trivial) ?_
  show ab_St MX7_cut g 0 0 0 [(0, .ref 7), (1, .int x)] [] _ _ _
  refine r_aload_n dX7_cut_0 rfl ?_
  refine r_getf dX7_cut_1 fX7_56 (by repeat first | exact wu_eq | assumption | exact HS.o (by assumption) | exact MSG.o (by assumption) | exact DRW.o (by assumption) | (apply wu_ne; first | omega | assumption | (apply Ne.symm; assumption))) (by rfl) ?_
  refine r_invV dX7_cut_4 kX7_122 (c_Message_byteCount o11) rfl rfl (by repeat first | exact wu_eq | assumption | exact HS.o (by assumption) | exact MSG.o (by assumption) | exact DRW.o (by assumption) | (apply wu_ne; first | omega | assumption | (apply Ne.symm; assumption))) rfl rfl ⟨by decide, by decide⟩ (Nat.le_of_ble_eq_true rfl) ⟨by decide, by decide⟩ ⟨rfl, rfl⟩ ?_
  rintro _ _ _ ⟨rfl, rfl, rfl⟩
  refine r_istore_n (i := 2) (L0 := [(0, _), (1, _)]) dX7_cut_7 rfl (by decide) rfl ?_
  refine r_iload_n dX7_cut_8 rfl ?_
  first | refine r_if_ltN (tgt := 17) dX7_cut_9 (by decide) (by omega) (fun h9 => ?_) | refine r_if_lt (tgt := 17) dX7_cut_9 (by decide) (fun h9 => ?_) (fun h9 => ?_)
  · refine r_bipush (v := (-2)) dX7_cut_17 (by decide) ?_
    refine r_ret (r := (some (.int _))) dX7_cut_19 (by decide) (by decide) ?_
    exact ⟨rfl, rfl, rfl⟩
  · exact absurd hx (by assumption)
set_option maxRecDepth 100000 in
set_option maxHeartbeats 4000000 in
theorem c_cut_bad {g : ab_G} {N m : Nat} {half rounds c bg : Nat} {ω : Nat → Nat} {σ : hT} {d : Nat → Nat} {len R sg vf : Nat} {w : ab_W} (h : HW w half rounds c ω bg σ d len R sg vf) (hm : m < 2147483648) (hb : len < m) : ab_Ct MX7_cut g [.ref 7, .int (nI m)] N w (rp (some (.int (-2))) N w) := by
  obtain ⟨o1, o2, o3, o4, ⟨n, dd, p, q, dP, dQ, qI, o5⟩, o6, ⟨o7, o8, o9⟩, o10, o11, ⟨o12, o13⟩, ⟨e, o14, o15⟩, ⟨e2, o16, o17⟩, o18⟩ := id h
  obtain ⟨f66, k66, -, -, -, -, -, hl⟩ := id o11
  refine ab_Ct.of (by decide +kernel) (Nat.le_of_ble_eq_true rfl) (by rintro _ _ _ ⟨rfl, rfl, rfl⟩; trivial) ?_
  show ab_St MX7_cut g 0 0 0 [(0, .ref 7), (1, .int (nI m))] [] _ _ _
  refine r_aload_n dX7_cut_0 rfl ?_
  refine r_getf dX7_cut_1 fX7_56 (by repeat first | exact wu_eq | assumption | exact HS.o (by assumption) | exact MSG.o (by assumption) | exact DRW.o (by assumption) | (apply wu_ne; first | omega | assumption | (apply Ne.symm; assumption))) (by rfl) ?_
  refine r_invV dX7_cut_4 kX7_122 (c_Message_byteCount o11) rfl rfl (by repeat first | exact wu_eq | assumption | exact HS.o (by assumption) | exact MSG.o (by assumption) | exact DRW.o (by assumption) | (apply wu_ne; first | omega | assumption | (apply Ne.symm; assumption))) rfl rfl ⟨by decide, by decide⟩ (Nat.le_of_ble_eq_true rfl) ⟨by decide, by decide⟩ ⟨rfl, rfl⟩ ?_
  rintro _ _ _ ⟨rfl, rfl, rfl⟩
  refine r_istore_n (i := 2) (L0 := [(0, _), (1, _)]) dX7_cut_7 rfl (by decide) rfl ?_
  refine r_iload_n dX7_cut_8 rfl ?_
  first | refine r_if_ltN (tgt := 17) dX7_cut_9 (by decide) (by omega) (fun h9 => ?_) | refine r_if_lt (tgt := 17) dX7_cut_9 (by decide) (fun h9 => ?_) (fun h9 => ?_)
  refine r_iload_n dX7_cut_12 rfl ?_
  refine r_iload_n dX7_cut_13 rfl ?_
  first | refine r_icmp_leN (tgt := 20) dX7_cut_14 (by decide) (by omega) (by omega) (fun h14 => ?_) (fun h14 => ?_) | refine r_icmp_le (tgt := 20) dX7_cut_14 (by decide) (fun h14 => ?_) (fun h14 => ?_)
  · omega
  · refine r_bipush (v := (-2)) dX7_cut_17 (by decide) ?_
    refine r_ret (r := (some (.int _))) dX7_cut_19 (by decide) (by decide) ?_
    exact ⟨rfl, rfl, rfl⟩
set_option maxRecDepth 100000 in
set_option maxHeartbeats 4000000 in
theorem c_cut {g : ab_G} {N m : Nat} {half rounds c bg : Nat} {ω : Nat → Nat} {σ : hT} {d : Nat → Nat} {len R sg vf : Nat} {w : ab_W} (h : HW w half rounds c ω bg σ d len R sg vf) (hb : m ≤ len) : ab_Ct MX7_cut g [.ref 7, .int (nI m)] N w (fun r N' w' => HW w' half rounds c ω bg σ d m R sg vf ∧ (∀ k, 73 < k → w' k = w k) ∧ r = some (.int (nI (len - m))) ∧ N = N') := by
  obtain ⟨o1, o2, o3, o4, ⟨n, dd, p, q, dP, dQ, qI, o5⟩, o6, ⟨o7, o8, o9⟩, o10, o11, ⟨o12, o13⟩, ⟨e, o14, o15⟩, ⟨e2, o16, o17⟩, o18⟩ := id h
  obtain ⟨f66, k66, -, -, -, -, -, hl⟩ := id o11
  obtain ⟨x0, x1, -⟩ := id o18
  refine ab_Ct.of (by decide +kernel) (Nat.le_of_ble_eq_true rfl) (by rintro _ _ _ ⟨-, -, rfl, -⟩; trivial) ?_
  show ab_St MX7_cut g 0 0 0 [(0, .ref 7), (1, .int (nI m))] [] _ _ _
  refine r_aload_n dX7_cut_0 rfl ?_
  refine r_getf dX7_cut_1 fX7_56 (by repeat first | exact wu_eq | assumption | exact HS.o (by assumption) | exact MSG.o (by assumption) | exact DRW.o (by assumption) | (apply wu_ne; first | omega | assumption | (apply Ne.symm; assumption))) (by rfl) ?_
  refine r_invV dX7_cut_4 kX7_122 (c_Message_byteCount o11) rfl rfl (by repeat first | exact wu_eq | assumption | exact HS.o (by assumption) | exact MSG.o (by assumption) | exact DRW.o (by assumption) | (apply wu_ne; first | omega | assumption | (apply Ne.symm; assumption))) rfl rfl ⟨by decide, by decide⟩ (Nat.le_of_ble_eq_true rfl) ⟨by decide, by decide⟩ ⟨rfl, rfl⟩ ?_
  rintro _ _ _ ⟨rfl, rfl, rfl⟩
  refine r_istore_n (i := 2) (L0 := [(0, _), (1, _)]) dX7_cut_7 rfl (by decide) rfl ?_
  refine r_iload_n dX7_cut_8 rfl ?_
  first | refine r_if_ltN (tgt := 17) dX7_cut_9 (by decide) (by omega) (fun h9 => ?_) | refine r_if_lt (tgt := 17) dX7_cut_9 (by decide) (fun h9 => ?_) (fun h9 => ?_)
  refine r_iload_n dX7_cut_12 rfl ?_
  refine r_iload_n dX7_cut_13 rfl ?_
  first | refine r_icmp_leN (tgt := 20) dX7_cut_14 (by decide) (by omega) (by omega) (fun h14 => ?_) (fun h14 => ?_) | refine r_icmp_le (tgt := 20) dX7_cut_14 (by decide) (fun h14 => ?_) (fun h14 => ?_)
  · refine r_aload_n dX7_cut_20 rfl ?_
    refine r_getf dX7_cut_21 fX7_56 (by repeat first | exact wu_eq | assumption | exact HS.o (by assumption) | exact MSG.o (by assumption) | exact DRW.o (by assumption) | (apply wu_ne; first | omega | assumption | (apply Ne.symm; assumption))) (by rfl) ?_
    refine r_iload_n dX7_cut_24 rfl ?_
    refine r_invV dX7_cut_25 kX7_135 (c_keepFirst (m := m) o11 (by omega) x0 x1) rfl rfl (by repeat first | exact wu_eq | assumption | exact HS.o (by assumption) | exact MSG.o (by assumption) | exact DRW.o (by assumption) | (apply wu_ne; first | omega | assumption | (apply Ne.symm; assumption))) rfl rfl ⟨by decide, by decide⟩ (Nat.le_of_ble_eq_true rfl) ⟨by decide, by decide⟩ ⟨rfl, rfl⟩ ?_
    rintro _ _ w1 ⟨M1, f1, rfl, rfl⟩
    refine r_iload_n dX7_cut_28 rfl ?_
    refine r_iload_n dX7_cut_29 rfl ?_
    first | refine r_isubN dX7_cut_30 (by omega) ?_ | refine r_isub dX7_cut_30 ?_
    refine r_ret (r := (some (.int _))) dX7_cut_31 (by decide) (by decide) ?_
    exact ⟨h.msg M1 f1, fun k a => f1 k (by omega), rfl, rfl⟩
  · omega
set_option maxRecDepth 100000 in
set_option maxHeartbeats 4000000 in
theorem c_hash_neg {g : ab_G} {N : Nat} {x : Int32} {w : ab_W} (hx : x < 0) : ab_Ct MX7_hash g [.ref 7, .int x] N w (rp (some (.int (-2))) N w) := by
  refine ab_Ct.of (by decide +kernel) (Nat.le_of_ble_eq_true rfl) (by rintro _ _ _ ⟨rfl, rfl, rfl⟩; trivial) ?_
  show ab_St MX7_hash g 0 0 0 [(0, .ref 7), (1, .int x)] [] _ _ _
  refine r_iload_n dX7_hash_0 rfl ?_
  first | refine r_if_ltN (tgt := 10) dX7_hash_1 (by decide) (by omega) (fun h1 => ?_) | refine r_if_lt (tgt := 10) dX7_hash_1 (by decide) (fun h1 => ?_) (fun h1 => ?_)
  · refine r_bipush (v := (-2)) dX7_hash_10 (by decide) ?_
    refine r_goto (tgt := 23) dX7_hash_12 (by decide) ?_
    refine r_ret (r := (some (.int _))) dX7_hash_23 (by decide) (by decide) ?_
    exact ⟨rfl, rfl, rfl⟩
  · exact absurd hx (by assumption)
set_option maxRecDepth 100000 in
set_option maxHeartbeats 4000000 in
theorem c_hash_bad {g : ab_G} {N m : Nat} {w : ab_W} (hm : m < 2147483648) (hb : 32 ≤ m) : ab_Ct MX7_hash g [.ref 7, .int (nI m)] N w (rp (some (.int (-2))) N w) := by
  refine ab_Ct.of (by decide +kernel) (Nat.le_of_ble_eq_true rfl) (by rintro _ _ _ ⟨rfl, rfl, rfl⟩; trivial) ?_
  show ab_St MX7_hash g 0 0 0 [(0, .ref 7), (1, .int (nI m))] [] _ _ _
  refine r_iload_n dX7_hash_0 rfl ?_
  first | refine r_if_ltN (tgt := 10) dX7_hash_1 (by decide) (by omega) (fun h1 => ?_) | refine r_if_lt (tgt := 10) dX7_hash_1 (by decide) (fun h1 => ?_) (fun h1 => ?_)
  refine r_iload_n dX7_hash_4 rfl ?_
  refine r_bipush (v := nI 32) dX7_hash_5 (by decide) ?_
  first | refine r_icmp_ltN (tgt := 15) dX7_hash_7 (by decide) (by omega) (by omega) (fun h7 => ?_) (fun h7 => ?_) | refine r_icmp_lt (tgt := 15) dX7_hash_7 (by decide) (fun h7 => ?_) (fun h7 => ?_)
  · omega
  · refine r_bipush (v := (-2)) dX7_hash_10 (by decide) ?_
    refine r_goto (tgt := 23) dX7_hash_12 (by decide) ?_
    refine r_ret (r := (some (.int _))) dX7_hash_23 (by decide) (by decide) ?_
    exact ⟨rfl, rfl, rfl⟩
set_option maxRecDepth 100000 in
set_option maxHeartbeats 4000000 in
theorem c_hash {g : ab_G} {N m : Nat} {half rounds c bg : Nat} {ω : Nat → Nat} {σ : hT} {d : Nat → Nat} {len R sg vf : Nat} {w : ab_W} (h : HW w half rounds c ω bg σ d len R sg vf) (hb : m < 32) : ab_Ct MX7_hash g [.ref 7, .int (nI m)] N w (rp (some (.int (nI (hby (sha d len) m)))) N w) := by
  obtain ⟨o1, o2, o3, o4, ⟨n, dd, p, q, dP, dQ, qI, o5⟩, o6, ⟨o7, o8, o9⟩, o10, o11, ⟨o12, o13⟩, ⟨e, o14, o15⟩, ⟨e2, o16, o17⟩, o18⟩ := id h
  obtain ⟨f66, k66, -⟩ := id o11
  refine ab_Ct.of (by decide +kernel) (Nat.le_of_ble_eq_true rfl) (by rintro _ _ _ ⟨rfl, rfl, rfl⟩; trivial) ?_
  show ab_St MX7_hash g 0 0 0 [(0, .ref 7), (1, .int (nI m))] [] _ _ _
  refine r_iload_n dX7_hash_0 rfl ?_
  first | refine r_if_ltN (tgt := 10) dX7_hash_1 (by decide) (by omega) (fun h1 => ?_) | refine r_if_lt (tgt := 10) dX7_hash_1 (by decide) (fun h1 => ?_) (fun h1 => ?_)
  refine r_iload_n dX7_hash_4 rfl ?_
  refine r_bipush (v := nI 32) dX7_hash_5 (by decide) ?_
  first | refine r_icmp_ltN (tgt := 15) dX7_hash_7 (by decide) (by omega) (by omega) (fun h7 => ?_) (fun h7 => ?_) | refine r_icmp_lt (tgt := 15) dX7_hash_7 (by decide) (fun h7 => ?_) (fun h7 => ?_)
  · refine r_aload_n dX7_hash_15 rfl ?_
    refine r_getf dX7_hash_16 fX7_56 (by repeat first | exact wu_eq | assumption | exact HS.o (by assumption) | exact MSG.o (by assumption) | exact DRW.o (by assumption) | (apply wu_ne; first | omega | assumption | (apply Ne.symm; assumption))) (by rfl) ?_
    refine r_iload_n dX7_hash_19 rfl ?_
    refine r_invV dX7_hash_20 kX7_138 (c_hashByte (q := m) o11 hb) rfl rfl (by repeat first | exact wu_eq | assumption | exact HS.o (by assumption) | exact MSG.o (by assumption) | exact DRW.o (by assumption) | (apply wu_ne; first | omega | assumption | (apply Ne.symm; assumption))) rfl rfl ⟨by decide, by decide⟩ (Nat.le_of_ble_eq_true rfl) ⟨by decide, by decide⟩ ⟨rfl, rfl⟩ ?_
    rintro _ _ _ ⟨rfl, rfl, rfl⟩
    refine r_ret (r := (some (.int _))) dX7_hash_23 (by decide) (by decide) ?_
    exact ⟨rfl, rfl, rfl⟩
  · omega
set_option maxRecDepth 100000 in
set_option maxHeartbeats 4000000 in
theorem c_encoded_neg {g : ab_G} {N : Nat} {x : Int32} {w : ab_W} (hx : x < 0) : ab_Ct MX7_encoded g [.ref 7, .int x] N w (rp (some (.int (-2))) N w) := by
  refine ab_Ct.of (by decide +kernel) (Nat.le_of_ble_eq_true rfl) (by rintro _ _ _ ⟨rfl, rfl, rfl⟩; trivial) ?_
  show ab_St MX7_encoded g 0 0 0 [(0, .ref 7), (1, .int x)] [] _ _ _
  refine r_iload_n dX7_encoded_0 rfl ?_
  first | refine r_if_ltN (tgt := 12) dX7_encoded_1 (by decide) (by omega) (fun h1 => ?_) | refine r_if_lt (tgt := 12) dX7_encoded_1 (by decide) (fun h1 => ?_) (fun h1 => ?_)
  · refine r_bipush (v := (-2)) dX7_encoded_12 (by decide) ?_
    refine r_goto (tgt := 22) dX7_encoded_14 (by decide) ?_
    refine r_ret (r := (some (.int _))) dX7_encoded_22 (by decide) (by decide) ?_
    exact ⟨rfl, rfl, rfl⟩
  · exact absurd hx (by assumption)
set_option maxRecDepth 100000 in
set_option maxHeartbeats 4000000 in
theorem c_encoded_bad {g : ab_G} {N m : Nat} {half rounds c bg : Nat} {ω : Nat → Nat} {σ : hT} {d : Nat → Nat} {len R sg vf : Nat} {w : ab_W} (h : HW w half rounds c ω bg σ d len R sg vf) (hm : m < 2147483648) (hb : 2 * half ≤ m) : ab_Ct MX7_encoded g [.ref 7, .int (nI m)] N w (rp (some (.int (-2))) N w) := by
  obtain ⟨o1, o2, o3, o4, ⟨n, dd, p, q, dP, dQ, qI, o5⟩, o6, ⟨o7, o8, o9⟩, o10, o11, ⟨o12, o13⟩, ⟨e, o14, o15⟩, ⟨e2, o16, o17⟩, o18⟩ := id h
  have hh := h.half
  refine ab_Ct.of (by decide +kernel) (Nat.le_of_ble_eq_true rfl) (by rintro _ _ _ ⟨rfl, rfl, rfl⟩; trivial) ?_
  show ab_St MX7_encoded g 0 0 0 [(0, .ref 7), (1, .int (nI m))] [] _ _ _
  refine r_iload_n dX7_encoded_0 rfl ?_
  first | refine r_if_ltN (tgt := 12) dX7_encoded_1 (by decide) (by omega) (fun h1 => ?_) | refine r_if_lt (tgt := 12) dX7_encoded_1 (by decide) (fun h1 => ?_) (fun h1 => ?_)
  refine r_iload_n dX7_encoded_4 rfl ?_
  refine r_aload_n dX7_encoded_5 rfl ?_
  refine r_getf dX7_encoded_6 fX7_22 (by repeat first | exact wu_eq | assumption | exact HS.o (by assumption) | exact MSG.o (by assumption) | exact DRW.o (by assumption) | (apply wu_ne; first | omega | assumption | (apply Ne.symm; assumption))) (by rfl) ?_
  first | refine r_icmp_ltN (tgt := 17) dX7_encoded_9 (by decide) (by omega) (by omega) (fun h9 => ?_) (fun h9 => ?_) | refine r_icmp_lt (tgt := 17) dX7_encoded_9 (by decide) (fun h9 => ?_) (fun h9 => ?_)
  · omega
  · refine r_bipush (v := (-2)) dX7_encoded_12 (by decide) ?_
    refine r_goto (tgt := 22) dX7_encoded_14 (by decide) ?_
    refine r_ret (r := (some (.int _))) dX7_encoded_22 (by decide) (by decide) ?_
    exact ⟨rfl, rfl, rfl⟩
set_option maxRecDepth 100000 in
set_option maxHeartbeats 4000000 in
theorem c_encoded {g : ab_G} {N m : Nat} {half rounds c bg : Nat} {ω : Nat → Nat} {σ : hT} {d : Nat → Nat} {len R sg vf : Nat} {w : ab_W} (h : HW w half rounds c ω bg σ d len R sg vf) (hb : m < 2 * half) : ab_Ct MX7_encoded g [.ref 7, .int (nI m)] N w (rp (some (.int (nI (enb d len half m)))) N w) := by
  obtain ⟨o1, o2, o3, o4, ⟨n, dd, p, q, dP, dQ, qI, o5⟩, o6, ⟨o7, o8, o9⟩, o10, o11, ⟨o12, o13⟩, ⟨e, o14, o15⟩, ⟨e2, o16, o17⟩, o18⟩ := id h
  obtain ⟨x0, x1, x2, x3, x4, x5⟩ := id o18
  have hh := h.half
  refine ab_Ct.of (by decide +kernel) (Nat.le_of_ble_eq_true rfl) (by rintro _ _ _ ⟨rfl, rfl, rfl⟩; trivial) ?_
  show ab_St MX7_encoded g 0 0 0 [(0, .ref 7), (1, .int (nI m))] [] _ _ _
  refine r_iload_n dX7_encoded_0 rfl ?_
  first | refine r_if_ltN (tgt := 12) dX7_encoded_1 (by decide) (by omega) (fun h1 => ?_) | refine r_if_lt (tgt := 12) dX7_encoded_1 (by decide) (fun h1 => ?_) (fun h1 => ?_)
  refine r_iload_n dX7_encoded_4 rfl ?_
  refine r_aload_n dX7_encoded_5 rfl ?_
  refine r_getf dX7_encoded_6 fX7_22 (by repeat first | exact wu_eq | assumption | exact HS.o (by assumption) | exact MSG.o (by assumption) | exact DRW.o (by assumption) | (apply wu_ne; first | omega | assumption | (apply Ne.symm; assumption))) (by rfl) ?_
  first | refine r_icmp_ltN (tgt := 17) dX7_encoded_9 (by decide) (by omega) (by omega) (fun h9 => ?_) (fun h9 => ?_) | refine r_icmp_lt (tgt := 17) dX7_encoded_9 (by decide) (fun h9 => ?_) (fun h9 => ?_)
  · refine r_aload_n dX7_encoded_17 rfl ?_
    refine r_iload_n dX7_encoded_18 rfl ?_
    refine r_invV dX7_encoded_19 kX7_141 (c_encodedByte (half := half) (i := m) o1 hh.1 hh.2.1 o11 x5 hb) rfl rfl (by repeat first | exact wu_eq | assumption | exact HS.o (by assumption) | exact MSG.o (by assumption) | exact DRW.o (by assumption) | (apply wu_ne; first | omega | assumption | (apply Ne.symm; assumption))) rfl rfl ⟨by decide, by decide⟩ (Nat.le_of_ble_eq_true rfl) ⟨by decide, by decide⟩ ⟨rfl, rfl⟩ ?_
    rintro _ _ _ ⟨rfl, rfl, rfl⟩
    refine r_ret (r := (some (.int _))) dX7_encoded_22 (by decide) (by decide) ?_
    exact ⟨rfl, rfl, rfl⟩
  · omega
theorem HW.reg {w w' : ab_W} {half rounds c : Nat} {ω : Nat → Nat} {bg : Nat} {σ : hT} {d : Nat → Nat} {len R sg vf : Nat} {R' : Nat} (h : HW w half rounds c ω bg σ d len R sg vf) (o1' : w' 71 = aN (2 * ((half + 3) / 4)) R') (o2' : R' < 256 ^ (2 * half)) (hk : ∀ k, k ≠ 71 → w' k = w k) : HW w' half rounds c ω bg σ d len R' sg vf := by
  obtain ⟨o1, o2, o3, o4, ⟨n, dd, p, q, dP, dQ, qI, o5⟩, o6, ⟨o7, o8, o9⟩, o10, o11, ⟨o12, o13⟩, ⟨e, o14, o15⟩, ⟨e2, o16, o17⟩, o18⟩ := h
  exact ⟨(hk 7 (by decide)).trans o1, o2.keep fun k a b => hk k (by omega), o3.keep fun k a b => hk k (by omega), (hk 28 (by decide)).trans o4, ⟨n, dd, p, q, dP, dQ, qI, o5.keep fun k a b => hk k (by omega)⟩, o6.keep fun k a b => hk k (by omega), ⟨o7.keep fun k a b => hk k (by omega), o8.keep fun k a b => hk k (by omega), o9.keep fun k a b => hk k (by omega)⟩, fun e => (o10 e).keep fun k a b => hk k (by omega), o11.keep fun k a b => hk k (by omega), ⟨o1', o2'⟩, ⟨e, (hk 72 (by decide)).trans o14, o15⟩, ⟨e2, (hk 73 (by decide)).trans o16, o17⟩, o18.keep fun k a => hk k (by omega)⟩
theorem pow_2W {half : Nat} : 256 ^ (2 * half) ≤ 4294967296 ^ (2 * ((half + 3) / 4)) := by
  rw [show (4294967296 : Nat) = 256 ^ 4 by decide, ← Nat.pow_mul]
  exact Nat.pow_le_pow_right (by decide) (by omega)
set_option maxRecDepth 100000 in
set_option maxHeartbeats 4000000 in
theorem c_get_neg {g : ab_G} {N : Nat} {x : Int32} {w : ab_W} (hx : x < 0) : ab_Ct MX7_get g [.ref 7, .int x] N w (rp (some (.int (-2))) N w) := by
  refine ab_Ct.of (by decide +kernel) (Nat.le_of_ble_eq_true rfl) (by rintro _ _ _ ⟨rfl, rfl, rfl⟩; trivial) ?_
  show ab_St MX7_get g 0 0 0 [(0, .ref 7), (1, .int x)] [] _ _ _
  refine r_iload_n dX7_get_0 rfl ?_
  first | refine r_if_ltN (tgt := 12) dX7_get_1 (by decide) (by omega) (fun h1 => ?_) | refine r_if_lt (tgt := 12) dX7_get_1 (by decide) (fun h1 => ?_) (fun h1 => ?_)
  · refine r_bipush (v := (-2)) dX7_get_12 (by decide) ?_
    refine r_goto (tgt := 32) dX7_get_14 (by decide) ?_
    refine r_ret (r := (some (.int _))) dX7_get_32 (by decide) (by decide) ?_
    exact ⟨rfl, rfl, rfl⟩
  · exact absurd hx (by assumption)
set_option maxRecDepth 100000 in
set_option maxHeartbeats 4000000 in
theorem c_get_bad {g : ab_G} {N m : Nat} {half rounds c bg : Nat} {ω : Nat → Nat} {σ : hT} {d : Nat → Nat} {len R sg vf : Nat} {w : ab_W} (h : HW w half rounds c ω bg σ d len R sg vf) (hm : m < 2147483648) (hb : 2 * half ≤ m) : ab_Ct MX7_get g [.ref 7, .int (nI m)] N w (rp (some (.int (-2))) N w) := by
  obtain ⟨o1, o2, o3, o4, ⟨n, dd, p, q, dP, dQ, qI, o5⟩, o6, ⟨o7, o8, o9⟩, o10, o11, ⟨o12, o13⟩, ⟨e, o14, o15⟩, ⟨e2, o16, o17⟩, o18⟩ := id h
  have hh := h.half
  refine ab_Ct.of (by decide +kernel) (Nat.le_of_ble_eq_true rfl) (by rintro _ _ _ ⟨rfl, rfl, rfl⟩; trivial) ?_
  show ab_St MX7_get g 0 0 0 [(0, .ref 7), (1, .int (nI m))] [] _ _ _
  refine r_iload_n dX7_get_0 rfl ?_
  first | refine r_if_ltN (tgt := 12) dX7_get_1 (by decide) (by omega) (fun h1 => ?_) | refine r_if_lt (tgt := 12) dX7_get_1 (by decide) (fun h1 => ?_) (fun h1 => ?_)
  refine r_iload_n dX7_get_4 rfl ?_
  refine r_aload_n dX7_get_5 rfl ?_
  refine r_getf dX7_get_6 fX7_22 (by repeat first | exact wu_eq | assumption | exact HS.o (by assumption) | exact MSG.o (by assumption) | exact DRW.o (by assumption) | (apply wu_ne; first | omega | assumption | (apply Ne.symm; assumption))) (by rfl) ?_
  first | refine r_icmp_ltN (tgt := 17) dX7_get_9 (by decide) (by omega) (by omega) (fun h9 => ?_) (fun h9 => ?_) | refine r_icmp_lt (tgt := 17) dX7_get_9 (by decide) (fun h9 => ?_) (fun h9 => ?_)
  · omega
  · refine r_bipush (v := (-2)) dX7_get_12 (by decide) ?_
    refine r_goto (tgt := 32) dX7_get_14 (by decide) ?_
    refine r_ret (r := (some (.int _))) dX7_get_32 (by decide) (by decide) ?_
    exact ⟨rfl, rfl, rfl⟩
set_option maxRecDepth 100000 in
set_option maxHeartbeats 4000000 in
theorem c_get {g : ab_G} {N m : Nat} {half rounds c bg : Nat} {ω : Nat → Nat} {σ : hT} {d : Nat → Nat} {len R sg vf : Nat} {w : ab_W} (h : HW w half rounds c ω bg σ d len R sg vf) (hb : m < 2 * half) : ab_Ct MX7_get g [.ref 7, .int (nI m)] N w (rp (some (.int (nI (dg 256 R (2 * half - 1 - m))))) N w) := by
  obtain ⟨o1, o2, o3, o4, ⟨n, dd, p, q, dP, dQ, qI, o5⟩, o6, ⟨o7, o8, o9⟩, o10, o11, ⟨o12, o13⟩, ⟨e, o14, o15⟩, ⟨e2, o16, o17⟩, o18⟩ := id h
  have hh := h.half
  refine ab_Ct.of (by decide +kernel) (Nat.le_of_ble_eq_true rfl) (by rintro _ _ _ ⟨rfl, rfl, rfl⟩; trivial) ?_
  show ab_St MX7_get g 0 0 0 [(0, .ref 7), (1, .int (nI m))] [] _ _ _
  refine r_iload_n dX7_get_0 rfl ?_
  first | refine r_if_ltN (tgt := 12) dX7_get_1 (by decide) (by omega) (fun h1 => ?_) | refine r_if_lt (tgt := 12) dX7_get_1 (by decide) (fun h1 => ?_) (fun h1 => ?_)
  refine r_iload_n dX7_get_4 rfl ?_
  refine r_aload_n dX7_get_5 rfl ?_
  refine r_getf dX7_get_6 fX7_22 (by repeat first | exact wu_eq | assumption | exact HS.o (by assumption) | exact MSG.o (by assumption) | exact DRW.o (by assumption) | (apply wu_ne; first | omega | assumption | (apply Ne.symm; assumption))) (by rfl) ?_
  first | refine r_icmp_ltN (tgt := 17) dX7_get_9 (by decide) (by omega) (by omega) (fun h9 => ?_) (fun h9 => ?_) | refine r_icmp_lt (tgt := 17) dX7_get_9 (by decide) (fun h9 => ?_) (fun h9 => ?_)
  · refine r_aload_n dX7_get_17 rfl ?_
    refine r_getf dX7_get_18 fX7_60 (by repeat first | exact wu_eq | assumption | exact HS.o (by assumption) | exact MSG.o (by assumption) | exact DRW.o (by assumption) | (apply wu_ne; first | omega | assumption | (apply Ne.symm; assumption))) (by rfl) ?_
    refine r_aload_n dX7_get_21 rfl ?_
    refine r_getf dX7_get_22 fX7_22 (by repeat first | exact wu_eq | assumption | exact HS.o (by assumption) | exact MSG.o (by assumption) | exact DRW.o (by assumption) | (apply wu_ne; first | omega | assumption | (apply Ne.symm; assumption))) (by rfl) ?_
    refine r_iconst (v := nI 1) dX7_get_25 (by decide) ?_
    first | refine r_isubN dX7_get_26 (by omega) ?_ | refine r_isub dX7_get_26 ?_
    refine r_iload_n dX7_get_27 rfl ?_
    first | refine r_isubN dX7_get_28 (by omega) ?_ | refine r_isub dX7_get_28 ?_
    refine r_invS dX7_get_29 kX7_167 (c_byteAt (n := 2 * ((half + 3) / 4)) (v := R) (q := 2 * half - 1 - m) o12 (by omega) (Nat.lt_of_lt_of_le o13 pow_2W) (by omega)) rfl rfl ⟨by decide, by decide⟩ (Nat.le_of_ble_eq_true rfl) ⟨by decide, by decide⟩ ⟨rfl, rfl⟩ ?_
    rintro _ _ _ ⟨rfl, rfl, rfl⟩
    refine r_ret (r := (some (.int _))) dX7_get_32 (by decide) (by decide) ?_
    exact ⟨rfl, rfl, rfl⟩
  · omega
set_option maxRecDepth 100000 in
set_option maxHeartbeats 4000000 in
theorem c_set_neg {g : ab_G} {N : Nat} {x y : Int32} {w : ab_W} (hx : x < 0) : ab_Ct MX7_set g [.ref 7, .int x, .int y] N w (rp (some (.int (-2))) N w) := by
  refine ab_Ct.of (by decide +kernel) (Nat.le_of_ble_eq_true rfl) (by rintro _ _ _ ⟨rfl, rfl, rfl⟩; trivial) ?_
  show ab_St MX7_set g 0 0 0 [(0, .ref 7), (1, .int x), (2, .int y)] [] _ _ _
  refine r_iload_n dX7_set_0 rfl ?_
  first | refine r_if_ltN (tgt := 23) dX7_set_1 (by decide) (by omega) (fun h1 => ?_) | refine r_if_lt (tgt := 23) dX7_set_1 (by decide) (fun h1 => ?_) (fun h1 => ?_)
  · refine r_bipush (v := (-2)) dX7_set_23 (by decide) ?_
    refine r_ret (r := (some (.int _))) dX7_set_25 (by decide) (by decide) ?_
    exact ⟨rfl, rfl, rfl⟩
  · exact absurd hx (by assumption)
set_option maxRecDepth 100000 in
set_option maxHeartbeats 4000000 in
theorem c_set_bad {g : ab_G} {N m : Nat} {y : Int32} {half rounds c bg : Nat} {ω : Nat → Nat} {σ : hT} {d : Nat → Nat} {len R sg vf : Nat} {w : ab_W} (h : HW w half rounds c ω bg σ d len R sg vf) (hm : m < 2147483648) (hb : 2 * half ≤ m) : ab_Ct MX7_set g [.ref 7, .int (nI m), .int y] N w (rp (some (.int (-2))) N w) := by
  obtain ⟨o1, o2, o3, o4, ⟨n, dd, p, q, dP, dQ, qI, o5⟩, o6, ⟨o7, o8, o9⟩, o10, o11, ⟨o12, o13⟩, ⟨e, o14, o15⟩, ⟨e2, o16, o17⟩, o18⟩ := id h
  have hh := h.half
  refine ab_Ct.of (by decide +kernel) (Nat.le_of_ble_eq_true rfl) (by rintro _ _ _ ⟨rfl, rfl, rfl⟩; trivial) ?_
  show ab_St MX7_set g 0 0 0 [(0, .ref 7), (1, .int (nI m)), (2, .int y)] [] _ _ _
  refine r_iload_n dX7_set_0 rfl ?_
  first | refine r_if_ltN (tgt := 23) dX7_set_1 (by decide) (by omega) (fun h1 => ?_) | refine r_if_lt (tgt := 23) dX7_set_1 (by decide) (fun h1 => ?_) (fun h1 => ?_)
  refine r_iload_n dX7_set_4 rfl ?_
  refine r_aload_n dX7_set_5 rfl ?_
  refine r_getf dX7_set_6 fX7_22 (by repeat first | exact wu_eq | assumption | exact HS.o (by assumption) | exact MSG.o (by assumption) | exact DRW.o (by assumption) | (apply wu_ne; first | omega | assumption | (apply Ne.symm; assumption))) (by rfl) ?_
  first | refine r_icmp_geN (tgt := 23) dX7_set_9 (by decide) (by omega) (by omega) (fun h9 => ?_) (fun h9 => ?_) | refine r_icmp_ge (tgt := 23) dX7_set_9 (by decide) (fun h9 => ?_) (fun h9 => ?_)
  · refine r_bipush (v := (-2)) dX7_set_23 (by decide) ?_
    refine r_ret (r := (some (.int _))) dX7_set_25 (by decide) (by decide) ?_
    exact ⟨rfl, rfl, rfl⟩
  · omega
set_option maxRecDepth 100000 in
set_option maxHeartbeats 4000000 in
theorem c_set_neg2 {g : ab_G} {N m : Nat} {y : Int32} {half rounds c bg : Nat} {ω : Nat → Nat} {σ : hT} {d : Nat → Nat} {len R sg vf : Nat} {w : ab_W} (h : HW w half rounds c ω bg σ d len R sg vf) (hb : m < 2 * half) (hy : y < 0) : ab_Ct MX7_set g [.ref 7, .int (nI m), .int y] N w (rp (some (.int (-2))) N w) := by
  obtain ⟨o1, o2, o3, o4, ⟨n, dd, p, q, dP, dQ, qI, o5⟩, o6, ⟨o7, o8, o9⟩, o10, o11, ⟨o12, o13⟩, ⟨e, o14, o15⟩, ⟨e2, o16, o17⟩, o18⟩ := id h
  have hh := h.half
  refine ab_Ct.of (by decide +kernel) (Nat.le_of_ble_eq_true rfl) (by rintro _ _ _ ⟨rfl, rfl, rfl⟩; trivial) ?_
  show ab_St MX7_set g 0 0 0 [(0, .ref 7), (1, .int (nI m)), (2, .int y)] [] _ _ _
  refine r_iload_n dX7_set_0 rfl ?_
  first | refine r_if_ltN (tgt := 23) dX7_set_1 (by decide) (by omega) (fun h1 => ?_) | refine r_if_lt (tgt := 23) dX7_set_1 (by decide) (fun h1 => ?_) (fun h1 => ?_)
  refine r_iload_n dX7_set_4 rfl ?_
  refine r_aload_n dX7_set_5 rfl ?_
  refine r_getf dX7_set_6 fX7_22 (by repeat first | exact wu_eq | assumption | exact HS.o (by assumption) | exact MSG.o (by assumption) | exact DRW.o (by assumption) | (apply wu_ne; first | omega | assumption | (apply Ne.symm; assumption))) (by rfl) ?_
  first | refine r_icmp_geN (tgt := 23) dX7_set_9 (by decide) (by omega) (by omega) (fun h9 => ?_) (fun h9 => ?_) | refine r_icmp_ge (tgt := 23) dX7_set_9 (by decide) (fun h9 => ?_) (fun h9 => ?_)
  · omega
  · refine r_iload_n dX7_set_12 rfl ?_
    first | refine r_if_ltN (tgt := 23) dX7_set_13 (by decide) (by omega) (fun h13 => ?_) | refine r_if_lt (tgt := 23) dX7_set_13 (by decide) (fun h13 => ?_) (fun h13 => ?_)
    · refine r_bipush (v := (-2)) dX7_set_23 (by decide) ?_
      refine r_ret (r := (some (.int _))) dX7_set_25 (by decide) (by decide) ?_
      exact ⟨rfl, rfl, rfl⟩
    · exact absurd hy (by assumption)
set_option maxRecDepth 100000 in
set_option maxHeartbeats 4000000 in
theorem c_set_bad2 {g : ab_G} {N m y : Nat} {half rounds c bg : Nat} {ω : Nat → Nat} {σ : hT} {d : Nat → Nat} {len R sg vf : Nat} {w : ab_W} (h : HW w half rounds c ω bg σ d len R sg vf) (hb : m < 2 * half) (hy : y < 2147483648) (hy2 : 256 ≤ y) : ab_Ct MX7_set g [.ref 7, .int (nI m), .int (nI y)] N w (rp (some (.int (-2))) N w) := by
  obtain ⟨o1, o2, o3, o4, ⟨n, dd, p, q, dP, dQ, qI, o5⟩, o6, ⟨o7, o8, o9⟩, o10, o11, ⟨o12, o13⟩, ⟨e, o14, o15⟩, ⟨e2, o16, o17⟩, o18⟩ := id h
  have hh := h.half
  refine ab_Ct.of (by decide +kernel) (Nat.le_of_ble_eq_true rfl) (by rintro _ _ _ ⟨rfl, rfl, rfl⟩; trivial) ?_
  show ab_St MX7_set g 0 0 0 [(0, .ref 7), (1, .int (nI m)), (2, .int (nI y))] [] _ _ _
  refine r_iload_n dX7_set_0 rfl ?_
  first | refine r_if_ltN (tgt := 23) dX7_set_1 (by decide) (by omega) (fun h1 => ?_) | refine r_if_lt (tgt := 23) dX7_set_1 (by decide) (fun h1 => ?_) (fun h1 => ?_)
  refine r_iload_n dX7_set_4 rfl ?_
  refine r_aload_n dX7_set_5 rfl ?_
  refine r_getf dX7_set_6 fX7_22 (by repeat first | exact wu_eq | assumption | exact HS.o (by assumption) | exact MSG.o (by assumption) | exact DRW.o (by assumption) | (apply wu_ne; first | omega | assumption | (apply Ne.symm; assumption))) (by rfl) ?_
  first | refine r_icmp_geN (tgt := 23) dX7_set_9 (by decide) (by omega) (by omega) (fun h9 => ?_) (fun h9 => ?_) | refine r_icmp_ge (tgt := 23) dX7_set_9 (by decide) (fun h9 => ?_) (fun h9 => ?_)
  · omega
  · refine r_iload_n dX7_set_12 rfl ?_
    first | refine r_if_ltN (tgt := 23) dX7_set_13 (by decide) (by omega) (fun h13 => ?_) | refine r_if_lt (tgt := 23) dX7_set_13 (by decide) (fun h13 => ?_) (fun h13 => ?_)
    refine r_iload_n dX7_set_16 rfl ?_
    refine r_sipush (v := nI 255) dX7_set_17 (by decide) ?_
    first | refine r_icmp_leN (tgt := 26) dX7_set_20 (by decide) (by omega) (by omega) (fun h20 => ?_) (fun h20 => ?_) | refine r_icmp_le (tgt := 26) dX7_set_20 (by decide) (fun h20 => ?_) (fun h20 => ?_)
    · omega
    · refine r_bipush (v := (-2)) dX7_set_23 (by decide) ?_
      refine r_ret (r := (some (.int _))) dX7_set_25 (by decide) (by decide) ?_
      exact ⟨rfl, rfl, rfl⟩
set_option maxRecDepth 100000 in
set_option maxHeartbeats 4000000 in
theorem c_set {g : ab_G} {N m y : Nat} {half rounds c bg : Nat} {ω : Nat → Nat} {σ : hT} {d : Nat → Nat} {len R sg vf : Nat} {w : ab_W} (h : HW w half rounds c ω bg σ d len R sg vf) (hb : m < 2 * half) (hy : y < 256) : ab_Ct MX7_set g [.ref 7, .int (nI m), .int (nI y)] N w (fun r N' w' => HW w' half rounds c ω bg σ d len (ud 256 R (2 * half - 1 - m) y) sg vf ∧ (∀ k, 73 < k → w' k = w k) ∧ r = some (.int (nI (dg 256 R (2 * half - 1 - m)))) ∧ N = N') := by
  obtain ⟨o1, o2, o3, o4, ⟨n, dd, p, q, dP, dQ, qI, o5⟩, o6, ⟨o7, o8, o9⟩, o10, o11, ⟨o12, o13⟩, ⟨e, o14, o15⟩, ⟨e2, o16, o17⟩, o18⟩ := id h
  have hh := h.half
  refine ab_Ct.of (by decide +kernel) (Nat.le_of_ble_eq_true rfl) (by rintro _ _ _ ⟨-, -, rfl, -⟩; trivial) ?_
  show ab_St MX7_set g 0 0 0 [(0, .ref 7), (1, .int (nI m)), (2, .int (nI y))] [] _ _ _
  refine r_iload_n dX7_set_0 rfl ?_
  first | refine r_if_ltN (tgt := 23) dX7_set_1 (by decide) (by omega) (fun h1 => ?_) | refine r_if_lt (tgt := 23) dX7_set_1 (by decide) (fun h1 => ?_) (fun h1 => ?_)
  refine r_iload_n dX7_set_4 rfl ?_
  refine r_aload_n dX7_set_5 rfl ?_
  refine r_getf dX7_set_6 fX7_22 (by repeat first | exact wu_eq | assumption | exact HS.o (by assumption) | exact MSG.o (by assumption) | exact DRW.o (by assumption) | (apply wu_ne; first | omega | assumption | (apply Ne.symm; assumption))) (by rfl) ?_
  first | refine r_icmp_geN (tgt := 23) dX7_set_9 (by decide) (by omega) (by omega) (fun h9 => ?_) (fun h9 => ?_) | refine r_icmp_ge (tgt := 23) dX7_set_9 (by decide) (fun h9 => ?_) (fun h9 => ?_)
  · omega
  · refine r_iload_n dX7_set_12 rfl ?_
    first | refine r_if_ltN (tgt := 23) dX7_set_13 (by decide) (by omega) (fun h13 => ?_) | refine r_if_lt (tgt := 23) dX7_set_13 (by decide) (fun h13 => ?_) (fun h13 => ?_)
    refine r_iload_n dX7_set_16 rfl ?_
    refine r_sipush (v := nI 255) dX7_set_17 (by decide) ?_
    first | refine r_icmp_leN (tgt := 26) dX7_set_20 (by decide) (by omega) (by omega) (fun h20 => ?_) (fun h20 => ?_) | refine r_icmp_le (tgt := 26) dX7_set_20 (by decide) (fun h20 => ?_) (fun h20 => ?_)
    · refine r_aload_n dX7_set_26 rfl ?_
      refine r_getf dX7_set_27 fX7_60 (by repeat first | exact wu_eq | assumption | exact HS.o (by assumption) | exact MSG.o (by assumption) | exact DRW.o (by assumption) | (apply wu_ne; first | omega | assumption | (apply Ne.symm; assumption))) (by rfl) ?_
      refine r_aload_n dX7_set_30 rfl ?_
      refine r_getf dX7_set_31 fX7_22 (by repeat first | exact wu_eq | assumption | exact HS.o (by assumption) | exact MSG.o (by assumption) | exact DRW.o (by assumption) | (apply wu_ne; first | omega | assumption | (apply Ne.symm; assumption))) (by rfl) ?_
      refine r_iconst (v := nI 1) dX7_set_34 (by decide) ?_
      first | refine r_isubN dX7_set_35 (by omega) ?_ | refine r_isub dX7_set_35 ?_
      refine r_iload_n dX7_set_36 rfl ?_
      first | refine r_isubN dX7_set_37 (by omega) ?_ | refine r_isub dX7_set_37 ?_
      refine r_invS dX7_set_38 kX7_167 (c_byteAt (n := 2 * ((half + 3) / 4)) (v := R) (q := 2 * half - 1 - m) o12 (by omega) (Nat.lt_of_lt_of_le o13 pow_2W) (by omega)) rfl rfl ⟨by decide, by decide⟩ (Nat.le_of_ble_eq_true rfl) ⟨by decide, by decide⟩ ⟨rfl, rfl⟩ ?_
      rintro _ _ _ ⟨rfl, rfl, rfl⟩
      refine r_istore_n (i := 3) (L0 := [(0, _), (1, _), (2, _)]) dX7_set_41 rfl (by decide) rfl ?_
      refine r_aload_n dX7_set_42 rfl ?_
      refine r_getf dX7_set_43 fX7_60 (by repeat first | exact wu_eq | assumption | exact HS.o (by assumption) | exact MSG.o (by assumption) | exact DRW.o (by assumption) | (apply wu_ne; first | omega | assumption | (apply Ne.symm; assumption))) (by rfl) ?_
      refine r_aload_n dX7_set_46 rfl ?_
      refine r_getf dX7_set_47 fX7_22 (by repeat first | exact wu_eq | assumption | exact HS.o (by assumption) | exact MSG.o (by assumption) | exact DRW.o (by assumption) | (apply wu_ne; first | omega | assumption | (apply Ne.symm; assumption))) (by rfl) ?_
      refine r_iconst (v := nI 1) dX7_set_50 (by decide) ?_
      first | refine r_isubN dX7_set_51 (by omega) ?_ | refine r_isub dX7_set_51 ?_
      refine r_iload_n dX7_set_52 rfl ?_
      first | refine r_isubN dX7_set_53 (by omega) ?_ | refine r_isub dX7_set_53 ?_
      refine r_iload_n dX7_set_54 rfl ?_
      refine r_invS dX7_set_55 kX7_171 (c_putByte (n := 2 * ((half + 3) / 4)) (u := R) (q := 2 * half - 1 - m) (b := y) o12 (by omega) (by omega) hy) rfl rfl ⟨by decide, by decide⟩ (Nat.le_of_ble_eq_true rfl) ⟨by decide, by decide⟩ ⟨rfl, rfl⟩ ?_
      rintro _ _ _ ⟨rfl, rfl, rfl⟩
      refine r_iload_n dX7_set_58 rfl ?_
      refine r_ret (r := (some (.int _))) dX7_set_59 (by decide) (by decide) ?_
      exact ⟨h.reg wu_eq (ud_lt (by decide) hy o13 (by omega)) (fun k a => wu_ne a rfl), fun k a => wu_ne (by omega) rfl, rfl, rfl⟩
    · omega
set_option maxRecDepth 100000 in
set_option maxHeartbeats 4000000 in
theorem c_encode {g : ab_G} {N : Nat} {half rounds c bg : Nat} {ω : Nat → Nat} {σ : hT} {d : Nat → Nat} {len R sg vf : Nat} {w : ab_W} (h : HW w half rounds c ω bg σ d len R sg vf) : ab_Ct MX7_encode g [.ref 7] N w (fun r N' w' => HW w' half rounds c ω bg σ d len (emn d len half (2 * half)) sg vf ∧ (∀ k, 73 < k → w' k = w k) ∧ r = some (.int (nI 1)) ∧ N = N') := by
  obtain ⟨o1, o2, o3, o4, ⟨n, dd, p, q, dP, dQ, qI, o5⟩, o6, ⟨o7, o8, o9⟩, o10, o11, ⟨o12, o13⟩, ⟨e, o14, o15⟩, ⟨e2, o16, o17⟩, o18⟩ := id h
  obtain ⟨x0, x1, x2, x3, x4, x5⟩ := id o18
  have hh := h.half
  refine ab_Ct.of (by decide +kernel) (Nat.le_of_ble_eq_true rfl) (by rintro _ _ _ ⟨-, -, rfl, -⟩; trivial) ?_
  show ab_St MX7_encode g 0 0 0 [(0, .ref 7)] [] _ _ _
  refine r_aload_n dX7_encode_0 rfl ?_
  refine r_aload_n dX7_encode_1 rfl ?_
  refine r_getf dX7_encode_2 fX7_60 (by repeat first | exact wu_eq | assumption | exact HS.o (by assumption) | exact MSG.o (by assumption) | exact DRW.o (by assumption) | (apply wu_ne; first | omega | assumption | (apply Ne.symm; assumption))) (by rfl) ?_
  refine r_invV dX7_encode_5 kX7_144 (c_writeEncoded (half := half) (W := (half + 3) / 4) (u := R) o1 hh.1 hh.2.1 rfl o11 x5 o12 (by decide) o13) rfl rfl (by repeat first | exact wu_eq | assumption | exact HS.o (by assumption) | exact MSG.o (by assumption) | exact DRW.o (by assumption) | (apply wu_ne; first | omega | assumption | (apply Ne.symm; assumption))) rfl rfl ⟨by decide, by decide⟩ (Nat.le_of_ble_eq_true rfl) ⟨by decide, by decide⟩ ⟨rfl, rfl⟩ ?_
  rintro _ _ _ ⟨rfl, rfl, rfl⟩
  refine r_iconst (v := nI 1) dX7_encode_8 (by decide) ?_
  refine r_ret (r := (some (.int _))) dX7_encode_9 (by decide) (by decide) ?_
  exact ⟨h.reg wu_eq (emn_lt _ _ _ _) (fun k a => wu_ne a rfl), fun k a => wu_ne (by omega) rfl, rfl, rfl⟩
