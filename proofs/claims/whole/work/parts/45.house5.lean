/-! SignHouse: key, count -/
def cnt (half rounds c ex un len sg vf k : Nat) : Nat := if k = 0 then half else if k = 1 then rounds else if k = 2 then c else if k = 3 then ex else if k = 4 then un else if k = 5 then len else if k = 6 then sg else vf
set_option maxRecDepth 100000 in
set_option maxHeartbeats 4000000 in
theorem c_count {g : ab_G} {N k : Nat} {half rounds c bg : Nat} {ω : Nat → Nat} {σ : hT} {d : Nat → Nat} {len R sg vf : Nat} {w : ab_W} (h : HW w half rounds c ω bg σ d len R sg vf) (hk : k < 8) : ab_Ct MX7_count g [.ref 7, .int (nI k)] N w (rp (some (.int (nI (cnt half rounds c (hX σ) (hU σ) len sg vf k)))) N w) := by
  obtain ⟨o1, o2, o3, o4, ⟨n, dd, p, q, dP, dQ, qI, o5⟩, o6, ⟨o7, o8, o9⟩, o10, o11, ⟨o12, o13⟩, ⟨e, o14, o15⟩, ⟨e2, o16, o17⟩, o18⟩ := id h
  obtain ⟨f66, k66, -⟩ := id o11
  refine ab_Ct.of (by decide +kernel) (Nat.le_of_ble_eq_true rfl) (by rintro _ _ _ ⟨rfl, rfl, rfl⟩; trivial) ?_
  show ab_St MX7_count g 0 0 0 [(0, .ref 7), (1, .int (nI k))] [] _ _ _
  refine r_iload_n dX7_count_0 rfl ?_
  rcases (by omega : k = 0 ∨ k = 1 ∨ k = 2 ∨ k = 3 ∨ k = 4 ∨ k = 5 ∨ k = 6 ∨ k = 7) with rfl | rfl | rfl | rfl | rfl | rfl | rfl | rfl
  · refine r_tabIn (off := 47) (tgt := 48) dX7_count_1 (by decide) (by decide) rfl rfl ?_
    refine r_aload_n dX7_count_48 rfl ?_
    refine r_getf dX7_count_49 fX7_18 (by repeat first | exact wu_eq | assumption | exact HS.o (by assumption) | exact MSG.o (by assumption) | exact DRW.o (by assumption) | (apply wu_ne; first | omega | assumption | (apply Ne.symm; assumption))) (by rfl) ?_
    refine r_ret (r := (some (.int _))) dX7_count_52 (by decide) (by decide) ?_
    exact ⟨rfl, rfl, rfl⟩
  · refine r_tabIn (off := 52) (tgt := 53) dX7_count_1 (by decide) (by decide) rfl rfl ?_
    refine r_aload_n dX7_count_53 rfl ?_
    refine r_getf dX7_count_54 fX7_25 (by repeat first | exact wu_eq | assumption | exact HS.o (by assumption) | exact MSG.o (by assumption) | exact DRW.o (by assumption) | (apply wu_ne; first | omega | assumption | (apply Ne.symm; assumption))) (by rfl) ?_
    refine r_ret (r := (some (.int _))) dX7_count_57 (by decide) (by decide) ?_
    exact ⟨rfl, rfl, rfl⟩
  · refine r_tabIn (off := 57) (tgt := 58) dX7_count_1 (by decide) (by decide) rfl rfl ?_
    refine r_aload_n dX7_count_58 rfl ?_
    refine r_getf dX7_count_59 fX7_31 (by repeat first | exact wu_eq | assumption | exact HS.o (by assumption) | exact MSG.o (by assumption) | exact DRW.o (by assumption) | (apply wu_ne; first | omega | assumption | (apply Ne.symm; assumption))) (by rfl) ?_
    refine r_invV dX7_count_62 kX7_74 (c_Draw_wordCount o2) rfl rfl (by repeat first | exact wu_eq | assumption | exact HS.o (by assumption) | exact MSG.o (by assumption) | exact DRW.o (by assumption) | (apply wu_ne; first | omega | assumption | (apply Ne.symm; assumption))) rfl rfl ⟨by decide, by decide⟩ (Nat.le_of_ble_eq_true rfl) ⟨by decide, by decide⟩ ⟨rfl, rfl⟩ ?_
    rintro _ _ _ ⟨rfl, rfl, rfl⟩
    refine r_ret (r := (some (.int _))) dX7_count_65 (by decide) (by decide) ?_
    exact ⟨rfl, rfl, rfl⟩
  · refine r_tabIn (off := 65) (tgt := 66) dX7_count_1 (by decide) (by decide) rfl rfl ?_
    refine r_aload_n dX7_count_66 rfl ?_
    refine r_getf dX7_count_67 fX7_40 (by repeat first | exact wu_eq | assumption | exact HS.o (by assumption) | exact MSG.o (by assumption) | exact DRW.o (by assumption) | (apply wu_ne; first | omega | assumption | (apply Ne.symm; assumption))) (by rfl) ?_
    refine r_invV dX7_count_70 kX7_104 (c_examinedCount o3) rfl rfl (by repeat first | exact wu_eq | assumption | exact HS.o (by assumption) | exact MSG.o (by assumption) | exact DRW.o (by assumption) | (apply wu_ne; first | omega | assumption | (apply Ne.symm; assumption))) rfl rfl ⟨by decide, by decide⟩ (Nat.le_of_ble_eq_true rfl) ⟨by decide, by decide⟩ ⟨rfl, rfl⟩ ?_
    rintro _ _ _ ⟨rfl, rfl, rfl⟩
    refine r_ret (r := (some (.int _))) dX7_count_73 (by decide) (by decide) ?_
    exact ⟨rfl, rfl, rfl⟩
  · refine r_tabIn (off := 73) (tgt := 74) dX7_count_1 (by decide) (by decide) rfl rfl ?_
    refine r_aload_n dX7_count_74 rfl ?_
    refine r_getf dX7_count_75 fX7_40 (by repeat first | exact wu_eq | assumption | exact HS.o (by assumption) | exact MSG.o (by assumption) | exact DRW.o (by assumption) | (apply wu_ne; first | omega | assumption | (apply Ne.symm; assumption))) (by rfl) ?_
    refine r_invV dX7_count_78 kX7_119 (c_undividedCount o3) rfl rfl (by repeat first | exact wu_eq | assumption | exact HS.o (by assumption) | exact MSG.o (by assumption) | exact DRW.o (by assumption) | (apply wu_ne; first | omega | assumption | (apply Ne.symm; assumption))) rfl rfl ⟨by decide, by decide⟩ (Nat.le_of_ble_eq_true rfl) ⟨by decide, by decide⟩ ⟨rfl, rfl⟩ ?_
    rintro _ _ _ ⟨rfl, rfl, rfl⟩
    refine r_ret (r := (some (.int _))) dX7_count_81 (by decide) (by decide) ?_
    exact ⟨rfl, rfl, rfl⟩
  · refine r_tabIn (off := 81) (tgt := 82) dX7_count_1 (by decide) (by decide) rfl rfl ?_
    refine r_aload_n dX7_count_82 rfl ?_
    refine r_getf dX7_count_83 fX7_56 (by repeat first | exact wu_eq | assumption | exact HS.o (by assumption) | exact MSG.o (by assumption) | exact DRW.o (by assumption) | (apply wu_ne; first | omega | assumption | (apply Ne.symm; assumption))) (by rfl) ?_
    refine r_invV dX7_count_86 kX7_122 (c_Message_byteCount o11) rfl rfl (by repeat first | exact wu_eq | assumption | exact HS.o (by assumption) | exact MSG.o (by assumption) | exact DRW.o (by assumption) | (apply wu_ne; first | omega | assumption | (apply Ne.symm; assumption))) rfl rfl ⟨by decide, by decide⟩ (Nat.le_of_ble_eq_true rfl) ⟨by decide, by decide⟩ ⟨rfl, rfl⟩ ?_
    rintro _ _ _ ⟨rfl, rfl, rfl⟩
    refine r_ret (r := (some (.int _))) dX7_count_89 (by decide) (by decide) ?_
    exact ⟨rfl, rfl, rfl⟩
  · refine r_tabIn (off := 89) (tgt := 90) dX7_count_1 (by decide) (by decide) rfl rfl ?_
    refine r_aload_n dX7_count_90 rfl ?_
    refine r_getf dX7_count_91 fX7_125 (by repeat first | exact wu_eq | assumption | exact HS.o (by assumption) | exact MSG.o (by assumption) | exact DRW.o (by assumption) | (apply wu_ne; first | omega | assumption | (apply Ne.symm; assumption))) (by rfl) ?_
    refine r_ret (r := (some (.int _))) dX7_count_94 (by decide) (by decide) ?_
    exact ⟨rfl, rfl, rfl⟩
  · refine r_tabIn (off := 94) (tgt := 95) dX7_count_1 (by decide) (by decide) rfl rfl ?_
    refine r_aload_n dX7_count_95 rfl ?_
    refine r_getf dX7_count_96 fX7_128 (by repeat first | exact wu_eq | assumption | exact HS.o (by assumption) | exact MSG.o (by assumption) | exact DRW.o (by assumption) | (apply wu_ne; first | omega | assumption | (apply Ne.symm; assumption))) (by rfl) ?_
    refine r_ret (r := (some (.int _))) dX7_count_99 (by decide) (by decide) ?_
    exact ⟨rfl, rfl, rfl⟩
theorem tab_out {x : Int32} {k : Nat} (hx : x < 0 ∨ ∃ n, n < 2147483648 ∧ x = nI n ∧ k ≤ n) (_ : k < 2147483648) : x.toInt < 0 ∨ (k : Int) ≤ x.toInt := by
  rcases hx with hx | ⟨n, hn, rfl, hk⟩
  · left
    exact (Int32.lt_iff_toInt_lt).mp hx
  · right
    show (k : Int) ≤ (BitVec.ofNat 32 n).toInt
    rw [BitVec.toInt_eq_toNat_bmod, BitVec.toNat_ofNat, Int.bmod_def, if_pos (by omega)]
    omega
set_option maxRecDepth 100000 in
set_option maxHeartbeats 4000000 in
theorem c_count_bad {g : ab_G} {N : Nat} {x : Int32} {w : ab_W} (hx : x < 0 ∨ ∃ n, n < 2147483648 ∧ x = nI n ∧ 8 ≤ n) : ab_Ct MX7_count g [.ref 7, .int x] N w (rp (some (.int (-2))) N w) := by
  have ht := tab_out hx (by decide)
  refine ab_Ct.of (by decide +kernel) (Nat.le_of_ble_eq_true rfl) (by rintro _ _ _ ⟨rfl, rfl, rfl⟩; trivial) ?_
  show ab_St MX7_count g 0 0 0 [(0, .ref 7), (1, .int x)] [] _ _ _
  refine r_iload_n dX7_count_0 rfl ?_
  refine r_tabOut (tgt := 100) dX7_count_1 (by omega) rfl ?_
  refine r_bipush (v := (-2)) dX7_count_100 (by decide) ?_
  refine r_ret (r := (some (.int _))) dX7_count_102 (by decide) (by decide) ?_
  exact ⟨rfl, rfl, rfl⟩
set_option maxRecDepth 100000 in
set_option maxHeartbeats 4000000 in
theorem c_key_neg {g : ab_G} {N : Nat} {x y : Int32} {w : ab_W} (hx : x < 0) : ab_Ct MX7_key g [.ref 7, .int x, .int y] N w (rp (some (.int (-2))) N w) := by
  refine ab_Ct.of (by decide +kernel) (Nat.le_of_ble_eq_true rfl) (by rintro _ _ _ ⟨rfl, rfl, rfl⟩; trivial) ?_
  show ab_St MX7_key g 0 0 0 [(0, .ref 7), (1, .int x), (2, .int y)] [] _ _ _
  refine r_iload_n dX7_key_0 rfl ?_
  first | refine r_if_ltN (tgt := 23) dX7_key_1 (by decide) (by omega) (fun h1 => ?_) | refine r_if_lt (tgt := 23) dX7_key_1 (by decide) (fun h1 => ?_) (fun h1 => ?_)
  · refine r_bipush (v := (-2)) dX7_key_23 (by decide) ?_
    refine r_ret (r := (some (.int _))) dX7_key_25 (by decide) (by decide) ?_
    exact ⟨rfl, rfl, rfl⟩
  · exact absurd hx h1
set_option maxRecDepth 100000 in
set_option maxHeartbeats 4000000 in
theorem c_key_big {g : ab_G} {N k : Nat} {y : Int32} {w : ab_W} (hk : k < 2147483648) (o7 : 7 ≤ k) : ab_Ct MX7_key g [.ref 7, .int (nI k), .int y] N w (rp (some (.int (-2))) N w) := by
  refine ab_Ct.of (by decide +kernel) (Nat.le_of_ble_eq_true rfl) (by rintro _ _ _ ⟨rfl, rfl, rfl⟩; trivial) ?_
  show ab_St MX7_key g 0 0 0 [(0, .ref 7), (1, .int (nI k)), (2, .int y)] [] _ _ _
  refine r_iload_n dX7_key_0 rfl ?_
  first | refine r_if_ltN (tgt := 23) dX7_key_1 (by decide) (by omega) (fun h1 => ?_) | refine r_if_lt (tgt := 23) dX7_key_1 (by decide) (fun h1 => ?_) (fun h1 => ?_)
  refine r_iload_n dX7_key_4 rfl ?_
  refine r_bipush (v := nI 7) dX7_key_5 (by decide) ?_
  first | refine r_icmp_geN (tgt := 23) dX7_key_7 (by decide) (by omega) (by omega) (fun h7 => ?_) (fun h7 => ?_) | refine r_icmp_ge (tgt := 23) dX7_key_7 (by decide) (fun h7 => ?_) (fun h7 => ?_)
  · refine r_bipush (v := (-2)) dX7_key_23 (by decide) ?_
    refine r_ret (r := (some (.int _))) dX7_key_25 (by decide) (by decide) ?_
    exact ⟨rfl, rfl, rfl⟩
  · omega
set_option maxRecDepth 100000 in
set_option maxHeartbeats 4000000 in
theorem c_key_neg2 {g : ab_G} {N k : Nat} {y : Int32} {w : ab_W} (hk : k < 7) (hy : y < 0) : ab_Ct MX7_key g [.ref 7, .int (nI k), .int y] N w (rp (some (.int (-2))) N w) := by
  refine ab_Ct.of (by decide +kernel) (Nat.le_of_ble_eq_true rfl) (by rintro _ _ _ ⟨rfl, rfl, rfl⟩; trivial) ?_
  show ab_St MX7_key g 0 0 0 [(0, .ref 7), (1, .int (nI k)), (2, .int y)] [] _ _ _
  refine r_iload_n dX7_key_0 rfl ?_
  first | refine r_if_ltN (tgt := 23) dX7_key_1 (by decide) (by omega) (fun h1 => ?_) | refine r_if_lt (tgt := 23) dX7_key_1 (by decide) (fun h1 => ?_) (fun h1 => ?_)
  refine r_iload_n dX7_key_4 rfl ?_
  refine r_bipush (v := nI 7) dX7_key_5 (by decide) ?_
  first | refine r_icmp_geN (tgt := 23) dX7_key_7 (by decide) (by omega) (by omega) (fun h7 => ?_) (fun h7 => ?_) | refine r_icmp_ge (tgt := 23) dX7_key_7 (by decide) (fun h7 => ?_) (fun h7 => ?_)
  · omega
  · refine r_iload_n dX7_key_10 rfl ?_
    first | refine r_if_ltN (tgt := 23) dX7_key_11 (by decide) (by omega) (fun h11 => ?_) | refine r_if_lt (tgt := 23) dX7_key_11 (by decide) (fun h11 => ?_) (fun h11 => ?_)
    · refine r_bipush (v := (-2)) dX7_key_23 (by decide) ?_
      refine r_ret (r := (some (.int _))) dX7_key_25 (by decide) (by decide) ?_
      exact ⟨rfl, rfl, rfl⟩
    · exact absurd hy h11
set_option maxRecDepth 100000 in
set_option maxHeartbeats 4000000 in
theorem c_key_big2 {g : ab_G} {N k i : Nat} {half rounds c bg : Nat} {ω : Nat → Nat} {σ : hT} {d : Nat → Nat} {len R sg vf : Nat} {w : ab_W} (h : HW w half rounds c ω bg σ d len R sg vf) (hk : k < 7) (hi : i < 2147483648) (hi2 : kw half k ≤ i) : ab_Ct MX7_key g [.ref 7, .int (nI k), .int (nI i)] N w (rp (some (.int (-2))) N w) := by
  obtain ⟨o1, o2, o3, o4, ⟨n, dd, p, q, dP, dQ, qI, o5⟩, o6, ⟨o7, o8, o9⟩, o10, o11, ⟨o12, o13⟩, ⟨e, o14, o15⟩, ⟨e2, o16, o17⟩, o18⟩ := id h
  have hh := h.half
  have hkw : kw half k ≤ 80 := by unfold kw; split <;> omega
  refine ab_Ct.of (by decide +kernel) (Nat.le_of_ble_eq_true rfl) (by rintro _ _ _ ⟨rfl, rfl, rfl⟩; trivial) ?_
  show ab_St MX7_key g 0 0 0 [(0, .ref 7), (1, .int (nI k)), (2, .int (nI i))] [] _ _ _
  refine r_iload_n dX7_key_0 rfl ?_
  first | refine r_if_ltN (tgt := 23) dX7_key_1 (by decide) (by omega) (fun h1 => ?_) | refine r_if_lt (tgt := 23) dX7_key_1 (by decide) (fun h1 => ?_) (fun h1 => ?_)
  refine r_iload_n dX7_key_4 rfl ?_
  refine r_bipush (v := nI 7) dX7_key_5 (by decide) ?_
  first | refine r_icmp_geN (tgt := 23) dX7_key_7 (by decide) (by omega) (by omega) (fun h7 => ?_) (fun h7 => ?_) | refine r_icmp_ge (tgt := 23) dX7_key_7 (by decide) (fun h7 => ?_) (fun h7 => ?_)
  · omega
  · refine r_iload_n dX7_key_10 rfl ?_
    first | refine r_if_ltN (tgt := 23) dX7_key_11 (by decide) (by omega) (fun h11 => ?_) | refine r_if_lt (tgt := 23) dX7_key_11 (by decide) (fun h11 => ?_) (fun h11 => ?_)
    refine r_iload_n dX7_key_14 rfl ?_
    refine r_aload_n dX7_key_15 rfl ?_
    refine r_iload_n dX7_key_16 rfl ?_
    refine r_invV dX7_key_17 kX7_112 (c_bytesOfKeyPart o1 hk) rfl rfl (by repeat first | exact wu_eq | assumption | exact HS.o (by assumption) | exact MSG.o (by assumption) | exact DRW.o (by assumption) | (apply wu_ne; first | omega | assumption | (apply Ne.symm; assumption))) rfl rfl ⟨by decide, by decide⟩ (Nat.le_of_ble_eq_true rfl) ⟨by decide, by decide⟩ ⟨rfl, rfl⟩ ?_
    rintro _ _ _ ⟨rfl, rfl, rfl⟩
    rw [show (if k < 2 then 2 * half else half) = kw half k from rfl]
    first | refine r_icmp_ltN (tgt := 26) dX7_key_20 (by decide) (by omega) (by omega) (fun h20 => ?_) (fun h20 => ?_) | refine r_icmp_lt (tgt := 26) dX7_key_20 (by decide) (fun h20 => ?_) (fun h20 => ?_)
    · omega
    · refine r_bipush (v := (-2)) dX7_key_23 (by decide) ?_
      refine r_ret (r := (some (.int _))) dX7_key_25 (by decide) (by decide) ?_
      exact ⟨rfl, rfl, rfl⟩
set_option maxRecDepth 100000 in
set_option maxHeartbeats 4000000 in
theorem c_key_no {g : ab_G} {N k i : Nat} {half rounds c bg : Nat} {ω : Nat → Nat} {σ : hT} {d : Nat → Nat} {len R sg vf : Nat} {w : ab_W} (h : HW w half rounds c ω bg σ d len R sg vf) (hk : k < 7) (hi2 : i < kw half k) (hp : hF σ ≠ 2) : ab_Ct MX7_key g [.ref 7, .int (nI k), .int (nI i)] N w (rp (some (.int (-3))) N w) := by
  obtain ⟨o1, o2, o3, o4, ⟨n, dd, p, q, dP, dQ, qI, o5⟩, o6, ⟨o7, o8, o9⟩, o10, o11, ⟨o12, o13⟩, ⟨e, o14, o15⟩, ⟨e2, o16, o17⟩, o18⟩ := id h
  have hh := h.half
  have hkw : kw half k ≤ 80 := by unfold kw; split <;> omega
  have hm := mk1_lt (hF σ)
  refine ab_Ct.of (by decide +kernel) (Nat.le_of_ble_eq_true rfl) (by rintro _ _ _ ⟨rfl, rfl, rfl⟩; trivial) ?_
  show ab_St MX7_key g 0 0 0 [(0, .ref 7), (1, .int (nI k)), (2, .int (nI i))] [] _ _ _
  refine r_iload_n dX7_key_0 rfl ?_
  first | refine r_if_ltN (tgt := 23) dX7_key_1 (by decide) (by omega) (fun h1 => ?_) | refine r_if_lt (tgt := 23) dX7_key_1 (by decide) (fun h1 => ?_) (fun h1 => ?_)
  refine r_iload_n dX7_key_4 rfl ?_
  refine r_bipush (v := nI 7) dX7_key_5 (by decide) ?_
  first | refine r_icmp_geN (tgt := 23) dX7_key_7 (by decide) (by omega) (by omega) (fun h7 => ?_) (fun h7 => ?_) | refine r_icmp_ge (tgt := 23) dX7_key_7 (by decide) (fun h7 => ?_) (fun h7 => ?_)
  · omega
  · refine r_iload_n dX7_key_10 rfl ?_
    first | refine r_if_ltN (tgt := 23) dX7_key_11 (by decide) (by omega) (fun h11 => ?_) | refine r_if_lt (tgt := 23) dX7_key_11 (by decide) (fun h11 => ?_) (fun h11 => ?_)
    refine r_iload_n dX7_key_14 rfl ?_
    refine r_aload_n dX7_key_15 rfl ?_
    refine r_iload_n dX7_key_16 rfl ?_
    refine r_invV dX7_key_17 kX7_112 (c_bytesOfKeyPart o1 hk) rfl rfl (by repeat first | exact wu_eq | assumption | exact HS.o (by assumption) | exact MSG.o (by assumption) | exact DRW.o (by assumption) | (apply wu_ne; first | omega | assumption | (apply Ne.symm; assumption))) rfl rfl ⟨by decide, by decide⟩ (Nat.le_of_ble_eq_true rfl) ⟨by decide, by decide⟩ ⟨rfl, rfl⟩ ?_
    rintro _ _ _ ⟨rfl, rfl, rfl⟩
    rw [show (if k < 2 then 2 * half else half) = kw half k from rfl]
    first | refine r_icmp_ltN (tgt := 26) dX7_key_20 (by decide) (by omega) (by omega) (fun h20 => ?_) (fun h20 => ?_) | refine r_icmp_lt (tgt := 26) dX7_key_20 (by decide) (fun h20 => ?_) (fun h20 => ?_)
    · refine r_aload_n dX7_key_26 rfl ?_
      refine r_getf dX7_key_27 fX7_49 (by repeat first | exact wu_eq | assumption | exact HS.o (by assumption) | exact MSG.o (by assumption) | exact DRW.o (by assumption) | (apply wu_ne; first | omega | assumption | (apply Ne.symm; assumption))) (by rfl) ?_
      refine r_invV dX7_key_30 kX7_84 (c_stand o4 (mk1_lt _)) rfl rfl (by repeat first | exact wu_eq | assumption | exact HS.o (by assumption) | exact MSG.o (by assumption) | exact DRW.o (by assumption) | (apply wu_ne; first | omega | assumption | (apply Ne.symm; assumption))) rfl rfl ⟨by decide, by decide⟩ (Nat.le_of_ble_eq_true rfl) ⟨by decide, by decide⟩ ⟨rfl, rfl⟩ ?_
      rintro _ _ _ ⟨rfl, rfl, rfl⟩
      first | refine r_if_eqN (tgt := 45) dX7_key_33 (by decide) (by omega) (fun h33 => ?_) (fun h33 => ?_) | refine r_if_eq (tgt := 45) dX7_key_33 (by decide) (fun h33 => ?_) (fun h33 => ?_)
      · refine r_bipush (v := (-3)) dX7_key_45 (by decide) ?_
        refine r_ret (r := (some (.int _))) dX7_key_47 (by decide) (by decide) ?_
        exact ⟨rfl, rfl, rfl⟩
      · exact absurd (mk1_1 h33) hp
    · omega
/-- number k of the key of p and q -/
def kvp (p q k : Nat) : Nat := kv (p * q) (dE ((p - 1) * (q - 1))) p q (dE (p - 1)) (dE (q - 1)) (q ^ (p - 2) % p) k
set_option maxRecDepth 100000 in
set_option maxHeartbeats 4000000 in
theorem c_key {g : ab_G} {N k i : Nat} {half rounds c bg : Nat} {ω : Nat → Nat} {σ : hT} {d : Nat → Nat} {len R sg vf : Nat} {w : ab_W} (h : HW w half rounds c ω bg σ d len R sg vf) (hk : k < 7) (hi2 : i < kw half k) (hp : hF σ = 2) : ab_Ct MX7_key g [.ref 7, .int (nI k), .int (nI i)] N w (rp (some (.int (nI (dg 256 (kvp (max (hA σ) (hB σ)) (min (hA σ) (hB σ)) k) (kw half k - 1 - i))))) N w) := by
  obtain ⟨o1, o2, o3, o4, ⟨n, dd, p, q, dP, dQ, qI, o5⟩, o6, ⟨o7, o8, o9⟩, o10, o11, ⟨o12, o13⟩, ⟨e, o14, o15⟩, ⟨e2, o16, o17⟩, o18⟩ := id h
  have hh := h.half
  have hkw : kw half k ≤ 80 := by unfold kw; split <;> omega
  have hm := mk1_lt (hF σ)
  refine ab_Ct.of (by decide +kernel) (Nat.le_of_ble_eq_true rfl) (by rintro _ _ _ ⟨rfl, rfl, rfl⟩; trivial) ?_
  show ab_St MX7_key g 0 0 0 [(0, .ref 7), (1, .int (nI k)), (2, .int (nI i))] [] _ _ _
  refine r_iload_n dX7_key_0 rfl ?_
  first | refine r_if_ltN (tgt := 23) dX7_key_1 (by decide) (by omega) (fun h1 => ?_) | refine r_if_lt (tgt := 23) dX7_key_1 (by decide) (fun h1 => ?_) (fun h1 => ?_)
  refine r_iload_n dX7_key_4 rfl ?_
  refine r_bipush (v := nI 7) dX7_key_5 (by decide) ?_
  first | refine r_icmp_geN (tgt := 23) dX7_key_7 (by decide) (by omega) (by omega) (fun h7 => ?_) (fun h7 => ?_) | refine r_icmp_ge (tgt := 23) dX7_key_7 (by decide) (fun h7 => ?_) (fun h7 => ?_)
  · omega
  · refine r_iload_n dX7_key_10 rfl ?_
    first | refine r_if_ltN (tgt := 23) dX7_key_11 (by decide) (by omega) (fun h11 => ?_) | refine r_if_lt (tgt := 23) dX7_key_11 (by decide) (fun h11 => ?_) (fun h11 => ?_)
    refine r_iload_n dX7_key_14 rfl ?_
    refine r_aload_n dX7_key_15 rfl ?_
    refine r_iload_n dX7_key_16 rfl ?_
    refine r_invV dX7_key_17 kX7_112 (c_bytesOfKeyPart o1 hk) rfl rfl (by repeat first | exact wu_eq | assumption | exact HS.o (by assumption) | exact MSG.o (by assumption) | exact DRW.o (by assumption) | (apply wu_ne; first | omega | assumption | (apply Ne.symm; assumption))) rfl rfl ⟨by decide, by decide⟩ (Nat.le_of_ble_eq_true rfl) ⟨by decide, by decide⟩ ⟨rfl, rfl⟩ ?_
    rintro _ _ _ ⟨rfl, rfl, rfl⟩
    rw [show (if k < 2 then 2 * half else half) = kw half k from rfl]
    first | refine r_icmp_ltN (tgt := 26) dX7_key_20 (by decide) (by omega) (by omega) (fun h20 => ?_) (fun h20 => ?_) | refine r_icmp_lt (tgt := 26) dX7_key_20 (by decide) (fun h20 => ?_) (fun h20 => ?_)
    · refine r_aload_n dX7_key_26 rfl ?_
      refine r_getf dX7_key_27 fX7_49 (by repeat first | exact wu_eq | assumption | exact HS.o (by assumption) | exact MSG.o (by assumption) | exact DRW.o (by assumption) | (apply wu_ne; first | omega | assumption | (apply Ne.symm; assumption))) (by rfl) ?_
      refine r_invV dX7_key_30 kX7_84 (c_stand o4 (mk1_lt _)) rfl rfl (by repeat first | exact wu_eq | assumption | exact HS.o (by assumption) | exact MSG.o (by assumption) | exact DRW.o (by assumption) | (apply wu_ne; first | omega | assumption | (apply Ne.symm; assumption))) rfl rfl ⟨by decide, by decide⟩ (Nat.le_of_ble_eq_true rfl) ⟨by decide, by decide⟩ ⟨rfl, rfl⟩ ?_
      rintro _ _ _ ⟨rfl, rfl, rfl⟩
      first | refine r_if_eqN (tgt := 45) dX7_key_33 (by decide) (by omega) (fun h33 => ?_) (fun h33 => ?_) | refine r_if_eq (tgt := 45) dX7_key_33 (by decide) (fun h33 => ?_) (fun h33 => ?_)
      · exact absurd hp (mk1_0 h33)
      · refine r_aload_n dX7_key_36 rfl ?_
        refine r_iload_n dX7_key_37 rfl ?_
        refine r_iload_n dX7_key_38 rfl ?_
        refine r_invV dX7_key_39 kX7_116 (c_byteOfKeyPart (half := half) o1 o4 (o10 hp).1 hk (by omega) hh.2.1 hi2) rfl rfl (by repeat first | exact wu_eq | assumption | exact HS.o (by assumption) | exact MSG.o (by assumption) | exact DRW.o (by assumption) | (apply wu_ne; first | omega | assumption | (apply Ne.symm; assumption))) rfl rfl ⟨by decide, by decide⟩ (Nat.le_of_ble_eq_true rfl) ⟨by decide, by decide⟩ ⟨rfl, rfl⟩ ?_
        rintro _ _ _ ⟨rfl, rfl, rfl⟩
        refine r_goto (tgt := 47) dX7_key_42 (by decide) ?_
        refine r_ret (r := (some (.int _))) dX7_key_47 (by decide) (by decide) ?_
        exact ⟨rfl, rfl, rfl⟩
    · omega
