/-! SignHouse$Draw, SignHouse$Hunt: the makers and the small methods -/
set_option maxRecDepth 100000 in
set_option maxHeartbeats 4000000 in
theorem c_Draw_init {g : ab_G} {D : Nat} {w : ab_W} (hD : w D = aO 0 [.null, .null, .int 0, .int 0, .int 0]) (h7 : 7 ≤ D) : ab_Ct MX0_init g [.ref D] (D + 1) w (fun r N' w' => DRW w' D 0 (fun _ => 0) 0 ∧ (∀ k, k < D → w' k = w k) ∧ r = none ∧ D + 5 = N') := by
  refine ab_Ct.of (by decide +kernel) (Nat.le_of_ble_eq_true rfl) (by rintro _ _ _ ⟨-, -, rfl, -⟩; trivial) ?_
  show ab_St MX0_init g 0 0 0 [(0, .ref D)] [] _ _ _
  refine r_aload_n dX0_init_0 rfl ?_
  refine r_obj dX0_init_1 obX0 obI obC (by decide) (by decide) ?_
  refine r_aload_n dX0_init_4 rfl ?_
  refine r_bipush (v := nI 68) dX0_init_5 (by decide) ?_
  refine r_newaB dX0_init_7 rfl (by omega) arB (by decide) (by first | decide | (show _ ≤ 142; omega)) ?_
  refine r_putF dX0_init_9 fX0_11 (by repeat first | exact wu_eq | assumption | (apply wu_ne; first | omega | assumption | (apply Ne.symm; assumption))) rfl rfl rfl (by exact Nat.le_of_ble_eq_true rfl) (by rfl) (by rfl) ?_
  refine r_aload_n dX0_init_12 rfl ?_
  refine r_new (fs := [.null, .null]) dX0_init_13 (ci := 5) rfl iwX6 tyX6_ok nX0_15 itX6 iiX6 (by decide) rfl (by decide) (by decide) ?_
  refine r_dup dX0_init_16 rfl ?_
  refine r_invN 1 dX0_init_17 kX0_17 rfl (c_Sha_init (s := D + 2) (by repeat first | exact wu_eq | assumption | (apply wu_ne; first | omega | assumption | (apply Ne.symm; assumption)))) rfl rfl ⟨by decide, by decide⟩ (Nat.le_of_ble_eq_true rfl) ⟨by decide, by decide⟩ ⟨rfl, rfl⟩ ?_
  rintro _ _ _ ⟨rfl, rfl, rfl⟩
  refine r_putF dX0_init_20 fX0_18 (by repeat first | exact wu_eq | assumption | (apply wu_ne; first | omega | assumption | (apply Ne.symm; assumption))) rfl rfl rfl (by exact Nat.le_of_ble_eq_true rfl) (by rfl) (by rfl) ?_
  refine r_ret (r := none) dX0_init_23 (by decide) (by first | decide | (show _ ≤ 142; omega)) ?_
  refine ⟨⟨fun _ => 0, fun _ => 0, fun _ => 0, ?_, ?_, ?_, ?_, ?_, fun _ => (by decide : 0 < 256), fun i hi => by omega, fun _ _ => rfl, fun h => absurd rfl h, by decide, h7⟩, ?_, rfl, rfl⟩
  · exact wu_eq
  · rw [show byt (fun _ => 0) = fun _ => 0 from rfl]; (repeat first | exact wu_eq | assumption | (apply wu_ne; first | omega | assumption | (apply Ne.symm; assumption)))
  · (repeat first | exact wu_eq | assumption | (apply wu_ne; first | omega | assumption | (apply Ne.symm; assumption)))
  · (repeat first | exact wu_eq | assumption | (apply wu_ne; first | omega | assumption | (apply Ne.symm; assumption)))
  · (repeat first | exact wu_eq | assumption | (apply wu_ne; first | omega | assumption | (apply Ne.symm; assumption)))
  · intro k hk
    repeat (first | rfl | (apply wu_ne; omega))
set_option maxRecDepth 100000 in
set_option maxHeartbeats 4000000 in
theorem c_Hunt_clear {g : ab_G} {N half rounds W bg pf ex un fi se : Nat} {w : ab_W} (h : HS w half rounds W bg pf ex un fi se) : ab_Ct MX1_clear g [.ref 13] N w (fun r N' w' => HS w' half rounds W 0 0 0 0 fi se ∧ (∀ k, k ≠ 13 → w' k = w k) ∧ r = none ∧ N = N') := by
  obtain ⟨a1, -⟩ := id h
  refine ab_Ct.of (by decide +kernel) (Nat.le_of_ble_eq_true rfl) (by rintro _ _ _ ⟨-, -, rfl, -⟩; trivial) ?_
  show ab_St MX1_clear g 0 0 0 [(0, .ref 13)] [] _ _ _
  refine r_aload_n dX1_clear_0 rfl ?_
  refine r_iconst (v := nI 0) dX1_clear_1 (by decide) ?_
  refine r_putf dX1_clear_2 fX1_54 (by repeat first | exact wu_eq | assumption | (apply wu_ne; first | omega | assumption | (apply Ne.symm; assumption))) rfl (by exact Nat.le_of_ble_eq_true rfl) (by rfl) (by rfl) ?_
  refine r_aload_n dX1_clear_5 rfl ?_
  refine r_iconst (v := nI 0) dX1_clear_6 (by decide) ?_
  refine r_putf dX1_clear_7 fX1_58 (by repeat first | exact wu_eq | assumption | (apply wu_ne; first | omega | assumption | (apply Ne.symm; assumption))) rfl (by exact Nat.le_of_ble_eq_true rfl) (by rfl) (by rfl) ?_
  refine r_aload_n dX1_clear_10 rfl ?_
  refine r_iconst (v := nI 0) dX1_clear_11 (by decide) ?_
  refine r_putf dX1_clear_12 fX1_61 (by repeat first | exact wu_eq | assumption | (apply wu_ne; first | omega | assumption | (apply Ne.symm; assumption))) rfl (by exact Nat.le_of_ble_eq_true rfl) (by rfl) (by rfl) ?_
  refine r_aload_n dX1_clear_15 rfl ?_
  refine r_iconst (v := nI 0) dX1_clear_16 (by decide) ?_
  refine r_putf dX1_clear_17 fX1_64 (by repeat first | exact wu_eq | assumption | (apply wu_ne; first | omega | assumption | (apply Ne.symm; assumption))) rfl (by exact Nat.le_of_ble_eq_true rfl) (by rfl) (by rfl) ?_
  refine r_ret (r := none) dX1_clear_20 (by decide) (by decide) ?_
  rw [wu_wu, wu_wu, wu_wu]
  exact ⟨h.obj (by decide) (by decide), fun k hk => wu_ne hk rfl, rfl, rfl⟩
set_option maxRecDepth 100000 in
set_option maxHeartbeats 4000000 in
theorem c_begin {g : ab_G} {N half rounds W bg pf ex un fi se : Nat} {w : ab_W} (h : HS w half rounds W bg pf ex un fi se) : ab_Ct MX1_begin g [.ref 13] N w (fun r N' w' => HS w' half rounds W 1 pf ex un fi se ∧ (∀ k, k ≠ 13 → w' k = w k) ∧ r = none ∧ N = N') := by
  obtain ⟨a1, a2, a3, a4, a6, a7, a8, a9, a10, a11, a12, a13, a14, a15⟩ := id h
  refine ab_Ct.of (by decide +kernel) (Nat.le_of_ble_eq_true rfl) (by rintro _ _ _ ⟨-, -, rfl, -⟩; trivial) ?_
  show ab_St MX1_begin g 0 0 0 [(0, .ref 13)] [] _ _ _
  refine r_aload_n dX1_begin_0 rfl ?_
  refine r_iconst (v := nI 1) dX1_begin_1 (by decide) ?_
  refine r_putf dX1_begin_2 fX1_54 (by repeat first | exact wu_eq | assumption | (apply wu_ne; first | omega | assumption | (apply Ne.symm; assumption))) rfl (by exact Nat.le_of_ble_eq_true rfl) (by rfl) (by rfl) ?_
  refine r_ret (r := none) dX1_begin_5 (by decide) (by decide) ?_
  exact ⟨h.obj a14 (by decide), fun k hk => wu_ne hk rfl, rfl, rfl⟩
set_option maxRecDepth 100000 in
set_option maxHeartbeats 4000000 in
theorem c_hasBegun {g : ab_G} {N half rounds W bg pf ex un fi se : Nat} {w : ab_W} (h : HS w half rounds W bg pf ex un fi se) : ab_Ct MX1_hasBegun g [.ref 13] N w (rp (some (.int (nI bg))) N w) := by
  obtain ⟨a1, a2, a3, a4, a6, a7, a8, a9, a10, a11, a12, a13, a14, a15⟩ := id h
  refine ab_Ct.of (by decide +kernel) (Nat.le_of_ble_eq_true rfl) (by rintro _ _ _ ⟨rfl, -, -⟩; exact nI_zk a15) ?_
  show ab_St MX1_hasBegun g 0 0 0 [(0, .ref 13)] [] _ _ _
  refine r_aload_n dX1_hasBegun_0 rfl ?_
  refine r_getf dX1_hasBegun_1 fX1_54 (by repeat first | exact wu_eq | assumption | (apply wu_ne; first | omega | assumption | (apply Ne.symm; assumption))) (by rfl) ?_
  refine r_ret (r := (some (.int _))) dX1_hasBegun_4 (by decide) (by decide) ?_
  exact ⟨rfl, rfl, rfl⟩
set_option maxRecDepth 100000 in
set_option maxHeartbeats 4000000 in
theorem c_hasBothPrimes {g : ab_G} {N half rounds W bg pf ex un fi se : Nat} {w : ab_W} (h : HS w half rounds W bg pf ex un fi se) : ab_Ct MX1_hasBothPrimes g [.ref 13] N w (rp (some (.int (nI (if pf = 2 then 1 else 0)))) N w) := by
  obtain ⟨a1, a2, a3, a4, a6, a7, a8, a9, a10, a11, a12, a13, a14, a15⟩ := id h
  refine ab_Ct.of (by decide +kernel) (Nat.le_of_ble_eq_true rfl) (by rintro _ _ _ ⟨rfl, -, -⟩; exact nI_zk (by split <;> decide)) ?_
  show ab_St MX1_hasBothPrimes g 0 0 0 [(0, .ref 13)] [] _ _ _
  refine r_aload_n dX1_hasBothPrimes_0 rfl ?_
  refine r_getf dX1_hasBothPrimes_1 fX1_58 (by repeat first | exact wu_eq | assumption | (apply wu_ne; first | omega | assumption | (apply Ne.symm; assumption))) (by rfl) ?_
  refine r_iconst (v := nI 2) dX1_hasBothPrimes_4 (by decide) ?_
  first | refine r_icmp_neN (tgt := 12) dX1_hasBothPrimes_5 (by decide) (by omega) (by omega) (fun h5 => ?_) (fun h5 => ?_) | refine r_icmp_ne (tgt := 12) dX1_hasBothPrimes_5 (by decide) (fun h5 => ?_) (fun h5 => ?_)
  · refine r_iconst (v := nI 0) dX1_hasBothPrimes_12 (by decide) ?_
    refine r_ret (r := (some (.int _))) dX1_hasBothPrimes_13 (by decide) (by decide) ?_
    rw [if_neg (by omega)]
    exact ⟨rfl, rfl, rfl⟩
  · refine r_iconst (v := nI 1) dX1_hasBothPrimes_8 (by decide) ?_
    refine r_goto (tgt := 13) dX1_hasBothPrimes_9 (by decide) ?_
    refine r_ret (r := (some (.int _))) dX1_hasBothPrimes_13 (by decide) (by decide) ?_
    rw [if_pos (by omega)]
    exact ⟨rfl, rfl, rfl⟩
set_option maxRecDepth 100000 in
set_option maxHeartbeats 4000000 in
theorem c_firstPrime {g : ab_G} {N half rounds W bg pf ex un fi se : Nat} {w : ab_W} (h : HS w half rounds W bg pf ex un fi se) : ab_Ct MX1_firstPrime g [.ref 13] N w (rp (some (.ref 26)) N w) := by
  obtain ⟨a1, -⟩ := id h
  refine ab_Ct.of (by decide +kernel) (Nat.le_of_ble_eq_true rfl) (by rintro _ _ _ ⟨rfl, rfl, rfl⟩; trivial) ?_
  show ab_St MX1_firstPrime g 0 0 0 [(0, .ref 13)] [] _ _ _
  refine r_aload_n dX1_firstPrime_0 rfl ?_
  refine r_getf dX1_firstPrime_1 fX1_48 (by repeat first | exact wu_eq | assumption | (apply wu_ne; first | omega | assumption | (apply Ne.symm; assumption))) (by rfl) ?_
  refine r_ret (r := (some (.ref _))) dX1_firstPrime_4 (by decide) (by decide) ?_
  exact ⟨rfl, rfl, rfl⟩
set_option maxRecDepth 100000 in
set_option maxHeartbeats 4000000 in
theorem c_secondPrime {g : ab_G} {N half rounds W bg pf ex un fi se : Nat} {w : ab_W} (h : HS w half rounds W bg pf ex un fi se) : ab_Ct MX1_secondPrime g [.ref 13] N w (rp (some (.ref 27)) N w) := by
  obtain ⟨a1, -⟩ := id h
  refine ab_Ct.of (by decide +kernel) (Nat.le_of_ble_eq_true rfl) (by rintro _ _ _ ⟨rfl, rfl, rfl⟩; trivial) ?_
  show ab_St MX1_secondPrime g 0 0 0 [(0, .ref 13)] [] _ _ _
  refine r_aload_n dX1_secondPrime_0 rfl ?_
  refine r_getf dX1_secondPrime_1 fX1_51 (by repeat first | exact wu_eq | assumption | (apply wu_ne; first | omega | assumption | (apply Ne.symm; assumption))) (by rfl) ?_
  refine r_ret (r := (some (.ref _))) dX1_secondPrime_4 (by decide) (by decide) ?_
  exact ⟨rfl, rfl, rfl⟩
set_option maxRecDepth 100000 in
set_option maxHeartbeats 4000000 in
theorem c_examinedCount {g : ab_G} {N half rounds W bg pf ex un fi se : Nat} {w : ab_W} (h : HS w half rounds W bg pf ex un fi se) : ab_Ct MX1_examinedCount g [.ref 13] N w (rp (some (.int (nI ex))) N w) := by
  obtain ⟨a1, -⟩ := id h
  refine ab_Ct.of (by decide +kernel) (Nat.le_of_ble_eq_true rfl) (by rintro _ _ _ ⟨rfl, rfl, rfl⟩; trivial) ?_
  show ab_St MX1_examinedCount g 0 0 0 [(0, .ref 13)] [] _ _ _
  refine r_aload_n dX1_examinedCount_0 rfl ?_
  refine r_getf dX1_examinedCount_1 fX1_61 (by repeat first | exact wu_eq | assumption | (apply wu_ne; first | omega | assumption | (apply Ne.symm; assumption))) (by rfl) ?_
  refine r_ret (r := (some (.int _))) dX1_examinedCount_4 (by decide) (by decide) ?_
  exact ⟨rfl, rfl, rfl⟩
set_option maxRecDepth 100000 in
set_option maxHeartbeats 4000000 in
theorem c_undividedCount {g : ab_G} {N half rounds W bg pf ex un fi se : Nat} {w : ab_W} (h : HS w half rounds W bg pf ex un fi se) : ab_Ct MX1_undividedCount g [.ref 13] N w (rp (some (.int (nI un))) N w) := by
  obtain ⟨a1, -⟩ := id h
  refine ab_Ct.of (by decide +kernel) (Nat.le_of_ble_eq_true rfl) (by rintro _ _ _ ⟨rfl, rfl, rfl⟩; trivial) ?_
  show ab_St MX1_undividedCount g 0 0 0 [(0, .ref 13)] [] _ _ _
  refine r_aload_n dX1_undividedCount_0 rfl ?_
  refine r_getf dX1_undividedCount_1 fX1_64 (by repeat first | exact wu_eq | assumption | (apply wu_ne; first | omega | assumption | (apply Ne.symm; assumption))) (by rfl) ?_
  refine r_ret (r := (some (.int _))) dX1_undividedCount_4 (by decide) (by decide) ?_
  exact ⟨rfl, rfl, rfl⟩
