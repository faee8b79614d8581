/-! SignHouseModel: seed, forget, key, count, feed, cut -/
set_option maxRecDepth 100000 in
set_option maxHeartbeats 4000000 in
theorem c_mseed_no {g : ab_G} {N half rounds c : Nat} {ω d : Nat → Nat} {σ : hT} {len R sg vf : Nat} {x : Int32} {w : ab_W} (h : MH w half rounds c ω 1 σ d len R sg vf) : ab_Ct MX8_seed g [.ref 74, .int x] N w (rp (some (.int (-3))) N w) := by
  obtain ⟨bu, v, m1, -⟩ := id h
  refine ab_Ct.of (by decide +kernel) (Nat.le_of_ble_eq_true rfl) (by rintro _ _ _ ⟨rfl, rfl, rfl⟩; trivial) ?_
  show ab_St MX8_seed g 0 0 0 [(0, .ref 74), (1, .int x)] [] _ _ _
  refine r_aload_n dX8_seed_0 rfl ?_
  refine r_getf dX8_seed_1 fX8_169 (by repeat first | exact wu_eq | assumption | (apply wu_ne; first | omega | assumption | (apply Ne.symm; assumption))) (by rfl) ?_
  first | refine r_if_eqN (tgt := 10) dX8_seed_4 (by decide) (by omega) (fun h4 => ?_) (fun h4 => ?_) | refine r_if_eq (tgt := 10) dX8_seed_4 (by decide) (fun h4 => ?_) (fun h4 => ?_)
  · omega
  · refine r_bipush (v := (-3)) dX8_seed_7 (by decide) ?_
    refine r_ret (r := (some (.int _))) dX8_seed_9 (by decide) (by decide) ?_
    exact ⟨rfl, rfl, rfl⟩
set_option maxRecDepth 100000 in
set_option maxHeartbeats 4000000 in
theorem c_mseed_full {g : ab_G} {N half rounds c : Nat} {ω d : Nat → Nat} {σ : hT} {len R sg vf : Nat} {x : Int32} {w : ab_W} (h : MH w half rounds c ω 0 σ d len R sg vf) (hc : c = 16) : ab_Ct MX8_seed g [.ref 74, .int x] N w (rp (some (.int (-4))) N w) := by
  obtain ⟨bu, v, m1, -⟩ := id h
  refine ab_Ct.of (by decide +kernel) (Nat.le_of_ble_eq_true rfl) (by rintro _ _ _ ⟨rfl, rfl, rfl⟩; trivial) ?_
  show ab_St MX8_seed g 0 0 0 [(0, .ref 74), (1, .int x)] [] _ _ _
  refine r_aload_n dX8_seed_0 rfl ?_
  refine r_getf dX8_seed_1 fX8_169 (by repeat first | exact wu_eq | assumption | (apply wu_ne; first | omega | assumption | (apply Ne.symm; assumption))) (by rfl) ?_
  first | refine r_if_eqN (tgt := 10) dX8_seed_4 (by decide) (by omega) (fun h4 => ?_) (fun h4 => ?_) | refine r_if_eq (tgt := 10) dX8_seed_4 (by decide) (fun h4 => ?_) (fun h4 => ?_)
  · refine r_aload_n dX8_seed_10 rfl ?_
    refine r_getf dX8_seed_11 fX8_173 (by repeat first | exact wu_eq | assumption | (apply wu_ne; first | omega | assumption | (apply Ne.symm; assumption))) (by rfl) ?_
    refine r_bipush (v := nI 16) dX8_seed_14 (by decide) ?_
    first | refine r_icmp_neN (tgt := 22) dX8_seed_16 (by decide) (by omega) (by omega) (fun h16 => ?_) (fun h16 => ?_) | refine r_icmp_ne (tgt := 22) dX8_seed_16 (by decide) (fun h16 => ?_) (fun h16 => ?_)
    · omega
    · refine r_bipush (v := (-4)) dX8_seed_19 (by decide) ?_
      refine r_ret (r := (some (.int _))) dX8_seed_21 (by decide) (by decide) ?_
      exact ⟨rfl, rfl, rfl⟩
  · omega
set_option maxRecDepth 100000 in
set_option maxHeartbeats 4000000 in
theorem c_mseed {g : ab_G} {N half rounds c u : Nat} {ω d : Nat → Nat} {σ : hT} {len R sg vf : Nat} {w : ab_W} (h : MH w half rounds c ω 0 σ d len R sg vf) (hc : c < 16) (hu : u < 4294967296) : ab_Ct MX8_seed g [.ref 74, .int (nI u)] N w (fun r N' w' => MH w' half rounds (c + 1) (fun k => if k = c then u else ω k) 0 σ d len R sg vf ∧ (∀ k, k < 74 → w' k = w k) ∧ r = some (.int (nI (c + 1))) ∧ N = N') := by
  obtain ⟨bu, v, m1, m2, m3, m4, m5, m6, m7, m8, m9, m10, m11⟩ := id h
  obtain ⟨⟨so, e1, e2⟩, e3, e4, e5, e6, e7, e8⟩ := m4
  have hup : va_up (bI so) c (nI u) = bI (fun k => if k = c then u else so k) := by
    funext k
    show (if k = c then nI u else nI (so k)) = nI (if k = c then u else so k)
    split <;> rfl
  refine ab_Ct.of (by decide +kernel) (Nat.le_of_ble_eq_true rfl) (by rintro _ _ _ ⟨-, -, rfl, -⟩; trivial) ?_
  show ab_St MX8_seed g 0 0 0 [(0, .ref 74), (1, .int (nI u))] [] _ _ _
  refine r_aload_n dX8_seed_0 rfl ?_
  refine r_getf dX8_seed_1 fX8_169 (by repeat first | exact wu_eq | assumption | (apply wu_ne; first | omega | assumption | (apply Ne.symm; assumption))) (by rfl) ?_
  first | refine r_if_eqN (tgt := 10) dX8_seed_4 (by decide) (by omega) (fun h4 => ?_) (fun h4 => ?_) | refine r_if_eq (tgt := 10) dX8_seed_4 (by decide) (fun h4 => ?_) (fun h4 => ?_)
  · refine r_aload_n dX8_seed_10 rfl ?_
    refine r_getf dX8_seed_11 fX8_173 (by repeat first | exact wu_eq | assumption | (apply wu_ne; first | omega | assumption | (apply Ne.symm; assumption))) (by rfl) ?_
    refine r_bipush (v := nI 16) dX8_seed_14 (by decide) ?_
    first | refine r_icmp_neN (tgt := 22) dX8_seed_16 (by decide) (by omega) (by omega) (fun h16 => ?_) (fun h16 => ?_) | refine r_icmp_ne (tgt := 22) dX8_seed_16 (by decide) (fun h16 => ?_) (fun h16 => ?_)
    · refine r_aload_n dX8_seed_22 rfl ?_
      refine r_getf dX8_seed_23 fX8_100 (by repeat first | exact wu_eq | assumption | (apply wu_ne; first | omega | assumption | (apply Ne.symm; assumption))) (by rfl) ?_
      refine r_aload_n dX8_seed_26 rfl ?_
      refine r_getf dX8_seed_27 fX8_173 (by repeat first | exact wu_eq | assumption | (apply wu_ne; first | omega | assumption | (apply Ne.symm; assumption))) (by rfl) ?_
      refine r_iload_n dX8_seed_30 rfl ?_
      refine r_iastore dX8_seed_31 (by repeat first | exact wu_eq | assumption | (apply wu_ne; first | omega | assumption | (apply Ne.symm; assumption))) _ rfl (by omega) (by omega) ?_
      refine r_aload_n dX8_seed_32 rfl ?_
      refine r_dup dX8_seed_33 rfl ?_
      refine r_getf dX8_seed_34 fX8_173 (by repeat first | exact wu_eq | assumption | (apply wu_ne; first | omega | assumption | (apply Ne.symm; assumption))) (by rfl) ?_
      refine r_iconst (v := nI 1) dX8_seed_37 (by decide) ?_
      first | refine r_iaddN dX8_seed_38 ?_ | refine r_iadd dX8_seed_38 ?_
      refine r_putf dX8_seed_39 fX8_173 (by repeat first | exact wu_eq | assumption | (apply wu_ne; first | omega | assumption | (apply Ne.symm; assumption))) rfl (by exact Nat.le_of_ble_eq_true rfl) (by rfl) (by rfl) ?_
      refine r_aload_n dX8_seed_42 rfl ?_
      refine r_getf dX8_seed_43 fX8_173 (by repeat first | exact wu_eq | assumption | (apply wu_ne; first | omega | assumption | (apply Ne.symm; assumption))) (by rfl) ?_
      refine r_ret (r := (some (.int _))) dX8_seed_46 (by decide) (by decide) ?_
      rw [hup]
      refine ⟨⟨bu, v, wu_eq, wu_ne (by decide) (wu_ne (by decide) m2), m3.keep fun k a b => wu_ne (by omega) (wu_ne (by omega) rfl), ⟨⟨_, wu_ne (by decide) wu_eq, ?_⟩, wu_ne (by decide) (wu_ne (by decide) e3), wu_ne (by decide) (wu_ne (by decide) e4), wu_ne (by decide) (wu_ne (by decide) e5), e6, wu_ne (by decide) (wu_ne (by decide) e7), by omega⟩, m5, m6, m7, m8, m9, m10, m11⟩, fun k a => wu_ne (by omega) (wu_ne (by omega) rfl), rfl, rfl⟩
      intro k hk
      try dsimp only
      by_cases q : k = c
      · rw [if_pos q, if_pos q]
        exact ⟨rfl, hu⟩
      · rw [if_neg q, if_neg q]
        exact e2 k (by omega)
    · omega
  · omega
set_option maxRecDepth 100000 in
set_option maxHeartbeats 4000000 in
theorem c_mforget {g : ab_G} {N : Nat} {half rounds c bg : Nat} {ω d : Nat → Nat} {σ : hT} {len R sg vf : Nat} {w : ab_W} (h : MH w half rounds c ω bg σ d len R sg vf) : ab_Ct MX8_forget g [.ref 74] N w (fun r N' w' => MH w' half rounds 0 (fun _ => 0) 0 (0, 0, 0, 0, hA σ, hB σ) d len R sg vf ∧ (∀ k, k < 74 → w' k = w k) ∧ r = some (.int (nI (hX σ))) ∧ N = N') := by
  obtain ⟨bu, v, m1, m2, m3, m4, m5, m6, m7, m8, m9, m10, m11⟩ := id h
  obtain ⟨⟨so, e1, e2⟩, e3, e4, e5, e6, e7, e8⟩ := m4
  refine ab_Ct.of (by decide +kernel) (Nat.le_of_ble_eq_true rfl) (by rintro _ _ _ ⟨-, -, rfl, -⟩; trivial) ?_
  show ab_St MX8_forget g 0 0 0 [(0, .ref 74)] [] _ _ _
  refine r_aload_n dX8_forget_0 rfl ?_
  refine r_getf dX8_forget_1 fX8_248 (by repeat first | exact wu_eq | assumption | (apply wu_ne; first | omega | assumption | (apply Ne.symm; assumption))) (by rfl) ?_
  refine r_istore_n (i := 1) (L0 := [(0, _)]) dX8_forget_4 rfl (by decide) rfl ?_
  refine r_aload_n dX8_forget_5 rfl ?_
  refine r_iconst (v := nI 0) dX8_forget_6 (by decide) ?_
  refine r_putf dX8_forget_7 fX8_173 (by repeat first | exact wu_eq | assumption | (apply wu_ne; first | omega | assumption | (apply Ne.symm; assumption))) rfl (by exact Nat.le_of_ble_eq_true rfl) (by rfl) (by rfl) ?_
  refine r_aload_n dX8_forget_10 rfl ?_
  refine r_iconst (v := nI 0) dX8_forget_11 (by decide) ?_
  refine r_putf dX8_forget_12 fX8_169 (by repeat first | exact wu_eq | assumption | (apply wu_ne; first | omega | assumption | (apply Ne.symm; assumption))) rfl (by exact Nat.le_of_ble_eq_true rfl) (by rfl) (by rfl) ?_
  refine r_aload_n dX8_forget_15 rfl ?_
  refine r_iconst (v := nI 0) dX8_forget_16 (by decide) ?_
  refine r_putf dX8_forget_17 fX8_237 (by repeat first | exact wu_eq | assumption | (apply wu_ne; first | omega | assumption | (apply Ne.symm; assumption))) rfl (by exact Nat.le_of_ble_eq_true rfl) (by rfl) (by rfl) ?_
  refine r_aload_n dX8_forget_20 rfl ?_
  refine r_iconst (v := nI 0) dX8_forget_21 (by decide) ?_
  refine r_putf dX8_forget_22 fX8_220 (by repeat first | exact wu_eq | assumption | (apply wu_ne; first | omega | assumption | (apply Ne.symm; assumption))) rfl (by exact Nat.le_of_ble_eq_true rfl) (by rfl) (by rfl) ?_
  refine r_aload_n dX8_forget_25 rfl ?_
  refine r_iconst (v := nI 0) dX8_forget_26 (by decide) ?_
  refine r_putf dX8_forget_27 fX8_248 (by repeat first | exact wu_eq | assumption | (apply wu_ne; first | omega | assumption | (apply Ne.symm; assumption))) rfl (by exact Nat.le_of_ble_eq_true rfl) (by rfl) (by rfl) ?_
  refine r_aload_n dX8_forget_30 rfl ?_
  refine r_iconst (v := nI 0) dX8_forget_31 (by decide) ?_
  refine r_putf dX8_forget_32 fX8_216 (by repeat first | exact wu_eq | assumption | (apply wu_ne; first | omega | assumption | (apply Ne.symm; assumption))) rfl (by exact Nat.le_of_ble_eq_true rfl) (by rfl) (by rfl) ?_
  refine r_aload_n dX8_forget_35 rfl ?_
  refine r_iconst (v := nI 0) dX8_forget_36 (by decide) ?_
  refine r_putf dX8_forget_37 fX8_179 (by repeat first | exact wu_eq | assumption | (apply wu_ne; first | omega | assumption | (apply Ne.symm; assumption))) rfl (by exact Nat.le_of_ble_eq_true rfl) (by rfl) (by rfl) ?_
  refine r_aload_n dX8_forget_40 rfl ?_
  refine r_iconst (v := nI 0) dX8_forget_41 (by decide) ?_
  refine r_putf dX8_forget_42 fX8_185 (by repeat first | exact wu_eq | assumption | (apply wu_ne; first | omega | assumption | (apply Ne.symm; assumption))) rfl (by exact Nat.le_of_ble_eq_true rfl) (by rfl) (by rfl) ?_
  repeat rw [wu_wu]
  refine r_toW (w' := wu w 74 (mdO half rounds bu 0 0 0 0 0 0 0 0 sg vf len)) rfl ?_
  refine r_iload_n dX8_forget_45 rfl ?_
  refine r_ret (r := (some (.int _))) dX8_forget_46 (by decide) (by decide) ?_
  have e0 : mdO half rounds bu 0 0 0 0 0 0 0 0 sg vf len = mdO half rounds bu 0 0 (mk1 0) (mkp 0) 0 0 (0 / 32) (0 % 32) sg vf len := by
    rw [show mk1 0 = 0 by decide, show mkp 0 = 0 by decide, show 0 / 32 = 0 by decide, show 0 % 32 = 0 by decide]
  refine ⟨⟨bu, v, wu_eq.trans e0, wu_ne (by decide) m2, m3.keep fun k a b => wu_ne (by omega) rfl, ⟨⟨so, wu_ne (by decide) e1, fun k q => by omega⟩, wu_ne (by decide) e3, wu_ne (by decide) e4, wu_ne (by decide) e5, e6, wu_ne (by decide) e7, by decide⟩, m5, fun q => absurd (show (0 : Nat) = 1 from q) (by decide), fun q => absurd (show (0 : Nat) = 2 from q) (by decide), m8, m9, m10, m11⟩, fun k a => wu_ne (by omega) rfl, rfl, rfl⟩
set_option maxRecDepth 100000 in
set_option maxHeartbeats 4000000 in
theorem c_sizeOf {g : ab_G} {N k : Nat} {half rounds c bg : Nat} {ω d : Nat → Nat} {σ : hT} {len R sg vf : Nat} {w : ab_W} (h : MH w half rounds c ω bg σ d len R sg vf) (hk : k < 7) : ab_Ct MX8_sizeOf g [.ref 74, .int (nI k)] N w (rp (some (.int (nI (kw half k)))) N w) := by
  obtain ⟨bu, v, m1, -⟩ := id h
  refine ab_Ct.of (by decide +kernel) (Nat.le_of_ble_eq_true rfl) (by rintro _ _ _ ⟨rfl, rfl, rfl⟩; trivial) ?_
  show ab_St MX8_sizeOf g 0 0 0 [(0, .ref 74), (1, .int (nI k))] [] _ _ _
  refine r_iload_n dX8_sizeOf_0 rfl ?_
  refine r_iconst (v := nI 2) dX8_sizeOf_1 (by decide) ?_
  first | refine r_icmp_geN (tgt := 14) dX8_sizeOf_2 (by decide) (by omega) (by omega) (fun h2 => ?_) (fun h2 => ?_) | refine r_icmp_ge (tgt := 14) dX8_sizeOf_2 (by decide) (fun h2 => ?_) (fun h2 => ?_)
  · refine r_aload_n dX8_sizeOf_14 rfl ?_
    refine r_getf dX8_sizeOf_15 fX8_109 (by repeat first | exact wu_eq | assumption | (apply wu_ne; first | omega | assumption | (apply Ne.symm; assumption))) (by rfl) ?_
    refine r_ret (r := (some (.int _))) dX8_sizeOf_18 (by decide) (by decide) ?_
    unfold kw
    rw [if_neg (by omega)]
    exact ⟨rfl, rfl, rfl⟩
  · refine r_iconst (v := nI 2) dX8_sizeOf_5 (by decide) ?_
    refine r_aload_n dX8_sizeOf_6 rfl ?_
    refine r_getf dX8_sizeOf_7 fX8_109 (by repeat first | exact wu_eq | assumption | (apply wu_ne; first | omega | assumption | (apply Ne.symm; assumption))) (by rfl) ?_
    first | refine r_imulN dX8_sizeOf_10 ?_ | refine r_imul dX8_sizeOf_10 ?_
    refine r_goto (tgt := 18) dX8_sizeOf_11 (by decide) ?_
    refine r_ret (r := (some (.int _))) dX8_sizeOf_18 (by decide) (by decide) ?_
    unfold kw
    rw [if_pos (by omega)]
    exact ⟨rfl, rfl, rfl⟩
set_option maxRecDepth 100000 in
set_option maxHeartbeats 4000000 in
theorem c_mkey_neg {g : ab_G} {N : Nat} {fs : List Value} {x y : Int32} {w : ab_W} (h : w 74 = mdX fs) (hx : x < 0) : ab_Ct MX8_key g [.ref 74, .int x, .int y] N w (rp (some (.int (-2))) N w) := by
  refine ab_Ct.of (by decide +kernel) (Nat.le_of_ble_eq_true rfl) (by rintro _ _ _ ⟨rfl, rfl, rfl⟩; trivial) ?_
  show ab_St MX8_key g 0 0 0 [(0, .ref 74), (1, .int x), (2, .int y)] [] _ _ _
  refine r_iload_n dX8_key_0 rfl ?_
  refine r_iconst (v := nI 0) dX8_key_1 (by decide) ?_
  refine r_bipush (v := nI 6) dX8_key_2 (by decide) ?_
  refine r_invS dX8_key_4 kX8_257 (c_in_neg (lo := 0) hx (by decide)) rfl rfl ⟨by decide, by decide⟩ (Nat.le_of_ble_eq_true rfl) ⟨by decide, by decide⟩ ⟨rfl, rfl⟩ ?_
  rintro _ _ _ ⟨rfl, rfl, rfl⟩
  first | refine r_if_eqN (tgt := 25) dX8_key_7 (by decide) (by omega) (fun h7 => ?_) (fun h7 => ?_) | refine r_if_eq (tgt := 25) dX8_key_7 (by decide) (fun h7 => ?_) (fun h7 => ?_)
  · refine r_bipush (v := (-2)) dX8_key_25 (by decide) ?_
    refine r_goto (tgt := 53) dX8_key_27 (by decide) ?_
    refine r_ret (r := (some (.int _))) dX8_key_53 (by decide) (by decide) ?_
    exact ⟨rfl, rfl, rfl⟩
  · omega
set_option maxRecDepth 100000 in
set_option maxHeartbeats 4000000 in
theorem c_mkey_big {g : ab_G} {N k : Nat} {fs : List Value} {y : Int32} {w : ab_W} (h : w 74 = mdX fs) (hk : k < 2147483648) (h7 : 7 ≤ k) : ab_Ct MX8_key g [.ref 74, .int (nI k), .int y] N w (rp (some (.int (-2))) N w) := by
  refine ab_Ct.of (by decide +kernel) (Nat.le_of_ble_eq_true rfl) (by rintro _ _ _ ⟨rfl, rfl, rfl⟩; trivial) ?_
  show ab_St MX8_key g 0 0 0 [(0, .ref 74), (1, .int (nI k)), (2, .int y)] [] _ _ _
  refine r_iload_n dX8_key_0 rfl ?_
  refine r_iconst (v := nI 0) dX8_key_1 (by decide) ?_
  refine r_bipush (v := nI 6) dX8_key_2 (by decide) ?_
  refine r_invS dX8_key_4 kX8_257 (c_in (a := k) (lo := 0) (hi := 6) hk (by decide) (by decide)) rfl rfl ⟨by decide, by decide⟩ (Nat.le_of_ble_eq_true rfl) ⟨by decide, by decide⟩ ⟨rfl, rfl⟩ ?_
  rintro _ _ _ ⟨rfl, rfl, rfl⟩
  rw [if_neg (by omega)]
  first | refine r_if_eqN (tgt := 25) dX8_key_7 (by decide) (by omega) (fun h7 => ?_) (fun h7 => ?_) | refine r_if_eq (tgt := 25) dX8_key_7 (by decide) (fun h7 => ?_) (fun h7 => ?_)
  · refine r_bipush (v := (-2)) dX8_key_25 (by decide) ?_
    refine r_goto (tgt := 53) dX8_key_27 (by decide) ?_
    refine r_ret (r := (some (.int _))) dX8_key_53 (by decide) (by decide) ?_
    exact ⟨rfl, rfl, rfl⟩
  · omega
set_option maxRecDepth 100000 in
set_option maxHeartbeats 4000000 in
theorem c_mkey_neg2 {g : ab_G} {N k : Nat} {y : Int32} {half rounds c bg : Nat} {ω d : Nat → Nat} {σ : hT} {len R sg vf : Nat} {w : ab_W} (h : MH w half rounds c ω bg σ d len R sg vf) (hk : k < 7) (hy : y < 0) : ab_Ct MX8_key g [.ref 74, .int (nI k), .int y] N w (rp (some (.int (-2))) N w) := by
  obtain ⟨bu, v, m1, m2, m3, m4, m5, m6, m7, m8, m9, m10, m11⟩ := id h
  have hkw : kw half k ≤ 80 ∧ 31 ≤ kw half k := by unfold kw; split <;> omega
  refine ab_Ct.of (by decide +kernel) (Nat.le_of_ble_eq_true rfl) (by rintro _ _ _ ⟨rfl, rfl, rfl⟩; trivial) ?_
  show ab_St MX8_key g 0 0 0 [(0, .ref 74), (1, .int (nI k)), (2, .int y)] [] _ _ _
  refine r_iload_n dX8_key_0 rfl ?_
  refine r_iconst (v := nI 0) dX8_key_1 (by decide) ?_
  refine r_bipush (v := nI 6) dX8_key_2 (by decide) ?_
  refine r_invS dX8_key_4 kX8_257 (c_in (a := k) (lo := 0) (hi := 6) (by omega) (by decide) (by decide)) rfl rfl ⟨by decide, by decide⟩ (Nat.le_of_ble_eq_true rfl) ⟨by decide, by decide⟩ ⟨rfl, rfl⟩ ?_
  rintro _ _ _ ⟨rfl, rfl, rfl⟩
  rw [if_pos (by omega)]
  first | refine r_if_eqN (tgt := 25) dX8_key_7 (by decide) (by omega) (fun h7 => ?_) (fun h7 => ?_) | refine r_if_eq (tgt := 25) dX8_key_7 (by decide) (fun h7 => ?_) (fun h7 => ?_)
  · omega
  · refine r_iload_n dX8_key_10 rfl ?_
    refine r_iconst (v := nI 0) dX8_key_11 (by decide) ?_
    refine r_aload_n dX8_key_12 rfl ?_
    refine r_iload_n dX8_key_13 rfl ?_
    refine r_invV dX8_key_14 kX8_264 (c_sizeOf (k := k) h hk) rfl rfl (by repeat first | exact wu_eq | assumption | (apply wu_ne; first | omega | assumption | (apply Ne.symm; assumption))) rfl rfl ⟨by decide, by decide⟩ (Nat.le_of_ble_eq_true rfl) ⟨by decide, by decide⟩ ⟨rfl, rfl⟩ ?_
    rintro _ _ _ ⟨rfl, rfl, rfl⟩
    refine r_iconst (v := nI 1) dX8_key_17 (by decide) ?_
    first | refine r_isubN dX8_key_18 (by omega) ?_ | refine r_isub dX8_key_18 ?_
    refine r_invS dX8_key_19 kX8_257 (c_in_neg (lo := 0) hy (by decide)) rfl rfl ⟨by decide, by decide⟩ (Nat.le_of_ble_eq_true rfl) ⟨by decide, by decide⟩ ⟨rfl, rfl⟩ ?_
    rintro _ _ _ ⟨rfl, rfl, rfl⟩
    first | refine r_if_neN (tgt := 30) dX8_key_22 (by decide) (by omega) (fun h22 => ?_) (fun h22 => ?_) | refine r_if_ne (tgt := 30) dX8_key_22 (by decide) (fun h22 => ?_) (fun h22 => ?_)
    · omega
    · refine r_bipush (v := (-2)) dX8_key_25 (by decide) ?_
      refine r_goto (tgt := 53) dX8_key_27 (by decide) ?_
      refine r_ret (r := (some (.int _))) dX8_key_53 (by decide) (by decide) ?_
      exact ⟨rfl, rfl, rfl⟩
set_option maxRecDepth 100000 in
set_option maxHeartbeats 4000000 in
theorem c_mkey_big2 {g : ab_G} {N k i : Nat} {half rounds c bg : Nat} {ω d : Nat → Nat} {σ : hT} {len R sg vf : Nat} {w : ab_W} (h : MH w half rounds c ω bg σ d len R sg vf) (hk : k < 7) (hi : i < 2147483648) (hi2 : kw half k ≤ i) : ab_Ct MX8_key g [.ref 74, .int (nI k), .int (nI i)] N w (rp (some (.int (-2))) N w) := by
  obtain ⟨bu, v, m1, m2, m3, m4, m5, m6, m7, m8, m9, m10, m11⟩ := id h
  have hkw : kw half k ≤ 80 ∧ 31 ≤ kw half k := by unfold kw; split <;> omega
  refine ab_Ct.of (by decide +kernel) (Nat.le_of_ble_eq_true rfl) (by rintro _ _ _ ⟨rfl, rfl, rfl⟩; trivial) ?_
  show ab_St MX8_key g 0 0 0 [(0, .ref 74), (1, .int (nI k)), (2, .int (nI i))] [] _ _ _
  refine r_iload_n dX8_key_0 rfl ?_
  refine r_iconst (v := nI 0) dX8_key_1 (by decide) ?_
  refine r_bipush (v := nI 6) dX8_key_2 (by decide) ?_
  refine r_invS dX8_key_4 kX8_257 (c_in (a := k) (lo := 0) (hi := 6) (by omega) (by decide) (by decide)) rfl rfl ⟨by decide, by decide⟩ (Nat.le_of_ble_eq_true rfl) ⟨by decide, by decide⟩ ⟨rfl, rfl⟩ ?_
  rintro _ _ _ ⟨rfl, rfl, rfl⟩
  rw [if_pos (by omega)]
  first | refine r_if_eqN (tgt := 25) dX8_key_7 (by decide) (by omega) (fun h7 => ?_) (fun h7 => ?_) | refine r_if_eq (tgt := 25) dX8_key_7 (by decide) (fun h7 => ?_) (fun h7 => ?_)
  · omega
  · refine r_iload_n dX8_key_10 rfl ?_
    refine r_iconst (v := nI 0) dX8_key_11 (by decide) ?_
    refine r_aload_n dX8_key_12 rfl ?_
    refine r_iload_n dX8_key_13 rfl ?_
    refine r_invV dX8_key_14 kX8_264 (c_sizeOf (k := k) h hk) rfl rfl (by repeat first | exact wu_eq | assumption | (apply wu_ne; first | omega | assumption | (apply Ne.symm; assumption))) rfl rfl ⟨by decide, by decide⟩ (Nat.le_of_ble_eq_true rfl) ⟨by decide, by decide⟩ ⟨rfl, rfl⟩ ?_
    rintro _ _ _ ⟨rfl, rfl, rfl⟩
    refine r_iconst (v := nI 1) dX8_key_17 (by decide) ?_
    first | refine r_isubN dX8_key_18 (by omega) ?_ | refine r_isub dX8_key_18 ?_
    refine r_invS dX8_key_19 kX8_257 (c_in (a := i) (lo := 0) (hi := kw half k - 1) hi (by decide) (by omega)) rfl rfl ⟨by decide, by decide⟩ (Nat.le_of_ble_eq_true rfl) ⟨by decide, by decide⟩ ⟨rfl, rfl⟩ ?_
    rintro _ _ _ ⟨rfl, rfl, rfl⟩
    rw [if_neg (by omega)]
    first | refine r_if_neN (tgt := 30) dX8_key_22 (by decide) (by omega) (fun h22 => ?_) (fun h22 => ?_) | refine r_if_ne (tgt := 30) dX8_key_22 (by decide) (fun h22 => ?_) (fun h22 => ?_)
    · omega
    · refine r_bipush (v := (-2)) dX8_key_25 (by decide) ?_
      refine r_goto (tgt := 53) dX8_key_27 (by decide) ?_
      refine r_ret (r := (some (.int _))) dX8_key_53 (by decide) (by decide) ?_
      exact ⟨rfl, rfl, rfl⟩
set_option maxRecDepth 100000 in
set_option maxHeartbeats 4000000 in
theorem c_mkey_no {g : ab_G} {N k i : Nat} {half rounds c bg : Nat} {ω d : Nat → Nat} {σ : hT} {len R sg vf : Nat} {w : ab_W} (h : MH w half rounds c ω bg σ d len R sg vf) (hk : k < 7) (hi2 : i < kw half k) (hp : hF σ ≠ 2) : ab_Ct MX8_key g [.ref 74, .int (nI k), .int (nI i)] N w (rp (some (.int (-3))) N w) := by
  obtain ⟨bu, v, m1, m2, m3, m4, m5, m6, m7, m8, m9, m10, m11⟩ := id h
  have hkw : kw half k ≤ 80 ∧ 31 ≤ kw half k := by unfold kw; split <;> omega
  have hm := mk1_lt (hF σ)
  refine ab_Ct.of (by decide +kernel) (Nat.le_of_ble_eq_true rfl) (by rintro _ _ _ ⟨rfl, rfl, rfl⟩; trivial) ?_
  show ab_St MX8_key g 0 0 0 [(0, .ref 74), (1, .int (nI k)), (2, .int (nI i))] [] _ _ _
  refine r_iload_n dX8_key_0 rfl ?_
  refine r_iconst (v := nI 0) dX8_key_1 (by decide) ?_
  refine r_bipush (v := nI 6) dX8_key_2 (by decide) ?_
  refine r_invS dX8_key_4 kX8_257 (c_in (a := k) (lo := 0) (hi := 6) (by omega) (by decide) (by decide)) rfl rfl ⟨by decide, by decide⟩ (Nat.le_of_ble_eq_true rfl) ⟨by decide, by decide⟩ ⟨rfl, rfl⟩ ?_
  rintro _ _ _ ⟨rfl, rfl, rfl⟩
  rw [if_pos (by omega)]
  first | refine r_if_eqN (tgt := 25) dX8_key_7 (by decide) (by omega) (fun h7 => ?_) (fun h7 => ?_) | refine r_if_eq (tgt := 25) dX8_key_7 (by decide) (fun h7 => ?_) (fun h7 => ?_)
  · omega
  · refine r_iload_n dX8_key_10 rfl ?_
    refine r_iconst (v := nI 0) dX8_key_11 (by decide) ?_
    refine r_aload_n dX8_key_12 rfl ?_
    refine r_iload_n dX8_key_13 rfl ?_
    refine r_invV dX8_key_14 kX8_264 (c_sizeOf (k := k) h hk) rfl rfl (by repeat first | exact wu_eq | assumption | (apply wu_ne; first | omega | assumption | (apply Ne.symm; assumption))) rfl rfl ⟨by decide, by decide⟩ (Nat.le_of_ble_eq_true rfl) ⟨by decide, by decide⟩ ⟨rfl, rfl⟩ ?_
    rintro _ _ _ ⟨rfl, rfl, rfl⟩
    refine r_iconst (v := nI 1) dX8_key_17 (by decide) ?_
    first | refine r_isubN dX8_key_18 (by omega) ?_ | refine r_isub dX8_key_18 ?_
    refine r_invS dX8_key_19 kX8_257 (c_in (a := i) (lo := 0) (hi := kw half k - 1) (by omega) (by decide) (by omega)) rfl rfl ⟨by decide, by decide⟩ (Nat.le_of_ble_eq_true rfl) ⟨by decide, by decide⟩ ⟨rfl, rfl⟩ ?_
    rintro _ _ _ ⟨rfl, rfl, rfl⟩
    rw [if_pos (by omega)]
    first | refine r_if_neN (tgt := 30) dX8_key_22 (by decide) (by omega) (fun h22 => ?_) (fun h22 => ?_) | refine r_if_ne (tgt := 30) dX8_key_22 (by decide) (fun h22 => ?_) (fun h22 => ?_)
    · refine r_aload_n dX8_key_30 rfl ?_
      refine r_getf dX8_key_31 fX8_237 (by repeat first | exact wu_eq | assumption | (apply wu_ne; first | omega | assumption | (apply Ne.symm; assumption))) (by rfl) ?_
      first | refine r_if_neN (tgt := 42) dX8_key_34 (by decide) (by omega) (fun h34 => ?_) (fun h34 => ?_) | refine r_if_ne (tgt := 42) dX8_key_34 (by decide) (fun h34 => ?_) (fun h34 => ?_)
      · exact absurd (mk1_1 h34) hp
      · refine r_bipush (v := (-3)) dX8_key_37 (by decide) ?_
        refine r_goto (tgt := 53) dX8_key_39 (by decide) ?_
        refine r_ret (r := (some (.int _))) dX8_key_53 (by decide) (by decide) ?_
        exact ⟨rfl, rfl, rfl⟩
    · omega
set_option maxRecDepth 100000 in
set_option maxHeartbeats 4000000 in
theorem c_mkey {g : ab_G} {N k i : Nat} {half rounds c bg : Nat} {ω d : Nat → Nat} {σ : hT} {len R sg vf : Nat} {w : ab_W} (h : MH w half rounds c ω bg σ d len R sg vf) (hk : k < 7) (hi2 : i < kw half k) (hp : hF σ = 2) : ab_Ct MX8_key g [.ref 74, .int (nI k), .int (nI i)] N w (rp (some (.int (nI (dg 256 (kvp (kP σ) (kQ σ) k) (kw half k - 1 - i))))) N w) := by
  obtain ⟨bu, v, m1, m2, m3, m4, m5, m6, m7, m8, m9, m10, m11⟩ := id h
  have hkw : kw half k ≤ 80 ∧ 31 ≤ kw half k := by unfold kw; split <;> omega
  have hm := mk1_lt (hF σ)
  refine ab_Ct.of (by decide +kernel) (Nat.le_of_ble_eq_true rfl) (by rintro _ _ _ ⟨rfl, rfl, rfl⟩; trivial) ?_
  show ab_St MX8_key g 0 0 0 [(0, .ref 74), (1, .int (nI k)), (2, .int (nI i))] [] _ _ _
  refine r_iload_n dX8_key_0 rfl ?_
  refine r_iconst (v := nI 0) dX8_key_1 (by decide) ?_
  refine r_bipush (v := nI 6) dX8_key_2 (by decide) ?_
  refine r_invS dX8_key_4 kX8_257 (c_in (a := k) (lo := 0) (hi := 6) (by omega) (by decide) (by decide)) rfl rfl ⟨by decide, by decide⟩ (Nat.le_of_ble_eq_true rfl) ⟨by decide, by decide⟩ ⟨rfl, rfl⟩ ?_
  rintro _ _ _ ⟨rfl, rfl, rfl⟩
  rw [if_pos (by omega)]
  first | refine r_if_eqN (tgt := 25) dX8_key_7 (by decide) (by omega) (fun h7 => ?_) (fun h7 => ?_) | refine r_if_eq (tgt := 25) dX8_key_7 (by decide) (fun h7 => ?_) (fun h7 => ?_)
  · omega
  · refine r_iload_n dX8_key_10 rfl ?_
    refine r_iconst (v := nI 0) dX8_key_11 (by decide) ?_
    refine r_aload_n dX8_key_12 rfl ?_
    refine r_iload_n dX8_key_13 rfl ?_
    refine r_invV dX8_key_14 kX8_264 (c_sizeOf (k := k) h hk) rfl rfl (by repeat first | exact wu_eq | assumption | (apply wu_ne; first | omega | assumption | (apply Ne.symm; assumption))) rfl rfl ⟨by decide, by decide⟩ (Nat.le_of_ble_eq_true rfl) ⟨by decide, by decide⟩ ⟨rfl, rfl⟩ ?_
    rintro _ _ _ ⟨rfl, rfl, rfl⟩
    refine r_iconst (v := nI 1) dX8_key_17 (by decide) ?_
    first | refine r_isubN dX8_key_18 (by omega) ?_ | refine r_isub dX8_key_18 ?_
    refine r_invS dX8_key_19 kX8_257 (c_in (a := i) (lo := 0) (hi := kw half k - 1) (by omega) (by decide) (by omega)) rfl rfl ⟨by decide, by decide⟩ (Nat.le_of_ble_eq_true rfl) ⟨by decide, by decide⟩ ⟨rfl, rfl⟩ ?_
    rintro _ _ _ ⟨rfl, rfl, rfl⟩
    rw [if_pos (by omega)]
    first | refine r_if_neN (tgt := 30) dX8_key_22 (by decide) (by omega) (fun h22 => ?_) (fun h22 => ?_) | refine r_if_ne (tgt := 30) dX8_key_22 (by decide) (fun h22 => ?_) (fun h22 => ?_)
    · refine r_aload_n dX8_key_30 rfl ?_
      refine r_getf dX8_key_31 fX8_237 (by repeat first | exact wu_eq | assumption | (apply wu_ne; first | omega | assumption | (apply Ne.symm; assumption))) (by rfl) ?_
      first | refine r_if_neN (tgt := 42) dX8_key_34 (by decide) (by omega) (fun h34 => ?_) (fun h34 => ?_) | refine r_if_ne (tgt := 42) dX8_key_34 (by decide) (fun h34 => ?_) (fun h34 => ?_)
      · refine r_aload_n dX8_key_42 rfl ?_
        refine r_iload_n dX8_key_43 rfl ?_
        refine r_aload_n dX8_key_44 rfl ?_
        refine r_iload_n dX8_key_45 rfl ?_
        refine r_invV dX8_key_46 kX8_264 (c_sizeOf (k := k) h hk) rfl rfl (by repeat first | exact wu_eq | assumption | (apply wu_ne; first | omega | assumption | (apply Ne.symm; assumption))) rfl rfl ⟨by decide, by decide⟩ (Nat.le_of_ble_eq_true rfl) ⟨by decide, by decide⟩ ⟨rfl, rfl⟩ ?_
        rintro _ _ _ ⟨rfl, rfl, rfl⟩
        refine r_iload_n dX8_key_49 rfl ?_
        refine r_invV dX8_key_50 kX8_267 (c_mbyteAt (s := k) (z := kw half k) (i := i) (v := v) m1 m2 (by omega) hi2 (by omega)) rfl rfl (by repeat first | exact wu_eq | assumption | (apply wu_ne; first | omega | assumption | (apply Ne.symm; assumption))) rfl rfl ⟨by decide, by decide⟩ (Nat.le_of_ble_eq_true rfl) ⟨by decide, by decide⟩ ⟨rfl, rfl⟩ ?_
        rintro _ _ _ ⟨rfl, rfl, rfl⟩
        refine r_ret (r := (some (.int _))) dX8_key_53 (by decide) (by decide) ?_
        rw [m7 hp k hk]
        exact ⟨rfl, rfl, rfl⟩
      · exact absurd hp (mk1_0 h34)
    · omega
set_option maxRecDepth 100000 in
set_option maxHeartbeats 4000000 in
theorem c_mcount {g : ab_G} {N k : Nat} {half rounds c bg : Nat} {ω d : Nat → Nat} {σ : hT} {len R sg vf : Nat} {w : ab_W} (h : MH w half rounds c ω bg σ d len R sg vf) (hk : k < 8) : ab_Ct MX8_count g [.ref 74, .int (nI k)] N w (rp (some (.int (nI (cnt half rounds c (hX σ) (hU σ) len sg vf k)))) N w) := by
  obtain ⟨bu, v, m1, -⟩ := id h
  refine ab_Ct.of (by decide +kernel) (Nat.le_of_ble_eq_true rfl) (by rintro _ _ _ ⟨rfl, rfl, rfl⟩; trivial) ?_
  show ab_St MX8_count g 0 0 0 [(0, .ref 74), (1, .int (nI k))] [] _ _ _
  refine r_iload_n dX8_count_0 rfl ?_
  rcases (by omega : k = 0 ∨ k = 1 ∨ k = 2 ∨ k = 3 ∨ k = 4 ∨ k = 5 ∨ k = 6 ∨ k = 7) with rfl | rfl | rfl | rfl | rfl | rfl | rfl | rfl
  · refine r_tabIn (off := 47) (tgt := 48) dX8_count_1 (by decide) (by decide) rfl rfl ?_
    refine r_aload_n dX8_count_48 rfl ?_
    refine r_getf dX8_count_49 fX8_109 (by repeat first | exact wu_eq | assumption | (apply wu_ne; first | omega | assumption | (apply Ne.symm; assumption))) (by rfl) ?_
    refine r_ret (r := (some (.int _))) dX8_count_52 (by decide) (by decide) ?_
    exact ⟨rfl, rfl, rfl⟩
  · refine r_tabIn (off := 52) (tgt := 53) dX8_count_1 (by decide) (by decide) rfl rfl ?_
    refine r_aload_n dX8_count_53 rfl ?_
    refine r_getf dX8_count_54 fX8_113 (by repeat first | exact wu_eq | assumption | (apply wu_ne; first | omega | assumption | (apply Ne.symm; assumption))) (by rfl) ?_
    refine r_ret (r := (some (.int _))) dX8_count_57 (by decide) (by decide) ?_
    exact ⟨rfl, rfl, rfl⟩
  · refine r_tabIn (off := 57) (tgt := 58) dX8_count_1 (by decide) (by decide) rfl rfl ?_
    refine r_aload_n dX8_count_58 rfl ?_
    refine r_getf dX8_count_59 fX8_173 (by repeat first | exact wu_eq | assumption | (apply wu_ne; first | omega | assumption | (apply Ne.symm; assumption))) (by rfl) ?_
    refine r_ret (r := (some (.int _))) dX8_count_62 (by decide) (by decide) ?_
    exact ⟨rfl, rfl, rfl⟩
  · refine r_tabIn (off := 62) (tgt := 63) dX8_count_1 (by decide) (by decide) rfl rfl ?_
    refine r_aload_n dX8_count_63 rfl ?_
    refine r_getf dX8_count_64 fX8_248 (by repeat first | exact wu_eq | assumption | (apply wu_ne; first | omega | assumption | (apply Ne.symm; assumption))) (by rfl) ?_
    refine r_ret (r := (some (.int _))) dX8_count_67 (by decide) (by decide) ?_
    exact ⟨rfl, rfl, rfl⟩
  · refine r_tabIn (off := 67) (tgt := 68) dX8_count_1 (by decide) (by decide) rfl rfl ?_
    refine r_aload_n dX8_count_68 rfl ?_
    refine r_getf dX8_count_69 fX8_216 (by repeat first | exact wu_eq | assumption | (apply wu_ne; first | omega | assumption | (apply Ne.symm; assumption))) (by rfl) ?_
    refine r_ret (r := (some (.int _))) dX8_count_72 (by decide) (by decide) ?_
    exact ⟨rfl, rfl, rfl⟩
  · refine r_tabIn (off := 72) (tgt := 73) dX8_count_1 (by decide) (by decide) rfl rfl ?_
    refine r_aload_n dX8_count_73 rfl ?_
    refine r_getf dX8_count_74 fX8_271 (by repeat first | exact wu_eq | assumption | (apply wu_ne; first | omega | assumption | (apply Ne.symm; assumption))) (by rfl) ?_
    refine r_ret (r := (some (.int _))) dX8_count_77 (by decide) (by decide) ?_
    exact ⟨rfl, rfl, rfl⟩
  · refine r_tabIn (off := 77) (tgt := 78) dX8_count_1 (by decide) (by decide) rfl rfl ?_
    refine r_aload_n dX8_count_78 rfl ?_
    refine r_getf dX8_count_79 fX8_274 (by repeat first | exact wu_eq | assumption | (apply wu_ne; first | omega | assumption | (apply Ne.symm; assumption))) (by rfl) ?_
    refine r_ret (r := (some (.int _))) dX8_count_82 (by decide) (by decide) ?_
    exact ⟨rfl, rfl, rfl⟩
  · refine r_tabIn (off := 82) (tgt := 83) dX8_count_1 (by decide) (by decide) rfl rfl ?_
    refine r_aload_n dX8_count_83 rfl ?_
    refine r_getf dX8_count_84 fX8_277 (by repeat first | exact wu_eq | assumption | (apply wu_ne; first | omega | assumption | (apply Ne.symm; assumption))) (by rfl) ?_
    refine r_ret (r := (some (.int _))) dX8_count_87 (by decide) (by decide) ?_
    exact ⟨rfl, rfl, rfl⟩
set_option maxRecDepth 100000 in
set_option maxHeartbeats 4000000 in
theorem c_mcount_bad {g : ab_G} {N : Nat} {x : Int32} {w : ab_W} (hx : x < 0 ∨ ∃ n, n < 2147483648 ∧ x = nI n ∧ 8 ≤ n) : ab_Ct MX8_count g [.ref 74, .int x] N w (rp (some (.int (-2))) N w) := by
  have ht := tab_out hx (by decide)
  refine ab_Ct.of (by decide +kernel) (Nat.le_of_ble_eq_true rfl) (by rintro _ _ _ ⟨rfl, rfl, rfl⟩; trivial) ?_
  show ab_St MX8_count g 0 0 0 [(0, .ref 74), (1, .int x)] [] _ _ _
  refine r_iload_n dX8_count_0 rfl ?_
  refine r_tabOut (tgt := 88) dX8_count_1 (by omega) rfl ?_
  refine r_bipush (v := (-2)) dX8_count_88 (by decide) ?_
  refine r_ret (r := (some (.int _))) dX8_count_90 (by decide) (by decide) ?_
  exact ⟨rfl, rfl, rfl⟩
set_option maxRecDepth 100000 in
set_option maxHeartbeats 4000000 in
theorem c_mfeed_neg {g : ab_G} {N : Nat} {fs : List Value} {y : Int64} {x : Int32} {w : ab_W} (h : w 74 = mdX fs) (hx : x < 0) : ab_Ct MX8_feed g [.ref 74, .long y, .int x] N w (rp (some (.int (-2))) N w) := by
  refine ab_Ct.of (by decide +kernel) (Nat.le_of_ble_eq_true rfl) (by rintro _ _ _ ⟨rfl, rfl, rfl⟩; trivial) ?_
  show ab_St MX8_feed g 0 0 0 [(0, .ref 74), (1, .long y), (3, .int x)] [] _ _ _
  refine r_iload_n dX8_feed_0 rfl ?_
  refine r_iconst (v := nI 1) dX8_feed_1 (by decide) ?_
  refine r_bipush (v := nI 8) dX8_feed_2 (by decide) ?_
  refine r_invS dX8_feed_4 kX8_257 (c_in_neg (lo := 1) hx (by decide)) rfl rfl ⟨by decide, by decide⟩ (Nat.le_of_ble_eq_true rfl) ⟨by decide, by decide⟩ ⟨rfl, rfl⟩ ?_
  rintro _ _ _ ⟨rfl, rfl, rfl⟩
  first | refine r_if_neN (tgt := 13) dX8_feed_7 (by decide) (by omega) (fun h7 => ?_) (fun h7 => ?_) | refine r_if_ne (tgt := 13) dX8_feed_7 (by decide) (fun h7 => ?_) (fun h7 => ?_)
  · omega
  · refine r_bipush (v := (-2)) dX8_feed_10 (by decide) ?_
    refine r_ret (r := (some (.int _))) dX8_feed_12 (by decide) (by decide) ?_
    exact ⟨rfl, rfl, rfl⟩
set_option maxRecDepth 100000 in
set_option maxHeartbeats 4000000 in
theorem c_mfeed_bad {g : ab_G} {N m : Nat} {fs : List Value} {y : Int64} {w : ab_W} (h : w 74 = mdX fs) (hm : m < 2147483648) (hb : m < 1 ∨ 8 < m) : ab_Ct MX8_feed g [.ref 74, .long y, .int (nI m)] N w (rp (some (.int (-2))) N w) := by
  refine ab_Ct.of (by decide +kernel) (Nat.le_of_ble_eq_true rfl) (by rintro _ _ _ ⟨rfl, rfl, rfl⟩; trivial) ?_
  show ab_St MX8_feed g 0 0 0 [(0, .ref 74), (1, .long y), (3, .int (nI m))] [] _ _ _
  refine r_iload_n dX8_feed_0 rfl ?_
  refine r_iconst (v := nI 1) dX8_feed_1 (by decide) ?_
  refine r_bipush (v := nI 8) dX8_feed_2 (by decide) ?_
  refine r_invS dX8_feed_4 kX8_257 (c_in (a := m) (lo := 1) (hi := 8) hm (by decide) (by decide)) rfl rfl ⟨by decide, by decide⟩ (Nat.le_of_ble_eq_true rfl) ⟨by decide, by decide⟩ ⟨rfl, rfl⟩ ?_
  rintro _ _ _ ⟨rfl, rfl, rfl⟩
  rw [if_neg (by omega)]
  first | refine r_if_neN (tgt := 13) dX8_feed_7 (by decide) (by omega) (fun h7 => ?_) (fun h7 => ?_) | refine r_if_ne (tgt := 13) dX8_feed_7 (by decide) (fun h7 => ?_) (fun h7 => ?_)
  · omega
  · refine r_bipush (v := (-2)) dX8_feed_10 (by decide) ?_
    refine r_ret (r := (some (.int _))) dX8_feed_12 (by decide) (by decide) ?_
    exact ⟨rfl, rfl, rfl⟩
set_option maxRecDepth 100000 in
set_option maxHeartbeats 4000000 in
theorem c_mfeed_full {g : ab_G} {N m : Nat} {y : Int64} {half rounds c bg : Nat} {ω d : Nat → Nat} {σ : hT} {len R sg vf : Nat} {w : ab_W} (h : MH w half rounds c ω bg σ d len R sg vf) (h1 : 1 ≤ m) (h8 : m ≤ 8) (hf : 300 < len + m) : ab_Ct MX8_feed g [.ref 74, .long y, .int (nI m)] N w (rp (some (.int (-4))) N w) := by
  obtain ⟨bu, v, m1, m2, m3, m4, m5, m6, m7, m8, m9, m10, m11⟩ := id h
  refine ab_Ct.of (by decide +kernel) (Nat.le_of_ble_eq_true rfl) (by rintro _ _ _ ⟨rfl, rfl, rfl⟩; trivial) ?_
  show ab_St MX8_feed g 0 0 0 [(0, .ref 74), (1, .long y), (3, .int (nI m))] [] _ _ _
  refine r_iload_n dX8_feed_0 rfl ?_
  refine r_iconst (v := nI 1) dX8_feed_1 (by decide) ?_
  refine r_bipush (v := nI 8) dX8_feed_2 (by decide) ?_
  refine r_invS dX8_feed_4 kX8_257 (c_in (a := m) (lo := 1) (hi := 8) (by omega) (by decide) (by decide)) rfl rfl ⟨by decide, by decide⟩ (Nat.le_of_ble_eq_true rfl) ⟨by decide, by decide⟩ ⟨rfl, rfl⟩ ?_
  rintro _ _ _ ⟨rfl, rfl, rfl⟩
  rw [if_pos (by omega)]
  first | refine r_if_neN (tgt := 13) dX8_feed_7 (by decide) (by omega) (fun h7 => ?_) (fun h7 => ?_) | refine r_if_ne (tgt := 13) dX8_feed_7 (by decide) (fun h7 => ?_) (fun h7 => ?_)
  · refine r_aload_n dX8_feed_13 rfl ?_
    refine r_getf dX8_feed_14 fX8_271 (by repeat first | exact wu_eq | assumption | (apply wu_ne; first | omega | assumption | (apply Ne.symm; assumption))) (by rfl) ?_
    refine r_iload_n dX8_feed_17 rfl ?_
    first | refine r_iaddN dX8_feed_18 ?_ | refine r_iadd dX8_feed_18 ?_
    refine r_sipush (v := nI 300) dX8_feed_19 (by decide) ?_
    first | refine r_icmp_leN (tgt := 28) dX8_feed_22 (by decide) (by omega) (by omega) (fun h22 => ?_) (fun h22 => ?_) | refine r_icmp_le (tgt := 28) dX8_feed_22 (by decide) (fun h22 => ?_) (fun h22 => ?_)
    · omega
    · refine r_bipush (v := (-4)) dX8_feed_25 (by decide) ?_
      refine r_ret (r := (some (.int _))) dX8_feed_27 (by decide) (by decide) ?_
      exact ⟨rfl, rfl, rfl⟩
  · omega
theorem lsh_byte (u : Nat) {q : Nat} (hq : q + 8 ≤ 64) : (lN u >>> ((nI q).toInt64 &&& 63)).toInt32 &&& nI 255 = nI (u / 2 ^ q % 256) := by
  rw [wb_c q (by omega)]
  apply Int32.toBitVec_inj.mp
  show (((lN u).toBitVec.sshiftRight ((lN q).toBitVec.smod 64).toNat).signExtend 32) &&& (BitVec.ofNat 32 255) = BitVec.ofNat 32 (u / 2 ^ q % 256)
  rw [wb_tb q, wb_sm q (by omega), wb_tb u, BitVec.toNat_ofNat, Nat.mod_eq_of_lt (by omega), BitVec.signExtend_eq_setWidth_of_le _ (by decide)]
  apply BitVec.eq_of_getLsbD_eq
  intro i hi
  rw [BitVec.getLsbD_and, BitVec.getLsbD_setWidth, BitVec.getLsbD_sshiftRight, BitVec.getLsbD_ofNat, BitVec.getLsbD_ofNat, BitVec.getLsbD_ofNat, show (255 : Nat) = 2 ^ 8 - 1 by decide, Nat.testBit_two_pow_sub_one, show (256 : Nat) = 2 ^ 8 by decide, Nat.testBit_mod_two_pow, Nat.testBit_div_two_pow]
  by_cases h8 : i < 8
  · rw [if_pos (by omega), show i + q = q + i by omega]
    simp [h8, hi, show i < 64 by omega, show q + i < 64 by omega]
  · simp [h8]
theorem med_upI (d : Nat → Nat) (n u m j k : Nat) (h : j + (k + 1) = m) : va_up (bI (med d n u m j)) (n + j) (nI (u / 2 ^ (8 * k) % 256)) = bI (med d n u m (j + 1)) := by
  funext i
  unfold va_up bI med
  try dsimp only
  by_cases h1 : i = n + j
  · rw [if_pos h1, if_pos ⟨by omega, by omega⟩, h1, show m - 1 - (n + j - n) = k by omega]
  · rw [if_neg h1]
    by_cases h2 : n ≤ i ∧ i < n + j
    · rw [if_pos h2, if_pos ⟨h2.1, by omega⟩]
    · rw [if_neg h2, if_neg (by omega)]
set_option maxRecDepth 100000 in
set_option maxHeartbeats 4000000 in
theorem c_mfeed {g : ab_G} {N u m : Nat} {half rounds c bg : Nat} {ω d : Nat → Nat} {σ : hT} {len R sg vf : Nat} {w : ab_W} (h : MH w half rounds c ω bg σ d len R sg vf) (h1 : 1 ≤ m) (h8 : m ≤ 8) (hf : len + m ≤ 300) : ab_Ct MX8_feed g [.ref 74, .long (lN u), .int (nI m)] N w (fun r N' w' => MH w' half rounds c ω bg σ (med d len u m m) (len + m) R sg vf ∧ (∀ k, k < 74 → w' k = w k) ∧ r = some (.int (nI (len + m))) ∧ N = N') := by
  obtain ⟨bu, v, m1, m2, m3, m4, m5, m6, m7, m8, m9, m10, m11⟩ := id h
  obtain ⟨⟨so, e1, e2⟩, e3, e4, e5, e6, e7, e8⟩ := m4
  have K : ∀ k j w1, j + k = m → w1 74 = mdO half rounds bu c bg (mk1 (hF σ)) (mkp (hF σ)) (hX σ) (hU σ) (hP σ / 32) (hP σ % 32) sg vf (len + j) → w1 82 = aI 300 (bI (med d len u m j)) → (∀ k, k ≠ 74 → k ≠ 82 → w1 k = w k) → ab_St MX8_feed g 0 0 33 [(4, .int (nI k - 1)), (0, .ref 74), (1, .long (lN u)), (3, .int (nI m))] [] N w1 (fun r N' w' => MH w' half rounds c ω bg σ (med d len u m m) (len + m) R sg vf ∧ (∀ k, k < 74 → w' k = w k) ∧ r = some (.int (nI (len + m))) ∧ N = N') := by
    intro k
    induction k with
    | zero =>
      intro j w1 hj f74 f82 fr
      obtain rfl : j = m := by omega
      refine r_iload dX8_feed_33 rfl ?_
      refine r_if_lt (tgt := 75) dX8_feed_35 (by decide) (fun _ => ?_) (fun h => absurd nI0lt h)
      refine r_aload_n dX8_feed_75 rfl ?_
      refine r_getf dX8_feed_76 fX8_271 (by repeat first | exact wu_eq | assumption | (apply wu_ne; first | omega | assumption | (apply Ne.symm; assumption))) (by rfl) ?_
      refine r_ret (r := (some (.int _))) dX8_feed_79 (by decide) (by decide) ?_
      exact ⟨⟨bu, v, f74, (fr 75 (by decide) (by decide)).trans m2, m3.keep fun k a b => fr k (by omega) (by omega), ⟨⟨so, (fr 81 (by decide) (by decide)).trans e1, e2⟩, (fr 79 (by decide) (by decide)).trans e3, (fr 80 (by decide) (by decide)).trans e4, f82, med_lt e6 _ _ _ _, (fr 83 (by decide) (by decide)).trans e7, e8⟩, m5, m6, m7, hf, m9, m10, m11⟩, fun k a => fr k (by omega) (by omega), rfl, rfl⟩
    | succ k ih =>
      intro j w1 hj f74 f82 fr
      rw [i32_pm]
      refine r_iload dX8_feed_33 rfl ?_
      first | refine r_if_ltN (tgt := 75) dX8_feed_35 (by decide) (by omega) (fun h35 => ?_) | refine r_if_lt (tgt := 75) dX8_feed_35 (by decide) (fun h35 => ?_) (fun h35 => ?_)
      refine r_aload_n dX8_feed_38 rfl ?_
      refine r_getf dX8_feed_39 fX8_103 (by repeat first | exact wu_eq | assumption | (apply wu_ne; first | omega | assumption | (apply Ne.symm; assumption))) (by rfl) ?_
      refine r_aload_n dX8_feed_42 rfl ?_
      refine r_getf dX8_feed_43 fX8_271 (by repeat first | exact wu_eq | assumption | (apply wu_ne; first | omega | assumption | (apply Ne.symm; assumption))) (by rfl) ?_
      refine r_lload_n dX8_feed_46 rfl ?_
      refine r_bipush (v := nI 8) dX8_feed_47 (by decide) ?_
      refine r_iload dX8_feed_49 rfl ?_
      first | refine r_imulN dX8_feed_51 ?_ | refine r_imul dX8_feed_51 ?_
      refine r_lshr dX8_feed_52 ?_
      refine r_l2i dX8_feed_53 ?_
      refine r_sipush (v := nI 255) dX8_feed_54 (by decide) ?_
      refine r_iand dX8_feed_57 ?_
      rw [lsh_byte u (by omega)]
      refine r_iastore dX8_feed_58 (by repeat first | exact wu_eq | assumption | (apply wu_ne; first | omega | assumption | (apply Ne.symm; assumption))) _ rfl (by omega) (by omega) ?_
      refine r_aload_n dX8_feed_59 rfl ?_
      refine r_dup dX8_feed_60 rfl ?_
      refine r_getf dX8_feed_61 fX8_271 (by repeat first | exact wu_eq | assumption | (apply wu_ne; first | omega | assumption | (apply Ne.symm; assumption))) (by rfl) ?_
      refine r_iconst (v := nI 1) dX8_feed_64 (by decide) ?_
      first | refine r_iaddN dX8_feed_65 ?_ | refine r_iadd dX8_feed_65 ?_
      refine r_putf dX8_feed_66 fX8_271 (by repeat first | exact wu_eq | assumption | (apply wu_ne; first | omega | assumption | (apply Ne.symm; assumption))) rfl (by exact Nat.le_of_ble_eq_true rfl) (by rfl) (by rfl) ?_
      refine r_iinc (L0 := [(0, _), (1, _), (3, _)]) dX8_feed_69 rfl (by first | exact iincm1' _ | rfl) (by decide) rfl ?_
      refine r_goto (tgt := 33) dX8_feed_72 (by decide) ?_
      refine r_sub [0, 1, 2, 3] rfl ?_
      exact ih (j + 1) _ (by omega) wu_eq (wu_ne (by decide) (wu_eq.trans (congrArg (aI 300) (med_upI d len u m j k (by omega))))) fun k a b => (wu_ne a (wu_ne b rfl)).trans (fr k a b)
  refine ab_Ct.of (by decide +kernel) (Nat.le_of_ble_eq_true rfl) (by rintro _ _ _ ⟨-, -, rfl, -⟩; trivial) ?_
  show ab_St MX8_feed g 0 0 0 [(0, .ref 74), (1, .long (lN u)), (3, .int (nI m))] [] _ _ _
  refine r_iload_n dX8_feed_0 rfl ?_
  refine r_iconst (v := nI 1) dX8_feed_1 (by decide) ?_
  refine r_bipush (v := nI 8) dX8_feed_2 (by decide) ?_
  refine r_invS dX8_feed_4 kX8_257 (c_in (a := m) (lo := 1) (hi := 8) (by omega) (by decide) (by decide)) rfl rfl ⟨by decide, by decide⟩ (Nat.le_of_ble_eq_true rfl) ⟨by decide, by decide⟩ ⟨rfl, rfl⟩ ?_
  rintro _ _ _ ⟨rfl, rfl, rfl⟩
  rw [if_pos (by omega)]
  first | refine r_if_neN (tgt := 13) dX8_feed_7 (by decide) (by omega) (fun h7 => ?_) (fun h7 => ?_) | refine r_if_ne (tgt := 13) dX8_feed_7 (by decide) (fun h7 => ?_) (fun h7 => ?_)
  · refine r_aload_n dX8_feed_13 rfl ?_
    refine r_getf dX8_feed_14 fX8_271 (by repeat first | exact wu_eq | assumption | (apply wu_ne; first | omega | assumption | (apply Ne.symm; assumption))) (by rfl) ?_
    refine r_iload_n dX8_feed_17 rfl ?_
    first | refine r_iaddN dX8_feed_18 ?_ | refine r_iadd dX8_feed_18 ?_
    refine r_sipush (v := nI 300) dX8_feed_19 (by decide) ?_
    first | refine r_icmp_leN (tgt := 28) dX8_feed_22 (by decide) (by omega) (by omega) (fun h22 => ?_) (fun h22 => ?_) | refine r_icmp_le (tgt := 28) dX8_feed_22 (by decide) (fun h22 => ?_) (fun h22 => ?_)
    · refine r_iload_n dX8_feed_28 rfl ?_
      refine r_iconst (v := nI 1) dX8_feed_29 (by decide) ?_
      rw [show (nI 1 : Int32) = 1 by decide]
      refine r_isub dX8_feed_30 ?_
      refine r_istore (i := 4) (L0 := [(0, _), (1, _), (3, _)]) dX8_feed_31 (by decide) rfl ?_
      exact K m 0 w (by omega) m1 (by rw [med_0]; exact e5) fun _ _ _ => rfl
    · omega
  · omega
set_option maxRecDepth 100000 in
set_option maxHeartbeats 4000000 in
theorem c_mcut_neg {g : ab_G} {N : Nat} {x : Int32} {half rounds c bg : Nat} {ω d : Nat → Nat} {σ : hT} {len R sg vf : Nat} {w : ab_W} (h : MH w half rounds c ω bg σ d len R sg vf) (hx : x < 0) : ab_Ct MX8_cut g [.ref 74, .int x] N w (rp (some (.int (-2))) N w) := by
  obtain ⟨bu, v, m1, m2, m3, m4, m5, m6, m7, m8, m9, m10, m11⟩ := id h
  refine ab_Ct.of (by decide +kernel) (Nat.le_of_ble_eq_true rfl) (by rintro _ _ _ ⟨rfl, rfl, rfl⟩; trivial) ?_
  show ab_St MX8_cut g 0 0 0 [(0, .ref 74), (1, .int x)] [] _ _ _
  refine r_iload_n dX8_cut_0 rfl ?_
  refine r_iconst (v := nI 0) dX8_cut_1 (by decide) ?_
  refine r_aload_n dX8_cut_2 rfl ?_
  refine r_getf dX8_cut_3 fX8_271 (by repeat first | exact wu_eq | assumption | (apply wu_ne; first | omega | assumption | (apply Ne.symm; assumption))) (by rfl) ?_
  refine r_invS dX8_cut_6 kX8_257 (c_in_neg (lo := 0) hx (by decide)) rfl rfl ⟨by decide, by decide⟩ (Nat.le_of_ble_eq_true rfl) ⟨by decide, by decide⟩ ⟨rfl, rfl⟩ ?_
  rintro _ _ _ ⟨rfl, rfl, rfl⟩
  first | refine r_if_neN (tgt := 15) dX8_cut_9 (by decide) (by omega) (fun h9 => ?_) (fun h9 => ?_) | refine r_if_ne (tgt := 15) dX8_cut_9 (by decide) (fun h9 => ?_) (fun h9 => ?_)
  · omega
  · refine r_bipush (v := (-2)) dX8_cut_12 (by decide) ?_
    refine r_ret (r := (some (.int _))) dX8_cut_14 (by decide) (by decide) ?_
    exact ⟨rfl, rfl, rfl⟩
set_option maxRecDepth 100000 in
set_option maxHeartbeats 4000000 in
theorem c_mcut_bad {g : ab_G} {N m : Nat} {half rounds c bg : Nat} {ω d : Nat → Nat} {σ : hT} {len R sg vf : Nat} {w : ab_W} (h : MH w half rounds c ω bg σ d len R sg vf) (hm : m < 2147483648) (hb : len < m) : ab_Ct MX8_cut g [.ref 74, .int (nI m)] N w (rp (some (.int (-2))) N w) := by
  obtain ⟨bu, v, m1, m2, m3, m4, m5, m6, m7, m8, m9, m10, m11⟩ := id h
  refine ab_Ct.of (by decide +kernel) (Nat.le_of_ble_eq_true rfl) (by rintro _ _ _ ⟨rfl, rfl, rfl⟩; trivial) ?_
  show ab_St MX8_cut g 0 0 0 [(0, .ref 74), (1, .int (nI m))] [] _ _ _
  refine r_iload_n dX8_cut_0 rfl ?_
  refine r_iconst (v := nI 0) dX8_cut_1 (by decide) ?_
  refine r_aload_n dX8_cut_2 rfl ?_
  refine r_getf dX8_cut_3 fX8_271 (by repeat first | exact wu_eq | assumption | (apply wu_ne; first | omega | assumption | (apply Ne.symm; assumption))) (by rfl) ?_
  refine r_invS dX8_cut_6 kX8_257 (c_in (a := m) (lo := 0) (hi := len) hm (by decide) (by omega)) rfl rfl ⟨by decide, by decide⟩ (Nat.le_of_ble_eq_true rfl) ⟨by decide, by decide⟩ ⟨rfl, rfl⟩ ?_
  rintro _ _ _ ⟨rfl, rfl, rfl⟩
  rw [if_neg (by omega)]
  first | refine r_if_neN (tgt := 15) dX8_cut_9 (by decide) (by omega) (fun h9 => ?_) (fun h9 => ?_) | refine r_if_ne (tgt := 15) dX8_cut_9 (by decide) (fun h9 => ?_) (fun h9 => ?_)
  · omega
  · refine r_bipush (v := (-2)) dX8_cut_12 (by decide) ?_
    refine r_ret (r := (some (.int _))) dX8_cut_14 (by decide) (by decide) ?_
    exact ⟨rfl, rfl, rfl⟩
set_option maxRecDepth 100000 in
set_option maxHeartbeats 4000000 in
theorem c_mcut {g : ab_G} {N m : Nat} {half rounds c bg : Nat} {ω d : Nat → Nat} {σ : hT} {len R sg vf : Nat} {w : ab_W} (h : MH w half rounds c ω bg σ d len R sg vf) (hb : m ≤ len) : ab_Ct MX8_cut g [.ref 74, .int (nI m)] N w (fun r N' w' => MH w' half rounds c ω bg σ d m R sg vf ∧ (∀ k, k < 74 → w' k = w k) ∧ r = some (.int (nI (len - m))) ∧ N = N') := by
  obtain ⟨bu, v, m1, m2, m3, m4, m5, m6, m7, m8, m9, m10, m11⟩ := id h
  refine ab_Ct.of (by decide +kernel) (Nat.le_of_ble_eq_true rfl) (by rintro _ _ _ ⟨-, -, rfl, -⟩; trivial) ?_
  show ab_St MX8_cut g 0 0 0 [(0, .ref 74), (1, .int (nI m))] [] _ _ _
  refine r_iload_n dX8_cut_0 rfl ?_
  refine r_iconst (v := nI 0) dX8_cut_1 (by decide) ?_
  refine r_aload_n dX8_cut_2 rfl ?_
  refine r_getf dX8_cut_3 fX8_271 (by repeat first | exact wu_eq | assumption | (apply wu_ne; first | omega | assumption | (apply Ne.symm; assumption))) (by rfl) ?_
  refine r_invS dX8_cut_6 kX8_257 (c_in (a := m) (lo := 0) (hi := len) (by omega) (by decide) (by omega)) rfl rfl ⟨by decide, by decide⟩ (Nat.le_of_ble_eq_true rfl) ⟨by decide, by decide⟩ ⟨rfl, rfl⟩ ?_
  rintro _ _ _ ⟨rfl, rfl, rfl⟩
  rw [if_pos (by omega)]
  first | refine r_if_neN (tgt := 15) dX8_cut_9 (by decide) (by omega) (fun h9 => ?_) (fun h9 => ?_) | refine r_if_ne (tgt := 15) dX8_cut_9 (by decide) (fun h9 => ?_) (fun h9 => ?_)
  · refine r_aload_n dX8_cut_15 rfl ?_
    refine r_getf dX8_cut_16 fX8_271 (by repeat first | exact wu_eq | assumption | (apply wu_ne; first | omega | assumption | (apply Ne.symm; assumption))) (by rfl) ?_
    refine r_iload_n dX8_cut_19 rfl ?_
    first | refine r_isubN dX8_cut_20 (by omega) ?_ | refine r_isub dX8_cut_20 ?_
    refine r_istore_n (i := 2) (L0 := [(0, _), (1, _)]) dX8_cut_21 rfl (by decide) rfl ?_
    refine r_aload_n dX8_cut_22 rfl ?_
    refine r_iload_n dX8_cut_23 rfl ?_
    refine r_putf dX8_cut_24 fX8_271 (by repeat first | exact wu_eq | assumption | (apply wu_ne; first | omega | assumption | (apply Ne.symm; assumption))) rfl (by exact Nat.le_of_ble_eq_true rfl) (by rfl) (by rfl) ?_
    refine r_iload_n dX8_cut_27 rfl ?_
    refine r_ret (r := (some (.int _))) dX8_cut_28 (by decide) (by decide) ?_
    exact ⟨⟨bu, v, wu_eq, wu_ne (by decide) m2, m3.keep fun k a b => wu_ne (by omega) rfl, m4.keep fun k a b => wu_ne (by omega) rfl, m5, m6, m7, by omega, m9, m10, m11⟩, fun k a => wu_ne (by omega) rfl, rfl, rfl⟩
  · omega
