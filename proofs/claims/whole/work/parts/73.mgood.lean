/-! SignHouseModel: isDivided, base, passesBy, passes -/
/-- is it a prime: so many odd divisors from f on -/
def ipr (p : Nat) : Nat → Nat → Nat → Nat
  | 0, _, b => b
  | n + 1, f, b => if p < f * f then b else ipr p n (f + 2) (if b ≠ 0 ∧ p % f ≠ 0 then 1 else 0)
theorem ipr_prl1 : ∀ i, i < 127 → ipr (3 + 2 * i) 10 3 1 ≠ 0 → ∃ k, k < 53 ∧ prl k = 3 + 2 * i := by decide +kernel
theorem ipr_prl2 : ∀ k, k < 53 → ∃ i, i < 127 ∧ prl k = 3 + 2 * i ∧ ipr (3 + 2 * i) 10 3 1 ≠ 0 := by decide +kernel
theorem ipr_lt (p : Nat) : ∀ n f b, b < 2 → ipr p n f b < 2
  | 0, _, b, h => h
  | n + 1, f, b, h => by
    unfold ipr
    split
    · exact h
    · exact ipr_lt p n _ _ (by split <;> decide)
theorem ND_iff (C : Nat) : ND C ↔ ∀ i, i < 127 → ipr (3 + 2 * i) 10 3 1 ≠ 0 → C % (3 + 2 * i) ≠ 0 := by
  constructor
  · intro h i hi hp
    obtain ⟨k, hk, e⟩ := ipr_prl1 i hi hp
    rw [← e]
    exact h k hk
  · intro h k hk
    obtain ⟨i, hi, e, hp⟩ := ipr_prl2 k hk
    rw [e]
    exact h i hi hp
set_option maxRecDepth 100000 in
set_option maxHeartbeats 4000000 in
theorem c_isDivided {g : ab_G} {N : Nat} {v : Nat → Nat} {fs : List Value} {w : ab_W} (h : w 74 = mdX fs) (hx : w 75 = xA v) (hv : bnd (v 8)) : ab_Ct MX8_isDivided g [.ref 74] N w (fun r N' w' => (∃ b, b < 2 ∧ r = some (.int (nI b)) ∧ (b = 1 ↔ ¬ ND (v 8))) ∧ N = N' ∧ w = w') := by
  have K : ∀ k i, i + k = 127 → (∀ j, j < i → ipr (3 + 2 * j) 10 3 1 ≠ 0 → v 8 % (3 + 2 * j) ≠ 0) → ab_St MX8_isDivided g 0 0 2 [(1, .int (nI (3 + 2 * i))), (0, .ref 74)] [] N w (fun r N' w' => (∃ b, b < 2 ∧ r = some (.int (nI b)) ∧ (b = 1 ↔ ¬ ND (v 8))) ∧ N = N' ∧ w = w') := by
    intro k
    induction k with
    | zero =>
      intro i hi hall
      obtain rfl : i = 127 := by omega
      refine r_iload_n dX8_isDivided_2 rfl ?_
      refine r_sipush (v := nI 256) dX8_isDivided_3 (by decide) ?_
      first | refine r_icmp_geN (tgt := 64) dX8_isDivided_6 (by decide) (by omega) (by omega) (fun h6 => ?_) (fun h6 => ?_) | refine r_icmp_ge (tgt := 64) dX8_isDivided_6 (by decide) (fun h6 => ?_) (fun h6 => ?_)
      · refine r_iconst (v := nI 0) dX8_isDivided_64 (by decide) ?_
        refine r_ret (r := (some (.int _))) dX8_isDivided_65 (by decide) (by decide) ?_
        exact ⟨⟨0, by decide, rfl, ⟨fun q => absurd q (by decide), fun q => absurd ((ND_iff _).mpr hall) q⟩⟩, rfl, rfl⟩
      · omega
    | succ k ih =>
      intro i hi hall
      have K42 : ∀ b, b < 2 → b = ipr (3 + 2 * i) 10 3 1 → ∀ L, lk L 0 = some (.ref 74) → lk L 1 = some (.int (nI (3 + 2 * i))) → lk L 2 = some (.int (nI b)) → lv_pick L [2, 3] = [(1, .int (nI (3 + 2 * i))), (0, .ref 74)] → lv_pick L [1, 2, 3] = [(2, .int (nI b)), (1, .int (nI (3 + 2 * i))), (0, .ref 74)] → ab_St MX8_isDivided g 0 0 42 L [] N w (fun r N' w' => (∃ b, b < 2 ∧ r = some (.int (nI b)) ∧ (b = 1 ↔ ¬ ND (v 8))) ∧ N = N' ∧ w = w') := by
        intro b hb hbe L _ _ _ _ hL
        refine r_sub [1, 2, 3] hL ?_
        refine r_iload_n dX8_isDivided_42 rfl ?_
        first | refine r_if_eqN (tgt := 58) dX8_isDivided_43 (by decide) (by omega) (fun h43 => ?_) (fun h43 => ?_) | refine r_if_eq (tgt := 58) dX8_isDivided_43 (by decide) (fun h43 => ?_) (fun h43 => ?_)
        · refine r_iinc (L0 := [(2, _), (0, _)]) dX8_isDivided_58 rfl (by first | exact iinc2 _ | rfl) (by decide) rfl ?_
          refine r_goto (tgt := 2) dX8_isDivided_61 (by decide) ?_
          rw [show 3 + 2 * i + 2 = 3 + 2 * (i + 1) by omega]
          refine r_sub [0, 2] rfl ?_
          refine ih (i + 1) (by omega) fun j hj hp => ?_
          by_cases e : j = i
          · subst e
            omega
          · exact hall j (by omega) hp
        · refine r_aload_n dX8_isDivided_46 rfl ?_
          refine r_bipush (v := nI 8) dX8_isDivided_47 (by decide) ?_
          refine r_iload_n dX8_isDivided_49 rfl ?_
          refine r_invV dX8_isDivided_50 kX8_191 (c_restSmall (a := 8) (y := 3 + 2 * i) h hx (by decide) hv (by omega) (by omega)) rfl rfl (by repeat first | exact wu_eq | assumption | (apply wu_ne; first | omega | assumption | (apply Ne.symm; assumption))) rfl rfl ⟨by decide, by decide⟩ (Nat.le_of_ble_eq_true rfl) ⟨by decide, by decide⟩ ⟨rfl, rfl⟩ ?_
          have hm := Nat.mod_lt (v 8) (show 0 < 3 + 2 * i by omega)
          rintro _ _ _ ⟨rfl, rfl, rfl⟩
          first | refine r_if_neN (tgt := 58) dX8_isDivided_53 (by decide) (by omega) (fun h53 => ?_) (fun h53 => ?_) | refine r_if_ne (tgt := 58) dX8_isDivided_53 (by decide) (fun h53 => ?_) (fun h53 => ?_)
          · refine r_iinc (L0 := [(2, _), (0, _)]) dX8_isDivided_58 rfl (by first | exact iinc2 _ | rfl) (by decide) rfl ?_
            refine r_goto (tgt := 2) dX8_isDivided_61 (by decide) ?_
            rw [show 3 + 2 * i + 2 = 3 + 2 * (i + 1) by omega]
            refine r_sub [0, 2] rfl ?_
            refine ih (i + 1) (by omega) fun j hj hp => ?_
            by_cases e : j = i
            · subst e
              exact h53
            · exact hall j (by omega) hp
          · refine r_iconst (v := nI 1) dX8_isDivided_56 (by decide) ?_
            refine r_ret (r := (some (.int _))) dX8_isDivided_57 (by decide) (by decide) ?_
            exact ⟨⟨1, by decide, rfl, ⟨fun _ q => absurd h53 ((ND_iff _).mp q i (by omega) (by omega)), fun _ => rfl⟩⟩, rfl, rfl⟩
      have K13 : ∀ n f b, b < 2 → 0 < f → f < 100 → 3 + 2 * i < (f + 2 * n) * (f + 2 * n) → ipr (3 + 2 * i) n f b = ipr (3 + 2 * i) 10 3 1 → ab_St MX8_isDivided g 0 0 13 [(3, .int (nI f)), (2, .int (nI b)), (1, .int (nI (3 + 2 * i))), (0, .ref 74)] [] N w (fun r N' w' => (∃ b, b < 2 ∧ r = some (.int (nI b)) ∧ (b = 1 ↔ ¬ ND (v 8))) ∧ N = N' ∧ w = w') := by
        intro n
        induction n with
        | zero =>
          intro f b hb hf0 hf hff hip
          have hf2 : f * f ≤ 100 * 100 := Nat.mul_le_mul (by omega) (by omega)
          rw [Nat.mul_zero, Nat.add_zero] at hff
          refine r_iload_n dX8_isDivided_13 rfl ?_
          refine r_iload_n dX8_isDivided_14 rfl ?_
          first | refine r_imulN dX8_isDivided_15 ?_ | refine r_imul dX8_isDivided_15 ?_
          refine r_iload_n dX8_isDivided_16 rfl ?_
          first | refine r_icmp_gtN (tgt := 42) dX8_isDivided_17 (by decide) (by omega) (by omega) (fun h17 => ?_) (fun h17 => ?_) | refine r_icmp_gt (tgt := 42) dX8_isDivided_17 (by decide) (fun h17 => ?_) (fun h17 => ?_)
          · exact K42 b hb hip _ rfl rfl rfl rfl rfl
          · omega
        | succ n ihn =>
          intro f b hb hf0 hf hff hip
          have hf2 : f * f ≤ 100 * 100 := Nat.mul_le_mul (by omega) (by omega)
          have hpm := Nat.mod_lt (3 + 2 * i) hf0
          unfold ipr at hip
          have hnx : ∀ b', b' = (if b ≠ 0 ∧ (3 + 2 * i) % f ≠ 0 then 1 else 0) → ¬ 3 + 2 * i < f * f → f < 98 → ab_St MX8_isDivided g 0 0 13 [(3, .int (nI (f + 2))), (2, .int (nI b')), (1, .int (nI (3 + 2 * i))), (0, .ref 74)] [] N w (fun r N' w' => (∃ b, b < 2 ∧ r = some (.int (nI b)) ∧ (b = 1 ↔ ¬ ND (v 8))) ∧ N = N' ∧ w = w') := by
            intro b' hb' hle hf98
            rw [if_neg hle, ← hb'] at hip
            refine ihn (f + 2) b' (by rw [hb']; split <;> decide) (by omega) (by omega) ?_ hip
            rw [show f + 2 + 2 * n = f + 2 * (n + 1) by omega]
            exact hff
          have hf98 : ¬ 3 + 2 * i < f * f → f < 98 := fun q => Nat.lt_of_not_le fun q2 => by
            have : 98 * 98 ≤ f * f := Nat.mul_le_mul q2 q2
            omega
          refine r_iload_n dX8_isDivided_13 rfl ?_
          refine r_iload_n dX8_isDivided_14 rfl ?_
          first | refine r_imulN dX8_isDivided_15 ?_ | refine r_imul dX8_isDivided_15 ?_
          refine r_iload_n dX8_isDivided_16 rfl ?_
          first | refine r_icmp_gtN (tgt := 42) dX8_isDivided_17 (by decide) (by omega) (by omega) (fun h17 => ?_) (fun h17 => ?_) | refine r_icmp_gt (tgt := 42) dX8_isDivided_17 (by decide) (fun h17 => ?_) (fun h17 => ?_)
          · rw [if_pos (by omega)] at hip
            exact K42 b hb hip _ rfl rfl rfl rfl rfl
          · refine r_iload_n dX8_isDivided_20 rfl ?_
            first | refine r_if_eqN (tgt := 34) dX8_isDivided_21 (by decide) (by omega) (fun h21 => ?_) (fun h21 => ?_) | refine r_if_eq (tgt := 34) dX8_isDivided_21 (by decide) (fun h21 => ?_) (fun h21 => ?_)
            · refine r_iconst (v := nI 0) dX8_isDivided_34 (by decide) ?_
              refine r_istore_n (i := 2) (L0 := [(3, _), (1, _), (0, _)]) dX8_isDivided_35 rfl (by decide) rfl ?_
              refine r_iinc (L0 := [(2, _), (1, _), (0, _)]) dX8_isDivided_36 rfl (by first | exact iinc2 _ | rfl) (by decide) rfl ?_
              refine r_goto (tgt := 13) dX8_isDivided_39 (by decide) ?_
              refine r_sub [0, 1, 2, 3] rfl ?_
              exact hnx 0 (by rw [if_neg (by omega)]) (by omega) (hf98 (by omega))
            · refine r_iload_n dX8_isDivided_24 rfl ?_
              refine r_iload_n dX8_isDivided_25 rfl ?_
              refine r_iremN dX8_isDivided_26 (by omega) (by omega) (by omega) ?_
              first | refine r_if_eqN (tgt := 34) dX8_isDivided_27 (by decide) (by omega) (fun h27 => ?_) (fun h27 => ?_) | refine r_if_eq (tgt := 34) dX8_isDivided_27 (by decide) (fun h27 => ?_) (fun h27 => ?_)
              · refine r_iconst (v := nI 0) dX8_isDivided_34 (by decide) ?_
                refine r_istore_n (i := 2) (L0 := [(3, _), (1, _), (0, _)]) dX8_isDivided_35 rfl (by decide) rfl ?_
                refine r_iinc (L0 := [(2, _), (1, _), (0, _)]) dX8_isDivided_36 rfl (by first | exact iinc2 _ | rfl) (by decide) rfl ?_
                refine r_goto (tgt := 13) dX8_isDivided_39 (by decide) ?_
                refine r_sub [0, 1, 2, 3] rfl ?_
                exact hnx 0 (by rw [if_neg (by omega)]) (by omega) (hf98 (by omega))
              · refine r_iconst (v := nI 1) dX8_isDivided_30 (by decide) ?_
                refine r_goto (tgt := 35) dX8_isDivided_31 (by decide) ?_
                refine r_istore_n (i := 2) (L0 := [(3, _), (1, _), (0, _)]) dX8_isDivided_35 rfl (by decide) rfl ?_
                refine r_iinc (L0 := [(2, _), (1, _), (0, _)]) dX8_isDivided_36 rfl (by first | exact iinc2 _ | rfl) (by decide) rfl ?_
                refine r_goto (tgt := 13) dX8_isDivided_39 (by decide) ?_
                refine r_sub [0, 1, 2, 3] rfl ?_
                exact hnx 1 (by rw [if_pos ⟨by omega, by omega⟩]) (by omega) (hf98 (by omega))
      refine r_iload_n dX8_isDivided_2 rfl ?_
      refine r_sipush (v := nI 256) dX8_isDivided_3 (by decide) ?_
      first | refine r_icmp_geN (tgt := 64) dX8_isDivided_6 (by decide) (by omega) (by omega) (fun h6 => ?_) (fun h6 => ?_) | refine r_icmp_ge (tgt := 64) dX8_isDivided_6 (by decide) (fun h6 => ?_) (fun h6 => ?_)
      · omega
      · refine r_iconst (v := nI 1) dX8_isDivided_9 (by decide) ?_
        refine r_istore_n (i := 2) (L0 := [(1, _), (0, _)]) dX8_isDivided_10 rfl (by decide) rfl ?_
        refine r_iconst (v := nI 3) dX8_isDivided_11 (by decide) ?_
        refine r_istore_n (i := 3) (L0 := [(2, _), (1, _), (0, _)]) dX8_isDivided_12 rfl (by decide) rfl ?_
        exact K13 10 3 1 (by decide) (by decide) (by decide) (by omega) rfl
  refine ab_Ct.of (by decide +kernel) (Nat.le_of_ble_eq_true rfl) (by rintro _ _ _ ⟨⟨b, hb, rfl, -⟩, -, -⟩; exact nI_zk hb) ?_
  show ab_St MX8_isDivided g 0 0 0 [(0, .ref 74)] [] _ _ _
  refine r_iconst (v := nI 3) dX8_isDivided_0 (by decide) ?_
  refine r_istore_n (i := 1) (L0 := [(0, _)]) dX8_isDivided_1 rfl (by decide) rfl ?_
  exact K 127 0 (by decide) fun j hj => absurd hj (by omega)
set_option maxRecDepth 100000 in
set_option maxHeartbeats 4000000 in
theorem c_base {g : ab_G} {N k : Nat} {w : ab_W} (hk : k < 8) : ab_Ct MX8_base g [.int (nI k)] N w (rp (some (.int (nI (bse k)))) N w) := by
  refine ab_Ct.of (by decide +kernel) (Nat.le_of_ble_eq_true rfl) (by rintro _ _ _ ⟨rfl, rfl, rfl⟩; trivial) ?_
  show ab_St MX8_base g 0 0 0 [(0, .int (nI k))] [] _ _ _
  refine r_iload_n dX8_base_0 rfl ?_
  first | refine r_if_neN (tgt := 8) dX8_base_1 (by decide) (by omega) (fun h1 => ?_) (fun h1 => ?_) | refine r_if_ne (tgt := 8) dX8_base_1 (by decide) (fun h1 => ?_) (fun h1 => ?_)
  · refine r_iload_n dX8_base_8 rfl ?_
    refine r_iconst (v := nI 1) dX8_base_9 (by decide) ?_
    first | refine r_icmp_neN (tgt := 17) dX8_base_10 (by decide) (by omega) (by omega) (fun h10 => ?_) (fun h10 => ?_) | refine r_icmp_ne (tgt := 17) dX8_base_10 (by decide) (fun h10 => ?_) (fun h10 => ?_)
    · refine r_iload_n dX8_base_17 rfl ?_
      refine r_iconst (v := nI 2) dX8_base_18 (by decide) ?_
      first | refine r_icmp_neN (tgt := 26) dX8_base_19 (by decide) (by omega) (by omega) (fun h19 => ?_) (fun h19 => ?_) | refine r_icmp_ne (tgt := 26) dX8_base_19 (by decide) (fun h19 => ?_) (fun h19 => ?_)
      · refine r_iload_n dX8_base_26 rfl ?_
        refine r_iconst (v := nI 3) dX8_base_27 (by decide) ?_
        first | refine r_icmp_neN (tgt := 36) dX8_base_28 (by decide) (by omega) (by omega) (fun h28 => ?_) (fun h28 => ?_) | refine r_icmp_ne (tgt := 36) dX8_base_28 (by decide) (fun h28 => ?_) (fun h28 => ?_)
        · refine r_iload_n dX8_base_36 rfl ?_
          refine r_iconst (v := nI 4) dX8_base_37 (by decide) ?_
          first | refine r_icmp_neN (tgt := 46) dX8_base_38 (by decide) (by omega) (by omega) (fun h38 => ?_) (fun h38 => ?_) | refine r_icmp_ne (tgt := 46) dX8_base_38 (by decide) (fun h38 => ?_) (fun h38 => ?_)
          · refine r_iload_n dX8_base_46 rfl ?_
            refine r_iconst (v := nI 5) dX8_base_47 (by decide) ?_
            first | refine r_icmp_neN (tgt := 56) dX8_base_48 (by decide) (by omega) (by omega) (fun h48 => ?_) (fun h48 => ?_) | refine r_icmp_ne (tgt := 56) dX8_base_48 (by decide) (fun h48 => ?_) (fun h48 => ?_)
            · refine r_iload_n dX8_base_56 rfl ?_
              refine r_bipush (v := nI 6) dX8_base_57 (by decide) ?_
              first | refine r_icmp_neN (tgt := 67) dX8_base_59 (by decide) (by omega) (by omega) (fun h59 => ?_) (fun h59 => ?_) | refine r_icmp_ne (tgt := 67) dX8_base_59 (by decide) (fun h59 => ?_) (fun h59 => ?_)
              · refine r_bipush (v := nI 19) dX8_base_67 (by decide) ?_
                refine r_ret (r := (some (.int _))) dX8_base_69 (by decide) (by decide) ?_
                obtain rfl : k = 7 := by omega
                exact ⟨rfl, rfl, rfl⟩
              · refine r_bipush (v := nI 17) dX8_base_62 (by decide) ?_
                refine r_goto (tgt := 69) dX8_base_64 (by decide) ?_
                refine r_ret (r := (some (.int _))) dX8_base_69 (by decide) (by decide) ?_
                subst h59
                exact ⟨rfl, rfl, rfl⟩
            · refine r_bipush (v := nI 13) dX8_base_51 (by decide) ?_
              refine r_goto (tgt := 69) dX8_base_53 (by decide) ?_
              refine r_ret (r := (some (.int _))) dX8_base_69 (by decide) (by decide) ?_
              subst h48
              exact ⟨rfl, rfl, rfl⟩
          · refine r_bipush (v := nI 11) dX8_base_41 (by decide) ?_
            refine r_goto (tgt := 69) dX8_base_43 (by decide) ?_
            refine r_ret (r := (some (.int _))) dX8_base_69 (by decide) (by decide) ?_
            subst h38
            exact ⟨rfl, rfl, rfl⟩
        · refine r_bipush (v := nI 7) dX8_base_31 (by decide) ?_
          refine r_goto (tgt := 69) dX8_base_33 (by decide) ?_
          refine r_ret (r := (some (.int _))) dX8_base_69 (by decide) (by decide) ?_
          subst h28
          exact ⟨rfl, rfl, rfl⟩
      · refine r_iconst (v := nI 5) dX8_base_22 (by decide) ?_
        refine r_goto (tgt := 69) dX8_base_23 (by decide) ?_
        refine r_ret (r := (some (.int _))) dX8_base_69 (by decide) (by decide) ?_
        subst h19
        exact ⟨rfl, rfl, rfl⟩
    · refine r_iconst (v := nI 3) dX8_base_13 (by decide) ?_
      refine r_goto (tgt := 69) dX8_base_14 (by decide) ?_
      refine r_ret (r := (some (.int _))) dX8_base_69 (by decide) (by decide) ?_
      subst h10
      exact ⟨rfl, rfl, rfl⟩
  · refine r_iconst (v := nI 2) dX8_base_4 (by decide) ?_
    refine r_goto (tgt := 69) dX8_base_5 (by decide) ?_
    refine r_ret (r := (some (.int _))) dX8_base_69 (by decide) (by decide) ?_
    subst h1
    exact ⟨rfl, rfl, rfl⟩
set_option maxRecDepth 100000 in
set_option maxHeartbeats 4000000 in
theorem c_passesBy {g : ab_G} {N C a k m : Nat} {v : Nat → Nat} {fs : List Value} {w : ab_W} (h : w 74 = mdX fs) (hx : w 75 = xA v) (h8 : v 8 = C) (h13 : v 13 = C - 1) (h14 : v 14 = m) (hC : bn40 C) (hm : bnd m) (ha : a < 65536) (hk : k < 2000) : ab_Ct MX8_passesBy g [.ref 74, .int (nI a), .int (nI k)] N w (fun r N' w' => (∃ b, b < 2 ∧ r = some (.int (nI b)) ∧ (b = 1 ↔ MRB C k m a)) ∧ (∃ v', w' = wu w 75 (xA v') ∧ ∀ j, (j < 9 ∨ 12 < j) → j ≠ 17 → v' j = v j) ∧ N = N') := by
  have hC0 : 0 < C := Nat.lt_of_lt_of_le (by decide) hC.1
  have hC84 : ∀ x, x < C → bnd x := fun x hx => Nat.lt_trans hx (Nat.lt_trans hC.2 (Nat.pow_lt_pow_right (by decide) (by decide)))
  have h80 : ∀ x y, x < C → y < C → bn83 (x * y) := fun x y q1 q2 => Nat.lt_trans (Nat.mul_lt_mul'' (Nat.lt_trans q1 hC.2) (Nat.lt_trans q2 hC.2)) (by rw [← Nat.pow_add]; exact Nat.pow_lt_pow_right (by decide) (by decide))
  have h40 : ∀ x, x < C → x < 65536 ^ 40 := fun x q => Nat.lt_trans q hC.2
  have K : ∀ n j v1, j + n + 1 = max k 1 → a ^ m % C ≠ 1 → (∀ i, i ≤ j → sq C (a ^ m % C) i ≠ C - 1) → v1 10 = sq C (a ^ m % C) j → (∀ j, (j < 9 ∨ 12 < j) → j ≠ 17 → v1 j = v j) → ab_St MX8_passesBy g 0 0 47 [(4, .int (nI (j + 1))), (3, .int (nI 0)), (0, .ref 74), (1, .int (nI a)), (2, .int (nI k))] [] N (wu w 75 (xA v1)) (fun r N' w' => (∃ b, b < 2 ∧ r = some (.int (nI b)) ∧ (b = 1 ↔ MRB C k m a)) ∧ (∃ v', w' = wu w 75 (xA v') ∧ ∀ j, (j < 9 ∨ 12 < j) → j ≠ 17 → v' j = v j) ∧ N = N') := by
    intro n
    induction n with
    | zero =>
      intro j v1 hj h1 hno e10 hfr
      refine r_iload dX8_passesBy_47 rfl ?_
      refine r_iload_n dX8_passesBy_49 rfl ?_
      first | refine r_icmp_geN (tgt := 106) dX8_passesBy_50 (by decide) (by omega) (by omega) (fun h50 => ?_) (fun h50 => ?_) | refine r_icmp_ge (tgt := 106) dX8_passesBy_50 (by decide) (fun h50 => ?_) (fun h50 => ?_)
      · refine r_iload_n dX8_passesBy_106 rfl ?_
        refine r_ret (r := (some (.int _))) dX8_passesBy_107 (by decide) (by decide) ?_
        refine ⟨⟨0, by decide, rfl, ⟨fun q => absurd q (by decide), ?_⟩⟩, ⟨v1, rfl, hfr⟩, rfl⟩
        rintro (q | q | ⟨i, q1, q3, q4⟩)
        · exact absurd q h1
        · exact absurd q (hno 0 (by omega))
        · exact absurd q4 (hno i (by omega))
      · omega
    | succ n ih =>
      intro j v1 hj h1 hno e10 hfr
      have hx1 : a ^ m % C < C := Nat.mod_lt _ hC0
      have hsq := sq_lt hx1 j
      have hsq1 := sq_lt hx1 (j + 1)
      have hR : v1 10 < C := by rw [e10]; exact hsq
      have e8 := (hfr 8 (by decide) (by decide)).trans h8
      have e13 := (hfr 13 (by decide) (by decide)).trans h13
      have hl13 : bnd (C - 1) := hC84 _ (by omega)
      refine r_iload dX8_passesBy_47 rfl ?_
      refine r_iload_n dX8_passesBy_49 rfl ?_
      first | refine r_icmp_geN (tgt := 106) dX8_passesBy_50 (by decide) (by omega) (by omega) (fun h50 => ?_) (fun h50 => ?_) | refine r_icmp_ge (tgt := 106) dX8_passesBy_50 (by decide) (fun h50 => ?_) (fun h50 => ?_)
      · omega
      · refine r_iload_n dX8_passesBy_53 rfl ?_
        first | refine r_if_neN (tgt := 106) dX8_passesBy_54 (by decide) (by omega) (fun h54 => ?_) (fun h54 => ?_) | refine r_if_ne (tgt := 106) dX8_passesBy_54 (by decide) (fun h54 => ?_) (fun h54 => ?_)
        · omega
        · refine r_aload_n dX8_passesBy_57 rfl ?_
          refine r_bipush (v := nI 11) dX8_passesBy_58 (by decide) ?_
          refine r_bipush (v := nI 10) dX8_passesBy_60 (by decide) ?_
          refine r_bipush (v := nI 10) dX8_passesBy_62 (by decide) ?_
          refine r_invV dX8_passesBy_64 kX8_148 (c_times6 (t := 11) (a := 10) (b := 10) (v := v1) (by repeat first | exact wu_eq | assumption | (apply wu_ne; first | omega | assumption | (apply Ne.symm; assumption))) wu_eq (by decide) (by decide) (by decide) (by decide) (by decide) (h40 _ hR) (h40 _ hR) (by decide)) rfl rfl (by repeat first | exact wu_eq | assumption | (apply wu_ne; first | omega | assumption | (apply Ne.symm; assumption))) rfl rfl ⟨by decide, by decide⟩ (Nat.le_of_ble_eq_true rfl) ⟨by decide, by decide⟩ ⟨rfl, rfl⟩ ?_
          rintro _ _ _ ⟨rfl, rfl, rfl⟩
          rw [wu_wu]
          have e11 : us v1 11 (v1 10 * v1 10) 11 = v1 10 * v1 10 := us_eq
          have f2 : ∀ j, j ≠ 11 → us v1 11 (v1 10 * v1 10) j = v1 j := fun j hj => us_ne hj
          generalize us v1 11 (v1 10 * v1 10) = v2 at e11 f2 ⊢
          have g8 := (f2 8 (by decide)).trans e8
          refine r_aload_n dX8_passesBy_67 rfl ?_
          refine r_bipush (v := nI 11) dX8_passesBy_68 (by decide) ?_
          refine r_bipush (v := nI 8) dX8_passesBy_70 (by decide) ?_
          refine r_invV dX8_passesBy_72 kX8_142 (c_leaves (s := 11) (m := 8) (v := v2) (by repeat first | exact wu_eq | assumption | (apply wu_ne; first | omega | assumption | (apply Ne.symm; assumption))) wu_eq (by decide) (by decide) (by decide) (by decide) (by decide) (by rw [g8]; exact hC.1) (by rw [g8]; exact hC.2) (by rw [e11]; exact h80 _ _ hR hR)) rfl rfl (by repeat first | exact wu_eq | assumption | (apply wu_ne; first | omega | assumption | (apply Ne.symm; assumption))) rfl rfl ⟨by decide, by decide⟩ (Nat.le_of_ble_eq_true rfl) ⟨by decide, by decide⟩ ⟨rfl, rfl⟩ ?_
          rintro _ _ _ ⟨⟨v3, rfl, g11, f3⟩, rfl, rfl⟩
          rw [wu_wu]
          rw [e11, g8, e10] at g11
          refine r_aload_n dX8_passesBy_75 rfl ?_
          refine r_bipush (v := nI 10) dX8_passesBy_76 (by decide) ?_
          refine r_bipush (v := nI 11) dX8_passesBy_78 (by decide) ?_
          refine r_invV dX8_passesBy_80 kX8_139 (c_mcopy (t := 10) (s := 11) (v := v3) (by repeat first | exact wu_eq | assumption | (apply wu_ne; first | omega | assumption | (apply Ne.symm; assumption))) wu_eq (by decide) (by decide) (by decide)) rfl rfl (by repeat first | exact wu_eq | assumption | (apply wu_ne; first | omega | assumption | (apply Ne.symm; assumption))) rfl rfl ⟨by decide, by decide⟩ (Nat.le_of_ble_eq_true rfl) ⟨by decide, by decide⟩ ⟨rfl, rfl⟩ ?_
          rintro _ _ _ ⟨rfl, rfl, rfl⟩
          rw [wu_wu]
          have i10 : us v3 10 (v3 11) 10 = sq C (a ^ m % C) (j + 1) := us_eq.trans g11
          have f4 : ∀ i, (i < 9 ∨ 12 < i) → i ≠ 17 → us v3 10 (v3 11) i = v i := fun i a1 a2 => (us_ne (by omega)).trans ((f3 i (by omega) (by omega)).trans ((f2 i (by omega)).trans (hfr i a1 a2)))
          generalize us v3 10 (v3 11) = v4 at i10 f4 ⊢
          have i13 := (f4 13 (by decide) (by decide)).trans h13
          refine r_aload_n dX8_passesBy_83 rfl ?_
          refine r_bipush (v := nI 10) dX8_passesBy_84 (by decide) ?_
          refine r_bipush (v := nI 13) dX8_passesBy_86 (by decide) ?_
          refine r_invV dX8_passesBy_88 kX8_200 (c_compare (a := 10) (b := 13) (v := v4) (by repeat first | exact wu_eq | assumption | (apply wu_ne; first | omega | assumption | (apply Ne.symm; assumption))) wu_eq (by decide) (by decide) (by rw [i10]; exact hC84 _ hsq1) (by rw [i13]; exact hl13)) rfl rfl (by repeat first | exact wu_eq | assumption | (apply wu_ne; first | omega | assumption | (apply Ne.symm; assumption))) rfl rfl ⟨by decide, by decide⟩ (Nat.le_of_ble_eq_true rfl) ⟨by decide, by decide⟩ ⟨rfl, rfl⟩ ?_
          rintro _ _ _ ⟨rfl, rfl, rfl⟩
          refine r_if_ne (tgt := 98) dX8_passesBy_91 (by decide) (fun h91 => ?_) (fun h91 => ?_)
          all_goals rw [ord0, i10, i13] at h91
          · refine r_iconst (v := nI 0) dX8_passesBy_98 (by decide) ?_
            refine r_istore_n (i := 3) (L0 := [(4, _), (0, _), (1, _), (2, _)]) dX8_passesBy_99 rfl (by decide) rfl ?_
            refine r_iinc (L0 := [(3, _), (0, _), (1, _), (2, _)]) dX8_passesBy_100 rfl (by first | exact iinc1 _ | rfl) (by decide) rfl ?_
            refine r_goto (tgt := 47) dX8_passesBy_103 (by decide) ?_
            refine r_sub [0, 1, 2, 3, 4] rfl ?_
            refine ih (j + 1) v4 (by omega) h1 ?_ i10 f4
            intro i hi
            by_cases e : i = j + 1
            · rw [e]
              exact h91
            · exact hno i (by omega)
          · refine r_iconst (v := nI 1) dX8_passesBy_94 (by decide) ?_
            refine r_goto (tgt := 99) dX8_passesBy_95 (by decide) ?_
            refine r_istore_n (i := 3) (L0 := [(4, _), (0, _), (1, _), (2, _)]) dX8_passesBy_99 rfl (by decide) rfl ?_
            refine r_iinc (L0 := [(3, _), (0, _), (1, _), (2, _)]) dX8_passesBy_100 rfl (by first | exact iinc1 _ | rfl) (by decide) rfl ?_
            refine r_goto (tgt := 47) dX8_passesBy_103 (by decide) ?_
            have hyes : MRB C k m a := Or.inr (Or.inr ⟨j + 1, by omega, by omega, h91⟩)
            have K106 : ∀ L, lk L 3 = some (.int (nI 1)) → ab_St MX8_passesBy g 0 0 106 L [] N (wu w 75 (xA v4)) (fun r N' w' => (∃ b, b < 2 ∧ r = some (.int (nI b)) ∧ (b = 1 ↔ MRB C k m a)) ∧ (∃ v', w' = wu w 75 (xA v') ∧ ∀ j, (j < 9 ∨ 12 < j) → j ≠ 17 → v' j = v j) ∧ N = N') := by
              intro L hL
              refine r_iload_n dX8_passesBy_106 hL ?_
              refine r_ret (r := (some (.int _))) dX8_passesBy_107 (by decide) (by decide) ?_
              exact ⟨⟨1, by decide, rfl, ⟨fun _ => hyes, fun _ => rfl⟩⟩, ⟨v4, rfl, f4⟩, rfl⟩
            refine r_iload dX8_passesBy_47 rfl ?_
            refine r_iload_n dX8_passesBy_49 rfl ?_
            first | refine r_icmp_geN (tgt := 106) dX8_passesBy_50 (by decide) (by omega) (by omega) (fun h50 => ?_) (fun h50 => ?_) | refine r_icmp_ge (tgt := 106) dX8_passesBy_50 (by decide) (fun h50 => ?_) (fun h50 => ?_)
            · exact K106 _ rfl
            · refine r_iload_n dX8_passesBy_53 rfl ?_
              first | refine r_if_neN (tgt := 106) dX8_passesBy_54 (by decide) (by omega) (fun h54 => ?_) (fun h54 => ?_) | refine r_if_ne (tgt := 106) dX8_passesBy_54 (by decide) (fun h54 => ?_) (fun h54 => ?_)
              · exact K106 _ rfl
              · omega
  have hx1 : a ^ m % C < C := Nat.mod_lt _ hC0
  have ha83 : bn83 a := Nat.lt_of_lt_of_le ha (show 65536 ^ 1 ≤ 65536 ^ 83 from Nat.pow_le_pow_right (by decide) (by decide))
  have hl13 : bnd (C - 1) := hC84 _ (by omega)
  refine ab_Ct.of (by decide +kernel) (Nat.le_of_ble_eq_true rfl) (by rintro _ _ _ ⟨⟨b, hb, rfl, -⟩, -, -⟩; exact nI_zk hb) ?_
  show ab_St MX8_passesBy g 0 0 0 [(0, .ref 74), (1, .int (nI a)), (2, .int (nI k))] [] _ _ _
  refine r_aload_n dX8_passesBy_0 rfl ?_
  refine r_bipush (v := nI 17) dX8_passesBy_1 (by decide) ?_
  refine r_iload_n dX8_passesBy_3 rfl ?_
  refine r_invV dX8_passesBy_4 kX8_145 (c_small (s := 17) (x := a) h hx (by decide) ha) rfl rfl (by repeat first | exact wu_eq | assumption | (apply wu_ne; first | omega | assumption | (apply Ne.symm; assumption))) rfl rfl ⟨by decide, by decide⟩ (Nat.le_of_ble_eq_true rfl) ⟨by decide, by decide⟩ ⟨rfl, rfl⟩ ?_
  rintro _ _ _ ⟨rfl, rfl, rfl⟩
  have f1 : ∀ i, i ≠ 17 → us v 17 a i = v i := fun i q => us_ne q
  have e17 : us v 17 a 17 = a := us_eq
  generalize us v 17 a = v1 at f1 e17 ⊢
  have g8 := (f1 8 (by decide)).trans h8
  have g14 := (f1 14 (by decide)).trans h14
  refine r_aload_n dX8_passesBy_7 rfl ?_
  refine r_bipush (v := nI 17) dX8_passesBy_8 (by decide) ?_
  refine r_bipush (v := nI 14) dX8_passesBy_10 (by decide) ?_
  refine r_bipush (v := nI 8) dX8_passesBy_12 (by decide) ?_
  refine r_invV dX8_passesBy_14 kX8_194 (c_powers (b := 17) (e := 14) (m := 8) (v := v1) (by repeat first | exact wu_eq | assumption | (apply wu_ne; first | omega | assumption | (apply Ne.symm; assumption))) wu_eq (by decide) (by decide) (by decide) (by decide) (by decide) (by decide) (by rw [g8]; exact hC) (by rw [e17]; exact ha83) (by rw [g14]; exact hm)) rfl rfl (by repeat first | exact wu_eq | assumption | (apply wu_ne; first | omega | assumption | (apply Ne.symm; assumption))) rfl rfl ⟨by decide, by decide⟩ (Nat.le_of_ble_eq_true rfl) ⟨by decide, by decide⟩ ⟨rfl, rfl⟩ ?_
  rintro _ _ _ ⟨⟨v2, rfl, e10, f2⟩, rfl, rfl⟩
  rw [wu_wu]
  rw [e17, g14, g8] at e10
  have f3 : ∀ i, (i < 9 ∨ 12 < i) → i ≠ 17 → v2 i = v i := fun i q1 q2 => (f2 i q1).trans (f1 i q2)
  have g13 := (f3 13 (by decide) (by decide)).trans h13
  have K44 : ∀ b, b < 2 → (b = 1 → a ^ m % C = 1 ∨ a ^ m % C = C - 1) → (b = 0 → a ^ m % C ≠ 1 ∧ a ^ m % C ≠ C - 1) → ab_St MX8_passesBy g 0 0 47 [(4, .int (nI 1)), (3, .int (nI b)), (0, .ref 74), (1, .int (nI a)), (2, .int (nI k))] [] N (wu w 75 (xA v2)) (fun r N' w' => (∃ b, b < 2 ∧ r = some (.int (nI b)) ∧ (b = 1 ↔ MRB C k m a)) ∧ (∃ v', w' = wu w 75 (xA v') ∧ ∀ j, (j < 9 ∨ 12 < j) → j ≠ 17 → v' j = v j) ∧ N = N') := by
    intro b hb hb1 hb0
    rcases (by omega : b = 0 ∨ b = 1) with rfl | rfl
    · obtain ⟨q1, q2⟩ := hb0 rfl
      refine K (max k 1 - 1) 0 v2 (by omega) q1 ?_ e10 f3
      intro i hi
      obtain rfl : i = 0 := by omega
      exact q2
    · have hyes : MRB C k m a := by
        rcases hb1 rfl with q | q
        · exact Or.inl q
        · exact Or.inr (Or.inl q)
      have K106 : ∀ L, lk L 3 = some (.int (nI 1)) → ab_St MX8_passesBy g 0 0 106 L [] N (wu w 75 (xA v2)) (fun r N' w' => (∃ b, b < 2 ∧ r = some (.int (nI b)) ∧ (b = 1 ↔ MRB C k m a)) ∧ (∃ v', w' = wu w 75 (xA v') ∧ ∀ j, (j < 9 ∨ 12 < j) → j ≠ 17 → v' j = v j) ∧ N = N') := by
        intro L hL
        refine r_iload_n dX8_passesBy_106 hL ?_
        refine r_ret (r := (some (.int _))) dX8_passesBy_107 (by decide) (by decide) ?_
        exact ⟨⟨1, by decide, rfl, ⟨fun _ => hyes, fun _ => rfl⟩⟩, ⟨v2, rfl, f3⟩, rfl⟩
      refine r_iload dX8_passesBy_47 rfl ?_
      refine r_iload_n dX8_passesBy_49 rfl ?_
      first | refine r_icmp_geN (tgt := 106) dX8_passesBy_50 (by decide) (by omega) (by omega) (fun h50 => ?_) (fun h50 => ?_) | refine r_icmp_ge (tgt := 106) dX8_passesBy_50 (by decide) (fun h50 => ?_) (fun h50 => ?_)
      · exact K106 _ rfl
      · refine r_iload_n dX8_passesBy_53 rfl ?_
        first | refine r_if_neN (tgt := 106) dX8_passesBy_54 (by decide) (by omega) (fun h54 => ?_) (fun h54 => ?_) | refine r_if_ne (tgt := 106) dX8_passesBy_54 (by decide) (fun h54 => ?_) (fun h54 => ?_)
        · exact K106 _ rfl
        · omega
  refine r_aload_n dX8_passesBy_17 rfl ?_
  refine r_bipush (v := nI 10) dX8_passesBy_18 (by decide) ?_
  refine r_iconst (v := nI 1) dX8_passesBy_20 (by decide) ?_
  refine r_invV dX8_passesBy_21 kX8_197 (c_isSmall (s := 10) (x := 1) (v := v2) (by repeat first | exact wu_eq | assumption | (apply wu_ne; first | omega | assumption | (apply Ne.symm; assumption))) wu_eq (by decide) (by rw [e10]; exact hC84 _ hx1) (by decide)) rfl rfl (by repeat first | exact wu_eq | assumption | (apply wu_ne; first | omega | assumption | (apply Ne.symm; assumption))) rfl rfl ⟨by decide, by decide⟩ (Nat.le_of_ble_eq_true rfl) ⟨by decide, by decide⟩ ⟨rfl, rfl⟩ ?_
  rintro _ _ _ ⟨rfl, rfl, rfl⟩
  rw [e10]
  have hb2 : (if a ^ m % C = 1 then 1 else 0) < 2 := by split <;> decide
  first | refine r_if_neN (tgt := 38) dX8_passesBy_24 (by decide) (by omega) (fun h24 => ?_) (fun h24 => ?_) | refine r_if_ne (tgt := 38) dX8_passesBy_24 (by decide) (fun h24 => ?_) (fun h24 => ?_)
  · have hone : a ^ m % C = 1 := by
      refine Classical.not_not.mp fun q => h24 ?_
      rw [if_neg q]
    refine r_iconst (v := nI 1) dX8_passesBy_38 (by decide) ?_
    refine r_goto (tgt := 43) dX8_passesBy_39 (by decide) ?_
    refine r_istore_n (i := 3) (L0 := [(0, _), (1, _), (2, _)]) dX8_passesBy_43 rfl (by decide) rfl ?_
    refine r_iconst (v := nI 1) dX8_passesBy_44 (by decide) ?_
    refine r_istore (i := 4) (L0 := [(3, _), (0, _), (1, _), (2, _)]) dX8_passesBy_45 (by decide) rfl ?_
    exact K44 1 (by decide) (fun _ => Or.inl hone) (fun q => absurd q (by decide))
  · have hnone : a ^ m % C ≠ 1 := fun q => by
      rw [if_pos q] at h24
      exact absurd h24 (by decide)
    refine r_aload_n dX8_passesBy_27 rfl ?_
    refine r_bipush (v := nI 10) dX8_passesBy_28 (by decide) ?_
    refine r_bipush (v := nI 13) dX8_passesBy_30 (by decide) ?_
    refine r_invV dX8_passesBy_32 kX8_200 (c_compare (a := 10) (b := 13) (v := v2) (by repeat first | exact wu_eq | assumption | (apply wu_ne; first | omega | assumption | (apply Ne.symm; assumption))) wu_eq (by decide) (by decide) (by rw [e10]; exact hC84 _ hx1) (by rw [g13]; exact hl13)) rfl rfl (by repeat first | exact wu_eq | assumption | (apply wu_ne; first | omega | assumption | (apply Ne.symm; assumption))) rfl rfl ⟨by decide, by decide⟩ (Nat.le_of_ble_eq_true rfl) ⟨by decide, by decide⟩ ⟨rfl, rfl⟩ ?_
    rintro _ _ _ ⟨rfl, rfl, rfl⟩
    refine r_if_ne (tgt := 42) dX8_passesBy_35 (by decide) (fun h35 => ?_) (fun h35 => ?_)
    all_goals rw [ord0, e10, g13] at h35
    · refine r_iconst (v := nI 0) dX8_passesBy_42 (by decide) ?_
      refine r_istore_n (i := 3) (L0 := [(0, _), (1, _), (2, _)]) dX8_passesBy_43 rfl (by decide) rfl ?_
      refine r_iconst (v := nI 1) dX8_passesBy_44 (by decide) ?_
      refine r_istore (i := 4) (L0 := [(3, _), (0, _), (1, _), (2, _)]) dX8_passesBy_45 (by decide) rfl ?_
      exact K44 0 (by decide) (fun q => absurd q (by decide)) (fun _ => ⟨hnone, h35⟩)
    · refine r_iconst (v := nI 1) dX8_passesBy_38 (by decide) ?_
      refine r_goto (tgt := 43) dX8_passesBy_39 (by decide) ?_
      refine r_istore_n (i := 3) (L0 := [(0, _), (1, _), (2, _)]) dX8_passesBy_43 rfl (by decide) rfl ?_
      refine r_iconst (v := nI 1) dX8_passesBy_44 (by decide) ?_
      refine r_istore (i := 4) (L0 := [(3, _), (0, _), (1, _), (2, _)]) dX8_passesBy_45 (by decide) rfl ?_
      exact K44 1 (by decide) (fun _ => Or.inr h35) (fun q => absurd q (by decide))
