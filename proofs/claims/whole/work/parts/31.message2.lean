/-! SignHouse$Message: append, the maker -/
/-- the first j of m bytes of u behind the n bytes of d -/
def med (d : Nat → Nat) (n u m j : Nat) : Nat → Nat := fun i => if n ≤ i ∧ i < n + j then u / 2 ^ (8 * (m - 1 - (i - n))) % 256 else d i
theorem med_lt {d : Nat → Nat} (hd : ∀ i, d i < 256) (n u m j i : Nat) : med d n u m j i < 256 := by
  unfold med
  split
  · exact Nat.mod_lt _ (by decide)
  · exact hd i
theorem med_0 (d : Nat → Nat) (n u m : Nat) : med d n u m 0 = d := by
  funext i
  unfold med
  rw [if_neg (by omega)]
theorem med_up (d : Nat → Nat) (n u m j k : Nat) (h : j + (k + 1) = m) : byt (med d n u m (j + 1)) = va_up (byt (med d n u m j)) (n + j) ((nI (u / 2 ^ (8 * k) % 256)).toInt8.toInt32) := by
  funext i
  unfold va_up byt med
  try dsimp only
  by_cases h1 : i = n + j
  · rw [if_pos h1, if_pos ⟨by omega, by omega⟩, h1, show m - 1 - (n + j - n) = k by omega]
    try rfl
  · rw [if_neg h1]
    by_cases h2 : n ≤ i ∧ i < n + j
    · rw [if_pos h2, if_pos ⟨h2.1, by omega⟩]
    · rw [if_neg h2, if_neg (by omega)]
set_option maxRecDepth 100000 in
set_option maxHeartbeats 4000000 in
theorem c_append {g : ab_G} {N n u m : Nat} {d : Nat → Nat} {w : ab_W} (h : MSG w d n) (hu : u < 18446744073709551616) (hm : n + m ≤ 300) (hm8 : m ≤ 8) (x0 : w 0 = xI 8 sH) (x1 : w 1 = xI 64 sK) : ab_Ct MX3_append g [.ref 66, .long (lN u), .int (nI m)] N w (fun r N' w' => MSG w' (med d n u m m) (n + m) ∧ (∀ k, (k < 66 ∨ 70 < k) → w' k = w k) ∧ r = none ∧ N = N') := by
  obtain ⟨f, a0, a1, a2, a3, a4, a5, a6⟩ := h
  have K : ∀ k j w1, j + k = m → w1 66 = meO (n + j) → w1 67 = aB 300 (byt (med d n u m j)) → (∀ q, q ≠ 66 → q ≠ 67 → w1 q = w q) → ab_St MX3_append g 0 0 5 [(4, .int (nI k - 1)), (0, .ref 66), (1, .long (lN u)), (3, .int (nI m))] [] N w1 (fun r N' w' => MSG w' (med d n u m m) (n + m) ∧ (∀ k, (k < 66 ∨ 70 < k) → w' k = w k) ∧ r = none ∧ N = N') := by
    intro k
    induction k with
    | zero =>
      intro j w1 hj b0 b1 hf
      obtain rfl : j = m := by omega
      refine r_iload dX3_append_5 rfl ?_
      refine r_if_lt (tgt := 56) dX3_append_7 (by decide) (fun _ => ?_) (fun h => absurd nI0lt h)
      refine r_aload_n dX3_append_56 rfl ?_
      refine r_invV dX3_append_57 kX3_20 (c_makeHash (n := n + j) (d := med d n u j j) b0 b1 ((hf 68 (by decide) (by decide)).trans a2) ((hf 69 (by decide) (by decide)).trans a3) (sha_0 _ _) ((hf 70 (by decide) (by decide)).trans a4) (med_lt a5 _ _ _ _) hm ((hf 0 (by decide) (by decide)).trans x0) ((hf 1 (by decide) (by decide)).trans x1)) rfl rfl (by repeat first | exact wu_eq | assumption | (apply wu_ne; first | omega | assumption | (apply Ne.symm; assumption))) rfl rfl ⟨by decide, by decide⟩ (Nat.le_of_ble_eq_true rfl) ⟨by decide, by decide⟩ ⟨rfl, rfl⟩ ?_
      rintro _ _ _ ⟨m1, f1, rfl, rfl⟩
      refine r_ret (r := none) dX3_append_60 (by decide) (by decide) ?_
      exact ⟨m1, fun k hk => (f1 k (by omega) (by omega)).trans (hf k (by omega) (by omega)), rfl, rfl⟩
    | succ k ih =>
      intro j w1 hj b0 b1 hf
      rw [i32_pm]
      refine r_iload dX3_append_5 rfl ?_
      first | refine r_if_ltN (tgt := 56) dX3_append_7 (by decide) (by omega) (fun h7 => ?_) | refine r_if_lt (tgt := 56) dX3_append_7 (by decide) (fun h7 => ?_) (fun h7 => ?_)
      refine r_aload_n dX3_append_10 rfl ?_
      refine r_getf dX3_append_11 fX3_23 (by repeat first | exact wu_eq | assumption | (apply wu_ne; first | omega | assumption | (apply Ne.symm; assumption))) (by rfl) ?_
      refine r_aload_n dX3_append_14 rfl ?_
      refine r_getf dX3_append_15 fX3_9 (by repeat first | exact wu_eq | assumption | (apply wu_ne; first | omega | assumption | (apply Ne.symm; assumption))) (by rfl) ?_
      refine r_alen' dX3_append_18 (by repeat first | exact wu_eq | assumption | (apply wu_ne; first | omega | assumption | (apply Ne.symm; assumption))) (by rfl) ?_
      first | refine r_icmp_geN (tgt := 56) dX3_append_19 (by decide) (by omega) (by omega) (fun h19 => ?_) (fun h19 => ?_) | refine r_icmp_ge (tgt := 56) dX3_append_19 (by decide) (fun h19 => ?_) (fun h19 => ?_)
      · omega
      · refine r_aload_n dX3_append_22 rfl ?_
        refine r_getf dX3_append_23 fX3_9 (by repeat first | exact wu_eq | assumption | (apply wu_ne; first | omega | assumption | (apply Ne.symm; assumption))) (by rfl) ?_
        refine r_aload_n dX3_append_26 rfl ?_
        refine r_getf dX3_append_27 fX3_23 (by repeat first | exact wu_eq | assumption | (apply wu_ne; first | omega | assumption | (apply Ne.symm; assumption))) (by rfl) ?_
        refine r_lload_n dX3_append_30 rfl ?_
        refine r_bipush (v := nI 8) dX3_append_31 (by decide) ?_
        refine r_iload dX3_append_33 rfl ?_
        first | refine r_imulN dX3_append_35 ?_ | refine r_imul dX3_append_35 ?_
        refine r_lushrN _ (by omega) dX3_append_36 hu ?_
        first | refine r_l2iN dX3_append_37 ?_ | refine r_l2i dX3_append_37 ?_
        refine r_i2b dX3_append_38 ?_
        refine r_bastore dX3_append_39 (by repeat first | exact wu_eq | assumption | (apply wu_ne; first | omega | assumption | (apply Ne.symm; assumption))) _ rfl (by omega) (by omega) ?_
        refine r_aload_n dX3_append_40 rfl ?_
        refine r_dup dX3_append_41 rfl ?_
        refine r_getf dX3_append_42 fX3_23 (by repeat first | exact wu_eq | assumption | (apply wu_ne; first | omega | assumption | (apply Ne.symm; assumption))) (by rfl) ?_
        refine r_iconst (v := nI 1) dX3_append_45 (by decide) ?_
        first | refine r_iaddN dX3_append_46 ?_ | refine r_iadd dX3_append_46 ?_
        refine r_putf dX3_append_47 fX3_23 (by repeat first | exact wu_eq | assumption | (apply wu_ne; first | omega | assumption | (apply Ne.symm; assumption))) rfl (by exact Nat.le_of_ble_eq_true rfl) (by rfl) (by rfl) ?_
        refine r_iinc (L0 := [(0, _), (1, _), (3, _)]) dX3_append_50 rfl (by first | exact iincm1' _ | rfl) (by decide) rfl ?_
        refine r_goto (tgt := 5) dX3_append_53 (by decide) ?_
        rw [i8_i8, i8_low]
        refine r_sub [0, 1, 2, 3] rfl ?_
        refine ih (j + 1) _ (by omega) wu_eq ?_ ?_
        · rw [med_up d n u m j k (by omega)]
          exact wu_ne (by decide) wu_eq
        · exact fun q h1 h2 => (wu_ne h1 (wu_ne h2 rfl)).trans (hf q h1 h2)
  refine ab_Ct.of (by decide +kernel) (Nat.le_of_ble_eq_true rfl) (by rintro _ _ _ ⟨-, -, rfl, -⟩; trivial) ?_
  show ab_St MX3_append g 0 0 0 [(0, .ref 66), (1, .long (lN u)), (3, .int (nI m))] [] _ _ _
  refine r_iload_n dX3_append_0 rfl ?_
  refine r_iconst (v := nI 1) dX3_append_1 (by decide) ?_
  rw [show (nI 1 : Int32) = 1 by decide]
  refine r_isub dX3_append_2 ?_
  refine r_istore (i := 4) (L0 := [(0, _), (1, _), (3, _)]) dX3_append_3 (by decide) rfl ?_
  exact K m 0 w (by omega) a0 (by rw [med_0]; exact a1) (fun _ _ _ => rfl)
set_option maxRecDepth 100000 in
set_option maxHeartbeats 4000000 in
theorem c_Message_init {g : ab_G} {w : ab_W} (h66 : w 66 = aO 3 [.null, .null, .int 0]) (x0 : w 0 = xI 8 sH) (x1 : w 1 = xI 64 sK) : ab_Ct MX3_init g [.ref 66] 67 w (fun r N' w' => MSG w' (fun _ => 0) 0 ∧ (∀ k, k < 66 → w' k = w k) ∧ r = none ∧ 71 = N') := by
  refine ab_Ct.of (by decide +kernel) (Nat.le_of_ble_eq_true rfl) (by rintro _ _ _ ⟨-, -, rfl, -⟩; trivial) ?_
  show ab_St MX3_init g 0 0 0 [(0, .ref 66)] [] _ _ _
  refine r_aload_n dX3_init_0 rfl ?_
  refine r_obj dX3_init_1 obX3 obI obC (by decide) (by decide) ?_
  refine r_aload_n dX3_init_4 rfl ?_
  refine r_sipush (v := nI 300) dX3_init_5 (by decide) ?_
  refine r_newaB dX3_init_8 rfl (by omega) arB (by decide) (by first | decide | (show _ ≤ 374; omega)) ?_
  refine r_putF dX3_init_10 fX3_9 (by repeat first | exact wu_eq | assumption | (apply wu_ne; first | omega | assumption | (apply Ne.symm; assumption))) rfl rfl rfl (by exact Nat.le_of_ble_eq_true rfl) (by rfl) (by rfl) ?_
  refine r_aload_n dX3_init_13 rfl ?_
  refine r_new (fs := [.null, .null]) dX3_init_14 (ci := 5) rfl iwX6 tyX6_ok nX3_13 itX6 iiX6 (by decide) rfl (by decide) (by decide) ?_
  refine r_dup dX3_init_17 rfl ?_
  refine r_invN 2 dX3_init_18 kX3_15 rfl (c_Sha_init (s := 68) (by repeat first | exact wu_eq | assumption | (apply wu_ne; first | omega | assumption | (apply Ne.symm; assumption)))) rfl rfl ⟨by decide, by decide⟩ (Nat.le_of_ble_eq_true rfl) ⟨by decide, by decide⟩ ⟨rfl, rfl⟩ ?_
  rintro _ _ _ ⟨rfl, rfl, rfl⟩
  refine r_putF dX3_init_21 fX3_16 (by repeat first | exact wu_eq | assumption | (apply wu_ne; first | omega | assumption | (apply Ne.symm; assumption))) rfl rfl rfl (by exact Nat.le_of_ble_eq_true rfl) (by rfl) (by rfl) ?_
  refine r_aload_n dX3_init_24 rfl ?_
  refine r_invV dX3_init_25 kX3_20 (c_makeHash (n := 0) (d := fun _ ↦ 0) (f := fun _ ↦ 0) (st := fun _ ↦ 0) wu_eq (by rw [show byt (fun _ ↦ 0) = fun _ ↦ 0 from rfl]; (repeat first | exact wu_eq | assumption | (apply wu_ne; first | omega | assumption | (apply Ne.symm; assumption)))) (by repeat first | exact wu_eq | assumption | (apply wu_ne; first | omega | assumption | (apply Ne.symm; assumption))) (by repeat first | exact wu_eq | assumption | (apply wu_ne; first | omega | assumption | (apply Ne.symm; assumption))) (fun _ _ ↦ rfl) (by repeat first | exact wu_eq | assumption | (apply wu_ne; first | omega | assumption | (apply Ne.symm; assumption))) (fun _ ↦ (by decide : 0 < 256)) (by decide) (by refine Eq.trans ?_ x0; repeat (first | rfl | (apply wu_ne; omega))) (by refine Eq.trans ?_ x1; repeat (first | rfl | (apply wu_ne; omega)))) rfl rfl (by repeat first | exact wu_eq | assumption | (apply wu_ne; first | omega | assumption | (apply Ne.symm; assumption))) rfl rfl ⟨by decide, by decide⟩ (Nat.le_of_ble_eq_true rfl) ⟨by decide, by decide⟩ ⟨rfl, rfl⟩ ?_
  rintro _ _ _ ⟨m1, f1, rfl, rfl⟩
  refine r_ret (r := none) dX3_init_28 (by decide) (by first | decide | (show _ ≤ 374; omega)) ?_
  refine ⟨m1, fun k hk => (f1 k (by omega) (by omega)).trans ?_, rfl, rfl⟩
  repeat (first | rfl | (apply wu_ne; omega))
