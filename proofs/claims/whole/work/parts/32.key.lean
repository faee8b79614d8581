/-! SignHouse$KeyRows: the inverse of E -/
theorem inv_step (r i : Nat) : (r ^ (2 ^ i - 1) % 65537) * (r ^ (2 ^ i - 1) % 65537) % 65537 * r % 65537 = r ^ (2 ^ (i + 1) - 1) % 65537 := by
  have hp : 0 < 2 ^ i := Nat.pow_pos (by decide)
  have e : 2 ^ (i + 1) - 1 = (2 ^ i - 1) + (2 ^ i - 1) + 1 := by
    rw [Nat.pow_succ]
    omega
  rw [e, Nat.pow_succ, Nat.pow_add, ← Nat.mul_mod, Nat.mul_mod (_ % 65537) r, Nat.mod_mod, ← Nat.mul_mod]
set_option maxRecDepth 100000 in
set_option maxHeartbeats 4000000 in
theorem c_inverseByE {g : ab_G} {N r : Nat} {w : ab_W} (hr : r < 65537) : ab_Ct MX2_inverseByE g [.long (lN r)] N w (rp (some (.long (lN (r ^ 65535 % 65537)))) N w) := by
  have hne : ¬ lN 65537 = 0 := by decide
  have K : ∀ k i, i + k = 16 → ab_St MX2_inverseByE g 0 0 5 [(4, .int (nI i)), (2, .long (lN (r ^ (2 ^ i - 1) % 65537))), (0, .long (lN r))] [] N w (rp (some (.long (lN (r ^ 65535 % 65537)))) N w) := by
    intro k
    induction k with
    | zero =>
      intro i hi
      obtain rfl : i = 16 := by omega
      refine r_iload dX2_inverseByE_5 rfl ?_
      refine r_bipush (v := nI 16) dX2_inverseByE_7 (by decide) ?_
      first | refine r_icmp_geN (tgt := 32) dX2_inverseByE_9 (by decide) (by omega) (by omega) (fun h9 => ?_) (fun h9 => ?_) | refine r_icmp_ge (tgt := 32) dX2_inverseByE_9 (by decide) (fun h9 => ?_) (fun h9 => ?_)
      · refine r_lload_n dX2_inverseByE_32 rfl ?_
        refine r_ret (r := (some (.long _))) dX2_inverseByE_33 (by decide) (by decide) ?_
        exact ⟨rfl, rfl, rfl⟩
      · omega
    | succ k ih =>
      intro i hi
      have hs := inv_step r i
      have hx : r ^ (2 ^ i - 1) % 65537 < 65537 := Nat.mod_lt _ (by decide)
      generalize r ^ (2 ^ i - 1) % 65537 = x at hs hx ⊢
      have hxx : x * x < 65537 * 65537 := Nat.mul_lt_mul'' hx hx
      have hy : x * x % 65537 < 65537 := Nat.mod_lt _ (by decide)
      have hyr : x * x % 65537 * r < 65537 * 65537 := Nat.mul_lt_mul'' hy hr
      refine r_iload dX2_inverseByE_5 rfl ?_
      refine r_bipush (v := nI 16) dX2_inverseByE_7 (by decide) ?_
      first | refine r_icmp_geN (tgt := 32) dX2_inverseByE_9 (by decide) (by omega) (by omega) (fun h9 => ?_) (fun h9 => ?_) | refine r_icmp_ge (tgt := 32) dX2_inverseByE_9 (by decide) (fun h9 => ?_) (fun h9 => ?_)
      · omega
      · refine r_lload_n dX2_inverseByE_12 rfl ?_
        refine r_lload_n dX2_inverseByE_13 rfl ?_
        first | refine r_lmulN dX2_inverseByE_14 ?_ | refine r_lmul dX2_inverseByE_14 ?_
        refine r_ldc2 dX2_inverseByE_15 qX2_110 ?_
        refine r_toJ (y := lN 65537) rfl ?_
        refine r_lrem dX2_inverseByE_18 hne ?_
        rw [lN_rem (by omega) (by decide) (by decide)]
        refine r_lload_n dX2_inverseByE_19 rfl ?_
        first | refine r_lmulN dX2_inverseByE_20 ?_ | refine r_lmul dX2_inverseByE_20 ?_
        refine r_ldc2 dX2_inverseByE_21 qX2_110 ?_
        refine r_toJ (y := lN 65537) rfl ?_
        refine r_lrem dX2_inverseByE_24 hne ?_
        rw [lN_rem (by omega) (by decide) (by decide), hs]
        refine r_lstore_n (i := 2) (L0 := [(4, _), (0, _)]) dX2_inverseByE_25 rfl (by decide) rfl ?_
        refine r_iinc (L0 := [(2, _), (0, _)]) dX2_inverseByE_26 rfl (by first | exact iinc1 _ | rfl) (by decide) rfl ?_
        refine r_goto (tgt := 5) dX2_inverseByE_29 (by decide) ?_
        refine r_sub [0, 1, 2] rfl ?_
        exact ih (i + 1) (by omega)
  refine ab_Ct.of (by decide +kernel) (Nat.le_of_ble_eq_true rfl) (by rintro _ _ _ ⟨rfl, rfl, rfl⟩; trivial) ?_
  show ab_St MX2_inverseByE g 0 0 0 [(0, .long (lN r))] [] _ _ _
  refine r_lconst (v := lN 1) dX2_inverseByE_0 (by decide) ?_
  refine r_lstore_n (i := 2) (L0 := [(0, _)]) dX2_inverseByE_1 rfl (by decide) rfl ?_
  refine r_iconst (v := nI 0) dX2_inverseByE_2 (by decide) ?_
  refine r_istore (i := 4) (L0 := [(2, _), (0, _)]) dX2_inverseByE_3 (by decide) rfl ?_
  have h := K 16 0 (by omega)
  rw [show r ^ (2 ^ 0 - 1) % 65537 = 1 from rfl] at h
  exact h
