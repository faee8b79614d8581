/-! SignHouse$Modulus: doubling, remainders, powers -/
theorem two_step {v c k : Nat} (_ : 0 < c) : (2 * (v / 2 ^ (k + 1) % c) + dg 2 v k) % c = v / 2 ^ k % c := by
  have e := div_dg 2 v k
  rw [e, Nat.mul_comm (v / 2 ^ (k + 1)) 2, Nat.add_mod, Nat.mul_mod, Nat.mod_mod, ← Nat.mul_mod, ← Nat.add_mod]
set_option maxRecDepth 100000 in
set_option maxHeartbeats 4000000 in
theorem c_twice {g : ab_G} {N M W ni c t x b : Nat} {w : ab_W} (hM : w M = moO M W ni) (hc : w (M + 1) = aN W c) (ht : w t = aN W x) (ht0 : t ≠ M) (ht1 : t ≠ M + 1) (hW : W ≤ 500) (hcW : c < 4294967296 ^ W) (hx : x < c) (hb : b < 2) : ab_Ct MX4_twice g [.ref M, .ref t, .int (nI b)] N w (rt none N (wu w t (aN W ((2 * x + b) % c)))) := by
  have hxW : x < 4294967296 ^ W := by omega
  have hpW : 0 < 4294967296 ^ W := Nat.pow_pos (by decide)
  have hV : (b + 2 * x) % 4294967296 ^ W < 4294967296 ^ W := Nat.mod_lt _ hpW
  have hend : gq 2 b x W = (b + 2 * x) / 4294967296 ^ W := gq_end hxW
  have hgl : gq 2 b x W < 2 := gq_lt hb (by decide)
  obtain ⟨he, hz⟩ := mont_end (s := b + 2 * x) hcW (by omega) rfl hend
  have hres : (if c ≤ b + 2 * x then b + 2 * x - c else b + 2 * x) = (2 * x + b) % c := by
    rw [Nat.add_comm (2 * x)]
    split
    · rename_i h
      rw [Nat.mod_eq_sub_mod h, Nat.mod_eq_of_lt (by omega)]
    · rename_i h
      rw [Nat.mod_eq_of_lt (by omega)]
  rw [hres] at he hz
  generalize (2 * x + b) % c = z at he hz
  have K : ∀ k i, i + k = W → ab_St MX4_twice g 0 0 13 [(5, .int (nI i)), (3, .long (lN (gq 2 b x i))), (0, .ref M), (1, .ref t), (2, .int (nI b))] [] N (wu w t (aJ W (fl i (rJ ((b + 2 * x) % 4294967296 ^ W)) (rJ x)))) (rt none N (wu w t (aN W z))) := by
    intro k
    induction k with
    | zero =>
      intro i hi
      obtain rfl : i = W := by omega
      refine r_iload dX4_twice_13 rfl ?_
      refine r_aload_n dX4_twice_15 rfl ?_
      refine r_alen' dX4_twice_16 (by repeat first | exact wu_eq | assumption | (apply wu_ne; first | omega | assumption | (apply Ne.symm; assumption))) (by rfl) ?_
      first | refine r_icmp_geN (tgt := 52) dX4_twice_17 (by decide) (by omega) (by omega) (fun h17 => ?_) (fun h17 => ?_) | refine r_icmp_ge (tgt := 52) dX4_twice_17 (by decide) (fun h17 => ?_) (fun h17 => ?_)
      · rw [fl_end fun k hk => by unfold rJ; rw [dg_big hxW hk (by decide), dg_big hV hk (by decide)]]
        refine r_lload_n dX4_twice_52 rfl ?_
        refine r_lconst (v := lN 0) dX4_twice_53 (by decide) ?_
        first | refine r_lcmp_neN (tgt := 69) dX4_twice_54 dX4_twice_55 (by decide) (by omega) (by omega) (fun h54 => ?_) (fun h54 => ?_) | refine r_lcmp_ne (tgt := 69) dX4_twice_54 dX4_twice_55 (by decide) (fun h54 => ?_) (fun h54 => ?_)
        · refine r_aload_n dX4_twice_69 rfl ?_
          refine r_aload_n dX4_twice_70 rfl ?_
          refine r_aload_n dX4_twice_71 rfl ?_
          refine r_getf dX4_twice_72 fX4_19 (by repeat first | exact wu_eq | assumption | (apply wu_ne; first | omega | assumption | (apply Ne.symm; assumption))) (by rfl) ?_
          refine r_invS dX4_twice_75 kX4_88 (c_subtract (n := i) (u := (b + 2 * x) % 4294967296 ^ i) (v := c) ht1 wu_eq (wu_ne (Ne.symm ht1) hc) (by omega) hV hcW) rfl rfl ⟨by decide, by decide⟩ (Nat.le_of_ble_eq_true rfl) ⟨by decide, by decide⟩ ⟨rfl, rfl⟩ ?_
          rintro _ _ _ ⟨rfl, rfl, rfl⟩
          refine r_pop dX4_twice_78 rfl ?_
          refine r_ret (r := none) dX4_twice_79 (by decide) (by decide) ?_
          refine ⟨rfl, rfl, ?_⟩
          rw [if_pos (Or.inl h54)] at he
          rw [wu_wu, he]
        · refine r_aload_n dX4_twice_58 rfl ?_
          refine r_aload_n dX4_twice_59 rfl ?_
          refine r_getf dX4_twice_60 fX4_19 (by repeat first | exact wu_eq | assumption | (apply wu_ne; first | omega | assumption | (apply Ne.symm; assumption))) (by rfl) ?_
          refine r_invS dX4_twice_63 kX4_84 (c_order (n := i) (u := (b + 2 * x) % 4294967296 ^ i) (v := c) wu_eq (wu_ne (Ne.symm ht1) hc) (by omega) hV hcW) rfl rfl ⟨by decide, by decide⟩ (Nat.le_of_ble_eq_true rfl) ⟨by decide, by decide⟩ ⟨rfl, rfl⟩ ?_
          rintro _ _ _ ⟨rfl, rfl, rfl⟩
          refine r_if_lt (tgt := 79) dX4_twice_66 (by decide) (fun h66 => ?_) (fun h66 => ?_)
          · refine r_ret (r := none) dX4_twice_79 (by decide) (by decide) ?_
            refine ⟨rfl, rfl, ?_⟩
            rw [if_neg] at he
            · rw [he]
            · rintro (h | h)
              · exact h h54
              · rw [if_neg (by omega)] at h66
                split at h66 <;> exact absurd h66 (by decide)
          · refine r_aload_n dX4_twice_69 rfl ?_
            refine r_aload_n dX4_twice_70 rfl ?_
            refine r_aload_n dX4_twice_71 rfl ?_
            refine r_getf dX4_twice_72 fX4_19 (by repeat first | exact wu_eq | assumption | (apply wu_ne; first | omega | assumption | (apply Ne.symm; assumption))) (by rfl) ?_
            refine r_invS dX4_twice_75 kX4_88 (c_subtract (n := i) (u := (b + 2 * x) % 4294967296 ^ i) (v := c) ht1 wu_eq (wu_ne (Ne.symm ht1) hc) (by omega) hV hcW) rfl rfl ⟨by decide, by decide⟩ (Nat.le_of_ble_eq_true rfl) ⟨by decide, by decide⟩ ⟨rfl, rfl⟩ ?_
            rintro _ _ _ ⟨rfl, rfl, rfl⟩
            refine r_pop dX4_twice_78 rfl ?_
            refine r_ret (r := none) dX4_twice_79 (by decide) (by decide) ?_
            refine ⟨rfl, rfl, ?_⟩
            rw [if_pos] at he
            · rw [wu_wu, he]
            · right
              refine Nat.le_of_not_lt fun h => h66 ?_
              rw [if_pos h]
              decide
      · omega
    | succ k ih =>
      intro i hi
      have h1 := dg_lt x i
      have h2 : gq 2 b x i < 2 := gq_lt hb (by decide)
      have e1 := gq_dg 2 b x i
      have e2 := gq_succ 2 b x i
      rw [Nat.mul_comm 2] at e1 e2
      rw [← dg_mod (v := b + 2 * x) (n := W) (by omega)] at e1
      refine r_iload dX4_twice_13 rfl ?_
      refine r_aload_n dX4_twice_15 rfl ?_
      refine r_alen' dX4_twice_16 (by repeat first | exact wu_eq | assumption | (apply wu_ne; first | omega | assumption | (apply Ne.symm; assumption))) (by rfl) ?_
      first | refine r_icmp_geN (tgt := 52) dX4_twice_17 (by decide) (by omega) (by omega) (fun h17 => ?_) (fun h17 => ?_) | refine r_icmp_ge (tgt := 52) dX4_twice_17 (by decide) (fun h17 => ?_) (fun h17 => ?_)
      · omega
      · refine r_aload_n dX4_twice_20 rfl ?_
        refine r_iload dX4_twice_21 rfl ?_
        refine r_laload' dX4_twice_23 wu_eq (by rfl) _ rfl (by omega) (by omega) ?_
        rw [show fl i (rJ ((b + 2 * x) % 4294967296 ^ W)) (rJ x) i = lN (dg 4294967296 x i) from fl_hi (Nat.le_refl i)]
        refine r_iconst (v := nI 1) dX4_twice_24 (by decide) ?_
        first | refine r_lshlN 1 (by decide) dX4_twice_25 ?_ | refine r_lshl dX4_twice_25 ?_
        refine r_lload_n dX4_twice_26 rfl ?_
        refine r_lor dX4_twice_27 ?_
        rw [lN_or_sum (q := 1) (by omega) (by omega)]
        refine r_lstore (i := 6) (L0 := [(5, _), (3, _), (0, _), (1, _), (2, _)]) dX4_twice_28 (by decide) rfl ?_
        refine r_aload_n dX4_twice_30 rfl ?_
        refine r_iload dX4_twice_31 rfl ?_
        refine r_lload dX4_twice_33 rfl ?_
        refine r_ldc2 dX4_twice_35 qX4_51 ?_
        refine r_land32 dX4_twice_38 ?_
        refine r_lastore dX4_twice_39 (by repeat first | exact wu_eq | assumption | (apply wu_ne; first | omega | assumption | (apply Ne.symm; assumption))) _ rfl (by omega) (by omega) ?_
        refine r_lload dX4_twice_40 rfl ?_
        refine r_bipush (v := nI 32) dX4_twice_42 (by decide) ?_
        first | refine r_lushrN 32 (by decide) dX4_twice_44 (by omega) ?_ | refine r_lushr dX4_twice_44 ?_
        refine r_lstore_n (i := 3) (L0 := [(6, _), (5, _), (0, _), (1, _), (2, _)]) dX4_twice_45 rfl (by decide) rfl ?_
        refine r_iinc (L0 := [(3, _), (6, _), (0, _), (1, _), (2, _)]) dX4_twice_46 rfl (by first | exact iinc1 _ | rfl) (by decide) rfl ?_
        refine r_goto (tgt := 13) dX4_twice_49 (by decide) ?_
        rw [show (2 : Nat) ^ 32 = 4294967296 by decide, show (2 : Nat) ^ 1 = 2 by decide, e1, e2, wu_wu, fl_up' (f := rJ ((b + 2 * x) % 4294967296 ^ W)) (show lN _ = rJ ((b + 2 * x) % 4294967296 ^ W) i from rfl)]
        refine r_sub [0, 1, 3, 4, 5] rfl ?_
        exact ih (i + 1) (by omega)
  have h := K W 0 (by omega)
  rw [fl_0, wu_self ht, gq_0] at h
  refine ab_Ct.of (by decide +kernel) (Nat.le_of_ble_eq_true rfl) (by rintro _ _ _ ⟨rfl, rfl, rfl⟩; trivial) ?_
  show ab_St MX4_twice g 0 0 0 [(0, .ref M), (1, .ref t), (2, .int (nI b))] [] _ _ _
  refine r_iload_n dX4_twice_0 rfl ?_
  first | refine r_if_eqN (tgt := 8) dX4_twice_1 (by decide) (by omega) (fun h1 => ?_) (fun h1 => ?_) | refine r_if_eq (tgt := 8) dX4_twice_1 (by decide) (fun h1 => ?_) (fun h1 => ?_)
  · refine r_lconst (v := lN 0) dX4_twice_8 (by decide) ?_
    refine r_lstore_n (i := 3) (L0 := [(0, _), (1, _), (2, _)]) dX4_twice_9 rfl (by decide) rfl ?_
    refine r_iconst (v := nI 0) dX4_twice_10 (by decide) ?_
    refine r_istore (i := 5) (L0 := [(3, _), (0, _), (1, _), (2, _)]) dX4_twice_11 (by decide) rfl ?_
    subst h1
    exact h
  · refine r_lconst (v := lN 1) dX4_twice_4 (by decide) ?_
    refine r_goto (tgt := 9) dX4_twice_5 (by decide) ?_
    refine r_lstore_n (i := 3) (L0 := [(0, _), (1, _), (2, _)]) dX4_twice_9 rfl (by decide) rfl ?_
    refine r_iconst (v := nI 0) dX4_twice_10 (by decide) ?_
    refine r_istore (i := 5) (L0 := [(3, _), (0, _), (1, _), (2, _)]) dX4_twice_11 (by decide) rfl ?_
    obtain rfl : b = 1 := by omega
    exact h
set_option maxRecDepth 100000 in
set_option maxHeartbeats 4000000 in
theorem c_reduce {g : ab_G} {N M W ni c t n x u : Nat} {w : ab_W} {a : Nat} (hM : w M = moO M W ni) (hc : w (M + 1) = aN W c) (ht : w t = aN W u) (ha : w a = aN n x) (hta : t ≠ a) (ht0 : t ≠ M) (ht1 : t ≠ M + 1) (hW : W ≤ 500) (hn : n ≤ 500) (hn0 : 0 < n) (hcW : c < 4294967296 ^ W) (hc0 : 0 < c) (hu : u < 4294967296 ^ W) (hx : x < 4294967296 ^ n) : ab_Ct MX4_reduce g [.ref M, .ref t, .ref a] N w (rt none N (wu w t (aN W (x % c)))) := by
  have hbl : bl x ≤ 32 * n := bl_le (by rw [Nat.pow_mul]; exact hx)
  have K : ∀ k, k ≤ bl x → ab_St MX4_reduce g 0 0 22 [(3, .int (nI k - 1)), (0, .ref M), (1, .ref t), (2, .ref a)] [] N (wu w t (aN W (x / 2 ^ k % c))) (rt none N (wu w t (aN W (x % c)))) := by
    intro k
    induction k with
    | zero =>
      intro _
      refine r_iload_n dX4_reduce_22 rfl ?_
      refine r_if_lt (tgt := 42) dX4_reduce_23 (by decide) (fun _ => ?_) (fun h => absurd nI0lt h)
      refine r_ret (r := none) dX4_reduce_42 (by decide) (by decide) ?_
      refine ⟨rfl, rfl, ?_⟩
      rw [Nat.pow_zero, Nat.div_one]
    | succ k ih =>
      intro hk
      rw [i32_pm]
      have hb2 : dg 2 x k < 2 := dg_lt' (by decide) x k
      have e := two_step (v := x) (c := c) (k := k) hc0
      refine r_iload_n dX4_reduce_22 rfl ?_
      first | refine r_if_ltN (tgt := 42) dX4_reduce_23 (by decide) (by omega) (fun h23 => ?_) | refine r_if_lt (tgt := 42) dX4_reduce_23 (by decide) (fun h23 => ?_) (fun h23 => ?_)
      refine r_aload_n dX4_reduce_26 rfl ?_
      refine r_aload_n dX4_reduce_27 rfl ?_
      refine r_aload_n dX4_reduce_28 rfl ?_
      refine r_iload_n dX4_reduce_29 rfl ?_
      refine r_invS dX4_reduce_30 kX4_76 (c_bitAt (n := n) (v := x) (q := k) (wu_ne (Ne.symm hta) ha) (Or.inl rfl) (by omega) hx (by omega)) rfl rfl ⟨by decide, by decide⟩ (Nat.le_of_ble_eq_true rfl) ⟨by decide, by decide⟩ ⟨rfl, rfl⟩ ?_
      rintro _ _ _ ⟨rfl, rfl, rfl⟩
      refine r_invV dX4_reduce_33 kX4_61 (c_twice (W := W) (ni := ni) (c := c) (x := x / 2 ^ (k + 1) % c) (b := dg 2 x k) (wu_ne (Ne.symm ht0) hM) (wu_ne (Ne.symm ht1) hc) wu_eq ht0 ht1 hW hcW (Nat.mod_lt _ hc0) hb2) rfl rfl (by repeat first | exact wu_eq | assumption | (apply wu_ne; first | omega | assumption | (apply Ne.symm; assumption))) rfl rfl ⟨by decide, by decide⟩ (Nat.le_of_ble_eq_true rfl) ⟨by decide, by decide⟩ ⟨rfl, rfl⟩ ?_
      rintro _ _ _ ⟨rfl, rfl, rfl⟩
      refine r_iinc (L0 := [(0, _), (1, _), (2, _)]) dX4_reduce_36 rfl (by first | exact iincm1' _ | rfl) (by decide) rfl ?_
      refine r_goto (tgt := 22) dX4_reduce_39 (by decide) ?_
      rw [wu_wu, e]
      exact ih (by omega)
  refine ab_Ct.of (by decide +kernel) (Nat.le_of_ble_eq_true rfl) (by rintro _ _ _ ⟨rfl, rfl, rfl⟩; trivial) ?_
  show ab_St MX4_reduce g 0 0 0 [(0, .ref M), (1, .ref t), (2, .ref a)] [] _ _ _
  refine r_aload_n dX4_reduce_0 rfl ?_
  refine r_alen' dX4_reduce_1 (by repeat first | exact wu_eq | assumption | (apply wu_ne; first | omega | assumption | (apply Ne.symm; assumption))) (by rfl) ?_
  refine r_aload_n dX4_reduce_2 rfl ?_
  refine r_getf dX4_reduce_3 fX4_13 (by repeat first | exact wu_eq | assumption | (apply wu_ne; first | omega | assumption | (apply Ne.symm; assumption))) (by rfl) ?_
  first | refine r_icmp_eqN (tgt := 10) dX4_reduce_6 (by decide) (by omega) (by omega) (fun h6 => ?_) (fun h6 => ?_) | refine r_icmp_eq (tgt := 10) dX4_reduce_6 (by decide) (fun h6 => ?_) (fun h6 => ?_)
  · refine r_aload_n dX4_reduce_10 rfl ?_
    refine r_lconst (v := lN 0) dX4_reduce_11 (by decide) ?_
    refine r_invS dX4_reduce_12 kX4_67 (c_fill ht (by omega) hu) rfl rfl ⟨by decide, by decide⟩ (Nat.le_of_ble_eq_true rfl) ⟨by decide, by decide⟩ ⟨rfl, rfl⟩ ?_
    rintro _ _ _ ⟨rfl, rfl, rfl⟩
    refine r_aload_n dX4_reduce_15 rfl ?_
    refine r_invS dX4_reduce_16 kX4_72 (c_bitCount (n := n) (v := x) (wu_ne (Ne.symm hta) ha) (Or.inl rfl) (by omega) hn0 hx) rfl rfl ⟨by decide, by decide⟩ (Nat.le_of_ble_eq_true rfl) ⟨by decide, by decide⟩ ⟨rfl, rfl⟩ ?_
    rintro _ _ _ ⟨rfl, rfl, rfl⟩
    refine r_iconst (v := nI 1) dX4_reduce_19 (by decide) ?_
    rw [show (nI 1 : Int32) = 1 by decide]
    refine r_isub dX4_reduce_20 ?_
    refine r_istore_n (i := 3) (L0 := [(0, _), (1, _), (2, _)]) dX4_reduce_21 rfl (by decide) rfl ?_
    have h := K (bl x) (Nat.le_refl _)
    rw [Nat.div_eq_of_lt bl_lt, Nat.zero_mod] at h
    exact h
  · omega
