/-! SignHouse$Rows.multiply -/
theorem mul_step {T X P cy bi cj x val Bi Bj vc vj : Nat} (hP : P = Bi * Bj) (hx : x * P ≤ X) (hinv : X + cy * P = T + bi * Bi * vj) (hval : val = bi * cj + x + cy) (hvc : vc = vj + Bj * cj) : X - x * P + val % 4294967296 * P + val / 4294967296 * (P * 4294967296) = T + bi * Bi * vc := by
  have h1 : val % 4294967296 * P + val / 4294967296 * (P * 4294967296) = val * P := by
    rw [Nat.mul_comm P, ← Nat.mul_assoc, ← Nat.add_mul]
    congr 1
    omega
  have h2 : val * P = bi * cj * P + x * P + cy * P := by rw [hval, Nat.add_mul, Nat.add_mul]
  have h3 : bi * Bi * vc = bi * Bi * vj + bi * cj * P := by
    rw [hvc, Nat.mul_add, hP]
    congr 1
    rw [Nat.mul_assoc, Nat.mul_assoc, Nat.mul_left_comm cj, Nat.mul_comm Bj cj]
  omega
set_option maxRecDepth 100000 in
set_option maxHeartbeats 4000000 in
theorem c_multiply {g : ab_G} {N a b c n lb lc u vb vc : Nat} {w : ab_W} (hab : a ≠ b) (hac : a ≠ c) (ha : w a = aN n u) (hb : w b = aN lb vb) (hc : w c = aN lc vc) (hn : n ≤ 1000) (hl : lb + lc ≤ n) (hu : u < 4294967296 ^ n) (hvb : vb < 4294967296 ^ lb) (hvc : vc < 4294967296 ^ lc) : ab_Ct MX5_multiply g [.ref a, .ref b, .ref c] N w (rt none N (wu w a (aN n (vb * vc)))) := by
  have K : ∀ k i, i + k = lb → ab_St MX5_multiply g 0 0 7 [(3, .int (nI i)), (0, .ref a), (1, .ref b), (2, .ref c)] [] N (wu w a (aN n (vb % 4294967296 ^ i * vc))) (rt none N (wu w a (aN n (vb * vc)))) := by
    intro k
    induction k with
    | zero =>
      intro i hi
      refine r_iload_n dX5_multiply_7 rfl ?_
      refine r_aload_n dX5_multiply_8 rfl ?_
      refine r_alen' dX5_multiply_9 (by repeat first | exact wu_eq | assumption | (apply wu_ne; first | omega | assumption | (apply Ne.symm; assumption))) (by rfl) ?_
      first | refine r_icmp_geN (tgt := 103) dX5_multiply_10 (by decide) (by omega) (by omega) (fun h10 => ?_) (fun h10 => ?_) | refine r_icmp_ge (tgt := 103) dX5_multiply_10 (by decide) (fun h10 => ?_) (fun h10 => ?_)
      · refine r_ret (r := none) dX5_multiply_103 (by decide) (by decide) ?_
        refine ⟨rfl, rfl, ?_⟩
        rw [show i = lb by omega, Nat.mod_eq_of_lt hvb]
      · omega
    | succ k ih =>
      intro i hi
      have hpi : 0 < 4294967296 ^ i := Nat.pow_pos (by decide)
      have hT : vb % 4294967296 ^ i * vc < 4294967296 ^ (i + lc) := by
        rw [Nat.pow_add]
        exact Nat.mul_lt_mul_of_lt_of_le (Nat.mod_lt _ hpi) (Nat.le_of_lt hvc) (Nat.pow_pos (by decide))
      generalize hTe : vb % 4294967296 ^ i * vc = T at hT
      have hb1 := dg_lt vb i
      have J : ∀ m j X cy, j + m = lc → X < 4294967296 ^ (i + lc) → cy < 4294967296 → X + cy * 4294967296 ^ (i + j) = T + dg 4294967296 vb i * 4294967296 ^ i * (vc % 4294967296 ^ j) → ab_St MX5_multiply g 0 0 19 [(6, .int (nI j)), (4, .long (lN cy)), (3, .int (nI i)), (0, .ref a), (1, .ref b), (2, .ref c)] [] N (wu w a (aN n X)) (rt none N (wu w a (aN n (vb * vc)))) := by
        intro m
        induction m with
        | zero =>
          intro j X cy hj hX hcy hinv
          refine r_iload dX5_multiply_19 rfl ?_
          refine r_aload_n dX5_multiply_21 rfl ?_
          refine r_alen' dX5_multiply_22 (by repeat first | exact wu_eq | assumption | (apply wu_ne; first | omega | assumption | (apply Ne.symm; assumption))) (by rfl) ?_
          first | refine r_icmp_geN (tgt := 80) dX5_multiply_23 (by decide) (by omega) (by omega) (fun h23 => ?_) (fun h23 => ?_) | refine r_icmp_ge (tgt := 80) dX5_multiply_23 (by decide) (fun h23 => ?_) (fun h23 => ?_)
          · refine r_iload_n dX5_multiply_80 rfl ?_
            refine r_aload_n dX5_multiply_81 rfl ?_
            refine r_alen' dX5_multiply_82 (by repeat first | exact wu_eq | assumption | (apply wu_ne; first | omega | assumption | (apply Ne.symm; assumption))) (by rfl) ?_
            first | refine r_iaddN dX5_multiply_83 ?_ | refine r_iadd dX5_multiply_83 ?_
            refine r_aload_n dX5_multiply_84 rfl ?_
            refine r_alen' dX5_multiply_85 (by repeat first | exact wu_eq | assumption | (apply wu_ne; first | omega | assumption | (apply Ne.symm; assumption))) (by rfl) ?_
            first | refine r_icmp_geN (tgt := 97) dX5_multiply_86 (by decide) (by omega) (by omega) (fun h86 => ?_) (fun h86 => ?_) | refine r_icmp_ge (tgt := 97) dX5_multiply_86 (by decide) (fun h86 => ?_) (fun h86 => ?_)
            · omega
            · refine r_aload_n dX5_multiply_89 rfl ?_
              refine r_iload_n dX5_multiply_90 rfl ?_
              refine r_aload_n dX5_multiply_91 rfl ?_
              refine r_alen' dX5_multiply_92 (by repeat first | exact wu_eq | assumption | (apply wu_ne; first | omega | assumption | (apply Ne.symm; assumption))) (by rfl) ?_
              first | refine r_iaddN dX5_multiply_93 ?_ | refine r_iadd dX5_multiply_93 ?_
              refine r_lload dX5_multiply_94 rfl ?_
              refine r_lastore dX5_multiply_96 (by repeat first | exact wu_eq | assumption | (apply wu_ne; first | omega | assumption | (apply Ne.symm; assumption))) _ rfl (by omega) (by omega) ?_
              refine r_iinc (L0 := [(6, _), (4, _), (0, _), (1, _), (2, _)]) dX5_multiply_97 rfl (by first | exact iinc1 _ | rfl) (by decide) rfl ?_
              refine r_goto (tgt := 7) dX5_multiply_100 (by decide) ?_
              obtain rfl : j = lc := by omega
              have e : ud 4294967296 X (i + j) cy = vb % 4294967296 ^ (i + 1) * vc := by
                unfold ud
                rw [dg_big hX (Nat.le_refl _) (by decide), Nat.zero_mul, Nat.sub_zero, hinv, ← hTe, dg_succ, Nat.add_mul, Nat.mod_eq_of_lt hvc, Nat.mul_comm (dg 4294967296 vb i)]
              rw [wu_wu, rJ_ud hcy, e]
              refine r_sub [0, 3, 4, 5] rfl ?_
              exact ih (i + 1) (by omega)
          · omega
        | succ m jh =>
          intro j X cy hj hX hcy hinv
          have h2 := dg_lt vc j
          have h3 := dg_lt X (i + j)
          have hm : dg 4294967296 vb i * dg 4294967296 vc j ≤ 4294967295 * 4294967295 := Nat.mul_le_mul (by omega) (by omega)
          have hle := dg_le 4294967296 X (i + j)
          refine r_iload dX5_multiply_19 rfl ?_
          refine r_aload_n dX5_multiply_21 rfl ?_
          refine r_alen' dX5_multiply_22 (by repeat first | exact wu_eq | assumption | (apply wu_ne; first | omega | assumption | (apply Ne.symm; assumption))) (by rfl) ?_
          first | refine r_icmp_geN (tgt := 80) dX5_multiply_23 (by decide) (by omega) (by omega) (fun h23 => ?_) (fun h23 => ?_) | refine r_icmp_ge (tgt := 80) dX5_multiply_23 (by decide) (fun h23 => ?_) (fun h23 => ?_)
          · omega
          · refine r_iload_n dX5_multiply_26 rfl ?_
            refine r_iload dX5_multiply_27 rfl ?_
            first | refine r_iaddN dX5_multiply_29 ?_ | refine r_iadd dX5_multiply_29 ?_
            refine r_aload_n dX5_multiply_30 rfl ?_
            refine r_alen' dX5_multiply_31 (by repeat first | exact wu_eq | assumption | (apply wu_ne; first | omega | assumption | (apply Ne.symm; assumption))) (by rfl) ?_
            first | refine r_icmp_geN (tgt := 80) dX5_multiply_32 (by decide) (by omega) (by omega) (fun h32 => ?_) (fun h32 => ?_) | refine r_icmp_ge (tgt := 80) dX5_multiply_32 (by decide) (fun h32 => ?_) (fun h32 => ?_)
            · omega
            · refine r_aload_n dX5_multiply_35 rfl ?_
              refine r_iload_n dX5_multiply_36 rfl ?_
              refine r_laload' dX5_multiply_37 (by repeat first | exact wu_eq | assumption | (apply wu_ne; first | omega | assumption | (apply Ne.symm; assumption))) (by rfl) _ rfl (by omega) (by omega) ?_
              refine r_aload_n dX5_multiply_38 rfl ?_
              refine r_iload dX5_multiply_39 rfl ?_
              refine r_laload' dX5_multiply_41 (by repeat first | exact wu_eq | assumption | (apply wu_ne; first | omega | assumption | (apply Ne.symm; assumption))) (by rfl) _ rfl (by omega) (by omega) ?_
              refine r_lmulN (a := dg 4294967296 vb i) (b := dg 4294967296 vc j) dX5_multiply_42 ?_
              refine r_aload_n dX5_multiply_43 rfl ?_
              refine r_iload_n dX5_multiply_44 rfl ?_
              refine r_iload dX5_multiply_45 rfl ?_
              first | refine r_iaddN dX5_multiply_47 ?_ | refine r_iadd dX5_multiply_47 ?_
              refine r_laload' dX5_multiply_48 (by repeat first | exact wu_eq | assumption | (apply wu_ne; first | omega | assumption | (apply Ne.symm; assumption))) (by rfl) _ rfl (by omega) (by omega) ?_
              refine r_laddN (b := dg 4294967296 X (i + j)) dX5_multiply_49 ?_
              refine r_lload dX5_multiply_50 rfl ?_
              first | refine r_laddN dX5_multiply_52 ?_ | refine r_ladd dX5_multiply_52 ?_
              refine r_lstore (i := 7) (L0 := [(6, _), (4, _), (3, _), (0, _), (1, _), (2, _)]) dX5_multiply_53 (by decide) rfl ?_
              refine r_aload_n dX5_multiply_55 rfl ?_
              refine r_iload_n dX5_multiply_56 rfl ?_
              refine r_iload dX5_multiply_57 rfl ?_
              first | refine r_iaddN dX5_multiply_59 ?_ | refine r_iadd dX5_multiply_59 ?_
              refine r_lload dX5_multiply_60 rfl ?_
              refine r_ldc2 dX5_multiply_62 qX5_19 ?_
              refine r_land32 dX5_multiply_65 ?_
              refine r_lastore dX5_multiply_66 (by repeat first | exact wu_eq | assumption | (apply wu_ne; first | omega | assumption | (apply Ne.symm; assumption))) _ rfl (by omega) (by omega) ?_
              refine r_lload dX5_multiply_67 rfl ?_
              refine r_bipush (v := nI 32) dX5_multiply_69 (by decide) ?_
              refine r_lushrN 32 (by decide) dX5_multiply_71 (by omega) ?_
              refine r_lstore (i := 4) (L0 := [(7, _), (6, _), (3, _), (0, _), (1, _), (2, _)]) dX5_multiply_72 (by decide) rfl ?_
              refine r_iinc (L0 := [(4, _), (7, _), (3, _), (0, _), (1, _), (2, _)]) dX5_multiply_74 rfl (by first | exact iinc1 _ | rfl) (by decide) rfl ?_
              refine r_goto (tgt := 19) dX5_multiply_77 (by decide) ?_
              rw [wu_wu, rJ_ud (Nat.mod_lt _ (by decide))]
              refine r_sub [0, 1, 3, 4, 5, 6] rfl ?_
              refine jh (j + 1) _ _ (by omega) (ud_lt (by decide) (Nat.mod_lt _ (by decide)) hX (by omega)) ?_ ?_
              · rw [show (2 : Nat) ^ 32 = 4294967296 by decide]
                exact Nat.div_lt_of_lt_mul (by omega)
              · unfold ud
                rw [show (2 : Nat) ^ 32 = 4294967296 by decide, ← Nat.add_assoc, Nat.pow_succ]
                exact mul_step (Nat.pow_add _ _ _) hle hinv rfl (dg_succ 4294967296 vc j)
      refine r_iload_n dX5_multiply_7 rfl ?_
      refine r_aload_n dX5_multiply_8 rfl ?_
      refine r_alen' dX5_multiply_9 (by repeat first | exact wu_eq | assumption | (apply wu_ne; first | omega | assumption | (apply Ne.symm; assumption))) (by rfl) ?_
      first | refine r_icmp_geN (tgt := 103) dX5_multiply_10 (by decide) (by omega) (by omega) (fun h10 => ?_) (fun h10 => ?_) | refine r_icmp_ge (tgt := 103) dX5_multiply_10 (by decide) (fun h10 => ?_) (fun h10 => ?_)
      · omega
      · refine r_lconst (v := lN 0) dX5_multiply_13 (by decide) ?_
        refine r_lstore (i := 4) (L0 := [(3, _), (0, _), (1, _), (2, _)]) dX5_multiply_14 (by decide) rfl ?_
        refine r_iconst (v := nI 0) dX5_multiply_16 (by decide) ?_
        refine r_istore (i := 6) (L0 := [(4, _), (3, _), (0, _), (1, _), (2, _)]) dX5_multiply_17 (by decide) rfl ?_
        exact J lc 0 T 0 (by omega) hT (by decide) (by simp [Nat.mod_one])
  refine ab_Ct.of (by decide +kernel) (Nat.le_of_ble_eq_true rfl) (by rintro _ _ _ ⟨rfl, rfl, rfl⟩; trivial) ?_
  show ab_St MX5_multiply g 0 0 0 [(0, .ref a), (1, .ref b), (2, .ref c)] [] _ _ _
  refine r_aload_n dX5_multiply_0 rfl ?_
  refine r_lconst (v := lN 0) dX5_multiply_1 (by decide) ?_
  refine r_invS dX5_multiply_2 kX5_39 (c_fill ha hn hu) rfl rfl ⟨by decide, by decide⟩ (Nat.le_of_ble_eq_true rfl) ⟨by decide, by decide⟩ ⟨rfl, rfl⟩ ?_
  rintro _ _ _ ⟨rfl, rfl, rfl⟩
  refine r_iconst (v := nI 0) dX5_multiply_5 (by decide) ?_
  refine r_istore_n (i := 3) (L0 := [(0, _), (1, _), (2, _)]) dX5_multiply_6 rfl (by decide) rfl ?_
  have h := K lb 0 (by omega)
  rw [Nat.pow_zero, Nat.mod_one, Nat.zero_mul] at h
  exact h
