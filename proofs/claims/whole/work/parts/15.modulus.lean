/-! SignHouse$Modulus: the object at M, its rows behind it -/
abbrev moO (M W ni : Nat) : ab_C := aO 4 [.int (nI W), .ref (M + 1), .ref (M + 2), .ref (M + 3), .ref (M + 4), .ref (M + 5), .ref (M + 6), .ref (M + 7), .long (lN ni)]
set_option maxRecDepth 100000 in
set_option maxHeartbeats 4000000 in
theorem c_addProduct {g : ab_G} {N M W ni a x S l : Nat} {w : ab_W} (hM : w M = moO M W ni) (hs : w (M + 7) = aN (W + 2) S) (ha : w a = aN W x) (hW : W ≤ 500) (hx : x < 4294967296 ^ W) (hS : S < 4294967296 ^ (W + 2)) (hl : l < 4294967296) (hne : a ≠ M + 7) : ab_Ct MX4_addProduct g [.ref M, .ref a, .long (lN l)] N w (rt none N (wu w (M + 7) (aN (W + 2) (S % 4294967296 ^ (W + 1) + l * x)))) := by
  have hT : S % 4294967296 ^ (W + 1) + l * x < 4294967296 ^ (W + 2) := by
    have h1 : S % 4294967296 ^ (W + 1) < 4294967296 ^ (W + 1) := Nat.mod_lt _ (Nat.pow_pos (by decide))
    have h2 : l * x ≤ 4294967296 * 4294967296 ^ W := Nat.mul_le_mul (by omega) (Nat.le_of_lt hx)
    have e1 : (4294967296 : Nat) ^ (W + 2) = 4294967296 * 4294967296 ^ (W + 1) := by rw [Nat.pow_succ, Nat.mul_comm]
    have e2 : (4294967296 : Nat) ^ (W + 1) = 4294967296 * 4294967296 ^ W := by rw [Nat.pow_succ, Nat.mul_comm]
    omega
  have hmod : (S + l * x) % 4294967296 ^ (W + 1) = (S % 4294967296 ^ (W + 1) + l * x) % 4294967296 ^ (W + 1) := (Nat.mod_add_mod _ _ _).symm
  generalize hTe : S % 4294967296 ^ (W + 1) + l * x = T at hT hmod
  have hdg : ∀ i, i < W + 1 → dg 4294967296 (S + l * x) i = dg 4294967296 T i := fun i hi => by rw [← dg_mod hi, hmod, dg_mod hi]
  have htop : cq l S x (W + 1) = dg 4294967296 T (W + 1) := by
    unfold cq dg
    rw [Nat.mod_eq_of_lt (a := x) (Nat.lt_of_lt_of_le hx (Nat.pow_le_pow_right (by decide) (by omega))), hTe, Nat.mod_eq_of_lt (Nat.div_lt_of_lt_mul (by rw [← Nat.pow_succ]; exact hT))]
  have K : ∀ k i, i + k = W → ab_St MX4_addProduct g 0 0 6 [(6, .int (nI i)), (4, .long (lN (cq l S x i))), (0, .ref M), (1, .ref a), (2, .long (lN l))] [] N (wu w (M + 7) (aJ (W + 2) (fl i (rJ T) (rJ S)))) (rt none N (wu w (M + 7) (aN (W + 2) T))) := by
    intro k
    induction k with
    | zero =>
      intro i hi
      obtain rfl : i = W := by omega
      have h3 := dg_lt S i
      have h4 : cq l S x i < 4294967296 := cq_lt hl
      have e1 := cq_dg l S x i
      have e2 := cq_succ l S x i
      rw [dg_big hx (Nat.le_refl i) (by decide), Nat.mul_zero, Nat.zero_add] at e1 e2
      rw [hdg i (by omega)] at e1
      refine r_iload dX4_addProduct_6 rfl ?_
      refine r_aload_n dX4_addProduct_8 rfl ?_
      refine r_getf dX4_addProduct_9 fX4_13 (by repeat first | exact wu_eq | assumption | (apply wu_ne; first | omega | assumption | (apply Ne.symm; assumption))) (by rfl) ?_
      first | refine r_icmp_geN (tgt := 67) dX4_addProduct_12 (by decide) (by omega) (by omega) (fun h12 => ?_) (fun h12 => ?_) | refine r_icmp_ge (tgt := 67) dX4_addProduct_12 (by decide) (fun h12 => ?_) (fun h12 => ?_)
      · refine r_aload_n dX4_addProduct_67 rfl ?_
        refine r_getf dX4_addProduct_68 fX4_38 (by repeat first | exact wu_eq | assumption | (apply wu_ne; first | omega | assumption | (apply Ne.symm; assumption))) (by rfl) ?_
        refine r_aload_n dX4_addProduct_71 rfl ?_
        refine r_getf dX4_addProduct_72 fX4_13 (by repeat first | exact wu_eq | assumption | (apply wu_ne; first | omega | assumption | (apply Ne.symm; assumption))) (by rfl) ?_
        refine r_laload' dX4_addProduct_75 wu_eq (by rfl) _ rfl (by omega) (by omega) ?_
        rw [show fl i (rJ T) (rJ S) i = lN (dg 4294967296 S i) from fl_hi (Nat.le_refl i)]
        refine r_lload dX4_addProduct_76 rfl ?_
        first | refine r_laddN dX4_addProduct_78 ?_ | refine r_ladd dX4_addProduct_78 ?_
        refine r_lstore (i := 6) (L0 := [(4, _), (0, _), (1, _), (2, _)]) dX4_addProduct_79 (by decide) rfl ?_
        refine r_aload_n dX4_addProduct_81 rfl ?_
        refine r_getf dX4_addProduct_82 fX4_38 (by repeat first | exact wu_eq | assumption | (apply wu_ne; first | omega | assumption | (apply Ne.symm; assumption))) (by rfl) ?_
        refine r_aload_n dX4_addProduct_85 rfl ?_
        refine r_getf dX4_addProduct_86 fX4_13 (by repeat first | exact wu_eq | assumption | (apply wu_ne; first | omega | assumption | (apply Ne.symm; assumption))) (by rfl) ?_
        refine r_lload dX4_addProduct_89 rfl ?_
        refine r_ldc2 dX4_addProduct_91 qX4_51 ?_
        refine r_land32 dX4_addProduct_94 ?_
        refine r_lastore dX4_addProduct_95 (by repeat first | exact wu_eq | assumption | (apply wu_ne; first | omega | assumption | (apply Ne.symm; assumption))) _ rfl (by omega) (by omega) ?_
        refine r_aload_n dX4_addProduct_96 rfl ?_
        refine r_getf dX4_addProduct_97 fX4_38 (by repeat first | exact wu_eq | assumption | (apply wu_ne; first | omega | assumption | (apply Ne.symm; assumption))) (by rfl) ?_
        refine r_aload_n dX4_addProduct_100 rfl ?_
        refine r_getf dX4_addProduct_101 fX4_13 (by repeat first | exact wu_eq | assumption | (apply wu_ne; first | omega | assumption | (apply Ne.symm; assumption))) (by rfl) ?_
        refine r_iconst (v := nI 1) dX4_addProduct_104 (by decide) ?_
        first | refine r_iaddN dX4_addProduct_105 ?_ | refine r_iadd dX4_addProduct_105 ?_
        refine r_lload dX4_addProduct_106 rfl ?_
        refine r_bipush (v := nI 32) dX4_addProduct_108 (by decide) ?_
        first | refine r_lushrN 32 (by decide) dX4_addProduct_110 (by omega) ?_ | refine r_lushr dX4_addProduct_110 ?_
        refine r_lastore dX4_addProduct_111 (by repeat first | exact wu_eq | assumption | (apply wu_ne; first | omega | assumption | (apply Ne.symm; assumption))) _ rfl (by omega) (by omega) ?_
        refine r_ret (r := none) dX4_addProduct_112 (by decide) (by decide) ?_
        refine ⟨rfl, rfl, ?_⟩
        rw [show (2 : Nat) ^ 32 = 4294967296 by decide, e1, e2, wu_wu, wu_wu, fl_up' (f := rJ T) (show lN _ = rJ T i from rfl), htop, fl_up' (f := rJ T) (show lN _ = rJ T (i + 1) from rfl), fl_end fun k hk => by unfold rJ; rw [dg_big hS hk (by decide), dg_big hT hk (by decide)]]
      · omega
    | succ k ih =>
      intro i hi
      have h1 := dg_lt x i
      have h3 := dg_lt S i
      have h4 : cq l S x i < 4294967296 := cq_lt hl
      have hm : dg 4294967296 x i * l ≤ 4294967295 * 4294967295 := Nat.mul_le_mul (by omega) (by omega)
      have e1 := cq_dg l S x i
      have e2 := cq_succ l S x i
      rw [Nat.mul_comm l] at e1 e2
      rw [hdg i (by omega)] at e1
      refine r_iload dX4_addProduct_6 rfl ?_
      refine r_aload_n dX4_addProduct_8 rfl ?_
      refine r_getf dX4_addProduct_9 fX4_13 (by repeat first | exact wu_eq | assumption | (apply wu_ne; first | omega | assumption | (apply Ne.symm; assumption))) (by rfl) ?_
      first | refine r_icmp_geN (tgt := 67) dX4_addProduct_12 (by decide) (by omega) (by omega) (fun h12 => ?_) (fun h12 => ?_) | refine r_icmp_ge (tgt := 67) dX4_addProduct_12 (by decide) (fun h12 => ?_) (fun h12 => ?_)
      · omega
      · refine r_iload dX4_addProduct_15 rfl ?_
        refine r_aload_n dX4_addProduct_17 rfl ?_
        refine r_alen' dX4_addProduct_18 (by repeat first | exact wu_eq | assumption | (apply wu_ne; first | omega | assumption | (apply Ne.symm; assumption))) (by rfl) ?_
        first | refine r_icmp_geN (tgt := 67) dX4_addProduct_19 (by decide) (by omega) (by omega) (fun h19 => ?_) (fun h19 => ?_) | refine r_icmp_ge (tgt := 67) dX4_addProduct_19 (by decide) (fun h19 => ?_) (fun h19 => ?_)
        · omega
        · refine r_aload_n dX4_addProduct_22 rfl ?_
          refine r_iload dX4_addProduct_23 rfl ?_
          refine r_laload' dX4_addProduct_25 (wu_ne hne ha) (by rfl) _ rfl (by omega) (by omega) ?_
          rw [show rJ x i = lN (dg 4294967296 x i) from rfl]
          refine r_lload_n dX4_addProduct_26 rfl ?_
          first | refine r_lmulN dX4_addProduct_27 ?_ | refine r_lmul dX4_addProduct_27 ?_
          refine r_aload_n dX4_addProduct_28 rfl ?_
          refine r_getf dX4_addProduct_29 fX4_38 (by repeat first | exact wu_eq | assumption | (apply wu_ne; first | omega | assumption | (apply Ne.symm; assumption))) (by rfl) ?_
          refine r_iload dX4_addProduct_32 rfl ?_
          refine r_laload' dX4_addProduct_34 wu_eq (by rfl) _ rfl (by omega) (by omega) ?_
          rw [show fl i (rJ T) (rJ S) i = lN (dg 4294967296 S i) from fl_hi (Nat.le_refl i)]
          first | refine r_laddN dX4_addProduct_35 ?_ | refine r_ladd dX4_addProduct_35 ?_
          refine r_lload dX4_addProduct_36 rfl ?_
          first | refine r_laddN dX4_addProduct_38 ?_ | refine r_ladd dX4_addProduct_38 ?_
          refine r_lstore (i := 7) (L0 := [(6, _), (4, _), (0, _), (1, _), (2, _)]) dX4_addProduct_39 (by decide) rfl ?_
          refine r_aload_n dX4_addProduct_41 rfl ?_
          refine r_getf dX4_addProduct_42 fX4_38 (by repeat first | exact wu_eq | assumption | (apply wu_ne; first | omega | assumption | (apply Ne.symm; assumption))) (by rfl) ?_
          refine r_iload dX4_addProduct_45 rfl ?_
          refine r_lload dX4_addProduct_47 rfl ?_
          refine r_ldc2 dX4_addProduct_49 qX4_51 ?_
          refine r_land32 dX4_addProduct_52 ?_
          refine r_lastore dX4_addProduct_53 (by repeat first | exact wu_eq | assumption | (apply wu_ne; first | omega | assumption | (apply Ne.symm; assumption))) _ rfl (by omega) (by omega) ?_
          refine r_lload dX4_addProduct_54 rfl ?_
          refine r_bipush (v := nI 32) dX4_addProduct_56 (by decide) ?_
          first | refine r_lushrN 32 (by decide) dX4_addProduct_58 (by omega) ?_ | refine r_lushr dX4_addProduct_58 ?_
          refine r_lstore (i := 4) (L0 := [(7, _), (6, _), (0, _), (1, _), (2, _)]) dX4_addProduct_59 (by decide) rfl ?_
          refine r_iinc (L0 := [(4, _), (7, _), (0, _), (1, _), (2, _)]) dX4_addProduct_61 rfl (by first | exact iinc1 _ | rfl) (by decide) rfl ?_
          refine r_goto (tgt := 6) dX4_addProduct_64 (by decide) ?_
          rw [show (2 : Nat) ^ 32 = 4294967296 by decide, e1, e2, wu_wu, fl_up' (f := rJ T) (show lN _ = rJ T i from rfl)]
          refine r_sub [0, 1, 3, 4, 5] rfl ?_
          exact ih (i + 1) (by omega)
  refine ab_Ct.of (by decide +kernel) (Nat.le_of_ble_eq_true rfl) (by rintro _ _ _ ⟨rfl, rfl, rfl⟩; trivial) ?_
  show ab_St MX4_addProduct g 0 0 0 [(0, .ref M), (1, .ref a), (2, .long (lN l))] [] _ _ _
  refine r_lconst (v := lN 0) dX4_addProduct_0 (by decide) ?_
  refine r_lstore (i := 4) (L0 := [(0, _), (1, _), (2, _)]) dX4_addProduct_1 (by decide) rfl ?_
  refine r_iconst (v := nI 0) dX4_addProduct_3 (by decide) ?_
  refine r_istore (i := 6) (L0 := [(4, _), (0, _), (1, _), (2, _)]) dX4_addProduct_4 (by decide) rfl ?_
  have h := K W 0 (by omega)
  rw [fl_0, wu_self hs, cq_0] at h
  exact h
set_option maxRecDepth 100000 in
set_option maxHeartbeats 4000000 in
theorem c_dropLowLimb {g : ab_G} {N M W ni c S : Nat} {w : ab_W} (hM : w M = moO M W ni) (hs : w (M + 7) = aN (W + 2) S) (hc : w (M + 1) = aN W c) (h1W : 1 ≤ W) (hW : W ≤ 500) (hcW : c < 4294967296 ^ W) (hc0 : 0 < c) (hSc : S + 4294967296 * c ≤ 4294967296 ^ (W + 2)) (hni : ni < 4294967296) (hinv : (c * ni + 1) % 4294967296 = 0) : ab_Ct MX4_dropLowLimb g [.ref M] N w (rt none N (wu w (M + 7) (aN (W + 2) ((S + S % 4294967296 * ni % 4294967296 * c) / 4294967296 + dg 4294967296 S (W + 1) * 4294967296 ^ (W + 1))))) := by
  have hS : S < 4294967296 ^ (W + 2) := by omega
  have hm : S % 4294967296 * ni % 4294967296 < 4294967296 := Nat.mod_lt _ (by decide)
  have hm0 : dg 4294967296 S 0 * ni % 4294967296 = S % 4294967296 * ni % 4294967296 := by rw [dg_0]
  generalize hme : S % 4294967296 * ni % 4294967296 = m at hm hm0
  have hV : S + m * c < 4294967296 ^ (W + 2) := by
    have : m * c ≤ 4294967295 * c := Nat.mul_le_mul_right _ (by omega)
    omega
  generalize hRe : (S + m * c) / 4294967296 = R
  have hR : R < 4294967296 ^ (W + 1) := by
    rw [← hRe]
    exact Nat.div_lt_of_lt_mul (by rw [Nat.mul_comm 4294967296, ← Nat.pow_succ]; exact hV)
  have hdg : ∀ i, dg 4294967296 (S + m * c) (i + 1) = dg 4294967296 R i := fun i => by
    have h := dg_div 4294967296 (S + m * c) 1 i
    rw [Nat.pow_one, hRe, Nat.add_comm 1 i] at h
    exact h.symm
  have hs1 := dg_lt S 0
  have hc1 := dg_lt c 0
  have hp0 : m * dg 4294967296 c 0 ≤ 4294967295 * 4294967295 := Nat.mul_le_mul (by omega) (by omega)
  have ec1 := cq_succ m S c 0
  rw [cq_0, Nat.add_zero] at ec1
  have K : ∀ k j, j + 1 + k = W → ab_St MX4_dropLowLimb g 0 0 38 [(5, .int (nI (j + 1))), (3, .long (lN (cq m S c (j + 1)))), (1, .long (lN m)), (0, .ref M)] [] N (wu w (M + 7) (aJ (W + 2) (fl j (rJ R) (rJ S)))) (rt none N (wu w (M + 7) (aN (W + 2) (R + dg 4294967296 S (W + 1) * 4294967296 ^ (W + 1))))) := by
    intro k
    induction k with
    | zero =>
      intro j hj
      obtain rfl : W = j + 1 := by omega
      have h3 := dg_lt S (j + 1)
      have h3' := dg_lt S (j + 1 + 1)
      have h4 : cq m S c (j + 1) < 4294967296 := cq_lt hm
      have h5 : cq m S c (j + 1 + 1) < 4294967296 := cq_lt hm
      have e1 := cq_dg m S c (j + 1)
      have e2 := cq_succ m S c (j + 1)
      have e3 := cq_dg m S c (j + 1 + 1)
      have e4 := cq_div m S c (j + 1 + 1 + 1)
      rw [Nat.div_eq_of_lt hV] at e4
      have e6 : cq m S c (j + 1 + 1 + 1) = 0 := (Nat.add_eq_zero_iff.mp e4.symm).2
      have e5 := cq_succ m S c (j + 1 + 1)
      rw [dg_big hcW (Nat.le_refl (j + 1)) (by decide), Nat.mul_zero, Nat.zero_add, hdg] at e1
      rw [dg_big hcW (Nat.le_refl (j + 1)) (by decide), Nat.mul_zero, Nat.zero_add] at e2
      rw [dg_big hcW (show j + 1 ≤ j + 1 + 1 by omega) (by decide), Nat.mul_zero, Nat.zero_add, hdg] at e3
      rw [dg_big hcW (show j + 1 ≤ j + 1 + 1 by omega) (by decide), Nat.mul_zero, Nat.zero_add] at e5
      refine r_iload dX4_dropLowLimb_38 rfl ?_
      refine r_aload_n dX4_dropLowLimb_40 rfl ?_
      refine r_getf dX4_dropLowLimb_41 fX4_13 (by repeat first | exact wu_eq | assumption | (apply wu_ne; first | omega | assumption | (apply Ne.symm; assumption))) (by rfl) ?_
      first | refine r_icmp_geN (tgt := 95) dX4_dropLowLimb_44 (by decide) (by omega) (by omega) (fun h44 => ?_) (fun h44 => ?_) | refine r_icmp_ge (tgt := 95) dX4_dropLowLimb_44 (by decide) (fun h44 => ?_) (fun h44 => ?_)
      · refine r_aload_n dX4_dropLowLimb_95 rfl ?_
        refine r_getf dX4_dropLowLimb_96 fX4_38 (by repeat first | exact wu_eq | assumption | (apply wu_ne; first | omega | assumption | (apply Ne.symm; assumption))) (by rfl) ?_
        refine r_aload_n dX4_dropLowLimb_99 rfl ?_
        refine r_getf dX4_dropLowLimb_100 fX4_13 (by repeat first | exact wu_eq | assumption | (apply wu_ne; first | omega | assumption | (apply Ne.symm; assumption))) (by rfl) ?_
        refine r_laload' dX4_dropLowLimb_103 wu_eq (by rfl) _ rfl (by omega) (by omega) ?_
        rw [show fl j (rJ R) (rJ S) (j + 1) = lN (dg 4294967296 S (j + 1)) from fl_hi (by omega)]
        refine r_lload_n dX4_dropLowLimb_104 rfl ?_
        first | refine r_laddN dX4_dropLowLimb_105 ?_ | refine r_ladd dX4_dropLowLimb_105 ?_
        refine r_lstore (i := 5) (L0 := [(3, _), (1, _), (0, _)]) dX4_dropLowLimb_106 (by decide) rfl ?_
        refine r_aload_n dX4_dropLowLimb_108 rfl ?_
        refine r_getf dX4_dropLowLimb_109 fX4_38 (by repeat first | exact wu_eq | assumption | (apply wu_ne; first | omega | assumption | (apply Ne.symm; assumption))) (by rfl) ?_
        refine r_aload_n dX4_dropLowLimb_112 rfl ?_
        refine r_getf dX4_dropLowLimb_113 fX4_13 (by repeat first | exact wu_eq | assumption | (apply wu_ne; first | omega | assumption | (apply Ne.symm; assumption))) (by rfl) ?_
        refine r_iconst (v := nI 1) dX4_dropLowLimb_116 (by decide) ?_
        first | refine r_isubN dX4_dropLowLimb_117 (by omega) ?_ | refine r_isub dX4_dropLowLimb_117 ?_
        refine r_lload dX4_dropLowLimb_118 rfl ?_
        refine r_ldc2 dX4_dropLowLimb_120 qX4_51 ?_
        refine r_land32 dX4_dropLowLimb_123 ?_
        refine r_lastore dX4_dropLowLimb_124 (by repeat first | exact wu_eq | assumption | (apply wu_ne; first | omega | assumption | (apply Ne.symm; assumption))) _ rfl (by omega) (by omega) ?_
        refine r_aload_n dX4_dropLowLimb_125 rfl ?_
        refine r_getf dX4_dropLowLimb_126 fX4_38 (by repeat first | exact wu_eq | assumption | (apply wu_ne; first | omega | assumption | (apply Ne.symm; assumption))) (by rfl) ?_
        refine r_aload_n dX4_dropLowLimb_129 rfl ?_
        refine r_getf dX4_dropLowLimb_130 fX4_13 (by repeat first | exact wu_eq | assumption | (apply wu_ne; first | omega | assumption | (apply Ne.symm; assumption))) (by rfl) ?_
        refine r_aload_n dX4_dropLowLimb_133 rfl ?_
        refine r_getf dX4_dropLowLimb_134 fX4_38 (by repeat first | exact wu_eq | assumption | (apply wu_ne; first | omega | assumption | (apply Ne.symm; assumption))) (by rfl) ?_
        refine r_aload_n dX4_dropLowLimb_137 rfl ?_
        refine r_getf dX4_dropLowLimb_138 fX4_13 (by repeat first | exact wu_eq | assumption | (apply wu_ne; first | omega | assumption | (apply Ne.symm; assumption))) (by rfl) ?_
        refine r_iconst (v := nI 1) dX4_dropLowLimb_141 (by decide) ?_
        first | refine r_iaddN dX4_dropLowLimb_142 ?_ | refine r_iadd dX4_dropLowLimb_142 ?_
        refine r_laload' dX4_dropLowLimb_143 wu_eq (by rfl) _ rfl (by omega) (by omega) ?_
        rw [Nat.add_sub_cancel, fl_up' (f := rJ R) (show lN _ = rJ R j by rw [e1]; rfl), show fl (j + 1) (rJ R) (rJ S) (j + 1 + 1) = lN (dg 4294967296 S (j + 1 + 1)) from fl_hi (by omega)]
        refine r_lload dX4_dropLowLimb_144 rfl ?_
        refine r_bipush (v := nI 32) dX4_dropLowLimb_146 (by decide) ?_
        first | refine r_lushrN 32 (by decide) dX4_dropLowLimb_148 (by omega) ?_ | refine r_lushr dX4_dropLowLimb_148 ?_
        first | refine r_laddN dX4_dropLowLimb_149 ?_ | refine r_ladd dX4_dropLowLimb_149 ?_
        refine r_lastore dX4_dropLowLimb_150 (by repeat first | exact wu_eq | assumption | (apply wu_ne; first | omega | assumption | (apply Ne.symm; assumption))) _ rfl (by omega) (by omega) ?_
        refine r_ret (r := none) dX4_dropLowLimb_151 (by decide) (by decide) ?_
        refine ⟨rfl, rfl, ?_⟩
        rw [show (2 : Nat) ^ 32 = 4294967296 by decide, e2, wu_wu, wu_wu, fl_up' (f := rJ R) (show lN _ = rJ R (j + 1) by unfold rJ; rw [← e3]; congr 1; omega), fl_top hR hS]
      · omega
    | succ k ih =>
      intro j hj
      have h3 := dg_lt S (j + 1)
      have h3' := dg_lt c (j + 1)
      have h4 : cq m S c (j + 1) < 4294967296 := cq_lt hm
      have hp : m * dg 4294967296 c (j + 1) ≤ 4294967295 * 4294967295 := Nat.mul_le_mul (by omega) (by omega)
      have e1 := cq_dg m S c (j + 1)
      have e2 := cq_succ m S c (j + 1)
      rw [hdg] at e1
      refine r_iload dX4_dropLowLimb_38 rfl ?_
      refine r_aload_n dX4_dropLowLimb_40 rfl ?_
      refine r_getf dX4_dropLowLimb_41 fX4_13 (by repeat first | exact wu_eq | assumption | (apply wu_ne; first | omega | assumption | (apply Ne.symm; assumption))) (by rfl) ?_
      first | refine r_icmp_geN (tgt := 95) dX4_dropLowLimb_44 (by decide) (by omega) (by omega) (fun h44 => ?_) (fun h44 => ?_) | refine r_icmp_ge (tgt := 95) dX4_dropLowLimb_44 (by decide) (fun h44 => ?_) (fun h44 => ?_)
      · omega
      · refine r_lload_n dX4_dropLowLimb_47 rfl ?_
        refine r_aload_n dX4_dropLowLimb_48 rfl ?_
        refine r_getf dX4_dropLowLimb_49 fX4_19 (by repeat first | exact wu_eq | assumption | (apply wu_ne; first | omega | assumption | (apply Ne.symm; assumption))) (by rfl) ?_
        refine r_iload dX4_dropLowLimb_52 rfl ?_
        refine r_laload' dX4_dropLowLimb_54 (wu_ne (by omega) hc) (by rfl) _ rfl (by omega) (by omega) ?_
        rw [show rJ c (j + 1) = lN (dg 4294967296 c (j + 1)) from rfl]
        first | refine r_lmulN dX4_dropLowLimb_55 ?_ | refine r_lmul dX4_dropLowLimb_55 ?_
        refine r_aload_n dX4_dropLowLimb_56 rfl ?_
        refine r_getf dX4_dropLowLimb_57 fX4_38 (by repeat first | exact wu_eq | assumption | (apply wu_ne; first | omega | assumption | (apply Ne.symm; assumption))) (by rfl) ?_
        refine r_iload dX4_dropLowLimb_60 rfl ?_
        refine r_laload' dX4_dropLowLimb_62 wu_eq (by rfl) _ rfl (by omega) (by omega) ?_
        rw [show fl j (rJ R) (rJ S) (j + 1) = lN (dg 4294967296 S (j + 1)) from fl_hi (by omega)]
        first | refine r_laddN dX4_dropLowLimb_63 ?_ | refine r_ladd dX4_dropLowLimb_63 ?_
        refine r_lload_n dX4_dropLowLimb_64 rfl ?_
        first | refine r_laddN dX4_dropLowLimb_65 ?_ | refine r_ladd dX4_dropLowLimb_65 ?_
        refine r_lstore (i := 6) (L0 := [(5, _), (3, _), (1, _), (0, _)]) dX4_dropLowLimb_66 (by decide) rfl ?_
        refine r_aload_n dX4_dropLowLimb_68 rfl ?_
        refine r_getf dX4_dropLowLimb_69 fX4_38 (by repeat first | exact wu_eq | assumption | (apply wu_ne; first | omega | assumption | (apply Ne.symm; assumption))) (by rfl) ?_
        refine r_iload dX4_dropLowLimb_72 rfl ?_
        refine r_iconst (v := nI 1) dX4_dropLowLimb_74 (by decide) ?_
        first | refine r_isubN dX4_dropLowLimb_75 (by omega) ?_ | refine r_isub dX4_dropLowLimb_75 ?_
        refine r_lload dX4_dropLowLimb_76 rfl ?_
        refine r_ldc2 dX4_dropLowLimb_78 qX4_51 ?_
        refine r_land32 dX4_dropLowLimb_81 ?_
        refine r_lastore dX4_dropLowLimb_82 (by repeat first | exact wu_eq | assumption | (apply wu_ne; first | omega | assumption | (apply Ne.symm; assumption))) _ rfl (by omega) (by omega) ?_
        refine r_lload dX4_dropLowLimb_83 rfl ?_
        refine r_bipush (v := nI 32) dX4_dropLowLimb_85 (by decide) ?_
        first | refine r_lushrN 32 (by decide) dX4_dropLowLimb_87 (by omega) ?_ | refine r_lushr dX4_dropLowLimb_87 ?_
        refine r_lstore_n (i := 3) (L0 := [(6, _), (5, _), (1, _), (0, _)]) dX4_dropLowLimb_88 rfl (by decide) rfl ?_
        refine r_iinc (L0 := [(3, _), (6, _), (1, _), (0, _)]) dX4_dropLowLimb_89 rfl (by first | exact iinc1 _ | rfl) (by decide) rfl ?_
        refine r_goto (tgt := 38) dX4_dropLowLimb_92 (by decide) ?_
        rw [Nat.add_sub_cancel, show (2 : Nat) ^ 32 = 4294967296 by decide, e1, e2, wu_wu, fl_up' (f := rJ R) (show lN _ = rJ R j from rfl)]
        refine r_sub [0, 1, 3, 4] rfl ?_
        exact ih (j + 1) (by omega)
  refine ab_Ct.of (by decide +kernel) (Nat.le_of_ble_eq_true rfl) (by rintro _ _ _ ⟨rfl, rfl, rfl⟩; trivial) ?_
  show ab_St MX4_dropLowLimb g 0 0 0 [(0, .ref M)] [] _ _ _
  refine r_aload_n dX4_dropLowLimb_0 rfl ?_
  refine r_getf dX4_dropLowLimb_1 fX4_38 (by repeat first | exact wu_eq | assumption | (apply wu_ne; first | omega | assumption | (apply Ne.symm; assumption))) (by rfl) ?_
  refine r_iconst (v := nI 0) dX4_dropLowLimb_4 (by decide) ?_
  refine r_laload' dX4_dropLowLimb_5 hs (by rfl) _ rfl (by omega) (by omega) ?_
  rw [show rJ S 0 = lN (dg 4294967296 S 0) from rfl]
  refine r_aload_n dX4_dropLowLimb_6 rfl ?_
  refine r_getf dX4_dropLowLimb_7 fX4_53 (by repeat first | exact wu_eq | assumption | (apply wu_ne; first | omega | assumption | (apply Ne.symm; assumption))) (by rfl) ?_
  first | refine r_lmulN dX4_dropLowLimb_10 ?_ | refine r_lmul dX4_dropLowLimb_10 ?_
  refine r_ldc2 dX4_dropLowLimb_11 qX4_51 ?_
  refine r_land32 dX4_dropLowLimb_14 ?_
  rw [hm0]
  refine r_lstore_n (i := 1) (L0 := [(0, _)]) dX4_dropLowLimb_15 rfl (by decide) rfl ?_
  refine r_lload_n dX4_dropLowLimb_16 rfl ?_
  refine r_aload_n dX4_dropLowLimb_17 rfl ?_
  refine r_getf dX4_dropLowLimb_18 fX4_19 (by repeat first | exact wu_eq | assumption | (apply wu_ne; first | omega | assumption | (apply Ne.symm; assumption))) (by rfl) ?_
  refine r_iconst (v := nI 0) dX4_dropLowLimb_21 (by decide) ?_
  refine r_laload' dX4_dropLowLimb_22 hc (by rfl) _ rfl (by omega) (by omega) ?_
  rw [show rJ c 0 = lN (dg 4294967296 c 0) from rfl]
  first | refine r_lmulN dX4_dropLowLimb_23 ?_ | refine r_lmul dX4_dropLowLimb_23 ?_
  refine r_aload_n dX4_dropLowLimb_24 rfl ?_
  refine r_getf dX4_dropLowLimb_25 fX4_38 (by repeat first | exact wu_eq | assumption | (apply wu_ne; first | omega | assumption | (apply Ne.symm; assumption))) (by rfl) ?_
  refine r_iconst (v := nI 0) dX4_dropLowLimb_28 (by decide) ?_
  refine r_laload' dX4_dropLowLimb_29 hs (by rfl) _ rfl (by omega) (by omega) ?_
  rw [show rJ S 0 = lN (dg 4294967296 S 0) from rfl]
  first | refine r_laddN dX4_dropLowLimb_30 ?_ | refine r_ladd dX4_dropLowLimb_30 ?_
  refine r_bipush (v := nI 32) dX4_dropLowLimb_31 (by decide) ?_
  first | refine r_lushrN 32 (by decide) dX4_dropLowLimb_33 (by omega) ?_ | refine r_lushr dX4_dropLowLimb_33 ?_
  refine r_lstore_n (i := 3) (L0 := [(1, _), (0, _)]) dX4_dropLowLimb_34 rfl (by decide) rfl ?_
  refine r_iconst (v := nI 1) dX4_dropLowLimb_35 (by decide) ?_
  refine r_istore (i := 5) (L0 := [(3, _), (1, _), (0, _)]) dX4_dropLowLimb_36 (by decide) rfl ?_
  rw [show (2 : Nat) ^ 32 = 4294967296 by decide, ec1]
  have h := K (W - 1) 0 (by omega)
  rw [fl_0, wu_self hs] at h
  exact h
set_option maxRecDepth 100000 in
set_option maxHeartbeats 4000000 in
theorem c_mc {g : ab_G} {N M W ni c S t a b u x y : Nat} {w : ab_W} (hM : w M = moO M W ni) (hc : w (M + 1) = aN W c) (hs : w (M + 7) = aN (W + 2) S) (ht : w t = aN W u) (ha : w a = aN W x) (hb : w b = aN W y) (ht7 : t ≠ M + 7) (ha7 : a ≠ M + 7) (hb7 : b ≠ M + 7) (ht1 : t ≠ M + 1) (ht0 : t ≠ M) (h1W : 1 ≤ W) (hW : W ≤ 500) (hcW : c < 4294967296 ^ W) (hu : u < 4294967296 ^ W) (hx : x < c) (hy : y < 4294967296 ^ W) (hS : S < 4294967296 ^ (W + 2)) (hni : ni < 4294967296) (hinv : (c * ni + 1) % 4294967296 = 0) : ab_Ct MX4_multiplyCarried g [.ref M, .ref t, .ref a, .ref b] N w (fun r N' w' => ∃ S' z, S' < 4294967296 ^ (W + 2) ∧ z < c ∧ z * 4294967296 ^ W % c = x * y % c ∧ r = none ∧ N = N' ∧ w' = wu (wu w (M + 7) (aN (W + 2) S')) t (aN W z)) := by
  have hxW : x < 4294967296 ^ W := by omega
  have hpW : 0 < 4294967296 ^ W := Nat.pow_pos (by decide)
  have p1 : (4294967296 : Nat) ^ (W + 1) = 4294967296 ^ W * 4294967296 := by rw [Nat.pow_succ]
  have p2 : (4294967296 : Nat) ^ (W + 2) = 4294967296 ^ W * 4294967296 * 4294967296 := by rw [Nat.pow_succ, Nat.pow_succ]
  have K : ∀ k i Si q, i + k = W → Si < 4294967296 ^ (W + 2) → q < 4294967296 ^ i → Si % 4294967296 ^ (W + 1) * 4294967296 ^ i = x * (y % 4294967296 ^ i) + q * c → ab_St MX4_multiplyCarried g 0 0 39 [(4, .int (nI i)), (0, .ref M), (1, .ref t), (2, .ref a), (3, .ref b)] [] N (wu w (M + 7) (aN (W + 2) Si)) (fun r N' w' => ∃ S' z, S' < 4294967296 ^ (W + 2) ∧ z < c ∧ z * 4294967296 ^ W % c = x * y % c ∧ r = none ∧ N = N' ∧ w' = wu (wu w (M + 7) (aN (W + 2) S')) t (aN W z)) := by
    intro k
    induction k with
    | zero =>
      intro i Si q hi hSi hq hsi
      obtain rfl : i = W := by omega
      rw [Nat.mod_eq_of_lt hy] at hsi
      have hb1 := mont_bound hpW hsi hy hq (by omega)
      generalize hse : Si % 4294967296 ^ (i + 1) = s at hsi hb1
      have ht' : Si % 4294967296 ^ i = s % 4294967296 ^ i := by
        rw [← hse, p1, Nat.mod_mul_right_mod]
      have hd : dg 4294967296 Si i = s / 4294967296 ^ i := by
        rw [← hse, p1, Nat.mod_mul_right_div_self]
        rfl
      have hdl := dg_lt Si i
      obtain ⟨he, hz⟩ := mont_end hcW (by omega) ht' hd
      have hcl := mont_class (P := 4294967296 ^ i) hsi
      have htl : Si % 4294967296 ^ i < 4294967296 ^ i := Nat.mod_lt _ hpW
      generalize (if c ≤ s then s - c else s) = z at he hz hcl
      have hcm : c < 4294967296 ^ i := hcW
      refine r_iload dX4_multiplyCarried_39 rfl ?_
      refine r_aload_n dX4_multiplyCarried_41 rfl ?_
      refine r_getf dX4_multiplyCarried_42 fX4_13 (by repeat first | exact wu_eq | assumption | (apply wu_ne; first | omega | assumption | (apply Ne.symm; assumption))) (by rfl) ?_
      first | refine r_icmp_geN (tgt := 67) dX4_multiplyCarried_45 (by decide) (by omega) (by omega) (fun h45 => ?_) (fun h45 => ?_) | refine r_icmp_ge (tgt := 67) dX4_multiplyCarried_45 (by decide) (fun h45 => ?_) (fun h45 => ?_)
      · refine r_aload_n dX4_multiplyCarried_67 rfl ?_
        refine r_aload_n dX4_multiplyCarried_68 rfl ?_
        refine r_getf dX4_multiplyCarried_69 fX4_38 (by repeat first | exact wu_eq | assumption | (apply wu_ne; first | omega | assumption | (apply Ne.symm; assumption))) (by rfl) ?_
        refine r_invS dX4_multiplyCarried_72 kX4_41 (c_copy (n := i) (m := i + 2) (u := u) (v := Si) ht7 (wu_ne ht7 ht) wu_eq (by omega) (by omega) hu hSi) rfl rfl ⟨by decide, by decide⟩ (Nat.le_of_ble_eq_true rfl) ⟨by decide, by decide⟩ ⟨rfl, rfl⟩ ?_
        rintro _ _ _ ⟨rfl, rfl, rfl⟩
        refine r_aload_n dX4_multiplyCarried_75 rfl ?_
        refine r_getf dX4_multiplyCarried_76 fX4_38 (by repeat first | exact wu_eq | assumption | (apply wu_ne; first | omega | assumption | (apply Ne.symm; assumption))) (by rfl) ?_
        refine r_aload_n dX4_multiplyCarried_79 rfl ?_
        refine r_getf dX4_multiplyCarried_80 fX4_13 (by repeat first | exact wu_eq | assumption | (apply wu_ne; first | omega | assumption | (apply Ne.symm; assumption))) (by rfl) ?_
        refine r_laload' dX4_multiplyCarried_83 (wu_ne (Ne.symm ht7) wu_eq) (by rfl) _ rfl (by omega) (by omega) ?_
        rw [show rJ Si i = lN (dg 4294967296 Si i) from rfl]
        refine r_lconst (v := lN 0) dX4_multiplyCarried_84 (by decide) ?_
        first | refine r_lcmp_neN (tgt := 100) dX4_multiplyCarried_85 dX4_multiplyCarried_86 (by decide) (by omega) (by omega) (fun h85 => ?_) (fun h85 => ?_) | refine r_lcmp_ne (tgt := 100) dX4_multiplyCarried_85 dX4_multiplyCarried_86 (by decide) (fun h85 => ?_) (fun h85 => ?_)
        · refine r_aload_n dX4_multiplyCarried_100 rfl ?_
          refine r_aload_n dX4_multiplyCarried_101 rfl ?_
          refine r_aload_n dX4_multiplyCarried_102 rfl ?_
          refine r_getf dX4_multiplyCarried_103 fX4_19 (by repeat first | exact wu_eq | assumption | (apply wu_ne; first | omega | assumption | (apply Ne.symm; assumption))) (by rfl) ?_
          refine r_invS dX4_multiplyCarried_106 kX4_88 (c_subtract (n := i) (u := Si % 4294967296 ^ i) (v := c) ht1 wu_eq (wu_ne (Ne.symm ht1) (wu_ne (by omega) hc)) (by omega) htl hcm) rfl rfl ⟨by decide, by decide⟩ (Nat.le_of_ble_eq_true rfl) ⟨by decide, by decide⟩ ⟨rfl, rfl⟩ ?_
          rintro _ _ _ ⟨rfl, rfl, rfl⟩
          refine r_pop dX4_multiplyCarried_109 rfl ?_
          refine r_ret (r := none) dX4_multiplyCarried_110 (by decide) (by decide) ?_
          refine ⟨Si, z, hSi, hz, hcl, rfl, rfl, ?_⟩
          rw [if_pos (Or.inl h85)] at he
          rw [wu_wu, he]
        · refine r_aload_n dX4_multiplyCarried_89 rfl ?_
          refine r_aload_n dX4_multiplyCarried_90 rfl ?_
          refine r_getf dX4_multiplyCarried_91 fX4_19 (by repeat first | exact wu_eq | assumption | (apply wu_ne; first | omega | assumption | (apply Ne.symm; assumption))) (by rfl) ?_
          refine r_invS dX4_multiplyCarried_94 kX4_84 (c_order (n := i) (u := Si % 4294967296 ^ i) (v := c) wu_eq (wu_ne (Ne.symm ht1) (wu_ne (by omega) hc)) (by omega) htl hcm) rfl rfl ⟨by decide, by decide⟩ (Nat.le_of_ble_eq_true rfl) ⟨by decide, by decide⟩ ⟨rfl, rfl⟩ ?_
          rintro _ _ _ ⟨rfl, rfl, rfl⟩
          refine r_if_lt (tgt := 110) dX4_multiplyCarried_97 (by decide) (fun h97 => ?_) (fun h97 => ?_)
          · refine r_ret (r := none) dX4_multiplyCarried_110 (by decide) (by decide) ?_
            refine ⟨Si, z, hSi, hz, hcl, rfl, rfl, ?_⟩
            rw [if_neg] at he
            · rw [he]
            · rintro (h | h)
              · exact h h85
              · rw [if_neg (by omega)] at h97
                split at h97 <;> exact absurd h97 (by decide)
          · refine r_aload_n dX4_multiplyCarried_100 rfl ?_
            refine r_aload_n dX4_multiplyCarried_101 rfl ?_
            refine r_aload_n dX4_multiplyCarried_102 rfl ?_
            refine r_getf dX4_multiplyCarried_103 fX4_19 (by repeat first | exact wu_eq | assumption | (apply wu_ne; first | omega | assumption | (apply Ne.symm; assumption))) (by rfl) ?_
            refine r_invS dX4_multiplyCarried_106 kX4_88 (c_subtract (n := i) (u := Si % 4294967296 ^ i) (v := c) ht1 wu_eq (wu_ne (Ne.symm ht1) (wu_ne (by omega) hc)) (by omega) htl hcm) rfl rfl ⟨by decide, by decide⟩ (Nat.le_of_ble_eq_true rfl) ⟨by decide, by decide⟩ ⟨rfl, rfl⟩ ?_
            rintro _ _ _ ⟨rfl, rfl, rfl⟩
            refine r_pop dX4_multiplyCarried_109 rfl ?_
            refine r_ret (r := none) dX4_multiplyCarried_110 (by decide) (by decide) ?_
            refine ⟨Si, z, hSi, hz, hcl, rfl, rfl, ?_⟩
            rw [if_pos] at he
            · rw [wu_wu, he]
            · right
              refine Nat.le_of_not_lt fun h => h97 ?_
              rw [if_pos h]
              decide
      · omega
    | succ k ih =>
      intro i Si q hi hSi hq hsi
      have hpi : 0 < 4294967296 ^ i := Nat.pow_pos (by decide)
      have hb1 := mont_bound hpi hsi (Nat.mod_lt _ hpi) hq (by omega)
      have hyl := dg_lt y i
      have hyx : dg 4294967296 y i * x ≤ 4294967295 * 4294967296 ^ W := Nat.mul_le_mul (by omega) (by omega)
      generalize hse : Si % 4294967296 ^ (W + 1) = s at hsi hb1
      have hmz := mont_zero (S := s + dg 4294967296 y i * x) hinv
      have hml : (s + dg 4294967296 y i * x) % 4294967296 * ni % 4294967296 < 4294967296 := Nat.mod_lt _ (by decide)
      have hst := mont_step (m := (s + dg 4294967296 y i * x) % 4294967296 * ni % 4294967296) hsi rfl (show s + dg 4294967296 y i * x = s + x * dg 4294967296 y i by rw [Nat.mul_comm]) hmz
      generalize hme : (s + dg 4294967296 y i * x) % 4294967296 * ni % 4294967296 = m at hml hst
      have hmc : m * c ≤ 4294967295 * 4294967296 ^ W := Nat.mul_le_mul (by omega) (by omega)
      have hR : (s + dg 4294967296 y i * x + m * c) / 4294967296 < 4294967296 ^ (W + 1) := Nat.div_lt_of_lt_mul (by omega)
      generalize hRe : (s + dg 4294967296 y i * x + m * c) / 4294967296 = R at hR hst
      have htd := dg_lt (s + dg 4294967296 y i * x) (W + 1)
      have htp : dg 4294967296 (s + dg 4294967296 y i * x) (W + 1) * 4294967296 ^ (W + 1) ≤ 4294967295 * 4294967296 ^ (W + 1) := Nat.mul_le_mul_right _ (by omega)
      have hqm : m * 4294967296 ^ i ≤ 4294967295 * 4294967296 ^ i := Nat.mul_le_mul_right _ (by omega)
      refine r_iload dX4_multiplyCarried_39 rfl ?_
      refine r_aload_n dX4_multiplyCarried_41 rfl ?_
      refine r_getf dX4_multiplyCarried_42 fX4_13 (by repeat first | exact wu_eq | assumption | (apply wu_ne; first | omega | assumption | (apply Ne.symm; assumption))) (by rfl) ?_
      first | refine r_icmp_geN (tgt := 67) dX4_multiplyCarried_45 (by decide) (by omega) (by omega) (fun h45 => ?_) (fun h45 => ?_) | refine r_icmp_ge (tgt := 67) dX4_multiplyCarried_45 (by decide) (fun h45 => ?_) (fun h45 => ?_)
      · omega
      · refine r_aload_n dX4_multiplyCarried_48 rfl ?_
        refine r_aload_n dX4_multiplyCarried_49 rfl ?_
        refine r_aload_n dX4_multiplyCarried_50 rfl ?_
        refine r_iload dX4_multiplyCarried_51 rfl ?_
        refine r_laload' dX4_multiplyCarried_53 (wu_ne hb7 hb) (by rfl) _ rfl (by omega) (by omega) ?_
        rw [show rJ y i = lN (dg 4294967296 y i) from rfl]
        refine r_invV dX4_multiplyCarried_54 kX4_92 (c_addProduct (W := W) (ni := ni) (x := x) (S := Si) (l := dg 4294967296 y i) (wu_ne (by omega) hM) wu_eq (wu_ne ha7 ha) hW hxW hSi hyl ha7) rfl rfl (by repeat first | exact wu_eq | assumption | (apply wu_ne; first | omega | assumption | (apply Ne.symm; assumption))) rfl rfl ⟨by decide, by decide⟩ (Nat.le_of_ble_eq_true rfl) ⟨by decide, by decide⟩ ⟨rfl, rfl⟩ ?_
        rintro _ _ _ ⟨rfl, rfl, rfl⟩
        refine r_aload_n dX4_multiplyCarried_57 rfl ?_
        refine r_invV dX4_multiplyCarried_58 kX4_95 (c_dropLowLimb (W := W) (ni := ni) (c := c) (S := Si % 4294967296 ^ (W + 1) + dg 4294967296 y i * x) (wu_ne (by omega) (wu_ne (by omega) hM)) wu_eq (wu_ne (by omega) (wu_ne (by omega) hc)) h1W hW hcW (by omega) (by rw [hse]; omega) hni hinv) rfl rfl (by repeat first | exact wu_eq | assumption | (apply wu_ne; first | omega | assumption | (apply Ne.symm; assumption))) rfl rfl ⟨by decide, by decide⟩ (Nat.le_of_ble_eq_true rfl) ⟨by decide, by decide⟩ ⟨rfl, rfl⟩ ?_
        rintro _ _ _ ⟨rfl, rfl, rfl⟩
        refine r_iinc (L0 := [(0, _), (1, _), (2, _), (3, _)]) dX4_multiplyCarried_61 rfl (by first | exact iinc1 _ | rfl) (by decide) rfl ?_
        refine r_goto (tgt := 39) dX4_multiplyCarried_64 (by decide) ?_
        rw [wu_wu, wu_wu, hse, hme, hRe]
        refine ih (i + 1) _ (q + m * 4294967296 ^ i) (by omega) (by omega) (by rw [Nat.pow_succ]; omega) ?_
        rw [Nat.add_mul_mod_self_right, Nat.mod_eq_of_lt hR]
        exact hst
  refine ab_Ct.of (by decide +kernel) (Nat.le_of_ble_eq_true rfl) (by rintro _ _ _ ⟨_, _, -, -, -, rfl, -, -⟩; trivial) ?_
  show ab_St MX4_multiplyCarried g 0 0 0 [(0, .ref M), (1, .ref t), (2, .ref a), (3, .ref b)] [] _ _ _
  refine r_aload_n dX4_multiplyCarried_0 rfl ?_
  refine r_alen' dX4_multiplyCarried_1 (by repeat first | exact wu_eq | assumption | (apply wu_ne; first | omega | assumption | (apply Ne.symm; assumption))) (by rfl) ?_
  refine r_aload_n dX4_multiplyCarried_2 rfl ?_
  refine r_getf dX4_multiplyCarried_3 fX4_13 (by repeat first | exact wu_eq | assumption | (apply wu_ne; first | omega | assumption | (apply Ne.symm; assumption))) (by rfl) ?_
  first | refine r_icmp_neN (tgt := 27) dX4_multiplyCarried_6 (by decide) (by omega) (by omega) (fun h6 => ?_) (fun h6 => ?_) | refine r_icmp_ne (tgt := 27) dX4_multiplyCarried_6 (by decide) (fun h6 => ?_) (fun h6 => ?_)
  · omega
  · refine r_aload_n dX4_multiplyCarried_9 rfl ?_
    refine r_alen' dX4_multiplyCarried_10 (by repeat first | exact wu_eq | assumption | (apply wu_ne; first | omega | assumption | (apply Ne.symm; assumption))) (by rfl) ?_
    refine r_aload_n dX4_multiplyCarried_11 rfl ?_
    refine r_getf dX4_multiplyCarried_12 fX4_13 (by repeat first | exact wu_eq | assumption | (apply wu_ne; first | omega | assumption | (apply Ne.symm; assumption))) (by rfl) ?_
    first | refine r_icmp_neN (tgt := 27) dX4_multiplyCarried_15 (by decide) (by omega) (by omega) (fun h15 => ?_) (fun h15 => ?_) | refine r_icmp_ne (tgt := 27) dX4_multiplyCarried_15 (by decide) (fun h15 => ?_) (fun h15 => ?_)
    · omega
    · refine r_aload_n dX4_multiplyCarried_18 rfl ?_
      refine r_alen' dX4_multiplyCarried_19 (by repeat first | exact wu_eq | assumption | (apply wu_ne; first | omega | assumption | (apply Ne.symm; assumption))) (by rfl) ?_
      refine r_aload_n dX4_multiplyCarried_20 rfl ?_
      refine r_getf dX4_multiplyCarried_21 fX4_13 (by repeat first | exact wu_eq | assumption | (apply wu_ne; first | omega | assumption | (apply Ne.symm; assumption))) (by rfl) ?_
      first | refine r_icmp_eqN (tgt := 28) dX4_multiplyCarried_24 (by decide) (by omega) (by omega) (fun h24 => ?_) (fun h24 => ?_) | refine r_icmp_eq (tgt := 28) dX4_multiplyCarried_24 (by decide) (fun h24 => ?_) (fun h24 => ?_)
      · refine r_aload_n dX4_multiplyCarried_28 rfl ?_
        refine r_getf dX4_multiplyCarried_29 fX4_38 (by repeat first | exact wu_eq | assumption | (apply wu_ne; first | omega | assumption | (apply Ne.symm; assumption))) (by rfl) ?_
        refine r_lconst (v := lN 0) dX4_multiplyCarried_32 (by decide) ?_
        refine r_invS dX4_multiplyCarried_33 kX4_67 (c_fill hs (by omega) hS) rfl rfl ⟨by decide, by decide⟩ (Nat.le_of_ble_eq_true rfl) ⟨by decide, by decide⟩ ⟨rfl, rfl⟩ ?_
        rintro _ _ _ ⟨rfl, rfl, rfl⟩
        refine r_iconst (v := nI 0) dX4_multiplyCarried_36 (by decide) ?_
        refine r_istore (i := 4) (L0 := [(0, _), (1, _), (2, _), (3, _)]) dX4_multiplyCarried_37 (by decide) rfl ?_
        exact K W 0 0 0 (by omega) (Nat.pow_pos (by decide)) (by simp) (by simp [Nat.mod_one])
      · omega
