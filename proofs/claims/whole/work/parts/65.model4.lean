/-! SignHouseModel: times -/
theorem xv_ud {v : Nat → Nat} {s k x : Nat} (hs : s < 19) (hk : k < 84) (hx : x < 65536) : va_up (xv v) (84 * s + k) (nI x) = xv (us v s (ud 65536 (v s) k x)) := by
  rw [xw_up0 hs hk]
  refine xw_us fun j _ => ?_
  rw [dg_ud (by decide) hx]
  rfl
theorem r_xlU {μ : ab_M} {g : ab_G} {uc us1 pc N : Nat} {L : List (Nat × Value)} {S : List Value} {w : ab_W} {Q : ab_Q} {a t X s k : Nat} {i : Int32} {v : Nat → Nat} (d : decode (mC μ) pc = .ok (.iaload, 1)) (hw : w a = xA (us v t X)) (hi : i = nI (84 * s + k)) (hs : s < 19) (hk : k < 84) (hn : s ≠ t) (kk : ab_St μ g uc us1 (pc + 1) L (.int (nI (dg 65536 (v s) k)) :: S) N w Q) : ab_St μ g uc us1 pc L (.int i :: .ref a :: S) N w Q := r_xlV d hw hi hs hk (by rw [us_ne hn]; exact kk)
theorem r_xlT {μ : ab_M} {g : ab_G} {uc us1 pc N : Nat} {L : List (Nat × Value)} {S : List Value} {w : ab_W} {Q : ab_Q} {a X s k : Nat} {i : Int32} {v : Nat → Nat} (d : decode (mC μ) pc = .ok (.iaload, 1)) (hw : w a = xA (us v s X)) (hi : i = nI (84 * s + k)) (hs : s < 19) (hk : k < 84) (kk : ab_St μ g uc us1 (pc + 1) L (.int (nI (dg 65536 X k)) :: S) N w Q) : ab_St μ g uc us1 pc L (.int i :: .ref a :: S) N w Q := r_xlV d hw hi hs hk (by rw [us_eq]; exact kk)
theorem r_xsU {μ : ab_M} {g : ab_G} {uc us1 pc N : Nat} {L : List (Nat × Value)} {S : List Value} {w : ab_W} {Q : ab_Q} {a s k x X : Nat} {i : Int32} {v : Nat → Nat} (d : decode (mC μ) pc = .ok (.iastore, 1)) (hw : w a = xA (us v s X)) (hi : i = nI (84 * s + k)) (hs : s < 19) (hk : k < 84) (hx : x < 65536) (kk : ab_St μ g uc us1 (pc + 1) L S N (wu w a (xA (us v s (ud 65536 X k x)))) Q) : ab_St μ g uc us1 pc L (.int (nI x) :: .int i :: .ref a :: S) N w Q := r_iastore d hw (84 * s + k) hi (show 84 * s + k < 1596 by omega) (by decide) (by rw [xv_ud hs hk hx, us_eq, us_us]; exact kk)
theorem mul6_step {T X P cy bi cj x val Bi Bj vc vj : Nat} (hP : P = Bi * Bj) (hx : x * P ≤ X) (hinv : X + cy * P = T + bi * Bi * vj) (hval : val = bi * cj + x + cy) (hvc : vc = vj + Bj * cj) : X - x * P + val % 65536 * P + val / 65536 * (P * 65536) = T + bi * Bi * vc := by
  have h1 : val % 65536 * P + val / 65536 * (P * 65536) = val * P := by
    rw [Nat.mul_comm P, ← Nat.mul_assoc, ← Nat.add_mul]
    congr 1
    omega
  have h2 : val * P = bi * cj * P + x * P + cy * P := by rw [hval, Nat.add_mul, Nat.add_mul]
  have h3 : bi * Bi * vc = bi * Bi * vj + bi * cj * P := by
    rw [hvc, Nat.mul_add, hP]
    congr 1
    rw [Nat.mul_assoc, Nat.mul_assoc, Nat.mul_left_comm cj, Nat.mul_comm Bj cj]
  omega
set_option maxRecDepth 100000 in
set_option maxHeartbeats 4000000 in
theorem c_times6 {g : ab_G} {N t a b n m : Nat} {v : Nat → Nat} {fs : List Value} {w : ab_W} (h : w 74 = mdX fs) (hx : w 75 = xA v) (ht : t < 19) (ha : a < 19) (hb : b < 19) (hat : a ≠ t) (hbt : b ≠ t) (hva : v a < 65536 ^ n) (hvb : v b < 65536 ^ m) (hnm : n + m ≤ 84) : ab_Ct MX8_times g [.ref 74, .int (nI t), .int (nI a), .int (nI b)] N w (rt none N (wu w 75 (xA (us v t (v a * v b))))) := by
  have hna : bnd (v a) := Nat.lt_of_lt_of_le hva (Nat.pow_le_pow_right (by decide) (by omega))
  have hnb : bnd (v b) := Nat.lt_of_lt_of_le hvb (Nat.pow_le_pow_right (by decide) (by omega))
  have hla := ll_le hva
  have hlb := ll_le hvb
  have hva' := ll_lt (v a)
  have hvb' := ll_lt (v b)
  generalize hle0 : ll (v a) = lb at hla hva'
  generalize hlc : ll (v b) = lc at hlb hvb'
  have K : ∀ k i, i + k = lb → ab_St MX8_times g 0 0 22 [(6, .int (nI i)), (5, .int (nI lc)), (4, .int (nI lb)), (0, .ref 74), (1, .int (nI t)), (2, .int (nI a)), (3, .int (nI b))] [] N (wu w 75 (xA (us v t (v a % 65536 ^ i * v b)))) (rt none N (wu w 75 (xA (us v t (v a * v b))))) := by
    intro k
    induction k with
    | zero =>
      intro i hi
      refine r_iload dX8_times_22 rfl ?_
      refine r_iload dX8_times_24 rfl ?_
      first | refine r_icmp_geN (tgt := 154) dX8_times_26 (by decide) (by omega) (by omega) (fun h26 => ?_) (fun h26 => ?_) | refine r_icmp_ge (tgt := 154) dX8_times_26 (by decide) (fun h26 => ?_) (fun h26 => ?_)
      · refine r_ret (r := none) dX8_times_154 (by decide) (by decide) ?_
        refine ⟨rfl, rfl, ?_⟩
        rw [show i = lb by omega, Nat.mod_eq_of_lt hva']
      · omega
    | succ k ih =>
      intro i hi
      have hpi : 0 < 65536 ^ i := Nat.pow_pos (by decide)
      have hT : v a % 65536 ^ i * v b < 65536 ^ (i + lc) := by
        rw [Nat.pow_add]
        exact Nat.mul_lt_mul_of_lt_of_le (Nat.mod_lt _ hpi) (Nat.le_of_lt hvb') (Nat.pow_pos (by decide))
      have ih1 := ih (i + 1) (by omega)
      have hsucc : v a % 65536 ^ (i + 1) * v b = v a % 65536 ^ i * v b + dg 65536 (v a) i * 65536 ^ i * v b := by
        rw [dg_succ, Nat.add_mul, Nat.mul_comm (dg 65536 (v a) i)]
      rw [hsucc] at ih1
      generalize v a % 65536 ^ i * v b = T at hT ih1
      have hb1 := dg6_lt (v a) i
      have J : ∀ z j X cy, j + z = lc → X < 65536 ^ (i + lc) → cy < 65536 → X + cy * 65536 ^ (i + j) = T + dg 65536 (v a) i * 65536 ^ i * (v b % 65536 ^ j) → ab_St MX8_times g 0 0 50 [(11, .int (nI j)), (9, .long (lN (dg 65536 (v a) i))), (7, .long (lN cy)), (6, .int (nI i)), (5, .int (nI lc)), (4, .int (nI lb)), (0, .ref 74), (1, .int (nI t)), (2, .int (nI a)), (3, .int (nI b))] [] N (wu w 75 (xA (us v t X))) (rt none N (wu w 75 (xA (us v t (v a * v b))))) := by
        intro z
        induction z with
        | zero =>
          intro j X cy hj hX hcy hinv
          refine r_iload dX8_times_50 rfl ?_
          refine r_iload dX8_times_52 rfl ?_
          first | refine r_icmp_geN (tgt := 130) dX8_times_54 (by decide) (by omega) (by omega) (fun h54 => ?_) (fun h54 => ?_) | refine r_icmp_ge (tgt := 130) dX8_times_54 (by decide) (fun h54 => ?_) (fun h54 => ?_)
          · refine r_aload_n dX8_times_130 rfl ?_
            refine r_getf dX8_times_131 fX8_7 (by repeat first | exact wu_eq | assumption | (apply wu_ne; first | omega | assumption | (apply Ne.symm; assumption))) (by rfl) ?_
            refine r_bipush (v := nI 84) dX8_times_134 (by decide) ?_
            refine r_iload_n dX8_times_136 rfl ?_
            first | refine r_imulN dX8_times_137 ?_ | refine r_imul dX8_times_137 ?_
            refine r_iload dX8_times_138 rfl ?_
            first | refine r_iaddN dX8_times_140 ?_ | refine r_iadd dX8_times_140 ?_
            refine r_iload dX8_times_141 rfl ?_
            first | refine r_iaddN dX8_times_143 ?_ | refine r_iadd dX8_times_143 ?_
            refine r_lload dX8_times_144 rfl ?_
            first | refine r_l2iN dX8_times_146 ?_ | refine r_l2i dX8_times_146 ?_
            refine r_xsU (s := t) (k := i + lc) dX8_times_147 (by repeat first | exact wu_eq | assumption | (apply wu_ne; first | omega | assumption | (apply Ne.symm; assumption))) (congrArg nI (by omega)) (by omega) (by omega) (by first | assumption | omega | exact Nat.mod_lt _ (by decide)) ?_
            refine r_iinc (L0 := [(11, _), (9, _), (7, _), (5, _), (4, _), (0, _), (1, _), (2, _), (3, _)]) dX8_times_148 rfl (by first | exact iinc1 _ | rfl) (by decide) rfl ?_
            refine r_goto (tgt := 22) dX8_times_151 (by decide) ?_
            obtain rfl : j = lc := by omega
            have e : ud 65536 X (i + j) cy = T + dg 65536 (v a) i * 65536 ^ i * v b := by
              unfold ud
              rw [dg_big hX (Nat.le_refl _) (by decide), Nat.zero_mul, Nat.sub_zero, hinv, Nat.mod_eq_of_lt hvb']
            rw [wu_wu, e]
            refine r_sub [0, 4, 5, 6, 7, 8, 9] rfl ?_
            exact ih1
          · omega
        | succ z jh =>
          intro j X cy hj hX hcy hinv
          have h2 := dg6_lt (v b) j
          have h3 := dg6_lt X (i + j)
          have hm : dg 65536 (v a) i * dg 65536 (v b) j ≤ 65535 * 65535 := Nat.mul_le_mul (by omega) (by omega)
          have hle := dg_le 65536 X (i + j)
          refine r_iload dX8_times_50 rfl ?_
          refine r_iload dX8_times_52 rfl ?_
          first | refine r_icmp_geN (tgt := 130) dX8_times_54 (by decide) (by omega) (by omega) (fun h54 => ?_) (fun h54 => ?_) | refine r_icmp_ge (tgt := 130) dX8_times_54 (by decide) (fun h54 => ?_) (fun h54 => ?_)
          · omega
          · refine r_lload dX8_times_57 rfl ?_
            refine r_aload_n dX8_times_59 rfl ?_
            refine r_getf dX8_times_60 fX8_7 (by repeat first | exact wu_eq | assumption | (apply wu_ne; first | omega | assumption | (apply Ne.symm; assumption))) (by rfl) ?_
            refine r_bipush (v := nI 84) dX8_times_63 (by decide) ?_
            refine r_iload_n dX8_times_65 rfl ?_
            first | refine r_imulN dX8_times_66 ?_ | refine r_imul dX8_times_66 ?_
            refine r_iload dX8_times_67 rfl ?_
            first | refine r_iaddN dX8_times_69 ?_ | refine r_iadd dX8_times_69 ?_
            refine r_xlU (s := b) (k := j) dX8_times_70 (by repeat first | exact wu_eq | assumption | (apply wu_ne; first | omega | assumption | (apply Ne.symm; assumption))) (congrArg nI (by omega)) (by omega) (by omega) (by first | assumption | omega) ?_
            first | refine r_i2lN dX8_times_71 (by omega) ?_ | refine r_i2l dX8_times_71 ?_
            refine r_lmulN (a := dg 65536 (v a) i) (b := dg 65536 (v b) j) dX8_times_72 ?_
            refine r_aload_n dX8_times_73 rfl ?_
            refine r_getf dX8_times_74 fX8_7 (by repeat first | exact wu_eq | assumption | (apply wu_ne; first | omega | assumption | (apply Ne.symm; assumption))) (by rfl) ?_
            refine r_bipush (v := nI 84) dX8_times_77 (by decide) ?_
            refine r_iload_n dX8_times_79 rfl ?_
            first | refine r_imulN dX8_times_80 ?_ | refine r_imul dX8_times_80 ?_
            refine r_iload dX8_times_81 rfl ?_
            first | refine r_iaddN dX8_times_83 ?_ | refine r_iadd dX8_times_83 ?_
            refine r_iload dX8_times_84 rfl ?_
            first | refine r_iaddN dX8_times_86 ?_ | refine r_iadd dX8_times_86 ?_
            refine r_xlT (s := t) (k := i + j) dX8_times_87 (by repeat first | exact wu_eq | assumption | (apply wu_ne; first | omega | assumption | (apply Ne.symm; assumption))) (congrArg nI (by omega)) (by omega) (by omega) ?_
            first | refine r_i2lN dX8_times_88 (by omega) ?_ | refine r_i2l dX8_times_88 ?_
            first | refine r_laddN dX8_times_89 ?_ | refine r_ladd dX8_times_89 ?_
            refine r_lload dX8_times_90 rfl ?_
            first | refine r_laddN dX8_times_92 ?_ | refine r_ladd dX8_times_92 ?_
            refine r_lstore (i := 12) (L0 := [(11, _), (9, _), (7, _), (6, _), (5, _), (4, _), (0, _), (1, _), (2, _), (3, _)]) dX8_times_93 (by decide) rfl ?_
            refine r_aload_n dX8_times_95 rfl ?_
            refine r_getf dX8_times_96 fX8_7 (by repeat first | exact wu_eq | assumption | (apply wu_ne; first | omega | assumption | (apply Ne.symm; assumption))) (by rfl) ?_
            refine r_bipush (v := nI 84) dX8_times_99 (by decide) ?_
            refine r_iload_n dX8_times_101 rfl ?_
            first | refine r_imulN dX8_times_102 ?_ | refine r_imul dX8_times_102 ?_
            refine r_iload dX8_times_103 rfl ?_
            first | refine r_iaddN dX8_times_105 ?_ | refine r_iadd dX8_times_105 ?_
            refine r_iload dX8_times_106 rfl ?_
            first | refine r_iaddN dX8_times_108 ?_ | refine r_iadd dX8_times_108 ?_
            refine r_lload dX8_times_109 rfl ?_
            refine r_ldc2 dX8_times_111 qX8_125 ?_
            refine r_toJ (y := lN 65535) rfl ?_
            refine r_land dX8_times_114 ?_
            rw [lN_and16]
            first | refine r_l2iN dX8_times_115 ?_ | refine r_l2i dX8_times_115 ?_
            refine r_xsU (s := t) (k := i + j) dX8_times_116 (by repeat first | exact wu_eq | assumption | (apply wu_ne; first | omega | assumption | (apply Ne.symm; assumption))) (congrArg nI (by omega)) (by omega) (by omega) (by first | assumption | omega | exact Nat.mod_lt _ (by decide)) ?_
            refine r_lload dX8_times_117 rfl ?_
            refine r_bipush (v := nI 16) dX8_times_119 (by decide) ?_
            first | refine r_lshrN 16 (by decide) dX8_times_121 (by omega) ?_ | refine r_lshr dX8_times_121 ?_
            refine r_lstore (i := 7) (L0 := [(12, _), (11, _), (9, _), (6, _), (5, _), (4, _), (0, _), (1, _), (2, _), (3, _)]) dX8_times_122 (by decide) rfl ?_
            refine r_iinc (L0 := [(7, _), (12, _), (9, _), (6, _), (5, _), (4, _), (0, _), (1, _), (2, _), (3, _)]) dX8_times_124 rfl (by first | exact iinc1 _ | rfl) (by decide) rfl ?_
            refine r_goto (tgt := 50) dX8_times_127 (by decide) ?_
            rw [wu_wu]
            refine r_sub [0, 3, 1, 4, 5, 6, 7, 8, 9, 10] rfl ?_
            refine jh (j + 1) _ _ (by omega) (ud_lt (by decide) (Nat.mod_lt _ (by decide)) hX (by omega)) ?_ ?_
            · rw [show (2 : Nat) ^ 16 = 65536 by decide]
              exact Nat.div_lt_of_lt_mul (by omega)
            · unfold ud
              rw [show (2 : Nat) ^ 16 = 65536 by decide, ← Nat.add_assoc, Nat.pow_succ]
              exact mul6_step (Nat.pow_add _ _ _) hle hinv rfl (dg_succ 65536 (v b) j)
      refine r_iload dX8_times_22 rfl ?_
      refine r_iload dX8_times_24 rfl ?_
      first | refine r_icmp_geN (tgt := 154) dX8_times_26 (by decide) (by omega) (by omega) (fun h26 => ?_) (fun h26 => ?_) | refine r_icmp_ge (tgt := 154) dX8_times_26 (by decide) (fun h26 => ?_) (fun h26 => ?_)
      · omega
      · refine r_lconst (v := lN 0) dX8_times_29 (by decide) ?_
        refine r_lstore (i := 7) (L0 := [(6, _), (5, _), (4, _), (0, _), (1, _), (2, _), (3, _)]) dX8_times_30 (by decide) rfl ?_
        refine r_aload_n dX8_times_32 rfl ?_
        refine r_getf dX8_times_33 fX8_7 (by repeat first | exact wu_eq | assumption | (apply wu_ne; first | omega | assumption | (apply Ne.symm; assumption))) (by rfl) ?_
        refine r_bipush (v := nI 84) dX8_times_36 (by decide) ?_
        refine r_iload_n dX8_times_38 rfl ?_
        first | refine r_imulN dX8_times_39 ?_ | refine r_imul dX8_times_39 ?_
        refine r_iload dX8_times_40 rfl ?_
        first | refine r_iaddN dX8_times_42 ?_ | refine r_iadd dX8_times_42 ?_
        refine r_xlU (s := a) (k := i) dX8_times_43 (by repeat first | exact wu_eq | assumption | (apply wu_ne; first | omega | assumption | (apply Ne.symm; assumption))) (congrArg nI (by omega)) (by omega) (by omega) (by first | assumption | omega) ?_
        first | refine r_i2lN dX8_times_44 (by omega) ?_ | refine r_i2l dX8_times_44 ?_
        refine r_lstore (i := 9) (L0 := [(7, _), (6, _), (5, _), (4, _), (0, _), (1, _), (2, _), (3, _)]) dX8_times_45 (by decide) rfl ?_
        refine r_iconst (v := nI 0) dX8_times_47 (by decide) ?_
        refine r_istore (i := 11) (L0 := [(9, _), (7, _), (6, _), (5, _), (4, _), (0, _), (1, _), (2, _), (3, _)]) dX8_times_48 (by decide) rfl ?_
        refine r_sub [0, 1, 2, 3, 4, 5, 6, 7, 8, 9] rfl ?_
        exact J lc 0 T 0 (by omega) hT (by decide) (by simp [Nat.mod_one])
  refine ab_Ct.of (by decide +kernel) (Nat.le_of_ble_eq_true rfl) (by rintro _ _ _ ⟨rfl, rfl, rfl⟩; trivial) ?_
  show ab_St MX8_times g 0 0 0 [(0, .ref 74), (1, .int (nI t)), (2, .int (nI a)), (3, .int (nI b))] [] _ _ _
  refine r_aload_n dX8_times_0 rfl ?_
  refine r_iload_n dX8_times_1 rfl ?_
  refine r_invV dX8_times_2 kX8_120 (c_longOf (s := a) h hx ha hna) rfl rfl (by repeat first | exact wu_eq | assumption | (apply wu_ne; first | omega | assumption | (apply Ne.symm; assumption))) rfl rfl ⟨by decide, by decide⟩ (Nat.le_of_ble_eq_true rfl) ⟨by decide, by decide⟩ ⟨rfl, rfl⟩ ?_
  rintro _ _ _ ⟨rfl, rfl, rfl⟩
  rw [hle0]
  refine r_istore (i := 4) (L0 := [(0, _), (1, _), (2, _), (3, _)]) dX8_times_5 (by decide) rfl ?_
  refine r_aload_n dX8_times_7 rfl ?_
  refine r_iload_n dX8_times_8 rfl ?_
  refine r_invV dX8_times_9 kX8_120 (c_longOf (s := b) h hx hb hnb) rfl rfl (by repeat first | exact wu_eq | assumption | (apply wu_ne; first | omega | assumption | (apply Ne.symm; assumption))) rfl rfl ⟨by decide, by decide⟩ (Nat.le_of_ble_eq_true rfl) ⟨by decide, by decide⟩ ⟨rfl, rfl⟩ ?_
  rintro _ _ _ ⟨rfl, rfl, rfl⟩
  rw [hlc]
  refine r_istore (i := 5) (L0 := [(4, _), (0, _), (1, _), (2, _), (3, _)]) dX8_times_12 (by decide) rfl ?_
  refine r_aload_n dX8_times_14 rfl ?_
  refine r_iload_n dX8_times_15 rfl ?_
  refine r_invV dX8_times_16 kX8_116 (c_clear (v := v) h hx ht) rfl rfl (by repeat first | exact wu_eq | assumption | (apply wu_ne; first | omega | assumption | (apply Ne.symm; assumption))) rfl rfl ⟨by decide, by decide⟩ (Nat.le_of_ble_eq_true rfl) ⟨by decide, by decide⟩ ⟨rfl, rfl⟩ ?_
  rintro _ _ _ ⟨rfl, rfl, rfl⟩
  refine r_iconst (v := nI 0) dX8_times_19 (by decide) ?_
  refine r_istore (i := 6) (L0 := [(5, _), (4, _), (0, _), (1, _), (2, _), (3, _)]) dX8_times_20 (by decide) rfl ?_
  have hh := K lb 0 (by omega)
  rw [Nat.pow_zero, Nat.mod_one, Nat.zero_mul] at hh
  exact hh
