/-! the JDK's methods that are called -/
theorem r_max {μ : ab_M} {g : ab_G} {uc us pc N idx : Nat} {L : List (Nat × Value)} {S : List Value} {w : ab_W} {Q : ab_Q} {x y : Int32} (d : decode (mC μ) pc = .ok (.invokestatic idx, 3)) (hV : ab_T (mY μ).cls idx MJ9_max_7cf53 2) (hf : 1 ≤ (mZ μ).frames) (hlo : (S.map fun v => v.category).sum + 13 ≤ (mZ μ).locals) (hc : uc ≤ (mZ μ).cells) (hs : us ≤ (mZ μ).slots) (k : ab_St μ g uc us (pc + 3) L (.int (if x < y then y else x) :: S) N w Q) : ab_St μ g uc us pc L (.int y :: .int x :: S) N w Q := by
  intro p e s m args below meth c Z H locs ls E R hP hS hl
  have hts := E.2.2.2.2.1
  exact va_mmax E.1 E.2.1 (by rw [E.2.2.1, hl.1]) E.2.2.2.1 (hts _ hV.1.1) (hts _ hV.2) (hts _ hV.1.2.2.1) (hts _ hV.1.2.1) hf (by rw [cv_cats]; exact hlo) hc hs d (k p e s m args below meth c Z H locs ls E R hP hS hl)
theorem r_min {μ : ab_M} {g : ab_G} {uc us pc N idx : Nat} {L : List (Nat × Value)} {S : List Value} {w : ab_W} {Q : ab_Q} {x y : Int32} (d : decode (mC μ) pc = .ok (.invokestatic idx, 3)) (hV : ab_T (mY μ).cls idx MJ9_min_7cf53 2) (hf : 1 ≤ (mZ μ).frames) (hlo : (S.map fun v => v.category).sum + 13 ≤ (mZ μ).locals) (hc : uc ≤ (mZ μ).cells) (hs : us ≤ (mZ μ).slots) (k : ab_St μ g uc us (pc + 3) L (.int (if y < x then y else x) :: S) N w Q) : ab_St μ g uc us pc L (.int y :: .int x :: S) N w Q := by
  intro p e s m args below meth c Z H locs ls E R hP hS hl
  have hts := E.2.2.2.2.1
  exact va_mmin E.1 E.2.1 (by rw [E.2.2.1, hl.1]) E.2.2.2.1 (hts _ hV.1.1) (hts _ hV.2) (hts _ hV.1.2.2.1) (hts _ hV.1.2.1) hf (by rw [cv_cats]; exact hlo) hc hs d (k p e s m args below meth c Z H locs ls E R hP hS hl)
theorem r_minN {μ : ab_M} {g : ab_G} {uc us pc N idx : Nat} {L : List (Nat × Value)} {S : List Value} {w : ab_W} {Q : ab_Q} {a b : Nat} (d : decode (mC μ) pc = .ok (.invokestatic idx, 3)) (hV : ab_T (mY μ).cls idx MJ9_min_7cf53 2) (hf : 1 ≤ (mZ μ).frames) (hlo : (S.map fun v => v.category).sum + 13 ≤ (mZ μ).locals) (hc : uc ≤ (mZ μ).cells) (hs : us ≤ (mZ μ).slots) (ha : a < 2147483648) (hb : b < 2147483648) (k : ab_St μ g uc us (pc + 3) L (.int (nI (min a b)) :: S) N w Q) : ab_St μ g uc us pc L (.int (nI b) :: .int (nI a) :: S) N w Q := by
  refine r_min d hV hf hlo hc hs (r_toI ?_ k)
  by_cases h : b < a
  · rw [if_pos ((nI_ltI hb ha).mpr h), Nat.min_eq_right (by omega)]
  · rw [if_neg (fun q => h ((nI_ltI hb ha).mp q)), Nat.min_eq_left (by omega)]
set_option maxRecDepth 100000 in
set_option maxHeartbeats 4000000 in
theorem c_rotr {g : ab_G} {N : Nat} {w : ab_W} (x y : Int32) : ab_Ct MJ6_rotateRight_7cf53 g [.int x, .int y] N w (rp (some (.int (rotr x y))) N w) := by
  refine ab_Ct.of (by decide +kernel) (Nat.le_of_ble_eq_true rfl) (by rintro _ _ _ ⟨rfl, rfl, rfl⟩; trivial) ?_
  show ab_St MJ6_rotateRight_7cf53 g 0 0 0 [(0, .int x), (1, .int y)] [] _ _ _
  refine r_iload_n dJ6_rotateRight_7cf53_0 rfl ?_
  refine r_iload_n dJ6_rotateRight_7cf53_1 rfl ?_
  refine r_iushr dJ6_rotateRight_7cf53_2 ?_
  refine r_iload_n dJ6_rotateRight_7cf53_3 rfl ?_
  refine r_iload_n dJ6_rotateRight_7cf53_4 rfl ?_
  refine r_ineg dJ6_rotateRight_7cf53_5 ?_
  refine r_ishl dJ6_rotateRight_7cf53_6 ?_
  refine r_ior dJ6_rotateRight_7cf53_7 ?_
  refine r_ret (r := (some (.int _))) dJ6_rotateRight_7cf53_8 (by decide) (by decide) ?_
  exact ⟨rfl, rfl, rfl⟩
set_option maxRecDepth 100000 in
set_option maxHeartbeats 4000000 in
theorem c_fill {g : ab_G} {N a n v : Nat} {w : ab_W} (hw : w a = aN n v) (hn : n ≤ 1000) (hv : v < 4294967296 ^ n) : ab_Ct MJ7_fill_d0a16 g [.ref a, .long (lN 0)] N w (rt none N (wu w a (aN n 0))) := by
  refine ab_Ct.of (by decide +kernel) (Nat.le_of_ble_eq_true rfl) (by rintro _ _ _ ⟨rfl, rfl, rfl⟩; trivial) ?_
  show ab_St MJ7_fill_d0a16 g 0 0 0 [(0, .ref a), (1, .long (lN 0))] [] _ _ _
  refine r_iconst (v := nI 0) dJ7_fill_d0a16_0 (by decide) ?_
  refine r_istore_n (i := 3) (L0 := [(0, _), (1, _)]) dJ7_fill_d0a16_1 rfl (by decide) rfl ?_
  refine r_aload_n dJ7_fill_d0a16_2 rfl ?_
  refine r_alen' dJ7_fill_d0a16_3 (by repeat first | exact wu_eq | assumption | (apply wu_ne; first | omega | assumption | (apply Ne.symm; assumption))) (by rfl) ?_
  refine r_istore (i := 4) (L0 := [(3, _), (0, _), (1, _)]) dJ7_fill_d0a16_4 (by decide) rfl ?_
  have K : ∀ k i, i + k = n → ab_St MJ7_fill_d0a16 g 0 0 6 [(3, .int (nI i)), (4, .int (nI n)), (0, .ref a), (1, .long (lN 0))] [] N (wu w a (aJ n (fl i (rJ 0) (rJ v)))) (rt none N (wu w a (aN n 0))) := by
    intro k
    induction k with
    | zero =>
      intro i hi
      refine r_iload_n dJ7_fill_d0a16_6 rfl ?_
      refine r_iload dJ7_fill_d0a16_7 rfl ?_
      first | refine r_icmp_geN (tgt := 22) dJ7_fill_d0a16_9 (by decide) (by omega) (by omega) (fun h9 => ?_) (fun h9 => ?_) | refine r_icmp_ge (tgt := 22) dJ7_fill_d0a16_9 (by decide) (fun h9 => ?_) (fun h9 => ?_)
      · refine r_ret (r := none) dJ7_fill_d0a16_22 (by decide) (by decide) ?_
        refine ⟨rfl, rfl, ?_⟩
        rw [show i = n by omega, fl_end fun k hk => by unfold rJ; rw [dg_big hv hk (by decide), dg_big (n := 0) (v := 0) (by decide) (by omega) (by decide)]]
      · omega
    | succ k ih =>
      intro i hi
      refine r_iload_n dJ7_fill_d0a16_6 rfl ?_
      refine r_iload dJ7_fill_d0a16_7 rfl ?_
      first | refine r_icmp_geN (tgt := 22) dJ7_fill_d0a16_9 (by decide) (by omega) (by omega) (fun h9 => ?_) (fun h9 => ?_) | refine r_icmp_ge (tgt := 22) dJ7_fill_d0a16_9 (by decide) (fun h9 => ?_) (fun h9 => ?_)
      · omega
      · refine r_aload_n dJ7_fill_d0a16_12 rfl ?_
        refine r_iload_n dJ7_fill_d0a16_13 rfl ?_
        refine r_lload_n dJ7_fill_d0a16_14 rfl ?_
        refine r_lastore dJ7_fill_d0a16_15 (by repeat first | exact wu_eq | assumption | (apply wu_ne; first | omega | assumption | (apply Ne.symm; assumption))) _ rfl (by omega) (by omega) ?_
        refine r_iinc (L0 := [(4, _), (0, _), (1, _)]) dJ7_fill_d0a16_16 rfl (by first | exact iinc1 _ | rfl) (by decide) rfl ?_
        refine r_goto (tgt := 6) dJ7_fill_d0a16_19 (by decide) ?_
        rw [wu_wu, fl_up' (f := rJ 0) (show lN 0 = rJ 0 i by unfold rJ dg; simp)]
        refine r_sub [0, 1, 2, 3] rfl ?_
        exact ih (i + 1) (by omega)
  have h := K n 0 (by omega)
  rw [fl_0, wu_self hw] at h
  refine r_sub [1, 0, 2, 3] rfl ?_
  exact h
set_option maxRecDepth 100000 in
set_option maxHeartbeats 4000000 in
theorem c_nlzI {g : ab_G} {N d : Nat} {w : ab_W} (h0 : 0 < d) (h : d < 2147483648) : ab_Ct MJ6_numberOfLeadingZeros_0f7a4 g [.int (nI d)] N w (rp (some (.int (nI (32 - bl d)))) N w) := by
  have hbd : bl d ≤ 31 := bl_le h
  have K73 : ∀ k u, 0 < u → u < 4 → k + bl d = 31 + bl u → ab_St MJ6_numberOfLeadingZeros_0f7a4 g 0 0 73 [(0, .int (nI u)), (1, .int (nI k))] [] N w (rp (some (.int (nI (32 - bl d)))) N w) := by
    intro k u h1 h2 h3
    rw [bl_small h1 h2] at h3
    refine r_iload_n dJ6_numberOfLeadingZeros_0f7a4_73 rfl ?_
    refine r_iload_n dJ6_numberOfLeadingZeros_0f7a4_74 rfl ?_
    refine r_iconst (v := nI 1) dJ6_numberOfLeadingZeros_0f7a4_75 (by decide) ?_
    first | refine r_iushrN 1 (by decide) dJ6_numberOfLeadingZeros_0f7a4_76 (by omega) ?_ | refine r_iushr dJ6_numberOfLeadingZeros_0f7a4_76 ?_
    first | refine r_isubN dJ6_numberOfLeadingZeros_0f7a4_77 (by omega) ?_ | refine r_isub dJ6_numberOfLeadingZeros_0f7a4_77 ?_
    refine r_ret (r := (some (.int _))) dJ6_numberOfLeadingZeros_0f7a4_78 (by decide) (by decide) ?_
    refine ⟨?_, rfl, rfl⟩
    rw [show k - u / 2 ^ 1 = 32 - bl d by omega]
  have K61 : ∀ k u, 0 < u → u < 16 → k + bl d = 31 + bl u → ab_St MJ6_numberOfLeadingZeros_0f7a4 g 0 0 61 [(0, .int (nI u)), (1, .int (nI k))] [] N w (rp (some (.int (nI (32 - bl d)))) N w) := by
    intro k u h1 h2 h3
    refine r_iload_n dJ6_numberOfLeadingZeros_0f7a4_61 rfl ?_
    refine r_iconst (v := nI 4) dJ6_numberOfLeadingZeros_0f7a4_62 (by decide) ?_
    first | refine r_icmp_ltN (tgt := 73) dJ6_numberOfLeadingZeros_0f7a4_63 (by decide) (by omega) (by omega) (fun h63 => ?_) (fun h63 => ?_) | refine r_icmp_lt (tgt := 73) dJ6_numberOfLeadingZeros_0f7a4_63 (by decide) (fun h63 => ?_) (fun h63 => ?_)
    · exact K73 k u h1 (by omega) h3
    · have e := bl_half (u := u) (c := 2) (by omega)
      refine r_iinc (L0 := [(0, _)]) dJ6_numberOfLeadingZeros_0f7a4_66 rfl (iincm 2 (by omega) (by decide)) (by decide) rfl ?_
      refine r_iload_n dJ6_numberOfLeadingZeros_0f7a4_69 rfl ?_
      refine r_iconst (v := nI 2) dJ6_numberOfLeadingZeros_0f7a4_70 (by decide) ?_
      first | refine r_iushrN 2 (by decide) dJ6_numberOfLeadingZeros_0f7a4_71 (by omega) ?_ | refine r_iushr dJ6_numberOfLeadingZeros_0f7a4_71 ?_
      refine r_istore_n (i := 0) (L0 := [(1, _)]) dJ6_numberOfLeadingZeros_0f7a4_72 rfl (by decide) rfl ?_
      exact K73 _ _ (by omega) (by omega) (by omega)
  have K48 : ∀ k u, 0 < u → u < 256 → k + bl d = 31 + bl u → ab_St MJ6_numberOfLeadingZeros_0f7a4 g 0 0 48 [(0, .int (nI u)), (1, .int (nI k))] [] N w (rp (some (.int (nI (32 - bl d)))) N w) := by
    intro k u h1 h2 h3
    refine r_iload_n dJ6_numberOfLeadingZeros_0f7a4_48 rfl ?_
    refine r_bipush (v := nI 16) dJ6_numberOfLeadingZeros_0f7a4_49 (by decide) ?_
    first | refine r_icmp_ltN (tgt := 61) dJ6_numberOfLeadingZeros_0f7a4_51 (by decide) (by omega) (by omega) (fun h51 => ?_) (fun h51 => ?_) | refine r_icmp_lt (tgt := 61) dJ6_numberOfLeadingZeros_0f7a4_51 (by decide) (fun h51 => ?_) (fun h51 => ?_)
    · exact K61 k u h1 (by omega) h3
    · have e := bl_half (u := u) (c := 4) (by omega)
      refine r_iinc (L0 := [(0, _)]) dJ6_numberOfLeadingZeros_0f7a4_54 rfl (iincm 4 (by omega) (by decide)) (by decide) rfl ?_
      refine r_iload_n dJ6_numberOfLeadingZeros_0f7a4_57 rfl ?_
      refine r_iconst (v := nI 4) dJ6_numberOfLeadingZeros_0f7a4_58 (by decide) ?_
      first | refine r_iushrN 4 (by decide) dJ6_numberOfLeadingZeros_0f7a4_59 (by omega) ?_ | refine r_iushr dJ6_numberOfLeadingZeros_0f7a4_59 ?_
      refine r_istore_n (i := 0) (L0 := [(1, _)]) dJ6_numberOfLeadingZeros_0f7a4_60 rfl (by decide) rfl ?_
      exact K61 _ _ (by omega) (by omega) (by omega)
  have K33 : ∀ k u, 0 < u → u < 65536 → k + bl d = 31 + bl u → ab_St MJ6_numberOfLeadingZeros_0f7a4 g 0 0 33 [(0, .int (nI u)), (1, .int (nI k))] [] N w (rp (some (.int (nI (32 - bl d)))) N w) := by
    intro k u h1 h2 h3
    refine r_iload_n dJ6_numberOfLeadingZeros_0f7a4_33 rfl ?_
    refine r_sipush (v := nI 256) dJ6_numberOfLeadingZeros_0f7a4_34 (by decide) ?_
    first | refine r_icmp_ltN (tgt := 48) dJ6_numberOfLeadingZeros_0f7a4_37 (by decide) (by omega) (by omega) (fun h37 => ?_) (fun h37 => ?_) | refine r_icmp_lt (tgt := 48) dJ6_numberOfLeadingZeros_0f7a4_37 (by decide) (fun h37 => ?_) (fun h37 => ?_)
    · exact K48 k u h1 (by omega) h3
    · have e := bl_half (u := u) (c := 8) (by omega)
      refine r_iinc (L0 := [(0, _)]) dJ6_numberOfLeadingZeros_0f7a4_40 rfl (iincm 8 (by omega) (by decide)) (by decide) rfl ?_
      refine r_iload_n dJ6_numberOfLeadingZeros_0f7a4_43 rfl ?_
      refine r_bipush (v := nI 8) dJ6_numberOfLeadingZeros_0f7a4_44 (by decide) ?_
      first | refine r_iushrN 8 (by decide) dJ6_numberOfLeadingZeros_0f7a4_46 (by omega) ?_ | refine r_iushr dJ6_numberOfLeadingZeros_0f7a4_46 ?_
      refine r_istore_n (i := 0) (L0 := [(1, _)]) dJ6_numberOfLeadingZeros_0f7a4_47 rfl (by decide) rfl ?_
      exact K48 _ _ (by omega) (by omega) (by omega)
  refine ab_Ct.of (by decide +kernel) (Nat.le_of_ble_eq_true rfl) (by rintro _ _ _ ⟨rfl, rfl, rfl⟩; trivial) ?_
  show ab_St MJ6_numberOfLeadingZeros_0f7a4 g 0 0 0 [(0, .int (nI d))] [] _ _ _
  refine r_iload_n dJ6_numberOfLeadingZeros_0f7a4_0 rfl ?_
  first | refine r_if_gtN (tgt := 15) dJ6_numberOfLeadingZeros_0f7a4_1 (by decide) (by omega) (fun h1 => ?_) (fun h1 => ?_) | refine r_if_gt (tgt := 15) dJ6_numberOfLeadingZeros_0f7a4_1 (by decide) (fun h1 => ?_) (fun h1 => ?_)
  · refine r_bipush (v := nI 31) dJ6_numberOfLeadingZeros_0f7a4_15 (by decide) ?_
    refine r_istore_n (i := 1) (L0 := [(0, _)]) dJ6_numberOfLeadingZeros_0f7a4_17 rfl (by decide) rfl ?_
    refine r_iload_n dJ6_numberOfLeadingZeros_0f7a4_18 rfl ?_
    refine r_ldc_w dJ6_numberOfLeadingZeros_0f7a4_19 qJ6_264 ?_
    refine r_toI (y := nI 65536) rfl ?_
    first | refine r_icmp_ltN (tgt := 33) dJ6_numberOfLeadingZeros_0f7a4_22 (by decide) (by omega) (by omega) (fun h22 => ?_) (fun h22 => ?_) | refine r_icmp_lt (tgt := 33) dJ6_numberOfLeadingZeros_0f7a4_22 (by decide) (fun h22 => ?_) (fun h22 => ?_)
    · refine r_sub [1, 0] rfl ?_
      exact K33 31 d h0 (by omega) rfl
    · have e := bl_half (u := d) (c := 16) (by omega)
      refine r_iinc (L0 := [(0, _)]) dJ6_numberOfLeadingZeros_0f7a4_25 rfl (iincm 16 (by omega) (by decide)) (by decide) rfl ?_
      refine r_iload_n dJ6_numberOfLeadingZeros_0f7a4_28 rfl ?_
      refine r_bipush (v := nI 16) dJ6_numberOfLeadingZeros_0f7a4_29 (by decide) ?_
      first | refine r_iushrN 16 (by decide) dJ6_numberOfLeadingZeros_0f7a4_31 (by omega) ?_ | refine r_iushr dJ6_numberOfLeadingZeros_0f7a4_31 ?_
      refine r_istore_n (i := 0) (L0 := [(1, _)]) dJ6_numberOfLeadingZeros_0f7a4_32 rfl (by decide) rfl ?_
      exact K33 _ _ (by omega) (by omega) (by omega)
  · omega
set_option maxRecDepth 100000 in
set_option maxHeartbeats 4000000 in
theorem c_nlzN {g : ab_G} {N d : Nat} {w : ab_W} (h0 : 2147483648 ≤ d) (h : d < 4294967296) : ab_Ct MJ6_numberOfLeadingZeros_0f7a4 g [.int (nI d)] N w (rp (some (.int (nI 0))) N w) := by
  have hneg : nI d < 0 := by
    rw [Int32.lt_iff_toInt_lt]
    show (BitVec.ofNat 32 d).toInt < _
    rw [BitVec.toInt_eq_toNat_cond, BitVec.toNat_ofNat, Nat.mod_eq_of_lt (by omega), if_neg (by omega)]
    show (d : Int) - 4294967296 < 0
    omega
  refine ab_Ct.of (by decide +kernel) (Nat.le_of_ble_eq_true rfl) (by rintro _ _ _ ⟨rfl, rfl, rfl⟩; trivial) ?_
  show ab_St MJ6_numberOfLeadingZeros_0f7a4 g 0 0 0 [(0, .int (nI d))] [] _ _ _
  refine r_iload_n dJ6_numberOfLeadingZeros_0f7a4_0 rfl ?_
  refine r_if_gt (tgt := 15) dJ6_numberOfLeadingZeros_0f7a4_1 (by decide) (fun h => absurd h (Int32.not_lt.mpr (Int32.le_of_lt hneg))) (fun h1 => ?_)
  refine r_iload_n dJ6_numberOfLeadingZeros_0f7a4_4 rfl ?_
  refine r_if_ne (tgt := 13) dJ6_numberOfLeadingZeros_0f7a4_5 (by decide) (fun h5 => ?_) (fun h => absurd h (fun q => by rw [q] at hneg; exact absurd hneg (by decide)))
  refine r_iconst (v := nI 0) dJ6_numberOfLeadingZeros_0f7a4_13 (by decide) ?_
  refine r_ret (r := (some (.int _))) dJ6_numberOfLeadingZeros_0f7a4_14 (by decide) (by decide) ?_
  exact ⟨rfl, rfl, rfl⟩
set_option maxRecDepth 100000 in
set_option maxHeartbeats 4000000 in
theorem c_nlzL {g : ab_G} {N d : Nat} {w : ab_W} (h0 : 0 < d) (h : d < 4294967296) : ab_Ct MJ13_numberOfLeadingZeros_95d88 g [.long (lN d)] N w (rp (some (.int (nI (64 - bl d)))) N w) := by
  have hb : bl d ≤ 32 := bl_le h
  refine ab_Ct.of (by decide +kernel) (Nat.le_of_ble_eq_true rfl) (by rintro _ _ _ ⟨rfl, rfl, rfl⟩; trivial) ?_
  show ab_St MJ13_numberOfLeadingZeros_95d88 g 0 0 0 [(0, .long (lN d))] [] _ _ _
  refine r_lload_n dJ13_numberOfLeadingZeros_95d88_0 rfl ?_
  refine r_bipush (v := nI 32) dJ13_numberOfLeadingZeros_95d88_1 (by decide) ?_
  first | refine r_lushrN 32 (by decide) dJ13_numberOfLeadingZeros_95d88_3 (by omega) ?_ | refine r_lushr dJ13_numberOfLeadingZeros_95d88_3 ?_
  first | refine r_l2iN dJ13_numberOfLeadingZeros_95d88_4 ?_ | refine r_l2i dJ13_numberOfLeadingZeros_95d88_4 ?_
  refine r_istore_n (i := 2) (L0 := [(0, _)]) dJ13_numberOfLeadingZeros_95d88_5 rfl (by decide) rfl ?_
  refine r_iload_n dJ13_numberOfLeadingZeros_95d88_6 rfl ?_
  first | refine r_if_neN (tgt := 21) dJ13_numberOfLeadingZeros_95d88_7 (by decide) (by omega) (fun h7 => ?_) (fun h7 => ?_) | refine r_if_ne (tgt := 21) dJ13_numberOfLeadingZeros_95d88_7 (by decide) (fun h7 => ?_) (fun h7 => ?_)
  · omega
  · refine r_bipush (v := nI 32) dJ13_numberOfLeadingZeros_95d88_10 (by decide) ?_
    refine r_lload_n dJ13_numberOfLeadingZeros_95d88_12 rfl ?_
    first | refine r_l2iN dJ13_numberOfLeadingZeros_95d88_13 ?_ | refine r_l2i dJ13_numberOfLeadingZeros_95d88_13 ?_
    rcases Nat.lt_or_ge d 2147483648 with hd | hd
    · refine r_invS dJ13_numberOfLeadingZeros_95d88_14 kJ13_308 (c_nlzI h0 hd) rfl rfl ⟨by decide, by decide⟩ (Nat.le_of_ble_eq_true rfl) ⟨by decide, by decide⟩ ⟨rfl, rfl⟩ ?_
      rintro _ _ _ ⟨rfl, rfl, rfl⟩
      first | refine r_iaddN dJ13_numberOfLeadingZeros_95d88_17 ?_ | refine r_iadd dJ13_numberOfLeadingZeros_95d88_17 ?_
      refine r_goto (tgt := 25) dJ13_numberOfLeadingZeros_95d88_18 (by decide) ?_
      refine r_ret (r := (some (.int _))) dJ13_numberOfLeadingZeros_95d88_25 (by decide) (by decide) ?_
      refine ⟨?_, rfl, rfl⟩
      rw [show 32 + (32 - bl d) = 64 - bl d by omega]
    · have e : bl d = 32 := bl_of hd h
      refine r_invS dJ13_numberOfLeadingZeros_95d88_14 kJ13_308 (c_nlzN hd h) rfl rfl ⟨by decide, by decide⟩ (Nat.le_of_ble_eq_true rfl) ⟨by decide, by decide⟩ ⟨rfl, rfl⟩ ?_
      rintro _ _ _ ⟨rfl, rfl, rfl⟩
      first | refine r_iaddN dJ13_numberOfLeadingZeros_95d88_17 ?_ | refine r_iadd dJ13_numberOfLeadingZeros_95d88_17 ?_
      refine r_goto (tgt := 25) dJ13_numberOfLeadingZeros_95d88_18 (by decide) ?_
      refine r_ret (r := (some (.int _))) dJ13_numberOfLeadingZeros_95d88_25 (by decide) (by decide) ?_
      refine ⟨?_, rfl, rfl⟩
      rw [e]
