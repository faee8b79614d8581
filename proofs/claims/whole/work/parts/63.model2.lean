/-! SignHouseModel: adds, takes, takesSmall, growsSmall, restSmall, shareSmall -/
theorem nI_and16 (n : Nat) : nI n &&& nI 65535 = nI (n % 65536) := by
  rw [nI_mod n, pk_andN (Nat.mod_lt _ (by decide)) 16 (by decide)]
  congr 1
  omega
theorem lN_and16 (n : Nat) : lN n &&& lN 65535 = lN (n % 65536) := by
  rw [wb_mod n]
  have h := wb_mask (n := n % 2 ^ 64) (k := 16) (Nat.mod_lt _ (by decide)) (by decide)
  rw [show (2 : Nat) ^ 16 - 1 = 65535 by decide] at h
  rw [h]
  congr 1
  omega
theorem nI_wrap (n : Nat) : nI (n + 4294967296) = nI n := by
  rw [nI_mod (n + 4294967296), Nat.add_mod_right, ← nI_mod]
theorem nI_sub2 {a b c : Nat} (hb : b < 65536) (hc : c < 65538) : nI a - nI b - nI c = nI (a + 4294967296 - b - c) := by
  rw [← nI_wrap a, pk_sub (by omega), pk_sub (by omega)]
theorem nI_subw {a b : Nat} (hb : b < 65538) : nI a - nI b = nI (a + 4294967296 - b) := by
  rw [← nI_wrap a, pk_sub (by omega)]
theorem nI_neg {x : Nat} (h1 : 2147483648 ≤ x) (h2 : x < 4294967296) : nI x < 0 := by
  rw [Int32.lt_iff_toInt_lt]
  show (BitVec.ofNat 32 x).toInt < 0
  rw [BitVec.toInt_eq_toNat_cond, BitVec.toNat_ofNat, Nat.mod_eq_of_lt (by omega), if_neg (by omega)]
  omega
theorem nI_nneg {x : Nat} (h1 : 4294967296 ≤ x) (h2 : x < 6442450944) : (0 : Int32) ≤ nI x := by
  obtain ⟨y, rfl⟩ : ∃ y, x = y + 4294967296 := ⟨x - 4294967296, by omega⟩
  rw [nI_wrap]
  exact nI_pos' (by omega)
set_option maxRecDepth 100000 in
set_option maxHeartbeats 4000000 in
theorem c_adds {g : ab_G} {N a b : Nat} {v : Nat → Nat} {fs : List Value} {w : ab_W} (h : w 74 = mdX fs) (hx : w 75 = xA v) (ha : a < 19) (hb : b < 19) (hn : b ≠ a) (hv : bnd (v a + v b)) : ab_Ct MX8_adds g [.ref 74, .int (nI a), .int (nI b)] N w (rt none N (wu w 75 (xA (us v a (v a + v b))))) := by
  have K : ∀ z i, i + z = 84 → ab_St MX8_adds g 0 0 5 [(4, .int (nI i)), (3, .int (nI (ca6 (v a) (v b) i))), (0, .ref 74), (1, .int (nI a)), (2, .int (nI b))] [] N (wu w 75 (xB v a (fl i (dg 65536 (v a + v b)) (dg 65536 (v a))))) (rt none N (wu w 75 (xA (us v a (v a + v b))))) := by
    intro z
    induction z with
    | zero =>
      intro i hi
      obtain rfl : i = 84 := by omega
      unfold xB
      rw [xw_fl]
      refine r_iload dX8_adds_5 rfl ?_
      refine r_bipush (v := nI 84) dX8_adds_7 (by decide) ?_
      first | refine r_icmp_geN (tgt := 70) dX8_adds_9 (by decide) (by omega) (by omega) (fun h9 => ?_) (fun h9 => ?_) | refine r_icmp_ge (tgt := 70) dX8_adds_9 (by decide) (fun h9 => ?_) (fun h9 => ?_)
      · refine r_ret (r := none) dX8_adds_70 (by decide) (by decide) ?_
        exact ⟨rfl, rfl, rfl⟩
      · omega
    | succ z ih =>
      intro i hi
      have hda := dg6_lt (v a) i
      have hdb := dg6_lt (v b) i
      have hc := ca6_le (v a) (v b) i
      have e1 := ca6_dg (v a) (v b) i
      have e2 := ca6_succ (v a) (v b) i
      refine r_iload dX8_adds_5 rfl ?_
      refine r_bipush (v := nI 84) dX8_adds_7 (by decide) ?_
      first | refine r_icmp_geN (tgt := 70) dX8_adds_9 (by decide) (by omega) (by omega) (fun h9 => ?_) (fun h9 => ?_) | refine r_icmp_ge (tgt := 70) dX8_adds_9 (by decide) (fun h9 => ?_) (fun h9 => ?_)
      · omega
      · refine r_aload_n dX8_adds_12 rfl ?_
        refine r_getf dX8_adds_13 fX8_7 (by repeat first | exact wu_eq | assumption | (apply wu_ne; first | omega | assumption | (apply Ne.symm; assumption))) (by rfl) ?_
        refine r_bipush (v := nI 84) dX8_adds_16 (by decide) ?_
        refine r_iload_n dX8_adds_18 rfl ?_
        first | refine r_imulN dX8_adds_19 ?_ | refine r_imul dX8_adds_19 ?_
        refine r_iload dX8_adds_20 rfl ?_
        first | refine r_iaddN dX8_adds_22 ?_ | refine r_iadd dX8_adds_22 ?_
        refine r_xlS (s := a) (k := i) dX8_adds_23 (by repeat first | exact wu_eq | assumption | (apply wu_ne; first | omega | assumption | (apply Ne.symm; assumption))) (congrArg nI (by omega)) (by omega) (by omega) ?_
        rw [fl_hi (Nat.le_refl i)]
        refine r_aload_n dX8_adds_24 rfl ?_
        refine r_getf dX8_adds_25 fX8_7 (by repeat first | exact wu_eq | assumption | (apply wu_ne; first | omega | assumption | (apply Ne.symm; assumption))) (by rfl) ?_
        refine r_bipush (v := nI 84) dX8_adds_28 (by decide) ?_
        refine r_iload_n dX8_adds_30 rfl ?_
        first | refine r_imulN dX8_adds_31 ?_ | refine r_imul dX8_adds_31 ?_
        refine r_iload dX8_adds_32 rfl ?_
        first | refine r_iaddN dX8_adds_34 ?_ | refine r_iadd dX8_adds_34 ?_
        refine r_xlO (s := b) (k := i) dX8_adds_35 (by repeat first | exact wu_eq | assumption | (apply wu_ne; first | omega | assumption | (apply Ne.symm; assumption))) (congrArg nI (by omega)) (by omega) (by omega) (by first | assumption | omega) ?_
        first | refine r_iaddN dX8_adds_36 ?_ | refine r_iadd dX8_adds_36 ?_
        refine r_iload_n dX8_adds_37 rfl ?_
        first | refine r_iaddN dX8_adds_38 ?_ | refine r_iadd dX8_adds_38 ?_
        refine r_istore (i := 5) (L0 := [(4, _), (3, _), (0, _), (1, _), (2, _)]) dX8_adds_39 (by decide) rfl ?_
        refine r_aload_n dX8_adds_41 rfl ?_
        refine r_getf dX8_adds_42 fX8_7 (by repeat first | exact wu_eq | assumption | (apply wu_ne; first | omega | assumption | (apply Ne.symm; assumption))) (by rfl) ?_
        refine r_bipush (v := nI 84) dX8_adds_45 (by decide) ?_
        refine r_iload_n dX8_adds_47 rfl ?_
        first | refine r_imulN dX8_adds_48 ?_ | refine r_imul dX8_adds_48 ?_
        refine r_iload dX8_adds_49 rfl ?_
        first | refine r_iaddN dX8_adds_51 ?_ | refine r_iadd dX8_adds_51 ?_
        refine r_iload dX8_adds_52 rfl ?_
        refine r_ldc dX8_adds_54 qX8_124 ?_
        refine r_toI (y := nI 65535) rfl ?_
        refine r_iand dX8_adds_56 ?_
        rw [nI_and16]
        refine r_xs (s := a) (k := i) dX8_adds_57 (by repeat first | exact wu_eq | assumption | (apply wu_ne; first | omega | assumption | (apply Ne.symm; assumption))) (congrArg nI (by omega)) (by omega) (by omega) ?_
        refine r_iload dX8_adds_58 rfl ?_
        refine r_bipush (v := nI 16) dX8_adds_60 (by decide) ?_
        first | refine r_ishrN 16 (by decide) dX8_adds_62 (by omega) ?_ | refine r_ishr dX8_adds_62 ?_
        refine r_istore_n (i := 3) (L0 := [(5, _), (4, _), (0, _), (1, _), (2, _)]) dX8_adds_63 rfl (by decide) rfl ?_
        refine r_iinc (L0 := [(3, _), (5, _), (0, _), (1, _), (2, _)]) dX8_adds_64 rfl (by first | exact iinc1 _ | rfl) (by decide) rfl ?_
        refine r_goto (tgt := 5) dX8_adds_67 (by decide) ?_
        rw [wu_wu, e1, fl_up, show 2 ^ 16 = 65536 by decide, e2]
        refine r_sub [0, 1, 3, 4, 5] rfl ?_
        exact ih (i + 1) (by omega)
  refine ab_Ct.of (by decide +kernel) (Nat.le_of_ble_eq_true rfl) (by rintro _ _ _ ⟨rfl, rfl, rfl⟩; trivial) ?_
  show ab_St MX8_adds g 0 0 0 [(0, .ref 74), (1, .int (nI a)), (2, .int (nI b))] [] _ _ _
  refine r_iconst (v := nI 0) dX8_adds_0 (by decide) ?_
  refine r_istore_n (i := 3) (L0 := [(0, _), (1, _), (2, _)]) dX8_adds_1 rfl (by decide) rfl ?_
  refine r_iconst (v := nI 0) dX8_adds_2 (by decide) ?_
  refine r_istore (i := 4) (L0 := [(3, _), (0, _), (1, _), (2, _)]) dX8_adds_3 (by decide) rfl ?_
  have hh := K 84 0 (by omega)
  rw [xw_start hx, ca6_0] at hh
  exact hh
set_option maxRecDepth 100000 in
set_option maxHeartbeats 4000000 in
theorem c_takes {g : ab_G} {N a b : Nat} {v : Nat → Nat} {fs : List Value} {w : ab_W} (h : w 74 = mdX fs) (hx : w 75 = xA v) (ha : a < 19) (hb : b < 19) (hn : b ≠ a) (hv : bnd (v a)) (hle : v b ≤ v a) : ab_Ct MX8_takes g [.ref 74, .int (nI a), .int (nI b)] N w (rt none N (wu w 75 (xA (us v a (v a - v b))))) := by
  have hvb : v b < 65536 ^ 84 := hv.le hle
  have hva : v a < 65536 ^ 84 := hv
  have hsub : (v a + 65536 ^ 84 - v b) % 65536 ^ 84 = v a - v b := by
    generalize 65536 ^ 84 = Z at *
    rw [show v a + Z - v b = v a - v b + Z by omega, Nat.add_mod_right, Nat.mod_eq_of_lt (by omega)]
  have hdg := fun i (hi : i < 84) => bo6_dg (va := v a) (vb := v b) (n := 84) (i := i) hi hvb
  rw [hsub] at hdg
  clear hsub hva hvb
  have K : ∀ z i, i + z = 84 → ab_St MX8_takes g 0 0 5 [(4, .int (nI i)), (3, .int (nI (bo6 (v a) (v b) i))), (0, .ref 74), (1, .int (nI a)), (2, .int (nI b))] [] N (wu w 75 (xB v a (fl i (dg 65536 (v a - v b)) (dg 65536 (v a))))) (rt none N (wu w 75 (xA (us v a (v a - v b))))) := by
    intro z
    induction z with
    | zero =>
      intro i hi
      obtain rfl : i = 84 := by omega
      unfold xB
      rw [xw_fl]
      refine r_iload dX8_takes_5 rfl ?_
      refine r_bipush (v := nI 84) dX8_takes_7 (by decide) ?_
      first | refine r_icmp_geN (tgt := 75) dX8_takes_9 (by decide) (by omega) (by omega) (fun h9 => ?_) (fun h9 => ?_) | refine r_icmp_ge (tgt := 75) dX8_takes_9 (by decide) (fun h9 => ?_) (fun h9 => ?_)
      · refine r_ret (r := none) dX8_takes_75 (by decide) (by decide) ?_
        exact ⟨rfl, rfl, rfl⟩
      · omega
    | succ z ih =>
      intro i hi
      have hda := dg6_lt (v a) i
      have hdb := dg6_lt (v b) i
      have hc := bo6_le (v a) (v b) i
      have e1 := hdg i (by omega)
      have e2 := bo6_succ (v a) (v b) i
      have ih1 := ih (i + 1) (by omega)
      rw [e2] at ih1
      refine r_iload dX8_takes_5 rfl ?_
      refine r_bipush (v := nI 84) dX8_takes_7 (by decide) ?_
      first | refine r_icmp_geN (tgt := 75) dX8_takes_9 (by decide) (by omega) (by omega) (fun h9 => ?_) (fun h9 => ?_) | refine r_icmp_ge (tgt := 75) dX8_takes_9 (by decide) (fun h9 => ?_) (fun h9 => ?_)
      · omega
      · refine r_aload_n dX8_takes_12 rfl ?_
        refine r_getf dX8_takes_13 fX8_7 (by repeat first | exact wu_eq | assumption | (apply wu_ne; first | omega | assumption | (apply Ne.symm; assumption))) (by rfl) ?_
        refine r_bipush (v := nI 84) dX8_takes_16 (by decide) ?_
        refine r_iload_n dX8_takes_18 rfl ?_
        first | refine r_imulN dX8_takes_19 ?_ | refine r_imul dX8_takes_19 ?_
        refine r_iload dX8_takes_20 rfl ?_
        first | refine r_iaddN dX8_takes_22 ?_ | refine r_iadd dX8_takes_22 ?_
        refine r_xlS (s := a) (k := i) dX8_takes_23 (by repeat first | exact wu_eq | assumption | (apply wu_ne; first | omega | assumption | (apply Ne.symm; assumption))) (congrArg nI (by omega)) (by omega) (by omega) ?_
        rw [fl_hi (Nat.le_refl i)]
        refine r_aload_n dX8_takes_24 rfl ?_
        refine r_getf dX8_takes_25 fX8_7 (by repeat first | exact wu_eq | assumption | (apply wu_ne; first | omega | assumption | (apply Ne.symm; assumption))) (by rfl) ?_
        refine r_bipush (v := nI 84) dX8_takes_28 (by decide) ?_
        refine r_iload_n dX8_takes_30 rfl ?_
        first | refine r_imulN dX8_takes_31 ?_ | refine r_imul dX8_takes_31 ?_
        refine r_iload dX8_takes_32 rfl ?_
        first | refine r_iaddN dX8_takes_34 ?_ | refine r_iadd dX8_takes_34 ?_
        refine r_xlO (s := b) (k := i) dX8_takes_35 (by repeat first | exact wu_eq | assumption | (apply wu_ne; first | omega | assumption | (apply Ne.symm; assumption))) (congrArg nI (by omega)) (by omega) (by omega) (by first | assumption | omega) ?_
        refine r_isub dX8_takes_36 ?_
        refine r_iload_n dX8_takes_37 rfl ?_
        refine r_isub dX8_takes_38 ?_
        rw [nI_sub2 hdb (by omega)]
        refine r_istore (i := 5) (L0 := [(4, _), (3, _), (0, _), (1, _), (2, _)]) dX8_takes_39 (by decide) rfl ?_
        refine r_aload_n dX8_takes_41 rfl ?_
        refine r_getf dX8_takes_42 fX8_7 (by repeat first | exact wu_eq | assumption | (apply wu_ne; first | omega | assumption | (apply Ne.symm; assumption))) (by rfl) ?_
        refine r_bipush (v := nI 84) dX8_takes_45 (by decide) ?_
        refine r_iload_n dX8_takes_47 rfl ?_
        first | refine r_imulN dX8_takes_48 ?_ | refine r_imul dX8_takes_48 ?_
        refine r_iload dX8_takes_49 rfl ?_
        first | refine r_iaddN dX8_takes_51 ?_ | refine r_iadd dX8_takes_51 ?_
        refine r_iload dX8_takes_52 rfl ?_
        refine r_ldc dX8_takes_54 qX8_124 ?_
        refine r_toI (y := nI 65535) rfl ?_
        refine r_iand dX8_takes_56 ?_
        rw [nI_and16]
        refine r_xs (s := a) (k := i) dX8_takes_57 (by repeat first | exact wu_eq | assumption | (apply wu_ne; first | omega | assumption | (apply Ne.symm; assumption))) (congrArg nI (by omega)) (by omega) (by omega) ?_
        refine r_iload dX8_takes_58 rfl ?_
        rw [wu_wu, e1, fl_up]
        by_cases hlt : dg 65536 (v a) i < dg 65536 (v b) i + bo6 (v a) (v b) i
        · rw [if_pos hlt] at ih1
          refine r_if_ge (tgt := 67) dX8_takes_60 (by decide) (fun q => absurd (nI_neg (by omega) (by omega)) (Int32.not_lt.mpr q)) (fun _ => ?_)
          refine r_iconst (v := nI 1) dX8_takes_63 (by decide) ?_
          refine r_goto (tgt := 68) dX8_takes_64 (by decide) ?_
          refine r_istore_n (i := 3) (L0 := [(5, _), (4, _), (0, _), (1, _), (2, _)]) dX8_takes_68 rfl (by decide) rfl ?_
          refine r_iinc (L0 := [(3, _), (5, _), (0, _), (1, _), (2, _)]) dX8_takes_69 rfl (by first | exact iinc1 _ | rfl) (by decide) rfl ?_
          refine r_goto (tgt := 5) dX8_takes_72 (by decide) ?_
          refine r_sub [0, 1, 3, 4, 5] rfl ?_
          exact ih1
        · rw [if_neg hlt] at ih1
          refine r_if_ge (tgt := 67) dX8_takes_60 (by decide) (fun _ => ?_) (fun q => absurd (nI_nneg (by omega) (by omega)) q)
          refine r_iconst (v := nI 0) dX8_takes_67 (by decide) ?_
          refine r_istore_n (i := 3) (L0 := [(5, _), (4, _), (0, _), (1, _), (2, _)]) dX8_takes_68 rfl (by decide) rfl ?_
          refine r_iinc (L0 := [(3, _), (5, _), (0, _), (1, _), (2, _)]) dX8_takes_69 rfl (by first | exact iinc1 _ | rfl) (by decide) rfl ?_
          refine r_goto (tgt := 5) dX8_takes_72 (by decide) ?_
          refine r_sub [0, 1, 3, 4, 5] rfl ?_
          exact ih1
  refine ab_Ct.of (by decide +kernel) (Nat.le_of_ble_eq_true rfl) (by rintro _ _ _ ⟨rfl, rfl, rfl⟩; trivial) ?_
  show ab_St MX8_takes g 0 0 0 [(0, .ref 74), (1, .int (nI a)), (2, .int (nI b))] [] _ _ _
  refine r_iconst (v := nI 0) dX8_takes_0 (by decide) ?_
  refine r_istore_n (i := 3) (L0 := [(0, _), (1, _), (2, _)]) dX8_takes_1 rfl (by decide) rfl ?_
  refine r_iconst (v := nI 0) dX8_takes_2 (by decide) ?_
  refine r_istore (i := 4) (L0 := [(3, _), (0, _), (1, _), (2, _)]) dX8_takes_3 (by decide) rfl ?_
  have hh := K 84 0 (by omega)
  rw [xw_start hx, bo6_0] at hh
  exact hh
/-- the borrow of a small number -/
theorem dg_small {y i : Nat} (hy : y < 65536) : dg 65536 y i = if i = 0 then y else 0 := by
  unfold dg
  by_cases h0 : i = 0
  · rw [if_pos h0, h0, Nat.pow_zero, Nat.div_one, Nat.mod_eq_of_lt hy]
  · rw [if_neg h0, Nat.div_eq_of_lt, Nat.zero_mod]
    exact Nat.lt_of_lt_of_le hy (Nat.le_trans (by decide : 65536 ≤ 65536 ^ 1) (Nat.pow_le_pow_right (by decide) (by omega)))
set_option maxRecDepth 100000 in
set_option maxHeartbeats 4000000 in
theorem c_takesSmall {g : ab_G} {N a y : Nat} {v : Nat → Nat} {fs : List Value} {w : ab_W} (h : w 74 = mdX fs) (hx : w 75 = xA v) (ha : a < 19) (hv : bnd (v a)) (hy : y < 65536) (hle : y ≤ v a) : ab_Ct MX8_takesSmall g [.ref 74, .int (nI a), .int (nI y)] N w (rt none N (wu w 75 (xA (us v a (v a - y))))) := by
  have hy84 : y < 65536 ^ 84 := hv.le hle
  have hva : v a < 65536 ^ 84 := hv
  have hsub : (v a + 65536 ^ 84 - y) % 65536 ^ 84 = v a - y := by
    generalize 65536 ^ 84 = Z at *
    rw [show v a + Z - y = v a - y + Z by omega, Nat.add_mod_right, Nat.mod_eq_of_lt (by omega)]
  have hdg := fun i (hi : i < 84) => bo6_dg (va := v a) (vb := y) (n := 84) (i := i) hi hy84
  rw [hsub] at hdg
  have hend : bo6 (v a) y 84 = 0 := by rw [bo6_end hv hy84, if_neg (by omega)]
  clear hsub hva hy84
  -- what the borrow at limb i is
  have hb : ∀ i, (if i = 0 then y else bo6 (v a) y i) = dg 65536 y i + bo6 (v a) y i := fun i => by
    rw [dg_small hy]
    by_cases h0 : i = 0
    · rw [if_pos h0, if_pos h0, h0, bo6_0, Nat.add_zero]
    · rw [if_neg h0, if_neg h0, Nat.zero_add]
  have K : ∀ z i, i + z = 84 → ab_St MX8_takesSmall g 0 0 5 [(4, .int (nI i)), (3, .int (nI (if i = 0 then y else bo6 (v a) y i))), (0, .ref 74), (1, .int (nI a)), (2, .int (nI y))] [] N (wu w 75 (xB v a (fl i (dg 65536 (v a - y)) (dg 65536 (v a))))) (rt none N (wu w 75 (xA (us v a (v a - y))))) := by
    intro z
    induction z with
    | zero =>
      intro i hi
      obtain rfl : i = 84 := by omega
      unfold xB
      rw [xw_fl]
      refine r_iload dX8_takesSmall_5 rfl ?_
      refine r_bipush (v := nI 84) dX8_takesSmall_7 (by decide) ?_
      first | refine r_icmp_geN (tgt := 66) dX8_takesSmall_9 (by decide) (by omega) (by omega) (fun h9 => ?_) (fun h9 => ?_) | refine r_icmp_ge (tgt := 66) dX8_takesSmall_9 (by decide) (fun h9 => ?_) (fun h9 => ?_)
      · refine r_ret (r := none) dX8_takesSmall_66 (by decide) (by decide) ?_
        exact ⟨rfl, rfl, rfl⟩
      · omega
    | succ z ih =>
      intro i hi
      have hda := dg6_lt (v a) i
      have hc := bo6_le (v a) y i
      have e1 := hdg i (by omega)
      have e2 := bo6_succ (v a) y i
      have ih1 := ih (i + 1) (by omega)
      rw [if_neg (by omega), e2] at ih1
      rw [hb i]
      have hdy : dg 65536 y i ≤ y := by rw [dg_small hy]; split <;> omega
      have hc2 : dg 65536 y i + bo6 (v a) y i < 65538 := by omega
      have e1' : (dg 65536 (v a) i + 4294967296 - (dg 65536 y i + bo6 (v a) y i)) % 65536 = dg 65536 (v a - y) i := by rw [← e1]; congr 1; omega
      -- no borrow left: the rest stands
      have hstop : dg 65536 y i + bo6 (v a) y i = 0 → 0 < i → ∀ k, i ≤ k → k < 84 → dg 65536 (v a - y) k = dg 65536 (v a) k := by
        intro h0 hi0 k hk hk2
        have hz : ∀ j, i ≤ j → bo6 (v a) y j = 0 := by
          intro j hj
          obtain ⟨t, rfl⟩ : ∃ t, j = i + t := ⟨j - i, by omega⟩
          clear hj
          induction t with
          | zero =>
            rw [Nat.add_zero]
            omega
          | succ t iht =>
            rw [← Nat.add_assoc, bo6_succ, iht, dg_small hy, if_neg (by omega : ¬ i + t = 0), if_neg (by omega)]
        have e4 := hdg k hk2
        have hdk := dg6_lt (v a) k
        rw [hz k hk, dg_small hy, if_neg (by omega : ¬ k = 0)] at e4
        rw [← e4]
        omega
      have hfirst : dg 65536 y 0 = y := by rw [dg_small hy, if_pos rfl]
      have hb0 := bo6_0 (v a) y
      refine r_iload dX8_takesSmall_5 rfl ?_
      refine r_bipush (v := nI 84) dX8_takesSmall_7 (by decide) ?_
      first | refine r_icmp_geN (tgt := 66) dX8_takesSmall_9 (by decide) (by omega) (by omega) (fun h9 => ?_) (fun h9 => ?_) | refine r_icmp_ge (tgt := 66) dX8_takesSmall_9 (by decide) (fun h9 => ?_) (fun h9 => ?_)
      · omega
      · refine r_iload_n dX8_takesSmall_12 rfl ?_
        first | refine r_if_leN (tgt := 66) dX8_takesSmall_13 (by decide) (by omega) (fun h13 => ?_) (fun h13 => ?_) | refine r_if_le (tgt := 66) dX8_takesSmall_13 (by decide) (fun h13 => ?_) (fun h13 => ?_)
        · refine r_ret (r := none) dX8_takesSmall_66 (by decide) (by decide) ?_
          have hfin : fl i (dg 65536 (v a - y)) (dg 65536 (v a)) = fl 84 (dg 65536 (v a - y)) (dg 65536 (v a)) := by
            funext k
            unfold fl
            by_cases q1 : k < i
            · rw [if_pos q1, if_pos (by omega)]
            · rw [if_neg q1]
              by_cases q2 : k < 84
              · rw [if_pos q2]
                by_cases q3 : 0 < i
                · exact (hstop (by omega) q3 k (by omega) q2).symm
                · obtain rfl : i = 0 := by omega
                  have y0 : y = 0 := by omega
                  rw [y0, Nat.sub_zero]
              · rw [if_neg q2]
          rw [hfin]
          unfold xB
          rw [xw_fl]
          exact ⟨rfl, rfl, rfl⟩
        · refine r_aload_n dX8_takesSmall_16 rfl ?_
          refine r_getf dX8_takesSmall_17 fX8_7 (by repeat first | exact wu_eq | assumption | (apply wu_ne; first | omega | assumption | (apply Ne.symm; assumption))) (by rfl) ?_
          refine r_bipush (v := nI 84) dX8_takesSmall_20 (by decide) ?_
          refine r_iload_n dX8_takesSmall_22 rfl ?_
          first | refine r_imulN dX8_takesSmall_23 ?_ | refine r_imul dX8_takesSmall_23 ?_
          refine r_iload dX8_takesSmall_24 rfl ?_
          first | refine r_iaddN dX8_takesSmall_26 ?_ | refine r_iadd dX8_takesSmall_26 ?_
          refine r_xlS (s := a) (k := i) dX8_takesSmall_27 (by repeat first | exact wu_eq | assumption | (apply wu_ne; first | omega | assumption | (apply Ne.symm; assumption))) (congrArg nI (by omega)) (by omega) (by omega) ?_
          rw [fl_hi (Nat.le_refl i)]
          refine r_iload_n dX8_takesSmall_28 rfl ?_
          refine r_isub dX8_takesSmall_29 ?_
          rw [nI_subw hc2]
          refine r_istore (i := 5) (L0 := [(4, _), (3, _), (0, _), (1, _), (2, _)]) dX8_takesSmall_30 (by decide) rfl ?_
          refine r_aload_n dX8_takesSmall_32 rfl ?_
          refine r_getf dX8_takesSmall_33 fX8_7 (by repeat first | exact wu_eq | assumption | (apply wu_ne; first | omega | assumption | (apply Ne.symm; assumption))) (by rfl) ?_
          refine r_bipush (v := nI 84) dX8_takesSmall_36 (by decide) ?_
          refine r_iload_n dX8_takesSmall_38 rfl ?_
          first | refine r_imulN dX8_takesSmall_39 ?_ | refine r_imul dX8_takesSmall_39 ?_
          refine r_iload dX8_takesSmall_40 rfl ?_
          first | refine r_iaddN dX8_takesSmall_42 ?_ | refine r_iadd dX8_takesSmall_42 ?_
          refine r_iload dX8_takesSmall_43 rfl ?_
          refine r_ldc dX8_takesSmall_45 qX8_124 ?_
          refine r_toI (y := nI 65535) rfl ?_
          refine r_iand dX8_takesSmall_47 ?_
          rw [nI_and16]
          refine r_xs (s := a) (k := i) dX8_takesSmall_48 (by repeat first | exact wu_eq | assumption | (apply wu_ne; first | omega | assumption | (apply Ne.symm; assumption))) (congrArg nI (by omega)) (by omega) (by omega) ?_
          refine r_iload dX8_takesSmall_49 rfl ?_
          rw [wu_wu, e1', fl_up]
          by_cases hlt : dg 65536 (v a) i < dg 65536 y i + bo6 (v a) y i
          · rw [if_pos hlt] at ih1
            refine r_if_ge (tgt := 58) dX8_takesSmall_51 (by decide) (fun q => absurd (nI_neg (by omega) (by omega)) (Int32.not_lt.mpr q)) (fun _ => ?_)
            refine r_iconst (v := nI 1) dX8_takesSmall_54 (by decide) ?_
            refine r_goto (tgt := 59) dX8_takesSmall_55 (by decide) ?_
            refine r_istore_n (i := 3) (L0 := [(5, _), (4, _), (0, _), (1, _), (2, _)]) dX8_takesSmall_59 rfl (by decide) rfl ?_
            refine r_iinc (L0 := [(3, _), (5, _), (0, _), (1, _), (2, _)]) dX8_takesSmall_60 rfl (by first | exact iinc1 _ | rfl) (by decide) rfl ?_
            refine r_goto (tgt := 5) dX8_takesSmall_63 (by decide) ?_
            refine r_sub [0, 1, 3, 4, 5] rfl ?_
            exact ih1
          · rw [if_neg hlt] at ih1
            refine r_if_ge (tgt := 58) dX8_takesSmall_51 (by decide) (fun _ => ?_) (fun q => absurd (nI_nneg (by omega) (by omega)) q)
            refine r_iconst (v := nI 0) dX8_takesSmall_58 (by decide) ?_
            refine r_istore_n (i := 3) (L0 := [(5, _), (4, _), (0, _), (1, _), (2, _)]) dX8_takesSmall_59 rfl (by decide) rfl ?_
            refine r_iinc (L0 := [(3, _), (5, _), (0, _), (1, _), (2, _)]) dX8_takesSmall_60 rfl (by first | exact iinc1 _ | rfl) (by decide) rfl ?_
            refine r_goto (tgt := 5) dX8_takesSmall_63 (by decide) ?_
            refine r_sub [0, 1, 3, 4, 5] rfl ?_
            exact ih1
  refine ab_Ct.of (by decide +kernel) (Nat.le_of_ble_eq_true rfl) (by rintro _ _ _ ⟨rfl, rfl, rfl⟩; trivial) ?_
  show ab_St MX8_takesSmall g 0 0 0 [(0, .ref 74), (1, .int (nI a)), (2, .int (nI y))] [] _ _ _
  refine r_iload_n dX8_takesSmall_0 rfl ?_
  refine r_istore_n (i := 3) (L0 := [(0, _), (1, _), (2, _)]) dX8_takesSmall_1 rfl (by decide) rfl ?_
  refine r_iconst (v := nI 0) dX8_takesSmall_2 (by decide) ?_
  refine r_istore (i := 4) (L0 := [(3, _), (0, _), (1, _), (2, _)]) dX8_takesSmall_3 (by decide) rfl ?_
  have hh := K 84 0 (by omega)
  rw [xw_start hx, if_pos rfl] at hh
  refine r_sub [0, 1, 2, 3, 4] rfl ?_
  exact hh
